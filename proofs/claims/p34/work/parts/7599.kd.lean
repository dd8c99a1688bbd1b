/-! PART 7599.kd: printed by wip/gen/kd36.py -/
/-- what only few calls of the class write: not the spare board, the steps, the course, what was found, the trace -/
def kdP (r k : Nat) : Bool := (Nat.ble 1 r && Nat.ble r 26) || (r == 0 && k == 2) || Nat.ble 54 r
def kdR (r : Nat) : Bool := Nat.ble r 26 || Nat.ble 54 r
def KD (σ σ' : SG) : Prop := ∀ r k, kdP r k = true → σ' r k = σ r k
theorem kd_refl (σ : SG) : KD σ σ := fun _ _ _ => rfl
theorem kd_trans {σ σ1 σ2 : SG} (h : KD σ σ1) (h' : KD σ1 σ2) : KD σ σ2 := fun r k p => (h' r k p).trans (h r k p)
theorem kd_lit {σ : SG} {r k : Nat} {v : Int32} (h : kdP r k = false) : KD σ (s2 σ r k v) := fun a b p => by
  rw [s2_at]
  by_cases e : a = r
  · by_cases e' : b = k
    · rw [e, e', h] at p; cases p
    · rw [if_pos e, if_neg e', e]
  · rw [if_neg e]
theorem kd_rows {r k : Nat} (h : kdR r = false) : kdP r k = false := by
  cases e : kdP r k with
  | false => rfl
  | true =>
    exfalso
    simp only [kdP, kdR, Bool.or_eq_true, Bool.and_eq_true, Bool.or_eq_false_iff, beq_iff_eq] at e h
    obtain ⟨h1, h2⟩ := h
    rcases e with (⟨-, e⟩ | ⟨e, -⟩) | e
    · rw [e] at h1; cases h1
    · rw [e] at h1; cases h1
    · rw [e] at h2; cases h2
theorem kd_row {σ : SG} {r k : Nat} {v : Int32} (h : kdR r = false) : KD σ (s2 σ r k v) := kd_lit (kd_rows h)
theorem kd_cpy {σ : SG} {a r n : Nat} (h : kdR r = false) : KD σ (cpy σ a r n) := fun x b p => by
  rw [cpy_at]
  by_cases e : x = r
  · rw [e, kd_rows h] at p; cases p
  · rw [if_neg e]
theorem kp_tr_kd {o : Option SG} {σ σ1 : SG} (h : kp o (fun q => KD σ1 q)) (k : KD σ σ1) : kp o (fun q => KD σ q) := kp_mono h (fun _ z => kd_trans k z)
theorem kp_tr2_kd {α : Type} {o : Option (α × SG)} {σ σ1 : SG} (h : kp o (fun q => KD σ1 q.2)) (k : KD σ σ1) : kp o (fun q => KD σ q.2) := kp_mono h (fun _ z => kd_trans k z)
theorem kp_tr3_kd {α β : Type} {o : Option (α × SG × β)} {σ σ1 : SG} (h : kp o (fun q => KD σ1 q.2.1)) (k : KD σ σ1) : kp o (fun q => KD σ q.2.1) := kp_mono h (fun _ z => kd_trans k z)
theorem kd_lx {σ : SG} {i k : Nat} {v : Int32} (h : isLx i = true) : KD σ (s2 σ i k v) := by
  have hd : ∀ i : Fin 65, isLx i = true → kdR i = false := by decide
  exact kd_row (hd ⟨i, isLb_lt (isLx_b h)⟩ h)
theorem kd_lx1 {σ : SG} {i k : Nat} {v : Int32} (h : isLx i = true) : KD σ (s2 σ (i + 1) k v) := by
  have hd : ∀ i : Fin 65, isLx i = true → kdR (i + 1) = false := by decide
  exact kd_row (hd ⟨i, isLb_lt (isLx_b h)⟩ h)
set_option maxRecDepth 100000 in
theorem kd_X4_prepare {N : Nat} {K len : Nat → Nat} {z : Nat} {i : Nat} {σ : SG} {ρ : RG} (hL : Lay N K len ρ) (f_z : isC N K z = true) (f_i : isLx i = true) : kp (F_X4_prepare N K len z i σ ρ) (fun q => KD σ q) := by
  unfold F_X4_prepare
  refine kp_nm (fun x1_1 _ => ?_)
  refine kp_nm (fun σ3_2 hσ3_2 => ?_)
  have kσ3_2 : KD σ σ3_2 := by rw [hσ3_2]; exact kd_trans (kd_refl _) (kd_lx f_i)
  exact kp_some kσ3_2

set_option maxRecDepth 100000 in
theorem kd_X3_straighten {N : Nat} {K len : Nat → Nat} {i : Nat} {σ : SG} {ρ : RG} (hL : Lay N K len ρ) (f_i : isLx i = true) : kp (F_X3_straighten i σ ρ) (fun q => KD σ q.2) := by
  unfold F_X3_straighten
  refine kp_bx (fun r1_5 => ?_)
  refine kp_nm (fun x2_6 _ => ?_)
  refine kp_nm (fun σ4_7 hσ4_7 => ?_)
  have kσ4_7 : KD σ σ4_7 := by rw [hσ4_7]; exact kd_trans (kd_refl _) (kd_lx f_i)
  refine kp_nm (fun σ6_8 hσ6_8 => ?_)
  have kσ6_8 : KD σ σ6_8 := by rw [hσ6_8]; exact kd_trans kσ4_7 (kd_lx f_i)
  refine kp_nm (fun σ8_9 hσ8_9 => ?_)
  have kσ8_9 : KD σ σ8_9 := by rw [hσ8_9]; exact kd_trans kσ6_8 (kd_lx f_i)
  refine kp_nm (fun x9_10 _ => ?_)
  refine kp_nm (fun x10_11 _ => ?_)
  refine kp_nm (fun σ12_12 hσ12_12 => ?_)
  have kσ12_12 : KD σ σ12_12 := by rw [hσ12_12]; exact kd_trans kσ8_9 (kd_lx f_i)
  refine kp_nm (fun x13_13 _ => ?_)
  exact kp_some kσ12_12

set_option maxRecDepth 100000 in
theorem kd_X5_prepare {N : Nat} {K len : Nat → Nat} {z : Nat} {i : Nat} {σ : SG} {ρ : RG} (hL : Lay N K len ρ) (f_z : isC N K z = true) (f_i : isLx i = true) : kp (F_X5_prepare N K len z i σ ρ) (fun q => KD σ q) := by
  unfold F_X5_prepare
  refine kp_bn2 (kd_X3_straighten hL f_i) (fun r1_3 σ1_4 hr1_3 => ?_)
  have kσ1_4 : KD σ σ1_4 := kd_trans (kd_refl _) hr1_3
  exact kp_some kσ1_4

theorem kd_v_prepare {N : Nat} {K len : Nat → Nat} {z i : Nat} {σ : SG} {ρ : RG} (hL : Lay N K len ρ) (f_z : isC N K z = true) (f_i : isLx i = true) : kp (F_v_prepare N K len z i σ ρ) (fun q => KD σ q) := by
  unfold F_v_prepare
  refine kp_if (kp_bx (fun _ => kp_some (kd_refl _))) ?_
  refine kp_if (kp_bx (fun _ => kp_some (kd_refl _))) ?_
  refine kp_if (kd_X4_prepare hL f_z f_i) ?_
  refine kp_if (kd_X5_prepare hL f_z f_i) ?_
  refine kp_if (kp_bx (fun _ => kp_some (kd_refl _))) ?_
  refine kp_if (kp_bx (fun _ => kp_some (kd_refl _))) ?_
  refine kp_if (kp_bx (fun _ => kp_some (kd_refl _))) ?_
  exact kp_none

set_option maxRecDepth 100000 in
theorem kd_X10_began {N : Nat} {K len : Nat → Nat} {a1 : Int32} {σ : SG} {ρ : RG} (hL : Lay N K len ρ) : kp (F_X10_began a1 σ ρ) (fun q => KD σ q) := by
  unfold F_X10_began
  refine kp_if ?_ ?_
  · unfold F_X10_began_29
    refine kp_nm (fun x2_15 _ => ?_)
    refine kp_nm (fun σ4_16 hσ4_16 => ?_)
    have kσ4_16 : KD σ σ4_16 := by rw [hσ4_16]; exact kd_trans (kd_refl _) (kd_lit (by decide))
    exact kp_some kσ4_16
  · refine kp_if ?_ ?_
    · unfold F_X10_began_29
      refine kp_nm (fun x2_17 _ => ?_)
      refine kp_nm (fun σ4_18 hσ4_18 => ?_)
      have kσ4_18 : KD σ σ4_18 := by rw [hσ4_18]; exact kd_trans (kd_refl _) (kd_lit (by decide))
      exact kp_some kσ4_18
    · refine kp_gd (fun _ => ?_)
      refine kp_nm (fun σ8_19 hσ8_19 => ?_)
      have kσ8_19 : KD σ σ8_19 := by rw [hσ8_19]; exact kd_trans (kd_refl _) (kd_row (by decide))
      unfold F_X10_began_29
      refine kp_nm (fun x2_20 _ => ?_)
      refine kp_nm (fun σ4_21 hσ4_21 => ?_)
      have kσ4_21 : KD σ σ4_21 := by rw [hσ4_21]; exact kd_trans kσ8_19 (kd_lit (by decide))
      exact kp_some kσ4_21

set_option maxRecDepth 100000 in
theorem kd_X1_cuts {N : Nat} {K len : Nat → Nat} {z : Nat} {a1 : Int32} {σ : SG} {ρ : RG} (hL : Lay N K len ρ) (f_z : isC N K z = true) : kp (F_X1_cuts N K len z a1 σ ρ) (fun q => KD σ q.2) := by
  unfold F_X1_cuts
  refine kp_bn (kd_X10_began hL) (fun σ1_25 hσ1_25 => ?_)
  have kσ1_25 : KD σ σ1_25 := kd_trans (kd_refl _) hσ1_25
  refine kp_nm (fun x2_26 _ => ?_)
  exact kp_some kσ1_25

set_option maxRecDepth 100000 in
theorem kd_X7_cuts {N : Nat} {K len : Nat → Nat} {z : Nat} {a1 : Int32} {σ : SG} {ρ : RG} (hL : Lay N K len ρ) (f_z : isC N K z = true) : kp (F_X7_cuts N K len z a1 σ ρ) (fun q => KD σ q.2) := by
  unfold F_X7_cuts
  refine kp_bn (kd_X10_began hL) (fun σ1_14 hσ1_14 => ?_)
  have kσ1_14 : KD σ σ1_14 := kd_trans (kd_refl _) hσ1_14
  refine kp_nm (fun x2_22 _ => ?_)
  refine kp_bn2 (kd_X1_cuts hL f_z) (fun r3_23 σ3_24 hr3_23 => ?_)
  have kσ3_24 : KD σ σ3_24 := kd_trans kσ1_14 hr3_23
  exact kp_some kσ3_24

set_option maxRecDepth 100000 in
theorem kd_X4_cuts {N : Nat} {K len : Nat → Nat} {z : Nat} {a1 : Int32} {σ : SG} {ρ : RG} (hL : Lay N K len ρ) (f_z : isC N K z = true) : kp (F_X4_cuts N K len z a1 σ ρ) (fun q => KD σ q.2) := by
  unfold F_X4_cuts
  refine kp_bn (kd_X10_began hL) (fun σ1_27 hσ1_27 => ?_)
  have kσ1_27 : KD σ σ1_27 := kd_trans (kd_refl _) hσ1_27
  refine kp_bn2 (kd_X1_cuts hL f_z) (fun r2_28 σ2_29 hr2_28 => ?_)
  have kσ2_29 : KD σ σ2_29 := kd_trans kσ1_27 hr2_28
  refine kp_nm (fun x3_30 _ => ?_)
  exact kp_some kσ2_29

theorem kd_v_cuts {N : Nat} {K len : Nat → Nat} {z : Nat} {a1 : Int32} {σ : SG} {ρ : RG} (hL : Lay N K len ρ) (f_z : isC N K z = true) : kp (F_v_cuts N K len z a1 σ ρ) (fun q => KD σ q.2) := by
  unfold F_v_cuts
  refine kp_if (kd_X1_cuts hL f_z) ?_
  refine kp_if (kd_X1_cuts hL f_z) ?_
  refine kp_if (kd_X4_cuts hL f_z) ?_
  refine kp_if (kd_X7_cuts hL f_z) ?_
  refine kp_if (kd_X1_cuts hL f_z) ?_
  refine kp_if (kd_X7_cuts hL f_z) ?_
  refine kp_if (kd_X1_cuts hL f_z) ?_
  exact kp_none

set_option maxRecDepth 100000 in
theorem kd_X1_eats {N : Nat} {K len : Nat → Nat} {z : Nat} {a1 : Int32} {σ : SG} {ρ : RG} (hL : Lay N K len ρ) (f_z : isC N K z = true) : kp (F_X1_eats N K len z a1 σ ρ) (fun q => KD σ q.2) := by
  unfold F_X1_eats
  refine kp_bn (kd_X10_began hL) (fun σ1_31 hσ1_31 => ?_)
  have kσ1_31 : KD σ σ1_31 := kd_trans (kd_refl _) hσ1_31
  refine kp_bn2 (kd_v_cuts hL f_z) (fun r2_32 σ2_33 hr2_32 => ?_)
  have kσ2_33 : KD σ σ2_33 := kd_trans kσ1_31 hr2_32
  refine kp_nm (fun x3_34 _ => ?_)
  exact kp_some kσ2_33

set_option maxRecDepth 100000 in
theorem kd_X6_eats {N : Nat} {K len : Nat → Nat} {z : Nat} {a1 : Int32} {σ : SG} {ρ : RG} (hL : Lay N K len ρ) (f_z : isC N K z = true) : kp (F_X6_eats N K len z a1 σ ρ) (fun q => KD σ q.2) := by
  unfold F_X6_eats
  refine kp_bn (kd_X10_began hL) (fun σ1_35 hσ1_35 => ?_)
  have kσ1_35 : KD σ σ1_35 := kd_trans (kd_refl _) hσ1_35
  refine kp_bn2 (kd_X1_eats hL f_z) (fun r2_36 σ2_37 hr2_36 => ?_)
  have kσ2_37 : KD σ σ2_37 := kd_trans kσ1_35 hr2_36
  refine kp_nm (fun x3_38 _ => ?_)
  exact kp_some kσ2_37

set_option maxRecDepth 100000 in
theorem kd_X9_eats {N : Nat} {K len : Nat → Nat} {z : Nat} {a1 : Int32} {σ : SG} {ρ : RG} (hL : Lay N K len ρ) (f_z : isC N K z = true) : kp (F_X9_eats N K len z a1 σ ρ) (fun q => KD σ q.2) := by
  unfold F_X9_eats
  refine kp_bn (kd_X10_began hL) (fun σ1_39 hσ1_39 => ?_)
  have kσ1_39 : KD σ σ1_39 := kd_trans (kd_refl _) hσ1_39
  refine kp_bn2 (kd_X1_eats hL f_z) (fun r2_40 σ2_41 hr2_40 => ?_)
  have kσ2_41 : KD σ σ2_41 := kd_trans kσ1_39 hr2_40
  refine kp_nm (fun x3_42 _ => ?_)
  exact kp_some kσ2_41

theorem kd_v_eats {N : Nat} {K len : Nat → Nat} {z : Nat} {a1 : Int32} {σ : SG} {ρ : RG} (hL : Lay N K len ρ) (f_z : isC N K z = true) : kp (F_v_eats N K len z a1 σ ρ) (fun q => KD σ q.2) := by
  unfold F_v_eats
  refine kp_if (kd_X1_eats hL f_z) ?_
  refine kp_if (kd_X1_eats hL f_z) ?_
  refine kp_if (kd_X6_eats hL f_z) ?_
  refine kp_if (kd_X1_eats hL f_z) ?_
  refine kp_if (kd_X6_eats hL f_z) ?_
  refine kp_if (kd_X1_eats hL f_z) ?_
  refine kp_if (kd_X9_eats hL f_z) ?_
  exact kp_none

set_option maxRecDepth 100000 in
theorem kd_X1_tells {N : Nat} {K len : Nat → Nat} {z : Nat} {a1 : Int32} {σ : SG} {ρ : RG} (hL : Lay N K len ρ) (f_z : isC N K z = true) : kp (F_X1_tells N K len z a1 σ ρ) (fun q => KD σ q.2) := by
  unfold F_X1_tells
  refine kp_bn (kd_X10_began hL) (fun σ1_47 hσ1_47 => ?_)
  have kσ1_47 : KD σ σ1_47 := kd_trans (kd_refl _) hσ1_47
  refine kp_bn2 (kd_v_eats hL f_z) (fun r2_48 σ2_49 hr2_48 => ?_)
  have kσ2_49 : KD σ σ2_49 := kd_trans kσ1_47 hr2_48
  refine kp_nm (fun x3_50 _ => ?_)
  exact kp_some kσ2_49

set_option maxRecDepth 100000 in
theorem kd_X5_tells {N : Nat} {K len : Nat → Nat} {z : Nat} {a1 : Int32} {σ : SG} {ρ : RG} (hL : Lay N K len ρ) (f_z : isC N K z = true) : kp (F_X5_tells N K len z a1 σ ρ) (fun q => KD σ q.2) := by
  unfold F_X5_tells
  refine kp_bn (kd_X10_began hL) (fun σ1_43 hσ1_43 => ?_)
  have kσ1_43 : KD σ σ1_43 := kd_trans (kd_refl _) hσ1_43
  refine kp_nm (fun x2_44 _ => ?_)
  refine kp_bn2 (kd_X1_tells hL f_z) (fun r3_45 σ3_46 hr3_45 => ?_)
  have kσ3_46 : KD σ σ3_46 := kd_trans kσ1_43 hr3_45
  refine kp_gd (fun _ => ?_)
  refine kp_bn2 (kd_X7_cuts hL f_z) (fun r5_51 σ5_52 hr5_51 => ?_)
  have kσ5_52 : KD σ σ5_52 := kd_trans kσ3_46 hr5_51
  refine kp_nm (fun x6_53 _ => ?_)
  exact kp_some kσ5_52

set_option maxRecDepth 100000 in
theorem kd_X2_tells {N : Nat} {K len : Nat → Nat} {z : Nat} {a1 : Int32} {σ : SG} {ρ : RG} (hL : Lay N K len ρ) (f_z : isC N K z = true) : kp (F_X2_tells N K len z a1 σ ρ) (fun q => KD σ q.2) := by
  unfold F_X2_tells
  refine kp_bn (kd_X10_began hL) (fun σ1_54 hσ1_54 => ?_)
  have kσ1_54 : KD σ σ1_54 := kd_trans (kd_refl _) hσ1_54
  refine kp_bn2 (kd_X1_tells hL f_z) (fun r2_55 σ2_56 hr2_55 => ?_)
  have kσ2_56 : KD σ σ2_56 := kd_trans kσ1_54 hr2_55
  refine kp_nm (fun x3_57 _ => ?_)
  exact kp_some kσ2_56

theorem kd_v_tells {N : Nat} {K len : Nat → Nat} {z : Nat} {a1 : Int32} {σ : SG} {ρ : RG} (hL : Lay N K len ρ) (f_z : isC N K z = true) : kp (F_v_tells N K len z a1 σ ρ) (fun q => KD σ q.2) := by
  unfold F_v_tells
  refine kp_if (kd_X1_tells hL f_z) ?_
  refine kp_if (kd_X2_tells hL f_z) ?_
  refine kp_if (kd_X1_tells hL f_z) ?_
  refine kp_if (kd_X5_tells hL f_z) ?_
  refine kp_if (kd_X1_tells hL f_z) ?_
  refine kp_if (kd_X1_tells hL f_z) ?_
  refine kp_if (kd_X2_tells hL f_z) ?_
  exact kp_none

set_option maxRecDepth 100000 in
theorem kd_X3_takes {N : Nat} {K len : Nat → Nat} {i : Nat} {j : Nat} {σ : SG} {ρ : RG} (hL : Lay N K len ρ) (f_i : isLx i = true) : kp (F_X3_takes i j σ ρ) (fun q => KD σ q) := by
  unfold F_X3_takes
  refine kp_nm (fun σ2_64 hσ2_64 => ?_)
  have kσ2_64 : KD σ σ2_64 := by rw [hσ2_64]; exact kd_trans (kd_refl _) (kd_lx f_i)
  refine kp_nm (fun σ4_65 hσ4_65 => ?_)
  have kσ4_65 : KD σ σ4_65 := by rw [hσ4_65]; exact kd_trans kσ2_64 (kd_lx f_i)
  refine kp_nm (fun σ6_66 hσ6_66 => ?_)
  have kσ6_66 : KD σ σ6_66 := by rw [hσ6_66]; exact kd_trans kσ4_65 (kd_lx f_i)
  refine kp_nm (fun σ8_67 hσ8_67 => ?_)
  have kσ8_67 : KD σ σ8_67 := by rw [hσ8_67]; exact kd_trans kσ6_66 (kd_lx f_i)
  refine kp_nm (fun σ10_68 hσ10_68 => ?_)
  have kσ10_68 : KD σ σ10_68 := by rw [hσ10_68]; exact kd_trans kσ8_67 (kd_lx f_i)
  refine kp_nm (fun σ12_69 hσ12_69 => ?_)
  have kσ12_69 : KD σ σ12_69 := by rw [hσ12_69]; exact kd_trans kσ10_68 (kd_lx f_i)
  refine kp_nm (fun σ14_70 hσ14_70 => ?_)
  have kσ14_70 : KD σ σ14_70 := by rw [hσ14_70]; exact kd_trans kσ12_69 (kd_lx f_i)
  refine kp_nm (fun σ16_71 hσ16_71 => ?_)
  have kσ16_71 : KD σ σ16_71 := by rw [hσ16_71]; exact kd_trans kσ14_70 (kd_lx f_i)
  refine kp_nm (fun σ18_72 hσ18_72 => ?_)
  have kσ18_72 : KD σ σ18_72 := by rw [hσ18_72]; exact kd_trans kσ16_71 (kd_lx f_i)
  exact kp_some kσ18_72

set_option maxRecDepth 100000 in
theorem kd_X11_startSteps {N : Nat} {K len : Nat → Nat} {σ : SG} {ρ : RG} (hL : Lay N K len ρ) : kp (F_X11_startSteps σ ρ) (fun q => KD σ q) := by
  unfold F_X11_startSteps
  refine kp_bn (kd_X3_takes hL (by decide)) (fun σ1_63 hσ1_63 => ?_)
  have kσ1_63 : KD σ σ1_63 := kd_trans (kd_refl _) hσ1_63
  refine kp_nm (fun σ3_73 hσ3_73 => ?_)
  have kσ3_73 : KD σ σ3_73 := by rw [hσ3_73]; exact kd_trans kσ1_63 (kd_lit (by decide))
  refine kp_nm (fun σ5_74 hσ5_74 => ?_)
  have kσ5_74 : KD σ σ5_74 := by rw [hσ5_74]; exact kd_trans kσ3_73 (kd_lit (by decide))
  refine kp_nm (fun σ7_75 hσ7_75 => ?_)
  have kσ7_75 : KD σ σ7_75 := by rw [hσ7_75]; exact kd_trans kσ5_74 (kd_lit (by decide))
  exact kp_some kσ7_75

set_option maxRecDepth 100000 in
theorem kd_X3_noteStart {N : Nat} {K len : Nat → Nat} {i : Nat} {z : Nat} {a2 : Int32} {σ : SG} {ρ : RG} (hL : Lay N K len ρ) (f_i : isLx i = true) (f_z : isC N K z = true) : kp (F_X3_noteStart N K len i z a2 σ ρ) (fun q => KD σ q) := by
  unfold F_X3_noteStart
  refine kp_nm (fun σ2_104 hσ2_104 => ?_)
  have kσ2_104 : KD σ σ2_104 := by rw [hσ2_104]; exact kd_trans (kd_refl _) (kd_lx1 f_i)
  refine kp_bx (fun r3_105 => ?_)
  refine kp_nm (fun σ5_106 hσ5_106 => ?_)
  have kσ5_106 : KD σ σ5_106 := by rw [hσ5_106]; exact kd_trans kσ2_104 (kd_lx1 f_i)
  refine kp_nm (fun σ7_107 hσ7_107 => ?_)
  have kσ7_107 : KD σ σ7_107 := by rw [hσ7_107]; exact kd_trans kσ5_106 (kd_lx1 f_i)
  refine kp_nm (fun x8_108 _ => ?_)
  refine kp_nm (fun σ10_109 hσ10_109 => ?_)
  have kσ10_109 : KD σ σ10_109 := by rw [hσ10_109]; exact kd_trans kσ7_107 (kd_lx1 f_i)
  refine kp_nm (fun x11_110 _ => ?_)
  refine kp_nm (fun σ13_111 hσ13_111 => ?_)
  have kσ13_111 : KD σ σ13_111 := by rw [hσ13_111]; exact kd_trans kσ10_109 (kd_lx1 f_i)
  refine kp_nm (fun x14_112 _ => ?_)
  refine kp_nm (fun σ16_113 hσ16_113 => ?_)
  have kσ16_113 : KD σ σ16_113 := by rw [hσ16_113]; exact kd_trans kσ13_111 (kd_lx1 f_i)
  exact kp_some kσ16_113

set_option maxRecDepth 100000 in
theorem kd_X3_weigh_8 {N : Nat} {K len : Nat → Nat} {i : Nat} {a1 : Int32} {a2 : Int32} {a3 : Int32} {ρ : RG} (hL : Lay N K len ρ) (f_i : isLx i = true) : ∀ (n : Nat) (σ : SG) (v1 : Int32) (v2 : Int32) (v3 : Int32) (v4 : Int32), kp (F_X3_weigh_8 i a1 a2 a3 n σ ρ v1 v2 v3 v4) (fun q => KD σ q) := by
  intro n
  induction n with
  | zero => intro σ v1 v2 v3 v4; exact kp_none
  | succ n ih =>
    intro σ v1 v2 v3 v4
    unfold F_X3_weigh_8
    refine kp_if ?_ ?_
    · exact kp_some (kd_refl _)
    · refine kp_bx (fun r4_130 => ?_)
      refine kp_nm (fun x5_131 _ => ?_)
      refine kp_nm (fun x6_132 _ => ?_)
      refine kp_nm (fun x7_133 _ => ?_)
      refine kp_nm (fun σ9_134 hσ9_134 => ?_)
      have kσ9_134 : KD σ σ9_134 := by rw [hσ9_134]; exact kd_trans (kd_refl _) (kd_lx f_i)
      refine kp_if ?_ ?_
      · unfold F_X3_weigh_60
        refine kp_nm (fun σ13_135 hσ13_135 => ?_)
        have kσ13_135 : KD σ σ13_135 := by rw [hσ13_135]; exact kd_trans kσ9_134 (kd_lx f_i)
        refine kp_if ?_ ?_
        · unfold F_X3_weigh_83
          refine kp_nm (fun σ17_136 hσ17_136 => ?_)
          have kσ17_136 : KD σ σ17_136 := by rw [hσ17_136]; exact kd_trans kσ13_135 (kd_lx f_i)
          refine kp_nm (fun x18_137 _ => ?_)
          exact kp_tr_kd (ih _ _ _ _ _) kσ17_136
        · refine kp_nm (fun x15_138 _ => ?_)
          unfold F_X3_weigh_83
          refine kp_nm (fun σ17_139 hσ17_139 => ?_)
          have kσ17_139 : KD σ σ17_139 := by rw [hσ17_139]; exact kd_trans kσ13_135 (kd_lx f_i)
          refine kp_nm (fun x18_140 _ => ?_)
          exact kp_tr_kd (ih _ _ _ _ _) kσ17_139
      · refine kp_nm (fun x11_141 _ => ?_)
        unfold F_X3_weigh_60
        refine kp_nm (fun σ13_142 hσ13_142 => ?_)
        have kσ13_142 : KD σ σ13_142 := by rw [hσ13_142]; exact kd_trans kσ9_134 (kd_lx f_i)
        refine kp_if ?_ ?_
        · unfold F_X3_weigh_83
          refine kp_nm (fun σ17_143 hσ17_143 => ?_)
          have kσ17_143 : KD σ σ17_143 := by rw [hσ17_143]; exact kd_trans kσ13_142 (kd_lx f_i)
          refine kp_nm (fun x18_144 _ => ?_)
          exact kp_tr_kd (ih _ _ _ _ _) kσ17_143
        · refine kp_nm (fun x15_145 _ => ?_)
          unfold F_X3_weigh_83
          refine kp_nm (fun σ17_146 hσ17_146 => ?_)
          have kσ17_146 : KD σ σ17_146 := by rw [hσ17_146]; exact kd_trans kσ13_142 (kd_lx f_i)
          refine kp_nm (fun x18_147 _ => ?_)
          exact kp_tr_kd (ih _ _ _ _ _) kσ17_146

set_option maxRecDepth 100000 in
theorem kd_X3_weigh {N : Nat} {K len : Nat → Nat} {i : Nat} {a1 : Int32} {a2 : Int32} {a3 : Int32} {σ : SG} {ρ : RG} (hL : Lay N K len ρ) (f_i : isLx i = true) : kp (F_X3_weigh i a1 a2 a3 σ ρ) (fun q => KD σ q) := by
  unfold F_X3_weigh
  refine kp_nm (fun σ2_129 hσ2_129 => ?_)
  have kσ2_129 : KD σ σ2_129 := by rw [hσ2_129]; exact kd_trans (kd_refl _) (kd_lx f_i)
  exact kp_tr_kd (kd_X3_weigh_8 hL f_i 1024 _ _ _ _ _) kσ2_129

set_option maxRecDepth 100000 in
theorem kd_X3_tryCut {N : Nat} {K len : Nat → Nat} {i : Nat} {z : Nat} {a2 : Int32} {a4 : Int32} {a5 : Int32} {σ : SG} {ρ : RG} (hL : Lay N K len ρ) (f_i : isLx i = true) (f_z : isC N K z = true) : kp (F_X3_tryCut N K len i z a2 a4 a5 σ ρ) (fun q => KD σ q.2) := by
  unfold F_X3_tryCut
  refine kp_bn (kd_X3_noteStart hL f_i f_z) (fun σ1_103 hσ1_103 => ?_)
  have kσ1_103 : KD σ σ1_103 := kd_trans (kd_refl _) hσ1_103
  refine kp_bx (fun r2_114 => ?_)
  refine kp_bx (fun r3_115 => ?_)
  refine kp_bn (kd_v_prepare hL f_z f_i) (fun σ4_116 hσ4_116 => ?_)
  have kσ4_116 : KD σ σ4_116 := kd_trans kσ1_103 hσ4_116
  refine kp_if ?_ ?_
  · unfold F_X3_tryCut_80
    refine kp_gd (fun g_117 => ?_)
    refine kp_gd (fun g_118 => ?_)
    refine kp_bx (fun r6_119 => ?_)
    refine kp_nm (fun x7_120 _ => ?_)
    refine kp_bx (fun r8_121 => ?_)
    refine kp_if ?_ ?_
    · unfold F_X3_tryCut_111
      refine kp_gd (fun g_122 => ?_)
      refine kp_bx (fun r10_123 => ?_)
      refine kp_nm (fun x11_124 _ => ?_)
      refine kp_bx (fun r12_125 => ?_)
      refine kp_nm (fun x13_126 _ => ?_)
      refine kp_nm (fun x14_127 _ => ?_)
      refine kp_bn (kd_X3_weigh hL f_i) (fun σ15_128 hσ15_128 => ?_)
      have kσ15_128 : KD σ σ15_128 := kd_trans kσ4_116 hσ15_128
      refine kp_nm (fun x16_148 _ => ?_)
      refine kp_nm (fun σ18_149 hσ18_149 => ?_)
      have kσ18_149 : KD σ σ18_149 := by rw [hσ18_149]; exact kd_trans kσ15_128 (kd_lx f_i)
      refine kp_nm (fun σ20_150 hσ20_150 => ?_)
      have kσ20_150 : KD σ σ20_150 := by rw [hσ20_150]; exact kd_trans kσ18_149 (kd_lx f_i)
      refine kp_nm (fun σ22_151 hσ22_151 => ?_)
      have kσ22_151 : KD σ σ22_151 := by rw [hσ22_151]; exact kd_trans kσ20_150 (kd_lx f_i)
      refine kp_if ?_ ?_
      · refine kp_bx (fun r27_152 => ?_)
        refine kp_if ?_ ?_
        · refine kp_nm (fun σ30_153 hσ30_153 => ?_)
          have kσ30_153 : KD σ σ30_153 := by rw [hσ30_153]; exact kd_trans kσ22_151 (kd_lx f_i)
          refine kp_nm (fun σ32_154 hσ32_154 => ?_)
          have kσ32_154 : KD σ σ32_154 := by rw [hσ32_154]; exact kd_trans kσ30_153 (kd_lx f_i)
          refine kp_nm (fun σ34_155 hσ34_155 => ?_)
          have kσ34_155 : KD σ σ34_155 := by rw [hσ34_155]; exact kd_trans kσ32_154 (kd_lx f_i)
          refine kp_nm (fun σ36_156 hσ36_156 => ?_)
          have kσ36_156 : KD σ σ36_156 := by rw [hσ36_156]; exact kd_trans kσ34_155 (kd_lx f_i)
          exact kp_some kσ36_156
        · unfold F_X3_tryCut_180
          refine kp_nm (fun x24_157 _ => ?_)
          refine kp_nm (fun σ26_158 hσ26_158 => ?_)
          have kσ26_158 : KD σ σ26_158 := by rw [hσ26_158]; exact kd_trans kσ22_151 (kd_lx f_i)
          exact kp_some kσ26_158
      · unfold F_X3_tryCut_180
        refine kp_nm (fun x24_159 _ => ?_)
        refine kp_nm (fun σ26_160 hσ26_160 => ?_)
        have kσ26_160 : KD σ σ26_160 := by rw [hσ26_160]; exact kd_trans kσ22_151 (kd_lx f_i)
        exact kp_some kσ26_160
    · refine kp_nm (fun x37_161 _ => ?_)
      unfold F_X3_tryCut_111
      refine kp_gd (fun g_162 => ?_)
      refine kp_bx (fun r10_163 => ?_)
      refine kp_nm (fun x11_164 _ => ?_)
      refine kp_bx (fun r12_165 => ?_)
      refine kp_nm (fun x13_166 _ => ?_)
      refine kp_nm (fun x14_167 _ => ?_)
      refine kp_bn (kd_X3_weigh hL f_i) (fun σ15_168 hσ15_168 => ?_)
      have kσ15_168 : KD σ σ15_168 := kd_trans kσ4_116 hσ15_168
      refine kp_nm (fun x16_169 _ => ?_)
      refine kp_nm (fun σ18_170 hσ18_170 => ?_)
      have kσ18_170 : KD σ σ18_170 := by rw [hσ18_170]; exact kd_trans kσ15_168 (kd_lx f_i)
      refine kp_nm (fun σ20_171 hσ20_171 => ?_)
      have kσ20_171 : KD σ σ20_171 := by rw [hσ20_171]; exact kd_trans kσ18_170 (kd_lx f_i)
      refine kp_nm (fun σ22_172 hσ22_172 => ?_)
      have kσ22_172 : KD σ σ22_172 := by rw [hσ22_172]; exact kd_trans kσ20_171 (kd_lx f_i)
      refine kp_if ?_ ?_
      · refine kp_bx (fun r27_173 => ?_)
        refine kp_if ?_ ?_
        · refine kp_nm (fun σ30_174 hσ30_174 => ?_)
          have kσ30_174 : KD σ σ30_174 := by rw [hσ30_174]; exact kd_trans kσ22_172 (kd_lx f_i)
          refine kp_nm (fun σ32_175 hσ32_175 => ?_)
          have kσ32_175 : KD σ σ32_175 := by rw [hσ32_175]; exact kd_trans kσ30_174 (kd_lx f_i)
          refine kp_nm (fun σ34_176 hσ34_176 => ?_)
          have kσ34_176 : KD σ σ34_176 := by rw [hσ34_176]; exact kd_trans kσ32_175 (kd_lx f_i)
          refine kp_nm (fun σ36_177 hσ36_177 => ?_)
          have kσ36_177 : KD σ σ36_177 := by rw [hσ36_177]; exact kd_trans kσ34_176 (kd_lx f_i)
          exact kp_some kσ36_177
        · unfold F_X3_tryCut_180
          refine kp_nm (fun x24_178 _ => ?_)
          refine kp_nm (fun σ26_179 hσ26_179 => ?_)
          have kσ26_179 : KD σ σ26_179 := by rw [hσ26_179]; exact kd_trans kσ22_172 (kd_lx f_i)
          exact kp_some kσ26_179
      · unfold F_X3_tryCut_180
        refine kp_nm (fun x24_180 _ => ?_)
        refine kp_nm (fun σ26_181 hσ26_181 => ?_)
        have kσ26_181 : KD σ σ26_181 := by rw [hσ26_181]; exact kd_trans kσ22_172 (kd_lx f_i)
        exact kp_some kσ26_181
  · refine kp_nm (fun x38_182 _ => ?_)
    unfold F_X3_tryCut_80
    refine kp_gd (fun g_183 => ?_)
    refine kp_gd (fun g_184 => ?_)
    refine kp_bx (fun r6_185 => ?_)
    refine kp_nm (fun x7_186 _ => ?_)
    refine kp_bx (fun r8_187 => ?_)
    refine kp_if ?_ ?_
    · unfold F_X3_tryCut_111
      refine kp_gd (fun g_188 => ?_)
      refine kp_bx (fun r10_189 => ?_)
      refine kp_nm (fun x11_190 _ => ?_)
      refine kp_bx (fun r12_191 => ?_)
      refine kp_nm (fun x13_192 _ => ?_)
      refine kp_nm (fun x14_193 _ => ?_)
      refine kp_bn (kd_X3_weigh hL f_i) (fun σ15_194 hσ15_194 => ?_)
      have kσ15_194 : KD σ σ15_194 := kd_trans kσ4_116 hσ15_194
      refine kp_nm (fun x16_195 _ => ?_)
      refine kp_nm (fun σ18_196 hσ18_196 => ?_)
      have kσ18_196 : KD σ σ18_196 := by rw [hσ18_196]; exact kd_trans kσ15_194 (kd_lx f_i)
      refine kp_nm (fun σ20_197 hσ20_197 => ?_)
      have kσ20_197 : KD σ σ20_197 := by rw [hσ20_197]; exact kd_trans kσ18_196 (kd_lx f_i)
      refine kp_nm (fun σ22_198 hσ22_198 => ?_)
      have kσ22_198 : KD σ σ22_198 := by rw [hσ22_198]; exact kd_trans kσ20_197 (kd_lx f_i)
      refine kp_if ?_ ?_
      · refine kp_bx (fun r27_199 => ?_)
        refine kp_if ?_ ?_
        · refine kp_nm (fun σ30_200 hσ30_200 => ?_)
          have kσ30_200 : KD σ σ30_200 := by rw [hσ30_200]; exact kd_trans kσ22_198 (kd_lx f_i)
          refine kp_nm (fun σ32_201 hσ32_201 => ?_)
          have kσ32_201 : KD σ σ32_201 := by rw [hσ32_201]; exact kd_trans kσ30_200 (kd_lx f_i)
          refine kp_nm (fun σ34_202 hσ34_202 => ?_)
          have kσ34_202 : KD σ σ34_202 := by rw [hσ34_202]; exact kd_trans kσ32_201 (kd_lx f_i)
          refine kp_nm (fun σ36_203 hσ36_203 => ?_)
          have kσ36_203 : KD σ σ36_203 := by rw [hσ36_203]; exact kd_trans kσ34_202 (kd_lx f_i)
          exact kp_some kσ36_203
        · unfold F_X3_tryCut_180
          refine kp_nm (fun x24_204 _ => ?_)
          refine kp_nm (fun σ26_205 hσ26_205 => ?_)
          have kσ26_205 : KD σ σ26_205 := by rw [hσ26_205]; exact kd_trans kσ22_198 (kd_lx f_i)
          exact kp_some kσ26_205
      · unfold F_X3_tryCut_180
        refine kp_nm (fun x24_206 _ => ?_)
        refine kp_nm (fun σ26_207 hσ26_207 => ?_)
        have kσ26_207 : KD σ σ26_207 := by rw [hσ26_207]; exact kd_trans kσ22_198 (kd_lx f_i)
        exact kp_some kσ26_207
    · refine kp_nm (fun x37_208 _ => ?_)
      unfold F_X3_tryCut_111
      refine kp_gd (fun g_209 => ?_)
      refine kp_bx (fun r10_210 => ?_)
      refine kp_nm (fun x11_211 _ => ?_)
      refine kp_bx (fun r12_212 => ?_)
      refine kp_nm (fun x13_213 _ => ?_)
      refine kp_nm (fun x14_214 _ => ?_)
      refine kp_bn (kd_X3_weigh hL f_i) (fun σ15_215 hσ15_215 => ?_)
      have kσ15_215 : KD σ σ15_215 := kd_trans kσ4_116 hσ15_215
      refine kp_nm (fun x16_216 _ => ?_)
      refine kp_nm (fun σ18_217 hσ18_217 => ?_)
      have kσ18_217 : KD σ σ18_217 := by rw [hσ18_217]; exact kd_trans kσ15_215 (kd_lx f_i)
      refine kp_nm (fun σ20_218 hσ20_218 => ?_)
      have kσ20_218 : KD σ σ20_218 := by rw [hσ20_218]; exact kd_trans kσ18_217 (kd_lx f_i)
      refine kp_nm (fun σ22_219 hσ22_219 => ?_)
      have kσ22_219 : KD σ σ22_219 := by rw [hσ22_219]; exact kd_trans kσ20_218 (kd_lx f_i)
      refine kp_if ?_ ?_
      · refine kp_bx (fun r27_220 => ?_)
        refine kp_if ?_ ?_
        · refine kp_nm (fun σ30_221 hσ30_221 => ?_)
          have kσ30_221 : KD σ σ30_221 := by rw [hσ30_221]; exact kd_trans kσ22_219 (kd_lx f_i)
          refine kp_nm (fun σ32_222 hσ32_222 => ?_)
          have kσ32_222 : KD σ σ32_222 := by rw [hσ32_222]; exact kd_trans kσ30_221 (kd_lx f_i)
          refine kp_nm (fun σ34_223 hσ34_223 => ?_)
          have kσ34_223 : KD σ σ34_223 := by rw [hσ34_223]; exact kd_trans kσ32_222 (kd_lx f_i)
          refine kp_nm (fun σ36_224 hσ36_224 => ?_)
          have kσ36_224 : KD σ σ36_224 := by rw [hσ36_224]; exact kd_trans kσ34_223 (kd_lx f_i)
          exact kp_some kσ36_224
        · unfold F_X3_tryCut_180
          refine kp_nm (fun x24_225 _ => ?_)
          refine kp_nm (fun σ26_226 hσ26_226 => ?_)
          have kσ26_226 : KD σ σ26_226 := by rw [hσ26_226]; exact kd_trans kσ22_219 (kd_lx f_i)
          exact kp_some kσ26_226
      · unfold F_X3_tryCut_180
        refine kp_nm (fun x24_227 _ => ?_)
        refine kp_nm (fun σ26_228 hσ26_228 => ?_)
        have kσ26_228 : KD σ σ26_228 := by rw [hσ26_228]; exact kd_trans kσ22_219 (kd_lx f_i)
        exact kp_some kσ26_228

set_option maxRecDepth 100000 in
theorem kd_X11_tryStep {N : Nat} {K len : Nat → Nat} {a1 : Int32} {z : Nat} {a3 : Int32} {σ : SG} {ρ : RG} (hL : Lay N K len ρ) (f_z : isC N K z = true) : kp (F_X11_tryStep N K len a1 z a3 σ ρ) (fun q => KD σ q.2) := by
  unfold F_X11_tryStep
  refine kp_if ?_ ?_
  · exact kp_some (kd_refl _)
  · refine kp_nm (fun x2_83 _ => ?_)
    refine kp_if ?_ ?_
    · refine kp_nm (fun x4_84 _ => ?_)
      refine kp_gd (fun g_85 => ?_)
      refine kp_oce ?_ (fun c6_86 o_87 => ?_)
      · exact kp_none
      · refine kp_gd (fun g_88 => ?_)
        refine kp_gd (fun g_89 => ?_)
        refine kp_oce ?_ (fun c8_90 o_91 => ?_)
        · exact kp_none
        · refine kp_gd (fun g_92 => ?_)
          refine kp_bn (kd_X3_takes hL (lx_34 hL g_85 o_87)) (fun σ9_93 hσ9_93 => ?_)
          have kσ9_93 : KD σ σ9_93 := kd_trans (kd_refl _) hσ9_93
          refine kp_nm (fun x10_94 _ => ?_)
          refine kp_gd (fun g_95 => ?_)
          refine kp_oce ?_ (fun c12_96 o_97 => ?_)
          · exact kp_none
          · refine kp_gd (fun g_98 => ?_)
            refine kp_if ?_ ?_
            · unfold F_X11_tryStep_59
              refine kp_gd (fun g_99 => ?_)
              refine kp_gd (fun g_100 => ?_)
              refine kp_bn2 (kd_X3_tryCut hL (lx_34 hL g_95 o_97) g_100) (fun r14_101 σ14_102 hr14_101 => ?_)
              have kσ14_102 : KD σ σ14_102 := kd_trans kσ9_93 hr14_101
              refine kp_gd (fun _ => ?_)
              exact kp_some kσ14_102
            · unfold F_X11_tryStep_59
              refine kp_gd (fun g_229 => ?_)
              refine kp_gd (fun g_230 => ?_)
              refine kp_bn2 (kd_X3_tryCut hL (lx_34 hL g_95 o_97) g_230) (fun r14_231 σ14_232 hr14_231 => ?_)
              have kσ14_232 : KD σ σ14_232 := kd_trans kσ9_93 hr14_231
              refine kp_gd (fun _ => ?_)
              exact kp_some kσ14_232
    · exact kp_some (kd_refl _)

set_option maxRecDepth 100000 in
theorem kd_X11_would {N : Nat} {K len : Nat → Nat} {a1 : Int32} {a2 : Int32} {σ : SG} {ρ : RG} (hL : Lay N K len ρ) : kp (F_X11_would N K len a1 a2 σ ρ) (fun q => KD σ q.2) := by
  unfold F_X11_would
  refine kp_bx (fun o1_58 => ?_)
  refine kp_oc ?_ (fun c2_59 => ?_)
  · exact kp_some (kd_refl _)
  · refine kp_gd (fun g_60 => ?_)
    refine kp_bx (fun r3_61 => ?_)
    refine kp_if ?_ ?_
    · exact kp_some (kd_refl _)
    · refine kp_bn (kd_X11_startSteps hL) (fun σ5_62 hσ5_62 => ?_)
      have kσ5_62 : KD σ σ5_62 := kd_trans (kd_refl _) hσ5_62
      refine kp_bx (fun o6_76 => ?_)
      refine kp_oc ?_ (fun c7_77 => ?_)
      · refine kp_bx (fun r8_78 => ?_)
        refine kp_if ?_ ?_
        · exact kp_some kσ5_62
        · refine kp_if ?_ ?_
          · exact kp_some kσ5_62
          · refine kp_if ?_ ?_
            · exact kp_some kσ5_62
            · refine kp_if ?_ ?_
              · exact kp_some kσ5_62
              · refine kp_if ?_ ?_
                · exact kp_some kσ5_62
                · refine kp_if ?_ ?_
                  · exact kp_some kσ5_62
                  · refine kp_if ?_ ?_
                    · exact kp_some kσ5_62
                    · refine kp_nm (fun x11_79 _ => ?_)
                      exact kp_some kσ5_62
      · refine kp_gd (fun g_80 => ?_)
        refine kp_bn2 (kd_X11_tryStep hL g_80) (fun r12_81 σ12_82 hr12_81 => ?_)
        have kσ12_82 : KD σ σ12_82 := kd_trans kσ5_62 hr12_81
        refine kp_if ?_ ?_
        · exact kp_some kσ12_82
        · refine kp_if ?_ ?_
          · exact kp_some kσ12_82
          · refine kp_if ?_ ?_
            · exact kp_some kσ12_82
            · refine kp_if ?_ ?_
              · exact kp_some kσ12_82
              · refine kp_if ?_ ?_
                · exact kp_some kσ12_82
                · refine kp_if ?_ ?_
                  · exact kp_some kσ12_82
                  · refine kp_if ?_ ?_
                    · exact kp_some kσ12_82
                    · refine kp_nm (fun x15_233 _ => ?_)
                      exact kp_some kσ12_82

set_option maxRecDepth 100000 in
theorem kd_X11_goOn_54 {N : Nat} {K len : Nat → Nat} {a1 : Int32} {a2 : Int32} {a3 : Int32} {a4 : Int32} {ρ : RG} (hL : Lay N K len ρ) : ∀ (n : Nat) (σ : SG) (v1 : Int32) (v2 : Int32) (v3 : Int32) (v4 : Int32) (v5 : Int32), kp (F_X11_goOn_54 N K len a1 a2 a3 a4 n σ ρ v1 v2 v3 v4 v5) (fun q => KD σ q) := by
  intro n
  induction n with
  | zero => intro σ v1 v2 v3 v4 v5; exact kp_none
  | succ n ih =>
    intro σ v1 v2 v3 v4 v5
    unfold F_X11_goOn_54
    refine kp_if ?_ ?_
    · exact kp_some (kd_refl _)
    · refine kp_if ?_ ?_
      · exact kp_some (kd_refl _)
      · refine kp_if ?_ ?_
        · refine kp_bx (fun r31_243 => ?_)
          refine kp_if ?_ ?_
          · unfold F_X11_goOn_104
            refine kp_gd (fun _ => ?_)
            refine kp_nm (fun x11_244 _ => ?_)
            refine kp_bx (fun o12_245 => ?_)
            refine kp_oc ?_ (fun c13_246 => ?_)
            · exact kp_some (kd_refl _)
            · refine kp_gd (fun g_247 => ?_)
              refine kp_bn2 (kd_X3_tryCut hL (by decide) g_247) (fun r14_248 σ14_249 hr14_248 => ?_)
              have kσ14_249 : KD σ σ14_249 := kd_trans (kd_refl _) hr14_248
              refine kp_if ?_ ?_
              · exact kp_some kσ14_249
              · refine kp_if ?_ ?_
                · unfold F_X11_goOn_186
                  refine kp_if ?_ ?_
                  · unfold F_X11_goOn_216
                    refine kp_nm (fun x18_250 _ => ?_)
                    refine kp_nm (fun σ20_251 hσ20_251 => ?_)
                    have kσ20_251 : KD σ σ20_251 := by rw [hσ20_251]; exact kd_trans kσ14_249 (kd_lit (by decide))
                    refine kp_if ?_ ?_
                    · unfold F_X11_goOn_242
                      refine kp_nm (fun x22_252 _ => ?_)
                      refine kp_nm (fun σ24_253 hσ24_253 => ?_)
                      have kσ24_253 : KD σ σ24_253 := by rw [hσ24_253]; exact kd_trans kσ20_251 (kd_lit (by decide))
                      refine kp_nm (fun x25_254 _ => ?_)
                      exact kp_tr_kd (ih _ _ _ _ _ _) kσ24_253
                    · unfold F_X11_goOn_242
                      refine kp_nm (fun x22_255 _ => ?_)
                      refine kp_nm (fun σ24_256 hσ24_256 => ?_)
                      have kσ24_256 : KD σ σ24_256 := by rw [hσ24_256]; exact kd_trans kσ20_251 (kd_lit (by decide))
                      refine kp_nm (fun x25_257 _ => ?_)
                      exact kp_tr_kd (ih _ _ _ _ _ _) kσ24_256
                  · unfold F_X11_goOn_216
                    refine kp_nm (fun x18_258 _ => ?_)
                    refine kp_nm (fun σ20_259 hσ20_259 => ?_)
                    have kσ20_259 : KD σ σ20_259 := by rw [hσ20_259]; exact kd_trans kσ14_249 (kd_lit (by decide))
                    refine kp_if ?_ ?_
                    · unfold F_X11_goOn_242
                      refine kp_nm (fun x22_260 _ => ?_)
                      refine kp_nm (fun σ24_261 hσ24_261 => ?_)
                      have kσ24_261 : KD σ σ24_261 := by rw [hσ24_261]; exact kd_trans kσ20_259 (kd_lit (by decide))
                      refine kp_nm (fun x25_262 _ => ?_)
                      exact kp_tr_kd (ih _ _ _ _ _ _) kσ24_261
                    · unfold F_X11_goOn_242
                      refine kp_nm (fun x22_263 _ => ?_)
                      refine kp_nm (fun σ24_264 hσ24_264 => ?_)
                      have kσ24_264 : KD σ σ24_264 := by rw [hσ24_264]; exact kd_trans kσ20_259 (kd_lit (by decide))
                      refine kp_nm (fun x25_265 _ => ?_)
                      exact kp_tr_kd (ih _ _ _ _ _ _) kσ24_264
                · refine kp_gd (fun _ => ?_)
                  refine kp_nm (fun x27_266 _ => ?_)
                  refine kp_gd (fun _ => ?_)
                  refine kp_nm (fun σ30_267 hσ30_267 => ?_)
                  have kσ30_267 : KD σ σ30_267 := by rw [hσ30_267]; exact kd_trans kσ14_249 (kd_row (by decide))
                  unfold F_X11_goOn_186
                  refine kp_if ?_ ?_
                  · unfold F_X11_goOn_216
                    refine kp_nm (fun x18_268 _ => ?_)
                    refine kp_nm (fun σ20_269 hσ20_269 => ?_)
                    have kσ20_269 : KD σ σ20_269 := by rw [hσ20_269]; exact kd_trans kσ30_267 (kd_lit (by decide))
                    refine kp_if ?_ ?_
                    · unfold F_X11_goOn_242
                      refine kp_nm (fun x22_270 _ => ?_)
                      refine kp_nm (fun σ24_271 hσ24_271 => ?_)
                      have kσ24_271 : KD σ σ24_271 := by rw [hσ24_271]; exact kd_trans kσ20_269 (kd_lit (by decide))
                      refine kp_nm (fun x25_272 _ => ?_)
                      exact kp_tr_kd (ih _ _ _ _ _ _) kσ24_271
                    · unfold F_X11_goOn_242
                      refine kp_nm (fun x22_273 _ => ?_)
                      refine kp_nm (fun σ24_274 hσ24_274 => ?_)
                      have kσ24_274 : KD σ σ24_274 := by rw [hσ24_274]; exact kd_trans kσ20_269 (kd_lit (by decide))
                      refine kp_nm (fun x25_275 _ => ?_)
                      exact kp_tr_kd (ih _ _ _ _ _ _) kσ24_274
                  · unfold F_X11_goOn_216
                    refine kp_nm (fun x18_276 _ => ?_)
                    refine kp_nm (fun σ20_277 hσ20_277 => ?_)
                    have kσ20_277 : KD σ σ20_277 := by rw [hσ20_277]; exact kd_trans kσ30_267 (kd_lit (by decide))
                    refine kp_if ?_ ?_
                    · unfold F_X11_goOn_242
                      refine kp_nm (fun x22_278 _ => ?_)
                      refine kp_nm (fun σ24_279 hσ24_279 => ?_)
                      have kσ24_279 : KD σ σ24_279 := by rw [hσ24_279]; exact kd_trans kσ20_277 (kd_lit (by decide))
                      refine kp_nm (fun x25_280 _ => ?_)
                      exact kp_tr_kd (ih _ _ _ _ _ _) kσ24_279
                    · unfold F_X11_goOn_242
                      refine kp_nm (fun x22_281 _ => ?_)
                      refine kp_nm (fun σ24_282 hσ24_282 => ?_)
                      have kσ24_282 : KD σ σ24_282 := by rw [hσ24_282]; exact kd_trans kσ20_277 (kd_lit (by decide))
                      refine kp_nm (fun x25_283 _ => ?_)
                      exact kp_tr_kd (ih _ _ _ _ _ _) kσ24_282
          · refine kp_bn2 (kd_X3_straighten hL (by decide)) (fun r33_284 σ33_285 hr33_284 => ?_)
            have kσ33_285 : KD σ σ33_285 := kd_trans (kd_refl _) hr33_284
            unfold F_X11_goOn_104
            refine kp_gd (fun _ => ?_)
            refine kp_nm (fun x11_286 _ => ?_)
            refine kp_bx (fun o12_287 => ?_)
            refine kp_oc ?_ (fun c13_288 => ?_)
            · exact kp_some kσ33_285
            · refine kp_gd (fun g_289 => ?_)
              refine kp_bn2 (kd_X3_tryCut hL (by decide) g_289) (fun r14_290 σ14_291 hr14_290 => ?_)
              have kσ14_291 : KD σ σ14_291 := kd_trans kσ33_285 hr14_290
              refine kp_if ?_ ?_
              · exact kp_some kσ14_291
              · refine kp_if ?_ ?_
                · unfold F_X11_goOn_186
                  refine kp_if ?_ ?_
                  · unfold F_X11_goOn_216
                    refine kp_nm (fun x18_292 _ => ?_)
                    refine kp_nm (fun σ20_293 hσ20_293 => ?_)
                    have kσ20_293 : KD σ σ20_293 := by rw [hσ20_293]; exact kd_trans kσ14_291 (kd_lit (by decide))
                    refine kp_if ?_ ?_
                    · unfold F_X11_goOn_242
                      refine kp_nm (fun x22_294 _ => ?_)
                      refine kp_nm (fun σ24_295 hσ24_295 => ?_)
                      have kσ24_295 : KD σ σ24_295 := by rw [hσ24_295]; exact kd_trans kσ20_293 (kd_lit (by decide))
                      refine kp_nm (fun x25_296 _ => ?_)
                      exact kp_tr_kd (ih _ _ _ _ _ _) kσ24_295
                    · unfold F_X11_goOn_242
                      refine kp_nm (fun x22_297 _ => ?_)
                      refine kp_nm (fun σ24_298 hσ24_298 => ?_)
                      have kσ24_298 : KD σ σ24_298 := by rw [hσ24_298]; exact kd_trans kσ20_293 (kd_lit (by decide))
                      refine kp_nm (fun x25_299 _ => ?_)
                      exact kp_tr_kd (ih _ _ _ _ _ _) kσ24_298
                  · unfold F_X11_goOn_216
                    refine kp_nm (fun x18_300 _ => ?_)
                    refine kp_nm (fun σ20_301 hσ20_301 => ?_)
                    have kσ20_301 : KD σ σ20_301 := by rw [hσ20_301]; exact kd_trans kσ14_291 (kd_lit (by decide))
                    refine kp_if ?_ ?_
                    · unfold F_X11_goOn_242
                      refine kp_nm (fun x22_302 _ => ?_)
                      refine kp_nm (fun σ24_303 hσ24_303 => ?_)
                      have kσ24_303 : KD σ σ24_303 := by rw [hσ24_303]; exact kd_trans kσ20_301 (kd_lit (by decide))
                      refine kp_nm (fun x25_304 _ => ?_)
                      exact kp_tr_kd (ih _ _ _ _ _ _) kσ24_303
                    · unfold F_X11_goOn_242
                      refine kp_nm (fun x22_305 _ => ?_)
                      refine kp_nm (fun σ24_306 hσ24_306 => ?_)
                      have kσ24_306 : KD σ σ24_306 := by rw [hσ24_306]; exact kd_trans kσ20_301 (kd_lit (by decide))
                      refine kp_nm (fun x25_307 _ => ?_)
                      exact kp_tr_kd (ih _ _ _ _ _ _) kσ24_306
                · refine kp_gd (fun _ => ?_)
                  refine kp_nm (fun x27_308 _ => ?_)
                  refine kp_gd (fun _ => ?_)
                  refine kp_nm (fun σ30_309 hσ30_309 => ?_)
                  have kσ30_309 : KD σ σ30_309 := by rw [hσ30_309]; exact kd_trans kσ14_291 (kd_row (by decide))
                  unfold F_X11_goOn_186
                  refine kp_if ?_ ?_
                  · unfold F_X11_goOn_216
                    refine kp_nm (fun x18_310 _ => ?_)
                    refine kp_nm (fun σ20_311 hσ20_311 => ?_)
                    have kσ20_311 : KD σ σ20_311 := by rw [hσ20_311]; exact kd_trans kσ30_309 (kd_lit (by decide))
                    refine kp_if ?_ ?_
                    · unfold F_X11_goOn_242
                      refine kp_nm (fun x22_312 _ => ?_)
                      refine kp_nm (fun σ24_313 hσ24_313 => ?_)
                      have kσ24_313 : KD σ σ24_313 := by rw [hσ24_313]; exact kd_trans kσ20_311 (kd_lit (by decide))
                      refine kp_nm (fun x25_314 _ => ?_)
                      exact kp_tr_kd (ih _ _ _ _ _ _) kσ24_313
                    · unfold F_X11_goOn_242
                      refine kp_nm (fun x22_315 _ => ?_)
                      refine kp_nm (fun σ24_316 hσ24_316 => ?_)
                      have kσ24_316 : KD σ σ24_316 := by rw [hσ24_316]; exact kd_trans kσ20_311 (kd_lit (by decide))
                      refine kp_nm (fun x25_317 _ => ?_)
                      exact kp_tr_kd (ih _ _ _ _ _ _) kσ24_316
                  · unfold F_X11_goOn_216
                    refine kp_nm (fun x18_318 _ => ?_)
                    refine kp_nm (fun σ20_319 hσ20_319 => ?_)
                    have kσ20_319 : KD σ σ20_319 := by rw [hσ20_319]; exact kd_trans kσ30_309 (kd_lit (by decide))
                    refine kp_if ?_ ?_
                    · unfold F_X11_goOn_242
                      refine kp_nm (fun x22_320 _ => ?_)
                      refine kp_nm (fun σ24_321 hσ24_321 => ?_)
                      have kσ24_321 : KD σ σ24_321 := by rw [hσ24_321]; exact kd_trans kσ20_319 (kd_lit (by decide))
                      refine kp_nm (fun x25_322 _ => ?_)
                      exact kp_tr_kd (ih _ _ _ _ _ _) kσ24_321
                    · unfold F_X11_goOn_242
                      refine kp_nm (fun x22_323 _ => ?_)
                      refine kp_nm (fun σ24_324 hσ24_324 => ?_)
                      have kσ24_324 : KD σ σ24_324 := by rw [hσ24_324]; exact kd_trans kσ20_319 (kd_lit (by decide))
                      refine kp_nm (fun x25_325 _ => ?_)
                      exact kp_tr_kd (ih _ _ _ _ _ _) kσ24_324
        · unfold F_X11_goOn_104
          refine kp_gd (fun _ => ?_)
          refine kp_nm (fun x11_326 _ => ?_)
          refine kp_bx (fun o12_327 => ?_)
          refine kp_oc ?_ (fun c13_328 => ?_)
          · exact kp_some (kd_refl _)
          · refine kp_gd (fun g_329 => ?_)
            refine kp_bn2 (kd_X3_tryCut hL (by decide) g_329) (fun r14_330 σ14_331 hr14_330 => ?_)
            have kσ14_331 : KD σ σ14_331 := kd_trans (kd_refl _) hr14_330
            refine kp_if ?_ ?_
            · exact kp_some kσ14_331
            · refine kp_if ?_ ?_
              · unfold F_X11_goOn_186
                refine kp_if ?_ ?_
                · unfold F_X11_goOn_216
                  refine kp_nm (fun x18_332 _ => ?_)
                  refine kp_nm (fun σ20_333 hσ20_333 => ?_)
                  have kσ20_333 : KD σ σ20_333 := by rw [hσ20_333]; exact kd_trans kσ14_331 (kd_lit (by decide))
                  refine kp_if ?_ ?_
                  · unfold F_X11_goOn_242
                    refine kp_nm (fun x22_334 _ => ?_)
                    refine kp_nm (fun σ24_335 hσ24_335 => ?_)
                    have kσ24_335 : KD σ σ24_335 := by rw [hσ24_335]; exact kd_trans kσ20_333 (kd_lit (by decide))
                    refine kp_nm (fun x25_336 _ => ?_)
                    exact kp_tr_kd (ih _ _ _ _ _ _) kσ24_335
                  · unfold F_X11_goOn_242
                    refine kp_nm (fun x22_337 _ => ?_)
                    refine kp_nm (fun σ24_338 hσ24_338 => ?_)
                    have kσ24_338 : KD σ σ24_338 := by rw [hσ24_338]; exact kd_trans kσ20_333 (kd_lit (by decide))
                    refine kp_nm (fun x25_339 _ => ?_)
                    exact kp_tr_kd (ih _ _ _ _ _ _) kσ24_338
                · unfold F_X11_goOn_216
                  refine kp_nm (fun x18_340 _ => ?_)
                  refine kp_nm (fun σ20_341 hσ20_341 => ?_)
                  have kσ20_341 : KD σ σ20_341 := by rw [hσ20_341]; exact kd_trans kσ14_331 (kd_lit (by decide))
                  refine kp_if ?_ ?_
                  · unfold F_X11_goOn_242
                    refine kp_nm (fun x22_342 _ => ?_)
                    refine kp_nm (fun σ24_343 hσ24_343 => ?_)
                    have kσ24_343 : KD σ σ24_343 := by rw [hσ24_343]; exact kd_trans kσ20_341 (kd_lit (by decide))
                    refine kp_nm (fun x25_344 _ => ?_)
                    exact kp_tr_kd (ih _ _ _ _ _ _) kσ24_343
                  · unfold F_X11_goOn_242
                    refine kp_nm (fun x22_345 _ => ?_)
                    refine kp_nm (fun σ24_346 hσ24_346 => ?_)
                    have kσ24_346 : KD σ σ24_346 := by rw [hσ24_346]; exact kd_trans kσ20_341 (kd_lit (by decide))
                    refine kp_nm (fun x25_347 _ => ?_)
                    exact kp_tr_kd (ih _ _ _ _ _ _) kσ24_346
              · refine kp_gd (fun _ => ?_)
                refine kp_nm (fun x27_348 _ => ?_)
                refine kp_gd (fun _ => ?_)
                refine kp_nm (fun σ30_349 hσ30_349 => ?_)
                have kσ30_349 : KD σ σ30_349 := by rw [hσ30_349]; exact kd_trans kσ14_331 (kd_row (by decide))
                unfold F_X11_goOn_186
                refine kp_if ?_ ?_
                · unfold F_X11_goOn_216
                  refine kp_nm (fun x18_350 _ => ?_)
                  refine kp_nm (fun σ20_351 hσ20_351 => ?_)
                  have kσ20_351 : KD σ σ20_351 := by rw [hσ20_351]; exact kd_trans kσ30_349 (kd_lit (by decide))
                  refine kp_if ?_ ?_
                  · unfold F_X11_goOn_242
                    refine kp_nm (fun x22_352 _ => ?_)
                    refine kp_nm (fun σ24_353 hσ24_353 => ?_)
                    have kσ24_353 : KD σ σ24_353 := by rw [hσ24_353]; exact kd_trans kσ20_351 (kd_lit (by decide))
                    refine kp_nm (fun x25_354 _ => ?_)
                    exact kp_tr_kd (ih _ _ _ _ _ _) kσ24_353
                  · unfold F_X11_goOn_242
                    refine kp_nm (fun x22_355 _ => ?_)
                    refine kp_nm (fun σ24_356 hσ24_356 => ?_)
                    have kσ24_356 : KD σ σ24_356 := by rw [hσ24_356]; exact kd_trans kσ20_351 (kd_lit (by decide))
                    refine kp_nm (fun x25_357 _ => ?_)
                    exact kp_tr_kd (ih _ _ _ _ _ _) kσ24_356
                · unfold F_X11_goOn_216
                  refine kp_nm (fun x18_358 _ => ?_)
                  refine kp_nm (fun σ20_359 hσ20_359 => ?_)
                  have kσ20_359 : KD σ σ20_359 := by rw [hσ20_359]; exact kd_trans kσ30_349 (kd_lit (by decide))
                  refine kp_if ?_ ?_
                  · unfold F_X11_goOn_242
                    refine kp_nm (fun x22_360 _ => ?_)
                    refine kp_nm (fun σ24_361 hσ24_361 => ?_)
                    have kσ24_361 : KD σ σ24_361 := by rw [hσ24_361]; exact kd_trans kσ20_359 (kd_lit (by decide))
                    refine kp_nm (fun x25_362 _ => ?_)
                    exact kp_tr_kd (ih _ _ _ _ _ _) kσ24_361
                  · unfold F_X11_goOn_242
                    refine kp_nm (fun x22_363 _ => ?_)
                    refine kp_nm (fun σ24_364 hσ24_364 => ?_)
                    have kσ24_364 : KD σ σ24_364 := by rw [hσ24_364]; exact kd_trans kσ20_359 (kd_lit (by decide))
                    refine kp_nm (fun x25_365 _ => ?_)
                    exact kp_tr_kd (ih _ _ _ _ _ _) kσ24_364

set_option maxRecDepth 100000 in
theorem kd_X11_goOn_27 {N : Nat} {K len : Nat → Nat} {a1 : Int32} {a2 : Int32} {a3 : Int32} {a4 : Int32} {ρ : RG} (hL : Lay N K len ρ) : ∀ (n : Nat) (σ : SG) (v1 : Int32) (v2 : Int32) (v3 : Int32) (v4 : Int32) (v5 : Int32), kp (F_X11_goOn_27 N K len a1 a2 a3 a4 n σ ρ v1 v2 v3 v4 v5) (fun q => KD σ q) := by
  intro n
  induction n with
  | zero => intro σ v1 v2 v3 v4 v5; exact kp_none
  | succ n ih =>
    intro σ v1 v2 v3 v4 v5
    unfold F_X11_goOn_27
    refine kp_if ?_ ?_
    · exact kp_tr_kd (kd_X11_goOn_54 hL 1024 _ _ _ _ _ _) (kd_refl _)
    · refine kp_gd (fun _ => ?_)
      refine kp_nm (fun σ36_366 hσ36_366 => ?_)
      have kσ36_366 : KD σ σ36_366 := by rw [hσ36_366]; exact kd_trans (kd_refl _) (kd_row (by decide))
      refine kp_nm (fun x37_367 _ => ?_)
      exact kp_tr_kd (ih _ _ _ _ _ _) kσ36_366

set_option maxRecDepth 100000 in
theorem kd_X11_goOn {N : Nat} {K len : Nat → Nat} {a1 : Int32} {a2 : Int32} {a3 : Int32} {a4 : Int32} {σ : SG} {ρ : RG} (hL : Lay N K len ρ) : kp (F_X11_goOn N K len a1 a2 a3 a4 σ ρ) (fun q => KD σ q) := by
  unfold F_X11_goOn
  refine kp_bn (kd_X3_takes hL (by decide)) (fun σ1_240 hσ1_240 => ?_)
  have kσ1_240 : KD σ σ1_240 := kd_trans (kd_refl _) hσ1_240
  refine kp_nm (fun σ3_241 hσ3_241 => ?_)
  have kσ3_241 : KD σ σ3_241 := by rw [hσ3_241]; exact kd_trans kσ1_240 (kd_lit (by decide))
  refine kp_nm (fun σ5_242 hσ5_242 => ?_)
  have kσ5_242 : KD σ σ5_242 := by rw [hσ5_242]; exact kd_trans kσ3_241 (kd_lit (by decide))
  exact kp_tr_kd (kd_X11_goOn_27 hL 1024 _ _ _ _ _ _) kσ5_242

set_option maxRecDepth 100000 in
theorem kd_X11_on {N : Nat} {K len : Nat → Nat} {a1 : Int32} {a2 : Int32} {σ : SG} {ρ : RG} (hL : Lay N K len ρ) : kp (F_X11_on N K len a1 a2 σ ρ) (fun q => KD σ q.2) := by
  unfold F_X11_on
  refine kp_nm (fun x1_234 _ => ?_)
  refine kp_bx (fun o2_235 => ?_)
  refine kp_oc ?_ (fun c3_236 => ?_)
  · unfold F_X11_on_19
    refine kp_bx (fun r4_237 => ?_)
    refine kp_if ?_ ?_
    · refine kp_if ?_ ?_
      · exact kp_some (kd_refl _)
      · unfold F_X11_on_37
        refine kp_bx (fun r6_238 => ?_)
        refine kp_if ?_ ?_
        · exact kp_some (kd_refl _)
        · refine kp_bn (kd_X11_goOn hL) (fun σ8_239 hσ8_239 => ?_)
          have kσ8_239 : KD σ σ8_239 := kd_trans (kd_refl _) hσ8_239
          refine kp_if ?_ ?_
          · exact kp_some kσ8_239
          · refine kp_if ?_ ?_
            · exact kp_some kσ8_239
            · refine kp_if ?_ ?_
              · exact kp_some kσ8_239
              · refine kp_if ?_ ?_
                · refine kp_nm (fun x10_368 _ => ?_)
                  exact kp_some kσ8_239
                · refine kp_if ?_ ?_
                  · refine kp_nm (fun x11_369 _ => ?_)
                    exact kp_some kσ8_239
                  · refine kp_if ?_ ?_
                    · exact kp_some kσ8_239
                    · refine kp_nm (fun x12_370 _ => ?_)
                      refine kp_bx (fun r13_371 => ?_)
                      exact kp_some kσ8_239
    · unfold F_X11_on_37
      refine kp_bx (fun r6_372 => ?_)
      refine kp_if ?_ ?_
      · exact kp_some (kd_refl _)
      · refine kp_bn (kd_X11_goOn hL) (fun σ8_373 hσ8_373 => ?_)
        have kσ8_373 : KD σ σ8_373 := kd_trans (kd_refl _) hσ8_373
        refine kp_if ?_ ?_
        · exact kp_some kσ8_373
        · refine kp_if ?_ ?_
          · exact kp_some kσ8_373
          · refine kp_if ?_ ?_
            · exact kp_some kσ8_373
            · refine kp_if ?_ ?_
              · refine kp_nm (fun x10_374 _ => ?_)
                exact kp_some kσ8_373
              · refine kp_if ?_ ?_
                · refine kp_nm (fun x11_375 _ => ?_)
                  exact kp_some kσ8_373
                · refine kp_if ?_ ?_
                  · exact kp_some kσ8_373
                  · refine kp_nm (fun x12_376 _ => ?_)
                    refine kp_bx (fun r13_377 => ?_)
                    exact kp_some kσ8_373
  · refine kp_gd (fun g_378 => ?_)
    unfold F_X11_on_19
    refine kp_bx (fun r4_379 => ?_)
    refine kp_if ?_ ?_
    · refine kp_if ?_ ?_
      · exact kp_some (kd_refl _)
      · unfold F_X11_on_37
        refine kp_bx (fun r6_380 => ?_)
        refine kp_if ?_ ?_
        · exact kp_some (kd_refl _)
        · refine kp_bn (kd_X11_goOn hL) (fun σ8_381 hσ8_381 => ?_)
          have kσ8_381 : KD σ σ8_381 := kd_trans (kd_refl _) hσ8_381
          refine kp_if ?_ ?_
          · exact kp_some kσ8_381
          · refine kp_if ?_ ?_
            · exact kp_some kσ8_381
            · refine kp_if ?_ ?_
              · exact kp_some kσ8_381
              · refine kp_if ?_ ?_
                · refine kp_nm (fun x10_382 _ => ?_)
                  exact kp_some kσ8_381
                · refine kp_if ?_ ?_
                  · refine kp_nm (fun x11_383 _ => ?_)
                    exact kp_some kσ8_381
                  · refine kp_if ?_ ?_
                    · exact kp_some kσ8_381
                    · refine kp_nm (fun x12_384 _ => ?_)
                      refine kp_bx (fun r13_385 => ?_)
                      exact kp_some kσ8_381
    · unfold F_X11_on_37
      refine kp_bx (fun r6_386 => ?_)
      refine kp_if ?_ ?_
      · exact kp_some (kd_refl _)
      · refine kp_bn (kd_X11_goOn hL) (fun σ8_387 hσ8_387 => ?_)
        have kσ8_387 : KD σ σ8_387 := kd_trans (kd_refl _) hσ8_387
        refine kp_if ?_ ?_
        · exact kp_some kσ8_387
        · refine kp_if ?_ ?_
          · exact kp_some kσ8_387
          · refine kp_if ?_ ?_
            · exact kp_some kσ8_387
            · refine kp_if ?_ ?_
              · refine kp_nm (fun x10_388 _ => ?_)
                exact kp_some kσ8_387
              · refine kp_if ?_ ?_
                · refine kp_nm (fun x11_389 _ => ?_)
                  exact kp_some kσ8_387
                · refine kp_if ?_ ?_
                  · exact kp_some kσ8_387
                  · refine kp_nm (fun x12_390 _ => ?_)
                    refine kp_bx (fun r13_391 => ?_)
                    exact kp_some kσ8_387

set_option maxRecDepth 100000 in
theorem kd_X11_toasted {N : Nat} {K len : Nat → Nat} {a1 : Int32} {a2 : Int32} {σ : SG} {ρ : RG} (hL : Lay N K len ρ) : kp (F_X11_toasted N K len a1 a2 σ ρ) (fun q => KD σ q.2) := by
  unfold F_X11_toasted
  refine kp_bx (fun r1_392 => ?_)
  refine kp_if ?_ ?_
  · exact kp_some (kd_refl _)
  · refine kp_bx (fun r3_393 => ?_)
    refine kp_if ?_ ?_
    · exact kp_some (kd_refl _)
    · refine kp_bn (kd_X11_goOn hL) (fun σ5_394 hσ5_394 => ?_)
      have kσ5_394 : KD σ σ5_394 := kd_trans (kd_refl _) hσ5_394
      exact kp_some kσ5_394

set_option maxRecDepth 100000 in
theorem kd_X11_lasts {N : Nat} {K len : Nat → Nat} {σ : SG} {ρ : RG} (hL : Lay N K len ρ) : kp (F_X11_lasts N K len σ ρ) (fun q => KD σ q.2) := by
  unfold F_X11_lasts
  refine kp_bn (kd_X11_goOn hL) (fun σ1_395 hσ1_395 => ?_)
  have kσ1_395 : KD σ σ1_395 := kd_trans (kd_refl _) hσ1_395
  refine kp_nm (fun x2_396 _ => ?_)
  exact kp_some kσ1_395

set_option maxRecDepth 100000 in
theorem kd_X11_tryOrders_B_40 {N : Nat} {K len : Nat → Nat} {R : Int32 → Int32 → Int32 → SG → RG → Option (SG)} {a1 : Int32} {a2 : Int32} {a3 : Int32} {ρ : RG} (hL : Lay N K len ρ) (hR : ∀ (y0 : Int32) (y1 : Int32) (y2 : Int32) (σ : SG), kp (R y0 y1 y2 σ ρ) (fun q => KD σ q)) : ∀ (n : Nat) (σ : SG) (v1 : Int32) (v2 : Int32) (v3 : Int32) (v4 : Int32), kp (F_X11_tryOrders_B_40 N K len R a1 a2 a3 n σ ρ v1 v2 v3 v4) (fun q => KD σ q) := by
  intro n
  induction n with
  | zero => intro σ v1 v2 v3 v4; exact kp_none
  | succ n ih =>
    intro σ v1 v2 v3 v4
    unfold F_X11_tryOrders_B_40
    refine kp_if ?_ ?_
    · exact kp_some (kd_refl _)
    · refine kp_if ?_ ?_
      · exact kp_some (kd_refl _)
      · refine kp_nm (fun x4_400 _ => ?_)
        refine kp_nm (fun x5_401 _ => ?_)
        refine kp_if ?_ ?_
        · refine kp_bx (fun o8_402 => ?_)
          refine kp_oc ?_ (fun c9_403 => ?_)
          · refine kp_bx (fun r10_404 => ?_)
            refine kp_if ?_ ?_
            · unfold F_X11_tryOrders_B_132
              refine kp_nm (fun x7_405 _ => ?_)
              exact kp_tr_kd (ih _ _ _ _ _) (kd_refl _)
            · refine kp_gd (fun _ => ?_)
              refine kp_nm (fun σ14_406 hσ14_406 => ?_)
              have kσ14_406 : KD σ σ14_406 := by rw [hσ14_406]; exact kd_trans (kd_refl _) (kd_row (by decide))
              refine kp_nm (fun x15_407 _ => ?_)
              refine kp_gd (fun g_408 => ?_)
              refine kp_oce ?_ (fun c17_409 o_410 => ?_)
              · exact kp_none
              · refine kp_gd (fun g_411 => ?_)
                refine kp_nm (fun x18_412 _ => ?_)
                refine kp_nm (fun x19_413 _ => ?_)
                refine kp_nm (fun x20_414 _ => ?_)
                refine kp_nm (fun x21_415 _ => ?_)
                refine kp_nm (fun x22_416 _ => ?_)
                refine kp_bn (hR _ _ _ _) (fun σ23_417 hσ23_417 => ?_)
                have kσ23_417 : KD σ σ23_417 := kd_trans kσ14_406 hσ23_417
                unfold F_X11_tryOrders_B_132
                refine kp_nm (fun x7_418 _ => ?_)
                exact kp_tr_kd (ih _ _ _ _ _) kσ23_417
          · refine kp_gd (fun g_419 => ?_)
            refine kp_bn2 (kd_X11_tryStep hL g_419) (fun r24_420 σ24_421 hr24_420 => ?_)
            have kσ24_421 : KD σ σ24_421 := kd_trans (kd_refl _) hr24_420
            refine kp_if ?_ ?_
            · unfold F_X11_tryOrders_B_132
              refine kp_nm (fun x7_422 _ => ?_)
              exact kp_tr_kd (ih _ _ _ _ _) kσ24_421
            · refine kp_gd (fun _ => ?_)
              refine kp_nm (fun σ28_423 hσ28_423 => ?_)
              have kσ28_423 : KD σ σ28_423 := by rw [hσ28_423]; exact kd_trans kσ24_421 (kd_row (by decide))
              refine kp_nm (fun x29_424 _ => ?_)
              refine kp_gd (fun g_425 => ?_)
              refine kp_oce ?_ (fun c31_426 o_427 => ?_)
              · exact kp_none
              · refine kp_gd (fun g_428 => ?_)
                refine kp_nm (fun x32_429 _ => ?_)
                refine kp_nm (fun x33_430 _ => ?_)
                refine kp_nm (fun x34_431 _ => ?_)
                refine kp_nm (fun x35_432 _ => ?_)
                refine kp_nm (fun x36_433 _ => ?_)
                refine kp_bn (hR _ _ _ _) (fun σ37_434 hσ37_434 => ?_)
                have kσ37_434 : KD σ σ37_434 := kd_trans kσ28_423 hσ37_434
                unfold F_X11_tryOrders_B_132
                refine kp_nm (fun x7_435 _ => ?_)
                exact kp_tr_kd (ih _ _ _ _ _) kσ37_434
        · unfold F_X11_tryOrders_B_132
          refine kp_nm (fun x7_436 _ => ?_)
          exact kp_tr_kd (ih _ _ _ _ _) (kd_refl _)

set_option maxRecDepth 100000 in
theorem kd_X11_keepPath_7 {N : Nat} {K len : Nat → Nat} {a1 : Int32} {ρ : RG} (hL : Lay N K len ρ) : ∀ (n : Nat) (σ : SG) (v1 : Int32) (v2 : Int32), kp (F_X11_keepPath_7 a1 n σ ρ v1 v2) (fun q => KD σ q) := by
  intro n
  induction n with
  | zero => intro σ v1 v2; exact kp_none
  | succ n ih =>
    intro σ v1 v2
    unfold F_X11_keepPath_7
    refine kp_if ?_ ?_
    · exact kp_some (kd_refl _)
    · refine kp_if ?_ ?_
      · exact kp_some (kd_refl _)
      · refine kp_if ?_ ?_
        · exact kp_some (kd_refl _)
        · refine kp_gd (fun _ => ?_)
          refine kp_gd (fun _ => ?_)
          refine kp_nm (fun σ9_440 hσ9_440 => ?_)
          have kσ9_440 : KD σ σ9_440 := by rw [hσ9_440]; exact kd_trans (kd_refl _) (kd_row (by decide))
          refine kp_nm (fun x10_441 _ => ?_)
          exact kp_tr_kd (ih _ _ _) kσ9_440

set_option maxRecDepth 100000 in
theorem kd_X11_keepPath {N : Nat} {K len : Nat → Nat} {a1 : Int32} {σ : SG} {ρ : RG} (hL : Lay N K len ρ) : kp (F_X11_keepPath a1 σ ρ) (fun q => KD σ q) := by
  unfold F_X11_keepPath
  refine kp_nm (fun σ2_439 hσ2_439 => ?_)
  have kσ2_439 : KD σ σ2_439 := by rw [hσ2_439]; exact kd_trans (kd_refl _) (kd_lit (by decide))
  exact kp_tr_kd (kd_X11_keepPath_7 hL 1024 _ _ _) kσ2_439

set_option maxRecDepth 100000 in
theorem kd_X11_tryOrders_B {N : Nat} {K len : Nat → Nat} {R : Int32 → Int32 → Int32 → SG → RG → Option (SG)} {a1 : Int32} {a2 : Int32} {a3 : Int32} {σ : SG} {ρ : RG} (hL : Lay N K len ρ) (hR : ∀ (y0 : Int32) (y1 : Int32) (y2 : Int32) (σ : SG), kp (R y0 y1 y2 σ ρ) (fun q => KD σ q)) : kp (F_X11_tryOrders_B N K len R a1 a2 a3 σ ρ) (fun q => KD σ q) := by
  unfold F_X11_tryOrders_B
  refine kp_if ?_ ?_
  · exact kp_tr_kd (kd_X11_tryOrders_B_40 hL hR 1024 _ _ _ _ _) (kd_refl _)
  · refine kp_if ?_ ?_
    · unfold F_X11_tryOrders_B_26
      refine kp_nm (fun σ40_437 hσ40_437 => ?_)
      have kσ40_437 : KD σ σ40_437 := by rw [hσ40_437]; exact kd_trans (kd_refl _) (kd_lit (by decide))
      refine kp_bn (kd_X11_keepPath hL) (fun σ41_438 hσ41_438 => ?_)
      have kσ41_438 : KD σ σ41_438 := kd_trans kσ40_437 hσ41_438
      exact kp_some kσ41_438
    · refine kp_if ?_ ?_
      · exact kp_some (kd_refl _)
      · unfold F_X11_tryOrders_B_26
        refine kp_nm (fun σ40_442 hσ40_442 => ?_)
        have kσ40_442 : KD σ σ40_442 := by rw [hσ40_442]; exact kd_trans (kd_refl _) (kd_lit (by decide))
        refine kp_bn (kd_X11_keepPath hL) (fun σ41_443 hσ41_443 => ?_)
        have kσ41_443 : KD σ σ41_443 := kd_trans kσ40_442 hσ41_443
        exact kp_some kσ41_443

theorem kd_X11_tryOrders_R {N : Nat} {K len : Nat → Nat} {ρ : RG} (hL : Lay N K len ρ) : ∀ (d : Nat) (a1 : Int32) (a2 : Int32) (a3 : Int32) (σ : SG), kp (F_X11_tryOrders_R N K len d a1 a2 a3 σ ρ) (fun q => KD σ q) := by
  intro d
  induction d with
  | zero => intro a1 a2 a3 σ; exact kp_none
  | succ d ih =>
    intro a1 a2 a3 σ
    exact kd_X11_tryOrders_B hL ih

theorem kd_X11_tryOrders {N : Nat} {K len : Nat → Nat} {a1 : Int32} {a2 : Int32} {a3 : Int32} {σ : SG} {ρ : RG} (hL : Lay N K len ρ) : kp (F_X11_tryOrders N K len a1 a2 a3 σ ρ) (fun q => KD σ q) := kd_X11_tryOrders_R hL _ _ _ _ _

set_option maxRecDepth 100000 in
theorem kd_X11_order {N : Nat} {K len : Nat → Nat} {a1 : Int32} {σ : SG} {ρ : RG} (hL : Lay N K len ρ) : kp (F_X11_order N K len a1 σ ρ) (fun q => KD σ q.2) := by
  unfold F_X11_order
  refine kp_bx (fun r1_397 => ?_)
  refine kp_if ?_ ?_
  · exact kp_some (kd_refl _)
  · refine kp_if ?_ ?_
    · refine kp_bn (kd_X11_startSteps hL) (fun σ4_398 hσ4_398 => ?_)
      have kσ4_398 : KD σ σ4_398 := kd_trans (kd_refl _) hσ4_398
      refine kp_bn (kd_X11_tryOrders hL) (fun σ5_399 hσ5_399 => ?_)
      have kσ5_399 : KD σ σ5_399 := kd_trans kσ4_398 hσ5_399
      refine kp_if ?_ ?_
      · exact kp_some kσ5_399
      · refine kp_if ?_ ?_
        · refine kp_if ?_ ?_
          · refine kp_bx (fun r9_444 => ?_)
            exact kp_some kσ5_399
          · exact kp_some kσ5_399
        · exact kp_some kσ5_399
    · exact kp_some (kd_refl _)

set_option maxRecDepth 100000 in
theorem kd_X11_cancel_45 {N : Nat} {K len : Nat → Nat} {rec_11 : SG → RG → Int32 → Int32 → Int32 → Option (Int32 × SG)} {ρ : RG} (hL : Lay N K len ρ) (hrec_11 : ∀ (σ : SG) (y2 : Int32) (y3 : Int32) (y4 : Int32), kp (rec_11 σ ρ y2 y3 y4) (fun q => KD σ q.2)) : ∀ (n : Nat) (σ : SG) (v1 : Int32) (v2 : Int32) (v3 : Int32) (v4 : Int32), kp (F_X11_cancel_45 N K len rec_11 n σ ρ v1 v2 v3 v4) (fun q => KD σ q.2) := by
  intro n
  induction n with
  | zero => intro σ v1 v2 v3 v4; exact kp_none
  | succ n ih =>
    intro σ v1 v2 v3 v4
    unfold F_X11_cancel_45
    refine kp_if ?_ ?_
    · unfold F_X11_cancel_118
      refine kp_nm (fun x8_450 _ => ?_)
      exact kp_tr2_kd (hrec_11 _ _ _ _) (kd_refl _)
    · refine kp_bx (fun o9_451 => ?_)
      refine kp_oc ?_ (fun c10_452 => ?_)
      · refine kp_bx (fun r11_453 => ?_)
        refine kp_if ?_ ?_
        · unfold F_X11_cancel_112
          refine kp_nm (fun x13_454 _ => ?_)
          exact kp_tr2_kd (ih _ _ _ _ _) (kd_refl _)
        · refine kp_if ?_ ?_
          · unfold F_X11_cancel_94
            refine kp_bx (fun r15_455 => ?_)
            refine kp_nm (fun x16_456 _ => ?_)
            refine kp_nm (fun x17_457 _ => ?_)
            unfold F_X11_cancel_112
            refine kp_nm (fun x13_458 _ => ?_)
            exact kp_tr2_kd (ih _ _ _ _ _) (kd_refl _)
          · refine kp_bx (fun r18_459 => ?_)
            refine kp_if ?_ ?_
            · unfold F_X11_cancel_112
              refine kp_nm (fun x13_460 _ => ?_)
              exact kp_tr2_kd (ih _ _ _ _ _) (kd_refl _)
            · unfold F_X11_cancel_94
              refine kp_bx (fun r15_461 => ?_)
              refine kp_nm (fun x16_462 _ => ?_)
              refine kp_nm (fun x17_463 _ => ?_)
              unfold F_X11_cancel_112
              refine kp_nm (fun x13_464 _ => ?_)
              exact kp_tr2_kd (ih _ _ _ _ _) (kd_refl _)
      · refine kp_gd (fun g_465 => ?_)
        refine kp_bn2 (kd_X11_tryStep hL g_465) (fun r20_466 σ20_467 hr20_466 => ?_)
        have kσ20_467 : KD σ σ20_467 := kd_trans (kd_refl _) hr20_466
        refine kp_if ?_ ?_
        · unfold F_X11_cancel_112
          refine kp_nm (fun x13_468 _ => ?_)
          exact kp_tr2_kd (ih _ _ _ _ _) kσ20_467
        · refine kp_if ?_ ?_
          · unfold F_X11_cancel_94
            refine kp_bx (fun r15_469 => ?_)
            refine kp_nm (fun x16_470 _ => ?_)
            refine kp_nm (fun x17_471 _ => ?_)
            unfold F_X11_cancel_112
            refine kp_nm (fun x13_472 _ => ?_)
            exact kp_tr2_kd (ih _ _ _ _ _) kσ20_467
          · refine kp_bx (fun r23_473 => ?_)
            refine kp_if ?_ ?_
            · unfold F_X11_cancel_112
              refine kp_nm (fun x13_474 _ => ?_)
              exact kp_tr2_kd (ih _ _ _ _ _) kσ20_467
            · unfold F_X11_cancel_94
              refine kp_bx (fun r15_475 => ?_)
              refine kp_nm (fun x16_476 _ => ?_)
              refine kp_nm (fun x17_477 _ => ?_)
              unfold F_X11_cancel_112
              refine kp_nm (fun x13_478 _ => ?_)
              exact kp_tr2_kd (ih _ _ _ _ _) kσ20_467

set_option maxRecDepth 100000 in
theorem kd_X11_cancel_11 {N : Nat} {K len : Nat → Nat} {ρ : RG} (hL : Lay N K len ρ) : ∀ (n : Nat) (σ : SG) (v1 : Int32) (v2 : Int32) (v3 : Int32), kp (F_X11_cancel_11 N K len n σ ρ v1 v2 v3) (fun q => KD σ q.2) := by
  intro n
  induction n with
  | zero => intro σ v1 v2 v3; exact kp_none
  | succ n ih =>
    intro σ v1 v2 v3
    unfold F_X11_cancel_11
    refine kp_if ?_ ?_
    · exact kp_some (kd_refl _)
    · refine kp_bx (fun o3_446 => ?_)
      refine kp_oc ?_ (fun c4_447 => ?_)
      · refine kp_bx (fun r5_448 => ?_)
        refine kp_if ?_ ?_
        · unfold F_X11_cancel_118
          refine kp_nm (fun x8_449 _ => ?_)
          exact kp_tr2_kd (ih _ _ _ _) (kd_refl _)
        · exact kp_tr2_kd (kd_X11_cancel_45 hL (fun x0 x1 x2 x3 => ih x0 x1 x2 x3) 1024 _ _ _ _ _) (kd_refl _)
      · refine kp_gd (fun g_479 => ?_)
        refine kp_bn2 (kd_X11_tryStep hL g_479) (fun r25_480 σ25_481 hr25_480 => ?_)
        have kσ25_481 : KD σ σ25_481 := kd_trans (kd_refl _) hr25_480
        refine kp_if ?_ ?_
        · unfold F_X11_cancel_118
          refine kp_nm (fun x8_482 _ => ?_)
          exact kp_tr2_kd (ih _ _ _ _) kσ25_481
        · exact kp_tr2_kd (kd_X11_cancel_45 hL (fun x0 x1 x2 x3 => ih x0 x1 x2 x3) 1024 _ _ _ _ _) kσ25_481

set_option maxRecDepth 100000 in
theorem kd_X11_cancel {N : Nat} {K len : Nat → Nat} {σ : SG} {ρ : RG} (hL : Lay N K len ρ) : kp (F_X11_cancel N K len σ ρ) (fun q => KD σ q.2) := by
  unfold F_X11_cancel
  refine kp_bn (kd_X11_startSteps hL) (fun σ1_445 hσ1_445 => ?_)
  have kσ1_445 : KD σ σ1_445 := kd_trans (kd_refl _) hσ1_445
  exact kp_tr2_kd (kd_X11_cancel_11 hL 1024 _ _ _ _) kσ1_445

set_option maxRecDepth 100000 in
theorem kd_X11_enough_21 {N : Nat} {K len : Nat → Nat} {a1 : Int32} {ρ : RG} (hL : Lay N K len ρ) : ∀ (n : Nat) (σ : SG) (r2 : Nat) (v3 : Int32), isC N K r2 = true → kp (F_X11_enough_21 N K len a1 n σ ρ r2 v3) (fun q => KD σ q.2) := by
  intro n
  induction n with
  | zero => intro σ r2 v3 f_r2; exact kp_none
  | succ n ih =>
    intro σ r2 v3 f_r2
    unfold F_X11_enough_21
    refine kp_gd (fun g_487 => ?_)
    refine kp_if ?_ ?_
    · exact kp_some (kd_refl _)
    · refine kp_bn2 (kd_X11_tryStep hL g_487) (fun r5_488 σ5_489 hr5_488 => ?_)
      have kσ5_489 : KD σ σ5_489 := kd_trans (kd_refl _) hr5_488
      refine kp_if ?_ ?_
      · unfold F_X11_enough_61
        refine kp_gd (fun g_490 => ?_)
        refine kp_nm (fun x7_491 _ => ?_)
        exact kp_tr2_kd (ih _ _ _ g_490) kσ5_489
      · refine kp_if ?_ ?_
        · unfold F_X11_enough_61
          refine kp_gd (fun g_492 => ?_)
          refine kp_nm (fun x7_493 _ => ?_)
          exact kp_tr2_kd (ih _ _ _ g_492) kσ5_489
        · exact kp_some kσ5_489

set_option maxRecDepth 100000 in
theorem kd_X11_enough {N : Nat} {K len : Nat → Nat} {a1 : Int32} {σ : SG} {ρ : RG} (hL : Lay N K len ρ) : kp (F_X11_enough N K len a1 σ ρ) (fun q => KD σ q.2) := by
  unfold F_X11_enough
  refine kp_bx (fun o1_483 => ?_)
  refine kp_oc ?_ (fun c2_484 => ?_)
  · exact kp_some (kd_refl _)
  · refine kp_gd (fun g_485 => ?_)
    refine kp_bn (kd_X11_startSteps hL) (fun σ3_486 hσ3_486 => ?_)
    have kσ3_486 : KD σ σ3_486 := kd_trans (kd_refl _) hσ3_486
    exact kp_tr2_kd (kd_X11_enough_21 hL 1024 _ _ _ g_485) kσ3_486

set_option maxRecDepth 100000 in
theorem kd_X11_when_44 {N : Nat} {K len : Nat → Nat} {a1 : Int32} {a2 : Int32} {ρ : RG} (hL : Lay N K len ρ) : ∀ (n : Nat) (σ : SG) (v1 : Int32) (v2 : Int32) (v3 : Int32) (v4 : Int32) (v5 : Int32), kp (F_X11_when_44 N K len a1 a2 n σ ρ v1 v2 v3 v4 v5) (fun q => KD σ q.2) := by
  intro n
  induction n with
  | zero => intro σ v1 v2 v3 v4 v5; exact kp_none
  | succ n ih =>
    intro σ v1 v2 v3 v4 v5
    unfold F_X11_when_44
    refine kp_if ?_ ?_
    · refine kp_if ?_ ?_
      · exact kp_some (kd_refl _)
      · refine kp_if ?_ ?_
        · exact kp_some (kd_refl _)
        · exact kp_some (kd_refl _)
    · refine kp_bn (kd_X11_goOn hL) (fun σ9_497 hσ9_497 => ?_)
      have kσ9_497 : KD σ σ9_497 := kd_trans (kd_refl _) hσ9_497
      refine kp_if ?_ ?_
      · unfold F_X11_when_76
        refine kp_nm (fun x11_498 _ => ?_)
        exact kp_tr2_kd (ih _ _ _ _ _ _) kσ9_497
      · unfold F_X11_when_76
        refine kp_nm (fun x11_499 _ => ?_)
        exact kp_tr2_kd (ih _ _ _ _ _ _) kσ9_497

set_option maxRecDepth 100000 in
theorem kd_X11_when {N : Nat} {K len : Nat → Nat} {a1 : Int32} {a2 : Int32} {σ : SG} {ρ : RG} (hL : Lay N K len ρ) : kp (F_X11_when N K len a1 a2 σ ρ) (fun q => KD σ q.2) := by
  unfold F_X11_when
  refine kp_bx (fun r1_494 => ?_)
  refine kp_if ?_ ?_
  · exact kp_some (kd_refl _)
  · refine kp_bx (fun r3_495 => ?_)
    refine kp_if ?_ ?_
    · exact kp_some (kd_refl _)
    · refine kp_bn (kd_X11_goOn hL) (fun σ5_496 hσ5_496 => ?_)
      have kσ5_496 : KD σ σ5_496 := kd_trans (kd_refl _) hσ5_496
      exact kp_tr2_kd (kd_X11_when_44 hL 1024 _ _ _ _ _ _) kσ5_496

set_option maxRecDepth 100000 in
theorem kd_X11_guide {N : Nat} {K len : Nat → Nat} {a1 : Int32} {σ : SG} {ρ : RG} (hL : Lay N K len ρ) : kp (F_X11_guide N K len a1 σ ρ) (fun q => KD σ q.2) := by
  unfold F_X11_guide
  refine kp_bx (fun r1_500 => ?_)
  refine kp_if ?_ ?_
  · exact kp_some (kd_refl _)
  · refine kp_bn (kd_X11_goOn hL) (fun σ3_501 hσ3_501 => ?_)
    have kσ3_501 : KD σ σ3_501 := kd_trans (kd_refl _) hσ3_501
    refine kp_bn (kd_X11_goOn hL) (fun σ4_502 hσ4_502 => ?_)
    have kσ4_502 : KD σ σ4_502 := kd_trans kσ3_501 hσ4_502
    refine kp_nm (fun x5_503 _ => ?_)
    exact kp_some kσ4_502

set_option maxRecDepth 100000 in
theorem kd_X11_again_31 {N : Nat} {K len : Nat → Nat} {a1 : Int32} {ρ : RG} (hL : Lay N K len ρ) : ∀ (n : Nat) (σ : SG) (r2 : Nat) (v3 : Int32), isC N K r2 = true → kp (F_X11_again_31 N K len a1 n σ ρ r2 v3) (fun q => KD σ q.2) := by
  intro n
  induction n with
  | zero => intro σ r2 v3 f_r2; exact kp_none
  | succ n ih =>
    intro σ r2 v3 f_r2
    unfold F_X11_again_31
    refine kp_gd (fun g_508 => ?_)
    refine kp_if ?_ ?_
    · exact kp_some (kd_refl _)
    · refine kp_bn2 (kd_X3_tryCut hL (by decide) g_508) (fun r5_509 σ5_510 hr5_509 => ?_)
      have kσ5_510 : KD σ σ5_510 := kd_trans (kd_refl _) hr5_509
      refine kp_nm (fun σ7_511 hσ7_511 => ?_)
      have kσ7_511 : KD σ σ7_511 := by rw [hσ7_511]; exact kd_trans kσ5_510 (kd_lit (by decide))
      refine kp_if ?_ ?_
      · refine kp_if ?_ ?_
        · exact kp_some kσ7_511
        · unfold F_X11_again_118
          refine kp_gd (fun g_512 => ?_)
          refine kp_nm (fun x9_513 _ => ?_)
          exact kp_tr2_kd (ih _ _ _ g_512) kσ7_511
      · unfold F_X11_again_118
        refine kp_gd (fun g_514 => ?_)
        refine kp_nm (fun x9_515 _ => ?_)
        exact kp_tr2_kd (ih _ _ _ g_514) kσ7_511

set_option maxRecDepth 100000 in
theorem kd_X11_again {N : Nat} {K len : Nat → Nat} {a1 : Int32} {σ : SG} {ρ : RG} (hL : Lay N K len ρ) : kp (F_X11_again N K len a1 σ ρ) (fun q => KD σ q.2) := by
  unfold F_X11_again
  refine kp_bx (fun o1_504 => ?_)
  refine kp_oc ?_ (fun c2_505 => ?_)
  · exact kp_some (kd_refl _)
  · refine kp_gd (fun g_506 => ?_)
    refine kp_bn (kd_X3_takes hL (by decide)) (fun σ3_507 hσ3_507 => ?_)
    have kσ3_507 : KD σ σ3_507 := kd_trans (kd_refl _) hσ3_507
    exact kp_tr2_kd (kd_X11_again_31 hL 1024 _ _ _ g_506) kσ3_507

set_option maxRecDepth 100000 in
theorem kd_X11_evener_44 {N : Nat} {K len : Nat → Nat} {a1 : Int32} {a2 : Int32} {ρ : RG} (hL : Lay N K len ρ) : ∀ (n : Nat) (σ : SG) (v2 : Int32) (v3 : Int32) (v4 : Int32) (v5 : Int32) (v6 : Int32), kp (F_X11_evener_44 N K len a1 a2 n σ ρ v2 v3 v4 v5 v6) (fun q => KD σ q.2) := by
  intro n
  induction n with
  | zero => intro σ v2 v3 v4 v5 v6; exact kp_none
  | succ n ih =>
    intro σ v2 v3 v4 v5 v6
    unfold F_X11_evener_44
    refine kp_if ?_ ?_
    · refine kp_if ?_ ?_
      · exact kp_some (kd_refl _)
      · refine kp_if ?_ ?_
        · exact kp_some (kd_refl _)
        · refine kp_nm (fun x9_519 _ => ?_)
          exact kp_some (kd_refl _)
    · refine kp_bx (fun o10_520 => ?_)
      refine kp_oc ?_ (fun c11_521 => ?_)
      · unfold F_X11_evener_91
        refine kp_if ?_ ?_
        · unfold F_X11_evener_110
          refine kp_if ?_ ?_
          · unfold F_X11_evener_125
            unfold F_X11_evener_132
            refine kp_nm (fun x15_522 _ => ?_)
            exact kp_tr2_kd (ih _ _ _ _ _ _) (kd_refl _)
          · refine kp_if ?_ ?_
            · unfold F_X11_evener_132
              refine kp_nm (fun x15_523 _ => ?_)
              exact kp_tr2_kd (ih _ _ _ _ _ _) (kd_refl _)
            · unfold F_X11_evener_125
              unfold F_X11_evener_132
              refine kp_nm (fun x15_524 _ => ?_)
              exact kp_tr2_kd (ih _ _ _ _ _ _) (kd_refl _)
        · refine kp_nm (fun x13_525 _ => ?_)
          unfold F_X11_evener_110
          refine kp_if ?_ ?_
          · unfold F_X11_evener_125
            unfold F_X11_evener_132
            refine kp_nm (fun x15_526 _ => ?_)
            exact kp_tr2_kd (ih _ _ _ _ _ _) (kd_refl _)
          · refine kp_if ?_ ?_
            · unfold F_X11_evener_132
              refine kp_nm (fun x15_527 _ => ?_)
              exact kp_tr2_kd (ih _ _ _ _ _ _) (kd_refl _)
            · unfold F_X11_evener_125
              unfold F_X11_evener_132
              refine kp_nm (fun x15_528 _ => ?_)
              exact kp_tr2_kd (ih _ _ _ _ _ _) (kd_refl _)
      · refine kp_gd (fun g_529 => ?_)
        refine kp_bx (fun r17_530 => ?_)
        refine kp_nm (fun x18_531 _ => ?_)
        unfold F_X11_evener_91
        refine kp_if ?_ ?_
        · unfold F_X11_evener_110
          refine kp_if ?_ ?_
          · unfold F_X11_evener_125
            unfold F_X11_evener_132
            refine kp_nm (fun x15_532 _ => ?_)
            exact kp_tr2_kd (ih _ _ _ _ _ _) (kd_refl _)
          · refine kp_if ?_ ?_
            · unfold F_X11_evener_132
              refine kp_nm (fun x15_533 _ => ?_)
              exact kp_tr2_kd (ih _ _ _ _ _ _) (kd_refl _)
            · unfold F_X11_evener_125
              unfold F_X11_evener_132
              refine kp_nm (fun x15_534 _ => ?_)
              exact kp_tr2_kd (ih _ _ _ _ _ _) (kd_refl _)
        · refine kp_nm (fun x13_535 _ => ?_)
          unfold F_X11_evener_110
          refine kp_if ?_ ?_
          · unfold F_X11_evener_125
            unfold F_X11_evener_132
            refine kp_nm (fun x15_536 _ => ?_)
            exact kp_tr2_kd (ih _ _ _ _ _ _) (kd_refl _)
          · refine kp_if ?_ ?_
            · unfold F_X11_evener_132
              refine kp_nm (fun x15_537 _ => ?_)
              exact kp_tr2_kd (ih _ _ _ _ _ _) (kd_refl _)
            · unfold F_X11_evener_125
              unfold F_X11_evener_132
              refine kp_nm (fun x15_538 _ => ?_)
              exact kp_tr2_kd (ih _ _ _ _ _ _) (kd_refl _)

set_option maxRecDepth 100000 in
theorem kd_X11_evener {N : Nat} {K len : Nat → Nat} {a1 : Int32} {a2 : Int32} {σ : SG} {ρ : RG} (hL : Lay N K len ρ) : kp (F_X11_evener N K len a1 a2 σ ρ) (fun q => KD σ q.2) := by
  unfold F_X11_evener
  refine kp_bx (fun r1_516 => ?_)
  refine kp_if ?_ ?_
  · exact kp_some (kd_refl _)
  · refine kp_bx (fun r3_517 => ?_)
    refine kp_if ?_ ?_
    · exact kp_some (kd_refl _)
    · refine kp_bn (kd_X11_goOn hL) (fun σ5_518 hσ5_518 => ?_)
      have kσ5_518 : KD σ σ5_518 := kd_trans (kd_refl _) hσ5_518
      exact kp_tr2_kd (kd_X11_evener_44 hL 1024 _ _ _ _ _ _) kσ5_518

set_option maxRecDepth 100000 in
theorem kd_X11_bestOf_B_28 {N : Nat} {K len : Nat → Nat} {R : Nat → Nat → Int32 → Int32 → SG → RG → Option (Int32 × SG)} {z : Nat} {z2 : Nat} {a3 : Int32} {a4 : Int32} {ρ : RG} (hL : Lay N K len ρ) (hR : ∀ (y0 : Nat) (y1 : Nat) (y2 : Int32) (y3 : Int32) (σ : SG), isC N K y0 = true → isC N K y1 = true → kp (R y0 y1 y2 y3 σ ρ) (fun q => KD σ q.2)) (f_z : isC N K z = true) (f_z2 : isC N K z2 = true) : ∀ (n : Nat) (σ : SG) (r1 : Nat) (r2 : Nat) (v3 : Int32) (v4 : Int32) (v5 : Int32) (v6 : Int32) (v7 : Int32), isC N K r1 = true → isC N K r2 = true → kp (F_X11_bestOf_B_28 N K len R z z2 a3 a4 n σ ρ r1 r2 v3 v4 v5 v6 v7) (fun q => KD σ q.2) := by
  intro n
  induction n with
  | zero => intro σ r1 r2 v3 v4 v5 v6 v7 f_r1 f_r2; exact kp_none
  | succ n ih =>
    intro σ r1 r2 v3 v4 v5 v6 v7 f_r1 f_r2
    unfold F_X11_bestOf_B_28
    refine kp_gd (fun g_554 => ?_)
    refine kp_gd (fun g_555 => ?_)
    refine kp_if ?_ ?_
    · refine kp_if ?_ ?_
      · refine kp_nm (fun x9_556 _ => ?_)
        refine kp_gd (fun g_557 => ?_)
        refine kp_oce ?_ (fun c11_558 o_559 => ?_)
        · exact kp_none
        · refine kp_gd (fun g_560 => ?_)
          refine kp_gd (fun g_561 => ?_)
          refine kp_oce ?_ (fun c13_562 o_563 => ?_)
          · exact kp_none
          · refine kp_gd (fun g_564 => ?_)
            refine kp_bn (kd_X3_takes hL (lx_34 hL g_557 o_559)) (fun σ14_565 hσ14_565 => ?_)
            have kσ14_565 : KD σ σ14_565 := kd_trans (kd_refl _) hσ14_565
            refine kp_nm (fun x15_566 _ => ?_)
            refine kp_nm (fun x16_567 _ => ?_)
            refine kp_bn2 (hR _ _ _ _ _ g_555 g_554) (fun r17_568 σ17_569 hr17_568 => ?_)
            have kσ17_569 : KD σ σ17_569 := kd_trans kσ14_565 hr17_568
            refine kp_nm (fun x18_570 _ => ?_)
            unfold F_X11_bestOf_B_144
            refine kp_if ?_ ?_
            · refine kp_nm (fun σ8_571 hσ8_571 => ?_)
              have kσ8_571 : KD σ σ8_571 := by rw [hσ8_571]; exact kd_trans kσ17_569 (kd_lit (by decide))
              exact kp_some kσ8_571
            · exact kp_some kσ17_569
      · unfold F_X11_bestOf_B_144
        refine kp_if ?_ ?_
        · refine kp_nm (fun σ8_572 hσ8_572 => ?_)
          have kσ8_572 : KD σ σ8_572 := by rw [hσ8_572]; exact kd_trans (kd_refl _) (kd_lit (by decide))
          exact kp_some kσ8_572
        · exact kp_some (kd_refl _)
    · refine kp_bx (fun r19_573 => ?_)
      refine kp_bn2 (kd_X11_tryStep hL g_554) (fun r20_574 σ20_575 hr20_574 => ?_)
      have kσ20_575 : KD σ σ20_575 := kd_trans (kd_refl _) hr20_574
      refine kp_if ?_ ?_
      · unfold F_X11_bestOf_B_98
        refine kp_gd (fun g_576 => ?_)
        refine kp_gd (fun g_577 => ?_)
        refine kp_nm (fun x22_578 _ => ?_)
        exact kp_tr2_kd (ih _ _ _ _ _ _ _ _ g_576 g_577) kσ20_575
      · refine kp_nm (fun x23_579 _ => ?_)
        refine kp_gd (fun g_580 => ?_)
        refine kp_oce ?_ (fun c25_581 o_582 => ?_)
        · exact kp_none
        · refine kp_gd (fun g_583 => ?_)
          refine kp_nm (fun x26_584 _ => ?_)
          refine kp_nm (fun x27_585 _ => ?_)
          refine kp_bn2 (hR _ _ _ _ _ g_555 g_554) (fun r28_586 σ28_587 hr28_586 => ?_)
          have kσ28_587 : KD σ σ28_587 := kd_trans kσ20_575 hr28_586
          refine kp_nm (fun x29_588 _ => ?_)
          refine kp_if ?_ ?_
          · unfold F_X11_bestOf_B_90
            refine kp_gd (fun g_589 => ?_)
            refine kp_gd (fun g_590 => ?_)
            unfold F_X11_bestOf_B_98
            refine kp_gd (fun g_591 => ?_)
            refine kp_gd (fun g_592 => ?_)
            refine kp_nm (fun x22_593 _ => ?_)
            exact kp_tr2_kd (ih _ _ _ _ _ _ _ _ g_591 g_592) kσ28_587
          · refine kp_if ?_ ?_
            · unfold F_X11_bestOf_B_98
              refine kp_gd (fun g_594 => ?_)
              refine kp_gd (fun g_595 => ?_)
              refine kp_nm (fun x22_596 _ => ?_)
              exact kp_tr2_kd (ih _ _ _ _ _ _ _ _ g_594 g_595) kσ28_587
            · unfold F_X11_bestOf_B_90
              refine kp_gd (fun g_597 => ?_)
              refine kp_gd (fun g_598 => ?_)
              unfold F_X11_bestOf_B_98
              refine kp_gd (fun g_599 => ?_)
              refine kp_gd (fun g_600 => ?_)
              refine kp_nm (fun x22_601 _ => ?_)
              exact kp_tr2_kd (ih _ _ _ _ _ _ _ _ g_599 g_600) kσ28_587

set_option maxRecDepth 100000 in
theorem kd_X11_bestOf_B {N : Nat} {K len : Nat → Nat} {R : Nat → Nat → Int32 → Int32 → SG → RG → Option (Int32 × SG)} {z : Nat} {z2 : Nat} {a3 : Int32} {a4 : Int32} {σ : SG} {ρ : RG} (hL : Lay N K len ρ) (hR : ∀ (y0 : Nat) (y1 : Nat) (y2 : Int32) (y3 : Int32) (σ : SG), isC N K y0 = true → isC N K y1 = true → kp (R y0 y1 y2 y3 σ ρ) (fun q => KD σ q.2)) (f_z : isC N K z = true) (f_z2 : isC N K z2 = true) : kp (F_X11_bestOf_B N K len R z z2 a3 a4 σ ρ) (fun q => KD σ q.2) := by
  unfold F_X11_bestOf_B
  refine kp_if ?_ ?_
  · exact kp_some (kd_refl _)
  · refine kp_nm (fun x2_553 _ => ?_)
    refine kp_if ?_ ?_
    · exact kp_tr2_kd (kd_X11_bestOf_B_28 hL hR f_z f_z2 1024 _ _ _ _ _ _ _ _ f_z f_z2) (kd_refl _)
    · exact kp_some (kd_refl _)

theorem kd_X11_bestOf_R {N : Nat} {K len : Nat → Nat} {ρ : RG} (hL : Lay N K len ρ) : ∀ (d : Nat) (z : Nat) (z2 : Nat) (a3 : Int32) (a4 : Int32) (σ : SG), isC N K z = true → isC N K z2 = true → kp (F_X11_bestOf_R N K len d z z2 a3 a4 σ ρ) (fun q => KD σ q.2) := by
  intro d
  induction d with
  | zero => intro z z2 a3 a4 σ f_z f_z2; exact kp_none
  | succ d ih =>
    intro z z2 a3 a4 σ f_z f_z2
    exact kd_X11_bestOf_B hL ih f_z f_z2

theorem kd_X11_bestOf {N : Nat} {K len : Nat → Nat} {z : Nat} {z2 : Nat} {a3 : Int32} {a4 : Int32} {σ : SG} {ρ : RG} (hL : Lay N K len ρ) (f_z : isC N K z = true) (f_z2 : isC N K z2 = true) : kp (F_X11_bestOf N K len z z2 a3 a4 σ ρ) (fun q => KD σ q.2) := kd_X11_bestOf_R hL _ _ _ _ _ _ f_z f_z2

set_option maxRecDepth 100000 in
theorem kd_X11_game {N : Nat} {K len : Nat → Nat} {a1 : Int32} {a2 : Int32} {a3 : Int32} {a4 : Int32} {σ : SG} {ρ : RG} (hL : Lay N K len ρ) : kp (F_X11_game N K len a1 a2 a3 a4 σ ρ) (fun q => KD σ q.2) := by
  unfold F_X11_game
  refine kp_bx (fun o1_539 => ?_)
  refine kp_oc ?_ (fun c2_540 => ?_)
  · refine kp_bx (fun o3_541 => ?_)
    refine kp_oc ?_ (fun c4_542 => ?_)
    · exact kp_some (kd_refl _)
    · refine kp_gd (fun g_543 => ?_)
      exact kp_some (kd_refl _)
  · refine kp_gd (fun g_544 => ?_)
    refine kp_bx (fun o5_545 => ?_)
    refine kp_oc ?_ (fun c6_546 => ?_)
    · exact kp_some (kd_refl _)
    · refine kp_gd (fun g_547 => ?_)
      refine kp_bx (fun r7_548 => ?_)
      refine kp_if ?_ ?_
      · exact kp_some (kd_refl _)
      · refine kp_if ?_ ?_
        · exact kp_some (kd_refl _)
        · refine kp_bx (fun r10_549 => ?_)
          refine kp_if ?_ ?_
          · exact kp_some (kd_refl _)
          · refine kp_bn (kd_X11_startSteps hL) (fun σ12_550 hσ12_550 => ?_)
            have kσ12_550 : KD σ σ12_550 := kd_trans (kd_refl _) hσ12_550
            refine kp_bn2 (kd_X11_bestOf hL g_544 g_547) (fun r13_551 σ13_552 hr13_551 => ?_)
            have kσ13_552 : KD σ σ13_552 := kd_trans kσ12_550 hr13_551
            refine kp_if ?_ ?_
            · exact kp_some kσ13_552
            · exact kp_some kσ13_552

set_option maxRecDepth 100000 in
theorem kd_X11_who_8 {N : Nat} {K len : Nat → Nat} {ρ : RG} (hL : Lay N K len ρ) : ∀ (n : Nat) (σ : SG) (v1 : Int32) (v2 : Int32), kp (F_X11_who_8 N K len n σ ρ v1 v2) (fun q => KD σ q.2) := by
  intro n
  induction n with
  | zero => intro σ v1 v2; exact kp_none
  | succ n ih =>
    intro σ v1 v2
    unfold F_X11_who_8
    refine kp_if ?_ ?_
    · exact kp_some (kd_refl _)
    · refine kp_bx (fun o3_603 => ?_)
      refine kp_oc ?_ (fun c4_604 => ?_)
      · refine kp_bx (fun r5_605 => ?_)
        refine kp_if ?_ ?_
        · unfold F_X11_who_80
          refine kp_nm (fun x7_606 _ => ?_)
          exact kp_tr2_kd (ih _ _ _) (kd_refl _)
        · refine kp_if ?_ ?_
          · refine kp_if ?_ ?_
            · refine kp_nm (fun x10_607 _ => ?_)
              refine kp_nm (fun x11_608 _ => ?_)
              unfold F_X11_who_80
              refine kp_nm (fun x7_609 _ => ?_)
              exact kp_tr2_kd (ih _ _ _) (kd_refl _)
            · unfold F_X11_who_80
              refine kp_nm (fun x7_610 _ => ?_)
              exact kp_tr2_kd (ih _ _ _) (kd_refl _)
          · unfold F_X11_who_80
            refine kp_nm (fun x7_611 _ => ?_)
            exact kp_tr2_kd (ih _ _ _) (kd_refl _)
      · refine kp_gd (fun g_612 => ?_)
        refine kp_bn2 (kd_X11_tryStep hL g_612) (fun r12_613 σ12_614 hr12_613 => ?_)
        have kσ12_614 : KD σ σ12_614 := kd_trans (kd_refl _) hr12_613
        refine kp_if ?_ ?_
        · unfold F_X11_who_80
          refine kp_nm (fun x7_615 _ => ?_)
          exact kp_tr2_kd (ih _ _ _) kσ12_614
        · refine kp_if ?_ ?_
          · refine kp_if ?_ ?_
            · refine kp_nm (fun x16_616 _ => ?_)
              refine kp_nm (fun x17_617 _ => ?_)
              unfold F_X11_who_80
              refine kp_nm (fun x7_618 _ => ?_)
              exact kp_tr2_kd (ih _ _ _) kσ12_614
            · unfold F_X11_who_80
              refine kp_nm (fun x7_619 _ => ?_)
              exact kp_tr2_kd (ih _ _ _) kσ12_614
          · unfold F_X11_who_80
            refine kp_nm (fun x7_620 _ => ?_)
            exact kp_tr2_kd (ih _ _ _) kσ12_614

set_option maxRecDepth 100000 in
theorem kd_X11_who {N : Nat} {K len : Nat → Nat} {σ : SG} {ρ : RG} (hL : Lay N K len ρ) : kp (F_X11_who N K len σ ρ) (fun q => KD σ q.2) := by
  unfold F_X11_who
  refine kp_bn (kd_X11_startSteps hL) (fun σ1_602 hσ1_602 => ?_)
  have kσ1_602 : KD σ σ1_602 := kd_trans (kd_refl _) hσ1_602
  exact kp_tr2_kd (kd_X11_who_8 hL 1024 _ _ _) kσ1_602

set_option maxRecDepth 100000 in
theorem kd_X11_weekRows_B_29 {N : Nat} {K len : Nat → Nat} {R : Int32 → SG → RG → Option (Int32 × SG)} {a1 : Int32} {ρ : RG} (hL : Lay N K len ρ) (hR : ∀ (y0 : Int32) (σ : SG), kp (R y0 σ ρ) (fun q => KD σ q.2)) : ∀ (n : Nat) (σ : SG) (v1 : Int32) (v2 : Int32) (v3 : Int32), kp (F_X11_weekRows_B_29 N K len R a1 n σ ρ v1 v2 v3) (fun q => KD σ q.2) := by
  intro n
  induction n with
  | zero => intro σ v1 v2 v3; exact kp_none
  | succ n ih =>
    intro σ v1 v2 v3
    unfold F_X11_weekRows_B_29
    refine kp_if ?_ ?_
    · exact kp_some (kd_refl _)
    · refine kp_if ?_ ?_
      · exact kp_some (kd_refl _)
      · refine kp_bx (fun o4_625 => ?_)
        refine kp_oc ?_ (fun c5_626 => ?_)
        · refine kp_bx (fun r6_627 => ?_)
          refine kp_if ?_ ?_
          · unfold F_X11_weekRows_B_108
            refine kp_nm (fun x8_628 _ => ?_)
            exact kp_tr2_kd (ih _ _ _ _) (kd_refl _)
          · refine kp_nm (fun x9_629 _ => ?_)
            refine kp_gd (fun g_630 => ?_)
            refine kp_oce ?_ (fun c11_631 o_632 => ?_)
            · exact kp_none
            · refine kp_gd (fun g_633 => ?_)
              refine kp_bx (fun r12_634 => ?_)
              refine kp_if ?_ ?_
              · refine kp_gd (fun _ => ?_)
                refine kp_nm (fun σ16_635 hσ16_635 => ?_)
                have kσ16_635 : KD σ σ16_635 := by rw [hσ16_635]; exact kd_trans (kd_refl _) (kd_row (by decide))
                refine kp_nm (fun x17_636 _ => ?_)
                refine kp_bn2 (hR _ _) (fun r18_637 σ18_638 hr18_637 => ?_)
                have kσ18_638 : KD σ σ18_638 := kd_trans kσ16_635 hr18_637
                refine kp_nm (fun x19_639 _ => ?_)
                unfold F_X11_weekRows_B_108
                refine kp_nm (fun x8_640 _ => ?_)
                exact kp_tr2_kd (ih _ _ _ _) kσ18_638
              · unfold F_X11_weekRows_B_108
                refine kp_nm (fun x8_641 _ => ?_)
                exact kp_tr2_kd (ih _ _ _ _) (kd_refl _)
        · refine kp_gd (fun g_642 => ?_)
          refine kp_bn2 (kd_X11_tryStep hL g_642) (fun r20_643 σ20_644 hr20_643 => ?_)
          have kσ20_644 : KD σ σ20_644 := kd_trans (kd_refl _) hr20_643
          refine kp_if ?_ ?_
          · unfold F_X11_weekRows_B_108
            refine kp_nm (fun x8_645 _ => ?_)
            exact kp_tr2_kd (ih _ _ _ _) kσ20_644
          · refine kp_nm (fun x22_646 _ => ?_)
            refine kp_gd (fun g_647 => ?_)
            refine kp_oce ?_ (fun c24_648 o_649 => ?_)
            · exact kp_none
            · refine kp_gd (fun g_650 => ?_)
              refine kp_bx (fun r25_651 => ?_)
              refine kp_if ?_ ?_
              · refine kp_gd (fun _ => ?_)
                refine kp_nm (fun σ29_652 hσ29_652 => ?_)
                have kσ29_652 : KD σ σ29_652 := by rw [hσ29_652]; exact kd_trans kσ20_644 (kd_row (by decide))
                refine kp_nm (fun x30_653 _ => ?_)
                refine kp_bn2 (hR _ _) (fun r31_654 σ31_655 hr31_654 => ?_)
                have kσ31_655 : KD σ σ31_655 := kd_trans kσ29_652 hr31_654
                refine kp_nm (fun x32_656 _ => ?_)
                unfold F_X11_weekRows_B_108
                refine kp_nm (fun x8_657 _ => ?_)
                exact kp_tr2_kd (ih _ _ _ _) kσ31_655
              · unfold F_X11_weekRows_B_108
                refine kp_nm (fun x8_658 _ => ?_)
                exact kp_tr2_kd (ih _ _ _ _) kσ20_644

set_option maxRecDepth 100000 in
theorem kd_X11_weekRows_B {N : Nat} {K len : Nat → Nat} {R : Int32 → SG → RG → Option (Int32 × SG)} {a1 : Int32} {σ : SG} {ρ : RG} (hL : Lay N K len ρ) (hR : ∀ (y0 : Int32) (σ : SG), kp (R y0 σ ρ) (fun q => KD σ q.2)) : kp (F_X11_weekRows_B N K len R a1 σ ρ) (fun q => KD σ q.2) := by
  unfold F_X11_weekRows_B
  refine kp_if ?_ ?_
  · exact kp_tr2_kd (kd_X11_weekRows_B_29 hL hR 1024 _ _ _ _) (kd_refl _)
  · refine kp_if ?_ ?_
    · refine kp_bn (kd_X11_keepPath hL) (fun σ34_659 hσ34_659 => ?_)
      have kσ34_659 : KD σ σ34_659 := kd_trans (kd_refl _) hσ34_659
      exact kp_some kσ34_659
    · exact kp_some (kd_refl _)

theorem kd_X11_weekRows_R {N : Nat} {K len : Nat → Nat} {ρ : RG} (hL : Lay N K len ρ) : ∀ (d : Nat) (a1 : Int32) (σ : SG), kp (F_X11_weekRows_R N K len d a1 σ ρ) (fun q => KD σ q.2) := by
  intro d
  induction d with
  | zero => intro a1 σ; exact kp_none
  | succ d ih =>
    intro a1 σ
    exact kd_X11_weekRows_B hL ih

theorem kd_X11_weekRows {N : Nat} {K len : Nat → Nat} {a1 : Int32} {σ : SG} {ρ : RG} (hL : Lay N K len ρ) : kp (F_X11_weekRows N K len a1 σ ρ) (fun q => KD σ q.2) := kd_X11_weekRows_R hL _ _ _

set_option maxRecDepth 100000 in
theorem kd_X11_rows {N : Nat} {K len : Nat → Nat} {a1 : Int32} {σ : SG} {ρ : RG} (hL : Lay N K len ρ) : kp (F_X11_rows N K len a1 σ ρ) (fun q => KD σ q.2) := by
  unfold F_X11_rows
  refine kp_bx (fun r1_621 => ?_)
  refine kp_if ?_ ?_
  · exact kp_some (kd_refl _)
  · refine kp_bn (kd_X11_startSteps hL) (fun σ3_622 hσ3_622 => ?_)
    have kσ3_622 : KD σ σ3_622 := kd_trans (kd_refl _) hσ3_622
    refine kp_bn2 (kd_X11_weekRows hL) (fun r4_623 σ4_624 hr4_623 => ?_)
    have kσ4_624 : KD σ σ4_624 := kd_trans kσ3_622 hr4_623
    refine kp_if ?_ ?_
    · refine kp_if ?_ ?_
      · exact kp_some kσ4_624
      · refine kp_if ?_ ?_
        · exact kp_some kσ4_624
        · refine kp_bx (fun r8_660 => ?_)
          exact kp_some kσ4_624
    · exact kp_some kσ4_624

set_option maxRecDepth 100000 in
theorem kd_X11_goodRows_B_12 {N : Nat} {K len : Nat → Nat} {R : Int32 → Int32 → SG → RG → Option (Int64 × SG)} {a1 : Int32} {a2 : Int32} {ρ : RG} (hL : Lay N K len ρ) (hR : ∀ (y0 : Int32) (y1 : Int32) (σ : SG), kp (R y0 y1 σ ρ) (fun q => KD σ q.2)) : ∀ (n : Nat) (σ : SG) (v1 : Int32) (v2 : Int32) (v3 : Int64) (v5 : Int32), kp (F_X11_goodRows_B_12 N K len R a1 a2 n σ ρ v1 v2 v3 v5) (fun q => KD σ q.2) := by
  intro n
  induction n with
  | zero => intro σ v1 v2 v3 v5; exact kp_none
  | succ n ih =>
    intro σ v1 v2 v3 v5
    unfold F_X11_goodRows_B_12
    refine kp_if ?_ ?_
    · exact kp_some (kd_refl _)
    · refine kp_bx (fun o3_666 => ?_)
      refine kp_oc ?_ (fun c4_667 => ?_)
      · refine kp_bx (fun r5_668 => ?_)
        refine kp_if ?_ ?_
        · unfold F_X11_goodRows_B_77
          refine kp_nm (fun x7_669 _ => ?_)
          exact kp_tr2_kd (ih _ _ _ _ _) (kd_refl _)
        · refine kp_nm (fun x8_670 _ => ?_)
          refine kp_gd (fun g_671 => ?_)
          refine kp_oce ?_ (fun c10_672 o_673 => ?_)
          · exact kp_none
          · refine kp_gd (fun g_674 => ?_)
            refine kp_if ?_ ?_
            · unfold F_X11_goodRows_B_77
              refine kp_nm (fun x7_675 _ => ?_)
              exact kp_tr2_kd (ih _ _ _ _ _) (kd_refl _)
            · refine kp_nm (fun x12_676 _ => ?_)
              refine kp_bn2 (hR _ _ _) (fun r13_677 σ13_678 hr13_677 => ?_)
              have kσ13_678 : KD σ σ13_678 := kd_trans (kd_refl _) hr13_677
              refine kp_nm (fun x14_679 _ => ?_)
              unfold F_X11_goodRows_B_77
              refine kp_nm (fun x7_680 _ => ?_)
              exact kp_tr2_kd (ih _ _ _ _ _) kσ13_678
      · refine kp_gd (fun g_681 => ?_)
        refine kp_bn2 (kd_X11_tryStep hL g_681) (fun r15_682 σ15_683 hr15_682 => ?_)
        have kσ15_683 : KD σ σ15_683 := kd_trans (kd_refl _) hr15_682
        refine kp_if ?_ ?_
        · unfold F_X11_goodRows_B_77
          refine kp_nm (fun x7_684 _ => ?_)
          exact kp_tr2_kd (ih _ _ _ _ _) kσ15_683
        · refine kp_nm (fun x17_685 _ => ?_)
          refine kp_gd (fun g_686 => ?_)
          refine kp_oce ?_ (fun c19_687 o_688 => ?_)
          · exact kp_none
          · refine kp_gd (fun g_689 => ?_)
            refine kp_if ?_ ?_
            · unfold F_X11_goodRows_B_77
              refine kp_nm (fun x7_690 _ => ?_)
              exact kp_tr2_kd (ih _ _ _ _ _) kσ15_683
            · refine kp_nm (fun x21_691 _ => ?_)
              refine kp_bn2 (hR _ _ _) (fun r22_692 σ22_693 hr22_692 => ?_)
              have kσ22_693 : KD σ σ22_693 := kd_trans kσ15_683 hr22_692
              refine kp_nm (fun x23_694 _ => ?_)
              unfold F_X11_goodRows_B_77
              refine kp_nm (fun x7_695 _ => ?_)
              exact kp_tr2_kd (ih _ _ _ _ _) kσ22_693

set_option maxRecDepth 100000 in
theorem kd_X11_goodRows_B {N : Nat} {K len : Nat → Nat} {R : Int32 → Int32 → SG → RG → Option (Int64 × SG)} {a1 : Int32} {a2 : Int32} {σ : SG} {ρ : RG} (hL : Lay N K len ρ) (hR : ∀ (y0 : Int32) (y1 : Int32) (σ : SG), kp (R y0 y1 σ ρ) (fun q => KD σ q.2)) : kp (F_X11_goodRows_B N K len R a1 a2 σ ρ) (fun q => KD σ q.2) := by
  unfold F_X11_goodRows_B
  refine kp_if ?_ ?_
  · exact kp_tr2_kd (kd_X11_goodRows_B_12 hL hR 1024 _ _ _ _ _) (kd_refl _)
  · exact kp_some (kd_refl _)

theorem kd_X11_goodRows_R {N : Nat} {K len : Nat → Nat} {ρ : RG} (hL : Lay N K len ρ) : ∀ (d : Nat) (a1 : Int32) (a2 : Int32) (σ : SG), kp (F_X11_goodRows_R N K len d a1 a2 σ ρ) (fun q => KD σ q.2) := by
  intro d
  induction d with
  | zero => intro a1 a2 σ; exact kp_none
  | succ d ih =>
    intro a1 a2 σ
    exact kd_X11_goodRows_B hL ih

theorem kd_X11_goodRows {N : Nat} {K len : Nat → Nat} {a1 : Int32} {a2 : Int32} {σ : SG} {ρ : RG} (hL : Lay N K len ρ) : kp (F_X11_goodRows N K len a1 a2 σ ρ) (fun q => KD σ q.2) := kd_X11_goodRows_R hL _ _ _ _

set_option maxRecDepth 100000 in
theorem kd_X11_odds_37 {N : Nat} {K len : Nat → Nat} {a1 : Int32} {a2 : Int32} {ρ : RG} (hL : Lay N K len ρ) : ∀ (n : Nat) (σ : SG) (v1 : Int32) (v2 : Int32) (v3 : Int64) (v5 : Int32), kp (F_X11_odds_37 N K len a1 a2 n σ ρ v1 v2 v3 v5) (fun q => KD σ q.2) := by
  intro n
  induction n with
  | zero => intro σ v1 v2 v3 v5; exact kp_none
  | succ n ih =>
    intro σ v1 v2 v3 v5
    unfold F_X11_odds_37
    refine kp_if ?_ ?_
    · refine kp_bn (kd_X11_startSteps hL) (fun σ7_663 hσ7_663 => ?_)
      have kσ7_663 : KD σ σ7_663 := kd_trans (kd_refl _) hσ7_663
      refine kp_bn2 (kd_X11_goodRows hL) (fun r8_664 σ8_665 hr8_664 => ?_)
      have kσ8_665 : KD σ σ8_665 := kd_trans kσ7_663 hr8_664
      refine kp_bx (fun r9_696 => ?_)
      exact kp_some kσ8_665
    · refine kp_nm (fun x10_697 _ => ?_)
      refine kp_nm (fun x11_698 _ => ?_)
      exact kp_tr2_kd (ih _ _ _ _ _) (kd_refl _)

set_option maxRecDepth 100000 in
theorem kd_X11_odds {N : Nat} {K len : Nat → Nat} {a1 : Int32} {a2 : Int32} {σ : SG} {ρ : RG} (hL : Lay N K len ρ) : kp (F_X11_odds N K len a1 a2 σ ρ) (fun q => KD σ q.2) := by
  unfold F_X11_odds
  refine kp_bx (fun r1_661 => ?_)
  refine kp_if ?_ ?_
  · exact kp_some (kd_refl _)
  · refine kp_bx (fun r3_662 => ?_)
    refine kp_if ?_ ?_
    · exact kp_some (kd_refl _)
    · refine kp_if ?_ ?_
      · exact kp_some (kd_refl _)
      · exact kp_tr2_kd (kd_X11_odds_37 hL 1024 _ _ _ _ _) (kd_refl _)

set_option maxRecDepth 100000 in
theorem kd_X11_mean_32 {N : Nat} {K len : Nat → Nat} {a1 : Int32} {ρ : RG} (hL : Lay N K len ρ) : ∀ (n : Nat) (σ : SG) (v1 : Int32) (v2 : Int64) (v4 : Int32), kp (F_X11_mean_32 N K len a1 n σ ρ v1 v2 v4) (fun q => KD σ q.2) := by
  intro n
  induction n with
  | zero => intro σ v1 v2 v4; exact kp_none
  | succ n ih =>
    intro σ v1 v2 v4
    unfold F_X11_mean_32
    refine kp_if ?_ ?_
    · refine kp_bx (fun r6_701 => ?_)
      exact kp_some (kd_refl _)
    · refine kp_bx (fun o7_702 => ?_)
      refine kp_oc ?_ (fun c8_703 => ?_)
      · refine kp_bx (fun r9_704 => ?_)
        refine kp_if ?_ ?_
        · unfold F_X11_mean_75
          refine kp_nm (fun x11_705 _ => ?_)
          exact kp_tr2_kd (ih _ _ _ _) (kd_refl _)
        · refine kp_nm (fun x12_706 _ => ?_)
          unfold F_X11_mean_75
          refine kp_nm (fun x11_707 _ => ?_)
          exact kp_tr2_kd (ih _ _ _ _) (kd_refl _)
      · refine kp_gd (fun g_708 => ?_)
        refine kp_bn2 (kd_X11_tryStep hL g_708) (fun r13_709 σ13_710 hr13_709 => ?_)
        have kσ13_710 : KD σ σ13_710 := kd_trans (kd_refl _) hr13_709
        refine kp_if ?_ ?_
        · unfold F_X11_mean_75
          refine kp_nm (fun x11_711 _ => ?_)
          exact kp_tr2_kd (ih _ _ _ _) kσ13_710
        · refine kp_nm (fun x15_712 _ => ?_)
          unfold F_X11_mean_75
          refine kp_nm (fun x11_713 _ => ?_)
          exact kp_tr2_kd (ih _ _ _ _) kσ13_710

set_option maxRecDepth 100000 in
theorem kd_X11_mean {N : Nat} {K len : Nat → Nat} {a1 : Int32} {σ : SG} {ρ : RG} (hL : Lay N K len ρ) : kp (F_X11_mean N K len a1 σ ρ) (fun q => KD σ q.2) := by
  unfold F_X11_mean
  refine kp_bx (fun r1_699 => ?_)
  refine kp_if ?_ ?_
  · exact kp_some (kd_refl _)
  · refine kp_if ?_ ?_
    · exact kp_some (kd_refl _)
    · refine kp_bn (kd_X11_startSteps hL) (fun σ4_700 hσ4_700 => ?_)
      have kσ4_700 : KD σ σ4_700 := kd_trans (kd_refl _) hσ4_700
      exact kp_tr2_kd (kd_X11_mean_32 hL 1024 _ _ _ _) kσ4_700

set_option maxRecDepth 100000 in
theorem kd_X11_looked_16 {N : Nat} {K len : Nat → Nat} {ρ : RG} (hL : Lay N K len ρ) : ∀ (n : Nat) (σ : SG) (v1 : Int32), kp (F_X11_looked_16 N K len n σ ρ v1) (fun q => KD σ q.2) := by
  intro n
  induction n with
  | zero => intro σ v1; exact kp_none
  | succ n ih =>
    intro σ v1
    unfold F_X11_looked_16
    refine kp_if ?_ ?_
    · exact kp_some (kd_refl _)
    · refine kp_bx (fun r3_715 => ?_)
      refine kp_bx (fun o4_716 => ?_)
      refine kp_oc ?_ (fun c5_717 => ?_)
      · exact kp_some (kd_refl _)
      · refine kp_gd (fun g_718 => ?_)
        refine kp_bn2 (kd_X3_tryCut hL (by decide) g_718) (fun r6_719 σ6_720 hr6_719 => ?_)
        have kσ6_720 : KD σ σ6_720 := kd_trans (kd_refl _) hr6_719
        refine kp_if ?_ ?_
        · exact kp_some kσ6_720
        · refine kp_bx (fun r8_721 => ?_)
          refine kp_if ?_ ?_
          · refine kp_nm (fun x10_722 _ => ?_)
            exact kp_tr2_kd (ih _ _) kσ6_720
          · exact kp_some kσ6_720

set_option maxRecDepth 100000 in
theorem kd_X11_looked {N : Nat} {K len : Nat → Nat} {σ : SG} {ρ : RG} (hL : Lay N K len ρ) : kp (F_X11_looked N K len σ ρ) (fun q => KD σ q.2) := by
  unfold F_X11_looked
  refine kp_bn (kd_X3_takes hL (by decide)) (fun σ1_714 hσ1_714 => ?_)
  have kσ1_714 : KD σ σ1_714 := kd_trans (kd_refl _) hσ1_714
  exact kp_tr2_kd (kd_X11_looked_16 hL 1024 _ _) kσ1_714

set_option maxRecDepth 100000 in
theorem kd_X11_act {N : Nat} {K len : Nat → Nat} {a1 : Int32} {a2 : Int32} {a3 : Int32} {σ : SG} {ρ : RG} (hL : Lay N K len ρ) : kp (F_X11_act N K len a1 a2 a3 σ ρ) (fun q => KD σ q.2) := by
  unfold F_X11_act
  refine kp_nm (fun σ2_723 hσ2_723 => ?_)
  have kσ2_723 : KD σ σ2_723 := by rw [hσ2_723]; exact kd_trans (kd_refl _) (kd_lit (by decide))
  refine kp_bx (fun o3_724 => ?_)
  refine kp_oc ?_ (fun c4_725 => ?_)
  · exact kp_some kσ2_723
  · refine kp_gd (fun g_726 => ?_)
    refine kp_if ?_ ?_
    · refine kp_bn2 (kd_v_cuts hL g_726) (fun r6_727 σ6_728 hr6_727 => ?_)
      have kσ6_728 : KD σ σ6_728 := kd_trans kσ2_723 hr6_727
      exact kp_some kσ6_728
    · refine kp_if ?_ ?_
      · refine kp_bn2 (kd_v_eats hL g_726) (fun r7_729 σ7_730 hr7_729 => ?_)
        have kσ7_730 : KD σ σ7_730 := kd_trans kσ2_723 hr7_729
        exact kp_some kσ7_730
      · refine kp_if ?_ ?_
        · refine kp_bn2 (kd_v_tells hL g_726) (fun r8_731 σ8_732 hr8_731 => ?_)
          have kσ8_732 : KD σ σ8_732 := kd_trans kσ2_723 hr8_731
          exact kp_some kσ8_732
        · exact kp_some kσ2_723

set_option maxRecDepth 100000 in
theorem kd_X0_readSign {N : Nat} {K len : Nat → Nat} {a1 : Int32} {σ : SG} {ρ : RG} (hL : Lay N K len ρ) : kp (F_X0_readSign a1 σ ρ) (fun q => KD σ q.2) := by
  unfold F_X0_readSign
  refine kp_bx (fun r1_749 => ?_)
  refine kp_if ?_ ?_
  · refine kp_nm (fun x3_750 _ => ?_)
    refine kp_nm (fun σ5_751 hσ5_751 => ?_)
    have kσ5_751 : KD σ σ5_751 := by rw [hσ5_751]; exact kd_trans (kd_refl _) (kd_lit (by decide))
    exact kp_some kσ5_751
  · exact kp_some (kd_refl _)

set_option maxRecDepth 100000 in
theorem kd_X0_readWord_2 {N : Nat} {K len : Nat → Nat} {w : Nat} {ρ : RG} (hL : Lay N K len ρ) : ∀ (n : Nat) (σ : SG) (v2 : Int32), kp (F_X0_readWord_2 w n σ ρ v2) (fun q => KD σ q.2) := by
  intro n
  induction n with
  | zero => intro σ v2; exact kp_none
  | succ n ih =>
    intro σ v2
    unfold F_X0_readWord_2
    refine kp_bx (fun r1_745 => ?_)
    refine kp_if ?_ ?_
    · exact kp_some (kd_refl _)
    · refine kp_bx (fun r3_746 => ?_)
      refine kp_bn2 (kd_X0_readSign hL) (fun r4_747 σ4_748 hr4_747 => ?_)
      have kσ4_748 : KD σ σ4_748 := kd_trans (kd_refl _) hr4_747
      refine kp_if ?_ ?_
      · exact kp_some kσ4_748
      · refine kp_nm (fun x6_752 _ => ?_)
        exact kp_tr2_kd (ih _ _) kσ4_748

set_option maxRecDepth 100000 in
theorem kd_X0_readWord {N : Nat} {K len : Nat → Nat} {w : Nat} {σ : SG} {ρ : RG} (hL : Lay N K len ρ) : kp (F_X0_readWord w σ ρ) (fun q => KD σ q.2) := by
  unfold F_X0_readWord
  exact kp_tr2_kd (kd_X0_readWord_2 hL 1024 _ _) (kd_refl _)

set_option maxRecDepth 100000 in
theorem kd_X0_readNumber {N : Nat} {K len : Nat → Nat} {σ : SG} {ρ : RG} (hL : Lay N K len ρ) : kp (F_X0_readNumber σ ρ) (fun q => KD σ q.2) := by
  unfold F_X0_readNumber
  refine kp_bx (fun r1_755 => ?_)
  refine kp_bx (fun r2_756 => ?_)
  refine kp_if ?_ ?_
  · exact kp_some (kd_refl _)
  · refine kp_bx (fun r4_757 => ?_)
    refine kp_nm (fun x5_758 _ => ?_)
    refine kp_nm (fun σ7_759 hσ7_759 => ?_)
    have kσ7_759 : KD σ σ7_759 := by rw [hσ7_759]; exact kd_trans (kd_refl _) (kd_lit (by decide))
    refine kp_nm (fun x8_760 _ => ?_)
    refine kp_nm (fun σ10_761 hσ10_761 => ?_)
    have kσ10_761 : KD σ σ10_761 := by rw [hσ10_761]; exact kd_trans kσ7_759 (kd_lit (by decide))
    refine kp_if ?_ ?_
    · exact kp_some kσ10_761
    · refine kp_bx (fun r12_762 => ?_)
      refine kp_bx (fun r13_763 => ?_)
      refine kp_if ?_ ?_
      · exact kp_some kσ10_761
      · refine kp_nm (fun x15_764 _ => ?_)
        refine kp_bx (fun r16_765 => ?_)
        refine kp_nm (fun x17_766 _ => ?_)
        refine kp_nm (fun x18_767 _ => ?_)
        refine kp_nm (fun σ20_768 hσ20_768 => ?_)
        have kσ20_768 : KD σ σ20_768 := by rw [hσ20_768]; exact kd_trans kσ10_761 (kd_lit (by decide))
        refine kp_nm (fun x21_769 _ => ?_)
        refine kp_nm (fun σ23_770 hσ23_770 => ?_)
        have kσ23_770 : KD σ σ23_770 := by rw [hσ23_770]; exact kd_trans kσ20_768 (kd_lit (by decide))
        exact kp_some kσ23_770

set_option maxRecDepth 100000 in
theorem kd_X0_put {N : Nat} {K len : Nat → Nat} {a1 : Int32} {σ : SG} {ρ : RG} (hL : Lay N K len ρ) : kp (F_X0_put a1 σ ρ) (fun q => KD σ q.2) := by
  unfold F_X0_put
  refine kp_if ?_ ?_
  · exact kp_some (kd_refl _)
  · refine kp_if ?_ ?_
    · refine kp_gd (fun _ => ?_)
      refine kp_nm (fun σ5_794 hσ5_794 => ?_)
      have kσ5_794 : KD σ σ5_794 := by rw [hσ5_794]; exact kd_trans (kd_refl _) (kd_row (by decide))
      refine kp_nm (fun x6_795 _ => ?_)
      refine kp_nm (fun σ8_796 hσ8_796 => ?_)
      have kσ8_796 : KD σ σ8_796 := by rw [hσ8_796]; exact kd_trans kσ5_794 (kd_lit (by decide))
      exact kp_some kσ8_796
    · exact kp_some (kd_refl _)

set_option maxRecDepth 100000 in
theorem kd_X0_readBoth_B_12 {N : Nat} {K len : Nat → Nat} {R : Int32 → SG → RG → Option (Int32 × SG)} {a1 : Int32} {ρ : RG} (hL : Lay N K len ρ) (hR : ∀ (y0 : Int32) (σ : SG), kp (R y0 σ ρ) (fun q => KD σ q.2)) : ∀ (n : Nat) (σ : SG) (v1 : Int32) (v2 : Int32), kp (F_X0_readBoth_B_12 R a1 n σ ρ v1 v2) (fun q => KD σ q.2) := by
  intro n
  induction n with
  | zero => intro σ v1 v2; exact kp_none
  | succ n ih =>
    intro σ v1 v2
    unfold F_X0_readBoth_B_12
    refine kp_if ?_ ?_
    · exact kp_some (kd_refl _)
    · refine kp_bx (fun r4_804 => ?_)
      refine kp_if ?_ ?_
      · refine kp_nm (fun x6_805 _ => ?_)
        refine kp_nm (fun σ8_806 hσ8_806 => ?_)
        have kσ8_806 : KD σ σ8_806 := by rw [hσ8_806]; exact kd_trans (kd_refl _) (kd_lit (by decide))
        refine kp_bn2 (hR _ _) (fun r9_807 σ9_808 hr9_807 => ?_)
        have kσ9_808 : KD σ σ9_808 := kd_trans kσ8_806 hr9_807
        refine kp_if ?_ ?_
        · exact kp_some kσ9_808
        · refine kp_bn2 (kd_X0_put hL) (fun r11_809 σ11_810 hr11_809 => ?_)
          have kσ11_810 : KD σ σ11_810 := kd_trans kσ9_808 hr11_809
          refine kp_if ?_ ?_
          · exact kp_some kσ11_810
          · refine kp_nm (fun x13_811 _ => ?_)
            exact kp_tr2_kd (ih _ _ _) kσ11_810
      · exact kp_some (kd_refl _)

set_option maxRecDepth 100000 in
theorem kd_X0_readBoth_B {N : Nat} {K len : Nat → Nat} {R : Int32 → SG → RG → Option (Int32 × SG)} {a1 : Int32} {σ : SG} {ρ : RG} (hL : Lay N K len ρ) (hR : ∀ (y0 : Int32) (σ : SG), kp (R y0 σ ρ) (fun q => KD σ q.2)) : kp (F_X0_readBoth_B R a1 σ ρ) (fun q => KD σ q.2) := by
  unfold F_X0_readBoth_B
  refine kp_bn2 (hR _ _) (fun r1_802 σ1_803 hr1_802 => ?_)
  have kσ1_803 : KD σ σ1_803 := kd_trans (kd_refl _) hr1_802
  refine kp_if ?_ ?_
  · exact kp_some kσ1_803
  · exact kp_tr2_kd (kd_X0_readBoth_B_12 hL hR 1024 _ _ _) kσ1_803

set_option maxRecDepth 100000 in
theorem kd_X0_readEither_B_12 {N : Nat} {K len : Nat → Nat} {R : Int32 → SG → RG → Option (Int32 × SG)} {a1 : Int32} {ρ : RG} (hL : Lay N K len ρ) (hR : ∀ (y0 : Int32) (σ : SG), kp (R y0 σ ρ) (fun q => KD σ q.2)) : ∀ (n : Nat) (σ : SG) (v1 : Int32) (v2 : Int32), kp (F_X0_readEither_B_12 R a1 n σ ρ v1 v2) (fun q => KD σ q.2) := by
  intro n
  induction n with
  | zero => intro σ v1 v2; exact kp_none
  | succ n ih =>
    intro σ v1 v2
    unfold F_X0_readEither_B_12
    refine kp_if ?_ ?_
    · exact kp_some (kd_refl _)
    · refine kp_bx (fun r4_812 => ?_)
      refine kp_if ?_ ?_
      · refine kp_nm (fun x6_813 _ => ?_)
        refine kp_nm (fun σ8_814 hσ8_814 => ?_)
        have kσ8_814 : KD σ σ8_814 := by rw [hσ8_814]; exact kd_trans (kd_refl _) (kd_lit (by decide))
        refine kp_bn2 (kd_X0_readBoth_B hL hR) (fun r9_815 σ9_816 hr9_815 => ?_)
        have kσ9_816 : KD σ σ9_816 := kd_trans kσ8_814 hr9_815
        refine kp_if ?_ ?_
        · exact kp_some kσ9_816
        · refine kp_bn2 (kd_X0_put hL) (fun r11_817 σ11_818 hr11_817 => ?_)
          have kσ11_818 : KD σ σ11_818 := kd_trans kσ9_816 hr11_817
          refine kp_if ?_ ?_
          · exact kp_some kσ11_818
          · refine kp_nm (fun x13_819 _ => ?_)
            exact kp_tr2_kd (ih _ _ _) kσ11_818
      · exact kp_some (kd_refl _)

set_option maxRecDepth 100000 in
theorem kd_X0_readEither_B {N : Nat} {K len : Nat → Nat} {R : Int32 → SG → RG → Option (Int32 × SG)} {a1 : Int32} {σ : SG} {ρ : RG} (hL : Lay N K len ρ) (hR : ∀ (y0 : Int32) (σ : SG), kp (R y0 σ ρ) (fun q => KD σ q.2)) : kp (F_X0_readEither_B R a1 σ ρ) (fun q => KD σ q.2) := by
  unfold F_X0_readEither_B
  refine kp_bn2 (kd_X0_readBoth_B hL hR) (fun r1_800 σ1_801 hr1_800 => ?_)
  have kσ1_801 : KD σ σ1_801 := kd_trans (kd_refl _) hr1_800
  refine kp_if ?_ ?_
  · exact kp_some kσ1_801
  · exact kp_tr2_kd (kd_X0_readEither_B_12 hL hR 1024 _ _ _) kσ1_801

set_option maxRecDepth 100000 in
theorem kd_X0_readTest {N : Nat} {K len : Nat → Nat} {σ : SG} {ρ : RG} (hL : Lay N K len ρ) : kp (F_X0_readTest σ ρ) (fun q => KD σ q.2) := by
  unfold F_X0_readTest
  refine kp_bx (fun r1_836 => ?_)
  refine kp_nm (fun x2_837 _ => ?_)
  refine kp_bx (fun r3_838 => ?_)
  refine kp_if ?_ ?_
  · refine kp_nm (fun x5_839 _ => ?_)
    refine kp_nm (fun σ7_840 hσ7_840 => ?_)
    have kσ7_840 : KD σ σ7_840 := by rw [hσ7_840]; exact kd_trans (kd_refl _) (kd_lit (by decide))
    refine kp_bx (fun r8_841 => ?_)
    refine kp_nm (fun x9_842 _ => ?_)
    refine kp_bx (fun r10_843 => ?_)
    refine kp_if ?_ ?_
    · refine kp_nm (fun x12_844 _ => ?_)
      refine kp_nm (fun σ14_845 hσ14_845 => ?_)
      have kσ14_845 : KD σ σ14_845 := by rw [hσ14_845]; exact kd_trans kσ7_840 (kd_lit (by decide))
      refine kp_bn2 (kd_X0_readNumber hL) (fun r15_846 σ15_847 hr15_846 => ?_)
      have kσ15_847 : KD σ σ15_847 := kd_trans kσ14_845 hr15_846
      refine kp_if ?_ ?_
      · exact kp_some kσ15_847
      · refine kp_nm (fun x17_848 _ => ?_)
        refine kp_nm (fun x18_849 _ => ?_)
        refine kp_nm (fun x19_850 _ => ?_)
        refine kp_nm (fun x20_851 _ => ?_)
        refine kp_bn2 (kd_X0_put hL) (fun r21_852 σ21_853 hr21_852 => ?_)
        have kσ21_853 : KD σ σ21_853 := kd_trans kσ15_847 hr21_852
        refine kp_if ?_ ?_
        · exact kp_some kσ21_853
        · exact kp_some kσ21_853
    · exact kp_some kσ7_840
  · exact kp_some (kd_refl _)

set_option maxRecDepth 100000 in
theorem kd_X0_readFactor_B {N : Nat} {K len : Nat → Nat} {R : Int32 → SG → RG → Option (Int32 × SG)} {a1 : Int32} {σ : SG} {ρ : RG} (hL : Lay N K len ρ) (hR : ∀ (y0 : Int32) (σ : SG), kp (R y0 σ ρ) (fun q => KD σ q.2)) : kp (F_X0_readFactor_B R a1 σ ρ) (fun q => KD σ q.2) := by
  unfold F_X0_readFactor_B
  refine kp_bx (fun r1_786 => ?_)
  refine kp_if ?_ ?_
  · unfold F_X0_readFactor_B_22
    refine kp_if ?_ ?_
    · refine kp_nm (fun x4_787 _ => ?_)
      refine kp_nm (fun σ6_788 hσ6_788 => ?_)
      have kσ6_788 : KD σ σ6_788 := by rw [hσ6_788]; exact kd_trans (kd_refl _) (kd_lit (by decide))
      refine kp_if ?_ ?_
      · refine kp_nm (fun x13_789 _ => ?_)
        refine kp_bn2 (hR _ _) (fun r14_790 σ14_791 hr14_790 => ?_)
        have kσ14_791 : KD σ σ14_791 := kd_trans kσ6_788 hr14_790
        refine kp_if ?_ ?_
        · exact kp_some kσ14_791
        · refine kp_bn2 (kd_X0_put hL) (fun r16_792 σ16_793 hr16_792 => ?_)
          have kσ16_793 : KD σ σ16_793 := kd_trans kσ14_791 hr16_792
          refine kp_if ?_ ?_
          · exact kp_some kσ16_793
          · exact kp_some kσ16_793
      · refine kp_nm (fun x8_797 _ => ?_)
        refine kp_bn2 (kd_X0_readEither_B hL hR) (fun r9_798 σ9_799 hr9_798 => ?_)
        have kσ9_799 : KD σ σ9_799 := kd_trans kσ6_788 hr9_798
        refine kp_if ?_ ?_
        · exact kp_some kσ9_799
        · refine kp_bn2 (kd_X0_readSign hL) (fun r11_820 σ11_821 hr11_820 => ?_)
          have kσ11_821 : KD σ σ11_821 := kd_trans kσ9_799 hr11_820
          refine kp_if ?_ ?_
          · exact kp_some kσ11_821
          · exact kp_some kσ11_821
    · exact kp_some (kd_refl _)
  · refine kp_if ?_ ?_
    · unfold F_X0_readFactor_B_22
      refine kp_if ?_ ?_
      · refine kp_nm (fun x4_822 _ => ?_)
        refine kp_nm (fun σ6_823 hσ6_823 => ?_)
        have kσ6_823 : KD σ σ6_823 := by rw [hσ6_823]; exact kd_trans (kd_refl _) (kd_lit (by decide))
        refine kp_if ?_ ?_
        · refine kp_nm (fun x13_824 _ => ?_)
          refine kp_bn2 (hR _ _) (fun r14_825 σ14_826 hr14_825 => ?_)
          have kσ14_826 : KD σ σ14_826 := kd_trans kσ6_823 hr14_825
          refine kp_if ?_ ?_
          · exact kp_some kσ14_826
          · refine kp_bn2 (kd_X0_put hL) (fun r16_827 σ16_828 hr16_827 => ?_)
            have kσ16_828 : KD σ σ16_828 := kd_trans kσ14_826 hr16_827
            refine kp_if ?_ ?_
            · exact kp_some kσ16_828
            · exact kp_some kσ16_828
        · refine kp_nm (fun x8_829 _ => ?_)
          refine kp_bn2 (kd_X0_readEither_B hL hR) (fun r9_830 σ9_831 hr9_830 => ?_)
          have kσ9_831 : KD σ σ9_831 := kd_trans kσ6_823 hr9_830
          refine kp_if ?_ ?_
          · exact kp_some kσ9_831
          · refine kp_bn2 (kd_X0_readSign hL) (fun r11_832 σ11_833 hr11_832 => ?_)
            have kσ11_833 : KD σ σ11_833 := kd_trans kσ9_831 hr11_832
            refine kp_if ?_ ?_
            · exact kp_some kσ11_833
            · exact kp_some kσ11_833
      · exact kp_some (kd_refl _)
    · refine kp_bn2 (kd_X0_readTest hL) (fun r19_834 σ19_835 hr19_834 => ?_)
      have kσ19_835 : KD σ σ19_835 := kd_trans (kd_refl _) hr19_834
      refine kp_gd (fun _ => ?_)
      exact kp_some kσ19_835

theorem kd_X0_readFactor_R {N : Nat} {K len : Nat → Nat} {ρ : RG} (hL : Lay N K len ρ) : ∀ (d : Nat) (a1 : Int32) (σ : SG), kp (F_X0_readFactor_R d a1 σ ρ) (fun q => KD σ q.2) := by
  intro d
  induction d with
  | zero => intro a1 σ; exact kp_none
  | succ d ih =>
    intro a1 σ
    exact kd_X0_readFactor_B hL ih

theorem kd_X0_readFactor {N : Nat} {K len : Nat → Nat} {a1 : Int32} {σ : SG} {ρ : RG} (hL : Lay N K len ρ) : kp (F_X0_readFactor a1 σ ρ) (fun q => KD σ q.2) := kd_X0_readFactor_R hL _ _ _

set_option maxRecDepth 100000 in
theorem kd_X0_readBoth_12 {N : Nat} {K len : Nat → Nat} {a1 : Int32} {ρ : RG} (hL : Lay N K len ρ) : ∀ (n : Nat) (σ : SG) (v1 : Int32) (v2 : Int32), kp (F_X0_readBoth_12 a1 n σ ρ v1 v2) (fun q => KD σ q.2) := by
  intro n
  induction n with
  | zero => intro σ v1 v2; exact kp_none
  | succ n ih =>
    intro σ v1 v2
    unfold F_X0_readBoth_12
    refine kp_if ?_ ?_
    · exact kp_some (kd_refl _)
    · refine kp_bx (fun r4_854 => ?_)
      refine kp_if ?_ ?_
      · refine kp_nm (fun x6_855 _ => ?_)
        refine kp_nm (fun σ8_856 hσ8_856 => ?_)
        have kσ8_856 : KD σ σ8_856 := by rw [hσ8_856]; exact kd_trans (kd_refl _) (kd_lit (by decide))
        refine kp_bn2 (kd_X0_readFactor hL) (fun r9_857 σ9_858 hr9_857 => ?_)
        have kσ9_858 : KD σ σ9_858 := kd_trans kσ8_856 hr9_857
        refine kp_if ?_ ?_
        · exact kp_some kσ9_858
        · refine kp_bn2 (kd_X0_put hL) (fun r11_859 σ11_860 hr11_859 => ?_)
          have kσ11_860 : KD σ σ11_860 := kd_trans kσ9_858 hr11_859
          refine kp_if ?_ ?_
          · exact kp_some kσ11_860
          · refine kp_nm (fun x13_861 _ => ?_)
            exact kp_tr2_kd (ih _ _ _) kσ11_860
      · exact kp_some (kd_refl _)

set_option maxRecDepth 100000 in
theorem kd_X0_readBoth {N : Nat} {K len : Nat → Nat} {a1 : Int32} {σ : SG} {ρ : RG} (hL : Lay N K len ρ) : kp (F_X0_readBoth a1 σ ρ) (fun q => KD σ q.2) := by
  unfold F_X0_readBoth
  refine kp_bn2 (kd_X0_readFactor hL) (fun r1_784 σ1_785 hr1_784 => ?_)
  have kσ1_785 : KD σ σ1_785 := kd_trans (kd_refl _) hr1_784
  refine kp_if ?_ ?_
  · exact kp_some kσ1_785
  · exact kp_tr2_kd (kd_X0_readBoth_12 hL 1024 _ _ _) kσ1_785

set_option maxRecDepth 100000 in
theorem kd_X0_readEither_12 {N : Nat} {K len : Nat → Nat} {a1 : Int32} {ρ : RG} (hL : Lay N K len ρ) : ∀ (n : Nat) (σ : SG) (v1 : Int32) (v2 : Int32), kp (F_X0_readEither_12 a1 n σ ρ v1 v2) (fun q => KD σ q.2) := by
  intro n
  induction n with
  | zero => intro σ v1 v2; exact kp_none
  | succ n ih =>
    intro σ v1 v2
    unfold F_X0_readEither_12
    refine kp_if ?_ ?_
    · exact kp_some (kd_refl _)
    · refine kp_bx (fun r4_862 => ?_)
      refine kp_if ?_ ?_
      · refine kp_nm (fun x6_863 _ => ?_)
        refine kp_nm (fun σ8_864 hσ8_864 => ?_)
        have kσ8_864 : KD σ σ8_864 := by rw [hσ8_864]; exact kd_trans (kd_refl _) (kd_lit (by decide))
        refine kp_bn2 (kd_X0_readBoth hL) (fun r9_865 σ9_866 hr9_865 => ?_)
        have kσ9_866 : KD σ σ9_866 := kd_trans kσ8_864 hr9_865
        refine kp_if ?_ ?_
        · exact kp_some kσ9_866
        · refine kp_bn2 (kd_X0_put hL) (fun r11_867 σ11_868 hr11_867 => ?_)
          have kσ11_868 : KD σ σ11_868 := kd_trans kσ9_866 hr11_867
          refine kp_if ?_ ?_
          · exact kp_some kσ11_868
          · refine kp_nm (fun x13_869 _ => ?_)
            exact kp_tr2_kd (ih _ _ _) kσ11_868
      · exact kp_some (kd_refl _)

set_option maxRecDepth 100000 in
theorem kd_X0_readEither {N : Nat} {K len : Nat → Nat} {a1 : Int32} {σ : SG} {ρ : RG} (hL : Lay N K len ρ) : kp (F_X0_readEither a1 σ ρ) (fun q => KD σ q.2) := by
  unfold F_X0_readEither
  refine kp_bn2 (kd_X0_readBoth hL) (fun r1_782 σ1_783 hr1_782 => ?_)
  have kσ1_783 : KD σ σ1_783 := kd_trans (kd_refl _) hr1_782
  refine kp_if ?_ ?_
  · exact kp_some kσ1_783
  · exact kp_tr2_kd (kd_X0_readEither_12 hL 1024 _ _ _) kσ1_783

set_option maxRecDepth 100000 in
theorem kd_X0_readAdding {N : Nat} {K len : Nat → Nat} {a1 : Int32} {σ : SG} {ρ : RG} (hL : Lay N K len ρ) : kp (F_X0_readAdding a1 σ ρ) (fun q => KD σ q.2) := by
  unfold F_X0_readAdding
  refine kp_bn2 (kd_X0_readNumber hL) (fun r1_776 σ1_777 hr1_776 => ?_)
  have kσ1_777 : KD σ σ1_777 := kd_trans (kd_refl _) hr1_776
  refine kp_if ?_ ?_
  · exact kp_some kσ1_777
  · refine kp_bn2 (kd_X0_readSign hL) (fun r3_778 σ3_779 hr3_778 => ?_)
    have kσ3_779 : KD σ σ3_779 := kd_trans kσ1_777 hr3_778
    refine kp_if ?_ ?_
    · exact kp_some kσ3_779
    · refine kp_bn2 (kd_X0_readEither hL) (fun r5_780 σ5_781 hr5_780 => ?_)
      have kσ5_781 : KD σ σ5_781 := kd_trans kσ3_779 hr5_780
      refine kp_if ?_ ?_
      · exact kp_some kσ5_781
      · refine kp_if ?_ ?_
        · refine kp_gd (fun _ => ?_)
          refine kp_gd (fun _ => ?_)
          refine kp_nm (fun σ10_870 hσ10_870 => ?_)
          have kσ10_870 : KD σ σ10_870 := by rw [hσ10_870]; exact kd_trans kσ5_781 (kd_row (by decide))
          refine kp_gd (fun _ => ?_)
          refine kp_nm (fun σ13_871 hσ13_871 => ?_)
          have kσ13_871 : KD σ σ13_871 := by rw [hσ13_871]; exact kd_trans kσ10_870 (kd_row (by decide))
          refine kp_gd (fun _ => ?_)
          refine kp_nm (fun σ16_872 hσ16_872 => ?_)
          have kσ16_872 : KD σ σ16_872 := by rw [hσ16_872]; exact kd_trans kσ13_871 (kd_row (by decide))
          refine kp_nm (fun x17_873 _ => ?_)
          refine kp_nm (fun σ19_874 hσ19_874 => ?_)
          have kσ19_874 : KD σ σ19_874 := by rw [hσ19_874]; exact kd_trans kσ16_872 (kd_lit (by decide))
          exact kp_some kσ19_874
        · exact kp_some kσ5_781

set_option maxRecDepth 100000 in
theorem kd_X0_readClause {N : Nat} {K len : Nat → Nat} {σ : SG} {ρ : RG} (hL : Lay N K len ρ) : kp (F_X0_readClause σ ρ) (fun q => KD σ q.2) := by
  unfold F_X0_readClause
  refine kp_bx (fun r1_742 => ?_)
  refine kp_if ?_ ?_
  · refine kp_bn2 (kd_X0_readWord hL) (fun r3_743 σ3_744 hr3_743 => ?_)
    have kσ3_744 : KD σ σ3_744 := kd_trans (kd_refl _) hr3_743
    refine kp_if ?_ ?_
    · exact kp_some kσ3_744
    · refine kp_bn2 (kd_X0_readNumber hL) (fun r5_753 σ5_754 hr5_753 => ?_)
      have kσ5_754 : KD σ σ5_754 := kd_trans kσ3_744 hr5_753
      refine kp_if ?_ ?_
      · exact kp_some kσ5_754
      · refine kp_nm (fun σ8_771 hσ8_771 => ?_)
        have kσ8_771 : KD σ σ8_771 := by rw [hσ8_771]; exact kd_trans kσ5_754 (kd_lit (by decide))
        exact kp_some kσ8_771
  · refine kp_if ?_ ?_
    · refine kp_bn2 (kd_X0_readWord hL) (fun r9_772 σ9_773 hr9_772 => ?_)
      have kσ9_773 : KD σ σ9_773 := kd_trans (kd_refl _) hr9_772
      refine kp_if ?_ ?_
      · exact kp_some kσ9_773
      · refine kp_bn2 (kd_X0_readAdding hL) (fun r11_774 σ11_775 hr11_774 => ?_)
        have kσ11_775 : KD σ σ11_775 := kd_trans kσ9_773 hr11_774
        refine kp_if ?_ ?_
        · exact kp_some kσ11_775
        · exact kp_some kσ11_775
    · refine kp_if ?_ ?_
      · refine kp_bn2 (kd_X0_readWord hL) (fun r13_875 σ13_876 hr13_875 => ?_)
        have kσ13_876 : KD σ σ13_876 := kd_trans (kd_refl _) hr13_875
        refine kp_if ?_ ?_
        · exact kp_some kσ13_876
        · refine kp_bn2 (kd_X0_readAdding hL) (fun r15_877 σ15_878 hr15_877 => ?_)
          have kσ15_878 : KD σ σ15_878 := kd_trans kσ13_876 hr15_877
          refine kp_if ?_ ?_
          · exact kp_some kσ15_878
          · exact kp_some kσ15_878
      · refine kp_if ?_ ?_
        · refine kp_bn2 (kd_X0_readWord hL) (fun r17_879 σ17_880 hr17_879 => ?_)
          have kσ17_880 : KD σ σ17_880 := kd_trans (kd_refl _) hr17_879
          refine kp_if ?_ ?_
          · exact kp_some kσ17_880
          · refine kp_bn2 (kd_X0_readNumber hL) (fun r19_881 σ19_882 hr19_881 => ?_)
            have kσ19_882 : KD σ σ19_882 := kd_trans kσ17_880 hr19_881
            refine kp_if ?_ ?_
            · exact kp_some kσ19_882
            · refine kp_nm (fun σ22_883 hσ22_883 => ?_)
              have kσ22_883 : KD σ σ22_883 := by rw [hσ22_883]; exact kd_trans kσ19_882 (kd_lit (by decide))
              exact kp_some kσ22_883
        · exact kp_some (kd_refl _)

set_option maxRecDepth 100000 in
theorem kd_X0_readFrom_38 {N : Nat} {K len : Nat → Nat} {a2 : Int32} {ρ : RG} (hL : Lay N K len ρ) : ∀ (n : Nat) (σ : SG) (v3 : Int32), kp (F_X0_readFrom_38 a2 n σ ρ v3) (fun q => KD σ q.2.1) := by
  intro n
  induction n with
  | zero => intro σ v3; exact kp_none
  | succ n ih =>
    intro σ v3
    unfold F_X0_readFrom_38
    refine kp_if ?_ ?_
    · exact kp_some (kd_refl _)
    · refine kp_bn2 (kd_X0_readClause hL) (fun r16_740 σ16_741 hr16_740 => ?_)
      have kσ16_741 : KD σ σ16_741 := kd_trans (kd_refl _) hr16_740
      refine kp_if ?_ ?_
      · exact kp_some kσ16_741
      · refine kp_if ?_ ?_
        · exact kp_some kσ16_741
        · refine kp_nm (fun x19_884 _ => ?_)
          refine kp_if ?_ ?_
          · exact kp_some kσ16_741
          · refine kp_bn2 (kd_X0_readSign hL) (fun r21_885 σ21_886 hr21_885 => ?_)
            have kσ21_886 : KD σ σ21_886 := kd_trans kσ16_741 hr21_885
            refine kp_if ?_ ?_
            · exact kp_some kσ21_886
            · refine kp_nm (fun x23_887 _ => ?_)
              exact kp_tr3_kd (ih _ _) kσ21_886

set_option maxRecDepth 100000 in
theorem kd_X0_readFrom {N : Nat} {K len : Nat → Nat} {a2 : Int32} {σ : SG} {ρ : RG} (hL : Lay N K len ρ) : kp (F_X0_readFrom a2 σ ρ) (fun q => KD σ q.2.1) := by
  unfold F_X0_readFrom
  refine kp_nm (fun ρ2_733 hρ2_733 => ?_)
  have hL : Lay N K len ρ2_733 := by rw [hρ2_733]; exact ly_put hL _ (by decide)
  refine kp_nm (fun σ4_734 hσ4_734 => ?_)
  have kσ4_734 : KD σ σ4_734 := by rw [hσ4_734]; exact kd_trans (kd_refl _) (kd_lit (by decide))
  refine kp_nm (fun σ6_735 hσ6_735 => ?_)
  have kσ6_735 : KD σ σ6_735 := by rw [hσ6_735]; exact kd_trans kσ4_734 (kd_lit (by decide))
  refine kp_nm (fun σ8_736 hσ8_736 => ?_)
  have kσ8_736 : KD σ σ8_736 := by rw [hσ8_736]; exact kd_trans kσ6_735 (kd_lit (by decide))
  refine kp_nm (fun σ10_737 hσ10_737 => ?_)
  have kσ10_737 : KD σ σ10_737 := by rw [hσ10_737]; exact kd_trans kσ8_736 (kd_lit (by decide))
  refine kp_nm (fun σ12_738 hσ12_738 => ?_)
  have kσ12_738 : KD σ σ12_738 := by rw [hσ12_738]; exact kd_trans kσ10_737 (kd_lit (by decide))
  refine kp_nm (fun σ14_739 hσ14_739 => ?_)
  have kσ14_739 : KD σ σ14_739 := by rw [hσ14_739]; exact kd_trans kσ12_738 (kd_lit (by decide))
  exact kp_tr3_kd (kd_X0_readFrom_38 hL 1024 _ _) kσ14_739
/-- boards and tape, of the state and of the image -/
def kbP (r k : Nat) : Bool := ((r == 1 || r == 14) && (k == 4 || k == 6)) || (Nat.ble 5 r && Nat.ble r 10) || (Nat.ble 18 r && Nat.ble r 23)
def kbR (r : Nat) : Bool := r == 1 || r == 14 || (Nat.ble 5 r && Nat.ble r 10) || (Nat.ble 18 r && Nat.ble r 23)
def KB (σ σ' : SG) : Prop := ∀ r k, kbP r k = true → σ' r k = σ r k
theorem kb_refl (σ : SG) : KB σ σ := fun _ _ _ => rfl
theorem kb_trans {σ σ1 σ2 : SG} (h : KB σ σ1) (h' : KB σ1 σ2) : KB σ σ2 := fun r k p => (h' r k p).trans (h r k p)
theorem kb_lit {σ : SG} {r k : Nat} {v : Int32} (h : kbP r k = false) : KB σ (s2 σ r k v) := fun a b p => by
  rw [s2_at]
  by_cases e : a = r
  · by_cases e' : b = k
    · rw [e, e', h] at p; cases p
    · rw [if_pos e, if_neg e', e]
  · rw [if_neg e]
theorem kb_rows {r k : Nat} (h : kbR r = false) : kbP r k = false := by
  cases e : kbP r k with
  | false => rfl
  | true =>
    exfalso
    simp only [kbP, kbR, Bool.or_eq_true, Bool.and_eq_true, Bool.or_eq_false_iff, Bool.and_eq_false_iff, beq_iff_eq, beq_eq_false_iff_ne, Nat.ble_eq] at e h
    have nb : ∀ x y : Nat, Nat.ble x y = false → y < x := fun x y q => by
      rcases Nat.lt_or_ge y x with z | z
      · exact z
      · rw [Nat.ble_eq.mpr z] at q; cases q
    obtain ⟨⟨⟨h1, h2⟩, h3⟩, h4⟩ := h
    have h3' : r < 5 ∨ 10 < r := h3.elim (fun z => Or.inl (nb _ _ z)) (fun z => Or.inr (nb _ _ z))
    have h4' : r < 18 ∨ 23 < r := h4.elim (fun z => Or.inl (nb _ _ z)) (fun z => Or.inr (nb _ _ z))
    omega
theorem kb_row {σ : SG} {r k : Nat} {v : Int32} (h : kbR r = false) : KB σ (s2 σ r k v) := kb_lit (kb_rows h)
theorem kb_cpy {σ : SG} {a r n : Nat} (h : kbR r = false) : KB σ (cpy σ a r n) := fun x b p => by
  rw [cpy_at]
  by_cases e : x = r
  · rw [e, kb_rows h] at p; cases p
  · rw [if_neg e]
theorem kp_tr_kb {o : Option SG} {σ σ1 : SG} (h : kp o (fun q => KB σ1 q)) (k : KB σ σ1) : kp o (fun q => KB σ q) := kp_mono h (fun _ z => kb_trans k z)
theorem kp_tr2_kb {α : Type} {o : Option (α × SG)} {σ σ1 : SG} (h : kp o (fun q => KB σ1 q.2)) (k : KB σ σ1) : kp o (fun q => KB σ q.2) := kp_mono h (fun _ z => kb_trans k z)
theorem kp_tr3_kb {α β : Type} {o : Option (α × SG × β)} {σ σ1 : SG} (h : kp o (fun q => KB σ1 q.2.1)) (k : KB σ σ1) : kp o (fun q => KB σ q.2.1) := kp_mono h (fun _ z => kb_trans k z)
theorem kb_lb {σ : SG} {i k : Nat} {v : Int32} (h : isLb i = true) (_ : True = True) : KB σ (s2 σ i k v) := by
  have hd : ∀ i : Fin 65, isLb i = true → kbR i = false := by decide
  exact kb_row (hd ⟨i, isLb_lt h⟩ h)
theorem kb_lx {σ : SG} {i k : Nat} {v : Int32} (h : isLx i = true) : KB σ (s2 σ i k v) := by
  have hd : ∀ i : Fin 65, isLx i = true → kbR i = false := by decide
  exact kb_row (hd ⟨i, isLb_lt (isLx_b h)⟩ h)
theorem kb_lb1 {σ : SG} {i k : Nat} {v : Int32} (h : isLb i = true) : KB σ (s2 σ (i + 1) k v) := by
  have hd : ∀ i : Fin 65, isLb i = true → kbR (i + 1) = false := by decide
  exact kb_row (hd ⟨i, isLb_lt h⟩ h)
theorem kb_hi {r k : Nat} (h : 54 ≤ r) : kbP r k = false := by
  have a1 : (r == 1 || r == 14) = false := by
    simp only [Bool.or_eq_false_iff, beq_eq_false_iff_ne]; omega
  have nb : ∀ y : Nat, y < r → Nat.ble r y = false := fun y q => by
    cases e : Nat.ble r y with
    | false => rfl
    | true => have := Nat.le_of_ble_eq_true e; omega
  unfold kbP
  rw [a1, nb 10 (by omega), nb 23 (by omega)]
  simp
theorem kb_d {N : Nat} {K len : Nat → Nat} {ρ : RG} {σ : SG} {d k : Nat} {v : Int32} (hL : Lay N K len ρ) (h : isD N K len d = true) : KB σ (s2 σ d k v) := kb_lit (by
  rcases Nat.lt_or_ge d 65 with z | z
  · obtain ⟨-, q1, q2⟩ := isD_lt h
    obtain ⟨e1, e2⟩ := hL.2.1 d z
    have hd : ∀ d : Fin 65, kind0 d = 14 → len0 d = 4 → kbR d = false := by decide
    exact kb_rows (hd ⟨d, z⟩ (e1.symm.trans q1) (e2.symm.trans q2))
  · exact kb_hi (by omega))
theorem kb_ck {N : Nat} {K len : Nat → Nat} {ρ : RG} {σ : SG} {c k : Nat} {v : Int32} (hL : Lay N K len ρ) (h : isC N K c = true) : KB σ (s2 σ c k v) := kb_lit (kb_hi (by have := ck_65 hL h; omega))
set_option maxRecDepth 100000 in
theorem kb_X4_prepare {N : Nat} {K len : Nat → Nat} {z : Nat} {i : Nat} {σ : SG} {ρ : RG} (hL : Lay N K len ρ) (f_z : isC N K z = true) (f_i : isLb i = true) : kp (F_X4_prepare N K len z i σ ρ) (fun q => KB σ q) := by
  unfold F_X4_prepare
  refine kp_nm (fun x1_1 _ => ?_)
  refine kp_nm (fun σ3_2 hσ3_2 => ?_)
  have kσ3_2 : KB σ σ3_2 := by rw [hσ3_2]; exact kb_trans (kb_refl _) (kb_lb f_i rfl)
  exact kp_some kσ3_2

set_option maxRecDepth 100000 in
theorem kb_X3_straighten {N : Nat} {K len : Nat → Nat} {i : Nat} {σ : SG} {ρ : RG} (hL : Lay N K len ρ) (f_i : isLb i = true) : kp (F_X3_straighten i σ ρ) (fun q => KB σ q.2) := by
  unfold F_X3_straighten
  refine kp_bx (fun r1_5 => ?_)
  refine kp_nm (fun x2_6 _ => ?_)
  refine kp_nm (fun σ4_7 hσ4_7 => ?_)
  have kσ4_7 : KB σ σ4_7 := by rw [hσ4_7]; exact kb_trans (kb_refl _) (kb_lb f_i rfl)
  refine kp_nm (fun σ6_8 hσ6_8 => ?_)
  have kσ6_8 : KB σ σ6_8 := by rw [hσ6_8]; exact kb_trans kσ4_7 (kb_lb f_i rfl)
  refine kp_nm (fun σ8_9 hσ8_9 => ?_)
  have kσ8_9 : KB σ σ8_9 := by rw [hσ8_9]; exact kb_trans kσ6_8 (kb_lb f_i rfl)
  refine kp_nm (fun x9_10 _ => ?_)
  refine kp_nm (fun x10_11 _ => ?_)
  refine kp_nm (fun σ12_12 hσ12_12 => ?_)
  have kσ12_12 : KB σ σ12_12 := by rw [hσ12_12]; exact kb_trans kσ8_9 (kb_lb f_i rfl)
  refine kp_nm (fun x13_13 _ => ?_)
  exact kp_some kσ12_12

set_option maxRecDepth 100000 in
theorem kb_X5_prepare {N : Nat} {K len : Nat → Nat} {z : Nat} {i : Nat} {σ : SG} {ρ : RG} (hL : Lay N K len ρ) (f_z : isC N K z = true) (f_i : isLb i = true) : kp (F_X5_prepare N K len z i σ ρ) (fun q => KB σ q) := by
  unfold F_X5_prepare
  refine kp_bn2 (kb_X3_straighten hL f_i) (fun r1_3 σ1_4 hr1_3 => ?_)
  have kσ1_4 : KB σ σ1_4 := kb_trans (kb_refl _) hr1_3
  exact kp_some kσ1_4

theorem kb_v_prepare {N : Nat} {K len : Nat → Nat} {z i : Nat} {σ : SG} {ρ : RG} (hL : Lay N K len ρ) (f_z : isC N K z = true) (f_i : isLb i = true) : kp (F_v_prepare N K len z i σ ρ) (fun q => KB σ q) := by
  unfold F_v_prepare
  refine kp_if (kp_bx (fun _ => kp_some (kb_refl _))) ?_
  refine kp_if (kp_bx (fun _ => kp_some (kb_refl _))) ?_
  refine kp_if (kb_X4_prepare hL f_z f_i) ?_
  refine kp_if (kb_X5_prepare hL f_z f_i) ?_
  refine kp_if (kp_bx (fun _ => kp_some (kb_refl _))) ?_
  refine kp_if (kp_bx (fun _ => kp_some (kb_refl _))) ?_
  refine kp_if (kp_bx (fun _ => kp_some (kb_refl _))) ?_
  exact kp_none

set_option maxRecDepth 100000 in
theorem kb_X3_noteStart {N : Nat} {K len : Nat → Nat} {i : Nat} {z : Nat} {a2 : Int32} {σ : SG} {ρ : RG} (hL : Lay N K len ρ) (f_i : isLb i = true) (f_z : isC N K z = true) : kp (F_X3_noteStart N K len i z a2 σ ρ) (fun q => KB σ q) := by
  unfold F_X3_noteStart
  refine kp_nm (fun σ2_20 hσ2_20 => ?_)
  have kσ2_20 : KB σ σ2_20 := by rw [hσ2_20]; exact kb_trans (kb_refl _) (kb_lb1 f_i)
  refine kp_bx (fun r3_21 => ?_)
  refine kp_nm (fun σ5_22 hσ5_22 => ?_)
  have kσ5_22 : KB σ σ5_22 := by rw [hσ5_22]; exact kb_trans kσ2_20 (kb_lb1 f_i)
  refine kp_nm (fun σ7_23 hσ7_23 => ?_)
  have kσ7_23 : KB σ σ7_23 := by rw [hσ7_23]; exact kb_trans kσ5_22 (kb_lb1 f_i)
  refine kp_nm (fun x8_24 _ => ?_)
  refine kp_nm (fun σ10_25 hσ10_25 => ?_)
  have kσ10_25 : KB σ σ10_25 := by rw [hσ10_25]; exact kb_trans kσ7_23 (kb_lb1 f_i)
  refine kp_nm (fun x11_26 _ => ?_)
  refine kp_nm (fun σ13_27 hσ13_27 => ?_)
  have kσ13_27 : KB σ σ13_27 := by rw [hσ13_27]; exact kb_trans kσ10_25 (kb_lb1 f_i)
  refine kp_nm (fun x14_28 _ => ?_)
  refine kp_nm (fun σ16_29 hσ16_29 => ?_)
  have kσ16_29 : KB σ σ16_29 := by rw [hσ16_29]; exact kb_trans kσ13_27 (kb_lb1 f_i)
  exact kp_some kσ16_29

set_option maxRecDepth 100000 in
theorem kb_X3_weigh_8 {N : Nat} {K len : Nat → Nat} {i : Nat} {a1 : Int32} {a2 : Int32} {a3 : Int32} {ρ : RG} (hL : Lay N K len ρ) (f_i : isLb i = true) : ∀ (n : Nat) (σ : SG) (v1 : Int32) (v2 : Int32) (v3 : Int32) (v4 : Int32), kp (F_X3_weigh_8 i a1 a2 a3 n σ ρ v1 v2 v3 v4) (fun q => KB σ q) := by
  intro n
  induction n with
  | zero => intro σ v1 v2 v3 v4; exact kp_none
  | succ n ih =>
    intro σ v1 v2 v3 v4
    unfold F_X3_weigh_8
    refine kp_if ?_ ?_
    · exact kp_some (kb_refl _)
    · refine kp_bx (fun r4_46 => ?_)
      refine kp_nm (fun x5_47 _ => ?_)
      refine kp_nm (fun x6_48 _ => ?_)
      refine kp_nm (fun x7_49 _ => ?_)
      refine kp_nm (fun σ9_50 hσ9_50 => ?_)
      have kσ9_50 : KB σ σ9_50 := by rw [hσ9_50]; exact kb_trans (kb_refl _) (kb_lb f_i rfl)
      refine kp_if ?_ ?_
      · unfold F_X3_weigh_60
        refine kp_nm (fun σ13_51 hσ13_51 => ?_)
        have kσ13_51 : KB σ σ13_51 := by rw [hσ13_51]; exact kb_trans kσ9_50 (kb_lb f_i rfl)
        refine kp_if ?_ ?_
        · unfold F_X3_weigh_83
          refine kp_nm (fun σ17_52 hσ17_52 => ?_)
          have kσ17_52 : KB σ σ17_52 := by rw [hσ17_52]; exact kb_trans kσ13_51 (kb_lb f_i rfl)
          refine kp_nm (fun x18_53 _ => ?_)
          exact kp_tr_kb (ih _ _ _ _ _) kσ17_52
        · refine kp_nm (fun x15_54 _ => ?_)
          unfold F_X3_weigh_83
          refine kp_nm (fun σ17_55 hσ17_55 => ?_)
          have kσ17_55 : KB σ σ17_55 := by rw [hσ17_55]; exact kb_trans kσ13_51 (kb_lb f_i rfl)
          refine kp_nm (fun x18_56 _ => ?_)
          exact kp_tr_kb (ih _ _ _ _ _) kσ17_55
      · refine kp_nm (fun x11_57 _ => ?_)
        unfold F_X3_weigh_60
        refine kp_nm (fun σ13_58 hσ13_58 => ?_)
        have kσ13_58 : KB σ σ13_58 := by rw [hσ13_58]; exact kb_trans kσ9_50 (kb_lb f_i rfl)
        refine kp_if ?_ ?_
        · unfold F_X3_weigh_83
          refine kp_nm (fun σ17_59 hσ17_59 => ?_)
          have kσ17_59 : KB σ σ17_59 := by rw [hσ17_59]; exact kb_trans kσ13_58 (kb_lb f_i rfl)
          refine kp_nm (fun x18_60 _ => ?_)
          exact kp_tr_kb (ih _ _ _ _ _) kσ17_59
        · refine kp_nm (fun x15_61 _ => ?_)
          unfold F_X3_weigh_83
          refine kp_nm (fun σ17_62 hσ17_62 => ?_)
          have kσ17_62 : KB σ σ17_62 := by rw [hσ17_62]; exact kb_trans kσ13_58 (kb_lb f_i rfl)
          refine kp_nm (fun x18_63 _ => ?_)
          exact kp_tr_kb (ih _ _ _ _ _) kσ17_62

set_option maxRecDepth 100000 in
theorem kb_X3_weigh {N : Nat} {K len : Nat → Nat} {i : Nat} {a1 : Int32} {a2 : Int32} {a3 : Int32} {σ : SG} {ρ : RG} (hL : Lay N K len ρ) (f_i : isLb i = true) : kp (F_X3_weigh i a1 a2 a3 σ ρ) (fun q => KB σ q) := by
  unfold F_X3_weigh
  refine kp_nm (fun σ2_45 hσ2_45 => ?_)
  have kσ2_45 : KB σ σ2_45 := by rw [hσ2_45]; exact kb_trans (kb_refl _) (kb_lb f_i rfl)
  exact kp_tr_kb (kb_X3_weigh_8 hL f_i 1024 _ _ _ _ _) kσ2_45

set_option maxRecDepth 100000 in
theorem kb_X3_tryCut {N : Nat} {K len : Nat → Nat} {i : Nat} {z : Nat} {a2 : Int32} {a4 : Int32} {a5 : Int32} {σ : SG} {ρ : RG} (hL : Lay N K len ρ) (f_i : isLb i = true) (f_z : isC N K z = true) : kp (F_X3_tryCut N K len i z a2 a4 a5 σ ρ) (fun q => KB σ q.2) := by
  unfold F_X3_tryCut
  refine kp_bn (kb_X3_noteStart hL f_i f_z) (fun σ1_19 hσ1_19 => ?_)
  have kσ1_19 : KB σ σ1_19 := kb_trans (kb_refl _) hσ1_19
  refine kp_bx (fun r2_30 => ?_)
  refine kp_bx (fun r3_31 => ?_)
  refine kp_bn (kb_v_prepare hL f_z f_i) (fun σ4_32 hσ4_32 => ?_)
  have kσ4_32 : KB σ σ4_32 := kb_trans kσ1_19 hσ4_32
  refine kp_if ?_ ?_
  · unfold F_X3_tryCut_80
    refine kp_gd (fun g_33 => ?_)
    refine kp_gd (fun g_34 => ?_)
    refine kp_bx (fun r6_35 => ?_)
    refine kp_nm (fun x7_36 _ => ?_)
    refine kp_bx (fun r8_37 => ?_)
    refine kp_if ?_ ?_
    · unfold F_X3_tryCut_111
      refine kp_gd (fun g_38 => ?_)
      refine kp_bx (fun r10_39 => ?_)
      refine kp_nm (fun x11_40 _ => ?_)
      refine kp_bx (fun r12_41 => ?_)
      refine kp_nm (fun x13_42 _ => ?_)
      refine kp_nm (fun x14_43 _ => ?_)
      refine kp_bn (kb_X3_weigh hL f_i) (fun σ15_44 hσ15_44 => ?_)
      have kσ15_44 : KB σ σ15_44 := kb_trans kσ4_32 hσ15_44
      refine kp_nm (fun x16_64 _ => ?_)
      refine kp_nm (fun σ18_65 hσ18_65 => ?_)
      have kσ18_65 : KB σ σ18_65 := by rw [hσ18_65]; exact kb_trans kσ15_44 (kb_lb f_i rfl)
      refine kp_nm (fun σ20_66 hσ20_66 => ?_)
      have kσ20_66 : KB σ σ20_66 := by rw [hσ20_66]; exact kb_trans kσ18_65 (kb_lb f_i rfl)
      refine kp_nm (fun σ22_67 hσ22_67 => ?_)
      have kσ22_67 : KB σ σ22_67 := by rw [hσ22_67]; exact kb_trans kσ20_66 (kb_lb f_i rfl)
      refine kp_if ?_ ?_
      · refine kp_bx (fun r27_68 => ?_)
        refine kp_if ?_ ?_
        · refine kp_nm (fun σ30_69 hσ30_69 => ?_)
          have kσ30_69 : KB σ σ30_69 := by rw [hσ30_69]; exact kb_trans kσ22_67 (kb_lb f_i rfl)
          refine kp_nm (fun σ32_70 hσ32_70 => ?_)
          have kσ32_70 : KB σ σ32_70 := by rw [hσ32_70]; exact kb_trans kσ30_69 (kb_lb f_i rfl)
          refine kp_nm (fun σ34_71 hσ34_71 => ?_)
          have kσ34_71 : KB σ σ34_71 := by rw [hσ34_71]; exact kb_trans kσ32_70 (kb_lb f_i rfl)
          refine kp_nm (fun σ36_72 hσ36_72 => ?_)
          have kσ36_72 : KB σ σ36_72 := by rw [hσ36_72]; exact kb_trans kσ34_71 (kb_lb f_i rfl)
          exact kp_some kσ36_72
        · unfold F_X3_tryCut_180
          refine kp_nm (fun x24_73 _ => ?_)
          refine kp_nm (fun σ26_74 hσ26_74 => ?_)
          have kσ26_74 : KB σ σ26_74 := by rw [hσ26_74]; exact kb_trans kσ22_67 (kb_lb f_i rfl)
          exact kp_some kσ26_74
      · unfold F_X3_tryCut_180
        refine kp_nm (fun x24_75 _ => ?_)
        refine kp_nm (fun σ26_76 hσ26_76 => ?_)
        have kσ26_76 : KB σ σ26_76 := by rw [hσ26_76]; exact kb_trans kσ22_67 (kb_lb f_i rfl)
        exact kp_some kσ26_76
    · refine kp_nm (fun x37_77 _ => ?_)
      unfold F_X3_tryCut_111
      refine kp_gd (fun g_78 => ?_)
      refine kp_bx (fun r10_79 => ?_)
      refine kp_nm (fun x11_80 _ => ?_)
      refine kp_bx (fun r12_81 => ?_)
      refine kp_nm (fun x13_82 _ => ?_)
      refine kp_nm (fun x14_83 _ => ?_)
      refine kp_bn (kb_X3_weigh hL f_i) (fun σ15_84 hσ15_84 => ?_)
      have kσ15_84 : KB σ σ15_84 := kb_trans kσ4_32 hσ15_84
      refine kp_nm (fun x16_85 _ => ?_)
      refine kp_nm (fun σ18_86 hσ18_86 => ?_)
      have kσ18_86 : KB σ σ18_86 := by rw [hσ18_86]; exact kb_trans kσ15_84 (kb_lb f_i rfl)
      refine kp_nm (fun σ20_87 hσ20_87 => ?_)
      have kσ20_87 : KB σ σ20_87 := by rw [hσ20_87]; exact kb_trans kσ18_86 (kb_lb f_i rfl)
      refine kp_nm (fun σ22_88 hσ22_88 => ?_)
      have kσ22_88 : KB σ σ22_88 := by rw [hσ22_88]; exact kb_trans kσ20_87 (kb_lb f_i rfl)
      refine kp_if ?_ ?_
      · refine kp_bx (fun r27_89 => ?_)
        refine kp_if ?_ ?_
        · refine kp_nm (fun σ30_90 hσ30_90 => ?_)
          have kσ30_90 : KB σ σ30_90 := by rw [hσ30_90]; exact kb_trans kσ22_88 (kb_lb f_i rfl)
          refine kp_nm (fun σ32_91 hσ32_91 => ?_)
          have kσ32_91 : KB σ σ32_91 := by rw [hσ32_91]; exact kb_trans kσ30_90 (kb_lb f_i rfl)
          refine kp_nm (fun σ34_92 hσ34_92 => ?_)
          have kσ34_92 : KB σ σ34_92 := by rw [hσ34_92]; exact kb_trans kσ32_91 (kb_lb f_i rfl)
          refine kp_nm (fun σ36_93 hσ36_93 => ?_)
          have kσ36_93 : KB σ σ36_93 := by rw [hσ36_93]; exact kb_trans kσ34_92 (kb_lb f_i rfl)
          exact kp_some kσ36_93
        · unfold F_X3_tryCut_180
          refine kp_nm (fun x24_94 _ => ?_)
          refine kp_nm (fun σ26_95 hσ26_95 => ?_)
          have kσ26_95 : KB σ σ26_95 := by rw [hσ26_95]; exact kb_trans kσ22_88 (kb_lb f_i rfl)
          exact kp_some kσ26_95
      · unfold F_X3_tryCut_180
        refine kp_nm (fun x24_96 _ => ?_)
        refine kp_nm (fun σ26_97 hσ26_97 => ?_)
        have kσ26_97 : KB σ σ26_97 := by rw [hσ26_97]; exact kb_trans kσ22_88 (kb_lb f_i rfl)
        exact kp_some kσ26_97
  · refine kp_nm (fun x38_98 _ => ?_)
    unfold F_X3_tryCut_80
    refine kp_gd (fun g_99 => ?_)
    refine kp_gd (fun g_100 => ?_)
    refine kp_bx (fun r6_101 => ?_)
    refine kp_nm (fun x7_102 _ => ?_)
    refine kp_bx (fun r8_103 => ?_)
    refine kp_if ?_ ?_
    · unfold F_X3_tryCut_111
      refine kp_gd (fun g_104 => ?_)
      refine kp_bx (fun r10_105 => ?_)
      refine kp_nm (fun x11_106 _ => ?_)
      refine kp_bx (fun r12_107 => ?_)
      refine kp_nm (fun x13_108 _ => ?_)
      refine kp_nm (fun x14_109 _ => ?_)
      refine kp_bn (kb_X3_weigh hL f_i) (fun σ15_110 hσ15_110 => ?_)
      have kσ15_110 : KB σ σ15_110 := kb_trans kσ4_32 hσ15_110
      refine kp_nm (fun x16_111 _ => ?_)
      refine kp_nm (fun σ18_112 hσ18_112 => ?_)
      have kσ18_112 : KB σ σ18_112 := by rw [hσ18_112]; exact kb_trans kσ15_110 (kb_lb f_i rfl)
      refine kp_nm (fun σ20_113 hσ20_113 => ?_)
      have kσ20_113 : KB σ σ20_113 := by rw [hσ20_113]; exact kb_trans kσ18_112 (kb_lb f_i rfl)
      refine kp_nm (fun σ22_114 hσ22_114 => ?_)
      have kσ22_114 : KB σ σ22_114 := by rw [hσ22_114]; exact kb_trans kσ20_113 (kb_lb f_i rfl)
      refine kp_if ?_ ?_
      · refine kp_bx (fun r27_115 => ?_)
        refine kp_if ?_ ?_
        · refine kp_nm (fun σ30_116 hσ30_116 => ?_)
          have kσ30_116 : KB σ σ30_116 := by rw [hσ30_116]; exact kb_trans kσ22_114 (kb_lb f_i rfl)
          refine kp_nm (fun σ32_117 hσ32_117 => ?_)
          have kσ32_117 : KB σ σ32_117 := by rw [hσ32_117]; exact kb_trans kσ30_116 (kb_lb f_i rfl)
          refine kp_nm (fun σ34_118 hσ34_118 => ?_)
          have kσ34_118 : KB σ σ34_118 := by rw [hσ34_118]; exact kb_trans kσ32_117 (kb_lb f_i rfl)
          refine kp_nm (fun σ36_119 hσ36_119 => ?_)
          have kσ36_119 : KB σ σ36_119 := by rw [hσ36_119]; exact kb_trans kσ34_118 (kb_lb f_i rfl)
          exact kp_some kσ36_119
        · unfold F_X3_tryCut_180
          refine kp_nm (fun x24_120 _ => ?_)
          refine kp_nm (fun σ26_121 hσ26_121 => ?_)
          have kσ26_121 : KB σ σ26_121 := by rw [hσ26_121]; exact kb_trans kσ22_114 (kb_lb f_i rfl)
          exact kp_some kσ26_121
      · unfold F_X3_tryCut_180
        refine kp_nm (fun x24_122 _ => ?_)
        refine kp_nm (fun σ26_123 hσ26_123 => ?_)
        have kσ26_123 : KB σ σ26_123 := by rw [hσ26_123]; exact kb_trans kσ22_114 (kb_lb f_i rfl)
        exact kp_some kσ26_123
    · refine kp_nm (fun x37_124 _ => ?_)
      unfold F_X3_tryCut_111
      refine kp_gd (fun g_125 => ?_)
      refine kp_bx (fun r10_126 => ?_)
      refine kp_nm (fun x11_127 _ => ?_)
      refine kp_bx (fun r12_128 => ?_)
      refine kp_nm (fun x13_129 _ => ?_)
      refine kp_nm (fun x14_130 _ => ?_)
      refine kp_bn (kb_X3_weigh hL f_i) (fun σ15_131 hσ15_131 => ?_)
      have kσ15_131 : KB σ σ15_131 := kb_trans kσ4_32 hσ15_131
      refine kp_nm (fun x16_132 _ => ?_)
      refine kp_nm (fun σ18_133 hσ18_133 => ?_)
      have kσ18_133 : KB σ σ18_133 := by rw [hσ18_133]; exact kb_trans kσ15_131 (kb_lb f_i rfl)
      refine kp_nm (fun σ20_134 hσ20_134 => ?_)
      have kσ20_134 : KB σ σ20_134 := by rw [hσ20_134]; exact kb_trans kσ18_133 (kb_lb f_i rfl)
      refine kp_nm (fun σ22_135 hσ22_135 => ?_)
      have kσ22_135 : KB σ σ22_135 := by rw [hσ22_135]; exact kb_trans kσ20_134 (kb_lb f_i rfl)
      refine kp_if ?_ ?_
      · refine kp_bx (fun r27_136 => ?_)
        refine kp_if ?_ ?_
        · refine kp_nm (fun σ30_137 hσ30_137 => ?_)
          have kσ30_137 : KB σ σ30_137 := by rw [hσ30_137]; exact kb_trans kσ22_135 (kb_lb f_i rfl)
          refine kp_nm (fun σ32_138 hσ32_138 => ?_)
          have kσ32_138 : KB σ σ32_138 := by rw [hσ32_138]; exact kb_trans kσ30_137 (kb_lb f_i rfl)
          refine kp_nm (fun σ34_139 hσ34_139 => ?_)
          have kσ34_139 : KB σ σ34_139 := by rw [hσ34_139]; exact kb_trans kσ32_138 (kb_lb f_i rfl)
          refine kp_nm (fun σ36_140 hσ36_140 => ?_)
          have kσ36_140 : KB σ σ36_140 := by rw [hσ36_140]; exact kb_trans kσ34_139 (kb_lb f_i rfl)
          exact kp_some kσ36_140
        · unfold F_X3_tryCut_180
          refine kp_nm (fun x24_141 _ => ?_)
          refine kp_nm (fun σ26_142 hσ26_142 => ?_)
          have kσ26_142 : KB σ σ26_142 := by rw [hσ26_142]; exact kb_trans kσ22_135 (kb_lb f_i rfl)
          exact kp_some kσ26_142
      · unfold F_X3_tryCut_180
        refine kp_nm (fun x24_143 _ => ?_)
        refine kp_nm (fun σ26_144 hσ26_144 => ?_)
        have kσ26_144 : KB σ σ26_144 := by rw [hσ26_144]; exact kb_trans kσ22_135 (kb_lb f_i rfl)
        exact kp_some kσ26_144

set_option maxRecDepth 100000 in
theorem kb_X11_cut {N : Nat} {K len : Nat → Nat} {a1 : Int32} {σ : SG} {ρ : RG} (hL : Lay N K len ρ) : kp (F_X11_cut N K len a1 σ ρ) (fun q => KB σ q.2) := by
  unfold F_X11_cut
  refine kp_bx (fun o1_14 => ?_)
  refine kp_oc ?_ (fun c2_15 => ?_)
  · exact kp_some (kb_refl _)
  · refine kp_gd (fun g_16 => ?_)
    refine kp_if ?_ ?_
    · exact kp_some (kb_refl _)
    · refine kp_bn2 (kb_X3_tryCut hL (by decide) g_16) (fun r4_17 σ4_18 hr4_17 => ?_)
      have kσ4_18 : KB σ σ4_18 := kb_trans (kb_refl _) hr4_17
      refine kp_if ?_ ?_
      · exact kp_some kσ4_18
      · refine kp_nm (fun x6_145 _ => ?_)
        refine kp_nm (fun σ7_146 hσ7_146 => ?_)
        have kσ7_146 : KB σ σ7_146 := by rw [hσ7_146]; exact kb_trans kσ4_18 (kb_ck hL g_16)
        exact kp_some kσ7_146

set_option maxRecDepth 100000 in
theorem kb_X11_right {N : Nat} {K len : Nat → Nat} {σ : SG} {ρ : RG} (hL : Lay N K len ρ) : kp (F_X11_right σ ρ) (fun q => KB σ q.2) := by
  unfold F_X11_right
  refine kp_bx (fun r1_147 => ?_)
  refine kp_if ?_ ?_
  · refine kp_bn2 (kb_X3_straighten hL (by decide)) (fun r3_148 σ3_149 hr3_148 => ?_)
    have kσ3_149 : KB σ σ3_149 := kb_trans (kb_refl _) hr3_148
    exact kp_some kσ3_149
  · exact kp_some (kb_refl _)

set_option maxRecDepth 100000 in
theorem kb_X11_turn {N : Nat} {K len : Nat → Nat} {a1 : Int32} {σ : SG} {ρ : RG} (hL : Lay N K len ρ) : kp (F_X11_turn a1 σ ρ) (fun q => KB σ q.2) := by
  unfold F_X11_turn
  refine kp_if ?_ ?_
  · refine kp_nm (fun x2_150 _ => ?_)
    refine kp_nm (fun σ4_151 hσ4_151 => ?_)
    have kσ4_151 : KB σ σ4_151 := by rw [hσ4_151]; exact kb_trans (kb_refl _) (kb_lit (by decide))
    exact kp_some kσ4_151
  · refine kp_nm (fun x5_152 _ => ?_)
    refine kp_nm (fun σ7_153 hσ7_153 => ?_)
    have kσ7_153 : KB σ σ7_153 := by rw [hσ7_153]; exact kb_trans (kb_refl _) (kb_lit (by decide))
    exact kp_some kσ7_153

set_option maxRecDepth 100000 in
theorem kb_X11_see {N : Nat} {K len : Nat → Nat} {a1 : Int32} {a2 : Int32} {σ : SG} {ρ : RG} (hL : Lay N K len ρ) : kp (F_X11_see a1 a2 σ ρ) (fun q => KB σ q.2) := by
  unfold F_X11_see
  refine kp_bx (fun r1_154 => ?_)
  refine kp_if ?_ ?_
  · exact kp_some (kb_refl _)
  · refine kp_bx (fun r3_155 => ?_)
    refine kp_if ?_ ?_
    · exact kp_some (kb_refl _)
    · refine kp_nm (fun σ6_156 hσ6_156 => ?_)
      have kσ6_156 : KB σ σ6_156 := by rw [hσ6_156]; exact kb_trans (kb_refl _) (kb_lit (by decide))
      refine kp_nm (fun σ8_157 hσ8_157 => ?_)
      have kσ8_157 : KB σ σ8_157 := by rw [hσ8_157]; exact kb_trans kσ6_156 (kb_lit (by decide))
      exact kp_some kσ8_157

set_option maxRecDepth 100000 in
theorem kb_X3_startsAnew {N : Nat} {K len : Nat → Nat} {i : Nat} {a1 : Int32} {σ : SG} {ρ : RG} (hL : Lay N K len ρ) (f_i : isLb i = true) : kp (F_X3_startsAnew i a1 σ ρ) (fun q => KB σ q) := by
  unfold F_X3_startsAnew
  refine kp_nm (fun σ2_160 hσ2_160 => ?_)
  have kσ2_160 : KB σ σ2_160 := by rw [hσ2_160]; exact kb_trans (kb_refl _) (kb_lb f_i rfl)
  refine kp_nm (fun σ4_161 hσ4_161 => ?_)
  have kσ4_161 : KB σ σ4_161 := by rw [hσ4_161]; exact kb_trans kσ2_160 (kb_lb f_i rfl)
  refine kp_nm (fun σ6_162 hσ6_162 => ?_)
  have kσ6_162 : KB σ σ6_162 := by rw [hσ6_162]; exact kb_trans kσ4_161 (kb_lb f_i rfl)
  refine kp_nm (fun σ8_163 hσ8_163 => ?_)
  have kσ8_163 : KB σ σ8_163 := by rw [hσ8_163]; exact kb_trans kσ6_162 (kb_lb f_i rfl)
  refine kp_nm (fun σ10_164 hσ10_164 => ?_)
  have kσ10_164 : KB σ σ10_164 := by rw [hσ10_164]; exact kb_trans kσ8_163 (kb_lb f_i rfl)
  refine kp_nm (fun σ12_165 hσ12_165 => ?_)
  have kσ12_165 : KB σ σ12_165 := by rw [hσ12_165]; exact kb_trans kσ10_164 (kb_lb f_i rfl)
  exact kp_some kσ12_165

set_option maxRecDepth 100000 in
theorem kb_X11_loaf {N : Nat} {K len : Nat → Nat} {a1 : Int32} {σ : SG} {ρ : RG} (hL : Lay N K len ρ) : kp (F_X11_loaf a1 σ ρ) (fun q => KB σ q.2) := by
  unfold F_X11_loaf
  refine kp_bx (fun r1_158 => ?_)
  refine kp_if ?_ ?_
  · exact kp_some (kb_refl _)
  · refine kp_bn (kb_X3_startsAnew hL (by decide)) (fun σ3_159 hσ3_159 => ?_)
    have kσ3_159 : KB σ σ3_159 := kb_trans (kb_refl _) hσ3_159
    exact kp_some kσ3_159

set_option maxRecDepth 100000 in
theorem kb_X11_thick {N : Nat} {K len : Nat → Nat} {a1 : Int32} {a2 : Int32} {σ : SG} {ρ : RG} (hL : Lay N K len ρ) : kp (F_X11_thick N K len a1 a2 σ ρ) (fun q => KB σ q.2) := by
  unfold F_X11_thick
  refine kp_bx (fun o1_166 => ?_)
  refine kp_oc ?_ (fun c2_167 => ?_)
  · exact kp_some (kb_refl _)
  · refine kp_gd (fun g_168 => ?_)
    refine kp_bx (fun r3_169 => ?_)
    refine kp_if ?_ ?_
    · exact kp_some (kb_refl _)
    · refine kp_nm (fun σ5_170 hσ5_170 => ?_)
      have kσ5_170 : KB σ σ5_170 := by rw [hσ5_170]; exact kb_trans (kb_refl _) (kb_ck hL g_168)
      exact kp_some kσ5_170

set_option maxRecDepth 100000 in
theorem kb_X11_row {N : Nat} {K len : Nat → Nat} {a1 : Int32} {a2 : Int32} {a3 : Int32} {σ : SG} {ρ : RG} (hL : Lay N K len ρ) : kp (F_X11_row N K len a1 a2 a3 σ ρ) (fun q => KB σ q.2) := by
  unfold F_X11_row
  refine kp_bx (fun o1_171 => ?_)
  refine kp_oc ?_ (fun c2_172 => ?_)
  · exact kp_some (kb_refl _)
  · refine kp_gd (fun g_173 => ?_)
    refine kp_bx (fun r3_174 => ?_)
    refine kp_if ?_ ?_
    · exact kp_some (kb_refl _)
    · refine kp_bx (fun r5_175 => ?_)
      refine kp_if ?_ ?_
      · exact kp_some (kb_refl _)
      · refine kp_if ?_ ?_
        · exact kp_some (kb_refl _)
        · refine kp_gd (fun _ => ?_)
          refine kp_gd (fun _ => ?_)
          refine kp_oc ?_ (fun c10_176 => ?_)
          · exact kp_none
          · refine kp_gd (fun g_177 => ?_)
            refine kp_gd (fun _ => ?_)
            refine kp_gd (fun _ => ?_)
            refine kp_oc ?_ (fun c13_178 => ?_)
            · exact kp_none
            · refine kp_gd (fun g_179 => ?_)
              refine kp_gd (fun _ => ?_)
              refine kp_nm (fun σ16_180 hσ16_180 => ?_)
              have kσ16_180 : KB σ σ16_180 := by rw [hσ16_180]; exact kb_trans (kb_refl _) (kb_d hL g_179)
              exact kp_some kσ16_180

set_option maxRecDepth 100000 in
theorem kb_X11_week {N : Nat} {K len : Nat → Nat} {a1 : Int32} {σ : SG} {ρ : RG} (hL : Lay N K len ρ) : kp (F_X11_week a1 σ ρ) (fun q => KB σ q.2) := by
  unfold F_X11_week
  refine kp_bx (fun r1_181 => ?_)
  refine kp_if ?_ ?_
  · exact kp_some (kb_refl _)
  · refine kp_if ?_ ?_
    · refine kp_gd (fun _ => ?_)
      refine kp_nm (fun σ6_182 hσ6_182 => ?_)
      have kσ6_182 : KB σ σ6_182 := by rw [hσ6_182]; exact kb_trans (kb_refl _) (kb_row (by decide))
      refine kp_nm (fun x7_183 _ => ?_)
      refine kp_nm (fun σ9_184 hσ9_184 => ?_)
      have kσ9_184 : KB σ σ9_184 := by rw [hσ9_184]; exact kb_trans kσ6_182 (kb_lit (by decide))
      exact kp_some kσ9_184
    · exact kp_some (kb_refl _)

set_option maxRecDepth 100000 in
theorem kb_X11_clear {N : Nat} {K len : Nat → Nat} {σ : SG} {ρ : RG} (hL : Lay N K len ρ) : kp (F_X11_clear σ ρ) (fun q => KB σ q.2) := by
  unfold F_X11_clear
  refine kp_nm (fun σ2_185 hσ2_185 => ?_)
  have kσ2_185 : KB σ σ2_185 := by rw [hσ2_185]; exact kb_trans (kb_refl _) (kb_lit (by decide))
  exact kp_some kσ2_185

set_option maxRecDepth 100000 in
theorem kb_X11_book {N : Nat} {K len : Nat → Nat} {a1 : Int32} {a2 : Int32} {σ : SG} {ρ : RG} (hL : Lay N K len ρ) : kp (F_X11_book N K len a1 a2 σ ρ) (fun q => KB σ q.2) := by
  unfold F_X11_book
  refine kp_if ?_ ?_
  · refine kp_nm (fun σ18_186 hσ18_186 => ?_)
    have kσ18_186 : KB σ σ18_186 := by rw [hσ18_186]; exact kb_trans (kb_refl _) (kb_lit (by decide))
    exact kp_some kσ18_186
  · refine kp_bx (fun o2_187 => ?_)
    refine kp_oc ?_ (fun c3_188 => ?_)
    · exact kp_some (kb_refl _)
    · refine kp_gd (fun g_189 => ?_)
      refine kp_bx (fun r4_190 => ?_)
      refine kp_if ?_ ?_
      · exact kp_some (kb_refl _)
      · refine kp_if ?_ ?_
        · exact kp_some (kb_refl _)
        · refine kp_if ?_ ?_
          · refine kp_gd (fun _ => ?_)
            refine kp_nm (fun σ10_191 hσ10_191 => ?_)
            have kσ10_191 : KB σ σ10_191 := by rw [hσ10_191]; exact kb_trans (kb_refl _) (kb_row (by decide))
            refine kp_gd (fun _ => ?_)
            refine kp_nm (fun σ13_192 hσ13_192 => ?_)
            have kσ13_192 : KB σ σ13_192 := by rw [hσ13_192]; exact kb_trans kσ10_191 (kb_row (by decide))
            refine kp_nm (fun x14_193 _ => ?_)
            refine kp_nm (fun σ16_194 hσ16_194 => ?_)
            have kσ16_194 : KB σ σ16_194 := by rw [hσ16_194]; exact kb_trans kσ13_192 (kb_lit (by decide))
            exact kp_some kσ16_194
          · exact kp_some (kb_refl _)
