/-! PART 736.ka: printed by wip/gen/rl26.py -/
def kaP (r _ : Nat) : Bool := r == 55
def kaR (r : Nat) : Bool := r == 55
def KA (σ σ' : SG) : Prop := ∀ r k, kaP r k = true → σ' r k = σ r k
theorem ka_refl (σ : SG) : KA σ σ := fun _ _ _ => rfl
theorem ka_trans {σ σ1 σ2 : SG} (h : KA σ σ1) (h' : KA σ1 σ2) : KA σ σ2 := fun r k p => (h' r k p).trans (h r k p)
theorem ka_lit {σ : SG} {r k : Nat} {v : Int32} (h : kaP r k = false) : KA σ (s2 σ r k v) := fun a b p => by
  rw [s2_at]
  by_cases e : a = r
  · by_cases e' : b = k
    · rw [e, e', h] at p; cases p
    · rw [if_pos e, if_neg e', e]
  · rw [if_neg e]
theorem ka_rows {r k : Nat} (h : kaR r = false) : kaP r k = false := by
  cases e : kaP r k with
  | false => rfl
  | true =>
    exfalso
    have h' : (r == 55) = false := h
    have e' : (r == 55) = true := e
    rw [e'] at h'
    cases h'
theorem ka_row {σ : SG} {r k : Nat} {v : Int32} (h : kaR r = false) : KA σ (s2 σ r k v) := ka_lit (ka_rows h)
theorem ka_cpy {σ : SG} {a r n : Nat} (h : kaR r = false) : KA σ (cpy σ a r n) := fun x b p => by
  rw [cpy_at]
  by_cases e : x = r
  · rw [e, ka_rows h] at p; cases p
  · rw [if_neg e]
theorem kp_tr_ka {o : Option SG} {σ σ1 : SG} (h : kp o (fun q => KA σ1 q)) (k : KA σ σ1) : kp o (fun q => KA σ q) := kp_mono h (fun _ z => ka_trans k z)
theorem kp_tr2_ka {α : Type} {o : Option (α × SG)} {σ σ1 : SG} (h : kp o (fun q => KA σ1 q.2)) (k : KA σ σ1) : kp o (fun q => KA σ q.2) := kp_mono h (fun _ z => ka_trans k z)
theorem kp_tr3_ka {α β : Type} {o : Option (α × SG × β)} {σ σ1 : SG} (h : kp o (fun q => KA σ1 q.2.1)) (k : KA σ σ1) : kp o (fun q => KA σ q.2.1) := kp_mono h (fun _ z => ka_trans k z)
set_option maxRecDepth 100000 in
theorem ka_X12_ranBody {N : Nat} {K len : Nat → Nat} {a1 : Int32} {σ : SG} {ρ : RG} (hL : Lay N K len ρ) : kp (F_X12_ranBody a1 σ ρ) (fun q => KA σ q) := by
  unfold F_X12_ranBody
  refine kp_if ?_ ?_
  · unfold F_X12_ranBody_19
    refine kp_nm (fun x2_13 _ => ?_)
    refine kp_nm (fun σ4_14 hσ4_14 => ?_)
    have kσ4_14 : KA σ σ4_14 := by rw [hσ4_14]; exact ka_trans (ka_refl _) (ka_lit (by decide))
    exact kp_some kσ4_14
  · refine kp_gd (fun _ => ?_)
    refine kp_nm (fun σ7_15 hσ7_15 => ?_)
    have kσ7_15 : KA σ σ7_15 := by rw [hσ7_15]; exact ka_trans (ka_refl _) (ka_row (by decide))
    unfold F_X12_ranBody_19
    refine kp_nm (fun x2_16 _ => ?_)
    refine kp_nm (fun σ4_17 hσ4_17 => ?_)
    have kσ4_17 : KA σ σ4_17 := by rw [hσ4_17]; exact ka_trans kσ7_15 (ka_lit (by decide))
    exact kp_some kσ4_17

set_option maxRecDepth 100000 in
theorem ka_X12_plainCuts {N : Nat} {K len : Nat → Nat} {a1 : Int32} {σ : SG} {ρ : RG} (hL : Lay N K len ρ) : kp (F_X12_plainCuts a1 σ ρ) (fun q => KA σ q.2) := by
  unfold F_X12_plainCuts
  refine kp_bn (ka_X12_ranBody hL) (fun σ1_20 hσ1_20 => ?_)
  have kσ1_20 : KA σ σ1_20 := ka_trans (ka_refl _) hσ1_20
  refine kp_nm (fun x2_21 _ => ?_)
  exact kp_some kσ1_20

set_option maxRecDepth 100000 in
theorem ka_X12_cutsActs {N : Nat} {K len : Nat → Nat} {a1 : Int32} {σ : SG} {ρ : RG} (hL : Lay N K len ρ) : kp (F_X12_cutsActs a1 σ ρ) (fun q => KA σ q.2) := by
  unfold F_X12_cutsActs
  refine kp_bx (fun r1_11 => ?_)
  refine kp_if ?_ ?_
  · refine kp_if ?_ ?_
    · refine kp_bn (ka_X12_ranBody hL) (fun σ5_12 hσ5_12 => ?_)
      have kσ5_12 : KA σ σ5_12 := ka_trans (ka_refl _) hσ5_12
      refine kp_bn2 (ka_X12_plainCuts hL) (fun r6_18 σ6_19 hr6_18 => ?_)
      have kσ6_19 : KA σ σ6_19 := ka_trans kσ5_12 hr6_18
      refine kp_nm (fun x7_22 _ => ?_)
      exact kp_some kσ6_19
    · refine kp_bn2 (ka_X12_plainCuts hL) (fun r4_23 σ4_24 hr4_23 => ?_)
      have kσ4_24 : KA σ σ4_24 := ka_trans (ka_refl _) hr4_23
      exact kp_some kσ4_24
  · refine kp_bn (ka_X12_ranBody hL) (fun σ8_25 hσ8_25 => ?_)
    have kσ8_25 : KA σ σ8_25 := ka_trans (ka_refl _) hσ8_25
    refine kp_nm (fun x9_26 _ => ?_)
    refine kp_bn2 (ka_X12_plainCuts hL) (fun r10_27 σ10_28 hr10_27 => ?_)
    have kσ10_28 : KA σ σ10_28 := ka_trans kσ8_25 hr10_27
    exact kp_some kσ10_28

set_option maxRecDepth 100000 in
theorem ka_X12_plainEats {N : Nat} {K len : Nat → Nat} {a1 : Int32} {σ : SG} {ρ : RG} (hL : Lay N K len ρ) : kp (F_X12_plainEats a1 σ ρ) (fun q => KA σ q.2) := by
  unfold F_X12_plainEats
  refine kp_bn (ka_X12_ranBody hL) (fun σ1_35 hσ1_35 => ?_)
  have kσ1_35 : KA σ σ1_35 := ka_trans (ka_refl _) hσ1_35
  refine kp_bn2 (ka_X12_cutsActs hL) (fun r2_36 σ2_37 hr2_36 => ?_)
  have kσ2_37 : KA σ σ2_37 := ka_trans kσ1_35 hr2_36
  refine kp_nm (fun x3_38 _ => ?_)
  exact kp_some kσ2_37

set_option maxRecDepth 100000 in
theorem ka_X12_eatsActs {N : Nat} {K len : Nat → Nat} {a1 : Int32} {σ : SG} {ρ : RG} (hL : Lay N K len ρ) : kp (F_X12_eatsActs a1 σ ρ) (fun q => KA σ q.2) := by
  unfold F_X12_eatsActs
  refine kp_bx (fun r1_31 => ?_)
  refine kp_if ?_ ?_
  · refine kp_if ?_ ?_
    · refine kp_bn (ka_X12_ranBody hL) (fun σ5_32 hσ5_32 => ?_)
      have kσ5_32 : KA σ σ5_32 := ka_trans (ka_refl _) hσ5_32
      refine kp_bn2 (ka_X12_plainEats hL) (fun r6_33 σ6_34 hr6_33 => ?_)
      have kσ6_34 : KA σ σ6_34 := ka_trans kσ5_32 hr6_33
      refine kp_nm (fun x7_39 _ => ?_)
      exact kp_some kσ6_34
    · refine kp_bn2 (ka_X12_plainEats hL) (fun r4_40 σ4_41 hr4_40 => ?_)
      have kσ4_41 : KA σ σ4_41 := ka_trans (ka_refl _) hr4_40
      exact kp_some kσ4_41
  · refine kp_bn (ka_X12_ranBody hL) (fun σ8_42 hσ8_42 => ?_)
    have kσ8_42 : KA σ σ8_42 := ka_trans (ka_refl _) hσ8_42
    refine kp_bn2 (ka_X12_plainEats hL) (fun r9_43 σ9_44 hr9_43 => ?_)
    have kσ9_44 : KA σ σ9_44 := ka_trans kσ8_42 hr9_43
    refine kp_nm (fun x10_45 _ => ?_)
    exact kp_some kσ9_44

set_option maxRecDepth 100000 in
theorem ka_X12_plainTells {N : Nat} {K len : Nat → Nat} {a1 : Int32} {σ : SG} {ρ : RG} (hL : Lay N K len ρ) : kp (F_X12_plainTells a1 σ ρ) (fun q => KA σ q.2) := by
  unfold F_X12_plainTells
  refine kp_bn (ka_X12_ranBody hL) (fun σ1_53 hσ1_53 => ?_)
  have kσ1_53 : KA σ σ1_53 := ka_trans (ka_refl _) hσ1_53
  refine kp_bn2 (ka_X12_eatsActs hL) (fun r2_54 σ2_55 hr2_54 => ?_)
  have kσ2_55 : KA σ σ2_55 := ka_trans kσ1_53 hr2_54
  refine kp_nm (fun x3_56 _ => ?_)
  exact kp_some kσ2_55

set_option maxRecDepth 100000 in
theorem ka_X12_tellsActs {N : Nat} {K len : Nat → Nat} {a1 : Int32} {σ : SG} {ρ : RG} (hL : Lay N K len ρ) : kp (F_X12_tellsActs a1 σ ρ) (fun q => KA σ q.2) := by
  unfold F_X12_tellsActs
  refine kp_bx (fun r1_48 => ?_)
  refine kp_if ?_ ?_
  · refine kp_if ?_ ?_
    · refine kp_bn (ka_X12_ranBody hL) (fun σ5_49 hσ5_49 => ?_)
      have kσ5_49 : KA σ σ5_49 := ka_trans (ka_refl _) hσ5_49
      refine kp_nm (fun x6_50 _ => ?_)
      refine kp_bn2 (ka_X12_plainTells hL) (fun r7_51 σ7_52 hr7_51 => ?_)
      have kσ7_52 : KA σ σ7_52 := ka_trans kσ5_49 hr7_51
      refine kp_bn2 (ka_X12_cutsActs hL) (fun r8_57 σ8_58 hr8_57 => ?_)
      have kσ8_58 : KA σ σ8_58 := ka_trans kσ7_52 hr8_57
      refine kp_nm (fun x9_59 _ => ?_)
      exact kp_some kσ8_58
    · refine kp_bn2 (ka_X12_plainTells hL) (fun r4_60 σ4_61 hr4_60 => ?_)
      have kσ4_61 : KA σ σ4_61 := ka_trans (ka_refl _) hr4_60
      exact kp_some kσ4_61
  · refine kp_bn (ka_X12_ranBody hL) (fun σ10_62 hσ10_62 => ?_)
    have kσ10_62 : KA σ σ10_62 := ka_trans (ka_refl _) hσ10_62
    refine kp_bn2 (ka_X12_plainTells hL) (fun r11_63 σ11_64 hr11_63 => ?_)
    have kσ11_64 : KA σ σ11_64 := ka_trans kσ10_62 hr11_63
    refine kp_nm (fun x12_65 _ => ?_)
    exact kp_some kσ11_64

set_option maxRecDepth 100000 in
theorem ka_X12_act {N : Nat} {K len : Nat → Nat} {a1 : Int32} {a2 : Int32} {a3 : Int32} {σ : SG} {ρ : RG} (hL : Lay N K len ρ) : kp (F_X12_act a1 a2 a3 σ ρ) (fun q => KA σ q.2) := by
  unfold F_X12_act
  refine kp_nm (fun σ2_1 hσ2_1 => ?_)
  have kσ2_1 : KA σ σ2_1 := by rw [hσ2_1]; exact ka_trans (ka_refl _) (ka_lit (by decide))
  refine kp_bx (fun r3_2 => ?_)
  refine kp_if ?_ ?_
  · exact kp_some kσ2_1
  · refine kp_bx (fun r5_3 => ?_)
    refine kp_if ?_ ?_
    · exact kp_some kσ2_1
    · refine kp_nm (fun x7_4 _ => ?_)
      refine kp_gd (fun _ => ?_)
      refine kp_nm (fun σ10_5 hσ10_5 => ?_)
      have kσ10_5 : KA σ σ10_5 := by rw [hσ10_5]; exact ka_trans kσ2_1 (ka_lit (by decide))
      refine kp_nm (fun σ12_6 hσ12_6 => ?_)
      have kσ12_6 : KA σ σ12_6 := by rw [hσ12_6]; exact ka_trans kσ10_5 (ka_lit (by decide))
      refine kp_nm (fun x13_7 _ => ?_)
      refine kp_gd (fun _ => ?_)
      refine kp_nm (fun σ16_8 hσ16_8 => ?_)
      have kσ16_8 : KA σ σ16_8 := by rw [hσ16_8]; exact ka_trans kσ12_6 (ka_lit (by decide))
      refine kp_if ?_ ?_
      · refine kp_bn2 (ka_X12_cutsActs hL) (fun r21_9 σ21_10 hr21_9 => ?_)
        have kσ21_10 : KA σ σ21_10 := ka_trans kσ16_8 hr21_9
        exact kp_some kσ21_10
      · refine kp_if ?_ ?_
        · refine kp_bn2 (ka_X12_eatsActs hL) (fun r20_29 σ20_30 hr20_29 => ?_)
          have kσ20_30 : KA σ σ20_30 := ka_trans kσ16_8 hr20_29
          exact kp_some kσ20_30
        · refine kp_bn2 (ka_X12_tellsActs hL) (fun r19_46 σ19_47 hr19_46 => ?_)
          have kσ19_47 : KA σ σ19_47 := ka_trans kσ16_8 hr19_46
          exact kp_some kσ19_47
