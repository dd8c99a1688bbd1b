/-! PART 7623.kt: printed by wip/gen/kt36.py -/
/-- the class's trace -/
def ktP (r _k : Nat) : Bool := r == 27 || r == 28
def ktR (r : Nat) : Bool := r == 27 || r == 28
def KT (σ σ' : SG) : Prop := ∀ r k, ktP r k = true → σ' r k = σ r k
theorem kt_refl (σ : SG) : KT σ σ := fun _ _ _ => rfl
theorem kt_trans {σ σ1 σ2 : SG} (h : KT σ σ1) (h' : KT σ1 σ2) : KT σ σ2 := fun r k p => (h' r k p).trans (h r k p)
theorem kt_lit {σ : SG} {r k : Nat} {v : Int32} (h : ktP r k = false) : KT σ (s2 σ r k v) := fun a b p => by
  rw [s2_at]
  by_cases e : a = r
  · by_cases e' : b = k
    · rw [e, e', h] at p; cases p
    · rw [if_pos e, if_neg e', e]
  · rw [if_neg e]
theorem kt_rows {r k : Nat} (h : ktR r = false) : ktP r k = false := by
  cases e : ktP r k with
  | false => rfl
  | true =>
    exfalso
    rw [show ktP r k = ktR r from rfl, h] at e
    cases e
theorem kt_row {σ : SG} {r k : Nat} {v : Int32} (h : ktR r = false) : KT σ (s2 σ r k v) := kt_lit (kt_rows h)
theorem kt_cpy {σ : SG} {a r n : Nat} (h : ktR r = false) : KT σ (cpy σ a r n) := fun x b p => by
  rw [cpy_at]
  by_cases e : x = r
  · rw [e, kt_rows h] at p; cases p
  · rw [if_neg e]
theorem kp_tr_kt {o : Option SG} {σ σ1 : SG} (h : kp o (fun q => KT σ1 q)) (k : KT σ σ1) : kp o (fun q => KT σ q) := kp_mono h (fun _ z => kt_trans k z)
theorem kp_tr2_kt {α : Type} {o : Option (α × SG)} {σ σ1 : SG} (h : kp o (fun q => KT σ1 q.2)) (k : KT σ σ1) : kp o (fun q => KT σ q.2) := kp_mono h (fun _ z => kt_trans k z)
theorem kp_tr3_kt {α β : Type} {o : Option (α × SG × β)} {σ σ1 : SG} (h : kp o (fun q => KT σ1 q.2.1)) (k : KT σ σ1) : kp o (fun q => KT σ q.2.1) := kp_mono h (fun _ z => kt_trans k z)
theorem kt_lbx {σ : SG} {i k : Nat} {v : Int32} (h : isLb i = true) : KT σ (s2 σ i k v) := by
  have hd : ∀ i : Fin 65, isLb i = true → ktR i = false := by decide
  exact kt_row (hd ⟨i, isLb_lt h⟩ h)
theorem kt_lb1 {σ : SG} {i k : Nat} {v : Int32} (h : isLb i = true) : KT σ (s2 σ (i + 1) k v) := by
  have hd : ∀ i : Fin 65, isLb i = true → ktR (i + 1) = false := by decide
  exact kt_row (hd ⟨i, isLb_lt h⟩ h)
theorem kt_hi {r : Nat} (h : 65 ≤ r) : ktR r = false := by
  unfold ktR
  simp only [Bool.or_eq_false_iff, beq_eq_false_iff_ne]
  omega
theorem kt_ck {N : Nat} {K len : Nat → Nat} {ρ : RG} {σ : SG} {c k : Nat} {v : Int32} (hL : Lay N K len ρ) (h : isC N K c = true) : KT σ (s2 σ c k v) := kt_row (kt_hi (ck_65 hL h))
theorem kt_c5 {N : Nat} {K len : Nat → Nat} {ρ : RG} {σ : SG} {c : Nat} {v : Int32} (hL : Lay N K len ρ) (h : isC N K c = true) : KT σ (s2 σ c 5 v) := kt_ck hL h
theorem kt_dg {N : Nat} {K len : Nat → Nat} {ρ : RG} {σ : SG} {d k : Nat} {v : Int32} (hL : Lay N K len ρ) (h : isD N K len d = true) : KT σ (s2 σ d k v) := kt_row (by
  rcases Nat.lt_or_ge d 65 with z | z
  · obtain ⟨-, q1, q2⟩ := isD_lt h
    obtain ⟨e1, e2⟩ := hL.2.1 d z
    have hd : ∀ d : Fin 65, kind0 d = 14 → len0 d = 4 → ktR d = false := by decide
    exact hd ⟨d, z⟩ (e1.symm.trans q1) (e2.symm.trans q2)
  · exact kt_hi z)
set_option maxRecDepth 100000 in
theorem kt_X4_prepare {N : Nat} {K len : Nat → Nat} {z : Nat} {i : Nat} {σ : SG} {ρ : RG} (hL : Lay N K len ρ) (f_z : isC N K z = true) (f_i : isLb i = true) : kp (F_X4_prepare N K len z i σ ρ) (fun q => KT σ q) := by
  unfold F_X4_prepare
  refine kp_nm (fun x1_1 _ => ?_)
  refine kp_nm (fun σ3_2 hσ3_2 => ?_)
  have kσ3_2 : KT σ σ3_2 := by rw [hσ3_2]; exact kt_trans (kt_refl _) (kt_lbx f_i)
  exact kp_some kσ3_2

set_option maxRecDepth 100000 in
theorem kt_X3_straighten {N : Nat} {K len : Nat → Nat} {i : Nat} {σ : SG} {ρ : RG} (hL : Lay N K len ρ) (f_i : isLb i = true) : kp (F_X3_straighten i σ ρ) (fun q => KT σ q.2) := by
  unfold F_X3_straighten
  refine kp_bx (fun r1_5 => ?_)
  refine kp_nm (fun x2_6 _ => ?_)
  refine kp_nm (fun σ4_7 hσ4_7 => ?_)
  have kσ4_7 : KT σ σ4_7 := by rw [hσ4_7]; exact kt_trans (kt_refl _) (kt_lbx f_i)
  refine kp_nm (fun σ6_8 hσ6_8 => ?_)
  have kσ6_8 : KT σ σ6_8 := by rw [hσ6_8]; exact kt_trans kσ4_7 (kt_lbx f_i)
  refine kp_nm (fun σ8_9 hσ8_9 => ?_)
  have kσ8_9 : KT σ σ8_9 := by rw [hσ8_9]; exact kt_trans kσ6_8 (kt_lbx f_i)
  refine kp_nm (fun x9_10 _ => ?_)
  refine kp_nm (fun x10_11 _ => ?_)
  refine kp_nm (fun σ12_12 hσ12_12 => ?_)
  have kσ12_12 : KT σ σ12_12 := by rw [hσ12_12]; exact kt_trans kσ8_9 (kt_lbx f_i)
  refine kp_nm (fun x13_13 _ => ?_)
  exact kp_some kσ12_12

set_option maxRecDepth 100000 in
theorem kt_X5_prepare {N : Nat} {K len : Nat → Nat} {z : Nat} {i : Nat} {σ : SG} {ρ : RG} (hL : Lay N K len ρ) (f_z : isC N K z = true) (f_i : isLb i = true) : kp (F_X5_prepare N K len z i σ ρ) (fun q => KT σ q) := by
  unfold F_X5_prepare
  refine kp_bn2 (kt_X3_straighten hL f_i) (fun r1_3 σ1_4 hr1_3 => ?_)
  have kσ1_4 : KT σ σ1_4 := kt_trans (kt_refl _) hr1_3
  exact kp_some kσ1_4

theorem kt_v_prepare {N : Nat} {K len : Nat → Nat} {z i : Nat} {σ : SG} {ρ : RG} (hL : Lay N K len ρ) (f_z : isC N K z = true) (f_i : isLb i = true) : kp (F_v_prepare N K len z i σ ρ) (fun q => KT σ q) := by
  unfold F_v_prepare
  refine kp_if (kp_bx (fun _ => kp_some (kt_refl _))) ?_
  refine kp_if (kp_bx (fun _ => kp_some (kt_refl _))) ?_
  refine kp_if (kt_X4_prepare hL f_z f_i) ?_
  refine kp_if (kt_X5_prepare hL f_z f_i) ?_
  refine kp_if (kp_bx (fun _ => kp_some (kt_refl _))) ?_
  refine kp_if (kp_bx (fun _ => kp_some (kt_refl _))) ?_
  refine kp_if (kp_bx (fun _ => kp_some (kt_refl _))) ?_
  exact kp_none

set_option maxRecDepth 100000 in
theorem kt_X11_feed {N : Nat} {K len : Nat → Nat} {a1 : Int32} {σ : SG} {ρ : RG} (hL : Lay N K len ρ) : kp (F_X11_feed a1 σ ρ) (fun q => KT σ q.2) := by
  unfold F_X11_feed
  refine kp_bx (fun r1_14 => ?_)
  refine kp_if ?_ ?_
  · exact kp_some (kt_refl _)
  · refine kp_if ?_ ?_
    · refine kp_gd (fun _ => ?_)
      refine kp_nm (fun σ6_15 hσ6_15 => ?_)
      have kσ6_15 : KT σ σ6_15 := by rw [hσ6_15]; exact kt_trans (kt_refl _) (kt_row (by decide))
      refine kp_nm (fun x7_16 _ => ?_)
      refine kp_nm (fun σ9_17 hσ9_17 => ?_)
      have kσ9_17 : KT σ σ9_17 := by rw [hσ9_17]; exact kt_trans kσ6_15 (kt_lit (by decide))
      exact kp_some kσ9_17
    · exact kp_some (kt_refl _)

set_option maxRecDepth 100000 in
theorem kt_X3_noteStart {N : Nat} {K len : Nat → Nat} {i : Nat} {z : Nat} {a2 : Int32} {σ : SG} {ρ : RG} (hL : Lay N K len ρ) (f_i : isLb i = true) (f_z : isC N K z = true) : kp (F_X3_noteStart N K len i z a2 σ ρ) (fun q => KT σ q) := by
  unfold F_X3_noteStart
  refine kp_nm (fun σ2_24 hσ2_24 => ?_)
  have kσ2_24 : KT σ σ2_24 := by rw [hσ2_24]; exact kt_trans (kt_refl _) (kt_lb1 f_i)
  refine kp_bx (fun r3_25 => ?_)
  refine kp_nm (fun σ5_26 hσ5_26 => ?_)
  have kσ5_26 : KT σ σ5_26 := by rw [hσ5_26]; exact kt_trans kσ2_24 (kt_lb1 f_i)
  refine kp_nm (fun σ7_27 hσ7_27 => ?_)
  have kσ7_27 : KT σ σ7_27 := by rw [hσ7_27]; exact kt_trans kσ5_26 (kt_lb1 f_i)
  refine kp_nm (fun x8_28 _ => ?_)
  refine kp_nm (fun σ10_29 hσ10_29 => ?_)
  have kσ10_29 : KT σ σ10_29 := by rw [hσ10_29]; exact kt_trans kσ7_27 (kt_lb1 f_i)
  refine kp_nm (fun x11_30 _ => ?_)
  refine kp_nm (fun σ13_31 hσ13_31 => ?_)
  have kσ13_31 : KT σ σ13_31 := by rw [hσ13_31]; exact kt_trans kσ10_29 (kt_lb1 f_i)
  refine kp_nm (fun x14_32 _ => ?_)
  refine kp_nm (fun σ16_33 hσ16_33 => ?_)
  have kσ16_33 : KT σ σ16_33 := by rw [hσ16_33]; exact kt_trans kσ13_31 (kt_lb1 f_i)
  exact kp_some kσ16_33

set_option maxRecDepth 100000 in
theorem kt_X3_weigh_8 {N : Nat} {K len : Nat → Nat} {i : Nat} {a1 : Int32} {a2 : Int32} {a3 : Int32} {ρ : RG} (hL : Lay N K len ρ) (f_i : isLb i = true) : ∀ (n : Nat) (σ : SG) (v1 : Int32) (v2 : Int32) (v3 : Int32) (v4 : Int32), kp (F_X3_weigh_8 i a1 a2 a3 n σ ρ v1 v2 v3 v4) (fun q => KT σ q) := by
  intro n
  induction n with
  | zero => intro σ v1 v2 v3 v4; exact kp_none
  | succ n ih =>
    intro σ v1 v2 v3 v4
    unfold F_X3_weigh_8
    refine kp_if ?_ ?_
    · exact kp_some (kt_refl _)
    · refine kp_bx (fun r4_50 => ?_)
      refine kp_nm (fun x5_51 _ => ?_)
      refine kp_nm (fun x6_52 _ => ?_)
      refine kp_nm (fun x7_53 _ => ?_)
      refine kp_nm (fun σ9_54 hσ9_54 => ?_)
      have kσ9_54 : KT σ σ9_54 := by rw [hσ9_54]; exact kt_trans (kt_refl _) (kt_lbx f_i)
      refine kp_if ?_ ?_
      · unfold F_X3_weigh_60
        refine kp_nm (fun σ13_55 hσ13_55 => ?_)
        have kσ13_55 : KT σ σ13_55 := by rw [hσ13_55]; exact kt_trans kσ9_54 (kt_lbx f_i)
        refine kp_if ?_ ?_
        · unfold F_X3_weigh_83
          refine kp_nm (fun σ17_56 hσ17_56 => ?_)
          have kσ17_56 : KT σ σ17_56 := by rw [hσ17_56]; exact kt_trans kσ13_55 (kt_lbx f_i)
          refine kp_nm (fun x18_57 _ => ?_)
          exact kp_tr_kt (ih _ _ _ _ _) kσ17_56
        · refine kp_nm (fun x15_58 _ => ?_)
          unfold F_X3_weigh_83
          refine kp_nm (fun σ17_59 hσ17_59 => ?_)
          have kσ17_59 : KT σ σ17_59 := by rw [hσ17_59]; exact kt_trans kσ13_55 (kt_lbx f_i)
          refine kp_nm (fun x18_60 _ => ?_)
          exact kp_tr_kt (ih _ _ _ _ _) kσ17_59
      · refine kp_nm (fun x11_61 _ => ?_)
        unfold F_X3_weigh_60
        refine kp_nm (fun σ13_62 hσ13_62 => ?_)
        have kσ13_62 : KT σ σ13_62 := by rw [hσ13_62]; exact kt_trans kσ9_54 (kt_lbx f_i)
        refine kp_if ?_ ?_
        · unfold F_X3_weigh_83
          refine kp_nm (fun σ17_63 hσ17_63 => ?_)
          have kσ17_63 : KT σ σ17_63 := by rw [hσ17_63]; exact kt_trans kσ13_62 (kt_lbx f_i)
          refine kp_nm (fun x18_64 _ => ?_)
          exact kp_tr_kt (ih _ _ _ _ _) kσ17_63
        · refine kp_nm (fun x15_65 _ => ?_)
          unfold F_X3_weigh_83
          refine kp_nm (fun σ17_66 hσ17_66 => ?_)
          have kσ17_66 : KT σ σ17_66 := by rw [hσ17_66]; exact kt_trans kσ13_62 (kt_lbx f_i)
          refine kp_nm (fun x18_67 _ => ?_)
          exact kp_tr_kt (ih _ _ _ _ _) kσ17_66

set_option maxRecDepth 100000 in
theorem kt_X3_weigh {N : Nat} {K len : Nat → Nat} {i : Nat} {a1 : Int32} {a2 : Int32} {a3 : Int32} {σ : SG} {ρ : RG} (hL : Lay N K len ρ) (f_i : isLb i = true) : kp (F_X3_weigh i a1 a2 a3 σ ρ) (fun q => KT σ q) := by
  unfold F_X3_weigh
  refine kp_nm (fun σ2_49 hσ2_49 => ?_)
  have kσ2_49 : KT σ σ2_49 := by rw [hσ2_49]; exact kt_trans (kt_refl _) (kt_lbx f_i)
  exact kp_tr_kt (kt_X3_weigh_8 hL f_i 1024 _ _ _ _ _) kσ2_49

set_option maxRecDepth 100000 in
theorem kt_X3_tryCut {N : Nat} {K len : Nat → Nat} {i : Nat} {z : Nat} {a2 : Int32} {a4 : Int32} {a5 : Int32} {σ : SG} {ρ : RG} (hL : Lay N K len ρ) (f_i : isLb i = true) (f_z : isC N K z = true) : kp (F_X3_tryCut N K len i z a2 a4 a5 σ ρ) (fun q => KT σ q.2) := by
  unfold F_X3_tryCut
  refine kp_bn (kt_X3_noteStart hL f_i f_z) (fun σ1_23 hσ1_23 => ?_)
  have kσ1_23 : KT σ σ1_23 := kt_trans (kt_refl _) hσ1_23
  refine kp_bx (fun r2_34 => ?_)
  refine kp_bx (fun r3_35 => ?_)
  refine kp_bn (kt_v_prepare hL f_z f_i) (fun σ4_36 hσ4_36 => ?_)
  have kσ4_36 : KT σ σ4_36 := kt_trans kσ1_23 hσ4_36
  refine kp_if ?_ ?_
  · unfold F_X3_tryCut_80
    refine kp_gd (fun g_37 => ?_)
    refine kp_gd (fun g_38 => ?_)
    refine kp_bx (fun r6_39 => ?_)
    refine kp_nm (fun x7_40 _ => ?_)
    refine kp_bx (fun r8_41 => ?_)
    refine kp_if ?_ ?_
    · unfold F_X3_tryCut_111
      refine kp_gd (fun g_42 => ?_)
      refine kp_bx (fun r10_43 => ?_)
      refine kp_nm (fun x11_44 _ => ?_)
      refine kp_bx (fun r12_45 => ?_)
      refine kp_nm (fun x13_46 _ => ?_)
      refine kp_nm (fun x14_47 _ => ?_)
      refine kp_bn (kt_X3_weigh hL f_i) (fun σ15_48 hσ15_48 => ?_)
      have kσ15_48 : KT σ σ15_48 := kt_trans kσ4_36 hσ15_48
      refine kp_nm (fun x16_68 _ => ?_)
      refine kp_nm (fun σ18_69 hσ18_69 => ?_)
      have kσ18_69 : KT σ σ18_69 := by rw [hσ18_69]; exact kt_trans kσ15_48 (kt_lbx f_i)
      refine kp_nm (fun σ20_70 hσ20_70 => ?_)
      have kσ20_70 : KT σ σ20_70 := by rw [hσ20_70]; exact kt_trans kσ18_69 (kt_lbx f_i)
      refine kp_nm (fun σ22_71 hσ22_71 => ?_)
      have kσ22_71 : KT σ σ22_71 := by rw [hσ22_71]; exact kt_trans kσ20_70 (kt_lbx f_i)
      refine kp_if ?_ ?_
      · refine kp_bx (fun r27_72 => ?_)
        refine kp_if ?_ ?_
        · refine kp_nm (fun σ30_73 hσ30_73 => ?_)
          have kσ30_73 : KT σ σ30_73 := by rw [hσ30_73]; exact kt_trans kσ22_71 (kt_lbx f_i)
          refine kp_nm (fun σ32_74 hσ32_74 => ?_)
          have kσ32_74 : KT σ σ32_74 := by rw [hσ32_74]; exact kt_trans kσ30_73 (kt_lbx f_i)
          refine kp_nm (fun σ34_75 hσ34_75 => ?_)
          have kσ34_75 : KT σ σ34_75 := by rw [hσ34_75]; exact kt_trans kσ32_74 (kt_lbx f_i)
          refine kp_nm (fun σ36_76 hσ36_76 => ?_)
          have kσ36_76 : KT σ σ36_76 := by rw [hσ36_76]; exact kt_trans kσ34_75 (kt_lbx f_i)
          exact kp_some kσ36_76
        · unfold F_X3_tryCut_180
          refine kp_nm (fun x24_77 _ => ?_)
          refine kp_nm (fun σ26_78 hσ26_78 => ?_)
          have kσ26_78 : KT σ σ26_78 := by rw [hσ26_78]; exact kt_trans kσ22_71 (kt_lbx f_i)
          exact kp_some kσ26_78
      · unfold F_X3_tryCut_180
        refine kp_nm (fun x24_79 _ => ?_)
        refine kp_nm (fun σ26_80 hσ26_80 => ?_)
        have kσ26_80 : KT σ σ26_80 := by rw [hσ26_80]; exact kt_trans kσ22_71 (kt_lbx f_i)
        exact kp_some kσ26_80
    · refine kp_nm (fun x37_81 _ => ?_)
      unfold F_X3_tryCut_111
      refine kp_gd (fun g_82 => ?_)
      refine kp_bx (fun r10_83 => ?_)
      refine kp_nm (fun x11_84 _ => ?_)
      refine kp_bx (fun r12_85 => ?_)
      refine kp_nm (fun x13_86 _ => ?_)
      refine kp_nm (fun x14_87 _ => ?_)
      refine kp_bn (kt_X3_weigh hL f_i) (fun σ15_88 hσ15_88 => ?_)
      have kσ15_88 : KT σ σ15_88 := kt_trans kσ4_36 hσ15_88
      refine kp_nm (fun x16_89 _ => ?_)
      refine kp_nm (fun σ18_90 hσ18_90 => ?_)
      have kσ18_90 : KT σ σ18_90 := by rw [hσ18_90]; exact kt_trans kσ15_88 (kt_lbx f_i)
      refine kp_nm (fun σ20_91 hσ20_91 => ?_)
      have kσ20_91 : KT σ σ20_91 := by rw [hσ20_91]; exact kt_trans kσ18_90 (kt_lbx f_i)
      refine kp_nm (fun σ22_92 hσ22_92 => ?_)
      have kσ22_92 : KT σ σ22_92 := by rw [hσ22_92]; exact kt_trans kσ20_91 (kt_lbx f_i)
      refine kp_if ?_ ?_
      · refine kp_bx (fun r27_93 => ?_)
        refine kp_if ?_ ?_
        · refine kp_nm (fun σ30_94 hσ30_94 => ?_)
          have kσ30_94 : KT σ σ30_94 := by rw [hσ30_94]; exact kt_trans kσ22_92 (kt_lbx f_i)
          refine kp_nm (fun σ32_95 hσ32_95 => ?_)
          have kσ32_95 : KT σ σ32_95 := by rw [hσ32_95]; exact kt_trans kσ30_94 (kt_lbx f_i)
          refine kp_nm (fun σ34_96 hσ34_96 => ?_)
          have kσ34_96 : KT σ σ34_96 := by rw [hσ34_96]; exact kt_trans kσ32_95 (kt_lbx f_i)
          refine kp_nm (fun σ36_97 hσ36_97 => ?_)
          have kσ36_97 : KT σ σ36_97 := by rw [hσ36_97]; exact kt_trans kσ34_96 (kt_lbx f_i)
          exact kp_some kσ36_97
        · unfold F_X3_tryCut_180
          refine kp_nm (fun x24_98 _ => ?_)
          refine kp_nm (fun σ26_99 hσ26_99 => ?_)
          have kσ26_99 : KT σ σ26_99 := by rw [hσ26_99]; exact kt_trans kσ22_92 (kt_lbx f_i)
          exact kp_some kσ26_99
      · unfold F_X3_tryCut_180
        refine kp_nm (fun x24_100 _ => ?_)
        refine kp_nm (fun σ26_101 hσ26_101 => ?_)
        have kσ26_101 : KT σ σ26_101 := by rw [hσ26_101]; exact kt_trans kσ22_92 (kt_lbx f_i)
        exact kp_some kσ26_101
  · refine kp_nm (fun x38_102 _ => ?_)
    unfold F_X3_tryCut_80
    refine kp_gd (fun g_103 => ?_)
    refine kp_gd (fun g_104 => ?_)
    refine kp_bx (fun r6_105 => ?_)
    refine kp_nm (fun x7_106 _ => ?_)
    refine kp_bx (fun r8_107 => ?_)
    refine kp_if ?_ ?_
    · unfold F_X3_tryCut_111
      refine kp_gd (fun g_108 => ?_)
      refine kp_bx (fun r10_109 => ?_)
      refine kp_nm (fun x11_110 _ => ?_)
      refine kp_bx (fun r12_111 => ?_)
      refine kp_nm (fun x13_112 _ => ?_)
      refine kp_nm (fun x14_113 _ => ?_)
      refine kp_bn (kt_X3_weigh hL f_i) (fun σ15_114 hσ15_114 => ?_)
      have kσ15_114 : KT σ σ15_114 := kt_trans kσ4_36 hσ15_114
      refine kp_nm (fun x16_115 _ => ?_)
      refine kp_nm (fun σ18_116 hσ18_116 => ?_)
      have kσ18_116 : KT σ σ18_116 := by rw [hσ18_116]; exact kt_trans kσ15_114 (kt_lbx f_i)
      refine kp_nm (fun σ20_117 hσ20_117 => ?_)
      have kσ20_117 : KT σ σ20_117 := by rw [hσ20_117]; exact kt_trans kσ18_116 (kt_lbx f_i)
      refine kp_nm (fun σ22_118 hσ22_118 => ?_)
      have kσ22_118 : KT σ σ22_118 := by rw [hσ22_118]; exact kt_trans kσ20_117 (kt_lbx f_i)
      refine kp_if ?_ ?_
      · refine kp_bx (fun r27_119 => ?_)
        refine kp_if ?_ ?_
        · refine kp_nm (fun σ30_120 hσ30_120 => ?_)
          have kσ30_120 : KT σ σ30_120 := by rw [hσ30_120]; exact kt_trans kσ22_118 (kt_lbx f_i)
          refine kp_nm (fun σ32_121 hσ32_121 => ?_)
          have kσ32_121 : KT σ σ32_121 := by rw [hσ32_121]; exact kt_trans kσ30_120 (kt_lbx f_i)
          refine kp_nm (fun σ34_122 hσ34_122 => ?_)
          have kσ34_122 : KT σ σ34_122 := by rw [hσ34_122]; exact kt_trans kσ32_121 (kt_lbx f_i)
          refine kp_nm (fun σ36_123 hσ36_123 => ?_)
          have kσ36_123 : KT σ σ36_123 := by rw [hσ36_123]; exact kt_trans kσ34_122 (kt_lbx f_i)
          exact kp_some kσ36_123
        · unfold F_X3_tryCut_180
          refine kp_nm (fun x24_124 _ => ?_)
          refine kp_nm (fun σ26_125 hσ26_125 => ?_)
          have kσ26_125 : KT σ σ26_125 := by rw [hσ26_125]; exact kt_trans kσ22_118 (kt_lbx f_i)
          exact kp_some kσ26_125
      · unfold F_X3_tryCut_180
        refine kp_nm (fun x24_126 _ => ?_)
        refine kp_nm (fun σ26_127 hσ26_127 => ?_)
        have kσ26_127 : KT σ σ26_127 := by rw [hσ26_127]; exact kt_trans kσ22_118 (kt_lbx f_i)
        exact kp_some kσ26_127
    · refine kp_nm (fun x37_128 _ => ?_)
      unfold F_X3_tryCut_111
      refine kp_gd (fun g_129 => ?_)
      refine kp_bx (fun r10_130 => ?_)
      refine kp_nm (fun x11_131 _ => ?_)
      refine kp_bx (fun r12_132 => ?_)
      refine kp_nm (fun x13_133 _ => ?_)
      refine kp_nm (fun x14_134 _ => ?_)
      refine kp_bn (kt_X3_weigh hL f_i) (fun σ15_135 hσ15_135 => ?_)
      have kσ15_135 : KT σ σ15_135 := kt_trans kσ4_36 hσ15_135
      refine kp_nm (fun x16_136 _ => ?_)
      refine kp_nm (fun σ18_137 hσ18_137 => ?_)
      have kσ18_137 : KT σ σ18_137 := by rw [hσ18_137]; exact kt_trans kσ15_135 (kt_lbx f_i)
      refine kp_nm (fun σ20_138 hσ20_138 => ?_)
      have kσ20_138 : KT σ σ20_138 := by rw [hσ20_138]; exact kt_trans kσ18_137 (kt_lbx f_i)
      refine kp_nm (fun σ22_139 hσ22_139 => ?_)
      have kσ22_139 : KT σ σ22_139 := by rw [hσ22_139]; exact kt_trans kσ20_138 (kt_lbx f_i)
      refine kp_if ?_ ?_
      · refine kp_bx (fun r27_140 => ?_)
        refine kp_if ?_ ?_
        · refine kp_nm (fun σ30_141 hσ30_141 => ?_)
          have kσ30_141 : KT σ σ30_141 := by rw [hσ30_141]; exact kt_trans kσ22_139 (kt_lbx f_i)
          refine kp_nm (fun σ32_142 hσ32_142 => ?_)
          have kσ32_142 : KT σ σ32_142 := by rw [hσ32_142]; exact kt_trans kσ30_141 (kt_lbx f_i)
          refine kp_nm (fun σ34_143 hσ34_143 => ?_)
          have kσ34_143 : KT σ σ34_143 := by rw [hσ34_143]; exact kt_trans kσ32_142 (kt_lbx f_i)
          refine kp_nm (fun σ36_144 hσ36_144 => ?_)
          have kσ36_144 : KT σ σ36_144 := by rw [hσ36_144]; exact kt_trans kσ34_143 (kt_lbx f_i)
          exact kp_some kσ36_144
        · unfold F_X3_tryCut_180
          refine kp_nm (fun x24_145 _ => ?_)
          refine kp_nm (fun σ26_146 hσ26_146 => ?_)
          have kσ26_146 : KT σ σ26_146 := by rw [hσ26_146]; exact kt_trans kσ22_139 (kt_lbx f_i)
          exact kp_some kσ26_146
      · unfold F_X3_tryCut_180
        refine kp_nm (fun x24_147 _ => ?_)
        refine kp_nm (fun σ26_148 hσ26_148 => ?_)
        have kσ26_148 : KT σ σ26_148 := by rw [hσ26_148]; exact kt_trans kσ22_139 (kt_lbx f_i)
        exact kp_some kσ26_148

set_option maxRecDepth 100000 in
theorem kt_X11_cut {N : Nat} {K len : Nat → Nat} {a1 : Int32} {σ : SG} {ρ : RG} (hL : Lay N K len ρ) : kp (F_X11_cut N K len a1 σ ρ) (fun q => KT σ q.2) := by
  unfold F_X11_cut
  refine kp_bx (fun o1_18 => ?_)
  refine kp_oc ?_ (fun c2_19 => ?_)
  · exact kp_some (kt_refl _)
  · refine kp_gd (fun g_20 => ?_)
    refine kp_if ?_ ?_
    · exact kp_some (kt_refl _)
    · refine kp_bn2 (kt_X3_tryCut hL (by decide) g_20) (fun r4_21 σ4_22 hr4_21 => ?_)
      have kσ4_22 : KT σ σ4_22 := kt_trans (kt_refl _) hr4_21
      refine kp_if ?_ ?_
      · exact kp_some kσ4_22
      · refine kp_nm (fun x6_149 _ => ?_)
        refine kp_nm (fun σ7_150 hσ7_150 => ?_)
        have kσ7_150 : KT σ σ7_150 := by rw [hσ7_150]; exact kt_trans kσ4_22 (kt_ck hL g_20)
        exact kp_some kσ7_150

set_option maxRecDepth 100000 in
theorem kt_X11_right {N : Nat} {K len : Nat → Nat} {σ : SG} {ρ : RG} (hL : Lay N K len ρ) : kp (F_X11_right σ ρ) (fun q => KT σ q.2) := by
  unfold F_X11_right
  refine kp_bx (fun r1_151 => ?_)
  refine kp_if ?_ ?_
  · refine kp_bn2 (kt_X3_straighten hL (by decide)) (fun r3_152 σ3_153 hr3_152 => ?_)
    have kσ3_153 : KT σ σ3_153 := kt_trans (kt_refl _) hr3_152
    exact kp_some kσ3_153
  · exact kp_some (kt_refl _)

set_option maxRecDepth 100000 in
theorem kt_X11_turn {N : Nat} {K len : Nat → Nat} {a1 : Int32} {σ : SG} {ρ : RG} (hL : Lay N K len ρ) : kp (F_X11_turn a1 σ ρ) (fun q => KT σ q.2) := by
  unfold F_X11_turn
  refine kp_if ?_ ?_
  · refine kp_nm (fun x2_154 _ => ?_)
    refine kp_nm (fun σ4_155 hσ4_155 => ?_)
    have kσ4_155 : KT σ σ4_155 := by rw [hσ4_155]; exact kt_trans (kt_refl _) (kt_lit (by decide))
    exact kp_some kσ4_155
  · refine kp_nm (fun x5_156 _ => ?_)
    refine kp_nm (fun σ7_157 hσ7_157 => ?_)
    have kσ7_157 : KT σ σ7_157 := by rw [hσ7_157]; exact kt_trans (kt_refl _) (kt_lit (by decide))
    exact kp_some kσ7_157

set_option maxRecDepth 100000 in
theorem kt_X11_see {N : Nat} {K len : Nat → Nat} {a1 : Int32} {a2 : Int32} {σ : SG} {ρ : RG} (hL : Lay N K len ρ) : kp (F_X11_see a1 a2 σ ρ) (fun q => KT σ q.2) := by
  unfold F_X11_see
  refine kp_bx (fun r1_158 => ?_)
  refine kp_if ?_ ?_
  · exact kp_some (kt_refl _)
  · refine kp_bx (fun r3_159 => ?_)
    refine kp_if ?_ ?_
    · exact kp_some (kt_refl _)
    · refine kp_nm (fun σ6_160 hσ6_160 => ?_)
      have kσ6_160 : KT σ σ6_160 := by rw [hσ6_160]; exact kt_trans (kt_refl _) (kt_lit (by decide))
      refine kp_nm (fun σ8_161 hσ8_161 => ?_)
      have kσ8_161 : KT σ σ8_161 := by rw [hσ8_161]; exact kt_trans kσ6_160 (kt_lit (by decide))
      exact kp_some kσ8_161

set_option maxRecDepth 100000 in
theorem kt_X3_startsAnew {N : Nat} {K len : Nat → Nat} {i : Nat} {a1 : Int32} {σ : SG} {ρ : RG} (hL : Lay N K len ρ) (f_i : isLb i = true) : kp (F_X3_startsAnew i a1 σ ρ) (fun q => KT σ q) := by
  unfold F_X3_startsAnew
  refine kp_nm (fun σ2_164 hσ2_164 => ?_)
  have kσ2_164 : KT σ σ2_164 := by rw [hσ2_164]; exact kt_trans (kt_refl _) (kt_lbx f_i)
  refine kp_nm (fun σ4_165 hσ4_165 => ?_)
  have kσ4_165 : KT σ σ4_165 := by rw [hσ4_165]; exact kt_trans kσ2_164 (kt_lbx f_i)
  refine kp_nm (fun σ6_166 hσ6_166 => ?_)
  have kσ6_166 : KT σ σ6_166 := by rw [hσ6_166]; exact kt_trans kσ4_165 (kt_lbx f_i)
  refine kp_nm (fun σ8_167 hσ8_167 => ?_)
  have kσ8_167 : KT σ σ8_167 := by rw [hσ8_167]; exact kt_trans kσ6_166 (kt_lbx f_i)
  refine kp_nm (fun σ10_168 hσ10_168 => ?_)
  have kσ10_168 : KT σ σ10_168 := by rw [hσ10_168]; exact kt_trans kσ8_167 (kt_lbx f_i)
  refine kp_nm (fun σ12_169 hσ12_169 => ?_)
  have kσ12_169 : KT σ σ12_169 := by rw [hσ12_169]; exact kt_trans kσ10_168 (kt_lbx f_i)
  exact kp_some kσ12_169

set_option maxRecDepth 100000 in
theorem kt_X11_loaf {N : Nat} {K len : Nat → Nat} {a1 : Int32} {σ : SG} {ρ : RG} (hL : Lay N K len ρ) : kp (F_X11_loaf a1 σ ρ) (fun q => KT σ q.2) := by
  unfold F_X11_loaf
  refine kp_bx (fun r1_162 => ?_)
  refine kp_if ?_ ?_
  · exact kp_some (kt_refl _)
  · refine kp_bn (kt_X3_startsAnew hL (by decide)) (fun σ3_163 hσ3_163 => ?_)
    have kσ3_163 : KT σ σ3_163 := kt_trans (kt_refl _) hσ3_163
    exact kp_some kσ3_163

set_option maxRecDepth 100000 in
theorem kt_X11_thick {N : Nat} {K len : Nat → Nat} {a1 : Int32} {a2 : Int32} {σ : SG} {ρ : RG} (hL : Lay N K len ρ) : kp (F_X11_thick N K len a1 a2 σ ρ) (fun q => KT σ q.2) := by
  unfold F_X11_thick
  refine kp_bx (fun o1_170 => ?_)
  refine kp_oc ?_ (fun c2_171 => ?_)
  · exact kp_some (kt_refl _)
  · refine kp_gd (fun g_172 => ?_)
    refine kp_bx (fun r3_173 => ?_)
    refine kp_if ?_ ?_
    · exact kp_some (kt_refl _)
    · refine kp_nm (fun σ5_174 hσ5_174 => ?_)
      have kσ5_174 : KT σ σ5_174 := by rw [hσ5_174]; exact kt_trans (kt_refl _) (kt_ck hL g_172)
      exact kp_some kσ5_174

set_option maxRecDepth 100000 in
theorem kt_X11_row {N : Nat} {K len : Nat → Nat} {a1 : Int32} {a2 : Int32} {a3 : Int32} {σ : SG} {ρ : RG} (hL : Lay N K len ρ) : kp (F_X11_row N K len a1 a2 a3 σ ρ) (fun q => KT σ q.2) := by
  unfold F_X11_row
  refine kp_bx (fun o1_175 => ?_)
  refine kp_oc ?_ (fun c2_176 => ?_)
  · exact kp_some (kt_refl _)
  · refine kp_gd (fun g_177 => ?_)
    refine kp_bx (fun r3_178 => ?_)
    refine kp_if ?_ ?_
    · exact kp_some (kt_refl _)
    · refine kp_bx (fun r5_179 => ?_)
      refine kp_if ?_ ?_
      · exact kp_some (kt_refl _)
      · refine kp_if ?_ ?_
        · exact kp_some (kt_refl _)
        · refine kp_gd (fun _ => ?_)
          refine kp_gd (fun _ => ?_)
          refine kp_oc ?_ (fun c10_180 => ?_)
          · exact kp_none
          · refine kp_gd (fun g_181 => ?_)
            refine kp_gd (fun _ => ?_)
            refine kp_gd (fun _ => ?_)
            refine kp_oc ?_ (fun c13_182 => ?_)
            · exact kp_none
            · refine kp_gd (fun g_183 => ?_)
              refine kp_gd (fun _ => ?_)
              refine kp_nm (fun σ16_184 hσ16_184 => ?_)
              have kσ16_184 : KT σ σ16_184 := by rw [hσ16_184]; exact kt_trans (kt_refl _) (kt_dg hL g_183)
              exact kp_some kσ16_184

set_option maxRecDepth 100000 in
theorem kt_X11_week {N : Nat} {K len : Nat → Nat} {a1 : Int32} {σ : SG} {ρ : RG} (hL : Lay N K len ρ) : kp (F_X11_week a1 σ ρ) (fun q => KT σ q.2) := by
  unfold F_X11_week
  refine kp_bx (fun r1_185 => ?_)
  refine kp_if ?_ ?_
  · exact kp_some (kt_refl _)
  · refine kp_if ?_ ?_
    · refine kp_gd (fun _ => ?_)
      refine kp_nm (fun σ6_186 hσ6_186 => ?_)
      have kσ6_186 : KT σ σ6_186 := by rw [hσ6_186]; exact kt_trans (kt_refl _) (kt_row (by decide))
      refine kp_nm (fun x7_187 _ => ?_)
      refine kp_nm (fun σ9_188 hσ9_188 => ?_)
      have kσ9_188 : KT σ σ9_188 := by rw [hσ9_188]; exact kt_trans kσ6_186 (kt_lit (by decide))
      exact kp_some kσ9_188
    · exact kp_some (kt_refl _)

set_option maxRecDepth 100000 in
theorem kt_X11_clear {N : Nat} {K len : Nat → Nat} {σ : SG} {ρ : RG} (hL : Lay N K len ρ) : kp (F_X11_clear σ ρ) (fun q => KT σ q.2) := by
  unfold F_X11_clear
  refine kp_nm (fun σ2_189 hσ2_189 => ?_)
  have kσ2_189 : KT σ σ2_189 := by rw [hσ2_189]; exact kt_trans (kt_refl _) (kt_lit (by decide))
  exact kp_some kσ2_189

set_option maxRecDepth 100000 in
theorem kt_X11_book {N : Nat} {K len : Nat → Nat} {a1 : Int32} {a2 : Int32} {σ : SG} {ρ : RG} (hL : Lay N K len ρ) : kp (F_X11_book N K len a1 a2 σ ρ) (fun q => KT σ q.2) := by
  unfold F_X11_book
  refine kp_if ?_ ?_
  · refine kp_nm (fun σ18_190 hσ18_190 => ?_)
    have kσ18_190 : KT σ σ18_190 := by rw [hσ18_190]; exact kt_trans (kt_refl _) (kt_lit (by decide))
    exact kp_some kσ18_190
  · refine kp_bx (fun o2_191 => ?_)
    refine kp_oc ?_ (fun c3_192 => ?_)
    · exact kp_some (kt_refl _)
    · refine kp_gd (fun g_193 => ?_)
      refine kp_bx (fun r4_194 => ?_)
      refine kp_if ?_ ?_
      · exact kp_some (kt_refl _)
      · refine kp_if ?_ ?_
        · exact kp_some (kt_refl _)
        · refine kp_if ?_ ?_
          · refine kp_gd (fun _ => ?_)
            refine kp_nm (fun σ10_195 hσ10_195 => ?_)
            have kσ10_195 : KT σ σ10_195 := by rw [hσ10_195]; exact kt_trans (kt_refl _) (kt_row (by decide))
            refine kp_gd (fun _ => ?_)
            refine kp_nm (fun σ13_196 hσ13_196 => ?_)
            have kσ13_196 : KT σ σ13_196 := by rw [hσ13_196]; exact kt_trans kσ10_195 (kt_row (by decide))
            refine kp_nm (fun x14_197 _ => ?_)
            refine kp_nm (fun σ16_198 hσ16_198 => ?_)
            have kσ16_198 : KT σ σ16_198 := by rw [hσ16_198]; exact kt_trans kσ13_196 (kt_lit (by decide))
            exact kp_some kσ16_198
          · exact kp_some (kt_refl _)

set_option maxRecDepth 100000 in
theorem kt_X3_takes {N : Nat} {K len : Nat → Nat} {i : Nat} {j : Nat} {σ : SG} {ρ : RG} (hL : Lay N K len ρ) (f_i : isLb i = true) : kp (F_X3_takes i j σ ρ) (fun q => KT σ q) := by
  unfold F_X3_takes
  refine kp_nm (fun σ2_205 hσ2_205 => ?_)
  have kσ2_205 : KT σ σ2_205 := by rw [hσ2_205]; exact kt_trans (kt_refl _) (kt_lbx f_i)
  refine kp_nm (fun σ4_206 hσ4_206 => ?_)
  have kσ4_206 : KT σ σ4_206 := by rw [hσ4_206]; exact kt_trans kσ2_205 (kt_lbx f_i)
  refine kp_nm (fun σ6_207 hσ6_207 => ?_)
  have kσ6_207 : KT σ σ6_207 := by rw [hσ6_207]; exact kt_trans kσ4_206 (kt_lbx f_i)
  refine kp_nm (fun σ8_208 hσ8_208 => ?_)
  have kσ8_208 : KT σ σ8_208 := by rw [hσ8_208]; exact kt_trans kσ6_207 (kt_lbx f_i)
  refine kp_nm (fun σ10_209 hσ10_209 => ?_)
  have kσ10_209 : KT σ σ10_209 := by rw [hσ10_209]; exact kt_trans kσ8_208 (kt_lbx f_i)
  refine kp_nm (fun σ12_210 hσ12_210 => ?_)
  have kσ12_210 : KT σ σ12_210 := by rw [hσ12_210]; exact kt_trans kσ10_209 (kt_lbx f_i)
  refine kp_nm (fun σ14_211 hσ14_211 => ?_)
  have kσ14_211 : KT σ σ14_211 := by rw [hσ14_211]; exact kt_trans kσ12_210 (kt_lbx f_i)
  refine kp_nm (fun σ16_212 hσ16_212 => ?_)
  have kσ16_212 : KT σ σ16_212 := by rw [hσ16_212]; exact kt_trans kσ14_211 (kt_lbx f_i)
  refine kp_nm (fun σ18_213 hσ18_213 => ?_)
  have kσ18_213 : KT σ σ18_213 := by rw [hσ18_213]; exact kt_trans kσ16_212 (kt_lbx f_i)
  exact kp_some kσ18_213

set_option maxRecDepth 100000 in
theorem kt_X11_startSteps {N : Nat} {K len : Nat → Nat} {σ : SG} {ρ : RG} (hL : Lay N K len ρ) : kp (F_X11_startSteps σ ρ) (fun q => KT σ q) := by
  unfold F_X11_startSteps
  refine kp_bn (kt_X3_takes hL (by decide)) (fun σ1_204 hσ1_204 => ?_)
  have kσ1_204 : KT σ σ1_204 := kt_trans (kt_refl _) hσ1_204
  refine kp_nm (fun σ3_214 hσ3_214 => ?_)
  have kσ3_214 : KT σ σ3_214 := by rw [hσ3_214]; exact kt_trans kσ1_204 (kt_lit (by decide))
  refine kp_nm (fun σ5_215 hσ5_215 => ?_)
  have kσ5_215 : KT σ σ5_215 := by rw [hσ5_215]; exact kt_trans kσ3_214 (kt_lit (by decide))
  refine kp_nm (fun σ7_216 hσ7_216 => ?_)
  have kσ7_216 : KT σ σ7_216 := by rw [hσ7_216]; exact kt_trans kσ5_215 (kt_lit (by decide))
  exact kp_some kσ7_216

set_option maxRecDepth 100000 in
theorem kt_X11_tryStep {N : Nat} {K len : Nat → Nat} {a1 : Int32} {z : Nat} {a3 : Int32} {σ : SG} {ρ : RG} (hL : Lay N K len ρ) (f_z : isC N K z = true) : kp (F_X11_tryStep N K len a1 z a3 σ ρ) (fun q => KT σ q.2) := by
  unfold F_X11_tryStep
  refine kp_if ?_ ?_
  · exact kp_some (kt_refl _)
  · refine kp_nm (fun x2_224 _ => ?_)
    refine kp_if ?_ ?_
    · refine kp_nm (fun x4_225 _ => ?_)
      refine kp_gd (fun g_226 => ?_)
      refine kp_oce ?_ (fun c6_227 o_228 => ?_)
      · exact kp_none
      · refine kp_gd (fun g_229 => ?_)
        refine kp_gd (fun g_230 => ?_)
        refine kp_oce ?_ (fun c8_231 o_232 => ?_)
        · exact kp_none
        · refine kp_gd (fun g_233 => ?_)
          refine kp_bn (kt_X3_takes hL g_229) (fun σ9_234 hσ9_234 => ?_)
          have kσ9_234 : KT σ σ9_234 := kt_trans (kt_refl _) hσ9_234
          refine kp_nm (fun x10_235 _ => ?_)
          refine kp_gd (fun g_236 => ?_)
          refine kp_oce ?_ (fun c12_237 o_238 => ?_)
          · exact kp_none
          · refine kp_gd (fun g_239 => ?_)
            refine kp_if ?_ ?_
            · unfold F_X11_tryStep_59
              refine kp_gd (fun g_240 => ?_)
              refine kp_gd (fun g_241 => ?_)
              refine kp_bn2 (kt_X3_tryCut hL g_240 g_241) (fun r14_242 σ14_243 hr14_242 => ?_)
              have kσ14_243 : KT σ σ14_243 := kt_trans kσ9_234 hr14_242
              refine kp_gd (fun _ => ?_)
              exact kp_some kσ14_243
            · unfold F_X11_tryStep_59
              refine kp_gd (fun g_244 => ?_)
              refine kp_gd (fun g_245 => ?_)
              refine kp_bn2 (kt_X3_tryCut hL g_244 g_245) (fun r14_246 σ14_247 hr14_246 => ?_)
              have kσ14_247 : KT σ σ14_247 := kt_trans kσ9_234 hr14_246
              refine kp_gd (fun _ => ?_)
              exact kp_some kσ14_247
    · exact kp_some (kt_refl _)

set_option maxRecDepth 100000 in
theorem kt_X11_would {N : Nat} {K len : Nat → Nat} {a1 : Int32} {a2 : Int32} {σ : SG} {ρ : RG} (hL : Lay N K len ρ) : kp (F_X11_would N K len a1 a2 σ ρ) (fun q => KT σ q.2) := by
  unfold F_X11_would
  refine kp_bx (fun o1_199 => ?_)
  refine kp_oc ?_ (fun c2_200 => ?_)
  · exact kp_some (kt_refl _)
  · refine kp_gd (fun g_201 => ?_)
    refine kp_bx (fun r3_202 => ?_)
    refine kp_if ?_ ?_
    · exact kp_some (kt_refl _)
    · refine kp_bn (kt_X11_startSteps hL) (fun σ5_203 hσ5_203 => ?_)
      have kσ5_203 : KT σ σ5_203 := kt_trans (kt_refl _) hσ5_203
      refine kp_bx (fun o6_217 => ?_)
      refine kp_oc ?_ (fun c7_218 => ?_)
      · refine kp_bx (fun r8_219 => ?_)
        refine kp_if ?_ ?_
        · exact kp_some kσ5_203
        · refine kp_if ?_ ?_
          · exact kp_some kσ5_203
          · refine kp_if ?_ ?_
            · exact kp_some kσ5_203
            · refine kp_if ?_ ?_
              · exact kp_some kσ5_203
              · refine kp_if ?_ ?_
                · exact kp_some kσ5_203
                · refine kp_if ?_ ?_
                  · exact kp_some kσ5_203
                  · refine kp_if ?_ ?_
                    · exact kp_some kσ5_203
                    · refine kp_nm (fun x11_220 _ => ?_)
                      exact kp_some kσ5_203
      · refine kp_gd (fun g_221 => ?_)
        refine kp_bn2 (kt_X11_tryStep hL g_221) (fun r12_222 σ12_223 hr12_222 => ?_)
        have kσ12_223 : KT σ σ12_223 := kt_trans kσ5_203 hr12_222
        refine kp_if ?_ ?_
        · exact kp_some kσ12_223
        · refine kp_if ?_ ?_
          · exact kp_some kσ12_223
          · refine kp_if ?_ ?_
            · exact kp_some kσ12_223
            · refine kp_if ?_ ?_
              · exact kp_some kσ12_223
              · refine kp_if ?_ ?_
                · exact kp_some kσ12_223
                · refine kp_if ?_ ?_
                  · exact kp_some kσ12_223
                  · refine kp_if ?_ ?_
                    · exact kp_some kσ12_223
                    · refine kp_nm (fun x15_248 _ => ?_)
                      exact kp_some kσ12_223

set_option maxRecDepth 100000 in
theorem kt_X11_goOn_54 {N : Nat} {K len : Nat → Nat} {a1 : Int32} {a2 : Int32} {a3 : Int32} {a4 : Int32} {ρ : RG} (hL : Lay N K len ρ) : ∀ (n : Nat) (σ : SG) (v1 : Int32) (v2 : Int32) (v3 : Int32) (v4 : Int32) (v5 : Int32), kp (F_X11_goOn_54 N K len a1 a2 a3 a4 n σ ρ v1 v2 v3 v4 v5) (fun q => KT σ q) := by
  intro n
  induction n with
  | zero => intro σ v1 v2 v3 v4 v5; exact kp_none
  | succ n ih =>
    intro σ v1 v2 v3 v4 v5
    unfold F_X11_goOn_54
    refine kp_if ?_ ?_
    · exact kp_some (kt_refl _)
    · refine kp_if ?_ ?_
      · exact kp_some (kt_refl _)
      · refine kp_if ?_ ?_
        · refine kp_bx (fun r31_258 => ?_)
          refine kp_if ?_ ?_
          · unfold F_X11_goOn_104
            refine kp_gd (fun _ => ?_)
            refine kp_nm (fun x11_259 _ => ?_)
            refine kp_bx (fun o12_260 => ?_)
            refine kp_oc ?_ (fun c13_261 => ?_)
            · exact kp_some (kt_refl _)
            · refine kp_gd (fun g_262 => ?_)
              refine kp_bn2 (kt_X3_tryCut hL (by decide) g_262) (fun r14_263 σ14_264 hr14_263 => ?_)
              have kσ14_264 : KT σ σ14_264 := kt_trans (kt_refl _) hr14_263
              refine kp_if ?_ ?_
              · exact kp_some kσ14_264
              · refine kp_if ?_ ?_
                · unfold F_X11_goOn_186
                  refine kp_if ?_ ?_
                  · unfold F_X11_goOn_216
                    refine kp_nm (fun x18_265 _ => ?_)
                    refine kp_nm (fun σ20_266 hσ20_266 => ?_)
                    have kσ20_266 : KT σ σ20_266 := by rw [hσ20_266]; exact kt_trans kσ14_264 (kt_lit (by decide))
                    refine kp_if ?_ ?_
                    · unfold F_X11_goOn_242
                      refine kp_nm (fun x22_267 _ => ?_)
                      refine kp_nm (fun σ24_268 hσ24_268 => ?_)
                      have kσ24_268 : KT σ σ24_268 := by rw [hσ24_268]; exact kt_trans kσ20_266 (kt_lit (by decide))
                      refine kp_nm (fun x25_269 _ => ?_)
                      exact kp_tr_kt (ih _ _ _ _ _ _) kσ24_268
                    · unfold F_X11_goOn_242
                      refine kp_nm (fun x22_270 _ => ?_)
                      refine kp_nm (fun σ24_271 hσ24_271 => ?_)
                      have kσ24_271 : KT σ σ24_271 := by rw [hσ24_271]; exact kt_trans kσ20_266 (kt_lit (by decide))
                      refine kp_nm (fun x25_272 _ => ?_)
                      exact kp_tr_kt (ih _ _ _ _ _ _) kσ24_271
                  · unfold F_X11_goOn_216
                    refine kp_nm (fun x18_273 _ => ?_)
                    refine kp_nm (fun σ20_274 hσ20_274 => ?_)
                    have kσ20_274 : KT σ σ20_274 := by rw [hσ20_274]; exact kt_trans kσ14_264 (kt_lit (by decide))
                    refine kp_if ?_ ?_
                    · unfold F_X11_goOn_242
                      refine kp_nm (fun x22_275 _ => ?_)
                      refine kp_nm (fun σ24_276 hσ24_276 => ?_)
                      have kσ24_276 : KT σ σ24_276 := by rw [hσ24_276]; exact kt_trans kσ20_274 (kt_lit (by decide))
                      refine kp_nm (fun x25_277 _ => ?_)
                      exact kp_tr_kt (ih _ _ _ _ _ _) kσ24_276
                    · unfold F_X11_goOn_242
                      refine kp_nm (fun x22_278 _ => ?_)
                      refine kp_nm (fun σ24_279 hσ24_279 => ?_)
                      have kσ24_279 : KT σ σ24_279 := by rw [hσ24_279]; exact kt_trans kσ20_274 (kt_lit (by decide))
                      refine kp_nm (fun x25_280 _ => ?_)
                      exact kp_tr_kt (ih _ _ _ _ _ _) kσ24_279
                · refine kp_gd (fun _ => ?_)
                  refine kp_nm (fun x27_281 _ => ?_)
                  refine kp_gd (fun _ => ?_)
                  refine kp_nm (fun σ30_282 hσ30_282 => ?_)
                  have kσ30_282 : KT σ σ30_282 := by rw [hσ30_282]; exact kt_trans kσ14_264 (kt_row (by decide))
                  unfold F_X11_goOn_186
                  refine kp_if ?_ ?_
                  · unfold F_X11_goOn_216
                    refine kp_nm (fun x18_283 _ => ?_)
                    refine kp_nm (fun σ20_284 hσ20_284 => ?_)
                    have kσ20_284 : KT σ σ20_284 := by rw [hσ20_284]; exact kt_trans kσ30_282 (kt_lit (by decide))
                    refine kp_if ?_ ?_
                    · unfold F_X11_goOn_242
                      refine kp_nm (fun x22_285 _ => ?_)
                      refine kp_nm (fun σ24_286 hσ24_286 => ?_)
                      have kσ24_286 : KT σ σ24_286 := by rw [hσ24_286]; exact kt_trans kσ20_284 (kt_lit (by decide))
                      refine kp_nm (fun x25_287 _ => ?_)
                      exact kp_tr_kt (ih _ _ _ _ _ _) kσ24_286
                    · unfold F_X11_goOn_242
                      refine kp_nm (fun x22_288 _ => ?_)
                      refine kp_nm (fun σ24_289 hσ24_289 => ?_)
                      have kσ24_289 : KT σ σ24_289 := by rw [hσ24_289]; exact kt_trans kσ20_284 (kt_lit (by decide))
                      refine kp_nm (fun x25_290 _ => ?_)
                      exact kp_tr_kt (ih _ _ _ _ _ _) kσ24_289
                  · unfold F_X11_goOn_216
                    refine kp_nm (fun x18_291 _ => ?_)
                    refine kp_nm (fun σ20_292 hσ20_292 => ?_)
                    have kσ20_292 : KT σ σ20_292 := by rw [hσ20_292]; exact kt_trans kσ30_282 (kt_lit (by decide))
                    refine kp_if ?_ ?_
                    · unfold F_X11_goOn_242
                      refine kp_nm (fun x22_293 _ => ?_)
                      refine kp_nm (fun σ24_294 hσ24_294 => ?_)
                      have kσ24_294 : KT σ σ24_294 := by rw [hσ24_294]; exact kt_trans kσ20_292 (kt_lit (by decide))
                      refine kp_nm (fun x25_295 _ => ?_)
                      exact kp_tr_kt (ih _ _ _ _ _ _) kσ24_294
                    · unfold F_X11_goOn_242
                      refine kp_nm (fun x22_296 _ => ?_)
                      refine kp_nm (fun σ24_297 hσ24_297 => ?_)
                      have kσ24_297 : KT σ σ24_297 := by rw [hσ24_297]; exact kt_trans kσ20_292 (kt_lit (by decide))
                      refine kp_nm (fun x25_298 _ => ?_)
                      exact kp_tr_kt (ih _ _ _ _ _ _) kσ24_297
          · refine kp_bn2 (kt_X3_straighten hL (by decide)) (fun r33_299 σ33_300 hr33_299 => ?_)
            have kσ33_300 : KT σ σ33_300 := kt_trans (kt_refl _) hr33_299
            unfold F_X11_goOn_104
            refine kp_gd (fun _ => ?_)
            refine kp_nm (fun x11_301 _ => ?_)
            refine kp_bx (fun o12_302 => ?_)
            refine kp_oc ?_ (fun c13_303 => ?_)
            · exact kp_some kσ33_300
            · refine kp_gd (fun g_304 => ?_)
              refine kp_bn2 (kt_X3_tryCut hL (by decide) g_304) (fun r14_305 σ14_306 hr14_305 => ?_)
              have kσ14_306 : KT σ σ14_306 := kt_trans kσ33_300 hr14_305
              refine kp_if ?_ ?_
              · exact kp_some kσ14_306
              · refine kp_if ?_ ?_
                · unfold F_X11_goOn_186
                  refine kp_if ?_ ?_
                  · unfold F_X11_goOn_216
                    refine kp_nm (fun x18_307 _ => ?_)
                    refine kp_nm (fun σ20_308 hσ20_308 => ?_)
                    have kσ20_308 : KT σ σ20_308 := by rw [hσ20_308]; exact kt_trans kσ14_306 (kt_lit (by decide))
                    refine kp_if ?_ ?_
                    · unfold F_X11_goOn_242
                      refine kp_nm (fun x22_309 _ => ?_)
                      refine kp_nm (fun σ24_310 hσ24_310 => ?_)
                      have kσ24_310 : KT σ σ24_310 := by rw [hσ24_310]; exact kt_trans kσ20_308 (kt_lit (by decide))
                      refine kp_nm (fun x25_311 _ => ?_)
                      exact kp_tr_kt (ih _ _ _ _ _ _) kσ24_310
                    · unfold F_X11_goOn_242
                      refine kp_nm (fun x22_312 _ => ?_)
                      refine kp_nm (fun σ24_313 hσ24_313 => ?_)
                      have kσ24_313 : KT σ σ24_313 := by rw [hσ24_313]; exact kt_trans kσ20_308 (kt_lit (by decide))
                      refine kp_nm (fun x25_314 _ => ?_)
                      exact kp_tr_kt (ih _ _ _ _ _ _) kσ24_313
                  · unfold F_X11_goOn_216
                    refine kp_nm (fun x18_315 _ => ?_)
                    refine kp_nm (fun σ20_316 hσ20_316 => ?_)
                    have kσ20_316 : KT σ σ20_316 := by rw [hσ20_316]; exact kt_trans kσ14_306 (kt_lit (by decide))
                    refine kp_if ?_ ?_
                    · unfold F_X11_goOn_242
                      refine kp_nm (fun x22_317 _ => ?_)
                      refine kp_nm (fun σ24_318 hσ24_318 => ?_)
                      have kσ24_318 : KT σ σ24_318 := by rw [hσ24_318]; exact kt_trans kσ20_316 (kt_lit (by decide))
                      refine kp_nm (fun x25_319 _ => ?_)
                      exact kp_tr_kt (ih _ _ _ _ _ _) kσ24_318
                    · unfold F_X11_goOn_242
                      refine kp_nm (fun x22_320 _ => ?_)
                      refine kp_nm (fun σ24_321 hσ24_321 => ?_)
                      have kσ24_321 : KT σ σ24_321 := by rw [hσ24_321]; exact kt_trans kσ20_316 (kt_lit (by decide))
                      refine kp_nm (fun x25_322 _ => ?_)
                      exact kp_tr_kt (ih _ _ _ _ _ _) kσ24_321
                · refine kp_gd (fun _ => ?_)
                  refine kp_nm (fun x27_323 _ => ?_)
                  refine kp_gd (fun _ => ?_)
                  refine kp_nm (fun σ30_324 hσ30_324 => ?_)
                  have kσ30_324 : KT σ σ30_324 := by rw [hσ30_324]; exact kt_trans kσ14_306 (kt_row (by decide))
                  unfold F_X11_goOn_186
                  refine kp_if ?_ ?_
                  · unfold F_X11_goOn_216
                    refine kp_nm (fun x18_325 _ => ?_)
                    refine kp_nm (fun σ20_326 hσ20_326 => ?_)
                    have kσ20_326 : KT σ σ20_326 := by rw [hσ20_326]; exact kt_trans kσ30_324 (kt_lit (by decide))
                    refine kp_if ?_ ?_
                    · unfold F_X11_goOn_242
                      refine kp_nm (fun x22_327 _ => ?_)
                      refine kp_nm (fun σ24_328 hσ24_328 => ?_)
                      have kσ24_328 : KT σ σ24_328 := by rw [hσ24_328]; exact kt_trans kσ20_326 (kt_lit (by decide))
                      refine kp_nm (fun x25_329 _ => ?_)
                      exact kp_tr_kt (ih _ _ _ _ _ _) kσ24_328
                    · unfold F_X11_goOn_242
                      refine kp_nm (fun x22_330 _ => ?_)
                      refine kp_nm (fun σ24_331 hσ24_331 => ?_)
                      have kσ24_331 : KT σ σ24_331 := by rw [hσ24_331]; exact kt_trans kσ20_326 (kt_lit (by decide))
                      refine kp_nm (fun x25_332 _ => ?_)
                      exact kp_tr_kt (ih _ _ _ _ _ _) kσ24_331
                  · unfold F_X11_goOn_216
                    refine kp_nm (fun x18_333 _ => ?_)
                    refine kp_nm (fun σ20_334 hσ20_334 => ?_)
                    have kσ20_334 : KT σ σ20_334 := by rw [hσ20_334]; exact kt_trans kσ30_324 (kt_lit (by decide))
                    refine kp_if ?_ ?_
                    · unfold F_X11_goOn_242
                      refine kp_nm (fun x22_335 _ => ?_)
                      refine kp_nm (fun σ24_336 hσ24_336 => ?_)
                      have kσ24_336 : KT σ σ24_336 := by rw [hσ24_336]; exact kt_trans kσ20_334 (kt_lit (by decide))
                      refine kp_nm (fun x25_337 _ => ?_)
                      exact kp_tr_kt (ih _ _ _ _ _ _) kσ24_336
                    · unfold F_X11_goOn_242
                      refine kp_nm (fun x22_338 _ => ?_)
                      refine kp_nm (fun σ24_339 hσ24_339 => ?_)
                      have kσ24_339 : KT σ σ24_339 := by rw [hσ24_339]; exact kt_trans kσ20_334 (kt_lit (by decide))
                      refine kp_nm (fun x25_340 _ => ?_)
                      exact kp_tr_kt (ih _ _ _ _ _ _) kσ24_339
        · unfold F_X11_goOn_104
          refine kp_gd (fun _ => ?_)
          refine kp_nm (fun x11_341 _ => ?_)
          refine kp_bx (fun o12_342 => ?_)
          refine kp_oc ?_ (fun c13_343 => ?_)
          · exact kp_some (kt_refl _)
          · refine kp_gd (fun g_344 => ?_)
            refine kp_bn2 (kt_X3_tryCut hL (by decide) g_344) (fun r14_345 σ14_346 hr14_345 => ?_)
            have kσ14_346 : KT σ σ14_346 := kt_trans (kt_refl _) hr14_345
            refine kp_if ?_ ?_
            · exact kp_some kσ14_346
            · refine kp_if ?_ ?_
              · unfold F_X11_goOn_186
                refine kp_if ?_ ?_
                · unfold F_X11_goOn_216
                  refine kp_nm (fun x18_347 _ => ?_)
                  refine kp_nm (fun σ20_348 hσ20_348 => ?_)
                  have kσ20_348 : KT σ σ20_348 := by rw [hσ20_348]; exact kt_trans kσ14_346 (kt_lit (by decide))
                  refine kp_if ?_ ?_
                  · unfold F_X11_goOn_242
                    refine kp_nm (fun x22_349 _ => ?_)
                    refine kp_nm (fun σ24_350 hσ24_350 => ?_)
                    have kσ24_350 : KT σ σ24_350 := by rw [hσ24_350]; exact kt_trans kσ20_348 (kt_lit (by decide))
                    refine kp_nm (fun x25_351 _ => ?_)
                    exact kp_tr_kt (ih _ _ _ _ _ _) kσ24_350
                  · unfold F_X11_goOn_242
                    refine kp_nm (fun x22_352 _ => ?_)
                    refine kp_nm (fun σ24_353 hσ24_353 => ?_)
                    have kσ24_353 : KT σ σ24_353 := by rw [hσ24_353]; exact kt_trans kσ20_348 (kt_lit (by decide))
                    refine kp_nm (fun x25_354 _ => ?_)
                    exact kp_tr_kt (ih _ _ _ _ _ _) kσ24_353
                · unfold F_X11_goOn_216
                  refine kp_nm (fun x18_355 _ => ?_)
                  refine kp_nm (fun σ20_356 hσ20_356 => ?_)
                  have kσ20_356 : KT σ σ20_356 := by rw [hσ20_356]; exact kt_trans kσ14_346 (kt_lit (by decide))
                  refine kp_if ?_ ?_
                  · unfold F_X11_goOn_242
                    refine kp_nm (fun x22_357 _ => ?_)
                    refine kp_nm (fun σ24_358 hσ24_358 => ?_)
                    have kσ24_358 : KT σ σ24_358 := by rw [hσ24_358]; exact kt_trans kσ20_356 (kt_lit (by decide))
                    refine kp_nm (fun x25_359 _ => ?_)
                    exact kp_tr_kt (ih _ _ _ _ _ _) kσ24_358
                  · unfold F_X11_goOn_242
                    refine kp_nm (fun x22_360 _ => ?_)
                    refine kp_nm (fun σ24_361 hσ24_361 => ?_)
                    have kσ24_361 : KT σ σ24_361 := by rw [hσ24_361]; exact kt_trans kσ20_356 (kt_lit (by decide))
                    refine kp_nm (fun x25_362 _ => ?_)
                    exact kp_tr_kt (ih _ _ _ _ _ _) kσ24_361
              · refine kp_gd (fun _ => ?_)
                refine kp_nm (fun x27_363 _ => ?_)
                refine kp_gd (fun _ => ?_)
                refine kp_nm (fun σ30_364 hσ30_364 => ?_)
                have kσ30_364 : KT σ σ30_364 := by rw [hσ30_364]; exact kt_trans kσ14_346 (kt_row (by decide))
                unfold F_X11_goOn_186
                refine kp_if ?_ ?_
                · unfold F_X11_goOn_216
                  refine kp_nm (fun x18_365 _ => ?_)
                  refine kp_nm (fun σ20_366 hσ20_366 => ?_)
                  have kσ20_366 : KT σ σ20_366 := by rw [hσ20_366]; exact kt_trans kσ30_364 (kt_lit (by decide))
                  refine kp_if ?_ ?_
                  · unfold F_X11_goOn_242
                    refine kp_nm (fun x22_367 _ => ?_)
                    refine kp_nm (fun σ24_368 hσ24_368 => ?_)
                    have kσ24_368 : KT σ σ24_368 := by rw [hσ24_368]; exact kt_trans kσ20_366 (kt_lit (by decide))
                    refine kp_nm (fun x25_369 _ => ?_)
                    exact kp_tr_kt (ih _ _ _ _ _ _) kσ24_368
                  · unfold F_X11_goOn_242
                    refine kp_nm (fun x22_370 _ => ?_)
                    refine kp_nm (fun σ24_371 hσ24_371 => ?_)
                    have kσ24_371 : KT σ σ24_371 := by rw [hσ24_371]; exact kt_trans kσ20_366 (kt_lit (by decide))
                    refine kp_nm (fun x25_372 _ => ?_)
                    exact kp_tr_kt (ih _ _ _ _ _ _) kσ24_371
                · unfold F_X11_goOn_216
                  refine kp_nm (fun x18_373 _ => ?_)
                  refine kp_nm (fun σ20_374 hσ20_374 => ?_)
                  have kσ20_374 : KT σ σ20_374 := by rw [hσ20_374]; exact kt_trans kσ30_364 (kt_lit (by decide))
                  refine kp_if ?_ ?_
                  · unfold F_X11_goOn_242
                    refine kp_nm (fun x22_375 _ => ?_)
                    refine kp_nm (fun σ24_376 hσ24_376 => ?_)
                    have kσ24_376 : KT σ σ24_376 := by rw [hσ24_376]; exact kt_trans kσ20_374 (kt_lit (by decide))
                    refine kp_nm (fun x25_377 _ => ?_)
                    exact kp_tr_kt (ih _ _ _ _ _ _) kσ24_376
                  · unfold F_X11_goOn_242
                    refine kp_nm (fun x22_378 _ => ?_)
                    refine kp_nm (fun σ24_379 hσ24_379 => ?_)
                    have kσ24_379 : KT σ σ24_379 := by rw [hσ24_379]; exact kt_trans kσ20_374 (kt_lit (by decide))
                    refine kp_nm (fun x25_380 _ => ?_)
                    exact kp_tr_kt (ih _ _ _ _ _ _) kσ24_379

set_option maxRecDepth 100000 in
theorem kt_X11_goOn_27 {N : Nat} {K len : Nat → Nat} {a1 : Int32} {a2 : Int32} {a3 : Int32} {a4 : Int32} {ρ : RG} (hL : Lay N K len ρ) : ∀ (n : Nat) (σ : SG) (v1 : Int32) (v2 : Int32) (v3 : Int32) (v4 : Int32) (v5 : Int32), kp (F_X11_goOn_27 N K len a1 a2 a3 a4 n σ ρ v1 v2 v3 v4 v5) (fun q => KT σ q) := by
  intro n
  induction n with
  | zero => intro σ v1 v2 v3 v4 v5; exact kp_none
  | succ n ih =>
    intro σ v1 v2 v3 v4 v5
    unfold F_X11_goOn_27
    refine kp_if ?_ ?_
    · exact kp_tr_kt (kt_X11_goOn_54 hL 1024 _ _ _ _ _ _) (kt_refl _)
    · refine kp_gd (fun _ => ?_)
      refine kp_nm (fun σ36_381 hσ36_381 => ?_)
      have kσ36_381 : KT σ σ36_381 := by rw [hσ36_381]; exact kt_trans (kt_refl _) (kt_row (by decide))
      refine kp_nm (fun x37_382 _ => ?_)
      exact kp_tr_kt (ih _ _ _ _ _ _) kσ36_381

set_option maxRecDepth 100000 in
theorem kt_X11_goOn {N : Nat} {K len : Nat → Nat} {a1 : Int32} {a2 : Int32} {a3 : Int32} {a4 : Int32} {σ : SG} {ρ : RG} (hL : Lay N K len ρ) : kp (F_X11_goOn N K len a1 a2 a3 a4 σ ρ) (fun q => KT σ q) := by
  unfold F_X11_goOn
  refine kp_bn (kt_X3_takes hL (by decide)) (fun σ1_255 hσ1_255 => ?_)
  have kσ1_255 : KT σ σ1_255 := kt_trans (kt_refl _) hσ1_255
  refine kp_nm (fun σ3_256 hσ3_256 => ?_)
  have kσ3_256 : KT σ σ3_256 := by rw [hσ3_256]; exact kt_trans kσ1_255 (kt_lit (by decide))
  refine kp_nm (fun σ5_257 hσ5_257 => ?_)
  have kσ5_257 : KT σ σ5_257 := by rw [hσ5_257]; exact kt_trans kσ3_256 (kt_lit (by decide))
  exact kp_tr_kt (kt_X11_goOn_27 hL 1024 _ _ _ _ _ _) kσ5_257

set_option maxRecDepth 100000 in
theorem kt_X11_on {N : Nat} {K len : Nat → Nat} {a1 : Int32} {a2 : Int32} {σ : SG} {ρ : RG} (hL : Lay N K len ρ) : kp (F_X11_on N K len a1 a2 σ ρ) (fun q => KT σ q.2) := by
  unfold F_X11_on
  refine kp_nm (fun x1_249 _ => ?_)
  refine kp_bx (fun o2_250 => ?_)
  refine kp_oc ?_ (fun c3_251 => ?_)
  · unfold F_X11_on_19
    refine kp_bx (fun r4_252 => ?_)
    refine kp_if ?_ ?_
    · refine kp_if ?_ ?_
      · exact kp_some (kt_refl _)
      · unfold F_X11_on_37
        refine kp_bx (fun r6_253 => ?_)
        refine kp_if ?_ ?_
        · exact kp_some (kt_refl _)
        · refine kp_bn (kt_X11_goOn hL) (fun σ8_254 hσ8_254 => ?_)
          have kσ8_254 : KT σ σ8_254 := kt_trans (kt_refl _) hσ8_254
          refine kp_if ?_ ?_
          · exact kp_some kσ8_254
          · refine kp_if ?_ ?_
            · exact kp_some kσ8_254
            · refine kp_if ?_ ?_
              · exact kp_some kσ8_254
              · refine kp_if ?_ ?_
                · refine kp_nm (fun x10_383 _ => ?_)
                  exact kp_some kσ8_254
                · refine kp_if ?_ ?_
                  · refine kp_nm (fun x11_384 _ => ?_)
                    exact kp_some kσ8_254
                  · refine kp_if ?_ ?_
                    · exact kp_some kσ8_254
                    · refine kp_nm (fun x12_385 _ => ?_)
                      refine kp_bx (fun r13_386 => ?_)
                      exact kp_some kσ8_254
    · unfold F_X11_on_37
      refine kp_bx (fun r6_387 => ?_)
      refine kp_if ?_ ?_
      · exact kp_some (kt_refl _)
      · refine kp_bn (kt_X11_goOn hL) (fun σ8_388 hσ8_388 => ?_)
        have kσ8_388 : KT σ σ8_388 := kt_trans (kt_refl _) hσ8_388
        refine kp_if ?_ ?_
        · exact kp_some kσ8_388
        · refine kp_if ?_ ?_
          · exact kp_some kσ8_388
          · refine kp_if ?_ ?_
            · exact kp_some kσ8_388
            · refine kp_if ?_ ?_
              · refine kp_nm (fun x10_389 _ => ?_)
                exact kp_some kσ8_388
              · refine kp_if ?_ ?_
                · refine kp_nm (fun x11_390 _ => ?_)
                  exact kp_some kσ8_388
                · refine kp_if ?_ ?_
                  · exact kp_some kσ8_388
                  · refine kp_nm (fun x12_391 _ => ?_)
                    refine kp_bx (fun r13_392 => ?_)
                    exact kp_some kσ8_388
  · refine kp_gd (fun g_393 => ?_)
    unfold F_X11_on_19
    refine kp_bx (fun r4_394 => ?_)
    refine kp_if ?_ ?_
    · refine kp_if ?_ ?_
      · exact kp_some (kt_refl _)
      · unfold F_X11_on_37
        refine kp_bx (fun r6_395 => ?_)
        refine kp_if ?_ ?_
        · exact kp_some (kt_refl _)
        · refine kp_bn (kt_X11_goOn hL) (fun σ8_396 hσ8_396 => ?_)
          have kσ8_396 : KT σ σ8_396 := kt_trans (kt_refl _) hσ8_396
          refine kp_if ?_ ?_
          · exact kp_some kσ8_396
          · refine kp_if ?_ ?_
            · exact kp_some kσ8_396
            · refine kp_if ?_ ?_
              · exact kp_some kσ8_396
              · refine kp_if ?_ ?_
                · refine kp_nm (fun x10_397 _ => ?_)
                  exact kp_some kσ8_396
                · refine kp_if ?_ ?_
                  · refine kp_nm (fun x11_398 _ => ?_)
                    exact kp_some kσ8_396
                  · refine kp_if ?_ ?_
                    · exact kp_some kσ8_396
                    · refine kp_nm (fun x12_399 _ => ?_)
                      refine kp_bx (fun r13_400 => ?_)
                      exact kp_some kσ8_396
    · unfold F_X11_on_37
      refine kp_bx (fun r6_401 => ?_)
      refine kp_if ?_ ?_
      · exact kp_some (kt_refl _)
      · refine kp_bn (kt_X11_goOn hL) (fun σ8_402 hσ8_402 => ?_)
        have kσ8_402 : KT σ σ8_402 := kt_trans (kt_refl _) hσ8_402
        refine kp_if ?_ ?_
        · exact kp_some kσ8_402
        · refine kp_if ?_ ?_
          · exact kp_some kσ8_402
          · refine kp_if ?_ ?_
            · exact kp_some kσ8_402
            · refine kp_if ?_ ?_
              · refine kp_nm (fun x10_403 _ => ?_)
                exact kp_some kσ8_402
              · refine kp_if ?_ ?_
                · refine kp_nm (fun x11_404 _ => ?_)
                  exact kp_some kσ8_402
                · refine kp_if ?_ ?_
                  · exact kp_some kσ8_402
                  · refine kp_nm (fun x12_405 _ => ?_)
                    refine kp_bx (fun r13_406 => ?_)
                    exact kp_some kσ8_402

set_option maxRecDepth 100000 in
theorem kt_X11_toasted {N : Nat} {K len : Nat → Nat} {a1 : Int32} {a2 : Int32} {σ : SG} {ρ : RG} (hL : Lay N K len ρ) : kp (F_X11_toasted N K len a1 a2 σ ρ) (fun q => KT σ q.2) := by
  unfold F_X11_toasted
  refine kp_bx (fun r1_407 => ?_)
  refine kp_if ?_ ?_
  · exact kp_some (kt_refl _)
  · refine kp_bx (fun r3_408 => ?_)
    refine kp_if ?_ ?_
    · exact kp_some (kt_refl _)
    · refine kp_bn (kt_X11_goOn hL) (fun σ5_409 hσ5_409 => ?_)
      have kσ5_409 : KT σ σ5_409 := kt_trans (kt_refl _) hσ5_409
      exact kp_some kσ5_409

set_option maxRecDepth 100000 in
theorem kt_X11_lasts {N : Nat} {K len : Nat → Nat} {σ : SG} {ρ : RG} (hL : Lay N K len ρ) : kp (F_X11_lasts N K len σ ρ) (fun q => KT σ q.2) := by
  unfold F_X11_lasts
  refine kp_bn (kt_X11_goOn hL) (fun σ1_410 hσ1_410 => ?_)
  have kσ1_410 : KT σ σ1_410 := kt_trans (kt_refl _) hσ1_410
  refine kp_nm (fun x2_411 _ => ?_)
  exact kp_some kσ1_410

set_option maxRecDepth 100000 in
theorem kt_X11_tryOrders_B_40 {N : Nat} {K len : Nat → Nat} {R : Int32 → Int32 → Int32 → SG → RG → Option (SG)} {a1 : Int32} {a2 : Int32} {a3 : Int32} {ρ : RG} (hL : Lay N K len ρ) (hR : ∀ (y0 : Int32) (y1 : Int32) (y2 : Int32) (σ : SG), kp (R y0 y1 y2 σ ρ) (fun q => KT σ q)) : ∀ (n : Nat) (σ : SG) (v1 : Int32) (v2 : Int32) (v3 : Int32) (v4 : Int32), kp (F_X11_tryOrders_B_40 N K len R a1 a2 a3 n σ ρ v1 v2 v3 v4) (fun q => KT σ q) := by
  intro n
  induction n with
  | zero => intro σ v1 v2 v3 v4; exact kp_none
  | succ n ih =>
    intro σ v1 v2 v3 v4
    unfold F_X11_tryOrders_B_40
    refine kp_if ?_ ?_
    · exact kp_some (kt_refl _)
    · refine kp_if ?_ ?_
      · exact kp_some (kt_refl _)
      · refine kp_nm (fun x4_415 _ => ?_)
        refine kp_nm (fun x5_416 _ => ?_)
        refine kp_if ?_ ?_
        · refine kp_bx (fun o8_417 => ?_)
          refine kp_oc ?_ (fun c9_418 => ?_)
          · refine kp_bx (fun r10_419 => ?_)
            refine kp_if ?_ ?_
            · unfold F_X11_tryOrders_B_132
              refine kp_nm (fun x7_420 _ => ?_)
              exact kp_tr_kt (ih _ _ _ _ _) (kt_refl _)
            · refine kp_gd (fun _ => ?_)
              refine kp_nm (fun σ14_421 hσ14_421 => ?_)
              have kσ14_421 : KT σ σ14_421 := by rw [hσ14_421]; exact kt_trans (kt_refl _) (kt_row (by decide))
              refine kp_nm (fun x15_422 _ => ?_)
              refine kp_gd (fun g_423 => ?_)
              refine kp_oce ?_ (fun c17_424 o_425 => ?_)
              · exact kp_none
              · refine kp_gd (fun g_426 => ?_)
                refine kp_nm (fun x18_427 _ => ?_)
                refine kp_nm (fun x19_428 _ => ?_)
                refine kp_nm (fun x20_429 _ => ?_)
                refine kp_nm (fun x21_430 _ => ?_)
                refine kp_nm (fun x22_431 _ => ?_)
                refine kp_bn (hR _ _ _ _) (fun σ23_432 hσ23_432 => ?_)
                have kσ23_432 : KT σ σ23_432 := kt_trans kσ14_421 hσ23_432
                unfold F_X11_tryOrders_B_132
                refine kp_nm (fun x7_433 _ => ?_)
                exact kp_tr_kt (ih _ _ _ _ _) kσ23_432
          · refine kp_gd (fun g_434 => ?_)
            refine kp_bn2 (kt_X11_tryStep hL g_434) (fun r24_435 σ24_436 hr24_435 => ?_)
            have kσ24_436 : KT σ σ24_436 := kt_trans (kt_refl _) hr24_435
            refine kp_if ?_ ?_
            · unfold F_X11_tryOrders_B_132
              refine kp_nm (fun x7_437 _ => ?_)
              exact kp_tr_kt (ih _ _ _ _ _) kσ24_436
            · refine kp_gd (fun _ => ?_)
              refine kp_nm (fun σ28_438 hσ28_438 => ?_)
              have kσ28_438 : KT σ σ28_438 := by rw [hσ28_438]; exact kt_trans kσ24_436 (kt_row (by decide))
              refine kp_nm (fun x29_439 _ => ?_)
              refine kp_gd (fun g_440 => ?_)
              refine kp_oce ?_ (fun c31_441 o_442 => ?_)
              · exact kp_none
              · refine kp_gd (fun g_443 => ?_)
                refine kp_nm (fun x32_444 _ => ?_)
                refine kp_nm (fun x33_445 _ => ?_)
                refine kp_nm (fun x34_446 _ => ?_)
                refine kp_nm (fun x35_447 _ => ?_)
                refine kp_nm (fun x36_448 _ => ?_)
                refine kp_bn (hR _ _ _ _) (fun σ37_449 hσ37_449 => ?_)
                have kσ37_449 : KT σ σ37_449 := kt_trans kσ28_438 hσ37_449
                unfold F_X11_tryOrders_B_132
                refine kp_nm (fun x7_450 _ => ?_)
                exact kp_tr_kt (ih _ _ _ _ _) kσ37_449
        · unfold F_X11_tryOrders_B_132
          refine kp_nm (fun x7_451 _ => ?_)
          exact kp_tr_kt (ih _ _ _ _ _) (kt_refl _)

set_option maxRecDepth 100000 in
theorem kt_X11_keepPath_7 {N : Nat} {K len : Nat → Nat} {a1 : Int32} {ρ : RG} (hL : Lay N K len ρ) : ∀ (n : Nat) (σ : SG) (v1 : Int32) (v2 : Int32), kp (F_X11_keepPath_7 a1 n σ ρ v1 v2) (fun q => KT σ q) := by
  intro n
  induction n with
  | zero => intro σ v1 v2; exact kp_none
  | succ n ih =>
    intro σ v1 v2
    unfold F_X11_keepPath_7
    refine kp_if ?_ ?_
    · exact kp_some (kt_refl _)
    · refine kp_if ?_ ?_
      · exact kp_some (kt_refl _)
      · refine kp_if ?_ ?_
        · exact kp_some (kt_refl _)
        · refine kp_gd (fun _ => ?_)
          refine kp_gd (fun _ => ?_)
          refine kp_nm (fun σ9_455 hσ9_455 => ?_)
          have kσ9_455 : KT σ σ9_455 := by rw [hσ9_455]; exact kt_trans (kt_refl _) (kt_row (by decide))
          refine kp_nm (fun x10_456 _ => ?_)
          exact kp_tr_kt (ih _ _ _) kσ9_455

set_option maxRecDepth 100000 in
theorem kt_X11_keepPath {N : Nat} {K len : Nat → Nat} {a1 : Int32} {σ : SG} {ρ : RG} (hL : Lay N K len ρ) : kp (F_X11_keepPath a1 σ ρ) (fun q => KT σ q) := by
  unfold F_X11_keepPath
  refine kp_nm (fun σ2_454 hσ2_454 => ?_)
  have kσ2_454 : KT σ σ2_454 := by rw [hσ2_454]; exact kt_trans (kt_refl _) (kt_lit (by decide))
  exact kp_tr_kt (kt_X11_keepPath_7 hL 1024 _ _ _) kσ2_454

set_option maxRecDepth 100000 in
theorem kt_X11_tryOrders_B {N : Nat} {K len : Nat → Nat} {R : Int32 → Int32 → Int32 → SG → RG → Option (SG)} {a1 : Int32} {a2 : Int32} {a3 : Int32} {σ : SG} {ρ : RG} (hL : Lay N K len ρ) (hR : ∀ (y0 : Int32) (y1 : Int32) (y2 : Int32) (σ : SG), kp (R y0 y1 y2 σ ρ) (fun q => KT σ q)) : kp (F_X11_tryOrders_B N K len R a1 a2 a3 σ ρ) (fun q => KT σ q) := by
  unfold F_X11_tryOrders_B
  refine kp_if ?_ ?_
  · exact kp_tr_kt (kt_X11_tryOrders_B_40 hL hR 1024 _ _ _ _ _) (kt_refl _)
  · refine kp_if ?_ ?_
    · unfold F_X11_tryOrders_B_26
      refine kp_nm (fun σ40_452 hσ40_452 => ?_)
      have kσ40_452 : KT σ σ40_452 := by rw [hσ40_452]; exact kt_trans (kt_refl _) (kt_lit (by decide))
      refine kp_bn (kt_X11_keepPath hL) (fun σ41_453 hσ41_453 => ?_)
      have kσ41_453 : KT σ σ41_453 := kt_trans kσ40_452 hσ41_453
      exact kp_some kσ41_453
    · refine kp_if ?_ ?_
      · exact kp_some (kt_refl _)
      · unfold F_X11_tryOrders_B_26
        refine kp_nm (fun σ40_457 hσ40_457 => ?_)
        have kσ40_457 : KT σ σ40_457 := by rw [hσ40_457]; exact kt_trans (kt_refl _) (kt_lit (by decide))
        refine kp_bn (kt_X11_keepPath hL) (fun σ41_458 hσ41_458 => ?_)
        have kσ41_458 : KT σ σ41_458 := kt_trans kσ40_457 hσ41_458
        exact kp_some kσ41_458

theorem kt_X11_tryOrders_R {N : Nat} {K len : Nat → Nat} {ρ : RG} (hL : Lay N K len ρ) : ∀ (d : Nat) (a1 : Int32) (a2 : Int32) (a3 : Int32) (σ : SG), kp (F_X11_tryOrders_R N K len d a1 a2 a3 σ ρ) (fun q => KT σ q) := by
  intro d
  induction d with
  | zero => intro a1 a2 a3 σ; exact kp_none
  | succ d ih =>
    intro a1 a2 a3 σ
    exact kt_X11_tryOrders_B hL ih

theorem kt_X11_tryOrders {N : Nat} {K len : Nat → Nat} {a1 : Int32} {a2 : Int32} {a3 : Int32} {σ : SG} {ρ : RG} (hL : Lay N K len ρ) : kp (F_X11_tryOrders N K len a1 a2 a3 σ ρ) (fun q => KT σ q) := kt_X11_tryOrders_R hL _ _ _ _ _

set_option maxRecDepth 100000 in
theorem kt_X11_order {N : Nat} {K len : Nat → Nat} {a1 : Int32} {σ : SG} {ρ : RG} (hL : Lay N K len ρ) : kp (F_X11_order N K len a1 σ ρ) (fun q => KT σ q.2) := by
  unfold F_X11_order
  refine kp_bx (fun r1_412 => ?_)
  refine kp_if ?_ ?_
  · exact kp_some (kt_refl _)
  · refine kp_if ?_ ?_
    · refine kp_bn (kt_X11_startSteps hL) (fun σ4_413 hσ4_413 => ?_)
      have kσ4_413 : KT σ σ4_413 := kt_trans (kt_refl _) hσ4_413
      refine kp_bn (kt_X11_tryOrders hL) (fun σ5_414 hσ5_414 => ?_)
      have kσ5_414 : KT σ σ5_414 := kt_trans kσ4_413 hσ5_414
      refine kp_if ?_ ?_
      · exact kp_some kσ5_414
      · refine kp_if ?_ ?_
        · refine kp_if ?_ ?_
          · refine kp_bx (fun r9_459 => ?_)
            exact kp_some kσ5_414
          · exact kp_some kσ5_414
        · exact kp_some kσ5_414
    · exact kp_some (kt_refl _)

set_option maxRecDepth 100000 in
theorem kt_X11_cancel_45 {N : Nat} {K len : Nat → Nat} {rec_11 : SG → RG → Int32 → Int32 → Int32 → Option (Int32 × SG)} {ρ : RG} (hL : Lay N K len ρ) (hrec_11 : ∀ (σ : SG) (y2 : Int32) (y3 : Int32) (y4 : Int32), kp (rec_11 σ ρ y2 y3 y4) (fun q => KT σ q.2)) : ∀ (n : Nat) (σ : SG) (v1 : Int32) (v2 : Int32) (v3 : Int32) (v4 : Int32), kp (F_X11_cancel_45 N K len rec_11 n σ ρ v1 v2 v3 v4) (fun q => KT σ q.2) := by
  intro n
  induction n with
  | zero => intro σ v1 v2 v3 v4; exact kp_none
  | succ n ih =>
    intro σ v1 v2 v3 v4
    unfold F_X11_cancel_45
    refine kp_if ?_ ?_
    · unfold F_X11_cancel_118
      refine kp_nm (fun x8_465 _ => ?_)
      exact kp_tr2_kt (hrec_11 _ _ _ _) (kt_refl _)
    · refine kp_bx (fun o9_466 => ?_)
      refine kp_oc ?_ (fun c10_467 => ?_)
      · refine kp_bx (fun r11_468 => ?_)
        refine kp_if ?_ ?_
        · unfold F_X11_cancel_112
          refine kp_nm (fun x13_469 _ => ?_)
          exact kp_tr2_kt (ih _ _ _ _ _) (kt_refl _)
        · refine kp_if ?_ ?_
          · unfold F_X11_cancel_94
            refine kp_bx (fun r15_470 => ?_)
            refine kp_nm (fun x16_471 _ => ?_)
            refine kp_nm (fun x17_472 _ => ?_)
            unfold F_X11_cancel_112
            refine kp_nm (fun x13_473 _ => ?_)
            exact kp_tr2_kt (ih _ _ _ _ _) (kt_refl _)
          · refine kp_bx (fun r18_474 => ?_)
            refine kp_if ?_ ?_
            · unfold F_X11_cancel_112
              refine kp_nm (fun x13_475 _ => ?_)
              exact kp_tr2_kt (ih _ _ _ _ _) (kt_refl _)
            · unfold F_X11_cancel_94
              refine kp_bx (fun r15_476 => ?_)
              refine kp_nm (fun x16_477 _ => ?_)
              refine kp_nm (fun x17_478 _ => ?_)
              unfold F_X11_cancel_112
              refine kp_nm (fun x13_479 _ => ?_)
              exact kp_tr2_kt (ih _ _ _ _ _) (kt_refl _)
      · refine kp_gd (fun g_480 => ?_)
        refine kp_bn2 (kt_X11_tryStep hL g_480) (fun r20_481 σ20_482 hr20_481 => ?_)
        have kσ20_482 : KT σ σ20_482 := kt_trans (kt_refl _) hr20_481
        refine kp_if ?_ ?_
        · unfold F_X11_cancel_112
          refine kp_nm (fun x13_483 _ => ?_)
          exact kp_tr2_kt (ih _ _ _ _ _) kσ20_482
        · refine kp_if ?_ ?_
          · unfold F_X11_cancel_94
            refine kp_bx (fun r15_484 => ?_)
            refine kp_nm (fun x16_485 _ => ?_)
            refine kp_nm (fun x17_486 _ => ?_)
            unfold F_X11_cancel_112
            refine kp_nm (fun x13_487 _ => ?_)
            exact kp_tr2_kt (ih _ _ _ _ _) kσ20_482
          · refine kp_bx (fun r23_488 => ?_)
            refine kp_if ?_ ?_
            · unfold F_X11_cancel_112
              refine kp_nm (fun x13_489 _ => ?_)
              exact kp_tr2_kt (ih _ _ _ _ _) kσ20_482
            · unfold F_X11_cancel_94
              refine kp_bx (fun r15_490 => ?_)
              refine kp_nm (fun x16_491 _ => ?_)
              refine kp_nm (fun x17_492 _ => ?_)
              unfold F_X11_cancel_112
              refine kp_nm (fun x13_493 _ => ?_)
              exact kp_tr2_kt (ih _ _ _ _ _) kσ20_482

set_option maxRecDepth 100000 in
theorem kt_X11_cancel_11 {N : Nat} {K len : Nat → Nat} {ρ : RG} (hL : Lay N K len ρ) : ∀ (n : Nat) (σ : SG) (v1 : Int32) (v2 : Int32) (v3 : Int32), kp (F_X11_cancel_11 N K len n σ ρ v1 v2 v3) (fun q => KT σ q.2) := by
  intro n
  induction n with
  | zero => intro σ v1 v2 v3; exact kp_none
  | succ n ih =>
    intro σ v1 v2 v3
    unfold F_X11_cancel_11
    refine kp_if ?_ ?_
    · exact kp_some (kt_refl _)
    · refine kp_bx (fun o3_461 => ?_)
      refine kp_oc ?_ (fun c4_462 => ?_)
      · refine kp_bx (fun r5_463 => ?_)
        refine kp_if ?_ ?_
        · unfold F_X11_cancel_118
          refine kp_nm (fun x8_464 _ => ?_)
          exact kp_tr2_kt (ih _ _ _ _) (kt_refl _)
        · exact kp_tr2_kt (kt_X11_cancel_45 hL (fun x0 x1 x2 x3 => ih x0 x1 x2 x3) 1024 _ _ _ _ _) (kt_refl _)
      · refine kp_gd (fun g_494 => ?_)
        refine kp_bn2 (kt_X11_tryStep hL g_494) (fun r25_495 σ25_496 hr25_495 => ?_)
        have kσ25_496 : KT σ σ25_496 := kt_trans (kt_refl _) hr25_495
        refine kp_if ?_ ?_
        · unfold F_X11_cancel_118
          refine kp_nm (fun x8_497 _ => ?_)
          exact kp_tr2_kt (ih _ _ _ _) kσ25_496
        · exact kp_tr2_kt (kt_X11_cancel_45 hL (fun x0 x1 x2 x3 => ih x0 x1 x2 x3) 1024 _ _ _ _ _) kσ25_496

set_option maxRecDepth 100000 in
theorem kt_X11_cancel {N : Nat} {K len : Nat → Nat} {σ : SG} {ρ : RG} (hL : Lay N K len ρ) : kp (F_X11_cancel N K len σ ρ) (fun q => KT σ q.2) := by
  unfold F_X11_cancel
  refine kp_bn (kt_X11_startSteps hL) (fun σ1_460 hσ1_460 => ?_)
  have kσ1_460 : KT σ σ1_460 := kt_trans (kt_refl _) hσ1_460
  exact kp_tr2_kt (kt_X11_cancel_11 hL 1024 _ _ _ _) kσ1_460

set_option maxRecDepth 100000 in
theorem kt_X11_enough_21 {N : Nat} {K len : Nat → Nat} {a1 : Int32} {ρ : RG} (hL : Lay N K len ρ) : ∀ (n : Nat) (σ : SG) (r2 : Nat) (v3 : Int32), isC N K r2 = true → kp (F_X11_enough_21 N K len a1 n σ ρ r2 v3) (fun q => KT σ q.2) := by
  intro n
  induction n with
  | zero => intro σ r2 v3 f_r2; exact kp_none
  | succ n ih =>
    intro σ r2 v3 f_r2
    unfold F_X11_enough_21
    refine kp_gd (fun g_502 => ?_)
    refine kp_if ?_ ?_
    · exact kp_some (kt_refl _)
    · refine kp_bn2 (kt_X11_tryStep hL g_502) (fun r5_503 σ5_504 hr5_503 => ?_)
      have kσ5_504 : KT σ σ5_504 := kt_trans (kt_refl _) hr5_503
      refine kp_if ?_ ?_
      · unfold F_X11_enough_61
        refine kp_gd (fun g_505 => ?_)
        refine kp_nm (fun x7_506 _ => ?_)
        exact kp_tr2_kt (ih _ _ _ g_505) kσ5_504
      · refine kp_if ?_ ?_
        · unfold F_X11_enough_61
          refine kp_gd (fun g_507 => ?_)
          refine kp_nm (fun x7_508 _ => ?_)
          exact kp_tr2_kt (ih _ _ _ g_507) kσ5_504
        · exact kp_some kσ5_504

set_option maxRecDepth 100000 in
theorem kt_X11_enough {N : Nat} {K len : Nat → Nat} {a1 : Int32} {σ : SG} {ρ : RG} (hL : Lay N K len ρ) : kp (F_X11_enough N K len a1 σ ρ) (fun q => KT σ q.2) := by
  unfold F_X11_enough
  refine kp_bx (fun o1_498 => ?_)
  refine kp_oc ?_ (fun c2_499 => ?_)
  · exact kp_some (kt_refl _)
  · refine kp_gd (fun g_500 => ?_)
    refine kp_bn (kt_X11_startSteps hL) (fun σ3_501 hσ3_501 => ?_)
    have kσ3_501 : KT σ σ3_501 := kt_trans (kt_refl _) hσ3_501
    exact kp_tr2_kt (kt_X11_enough_21 hL 1024 _ _ _ g_500) kσ3_501

set_option maxRecDepth 100000 in
theorem kt_X11_when_44 {N : Nat} {K len : Nat → Nat} {a1 : Int32} {a2 : Int32} {ρ : RG} (hL : Lay N K len ρ) : ∀ (n : Nat) (σ : SG) (v1 : Int32) (v2 : Int32) (v3 : Int32) (v4 : Int32) (v5 : Int32), kp (F_X11_when_44 N K len a1 a2 n σ ρ v1 v2 v3 v4 v5) (fun q => KT σ q.2) := by
  intro n
  induction n with
  | zero => intro σ v1 v2 v3 v4 v5; exact kp_none
  | succ n ih =>
    intro σ v1 v2 v3 v4 v5
    unfold F_X11_when_44
    refine kp_if ?_ ?_
    · refine kp_if ?_ ?_
      · exact kp_some (kt_refl _)
      · refine kp_if ?_ ?_
        · exact kp_some (kt_refl _)
        · exact kp_some (kt_refl _)
    · refine kp_bn (kt_X11_goOn hL) (fun σ9_512 hσ9_512 => ?_)
      have kσ9_512 : KT σ σ9_512 := kt_trans (kt_refl _) hσ9_512
      refine kp_if ?_ ?_
      · unfold F_X11_when_76
        refine kp_nm (fun x11_513 _ => ?_)
        exact kp_tr2_kt (ih _ _ _ _ _ _) kσ9_512
      · unfold F_X11_when_76
        refine kp_nm (fun x11_514 _ => ?_)
        exact kp_tr2_kt (ih _ _ _ _ _ _) kσ9_512

set_option maxRecDepth 100000 in
theorem kt_X11_when {N : Nat} {K len : Nat → Nat} {a1 : Int32} {a2 : Int32} {σ : SG} {ρ : RG} (hL : Lay N K len ρ) : kp (F_X11_when N K len a1 a2 σ ρ) (fun q => KT σ q.2) := by
  unfold F_X11_when
  refine kp_bx (fun r1_509 => ?_)
  refine kp_if ?_ ?_
  · exact kp_some (kt_refl _)
  · refine kp_bx (fun r3_510 => ?_)
    refine kp_if ?_ ?_
    · exact kp_some (kt_refl _)
    · refine kp_bn (kt_X11_goOn hL) (fun σ5_511 hσ5_511 => ?_)
      have kσ5_511 : KT σ σ5_511 := kt_trans (kt_refl _) hσ5_511
      exact kp_tr2_kt (kt_X11_when_44 hL 1024 _ _ _ _ _ _) kσ5_511

set_option maxRecDepth 100000 in
theorem kt_X11_guide {N : Nat} {K len : Nat → Nat} {a1 : Int32} {σ : SG} {ρ : RG} (hL : Lay N K len ρ) : kp (F_X11_guide N K len a1 σ ρ) (fun q => KT σ q.2) := by
  unfold F_X11_guide
  refine kp_bx (fun r1_515 => ?_)
  refine kp_if ?_ ?_
  · exact kp_some (kt_refl _)
  · refine kp_bn (kt_X11_goOn hL) (fun σ3_516 hσ3_516 => ?_)
    have kσ3_516 : KT σ σ3_516 := kt_trans (kt_refl _) hσ3_516
    refine kp_bn (kt_X11_goOn hL) (fun σ4_517 hσ4_517 => ?_)
    have kσ4_517 : KT σ σ4_517 := kt_trans kσ3_516 hσ4_517
    refine kp_nm (fun x5_518 _ => ?_)
    exact kp_some kσ4_517

set_option maxRecDepth 100000 in
theorem kt_X11_again_31 {N : Nat} {K len : Nat → Nat} {a1 : Int32} {ρ : RG} (hL : Lay N K len ρ) : ∀ (n : Nat) (σ : SG) (r2 : Nat) (v3 : Int32), isC N K r2 = true → kp (F_X11_again_31 N K len a1 n σ ρ r2 v3) (fun q => KT σ q.2) := by
  intro n
  induction n with
  | zero => intro σ r2 v3 f_r2; exact kp_none
  | succ n ih =>
    intro σ r2 v3 f_r2
    unfold F_X11_again_31
    refine kp_gd (fun g_523 => ?_)
    refine kp_if ?_ ?_
    · exact kp_some (kt_refl _)
    · refine kp_bn2 (kt_X3_tryCut hL (by decide) g_523) (fun r5_524 σ5_525 hr5_524 => ?_)
      have kσ5_525 : KT σ σ5_525 := kt_trans (kt_refl _) hr5_524
      refine kp_nm (fun σ7_526 hσ7_526 => ?_)
      have kσ7_526 : KT σ σ7_526 := by rw [hσ7_526]; exact kt_trans kσ5_525 (kt_lit (by decide))
      refine kp_if ?_ ?_
      · refine kp_if ?_ ?_
        · exact kp_some kσ7_526
        · unfold F_X11_again_118
          refine kp_gd (fun g_527 => ?_)
          refine kp_nm (fun x9_528 _ => ?_)
          exact kp_tr2_kt (ih _ _ _ g_527) kσ7_526
      · unfold F_X11_again_118
        refine kp_gd (fun g_529 => ?_)
        refine kp_nm (fun x9_530 _ => ?_)
        exact kp_tr2_kt (ih _ _ _ g_529) kσ7_526

set_option maxRecDepth 100000 in
theorem kt_X11_again {N : Nat} {K len : Nat → Nat} {a1 : Int32} {σ : SG} {ρ : RG} (hL : Lay N K len ρ) : kp (F_X11_again N K len a1 σ ρ) (fun q => KT σ q.2) := by
  unfold F_X11_again
  refine kp_bx (fun o1_519 => ?_)
  refine kp_oc ?_ (fun c2_520 => ?_)
  · exact kp_some (kt_refl _)
  · refine kp_gd (fun g_521 => ?_)
    refine kp_bn (kt_X3_takes hL (by decide)) (fun σ3_522 hσ3_522 => ?_)
    have kσ3_522 : KT σ σ3_522 := kt_trans (kt_refl _) hσ3_522
    exact kp_tr2_kt (kt_X11_again_31 hL 1024 _ _ _ g_521) kσ3_522

set_option maxRecDepth 100000 in
theorem kt_X11_evener_44 {N : Nat} {K len : Nat → Nat} {a1 : Int32} {a2 : Int32} {ρ : RG} (hL : Lay N K len ρ) : ∀ (n : Nat) (σ : SG) (v2 : Int32) (v3 : Int32) (v4 : Int32) (v5 : Int32) (v6 : Int32), kp (F_X11_evener_44 N K len a1 a2 n σ ρ v2 v3 v4 v5 v6) (fun q => KT σ q.2) := by
  intro n
  induction n with
  | zero => intro σ v2 v3 v4 v5 v6; exact kp_none
  | succ n ih =>
    intro σ v2 v3 v4 v5 v6
    unfold F_X11_evener_44
    refine kp_if ?_ ?_
    · refine kp_if ?_ ?_
      · exact kp_some (kt_refl _)
      · refine kp_if ?_ ?_
        · exact kp_some (kt_refl _)
        · refine kp_nm (fun x9_534 _ => ?_)
          exact kp_some (kt_refl _)
    · refine kp_bx (fun o10_535 => ?_)
      refine kp_oc ?_ (fun c11_536 => ?_)
      · unfold F_X11_evener_91
        refine kp_if ?_ ?_
        · unfold F_X11_evener_110
          refine kp_if ?_ ?_
          · unfold F_X11_evener_125
            unfold F_X11_evener_132
            refine kp_nm (fun x15_537 _ => ?_)
            exact kp_tr2_kt (ih _ _ _ _ _ _) (kt_refl _)
          · refine kp_if ?_ ?_
            · unfold F_X11_evener_132
              refine kp_nm (fun x15_538 _ => ?_)
              exact kp_tr2_kt (ih _ _ _ _ _ _) (kt_refl _)
            · unfold F_X11_evener_125
              unfold F_X11_evener_132
              refine kp_nm (fun x15_539 _ => ?_)
              exact kp_tr2_kt (ih _ _ _ _ _ _) (kt_refl _)
        · refine kp_nm (fun x13_540 _ => ?_)
          unfold F_X11_evener_110
          refine kp_if ?_ ?_
          · unfold F_X11_evener_125
            unfold F_X11_evener_132
            refine kp_nm (fun x15_541 _ => ?_)
            exact kp_tr2_kt (ih _ _ _ _ _ _) (kt_refl _)
          · refine kp_if ?_ ?_
            · unfold F_X11_evener_132
              refine kp_nm (fun x15_542 _ => ?_)
              exact kp_tr2_kt (ih _ _ _ _ _ _) (kt_refl _)
            · unfold F_X11_evener_125
              unfold F_X11_evener_132
              refine kp_nm (fun x15_543 _ => ?_)
              exact kp_tr2_kt (ih _ _ _ _ _ _) (kt_refl _)
      · refine kp_gd (fun g_544 => ?_)
        refine kp_bx (fun r17_545 => ?_)
        refine kp_nm (fun x18_546 _ => ?_)
        unfold F_X11_evener_91
        refine kp_if ?_ ?_
        · unfold F_X11_evener_110
          refine kp_if ?_ ?_
          · unfold F_X11_evener_125
            unfold F_X11_evener_132
            refine kp_nm (fun x15_547 _ => ?_)
            exact kp_tr2_kt (ih _ _ _ _ _ _) (kt_refl _)
          · refine kp_if ?_ ?_
            · unfold F_X11_evener_132
              refine kp_nm (fun x15_548 _ => ?_)
              exact kp_tr2_kt (ih _ _ _ _ _ _) (kt_refl _)
            · unfold F_X11_evener_125
              unfold F_X11_evener_132
              refine kp_nm (fun x15_549 _ => ?_)
              exact kp_tr2_kt (ih _ _ _ _ _ _) (kt_refl _)
        · refine kp_nm (fun x13_550 _ => ?_)
          unfold F_X11_evener_110
          refine kp_if ?_ ?_
          · unfold F_X11_evener_125
            unfold F_X11_evener_132
            refine kp_nm (fun x15_551 _ => ?_)
            exact kp_tr2_kt (ih _ _ _ _ _ _) (kt_refl _)
          · refine kp_if ?_ ?_
            · unfold F_X11_evener_132
              refine kp_nm (fun x15_552 _ => ?_)
              exact kp_tr2_kt (ih _ _ _ _ _ _) (kt_refl _)
            · unfold F_X11_evener_125
              unfold F_X11_evener_132
              refine kp_nm (fun x15_553 _ => ?_)
              exact kp_tr2_kt (ih _ _ _ _ _ _) (kt_refl _)

set_option maxRecDepth 100000 in
theorem kt_X11_evener {N : Nat} {K len : Nat → Nat} {a1 : Int32} {a2 : Int32} {σ : SG} {ρ : RG} (hL : Lay N K len ρ) : kp (F_X11_evener N K len a1 a2 σ ρ) (fun q => KT σ q.2) := by
  unfold F_X11_evener
  refine kp_bx (fun r1_531 => ?_)
  refine kp_if ?_ ?_
  · exact kp_some (kt_refl _)
  · refine kp_bx (fun r3_532 => ?_)
    refine kp_if ?_ ?_
    · exact kp_some (kt_refl _)
    · refine kp_bn (kt_X11_goOn hL) (fun σ5_533 hσ5_533 => ?_)
      have kσ5_533 : KT σ σ5_533 := kt_trans (kt_refl _) hσ5_533
      exact kp_tr2_kt (kt_X11_evener_44 hL 1024 _ _ _ _ _ _) kσ5_533

set_option maxRecDepth 100000 in
theorem kt_X11_bestOf_B_28 {N : Nat} {K len : Nat → Nat} {R : Nat → Nat → Int32 → Int32 → SG → RG → Option (Int32 × SG)} {z : Nat} {z2 : Nat} {a3 : Int32} {a4 : Int32} {ρ : RG} (hL : Lay N K len ρ) (hR : ∀ (y0 : Nat) (y1 : Nat) (y2 : Int32) (y3 : Int32) (σ : SG), isC N K y0 = true → isC N K y1 = true → kp (R y0 y1 y2 y3 σ ρ) (fun q => KT σ q.2)) (f_z : isC N K z = true) (f_z2 : isC N K z2 = true) : ∀ (n : Nat) (σ : SG) (r1 : Nat) (r2 : Nat) (v3 : Int32) (v4 : Int32) (v5 : Int32) (v6 : Int32) (v7 : Int32), isC N K r1 = true → isC N K r2 = true → kp (F_X11_bestOf_B_28 N K len R z z2 a3 a4 n σ ρ r1 r2 v3 v4 v5 v6 v7) (fun q => KT σ q.2) := by
  intro n
  induction n with
  | zero => intro σ r1 r2 v3 v4 v5 v6 v7 f_r1 f_r2; exact kp_none
  | succ n ih =>
    intro σ r1 r2 v3 v4 v5 v6 v7 f_r1 f_r2
    unfold F_X11_bestOf_B_28
    refine kp_gd (fun g_569 => ?_)
    refine kp_gd (fun g_570 => ?_)
    refine kp_if ?_ ?_
    · refine kp_if ?_ ?_
      · refine kp_nm (fun x9_571 _ => ?_)
        refine kp_gd (fun g_572 => ?_)
        refine kp_oce ?_ (fun c11_573 o_574 => ?_)
        · exact kp_none
        · refine kp_gd (fun g_575 => ?_)
          refine kp_gd (fun g_576 => ?_)
          refine kp_oce ?_ (fun c13_577 o_578 => ?_)
          · exact kp_none
          · refine kp_gd (fun g_579 => ?_)
            refine kp_bn (kt_X3_takes hL g_575) (fun σ14_580 hσ14_580 => ?_)
            have kσ14_580 : KT σ σ14_580 := kt_trans (kt_refl _) hσ14_580
            refine kp_nm (fun x15_581 _ => ?_)
            refine kp_nm (fun x16_582 _ => ?_)
            refine kp_bn2 (hR _ _ _ _ _ g_570 g_569) (fun r17_583 σ17_584 hr17_583 => ?_)
            have kσ17_584 : KT σ σ17_584 := kt_trans kσ14_580 hr17_583
            refine kp_nm (fun x18_585 _ => ?_)
            unfold F_X11_bestOf_B_144
            refine kp_if ?_ ?_
            · refine kp_nm (fun σ8_586 hσ8_586 => ?_)
              have kσ8_586 : KT σ σ8_586 := by rw [hσ8_586]; exact kt_trans kσ17_584 (kt_lit (by decide))
              exact kp_some kσ8_586
            · exact kp_some kσ17_584
      · unfold F_X11_bestOf_B_144
        refine kp_if ?_ ?_
        · refine kp_nm (fun σ8_587 hσ8_587 => ?_)
          have kσ8_587 : KT σ σ8_587 := by rw [hσ8_587]; exact kt_trans (kt_refl _) (kt_lit (by decide))
          exact kp_some kσ8_587
        · exact kp_some (kt_refl _)
    · refine kp_bx (fun r19_588 => ?_)
      refine kp_bn2 (kt_X11_tryStep hL g_569) (fun r20_589 σ20_590 hr20_589 => ?_)
      have kσ20_590 : KT σ σ20_590 := kt_trans (kt_refl _) hr20_589
      refine kp_if ?_ ?_
      · unfold F_X11_bestOf_B_98
        refine kp_gd (fun g_591 => ?_)
        refine kp_gd (fun g_592 => ?_)
        refine kp_nm (fun x22_593 _ => ?_)
        exact kp_tr2_kt (ih _ _ _ _ _ _ _ _ g_591 g_592) kσ20_590
      · refine kp_nm (fun x23_594 _ => ?_)
        refine kp_gd (fun g_595 => ?_)
        refine kp_oce ?_ (fun c25_596 o_597 => ?_)
        · exact kp_none
        · refine kp_gd (fun g_598 => ?_)
          refine kp_nm (fun x26_599 _ => ?_)
          refine kp_nm (fun x27_600 _ => ?_)
          refine kp_bn2 (hR _ _ _ _ _ g_570 g_569) (fun r28_601 σ28_602 hr28_601 => ?_)
          have kσ28_602 : KT σ σ28_602 := kt_trans kσ20_590 hr28_601
          refine kp_nm (fun x29_603 _ => ?_)
          refine kp_if ?_ ?_
          · unfold F_X11_bestOf_B_90
            refine kp_gd (fun g_604 => ?_)
            refine kp_gd (fun g_605 => ?_)
            unfold F_X11_bestOf_B_98
            refine kp_gd (fun g_606 => ?_)
            refine kp_gd (fun g_607 => ?_)
            refine kp_nm (fun x22_608 _ => ?_)
            exact kp_tr2_kt (ih _ _ _ _ _ _ _ _ g_606 g_607) kσ28_602
          · refine kp_if ?_ ?_
            · unfold F_X11_bestOf_B_98
              refine kp_gd (fun g_609 => ?_)
              refine kp_gd (fun g_610 => ?_)
              refine kp_nm (fun x22_611 _ => ?_)
              exact kp_tr2_kt (ih _ _ _ _ _ _ _ _ g_609 g_610) kσ28_602
            · unfold F_X11_bestOf_B_90
              refine kp_gd (fun g_612 => ?_)
              refine kp_gd (fun g_613 => ?_)
              unfold F_X11_bestOf_B_98
              refine kp_gd (fun g_614 => ?_)
              refine kp_gd (fun g_615 => ?_)
              refine kp_nm (fun x22_616 _ => ?_)
              exact kp_tr2_kt (ih _ _ _ _ _ _ _ _ g_614 g_615) kσ28_602

set_option maxRecDepth 100000 in
theorem kt_X11_bestOf_B {N : Nat} {K len : Nat → Nat} {R : Nat → Nat → Int32 → Int32 → SG → RG → Option (Int32 × SG)} {z : Nat} {z2 : Nat} {a3 : Int32} {a4 : Int32} {σ : SG} {ρ : RG} (hL : Lay N K len ρ) (hR : ∀ (y0 : Nat) (y1 : Nat) (y2 : Int32) (y3 : Int32) (σ : SG), isC N K y0 = true → isC N K y1 = true → kp (R y0 y1 y2 y3 σ ρ) (fun q => KT σ q.2)) (f_z : isC N K z = true) (f_z2 : isC N K z2 = true) : kp (F_X11_bestOf_B N K len R z z2 a3 a4 σ ρ) (fun q => KT σ q.2) := by
  unfold F_X11_bestOf_B
  refine kp_if ?_ ?_
  · exact kp_some (kt_refl _)
  · refine kp_nm (fun x2_568 _ => ?_)
    refine kp_if ?_ ?_
    · exact kp_tr2_kt (kt_X11_bestOf_B_28 hL hR f_z f_z2 1024 _ _ _ _ _ _ _ _ f_z f_z2) (kt_refl _)
    · exact kp_some (kt_refl _)

theorem kt_X11_bestOf_R {N : Nat} {K len : Nat → Nat} {ρ : RG} (hL : Lay N K len ρ) : ∀ (d : Nat) (z : Nat) (z2 : Nat) (a3 : Int32) (a4 : Int32) (σ : SG), isC N K z = true → isC N K z2 = true → kp (F_X11_bestOf_R N K len d z z2 a3 a4 σ ρ) (fun q => KT σ q.2) := by
  intro d
  induction d with
  | zero => intro z z2 a3 a4 σ f_z f_z2; exact kp_none
  | succ d ih =>
    intro z z2 a3 a4 σ f_z f_z2
    exact kt_X11_bestOf_B hL ih f_z f_z2

theorem kt_X11_bestOf {N : Nat} {K len : Nat → Nat} {z : Nat} {z2 : Nat} {a3 : Int32} {a4 : Int32} {σ : SG} {ρ : RG} (hL : Lay N K len ρ) (f_z : isC N K z = true) (f_z2 : isC N K z2 = true) : kp (F_X11_bestOf N K len z z2 a3 a4 σ ρ) (fun q => KT σ q.2) := kt_X11_bestOf_R hL _ _ _ _ _ _ f_z f_z2

set_option maxRecDepth 100000 in
theorem kt_X11_game {N : Nat} {K len : Nat → Nat} {a1 : Int32} {a2 : Int32} {a3 : Int32} {a4 : Int32} {σ : SG} {ρ : RG} (hL : Lay N K len ρ) : kp (F_X11_game N K len a1 a2 a3 a4 σ ρ) (fun q => KT σ q.2) := by
  unfold F_X11_game
  refine kp_bx (fun o1_554 => ?_)
  refine kp_oc ?_ (fun c2_555 => ?_)
  · refine kp_bx (fun o3_556 => ?_)
    refine kp_oc ?_ (fun c4_557 => ?_)
    · exact kp_some (kt_refl _)
    · refine kp_gd (fun g_558 => ?_)
      exact kp_some (kt_refl _)
  · refine kp_gd (fun g_559 => ?_)
    refine kp_bx (fun o5_560 => ?_)
    refine kp_oc ?_ (fun c6_561 => ?_)
    · exact kp_some (kt_refl _)
    · refine kp_gd (fun g_562 => ?_)
      refine kp_bx (fun r7_563 => ?_)
      refine kp_if ?_ ?_
      · exact kp_some (kt_refl _)
      · refine kp_if ?_ ?_
        · exact kp_some (kt_refl _)
        · refine kp_bx (fun r10_564 => ?_)
          refine kp_if ?_ ?_
          · exact kp_some (kt_refl _)
          · refine kp_bn (kt_X11_startSteps hL) (fun σ12_565 hσ12_565 => ?_)
            have kσ12_565 : KT σ σ12_565 := kt_trans (kt_refl _) hσ12_565
            refine kp_bn2 (kt_X11_bestOf hL g_559 g_562) (fun r13_566 σ13_567 hr13_566 => ?_)
            have kσ13_567 : KT σ σ13_567 := kt_trans kσ12_565 hr13_566
            refine kp_if ?_ ?_
            · exact kp_some kσ13_567
            · exact kp_some kσ13_567

set_option maxRecDepth 100000 in
theorem kt_X11_who_8 {N : Nat} {K len : Nat → Nat} {ρ : RG} (hL : Lay N K len ρ) : ∀ (n : Nat) (σ : SG) (v1 : Int32) (v2 : Int32), kp (F_X11_who_8 N K len n σ ρ v1 v2) (fun q => KT σ q.2) := by
  intro n
  induction n with
  | zero => intro σ v1 v2; exact kp_none
  | succ n ih =>
    intro σ v1 v2
    unfold F_X11_who_8
    refine kp_if ?_ ?_
    · exact kp_some (kt_refl _)
    · refine kp_bx (fun o3_618 => ?_)
      refine kp_oc ?_ (fun c4_619 => ?_)
      · refine kp_bx (fun r5_620 => ?_)
        refine kp_if ?_ ?_
        · unfold F_X11_who_80
          refine kp_nm (fun x7_621 _ => ?_)
          exact kp_tr2_kt (ih _ _ _) (kt_refl _)
        · refine kp_if ?_ ?_
          · refine kp_if ?_ ?_
            · refine kp_nm (fun x10_622 _ => ?_)
              refine kp_nm (fun x11_623 _ => ?_)
              unfold F_X11_who_80
              refine kp_nm (fun x7_624 _ => ?_)
              exact kp_tr2_kt (ih _ _ _) (kt_refl _)
            · unfold F_X11_who_80
              refine kp_nm (fun x7_625 _ => ?_)
              exact kp_tr2_kt (ih _ _ _) (kt_refl _)
          · unfold F_X11_who_80
            refine kp_nm (fun x7_626 _ => ?_)
            exact kp_tr2_kt (ih _ _ _) (kt_refl _)
      · refine kp_gd (fun g_627 => ?_)
        refine kp_bn2 (kt_X11_tryStep hL g_627) (fun r12_628 σ12_629 hr12_628 => ?_)
        have kσ12_629 : KT σ σ12_629 := kt_trans (kt_refl _) hr12_628
        refine kp_if ?_ ?_
        · unfold F_X11_who_80
          refine kp_nm (fun x7_630 _ => ?_)
          exact kp_tr2_kt (ih _ _ _) kσ12_629
        · refine kp_if ?_ ?_
          · refine kp_if ?_ ?_
            · refine kp_nm (fun x16_631 _ => ?_)
              refine kp_nm (fun x17_632 _ => ?_)
              unfold F_X11_who_80
              refine kp_nm (fun x7_633 _ => ?_)
              exact kp_tr2_kt (ih _ _ _) kσ12_629
            · unfold F_X11_who_80
              refine kp_nm (fun x7_634 _ => ?_)
              exact kp_tr2_kt (ih _ _ _) kσ12_629
          · unfold F_X11_who_80
            refine kp_nm (fun x7_635 _ => ?_)
            exact kp_tr2_kt (ih _ _ _) kσ12_629

set_option maxRecDepth 100000 in
theorem kt_X11_who {N : Nat} {K len : Nat → Nat} {σ : SG} {ρ : RG} (hL : Lay N K len ρ) : kp (F_X11_who N K len σ ρ) (fun q => KT σ q.2) := by
  unfold F_X11_who
  refine kp_bn (kt_X11_startSteps hL) (fun σ1_617 hσ1_617 => ?_)
  have kσ1_617 : KT σ σ1_617 := kt_trans (kt_refl _) hσ1_617
  exact kp_tr2_kt (kt_X11_who_8 hL 1024 _ _ _) kσ1_617

set_option maxRecDepth 100000 in
theorem kt_X11_weekRows_B_29 {N : Nat} {K len : Nat → Nat} {R : Int32 → SG → RG → Option (Int32 × SG)} {a1 : Int32} {ρ : RG} (hL : Lay N K len ρ) (hR : ∀ (y0 : Int32) (σ : SG), kp (R y0 σ ρ) (fun q => KT σ q.2)) : ∀ (n : Nat) (σ : SG) (v1 : Int32) (v2 : Int32) (v3 : Int32), kp (F_X11_weekRows_B_29 N K len R a1 n σ ρ v1 v2 v3) (fun q => KT σ q.2) := by
  intro n
  induction n with
  | zero => intro σ v1 v2 v3; exact kp_none
  | succ n ih =>
    intro σ v1 v2 v3
    unfold F_X11_weekRows_B_29
    refine kp_if ?_ ?_
    · exact kp_some (kt_refl _)
    · refine kp_if ?_ ?_
      · exact kp_some (kt_refl _)
      · refine kp_bx (fun o4_640 => ?_)
        refine kp_oc ?_ (fun c5_641 => ?_)
        · refine kp_bx (fun r6_642 => ?_)
          refine kp_if ?_ ?_
          · unfold F_X11_weekRows_B_108
            refine kp_nm (fun x8_643 _ => ?_)
            exact kp_tr2_kt (ih _ _ _ _) (kt_refl _)
          · refine kp_nm (fun x9_644 _ => ?_)
            refine kp_gd (fun g_645 => ?_)
            refine kp_oce ?_ (fun c11_646 o_647 => ?_)
            · exact kp_none
            · refine kp_gd (fun g_648 => ?_)
              refine kp_bx (fun r12_649 => ?_)
              refine kp_if ?_ ?_
              · refine kp_gd (fun _ => ?_)
                refine kp_nm (fun σ16_650 hσ16_650 => ?_)
                have kσ16_650 : KT σ σ16_650 := by rw [hσ16_650]; exact kt_trans (kt_refl _) (kt_row (by decide))
                refine kp_nm (fun x17_651 _ => ?_)
                refine kp_bn2 (hR _ _) (fun r18_652 σ18_653 hr18_652 => ?_)
                have kσ18_653 : KT σ σ18_653 := kt_trans kσ16_650 hr18_652
                refine kp_nm (fun x19_654 _ => ?_)
                unfold F_X11_weekRows_B_108
                refine kp_nm (fun x8_655 _ => ?_)
                exact kp_tr2_kt (ih _ _ _ _) kσ18_653
              · unfold F_X11_weekRows_B_108
                refine kp_nm (fun x8_656 _ => ?_)
                exact kp_tr2_kt (ih _ _ _ _) (kt_refl _)
        · refine kp_gd (fun g_657 => ?_)
          refine kp_bn2 (kt_X11_tryStep hL g_657) (fun r20_658 σ20_659 hr20_658 => ?_)
          have kσ20_659 : KT σ σ20_659 := kt_trans (kt_refl _) hr20_658
          refine kp_if ?_ ?_
          · unfold F_X11_weekRows_B_108
            refine kp_nm (fun x8_660 _ => ?_)
            exact kp_tr2_kt (ih _ _ _ _) kσ20_659
          · refine kp_nm (fun x22_661 _ => ?_)
            refine kp_gd (fun g_662 => ?_)
            refine kp_oce ?_ (fun c24_663 o_664 => ?_)
            · exact kp_none
            · refine kp_gd (fun g_665 => ?_)
              refine kp_bx (fun r25_666 => ?_)
              refine kp_if ?_ ?_
              · refine kp_gd (fun _ => ?_)
                refine kp_nm (fun σ29_667 hσ29_667 => ?_)
                have kσ29_667 : KT σ σ29_667 := by rw [hσ29_667]; exact kt_trans kσ20_659 (kt_row (by decide))
                refine kp_nm (fun x30_668 _ => ?_)
                refine kp_bn2 (hR _ _) (fun r31_669 σ31_670 hr31_669 => ?_)
                have kσ31_670 : KT σ σ31_670 := kt_trans kσ29_667 hr31_669
                refine kp_nm (fun x32_671 _ => ?_)
                unfold F_X11_weekRows_B_108
                refine kp_nm (fun x8_672 _ => ?_)
                exact kp_tr2_kt (ih _ _ _ _) kσ31_670
              · unfold F_X11_weekRows_B_108
                refine kp_nm (fun x8_673 _ => ?_)
                exact kp_tr2_kt (ih _ _ _ _) kσ20_659

set_option maxRecDepth 100000 in
theorem kt_X11_weekRows_B {N : Nat} {K len : Nat → Nat} {R : Int32 → SG → RG → Option (Int32 × SG)} {a1 : Int32} {σ : SG} {ρ : RG} (hL : Lay N K len ρ) (hR : ∀ (y0 : Int32) (σ : SG), kp (R y0 σ ρ) (fun q => KT σ q.2)) : kp (F_X11_weekRows_B N K len R a1 σ ρ) (fun q => KT σ q.2) := by
  unfold F_X11_weekRows_B
  refine kp_if ?_ ?_
  · exact kp_tr2_kt (kt_X11_weekRows_B_29 hL hR 1024 _ _ _ _) (kt_refl _)
  · refine kp_if ?_ ?_
    · refine kp_bn (kt_X11_keepPath hL) (fun σ34_674 hσ34_674 => ?_)
      have kσ34_674 : KT σ σ34_674 := kt_trans (kt_refl _) hσ34_674
      exact kp_some kσ34_674
    · exact kp_some (kt_refl _)

theorem kt_X11_weekRows_R {N : Nat} {K len : Nat → Nat} {ρ : RG} (hL : Lay N K len ρ) : ∀ (d : Nat) (a1 : Int32) (σ : SG), kp (F_X11_weekRows_R N K len d a1 σ ρ) (fun q => KT σ q.2) := by
  intro d
  induction d with
  | zero => intro a1 σ; exact kp_none
  | succ d ih =>
    intro a1 σ
    exact kt_X11_weekRows_B hL ih

theorem kt_X11_weekRows {N : Nat} {K len : Nat → Nat} {a1 : Int32} {σ : SG} {ρ : RG} (hL : Lay N K len ρ) : kp (F_X11_weekRows N K len a1 σ ρ) (fun q => KT σ q.2) := kt_X11_weekRows_R hL _ _ _

set_option maxRecDepth 100000 in
theorem kt_X11_rows {N : Nat} {K len : Nat → Nat} {a1 : Int32} {σ : SG} {ρ : RG} (hL : Lay N K len ρ) : kp (F_X11_rows N K len a1 σ ρ) (fun q => KT σ q.2) := by
  unfold F_X11_rows
  refine kp_bx (fun r1_636 => ?_)
  refine kp_if ?_ ?_
  · exact kp_some (kt_refl _)
  · refine kp_bn (kt_X11_startSteps hL) (fun σ3_637 hσ3_637 => ?_)
    have kσ3_637 : KT σ σ3_637 := kt_trans (kt_refl _) hσ3_637
    refine kp_bn2 (kt_X11_weekRows hL) (fun r4_638 σ4_639 hr4_638 => ?_)
    have kσ4_639 : KT σ σ4_639 := kt_trans kσ3_637 hr4_638
    refine kp_if ?_ ?_
    · refine kp_if ?_ ?_
      · exact kp_some kσ4_639
      · refine kp_if ?_ ?_
        · exact kp_some kσ4_639
        · refine kp_bx (fun r8_675 => ?_)
          exact kp_some kσ4_639
    · exact kp_some kσ4_639

set_option maxRecDepth 100000 in
theorem kt_X11_goodRows_B_12 {N : Nat} {K len : Nat → Nat} {R : Int32 → Int32 → SG → RG → Option (Int64 × SG)} {a1 : Int32} {a2 : Int32} {ρ : RG} (hL : Lay N K len ρ) (hR : ∀ (y0 : Int32) (y1 : Int32) (σ : SG), kp (R y0 y1 σ ρ) (fun q => KT σ q.2)) : ∀ (n : Nat) (σ : SG) (v1 : Int32) (v2 : Int32) (v3 : Int64) (v5 : Int32), kp (F_X11_goodRows_B_12 N K len R a1 a2 n σ ρ v1 v2 v3 v5) (fun q => KT σ q.2) := by
  intro n
  induction n with
  | zero => intro σ v1 v2 v3 v5; exact kp_none
  | succ n ih =>
    intro σ v1 v2 v3 v5
    unfold F_X11_goodRows_B_12
    refine kp_if ?_ ?_
    · exact kp_some (kt_refl _)
    · refine kp_bx (fun o3_681 => ?_)
      refine kp_oc ?_ (fun c4_682 => ?_)
      · refine kp_bx (fun r5_683 => ?_)
        refine kp_if ?_ ?_
        · unfold F_X11_goodRows_B_77
          refine kp_nm (fun x7_684 _ => ?_)
          exact kp_tr2_kt (ih _ _ _ _ _) (kt_refl _)
        · refine kp_nm (fun x8_685 _ => ?_)
          refine kp_gd (fun g_686 => ?_)
          refine kp_oce ?_ (fun c10_687 o_688 => ?_)
          · exact kp_none
          · refine kp_gd (fun g_689 => ?_)
            refine kp_if ?_ ?_
            · unfold F_X11_goodRows_B_77
              refine kp_nm (fun x7_690 _ => ?_)
              exact kp_tr2_kt (ih _ _ _ _ _) (kt_refl _)
            · refine kp_nm (fun x12_691 _ => ?_)
              refine kp_bn2 (hR _ _ _) (fun r13_692 σ13_693 hr13_692 => ?_)
              have kσ13_693 : KT σ σ13_693 := kt_trans (kt_refl _) hr13_692
              refine kp_nm (fun x14_694 _ => ?_)
              unfold F_X11_goodRows_B_77
              refine kp_nm (fun x7_695 _ => ?_)
              exact kp_tr2_kt (ih _ _ _ _ _) kσ13_693
      · refine kp_gd (fun g_696 => ?_)
        refine kp_bn2 (kt_X11_tryStep hL g_696) (fun r15_697 σ15_698 hr15_697 => ?_)
        have kσ15_698 : KT σ σ15_698 := kt_trans (kt_refl _) hr15_697
        refine kp_if ?_ ?_
        · unfold F_X11_goodRows_B_77
          refine kp_nm (fun x7_699 _ => ?_)
          exact kp_tr2_kt (ih _ _ _ _ _) kσ15_698
        · refine kp_nm (fun x17_700 _ => ?_)
          refine kp_gd (fun g_701 => ?_)
          refine kp_oce ?_ (fun c19_702 o_703 => ?_)
          · exact kp_none
          · refine kp_gd (fun g_704 => ?_)
            refine kp_if ?_ ?_
            · unfold F_X11_goodRows_B_77
              refine kp_nm (fun x7_705 _ => ?_)
              exact kp_tr2_kt (ih _ _ _ _ _) kσ15_698
            · refine kp_nm (fun x21_706 _ => ?_)
              refine kp_bn2 (hR _ _ _) (fun r22_707 σ22_708 hr22_707 => ?_)
              have kσ22_708 : KT σ σ22_708 := kt_trans kσ15_698 hr22_707
              refine kp_nm (fun x23_709 _ => ?_)
              unfold F_X11_goodRows_B_77
              refine kp_nm (fun x7_710 _ => ?_)
              exact kp_tr2_kt (ih _ _ _ _ _) kσ22_708

set_option maxRecDepth 100000 in
theorem kt_X11_goodRows_B {N : Nat} {K len : Nat → Nat} {R : Int32 → Int32 → SG → RG → Option (Int64 × SG)} {a1 : Int32} {a2 : Int32} {σ : SG} {ρ : RG} (hL : Lay N K len ρ) (hR : ∀ (y0 : Int32) (y1 : Int32) (σ : SG), kp (R y0 y1 σ ρ) (fun q => KT σ q.2)) : kp (F_X11_goodRows_B N K len R a1 a2 σ ρ) (fun q => KT σ q.2) := by
  unfold F_X11_goodRows_B
  refine kp_if ?_ ?_
  · exact kp_tr2_kt (kt_X11_goodRows_B_12 hL hR 1024 _ _ _ _ _) (kt_refl _)
  · exact kp_some (kt_refl _)

theorem kt_X11_goodRows_R {N : Nat} {K len : Nat → Nat} {ρ : RG} (hL : Lay N K len ρ) : ∀ (d : Nat) (a1 : Int32) (a2 : Int32) (σ : SG), kp (F_X11_goodRows_R N K len d a1 a2 σ ρ) (fun q => KT σ q.2) := by
  intro d
  induction d with
  | zero => intro a1 a2 σ; exact kp_none
  | succ d ih =>
    intro a1 a2 σ
    exact kt_X11_goodRows_B hL ih

theorem kt_X11_goodRows {N : Nat} {K len : Nat → Nat} {a1 : Int32} {a2 : Int32} {σ : SG} {ρ : RG} (hL : Lay N K len ρ) : kp (F_X11_goodRows N K len a1 a2 σ ρ) (fun q => KT σ q.2) := kt_X11_goodRows_R hL _ _ _ _

set_option maxRecDepth 100000 in
theorem kt_X11_odds_37 {N : Nat} {K len : Nat → Nat} {a1 : Int32} {a2 : Int32} {ρ : RG} (hL : Lay N K len ρ) : ∀ (n : Nat) (σ : SG) (v1 : Int32) (v2 : Int32) (v3 : Int64) (v5 : Int32), kp (F_X11_odds_37 N K len a1 a2 n σ ρ v1 v2 v3 v5) (fun q => KT σ q.2) := by
  intro n
  induction n with
  | zero => intro σ v1 v2 v3 v5; exact kp_none
  | succ n ih =>
    intro σ v1 v2 v3 v5
    unfold F_X11_odds_37
    refine kp_if ?_ ?_
    · refine kp_bn (kt_X11_startSteps hL) (fun σ7_678 hσ7_678 => ?_)
      have kσ7_678 : KT σ σ7_678 := kt_trans (kt_refl _) hσ7_678
      refine kp_bn2 (kt_X11_goodRows hL) (fun r8_679 σ8_680 hr8_679 => ?_)
      have kσ8_680 : KT σ σ8_680 := kt_trans kσ7_678 hr8_679
      refine kp_bx (fun r9_711 => ?_)
      exact kp_some kσ8_680
    · refine kp_nm (fun x10_712 _ => ?_)
      refine kp_nm (fun x11_713 _ => ?_)
      exact kp_tr2_kt (ih _ _ _ _ _) (kt_refl _)

set_option maxRecDepth 100000 in
theorem kt_X11_odds {N : Nat} {K len : Nat → Nat} {a1 : Int32} {a2 : Int32} {σ : SG} {ρ : RG} (hL : Lay N K len ρ) : kp (F_X11_odds N K len a1 a2 σ ρ) (fun q => KT σ q.2) := by
  unfold F_X11_odds
  refine kp_bx (fun r1_676 => ?_)
  refine kp_if ?_ ?_
  · exact kp_some (kt_refl _)
  · refine kp_bx (fun r3_677 => ?_)
    refine kp_if ?_ ?_
    · exact kp_some (kt_refl _)
    · refine kp_if ?_ ?_
      · exact kp_some (kt_refl _)
      · exact kp_tr2_kt (kt_X11_odds_37 hL 1024 _ _ _ _ _) (kt_refl _)

set_option maxRecDepth 100000 in
theorem kt_X11_mean_32 {N : Nat} {K len : Nat → Nat} {a1 : Int32} {ρ : RG} (hL : Lay N K len ρ) : ∀ (n : Nat) (σ : SG) (v1 : Int32) (v2 : Int64) (v4 : Int32), kp (F_X11_mean_32 N K len a1 n σ ρ v1 v2 v4) (fun q => KT σ q.2) := by
  intro n
  induction n with
  | zero => intro σ v1 v2 v4; exact kp_none
  | succ n ih =>
    intro σ v1 v2 v4
    unfold F_X11_mean_32
    refine kp_if ?_ ?_
    · refine kp_bx (fun r6_716 => ?_)
      exact kp_some (kt_refl _)
    · refine kp_bx (fun o7_717 => ?_)
      refine kp_oc ?_ (fun c8_718 => ?_)
      · refine kp_bx (fun r9_719 => ?_)
        refine kp_if ?_ ?_
        · unfold F_X11_mean_75
          refine kp_nm (fun x11_720 _ => ?_)
          exact kp_tr2_kt (ih _ _ _ _) (kt_refl _)
        · refine kp_nm (fun x12_721 _ => ?_)
          unfold F_X11_mean_75
          refine kp_nm (fun x11_722 _ => ?_)
          exact kp_tr2_kt (ih _ _ _ _) (kt_refl _)
      · refine kp_gd (fun g_723 => ?_)
        refine kp_bn2 (kt_X11_tryStep hL g_723) (fun r13_724 σ13_725 hr13_724 => ?_)
        have kσ13_725 : KT σ σ13_725 := kt_trans (kt_refl _) hr13_724
        refine kp_if ?_ ?_
        · unfold F_X11_mean_75
          refine kp_nm (fun x11_726 _ => ?_)
          exact kp_tr2_kt (ih _ _ _ _) kσ13_725
        · refine kp_nm (fun x15_727 _ => ?_)
          unfold F_X11_mean_75
          refine kp_nm (fun x11_728 _ => ?_)
          exact kp_tr2_kt (ih _ _ _ _) kσ13_725

set_option maxRecDepth 100000 in
theorem kt_X11_mean {N : Nat} {K len : Nat → Nat} {a1 : Int32} {σ : SG} {ρ : RG} (hL : Lay N K len ρ) : kp (F_X11_mean N K len a1 σ ρ) (fun q => KT σ q.2) := by
  unfold F_X11_mean
  refine kp_bx (fun r1_714 => ?_)
  refine kp_if ?_ ?_
  · exact kp_some (kt_refl _)
  · refine kp_if ?_ ?_
    · exact kp_some (kt_refl _)
    · refine kp_bn (kt_X11_startSteps hL) (fun σ4_715 hσ4_715 => ?_)
      have kσ4_715 : KT σ σ4_715 := kt_trans (kt_refl _) hσ4_715
      exact kp_tr2_kt (kt_X11_mean_32 hL 1024 _ _ _ _) kσ4_715

set_option maxRecDepth 100000 in
theorem kt_X11_looked_16 {N : Nat} {K len : Nat → Nat} {ρ : RG} (hL : Lay N K len ρ) : ∀ (n : Nat) (σ : SG) (v1 : Int32), kp (F_X11_looked_16 N K len n σ ρ v1) (fun q => KT σ q.2) := by
  intro n
  induction n with
  | zero => intro σ v1; exact kp_none
  | succ n ih =>
    intro σ v1
    unfold F_X11_looked_16
    refine kp_if ?_ ?_
    · exact kp_some (kt_refl _)
    · refine kp_bx (fun r3_730 => ?_)
      refine kp_bx (fun o4_731 => ?_)
      refine kp_oc ?_ (fun c5_732 => ?_)
      · exact kp_some (kt_refl _)
      · refine kp_gd (fun g_733 => ?_)
        refine kp_bn2 (kt_X3_tryCut hL (by decide) g_733) (fun r6_734 σ6_735 hr6_734 => ?_)
        have kσ6_735 : KT σ σ6_735 := kt_trans (kt_refl _) hr6_734
        refine kp_if ?_ ?_
        · exact kp_some kσ6_735
        · refine kp_bx (fun r8_736 => ?_)
          refine kp_if ?_ ?_
          · refine kp_nm (fun x10_737 _ => ?_)
            exact kp_tr2_kt (ih _ _) kσ6_735
          · exact kp_some kσ6_735

set_option maxRecDepth 100000 in
theorem kt_X11_looked {N : Nat} {K len : Nat → Nat} {σ : SG} {ρ : RG} (hL : Lay N K len ρ) : kp (F_X11_looked N K len σ ρ) (fun q => KT σ q.2) := by
  unfold F_X11_looked
  refine kp_bn (kt_X3_takes hL (by decide)) (fun σ1_729 hσ1_729 => ?_)
  have kσ1_729 : KT σ σ1_729 := kt_trans (kt_refl _) hσ1_729
  exact kp_tr2_kt (kt_X11_looked_16 hL 1024 _ _) kσ1_729

set_option maxRecDepth 100000 in
theorem kt_X0_readSign {N : Nat} {K len : Nat → Nat} {a1 : Int32} {σ : SG} {ρ : RG} (hL : Lay N K len ρ) : kp (F_X0_readSign a1 σ ρ) (fun q => KT σ q.2) := by
  unfold F_X0_readSign
  refine kp_bx (fun r1_754 => ?_)
  refine kp_if ?_ ?_
  · refine kp_nm (fun x3_755 _ => ?_)
    refine kp_nm (fun σ5_756 hσ5_756 => ?_)
    have kσ5_756 : KT σ σ5_756 := by rw [hσ5_756]; exact kt_trans (kt_refl _) (kt_lit (by decide))
    exact kp_some kσ5_756
  · exact kp_some (kt_refl _)

set_option maxRecDepth 100000 in
theorem kt_X0_readWord_2 {N : Nat} {K len : Nat → Nat} {w : Nat} {ρ : RG} (hL : Lay N K len ρ) : ∀ (n : Nat) (σ : SG) (v2 : Int32), kp (F_X0_readWord_2 w n σ ρ v2) (fun q => KT σ q.2) := by
  intro n
  induction n with
  | zero => intro σ v2; exact kp_none
  | succ n ih =>
    intro σ v2
    unfold F_X0_readWord_2
    refine kp_bx (fun r1_750 => ?_)
    refine kp_if ?_ ?_
    · exact kp_some (kt_refl _)
    · refine kp_bx (fun r3_751 => ?_)
      refine kp_bn2 (kt_X0_readSign hL) (fun r4_752 σ4_753 hr4_752 => ?_)
      have kσ4_753 : KT σ σ4_753 := kt_trans (kt_refl _) hr4_752
      refine kp_if ?_ ?_
      · exact kp_some kσ4_753
      · refine kp_nm (fun x6_757 _ => ?_)
        exact kp_tr2_kt (ih _ _) kσ4_753

set_option maxRecDepth 100000 in
theorem kt_X0_readWord {N : Nat} {K len : Nat → Nat} {w : Nat} {σ : SG} {ρ : RG} (hL : Lay N K len ρ) : kp (F_X0_readWord w σ ρ) (fun q => KT σ q.2) := by
  unfold F_X0_readWord
  exact kp_tr2_kt (kt_X0_readWord_2 hL 1024 _ _) (kt_refl _)

set_option maxRecDepth 100000 in
theorem kt_X0_readNumber {N : Nat} {K len : Nat → Nat} {σ : SG} {ρ : RG} (hL : Lay N K len ρ) : kp (F_X0_readNumber σ ρ) (fun q => KT σ q.2) := by
  unfold F_X0_readNumber
  refine kp_bx (fun r1_760 => ?_)
  refine kp_bx (fun r2_761 => ?_)
  refine kp_if ?_ ?_
  · exact kp_some (kt_refl _)
  · refine kp_bx (fun r4_762 => ?_)
    refine kp_nm (fun x5_763 _ => ?_)
    refine kp_nm (fun σ7_764 hσ7_764 => ?_)
    have kσ7_764 : KT σ σ7_764 := by rw [hσ7_764]; exact kt_trans (kt_refl _) (kt_lit (by decide))
    refine kp_nm (fun x8_765 _ => ?_)
    refine kp_nm (fun σ10_766 hσ10_766 => ?_)
    have kσ10_766 : KT σ σ10_766 := by rw [hσ10_766]; exact kt_trans kσ7_764 (kt_lit (by decide))
    refine kp_if ?_ ?_
    · exact kp_some kσ10_766
    · refine kp_bx (fun r12_767 => ?_)
      refine kp_bx (fun r13_768 => ?_)
      refine kp_if ?_ ?_
      · exact kp_some kσ10_766
      · refine kp_nm (fun x15_769 _ => ?_)
        refine kp_bx (fun r16_770 => ?_)
        refine kp_nm (fun x17_771 _ => ?_)
        refine kp_nm (fun x18_772 _ => ?_)
        refine kp_nm (fun σ20_773 hσ20_773 => ?_)
        have kσ20_773 : KT σ σ20_773 := by rw [hσ20_773]; exact kt_trans kσ10_766 (kt_lit (by decide))
        refine kp_nm (fun x21_774 _ => ?_)
        refine kp_nm (fun σ23_775 hσ23_775 => ?_)
        have kσ23_775 : KT σ σ23_775 := by rw [hσ23_775]; exact kt_trans kσ20_773 (kt_lit (by decide))
        exact kp_some kσ23_775

set_option maxRecDepth 100000 in
theorem kt_X0_put {N : Nat} {K len : Nat → Nat} {a1 : Int32} {σ : SG} {ρ : RG} (hL : Lay N K len ρ) : kp (F_X0_put a1 σ ρ) (fun q => KT σ q.2) := by
  unfold F_X0_put
  refine kp_if ?_ ?_
  · exact kp_some (kt_refl _)
  · refine kp_if ?_ ?_
    · refine kp_gd (fun _ => ?_)
      refine kp_nm (fun σ5_799 hσ5_799 => ?_)
      have kσ5_799 : KT σ σ5_799 := by rw [hσ5_799]; exact kt_trans (kt_refl _) (kt_row (by decide))
      refine kp_nm (fun x6_800 _ => ?_)
      refine kp_nm (fun σ8_801 hσ8_801 => ?_)
      have kσ8_801 : KT σ σ8_801 := by rw [hσ8_801]; exact kt_trans kσ5_799 (kt_lit (by decide))
      exact kp_some kσ8_801
    · exact kp_some (kt_refl _)

set_option maxRecDepth 100000 in
theorem kt_X0_readBoth_B_12 {N : Nat} {K len : Nat → Nat} {R : Int32 → SG → RG → Option (Int32 × SG)} {a1 : Int32} {ρ : RG} (hL : Lay N K len ρ) (hR : ∀ (y0 : Int32) (σ : SG), kp (R y0 σ ρ) (fun q => KT σ q.2)) : ∀ (n : Nat) (σ : SG) (v1 : Int32) (v2 : Int32), kp (F_X0_readBoth_B_12 R a1 n σ ρ v1 v2) (fun q => KT σ q.2) := by
  intro n
  induction n with
  | zero => intro σ v1 v2; exact kp_none
  | succ n ih =>
    intro σ v1 v2
    unfold F_X0_readBoth_B_12
    refine kp_if ?_ ?_
    · exact kp_some (kt_refl _)
    · refine kp_bx (fun r4_809 => ?_)
      refine kp_if ?_ ?_
      · refine kp_nm (fun x6_810 _ => ?_)
        refine kp_nm (fun σ8_811 hσ8_811 => ?_)
        have kσ8_811 : KT σ σ8_811 := by rw [hσ8_811]; exact kt_trans (kt_refl _) (kt_lit (by decide))
        refine kp_bn2 (hR _ _) (fun r9_812 σ9_813 hr9_812 => ?_)
        have kσ9_813 : KT σ σ9_813 := kt_trans kσ8_811 hr9_812
        refine kp_if ?_ ?_
        · exact kp_some kσ9_813
        · refine kp_bn2 (kt_X0_put hL) (fun r11_814 σ11_815 hr11_814 => ?_)
          have kσ11_815 : KT σ σ11_815 := kt_trans kσ9_813 hr11_814
          refine kp_if ?_ ?_
          · exact kp_some kσ11_815
          · refine kp_nm (fun x13_816 _ => ?_)
            exact kp_tr2_kt (ih _ _ _) kσ11_815
      · exact kp_some (kt_refl _)

set_option maxRecDepth 100000 in
theorem kt_X0_readBoth_B {N : Nat} {K len : Nat → Nat} {R : Int32 → SG → RG → Option (Int32 × SG)} {a1 : Int32} {σ : SG} {ρ : RG} (hL : Lay N K len ρ) (hR : ∀ (y0 : Int32) (σ : SG), kp (R y0 σ ρ) (fun q => KT σ q.2)) : kp (F_X0_readBoth_B R a1 σ ρ) (fun q => KT σ q.2) := by
  unfold F_X0_readBoth_B
  refine kp_bn2 (hR _ _) (fun r1_807 σ1_808 hr1_807 => ?_)
  have kσ1_808 : KT σ σ1_808 := kt_trans (kt_refl _) hr1_807
  refine kp_if ?_ ?_
  · exact kp_some kσ1_808
  · exact kp_tr2_kt (kt_X0_readBoth_B_12 hL hR 1024 _ _ _) kσ1_808

set_option maxRecDepth 100000 in
theorem kt_X0_readEither_B_12 {N : Nat} {K len : Nat → Nat} {R : Int32 → SG → RG → Option (Int32 × SG)} {a1 : Int32} {ρ : RG} (hL : Lay N K len ρ) (hR : ∀ (y0 : Int32) (σ : SG), kp (R y0 σ ρ) (fun q => KT σ q.2)) : ∀ (n : Nat) (σ : SG) (v1 : Int32) (v2 : Int32), kp (F_X0_readEither_B_12 R a1 n σ ρ v1 v2) (fun q => KT σ q.2) := by
  intro n
  induction n with
  | zero => intro σ v1 v2; exact kp_none
  | succ n ih =>
    intro σ v1 v2
    unfold F_X0_readEither_B_12
    refine kp_if ?_ ?_
    · exact kp_some (kt_refl _)
    · refine kp_bx (fun r4_817 => ?_)
      refine kp_if ?_ ?_
      · refine kp_nm (fun x6_818 _ => ?_)
        refine kp_nm (fun σ8_819 hσ8_819 => ?_)
        have kσ8_819 : KT σ σ8_819 := by rw [hσ8_819]; exact kt_trans (kt_refl _) (kt_lit (by decide))
        refine kp_bn2 (kt_X0_readBoth_B hL hR) (fun r9_820 σ9_821 hr9_820 => ?_)
        have kσ9_821 : KT σ σ9_821 := kt_trans kσ8_819 hr9_820
        refine kp_if ?_ ?_
        · exact kp_some kσ9_821
        · refine kp_bn2 (kt_X0_put hL) (fun r11_822 σ11_823 hr11_822 => ?_)
          have kσ11_823 : KT σ σ11_823 := kt_trans kσ9_821 hr11_822
          refine kp_if ?_ ?_
          · exact kp_some kσ11_823
          · refine kp_nm (fun x13_824 _ => ?_)
            exact kp_tr2_kt (ih _ _ _) kσ11_823
      · exact kp_some (kt_refl _)

set_option maxRecDepth 100000 in
theorem kt_X0_readEither_B {N : Nat} {K len : Nat → Nat} {R : Int32 → SG → RG → Option (Int32 × SG)} {a1 : Int32} {σ : SG} {ρ : RG} (hL : Lay N K len ρ) (hR : ∀ (y0 : Int32) (σ : SG), kp (R y0 σ ρ) (fun q => KT σ q.2)) : kp (F_X0_readEither_B R a1 σ ρ) (fun q => KT σ q.2) := by
  unfold F_X0_readEither_B
  refine kp_bn2 (kt_X0_readBoth_B hL hR) (fun r1_805 σ1_806 hr1_805 => ?_)
  have kσ1_806 : KT σ σ1_806 := kt_trans (kt_refl _) hr1_805
  refine kp_if ?_ ?_
  · exact kp_some kσ1_806
  · exact kp_tr2_kt (kt_X0_readEither_B_12 hL hR 1024 _ _ _) kσ1_806

set_option maxRecDepth 100000 in
theorem kt_X0_readTest {N : Nat} {K len : Nat → Nat} {σ : SG} {ρ : RG} (hL : Lay N K len ρ) : kp (F_X0_readTest σ ρ) (fun q => KT σ q.2) := by
  unfold F_X0_readTest
  refine kp_bx (fun r1_841 => ?_)
  refine kp_nm (fun x2_842 _ => ?_)
  refine kp_bx (fun r3_843 => ?_)
  refine kp_if ?_ ?_
  · refine kp_nm (fun x5_844 _ => ?_)
    refine kp_nm (fun σ7_845 hσ7_845 => ?_)
    have kσ7_845 : KT σ σ7_845 := by rw [hσ7_845]; exact kt_trans (kt_refl _) (kt_lit (by decide))
    refine kp_bx (fun r8_846 => ?_)
    refine kp_nm (fun x9_847 _ => ?_)
    refine kp_bx (fun r10_848 => ?_)
    refine kp_if ?_ ?_
    · refine kp_nm (fun x12_849 _ => ?_)
      refine kp_nm (fun σ14_850 hσ14_850 => ?_)
      have kσ14_850 : KT σ σ14_850 := by rw [hσ14_850]; exact kt_trans kσ7_845 (kt_lit (by decide))
      refine kp_bn2 (kt_X0_readNumber hL) (fun r15_851 σ15_852 hr15_851 => ?_)
      have kσ15_852 : KT σ σ15_852 := kt_trans kσ14_850 hr15_851
      refine kp_if ?_ ?_
      · exact kp_some kσ15_852
      · refine kp_nm (fun x17_853 _ => ?_)
        refine kp_nm (fun x18_854 _ => ?_)
        refine kp_nm (fun x19_855 _ => ?_)
        refine kp_nm (fun x20_856 _ => ?_)
        refine kp_bn2 (kt_X0_put hL) (fun r21_857 σ21_858 hr21_857 => ?_)
        have kσ21_858 : KT σ σ21_858 := kt_trans kσ15_852 hr21_857
        refine kp_if ?_ ?_
        · exact kp_some kσ21_858
        · exact kp_some kσ21_858
    · exact kp_some kσ7_845
  · exact kp_some (kt_refl _)

set_option maxRecDepth 100000 in
theorem kt_X0_readFactor_B {N : Nat} {K len : Nat → Nat} {R : Int32 → SG → RG → Option (Int32 × SG)} {a1 : Int32} {σ : SG} {ρ : RG} (hL : Lay N K len ρ) (hR : ∀ (y0 : Int32) (σ : SG), kp (R y0 σ ρ) (fun q => KT σ q.2)) : kp (F_X0_readFactor_B R a1 σ ρ) (fun q => KT σ q.2) := by
  unfold F_X0_readFactor_B
  refine kp_bx (fun r1_791 => ?_)
  refine kp_if ?_ ?_
  · unfold F_X0_readFactor_B_22
    refine kp_if ?_ ?_
    · refine kp_nm (fun x4_792 _ => ?_)
      refine kp_nm (fun σ6_793 hσ6_793 => ?_)
      have kσ6_793 : KT σ σ6_793 := by rw [hσ6_793]; exact kt_trans (kt_refl _) (kt_lit (by decide))
      refine kp_if ?_ ?_
      · refine kp_nm (fun x13_794 _ => ?_)
        refine kp_bn2 (hR _ _) (fun r14_795 σ14_796 hr14_795 => ?_)
        have kσ14_796 : KT σ σ14_796 := kt_trans kσ6_793 hr14_795
        refine kp_if ?_ ?_
        · exact kp_some kσ14_796
        · refine kp_bn2 (kt_X0_put hL) (fun r16_797 σ16_798 hr16_797 => ?_)
          have kσ16_798 : KT σ σ16_798 := kt_trans kσ14_796 hr16_797
          refine kp_if ?_ ?_
          · exact kp_some kσ16_798
          · exact kp_some kσ16_798
      · refine kp_nm (fun x8_802 _ => ?_)
        refine kp_bn2 (kt_X0_readEither_B hL hR) (fun r9_803 σ9_804 hr9_803 => ?_)
        have kσ9_804 : KT σ σ9_804 := kt_trans kσ6_793 hr9_803
        refine kp_if ?_ ?_
        · exact kp_some kσ9_804
        · refine kp_bn2 (kt_X0_readSign hL) (fun r11_825 σ11_826 hr11_825 => ?_)
          have kσ11_826 : KT σ σ11_826 := kt_trans kσ9_804 hr11_825
          refine kp_if ?_ ?_
          · exact kp_some kσ11_826
          · exact kp_some kσ11_826
    · exact kp_some (kt_refl _)
  · refine kp_if ?_ ?_
    · unfold F_X0_readFactor_B_22
      refine kp_if ?_ ?_
      · refine kp_nm (fun x4_827 _ => ?_)
        refine kp_nm (fun σ6_828 hσ6_828 => ?_)
        have kσ6_828 : KT σ σ6_828 := by rw [hσ6_828]; exact kt_trans (kt_refl _) (kt_lit (by decide))
        refine kp_if ?_ ?_
        · refine kp_nm (fun x13_829 _ => ?_)
          refine kp_bn2 (hR _ _) (fun r14_830 σ14_831 hr14_830 => ?_)
          have kσ14_831 : KT σ σ14_831 := kt_trans kσ6_828 hr14_830
          refine kp_if ?_ ?_
          · exact kp_some kσ14_831
          · refine kp_bn2 (kt_X0_put hL) (fun r16_832 σ16_833 hr16_832 => ?_)
            have kσ16_833 : KT σ σ16_833 := kt_trans kσ14_831 hr16_832
            refine kp_if ?_ ?_
            · exact kp_some kσ16_833
            · exact kp_some kσ16_833
        · refine kp_nm (fun x8_834 _ => ?_)
          refine kp_bn2 (kt_X0_readEither_B hL hR) (fun r9_835 σ9_836 hr9_835 => ?_)
          have kσ9_836 : KT σ σ9_836 := kt_trans kσ6_828 hr9_835
          refine kp_if ?_ ?_
          · exact kp_some kσ9_836
          · refine kp_bn2 (kt_X0_readSign hL) (fun r11_837 σ11_838 hr11_837 => ?_)
            have kσ11_838 : KT σ σ11_838 := kt_trans kσ9_836 hr11_837
            refine kp_if ?_ ?_
            · exact kp_some kσ11_838
            · exact kp_some kσ11_838
      · exact kp_some (kt_refl _)
    · refine kp_bn2 (kt_X0_readTest hL) (fun r19_839 σ19_840 hr19_839 => ?_)
      have kσ19_840 : KT σ σ19_840 := kt_trans (kt_refl _) hr19_839
      refine kp_gd (fun _ => ?_)
      exact kp_some kσ19_840

theorem kt_X0_readFactor_R {N : Nat} {K len : Nat → Nat} {ρ : RG} (hL : Lay N K len ρ) : ∀ (d : Nat) (a1 : Int32) (σ : SG), kp (F_X0_readFactor_R d a1 σ ρ) (fun q => KT σ q.2) := by
  intro d
  induction d with
  | zero => intro a1 σ; exact kp_none
  | succ d ih =>
    intro a1 σ
    exact kt_X0_readFactor_B hL ih

theorem kt_X0_readFactor {N : Nat} {K len : Nat → Nat} {a1 : Int32} {σ : SG} {ρ : RG} (hL : Lay N K len ρ) : kp (F_X0_readFactor a1 σ ρ) (fun q => KT σ q.2) := kt_X0_readFactor_R hL _ _ _

set_option maxRecDepth 100000 in
theorem kt_X0_readBoth_12 {N : Nat} {K len : Nat → Nat} {a1 : Int32} {ρ : RG} (hL : Lay N K len ρ) : ∀ (n : Nat) (σ : SG) (v1 : Int32) (v2 : Int32), kp (F_X0_readBoth_12 a1 n σ ρ v1 v2) (fun q => KT σ q.2) := by
  intro n
  induction n with
  | zero => intro σ v1 v2; exact kp_none
  | succ n ih =>
    intro σ v1 v2
    unfold F_X0_readBoth_12
    refine kp_if ?_ ?_
    · exact kp_some (kt_refl _)
    · refine kp_bx (fun r4_859 => ?_)
      refine kp_if ?_ ?_
      · refine kp_nm (fun x6_860 _ => ?_)
        refine kp_nm (fun σ8_861 hσ8_861 => ?_)
        have kσ8_861 : KT σ σ8_861 := by rw [hσ8_861]; exact kt_trans (kt_refl _) (kt_lit (by decide))
        refine kp_bn2 (kt_X0_readFactor hL) (fun r9_862 σ9_863 hr9_862 => ?_)
        have kσ9_863 : KT σ σ9_863 := kt_trans kσ8_861 hr9_862
        refine kp_if ?_ ?_
        · exact kp_some kσ9_863
        · refine kp_bn2 (kt_X0_put hL) (fun r11_864 σ11_865 hr11_864 => ?_)
          have kσ11_865 : KT σ σ11_865 := kt_trans kσ9_863 hr11_864
          refine kp_if ?_ ?_
          · exact kp_some kσ11_865
          · refine kp_nm (fun x13_866 _ => ?_)
            exact kp_tr2_kt (ih _ _ _) kσ11_865
      · exact kp_some (kt_refl _)

set_option maxRecDepth 100000 in
theorem kt_X0_readBoth {N : Nat} {K len : Nat → Nat} {a1 : Int32} {σ : SG} {ρ : RG} (hL : Lay N K len ρ) : kp (F_X0_readBoth a1 σ ρ) (fun q => KT σ q.2) := by
  unfold F_X0_readBoth
  refine kp_bn2 (kt_X0_readFactor hL) (fun r1_789 σ1_790 hr1_789 => ?_)
  have kσ1_790 : KT σ σ1_790 := kt_trans (kt_refl _) hr1_789
  refine kp_if ?_ ?_
  · exact kp_some kσ1_790
  · exact kp_tr2_kt (kt_X0_readBoth_12 hL 1024 _ _ _) kσ1_790

set_option maxRecDepth 100000 in
theorem kt_X0_readEither_12 {N : Nat} {K len : Nat → Nat} {a1 : Int32} {ρ : RG} (hL : Lay N K len ρ) : ∀ (n : Nat) (σ : SG) (v1 : Int32) (v2 : Int32), kp (F_X0_readEither_12 a1 n σ ρ v1 v2) (fun q => KT σ q.2) := by
  intro n
  induction n with
  | zero => intro σ v1 v2; exact kp_none
  | succ n ih =>
    intro σ v1 v2
    unfold F_X0_readEither_12
    refine kp_if ?_ ?_
    · exact kp_some (kt_refl _)
    · refine kp_bx (fun r4_867 => ?_)
      refine kp_if ?_ ?_
      · refine kp_nm (fun x6_868 _ => ?_)
        refine kp_nm (fun σ8_869 hσ8_869 => ?_)
        have kσ8_869 : KT σ σ8_869 := by rw [hσ8_869]; exact kt_trans (kt_refl _) (kt_lit (by decide))
        refine kp_bn2 (kt_X0_readBoth hL) (fun r9_870 σ9_871 hr9_870 => ?_)
        have kσ9_871 : KT σ σ9_871 := kt_trans kσ8_869 hr9_870
        refine kp_if ?_ ?_
        · exact kp_some kσ9_871
        · refine kp_bn2 (kt_X0_put hL) (fun r11_872 σ11_873 hr11_872 => ?_)
          have kσ11_873 : KT σ σ11_873 := kt_trans kσ9_871 hr11_872
          refine kp_if ?_ ?_
          · exact kp_some kσ11_873
          · refine kp_nm (fun x13_874 _ => ?_)
            exact kp_tr2_kt (ih _ _ _) kσ11_873
      · exact kp_some (kt_refl _)

set_option maxRecDepth 100000 in
theorem kt_X0_readEither {N : Nat} {K len : Nat → Nat} {a1 : Int32} {σ : SG} {ρ : RG} (hL : Lay N K len ρ) : kp (F_X0_readEither a1 σ ρ) (fun q => KT σ q.2) := by
  unfold F_X0_readEither
  refine kp_bn2 (kt_X0_readBoth hL) (fun r1_787 σ1_788 hr1_787 => ?_)
  have kσ1_788 : KT σ σ1_788 := kt_trans (kt_refl _) hr1_787
  refine kp_if ?_ ?_
  · exact kp_some kσ1_788
  · exact kp_tr2_kt (kt_X0_readEither_12 hL 1024 _ _ _) kσ1_788

set_option maxRecDepth 100000 in
theorem kt_X0_readAdding {N : Nat} {K len : Nat → Nat} {a1 : Int32} {σ : SG} {ρ : RG} (hL : Lay N K len ρ) : kp (F_X0_readAdding a1 σ ρ) (fun q => KT σ q.2) := by
  unfold F_X0_readAdding
  refine kp_bn2 (kt_X0_readNumber hL) (fun r1_781 σ1_782 hr1_781 => ?_)
  have kσ1_782 : KT σ σ1_782 := kt_trans (kt_refl _) hr1_781
  refine kp_if ?_ ?_
  · exact kp_some kσ1_782
  · refine kp_bn2 (kt_X0_readSign hL) (fun r3_783 σ3_784 hr3_783 => ?_)
    have kσ3_784 : KT σ σ3_784 := kt_trans kσ1_782 hr3_783
    refine kp_if ?_ ?_
    · exact kp_some kσ3_784
    · refine kp_bn2 (kt_X0_readEither hL) (fun r5_785 σ5_786 hr5_785 => ?_)
      have kσ5_786 : KT σ σ5_786 := kt_trans kσ3_784 hr5_785
      refine kp_if ?_ ?_
      · exact kp_some kσ5_786
      · refine kp_if ?_ ?_
        · refine kp_gd (fun _ => ?_)
          refine kp_gd (fun _ => ?_)
          refine kp_nm (fun σ10_875 hσ10_875 => ?_)
          have kσ10_875 : KT σ σ10_875 := by rw [hσ10_875]; exact kt_trans kσ5_786 (kt_row (by decide))
          refine kp_gd (fun _ => ?_)
          refine kp_nm (fun σ13_876 hσ13_876 => ?_)
          have kσ13_876 : KT σ σ13_876 := by rw [hσ13_876]; exact kt_trans kσ10_875 (kt_row (by decide))
          refine kp_gd (fun _ => ?_)
          refine kp_nm (fun σ16_877 hσ16_877 => ?_)
          have kσ16_877 : KT σ σ16_877 := by rw [hσ16_877]; exact kt_trans kσ13_876 (kt_row (by decide))
          refine kp_nm (fun x17_878 _ => ?_)
          refine kp_nm (fun σ19_879 hσ19_879 => ?_)
          have kσ19_879 : KT σ σ19_879 := by rw [hσ19_879]; exact kt_trans kσ16_877 (kt_lit (by decide))
          exact kp_some kσ19_879
        · exact kp_some kσ5_786

set_option maxRecDepth 100000 in
theorem kt_X0_readClause {N : Nat} {K len : Nat → Nat} {σ : SG} {ρ : RG} (hL : Lay N K len ρ) : kp (F_X0_readClause σ ρ) (fun q => KT σ q.2) := by
  unfold F_X0_readClause
  refine kp_bx (fun r1_747 => ?_)
  refine kp_if ?_ ?_
  · refine kp_bn2 (kt_X0_readWord hL) (fun r3_748 σ3_749 hr3_748 => ?_)
    have kσ3_749 : KT σ σ3_749 := kt_trans (kt_refl _) hr3_748
    refine kp_if ?_ ?_
    · exact kp_some kσ3_749
    · refine kp_bn2 (kt_X0_readNumber hL) (fun r5_758 σ5_759 hr5_758 => ?_)
      have kσ5_759 : KT σ σ5_759 := kt_trans kσ3_749 hr5_758
      refine kp_if ?_ ?_
      · exact kp_some kσ5_759
      · refine kp_nm (fun σ8_776 hσ8_776 => ?_)
        have kσ8_776 : KT σ σ8_776 := by rw [hσ8_776]; exact kt_trans kσ5_759 (kt_lit (by decide))
        exact kp_some kσ8_776
  · refine kp_if ?_ ?_
    · refine kp_bn2 (kt_X0_readWord hL) (fun r9_777 σ9_778 hr9_777 => ?_)
      have kσ9_778 : KT σ σ9_778 := kt_trans (kt_refl _) hr9_777
      refine kp_if ?_ ?_
      · exact kp_some kσ9_778
      · refine kp_bn2 (kt_X0_readAdding hL) (fun r11_779 σ11_780 hr11_779 => ?_)
        have kσ11_780 : KT σ σ11_780 := kt_trans kσ9_778 hr11_779
        refine kp_if ?_ ?_
        · exact kp_some kσ11_780
        · exact kp_some kσ11_780
    · refine kp_if ?_ ?_
      · refine kp_bn2 (kt_X0_readWord hL) (fun r13_880 σ13_881 hr13_880 => ?_)
        have kσ13_881 : KT σ σ13_881 := kt_trans (kt_refl _) hr13_880
        refine kp_if ?_ ?_
        · exact kp_some kσ13_881
        · refine kp_bn2 (kt_X0_readAdding hL) (fun r15_882 σ15_883 hr15_882 => ?_)
          have kσ15_883 : KT σ σ15_883 := kt_trans kσ13_881 hr15_882
          refine kp_if ?_ ?_
          · exact kp_some kσ15_883
          · exact kp_some kσ15_883
      · refine kp_if ?_ ?_
        · refine kp_bn2 (kt_X0_readWord hL) (fun r17_884 σ17_885 hr17_884 => ?_)
          have kσ17_885 : KT σ σ17_885 := kt_trans (kt_refl _) hr17_884
          refine kp_if ?_ ?_
          · exact kp_some kσ17_885
          · refine kp_bn2 (kt_X0_readNumber hL) (fun r19_886 σ19_887 hr19_886 => ?_)
            have kσ19_887 : KT σ σ19_887 := kt_trans kσ17_885 hr19_886
            refine kp_if ?_ ?_
            · exact kp_some kσ19_887
            · refine kp_nm (fun σ22_888 hσ22_888 => ?_)
              have kσ22_888 : KT σ σ22_888 := by rw [hσ22_888]; exact kt_trans kσ19_887 (kt_lit (by decide))
              exact kp_some kσ22_888
        · exact kp_some (kt_refl _)

set_option maxRecDepth 100000 in
theorem kt_X0_readFrom_38 {N : Nat} {K len : Nat → Nat} {a2 : Int32} {ρ : RG} (hL : Lay N K len ρ) : ∀ (n : Nat) (σ : SG) (v3 : Int32), kp (F_X0_readFrom_38 a2 n σ ρ v3) (fun q => KT σ q.2.1) := by
  intro n
  induction n with
  | zero => intro σ v3; exact kp_none
  | succ n ih =>
    intro σ v3
    unfold F_X0_readFrom_38
    refine kp_if ?_ ?_
    · exact kp_some (kt_refl _)
    · refine kp_bn2 (kt_X0_readClause hL) (fun r16_745 σ16_746 hr16_745 => ?_)
      have kσ16_746 : KT σ σ16_746 := kt_trans (kt_refl _) hr16_745
      refine kp_if ?_ ?_
      · exact kp_some kσ16_746
      · refine kp_if ?_ ?_
        · exact kp_some kσ16_746
        · refine kp_nm (fun x19_889 _ => ?_)
          refine kp_if ?_ ?_
          · exact kp_some kσ16_746
          · refine kp_bn2 (kt_X0_readSign hL) (fun r21_890 σ21_891 hr21_890 => ?_)
            have kσ21_891 : KT σ σ21_891 := kt_trans kσ16_746 hr21_890
            refine kp_if ?_ ?_
            · exact kp_some kσ21_891
            · refine kp_nm (fun x23_892 _ => ?_)
              exact kp_tr3_kt (ih _ _) kσ21_891

set_option maxRecDepth 100000 in
theorem kt_X0_readFrom {N : Nat} {K len : Nat → Nat} {a2 : Int32} {σ : SG} {ρ : RG} (hL : Lay N K len ρ) : kp (F_X0_readFrom a2 σ ρ) (fun q => KT σ q.2.1) := by
  unfold F_X0_readFrom
  refine kp_nm (fun ρ2_738 hρ2_738 => ?_)
  have hL : Lay N K len ρ2_738 := by rw [hρ2_738]; exact ly_put hL _ (by decide)
  refine kp_nm (fun σ4_739 hσ4_739 => ?_)
  have kσ4_739 : KT σ σ4_739 := by rw [hσ4_739]; exact kt_trans (kt_refl _) (kt_lit (by decide))
  refine kp_nm (fun σ6_740 hσ6_740 => ?_)
  have kσ6_740 : KT σ σ6_740 := by rw [hσ6_740]; exact kt_trans kσ4_739 (kt_lit (by decide))
  refine kp_nm (fun σ8_741 hσ8_741 => ?_)
  have kσ8_741 : KT σ σ8_741 := by rw [hσ8_741]; exact kt_trans kσ6_740 (kt_lit (by decide))
  refine kp_nm (fun σ10_742 hσ10_742 => ?_)
  have kσ10_742 : KT σ σ10_742 := by rw [hσ10_742]; exact kt_trans kσ8_741 (kt_lit (by decide))
  refine kp_nm (fun σ12_743 hσ12_743 => ?_)
  have kσ12_743 : KT σ σ12_743 := by rw [hσ12_743]; exact kt_trans kσ10_742 (kt_lit (by decide))
  refine kp_nm (fun σ14_744 hσ14_744 => ?_)
  have kσ14_744 : KT σ σ14_744 := by rw [hσ14_744]; exact kt_trans kσ12_743 (kt_lit (by decide))
  exact kp_tr3_kt (kt_X0_readFrom_38 hL 1024 _ _) kσ14_744

set_option maxRecDepth 100000 in
theorem kt_X0_takes_5_29 {N : Nat} {K len : Nat → Nat} {σ : SG} {ρ : RG} (hL : Lay N K len ρ) : kp (F_X0_takes_5_29 σ ρ) (fun q => KT σ q) := by
  unfold F_X0_takes_5_29
  refine kp_nm (fun σ2_893 hσ2_893 => ?_)
  have kσ2_893 : KT σ σ2_893 := by rw [hσ2_893]; exact kt_trans (kt_refl _) (kt_lit (by decide))
  refine kp_nm (fun σ4_894 hσ4_894 => ?_)
  have kσ4_894 : KT σ σ4_894 := by rw [hσ4_894]; exact kt_trans kσ2_893 (kt_lit (by decide))
  refine kp_nm (fun σ6_895 hσ6_895 => ?_)
  have kσ6_895 : KT σ σ6_895 := by rw [hσ6_895]; exact kt_trans kσ4_894 (kt_lit (by decide))
  refine kp_nm (fun σ8_896 hσ8_896 => ?_)
  have kσ8_896 : KT σ σ8_896 := by rw [hσ8_896]; exact kt_trans kσ6_895 (kt_lit (by decide))
  refine kp_gd (fun _ => ?_)
  refine kp_nm (fun σ9_897 hσ9_897 => ?_)
  have kσ9_897 : KT σ σ9_897 := by rw [hσ9_897]; exact kt_trans kσ8_896 (kt_cpy (by decide))
  refine kp_nm (fun σ10_898 hσ10_898 => ?_)
  have kσ10_898 : KT σ σ10_898 := by rw [hσ10_898]; exact kt_trans kσ9_897 (kt_cpy (by decide))
  refine kp_nm (fun σ11_899 hσ11_899 => ?_)
  have kσ11_899 : KT σ σ11_899 := by rw [hσ11_899]; exact kt_trans kσ10_898 (kt_cpy (by decide))
  refine kp_nm (fun σ12_900 hσ12_900 => ?_)
  have kσ12_900 : KT σ σ12_900 := by rw [hσ12_900]; exact kt_trans kσ11_899 (kt_cpy (by decide))
  exact kp_some kσ12_900
/-- the reference's trace -/
def ksP (r k : Nat) : Bool := (r == 54 && k == 30) || r == 64
def ksR (r : Nat) : Bool := r == 54 || r == 64
def KS (σ σ' : SG) : Prop := ∀ r k, ksP r k = true → σ' r k = σ r k
theorem ks_refl (σ : SG) : KS σ σ := fun _ _ _ => rfl
theorem ks_trans {σ σ1 σ2 : SG} (h : KS σ σ1) (h' : KS σ1 σ2) : KS σ σ2 := fun r k p => (h' r k p).trans (h r k p)
theorem ks_lit {σ : SG} {r k : Nat} {v : Int32} (h : ksP r k = false) : KS σ (s2 σ r k v) := fun a b p => by
  rw [s2_at]
  by_cases e : a = r
  · by_cases e' : b = k
    · rw [e, e', h] at p; cases p
    · rw [if_pos e, if_neg e', e]
  · rw [if_neg e]
theorem ks_rows {r k : Nat} (h : ksR r = false) : ksP r k = false := by
  cases e : ksP r k with
  | false => rfl
  | true =>
    exfalso
    simp only [ksP, ksR, Bool.or_eq_true, Bool.and_eq_true, Bool.or_eq_false_iff, beq_iff_eq, beq_eq_false_iff_ne] at e h
    omega
theorem ks_row {σ : SG} {r k : Nat} {v : Int32} (h : ksR r = false) : KS σ (s2 σ r k v) := ks_lit (ks_rows h)
theorem ks_cpy {σ : SG} {a r n : Nat} (h : ksR r = false) : KS σ (cpy σ a r n) := fun x b p => by
  rw [cpy_at]
  by_cases e : x = r
  · rw [e, ks_rows h] at p; cases p
  · rw [if_neg e]
theorem kp_tr_ks {o : Option SG} {σ σ1 : SG} (h : kp o (fun q => KS σ1 q)) (k : KS σ σ1) : kp o (fun q => KS σ q) := kp_mono h (fun _ z => ks_trans k z)
theorem kp_tr2_ks {α : Type} {o : Option (α × SG)} {σ σ1 : SG} (h : kp o (fun q => KS σ1 q.2)) (k : KS σ σ1) : kp o (fun q => KS σ q.2) := kp_mono h (fun _ z => ks_trans k z)
theorem kp_tr3_ks {α β : Type} {o : Option (α × SG × β)} {σ σ1 : SG} (h : kp o (fun q => KS σ1 q.2.1)) (k : KS σ σ1) : kp o (fun q => KS σ q.2.1) := kp_mono h (fun _ z => ks_trans k z)
set_option maxRecDepth 100000 in
theorem ks_X12_feed {N : Nat} {K len : Nat → Nat} {a1 : Int32} {σ : SG} {ρ : RG} (hL : Lay N K len ρ) : kp (F_X12_feed a1 σ ρ) (fun q => KS σ q.2) := by
  unfold F_X12_feed
  refine kp_bx (fun r1_1 => ?_)
  refine kp_if ?_ ?_
  · exact kp_some (ks_refl _)
  · refine kp_if ?_ ?_
    · exact kp_some (ks_refl _)
    · refine kp_nm (fun x4_2 _ => ?_)
      refine kp_gd (fun _ => ?_)
      refine kp_nm (fun σ7_3 hσ7_3 => ?_)
      have kσ7_3 : KS σ σ7_3 := by rw [hσ7_3]; exact ks_trans (ks_refl _) (ks_row (by decide))
      refine kp_nm (fun x8_4 _ => ?_)
      refine kp_nm (fun σ10_5 hσ10_5 => ?_)
      have kσ10_5 : KS σ σ10_5 := by rw [hσ10_5]; exact ks_trans kσ7_3 (ks_lit (by decide))
      exact kp_some kσ10_5

set_option maxRecDepth 100000 in
theorem ks_X12_thick {N : Nat} {K len : Nat → Nat} {a1 : Int32} {a2 : Int32} {σ : SG} {ρ : RG} (hL : Lay N K len ρ) : kp (F_X12_thick a1 a2 σ ρ) (fun q => KS σ q.2) := by
  unfold F_X12_thick
  refine kp_bx (fun r1_6 => ?_)
  refine kp_if ?_ ?_
  · exact kp_some (ks_refl _)
  · refine kp_bx (fun r3_7 => ?_)
    refine kp_if ?_ ?_
    · exact kp_some (ks_refl _)
    · refine kp_nm (fun x5_8 _ => ?_)
      refine kp_gd (fun _ => ?_)
      refine kp_nm (fun x7_9 _ => ?_)
      refine kp_gd (fun _ => ?_)
      refine kp_nm (fun σ10_10 hσ10_10 => ?_)
      have kσ10_10 : KS σ σ10_10 := by rw [hσ10_10]; exact ks_trans (ks_refl _) (ks_row (by decide))
      exact kp_some kσ10_10

set_option maxRecDepth 100000 in
theorem ks_X12_row {N : Nat} {K len : Nat → Nat} {a1 : Int32} {a2 : Int32} {a3 : Int32} {σ : SG} {ρ : RG} (hL : Lay N K len ρ) : kp (F_X12_row a1 a2 a3 σ ρ) (fun q => KS σ q.2) := by
  unfold F_X12_row
  refine kp_bx (fun r1_11 => ?_)
  refine kp_if ?_ ?_
  · exact kp_some (ks_refl _)
  · refine kp_bx (fun r3_12 => ?_)
    refine kp_if ?_ ?_
    · exact kp_some (ks_refl _)
    · refine kp_bx (fun r5_13 => ?_)
      refine kp_if ?_ ?_
      · exact kp_some (ks_refl _)
      · refine kp_nm (fun x7_14 _ => ?_)
        refine kp_gd (fun _ => ?_)
        refine kp_if ?_ ?_
        · refine kp_nm (fun x10_15 _ => ?_)
          refine kp_nm (fun x11_16 _ => ?_)
          refine kp_nm (fun x12_17 _ => ?_)
          refine kp_gd (fun _ => ?_)
          refine kp_nm (fun x14_18 _ => ?_)
          refine kp_nm (fun x15_19 _ => ?_)
          refine kp_nm (fun x16_20 _ => ?_)
          refine kp_gd (fun _ => ?_)
          refine kp_nm (fun σ19_21 hσ19_21 => ?_)
          have kσ19_21 : KS σ σ19_21 := by rw [hσ19_21]; exact ks_trans (ks_refl _) (ks_row (by decide))
          exact kp_some kσ19_21
        · exact kp_some (ks_refl _)

set_option maxRecDepth 100000 in
theorem ks_X12_loaf {N : Nat} {K len : Nat → Nat} {a1 : Int32} {σ : SG} {ρ : RG} (hL : Lay N K len ρ) : kp (F_X12_loaf a1 σ ρ) (fun q => KS σ q.2) := by
  unfold F_X12_loaf
  refine kp_bx (fun r1_22 => ?_)
  refine kp_if ?_ ?_
  · exact kp_some (ks_refl _)
  · refine kp_nm (fun σ4_23 hσ4_23 => ?_)
    have kσ4_23 : KS σ σ4_23 := by rw [hσ4_23]; exact ks_trans (ks_refl _) (ks_lit (by decide))
    refine kp_nm (fun σ6_24 hσ6_24 => ?_)
    have kσ6_24 : KS σ σ6_24 := by rw [hσ6_24]; exact ks_trans kσ4_23 (ks_lit (by decide))
    refine kp_nm (fun σ8_25 hσ8_25 => ?_)
    have kσ8_25 : KS σ σ8_25 := by rw [hσ8_25]; exact ks_trans kσ6_24 (ks_lit (by decide))
    refine kp_nm (fun σ10_26 hσ10_26 => ?_)
    have kσ10_26 : KS σ σ10_26 := by rw [hσ10_26]; exact ks_trans kσ8_25 (ks_lit (by decide))
    refine kp_nm (fun σ12_27 hσ12_27 => ?_)
    have kσ12_27 : KS σ σ12_27 := by rw [hσ12_27]; exact ks_trans kσ10_26 (ks_lit (by decide))
    refine kp_nm (fun σ14_28 hσ14_28 => ?_)
    have kσ14_28 : KS σ σ14_28 := by rw [hσ14_28]; exact ks_trans kσ12_27 (ks_lit (by decide))
    exact kp_some kσ14_28

set_option maxRecDepth 100000 in
theorem ks_X12_looks_117 {N : Nat} {K len : Nat → Nat} {a1 : Int32} {a2 : Int32} {ρ : RG} (hL : Lay N K len ρ) : ∀ (n : Nat) (σ : SG) (v3 : Int32) (v4 : Int32) (v5 : Int32) (v6 : Int32), kp (F_X12_looks_117 a1 a2 n σ ρ v3 v4 v5 v6) (fun q => KS σ q) := by
  intro n
  induction n with
  | zero => intro σ v3 v4 v5 v6; exact kp_none
  | succ n ih =>
    intro σ v3 v4 v5 v6
    unfold F_X12_looks_117
    refine kp_nm (fun x25_49 _ => ?_)
    refine kp_if ?_ ?_
    · exact kp_some (ks_refl _)
    · refine kp_gd (fun _ => ?_)
      refine kp_if ?_ ?_
      · refine kp_if ?_ ?_
        · refine kp_nm (fun x60_50 _ => ?_)
          refine kp_nm (fun x61_51 _ => ?_)
          refine kp_gd (fun _ => ?_)
          refine kp_if ?_ ?_
          · unfold F_X12_looks_265
            refine kp_gd (fun _ => ?_)
            refine kp_gd (fun _ => ?_)
            refine kp_nm (fun σ66_52 hσ66_52 => ?_)
            have kσ66_52 : KS σ σ66_52 := by rw [hσ66_52]; exact ks_trans (ks_refl _) (ks_row (by decide))
            unfold F_X12_looks_429
            refine kp_nm (fun x39_53 _ => ?_)
            exact kp_tr_ks (ih _ _ _ _ _) kσ66_52
          · unfold F_X12_looks_265
            refine kp_gd (fun _ => ?_)
            refine kp_gd (fun _ => ?_)
            refine kp_nm (fun σ66_54 hσ66_54 => ?_)
            have kσ66_54 : KS σ σ66_54 := by rw [hσ66_54]; exact ks_trans (ks_refl _) (ks_row (by decide))
            unfold F_X12_looks_429
            refine kp_nm (fun x39_55 _ => ?_)
            exact kp_tr_ks (ih _ _ _ _ _) kσ66_54
        · refine kp_if ?_ ?_
          · refine kp_if ?_ ?_
            · unfold F_X12_looks_392
              unfold F_X12_looks_393
              refine kp_nm (fun x32_56 _ => ?_)
              refine kp_nm (fun σ34_57 hσ34_57 => ?_)
              have kσ34_57 : KS σ σ34_57 := by rw [hσ34_57]; exact ks_trans (ks_refl _) (ks_lit (by decide))
              refine kp_if ?_ ?_
              · unfold F_X12_looks_424
                unfold F_X12_looks_425
                refine kp_nm (fun x36_58 _ => ?_)
                refine kp_nm (fun σ38_59 hσ38_59 => ?_)
                have kσ38_59 : KS σ σ38_59 := by rw [hσ38_59]; exact ks_trans kσ34_57 (ks_lit (by decide))
                unfold F_X12_looks_429
                refine kp_nm (fun x39_60 _ => ?_)
                exact kp_tr_ks (ih _ _ _ _ _) kσ38_59
              · refine kp_if ?_ ?_
                · unfold F_X12_looks_424
                  unfold F_X12_looks_425
                  refine kp_nm (fun x36_61 _ => ?_)
                  refine kp_nm (fun σ38_62 hσ38_62 => ?_)
                  have kσ38_62 : KS σ σ38_62 := by rw [hσ38_62]; exact ks_trans kσ34_57 (ks_lit (by decide))
                  unfold F_X12_looks_429
                  refine kp_nm (fun x39_63 _ => ?_)
                  exact kp_tr_ks (ih _ _ _ _ _) kσ38_62
                · refine kp_nm (fun x41_64 _ => ?_)
                  unfold F_X12_looks_425
                  refine kp_nm (fun x36_65 _ => ?_)
                  refine kp_nm (fun σ38_66 hσ38_66 => ?_)
                  have kσ38_66 : KS σ σ38_66 := by rw [hσ38_66]; exact ks_trans kσ34_57 (ks_lit (by decide))
                  unfold F_X12_looks_429
                  refine kp_nm (fun x39_67 _ => ?_)
                  exact kp_tr_ks (ih _ _ _ _ _) kσ38_66
            · refine kp_if ?_ ?_
              · unfold F_X12_looks_392
                unfold F_X12_looks_393
                refine kp_nm (fun x32_68 _ => ?_)
                refine kp_nm (fun σ34_69 hσ34_69 => ?_)
                have kσ34_69 : KS σ σ34_69 := by rw [hσ34_69]; exact ks_trans (ks_refl _) (ks_lit (by decide))
                refine kp_if ?_ ?_
                · unfold F_X12_looks_424
                  unfold F_X12_looks_425
                  refine kp_nm (fun x36_70 _ => ?_)
                  refine kp_nm (fun σ38_71 hσ38_71 => ?_)
                  have kσ38_71 : KS σ σ38_71 := by rw [hσ38_71]; exact ks_trans kσ34_69 (ks_lit (by decide))
                  unfold F_X12_looks_429
                  refine kp_nm (fun x39_72 _ => ?_)
                  exact kp_tr_ks (ih _ _ _ _ _) kσ38_71
                · refine kp_if ?_ ?_
                  · unfold F_X12_looks_424
                    unfold F_X12_looks_425
                    refine kp_nm (fun x36_73 _ => ?_)
                    refine kp_nm (fun σ38_74 hσ38_74 => ?_)
                    have kσ38_74 : KS σ σ38_74 := by rw [hσ38_74]; exact ks_trans kσ34_69 (ks_lit (by decide))
                    unfold F_X12_looks_429
                    refine kp_nm (fun x39_75 _ => ?_)
                    exact kp_tr_ks (ih _ _ _ _ _) kσ38_74
                  · refine kp_nm (fun x41_76 _ => ?_)
                    unfold F_X12_looks_425
                    refine kp_nm (fun x36_77 _ => ?_)
                    refine kp_nm (fun σ38_78 hσ38_78 => ?_)
                    have kσ38_78 : KS σ σ38_78 := by rw [hσ38_78]; exact ks_trans kσ34_69 (ks_lit (by decide))
                    unfold F_X12_looks_429
                    refine kp_nm (fun x39_79 _ => ?_)
                    exact kp_tr_ks (ih _ _ _ _ _) kσ38_78
              · refine kp_nm (fun x43_80 _ => ?_)
                unfold F_X12_looks_393
                refine kp_nm (fun x32_81 _ => ?_)
                refine kp_nm (fun σ34_82 hσ34_82 => ?_)
                have kσ34_82 : KS σ σ34_82 := by rw [hσ34_82]; exact ks_trans (ks_refl _) (ks_lit (by decide))
                refine kp_if ?_ ?_
                · unfold F_X12_looks_424
                  unfold F_X12_looks_425
                  refine kp_nm (fun x36_83 _ => ?_)
                  refine kp_nm (fun σ38_84 hσ38_84 => ?_)
                  have kσ38_84 : KS σ σ38_84 := by rw [hσ38_84]; exact ks_trans kσ34_82 (ks_lit (by decide))
                  unfold F_X12_looks_429
                  refine kp_nm (fun x39_85 _ => ?_)
                  exact kp_tr_ks (ih _ _ _ _ _) kσ38_84
                · refine kp_if ?_ ?_
                  · unfold F_X12_looks_424
                    unfold F_X12_looks_425
                    refine kp_nm (fun x36_86 _ => ?_)
                    refine kp_nm (fun σ38_87 hσ38_87 => ?_)
                    have kσ38_87 : KS σ σ38_87 := by rw [hσ38_87]; exact ks_trans kσ34_82 (ks_lit (by decide))
                    unfold F_X12_looks_429
                    refine kp_nm (fun x39_88 _ => ?_)
                    exact kp_tr_ks (ih _ _ _ _ _) kσ38_87
                  · refine kp_nm (fun x41_89 _ => ?_)
                    unfold F_X12_looks_425
                    refine kp_nm (fun x36_90 _ => ?_)
                    refine kp_nm (fun σ38_91 hσ38_91 => ?_)
                    have kσ38_91 : KS σ σ38_91 := by rw [hσ38_91]; exact ks_trans kσ34_82 (ks_lit (by decide))
                    unfold F_X12_looks_429
                    refine kp_nm (fun x39_92 _ => ?_)
                    exact kp_tr_ks (ih _ _ _ _ _) kσ38_91
          · refine kp_nm (fun x44_93 _ => ?_)
            refine kp_nm (fun x45_94 _ => ?_)
            refine kp_if ?_ ?_
            · refine kp_nm (fun x55_95 _ => ?_)
              refine kp_gd (fun _ => ?_)
              refine kp_if ?_ ?_
              · unfold F_X12_looks_320
                unfold F_X12_looks_351
                refine kp_gd (fun _ => ?_)
                refine kp_gd (fun _ => ?_)
                refine kp_nm (fun σ52_96 hσ52_96 => ?_)
                have kσ52_96 : KS σ σ52_96 := by rw [hσ52_96]; exact ks_trans (ks_refl _) (ks_row (by decide))
                unfold F_X12_looks_429
                refine kp_nm (fun x39_97 _ => ?_)
                exact kp_tr_ks (ih _ _ _ _ _) kσ52_96
              · refine kp_gd (fun _ => ?_)
                refine kp_if ?_ ?_
                · unfold F_X12_looks_320
                  unfold F_X12_looks_351
                  refine kp_gd (fun _ => ?_)
                  refine kp_gd (fun _ => ?_)
                  refine kp_nm (fun σ52_98 hσ52_98 => ?_)
                  have kσ52_98 : KS σ σ52_98 := by rw [hσ52_98]; exact ks_trans (ks_refl _) (ks_row (by decide))
                  unfold F_X12_looks_429
                  refine kp_nm (fun x39_99 _ => ?_)
                  exact kp_tr_ks (ih _ _ _ _ _) kσ52_98
                · unfold F_X12_looks_351
                  refine kp_gd (fun _ => ?_)
                  refine kp_gd (fun _ => ?_)
                  refine kp_nm (fun σ52_100 hσ52_100 => ?_)
                  have kσ52_100 : KS σ σ52_100 := by rw [hσ52_100]; exact ks_trans (ks_refl _) (ks_row (by decide))
                  unfold F_X12_looks_429
                  refine kp_nm (fun x39_101 _ => ?_)
                  exact kp_tr_ks (ih _ _ _ _ _) kσ52_100
            · refine kp_nm (fun x47_102 _ => ?_)
              refine kp_gd (fun _ => ?_)
              refine kp_if ?_ ?_
              · refine kp_gd (fun _ => ?_)
                refine kp_if ?_ ?_
                · unfold F_X12_looks_351
                  refine kp_gd (fun _ => ?_)
                  refine kp_gd (fun _ => ?_)
                  refine kp_nm (fun σ52_103 hσ52_103 => ?_)
                  have kσ52_103 : KS σ σ52_103 := by rw [hσ52_103]; exact ks_trans (ks_refl _) (ks_row (by decide))
                  unfold F_X12_looks_429
                  refine kp_nm (fun x39_104 _ => ?_)
                  exact kp_tr_ks (ih _ _ _ _ _) kσ52_103
                · unfold F_X12_looks_346
                  unfold F_X12_looks_351
                  refine kp_gd (fun _ => ?_)
                  refine kp_gd (fun _ => ?_)
                  refine kp_nm (fun σ52_105 hσ52_105 => ?_)
                  have kσ52_105 : KS σ σ52_105 := by rw [hσ52_105]; exact ks_trans (ks_refl _) (ks_row (by decide))
                  unfold F_X12_looks_429
                  refine kp_nm (fun x39_106 _ => ?_)
                  exact kp_tr_ks (ih _ _ _ _ _) kσ52_105
              · unfold F_X12_looks_346
                unfold F_X12_looks_351
                refine kp_gd (fun _ => ?_)
                refine kp_gd (fun _ => ?_)
                refine kp_nm (fun σ52_107 hσ52_107 => ?_)
                have kσ52_107 : KS σ σ52_107 := by rw [hσ52_107]; exact ks_trans (ks_refl _) (ks_row (by decide))
                unfold F_X12_looks_429
                refine kp_nm (fun x39_108 _ => ?_)
                exact kp_tr_ks (ih _ _ _ _ _) kσ52_107
      · refine kp_nm (fun x67_109 _ => ?_)
        refine kp_gd (fun _ => ?_)
        refine kp_nm (fun x69_110 _ => ?_)
        refine kp_nm (fun x70_111 _ => ?_)
        refine kp_nm (fun x71_112 _ => ?_)
        refine kp_if ?_ ?_
        · refine kp_if ?_ ?_
          · unfold F_X12_looks_227
            refine kp_gd (fun _ => ?_)
            refine kp_gd (fun _ => ?_)
            refine kp_nm (fun σ77_113 hσ77_113 => ?_)
            have kσ77_113 : KS σ σ77_113 := by rw [hσ77_113]; exact ks_trans (ks_refl _) (ks_row (by decide))
            refine kp_nm (fun x78_114 _ => ?_)
            unfold F_X12_looks_429
            refine kp_nm (fun x39_115 _ => ?_)
            exact kp_tr_ks (ih _ _ _ _ _) kσ77_113
          · unfold F_X12_looks_227
            refine kp_gd (fun _ => ?_)
            refine kp_gd (fun _ => ?_)
            refine kp_nm (fun σ77_116 hσ77_116 => ?_)
            have kσ77_116 : KS σ σ77_116 := by rw [hσ77_116]; exact ks_trans (ks_refl _) (ks_row (by decide))
            refine kp_nm (fun x78_117 _ => ?_)
            unfold F_X12_looks_429
            refine kp_nm (fun x39_118 _ => ?_)
            exact kp_tr_ks (ih _ _ _ _ _) kσ77_116
        · refine kp_if ?_ ?_
          · refine kp_if ?_ ?_
            · unfold F_X12_looks_227
              refine kp_gd (fun _ => ?_)
              refine kp_gd (fun _ => ?_)
              refine kp_nm (fun σ77_119 hσ77_119 => ?_)
              have kσ77_119 : KS σ σ77_119 := by rw [hσ77_119]; exact ks_trans (ks_refl _) (ks_row (by decide))
              refine kp_nm (fun x78_120 _ => ?_)
              unfold F_X12_looks_429
              refine kp_nm (fun x39_121 _ => ?_)
              exact kp_tr_ks (ih _ _ _ _ _) kσ77_119
            · unfold F_X12_looks_227
              refine kp_gd (fun _ => ?_)
              refine kp_gd (fun _ => ?_)
              refine kp_nm (fun σ77_122 hσ77_122 => ?_)
              have kσ77_122 : KS σ σ77_122 := by rw [hσ77_122]; exact ks_trans (ks_refl _) (ks_row (by decide))
              refine kp_nm (fun x78_123 _ => ?_)
              unfold F_X12_looks_429
              refine kp_nm (fun x39_124 _ => ?_)
              exact kp_tr_ks (ih _ _ _ _ _) kσ77_122
          · refine kp_if ?_ ?_
            · unfold F_X12_looks_227
              refine kp_gd (fun _ => ?_)
              refine kp_gd (fun _ => ?_)
              refine kp_nm (fun σ77_125 hσ77_125 => ?_)
              have kσ77_125 : KS σ σ77_125 := by rw [hσ77_125]; exact ks_trans (ks_refl _) (ks_row (by decide))
              refine kp_nm (fun x78_126 _ => ?_)
              unfold F_X12_looks_429
              refine kp_nm (fun x39_127 _ => ?_)
              exact kp_tr_ks (ih _ _ _ _ _) kσ77_125
            · unfold F_X12_looks_227
              refine kp_gd (fun _ => ?_)
              refine kp_gd (fun _ => ?_)
              refine kp_nm (fun σ77_128 hσ77_128 => ?_)
              have kσ77_128 : KS σ σ77_128 := by rw [hσ77_128]; exact ks_trans (ks_refl _) (ks_row (by decide))
              refine kp_nm (fun x78_129 _ => ?_)
              unfold F_X12_looks_429
              refine kp_nm (fun x39_130 _ => ?_)
              exact kp_tr_ks (ih _ _ _ _ _) kσ77_128

set_option maxRecDepth 100000 in
theorem ks_X12_looks {N : Nat} {K len : Nat → Nat} {a1 : Int32} {a2 : Int32} {σ : SG} {ρ : RG} (hL : Lay N K len ρ) : kp (F_X12_looks a1 a2 σ ρ) (fun q => KS σ q) := by
  unfold F_X12_looks
  refine kp_nm (fun σ2_34 hσ2_34 => ?_)
  have kσ2_34 : KS σ σ2_34 := by rw [hσ2_34]; exact ks_trans (ks_refl _) (ks_lit (by decide))
  refine kp_nm (fun x3_35 _ => ?_)
  refine kp_gd (fun _ => ?_)
  refine kp_nm (fun σ6_36 hσ6_36 => ?_)
  have kσ6_36 : KS σ σ6_36 := by rw [hσ6_36]; exact ks_trans kσ2_34 (ks_lit (by decide))
  refine kp_nm (fun σ8_37 hσ8_37 => ?_)
  have kσ8_37 : KS σ σ8_37 := by rw [hσ8_37]; exact ks_trans kσ6_36 (ks_lit (by decide))
  refine kp_bx (fun r9_38 => ?_)
  refine kp_nm (fun σ11_39 hσ11_39 => ?_)
  have kσ11_39 : KS σ σ11_39 := by rw [hσ11_39]; exact ks_trans kσ8_37 (ks_lit (by decide))
  refine kp_nm (fun x12_40 _ => ?_)
  refine kp_nm (fun σ14_41 hσ14_41 => ?_)
  have kσ14_41 : KS σ σ14_41 := by rw [hσ14_41]; exact ks_trans kσ11_39 (ks_lit (by decide))
  refine kp_nm (fun x15_42 _ => ?_)
  refine kp_nm (fun σ17_43 hσ17_43 => ?_)
  have kσ17_43 : KS σ σ17_43 := by rw [hσ17_43]; exact ks_trans kσ14_41 (ks_lit (by decide))
  refine kp_nm (fun σ19_44 hσ19_44 => ?_)
  have kσ19_44 : KS σ σ19_44 := by rw [hσ19_44]; exact ks_trans kσ17_43 (ks_lit (by decide))
  refine kp_nm (fun σ21_45 hσ21_45 => ?_)
  have kσ21_45 : KS σ σ21_45 := by rw [hσ21_45]; exact ks_trans kσ19_44 (ks_lit (by decide))
  refine kp_bx (fun r22_46 => ?_)
  refine kp_nm (fun x23_47 _ => ?_)
  refine kp_nm (fun x24_48 _ => ?_)
  exact kp_tr_ks (ks_X12_looks_117 hL 1024 _ _ _ _ _) kσ21_45

set_option maxRecDepth 100000 in
theorem ks_X12_rights {N : Nat} {K len : Nat → Nat} {σ : SG} {ρ : RG} (hL : Lay N K len ρ) : kp (F_X12_rights σ ρ) (fun q => KS σ q) := by
  unfold F_X12_rights
  refine kp_bx (fun r1_133 => ?_)
  refine kp_nm (fun x2_134 _ => ?_)
  refine kp_nm (fun x3_135 _ => ?_)
  refine kp_nm (fun x4_136 _ => ?_)
  refine kp_nm (fun σ6_137 hσ6_137 => ?_)
  have kσ6_137 : KS σ σ6_137 := by rw [hσ6_137]; exact ks_trans (ks_refl _) (ks_lit (by decide))
  refine kp_nm (fun σ8_138 hσ8_138 => ?_)
  have kσ8_138 : KS σ σ8_138 := by rw [hσ8_138]; exact ks_trans kσ6_137 (ks_lit (by decide))
  refine kp_nm (fun σ10_139 hσ10_139 => ?_)
  have kσ10_139 : KS σ σ10_139 := by rw [hσ10_139]; exact ks_trans kσ8_138 (ks_lit (by decide))
  refine kp_nm (fun σ12_140 hσ12_140 => ?_)
  have kσ12_140 : KS σ σ12_140 := by rw [hσ12_140]; exact ks_trans kσ10_139 (ks_lit (by decide))
  exact kp_some kσ12_140

set_option maxRecDepth 100000 in
theorem ks_X12_cuts_305 {N : Nat} {K len : Nat → Nat} {a1 : Int32} {a2 : Int32} {ρ : RG} (hL : Lay N K len ρ) : ∀ (n : Nat) (σ : SG) (v1 : Int32) (v7 : Int32) (v9 : Int32) (v10 : Int32) (v11 : Int32), kp (F_X12_cuts_305 a1 a2 n σ ρ v1 v7 v9 v10 v11) (fun q => KS σ q.2) := by
  intro n
  induction n with
  | zero => intro σ v1 v7 v9 v10 v11; exact kp_none
  | succ n ih =>
    intro σ v1 v7 v9 v10 v11
    unfold F_X12_cuts_305
    refine kp_if ?_ ?_
    · refine kp_nm (fun σ35_166 hσ35_166 => ?_)
      have kσ35_166 : KS σ σ35_166 := by rw [hσ35_166]; exact ks_trans (ks_refl _) (ks_lit (by decide))
      refine kp_nm (fun σ37_167 hσ37_167 => ?_)
      have kσ37_167 : KS σ σ37_167 := by rw [hσ37_167]; exact ks_trans kσ35_166 (ks_lit (by decide))
      refine kp_nm (fun σ39_168 hσ39_168 => ?_)
      have kσ39_168 : KS σ σ39_168 := by rw [hσ39_168]; exact ks_trans kσ37_167 (ks_lit (by decide))
      refine kp_nm (fun x40_169 _ => ?_)
      refine kp_gd (fun _ => ?_)
      refine kp_nm (fun x42_170 _ => ?_)
      refine kp_gd (fun _ => ?_)
      refine kp_nm (fun σ45_171 hσ45_171 => ?_)
      have kσ45_171 : KS σ σ45_171 := by rw [hσ45_171]; exact ks_trans kσ39_168 (ks_row (by decide))
      refine kp_nm (fun x46_172 _ => ?_)
      refine kp_nm (fun σ48_173 hσ48_173 => ?_)
      have kσ48_173 : KS σ σ48_173 := by rw [hσ48_173]; exact ks_trans kσ45_171 (ks_lit (by decide))
      exact kp_some kσ48_173
    · refine kp_bx (fun r49_174 => ?_)
      refine kp_bx (fun r50_175 => ?_)
      refine kp_nm (fun x51_176 _ => ?_)
      refine kp_if ?_ ?_
      · unfold F_X12_cuts_359
        refine kp_nm (fun x53_177 _ => ?_)
        refine kp_nm (fun σ55_178 hσ55_178 => ?_)
        have kσ55_178 : KS σ σ55_178 := by rw [hσ55_178]; exact ks_trans (ks_refl _) (ks_lit (by decide))
        refine kp_if ?_ ?_
        · unfold F_X12_cuts_391
          refine kp_nm (fun σ58_179 hσ58_179 => ?_)
          have kσ58_179 : KS σ σ58_179 := by rw [hσ58_179]; exact ks_trans kσ55_178 (ks_lit (by decide))
          refine kp_if ?_ ?_
          · unfold F_X12_cuts_413
            refine kp_nm (fun σ61_180 hσ61_180 => ?_)
            have kσ61_180 : KS σ σ61_180 := by rw [hσ61_180]; exact ks_trans kσ58_179 (ks_lit (by decide))
            refine kp_nm (fun x62_181 _ => ?_)
            exact kp_tr2_ks (ih _ _ _ _ _ _) kσ61_180
          · unfold F_X12_cuts_413
            refine kp_nm (fun σ61_182 hσ61_182 => ?_)
            have kσ61_182 : KS σ σ61_182 := by rw [hσ61_182]; exact ks_trans kσ58_179 (ks_lit (by decide))
            refine kp_nm (fun x62_183 _ => ?_)
            exact kp_tr2_ks (ih _ _ _ _ _ _) kσ61_182
        · unfold F_X12_cuts_391
          refine kp_nm (fun σ58_184 hσ58_184 => ?_)
          have kσ58_184 : KS σ σ58_184 := by rw [hσ58_184]; exact ks_trans kσ55_178 (ks_lit (by decide))
          refine kp_if ?_ ?_
          · unfold F_X12_cuts_413
            refine kp_nm (fun σ61_185 hσ61_185 => ?_)
            have kσ61_185 : KS σ σ61_185 := by rw [hσ61_185]; exact ks_trans kσ58_184 (ks_lit (by decide))
            refine kp_nm (fun x62_186 _ => ?_)
            exact kp_tr2_ks (ih _ _ _ _ _ _) kσ61_185
          · unfold F_X12_cuts_413
            refine kp_nm (fun σ61_187 hσ61_187 => ?_)
            have kσ61_187 : KS σ σ61_187 := by rw [hσ61_187]; exact ks_trans kσ58_184 (ks_lit (by decide))
            refine kp_nm (fun x62_188 _ => ?_)
            exact kp_tr2_ks (ih _ _ _ _ _ _) kσ61_187
      · unfold F_X12_cuts_359
        refine kp_nm (fun x53_189 _ => ?_)
        refine kp_nm (fun σ55_190 hσ55_190 => ?_)
        have kσ55_190 : KS σ σ55_190 := by rw [hσ55_190]; exact ks_trans (ks_refl _) (ks_lit (by decide))
        refine kp_if ?_ ?_
        · unfold F_X12_cuts_391
          refine kp_nm (fun σ58_191 hσ58_191 => ?_)
          have kσ58_191 : KS σ σ58_191 := by rw [hσ58_191]; exact ks_trans kσ55_190 (ks_lit (by decide))
          refine kp_if ?_ ?_
          · unfold F_X12_cuts_413
            refine kp_nm (fun σ61_192 hσ61_192 => ?_)
            have kσ61_192 : KS σ σ61_192 := by rw [hσ61_192]; exact ks_trans kσ58_191 (ks_lit (by decide))
            refine kp_nm (fun x62_193 _ => ?_)
            exact kp_tr2_ks (ih _ _ _ _ _ _) kσ61_192
          · unfold F_X12_cuts_413
            refine kp_nm (fun σ61_194 hσ61_194 => ?_)
            have kσ61_194 : KS σ σ61_194 := by rw [hσ61_194]; exact ks_trans kσ58_191 (ks_lit (by decide))
            refine kp_nm (fun x62_195 _ => ?_)
            exact kp_tr2_ks (ih _ _ _ _ _ _) kσ61_194
        · unfold F_X12_cuts_391
          refine kp_nm (fun σ58_196 hσ58_196 => ?_)
          have kσ58_196 : KS σ σ58_196 := by rw [hσ58_196]; exact ks_trans kσ55_190 (ks_lit (by decide))
          refine kp_if ?_ ?_
          · unfold F_X12_cuts_413
            refine kp_nm (fun σ61_197 hσ61_197 => ?_)
            have kσ61_197 : KS σ σ61_197 := by rw [hσ61_197]; exact ks_trans kσ58_196 (ks_lit (by decide))
            refine kp_nm (fun x62_198 _ => ?_)
            exact kp_tr2_ks (ih _ _ _ _ _ _) kσ61_197
          · unfold F_X12_cuts_413
            refine kp_nm (fun σ61_199 hσ61_199 => ?_)
            have kσ61_199 : KS σ σ61_199 := by rw [hσ61_199]; exact ks_trans kσ58_196 (ks_lit (by decide))
            refine kp_nm (fun x62_200 _ => ?_)
            exact kp_tr2_ks (ih _ _ _ _ _ _) kσ61_199

set_option maxRecDepth 100000 in
theorem ks_X12_cuts {N : Nat} {K len : Nat → Nat} {a1 : Int32} {a2 : Int32} {σ : SG} {ρ : RG} (hL : Lay N K len ρ) : kp (F_X12_cuts a1 a2 σ ρ) (fun q => KS σ q.2) := by
  unfold F_X12_cuts
  refine kp_bn (ks_X12_looks hL) (fun σ1_33 hσ1_33 => ?_)
  have kσ1_33 : KS σ σ1_33 := ks_trans (ks_refl _) hσ1_33
  refine kp_nm (fun x2_131 _ => ?_)
  refine kp_gd (fun _ => ?_)
  refine kp_if ?_ ?_
  · refine kp_bn (ks_X12_rights hL) (fun σ86_132 hσ86_132 => ?_)
    have kσ86_132 : KS σ σ86_132 := ks_trans kσ1_33 hσ86_132
    unfold F_X12_cuts_83
    refine kp_nm (fun x8_141 _ => ?_)
    refine kp_nm (fun x9_142 _ => ?_)
    refine kp_gd (fun _ => ?_)
    refine kp_if ?_ ?_
    · refine kp_nm (fun x77_143 _ => ?_)
      refine kp_nm (fun x78_144 _ => ?_)
      refine kp_nm (fun x79_145 _ => ?_)
      refine kp_nm (fun x80_146 _ => ?_)
      refine kp_gd (fun _ => ?_)
      refine kp_nm (fun x82_147 _ => ?_)
      unfold F_X12_cuts_145
      refine kp_bx (fun r15_148 => ?_)
      refine kp_bx (fun r16_149 => ?_)
      refine kp_nm (fun x17_150 _ => ?_)
      refine kp_bx (fun r18_151 => ?_)
      refine kp_nm (fun x19_152 _ => ?_)
      refine kp_gd (fun _ => ?_)
      refine kp_bx (fun r21_153 => ?_)
      refine kp_bx (fun r22_154 => ?_)
      refine kp_bx (fun r23_155 => ?_)
      refine kp_nm (fun x24_156 _ => ?_)
      refine kp_bx (fun r25_157 => ?_)
      refine kp_if ?_ ?_
      · refine kp_bx (fun r63_158 => ?_)
        refine kp_nm (fun x64_159 _ => ?_)
        refine kp_bx (fun r65_160 => ?_)
        refine kp_nm (fun x66_161 _ => ?_)
        refine kp_bx (fun r67_162 => ?_)
        refine kp_if ?_ ?_
        · unfold F_X12_cuts_286
          refine kp_nm (fun σ28_163 hσ28_163 => ?_)
          have kσ28_163 : KS σ σ28_163 := by rw [hσ28_163]; exact ks_trans kσ86_132 (ks_lit (by decide))
          refine kp_nm (fun σ30_164 hσ30_164 => ?_)
          have kσ30_164 : KS σ σ30_164 := by rw [hσ30_164]; exact ks_trans kσ28_163 (ks_lit (by decide))
          refine kp_nm (fun σ32_165 hσ32_165 => ?_)
          have kσ32_165 : KS σ σ32_165 := by rw [hσ32_165]; exact ks_trans kσ30_164 (ks_lit (by decide))
          exact kp_tr2_ks (ks_X12_cuts_305 hL 1024 _ _ _ _ _ _) kσ32_165
        · refine kp_nm (fun σ70_201 hσ70_201 => ?_)
          have kσ70_201 : KS σ σ70_201 := by rw [hσ70_201]; exact ks_trans kσ86_132 (ks_lit (by decide))
          refine kp_nm (fun σ72_202 hσ72_202 => ?_)
          have kσ72_202 : KS σ σ72_202 := by rw [hσ72_202]; exact ks_trans kσ70_201 (ks_lit (by decide))
          refine kp_nm (fun σ74_203 hσ74_203 => ?_)
          have kσ74_203 : KS σ σ74_203 := by rw [hσ74_203]; exact ks_trans kσ72_202 (ks_lit (by decide))
          refine kp_nm (fun σ76_204 hσ76_204 => ?_)
          have kσ76_204 : KS σ σ76_204 := by rw [hσ76_204]; exact ks_trans kσ74_203 (ks_lit (by decide))
          exact kp_some kσ76_204
      · unfold F_X12_cuts_286
        refine kp_nm (fun σ28_205 hσ28_205 => ?_)
        have kσ28_205 : KS σ σ28_205 := by rw [hσ28_205]; exact ks_trans kσ86_132 (ks_lit (by decide))
        refine kp_nm (fun σ30_206 hσ30_206 => ?_)
        have kσ30_206 : KS σ σ30_206 := by rw [hσ30_206]; exact ks_trans kσ28_205 (ks_lit (by decide))
        refine kp_nm (fun σ32_207 hσ32_207 => ?_)
        have kσ32_207 : KS σ σ32_207 := by rw [hσ32_207]; exact ks_trans kσ30_206 (ks_lit (by decide))
        exact kp_tr2_ks (ks_X12_cuts_305 hL 1024 _ _ _ _ _ _) kσ32_207
    · refine kp_nm (fun x12_208 _ => ?_)
      refine kp_gd (fun _ => ?_)
      refine kp_bx (fun r14_209 => ?_)
      unfold F_X12_cuts_145
      refine kp_bx (fun r15_210 => ?_)
      refine kp_bx (fun r16_211 => ?_)
      refine kp_nm (fun x17_212 _ => ?_)
      refine kp_bx (fun r18_213 => ?_)
      refine kp_nm (fun x19_214 _ => ?_)
      refine kp_gd (fun _ => ?_)
      refine kp_bx (fun r21_215 => ?_)
      refine kp_bx (fun r22_216 => ?_)
      refine kp_bx (fun r23_217 => ?_)
      refine kp_nm (fun x24_218 _ => ?_)
      refine kp_bx (fun r25_219 => ?_)
      refine kp_if ?_ ?_
      · refine kp_bx (fun r63_220 => ?_)
        refine kp_nm (fun x64_221 _ => ?_)
        refine kp_bx (fun r65_222 => ?_)
        refine kp_nm (fun x66_223 _ => ?_)
        refine kp_bx (fun r67_224 => ?_)
        refine kp_if ?_ ?_
        · unfold F_X12_cuts_286
          refine kp_nm (fun σ28_225 hσ28_225 => ?_)
          have kσ28_225 : KS σ σ28_225 := by rw [hσ28_225]; exact ks_trans kσ86_132 (ks_lit (by decide))
          refine kp_nm (fun σ30_226 hσ30_226 => ?_)
          have kσ30_226 : KS σ σ30_226 := by rw [hσ30_226]; exact ks_trans kσ28_225 (ks_lit (by decide))
          refine kp_nm (fun σ32_227 hσ32_227 => ?_)
          have kσ32_227 : KS σ σ32_227 := by rw [hσ32_227]; exact ks_trans kσ30_226 (ks_lit (by decide))
          exact kp_tr2_ks (ks_X12_cuts_305 hL 1024 _ _ _ _ _ _) kσ32_227
        · refine kp_nm (fun σ70_228 hσ70_228 => ?_)
          have kσ70_228 : KS σ σ70_228 := by rw [hσ70_228]; exact ks_trans kσ86_132 (ks_lit (by decide))
          refine kp_nm (fun σ72_229 hσ72_229 => ?_)
          have kσ72_229 : KS σ σ72_229 := by rw [hσ72_229]; exact ks_trans kσ70_228 (ks_lit (by decide))
          refine kp_nm (fun σ74_230 hσ74_230 => ?_)
          have kσ74_230 : KS σ σ74_230 := by rw [hσ74_230]; exact ks_trans kσ72_229 (ks_lit (by decide))
          refine kp_nm (fun σ76_231 hσ76_231 => ?_)
          have kσ76_231 : KS σ σ76_231 := by rw [hσ76_231]; exact ks_trans kσ74_230 (ks_lit (by decide))
          exact kp_some kσ76_231
      · unfold F_X12_cuts_286
        refine kp_nm (fun σ28_232 hσ28_232 => ?_)
        have kσ28_232 : KS σ σ28_232 := by rw [hσ28_232]; exact ks_trans kσ86_132 (ks_lit (by decide))
        refine kp_nm (fun σ30_233 hσ30_233 => ?_)
        have kσ30_233 : KS σ σ30_233 := by rw [hσ30_233]; exact ks_trans kσ28_232 (ks_lit (by decide))
        refine kp_nm (fun σ32_234 hσ32_234 => ?_)
        have kσ32_234 : KS σ σ32_234 := by rw [hσ32_234]; exact ks_trans kσ30_233 (ks_lit (by decide))
        exact kp_tr2_ks (ks_X12_cuts_305 hL 1024 _ _ _ _ _ _) kσ32_234
  · refine kp_nm (fun x5_235 _ => ?_)
    refine kp_gd (fun _ => ?_)
    refine kp_if ?_ ?_
    · refine kp_nm (fun x83_236 _ => ?_)
      refine kp_nm (fun σ85_237 hσ85_237 => ?_)
      have kσ85_237 : KS σ σ85_237 := by rw [hσ85_237]; exact ks_trans kσ1_33 (ks_lit (by decide))
      unfold F_X12_cuts_83
      refine kp_nm (fun x8_238 _ => ?_)
      refine kp_nm (fun x9_239 _ => ?_)
      refine kp_gd (fun _ => ?_)
      refine kp_if ?_ ?_
      · refine kp_nm (fun x77_240 _ => ?_)
        refine kp_nm (fun x78_241 _ => ?_)
        refine kp_nm (fun x79_242 _ => ?_)
        refine kp_nm (fun x80_243 _ => ?_)
        refine kp_gd (fun _ => ?_)
        refine kp_nm (fun x82_244 _ => ?_)
        unfold F_X12_cuts_145
        refine kp_bx (fun r15_245 => ?_)
        refine kp_bx (fun r16_246 => ?_)
        refine kp_nm (fun x17_247 _ => ?_)
        refine kp_bx (fun r18_248 => ?_)
        refine kp_nm (fun x19_249 _ => ?_)
        refine kp_gd (fun _ => ?_)
        refine kp_bx (fun r21_250 => ?_)
        refine kp_bx (fun r22_251 => ?_)
        refine kp_bx (fun r23_252 => ?_)
        refine kp_nm (fun x24_253 _ => ?_)
        refine kp_bx (fun r25_254 => ?_)
        refine kp_if ?_ ?_
        · refine kp_bx (fun r63_255 => ?_)
          refine kp_nm (fun x64_256 _ => ?_)
          refine kp_bx (fun r65_257 => ?_)
          refine kp_nm (fun x66_258 _ => ?_)
          refine kp_bx (fun r67_259 => ?_)
          refine kp_if ?_ ?_
          · unfold F_X12_cuts_286
            refine kp_nm (fun σ28_260 hσ28_260 => ?_)
            have kσ28_260 : KS σ σ28_260 := by rw [hσ28_260]; exact ks_trans kσ85_237 (ks_lit (by decide))
            refine kp_nm (fun σ30_261 hσ30_261 => ?_)
            have kσ30_261 : KS σ σ30_261 := by rw [hσ30_261]; exact ks_trans kσ28_260 (ks_lit (by decide))
            refine kp_nm (fun σ32_262 hσ32_262 => ?_)
            have kσ32_262 : KS σ σ32_262 := by rw [hσ32_262]; exact ks_trans kσ30_261 (ks_lit (by decide))
            exact kp_tr2_ks (ks_X12_cuts_305 hL 1024 _ _ _ _ _ _) kσ32_262
          · refine kp_nm (fun σ70_263 hσ70_263 => ?_)
            have kσ70_263 : KS σ σ70_263 := by rw [hσ70_263]; exact ks_trans kσ85_237 (ks_lit (by decide))
            refine kp_nm (fun σ72_264 hσ72_264 => ?_)
            have kσ72_264 : KS σ σ72_264 := by rw [hσ72_264]; exact ks_trans kσ70_263 (ks_lit (by decide))
            refine kp_nm (fun σ74_265 hσ74_265 => ?_)
            have kσ74_265 : KS σ σ74_265 := by rw [hσ74_265]; exact ks_trans kσ72_264 (ks_lit (by decide))
            refine kp_nm (fun σ76_266 hσ76_266 => ?_)
            have kσ76_266 : KS σ σ76_266 := by rw [hσ76_266]; exact ks_trans kσ74_265 (ks_lit (by decide))
            exact kp_some kσ76_266
        · unfold F_X12_cuts_286
          refine kp_nm (fun σ28_267 hσ28_267 => ?_)
          have kσ28_267 : KS σ σ28_267 := by rw [hσ28_267]; exact ks_trans kσ85_237 (ks_lit (by decide))
          refine kp_nm (fun σ30_268 hσ30_268 => ?_)
          have kσ30_268 : KS σ σ30_268 := by rw [hσ30_268]; exact ks_trans kσ28_267 (ks_lit (by decide))
          refine kp_nm (fun σ32_269 hσ32_269 => ?_)
          have kσ32_269 : KS σ σ32_269 := by rw [hσ32_269]; exact ks_trans kσ30_268 (ks_lit (by decide))
          exact kp_tr2_ks (ks_X12_cuts_305 hL 1024 _ _ _ _ _ _) kσ32_269
      · refine kp_nm (fun x12_270 _ => ?_)
        refine kp_gd (fun _ => ?_)
        refine kp_bx (fun r14_271 => ?_)
        unfold F_X12_cuts_145
        refine kp_bx (fun r15_272 => ?_)
        refine kp_bx (fun r16_273 => ?_)
        refine kp_nm (fun x17_274 _ => ?_)
        refine kp_bx (fun r18_275 => ?_)
        refine kp_nm (fun x19_276 _ => ?_)
        refine kp_gd (fun _ => ?_)
        refine kp_bx (fun r21_277 => ?_)
        refine kp_bx (fun r22_278 => ?_)
        refine kp_bx (fun r23_279 => ?_)
        refine kp_nm (fun x24_280 _ => ?_)
        refine kp_bx (fun r25_281 => ?_)
        refine kp_if ?_ ?_
        · refine kp_bx (fun r63_282 => ?_)
          refine kp_nm (fun x64_283 _ => ?_)
          refine kp_bx (fun r65_284 => ?_)
          refine kp_nm (fun x66_285 _ => ?_)
          refine kp_bx (fun r67_286 => ?_)
          refine kp_if ?_ ?_
          · unfold F_X12_cuts_286
            refine kp_nm (fun σ28_287 hσ28_287 => ?_)
            have kσ28_287 : KS σ σ28_287 := by rw [hσ28_287]; exact ks_trans kσ85_237 (ks_lit (by decide))
            refine kp_nm (fun σ30_288 hσ30_288 => ?_)
            have kσ30_288 : KS σ σ30_288 := by rw [hσ30_288]; exact ks_trans kσ28_287 (ks_lit (by decide))
            refine kp_nm (fun σ32_289 hσ32_289 => ?_)
            have kσ32_289 : KS σ σ32_289 := by rw [hσ32_289]; exact ks_trans kσ30_288 (ks_lit (by decide))
            exact kp_tr2_ks (ks_X12_cuts_305 hL 1024 _ _ _ _ _ _) kσ32_289
          · refine kp_nm (fun σ70_290 hσ70_290 => ?_)
            have kσ70_290 : KS σ σ70_290 := by rw [hσ70_290]; exact ks_trans kσ85_237 (ks_lit (by decide))
            refine kp_nm (fun σ72_291 hσ72_291 => ?_)
            have kσ72_291 : KS σ σ72_291 := by rw [hσ72_291]; exact ks_trans kσ70_290 (ks_lit (by decide))
            refine kp_nm (fun σ74_292 hσ74_292 => ?_)
            have kσ74_292 : KS σ σ74_292 := by rw [hσ74_292]; exact ks_trans kσ72_291 (ks_lit (by decide))
            refine kp_nm (fun σ76_293 hσ76_293 => ?_)
            have kσ76_293 : KS σ σ76_293 := by rw [hσ76_293]; exact ks_trans kσ74_292 (ks_lit (by decide))
            exact kp_some kσ76_293
        · unfold F_X12_cuts_286
          refine kp_nm (fun σ28_294 hσ28_294 => ?_)
          have kσ28_294 : KS σ σ28_294 := by rw [hσ28_294]; exact ks_trans kσ85_237 (ks_lit (by decide))
          refine kp_nm (fun σ30_295 hσ30_295 => ?_)
          have kσ30_295 : KS σ σ30_295 := by rw [hσ30_295]; exact ks_trans kσ28_294 (ks_lit (by decide))
          refine kp_nm (fun σ32_296 hσ32_296 => ?_)
          have kσ32_296 : KS σ σ32_296 := by rw [hσ32_296]; exact ks_trans kσ30_295 (ks_lit (by decide))
          exact kp_tr2_ks (ks_X12_cuts_305 hL 1024 _ _ _ _ _ _) kσ32_296
    · unfold F_X12_cuts_83
      refine kp_nm (fun x8_297 _ => ?_)
      refine kp_nm (fun x9_298 _ => ?_)
      refine kp_gd (fun _ => ?_)
      refine kp_if ?_ ?_
      · refine kp_nm (fun x77_299 _ => ?_)
        refine kp_nm (fun x78_300 _ => ?_)
        refine kp_nm (fun x79_301 _ => ?_)
        refine kp_nm (fun x80_302 _ => ?_)
        refine kp_gd (fun _ => ?_)
        refine kp_nm (fun x82_303 _ => ?_)
        unfold F_X12_cuts_145
        refine kp_bx (fun r15_304 => ?_)
        refine kp_bx (fun r16_305 => ?_)
        refine kp_nm (fun x17_306 _ => ?_)
        refine kp_bx (fun r18_307 => ?_)
        refine kp_nm (fun x19_308 _ => ?_)
        refine kp_gd (fun _ => ?_)
        refine kp_bx (fun r21_309 => ?_)
        refine kp_bx (fun r22_310 => ?_)
        refine kp_bx (fun r23_311 => ?_)
        refine kp_nm (fun x24_312 _ => ?_)
        refine kp_bx (fun r25_313 => ?_)
        refine kp_if ?_ ?_
        · refine kp_bx (fun r63_314 => ?_)
          refine kp_nm (fun x64_315 _ => ?_)
          refine kp_bx (fun r65_316 => ?_)
          refine kp_nm (fun x66_317 _ => ?_)
          refine kp_bx (fun r67_318 => ?_)
          refine kp_if ?_ ?_
          · unfold F_X12_cuts_286
            refine kp_nm (fun σ28_319 hσ28_319 => ?_)
            have kσ28_319 : KS σ σ28_319 := by rw [hσ28_319]; exact ks_trans kσ1_33 (ks_lit (by decide))
            refine kp_nm (fun σ30_320 hσ30_320 => ?_)
            have kσ30_320 : KS σ σ30_320 := by rw [hσ30_320]; exact ks_trans kσ28_319 (ks_lit (by decide))
            refine kp_nm (fun σ32_321 hσ32_321 => ?_)
            have kσ32_321 : KS σ σ32_321 := by rw [hσ32_321]; exact ks_trans kσ30_320 (ks_lit (by decide))
            exact kp_tr2_ks (ks_X12_cuts_305 hL 1024 _ _ _ _ _ _) kσ32_321
          · refine kp_nm (fun σ70_322 hσ70_322 => ?_)
            have kσ70_322 : KS σ σ70_322 := by rw [hσ70_322]; exact ks_trans kσ1_33 (ks_lit (by decide))
            refine kp_nm (fun σ72_323 hσ72_323 => ?_)
            have kσ72_323 : KS σ σ72_323 := by rw [hσ72_323]; exact ks_trans kσ70_322 (ks_lit (by decide))
            refine kp_nm (fun σ74_324 hσ74_324 => ?_)
            have kσ74_324 : KS σ σ74_324 := by rw [hσ74_324]; exact ks_trans kσ72_323 (ks_lit (by decide))
            refine kp_nm (fun σ76_325 hσ76_325 => ?_)
            have kσ76_325 : KS σ σ76_325 := by rw [hσ76_325]; exact ks_trans kσ74_324 (ks_lit (by decide))
            exact kp_some kσ76_325
        · unfold F_X12_cuts_286
          refine kp_nm (fun σ28_326 hσ28_326 => ?_)
          have kσ28_326 : KS σ σ28_326 := by rw [hσ28_326]; exact ks_trans kσ1_33 (ks_lit (by decide))
          refine kp_nm (fun σ30_327 hσ30_327 => ?_)
          have kσ30_327 : KS σ σ30_327 := by rw [hσ30_327]; exact ks_trans kσ28_326 (ks_lit (by decide))
          refine kp_nm (fun σ32_328 hσ32_328 => ?_)
          have kσ32_328 : KS σ σ32_328 := by rw [hσ32_328]; exact ks_trans kσ30_327 (ks_lit (by decide))
          exact kp_tr2_ks (ks_X12_cuts_305 hL 1024 _ _ _ _ _ _) kσ32_328
      · refine kp_nm (fun x12_329 _ => ?_)
        refine kp_gd (fun _ => ?_)
        refine kp_bx (fun r14_330 => ?_)
        unfold F_X12_cuts_145
        refine kp_bx (fun r15_331 => ?_)
        refine kp_bx (fun r16_332 => ?_)
        refine kp_nm (fun x17_333 _ => ?_)
        refine kp_bx (fun r18_334 => ?_)
        refine kp_nm (fun x19_335 _ => ?_)
        refine kp_gd (fun _ => ?_)
        refine kp_bx (fun r21_336 => ?_)
        refine kp_bx (fun r22_337 => ?_)
        refine kp_bx (fun r23_338 => ?_)
        refine kp_nm (fun x24_339 _ => ?_)
        refine kp_bx (fun r25_340 => ?_)
        refine kp_if ?_ ?_
        · refine kp_bx (fun r63_341 => ?_)
          refine kp_nm (fun x64_342 _ => ?_)
          refine kp_bx (fun r65_343 => ?_)
          refine kp_nm (fun x66_344 _ => ?_)
          refine kp_bx (fun r67_345 => ?_)
          refine kp_if ?_ ?_
          · unfold F_X12_cuts_286
            refine kp_nm (fun σ28_346 hσ28_346 => ?_)
            have kσ28_346 : KS σ σ28_346 := by rw [hσ28_346]; exact ks_trans kσ1_33 (ks_lit (by decide))
            refine kp_nm (fun σ30_347 hσ30_347 => ?_)
            have kσ30_347 : KS σ σ30_347 := by rw [hσ30_347]; exact ks_trans kσ28_346 (ks_lit (by decide))
            refine kp_nm (fun σ32_348 hσ32_348 => ?_)
            have kσ32_348 : KS σ σ32_348 := by rw [hσ32_348]; exact ks_trans kσ30_347 (ks_lit (by decide))
            exact kp_tr2_ks (ks_X12_cuts_305 hL 1024 _ _ _ _ _ _) kσ32_348
          · refine kp_nm (fun σ70_349 hσ70_349 => ?_)
            have kσ70_349 : KS σ σ70_349 := by rw [hσ70_349]; exact ks_trans kσ1_33 (ks_lit (by decide))
            refine kp_nm (fun σ72_350 hσ72_350 => ?_)
            have kσ72_350 : KS σ σ72_350 := by rw [hσ72_350]; exact ks_trans kσ70_349 (ks_lit (by decide))
            refine kp_nm (fun σ74_351 hσ74_351 => ?_)
            have kσ74_351 : KS σ σ74_351 := by rw [hσ74_351]; exact ks_trans kσ72_350 (ks_lit (by decide))
            refine kp_nm (fun σ76_352 hσ76_352 => ?_)
            have kσ76_352 : KS σ σ76_352 := by rw [hσ76_352]; exact ks_trans kσ74_351 (ks_lit (by decide))
            exact kp_some kσ76_352
        · unfold F_X12_cuts_286
          refine kp_nm (fun σ28_353 hσ28_353 => ?_)
          have kσ28_353 : KS σ σ28_353 := by rw [hσ28_353]; exact ks_trans kσ1_33 (ks_lit (by decide))
          refine kp_nm (fun σ30_354 hσ30_354 => ?_)
          have kσ30_354 : KS σ σ30_354 := by rw [hσ30_354]; exact ks_trans kσ28_353 (ks_lit (by decide))
          refine kp_nm (fun σ32_355 hσ32_355 => ?_)
          have kσ32_355 : KS σ σ32_355 := by rw [hσ32_355]; exact ks_trans kσ30_354 (ks_lit (by decide))
          exact kp_tr2_ks (ks_X12_cuts_305 hL 1024 _ _ _ _ _ _) kσ32_355

set_option maxRecDepth 100000 in
theorem ks_X12_cut {N : Nat} {K len : Nat → Nat} {a1 : Int32} {σ : SG} {ρ : RG} (hL : Lay N K len ρ) : kp (F_X12_cut a1 σ ρ) (fun q => KS σ q.2) := by
  unfold F_X12_cut
  refine kp_bx (fun r1_29 => ?_)
  refine kp_if ?_ ?_
  · exact kp_some (ks_refl _)
  · refine kp_if ?_ ?_
    · exact kp_some (ks_refl _)
    · refine kp_nm (fun x4_30 _ => ?_)
      refine kp_gd (fun _ => ?_)
      refine kp_bn2 (ks_X12_cuts hL) (fun r6_31 σ6_32 hr6_31 => ?_)
      have kσ6_32 : KS σ σ6_32 := ks_trans (ks_refl _) hr6_31
      refine kp_if ?_ ?_
      · exact kp_some kσ6_32
      · exact kp_some kσ6_32

set_option maxRecDepth 100000 in
theorem ks_X12_right {N : Nat} {K len : Nat → Nat} {σ : SG} {ρ : RG} (hL : Lay N K len ρ) : kp (F_X12_right σ ρ) (fun q => KS σ q.2) := by
  unfold F_X12_right
  refine kp_bx (fun r1_356 => ?_)
  refine kp_bx (fun r2_357 => ?_)
  refine kp_if ?_ ?_
  · refine kp_bn (ks_X12_rights hL) (fun σ4_358 hσ4_358 => ?_)
    have kσ4_358 : KS σ σ4_358 := ks_trans (ks_refl _) hσ4_358
    refine kp_nm (fun x5_359 _ => ?_)
    exact kp_some kσ4_358
  · exact kp_some (ks_refl _)

set_option maxRecDepth 100000 in
theorem ks_X12_turn {N : Nat} {K len : Nat → Nat} {a1 : Int32} {σ : SG} {ρ : RG} (hL : Lay N K len ρ) : kp (F_X12_turn a1 σ ρ) (fun q => KS σ q.2) := by
  unfold F_X12_turn
  refine kp_if ?_ ?_
  · unfold F_X12_turn_9
    refine kp_gd (fun _ => ?_)
    refine kp_nm (fun x3_360 _ => ?_)
    refine kp_gd (fun _ => ?_)
    refine kp_nm (fun σ6_361 hσ6_361 => ?_)
    have kσ6_361 : KS σ σ6_361 := by rw [hσ6_361]; exact ks_trans (ks_refl _) (ks_row (by decide))
    refine kp_gd (fun _ => ?_)
    exact kp_some kσ6_361
  · unfold F_X12_turn_9
    refine kp_gd (fun _ => ?_)
    refine kp_nm (fun x3_362 _ => ?_)
    refine kp_gd (fun _ => ?_)
    refine kp_nm (fun σ6_363 hσ6_363 => ?_)
    have kσ6_363 : KS σ σ6_363 := by rw [hσ6_363]; exact ks_trans (ks_refl _) (ks_row (by decide))
    refine kp_gd (fun _ => ?_)
    exact kp_some kσ6_363

set_option maxRecDepth 100000 in
theorem ks_X12_keeps_2 {N : Nat} {K len : Nat → Nat} {ρ : RG} (hL : Lay N K len ρ) : ∀ (n : Nat) (σ : SG) (v1 : Int32), kp (F_X12_keeps_2 n σ ρ v1) (fun q => KS σ q) := by
  intro n
  induction n with
  | zero => intro σ v1; exact kp_none
  | succ n ih =>
    intro σ v1
    unfold F_X12_keeps_2
    refine kp_if ?_ ?_
    · exact kp_some (ks_refl _)
    · refine kp_gd (fun _ => ?_)
      refine kp_gd (fun _ => ?_)
      refine kp_nm (fun σ5_367 hσ5_367 => ?_)
      have kσ5_367 : KS σ σ5_367 := by rw [hσ5_367]; exact ks_trans (ks_refl _) (ks_row (by decide))
      refine kp_nm (fun x6_368 _ => ?_)
      exact kp_tr_ks (ih _ _) kσ5_367

set_option maxRecDepth 100000 in
theorem ks_X12_keeps {N : Nat} {K len : Nat → Nat} {σ : SG} {ρ : RG} (hL : Lay N K len ρ) : kp (F_X12_keeps σ ρ) (fun q => KS σ q) := by
  unfold F_X12_keeps
  exact kp_tr_ks (ks_X12_keeps_2 hL 1024 _ _) (ks_refl _)

set_option maxRecDepth 100000 in
theorem ks_X12_goesBack_2 {N : Nat} {K len : Nat → Nat} {ρ : RG} (hL : Lay N K len ρ) : ∀ (n : Nat) (σ : SG) (v1 : Int32), kp (F_X12_goesBack_2 n σ ρ v1) (fun q => KS σ q) := by
  intro n
  induction n with
  | zero => intro σ v1; exact kp_none
  | succ n ih =>
    intro σ v1
    unfold F_X12_goesBack_2
    refine kp_if ?_ ?_
    · exact kp_some (ks_refl _)
    · refine kp_gd (fun _ => ?_)
      refine kp_gd (fun _ => ?_)
      refine kp_nm (fun σ5_373 hσ5_373 => ?_)
      have kσ5_373 : KS σ σ5_373 := by rw [hσ5_373]; exact ks_trans (ks_refl _) (ks_row (by decide))
      refine kp_nm (fun x6_374 _ => ?_)
      exact kp_tr_ks (ih _ _) kσ5_373

set_option maxRecDepth 100000 in
theorem ks_X12_goesBack {N : Nat} {K len : Nat → Nat} {σ : SG} {ρ : RG} (hL : Lay N K len ρ) : kp (F_X12_goesBack σ ρ) (fun q => KS σ q) := by
  unfold F_X12_goesBack
  exact kp_tr_ks (ks_X12_goesBack_2 hL 1024 _ _) (ks_refl _)

set_option maxRecDepth 100000 in
theorem ks_X12_would {N : Nat} {K len : Nat → Nat} {a1 : Int32} {a2 : Int32} {σ : SG} {ρ : RG} (hL : Lay N K len ρ) : kp (F_X12_would a1 a2 σ ρ) (fun q => KS σ q.2) := by
  unfold F_X12_would
  refine kp_bx (fun r1_364 => ?_)
  refine kp_if ?_ ?_
  · exact kp_some (ks_refl _)
  · refine kp_bx (fun r3_365 => ?_)
    refine kp_if ?_ ?_
    · exact kp_some (ks_refl _)
    · refine kp_bn (ks_X12_keeps hL) (fun σ5_366 hσ5_366 => ?_)
      have kσ5_366 : KS σ σ5_366 := ks_trans (ks_refl _) hσ5_366
      refine kp_nm (fun x6_369 _ => ?_)
      refine kp_gd (fun _ => ?_)
      refine kp_bn2 (ks_X12_cuts hL) (fun r8_370 σ8_371 hr8_370 => ?_)
      have kσ8_371 : KS σ σ8_371 := ks_trans kσ5_366 hr8_370
      refine kp_if ?_ ?_
      · refine kp_bn (ks_X12_goesBack hL) (fun σ10_372 hσ10_372 => ?_)
        have kσ10_372 : KS σ σ10_372 := ks_trans kσ8_371 hσ10_372
        exact kp_some kσ10_372
      · refine kp_nm (fun x11_375 _ => ?_)
        refine kp_if ?_ ?_
        · refine kp_bn (ks_X12_goesBack hL) (fun σ23_376 hσ23_376 => ?_)
          have kσ23_376 : KS σ σ23_376 := ks_trans kσ8_371 hσ23_376
          exact kp_some kσ23_376
        · refine kp_if ?_ ?_
          · refine kp_bn (ks_X12_goesBack hL) (fun σ22_377 hσ22_377 => ?_)
            have kσ22_377 : KS σ σ22_377 := ks_trans kσ8_371 hσ22_377
            exact kp_some kσ22_377
          · refine kp_if ?_ ?_
            · refine kp_bn (ks_X12_goesBack hL) (fun σ21_378 hσ21_378 => ?_)
              have kσ21_378 : KS σ σ21_378 := ks_trans kσ8_371 hσ21_378
              exact kp_some kσ21_378
            · refine kp_if ?_ ?_
              · refine kp_bn (ks_X12_goesBack hL) (fun σ20_379 hσ20_379 => ?_)
                have kσ20_379 : KS σ σ20_379 := ks_trans kσ8_371 hσ20_379
                exact kp_some kσ20_379
              · refine kp_nm (fun x16_380 _ => ?_)
                refine kp_nm (fun x17_381 _ => ?_)
                refine kp_gd (fun _ => ?_)
                refine kp_bn (ks_X12_goesBack hL) (fun σ19_382 hσ19_382 => ?_)
                have kσ19_382 : KS σ σ19_382 := ks_trans kσ8_371 hσ19_382
                exact kp_some kσ19_382

set_option maxRecDepth 100000 in
theorem ks_X12_goesOn_18 {N : Nat} {K len : Nat → Nat} {a1 : Int32} {a2 : Int32} {a3 : Int32} {ρ : RG} (hL : Lay N K len ρ) : ∀ (n : Nat) (σ : SG) (v1 : Int32) (v2 : Int32) (v3 : Int32) (v4 : Int32), kp (F_X12_goesOn_18 a1 a2 a3 n σ ρ v1 v2 v3 v4) (fun q => KS σ q) := by
  intro n
  induction n with
  | zero => intro σ v1 v2 v3 v4; exact kp_none
  | succ n ih =>
    intro σ v1 v2 v3 v4
    unfold F_X12_goesOn_18
    refine kp_if ?_ ?_
    · exact kp_some (ks_refl _)
    · refine kp_if ?_ ?_
      · exact kp_some (ks_refl _)
      · refine kp_gd (fun _ => ?_)
        refine kp_nm (fun x10_392 _ => ?_)
        refine kp_if ?_ ?_
        · refine kp_bx (fun r29_393 => ?_)
          refine kp_bx (fun r30_394 => ?_)
          refine kp_if ?_ ?_
          · unfold F_X12_goesOn_72
            refine kp_nm (fun x12_395 _ => ?_)
            refine kp_gd (fun _ => ?_)
            refine kp_bn2 (ks_X12_cuts hL) (fun r14_396 σ14_397 hr14_396 => ?_)
            have kσ14_397 : KS σ σ14_397 := ks_trans (ks_refl _) hr14_396
            refine kp_if ?_ ?_
            · exact kp_some kσ14_397
            · refine kp_nm (fun x16_398 _ => ?_)
              refine kp_nm (fun σ18_399 hσ18_399 => ?_)
              have kσ18_399 : KS σ σ18_399 := by rw [hσ18_399]; exact ks_trans kσ14_397 (ks_lit (by decide))
              refine kp_bx (fun r19_400 => ?_)
              refine kp_if ?_ ?_
              · unfold F_X12_goesOn_119
                refine kp_nm (fun x21_401 _ => ?_)
                refine kp_nm (fun σ23_402 hσ23_402 => ?_)
                have kσ23_402 : KS σ σ23_402 := by rw [hσ23_402]; exact ks_trans kσ18_399 (ks_lit (by decide))
                refine kp_if ?_ ?_
                · unfold F_X12_goesOn_141
                  refine kp_nm (fun x25_403 _ => ?_)
                  refine kp_nm (fun σ27_404 hσ27_404 => ?_)
                  have kσ27_404 : KS σ σ27_404 := by rw [hσ27_404]; exact ks_trans kσ23_402 (ks_lit (by decide))
                  refine kp_nm (fun x28_405 _ => ?_)
                  exact kp_tr_ks (ih _ _ _ _ _) kσ27_404
                · unfold F_X12_goesOn_141
                  refine kp_nm (fun x25_406 _ => ?_)
                  refine kp_nm (fun σ27_407 hσ27_407 => ?_)
                  have kσ27_407 : KS σ σ27_407 := by rw [hσ27_407]; exact ks_trans kσ23_402 (ks_lit (by decide))
                  refine kp_nm (fun x28_408 _ => ?_)
                  exact kp_tr_ks (ih _ _ _ _ _) kσ27_407
              · unfold F_X12_goesOn_119
                refine kp_nm (fun x21_409 _ => ?_)
                refine kp_nm (fun σ23_410 hσ23_410 => ?_)
                have kσ23_410 : KS σ σ23_410 := by rw [hσ23_410]; exact ks_trans kσ18_399 (ks_lit (by decide))
                refine kp_if ?_ ?_
                · unfold F_X12_goesOn_141
                  refine kp_nm (fun x25_411 _ => ?_)
                  refine kp_nm (fun σ27_412 hσ27_412 => ?_)
                  have kσ27_412 : KS σ σ27_412 := by rw [hσ27_412]; exact ks_trans kσ23_410 (ks_lit (by decide))
                  refine kp_nm (fun x28_413 _ => ?_)
                  exact kp_tr_ks (ih _ _ _ _ _) kσ27_412
                · unfold F_X12_goesOn_141
                  refine kp_nm (fun x25_414 _ => ?_)
                  refine kp_nm (fun σ27_415 hσ27_415 => ?_)
                  have kσ27_415 : KS σ σ27_415 := by rw [hσ27_415]; exact ks_trans kσ23_410 (ks_lit (by decide))
                  refine kp_nm (fun x28_416 _ => ?_)
                  exact kp_tr_ks (ih _ _ _ _ _) kσ27_415
          · refine kp_bn (ks_X12_rights hL) (fun σ32_417 hσ32_417 => ?_)
            have kσ32_417 : KS σ σ32_417 := ks_trans (ks_refl _) hσ32_417
            unfold F_X12_goesOn_72
            refine kp_nm (fun x12_418 _ => ?_)
            refine kp_gd (fun _ => ?_)
            refine kp_bn2 (ks_X12_cuts hL) (fun r14_419 σ14_420 hr14_419 => ?_)
            have kσ14_420 : KS σ σ14_420 := ks_trans kσ32_417 hr14_419
            refine kp_if ?_ ?_
            · exact kp_some kσ14_420
            · refine kp_nm (fun x16_421 _ => ?_)
              refine kp_nm (fun σ18_422 hσ18_422 => ?_)
              have kσ18_422 : KS σ σ18_422 := by rw [hσ18_422]; exact ks_trans kσ14_420 (ks_lit (by decide))
              refine kp_bx (fun r19_423 => ?_)
              refine kp_if ?_ ?_
              · unfold F_X12_goesOn_119
                refine kp_nm (fun x21_424 _ => ?_)
                refine kp_nm (fun σ23_425 hσ23_425 => ?_)
                have kσ23_425 : KS σ σ23_425 := by rw [hσ23_425]; exact ks_trans kσ18_422 (ks_lit (by decide))
                refine kp_if ?_ ?_
                · unfold F_X12_goesOn_141
                  refine kp_nm (fun x25_426 _ => ?_)
                  refine kp_nm (fun σ27_427 hσ27_427 => ?_)
                  have kσ27_427 : KS σ σ27_427 := by rw [hσ27_427]; exact ks_trans kσ23_425 (ks_lit (by decide))
                  refine kp_nm (fun x28_428 _ => ?_)
                  exact kp_tr_ks (ih _ _ _ _ _) kσ27_427
                · unfold F_X12_goesOn_141
                  refine kp_nm (fun x25_429 _ => ?_)
                  refine kp_nm (fun σ27_430 hσ27_430 => ?_)
                  have kσ27_430 : KS σ σ27_430 := by rw [hσ27_430]; exact ks_trans kσ23_425 (ks_lit (by decide))
                  refine kp_nm (fun x28_431 _ => ?_)
                  exact kp_tr_ks (ih _ _ _ _ _) kσ27_430
              · unfold F_X12_goesOn_119
                refine kp_nm (fun x21_432 _ => ?_)
                refine kp_nm (fun σ23_433 hσ23_433 => ?_)
                have kσ23_433 : KS σ σ23_433 := by rw [hσ23_433]; exact ks_trans kσ18_422 (ks_lit (by decide))
                refine kp_if ?_ ?_
                · unfold F_X12_goesOn_141
                  refine kp_nm (fun x25_434 _ => ?_)
                  refine kp_nm (fun σ27_435 hσ27_435 => ?_)
                  have kσ27_435 : KS σ σ27_435 := by rw [hσ27_435]; exact ks_trans kσ23_433 (ks_lit (by decide))
                  refine kp_nm (fun x28_436 _ => ?_)
                  exact kp_tr_ks (ih _ _ _ _ _) kσ27_435
                · unfold F_X12_goesOn_141
                  refine kp_nm (fun x25_437 _ => ?_)
                  refine kp_nm (fun σ27_438 hσ27_438 => ?_)
                  have kσ27_438 : KS σ σ27_438 := by rw [hσ27_438]; exact ks_trans kσ23_433 (ks_lit (by decide))
                  refine kp_nm (fun x28_439 _ => ?_)
                  exact kp_tr_ks (ih _ _ _ _ _) kσ27_438
        · unfold F_X12_goesOn_72
          refine kp_nm (fun x12_440 _ => ?_)
          refine kp_gd (fun _ => ?_)
          refine kp_bn2 (ks_X12_cuts hL) (fun r14_441 σ14_442 hr14_441 => ?_)
          have kσ14_442 : KS σ σ14_442 := ks_trans (ks_refl _) hr14_441
          refine kp_if ?_ ?_
          · exact kp_some kσ14_442
          · refine kp_nm (fun x16_443 _ => ?_)
            refine kp_nm (fun σ18_444 hσ18_444 => ?_)
            have kσ18_444 : KS σ σ18_444 := by rw [hσ18_444]; exact ks_trans kσ14_442 (ks_lit (by decide))
            refine kp_bx (fun r19_445 => ?_)
            refine kp_if ?_ ?_
            · unfold F_X12_goesOn_119
              refine kp_nm (fun x21_446 _ => ?_)
              refine kp_nm (fun σ23_447 hσ23_447 => ?_)
              have kσ23_447 : KS σ σ23_447 := by rw [hσ23_447]; exact ks_trans kσ18_444 (ks_lit (by decide))
              refine kp_if ?_ ?_
              · unfold F_X12_goesOn_141
                refine kp_nm (fun x25_448 _ => ?_)
                refine kp_nm (fun σ27_449 hσ27_449 => ?_)
                have kσ27_449 : KS σ σ27_449 := by rw [hσ27_449]; exact ks_trans kσ23_447 (ks_lit (by decide))
                refine kp_nm (fun x28_450 _ => ?_)
                exact kp_tr_ks (ih _ _ _ _ _) kσ27_449
              · unfold F_X12_goesOn_141
                refine kp_nm (fun x25_451 _ => ?_)
                refine kp_nm (fun σ27_452 hσ27_452 => ?_)
                have kσ27_452 : KS σ σ27_452 := by rw [hσ27_452]; exact ks_trans kσ23_447 (ks_lit (by decide))
                refine kp_nm (fun x28_453 _ => ?_)
                exact kp_tr_ks (ih _ _ _ _ _) kσ27_452
            · unfold F_X12_goesOn_119
              refine kp_nm (fun x21_454 _ => ?_)
              refine kp_nm (fun σ23_455 hσ23_455 => ?_)
              have kσ23_455 : KS σ σ23_455 := by rw [hσ23_455]; exact ks_trans kσ18_444 (ks_lit (by decide))
              refine kp_if ?_ ?_
              · unfold F_X12_goesOn_141
                refine kp_nm (fun x25_456 _ => ?_)
                refine kp_nm (fun σ27_457 hσ27_457 => ?_)
                have kσ27_457 : KS σ σ27_457 := by rw [hσ27_457]; exact ks_trans kσ23_455 (ks_lit (by decide))
                refine kp_nm (fun x28_458 _ => ?_)
                exact kp_tr_ks (ih _ _ _ _ _) kσ27_457
              · unfold F_X12_goesOn_141
                refine kp_nm (fun x25_459 _ => ?_)
                refine kp_nm (fun σ27_460 hσ27_460 => ?_)
                have kσ27_460 : KS σ σ27_460 := by rw [hσ27_460]; exact ks_trans kσ23_455 (ks_lit (by decide))
                refine kp_nm (fun x28_461 _ => ?_)
                exact kp_tr_ks (ih _ _ _ _ _) kσ27_460

set_option maxRecDepth 100000 in
theorem ks_X12_goesOn {N : Nat} {K len : Nat → Nat} {a1 : Int32} {a2 : Int32} {a3 : Int32} {σ : SG} {ρ : RG} (hL : Lay N K len ρ) : kp (F_X12_goesOn a1 a2 a3 σ ρ) (fun q => KS σ q) := by
  unfold F_X12_goesOn
  refine kp_nm (fun σ2_389 hσ2_389 => ?_)
  have kσ2_389 : KS σ σ2_389 := by rw [hσ2_389]; exact ks_trans (ks_refl _) (ks_lit (by decide))
  refine kp_nm (fun σ4_390 hσ4_390 => ?_)
  have kσ4_390 : KS σ σ4_390 := by rw [hσ4_390]; exact ks_trans kσ2_389 (ks_lit (by decide))
  refine kp_nm (fun σ6_391 hσ6_391 => ?_)
  have kσ6_391 : KS σ σ6_391 := by rw [hσ6_391]; exact ks_trans kσ4_390 (ks_lit (by decide))
  exact kp_tr_ks (ks_X12_goesOn_18 hL 1024 _ _ _ _ _) kσ6_391

set_option maxRecDepth 100000 in
theorem ks_X12_on {N : Nat} {K len : Nat → Nat} {a1 : Int32} {a2 : Int32} {σ : SG} {ρ : RG} (hL : Lay N K len ρ) : kp (F_X12_on a1 a2 σ ρ) (fun q => KS σ q.2) := by
  unfold F_X12_on
  refine kp_bx (fun r1_383 => ?_)
  refine kp_if ?_ ?_
  · refine kp_nm (fun x26_384 _ => ?_)
    refine kp_bx (fun r27_385 => ?_)
    refine kp_if ?_ ?_
    · exact kp_some (ks_refl _)
    · unfold F_X12_on_24
      refine kp_bx (fun r3_386 => ?_)
      refine kp_if ?_ ?_
      · exact kp_some (ks_refl _)
      · refine kp_bn (ks_X12_keeps hL) (fun σ5_387 hσ5_387 => ?_)
        have kσ5_387 : KS σ σ5_387 := ks_trans (ks_refl _) hσ5_387
        refine kp_bn (ks_X12_goesOn hL) (fun σ6_388 hσ6_388 => ?_)
        have kσ6_388 : KS σ σ6_388 := ks_trans kσ5_387 hσ6_388
        refine kp_if ?_ ?_
        · refine kp_if ?_ ?_
          · refine kp_nm (fun x21_462 _ => ?_)
            refine kp_bn (ks_X12_goesBack hL) (fun σ22_463 hσ22_463 => ?_)
            have kσ22_463 : KS σ σ22_463 := ks_trans kσ6_388 hσ22_463
            exact kp_some kσ22_463
          · refine kp_if ?_ ?_
            · refine kp_bn (ks_X12_goesBack hL) (fun σ20_464 hσ20_464 => ?_)
              have kσ20_464 : KS σ σ20_464 := ks_trans kσ6_388 hσ20_464
              exact kp_some kσ20_464
            · refine kp_if ?_ ?_
              · refine kp_bn (ks_X12_goesBack hL) (fun σ19_465 hσ19_465 => ?_)
                have kσ19_465 : KS σ σ19_465 := ks_trans kσ6_388 hσ19_465
                exact kp_some kσ19_465
              · refine kp_nm (fun x11_466 _ => ?_)
                refine kp_nm (fun x12_467 _ => ?_)
                refine kp_gd (fun _ => ?_)
                refine kp_nm (fun x14_468 _ => ?_)
                refine kp_nm (fun x15_469 _ => ?_)
                refine kp_gd (fun _ => ?_)
                refine kp_nm (fun x17_470 _ => ?_)
                refine kp_bn (ks_X12_goesBack hL) (fun σ18_471 hσ18_471 => ?_)
                have kσ18_471 : KS σ σ18_471 := ks_trans kσ6_388 hσ18_471
                exact kp_some kσ18_471
        · refine kp_nm (fun x23_472 _ => ?_)
          refine kp_gd (fun _ => ?_)
          refine kp_bn (ks_X12_goesBack hL) (fun σ25_473 hσ25_473 => ?_)
          have kσ25_473 : KS σ σ25_473 := ks_trans kσ6_388 hσ25_473
          exact kp_some kσ25_473
  · unfold F_X12_on_24
    refine kp_bx (fun r3_474 => ?_)
    refine kp_if ?_ ?_
    · exact kp_some (ks_refl _)
    · refine kp_bn (ks_X12_keeps hL) (fun σ5_475 hσ5_475 => ?_)
      have kσ5_475 : KS σ σ5_475 := ks_trans (ks_refl _) hσ5_475
      refine kp_bn (ks_X12_goesOn hL) (fun σ6_476 hσ6_476 => ?_)
      have kσ6_476 : KS σ σ6_476 := ks_trans kσ5_475 hσ6_476
      refine kp_if ?_ ?_
      · refine kp_if ?_ ?_
        · refine kp_nm (fun x21_477 _ => ?_)
          refine kp_bn (ks_X12_goesBack hL) (fun σ22_478 hσ22_478 => ?_)
          have kσ22_478 : KS σ σ22_478 := ks_trans kσ6_476 hσ22_478
          exact kp_some kσ22_478
        · refine kp_if ?_ ?_
          · refine kp_bn (ks_X12_goesBack hL) (fun σ20_479 hσ20_479 => ?_)
            have kσ20_479 : KS σ σ20_479 := ks_trans kσ6_476 hσ20_479
            exact kp_some kσ20_479
          · refine kp_if ?_ ?_
            · refine kp_bn (ks_X12_goesBack hL) (fun σ19_480 hσ19_480 => ?_)
              have kσ19_480 : KS σ σ19_480 := ks_trans kσ6_476 hσ19_480
              exact kp_some kσ19_480
            · refine kp_nm (fun x11_481 _ => ?_)
              refine kp_nm (fun x12_482 _ => ?_)
              refine kp_gd (fun _ => ?_)
              refine kp_nm (fun x14_483 _ => ?_)
              refine kp_nm (fun x15_484 _ => ?_)
              refine kp_gd (fun _ => ?_)
              refine kp_nm (fun x17_485 _ => ?_)
              refine kp_bn (ks_X12_goesBack hL) (fun σ18_486 hσ18_486 => ?_)
              have kσ18_486 : KS σ σ18_486 := ks_trans kσ6_476 hσ18_486
              exact kp_some kσ18_486
      · refine kp_nm (fun x23_487 _ => ?_)
        refine kp_gd (fun _ => ?_)
        refine kp_bn (ks_X12_goesBack hL) (fun σ25_488 hσ25_488 => ?_)
        have kσ25_488 : KS σ σ25_488 := ks_trans kσ6_476 hσ25_488
        exact kp_some kσ25_488

set_option maxRecDepth 100000 in
theorem ks_X12_toasted {N : Nat} {K len : Nat → Nat} {a1 : Int32} {a2 : Int32} {σ : SG} {ρ : RG} (hL : Lay N K len ρ) : kp (F_X12_toasted a1 a2 σ ρ) (fun q => KS σ q.2) := by
  unfold F_X12_toasted
  refine kp_bx (fun r1_489 => ?_)
  refine kp_if ?_ ?_
  · exact kp_some (ks_refl _)
  · refine kp_bx (fun r3_490 => ?_)
    refine kp_if ?_ ?_
    · exact kp_some (ks_refl _)
    · refine kp_bn (ks_X12_keeps hL) (fun σ5_491 hσ5_491 => ?_)
      have kσ5_491 : KS σ σ5_491 := ks_trans (ks_refl _) hσ5_491
      refine kp_bn (ks_X12_goesOn hL) (fun σ6_492 hσ6_492 => ?_)
      have kσ6_492 : KS σ σ6_492 := ks_trans kσ5_491 hσ6_492
      refine kp_bn (ks_X12_goesBack hL) (fun σ7_493 hσ7_493 => ?_)
      have kσ7_493 : KS σ σ7_493 := ks_trans kσ6_492 hσ7_493
      exact kp_some kσ7_493

set_option maxRecDepth 100000 in
theorem ks_X12_lasts {N : Nat} {K len : Nat → Nat} {σ : SG} {ρ : RG} (hL : Lay N K len ρ) : kp (F_X12_lasts σ ρ) (fun q => KS σ q.2) := by
  unfold F_X12_lasts
  refine kp_bn (ks_X12_keeps hL) (fun σ1_494 hσ1_494 => ?_)
  have kσ1_494 : KS σ σ1_494 := ks_trans (ks_refl _) hσ1_494
  refine kp_bn (ks_X12_goesOn hL) (fun σ2_495 hσ2_495 => ?_)
  have kσ2_495 : KS σ σ2_495 := ks_trans kσ1_494 hσ2_495
  refine kp_bn (ks_X12_goesBack hL) (fun σ3_496 hσ3_496 => ?_)
  have kσ3_496 : KS σ σ3_496 := ks_trans kσ2_495 hσ3_496
  exact kp_some kσ3_496

set_option maxRecDepth 100000 in
theorem ks_X12_ordersFrom_B_27 {N : Nat} {K len : Nat → Nat} {R : Int32 → Int32 → Int32 → SG → RG → Option (SG)} {a1 : Int32} {a2 : Int32} {a3 : Int32} {ρ : RG} (hL : Lay N K len ρ) (hR : ∀ (y0 : Int32) (y1 : Int32) (y2 : Int32) (σ : SG), kp (R y0 y1 y2 σ ρ) (fun q => KS σ q)) : ∀ (n : Nat) (σ : SG) (v1 : Int32) (v4 : Int32), kp (F_X12_ordersFrom_B_27 R a1 a2 a3 n σ ρ v1 v4) (fun q => KS σ q) := by
  intro n
  induction n with
  | zero => intro σ v1 v4; exact kp_none
  | succ n ih =>
    intro σ v1 v4
    unfold F_X12_ordersFrom_B_27
    refine kp_if ?_ ?_
    · exact kp_some (ks_refl _)
    · refine kp_gd (fun _ => ?_)
      refine kp_gd (fun _ => ?_)
      refine kp_nm (fun σ29_501 hσ29_501 => ?_)
      have kσ29_501 : KS σ σ29_501 := by rw [hσ29_501]; exact ks_trans (ks_refl _) (ks_row (by decide))
      refine kp_nm (fun x30_502 _ => ?_)
      exact kp_tr_ks (ih _ _ _) kσ29_501

set_option maxRecDepth 100000 in
theorem ks_X12_stands_2 {N : Nat} {K len : Nat → Nat} {a1 : Int32} {ρ : RG} (hL : Lay N K len ρ) : ∀ (n : Nat) (σ : SG) (v1 : Int32) (v2 : Int32), kp (F_X12_stands_2 a1 n σ ρ v1 v2) (fun q => KS σ q) := by
  intro n
  induction n with
  | zero => intro σ v1 v2; exact kp_none
  | succ n ih =>
    intro σ v1 v2
    unfold F_X12_stands_2
    refine kp_if ?_ ?_
    · exact kp_some (ks_refl _)
    · refine kp_nm (fun x2_504 _ => ?_)
      refine kp_nm (fun x3_505 _ => ?_)
      refine kp_gd (fun _ => ?_)
      refine kp_gd (fun _ => ?_)
      refine kp_nm (fun σ7_506 hσ7_506 => ?_)
      have kσ7_506 : KS σ σ7_506 := by rw [hσ7_506]; exact ks_trans (ks_refl _) (ks_row (by decide))
      refine kp_nm (fun x8_507 _ => ?_)
      exact kp_tr_ks (ih _ _ _) kσ7_506

set_option maxRecDepth 100000 in
theorem ks_X12_stands {N : Nat} {K len : Nat → Nat} {a1 : Int32} {σ : SG} {ρ : RG} (hL : Lay N K len ρ) : kp (F_X12_stands a1 σ ρ) (fun q => KS σ q) := by
  unfold F_X12_stands
  exact kp_tr_ks (ks_X12_stands_2 hL 1024 _ _ _) (ks_refl _)

set_option maxRecDepth 100000 in
theorem ks_X12_standsBack_2 {N : Nat} {K len : Nat → Nat} {a1 : Int32} {ρ : RG} (hL : Lay N K len ρ) : ∀ (n : Nat) (σ : SG) (v1 : Int32) (v2 : Int32), kp (F_X12_standsBack_2 a1 n σ ρ v1 v2) (fun q => KS σ q) := by
  intro n
  induction n with
  | zero => intro σ v1 v2; exact kp_none
  | succ n ih =>
    intro σ v1 v2
    unfold F_X12_standsBack_2
    refine kp_if ?_ ?_
    · exact kp_some (ks_refl _)
    · refine kp_nm (fun x2_514 _ => ?_)
      refine kp_nm (fun x3_515 _ => ?_)
      refine kp_gd (fun _ => ?_)
      refine kp_gd (fun _ => ?_)
      refine kp_nm (fun σ7_516 hσ7_516 => ?_)
      have kσ7_516 : KS σ σ7_516 := by rw [hσ7_516]; exact ks_trans (ks_refl _) (ks_row (by decide))
      refine kp_nm (fun x8_517 _ => ?_)
      exact kp_tr_ks (ih _ _ _) kσ7_516

set_option maxRecDepth 100000 in
theorem ks_X12_standsBack {N : Nat} {K len : Nat → Nat} {a1 : Int32} {σ : SG} {ρ : RG} (hL : Lay N K len ρ) : kp (F_X12_standsBack a1 σ ρ) (fun q => KS σ q) := by
  unfold F_X12_standsBack
  exact kp_tr_ks (ks_X12_standsBack_2 hL 1024 _ _ _) (ks_refl _)

set_option maxRecDepth 100000 in
theorem ks_X12_ordersFrom_B_62 {N : Nat} {K len : Nat → Nat} {R : Int32 → Int32 → Int32 → SG → RG → Option (SG)} {a1 : Int32} {a2 : Int32} {a3 : Int32} {ρ : RG} (hL : Lay N K len ρ) (hR : ∀ (y0 : Int32) (y1 : Int32) (y2 : Int32) (σ : SG), kp (R y0 y1 y2 σ ρ) (fun q => KS σ q)) : ∀ (n : Nat) (σ : SG) (v1 : Int32) (v2 : Int32) (v3 : Int32) (v4 : Int32), kp (F_X12_ordersFrom_B_62 R a1 a2 a3 n σ ρ v1 v2 v3 v4) (fun q => KS σ q) := by
  intro n
  induction n with
  | zero => intro σ v1 v2 v3 v4; exact kp_none
  | succ n ih =>
    intro σ v1 v2 v3 v4
    unfold F_X12_ordersFrom_B_62
    refine kp_if ?_ ?_
    · exact kp_some (ks_refl _)
    · refine kp_nm (fun x4_508 _ => ?_)
      refine kp_nm (fun x5_509 _ => ?_)
      refine kp_if ?_ ?_
      · refine kp_nm (fun x9_510 _ => ?_)
        refine kp_gd (fun _ => ?_)
        refine kp_bn2 (ks_X12_cuts hL) (fun r11_511 σ11_512 hr11_511 => ?_)
        have kσ11_512 : KS σ σ11_512 := ks_trans (ks_refl _) hr11_511
        refine kp_if ?_ ?_
        · unfold F_X12_ordersFrom_B_134
          refine kp_bn (ks_X12_standsBack hL) (fun σ7_513 hσ7_513 => ?_)
          have kσ7_513 : KS σ σ7_513 := ks_trans kσ11_512 hσ7_513
          refine kp_nm (fun x8_518 _ => ?_)
          exact kp_tr_ks (ih _ _ _ _ _) kσ7_513
        · refine kp_gd (fun _ => ?_)
          refine kp_nm (fun σ15_519 hσ15_519 => ?_)
          have kσ15_519 : KS σ σ15_519 := by rw [hσ15_519]; exact ks_trans kσ11_512 (ks_row (by decide))
          refine kp_nm (fun x16_520 _ => ?_)
          refine kp_nm (fun x17_521 _ => ?_)
          refine kp_nm (fun x18_522 _ => ?_)
          refine kp_nm (fun x19_523 _ => ?_)
          refine kp_nm (fun x20_524 _ => ?_)
          refine kp_bn (hR _ _ _ _) (fun σ21_525 hσ21_525 => ?_)
          have kσ21_525 : KS σ σ21_525 := ks_trans kσ15_519 hσ21_525
          unfold F_X12_ordersFrom_B_134
          refine kp_bn (ks_X12_standsBack hL) (fun σ7_526 hσ7_526 => ?_)
          have kσ7_526 : KS σ σ7_526 := ks_trans kσ21_525 hσ7_526
          refine kp_nm (fun x8_527 _ => ?_)
          exact kp_tr_ks (ih _ _ _ _ _) kσ7_526
      · unfold F_X12_ordersFrom_B_134
        refine kp_bn (ks_X12_standsBack hL) (fun σ7_528 hσ7_528 => ?_)
        have kσ7_528 : KS σ σ7_528 := ks_trans (ks_refl _) hσ7_528
        refine kp_nm (fun x8_529 _ => ?_)
        exact kp_tr_ks (ih _ _ _ _ _) kσ7_528

set_option maxRecDepth 100000 in
theorem ks_X12_ordersFrom_B {N : Nat} {K len : Nat → Nat} {R : Int32 → Int32 → Int32 → SG → RG → Option (SG)} {a1 : Int32} {a2 : Int32} {a3 : Int32} {σ : SG} {ρ : RG} (hL : Lay N K len ρ) (hR : ∀ (y0 : Int32) (y1 : Int32) (y2 : Int32) (σ : SG), kp (R y0 y1 y2 σ ρ) (fun q => KS σ q)) : kp (F_X12_ordersFrom_B R a1 a2 a3 σ ρ) (fun q => KS σ q) := by
  unfold F_X12_ordersFrom_B
  refine kp_if ?_ ?_
  · refine kp_if ?_ ?_
    · exact kp_some (ks_refl _)
    · refine kp_nm (fun σ24_500 hσ24_500 => ?_)
      have kσ24_500 : KS σ σ24_500 := by rw [hσ24_500]; exact ks_trans (ks_refl _) (ks_lit (by decide))
      exact kp_tr_ks (ks_X12_ordersFrom_B_27 hL hR 1024 _ _ _) kσ24_500
  · refine kp_bn (ks_X12_stands hL) (fun σ2_503 hσ2_503 => ?_)
    have kσ2_503 : KS σ σ2_503 := ks_trans (ks_refl _) hσ2_503
    exact kp_tr_ks (ks_X12_ordersFrom_B_62 hL hR 1024 _ _ _ _ _) kσ2_503

theorem ks_X12_ordersFrom_R {N : Nat} {K len : Nat → Nat} {ρ : RG} (hL : Lay N K len ρ) : ∀ (d : Nat) (a1 : Int32) (a2 : Int32) (a3 : Int32) (σ : SG), kp (F_X12_ordersFrom_R d a1 a2 a3 σ ρ) (fun q => KS σ q) := by
  intro d
  induction d with
  | zero => intro a1 a2 a3 σ; exact kp_none
  | succ d ih =>
    intro a1 a2 a3 σ
    exact ks_X12_ordersFrom_B hL ih

theorem ks_X12_ordersFrom {N : Nat} {K len : Nat → Nat} {a1 : Int32} {a2 : Int32} {a3 : Int32} {σ : SG} {ρ : RG} (hL : Lay N K len ρ) : kp (F_X12_ordersFrom a1 a2 a3 σ ρ) (fun q => KS σ q) := ks_X12_ordersFrom_R hL _ _ _ _ _

set_option maxRecDepth 100000 in
theorem ks_X12_order_27 {N : Nat} {K len : Nat → Nat} {a1 : Int32} {ρ : RG} (hL : Lay N K len ρ) : ∀ (n : Nat) (σ : SG) (v1 : Int32) (v2 : Int32), kp (F_X12_order_27 a1 n σ ρ v1 v2) (fun q => KS σ q.2) := by
  intro n
  induction n with
  | zero => intro σ v1 v2; exact kp_none
  | succ n ih =>
    intro σ v1 v2
    unfold F_X12_order_27
    refine kp_if ?_ ?_
    · refine kp_nm (fun σ6_498 hσ6_498 => ?_)
      have kσ6_498 : KS σ σ6_498 := by rw [hσ6_498]; exact ks_trans (ks_refl _) (ks_lit (by decide))
      refine kp_bn (ks_X12_ordersFrom hL) (fun σ7_499 hσ7_499 => ?_)
      have kσ7_499 : KS σ σ7_499 := ks_trans kσ6_498 hσ7_499
      refine kp_if ?_ ?_
      · refine kp_if ?_ ?_
        · exact kp_some kσ7_499
        · exact kp_some kσ7_499
      · refine kp_gd (fun _ => ?_)
        exact kp_some kσ7_499
    · refine kp_gd (fun _ => ?_)
      refine kp_nm (fun σ13_530 hσ13_530 => ?_)
      have kσ13_530 : KS σ σ13_530 := by rw [hσ13_530]; exact ks_trans (ks_refl _) (ks_row (by decide))
      refine kp_nm (fun x14_531 _ => ?_)
      exact kp_tr2_ks (ih _ _ _) kσ13_530

set_option maxRecDepth 100000 in
theorem ks_X12_order {N : Nat} {K len : Nat → Nat} {a1 : Int32} {σ : SG} {ρ : RG} (hL : Lay N K len ρ) : kp (F_X12_order a1 σ ρ) (fun q => KS σ q.2) := by
  unfold F_X12_order
  refine kp_bx (fun r1_497 => ?_)
  refine kp_if ?_ ?_
  · exact kp_some (ks_refl _)
  · refine kp_if ?_ ?_
    · exact kp_tr2_ks (ks_X12_order_27 hL 1024 _ _ _) (ks_refl _)
    · exact kp_some (ks_refl _)

set_option maxRecDepth 100000 in
theorem ks_X12_cancel_12 {N : Nat} {K len : Nat → Nat} {ρ : RG} (hL : Lay N K len ρ) : ∀ (n : Nat) (σ : SG) (v1 : Int32) (v2 : Int32) (v3 : Int32), kp (F_X12_cancel_12 n σ ρ v1 v2 v3) (fun q => KS σ q.2) := by
  intro n
  induction n with
  | zero => intro σ v1 v2 v3; exact kp_none
  | succ n ih =>
    intro σ v1 v2 v3
    unfold F_X12_cancel_12
    refine kp_nm (fun x2_533 _ => ?_)
    refine kp_if ?_ ?_
    · exact kp_some (ks_refl _)
    · refine kp_gd (fun _ => ?_)
      refine kp_nm (fun x5_534 _ => ?_)
      refine kp_gd (fun _ => ?_)
      refine kp_nm (fun x7_535 _ => ?_)
      refine kp_nm (fun x8_536 _ => ?_)
      refine kp_gd (fun _ => ?_)
      refine kp_bn2 (ks_X12_cuts hL) (fun r10_537 σ10_538 hr10_537 => ?_)
      have kσ10_538 : KS σ σ10_538 := ks_trans (ks_refl _) hr10_537
      refine kp_if ?_ ?_
      · unfold F_X12_cancel_143
        refine kp_bn (ks_X12_goesBack hL) (fun σ12_539 hσ12_539 => ?_)
        have kσ12_539 : KS σ σ12_539 := ks_trans kσ10_538 hσ12_539
        refine kp_nm (fun x13_540 _ => ?_)
        exact kp_tr2_ks (ih _ _ _ _) kσ12_539
      · refine kp_nm (fun x14_541 _ => ?_)
        refine kp_gd (fun _ => ?_)
        refine kp_bn2 (ks_X12_cuts hL) (fun r16_542 σ16_543 hr16_542 => ?_)
        have kσ16_543 : KS σ σ16_543 := ks_trans kσ10_538 hr16_542
        refine kp_if ?_ ?_
        · unfold F_X12_cancel_143
          refine kp_bn (ks_X12_goesBack hL) (fun σ12_544 hσ12_544 => ?_)
          have kσ12_544 : KS σ σ12_544 := ks_trans kσ16_543 hσ12_544
          refine kp_nm (fun x13_545 _ => ?_)
          exact kp_tr2_ks (ih _ _ _ _) kσ12_544
        · refine kp_bx (fun r18_546 => ?_)
          refine kp_bx (fun r19_547 => ?_)
          refine kp_nm (fun x20_548 _ => ?_)
          refine kp_if ?_ ?_
          · unfold F_X12_cancel_143
            refine kp_bn (ks_X12_goesBack hL) (fun σ12_549 hσ12_549 => ?_)
            have kσ12_549 : KS σ σ12_549 := ks_trans kσ16_543 hσ12_549
            refine kp_nm (fun x13_550 _ => ?_)
            exact kp_tr2_ks (ih _ _ _ _) kσ12_549
          · refine kp_bx (fun r22_551 => ?_)
            refine kp_bx (fun r23_552 => ?_)
            refine kp_nm (fun x24_553 _ => ?_)
            refine kp_nm (fun x25_554 _ => ?_)
            refine kp_nm (fun x26_555 _ => ?_)
            unfold F_X12_cancel_143
            refine kp_bn (ks_X12_goesBack hL) (fun σ12_556 hσ12_556 => ?_)
            have kσ12_556 : KS σ σ12_556 := ks_trans kσ16_543 hσ12_556
            refine kp_nm (fun x13_557 _ => ?_)
            exact kp_tr2_ks (ih _ _ _ _) kσ12_556

set_option maxRecDepth 100000 in
theorem ks_X12_cancel {N : Nat} {K len : Nat → Nat} {σ : SG} {ρ : RG} (hL : Lay N K len ρ) : kp (F_X12_cancel σ ρ) (fun q => KS σ q.2) := by
  unfold F_X12_cancel
  refine kp_bn (ks_X12_keeps hL) (fun σ1_532 hσ1_532 => ?_)
  have kσ1_532 : KS σ σ1_532 := ks_trans (ks_refl _) hσ1_532
  exact kp_tr2_ks (ks_X12_cancel_12 hL 1024 _ _ _ _) kσ1_532

set_option maxRecDepth 100000 in
theorem ks_X12_enough_16 {N : Nat} {K len : Nat → Nat} {a1 : Int32} {ρ : RG} (hL : Lay N K len ρ) : ∀ (n : Nat) (σ : SG) (v1 : Int32) (v2 : Int32), kp (F_X12_enough_16 a1 n σ ρ v1 v2) (fun q => KS σ q.2) := by
  intro n
  induction n with
  | zero => intro σ v1 v2; exact kp_none
  | succ n ih =>
    intro σ v1 v2
    unfold F_X12_enough_16
    refine kp_if ?_ ?_
    · exact kp_some (ks_refl _)
    · refine kp_bn2 (ks_X12_cuts hL) (fun r5_560 σ5_561 hr5_560 => ?_)
      have kσ5_561 : KS σ σ5_561 := ks_trans (ks_refl _) hr5_560
      refine kp_if ?_ ?_
      · unfold F_X12_enough_42
        unfold F_X12_enough_43
        refine kp_bn (ks_X12_goesBack hL) (fun σ7_562 hσ7_562 => ?_)
        have kσ7_562 : KS σ σ7_562 := ks_trans kσ5_561 hσ7_562
        refine kp_if ?_ ?_
        · refine kp_nm (fun x9_563 _ => ?_)
          exact kp_tr2_ks (ih _ _ _) kσ7_562
        · exact kp_some kσ7_562
      · refine kp_bx (fun r10_564 => ?_)
        refine kp_if ?_ ?_
        · unfold F_X12_enough_42
          unfold F_X12_enough_43
          refine kp_bn (ks_X12_goesBack hL) (fun σ7_565 hσ7_565 => ?_)
          have kσ7_565 : KS σ σ7_565 := ks_trans kσ5_561 hσ7_565
          refine kp_if ?_ ?_
          · refine kp_nm (fun x9_566 _ => ?_)
            exact kp_tr2_ks (ih _ _ _) kσ7_565
          · exact kp_some kσ7_565
        · unfold F_X12_enough_43
          refine kp_bn (ks_X12_goesBack hL) (fun σ7_567 hσ7_567 => ?_)
          have kσ7_567 : KS σ σ7_567 := ks_trans kσ5_561 hσ7_567
          refine kp_if ?_ ?_
          · refine kp_nm (fun x9_568 _ => ?_)
            exact kp_tr2_ks (ih _ _ _) kσ7_567
          · exact kp_some kσ7_567

set_option maxRecDepth 100000 in
theorem ks_X12_enough {N : Nat} {K len : Nat → Nat} {a1 : Int32} {σ : SG} {ρ : RG} (hL : Lay N K len ρ) : kp (F_X12_enough a1 σ ρ) (fun q => KS σ q.2) := by
  unfold F_X12_enough
  refine kp_bx (fun r1_558 => ?_)
  refine kp_if ?_ ?_
  · exact kp_some (ks_refl _)
  · refine kp_bn (ks_X12_keeps hL) (fun σ3_559 hσ3_559 => ?_)
    have kσ3_559 : KS σ σ3_559 := ks_trans (ks_refl _) hσ3_559
    exact kp_tr2_ks (ks_X12_enough_16 hL 1024 _ _ _) kσ3_559

set_option maxRecDepth 100000 in
theorem ks_X12_goodBy {N : Nat} {K len : Nat → Nat} {a1 : Int32} {a2 : Int32} {σ : SG} {ρ : RG} (hL : Lay N K len ρ) : kp (F_X12_goodBy a1 a2 σ ρ) (fun q => KS σ q.2) := by
  unfold F_X12_goodBy
  refine kp_bn (ks_X12_goesOn hL) (fun σ1_574 hσ1_574 => ?_)
  have kσ1_574 : KS σ σ1_574 := ks_trans (ks_refl _) hσ1_574
  refine kp_bn (ks_X12_goesBack hL) (fun σ2_575 hσ2_575 => ?_)
  have kσ2_575 : KS σ σ2_575 := ks_trans kσ1_574 hσ2_575
  exact kp_some kσ2_575

set_option maxRecDepth 100000 in
theorem ks_X12_when_42 {N : Nat} {K len : Nat → Nat} {a1 : Int32} {a2 : Int32} {ρ : RG} (hL : Lay N K len ρ) : ∀ (n : Nat) (σ : SG) (v1 : Int32) (v2 : Int32) (v3 : Int32) (v4 : Int32) (v5 : Int32), kp (F_X12_when_42 a1 a2 n σ ρ v1 v2 v3 v4 v5) (fun q => KS σ q.2) := by
  intro n
  induction n with
  | zero => intro σ v1 v2 v3 v4 v5; exact kp_none
  | succ n ih =>
    intro σ v1 v2 v3 v4 v5
    unfold F_X12_when_42
    refine kp_if ?_ ?_
    · refine kp_if ?_ ?_
      · exact kp_some (ks_refl _)
      · refine kp_if ?_ ?_
        · exact kp_some (ks_refl _)
        · exact kp_some (ks_refl _)
    · refine kp_bn2 (ks_X12_goodBy hL) (fun r10_576 σ10_577 hr10_576 => ?_)
      have kσ10_577 : KS σ σ10_577 := ks_trans (ks_refl _) hr10_576
      refine kp_if ?_ ?_
      · unfold F_X12_when_70
        refine kp_if ?_ ?_
        · unfold F_X12_when_84
          refine kp_nm (fun x13_578 _ => ?_)
          exact kp_tr2_ks (ih _ _ _ _ _ _) kσ10_577
        · unfold F_X12_when_84
          refine kp_nm (fun x13_579 _ => ?_)
          exact kp_tr2_ks (ih _ _ _ _ _ _) kσ10_577
      · unfold F_X12_when_70
        refine kp_if ?_ ?_
        · unfold F_X12_when_84
          refine kp_nm (fun x13_580 _ => ?_)
          exact kp_tr2_ks (ih _ _ _ _ _ _) kσ10_577
        · unfold F_X12_when_84
          refine kp_nm (fun x13_581 _ => ?_)
          exact kp_tr2_ks (ih _ _ _ _ _ _) kσ10_577

set_option maxRecDepth 100000 in
theorem ks_X12_when {N : Nat} {K len : Nat → Nat} {a1 : Int32} {a2 : Int32} {σ : SG} {ρ : RG} (hL : Lay N K len ρ) : kp (F_X12_when a1 a2 σ ρ) (fun q => KS σ q.2) := by
  unfold F_X12_when
  refine kp_bx (fun r1_569 => ?_)
  refine kp_if ?_ ?_
  · exact kp_some (ks_refl _)
  · refine kp_bx (fun r3_570 => ?_)
    refine kp_if ?_ ?_
    · exact kp_some (ks_refl _)
    · refine kp_bn (ks_X12_keeps hL) (fun σ5_571 hσ5_571 => ?_)
      have kσ5_571 : KS σ σ5_571 := ks_trans (ks_refl _) hσ5_571
      refine kp_bn2 (ks_X12_goodBy hL) (fun r6_572 σ6_573 hr6_572 => ?_)
      have kσ6_573 : KS σ σ6_573 := ks_trans kσ5_571 hr6_572
      exact kp_tr2_ks (ks_X12_when_42 hL 1024 _ _ _ _ _ _) kσ6_573

set_option maxRecDepth 100000 in
theorem ks_X12_guide {N : Nat} {K len : Nat → Nat} {a1 : Int32} {σ : SG} {ρ : RG} (hL : Lay N K len ρ) : kp (F_X12_guide a1 σ ρ) (fun q => KS σ q.2) := by
  unfold F_X12_guide
  refine kp_bx (fun r1_582 => ?_)
  refine kp_if ?_ ?_
  · exact kp_some (ks_refl _)
  · refine kp_bn (ks_X12_keeps hL) (fun σ3_583 hσ3_583 => ?_)
    have kσ3_583 : KS σ σ3_583 := ks_trans (ks_refl _) hσ3_583
    refine kp_bn2 (ks_X12_goodBy hL) (fun r4_584 σ4_585 hr4_584 => ?_)
    have kσ4_585 : KS σ σ4_585 := ks_trans kσ3_583 hr4_584
    refine kp_nm (fun σ6_586 hσ6_586 => ?_)
    have kσ6_586 : KS σ σ6_586 := by rw [hσ6_586]; exact ks_trans kσ4_585 (ks_lit (by decide))
    refine kp_bn2 (ks_X12_goodBy hL) (fun r7_587 σ7_588 hr7_587 => ?_)
    have kσ7_588 : KS σ σ7_588 := ks_trans kσ6_586 hr7_587
    refine kp_nm (fun σ9_589 hσ9_589 => ?_)
    have kσ9_589 : KS σ σ9_589 := by rw [hσ9_589]; exact ks_trans kσ7_588 (ks_lit (by decide))
    refine kp_nm (fun x10_590 _ => ?_)
    exact kp_some kσ9_589

set_option maxRecDepth 100000 in
theorem ks_X12_again_24 {N : Nat} {K len : Nat → Nat} {a1 : Int32} {ρ : RG} (hL : Lay N K len ρ) : ∀ (n : Nat) (σ : SG) (v1 : Int32) (v2 : Int32) (v3 : Int32), kp (F_X12_again_24 a1 n σ ρ v1 v2 v3) (fun q => KS σ q.2) := by
  intro n
  induction n with
  | zero => intro σ v1 v2 v3; exact kp_none
  | succ n ih =>
    intro σ v1 v2 v3
    unfold F_X12_again_24
    refine kp_if ?_ ?_
    · unfold F_X12_again_106
      refine kp_nm (fun σ8_594 hσ8_594 => ?_)
      have kσ8_594 : KS σ σ8_594 := by rw [hσ8_594]; exact ks_trans (ks_refl _) (ks_lit (by decide))
      refine kp_bn (ks_X12_goesBack hL) (fun σ9_595 hσ9_595 => ?_)
      have kσ9_595 : KS σ σ9_595 := ks_trans kσ8_594 hσ9_595
      exact kp_some kσ9_595
    · refine kp_if ?_ ?_
      · refine kp_nm (fun x11_596 _ => ?_)
        refine kp_gd (fun _ => ?_)
        refine kp_bn2 (ks_X12_cuts hL) (fun r13_597 σ13_598 hr13_597 => ?_)
        have kσ13_598 : KS σ σ13_598 := ks_trans (ks_refl _) hr13_597
        refine kp_nm (fun σ15_599 hσ15_599 => ?_)
        have kσ15_599 : KS σ σ15_599 := by rw [hσ15_599]; exact ks_trans kσ13_598 (ks_lit (by decide))
        refine kp_if ?_ ?_
        · refine kp_if ?_ ?_
          · unfold F_X12_again_99
            refine kp_nm (fun x17_600 _ => ?_)
            exact kp_tr2_ks (ih _ _ _ _) kσ15_599
          · unfold F_X12_again_97
            unfold F_X12_again_99
            refine kp_nm (fun x17_601 _ => ?_)
            exact kp_tr2_ks (ih _ _ _ _) kσ15_599
        · unfold F_X12_again_97
          unfold F_X12_again_99
          refine kp_nm (fun x17_602 _ => ?_)
          exact kp_tr2_ks (ih _ _ _ _) kσ15_599
      · unfold F_X12_again_106
        refine kp_nm (fun σ8_603 hσ8_603 => ?_)
        have kσ8_603 : KS σ σ8_603 := by rw [hσ8_603]; exact ks_trans (ks_refl _) (ks_lit (by decide))
        refine kp_bn (ks_X12_goesBack hL) (fun σ9_604 hσ9_604 => ?_)
        have kσ9_604 : KS σ σ9_604 := ks_trans kσ8_603 hσ9_604
        exact kp_some kσ9_604

set_option maxRecDepth 100000 in
theorem ks_X12_again {N : Nat} {K len : Nat → Nat} {a1 : Int32} {σ : SG} {ρ : RG} (hL : Lay N K len ρ) : kp (F_X12_again a1 σ ρ) (fun q => KS σ q.2) := by
  unfold F_X12_again
  refine kp_bx (fun r1_591 => ?_)
  refine kp_if ?_ ?_
  · exact kp_some (ks_refl _)
  · refine kp_bn (ks_X12_keeps hL) (fun σ3_592 hσ3_592 => ?_)
    have kσ3_592 : KS σ σ3_592 := ks_trans (ks_refl _) hσ3_592
    refine kp_nm (fun σ5_593 hσ5_593 => ?_)
    have kσ5_593 : KS σ σ5_593 := by rw [hσ5_593]; exact ks_trans kσ3_592 (ks_lit (by decide))
    exact kp_tr2_ks (ks_X12_again_24 hL 1024 _ _ _ _) kσ5_593

set_option maxRecDepth 100000 in
theorem ks_X12_evener_61 {N : Nat} {K len : Nat → Nat} {a1 : Int32} {a2 : Int32} {ρ : RG} (hL : Lay N K len ρ) : ∀ (n : Nat) (σ : SG) (v2 : Int32) (v3 : Int32) (v4 : Int32) (v5 : Int32), kp (F_X12_evener_61 a1 a2 n σ ρ v2 v3 v4 v5) (fun q => KS σ q.2) := by
  intro n
  induction n with
  | zero => intro σ v2 v3 v4 v5; exact kp_none
  | succ n ih =>
    intro σ v2 v3 v4 v5
    unfold F_X12_evener_61
    refine kp_if ?_ ?_
    · refine kp_nm (fun x9_609 _ => ?_)
      refine kp_gd (fun _ => ?_)
      refine kp_nm (fun x11_610 _ => ?_)
      refine kp_bn (ks_X12_goesBack hL) (fun σ12_611 hσ12_611 => ?_)
      have kσ12_611 : KS σ σ12_611 := ks_trans (ks_refl _) hσ12_611
      refine kp_if ?_ ?_
      · exact kp_some kσ12_611
      · exact kp_some kσ12_611
    · refine kp_nm (fun x14_612 _ => ?_)
      refine kp_gd (fun _ => ?_)
      refine kp_nm (fun x16_613 _ => ?_)
      refine kp_gd (fun _ => ?_)
      refine kp_if ?_ ?_
      · unfold F_X12_evener_99
        refine kp_nm (fun x19_614 _ => ?_)
        refine kp_gd (fun _ => ?_)
        refine kp_if ?_ ?_
        · unfold F_X12_evener_128
          refine kp_nm (fun x22_615 _ => ?_)
          exact kp_tr2_ks (ih _ _ _ _ _) (ks_refl _)
        · refine kp_nm (fun x23_616 _ => ?_)
          refine kp_gd (fun _ => ?_)
          unfold F_X12_evener_128
          refine kp_nm (fun x22_617 _ => ?_)
          exact kp_tr2_ks (ih _ _ _ _ _) (ks_refl _)
      · unfold F_X12_evener_99
        refine kp_nm (fun x19_618 _ => ?_)
        refine kp_gd (fun _ => ?_)
        refine kp_if ?_ ?_
        · unfold F_X12_evener_128
          refine kp_nm (fun x22_619 _ => ?_)
          exact kp_tr2_ks (ih _ _ _ _ _) (ks_refl _)
        · refine kp_nm (fun x23_620 _ => ?_)
          refine kp_gd (fun _ => ?_)
          unfold F_X12_evener_128
          refine kp_nm (fun x22_621 _ => ?_)
          exact kp_tr2_ks (ih _ _ _ _ _) (ks_refl _)

set_option maxRecDepth 100000 in
theorem ks_X12_evener {N : Nat} {K len : Nat → Nat} {a1 : Int32} {a2 : Int32} {σ : SG} {ρ : RG} (hL : Lay N K len ρ) : kp (F_X12_evener a1 a2 σ ρ) (fun q => KS σ q.2) := by
  unfold F_X12_evener
  refine kp_bx (fun r1_605 => ?_)
  refine kp_if ?_ ?_
  · exact kp_some (ks_refl _)
  · refine kp_bx (fun r3_606 => ?_)
    refine kp_if ?_ ?_
    · exact kp_some (ks_refl _)
    · refine kp_if ?_ ?_
      · exact kp_some (ks_refl _)
      · refine kp_bn (ks_X12_keeps hL) (fun σ6_607 hσ6_607 => ?_)
        have kσ6_607 : KS σ σ6_607 := ks_trans (ks_refl _) hσ6_607
        refine kp_bn (ks_X12_goesOn hL) (fun σ7_608 hσ7_608 => ?_)
        have kσ7_608 : KS σ σ7_608 := ks_trans kσ6_607 hσ7_608
        exact kp_tr2_ks (ks_X12_evener_61 hL 1024 _ _ _ _ _) kσ7_608

set_option maxRecDepth 100000 in
theorem ks_X12_gameFor_B_24 {N : Nat} {K len : Nat → Nat} {R : Int32 → Int32 → Int32 → Int32 → SG → RG → Option (Int32 × SG)} {a1 : Int32} {a2 : Int32} {a3 : Int32} {a4 : Int32} {ρ : RG} (hL : Lay N K len ρ) (hR : ∀ (y0 : Int32) (y1 : Int32) (y2 : Int32) (y3 : Int32) (σ : SG), kp (R y0 y1 y2 y3 σ ρ) (fun q => KS σ q.2)) : ∀ (n : Nat) (σ : SG) (v1 : Int32) (v2 : Int32) (v3 : Int32) (v4 : Int32) (v5 : Int32) (v6 : Int32) (v7 : Int32), kp (F_X12_gameFor_B_24 R a1 a2 a3 a4 n σ ρ v1 v2 v3 v4 v5 v6 v7) (fun q => KS σ q.2) := by
  intro n
  induction n with
  | zero => intro σ v1 v2 v3 v4 v5 v6 v7; exact kp_none
  | succ n ih =>
    intro σ v1 v2 v3 v4 v5 v6 v7
    unfold F_X12_gameFor_B_24
    refine kp_if ?_ ?_
    · refine kp_if ?_ ?_
      · refine kp_nm (fun x7_629 _ => ?_)
        refine kp_bn2 (hR _ _ _ _ _) (fun r8_630 σ8_631 hr8_630 => ?_)
        have kσ8_631 : KS σ σ8_631 := ks_trans (ks_refl _) hr8_630
        refine kp_nm (fun x9_632 _ => ?_)
        refine kp_nm (fun σ11_633 hσ11_633 => ?_)
        have kσ11_633 : KS σ σ11_633 := by rw [hσ11_633]; exact ks_trans kσ8_631 (ks_lit (by decide))
        exact kp_some kσ11_633
      · refine kp_nm (fun σ6_634 hσ6_634 => ?_)
        have kσ6_634 : KS σ σ6_634 := by rw [hσ6_634]; exact ks_trans (ks_refl _) (ks_lit (by decide))
        exact kp_some kσ6_634
    · refine kp_nm (fun x12_635 _ => ?_)
      refine kp_gd (fun _ => ?_)
      refine kp_if ?_ ?_
      · unfold F_X12_gameFor_B_60
        refine kp_nm (fun x16_636 _ => ?_)
        refine kp_bx (fun r17_637 => ?_)
        refine kp_bn2 (ks_X12_cuts hL) (fun r18_638 σ18_639 hr18_638 => ?_)
        have kσ18_639 : KS σ σ18_639 := ks_trans (ks_refl _) hr18_638
        refine kp_if ?_ ?_
        · unfold F_X12_gameFor_B_133
          refine kp_bn (ks_X12_standsBack hL) (fun σ20_640 hσ20_640 => ?_)
          have kσ20_640 : KS σ σ20_640 := ks_trans kσ18_639 hσ20_640
          refine kp_nm (fun x21_641 _ => ?_)
          exact kp_tr2_ks (ih _ _ _ _ _ _ _ _) kσ20_640
        · refine kp_nm (fun x22_642 _ => ?_)
          refine kp_bn2 (hR _ _ _ _ _) (fun r23_643 σ23_644 hr23_643 => ?_)
          have kσ23_644 : KS σ σ23_644 := ks_trans kσ18_639 hr23_643
          refine kp_nm (fun x24_645 _ => ?_)
          refine kp_if ?_ ?_
          · unfold F_X12_gameFor_B_115
            refine kp_if ?_ ?_
            · unfold F_X12_gameFor_B_131
              unfold F_X12_gameFor_B_133
              refine kp_bn (ks_X12_standsBack hL) (fun σ20_646 hσ20_646 => ?_)
              have kσ20_646 : KS σ σ20_646 := ks_trans kσ23_644 hσ20_646
              refine kp_nm (fun x21_647 _ => ?_)
              exact kp_tr2_ks (ih _ _ _ _ _ _ _ _) kσ20_646
            · unfold F_X12_gameFor_B_131
              unfold F_X12_gameFor_B_133
              refine kp_bn (ks_X12_standsBack hL) (fun σ20_648 hσ20_648 => ?_)
              have kσ20_648 : KS σ σ20_648 := ks_trans kσ23_644 hσ20_648
              refine kp_nm (fun x21_649 _ => ?_)
              exact kp_tr2_ks (ih _ _ _ _ _ _ _ _) kσ20_648
          · unfold F_X12_gameFor_B_115
            refine kp_if ?_ ?_
            · unfold F_X12_gameFor_B_131
              unfold F_X12_gameFor_B_133
              refine kp_bn (ks_X12_standsBack hL) (fun σ20_650 hσ20_650 => ?_)
              have kσ20_650 : KS σ σ20_650 := ks_trans kσ23_644 hσ20_650
              refine kp_nm (fun x21_651 _ => ?_)
              exact kp_tr2_ks (ih _ _ _ _ _ _ _ _) kσ20_650
            · unfold F_X12_gameFor_B_131
              unfold F_X12_gameFor_B_133
              refine kp_bn (ks_X12_standsBack hL) (fun σ20_652 hσ20_652 => ?_)
              have kσ20_652 : KS σ σ20_652 := ks_trans kσ23_644 hσ20_652
              refine kp_nm (fun x21_653 _ => ?_)
              exact kp_tr2_ks (ih _ _ _ _ _ _ _ _) kσ20_652
      · refine kp_if ?_ ?_
        · unfold F_X12_gameFor_B_60
          refine kp_nm (fun x16_654 _ => ?_)
          refine kp_bx (fun r17_655 => ?_)
          refine kp_bn2 (ks_X12_cuts hL) (fun r18_656 σ18_657 hr18_656 => ?_)
          have kσ18_657 : KS σ σ18_657 := ks_trans (ks_refl _) hr18_656
          refine kp_if ?_ ?_
          · unfold F_X12_gameFor_B_133
            refine kp_bn (ks_X12_standsBack hL) (fun σ20_658 hσ20_658 => ?_)
            have kσ20_658 : KS σ σ20_658 := ks_trans kσ18_657 hσ20_658
            refine kp_nm (fun x21_659 _ => ?_)
            exact kp_tr2_ks (ih _ _ _ _ _ _ _ _) kσ20_658
          · refine kp_nm (fun x22_660 _ => ?_)
            refine kp_bn2 (hR _ _ _ _ _) (fun r23_661 σ23_662 hr23_661 => ?_)
            have kσ23_662 : KS σ σ23_662 := ks_trans kσ18_657 hr23_661
            refine kp_nm (fun x24_663 _ => ?_)
            refine kp_if ?_ ?_
            · unfold F_X12_gameFor_B_115
              refine kp_if ?_ ?_
              · unfold F_X12_gameFor_B_131
                unfold F_X12_gameFor_B_133
                refine kp_bn (ks_X12_standsBack hL) (fun σ20_664 hσ20_664 => ?_)
                have kσ20_664 : KS σ σ20_664 := ks_trans kσ23_662 hσ20_664
                refine kp_nm (fun x21_665 _ => ?_)
                exact kp_tr2_ks (ih _ _ _ _ _ _ _ _) kσ20_664
              · unfold F_X12_gameFor_B_131
                unfold F_X12_gameFor_B_133
                refine kp_bn (ks_X12_standsBack hL) (fun σ20_666 hσ20_666 => ?_)
                have kσ20_666 : KS σ σ20_666 := ks_trans kσ23_662 hσ20_666
                refine kp_nm (fun x21_667 _ => ?_)
                exact kp_tr2_ks (ih _ _ _ _ _ _ _ _) kσ20_666
            · unfold F_X12_gameFor_B_115
              refine kp_if ?_ ?_
              · unfold F_X12_gameFor_B_131
                unfold F_X12_gameFor_B_133
                refine kp_bn (ks_X12_standsBack hL) (fun σ20_668 hσ20_668 => ?_)
                have kσ20_668 : KS σ σ20_668 := ks_trans kσ23_662 hσ20_668
                refine kp_nm (fun x21_669 _ => ?_)
                exact kp_tr2_ks (ih _ _ _ _ _ _ _ _) kσ20_668
              · unfold F_X12_gameFor_B_131
                unfold F_X12_gameFor_B_133
                refine kp_bn (ks_X12_standsBack hL) (fun σ20_670 hσ20_670 => ?_)
                have kσ20_670 : KS σ σ20_670 := ks_trans kσ23_662 hσ20_670
                refine kp_nm (fun x21_671 _ => ?_)
                exact kp_tr2_ks (ih _ _ _ _ _ _ _ _) kσ20_670
        · unfold F_X12_gameFor_B_60
          refine kp_nm (fun x16_672 _ => ?_)
          refine kp_bx (fun r17_673 => ?_)
          refine kp_bn2 (ks_X12_cuts hL) (fun r18_674 σ18_675 hr18_674 => ?_)
          have kσ18_675 : KS σ σ18_675 := ks_trans (ks_refl _) hr18_674
          refine kp_if ?_ ?_
          · unfold F_X12_gameFor_B_133
            refine kp_bn (ks_X12_standsBack hL) (fun σ20_676 hσ20_676 => ?_)
            have kσ20_676 : KS σ σ20_676 := ks_trans kσ18_675 hσ20_676
            refine kp_nm (fun x21_677 _ => ?_)
            exact kp_tr2_ks (ih _ _ _ _ _ _ _ _) kσ20_676
          · refine kp_nm (fun x22_678 _ => ?_)
            refine kp_bn2 (hR _ _ _ _ _) (fun r23_679 σ23_680 hr23_679 => ?_)
            have kσ23_680 : KS σ σ23_680 := ks_trans kσ18_675 hr23_679
            refine kp_nm (fun x24_681 _ => ?_)
            refine kp_if ?_ ?_
            · unfold F_X12_gameFor_B_115
              refine kp_if ?_ ?_
              · unfold F_X12_gameFor_B_131
                unfold F_X12_gameFor_B_133
                refine kp_bn (ks_X12_standsBack hL) (fun σ20_682 hσ20_682 => ?_)
                have kσ20_682 : KS σ σ20_682 := ks_trans kσ23_680 hσ20_682
                refine kp_nm (fun x21_683 _ => ?_)
                exact kp_tr2_ks (ih _ _ _ _ _ _ _ _) kσ20_682
              · unfold F_X12_gameFor_B_131
                unfold F_X12_gameFor_B_133
                refine kp_bn (ks_X12_standsBack hL) (fun σ20_684 hσ20_684 => ?_)
                have kσ20_684 : KS σ σ20_684 := ks_trans kσ23_680 hσ20_684
                refine kp_nm (fun x21_685 _ => ?_)
                exact kp_tr2_ks (ih _ _ _ _ _ _ _ _) kσ20_684
            · unfold F_X12_gameFor_B_115
              refine kp_if ?_ ?_
              · unfold F_X12_gameFor_B_131
                unfold F_X12_gameFor_B_133
                refine kp_bn (ks_X12_standsBack hL) (fun σ20_686 hσ20_686 => ?_)
                have kσ20_686 : KS σ σ20_686 := ks_trans kσ23_680 hσ20_686
                refine kp_nm (fun x21_687 _ => ?_)
                exact kp_tr2_ks (ih _ _ _ _ _ _ _ _) kσ20_686
              · unfold F_X12_gameFor_B_131
                unfold F_X12_gameFor_B_133
                refine kp_bn (ks_X12_standsBack hL) (fun σ20_688 hσ20_688 => ?_)
                have kσ20_688 : KS σ σ20_688 := ks_trans kσ23_680 hσ20_688
                refine kp_nm (fun x21_689 _ => ?_)
                exact kp_tr2_ks (ih _ _ _ _ _ _ _ _) kσ20_688

set_option maxRecDepth 100000 in
theorem ks_X12_gameFor_B {N : Nat} {K len : Nat → Nat} {R : Int32 → Int32 → Int32 → Int32 → SG → RG → Option (Int32 × SG)} {a1 : Int32} {a2 : Int32} {a3 : Int32} {a4 : Int32} {σ : SG} {ρ : RG} (hL : Lay N K len ρ) (hR : ∀ (y0 : Int32) (y1 : Int32) (y2 : Int32) (y3 : Int32) (σ : SG), kp (R y0 y1 y2 y3 σ ρ) (fun q => KS σ q.2)) : kp (F_X12_gameFor_B R a1 a2 a3 a4 σ ρ) (fun q => KS σ q.2) := by
  unfold F_X12_gameFor_B
  refine kp_if ?_ ?_
  · exact kp_some (ks_refl _)
  · refine kp_bn (ks_X12_stands hL) (fun σ2_628 hσ2_628 => ?_)
    have kσ2_628 : KS σ σ2_628 := ks_trans (ks_refl _) hσ2_628
    exact kp_tr2_ks (ks_X12_gameFor_B_24 hL hR 1024 _ _ _ _ _ _ _ _) kσ2_628

theorem ks_X12_gameFor_R {N : Nat} {K len : Nat → Nat} {ρ : RG} (hL : Lay N K len ρ) : ∀ (d : Nat) (a1 : Int32) (a2 : Int32) (a3 : Int32) (a4 : Int32) (σ : SG), kp (F_X12_gameFor_R d a1 a2 a3 a4 σ ρ) (fun q => KS σ q.2) := by
  intro d
  induction d with
  | zero => intro a1 a2 a3 a4 σ; exact kp_none
  | succ d ih =>
    intro a1 a2 a3 a4 σ
    exact ks_X12_gameFor_B hL ih

theorem ks_X12_gameFor {N : Nat} {K len : Nat → Nat} {a1 : Int32} {a2 : Int32} {a3 : Int32} {a4 : Int32} {σ : SG} {ρ : RG} (hL : Lay N K len ρ) : kp (F_X12_gameFor a1 a2 a3 a4 σ ρ) (fun q => KS σ q.2) := ks_X12_gameFor_R hL _ _ _ _ _ _

set_option maxRecDepth 100000 in
theorem ks_X12_game {N : Nat} {K len : Nat → Nat} {a1 : Int32} {a2 : Int32} {a3 : Int32} {a4 : Int32} {σ : SG} {ρ : RG} (hL : Lay N K len ρ) : kp (F_X12_game a1 a2 a3 a4 σ ρ) (fun q => KS σ q.2) := by
  unfold F_X12_game
  refine kp_bx (fun r1_622 => ?_)
  refine kp_if ?_ ?_
  · exact kp_some (ks_refl _)
  · refine kp_bx (fun r3_623 => ?_)
    refine kp_if ?_ ?_
    · exact kp_some (ks_refl _)
    · refine kp_bx (fun r5_624 => ?_)
      refine kp_if ?_ ?_
      · exact kp_some (ks_refl _)
      · refine kp_if ?_ ?_
        · exact kp_some (ks_refl _)
        · refine kp_bx (fun r8_625 => ?_)
          refine kp_if ?_ ?_
          · exact kp_some (ks_refl _)
          · refine kp_bn2 (ks_X12_gameFor hL) (fun r10_626 σ10_627 hr10_626 => ?_)
            have kσ10_627 : KS σ σ10_627 := ks_trans (ks_refl _) hr10_626
            refine kp_if ?_ ?_
            · exact kp_some kσ10_627
            · exact kp_some kσ10_627

set_option maxRecDepth 100000 in
theorem ks_X12_cheese_63 {N : Nat} {K len : Nat → Nat} {a1 : Int32} {a2 : Int32} {ρ : RG} (hL : Lay N K len ρ) : ∀ (n : Nat) (σ : SG) (v2 : Int32) (v3 : Int32) (v4 : Int32), kp (F_X12_cheese_63 a1 a2 n σ ρ v2 v3 v4) (fun q => KS σ q.2) := by
  intro n
  induction n with
  | zero => intro σ v2 v3 v4; exact kp_none
  | succ n ih =>
    intro σ v2 v3 v4
    unfold F_X12_cheese_63
    refine kp_if ?_ ?_
    · unfold F_X12_cheese_146
      refine kp_if ?_ ?_
      · exact kp_some (ks_refl _)
      · refine kp_if ?_ ?_
        · exact kp_some (ks_refl _)
        · refine kp_nm (fun x9_694 _ => ?_)
          refine kp_gd (fun _ => ?_)
          exact kp_some (ks_refl _)
    · refine kp_gd (fun _ => ?_)
      refine kp_nm (fun x12_695 _ => ?_)
      refine kp_nm (fun x13_696 _ => ?_)
      refine kp_gd (fun _ => ?_)
      refine kp_if ?_ ?_
      · unfold F_X12_cheese_146
        refine kp_if ?_ ?_
        · exact kp_some (ks_refl _)
        · refine kp_if ?_ ?_
          · exact kp_some (ks_refl _)
          · refine kp_nm (fun x9_697 _ => ?_)
            refine kp_gd (fun _ => ?_)
            exact kp_some (ks_refl _)
      · refine kp_gd (fun _ => ?_)
        refine kp_nm (fun x17_698 _ => ?_)
        refine kp_gd (fun _ => ?_)
        refine kp_nm (fun x19_699 _ => ?_)
        refine kp_gd (fun _ => ?_)
        refine kp_nm (fun x21_700 _ => ?_)
        refine kp_gd (fun _ => ?_)
        refine kp_nm (fun σ24_701 hσ24_701 => ?_)
        have kσ24_701 : KS σ σ24_701 := by rw [hσ24_701]; exact ks_trans (ks_refl _) (ks_row (by decide))
        refine kp_nm (fun x25_702 _ => ?_)
        refine kp_gd (fun _ => ?_)
        refine kp_nm (fun x27_703 _ => ?_)
        refine kp_nm (fun x28_704 _ => ?_)
        exact kp_tr2_ks (ih _ _ _ _) kσ24_701

set_option maxRecDepth 100000 in
theorem ks_X12_cheese_39 {N : Nat} {K len : Nat → Nat} {a1 : Int32} {a2 : Int32} {ρ : RG} (hL : Lay N K len ρ) : ∀ (n : Nat) (σ : SG) (v1 : Int32) (v2 : Int32) (v3 : Int32), kp (F_X12_cheese_39 a1 a2 n σ ρ v1 v2 v3) (fun q => KS σ q.2) := by
  intro n
  induction n with
  | zero => intro σ v1 v2 v3; exact kp_none
  | succ n ih =>
    intro σ v1 v2 v3
    unfold F_X12_cheese_39
    refine kp_if ?_ ?_
    · exact kp_tr2_ks (ks_X12_cheese_63 hL 1024 _ _ _ _) (ks_refl _)
    · refine kp_gd (fun _ => ?_)
      refine kp_nm (fun σ31_705 hσ31_705 => ?_)
      have kσ31_705 : KS σ σ31_705 := by rw [hσ31_705]; exact ks_trans (ks_refl _) (ks_row (by decide))
      refine kp_nm (fun x32_706 _ => ?_)
      exact kp_tr2_ks (ih _ _ _ _) kσ31_705

set_option maxRecDepth 100000 in
theorem ks_X12_cheese {N : Nat} {K len : Nat → Nat} {a1 : Int32} {a2 : Int32} {σ : SG} {ρ : RG} (hL : Lay N K len ρ) : kp (F_X12_cheese a1 a2 σ ρ) (fun q => KS σ q.2) := by
  unfold F_X12_cheese
  refine kp_bx (fun r1_690 => ?_)
  refine kp_if ?_ ?_
  · refine kp_nm (fun x33_691 _ => ?_)
    refine kp_bx (fun r34_692 => ?_)
    refine kp_if ?_ ?_
    · exact kp_some (ks_refl _)
    · unfold F_X12_cheese_22
      refine kp_bx (fun r3_693 => ?_)
      refine kp_if ?_ ?_
      · exact kp_some (ks_refl _)
      · exact kp_tr2_ks (ks_X12_cheese_39 hL 1024 _ _ _ _) (ks_refl _)
  · unfold F_X12_cheese_22
    refine kp_bx (fun r3_707 => ?_)
    refine kp_if ?_ ?_
    · exact kp_some (ks_refl _)
    · exact kp_tr2_ks (ks_X12_cheese_39 hL 1024 _ _ _ _) (ks_refl _)

set_option maxRecDepth 100000 in
theorem ks_X12_see {N : Nat} {K len : Nat → Nat} {a1 : Int32} {a2 : Int32} {σ : SG} {ρ : RG} (hL : Lay N K len ρ) : kp (F_X12_see a1 a2 σ ρ) (fun q => KS σ q.2) := by
  unfold F_X12_see
  refine kp_bx (fun r1_708 => ?_)
  refine kp_if ?_ ?_
  · exact kp_some (ks_refl _)
  · refine kp_bx (fun r3_709 => ?_)
    refine kp_if ?_ ?_
    · exact kp_some (ks_refl _)
    · refine kp_nm (fun σ6_710 hσ6_710 => ?_)
      have kσ6_710 : KS σ σ6_710 := by rw [hσ6_710]; exact ks_trans (ks_refl _) (ks_lit (by decide))
      refine kp_nm (fun σ8_711 hσ8_711 => ?_)
      have kσ8_711 : KS σ σ8_711 := by rw [hσ8_711]; exact ks_trans kσ6_710 (ks_lit (by decide))
      exact kp_some kσ8_711

set_option maxRecDepth 100000 in
theorem ks_X12_who_8 {N : Nat} {K len : Nat → Nat} {ρ : RG} (hL : Lay N K len ρ) : ∀ (n : Nat) (σ : SG) (v1 : Int32) (v2 : Int32), kp (F_X12_who_8 n σ ρ v1 v2) (fun q => KS σ q.2) := by
  intro n
  induction n with
  | zero => intro σ v1 v2; exact kp_none
  | succ n ih =>
    intro σ v1 v2
    unfold F_X12_who_8
    refine kp_if ?_ ?_
    · exact kp_some (ks_refl _)
    · refine kp_nm (fun x3_713 _ => ?_)
      refine kp_gd (fun _ => ?_)
      refine kp_bn2 (ks_X12_cuts hL) (fun r5_714 σ5_715 hr5_714 => ?_)
      have kσ5_715 : KS σ σ5_715 := ks_trans (ks_refl _) hr5_714
      refine kp_if ?_ ?_
      · unfold F_X12_who_75
        unfold F_X12_who_76
        refine kp_nm (fun x7_716 _ => ?_)
        refine kp_bn (ks_X12_goesBack hL) (fun σ8_717 hσ8_717 => ?_)
        have kσ8_717 : KS σ σ8_717 := ks_trans kσ5_715 hσ8_717
        refine kp_nm (fun x9_718 _ => ?_)
        exact kp_tr2_ks (ih _ _ _) kσ8_717
      · refine kp_if ?_ ?_
        · refine kp_if ?_ ?_
          · refine kp_nm (fun x12_719 _ => ?_)
            unfold F_X12_who_76
            refine kp_nm (fun x7_720 _ => ?_)
            refine kp_bn (ks_X12_goesBack hL) (fun σ8_721 hσ8_721 => ?_)
            have kσ8_721 : KS σ σ8_721 := ks_trans kσ5_715 hσ8_721
            refine kp_nm (fun x9_722 _ => ?_)
            exact kp_tr2_ks (ih _ _ _) kσ8_721
          · unfold F_X12_who_75
            unfold F_X12_who_76
            refine kp_nm (fun x7_723 _ => ?_)
            refine kp_bn (ks_X12_goesBack hL) (fun σ8_724 hσ8_724 => ?_)
            have kσ8_724 : KS σ σ8_724 := ks_trans kσ5_715 hσ8_724
            refine kp_nm (fun x9_725 _ => ?_)
            exact kp_tr2_ks (ih _ _ _) kσ8_724
        · unfold F_X12_who_75
          unfold F_X12_who_76
          refine kp_nm (fun x7_726 _ => ?_)
          refine kp_bn (ks_X12_goesBack hL) (fun σ8_727 hσ8_727 => ?_)
          have kσ8_727 : KS σ σ8_727 := ks_trans kσ5_715 hσ8_727
          refine kp_nm (fun x9_728 _ => ?_)
          exact kp_tr2_ks (ih _ _ _) kσ8_727

set_option maxRecDepth 100000 in
theorem ks_X12_who {N : Nat} {K len : Nat → Nat} {σ : SG} {ρ : RG} (hL : Lay N K len ρ) : kp (F_X12_who σ ρ) (fun q => KS σ q.2) := by
  unfold F_X12_who
  refine kp_bn (ks_X12_keeps hL) (fun σ1_712 hσ1_712 => ?_)
  have kσ1_712 : KS σ σ1_712 := ks_trans (ks_refl _) hσ1_712
  exact kp_tr2_ks (ks_X12_who_8 hL 1024 _ _ _) kσ1_712

set_option maxRecDepth 100000 in
theorem ks_X12_rowsFrom_B_13 {N : Nat} {K len : Nat → Nat} {R : Int32 → SG → RG → Option (SG)} {a1 : Int32} {ρ : RG} (hL : Lay N K len ρ) (hR : ∀ (y0 : Int32) (σ : SG), kp (R y0 σ ρ) (fun q => KS σ q)) : ∀ (n : Nat) (σ : SG) (v1 : Int32) (v2 : Int32), kp (F_X12_rowsFrom_B_13 R a1 n σ ρ v1 v2) (fun q => KS σ q) := by
  intro n
  induction n with
  | zero => intro σ v1 v2; exact kp_none
  | succ n ih =>
    intro σ v1 v2
    unfold F_X12_rowsFrom_B_13
    refine kp_if ?_ ?_
    · unfold F_X12_rowsFrom_B_43
      refine kp_nm (fun x19_732 _ => ?_)
      refine kp_nm (fun σ21_733 hσ21_733 => ?_)
      have kσ21_733 : KS σ σ21_733 := by rw [hσ21_733]; exact ks_trans (ks_refl _) (ks_lit (by decide))
      exact kp_some kσ21_733
    · refine kp_if ?_ ?_
      · refine kp_gd (fun _ => ?_)
        refine kp_gd (fun _ => ?_)
        refine kp_nm (fun σ26_734 hσ26_734 => ?_)
        have kσ26_734 : KS σ σ26_734 := by rw [hσ26_734]; exact ks_trans (ks_refl _) (ks_row (by decide))
        refine kp_nm (fun x27_735 _ => ?_)
        exact kp_tr_ks (ih _ _ _) kσ26_734
      · unfold F_X12_rowsFrom_B_43
        refine kp_nm (fun x19_736 _ => ?_)
        refine kp_nm (fun σ21_737 hσ21_737 => ?_)
        have kσ21_737 : KS σ σ21_737 := by rw [hσ21_737]; exact ks_trans (ks_refl _) (ks_lit (by decide))
        exact kp_some kσ21_737

set_option maxRecDepth 100000 in
theorem ks_X12_rowsFrom_B_61 {N : Nat} {K len : Nat → Nat} {R : Int32 → SG → RG → Option (SG)} {a1 : Int32} {ρ : RG} (hL : Lay N K len ρ) (hR : ∀ (y0 : Int32) (σ : SG), kp (R y0 σ ρ) (fun q => KS σ q)) : ∀ (n : Nat) (σ : SG) (v1 : Int32) (v2 : Int32), kp (F_X12_rowsFrom_B_61 R a1 n σ ρ v1 v2) (fun q => KS σ q) := by
  intro n
  induction n with
  | zero => intro σ v1 v2; exact kp_none
  | succ n ih =>
    intro σ v1 v2
    unfold F_X12_rowsFrom_B_61
    refine kp_if ?_ ?_
    · exact kp_some (ks_refl _)
    · refine kp_nm (fun x4_739 _ => ?_)
      refine kp_gd (fun _ => ?_)
      refine kp_bn2 (ks_X12_cuts hL) (fun r6_740 σ6_741 hr6_740 => ?_)
      have kσ6_741 : KS σ σ6_741 := ks_trans (ks_refl _) hr6_740
      refine kp_if ?_ ?_
      · unfold F_X12_rowsFrom_B_121
        refine kp_bn (ks_X12_standsBack hL) (fun σ8_742 hσ8_742 => ?_)
        have kσ8_742 : KS σ σ8_742 := ks_trans kσ6_741 hσ8_742
        refine kp_nm (fun x9_743 _ => ?_)
        exact kp_tr_ks (ih _ _ _) kσ8_742
      · refine kp_nm (fun x10_744 _ => ?_)
        refine kp_gd (fun _ => ?_)
        refine kp_if ?_ ?_
        · refine kp_gd (fun _ => ?_)
          refine kp_nm (fun σ15_745 hσ15_745 => ?_)
          have kσ15_745 : KS σ σ15_745 := by rw [hσ15_745]; exact ks_trans kσ6_741 (ks_row (by decide))
          refine kp_nm (fun x16_746 _ => ?_)
          refine kp_bn (hR _ _) (fun σ17_747 hσ17_747 => ?_)
          have kσ17_747 : KS σ σ17_747 := ks_trans kσ15_745 hσ17_747
          unfold F_X12_rowsFrom_B_121
          refine kp_bn (ks_X12_standsBack hL) (fun σ8_748 hσ8_748 => ?_)
          have kσ8_748 : KS σ σ8_748 := ks_trans kσ17_747 hσ8_748
          refine kp_nm (fun x9_749 _ => ?_)
          exact kp_tr_ks (ih _ _ _) kσ8_748
        · unfold F_X12_rowsFrom_B_121
          refine kp_bn (ks_X12_standsBack hL) (fun σ8_750 hσ8_750 => ?_)
          have kσ8_750 : KS σ σ8_750 := ks_trans kσ6_741 hσ8_750
          refine kp_nm (fun x9_751 _ => ?_)
          exact kp_tr_ks (ih _ _ _) kσ8_750

set_option maxRecDepth 100000 in
theorem ks_X12_rowsFrom_B {N : Nat} {K len : Nat → Nat} {R : Int32 → SG → RG → Option (SG)} {a1 : Int32} {σ : SG} {ρ : RG} (hL : Lay N K len ρ) (hR : ∀ (y0 : Int32) (σ : SG), kp (R y0 σ ρ) (fun q => KS σ q)) : kp (F_X12_rowsFrom_B R a1 σ ρ) (fun q => KS σ q) := by
  unfold F_X12_rowsFrom_B
  refine kp_if ?_ ?_
  · exact kp_tr_ks (ks_X12_rowsFrom_B_13 hL hR 1024 _ _ _) (ks_refl _)
  · refine kp_bn (ks_X12_stands hL) (fun σ2_738 hσ2_738 => ?_)
    have kσ2_738 : KS σ σ2_738 := ks_trans (ks_refl _) hσ2_738
    exact kp_tr_ks (ks_X12_rowsFrom_B_61 hL hR 1024 _ _ _) kσ2_738

theorem ks_X12_rowsFrom_R {N : Nat} {K len : Nat → Nat} {ρ : RG} (hL : Lay N K len ρ) : ∀ (d : Nat) (a1 : Int32) (σ : SG), kp (F_X12_rowsFrom_R d a1 σ ρ) (fun q => KS σ q) := by
  intro d
  induction d with
  | zero => intro a1 σ; exact kp_none
  | succ d ih =>
    intro a1 σ
    exact ks_X12_rowsFrom_B hL ih

theorem ks_X12_rowsFrom {N : Nat} {K len : Nat → Nat} {a1 : Int32} {σ : SG} {ρ : RG} (hL : Lay N K len ρ) : kp (F_X12_rowsFrom a1 σ ρ) (fun q => KS σ q) := ks_X12_rowsFrom_R hL _ _ _

set_option maxRecDepth 100000 in
theorem ks_X12_rows_13 {N : Nat} {K len : Nat → Nat} {a1 : Int32} {ρ : RG} (hL : Lay N K len ρ) : ∀ (n : Nat) (σ : SG) (v1 : Int32) (v2 : Int32), kp (F_X12_rows_13 a1 n σ ρ v1 v2) (fun q => KS σ q.2) := by
  intro n
  induction n with
  | zero => intro σ v1 v2; exact kp_none
  | succ n ih =>
    intro σ v1 v2
    unfold F_X12_rows_13
    refine kp_if ?_ ?_
    · refine kp_nm (fun σ5_730 hσ5_730 => ?_)
      have kσ5_730 : KS σ σ5_730 := by rw [hσ5_730]; exact ks_trans (ks_refl _) (ks_lit (by decide))
      refine kp_bn (ks_X12_rowsFrom hL) (fun σ6_731 hσ6_731 => ?_)
      have kσ6_731 : KS σ σ6_731 := ks_trans kσ5_730 hσ6_731
      refine kp_if ?_ ?_
      · exact kp_some kσ6_731
      · refine kp_gd (fun _ => ?_)
        exact kp_some kσ6_731
    · refine kp_gd (fun _ => ?_)
      refine kp_nm (fun σ11_752 hσ11_752 => ?_)
      have kσ11_752 : KS σ σ11_752 := by rw [hσ11_752]; exact ks_trans (ks_refl _) (ks_row (by decide))
      refine kp_nm (fun x12_753 _ => ?_)
      exact kp_tr2_ks (ih _ _ _) kσ11_752

set_option maxRecDepth 100000 in
theorem ks_X12_rows {N : Nat} {K len : Nat → Nat} {a1 : Int32} {σ : SG} {ρ : RG} (hL : Lay N K len ρ) : kp (F_X12_rows a1 σ ρ) (fun q => KS σ q.2) := by
  unfold F_X12_rows
  refine kp_bx (fun r1_729 => ?_)
  refine kp_if ?_ ?_
  · exact kp_some (ks_refl _)
  · exact kp_tr2_ks (ks_X12_rows_13 hL 1024 _ _ _) (ks_refl _)

set_option maxRecDepth 100000 in
theorem ks_X12_goodRows_B_17 {N : Nat} {K len : Nat → Nat} {R : Int32 → Int32 → SG → RG → Option (Int64 × SG)} {a1 : Int32} {a2 : Int32} {ρ : RG} (hL : Lay N K len ρ) (hR : ∀ (y0 : Int32) (y1 : Int32) (σ : SG), kp (R y0 y1 σ ρ) (fun q => KS σ q.2)) : ∀ (n : Nat) (σ : SG) (v1 : Int32) (v2 : Int32) (v3 : Int64) (v5 : Int32), kp (F_X12_goodRows_B_17 R a1 a2 n σ ρ v1 v2 v3 v5) (fun q => KS σ q.2) := by
  intro n
  induction n with
  | zero => intro σ v1 v2 v3 v5; exact kp_none
  | succ n ih =>
    intro σ v1 v2 v3 v5
    unfold F_X12_goodRows_B_17
    refine kp_if ?_ ?_
    · exact kp_some (ks_refl _)
    · refine kp_nm (fun x4_759 _ => ?_)
      refine kp_gd (fun _ => ?_)
      refine kp_bn2 (ks_X12_cuts hL) (fun r6_760 σ6_761 hr6_760 => ?_)
      have kσ6_761 : KS σ σ6_761 := ks_trans (ks_refl _) hr6_760
      refine kp_if ?_ ?_
      · unfold F_X12_goodRows_B_66
        refine kp_bn (ks_X12_standsBack hL) (fun σ8_762 hσ8_762 => ?_)
        have kσ8_762 : KS σ σ8_762 := ks_trans kσ6_761 hσ8_762
        refine kp_nm (fun x9_763 _ => ?_)
        exact kp_tr2_ks (ih _ _ _ _ _) kσ8_762
      · refine kp_bx (fun r10_764 => ?_)
        refine kp_if ?_ ?_
        · unfold F_X12_goodRows_B_66
          refine kp_bn (ks_X12_standsBack hL) (fun σ8_765 hσ8_765 => ?_)
          have kσ8_765 : KS σ σ8_765 := ks_trans kσ6_761 hσ8_765
          refine kp_nm (fun x9_766 _ => ?_)
          exact kp_tr2_ks (ih _ _ _ _ _) kσ8_765
        · refine kp_nm (fun x12_767 _ => ?_)
          refine kp_bn2 (hR _ _ _) (fun r13_768 σ13_769 hr13_768 => ?_)
          have kσ13_769 : KS σ σ13_769 := ks_trans kσ6_761 hr13_768
          refine kp_nm (fun x14_770 _ => ?_)
          unfold F_X12_goodRows_B_66
          refine kp_bn (ks_X12_standsBack hL) (fun σ8_771 hσ8_771 => ?_)
          have kσ8_771 : KS σ σ8_771 := ks_trans kσ13_769 hσ8_771
          refine kp_nm (fun x9_772 _ => ?_)
          exact kp_tr2_ks (ih _ _ _ _ _) kσ8_771

set_option maxRecDepth 100000 in
theorem ks_X12_goodRows_B {N : Nat} {K len : Nat → Nat} {R : Int32 → Int32 → SG → RG → Option (Int64 × SG)} {a1 : Int32} {a2 : Int32} {σ : SG} {ρ : RG} (hL : Lay N K len ρ) (hR : ∀ (y0 : Int32) (y1 : Int32) (σ : SG), kp (R y0 y1 σ ρ) (fun q => KS σ q.2)) : kp (F_X12_goodRows_B R a1 a2 σ ρ) (fun q => KS σ q.2) := by
  unfold F_X12_goodRows_B
  refine kp_if ?_ ?_
  · exact kp_some (ks_refl _)
  · refine kp_bn (ks_X12_stands hL) (fun σ2_758 hσ2_758 => ?_)
    have kσ2_758 : KS σ σ2_758 := ks_trans (ks_refl _) hσ2_758
    exact kp_tr2_ks (ks_X12_goodRows_B_17 hL hR 1024 _ _ _ _ _) kσ2_758

theorem ks_X12_goodRows_R {N : Nat} {K len : Nat → Nat} {ρ : RG} (hL : Lay N K len ρ) : ∀ (d : Nat) (a1 : Int32) (a2 : Int32) (σ : SG), kp (F_X12_goodRows_R d a1 a2 σ ρ) (fun q => KS σ q.2) := by
  intro d
  induction d with
  | zero => intro a1 a2 σ; exact kp_none
  | succ d ih =>
    intro a1 a2 σ
    exact ks_X12_goodRows_B hL ih

theorem ks_X12_goodRows {N : Nat} {K len : Nat → Nat} {a1 : Int32} {a2 : Int32} {σ : SG} {ρ : RG} (hL : Lay N K len ρ) : kp (F_X12_goodRows a1 a2 σ ρ) (fun q => KS σ q.2) := ks_X12_goodRows_R hL _ _ _ _

set_option maxRecDepth 100000 in
theorem ks_X12_odds_37 {N : Nat} {K len : Nat → Nat} {a1 : Int32} {a2 : Int32} {ρ : RG} (hL : Lay N K len ρ) : ∀ (n : Nat) (σ : SG) (v1 : Int32) (v2 : Int32) (v3 : Int64) (v5 : Int32), kp (F_X12_odds_37 a1 a2 n σ ρ v1 v2 v3 v5) (fun q => KS σ q.2) := by
  intro n
  induction n with
  | zero => intro σ v1 v2 v3 v5; exact kp_none
  | succ n ih =>
    intro σ v1 v2 v3 v5
    unfold F_X12_odds_37
    refine kp_if ?_ ?_
    · refine kp_bn2 (ks_X12_goodRows hL) (fun r7_756 σ7_757 hr7_756 => ?_)
      have kσ7_757 : KS σ σ7_757 := ks_trans (ks_refl _) hr7_756
      refine kp_bx (fun r8_773 => ?_)
      exact kp_some kσ7_757
    · refine kp_nm (fun x9_774 _ => ?_)
      refine kp_nm (fun x10_775 _ => ?_)
      exact kp_tr2_ks (ih _ _ _ _ _) (ks_refl _)

set_option maxRecDepth 100000 in
theorem ks_X12_odds {N : Nat} {K len : Nat → Nat} {a1 : Int32} {a2 : Int32} {σ : SG} {ρ : RG} (hL : Lay N K len ρ) : kp (F_X12_odds a1 a2 σ ρ) (fun q => KS σ q.2) := by
  unfold F_X12_odds
  refine kp_bx (fun r1_754 => ?_)
  refine kp_if ?_ ?_
  · exact kp_some (ks_refl _)
  · refine kp_bx (fun r3_755 => ?_)
    refine kp_if ?_ ?_
    · exact kp_some (ks_refl _)
    · refine kp_if ?_ ?_
      · exact kp_some (ks_refl _)
      · exact kp_tr2_ks (ks_X12_odds_37 hL 1024 _ _ _ _ _) (ks_refl _)

set_option maxRecDepth 100000 in
theorem ks_X12_mean_32 {N : Nat} {K len : Nat → Nat} {a1 : Int32} {ρ : RG} (hL : Lay N K len ρ) : ∀ (n : Nat) (σ : SG) (v1 : Int32) (v2 : Int64) (v4 : Int32), kp (F_X12_mean_32 a1 n σ ρ v1 v2 v4) (fun q => KS σ q.2) := by
  intro n
  induction n with
  | zero => intro σ v1 v2 v4; exact kp_none
  | succ n ih =>
    intro σ v1 v2 v4
    unfold F_X12_mean_32
    refine kp_if ?_ ?_
    · refine kp_bx (fun r6_778 => ?_)
      exact kp_some (ks_refl _)
    · refine kp_nm (fun x7_779 _ => ?_)
      refine kp_gd (fun _ => ?_)
      refine kp_bn2 (ks_X12_cuts hL) (fun r9_780 σ9_781 hr9_780 => ?_)
      have kσ9_781 : KS σ σ9_781 := ks_trans (ks_refl _) hr9_780
      refine kp_if ?_ ?_
      · unfold F_X12_mean_73
        refine kp_nm (fun x11_782 _ => ?_)
        refine kp_bn (ks_X12_goesBack hL) (fun σ12_783 hσ12_783 => ?_)
        have kσ12_783 : KS σ σ12_783 := ks_trans kσ9_781 hσ12_783
        refine kp_nm (fun x13_784 _ => ?_)
        exact kp_tr2_ks (ih _ _ _ _) kσ12_783
      · unfold F_X12_mean_73
        refine kp_nm (fun x11_785 _ => ?_)
        refine kp_bn (ks_X12_goesBack hL) (fun σ12_786 hσ12_786 => ?_)
        have kσ12_786 : KS σ σ12_786 := ks_trans kσ9_781 hσ12_786
        refine kp_nm (fun x13_787 _ => ?_)
        exact kp_tr2_ks (ih _ _ _ _) kσ12_786

set_option maxRecDepth 100000 in
theorem ks_X12_mean {N : Nat} {K len : Nat → Nat} {a1 : Int32} {σ : SG} {ρ : RG} (hL : Lay N K len ρ) : kp (F_X12_mean a1 σ ρ) (fun q => KS σ q.2) := by
  unfold F_X12_mean
  refine kp_bx (fun r1_776 => ?_)
  refine kp_if ?_ ?_
  · exact kp_some (ks_refl _)
  · refine kp_if ?_ ?_
    · exact kp_some (ks_refl _)
    · refine kp_bn (ks_X12_keeps hL) (fun σ4_777 hσ4_777 => ?_)
      have kσ4_777 : KS σ σ4_777 := ks_trans (ks_refl _) hσ4_777
      exact kp_tr2_ks (ks_X12_mean_32 hL 1024 _ _ _ _) kσ4_777

set_option maxRecDepth 100000 in
theorem ks_X12_book {N : Nat} {K len : Nat → Nat} {a1 : Int32} {a2 : Int32} {σ : SG} {ρ : RG} (hL : Lay N K len ρ) : kp (F_X12_book a1 a2 σ ρ) (fun q => KS σ q.2) := by
  unfold F_X12_book
  refine kp_if ?_ ?_
  · refine kp_nm (fun σ19_788 hσ19_788 => ?_)
    have kσ19_788 : KS σ σ19_788 := by rw [hσ19_788]; exact ks_trans (ks_refl _) (ks_lit (by decide))
    exact kp_some kσ19_788
  · refine kp_bx (fun r2_789 => ?_)
    refine kp_if ?_ ?_
    · exact kp_some (ks_refl _)
    · refine kp_bx (fun r4_790 => ?_)
      refine kp_if ?_ ?_
      · exact kp_some (ks_refl _)
      · refine kp_if ?_ ?_
        · exact kp_some (ks_refl _)
        · refine kp_nm (fun x7_791 _ => ?_)
          refine kp_gd (fun _ => ?_)
          refine kp_nm (fun σ10_792 hσ10_792 => ?_)
          have kσ10_792 : KS σ σ10_792 := by rw [hσ10_792]; exact ks_trans (ks_refl _) (ks_row (by decide))
          refine kp_nm (fun x11_793 _ => ?_)
          refine kp_gd (fun _ => ?_)
          refine kp_nm (fun σ14_794 hσ14_794 => ?_)
          have kσ14_794 : KS σ σ14_794 := by rw [hσ14_794]; exact ks_trans kσ10_792 (ks_row (by decide))
          refine kp_nm (fun x15_795 _ => ?_)
          refine kp_nm (fun σ17_796 hσ17_796 => ?_)
          have kσ17_796 : KS σ σ17_796 := by rw [hσ17_796]; exact ks_trans kσ14_794 (ks_lit (by decide))
          exact kp_some kσ17_796

set_option maxRecDepth 100000 in
theorem ks_X12_looked_9 {N : Nat} {K len : Nat → Nat} {ρ : RG} (hL : Lay N K len ρ) : ∀ (n : Nat) (σ : SG) (v1 : Int32) (v2 : Int32), kp (F_X12_looked_9 n σ ρ v1 v2) (fun q => KS σ q.2) := by
  intro n
  induction n with
  | zero => intro σ v1 v2; exact kp_none
  | succ n ih =>
    intro σ v1 v2
    unfold F_X12_looked_9
    refine kp_if ?_ ?_
    · refine kp_bn (ks_X12_goesBack hL) (fun σ3_798 hσ3_798 => ?_)
      have kσ3_798 : KS σ σ3_798 := ks_trans (ks_refl _) hσ3_798
      exact kp_some kσ3_798
    · refine kp_if ?_ ?_
      · refine kp_nm (fun x6_799 _ => ?_)
        refine kp_gd (fun _ => ?_)
        refine kp_nm (fun x8_800 _ => ?_)
        refine kp_gd (fun _ => ?_)
        refine kp_bn2 (ks_X12_cuts hL) (fun r10_801 σ10_802 hr10_801 => ?_)
        have kσ10_802 : KS σ σ10_802 := ks_trans (ks_refl _) hr10_801
        refine kp_if ?_ ?_
        · unfold F_X12_looked_69
          unfold F_X12_looked_75
          refine kp_nm (fun x12_803 _ => ?_)
          exact kp_tr2_ks (ih _ _ _) kσ10_802
        · refine kp_nm (fun x13_804 _ => ?_)
          refine kp_gd (fun _ => ?_)
          refine kp_if ?_ ?_
          · unfold F_X12_looked_75
            refine kp_nm (fun x12_805 _ => ?_)
            exact kp_tr2_ks (ih _ _ _) kσ10_802
          · unfold F_X12_looked_69
            unfold F_X12_looked_75
            refine kp_nm (fun x12_806 _ => ?_)
            exact kp_tr2_ks (ih _ _ _) kσ10_802
      · refine kp_bn (ks_X12_goesBack hL) (fun σ5_807 hσ5_807 => ?_)
        have kσ5_807 : KS σ σ5_807 := ks_trans (ks_refl _) hσ5_807
        exact kp_some kσ5_807

set_option maxRecDepth 100000 in
theorem ks_X12_looked {N : Nat} {K len : Nat → Nat} {σ : SG} {ρ : RG} (hL : Lay N K len ρ) : kp (F_X12_looked σ ρ) (fun q => KS σ q.2) := by
  unfold F_X12_looked
  refine kp_bn (ks_X12_keeps hL) (fun σ1_797 hσ1_797 => ?_)
  have kσ1_797 : KS σ σ1_797 := ks_trans (ks_refl _) hσ1_797
  exact kp_tr2_ks (ks_X12_looked_9 hL 1024 _ _ _) kσ1_797

set_option maxRecDepth 100000 in
theorem ks_X12_must {N : Nat} {K len : Nat → Nat} {a1 : Int32} {σ : SG} {ρ : RG} (hL : Lay N K len ρ) : kp (F_X12_must a1 σ ρ) (fun q => KS σ q) := by
  unfold F_X12_must
  refine kp_if ?_ ?_
  · refine kp_bx (fun r11_827 => ?_)
    refine kp_if ?_ ?_
    · unfold F_X12_must_21
      refine kp_gd (fun _ => ?_)
      refine kp_nm (fun σ3_828 hσ3_828 => ?_)
      have kσ3_828 : KS σ σ3_828 := by rw [hσ3_828]; exact ks_trans (ks_refl _) (ks_lit (by decide))
      refine kp_if ?_ ?_
      · refine kp_nm (fun x5_829 _ => ?_)
        refine kp_nm (fun σ7_830 hσ7_830 => ?_)
        have kσ7_830 : KS σ σ7_830 := by rw [hσ7_830]; exact ks_trans kσ3_828 (ks_lit (by decide))
        exact kp_some kσ7_830
      · refine kp_nm (fun x8_831 _ => ?_)
        refine kp_nm (fun σ10_832 hσ10_832 => ?_)
        have kσ10_832 : KS σ σ10_832 := by rw [hσ10_832]; exact ks_trans kσ3_828 (ks_lit (by decide))
        exact kp_some kσ10_832
    · unfold F_X12_must_16
      unfold F_X12_must_21
      refine kp_gd (fun _ => ?_)
      refine kp_nm (fun σ3_833 hσ3_833 => ?_)
      have kσ3_833 : KS σ σ3_833 := by rw [hσ3_833]; exact ks_trans (ks_refl _) (ks_lit (by decide))
      refine kp_if ?_ ?_
      · refine kp_nm (fun x5_834 _ => ?_)
        refine kp_nm (fun σ7_835 hσ7_835 => ?_)
        have kσ7_835 : KS σ σ7_835 := by rw [hσ7_835]; exact ks_trans kσ3_833 (ks_lit (by decide))
        exact kp_some kσ7_835
      · refine kp_nm (fun x8_836 _ => ?_)
        refine kp_nm (fun σ10_837 hσ10_837 => ?_)
        have kσ10_837 : KS σ σ10_837 := by rw [hσ10_837]; exact ks_trans kσ3_833 (ks_lit (by decide))
        exact kp_some kσ10_837
  · unfold F_X12_must_16
    unfold F_X12_must_21
    refine kp_gd (fun _ => ?_)
    refine kp_nm (fun σ3_838 hσ3_838 => ?_)
    have kσ3_838 : KS σ σ3_838 := by rw [hσ3_838]; exact ks_trans (ks_refl _) (ks_lit (by decide))
    refine kp_if ?_ ?_
    · refine kp_nm (fun x5_839 _ => ?_)
      refine kp_nm (fun σ7_840 hσ7_840 => ?_)
      have kσ7_840 : KS σ σ7_840 := by rw [hσ7_840]; exact ks_trans kσ3_838 (ks_lit (by decide))
      exact kp_some kσ7_840
    · refine kp_nm (fun x8_841 _ => ?_)
      refine kp_nm (fun σ10_842 hσ10_842 => ?_)
      have kσ10_842 : KS σ σ10_842 := by rw [hσ10_842]; exact ks_trans kσ3_838 (ks_lit (by decide))
      exact kp_some kσ10_842

set_option maxRecDepth 100000 in
theorem ks_X12_spells_2 {N : Nat} {K len : Nat → Nat} {w : Nat} {ρ : RG} (hL : Lay N K len ρ) : ∀ (n : Nat) (σ : SG) (v2 : Int32), kp (F_X12_spells_2 w n σ ρ v2) (fun q => KS σ q) := by
  intro n
  induction n with
  | zero => intro σ v2; exact kp_none
  | succ n ih =>
    intro σ v2
    unfold F_X12_spells_2
    refine kp_bx (fun r1_824 => ?_)
    refine kp_if ?_ ?_
    · exact kp_some (ks_refl _)
    · refine kp_bx (fun r3_825 => ?_)
      refine kp_bn (ks_X12_must hL) (fun σ4_826 hσ4_826 => ?_)
      have kσ4_826 : KS σ σ4_826 := ks_trans (ks_refl _) hσ4_826
      refine kp_nm (fun x5_843 _ => ?_)
      exact kp_tr_ks (ih _ _) kσ4_826

set_option maxRecDepth 100000 in
theorem ks_X12_spells {N : Nat} {K len : Nat → Nat} {w : Nat} {σ : SG} {ρ : RG} (hL : Lay N K len ρ) : kp (F_X12_spells w σ ρ) (fun q => KS σ q) := by
  unfold F_X12_spells
  exact kp_tr_ks (ks_X12_spells_2 hL 1024 _ _) (ks_refl _)

set_option maxRecDepth 100000 in
theorem ks_X12_figures_34 {N : Nat} {K len : Nat → Nat} {ρ : RG} (hL : Lay N K len ρ) : ∀ (n : Nat) (σ : SG) (v1 : Int32) (v2 : Int32), kp (F_X12_figures_34 n σ ρ v1 v2) (fun q => KS σ q.2) := by
  intro n
  induction n with
  | zero => intro σ v1 v2; exact kp_none
  | succ n ih =>
    intro σ v1 v2
    unfold F_X12_figures_34
    refine kp_if ?_ ?_
    · exact kp_some (ks_refl _)
    · refine kp_if ?_ ?_
      · refine kp_bx (fun r6_849 => ?_)
        refine kp_bx (fun r7_850 => ?_)
        refine kp_if ?_ ?_
        · exact kp_some (ks_refl _)
        · refine kp_if ?_ ?_
          · unfold F_X12_figures_68
            refine kp_nm (fun x10_851 _ => ?_)
            refine kp_bx (fun r11_852 => ?_)
            refine kp_nm (fun x12_853 _ => ?_)
            refine kp_nm (fun x13_854 _ => ?_)
            refine kp_nm (fun x14_855 _ => ?_)
            refine kp_nm (fun σ16_856 hσ16_856 => ?_)
            have kσ16_856 : KS σ σ16_856 := by rw [hσ16_856]; exact ks_trans (ks_refl _) (ks_lit (by decide))
            refine kp_nm (fun x17_857 _ => ?_)
            exact kp_tr2_ks (ih _ _ _) kσ16_856
          · refine kp_if ?_ ?_
            · exact kp_some (ks_refl _)
            · unfold F_X12_figures_68
              refine kp_nm (fun x10_858 _ => ?_)
              refine kp_bx (fun r11_859 => ?_)
              refine kp_nm (fun x12_860 _ => ?_)
              refine kp_nm (fun x13_861 _ => ?_)
              refine kp_nm (fun x14_862 _ => ?_)
              refine kp_nm (fun σ16_863 hσ16_863 => ?_)
              have kσ16_863 : KS σ σ16_863 := by rw [hσ16_863]; exact ks_trans (ks_refl _) (ks_lit (by decide))
              refine kp_nm (fun x17_864 _ => ?_)
              exact kp_tr2_ks (ih _ _ _) kσ16_863
      · exact kp_some (ks_refl _)

set_option maxRecDepth 100000 in
theorem ks_X12_figures {N : Nat} {K len : Nat → Nat} {σ : SG} {ρ : RG} (hL : Lay N K len ρ) : kp (F_X12_figures σ ρ) (fun q => KS σ q.2) := by
  unfold F_X12_figures
  refine kp_if ?_ ?_
  · refine kp_bx (fun r19_846 => ?_)
    refine kp_bx (fun r20_847 => ?_)
    refine kp_if ?_ ?_
    · unfold F_X12_figures_22
      unfold F_X12_figures_27
      refine kp_gd (fun _ => ?_)
      refine kp_nm (fun σ3_848 hσ3_848 => ?_)
      have kσ3_848 : KS σ σ3_848 := by rw [hσ3_848]; exact ks_trans (ks_refl _) (ks_lit (by decide))
      exact kp_tr2_ks (ks_X12_figures_34 hL 1024 _ _ _) kσ3_848
    · unfold F_X12_figures_27
      refine kp_gd (fun _ => ?_)
      refine kp_nm (fun σ3_865 hσ3_865 => ?_)
      have kσ3_865 : KS σ σ3_865 := by rw [hσ3_865]; exact ks_trans (ks_refl _) (ks_lit (by decide))
      exact kp_tr2_ks (ks_X12_figures_34 hL 1024 _ _ _) kσ3_865
  · unfold F_X12_figures_22
    unfold F_X12_figures_27
    refine kp_gd (fun _ => ?_)
    refine kp_nm (fun σ3_866 hσ3_866 => ?_)
    have kσ3_866 : KS σ σ3_866 := by rw [hσ3_866]; exact ks_trans (ks_refl _) (ks_lit (by decide))
    exact kp_tr2_ks (ks_X12_figures_34 hL 1024 _ _ _) kσ3_866

set_option maxRecDepth 100000 in
theorem ks_X12_tellsHere {N : Nat} {K len : Nat → Nat} {a1 : Int32} {w : Nat} {σ : SG} {ρ : RG} (hL : Lay N K len ρ) : kp (F_X12_tellsHere a1 w σ ρ) (fun q => KS σ q) := by
  unfold F_X12_tellsHere
  refine kp_bn (ks_X12_spells hL) (fun σ1_823 hσ1_823 => ?_)
  have kσ1_823 : KS σ σ1_823 := ks_trans (ks_refl _) hσ1_823
  refine kp_bn2 (ks_X12_figures hL) (fun r2_844 σ2_845 hr2_844 => ?_)
  have kσ2_845 : KS σ σ2_845 := ks_trans kσ1_823 hr2_844
  refine kp_if ?_ ?_
  · refine kp_nm (fun x4_867 _ => ?_)
    refine kp_gd (fun _ => ?_)
    refine kp_nm (fun σ7_868 hσ7_868 => ?_)
    have kσ7_868 : KS σ σ7_868 := by rw [hσ7_868]; exact ks_trans kσ2_845 (ks_row (by decide))
    exact kp_some kσ7_868
  · exact kp_some kσ2_845

set_option maxRecDepth 100000 in
theorem ks_X12_emits {N : Nat} {K len : Nat → Nat} {a1 : Int32} {σ : SG} {ρ : RG} (hL : Lay N K len ρ) : kp (F_X12_emits a1 σ ρ) (fun q => KS σ q) := by
  unfold F_X12_emits
  refine kp_if ?_ ?_
  · refine kp_nm (fun x2_885 _ => ?_)
    refine kp_nm (fun x3_886 _ => ?_)
    refine kp_nm (fun x4_887 _ => ?_)
    refine kp_gd (fun _ => ?_)
    refine kp_nm (fun x6_888 _ => ?_)
    refine kp_gd (fun _ => ?_)
    refine kp_nm (fun σ9_889 hσ9_889 => ?_)
    have kσ9_889 : KS σ σ9_889 := by rw [hσ9_889]; exact ks_trans (ks_refl _) (ks_row (by decide))
    refine kp_nm (fun x10_890 _ => ?_)
    refine kp_gd (fun _ => ?_)
    refine kp_nm (fun x12_891 _ => ?_)
    refine kp_gd (fun _ => ?_)
    refine kp_nm (fun σ15_892 hσ15_892 => ?_)
    have kσ15_892 : KS σ σ15_892 := by rw [hσ15_892]; exact ks_trans kσ9_889 (ks_row (by decide))
    exact kp_some kσ15_892
  · exact kp_some (ks_refl _)

set_option maxRecDepth 100000 in
theorem ks_X12_every_B_4 {N : Nat} {K len : Nat → Nat} {R : SG → RG → Option (SG)} {ρ : RG} (hL : Lay N K len ρ) (hR : ∀ (σ : SG), kp (R σ ρ) (fun q => KS σ q)) : ∀ (n : Nat) (σ : SG), kp (F_X12_every_B_4 R n σ ρ) (fun q => KS σ q) := by
  intro n
  induction n with
  | zero => intro σ; exact kp_none
  | succ n ih =>
    intro σ
    unfold F_X12_every_B_4
    refine kp_if ?_ ?_
    · refine kp_bx (fun r3_898 => ?_)
      refine kp_if ?_ ?_
      · refine kp_nm (fun x5_899 _ => ?_)
        refine kp_nm (fun σ7_900 hσ7_900 => ?_)
        have kσ7_900 : KS σ σ7_900 := by rw [hσ7_900]; exact ks_trans (ks_refl _) (ks_lit (by decide))
        refine kp_bn (hR _) (fun σ8_901 hσ8_901 => ?_)
        have kσ8_901 : KS σ σ8_901 := ks_trans kσ7_900 hσ8_901
        refine kp_bn (ks_X12_emits hL) (fun σ9_902 hσ9_902 => ?_)
        have kσ9_902 : KS σ σ9_902 := ks_trans kσ8_901 hσ9_902
        exact kp_tr_ks (ih _) kσ9_902
      · exact kp_some (ks_refl _)
    · exact kp_some (ks_refl _)

set_option maxRecDepth 100000 in
theorem ks_X12_every_B {N : Nat} {K len : Nat → Nat} {R : SG → RG → Option (SG)} {σ : SG} {ρ : RG} (hL : Lay N K len ρ) (hR : ∀ (σ : SG), kp (R σ ρ) (fun q => KS σ q)) : kp (F_X12_every_B R σ ρ) (fun q => KS σ q) := by
  unfold F_X12_every_B
  refine kp_bn (hR _) (fun σ1_897 hσ1_897 => ?_)
  have kσ1_897 : KS σ σ1_897 := ks_trans (ks_refl _) hσ1_897
  exact kp_tr_ks (ks_X12_every_B_4 hL hR 1024 _) kσ1_897

set_option maxRecDepth 100000 in
theorem ks_X12_some_B_4 {N : Nat} {K len : Nat → Nat} {R : SG → RG → Option (SG)} {ρ : RG} (hL : Lay N K len ρ) (hR : ∀ (σ : SG), kp (R σ ρ) (fun q => KS σ q)) : ∀ (n : Nat) (σ : SG), kp (F_X12_some_B_4 R n σ ρ) (fun q => KS σ q) := by
  intro n
  induction n with
  | zero => intro σ; exact kp_none
  | succ n ih =>
    intro σ
    unfold F_X12_some_B_4
    refine kp_if ?_ ?_
    · refine kp_bx (fun r3_903 => ?_)
      refine kp_if ?_ ?_
      · refine kp_nm (fun x5_904 _ => ?_)
        refine kp_nm (fun σ7_905 hσ7_905 => ?_)
        have kσ7_905 : KS σ σ7_905 := by rw [hσ7_905]; exact ks_trans (ks_refl _) (ks_lit (by decide))
        refine kp_bn (ks_X12_every_B hL hR) (fun σ8_906 hσ8_906 => ?_)
        have kσ8_906 : KS σ σ8_906 := ks_trans kσ7_905 hσ8_906
        refine kp_bn (ks_X12_emits hL) (fun σ9_907 hσ9_907 => ?_)
        have kσ9_907 : KS σ σ9_907 := ks_trans kσ8_906 hσ9_907
        exact kp_tr_ks (ih _) kσ9_907
      · exact kp_some (ks_refl _)
    · exact kp_some (ks_refl _)

set_option maxRecDepth 100000 in
theorem ks_X12_some_B {N : Nat} {K len : Nat → Nat} {R : SG → RG → Option (SG)} {σ : SG} {ρ : RG} (hL : Lay N K len ρ) (hR : ∀ (σ : SG), kp (R σ ρ) (fun q => KS σ q)) : kp (F_X12_some_B R σ ρ) (fun q => KS σ q) := by
  unfold F_X12_some_B
  refine kp_bn (ks_X12_every_B hL hR) (fun σ1_896 hσ1_896 => ?_)
  have kσ1_896 : KS σ σ1_896 := ks_trans (ks_refl _) hσ1_896
  exact kp_tr_ks (ks_X12_some_B_4 hL hR 1024 _) kσ1_896

set_option maxRecDepth 100000 in
theorem ks_X12_among_2 {N : Nat} {K len : Nat → Nat} {w : Nat} {ρ : RG} (hL : Lay N K len ρ) : ∀ (n : Nat) (σ : SG) (v2 : Int32), kp (F_X12_among_2 w n σ ρ v2) (fun q => KS σ q.2) := by
  intro n
  induction n with
  | zero => intro σ v2; exact kp_none
  | succ n ih =>
    intro σ v2
    unfold F_X12_among_2
    refine kp_bx (fun r1_992 => ?_)
    refine kp_if ?_ ?_
    · exact kp_some (ks_refl _)
    · refine kp_bx (fun r3_993 => ?_)
      refine kp_bx (fun r4_994 => ?_)
      refine kp_if ?_ ?_
      · refine kp_nm (fun x7_995 _ => ?_)
        refine kp_nm (fun σ9_996 hσ9_996 => ?_)
        have kσ9_996 : KS σ σ9_996 := by rw [hσ9_996]; exact ks_trans (ks_refl _) (ks_lit (by decide))
        exact kp_some kσ9_996
      · refine kp_nm (fun x6_997 _ => ?_)
        exact kp_tr2_ks (ih _ _) (ks_refl _)

set_option maxRecDepth 100000 in
theorem ks_X12_among {N : Nat} {K len : Nat → Nat} {w : Nat} {σ : SG} {ρ : RG} (hL : Lay N K len ρ) : kp (F_X12_among w σ ρ) (fun q => KS σ q.2) := by
  unfold F_X12_among
  exact kp_tr2_ks (ks_X12_among_2 hL 1024 _ _) (ks_refl _)

set_option maxRecDepth 100000 in
theorem ks_X12_factor_B {N : Nat} {K len : Nat → Nat} {R : SG → RG → Option (SG)} {σ : SG} {ρ : RG} (hL : Lay N K len ρ) (hR : ∀ (σ : SG), kp (R σ ρ) (fun q => KS σ q)) : kp (F_X12_factor_B R σ ρ) (fun q => KS σ q) := by
  unfold F_X12_factor_B
  refine kp_if ?_ ?_
  · refine kp_bx (fun r2_877 => ?_)
    refine kp_if ?_ ?_
    · unfold F_X12_factor_B_25
      refine kp_if ?_ ?_
      · unfold F_X12_factor_B_39
        refine kp_gd (fun _ => ?_)
        refine kp_nm (fun σ6_878 hσ6_878 => ?_)
        have kσ6_878 : KS σ σ6_878 := by rw [hσ6_878]; exact ks_trans (ks_refl _) (ks_lit (by decide))
        refine kp_nm (fun x7_879 _ => ?_)
        refine kp_nm (fun σ9_880 hσ9_880 => ?_)
        have kσ9_880 : KS σ σ9_880 := by rw [hσ9_880]; exact ks_trans kσ6_878 (ks_lit (by decide))
        refine kp_if ?_ ?_
        · unfold F_X12_factor_B_69
          refine kp_nm (fun x11_881 _ => ?_)
          refine kp_nm (fun σ13_882 hσ13_882 => ?_)
          have kσ13_882 : KS σ σ13_882 := by rw [hσ13_882]; exact ks_trans kσ9_880 (ks_lit (by decide))
          refine kp_if ?_ ?_
          · refine kp_bn (hR _) (fun σ20_883 hσ20_883 => ?_)
            have kσ20_883 : KS σ σ20_883 := ks_trans kσ13_882 hσ20_883
            refine kp_bn (ks_X12_emits hL) (fun σ21_884 hσ21_884 => ?_)
            have kσ21_884 : KS σ σ21_884 := ks_trans kσ20_883 hσ21_884
            unfold F_X12_factor_B_101
            refine kp_nm (fun x17_893 _ => ?_)
            refine kp_nm (fun σ19_894 hσ19_894 => ?_)
            have kσ19_894 : KS σ σ19_894 := by rw [hσ19_894]; exact ks_trans kσ21_884 (ks_lit (by decide))
            exact kp_some kσ19_894
          · refine kp_bn (ks_X12_some_B hL hR) (fun σ15_895 hσ15_895 => ?_)
            have kσ15_895 : KS σ σ15_895 := ks_trans kσ13_882 hσ15_895
            refine kp_bn (ks_X12_must hL) (fun σ16_908 hσ16_908 => ?_)
            have kσ16_908 : KS σ σ16_908 := ks_trans kσ15_895 hσ16_908
            unfold F_X12_factor_B_101
            refine kp_nm (fun x17_909 _ => ?_)
            refine kp_nm (fun σ19_910 hσ19_910 => ?_)
            have kσ19_910 : KS σ σ19_910 := by rw [hσ19_910]; exact ks_trans kσ16_908 (ks_lit (by decide))
            exact kp_some kσ19_910
        · unfold F_X12_factor_B_69
          refine kp_nm (fun x11_911 _ => ?_)
          refine kp_nm (fun σ13_912 hσ13_912 => ?_)
          have kσ13_912 : KS σ σ13_912 := by rw [hσ13_912]; exact ks_trans kσ9_880 (ks_lit (by decide))
          refine kp_if ?_ ?_
          · refine kp_bn (hR _) (fun σ20_913 hσ20_913 => ?_)
            have kσ20_913 : KS σ σ20_913 := ks_trans kσ13_912 hσ20_913
            refine kp_bn (ks_X12_emits hL) (fun σ21_914 hσ21_914 => ?_)
            have kσ21_914 : KS σ σ21_914 := ks_trans kσ20_913 hσ21_914
            unfold F_X12_factor_B_101
            refine kp_nm (fun x17_915 _ => ?_)
            refine kp_nm (fun σ19_916 hσ19_916 => ?_)
            have kσ19_916 : KS σ σ19_916 := by rw [hσ19_916]; exact ks_trans kσ21_914 (ks_lit (by decide))
            exact kp_some kσ19_916
          · refine kp_bn (ks_X12_some_B hL hR) (fun σ15_917 hσ15_917 => ?_)
            have kσ15_917 : KS σ σ15_917 := ks_trans kσ13_912 hσ15_917
            refine kp_bn (ks_X12_must hL) (fun σ16_918 hσ16_918 => ?_)
            have kσ16_918 : KS σ σ16_918 := ks_trans kσ15_917 hσ16_918
            unfold F_X12_factor_B_101
            refine kp_nm (fun x17_919 _ => ?_)
            refine kp_nm (fun σ19_920 hσ19_920 => ?_)
            have kσ19_920 : KS σ σ19_920 := by rw [hσ19_920]; exact ks_trans kσ16_918 (ks_lit (by decide))
            exact kp_some kσ19_920
      · unfold F_X12_factor_B_39
        refine kp_gd (fun _ => ?_)
        refine kp_nm (fun σ6_921 hσ6_921 => ?_)
        have kσ6_921 : KS σ σ6_921 := by rw [hσ6_921]; exact ks_trans (ks_refl _) (ks_lit (by decide))
        refine kp_nm (fun x7_922 _ => ?_)
        refine kp_nm (fun σ9_923 hσ9_923 => ?_)
        have kσ9_923 : KS σ σ9_923 := by rw [hσ9_923]; exact ks_trans kσ6_921 (ks_lit (by decide))
        refine kp_if ?_ ?_
        · unfold F_X12_factor_B_69
          refine kp_nm (fun x11_924 _ => ?_)
          refine kp_nm (fun σ13_925 hσ13_925 => ?_)
          have kσ13_925 : KS σ σ13_925 := by rw [hσ13_925]; exact ks_trans kσ9_923 (ks_lit (by decide))
          refine kp_if ?_ ?_
          · refine kp_bn (hR _) (fun σ20_926 hσ20_926 => ?_)
            have kσ20_926 : KS σ σ20_926 := ks_trans kσ13_925 hσ20_926
            refine kp_bn (ks_X12_emits hL) (fun σ21_927 hσ21_927 => ?_)
            have kσ21_927 : KS σ σ21_927 := ks_trans kσ20_926 hσ21_927
            unfold F_X12_factor_B_101
            refine kp_nm (fun x17_928 _ => ?_)
            refine kp_nm (fun σ19_929 hσ19_929 => ?_)
            have kσ19_929 : KS σ σ19_929 := by rw [hσ19_929]; exact ks_trans kσ21_927 (ks_lit (by decide))
            exact kp_some kσ19_929
          · refine kp_bn (ks_X12_some_B hL hR) (fun σ15_930 hσ15_930 => ?_)
            have kσ15_930 : KS σ σ15_930 := ks_trans kσ13_925 hσ15_930
            refine kp_bn (ks_X12_must hL) (fun σ16_931 hσ16_931 => ?_)
            have kσ16_931 : KS σ σ16_931 := ks_trans kσ15_930 hσ16_931
            unfold F_X12_factor_B_101
            refine kp_nm (fun x17_932 _ => ?_)
            refine kp_nm (fun σ19_933 hσ19_933 => ?_)
            have kσ19_933 : KS σ σ19_933 := by rw [hσ19_933]; exact ks_trans kσ16_931 (ks_lit (by decide))
            exact kp_some kσ19_933
        · unfold F_X12_factor_B_69
          refine kp_nm (fun x11_934 _ => ?_)
          refine kp_nm (fun σ13_935 hσ13_935 => ?_)
          have kσ13_935 : KS σ σ13_935 := by rw [hσ13_935]; exact ks_trans kσ9_923 (ks_lit (by decide))
          refine kp_if ?_ ?_
          · refine kp_bn (hR _) (fun σ20_936 hσ20_936 => ?_)
            have kσ20_936 : KS σ σ20_936 := ks_trans kσ13_935 hσ20_936
            refine kp_bn (ks_X12_emits hL) (fun σ21_937 hσ21_937 => ?_)
            have kσ21_937 : KS σ σ21_937 := ks_trans kσ20_936 hσ21_937
            unfold F_X12_factor_B_101
            refine kp_nm (fun x17_938 _ => ?_)
            refine kp_nm (fun σ19_939 hσ19_939 => ?_)
            have kσ19_939 : KS σ σ19_939 := by rw [hσ19_939]; exact ks_trans kσ21_937 (ks_lit (by decide))
            exact kp_some kσ19_939
          · refine kp_bn (ks_X12_some_B hL hR) (fun σ15_940 hσ15_940 => ?_)
            have kσ15_940 : KS σ σ15_940 := ks_trans kσ13_935 hσ15_940
            refine kp_bn (ks_X12_must hL) (fun σ16_941 hσ16_941 => ?_)
            have kσ16_941 : KS σ σ16_941 := ks_trans kσ15_940 hσ16_941
            unfold F_X12_factor_B_101
            refine kp_nm (fun x17_942 _ => ?_)
            refine kp_nm (fun σ19_943 hσ19_943 => ?_)
            have kσ19_943 : KS σ σ19_943 := by rw [hσ19_943]; exact ks_trans kσ16_941 (ks_lit (by decide))
            exact kp_some kσ19_943
    · refine kp_if ?_ ?_
      · unfold F_X12_factor_B_25
        refine kp_if ?_ ?_
        · unfold F_X12_factor_B_39
          refine kp_gd (fun _ => ?_)
          refine kp_nm (fun σ6_944 hσ6_944 => ?_)
          have kσ6_944 : KS σ σ6_944 := by rw [hσ6_944]; exact ks_trans (ks_refl _) (ks_lit (by decide))
          refine kp_nm (fun x7_945 _ => ?_)
          refine kp_nm (fun σ9_946 hσ9_946 => ?_)
          have kσ9_946 : KS σ σ9_946 := by rw [hσ9_946]; exact ks_trans kσ6_944 (ks_lit (by decide))
          refine kp_if ?_ ?_
          · unfold F_X12_factor_B_69
            refine kp_nm (fun x11_947 _ => ?_)
            refine kp_nm (fun σ13_948 hσ13_948 => ?_)
            have kσ13_948 : KS σ σ13_948 := by rw [hσ13_948]; exact ks_trans kσ9_946 (ks_lit (by decide))
            refine kp_if ?_ ?_
            · refine kp_bn (hR _) (fun σ20_949 hσ20_949 => ?_)
              have kσ20_949 : KS σ σ20_949 := ks_trans kσ13_948 hσ20_949
              refine kp_bn (ks_X12_emits hL) (fun σ21_950 hσ21_950 => ?_)
              have kσ21_950 : KS σ σ21_950 := ks_trans kσ20_949 hσ21_950
              unfold F_X12_factor_B_101
              refine kp_nm (fun x17_951 _ => ?_)
              refine kp_nm (fun σ19_952 hσ19_952 => ?_)
              have kσ19_952 : KS σ σ19_952 := by rw [hσ19_952]; exact ks_trans kσ21_950 (ks_lit (by decide))
              exact kp_some kσ19_952
            · refine kp_bn (ks_X12_some_B hL hR) (fun σ15_953 hσ15_953 => ?_)
              have kσ15_953 : KS σ σ15_953 := ks_trans kσ13_948 hσ15_953
              refine kp_bn (ks_X12_must hL) (fun σ16_954 hσ16_954 => ?_)
              have kσ16_954 : KS σ σ16_954 := ks_trans kσ15_953 hσ16_954
              unfold F_X12_factor_B_101
              refine kp_nm (fun x17_955 _ => ?_)
              refine kp_nm (fun σ19_956 hσ19_956 => ?_)
              have kσ19_956 : KS σ σ19_956 := by rw [hσ19_956]; exact ks_trans kσ16_954 (ks_lit (by decide))
              exact kp_some kσ19_956
          · unfold F_X12_factor_B_69
            refine kp_nm (fun x11_957 _ => ?_)
            refine kp_nm (fun σ13_958 hσ13_958 => ?_)
            have kσ13_958 : KS σ σ13_958 := by rw [hσ13_958]; exact ks_trans kσ9_946 (ks_lit (by decide))
            refine kp_if ?_ ?_
            · refine kp_bn (hR _) (fun σ20_959 hσ20_959 => ?_)
              have kσ20_959 : KS σ σ20_959 := ks_trans kσ13_958 hσ20_959
              refine kp_bn (ks_X12_emits hL) (fun σ21_960 hσ21_960 => ?_)
              have kσ21_960 : KS σ σ21_960 := ks_trans kσ20_959 hσ21_960
              unfold F_X12_factor_B_101
              refine kp_nm (fun x17_961 _ => ?_)
              refine kp_nm (fun σ19_962 hσ19_962 => ?_)
              have kσ19_962 : KS σ σ19_962 := by rw [hσ19_962]; exact ks_trans kσ21_960 (ks_lit (by decide))
              exact kp_some kσ19_962
            · refine kp_bn (ks_X12_some_B hL hR) (fun σ15_963 hσ15_963 => ?_)
              have kσ15_963 : KS σ σ15_963 := ks_trans kσ13_958 hσ15_963
              refine kp_bn (ks_X12_must hL) (fun σ16_964 hσ16_964 => ?_)
              have kσ16_964 : KS σ σ16_964 := ks_trans kσ15_963 hσ16_964
              unfold F_X12_factor_B_101
              refine kp_nm (fun x17_965 _ => ?_)
              refine kp_nm (fun σ19_966 hσ19_966 => ?_)
              have kσ19_966 : KS σ σ19_966 := by rw [hσ19_966]; exact ks_trans kσ16_964 (ks_lit (by decide))
              exact kp_some kσ19_966
        · unfold F_X12_factor_B_39
          refine kp_gd (fun _ => ?_)
          refine kp_nm (fun σ6_967 hσ6_967 => ?_)
          have kσ6_967 : KS σ σ6_967 := by rw [hσ6_967]; exact ks_trans (ks_refl _) (ks_lit (by decide))
          refine kp_nm (fun x7_968 _ => ?_)
          refine kp_nm (fun σ9_969 hσ9_969 => ?_)
          have kσ9_969 : KS σ σ9_969 := by rw [hσ9_969]; exact ks_trans kσ6_967 (ks_lit (by decide))
          refine kp_if ?_ ?_
          · unfold F_X12_factor_B_69
            refine kp_nm (fun x11_970 _ => ?_)
            refine kp_nm (fun σ13_971 hσ13_971 => ?_)
            have kσ13_971 : KS σ σ13_971 := by rw [hσ13_971]; exact ks_trans kσ9_969 (ks_lit (by decide))
            refine kp_if ?_ ?_
            · refine kp_bn (hR _) (fun σ20_972 hσ20_972 => ?_)
              have kσ20_972 : KS σ σ20_972 := ks_trans kσ13_971 hσ20_972
              refine kp_bn (ks_X12_emits hL) (fun σ21_973 hσ21_973 => ?_)
              have kσ21_973 : KS σ σ21_973 := ks_trans kσ20_972 hσ21_973
              unfold F_X12_factor_B_101
              refine kp_nm (fun x17_974 _ => ?_)
              refine kp_nm (fun σ19_975 hσ19_975 => ?_)
              have kσ19_975 : KS σ σ19_975 := by rw [hσ19_975]; exact ks_trans kσ21_973 (ks_lit (by decide))
              exact kp_some kσ19_975
            · refine kp_bn (ks_X12_some_B hL hR) (fun σ15_976 hσ15_976 => ?_)
              have kσ15_976 : KS σ σ15_976 := ks_trans kσ13_971 hσ15_976
              refine kp_bn (ks_X12_must hL) (fun σ16_977 hσ16_977 => ?_)
              have kσ16_977 : KS σ σ16_977 := ks_trans kσ15_976 hσ16_977
              unfold F_X12_factor_B_101
              refine kp_nm (fun x17_978 _ => ?_)
              refine kp_nm (fun σ19_979 hσ19_979 => ?_)
              have kσ19_979 : KS σ σ19_979 := by rw [hσ19_979]; exact ks_trans kσ16_977 (ks_lit (by decide))
              exact kp_some kσ19_979
          · unfold F_X12_factor_B_69
            refine kp_nm (fun x11_980 _ => ?_)
            refine kp_nm (fun σ13_981 hσ13_981 => ?_)
            have kσ13_981 : KS σ σ13_981 := by rw [hσ13_981]; exact ks_trans kσ9_969 (ks_lit (by decide))
            refine kp_if ?_ ?_
            · refine kp_bn (hR _) (fun σ20_982 hσ20_982 => ?_)
              have kσ20_982 : KS σ σ20_982 := ks_trans kσ13_981 hσ20_982
              refine kp_bn (ks_X12_emits hL) (fun σ21_983 hσ21_983 => ?_)
              have kσ21_983 : KS σ σ21_983 := ks_trans kσ20_982 hσ21_983
              unfold F_X12_factor_B_101
              refine kp_nm (fun x17_984 _ => ?_)
              refine kp_nm (fun σ19_985 hσ19_985 => ?_)
              have kσ19_985 : KS σ σ19_985 := by rw [hσ19_985]; exact ks_trans kσ21_983 (ks_lit (by decide))
              exact kp_some kσ19_985
            · refine kp_bn (ks_X12_some_B hL hR) (fun σ15_986 hσ15_986 => ?_)
              have kσ15_986 : KS σ σ15_986 := ks_trans kσ13_981 hσ15_986
              refine kp_bn (ks_X12_must hL) (fun σ16_987 hσ16_987 => ?_)
              have kσ16_987 : KS σ σ16_987 := ks_trans kσ15_986 hσ16_987
              unfold F_X12_factor_B_101
              refine kp_nm (fun x17_988 _ => ?_)
              refine kp_nm (fun σ19_989 hσ19_989 => ?_)
              have kσ19_989 : KS σ σ19_989 := by rw [hσ19_989]; exact ks_trans kσ16_987 (ks_lit (by decide))
              exact kp_some kσ19_989
      · refine kp_bn2 (ks_X12_among hL) (fun r23_990 σ23_991 hr23_990 => ?_)
        have kσ23_991 : KS σ σ23_991 := ks_trans (ks_refl _) hr23_990
        refine kp_if ?_ ?_
        · unfold F_X12_factor_B_130
          refine kp_gd (fun _ => ?_)
          refine kp_nm (fun σ26_998 hσ26_998 => ?_)
          have kσ26_998 : KS σ σ26_998 := by rw [hσ26_998]; exact ks_trans kσ23_991 (ks_lit (by decide))
          refine kp_if ?_ ?_
          · refine kp_bn2 (ks_X12_among hL) (fun r28_999 σ28_1000 hr28_999 => ?_)
            have kσ28_1000 : KS σ σ28_1000 := ks_trans kσ26_998 hr28_999
            unfold F_X12_factor_B_150
            refine kp_if ?_ ?_
            · refine kp_if ?_ ?_
              · unfold F_X12_factor_B_164
                unfold F_X12_factor_B_169
                refine kp_gd (fun _ => ?_)
                refine kp_nm (fun σ31_1001 hσ31_1001 => ?_)
                have kσ31_1001 : KS σ σ31_1001 := by rw [hσ31_1001]; exact ks_trans kσ28_1000 (ks_lit (by decide))
                refine kp_bn2 (ks_X12_figures hL) (fun r32_1002 σ32_1003 hr32_1002 => ?_)
                have kσ32_1003 : KS σ σ32_1003 := ks_trans kσ31_1001 hr32_1002
                refine kp_nm (fun x33_1004 _ => ?_)
                refine kp_nm (fun x34_1005 _ => ?_)
                refine kp_nm (fun x35_1006 _ => ?_)
                refine kp_nm (fun x36_1007 _ => ?_)
                refine kp_bn (ks_X12_emits hL) (fun σ37_1008 hσ37_1008 => ?_)
                have kσ37_1008 : KS σ σ37_1008 := ks_trans kσ32_1003 hσ37_1008
                exact kp_some kσ37_1008
              · unfold F_X12_factor_B_169
                refine kp_gd (fun _ => ?_)
                refine kp_nm (fun σ31_1009 hσ31_1009 => ?_)
                have kσ31_1009 : KS σ σ31_1009 := by rw [hσ31_1009]; exact ks_trans kσ28_1000 (ks_lit (by decide))
                refine kp_bn2 (ks_X12_figures hL) (fun r32_1010 σ32_1011 hr32_1010 => ?_)
                have kσ32_1011 : KS σ σ32_1011 := ks_trans kσ31_1009 hr32_1010
                refine kp_nm (fun x33_1012 _ => ?_)
                refine kp_nm (fun x34_1013 _ => ?_)
                refine kp_nm (fun x35_1014 _ => ?_)
                refine kp_nm (fun x36_1015 _ => ?_)
                refine kp_bn (ks_X12_emits hL) (fun σ37_1016 hσ37_1016 => ?_)
                have kσ37_1016 : KS σ σ37_1016 := ks_trans kσ32_1011 hσ37_1016
                exact kp_some kσ37_1016
            · unfold F_X12_factor_B_164
              unfold F_X12_factor_B_169
              refine kp_gd (fun _ => ?_)
              refine kp_nm (fun σ31_1017 hσ31_1017 => ?_)
              have kσ31_1017 : KS σ σ31_1017 := by rw [hσ31_1017]; exact ks_trans kσ28_1000 (ks_lit (by decide))
              refine kp_bn2 (ks_X12_figures hL) (fun r32_1018 σ32_1019 hr32_1018 => ?_)
              have kσ32_1019 : KS σ σ32_1019 := ks_trans kσ31_1017 hr32_1018
              refine kp_nm (fun x33_1020 _ => ?_)
              refine kp_nm (fun x34_1021 _ => ?_)
              refine kp_nm (fun x35_1022 _ => ?_)
              refine kp_nm (fun x36_1023 _ => ?_)
              refine kp_bn (ks_X12_emits hL) (fun σ37_1024 hσ37_1024 => ?_)
              have kσ37_1024 : KS σ σ37_1024 := ks_trans kσ32_1019 hσ37_1024
              exact kp_some kσ37_1024
          · unfold F_X12_factor_B_150
            refine kp_if ?_ ?_
            · refine kp_if ?_ ?_
              · unfold F_X12_factor_B_164
                unfold F_X12_factor_B_169
                refine kp_gd (fun _ => ?_)
                refine kp_nm (fun σ31_1025 hσ31_1025 => ?_)
                have kσ31_1025 : KS σ σ31_1025 := by rw [hσ31_1025]; exact ks_trans kσ26_998 (ks_lit (by decide))
                refine kp_bn2 (ks_X12_figures hL) (fun r32_1026 σ32_1027 hr32_1026 => ?_)
                have kσ32_1027 : KS σ σ32_1027 := ks_trans kσ31_1025 hr32_1026
                refine kp_nm (fun x33_1028 _ => ?_)
                refine kp_nm (fun x34_1029 _ => ?_)
                refine kp_nm (fun x35_1030 _ => ?_)
                refine kp_nm (fun x36_1031 _ => ?_)
                refine kp_bn (ks_X12_emits hL) (fun σ37_1032 hσ37_1032 => ?_)
                have kσ37_1032 : KS σ σ37_1032 := ks_trans kσ32_1027 hσ37_1032
                exact kp_some kσ37_1032
              · unfold F_X12_factor_B_169
                refine kp_gd (fun _ => ?_)
                refine kp_nm (fun σ31_1033 hσ31_1033 => ?_)
                have kσ31_1033 : KS σ σ31_1033 := by rw [hσ31_1033]; exact ks_trans kσ26_998 (ks_lit (by decide))
                refine kp_bn2 (ks_X12_figures hL) (fun r32_1034 σ32_1035 hr32_1034 => ?_)
                have kσ32_1035 : KS σ σ32_1035 := ks_trans kσ31_1033 hr32_1034
                refine kp_nm (fun x33_1036 _ => ?_)
                refine kp_nm (fun x34_1037 _ => ?_)
                refine kp_nm (fun x35_1038 _ => ?_)
                refine kp_nm (fun x36_1039 _ => ?_)
                refine kp_bn (ks_X12_emits hL) (fun σ37_1040 hσ37_1040 => ?_)
                have kσ37_1040 : KS σ σ37_1040 := ks_trans kσ32_1035 hσ37_1040
                exact kp_some kσ37_1040
            · unfold F_X12_factor_B_164
              unfold F_X12_factor_B_169
              refine kp_gd (fun _ => ?_)
              refine kp_nm (fun σ31_1041 hσ31_1041 => ?_)
              have kσ31_1041 : KS σ σ31_1041 := by rw [hσ31_1041]; exact ks_trans kσ26_998 (ks_lit (by decide))
              refine kp_bn2 (ks_X12_figures hL) (fun r32_1042 σ32_1043 hr32_1042 => ?_)
              have kσ32_1043 : KS σ σ32_1043 := ks_trans kσ31_1041 hr32_1042
              refine kp_nm (fun x33_1044 _ => ?_)
              refine kp_nm (fun x34_1045 _ => ?_)
              refine kp_nm (fun x35_1046 _ => ?_)
              refine kp_nm (fun x36_1047 _ => ?_)
              refine kp_bn (ks_X12_emits hL) (fun σ37_1048 hσ37_1048 => ?_)
              have kσ37_1048 : KS σ σ37_1048 := ks_trans kσ32_1043 hσ37_1048
              exact kp_some kσ37_1048
        · unfold F_X12_factor_B_130
          refine kp_gd (fun _ => ?_)
          refine kp_nm (fun σ26_1049 hσ26_1049 => ?_)
          have kσ26_1049 : KS σ σ26_1049 := by rw [hσ26_1049]; exact ks_trans kσ23_991 (ks_lit (by decide))
          refine kp_if ?_ ?_
          · refine kp_bn2 (ks_X12_among hL) (fun r28_1050 σ28_1051 hr28_1050 => ?_)
            have kσ28_1051 : KS σ σ28_1051 := ks_trans kσ26_1049 hr28_1050
            unfold F_X12_factor_B_150
            refine kp_if ?_ ?_
            · refine kp_if ?_ ?_
              · unfold F_X12_factor_B_164
                unfold F_X12_factor_B_169
                refine kp_gd (fun _ => ?_)
                refine kp_nm (fun σ31_1052 hσ31_1052 => ?_)
                have kσ31_1052 : KS σ σ31_1052 := by rw [hσ31_1052]; exact ks_trans kσ28_1051 (ks_lit (by decide))
                refine kp_bn2 (ks_X12_figures hL) (fun r32_1053 σ32_1054 hr32_1053 => ?_)
                have kσ32_1054 : KS σ σ32_1054 := ks_trans kσ31_1052 hr32_1053
                refine kp_nm (fun x33_1055 _ => ?_)
                refine kp_nm (fun x34_1056 _ => ?_)
                refine kp_nm (fun x35_1057 _ => ?_)
                refine kp_nm (fun x36_1058 _ => ?_)
                refine kp_bn (ks_X12_emits hL) (fun σ37_1059 hσ37_1059 => ?_)
                have kσ37_1059 : KS σ σ37_1059 := ks_trans kσ32_1054 hσ37_1059
                exact kp_some kσ37_1059
              · unfold F_X12_factor_B_169
                refine kp_gd (fun _ => ?_)
                refine kp_nm (fun σ31_1060 hσ31_1060 => ?_)
                have kσ31_1060 : KS σ σ31_1060 := by rw [hσ31_1060]; exact ks_trans kσ28_1051 (ks_lit (by decide))
                refine kp_bn2 (ks_X12_figures hL) (fun r32_1061 σ32_1062 hr32_1061 => ?_)
                have kσ32_1062 : KS σ σ32_1062 := ks_trans kσ31_1060 hr32_1061
                refine kp_nm (fun x33_1063 _ => ?_)
                refine kp_nm (fun x34_1064 _ => ?_)
                refine kp_nm (fun x35_1065 _ => ?_)
                refine kp_nm (fun x36_1066 _ => ?_)
                refine kp_bn (ks_X12_emits hL) (fun σ37_1067 hσ37_1067 => ?_)
                have kσ37_1067 : KS σ σ37_1067 := ks_trans kσ32_1062 hσ37_1067
                exact kp_some kσ37_1067
            · unfold F_X12_factor_B_164
              unfold F_X12_factor_B_169
              refine kp_gd (fun _ => ?_)
              refine kp_nm (fun σ31_1068 hσ31_1068 => ?_)
              have kσ31_1068 : KS σ σ31_1068 := by rw [hσ31_1068]; exact ks_trans kσ28_1051 (ks_lit (by decide))
              refine kp_bn2 (ks_X12_figures hL) (fun r32_1069 σ32_1070 hr32_1069 => ?_)
              have kσ32_1070 : KS σ σ32_1070 := ks_trans kσ31_1068 hr32_1069
              refine kp_nm (fun x33_1071 _ => ?_)
              refine kp_nm (fun x34_1072 _ => ?_)
              refine kp_nm (fun x35_1073 _ => ?_)
              refine kp_nm (fun x36_1074 _ => ?_)
              refine kp_bn (ks_X12_emits hL) (fun σ37_1075 hσ37_1075 => ?_)
              have kσ37_1075 : KS σ σ37_1075 := ks_trans kσ32_1070 hσ37_1075
              exact kp_some kσ37_1075
          · unfold F_X12_factor_B_150
            refine kp_if ?_ ?_
            · refine kp_if ?_ ?_
              · unfold F_X12_factor_B_164
                unfold F_X12_factor_B_169
                refine kp_gd (fun _ => ?_)
                refine kp_nm (fun σ31_1076 hσ31_1076 => ?_)
                have kσ31_1076 : KS σ σ31_1076 := by rw [hσ31_1076]; exact ks_trans kσ26_1049 (ks_lit (by decide))
                refine kp_bn2 (ks_X12_figures hL) (fun r32_1077 σ32_1078 hr32_1077 => ?_)
                have kσ32_1078 : KS σ σ32_1078 := ks_trans kσ31_1076 hr32_1077
                refine kp_nm (fun x33_1079 _ => ?_)
                refine kp_nm (fun x34_1080 _ => ?_)
                refine kp_nm (fun x35_1081 _ => ?_)
                refine kp_nm (fun x36_1082 _ => ?_)
                refine kp_bn (ks_X12_emits hL) (fun σ37_1083 hσ37_1083 => ?_)
                have kσ37_1083 : KS σ σ37_1083 := ks_trans kσ32_1078 hσ37_1083
                exact kp_some kσ37_1083
              · unfold F_X12_factor_B_169
                refine kp_gd (fun _ => ?_)
                refine kp_nm (fun σ31_1084 hσ31_1084 => ?_)
                have kσ31_1084 : KS σ σ31_1084 := by rw [hσ31_1084]; exact ks_trans kσ26_1049 (ks_lit (by decide))
                refine kp_bn2 (ks_X12_figures hL) (fun r32_1085 σ32_1086 hr32_1085 => ?_)
                have kσ32_1086 : KS σ σ32_1086 := ks_trans kσ31_1084 hr32_1085
                refine kp_nm (fun x33_1087 _ => ?_)
                refine kp_nm (fun x34_1088 _ => ?_)
                refine kp_nm (fun x35_1089 _ => ?_)
                refine kp_nm (fun x36_1090 _ => ?_)
                refine kp_bn (ks_X12_emits hL) (fun σ37_1091 hσ37_1091 => ?_)
                have kσ37_1091 : KS σ σ37_1091 := ks_trans kσ32_1086 hσ37_1091
                exact kp_some kσ37_1091
            · unfold F_X12_factor_B_164
              unfold F_X12_factor_B_169
              refine kp_gd (fun _ => ?_)
              refine kp_nm (fun σ31_1092 hσ31_1092 => ?_)
              have kσ31_1092 : KS σ σ31_1092 := by rw [hσ31_1092]; exact ks_trans kσ26_1049 (ks_lit (by decide))
              refine kp_bn2 (ks_X12_figures hL) (fun r32_1093 σ32_1094 hr32_1093 => ?_)
              have kσ32_1094 : KS σ σ32_1094 := ks_trans kσ31_1092 hr32_1093
              refine kp_nm (fun x33_1095 _ => ?_)
              refine kp_nm (fun x34_1096 _ => ?_)
              refine kp_nm (fun x35_1097 _ => ?_)
              refine kp_nm (fun x36_1098 _ => ?_)
              refine kp_bn (ks_X12_emits hL) (fun σ37_1099 hσ37_1099 => ?_)
              have kσ37_1099 : KS σ σ37_1099 := ks_trans kσ32_1094 hσ37_1099
              exact kp_some kσ37_1099
  · exact kp_some (ks_refl _)

theorem ks_X12_factor_R {N : Nat} {K len : Nat → Nat} {ρ : RG} (hL : Lay N K len ρ) : ∀ (d : Nat) (σ : SG), kp (F_X12_factor_R d σ ρ) (fun q => KS σ q) := by
  intro d
  induction d with
  | zero => intro σ; exact kp_none
  | succ d ih =>
    intro σ
    exact ks_X12_factor_B hL ih

theorem ks_X12_factor {N : Nat} {K len : Nat → Nat} {σ : SG} {ρ : RG} (hL : Lay N K len ρ) : kp (F_X12_factor σ ρ) (fun q => KS σ q) := ks_X12_factor_R hL _ _

set_option maxRecDepth 100000 in
theorem ks_X12_every_4 {N : Nat} {K len : Nat → Nat} {ρ : RG} (hL : Lay N K len ρ) : ∀ (n : Nat) (σ : SG), kp (F_X12_every_4 n σ ρ) (fun q => KS σ q) := by
  intro n
  induction n with
  | zero => intro σ; exact kp_none
  | succ n ih =>
    intro σ
    unfold F_X12_every_4
    refine kp_if ?_ ?_
    · refine kp_bx (fun r3_1100 => ?_)
      refine kp_if ?_ ?_
      · refine kp_nm (fun x5_1101 _ => ?_)
        refine kp_nm (fun σ7_1102 hσ7_1102 => ?_)
        have kσ7_1102 : KS σ σ7_1102 := by rw [hσ7_1102]; exact ks_trans (ks_refl _) (ks_lit (by decide))
        refine kp_bn (ks_X12_factor hL) (fun σ8_1103 hσ8_1103 => ?_)
        have kσ8_1103 : KS σ σ8_1103 := ks_trans kσ7_1102 hσ8_1103
        refine kp_bn (ks_X12_emits hL) (fun σ9_1104 hσ9_1104 => ?_)
        have kσ9_1104 : KS σ σ9_1104 := ks_trans kσ8_1103 hσ9_1104
        exact kp_tr_ks (ih _) kσ9_1104
      · exact kp_some (ks_refl _)
    · exact kp_some (ks_refl _)

set_option maxRecDepth 100000 in
theorem ks_X12_every {N : Nat} {K len : Nat → Nat} {σ : SG} {ρ : RG} (hL : Lay N K len ρ) : kp (F_X12_every σ ρ) (fun q => KS σ q) := by
  unfold F_X12_every
  refine kp_bn (ks_X12_factor hL) (fun σ1_876 hσ1_876 => ?_)
  have kσ1_876 : KS σ σ1_876 := ks_trans (ks_refl _) hσ1_876
  exact kp_tr_ks (ks_X12_every_4 hL 1024 _) kσ1_876

set_option maxRecDepth 100000 in
theorem ks_X12_some_4 {N : Nat} {K len : Nat → Nat} {ρ : RG} (hL : Lay N K len ρ) : ∀ (n : Nat) (σ : SG), kp (F_X12_some_4 n σ ρ) (fun q => KS σ q) := by
  intro n
  induction n with
  | zero => intro σ; exact kp_none
  | succ n ih =>
    intro σ
    unfold F_X12_some_4
    refine kp_if ?_ ?_
    · refine kp_bx (fun r3_1105 => ?_)
      refine kp_if ?_ ?_
      · refine kp_nm (fun x5_1106 _ => ?_)
        refine kp_nm (fun σ7_1107 hσ7_1107 => ?_)
        have kσ7_1107 : KS σ σ7_1107 := by rw [hσ7_1107]; exact ks_trans (ks_refl _) (ks_lit (by decide))
        refine kp_bn (ks_X12_every hL) (fun σ8_1108 hσ8_1108 => ?_)
        have kσ8_1108 : KS σ σ8_1108 := ks_trans kσ7_1107 hσ8_1108
        refine kp_bn (ks_X12_emits hL) (fun σ9_1109 hσ9_1109 => ?_)
        have kσ9_1109 : KS σ σ9_1109 := ks_trans kσ8_1108 hσ9_1109
        exact kp_tr_ks (ih _) kσ9_1109
      · exact kp_some (ks_refl _)
    · exact kp_some (ks_refl _)

set_option maxRecDepth 100000 in
theorem ks_X12_some {N : Nat} {K len : Nat → Nat} {σ : SG} {ρ : RG} (hL : Lay N K len ρ) : kp (F_X12_some σ ρ) (fun q => KS σ q) := by
  unfold F_X12_some
  refine kp_bn (ks_X12_every hL) (fun σ1_875 hσ1_875 => ?_)
  have kσ1_875 : KS σ σ1_875 := ks_trans (ks_refl _) hσ1_875
  exact kp_tr_ks (ks_X12_some_4 hL 1024 _) kσ1_875

set_option maxRecDepth 100000 in
theorem ks_X12_much {N : Nat} {K len : Nat → Nat} {a1 : Int32} {w : Nat} {σ : SG} {ρ : RG} (hL : Lay N K len ρ) : kp (F_X12_much a1 w σ ρ) (fun q => KS σ q) := by
  unfold F_X12_much
  refine kp_bn (ks_X12_spells hL) (fun σ1_870 hσ1_870 => ?_)
  have kσ1_870 : KS σ σ1_870 := ks_trans (ks_refl _) hσ1_870
  refine kp_bn2 (ks_X12_figures hL) (fun r2_871 σ2_872 hr2_871 => ?_)
  have kσ2_872 : KS σ σ2_872 := ks_trans kσ1_870 hr2_871
  refine kp_bn (ks_X12_must hL) (fun σ3_873 hσ3_873 => ?_)
  have kσ3_873 : KS σ σ3_873 := ks_trans kσ2_872 hσ3_873
  refine kp_bn (ks_X12_some hL) (fun σ4_874 hσ4_874 => ?_)
  have kσ4_874 : KS σ σ4_874 := ks_trans kσ3_873 hσ4_874
  refine kp_nm (fun x5_1110 _ => ?_)
  refine kp_bn (ks_X12_emits hL) (fun σ6_1111 hσ6_1111 => ?_)
  have kσ6_1111 : KS σ σ6_1111 := ks_trans kσ4_874 hσ6_1111
  exact kp_some kσ6_1111

set_option maxRecDepth 100000 in
theorem ks_X12_clauseHere {N : Nat} {K len : Nat → Nat} {σ : SG} {ρ : RG} (hL : Lay N K len ρ) : kp (F_X12_clauseHere σ ρ) (fun q => KS σ q) := by
  unfold F_X12_clauseHere
  refine kp_bx (fun r1_821 => ?_)
  refine kp_if ?_ ?_
  · refine kp_bn (ks_X12_tellsHere hL) (fun σ3_822 hσ3_822 => ?_)
    have kσ3_822 : KS σ σ3_822 := ks_trans (ks_refl _) hσ3_822
    exact kp_some kσ3_822
  · refine kp_if ?_ ?_
    · refine kp_bn (ks_X12_much hL) (fun σ4_869 hσ4_869 => ?_)
      have kσ4_869 : KS σ σ4_869 := ks_trans (ks_refl _) hσ4_869
      exact kp_some kσ4_869
    · refine kp_if ?_ ?_
      · refine kp_bn (ks_X12_much hL) (fun σ5_1112 hσ5_1112 => ?_)
        have kσ5_1112 : KS σ σ5_1112 := ks_trans (ks_refl _) hσ5_1112
        exact kp_some kσ5_1112
      · refine kp_if ?_ ?_
        · refine kp_bn (ks_X12_tellsHere hL) (fun σ6_1113 hσ6_1113 => ?_)
          have kσ6_1113 : KS σ σ6_1113 := ks_trans (ks_refl _) hσ6_1113
          exact kp_some kσ6_1113
        · refine kp_nm (fun σ8_1114 hσ8_1114 => ?_)
          have kσ8_1114 : KS σ σ8_1114 := by rw [hσ8_1114]; exact ks_trans (ks_refl _) (ks_lit (by decide))
          exact kp_some kσ8_1114

set_option maxRecDepth 100000 in
theorem ks_X12_board_108 {N : Nat} {K len : Nat → Nat} {ρ : RG} (hL : Lay N K len ρ) : ∀ (n : Nat) (σ : SG) (v1 : Int32), kp (F_X12_board_108 n σ ρ v1) (fun q => KS σ q.2) := by
  intro n
  induction n with
  | zero => intro σ v1; exact kp_none
  | succ n ih =>
    intro σ v1
    unfold F_X12_board_108
    refine kp_if ?_ ?_
    · refine kp_if ?_ ?_
      · unfold F_X12_board_150
        refine kp_if ?_ ?_
        · refine kp_if ?_ ?_
          · refine kp_nm (fun x31_1115 _ => ?_)
            refine kp_nm (fun σ33_1116 hσ33_1116 => ?_)
            have kσ33_1116 : KS σ σ33_1116 := by rw [hσ33_1116]; exact ks_trans (ks_refl _) (ks_lit (by decide))
            refine kp_nm (fun σ35_1117 hσ35_1117 => ?_)
            have kσ35_1117 : KS σ σ35_1117 := by rw [hσ35_1117]; exact ks_trans kσ33_1116 (ks_lit (by decide))
            exact kp_some kσ35_1117
          · refine kp_nm (fun x36_1118 _ => ?_)
            exact kp_some (ks_refl _)
        · refine kp_nm (fun x29_1119 _ => ?_)
          exact kp_some (ks_refl _)
      · refine kp_bx (fun r38_1120 => ?_)
        refine kp_if ?_ ?_
        · refine kp_nm (fun x40_1121 _ => ?_)
          refine kp_nm (fun σ42_1122 hσ42_1122 => ?_)
          have kσ42_1122 : KS σ σ42_1122 := by rw [hσ42_1122]; exact ks_trans (ks_refl _) (ks_lit (by decide))
          refine kp_bn (ks_X12_clauseHere hL) (fun σ43_1123 hσ43_1123 => ?_)
          have kσ43_1123 : KS σ σ43_1123 := ks_trans kσ42_1122 hσ43_1123
          refine kp_nm (fun x44_1124 _ => ?_)
          exact kp_tr2_ks (ih _ _) kσ43_1123
        · unfold F_X12_board_150
          refine kp_if ?_ ?_
          · refine kp_if ?_ ?_
            · refine kp_nm (fun x31_1125 _ => ?_)
              refine kp_nm (fun σ33_1126 hσ33_1126 => ?_)
              have kσ33_1126 : KS σ σ33_1126 := by rw [hσ33_1126]; exact ks_trans (ks_refl _) (ks_lit (by decide))
              refine kp_nm (fun σ35_1127 hσ35_1127 => ?_)
              have kσ35_1127 : KS σ σ35_1127 := by rw [hσ35_1127]; exact ks_trans kσ33_1126 (ks_lit (by decide))
              exact kp_some kσ35_1127
            · refine kp_nm (fun x36_1128 _ => ?_)
              exact kp_some (ks_refl _)
          · refine kp_nm (fun x29_1129 _ => ?_)
            exact kp_some (ks_refl _)
    · unfold F_X12_board_150
      refine kp_if ?_ ?_
      · refine kp_if ?_ ?_
        · refine kp_nm (fun x31_1130 _ => ?_)
          refine kp_nm (fun σ33_1131 hσ33_1131 => ?_)
          have kσ33_1131 : KS σ σ33_1131 := by rw [hσ33_1131]; exact ks_trans (ks_refl _) (ks_lit (by decide))
          refine kp_nm (fun σ35_1132 hσ35_1132 => ?_)
          have kσ35_1132 : KS σ σ35_1132 := by rw [hσ35_1132]; exact ks_trans kσ33_1131 (ks_lit (by decide))
          exact kp_some kσ35_1132
        · refine kp_nm (fun x36_1133 _ => ?_)
          exact kp_some (ks_refl _)
      · refine kp_nm (fun x29_1134 _ => ?_)
        exact kp_some (ks_refl _)

set_option maxRecDepth 100000 in
theorem ks_X12_board {N : Nat} {K len : Nat → Nat} {σ : SG} {ρ : RG} (hL : Lay N K len ρ) : kp (F_X12_board σ ρ) (fun q => KS σ q.2) := by
  unfold F_X12_board
  refine kp_if ?_ ?_
  · exact kp_some (ks_refl _)
  · refine kp_nm (fun σ3_808 hσ3_808 => ?_)
    have kσ3_808 : KS σ σ3_808 := by rw [hσ3_808]; exact ks_trans (ks_refl _) (ks_lit (by decide))
    refine kp_nm (fun σ5_809 hσ5_809 => ?_)
    have kσ5_809 : KS σ σ5_809 := by rw [hσ5_809]; exact ks_trans kσ3_808 (ks_lit (by decide))
    refine kp_nm (fun σ7_810 hσ7_810 => ?_)
    have kσ7_810 : KS σ σ7_810 := by rw [hσ7_810]; exact ks_trans kσ5_809 (ks_lit (by decide))
    refine kp_nm (fun x8_811 _ => ?_)
    refine kp_gd (fun _ => ?_)
    refine kp_nm (fun σ11_812 hσ11_812 => ?_)
    have kσ11_812 : KS σ σ11_812 := by rw [hσ11_812]; exact ks_trans kσ7_810 (ks_row (by decide))
    refine kp_nm (fun x12_813 _ => ?_)
    refine kp_gd (fun _ => ?_)
    refine kp_nm (fun σ15_814 hσ15_814 => ?_)
    have kσ15_814 : KS σ σ15_814 := by rw [hσ15_814]; exact ks_trans kσ11_812 (ks_row (by decide))
    refine kp_nm (fun x16_815 _ => ?_)
    refine kp_gd (fun _ => ?_)
    refine kp_nm (fun σ19_816 hσ19_816 => ?_)
    have kσ19_816 : KS σ σ19_816 := by rw [hσ19_816]; exact ks_trans kσ15_814 (ks_row (by decide))
    refine kp_nm (fun σ21_817 hσ21_817 => ?_)
    have kσ21_817 : KS σ σ21_817 := by rw [hσ21_817]; exact ks_trans kσ19_816 (ks_lit (by decide))
    refine kp_nm (fun σ23_818 hσ23_818 => ?_)
    have kσ23_818 : KS σ σ23_818 := by rw [hσ23_818]; exact ks_trans kσ21_817 (ks_lit (by decide))
    refine kp_nm (fun σ25_819 hσ25_819 => ?_)
    have kσ25_819 : KS σ σ25_819 := by rw [hσ25_819]; exact ks_trans kσ23_818 (ks_lit (by decide))
    refine kp_bn (ks_X12_clauseHere hL) (fun σ26_820 hσ26_820 => ?_)
    have kσ26_820 : KS σ σ26_820 := ks_trans kσ25_819 hσ26_820
    exact kp_tr2_ks (ks_X12_board_108 hL 1024 _ _) kσ26_820

set_option maxRecDepth 100000 in
theorem ks_X12_week {N : Nat} {K len : Nat → Nat} {a1 : Int32} {σ : SG} {ρ : RG} (hL : Lay N K len ρ) : kp (F_X12_week a1 σ ρ) (fun q => KS σ q.2) := by
  unfold F_X12_week
  refine kp_bx (fun r1_1135 => ?_)
  refine kp_if ?_ ?_
  · exact kp_some (ks_refl _)
  · refine kp_if ?_ ?_
    · exact kp_some (ks_refl _)
    · refine kp_nm (fun x4_1136 _ => ?_)
      refine kp_gd (fun _ => ?_)
      refine kp_nm (fun σ7_1137 hσ7_1137 => ?_)
      have kσ7_1137 : KS σ σ7_1137 := by rw [hσ7_1137]; exact ks_trans (ks_refl _) (ks_row (by decide))
      refine kp_nm (fun x8_1138 _ => ?_)
      refine kp_nm (fun σ10_1139 hσ10_1139 => ?_)
      have kσ10_1139 : KS σ σ10_1139 := by rw [hσ10_1139]; exact ks_trans kσ7_1137 (ks_lit (by decide))
      exact kp_some kσ10_1139

set_option maxRecDepth 100000 in
theorem ks_X12_clear {N : Nat} {K len : Nat → Nat} {σ : SG} {ρ : RG} (hL : Lay N K len ρ) : kp (F_X12_clear σ ρ) (fun q => KS σ q.2) := by
  unfold F_X12_clear
  refine kp_nm (fun σ2_1140 hσ2_1140 => ?_)
  have kσ2_1140 : KS σ σ2_1140 := by rw [hσ2_1140]; exact ks_trans (ks_refl _) (ks_lit (by decide))
  exact kp_some kσ2_1140

set_option maxRecDepth 100000 in
theorem ks_X12_cutter_153 {N : Nat} {K len : Nat → Nat} {a1 : Int32} {a2 : Int32} {a3 : Int32} {a4 : Int32} {a5 : Int32} {ρ : RG} (hL : Lay N K len ρ) : ∀ (n : Nat) (σ : SG) (v6 : Int32) (v7 : Int32), kp (F_X12_cutter_153 a1 a2 a3 a4 a5 n σ ρ v6 v7) (fun q => KS σ q.2) := by
  intro n
  induction n with
  | zero => intro σ v6 v7; exact kp_none
  | succ n ih =>
    intro σ v6 v7
    unfold F_X12_cutter_153
    refine kp_if ?_ ?_
    · refine kp_nm (fun x37_1158 _ => ?_)
      refine kp_nm (fun σ39_1159 hσ39_1159 => ?_)
      have kσ39_1159 : KS σ σ39_1159 := by rw [hσ39_1159]; exact ks_trans (ks_refl _) (ks_lit (by decide))
      exact kp_some kσ39_1159
    · refine kp_nm (fun x40_1160 _ => ?_)
      refine kp_nm (fun x41_1161 _ => ?_)
      refine kp_nm (fun x42_1162 _ => ?_)
      refine kp_gd (fun _ => ?_)
      refine kp_nm (fun σ45_1163 hσ45_1163 => ?_)
      have kσ45_1163 : KS σ σ45_1163 := by rw [hσ45_1163]; exact ks_trans (ks_refl _) (ks_row (by decide))
      refine kp_nm (fun x46_1164 _ => ?_)
      exact kp_tr2_ks (ih _ _ _) kσ45_1163

set_option maxRecDepth 100000 in
theorem ks_X12_cutter {N : Nat} {K len : Nat → Nat} {a1 : Int32} {a2 : Int32} {a3 : Int32} {a4 : Int32} {a5 : Int32} {σ : SG} {ρ : RG} (hL : Lay N K len ρ) : kp (F_X12_cutter a1 a2 a3 a4 a5 σ ρ) (fun q => KS σ q.2) := by
  unfold F_X12_cutter
  refine kp_bx (fun r1_1141 => ?_)
  refine kp_if ?_ ?_
  · exact kp_some (ks_refl _)
  · refine kp_bx (fun r3_1142 => ?_)
    refine kp_if ?_ ?_
    · exact kp_some (ks_refl _)
    · refine kp_bx (fun r5_1143 => ?_)
      refine kp_if ?_ ?_
      · exact kp_some (ks_refl _)
      · refine kp_bx (fun r7_1144 => ?_)
        refine kp_if ?_ ?_
        · exact kp_some (ks_refl _)
        · refine kp_bx (fun r9_1145 => ?_)
          refine kp_if ?_ ?_
          · exact kp_some (ks_refl _)
          · refine kp_if ?_ ?_
            · exact kp_some (ks_refl _)
            · refine kp_nm (fun x12_1146 _ => ?_)
              refine kp_gd (fun _ => ?_)
              refine kp_nm (fun σ15_1147 hσ15_1147 => ?_)
              have kσ15_1147 : KS σ σ15_1147 := by rw [hσ15_1147]; exact ks_trans (ks_refl _) (ks_row (by decide))
              refine kp_nm (fun x16_1148 _ => ?_)
              refine kp_gd (fun _ => ?_)
              refine kp_nm (fun σ19_1149 hσ19_1149 => ?_)
              have kσ19_1149 : KS σ σ19_1149 := by rw [hσ19_1149]; exact ks_trans kσ15_1147 (ks_row (by decide))
              refine kp_nm (fun x20_1150 _ => ?_)
              refine kp_gd (fun _ => ?_)
              refine kp_nm (fun σ23_1151 hσ23_1151 => ?_)
              have kσ23_1151 : KS σ σ23_1151 := by rw [hσ23_1151]; exact ks_trans kσ19_1149 (ks_row (by decide))
              refine kp_nm (fun x24_1152 _ => ?_)
              refine kp_gd (fun _ => ?_)
              refine kp_nm (fun σ27_1153 hσ27_1153 => ?_)
              have kσ27_1153 : KS σ σ27_1153 := by rw [hσ27_1153]; exact ks_trans kσ23_1151 (ks_row (by decide))
              refine kp_nm (fun x28_1154 _ => ?_)
              refine kp_gd (fun _ => ?_)
              refine kp_nm (fun σ31_1155 hσ31_1155 => ?_)
              have kσ31_1155 : KS σ σ31_1155 := by rw [hσ31_1155]; exact ks_trans kσ27_1153 (ks_row (by decide))
              refine kp_nm (fun x32_1156 _ => ?_)
              refine kp_gd (fun _ => ?_)
              refine kp_nm (fun σ35_1157 hσ35_1157 => ?_)
              have kσ35_1157 : KS σ σ35_1157 := by rw [hσ35_1157]; exact ks_trans kσ31_1155 (ks_row (by decide))
              exact kp_tr2_ks (ks_X12_cutter_153 hL 1024 _ _ _) kσ35_1157

set_option maxRecDepth 100000 in
theorem ks_X12_image_2 {N : Nat} {K len : Nat → Nat} {ρ : RG} (hL : Lay N K len ρ) : ∀ (n : Nat) (σ : SG) (v1 : Int32), kp (F_X12_image_2 n σ ρ v1) (fun q => KS σ q.2) := by
  intro n
  induction n with
  | zero => intro σ v1; exact kp_none
  | succ n ih =>
    intro σ v1
    unfold F_X12_image_2
    refine kp_if ?_ ?_
    · refine kp_nm (fun σ3_1165 hσ3_1165 => ?_)
      have kσ3_1165 : KS σ σ3_1165 := by rw [hσ3_1165]; exact ks_trans (ks_refl _) (ks_lit (by decide))
      exact kp_some kσ3_1165
    · refine kp_gd (fun _ => ?_)
      refine kp_gd (fun _ => ?_)
      refine kp_nm (fun σ7_1166 hσ7_1166 => ?_)
      have kσ7_1166 : KS σ σ7_1166 := by rw [hσ7_1166]; exact ks_trans (ks_refl _) (ks_row (by decide))
      refine kp_nm (fun x8_1167 _ => ?_)
      exact kp_tr2_ks (ih _ _) kσ7_1166

set_option maxRecDepth 100000 in
theorem ks_X12_image {N : Nat} {K len : Nat → Nat} {σ : SG} {ρ : RG} (hL : Lay N K len ρ) : kp (F_X12_image σ ρ) (fun q => KS σ q.2) := by
  unfold F_X12_image
  exact kp_tr2_ks (ks_X12_image_2 hL 1024 _ _) (ks_refl _)

set_option maxRecDepth 100000 in
theorem ks_X12_undo_12 {N : Nat} {K len : Nat → Nat} {ρ : RG} (hL : Lay N K len ρ) : ∀ (n : Nat) (σ : SG) (v1 : Int32), kp (F_X12_undo_12 n σ ρ v1) (fun q => KS σ q.2) := by
  intro n
  induction n with
  | zero => intro σ v1; exact kp_none
  | succ n ih =>
    intro σ v1
    unfold F_X12_undo_12
    refine kp_if ?_ ?_
    · exact kp_some (ks_refl _)
    · refine kp_gd (fun _ => ?_)
      refine kp_gd (fun _ => ?_)
      refine kp_nm (fun σ6_1168 hσ6_1168 => ?_)
      have kσ6_1168 : KS σ σ6_1168 := by rw [hσ6_1168]; exact ks_trans (ks_refl _) (ks_row (by decide))
      refine kp_nm (fun x7_1169 _ => ?_)
      exact kp_tr2_ks (ih _ _) kσ6_1168

set_option maxRecDepth 100000 in
theorem ks_X12_undo {N : Nat} {K len : Nat → Nat} {σ : SG} {ρ : RG} (hL : Lay N K len ρ) : kp (F_X12_undo σ ρ) (fun q => KS σ q.2) := by
  unfold F_X12_undo
  refine kp_if ?_ ?_
  · exact kp_some (ks_refl _)
  · exact kp_tr2_ks (ks_X12_undo_12 hL 1024 _ _) (ks_refl _)
/-- all of the reference -/
def kxP (r _k : Nat) : Bool := Nat.ble 54 r && Nat.ble r 64
def kxR (r : Nat) : Bool := Nat.ble 54 r && Nat.ble r 64
def KX (σ σ' : SG) : Prop := ∀ r k, kxP r k = true → σ' r k = σ r k
theorem kx_refl (σ : SG) : KX σ σ := fun _ _ _ => rfl
theorem kx_trans {σ σ1 σ2 : SG} (h : KX σ σ1) (h' : KX σ1 σ2) : KX σ σ2 := fun r k p => (h' r k p).trans (h r k p)
theorem kx_lit {σ : SG} {r k : Nat} {v : Int32} (h : kxP r k = false) : KX σ (s2 σ r k v) := fun a b p => by
  rw [s2_at]
  by_cases e : a = r
  · by_cases e' : b = k
    · rw [e, e', h] at p; cases p
    · rw [if_pos e, if_neg e', e]
  · rw [if_neg e]
theorem kx_rows {r k : Nat} (h : kxR r = false) : kxP r k = false := by
  cases e : kxP r k with
  | false => rfl
  | true =>
    exfalso
    rw [show kxP r k = kxR r from rfl, h] at e
    cases e
theorem kx_row {σ : SG} {r k : Nat} {v : Int32} (h : kxR r = false) : KX σ (s2 σ r k v) := kx_lit (kx_rows h)
theorem kx_cpy {σ : SG} {a r n : Nat} (h : kxR r = false) : KX σ (cpy σ a r n) := fun x b p => by
  rw [cpy_at]
  by_cases e : x = r
  · rw [e, kx_rows h] at p; cases p
  · rw [if_neg e]
theorem kp_tr_kx {o : Option SG} {σ σ1 : SG} (h : kp o (fun q => KX σ1 q)) (k : KX σ σ1) : kp o (fun q => KX σ q) := kp_mono h (fun _ z => kx_trans k z)
theorem kp_tr2_kx {α : Type} {o : Option (α × SG)} {σ σ1 : SG} (h : kp o (fun q => KX σ1 q.2)) (k : KX σ σ1) : kp o (fun q => KX σ q.2) := kp_mono h (fun _ z => kx_trans k z)
theorem kp_tr3_kx {α β : Type} {o : Option (α × SG × β)} {σ σ1 : SG} (h : kp o (fun q => KX σ1 q.2.1)) (k : KX σ σ1) : kp o (fun q => KX σ q.2.1) := kp_mono h (fun _ z => kx_trans k z)
theorem kx_lbx {σ : SG} {i k : Nat} {v : Int32} (h : isLb i = true) : KX σ (s2 σ i k v) := by
  have hd : ∀ i : Fin 65, isLb i = true → kxR i = false := by decide
  exact kx_row (hd ⟨i, isLb_lt h⟩ h)
theorem kx_hi {r : Nat} (h : 65 ≤ r) : kxR r = false := by
  have e : Nat.ble r 64 = false := by
    cases e : Nat.ble r 64 with
    | false => rfl
    | true => have := Nat.le_of_ble_eq_true e; omega
  unfold kxR
  rw [e]
  simp
theorem kx_ck {N : Nat} {K len : Nat → Nat} {ρ : RG} {σ : SG} {c k : Nat} {v : Int32} (hL : Lay N K len ρ) (h : isC N K c = true) : KX σ (s2 σ c k v) := kx_row (kx_hi (ck_65 hL h))
theorem kx_dg {N : Nat} {K len : Nat → Nat} {ρ : RG} {σ : SG} {d k : Nat} {v : Int32} (hL : Lay N K len ρ) (h : isD N K len d = true) : KX σ (s2 σ d k v) := kx_row (by
  rcases Nat.lt_or_ge d 65 with z | z
  · obtain ⟨-, q1, q2⟩ := isD_lt h
    obtain ⟨e1, e2⟩ := hL.2.1 d z
    have hd : ∀ d : Fin 65, kind0 d = 14 → len0 d = 4 → kxR d = false := by decide
    exact hd ⟨d, z⟩ (e1.symm.trans q1) (e2.symm.trans q2)
  · exact kx_hi z)
set_option maxRecDepth 100000 in
theorem kx_X11_feed {N : Nat} {K len : Nat → Nat} {a1 : Int32} {σ : SG} {ρ : RG} (hL : Lay N K len ρ) : kp (F_X11_feed a1 σ ρ) (fun q => KX σ q.2) := by
  unfold F_X11_feed
  refine kp_bx (fun r1_1 => ?_)
  refine kp_if ?_ ?_
  · exact kp_some (kx_refl _)
  · refine kp_if ?_ ?_
    · refine kp_gd (fun _ => ?_)
      refine kp_nm (fun σ6_2 hσ6_2 => ?_)
      have kσ6_2 : KX σ σ6_2 := by rw [hσ6_2]; exact kx_trans (kx_refl _) (kx_row (by decide))
      refine kp_nm (fun x7_3 _ => ?_)
      refine kp_nm (fun σ9_4 hσ9_4 => ?_)
      have kσ9_4 : KX σ σ9_4 := by rw [hσ9_4]; exact kx_trans kσ6_2 (kx_lit (by decide))
      exact kp_some kσ9_4
    · exact kp_some (kx_refl _)

set_option maxRecDepth 100000 in
theorem kx_X3_startsAnew {N : Nat} {K len : Nat → Nat} {i : Nat} {a1 : Int32} {σ : SG} {ρ : RG} (hL : Lay N K len ρ) (f_i : isLb i = true) : kp (F_X3_startsAnew i a1 σ ρ) (fun q => KX σ q) := by
  unfold F_X3_startsAnew
  refine kp_nm (fun σ2_7 hσ2_7 => ?_)
  have kσ2_7 : KX σ σ2_7 := by rw [hσ2_7]; exact kx_trans (kx_refl _) (kx_lbx f_i)
  refine kp_nm (fun σ4_8 hσ4_8 => ?_)
  have kσ4_8 : KX σ σ4_8 := by rw [hσ4_8]; exact kx_trans kσ2_7 (kx_lbx f_i)
  refine kp_nm (fun σ6_9 hσ6_9 => ?_)
  have kσ6_9 : KX σ σ6_9 := by rw [hσ6_9]; exact kx_trans kσ4_8 (kx_lbx f_i)
  refine kp_nm (fun σ8_10 hσ8_10 => ?_)
  have kσ8_10 : KX σ σ8_10 := by rw [hσ8_10]; exact kx_trans kσ6_9 (kx_lbx f_i)
  refine kp_nm (fun σ10_11 hσ10_11 => ?_)
  have kσ10_11 : KX σ σ10_11 := by rw [hσ10_11]; exact kx_trans kσ8_10 (kx_lbx f_i)
  refine kp_nm (fun σ12_12 hσ12_12 => ?_)
  have kσ12_12 : KX σ σ12_12 := by rw [hσ12_12]; exact kx_trans kσ10_11 (kx_lbx f_i)
  exact kp_some kσ12_12

set_option maxRecDepth 100000 in
theorem kx_X11_loaf {N : Nat} {K len : Nat → Nat} {a1 : Int32} {σ : SG} {ρ : RG} (hL : Lay N K len ρ) : kp (F_X11_loaf a1 σ ρ) (fun q => KX σ q.2) := by
  unfold F_X11_loaf
  refine kp_bx (fun r1_5 => ?_)
  refine kp_if ?_ ?_
  · exact kp_some (kx_refl _)
  · refine kp_bn (kx_X3_startsAnew hL (by decide)) (fun σ3_6 hσ3_6 => ?_)
    have kσ3_6 : KX σ σ3_6 := kx_trans (kx_refl _) hσ3_6
    exact kp_some kσ3_6

set_option maxRecDepth 100000 in
theorem kx_X11_thick {N : Nat} {K len : Nat → Nat} {a1 : Int32} {a2 : Int32} {σ : SG} {ρ : RG} (hL : Lay N K len ρ) : kp (F_X11_thick N K len a1 a2 σ ρ) (fun q => KX σ q.2) := by
  unfold F_X11_thick
  refine kp_bx (fun o1_13 => ?_)
  refine kp_oc ?_ (fun c2_14 => ?_)
  · exact kp_some (kx_refl _)
  · refine kp_gd (fun g_15 => ?_)
    refine kp_bx (fun r3_16 => ?_)
    refine kp_if ?_ ?_
    · exact kp_some (kx_refl _)
    · refine kp_nm (fun σ5_17 hσ5_17 => ?_)
      have kσ5_17 : KX σ σ5_17 := by rw [hσ5_17]; exact kx_trans (kx_refl _) (kx_ck hL g_15)
      exact kp_some kσ5_17

set_option maxRecDepth 100000 in
theorem kx_X11_row {N : Nat} {K len : Nat → Nat} {a1 : Int32} {a2 : Int32} {a3 : Int32} {σ : SG} {ρ : RG} (hL : Lay N K len ρ) : kp (F_X11_row N K len a1 a2 a3 σ ρ) (fun q => KX σ q.2) := by
  unfold F_X11_row
  refine kp_bx (fun o1_18 => ?_)
  refine kp_oc ?_ (fun c2_19 => ?_)
  · exact kp_some (kx_refl _)
  · refine kp_gd (fun g_20 => ?_)
    refine kp_bx (fun r3_21 => ?_)
    refine kp_if ?_ ?_
    · exact kp_some (kx_refl _)
    · refine kp_bx (fun r5_22 => ?_)
      refine kp_if ?_ ?_
      · exact kp_some (kx_refl _)
      · refine kp_if ?_ ?_
        · exact kp_some (kx_refl _)
        · refine kp_gd (fun _ => ?_)
          refine kp_gd (fun _ => ?_)
          refine kp_oc ?_ (fun c10_23 => ?_)
          · exact kp_none
          · refine kp_gd (fun g_24 => ?_)
            refine kp_gd (fun _ => ?_)
            refine kp_gd (fun _ => ?_)
            refine kp_oc ?_ (fun c13_25 => ?_)
            · exact kp_none
            · refine kp_gd (fun g_26 => ?_)
              refine kp_gd (fun _ => ?_)
              refine kp_nm (fun σ16_27 hσ16_27 => ?_)
              have kσ16_27 : KX σ σ16_27 := by rw [hσ16_27]; exact kx_trans (kx_refl _) (kx_dg hL g_26)
              exact kp_some kσ16_27

set_option maxRecDepth 100000 in
theorem kx_X11_week {N : Nat} {K len : Nat → Nat} {a1 : Int32} {σ : SG} {ρ : RG} (hL : Lay N K len ρ) : kp (F_X11_week a1 σ ρ) (fun q => KX σ q.2) := by
  unfold F_X11_week
  refine kp_bx (fun r1_28 => ?_)
  refine kp_if ?_ ?_
  · exact kp_some (kx_refl _)
  · refine kp_if ?_ ?_
    · refine kp_gd (fun _ => ?_)
      refine kp_nm (fun σ6_29 hσ6_29 => ?_)
      have kσ6_29 : KX σ σ6_29 := by rw [hσ6_29]; exact kx_trans (kx_refl _) (kx_row (by decide))
      refine kp_nm (fun x7_30 _ => ?_)
      refine kp_nm (fun σ9_31 hσ9_31 => ?_)
      have kσ9_31 : KX σ σ9_31 := by rw [hσ9_31]; exact kx_trans kσ6_29 (kx_lit (by decide))
      exact kp_some kσ9_31
    · exact kp_some (kx_refl _)

set_option maxRecDepth 100000 in
theorem kx_X11_clear {N : Nat} {K len : Nat → Nat} {σ : SG} {ρ : RG} (hL : Lay N K len ρ) : kp (F_X11_clear σ ρ) (fun q => KX σ q.2) := by
  unfold F_X11_clear
  refine kp_nm (fun σ2_32 hσ2_32 => ?_)
  have kσ2_32 : KX σ σ2_32 := by rw [hσ2_32]; exact kx_trans (kx_refl _) (kx_lit (by decide))
  exact kp_some kσ2_32

set_option maxRecDepth 100000 in
theorem kx_X11_book {N : Nat} {K len : Nat → Nat} {a1 : Int32} {a2 : Int32} {σ : SG} {ρ : RG} (hL : Lay N K len ρ) : kp (F_X11_book N K len a1 a2 σ ρ) (fun q => KX σ q.2) := by
  unfold F_X11_book
  refine kp_if ?_ ?_
  · refine kp_nm (fun σ18_33 hσ18_33 => ?_)
    have kσ18_33 : KX σ σ18_33 := by rw [hσ18_33]; exact kx_trans (kx_refl _) (kx_lit (by decide))
    exact kp_some kσ18_33
  · refine kp_bx (fun o2_34 => ?_)
    refine kp_oc ?_ (fun c3_35 => ?_)
    · exact kp_some (kx_refl _)
    · refine kp_gd (fun g_36 => ?_)
      refine kp_bx (fun r4_37 => ?_)
      refine kp_if ?_ ?_
      · exact kp_some (kx_refl _)
      · refine kp_if ?_ ?_
        · exact kp_some (kx_refl _)
        · refine kp_if ?_ ?_
          · refine kp_gd (fun _ => ?_)
            refine kp_nm (fun σ10_38 hσ10_38 => ?_)
            have kσ10_38 : KX σ σ10_38 := by rw [hσ10_38]; exact kx_trans (kx_refl _) (kx_row (by decide))
            refine kp_gd (fun _ => ?_)
            refine kp_nm (fun σ13_39 hσ13_39 => ?_)
            have kσ13_39 : KX σ σ13_39 := by rw [hσ13_39]; exact kx_trans kσ10_38 (kx_row (by decide))
            refine kp_nm (fun x14_40 _ => ?_)
            refine kp_nm (fun σ16_41 hσ16_41 => ?_)
            have kσ16_41 : KX σ σ16_41 := by rw [hσ16_41]; exact kx_trans kσ13_39 (kx_lit (by decide))
            exact kp_some kσ16_41
          · exact kp_some (kx_refl _)
