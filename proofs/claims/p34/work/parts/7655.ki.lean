/-! PART 7655.ki: printed by wip/gen/ki36.py -/
/-- a try of a cut on the loaf i writes that loaf and its start alone -/
def KI (i : Nat) (σ σ' : SG) : Prop := ∀ r k, r ≠ i → r ≠ i + 1 → σ' r k = σ r k
theorem ki_refl {i : Nat} (σ : SG) : KI i σ σ := fun _ _ _ _ => rfl
theorem ki_trans {i : Nat} {σ σ1 σ2 : SG} (h : KI i σ σ1) (h' : KI i σ1 σ2) : KI i σ σ2 := fun r k p q => (h' r k p q).trans (h r k p q)
theorem ki_0 {i : Nat} {σ : SG} {k : Nat} {v : Int32} : KI i σ (s2 σ i k v) := fun r _ p _ => by rw [s2_ne r p]
theorem ki_1 {i : Nat} {σ : SG} {k : Nat} {v : Int32} : KI i σ (s2 σ (i + 1) k v) := fun r _ _ q => by rw [s2_ne r q]
theorem kp_tr_ki {i : Nat} {o : Option SG} {σ σ1 : SG} (h : kp o (fun q => KI i σ1 q)) (k : KI i σ σ1) : kp o (fun q => KI i σ q) := kp_mono h (fun _ z => ki_trans k z)
theorem kp_tr2_ki {i : Nat} {α : Type} {o : Option (α × SG)} {σ σ1 : SG} (h : kp o (fun q => KI i σ1 q.2)) (k : KI i σ σ1) : kp o (fun q => KI i σ q.2) := kp_mono h (fun _ z => ki_trans k z)
set_option maxRecDepth 100000 in
theorem ki_X4_prepare {N : Nat} {K len : Nat → Nat} {z : Nat} {i : Nat} {σ : SG} {ρ : RG} (hL : Lay N K len ρ) (f_z : isC N K z = true) (f_i : isLx i = true) : kp (F_X4_prepare N K len z i σ ρ) (fun q => KI i σ q) := by
  unfold F_X4_prepare
  refine kp_nm (fun x1_1 _ => ?_)
  refine kp_nm (fun σ3_2 hσ3_2 => ?_)
  have kσ3_2 : KI i σ σ3_2 := by rw [hσ3_2]; exact ki_trans (ki_refl _) ki_0
  exact kp_some kσ3_2

set_option maxRecDepth 100000 in
theorem ki_X3_straighten {N : Nat} {K len : Nat → Nat} {i : Nat} {σ : SG} {ρ : RG} (hL : Lay N K len ρ) (f_i : isLx i = true) : kp (F_X3_straighten i σ ρ) (fun q => KI i σ q.2) := by
  unfold F_X3_straighten
  refine kp_bx (fun r1_5 => ?_)
  refine kp_nm (fun x2_6 _ => ?_)
  refine kp_nm (fun σ4_7 hσ4_7 => ?_)
  have kσ4_7 : KI i σ σ4_7 := by rw [hσ4_7]; exact ki_trans (ki_refl _) ki_0
  refine kp_nm (fun σ6_8 hσ6_8 => ?_)
  have kσ6_8 : KI i σ σ6_8 := by rw [hσ6_8]; exact ki_trans kσ4_7 ki_0
  refine kp_nm (fun σ8_9 hσ8_9 => ?_)
  have kσ8_9 : KI i σ σ8_9 := by rw [hσ8_9]; exact ki_trans kσ6_8 ki_0
  refine kp_nm (fun x9_10 _ => ?_)
  refine kp_nm (fun x10_11 _ => ?_)
  refine kp_nm (fun σ12_12 hσ12_12 => ?_)
  have kσ12_12 : KI i σ σ12_12 := by rw [hσ12_12]; exact ki_trans kσ8_9 ki_0
  refine kp_nm (fun x13_13 _ => ?_)
  exact kp_some kσ12_12

set_option maxRecDepth 100000 in
theorem ki_X5_prepare {N : Nat} {K len : Nat → Nat} {z : Nat} {i : Nat} {σ : SG} {ρ : RG} (hL : Lay N K len ρ) (f_z : isC N K z = true) (f_i : isLx i = true) : kp (F_X5_prepare N K len z i σ ρ) (fun q => KI i σ q) := by
  unfold F_X5_prepare
  refine kp_bn2 (ki_X3_straighten hL f_i) (fun r1_3 σ1_4 hr1_3 => ?_)
  have kσ1_4 : KI i σ σ1_4 := ki_trans (ki_refl _) hr1_3
  exact kp_some kσ1_4

theorem ki_v_prepare {N : Nat} {K len : Nat → Nat} {z i : Nat} {σ : SG} {ρ : RG} (hL : Lay N K len ρ) (f_z : isC N K z = true) (f_i : isLx i = true) : kp (F_v_prepare N K len z i σ ρ) (fun q => KI i σ q) := by
  unfold F_v_prepare
  refine kp_if (kp_bx (fun _ => kp_some (ki_refl _))) ?_
  refine kp_if (kp_bx (fun _ => kp_some (ki_refl _))) ?_
  refine kp_if (ki_X4_prepare hL f_z f_i) ?_
  refine kp_if (ki_X5_prepare hL f_z f_i) ?_
  refine kp_if (kp_bx (fun _ => kp_some (ki_refl _))) ?_
  refine kp_if (kp_bx (fun _ => kp_some (ki_refl _))) ?_
  refine kp_if (kp_bx (fun _ => kp_some (ki_refl _))) ?_
  exact kp_none

set_option maxRecDepth 100000 in
theorem ki_X3_noteStart {N : Nat} {K len : Nat → Nat} {i : Nat} {z : Nat} {a2 : Int32} {σ : SG} {ρ : RG} (hL : Lay N K len ρ) (f_i : isLx i = true) (f_z : isC N K z = true) : kp (F_X3_noteStart N K len i z a2 σ ρ) (fun q => KI i σ q) := by
  unfold F_X3_noteStart
  refine kp_nm (fun σ2_15 hσ2_15 => ?_)
  have kσ2_15 : KI i σ σ2_15 := by rw [hσ2_15]; exact ki_trans (ki_refl _) ki_1
  refine kp_bx (fun r3_16 => ?_)
  refine kp_nm (fun σ5_17 hσ5_17 => ?_)
  have kσ5_17 : KI i σ σ5_17 := by rw [hσ5_17]; exact ki_trans kσ2_15 ki_1
  refine kp_nm (fun σ7_18 hσ7_18 => ?_)
  have kσ7_18 : KI i σ σ7_18 := by rw [hσ7_18]; exact ki_trans kσ5_17 ki_1
  refine kp_nm (fun x8_19 _ => ?_)
  refine kp_nm (fun σ10_20 hσ10_20 => ?_)
  have kσ10_20 : KI i σ σ10_20 := by rw [hσ10_20]; exact ki_trans kσ7_18 ki_1
  refine kp_nm (fun x11_21 _ => ?_)
  refine kp_nm (fun σ13_22 hσ13_22 => ?_)
  have kσ13_22 : KI i σ σ13_22 := by rw [hσ13_22]; exact ki_trans kσ10_20 ki_1
  refine kp_nm (fun x14_23 _ => ?_)
  refine kp_nm (fun σ16_24 hσ16_24 => ?_)
  have kσ16_24 : KI i σ σ16_24 := by rw [hσ16_24]; exact ki_trans kσ13_22 ki_1
  exact kp_some kσ16_24

set_option maxRecDepth 100000 in
theorem ki_X3_weigh_8 {N : Nat} {K len : Nat → Nat} {i : Nat} {a1 : Int32} {a2 : Int32} {a3 : Int32} {ρ : RG} (hL : Lay N K len ρ) (f_i : isLx i = true) : ∀ (n : Nat) (σ : SG) (v1 : Int32) (v2 : Int32) (v3 : Int32) (v4 : Int32), kp (F_X3_weigh_8 i a1 a2 a3 n σ ρ v1 v2 v3 v4) (fun q => KI i σ q) := by
  intro n
  induction n with
  | zero => intro σ v1 v2 v3 v4; exact kp_none
  | succ n ih =>
    intro σ v1 v2 v3 v4
    unfold F_X3_weigh_8
    refine kp_if ?_ ?_
    · exact kp_some (ki_refl _)
    · refine kp_bx (fun r4_41 => ?_)
      refine kp_nm (fun x5_42 _ => ?_)
      refine kp_nm (fun x6_43 _ => ?_)
      refine kp_nm (fun x7_44 _ => ?_)
      refine kp_nm (fun σ9_45 hσ9_45 => ?_)
      have kσ9_45 : KI i σ σ9_45 := by rw [hσ9_45]; exact ki_trans (ki_refl _) ki_0
      refine kp_if ?_ ?_
      · unfold F_X3_weigh_60
        refine kp_nm (fun σ13_46 hσ13_46 => ?_)
        have kσ13_46 : KI i σ σ13_46 := by rw [hσ13_46]; exact ki_trans kσ9_45 ki_0
        refine kp_if ?_ ?_
        · unfold F_X3_weigh_83
          refine kp_nm (fun σ17_47 hσ17_47 => ?_)
          have kσ17_47 : KI i σ σ17_47 := by rw [hσ17_47]; exact ki_trans kσ13_46 ki_0
          refine kp_nm (fun x18_48 _ => ?_)
          exact kp_tr_ki (ih _ _ _ _ _) kσ17_47
        · refine kp_nm (fun x15_49 _ => ?_)
          unfold F_X3_weigh_83
          refine kp_nm (fun σ17_50 hσ17_50 => ?_)
          have kσ17_50 : KI i σ σ17_50 := by rw [hσ17_50]; exact ki_trans kσ13_46 ki_0
          refine kp_nm (fun x18_51 _ => ?_)
          exact kp_tr_ki (ih _ _ _ _ _) kσ17_50
      · refine kp_nm (fun x11_52 _ => ?_)
        unfold F_X3_weigh_60
        refine kp_nm (fun σ13_53 hσ13_53 => ?_)
        have kσ13_53 : KI i σ σ13_53 := by rw [hσ13_53]; exact ki_trans kσ9_45 ki_0
        refine kp_if ?_ ?_
        · unfold F_X3_weigh_83
          refine kp_nm (fun σ17_54 hσ17_54 => ?_)
          have kσ17_54 : KI i σ σ17_54 := by rw [hσ17_54]; exact ki_trans kσ13_53 ki_0
          refine kp_nm (fun x18_55 _ => ?_)
          exact kp_tr_ki (ih _ _ _ _ _) kσ17_54
        · refine kp_nm (fun x15_56 _ => ?_)
          unfold F_X3_weigh_83
          refine kp_nm (fun σ17_57 hσ17_57 => ?_)
          have kσ17_57 : KI i σ σ17_57 := by rw [hσ17_57]; exact ki_trans kσ13_53 ki_0
          refine kp_nm (fun x18_58 _ => ?_)
          exact kp_tr_ki (ih _ _ _ _ _) kσ17_57

set_option maxRecDepth 100000 in
theorem ki_X3_weigh {N : Nat} {K len : Nat → Nat} {i : Nat} {a1 : Int32} {a2 : Int32} {a3 : Int32} {σ : SG} {ρ : RG} (hL : Lay N K len ρ) (f_i : isLx i = true) : kp (F_X3_weigh i a1 a2 a3 σ ρ) (fun q => KI i σ q) := by
  unfold F_X3_weigh
  refine kp_nm (fun σ2_40 hσ2_40 => ?_)
  have kσ2_40 : KI i σ σ2_40 := by rw [hσ2_40]; exact ki_trans (ki_refl _) ki_0
  exact kp_tr_ki (ki_X3_weigh_8 hL f_i 1024 _ _ _ _ _) kσ2_40

set_option maxRecDepth 100000 in
theorem ki_X3_tryCut {N : Nat} {K len : Nat → Nat} {i : Nat} {z : Nat} {a2 : Int32} {a4 : Int32} {a5 : Int32} {σ : SG} {ρ : RG} (hL : Lay N K len ρ) (f_i : isLx i = true) (f_z : isC N K z = true) : kp (F_X3_tryCut N K len i z a2 a4 a5 σ ρ) (fun q => KI i σ q.2) := by
  unfold F_X3_tryCut
  refine kp_bn (ki_X3_noteStart hL f_i f_z) (fun σ1_14 hσ1_14 => ?_)
  have kσ1_14 : KI i σ σ1_14 := ki_trans (ki_refl _) hσ1_14
  refine kp_bx (fun r2_25 => ?_)
  refine kp_bx (fun r3_26 => ?_)
  refine kp_bn (ki_v_prepare hL f_z f_i) (fun σ4_27 hσ4_27 => ?_)
  have kσ4_27 : KI i σ σ4_27 := ki_trans kσ1_14 hσ4_27
  refine kp_if ?_ ?_
  · unfold F_X3_tryCut_80
    refine kp_gd (fun g_28 => ?_)
    refine kp_gd (fun g_29 => ?_)
    refine kp_bx (fun r6_30 => ?_)
    refine kp_nm (fun x7_31 _ => ?_)
    refine kp_bx (fun r8_32 => ?_)
    refine kp_if ?_ ?_
    · unfold F_X3_tryCut_111
      refine kp_gd (fun g_33 => ?_)
      refine kp_bx (fun r10_34 => ?_)
      refine kp_nm (fun x11_35 _ => ?_)
      refine kp_bx (fun r12_36 => ?_)
      refine kp_nm (fun x13_37 _ => ?_)
      refine kp_nm (fun x14_38 _ => ?_)
      refine kp_bn (ki_X3_weigh hL f_i) (fun σ15_39 hσ15_39 => ?_)
      have kσ15_39 : KI i σ σ15_39 := ki_trans kσ4_27 hσ15_39
      refine kp_nm (fun x16_59 _ => ?_)
      refine kp_nm (fun σ18_60 hσ18_60 => ?_)
      have kσ18_60 : KI i σ σ18_60 := by rw [hσ18_60]; exact ki_trans kσ15_39 ki_0
      refine kp_nm (fun σ20_61 hσ20_61 => ?_)
      have kσ20_61 : KI i σ σ20_61 := by rw [hσ20_61]; exact ki_trans kσ18_60 ki_0
      refine kp_nm (fun σ22_62 hσ22_62 => ?_)
      have kσ22_62 : KI i σ σ22_62 := by rw [hσ22_62]; exact ki_trans kσ20_61 ki_0
      refine kp_if ?_ ?_
      · refine kp_bx (fun r27_63 => ?_)
        refine kp_if ?_ ?_
        · refine kp_nm (fun σ30_64 hσ30_64 => ?_)
          have kσ30_64 : KI i σ σ30_64 := by rw [hσ30_64]; exact ki_trans kσ22_62 ki_0
          refine kp_nm (fun σ32_65 hσ32_65 => ?_)
          have kσ32_65 : KI i σ σ32_65 := by rw [hσ32_65]; exact ki_trans kσ30_64 ki_0
          refine kp_nm (fun σ34_66 hσ34_66 => ?_)
          have kσ34_66 : KI i σ σ34_66 := by rw [hσ34_66]; exact ki_trans kσ32_65 ki_0
          refine kp_nm (fun σ36_67 hσ36_67 => ?_)
          have kσ36_67 : KI i σ σ36_67 := by rw [hσ36_67]; exact ki_trans kσ34_66 ki_0
          exact kp_some kσ36_67
        · unfold F_X3_tryCut_180
          refine kp_nm (fun x24_68 _ => ?_)
          refine kp_nm (fun σ26_69 hσ26_69 => ?_)
          have kσ26_69 : KI i σ σ26_69 := by rw [hσ26_69]; exact ki_trans kσ22_62 ki_0
          exact kp_some kσ26_69
      · unfold F_X3_tryCut_180
        refine kp_nm (fun x24_70 _ => ?_)
        refine kp_nm (fun σ26_71 hσ26_71 => ?_)
        have kσ26_71 : KI i σ σ26_71 := by rw [hσ26_71]; exact ki_trans kσ22_62 ki_0
        exact kp_some kσ26_71
    · refine kp_nm (fun x37_72 _ => ?_)
      unfold F_X3_tryCut_111
      refine kp_gd (fun g_73 => ?_)
      refine kp_bx (fun r10_74 => ?_)
      refine kp_nm (fun x11_75 _ => ?_)
      refine kp_bx (fun r12_76 => ?_)
      refine kp_nm (fun x13_77 _ => ?_)
      refine kp_nm (fun x14_78 _ => ?_)
      refine kp_bn (ki_X3_weigh hL f_i) (fun σ15_79 hσ15_79 => ?_)
      have kσ15_79 : KI i σ σ15_79 := ki_trans kσ4_27 hσ15_79
      refine kp_nm (fun x16_80 _ => ?_)
      refine kp_nm (fun σ18_81 hσ18_81 => ?_)
      have kσ18_81 : KI i σ σ18_81 := by rw [hσ18_81]; exact ki_trans kσ15_79 ki_0
      refine kp_nm (fun σ20_82 hσ20_82 => ?_)
      have kσ20_82 : KI i σ σ20_82 := by rw [hσ20_82]; exact ki_trans kσ18_81 ki_0
      refine kp_nm (fun σ22_83 hσ22_83 => ?_)
      have kσ22_83 : KI i σ σ22_83 := by rw [hσ22_83]; exact ki_trans kσ20_82 ki_0
      refine kp_if ?_ ?_
      · refine kp_bx (fun r27_84 => ?_)
        refine kp_if ?_ ?_
        · refine kp_nm (fun σ30_85 hσ30_85 => ?_)
          have kσ30_85 : KI i σ σ30_85 := by rw [hσ30_85]; exact ki_trans kσ22_83 ki_0
          refine kp_nm (fun σ32_86 hσ32_86 => ?_)
          have kσ32_86 : KI i σ σ32_86 := by rw [hσ32_86]; exact ki_trans kσ30_85 ki_0
          refine kp_nm (fun σ34_87 hσ34_87 => ?_)
          have kσ34_87 : KI i σ σ34_87 := by rw [hσ34_87]; exact ki_trans kσ32_86 ki_0
          refine kp_nm (fun σ36_88 hσ36_88 => ?_)
          have kσ36_88 : KI i σ σ36_88 := by rw [hσ36_88]; exact ki_trans kσ34_87 ki_0
          exact kp_some kσ36_88
        · unfold F_X3_tryCut_180
          refine kp_nm (fun x24_89 _ => ?_)
          refine kp_nm (fun σ26_90 hσ26_90 => ?_)
          have kσ26_90 : KI i σ σ26_90 := by rw [hσ26_90]; exact ki_trans kσ22_83 ki_0
          exact kp_some kσ26_90
      · unfold F_X3_tryCut_180
        refine kp_nm (fun x24_91 _ => ?_)
        refine kp_nm (fun σ26_92 hσ26_92 => ?_)
        have kσ26_92 : KI i σ σ26_92 := by rw [hσ26_92]; exact ki_trans kσ22_83 ki_0
        exact kp_some kσ26_92
  · refine kp_nm (fun x38_93 _ => ?_)
    unfold F_X3_tryCut_80
    refine kp_gd (fun g_94 => ?_)
    refine kp_gd (fun g_95 => ?_)
    refine kp_bx (fun r6_96 => ?_)
    refine kp_nm (fun x7_97 _ => ?_)
    refine kp_bx (fun r8_98 => ?_)
    refine kp_if ?_ ?_
    · unfold F_X3_tryCut_111
      refine kp_gd (fun g_99 => ?_)
      refine kp_bx (fun r10_100 => ?_)
      refine kp_nm (fun x11_101 _ => ?_)
      refine kp_bx (fun r12_102 => ?_)
      refine kp_nm (fun x13_103 _ => ?_)
      refine kp_nm (fun x14_104 _ => ?_)
      refine kp_bn (ki_X3_weigh hL f_i) (fun σ15_105 hσ15_105 => ?_)
      have kσ15_105 : KI i σ σ15_105 := ki_trans kσ4_27 hσ15_105
      refine kp_nm (fun x16_106 _ => ?_)
      refine kp_nm (fun σ18_107 hσ18_107 => ?_)
      have kσ18_107 : KI i σ σ18_107 := by rw [hσ18_107]; exact ki_trans kσ15_105 ki_0
      refine kp_nm (fun σ20_108 hσ20_108 => ?_)
      have kσ20_108 : KI i σ σ20_108 := by rw [hσ20_108]; exact ki_trans kσ18_107 ki_0
      refine kp_nm (fun σ22_109 hσ22_109 => ?_)
      have kσ22_109 : KI i σ σ22_109 := by rw [hσ22_109]; exact ki_trans kσ20_108 ki_0
      refine kp_if ?_ ?_
      · refine kp_bx (fun r27_110 => ?_)
        refine kp_if ?_ ?_
        · refine kp_nm (fun σ30_111 hσ30_111 => ?_)
          have kσ30_111 : KI i σ σ30_111 := by rw [hσ30_111]; exact ki_trans kσ22_109 ki_0
          refine kp_nm (fun σ32_112 hσ32_112 => ?_)
          have kσ32_112 : KI i σ σ32_112 := by rw [hσ32_112]; exact ki_trans kσ30_111 ki_0
          refine kp_nm (fun σ34_113 hσ34_113 => ?_)
          have kσ34_113 : KI i σ σ34_113 := by rw [hσ34_113]; exact ki_trans kσ32_112 ki_0
          refine kp_nm (fun σ36_114 hσ36_114 => ?_)
          have kσ36_114 : KI i σ σ36_114 := by rw [hσ36_114]; exact ki_trans kσ34_113 ki_0
          exact kp_some kσ36_114
        · unfold F_X3_tryCut_180
          refine kp_nm (fun x24_115 _ => ?_)
          refine kp_nm (fun σ26_116 hσ26_116 => ?_)
          have kσ26_116 : KI i σ σ26_116 := by rw [hσ26_116]; exact ki_trans kσ22_109 ki_0
          exact kp_some kσ26_116
      · unfold F_X3_tryCut_180
        refine kp_nm (fun x24_117 _ => ?_)
        refine kp_nm (fun σ26_118 hσ26_118 => ?_)
        have kσ26_118 : KI i σ σ26_118 := by rw [hσ26_118]; exact ki_trans kσ22_109 ki_0
        exact kp_some kσ26_118
    · refine kp_nm (fun x37_119 _ => ?_)
      unfold F_X3_tryCut_111
      refine kp_gd (fun g_120 => ?_)
      refine kp_bx (fun r10_121 => ?_)
      refine kp_nm (fun x11_122 _ => ?_)
      refine kp_bx (fun r12_123 => ?_)
      refine kp_nm (fun x13_124 _ => ?_)
      refine kp_nm (fun x14_125 _ => ?_)
      refine kp_bn (ki_X3_weigh hL f_i) (fun σ15_126 hσ15_126 => ?_)
      have kσ15_126 : KI i σ σ15_126 := ki_trans kσ4_27 hσ15_126
      refine kp_nm (fun x16_127 _ => ?_)
      refine kp_nm (fun σ18_128 hσ18_128 => ?_)
      have kσ18_128 : KI i σ σ18_128 := by rw [hσ18_128]; exact ki_trans kσ15_126 ki_0
      refine kp_nm (fun σ20_129 hσ20_129 => ?_)
      have kσ20_129 : KI i σ σ20_129 := by rw [hσ20_129]; exact ki_trans kσ18_128 ki_0
      refine kp_nm (fun σ22_130 hσ22_130 => ?_)
      have kσ22_130 : KI i σ σ22_130 := by rw [hσ22_130]; exact ki_trans kσ20_129 ki_0
      refine kp_if ?_ ?_
      · refine kp_bx (fun r27_131 => ?_)
        refine kp_if ?_ ?_
        · refine kp_nm (fun σ30_132 hσ30_132 => ?_)
          have kσ30_132 : KI i σ σ30_132 := by rw [hσ30_132]; exact ki_trans kσ22_130 ki_0
          refine kp_nm (fun σ32_133 hσ32_133 => ?_)
          have kσ32_133 : KI i σ σ32_133 := by rw [hσ32_133]; exact ki_trans kσ30_132 ki_0
          refine kp_nm (fun σ34_134 hσ34_134 => ?_)
          have kσ34_134 : KI i σ σ34_134 := by rw [hσ34_134]; exact ki_trans kσ32_133 ki_0
          refine kp_nm (fun σ36_135 hσ36_135 => ?_)
          have kσ36_135 : KI i σ σ36_135 := by rw [hσ36_135]; exact ki_trans kσ34_134 ki_0
          exact kp_some kσ36_135
        · unfold F_X3_tryCut_180
          refine kp_nm (fun x24_136 _ => ?_)
          refine kp_nm (fun σ26_137 hσ26_137 => ?_)
          have kσ26_137 : KI i σ σ26_137 := by rw [hσ26_137]; exact ki_trans kσ22_130 ki_0
          exact kp_some kσ26_137
      · unfold F_X3_tryCut_180
        refine kp_nm (fun x24_138 _ => ?_)
        refine kp_nm (fun σ26_139 hσ26_139 => ?_)
        have kσ26_139 : KI i σ σ26_139 := by rw [hσ26_139]; exact ki_trans kσ22_130 ki_0
        exact kp_some kσ26_139
