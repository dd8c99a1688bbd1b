/-! PART 7631.kf: printed by wip/gen/kf36.py -/
/-- faces kept by the reference, its two flags -/
def kfP (r k : Nat) : Bool := r == 57 || r == 60 || (r == 54 && (k == 17 || k == 18))
def kfR (r : Nat) : Bool := r == 57 || r == 60 || r == 54
def KF (σ σ' : SG) : Prop := ∀ r k, kfP r k = true → σ' r k = σ r k
theorem kf_refl (σ : SG) : KF σ σ := fun _ _ _ => rfl
theorem kf_trans {σ σ1 σ2 : SG} (h : KF σ σ1) (h' : KF σ1 σ2) : KF σ σ2 := fun r k p => (h' r k p).trans (h r k p)
theorem kf_lit {σ : SG} {r k : Nat} {v : Int32} (h : kfP r k = false) : KF σ (s2 σ r k v) := fun a b p => by
  rw [s2_at]
  by_cases e : a = r
  · by_cases e' : b = k
    · rw [e, e', h] at p; cases p
    · rw [if_pos e, if_neg e', e]
  · rw [if_neg e]
theorem kf_rows {r k : Nat} (h : kfR r = false) : kfP r k = false := by
  cases e : kfP r k with
  | false => rfl
  | true =>
    exfalso
    simp only [kfP, kfR, Bool.or_eq_true, Bool.and_eq_true, Bool.or_eq_false_iff, beq_iff_eq, beq_eq_false_iff_ne] at e h
    omega
theorem kf_row {σ : SG} {r k : Nat} {v : Int32} (h : kfR r = false) : KF σ (s2 σ r k v) := kf_lit (kf_rows h)
theorem kf_cpy {σ : SG} {a r n : Nat} (h : kfR r = false) : KF σ (cpy σ a r n) := fun x b p => by
  rw [cpy_at]
  by_cases e : x = r
  · rw [e, kf_rows h] at p; cases p
  · rw [if_neg e]
theorem kp_tr_kf {o : Option SG} {σ σ1 : SG} (h : kp o (fun q => KF σ1 q)) (k : KF σ σ1) : kp o (fun q => KF σ q) := kp_mono h (fun _ z => kf_trans k z)
theorem kp_tr2_kf {α : Type} {o : Option (α × SG)} {σ σ1 : SG} (h : kp o (fun q => KF σ1 q.2)) (k : KF σ σ1) : kp o (fun q => KF σ q.2) := kp_mono h (fun _ z => kf_trans k z)
theorem kp_tr3_kf {α β : Type} {o : Option (α × SG × β)} {σ σ1 : SG} (h : kp o (fun q => KF σ1 q.2.1)) (k : KF σ σ1) : kp o (fun q => KF σ q.2.1) := kp_mono h (fun _ z => kf_trans k z)
set_option maxRecDepth 100000 in
theorem kf_X12_looks_117 {N : Nat} {K len : Nat → Nat} {a1 : Int32} {a2 : Int32} {ρ : RG} (hL : Lay N K len ρ) : ∀ (n : Nat) (σ : SG) (v3 : Int32) (v4 : Int32) (v5 : Int32) (v6 : Int32), kp (F_X12_looks_117 a1 a2 n σ ρ v3 v4 v5 v6) (fun q => KF σ q) := by
  intro n
  induction n with
  | zero => intro σ v3 v4 v5 v6; exact kp_none
  | succ n ih =>
    intro σ v3 v4 v5 v6
    unfold F_X12_looks_117
    refine kp_nm (fun x25_17 _ => ?_)
    refine kp_if ?_ ?_
    · exact kp_some (kf_refl _)
    · refine kp_gd (fun _ => ?_)
      refine kp_if ?_ ?_
      · refine kp_if ?_ ?_
        · refine kp_nm (fun x60_18 _ => ?_)
          refine kp_nm (fun x61_19 _ => ?_)
          refine kp_gd (fun _ => ?_)
          refine kp_if ?_ ?_
          · unfold F_X12_looks_265
            refine kp_gd (fun _ => ?_)
            refine kp_gd (fun _ => ?_)
            refine kp_nm (fun σ66_20 hσ66_20 => ?_)
            have kσ66_20 : KF σ σ66_20 := by rw [hσ66_20]; exact kf_trans (kf_refl _) (kf_row (by decide))
            unfold F_X12_looks_429
            refine kp_nm (fun x39_21 _ => ?_)
            exact kp_tr_kf (ih _ _ _ _ _) kσ66_20
          · unfold F_X12_looks_265
            refine kp_gd (fun _ => ?_)
            refine kp_gd (fun _ => ?_)
            refine kp_nm (fun σ66_22 hσ66_22 => ?_)
            have kσ66_22 : KF σ σ66_22 := by rw [hσ66_22]; exact kf_trans (kf_refl _) (kf_row (by decide))
            unfold F_X12_looks_429
            refine kp_nm (fun x39_23 _ => ?_)
            exact kp_tr_kf (ih _ _ _ _ _) kσ66_22
        · refine kp_if ?_ ?_
          · refine kp_if ?_ ?_
            · unfold F_X12_looks_392
              unfold F_X12_looks_393
              refine kp_nm (fun x32_24 _ => ?_)
              refine kp_nm (fun σ34_25 hσ34_25 => ?_)
              have kσ34_25 : KF σ σ34_25 := by rw [hσ34_25]; exact kf_trans (kf_refl _) (kf_lit (by decide))
              refine kp_if ?_ ?_
              · unfold F_X12_looks_424
                unfold F_X12_looks_425
                refine kp_nm (fun x36_26 _ => ?_)
                refine kp_nm (fun σ38_27 hσ38_27 => ?_)
                have kσ38_27 : KF σ σ38_27 := by rw [hσ38_27]; exact kf_trans kσ34_25 (kf_lit (by decide))
                unfold F_X12_looks_429
                refine kp_nm (fun x39_28 _ => ?_)
                exact kp_tr_kf (ih _ _ _ _ _) kσ38_27
              · refine kp_if ?_ ?_
                · unfold F_X12_looks_424
                  unfold F_X12_looks_425
                  refine kp_nm (fun x36_29 _ => ?_)
                  refine kp_nm (fun σ38_30 hσ38_30 => ?_)
                  have kσ38_30 : KF σ σ38_30 := by rw [hσ38_30]; exact kf_trans kσ34_25 (kf_lit (by decide))
                  unfold F_X12_looks_429
                  refine kp_nm (fun x39_31 _ => ?_)
                  exact kp_tr_kf (ih _ _ _ _ _) kσ38_30
                · refine kp_nm (fun x41_32 _ => ?_)
                  unfold F_X12_looks_425
                  refine kp_nm (fun x36_33 _ => ?_)
                  refine kp_nm (fun σ38_34 hσ38_34 => ?_)
                  have kσ38_34 : KF σ σ38_34 := by rw [hσ38_34]; exact kf_trans kσ34_25 (kf_lit (by decide))
                  unfold F_X12_looks_429
                  refine kp_nm (fun x39_35 _ => ?_)
                  exact kp_tr_kf (ih _ _ _ _ _) kσ38_34
            · refine kp_if ?_ ?_
              · unfold F_X12_looks_392
                unfold F_X12_looks_393
                refine kp_nm (fun x32_36 _ => ?_)
                refine kp_nm (fun σ34_37 hσ34_37 => ?_)
                have kσ34_37 : KF σ σ34_37 := by rw [hσ34_37]; exact kf_trans (kf_refl _) (kf_lit (by decide))
                refine kp_if ?_ ?_
                · unfold F_X12_looks_424
                  unfold F_X12_looks_425
                  refine kp_nm (fun x36_38 _ => ?_)
                  refine kp_nm (fun σ38_39 hσ38_39 => ?_)
                  have kσ38_39 : KF σ σ38_39 := by rw [hσ38_39]; exact kf_trans kσ34_37 (kf_lit (by decide))
                  unfold F_X12_looks_429
                  refine kp_nm (fun x39_40 _ => ?_)
                  exact kp_tr_kf (ih _ _ _ _ _) kσ38_39
                · refine kp_if ?_ ?_
                  · unfold F_X12_looks_424
                    unfold F_X12_looks_425
                    refine kp_nm (fun x36_41 _ => ?_)
                    refine kp_nm (fun σ38_42 hσ38_42 => ?_)
                    have kσ38_42 : KF σ σ38_42 := by rw [hσ38_42]; exact kf_trans kσ34_37 (kf_lit (by decide))
                    unfold F_X12_looks_429
                    refine kp_nm (fun x39_43 _ => ?_)
                    exact kp_tr_kf (ih _ _ _ _ _) kσ38_42
                  · refine kp_nm (fun x41_44 _ => ?_)
                    unfold F_X12_looks_425
                    refine kp_nm (fun x36_45 _ => ?_)
                    refine kp_nm (fun σ38_46 hσ38_46 => ?_)
                    have kσ38_46 : KF σ σ38_46 := by rw [hσ38_46]; exact kf_trans kσ34_37 (kf_lit (by decide))
                    unfold F_X12_looks_429
                    refine kp_nm (fun x39_47 _ => ?_)
                    exact kp_tr_kf (ih _ _ _ _ _) kσ38_46
              · refine kp_nm (fun x43_48 _ => ?_)
                unfold F_X12_looks_393
                refine kp_nm (fun x32_49 _ => ?_)
                refine kp_nm (fun σ34_50 hσ34_50 => ?_)
                have kσ34_50 : KF σ σ34_50 := by rw [hσ34_50]; exact kf_trans (kf_refl _) (kf_lit (by decide))
                refine kp_if ?_ ?_
                · unfold F_X12_looks_424
                  unfold F_X12_looks_425
                  refine kp_nm (fun x36_51 _ => ?_)
                  refine kp_nm (fun σ38_52 hσ38_52 => ?_)
                  have kσ38_52 : KF σ σ38_52 := by rw [hσ38_52]; exact kf_trans kσ34_50 (kf_lit (by decide))
                  unfold F_X12_looks_429
                  refine kp_nm (fun x39_53 _ => ?_)
                  exact kp_tr_kf (ih _ _ _ _ _) kσ38_52
                · refine kp_if ?_ ?_
                  · unfold F_X12_looks_424
                    unfold F_X12_looks_425
                    refine kp_nm (fun x36_54 _ => ?_)
                    refine kp_nm (fun σ38_55 hσ38_55 => ?_)
                    have kσ38_55 : KF σ σ38_55 := by rw [hσ38_55]; exact kf_trans kσ34_50 (kf_lit (by decide))
                    unfold F_X12_looks_429
                    refine kp_nm (fun x39_56 _ => ?_)
                    exact kp_tr_kf (ih _ _ _ _ _) kσ38_55
                  · refine kp_nm (fun x41_57 _ => ?_)
                    unfold F_X12_looks_425
                    refine kp_nm (fun x36_58 _ => ?_)
                    refine kp_nm (fun σ38_59 hσ38_59 => ?_)
                    have kσ38_59 : KF σ σ38_59 := by rw [hσ38_59]; exact kf_trans kσ34_50 (kf_lit (by decide))
                    unfold F_X12_looks_429
                    refine kp_nm (fun x39_60 _ => ?_)
                    exact kp_tr_kf (ih _ _ _ _ _) kσ38_59
          · refine kp_nm (fun x44_61 _ => ?_)
            refine kp_nm (fun x45_62 _ => ?_)
            refine kp_if ?_ ?_
            · refine kp_nm (fun x55_63 _ => ?_)
              refine kp_gd (fun _ => ?_)
              refine kp_if ?_ ?_
              · unfold F_X12_looks_320
                unfold F_X12_looks_351
                refine kp_gd (fun _ => ?_)
                refine kp_gd (fun _ => ?_)
                refine kp_nm (fun σ52_64 hσ52_64 => ?_)
                have kσ52_64 : KF σ σ52_64 := by rw [hσ52_64]; exact kf_trans (kf_refl _) (kf_row (by decide))
                unfold F_X12_looks_429
                refine kp_nm (fun x39_65 _ => ?_)
                exact kp_tr_kf (ih _ _ _ _ _) kσ52_64
              · refine kp_gd (fun _ => ?_)
                refine kp_if ?_ ?_
                · unfold F_X12_looks_320
                  unfold F_X12_looks_351
                  refine kp_gd (fun _ => ?_)
                  refine kp_gd (fun _ => ?_)
                  refine kp_nm (fun σ52_66 hσ52_66 => ?_)
                  have kσ52_66 : KF σ σ52_66 := by rw [hσ52_66]; exact kf_trans (kf_refl _) (kf_row (by decide))
                  unfold F_X12_looks_429
                  refine kp_nm (fun x39_67 _ => ?_)
                  exact kp_tr_kf (ih _ _ _ _ _) kσ52_66
                · unfold F_X12_looks_351
                  refine kp_gd (fun _ => ?_)
                  refine kp_gd (fun _ => ?_)
                  refine kp_nm (fun σ52_68 hσ52_68 => ?_)
                  have kσ52_68 : KF σ σ52_68 := by rw [hσ52_68]; exact kf_trans (kf_refl _) (kf_row (by decide))
                  unfold F_X12_looks_429
                  refine kp_nm (fun x39_69 _ => ?_)
                  exact kp_tr_kf (ih _ _ _ _ _) kσ52_68
            · refine kp_nm (fun x47_70 _ => ?_)
              refine kp_gd (fun _ => ?_)
              refine kp_if ?_ ?_
              · refine kp_gd (fun _ => ?_)
                refine kp_if ?_ ?_
                · unfold F_X12_looks_351
                  refine kp_gd (fun _ => ?_)
                  refine kp_gd (fun _ => ?_)
                  refine kp_nm (fun σ52_71 hσ52_71 => ?_)
                  have kσ52_71 : KF σ σ52_71 := by rw [hσ52_71]; exact kf_trans (kf_refl _) (kf_row (by decide))
                  unfold F_X12_looks_429
                  refine kp_nm (fun x39_72 _ => ?_)
                  exact kp_tr_kf (ih _ _ _ _ _) kσ52_71
                · unfold F_X12_looks_346
                  unfold F_X12_looks_351
                  refine kp_gd (fun _ => ?_)
                  refine kp_gd (fun _ => ?_)
                  refine kp_nm (fun σ52_73 hσ52_73 => ?_)
                  have kσ52_73 : KF σ σ52_73 := by rw [hσ52_73]; exact kf_trans (kf_refl _) (kf_row (by decide))
                  unfold F_X12_looks_429
                  refine kp_nm (fun x39_74 _ => ?_)
                  exact kp_tr_kf (ih _ _ _ _ _) kσ52_73
              · unfold F_X12_looks_346
                unfold F_X12_looks_351
                refine kp_gd (fun _ => ?_)
                refine kp_gd (fun _ => ?_)
                refine kp_nm (fun σ52_75 hσ52_75 => ?_)
                have kσ52_75 : KF σ σ52_75 := by rw [hσ52_75]; exact kf_trans (kf_refl _) (kf_row (by decide))
                unfold F_X12_looks_429
                refine kp_nm (fun x39_76 _ => ?_)
                exact kp_tr_kf (ih _ _ _ _ _) kσ52_75
      · refine kp_nm (fun x67_77 _ => ?_)
        refine kp_gd (fun _ => ?_)
        refine kp_nm (fun x69_78 _ => ?_)
        refine kp_nm (fun x70_79 _ => ?_)
        refine kp_nm (fun x71_80 _ => ?_)
        refine kp_if ?_ ?_
        · refine kp_if ?_ ?_
          · unfold F_X12_looks_227
            refine kp_gd (fun _ => ?_)
            refine kp_gd (fun _ => ?_)
            refine kp_nm (fun σ77_81 hσ77_81 => ?_)
            have kσ77_81 : KF σ σ77_81 := by rw [hσ77_81]; exact kf_trans (kf_refl _) (kf_row (by decide))
            refine kp_nm (fun x78_82 _ => ?_)
            unfold F_X12_looks_429
            refine kp_nm (fun x39_83 _ => ?_)
            exact kp_tr_kf (ih _ _ _ _ _) kσ77_81
          · unfold F_X12_looks_227
            refine kp_gd (fun _ => ?_)
            refine kp_gd (fun _ => ?_)
            refine kp_nm (fun σ77_84 hσ77_84 => ?_)
            have kσ77_84 : KF σ σ77_84 := by rw [hσ77_84]; exact kf_trans (kf_refl _) (kf_row (by decide))
            refine kp_nm (fun x78_85 _ => ?_)
            unfold F_X12_looks_429
            refine kp_nm (fun x39_86 _ => ?_)
            exact kp_tr_kf (ih _ _ _ _ _) kσ77_84
        · refine kp_if ?_ ?_
          · refine kp_if ?_ ?_
            · unfold F_X12_looks_227
              refine kp_gd (fun _ => ?_)
              refine kp_gd (fun _ => ?_)
              refine kp_nm (fun σ77_87 hσ77_87 => ?_)
              have kσ77_87 : KF σ σ77_87 := by rw [hσ77_87]; exact kf_trans (kf_refl _) (kf_row (by decide))
              refine kp_nm (fun x78_88 _ => ?_)
              unfold F_X12_looks_429
              refine kp_nm (fun x39_89 _ => ?_)
              exact kp_tr_kf (ih _ _ _ _ _) kσ77_87
            · unfold F_X12_looks_227
              refine kp_gd (fun _ => ?_)
              refine kp_gd (fun _ => ?_)
              refine kp_nm (fun σ77_90 hσ77_90 => ?_)
              have kσ77_90 : KF σ σ77_90 := by rw [hσ77_90]; exact kf_trans (kf_refl _) (kf_row (by decide))
              refine kp_nm (fun x78_91 _ => ?_)
              unfold F_X12_looks_429
              refine kp_nm (fun x39_92 _ => ?_)
              exact kp_tr_kf (ih _ _ _ _ _) kσ77_90
          · refine kp_if ?_ ?_
            · unfold F_X12_looks_227
              refine kp_gd (fun _ => ?_)
              refine kp_gd (fun _ => ?_)
              refine kp_nm (fun σ77_93 hσ77_93 => ?_)
              have kσ77_93 : KF σ σ77_93 := by rw [hσ77_93]; exact kf_trans (kf_refl _) (kf_row (by decide))
              refine kp_nm (fun x78_94 _ => ?_)
              unfold F_X12_looks_429
              refine kp_nm (fun x39_95 _ => ?_)
              exact kp_tr_kf (ih _ _ _ _ _) kσ77_93
            · unfold F_X12_looks_227
              refine kp_gd (fun _ => ?_)
              refine kp_gd (fun _ => ?_)
              refine kp_nm (fun σ77_96 hσ77_96 => ?_)
              have kσ77_96 : KF σ σ77_96 := by rw [hσ77_96]; exact kf_trans (kf_refl _) (kf_row (by decide))
              refine kp_nm (fun x78_97 _ => ?_)
              unfold F_X12_looks_429
              refine kp_nm (fun x39_98 _ => ?_)
              exact kp_tr_kf (ih _ _ _ _ _) kσ77_96

set_option maxRecDepth 100000 in
theorem kf_X12_looks {N : Nat} {K len : Nat → Nat} {a1 : Int32} {a2 : Int32} {σ : SG} {ρ : RG} (hL : Lay N K len ρ) : kp (F_X12_looks a1 a2 σ ρ) (fun q => KF σ q) := by
  unfold F_X12_looks
  refine kp_nm (fun σ2_2 hσ2_2 => ?_)
  have kσ2_2 : KF σ σ2_2 := by rw [hσ2_2]; exact kf_trans (kf_refl _) (kf_lit (by decide))
  refine kp_nm (fun x3_3 _ => ?_)
  refine kp_gd (fun _ => ?_)
  refine kp_nm (fun σ6_4 hσ6_4 => ?_)
  have kσ6_4 : KF σ σ6_4 := by rw [hσ6_4]; exact kf_trans kσ2_2 (kf_lit (by decide))
  refine kp_nm (fun σ8_5 hσ8_5 => ?_)
  have kσ8_5 : KF σ σ8_5 := by rw [hσ8_5]; exact kf_trans kσ6_4 (kf_lit (by decide))
  refine kp_bx (fun r9_6 => ?_)
  refine kp_nm (fun σ11_7 hσ11_7 => ?_)
  have kσ11_7 : KF σ σ11_7 := by rw [hσ11_7]; exact kf_trans kσ8_5 (kf_lit (by decide))
  refine kp_nm (fun x12_8 _ => ?_)
  refine kp_nm (fun σ14_9 hσ14_9 => ?_)
  have kσ14_9 : KF σ σ14_9 := by rw [hσ14_9]; exact kf_trans kσ11_7 (kf_lit (by decide))
  refine kp_nm (fun x15_10 _ => ?_)
  refine kp_nm (fun σ17_11 hσ17_11 => ?_)
  have kσ17_11 : KF σ σ17_11 := by rw [hσ17_11]; exact kf_trans kσ14_9 (kf_lit (by decide))
  refine kp_nm (fun σ19_12 hσ19_12 => ?_)
  have kσ19_12 : KF σ σ19_12 := by rw [hσ19_12]; exact kf_trans kσ17_11 (kf_lit (by decide))
  refine kp_nm (fun σ21_13 hσ21_13 => ?_)
  have kσ21_13 : KF σ σ21_13 := by rw [hσ21_13]; exact kf_trans kσ19_12 (kf_lit (by decide))
  refine kp_bx (fun r22_14 => ?_)
  refine kp_nm (fun x23_15 _ => ?_)
  refine kp_nm (fun x24_16 _ => ?_)
  exact kp_tr_kf (kf_X12_looks_117 hL 1024 _ _ _ _ _) kσ21_13

set_option maxRecDepth 100000 in
theorem kf_X12_rights {N : Nat} {K len : Nat → Nat} {σ : SG} {ρ : RG} (hL : Lay N K len ρ) : kp (F_X12_rights σ ρ) (fun q => KF σ q) := by
  unfold F_X12_rights
  refine kp_bx (fun r1_101 => ?_)
  refine kp_nm (fun x2_102 _ => ?_)
  refine kp_nm (fun x3_103 _ => ?_)
  refine kp_nm (fun x4_104 _ => ?_)
  refine kp_nm (fun σ6_105 hσ6_105 => ?_)
  have kσ6_105 : KF σ σ6_105 := by rw [hσ6_105]; exact kf_trans (kf_refl _) (kf_lit (by decide))
  refine kp_nm (fun σ8_106 hσ8_106 => ?_)
  have kσ8_106 : KF σ σ8_106 := by rw [hσ8_106]; exact kf_trans kσ6_105 (kf_lit (by decide))
  refine kp_nm (fun σ10_107 hσ10_107 => ?_)
  have kσ10_107 : KF σ σ10_107 := by rw [hσ10_107]; exact kf_trans kσ8_106 (kf_lit (by decide))
  refine kp_nm (fun σ12_108 hσ12_108 => ?_)
  have kσ12_108 : KF σ σ12_108 := by rw [hσ12_108]; exact kf_trans kσ10_107 (kf_lit (by decide))
  exact kp_some kσ12_108

set_option maxRecDepth 100000 in
theorem kf_X12_cuts_305 {N : Nat} {K len : Nat → Nat} {a1 : Int32} {a2 : Int32} {ρ : RG} (hL : Lay N K len ρ) : ∀ (n : Nat) (σ : SG) (v1 : Int32) (v7 : Int32) (v9 : Int32) (v10 : Int32) (v11 : Int32), kp (F_X12_cuts_305 a1 a2 n σ ρ v1 v7 v9 v10 v11) (fun q => KF σ q.2) := by
  intro n
  induction n with
  | zero => intro σ v1 v7 v9 v10 v11; exact kp_none
  | succ n ih =>
    intro σ v1 v7 v9 v10 v11
    unfold F_X12_cuts_305
    refine kp_if ?_ ?_
    · refine kp_nm (fun σ35_134 hσ35_134 => ?_)
      have kσ35_134 : KF σ σ35_134 := by rw [hσ35_134]; exact kf_trans (kf_refl _) (kf_lit (by decide))
      refine kp_nm (fun σ37_135 hσ37_135 => ?_)
      have kσ37_135 : KF σ σ37_135 := by rw [hσ37_135]; exact kf_trans kσ35_134 (kf_lit (by decide))
      refine kp_nm (fun σ39_136 hσ39_136 => ?_)
      have kσ39_136 : KF σ σ39_136 := by rw [hσ39_136]; exact kf_trans kσ37_135 (kf_lit (by decide))
      refine kp_nm (fun x40_137 _ => ?_)
      refine kp_gd (fun _ => ?_)
      refine kp_nm (fun x42_138 _ => ?_)
      refine kp_gd (fun _ => ?_)
      refine kp_nm (fun σ45_139 hσ45_139 => ?_)
      have kσ45_139 : KF σ σ45_139 := by rw [hσ45_139]; exact kf_trans kσ39_136 (kf_row (by decide))
      refine kp_nm (fun x46_140 _ => ?_)
      refine kp_nm (fun σ48_141 hσ48_141 => ?_)
      have kσ48_141 : KF σ σ48_141 := by rw [hσ48_141]; exact kf_trans kσ45_139 (kf_lit (by decide))
      exact kp_some kσ48_141
    · refine kp_bx (fun r49_142 => ?_)
      refine kp_bx (fun r50_143 => ?_)
      refine kp_nm (fun x51_144 _ => ?_)
      refine kp_if ?_ ?_
      · unfold F_X12_cuts_359
        refine kp_nm (fun x53_145 _ => ?_)
        refine kp_nm (fun σ55_146 hσ55_146 => ?_)
        have kσ55_146 : KF σ σ55_146 := by rw [hσ55_146]; exact kf_trans (kf_refl _) (kf_lit (by decide))
        refine kp_if ?_ ?_
        · unfold F_X12_cuts_391
          refine kp_nm (fun σ58_147 hσ58_147 => ?_)
          have kσ58_147 : KF σ σ58_147 := by rw [hσ58_147]; exact kf_trans kσ55_146 (kf_lit (by decide))
          refine kp_if ?_ ?_
          · unfold F_X12_cuts_413
            refine kp_nm (fun σ61_148 hσ61_148 => ?_)
            have kσ61_148 : KF σ σ61_148 := by rw [hσ61_148]; exact kf_trans kσ58_147 (kf_lit (by decide))
            refine kp_nm (fun x62_149 _ => ?_)
            exact kp_tr2_kf (ih _ _ _ _ _ _) kσ61_148
          · unfold F_X12_cuts_413
            refine kp_nm (fun σ61_150 hσ61_150 => ?_)
            have kσ61_150 : KF σ σ61_150 := by rw [hσ61_150]; exact kf_trans kσ58_147 (kf_lit (by decide))
            refine kp_nm (fun x62_151 _ => ?_)
            exact kp_tr2_kf (ih _ _ _ _ _ _) kσ61_150
        · unfold F_X12_cuts_391
          refine kp_nm (fun σ58_152 hσ58_152 => ?_)
          have kσ58_152 : KF σ σ58_152 := by rw [hσ58_152]; exact kf_trans kσ55_146 (kf_lit (by decide))
          refine kp_if ?_ ?_
          · unfold F_X12_cuts_413
            refine kp_nm (fun σ61_153 hσ61_153 => ?_)
            have kσ61_153 : KF σ σ61_153 := by rw [hσ61_153]; exact kf_trans kσ58_152 (kf_lit (by decide))
            refine kp_nm (fun x62_154 _ => ?_)
            exact kp_tr2_kf (ih _ _ _ _ _ _) kσ61_153
          · unfold F_X12_cuts_413
            refine kp_nm (fun σ61_155 hσ61_155 => ?_)
            have kσ61_155 : KF σ σ61_155 := by rw [hσ61_155]; exact kf_trans kσ58_152 (kf_lit (by decide))
            refine kp_nm (fun x62_156 _ => ?_)
            exact kp_tr2_kf (ih _ _ _ _ _ _) kσ61_155
      · unfold F_X12_cuts_359
        refine kp_nm (fun x53_157 _ => ?_)
        refine kp_nm (fun σ55_158 hσ55_158 => ?_)
        have kσ55_158 : KF σ σ55_158 := by rw [hσ55_158]; exact kf_trans (kf_refl _) (kf_lit (by decide))
        refine kp_if ?_ ?_
        · unfold F_X12_cuts_391
          refine kp_nm (fun σ58_159 hσ58_159 => ?_)
          have kσ58_159 : KF σ σ58_159 := by rw [hσ58_159]; exact kf_trans kσ55_158 (kf_lit (by decide))
          refine kp_if ?_ ?_
          · unfold F_X12_cuts_413
            refine kp_nm (fun σ61_160 hσ61_160 => ?_)
            have kσ61_160 : KF σ σ61_160 := by rw [hσ61_160]; exact kf_trans kσ58_159 (kf_lit (by decide))
            refine kp_nm (fun x62_161 _ => ?_)
            exact kp_tr2_kf (ih _ _ _ _ _ _) kσ61_160
          · unfold F_X12_cuts_413
            refine kp_nm (fun σ61_162 hσ61_162 => ?_)
            have kσ61_162 : KF σ σ61_162 := by rw [hσ61_162]; exact kf_trans kσ58_159 (kf_lit (by decide))
            refine kp_nm (fun x62_163 _ => ?_)
            exact kp_tr2_kf (ih _ _ _ _ _ _) kσ61_162
        · unfold F_X12_cuts_391
          refine kp_nm (fun σ58_164 hσ58_164 => ?_)
          have kσ58_164 : KF σ σ58_164 := by rw [hσ58_164]; exact kf_trans kσ55_158 (kf_lit (by decide))
          refine kp_if ?_ ?_
          · unfold F_X12_cuts_413
            refine kp_nm (fun σ61_165 hσ61_165 => ?_)
            have kσ61_165 : KF σ σ61_165 := by rw [hσ61_165]; exact kf_trans kσ58_164 (kf_lit (by decide))
            refine kp_nm (fun x62_166 _ => ?_)
            exact kp_tr2_kf (ih _ _ _ _ _ _) kσ61_165
          · unfold F_X12_cuts_413
            refine kp_nm (fun σ61_167 hσ61_167 => ?_)
            have kσ61_167 : KF σ σ61_167 := by rw [hσ61_167]; exact kf_trans kσ58_164 (kf_lit (by decide))
            refine kp_nm (fun x62_168 _ => ?_)
            exact kp_tr2_kf (ih _ _ _ _ _ _) kσ61_167

set_option maxRecDepth 100000 in
theorem kf_X12_cuts {N : Nat} {K len : Nat → Nat} {a1 : Int32} {a2 : Int32} {σ : SG} {ρ : RG} (hL : Lay N K len ρ) : kp (F_X12_cuts a1 a2 σ ρ) (fun q => KF σ q.2) := by
  unfold F_X12_cuts
  refine kp_bn (kf_X12_looks hL) (fun σ1_1 hσ1_1 => ?_)
  have kσ1_1 : KF σ σ1_1 := kf_trans (kf_refl _) hσ1_1
  refine kp_nm (fun x2_99 _ => ?_)
  refine kp_gd (fun _ => ?_)
  refine kp_if ?_ ?_
  · refine kp_bn (kf_X12_rights hL) (fun σ86_100 hσ86_100 => ?_)
    have kσ86_100 : KF σ σ86_100 := kf_trans kσ1_1 hσ86_100
    unfold F_X12_cuts_83
    refine kp_nm (fun x8_109 _ => ?_)
    refine kp_nm (fun x9_110 _ => ?_)
    refine kp_gd (fun _ => ?_)
    refine kp_if ?_ ?_
    · refine kp_nm (fun x77_111 _ => ?_)
      refine kp_nm (fun x78_112 _ => ?_)
      refine kp_nm (fun x79_113 _ => ?_)
      refine kp_nm (fun x80_114 _ => ?_)
      refine kp_gd (fun _ => ?_)
      refine kp_nm (fun x82_115 _ => ?_)
      unfold F_X12_cuts_145
      refine kp_bx (fun r15_116 => ?_)
      refine kp_bx (fun r16_117 => ?_)
      refine kp_nm (fun x17_118 _ => ?_)
      refine kp_bx (fun r18_119 => ?_)
      refine kp_nm (fun x19_120 _ => ?_)
      refine kp_gd (fun _ => ?_)
      refine kp_bx (fun r21_121 => ?_)
      refine kp_bx (fun r22_122 => ?_)
      refine kp_bx (fun r23_123 => ?_)
      refine kp_nm (fun x24_124 _ => ?_)
      refine kp_bx (fun r25_125 => ?_)
      refine kp_if ?_ ?_
      · refine kp_bx (fun r63_126 => ?_)
        refine kp_nm (fun x64_127 _ => ?_)
        refine kp_bx (fun r65_128 => ?_)
        refine kp_nm (fun x66_129 _ => ?_)
        refine kp_bx (fun r67_130 => ?_)
        refine kp_if ?_ ?_
        · unfold F_X12_cuts_286
          refine kp_nm (fun σ28_131 hσ28_131 => ?_)
          have kσ28_131 : KF σ σ28_131 := by rw [hσ28_131]; exact kf_trans kσ86_100 (kf_lit (by decide))
          refine kp_nm (fun σ30_132 hσ30_132 => ?_)
          have kσ30_132 : KF σ σ30_132 := by rw [hσ30_132]; exact kf_trans kσ28_131 (kf_lit (by decide))
          refine kp_nm (fun σ32_133 hσ32_133 => ?_)
          have kσ32_133 : KF σ σ32_133 := by rw [hσ32_133]; exact kf_trans kσ30_132 (kf_lit (by decide))
          exact kp_tr2_kf (kf_X12_cuts_305 hL 1024 _ _ _ _ _ _) kσ32_133
        · refine kp_nm (fun σ70_169 hσ70_169 => ?_)
          have kσ70_169 : KF σ σ70_169 := by rw [hσ70_169]; exact kf_trans kσ86_100 (kf_lit (by decide))
          refine kp_nm (fun σ72_170 hσ72_170 => ?_)
          have kσ72_170 : KF σ σ72_170 := by rw [hσ72_170]; exact kf_trans kσ70_169 (kf_lit (by decide))
          refine kp_nm (fun σ74_171 hσ74_171 => ?_)
          have kσ74_171 : KF σ σ74_171 := by rw [hσ74_171]; exact kf_trans kσ72_170 (kf_lit (by decide))
          refine kp_nm (fun σ76_172 hσ76_172 => ?_)
          have kσ76_172 : KF σ σ76_172 := by rw [hσ76_172]; exact kf_trans kσ74_171 (kf_lit (by decide))
          exact kp_some kσ76_172
      · unfold F_X12_cuts_286
        refine kp_nm (fun σ28_173 hσ28_173 => ?_)
        have kσ28_173 : KF σ σ28_173 := by rw [hσ28_173]; exact kf_trans kσ86_100 (kf_lit (by decide))
        refine kp_nm (fun σ30_174 hσ30_174 => ?_)
        have kσ30_174 : KF σ σ30_174 := by rw [hσ30_174]; exact kf_trans kσ28_173 (kf_lit (by decide))
        refine kp_nm (fun σ32_175 hσ32_175 => ?_)
        have kσ32_175 : KF σ σ32_175 := by rw [hσ32_175]; exact kf_trans kσ30_174 (kf_lit (by decide))
        exact kp_tr2_kf (kf_X12_cuts_305 hL 1024 _ _ _ _ _ _) kσ32_175
    · refine kp_nm (fun x12_176 _ => ?_)
      refine kp_gd (fun _ => ?_)
      refine kp_bx (fun r14_177 => ?_)
      unfold F_X12_cuts_145
      refine kp_bx (fun r15_178 => ?_)
      refine kp_bx (fun r16_179 => ?_)
      refine kp_nm (fun x17_180 _ => ?_)
      refine kp_bx (fun r18_181 => ?_)
      refine kp_nm (fun x19_182 _ => ?_)
      refine kp_gd (fun _ => ?_)
      refine kp_bx (fun r21_183 => ?_)
      refine kp_bx (fun r22_184 => ?_)
      refine kp_bx (fun r23_185 => ?_)
      refine kp_nm (fun x24_186 _ => ?_)
      refine kp_bx (fun r25_187 => ?_)
      refine kp_if ?_ ?_
      · refine kp_bx (fun r63_188 => ?_)
        refine kp_nm (fun x64_189 _ => ?_)
        refine kp_bx (fun r65_190 => ?_)
        refine kp_nm (fun x66_191 _ => ?_)
        refine kp_bx (fun r67_192 => ?_)
        refine kp_if ?_ ?_
        · unfold F_X12_cuts_286
          refine kp_nm (fun σ28_193 hσ28_193 => ?_)
          have kσ28_193 : KF σ σ28_193 := by rw [hσ28_193]; exact kf_trans kσ86_100 (kf_lit (by decide))
          refine kp_nm (fun σ30_194 hσ30_194 => ?_)
          have kσ30_194 : KF σ σ30_194 := by rw [hσ30_194]; exact kf_trans kσ28_193 (kf_lit (by decide))
          refine kp_nm (fun σ32_195 hσ32_195 => ?_)
          have kσ32_195 : KF σ σ32_195 := by rw [hσ32_195]; exact kf_trans kσ30_194 (kf_lit (by decide))
          exact kp_tr2_kf (kf_X12_cuts_305 hL 1024 _ _ _ _ _ _) kσ32_195
        · refine kp_nm (fun σ70_196 hσ70_196 => ?_)
          have kσ70_196 : KF σ σ70_196 := by rw [hσ70_196]; exact kf_trans kσ86_100 (kf_lit (by decide))
          refine kp_nm (fun σ72_197 hσ72_197 => ?_)
          have kσ72_197 : KF σ σ72_197 := by rw [hσ72_197]; exact kf_trans kσ70_196 (kf_lit (by decide))
          refine kp_nm (fun σ74_198 hσ74_198 => ?_)
          have kσ74_198 : KF σ σ74_198 := by rw [hσ74_198]; exact kf_trans kσ72_197 (kf_lit (by decide))
          refine kp_nm (fun σ76_199 hσ76_199 => ?_)
          have kσ76_199 : KF σ σ76_199 := by rw [hσ76_199]; exact kf_trans kσ74_198 (kf_lit (by decide))
          exact kp_some kσ76_199
      · unfold F_X12_cuts_286
        refine kp_nm (fun σ28_200 hσ28_200 => ?_)
        have kσ28_200 : KF σ σ28_200 := by rw [hσ28_200]; exact kf_trans kσ86_100 (kf_lit (by decide))
        refine kp_nm (fun σ30_201 hσ30_201 => ?_)
        have kσ30_201 : KF σ σ30_201 := by rw [hσ30_201]; exact kf_trans kσ28_200 (kf_lit (by decide))
        refine kp_nm (fun σ32_202 hσ32_202 => ?_)
        have kσ32_202 : KF σ σ32_202 := by rw [hσ32_202]; exact kf_trans kσ30_201 (kf_lit (by decide))
        exact kp_tr2_kf (kf_X12_cuts_305 hL 1024 _ _ _ _ _ _) kσ32_202
  · refine kp_nm (fun x5_203 _ => ?_)
    refine kp_gd (fun _ => ?_)
    refine kp_if ?_ ?_
    · refine kp_nm (fun x83_204 _ => ?_)
      refine kp_nm (fun σ85_205 hσ85_205 => ?_)
      have kσ85_205 : KF σ σ85_205 := by rw [hσ85_205]; exact kf_trans kσ1_1 (kf_lit (by decide))
      unfold F_X12_cuts_83
      refine kp_nm (fun x8_206 _ => ?_)
      refine kp_nm (fun x9_207 _ => ?_)
      refine kp_gd (fun _ => ?_)
      refine kp_if ?_ ?_
      · refine kp_nm (fun x77_208 _ => ?_)
        refine kp_nm (fun x78_209 _ => ?_)
        refine kp_nm (fun x79_210 _ => ?_)
        refine kp_nm (fun x80_211 _ => ?_)
        refine kp_gd (fun _ => ?_)
        refine kp_nm (fun x82_212 _ => ?_)
        unfold F_X12_cuts_145
        refine kp_bx (fun r15_213 => ?_)
        refine kp_bx (fun r16_214 => ?_)
        refine kp_nm (fun x17_215 _ => ?_)
        refine kp_bx (fun r18_216 => ?_)
        refine kp_nm (fun x19_217 _ => ?_)
        refine kp_gd (fun _ => ?_)
        refine kp_bx (fun r21_218 => ?_)
        refine kp_bx (fun r22_219 => ?_)
        refine kp_bx (fun r23_220 => ?_)
        refine kp_nm (fun x24_221 _ => ?_)
        refine kp_bx (fun r25_222 => ?_)
        refine kp_if ?_ ?_
        · refine kp_bx (fun r63_223 => ?_)
          refine kp_nm (fun x64_224 _ => ?_)
          refine kp_bx (fun r65_225 => ?_)
          refine kp_nm (fun x66_226 _ => ?_)
          refine kp_bx (fun r67_227 => ?_)
          refine kp_if ?_ ?_
          · unfold F_X12_cuts_286
            refine kp_nm (fun σ28_228 hσ28_228 => ?_)
            have kσ28_228 : KF σ σ28_228 := by rw [hσ28_228]; exact kf_trans kσ85_205 (kf_lit (by decide))
            refine kp_nm (fun σ30_229 hσ30_229 => ?_)
            have kσ30_229 : KF σ σ30_229 := by rw [hσ30_229]; exact kf_trans kσ28_228 (kf_lit (by decide))
            refine kp_nm (fun σ32_230 hσ32_230 => ?_)
            have kσ32_230 : KF σ σ32_230 := by rw [hσ32_230]; exact kf_trans kσ30_229 (kf_lit (by decide))
            exact kp_tr2_kf (kf_X12_cuts_305 hL 1024 _ _ _ _ _ _) kσ32_230
          · refine kp_nm (fun σ70_231 hσ70_231 => ?_)
            have kσ70_231 : KF σ σ70_231 := by rw [hσ70_231]; exact kf_trans kσ85_205 (kf_lit (by decide))
            refine kp_nm (fun σ72_232 hσ72_232 => ?_)
            have kσ72_232 : KF σ σ72_232 := by rw [hσ72_232]; exact kf_trans kσ70_231 (kf_lit (by decide))
            refine kp_nm (fun σ74_233 hσ74_233 => ?_)
            have kσ74_233 : KF σ σ74_233 := by rw [hσ74_233]; exact kf_trans kσ72_232 (kf_lit (by decide))
            refine kp_nm (fun σ76_234 hσ76_234 => ?_)
            have kσ76_234 : KF σ σ76_234 := by rw [hσ76_234]; exact kf_trans kσ74_233 (kf_lit (by decide))
            exact kp_some kσ76_234
        · unfold F_X12_cuts_286
          refine kp_nm (fun σ28_235 hσ28_235 => ?_)
          have kσ28_235 : KF σ σ28_235 := by rw [hσ28_235]; exact kf_trans kσ85_205 (kf_lit (by decide))
          refine kp_nm (fun σ30_236 hσ30_236 => ?_)
          have kσ30_236 : KF σ σ30_236 := by rw [hσ30_236]; exact kf_trans kσ28_235 (kf_lit (by decide))
          refine kp_nm (fun σ32_237 hσ32_237 => ?_)
          have kσ32_237 : KF σ σ32_237 := by rw [hσ32_237]; exact kf_trans kσ30_236 (kf_lit (by decide))
          exact kp_tr2_kf (kf_X12_cuts_305 hL 1024 _ _ _ _ _ _) kσ32_237
      · refine kp_nm (fun x12_238 _ => ?_)
        refine kp_gd (fun _ => ?_)
        refine kp_bx (fun r14_239 => ?_)
        unfold F_X12_cuts_145
        refine kp_bx (fun r15_240 => ?_)
        refine kp_bx (fun r16_241 => ?_)
        refine kp_nm (fun x17_242 _ => ?_)
        refine kp_bx (fun r18_243 => ?_)
        refine kp_nm (fun x19_244 _ => ?_)
        refine kp_gd (fun _ => ?_)
        refine kp_bx (fun r21_245 => ?_)
        refine kp_bx (fun r22_246 => ?_)
        refine kp_bx (fun r23_247 => ?_)
        refine kp_nm (fun x24_248 _ => ?_)
        refine kp_bx (fun r25_249 => ?_)
        refine kp_if ?_ ?_
        · refine kp_bx (fun r63_250 => ?_)
          refine kp_nm (fun x64_251 _ => ?_)
          refine kp_bx (fun r65_252 => ?_)
          refine kp_nm (fun x66_253 _ => ?_)
          refine kp_bx (fun r67_254 => ?_)
          refine kp_if ?_ ?_
          · unfold F_X12_cuts_286
            refine kp_nm (fun σ28_255 hσ28_255 => ?_)
            have kσ28_255 : KF σ σ28_255 := by rw [hσ28_255]; exact kf_trans kσ85_205 (kf_lit (by decide))
            refine kp_nm (fun σ30_256 hσ30_256 => ?_)
            have kσ30_256 : KF σ σ30_256 := by rw [hσ30_256]; exact kf_trans kσ28_255 (kf_lit (by decide))
            refine kp_nm (fun σ32_257 hσ32_257 => ?_)
            have kσ32_257 : KF σ σ32_257 := by rw [hσ32_257]; exact kf_trans kσ30_256 (kf_lit (by decide))
            exact kp_tr2_kf (kf_X12_cuts_305 hL 1024 _ _ _ _ _ _) kσ32_257
          · refine kp_nm (fun σ70_258 hσ70_258 => ?_)
            have kσ70_258 : KF σ σ70_258 := by rw [hσ70_258]; exact kf_trans kσ85_205 (kf_lit (by decide))
            refine kp_nm (fun σ72_259 hσ72_259 => ?_)
            have kσ72_259 : KF σ σ72_259 := by rw [hσ72_259]; exact kf_trans kσ70_258 (kf_lit (by decide))
            refine kp_nm (fun σ74_260 hσ74_260 => ?_)
            have kσ74_260 : KF σ σ74_260 := by rw [hσ74_260]; exact kf_trans kσ72_259 (kf_lit (by decide))
            refine kp_nm (fun σ76_261 hσ76_261 => ?_)
            have kσ76_261 : KF σ σ76_261 := by rw [hσ76_261]; exact kf_trans kσ74_260 (kf_lit (by decide))
            exact kp_some kσ76_261
        · unfold F_X12_cuts_286
          refine kp_nm (fun σ28_262 hσ28_262 => ?_)
          have kσ28_262 : KF σ σ28_262 := by rw [hσ28_262]; exact kf_trans kσ85_205 (kf_lit (by decide))
          refine kp_nm (fun σ30_263 hσ30_263 => ?_)
          have kσ30_263 : KF σ σ30_263 := by rw [hσ30_263]; exact kf_trans kσ28_262 (kf_lit (by decide))
          refine kp_nm (fun σ32_264 hσ32_264 => ?_)
          have kσ32_264 : KF σ σ32_264 := by rw [hσ32_264]; exact kf_trans kσ30_263 (kf_lit (by decide))
          exact kp_tr2_kf (kf_X12_cuts_305 hL 1024 _ _ _ _ _ _) kσ32_264
    · unfold F_X12_cuts_83
      refine kp_nm (fun x8_265 _ => ?_)
      refine kp_nm (fun x9_266 _ => ?_)
      refine kp_gd (fun _ => ?_)
      refine kp_if ?_ ?_
      · refine kp_nm (fun x77_267 _ => ?_)
        refine kp_nm (fun x78_268 _ => ?_)
        refine kp_nm (fun x79_269 _ => ?_)
        refine kp_nm (fun x80_270 _ => ?_)
        refine kp_gd (fun _ => ?_)
        refine kp_nm (fun x82_271 _ => ?_)
        unfold F_X12_cuts_145
        refine kp_bx (fun r15_272 => ?_)
        refine kp_bx (fun r16_273 => ?_)
        refine kp_nm (fun x17_274 _ => ?_)
        refine kp_bx (fun r18_275 => ?_)
        refine kp_nm (fun x19_276 _ => ?_)
        refine kp_gd (fun _ => ?_)
        refine kp_bx (fun r21_277 => ?_)
        refine kp_bx (fun r22_278 => ?_)
        refine kp_bx (fun r23_279 => ?_)
        refine kp_nm (fun x24_280 _ => ?_)
        refine kp_bx (fun r25_281 => ?_)
        refine kp_if ?_ ?_
        · refine kp_bx (fun r63_282 => ?_)
          refine kp_nm (fun x64_283 _ => ?_)
          refine kp_bx (fun r65_284 => ?_)
          refine kp_nm (fun x66_285 _ => ?_)
          refine kp_bx (fun r67_286 => ?_)
          refine kp_if ?_ ?_
          · unfold F_X12_cuts_286
            refine kp_nm (fun σ28_287 hσ28_287 => ?_)
            have kσ28_287 : KF σ σ28_287 := by rw [hσ28_287]; exact kf_trans kσ1_1 (kf_lit (by decide))
            refine kp_nm (fun σ30_288 hσ30_288 => ?_)
            have kσ30_288 : KF σ σ30_288 := by rw [hσ30_288]; exact kf_trans kσ28_287 (kf_lit (by decide))
            refine kp_nm (fun σ32_289 hσ32_289 => ?_)
            have kσ32_289 : KF σ σ32_289 := by rw [hσ32_289]; exact kf_trans kσ30_288 (kf_lit (by decide))
            exact kp_tr2_kf (kf_X12_cuts_305 hL 1024 _ _ _ _ _ _) kσ32_289
          · refine kp_nm (fun σ70_290 hσ70_290 => ?_)
            have kσ70_290 : KF σ σ70_290 := by rw [hσ70_290]; exact kf_trans kσ1_1 (kf_lit (by decide))
            refine kp_nm (fun σ72_291 hσ72_291 => ?_)
            have kσ72_291 : KF σ σ72_291 := by rw [hσ72_291]; exact kf_trans kσ70_290 (kf_lit (by decide))
            refine kp_nm (fun σ74_292 hσ74_292 => ?_)
            have kσ74_292 : KF σ σ74_292 := by rw [hσ74_292]; exact kf_trans kσ72_291 (kf_lit (by decide))
            refine kp_nm (fun σ76_293 hσ76_293 => ?_)
            have kσ76_293 : KF σ σ76_293 := by rw [hσ76_293]; exact kf_trans kσ74_292 (kf_lit (by decide))
            exact kp_some kσ76_293
        · unfold F_X12_cuts_286
          refine kp_nm (fun σ28_294 hσ28_294 => ?_)
          have kσ28_294 : KF σ σ28_294 := by rw [hσ28_294]; exact kf_trans kσ1_1 (kf_lit (by decide))
          refine kp_nm (fun σ30_295 hσ30_295 => ?_)
          have kσ30_295 : KF σ σ30_295 := by rw [hσ30_295]; exact kf_trans kσ28_294 (kf_lit (by decide))
          refine kp_nm (fun σ32_296 hσ32_296 => ?_)
          have kσ32_296 : KF σ σ32_296 := by rw [hσ32_296]; exact kf_trans kσ30_295 (kf_lit (by decide))
          exact kp_tr2_kf (kf_X12_cuts_305 hL 1024 _ _ _ _ _ _) kσ32_296
      · refine kp_nm (fun x12_297 _ => ?_)
        refine kp_gd (fun _ => ?_)
        refine kp_bx (fun r14_298 => ?_)
        unfold F_X12_cuts_145
        refine kp_bx (fun r15_299 => ?_)
        refine kp_bx (fun r16_300 => ?_)
        refine kp_nm (fun x17_301 _ => ?_)
        refine kp_bx (fun r18_302 => ?_)
        refine kp_nm (fun x19_303 _ => ?_)
        refine kp_gd (fun _ => ?_)
        refine kp_bx (fun r21_304 => ?_)
        refine kp_bx (fun r22_305 => ?_)
        refine kp_bx (fun r23_306 => ?_)
        refine kp_nm (fun x24_307 _ => ?_)
        refine kp_bx (fun r25_308 => ?_)
        refine kp_if ?_ ?_
        · refine kp_bx (fun r63_309 => ?_)
          refine kp_nm (fun x64_310 _ => ?_)
          refine kp_bx (fun r65_311 => ?_)
          refine kp_nm (fun x66_312 _ => ?_)
          refine kp_bx (fun r67_313 => ?_)
          refine kp_if ?_ ?_
          · unfold F_X12_cuts_286
            refine kp_nm (fun σ28_314 hσ28_314 => ?_)
            have kσ28_314 : KF σ σ28_314 := by rw [hσ28_314]; exact kf_trans kσ1_1 (kf_lit (by decide))
            refine kp_nm (fun σ30_315 hσ30_315 => ?_)
            have kσ30_315 : KF σ σ30_315 := by rw [hσ30_315]; exact kf_trans kσ28_314 (kf_lit (by decide))
            refine kp_nm (fun σ32_316 hσ32_316 => ?_)
            have kσ32_316 : KF σ σ32_316 := by rw [hσ32_316]; exact kf_trans kσ30_315 (kf_lit (by decide))
            exact kp_tr2_kf (kf_X12_cuts_305 hL 1024 _ _ _ _ _ _) kσ32_316
          · refine kp_nm (fun σ70_317 hσ70_317 => ?_)
            have kσ70_317 : KF σ σ70_317 := by rw [hσ70_317]; exact kf_trans kσ1_1 (kf_lit (by decide))
            refine kp_nm (fun σ72_318 hσ72_318 => ?_)
            have kσ72_318 : KF σ σ72_318 := by rw [hσ72_318]; exact kf_trans kσ70_317 (kf_lit (by decide))
            refine kp_nm (fun σ74_319 hσ74_319 => ?_)
            have kσ74_319 : KF σ σ74_319 := by rw [hσ74_319]; exact kf_trans kσ72_318 (kf_lit (by decide))
            refine kp_nm (fun σ76_320 hσ76_320 => ?_)
            have kσ76_320 : KF σ σ76_320 := by rw [hσ76_320]; exact kf_trans kσ74_319 (kf_lit (by decide))
            exact kp_some kσ76_320
        · unfold F_X12_cuts_286
          refine kp_nm (fun σ28_321 hσ28_321 => ?_)
          have kσ28_321 : KF σ σ28_321 := by rw [hσ28_321]; exact kf_trans kσ1_1 (kf_lit (by decide))
          refine kp_nm (fun σ30_322 hσ30_322 => ?_)
          have kσ30_322 : KF σ σ30_322 := by rw [hσ30_322]; exact kf_trans kσ28_321 (kf_lit (by decide))
          refine kp_nm (fun σ32_323 hσ32_323 => ?_)
          have kσ32_323 : KF σ σ32_323 := by rw [hσ32_323]; exact kf_trans kσ30_322 (kf_lit (by decide))
          exact kp_tr2_kf (kf_X12_cuts_305 hL 1024 _ _ _ _ _ _) kσ32_323

set_option maxRecDepth 100000 in
theorem kf_X12_goesBack_2 {N : Nat} {K len : Nat → Nat} {ρ : RG} (hL : Lay N K len ρ) : ∀ (n : Nat) (σ : SG) (v1 : Int32), kp (F_X12_goesBack_2 n σ ρ v1) (fun q => KF σ q) := by
  intro n
  induction n with
  | zero => intro σ v1; exact kp_none
  | succ n ih =>
    intro σ v1
    unfold F_X12_goesBack_2
    refine kp_if ?_ ?_
    · exact kp_some (kf_refl _)
    · refine kp_gd (fun _ => ?_)
      refine kp_gd (fun _ => ?_)
      refine kp_nm (fun σ5_324 hσ5_324 => ?_)
      have kσ5_324 : KF σ σ5_324 := by rw [hσ5_324]; exact kf_trans (kf_refl _) (kf_row (by decide))
      refine kp_nm (fun x6_325 _ => ?_)
      exact kp_tr_kf (ih _ _) kσ5_324

set_option maxRecDepth 100000 in
theorem kf_X12_goesBack {N : Nat} {K len : Nat → Nat} {σ : SG} {ρ : RG} (hL : Lay N K len ρ) : kp (F_X12_goesBack σ ρ) (fun q => KF σ q) := by
  unfold F_X12_goesBack
  exact kp_tr_kf (kf_X12_goesBack_2 hL 1024 _ _) (kf_refl _)

set_option maxRecDepth 100000 in
theorem kf_X12_goesOn_18 {N : Nat} {K len : Nat → Nat} {a1 : Int32} {a2 : Int32} {a3 : Int32} {ρ : RG} (hL : Lay N K len ρ) : ∀ (n : Nat) (σ : SG) (v1 : Int32) (v2 : Int32) (v3 : Int32) (v4 : Int32), kp (F_X12_goesOn_18 a1 a2 a3 n σ ρ v1 v2 v3 v4) (fun q => KF σ q) := by
  intro n
  induction n with
  | zero => intro σ v1 v2 v3 v4; exact kp_none
  | succ n ih =>
    intro σ v1 v2 v3 v4
    unfold F_X12_goesOn_18
    refine kp_if ?_ ?_
    · exact kp_some (kf_refl _)
    · refine kp_if ?_ ?_
      · exact kp_some (kf_refl _)
      · refine kp_gd (fun _ => ?_)
        refine kp_nm (fun x10_329 _ => ?_)
        refine kp_if ?_ ?_
        · refine kp_bx (fun r29_330 => ?_)
          refine kp_bx (fun r30_331 => ?_)
          refine kp_if ?_ ?_
          · unfold F_X12_goesOn_72
            refine kp_nm (fun x12_332 _ => ?_)
            refine kp_gd (fun _ => ?_)
            refine kp_bn2 (kf_X12_cuts hL) (fun r14_333 σ14_334 hr14_333 => ?_)
            have kσ14_334 : KF σ σ14_334 := kf_trans (kf_refl _) hr14_333
            refine kp_if ?_ ?_
            · exact kp_some kσ14_334
            · refine kp_nm (fun x16_335 _ => ?_)
              refine kp_nm (fun σ18_336 hσ18_336 => ?_)
              have kσ18_336 : KF σ σ18_336 := by rw [hσ18_336]; exact kf_trans kσ14_334 (kf_lit (by decide))
              refine kp_bx (fun r19_337 => ?_)
              refine kp_if ?_ ?_
              · unfold F_X12_goesOn_119
                refine kp_nm (fun x21_338 _ => ?_)
                refine kp_nm (fun σ23_339 hσ23_339 => ?_)
                have kσ23_339 : KF σ σ23_339 := by rw [hσ23_339]; exact kf_trans kσ18_336 (kf_lit (by decide))
                refine kp_if ?_ ?_
                · unfold F_X12_goesOn_141
                  refine kp_nm (fun x25_340 _ => ?_)
                  refine kp_nm (fun σ27_341 hσ27_341 => ?_)
                  have kσ27_341 : KF σ σ27_341 := by rw [hσ27_341]; exact kf_trans kσ23_339 (kf_lit (by decide))
                  refine kp_nm (fun x28_342 _ => ?_)
                  exact kp_tr_kf (ih _ _ _ _ _) kσ27_341
                · unfold F_X12_goesOn_141
                  refine kp_nm (fun x25_343 _ => ?_)
                  refine kp_nm (fun σ27_344 hσ27_344 => ?_)
                  have kσ27_344 : KF σ σ27_344 := by rw [hσ27_344]; exact kf_trans kσ23_339 (kf_lit (by decide))
                  refine kp_nm (fun x28_345 _ => ?_)
                  exact kp_tr_kf (ih _ _ _ _ _) kσ27_344
              · unfold F_X12_goesOn_119
                refine kp_nm (fun x21_346 _ => ?_)
                refine kp_nm (fun σ23_347 hσ23_347 => ?_)
                have kσ23_347 : KF σ σ23_347 := by rw [hσ23_347]; exact kf_trans kσ18_336 (kf_lit (by decide))
                refine kp_if ?_ ?_
                · unfold F_X12_goesOn_141
                  refine kp_nm (fun x25_348 _ => ?_)
                  refine kp_nm (fun σ27_349 hσ27_349 => ?_)
                  have kσ27_349 : KF σ σ27_349 := by rw [hσ27_349]; exact kf_trans kσ23_347 (kf_lit (by decide))
                  refine kp_nm (fun x28_350 _ => ?_)
                  exact kp_tr_kf (ih _ _ _ _ _) kσ27_349
                · unfold F_X12_goesOn_141
                  refine kp_nm (fun x25_351 _ => ?_)
                  refine kp_nm (fun σ27_352 hσ27_352 => ?_)
                  have kσ27_352 : KF σ σ27_352 := by rw [hσ27_352]; exact kf_trans kσ23_347 (kf_lit (by decide))
                  refine kp_nm (fun x28_353 _ => ?_)
                  exact kp_tr_kf (ih _ _ _ _ _) kσ27_352
          · refine kp_bn (kf_X12_rights hL) (fun σ32_354 hσ32_354 => ?_)
            have kσ32_354 : KF σ σ32_354 := kf_trans (kf_refl _) hσ32_354
            unfold F_X12_goesOn_72
            refine kp_nm (fun x12_355 _ => ?_)
            refine kp_gd (fun _ => ?_)
            refine kp_bn2 (kf_X12_cuts hL) (fun r14_356 σ14_357 hr14_356 => ?_)
            have kσ14_357 : KF σ σ14_357 := kf_trans kσ32_354 hr14_356
            refine kp_if ?_ ?_
            · exact kp_some kσ14_357
            · refine kp_nm (fun x16_358 _ => ?_)
              refine kp_nm (fun σ18_359 hσ18_359 => ?_)
              have kσ18_359 : KF σ σ18_359 := by rw [hσ18_359]; exact kf_trans kσ14_357 (kf_lit (by decide))
              refine kp_bx (fun r19_360 => ?_)
              refine kp_if ?_ ?_
              · unfold F_X12_goesOn_119
                refine kp_nm (fun x21_361 _ => ?_)
                refine kp_nm (fun σ23_362 hσ23_362 => ?_)
                have kσ23_362 : KF σ σ23_362 := by rw [hσ23_362]; exact kf_trans kσ18_359 (kf_lit (by decide))
                refine kp_if ?_ ?_
                · unfold F_X12_goesOn_141
                  refine kp_nm (fun x25_363 _ => ?_)
                  refine kp_nm (fun σ27_364 hσ27_364 => ?_)
                  have kσ27_364 : KF σ σ27_364 := by rw [hσ27_364]; exact kf_trans kσ23_362 (kf_lit (by decide))
                  refine kp_nm (fun x28_365 _ => ?_)
                  exact kp_tr_kf (ih _ _ _ _ _) kσ27_364
                · unfold F_X12_goesOn_141
                  refine kp_nm (fun x25_366 _ => ?_)
                  refine kp_nm (fun σ27_367 hσ27_367 => ?_)
                  have kσ27_367 : KF σ σ27_367 := by rw [hσ27_367]; exact kf_trans kσ23_362 (kf_lit (by decide))
                  refine kp_nm (fun x28_368 _ => ?_)
                  exact kp_tr_kf (ih _ _ _ _ _) kσ27_367
              · unfold F_X12_goesOn_119
                refine kp_nm (fun x21_369 _ => ?_)
                refine kp_nm (fun σ23_370 hσ23_370 => ?_)
                have kσ23_370 : KF σ σ23_370 := by rw [hσ23_370]; exact kf_trans kσ18_359 (kf_lit (by decide))
                refine kp_if ?_ ?_
                · unfold F_X12_goesOn_141
                  refine kp_nm (fun x25_371 _ => ?_)
                  refine kp_nm (fun σ27_372 hσ27_372 => ?_)
                  have kσ27_372 : KF σ σ27_372 := by rw [hσ27_372]; exact kf_trans kσ23_370 (kf_lit (by decide))
                  refine kp_nm (fun x28_373 _ => ?_)
                  exact kp_tr_kf (ih _ _ _ _ _) kσ27_372
                · unfold F_X12_goesOn_141
                  refine kp_nm (fun x25_374 _ => ?_)
                  refine kp_nm (fun σ27_375 hσ27_375 => ?_)
                  have kσ27_375 : KF σ σ27_375 := by rw [hσ27_375]; exact kf_trans kσ23_370 (kf_lit (by decide))
                  refine kp_nm (fun x28_376 _ => ?_)
                  exact kp_tr_kf (ih _ _ _ _ _) kσ27_375
        · unfold F_X12_goesOn_72
          refine kp_nm (fun x12_377 _ => ?_)
          refine kp_gd (fun _ => ?_)
          refine kp_bn2 (kf_X12_cuts hL) (fun r14_378 σ14_379 hr14_378 => ?_)
          have kσ14_379 : KF σ σ14_379 := kf_trans (kf_refl _) hr14_378
          refine kp_if ?_ ?_
          · exact kp_some kσ14_379
          · refine kp_nm (fun x16_380 _ => ?_)
            refine kp_nm (fun σ18_381 hσ18_381 => ?_)
            have kσ18_381 : KF σ σ18_381 := by rw [hσ18_381]; exact kf_trans kσ14_379 (kf_lit (by decide))
            refine kp_bx (fun r19_382 => ?_)
            refine kp_if ?_ ?_
            · unfold F_X12_goesOn_119
              refine kp_nm (fun x21_383 _ => ?_)
              refine kp_nm (fun σ23_384 hσ23_384 => ?_)
              have kσ23_384 : KF σ σ23_384 := by rw [hσ23_384]; exact kf_trans kσ18_381 (kf_lit (by decide))
              refine kp_if ?_ ?_
              · unfold F_X12_goesOn_141
                refine kp_nm (fun x25_385 _ => ?_)
                refine kp_nm (fun σ27_386 hσ27_386 => ?_)
                have kσ27_386 : KF σ σ27_386 := by rw [hσ27_386]; exact kf_trans kσ23_384 (kf_lit (by decide))
                refine kp_nm (fun x28_387 _ => ?_)
                exact kp_tr_kf (ih _ _ _ _ _) kσ27_386
              · unfold F_X12_goesOn_141
                refine kp_nm (fun x25_388 _ => ?_)
                refine kp_nm (fun σ27_389 hσ27_389 => ?_)
                have kσ27_389 : KF σ σ27_389 := by rw [hσ27_389]; exact kf_trans kσ23_384 (kf_lit (by decide))
                refine kp_nm (fun x28_390 _ => ?_)
                exact kp_tr_kf (ih _ _ _ _ _) kσ27_389
            · unfold F_X12_goesOn_119
              refine kp_nm (fun x21_391 _ => ?_)
              refine kp_nm (fun σ23_392 hσ23_392 => ?_)
              have kσ23_392 : KF σ σ23_392 := by rw [hσ23_392]; exact kf_trans kσ18_381 (kf_lit (by decide))
              refine kp_if ?_ ?_
              · unfold F_X12_goesOn_141
                refine kp_nm (fun x25_393 _ => ?_)
                refine kp_nm (fun σ27_394 hσ27_394 => ?_)
                have kσ27_394 : KF σ σ27_394 := by rw [hσ27_394]; exact kf_trans kσ23_392 (kf_lit (by decide))
                refine kp_nm (fun x28_395 _ => ?_)
                exact kp_tr_kf (ih _ _ _ _ _) kσ27_394
              · unfold F_X12_goesOn_141
                refine kp_nm (fun x25_396 _ => ?_)
                refine kp_nm (fun σ27_397 hσ27_397 => ?_)
                have kσ27_397 : KF σ σ27_397 := by rw [hσ27_397]; exact kf_trans kσ23_392 (kf_lit (by decide))
                refine kp_nm (fun x28_398 _ => ?_)
                exact kp_tr_kf (ih _ _ _ _ _) kσ27_397

set_option maxRecDepth 100000 in
theorem kf_X12_goesOn {N : Nat} {K len : Nat → Nat} {a1 : Int32} {a2 : Int32} {a3 : Int32} {σ : SG} {ρ : RG} (hL : Lay N K len ρ) : kp (F_X12_goesOn a1 a2 a3 σ ρ) (fun q => KF σ q) := by
  unfold F_X12_goesOn
  refine kp_nm (fun σ2_326 hσ2_326 => ?_)
  have kσ2_326 : KF σ σ2_326 := by rw [hσ2_326]; exact kf_trans (kf_refl _) (kf_lit (by decide))
  refine kp_nm (fun σ4_327 hσ4_327 => ?_)
  have kσ4_327 : KF σ σ4_327 := by rw [hσ4_327]; exact kf_trans kσ2_326 (kf_lit (by decide))
  refine kp_nm (fun σ6_328 hσ6_328 => ?_)
  have kσ6_328 : KF σ σ6_328 := by rw [hσ6_328]; exact kf_trans kσ4_327 (kf_lit (by decide))
  exact kp_tr_kf (kf_X12_goesOn_18 hL 1024 _ _ _ _ _) kσ6_328

set_option maxRecDepth 100000 in
theorem kf_X12_feed {N : Nat} {K len : Nat → Nat} {a1 : Int32} {σ : SG} {ρ : RG} (hL : Lay N K len ρ) : kp (F_X12_feed a1 σ ρ) (fun q => KF σ q.2) := by
  unfold F_X12_feed
  refine kp_bx (fun r1_399 => ?_)
  refine kp_if ?_ ?_
  · exact kp_some (kf_refl _)
  · refine kp_if ?_ ?_
    · exact kp_some (kf_refl _)
    · refine kp_nm (fun x4_400 _ => ?_)
      refine kp_gd (fun _ => ?_)
      refine kp_nm (fun σ7_401 hσ7_401 => ?_)
      have kσ7_401 : KF σ σ7_401 := by rw [hσ7_401]; exact kf_trans (kf_refl _) (kf_row (by decide))
      refine kp_nm (fun x8_402 _ => ?_)
      refine kp_nm (fun σ10_403 hσ10_403 => ?_)
      have kσ10_403 : KF σ σ10_403 := by rw [hσ10_403]; exact kf_trans kσ7_401 (kf_lit (by decide))
      exact kp_some kσ10_403

set_option maxRecDepth 100000 in
theorem kf_X12_thick {N : Nat} {K len : Nat → Nat} {a1 : Int32} {a2 : Int32} {σ : SG} {ρ : RG} (hL : Lay N K len ρ) : kp (F_X12_thick a1 a2 σ ρ) (fun q => KF σ q.2) := by
  unfold F_X12_thick
  refine kp_bx (fun r1_404 => ?_)
  refine kp_if ?_ ?_
  · exact kp_some (kf_refl _)
  · refine kp_bx (fun r3_405 => ?_)
    refine kp_if ?_ ?_
    · exact kp_some (kf_refl _)
    · refine kp_nm (fun x5_406 _ => ?_)
      refine kp_gd (fun _ => ?_)
      refine kp_nm (fun x7_407 _ => ?_)
      refine kp_gd (fun _ => ?_)
      refine kp_nm (fun σ10_408 hσ10_408 => ?_)
      have kσ10_408 : KF σ σ10_408 := by rw [hσ10_408]; exact kf_trans (kf_refl _) (kf_row (by decide))
      exact kp_some kσ10_408

set_option maxRecDepth 100000 in
theorem kf_X12_row {N : Nat} {K len : Nat → Nat} {a1 : Int32} {a2 : Int32} {a3 : Int32} {σ : SG} {ρ : RG} (hL : Lay N K len ρ) : kp (F_X12_row a1 a2 a3 σ ρ) (fun q => KF σ q.2) := by
  unfold F_X12_row
  refine kp_bx (fun r1_409 => ?_)
  refine kp_if ?_ ?_
  · exact kp_some (kf_refl _)
  · refine kp_bx (fun r3_410 => ?_)
    refine kp_if ?_ ?_
    · exact kp_some (kf_refl _)
    · refine kp_bx (fun r5_411 => ?_)
      refine kp_if ?_ ?_
      · exact kp_some (kf_refl _)
      · refine kp_nm (fun x7_412 _ => ?_)
        refine kp_gd (fun _ => ?_)
        refine kp_if ?_ ?_
        · refine kp_nm (fun x10_413 _ => ?_)
          refine kp_nm (fun x11_414 _ => ?_)
          refine kp_nm (fun x12_415 _ => ?_)
          refine kp_gd (fun _ => ?_)
          refine kp_nm (fun x14_416 _ => ?_)
          refine kp_nm (fun x15_417 _ => ?_)
          refine kp_nm (fun x16_418 _ => ?_)
          refine kp_gd (fun _ => ?_)
          refine kp_nm (fun σ19_419 hσ19_419 => ?_)
          have kσ19_419 : KF σ σ19_419 := by rw [hσ19_419]; exact kf_trans (kf_refl _) (kf_row (by decide))
          exact kp_some kσ19_419
        · exact kp_some (kf_refl _)

set_option maxRecDepth 100000 in
theorem kf_X12_loaf {N : Nat} {K len : Nat → Nat} {a1 : Int32} {σ : SG} {ρ : RG} (hL : Lay N K len ρ) : kp (F_X12_loaf a1 σ ρ) (fun q => KF σ q.2) := by
  unfold F_X12_loaf
  refine kp_bx (fun r1_420 => ?_)
  refine kp_if ?_ ?_
  · exact kp_some (kf_refl _)
  · refine kp_nm (fun σ4_421 hσ4_421 => ?_)
    have kσ4_421 : KF σ σ4_421 := by rw [hσ4_421]; exact kf_trans (kf_refl _) (kf_lit (by decide))
    refine kp_nm (fun σ6_422 hσ6_422 => ?_)
    have kσ6_422 : KF σ σ6_422 := by rw [hσ6_422]; exact kf_trans kσ4_421 (kf_lit (by decide))
    refine kp_nm (fun σ8_423 hσ8_423 => ?_)
    have kσ8_423 : KF σ σ8_423 := by rw [hσ8_423]; exact kf_trans kσ6_422 (kf_lit (by decide))
    refine kp_nm (fun σ10_424 hσ10_424 => ?_)
    have kσ10_424 : KF σ σ10_424 := by rw [hσ10_424]; exact kf_trans kσ8_423 (kf_lit (by decide))
    refine kp_nm (fun σ12_425 hσ12_425 => ?_)
    have kσ12_425 : KF σ σ12_425 := by rw [hσ12_425]; exact kf_trans kσ10_424 (kf_lit (by decide))
    refine kp_nm (fun σ14_426 hσ14_426 => ?_)
    have kσ14_426 : KF σ σ14_426 := by rw [hσ14_426]; exact kf_trans kσ12_425 (kf_lit (by decide))
    exact kp_some kσ14_426

set_option maxRecDepth 100000 in
theorem kf_X12_see {N : Nat} {K len : Nat → Nat} {a1 : Int32} {a2 : Int32} {σ : SG} {ρ : RG} (hL : Lay N K len ρ) : kp (F_X12_see a1 a2 σ ρ) (fun q => KF σ q.2) := by
  unfold F_X12_see
  refine kp_bx (fun r1_427 => ?_)
  refine kp_if ?_ ?_
  · exact kp_some (kf_refl _)
  · refine kp_bx (fun r3_428 => ?_)
    refine kp_if ?_ ?_
    · exact kp_some (kf_refl _)
    · refine kp_nm (fun σ6_429 hσ6_429 => ?_)
      have kσ6_429 : KF σ σ6_429 := by rw [hσ6_429]; exact kf_trans (kf_refl _) (kf_lit (by decide))
      refine kp_nm (fun σ8_430 hσ8_430 => ?_)
      have kσ8_430 : KF σ σ8_430 := by rw [hσ8_430]; exact kf_trans kσ6_429 (kf_lit (by decide))
      exact kp_some kσ8_430

set_option maxRecDepth 100000 in
theorem kf_X12_week {N : Nat} {K len : Nat → Nat} {a1 : Int32} {σ : SG} {ρ : RG} (hL : Lay N K len ρ) : kp (F_X12_week a1 σ ρ) (fun q => KF σ q.2) := by
  unfold F_X12_week
  refine kp_bx (fun r1_431 => ?_)
  refine kp_if ?_ ?_
  · exact kp_some (kf_refl _)
  · refine kp_if ?_ ?_
    · exact kp_some (kf_refl _)
    · refine kp_nm (fun x4_432 _ => ?_)
      refine kp_gd (fun _ => ?_)
      refine kp_nm (fun σ7_433 hσ7_433 => ?_)
      have kσ7_433 : KF σ σ7_433 := by rw [hσ7_433]; exact kf_trans (kf_refl _) (kf_row (by decide))
      refine kp_nm (fun x8_434 _ => ?_)
      refine kp_nm (fun σ10_435 hσ10_435 => ?_)
      have kσ10_435 : KF σ σ10_435 := by rw [hσ10_435]; exact kf_trans kσ7_433 (kf_lit (by decide))
      exact kp_some kσ10_435

set_option maxRecDepth 100000 in
theorem kf_X12_clear {N : Nat} {K len : Nat → Nat} {σ : SG} {ρ : RG} (hL : Lay N K len ρ) : kp (F_X12_clear σ ρ) (fun q => KF σ q.2) := by
  unfold F_X12_clear
  refine kp_nm (fun σ2_436 hσ2_436 => ?_)
  have kσ2_436 : KF σ σ2_436 := by rw [hσ2_436]; exact kf_trans (kf_refl _) (kf_lit (by decide))
  exact kp_some kσ2_436

set_option maxRecDepth 100000 in
theorem kf_X12_book {N : Nat} {K len : Nat → Nat} {a1 : Int32} {a2 : Int32} {σ : SG} {ρ : RG} (hL : Lay N K len ρ) : kp (F_X12_book a1 a2 σ ρ) (fun q => KF σ q.2) := by
  unfold F_X12_book
  refine kp_if ?_ ?_
  · refine kp_nm (fun σ19_437 hσ19_437 => ?_)
    have kσ19_437 : KF σ σ19_437 := by rw [hσ19_437]; exact kf_trans (kf_refl _) (kf_lit (by decide))
    exact kp_some kσ19_437
  · refine kp_bx (fun r2_438 => ?_)
    refine kp_if ?_ ?_
    · exact kp_some (kf_refl _)
    · refine kp_bx (fun r4_439 => ?_)
      refine kp_if ?_ ?_
      · exact kp_some (kf_refl _)
      · refine kp_if ?_ ?_
        · exact kp_some (kf_refl _)
        · refine kp_nm (fun x7_440 _ => ?_)
          refine kp_gd (fun _ => ?_)
          refine kp_nm (fun σ10_441 hσ10_441 => ?_)
          have kσ10_441 : KF σ σ10_441 := by rw [hσ10_441]; exact kf_trans (kf_refl _) (kf_row (by decide))
          refine kp_nm (fun x11_442 _ => ?_)
          refine kp_gd (fun _ => ?_)
          refine kp_nm (fun σ14_443 hσ14_443 => ?_)
          have kσ14_443 : KF σ σ14_443 := by rw [hσ14_443]; exact kf_trans kσ10_441 (kf_row (by decide))
          refine kp_nm (fun x15_444 _ => ?_)
          refine kp_nm (fun σ17_445 hσ17_445 => ?_)
          have kσ17_445 : KF σ σ17_445 := by rw [hσ17_445]; exact kf_trans kσ14_443 (kf_lit (by decide))
          exact kp_some kσ17_445

set_option maxRecDepth 100000 in
theorem kf_X12_cutter_153 {N : Nat} {K len : Nat → Nat} {a1 : Int32} {a2 : Int32} {a3 : Int32} {a4 : Int32} {a5 : Int32} {ρ : RG} (hL : Lay N K len ρ) : ∀ (n : Nat) (σ : SG) (v6 : Int32) (v7 : Int32), kp (F_X12_cutter_153 a1 a2 a3 a4 a5 n σ ρ v6 v7) (fun q => KF σ q.2) := by
  intro n
  induction n with
  | zero => intro σ v6 v7; exact kp_none
  | succ n ih =>
    intro σ v6 v7
    unfold F_X12_cutter_153
    refine kp_if ?_ ?_
    · refine kp_nm (fun x37_463 _ => ?_)
      refine kp_nm (fun σ39_464 hσ39_464 => ?_)
      have kσ39_464 : KF σ σ39_464 := by rw [hσ39_464]; exact kf_trans (kf_refl _) (kf_lit (by decide))
      exact kp_some kσ39_464
    · refine kp_nm (fun x40_465 _ => ?_)
      refine kp_nm (fun x41_466 _ => ?_)
      refine kp_nm (fun x42_467 _ => ?_)
      refine kp_gd (fun _ => ?_)
      refine kp_nm (fun σ45_468 hσ45_468 => ?_)
      have kσ45_468 : KF σ σ45_468 := by rw [hσ45_468]; exact kf_trans (kf_refl _) (kf_row (by decide))
      refine kp_nm (fun x46_469 _ => ?_)
      exact kp_tr2_kf (ih _ _ _) kσ45_468

set_option maxRecDepth 100000 in
theorem kf_X12_cutter {N : Nat} {K len : Nat → Nat} {a1 : Int32} {a2 : Int32} {a3 : Int32} {a4 : Int32} {a5 : Int32} {σ : SG} {ρ : RG} (hL : Lay N K len ρ) : kp (F_X12_cutter a1 a2 a3 a4 a5 σ ρ) (fun q => KF σ q.2) := by
  unfold F_X12_cutter
  refine kp_bx (fun r1_446 => ?_)
  refine kp_if ?_ ?_
  · exact kp_some (kf_refl _)
  · refine kp_bx (fun r3_447 => ?_)
    refine kp_if ?_ ?_
    · exact kp_some (kf_refl _)
    · refine kp_bx (fun r5_448 => ?_)
      refine kp_if ?_ ?_
      · exact kp_some (kf_refl _)
      · refine kp_bx (fun r7_449 => ?_)
        refine kp_if ?_ ?_
        · exact kp_some (kf_refl _)
        · refine kp_bx (fun r9_450 => ?_)
          refine kp_if ?_ ?_
          · exact kp_some (kf_refl _)
          · refine kp_if ?_ ?_
            · exact kp_some (kf_refl _)
            · refine kp_nm (fun x12_451 _ => ?_)
              refine kp_gd (fun _ => ?_)
              refine kp_nm (fun σ15_452 hσ15_452 => ?_)
              have kσ15_452 : KF σ σ15_452 := by rw [hσ15_452]; exact kf_trans (kf_refl _) (kf_row (by decide))
              refine kp_nm (fun x16_453 _ => ?_)
              refine kp_gd (fun _ => ?_)
              refine kp_nm (fun σ19_454 hσ19_454 => ?_)
              have kσ19_454 : KF σ σ19_454 := by rw [hσ19_454]; exact kf_trans kσ15_452 (kf_row (by decide))
              refine kp_nm (fun x20_455 _ => ?_)
              refine kp_gd (fun _ => ?_)
              refine kp_nm (fun σ23_456 hσ23_456 => ?_)
              have kσ23_456 : KF σ σ23_456 := by rw [hσ23_456]; exact kf_trans kσ19_454 (kf_row (by decide))
              refine kp_nm (fun x24_457 _ => ?_)
              refine kp_gd (fun _ => ?_)
              refine kp_nm (fun σ27_458 hσ27_458 => ?_)
              have kσ27_458 : KF σ σ27_458 := by rw [hσ27_458]; exact kf_trans kσ23_456 (kf_row (by decide))
              refine kp_nm (fun x28_459 _ => ?_)
              refine kp_gd (fun _ => ?_)
              refine kp_nm (fun σ31_460 hσ31_460 => ?_)
              have kσ31_460 : KF σ σ31_460 := by rw [hσ31_460]; exact kf_trans kσ27_458 (kf_row (by decide))
              refine kp_nm (fun x32_461 _ => ?_)
              refine kp_gd (fun _ => ?_)
              refine kp_nm (fun σ35_462 hσ35_462 => ?_)
              have kσ35_462 : KF σ σ35_462 := by rw [hσ35_462]; exact kf_trans kσ31_460 (kf_row (by decide))
              exact kp_tr2_kf (kf_X12_cutter_153 hL 1024 _ _ _) kσ35_462

set_option maxRecDepth 100000 in
theorem kf_X12_image_2 {N : Nat} {K len : Nat → Nat} {ρ : RG} (hL : Lay N K len ρ) : ∀ (n : Nat) (σ : SG) (v1 : Int32), kp (F_X12_image_2 n σ ρ v1) (fun q => KF σ q.2) := by
  intro n
  induction n with
  | zero => intro σ v1; exact kp_none
  | succ n ih =>
    intro σ v1
    unfold F_X12_image_2
    refine kp_if ?_ ?_
    · refine kp_nm (fun σ3_470 hσ3_470 => ?_)
      have kσ3_470 : KF σ σ3_470 := by rw [hσ3_470]; exact kf_trans (kf_refl _) (kf_lit (by decide))
      exact kp_some kσ3_470
    · refine kp_gd (fun _ => ?_)
      refine kp_gd (fun _ => ?_)
      refine kp_nm (fun σ7_471 hσ7_471 => ?_)
      have kσ7_471 : KF σ σ7_471 := by rw [hσ7_471]; exact kf_trans (kf_refl _) (kf_row (by decide))
      refine kp_nm (fun x8_472 _ => ?_)
      exact kp_tr2_kf (ih _ _) kσ7_471

set_option maxRecDepth 100000 in
theorem kf_X12_image {N : Nat} {K len : Nat → Nat} {σ : SG} {ρ : RG} (hL : Lay N K len ρ) : kp (F_X12_image σ ρ) (fun q => KF σ q.2) := by
  unfold F_X12_image
  exact kp_tr2_kf (kf_X12_image_2 hL 1024 _ _) (kf_refl _)

set_option maxRecDepth 100000 in
theorem kf_X12_undo_12 {N : Nat} {K len : Nat → Nat} {ρ : RG} (hL : Lay N K len ρ) : ∀ (n : Nat) (σ : SG) (v1 : Int32), kp (F_X12_undo_12 n σ ρ v1) (fun q => KF σ q.2) := by
  intro n
  induction n with
  | zero => intro σ v1; exact kp_none
  | succ n ih =>
    intro σ v1
    unfold F_X12_undo_12
    refine kp_if ?_ ?_
    · exact kp_some (kf_refl _)
    · refine kp_gd (fun _ => ?_)
      refine kp_gd (fun _ => ?_)
      refine kp_nm (fun σ6_473 hσ6_473 => ?_)
      have kσ6_473 : KF σ σ6_473 := by rw [hσ6_473]; exact kf_trans (kf_refl _) (kf_row (by decide))
      refine kp_nm (fun x7_474 _ => ?_)
      exact kp_tr2_kf (ih _ _) kσ6_473

set_option maxRecDepth 100000 in
theorem kf_X12_undo {N : Nat} {K len : Nat → Nat} {σ : SG} {ρ : RG} (hL : Lay N K len ρ) : kp (F_X12_undo σ ρ) (fun q => KF σ q.2) := by
  unfold F_X12_undo
  refine kp_if ?_ ?_
  · exact kp_some (kf_refl _)
  · exact kp_tr2_kf (kf_X12_undo_12 hL 1024 _ _) (kf_refl _)

set_option maxRecDepth 100000 in
theorem kf_X12_must {N : Nat} {K len : Nat → Nat} {a1 : Int32} {σ : SG} {ρ : RG} (hL : Lay N K len ρ) : kp (F_X12_must a1 σ ρ) (fun q => KF σ q) := by
  unfold F_X12_must
  refine kp_if ?_ ?_
  · refine kp_bx (fun r11_494 => ?_)
    refine kp_if ?_ ?_
    · unfold F_X12_must_21
      refine kp_gd (fun _ => ?_)
      refine kp_nm (fun σ3_495 hσ3_495 => ?_)
      have kσ3_495 : KF σ σ3_495 := by rw [hσ3_495]; exact kf_trans (kf_refl _) (kf_lit (by decide))
      refine kp_if ?_ ?_
      · refine kp_nm (fun x5_496 _ => ?_)
        refine kp_nm (fun σ7_497 hσ7_497 => ?_)
        have kσ7_497 : KF σ σ7_497 := by rw [hσ7_497]; exact kf_trans kσ3_495 (kf_lit (by decide))
        exact kp_some kσ7_497
      · refine kp_nm (fun x8_498 _ => ?_)
        refine kp_nm (fun σ10_499 hσ10_499 => ?_)
        have kσ10_499 : KF σ σ10_499 := by rw [hσ10_499]; exact kf_trans kσ3_495 (kf_lit (by decide))
        exact kp_some kσ10_499
    · unfold F_X12_must_16
      unfold F_X12_must_21
      refine kp_gd (fun _ => ?_)
      refine kp_nm (fun σ3_500 hσ3_500 => ?_)
      have kσ3_500 : KF σ σ3_500 := by rw [hσ3_500]; exact kf_trans (kf_refl _) (kf_lit (by decide))
      refine kp_if ?_ ?_
      · refine kp_nm (fun x5_501 _ => ?_)
        refine kp_nm (fun σ7_502 hσ7_502 => ?_)
        have kσ7_502 : KF σ σ7_502 := by rw [hσ7_502]; exact kf_trans kσ3_500 (kf_lit (by decide))
        exact kp_some kσ7_502
      · refine kp_nm (fun x8_503 _ => ?_)
        refine kp_nm (fun σ10_504 hσ10_504 => ?_)
        have kσ10_504 : KF σ σ10_504 := by rw [hσ10_504]; exact kf_trans kσ3_500 (kf_lit (by decide))
        exact kp_some kσ10_504
  · unfold F_X12_must_16
    unfold F_X12_must_21
    refine kp_gd (fun _ => ?_)
    refine kp_nm (fun σ3_505 hσ3_505 => ?_)
    have kσ3_505 : KF σ σ3_505 := by rw [hσ3_505]; exact kf_trans (kf_refl _) (kf_lit (by decide))
    refine kp_if ?_ ?_
    · refine kp_nm (fun x5_506 _ => ?_)
      refine kp_nm (fun σ7_507 hσ7_507 => ?_)
      have kσ7_507 : KF σ σ7_507 := by rw [hσ7_507]; exact kf_trans kσ3_505 (kf_lit (by decide))
      exact kp_some kσ7_507
    · refine kp_nm (fun x8_508 _ => ?_)
      refine kp_nm (fun σ10_509 hσ10_509 => ?_)
      have kσ10_509 : KF σ σ10_509 := by rw [hσ10_509]; exact kf_trans kσ3_505 (kf_lit (by decide))
      exact kp_some kσ10_509

set_option maxRecDepth 100000 in
theorem kf_X12_spells_2 {N : Nat} {K len : Nat → Nat} {w : Nat} {ρ : RG} (hL : Lay N K len ρ) : ∀ (n : Nat) (σ : SG) (v2 : Int32), kp (F_X12_spells_2 w n σ ρ v2) (fun q => KF σ q) := by
  intro n
  induction n with
  | zero => intro σ v2; exact kp_none
  | succ n ih =>
    intro σ v2
    unfold F_X12_spells_2
    refine kp_bx (fun r1_491 => ?_)
    refine kp_if ?_ ?_
    · exact kp_some (kf_refl _)
    · refine kp_bx (fun r3_492 => ?_)
      refine kp_bn (kf_X12_must hL) (fun σ4_493 hσ4_493 => ?_)
      have kσ4_493 : KF σ σ4_493 := kf_trans (kf_refl _) hσ4_493
      refine kp_nm (fun x5_510 _ => ?_)
      exact kp_tr_kf (ih _ _) kσ4_493

set_option maxRecDepth 100000 in
theorem kf_X12_spells {N : Nat} {K len : Nat → Nat} {w : Nat} {σ : SG} {ρ : RG} (hL : Lay N K len ρ) : kp (F_X12_spells w σ ρ) (fun q => KF σ q) := by
  unfold F_X12_spells
  exact kp_tr_kf (kf_X12_spells_2 hL 1024 _ _) (kf_refl _)

set_option maxRecDepth 100000 in
theorem kf_X12_figures_34 {N : Nat} {K len : Nat → Nat} {ρ : RG} (hL : Lay N K len ρ) : ∀ (n : Nat) (σ : SG) (v1 : Int32) (v2 : Int32), kp (F_X12_figures_34 n σ ρ v1 v2) (fun q => KF σ q.2) := by
  intro n
  induction n with
  | zero => intro σ v1 v2; exact kp_none
  | succ n ih =>
    intro σ v1 v2
    unfold F_X12_figures_34
    refine kp_if ?_ ?_
    · exact kp_some (kf_refl _)
    · refine kp_if ?_ ?_
      · refine kp_bx (fun r6_516 => ?_)
        refine kp_bx (fun r7_517 => ?_)
        refine kp_if ?_ ?_
        · exact kp_some (kf_refl _)
        · refine kp_if ?_ ?_
          · unfold F_X12_figures_68
            refine kp_nm (fun x10_518 _ => ?_)
            refine kp_bx (fun r11_519 => ?_)
            refine kp_nm (fun x12_520 _ => ?_)
            refine kp_nm (fun x13_521 _ => ?_)
            refine kp_nm (fun x14_522 _ => ?_)
            refine kp_nm (fun σ16_523 hσ16_523 => ?_)
            have kσ16_523 : KF σ σ16_523 := by rw [hσ16_523]; exact kf_trans (kf_refl _) (kf_lit (by decide))
            refine kp_nm (fun x17_524 _ => ?_)
            exact kp_tr2_kf (ih _ _ _) kσ16_523
          · refine kp_if ?_ ?_
            · exact kp_some (kf_refl _)
            · unfold F_X12_figures_68
              refine kp_nm (fun x10_525 _ => ?_)
              refine kp_bx (fun r11_526 => ?_)
              refine kp_nm (fun x12_527 _ => ?_)
              refine kp_nm (fun x13_528 _ => ?_)
              refine kp_nm (fun x14_529 _ => ?_)
              refine kp_nm (fun σ16_530 hσ16_530 => ?_)
              have kσ16_530 : KF σ σ16_530 := by rw [hσ16_530]; exact kf_trans (kf_refl _) (kf_lit (by decide))
              refine kp_nm (fun x17_531 _ => ?_)
              exact kp_tr2_kf (ih _ _ _) kσ16_530
      · exact kp_some (kf_refl _)

set_option maxRecDepth 100000 in
theorem kf_X12_figures {N : Nat} {K len : Nat → Nat} {σ : SG} {ρ : RG} (hL : Lay N K len ρ) : kp (F_X12_figures σ ρ) (fun q => KF σ q.2) := by
  unfold F_X12_figures
  refine kp_if ?_ ?_
  · refine kp_bx (fun r19_513 => ?_)
    refine kp_bx (fun r20_514 => ?_)
    refine kp_if ?_ ?_
    · unfold F_X12_figures_22
      unfold F_X12_figures_27
      refine kp_gd (fun _ => ?_)
      refine kp_nm (fun σ3_515 hσ3_515 => ?_)
      have kσ3_515 : KF σ σ3_515 := by rw [hσ3_515]; exact kf_trans (kf_refl _) (kf_lit (by decide))
      exact kp_tr2_kf (kf_X12_figures_34 hL 1024 _ _ _) kσ3_515
    · unfold F_X12_figures_27
      refine kp_gd (fun _ => ?_)
      refine kp_nm (fun σ3_532 hσ3_532 => ?_)
      have kσ3_532 : KF σ σ3_532 := by rw [hσ3_532]; exact kf_trans (kf_refl _) (kf_lit (by decide))
      exact kp_tr2_kf (kf_X12_figures_34 hL 1024 _ _ _) kσ3_532
  · unfold F_X12_figures_22
    unfold F_X12_figures_27
    refine kp_gd (fun _ => ?_)
    refine kp_nm (fun σ3_533 hσ3_533 => ?_)
    have kσ3_533 : KF σ σ3_533 := by rw [hσ3_533]; exact kf_trans (kf_refl _) (kf_lit (by decide))
    exact kp_tr2_kf (kf_X12_figures_34 hL 1024 _ _ _) kσ3_533

set_option maxRecDepth 100000 in
theorem kf_X12_tellsHere {N : Nat} {K len : Nat → Nat} {a1 : Int32} {w : Nat} {σ : SG} {ρ : RG} (hL : Lay N K len ρ) : kp (F_X12_tellsHere a1 w σ ρ) (fun q => KF σ q) := by
  unfold F_X12_tellsHere
  refine kp_bn (kf_X12_spells hL) (fun σ1_490 hσ1_490 => ?_)
  have kσ1_490 : KF σ σ1_490 := kf_trans (kf_refl _) hσ1_490
  refine kp_bn2 (kf_X12_figures hL) (fun r2_511 σ2_512 hr2_511 => ?_)
  have kσ2_512 : KF σ σ2_512 := kf_trans kσ1_490 hr2_511
  refine kp_if ?_ ?_
  · refine kp_nm (fun x4_534 _ => ?_)
    refine kp_gd (fun _ => ?_)
    refine kp_nm (fun σ7_535 hσ7_535 => ?_)
    have kσ7_535 : KF σ σ7_535 := by rw [hσ7_535]; exact kf_trans kσ2_512 (kf_row (by decide))
    exact kp_some kσ7_535
  · exact kp_some kσ2_512

set_option maxRecDepth 100000 in
theorem kf_X12_emits {N : Nat} {K len : Nat → Nat} {a1 : Int32} {σ : SG} {ρ : RG} (hL : Lay N K len ρ) : kp (F_X12_emits a1 σ ρ) (fun q => KF σ q) := by
  unfold F_X12_emits
  refine kp_if ?_ ?_
  · refine kp_nm (fun x2_552 _ => ?_)
    refine kp_nm (fun x3_553 _ => ?_)
    refine kp_nm (fun x4_554 _ => ?_)
    refine kp_gd (fun _ => ?_)
    refine kp_nm (fun x6_555 _ => ?_)
    refine kp_gd (fun _ => ?_)
    refine kp_nm (fun σ9_556 hσ9_556 => ?_)
    have kσ9_556 : KF σ σ9_556 := by rw [hσ9_556]; exact kf_trans (kf_refl _) (kf_row (by decide))
    refine kp_nm (fun x10_557 _ => ?_)
    refine kp_gd (fun _ => ?_)
    refine kp_nm (fun x12_558 _ => ?_)
    refine kp_gd (fun _ => ?_)
    refine kp_nm (fun σ15_559 hσ15_559 => ?_)
    have kσ15_559 : KF σ σ15_559 := by rw [hσ15_559]; exact kf_trans kσ9_556 (kf_row (by decide))
    exact kp_some kσ15_559
  · exact kp_some (kf_refl _)

set_option maxRecDepth 100000 in
theorem kf_X12_every_B_4 {N : Nat} {K len : Nat → Nat} {R : SG → RG → Option (SG)} {ρ : RG} (hL : Lay N K len ρ) (hR : ∀ (σ : SG), kp (R σ ρ) (fun q => KF σ q)) : ∀ (n : Nat) (σ : SG), kp (F_X12_every_B_4 R n σ ρ) (fun q => KF σ q) := by
  intro n
  induction n with
  | zero => intro σ; exact kp_none
  | succ n ih =>
    intro σ
    unfold F_X12_every_B_4
    refine kp_if ?_ ?_
    · refine kp_bx (fun r3_565 => ?_)
      refine kp_if ?_ ?_
      · refine kp_nm (fun x5_566 _ => ?_)
        refine kp_nm (fun σ7_567 hσ7_567 => ?_)
        have kσ7_567 : KF σ σ7_567 := by rw [hσ7_567]; exact kf_trans (kf_refl _) (kf_lit (by decide))
        refine kp_bn (hR _) (fun σ8_568 hσ8_568 => ?_)
        have kσ8_568 : KF σ σ8_568 := kf_trans kσ7_567 hσ8_568
        refine kp_bn (kf_X12_emits hL) (fun σ9_569 hσ9_569 => ?_)
        have kσ9_569 : KF σ σ9_569 := kf_trans kσ8_568 hσ9_569
        exact kp_tr_kf (ih _) kσ9_569
      · exact kp_some (kf_refl _)
    · exact kp_some (kf_refl _)

set_option maxRecDepth 100000 in
theorem kf_X12_every_B {N : Nat} {K len : Nat → Nat} {R : SG → RG → Option (SG)} {σ : SG} {ρ : RG} (hL : Lay N K len ρ) (hR : ∀ (σ : SG), kp (R σ ρ) (fun q => KF σ q)) : kp (F_X12_every_B R σ ρ) (fun q => KF σ q) := by
  unfold F_X12_every_B
  refine kp_bn (hR _) (fun σ1_564 hσ1_564 => ?_)
  have kσ1_564 : KF σ σ1_564 := kf_trans (kf_refl _) hσ1_564
  exact kp_tr_kf (kf_X12_every_B_4 hL hR 1024 _) kσ1_564

set_option maxRecDepth 100000 in
theorem kf_X12_some_B_4 {N : Nat} {K len : Nat → Nat} {R : SG → RG → Option (SG)} {ρ : RG} (hL : Lay N K len ρ) (hR : ∀ (σ : SG), kp (R σ ρ) (fun q => KF σ q)) : ∀ (n : Nat) (σ : SG), kp (F_X12_some_B_4 R n σ ρ) (fun q => KF σ q) := by
  intro n
  induction n with
  | zero => intro σ; exact kp_none
  | succ n ih =>
    intro σ
    unfold F_X12_some_B_4
    refine kp_if ?_ ?_
    · refine kp_bx (fun r3_570 => ?_)
      refine kp_if ?_ ?_
      · refine kp_nm (fun x5_571 _ => ?_)
        refine kp_nm (fun σ7_572 hσ7_572 => ?_)
        have kσ7_572 : KF σ σ7_572 := by rw [hσ7_572]; exact kf_trans (kf_refl _) (kf_lit (by decide))
        refine kp_bn (kf_X12_every_B hL hR) (fun σ8_573 hσ8_573 => ?_)
        have kσ8_573 : KF σ σ8_573 := kf_trans kσ7_572 hσ8_573
        refine kp_bn (kf_X12_emits hL) (fun σ9_574 hσ9_574 => ?_)
        have kσ9_574 : KF σ σ9_574 := kf_trans kσ8_573 hσ9_574
        exact kp_tr_kf (ih _) kσ9_574
      · exact kp_some (kf_refl _)
    · exact kp_some (kf_refl _)

set_option maxRecDepth 100000 in
theorem kf_X12_some_B {N : Nat} {K len : Nat → Nat} {R : SG → RG → Option (SG)} {σ : SG} {ρ : RG} (hL : Lay N K len ρ) (hR : ∀ (σ : SG), kp (R σ ρ) (fun q => KF σ q)) : kp (F_X12_some_B R σ ρ) (fun q => KF σ q) := by
  unfold F_X12_some_B
  refine kp_bn (kf_X12_every_B hL hR) (fun σ1_563 hσ1_563 => ?_)
  have kσ1_563 : KF σ σ1_563 := kf_trans (kf_refl _) hσ1_563
  exact kp_tr_kf (kf_X12_some_B_4 hL hR 1024 _) kσ1_563

set_option maxRecDepth 100000 in
theorem kf_X12_among_2 {N : Nat} {K len : Nat → Nat} {w : Nat} {ρ : RG} (hL : Lay N K len ρ) : ∀ (n : Nat) (σ : SG) (v2 : Int32), kp (F_X12_among_2 w n σ ρ v2) (fun q => KF σ q.2) := by
  intro n
  induction n with
  | zero => intro σ v2; exact kp_none
  | succ n ih =>
    intro σ v2
    unfold F_X12_among_2
    refine kp_bx (fun r1_659 => ?_)
    refine kp_if ?_ ?_
    · exact kp_some (kf_refl _)
    · refine kp_bx (fun r3_660 => ?_)
      refine kp_bx (fun r4_661 => ?_)
      refine kp_if ?_ ?_
      · refine kp_nm (fun x7_662 _ => ?_)
        refine kp_nm (fun σ9_663 hσ9_663 => ?_)
        have kσ9_663 : KF σ σ9_663 := by rw [hσ9_663]; exact kf_trans (kf_refl _) (kf_lit (by decide))
        exact kp_some kσ9_663
      · refine kp_nm (fun x6_664 _ => ?_)
        exact kp_tr2_kf (ih _ _) (kf_refl _)

set_option maxRecDepth 100000 in
theorem kf_X12_among {N : Nat} {K len : Nat → Nat} {w : Nat} {σ : SG} {ρ : RG} (hL : Lay N K len ρ) : kp (F_X12_among w σ ρ) (fun q => KF σ q.2) := by
  unfold F_X12_among
  exact kp_tr2_kf (kf_X12_among_2 hL 1024 _ _) (kf_refl _)

set_option maxRecDepth 100000 in
theorem kf_X12_factor_B {N : Nat} {K len : Nat → Nat} {R : SG → RG → Option (SG)} {σ : SG} {ρ : RG} (hL : Lay N K len ρ) (hR : ∀ (σ : SG), kp (R σ ρ) (fun q => KF σ q)) : kp (F_X12_factor_B R σ ρ) (fun q => KF σ q) := by
  unfold F_X12_factor_B
  refine kp_if ?_ ?_
  · refine kp_bx (fun r2_544 => ?_)
    refine kp_if ?_ ?_
    · unfold F_X12_factor_B_25
      refine kp_if ?_ ?_
      · unfold F_X12_factor_B_39
        refine kp_gd (fun _ => ?_)
        refine kp_nm (fun σ6_545 hσ6_545 => ?_)
        have kσ6_545 : KF σ σ6_545 := by rw [hσ6_545]; exact kf_trans (kf_refl _) (kf_lit (by decide))
        refine kp_nm (fun x7_546 _ => ?_)
        refine kp_nm (fun σ9_547 hσ9_547 => ?_)
        have kσ9_547 : KF σ σ9_547 := by rw [hσ9_547]; exact kf_trans kσ6_545 (kf_lit (by decide))
        refine kp_if ?_ ?_
        · unfold F_X12_factor_B_69
          refine kp_nm (fun x11_548 _ => ?_)
          refine kp_nm (fun σ13_549 hσ13_549 => ?_)
          have kσ13_549 : KF σ σ13_549 := by rw [hσ13_549]; exact kf_trans kσ9_547 (kf_lit (by decide))
          refine kp_if ?_ ?_
          · refine kp_bn (hR _) (fun σ20_550 hσ20_550 => ?_)
            have kσ20_550 : KF σ σ20_550 := kf_trans kσ13_549 hσ20_550
            refine kp_bn (kf_X12_emits hL) (fun σ21_551 hσ21_551 => ?_)
            have kσ21_551 : KF σ σ21_551 := kf_trans kσ20_550 hσ21_551
            unfold F_X12_factor_B_101
            refine kp_nm (fun x17_560 _ => ?_)
            refine kp_nm (fun σ19_561 hσ19_561 => ?_)
            have kσ19_561 : KF σ σ19_561 := by rw [hσ19_561]; exact kf_trans kσ21_551 (kf_lit (by decide))
            exact kp_some kσ19_561
          · refine kp_bn (kf_X12_some_B hL hR) (fun σ15_562 hσ15_562 => ?_)
            have kσ15_562 : KF σ σ15_562 := kf_trans kσ13_549 hσ15_562
            refine kp_bn (kf_X12_must hL) (fun σ16_575 hσ16_575 => ?_)
            have kσ16_575 : KF σ σ16_575 := kf_trans kσ15_562 hσ16_575
            unfold F_X12_factor_B_101
            refine kp_nm (fun x17_576 _ => ?_)
            refine kp_nm (fun σ19_577 hσ19_577 => ?_)
            have kσ19_577 : KF σ σ19_577 := by rw [hσ19_577]; exact kf_trans kσ16_575 (kf_lit (by decide))
            exact kp_some kσ19_577
        · unfold F_X12_factor_B_69
          refine kp_nm (fun x11_578 _ => ?_)
          refine kp_nm (fun σ13_579 hσ13_579 => ?_)
          have kσ13_579 : KF σ σ13_579 := by rw [hσ13_579]; exact kf_trans kσ9_547 (kf_lit (by decide))
          refine kp_if ?_ ?_
          · refine kp_bn (hR _) (fun σ20_580 hσ20_580 => ?_)
            have kσ20_580 : KF σ σ20_580 := kf_trans kσ13_579 hσ20_580
            refine kp_bn (kf_X12_emits hL) (fun σ21_581 hσ21_581 => ?_)
            have kσ21_581 : KF σ σ21_581 := kf_trans kσ20_580 hσ21_581
            unfold F_X12_factor_B_101
            refine kp_nm (fun x17_582 _ => ?_)
            refine kp_nm (fun σ19_583 hσ19_583 => ?_)
            have kσ19_583 : KF σ σ19_583 := by rw [hσ19_583]; exact kf_trans kσ21_581 (kf_lit (by decide))
            exact kp_some kσ19_583
          · refine kp_bn (kf_X12_some_B hL hR) (fun σ15_584 hσ15_584 => ?_)
            have kσ15_584 : KF σ σ15_584 := kf_trans kσ13_579 hσ15_584
            refine kp_bn (kf_X12_must hL) (fun σ16_585 hσ16_585 => ?_)
            have kσ16_585 : KF σ σ16_585 := kf_trans kσ15_584 hσ16_585
            unfold F_X12_factor_B_101
            refine kp_nm (fun x17_586 _ => ?_)
            refine kp_nm (fun σ19_587 hσ19_587 => ?_)
            have kσ19_587 : KF σ σ19_587 := by rw [hσ19_587]; exact kf_trans kσ16_585 (kf_lit (by decide))
            exact kp_some kσ19_587
      · unfold F_X12_factor_B_39
        refine kp_gd (fun _ => ?_)
        refine kp_nm (fun σ6_588 hσ6_588 => ?_)
        have kσ6_588 : KF σ σ6_588 := by rw [hσ6_588]; exact kf_trans (kf_refl _) (kf_lit (by decide))
        refine kp_nm (fun x7_589 _ => ?_)
        refine kp_nm (fun σ9_590 hσ9_590 => ?_)
        have kσ9_590 : KF σ σ9_590 := by rw [hσ9_590]; exact kf_trans kσ6_588 (kf_lit (by decide))
        refine kp_if ?_ ?_
        · unfold F_X12_factor_B_69
          refine kp_nm (fun x11_591 _ => ?_)
          refine kp_nm (fun σ13_592 hσ13_592 => ?_)
          have kσ13_592 : KF σ σ13_592 := by rw [hσ13_592]; exact kf_trans kσ9_590 (kf_lit (by decide))
          refine kp_if ?_ ?_
          · refine kp_bn (hR _) (fun σ20_593 hσ20_593 => ?_)
            have kσ20_593 : KF σ σ20_593 := kf_trans kσ13_592 hσ20_593
            refine kp_bn (kf_X12_emits hL) (fun σ21_594 hσ21_594 => ?_)
            have kσ21_594 : KF σ σ21_594 := kf_trans kσ20_593 hσ21_594
            unfold F_X12_factor_B_101
            refine kp_nm (fun x17_595 _ => ?_)
            refine kp_nm (fun σ19_596 hσ19_596 => ?_)
            have kσ19_596 : KF σ σ19_596 := by rw [hσ19_596]; exact kf_trans kσ21_594 (kf_lit (by decide))
            exact kp_some kσ19_596
          · refine kp_bn (kf_X12_some_B hL hR) (fun σ15_597 hσ15_597 => ?_)
            have kσ15_597 : KF σ σ15_597 := kf_trans kσ13_592 hσ15_597
            refine kp_bn (kf_X12_must hL) (fun σ16_598 hσ16_598 => ?_)
            have kσ16_598 : KF σ σ16_598 := kf_trans kσ15_597 hσ16_598
            unfold F_X12_factor_B_101
            refine kp_nm (fun x17_599 _ => ?_)
            refine kp_nm (fun σ19_600 hσ19_600 => ?_)
            have kσ19_600 : KF σ σ19_600 := by rw [hσ19_600]; exact kf_trans kσ16_598 (kf_lit (by decide))
            exact kp_some kσ19_600
        · unfold F_X12_factor_B_69
          refine kp_nm (fun x11_601 _ => ?_)
          refine kp_nm (fun σ13_602 hσ13_602 => ?_)
          have kσ13_602 : KF σ σ13_602 := by rw [hσ13_602]; exact kf_trans kσ9_590 (kf_lit (by decide))
          refine kp_if ?_ ?_
          · refine kp_bn (hR _) (fun σ20_603 hσ20_603 => ?_)
            have kσ20_603 : KF σ σ20_603 := kf_trans kσ13_602 hσ20_603
            refine kp_bn (kf_X12_emits hL) (fun σ21_604 hσ21_604 => ?_)
            have kσ21_604 : KF σ σ21_604 := kf_trans kσ20_603 hσ21_604
            unfold F_X12_factor_B_101
            refine kp_nm (fun x17_605 _ => ?_)
            refine kp_nm (fun σ19_606 hσ19_606 => ?_)
            have kσ19_606 : KF σ σ19_606 := by rw [hσ19_606]; exact kf_trans kσ21_604 (kf_lit (by decide))
            exact kp_some kσ19_606
          · refine kp_bn (kf_X12_some_B hL hR) (fun σ15_607 hσ15_607 => ?_)
            have kσ15_607 : KF σ σ15_607 := kf_trans kσ13_602 hσ15_607
            refine kp_bn (kf_X12_must hL) (fun σ16_608 hσ16_608 => ?_)
            have kσ16_608 : KF σ σ16_608 := kf_trans kσ15_607 hσ16_608
            unfold F_X12_factor_B_101
            refine kp_nm (fun x17_609 _ => ?_)
            refine kp_nm (fun σ19_610 hσ19_610 => ?_)
            have kσ19_610 : KF σ σ19_610 := by rw [hσ19_610]; exact kf_trans kσ16_608 (kf_lit (by decide))
            exact kp_some kσ19_610
    · refine kp_if ?_ ?_
      · unfold F_X12_factor_B_25
        refine kp_if ?_ ?_
        · unfold F_X12_factor_B_39
          refine kp_gd (fun _ => ?_)
          refine kp_nm (fun σ6_611 hσ6_611 => ?_)
          have kσ6_611 : KF σ σ6_611 := by rw [hσ6_611]; exact kf_trans (kf_refl _) (kf_lit (by decide))
          refine kp_nm (fun x7_612 _ => ?_)
          refine kp_nm (fun σ9_613 hσ9_613 => ?_)
          have kσ9_613 : KF σ σ9_613 := by rw [hσ9_613]; exact kf_trans kσ6_611 (kf_lit (by decide))
          refine kp_if ?_ ?_
          · unfold F_X12_factor_B_69
            refine kp_nm (fun x11_614 _ => ?_)
            refine kp_nm (fun σ13_615 hσ13_615 => ?_)
            have kσ13_615 : KF σ σ13_615 := by rw [hσ13_615]; exact kf_trans kσ9_613 (kf_lit (by decide))
            refine kp_if ?_ ?_
            · refine kp_bn (hR _) (fun σ20_616 hσ20_616 => ?_)
              have kσ20_616 : KF σ σ20_616 := kf_trans kσ13_615 hσ20_616
              refine kp_bn (kf_X12_emits hL) (fun σ21_617 hσ21_617 => ?_)
              have kσ21_617 : KF σ σ21_617 := kf_trans kσ20_616 hσ21_617
              unfold F_X12_factor_B_101
              refine kp_nm (fun x17_618 _ => ?_)
              refine kp_nm (fun σ19_619 hσ19_619 => ?_)
              have kσ19_619 : KF σ σ19_619 := by rw [hσ19_619]; exact kf_trans kσ21_617 (kf_lit (by decide))
              exact kp_some kσ19_619
            · refine kp_bn (kf_X12_some_B hL hR) (fun σ15_620 hσ15_620 => ?_)
              have kσ15_620 : KF σ σ15_620 := kf_trans kσ13_615 hσ15_620
              refine kp_bn (kf_X12_must hL) (fun σ16_621 hσ16_621 => ?_)
              have kσ16_621 : KF σ σ16_621 := kf_trans kσ15_620 hσ16_621
              unfold F_X12_factor_B_101
              refine kp_nm (fun x17_622 _ => ?_)
              refine kp_nm (fun σ19_623 hσ19_623 => ?_)
              have kσ19_623 : KF σ σ19_623 := by rw [hσ19_623]; exact kf_trans kσ16_621 (kf_lit (by decide))
              exact kp_some kσ19_623
          · unfold F_X12_factor_B_69
            refine kp_nm (fun x11_624 _ => ?_)
            refine kp_nm (fun σ13_625 hσ13_625 => ?_)
            have kσ13_625 : KF σ σ13_625 := by rw [hσ13_625]; exact kf_trans kσ9_613 (kf_lit (by decide))
            refine kp_if ?_ ?_
            · refine kp_bn (hR _) (fun σ20_626 hσ20_626 => ?_)
              have kσ20_626 : KF σ σ20_626 := kf_trans kσ13_625 hσ20_626
              refine kp_bn (kf_X12_emits hL) (fun σ21_627 hσ21_627 => ?_)
              have kσ21_627 : KF σ σ21_627 := kf_trans kσ20_626 hσ21_627
              unfold F_X12_factor_B_101
              refine kp_nm (fun x17_628 _ => ?_)
              refine kp_nm (fun σ19_629 hσ19_629 => ?_)
              have kσ19_629 : KF σ σ19_629 := by rw [hσ19_629]; exact kf_trans kσ21_627 (kf_lit (by decide))
              exact kp_some kσ19_629
            · refine kp_bn (kf_X12_some_B hL hR) (fun σ15_630 hσ15_630 => ?_)
              have kσ15_630 : KF σ σ15_630 := kf_trans kσ13_625 hσ15_630
              refine kp_bn (kf_X12_must hL) (fun σ16_631 hσ16_631 => ?_)
              have kσ16_631 : KF σ σ16_631 := kf_trans kσ15_630 hσ16_631
              unfold F_X12_factor_B_101
              refine kp_nm (fun x17_632 _ => ?_)
              refine kp_nm (fun σ19_633 hσ19_633 => ?_)
              have kσ19_633 : KF σ σ19_633 := by rw [hσ19_633]; exact kf_trans kσ16_631 (kf_lit (by decide))
              exact kp_some kσ19_633
        · unfold F_X12_factor_B_39
          refine kp_gd (fun _ => ?_)
          refine kp_nm (fun σ6_634 hσ6_634 => ?_)
          have kσ6_634 : KF σ σ6_634 := by rw [hσ6_634]; exact kf_trans (kf_refl _) (kf_lit (by decide))
          refine kp_nm (fun x7_635 _ => ?_)
          refine kp_nm (fun σ9_636 hσ9_636 => ?_)
          have kσ9_636 : KF σ σ9_636 := by rw [hσ9_636]; exact kf_trans kσ6_634 (kf_lit (by decide))
          refine kp_if ?_ ?_
          · unfold F_X12_factor_B_69
            refine kp_nm (fun x11_637 _ => ?_)
            refine kp_nm (fun σ13_638 hσ13_638 => ?_)
            have kσ13_638 : KF σ σ13_638 := by rw [hσ13_638]; exact kf_trans kσ9_636 (kf_lit (by decide))
            refine kp_if ?_ ?_
            · refine kp_bn (hR _) (fun σ20_639 hσ20_639 => ?_)
              have kσ20_639 : KF σ σ20_639 := kf_trans kσ13_638 hσ20_639
              refine kp_bn (kf_X12_emits hL) (fun σ21_640 hσ21_640 => ?_)
              have kσ21_640 : KF σ σ21_640 := kf_trans kσ20_639 hσ21_640
              unfold F_X12_factor_B_101
              refine kp_nm (fun x17_641 _ => ?_)
              refine kp_nm (fun σ19_642 hσ19_642 => ?_)
              have kσ19_642 : KF σ σ19_642 := by rw [hσ19_642]; exact kf_trans kσ21_640 (kf_lit (by decide))
              exact kp_some kσ19_642
            · refine kp_bn (kf_X12_some_B hL hR) (fun σ15_643 hσ15_643 => ?_)
              have kσ15_643 : KF σ σ15_643 := kf_trans kσ13_638 hσ15_643
              refine kp_bn (kf_X12_must hL) (fun σ16_644 hσ16_644 => ?_)
              have kσ16_644 : KF σ σ16_644 := kf_trans kσ15_643 hσ16_644
              unfold F_X12_factor_B_101
              refine kp_nm (fun x17_645 _ => ?_)
              refine kp_nm (fun σ19_646 hσ19_646 => ?_)
              have kσ19_646 : KF σ σ19_646 := by rw [hσ19_646]; exact kf_trans kσ16_644 (kf_lit (by decide))
              exact kp_some kσ19_646
          · unfold F_X12_factor_B_69
            refine kp_nm (fun x11_647 _ => ?_)
            refine kp_nm (fun σ13_648 hσ13_648 => ?_)
            have kσ13_648 : KF σ σ13_648 := by rw [hσ13_648]; exact kf_trans kσ9_636 (kf_lit (by decide))
            refine kp_if ?_ ?_
            · refine kp_bn (hR _) (fun σ20_649 hσ20_649 => ?_)
              have kσ20_649 : KF σ σ20_649 := kf_trans kσ13_648 hσ20_649
              refine kp_bn (kf_X12_emits hL) (fun σ21_650 hσ21_650 => ?_)
              have kσ21_650 : KF σ σ21_650 := kf_trans kσ20_649 hσ21_650
              unfold F_X12_factor_B_101
              refine kp_nm (fun x17_651 _ => ?_)
              refine kp_nm (fun σ19_652 hσ19_652 => ?_)
              have kσ19_652 : KF σ σ19_652 := by rw [hσ19_652]; exact kf_trans kσ21_650 (kf_lit (by decide))
              exact kp_some kσ19_652
            · refine kp_bn (kf_X12_some_B hL hR) (fun σ15_653 hσ15_653 => ?_)
              have kσ15_653 : KF σ σ15_653 := kf_trans kσ13_648 hσ15_653
              refine kp_bn (kf_X12_must hL) (fun σ16_654 hσ16_654 => ?_)
              have kσ16_654 : KF σ σ16_654 := kf_trans kσ15_653 hσ16_654
              unfold F_X12_factor_B_101
              refine kp_nm (fun x17_655 _ => ?_)
              refine kp_nm (fun σ19_656 hσ19_656 => ?_)
              have kσ19_656 : KF σ σ19_656 := by rw [hσ19_656]; exact kf_trans kσ16_654 (kf_lit (by decide))
              exact kp_some kσ19_656
      · refine kp_bn2 (kf_X12_among hL) (fun r23_657 σ23_658 hr23_657 => ?_)
        have kσ23_658 : KF σ σ23_658 := kf_trans (kf_refl _) hr23_657
        refine kp_if ?_ ?_
        · unfold F_X12_factor_B_130
          refine kp_gd (fun _ => ?_)
          refine kp_nm (fun σ26_665 hσ26_665 => ?_)
          have kσ26_665 : KF σ σ26_665 := by rw [hσ26_665]; exact kf_trans kσ23_658 (kf_lit (by decide))
          refine kp_if ?_ ?_
          · refine kp_bn2 (kf_X12_among hL) (fun r28_666 σ28_667 hr28_666 => ?_)
            have kσ28_667 : KF σ σ28_667 := kf_trans kσ26_665 hr28_666
            unfold F_X12_factor_B_150
            refine kp_if ?_ ?_
            · refine kp_if ?_ ?_
              · unfold F_X12_factor_B_164
                unfold F_X12_factor_B_169
                refine kp_gd (fun _ => ?_)
                refine kp_nm (fun σ31_668 hσ31_668 => ?_)
                have kσ31_668 : KF σ σ31_668 := by rw [hσ31_668]; exact kf_trans kσ28_667 (kf_lit (by decide))
                refine kp_bn2 (kf_X12_figures hL) (fun r32_669 σ32_670 hr32_669 => ?_)
                have kσ32_670 : KF σ σ32_670 := kf_trans kσ31_668 hr32_669
                refine kp_nm (fun x33_671 _ => ?_)
                refine kp_nm (fun x34_672 _ => ?_)
                refine kp_nm (fun x35_673 _ => ?_)
                refine kp_nm (fun x36_674 _ => ?_)
                refine kp_bn (kf_X12_emits hL) (fun σ37_675 hσ37_675 => ?_)
                have kσ37_675 : KF σ σ37_675 := kf_trans kσ32_670 hσ37_675
                exact kp_some kσ37_675
              · unfold F_X12_factor_B_169
                refine kp_gd (fun _ => ?_)
                refine kp_nm (fun σ31_676 hσ31_676 => ?_)
                have kσ31_676 : KF σ σ31_676 := by rw [hσ31_676]; exact kf_trans kσ28_667 (kf_lit (by decide))
                refine kp_bn2 (kf_X12_figures hL) (fun r32_677 σ32_678 hr32_677 => ?_)
                have kσ32_678 : KF σ σ32_678 := kf_trans kσ31_676 hr32_677
                refine kp_nm (fun x33_679 _ => ?_)
                refine kp_nm (fun x34_680 _ => ?_)
                refine kp_nm (fun x35_681 _ => ?_)
                refine kp_nm (fun x36_682 _ => ?_)
                refine kp_bn (kf_X12_emits hL) (fun σ37_683 hσ37_683 => ?_)
                have kσ37_683 : KF σ σ37_683 := kf_trans kσ32_678 hσ37_683
                exact kp_some kσ37_683
            · unfold F_X12_factor_B_164
              unfold F_X12_factor_B_169
              refine kp_gd (fun _ => ?_)
              refine kp_nm (fun σ31_684 hσ31_684 => ?_)
              have kσ31_684 : KF σ σ31_684 := by rw [hσ31_684]; exact kf_trans kσ28_667 (kf_lit (by decide))
              refine kp_bn2 (kf_X12_figures hL) (fun r32_685 σ32_686 hr32_685 => ?_)
              have kσ32_686 : KF σ σ32_686 := kf_trans kσ31_684 hr32_685
              refine kp_nm (fun x33_687 _ => ?_)
              refine kp_nm (fun x34_688 _ => ?_)
              refine kp_nm (fun x35_689 _ => ?_)
              refine kp_nm (fun x36_690 _ => ?_)
              refine kp_bn (kf_X12_emits hL) (fun σ37_691 hσ37_691 => ?_)
              have kσ37_691 : KF σ σ37_691 := kf_trans kσ32_686 hσ37_691
              exact kp_some kσ37_691
          · unfold F_X12_factor_B_150
            refine kp_if ?_ ?_
            · refine kp_if ?_ ?_
              · unfold F_X12_factor_B_164
                unfold F_X12_factor_B_169
                refine kp_gd (fun _ => ?_)
                refine kp_nm (fun σ31_692 hσ31_692 => ?_)
                have kσ31_692 : KF σ σ31_692 := by rw [hσ31_692]; exact kf_trans kσ26_665 (kf_lit (by decide))
                refine kp_bn2 (kf_X12_figures hL) (fun r32_693 σ32_694 hr32_693 => ?_)
                have kσ32_694 : KF σ σ32_694 := kf_trans kσ31_692 hr32_693
                refine kp_nm (fun x33_695 _ => ?_)
                refine kp_nm (fun x34_696 _ => ?_)
                refine kp_nm (fun x35_697 _ => ?_)
                refine kp_nm (fun x36_698 _ => ?_)
                refine kp_bn (kf_X12_emits hL) (fun σ37_699 hσ37_699 => ?_)
                have kσ37_699 : KF σ σ37_699 := kf_trans kσ32_694 hσ37_699
                exact kp_some kσ37_699
              · unfold F_X12_factor_B_169
                refine kp_gd (fun _ => ?_)
                refine kp_nm (fun σ31_700 hσ31_700 => ?_)
                have kσ31_700 : KF σ σ31_700 := by rw [hσ31_700]; exact kf_trans kσ26_665 (kf_lit (by decide))
                refine kp_bn2 (kf_X12_figures hL) (fun r32_701 σ32_702 hr32_701 => ?_)
                have kσ32_702 : KF σ σ32_702 := kf_trans kσ31_700 hr32_701
                refine kp_nm (fun x33_703 _ => ?_)
                refine kp_nm (fun x34_704 _ => ?_)
                refine kp_nm (fun x35_705 _ => ?_)
                refine kp_nm (fun x36_706 _ => ?_)
                refine kp_bn (kf_X12_emits hL) (fun σ37_707 hσ37_707 => ?_)
                have kσ37_707 : KF σ σ37_707 := kf_trans kσ32_702 hσ37_707
                exact kp_some kσ37_707
            · unfold F_X12_factor_B_164
              unfold F_X12_factor_B_169
              refine kp_gd (fun _ => ?_)
              refine kp_nm (fun σ31_708 hσ31_708 => ?_)
              have kσ31_708 : KF σ σ31_708 := by rw [hσ31_708]; exact kf_trans kσ26_665 (kf_lit (by decide))
              refine kp_bn2 (kf_X12_figures hL) (fun r32_709 σ32_710 hr32_709 => ?_)
              have kσ32_710 : KF σ σ32_710 := kf_trans kσ31_708 hr32_709
              refine kp_nm (fun x33_711 _ => ?_)
              refine kp_nm (fun x34_712 _ => ?_)
              refine kp_nm (fun x35_713 _ => ?_)
              refine kp_nm (fun x36_714 _ => ?_)
              refine kp_bn (kf_X12_emits hL) (fun σ37_715 hσ37_715 => ?_)
              have kσ37_715 : KF σ σ37_715 := kf_trans kσ32_710 hσ37_715
              exact kp_some kσ37_715
        · unfold F_X12_factor_B_130
          refine kp_gd (fun _ => ?_)
          refine kp_nm (fun σ26_716 hσ26_716 => ?_)
          have kσ26_716 : KF σ σ26_716 := by rw [hσ26_716]; exact kf_trans kσ23_658 (kf_lit (by decide))
          refine kp_if ?_ ?_
          · refine kp_bn2 (kf_X12_among hL) (fun r28_717 σ28_718 hr28_717 => ?_)
            have kσ28_718 : KF σ σ28_718 := kf_trans kσ26_716 hr28_717
            unfold F_X12_factor_B_150
            refine kp_if ?_ ?_
            · refine kp_if ?_ ?_
              · unfold F_X12_factor_B_164
                unfold F_X12_factor_B_169
                refine kp_gd (fun _ => ?_)
                refine kp_nm (fun σ31_719 hσ31_719 => ?_)
                have kσ31_719 : KF σ σ31_719 := by rw [hσ31_719]; exact kf_trans kσ28_718 (kf_lit (by decide))
                refine kp_bn2 (kf_X12_figures hL) (fun r32_720 σ32_721 hr32_720 => ?_)
                have kσ32_721 : KF σ σ32_721 := kf_trans kσ31_719 hr32_720
                refine kp_nm (fun x33_722 _ => ?_)
                refine kp_nm (fun x34_723 _ => ?_)
                refine kp_nm (fun x35_724 _ => ?_)
                refine kp_nm (fun x36_725 _ => ?_)
                refine kp_bn (kf_X12_emits hL) (fun σ37_726 hσ37_726 => ?_)
                have kσ37_726 : KF σ σ37_726 := kf_trans kσ32_721 hσ37_726
                exact kp_some kσ37_726
              · unfold F_X12_factor_B_169
                refine kp_gd (fun _ => ?_)
                refine kp_nm (fun σ31_727 hσ31_727 => ?_)
                have kσ31_727 : KF σ σ31_727 := by rw [hσ31_727]; exact kf_trans kσ28_718 (kf_lit (by decide))
                refine kp_bn2 (kf_X12_figures hL) (fun r32_728 σ32_729 hr32_728 => ?_)
                have kσ32_729 : KF σ σ32_729 := kf_trans kσ31_727 hr32_728
                refine kp_nm (fun x33_730 _ => ?_)
                refine kp_nm (fun x34_731 _ => ?_)
                refine kp_nm (fun x35_732 _ => ?_)
                refine kp_nm (fun x36_733 _ => ?_)
                refine kp_bn (kf_X12_emits hL) (fun σ37_734 hσ37_734 => ?_)
                have kσ37_734 : KF σ σ37_734 := kf_trans kσ32_729 hσ37_734
                exact kp_some kσ37_734
            · unfold F_X12_factor_B_164
              unfold F_X12_factor_B_169
              refine kp_gd (fun _ => ?_)
              refine kp_nm (fun σ31_735 hσ31_735 => ?_)
              have kσ31_735 : KF σ σ31_735 := by rw [hσ31_735]; exact kf_trans kσ28_718 (kf_lit (by decide))
              refine kp_bn2 (kf_X12_figures hL) (fun r32_736 σ32_737 hr32_736 => ?_)
              have kσ32_737 : KF σ σ32_737 := kf_trans kσ31_735 hr32_736
              refine kp_nm (fun x33_738 _ => ?_)
              refine kp_nm (fun x34_739 _ => ?_)
              refine kp_nm (fun x35_740 _ => ?_)
              refine kp_nm (fun x36_741 _ => ?_)
              refine kp_bn (kf_X12_emits hL) (fun σ37_742 hσ37_742 => ?_)
              have kσ37_742 : KF σ σ37_742 := kf_trans kσ32_737 hσ37_742
              exact kp_some kσ37_742
          · unfold F_X12_factor_B_150
            refine kp_if ?_ ?_
            · refine kp_if ?_ ?_
              · unfold F_X12_factor_B_164
                unfold F_X12_factor_B_169
                refine kp_gd (fun _ => ?_)
                refine kp_nm (fun σ31_743 hσ31_743 => ?_)
                have kσ31_743 : KF σ σ31_743 := by rw [hσ31_743]; exact kf_trans kσ26_716 (kf_lit (by decide))
                refine kp_bn2 (kf_X12_figures hL) (fun r32_744 σ32_745 hr32_744 => ?_)
                have kσ32_745 : KF σ σ32_745 := kf_trans kσ31_743 hr32_744
                refine kp_nm (fun x33_746 _ => ?_)
                refine kp_nm (fun x34_747 _ => ?_)
                refine kp_nm (fun x35_748 _ => ?_)
                refine kp_nm (fun x36_749 _ => ?_)
                refine kp_bn (kf_X12_emits hL) (fun σ37_750 hσ37_750 => ?_)
                have kσ37_750 : KF σ σ37_750 := kf_trans kσ32_745 hσ37_750
                exact kp_some kσ37_750
              · unfold F_X12_factor_B_169
                refine kp_gd (fun _ => ?_)
                refine kp_nm (fun σ31_751 hσ31_751 => ?_)
                have kσ31_751 : KF σ σ31_751 := by rw [hσ31_751]; exact kf_trans kσ26_716 (kf_lit (by decide))
                refine kp_bn2 (kf_X12_figures hL) (fun r32_752 σ32_753 hr32_752 => ?_)
                have kσ32_753 : KF σ σ32_753 := kf_trans kσ31_751 hr32_752
                refine kp_nm (fun x33_754 _ => ?_)
                refine kp_nm (fun x34_755 _ => ?_)
                refine kp_nm (fun x35_756 _ => ?_)
                refine kp_nm (fun x36_757 _ => ?_)
                refine kp_bn (kf_X12_emits hL) (fun σ37_758 hσ37_758 => ?_)
                have kσ37_758 : KF σ σ37_758 := kf_trans kσ32_753 hσ37_758
                exact kp_some kσ37_758
            · unfold F_X12_factor_B_164
              unfold F_X12_factor_B_169
              refine kp_gd (fun _ => ?_)
              refine kp_nm (fun σ31_759 hσ31_759 => ?_)
              have kσ31_759 : KF σ σ31_759 := by rw [hσ31_759]; exact kf_trans kσ26_716 (kf_lit (by decide))
              refine kp_bn2 (kf_X12_figures hL) (fun r32_760 σ32_761 hr32_760 => ?_)
              have kσ32_761 : KF σ σ32_761 := kf_trans kσ31_759 hr32_760
              refine kp_nm (fun x33_762 _ => ?_)
              refine kp_nm (fun x34_763 _ => ?_)
              refine kp_nm (fun x35_764 _ => ?_)
              refine kp_nm (fun x36_765 _ => ?_)
              refine kp_bn (kf_X12_emits hL) (fun σ37_766 hσ37_766 => ?_)
              have kσ37_766 : KF σ σ37_766 := kf_trans kσ32_761 hσ37_766
              exact kp_some kσ37_766
  · exact kp_some (kf_refl _)

theorem kf_X12_factor_R {N : Nat} {K len : Nat → Nat} {ρ : RG} (hL : Lay N K len ρ) : ∀ (d : Nat) (σ : SG), kp (F_X12_factor_R d σ ρ) (fun q => KF σ q) := by
  intro d
  induction d with
  | zero => intro σ; exact kp_none
  | succ d ih =>
    intro σ
    exact kf_X12_factor_B hL ih

theorem kf_X12_factor {N : Nat} {K len : Nat → Nat} {σ : SG} {ρ : RG} (hL : Lay N K len ρ) : kp (F_X12_factor σ ρ) (fun q => KF σ q) := kf_X12_factor_R hL _ _

set_option maxRecDepth 100000 in
theorem kf_X12_every_4 {N : Nat} {K len : Nat → Nat} {ρ : RG} (hL : Lay N K len ρ) : ∀ (n : Nat) (σ : SG), kp (F_X12_every_4 n σ ρ) (fun q => KF σ q) := by
  intro n
  induction n with
  | zero => intro σ; exact kp_none
  | succ n ih =>
    intro σ
    unfold F_X12_every_4
    refine kp_if ?_ ?_
    · refine kp_bx (fun r3_767 => ?_)
      refine kp_if ?_ ?_
      · refine kp_nm (fun x5_768 _ => ?_)
        refine kp_nm (fun σ7_769 hσ7_769 => ?_)
        have kσ7_769 : KF σ σ7_769 := by rw [hσ7_769]; exact kf_trans (kf_refl _) (kf_lit (by decide))
        refine kp_bn (kf_X12_factor hL) (fun σ8_770 hσ8_770 => ?_)
        have kσ8_770 : KF σ σ8_770 := kf_trans kσ7_769 hσ8_770
        refine kp_bn (kf_X12_emits hL) (fun σ9_771 hσ9_771 => ?_)
        have kσ9_771 : KF σ σ9_771 := kf_trans kσ8_770 hσ9_771
        exact kp_tr_kf (ih _) kσ9_771
      · exact kp_some (kf_refl _)
    · exact kp_some (kf_refl _)

set_option maxRecDepth 100000 in
theorem kf_X12_every {N : Nat} {K len : Nat → Nat} {σ : SG} {ρ : RG} (hL : Lay N K len ρ) : kp (F_X12_every σ ρ) (fun q => KF σ q) := by
  unfold F_X12_every
  refine kp_bn (kf_X12_factor hL) (fun σ1_543 hσ1_543 => ?_)
  have kσ1_543 : KF σ σ1_543 := kf_trans (kf_refl _) hσ1_543
  exact kp_tr_kf (kf_X12_every_4 hL 1024 _) kσ1_543

set_option maxRecDepth 100000 in
theorem kf_X12_some_4 {N : Nat} {K len : Nat → Nat} {ρ : RG} (hL : Lay N K len ρ) : ∀ (n : Nat) (σ : SG), kp (F_X12_some_4 n σ ρ) (fun q => KF σ q) := by
  intro n
  induction n with
  | zero => intro σ; exact kp_none
  | succ n ih =>
    intro σ
    unfold F_X12_some_4
    refine kp_if ?_ ?_
    · refine kp_bx (fun r3_772 => ?_)
      refine kp_if ?_ ?_
      · refine kp_nm (fun x5_773 _ => ?_)
        refine kp_nm (fun σ7_774 hσ7_774 => ?_)
        have kσ7_774 : KF σ σ7_774 := by rw [hσ7_774]; exact kf_trans (kf_refl _) (kf_lit (by decide))
        refine kp_bn (kf_X12_every hL) (fun σ8_775 hσ8_775 => ?_)
        have kσ8_775 : KF σ σ8_775 := kf_trans kσ7_774 hσ8_775
        refine kp_bn (kf_X12_emits hL) (fun σ9_776 hσ9_776 => ?_)
        have kσ9_776 : KF σ σ9_776 := kf_trans kσ8_775 hσ9_776
        exact kp_tr_kf (ih _) kσ9_776
      · exact kp_some (kf_refl _)
    · exact kp_some (kf_refl _)

set_option maxRecDepth 100000 in
theorem kf_X12_some {N : Nat} {K len : Nat → Nat} {σ : SG} {ρ : RG} (hL : Lay N K len ρ) : kp (F_X12_some σ ρ) (fun q => KF σ q) := by
  unfold F_X12_some
  refine kp_bn (kf_X12_every hL) (fun σ1_542 hσ1_542 => ?_)
  have kσ1_542 : KF σ σ1_542 := kf_trans (kf_refl _) hσ1_542
  exact kp_tr_kf (kf_X12_some_4 hL 1024 _) kσ1_542

set_option maxRecDepth 100000 in
theorem kf_X12_much {N : Nat} {K len : Nat → Nat} {a1 : Int32} {w : Nat} {σ : SG} {ρ : RG} (hL : Lay N K len ρ) : kp (F_X12_much a1 w σ ρ) (fun q => KF σ q) := by
  unfold F_X12_much
  refine kp_bn (kf_X12_spells hL) (fun σ1_537 hσ1_537 => ?_)
  have kσ1_537 : KF σ σ1_537 := kf_trans (kf_refl _) hσ1_537
  refine kp_bn2 (kf_X12_figures hL) (fun r2_538 σ2_539 hr2_538 => ?_)
  have kσ2_539 : KF σ σ2_539 := kf_trans kσ1_537 hr2_538
  refine kp_bn (kf_X12_must hL) (fun σ3_540 hσ3_540 => ?_)
  have kσ3_540 : KF σ σ3_540 := kf_trans kσ2_539 hσ3_540
  refine kp_bn (kf_X12_some hL) (fun σ4_541 hσ4_541 => ?_)
  have kσ4_541 : KF σ σ4_541 := kf_trans kσ3_540 hσ4_541
  refine kp_nm (fun x5_777 _ => ?_)
  refine kp_bn (kf_X12_emits hL) (fun σ6_778 hσ6_778 => ?_)
  have kσ6_778 : KF σ σ6_778 := kf_trans kσ4_541 hσ6_778
  exact kp_some kσ6_778

set_option maxRecDepth 100000 in
theorem kf_X12_clauseHere {N : Nat} {K len : Nat → Nat} {σ : SG} {ρ : RG} (hL : Lay N K len ρ) : kp (F_X12_clauseHere σ ρ) (fun q => KF σ q) := by
  unfold F_X12_clauseHere
  refine kp_bx (fun r1_488 => ?_)
  refine kp_if ?_ ?_
  · refine kp_bn (kf_X12_tellsHere hL) (fun σ3_489 hσ3_489 => ?_)
    have kσ3_489 : KF σ σ3_489 := kf_trans (kf_refl _) hσ3_489
    exact kp_some kσ3_489
  · refine kp_if ?_ ?_
    · refine kp_bn (kf_X12_much hL) (fun σ4_536 hσ4_536 => ?_)
      have kσ4_536 : KF σ σ4_536 := kf_trans (kf_refl _) hσ4_536
      exact kp_some kσ4_536
    · refine kp_if ?_ ?_
      · refine kp_bn (kf_X12_much hL) (fun σ5_779 hσ5_779 => ?_)
        have kσ5_779 : KF σ σ5_779 := kf_trans (kf_refl _) hσ5_779
        exact kp_some kσ5_779
      · refine kp_if ?_ ?_
        · refine kp_bn (kf_X12_tellsHere hL) (fun σ6_780 hσ6_780 => ?_)
          have kσ6_780 : KF σ σ6_780 := kf_trans (kf_refl _) hσ6_780
          exact kp_some kσ6_780
        · refine kp_nm (fun σ8_781 hσ8_781 => ?_)
          have kσ8_781 : KF σ σ8_781 := by rw [hσ8_781]; exact kf_trans (kf_refl _) (kf_lit (by decide))
          exact kp_some kσ8_781

set_option maxRecDepth 100000 in
theorem kf_X12_board_108 {N : Nat} {K len : Nat → Nat} {ρ : RG} (hL : Lay N K len ρ) : ∀ (n : Nat) (σ : SG) (v1 : Int32), kp (F_X12_board_108 n σ ρ v1) (fun q => KF σ q.2) := by
  intro n
  induction n with
  | zero => intro σ v1; exact kp_none
  | succ n ih =>
    intro σ v1
    unfold F_X12_board_108
    refine kp_if ?_ ?_
    · refine kp_if ?_ ?_
      · unfold F_X12_board_150
        refine kp_if ?_ ?_
        · refine kp_if ?_ ?_
          · refine kp_nm (fun x31_782 _ => ?_)
            refine kp_nm (fun σ33_783 hσ33_783 => ?_)
            have kσ33_783 : KF σ σ33_783 := by rw [hσ33_783]; exact kf_trans (kf_refl _) (kf_lit (by decide))
            refine kp_nm (fun σ35_784 hσ35_784 => ?_)
            have kσ35_784 : KF σ σ35_784 := by rw [hσ35_784]; exact kf_trans kσ33_783 (kf_lit (by decide))
            exact kp_some kσ35_784
          · refine kp_nm (fun x36_785 _ => ?_)
            exact kp_some (kf_refl _)
        · refine kp_nm (fun x29_786 _ => ?_)
          exact kp_some (kf_refl _)
      · refine kp_bx (fun r38_787 => ?_)
        refine kp_if ?_ ?_
        · refine kp_nm (fun x40_788 _ => ?_)
          refine kp_nm (fun σ42_789 hσ42_789 => ?_)
          have kσ42_789 : KF σ σ42_789 := by rw [hσ42_789]; exact kf_trans (kf_refl _) (kf_lit (by decide))
          refine kp_bn (kf_X12_clauseHere hL) (fun σ43_790 hσ43_790 => ?_)
          have kσ43_790 : KF σ σ43_790 := kf_trans kσ42_789 hσ43_790
          refine kp_nm (fun x44_791 _ => ?_)
          exact kp_tr2_kf (ih _ _) kσ43_790
        · unfold F_X12_board_150
          refine kp_if ?_ ?_
          · refine kp_if ?_ ?_
            · refine kp_nm (fun x31_792 _ => ?_)
              refine kp_nm (fun σ33_793 hσ33_793 => ?_)
              have kσ33_793 : KF σ σ33_793 := by rw [hσ33_793]; exact kf_trans (kf_refl _) (kf_lit (by decide))
              refine kp_nm (fun σ35_794 hσ35_794 => ?_)
              have kσ35_794 : KF σ σ35_794 := by rw [hσ35_794]; exact kf_trans kσ33_793 (kf_lit (by decide))
              exact kp_some kσ35_794
            · refine kp_nm (fun x36_795 _ => ?_)
              exact kp_some (kf_refl _)
          · refine kp_nm (fun x29_796 _ => ?_)
            exact kp_some (kf_refl _)
    · unfold F_X12_board_150
      refine kp_if ?_ ?_
      · refine kp_if ?_ ?_
        · refine kp_nm (fun x31_797 _ => ?_)
          refine kp_nm (fun σ33_798 hσ33_798 => ?_)
          have kσ33_798 : KF σ σ33_798 := by rw [hσ33_798]; exact kf_trans (kf_refl _) (kf_lit (by decide))
          refine kp_nm (fun σ35_799 hσ35_799 => ?_)
          have kσ35_799 : KF σ σ35_799 := by rw [hσ35_799]; exact kf_trans kσ33_798 (kf_lit (by decide))
          exact kp_some kσ35_799
        · refine kp_nm (fun x36_800 _ => ?_)
          exact kp_some (kf_refl _)
      · refine kp_nm (fun x29_801 _ => ?_)
        exact kp_some (kf_refl _)

set_option maxRecDepth 100000 in
theorem kf_X12_board {N : Nat} {K len : Nat → Nat} {σ : SG} {ρ : RG} (hL : Lay N K len ρ) : kp (F_X12_board σ ρ) (fun q => KF σ q.2) := by
  unfold F_X12_board
  refine kp_if ?_ ?_
  · exact kp_some (kf_refl _)
  · refine kp_nm (fun σ3_475 hσ3_475 => ?_)
    have kσ3_475 : KF σ σ3_475 := by rw [hσ3_475]; exact kf_trans (kf_refl _) (kf_lit (by decide))
    refine kp_nm (fun σ5_476 hσ5_476 => ?_)
    have kσ5_476 : KF σ σ5_476 := by rw [hσ5_476]; exact kf_trans kσ3_475 (kf_lit (by decide))
    refine kp_nm (fun σ7_477 hσ7_477 => ?_)
    have kσ7_477 : KF σ σ7_477 := by rw [hσ7_477]; exact kf_trans kσ5_476 (kf_lit (by decide))
    refine kp_nm (fun x8_478 _ => ?_)
    refine kp_gd (fun _ => ?_)
    refine kp_nm (fun σ11_479 hσ11_479 => ?_)
    have kσ11_479 : KF σ σ11_479 := by rw [hσ11_479]; exact kf_trans kσ7_477 (kf_row (by decide))
    refine kp_nm (fun x12_480 _ => ?_)
    refine kp_gd (fun _ => ?_)
    refine kp_nm (fun σ15_481 hσ15_481 => ?_)
    have kσ15_481 : KF σ σ15_481 := by rw [hσ15_481]; exact kf_trans kσ11_479 (kf_row (by decide))
    refine kp_nm (fun x16_482 _ => ?_)
    refine kp_gd (fun _ => ?_)
    refine kp_nm (fun σ19_483 hσ19_483 => ?_)
    have kσ19_483 : KF σ σ19_483 := by rw [hσ19_483]; exact kf_trans kσ15_481 (kf_row (by decide))
    refine kp_nm (fun σ21_484 hσ21_484 => ?_)
    have kσ21_484 : KF σ σ21_484 := by rw [hσ21_484]; exact kf_trans kσ19_483 (kf_lit (by decide))
    refine kp_nm (fun σ23_485 hσ23_485 => ?_)
    have kσ23_485 : KF σ σ23_485 := by rw [hσ23_485]; exact kf_trans kσ21_484 (kf_lit (by decide))
    refine kp_nm (fun σ25_486 hσ25_486 => ?_)
    have kσ25_486 : KF σ σ25_486 := by rw [hσ25_486]; exact kf_trans kσ23_485 (kf_lit (by decide))
    refine kp_bn (kf_X12_clauseHere hL) (fun σ26_487 hσ26_487 => ?_)
    have kσ26_487 : KF σ σ26_487 := kf_trans kσ25_486 hσ26_487
    exact kp_tr2_kf (kf_X12_board_108 hL 1024 _ _) kσ26_487

set_option maxRecDepth 100000 in
theorem kf_X12_ranBody {N : Nat} {K len : Nat → Nat} {a1 : Int32} {σ : SG} {ρ : RG} (hL : Lay N K len ρ) : kp (F_X12_ranBody a1 σ ρ) (fun q => KF σ q) := by
  unfold F_X12_ranBody
  refine kp_if ?_ ?_
  · unfold F_X12_ranBody_19
    refine kp_nm (fun x2_814 _ => ?_)
    refine kp_nm (fun σ4_815 hσ4_815 => ?_)
    have kσ4_815 : KF σ σ4_815 := by rw [hσ4_815]; exact kf_trans (kf_refl _) (kf_lit (by decide))
    exact kp_some kσ4_815
  · refine kp_gd (fun _ => ?_)
    refine kp_nm (fun σ7_816 hσ7_816 => ?_)
    have kσ7_816 : KF σ σ7_816 := by rw [hσ7_816]; exact kf_trans (kf_refl _) (kf_row (by decide))
    unfold F_X12_ranBody_19
    refine kp_nm (fun x2_817 _ => ?_)
    refine kp_nm (fun σ4_818 hσ4_818 => ?_)
    have kσ4_818 : KF σ σ4_818 := by rw [hσ4_818]; exact kf_trans kσ7_816 (kf_lit (by decide))
    exact kp_some kσ4_818

set_option maxRecDepth 100000 in
theorem kf_X12_plainCuts {N : Nat} {K len : Nat → Nat} {a1 : Int32} {σ : SG} {ρ : RG} (hL : Lay N K len ρ) : kp (F_X12_plainCuts a1 σ ρ) (fun q => KF σ q.2) := by
  unfold F_X12_plainCuts
  refine kp_bn (kf_X12_ranBody hL) (fun σ1_821 hσ1_821 => ?_)
  have kσ1_821 : KF σ σ1_821 := kf_trans (kf_refl _) hσ1_821
  refine kp_nm (fun x2_822 _ => ?_)
  exact kp_some kσ1_821

set_option maxRecDepth 100000 in
theorem kf_X12_cutsActs {N : Nat} {K len : Nat → Nat} {a1 : Int32} {σ : SG} {ρ : RG} (hL : Lay N K len ρ) : kp (F_X12_cutsActs a1 σ ρ) (fun q => KF σ q.2) := by
  unfold F_X12_cutsActs
  refine kp_bx (fun r1_812 => ?_)
  refine kp_if ?_ ?_
  · refine kp_if ?_ ?_
    · refine kp_bn (kf_X12_ranBody hL) (fun σ5_813 hσ5_813 => ?_)
      have kσ5_813 : KF σ σ5_813 := kf_trans (kf_refl _) hσ5_813
      refine kp_bn2 (kf_X12_plainCuts hL) (fun r6_819 σ6_820 hr6_819 => ?_)
      have kσ6_820 : KF σ σ6_820 := kf_trans kσ5_813 hr6_819
      refine kp_nm (fun x7_823 _ => ?_)
      exact kp_some kσ6_820
    · refine kp_bn2 (kf_X12_plainCuts hL) (fun r4_824 σ4_825 hr4_824 => ?_)
      have kσ4_825 : KF σ σ4_825 := kf_trans (kf_refl _) hr4_824
      exact kp_some kσ4_825
  · refine kp_bn (kf_X12_ranBody hL) (fun σ8_826 hσ8_826 => ?_)
    have kσ8_826 : KF σ σ8_826 := kf_trans (kf_refl _) hσ8_826
    refine kp_nm (fun x9_827 _ => ?_)
    refine kp_bn2 (kf_X12_plainCuts hL) (fun r10_828 σ10_829 hr10_828 => ?_)
    have kσ10_829 : KF σ σ10_829 := kf_trans kσ8_826 hr10_828
    exact kp_some kσ10_829

set_option maxRecDepth 100000 in
theorem kf_X12_plainEats {N : Nat} {K len : Nat → Nat} {a1 : Int32} {σ : SG} {ρ : RG} (hL : Lay N K len ρ) : kp (F_X12_plainEats a1 σ ρ) (fun q => KF σ q.2) := by
  unfold F_X12_plainEats
  refine kp_bn (kf_X12_ranBody hL) (fun σ1_836 hσ1_836 => ?_)
  have kσ1_836 : KF σ σ1_836 := kf_trans (kf_refl _) hσ1_836
  refine kp_bn2 (kf_X12_cutsActs hL) (fun r2_837 σ2_838 hr2_837 => ?_)
  have kσ2_838 : KF σ σ2_838 := kf_trans kσ1_836 hr2_837
  refine kp_nm (fun x3_839 _ => ?_)
  exact kp_some kσ2_838

set_option maxRecDepth 100000 in
theorem kf_X12_eatsActs {N : Nat} {K len : Nat → Nat} {a1 : Int32} {σ : SG} {ρ : RG} (hL : Lay N K len ρ) : kp (F_X12_eatsActs a1 σ ρ) (fun q => KF σ q.2) := by
  unfold F_X12_eatsActs
  refine kp_bx (fun r1_832 => ?_)
  refine kp_if ?_ ?_
  · refine kp_if ?_ ?_
    · refine kp_bn (kf_X12_ranBody hL) (fun σ5_833 hσ5_833 => ?_)
      have kσ5_833 : KF σ σ5_833 := kf_trans (kf_refl _) hσ5_833
      refine kp_bn2 (kf_X12_plainEats hL) (fun r6_834 σ6_835 hr6_834 => ?_)
      have kσ6_835 : KF σ σ6_835 := kf_trans kσ5_833 hr6_834
      refine kp_nm (fun x7_840 _ => ?_)
      exact kp_some kσ6_835
    · refine kp_bn2 (kf_X12_plainEats hL) (fun r4_841 σ4_842 hr4_841 => ?_)
      have kσ4_842 : KF σ σ4_842 := kf_trans (kf_refl _) hr4_841
      exact kp_some kσ4_842
  · refine kp_bn (kf_X12_ranBody hL) (fun σ8_843 hσ8_843 => ?_)
    have kσ8_843 : KF σ σ8_843 := kf_trans (kf_refl _) hσ8_843
    refine kp_bn2 (kf_X12_plainEats hL) (fun r9_844 σ9_845 hr9_844 => ?_)
    have kσ9_845 : KF σ σ9_845 := kf_trans kσ8_843 hr9_844
    refine kp_nm (fun x10_846 _ => ?_)
    exact kp_some kσ9_845

set_option maxRecDepth 100000 in
theorem kf_X12_plainTells {N : Nat} {K len : Nat → Nat} {a1 : Int32} {σ : SG} {ρ : RG} (hL : Lay N K len ρ) : kp (F_X12_plainTells a1 σ ρ) (fun q => KF σ q.2) := by
  unfold F_X12_plainTells
  refine kp_bn (kf_X12_ranBody hL) (fun σ1_854 hσ1_854 => ?_)
  have kσ1_854 : KF σ σ1_854 := kf_trans (kf_refl _) hσ1_854
  refine kp_bn2 (kf_X12_eatsActs hL) (fun r2_855 σ2_856 hr2_855 => ?_)
  have kσ2_856 : KF σ σ2_856 := kf_trans kσ1_854 hr2_855
  refine kp_nm (fun x3_857 _ => ?_)
  exact kp_some kσ2_856

set_option maxRecDepth 100000 in
theorem kf_X12_tellsActs {N : Nat} {K len : Nat → Nat} {a1 : Int32} {σ : SG} {ρ : RG} (hL : Lay N K len ρ) : kp (F_X12_tellsActs a1 σ ρ) (fun q => KF σ q.2) := by
  unfold F_X12_tellsActs
  refine kp_bx (fun r1_849 => ?_)
  refine kp_if ?_ ?_
  · refine kp_if ?_ ?_
    · refine kp_bn (kf_X12_ranBody hL) (fun σ5_850 hσ5_850 => ?_)
      have kσ5_850 : KF σ σ5_850 := kf_trans (kf_refl _) hσ5_850
      refine kp_nm (fun x6_851 _ => ?_)
      refine kp_bn2 (kf_X12_plainTells hL) (fun r7_852 σ7_853 hr7_852 => ?_)
      have kσ7_853 : KF σ σ7_853 := kf_trans kσ5_850 hr7_852
      refine kp_bn2 (kf_X12_cutsActs hL) (fun r8_858 σ8_859 hr8_858 => ?_)
      have kσ8_859 : KF σ σ8_859 := kf_trans kσ7_853 hr8_858
      refine kp_nm (fun x9_860 _ => ?_)
      exact kp_some kσ8_859
    · refine kp_bn2 (kf_X12_plainTells hL) (fun r4_861 σ4_862 hr4_861 => ?_)
      have kσ4_862 : KF σ σ4_862 := kf_trans (kf_refl _) hr4_861
      exact kp_some kσ4_862
  · refine kp_bn (kf_X12_ranBody hL) (fun σ10_863 hσ10_863 => ?_)
    have kσ10_863 : KF σ σ10_863 := kf_trans (kf_refl _) hσ10_863
    refine kp_bn2 (kf_X12_plainTells hL) (fun r11_864 σ11_865 hr11_864 => ?_)
    have kσ11_865 : KF σ σ11_865 := kf_trans kσ10_863 hr11_864
    refine kp_nm (fun x12_866 _ => ?_)
    exact kp_some kσ11_865

set_option maxRecDepth 100000 in
theorem kf_X12_act {N : Nat} {K len : Nat → Nat} {a1 : Int32} {a2 : Int32} {a3 : Int32} {σ : SG} {ρ : RG} (hL : Lay N K len ρ) : kp (F_X12_act a1 a2 a3 σ ρ) (fun q => KF σ q.2) := by
  unfold F_X12_act
  refine kp_nm (fun σ2_802 hσ2_802 => ?_)
  have kσ2_802 : KF σ σ2_802 := by rw [hσ2_802]; exact kf_trans (kf_refl _) (kf_lit (by decide))
  refine kp_bx (fun r3_803 => ?_)
  refine kp_if ?_ ?_
  · exact kp_some kσ2_802
  · refine kp_bx (fun r5_804 => ?_)
    refine kp_if ?_ ?_
    · exact kp_some kσ2_802
    · refine kp_nm (fun x7_805 _ => ?_)
      refine kp_gd (fun _ => ?_)
      refine kp_nm (fun σ10_806 hσ10_806 => ?_)
      have kσ10_806 : KF σ σ10_806 := by rw [hσ10_806]; exact kf_trans kσ2_802 (kf_lit (by decide))
      refine kp_nm (fun σ12_807 hσ12_807 => ?_)
      have kσ12_807 : KF σ σ12_807 := by rw [hσ12_807]; exact kf_trans kσ10_806 (kf_lit (by decide))
      refine kp_nm (fun x13_808 _ => ?_)
      refine kp_gd (fun _ => ?_)
      refine kp_nm (fun σ16_809 hσ16_809 => ?_)
      have kσ16_809 : KF σ σ16_809 := by rw [hσ16_809]; exact kf_trans kσ12_807 (kf_lit (by decide))
      refine kp_if ?_ ?_
      · refine kp_bn2 (kf_X12_cutsActs hL) (fun r21_810 σ21_811 hr21_810 => ?_)
        have kσ21_811 : KF σ σ21_811 := kf_trans kσ16_809 hr21_810
        exact kp_some kσ21_811
      · refine kp_if ?_ ?_
        · refine kp_bn2 (kf_X12_eatsActs hL) (fun r20_830 σ20_831 hr20_830 => ?_)
          have kσ20_831 : KF σ σ20_831 := kf_trans kσ16_809 hr20_830
          exact kp_some kσ20_831
        · refine kp_bn2 (kf_X12_tellsActs hL) (fun r19_847 σ19_848 hr19_847 => ?_)
          have kσ19_848 : KF σ σ19_848 := kf_trans kσ16_809 hr19_847
          exact kp_some kσ19_848

set_option maxRecDepth 100000 in
theorem kf_X12_cut {N : Nat} {K len : Nat → Nat} {a1 : Int32} {σ : SG} {ρ : RG} (hL : Lay N K len ρ) : kp (F_X12_cut a1 σ ρ) (fun q => KF σ q.2) := by
  unfold F_X12_cut
  refine kp_bx (fun r1_867 => ?_)
  refine kp_if ?_ ?_
  · exact kp_some (kf_refl _)
  · refine kp_if ?_ ?_
    · exact kp_some (kf_refl _)
    · refine kp_nm (fun x4_868 _ => ?_)
      refine kp_gd (fun _ => ?_)
      refine kp_bn2 (kf_X12_cuts hL) (fun r6_869 σ6_870 hr6_869 => ?_)
      have kσ6_870 : KF σ σ6_870 := kf_trans (kf_refl _) hr6_869
      refine kp_if ?_ ?_
      · exact kp_some kσ6_870
      · exact kp_some kσ6_870

set_option maxRecDepth 100000 in
theorem kf_X12_right {N : Nat} {K len : Nat → Nat} {σ : SG} {ρ : RG} (hL : Lay N K len ρ) : kp (F_X12_right σ ρ) (fun q => KF σ q.2) := by
  unfold F_X12_right
  refine kp_bx (fun r1_871 => ?_)
  refine kp_bx (fun r2_872 => ?_)
  refine kp_if ?_ ?_
  · refine kp_bn (kf_X12_rights hL) (fun σ4_873 hσ4_873 => ?_)
    have kσ4_873 : KF σ σ4_873 := kf_trans (kf_refl _) hσ4_873
    refine kp_nm (fun x5_874 _ => ?_)
    exact kp_some kσ4_873
  · exact kp_some (kf_refl _)

set_option maxRecDepth 100000 in
theorem kf_X12_turn {N : Nat} {K len : Nat → Nat} {a1 : Int32} {σ : SG} {ρ : RG} (hL : Lay N K len ρ) : kp (F_X12_turn a1 σ ρ) (fun q => KF σ q.2) := by
  unfold F_X12_turn
  refine kp_if ?_ ?_
  · unfold F_X12_turn_9
    refine kp_gd (fun _ => ?_)
    refine kp_nm (fun x3_875 _ => ?_)
    refine kp_gd (fun _ => ?_)
    refine kp_nm (fun σ6_876 hσ6_876 => ?_)
    have kσ6_876 : KF σ σ6_876 := by rw [hσ6_876]; exact kf_trans (kf_refl _) (kf_row (by decide))
    refine kp_gd (fun _ => ?_)
    exact kp_some kσ6_876
  · unfold F_X12_turn_9
    refine kp_gd (fun _ => ?_)
    refine kp_nm (fun x3_877 _ => ?_)
    refine kp_gd (fun _ => ?_)
    refine kp_nm (fun σ6_878 hσ6_878 => ?_)
    have kσ6_878 : KF σ σ6_878 := by rw [hσ6_878]; exact kf_trans (kf_refl _) (kf_row (by decide))
    refine kp_gd (fun _ => ?_)
    exact kp_some kσ6_878
