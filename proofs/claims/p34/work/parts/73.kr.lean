/-! PART 73.kr: printed by wip/gen/kp26.py -/
/-- what the reference's calls leave: the class, the image -/
def krP (r k : Nat) : Bool := Nat.blt r 54 || r == 56 || (r == 54 && k == 4) || Nat.blt 64 r
def krR (r : Nat) : Bool := Nat.blt r 54 || r == 56 || r == 54 || Nat.blt 64 r
def KR (σ σ' : SG) : Prop := ∀ r k, krP r k = true → σ' r k = σ r k
theorem kr_refl (σ : SG) : KR σ σ := fun _ _ _ => rfl
theorem kr_trans {σ σ1 σ2 : SG} (h : KR σ σ1) (h' : KR σ1 σ2) : KR σ σ2 := fun r k p => (h' r k p).trans (h r k p)
theorem kr_lit {σ : SG} {r k : Nat} {v : Int32} (h : krP r k = false) : KR σ (s2 σ r k v) := fun a b p => by
  rw [s2_at]
  by_cases e : a = r
  · by_cases e' : b = k
    · rw [e, e', h] at p; cases p
    · rw [if_pos e, if_neg e', e]
  · rw [if_neg e]
theorem kr_rows {r k : Nat} (h : krR r = false) : krP r k = false := by
  cases e : krP r k with
  | false => rfl
  | true =>
    exfalso
    simp only [krP, krR, Bool.or_eq_true, Bool.and_eq_true, Bool.or_eq_false_iff, beq_iff_eq, beq_eq_false_iff_ne] at e h
    obtain ⟨⟨⟨h1, h2⟩, h3⟩, h4⟩ := h
    rcases e with ((e | e) | ⟨e, -⟩) | e
    · rw [e] at h1; cases h1
    · exact h2 e
    · exact h3 e
    · rw [e] at h4; cases h4
theorem kr_row {σ : SG} {r k : Nat} {v : Int32} (h : krR r = false) : KR σ (s2 σ r k v) := kr_lit (kr_rows h)
theorem kr_cpy {σ : SG} {a r n : Nat} (h : krR r = false) : KR σ (cpy σ a r n) := fun x b p => by
  rw [cpy_at]
  by_cases e : x = r
  · rw [e, kr_rows h] at p; cases p
  · rw [if_neg e]
theorem kp_tr_kr {o : Option SG} {σ σ1 : SG} (h : kp o (fun q => KR σ1 q)) (k : KR σ σ1) : kp o (fun q => KR σ q) := kp_mono h (fun _ z => kr_trans k z)
theorem kp_tr2_kr {α : Type} {o : Option (α × SG)} {σ σ1 : SG} (h : kp o (fun q => KR σ1 q.2)) (k : KR σ σ1) : kp o (fun q => KR σ q.2) := kp_mono h (fun _ z => kr_trans k z)
theorem kp_tr3_kr {α β : Type} {o : Option (α × SG × β)} {σ σ1 : SG} (h : kp o (fun q => KR σ1 q.2.1)) (k : KR σ σ1) : kp o (fun q => KR σ q.2.1) := kp_mono h (fun _ z => kr_trans k z)
set_option maxRecDepth 100000 in
theorem kr_X12_feed {N : Nat} {K len : Nat → Nat} {a1 : Int32} {σ : SG} {ρ : RG} (hL : Lay N K len ρ) : kp (F_X12_feed a1 σ ρ) (fun q => KR σ q.2) := by
  unfold F_X12_feed
  refine kp_bx (fun r1_1 => ?_)
  refine kp_if ?_ ?_
  · exact kp_some (kr_refl _)
  · refine kp_if ?_ ?_
    · exact kp_some (kr_refl _)
    · refine kp_nm (fun x4_2 _ => ?_)
      refine kp_gd (fun _ => ?_)
      refine kp_nm (fun σ7_3 hσ7_3 => ?_)
      have kσ7_3 : KR σ σ7_3 := by rw [hσ7_3]; exact kr_trans (kr_refl _) (kr_row (by decide))
      refine kp_nm (fun x8_4 _ => ?_)
      refine kp_nm (fun σ10_5 hσ10_5 => ?_)
      have kσ10_5 : KR σ σ10_5 := by rw [hσ10_5]; exact kr_trans kσ7_3 (kr_lit (by decide))
      exact kp_some kσ10_5

set_option maxRecDepth 100000 in
theorem kr_X12_thick {N : Nat} {K len : Nat → Nat} {a1 : Int32} {a2 : Int32} {σ : SG} {ρ : RG} (hL : Lay N K len ρ) : kp (F_X12_thick a1 a2 σ ρ) (fun q => KR σ q.2) := by
  unfold F_X12_thick
  refine kp_bx (fun r1_6 => ?_)
  refine kp_if ?_ ?_
  · exact kp_some (kr_refl _)
  · refine kp_bx (fun r3_7 => ?_)
    refine kp_if ?_ ?_
    · exact kp_some (kr_refl _)
    · refine kp_nm (fun x5_8 _ => ?_)
      refine kp_gd (fun _ => ?_)
      refine kp_nm (fun x7_9 _ => ?_)
      refine kp_gd (fun _ => ?_)
      refine kp_nm (fun σ10_10 hσ10_10 => ?_)
      have kσ10_10 : KR σ σ10_10 := by rw [hσ10_10]; exact kr_trans (kr_refl _) (kr_row (by decide))
      exact kp_some kσ10_10

set_option maxRecDepth 100000 in
theorem kr_X12_row {N : Nat} {K len : Nat → Nat} {a1 : Int32} {a2 : Int32} {a3 : Int32} {σ : SG} {ρ : RG} (hL : Lay N K len ρ) : kp (F_X12_row a1 a2 a3 σ ρ) (fun q => KR σ q.2) := by
  unfold F_X12_row
  refine kp_bx (fun r1_11 => ?_)
  refine kp_if ?_ ?_
  · exact kp_some (kr_refl _)
  · refine kp_bx (fun r3_12 => ?_)
    refine kp_if ?_ ?_
    · exact kp_some (kr_refl _)
    · refine kp_bx (fun r5_13 => ?_)
      refine kp_if ?_ ?_
      · exact kp_some (kr_refl _)
      · refine kp_nm (fun x7_14 _ => ?_)
        refine kp_gd (fun _ => ?_)
        refine kp_if ?_ ?_
        · refine kp_nm (fun x10_15 _ => ?_)
          refine kp_nm (fun x11_16 _ => ?_)
          refine kp_nm (fun x12_17 _ => ?_)
          refine kp_gd (fun _ => ?_)
          refine kp_nm (fun x14_18 _ => ?_)
          refine kp_nm (fun x15_19 _ => ?_)
          refine kp_nm (fun x16_20 _ => ?_)
          refine kp_gd (fun _ => ?_)
          refine kp_nm (fun σ19_21 hσ19_21 => ?_)
          have kσ19_21 : KR σ σ19_21 := by rw [hσ19_21]; exact kr_trans (kr_refl _) (kr_row (by decide))
          exact kp_some kσ19_21
        · exact kp_some (kr_refl _)

set_option maxRecDepth 100000 in
theorem kr_X12_loaf {N : Nat} {K len : Nat → Nat} {a1 : Int32} {σ : SG} {ρ : RG} (hL : Lay N K len ρ) : kp (F_X12_loaf a1 σ ρ) (fun q => KR σ q.2) := by
  unfold F_X12_loaf
  refine kp_bx (fun r1_22 => ?_)
  refine kp_if ?_ ?_
  · exact kp_some (kr_refl _)
  · refine kp_nm (fun σ4_23 hσ4_23 => ?_)
    have kσ4_23 : KR σ σ4_23 := by rw [hσ4_23]; exact kr_trans (kr_refl _) (kr_lit (by decide))
    refine kp_nm (fun σ6_24 hσ6_24 => ?_)
    have kσ6_24 : KR σ σ6_24 := by rw [hσ6_24]; exact kr_trans kσ4_23 (kr_lit (by decide))
    refine kp_nm (fun σ8_25 hσ8_25 => ?_)
    have kσ8_25 : KR σ σ8_25 := by rw [hσ8_25]; exact kr_trans kσ6_24 (kr_lit (by decide))
    refine kp_nm (fun σ10_26 hσ10_26 => ?_)
    have kσ10_26 : KR σ σ10_26 := by rw [hσ10_26]; exact kr_trans kσ8_25 (kr_lit (by decide))
    refine kp_nm (fun σ12_27 hσ12_27 => ?_)
    have kσ12_27 : KR σ σ12_27 := by rw [hσ12_27]; exact kr_trans kσ10_26 (kr_lit (by decide))
    refine kp_nm (fun σ14_28 hσ14_28 => ?_)
    have kσ14_28 : KR σ σ14_28 := by rw [hσ14_28]; exact kr_trans kσ12_27 (kr_lit (by decide))
    exact kp_some kσ14_28

set_option maxRecDepth 100000 in
theorem kr_X12_looks_117 {N : Nat} {K len : Nat → Nat} {a1 : Int32} {a2 : Int32} {ρ : RG} (hL : Lay N K len ρ) : ∀ (n : Nat) (σ : SG) (v3 : Int32) (v4 : Int32) (v5 : Int32) (v6 : Int32), kp (F_X12_looks_117 a1 a2 n σ ρ v3 v4 v5 v6) (fun q => KR σ q) := by
  intro n
  induction n with
  | zero => intro σ v3 v4 v5 v6; exact kp_none
  | succ n ih =>
    intro σ v3 v4 v5 v6
    unfold F_X12_looks_117
    refine kp_nm (fun x25_49 _ => ?_)
    refine kp_if ?_ ?_
    · exact kp_some (kr_refl _)
    · refine kp_gd (fun _ => ?_)
      refine kp_if ?_ ?_
      · refine kp_if ?_ ?_
        · refine kp_nm (fun x60_50 _ => ?_)
          refine kp_nm (fun x61_51 _ => ?_)
          refine kp_gd (fun _ => ?_)
          refine kp_if ?_ ?_
          · unfold F_X12_looks_265
            refine kp_gd (fun _ => ?_)
            refine kp_gd (fun _ => ?_)
            refine kp_nm (fun σ66_52 hσ66_52 => ?_)
            have kσ66_52 : KR σ σ66_52 := by rw [hσ66_52]; exact kr_trans (kr_refl _) (kr_row (by decide))
            unfold F_X12_looks_429
            refine kp_nm (fun x39_53 _ => ?_)
            exact kp_tr_kr (ih _ _ _ _ _) kσ66_52
          · unfold F_X12_looks_265
            refine kp_gd (fun _ => ?_)
            refine kp_gd (fun _ => ?_)
            refine kp_nm (fun σ66_54 hσ66_54 => ?_)
            have kσ66_54 : KR σ σ66_54 := by rw [hσ66_54]; exact kr_trans (kr_refl _) (kr_row (by decide))
            unfold F_X12_looks_429
            refine kp_nm (fun x39_55 _ => ?_)
            exact kp_tr_kr (ih _ _ _ _ _) kσ66_54
        · refine kp_if ?_ ?_
          · refine kp_if ?_ ?_
            · unfold F_X12_looks_392
              unfold F_X12_looks_393
              refine kp_nm (fun x32_56 _ => ?_)
              refine kp_nm (fun σ34_57 hσ34_57 => ?_)
              have kσ34_57 : KR σ σ34_57 := by rw [hσ34_57]; exact kr_trans (kr_refl _) (kr_lit (by decide))
              refine kp_if ?_ ?_
              · unfold F_X12_looks_424
                unfold F_X12_looks_425
                refine kp_nm (fun x36_58 _ => ?_)
                refine kp_nm (fun σ38_59 hσ38_59 => ?_)
                have kσ38_59 : KR σ σ38_59 := by rw [hσ38_59]; exact kr_trans kσ34_57 (kr_lit (by decide))
                unfold F_X12_looks_429
                refine kp_nm (fun x39_60 _ => ?_)
                exact kp_tr_kr (ih _ _ _ _ _) kσ38_59
              · refine kp_if ?_ ?_
                · unfold F_X12_looks_424
                  unfold F_X12_looks_425
                  refine kp_nm (fun x36_61 _ => ?_)
                  refine kp_nm (fun σ38_62 hσ38_62 => ?_)
                  have kσ38_62 : KR σ σ38_62 := by rw [hσ38_62]; exact kr_trans kσ34_57 (kr_lit (by decide))
                  unfold F_X12_looks_429
                  refine kp_nm (fun x39_63 _ => ?_)
                  exact kp_tr_kr (ih _ _ _ _ _) kσ38_62
                · refine kp_nm (fun x41_64 _ => ?_)
                  unfold F_X12_looks_425
                  refine kp_nm (fun x36_65 _ => ?_)
                  refine kp_nm (fun σ38_66 hσ38_66 => ?_)
                  have kσ38_66 : KR σ σ38_66 := by rw [hσ38_66]; exact kr_trans kσ34_57 (kr_lit (by decide))
                  unfold F_X12_looks_429
                  refine kp_nm (fun x39_67 _ => ?_)
                  exact kp_tr_kr (ih _ _ _ _ _) kσ38_66
            · refine kp_if ?_ ?_
              · unfold F_X12_looks_392
                unfold F_X12_looks_393
                refine kp_nm (fun x32_68 _ => ?_)
                refine kp_nm (fun σ34_69 hσ34_69 => ?_)
                have kσ34_69 : KR σ σ34_69 := by rw [hσ34_69]; exact kr_trans (kr_refl _) (kr_lit (by decide))
                refine kp_if ?_ ?_
                · unfold F_X12_looks_424
                  unfold F_X12_looks_425
                  refine kp_nm (fun x36_70 _ => ?_)
                  refine kp_nm (fun σ38_71 hσ38_71 => ?_)
                  have kσ38_71 : KR σ σ38_71 := by rw [hσ38_71]; exact kr_trans kσ34_69 (kr_lit (by decide))
                  unfold F_X12_looks_429
                  refine kp_nm (fun x39_72 _ => ?_)
                  exact kp_tr_kr (ih _ _ _ _ _) kσ38_71
                · refine kp_if ?_ ?_
                  · unfold F_X12_looks_424
                    unfold F_X12_looks_425
                    refine kp_nm (fun x36_73 _ => ?_)
                    refine kp_nm (fun σ38_74 hσ38_74 => ?_)
                    have kσ38_74 : KR σ σ38_74 := by rw [hσ38_74]; exact kr_trans kσ34_69 (kr_lit (by decide))
                    unfold F_X12_looks_429
                    refine kp_nm (fun x39_75 _ => ?_)
                    exact kp_tr_kr (ih _ _ _ _ _) kσ38_74
                  · refine kp_nm (fun x41_76 _ => ?_)
                    unfold F_X12_looks_425
                    refine kp_nm (fun x36_77 _ => ?_)
                    refine kp_nm (fun σ38_78 hσ38_78 => ?_)
                    have kσ38_78 : KR σ σ38_78 := by rw [hσ38_78]; exact kr_trans kσ34_69 (kr_lit (by decide))
                    unfold F_X12_looks_429
                    refine kp_nm (fun x39_79 _ => ?_)
                    exact kp_tr_kr (ih _ _ _ _ _) kσ38_78
              · refine kp_nm (fun x43_80 _ => ?_)
                unfold F_X12_looks_393
                refine kp_nm (fun x32_81 _ => ?_)
                refine kp_nm (fun σ34_82 hσ34_82 => ?_)
                have kσ34_82 : KR σ σ34_82 := by rw [hσ34_82]; exact kr_trans (kr_refl _) (kr_lit (by decide))
                refine kp_if ?_ ?_
                · unfold F_X12_looks_424
                  unfold F_X12_looks_425
                  refine kp_nm (fun x36_83 _ => ?_)
                  refine kp_nm (fun σ38_84 hσ38_84 => ?_)
                  have kσ38_84 : KR σ σ38_84 := by rw [hσ38_84]; exact kr_trans kσ34_82 (kr_lit (by decide))
                  unfold F_X12_looks_429
                  refine kp_nm (fun x39_85 _ => ?_)
                  exact kp_tr_kr (ih _ _ _ _ _) kσ38_84
                · refine kp_if ?_ ?_
                  · unfold F_X12_looks_424
                    unfold F_X12_looks_425
                    refine kp_nm (fun x36_86 _ => ?_)
                    refine kp_nm (fun σ38_87 hσ38_87 => ?_)
                    have kσ38_87 : KR σ σ38_87 := by rw [hσ38_87]; exact kr_trans kσ34_82 (kr_lit (by decide))
                    unfold F_X12_looks_429
                    refine kp_nm (fun x39_88 _ => ?_)
                    exact kp_tr_kr (ih _ _ _ _ _) kσ38_87
                  · refine kp_nm (fun x41_89 _ => ?_)
                    unfold F_X12_looks_425
                    refine kp_nm (fun x36_90 _ => ?_)
                    refine kp_nm (fun σ38_91 hσ38_91 => ?_)
                    have kσ38_91 : KR σ σ38_91 := by rw [hσ38_91]; exact kr_trans kσ34_82 (kr_lit (by decide))
                    unfold F_X12_looks_429
                    refine kp_nm (fun x39_92 _ => ?_)
                    exact kp_tr_kr (ih _ _ _ _ _) kσ38_91
          · refine kp_nm (fun x44_93 _ => ?_)
            refine kp_nm (fun x45_94 _ => ?_)
            refine kp_if ?_ ?_
            · refine kp_nm (fun x55_95 _ => ?_)
              refine kp_gd (fun _ => ?_)
              refine kp_if ?_ ?_
              · unfold F_X12_looks_320
                unfold F_X12_looks_351
                refine kp_gd (fun _ => ?_)
                refine kp_gd (fun _ => ?_)
                refine kp_nm (fun σ52_96 hσ52_96 => ?_)
                have kσ52_96 : KR σ σ52_96 := by rw [hσ52_96]; exact kr_trans (kr_refl _) (kr_row (by decide))
                unfold F_X12_looks_429
                refine kp_nm (fun x39_97 _ => ?_)
                exact kp_tr_kr (ih _ _ _ _ _) kσ52_96
              · refine kp_gd (fun _ => ?_)
                refine kp_if ?_ ?_
                · unfold F_X12_looks_320
                  unfold F_X12_looks_351
                  refine kp_gd (fun _ => ?_)
                  refine kp_gd (fun _ => ?_)
                  refine kp_nm (fun σ52_98 hσ52_98 => ?_)
                  have kσ52_98 : KR σ σ52_98 := by rw [hσ52_98]; exact kr_trans (kr_refl _) (kr_row (by decide))
                  unfold F_X12_looks_429
                  refine kp_nm (fun x39_99 _ => ?_)
                  exact kp_tr_kr (ih _ _ _ _ _) kσ52_98
                · unfold F_X12_looks_351
                  refine kp_gd (fun _ => ?_)
                  refine kp_gd (fun _ => ?_)
                  refine kp_nm (fun σ52_100 hσ52_100 => ?_)
                  have kσ52_100 : KR σ σ52_100 := by rw [hσ52_100]; exact kr_trans (kr_refl _) (kr_row (by decide))
                  unfold F_X12_looks_429
                  refine kp_nm (fun x39_101 _ => ?_)
                  exact kp_tr_kr (ih _ _ _ _ _) kσ52_100
            · refine kp_nm (fun x47_102 _ => ?_)
              refine kp_gd (fun _ => ?_)
              refine kp_if ?_ ?_
              · refine kp_gd (fun _ => ?_)
                refine kp_if ?_ ?_
                · unfold F_X12_looks_351
                  refine kp_gd (fun _ => ?_)
                  refine kp_gd (fun _ => ?_)
                  refine kp_nm (fun σ52_103 hσ52_103 => ?_)
                  have kσ52_103 : KR σ σ52_103 := by rw [hσ52_103]; exact kr_trans (kr_refl _) (kr_row (by decide))
                  unfold F_X12_looks_429
                  refine kp_nm (fun x39_104 _ => ?_)
                  exact kp_tr_kr (ih _ _ _ _ _) kσ52_103
                · unfold F_X12_looks_346
                  unfold F_X12_looks_351
                  refine kp_gd (fun _ => ?_)
                  refine kp_gd (fun _ => ?_)
                  refine kp_nm (fun σ52_105 hσ52_105 => ?_)
                  have kσ52_105 : KR σ σ52_105 := by rw [hσ52_105]; exact kr_trans (kr_refl _) (kr_row (by decide))
                  unfold F_X12_looks_429
                  refine kp_nm (fun x39_106 _ => ?_)
                  exact kp_tr_kr (ih _ _ _ _ _) kσ52_105
              · unfold F_X12_looks_346
                unfold F_X12_looks_351
                refine kp_gd (fun _ => ?_)
                refine kp_gd (fun _ => ?_)
                refine kp_nm (fun σ52_107 hσ52_107 => ?_)
                have kσ52_107 : KR σ σ52_107 := by rw [hσ52_107]; exact kr_trans (kr_refl _) (kr_row (by decide))
                unfold F_X12_looks_429
                refine kp_nm (fun x39_108 _ => ?_)
                exact kp_tr_kr (ih _ _ _ _ _) kσ52_107
      · refine kp_nm (fun x67_109 _ => ?_)
        refine kp_gd (fun _ => ?_)
        refine kp_nm (fun x69_110 _ => ?_)
        refine kp_nm (fun x70_111 _ => ?_)
        refine kp_nm (fun x71_112 _ => ?_)
        refine kp_if ?_ ?_
        · refine kp_if ?_ ?_
          · unfold F_X12_looks_227
            refine kp_gd (fun _ => ?_)
            refine kp_gd (fun _ => ?_)
            refine kp_nm (fun σ77_113 hσ77_113 => ?_)
            have kσ77_113 : KR σ σ77_113 := by rw [hσ77_113]; exact kr_trans (kr_refl _) (kr_row (by decide))
            refine kp_nm (fun x78_114 _ => ?_)
            unfold F_X12_looks_429
            refine kp_nm (fun x39_115 _ => ?_)
            exact kp_tr_kr (ih _ _ _ _ _) kσ77_113
          · unfold F_X12_looks_227
            refine kp_gd (fun _ => ?_)
            refine kp_gd (fun _ => ?_)
            refine kp_nm (fun σ77_116 hσ77_116 => ?_)
            have kσ77_116 : KR σ σ77_116 := by rw [hσ77_116]; exact kr_trans (kr_refl _) (kr_row (by decide))
            refine kp_nm (fun x78_117 _ => ?_)
            unfold F_X12_looks_429
            refine kp_nm (fun x39_118 _ => ?_)
            exact kp_tr_kr (ih _ _ _ _ _) kσ77_116
        · refine kp_if ?_ ?_
          · refine kp_if ?_ ?_
            · unfold F_X12_looks_227
              refine kp_gd (fun _ => ?_)
              refine kp_gd (fun _ => ?_)
              refine kp_nm (fun σ77_119 hσ77_119 => ?_)
              have kσ77_119 : KR σ σ77_119 := by rw [hσ77_119]; exact kr_trans (kr_refl _) (kr_row (by decide))
              refine kp_nm (fun x78_120 _ => ?_)
              unfold F_X12_looks_429
              refine kp_nm (fun x39_121 _ => ?_)
              exact kp_tr_kr (ih _ _ _ _ _) kσ77_119
            · unfold F_X12_looks_227
              refine kp_gd (fun _ => ?_)
              refine kp_gd (fun _ => ?_)
              refine kp_nm (fun σ77_122 hσ77_122 => ?_)
              have kσ77_122 : KR σ σ77_122 := by rw [hσ77_122]; exact kr_trans (kr_refl _) (kr_row (by decide))
              refine kp_nm (fun x78_123 _ => ?_)
              unfold F_X12_looks_429
              refine kp_nm (fun x39_124 _ => ?_)
              exact kp_tr_kr (ih _ _ _ _ _) kσ77_122
          · refine kp_if ?_ ?_
            · unfold F_X12_looks_227
              refine kp_gd (fun _ => ?_)
              refine kp_gd (fun _ => ?_)
              refine kp_nm (fun σ77_125 hσ77_125 => ?_)
              have kσ77_125 : KR σ σ77_125 := by rw [hσ77_125]; exact kr_trans (kr_refl _) (kr_row (by decide))
              refine kp_nm (fun x78_126 _ => ?_)
              unfold F_X12_looks_429
              refine kp_nm (fun x39_127 _ => ?_)
              exact kp_tr_kr (ih _ _ _ _ _) kσ77_125
            · unfold F_X12_looks_227
              refine kp_gd (fun _ => ?_)
              refine kp_gd (fun _ => ?_)
              refine kp_nm (fun σ77_128 hσ77_128 => ?_)
              have kσ77_128 : KR σ σ77_128 := by rw [hσ77_128]; exact kr_trans (kr_refl _) (kr_row (by decide))
              refine kp_nm (fun x78_129 _ => ?_)
              unfold F_X12_looks_429
              refine kp_nm (fun x39_130 _ => ?_)
              exact kp_tr_kr (ih _ _ _ _ _) kσ77_128

set_option maxRecDepth 100000 in
theorem kr_X12_looks {N : Nat} {K len : Nat → Nat} {a1 : Int32} {a2 : Int32} {σ : SG} {ρ : RG} (hL : Lay N K len ρ) : kp (F_X12_looks a1 a2 σ ρ) (fun q => KR σ q) := by
  unfold F_X12_looks
  refine kp_nm (fun σ2_34 hσ2_34 => ?_)
  have kσ2_34 : KR σ σ2_34 := by rw [hσ2_34]; exact kr_trans (kr_refl _) (kr_lit (by decide))
  refine kp_nm (fun x3_35 _ => ?_)
  refine kp_gd (fun _ => ?_)
  refine kp_nm (fun σ6_36 hσ6_36 => ?_)
  have kσ6_36 : KR σ σ6_36 := by rw [hσ6_36]; exact kr_trans kσ2_34 (kr_lit (by decide))
  refine kp_nm (fun σ8_37 hσ8_37 => ?_)
  have kσ8_37 : KR σ σ8_37 := by rw [hσ8_37]; exact kr_trans kσ6_36 (kr_lit (by decide))
  refine kp_bx (fun r9_38 => ?_)
  refine kp_nm (fun σ11_39 hσ11_39 => ?_)
  have kσ11_39 : KR σ σ11_39 := by rw [hσ11_39]; exact kr_trans kσ8_37 (kr_lit (by decide))
  refine kp_nm (fun x12_40 _ => ?_)
  refine kp_nm (fun σ14_41 hσ14_41 => ?_)
  have kσ14_41 : KR σ σ14_41 := by rw [hσ14_41]; exact kr_trans kσ11_39 (kr_lit (by decide))
  refine kp_nm (fun x15_42 _ => ?_)
  refine kp_nm (fun σ17_43 hσ17_43 => ?_)
  have kσ17_43 : KR σ σ17_43 := by rw [hσ17_43]; exact kr_trans kσ14_41 (kr_lit (by decide))
  refine kp_nm (fun σ19_44 hσ19_44 => ?_)
  have kσ19_44 : KR σ σ19_44 := by rw [hσ19_44]; exact kr_trans kσ17_43 (kr_lit (by decide))
  refine kp_nm (fun σ21_45 hσ21_45 => ?_)
  have kσ21_45 : KR σ σ21_45 := by rw [hσ21_45]; exact kr_trans kσ19_44 (kr_lit (by decide))
  refine kp_bx (fun r22_46 => ?_)
  refine kp_nm (fun x23_47 _ => ?_)
  refine kp_nm (fun x24_48 _ => ?_)
  exact kp_tr_kr (kr_X12_looks_117 hL 1024 _ _ _ _ _) kσ21_45

set_option maxRecDepth 100000 in
theorem kr_X12_rights {N : Nat} {K len : Nat → Nat} {σ : SG} {ρ : RG} (hL : Lay N K len ρ) : kp (F_X12_rights σ ρ) (fun q => KR σ q) := by
  unfold F_X12_rights
  refine kp_bx (fun r1_133 => ?_)
  refine kp_nm (fun x2_134 _ => ?_)
  refine kp_nm (fun x3_135 _ => ?_)
  refine kp_nm (fun x4_136 _ => ?_)
  refine kp_nm (fun σ6_137 hσ6_137 => ?_)
  have kσ6_137 : KR σ σ6_137 := by rw [hσ6_137]; exact kr_trans (kr_refl _) (kr_lit (by decide))
  refine kp_nm (fun σ8_138 hσ8_138 => ?_)
  have kσ8_138 : KR σ σ8_138 := by rw [hσ8_138]; exact kr_trans kσ6_137 (kr_lit (by decide))
  refine kp_nm (fun σ10_139 hσ10_139 => ?_)
  have kσ10_139 : KR σ σ10_139 := by rw [hσ10_139]; exact kr_trans kσ8_138 (kr_lit (by decide))
  refine kp_nm (fun σ12_140 hσ12_140 => ?_)
  have kσ12_140 : KR σ σ12_140 := by rw [hσ12_140]; exact kr_trans kσ10_139 (kr_lit (by decide))
  exact kp_some kσ12_140

set_option maxRecDepth 100000 in
theorem kr_X12_cuts_305 {N : Nat} {K len : Nat → Nat} {a1 : Int32} {a2 : Int32} {ρ : RG} (hL : Lay N K len ρ) : ∀ (n : Nat) (σ : SG) (v1 : Int32) (v7 : Int32) (v9 : Int32) (v10 : Int32) (v11 : Int32), kp (F_X12_cuts_305 a1 a2 n σ ρ v1 v7 v9 v10 v11) (fun q => KR σ q.2) := by
  intro n
  induction n with
  | zero => intro σ v1 v7 v9 v10 v11; exact kp_none
  | succ n ih =>
    intro σ v1 v7 v9 v10 v11
    unfold F_X12_cuts_305
    refine kp_if ?_ ?_
    · refine kp_nm (fun σ35_166 hσ35_166 => ?_)
      have kσ35_166 : KR σ σ35_166 := by rw [hσ35_166]; exact kr_trans (kr_refl _) (kr_lit (by decide))
      refine kp_nm (fun σ37_167 hσ37_167 => ?_)
      have kσ37_167 : KR σ σ37_167 := by rw [hσ37_167]; exact kr_trans kσ35_166 (kr_lit (by decide))
      refine kp_nm (fun σ39_168 hσ39_168 => ?_)
      have kσ39_168 : KR σ σ39_168 := by rw [hσ39_168]; exact kr_trans kσ37_167 (kr_lit (by decide))
      refine kp_nm (fun x40_169 _ => ?_)
      refine kp_gd (fun _ => ?_)
      refine kp_nm (fun x42_170 _ => ?_)
      refine kp_gd (fun _ => ?_)
      refine kp_nm (fun σ45_171 hσ45_171 => ?_)
      have kσ45_171 : KR σ σ45_171 := by rw [hσ45_171]; exact kr_trans kσ39_168 (kr_row (by decide))
      refine kp_nm (fun x46_172 _ => ?_)
      refine kp_nm (fun σ48_173 hσ48_173 => ?_)
      have kσ48_173 : KR σ σ48_173 := by rw [hσ48_173]; exact kr_trans kσ45_171 (kr_lit (by decide))
      exact kp_some kσ48_173
    · refine kp_bx (fun r49_174 => ?_)
      refine kp_bx (fun r50_175 => ?_)
      refine kp_nm (fun x51_176 _ => ?_)
      refine kp_if ?_ ?_
      · unfold F_X12_cuts_359
        refine kp_nm (fun x53_177 _ => ?_)
        refine kp_nm (fun σ55_178 hσ55_178 => ?_)
        have kσ55_178 : KR σ σ55_178 := by rw [hσ55_178]; exact kr_trans (kr_refl _) (kr_lit (by decide))
        refine kp_if ?_ ?_
        · unfold F_X12_cuts_391
          refine kp_nm (fun σ58_179 hσ58_179 => ?_)
          have kσ58_179 : KR σ σ58_179 := by rw [hσ58_179]; exact kr_trans kσ55_178 (kr_lit (by decide))
          refine kp_if ?_ ?_
          · unfold F_X12_cuts_413
            refine kp_nm (fun σ61_180 hσ61_180 => ?_)
            have kσ61_180 : KR σ σ61_180 := by rw [hσ61_180]; exact kr_trans kσ58_179 (kr_lit (by decide))
            refine kp_nm (fun x62_181 _ => ?_)
            exact kp_tr2_kr (ih _ _ _ _ _ _) kσ61_180
          · unfold F_X12_cuts_413
            refine kp_nm (fun σ61_182 hσ61_182 => ?_)
            have kσ61_182 : KR σ σ61_182 := by rw [hσ61_182]; exact kr_trans kσ58_179 (kr_lit (by decide))
            refine kp_nm (fun x62_183 _ => ?_)
            exact kp_tr2_kr (ih _ _ _ _ _ _) kσ61_182
        · unfold F_X12_cuts_391
          refine kp_nm (fun σ58_184 hσ58_184 => ?_)
          have kσ58_184 : KR σ σ58_184 := by rw [hσ58_184]; exact kr_trans kσ55_178 (kr_lit (by decide))
          refine kp_if ?_ ?_
          · unfold F_X12_cuts_413
            refine kp_nm (fun σ61_185 hσ61_185 => ?_)
            have kσ61_185 : KR σ σ61_185 := by rw [hσ61_185]; exact kr_trans kσ58_184 (kr_lit (by decide))
            refine kp_nm (fun x62_186 _ => ?_)
            exact kp_tr2_kr (ih _ _ _ _ _ _) kσ61_185
          · unfold F_X12_cuts_413
            refine kp_nm (fun σ61_187 hσ61_187 => ?_)
            have kσ61_187 : KR σ σ61_187 := by rw [hσ61_187]; exact kr_trans kσ58_184 (kr_lit (by decide))
            refine kp_nm (fun x62_188 _ => ?_)
            exact kp_tr2_kr (ih _ _ _ _ _ _) kσ61_187
      · unfold F_X12_cuts_359
        refine kp_nm (fun x53_189 _ => ?_)
        refine kp_nm (fun σ55_190 hσ55_190 => ?_)
        have kσ55_190 : KR σ σ55_190 := by rw [hσ55_190]; exact kr_trans (kr_refl _) (kr_lit (by decide))
        refine kp_if ?_ ?_
        · unfold F_X12_cuts_391
          refine kp_nm (fun σ58_191 hσ58_191 => ?_)
          have kσ58_191 : KR σ σ58_191 := by rw [hσ58_191]; exact kr_trans kσ55_190 (kr_lit (by decide))
          refine kp_if ?_ ?_
          · unfold F_X12_cuts_413
            refine kp_nm (fun σ61_192 hσ61_192 => ?_)
            have kσ61_192 : KR σ σ61_192 := by rw [hσ61_192]; exact kr_trans kσ58_191 (kr_lit (by decide))
            refine kp_nm (fun x62_193 _ => ?_)
            exact kp_tr2_kr (ih _ _ _ _ _ _) kσ61_192
          · unfold F_X12_cuts_413
            refine kp_nm (fun σ61_194 hσ61_194 => ?_)
            have kσ61_194 : KR σ σ61_194 := by rw [hσ61_194]; exact kr_trans kσ58_191 (kr_lit (by decide))
            refine kp_nm (fun x62_195 _ => ?_)
            exact kp_tr2_kr (ih _ _ _ _ _ _) kσ61_194
        · unfold F_X12_cuts_391
          refine kp_nm (fun σ58_196 hσ58_196 => ?_)
          have kσ58_196 : KR σ σ58_196 := by rw [hσ58_196]; exact kr_trans kσ55_190 (kr_lit (by decide))
          refine kp_if ?_ ?_
          · unfold F_X12_cuts_413
            refine kp_nm (fun σ61_197 hσ61_197 => ?_)
            have kσ61_197 : KR σ σ61_197 := by rw [hσ61_197]; exact kr_trans kσ58_196 (kr_lit (by decide))
            refine kp_nm (fun x62_198 _ => ?_)
            exact kp_tr2_kr (ih _ _ _ _ _ _) kσ61_197
          · unfold F_X12_cuts_413
            refine kp_nm (fun σ61_199 hσ61_199 => ?_)
            have kσ61_199 : KR σ σ61_199 := by rw [hσ61_199]; exact kr_trans kσ58_196 (kr_lit (by decide))
            refine kp_nm (fun x62_200 _ => ?_)
            exact kp_tr2_kr (ih _ _ _ _ _ _) kσ61_199

set_option maxRecDepth 100000 in
theorem kr_X12_cuts {N : Nat} {K len : Nat → Nat} {a1 : Int32} {a2 : Int32} {σ : SG} {ρ : RG} (hL : Lay N K len ρ) : kp (F_X12_cuts a1 a2 σ ρ) (fun q => KR σ q.2) := by
  unfold F_X12_cuts
  refine kp_bn (kr_X12_looks hL) (fun σ1_33 hσ1_33 => ?_)
  have kσ1_33 : KR σ σ1_33 := kr_trans (kr_refl _) hσ1_33
  refine kp_nm (fun x2_131 _ => ?_)
  refine kp_gd (fun _ => ?_)
  refine kp_if ?_ ?_
  · refine kp_bn (kr_X12_rights hL) (fun σ86_132 hσ86_132 => ?_)
    have kσ86_132 : KR σ σ86_132 := kr_trans kσ1_33 hσ86_132
    unfold F_X12_cuts_83
    refine kp_nm (fun x8_141 _ => ?_)
    refine kp_nm (fun x9_142 _ => ?_)
    refine kp_gd (fun _ => ?_)
    refine kp_if ?_ ?_
    · refine kp_nm (fun x77_143 _ => ?_)
      refine kp_nm (fun x78_144 _ => ?_)
      refine kp_nm (fun x79_145 _ => ?_)
      refine kp_nm (fun x80_146 _ => ?_)
      refine kp_gd (fun _ => ?_)
      refine kp_nm (fun x82_147 _ => ?_)
      unfold F_X12_cuts_145
      refine kp_bx (fun r15_148 => ?_)
      refine kp_bx (fun r16_149 => ?_)
      refine kp_nm (fun x17_150 _ => ?_)
      refine kp_bx (fun r18_151 => ?_)
      refine kp_nm (fun x19_152 _ => ?_)
      refine kp_gd (fun _ => ?_)
      refine kp_bx (fun r21_153 => ?_)
      refine kp_bx (fun r22_154 => ?_)
      refine kp_bx (fun r23_155 => ?_)
      refine kp_nm (fun x24_156 _ => ?_)
      refine kp_bx (fun r25_157 => ?_)
      refine kp_if ?_ ?_
      · refine kp_bx (fun r63_158 => ?_)
        refine kp_nm (fun x64_159 _ => ?_)
        refine kp_bx (fun r65_160 => ?_)
        refine kp_nm (fun x66_161 _ => ?_)
        refine kp_bx (fun r67_162 => ?_)
        refine kp_if ?_ ?_
        · unfold F_X12_cuts_286
          refine kp_nm (fun σ28_163 hσ28_163 => ?_)
          have kσ28_163 : KR σ σ28_163 := by rw [hσ28_163]; exact kr_trans kσ86_132 (kr_lit (by decide))
          refine kp_nm (fun σ30_164 hσ30_164 => ?_)
          have kσ30_164 : KR σ σ30_164 := by rw [hσ30_164]; exact kr_trans kσ28_163 (kr_lit (by decide))
          refine kp_nm (fun σ32_165 hσ32_165 => ?_)
          have kσ32_165 : KR σ σ32_165 := by rw [hσ32_165]; exact kr_trans kσ30_164 (kr_lit (by decide))
          exact kp_tr2_kr (kr_X12_cuts_305 hL 1024 _ _ _ _ _ _) kσ32_165
        · refine kp_nm (fun σ70_201 hσ70_201 => ?_)
          have kσ70_201 : KR σ σ70_201 := by rw [hσ70_201]; exact kr_trans kσ86_132 (kr_lit (by decide))
          refine kp_nm (fun σ72_202 hσ72_202 => ?_)
          have kσ72_202 : KR σ σ72_202 := by rw [hσ72_202]; exact kr_trans kσ70_201 (kr_lit (by decide))
          refine kp_nm (fun σ74_203 hσ74_203 => ?_)
          have kσ74_203 : KR σ σ74_203 := by rw [hσ74_203]; exact kr_trans kσ72_202 (kr_lit (by decide))
          refine kp_nm (fun σ76_204 hσ76_204 => ?_)
          have kσ76_204 : KR σ σ76_204 := by rw [hσ76_204]; exact kr_trans kσ74_203 (kr_lit (by decide))
          exact kp_some kσ76_204
      · unfold F_X12_cuts_286
        refine kp_nm (fun σ28_205 hσ28_205 => ?_)
        have kσ28_205 : KR σ σ28_205 := by rw [hσ28_205]; exact kr_trans kσ86_132 (kr_lit (by decide))
        refine kp_nm (fun σ30_206 hσ30_206 => ?_)
        have kσ30_206 : KR σ σ30_206 := by rw [hσ30_206]; exact kr_trans kσ28_205 (kr_lit (by decide))
        refine kp_nm (fun σ32_207 hσ32_207 => ?_)
        have kσ32_207 : KR σ σ32_207 := by rw [hσ32_207]; exact kr_trans kσ30_206 (kr_lit (by decide))
        exact kp_tr2_kr (kr_X12_cuts_305 hL 1024 _ _ _ _ _ _) kσ32_207
    · refine kp_nm (fun x12_208 _ => ?_)
      refine kp_gd (fun _ => ?_)
      refine kp_bx (fun r14_209 => ?_)
      unfold F_X12_cuts_145
      refine kp_bx (fun r15_210 => ?_)
      refine kp_bx (fun r16_211 => ?_)
      refine kp_nm (fun x17_212 _ => ?_)
      refine kp_bx (fun r18_213 => ?_)
      refine kp_nm (fun x19_214 _ => ?_)
      refine kp_gd (fun _ => ?_)
      refine kp_bx (fun r21_215 => ?_)
      refine kp_bx (fun r22_216 => ?_)
      refine kp_bx (fun r23_217 => ?_)
      refine kp_nm (fun x24_218 _ => ?_)
      refine kp_bx (fun r25_219 => ?_)
      refine kp_if ?_ ?_
      · refine kp_bx (fun r63_220 => ?_)
        refine kp_nm (fun x64_221 _ => ?_)
        refine kp_bx (fun r65_222 => ?_)
        refine kp_nm (fun x66_223 _ => ?_)
        refine kp_bx (fun r67_224 => ?_)
        refine kp_if ?_ ?_
        · unfold F_X12_cuts_286
          refine kp_nm (fun σ28_225 hσ28_225 => ?_)
          have kσ28_225 : KR σ σ28_225 := by rw [hσ28_225]; exact kr_trans kσ86_132 (kr_lit (by decide))
          refine kp_nm (fun σ30_226 hσ30_226 => ?_)
          have kσ30_226 : KR σ σ30_226 := by rw [hσ30_226]; exact kr_trans kσ28_225 (kr_lit (by decide))
          refine kp_nm (fun σ32_227 hσ32_227 => ?_)
          have kσ32_227 : KR σ σ32_227 := by rw [hσ32_227]; exact kr_trans kσ30_226 (kr_lit (by decide))
          exact kp_tr2_kr (kr_X12_cuts_305 hL 1024 _ _ _ _ _ _) kσ32_227
        · refine kp_nm (fun σ70_228 hσ70_228 => ?_)
          have kσ70_228 : KR σ σ70_228 := by rw [hσ70_228]; exact kr_trans kσ86_132 (kr_lit (by decide))
          refine kp_nm (fun σ72_229 hσ72_229 => ?_)
          have kσ72_229 : KR σ σ72_229 := by rw [hσ72_229]; exact kr_trans kσ70_228 (kr_lit (by decide))
          refine kp_nm (fun σ74_230 hσ74_230 => ?_)
          have kσ74_230 : KR σ σ74_230 := by rw [hσ74_230]; exact kr_trans kσ72_229 (kr_lit (by decide))
          refine kp_nm (fun σ76_231 hσ76_231 => ?_)
          have kσ76_231 : KR σ σ76_231 := by rw [hσ76_231]; exact kr_trans kσ74_230 (kr_lit (by decide))
          exact kp_some kσ76_231
      · unfold F_X12_cuts_286
        refine kp_nm (fun σ28_232 hσ28_232 => ?_)
        have kσ28_232 : KR σ σ28_232 := by rw [hσ28_232]; exact kr_trans kσ86_132 (kr_lit (by decide))
        refine kp_nm (fun σ30_233 hσ30_233 => ?_)
        have kσ30_233 : KR σ σ30_233 := by rw [hσ30_233]; exact kr_trans kσ28_232 (kr_lit (by decide))
        refine kp_nm (fun σ32_234 hσ32_234 => ?_)
        have kσ32_234 : KR σ σ32_234 := by rw [hσ32_234]; exact kr_trans kσ30_233 (kr_lit (by decide))
        exact kp_tr2_kr (kr_X12_cuts_305 hL 1024 _ _ _ _ _ _) kσ32_234
  · refine kp_nm (fun x5_235 _ => ?_)
    refine kp_gd (fun _ => ?_)
    refine kp_if ?_ ?_
    · refine kp_nm (fun x83_236 _ => ?_)
      refine kp_nm (fun σ85_237 hσ85_237 => ?_)
      have kσ85_237 : KR σ σ85_237 := by rw [hσ85_237]; exact kr_trans kσ1_33 (kr_lit (by decide))
      unfold F_X12_cuts_83
      refine kp_nm (fun x8_238 _ => ?_)
      refine kp_nm (fun x9_239 _ => ?_)
      refine kp_gd (fun _ => ?_)
      refine kp_if ?_ ?_
      · refine kp_nm (fun x77_240 _ => ?_)
        refine kp_nm (fun x78_241 _ => ?_)
        refine kp_nm (fun x79_242 _ => ?_)
        refine kp_nm (fun x80_243 _ => ?_)
        refine kp_gd (fun _ => ?_)
        refine kp_nm (fun x82_244 _ => ?_)
        unfold F_X12_cuts_145
        refine kp_bx (fun r15_245 => ?_)
        refine kp_bx (fun r16_246 => ?_)
        refine kp_nm (fun x17_247 _ => ?_)
        refine kp_bx (fun r18_248 => ?_)
        refine kp_nm (fun x19_249 _ => ?_)
        refine kp_gd (fun _ => ?_)
        refine kp_bx (fun r21_250 => ?_)
        refine kp_bx (fun r22_251 => ?_)
        refine kp_bx (fun r23_252 => ?_)
        refine kp_nm (fun x24_253 _ => ?_)
        refine kp_bx (fun r25_254 => ?_)
        refine kp_if ?_ ?_
        · refine kp_bx (fun r63_255 => ?_)
          refine kp_nm (fun x64_256 _ => ?_)
          refine kp_bx (fun r65_257 => ?_)
          refine kp_nm (fun x66_258 _ => ?_)
          refine kp_bx (fun r67_259 => ?_)
          refine kp_if ?_ ?_
          · unfold F_X12_cuts_286
            refine kp_nm (fun σ28_260 hσ28_260 => ?_)
            have kσ28_260 : KR σ σ28_260 := by rw [hσ28_260]; exact kr_trans kσ85_237 (kr_lit (by decide))
            refine kp_nm (fun σ30_261 hσ30_261 => ?_)
            have kσ30_261 : KR σ σ30_261 := by rw [hσ30_261]; exact kr_trans kσ28_260 (kr_lit (by decide))
            refine kp_nm (fun σ32_262 hσ32_262 => ?_)
            have kσ32_262 : KR σ σ32_262 := by rw [hσ32_262]; exact kr_trans kσ30_261 (kr_lit (by decide))
            exact kp_tr2_kr (kr_X12_cuts_305 hL 1024 _ _ _ _ _ _) kσ32_262
          · refine kp_nm (fun σ70_263 hσ70_263 => ?_)
            have kσ70_263 : KR σ σ70_263 := by rw [hσ70_263]; exact kr_trans kσ85_237 (kr_lit (by decide))
            refine kp_nm (fun σ72_264 hσ72_264 => ?_)
            have kσ72_264 : KR σ σ72_264 := by rw [hσ72_264]; exact kr_trans kσ70_263 (kr_lit (by decide))
            refine kp_nm (fun σ74_265 hσ74_265 => ?_)
            have kσ74_265 : KR σ σ74_265 := by rw [hσ74_265]; exact kr_trans kσ72_264 (kr_lit (by decide))
            refine kp_nm (fun σ76_266 hσ76_266 => ?_)
            have kσ76_266 : KR σ σ76_266 := by rw [hσ76_266]; exact kr_trans kσ74_265 (kr_lit (by decide))
            exact kp_some kσ76_266
        · unfold F_X12_cuts_286
          refine kp_nm (fun σ28_267 hσ28_267 => ?_)
          have kσ28_267 : KR σ σ28_267 := by rw [hσ28_267]; exact kr_trans kσ85_237 (kr_lit (by decide))
          refine kp_nm (fun σ30_268 hσ30_268 => ?_)
          have kσ30_268 : KR σ σ30_268 := by rw [hσ30_268]; exact kr_trans kσ28_267 (kr_lit (by decide))
          refine kp_nm (fun σ32_269 hσ32_269 => ?_)
          have kσ32_269 : KR σ σ32_269 := by rw [hσ32_269]; exact kr_trans kσ30_268 (kr_lit (by decide))
          exact kp_tr2_kr (kr_X12_cuts_305 hL 1024 _ _ _ _ _ _) kσ32_269
      · refine kp_nm (fun x12_270 _ => ?_)
        refine kp_gd (fun _ => ?_)
        refine kp_bx (fun r14_271 => ?_)
        unfold F_X12_cuts_145
        refine kp_bx (fun r15_272 => ?_)
        refine kp_bx (fun r16_273 => ?_)
        refine kp_nm (fun x17_274 _ => ?_)
        refine kp_bx (fun r18_275 => ?_)
        refine kp_nm (fun x19_276 _ => ?_)
        refine kp_gd (fun _ => ?_)
        refine kp_bx (fun r21_277 => ?_)
        refine kp_bx (fun r22_278 => ?_)
        refine kp_bx (fun r23_279 => ?_)
        refine kp_nm (fun x24_280 _ => ?_)
        refine kp_bx (fun r25_281 => ?_)
        refine kp_if ?_ ?_
        · refine kp_bx (fun r63_282 => ?_)
          refine kp_nm (fun x64_283 _ => ?_)
          refine kp_bx (fun r65_284 => ?_)
          refine kp_nm (fun x66_285 _ => ?_)
          refine kp_bx (fun r67_286 => ?_)
          refine kp_if ?_ ?_
          · unfold F_X12_cuts_286
            refine kp_nm (fun σ28_287 hσ28_287 => ?_)
            have kσ28_287 : KR σ σ28_287 := by rw [hσ28_287]; exact kr_trans kσ85_237 (kr_lit (by decide))
            refine kp_nm (fun σ30_288 hσ30_288 => ?_)
            have kσ30_288 : KR σ σ30_288 := by rw [hσ30_288]; exact kr_trans kσ28_287 (kr_lit (by decide))
            refine kp_nm (fun σ32_289 hσ32_289 => ?_)
            have kσ32_289 : KR σ σ32_289 := by rw [hσ32_289]; exact kr_trans kσ30_288 (kr_lit (by decide))
            exact kp_tr2_kr (kr_X12_cuts_305 hL 1024 _ _ _ _ _ _) kσ32_289
          · refine kp_nm (fun σ70_290 hσ70_290 => ?_)
            have kσ70_290 : KR σ σ70_290 := by rw [hσ70_290]; exact kr_trans kσ85_237 (kr_lit (by decide))
            refine kp_nm (fun σ72_291 hσ72_291 => ?_)
            have kσ72_291 : KR σ σ72_291 := by rw [hσ72_291]; exact kr_trans kσ70_290 (kr_lit (by decide))
            refine kp_nm (fun σ74_292 hσ74_292 => ?_)
            have kσ74_292 : KR σ σ74_292 := by rw [hσ74_292]; exact kr_trans kσ72_291 (kr_lit (by decide))
            refine kp_nm (fun σ76_293 hσ76_293 => ?_)
            have kσ76_293 : KR σ σ76_293 := by rw [hσ76_293]; exact kr_trans kσ74_292 (kr_lit (by decide))
            exact kp_some kσ76_293
        · unfold F_X12_cuts_286
          refine kp_nm (fun σ28_294 hσ28_294 => ?_)
          have kσ28_294 : KR σ σ28_294 := by rw [hσ28_294]; exact kr_trans kσ85_237 (kr_lit (by decide))
          refine kp_nm (fun σ30_295 hσ30_295 => ?_)
          have kσ30_295 : KR σ σ30_295 := by rw [hσ30_295]; exact kr_trans kσ28_294 (kr_lit (by decide))
          refine kp_nm (fun σ32_296 hσ32_296 => ?_)
          have kσ32_296 : KR σ σ32_296 := by rw [hσ32_296]; exact kr_trans kσ30_295 (kr_lit (by decide))
          exact kp_tr2_kr (kr_X12_cuts_305 hL 1024 _ _ _ _ _ _) kσ32_296
    · unfold F_X12_cuts_83
      refine kp_nm (fun x8_297 _ => ?_)
      refine kp_nm (fun x9_298 _ => ?_)
      refine kp_gd (fun _ => ?_)
      refine kp_if ?_ ?_
      · refine kp_nm (fun x77_299 _ => ?_)
        refine kp_nm (fun x78_300 _ => ?_)
        refine kp_nm (fun x79_301 _ => ?_)
        refine kp_nm (fun x80_302 _ => ?_)
        refine kp_gd (fun _ => ?_)
        refine kp_nm (fun x82_303 _ => ?_)
        unfold F_X12_cuts_145
        refine kp_bx (fun r15_304 => ?_)
        refine kp_bx (fun r16_305 => ?_)
        refine kp_nm (fun x17_306 _ => ?_)
        refine kp_bx (fun r18_307 => ?_)
        refine kp_nm (fun x19_308 _ => ?_)
        refine kp_gd (fun _ => ?_)
        refine kp_bx (fun r21_309 => ?_)
        refine kp_bx (fun r22_310 => ?_)
        refine kp_bx (fun r23_311 => ?_)
        refine kp_nm (fun x24_312 _ => ?_)
        refine kp_bx (fun r25_313 => ?_)
        refine kp_if ?_ ?_
        · refine kp_bx (fun r63_314 => ?_)
          refine kp_nm (fun x64_315 _ => ?_)
          refine kp_bx (fun r65_316 => ?_)
          refine kp_nm (fun x66_317 _ => ?_)
          refine kp_bx (fun r67_318 => ?_)
          refine kp_if ?_ ?_
          · unfold F_X12_cuts_286
            refine kp_nm (fun σ28_319 hσ28_319 => ?_)
            have kσ28_319 : KR σ σ28_319 := by rw [hσ28_319]; exact kr_trans kσ1_33 (kr_lit (by decide))
            refine kp_nm (fun σ30_320 hσ30_320 => ?_)
            have kσ30_320 : KR σ σ30_320 := by rw [hσ30_320]; exact kr_trans kσ28_319 (kr_lit (by decide))
            refine kp_nm (fun σ32_321 hσ32_321 => ?_)
            have kσ32_321 : KR σ σ32_321 := by rw [hσ32_321]; exact kr_trans kσ30_320 (kr_lit (by decide))
            exact kp_tr2_kr (kr_X12_cuts_305 hL 1024 _ _ _ _ _ _) kσ32_321
          · refine kp_nm (fun σ70_322 hσ70_322 => ?_)
            have kσ70_322 : KR σ σ70_322 := by rw [hσ70_322]; exact kr_trans kσ1_33 (kr_lit (by decide))
            refine kp_nm (fun σ72_323 hσ72_323 => ?_)
            have kσ72_323 : KR σ σ72_323 := by rw [hσ72_323]; exact kr_trans kσ70_322 (kr_lit (by decide))
            refine kp_nm (fun σ74_324 hσ74_324 => ?_)
            have kσ74_324 : KR σ σ74_324 := by rw [hσ74_324]; exact kr_trans kσ72_323 (kr_lit (by decide))
            refine kp_nm (fun σ76_325 hσ76_325 => ?_)
            have kσ76_325 : KR σ σ76_325 := by rw [hσ76_325]; exact kr_trans kσ74_324 (kr_lit (by decide))
            exact kp_some kσ76_325
        · unfold F_X12_cuts_286
          refine kp_nm (fun σ28_326 hσ28_326 => ?_)
          have kσ28_326 : KR σ σ28_326 := by rw [hσ28_326]; exact kr_trans kσ1_33 (kr_lit (by decide))
          refine kp_nm (fun σ30_327 hσ30_327 => ?_)
          have kσ30_327 : KR σ σ30_327 := by rw [hσ30_327]; exact kr_trans kσ28_326 (kr_lit (by decide))
          refine kp_nm (fun σ32_328 hσ32_328 => ?_)
          have kσ32_328 : KR σ σ32_328 := by rw [hσ32_328]; exact kr_trans kσ30_327 (kr_lit (by decide))
          exact kp_tr2_kr (kr_X12_cuts_305 hL 1024 _ _ _ _ _ _) kσ32_328
      · refine kp_nm (fun x12_329 _ => ?_)
        refine kp_gd (fun _ => ?_)
        refine kp_bx (fun r14_330 => ?_)
        unfold F_X12_cuts_145
        refine kp_bx (fun r15_331 => ?_)
        refine kp_bx (fun r16_332 => ?_)
        refine kp_nm (fun x17_333 _ => ?_)
        refine kp_bx (fun r18_334 => ?_)
        refine kp_nm (fun x19_335 _ => ?_)
        refine kp_gd (fun _ => ?_)
        refine kp_bx (fun r21_336 => ?_)
        refine kp_bx (fun r22_337 => ?_)
        refine kp_bx (fun r23_338 => ?_)
        refine kp_nm (fun x24_339 _ => ?_)
        refine kp_bx (fun r25_340 => ?_)
        refine kp_if ?_ ?_
        · refine kp_bx (fun r63_341 => ?_)
          refine kp_nm (fun x64_342 _ => ?_)
          refine kp_bx (fun r65_343 => ?_)
          refine kp_nm (fun x66_344 _ => ?_)
          refine kp_bx (fun r67_345 => ?_)
          refine kp_if ?_ ?_
          · unfold F_X12_cuts_286
            refine kp_nm (fun σ28_346 hσ28_346 => ?_)
            have kσ28_346 : KR σ σ28_346 := by rw [hσ28_346]; exact kr_trans kσ1_33 (kr_lit (by decide))
            refine kp_nm (fun σ30_347 hσ30_347 => ?_)
            have kσ30_347 : KR σ σ30_347 := by rw [hσ30_347]; exact kr_trans kσ28_346 (kr_lit (by decide))
            refine kp_nm (fun σ32_348 hσ32_348 => ?_)
            have kσ32_348 : KR σ σ32_348 := by rw [hσ32_348]; exact kr_trans kσ30_347 (kr_lit (by decide))
            exact kp_tr2_kr (kr_X12_cuts_305 hL 1024 _ _ _ _ _ _) kσ32_348
          · refine kp_nm (fun σ70_349 hσ70_349 => ?_)
            have kσ70_349 : KR σ σ70_349 := by rw [hσ70_349]; exact kr_trans kσ1_33 (kr_lit (by decide))
            refine kp_nm (fun σ72_350 hσ72_350 => ?_)
            have kσ72_350 : KR σ σ72_350 := by rw [hσ72_350]; exact kr_trans kσ70_349 (kr_lit (by decide))
            refine kp_nm (fun σ74_351 hσ74_351 => ?_)
            have kσ74_351 : KR σ σ74_351 := by rw [hσ74_351]; exact kr_trans kσ72_350 (kr_lit (by decide))
            refine kp_nm (fun σ76_352 hσ76_352 => ?_)
            have kσ76_352 : KR σ σ76_352 := by rw [hσ76_352]; exact kr_trans kσ74_351 (kr_lit (by decide))
            exact kp_some kσ76_352
        · unfold F_X12_cuts_286
          refine kp_nm (fun σ28_353 hσ28_353 => ?_)
          have kσ28_353 : KR σ σ28_353 := by rw [hσ28_353]; exact kr_trans kσ1_33 (kr_lit (by decide))
          refine kp_nm (fun σ30_354 hσ30_354 => ?_)
          have kσ30_354 : KR σ σ30_354 := by rw [hσ30_354]; exact kr_trans kσ28_353 (kr_lit (by decide))
          refine kp_nm (fun σ32_355 hσ32_355 => ?_)
          have kσ32_355 : KR σ σ32_355 := by rw [hσ32_355]; exact kr_trans kσ30_354 (kr_lit (by decide))
          exact kp_tr2_kr (kr_X12_cuts_305 hL 1024 _ _ _ _ _ _) kσ32_355

set_option maxRecDepth 100000 in
theorem kr_X12_cut {N : Nat} {K len : Nat → Nat} {a1 : Int32} {σ : SG} {ρ : RG} (hL : Lay N K len ρ) : kp (F_X12_cut a1 σ ρ) (fun q => KR σ q.2) := by
  unfold F_X12_cut
  refine kp_bx (fun r1_29 => ?_)
  refine kp_if ?_ ?_
  · exact kp_some (kr_refl _)
  · refine kp_if ?_ ?_
    · exact kp_some (kr_refl _)
    · refine kp_nm (fun x4_30 _ => ?_)
      refine kp_gd (fun _ => ?_)
      refine kp_bn2 (kr_X12_cuts hL) (fun r6_31 σ6_32 hr6_31 => ?_)
      have kσ6_32 : KR σ σ6_32 := kr_trans (kr_refl _) hr6_31
      refine kp_if ?_ ?_
      · exact kp_some kσ6_32
      · exact kp_some kσ6_32

set_option maxRecDepth 100000 in
theorem kr_X12_right {N : Nat} {K len : Nat → Nat} {σ : SG} {ρ : RG} (hL : Lay N K len ρ) : kp (F_X12_right σ ρ) (fun q => KR σ q.2) := by
  unfold F_X12_right
  refine kp_bx (fun r1_356 => ?_)
  refine kp_bx (fun r2_357 => ?_)
  refine kp_if ?_ ?_
  · refine kp_bn (kr_X12_rights hL) (fun σ4_358 hσ4_358 => ?_)
    have kσ4_358 : KR σ σ4_358 := kr_trans (kr_refl _) hσ4_358
    refine kp_nm (fun x5_359 _ => ?_)
    exact kp_some kσ4_358
  · exact kp_some (kr_refl _)

set_option maxRecDepth 100000 in
theorem kr_X12_turn {N : Nat} {K len : Nat → Nat} {a1 : Int32} {σ : SG} {ρ : RG} (hL : Lay N K len ρ) : kp (F_X12_turn a1 σ ρ) (fun q => KR σ q.2) := by
  unfold F_X12_turn
  refine kp_if ?_ ?_
  · unfold F_X12_turn_9
    refine kp_gd (fun _ => ?_)
    refine kp_nm (fun x3_360 _ => ?_)
    refine kp_gd (fun _ => ?_)
    refine kp_nm (fun σ6_361 hσ6_361 => ?_)
    have kσ6_361 : KR σ σ6_361 := by rw [hσ6_361]; exact kr_trans (kr_refl _) (kr_row (by decide))
    refine kp_gd (fun _ => ?_)
    exact kp_some kσ6_361
  · unfold F_X12_turn_9
    refine kp_gd (fun _ => ?_)
    refine kp_nm (fun x3_362 _ => ?_)
    refine kp_gd (fun _ => ?_)
    refine kp_nm (fun σ6_363 hσ6_363 => ?_)
    have kσ6_363 : KR σ σ6_363 := by rw [hσ6_363]; exact kr_trans (kr_refl _) (kr_row (by decide))
    refine kp_gd (fun _ => ?_)
    exact kp_some kσ6_363

set_option maxRecDepth 100000 in
theorem kr_X12_keeps_2 {N : Nat} {K len : Nat → Nat} {ρ : RG} (hL : Lay N K len ρ) : ∀ (n : Nat) (σ : SG) (v1 : Int32), kp (F_X12_keeps_2 n σ ρ v1) (fun q => KR σ q) := by
  intro n
  induction n with
  | zero => intro σ v1; exact kp_none
  | succ n ih =>
    intro σ v1
    unfold F_X12_keeps_2
    refine kp_if ?_ ?_
    · exact kp_some (kr_refl _)
    · refine kp_gd (fun _ => ?_)
      refine kp_gd (fun _ => ?_)
      refine kp_nm (fun σ5_367 hσ5_367 => ?_)
      have kσ5_367 : KR σ σ5_367 := by rw [hσ5_367]; exact kr_trans (kr_refl _) (kr_row (by decide))
      refine kp_nm (fun x6_368 _ => ?_)
      exact kp_tr_kr (ih _ _) kσ5_367

set_option maxRecDepth 100000 in
theorem kr_X12_keeps {N : Nat} {K len : Nat → Nat} {σ : SG} {ρ : RG} (hL : Lay N K len ρ) : kp (F_X12_keeps σ ρ) (fun q => KR σ q) := by
  unfold F_X12_keeps
  exact kp_tr_kr (kr_X12_keeps_2 hL 1024 _ _) (kr_refl _)

set_option maxRecDepth 100000 in
theorem kr_X12_goesBack_2 {N : Nat} {K len : Nat → Nat} {ρ : RG} (hL : Lay N K len ρ) : ∀ (n : Nat) (σ : SG) (v1 : Int32), kp (F_X12_goesBack_2 n σ ρ v1) (fun q => KR σ q) := by
  intro n
  induction n with
  | zero => intro σ v1; exact kp_none
  | succ n ih =>
    intro σ v1
    unfold F_X12_goesBack_2
    refine kp_if ?_ ?_
    · exact kp_some (kr_refl _)
    · refine kp_gd (fun _ => ?_)
      refine kp_gd (fun _ => ?_)
      refine kp_nm (fun σ5_373 hσ5_373 => ?_)
      have kσ5_373 : KR σ σ5_373 := by rw [hσ5_373]; exact kr_trans (kr_refl _) (kr_row (by decide))
      refine kp_nm (fun x6_374 _ => ?_)
      exact kp_tr_kr (ih _ _) kσ5_373

set_option maxRecDepth 100000 in
theorem kr_X12_goesBack {N : Nat} {K len : Nat → Nat} {σ : SG} {ρ : RG} (hL : Lay N K len ρ) : kp (F_X12_goesBack σ ρ) (fun q => KR σ q) := by
  unfold F_X12_goesBack
  exact kp_tr_kr (kr_X12_goesBack_2 hL 1024 _ _) (kr_refl _)

set_option maxRecDepth 100000 in
theorem kr_X12_would {N : Nat} {K len : Nat → Nat} {a1 : Int32} {a2 : Int32} {σ : SG} {ρ : RG} (hL : Lay N K len ρ) : kp (F_X12_would a1 a2 σ ρ) (fun q => KR σ q.2) := by
  unfold F_X12_would
  refine kp_bx (fun r1_364 => ?_)
  refine kp_if ?_ ?_
  · exact kp_some (kr_refl _)
  · refine kp_bx (fun r3_365 => ?_)
    refine kp_if ?_ ?_
    · exact kp_some (kr_refl _)
    · refine kp_bn (kr_X12_keeps hL) (fun σ5_366 hσ5_366 => ?_)
      have kσ5_366 : KR σ σ5_366 := kr_trans (kr_refl _) hσ5_366
      refine kp_nm (fun x6_369 _ => ?_)
      refine kp_gd (fun _ => ?_)
      refine kp_bn2 (kr_X12_cuts hL) (fun r8_370 σ8_371 hr8_370 => ?_)
      have kσ8_371 : KR σ σ8_371 := kr_trans kσ5_366 hr8_370
      refine kp_if ?_ ?_
      · refine kp_bn (kr_X12_goesBack hL) (fun σ10_372 hσ10_372 => ?_)
        have kσ10_372 : KR σ σ10_372 := kr_trans kσ8_371 hσ10_372
        exact kp_some kσ10_372
      · refine kp_nm (fun x11_375 _ => ?_)
        refine kp_if ?_ ?_
        · refine kp_bn (kr_X12_goesBack hL) (fun σ23_376 hσ23_376 => ?_)
          have kσ23_376 : KR σ σ23_376 := kr_trans kσ8_371 hσ23_376
          exact kp_some kσ23_376
        · refine kp_if ?_ ?_
          · refine kp_bn (kr_X12_goesBack hL) (fun σ22_377 hσ22_377 => ?_)
            have kσ22_377 : KR σ σ22_377 := kr_trans kσ8_371 hσ22_377
            exact kp_some kσ22_377
          · refine kp_if ?_ ?_
            · refine kp_bn (kr_X12_goesBack hL) (fun σ21_378 hσ21_378 => ?_)
              have kσ21_378 : KR σ σ21_378 := kr_trans kσ8_371 hσ21_378
              exact kp_some kσ21_378
            · refine kp_if ?_ ?_
              · refine kp_bn (kr_X12_goesBack hL) (fun σ20_379 hσ20_379 => ?_)
                have kσ20_379 : KR σ σ20_379 := kr_trans kσ8_371 hσ20_379
                exact kp_some kσ20_379
              · refine kp_nm (fun x16_380 _ => ?_)
                refine kp_nm (fun x17_381 _ => ?_)
                refine kp_gd (fun _ => ?_)
                refine kp_bn (kr_X12_goesBack hL) (fun σ19_382 hσ19_382 => ?_)
                have kσ19_382 : KR σ σ19_382 := kr_trans kσ8_371 hσ19_382
                exact kp_some kσ19_382

set_option maxRecDepth 100000 in
theorem kr_X12_goesOn_18 {N : Nat} {K len : Nat → Nat} {a1 : Int32} {a2 : Int32} {a3 : Int32} {ρ : RG} (hL : Lay N K len ρ) : ∀ (n : Nat) (σ : SG) (v1 : Int32) (v2 : Int32) (v3 : Int32) (v4 : Int32), kp (F_X12_goesOn_18 a1 a2 a3 n σ ρ v1 v2 v3 v4) (fun q => KR σ q) := by
  intro n
  induction n with
  | zero => intro σ v1 v2 v3 v4; exact kp_none
  | succ n ih =>
    intro σ v1 v2 v3 v4
    unfold F_X12_goesOn_18
    refine kp_if ?_ ?_
    · exact kp_some (kr_refl _)
    · refine kp_if ?_ ?_
      · exact kp_some (kr_refl _)
      · refine kp_gd (fun _ => ?_)
        refine kp_nm (fun x10_392 _ => ?_)
        refine kp_if ?_ ?_
        · refine kp_bx (fun r29_393 => ?_)
          refine kp_bx (fun r30_394 => ?_)
          refine kp_if ?_ ?_
          · unfold F_X12_goesOn_72
            refine kp_nm (fun x12_395 _ => ?_)
            refine kp_gd (fun _ => ?_)
            refine kp_bn2 (kr_X12_cuts hL) (fun r14_396 σ14_397 hr14_396 => ?_)
            have kσ14_397 : KR σ σ14_397 := kr_trans (kr_refl _) hr14_396
            refine kp_if ?_ ?_
            · exact kp_some kσ14_397
            · refine kp_nm (fun x16_398 _ => ?_)
              refine kp_nm (fun σ18_399 hσ18_399 => ?_)
              have kσ18_399 : KR σ σ18_399 := by rw [hσ18_399]; exact kr_trans kσ14_397 (kr_lit (by decide))
              refine kp_bx (fun r19_400 => ?_)
              refine kp_if ?_ ?_
              · unfold F_X12_goesOn_119
                refine kp_nm (fun x21_401 _ => ?_)
                refine kp_nm (fun σ23_402 hσ23_402 => ?_)
                have kσ23_402 : KR σ σ23_402 := by rw [hσ23_402]; exact kr_trans kσ18_399 (kr_lit (by decide))
                refine kp_if ?_ ?_
                · unfold F_X12_goesOn_141
                  refine kp_nm (fun x25_403 _ => ?_)
                  refine kp_nm (fun σ27_404 hσ27_404 => ?_)
                  have kσ27_404 : KR σ σ27_404 := by rw [hσ27_404]; exact kr_trans kσ23_402 (kr_lit (by decide))
                  refine kp_nm (fun x28_405 _ => ?_)
                  exact kp_tr_kr (ih _ _ _ _ _) kσ27_404
                · unfold F_X12_goesOn_141
                  refine kp_nm (fun x25_406 _ => ?_)
                  refine kp_nm (fun σ27_407 hσ27_407 => ?_)
                  have kσ27_407 : KR σ σ27_407 := by rw [hσ27_407]; exact kr_trans kσ23_402 (kr_lit (by decide))
                  refine kp_nm (fun x28_408 _ => ?_)
                  exact kp_tr_kr (ih _ _ _ _ _) kσ27_407
              · unfold F_X12_goesOn_119
                refine kp_nm (fun x21_409 _ => ?_)
                refine kp_nm (fun σ23_410 hσ23_410 => ?_)
                have kσ23_410 : KR σ σ23_410 := by rw [hσ23_410]; exact kr_trans kσ18_399 (kr_lit (by decide))
                refine kp_if ?_ ?_
                · unfold F_X12_goesOn_141
                  refine kp_nm (fun x25_411 _ => ?_)
                  refine kp_nm (fun σ27_412 hσ27_412 => ?_)
                  have kσ27_412 : KR σ σ27_412 := by rw [hσ27_412]; exact kr_trans kσ23_410 (kr_lit (by decide))
                  refine kp_nm (fun x28_413 _ => ?_)
                  exact kp_tr_kr (ih _ _ _ _ _) kσ27_412
                · unfold F_X12_goesOn_141
                  refine kp_nm (fun x25_414 _ => ?_)
                  refine kp_nm (fun σ27_415 hσ27_415 => ?_)
                  have kσ27_415 : KR σ σ27_415 := by rw [hσ27_415]; exact kr_trans kσ23_410 (kr_lit (by decide))
                  refine kp_nm (fun x28_416 _ => ?_)
                  exact kp_tr_kr (ih _ _ _ _ _) kσ27_415
          · refine kp_bn (kr_X12_rights hL) (fun σ32_417 hσ32_417 => ?_)
            have kσ32_417 : KR σ σ32_417 := kr_trans (kr_refl _) hσ32_417
            unfold F_X12_goesOn_72
            refine kp_nm (fun x12_418 _ => ?_)
            refine kp_gd (fun _ => ?_)
            refine kp_bn2 (kr_X12_cuts hL) (fun r14_419 σ14_420 hr14_419 => ?_)
            have kσ14_420 : KR σ σ14_420 := kr_trans kσ32_417 hr14_419
            refine kp_if ?_ ?_
            · exact kp_some kσ14_420
            · refine kp_nm (fun x16_421 _ => ?_)
              refine kp_nm (fun σ18_422 hσ18_422 => ?_)
              have kσ18_422 : KR σ σ18_422 := by rw [hσ18_422]; exact kr_trans kσ14_420 (kr_lit (by decide))
              refine kp_bx (fun r19_423 => ?_)
              refine kp_if ?_ ?_
              · unfold F_X12_goesOn_119
                refine kp_nm (fun x21_424 _ => ?_)
                refine kp_nm (fun σ23_425 hσ23_425 => ?_)
                have kσ23_425 : KR σ σ23_425 := by rw [hσ23_425]; exact kr_trans kσ18_422 (kr_lit (by decide))
                refine kp_if ?_ ?_
                · unfold F_X12_goesOn_141
                  refine kp_nm (fun x25_426 _ => ?_)
                  refine kp_nm (fun σ27_427 hσ27_427 => ?_)
                  have kσ27_427 : KR σ σ27_427 := by rw [hσ27_427]; exact kr_trans kσ23_425 (kr_lit (by decide))
                  refine kp_nm (fun x28_428 _ => ?_)
                  exact kp_tr_kr (ih _ _ _ _ _) kσ27_427
                · unfold F_X12_goesOn_141
                  refine kp_nm (fun x25_429 _ => ?_)
                  refine kp_nm (fun σ27_430 hσ27_430 => ?_)
                  have kσ27_430 : KR σ σ27_430 := by rw [hσ27_430]; exact kr_trans kσ23_425 (kr_lit (by decide))
                  refine kp_nm (fun x28_431 _ => ?_)
                  exact kp_tr_kr (ih _ _ _ _ _) kσ27_430
              · unfold F_X12_goesOn_119
                refine kp_nm (fun x21_432 _ => ?_)
                refine kp_nm (fun σ23_433 hσ23_433 => ?_)
                have kσ23_433 : KR σ σ23_433 := by rw [hσ23_433]; exact kr_trans kσ18_422 (kr_lit (by decide))
                refine kp_if ?_ ?_
                · unfold F_X12_goesOn_141
                  refine kp_nm (fun x25_434 _ => ?_)
                  refine kp_nm (fun σ27_435 hσ27_435 => ?_)
                  have kσ27_435 : KR σ σ27_435 := by rw [hσ27_435]; exact kr_trans kσ23_433 (kr_lit (by decide))
                  refine kp_nm (fun x28_436 _ => ?_)
                  exact kp_tr_kr (ih _ _ _ _ _) kσ27_435
                · unfold F_X12_goesOn_141
                  refine kp_nm (fun x25_437 _ => ?_)
                  refine kp_nm (fun σ27_438 hσ27_438 => ?_)
                  have kσ27_438 : KR σ σ27_438 := by rw [hσ27_438]; exact kr_trans kσ23_433 (kr_lit (by decide))
                  refine kp_nm (fun x28_439 _ => ?_)
                  exact kp_tr_kr (ih _ _ _ _ _) kσ27_438
        · unfold F_X12_goesOn_72
          refine kp_nm (fun x12_440 _ => ?_)
          refine kp_gd (fun _ => ?_)
          refine kp_bn2 (kr_X12_cuts hL) (fun r14_441 σ14_442 hr14_441 => ?_)
          have kσ14_442 : KR σ σ14_442 := kr_trans (kr_refl _) hr14_441
          refine kp_if ?_ ?_
          · exact kp_some kσ14_442
          · refine kp_nm (fun x16_443 _ => ?_)
            refine kp_nm (fun σ18_444 hσ18_444 => ?_)
            have kσ18_444 : KR σ σ18_444 := by rw [hσ18_444]; exact kr_trans kσ14_442 (kr_lit (by decide))
            refine kp_bx (fun r19_445 => ?_)
            refine kp_if ?_ ?_
            · unfold F_X12_goesOn_119
              refine kp_nm (fun x21_446 _ => ?_)
              refine kp_nm (fun σ23_447 hσ23_447 => ?_)
              have kσ23_447 : KR σ σ23_447 := by rw [hσ23_447]; exact kr_trans kσ18_444 (kr_lit (by decide))
              refine kp_if ?_ ?_
              · unfold F_X12_goesOn_141
                refine kp_nm (fun x25_448 _ => ?_)
                refine kp_nm (fun σ27_449 hσ27_449 => ?_)
                have kσ27_449 : KR σ σ27_449 := by rw [hσ27_449]; exact kr_trans kσ23_447 (kr_lit (by decide))
                refine kp_nm (fun x28_450 _ => ?_)
                exact kp_tr_kr (ih _ _ _ _ _) kσ27_449
              · unfold F_X12_goesOn_141
                refine kp_nm (fun x25_451 _ => ?_)
                refine kp_nm (fun σ27_452 hσ27_452 => ?_)
                have kσ27_452 : KR σ σ27_452 := by rw [hσ27_452]; exact kr_trans kσ23_447 (kr_lit (by decide))
                refine kp_nm (fun x28_453 _ => ?_)
                exact kp_tr_kr (ih _ _ _ _ _) kσ27_452
            · unfold F_X12_goesOn_119
              refine kp_nm (fun x21_454 _ => ?_)
              refine kp_nm (fun σ23_455 hσ23_455 => ?_)
              have kσ23_455 : KR σ σ23_455 := by rw [hσ23_455]; exact kr_trans kσ18_444 (kr_lit (by decide))
              refine kp_if ?_ ?_
              · unfold F_X12_goesOn_141
                refine kp_nm (fun x25_456 _ => ?_)
                refine kp_nm (fun σ27_457 hσ27_457 => ?_)
                have kσ27_457 : KR σ σ27_457 := by rw [hσ27_457]; exact kr_trans kσ23_455 (kr_lit (by decide))
                refine kp_nm (fun x28_458 _ => ?_)
                exact kp_tr_kr (ih _ _ _ _ _) kσ27_457
              · unfold F_X12_goesOn_141
                refine kp_nm (fun x25_459 _ => ?_)
                refine kp_nm (fun σ27_460 hσ27_460 => ?_)
                have kσ27_460 : KR σ σ27_460 := by rw [hσ27_460]; exact kr_trans kσ23_455 (kr_lit (by decide))
                refine kp_nm (fun x28_461 _ => ?_)
                exact kp_tr_kr (ih _ _ _ _ _) kσ27_460

set_option maxRecDepth 100000 in
theorem kr_X12_goesOn {N : Nat} {K len : Nat → Nat} {a1 : Int32} {a2 : Int32} {a3 : Int32} {σ : SG} {ρ : RG} (hL : Lay N K len ρ) : kp (F_X12_goesOn a1 a2 a3 σ ρ) (fun q => KR σ q) := by
  unfold F_X12_goesOn
  refine kp_nm (fun σ2_389 hσ2_389 => ?_)
  have kσ2_389 : KR σ σ2_389 := by rw [hσ2_389]; exact kr_trans (kr_refl _) (kr_lit (by decide))
  refine kp_nm (fun σ4_390 hσ4_390 => ?_)
  have kσ4_390 : KR σ σ4_390 := by rw [hσ4_390]; exact kr_trans kσ2_389 (kr_lit (by decide))
  refine kp_nm (fun σ6_391 hσ6_391 => ?_)
  have kσ6_391 : KR σ σ6_391 := by rw [hσ6_391]; exact kr_trans kσ4_390 (kr_lit (by decide))
  exact kp_tr_kr (kr_X12_goesOn_18 hL 1024 _ _ _ _ _) kσ6_391

set_option maxRecDepth 100000 in
theorem kr_X12_on {N : Nat} {K len : Nat → Nat} {a1 : Int32} {a2 : Int32} {σ : SG} {ρ : RG} (hL : Lay N K len ρ) : kp (F_X12_on a1 a2 σ ρ) (fun q => KR σ q.2) := by
  unfold F_X12_on
  refine kp_bx (fun r1_383 => ?_)
  refine kp_if ?_ ?_
  · refine kp_nm (fun x26_384 _ => ?_)
    refine kp_bx (fun r27_385 => ?_)
    refine kp_if ?_ ?_
    · exact kp_some (kr_refl _)
    · unfold F_X12_on_24
      refine kp_bx (fun r3_386 => ?_)
      refine kp_if ?_ ?_
      · exact kp_some (kr_refl _)
      · refine kp_bn (kr_X12_keeps hL) (fun σ5_387 hσ5_387 => ?_)
        have kσ5_387 : KR σ σ5_387 := kr_trans (kr_refl _) hσ5_387
        refine kp_bn (kr_X12_goesOn hL) (fun σ6_388 hσ6_388 => ?_)
        have kσ6_388 : KR σ σ6_388 := kr_trans kσ5_387 hσ6_388
        refine kp_if ?_ ?_
        · refine kp_if ?_ ?_
          · refine kp_nm (fun x21_462 _ => ?_)
            refine kp_bn (kr_X12_goesBack hL) (fun σ22_463 hσ22_463 => ?_)
            have kσ22_463 : KR σ σ22_463 := kr_trans kσ6_388 hσ22_463
            exact kp_some kσ22_463
          · refine kp_if ?_ ?_
            · refine kp_bn (kr_X12_goesBack hL) (fun σ20_464 hσ20_464 => ?_)
              have kσ20_464 : KR σ σ20_464 := kr_trans kσ6_388 hσ20_464
              exact kp_some kσ20_464
            · refine kp_if ?_ ?_
              · refine kp_bn (kr_X12_goesBack hL) (fun σ19_465 hσ19_465 => ?_)
                have kσ19_465 : KR σ σ19_465 := kr_trans kσ6_388 hσ19_465
                exact kp_some kσ19_465
              · refine kp_nm (fun x11_466 _ => ?_)
                refine kp_nm (fun x12_467 _ => ?_)
                refine kp_gd (fun _ => ?_)
                refine kp_nm (fun x14_468 _ => ?_)
                refine kp_nm (fun x15_469 _ => ?_)
                refine kp_gd (fun _ => ?_)
                refine kp_nm (fun x17_470 _ => ?_)
                refine kp_bn (kr_X12_goesBack hL) (fun σ18_471 hσ18_471 => ?_)
                have kσ18_471 : KR σ σ18_471 := kr_trans kσ6_388 hσ18_471
                exact kp_some kσ18_471
        · refine kp_nm (fun x23_472 _ => ?_)
          refine kp_gd (fun _ => ?_)
          refine kp_bn (kr_X12_goesBack hL) (fun σ25_473 hσ25_473 => ?_)
          have kσ25_473 : KR σ σ25_473 := kr_trans kσ6_388 hσ25_473
          exact kp_some kσ25_473
  · unfold F_X12_on_24
    refine kp_bx (fun r3_474 => ?_)
    refine kp_if ?_ ?_
    · exact kp_some (kr_refl _)
    · refine kp_bn (kr_X12_keeps hL) (fun σ5_475 hσ5_475 => ?_)
      have kσ5_475 : KR σ σ5_475 := kr_trans (kr_refl _) hσ5_475
      refine kp_bn (kr_X12_goesOn hL) (fun σ6_476 hσ6_476 => ?_)
      have kσ6_476 : KR σ σ6_476 := kr_trans kσ5_475 hσ6_476
      refine kp_if ?_ ?_
      · refine kp_if ?_ ?_
        · refine kp_nm (fun x21_477 _ => ?_)
          refine kp_bn (kr_X12_goesBack hL) (fun σ22_478 hσ22_478 => ?_)
          have kσ22_478 : KR σ σ22_478 := kr_trans kσ6_476 hσ22_478
          exact kp_some kσ22_478
        · refine kp_if ?_ ?_
          · refine kp_bn (kr_X12_goesBack hL) (fun σ20_479 hσ20_479 => ?_)
            have kσ20_479 : KR σ σ20_479 := kr_trans kσ6_476 hσ20_479
            exact kp_some kσ20_479
          · refine kp_if ?_ ?_
            · refine kp_bn (kr_X12_goesBack hL) (fun σ19_480 hσ19_480 => ?_)
              have kσ19_480 : KR σ σ19_480 := kr_trans kσ6_476 hσ19_480
              exact kp_some kσ19_480
            · refine kp_nm (fun x11_481 _ => ?_)
              refine kp_nm (fun x12_482 _ => ?_)
              refine kp_gd (fun _ => ?_)
              refine kp_nm (fun x14_483 _ => ?_)
              refine kp_nm (fun x15_484 _ => ?_)
              refine kp_gd (fun _ => ?_)
              refine kp_nm (fun x17_485 _ => ?_)
              refine kp_bn (kr_X12_goesBack hL) (fun σ18_486 hσ18_486 => ?_)
              have kσ18_486 : KR σ σ18_486 := kr_trans kσ6_476 hσ18_486
              exact kp_some kσ18_486
      · refine kp_nm (fun x23_487 _ => ?_)
        refine kp_gd (fun _ => ?_)
        refine kp_bn (kr_X12_goesBack hL) (fun σ25_488 hσ25_488 => ?_)
        have kσ25_488 : KR σ σ25_488 := kr_trans kσ6_476 hσ25_488
        exact kp_some kσ25_488

set_option maxRecDepth 100000 in
theorem kr_X12_toasted {N : Nat} {K len : Nat → Nat} {a1 : Int32} {a2 : Int32} {σ : SG} {ρ : RG} (hL : Lay N K len ρ) : kp (F_X12_toasted a1 a2 σ ρ) (fun q => KR σ q.2) := by
  unfold F_X12_toasted
  refine kp_bx (fun r1_489 => ?_)
  refine kp_if ?_ ?_
  · exact kp_some (kr_refl _)
  · refine kp_bx (fun r3_490 => ?_)
    refine kp_if ?_ ?_
    · exact kp_some (kr_refl _)
    · refine kp_bn (kr_X12_keeps hL) (fun σ5_491 hσ5_491 => ?_)
      have kσ5_491 : KR σ σ5_491 := kr_trans (kr_refl _) hσ5_491
      refine kp_bn (kr_X12_goesOn hL) (fun σ6_492 hσ6_492 => ?_)
      have kσ6_492 : KR σ σ6_492 := kr_trans kσ5_491 hσ6_492
      refine kp_bn (kr_X12_goesBack hL) (fun σ7_493 hσ7_493 => ?_)
      have kσ7_493 : KR σ σ7_493 := kr_trans kσ6_492 hσ7_493
      exact kp_some kσ7_493

set_option maxRecDepth 100000 in
theorem kr_X12_lasts {N : Nat} {K len : Nat → Nat} {σ : SG} {ρ : RG} (hL : Lay N K len ρ) : kp (F_X12_lasts σ ρ) (fun q => KR σ q.2) := by
  unfold F_X12_lasts
  refine kp_bn (kr_X12_keeps hL) (fun σ1_494 hσ1_494 => ?_)
  have kσ1_494 : KR σ σ1_494 := kr_trans (kr_refl _) hσ1_494
  refine kp_bn (kr_X12_goesOn hL) (fun σ2_495 hσ2_495 => ?_)
  have kσ2_495 : KR σ σ2_495 := kr_trans kσ1_494 hσ2_495
  refine kp_bn (kr_X12_goesBack hL) (fun σ3_496 hσ3_496 => ?_)
  have kσ3_496 : KR σ σ3_496 := kr_trans kσ2_495 hσ3_496
  exact kp_some kσ3_496

set_option maxRecDepth 100000 in
theorem kr_X12_ordersFrom_B_27 {N : Nat} {K len : Nat → Nat} {R : Int32 → Int32 → Int32 → SG → RG → Option (SG)} {a1 : Int32} {a2 : Int32} {a3 : Int32} {ρ : RG} (hL : Lay N K len ρ) (hR : ∀ (y0 : Int32) (y1 : Int32) (y2 : Int32) (σ : SG), kp (R y0 y1 y2 σ ρ) (fun q => KR σ q)) : ∀ (n : Nat) (σ : SG) (v1 : Int32) (v4 : Int32), kp (F_X12_ordersFrom_B_27 R a1 a2 a3 n σ ρ v1 v4) (fun q => KR σ q) := by
  intro n
  induction n with
  | zero => intro σ v1 v4; exact kp_none
  | succ n ih =>
    intro σ v1 v4
    unfold F_X12_ordersFrom_B_27
    refine kp_if ?_ ?_
    · exact kp_some (kr_refl _)
    · refine kp_gd (fun _ => ?_)
      refine kp_gd (fun _ => ?_)
      refine kp_nm (fun σ29_501 hσ29_501 => ?_)
      have kσ29_501 : KR σ σ29_501 := by rw [hσ29_501]; exact kr_trans (kr_refl _) (kr_row (by decide))
      refine kp_nm (fun x30_502 _ => ?_)
      exact kp_tr_kr (ih _ _ _) kσ29_501

set_option maxRecDepth 100000 in
theorem kr_X12_stands_2 {N : Nat} {K len : Nat → Nat} {a1 : Int32} {ρ : RG} (hL : Lay N K len ρ) : ∀ (n : Nat) (σ : SG) (v1 : Int32) (v2 : Int32), kp (F_X12_stands_2 a1 n σ ρ v1 v2) (fun q => KR σ q) := by
  intro n
  induction n with
  | zero => intro σ v1 v2; exact kp_none
  | succ n ih =>
    intro σ v1 v2
    unfold F_X12_stands_2
    refine kp_if ?_ ?_
    · exact kp_some (kr_refl _)
    · refine kp_nm (fun x2_504 _ => ?_)
      refine kp_nm (fun x3_505 _ => ?_)
      refine kp_gd (fun _ => ?_)
      refine kp_gd (fun _ => ?_)
      refine kp_nm (fun σ7_506 hσ7_506 => ?_)
      have kσ7_506 : KR σ σ7_506 := by rw [hσ7_506]; exact kr_trans (kr_refl _) (kr_row (by decide))
      refine kp_nm (fun x8_507 _ => ?_)
      exact kp_tr_kr (ih _ _ _) kσ7_506

set_option maxRecDepth 100000 in
theorem kr_X12_stands {N : Nat} {K len : Nat → Nat} {a1 : Int32} {σ : SG} {ρ : RG} (hL : Lay N K len ρ) : kp (F_X12_stands a1 σ ρ) (fun q => KR σ q) := by
  unfold F_X12_stands
  exact kp_tr_kr (kr_X12_stands_2 hL 1024 _ _ _) (kr_refl _)

set_option maxRecDepth 100000 in
theorem kr_X12_standsBack_2 {N : Nat} {K len : Nat → Nat} {a1 : Int32} {ρ : RG} (hL : Lay N K len ρ) : ∀ (n : Nat) (σ : SG) (v1 : Int32) (v2 : Int32), kp (F_X12_standsBack_2 a1 n σ ρ v1 v2) (fun q => KR σ q) := by
  intro n
  induction n with
  | zero => intro σ v1 v2; exact kp_none
  | succ n ih =>
    intro σ v1 v2
    unfold F_X12_standsBack_2
    refine kp_if ?_ ?_
    · exact kp_some (kr_refl _)
    · refine kp_nm (fun x2_514 _ => ?_)
      refine kp_nm (fun x3_515 _ => ?_)
      refine kp_gd (fun _ => ?_)
      refine kp_gd (fun _ => ?_)
      refine kp_nm (fun σ7_516 hσ7_516 => ?_)
      have kσ7_516 : KR σ σ7_516 := by rw [hσ7_516]; exact kr_trans (kr_refl _) (kr_row (by decide))
      refine kp_nm (fun x8_517 _ => ?_)
      exact kp_tr_kr (ih _ _ _) kσ7_516

set_option maxRecDepth 100000 in
theorem kr_X12_standsBack {N : Nat} {K len : Nat → Nat} {a1 : Int32} {σ : SG} {ρ : RG} (hL : Lay N K len ρ) : kp (F_X12_standsBack a1 σ ρ) (fun q => KR σ q) := by
  unfold F_X12_standsBack
  exact kp_tr_kr (kr_X12_standsBack_2 hL 1024 _ _ _) (kr_refl _)

set_option maxRecDepth 100000 in
theorem kr_X12_ordersFrom_B_62 {N : Nat} {K len : Nat → Nat} {R : Int32 → Int32 → Int32 → SG → RG → Option (SG)} {a1 : Int32} {a2 : Int32} {a3 : Int32} {ρ : RG} (hL : Lay N K len ρ) (hR : ∀ (y0 : Int32) (y1 : Int32) (y2 : Int32) (σ : SG), kp (R y0 y1 y2 σ ρ) (fun q => KR σ q)) : ∀ (n : Nat) (σ : SG) (v1 : Int32) (v2 : Int32) (v3 : Int32) (v4 : Int32), kp (F_X12_ordersFrom_B_62 R a1 a2 a3 n σ ρ v1 v2 v3 v4) (fun q => KR σ q) := by
  intro n
  induction n with
  | zero => intro σ v1 v2 v3 v4; exact kp_none
  | succ n ih =>
    intro σ v1 v2 v3 v4
    unfold F_X12_ordersFrom_B_62
    refine kp_if ?_ ?_
    · exact kp_some (kr_refl _)
    · refine kp_nm (fun x4_508 _ => ?_)
      refine kp_nm (fun x5_509 _ => ?_)
      refine kp_if ?_ ?_
      · refine kp_nm (fun x9_510 _ => ?_)
        refine kp_gd (fun _ => ?_)
        refine kp_bn2 (kr_X12_cuts hL) (fun r11_511 σ11_512 hr11_511 => ?_)
        have kσ11_512 : KR σ σ11_512 := kr_trans (kr_refl _) hr11_511
        refine kp_if ?_ ?_
        · unfold F_X12_ordersFrom_B_134
          refine kp_bn (kr_X12_standsBack hL) (fun σ7_513 hσ7_513 => ?_)
          have kσ7_513 : KR σ σ7_513 := kr_trans kσ11_512 hσ7_513
          refine kp_nm (fun x8_518 _ => ?_)
          exact kp_tr_kr (ih _ _ _ _ _) kσ7_513
        · refine kp_gd (fun _ => ?_)
          refine kp_nm (fun σ15_519 hσ15_519 => ?_)
          have kσ15_519 : KR σ σ15_519 := by rw [hσ15_519]; exact kr_trans kσ11_512 (kr_row (by decide))
          refine kp_nm (fun x16_520 _ => ?_)
          refine kp_nm (fun x17_521 _ => ?_)
          refine kp_nm (fun x18_522 _ => ?_)
          refine kp_nm (fun x19_523 _ => ?_)
          refine kp_nm (fun x20_524 _ => ?_)
          refine kp_bn (hR _ _ _ _) (fun σ21_525 hσ21_525 => ?_)
          have kσ21_525 : KR σ σ21_525 := kr_trans kσ15_519 hσ21_525
          unfold F_X12_ordersFrom_B_134
          refine kp_bn (kr_X12_standsBack hL) (fun σ7_526 hσ7_526 => ?_)
          have kσ7_526 : KR σ σ7_526 := kr_trans kσ21_525 hσ7_526
          refine kp_nm (fun x8_527 _ => ?_)
          exact kp_tr_kr (ih _ _ _ _ _) kσ7_526
      · unfold F_X12_ordersFrom_B_134
        refine kp_bn (kr_X12_standsBack hL) (fun σ7_528 hσ7_528 => ?_)
        have kσ7_528 : KR σ σ7_528 := kr_trans (kr_refl _) hσ7_528
        refine kp_nm (fun x8_529 _ => ?_)
        exact kp_tr_kr (ih _ _ _ _ _) kσ7_528

set_option maxRecDepth 100000 in
theorem kr_X12_ordersFrom_B {N : Nat} {K len : Nat → Nat} {R : Int32 → Int32 → Int32 → SG → RG → Option (SG)} {a1 : Int32} {a2 : Int32} {a3 : Int32} {σ : SG} {ρ : RG} (hL : Lay N K len ρ) (hR : ∀ (y0 : Int32) (y1 : Int32) (y2 : Int32) (σ : SG), kp (R y0 y1 y2 σ ρ) (fun q => KR σ q)) : kp (F_X12_ordersFrom_B R a1 a2 a3 σ ρ) (fun q => KR σ q) := by
  unfold F_X12_ordersFrom_B
  refine kp_if ?_ ?_
  · refine kp_if ?_ ?_
    · exact kp_some (kr_refl _)
    · refine kp_nm (fun σ24_500 hσ24_500 => ?_)
      have kσ24_500 : KR σ σ24_500 := by rw [hσ24_500]; exact kr_trans (kr_refl _) (kr_lit (by decide))
      exact kp_tr_kr (kr_X12_ordersFrom_B_27 hL hR 1024 _ _ _) kσ24_500
  · refine kp_bn (kr_X12_stands hL) (fun σ2_503 hσ2_503 => ?_)
    have kσ2_503 : KR σ σ2_503 := kr_trans (kr_refl _) hσ2_503
    exact kp_tr_kr (kr_X12_ordersFrom_B_62 hL hR 1024 _ _ _ _ _) kσ2_503

theorem kr_X12_ordersFrom_R {N : Nat} {K len : Nat → Nat} {ρ : RG} (hL : Lay N K len ρ) : ∀ (d : Nat) (a1 : Int32) (a2 : Int32) (a3 : Int32) (σ : SG), kp (F_X12_ordersFrom_R d a1 a2 a3 σ ρ) (fun q => KR σ q) := by
  intro d
  induction d with
  | zero => intro a1 a2 a3 σ; exact kp_none
  | succ d ih =>
    intro a1 a2 a3 σ
    exact kr_X12_ordersFrom_B hL ih

theorem kr_X12_ordersFrom {N : Nat} {K len : Nat → Nat} {a1 : Int32} {a2 : Int32} {a3 : Int32} {σ : SG} {ρ : RG} (hL : Lay N K len ρ) : kp (F_X12_ordersFrom a1 a2 a3 σ ρ) (fun q => KR σ q) := kr_X12_ordersFrom_R hL _ _ _ _ _

set_option maxRecDepth 100000 in
theorem kr_X12_order_27 {N : Nat} {K len : Nat → Nat} {a1 : Int32} {ρ : RG} (hL : Lay N K len ρ) : ∀ (n : Nat) (σ : SG) (v1 : Int32) (v2 : Int32), kp (F_X12_order_27 a1 n σ ρ v1 v2) (fun q => KR σ q.2) := by
  intro n
  induction n with
  | zero => intro σ v1 v2; exact kp_none
  | succ n ih =>
    intro σ v1 v2
    unfold F_X12_order_27
    refine kp_if ?_ ?_
    · refine kp_nm (fun σ6_498 hσ6_498 => ?_)
      have kσ6_498 : KR σ σ6_498 := by rw [hσ6_498]; exact kr_trans (kr_refl _) (kr_lit (by decide))
      refine kp_bn (kr_X12_ordersFrom hL) (fun σ7_499 hσ7_499 => ?_)
      have kσ7_499 : KR σ σ7_499 := kr_trans kσ6_498 hσ7_499
      refine kp_if ?_ ?_
      · refine kp_if ?_ ?_
        · exact kp_some kσ7_499
        · exact kp_some kσ7_499
      · refine kp_gd (fun _ => ?_)
        exact kp_some kσ7_499
    · refine kp_gd (fun _ => ?_)
      refine kp_nm (fun σ13_530 hσ13_530 => ?_)
      have kσ13_530 : KR σ σ13_530 := by rw [hσ13_530]; exact kr_trans (kr_refl _) (kr_row (by decide))
      refine kp_nm (fun x14_531 _ => ?_)
      exact kp_tr2_kr (ih _ _ _) kσ13_530

set_option maxRecDepth 100000 in
theorem kr_X12_order {N : Nat} {K len : Nat → Nat} {a1 : Int32} {σ : SG} {ρ : RG} (hL : Lay N K len ρ) : kp (F_X12_order a1 σ ρ) (fun q => KR σ q.2) := by
  unfold F_X12_order
  refine kp_bx (fun r1_497 => ?_)
  refine kp_if ?_ ?_
  · exact kp_some (kr_refl _)
  · refine kp_if ?_ ?_
    · exact kp_tr2_kr (kr_X12_order_27 hL 1024 _ _ _) (kr_refl _)
    · exact kp_some (kr_refl _)

set_option maxRecDepth 100000 in
theorem kr_X12_cancel_12 {N : Nat} {K len : Nat → Nat} {ρ : RG} (hL : Lay N K len ρ) : ∀ (n : Nat) (σ : SG) (v1 : Int32) (v2 : Int32) (v3 : Int32), kp (F_X12_cancel_12 n σ ρ v1 v2 v3) (fun q => KR σ q.2) := by
  intro n
  induction n with
  | zero => intro σ v1 v2 v3; exact kp_none
  | succ n ih =>
    intro σ v1 v2 v3
    unfold F_X12_cancel_12
    refine kp_nm (fun x2_533 _ => ?_)
    refine kp_if ?_ ?_
    · exact kp_some (kr_refl _)
    · refine kp_gd (fun _ => ?_)
      refine kp_nm (fun x5_534 _ => ?_)
      refine kp_gd (fun _ => ?_)
      refine kp_nm (fun x7_535 _ => ?_)
      refine kp_nm (fun x8_536 _ => ?_)
      refine kp_gd (fun _ => ?_)
      refine kp_bn2 (kr_X12_cuts hL) (fun r10_537 σ10_538 hr10_537 => ?_)
      have kσ10_538 : KR σ σ10_538 := kr_trans (kr_refl _) hr10_537
      refine kp_if ?_ ?_
      · unfold F_X12_cancel_143
        refine kp_bn (kr_X12_goesBack hL) (fun σ12_539 hσ12_539 => ?_)
        have kσ12_539 : KR σ σ12_539 := kr_trans kσ10_538 hσ12_539
        refine kp_nm (fun x13_540 _ => ?_)
        exact kp_tr2_kr (ih _ _ _ _) kσ12_539
      · refine kp_nm (fun x14_541 _ => ?_)
        refine kp_gd (fun _ => ?_)
        refine kp_bn2 (kr_X12_cuts hL) (fun r16_542 σ16_543 hr16_542 => ?_)
        have kσ16_543 : KR σ σ16_543 := kr_trans kσ10_538 hr16_542
        refine kp_if ?_ ?_
        · unfold F_X12_cancel_143
          refine kp_bn (kr_X12_goesBack hL) (fun σ12_544 hσ12_544 => ?_)
          have kσ12_544 : KR σ σ12_544 := kr_trans kσ16_543 hσ12_544
          refine kp_nm (fun x13_545 _ => ?_)
          exact kp_tr2_kr (ih _ _ _ _) kσ12_544
        · refine kp_bx (fun r18_546 => ?_)
          refine kp_bx (fun r19_547 => ?_)
          refine kp_nm (fun x20_548 _ => ?_)
          refine kp_if ?_ ?_
          · unfold F_X12_cancel_143
            refine kp_bn (kr_X12_goesBack hL) (fun σ12_549 hσ12_549 => ?_)
            have kσ12_549 : KR σ σ12_549 := kr_trans kσ16_543 hσ12_549
            refine kp_nm (fun x13_550 _ => ?_)
            exact kp_tr2_kr (ih _ _ _ _) kσ12_549
          · refine kp_bx (fun r22_551 => ?_)
            refine kp_bx (fun r23_552 => ?_)
            refine kp_nm (fun x24_553 _ => ?_)
            refine kp_nm (fun x25_554 _ => ?_)
            refine kp_nm (fun x26_555 _ => ?_)
            unfold F_X12_cancel_143
            refine kp_bn (kr_X12_goesBack hL) (fun σ12_556 hσ12_556 => ?_)
            have kσ12_556 : KR σ σ12_556 := kr_trans kσ16_543 hσ12_556
            refine kp_nm (fun x13_557 _ => ?_)
            exact kp_tr2_kr (ih _ _ _ _) kσ12_556

set_option maxRecDepth 100000 in
theorem kr_X12_cancel {N : Nat} {K len : Nat → Nat} {σ : SG} {ρ : RG} (hL : Lay N K len ρ) : kp (F_X12_cancel σ ρ) (fun q => KR σ q.2) := by
  unfold F_X12_cancel
  refine kp_bn (kr_X12_keeps hL) (fun σ1_532 hσ1_532 => ?_)
  have kσ1_532 : KR σ σ1_532 := kr_trans (kr_refl _) hσ1_532
  exact kp_tr2_kr (kr_X12_cancel_12 hL 1024 _ _ _ _) kσ1_532

set_option maxRecDepth 100000 in
theorem kr_X12_enough_16 {N : Nat} {K len : Nat → Nat} {a1 : Int32} {ρ : RG} (hL : Lay N K len ρ) : ∀ (n : Nat) (σ : SG) (v1 : Int32) (v2 : Int32), kp (F_X12_enough_16 a1 n σ ρ v1 v2) (fun q => KR σ q.2) := by
  intro n
  induction n with
  | zero => intro σ v1 v2; exact kp_none
  | succ n ih =>
    intro σ v1 v2
    unfold F_X12_enough_16
    refine kp_if ?_ ?_
    · exact kp_some (kr_refl _)
    · refine kp_bn2 (kr_X12_cuts hL) (fun r5_560 σ5_561 hr5_560 => ?_)
      have kσ5_561 : KR σ σ5_561 := kr_trans (kr_refl _) hr5_560
      refine kp_if ?_ ?_
      · unfold F_X12_enough_42
        unfold F_X12_enough_43
        refine kp_bn (kr_X12_goesBack hL) (fun σ7_562 hσ7_562 => ?_)
        have kσ7_562 : KR σ σ7_562 := kr_trans kσ5_561 hσ7_562
        refine kp_if ?_ ?_
        · refine kp_nm (fun x9_563 _ => ?_)
          exact kp_tr2_kr (ih _ _ _) kσ7_562
        · exact kp_some kσ7_562
      · refine kp_bx (fun r10_564 => ?_)
        refine kp_if ?_ ?_
        · unfold F_X12_enough_42
          unfold F_X12_enough_43
          refine kp_bn (kr_X12_goesBack hL) (fun σ7_565 hσ7_565 => ?_)
          have kσ7_565 : KR σ σ7_565 := kr_trans kσ5_561 hσ7_565
          refine kp_if ?_ ?_
          · refine kp_nm (fun x9_566 _ => ?_)
            exact kp_tr2_kr (ih _ _ _) kσ7_565
          · exact kp_some kσ7_565
        · unfold F_X12_enough_43
          refine kp_bn (kr_X12_goesBack hL) (fun σ7_567 hσ7_567 => ?_)
          have kσ7_567 : KR σ σ7_567 := kr_trans kσ5_561 hσ7_567
          refine kp_if ?_ ?_
          · refine kp_nm (fun x9_568 _ => ?_)
            exact kp_tr2_kr (ih _ _ _) kσ7_567
          · exact kp_some kσ7_567

set_option maxRecDepth 100000 in
theorem kr_X12_enough {N : Nat} {K len : Nat → Nat} {a1 : Int32} {σ : SG} {ρ : RG} (hL : Lay N K len ρ) : kp (F_X12_enough a1 σ ρ) (fun q => KR σ q.2) := by
  unfold F_X12_enough
  refine kp_bx (fun r1_558 => ?_)
  refine kp_if ?_ ?_
  · exact kp_some (kr_refl _)
  · refine kp_bn (kr_X12_keeps hL) (fun σ3_559 hσ3_559 => ?_)
    have kσ3_559 : KR σ σ3_559 := kr_trans (kr_refl _) hσ3_559
    exact kp_tr2_kr (kr_X12_enough_16 hL 1024 _ _ _) kσ3_559

set_option maxRecDepth 100000 in
theorem kr_X12_goodBy {N : Nat} {K len : Nat → Nat} {a1 : Int32} {a2 : Int32} {σ : SG} {ρ : RG} (hL : Lay N K len ρ) : kp (F_X12_goodBy a1 a2 σ ρ) (fun q => KR σ q.2) := by
  unfold F_X12_goodBy
  refine kp_bn (kr_X12_goesOn hL) (fun σ1_574 hσ1_574 => ?_)
  have kσ1_574 : KR σ σ1_574 := kr_trans (kr_refl _) hσ1_574
  refine kp_bn (kr_X12_goesBack hL) (fun σ2_575 hσ2_575 => ?_)
  have kσ2_575 : KR σ σ2_575 := kr_trans kσ1_574 hσ2_575
  exact kp_some kσ2_575

set_option maxRecDepth 100000 in
theorem kr_X12_when_42 {N : Nat} {K len : Nat → Nat} {a1 : Int32} {a2 : Int32} {ρ : RG} (hL : Lay N K len ρ) : ∀ (n : Nat) (σ : SG) (v1 : Int32) (v2 : Int32) (v3 : Int32) (v4 : Int32) (v5 : Int32), kp (F_X12_when_42 a1 a2 n σ ρ v1 v2 v3 v4 v5) (fun q => KR σ q.2) := by
  intro n
  induction n with
  | zero => intro σ v1 v2 v3 v4 v5; exact kp_none
  | succ n ih =>
    intro σ v1 v2 v3 v4 v5
    unfold F_X12_when_42
    refine kp_if ?_ ?_
    · refine kp_if ?_ ?_
      · exact kp_some (kr_refl _)
      · refine kp_if ?_ ?_
        · exact kp_some (kr_refl _)
        · exact kp_some (kr_refl _)
    · refine kp_bn2 (kr_X12_goodBy hL) (fun r10_576 σ10_577 hr10_576 => ?_)
      have kσ10_577 : KR σ σ10_577 := kr_trans (kr_refl _) hr10_576
      refine kp_if ?_ ?_
      · unfold F_X12_when_70
        refine kp_if ?_ ?_
        · unfold F_X12_when_84
          refine kp_nm (fun x13_578 _ => ?_)
          exact kp_tr2_kr (ih _ _ _ _ _ _) kσ10_577
        · unfold F_X12_when_84
          refine kp_nm (fun x13_579 _ => ?_)
          exact kp_tr2_kr (ih _ _ _ _ _ _) kσ10_577
      · unfold F_X12_when_70
        refine kp_if ?_ ?_
        · unfold F_X12_when_84
          refine kp_nm (fun x13_580 _ => ?_)
          exact kp_tr2_kr (ih _ _ _ _ _ _) kσ10_577
        · unfold F_X12_when_84
          refine kp_nm (fun x13_581 _ => ?_)
          exact kp_tr2_kr (ih _ _ _ _ _ _) kσ10_577

set_option maxRecDepth 100000 in
theorem kr_X12_when {N : Nat} {K len : Nat → Nat} {a1 : Int32} {a2 : Int32} {σ : SG} {ρ : RG} (hL : Lay N K len ρ) : kp (F_X12_when a1 a2 σ ρ) (fun q => KR σ q.2) := by
  unfold F_X12_when
  refine kp_bx (fun r1_569 => ?_)
  refine kp_if ?_ ?_
  · exact kp_some (kr_refl _)
  · refine kp_bx (fun r3_570 => ?_)
    refine kp_if ?_ ?_
    · exact kp_some (kr_refl _)
    · refine kp_bn (kr_X12_keeps hL) (fun σ5_571 hσ5_571 => ?_)
      have kσ5_571 : KR σ σ5_571 := kr_trans (kr_refl _) hσ5_571
      refine kp_bn2 (kr_X12_goodBy hL) (fun r6_572 σ6_573 hr6_572 => ?_)
      have kσ6_573 : KR σ σ6_573 := kr_trans kσ5_571 hr6_572
      exact kp_tr2_kr (kr_X12_when_42 hL 1024 _ _ _ _ _ _) kσ6_573

set_option maxRecDepth 100000 in
theorem kr_X12_guide {N : Nat} {K len : Nat → Nat} {a1 : Int32} {σ : SG} {ρ : RG} (hL : Lay N K len ρ) : kp (F_X12_guide a1 σ ρ) (fun q => KR σ q.2) := by
  unfold F_X12_guide
  refine kp_bx (fun r1_582 => ?_)
  refine kp_if ?_ ?_
  · exact kp_some (kr_refl _)
  · refine kp_bn (kr_X12_keeps hL) (fun σ3_583 hσ3_583 => ?_)
    have kσ3_583 : KR σ σ3_583 := kr_trans (kr_refl _) hσ3_583
    refine kp_bn2 (kr_X12_goodBy hL) (fun r4_584 σ4_585 hr4_584 => ?_)
    have kσ4_585 : KR σ σ4_585 := kr_trans kσ3_583 hr4_584
    refine kp_nm (fun σ6_586 hσ6_586 => ?_)
    have kσ6_586 : KR σ σ6_586 := by rw [hσ6_586]; exact kr_trans kσ4_585 (kr_lit (by decide))
    refine kp_bn2 (kr_X12_goodBy hL) (fun r7_587 σ7_588 hr7_587 => ?_)
    have kσ7_588 : KR σ σ7_588 := kr_trans kσ6_586 hr7_587
    refine kp_nm (fun σ9_589 hσ9_589 => ?_)
    have kσ9_589 : KR σ σ9_589 := by rw [hσ9_589]; exact kr_trans kσ7_588 (kr_lit (by decide))
    refine kp_nm (fun x10_590 _ => ?_)
    exact kp_some kσ9_589

set_option maxRecDepth 100000 in
theorem kr_X12_again_24 {N : Nat} {K len : Nat → Nat} {a1 : Int32} {ρ : RG} (hL : Lay N K len ρ) : ∀ (n : Nat) (σ : SG) (v1 : Int32) (v2 : Int32) (v3 : Int32), kp (F_X12_again_24 a1 n σ ρ v1 v2 v3) (fun q => KR σ q.2) := by
  intro n
  induction n with
  | zero => intro σ v1 v2 v3; exact kp_none
  | succ n ih =>
    intro σ v1 v2 v3
    unfold F_X12_again_24
    refine kp_if ?_ ?_
    · unfold F_X12_again_106
      refine kp_nm (fun σ8_594 hσ8_594 => ?_)
      have kσ8_594 : KR σ σ8_594 := by rw [hσ8_594]; exact kr_trans (kr_refl _) (kr_lit (by decide))
      refine kp_bn (kr_X12_goesBack hL) (fun σ9_595 hσ9_595 => ?_)
      have kσ9_595 : KR σ σ9_595 := kr_trans kσ8_594 hσ9_595
      exact kp_some kσ9_595
    · refine kp_if ?_ ?_
      · refine kp_nm (fun x11_596 _ => ?_)
        refine kp_gd (fun _ => ?_)
        refine kp_bn2 (kr_X12_cuts hL) (fun r13_597 σ13_598 hr13_597 => ?_)
        have kσ13_598 : KR σ σ13_598 := kr_trans (kr_refl _) hr13_597
        refine kp_nm (fun σ15_599 hσ15_599 => ?_)
        have kσ15_599 : KR σ σ15_599 := by rw [hσ15_599]; exact kr_trans kσ13_598 (kr_lit (by decide))
        refine kp_if ?_ ?_
        · refine kp_if ?_ ?_
          · unfold F_X12_again_99
            refine kp_nm (fun x17_600 _ => ?_)
            exact kp_tr2_kr (ih _ _ _ _) kσ15_599
          · unfold F_X12_again_97
            unfold F_X12_again_99
            refine kp_nm (fun x17_601 _ => ?_)
            exact kp_tr2_kr (ih _ _ _ _) kσ15_599
        · unfold F_X12_again_97
          unfold F_X12_again_99
          refine kp_nm (fun x17_602 _ => ?_)
          exact kp_tr2_kr (ih _ _ _ _) kσ15_599
      · unfold F_X12_again_106
        refine kp_nm (fun σ8_603 hσ8_603 => ?_)
        have kσ8_603 : KR σ σ8_603 := by rw [hσ8_603]; exact kr_trans (kr_refl _) (kr_lit (by decide))
        refine kp_bn (kr_X12_goesBack hL) (fun σ9_604 hσ9_604 => ?_)
        have kσ9_604 : KR σ σ9_604 := kr_trans kσ8_603 hσ9_604
        exact kp_some kσ9_604

set_option maxRecDepth 100000 in
theorem kr_X12_again {N : Nat} {K len : Nat → Nat} {a1 : Int32} {σ : SG} {ρ : RG} (hL : Lay N K len ρ) : kp (F_X12_again a1 σ ρ) (fun q => KR σ q.2) := by
  unfold F_X12_again
  refine kp_bx (fun r1_591 => ?_)
  refine kp_if ?_ ?_
  · exact kp_some (kr_refl _)
  · refine kp_bn (kr_X12_keeps hL) (fun σ3_592 hσ3_592 => ?_)
    have kσ3_592 : KR σ σ3_592 := kr_trans (kr_refl _) hσ3_592
    refine kp_nm (fun σ5_593 hσ5_593 => ?_)
    have kσ5_593 : KR σ σ5_593 := by rw [hσ5_593]; exact kr_trans kσ3_592 (kr_lit (by decide))
    exact kp_tr2_kr (kr_X12_again_24 hL 1024 _ _ _ _) kσ5_593

set_option maxRecDepth 100000 in
theorem kr_X12_evener_61 {N : Nat} {K len : Nat → Nat} {a1 : Int32} {a2 : Int32} {ρ : RG} (hL : Lay N K len ρ) : ∀ (n : Nat) (σ : SG) (v2 : Int32) (v3 : Int32) (v4 : Int32) (v5 : Int32), kp (F_X12_evener_61 a1 a2 n σ ρ v2 v3 v4 v5) (fun q => KR σ q.2) := by
  intro n
  induction n with
  | zero => intro σ v2 v3 v4 v5; exact kp_none
  | succ n ih =>
    intro σ v2 v3 v4 v5
    unfold F_X12_evener_61
    refine kp_if ?_ ?_
    · refine kp_nm (fun x9_609 _ => ?_)
      refine kp_gd (fun _ => ?_)
      refine kp_nm (fun x11_610 _ => ?_)
      refine kp_bn (kr_X12_goesBack hL) (fun σ12_611 hσ12_611 => ?_)
      have kσ12_611 : KR σ σ12_611 := kr_trans (kr_refl _) hσ12_611
      refine kp_if ?_ ?_
      · exact kp_some kσ12_611
      · exact kp_some kσ12_611
    · refine kp_nm (fun x14_612 _ => ?_)
      refine kp_gd (fun _ => ?_)
      refine kp_nm (fun x16_613 _ => ?_)
      refine kp_gd (fun _ => ?_)
      refine kp_if ?_ ?_
      · unfold F_X12_evener_99
        refine kp_nm (fun x19_614 _ => ?_)
        refine kp_gd (fun _ => ?_)
        refine kp_if ?_ ?_
        · unfold F_X12_evener_128
          refine kp_nm (fun x22_615 _ => ?_)
          exact kp_tr2_kr (ih _ _ _ _ _) (kr_refl _)
        · refine kp_nm (fun x23_616 _ => ?_)
          refine kp_gd (fun _ => ?_)
          unfold F_X12_evener_128
          refine kp_nm (fun x22_617 _ => ?_)
          exact kp_tr2_kr (ih _ _ _ _ _) (kr_refl _)
      · unfold F_X12_evener_99
        refine kp_nm (fun x19_618 _ => ?_)
        refine kp_gd (fun _ => ?_)
        refine kp_if ?_ ?_
        · unfold F_X12_evener_128
          refine kp_nm (fun x22_619 _ => ?_)
          exact kp_tr2_kr (ih _ _ _ _ _) (kr_refl _)
        · refine kp_nm (fun x23_620 _ => ?_)
          refine kp_gd (fun _ => ?_)
          unfold F_X12_evener_128
          refine kp_nm (fun x22_621 _ => ?_)
          exact kp_tr2_kr (ih _ _ _ _ _) (kr_refl _)

set_option maxRecDepth 100000 in
theorem kr_X12_evener {N : Nat} {K len : Nat → Nat} {a1 : Int32} {a2 : Int32} {σ : SG} {ρ : RG} (hL : Lay N K len ρ) : kp (F_X12_evener a1 a2 σ ρ) (fun q => KR σ q.2) := by
  unfold F_X12_evener
  refine kp_bx (fun r1_605 => ?_)
  refine kp_if ?_ ?_
  · exact kp_some (kr_refl _)
  · refine kp_bx (fun r3_606 => ?_)
    refine kp_if ?_ ?_
    · exact kp_some (kr_refl _)
    · refine kp_if ?_ ?_
      · exact kp_some (kr_refl _)
      · refine kp_bn (kr_X12_keeps hL) (fun σ6_607 hσ6_607 => ?_)
        have kσ6_607 : KR σ σ6_607 := kr_trans (kr_refl _) hσ6_607
        refine kp_bn (kr_X12_goesOn hL) (fun σ7_608 hσ7_608 => ?_)
        have kσ7_608 : KR σ σ7_608 := kr_trans kσ6_607 hσ7_608
        exact kp_tr2_kr (kr_X12_evener_61 hL 1024 _ _ _ _ _) kσ7_608

set_option maxRecDepth 100000 in
theorem kr_X12_gameFor_B_24 {N : Nat} {K len : Nat → Nat} {R : Int32 → Int32 → Int32 → Int32 → SG → RG → Option (Int32 × SG)} {a1 : Int32} {a2 : Int32} {a3 : Int32} {a4 : Int32} {ρ : RG} (hL : Lay N K len ρ) (hR : ∀ (y0 : Int32) (y1 : Int32) (y2 : Int32) (y3 : Int32) (σ : SG), kp (R y0 y1 y2 y3 σ ρ) (fun q => KR σ q.2)) : ∀ (n : Nat) (σ : SG) (v1 : Int32) (v2 : Int32) (v3 : Int32) (v4 : Int32) (v5 : Int32) (v6 : Int32) (v7 : Int32), kp (F_X12_gameFor_B_24 R a1 a2 a3 a4 n σ ρ v1 v2 v3 v4 v5 v6 v7) (fun q => KR σ q.2) := by
  intro n
  induction n with
  | zero => intro σ v1 v2 v3 v4 v5 v6 v7; exact kp_none
  | succ n ih =>
    intro σ v1 v2 v3 v4 v5 v6 v7
    unfold F_X12_gameFor_B_24
    refine kp_if ?_ ?_
    · refine kp_if ?_ ?_
      · refine kp_nm (fun x7_629 _ => ?_)
        refine kp_bn2 (hR _ _ _ _ _) (fun r8_630 σ8_631 hr8_630 => ?_)
        have kσ8_631 : KR σ σ8_631 := kr_trans (kr_refl _) hr8_630
        refine kp_nm (fun x9_632 _ => ?_)
        refine kp_nm (fun σ11_633 hσ11_633 => ?_)
        have kσ11_633 : KR σ σ11_633 := by rw [hσ11_633]; exact kr_trans kσ8_631 (kr_lit (by decide))
        exact kp_some kσ11_633
      · refine kp_nm (fun σ6_634 hσ6_634 => ?_)
        have kσ6_634 : KR σ σ6_634 := by rw [hσ6_634]; exact kr_trans (kr_refl _) (kr_lit (by decide))
        exact kp_some kσ6_634
    · refine kp_nm (fun x12_635 _ => ?_)
      refine kp_gd (fun _ => ?_)
      refine kp_if ?_ ?_
      · unfold F_X12_gameFor_B_60
        refine kp_nm (fun x16_636 _ => ?_)
        refine kp_bx (fun r17_637 => ?_)
        refine kp_bn2 (kr_X12_cuts hL) (fun r18_638 σ18_639 hr18_638 => ?_)
        have kσ18_639 : KR σ σ18_639 := kr_trans (kr_refl _) hr18_638
        refine kp_if ?_ ?_
        · unfold F_X12_gameFor_B_133
          refine kp_bn (kr_X12_standsBack hL) (fun σ20_640 hσ20_640 => ?_)
          have kσ20_640 : KR σ σ20_640 := kr_trans kσ18_639 hσ20_640
          refine kp_nm (fun x21_641 _ => ?_)
          exact kp_tr2_kr (ih _ _ _ _ _ _ _ _) kσ20_640
        · refine kp_nm (fun x22_642 _ => ?_)
          refine kp_bn2 (hR _ _ _ _ _) (fun r23_643 σ23_644 hr23_643 => ?_)
          have kσ23_644 : KR σ σ23_644 := kr_trans kσ18_639 hr23_643
          refine kp_nm (fun x24_645 _ => ?_)
          refine kp_if ?_ ?_
          · unfold F_X12_gameFor_B_115
            refine kp_if ?_ ?_
            · unfold F_X12_gameFor_B_131
              unfold F_X12_gameFor_B_133
              refine kp_bn (kr_X12_standsBack hL) (fun σ20_646 hσ20_646 => ?_)
              have kσ20_646 : KR σ σ20_646 := kr_trans kσ23_644 hσ20_646
              refine kp_nm (fun x21_647 _ => ?_)
              exact kp_tr2_kr (ih _ _ _ _ _ _ _ _) kσ20_646
            · unfold F_X12_gameFor_B_131
              unfold F_X12_gameFor_B_133
              refine kp_bn (kr_X12_standsBack hL) (fun σ20_648 hσ20_648 => ?_)
              have kσ20_648 : KR σ σ20_648 := kr_trans kσ23_644 hσ20_648
              refine kp_nm (fun x21_649 _ => ?_)
              exact kp_tr2_kr (ih _ _ _ _ _ _ _ _) kσ20_648
          · unfold F_X12_gameFor_B_115
            refine kp_if ?_ ?_
            · unfold F_X12_gameFor_B_131
              unfold F_X12_gameFor_B_133
              refine kp_bn (kr_X12_standsBack hL) (fun σ20_650 hσ20_650 => ?_)
              have kσ20_650 : KR σ σ20_650 := kr_trans kσ23_644 hσ20_650
              refine kp_nm (fun x21_651 _ => ?_)
              exact kp_tr2_kr (ih _ _ _ _ _ _ _ _) kσ20_650
            · unfold F_X12_gameFor_B_131
              unfold F_X12_gameFor_B_133
              refine kp_bn (kr_X12_standsBack hL) (fun σ20_652 hσ20_652 => ?_)
              have kσ20_652 : KR σ σ20_652 := kr_trans kσ23_644 hσ20_652
              refine kp_nm (fun x21_653 _ => ?_)
              exact kp_tr2_kr (ih _ _ _ _ _ _ _ _) kσ20_652
      · refine kp_if ?_ ?_
        · unfold F_X12_gameFor_B_60
          refine kp_nm (fun x16_654 _ => ?_)
          refine kp_bx (fun r17_655 => ?_)
          refine kp_bn2 (kr_X12_cuts hL) (fun r18_656 σ18_657 hr18_656 => ?_)
          have kσ18_657 : KR σ σ18_657 := kr_trans (kr_refl _) hr18_656
          refine kp_if ?_ ?_
          · unfold F_X12_gameFor_B_133
            refine kp_bn (kr_X12_standsBack hL) (fun σ20_658 hσ20_658 => ?_)
            have kσ20_658 : KR σ σ20_658 := kr_trans kσ18_657 hσ20_658
            refine kp_nm (fun x21_659 _ => ?_)
            exact kp_tr2_kr (ih _ _ _ _ _ _ _ _) kσ20_658
          · refine kp_nm (fun x22_660 _ => ?_)
            refine kp_bn2 (hR _ _ _ _ _) (fun r23_661 σ23_662 hr23_661 => ?_)
            have kσ23_662 : KR σ σ23_662 := kr_trans kσ18_657 hr23_661
            refine kp_nm (fun x24_663 _ => ?_)
            refine kp_if ?_ ?_
            · unfold F_X12_gameFor_B_115
              refine kp_if ?_ ?_
              · unfold F_X12_gameFor_B_131
                unfold F_X12_gameFor_B_133
                refine kp_bn (kr_X12_standsBack hL) (fun σ20_664 hσ20_664 => ?_)
                have kσ20_664 : KR σ σ20_664 := kr_trans kσ23_662 hσ20_664
                refine kp_nm (fun x21_665 _ => ?_)
                exact kp_tr2_kr (ih _ _ _ _ _ _ _ _) kσ20_664
              · unfold F_X12_gameFor_B_131
                unfold F_X12_gameFor_B_133
                refine kp_bn (kr_X12_standsBack hL) (fun σ20_666 hσ20_666 => ?_)
                have kσ20_666 : KR σ σ20_666 := kr_trans kσ23_662 hσ20_666
                refine kp_nm (fun x21_667 _ => ?_)
                exact kp_tr2_kr (ih _ _ _ _ _ _ _ _) kσ20_666
            · unfold F_X12_gameFor_B_115
              refine kp_if ?_ ?_
              · unfold F_X12_gameFor_B_131
                unfold F_X12_gameFor_B_133
                refine kp_bn (kr_X12_standsBack hL) (fun σ20_668 hσ20_668 => ?_)
                have kσ20_668 : KR σ σ20_668 := kr_trans kσ23_662 hσ20_668
                refine kp_nm (fun x21_669 _ => ?_)
                exact kp_tr2_kr (ih _ _ _ _ _ _ _ _) kσ20_668
              · unfold F_X12_gameFor_B_131
                unfold F_X12_gameFor_B_133
                refine kp_bn (kr_X12_standsBack hL) (fun σ20_670 hσ20_670 => ?_)
                have kσ20_670 : KR σ σ20_670 := kr_trans kσ23_662 hσ20_670
                refine kp_nm (fun x21_671 _ => ?_)
                exact kp_tr2_kr (ih _ _ _ _ _ _ _ _) kσ20_670
        · unfold F_X12_gameFor_B_60
          refine kp_nm (fun x16_672 _ => ?_)
          refine kp_bx (fun r17_673 => ?_)
          refine kp_bn2 (kr_X12_cuts hL) (fun r18_674 σ18_675 hr18_674 => ?_)
          have kσ18_675 : KR σ σ18_675 := kr_trans (kr_refl _) hr18_674
          refine kp_if ?_ ?_
          · unfold F_X12_gameFor_B_133
            refine kp_bn (kr_X12_standsBack hL) (fun σ20_676 hσ20_676 => ?_)
            have kσ20_676 : KR σ σ20_676 := kr_trans kσ18_675 hσ20_676
            refine kp_nm (fun x21_677 _ => ?_)
            exact kp_tr2_kr (ih _ _ _ _ _ _ _ _) kσ20_676
          · refine kp_nm (fun x22_678 _ => ?_)
            refine kp_bn2 (hR _ _ _ _ _) (fun r23_679 σ23_680 hr23_679 => ?_)
            have kσ23_680 : KR σ σ23_680 := kr_trans kσ18_675 hr23_679
            refine kp_nm (fun x24_681 _ => ?_)
            refine kp_if ?_ ?_
            · unfold F_X12_gameFor_B_115
              refine kp_if ?_ ?_
              · unfold F_X12_gameFor_B_131
                unfold F_X12_gameFor_B_133
                refine kp_bn (kr_X12_standsBack hL) (fun σ20_682 hσ20_682 => ?_)
                have kσ20_682 : KR σ σ20_682 := kr_trans kσ23_680 hσ20_682
                refine kp_nm (fun x21_683 _ => ?_)
                exact kp_tr2_kr (ih _ _ _ _ _ _ _ _) kσ20_682
              · unfold F_X12_gameFor_B_131
                unfold F_X12_gameFor_B_133
                refine kp_bn (kr_X12_standsBack hL) (fun σ20_684 hσ20_684 => ?_)
                have kσ20_684 : KR σ σ20_684 := kr_trans kσ23_680 hσ20_684
                refine kp_nm (fun x21_685 _ => ?_)
                exact kp_tr2_kr (ih _ _ _ _ _ _ _ _) kσ20_684
            · unfold F_X12_gameFor_B_115
              refine kp_if ?_ ?_
              · unfold F_X12_gameFor_B_131
                unfold F_X12_gameFor_B_133
                refine kp_bn (kr_X12_standsBack hL) (fun σ20_686 hσ20_686 => ?_)
                have kσ20_686 : KR σ σ20_686 := kr_trans kσ23_680 hσ20_686
                refine kp_nm (fun x21_687 _ => ?_)
                exact kp_tr2_kr (ih _ _ _ _ _ _ _ _) kσ20_686
              · unfold F_X12_gameFor_B_131
                unfold F_X12_gameFor_B_133
                refine kp_bn (kr_X12_standsBack hL) (fun σ20_688 hσ20_688 => ?_)
                have kσ20_688 : KR σ σ20_688 := kr_trans kσ23_680 hσ20_688
                refine kp_nm (fun x21_689 _ => ?_)
                exact kp_tr2_kr (ih _ _ _ _ _ _ _ _) kσ20_688

set_option maxRecDepth 100000 in
theorem kr_X12_gameFor_B {N : Nat} {K len : Nat → Nat} {R : Int32 → Int32 → Int32 → Int32 → SG → RG → Option (Int32 × SG)} {a1 : Int32} {a2 : Int32} {a3 : Int32} {a4 : Int32} {σ : SG} {ρ : RG} (hL : Lay N K len ρ) (hR : ∀ (y0 : Int32) (y1 : Int32) (y2 : Int32) (y3 : Int32) (σ : SG), kp (R y0 y1 y2 y3 σ ρ) (fun q => KR σ q.2)) : kp (F_X12_gameFor_B R a1 a2 a3 a4 σ ρ) (fun q => KR σ q.2) := by
  unfold F_X12_gameFor_B
  refine kp_if ?_ ?_
  · exact kp_some (kr_refl _)
  · refine kp_bn (kr_X12_stands hL) (fun σ2_628 hσ2_628 => ?_)
    have kσ2_628 : KR σ σ2_628 := kr_trans (kr_refl _) hσ2_628
    exact kp_tr2_kr (kr_X12_gameFor_B_24 hL hR 1024 _ _ _ _ _ _ _ _) kσ2_628

theorem kr_X12_gameFor_R {N : Nat} {K len : Nat → Nat} {ρ : RG} (hL : Lay N K len ρ) : ∀ (d : Nat) (a1 : Int32) (a2 : Int32) (a3 : Int32) (a4 : Int32) (σ : SG), kp (F_X12_gameFor_R d a1 a2 a3 a4 σ ρ) (fun q => KR σ q.2) := by
  intro d
  induction d with
  | zero => intro a1 a2 a3 a4 σ; exact kp_none
  | succ d ih =>
    intro a1 a2 a3 a4 σ
    exact kr_X12_gameFor_B hL ih

theorem kr_X12_gameFor {N : Nat} {K len : Nat → Nat} {a1 : Int32} {a2 : Int32} {a3 : Int32} {a4 : Int32} {σ : SG} {ρ : RG} (hL : Lay N K len ρ) : kp (F_X12_gameFor a1 a2 a3 a4 σ ρ) (fun q => KR σ q.2) := kr_X12_gameFor_R hL _ _ _ _ _ _

set_option maxRecDepth 100000 in
theorem kr_X12_game {N : Nat} {K len : Nat → Nat} {a1 : Int32} {a2 : Int32} {a3 : Int32} {a4 : Int32} {σ : SG} {ρ : RG} (hL : Lay N K len ρ) : kp (F_X12_game a1 a2 a3 a4 σ ρ) (fun q => KR σ q.2) := by
  unfold F_X12_game
  refine kp_bx (fun r1_622 => ?_)
  refine kp_if ?_ ?_
  · exact kp_some (kr_refl _)
  · refine kp_bx (fun r3_623 => ?_)
    refine kp_if ?_ ?_
    · exact kp_some (kr_refl _)
    · refine kp_bx (fun r5_624 => ?_)
      refine kp_if ?_ ?_
      · exact kp_some (kr_refl _)
      · refine kp_if ?_ ?_
        · exact kp_some (kr_refl _)
        · refine kp_bx (fun r8_625 => ?_)
          refine kp_if ?_ ?_
          · exact kp_some (kr_refl _)
          · refine kp_bn2 (kr_X12_gameFor hL) (fun r10_626 σ10_627 hr10_626 => ?_)
            have kσ10_627 : KR σ σ10_627 := kr_trans (kr_refl _) hr10_626
            refine kp_if ?_ ?_
            · exact kp_some kσ10_627
            · exact kp_some kσ10_627

set_option maxRecDepth 100000 in
theorem kr_X12_cheese_63 {N : Nat} {K len : Nat → Nat} {a1 : Int32} {a2 : Int32} {ρ : RG} (hL : Lay N K len ρ) : ∀ (n : Nat) (σ : SG) (v2 : Int32) (v3 : Int32) (v4 : Int32), kp (F_X12_cheese_63 a1 a2 n σ ρ v2 v3 v4) (fun q => KR σ q.2) := by
  intro n
  induction n with
  | zero => intro σ v2 v3 v4; exact kp_none
  | succ n ih =>
    intro σ v2 v3 v4
    unfold F_X12_cheese_63
    refine kp_if ?_ ?_
    · unfold F_X12_cheese_146
      refine kp_if ?_ ?_
      · exact kp_some (kr_refl _)
      · refine kp_if ?_ ?_
        · exact kp_some (kr_refl _)
        · refine kp_nm (fun x9_694 _ => ?_)
          refine kp_gd (fun _ => ?_)
          exact kp_some (kr_refl _)
    · refine kp_gd (fun _ => ?_)
      refine kp_nm (fun x12_695 _ => ?_)
      refine kp_nm (fun x13_696 _ => ?_)
      refine kp_gd (fun _ => ?_)
      refine kp_if ?_ ?_
      · unfold F_X12_cheese_146
        refine kp_if ?_ ?_
        · exact kp_some (kr_refl _)
        · refine kp_if ?_ ?_
          · exact kp_some (kr_refl _)
          · refine kp_nm (fun x9_697 _ => ?_)
            refine kp_gd (fun _ => ?_)
            exact kp_some (kr_refl _)
      · refine kp_gd (fun _ => ?_)
        refine kp_nm (fun x17_698 _ => ?_)
        refine kp_gd (fun _ => ?_)
        refine kp_nm (fun x19_699 _ => ?_)
        refine kp_gd (fun _ => ?_)
        refine kp_nm (fun x21_700 _ => ?_)
        refine kp_gd (fun _ => ?_)
        refine kp_nm (fun σ24_701 hσ24_701 => ?_)
        have kσ24_701 : KR σ σ24_701 := by rw [hσ24_701]; exact kr_trans (kr_refl _) (kr_row (by decide))
        refine kp_nm (fun x25_702 _ => ?_)
        refine kp_gd (fun _ => ?_)
        refine kp_nm (fun x27_703 _ => ?_)
        refine kp_nm (fun x28_704 _ => ?_)
        exact kp_tr2_kr (ih _ _ _ _) kσ24_701

set_option maxRecDepth 100000 in
theorem kr_X12_cheese_39 {N : Nat} {K len : Nat → Nat} {a1 : Int32} {a2 : Int32} {ρ : RG} (hL : Lay N K len ρ) : ∀ (n : Nat) (σ : SG) (v1 : Int32) (v2 : Int32) (v3 : Int32), kp (F_X12_cheese_39 a1 a2 n σ ρ v1 v2 v3) (fun q => KR σ q.2) := by
  intro n
  induction n with
  | zero => intro σ v1 v2 v3; exact kp_none
  | succ n ih =>
    intro σ v1 v2 v3
    unfold F_X12_cheese_39
    refine kp_if ?_ ?_
    · exact kp_tr2_kr (kr_X12_cheese_63 hL 1024 _ _ _ _) (kr_refl _)
    · refine kp_gd (fun _ => ?_)
      refine kp_nm (fun σ31_705 hσ31_705 => ?_)
      have kσ31_705 : KR σ σ31_705 := by rw [hσ31_705]; exact kr_trans (kr_refl _) (kr_row (by decide))
      refine kp_nm (fun x32_706 _ => ?_)
      exact kp_tr2_kr (ih _ _ _ _) kσ31_705

set_option maxRecDepth 100000 in
theorem kr_X12_cheese {N : Nat} {K len : Nat → Nat} {a1 : Int32} {a2 : Int32} {σ : SG} {ρ : RG} (hL : Lay N K len ρ) : kp (F_X12_cheese a1 a2 σ ρ) (fun q => KR σ q.2) := by
  unfold F_X12_cheese
  refine kp_bx (fun r1_690 => ?_)
  refine kp_if ?_ ?_
  · refine kp_nm (fun x33_691 _ => ?_)
    refine kp_bx (fun r34_692 => ?_)
    refine kp_if ?_ ?_
    · exact kp_some (kr_refl _)
    · unfold F_X12_cheese_22
      refine kp_bx (fun r3_693 => ?_)
      refine kp_if ?_ ?_
      · exact kp_some (kr_refl _)
      · exact kp_tr2_kr (kr_X12_cheese_39 hL 1024 _ _ _ _) (kr_refl _)
  · unfold F_X12_cheese_22
    refine kp_bx (fun r3_707 => ?_)
    refine kp_if ?_ ?_
    · exact kp_some (kr_refl _)
    · exact kp_tr2_kr (kr_X12_cheese_39 hL 1024 _ _ _ _) (kr_refl _)

set_option maxRecDepth 100000 in
theorem kr_X12_see {N : Nat} {K len : Nat → Nat} {a1 : Int32} {a2 : Int32} {σ : SG} {ρ : RG} (hL : Lay N K len ρ) : kp (F_X12_see a1 a2 σ ρ) (fun q => KR σ q.2) := by
  unfold F_X12_see
  refine kp_bx (fun r1_708 => ?_)
  refine kp_if ?_ ?_
  · exact kp_some (kr_refl _)
  · refine kp_bx (fun r3_709 => ?_)
    refine kp_if ?_ ?_
    · exact kp_some (kr_refl _)
    · refine kp_nm (fun σ6_710 hσ6_710 => ?_)
      have kσ6_710 : KR σ σ6_710 := by rw [hσ6_710]; exact kr_trans (kr_refl _) (kr_lit (by decide))
      refine kp_nm (fun σ8_711 hσ8_711 => ?_)
      have kσ8_711 : KR σ σ8_711 := by rw [hσ8_711]; exact kr_trans kσ6_710 (kr_lit (by decide))
      exact kp_some kσ8_711

set_option maxRecDepth 100000 in
theorem kr_X12_who_8 {N : Nat} {K len : Nat → Nat} {ρ : RG} (hL : Lay N K len ρ) : ∀ (n : Nat) (σ : SG) (v1 : Int32) (v2 : Int32), kp (F_X12_who_8 n σ ρ v1 v2) (fun q => KR σ q.2) := by
  intro n
  induction n with
  | zero => intro σ v1 v2; exact kp_none
  | succ n ih =>
    intro σ v1 v2
    unfold F_X12_who_8
    refine kp_if ?_ ?_
    · exact kp_some (kr_refl _)
    · refine kp_nm (fun x3_713 _ => ?_)
      refine kp_gd (fun _ => ?_)
      refine kp_bn2 (kr_X12_cuts hL) (fun r5_714 σ5_715 hr5_714 => ?_)
      have kσ5_715 : KR σ σ5_715 := kr_trans (kr_refl _) hr5_714
      refine kp_if ?_ ?_
      · unfold F_X12_who_75
        unfold F_X12_who_76
        refine kp_nm (fun x7_716 _ => ?_)
        refine kp_bn (kr_X12_goesBack hL) (fun σ8_717 hσ8_717 => ?_)
        have kσ8_717 : KR σ σ8_717 := kr_trans kσ5_715 hσ8_717
        refine kp_nm (fun x9_718 _ => ?_)
        exact kp_tr2_kr (ih _ _ _) kσ8_717
      · refine kp_if ?_ ?_
        · refine kp_if ?_ ?_
          · refine kp_nm (fun x12_719 _ => ?_)
            unfold F_X12_who_76
            refine kp_nm (fun x7_720 _ => ?_)
            refine kp_bn (kr_X12_goesBack hL) (fun σ8_721 hσ8_721 => ?_)
            have kσ8_721 : KR σ σ8_721 := kr_trans kσ5_715 hσ8_721
            refine kp_nm (fun x9_722 _ => ?_)
            exact kp_tr2_kr (ih _ _ _) kσ8_721
          · unfold F_X12_who_75
            unfold F_X12_who_76
            refine kp_nm (fun x7_723 _ => ?_)
            refine kp_bn (kr_X12_goesBack hL) (fun σ8_724 hσ8_724 => ?_)
            have kσ8_724 : KR σ σ8_724 := kr_trans kσ5_715 hσ8_724
            refine kp_nm (fun x9_725 _ => ?_)
            exact kp_tr2_kr (ih _ _ _) kσ8_724
        · unfold F_X12_who_75
          unfold F_X12_who_76
          refine kp_nm (fun x7_726 _ => ?_)
          refine kp_bn (kr_X12_goesBack hL) (fun σ8_727 hσ8_727 => ?_)
          have kσ8_727 : KR σ σ8_727 := kr_trans kσ5_715 hσ8_727
          refine kp_nm (fun x9_728 _ => ?_)
          exact kp_tr2_kr (ih _ _ _) kσ8_727

set_option maxRecDepth 100000 in
theorem kr_X12_who {N : Nat} {K len : Nat → Nat} {σ : SG} {ρ : RG} (hL : Lay N K len ρ) : kp (F_X12_who σ ρ) (fun q => KR σ q.2) := by
  unfold F_X12_who
  refine kp_bn (kr_X12_keeps hL) (fun σ1_712 hσ1_712 => ?_)
  have kσ1_712 : KR σ σ1_712 := kr_trans (kr_refl _) hσ1_712
  exact kp_tr2_kr (kr_X12_who_8 hL 1024 _ _ _) kσ1_712

set_option maxRecDepth 100000 in
theorem kr_X12_rowsFrom_B_13 {N : Nat} {K len : Nat → Nat} {R : Int32 → SG → RG → Option (SG)} {a1 : Int32} {ρ : RG} (hL : Lay N K len ρ) (hR : ∀ (y0 : Int32) (σ : SG), kp (R y0 σ ρ) (fun q => KR σ q)) : ∀ (n : Nat) (σ : SG) (v1 : Int32) (v2 : Int32), kp (F_X12_rowsFrom_B_13 R a1 n σ ρ v1 v2) (fun q => KR σ q) := by
  intro n
  induction n with
  | zero => intro σ v1 v2; exact kp_none
  | succ n ih =>
    intro σ v1 v2
    unfold F_X12_rowsFrom_B_13
    refine kp_if ?_ ?_
    · unfold F_X12_rowsFrom_B_43
      refine kp_nm (fun x19_732 _ => ?_)
      refine kp_nm (fun σ21_733 hσ21_733 => ?_)
      have kσ21_733 : KR σ σ21_733 := by rw [hσ21_733]; exact kr_trans (kr_refl _) (kr_lit (by decide))
      exact kp_some kσ21_733
    · refine kp_if ?_ ?_
      · refine kp_gd (fun _ => ?_)
        refine kp_gd (fun _ => ?_)
        refine kp_nm (fun σ26_734 hσ26_734 => ?_)
        have kσ26_734 : KR σ σ26_734 := by rw [hσ26_734]; exact kr_trans (kr_refl _) (kr_row (by decide))
        refine kp_nm (fun x27_735 _ => ?_)
        exact kp_tr_kr (ih _ _ _) kσ26_734
      · unfold F_X12_rowsFrom_B_43
        refine kp_nm (fun x19_736 _ => ?_)
        refine kp_nm (fun σ21_737 hσ21_737 => ?_)
        have kσ21_737 : KR σ σ21_737 := by rw [hσ21_737]; exact kr_trans (kr_refl _) (kr_lit (by decide))
        exact kp_some kσ21_737

set_option maxRecDepth 100000 in
theorem kr_X12_rowsFrom_B_61 {N : Nat} {K len : Nat → Nat} {R : Int32 → SG → RG → Option (SG)} {a1 : Int32} {ρ : RG} (hL : Lay N K len ρ) (hR : ∀ (y0 : Int32) (σ : SG), kp (R y0 σ ρ) (fun q => KR σ q)) : ∀ (n : Nat) (σ : SG) (v1 : Int32) (v2 : Int32), kp (F_X12_rowsFrom_B_61 R a1 n σ ρ v1 v2) (fun q => KR σ q) := by
  intro n
  induction n with
  | zero => intro σ v1 v2; exact kp_none
  | succ n ih =>
    intro σ v1 v2
    unfold F_X12_rowsFrom_B_61
    refine kp_if ?_ ?_
    · exact kp_some (kr_refl _)
    · refine kp_nm (fun x4_739 _ => ?_)
      refine kp_gd (fun _ => ?_)
      refine kp_bn2 (kr_X12_cuts hL) (fun r6_740 σ6_741 hr6_740 => ?_)
      have kσ6_741 : KR σ σ6_741 := kr_trans (kr_refl _) hr6_740
      refine kp_if ?_ ?_
      · unfold F_X12_rowsFrom_B_121
        refine kp_bn (kr_X12_standsBack hL) (fun σ8_742 hσ8_742 => ?_)
        have kσ8_742 : KR σ σ8_742 := kr_trans kσ6_741 hσ8_742
        refine kp_nm (fun x9_743 _ => ?_)
        exact kp_tr_kr (ih _ _ _) kσ8_742
      · refine kp_nm (fun x10_744 _ => ?_)
        refine kp_gd (fun _ => ?_)
        refine kp_if ?_ ?_
        · refine kp_gd (fun _ => ?_)
          refine kp_nm (fun σ15_745 hσ15_745 => ?_)
          have kσ15_745 : KR σ σ15_745 := by rw [hσ15_745]; exact kr_trans kσ6_741 (kr_row (by decide))
          refine kp_nm (fun x16_746 _ => ?_)
          refine kp_bn (hR _ _) (fun σ17_747 hσ17_747 => ?_)
          have kσ17_747 : KR σ σ17_747 := kr_trans kσ15_745 hσ17_747
          unfold F_X12_rowsFrom_B_121
          refine kp_bn (kr_X12_standsBack hL) (fun σ8_748 hσ8_748 => ?_)
          have kσ8_748 : KR σ σ8_748 := kr_trans kσ17_747 hσ8_748
          refine kp_nm (fun x9_749 _ => ?_)
          exact kp_tr_kr (ih _ _ _) kσ8_748
        · unfold F_X12_rowsFrom_B_121
          refine kp_bn (kr_X12_standsBack hL) (fun σ8_750 hσ8_750 => ?_)
          have kσ8_750 : KR σ σ8_750 := kr_trans kσ6_741 hσ8_750
          refine kp_nm (fun x9_751 _ => ?_)
          exact kp_tr_kr (ih _ _ _) kσ8_750

set_option maxRecDepth 100000 in
theorem kr_X12_rowsFrom_B {N : Nat} {K len : Nat → Nat} {R : Int32 → SG → RG → Option (SG)} {a1 : Int32} {σ : SG} {ρ : RG} (hL : Lay N K len ρ) (hR : ∀ (y0 : Int32) (σ : SG), kp (R y0 σ ρ) (fun q => KR σ q)) : kp (F_X12_rowsFrom_B R a1 σ ρ) (fun q => KR σ q) := by
  unfold F_X12_rowsFrom_B
  refine kp_if ?_ ?_
  · exact kp_tr_kr (kr_X12_rowsFrom_B_13 hL hR 1024 _ _ _) (kr_refl _)
  · refine kp_bn (kr_X12_stands hL) (fun σ2_738 hσ2_738 => ?_)
    have kσ2_738 : KR σ σ2_738 := kr_trans (kr_refl _) hσ2_738
    exact kp_tr_kr (kr_X12_rowsFrom_B_61 hL hR 1024 _ _ _) kσ2_738

theorem kr_X12_rowsFrom_R {N : Nat} {K len : Nat → Nat} {ρ : RG} (hL : Lay N K len ρ) : ∀ (d : Nat) (a1 : Int32) (σ : SG), kp (F_X12_rowsFrom_R d a1 σ ρ) (fun q => KR σ q) := by
  intro d
  induction d with
  | zero => intro a1 σ; exact kp_none
  | succ d ih =>
    intro a1 σ
    exact kr_X12_rowsFrom_B hL ih

theorem kr_X12_rowsFrom {N : Nat} {K len : Nat → Nat} {a1 : Int32} {σ : SG} {ρ : RG} (hL : Lay N K len ρ) : kp (F_X12_rowsFrom a1 σ ρ) (fun q => KR σ q) := kr_X12_rowsFrom_R hL _ _ _

set_option maxRecDepth 100000 in
theorem kr_X12_rows_13 {N : Nat} {K len : Nat → Nat} {a1 : Int32} {ρ : RG} (hL : Lay N K len ρ) : ∀ (n : Nat) (σ : SG) (v1 : Int32) (v2 : Int32), kp (F_X12_rows_13 a1 n σ ρ v1 v2) (fun q => KR σ q.2) := by
  intro n
  induction n with
  | zero => intro σ v1 v2; exact kp_none
  | succ n ih =>
    intro σ v1 v2
    unfold F_X12_rows_13
    refine kp_if ?_ ?_
    · refine kp_nm (fun σ5_730 hσ5_730 => ?_)
      have kσ5_730 : KR σ σ5_730 := by rw [hσ5_730]; exact kr_trans (kr_refl _) (kr_lit (by decide))
      refine kp_bn (kr_X12_rowsFrom hL) (fun σ6_731 hσ6_731 => ?_)
      have kσ6_731 : KR σ σ6_731 := kr_trans kσ5_730 hσ6_731
      refine kp_if ?_ ?_
      · exact kp_some kσ6_731
      · refine kp_gd (fun _ => ?_)
        exact kp_some kσ6_731
    · refine kp_gd (fun _ => ?_)
      refine kp_nm (fun σ11_752 hσ11_752 => ?_)
      have kσ11_752 : KR σ σ11_752 := by rw [hσ11_752]; exact kr_trans (kr_refl _) (kr_row (by decide))
      refine kp_nm (fun x12_753 _ => ?_)
      exact kp_tr2_kr (ih _ _ _) kσ11_752

set_option maxRecDepth 100000 in
theorem kr_X12_rows {N : Nat} {K len : Nat → Nat} {a1 : Int32} {σ : SG} {ρ : RG} (hL : Lay N K len ρ) : kp (F_X12_rows a1 σ ρ) (fun q => KR σ q.2) := by
  unfold F_X12_rows
  refine kp_bx (fun r1_729 => ?_)
  refine kp_if ?_ ?_
  · exact kp_some (kr_refl _)
  · exact kp_tr2_kr (kr_X12_rows_13 hL 1024 _ _ _) (kr_refl _)

set_option maxRecDepth 100000 in
theorem kr_X12_goodRows_B_17 {N : Nat} {K len : Nat → Nat} {R : Int32 → Int32 → SG → RG → Option (Int64 × SG)} {a1 : Int32} {a2 : Int32} {ρ : RG} (hL : Lay N K len ρ) (hR : ∀ (y0 : Int32) (y1 : Int32) (σ : SG), kp (R y0 y1 σ ρ) (fun q => KR σ q.2)) : ∀ (n : Nat) (σ : SG) (v1 : Int32) (v2 : Int32) (v3 : Int64) (v5 : Int32), kp (F_X12_goodRows_B_17 R a1 a2 n σ ρ v1 v2 v3 v5) (fun q => KR σ q.2) := by
  intro n
  induction n with
  | zero => intro σ v1 v2 v3 v5; exact kp_none
  | succ n ih =>
    intro σ v1 v2 v3 v5
    unfold F_X12_goodRows_B_17
    refine kp_if ?_ ?_
    · exact kp_some (kr_refl _)
    · refine kp_nm (fun x4_759 _ => ?_)
      refine kp_gd (fun _ => ?_)
      refine kp_bn2 (kr_X12_cuts hL) (fun r6_760 σ6_761 hr6_760 => ?_)
      have kσ6_761 : KR σ σ6_761 := kr_trans (kr_refl _) hr6_760
      refine kp_if ?_ ?_
      · unfold F_X12_goodRows_B_66
        refine kp_bn (kr_X12_standsBack hL) (fun σ8_762 hσ8_762 => ?_)
        have kσ8_762 : KR σ σ8_762 := kr_trans kσ6_761 hσ8_762
        refine kp_nm (fun x9_763 _ => ?_)
        exact kp_tr2_kr (ih _ _ _ _ _) kσ8_762
      · refine kp_bx (fun r10_764 => ?_)
        refine kp_if ?_ ?_
        · unfold F_X12_goodRows_B_66
          refine kp_bn (kr_X12_standsBack hL) (fun σ8_765 hσ8_765 => ?_)
          have kσ8_765 : KR σ σ8_765 := kr_trans kσ6_761 hσ8_765
          refine kp_nm (fun x9_766 _ => ?_)
          exact kp_tr2_kr (ih _ _ _ _ _) kσ8_765
        · refine kp_nm (fun x12_767 _ => ?_)
          refine kp_bn2 (hR _ _ _) (fun r13_768 σ13_769 hr13_768 => ?_)
          have kσ13_769 : KR σ σ13_769 := kr_trans kσ6_761 hr13_768
          refine kp_nm (fun x14_770 _ => ?_)
          unfold F_X12_goodRows_B_66
          refine kp_bn (kr_X12_standsBack hL) (fun σ8_771 hσ8_771 => ?_)
          have kσ8_771 : KR σ σ8_771 := kr_trans kσ13_769 hσ8_771
          refine kp_nm (fun x9_772 _ => ?_)
          exact kp_tr2_kr (ih _ _ _ _ _) kσ8_771

set_option maxRecDepth 100000 in
theorem kr_X12_goodRows_B {N : Nat} {K len : Nat → Nat} {R : Int32 → Int32 → SG → RG → Option (Int64 × SG)} {a1 : Int32} {a2 : Int32} {σ : SG} {ρ : RG} (hL : Lay N K len ρ) (hR : ∀ (y0 : Int32) (y1 : Int32) (σ : SG), kp (R y0 y1 σ ρ) (fun q => KR σ q.2)) : kp (F_X12_goodRows_B R a1 a2 σ ρ) (fun q => KR σ q.2) := by
  unfold F_X12_goodRows_B
  refine kp_if ?_ ?_
  · exact kp_some (kr_refl _)
  · refine kp_bn (kr_X12_stands hL) (fun σ2_758 hσ2_758 => ?_)
    have kσ2_758 : KR σ σ2_758 := kr_trans (kr_refl _) hσ2_758
    exact kp_tr2_kr (kr_X12_goodRows_B_17 hL hR 1024 _ _ _ _ _) kσ2_758

theorem kr_X12_goodRows_R {N : Nat} {K len : Nat → Nat} {ρ : RG} (hL : Lay N K len ρ) : ∀ (d : Nat) (a1 : Int32) (a2 : Int32) (σ : SG), kp (F_X12_goodRows_R d a1 a2 σ ρ) (fun q => KR σ q.2) := by
  intro d
  induction d with
  | zero => intro a1 a2 σ; exact kp_none
  | succ d ih =>
    intro a1 a2 σ
    exact kr_X12_goodRows_B hL ih

theorem kr_X12_goodRows {N : Nat} {K len : Nat → Nat} {a1 : Int32} {a2 : Int32} {σ : SG} {ρ : RG} (hL : Lay N K len ρ) : kp (F_X12_goodRows a1 a2 σ ρ) (fun q => KR σ q.2) := kr_X12_goodRows_R hL _ _ _ _

set_option maxRecDepth 100000 in
theorem kr_X12_odds_37 {N : Nat} {K len : Nat → Nat} {a1 : Int32} {a2 : Int32} {ρ : RG} (hL : Lay N K len ρ) : ∀ (n : Nat) (σ : SG) (v1 : Int32) (v2 : Int32) (v3 : Int64) (v5 : Int32), kp (F_X12_odds_37 a1 a2 n σ ρ v1 v2 v3 v5) (fun q => KR σ q.2) := by
  intro n
  induction n with
  | zero => intro σ v1 v2 v3 v5; exact kp_none
  | succ n ih =>
    intro σ v1 v2 v3 v5
    unfold F_X12_odds_37
    refine kp_if ?_ ?_
    · refine kp_bn2 (kr_X12_goodRows hL) (fun r7_756 σ7_757 hr7_756 => ?_)
      have kσ7_757 : KR σ σ7_757 := kr_trans (kr_refl _) hr7_756
      refine kp_bx (fun r8_773 => ?_)
      exact kp_some kσ7_757
    · refine kp_nm (fun x9_774 _ => ?_)
      refine kp_nm (fun x10_775 _ => ?_)
      exact kp_tr2_kr (ih _ _ _ _ _) (kr_refl _)

set_option maxRecDepth 100000 in
theorem kr_X12_odds {N : Nat} {K len : Nat → Nat} {a1 : Int32} {a2 : Int32} {σ : SG} {ρ : RG} (hL : Lay N K len ρ) : kp (F_X12_odds a1 a2 σ ρ) (fun q => KR σ q.2) := by
  unfold F_X12_odds
  refine kp_bx (fun r1_754 => ?_)
  refine kp_if ?_ ?_
  · exact kp_some (kr_refl _)
  · refine kp_bx (fun r3_755 => ?_)
    refine kp_if ?_ ?_
    · exact kp_some (kr_refl _)
    · refine kp_if ?_ ?_
      · exact kp_some (kr_refl _)
      · exact kp_tr2_kr (kr_X12_odds_37 hL 1024 _ _ _ _ _) (kr_refl _)

set_option maxRecDepth 100000 in
theorem kr_X12_mean_32 {N : Nat} {K len : Nat → Nat} {a1 : Int32} {ρ : RG} (hL : Lay N K len ρ) : ∀ (n : Nat) (σ : SG) (v1 : Int32) (v2 : Int64) (v4 : Int32), kp (F_X12_mean_32 a1 n σ ρ v1 v2 v4) (fun q => KR σ q.2) := by
  intro n
  induction n with
  | zero => intro σ v1 v2 v4; exact kp_none
  | succ n ih =>
    intro σ v1 v2 v4
    unfold F_X12_mean_32
    refine kp_if ?_ ?_
    · refine kp_bx (fun r6_778 => ?_)
      exact kp_some (kr_refl _)
    · refine kp_nm (fun x7_779 _ => ?_)
      refine kp_gd (fun _ => ?_)
      refine kp_bn2 (kr_X12_cuts hL) (fun r9_780 σ9_781 hr9_780 => ?_)
      have kσ9_781 : KR σ σ9_781 := kr_trans (kr_refl _) hr9_780
      refine kp_if ?_ ?_
      · unfold F_X12_mean_73
        refine kp_nm (fun x11_782 _ => ?_)
        refine kp_bn (kr_X12_goesBack hL) (fun σ12_783 hσ12_783 => ?_)
        have kσ12_783 : KR σ σ12_783 := kr_trans kσ9_781 hσ12_783
        refine kp_nm (fun x13_784 _ => ?_)
        exact kp_tr2_kr (ih _ _ _ _) kσ12_783
      · unfold F_X12_mean_73
        refine kp_nm (fun x11_785 _ => ?_)
        refine kp_bn (kr_X12_goesBack hL) (fun σ12_786 hσ12_786 => ?_)
        have kσ12_786 : KR σ σ12_786 := kr_trans kσ9_781 hσ12_786
        refine kp_nm (fun x13_787 _ => ?_)
        exact kp_tr2_kr (ih _ _ _ _) kσ12_786

set_option maxRecDepth 100000 in
theorem kr_X12_mean {N : Nat} {K len : Nat → Nat} {a1 : Int32} {σ : SG} {ρ : RG} (hL : Lay N K len ρ) : kp (F_X12_mean a1 σ ρ) (fun q => KR σ q.2) := by
  unfold F_X12_mean
  refine kp_bx (fun r1_776 => ?_)
  refine kp_if ?_ ?_
  · exact kp_some (kr_refl _)
  · refine kp_if ?_ ?_
    · exact kp_some (kr_refl _)
    · refine kp_bn (kr_X12_keeps hL) (fun σ4_777 hσ4_777 => ?_)
      have kσ4_777 : KR σ σ4_777 := kr_trans (kr_refl _) hσ4_777
      exact kp_tr2_kr (kr_X12_mean_32 hL 1024 _ _ _ _) kσ4_777

set_option maxRecDepth 100000 in
theorem kr_X12_book {N : Nat} {K len : Nat → Nat} {a1 : Int32} {a2 : Int32} {σ : SG} {ρ : RG} (hL : Lay N K len ρ) : kp (F_X12_book a1 a2 σ ρ) (fun q => KR σ q.2) := by
  unfold F_X12_book
  refine kp_if ?_ ?_
  · refine kp_nm (fun σ19_788 hσ19_788 => ?_)
    have kσ19_788 : KR σ σ19_788 := by rw [hσ19_788]; exact kr_trans (kr_refl _) (kr_lit (by decide))
    exact kp_some kσ19_788
  · refine kp_bx (fun r2_789 => ?_)
    refine kp_if ?_ ?_
    · exact kp_some (kr_refl _)
    · refine kp_bx (fun r4_790 => ?_)
      refine kp_if ?_ ?_
      · exact kp_some (kr_refl _)
      · refine kp_if ?_ ?_
        · exact kp_some (kr_refl _)
        · refine kp_nm (fun x7_791 _ => ?_)
          refine kp_gd (fun _ => ?_)
          refine kp_nm (fun σ10_792 hσ10_792 => ?_)
          have kσ10_792 : KR σ σ10_792 := by rw [hσ10_792]; exact kr_trans (kr_refl _) (kr_row (by decide))
          refine kp_nm (fun x11_793 _ => ?_)
          refine kp_gd (fun _ => ?_)
          refine kp_nm (fun σ14_794 hσ14_794 => ?_)
          have kσ14_794 : KR σ σ14_794 := by rw [hσ14_794]; exact kr_trans kσ10_792 (kr_row (by decide))
          refine kp_nm (fun x15_795 _ => ?_)
          refine kp_nm (fun σ17_796 hσ17_796 => ?_)
          have kσ17_796 : KR σ σ17_796 := by rw [hσ17_796]; exact kr_trans kσ14_794 (kr_lit (by decide))
          exact kp_some kσ17_796

set_option maxRecDepth 100000 in
theorem kr_X12_looked_9 {N : Nat} {K len : Nat → Nat} {ρ : RG} (hL : Lay N K len ρ) : ∀ (n : Nat) (σ : SG) (v1 : Int32) (v2 : Int32), kp (F_X12_looked_9 n σ ρ v1 v2) (fun q => KR σ q.2) := by
  intro n
  induction n with
  | zero => intro σ v1 v2; exact kp_none
  | succ n ih =>
    intro σ v1 v2
    unfold F_X12_looked_9
    refine kp_if ?_ ?_
    · refine kp_bn (kr_X12_goesBack hL) (fun σ3_798 hσ3_798 => ?_)
      have kσ3_798 : KR σ σ3_798 := kr_trans (kr_refl _) hσ3_798
      exact kp_some kσ3_798
    · refine kp_if ?_ ?_
      · refine kp_nm (fun x6_799 _ => ?_)
        refine kp_gd (fun _ => ?_)
        refine kp_nm (fun x8_800 _ => ?_)
        refine kp_gd (fun _ => ?_)
        refine kp_bn2 (kr_X12_cuts hL) (fun r10_801 σ10_802 hr10_801 => ?_)
        have kσ10_802 : KR σ σ10_802 := kr_trans (kr_refl _) hr10_801
        refine kp_if ?_ ?_
        · unfold F_X12_looked_69
          unfold F_X12_looked_75
          refine kp_nm (fun x12_803 _ => ?_)
          exact kp_tr2_kr (ih _ _ _) kσ10_802
        · refine kp_nm (fun x13_804 _ => ?_)
          refine kp_gd (fun _ => ?_)
          refine kp_if ?_ ?_
          · unfold F_X12_looked_75
            refine kp_nm (fun x12_805 _ => ?_)
            exact kp_tr2_kr (ih _ _ _) kσ10_802
          · unfold F_X12_looked_69
            unfold F_X12_looked_75
            refine kp_nm (fun x12_806 _ => ?_)
            exact kp_tr2_kr (ih _ _ _) kσ10_802
      · refine kp_bn (kr_X12_goesBack hL) (fun σ5_807 hσ5_807 => ?_)
        have kσ5_807 : KR σ σ5_807 := kr_trans (kr_refl _) hσ5_807
        exact kp_some kσ5_807

set_option maxRecDepth 100000 in
theorem kr_X12_looked {N : Nat} {K len : Nat → Nat} {σ : SG} {ρ : RG} (hL : Lay N K len ρ) : kp (F_X12_looked σ ρ) (fun q => KR σ q.2) := by
  unfold F_X12_looked
  refine kp_bn (kr_X12_keeps hL) (fun σ1_797 hσ1_797 => ?_)
  have kσ1_797 : KR σ σ1_797 := kr_trans (kr_refl _) hσ1_797
  exact kp_tr2_kr (kr_X12_looked_9 hL 1024 _ _ _) kσ1_797

set_option maxRecDepth 100000 in
theorem kr_X12_ranBody {N : Nat} {K len : Nat → Nat} {a1 : Int32} {σ : SG} {ρ : RG} (hL : Lay N K len ρ) : kp (F_X12_ranBody a1 σ ρ) (fun q => KR σ q) := by
  unfold F_X12_ranBody
  refine kp_if ?_ ?_
  · unfold F_X12_ranBody_19
    refine kp_nm (fun x2_820 _ => ?_)
    refine kp_nm (fun σ4_821 hσ4_821 => ?_)
    have kσ4_821 : KR σ σ4_821 := by rw [hσ4_821]; exact kr_trans (kr_refl _) (kr_lit (by decide))
    exact kp_some kσ4_821
  · refine kp_gd (fun _ => ?_)
    refine kp_nm (fun σ7_822 hσ7_822 => ?_)
    have kσ7_822 : KR σ σ7_822 := by rw [hσ7_822]; exact kr_trans (kr_refl _) (kr_row (by decide))
    unfold F_X12_ranBody_19
    refine kp_nm (fun x2_823 _ => ?_)
    refine kp_nm (fun σ4_824 hσ4_824 => ?_)
    have kσ4_824 : KR σ σ4_824 := by rw [hσ4_824]; exact kr_trans kσ7_822 (kr_lit (by decide))
    exact kp_some kσ4_824

set_option maxRecDepth 100000 in
theorem kr_X12_plainCuts {N : Nat} {K len : Nat → Nat} {a1 : Int32} {σ : SG} {ρ : RG} (hL : Lay N K len ρ) : kp (F_X12_plainCuts a1 σ ρ) (fun q => KR σ q.2) := by
  unfold F_X12_plainCuts
  refine kp_bn (kr_X12_ranBody hL) (fun σ1_827 hσ1_827 => ?_)
  have kσ1_827 : KR σ σ1_827 := kr_trans (kr_refl _) hσ1_827
  refine kp_nm (fun x2_828 _ => ?_)
  exact kp_some kσ1_827

set_option maxRecDepth 100000 in
theorem kr_X12_cutsActs {N : Nat} {K len : Nat → Nat} {a1 : Int32} {σ : SG} {ρ : RG} (hL : Lay N K len ρ) : kp (F_X12_cutsActs a1 σ ρ) (fun q => KR σ q.2) := by
  unfold F_X12_cutsActs
  refine kp_bx (fun r1_818 => ?_)
  refine kp_if ?_ ?_
  · refine kp_if ?_ ?_
    · refine kp_bn (kr_X12_ranBody hL) (fun σ5_819 hσ5_819 => ?_)
      have kσ5_819 : KR σ σ5_819 := kr_trans (kr_refl _) hσ5_819
      refine kp_bn2 (kr_X12_plainCuts hL) (fun r6_825 σ6_826 hr6_825 => ?_)
      have kσ6_826 : KR σ σ6_826 := kr_trans kσ5_819 hr6_825
      refine kp_nm (fun x7_829 _ => ?_)
      exact kp_some kσ6_826
    · refine kp_bn2 (kr_X12_plainCuts hL) (fun r4_830 σ4_831 hr4_830 => ?_)
      have kσ4_831 : KR σ σ4_831 := kr_trans (kr_refl _) hr4_830
      exact kp_some kσ4_831
  · refine kp_bn (kr_X12_ranBody hL) (fun σ8_832 hσ8_832 => ?_)
    have kσ8_832 : KR σ σ8_832 := kr_trans (kr_refl _) hσ8_832
    refine kp_nm (fun x9_833 _ => ?_)
    refine kp_bn2 (kr_X12_plainCuts hL) (fun r10_834 σ10_835 hr10_834 => ?_)
    have kσ10_835 : KR σ σ10_835 := kr_trans kσ8_832 hr10_834
    exact kp_some kσ10_835

set_option maxRecDepth 100000 in
theorem kr_X12_plainEats {N : Nat} {K len : Nat → Nat} {a1 : Int32} {σ : SG} {ρ : RG} (hL : Lay N K len ρ) : kp (F_X12_plainEats a1 σ ρ) (fun q => KR σ q.2) := by
  unfold F_X12_plainEats
  refine kp_bn (kr_X12_ranBody hL) (fun σ1_842 hσ1_842 => ?_)
  have kσ1_842 : KR σ σ1_842 := kr_trans (kr_refl _) hσ1_842
  refine kp_bn2 (kr_X12_cutsActs hL) (fun r2_843 σ2_844 hr2_843 => ?_)
  have kσ2_844 : KR σ σ2_844 := kr_trans kσ1_842 hr2_843
  refine kp_nm (fun x3_845 _ => ?_)
  exact kp_some kσ2_844

set_option maxRecDepth 100000 in
theorem kr_X12_eatsActs {N : Nat} {K len : Nat → Nat} {a1 : Int32} {σ : SG} {ρ : RG} (hL : Lay N K len ρ) : kp (F_X12_eatsActs a1 σ ρ) (fun q => KR σ q.2) := by
  unfold F_X12_eatsActs
  refine kp_bx (fun r1_838 => ?_)
  refine kp_if ?_ ?_
  · refine kp_if ?_ ?_
    · refine kp_bn (kr_X12_ranBody hL) (fun σ5_839 hσ5_839 => ?_)
      have kσ5_839 : KR σ σ5_839 := kr_trans (kr_refl _) hσ5_839
      refine kp_bn2 (kr_X12_plainEats hL) (fun r6_840 σ6_841 hr6_840 => ?_)
      have kσ6_841 : KR σ σ6_841 := kr_trans kσ5_839 hr6_840
      refine kp_nm (fun x7_846 _ => ?_)
      exact kp_some kσ6_841
    · refine kp_bn2 (kr_X12_plainEats hL) (fun r4_847 σ4_848 hr4_847 => ?_)
      have kσ4_848 : KR σ σ4_848 := kr_trans (kr_refl _) hr4_847
      exact kp_some kσ4_848
  · refine kp_bn (kr_X12_ranBody hL) (fun σ8_849 hσ8_849 => ?_)
    have kσ8_849 : KR σ σ8_849 := kr_trans (kr_refl _) hσ8_849
    refine kp_bn2 (kr_X12_plainEats hL) (fun r9_850 σ9_851 hr9_850 => ?_)
    have kσ9_851 : KR σ σ9_851 := kr_trans kσ8_849 hr9_850
    refine kp_nm (fun x10_852 _ => ?_)
    exact kp_some kσ9_851

set_option maxRecDepth 100000 in
theorem kr_X12_plainTells {N : Nat} {K len : Nat → Nat} {a1 : Int32} {σ : SG} {ρ : RG} (hL : Lay N K len ρ) : kp (F_X12_plainTells a1 σ ρ) (fun q => KR σ q.2) := by
  unfold F_X12_plainTells
  refine kp_bn (kr_X12_ranBody hL) (fun σ1_860 hσ1_860 => ?_)
  have kσ1_860 : KR σ σ1_860 := kr_trans (kr_refl _) hσ1_860
  refine kp_bn2 (kr_X12_eatsActs hL) (fun r2_861 σ2_862 hr2_861 => ?_)
  have kσ2_862 : KR σ σ2_862 := kr_trans kσ1_860 hr2_861
  refine kp_nm (fun x3_863 _ => ?_)
  exact kp_some kσ2_862

set_option maxRecDepth 100000 in
theorem kr_X12_tellsActs {N : Nat} {K len : Nat → Nat} {a1 : Int32} {σ : SG} {ρ : RG} (hL : Lay N K len ρ) : kp (F_X12_tellsActs a1 σ ρ) (fun q => KR σ q.2) := by
  unfold F_X12_tellsActs
  refine kp_bx (fun r1_855 => ?_)
  refine kp_if ?_ ?_
  · refine kp_if ?_ ?_
    · refine kp_bn (kr_X12_ranBody hL) (fun σ5_856 hσ5_856 => ?_)
      have kσ5_856 : KR σ σ5_856 := kr_trans (kr_refl _) hσ5_856
      refine kp_nm (fun x6_857 _ => ?_)
      refine kp_bn2 (kr_X12_plainTells hL) (fun r7_858 σ7_859 hr7_858 => ?_)
      have kσ7_859 : KR σ σ7_859 := kr_trans kσ5_856 hr7_858
      refine kp_bn2 (kr_X12_cutsActs hL) (fun r8_864 σ8_865 hr8_864 => ?_)
      have kσ8_865 : KR σ σ8_865 := kr_trans kσ7_859 hr8_864
      refine kp_nm (fun x9_866 _ => ?_)
      exact kp_some kσ8_865
    · refine kp_bn2 (kr_X12_plainTells hL) (fun r4_867 σ4_868 hr4_867 => ?_)
      have kσ4_868 : KR σ σ4_868 := kr_trans (kr_refl _) hr4_867
      exact kp_some kσ4_868
  · refine kp_bn (kr_X12_ranBody hL) (fun σ10_869 hσ10_869 => ?_)
    have kσ10_869 : KR σ σ10_869 := kr_trans (kr_refl _) hσ10_869
    refine kp_bn2 (kr_X12_plainTells hL) (fun r11_870 σ11_871 hr11_870 => ?_)
    have kσ11_871 : KR σ σ11_871 := kr_trans kσ10_869 hr11_870
    refine kp_nm (fun x12_872 _ => ?_)
    exact kp_some kσ11_871

set_option maxRecDepth 100000 in
theorem kr_X12_act {N : Nat} {K len : Nat → Nat} {a1 : Int32} {a2 : Int32} {a3 : Int32} {σ : SG} {ρ : RG} (hL : Lay N K len ρ) : kp (F_X12_act a1 a2 a3 σ ρ) (fun q => KR σ q.2) := by
  unfold F_X12_act
  refine kp_nm (fun σ2_808 hσ2_808 => ?_)
  have kσ2_808 : KR σ σ2_808 := by rw [hσ2_808]; exact kr_trans (kr_refl _) (kr_lit (by decide))
  refine kp_bx (fun r3_809 => ?_)
  refine kp_if ?_ ?_
  · exact kp_some kσ2_808
  · refine kp_bx (fun r5_810 => ?_)
    refine kp_if ?_ ?_
    · exact kp_some kσ2_808
    · refine kp_nm (fun x7_811 _ => ?_)
      refine kp_gd (fun _ => ?_)
      refine kp_nm (fun σ10_812 hσ10_812 => ?_)
      have kσ10_812 : KR σ σ10_812 := by rw [hσ10_812]; exact kr_trans kσ2_808 (kr_lit (by decide))
      refine kp_nm (fun σ12_813 hσ12_813 => ?_)
      have kσ12_813 : KR σ σ12_813 := by rw [hσ12_813]; exact kr_trans kσ10_812 (kr_lit (by decide))
      refine kp_nm (fun x13_814 _ => ?_)
      refine kp_gd (fun _ => ?_)
      refine kp_nm (fun σ16_815 hσ16_815 => ?_)
      have kσ16_815 : KR σ σ16_815 := by rw [hσ16_815]; exact kr_trans kσ12_813 (kr_lit (by decide))
      refine kp_if ?_ ?_
      · refine kp_bn2 (kr_X12_cutsActs hL) (fun r21_816 σ21_817 hr21_816 => ?_)
        have kσ21_817 : KR σ σ21_817 := kr_trans kσ16_815 hr21_816
        exact kp_some kσ21_817
      · refine kp_if ?_ ?_
        · refine kp_bn2 (kr_X12_eatsActs hL) (fun r20_836 σ20_837 hr20_836 => ?_)
          have kσ20_837 : KR σ σ20_837 := kr_trans kσ16_815 hr20_836
          exact kp_some kσ20_837
        · refine kp_bn2 (kr_X12_tellsActs hL) (fun r19_853 σ19_854 hr19_853 => ?_)
          have kσ19_854 : KR σ σ19_854 := kr_trans kσ16_815 hr19_853
          exact kp_some kσ19_854

set_option maxRecDepth 100000 in
theorem kr_X12_must {N : Nat} {K len : Nat → Nat} {a1 : Int32} {σ : SG} {ρ : RG} (hL : Lay N K len ρ) : kp (F_X12_must a1 σ ρ) (fun q => KR σ q) := by
  unfold F_X12_must
  refine kp_if ?_ ?_
  · refine kp_bx (fun r11_892 => ?_)
    refine kp_if ?_ ?_
    · unfold F_X12_must_21
      refine kp_gd (fun _ => ?_)
      refine kp_nm (fun σ3_893 hσ3_893 => ?_)
      have kσ3_893 : KR σ σ3_893 := by rw [hσ3_893]; exact kr_trans (kr_refl _) (kr_lit (by decide))
      refine kp_if ?_ ?_
      · refine kp_nm (fun x5_894 _ => ?_)
        refine kp_nm (fun σ7_895 hσ7_895 => ?_)
        have kσ7_895 : KR σ σ7_895 := by rw [hσ7_895]; exact kr_trans kσ3_893 (kr_lit (by decide))
        exact kp_some kσ7_895
      · refine kp_nm (fun x8_896 _ => ?_)
        refine kp_nm (fun σ10_897 hσ10_897 => ?_)
        have kσ10_897 : KR σ σ10_897 := by rw [hσ10_897]; exact kr_trans kσ3_893 (kr_lit (by decide))
        exact kp_some kσ10_897
    · unfold F_X12_must_16
      unfold F_X12_must_21
      refine kp_gd (fun _ => ?_)
      refine kp_nm (fun σ3_898 hσ3_898 => ?_)
      have kσ3_898 : KR σ σ3_898 := by rw [hσ3_898]; exact kr_trans (kr_refl _) (kr_lit (by decide))
      refine kp_if ?_ ?_
      · refine kp_nm (fun x5_899 _ => ?_)
        refine kp_nm (fun σ7_900 hσ7_900 => ?_)
        have kσ7_900 : KR σ σ7_900 := by rw [hσ7_900]; exact kr_trans kσ3_898 (kr_lit (by decide))
        exact kp_some kσ7_900
      · refine kp_nm (fun x8_901 _ => ?_)
        refine kp_nm (fun σ10_902 hσ10_902 => ?_)
        have kσ10_902 : KR σ σ10_902 := by rw [hσ10_902]; exact kr_trans kσ3_898 (kr_lit (by decide))
        exact kp_some kσ10_902
  · unfold F_X12_must_16
    unfold F_X12_must_21
    refine kp_gd (fun _ => ?_)
    refine kp_nm (fun σ3_903 hσ3_903 => ?_)
    have kσ3_903 : KR σ σ3_903 := by rw [hσ3_903]; exact kr_trans (kr_refl _) (kr_lit (by decide))
    refine kp_if ?_ ?_
    · refine kp_nm (fun x5_904 _ => ?_)
      refine kp_nm (fun σ7_905 hσ7_905 => ?_)
      have kσ7_905 : KR σ σ7_905 := by rw [hσ7_905]; exact kr_trans kσ3_903 (kr_lit (by decide))
      exact kp_some kσ7_905
    · refine kp_nm (fun x8_906 _ => ?_)
      refine kp_nm (fun σ10_907 hσ10_907 => ?_)
      have kσ10_907 : KR σ σ10_907 := by rw [hσ10_907]; exact kr_trans kσ3_903 (kr_lit (by decide))
      exact kp_some kσ10_907

set_option maxRecDepth 100000 in
theorem kr_X12_spells_2 {N : Nat} {K len : Nat → Nat} {w : Nat} {ρ : RG} (hL : Lay N K len ρ) : ∀ (n : Nat) (σ : SG) (v2 : Int32), kp (F_X12_spells_2 w n σ ρ v2) (fun q => KR σ q) := by
  intro n
  induction n with
  | zero => intro σ v2; exact kp_none
  | succ n ih =>
    intro σ v2
    unfold F_X12_spells_2
    refine kp_bx (fun r1_889 => ?_)
    refine kp_if ?_ ?_
    · exact kp_some (kr_refl _)
    · refine kp_bx (fun r3_890 => ?_)
      refine kp_bn (kr_X12_must hL) (fun σ4_891 hσ4_891 => ?_)
      have kσ4_891 : KR σ σ4_891 := kr_trans (kr_refl _) hσ4_891
      refine kp_nm (fun x5_908 _ => ?_)
      exact kp_tr_kr (ih _ _) kσ4_891

set_option maxRecDepth 100000 in
theorem kr_X12_spells {N : Nat} {K len : Nat → Nat} {w : Nat} {σ : SG} {ρ : RG} (hL : Lay N K len ρ) : kp (F_X12_spells w σ ρ) (fun q => KR σ q) := by
  unfold F_X12_spells
  exact kp_tr_kr (kr_X12_spells_2 hL 1024 _ _) (kr_refl _)

set_option maxRecDepth 100000 in
theorem kr_X12_figures_34 {N : Nat} {K len : Nat → Nat} {ρ : RG} (hL : Lay N K len ρ) : ∀ (n : Nat) (σ : SG) (v1 : Int32) (v2 : Int32), kp (F_X12_figures_34 n σ ρ v1 v2) (fun q => KR σ q.2) := by
  intro n
  induction n with
  | zero => intro σ v1 v2; exact kp_none
  | succ n ih =>
    intro σ v1 v2
    unfold F_X12_figures_34
    refine kp_if ?_ ?_
    · exact kp_some (kr_refl _)
    · refine kp_if ?_ ?_
      · refine kp_bx (fun r6_914 => ?_)
        refine kp_bx (fun r7_915 => ?_)
        refine kp_if ?_ ?_
        · exact kp_some (kr_refl _)
        · refine kp_if ?_ ?_
          · unfold F_X12_figures_68
            refine kp_nm (fun x10_916 _ => ?_)
            refine kp_bx (fun r11_917 => ?_)
            refine kp_nm (fun x12_918 _ => ?_)
            refine kp_nm (fun x13_919 _ => ?_)
            refine kp_nm (fun x14_920 _ => ?_)
            refine kp_nm (fun σ16_921 hσ16_921 => ?_)
            have kσ16_921 : KR σ σ16_921 := by rw [hσ16_921]; exact kr_trans (kr_refl _) (kr_lit (by decide))
            refine kp_nm (fun x17_922 _ => ?_)
            exact kp_tr2_kr (ih _ _ _) kσ16_921
          · refine kp_if ?_ ?_
            · exact kp_some (kr_refl _)
            · unfold F_X12_figures_68
              refine kp_nm (fun x10_923 _ => ?_)
              refine kp_bx (fun r11_924 => ?_)
              refine kp_nm (fun x12_925 _ => ?_)
              refine kp_nm (fun x13_926 _ => ?_)
              refine kp_nm (fun x14_927 _ => ?_)
              refine kp_nm (fun σ16_928 hσ16_928 => ?_)
              have kσ16_928 : KR σ σ16_928 := by rw [hσ16_928]; exact kr_trans (kr_refl _) (kr_lit (by decide))
              refine kp_nm (fun x17_929 _ => ?_)
              exact kp_tr2_kr (ih _ _ _) kσ16_928
      · exact kp_some (kr_refl _)

set_option maxRecDepth 100000 in
theorem kr_X12_figures {N : Nat} {K len : Nat → Nat} {σ : SG} {ρ : RG} (hL : Lay N K len ρ) : kp (F_X12_figures σ ρ) (fun q => KR σ q.2) := by
  unfold F_X12_figures
  refine kp_if ?_ ?_
  · refine kp_bx (fun r19_911 => ?_)
    refine kp_bx (fun r20_912 => ?_)
    refine kp_if ?_ ?_
    · unfold F_X12_figures_22
      unfold F_X12_figures_27
      refine kp_gd (fun _ => ?_)
      refine kp_nm (fun σ3_913 hσ3_913 => ?_)
      have kσ3_913 : KR σ σ3_913 := by rw [hσ3_913]; exact kr_trans (kr_refl _) (kr_lit (by decide))
      exact kp_tr2_kr (kr_X12_figures_34 hL 1024 _ _ _) kσ3_913
    · unfold F_X12_figures_27
      refine kp_gd (fun _ => ?_)
      refine kp_nm (fun σ3_930 hσ3_930 => ?_)
      have kσ3_930 : KR σ σ3_930 := by rw [hσ3_930]; exact kr_trans (kr_refl _) (kr_lit (by decide))
      exact kp_tr2_kr (kr_X12_figures_34 hL 1024 _ _ _) kσ3_930
  · unfold F_X12_figures_22
    unfold F_X12_figures_27
    refine kp_gd (fun _ => ?_)
    refine kp_nm (fun σ3_931 hσ3_931 => ?_)
    have kσ3_931 : KR σ σ3_931 := by rw [hσ3_931]; exact kr_trans (kr_refl _) (kr_lit (by decide))
    exact kp_tr2_kr (kr_X12_figures_34 hL 1024 _ _ _) kσ3_931

set_option maxRecDepth 100000 in
theorem kr_X12_tellsHere {N : Nat} {K len : Nat → Nat} {a1 : Int32} {w : Nat} {σ : SG} {ρ : RG} (hL : Lay N K len ρ) : kp (F_X12_tellsHere a1 w σ ρ) (fun q => KR σ q) := by
  unfold F_X12_tellsHere
  refine kp_bn (kr_X12_spells hL) (fun σ1_888 hσ1_888 => ?_)
  have kσ1_888 : KR σ σ1_888 := kr_trans (kr_refl _) hσ1_888
  refine kp_bn2 (kr_X12_figures hL) (fun r2_909 σ2_910 hr2_909 => ?_)
  have kσ2_910 : KR σ σ2_910 := kr_trans kσ1_888 hr2_909
  refine kp_if ?_ ?_
  · refine kp_nm (fun x4_932 _ => ?_)
    refine kp_gd (fun _ => ?_)
    refine kp_nm (fun σ7_933 hσ7_933 => ?_)
    have kσ7_933 : KR σ σ7_933 := by rw [hσ7_933]; exact kr_trans kσ2_910 (kr_row (by decide))
    exact kp_some kσ7_933
  · exact kp_some kσ2_910

set_option maxRecDepth 100000 in
theorem kr_X12_emits {N : Nat} {K len : Nat → Nat} {a1 : Int32} {σ : SG} {ρ : RG} (hL : Lay N K len ρ) : kp (F_X12_emits a1 σ ρ) (fun q => KR σ q) := by
  unfold F_X12_emits
  refine kp_if ?_ ?_
  · refine kp_nm (fun x2_950 _ => ?_)
    refine kp_nm (fun x3_951 _ => ?_)
    refine kp_nm (fun x4_952 _ => ?_)
    refine kp_gd (fun _ => ?_)
    refine kp_nm (fun x6_953 _ => ?_)
    refine kp_gd (fun _ => ?_)
    refine kp_nm (fun σ9_954 hσ9_954 => ?_)
    have kσ9_954 : KR σ σ9_954 := by rw [hσ9_954]; exact kr_trans (kr_refl _) (kr_row (by decide))
    refine kp_nm (fun x10_955 _ => ?_)
    refine kp_gd (fun _ => ?_)
    refine kp_nm (fun x12_956 _ => ?_)
    refine kp_gd (fun _ => ?_)
    refine kp_nm (fun σ15_957 hσ15_957 => ?_)
    have kσ15_957 : KR σ σ15_957 := by rw [hσ15_957]; exact kr_trans kσ9_954 (kr_row (by decide))
    exact kp_some kσ15_957
  · exact kp_some (kr_refl _)

set_option maxRecDepth 100000 in
theorem kr_X12_every_B_4 {N : Nat} {K len : Nat → Nat} {R : SG → RG → Option (SG)} {ρ : RG} (hL : Lay N K len ρ) (hR : ∀ (σ : SG), kp (R σ ρ) (fun q => KR σ q)) : ∀ (n : Nat) (σ : SG), kp (F_X12_every_B_4 R n σ ρ) (fun q => KR σ q) := by
  intro n
  induction n with
  | zero => intro σ; exact kp_none
  | succ n ih =>
    intro σ
    unfold F_X12_every_B_4
    refine kp_if ?_ ?_
    · refine kp_bx (fun r3_963 => ?_)
      refine kp_if ?_ ?_
      · refine kp_nm (fun x5_964 _ => ?_)
        refine kp_nm (fun σ7_965 hσ7_965 => ?_)
        have kσ7_965 : KR σ σ7_965 := by rw [hσ7_965]; exact kr_trans (kr_refl _) (kr_lit (by decide))
        refine kp_bn (hR _) (fun σ8_966 hσ8_966 => ?_)
        have kσ8_966 : KR σ σ8_966 := kr_trans kσ7_965 hσ8_966
        refine kp_bn (kr_X12_emits hL) (fun σ9_967 hσ9_967 => ?_)
        have kσ9_967 : KR σ σ9_967 := kr_trans kσ8_966 hσ9_967
        exact kp_tr_kr (ih _) kσ9_967
      · exact kp_some (kr_refl _)
    · exact kp_some (kr_refl _)

set_option maxRecDepth 100000 in
theorem kr_X12_every_B {N : Nat} {K len : Nat → Nat} {R : SG → RG → Option (SG)} {σ : SG} {ρ : RG} (hL : Lay N K len ρ) (hR : ∀ (σ : SG), kp (R σ ρ) (fun q => KR σ q)) : kp (F_X12_every_B R σ ρ) (fun q => KR σ q) := by
  unfold F_X12_every_B
  refine kp_bn (hR _) (fun σ1_962 hσ1_962 => ?_)
  have kσ1_962 : KR σ σ1_962 := kr_trans (kr_refl _) hσ1_962
  exact kp_tr_kr (kr_X12_every_B_4 hL hR 1024 _) kσ1_962

set_option maxRecDepth 100000 in
theorem kr_X12_some_B_4 {N : Nat} {K len : Nat → Nat} {R : SG → RG → Option (SG)} {ρ : RG} (hL : Lay N K len ρ) (hR : ∀ (σ : SG), kp (R σ ρ) (fun q => KR σ q)) : ∀ (n : Nat) (σ : SG), kp (F_X12_some_B_4 R n σ ρ) (fun q => KR σ q) := by
  intro n
  induction n with
  | zero => intro σ; exact kp_none
  | succ n ih =>
    intro σ
    unfold F_X12_some_B_4
    refine kp_if ?_ ?_
    · refine kp_bx (fun r3_968 => ?_)
      refine kp_if ?_ ?_
      · refine kp_nm (fun x5_969 _ => ?_)
        refine kp_nm (fun σ7_970 hσ7_970 => ?_)
        have kσ7_970 : KR σ σ7_970 := by rw [hσ7_970]; exact kr_trans (kr_refl _) (kr_lit (by decide))
        refine kp_bn (kr_X12_every_B hL hR) (fun σ8_971 hσ8_971 => ?_)
        have kσ8_971 : KR σ σ8_971 := kr_trans kσ7_970 hσ8_971
        refine kp_bn (kr_X12_emits hL) (fun σ9_972 hσ9_972 => ?_)
        have kσ9_972 : KR σ σ9_972 := kr_trans kσ8_971 hσ9_972
        exact kp_tr_kr (ih _) kσ9_972
      · exact kp_some (kr_refl _)
    · exact kp_some (kr_refl _)

set_option maxRecDepth 100000 in
theorem kr_X12_some_B {N : Nat} {K len : Nat → Nat} {R : SG → RG → Option (SG)} {σ : SG} {ρ : RG} (hL : Lay N K len ρ) (hR : ∀ (σ : SG), kp (R σ ρ) (fun q => KR σ q)) : kp (F_X12_some_B R σ ρ) (fun q => KR σ q) := by
  unfold F_X12_some_B
  refine kp_bn (kr_X12_every_B hL hR) (fun σ1_961 hσ1_961 => ?_)
  have kσ1_961 : KR σ σ1_961 := kr_trans (kr_refl _) hσ1_961
  exact kp_tr_kr (kr_X12_some_B_4 hL hR 1024 _) kσ1_961

set_option maxRecDepth 100000 in
theorem kr_X12_among_2 {N : Nat} {K len : Nat → Nat} {w : Nat} {ρ : RG} (hL : Lay N K len ρ) : ∀ (n : Nat) (σ : SG) (v2 : Int32), kp (F_X12_among_2 w n σ ρ v2) (fun q => KR σ q.2) := by
  intro n
  induction n with
  | zero => intro σ v2; exact kp_none
  | succ n ih =>
    intro σ v2
    unfold F_X12_among_2
    refine kp_bx (fun r1_1057 => ?_)
    refine kp_if ?_ ?_
    · exact kp_some (kr_refl _)
    · refine kp_bx (fun r3_1058 => ?_)
      refine kp_bx (fun r4_1059 => ?_)
      refine kp_if ?_ ?_
      · refine kp_nm (fun x7_1060 _ => ?_)
        refine kp_nm (fun σ9_1061 hσ9_1061 => ?_)
        have kσ9_1061 : KR σ σ9_1061 := by rw [hσ9_1061]; exact kr_trans (kr_refl _) (kr_lit (by decide))
        exact kp_some kσ9_1061
      · refine kp_nm (fun x6_1062 _ => ?_)
        exact kp_tr2_kr (ih _ _) (kr_refl _)

set_option maxRecDepth 100000 in
theorem kr_X12_among {N : Nat} {K len : Nat → Nat} {w : Nat} {σ : SG} {ρ : RG} (hL : Lay N K len ρ) : kp (F_X12_among w σ ρ) (fun q => KR σ q.2) := by
  unfold F_X12_among
  exact kp_tr2_kr (kr_X12_among_2 hL 1024 _ _) (kr_refl _)

set_option maxRecDepth 100000 in
theorem kr_X12_factor_B {N : Nat} {K len : Nat → Nat} {R : SG → RG → Option (SG)} {σ : SG} {ρ : RG} (hL : Lay N K len ρ) (hR : ∀ (σ : SG), kp (R σ ρ) (fun q => KR σ q)) : kp (F_X12_factor_B R σ ρ) (fun q => KR σ q) := by
  unfold F_X12_factor_B
  refine kp_if ?_ ?_
  · refine kp_bx (fun r2_942 => ?_)
    refine kp_if ?_ ?_
    · unfold F_X12_factor_B_25
      refine kp_if ?_ ?_
      · unfold F_X12_factor_B_39
        refine kp_gd (fun _ => ?_)
        refine kp_nm (fun σ6_943 hσ6_943 => ?_)
        have kσ6_943 : KR σ σ6_943 := by rw [hσ6_943]; exact kr_trans (kr_refl _) (kr_lit (by decide))
        refine kp_nm (fun x7_944 _ => ?_)
        refine kp_nm (fun σ9_945 hσ9_945 => ?_)
        have kσ9_945 : KR σ σ9_945 := by rw [hσ9_945]; exact kr_trans kσ6_943 (kr_lit (by decide))
        refine kp_if ?_ ?_
        · unfold F_X12_factor_B_69
          refine kp_nm (fun x11_946 _ => ?_)
          refine kp_nm (fun σ13_947 hσ13_947 => ?_)
          have kσ13_947 : KR σ σ13_947 := by rw [hσ13_947]; exact kr_trans kσ9_945 (kr_lit (by decide))
          refine kp_if ?_ ?_
          · refine kp_bn (hR _) (fun σ20_948 hσ20_948 => ?_)
            have kσ20_948 : KR σ σ20_948 := kr_trans kσ13_947 hσ20_948
            refine kp_bn (kr_X12_emits hL) (fun σ21_949 hσ21_949 => ?_)
            have kσ21_949 : KR σ σ21_949 := kr_trans kσ20_948 hσ21_949
            unfold F_X12_factor_B_101
            refine kp_nm (fun x17_958 _ => ?_)
            refine kp_nm (fun σ19_959 hσ19_959 => ?_)
            have kσ19_959 : KR σ σ19_959 := by rw [hσ19_959]; exact kr_trans kσ21_949 (kr_lit (by decide))
            exact kp_some kσ19_959
          · refine kp_bn (kr_X12_some_B hL hR) (fun σ15_960 hσ15_960 => ?_)
            have kσ15_960 : KR σ σ15_960 := kr_trans kσ13_947 hσ15_960
            refine kp_bn (kr_X12_must hL) (fun σ16_973 hσ16_973 => ?_)
            have kσ16_973 : KR σ σ16_973 := kr_trans kσ15_960 hσ16_973
            unfold F_X12_factor_B_101
            refine kp_nm (fun x17_974 _ => ?_)
            refine kp_nm (fun σ19_975 hσ19_975 => ?_)
            have kσ19_975 : KR σ σ19_975 := by rw [hσ19_975]; exact kr_trans kσ16_973 (kr_lit (by decide))
            exact kp_some kσ19_975
        · unfold F_X12_factor_B_69
          refine kp_nm (fun x11_976 _ => ?_)
          refine kp_nm (fun σ13_977 hσ13_977 => ?_)
          have kσ13_977 : KR σ σ13_977 := by rw [hσ13_977]; exact kr_trans kσ9_945 (kr_lit (by decide))
          refine kp_if ?_ ?_
          · refine kp_bn (hR _) (fun σ20_978 hσ20_978 => ?_)
            have kσ20_978 : KR σ σ20_978 := kr_trans kσ13_977 hσ20_978
            refine kp_bn (kr_X12_emits hL) (fun σ21_979 hσ21_979 => ?_)
            have kσ21_979 : KR σ σ21_979 := kr_trans kσ20_978 hσ21_979
            unfold F_X12_factor_B_101
            refine kp_nm (fun x17_980 _ => ?_)
            refine kp_nm (fun σ19_981 hσ19_981 => ?_)
            have kσ19_981 : KR σ σ19_981 := by rw [hσ19_981]; exact kr_trans kσ21_979 (kr_lit (by decide))
            exact kp_some kσ19_981
          · refine kp_bn (kr_X12_some_B hL hR) (fun σ15_982 hσ15_982 => ?_)
            have kσ15_982 : KR σ σ15_982 := kr_trans kσ13_977 hσ15_982
            refine kp_bn (kr_X12_must hL) (fun σ16_983 hσ16_983 => ?_)
            have kσ16_983 : KR σ σ16_983 := kr_trans kσ15_982 hσ16_983
            unfold F_X12_factor_B_101
            refine kp_nm (fun x17_984 _ => ?_)
            refine kp_nm (fun σ19_985 hσ19_985 => ?_)
            have kσ19_985 : KR σ σ19_985 := by rw [hσ19_985]; exact kr_trans kσ16_983 (kr_lit (by decide))
            exact kp_some kσ19_985
      · unfold F_X12_factor_B_39
        refine kp_gd (fun _ => ?_)
        refine kp_nm (fun σ6_986 hσ6_986 => ?_)
        have kσ6_986 : KR σ σ6_986 := by rw [hσ6_986]; exact kr_trans (kr_refl _) (kr_lit (by decide))
        refine kp_nm (fun x7_987 _ => ?_)
        refine kp_nm (fun σ9_988 hσ9_988 => ?_)
        have kσ9_988 : KR σ σ9_988 := by rw [hσ9_988]; exact kr_trans kσ6_986 (kr_lit (by decide))
        refine kp_if ?_ ?_
        · unfold F_X12_factor_B_69
          refine kp_nm (fun x11_989 _ => ?_)
          refine kp_nm (fun σ13_990 hσ13_990 => ?_)
          have kσ13_990 : KR σ σ13_990 := by rw [hσ13_990]; exact kr_trans kσ9_988 (kr_lit (by decide))
          refine kp_if ?_ ?_
          · refine kp_bn (hR _) (fun σ20_991 hσ20_991 => ?_)
            have kσ20_991 : KR σ σ20_991 := kr_trans kσ13_990 hσ20_991
            refine kp_bn (kr_X12_emits hL) (fun σ21_992 hσ21_992 => ?_)
            have kσ21_992 : KR σ σ21_992 := kr_trans kσ20_991 hσ21_992
            unfold F_X12_factor_B_101
            refine kp_nm (fun x17_993 _ => ?_)
            refine kp_nm (fun σ19_994 hσ19_994 => ?_)
            have kσ19_994 : KR σ σ19_994 := by rw [hσ19_994]; exact kr_trans kσ21_992 (kr_lit (by decide))
            exact kp_some kσ19_994
          · refine kp_bn (kr_X12_some_B hL hR) (fun σ15_995 hσ15_995 => ?_)
            have kσ15_995 : KR σ σ15_995 := kr_trans kσ13_990 hσ15_995
            refine kp_bn (kr_X12_must hL) (fun σ16_996 hσ16_996 => ?_)
            have kσ16_996 : KR σ σ16_996 := kr_trans kσ15_995 hσ16_996
            unfold F_X12_factor_B_101
            refine kp_nm (fun x17_997 _ => ?_)
            refine kp_nm (fun σ19_998 hσ19_998 => ?_)
            have kσ19_998 : KR σ σ19_998 := by rw [hσ19_998]; exact kr_trans kσ16_996 (kr_lit (by decide))
            exact kp_some kσ19_998
        · unfold F_X12_factor_B_69
          refine kp_nm (fun x11_999 _ => ?_)
          refine kp_nm (fun σ13_1000 hσ13_1000 => ?_)
          have kσ13_1000 : KR σ σ13_1000 := by rw [hσ13_1000]; exact kr_trans kσ9_988 (kr_lit (by decide))
          refine kp_if ?_ ?_
          · refine kp_bn (hR _) (fun σ20_1001 hσ20_1001 => ?_)
            have kσ20_1001 : KR σ σ20_1001 := kr_trans kσ13_1000 hσ20_1001
            refine kp_bn (kr_X12_emits hL) (fun σ21_1002 hσ21_1002 => ?_)
            have kσ21_1002 : KR σ σ21_1002 := kr_trans kσ20_1001 hσ21_1002
            unfold F_X12_factor_B_101
            refine kp_nm (fun x17_1003 _ => ?_)
            refine kp_nm (fun σ19_1004 hσ19_1004 => ?_)
            have kσ19_1004 : KR σ σ19_1004 := by rw [hσ19_1004]; exact kr_trans kσ21_1002 (kr_lit (by decide))
            exact kp_some kσ19_1004
          · refine kp_bn (kr_X12_some_B hL hR) (fun σ15_1005 hσ15_1005 => ?_)
            have kσ15_1005 : KR σ σ15_1005 := kr_trans kσ13_1000 hσ15_1005
            refine kp_bn (kr_X12_must hL) (fun σ16_1006 hσ16_1006 => ?_)
            have kσ16_1006 : KR σ σ16_1006 := kr_trans kσ15_1005 hσ16_1006
            unfold F_X12_factor_B_101
            refine kp_nm (fun x17_1007 _ => ?_)
            refine kp_nm (fun σ19_1008 hσ19_1008 => ?_)
            have kσ19_1008 : KR σ σ19_1008 := by rw [hσ19_1008]; exact kr_trans kσ16_1006 (kr_lit (by decide))
            exact kp_some kσ19_1008
    · refine kp_if ?_ ?_
      · unfold F_X12_factor_B_25
        refine kp_if ?_ ?_
        · unfold F_X12_factor_B_39
          refine kp_gd (fun _ => ?_)
          refine kp_nm (fun σ6_1009 hσ6_1009 => ?_)
          have kσ6_1009 : KR σ σ6_1009 := by rw [hσ6_1009]; exact kr_trans (kr_refl _) (kr_lit (by decide))
          refine kp_nm (fun x7_1010 _ => ?_)
          refine kp_nm (fun σ9_1011 hσ9_1011 => ?_)
          have kσ9_1011 : KR σ σ9_1011 := by rw [hσ9_1011]; exact kr_trans kσ6_1009 (kr_lit (by decide))
          refine kp_if ?_ ?_
          · unfold F_X12_factor_B_69
            refine kp_nm (fun x11_1012 _ => ?_)
            refine kp_nm (fun σ13_1013 hσ13_1013 => ?_)
            have kσ13_1013 : KR σ σ13_1013 := by rw [hσ13_1013]; exact kr_trans kσ9_1011 (kr_lit (by decide))
            refine kp_if ?_ ?_
            · refine kp_bn (hR _) (fun σ20_1014 hσ20_1014 => ?_)
              have kσ20_1014 : KR σ σ20_1014 := kr_trans kσ13_1013 hσ20_1014
              refine kp_bn (kr_X12_emits hL) (fun σ21_1015 hσ21_1015 => ?_)
              have kσ21_1015 : KR σ σ21_1015 := kr_trans kσ20_1014 hσ21_1015
              unfold F_X12_factor_B_101
              refine kp_nm (fun x17_1016 _ => ?_)
              refine kp_nm (fun σ19_1017 hσ19_1017 => ?_)
              have kσ19_1017 : KR σ σ19_1017 := by rw [hσ19_1017]; exact kr_trans kσ21_1015 (kr_lit (by decide))
              exact kp_some kσ19_1017
            · refine kp_bn (kr_X12_some_B hL hR) (fun σ15_1018 hσ15_1018 => ?_)
              have kσ15_1018 : KR σ σ15_1018 := kr_trans kσ13_1013 hσ15_1018
              refine kp_bn (kr_X12_must hL) (fun σ16_1019 hσ16_1019 => ?_)
              have kσ16_1019 : KR σ σ16_1019 := kr_trans kσ15_1018 hσ16_1019
              unfold F_X12_factor_B_101
              refine kp_nm (fun x17_1020 _ => ?_)
              refine kp_nm (fun σ19_1021 hσ19_1021 => ?_)
              have kσ19_1021 : KR σ σ19_1021 := by rw [hσ19_1021]; exact kr_trans kσ16_1019 (kr_lit (by decide))
              exact kp_some kσ19_1021
          · unfold F_X12_factor_B_69
            refine kp_nm (fun x11_1022 _ => ?_)
            refine kp_nm (fun σ13_1023 hσ13_1023 => ?_)
            have kσ13_1023 : KR σ σ13_1023 := by rw [hσ13_1023]; exact kr_trans kσ9_1011 (kr_lit (by decide))
            refine kp_if ?_ ?_
            · refine kp_bn (hR _) (fun σ20_1024 hσ20_1024 => ?_)
              have kσ20_1024 : KR σ σ20_1024 := kr_trans kσ13_1023 hσ20_1024
              refine kp_bn (kr_X12_emits hL) (fun σ21_1025 hσ21_1025 => ?_)
              have kσ21_1025 : KR σ σ21_1025 := kr_trans kσ20_1024 hσ21_1025
              unfold F_X12_factor_B_101
              refine kp_nm (fun x17_1026 _ => ?_)
              refine kp_nm (fun σ19_1027 hσ19_1027 => ?_)
              have kσ19_1027 : KR σ σ19_1027 := by rw [hσ19_1027]; exact kr_trans kσ21_1025 (kr_lit (by decide))
              exact kp_some kσ19_1027
            · refine kp_bn (kr_X12_some_B hL hR) (fun σ15_1028 hσ15_1028 => ?_)
              have kσ15_1028 : KR σ σ15_1028 := kr_trans kσ13_1023 hσ15_1028
              refine kp_bn (kr_X12_must hL) (fun σ16_1029 hσ16_1029 => ?_)
              have kσ16_1029 : KR σ σ16_1029 := kr_trans kσ15_1028 hσ16_1029
              unfold F_X12_factor_B_101
              refine kp_nm (fun x17_1030 _ => ?_)
              refine kp_nm (fun σ19_1031 hσ19_1031 => ?_)
              have kσ19_1031 : KR σ σ19_1031 := by rw [hσ19_1031]; exact kr_trans kσ16_1029 (kr_lit (by decide))
              exact kp_some kσ19_1031
        · unfold F_X12_factor_B_39
          refine kp_gd (fun _ => ?_)
          refine kp_nm (fun σ6_1032 hσ6_1032 => ?_)
          have kσ6_1032 : KR σ σ6_1032 := by rw [hσ6_1032]; exact kr_trans (kr_refl _) (kr_lit (by decide))
          refine kp_nm (fun x7_1033 _ => ?_)
          refine kp_nm (fun σ9_1034 hσ9_1034 => ?_)
          have kσ9_1034 : KR σ σ9_1034 := by rw [hσ9_1034]; exact kr_trans kσ6_1032 (kr_lit (by decide))
          refine kp_if ?_ ?_
          · unfold F_X12_factor_B_69
            refine kp_nm (fun x11_1035 _ => ?_)
            refine kp_nm (fun σ13_1036 hσ13_1036 => ?_)
            have kσ13_1036 : KR σ σ13_1036 := by rw [hσ13_1036]; exact kr_trans kσ9_1034 (kr_lit (by decide))
            refine kp_if ?_ ?_
            · refine kp_bn (hR _) (fun σ20_1037 hσ20_1037 => ?_)
              have kσ20_1037 : KR σ σ20_1037 := kr_trans kσ13_1036 hσ20_1037
              refine kp_bn (kr_X12_emits hL) (fun σ21_1038 hσ21_1038 => ?_)
              have kσ21_1038 : KR σ σ21_1038 := kr_trans kσ20_1037 hσ21_1038
              unfold F_X12_factor_B_101
              refine kp_nm (fun x17_1039 _ => ?_)
              refine kp_nm (fun σ19_1040 hσ19_1040 => ?_)
              have kσ19_1040 : KR σ σ19_1040 := by rw [hσ19_1040]; exact kr_trans kσ21_1038 (kr_lit (by decide))
              exact kp_some kσ19_1040
            · refine kp_bn (kr_X12_some_B hL hR) (fun σ15_1041 hσ15_1041 => ?_)
              have kσ15_1041 : KR σ σ15_1041 := kr_trans kσ13_1036 hσ15_1041
              refine kp_bn (kr_X12_must hL) (fun σ16_1042 hσ16_1042 => ?_)
              have kσ16_1042 : KR σ σ16_1042 := kr_trans kσ15_1041 hσ16_1042
              unfold F_X12_factor_B_101
              refine kp_nm (fun x17_1043 _ => ?_)
              refine kp_nm (fun σ19_1044 hσ19_1044 => ?_)
              have kσ19_1044 : KR σ σ19_1044 := by rw [hσ19_1044]; exact kr_trans kσ16_1042 (kr_lit (by decide))
              exact kp_some kσ19_1044
          · unfold F_X12_factor_B_69
            refine kp_nm (fun x11_1045 _ => ?_)
            refine kp_nm (fun σ13_1046 hσ13_1046 => ?_)
            have kσ13_1046 : KR σ σ13_1046 := by rw [hσ13_1046]; exact kr_trans kσ9_1034 (kr_lit (by decide))
            refine kp_if ?_ ?_
            · refine kp_bn (hR _) (fun σ20_1047 hσ20_1047 => ?_)
              have kσ20_1047 : KR σ σ20_1047 := kr_trans kσ13_1046 hσ20_1047
              refine kp_bn (kr_X12_emits hL) (fun σ21_1048 hσ21_1048 => ?_)
              have kσ21_1048 : KR σ σ21_1048 := kr_trans kσ20_1047 hσ21_1048
              unfold F_X12_factor_B_101
              refine kp_nm (fun x17_1049 _ => ?_)
              refine kp_nm (fun σ19_1050 hσ19_1050 => ?_)
              have kσ19_1050 : KR σ σ19_1050 := by rw [hσ19_1050]; exact kr_trans kσ21_1048 (kr_lit (by decide))
              exact kp_some kσ19_1050
            · refine kp_bn (kr_X12_some_B hL hR) (fun σ15_1051 hσ15_1051 => ?_)
              have kσ15_1051 : KR σ σ15_1051 := kr_trans kσ13_1046 hσ15_1051
              refine kp_bn (kr_X12_must hL) (fun σ16_1052 hσ16_1052 => ?_)
              have kσ16_1052 : KR σ σ16_1052 := kr_trans kσ15_1051 hσ16_1052
              unfold F_X12_factor_B_101
              refine kp_nm (fun x17_1053 _ => ?_)
              refine kp_nm (fun σ19_1054 hσ19_1054 => ?_)
              have kσ19_1054 : KR σ σ19_1054 := by rw [hσ19_1054]; exact kr_trans kσ16_1052 (kr_lit (by decide))
              exact kp_some kσ19_1054
      · refine kp_bn2 (kr_X12_among hL) (fun r23_1055 σ23_1056 hr23_1055 => ?_)
        have kσ23_1056 : KR σ σ23_1056 := kr_trans (kr_refl _) hr23_1055
        refine kp_if ?_ ?_
        · unfold F_X12_factor_B_130
          refine kp_gd (fun _ => ?_)
          refine kp_nm (fun σ26_1063 hσ26_1063 => ?_)
          have kσ26_1063 : KR σ σ26_1063 := by rw [hσ26_1063]; exact kr_trans kσ23_1056 (kr_lit (by decide))
          refine kp_if ?_ ?_
          · refine kp_bn2 (kr_X12_among hL) (fun r28_1064 σ28_1065 hr28_1064 => ?_)
            have kσ28_1065 : KR σ σ28_1065 := kr_trans kσ26_1063 hr28_1064
            unfold F_X12_factor_B_150
            refine kp_if ?_ ?_
            · refine kp_if ?_ ?_
              · unfold F_X12_factor_B_164
                unfold F_X12_factor_B_169
                refine kp_gd (fun _ => ?_)
                refine kp_nm (fun σ31_1066 hσ31_1066 => ?_)
                have kσ31_1066 : KR σ σ31_1066 := by rw [hσ31_1066]; exact kr_trans kσ28_1065 (kr_lit (by decide))
                refine kp_bn2 (kr_X12_figures hL) (fun r32_1067 σ32_1068 hr32_1067 => ?_)
                have kσ32_1068 : KR σ σ32_1068 := kr_trans kσ31_1066 hr32_1067
                refine kp_nm (fun x33_1069 _ => ?_)
                refine kp_nm (fun x34_1070 _ => ?_)
                refine kp_nm (fun x35_1071 _ => ?_)
                refine kp_nm (fun x36_1072 _ => ?_)
                refine kp_bn (kr_X12_emits hL) (fun σ37_1073 hσ37_1073 => ?_)
                have kσ37_1073 : KR σ σ37_1073 := kr_trans kσ32_1068 hσ37_1073
                exact kp_some kσ37_1073
              · unfold F_X12_factor_B_169
                refine kp_gd (fun _ => ?_)
                refine kp_nm (fun σ31_1074 hσ31_1074 => ?_)
                have kσ31_1074 : KR σ σ31_1074 := by rw [hσ31_1074]; exact kr_trans kσ28_1065 (kr_lit (by decide))
                refine kp_bn2 (kr_X12_figures hL) (fun r32_1075 σ32_1076 hr32_1075 => ?_)
                have kσ32_1076 : KR σ σ32_1076 := kr_trans kσ31_1074 hr32_1075
                refine kp_nm (fun x33_1077 _ => ?_)
                refine kp_nm (fun x34_1078 _ => ?_)
                refine kp_nm (fun x35_1079 _ => ?_)
                refine kp_nm (fun x36_1080 _ => ?_)
                refine kp_bn (kr_X12_emits hL) (fun σ37_1081 hσ37_1081 => ?_)
                have kσ37_1081 : KR σ σ37_1081 := kr_trans kσ32_1076 hσ37_1081
                exact kp_some kσ37_1081
            · unfold F_X12_factor_B_164
              unfold F_X12_factor_B_169
              refine kp_gd (fun _ => ?_)
              refine kp_nm (fun σ31_1082 hσ31_1082 => ?_)
              have kσ31_1082 : KR σ σ31_1082 := by rw [hσ31_1082]; exact kr_trans kσ28_1065 (kr_lit (by decide))
              refine kp_bn2 (kr_X12_figures hL) (fun r32_1083 σ32_1084 hr32_1083 => ?_)
              have kσ32_1084 : KR σ σ32_1084 := kr_trans kσ31_1082 hr32_1083
              refine kp_nm (fun x33_1085 _ => ?_)
              refine kp_nm (fun x34_1086 _ => ?_)
              refine kp_nm (fun x35_1087 _ => ?_)
              refine kp_nm (fun x36_1088 _ => ?_)
              refine kp_bn (kr_X12_emits hL) (fun σ37_1089 hσ37_1089 => ?_)
              have kσ37_1089 : KR σ σ37_1089 := kr_trans kσ32_1084 hσ37_1089
              exact kp_some kσ37_1089
          · unfold F_X12_factor_B_150
            refine kp_if ?_ ?_
            · refine kp_if ?_ ?_
              · unfold F_X12_factor_B_164
                unfold F_X12_factor_B_169
                refine kp_gd (fun _ => ?_)
                refine kp_nm (fun σ31_1090 hσ31_1090 => ?_)
                have kσ31_1090 : KR σ σ31_1090 := by rw [hσ31_1090]; exact kr_trans kσ26_1063 (kr_lit (by decide))
                refine kp_bn2 (kr_X12_figures hL) (fun r32_1091 σ32_1092 hr32_1091 => ?_)
                have kσ32_1092 : KR σ σ32_1092 := kr_trans kσ31_1090 hr32_1091
                refine kp_nm (fun x33_1093 _ => ?_)
                refine kp_nm (fun x34_1094 _ => ?_)
                refine kp_nm (fun x35_1095 _ => ?_)
                refine kp_nm (fun x36_1096 _ => ?_)
                refine kp_bn (kr_X12_emits hL) (fun σ37_1097 hσ37_1097 => ?_)
                have kσ37_1097 : KR σ σ37_1097 := kr_trans kσ32_1092 hσ37_1097
                exact kp_some kσ37_1097
              · unfold F_X12_factor_B_169
                refine kp_gd (fun _ => ?_)
                refine kp_nm (fun σ31_1098 hσ31_1098 => ?_)
                have kσ31_1098 : KR σ σ31_1098 := by rw [hσ31_1098]; exact kr_trans kσ26_1063 (kr_lit (by decide))
                refine kp_bn2 (kr_X12_figures hL) (fun r32_1099 σ32_1100 hr32_1099 => ?_)
                have kσ32_1100 : KR σ σ32_1100 := kr_trans kσ31_1098 hr32_1099
                refine kp_nm (fun x33_1101 _ => ?_)
                refine kp_nm (fun x34_1102 _ => ?_)
                refine kp_nm (fun x35_1103 _ => ?_)
                refine kp_nm (fun x36_1104 _ => ?_)
                refine kp_bn (kr_X12_emits hL) (fun σ37_1105 hσ37_1105 => ?_)
                have kσ37_1105 : KR σ σ37_1105 := kr_trans kσ32_1100 hσ37_1105
                exact kp_some kσ37_1105
            · unfold F_X12_factor_B_164
              unfold F_X12_factor_B_169
              refine kp_gd (fun _ => ?_)
              refine kp_nm (fun σ31_1106 hσ31_1106 => ?_)
              have kσ31_1106 : KR σ σ31_1106 := by rw [hσ31_1106]; exact kr_trans kσ26_1063 (kr_lit (by decide))
              refine kp_bn2 (kr_X12_figures hL) (fun r32_1107 σ32_1108 hr32_1107 => ?_)
              have kσ32_1108 : KR σ σ32_1108 := kr_trans kσ31_1106 hr32_1107
              refine kp_nm (fun x33_1109 _ => ?_)
              refine kp_nm (fun x34_1110 _ => ?_)
              refine kp_nm (fun x35_1111 _ => ?_)
              refine kp_nm (fun x36_1112 _ => ?_)
              refine kp_bn (kr_X12_emits hL) (fun σ37_1113 hσ37_1113 => ?_)
              have kσ37_1113 : KR σ σ37_1113 := kr_trans kσ32_1108 hσ37_1113
              exact kp_some kσ37_1113
        · unfold F_X12_factor_B_130
          refine kp_gd (fun _ => ?_)
          refine kp_nm (fun σ26_1114 hσ26_1114 => ?_)
          have kσ26_1114 : KR σ σ26_1114 := by rw [hσ26_1114]; exact kr_trans kσ23_1056 (kr_lit (by decide))
          refine kp_if ?_ ?_
          · refine kp_bn2 (kr_X12_among hL) (fun r28_1115 σ28_1116 hr28_1115 => ?_)
            have kσ28_1116 : KR σ σ28_1116 := kr_trans kσ26_1114 hr28_1115
            unfold F_X12_factor_B_150
            refine kp_if ?_ ?_
            · refine kp_if ?_ ?_
              · unfold F_X12_factor_B_164
                unfold F_X12_factor_B_169
                refine kp_gd (fun _ => ?_)
                refine kp_nm (fun σ31_1117 hσ31_1117 => ?_)
                have kσ31_1117 : KR σ σ31_1117 := by rw [hσ31_1117]; exact kr_trans kσ28_1116 (kr_lit (by decide))
                refine kp_bn2 (kr_X12_figures hL) (fun r32_1118 σ32_1119 hr32_1118 => ?_)
                have kσ32_1119 : KR σ σ32_1119 := kr_trans kσ31_1117 hr32_1118
                refine kp_nm (fun x33_1120 _ => ?_)
                refine kp_nm (fun x34_1121 _ => ?_)
                refine kp_nm (fun x35_1122 _ => ?_)
                refine kp_nm (fun x36_1123 _ => ?_)
                refine kp_bn (kr_X12_emits hL) (fun σ37_1124 hσ37_1124 => ?_)
                have kσ37_1124 : KR σ σ37_1124 := kr_trans kσ32_1119 hσ37_1124
                exact kp_some kσ37_1124
              · unfold F_X12_factor_B_169
                refine kp_gd (fun _ => ?_)
                refine kp_nm (fun σ31_1125 hσ31_1125 => ?_)
                have kσ31_1125 : KR σ σ31_1125 := by rw [hσ31_1125]; exact kr_trans kσ28_1116 (kr_lit (by decide))
                refine kp_bn2 (kr_X12_figures hL) (fun r32_1126 σ32_1127 hr32_1126 => ?_)
                have kσ32_1127 : KR σ σ32_1127 := kr_trans kσ31_1125 hr32_1126
                refine kp_nm (fun x33_1128 _ => ?_)
                refine kp_nm (fun x34_1129 _ => ?_)
                refine kp_nm (fun x35_1130 _ => ?_)
                refine kp_nm (fun x36_1131 _ => ?_)
                refine kp_bn (kr_X12_emits hL) (fun σ37_1132 hσ37_1132 => ?_)
                have kσ37_1132 : KR σ σ37_1132 := kr_trans kσ32_1127 hσ37_1132
                exact kp_some kσ37_1132
            · unfold F_X12_factor_B_164
              unfold F_X12_factor_B_169
              refine kp_gd (fun _ => ?_)
              refine kp_nm (fun σ31_1133 hσ31_1133 => ?_)
              have kσ31_1133 : KR σ σ31_1133 := by rw [hσ31_1133]; exact kr_trans kσ28_1116 (kr_lit (by decide))
              refine kp_bn2 (kr_X12_figures hL) (fun r32_1134 σ32_1135 hr32_1134 => ?_)
              have kσ32_1135 : KR σ σ32_1135 := kr_trans kσ31_1133 hr32_1134
              refine kp_nm (fun x33_1136 _ => ?_)
              refine kp_nm (fun x34_1137 _ => ?_)
              refine kp_nm (fun x35_1138 _ => ?_)
              refine kp_nm (fun x36_1139 _ => ?_)
              refine kp_bn (kr_X12_emits hL) (fun σ37_1140 hσ37_1140 => ?_)
              have kσ37_1140 : KR σ σ37_1140 := kr_trans kσ32_1135 hσ37_1140
              exact kp_some kσ37_1140
          · unfold F_X12_factor_B_150
            refine kp_if ?_ ?_
            · refine kp_if ?_ ?_
              · unfold F_X12_factor_B_164
                unfold F_X12_factor_B_169
                refine kp_gd (fun _ => ?_)
                refine kp_nm (fun σ31_1141 hσ31_1141 => ?_)
                have kσ31_1141 : KR σ σ31_1141 := by rw [hσ31_1141]; exact kr_trans kσ26_1114 (kr_lit (by decide))
                refine kp_bn2 (kr_X12_figures hL) (fun r32_1142 σ32_1143 hr32_1142 => ?_)
                have kσ32_1143 : KR σ σ32_1143 := kr_trans kσ31_1141 hr32_1142
                refine kp_nm (fun x33_1144 _ => ?_)
                refine kp_nm (fun x34_1145 _ => ?_)
                refine kp_nm (fun x35_1146 _ => ?_)
                refine kp_nm (fun x36_1147 _ => ?_)
                refine kp_bn (kr_X12_emits hL) (fun σ37_1148 hσ37_1148 => ?_)
                have kσ37_1148 : KR σ σ37_1148 := kr_trans kσ32_1143 hσ37_1148
                exact kp_some kσ37_1148
              · unfold F_X12_factor_B_169
                refine kp_gd (fun _ => ?_)
                refine kp_nm (fun σ31_1149 hσ31_1149 => ?_)
                have kσ31_1149 : KR σ σ31_1149 := by rw [hσ31_1149]; exact kr_trans kσ26_1114 (kr_lit (by decide))
                refine kp_bn2 (kr_X12_figures hL) (fun r32_1150 σ32_1151 hr32_1150 => ?_)
                have kσ32_1151 : KR σ σ32_1151 := kr_trans kσ31_1149 hr32_1150
                refine kp_nm (fun x33_1152 _ => ?_)
                refine kp_nm (fun x34_1153 _ => ?_)
                refine kp_nm (fun x35_1154 _ => ?_)
                refine kp_nm (fun x36_1155 _ => ?_)
                refine kp_bn (kr_X12_emits hL) (fun σ37_1156 hσ37_1156 => ?_)
                have kσ37_1156 : KR σ σ37_1156 := kr_trans kσ32_1151 hσ37_1156
                exact kp_some kσ37_1156
            · unfold F_X12_factor_B_164
              unfold F_X12_factor_B_169
              refine kp_gd (fun _ => ?_)
              refine kp_nm (fun σ31_1157 hσ31_1157 => ?_)
              have kσ31_1157 : KR σ σ31_1157 := by rw [hσ31_1157]; exact kr_trans kσ26_1114 (kr_lit (by decide))
              refine kp_bn2 (kr_X12_figures hL) (fun r32_1158 σ32_1159 hr32_1158 => ?_)
              have kσ32_1159 : KR σ σ32_1159 := kr_trans kσ31_1157 hr32_1158
              refine kp_nm (fun x33_1160 _ => ?_)
              refine kp_nm (fun x34_1161 _ => ?_)
              refine kp_nm (fun x35_1162 _ => ?_)
              refine kp_nm (fun x36_1163 _ => ?_)
              refine kp_bn (kr_X12_emits hL) (fun σ37_1164 hσ37_1164 => ?_)
              have kσ37_1164 : KR σ σ37_1164 := kr_trans kσ32_1159 hσ37_1164
              exact kp_some kσ37_1164
  · exact kp_some (kr_refl _)

theorem kr_X12_factor_R {N : Nat} {K len : Nat → Nat} {ρ : RG} (hL : Lay N K len ρ) : ∀ (d : Nat) (σ : SG), kp (F_X12_factor_R d σ ρ) (fun q => KR σ q) := by
  intro d
  induction d with
  | zero => intro σ; exact kp_none
  | succ d ih =>
    intro σ
    exact kr_X12_factor_B hL ih

theorem kr_X12_factor {N : Nat} {K len : Nat → Nat} {σ : SG} {ρ : RG} (hL : Lay N K len ρ) : kp (F_X12_factor σ ρ) (fun q => KR σ q) := kr_X12_factor_R hL _ _

set_option maxRecDepth 100000 in
theorem kr_X12_every_4 {N : Nat} {K len : Nat → Nat} {ρ : RG} (hL : Lay N K len ρ) : ∀ (n : Nat) (σ : SG), kp (F_X12_every_4 n σ ρ) (fun q => KR σ q) := by
  intro n
  induction n with
  | zero => intro σ; exact kp_none
  | succ n ih =>
    intro σ
    unfold F_X12_every_4
    refine kp_if ?_ ?_
    · refine kp_bx (fun r3_1165 => ?_)
      refine kp_if ?_ ?_
      · refine kp_nm (fun x5_1166 _ => ?_)
        refine kp_nm (fun σ7_1167 hσ7_1167 => ?_)
        have kσ7_1167 : KR σ σ7_1167 := by rw [hσ7_1167]; exact kr_trans (kr_refl _) (kr_lit (by decide))
        refine kp_bn (kr_X12_factor hL) (fun σ8_1168 hσ8_1168 => ?_)
        have kσ8_1168 : KR σ σ8_1168 := kr_trans kσ7_1167 hσ8_1168
        refine kp_bn (kr_X12_emits hL) (fun σ9_1169 hσ9_1169 => ?_)
        have kσ9_1169 : KR σ σ9_1169 := kr_trans kσ8_1168 hσ9_1169
        exact kp_tr_kr (ih _) kσ9_1169
      · exact kp_some (kr_refl _)
    · exact kp_some (kr_refl _)

set_option maxRecDepth 100000 in
theorem kr_X12_every {N : Nat} {K len : Nat → Nat} {σ : SG} {ρ : RG} (hL : Lay N K len ρ) : kp (F_X12_every σ ρ) (fun q => KR σ q) := by
  unfold F_X12_every
  refine kp_bn (kr_X12_factor hL) (fun σ1_941 hσ1_941 => ?_)
  have kσ1_941 : KR σ σ1_941 := kr_trans (kr_refl _) hσ1_941
  exact kp_tr_kr (kr_X12_every_4 hL 1024 _) kσ1_941

set_option maxRecDepth 100000 in
theorem kr_X12_some_4 {N : Nat} {K len : Nat → Nat} {ρ : RG} (hL : Lay N K len ρ) : ∀ (n : Nat) (σ : SG), kp (F_X12_some_4 n σ ρ) (fun q => KR σ q) := by
  intro n
  induction n with
  | zero => intro σ; exact kp_none
  | succ n ih =>
    intro σ
    unfold F_X12_some_4
    refine kp_if ?_ ?_
    · refine kp_bx (fun r3_1170 => ?_)
      refine kp_if ?_ ?_
      · refine kp_nm (fun x5_1171 _ => ?_)
        refine kp_nm (fun σ7_1172 hσ7_1172 => ?_)
        have kσ7_1172 : KR σ σ7_1172 := by rw [hσ7_1172]; exact kr_trans (kr_refl _) (kr_lit (by decide))
        refine kp_bn (kr_X12_every hL) (fun σ8_1173 hσ8_1173 => ?_)
        have kσ8_1173 : KR σ σ8_1173 := kr_trans kσ7_1172 hσ8_1173
        refine kp_bn (kr_X12_emits hL) (fun σ9_1174 hσ9_1174 => ?_)
        have kσ9_1174 : KR σ σ9_1174 := kr_trans kσ8_1173 hσ9_1174
        exact kp_tr_kr (ih _) kσ9_1174
      · exact kp_some (kr_refl _)
    · exact kp_some (kr_refl _)

set_option maxRecDepth 100000 in
theorem kr_X12_some {N : Nat} {K len : Nat → Nat} {σ : SG} {ρ : RG} (hL : Lay N K len ρ) : kp (F_X12_some σ ρ) (fun q => KR σ q) := by
  unfold F_X12_some
  refine kp_bn (kr_X12_every hL) (fun σ1_940 hσ1_940 => ?_)
  have kσ1_940 : KR σ σ1_940 := kr_trans (kr_refl _) hσ1_940
  exact kp_tr_kr (kr_X12_some_4 hL 1024 _) kσ1_940

set_option maxRecDepth 100000 in
theorem kr_X12_much {N : Nat} {K len : Nat → Nat} {a1 : Int32} {w : Nat} {σ : SG} {ρ : RG} (hL : Lay N K len ρ) : kp (F_X12_much a1 w σ ρ) (fun q => KR σ q) := by
  unfold F_X12_much
  refine kp_bn (kr_X12_spells hL) (fun σ1_935 hσ1_935 => ?_)
  have kσ1_935 : KR σ σ1_935 := kr_trans (kr_refl _) hσ1_935
  refine kp_bn2 (kr_X12_figures hL) (fun r2_936 σ2_937 hr2_936 => ?_)
  have kσ2_937 : KR σ σ2_937 := kr_trans kσ1_935 hr2_936
  refine kp_bn (kr_X12_must hL) (fun σ3_938 hσ3_938 => ?_)
  have kσ3_938 : KR σ σ3_938 := kr_trans kσ2_937 hσ3_938
  refine kp_bn (kr_X12_some hL) (fun σ4_939 hσ4_939 => ?_)
  have kσ4_939 : KR σ σ4_939 := kr_trans kσ3_938 hσ4_939
  refine kp_nm (fun x5_1175 _ => ?_)
  refine kp_bn (kr_X12_emits hL) (fun σ6_1176 hσ6_1176 => ?_)
  have kσ6_1176 : KR σ σ6_1176 := kr_trans kσ4_939 hσ6_1176
  exact kp_some kσ6_1176

set_option maxRecDepth 100000 in
theorem kr_X12_clauseHere {N : Nat} {K len : Nat → Nat} {σ : SG} {ρ : RG} (hL : Lay N K len ρ) : kp (F_X12_clauseHere σ ρ) (fun q => KR σ q) := by
  unfold F_X12_clauseHere
  refine kp_bx (fun r1_886 => ?_)
  refine kp_if ?_ ?_
  · refine kp_bn (kr_X12_tellsHere hL) (fun σ3_887 hσ3_887 => ?_)
    have kσ3_887 : KR σ σ3_887 := kr_trans (kr_refl _) hσ3_887
    exact kp_some kσ3_887
  · refine kp_if ?_ ?_
    · refine kp_bn (kr_X12_much hL) (fun σ4_934 hσ4_934 => ?_)
      have kσ4_934 : KR σ σ4_934 := kr_trans (kr_refl _) hσ4_934
      exact kp_some kσ4_934
    · refine kp_if ?_ ?_
      · refine kp_bn (kr_X12_much hL) (fun σ5_1177 hσ5_1177 => ?_)
        have kσ5_1177 : KR σ σ5_1177 := kr_trans (kr_refl _) hσ5_1177
        exact kp_some kσ5_1177
      · refine kp_if ?_ ?_
        · refine kp_bn (kr_X12_tellsHere hL) (fun σ6_1178 hσ6_1178 => ?_)
          have kσ6_1178 : KR σ σ6_1178 := kr_trans (kr_refl _) hσ6_1178
          exact kp_some kσ6_1178
        · refine kp_nm (fun σ8_1179 hσ8_1179 => ?_)
          have kσ8_1179 : KR σ σ8_1179 := by rw [hσ8_1179]; exact kr_trans (kr_refl _) (kr_lit (by decide))
          exact kp_some kσ8_1179

set_option maxRecDepth 100000 in
theorem kr_X12_board_108 {N : Nat} {K len : Nat → Nat} {ρ : RG} (hL : Lay N K len ρ) : ∀ (n : Nat) (σ : SG) (v1 : Int32), kp (F_X12_board_108 n σ ρ v1) (fun q => KR σ q.2) := by
  intro n
  induction n with
  | zero => intro σ v1; exact kp_none
  | succ n ih =>
    intro σ v1
    unfold F_X12_board_108
    refine kp_if ?_ ?_
    · refine kp_if ?_ ?_
      · unfold F_X12_board_150
        refine kp_if ?_ ?_
        · refine kp_if ?_ ?_
          · refine kp_nm (fun x31_1180 _ => ?_)
            refine kp_nm (fun σ33_1181 hσ33_1181 => ?_)
            have kσ33_1181 : KR σ σ33_1181 := by rw [hσ33_1181]; exact kr_trans (kr_refl _) (kr_lit (by decide))
            refine kp_nm (fun σ35_1182 hσ35_1182 => ?_)
            have kσ35_1182 : KR σ σ35_1182 := by rw [hσ35_1182]; exact kr_trans kσ33_1181 (kr_lit (by decide))
            exact kp_some kσ35_1182
          · refine kp_nm (fun x36_1183 _ => ?_)
            exact kp_some (kr_refl _)
        · refine kp_nm (fun x29_1184 _ => ?_)
          exact kp_some (kr_refl _)
      · refine kp_bx (fun r38_1185 => ?_)
        refine kp_if ?_ ?_
        · refine kp_nm (fun x40_1186 _ => ?_)
          refine kp_nm (fun σ42_1187 hσ42_1187 => ?_)
          have kσ42_1187 : KR σ σ42_1187 := by rw [hσ42_1187]; exact kr_trans (kr_refl _) (kr_lit (by decide))
          refine kp_bn (kr_X12_clauseHere hL) (fun σ43_1188 hσ43_1188 => ?_)
          have kσ43_1188 : KR σ σ43_1188 := kr_trans kσ42_1187 hσ43_1188
          refine kp_nm (fun x44_1189 _ => ?_)
          exact kp_tr2_kr (ih _ _) kσ43_1188
        · unfold F_X12_board_150
          refine kp_if ?_ ?_
          · refine kp_if ?_ ?_
            · refine kp_nm (fun x31_1190 _ => ?_)
              refine kp_nm (fun σ33_1191 hσ33_1191 => ?_)
              have kσ33_1191 : KR σ σ33_1191 := by rw [hσ33_1191]; exact kr_trans (kr_refl _) (kr_lit (by decide))
              refine kp_nm (fun σ35_1192 hσ35_1192 => ?_)
              have kσ35_1192 : KR σ σ35_1192 := by rw [hσ35_1192]; exact kr_trans kσ33_1191 (kr_lit (by decide))
              exact kp_some kσ35_1192
            · refine kp_nm (fun x36_1193 _ => ?_)
              exact kp_some (kr_refl _)
          · refine kp_nm (fun x29_1194 _ => ?_)
            exact kp_some (kr_refl _)
    · unfold F_X12_board_150
      refine kp_if ?_ ?_
      · refine kp_if ?_ ?_
        · refine kp_nm (fun x31_1195 _ => ?_)
          refine kp_nm (fun σ33_1196 hσ33_1196 => ?_)
          have kσ33_1196 : KR σ σ33_1196 := by rw [hσ33_1196]; exact kr_trans (kr_refl _) (kr_lit (by decide))
          refine kp_nm (fun σ35_1197 hσ35_1197 => ?_)
          have kσ35_1197 : KR σ σ35_1197 := by rw [hσ35_1197]; exact kr_trans kσ33_1196 (kr_lit (by decide))
          exact kp_some kσ35_1197
        · refine kp_nm (fun x36_1198 _ => ?_)
          exact kp_some (kr_refl _)
      · refine kp_nm (fun x29_1199 _ => ?_)
        exact kp_some (kr_refl _)

set_option maxRecDepth 100000 in
theorem kr_X12_board {N : Nat} {K len : Nat → Nat} {σ : SG} {ρ : RG} (hL : Lay N K len ρ) : kp (F_X12_board σ ρ) (fun q => KR σ q.2) := by
  unfold F_X12_board
  refine kp_if ?_ ?_
  · exact kp_some (kr_refl _)
  · refine kp_nm (fun σ3_873 hσ3_873 => ?_)
    have kσ3_873 : KR σ σ3_873 := by rw [hσ3_873]; exact kr_trans (kr_refl _) (kr_lit (by decide))
    refine kp_nm (fun σ5_874 hσ5_874 => ?_)
    have kσ5_874 : KR σ σ5_874 := by rw [hσ5_874]; exact kr_trans kσ3_873 (kr_lit (by decide))
    refine kp_nm (fun σ7_875 hσ7_875 => ?_)
    have kσ7_875 : KR σ σ7_875 := by rw [hσ7_875]; exact kr_trans kσ5_874 (kr_lit (by decide))
    refine kp_nm (fun x8_876 _ => ?_)
    refine kp_gd (fun _ => ?_)
    refine kp_nm (fun σ11_877 hσ11_877 => ?_)
    have kσ11_877 : KR σ σ11_877 := by rw [hσ11_877]; exact kr_trans kσ7_875 (kr_row (by decide))
    refine kp_nm (fun x12_878 _ => ?_)
    refine kp_gd (fun _ => ?_)
    refine kp_nm (fun σ15_879 hσ15_879 => ?_)
    have kσ15_879 : KR σ σ15_879 := by rw [hσ15_879]; exact kr_trans kσ11_877 (kr_row (by decide))
    refine kp_nm (fun x16_880 _ => ?_)
    refine kp_gd (fun _ => ?_)
    refine kp_nm (fun σ19_881 hσ19_881 => ?_)
    have kσ19_881 : KR σ σ19_881 := by rw [hσ19_881]; exact kr_trans kσ15_879 (kr_row (by decide))
    refine kp_nm (fun σ21_882 hσ21_882 => ?_)
    have kσ21_882 : KR σ σ21_882 := by rw [hσ21_882]; exact kr_trans kσ19_881 (kr_lit (by decide))
    refine kp_nm (fun σ23_883 hσ23_883 => ?_)
    have kσ23_883 : KR σ σ23_883 := by rw [hσ23_883]; exact kr_trans kσ21_882 (kr_lit (by decide))
    refine kp_nm (fun σ25_884 hσ25_884 => ?_)
    have kσ25_884 : KR σ σ25_884 := by rw [hσ25_884]; exact kr_trans kσ23_883 (kr_lit (by decide))
    refine kp_bn (kr_X12_clauseHere hL) (fun σ26_885 hσ26_885 => ?_)
    have kσ26_885 : KR σ σ26_885 := kr_trans kσ25_884 hσ26_885
    exact kp_tr2_kr (kr_X12_board_108 hL 1024 _ _) kσ26_885

set_option maxRecDepth 100000 in
theorem kr_X12_week {N : Nat} {K len : Nat → Nat} {a1 : Int32} {σ : SG} {ρ : RG} (hL : Lay N K len ρ) : kp (F_X12_week a1 σ ρ) (fun q => KR σ q.2) := by
  unfold F_X12_week
  refine kp_bx (fun r1_1200 => ?_)
  refine kp_if ?_ ?_
  · exact kp_some (kr_refl _)
  · refine kp_if ?_ ?_
    · exact kp_some (kr_refl _)
    · refine kp_nm (fun x4_1201 _ => ?_)
      refine kp_gd (fun _ => ?_)
      refine kp_nm (fun σ7_1202 hσ7_1202 => ?_)
      have kσ7_1202 : KR σ σ7_1202 := by rw [hσ7_1202]; exact kr_trans (kr_refl _) (kr_row (by decide))
      refine kp_nm (fun x8_1203 _ => ?_)
      refine kp_nm (fun σ10_1204 hσ10_1204 => ?_)
      have kσ10_1204 : KR σ σ10_1204 := by rw [hσ10_1204]; exact kr_trans kσ7_1202 (kr_lit (by decide))
      exact kp_some kσ10_1204

set_option maxRecDepth 100000 in
theorem kr_X12_clear {N : Nat} {K len : Nat → Nat} {σ : SG} {ρ : RG} (hL : Lay N K len ρ) : kp (F_X12_clear σ ρ) (fun q => KR σ q.2) := by
  unfold F_X12_clear
  refine kp_nm (fun σ2_1205 hσ2_1205 => ?_)
  have kσ2_1205 : KR σ σ2_1205 := by rw [hσ2_1205]; exact kr_trans (kr_refl _) (kr_lit (by decide))
  exact kp_some kσ2_1205

set_option maxRecDepth 100000 in
theorem kr_X12_cutter_153 {N : Nat} {K len : Nat → Nat} {a1 : Int32} {a2 : Int32} {a3 : Int32} {a4 : Int32} {a5 : Int32} {ρ : RG} (hL : Lay N K len ρ) : ∀ (n : Nat) (σ : SG) (v6 : Int32) (v7 : Int32), kp (F_X12_cutter_153 a1 a2 a3 a4 a5 n σ ρ v6 v7) (fun q => KR σ q.2) := by
  intro n
  induction n with
  | zero => intro σ v6 v7; exact kp_none
  | succ n ih =>
    intro σ v6 v7
    unfold F_X12_cutter_153
    refine kp_if ?_ ?_
    · refine kp_nm (fun x37_1223 _ => ?_)
      refine kp_nm (fun σ39_1224 hσ39_1224 => ?_)
      have kσ39_1224 : KR σ σ39_1224 := by rw [hσ39_1224]; exact kr_trans (kr_refl _) (kr_lit (by decide))
      exact kp_some kσ39_1224
    · refine kp_nm (fun x40_1225 _ => ?_)
      refine kp_nm (fun x41_1226 _ => ?_)
      refine kp_nm (fun x42_1227 _ => ?_)
      refine kp_gd (fun _ => ?_)
      refine kp_nm (fun σ45_1228 hσ45_1228 => ?_)
      have kσ45_1228 : KR σ σ45_1228 := by rw [hσ45_1228]; exact kr_trans (kr_refl _) (kr_row (by decide))
      refine kp_nm (fun x46_1229 _ => ?_)
      exact kp_tr2_kr (ih _ _ _) kσ45_1228

set_option maxRecDepth 100000 in
theorem kr_X12_cutter {N : Nat} {K len : Nat → Nat} {a1 : Int32} {a2 : Int32} {a3 : Int32} {a4 : Int32} {a5 : Int32} {σ : SG} {ρ : RG} (hL : Lay N K len ρ) : kp (F_X12_cutter a1 a2 a3 a4 a5 σ ρ) (fun q => KR σ q.2) := by
  unfold F_X12_cutter
  refine kp_bx (fun r1_1206 => ?_)
  refine kp_if ?_ ?_
  · exact kp_some (kr_refl _)
  · refine kp_bx (fun r3_1207 => ?_)
    refine kp_if ?_ ?_
    · exact kp_some (kr_refl _)
    · refine kp_bx (fun r5_1208 => ?_)
      refine kp_if ?_ ?_
      · exact kp_some (kr_refl _)
      · refine kp_bx (fun r7_1209 => ?_)
        refine kp_if ?_ ?_
        · exact kp_some (kr_refl _)
        · refine kp_bx (fun r9_1210 => ?_)
          refine kp_if ?_ ?_
          · exact kp_some (kr_refl _)
          · refine kp_if ?_ ?_
            · exact kp_some (kr_refl _)
            · refine kp_nm (fun x12_1211 _ => ?_)
              refine kp_gd (fun _ => ?_)
              refine kp_nm (fun σ15_1212 hσ15_1212 => ?_)
              have kσ15_1212 : KR σ σ15_1212 := by rw [hσ15_1212]; exact kr_trans (kr_refl _) (kr_row (by decide))
              refine kp_nm (fun x16_1213 _ => ?_)
              refine kp_gd (fun _ => ?_)
              refine kp_nm (fun σ19_1214 hσ19_1214 => ?_)
              have kσ19_1214 : KR σ σ19_1214 := by rw [hσ19_1214]; exact kr_trans kσ15_1212 (kr_row (by decide))
              refine kp_nm (fun x20_1215 _ => ?_)
              refine kp_gd (fun _ => ?_)
              refine kp_nm (fun σ23_1216 hσ23_1216 => ?_)
              have kσ23_1216 : KR σ σ23_1216 := by rw [hσ23_1216]; exact kr_trans kσ19_1214 (kr_row (by decide))
              refine kp_nm (fun x24_1217 _ => ?_)
              refine kp_gd (fun _ => ?_)
              refine kp_nm (fun σ27_1218 hσ27_1218 => ?_)
              have kσ27_1218 : KR σ σ27_1218 := by rw [hσ27_1218]; exact kr_trans kσ23_1216 (kr_row (by decide))
              refine kp_nm (fun x28_1219 _ => ?_)
              refine kp_gd (fun _ => ?_)
              refine kp_nm (fun σ31_1220 hσ31_1220 => ?_)
              have kσ31_1220 : KR σ σ31_1220 := by rw [hσ31_1220]; exact kr_trans kσ27_1218 (kr_row (by decide))
              refine kp_nm (fun x32_1221 _ => ?_)
              refine kp_gd (fun _ => ?_)
              refine kp_nm (fun σ35_1222 hσ35_1222 => ?_)
              have kσ35_1222 : KR σ σ35_1222 := by rw [hσ35_1222]; exact kr_trans kσ31_1220 (kr_row (by decide))
              exact kp_tr2_kr (kr_X12_cutter_153 hL 1024 _ _ _) kσ35_1222
