/-! PART 72.kc: printed by wip/gen/kp26.py -/
/-! frames: what holds of every answer -/
def kp {α : Type} (o : Option α) (P : α → Prop) : Prop := ∀ a, o = some a → P a
theorem kp_none {α : Type} {P : α → Prop} : kp (none : Option α) P := fun _ h => by cases h
theorem kp_some {α : Type} {a : α} {P : α → Prop} (h : P a) : kp (some a) P := fun _ e => by cases e; exact h
theorem kp_nm {α β : Type} {v : α} {f : α → Option β} {P : β → Prop} (h : ∀ x, x = v → kp (f x) P) : kp (nm v f) P := h v rfl
theorem kp_gd {α : Type} {b : Bool} {x : Option α} {P : α → Prop} (h : b = true → kp x P) : kp (gd b x) P := by
  cases b with
  | false => exact fun _ e => by cases e
  | true => exact h rfl
theorem kp_bn {α β : Type} {o : Option α} {f : α → Option β} {Q : α → Prop} {P : β → Prop} (ho : kp o Q) (h : ∀ a, Q a → kp (f a) P) : kp (bn o f) P := by
  cases o with
  | none => exact fun _ e => by cases e
  | some a => exact h a (ho a rfl)
theorem kp_bn2 {α β γ : Type} {o : Option (α × β)} {f : α → β → Option γ} {Q : α × β → Prop} {P : γ → Prop} (ho : kp o Q) (h : ∀ a b, Q (a, b) → kp (f a b) P) : kp (bn2 o f) P := by
  cases o with
  | none => exact fun _ e => by cases e
  | some a => exact h a.1 a.2 (ho a rfl)
theorem kp_bn3 {α β γ δ : Type} {o : Option (α × β × γ)} {f : α → β → γ → Option δ} {Q : α × β × γ → Prop} {P : δ → Prop} (ho : kp o Q) (h : ∀ a b c, Q (a, b, c) → kp (f a b c) P) : kp (bn3 o f) P := by
  cases o with
  | none => exact fun _ e => by cases e
  | some a => exact h a.1 a.2.1 a.2.2 (ho a rfl)
theorem kp_bx {α β : Type} {o : Option α} {f : α → Option β} {P : β → Prop} (h : ∀ a, kp (f a) P) : kp (bn o f) P := kp_bn (Q := fun _ => True) (fun _ _ => trivial) (fun a _ => h a)
theorem kp_bx2 {α β γ : Type} {o : Option (α × β)} {f : α → β → Option γ} {P : γ → Prop} (h : ∀ a b, kp (f a b) P) : kp (bn2 o f) P := kp_bn2 (Q := fun _ => True) (fun _ _ => trivial) (fun a b _ => h a b)
theorem kp_if {α : Type} {c : Prop} [Decidable c] {x y : Option α} {P : α → Prop} (h1 : kp x P) (h2 : kp y P) : kp (if c then x else y) P := by
  by_cases h : c
  · rw [if_pos h]; exact h1
  · rw [if_neg h]; exact h2
theorem kp_oc {β : Type} {x : Option Nat} {a : Option β} {f : Nat → Option β} {P : β → Prop} (h1 : kp a P) (h2 : ∀ c, kp (f c) P) : kp (oc x a f) P := by
  cases x with
  | none => exact h1
  | some c => exact h2 c
theorem kp_mono {α : Type} {o : Option α} {P Q : α → Prop} (h : kp o P) (hpq : ∀ a, P a → Q a) : kp o Q := fun a e => hpq a (h a e)
theorem ok_kp {α : Type} {o : Option α} {P Q : α → Prop} (h : ok o P) (k : kp o Q) : ok o (fun q => P q ∧ Q q) := by
  obtain ⟨a, e, p⟩ := h
  exact ⟨a, e, p, k a e⟩
/-- the cells of the class's table that only few calls write; and all of the reference -/
def kcP (r k : Nat) : Bool := ((r == 1 || r == 14) && (k == 1 || k == 10)) || (r == 0 && k == 2) || (Nat.ble 54 r && Nat.blt r 65)
def kcR (r : Nat) : Bool := r == 0 || r == 1 || r == 14 || (Nat.ble 54 r && Nat.blt r 65)
def KC (σ σ' : SG) : Prop := ∀ r k, kcP r k = true → σ' r k = σ r k
theorem kc_refl (σ : SG) : KC σ σ := fun _ _ _ => rfl
theorem kc_trans {σ σ1 σ2 : SG} (h : KC σ σ1) (h' : KC σ1 σ2) : KC σ σ2 := fun r k p => (h' r k p).trans (h r k p)
theorem kc_lit {σ : SG} {r k : Nat} {v : Int32} (h : kcP r k = false) : KC σ (s2 σ r k v) := fun a b p => by
  rw [s2_at]
  by_cases e : a = r
  · by_cases e' : b = k
    · rw [e, e', h] at p; cases p
    · rw [if_pos e, if_neg e', e]
  · rw [if_neg e]
theorem kc_rows {r k : Nat} (h : kcR r = false) : kcP r k = false := by
  cases e : kcP r k with
  | false => rfl
  | true =>
    exfalso
    simp only [kcP, kcR, Bool.or_eq_true, Bool.and_eq_true, Bool.or_eq_false_iff, Bool.and_eq_false_iff, beq_iff_eq, beq_eq_false_iff_ne] at e h
    obtain ⟨⟨⟨h1, h2⟩, h3⟩, h4⟩ := h
    rcases e with (⟨e, -⟩ | ⟨e, -⟩) | ⟨e1, e2⟩
    · rcases e with e | e
      · exact h2 e
      · exact h3 e
    · exact h1 e
    · rcases h4 with h4 | h4
      · rw [e1] at h4; cases h4
      · rw [e2] at h4; cases h4
theorem kc_row {σ : SG} {r k : Nat} {v : Int32} (h : kcR r = false) : KC σ (s2 σ r k v) := kc_lit (kc_rows h)
theorem kc_cpy {σ : SG} {a r n : Nat} (h : kcR r = false) : KC σ (cpy σ a r n) := fun x b p => by
  rw [cpy_at]
  by_cases e : x = r
  · rw [e, kc_rows h] at p; cases p
  · rw [if_neg e]
theorem kp_tr_kc {o : Option SG} {σ σ1 : SG} (h : kp o (fun q => KC σ1 q)) (k : KC σ σ1) : kp o (fun q => KC σ q) := kp_mono h (fun _ z => kc_trans k z)
theorem kp_tr2_kc {α : Type} {o : Option (α × SG)} {σ σ1 : SG} (h : kp o (fun q => KC σ1 q.2)) (k : KC σ σ1) : kp o (fun q => KC σ q.2) := kp_mono h (fun _ z => kc_trans k z)
theorem kp_tr3_kc {α β : Type} {o : Option (α × SG × β)} {σ σ1 : SG} (h : kp o (fun q => KC σ1 q.2.1)) (k : KC σ σ1) : kp o (fun q => KC σ q.2.1) := kp_mono h (fun _ z => kc_trans k z)
theorem kc_hi {r : Nat} (h : 65 ≤ r) : kcR r = false := by
  unfold kcR
  simp only [Bool.or_eq_false_iff, Bool.and_eq_false_iff, beq_eq_false_iff_ne]
  refine ⟨⟨⟨by omega, by omega⟩, by omega⟩, Or.inr ?_⟩
  cases e : Nat.blt r 65 with
  | false => rfl
  | true => have := Nat.blt_eq.mp e; omega
theorem kc_c {N : Nat} {K len : Nat → Nat} {ρ : RG} {σ : SG} {c k : Nat} {v : Int32} (hL : Lay N K len ρ) (h : isC N K c = true) : KC σ (s2 σ c k v) := kc_row (kc_hi (ck_65 hL h))
theorem isLb_lt {i : Nat} (h : isLb i = true) : i < 65 := by
  unfold isLb at h
  simp only [Bool.or_eq_true, beq_iff_eq] at h
  omega
theorem kc_lb0 {i : Nat} (h : isLb i = true) : kcR i = false ∧ kcR (i + 1) = false := by
  have hd : ∀ i : Fin 65, isLb i = true → kcR i = false ∧ kcR (i + 1) = false := by decide
  exact hd ⟨i, isLb_lt h⟩ h
theorem kc_lb {σ : SG} {i k : Nat} {v : Int32} (h : isLb i = true) : KC σ (s2 σ i k v) := kc_row (kc_lb0 h).1
theorem kc_lb1 {σ : SG} {i k : Nat} {v : Int32} (h : isLb i = true) : KC σ (s2 σ (i + 1) k v) := kc_row (kc_lb0 h).2
theorem kc_d {N : Nat} {K len : Nat → Nat} {ρ : RG} {σ : SG} {c k : Nat} {v : Int32} (hL : Lay N K len ρ) (h : isD N K len c = true) : KC σ (s2 σ c k v) := by
  refine kc_row ?_
  rcases Nat.lt_or_ge c 65 with q | q
  · obtain ⟨-, h2, h3⟩ := isD_lt h
    rw [ly_k hL c (Nat.blt_eq.mpr q)] at h2
    rw [ly_n hL c (Nat.blt_eq.mpr q)] at h3
    have hd : ∀ r : Fin 65, kind0 r = 14 → len0 r = 4 → kcR r = false := by decide
    exact hd ⟨c, q⟩ h2 h3
  · exact kc_hi q
set_option maxRecDepth 100000 in
theorem kk_X4_prepare {N : Nat} {K len : Nat → Nat} {z : Nat} {i : Nat} {σ : SG} {ρ : RG} (hL : Lay N K len ρ) (f_z : isC N K z = true) (f_i : isLb i = true) : kp (F_X4_prepare N K len z i σ ρ) (fun q => KC σ q) := by
  unfold F_X4_prepare
  refine kp_nm (fun x1_1 _ => ?_)
  refine kp_nm (fun σ3_2 hσ3_2 => ?_)
  have kσ3_2 : KC σ σ3_2 := by rw [hσ3_2]; exact kc_trans (kc_refl _) (kc_lb f_i)
  exact kp_some kσ3_2

set_option maxRecDepth 100000 in
theorem kk_X3_straighten {N : Nat} {K len : Nat → Nat} {i : Nat} {σ : SG} {ρ : RG} (hL : Lay N K len ρ) (f_i : isLb i = true) : kp (F_X3_straighten i σ ρ) (fun q => KC σ q.2) := by
  unfold F_X3_straighten
  refine kp_bx (fun r1_5 => ?_)
  refine kp_nm (fun x2_6 _ => ?_)
  refine kp_nm (fun σ4_7 hσ4_7 => ?_)
  have kσ4_7 : KC σ σ4_7 := by rw [hσ4_7]; exact kc_trans (kc_refl _) (kc_lb f_i)
  refine kp_nm (fun σ6_8 hσ6_8 => ?_)
  have kσ6_8 : KC σ σ6_8 := by rw [hσ6_8]; exact kc_trans kσ4_7 (kc_lb f_i)
  refine kp_nm (fun σ8_9 hσ8_9 => ?_)
  have kσ8_9 : KC σ σ8_9 := by rw [hσ8_9]; exact kc_trans kσ6_8 (kc_lb f_i)
  refine kp_nm (fun x9_10 _ => ?_)
  refine kp_nm (fun x10_11 _ => ?_)
  refine kp_nm (fun σ12_12 hσ12_12 => ?_)
  have kσ12_12 : KC σ σ12_12 := by rw [hσ12_12]; exact kc_trans kσ8_9 (kc_lb f_i)
  refine kp_nm (fun x13_13 _ => ?_)
  exact kp_some kσ12_12

set_option maxRecDepth 100000 in
theorem kk_X5_prepare {N : Nat} {K len : Nat → Nat} {z : Nat} {i : Nat} {σ : SG} {ρ : RG} (hL : Lay N K len ρ) (f_z : isC N K z = true) (f_i : isLb i = true) : kp (F_X5_prepare N K len z i σ ρ) (fun q => KC σ q) := by
  unfold F_X5_prepare
  refine kp_bn2 (kk_X3_straighten hL f_i) (fun r1_3 σ1_4 hr1_3 => ?_)
  have kσ1_4 : KC σ σ1_4 := kc_trans (kc_refl _) hr1_3
  exact kp_some kσ1_4

theorem kk_v_prepare {N : Nat} {K len : Nat → Nat} {z i : Nat} {σ : SG} {ρ : RG} (hL : Lay N K len ρ) (f_z : isC N K z = true) (f_i : isLb i = true) : kp (F_v_prepare N K len z i σ ρ) (fun q => KC σ q) := by
  unfold F_v_prepare
  refine kp_if (kp_bx (fun _ => kp_some (kc_refl _))) ?_
  refine kp_if (kp_bx (fun _ => kp_some (kc_refl _))) ?_
  refine kp_if (kk_X4_prepare hL f_z f_i) ?_
  refine kp_if (kk_X5_prepare hL f_z f_i) ?_
  refine kp_if (kp_bx (fun _ => kp_some (kc_refl _))) ?_
  refine kp_if (kp_bx (fun _ => kp_some (kc_refl _))) ?_
  refine kp_if (kp_bx (fun _ => kp_some (kc_refl _))) ?_
  exact kp_none

set_option maxRecDepth 100000 in
theorem kk_X10_began {N : Nat} {K len : Nat → Nat} {a1 : Int32} {σ : SG} {ρ : RG} (hL : Lay N K len ρ) : kp (F_X10_began a1 σ ρ) (fun q => KC σ q) := by
  unfold F_X10_began
  refine kp_if ?_ ?_
  · unfold F_X10_began_29
    refine kp_nm (fun x2_15 _ => ?_)
    refine kp_nm (fun σ4_16 hσ4_16 => ?_)
    have kσ4_16 : KC σ σ4_16 := by rw [hσ4_16]; exact kc_trans (kc_refl _) (kc_lit (by decide))
    exact kp_some kσ4_16
  · refine kp_if ?_ ?_
    · unfold F_X10_began_29
      refine kp_nm (fun x2_17 _ => ?_)
      refine kp_nm (fun σ4_18 hσ4_18 => ?_)
      have kσ4_18 : KC σ σ4_18 := by rw [hσ4_18]; exact kc_trans (kc_refl _) (kc_lit (by decide))
      exact kp_some kσ4_18
    · refine kp_gd (fun _ => ?_)
      refine kp_nm (fun σ8_19 hσ8_19 => ?_)
      have kσ8_19 : KC σ σ8_19 := by rw [hσ8_19]; exact kc_trans (kc_refl _) (kc_row (by decide))
      unfold F_X10_began_29
      refine kp_nm (fun x2_20 _ => ?_)
      refine kp_nm (fun σ4_21 hσ4_21 => ?_)
      have kσ4_21 : KC σ σ4_21 := by rw [hσ4_21]; exact kc_trans kσ8_19 (kc_lit (by decide))
      exact kp_some kσ4_21

set_option maxRecDepth 100000 in
theorem kk_X1_cuts {N : Nat} {K len : Nat → Nat} {z : Nat} {a1 : Int32} {σ : SG} {ρ : RG} (hL : Lay N K len ρ) (f_z : isC N K z = true) : kp (F_X1_cuts N K len z a1 σ ρ) (fun q => KC σ q.2) := by
  unfold F_X1_cuts
  refine kp_bn (kk_X10_began hL) (fun σ1_25 hσ1_25 => ?_)
  have kσ1_25 : KC σ σ1_25 := kc_trans (kc_refl _) hσ1_25
  refine kp_nm (fun x2_26 _ => ?_)
  exact kp_some kσ1_25

set_option maxRecDepth 100000 in
theorem kk_X7_cuts {N : Nat} {K len : Nat → Nat} {z : Nat} {a1 : Int32} {σ : SG} {ρ : RG} (hL : Lay N K len ρ) (f_z : isC N K z = true) : kp (F_X7_cuts N K len z a1 σ ρ) (fun q => KC σ q.2) := by
  unfold F_X7_cuts
  refine kp_bn (kk_X10_began hL) (fun σ1_14 hσ1_14 => ?_)
  have kσ1_14 : KC σ σ1_14 := kc_trans (kc_refl _) hσ1_14
  refine kp_nm (fun x2_22 _ => ?_)
  refine kp_bn2 (kk_X1_cuts hL f_z) (fun r3_23 σ3_24 hr3_23 => ?_)
  have kσ3_24 : KC σ σ3_24 := kc_trans kσ1_14 hr3_23
  exact kp_some kσ3_24

set_option maxRecDepth 100000 in
theorem kk_X4_cuts {N : Nat} {K len : Nat → Nat} {z : Nat} {a1 : Int32} {σ : SG} {ρ : RG} (hL : Lay N K len ρ) (f_z : isC N K z = true) : kp (F_X4_cuts N K len z a1 σ ρ) (fun q => KC σ q.2) := by
  unfold F_X4_cuts
  refine kp_bn (kk_X10_began hL) (fun σ1_27 hσ1_27 => ?_)
  have kσ1_27 : KC σ σ1_27 := kc_trans (kc_refl _) hσ1_27
  refine kp_bn2 (kk_X1_cuts hL f_z) (fun r2_28 σ2_29 hr2_28 => ?_)
  have kσ2_29 : KC σ σ2_29 := kc_trans kσ1_27 hr2_28
  refine kp_nm (fun x3_30 _ => ?_)
  exact kp_some kσ2_29

theorem kk_v_cuts {N : Nat} {K len : Nat → Nat} {z : Nat} {a1 : Int32} {σ : SG} {ρ : RG} (hL : Lay N K len ρ) (f_z : isC N K z = true) : kp (F_v_cuts N K len z a1 σ ρ) (fun q => KC σ q.2) := by
  unfold F_v_cuts
  refine kp_if (kk_X1_cuts hL f_z) ?_
  refine kp_if (kk_X1_cuts hL f_z) ?_
  refine kp_if (kk_X4_cuts hL f_z) ?_
  refine kp_if (kk_X7_cuts hL f_z) ?_
  refine kp_if (kk_X1_cuts hL f_z) ?_
  refine kp_if (kk_X7_cuts hL f_z) ?_
  refine kp_if (kk_X1_cuts hL f_z) ?_
  exact kp_none

set_option maxRecDepth 100000 in
theorem kk_X1_eats {N : Nat} {K len : Nat → Nat} {z : Nat} {a1 : Int32} {σ : SG} {ρ : RG} (hL : Lay N K len ρ) (f_z : isC N K z = true) : kp (F_X1_eats N K len z a1 σ ρ) (fun q => KC σ q.2) := by
  unfold F_X1_eats
  refine kp_bn (kk_X10_began hL) (fun σ1_34 hσ1_34 => ?_)
  have kσ1_34 : KC σ σ1_34 := kc_trans (kc_refl _) hσ1_34
  refine kp_bn2 (kk_v_cuts hL f_z) (fun r2_35 σ2_36 hr2_35 => ?_)
  have kσ2_36 : KC σ σ2_36 := kc_trans kσ1_34 hr2_35
  refine kp_nm (fun x3_37 _ => ?_)
  exact kp_some kσ2_36

set_option maxRecDepth 100000 in
theorem kk_X6_eats {N : Nat} {K len : Nat → Nat} {z : Nat} {a1 : Int32} {σ : SG} {ρ : RG} (hL : Lay N K len ρ) (f_z : isC N K z = true) : kp (F_X6_eats N K len z a1 σ ρ) (fun q => KC σ q.2) := by
  unfold F_X6_eats
  refine kp_bn (kk_X10_began hL) (fun σ1_31 hσ1_31 => ?_)
  have kσ1_31 : KC σ σ1_31 := kc_trans (kc_refl _) hσ1_31
  refine kp_bn2 (kk_X1_eats hL f_z) (fun r2_32 σ2_33 hr2_32 => ?_)
  have kσ2_33 : KC σ σ2_33 := kc_trans kσ1_31 hr2_32
  refine kp_nm (fun x3_38 _ => ?_)
  exact kp_some kσ2_33

set_option maxRecDepth 100000 in
theorem kk_X9_eats {N : Nat} {K len : Nat → Nat} {z : Nat} {a1 : Int32} {σ : SG} {ρ : RG} (hL : Lay N K len ρ) (f_z : isC N K z = true) : kp (F_X9_eats N K len z a1 σ ρ) (fun q => KC σ q.2) := by
  unfold F_X9_eats
  refine kp_bn (kk_X10_began hL) (fun σ1_39 hσ1_39 => ?_)
  have kσ1_39 : KC σ σ1_39 := kc_trans (kc_refl _) hσ1_39
  refine kp_bn2 (kk_X1_eats hL f_z) (fun r2_40 σ2_41 hr2_40 => ?_)
  have kσ2_41 : KC σ σ2_41 := kc_trans kσ1_39 hr2_40
  refine kp_nm (fun x3_42 _ => ?_)
  exact kp_some kσ2_41

theorem kk_v_eats {N : Nat} {K len : Nat → Nat} {z : Nat} {a1 : Int32} {σ : SG} {ρ : RG} (hL : Lay N K len ρ) (f_z : isC N K z = true) : kp (F_v_eats N K len z a1 σ ρ) (fun q => KC σ q.2) := by
  unfold F_v_eats
  refine kp_if (kk_X1_eats hL f_z) ?_
  refine kp_if (kk_X1_eats hL f_z) ?_
  refine kp_if (kk_X6_eats hL f_z) ?_
  refine kp_if (kk_X1_eats hL f_z) ?_
  refine kp_if (kk_X6_eats hL f_z) ?_
  refine kp_if (kk_X1_eats hL f_z) ?_
  refine kp_if (kk_X9_eats hL f_z) ?_
  exact kp_none

set_option maxRecDepth 100000 in
theorem kk_X1_tells {N : Nat} {K len : Nat → Nat} {z : Nat} {a1 : Int32} {σ : SG} {ρ : RG} (hL : Lay N K len ρ) (f_z : isC N K z = true) : kp (F_X1_tells N K len z a1 σ ρ) (fun q => KC σ q.2) := by
  unfold F_X1_tells
  refine kp_bn (kk_X10_began hL) (fun σ1_47 hσ1_47 => ?_)
  have kσ1_47 : KC σ σ1_47 := kc_trans (kc_refl _) hσ1_47
  refine kp_bn2 (kk_v_eats hL f_z) (fun r2_48 σ2_49 hr2_48 => ?_)
  have kσ2_49 : KC σ σ2_49 := kc_trans kσ1_47 hr2_48
  refine kp_nm (fun x3_50 _ => ?_)
  exact kp_some kσ2_49

set_option maxRecDepth 100000 in
theorem kk_X5_tells {N : Nat} {K len : Nat → Nat} {z : Nat} {a1 : Int32} {σ : SG} {ρ : RG} (hL : Lay N K len ρ) (f_z : isC N K z = true) : kp (F_X5_tells N K len z a1 σ ρ) (fun q => KC σ q.2) := by
  unfold F_X5_tells
  refine kp_bn (kk_X10_began hL) (fun σ1_43 hσ1_43 => ?_)
  have kσ1_43 : KC σ σ1_43 := kc_trans (kc_refl _) hσ1_43
  refine kp_nm (fun x2_44 _ => ?_)
  refine kp_bn2 (kk_X1_tells hL f_z) (fun r3_45 σ3_46 hr3_45 => ?_)
  have kσ3_46 : KC σ σ3_46 := kc_trans kσ1_43 hr3_45
  refine kp_gd (fun _ => ?_)
  refine kp_bn2 (kk_X7_cuts hL f_z) (fun r5_51 σ5_52 hr5_51 => ?_)
  have kσ5_52 : KC σ σ5_52 := kc_trans kσ3_46 hr5_51
  refine kp_nm (fun x6_53 _ => ?_)
  exact kp_some kσ5_52

set_option maxRecDepth 100000 in
theorem kk_X2_tells {N : Nat} {K len : Nat → Nat} {z : Nat} {a1 : Int32} {σ : SG} {ρ : RG} (hL : Lay N K len ρ) (f_z : isC N K z = true) : kp (F_X2_tells N K len z a1 σ ρ) (fun q => KC σ q.2) := by
  unfold F_X2_tells
  refine kp_bn (kk_X10_began hL) (fun σ1_54 hσ1_54 => ?_)
  have kσ1_54 : KC σ σ1_54 := kc_trans (kc_refl _) hσ1_54
  refine kp_bn2 (kk_X1_tells hL f_z) (fun r2_55 σ2_56 hr2_55 => ?_)
  have kσ2_56 : KC σ σ2_56 := kc_trans kσ1_54 hr2_55
  refine kp_nm (fun x3_57 _ => ?_)
  exact kp_some kσ2_56

theorem kk_v_tells {N : Nat} {K len : Nat → Nat} {z : Nat} {a1 : Int32} {σ : SG} {ρ : RG} (hL : Lay N K len ρ) (f_z : isC N K z = true) : kp (F_v_tells N K len z a1 σ ρ) (fun q => KC σ q.2) := by
  unfold F_v_tells
  refine kp_if (kk_X1_tells hL f_z) ?_
  refine kp_if (kk_X2_tells hL f_z) ?_
  refine kp_if (kk_X1_tells hL f_z) ?_
  refine kp_if (kk_X5_tells hL f_z) ?_
  refine kp_if (kk_X1_tells hL f_z) ?_
  refine kp_if (kk_X1_tells hL f_z) ?_
  refine kp_if (kk_X2_tells hL f_z) ?_
  exact kp_none

set_option maxRecDepth 100000 in
theorem kk_X11_feed {N : Nat} {K len : Nat → Nat} {a1 : Int32} {σ : SG} {ρ : RG} (hL : Lay N K len ρ) : kp (F_X11_feed a1 σ ρ) (fun q => KC σ q.2) := by
  unfold F_X11_feed
  refine kp_bx (fun r1_58 => ?_)
  refine kp_if ?_ ?_
  · exact kp_some (kc_refl _)
  · refine kp_if ?_ ?_
    · refine kp_gd (fun _ => ?_)
      refine kp_nm (fun σ6_59 hσ6_59 => ?_)
      have kσ6_59 : KC σ σ6_59 := by rw [hσ6_59]; exact kc_trans (kc_refl _) (kc_row (by decide))
      refine kp_nm (fun x7_60 _ => ?_)
      refine kp_nm (fun σ9_61 hσ9_61 => ?_)
      have kσ9_61 : KC σ σ9_61 := by rw [hσ9_61]; exact kc_trans kσ6_59 (kc_lit (by decide))
      exact kp_some kσ9_61
    · exact kp_some (kc_refl _)

set_option maxRecDepth 100000 in
theorem kk_X11_thick {N : Nat} {K len : Nat → Nat} {a1 : Int32} {a2 : Int32} {σ : SG} {ρ : RG} (hL : Lay N K len ρ) : kp (F_X11_thick N K len a1 a2 σ ρ) (fun q => KC σ q.2) := by
  unfold F_X11_thick
  refine kp_bx (fun o1_62 => ?_)
  refine kp_oc ?_ (fun c2_63 => ?_)
  · exact kp_some (kc_refl _)
  · refine kp_gd (fun g_64 => ?_)
    refine kp_bx (fun r3_65 => ?_)
    refine kp_if ?_ ?_
    · exact kp_some (kc_refl _)
    · refine kp_nm (fun σ5_66 hσ5_66 => ?_)
      have kσ5_66 : KC σ σ5_66 := by rw [hσ5_66]; exact kc_trans (kc_refl _) (kc_c hL g_64)
      exact kp_some kσ5_66

set_option maxRecDepth 100000 in
theorem kk_X11_row {N : Nat} {K len : Nat → Nat} {a1 : Int32} {a2 : Int32} {a3 : Int32} {σ : SG} {ρ : RG} (hL : Lay N K len ρ) : kp (F_X11_row N K len a1 a2 a3 σ ρ) (fun q => KC σ q.2) := by
  unfold F_X11_row
  refine kp_bx (fun o1_67 => ?_)
  refine kp_oc ?_ (fun c2_68 => ?_)
  · exact kp_some (kc_refl _)
  · refine kp_gd (fun g_69 => ?_)
    refine kp_bx (fun r3_70 => ?_)
    refine kp_if ?_ ?_
    · exact kp_some (kc_refl _)
    · refine kp_bx (fun r5_71 => ?_)
      refine kp_if ?_ ?_
      · exact kp_some (kc_refl _)
      · refine kp_if ?_ ?_
        · exact kp_some (kc_refl _)
        · refine kp_gd (fun _ => ?_)
          refine kp_gd (fun _ => ?_)
          refine kp_oc ?_ (fun c10_72 => ?_)
          · exact kp_none
          · refine kp_gd (fun g_73 => ?_)
            refine kp_gd (fun _ => ?_)
            refine kp_gd (fun _ => ?_)
            refine kp_oc ?_ (fun c13_74 => ?_)
            · exact kp_none
            · refine kp_gd (fun g_75 => ?_)
              refine kp_gd (fun _ => ?_)
              refine kp_nm (fun σ16_76 hσ16_76 => ?_)
              have kσ16_76 : KC σ σ16_76 := by rw [hσ16_76]; exact kc_trans (kc_refl _) (kc_d hL g_75)
              exact kp_some kσ16_76

set_option maxRecDepth 100000 in
theorem kk_X3_startsAnew {N : Nat} {K len : Nat → Nat} {i : Nat} {a1 : Int32} {σ : SG} {ρ : RG} (hL : Lay N K len ρ) (f_i : isLb i = true) : kp (F_X3_startsAnew i a1 σ ρ) (fun q => KC σ q) := by
  unfold F_X3_startsAnew
  refine kp_nm (fun σ2_79 hσ2_79 => ?_)
  have kσ2_79 : KC σ σ2_79 := by rw [hσ2_79]; exact kc_trans (kc_refl _) (kc_lb f_i)
  refine kp_nm (fun σ4_80 hσ4_80 => ?_)
  have kσ4_80 : KC σ σ4_80 := by rw [hσ4_80]; exact kc_trans kσ2_79 (kc_lb f_i)
  refine kp_nm (fun σ6_81 hσ6_81 => ?_)
  have kσ6_81 : KC σ σ6_81 := by rw [hσ6_81]; exact kc_trans kσ4_80 (kc_lb f_i)
  refine kp_nm (fun σ8_82 hσ8_82 => ?_)
  have kσ8_82 : KC σ σ8_82 := by rw [hσ8_82]; exact kc_trans kσ6_81 (kc_lb f_i)
  refine kp_nm (fun σ10_83 hσ10_83 => ?_)
  have kσ10_83 : KC σ σ10_83 := by rw [hσ10_83]; exact kc_trans kσ8_82 (kc_lb f_i)
  refine kp_nm (fun σ12_84 hσ12_84 => ?_)
  have kσ12_84 : KC σ σ12_84 := by rw [hσ12_84]; exact kc_trans kσ10_83 (kc_lb f_i)
  exact kp_some kσ12_84

set_option maxRecDepth 100000 in
theorem kk_X11_loaf {N : Nat} {K len : Nat → Nat} {a1 : Int32} {σ : SG} {ρ : RG} (hL : Lay N K len ρ) : kp (F_X11_loaf a1 σ ρ) (fun q => KC σ q.2) := by
  unfold F_X11_loaf
  refine kp_bx (fun r1_77 => ?_)
  refine kp_if ?_ ?_
  · exact kp_some (kc_refl _)
  · refine kp_bn (kk_X3_startsAnew hL (by decide)) (fun σ3_78 hσ3_78 => ?_)
    have kσ3_78 : KC σ σ3_78 := kc_trans (kc_refl _) hσ3_78
    exact kp_some kσ3_78

set_option maxRecDepth 100000 in
theorem kk_X3_noteStart {N : Nat} {K len : Nat → Nat} {i : Nat} {z : Nat} {a2 : Int32} {σ : SG} {ρ : RG} (hL : Lay N K len ρ) (f_i : isLb i = true) (f_z : isC N K z = true) : kp (F_X3_noteStart N K len i z a2 σ ρ) (fun q => KC σ q) := by
  unfold F_X3_noteStart
  refine kp_nm (fun σ2_91 hσ2_91 => ?_)
  have kσ2_91 : KC σ σ2_91 := by rw [hσ2_91]; exact kc_trans (kc_refl _) (kc_lb1 f_i)
  refine kp_bx (fun r3_92 => ?_)
  refine kp_nm (fun σ5_93 hσ5_93 => ?_)
  have kσ5_93 : KC σ σ5_93 := by rw [hσ5_93]; exact kc_trans kσ2_91 (kc_lb1 f_i)
  refine kp_nm (fun σ7_94 hσ7_94 => ?_)
  have kσ7_94 : KC σ σ7_94 := by rw [hσ7_94]; exact kc_trans kσ5_93 (kc_lb1 f_i)
  refine kp_nm (fun x8_95 _ => ?_)
  refine kp_nm (fun σ10_96 hσ10_96 => ?_)
  have kσ10_96 : KC σ σ10_96 := by rw [hσ10_96]; exact kc_trans kσ7_94 (kc_lb1 f_i)
  refine kp_nm (fun x11_97 _ => ?_)
  refine kp_nm (fun σ13_98 hσ13_98 => ?_)
  have kσ13_98 : KC σ σ13_98 := by rw [hσ13_98]; exact kc_trans kσ10_96 (kc_lb1 f_i)
  refine kp_nm (fun x14_99 _ => ?_)
  refine kp_nm (fun σ16_100 hσ16_100 => ?_)
  have kσ16_100 : KC σ σ16_100 := by rw [hσ16_100]; exact kc_trans kσ13_98 (kc_lb1 f_i)
  exact kp_some kσ16_100

set_option maxRecDepth 100000 in
theorem kk_X3_weigh_8 {N : Nat} {K len : Nat → Nat} {i : Nat} {a1 : Int32} {a2 : Int32} {a3 : Int32} {ρ : RG} (hL : Lay N K len ρ) (f_i : isLb i = true) : ∀ (n : Nat) (σ : SG) (v1 : Int32) (v2 : Int32) (v3 : Int32) (v4 : Int32), kp (F_X3_weigh_8 i a1 a2 a3 n σ ρ v1 v2 v3 v4) (fun q => KC σ q) := by
  intro n
  induction n with
  | zero => intro σ v1 v2 v3 v4; exact kp_none
  | succ n ih =>
    intro σ v1 v2 v3 v4
    unfold F_X3_weigh_8
    refine kp_if ?_ ?_
    · exact kp_some (kc_refl _)
    · refine kp_bx (fun r4_117 => ?_)
      refine kp_nm (fun x5_118 _ => ?_)
      refine kp_nm (fun x6_119 _ => ?_)
      refine kp_nm (fun x7_120 _ => ?_)
      refine kp_nm (fun σ9_121 hσ9_121 => ?_)
      have kσ9_121 : KC σ σ9_121 := by rw [hσ9_121]; exact kc_trans (kc_refl _) (kc_lb f_i)
      refine kp_if ?_ ?_
      · unfold F_X3_weigh_60
        refine kp_nm (fun σ13_122 hσ13_122 => ?_)
        have kσ13_122 : KC σ σ13_122 := by rw [hσ13_122]; exact kc_trans kσ9_121 (kc_lb f_i)
        refine kp_if ?_ ?_
        · unfold F_X3_weigh_83
          refine kp_nm (fun σ17_123 hσ17_123 => ?_)
          have kσ17_123 : KC σ σ17_123 := by rw [hσ17_123]; exact kc_trans kσ13_122 (kc_lb f_i)
          refine kp_nm (fun x18_124 _ => ?_)
          exact kp_tr_kc (ih _ _ _ _ _) kσ17_123
        · refine kp_nm (fun x15_125 _ => ?_)
          unfold F_X3_weigh_83
          refine kp_nm (fun σ17_126 hσ17_126 => ?_)
          have kσ17_126 : KC σ σ17_126 := by rw [hσ17_126]; exact kc_trans kσ13_122 (kc_lb f_i)
          refine kp_nm (fun x18_127 _ => ?_)
          exact kp_tr_kc (ih _ _ _ _ _) kσ17_126
      · refine kp_nm (fun x11_128 _ => ?_)
        unfold F_X3_weigh_60
        refine kp_nm (fun σ13_129 hσ13_129 => ?_)
        have kσ13_129 : KC σ σ13_129 := by rw [hσ13_129]; exact kc_trans kσ9_121 (kc_lb f_i)
        refine kp_if ?_ ?_
        · unfold F_X3_weigh_83
          refine kp_nm (fun σ17_130 hσ17_130 => ?_)
          have kσ17_130 : KC σ σ17_130 := by rw [hσ17_130]; exact kc_trans kσ13_129 (kc_lb f_i)
          refine kp_nm (fun x18_131 _ => ?_)
          exact kp_tr_kc (ih _ _ _ _ _) kσ17_130
        · refine kp_nm (fun x15_132 _ => ?_)
          unfold F_X3_weigh_83
          refine kp_nm (fun σ17_133 hσ17_133 => ?_)
          have kσ17_133 : KC σ σ17_133 := by rw [hσ17_133]; exact kc_trans kσ13_129 (kc_lb f_i)
          refine kp_nm (fun x18_134 _ => ?_)
          exact kp_tr_kc (ih _ _ _ _ _) kσ17_133

set_option maxRecDepth 100000 in
theorem kk_X3_weigh {N : Nat} {K len : Nat → Nat} {i : Nat} {a1 : Int32} {a2 : Int32} {a3 : Int32} {σ : SG} {ρ : RG} (hL : Lay N K len ρ) (f_i : isLb i = true) : kp (F_X3_weigh i a1 a2 a3 σ ρ) (fun q => KC σ q) := by
  unfold F_X3_weigh
  refine kp_nm (fun σ2_116 hσ2_116 => ?_)
  have kσ2_116 : KC σ σ2_116 := by rw [hσ2_116]; exact kc_trans (kc_refl _) (kc_lb f_i)
  exact kp_tr_kc (kk_X3_weigh_8 hL f_i 1024 _ _ _ _ _) kσ2_116

set_option maxRecDepth 100000 in
theorem kk_X3_tryCut {N : Nat} {K len : Nat → Nat} {i : Nat} {z : Nat} {a2 : Int32} {a4 : Int32} {a5 : Int32} {σ : SG} {ρ : RG} (hL : Lay N K len ρ) (f_i : isLb i = true) (f_z : isC N K z = true) : kp (F_X3_tryCut N K len i z a2 a4 a5 σ ρ) (fun q => KC σ q.2) := by
  unfold F_X3_tryCut
  refine kp_bn (kk_X3_noteStart hL f_i f_z) (fun σ1_90 hσ1_90 => ?_)
  have kσ1_90 : KC σ σ1_90 := kc_trans (kc_refl _) hσ1_90
  refine kp_bx (fun r2_101 => ?_)
  refine kp_bx (fun r3_102 => ?_)
  refine kp_bn (kk_v_prepare hL f_z f_i) (fun σ4_103 hσ4_103 => ?_)
  have kσ4_103 : KC σ σ4_103 := kc_trans kσ1_90 hσ4_103
  refine kp_if ?_ ?_
  · unfold F_X3_tryCut_80
    refine kp_gd (fun g_104 => ?_)
    refine kp_gd (fun g_105 => ?_)
    refine kp_bx (fun r6_106 => ?_)
    refine kp_nm (fun x7_107 _ => ?_)
    refine kp_bx (fun r8_108 => ?_)
    refine kp_if ?_ ?_
    · unfold F_X3_tryCut_111
      refine kp_gd (fun g_109 => ?_)
      refine kp_bx (fun r10_110 => ?_)
      refine kp_nm (fun x11_111 _ => ?_)
      refine kp_bx (fun r12_112 => ?_)
      refine kp_nm (fun x13_113 _ => ?_)
      refine kp_nm (fun x14_114 _ => ?_)
      refine kp_bn (kk_X3_weigh hL f_i) (fun σ15_115 hσ15_115 => ?_)
      have kσ15_115 : KC σ σ15_115 := kc_trans kσ4_103 hσ15_115
      refine kp_nm (fun x16_135 _ => ?_)
      refine kp_nm (fun σ18_136 hσ18_136 => ?_)
      have kσ18_136 : KC σ σ18_136 := by rw [hσ18_136]; exact kc_trans kσ15_115 (kc_lb f_i)
      refine kp_nm (fun σ20_137 hσ20_137 => ?_)
      have kσ20_137 : KC σ σ20_137 := by rw [hσ20_137]; exact kc_trans kσ18_136 (kc_lb f_i)
      refine kp_nm (fun σ22_138 hσ22_138 => ?_)
      have kσ22_138 : KC σ σ22_138 := by rw [hσ22_138]; exact kc_trans kσ20_137 (kc_lb f_i)
      refine kp_if ?_ ?_
      · refine kp_bx (fun r27_139 => ?_)
        refine kp_if ?_ ?_
        · refine kp_nm (fun σ30_140 hσ30_140 => ?_)
          have kσ30_140 : KC σ σ30_140 := by rw [hσ30_140]; exact kc_trans kσ22_138 (kc_lb f_i)
          refine kp_nm (fun σ32_141 hσ32_141 => ?_)
          have kσ32_141 : KC σ σ32_141 := by rw [hσ32_141]; exact kc_trans kσ30_140 (kc_lb f_i)
          refine kp_nm (fun σ34_142 hσ34_142 => ?_)
          have kσ34_142 : KC σ σ34_142 := by rw [hσ34_142]; exact kc_trans kσ32_141 (kc_lb f_i)
          refine kp_nm (fun σ36_143 hσ36_143 => ?_)
          have kσ36_143 : KC σ σ36_143 := by rw [hσ36_143]; exact kc_trans kσ34_142 (kc_lb f_i)
          exact kp_some kσ36_143
        · unfold F_X3_tryCut_180
          refine kp_nm (fun x24_144 _ => ?_)
          refine kp_nm (fun σ26_145 hσ26_145 => ?_)
          have kσ26_145 : KC σ σ26_145 := by rw [hσ26_145]; exact kc_trans kσ22_138 (kc_lb f_i)
          exact kp_some kσ26_145
      · unfold F_X3_tryCut_180
        refine kp_nm (fun x24_146 _ => ?_)
        refine kp_nm (fun σ26_147 hσ26_147 => ?_)
        have kσ26_147 : KC σ σ26_147 := by rw [hσ26_147]; exact kc_trans kσ22_138 (kc_lb f_i)
        exact kp_some kσ26_147
    · refine kp_nm (fun x37_148 _ => ?_)
      unfold F_X3_tryCut_111
      refine kp_gd (fun g_149 => ?_)
      refine kp_bx (fun r10_150 => ?_)
      refine kp_nm (fun x11_151 _ => ?_)
      refine kp_bx (fun r12_152 => ?_)
      refine kp_nm (fun x13_153 _ => ?_)
      refine kp_nm (fun x14_154 _ => ?_)
      refine kp_bn (kk_X3_weigh hL f_i) (fun σ15_155 hσ15_155 => ?_)
      have kσ15_155 : KC σ σ15_155 := kc_trans kσ4_103 hσ15_155
      refine kp_nm (fun x16_156 _ => ?_)
      refine kp_nm (fun σ18_157 hσ18_157 => ?_)
      have kσ18_157 : KC σ σ18_157 := by rw [hσ18_157]; exact kc_trans kσ15_155 (kc_lb f_i)
      refine kp_nm (fun σ20_158 hσ20_158 => ?_)
      have kσ20_158 : KC σ σ20_158 := by rw [hσ20_158]; exact kc_trans kσ18_157 (kc_lb f_i)
      refine kp_nm (fun σ22_159 hσ22_159 => ?_)
      have kσ22_159 : KC σ σ22_159 := by rw [hσ22_159]; exact kc_trans kσ20_158 (kc_lb f_i)
      refine kp_if ?_ ?_
      · refine kp_bx (fun r27_160 => ?_)
        refine kp_if ?_ ?_
        · refine kp_nm (fun σ30_161 hσ30_161 => ?_)
          have kσ30_161 : KC σ σ30_161 := by rw [hσ30_161]; exact kc_trans kσ22_159 (kc_lb f_i)
          refine kp_nm (fun σ32_162 hσ32_162 => ?_)
          have kσ32_162 : KC σ σ32_162 := by rw [hσ32_162]; exact kc_trans kσ30_161 (kc_lb f_i)
          refine kp_nm (fun σ34_163 hσ34_163 => ?_)
          have kσ34_163 : KC σ σ34_163 := by rw [hσ34_163]; exact kc_trans kσ32_162 (kc_lb f_i)
          refine kp_nm (fun σ36_164 hσ36_164 => ?_)
          have kσ36_164 : KC σ σ36_164 := by rw [hσ36_164]; exact kc_trans kσ34_163 (kc_lb f_i)
          exact kp_some kσ36_164
        · unfold F_X3_tryCut_180
          refine kp_nm (fun x24_165 _ => ?_)
          refine kp_nm (fun σ26_166 hσ26_166 => ?_)
          have kσ26_166 : KC σ σ26_166 := by rw [hσ26_166]; exact kc_trans kσ22_159 (kc_lb f_i)
          exact kp_some kσ26_166
      · unfold F_X3_tryCut_180
        refine kp_nm (fun x24_167 _ => ?_)
        refine kp_nm (fun σ26_168 hσ26_168 => ?_)
        have kσ26_168 : KC σ σ26_168 := by rw [hσ26_168]; exact kc_trans kσ22_159 (kc_lb f_i)
        exact kp_some kσ26_168
  · refine kp_nm (fun x38_169 _ => ?_)
    unfold F_X3_tryCut_80
    refine kp_gd (fun g_170 => ?_)
    refine kp_gd (fun g_171 => ?_)
    refine kp_bx (fun r6_172 => ?_)
    refine kp_nm (fun x7_173 _ => ?_)
    refine kp_bx (fun r8_174 => ?_)
    refine kp_if ?_ ?_
    · unfold F_X3_tryCut_111
      refine kp_gd (fun g_175 => ?_)
      refine kp_bx (fun r10_176 => ?_)
      refine kp_nm (fun x11_177 _ => ?_)
      refine kp_bx (fun r12_178 => ?_)
      refine kp_nm (fun x13_179 _ => ?_)
      refine kp_nm (fun x14_180 _ => ?_)
      refine kp_bn (kk_X3_weigh hL f_i) (fun σ15_181 hσ15_181 => ?_)
      have kσ15_181 : KC σ σ15_181 := kc_trans kσ4_103 hσ15_181
      refine kp_nm (fun x16_182 _ => ?_)
      refine kp_nm (fun σ18_183 hσ18_183 => ?_)
      have kσ18_183 : KC σ σ18_183 := by rw [hσ18_183]; exact kc_trans kσ15_181 (kc_lb f_i)
      refine kp_nm (fun σ20_184 hσ20_184 => ?_)
      have kσ20_184 : KC σ σ20_184 := by rw [hσ20_184]; exact kc_trans kσ18_183 (kc_lb f_i)
      refine kp_nm (fun σ22_185 hσ22_185 => ?_)
      have kσ22_185 : KC σ σ22_185 := by rw [hσ22_185]; exact kc_trans kσ20_184 (kc_lb f_i)
      refine kp_if ?_ ?_
      · refine kp_bx (fun r27_186 => ?_)
        refine kp_if ?_ ?_
        · refine kp_nm (fun σ30_187 hσ30_187 => ?_)
          have kσ30_187 : KC σ σ30_187 := by rw [hσ30_187]; exact kc_trans kσ22_185 (kc_lb f_i)
          refine kp_nm (fun σ32_188 hσ32_188 => ?_)
          have kσ32_188 : KC σ σ32_188 := by rw [hσ32_188]; exact kc_trans kσ30_187 (kc_lb f_i)
          refine kp_nm (fun σ34_189 hσ34_189 => ?_)
          have kσ34_189 : KC σ σ34_189 := by rw [hσ34_189]; exact kc_trans kσ32_188 (kc_lb f_i)
          refine kp_nm (fun σ36_190 hσ36_190 => ?_)
          have kσ36_190 : KC σ σ36_190 := by rw [hσ36_190]; exact kc_trans kσ34_189 (kc_lb f_i)
          exact kp_some kσ36_190
        · unfold F_X3_tryCut_180
          refine kp_nm (fun x24_191 _ => ?_)
          refine kp_nm (fun σ26_192 hσ26_192 => ?_)
          have kσ26_192 : KC σ σ26_192 := by rw [hσ26_192]; exact kc_trans kσ22_185 (kc_lb f_i)
          exact kp_some kσ26_192
      · unfold F_X3_tryCut_180
        refine kp_nm (fun x24_193 _ => ?_)
        refine kp_nm (fun σ26_194 hσ26_194 => ?_)
        have kσ26_194 : KC σ σ26_194 := by rw [hσ26_194]; exact kc_trans kσ22_185 (kc_lb f_i)
        exact kp_some kσ26_194
    · refine kp_nm (fun x37_195 _ => ?_)
      unfold F_X3_tryCut_111
      refine kp_gd (fun g_196 => ?_)
      refine kp_bx (fun r10_197 => ?_)
      refine kp_nm (fun x11_198 _ => ?_)
      refine kp_bx (fun r12_199 => ?_)
      refine kp_nm (fun x13_200 _ => ?_)
      refine kp_nm (fun x14_201 _ => ?_)
      refine kp_bn (kk_X3_weigh hL f_i) (fun σ15_202 hσ15_202 => ?_)
      have kσ15_202 : KC σ σ15_202 := kc_trans kσ4_103 hσ15_202
      refine kp_nm (fun x16_203 _ => ?_)
      refine kp_nm (fun σ18_204 hσ18_204 => ?_)
      have kσ18_204 : KC σ σ18_204 := by rw [hσ18_204]; exact kc_trans kσ15_202 (kc_lb f_i)
      refine kp_nm (fun σ20_205 hσ20_205 => ?_)
      have kσ20_205 : KC σ σ20_205 := by rw [hσ20_205]; exact kc_trans kσ18_204 (kc_lb f_i)
      refine kp_nm (fun σ22_206 hσ22_206 => ?_)
      have kσ22_206 : KC σ σ22_206 := by rw [hσ22_206]; exact kc_trans kσ20_205 (kc_lb f_i)
      refine kp_if ?_ ?_
      · refine kp_bx (fun r27_207 => ?_)
        refine kp_if ?_ ?_
        · refine kp_nm (fun σ30_208 hσ30_208 => ?_)
          have kσ30_208 : KC σ σ30_208 := by rw [hσ30_208]; exact kc_trans kσ22_206 (kc_lb f_i)
          refine kp_nm (fun σ32_209 hσ32_209 => ?_)
          have kσ32_209 : KC σ σ32_209 := by rw [hσ32_209]; exact kc_trans kσ30_208 (kc_lb f_i)
          refine kp_nm (fun σ34_210 hσ34_210 => ?_)
          have kσ34_210 : KC σ σ34_210 := by rw [hσ34_210]; exact kc_trans kσ32_209 (kc_lb f_i)
          refine kp_nm (fun σ36_211 hσ36_211 => ?_)
          have kσ36_211 : KC σ σ36_211 := by rw [hσ36_211]; exact kc_trans kσ34_210 (kc_lb f_i)
          exact kp_some kσ36_211
        · unfold F_X3_tryCut_180
          refine kp_nm (fun x24_212 _ => ?_)
          refine kp_nm (fun σ26_213 hσ26_213 => ?_)
          have kσ26_213 : KC σ σ26_213 := by rw [hσ26_213]; exact kc_trans kσ22_206 (kc_lb f_i)
          exact kp_some kσ26_213
      · unfold F_X3_tryCut_180
        refine kp_nm (fun x24_214 _ => ?_)
        refine kp_nm (fun σ26_215 hσ26_215 => ?_)
        have kσ26_215 : KC σ σ26_215 := by rw [hσ26_215]; exact kc_trans kσ22_206 (kc_lb f_i)
        exact kp_some kσ26_215

set_option maxRecDepth 100000 in
theorem kk_X11_cut {N : Nat} {K len : Nat → Nat} {a1 : Int32} {σ : SG} {ρ : RG} (hL : Lay N K len ρ) : kp (F_X11_cut N K len a1 σ ρ) (fun q => KC σ q.2) := by
  unfold F_X11_cut
  refine kp_bx (fun o1_85 => ?_)
  refine kp_oc ?_ (fun c2_86 => ?_)
  · exact kp_some (kc_refl _)
  · refine kp_gd (fun g_87 => ?_)
    refine kp_if ?_ ?_
    · exact kp_some (kc_refl _)
    · refine kp_bn2 (kk_X3_tryCut hL (by decide) g_87) (fun r4_88 σ4_89 hr4_88 => ?_)
      have kσ4_89 : KC σ σ4_89 := kc_trans (kc_refl _) hr4_88
      refine kp_if ?_ ?_
      · exact kp_some kσ4_89
      · refine kp_nm (fun x6_216 _ => ?_)
        refine kp_nm (fun σ7_217 hσ7_217 => ?_)
        have kσ7_217 : KC σ σ7_217 := by rw [hσ7_217]; exact kc_trans kσ4_89 (kc_c hL g_87)
        exact kp_some kσ7_217

set_option maxRecDepth 100000 in
theorem kk_X11_right {N : Nat} {K len : Nat → Nat} {σ : SG} {ρ : RG} (hL : Lay N K len ρ) : kp (F_X11_right σ ρ) (fun q => KC σ q.2) := by
  unfold F_X11_right
  refine kp_bx (fun r1_218 => ?_)
  refine kp_if ?_ ?_
  · refine kp_bn2 (kk_X3_straighten hL (by decide)) (fun r3_219 σ3_220 hr3_219 => ?_)
    have kσ3_220 : KC σ σ3_220 := kc_trans (kc_refl _) hr3_219
    exact kp_some kσ3_220
  · exact kp_some (kc_refl _)

set_option maxRecDepth 100000 in
theorem kk_X11_turn {N : Nat} {K len : Nat → Nat} {a1 : Int32} {σ : SG} {ρ : RG} (hL : Lay N K len ρ) : kp (F_X11_turn a1 σ ρ) (fun q => KC σ q.2) := by
  unfold F_X11_turn
  refine kp_if ?_ ?_
  · refine kp_nm (fun x2_221 _ => ?_)
    refine kp_nm (fun σ4_222 hσ4_222 => ?_)
    have kσ4_222 : KC σ σ4_222 := by rw [hσ4_222]; exact kc_trans (kc_refl _) (kc_lit (by decide))
    exact kp_some kσ4_222
  · refine kp_nm (fun x5_223 _ => ?_)
    refine kp_nm (fun σ7_224 hσ7_224 => ?_)
    have kσ7_224 : KC σ σ7_224 := by rw [hσ7_224]; exact kc_trans (kc_refl _) (kc_lit (by decide))
    exact kp_some kσ7_224

set_option maxRecDepth 100000 in
theorem kk_X3_takes {N : Nat} {K len : Nat → Nat} {i : Nat} {j : Nat} {σ : SG} {ρ : RG} (hL : Lay N K len ρ) (f_i : isLb i = true) (f_j : isLb j = true) : kp (F_X3_takes i j σ ρ) (fun q => KC σ q) := by
  unfold F_X3_takes
  refine kp_nm (fun σ2_231 hσ2_231 => ?_)
  have kσ2_231 : KC σ σ2_231 := by rw [hσ2_231]; exact kc_trans (kc_refl _) (kc_lb f_i)
  refine kp_nm (fun σ4_232 hσ4_232 => ?_)
  have kσ4_232 : KC σ σ4_232 := by rw [hσ4_232]; exact kc_trans kσ2_231 (kc_lb f_i)
  refine kp_nm (fun σ6_233 hσ6_233 => ?_)
  have kσ6_233 : KC σ σ6_233 := by rw [hσ6_233]; exact kc_trans kσ4_232 (kc_lb f_i)
  refine kp_nm (fun σ8_234 hσ8_234 => ?_)
  have kσ8_234 : KC σ σ8_234 := by rw [hσ8_234]; exact kc_trans kσ6_233 (kc_lb f_i)
  refine kp_nm (fun σ10_235 hσ10_235 => ?_)
  have kσ10_235 : KC σ σ10_235 := by rw [hσ10_235]; exact kc_trans kσ8_234 (kc_lb f_i)
  refine kp_nm (fun σ12_236 hσ12_236 => ?_)
  have kσ12_236 : KC σ σ12_236 := by rw [hσ12_236]; exact kc_trans kσ10_235 (kc_lb f_i)
  refine kp_nm (fun σ14_237 hσ14_237 => ?_)
  have kσ14_237 : KC σ σ14_237 := by rw [hσ14_237]; exact kc_trans kσ12_236 (kc_lb f_i)
  refine kp_nm (fun σ16_238 hσ16_238 => ?_)
  have kσ16_238 : KC σ σ16_238 := by rw [hσ16_238]; exact kc_trans kσ14_237 (kc_lb f_i)
  refine kp_nm (fun σ18_239 hσ18_239 => ?_)
  have kσ18_239 : KC σ σ18_239 := by rw [hσ18_239]; exact kc_trans kσ16_238 (kc_lb f_i)
  exact kp_some kσ18_239

set_option maxRecDepth 100000 in
theorem kk_X11_startSteps {N : Nat} {K len : Nat → Nat} {σ : SG} {ρ : RG} (hL : Lay N K len ρ) : kp (F_X11_startSteps σ ρ) (fun q => KC σ q) := by
  unfold F_X11_startSteps
  refine kp_bn (kk_X3_takes hL (by decide) (by decide)) (fun σ1_230 hσ1_230 => ?_)
  have kσ1_230 : KC σ σ1_230 := kc_trans (kc_refl _) hσ1_230
  refine kp_nm (fun σ3_240 hσ3_240 => ?_)
  have kσ3_240 : KC σ σ3_240 := by rw [hσ3_240]; exact kc_trans kσ1_230 (kc_lit (by decide))
  refine kp_nm (fun σ5_241 hσ5_241 => ?_)
  have kσ5_241 : KC σ σ5_241 := by rw [hσ5_241]; exact kc_trans kσ3_240 (kc_lit (by decide))
  refine kp_nm (fun σ7_242 hσ7_242 => ?_)
  have kσ7_242 : KC σ σ7_242 := by rw [hσ7_242]; exact kc_trans kσ5_241 (kc_lit (by decide))
  exact kp_some kσ7_242

set_option maxRecDepth 100000 in
theorem kk_X11_tryStep {N : Nat} {K len : Nat → Nat} {a1 : Int32} {z : Nat} {a3 : Int32} {σ : SG} {ρ : RG} (hL : Lay N K len ρ) (f_z : isC N K z = true) : kp (F_X11_tryStep N K len a1 z a3 σ ρ) (fun q => KC σ q.2) := by
  unfold F_X11_tryStep
  refine kp_if ?_ ?_
  · exact kp_some (kc_refl _)
  · refine kp_nm (fun x2_250 _ => ?_)
    refine kp_if ?_ ?_
    · refine kp_nm (fun x4_251 _ => ?_)
      refine kp_gd (fun _ => ?_)
      refine kp_oc ?_ (fun c6_252 => ?_)
      · exact kp_none
      · refine kp_gd (fun g_253 => ?_)
        refine kp_gd (fun _ => ?_)
        refine kp_oc ?_ (fun c8_254 => ?_)
        · exact kp_none
        · refine kp_gd (fun g_255 => ?_)
          refine kp_bn (kk_X3_takes hL g_253 g_255) (fun σ9_256 hσ9_256 => ?_)
          have kσ9_256 : KC σ σ9_256 := kc_trans (kc_refl _) hσ9_256
          refine kp_nm (fun x10_257 _ => ?_)
          refine kp_gd (fun _ => ?_)
          refine kp_oc ?_ (fun c12_258 => ?_)
          · exact kp_none
          · refine kp_gd (fun g_259 => ?_)
            refine kp_if ?_ ?_
            · unfold F_X11_tryStep_59
              refine kp_gd (fun g_260 => ?_)
              refine kp_gd (fun g_261 => ?_)
              refine kp_bn2 (kk_X3_tryCut hL g_260 g_261) (fun r14_262 σ14_263 hr14_262 => ?_)
              have kσ14_263 : KC σ σ14_263 := kc_trans kσ9_256 hr14_262
              refine kp_gd (fun _ => ?_)
              exact kp_some kσ14_263
            · unfold F_X11_tryStep_59
              refine kp_gd (fun g_264 => ?_)
              refine kp_gd (fun g_265 => ?_)
              refine kp_bn2 (kk_X3_tryCut hL g_264 g_265) (fun r14_266 σ14_267 hr14_266 => ?_)
              have kσ14_267 : KC σ σ14_267 := kc_trans kσ9_256 hr14_266
              refine kp_gd (fun _ => ?_)
              exact kp_some kσ14_267
    · exact kp_some (kc_refl _)

set_option maxRecDepth 100000 in
theorem kk_X11_would {N : Nat} {K len : Nat → Nat} {a1 : Int32} {a2 : Int32} {σ : SG} {ρ : RG} (hL : Lay N K len ρ) : kp (F_X11_would N K len a1 a2 σ ρ) (fun q => KC σ q.2) := by
  unfold F_X11_would
  refine kp_bx (fun o1_225 => ?_)
  refine kp_oc ?_ (fun c2_226 => ?_)
  · exact kp_some (kc_refl _)
  · refine kp_gd (fun g_227 => ?_)
    refine kp_bx (fun r3_228 => ?_)
    refine kp_if ?_ ?_
    · exact kp_some (kc_refl _)
    · refine kp_bn (kk_X11_startSteps hL) (fun σ5_229 hσ5_229 => ?_)
      have kσ5_229 : KC σ σ5_229 := kc_trans (kc_refl _) hσ5_229
      refine kp_bx (fun o6_243 => ?_)
      refine kp_oc ?_ (fun c7_244 => ?_)
      · refine kp_bx (fun r8_245 => ?_)
        refine kp_if ?_ ?_
        · exact kp_some kσ5_229
        · refine kp_if ?_ ?_
          · exact kp_some kσ5_229
          · refine kp_if ?_ ?_
            · exact kp_some kσ5_229
            · refine kp_if ?_ ?_
              · exact kp_some kσ5_229
              · refine kp_if ?_ ?_
                · exact kp_some kσ5_229
                · refine kp_if ?_ ?_
                  · exact kp_some kσ5_229
                  · refine kp_if ?_ ?_
                    · exact kp_some kσ5_229
                    · refine kp_nm (fun x11_246 _ => ?_)
                      exact kp_some kσ5_229
      · refine kp_gd (fun g_247 => ?_)
        refine kp_bn2 (kk_X11_tryStep hL g_247) (fun r12_248 σ12_249 hr12_248 => ?_)
        have kσ12_249 : KC σ σ12_249 := kc_trans kσ5_229 hr12_248
        refine kp_if ?_ ?_
        · exact kp_some kσ12_249
        · refine kp_if ?_ ?_
          · exact kp_some kσ12_249
          · refine kp_if ?_ ?_
            · exact kp_some kσ12_249
            · refine kp_if ?_ ?_
              · exact kp_some kσ12_249
              · refine kp_if ?_ ?_
                · exact kp_some kσ12_249
                · refine kp_if ?_ ?_
                  · exact kp_some kσ12_249
                  · refine kp_if ?_ ?_
                    · exact kp_some kσ12_249
                    · refine kp_nm (fun x15_268 _ => ?_)
                      exact kp_some kσ12_249

set_option maxRecDepth 100000 in
theorem kk_X11_goOn_54 {N : Nat} {K len : Nat → Nat} {a1 : Int32} {a2 : Int32} {a3 : Int32} {a4 : Int32} {ρ : RG} (hL : Lay N K len ρ) : ∀ (n : Nat) (σ : SG) (v1 : Int32) (v2 : Int32) (v3 : Int32) (v4 : Int32) (v5 : Int32), kp (F_X11_goOn_54 N K len a1 a2 a3 a4 n σ ρ v1 v2 v3 v4 v5) (fun q => KC σ q) := by
  intro n
  induction n with
  | zero => intro σ v1 v2 v3 v4 v5; exact kp_none
  | succ n ih =>
    intro σ v1 v2 v3 v4 v5
    unfold F_X11_goOn_54
    refine kp_if ?_ ?_
    · exact kp_some (kc_refl _)
    · refine kp_if ?_ ?_
      · exact kp_some (kc_refl _)
      · refine kp_if ?_ ?_
        · refine kp_bx (fun r31_278 => ?_)
          refine kp_if ?_ ?_
          · unfold F_X11_goOn_104
            refine kp_gd (fun _ => ?_)
            refine kp_nm (fun x11_279 _ => ?_)
            refine kp_bx (fun o12_280 => ?_)
            refine kp_oc ?_ (fun c13_281 => ?_)
            · exact kp_some (kc_refl _)
            · refine kp_gd (fun g_282 => ?_)
              refine kp_bn2 (kk_X3_tryCut hL (by decide) g_282) (fun r14_283 σ14_284 hr14_283 => ?_)
              have kσ14_284 : KC σ σ14_284 := kc_trans (kc_refl _) hr14_283
              refine kp_if ?_ ?_
              · exact kp_some kσ14_284
              · refine kp_if ?_ ?_
                · unfold F_X11_goOn_186
                  refine kp_if ?_ ?_
                  · unfold F_X11_goOn_216
                    refine kp_nm (fun x18_285 _ => ?_)
                    refine kp_nm (fun σ20_286 hσ20_286 => ?_)
                    have kσ20_286 : KC σ σ20_286 := by rw [hσ20_286]; exact kc_trans kσ14_284 (kc_lit (by decide))
                    refine kp_if ?_ ?_
                    · unfold F_X11_goOn_242
                      refine kp_nm (fun x22_287 _ => ?_)
                      refine kp_nm (fun σ24_288 hσ24_288 => ?_)
                      have kσ24_288 : KC σ σ24_288 := by rw [hσ24_288]; exact kc_trans kσ20_286 (kc_lit (by decide))
                      refine kp_nm (fun x25_289 _ => ?_)
                      exact kp_tr_kc (ih _ _ _ _ _ _) kσ24_288
                    · unfold F_X11_goOn_242
                      refine kp_nm (fun x22_290 _ => ?_)
                      refine kp_nm (fun σ24_291 hσ24_291 => ?_)
                      have kσ24_291 : KC σ σ24_291 := by rw [hσ24_291]; exact kc_trans kσ20_286 (kc_lit (by decide))
                      refine kp_nm (fun x25_292 _ => ?_)
                      exact kp_tr_kc (ih _ _ _ _ _ _) kσ24_291
                  · unfold F_X11_goOn_216
                    refine kp_nm (fun x18_293 _ => ?_)
                    refine kp_nm (fun σ20_294 hσ20_294 => ?_)
                    have kσ20_294 : KC σ σ20_294 := by rw [hσ20_294]; exact kc_trans kσ14_284 (kc_lit (by decide))
                    refine kp_if ?_ ?_
                    · unfold F_X11_goOn_242
                      refine kp_nm (fun x22_295 _ => ?_)
                      refine kp_nm (fun σ24_296 hσ24_296 => ?_)
                      have kσ24_296 : KC σ σ24_296 := by rw [hσ24_296]; exact kc_trans kσ20_294 (kc_lit (by decide))
                      refine kp_nm (fun x25_297 _ => ?_)
                      exact kp_tr_kc (ih _ _ _ _ _ _) kσ24_296
                    · unfold F_X11_goOn_242
                      refine kp_nm (fun x22_298 _ => ?_)
                      refine kp_nm (fun σ24_299 hσ24_299 => ?_)
                      have kσ24_299 : KC σ σ24_299 := by rw [hσ24_299]; exact kc_trans kσ20_294 (kc_lit (by decide))
                      refine kp_nm (fun x25_300 _ => ?_)
                      exact kp_tr_kc (ih _ _ _ _ _ _) kσ24_299
                · refine kp_gd (fun _ => ?_)
                  refine kp_nm (fun x27_301 _ => ?_)
                  refine kp_gd (fun _ => ?_)
                  refine kp_nm (fun σ30_302 hσ30_302 => ?_)
                  have kσ30_302 : KC σ σ30_302 := by rw [hσ30_302]; exact kc_trans kσ14_284 (kc_row (by decide))
                  unfold F_X11_goOn_186
                  refine kp_if ?_ ?_
                  · unfold F_X11_goOn_216
                    refine kp_nm (fun x18_303 _ => ?_)
                    refine kp_nm (fun σ20_304 hσ20_304 => ?_)
                    have kσ20_304 : KC σ σ20_304 := by rw [hσ20_304]; exact kc_trans kσ30_302 (kc_lit (by decide))
                    refine kp_if ?_ ?_
                    · unfold F_X11_goOn_242
                      refine kp_nm (fun x22_305 _ => ?_)
                      refine kp_nm (fun σ24_306 hσ24_306 => ?_)
                      have kσ24_306 : KC σ σ24_306 := by rw [hσ24_306]; exact kc_trans kσ20_304 (kc_lit (by decide))
                      refine kp_nm (fun x25_307 _ => ?_)
                      exact kp_tr_kc (ih _ _ _ _ _ _) kσ24_306
                    · unfold F_X11_goOn_242
                      refine kp_nm (fun x22_308 _ => ?_)
                      refine kp_nm (fun σ24_309 hσ24_309 => ?_)
                      have kσ24_309 : KC σ σ24_309 := by rw [hσ24_309]; exact kc_trans kσ20_304 (kc_lit (by decide))
                      refine kp_nm (fun x25_310 _ => ?_)
                      exact kp_tr_kc (ih _ _ _ _ _ _) kσ24_309
                  · unfold F_X11_goOn_216
                    refine kp_nm (fun x18_311 _ => ?_)
                    refine kp_nm (fun σ20_312 hσ20_312 => ?_)
                    have kσ20_312 : KC σ σ20_312 := by rw [hσ20_312]; exact kc_trans kσ30_302 (kc_lit (by decide))
                    refine kp_if ?_ ?_
                    · unfold F_X11_goOn_242
                      refine kp_nm (fun x22_313 _ => ?_)
                      refine kp_nm (fun σ24_314 hσ24_314 => ?_)
                      have kσ24_314 : KC σ σ24_314 := by rw [hσ24_314]; exact kc_trans kσ20_312 (kc_lit (by decide))
                      refine kp_nm (fun x25_315 _ => ?_)
                      exact kp_tr_kc (ih _ _ _ _ _ _) kσ24_314
                    · unfold F_X11_goOn_242
                      refine kp_nm (fun x22_316 _ => ?_)
                      refine kp_nm (fun σ24_317 hσ24_317 => ?_)
                      have kσ24_317 : KC σ σ24_317 := by rw [hσ24_317]; exact kc_trans kσ20_312 (kc_lit (by decide))
                      refine kp_nm (fun x25_318 _ => ?_)
                      exact kp_tr_kc (ih _ _ _ _ _ _) kσ24_317
          · refine kp_bn2 (kk_X3_straighten hL (by decide)) (fun r33_319 σ33_320 hr33_319 => ?_)
            have kσ33_320 : KC σ σ33_320 := kc_trans (kc_refl _) hr33_319
            unfold F_X11_goOn_104
            refine kp_gd (fun _ => ?_)
            refine kp_nm (fun x11_321 _ => ?_)
            refine kp_bx (fun o12_322 => ?_)
            refine kp_oc ?_ (fun c13_323 => ?_)
            · exact kp_some kσ33_320
            · refine kp_gd (fun g_324 => ?_)
              refine kp_bn2 (kk_X3_tryCut hL (by decide) g_324) (fun r14_325 σ14_326 hr14_325 => ?_)
              have kσ14_326 : KC σ σ14_326 := kc_trans kσ33_320 hr14_325
              refine kp_if ?_ ?_
              · exact kp_some kσ14_326
              · refine kp_if ?_ ?_
                · unfold F_X11_goOn_186
                  refine kp_if ?_ ?_
                  · unfold F_X11_goOn_216
                    refine kp_nm (fun x18_327 _ => ?_)
                    refine kp_nm (fun σ20_328 hσ20_328 => ?_)
                    have kσ20_328 : KC σ σ20_328 := by rw [hσ20_328]; exact kc_trans kσ14_326 (kc_lit (by decide))
                    refine kp_if ?_ ?_
                    · unfold F_X11_goOn_242
                      refine kp_nm (fun x22_329 _ => ?_)
                      refine kp_nm (fun σ24_330 hσ24_330 => ?_)
                      have kσ24_330 : KC σ σ24_330 := by rw [hσ24_330]; exact kc_trans kσ20_328 (kc_lit (by decide))
                      refine kp_nm (fun x25_331 _ => ?_)
                      exact kp_tr_kc (ih _ _ _ _ _ _) kσ24_330
                    · unfold F_X11_goOn_242
                      refine kp_nm (fun x22_332 _ => ?_)
                      refine kp_nm (fun σ24_333 hσ24_333 => ?_)
                      have kσ24_333 : KC σ σ24_333 := by rw [hσ24_333]; exact kc_trans kσ20_328 (kc_lit (by decide))
                      refine kp_nm (fun x25_334 _ => ?_)
                      exact kp_tr_kc (ih _ _ _ _ _ _) kσ24_333
                  · unfold F_X11_goOn_216
                    refine kp_nm (fun x18_335 _ => ?_)
                    refine kp_nm (fun σ20_336 hσ20_336 => ?_)
                    have kσ20_336 : KC σ σ20_336 := by rw [hσ20_336]; exact kc_trans kσ14_326 (kc_lit (by decide))
                    refine kp_if ?_ ?_
                    · unfold F_X11_goOn_242
                      refine kp_nm (fun x22_337 _ => ?_)
                      refine kp_nm (fun σ24_338 hσ24_338 => ?_)
                      have kσ24_338 : KC σ σ24_338 := by rw [hσ24_338]; exact kc_trans kσ20_336 (kc_lit (by decide))
                      refine kp_nm (fun x25_339 _ => ?_)
                      exact kp_tr_kc (ih _ _ _ _ _ _) kσ24_338
                    · unfold F_X11_goOn_242
                      refine kp_nm (fun x22_340 _ => ?_)
                      refine kp_nm (fun σ24_341 hσ24_341 => ?_)
                      have kσ24_341 : KC σ σ24_341 := by rw [hσ24_341]; exact kc_trans kσ20_336 (kc_lit (by decide))
                      refine kp_nm (fun x25_342 _ => ?_)
                      exact kp_tr_kc (ih _ _ _ _ _ _) kσ24_341
                · refine kp_gd (fun _ => ?_)
                  refine kp_nm (fun x27_343 _ => ?_)
                  refine kp_gd (fun _ => ?_)
                  refine kp_nm (fun σ30_344 hσ30_344 => ?_)
                  have kσ30_344 : KC σ σ30_344 := by rw [hσ30_344]; exact kc_trans kσ14_326 (kc_row (by decide))
                  unfold F_X11_goOn_186
                  refine kp_if ?_ ?_
                  · unfold F_X11_goOn_216
                    refine kp_nm (fun x18_345 _ => ?_)
                    refine kp_nm (fun σ20_346 hσ20_346 => ?_)
                    have kσ20_346 : KC σ σ20_346 := by rw [hσ20_346]; exact kc_trans kσ30_344 (kc_lit (by decide))
                    refine kp_if ?_ ?_
                    · unfold F_X11_goOn_242
                      refine kp_nm (fun x22_347 _ => ?_)
                      refine kp_nm (fun σ24_348 hσ24_348 => ?_)
                      have kσ24_348 : KC σ σ24_348 := by rw [hσ24_348]; exact kc_trans kσ20_346 (kc_lit (by decide))
                      refine kp_nm (fun x25_349 _ => ?_)
                      exact kp_tr_kc (ih _ _ _ _ _ _) kσ24_348
                    · unfold F_X11_goOn_242
                      refine kp_nm (fun x22_350 _ => ?_)
                      refine kp_nm (fun σ24_351 hσ24_351 => ?_)
                      have kσ24_351 : KC σ σ24_351 := by rw [hσ24_351]; exact kc_trans kσ20_346 (kc_lit (by decide))
                      refine kp_nm (fun x25_352 _ => ?_)
                      exact kp_tr_kc (ih _ _ _ _ _ _) kσ24_351
                  · unfold F_X11_goOn_216
                    refine kp_nm (fun x18_353 _ => ?_)
                    refine kp_nm (fun σ20_354 hσ20_354 => ?_)
                    have kσ20_354 : KC σ σ20_354 := by rw [hσ20_354]; exact kc_trans kσ30_344 (kc_lit (by decide))
                    refine kp_if ?_ ?_
                    · unfold F_X11_goOn_242
                      refine kp_nm (fun x22_355 _ => ?_)
                      refine kp_nm (fun σ24_356 hσ24_356 => ?_)
                      have kσ24_356 : KC σ σ24_356 := by rw [hσ24_356]; exact kc_trans kσ20_354 (kc_lit (by decide))
                      refine kp_nm (fun x25_357 _ => ?_)
                      exact kp_tr_kc (ih _ _ _ _ _ _) kσ24_356
                    · unfold F_X11_goOn_242
                      refine kp_nm (fun x22_358 _ => ?_)
                      refine kp_nm (fun σ24_359 hσ24_359 => ?_)
                      have kσ24_359 : KC σ σ24_359 := by rw [hσ24_359]; exact kc_trans kσ20_354 (kc_lit (by decide))
                      refine kp_nm (fun x25_360 _ => ?_)
                      exact kp_tr_kc (ih _ _ _ _ _ _) kσ24_359
        · unfold F_X11_goOn_104
          refine kp_gd (fun _ => ?_)
          refine kp_nm (fun x11_361 _ => ?_)
          refine kp_bx (fun o12_362 => ?_)
          refine kp_oc ?_ (fun c13_363 => ?_)
          · exact kp_some (kc_refl _)
          · refine kp_gd (fun g_364 => ?_)
            refine kp_bn2 (kk_X3_tryCut hL (by decide) g_364) (fun r14_365 σ14_366 hr14_365 => ?_)
            have kσ14_366 : KC σ σ14_366 := kc_trans (kc_refl _) hr14_365
            refine kp_if ?_ ?_
            · exact kp_some kσ14_366
            · refine kp_if ?_ ?_
              · unfold F_X11_goOn_186
                refine kp_if ?_ ?_
                · unfold F_X11_goOn_216
                  refine kp_nm (fun x18_367 _ => ?_)
                  refine kp_nm (fun σ20_368 hσ20_368 => ?_)
                  have kσ20_368 : KC σ σ20_368 := by rw [hσ20_368]; exact kc_trans kσ14_366 (kc_lit (by decide))
                  refine kp_if ?_ ?_
                  · unfold F_X11_goOn_242
                    refine kp_nm (fun x22_369 _ => ?_)
                    refine kp_nm (fun σ24_370 hσ24_370 => ?_)
                    have kσ24_370 : KC σ σ24_370 := by rw [hσ24_370]; exact kc_trans kσ20_368 (kc_lit (by decide))
                    refine kp_nm (fun x25_371 _ => ?_)
                    exact kp_tr_kc (ih _ _ _ _ _ _) kσ24_370
                  · unfold F_X11_goOn_242
                    refine kp_nm (fun x22_372 _ => ?_)
                    refine kp_nm (fun σ24_373 hσ24_373 => ?_)
                    have kσ24_373 : KC σ σ24_373 := by rw [hσ24_373]; exact kc_trans kσ20_368 (kc_lit (by decide))
                    refine kp_nm (fun x25_374 _ => ?_)
                    exact kp_tr_kc (ih _ _ _ _ _ _) kσ24_373
                · unfold F_X11_goOn_216
                  refine kp_nm (fun x18_375 _ => ?_)
                  refine kp_nm (fun σ20_376 hσ20_376 => ?_)
                  have kσ20_376 : KC σ σ20_376 := by rw [hσ20_376]; exact kc_trans kσ14_366 (kc_lit (by decide))
                  refine kp_if ?_ ?_
                  · unfold F_X11_goOn_242
                    refine kp_nm (fun x22_377 _ => ?_)
                    refine kp_nm (fun σ24_378 hσ24_378 => ?_)
                    have kσ24_378 : KC σ σ24_378 := by rw [hσ24_378]; exact kc_trans kσ20_376 (kc_lit (by decide))
                    refine kp_nm (fun x25_379 _ => ?_)
                    exact kp_tr_kc (ih _ _ _ _ _ _) kσ24_378
                  · unfold F_X11_goOn_242
                    refine kp_nm (fun x22_380 _ => ?_)
                    refine kp_nm (fun σ24_381 hσ24_381 => ?_)
                    have kσ24_381 : KC σ σ24_381 := by rw [hσ24_381]; exact kc_trans kσ20_376 (kc_lit (by decide))
                    refine kp_nm (fun x25_382 _ => ?_)
                    exact kp_tr_kc (ih _ _ _ _ _ _) kσ24_381
              · refine kp_gd (fun _ => ?_)
                refine kp_nm (fun x27_383 _ => ?_)
                refine kp_gd (fun _ => ?_)
                refine kp_nm (fun σ30_384 hσ30_384 => ?_)
                have kσ30_384 : KC σ σ30_384 := by rw [hσ30_384]; exact kc_trans kσ14_366 (kc_row (by decide))
                unfold F_X11_goOn_186
                refine kp_if ?_ ?_
                · unfold F_X11_goOn_216
                  refine kp_nm (fun x18_385 _ => ?_)
                  refine kp_nm (fun σ20_386 hσ20_386 => ?_)
                  have kσ20_386 : KC σ σ20_386 := by rw [hσ20_386]; exact kc_trans kσ30_384 (kc_lit (by decide))
                  refine kp_if ?_ ?_
                  · unfold F_X11_goOn_242
                    refine kp_nm (fun x22_387 _ => ?_)
                    refine kp_nm (fun σ24_388 hσ24_388 => ?_)
                    have kσ24_388 : KC σ σ24_388 := by rw [hσ24_388]; exact kc_trans kσ20_386 (kc_lit (by decide))
                    refine kp_nm (fun x25_389 _ => ?_)
                    exact kp_tr_kc (ih _ _ _ _ _ _) kσ24_388
                  · unfold F_X11_goOn_242
                    refine kp_nm (fun x22_390 _ => ?_)
                    refine kp_nm (fun σ24_391 hσ24_391 => ?_)
                    have kσ24_391 : KC σ σ24_391 := by rw [hσ24_391]; exact kc_trans kσ20_386 (kc_lit (by decide))
                    refine kp_nm (fun x25_392 _ => ?_)
                    exact kp_tr_kc (ih _ _ _ _ _ _) kσ24_391
                · unfold F_X11_goOn_216
                  refine kp_nm (fun x18_393 _ => ?_)
                  refine kp_nm (fun σ20_394 hσ20_394 => ?_)
                  have kσ20_394 : KC σ σ20_394 := by rw [hσ20_394]; exact kc_trans kσ30_384 (kc_lit (by decide))
                  refine kp_if ?_ ?_
                  · unfold F_X11_goOn_242
                    refine kp_nm (fun x22_395 _ => ?_)
                    refine kp_nm (fun σ24_396 hσ24_396 => ?_)
                    have kσ24_396 : KC σ σ24_396 := by rw [hσ24_396]; exact kc_trans kσ20_394 (kc_lit (by decide))
                    refine kp_nm (fun x25_397 _ => ?_)
                    exact kp_tr_kc (ih _ _ _ _ _ _) kσ24_396
                  · unfold F_X11_goOn_242
                    refine kp_nm (fun x22_398 _ => ?_)
                    refine kp_nm (fun σ24_399 hσ24_399 => ?_)
                    have kσ24_399 : KC σ σ24_399 := by rw [hσ24_399]; exact kc_trans kσ20_394 (kc_lit (by decide))
                    refine kp_nm (fun x25_400 _ => ?_)
                    exact kp_tr_kc (ih _ _ _ _ _ _) kσ24_399

set_option maxRecDepth 100000 in
theorem kk_X11_goOn_27 {N : Nat} {K len : Nat → Nat} {a1 : Int32} {a2 : Int32} {a3 : Int32} {a4 : Int32} {ρ : RG} (hL : Lay N K len ρ) : ∀ (n : Nat) (σ : SG) (v1 : Int32) (v2 : Int32) (v3 : Int32) (v4 : Int32) (v5 : Int32), kp (F_X11_goOn_27 N K len a1 a2 a3 a4 n σ ρ v1 v2 v3 v4 v5) (fun q => KC σ q) := by
  intro n
  induction n with
  | zero => intro σ v1 v2 v3 v4 v5; exact kp_none
  | succ n ih =>
    intro σ v1 v2 v3 v4 v5
    unfold F_X11_goOn_27
    refine kp_if ?_ ?_
    · exact kp_tr_kc (kk_X11_goOn_54 hL 1024 _ _ _ _ _ _) (kc_refl _)
    · refine kp_gd (fun _ => ?_)
      refine kp_nm (fun σ36_401 hσ36_401 => ?_)
      have kσ36_401 : KC σ σ36_401 := by rw [hσ36_401]; exact kc_trans (kc_refl _) (kc_row (by decide))
      refine kp_nm (fun x37_402 _ => ?_)
      exact kp_tr_kc (ih _ _ _ _ _ _) kσ36_401

set_option maxRecDepth 100000 in
theorem kk_X11_goOn {N : Nat} {K len : Nat → Nat} {a1 : Int32} {a2 : Int32} {a3 : Int32} {a4 : Int32} {σ : SG} {ρ : RG} (hL : Lay N K len ρ) : kp (F_X11_goOn N K len a1 a2 a3 a4 σ ρ) (fun q => KC σ q) := by
  unfold F_X11_goOn
  refine kp_bn (kk_X3_takes hL (by decide) (by decide)) (fun σ1_275 hσ1_275 => ?_)
  have kσ1_275 : KC σ σ1_275 := kc_trans (kc_refl _) hσ1_275
  refine kp_nm (fun σ3_276 hσ3_276 => ?_)
  have kσ3_276 : KC σ σ3_276 := by rw [hσ3_276]; exact kc_trans kσ1_275 (kc_lit (by decide))
  refine kp_nm (fun σ5_277 hσ5_277 => ?_)
  have kσ5_277 : KC σ σ5_277 := by rw [hσ5_277]; exact kc_trans kσ3_276 (kc_lit (by decide))
  exact kp_tr_kc (kk_X11_goOn_27 hL 1024 _ _ _ _ _ _) kσ5_277

set_option maxRecDepth 100000 in
theorem kk_X11_on {N : Nat} {K len : Nat → Nat} {a1 : Int32} {a2 : Int32} {σ : SG} {ρ : RG} (hL : Lay N K len ρ) : kp (F_X11_on N K len a1 a2 σ ρ) (fun q => KC σ q.2) := by
  unfold F_X11_on
  refine kp_nm (fun x1_269 _ => ?_)
  refine kp_bx (fun o2_270 => ?_)
  refine kp_oc ?_ (fun c3_271 => ?_)
  · unfold F_X11_on_19
    refine kp_bx (fun r4_272 => ?_)
    refine kp_if ?_ ?_
    · refine kp_if ?_ ?_
      · exact kp_some (kc_refl _)
      · unfold F_X11_on_37
        refine kp_bx (fun r6_273 => ?_)
        refine kp_if ?_ ?_
        · exact kp_some (kc_refl _)
        · refine kp_bn (kk_X11_goOn hL) (fun σ8_274 hσ8_274 => ?_)
          have kσ8_274 : KC σ σ8_274 := kc_trans (kc_refl _) hσ8_274
          refine kp_if ?_ ?_
          · exact kp_some kσ8_274
          · refine kp_if ?_ ?_
            · exact kp_some kσ8_274
            · refine kp_if ?_ ?_
              · exact kp_some kσ8_274
              · refine kp_if ?_ ?_
                · refine kp_nm (fun x10_403 _ => ?_)
                  exact kp_some kσ8_274
                · refine kp_if ?_ ?_
                  · refine kp_nm (fun x11_404 _ => ?_)
                    exact kp_some kσ8_274
                  · refine kp_if ?_ ?_
                    · exact kp_some kσ8_274
                    · refine kp_nm (fun x12_405 _ => ?_)
                      refine kp_bx (fun r13_406 => ?_)
                      exact kp_some kσ8_274
    · unfold F_X11_on_37
      refine kp_bx (fun r6_407 => ?_)
      refine kp_if ?_ ?_
      · exact kp_some (kc_refl _)
      · refine kp_bn (kk_X11_goOn hL) (fun σ8_408 hσ8_408 => ?_)
        have kσ8_408 : KC σ σ8_408 := kc_trans (kc_refl _) hσ8_408
        refine kp_if ?_ ?_
        · exact kp_some kσ8_408
        · refine kp_if ?_ ?_
          · exact kp_some kσ8_408
          · refine kp_if ?_ ?_
            · exact kp_some kσ8_408
            · refine kp_if ?_ ?_
              · refine kp_nm (fun x10_409 _ => ?_)
                exact kp_some kσ8_408
              · refine kp_if ?_ ?_
                · refine kp_nm (fun x11_410 _ => ?_)
                  exact kp_some kσ8_408
                · refine kp_if ?_ ?_
                  · exact kp_some kσ8_408
                  · refine kp_nm (fun x12_411 _ => ?_)
                    refine kp_bx (fun r13_412 => ?_)
                    exact kp_some kσ8_408
  · refine kp_gd (fun g_413 => ?_)
    unfold F_X11_on_19
    refine kp_bx (fun r4_414 => ?_)
    refine kp_if ?_ ?_
    · refine kp_if ?_ ?_
      · exact kp_some (kc_refl _)
      · unfold F_X11_on_37
        refine kp_bx (fun r6_415 => ?_)
        refine kp_if ?_ ?_
        · exact kp_some (kc_refl _)
        · refine kp_bn (kk_X11_goOn hL) (fun σ8_416 hσ8_416 => ?_)
          have kσ8_416 : KC σ σ8_416 := kc_trans (kc_refl _) hσ8_416
          refine kp_if ?_ ?_
          · exact kp_some kσ8_416
          · refine kp_if ?_ ?_
            · exact kp_some kσ8_416
            · refine kp_if ?_ ?_
              · exact kp_some kσ8_416
              · refine kp_if ?_ ?_
                · refine kp_nm (fun x10_417 _ => ?_)
                  exact kp_some kσ8_416
                · refine kp_if ?_ ?_
                  · refine kp_nm (fun x11_418 _ => ?_)
                    exact kp_some kσ8_416
                  · refine kp_if ?_ ?_
                    · exact kp_some kσ8_416
                    · refine kp_nm (fun x12_419 _ => ?_)
                      refine kp_bx (fun r13_420 => ?_)
                      exact kp_some kσ8_416
    · unfold F_X11_on_37
      refine kp_bx (fun r6_421 => ?_)
      refine kp_if ?_ ?_
      · exact kp_some (kc_refl _)
      · refine kp_bn (kk_X11_goOn hL) (fun σ8_422 hσ8_422 => ?_)
        have kσ8_422 : KC σ σ8_422 := kc_trans (kc_refl _) hσ8_422
        refine kp_if ?_ ?_
        · exact kp_some kσ8_422
        · refine kp_if ?_ ?_
          · exact kp_some kσ8_422
          · refine kp_if ?_ ?_
            · exact kp_some kσ8_422
            · refine kp_if ?_ ?_
              · refine kp_nm (fun x10_423 _ => ?_)
                exact kp_some kσ8_422
              · refine kp_if ?_ ?_
                · refine kp_nm (fun x11_424 _ => ?_)
                  exact kp_some kσ8_422
                · refine kp_if ?_ ?_
                  · exact kp_some kσ8_422
                  · refine kp_nm (fun x12_425 _ => ?_)
                    refine kp_bx (fun r13_426 => ?_)
                    exact kp_some kσ8_422

set_option maxRecDepth 100000 in
theorem kk_X11_toasted {N : Nat} {K len : Nat → Nat} {a1 : Int32} {a2 : Int32} {σ : SG} {ρ : RG} (hL : Lay N K len ρ) : kp (F_X11_toasted N K len a1 a2 σ ρ) (fun q => KC σ q.2) := by
  unfold F_X11_toasted
  refine kp_bx (fun r1_427 => ?_)
  refine kp_if ?_ ?_
  · exact kp_some (kc_refl _)
  · refine kp_bx (fun r3_428 => ?_)
    refine kp_if ?_ ?_
    · exact kp_some (kc_refl _)
    · refine kp_bn (kk_X11_goOn hL) (fun σ5_429 hσ5_429 => ?_)
      have kσ5_429 : KC σ σ5_429 := kc_trans (kc_refl _) hσ5_429
      exact kp_some kσ5_429

set_option maxRecDepth 100000 in
theorem kk_X11_lasts {N : Nat} {K len : Nat → Nat} {σ : SG} {ρ : RG} (hL : Lay N K len ρ) : kp (F_X11_lasts N K len σ ρ) (fun q => KC σ q.2) := by
  unfold F_X11_lasts
  refine kp_bn (kk_X11_goOn hL) (fun σ1_430 hσ1_430 => ?_)
  have kσ1_430 : KC σ σ1_430 := kc_trans (kc_refl _) hσ1_430
  refine kp_nm (fun x2_431 _ => ?_)
  exact kp_some kσ1_430

set_option maxRecDepth 100000 in
theorem kk_X11_tryOrders_B_40 {N : Nat} {K len : Nat → Nat} {R : Int32 → Int32 → Int32 → SG → RG → Option (SG)} {a1 : Int32} {a2 : Int32} {a3 : Int32} {ρ : RG} (hL : Lay N K len ρ) (hR : ∀ (y0 : Int32) (y1 : Int32) (y2 : Int32) (σ : SG), kp (R y0 y1 y2 σ ρ) (fun q => KC σ q)) : ∀ (n : Nat) (σ : SG) (v1 : Int32) (v2 : Int32) (v3 : Int32) (v4 : Int32), kp (F_X11_tryOrders_B_40 N K len R a1 a2 a3 n σ ρ v1 v2 v3 v4) (fun q => KC σ q) := by
  intro n
  induction n with
  | zero => intro σ v1 v2 v3 v4; exact kp_none
  | succ n ih =>
    intro σ v1 v2 v3 v4
    unfold F_X11_tryOrders_B_40
    refine kp_if ?_ ?_
    · exact kp_some (kc_refl _)
    · refine kp_if ?_ ?_
      · exact kp_some (kc_refl _)
      · refine kp_nm (fun x4_435 _ => ?_)
        refine kp_nm (fun x5_436 _ => ?_)
        refine kp_if ?_ ?_
        · refine kp_bx (fun o8_437 => ?_)
          refine kp_oc ?_ (fun c9_438 => ?_)
          · refine kp_bx (fun r10_439 => ?_)
            refine kp_if ?_ ?_
            · unfold F_X11_tryOrders_B_132
              refine kp_nm (fun x7_440 _ => ?_)
              exact kp_tr_kc (ih _ _ _ _ _) (kc_refl _)
            · refine kp_gd (fun _ => ?_)
              refine kp_nm (fun σ14_441 hσ14_441 => ?_)
              have kσ14_441 : KC σ σ14_441 := by rw [hσ14_441]; exact kc_trans (kc_refl _) (kc_row (by decide))
              refine kp_nm (fun x15_442 _ => ?_)
              refine kp_gd (fun _ => ?_)
              refine kp_oc ?_ (fun c17_443 => ?_)
              · exact kp_none
              · refine kp_gd (fun g_444 => ?_)
                refine kp_nm (fun x18_445 _ => ?_)
                refine kp_nm (fun x19_446 _ => ?_)
                refine kp_nm (fun x20_447 _ => ?_)
                refine kp_nm (fun x21_448 _ => ?_)
                refine kp_nm (fun x22_449 _ => ?_)
                refine kp_bn (hR _ _ _ _) (fun σ23_450 hσ23_450 => ?_)
                have kσ23_450 : KC σ σ23_450 := kc_trans kσ14_441 hσ23_450
                unfold F_X11_tryOrders_B_132
                refine kp_nm (fun x7_451 _ => ?_)
                exact kp_tr_kc (ih _ _ _ _ _) kσ23_450
          · refine kp_gd (fun g_452 => ?_)
            refine kp_bn2 (kk_X11_tryStep hL g_452) (fun r24_453 σ24_454 hr24_453 => ?_)
            have kσ24_454 : KC σ σ24_454 := kc_trans (kc_refl _) hr24_453
            refine kp_if ?_ ?_
            · unfold F_X11_tryOrders_B_132
              refine kp_nm (fun x7_455 _ => ?_)
              exact kp_tr_kc (ih _ _ _ _ _) kσ24_454
            · refine kp_gd (fun _ => ?_)
              refine kp_nm (fun σ28_456 hσ28_456 => ?_)
              have kσ28_456 : KC σ σ28_456 := by rw [hσ28_456]; exact kc_trans kσ24_454 (kc_row (by decide))
              refine kp_nm (fun x29_457 _ => ?_)
              refine kp_gd (fun _ => ?_)
              refine kp_oc ?_ (fun c31_458 => ?_)
              · exact kp_none
              · refine kp_gd (fun g_459 => ?_)
                refine kp_nm (fun x32_460 _ => ?_)
                refine kp_nm (fun x33_461 _ => ?_)
                refine kp_nm (fun x34_462 _ => ?_)
                refine kp_nm (fun x35_463 _ => ?_)
                refine kp_nm (fun x36_464 _ => ?_)
                refine kp_bn (hR _ _ _ _) (fun σ37_465 hσ37_465 => ?_)
                have kσ37_465 : KC σ σ37_465 := kc_trans kσ28_456 hσ37_465
                unfold F_X11_tryOrders_B_132
                refine kp_nm (fun x7_466 _ => ?_)
                exact kp_tr_kc (ih _ _ _ _ _) kσ37_465
        · unfold F_X11_tryOrders_B_132
          refine kp_nm (fun x7_467 _ => ?_)
          exact kp_tr_kc (ih _ _ _ _ _) (kc_refl _)

set_option maxRecDepth 100000 in
theorem kk_X11_keepPath_7 {N : Nat} {K len : Nat → Nat} {a1 : Int32} {ρ : RG} (hL : Lay N K len ρ) : ∀ (n : Nat) (σ : SG) (v1 : Int32) (v2 : Int32), kp (F_X11_keepPath_7 a1 n σ ρ v1 v2) (fun q => KC σ q) := by
  intro n
  induction n with
  | zero => intro σ v1 v2; exact kp_none
  | succ n ih =>
    intro σ v1 v2
    unfold F_X11_keepPath_7
    refine kp_if ?_ ?_
    · exact kp_some (kc_refl _)
    · refine kp_if ?_ ?_
      · exact kp_some (kc_refl _)
      · refine kp_if ?_ ?_
        · exact kp_some (kc_refl _)
        · refine kp_gd (fun _ => ?_)
          refine kp_gd (fun _ => ?_)
          refine kp_nm (fun σ9_471 hσ9_471 => ?_)
          have kσ9_471 : KC σ σ9_471 := by rw [hσ9_471]; exact kc_trans (kc_refl _) (kc_row (by decide))
          refine kp_nm (fun x10_472 _ => ?_)
          exact kp_tr_kc (ih _ _ _) kσ9_471

set_option maxRecDepth 100000 in
theorem kk_X11_keepPath {N : Nat} {K len : Nat → Nat} {a1 : Int32} {σ : SG} {ρ : RG} (hL : Lay N K len ρ) : kp (F_X11_keepPath a1 σ ρ) (fun q => KC σ q) := by
  unfold F_X11_keepPath
  refine kp_nm (fun σ2_470 hσ2_470 => ?_)
  have kσ2_470 : KC σ σ2_470 := by rw [hσ2_470]; exact kc_trans (kc_refl _) (kc_lit (by decide))
  exact kp_tr_kc (kk_X11_keepPath_7 hL 1024 _ _ _) kσ2_470

set_option maxRecDepth 100000 in
theorem kk_X11_tryOrders_B {N : Nat} {K len : Nat → Nat} {R : Int32 → Int32 → Int32 → SG → RG → Option (SG)} {a1 : Int32} {a2 : Int32} {a3 : Int32} {σ : SG} {ρ : RG} (hL : Lay N K len ρ) (hR : ∀ (y0 : Int32) (y1 : Int32) (y2 : Int32) (σ : SG), kp (R y0 y1 y2 σ ρ) (fun q => KC σ q)) : kp (F_X11_tryOrders_B N K len R a1 a2 a3 σ ρ) (fun q => KC σ q) := by
  unfold F_X11_tryOrders_B
  refine kp_if ?_ ?_
  · exact kp_tr_kc (kk_X11_tryOrders_B_40 hL hR 1024 _ _ _ _ _) (kc_refl _)
  · refine kp_if ?_ ?_
    · unfold F_X11_tryOrders_B_26
      refine kp_nm (fun σ40_468 hσ40_468 => ?_)
      have kσ40_468 : KC σ σ40_468 := by rw [hσ40_468]; exact kc_trans (kc_refl _) (kc_lit (by decide))
      refine kp_bn (kk_X11_keepPath hL) (fun σ41_469 hσ41_469 => ?_)
      have kσ41_469 : KC σ σ41_469 := kc_trans kσ40_468 hσ41_469
      exact kp_some kσ41_469
    · refine kp_if ?_ ?_
      · exact kp_some (kc_refl _)
      · unfold F_X11_tryOrders_B_26
        refine kp_nm (fun σ40_473 hσ40_473 => ?_)
        have kσ40_473 : KC σ σ40_473 := by rw [hσ40_473]; exact kc_trans (kc_refl _) (kc_lit (by decide))
        refine kp_bn (kk_X11_keepPath hL) (fun σ41_474 hσ41_474 => ?_)
        have kσ41_474 : KC σ σ41_474 := kc_trans kσ40_473 hσ41_474
        exact kp_some kσ41_474

theorem kk_X11_tryOrders_R {N : Nat} {K len : Nat → Nat} {ρ : RG} (hL : Lay N K len ρ) : ∀ (d : Nat) (a1 : Int32) (a2 : Int32) (a3 : Int32) (σ : SG), kp (F_X11_tryOrders_R N K len d a1 a2 a3 σ ρ) (fun q => KC σ q) := by
  intro d
  induction d with
  | zero => intro a1 a2 a3 σ; exact kp_none
  | succ d ih =>
    intro a1 a2 a3 σ
    exact kk_X11_tryOrders_B hL ih

theorem kk_X11_tryOrders {N : Nat} {K len : Nat → Nat} {a1 : Int32} {a2 : Int32} {a3 : Int32} {σ : SG} {ρ : RG} (hL : Lay N K len ρ) : kp (F_X11_tryOrders N K len a1 a2 a3 σ ρ) (fun q => KC σ q) := kk_X11_tryOrders_R hL _ _ _ _ _

set_option maxRecDepth 100000 in
theorem kk_X11_order {N : Nat} {K len : Nat → Nat} {a1 : Int32} {σ : SG} {ρ : RG} (hL : Lay N K len ρ) : kp (F_X11_order N K len a1 σ ρ) (fun q => KC σ q.2) := by
  unfold F_X11_order
  refine kp_bx (fun r1_432 => ?_)
  refine kp_if ?_ ?_
  · exact kp_some (kc_refl _)
  · refine kp_if ?_ ?_
    · refine kp_bn (kk_X11_startSteps hL) (fun σ4_433 hσ4_433 => ?_)
      have kσ4_433 : KC σ σ4_433 := kc_trans (kc_refl _) hσ4_433
      refine kp_bn (kk_X11_tryOrders hL) (fun σ5_434 hσ5_434 => ?_)
      have kσ5_434 : KC σ σ5_434 := kc_trans kσ4_433 hσ5_434
      refine kp_if ?_ ?_
      · exact kp_some kσ5_434
      · refine kp_if ?_ ?_
        · refine kp_if ?_ ?_
          · refine kp_bx (fun r9_475 => ?_)
            exact kp_some kσ5_434
          · exact kp_some kσ5_434
        · exact kp_some kσ5_434
    · exact kp_some (kc_refl _)

set_option maxRecDepth 100000 in
theorem kk_X11_cancel_45 {N : Nat} {K len : Nat → Nat} {rec_11 : SG → RG → Int32 → Int32 → Int32 → Option (Int32 × SG)} {ρ : RG} (hL : Lay N K len ρ) (hrec_11 : ∀ (σ : SG) (y2 : Int32) (y3 : Int32) (y4 : Int32), kp (rec_11 σ ρ y2 y3 y4) (fun q => KC σ q.2)) : ∀ (n : Nat) (σ : SG) (v1 : Int32) (v2 : Int32) (v3 : Int32) (v4 : Int32), kp (F_X11_cancel_45 N K len rec_11 n σ ρ v1 v2 v3 v4) (fun q => KC σ q.2) := by
  intro n
  induction n with
  | zero => intro σ v1 v2 v3 v4; exact kp_none
  | succ n ih =>
    intro σ v1 v2 v3 v4
    unfold F_X11_cancel_45
    refine kp_if ?_ ?_
    · unfold F_X11_cancel_118
      refine kp_nm (fun x8_481 _ => ?_)
      exact kp_tr2_kc (hrec_11 _ _ _ _) (kc_refl _)
    · refine kp_bx (fun o9_482 => ?_)
      refine kp_oc ?_ (fun c10_483 => ?_)
      · refine kp_bx (fun r11_484 => ?_)
        refine kp_if ?_ ?_
        · unfold F_X11_cancel_112
          refine kp_nm (fun x13_485 _ => ?_)
          exact kp_tr2_kc (ih _ _ _ _ _) (kc_refl _)
        · refine kp_if ?_ ?_
          · unfold F_X11_cancel_94
            refine kp_bx (fun r15_486 => ?_)
            refine kp_nm (fun x16_487 _ => ?_)
            refine kp_nm (fun x17_488 _ => ?_)
            unfold F_X11_cancel_112
            refine kp_nm (fun x13_489 _ => ?_)
            exact kp_tr2_kc (ih _ _ _ _ _) (kc_refl _)
          · refine kp_bx (fun r18_490 => ?_)
            refine kp_if ?_ ?_
            · unfold F_X11_cancel_112
              refine kp_nm (fun x13_491 _ => ?_)
              exact kp_tr2_kc (ih _ _ _ _ _) (kc_refl _)
            · unfold F_X11_cancel_94
              refine kp_bx (fun r15_492 => ?_)
              refine kp_nm (fun x16_493 _ => ?_)
              refine kp_nm (fun x17_494 _ => ?_)
              unfold F_X11_cancel_112
              refine kp_nm (fun x13_495 _ => ?_)
              exact kp_tr2_kc (ih _ _ _ _ _) (kc_refl _)
      · refine kp_gd (fun g_496 => ?_)
        refine kp_bn2 (kk_X11_tryStep hL g_496) (fun r20_497 σ20_498 hr20_497 => ?_)
        have kσ20_498 : KC σ σ20_498 := kc_trans (kc_refl _) hr20_497
        refine kp_if ?_ ?_
        · unfold F_X11_cancel_112
          refine kp_nm (fun x13_499 _ => ?_)
          exact kp_tr2_kc (ih _ _ _ _ _) kσ20_498
        · refine kp_if ?_ ?_
          · unfold F_X11_cancel_94
            refine kp_bx (fun r15_500 => ?_)
            refine kp_nm (fun x16_501 _ => ?_)
            refine kp_nm (fun x17_502 _ => ?_)
            unfold F_X11_cancel_112
            refine kp_nm (fun x13_503 _ => ?_)
            exact kp_tr2_kc (ih _ _ _ _ _) kσ20_498
          · refine kp_bx (fun r23_504 => ?_)
            refine kp_if ?_ ?_
            · unfold F_X11_cancel_112
              refine kp_nm (fun x13_505 _ => ?_)
              exact kp_tr2_kc (ih _ _ _ _ _) kσ20_498
            · unfold F_X11_cancel_94
              refine kp_bx (fun r15_506 => ?_)
              refine kp_nm (fun x16_507 _ => ?_)
              refine kp_nm (fun x17_508 _ => ?_)
              unfold F_X11_cancel_112
              refine kp_nm (fun x13_509 _ => ?_)
              exact kp_tr2_kc (ih _ _ _ _ _) kσ20_498

set_option maxRecDepth 100000 in
theorem kk_X11_cancel_11 {N : Nat} {K len : Nat → Nat} {ρ : RG} (hL : Lay N K len ρ) : ∀ (n : Nat) (σ : SG) (v1 : Int32) (v2 : Int32) (v3 : Int32), kp (F_X11_cancel_11 N K len n σ ρ v1 v2 v3) (fun q => KC σ q.2) := by
  intro n
  induction n with
  | zero => intro σ v1 v2 v3; exact kp_none
  | succ n ih =>
    intro σ v1 v2 v3
    unfold F_X11_cancel_11
    refine kp_if ?_ ?_
    · exact kp_some (kc_refl _)
    · refine kp_bx (fun o3_477 => ?_)
      refine kp_oc ?_ (fun c4_478 => ?_)
      · refine kp_bx (fun r5_479 => ?_)
        refine kp_if ?_ ?_
        · unfold F_X11_cancel_118
          refine kp_nm (fun x8_480 _ => ?_)
          exact kp_tr2_kc (ih _ _ _ _) (kc_refl _)
        · exact kp_tr2_kc (kk_X11_cancel_45 hL (fun x0 x1 x2 x3 => ih x0 x1 x2 x3) 1024 _ _ _ _ _) (kc_refl _)
      · refine kp_gd (fun g_510 => ?_)
        refine kp_bn2 (kk_X11_tryStep hL g_510) (fun r25_511 σ25_512 hr25_511 => ?_)
        have kσ25_512 : KC σ σ25_512 := kc_trans (kc_refl _) hr25_511
        refine kp_if ?_ ?_
        · unfold F_X11_cancel_118
          refine kp_nm (fun x8_513 _ => ?_)
          exact kp_tr2_kc (ih _ _ _ _) kσ25_512
        · exact kp_tr2_kc (kk_X11_cancel_45 hL (fun x0 x1 x2 x3 => ih x0 x1 x2 x3) 1024 _ _ _ _ _) kσ25_512

set_option maxRecDepth 100000 in
theorem kk_X11_cancel {N : Nat} {K len : Nat → Nat} {σ : SG} {ρ : RG} (hL : Lay N K len ρ) : kp (F_X11_cancel N K len σ ρ) (fun q => KC σ q.2) := by
  unfold F_X11_cancel
  refine kp_bn (kk_X11_startSteps hL) (fun σ1_476 hσ1_476 => ?_)
  have kσ1_476 : KC σ σ1_476 := kc_trans (kc_refl _) hσ1_476
  exact kp_tr2_kc (kk_X11_cancel_11 hL 1024 _ _ _ _) kσ1_476

set_option maxRecDepth 100000 in
theorem kk_X11_enough_21 {N : Nat} {K len : Nat → Nat} {a1 : Int32} {ρ : RG} (hL : Lay N K len ρ) : ∀ (n : Nat) (σ : SG) (r2 : Nat) (v3 : Int32), isC N K r2 = true → kp (F_X11_enough_21 N K len a1 n σ ρ r2 v3) (fun q => KC σ q.2) := by
  intro n
  induction n with
  | zero => intro σ r2 v3 f_r2; exact kp_none
  | succ n ih =>
    intro σ r2 v3 f_r2
    unfold F_X11_enough_21
    refine kp_gd (fun g_518 => ?_)
    refine kp_if ?_ ?_
    · exact kp_some (kc_refl _)
    · refine kp_bn2 (kk_X11_tryStep hL g_518) (fun r5_519 σ5_520 hr5_519 => ?_)
      have kσ5_520 : KC σ σ5_520 := kc_trans (kc_refl _) hr5_519
      refine kp_if ?_ ?_
      · unfold F_X11_enough_61
        refine kp_gd (fun g_521 => ?_)
        refine kp_nm (fun x7_522 _ => ?_)
        exact kp_tr2_kc (ih _ _ _ g_521) kσ5_520
      · refine kp_if ?_ ?_
        · unfold F_X11_enough_61
          refine kp_gd (fun g_523 => ?_)
          refine kp_nm (fun x7_524 _ => ?_)
          exact kp_tr2_kc (ih _ _ _ g_523) kσ5_520
        · exact kp_some kσ5_520

set_option maxRecDepth 100000 in
theorem kk_X11_enough {N : Nat} {K len : Nat → Nat} {a1 : Int32} {σ : SG} {ρ : RG} (hL : Lay N K len ρ) : kp (F_X11_enough N K len a1 σ ρ) (fun q => KC σ q.2) := by
  unfold F_X11_enough
  refine kp_bx (fun o1_514 => ?_)
  refine kp_oc ?_ (fun c2_515 => ?_)
  · exact kp_some (kc_refl _)
  · refine kp_gd (fun g_516 => ?_)
    refine kp_bn (kk_X11_startSteps hL) (fun σ3_517 hσ3_517 => ?_)
    have kσ3_517 : KC σ σ3_517 := kc_trans (kc_refl _) hσ3_517
    exact kp_tr2_kc (kk_X11_enough_21 hL 1024 _ _ _ g_516) kσ3_517

set_option maxRecDepth 100000 in
theorem kk_X11_when_44 {N : Nat} {K len : Nat → Nat} {a1 : Int32} {a2 : Int32} {ρ : RG} (hL : Lay N K len ρ) : ∀ (n : Nat) (σ : SG) (v1 : Int32) (v2 : Int32) (v3 : Int32) (v4 : Int32) (v5 : Int32), kp (F_X11_when_44 N K len a1 a2 n σ ρ v1 v2 v3 v4 v5) (fun q => KC σ q.2) := by
  intro n
  induction n with
  | zero => intro σ v1 v2 v3 v4 v5; exact kp_none
  | succ n ih =>
    intro σ v1 v2 v3 v4 v5
    unfold F_X11_when_44
    refine kp_if ?_ ?_
    · refine kp_if ?_ ?_
      · exact kp_some (kc_refl _)
      · refine kp_if ?_ ?_
        · exact kp_some (kc_refl _)
        · exact kp_some (kc_refl _)
    · refine kp_bn (kk_X11_goOn hL) (fun σ9_528 hσ9_528 => ?_)
      have kσ9_528 : KC σ σ9_528 := kc_trans (kc_refl _) hσ9_528
      refine kp_if ?_ ?_
      · unfold F_X11_when_76
        refine kp_nm (fun x11_529 _ => ?_)
        exact kp_tr2_kc (ih _ _ _ _ _ _) kσ9_528
      · unfold F_X11_when_76
        refine kp_nm (fun x11_530 _ => ?_)
        exact kp_tr2_kc (ih _ _ _ _ _ _) kσ9_528

set_option maxRecDepth 100000 in
theorem kk_X11_when {N : Nat} {K len : Nat → Nat} {a1 : Int32} {a2 : Int32} {σ : SG} {ρ : RG} (hL : Lay N K len ρ) : kp (F_X11_when N K len a1 a2 σ ρ) (fun q => KC σ q.2) := by
  unfold F_X11_when
  refine kp_bx (fun r1_525 => ?_)
  refine kp_if ?_ ?_
  · exact kp_some (kc_refl _)
  · refine kp_bx (fun r3_526 => ?_)
    refine kp_if ?_ ?_
    · exact kp_some (kc_refl _)
    · refine kp_bn (kk_X11_goOn hL) (fun σ5_527 hσ5_527 => ?_)
      have kσ5_527 : KC σ σ5_527 := kc_trans (kc_refl _) hσ5_527
      exact kp_tr2_kc (kk_X11_when_44 hL 1024 _ _ _ _ _ _) kσ5_527

set_option maxRecDepth 100000 in
theorem kk_X11_guide {N : Nat} {K len : Nat → Nat} {a1 : Int32} {σ : SG} {ρ : RG} (hL : Lay N K len ρ) : kp (F_X11_guide N K len a1 σ ρ) (fun q => KC σ q.2) := by
  unfold F_X11_guide
  refine kp_bx (fun r1_531 => ?_)
  refine kp_if ?_ ?_
  · exact kp_some (kc_refl _)
  · refine kp_bn (kk_X11_goOn hL) (fun σ3_532 hσ3_532 => ?_)
    have kσ3_532 : KC σ σ3_532 := kc_trans (kc_refl _) hσ3_532
    refine kp_bn (kk_X11_goOn hL) (fun σ4_533 hσ4_533 => ?_)
    have kσ4_533 : KC σ σ4_533 := kc_trans kσ3_532 hσ4_533
    refine kp_nm (fun x5_534 _ => ?_)
    exact kp_some kσ4_533

set_option maxRecDepth 100000 in
theorem kk_X11_again_31 {N : Nat} {K len : Nat → Nat} {a1 : Int32} {ρ : RG} (hL : Lay N K len ρ) : ∀ (n : Nat) (σ : SG) (r2 : Nat) (v3 : Int32), isC N K r2 = true → kp (F_X11_again_31 N K len a1 n σ ρ r2 v3) (fun q => KC σ q.2) := by
  intro n
  induction n with
  | zero => intro σ r2 v3 f_r2; exact kp_none
  | succ n ih =>
    intro σ r2 v3 f_r2
    unfold F_X11_again_31
    refine kp_gd (fun g_539 => ?_)
    refine kp_if ?_ ?_
    · exact kp_some (kc_refl _)
    · refine kp_bn2 (kk_X3_tryCut hL (by decide) g_539) (fun r5_540 σ5_541 hr5_540 => ?_)
      have kσ5_541 : KC σ σ5_541 := kc_trans (kc_refl _) hr5_540
      refine kp_nm (fun σ7_542 hσ7_542 => ?_)
      have kσ7_542 : KC σ σ7_542 := by rw [hσ7_542]; exact kc_trans kσ5_541 (kc_lit (by decide))
      refine kp_if ?_ ?_
      · refine kp_if ?_ ?_
        · exact kp_some kσ7_542
        · unfold F_X11_again_118
          refine kp_gd (fun g_543 => ?_)
          refine kp_nm (fun x9_544 _ => ?_)
          exact kp_tr2_kc (ih _ _ _ g_543) kσ7_542
      · unfold F_X11_again_118
        refine kp_gd (fun g_545 => ?_)
        refine kp_nm (fun x9_546 _ => ?_)
        exact kp_tr2_kc (ih _ _ _ g_545) kσ7_542

set_option maxRecDepth 100000 in
theorem kk_X11_again {N : Nat} {K len : Nat → Nat} {a1 : Int32} {σ : SG} {ρ : RG} (hL : Lay N K len ρ) : kp (F_X11_again N K len a1 σ ρ) (fun q => KC σ q.2) := by
  unfold F_X11_again
  refine kp_bx (fun o1_535 => ?_)
  refine kp_oc ?_ (fun c2_536 => ?_)
  · exact kp_some (kc_refl _)
  · refine kp_gd (fun g_537 => ?_)
    refine kp_bn (kk_X3_takes hL (by decide) (by decide)) (fun σ3_538 hσ3_538 => ?_)
    have kσ3_538 : KC σ σ3_538 := kc_trans (kc_refl _) hσ3_538
    exact kp_tr2_kc (kk_X11_again_31 hL 1024 _ _ _ g_537) kσ3_538

set_option maxRecDepth 100000 in
theorem kk_X11_evener_44 {N : Nat} {K len : Nat → Nat} {a1 : Int32} {a2 : Int32} {ρ : RG} (hL : Lay N K len ρ) : ∀ (n : Nat) (σ : SG) (v2 : Int32) (v3 : Int32) (v4 : Int32) (v5 : Int32) (v6 : Int32), kp (F_X11_evener_44 N K len a1 a2 n σ ρ v2 v3 v4 v5 v6) (fun q => KC σ q.2) := by
  intro n
  induction n with
  | zero => intro σ v2 v3 v4 v5 v6; exact kp_none
  | succ n ih =>
    intro σ v2 v3 v4 v5 v6
    unfold F_X11_evener_44
    refine kp_if ?_ ?_
    · refine kp_if ?_ ?_
      · exact kp_some (kc_refl _)
      · refine kp_if ?_ ?_
        · exact kp_some (kc_refl _)
        · refine kp_nm (fun x9_550 _ => ?_)
          exact kp_some (kc_refl _)
    · refine kp_bx (fun o10_551 => ?_)
      refine kp_oc ?_ (fun c11_552 => ?_)
      · unfold F_X11_evener_91
        refine kp_if ?_ ?_
        · unfold F_X11_evener_110
          refine kp_if ?_ ?_
          · unfold F_X11_evener_125
            unfold F_X11_evener_132
            refine kp_nm (fun x15_553 _ => ?_)
            exact kp_tr2_kc (ih _ _ _ _ _ _) (kc_refl _)
          · refine kp_if ?_ ?_
            · unfold F_X11_evener_132
              refine kp_nm (fun x15_554 _ => ?_)
              exact kp_tr2_kc (ih _ _ _ _ _ _) (kc_refl _)
            · unfold F_X11_evener_125
              unfold F_X11_evener_132
              refine kp_nm (fun x15_555 _ => ?_)
              exact kp_tr2_kc (ih _ _ _ _ _ _) (kc_refl _)
        · refine kp_nm (fun x13_556 _ => ?_)
          unfold F_X11_evener_110
          refine kp_if ?_ ?_
          · unfold F_X11_evener_125
            unfold F_X11_evener_132
            refine kp_nm (fun x15_557 _ => ?_)
            exact kp_tr2_kc (ih _ _ _ _ _ _) (kc_refl _)
          · refine kp_if ?_ ?_
            · unfold F_X11_evener_132
              refine kp_nm (fun x15_558 _ => ?_)
              exact kp_tr2_kc (ih _ _ _ _ _ _) (kc_refl _)
            · unfold F_X11_evener_125
              unfold F_X11_evener_132
              refine kp_nm (fun x15_559 _ => ?_)
              exact kp_tr2_kc (ih _ _ _ _ _ _) (kc_refl _)
      · refine kp_gd (fun g_560 => ?_)
        refine kp_bx (fun r17_561 => ?_)
        refine kp_nm (fun x18_562 _ => ?_)
        unfold F_X11_evener_91
        refine kp_if ?_ ?_
        · unfold F_X11_evener_110
          refine kp_if ?_ ?_
          · unfold F_X11_evener_125
            unfold F_X11_evener_132
            refine kp_nm (fun x15_563 _ => ?_)
            exact kp_tr2_kc (ih _ _ _ _ _ _) (kc_refl _)
          · refine kp_if ?_ ?_
            · unfold F_X11_evener_132
              refine kp_nm (fun x15_564 _ => ?_)
              exact kp_tr2_kc (ih _ _ _ _ _ _) (kc_refl _)
            · unfold F_X11_evener_125
              unfold F_X11_evener_132
              refine kp_nm (fun x15_565 _ => ?_)
              exact kp_tr2_kc (ih _ _ _ _ _ _) (kc_refl _)
        · refine kp_nm (fun x13_566 _ => ?_)
          unfold F_X11_evener_110
          refine kp_if ?_ ?_
          · unfold F_X11_evener_125
            unfold F_X11_evener_132
            refine kp_nm (fun x15_567 _ => ?_)
            exact kp_tr2_kc (ih _ _ _ _ _ _) (kc_refl _)
          · refine kp_if ?_ ?_
            · unfold F_X11_evener_132
              refine kp_nm (fun x15_568 _ => ?_)
              exact kp_tr2_kc (ih _ _ _ _ _ _) (kc_refl _)
            · unfold F_X11_evener_125
              unfold F_X11_evener_132
              refine kp_nm (fun x15_569 _ => ?_)
              exact kp_tr2_kc (ih _ _ _ _ _ _) (kc_refl _)

set_option maxRecDepth 100000 in
theorem kk_X11_evener {N : Nat} {K len : Nat → Nat} {a1 : Int32} {a2 : Int32} {σ : SG} {ρ : RG} (hL : Lay N K len ρ) : kp (F_X11_evener N K len a1 a2 σ ρ) (fun q => KC σ q.2) := by
  unfold F_X11_evener
  refine kp_bx (fun r1_547 => ?_)
  refine kp_if ?_ ?_
  · exact kp_some (kc_refl _)
  · refine kp_bx (fun r3_548 => ?_)
    refine kp_if ?_ ?_
    · exact kp_some (kc_refl _)
    · refine kp_bn (kk_X11_goOn hL) (fun σ5_549 hσ5_549 => ?_)
      have kσ5_549 : KC σ σ5_549 := kc_trans (kc_refl _) hσ5_549
      exact kp_tr2_kc (kk_X11_evener_44 hL 1024 _ _ _ _ _ _) kσ5_549

set_option maxRecDepth 100000 in
theorem kk_X11_bestOf_B_28 {N : Nat} {K len : Nat → Nat} {R : Nat → Nat → Int32 → Int32 → SG → RG → Option (Int32 × SG)} {z : Nat} {z2 : Nat} {a3 : Int32} {a4 : Int32} {ρ : RG} (hL : Lay N K len ρ) (hR : ∀ (y0 : Nat) (y1 : Nat) (y2 : Int32) (y3 : Int32) (σ : SG), isC N K y0 = true → isC N K y1 = true → kp (R y0 y1 y2 y3 σ ρ) (fun q => KC σ q.2)) (f_z : isC N K z = true) (f_z2 : isC N K z2 = true) : ∀ (n : Nat) (σ : SG) (r1 : Nat) (r2 : Nat) (v3 : Int32) (v4 : Int32) (v5 : Int32) (v6 : Int32) (v7 : Int32), isC N K r1 = true → isC N K r2 = true → kp (F_X11_bestOf_B_28 N K len R z z2 a3 a4 n σ ρ r1 r2 v3 v4 v5 v6 v7) (fun q => KC σ q.2) := by
  intro n
  induction n with
  | zero => intro σ r1 r2 v3 v4 v5 v6 v7 f_r1 f_r2; exact kp_none
  | succ n ih =>
    intro σ r1 r2 v3 v4 v5 v6 v7 f_r1 f_r2
    unfold F_X11_bestOf_B_28
    refine kp_gd (fun g_585 => ?_)
    refine kp_gd (fun g_586 => ?_)
    refine kp_if ?_ ?_
    · refine kp_if ?_ ?_
      · refine kp_nm (fun x9_587 _ => ?_)
        refine kp_gd (fun _ => ?_)
        refine kp_oc ?_ (fun c11_588 => ?_)
        · exact kp_none
        · refine kp_gd (fun g_589 => ?_)
          refine kp_gd (fun _ => ?_)
          refine kp_oc ?_ (fun c13_590 => ?_)
          · exact kp_none
          · refine kp_gd (fun g_591 => ?_)
            refine kp_bn (kk_X3_takes hL g_589 g_591) (fun σ14_592 hσ14_592 => ?_)
            have kσ14_592 : KC σ σ14_592 := kc_trans (kc_refl _) hσ14_592
            refine kp_nm (fun x15_593 _ => ?_)
            refine kp_nm (fun x16_594 _ => ?_)
            refine kp_bn2 (hR _ _ _ _ _ g_586 g_585) (fun r17_595 σ17_596 hr17_595 => ?_)
            have kσ17_596 : KC σ σ17_596 := kc_trans kσ14_592 hr17_595
            refine kp_nm (fun x18_597 _ => ?_)
            unfold F_X11_bestOf_B_144
            refine kp_if ?_ ?_
            · refine kp_nm (fun σ8_598 hσ8_598 => ?_)
              have kσ8_598 : KC σ σ8_598 := by rw [hσ8_598]; exact kc_trans kσ17_596 (kc_lit (by decide))
              exact kp_some kσ8_598
            · exact kp_some kσ17_596
      · unfold F_X11_bestOf_B_144
        refine kp_if ?_ ?_
        · refine kp_nm (fun σ8_599 hσ8_599 => ?_)
          have kσ8_599 : KC σ σ8_599 := by rw [hσ8_599]; exact kc_trans (kc_refl _) (kc_lit (by decide))
          exact kp_some kσ8_599
        · exact kp_some (kc_refl _)
    · refine kp_bx (fun r19_600 => ?_)
      refine kp_bn2 (kk_X11_tryStep hL g_585) (fun r20_601 σ20_602 hr20_601 => ?_)
      have kσ20_602 : KC σ σ20_602 := kc_trans (kc_refl _) hr20_601
      refine kp_if ?_ ?_
      · unfold F_X11_bestOf_B_98
        refine kp_gd (fun g_603 => ?_)
        refine kp_gd (fun g_604 => ?_)
        refine kp_nm (fun x22_605 _ => ?_)
        exact kp_tr2_kc (ih _ _ _ _ _ _ _ _ g_603 g_604) kσ20_602
      · refine kp_nm (fun x23_606 _ => ?_)
        refine kp_gd (fun _ => ?_)
        refine kp_oc ?_ (fun c25_607 => ?_)
        · exact kp_none
        · refine kp_gd (fun g_608 => ?_)
          refine kp_nm (fun x26_609 _ => ?_)
          refine kp_nm (fun x27_610 _ => ?_)
          refine kp_bn2 (hR _ _ _ _ _ g_586 g_585) (fun r28_611 σ28_612 hr28_611 => ?_)
          have kσ28_612 : KC σ σ28_612 := kc_trans kσ20_602 hr28_611
          refine kp_nm (fun x29_613 _ => ?_)
          refine kp_if ?_ ?_
          · unfold F_X11_bestOf_B_90
            refine kp_gd (fun g_614 => ?_)
            refine kp_gd (fun g_615 => ?_)
            unfold F_X11_bestOf_B_98
            refine kp_gd (fun g_616 => ?_)
            refine kp_gd (fun g_617 => ?_)
            refine kp_nm (fun x22_618 _ => ?_)
            exact kp_tr2_kc (ih _ _ _ _ _ _ _ _ g_616 g_617) kσ28_612
          · refine kp_if ?_ ?_
            · unfold F_X11_bestOf_B_98
              refine kp_gd (fun g_619 => ?_)
              refine kp_gd (fun g_620 => ?_)
              refine kp_nm (fun x22_621 _ => ?_)
              exact kp_tr2_kc (ih _ _ _ _ _ _ _ _ g_619 g_620) kσ28_612
            · unfold F_X11_bestOf_B_90
              refine kp_gd (fun g_622 => ?_)
              refine kp_gd (fun g_623 => ?_)
              unfold F_X11_bestOf_B_98
              refine kp_gd (fun g_624 => ?_)
              refine kp_gd (fun g_625 => ?_)
              refine kp_nm (fun x22_626 _ => ?_)
              exact kp_tr2_kc (ih _ _ _ _ _ _ _ _ g_624 g_625) kσ28_612

set_option maxRecDepth 100000 in
theorem kk_X11_bestOf_B {N : Nat} {K len : Nat → Nat} {R : Nat → Nat → Int32 → Int32 → SG → RG → Option (Int32 × SG)} {z : Nat} {z2 : Nat} {a3 : Int32} {a4 : Int32} {σ : SG} {ρ : RG} (hL : Lay N K len ρ) (hR : ∀ (y0 : Nat) (y1 : Nat) (y2 : Int32) (y3 : Int32) (σ : SG), isC N K y0 = true → isC N K y1 = true → kp (R y0 y1 y2 y3 σ ρ) (fun q => KC σ q.2)) (f_z : isC N K z = true) (f_z2 : isC N K z2 = true) : kp (F_X11_bestOf_B N K len R z z2 a3 a4 σ ρ) (fun q => KC σ q.2) := by
  unfold F_X11_bestOf_B
  refine kp_if ?_ ?_
  · exact kp_some (kc_refl _)
  · refine kp_nm (fun x2_584 _ => ?_)
    refine kp_if ?_ ?_
    · exact kp_tr2_kc (kk_X11_bestOf_B_28 hL hR f_z f_z2 1024 _ _ _ _ _ _ _ _ f_z f_z2) (kc_refl _)
    · exact kp_some (kc_refl _)

theorem kk_X11_bestOf_R {N : Nat} {K len : Nat → Nat} {ρ : RG} (hL : Lay N K len ρ) : ∀ (d : Nat) (z : Nat) (z2 : Nat) (a3 : Int32) (a4 : Int32) (σ : SG), isC N K z = true → isC N K z2 = true → kp (F_X11_bestOf_R N K len d z z2 a3 a4 σ ρ) (fun q => KC σ q.2) := by
  intro d
  induction d with
  | zero => intro z z2 a3 a4 σ f_z f_z2; exact kp_none
  | succ d ih =>
    intro z z2 a3 a4 σ f_z f_z2
    exact kk_X11_bestOf_B hL ih f_z f_z2

theorem kk_X11_bestOf {N : Nat} {K len : Nat → Nat} {z : Nat} {z2 : Nat} {a3 : Int32} {a4 : Int32} {σ : SG} {ρ : RG} (hL : Lay N K len ρ) (f_z : isC N K z = true) (f_z2 : isC N K z2 = true) : kp (F_X11_bestOf N K len z z2 a3 a4 σ ρ) (fun q => KC σ q.2) := kk_X11_bestOf_R hL _ _ _ _ _ _ f_z f_z2

set_option maxRecDepth 100000 in
theorem kk_X11_game {N : Nat} {K len : Nat → Nat} {a1 : Int32} {a2 : Int32} {a3 : Int32} {a4 : Int32} {σ : SG} {ρ : RG} (hL : Lay N K len ρ) : kp (F_X11_game N K len a1 a2 a3 a4 σ ρ) (fun q => KC σ q.2) := by
  unfold F_X11_game
  refine kp_bx (fun o1_570 => ?_)
  refine kp_oc ?_ (fun c2_571 => ?_)
  · refine kp_bx (fun o3_572 => ?_)
    refine kp_oc ?_ (fun c4_573 => ?_)
    · exact kp_some (kc_refl _)
    · refine kp_gd (fun g_574 => ?_)
      exact kp_some (kc_refl _)
  · refine kp_gd (fun g_575 => ?_)
    refine kp_bx (fun o5_576 => ?_)
    refine kp_oc ?_ (fun c6_577 => ?_)
    · exact kp_some (kc_refl _)
    · refine kp_gd (fun g_578 => ?_)
      refine kp_bx (fun r7_579 => ?_)
      refine kp_if ?_ ?_
      · exact kp_some (kc_refl _)
      · refine kp_if ?_ ?_
        · exact kp_some (kc_refl _)
        · refine kp_bx (fun r10_580 => ?_)
          refine kp_if ?_ ?_
          · exact kp_some (kc_refl _)
          · refine kp_bn (kk_X11_startSteps hL) (fun σ12_581 hσ12_581 => ?_)
            have kσ12_581 : KC σ σ12_581 := kc_trans (kc_refl _) hσ12_581
            refine kp_bn2 (kk_X11_bestOf hL g_575 g_578) (fun r13_582 σ13_583 hr13_582 => ?_)
            have kσ13_583 : KC σ σ13_583 := kc_trans kσ12_581 hr13_582
            refine kp_if ?_ ?_
            · exact kp_some kσ13_583
            · exact kp_some kσ13_583

set_option maxRecDepth 100000 in
theorem kk_X11_see {N : Nat} {K len : Nat → Nat} {a1 : Int32} {a2 : Int32} {σ : SG} {ρ : RG} (hL : Lay N K len ρ) : kp (F_X11_see a1 a2 σ ρ) (fun q => KC σ q.2) := by
  unfold F_X11_see
  refine kp_bx (fun r1_627 => ?_)
  refine kp_if ?_ ?_
  · exact kp_some (kc_refl _)
  · refine kp_bx (fun r3_628 => ?_)
    refine kp_if ?_ ?_
    · exact kp_some (kc_refl _)
    · refine kp_nm (fun σ6_629 hσ6_629 => ?_)
      have kσ6_629 : KC σ σ6_629 := by rw [hσ6_629]; exact kc_trans (kc_refl _) (kc_lit (by decide))
      refine kp_nm (fun σ8_630 hσ8_630 => ?_)
      have kσ8_630 : KC σ σ8_630 := by rw [hσ8_630]; exact kc_trans kσ6_629 (kc_lit (by decide))
      exact kp_some kσ8_630

set_option maxRecDepth 100000 in
theorem kk_X11_who_8 {N : Nat} {K len : Nat → Nat} {ρ : RG} (hL : Lay N K len ρ) : ∀ (n : Nat) (σ : SG) (v1 : Int32) (v2 : Int32), kp (F_X11_who_8 N K len n σ ρ v1 v2) (fun q => KC σ q.2) := by
  intro n
  induction n with
  | zero => intro σ v1 v2; exact kp_none
  | succ n ih =>
    intro σ v1 v2
    unfold F_X11_who_8
    refine kp_if ?_ ?_
    · exact kp_some (kc_refl _)
    · refine kp_bx (fun o3_632 => ?_)
      refine kp_oc ?_ (fun c4_633 => ?_)
      · refine kp_bx (fun r5_634 => ?_)
        refine kp_if ?_ ?_
        · unfold F_X11_who_80
          refine kp_nm (fun x7_635 _ => ?_)
          exact kp_tr2_kc (ih _ _ _) (kc_refl _)
        · refine kp_if ?_ ?_
          · refine kp_if ?_ ?_
            · refine kp_nm (fun x10_636 _ => ?_)
              refine kp_nm (fun x11_637 _ => ?_)
              unfold F_X11_who_80
              refine kp_nm (fun x7_638 _ => ?_)
              exact kp_tr2_kc (ih _ _ _) (kc_refl _)
            · unfold F_X11_who_80
              refine kp_nm (fun x7_639 _ => ?_)
              exact kp_tr2_kc (ih _ _ _) (kc_refl _)
          · unfold F_X11_who_80
            refine kp_nm (fun x7_640 _ => ?_)
            exact kp_tr2_kc (ih _ _ _) (kc_refl _)
      · refine kp_gd (fun g_641 => ?_)
        refine kp_bn2 (kk_X11_tryStep hL g_641) (fun r12_642 σ12_643 hr12_642 => ?_)
        have kσ12_643 : KC σ σ12_643 := kc_trans (kc_refl _) hr12_642
        refine kp_if ?_ ?_
        · unfold F_X11_who_80
          refine kp_nm (fun x7_644 _ => ?_)
          exact kp_tr2_kc (ih _ _ _) kσ12_643
        · refine kp_if ?_ ?_
          · refine kp_if ?_ ?_
            · refine kp_nm (fun x16_645 _ => ?_)
              refine kp_nm (fun x17_646 _ => ?_)
              unfold F_X11_who_80
              refine kp_nm (fun x7_647 _ => ?_)
              exact kp_tr2_kc (ih _ _ _) kσ12_643
            · unfold F_X11_who_80
              refine kp_nm (fun x7_648 _ => ?_)
              exact kp_tr2_kc (ih _ _ _) kσ12_643
          · unfold F_X11_who_80
            refine kp_nm (fun x7_649 _ => ?_)
            exact kp_tr2_kc (ih _ _ _) kσ12_643

set_option maxRecDepth 100000 in
theorem kk_X11_who {N : Nat} {K len : Nat → Nat} {σ : SG} {ρ : RG} (hL : Lay N K len ρ) : kp (F_X11_who N K len σ ρ) (fun q => KC σ q.2) := by
  unfold F_X11_who
  refine kp_bn (kk_X11_startSteps hL) (fun σ1_631 hσ1_631 => ?_)
  have kσ1_631 : KC σ σ1_631 := kc_trans (kc_refl _) hσ1_631
  exact kp_tr2_kc (kk_X11_who_8 hL 1024 _ _ _) kσ1_631

set_option maxRecDepth 100000 in
theorem kk_X11_weekRows_B_29 {N : Nat} {K len : Nat → Nat} {R : Int32 → SG → RG → Option (Int32 × SG)} {a1 : Int32} {ρ : RG} (hL : Lay N K len ρ) (hR : ∀ (y0 : Int32) (σ : SG), kp (R y0 σ ρ) (fun q => KC σ q.2)) : ∀ (n : Nat) (σ : SG) (v1 : Int32) (v2 : Int32) (v3 : Int32), kp (F_X11_weekRows_B_29 N K len R a1 n σ ρ v1 v2 v3) (fun q => KC σ q.2) := by
  intro n
  induction n with
  | zero => intro σ v1 v2 v3; exact kp_none
  | succ n ih =>
    intro σ v1 v2 v3
    unfold F_X11_weekRows_B_29
    refine kp_if ?_ ?_
    · exact kp_some (kc_refl _)
    · refine kp_if ?_ ?_
      · exact kp_some (kc_refl _)
      · refine kp_bx (fun o4_654 => ?_)
        refine kp_oc ?_ (fun c5_655 => ?_)
        · refine kp_bx (fun r6_656 => ?_)
          refine kp_if ?_ ?_
          · unfold F_X11_weekRows_B_108
            refine kp_nm (fun x8_657 _ => ?_)
            exact kp_tr2_kc (ih _ _ _ _) (kc_refl _)
          · refine kp_nm (fun x9_658 _ => ?_)
            refine kp_gd (fun _ => ?_)
            refine kp_oc ?_ (fun c11_659 => ?_)
            · exact kp_none
            · refine kp_gd (fun g_660 => ?_)
              refine kp_bx (fun r12_661 => ?_)
              refine kp_if ?_ ?_
              · refine kp_gd (fun _ => ?_)
                refine kp_nm (fun σ16_662 hσ16_662 => ?_)
                have kσ16_662 : KC σ σ16_662 := by rw [hσ16_662]; exact kc_trans (kc_refl _) (kc_row (by decide))
                refine kp_nm (fun x17_663 _ => ?_)
                refine kp_bn2 (hR _ _) (fun r18_664 σ18_665 hr18_664 => ?_)
                have kσ18_665 : KC σ σ18_665 := kc_trans kσ16_662 hr18_664
                refine kp_nm (fun x19_666 _ => ?_)
                unfold F_X11_weekRows_B_108
                refine kp_nm (fun x8_667 _ => ?_)
                exact kp_tr2_kc (ih _ _ _ _) kσ18_665
              · unfold F_X11_weekRows_B_108
                refine kp_nm (fun x8_668 _ => ?_)
                exact kp_tr2_kc (ih _ _ _ _) (kc_refl _)
        · refine kp_gd (fun g_669 => ?_)
          refine kp_bn2 (kk_X11_tryStep hL g_669) (fun r20_670 σ20_671 hr20_670 => ?_)
          have kσ20_671 : KC σ σ20_671 := kc_trans (kc_refl _) hr20_670
          refine kp_if ?_ ?_
          · unfold F_X11_weekRows_B_108
            refine kp_nm (fun x8_672 _ => ?_)
            exact kp_tr2_kc (ih _ _ _ _) kσ20_671
          · refine kp_nm (fun x22_673 _ => ?_)
            refine kp_gd (fun _ => ?_)
            refine kp_oc ?_ (fun c24_674 => ?_)
            · exact kp_none
            · refine kp_gd (fun g_675 => ?_)
              refine kp_bx (fun r25_676 => ?_)
              refine kp_if ?_ ?_
              · refine kp_gd (fun _ => ?_)
                refine kp_nm (fun σ29_677 hσ29_677 => ?_)
                have kσ29_677 : KC σ σ29_677 := by rw [hσ29_677]; exact kc_trans kσ20_671 (kc_row (by decide))
                refine kp_nm (fun x30_678 _ => ?_)
                refine kp_bn2 (hR _ _) (fun r31_679 σ31_680 hr31_679 => ?_)
                have kσ31_680 : KC σ σ31_680 := kc_trans kσ29_677 hr31_679
                refine kp_nm (fun x32_681 _ => ?_)
                unfold F_X11_weekRows_B_108
                refine kp_nm (fun x8_682 _ => ?_)
                exact kp_tr2_kc (ih _ _ _ _) kσ31_680
              · unfold F_X11_weekRows_B_108
                refine kp_nm (fun x8_683 _ => ?_)
                exact kp_tr2_kc (ih _ _ _ _) kσ20_671

set_option maxRecDepth 100000 in
theorem kk_X11_weekRows_B {N : Nat} {K len : Nat → Nat} {R : Int32 → SG → RG → Option (Int32 × SG)} {a1 : Int32} {σ : SG} {ρ : RG} (hL : Lay N K len ρ) (hR : ∀ (y0 : Int32) (σ : SG), kp (R y0 σ ρ) (fun q => KC σ q.2)) : kp (F_X11_weekRows_B N K len R a1 σ ρ) (fun q => KC σ q.2) := by
  unfold F_X11_weekRows_B
  refine kp_if ?_ ?_
  · exact kp_tr2_kc (kk_X11_weekRows_B_29 hL hR 1024 _ _ _ _) (kc_refl _)
  · refine kp_if ?_ ?_
    · refine kp_bn (kk_X11_keepPath hL) (fun σ34_684 hσ34_684 => ?_)
      have kσ34_684 : KC σ σ34_684 := kc_trans (kc_refl _) hσ34_684
      exact kp_some kσ34_684
    · exact kp_some (kc_refl _)

theorem kk_X11_weekRows_R {N : Nat} {K len : Nat → Nat} {ρ : RG} (hL : Lay N K len ρ) : ∀ (d : Nat) (a1 : Int32) (σ : SG), kp (F_X11_weekRows_R N K len d a1 σ ρ) (fun q => KC σ q.2) := by
  intro d
  induction d with
  | zero => intro a1 σ; exact kp_none
  | succ d ih =>
    intro a1 σ
    exact kk_X11_weekRows_B hL ih

theorem kk_X11_weekRows {N : Nat} {K len : Nat → Nat} {a1 : Int32} {σ : SG} {ρ : RG} (hL : Lay N K len ρ) : kp (F_X11_weekRows N K len a1 σ ρ) (fun q => KC σ q.2) := kk_X11_weekRows_R hL _ _ _

set_option maxRecDepth 100000 in
theorem kk_X11_rows {N : Nat} {K len : Nat → Nat} {a1 : Int32} {σ : SG} {ρ : RG} (hL : Lay N K len ρ) : kp (F_X11_rows N K len a1 σ ρ) (fun q => KC σ q.2) := by
  unfold F_X11_rows
  refine kp_bx (fun r1_650 => ?_)
  refine kp_if ?_ ?_
  · exact kp_some (kc_refl _)
  · refine kp_bn (kk_X11_startSteps hL) (fun σ3_651 hσ3_651 => ?_)
    have kσ3_651 : KC σ σ3_651 := kc_trans (kc_refl _) hσ3_651
    refine kp_bn2 (kk_X11_weekRows hL) (fun r4_652 σ4_653 hr4_652 => ?_)
    have kσ4_653 : KC σ σ4_653 := kc_trans kσ3_651 hr4_652
    refine kp_if ?_ ?_
    · refine kp_if ?_ ?_
      · exact kp_some kσ4_653
      · refine kp_if ?_ ?_
        · exact kp_some kσ4_653
        · refine kp_bx (fun r8_685 => ?_)
          exact kp_some kσ4_653
    · exact kp_some kσ4_653

set_option maxRecDepth 100000 in
theorem kk_X11_goodRows_B_12 {N : Nat} {K len : Nat → Nat} {R : Int32 → Int32 → SG → RG → Option (Int64 × SG)} {a1 : Int32} {a2 : Int32} {ρ : RG} (hL : Lay N K len ρ) (hR : ∀ (y0 : Int32) (y1 : Int32) (σ : SG), kp (R y0 y1 σ ρ) (fun q => KC σ q.2)) : ∀ (n : Nat) (σ : SG) (v1 : Int32) (v2 : Int32) (v3 : Int64) (v5 : Int32), kp (F_X11_goodRows_B_12 N K len R a1 a2 n σ ρ v1 v2 v3 v5) (fun q => KC σ q.2) := by
  intro n
  induction n with
  | zero => intro σ v1 v2 v3 v5; exact kp_none
  | succ n ih =>
    intro σ v1 v2 v3 v5
    unfold F_X11_goodRows_B_12
    refine kp_if ?_ ?_
    · exact kp_some (kc_refl _)
    · refine kp_bx (fun o3_691 => ?_)
      refine kp_oc ?_ (fun c4_692 => ?_)
      · refine kp_bx (fun r5_693 => ?_)
        refine kp_if ?_ ?_
        · unfold F_X11_goodRows_B_77
          refine kp_nm (fun x7_694 _ => ?_)
          exact kp_tr2_kc (ih _ _ _ _ _) (kc_refl _)
        · refine kp_nm (fun x8_695 _ => ?_)
          refine kp_gd (fun _ => ?_)
          refine kp_oc ?_ (fun c10_696 => ?_)
          · exact kp_none
          · refine kp_gd (fun g_697 => ?_)
            refine kp_if ?_ ?_
            · unfold F_X11_goodRows_B_77
              refine kp_nm (fun x7_698 _ => ?_)
              exact kp_tr2_kc (ih _ _ _ _ _) (kc_refl _)
            · refine kp_nm (fun x12_699 _ => ?_)
              refine kp_bn2 (hR _ _ _) (fun r13_700 σ13_701 hr13_700 => ?_)
              have kσ13_701 : KC σ σ13_701 := kc_trans (kc_refl _) hr13_700
              refine kp_nm (fun x14_702 _ => ?_)
              unfold F_X11_goodRows_B_77
              refine kp_nm (fun x7_703 _ => ?_)
              exact kp_tr2_kc (ih _ _ _ _ _) kσ13_701
      · refine kp_gd (fun g_704 => ?_)
        refine kp_bn2 (kk_X11_tryStep hL g_704) (fun r15_705 σ15_706 hr15_705 => ?_)
        have kσ15_706 : KC σ σ15_706 := kc_trans (kc_refl _) hr15_705
        refine kp_if ?_ ?_
        · unfold F_X11_goodRows_B_77
          refine kp_nm (fun x7_707 _ => ?_)
          exact kp_tr2_kc (ih _ _ _ _ _) kσ15_706
        · refine kp_nm (fun x17_708 _ => ?_)
          refine kp_gd (fun _ => ?_)
          refine kp_oc ?_ (fun c19_709 => ?_)
          · exact kp_none
          · refine kp_gd (fun g_710 => ?_)
            refine kp_if ?_ ?_
            · unfold F_X11_goodRows_B_77
              refine kp_nm (fun x7_711 _ => ?_)
              exact kp_tr2_kc (ih _ _ _ _ _) kσ15_706
            · refine kp_nm (fun x21_712 _ => ?_)
              refine kp_bn2 (hR _ _ _) (fun r22_713 σ22_714 hr22_713 => ?_)
              have kσ22_714 : KC σ σ22_714 := kc_trans kσ15_706 hr22_713
              refine kp_nm (fun x23_715 _ => ?_)
              unfold F_X11_goodRows_B_77
              refine kp_nm (fun x7_716 _ => ?_)
              exact kp_tr2_kc (ih _ _ _ _ _) kσ22_714

set_option maxRecDepth 100000 in
theorem kk_X11_goodRows_B {N : Nat} {K len : Nat → Nat} {R : Int32 → Int32 → SG → RG → Option (Int64 × SG)} {a1 : Int32} {a2 : Int32} {σ : SG} {ρ : RG} (hL : Lay N K len ρ) (hR : ∀ (y0 : Int32) (y1 : Int32) (σ : SG), kp (R y0 y1 σ ρ) (fun q => KC σ q.2)) : kp (F_X11_goodRows_B N K len R a1 a2 σ ρ) (fun q => KC σ q.2) := by
  unfold F_X11_goodRows_B
  refine kp_if ?_ ?_
  · exact kp_tr2_kc (kk_X11_goodRows_B_12 hL hR 1024 _ _ _ _ _) (kc_refl _)
  · exact kp_some (kc_refl _)

theorem kk_X11_goodRows_R {N : Nat} {K len : Nat → Nat} {ρ : RG} (hL : Lay N K len ρ) : ∀ (d : Nat) (a1 : Int32) (a2 : Int32) (σ : SG), kp (F_X11_goodRows_R N K len d a1 a2 σ ρ) (fun q => KC σ q.2) := by
  intro d
  induction d with
  | zero => intro a1 a2 σ; exact kp_none
  | succ d ih =>
    intro a1 a2 σ
    exact kk_X11_goodRows_B hL ih

theorem kk_X11_goodRows {N : Nat} {K len : Nat → Nat} {a1 : Int32} {a2 : Int32} {σ : SG} {ρ : RG} (hL : Lay N K len ρ) : kp (F_X11_goodRows N K len a1 a2 σ ρ) (fun q => KC σ q.2) := kk_X11_goodRows_R hL _ _ _ _

set_option maxRecDepth 100000 in
theorem kk_X11_odds_37 {N : Nat} {K len : Nat → Nat} {a1 : Int32} {a2 : Int32} {ρ : RG} (hL : Lay N K len ρ) : ∀ (n : Nat) (σ : SG) (v1 : Int32) (v2 : Int32) (v3 : Int64) (v5 : Int32), kp (F_X11_odds_37 N K len a1 a2 n σ ρ v1 v2 v3 v5) (fun q => KC σ q.2) := by
  intro n
  induction n with
  | zero => intro σ v1 v2 v3 v5; exact kp_none
  | succ n ih =>
    intro σ v1 v2 v3 v5
    unfold F_X11_odds_37
    refine kp_if ?_ ?_
    · refine kp_bn (kk_X11_startSteps hL) (fun σ7_688 hσ7_688 => ?_)
      have kσ7_688 : KC σ σ7_688 := kc_trans (kc_refl _) hσ7_688
      refine kp_bn2 (kk_X11_goodRows hL) (fun r8_689 σ8_690 hr8_689 => ?_)
      have kσ8_690 : KC σ σ8_690 := kc_trans kσ7_688 hr8_689
      refine kp_bx (fun r9_717 => ?_)
      exact kp_some kσ8_690
    · refine kp_nm (fun x10_718 _ => ?_)
      refine kp_nm (fun x11_719 _ => ?_)
      exact kp_tr2_kc (ih _ _ _ _ _) (kc_refl _)

set_option maxRecDepth 100000 in
theorem kk_X11_odds {N : Nat} {K len : Nat → Nat} {a1 : Int32} {a2 : Int32} {σ : SG} {ρ : RG} (hL : Lay N K len ρ) : kp (F_X11_odds N K len a1 a2 σ ρ) (fun q => KC σ q.2) := by
  unfold F_X11_odds
  refine kp_bx (fun r1_686 => ?_)
  refine kp_if ?_ ?_
  · exact kp_some (kc_refl _)
  · refine kp_bx (fun r3_687 => ?_)
    refine kp_if ?_ ?_
    · exact kp_some (kc_refl _)
    · refine kp_if ?_ ?_
      · exact kp_some (kc_refl _)
      · exact kp_tr2_kc (kk_X11_odds_37 hL 1024 _ _ _ _ _) (kc_refl _)

set_option maxRecDepth 100000 in
theorem kk_X11_mean_32 {N : Nat} {K len : Nat → Nat} {a1 : Int32} {ρ : RG} (hL : Lay N K len ρ) : ∀ (n : Nat) (σ : SG) (v1 : Int32) (v2 : Int64) (v4 : Int32), kp (F_X11_mean_32 N K len a1 n σ ρ v1 v2 v4) (fun q => KC σ q.2) := by
  intro n
  induction n with
  | zero => intro σ v1 v2 v4; exact kp_none
  | succ n ih =>
    intro σ v1 v2 v4
    unfold F_X11_mean_32
    refine kp_if ?_ ?_
    · refine kp_bx (fun r6_722 => ?_)
      exact kp_some (kc_refl _)
    · refine kp_bx (fun o7_723 => ?_)
      refine kp_oc ?_ (fun c8_724 => ?_)
      · refine kp_bx (fun r9_725 => ?_)
        refine kp_if ?_ ?_
        · unfold F_X11_mean_75
          refine kp_nm (fun x11_726 _ => ?_)
          exact kp_tr2_kc (ih _ _ _ _) (kc_refl _)
        · refine kp_nm (fun x12_727 _ => ?_)
          unfold F_X11_mean_75
          refine kp_nm (fun x11_728 _ => ?_)
          exact kp_tr2_kc (ih _ _ _ _) (kc_refl _)
      · refine kp_gd (fun g_729 => ?_)
        refine kp_bn2 (kk_X11_tryStep hL g_729) (fun r13_730 σ13_731 hr13_730 => ?_)
        have kσ13_731 : KC σ σ13_731 := kc_trans (kc_refl _) hr13_730
        refine kp_if ?_ ?_
        · unfold F_X11_mean_75
          refine kp_nm (fun x11_732 _ => ?_)
          exact kp_tr2_kc (ih _ _ _ _) kσ13_731
        · refine kp_nm (fun x15_733 _ => ?_)
          unfold F_X11_mean_75
          refine kp_nm (fun x11_734 _ => ?_)
          exact kp_tr2_kc (ih _ _ _ _) kσ13_731

set_option maxRecDepth 100000 in
theorem kk_X11_mean {N : Nat} {K len : Nat → Nat} {a1 : Int32} {σ : SG} {ρ : RG} (hL : Lay N K len ρ) : kp (F_X11_mean N K len a1 σ ρ) (fun q => KC σ q.2) := by
  unfold F_X11_mean
  refine kp_bx (fun r1_720 => ?_)
  refine kp_if ?_ ?_
  · exact kp_some (kc_refl _)
  · refine kp_if ?_ ?_
    · exact kp_some (kc_refl _)
    · refine kp_bn (kk_X11_startSteps hL) (fun σ4_721 hσ4_721 => ?_)
      have kσ4_721 : KC σ σ4_721 := kc_trans (kc_refl _) hσ4_721
      exact kp_tr2_kc (kk_X11_mean_32 hL 1024 _ _ _ _) kσ4_721

set_option maxRecDepth 100000 in
theorem kk_X11_book {N : Nat} {K len : Nat → Nat} {a1 : Int32} {a2 : Int32} {σ : SG} {ρ : RG} (hL : Lay N K len ρ) : kp (F_X11_book N K len a1 a2 σ ρ) (fun q => KC σ q.2) := by
  unfold F_X11_book
  refine kp_if ?_ ?_
  · refine kp_nm (fun σ18_735 hσ18_735 => ?_)
    have kσ18_735 : KC σ σ18_735 := by rw [hσ18_735]; exact kc_trans (kc_refl _) (kc_lit (by decide))
    exact kp_some kσ18_735
  · refine kp_bx (fun o2_736 => ?_)
    refine kp_oc ?_ (fun c3_737 => ?_)
    · exact kp_some (kc_refl _)
    · refine kp_gd (fun g_738 => ?_)
      refine kp_bx (fun r4_739 => ?_)
      refine kp_if ?_ ?_
      · exact kp_some (kc_refl _)
      · refine kp_if ?_ ?_
        · exact kp_some (kc_refl _)
        · refine kp_if ?_ ?_
          · refine kp_gd (fun _ => ?_)
            refine kp_nm (fun σ10_740 hσ10_740 => ?_)
            have kσ10_740 : KC σ σ10_740 := by rw [hσ10_740]; exact kc_trans (kc_refl _) (kc_row (by decide))
            refine kp_gd (fun _ => ?_)
            refine kp_nm (fun σ13_741 hσ13_741 => ?_)
            have kσ13_741 : KC σ σ13_741 := by rw [hσ13_741]; exact kc_trans kσ10_740 (kc_row (by decide))
            refine kp_nm (fun x14_742 _ => ?_)
            refine kp_nm (fun σ16_743 hσ16_743 => ?_)
            have kσ16_743 : KC σ σ16_743 := by rw [hσ16_743]; exact kc_trans kσ13_741 (kc_lit (by decide))
            exact kp_some kσ16_743
          · exact kp_some (kc_refl _)

set_option maxRecDepth 100000 in
theorem kk_X11_looked_16 {N : Nat} {K len : Nat → Nat} {ρ : RG} (hL : Lay N K len ρ) : ∀ (n : Nat) (σ : SG) (v1 : Int32), kp (F_X11_looked_16 N K len n σ ρ v1) (fun q => KC σ q.2) := by
  intro n
  induction n with
  | zero => intro σ v1; exact kp_none
  | succ n ih =>
    intro σ v1
    unfold F_X11_looked_16
    refine kp_if ?_ ?_
    · exact kp_some (kc_refl _)
    · refine kp_bx (fun r3_745 => ?_)
      refine kp_bx (fun o4_746 => ?_)
      refine kp_oc ?_ (fun c5_747 => ?_)
      · exact kp_some (kc_refl _)
      · refine kp_gd (fun g_748 => ?_)
        refine kp_bn2 (kk_X3_tryCut hL (by decide) g_748) (fun r6_749 σ6_750 hr6_749 => ?_)
        have kσ6_750 : KC σ σ6_750 := kc_trans (kc_refl _) hr6_749
        refine kp_if ?_ ?_
        · exact kp_some kσ6_750
        · refine kp_bx (fun r8_751 => ?_)
          refine kp_if ?_ ?_
          · refine kp_nm (fun x10_752 _ => ?_)
            exact kp_tr2_kc (ih _ _) kσ6_750
          · exact kp_some kσ6_750

set_option maxRecDepth 100000 in
theorem kk_X11_looked {N : Nat} {K len : Nat → Nat} {σ : SG} {ρ : RG} (hL : Lay N K len ρ) : kp (F_X11_looked N K len σ ρ) (fun q => KC σ q.2) := by
  unfold F_X11_looked
  refine kp_bn (kk_X3_takes hL (by decide) (by decide)) (fun σ1_744 hσ1_744 => ?_)
  have kσ1_744 : KC σ σ1_744 := kc_trans (kc_refl _) hσ1_744
  exact kp_tr2_kc (kk_X11_looked_16 hL 1024 _ _) kσ1_744

set_option maxRecDepth 100000 in
theorem kk_X11_act {N : Nat} {K len : Nat → Nat} {a1 : Int32} {a2 : Int32} {a3 : Int32} {σ : SG} {ρ : RG} (hL : Lay N K len ρ) : kp (F_X11_act N K len a1 a2 a3 σ ρ) (fun q => KC σ q.2) := by
  unfold F_X11_act
  refine kp_nm (fun σ2_753 hσ2_753 => ?_)
  have kσ2_753 : KC σ σ2_753 := by rw [hσ2_753]; exact kc_trans (kc_refl _) (kc_lit (by decide))
  refine kp_bx (fun o3_754 => ?_)
  refine kp_oc ?_ (fun c4_755 => ?_)
  · exact kp_some kσ2_753
  · refine kp_gd (fun g_756 => ?_)
    refine kp_if ?_ ?_
    · refine kp_bn2 (kk_v_cuts hL g_756) (fun r6_757 σ6_758 hr6_757 => ?_)
      have kσ6_758 : KC σ σ6_758 := kc_trans kσ2_753 hr6_757
      exact kp_some kσ6_758
    · refine kp_if ?_ ?_
      · refine kp_bn2 (kk_v_eats hL g_756) (fun r7_759 σ7_760 hr7_759 => ?_)
        have kσ7_760 : KC σ σ7_760 := kc_trans kσ2_753 hr7_759
        exact kp_some kσ7_760
      · refine kp_if ?_ ?_
        · refine kp_bn2 (kk_v_tells hL g_756) (fun r8_761 σ8_762 hr8_761 => ?_)
          have kσ8_762 : KC σ σ8_762 := kc_trans kσ2_753 hr8_761
          exact kp_some kσ8_762
        · exact kp_some kσ2_753

set_option maxRecDepth 100000 in
theorem kk_X0_readSign {N : Nat} {K len : Nat → Nat} {a1 : Int32} {σ : SG} {ρ : RG} (hL : Lay N K len ρ) : kp (F_X0_readSign a1 σ ρ) (fun q => KC σ q.2) := by
  unfold F_X0_readSign
  refine kp_bx (fun r1_779 => ?_)
  refine kp_if ?_ ?_
  · refine kp_nm (fun x3_780 _ => ?_)
    refine kp_nm (fun σ5_781 hσ5_781 => ?_)
    have kσ5_781 : KC σ σ5_781 := by rw [hσ5_781]; exact kc_trans (kc_refl _) (kc_lit (by decide))
    exact kp_some kσ5_781
  · exact kp_some (kc_refl _)

set_option maxRecDepth 100000 in
theorem kk_X0_readWord_2 {N : Nat} {K len : Nat → Nat} {w : Nat} {ρ : RG} (hL : Lay N K len ρ) : ∀ (n : Nat) (σ : SG) (v2 : Int32), kp (F_X0_readWord_2 w n σ ρ v2) (fun q => KC σ q.2) := by
  intro n
  induction n with
  | zero => intro σ v2; exact kp_none
  | succ n ih =>
    intro σ v2
    unfold F_X0_readWord_2
    refine kp_bx (fun r1_775 => ?_)
    refine kp_if ?_ ?_
    · exact kp_some (kc_refl _)
    · refine kp_bx (fun r3_776 => ?_)
      refine kp_bn2 (kk_X0_readSign hL) (fun r4_777 σ4_778 hr4_777 => ?_)
      have kσ4_778 : KC σ σ4_778 := kc_trans (kc_refl _) hr4_777
      refine kp_if ?_ ?_
      · exact kp_some kσ4_778
      · refine kp_nm (fun x6_782 _ => ?_)
        exact kp_tr2_kc (ih _ _) kσ4_778

set_option maxRecDepth 100000 in
theorem kk_X0_readWord {N : Nat} {K len : Nat → Nat} {w : Nat} {σ : SG} {ρ : RG} (hL : Lay N K len ρ) : kp (F_X0_readWord w σ ρ) (fun q => KC σ q.2) := by
  unfold F_X0_readWord
  exact kp_tr2_kc (kk_X0_readWord_2 hL 1024 _ _) (kc_refl _)

set_option maxRecDepth 100000 in
theorem kk_X0_readNumber {N : Nat} {K len : Nat → Nat} {σ : SG} {ρ : RG} (hL : Lay N K len ρ) : kp (F_X0_readNumber σ ρ) (fun q => KC σ q.2) := by
  unfold F_X0_readNumber
  refine kp_bx (fun r1_785 => ?_)
  refine kp_bx (fun r2_786 => ?_)
  refine kp_if ?_ ?_
  · exact kp_some (kc_refl _)
  · refine kp_bx (fun r4_787 => ?_)
    refine kp_nm (fun x5_788 _ => ?_)
    refine kp_nm (fun σ7_789 hσ7_789 => ?_)
    have kσ7_789 : KC σ σ7_789 := by rw [hσ7_789]; exact kc_trans (kc_refl _) (kc_lit (by decide))
    refine kp_nm (fun x8_790 _ => ?_)
    refine kp_nm (fun σ10_791 hσ10_791 => ?_)
    have kσ10_791 : KC σ σ10_791 := by rw [hσ10_791]; exact kc_trans kσ7_789 (kc_lit (by decide))
    refine kp_if ?_ ?_
    · exact kp_some kσ10_791
    · refine kp_bx (fun r12_792 => ?_)
      refine kp_bx (fun r13_793 => ?_)
      refine kp_if ?_ ?_
      · exact kp_some kσ10_791
      · refine kp_nm (fun x15_794 _ => ?_)
        refine kp_bx (fun r16_795 => ?_)
        refine kp_nm (fun x17_796 _ => ?_)
        refine kp_nm (fun x18_797 _ => ?_)
        refine kp_nm (fun σ20_798 hσ20_798 => ?_)
        have kσ20_798 : KC σ σ20_798 := by rw [hσ20_798]; exact kc_trans kσ10_791 (kc_lit (by decide))
        refine kp_nm (fun x21_799 _ => ?_)
        refine kp_nm (fun σ23_800 hσ23_800 => ?_)
        have kσ23_800 : KC σ σ23_800 := by rw [hσ23_800]; exact kc_trans kσ20_798 (kc_lit (by decide))
        exact kp_some kσ23_800

set_option maxRecDepth 100000 in
theorem kk_X0_put {N : Nat} {K len : Nat → Nat} {a1 : Int32} {σ : SG} {ρ : RG} (hL : Lay N K len ρ) : kp (F_X0_put a1 σ ρ) (fun q => KC σ q.2) := by
  unfold F_X0_put
  refine kp_if ?_ ?_
  · exact kp_some (kc_refl _)
  · refine kp_if ?_ ?_
    · refine kp_gd (fun _ => ?_)
      refine kp_nm (fun σ5_824 hσ5_824 => ?_)
      have kσ5_824 : KC σ σ5_824 := by rw [hσ5_824]; exact kc_trans (kc_refl _) (kc_row (by decide))
      refine kp_nm (fun x6_825 _ => ?_)
      refine kp_nm (fun σ8_826 hσ8_826 => ?_)
      have kσ8_826 : KC σ σ8_826 := by rw [hσ8_826]; exact kc_trans kσ5_824 (kc_lit (by decide))
      exact kp_some kσ8_826
    · exact kp_some (kc_refl _)

set_option maxRecDepth 100000 in
theorem kk_X0_readBoth_B_12 {N : Nat} {K len : Nat → Nat} {R : Int32 → SG → RG → Option (Int32 × SG)} {a1 : Int32} {ρ : RG} (hL : Lay N K len ρ) (hR : ∀ (y0 : Int32) (σ : SG), kp (R y0 σ ρ) (fun q => KC σ q.2)) : ∀ (n : Nat) (σ : SG) (v1 : Int32) (v2 : Int32), kp (F_X0_readBoth_B_12 R a1 n σ ρ v1 v2) (fun q => KC σ q.2) := by
  intro n
  induction n with
  | zero => intro σ v1 v2; exact kp_none
  | succ n ih =>
    intro σ v1 v2
    unfold F_X0_readBoth_B_12
    refine kp_if ?_ ?_
    · exact kp_some (kc_refl _)
    · refine kp_bx (fun r4_834 => ?_)
      refine kp_if ?_ ?_
      · refine kp_nm (fun x6_835 _ => ?_)
        refine kp_nm (fun σ8_836 hσ8_836 => ?_)
        have kσ8_836 : KC σ σ8_836 := by rw [hσ8_836]; exact kc_trans (kc_refl _) (kc_lit (by decide))
        refine kp_bn2 (hR _ _) (fun r9_837 σ9_838 hr9_837 => ?_)
        have kσ9_838 : KC σ σ9_838 := kc_trans kσ8_836 hr9_837
        refine kp_if ?_ ?_
        · exact kp_some kσ9_838
        · refine kp_bn2 (kk_X0_put hL) (fun r11_839 σ11_840 hr11_839 => ?_)
          have kσ11_840 : KC σ σ11_840 := kc_trans kσ9_838 hr11_839
          refine kp_if ?_ ?_
          · exact kp_some kσ11_840
          · refine kp_nm (fun x13_841 _ => ?_)
            exact kp_tr2_kc (ih _ _ _) kσ11_840
      · exact kp_some (kc_refl _)

set_option maxRecDepth 100000 in
theorem kk_X0_readBoth_B {N : Nat} {K len : Nat → Nat} {R : Int32 → SG → RG → Option (Int32 × SG)} {a1 : Int32} {σ : SG} {ρ : RG} (hL : Lay N K len ρ) (hR : ∀ (y0 : Int32) (σ : SG), kp (R y0 σ ρ) (fun q => KC σ q.2)) : kp (F_X0_readBoth_B R a1 σ ρ) (fun q => KC σ q.2) := by
  unfold F_X0_readBoth_B
  refine kp_bn2 (hR _ _) (fun r1_832 σ1_833 hr1_832 => ?_)
  have kσ1_833 : KC σ σ1_833 := kc_trans (kc_refl _) hr1_832
  refine kp_if ?_ ?_
  · exact kp_some kσ1_833
  · exact kp_tr2_kc (kk_X0_readBoth_B_12 hL hR 1024 _ _ _) kσ1_833

set_option maxRecDepth 100000 in
theorem kk_X0_readEither_B_12 {N : Nat} {K len : Nat → Nat} {R : Int32 → SG → RG → Option (Int32 × SG)} {a1 : Int32} {ρ : RG} (hL : Lay N K len ρ) (hR : ∀ (y0 : Int32) (σ : SG), kp (R y0 σ ρ) (fun q => KC σ q.2)) : ∀ (n : Nat) (σ : SG) (v1 : Int32) (v2 : Int32), kp (F_X0_readEither_B_12 R a1 n σ ρ v1 v2) (fun q => KC σ q.2) := by
  intro n
  induction n with
  | zero => intro σ v1 v2; exact kp_none
  | succ n ih =>
    intro σ v1 v2
    unfold F_X0_readEither_B_12
    refine kp_if ?_ ?_
    · exact kp_some (kc_refl _)
    · refine kp_bx (fun r4_842 => ?_)
      refine kp_if ?_ ?_
      · refine kp_nm (fun x6_843 _ => ?_)
        refine kp_nm (fun σ8_844 hσ8_844 => ?_)
        have kσ8_844 : KC σ σ8_844 := by rw [hσ8_844]; exact kc_trans (kc_refl _) (kc_lit (by decide))
        refine kp_bn2 (kk_X0_readBoth_B hL hR) (fun r9_845 σ9_846 hr9_845 => ?_)
        have kσ9_846 : KC σ σ9_846 := kc_trans kσ8_844 hr9_845
        refine kp_if ?_ ?_
        · exact kp_some kσ9_846
        · refine kp_bn2 (kk_X0_put hL) (fun r11_847 σ11_848 hr11_847 => ?_)
          have kσ11_848 : KC σ σ11_848 := kc_trans kσ9_846 hr11_847
          refine kp_if ?_ ?_
          · exact kp_some kσ11_848
          · refine kp_nm (fun x13_849 _ => ?_)
            exact kp_tr2_kc (ih _ _ _) kσ11_848
      · exact kp_some (kc_refl _)

set_option maxRecDepth 100000 in
theorem kk_X0_readEither_B {N : Nat} {K len : Nat → Nat} {R : Int32 → SG → RG → Option (Int32 × SG)} {a1 : Int32} {σ : SG} {ρ : RG} (hL : Lay N K len ρ) (hR : ∀ (y0 : Int32) (σ : SG), kp (R y0 σ ρ) (fun q => KC σ q.2)) : kp (F_X0_readEither_B R a1 σ ρ) (fun q => KC σ q.2) := by
  unfold F_X0_readEither_B
  refine kp_bn2 (kk_X0_readBoth_B hL hR) (fun r1_830 σ1_831 hr1_830 => ?_)
  have kσ1_831 : KC σ σ1_831 := kc_trans (kc_refl _) hr1_830
  refine kp_if ?_ ?_
  · exact kp_some kσ1_831
  · exact kp_tr2_kc (kk_X0_readEither_B_12 hL hR 1024 _ _ _) kσ1_831

set_option maxRecDepth 100000 in
theorem kk_X0_readTest {N : Nat} {K len : Nat → Nat} {σ : SG} {ρ : RG} (hL : Lay N K len ρ) : kp (F_X0_readTest σ ρ) (fun q => KC σ q.2) := by
  unfold F_X0_readTest
  refine kp_bx (fun r1_866 => ?_)
  refine kp_nm (fun x2_867 _ => ?_)
  refine kp_bx (fun r3_868 => ?_)
  refine kp_if ?_ ?_
  · refine kp_nm (fun x5_869 _ => ?_)
    refine kp_nm (fun σ7_870 hσ7_870 => ?_)
    have kσ7_870 : KC σ σ7_870 := by rw [hσ7_870]; exact kc_trans (kc_refl _) (kc_lit (by decide))
    refine kp_bx (fun r8_871 => ?_)
    refine kp_nm (fun x9_872 _ => ?_)
    refine kp_bx (fun r10_873 => ?_)
    refine kp_if ?_ ?_
    · refine kp_nm (fun x12_874 _ => ?_)
      refine kp_nm (fun σ14_875 hσ14_875 => ?_)
      have kσ14_875 : KC σ σ14_875 := by rw [hσ14_875]; exact kc_trans kσ7_870 (kc_lit (by decide))
      refine kp_bn2 (kk_X0_readNumber hL) (fun r15_876 σ15_877 hr15_876 => ?_)
      have kσ15_877 : KC σ σ15_877 := kc_trans kσ14_875 hr15_876
      refine kp_if ?_ ?_
      · exact kp_some kσ15_877
      · refine kp_nm (fun x17_878 _ => ?_)
        refine kp_nm (fun x18_879 _ => ?_)
        refine kp_nm (fun x19_880 _ => ?_)
        refine kp_nm (fun x20_881 _ => ?_)
        refine kp_bn2 (kk_X0_put hL) (fun r21_882 σ21_883 hr21_882 => ?_)
        have kσ21_883 : KC σ σ21_883 := kc_trans kσ15_877 hr21_882
        refine kp_if ?_ ?_
        · exact kp_some kσ21_883
        · exact kp_some kσ21_883
    · exact kp_some kσ7_870
  · exact kp_some (kc_refl _)

set_option maxRecDepth 100000 in
theorem kk_X0_readFactor_B {N : Nat} {K len : Nat → Nat} {R : Int32 → SG → RG → Option (Int32 × SG)} {a1 : Int32} {σ : SG} {ρ : RG} (hL : Lay N K len ρ) (hR : ∀ (y0 : Int32) (σ : SG), kp (R y0 σ ρ) (fun q => KC σ q.2)) : kp (F_X0_readFactor_B R a1 σ ρ) (fun q => KC σ q.2) := by
  unfold F_X0_readFactor_B
  refine kp_bx (fun r1_816 => ?_)
  refine kp_if ?_ ?_
  · unfold F_X0_readFactor_B_22
    refine kp_if ?_ ?_
    · refine kp_nm (fun x4_817 _ => ?_)
      refine kp_nm (fun σ6_818 hσ6_818 => ?_)
      have kσ6_818 : KC σ σ6_818 := by rw [hσ6_818]; exact kc_trans (kc_refl _) (kc_lit (by decide))
      refine kp_if ?_ ?_
      · refine kp_nm (fun x13_819 _ => ?_)
        refine kp_bn2 (hR _ _) (fun r14_820 σ14_821 hr14_820 => ?_)
        have kσ14_821 : KC σ σ14_821 := kc_trans kσ6_818 hr14_820
        refine kp_if ?_ ?_
        · exact kp_some kσ14_821
        · refine kp_bn2 (kk_X0_put hL) (fun r16_822 σ16_823 hr16_822 => ?_)
          have kσ16_823 : KC σ σ16_823 := kc_trans kσ14_821 hr16_822
          refine kp_if ?_ ?_
          · exact kp_some kσ16_823
          · exact kp_some kσ16_823
      · refine kp_nm (fun x8_827 _ => ?_)
        refine kp_bn2 (kk_X0_readEither_B hL hR) (fun r9_828 σ9_829 hr9_828 => ?_)
        have kσ9_829 : KC σ σ9_829 := kc_trans kσ6_818 hr9_828
        refine kp_if ?_ ?_
        · exact kp_some kσ9_829
        · refine kp_bn2 (kk_X0_readSign hL) (fun r11_850 σ11_851 hr11_850 => ?_)
          have kσ11_851 : KC σ σ11_851 := kc_trans kσ9_829 hr11_850
          refine kp_if ?_ ?_
          · exact kp_some kσ11_851
          · exact kp_some kσ11_851
    · exact kp_some (kc_refl _)
  · refine kp_if ?_ ?_
    · unfold F_X0_readFactor_B_22
      refine kp_if ?_ ?_
      · refine kp_nm (fun x4_852 _ => ?_)
        refine kp_nm (fun σ6_853 hσ6_853 => ?_)
        have kσ6_853 : KC σ σ6_853 := by rw [hσ6_853]; exact kc_trans (kc_refl _) (kc_lit (by decide))
        refine kp_if ?_ ?_
        · refine kp_nm (fun x13_854 _ => ?_)
          refine kp_bn2 (hR _ _) (fun r14_855 σ14_856 hr14_855 => ?_)
          have kσ14_856 : KC σ σ14_856 := kc_trans kσ6_853 hr14_855
          refine kp_if ?_ ?_
          · exact kp_some kσ14_856
          · refine kp_bn2 (kk_X0_put hL) (fun r16_857 σ16_858 hr16_857 => ?_)
            have kσ16_858 : KC σ σ16_858 := kc_trans kσ14_856 hr16_857
            refine kp_if ?_ ?_
            · exact kp_some kσ16_858
            · exact kp_some kσ16_858
        · refine kp_nm (fun x8_859 _ => ?_)
          refine kp_bn2 (kk_X0_readEither_B hL hR) (fun r9_860 σ9_861 hr9_860 => ?_)
          have kσ9_861 : KC σ σ9_861 := kc_trans kσ6_853 hr9_860
          refine kp_if ?_ ?_
          · exact kp_some kσ9_861
          · refine kp_bn2 (kk_X0_readSign hL) (fun r11_862 σ11_863 hr11_862 => ?_)
            have kσ11_863 : KC σ σ11_863 := kc_trans kσ9_861 hr11_862
            refine kp_if ?_ ?_
            · exact kp_some kσ11_863
            · exact kp_some kσ11_863
      · exact kp_some (kc_refl _)
    · refine kp_bn2 (kk_X0_readTest hL) (fun r19_864 σ19_865 hr19_864 => ?_)
      have kσ19_865 : KC σ σ19_865 := kc_trans (kc_refl _) hr19_864
      refine kp_gd (fun _ => ?_)
      exact kp_some kσ19_865

theorem kk_X0_readFactor_R {N : Nat} {K len : Nat → Nat} {ρ : RG} (hL : Lay N K len ρ) : ∀ (d : Nat) (a1 : Int32) (σ : SG), kp (F_X0_readFactor_R d a1 σ ρ) (fun q => KC σ q.2) := by
  intro d
  induction d with
  | zero => intro a1 σ; exact kp_none
  | succ d ih =>
    intro a1 σ
    exact kk_X0_readFactor_B hL ih

theorem kk_X0_readFactor {N : Nat} {K len : Nat → Nat} {a1 : Int32} {σ : SG} {ρ : RG} (hL : Lay N K len ρ) : kp (F_X0_readFactor a1 σ ρ) (fun q => KC σ q.2) := kk_X0_readFactor_R hL _ _ _

set_option maxRecDepth 100000 in
theorem kk_X0_readBoth_12 {N : Nat} {K len : Nat → Nat} {a1 : Int32} {ρ : RG} (hL : Lay N K len ρ) : ∀ (n : Nat) (σ : SG) (v1 : Int32) (v2 : Int32), kp (F_X0_readBoth_12 a1 n σ ρ v1 v2) (fun q => KC σ q.2) := by
  intro n
  induction n with
  | zero => intro σ v1 v2; exact kp_none
  | succ n ih =>
    intro σ v1 v2
    unfold F_X0_readBoth_12
    refine kp_if ?_ ?_
    · exact kp_some (kc_refl _)
    · refine kp_bx (fun r4_884 => ?_)
      refine kp_if ?_ ?_
      · refine kp_nm (fun x6_885 _ => ?_)
        refine kp_nm (fun σ8_886 hσ8_886 => ?_)
        have kσ8_886 : KC σ σ8_886 := by rw [hσ8_886]; exact kc_trans (kc_refl _) (kc_lit (by decide))
        refine kp_bn2 (kk_X0_readFactor hL) (fun r9_887 σ9_888 hr9_887 => ?_)
        have kσ9_888 : KC σ σ9_888 := kc_trans kσ8_886 hr9_887
        refine kp_if ?_ ?_
        · exact kp_some kσ9_888
        · refine kp_bn2 (kk_X0_put hL) (fun r11_889 σ11_890 hr11_889 => ?_)
          have kσ11_890 : KC σ σ11_890 := kc_trans kσ9_888 hr11_889
          refine kp_if ?_ ?_
          · exact kp_some kσ11_890
          · refine kp_nm (fun x13_891 _ => ?_)
            exact kp_tr2_kc (ih _ _ _) kσ11_890
      · exact kp_some (kc_refl _)

set_option maxRecDepth 100000 in
theorem kk_X0_readBoth {N : Nat} {K len : Nat → Nat} {a1 : Int32} {σ : SG} {ρ : RG} (hL : Lay N K len ρ) : kp (F_X0_readBoth a1 σ ρ) (fun q => KC σ q.2) := by
  unfold F_X0_readBoth
  refine kp_bn2 (kk_X0_readFactor hL) (fun r1_814 σ1_815 hr1_814 => ?_)
  have kσ1_815 : KC σ σ1_815 := kc_trans (kc_refl _) hr1_814
  refine kp_if ?_ ?_
  · exact kp_some kσ1_815
  · exact kp_tr2_kc (kk_X0_readBoth_12 hL 1024 _ _ _) kσ1_815

set_option maxRecDepth 100000 in
theorem kk_X0_readEither_12 {N : Nat} {K len : Nat → Nat} {a1 : Int32} {ρ : RG} (hL : Lay N K len ρ) : ∀ (n : Nat) (σ : SG) (v1 : Int32) (v2 : Int32), kp (F_X0_readEither_12 a1 n σ ρ v1 v2) (fun q => KC σ q.2) := by
  intro n
  induction n with
  | zero => intro σ v1 v2; exact kp_none
  | succ n ih =>
    intro σ v1 v2
    unfold F_X0_readEither_12
    refine kp_if ?_ ?_
    · exact kp_some (kc_refl _)
    · refine kp_bx (fun r4_892 => ?_)
      refine kp_if ?_ ?_
      · refine kp_nm (fun x6_893 _ => ?_)
        refine kp_nm (fun σ8_894 hσ8_894 => ?_)
        have kσ8_894 : KC σ σ8_894 := by rw [hσ8_894]; exact kc_trans (kc_refl _) (kc_lit (by decide))
        refine kp_bn2 (kk_X0_readBoth hL) (fun r9_895 σ9_896 hr9_895 => ?_)
        have kσ9_896 : KC σ σ9_896 := kc_trans kσ8_894 hr9_895
        refine kp_if ?_ ?_
        · exact kp_some kσ9_896
        · refine kp_bn2 (kk_X0_put hL) (fun r11_897 σ11_898 hr11_897 => ?_)
          have kσ11_898 : KC σ σ11_898 := kc_trans kσ9_896 hr11_897
          refine kp_if ?_ ?_
          · exact kp_some kσ11_898
          · refine kp_nm (fun x13_899 _ => ?_)
            exact kp_tr2_kc (ih _ _ _) kσ11_898
      · exact kp_some (kc_refl _)

set_option maxRecDepth 100000 in
theorem kk_X0_readEither {N : Nat} {K len : Nat → Nat} {a1 : Int32} {σ : SG} {ρ : RG} (hL : Lay N K len ρ) : kp (F_X0_readEither a1 σ ρ) (fun q => KC σ q.2) := by
  unfold F_X0_readEither
  refine kp_bn2 (kk_X0_readBoth hL) (fun r1_812 σ1_813 hr1_812 => ?_)
  have kσ1_813 : KC σ σ1_813 := kc_trans (kc_refl _) hr1_812
  refine kp_if ?_ ?_
  · exact kp_some kσ1_813
  · exact kp_tr2_kc (kk_X0_readEither_12 hL 1024 _ _ _) kσ1_813

set_option maxRecDepth 100000 in
theorem kk_X0_readAdding {N : Nat} {K len : Nat → Nat} {a1 : Int32} {σ : SG} {ρ : RG} (hL : Lay N K len ρ) : kp (F_X0_readAdding a1 σ ρ) (fun q => KC σ q.2) := by
  unfold F_X0_readAdding
  refine kp_bn2 (kk_X0_readNumber hL) (fun r1_806 σ1_807 hr1_806 => ?_)
  have kσ1_807 : KC σ σ1_807 := kc_trans (kc_refl _) hr1_806
  refine kp_if ?_ ?_
  · exact kp_some kσ1_807
  · refine kp_bn2 (kk_X0_readSign hL) (fun r3_808 σ3_809 hr3_808 => ?_)
    have kσ3_809 : KC σ σ3_809 := kc_trans kσ1_807 hr3_808
    refine kp_if ?_ ?_
    · exact kp_some kσ3_809
    · refine kp_bn2 (kk_X0_readEither hL) (fun r5_810 σ5_811 hr5_810 => ?_)
      have kσ5_811 : KC σ σ5_811 := kc_trans kσ3_809 hr5_810
      refine kp_if ?_ ?_
      · exact kp_some kσ5_811
      · refine kp_if ?_ ?_
        · refine kp_gd (fun _ => ?_)
          refine kp_gd (fun _ => ?_)
          refine kp_nm (fun σ10_900 hσ10_900 => ?_)
          have kσ10_900 : KC σ σ10_900 := by rw [hσ10_900]; exact kc_trans kσ5_811 (kc_row (by decide))
          refine kp_gd (fun _ => ?_)
          refine kp_nm (fun σ13_901 hσ13_901 => ?_)
          have kσ13_901 : KC σ σ13_901 := by rw [hσ13_901]; exact kc_trans kσ10_900 (kc_row (by decide))
          refine kp_gd (fun _ => ?_)
          refine kp_nm (fun σ16_902 hσ16_902 => ?_)
          have kσ16_902 : KC σ σ16_902 := by rw [hσ16_902]; exact kc_trans kσ13_901 (kc_row (by decide))
          refine kp_nm (fun x17_903 _ => ?_)
          refine kp_nm (fun σ19_904 hσ19_904 => ?_)
          have kσ19_904 : KC σ σ19_904 := by rw [hσ19_904]; exact kc_trans kσ16_902 (kc_lit (by decide))
          exact kp_some kσ19_904
        · exact kp_some kσ5_811

set_option maxRecDepth 100000 in
theorem kk_X0_readClause {N : Nat} {K len : Nat → Nat} {σ : SG} {ρ : RG} (hL : Lay N K len ρ) : kp (F_X0_readClause σ ρ) (fun q => KC σ q.2) := by
  unfold F_X0_readClause
  refine kp_bx (fun r1_772 => ?_)
  refine kp_if ?_ ?_
  · refine kp_bn2 (kk_X0_readWord hL) (fun r3_773 σ3_774 hr3_773 => ?_)
    have kσ3_774 : KC σ σ3_774 := kc_trans (kc_refl _) hr3_773
    refine kp_if ?_ ?_
    · exact kp_some kσ3_774
    · refine kp_bn2 (kk_X0_readNumber hL) (fun r5_783 σ5_784 hr5_783 => ?_)
      have kσ5_784 : KC σ σ5_784 := kc_trans kσ3_774 hr5_783
      refine kp_if ?_ ?_
      · exact kp_some kσ5_784
      · refine kp_nm (fun σ8_801 hσ8_801 => ?_)
        have kσ8_801 : KC σ σ8_801 := by rw [hσ8_801]; exact kc_trans kσ5_784 (kc_lit (by decide))
        exact kp_some kσ8_801
  · refine kp_if ?_ ?_
    · refine kp_bn2 (kk_X0_readWord hL) (fun r9_802 σ9_803 hr9_802 => ?_)
      have kσ9_803 : KC σ σ9_803 := kc_trans (kc_refl _) hr9_802
      refine kp_if ?_ ?_
      · exact kp_some kσ9_803
      · refine kp_bn2 (kk_X0_readAdding hL) (fun r11_804 σ11_805 hr11_804 => ?_)
        have kσ11_805 : KC σ σ11_805 := kc_trans kσ9_803 hr11_804
        refine kp_if ?_ ?_
        · exact kp_some kσ11_805
        · exact kp_some kσ11_805
    · refine kp_if ?_ ?_
      · refine kp_bn2 (kk_X0_readWord hL) (fun r13_905 σ13_906 hr13_905 => ?_)
        have kσ13_906 : KC σ σ13_906 := kc_trans (kc_refl _) hr13_905
        refine kp_if ?_ ?_
        · exact kp_some kσ13_906
        · refine kp_bn2 (kk_X0_readAdding hL) (fun r15_907 σ15_908 hr15_907 => ?_)
          have kσ15_908 : KC σ σ15_908 := kc_trans kσ13_906 hr15_907
          refine kp_if ?_ ?_
          · exact kp_some kσ15_908
          · exact kp_some kσ15_908
      · refine kp_if ?_ ?_
        · refine kp_bn2 (kk_X0_readWord hL) (fun r17_909 σ17_910 hr17_909 => ?_)
          have kσ17_910 : KC σ σ17_910 := kc_trans (kc_refl _) hr17_909
          refine kp_if ?_ ?_
          · exact kp_some kσ17_910
          · refine kp_bn2 (kk_X0_readNumber hL) (fun r19_911 σ19_912 hr19_911 => ?_)
            have kσ19_912 : KC σ σ19_912 := kc_trans kσ17_910 hr19_911
            refine kp_if ?_ ?_
            · exact kp_some kσ19_912
            · refine kp_nm (fun σ22_913 hσ22_913 => ?_)
              have kσ22_913 : KC σ σ22_913 := by rw [hσ22_913]; exact kc_trans kσ19_912 (kc_lit (by decide))
              exact kp_some kσ22_913
        · exact kp_some (kc_refl _)

set_option maxRecDepth 100000 in
theorem kk_X0_readFrom_38 {N : Nat} {K len : Nat → Nat} {a2 : Int32} {ρ : RG} (hL : Lay N K len ρ) : ∀ (n : Nat) (σ : SG) (v3 : Int32), kp (F_X0_readFrom_38 a2 n σ ρ v3) (fun q => KC σ q.2.1) := by
  intro n
  induction n with
  | zero => intro σ v3; exact kp_none
  | succ n ih =>
    intro σ v3
    unfold F_X0_readFrom_38
    refine kp_if ?_ ?_
    · exact kp_some (kc_refl _)
    · refine kp_bn2 (kk_X0_readClause hL) (fun r16_770 σ16_771 hr16_770 => ?_)
      have kσ16_771 : KC σ σ16_771 := kc_trans (kc_refl _) hr16_770
      refine kp_if ?_ ?_
      · exact kp_some kσ16_771
      · refine kp_if ?_ ?_
        · exact kp_some kσ16_771
        · refine kp_nm (fun x19_914 _ => ?_)
          refine kp_if ?_ ?_
          · exact kp_some kσ16_771
          · refine kp_bn2 (kk_X0_readSign hL) (fun r21_915 σ21_916 hr21_915 => ?_)
            have kσ21_916 : KC σ σ21_916 := kc_trans kσ16_771 hr21_915
            refine kp_if ?_ ?_
            · exact kp_some kσ21_916
            · refine kp_nm (fun x23_917 _ => ?_)
              exact kp_tr3_kc (ih _ _) kσ21_916

set_option maxRecDepth 100000 in
theorem kk_X0_readFrom {N : Nat} {K len : Nat → Nat} {a2 : Int32} {σ : SG} {ρ : RG} (hL : Lay N K len ρ) : kp (F_X0_readFrom a2 σ ρ) (fun q => KC σ q.2.1) := by
  unfold F_X0_readFrom
  refine kp_nm (fun ρ2_763 hρ2_763 => ?_)
  have hL : Lay N K len ρ2_763 := by rw [hρ2_763]; exact ly_put hL _ (by decide)
  refine kp_nm (fun σ4_764 hσ4_764 => ?_)
  have kσ4_764 : KC σ σ4_764 := by rw [hσ4_764]; exact kc_trans (kc_refl _) (kc_lit (by decide))
  refine kp_nm (fun σ6_765 hσ6_765 => ?_)
  have kσ6_765 : KC σ σ6_765 := by rw [hσ6_765]; exact kc_trans kσ4_764 (kc_lit (by decide))
  refine kp_nm (fun σ8_766 hσ8_766 => ?_)
  have kσ8_766 : KC σ σ8_766 := by rw [hσ8_766]; exact kc_trans kσ6_765 (kc_lit (by decide))
  refine kp_nm (fun σ10_767 hσ10_767 => ?_)
  have kσ10_767 : KC σ σ10_767 := by rw [hσ10_767]; exact kc_trans kσ8_766 (kc_lit (by decide))
  refine kp_nm (fun σ12_768 hσ12_768 => ?_)
  have kσ12_768 : KC σ σ12_768 := by rw [hσ12_768]; exact kc_trans kσ10_767 (kc_lit (by decide))
  refine kp_nm (fun σ14_769 hσ14_769 => ?_)
  have kσ14_769 : KC σ σ14_769 := by rw [hσ14_769]; exact kc_trans kσ12_768 (kc_lit (by decide))
  exact kp_tr3_kc (kk_X0_readFrom_38 hL 1024 _ _) kσ14_769

set_option maxRecDepth 100000 in
theorem kk_X0_takes_5_29 {N : Nat} {K len : Nat → Nat} {σ : SG} {ρ : RG} (hL : Lay N K len ρ) : kp (F_X0_takes_5_29 σ ρ) (fun q => KC σ q) := by
  unfold F_X0_takes_5_29
  refine kp_nm (fun σ2_918 hσ2_918 => ?_)
  have kσ2_918 : KC σ σ2_918 := by rw [hσ2_918]; exact kc_trans (kc_refl _) (kc_lit (by decide))
  refine kp_nm (fun σ4_919 hσ4_919 => ?_)
  have kσ4_919 : KC σ σ4_919 := by rw [hσ4_919]; exact kc_trans kσ2_918 (kc_lit (by decide))
  refine kp_nm (fun σ6_920 hσ6_920 => ?_)
  have kσ6_920 : KC σ σ6_920 := by rw [hσ6_920]; exact kc_trans kσ4_919 (kc_lit (by decide))
  refine kp_nm (fun σ8_921 hσ8_921 => ?_)
  have kσ8_921 : KC σ σ8_921 := by rw [hσ8_921]; exact kc_trans kσ6_920 (kc_lit (by decide))
  refine kp_gd (fun _ => ?_)
  refine kp_nm (fun σ9_922 hσ9_922 => ?_)
  have kσ9_922 : KC σ σ9_922 := by rw [hσ9_922]; exact kc_trans kσ8_921 (kc_cpy (by decide))
  refine kp_nm (fun σ10_923 hσ10_923 => ?_)
  have kσ10_923 : KC σ σ10_923 := by rw [hσ10_923]; exact kc_trans kσ9_922 (kc_cpy (by decide))
  refine kp_nm (fun σ11_924 hσ11_924 => ?_)
  have kσ11_924 : KC σ σ11_924 := by rw [hσ11_924]; exact kc_trans kσ10_923 (kc_cpy (by decide))
  refine kp_nm (fun σ12_925 hσ12_925 => ?_)
  have kσ12_925 : KC σ σ12_925 := by rw [hσ12_925]; exact kc_trans kσ11_924 (kc_cpy (by decide))
  exact kp_some kσ12_925

set_option maxRecDepth 100000 in
theorem kk_X0_takes_18_5 {N : Nat} {K len : Nat → Nat} {σ : SG} {ρ : RG} (hL : Lay N K len ρ) : kp (F_X0_takes_18_5 σ ρ) (fun q => KC σ q) := by
  unfold F_X0_takes_18_5
  refine kp_nm (fun σ2_926 hσ2_926 => ?_)
  have kσ2_926 : KC σ σ2_926 := by rw [hσ2_926]; exact kc_trans (kc_refl _) (kc_lit (by decide))
  refine kp_nm (fun σ4_927 hσ4_927 => ?_)
  have kσ4_927 : KC σ σ4_927 := by rw [hσ4_927]; exact kc_trans kσ2_926 (kc_lit (by decide))
  refine kp_nm (fun σ6_928 hσ6_928 => ?_)
  have kσ6_928 : KC σ σ6_928 := by rw [hσ6_928]; exact kc_trans kσ4_927 (kc_lit (by decide))
  refine kp_nm (fun σ8_929 hσ8_929 => ?_)
  have kσ8_929 : KC σ σ8_929 := by rw [hσ8_929]; exact kc_trans kσ6_928 (kc_lit (by decide))
  refine kp_gd (fun _ => ?_)
  refine kp_nm (fun σ9_930 hσ9_930 => ?_)
  have kσ9_930 : KC σ σ9_930 := by rw [hσ9_930]; exact kc_trans kσ8_929 (kc_cpy (by decide))
  refine kp_nm (fun σ10_931 hσ10_931 => ?_)
  have kσ10_931 : KC σ σ10_931 := by rw [hσ10_931]; exact kc_trans kσ9_930 (kc_cpy (by decide))
  refine kp_nm (fun σ11_932 hσ11_932 => ?_)
  have kσ11_932 : KC σ σ11_932 := by rw [hσ11_932]; exact kc_trans kσ10_931 (kc_cpy (by decide))
  refine kp_nm (fun σ12_933 hσ12_933 => ?_)
  have kσ12_933 : KC σ σ12_933 := by rw [hσ12_933]; exact kc_trans kσ11_932 (kc_cpy (by decide))
  exact kp_some kσ12_933

set_option maxRecDepth 100000 in
theorem kk_X0_takes_5_18 {N : Nat} {K len : Nat → Nat} {σ : SG} {ρ : RG} (hL : Lay N K len ρ) : kp (F_X0_takes_5_18 σ ρ) (fun q => KC σ q) := by
  unfold F_X0_takes_5_18
  refine kp_nm (fun σ2_934 hσ2_934 => ?_)
  have kσ2_934 : KC σ σ2_934 := by rw [hσ2_934]; exact kc_trans (kc_refl _) (kc_lit (by decide))
  refine kp_nm (fun σ4_935 hσ4_935 => ?_)
  have kσ4_935 : KC σ σ4_935 := by rw [hσ4_935]; exact kc_trans kσ2_934 (kc_lit (by decide))
  refine kp_nm (fun σ6_936 hσ6_936 => ?_)
  have kσ6_936 : KC σ σ6_936 := by rw [hσ6_936]; exact kc_trans kσ4_935 (kc_lit (by decide))
  refine kp_nm (fun σ8_937 hσ8_937 => ?_)
  have kσ8_937 : KC σ σ8_937 := by rw [hσ8_937]; exact kc_trans kσ6_936 (kc_lit (by decide))
  refine kp_gd (fun _ => ?_)
  refine kp_nm (fun σ9_938 hσ9_938 => ?_)
  have kσ9_938 : KC σ σ9_938 := by rw [hσ9_938]; exact kc_trans kσ8_937 (kc_cpy (by decide))
  refine kp_nm (fun σ10_939 hσ10_939 => ?_)
  have kσ10_939 : KC σ σ10_939 := by rw [hσ10_939]; exact kc_trans kσ9_938 (kc_cpy (by decide))
  refine kp_nm (fun σ11_940 hσ11_940 => ?_)
  have kσ11_940 : KC σ σ11_940 := by rw [hσ11_940]; exact kc_trans kσ10_939 (kc_cpy (by decide))
  refine kp_nm (fun σ12_941 hσ12_941 => ?_)
  have kσ12_941 : KC σ σ12_941 := by rw [hσ12_941]; exact kc_trans kσ11_940 (kc_cpy (by decide))
  exact kp_some kσ12_941

theorem kk_X11_board {m : Int} {N : Nat} {K len : Nat → Nat} {σ : SG} {ρ : RG} (hB : BX m σ) (hQ : PR N K len ρ) : kp (F_X11_board σ ρ) (fun q => KC σ q.2.1) := by
  unfold F_X11_board
  refine kp_if (kp_bn3 (Q := fun q => PR N K len q.2.2 ∧ KC σ q.2.1) (fun q e => ⟨?_, kk_X0_readFrom hQ.1 q e⟩) (fun r2 σ2 ρ2 q2 => kp_nm (fun σ4 e4 => ?_))) (kp_some (kc_refl _))
  · obtain ⟨a, e', p⟩ := s_X0_readFrom (a2 := σ 1 6) hB hQ
    rw [e'] at e
    cases e
    exact p.2
  · have k4 : KC σ σ4 := kc_trans q2.2 (by rw [e4]; exact kc_lit (by decide))
    refine kp_if (kp_nm (fun x _ => kp_some k4)) (kp_bn (kk_X0_takes_5_29 q2.1.1) (fun σ6 k6 => kp_nm (fun x7 _ => kp_nm (fun σ9 e9 => kp_nm (fun x10 _ => kp_some ?_)))))
    exact kc_trans (kc_trans k4 k6) (by rw [e9]; exact kc_lit (by decide))
