/-! PART 72.kc: printed by wip/gen/kp26.py -/
/-! frames: what holds of every answer -/
def kp {α : Type} (o : Option α) (P : α → Prop) : Prop := ∀ a, o = some a → P a
theorem kp_none {α : Type} {P : α → Prop} : kp (none : Option α) P := fun _ h => by cases h
theorem kp_some {α : Type} {a : α} {P : α → Prop} (h : P a) : kp (some a) P := fun _ e => by cases e; exact h
theorem kp_nm {α β : Type} {v : α} {f : α → Option β} {P : β → Prop} (h : ∀ x, x = v → kp (f x) P) : kp (nm v f) P := h v rfl
theorem kp_gd {α : Type} {b : Bool} {x : Option α} {P : α → Prop} (h : b = true → kp x P) : kp (gd b x) P := by
  cases b with
  | false => exact fun _ e => by cases e
  | true => exact h rfl
theorem kp_bn {α β : Type} {o : Option α} {f : α → Option β} {Q : α → Prop} {P : β → Prop} (ho : kp o Q) (h : ∀ a, Q a → kp (f a) P) : kp (bn o f) P := by
  cases o with
  | none => exact fun _ e => by cases e
  | some a => exact h a (ho a rfl)
theorem kp_bn2 {α β γ : Type} {o : Option (α × β)} {f : α → β → Option γ} {Q : α × β → Prop} {P : γ → Prop} (ho : kp o Q) (h : ∀ a b, Q (a, b) → kp (f a b) P) : kp (bn2 o f) P := by
  cases o with
  | none => exact fun _ e => by cases e
  | some a => exact h a.1 a.2 (ho a rfl)
theorem kp_bn3 {α β γ δ : Type} {o : Option (α × β × γ)} {f : α → β → γ → Option δ} {Q : α × β × γ → Prop} {P : δ → Prop} (ho : kp o Q) (h : ∀ a b c, Q (a, b, c) → kp (f a b c) P) : kp (bn3 o f) P := by
  cases o with
  | none => exact fun _ e => by cases e
  | some a => exact h a.1 a.2.1 a.2.2 (ho a rfl)
theorem kp_bx {α β : Type} {o : Option α} {f : α → Option β} {P : β → Prop} (h : ∀ a, kp (f a) P) : kp (bn o f) P := kp_bn (Q := fun _ => True) (fun _ _ => trivial) (fun a _ => h a)
theorem kp_bx2 {α β γ : Type} {o : Option (α × β)} {f : α → β → Option γ} {P : γ → Prop} (h : ∀ a b, kp (f a b) P) : kp (bn2 o f) P := kp_bn2 (Q := fun _ => True) (fun _ _ => trivial) (fun a b _ => h a b)
theorem kp_if {α : Type} {c : Prop} [Decidable c] {x y : Option α} {P : α → Prop} (h1 : kp x P) (h2 : kp y P) : kp (if c then x else y) P := by
  by_cases h : c
  · rw [if_pos h]; exact h1
  · rw [if_neg h]; exact h2
theorem kp_oc {β : Type} {x : Option Nat} {a : Option β} {f : Nat → Option β} {P : β → Prop} (h1 : kp a P) (h2 : ∀ c, kp (f c) P) : kp (oc x a f) P := by
  cases x with
  | none => exact h1
  | some c => exact h2 c
theorem kp_oce {β : Type} {x : Option Nat} {a : Option β} {f : Nat → Option β} {P : β → Prop} (h1 : kp a P) (h2 : ∀ c, x = some c → kp (f c) P) : kp (oc x a f) P := by
  cases x with
  | none => exact h1
  | some c => exact h2 c rfl
def isLx (i : Nat) : Bool := isLb i && !(i == 3) && !(i == 16)
theorem isLx_b {i : Nat} (h : isLx i = true) : isLb i = true := by
  unfold isLx at h
  simp only [Bool.and_eq_true] at h
  exact h.1.1
theorem lx_34 {N : Nat} {K len : Nat → Nat} {ρ : RG} (hL : Lay N K len ρ) {x : Int32} {c : Nat} (hx : inb x 7 = true) (h : ρ 34 x.toNatClampNeg = some c) : isLx c = true := by
  obtain ⟨a, b⟩ := of_decide_eq_true hx
  have hj : x.toNatClampNeg < 7 := by show x.toInt.toNat < 7; omega
  generalize x.toNatClampNeg = j at h hj
  have e : ρ 34 j = some (40 + 2 * j) := ly_f hL 34 j (40 + 2 * j) (by
    have : ∀ j, j < 7 → (34, j, 40 + 2 * j) ∈ refsL := by decide
    exact this j hj)
  rw [e] at h
  cases h
  have : ∀ j, j < 7 → isLx (40 + 2 * j) = true := by decide
  exact this j hj
theorem kp_mono {α : Type} {o : Option α} {P Q : α → Prop} (h : kp o P) (hpq : ∀ a, P a → Q a) : kp o Q := fun a e => hpq a (h a e)
theorem ok_kp {α : Type} {o : Option α} {P Q : α → Prop} (h : ok o P) (k : kp o Q) : ok o (fun q => P q ∧ Q q) := by
  obtain ⟨a, e, p⟩ := h
  exact ⟨a, e, p, k a e⟩
/-- the cells of the class that only few calls write; and all of the reference -/
def kcP (r k : Nat) : Bool := ((r == 1 || r == 14) && (k == 1 || k == 10 || k == 13)) || ((r == 3 || r == 16) && k == 0) || (r == 0 && k == 2) || (Nat.ble 54 r && (Nat.blt r 65 || !(k == 5)))
def kcR (r : Nat) : Bool := r == 0 || r == 1 || r == 14 || r == 3 || r == 16 || Nat.ble 54 r
def KC (σ σ' : SG) : Prop := ∀ r k, kcP r k = true → σ' r k = σ r k
theorem kc_refl (σ : SG) : KC σ σ := fun _ _ _ => rfl
theorem kc_trans {σ σ1 σ2 : SG} (h : KC σ σ1) (h' : KC σ1 σ2) : KC σ σ2 := fun r k p => (h' r k p).trans (h r k p)
theorem kc_lit {σ : SG} {r k : Nat} {v : Int32} (h : kcP r k = false) : KC σ (s2 σ r k v) := fun a b p => by
  rw [s2_at]
  by_cases e : a = r
  · by_cases e' : b = k
    · rw [e, e', h] at p; cases p
    · rw [if_pos e, if_neg e', e]
  · rw [if_neg e]
theorem kc_rows {r k : Nat} (h : kcR r = false) : kcP r k = false := by
  cases e : kcP r k with
  | false => rfl
  | true =>
    exfalso
    simp only [kcP, kcR, Bool.or_eq_true, Bool.and_eq_true, Bool.or_eq_false_iff, beq_iff_eq, beq_eq_false_iff_ne] at e h
    obtain ⟨⟨⟨⟨⟨h1, h2⟩, h3⟩, h4⟩, h5⟩, h6⟩ := h
    rcases e with ((⟨e, -⟩ | ⟨e, -⟩) | ⟨e, -⟩) | ⟨e, -⟩
    · rcases e with e | e
      · exact h2 e
      · exact h3 e
    · rcases e with e | e
      · exact h4 e
      · exact h5 e
    · exact h1 e
    · rw [e] at h6; cases h6
theorem kc_row {σ : SG} {r k : Nat} {v : Int32} (h : kcR r = false) : KC σ (s2 σ r k v) := kc_lit (kc_rows h)
theorem kc_cpy {σ : SG} {a r n : Nat} (h : kcR r = false) : KC σ (cpy σ a r n) := fun x b p => by
  rw [cpy_at]
  by_cases e : x = r
  · rw [e, kc_rows h] at p; cases p
  · rw [if_neg e]
theorem kp_tr_kc {o : Option SG} {σ σ1 : SG} (h : kp o (fun q => KC σ1 q)) (k : KC σ σ1) : kp o (fun q => KC σ q) := kp_mono h (fun _ z => kc_trans k z)
theorem kp_tr2_kc {α : Type} {o : Option (α × SG)} {σ σ1 : SG} (h : kp o (fun q => KC σ1 q.2)) (k : KC σ σ1) : kp o (fun q => KC σ q.2) := kp_mono h (fun _ z => kc_trans k z)
theorem kp_tr3_kc {α β : Type} {o : Option (α × SG × β)} {σ σ1 : SG} (h : kp o (fun q => KC σ1 q.2.1)) (k : KC σ σ1) : kp o (fun q => KC σ q.2.1) := kp_mono h (fun _ z => kc_trans k z)
theorem kc_c5 {N : Nat} {K len : Nat → Nat} {ρ : RG} {σ : SG} {c : Nat} {v : Int32} (hL : Lay N K len ρ) (h : isC N K c = true) : KC σ (s2 σ c 5 v) := kc_lit (by
  have q := ck_65 hL h
  have e : Nat.blt c 65 = false := by
    cases e : Nat.blt c 65 with
    | false => rfl
    | true => have := Nat.blt_eq.mp e; omega
  unfold kcP
  simp only [e, Bool.or_eq_false_iff, Bool.and_eq_false_iff, beq_eq_false_iff_ne]
  refine ⟨⟨⟨Or.inl ⟨by omega, by omega⟩, Or.inl ⟨by omega, by omega⟩⟩, Or.inl (by omega)⟩, Or.inr (by simp)⟩)
theorem isLb_lt {i : Nat} (h : isLb i = true) : i < 65 := by
  unfold isLb at h
  simp only [Bool.or_eq_true, beq_iff_eq] at h
  omega
theorem kc_lbk {i k : Nat} (h : isLb i = true) (hk : (k == 0) = false) : kcP i k = false := by
  have hd : ∀ i : Fin 65, isLb i = true → ((i.val == 1 || i.val == 14) = false ∧ (i.val == 0) = false ∧ Nat.ble 54 i.val = false) := by decide
  obtain ⟨a, b, c⟩ := hd ⟨i, isLb_lt h⟩ h
  have a' : (i == 1 || i == 14) = false := a
  have b' : (i == 0) = false := b
  have c' : Nat.ble 54 i = false := c
  unfold kcP
  rw [a', b', c', hk]
  simp
theorem kc_lb {σ : SG} {i k : Nat} {v : Int32} (h : isLb i = true) (hk : (k == 0) = false) : KC σ (s2 σ i k v) := kc_lit (kc_lbk h hk)
theorem kc_lx {σ : SG} {i k : Nat} {v : Int32} (h : isLx i = true) : KC σ (s2 σ i k v) := by
  have hd : ∀ i : Fin 65, isLx i = true → kcR i = false := by decide
  exact kc_row (hd ⟨i, isLb_lt (isLx_b h)⟩ h)
theorem kc_lb1 {σ : SG} {i k : Nat} {v : Int32} (h : isLb i = true) : KC σ (s2 σ (i + 1) k v) := by
  have hd : ∀ i : Fin 65, isLb i = true → kcR (i + 1) = false := by decide
  exact kc_row (hd ⟨i, isLb_lt h⟩ h)
set_option maxRecDepth 100000 in
theorem kk_X4_prepare {N : Nat} {K len : Nat → Nat} {z : Nat} {i : Nat} {σ : SG} {ρ : RG} (hL : Lay N K len ρ) (f_z : isC N K z = true) (f_i : isLb i = true) : kp (F_X4_prepare N K len z i σ ρ) (fun q => KC σ q) := by
  unfold F_X4_prepare
  refine kp_nm (fun x1_1 _ => ?_)
  refine kp_nm (fun σ3_2 hσ3_2 => ?_)
  have kσ3_2 : KC σ σ3_2 := by rw [hσ3_2]; exact kc_trans (kc_refl _) (kc_lb f_i (by decide))
  exact kp_some kσ3_2

set_option maxRecDepth 100000 in
theorem kk_X3_straighten {N : Nat} {K len : Nat → Nat} {i : Nat} {σ : SG} {ρ : RG} (hL : Lay N K len ρ) (f_i : isLb i = true) : kp (F_X3_straighten i σ ρ) (fun q => KC σ q.2) := by
  unfold F_X3_straighten
  refine kp_bx (fun r1_5 => ?_)
  refine kp_nm (fun x2_6 _ => ?_)
  refine kp_nm (fun σ4_7 hσ4_7 => ?_)
  have kσ4_7 : KC σ σ4_7 := by rw [hσ4_7]; exact kc_trans (kc_refl _) (kc_lb f_i (by decide))
  refine kp_nm (fun σ6_8 hσ6_8 => ?_)
  have kσ6_8 : KC σ σ6_8 := by rw [hσ6_8]; exact kc_trans kσ4_7 (kc_lb f_i (by decide))
  refine kp_nm (fun σ8_9 hσ8_9 => ?_)
  have kσ8_9 : KC σ σ8_9 := by rw [hσ8_9]; exact kc_trans kσ6_8 (kc_lb f_i (by decide))
  refine kp_nm (fun x9_10 _ => ?_)
  refine kp_nm (fun x10_11 _ => ?_)
  refine kp_nm (fun σ12_12 hσ12_12 => ?_)
  have kσ12_12 : KC σ σ12_12 := by rw [hσ12_12]; exact kc_trans kσ8_9 (kc_lb f_i (by decide))
  refine kp_nm (fun x13_13 _ => ?_)
  exact kp_some kσ12_12

set_option maxRecDepth 100000 in
theorem kk_X5_prepare {N : Nat} {K len : Nat → Nat} {z : Nat} {i : Nat} {σ : SG} {ρ : RG} (hL : Lay N K len ρ) (f_z : isC N K z = true) (f_i : isLb i = true) : kp (F_X5_prepare N K len z i σ ρ) (fun q => KC σ q) := by
  unfold F_X5_prepare
  refine kp_bn2 (kk_X3_straighten hL f_i) (fun r1_3 σ1_4 hr1_3 => ?_)
  have kσ1_4 : KC σ σ1_4 := kc_trans (kc_refl _) hr1_3
  exact kp_some kσ1_4

theorem kk_v_prepare {N : Nat} {K len : Nat → Nat} {z i : Nat} {σ : SG} {ρ : RG} (hL : Lay N K len ρ) (f_z : isC N K z = true) (f_i : isLb i = true) : kp (F_v_prepare N K len z i σ ρ) (fun q => KC σ q) := by
  unfold F_v_prepare
  refine kp_if (kp_bx (fun _ => kp_some (kc_refl _))) ?_
  refine kp_if (kp_bx (fun _ => kp_some (kc_refl _))) ?_
  refine kp_if (kk_X4_prepare hL f_z f_i) ?_
  refine kp_if (kk_X5_prepare hL f_z f_i) ?_
  refine kp_if (kp_bx (fun _ => kp_some (kc_refl _))) ?_
  refine kp_if (kp_bx (fun _ => kp_some (kc_refl _))) ?_
  refine kp_if (kp_bx (fun _ => kp_some (kc_refl _))) ?_
  exact kp_none

set_option maxRecDepth 100000 in
theorem kk_X10_began {N : Nat} {K len : Nat → Nat} {a1 : Int32} {σ : SG} {ρ : RG} (hL : Lay N K len ρ) : kp (F_X10_began a1 σ ρ) (fun q => KC σ q) := by
  unfold F_X10_began
  refine kp_if ?_ ?_
  · unfold F_X10_began_29
    refine kp_nm (fun x2_15 _ => ?_)
    refine kp_nm (fun σ4_16 hσ4_16 => ?_)
    have kσ4_16 : KC σ σ4_16 := by rw [hσ4_16]; exact kc_trans (kc_refl _) (kc_lit (by decide))
    exact kp_some kσ4_16
  · refine kp_if ?_ ?_
    · unfold F_X10_began_29
      refine kp_nm (fun x2_17 _ => ?_)
      refine kp_nm (fun σ4_18 hσ4_18 => ?_)
      have kσ4_18 : KC σ σ4_18 := by rw [hσ4_18]; exact kc_trans (kc_refl _) (kc_lit (by decide))
      exact kp_some kσ4_18
    · refine kp_gd (fun _ => ?_)
      refine kp_nm (fun σ8_19 hσ8_19 => ?_)
      have kσ8_19 : KC σ σ8_19 := by rw [hσ8_19]; exact kc_trans (kc_refl _) (kc_row (by decide))
      unfold F_X10_began_29
      refine kp_nm (fun x2_20 _ => ?_)
      refine kp_nm (fun σ4_21 hσ4_21 => ?_)
      have kσ4_21 : KC σ σ4_21 := by rw [hσ4_21]; exact kc_trans kσ8_19 (kc_lit (by decide))
      exact kp_some kσ4_21

set_option maxRecDepth 100000 in
theorem kk_X1_cuts {N : Nat} {K len : Nat → Nat} {z : Nat} {a1 : Int32} {σ : SG} {ρ : RG} (hL : Lay N K len ρ) (f_z : isC N K z = true) : kp (F_X1_cuts N K len z a1 σ ρ) (fun q => KC σ q.2) := by
  unfold F_X1_cuts
  refine kp_bn (kk_X10_began hL) (fun σ1_25 hσ1_25 => ?_)
  have kσ1_25 : KC σ σ1_25 := kc_trans (kc_refl _) hσ1_25
  refine kp_nm (fun x2_26 _ => ?_)
  exact kp_some kσ1_25

set_option maxRecDepth 100000 in
theorem kk_X7_cuts {N : Nat} {K len : Nat → Nat} {z : Nat} {a1 : Int32} {σ : SG} {ρ : RG} (hL : Lay N K len ρ) (f_z : isC N K z = true) : kp (F_X7_cuts N K len z a1 σ ρ) (fun q => KC σ q.2) := by
  unfold F_X7_cuts
  refine kp_bn (kk_X10_began hL) (fun σ1_14 hσ1_14 => ?_)
  have kσ1_14 : KC σ σ1_14 := kc_trans (kc_refl _) hσ1_14
  refine kp_nm (fun x2_22 _ => ?_)
  refine kp_bn2 (kk_X1_cuts hL f_z) (fun r3_23 σ3_24 hr3_23 => ?_)
  have kσ3_24 : KC σ σ3_24 := kc_trans kσ1_14 hr3_23
  exact kp_some kσ3_24

set_option maxRecDepth 100000 in
theorem kk_X4_cuts {N : Nat} {K len : Nat → Nat} {z : Nat} {a1 : Int32} {σ : SG} {ρ : RG} (hL : Lay N K len ρ) (f_z : isC N K z = true) : kp (F_X4_cuts N K len z a1 σ ρ) (fun q => KC σ q.2) := by
  unfold F_X4_cuts
  refine kp_bn (kk_X10_began hL) (fun σ1_27 hσ1_27 => ?_)
  have kσ1_27 : KC σ σ1_27 := kc_trans (kc_refl _) hσ1_27
  refine kp_bn2 (kk_X1_cuts hL f_z) (fun r2_28 σ2_29 hr2_28 => ?_)
  have kσ2_29 : KC σ σ2_29 := kc_trans kσ1_27 hr2_28
  refine kp_nm (fun x3_30 _ => ?_)
  exact kp_some kσ2_29

theorem kk_v_cuts {N : Nat} {K len : Nat → Nat} {z : Nat} {a1 : Int32} {σ : SG} {ρ : RG} (hL : Lay N K len ρ) (f_z : isC N K z = true) : kp (F_v_cuts N K len z a1 σ ρ) (fun q => KC σ q.2) := by
  unfold F_v_cuts
  refine kp_if (kk_X1_cuts hL f_z) ?_
  refine kp_if (kk_X1_cuts hL f_z) ?_
  refine kp_if (kk_X4_cuts hL f_z) ?_
  refine kp_if (kk_X7_cuts hL f_z) ?_
  refine kp_if (kk_X1_cuts hL f_z) ?_
  refine kp_if (kk_X7_cuts hL f_z) ?_
  refine kp_if (kk_X1_cuts hL f_z) ?_
  exact kp_none

set_option maxRecDepth 100000 in
theorem kk_X1_eats {N : Nat} {K len : Nat → Nat} {z : Nat} {a1 : Int32} {σ : SG} {ρ : RG} (hL : Lay N K len ρ) (f_z : isC N K z = true) : kp (F_X1_eats N K len z a1 σ ρ) (fun q => KC σ q.2) := by
  unfold F_X1_eats
  refine kp_bn (kk_X10_began hL) (fun σ1_31 hσ1_31 => ?_)
  have kσ1_31 : KC σ σ1_31 := kc_trans (kc_refl _) hσ1_31
  refine kp_bn2 (kk_v_cuts hL f_z) (fun r2_32 σ2_33 hr2_32 => ?_)
  have kσ2_33 : KC σ σ2_33 := kc_trans kσ1_31 hr2_32
  refine kp_nm (fun x3_34 _ => ?_)
  exact kp_some kσ2_33

set_option maxRecDepth 100000 in
theorem kk_X9_eats {N : Nat} {K len : Nat → Nat} {z : Nat} {a1 : Int32} {σ : SG} {ρ : RG} (hL : Lay N K len ρ) (f_z : isC N K z = true) : kp (F_X9_eats N K len z a1 σ ρ) (fun q => KC σ q.2) := by
  unfold F_X9_eats
  refine kp_bn (kk_X10_began hL) (fun σ1_35 hσ1_35 => ?_)
  have kσ1_35 : KC σ σ1_35 := kc_trans (kc_refl _) hσ1_35
  refine kp_bn2 (kk_X1_eats hL f_z) (fun r2_36 σ2_37 hr2_36 => ?_)
  have kσ2_37 : KC σ σ2_37 := kc_trans kσ1_35 hr2_36
  refine kp_nm (fun x3_38 _ => ?_)
  exact kp_some kσ2_37

set_option maxRecDepth 100000 in
theorem kk_X6_eats {N : Nat} {K len : Nat → Nat} {z : Nat} {a1 : Int32} {σ : SG} {ρ : RG} (hL : Lay N K len ρ) (f_z : isC N K z = true) : kp (F_X6_eats N K len z a1 σ ρ) (fun q => KC σ q.2) := by
  unfold F_X6_eats
  refine kp_bn (kk_X10_began hL) (fun σ1_39 hσ1_39 => ?_)
  have kσ1_39 : KC σ σ1_39 := kc_trans (kc_refl _) hσ1_39
  refine kp_bn2 (kk_X1_eats hL f_z) (fun r2_40 σ2_41 hr2_40 => ?_)
  have kσ2_41 : KC σ σ2_41 := kc_trans kσ1_39 hr2_40
  refine kp_nm (fun x3_42 _ => ?_)
  exact kp_some kσ2_41

theorem kk_v_eats {N : Nat} {K len : Nat → Nat} {z : Nat} {a1 : Int32} {σ : SG} {ρ : RG} (hL : Lay N K len ρ) (f_z : isC N K z = true) : kp (F_v_eats N K len z a1 σ ρ) (fun q => KC σ q.2) := by
  unfold F_v_eats
  refine kp_if (kk_X1_eats hL f_z) ?_
  refine kp_if (kk_X1_eats hL f_z) ?_
  refine kp_if (kk_X6_eats hL f_z) ?_
  refine kp_if (kk_X1_eats hL f_z) ?_
  refine kp_if (kk_X6_eats hL f_z) ?_
  refine kp_if (kk_X1_eats hL f_z) ?_
  refine kp_if (kk_X9_eats hL f_z) ?_
  exact kp_none

set_option maxRecDepth 100000 in
theorem kk_X1_tells {N : Nat} {K len : Nat → Nat} {z : Nat} {a1 : Int32} {σ : SG} {ρ : RG} (hL : Lay N K len ρ) (f_z : isC N K z = true) : kp (F_X1_tells N K len z a1 σ ρ) (fun q => KC σ q.2) := by
  unfold F_X1_tells
  refine kp_bn (kk_X10_began hL) (fun σ1_47 hσ1_47 => ?_)
  have kσ1_47 : KC σ σ1_47 := kc_trans (kc_refl _) hσ1_47
  refine kp_bn2 (kk_v_eats hL f_z) (fun r2_48 σ2_49 hr2_48 => ?_)
  have kσ2_49 : KC σ σ2_49 := kc_trans kσ1_47 hr2_48
  refine kp_nm (fun x3_50 _ => ?_)
  exact kp_some kσ2_49

set_option maxRecDepth 100000 in
theorem kk_X5_tells {N : Nat} {K len : Nat → Nat} {z : Nat} {a1 : Int32} {σ : SG} {ρ : RG} (hL : Lay N K len ρ) (f_z : isC N K z = true) : kp (F_X5_tells N K len z a1 σ ρ) (fun q => KC σ q.2) := by
  unfold F_X5_tells
  refine kp_bn (kk_X10_began hL) (fun σ1_43 hσ1_43 => ?_)
  have kσ1_43 : KC σ σ1_43 := kc_trans (kc_refl _) hσ1_43
  refine kp_nm (fun x2_44 _ => ?_)
  refine kp_bn2 (kk_X1_tells hL f_z) (fun r3_45 σ3_46 hr3_45 => ?_)
  have kσ3_46 : KC σ σ3_46 := kc_trans kσ1_43 hr3_45
  refine kp_gd (fun _ => ?_)
  refine kp_bn2 (kk_X7_cuts hL f_z) (fun r5_51 σ5_52 hr5_51 => ?_)
  have kσ5_52 : KC σ σ5_52 := kc_trans kσ3_46 hr5_51
  refine kp_nm (fun x6_53 _ => ?_)
  exact kp_some kσ5_52

set_option maxRecDepth 100000 in
theorem kk_X2_tells {N : Nat} {K len : Nat → Nat} {z : Nat} {a1 : Int32} {σ : SG} {ρ : RG} (hL : Lay N K len ρ) (f_z : isC N K z = true) : kp (F_X2_tells N K len z a1 σ ρ) (fun q => KC σ q.2) := by
  unfold F_X2_tells
  refine kp_bn (kk_X10_began hL) (fun σ1_54 hσ1_54 => ?_)
  have kσ1_54 : KC σ σ1_54 := kc_trans (kc_refl _) hσ1_54
  refine kp_bn2 (kk_X1_tells hL f_z) (fun r2_55 σ2_56 hr2_55 => ?_)
  have kσ2_56 : KC σ σ2_56 := kc_trans kσ1_54 hr2_55
  refine kp_nm (fun x3_57 _ => ?_)
  exact kp_some kσ2_56

theorem kk_v_tells {N : Nat} {K len : Nat → Nat} {z : Nat} {a1 : Int32} {σ : SG} {ρ : RG} (hL : Lay N K len ρ) (f_z : isC N K z = true) : kp (F_v_tells N K len z a1 σ ρ) (fun q => KC σ q.2) := by
  unfold F_v_tells
  refine kp_if (kk_X1_tells hL f_z) ?_
  refine kp_if (kk_X2_tells hL f_z) ?_
  refine kp_if (kk_X1_tells hL f_z) ?_
  refine kp_if (kk_X5_tells hL f_z) ?_
  refine kp_if (kk_X1_tells hL f_z) ?_
  refine kp_if (kk_X1_tells hL f_z) ?_
  refine kp_if (kk_X2_tells hL f_z) ?_
  exact kp_none

set_option maxRecDepth 100000 in
theorem kk_X11_feed {N : Nat} {K len : Nat → Nat} {a1 : Int32} {σ : SG} {ρ : RG} (hL : Lay N K len ρ) : kp (F_X11_feed a1 σ ρ) (fun q => KC σ q.2) := by
  unfold F_X11_feed
  refine kp_bx (fun r1_58 => ?_)
  refine kp_if ?_ ?_
  · exact kp_some (kc_refl _)
  · refine kp_if ?_ ?_
    · refine kp_gd (fun _ => ?_)
      refine kp_nm (fun σ6_59 hσ6_59 => ?_)
      have kσ6_59 : KC σ σ6_59 := by rw [hσ6_59]; exact kc_trans (kc_refl _) (kc_row (by decide))
      refine kp_nm (fun x7_60 _ => ?_)
      refine kp_nm (fun σ9_61 hσ9_61 => ?_)
      have kσ9_61 : KC σ σ9_61 := by rw [hσ9_61]; exact kc_trans kσ6_59 (kc_lit (by decide))
      exact kp_some kσ9_61
    · exact kp_some (kc_refl _)

set_option maxRecDepth 100000 in
theorem kk_X3_noteStart {N : Nat} {K len : Nat → Nat} {i : Nat} {z : Nat} {a2 : Int32} {σ : SG} {ρ : RG} (hL : Lay N K len ρ) (f_i : isLb i = true) (f_z : isC N K z = true) : kp (F_X3_noteStart N K len i z a2 σ ρ) (fun q => KC σ q) := by
  unfold F_X3_noteStart
  refine kp_nm (fun σ2_68 hσ2_68 => ?_)
  have kσ2_68 : KC σ σ2_68 := by rw [hσ2_68]; exact kc_trans (kc_refl _) (kc_lb1 f_i)
  refine kp_bx (fun r3_69 => ?_)
  refine kp_nm (fun σ5_70 hσ5_70 => ?_)
  have kσ5_70 : KC σ σ5_70 := by rw [hσ5_70]; exact kc_trans kσ2_68 (kc_lb1 f_i)
  refine kp_nm (fun σ7_71 hσ7_71 => ?_)
  have kσ7_71 : KC σ σ7_71 := by rw [hσ7_71]; exact kc_trans kσ5_70 (kc_lb1 f_i)
  refine kp_nm (fun x8_72 _ => ?_)
  refine kp_nm (fun σ10_73 hσ10_73 => ?_)
  have kσ10_73 : KC σ σ10_73 := by rw [hσ10_73]; exact kc_trans kσ7_71 (kc_lb1 f_i)
  refine kp_nm (fun x11_74 _ => ?_)
  refine kp_nm (fun σ13_75 hσ13_75 => ?_)
  have kσ13_75 : KC σ σ13_75 := by rw [hσ13_75]; exact kc_trans kσ10_73 (kc_lb1 f_i)
  refine kp_nm (fun x14_76 _ => ?_)
  refine kp_nm (fun σ16_77 hσ16_77 => ?_)
  have kσ16_77 : KC σ σ16_77 := by rw [hσ16_77]; exact kc_trans kσ13_75 (kc_lb1 f_i)
  exact kp_some kσ16_77

set_option maxRecDepth 100000 in
theorem kk_X3_weigh_8 {N : Nat} {K len : Nat → Nat} {i : Nat} {a1 : Int32} {a2 : Int32} {a3 : Int32} {ρ : RG} (hL : Lay N K len ρ) (f_i : isLb i = true) : ∀ (n : Nat) (σ : SG) (v1 : Int32) (v2 : Int32) (v3 : Int32) (v4 : Int32), kp (F_X3_weigh_8 i a1 a2 a3 n σ ρ v1 v2 v3 v4) (fun q => KC σ q) := by
  intro n
  induction n with
  | zero => intro σ v1 v2 v3 v4; exact kp_none
  | succ n ih =>
    intro σ v1 v2 v3 v4
    unfold F_X3_weigh_8
    refine kp_if ?_ ?_
    · exact kp_some (kc_refl _)
    · refine kp_bx (fun r4_94 => ?_)
      refine kp_nm (fun x5_95 _ => ?_)
      refine kp_nm (fun x6_96 _ => ?_)
      refine kp_nm (fun x7_97 _ => ?_)
      refine kp_nm (fun σ9_98 hσ9_98 => ?_)
      have kσ9_98 : KC σ σ9_98 := by rw [hσ9_98]; exact kc_trans (kc_refl _) (kc_lb f_i (by decide))
      refine kp_if ?_ ?_
      · unfold F_X3_weigh_60
        refine kp_nm (fun σ13_99 hσ13_99 => ?_)
        have kσ13_99 : KC σ σ13_99 := by rw [hσ13_99]; exact kc_trans kσ9_98 (kc_lb f_i (by decide))
        refine kp_if ?_ ?_
        · unfold F_X3_weigh_83
          refine kp_nm (fun σ17_100 hσ17_100 => ?_)
          have kσ17_100 : KC σ σ17_100 := by rw [hσ17_100]; exact kc_trans kσ13_99 (kc_lb f_i (by decide))
          refine kp_nm (fun x18_101 _ => ?_)
          exact kp_tr_kc (ih _ _ _ _ _) kσ17_100
        · refine kp_nm (fun x15_102 _ => ?_)
          unfold F_X3_weigh_83
          refine kp_nm (fun σ17_103 hσ17_103 => ?_)
          have kσ17_103 : KC σ σ17_103 := by rw [hσ17_103]; exact kc_trans kσ13_99 (kc_lb f_i (by decide))
          refine kp_nm (fun x18_104 _ => ?_)
          exact kp_tr_kc (ih _ _ _ _ _) kσ17_103
      · refine kp_nm (fun x11_105 _ => ?_)
        unfold F_X3_weigh_60
        refine kp_nm (fun σ13_106 hσ13_106 => ?_)
        have kσ13_106 : KC σ σ13_106 := by rw [hσ13_106]; exact kc_trans kσ9_98 (kc_lb f_i (by decide))
        refine kp_if ?_ ?_
        · unfold F_X3_weigh_83
          refine kp_nm (fun σ17_107 hσ17_107 => ?_)
          have kσ17_107 : KC σ σ17_107 := by rw [hσ17_107]; exact kc_trans kσ13_106 (kc_lb f_i (by decide))
          refine kp_nm (fun x18_108 _ => ?_)
          exact kp_tr_kc (ih _ _ _ _ _) kσ17_107
        · refine kp_nm (fun x15_109 _ => ?_)
          unfold F_X3_weigh_83
          refine kp_nm (fun σ17_110 hσ17_110 => ?_)
          have kσ17_110 : KC σ σ17_110 := by rw [hσ17_110]; exact kc_trans kσ13_106 (kc_lb f_i (by decide))
          refine kp_nm (fun x18_111 _ => ?_)
          exact kp_tr_kc (ih _ _ _ _ _) kσ17_110

set_option maxRecDepth 100000 in
theorem kk_X3_weigh {N : Nat} {K len : Nat → Nat} {i : Nat} {a1 : Int32} {a2 : Int32} {a3 : Int32} {σ : SG} {ρ : RG} (hL : Lay N K len ρ) (f_i : isLb i = true) : kp (F_X3_weigh i a1 a2 a3 σ ρ) (fun q => KC σ q) := by
  unfold F_X3_weigh
  refine kp_nm (fun σ2_93 hσ2_93 => ?_)
  have kσ2_93 : KC σ σ2_93 := by rw [hσ2_93]; exact kc_trans (kc_refl _) (kc_lb f_i (by decide))
  exact kp_tr_kc (kk_X3_weigh_8 hL f_i 1024 _ _ _ _ _) kσ2_93

set_option maxRecDepth 100000 in
theorem kk_X3_tryCut {N : Nat} {K len : Nat → Nat} {i : Nat} {z : Nat} {a2 : Int32} {a4 : Int32} {a5 : Int32} {σ : SG} {ρ : RG} (hL : Lay N K len ρ) (f_i : isLb i = true) (f_z : isC N K z = true) : kp (F_X3_tryCut N K len i z a2 a4 a5 σ ρ) (fun q => KC σ q.2) := by
  unfold F_X3_tryCut
  refine kp_bn (kk_X3_noteStart hL f_i f_z) (fun σ1_67 hσ1_67 => ?_)
  have kσ1_67 : KC σ σ1_67 := kc_trans (kc_refl _) hσ1_67
  refine kp_bx (fun r2_78 => ?_)
  refine kp_bx (fun r3_79 => ?_)
  refine kp_bn (kk_v_prepare hL f_z f_i) (fun σ4_80 hσ4_80 => ?_)
  have kσ4_80 : KC σ σ4_80 := kc_trans kσ1_67 hσ4_80
  refine kp_if ?_ ?_
  · unfold F_X3_tryCut_80
    refine kp_gd (fun g_81 => ?_)
    refine kp_gd (fun g_82 => ?_)
    refine kp_bx (fun r6_83 => ?_)
    refine kp_nm (fun x7_84 _ => ?_)
    refine kp_bx (fun r8_85 => ?_)
    refine kp_if ?_ ?_
    · unfold F_X3_tryCut_111
      refine kp_gd (fun g_86 => ?_)
      refine kp_bx (fun r10_87 => ?_)
      refine kp_nm (fun x11_88 _ => ?_)
      refine kp_bx (fun r12_89 => ?_)
      refine kp_nm (fun x13_90 _ => ?_)
      refine kp_nm (fun x14_91 _ => ?_)
      refine kp_bn (kk_X3_weigh hL f_i) (fun σ15_92 hσ15_92 => ?_)
      have kσ15_92 : KC σ σ15_92 := kc_trans kσ4_80 hσ15_92
      refine kp_nm (fun x16_112 _ => ?_)
      refine kp_nm (fun σ18_113 hσ18_113 => ?_)
      have kσ18_113 : KC σ σ18_113 := by rw [hσ18_113]; exact kc_trans kσ15_92 (kc_lb f_i (by decide))
      refine kp_nm (fun σ20_114 hσ20_114 => ?_)
      have kσ20_114 : KC σ σ20_114 := by rw [hσ20_114]; exact kc_trans kσ18_113 (kc_lb f_i (by decide))
      refine kp_nm (fun σ22_115 hσ22_115 => ?_)
      have kσ22_115 : KC σ σ22_115 := by rw [hσ22_115]; exact kc_trans kσ20_114 (kc_lb f_i (by decide))
      refine kp_if ?_ ?_
      · refine kp_bx (fun r27_116 => ?_)
        refine kp_if ?_ ?_
        · refine kp_nm (fun σ30_117 hσ30_117 => ?_)
          have kσ30_117 : KC σ σ30_117 := by rw [hσ30_117]; exact kc_trans kσ22_115 (kc_lb f_i (by decide))
          refine kp_nm (fun σ32_118 hσ32_118 => ?_)
          have kσ32_118 : KC σ σ32_118 := by rw [hσ32_118]; exact kc_trans kσ30_117 (kc_lb f_i (by decide))
          refine kp_nm (fun σ34_119 hσ34_119 => ?_)
          have kσ34_119 : KC σ σ34_119 := by rw [hσ34_119]; exact kc_trans kσ32_118 (kc_lb f_i (by decide))
          refine kp_nm (fun σ36_120 hσ36_120 => ?_)
          have kσ36_120 : KC σ σ36_120 := by rw [hσ36_120]; exact kc_trans kσ34_119 (kc_lb f_i (by decide))
          exact kp_some kσ36_120
        · unfold F_X3_tryCut_180
          refine kp_nm (fun x24_121 _ => ?_)
          refine kp_nm (fun σ26_122 hσ26_122 => ?_)
          have kσ26_122 : KC σ σ26_122 := by rw [hσ26_122]; exact kc_trans kσ22_115 (kc_lb f_i (by decide))
          exact kp_some kσ26_122
      · unfold F_X3_tryCut_180
        refine kp_nm (fun x24_123 _ => ?_)
        refine kp_nm (fun σ26_124 hσ26_124 => ?_)
        have kσ26_124 : KC σ σ26_124 := by rw [hσ26_124]; exact kc_trans kσ22_115 (kc_lb f_i (by decide))
        exact kp_some kσ26_124
    · refine kp_nm (fun x37_125 _ => ?_)
      unfold F_X3_tryCut_111
      refine kp_gd (fun g_126 => ?_)
      refine kp_bx (fun r10_127 => ?_)
      refine kp_nm (fun x11_128 _ => ?_)
      refine kp_bx (fun r12_129 => ?_)
      refine kp_nm (fun x13_130 _ => ?_)
      refine kp_nm (fun x14_131 _ => ?_)
      refine kp_bn (kk_X3_weigh hL f_i) (fun σ15_132 hσ15_132 => ?_)
      have kσ15_132 : KC σ σ15_132 := kc_trans kσ4_80 hσ15_132
      refine kp_nm (fun x16_133 _ => ?_)
      refine kp_nm (fun σ18_134 hσ18_134 => ?_)
      have kσ18_134 : KC σ σ18_134 := by rw [hσ18_134]; exact kc_trans kσ15_132 (kc_lb f_i (by decide))
      refine kp_nm (fun σ20_135 hσ20_135 => ?_)
      have kσ20_135 : KC σ σ20_135 := by rw [hσ20_135]; exact kc_trans kσ18_134 (kc_lb f_i (by decide))
      refine kp_nm (fun σ22_136 hσ22_136 => ?_)
      have kσ22_136 : KC σ σ22_136 := by rw [hσ22_136]; exact kc_trans kσ20_135 (kc_lb f_i (by decide))
      refine kp_if ?_ ?_
      · refine kp_bx (fun r27_137 => ?_)
        refine kp_if ?_ ?_
        · refine kp_nm (fun σ30_138 hσ30_138 => ?_)
          have kσ30_138 : KC σ σ30_138 := by rw [hσ30_138]; exact kc_trans kσ22_136 (kc_lb f_i (by decide))
          refine kp_nm (fun σ32_139 hσ32_139 => ?_)
          have kσ32_139 : KC σ σ32_139 := by rw [hσ32_139]; exact kc_trans kσ30_138 (kc_lb f_i (by decide))
          refine kp_nm (fun σ34_140 hσ34_140 => ?_)
          have kσ34_140 : KC σ σ34_140 := by rw [hσ34_140]; exact kc_trans kσ32_139 (kc_lb f_i (by decide))
          refine kp_nm (fun σ36_141 hσ36_141 => ?_)
          have kσ36_141 : KC σ σ36_141 := by rw [hσ36_141]; exact kc_trans kσ34_140 (kc_lb f_i (by decide))
          exact kp_some kσ36_141
        · unfold F_X3_tryCut_180
          refine kp_nm (fun x24_142 _ => ?_)
          refine kp_nm (fun σ26_143 hσ26_143 => ?_)
          have kσ26_143 : KC σ σ26_143 := by rw [hσ26_143]; exact kc_trans kσ22_136 (kc_lb f_i (by decide))
          exact kp_some kσ26_143
      · unfold F_X3_tryCut_180
        refine kp_nm (fun x24_144 _ => ?_)
        refine kp_nm (fun σ26_145 hσ26_145 => ?_)
        have kσ26_145 : KC σ σ26_145 := by rw [hσ26_145]; exact kc_trans kσ22_136 (kc_lb f_i (by decide))
        exact kp_some kσ26_145
  · refine kp_nm (fun x38_146 _ => ?_)
    unfold F_X3_tryCut_80
    refine kp_gd (fun g_147 => ?_)
    refine kp_gd (fun g_148 => ?_)
    refine kp_bx (fun r6_149 => ?_)
    refine kp_nm (fun x7_150 _ => ?_)
    refine kp_bx (fun r8_151 => ?_)
    refine kp_if ?_ ?_
    · unfold F_X3_tryCut_111
      refine kp_gd (fun g_152 => ?_)
      refine kp_bx (fun r10_153 => ?_)
      refine kp_nm (fun x11_154 _ => ?_)
      refine kp_bx (fun r12_155 => ?_)
      refine kp_nm (fun x13_156 _ => ?_)
      refine kp_nm (fun x14_157 _ => ?_)
      refine kp_bn (kk_X3_weigh hL f_i) (fun σ15_158 hσ15_158 => ?_)
      have kσ15_158 : KC σ σ15_158 := kc_trans kσ4_80 hσ15_158
      refine kp_nm (fun x16_159 _ => ?_)
      refine kp_nm (fun σ18_160 hσ18_160 => ?_)
      have kσ18_160 : KC σ σ18_160 := by rw [hσ18_160]; exact kc_trans kσ15_158 (kc_lb f_i (by decide))
      refine kp_nm (fun σ20_161 hσ20_161 => ?_)
      have kσ20_161 : KC σ σ20_161 := by rw [hσ20_161]; exact kc_trans kσ18_160 (kc_lb f_i (by decide))
      refine kp_nm (fun σ22_162 hσ22_162 => ?_)
      have kσ22_162 : KC σ σ22_162 := by rw [hσ22_162]; exact kc_trans kσ20_161 (kc_lb f_i (by decide))
      refine kp_if ?_ ?_
      · refine kp_bx (fun r27_163 => ?_)
        refine kp_if ?_ ?_
        · refine kp_nm (fun σ30_164 hσ30_164 => ?_)
          have kσ30_164 : KC σ σ30_164 := by rw [hσ30_164]; exact kc_trans kσ22_162 (kc_lb f_i (by decide))
          refine kp_nm (fun σ32_165 hσ32_165 => ?_)
          have kσ32_165 : KC σ σ32_165 := by rw [hσ32_165]; exact kc_trans kσ30_164 (kc_lb f_i (by decide))
          refine kp_nm (fun σ34_166 hσ34_166 => ?_)
          have kσ34_166 : KC σ σ34_166 := by rw [hσ34_166]; exact kc_trans kσ32_165 (kc_lb f_i (by decide))
          refine kp_nm (fun σ36_167 hσ36_167 => ?_)
          have kσ36_167 : KC σ σ36_167 := by rw [hσ36_167]; exact kc_trans kσ34_166 (kc_lb f_i (by decide))
          exact kp_some kσ36_167
        · unfold F_X3_tryCut_180
          refine kp_nm (fun x24_168 _ => ?_)
          refine kp_nm (fun σ26_169 hσ26_169 => ?_)
          have kσ26_169 : KC σ σ26_169 := by rw [hσ26_169]; exact kc_trans kσ22_162 (kc_lb f_i (by decide))
          exact kp_some kσ26_169
      · unfold F_X3_tryCut_180
        refine kp_nm (fun x24_170 _ => ?_)
        refine kp_nm (fun σ26_171 hσ26_171 => ?_)
        have kσ26_171 : KC σ σ26_171 := by rw [hσ26_171]; exact kc_trans kσ22_162 (kc_lb f_i (by decide))
        exact kp_some kσ26_171
    · refine kp_nm (fun x37_172 _ => ?_)
      unfold F_X3_tryCut_111
      refine kp_gd (fun g_173 => ?_)
      refine kp_bx (fun r10_174 => ?_)
      refine kp_nm (fun x11_175 _ => ?_)
      refine kp_bx (fun r12_176 => ?_)
      refine kp_nm (fun x13_177 _ => ?_)
      refine kp_nm (fun x14_178 _ => ?_)
      refine kp_bn (kk_X3_weigh hL f_i) (fun σ15_179 hσ15_179 => ?_)
      have kσ15_179 : KC σ σ15_179 := kc_trans kσ4_80 hσ15_179
      refine kp_nm (fun x16_180 _ => ?_)
      refine kp_nm (fun σ18_181 hσ18_181 => ?_)
      have kσ18_181 : KC σ σ18_181 := by rw [hσ18_181]; exact kc_trans kσ15_179 (kc_lb f_i (by decide))
      refine kp_nm (fun σ20_182 hσ20_182 => ?_)
      have kσ20_182 : KC σ σ20_182 := by rw [hσ20_182]; exact kc_trans kσ18_181 (kc_lb f_i (by decide))
      refine kp_nm (fun σ22_183 hσ22_183 => ?_)
      have kσ22_183 : KC σ σ22_183 := by rw [hσ22_183]; exact kc_trans kσ20_182 (kc_lb f_i (by decide))
      refine kp_if ?_ ?_
      · refine kp_bx (fun r27_184 => ?_)
        refine kp_if ?_ ?_
        · refine kp_nm (fun σ30_185 hσ30_185 => ?_)
          have kσ30_185 : KC σ σ30_185 := by rw [hσ30_185]; exact kc_trans kσ22_183 (kc_lb f_i (by decide))
          refine kp_nm (fun σ32_186 hσ32_186 => ?_)
          have kσ32_186 : KC σ σ32_186 := by rw [hσ32_186]; exact kc_trans kσ30_185 (kc_lb f_i (by decide))
          refine kp_nm (fun σ34_187 hσ34_187 => ?_)
          have kσ34_187 : KC σ σ34_187 := by rw [hσ34_187]; exact kc_trans kσ32_186 (kc_lb f_i (by decide))
          refine kp_nm (fun σ36_188 hσ36_188 => ?_)
          have kσ36_188 : KC σ σ36_188 := by rw [hσ36_188]; exact kc_trans kσ34_187 (kc_lb f_i (by decide))
          exact kp_some kσ36_188
        · unfold F_X3_tryCut_180
          refine kp_nm (fun x24_189 _ => ?_)
          refine kp_nm (fun σ26_190 hσ26_190 => ?_)
          have kσ26_190 : KC σ σ26_190 := by rw [hσ26_190]; exact kc_trans kσ22_183 (kc_lb f_i (by decide))
          exact kp_some kσ26_190
      · unfold F_X3_tryCut_180
        refine kp_nm (fun x24_191 _ => ?_)
        refine kp_nm (fun σ26_192 hσ26_192 => ?_)
        have kσ26_192 : KC σ σ26_192 := by rw [hσ26_192]; exact kc_trans kσ22_183 (kc_lb f_i (by decide))
        exact kp_some kσ26_192

set_option maxRecDepth 100000 in
theorem kk_X11_cut {N : Nat} {K len : Nat → Nat} {a1 : Int32} {σ : SG} {ρ : RG} (hL : Lay N K len ρ) : kp (F_X11_cut N K len a1 σ ρ) (fun q => KC σ q.2) := by
  unfold F_X11_cut
  refine kp_bx (fun o1_62 => ?_)
  refine kp_oc ?_ (fun c2_63 => ?_)
  · exact kp_some (kc_refl _)
  · refine kp_gd (fun g_64 => ?_)
    refine kp_if ?_ ?_
    · exact kp_some (kc_refl _)
    · refine kp_bn2 (kk_X3_tryCut hL (by decide) g_64) (fun r4_65 σ4_66 hr4_65 => ?_)
      have kσ4_66 : KC σ σ4_66 := kc_trans (kc_refl _) hr4_65
      refine kp_if ?_ ?_
      · exact kp_some kσ4_66
      · refine kp_nm (fun x6_193 _ => ?_)
        refine kp_nm (fun σ7_194 hσ7_194 => ?_)
        have kσ7_194 : KC σ σ7_194 := by rw [hσ7_194]; exact kc_trans kσ4_66 (kc_c5 hL g_64)
        exact kp_some kσ7_194

set_option maxRecDepth 100000 in
theorem kk_X11_right {N : Nat} {K len : Nat → Nat} {σ : SG} {ρ : RG} (hL : Lay N K len ρ) : kp (F_X11_right σ ρ) (fun q => KC σ q.2) := by
  unfold F_X11_right
  refine kp_bx (fun r1_195 => ?_)
  refine kp_if ?_ ?_
  · refine kp_bn2 (kk_X3_straighten hL (by decide)) (fun r3_196 σ3_197 hr3_196 => ?_)
    have kσ3_197 : KC σ σ3_197 := kc_trans (kc_refl _) hr3_196
    exact kp_some kσ3_197
  · exact kp_some (kc_refl _)

set_option maxRecDepth 100000 in
theorem kk_X11_turn {N : Nat} {K len : Nat → Nat} {a1 : Int32} {σ : SG} {ρ : RG} (hL : Lay N K len ρ) : kp (F_X11_turn a1 σ ρ) (fun q => KC σ q.2) := by
  unfold F_X11_turn
  refine kp_if ?_ ?_
  · refine kp_nm (fun x2_198 _ => ?_)
    refine kp_nm (fun σ4_199 hσ4_199 => ?_)
    have kσ4_199 : KC σ σ4_199 := by rw [hσ4_199]; exact kc_trans (kc_refl _) (kc_lit (by decide))
    exact kp_some kσ4_199
  · refine kp_nm (fun x5_200 _ => ?_)
    refine kp_nm (fun σ7_201 hσ7_201 => ?_)
    have kσ7_201 : KC σ σ7_201 := by rw [hσ7_201]; exact kc_trans (kc_refl _) (kc_lit (by decide))
    exact kp_some kσ7_201

set_option maxRecDepth 100000 in
theorem kk_X3_takes {N : Nat} {K len : Nat → Nat} {i : Nat} {j : Nat} {σ : SG} {ρ : RG} (hL : Lay N K len ρ) (f_i : isLx i = true) : kp (F_X3_takes i j σ ρ) (fun q => KC σ q) := by
  unfold F_X3_takes
  refine kp_nm (fun σ2_208 hσ2_208 => ?_)
  have kσ2_208 : KC σ σ2_208 := by rw [hσ2_208]; exact kc_trans (kc_refl _) (kc_lx f_i)
  refine kp_nm (fun σ4_209 hσ4_209 => ?_)
  have kσ4_209 : KC σ σ4_209 := by rw [hσ4_209]; exact kc_trans kσ2_208 (kc_lx f_i)
  refine kp_nm (fun σ6_210 hσ6_210 => ?_)
  have kσ6_210 : KC σ σ6_210 := by rw [hσ6_210]; exact kc_trans kσ4_209 (kc_lx f_i)
  refine kp_nm (fun σ8_211 hσ8_211 => ?_)
  have kσ8_211 : KC σ σ8_211 := by rw [hσ8_211]; exact kc_trans kσ6_210 (kc_lx f_i)
  refine kp_nm (fun σ10_212 hσ10_212 => ?_)
  have kσ10_212 : KC σ σ10_212 := by rw [hσ10_212]; exact kc_trans kσ8_211 (kc_lx f_i)
  refine kp_nm (fun σ12_213 hσ12_213 => ?_)
  have kσ12_213 : KC σ σ12_213 := by rw [hσ12_213]; exact kc_trans kσ10_212 (kc_lx f_i)
  refine kp_nm (fun σ14_214 hσ14_214 => ?_)
  have kσ14_214 : KC σ σ14_214 := by rw [hσ14_214]; exact kc_trans kσ12_213 (kc_lx f_i)
  refine kp_nm (fun σ16_215 hσ16_215 => ?_)
  have kσ16_215 : KC σ σ16_215 := by rw [hσ16_215]; exact kc_trans kσ14_214 (kc_lx f_i)
  refine kp_nm (fun σ18_216 hσ18_216 => ?_)
  have kσ18_216 : KC σ σ18_216 := by rw [hσ18_216]; exact kc_trans kσ16_215 (kc_lx f_i)
  exact kp_some kσ18_216

set_option maxRecDepth 100000 in
theorem kk_X11_startSteps {N : Nat} {K len : Nat → Nat} {σ : SG} {ρ : RG} (hL : Lay N K len ρ) : kp (F_X11_startSteps σ ρ) (fun q => KC σ q) := by
  unfold F_X11_startSteps
  refine kp_bn (kk_X3_takes hL (by decide)) (fun σ1_207 hσ1_207 => ?_)
  have kσ1_207 : KC σ σ1_207 := kc_trans (kc_refl _) hσ1_207
  refine kp_nm (fun σ3_217 hσ3_217 => ?_)
  have kσ3_217 : KC σ σ3_217 := by rw [hσ3_217]; exact kc_trans kσ1_207 (kc_lit (by decide))
  refine kp_nm (fun σ5_218 hσ5_218 => ?_)
  have kσ5_218 : KC σ σ5_218 := by rw [hσ5_218]; exact kc_trans kσ3_217 (kc_lit (by decide))
  refine kp_nm (fun σ7_219 hσ7_219 => ?_)
  have kσ7_219 : KC σ σ7_219 := by rw [hσ7_219]; exact kc_trans kσ5_218 (kc_lit (by decide))
  exact kp_some kσ7_219

set_option maxRecDepth 100000 in
theorem kk_X11_tryStep {N : Nat} {K len : Nat → Nat} {a1 : Int32} {z : Nat} {a3 : Int32} {σ : SG} {ρ : RG} (hL : Lay N K len ρ) (f_z : isC N K z = true) : kp (F_X11_tryStep N K len a1 z a3 σ ρ) (fun q => KC σ q.2) := by
  unfold F_X11_tryStep
  refine kp_if ?_ ?_
  · exact kp_some (kc_refl _)
  · refine kp_nm (fun x2_227 _ => ?_)
    refine kp_if ?_ ?_
    · refine kp_nm (fun x4_228 _ => ?_)
      refine kp_gd (fun g_229 => ?_)
      refine kp_oce ?_ (fun c6_230 o_231 => ?_)
      · exact kp_none
      · refine kp_gd (fun g_232 => ?_)
        refine kp_gd (fun g_233 => ?_)
        refine kp_oce ?_ (fun c8_234 o_235 => ?_)
        · exact kp_none
        · refine kp_gd (fun g_236 => ?_)
          refine kp_bn (kk_X3_takes hL (lx_34 hL g_229 o_231)) (fun σ9_237 hσ9_237 => ?_)
          have kσ9_237 : KC σ σ9_237 := kc_trans (kc_refl _) hσ9_237
          refine kp_nm (fun x10_238 _ => ?_)
          refine kp_gd (fun g_239 => ?_)
          refine kp_oce ?_ (fun c12_240 o_241 => ?_)
          · exact kp_none
          · refine kp_gd (fun g_242 => ?_)
            refine kp_if ?_ ?_
            · unfold F_X11_tryStep_59
              refine kp_gd (fun g_243 => ?_)
              refine kp_gd (fun g_244 => ?_)
              refine kp_bn2 (kk_X3_tryCut hL g_243 g_244) (fun r14_245 σ14_246 hr14_245 => ?_)
              have kσ14_246 : KC σ σ14_246 := kc_trans kσ9_237 hr14_245
              refine kp_gd (fun _ => ?_)
              exact kp_some kσ14_246
            · unfold F_X11_tryStep_59
              refine kp_gd (fun g_247 => ?_)
              refine kp_gd (fun g_248 => ?_)
              refine kp_bn2 (kk_X3_tryCut hL g_247 g_248) (fun r14_249 σ14_250 hr14_249 => ?_)
              have kσ14_250 : KC σ σ14_250 := kc_trans kσ9_237 hr14_249
              refine kp_gd (fun _ => ?_)
              exact kp_some kσ14_250
    · exact kp_some (kc_refl _)

set_option maxRecDepth 100000 in
theorem kk_X11_would {N : Nat} {K len : Nat → Nat} {a1 : Int32} {a2 : Int32} {σ : SG} {ρ : RG} (hL : Lay N K len ρ) : kp (F_X11_would N K len a1 a2 σ ρ) (fun q => KC σ q.2) := by
  unfold F_X11_would
  refine kp_bx (fun o1_202 => ?_)
  refine kp_oc ?_ (fun c2_203 => ?_)
  · exact kp_some (kc_refl _)
  · refine kp_gd (fun g_204 => ?_)
    refine kp_bx (fun r3_205 => ?_)
    refine kp_if ?_ ?_
    · exact kp_some (kc_refl _)
    · refine kp_bn (kk_X11_startSteps hL) (fun σ5_206 hσ5_206 => ?_)
      have kσ5_206 : KC σ σ5_206 := kc_trans (kc_refl _) hσ5_206
      refine kp_bx (fun o6_220 => ?_)
      refine kp_oc ?_ (fun c7_221 => ?_)
      · refine kp_bx (fun r8_222 => ?_)
        refine kp_if ?_ ?_
        · exact kp_some kσ5_206
        · refine kp_if ?_ ?_
          · exact kp_some kσ5_206
          · refine kp_if ?_ ?_
            · exact kp_some kσ5_206
            · refine kp_if ?_ ?_
              · exact kp_some kσ5_206
              · refine kp_if ?_ ?_
                · exact kp_some kσ5_206
                · refine kp_if ?_ ?_
                  · exact kp_some kσ5_206
                  · refine kp_if ?_ ?_
                    · exact kp_some kσ5_206
                    · refine kp_nm (fun x11_223 _ => ?_)
                      exact kp_some kσ5_206
      · refine kp_gd (fun g_224 => ?_)
        refine kp_bn2 (kk_X11_tryStep hL g_224) (fun r12_225 σ12_226 hr12_225 => ?_)
        have kσ12_226 : KC σ σ12_226 := kc_trans kσ5_206 hr12_225
        refine kp_if ?_ ?_
        · exact kp_some kσ12_226
        · refine kp_if ?_ ?_
          · exact kp_some kσ12_226
          · refine kp_if ?_ ?_
            · exact kp_some kσ12_226
            · refine kp_if ?_ ?_
              · exact kp_some kσ12_226
              · refine kp_if ?_ ?_
                · exact kp_some kσ12_226
                · refine kp_if ?_ ?_
                  · exact kp_some kσ12_226
                  · refine kp_if ?_ ?_
                    · exact kp_some kσ12_226
                    · refine kp_nm (fun x15_251 _ => ?_)
                      exact kp_some kσ12_226

set_option maxRecDepth 100000 in
theorem kk_X11_goOn_54 {N : Nat} {K len : Nat → Nat} {a1 : Int32} {a2 : Int32} {a3 : Int32} {a4 : Int32} {ρ : RG} (hL : Lay N K len ρ) : ∀ (n : Nat) (σ : SG) (v1 : Int32) (v2 : Int32) (v3 : Int32) (v4 : Int32) (v5 : Int32), kp (F_X11_goOn_54 N K len a1 a2 a3 a4 n σ ρ v1 v2 v3 v4 v5) (fun q => KC σ q) := by
  intro n
  induction n with
  | zero => intro σ v1 v2 v3 v4 v5; exact kp_none
  | succ n ih =>
    intro σ v1 v2 v3 v4 v5
    unfold F_X11_goOn_54
    refine kp_if ?_ ?_
    · exact kp_some (kc_refl _)
    · refine kp_if ?_ ?_
      · exact kp_some (kc_refl _)
      · refine kp_if ?_ ?_
        · refine kp_bx (fun r31_261 => ?_)
          refine kp_if ?_ ?_
          · unfold F_X11_goOn_104
            refine kp_gd (fun _ => ?_)
            refine kp_nm (fun x11_262 _ => ?_)
            refine kp_bx (fun o12_263 => ?_)
            refine kp_oc ?_ (fun c13_264 => ?_)
            · exact kp_some (kc_refl _)
            · refine kp_gd (fun g_265 => ?_)
              refine kp_bn2 (kk_X3_tryCut hL (by decide) g_265) (fun r14_266 σ14_267 hr14_266 => ?_)
              have kσ14_267 : KC σ σ14_267 := kc_trans (kc_refl _) hr14_266
              refine kp_if ?_ ?_
              · exact kp_some kσ14_267
              · refine kp_if ?_ ?_
                · unfold F_X11_goOn_186
                  refine kp_if ?_ ?_
                  · unfold F_X11_goOn_216
                    refine kp_nm (fun x18_268 _ => ?_)
                    refine kp_nm (fun σ20_269 hσ20_269 => ?_)
                    have kσ20_269 : KC σ σ20_269 := by rw [hσ20_269]; exact kc_trans kσ14_267 (kc_lit (by decide))
                    refine kp_if ?_ ?_
                    · unfold F_X11_goOn_242
                      refine kp_nm (fun x22_270 _ => ?_)
                      refine kp_nm (fun σ24_271 hσ24_271 => ?_)
                      have kσ24_271 : KC σ σ24_271 := by rw [hσ24_271]; exact kc_trans kσ20_269 (kc_lit (by decide))
                      refine kp_nm (fun x25_272 _ => ?_)
                      exact kp_tr_kc (ih _ _ _ _ _ _) kσ24_271
                    · unfold F_X11_goOn_242
                      refine kp_nm (fun x22_273 _ => ?_)
                      refine kp_nm (fun σ24_274 hσ24_274 => ?_)
                      have kσ24_274 : KC σ σ24_274 := by rw [hσ24_274]; exact kc_trans kσ20_269 (kc_lit (by decide))
                      refine kp_nm (fun x25_275 _ => ?_)
                      exact kp_tr_kc (ih _ _ _ _ _ _) kσ24_274
                  · unfold F_X11_goOn_216
                    refine kp_nm (fun x18_276 _ => ?_)
                    refine kp_nm (fun σ20_277 hσ20_277 => ?_)
                    have kσ20_277 : KC σ σ20_277 := by rw [hσ20_277]; exact kc_trans kσ14_267 (kc_lit (by decide))
                    refine kp_if ?_ ?_
                    · unfold F_X11_goOn_242
                      refine kp_nm (fun x22_278 _ => ?_)
                      refine kp_nm (fun σ24_279 hσ24_279 => ?_)
                      have kσ24_279 : KC σ σ24_279 := by rw [hσ24_279]; exact kc_trans kσ20_277 (kc_lit (by decide))
                      refine kp_nm (fun x25_280 _ => ?_)
                      exact kp_tr_kc (ih _ _ _ _ _ _) kσ24_279
                    · unfold F_X11_goOn_242
                      refine kp_nm (fun x22_281 _ => ?_)
                      refine kp_nm (fun σ24_282 hσ24_282 => ?_)
                      have kσ24_282 : KC σ σ24_282 := by rw [hσ24_282]; exact kc_trans kσ20_277 (kc_lit (by decide))
                      refine kp_nm (fun x25_283 _ => ?_)
                      exact kp_tr_kc (ih _ _ _ _ _ _) kσ24_282
                · refine kp_gd (fun _ => ?_)
                  refine kp_nm (fun x27_284 _ => ?_)
                  refine kp_gd (fun _ => ?_)
                  refine kp_nm (fun σ30_285 hσ30_285 => ?_)
                  have kσ30_285 : KC σ σ30_285 := by rw [hσ30_285]; exact kc_trans kσ14_267 (kc_row (by decide))
                  unfold F_X11_goOn_186
                  refine kp_if ?_ ?_
                  · unfold F_X11_goOn_216
                    refine kp_nm (fun x18_286 _ => ?_)
                    refine kp_nm (fun σ20_287 hσ20_287 => ?_)
                    have kσ20_287 : KC σ σ20_287 := by rw [hσ20_287]; exact kc_trans kσ30_285 (kc_lit (by decide))
                    refine kp_if ?_ ?_
                    · unfold F_X11_goOn_242
                      refine kp_nm (fun x22_288 _ => ?_)
                      refine kp_nm (fun σ24_289 hσ24_289 => ?_)
                      have kσ24_289 : KC σ σ24_289 := by rw [hσ24_289]; exact kc_trans kσ20_287 (kc_lit (by decide))
                      refine kp_nm (fun x25_290 _ => ?_)
                      exact kp_tr_kc (ih _ _ _ _ _ _) kσ24_289
                    · unfold F_X11_goOn_242
                      refine kp_nm (fun x22_291 _ => ?_)
                      refine kp_nm (fun σ24_292 hσ24_292 => ?_)
                      have kσ24_292 : KC σ σ24_292 := by rw [hσ24_292]; exact kc_trans kσ20_287 (kc_lit (by decide))
                      refine kp_nm (fun x25_293 _ => ?_)
                      exact kp_tr_kc (ih _ _ _ _ _ _) kσ24_292
                  · unfold F_X11_goOn_216
                    refine kp_nm (fun x18_294 _ => ?_)
                    refine kp_nm (fun σ20_295 hσ20_295 => ?_)
                    have kσ20_295 : KC σ σ20_295 := by rw [hσ20_295]; exact kc_trans kσ30_285 (kc_lit (by decide))
                    refine kp_if ?_ ?_
                    · unfold F_X11_goOn_242
                      refine kp_nm (fun x22_296 _ => ?_)
                      refine kp_nm (fun σ24_297 hσ24_297 => ?_)
                      have kσ24_297 : KC σ σ24_297 := by rw [hσ24_297]; exact kc_trans kσ20_295 (kc_lit (by decide))
                      refine kp_nm (fun x25_298 _ => ?_)
                      exact kp_tr_kc (ih _ _ _ _ _ _) kσ24_297
                    · unfold F_X11_goOn_242
                      refine kp_nm (fun x22_299 _ => ?_)
                      refine kp_nm (fun σ24_300 hσ24_300 => ?_)
                      have kσ24_300 : KC σ σ24_300 := by rw [hσ24_300]; exact kc_trans kσ20_295 (kc_lit (by decide))
                      refine kp_nm (fun x25_301 _ => ?_)
                      exact kp_tr_kc (ih _ _ _ _ _ _) kσ24_300
          · refine kp_bn2 (kk_X3_straighten hL (by decide)) (fun r33_302 σ33_303 hr33_302 => ?_)
            have kσ33_303 : KC σ σ33_303 := kc_trans (kc_refl _) hr33_302
            unfold F_X11_goOn_104
            refine kp_gd (fun _ => ?_)
            refine kp_nm (fun x11_304 _ => ?_)
            refine kp_bx (fun o12_305 => ?_)
            refine kp_oc ?_ (fun c13_306 => ?_)
            · exact kp_some kσ33_303
            · refine kp_gd (fun g_307 => ?_)
              refine kp_bn2 (kk_X3_tryCut hL (by decide) g_307) (fun r14_308 σ14_309 hr14_308 => ?_)
              have kσ14_309 : KC σ σ14_309 := kc_trans kσ33_303 hr14_308
              refine kp_if ?_ ?_
              · exact kp_some kσ14_309
              · refine kp_if ?_ ?_
                · unfold F_X11_goOn_186
                  refine kp_if ?_ ?_
                  · unfold F_X11_goOn_216
                    refine kp_nm (fun x18_310 _ => ?_)
                    refine kp_nm (fun σ20_311 hσ20_311 => ?_)
                    have kσ20_311 : KC σ σ20_311 := by rw [hσ20_311]; exact kc_trans kσ14_309 (kc_lit (by decide))
                    refine kp_if ?_ ?_
                    · unfold F_X11_goOn_242
                      refine kp_nm (fun x22_312 _ => ?_)
                      refine kp_nm (fun σ24_313 hσ24_313 => ?_)
                      have kσ24_313 : KC σ σ24_313 := by rw [hσ24_313]; exact kc_trans kσ20_311 (kc_lit (by decide))
                      refine kp_nm (fun x25_314 _ => ?_)
                      exact kp_tr_kc (ih _ _ _ _ _ _) kσ24_313
                    · unfold F_X11_goOn_242
                      refine kp_nm (fun x22_315 _ => ?_)
                      refine kp_nm (fun σ24_316 hσ24_316 => ?_)
                      have kσ24_316 : KC σ σ24_316 := by rw [hσ24_316]; exact kc_trans kσ20_311 (kc_lit (by decide))
                      refine kp_nm (fun x25_317 _ => ?_)
                      exact kp_tr_kc (ih _ _ _ _ _ _) kσ24_316
                  · unfold F_X11_goOn_216
                    refine kp_nm (fun x18_318 _ => ?_)
                    refine kp_nm (fun σ20_319 hσ20_319 => ?_)
                    have kσ20_319 : KC σ σ20_319 := by rw [hσ20_319]; exact kc_trans kσ14_309 (kc_lit (by decide))
                    refine kp_if ?_ ?_
                    · unfold F_X11_goOn_242
                      refine kp_nm (fun x22_320 _ => ?_)
                      refine kp_nm (fun σ24_321 hσ24_321 => ?_)
                      have kσ24_321 : KC σ σ24_321 := by rw [hσ24_321]; exact kc_trans kσ20_319 (kc_lit (by decide))
                      refine kp_nm (fun x25_322 _ => ?_)
                      exact kp_tr_kc (ih _ _ _ _ _ _) kσ24_321
                    · unfold F_X11_goOn_242
                      refine kp_nm (fun x22_323 _ => ?_)
                      refine kp_nm (fun σ24_324 hσ24_324 => ?_)
                      have kσ24_324 : KC σ σ24_324 := by rw [hσ24_324]; exact kc_trans kσ20_319 (kc_lit (by decide))
                      refine kp_nm (fun x25_325 _ => ?_)
                      exact kp_tr_kc (ih _ _ _ _ _ _) kσ24_324
                · refine kp_gd (fun _ => ?_)
                  refine kp_nm (fun x27_326 _ => ?_)
                  refine kp_gd (fun _ => ?_)
                  refine kp_nm (fun σ30_327 hσ30_327 => ?_)
                  have kσ30_327 : KC σ σ30_327 := by rw [hσ30_327]; exact kc_trans kσ14_309 (kc_row (by decide))
                  unfold F_X11_goOn_186
                  refine kp_if ?_ ?_
                  · unfold F_X11_goOn_216
                    refine kp_nm (fun x18_328 _ => ?_)
                    refine kp_nm (fun σ20_329 hσ20_329 => ?_)
                    have kσ20_329 : KC σ σ20_329 := by rw [hσ20_329]; exact kc_trans kσ30_327 (kc_lit (by decide))
                    refine kp_if ?_ ?_
                    · unfold F_X11_goOn_242
                      refine kp_nm (fun x22_330 _ => ?_)
                      refine kp_nm (fun σ24_331 hσ24_331 => ?_)
                      have kσ24_331 : KC σ σ24_331 := by rw [hσ24_331]; exact kc_trans kσ20_329 (kc_lit (by decide))
                      refine kp_nm (fun x25_332 _ => ?_)
                      exact kp_tr_kc (ih _ _ _ _ _ _) kσ24_331
                    · unfold F_X11_goOn_242
                      refine kp_nm (fun x22_333 _ => ?_)
                      refine kp_nm (fun σ24_334 hσ24_334 => ?_)
                      have kσ24_334 : KC σ σ24_334 := by rw [hσ24_334]; exact kc_trans kσ20_329 (kc_lit (by decide))
                      refine kp_nm (fun x25_335 _ => ?_)
                      exact kp_tr_kc (ih _ _ _ _ _ _) kσ24_334
                  · unfold F_X11_goOn_216
                    refine kp_nm (fun x18_336 _ => ?_)
                    refine kp_nm (fun σ20_337 hσ20_337 => ?_)
                    have kσ20_337 : KC σ σ20_337 := by rw [hσ20_337]; exact kc_trans kσ30_327 (kc_lit (by decide))
                    refine kp_if ?_ ?_
                    · unfold F_X11_goOn_242
                      refine kp_nm (fun x22_338 _ => ?_)
                      refine kp_nm (fun σ24_339 hσ24_339 => ?_)
                      have kσ24_339 : KC σ σ24_339 := by rw [hσ24_339]; exact kc_trans kσ20_337 (kc_lit (by decide))
                      refine kp_nm (fun x25_340 _ => ?_)
                      exact kp_tr_kc (ih _ _ _ _ _ _) kσ24_339
                    · unfold F_X11_goOn_242
                      refine kp_nm (fun x22_341 _ => ?_)
                      refine kp_nm (fun σ24_342 hσ24_342 => ?_)
                      have kσ24_342 : KC σ σ24_342 := by rw [hσ24_342]; exact kc_trans kσ20_337 (kc_lit (by decide))
                      refine kp_nm (fun x25_343 _ => ?_)
                      exact kp_tr_kc (ih _ _ _ _ _ _) kσ24_342
        · unfold F_X11_goOn_104
          refine kp_gd (fun _ => ?_)
          refine kp_nm (fun x11_344 _ => ?_)
          refine kp_bx (fun o12_345 => ?_)
          refine kp_oc ?_ (fun c13_346 => ?_)
          · exact kp_some (kc_refl _)
          · refine kp_gd (fun g_347 => ?_)
            refine kp_bn2 (kk_X3_tryCut hL (by decide) g_347) (fun r14_348 σ14_349 hr14_348 => ?_)
            have kσ14_349 : KC σ σ14_349 := kc_trans (kc_refl _) hr14_348
            refine kp_if ?_ ?_
            · exact kp_some kσ14_349
            · refine kp_if ?_ ?_
              · unfold F_X11_goOn_186
                refine kp_if ?_ ?_
                · unfold F_X11_goOn_216
                  refine kp_nm (fun x18_350 _ => ?_)
                  refine kp_nm (fun σ20_351 hσ20_351 => ?_)
                  have kσ20_351 : KC σ σ20_351 := by rw [hσ20_351]; exact kc_trans kσ14_349 (kc_lit (by decide))
                  refine kp_if ?_ ?_
                  · unfold F_X11_goOn_242
                    refine kp_nm (fun x22_352 _ => ?_)
                    refine kp_nm (fun σ24_353 hσ24_353 => ?_)
                    have kσ24_353 : KC σ σ24_353 := by rw [hσ24_353]; exact kc_trans kσ20_351 (kc_lit (by decide))
                    refine kp_nm (fun x25_354 _ => ?_)
                    exact kp_tr_kc (ih _ _ _ _ _ _) kσ24_353
                  · unfold F_X11_goOn_242
                    refine kp_nm (fun x22_355 _ => ?_)
                    refine kp_nm (fun σ24_356 hσ24_356 => ?_)
                    have kσ24_356 : KC σ σ24_356 := by rw [hσ24_356]; exact kc_trans kσ20_351 (kc_lit (by decide))
                    refine kp_nm (fun x25_357 _ => ?_)
                    exact kp_tr_kc (ih _ _ _ _ _ _) kσ24_356
                · unfold F_X11_goOn_216
                  refine kp_nm (fun x18_358 _ => ?_)
                  refine kp_nm (fun σ20_359 hσ20_359 => ?_)
                  have kσ20_359 : KC σ σ20_359 := by rw [hσ20_359]; exact kc_trans kσ14_349 (kc_lit (by decide))
                  refine kp_if ?_ ?_
                  · unfold F_X11_goOn_242
                    refine kp_nm (fun x22_360 _ => ?_)
                    refine kp_nm (fun σ24_361 hσ24_361 => ?_)
                    have kσ24_361 : KC σ σ24_361 := by rw [hσ24_361]; exact kc_trans kσ20_359 (kc_lit (by decide))
                    refine kp_nm (fun x25_362 _ => ?_)
                    exact kp_tr_kc (ih _ _ _ _ _ _) kσ24_361
                  · unfold F_X11_goOn_242
                    refine kp_nm (fun x22_363 _ => ?_)
                    refine kp_nm (fun σ24_364 hσ24_364 => ?_)
                    have kσ24_364 : KC σ σ24_364 := by rw [hσ24_364]; exact kc_trans kσ20_359 (kc_lit (by decide))
                    refine kp_nm (fun x25_365 _ => ?_)
                    exact kp_tr_kc (ih _ _ _ _ _ _) kσ24_364
              · refine kp_gd (fun _ => ?_)
                refine kp_nm (fun x27_366 _ => ?_)
                refine kp_gd (fun _ => ?_)
                refine kp_nm (fun σ30_367 hσ30_367 => ?_)
                have kσ30_367 : KC σ σ30_367 := by rw [hσ30_367]; exact kc_trans kσ14_349 (kc_row (by decide))
                unfold F_X11_goOn_186
                refine kp_if ?_ ?_
                · unfold F_X11_goOn_216
                  refine kp_nm (fun x18_368 _ => ?_)
                  refine kp_nm (fun σ20_369 hσ20_369 => ?_)
                  have kσ20_369 : KC σ σ20_369 := by rw [hσ20_369]; exact kc_trans kσ30_367 (kc_lit (by decide))
                  refine kp_if ?_ ?_
                  · unfold F_X11_goOn_242
                    refine kp_nm (fun x22_370 _ => ?_)
                    refine kp_nm (fun σ24_371 hσ24_371 => ?_)
                    have kσ24_371 : KC σ σ24_371 := by rw [hσ24_371]; exact kc_trans kσ20_369 (kc_lit (by decide))
                    refine kp_nm (fun x25_372 _ => ?_)
                    exact kp_tr_kc (ih _ _ _ _ _ _) kσ24_371
                  · unfold F_X11_goOn_242
                    refine kp_nm (fun x22_373 _ => ?_)
                    refine kp_nm (fun σ24_374 hσ24_374 => ?_)
                    have kσ24_374 : KC σ σ24_374 := by rw [hσ24_374]; exact kc_trans kσ20_369 (kc_lit (by decide))
                    refine kp_nm (fun x25_375 _ => ?_)
                    exact kp_tr_kc (ih _ _ _ _ _ _) kσ24_374
                · unfold F_X11_goOn_216
                  refine kp_nm (fun x18_376 _ => ?_)
                  refine kp_nm (fun σ20_377 hσ20_377 => ?_)
                  have kσ20_377 : KC σ σ20_377 := by rw [hσ20_377]; exact kc_trans kσ30_367 (kc_lit (by decide))
                  refine kp_if ?_ ?_
                  · unfold F_X11_goOn_242
                    refine kp_nm (fun x22_378 _ => ?_)
                    refine kp_nm (fun σ24_379 hσ24_379 => ?_)
                    have kσ24_379 : KC σ σ24_379 := by rw [hσ24_379]; exact kc_trans kσ20_377 (kc_lit (by decide))
                    refine kp_nm (fun x25_380 _ => ?_)
                    exact kp_tr_kc (ih _ _ _ _ _ _) kσ24_379
                  · unfold F_X11_goOn_242
                    refine kp_nm (fun x22_381 _ => ?_)
                    refine kp_nm (fun σ24_382 hσ24_382 => ?_)
                    have kσ24_382 : KC σ σ24_382 := by rw [hσ24_382]; exact kc_trans kσ20_377 (kc_lit (by decide))
                    refine kp_nm (fun x25_383 _ => ?_)
                    exact kp_tr_kc (ih _ _ _ _ _ _) kσ24_382

set_option maxRecDepth 100000 in
theorem kk_X11_goOn_27 {N : Nat} {K len : Nat → Nat} {a1 : Int32} {a2 : Int32} {a3 : Int32} {a4 : Int32} {ρ : RG} (hL : Lay N K len ρ) : ∀ (n : Nat) (σ : SG) (v1 : Int32) (v2 : Int32) (v3 : Int32) (v4 : Int32) (v5 : Int32), kp (F_X11_goOn_27 N K len a1 a2 a3 a4 n σ ρ v1 v2 v3 v4 v5) (fun q => KC σ q) := by
  intro n
  induction n with
  | zero => intro σ v1 v2 v3 v4 v5; exact kp_none
  | succ n ih =>
    intro σ v1 v2 v3 v4 v5
    unfold F_X11_goOn_27
    refine kp_if ?_ ?_
    · exact kp_tr_kc (kk_X11_goOn_54 hL 1024 _ _ _ _ _ _) (kc_refl _)
    · refine kp_gd (fun _ => ?_)
      refine kp_nm (fun σ36_384 hσ36_384 => ?_)
      have kσ36_384 : KC σ σ36_384 := by rw [hσ36_384]; exact kc_trans (kc_refl _) (kc_row (by decide))
      refine kp_nm (fun x37_385 _ => ?_)
      exact kp_tr_kc (ih _ _ _ _ _ _) kσ36_384

set_option maxRecDepth 100000 in
theorem kk_X11_goOn {N : Nat} {K len : Nat → Nat} {a1 : Int32} {a2 : Int32} {a3 : Int32} {a4 : Int32} {σ : SG} {ρ : RG} (hL : Lay N K len ρ) : kp (F_X11_goOn N K len a1 a2 a3 a4 σ ρ) (fun q => KC σ q) := by
  unfold F_X11_goOn
  refine kp_bn (kk_X3_takes hL (by decide)) (fun σ1_258 hσ1_258 => ?_)
  have kσ1_258 : KC σ σ1_258 := kc_trans (kc_refl _) hσ1_258
  refine kp_nm (fun σ3_259 hσ3_259 => ?_)
  have kσ3_259 : KC σ σ3_259 := by rw [hσ3_259]; exact kc_trans kσ1_258 (kc_lit (by decide))
  refine kp_nm (fun σ5_260 hσ5_260 => ?_)
  have kσ5_260 : KC σ σ5_260 := by rw [hσ5_260]; exact kc_trans kσ3_259 (kc_lit (by decide))
  exact kp_tr_kc (kk_X11_goOn_27 hL 1024 _ _ _ _ _ _) kσ5_260

set_option maxRecDepth 100000 in
theorem kk_X11_on {N : Nat} {K len : Nat → Nat} {a1 : Int32} {a2 : Int32} {σ : SG} {ρ : RG} (hL : Lay N K len ρ) : kp (F_X11_on N K len a1 a2 σ ρ) (fun q => KC σ q.2) := by
  unfold F_X11_on
  refine kp_nm (fun x1_252 _ => ?_)
  refine kp_bx (fun o2_253 => ?_)
  refine kp_oc ?_ (fun c3_254 => ?_)
  · unfold F_X11_on_19
    refine kp_bx (fun r4_255 => ?_)
    refine kp_if ?_ ?_
    · refine kp_if ?_ ?_
      · exact kp_some (kc_refl _)
      · unfold F_X11_on_37
        refine kp_bx (fun r6_256 => ?_)
        refine kp_if ?_ ?_
        · exact kp_some (kc_refl _)
        · refine kp_bn (kk_X11_goOn hL) (fun σ8_257 hσ8_257 => ?_)
          have kσ8_257 : KC σ σ8_257 := kc_trans (kc_refl _) hσ8_257
          refine kp_if ?_ ?_
          · exact kp_some kσ8_257
          · refine kp_if ?_ ?_
            · exact kp_some kσ8_257
            · refine kp_if ?_ ?_
              · exact kp_some kσ8_257
              · refine kp_if ?_ ?_
                · refine kp_nm (fun x10_386 _ => ?_)
                  exact kp_some kσ8_257
                · refine kp_if ?_ ?_
                  · refine kp_nm (fun x11_387 _ => ?_)
                    exact kp_some kσ8_257
                  · refine kp_if ?_ ?_
                    · exact kp_some kσ8_257
                    · refine kp_nm (fun x12_388 _ => ?_)
                      refine kp_bx (fun r13_389 => ?_)
                      exact kp_some kσ8_257
    · unfold F_X11_on_37
      refine kp_bx (fun r6_390 => ?_)
      refine kp_if ?_ ?_
      · exact kp_some (kc_refl _)
      · refine kp_bn (kk_X11_goOn hL) (fun σ8_391 hσ8_391 => ?_)
        have kσ8_391 : KC σ σ8_391 := kc_trans (kc_refl _) hσ8_391
        refine kp_if ?_ ?_
        · exact kp_some kσ8_391
        · refine kp_if ?_ ?_
          · exact kp_some kσ8_391
          · refine kp_if ?_ ?_
            · exact kp_some kσ8_391
            · refine kp_if ?_ ?_
              · refine kp_nm (fun x10_392 _ => ?_)
                exact kp_some kσ8_391
              · refine kp_if ?_ ?_
                · refine kp_nm (fun x11_393 _ => ?_)
                  exact kp_some kσ8_391
                · refine kp_if ?_ ?_
                  · exact kp_some kσ8_391
                  · refine kp_nm (fun x12_394 _ => ?_)
                    refine kp_bx (fun r13_395 => ?_)
                    exact kp_some kσ8_391
  · refine kp_gd (fun g_396 => ?_)
    unfold F_X11_on_19
    refine kp_bx (fun r4_397 => ?_)
    refine kp_if ?_ ?_
    · refine kp_if ?_ ?_
      · exact kp_some (kc_refl _)
      · unfold F_X11_on_37
        refine kp_bx (fun r6_398 => ?_)
        refine kp_if ?_ ?_
        · exact kp_some (kc_refl _)
        · refine kp_bn (kk_X11_goOn hL) (fun σ8_399 hσ8_399 => ?_)
          have kσ8_399 : KC σ σ8_399 := kc_trans (kc_refl _) hσ8_399
          refine kp_if ?_ ?_
          · exact kp_some kσ8_399
          · refine kp_if ?_ ?_
            · exact kp_some kσ8_399
            · refine kp_if ?_ ?_
              · exact kp_some kσ8_399
              · refine kp_if ?_ ?_
                · refine kp_nm (fun x10_400 _ => ?_)
                  exact kp_some kσ8_399
                · refine kp_if ?_ ?_
                  · refine kp_nm (fun x11_401 _ => ?_)
                    exact kp_some kσ8_399
                  · refine kp_if ?_ ?_
                    · exact kp_some kσ8_399
                    · refine kp_nm (fun x12_402 _ => ?_)
                      refine kp_bx (fun r13_403 => ?_)
                      exact kp_some kσ8_399
    · unfold F_X11_on_37
      refine kp_bx (fun r6_404 => ?_)
      refine kp_if ?_ ?_
      · exact kp_some (kc_refl _)
      · refine kp_bn (kk_X11_goOn hL) (fun σ8_405 hσ8_405 => ?_)
        have kσ8_405 : KC σ σ8_405 := kc_trans (kc_refl _) hσ8_405
        refine kp_if ?_ ?_
        · exact kp_some kσ8_405
        · refine kp_if ?_ ?_
          · exact kp_some kσ8_405
          · refine kp_if ?_ ?_
            · exact kp_some kσ8_405
            · refine kp_if ?_ ?_
              · refine kp_nm (fun x10_406 _ => ?_)
                exact kp_some kσ8_405
              · refine kp_if ?_ ?_
                · refine kp_nm (fun x11_407 _ => ?_)
                  exact kp_some kσ8_405
                · refine kp_if ?_ ?_
                  · exact kp_some kσ8_405
                  · refine kp_nm (fun x12_408 _ => ?_)
                    refine kp_bx (fun r13_409 => ?_)
                    exact kp_some kσ8_405

set_option maxRecDepth 100000 in
theorem kk_X11_toasted {N : Nat} {K len : Nat → Nat} {a1 : Int32} {a2 : Int32} {σ : SG} {ρ : RG} (hL : Lay N K len ρ) : kp (F_X11_toasted N K len a1 a2 σ ρ) (fun q => KC σ q.2) := by
  unfold F_X11_toasted
  refine kp_bx (fun r1_410 => ?_)
  refine kp_if ?_ ?_
  · exact kp_some (kc_refl _)
  · refine kp_bx (fun r3_411 => ?_)
    refine kp_if ?_ ?_
    · exact kp_some (kc_refl _)
    · refine kp_bn (kk_X11_goOn hL) (fun σ5_412 hσ5_412 => ?_)
      have kσ5_412 : KC σ σ5_412 := kc_trans (kc_refl _) hσ5_412
      exact kp_some kσ5_412

set_option maxRecDepth 100000 in
theorem kk_X11_lasts {N : Nat} {K len : Nat → Nat} {σ : SG} {ρ : RG} (hL : Lay N K len ρ) : kp (F_X11_lasts N K len σ ρ) (fun q => KC σ q.2) := by
  unfold F_X11_lasts
  refine kp_bn (kk_X11_goOn hL) (fun σ1_413 hσ1_413 => ?_)
  have kσ1_413 : KC σ σ1_413 := kc_trans (kc_refl _) hσ1_413
  refine kp_nm (fun x2_414 _ => ?_)
  exact kp_some kσ1_413

set_option maxRecDepth 100000 in
theorem kk_X11_tryOrders_B_40 {N : Nat} {K len : Nat → Nat} {R : Int32 → Int32 → Int32 → SG → RG → Option (SG)} {a1 : Int32} {a2 : Int32} {a3 : Int32} {ρ : RG} (hL : Lay N K len ρ) (hR : ∀ (y0 : Int32) (y1 : Int32) (y2 : Int32) (σ : SG), kp (R y0 y1 y2 σ ρ) (fun q => KC σ q)) : ∀ (n : Nat) (σ : SG) (v1 : Int32) (v2 : Int32) (v3 : Int32) (v4 : Int32), kp (F_X11_tryOrders_B_40 N K len R a1 a2 a3 n σ ρ v1 v2 v3 v4) (fun q => KC σ q) := by
  intro n
  induction n with
  | zero => intro σ v1 v2 v3 v4; exact kp_none
  | succ n ih =>
    intro σ v1 v2 v3 v4
    unfold F_X11_tryOrders_B_40
    refine kp_if ?_ ?_
    · exact kp_some (kc_refl _)
    · refine kp_if ?_ ?_
      · exact kp_some (kc_refl _)
      · refine kp_nm (fun x4_418 _ => ?_)
        refine kp_nm (fun x5_419 _ => ?_)
        refine kp_if ?_ ?_
        · refine kp_bx (fun o8_420 => ?_)
          refine kp_oc ?_ (fun c9_421 => ?_)
          · refine kp_bx (fun r10_422 => ?_)
            refine kp_if ?_ ?_
            · unfold F_X11_tryOrders_B_132
              refine kp_nm (fun x7_423 _ => ?_)
              exact kp_tr_kc (ih _ _ _ _ _) (kc_refl _)
            · refine kp_gd (fun _ => ?_)
              refine kp_nm (fun σ14_424 hσ14_424 => ?_)
              have kσ14_424 : KC σ σ14_424 := by rw [hσ14_424]; exact kc_trans (kc_refl _) (kc_row (by decide))
              refine kp_nm (fun x15_425 _ => ?_)
              refine kp_gd (fun g_426 => ?_)
              refine kp_oce ?_ (fun c17_427 o_428 => ?_)
              · exact kp_none
              · refine kp_gd (fun g_429 => ?_)
                refine kp_nm (fun x18_430 _ => ?_)
                refine kp_nm (fun x19_431 _ => ?_)
                refine kp_nm (fun x20_432 _ => ?_)
                refine kp_nm (fun x21_433 _ => ?_)
                refine kp_nm (fun x22_434 _ => ?_)
                refine kp_bn (hR _ _ _ _) (fun σ23_435 hσ23_435 => ?_)
                have kσ23_435 : KC σ σ23_435 := kc_trans kσ14_424 hσ23_435
                unfold F_X11_tryOrders_B_132
                refine kp_nm (fun x7_436 _ => ?_)
                exact kp_tr_kc (ih _ _ _ _ _) kσ23_435
          · refine kp_gd (fun g_437 => ?_)
            refine kp_bn2 (kk_X11_tryStep hL g_437) (fun r24_438 σ24_439 hr24_438 => ?_)
            have kσ24_439 : KC σ σ24_439 := kc_trans (kc_refl _) hr24_438
            refine kp_if ?_ ?_
            · unfold F_X11_tryOrders_B_132
              refine kp_nm (fun x7_440 _ => ?_)
              exact kp_tr_kc (ih _ _ _ _ _) kσ24_439
            · refine kp_gd (fun _ => ?_)
              refine kp_nm (fun σ28_441 hσ28_441 => ?_)
              have kσ28_441 : KC σ σ28_441 := by rw [hσ28_441]; exact kc_trans kσ24_439 (kc_row (by decide))
              refine kp_nm (fun x29_442 _ => ?_)
              refine kp_gd (fun g_443 => ?_)
              refine kp_oce ?_ (fun c31_444 o_445 => ?_)
              · exact kp_none
              · refine kp_gd (fun g_446 => ?_)
                refine kp_nm (fun x32_447 _ => ?_)
                refine kp_nm (fun x33_448 _ => ?_)
                refine kp_nm (fun x34_449 _ => ?_)
                refine kp_nm (fun x35_450 _ => ?_)
                refine kp_nm (fun x36_451 _ => ?_)
                refine kp_bn (hR _ _ _ _) (fun σ37_452 hσ37_452 => ?_)
                have kσ37_452 : KC σ σ37_452 := kc_trans kσ28_441 hσ37_452
                unfold F_X11_tryOrders_B_132
                refine kp_nm (fun x7_453 _ => ?_)
                exact kp_tr_kc (ih _ _ _ _ _) kσ37_452
        · unfold F_X11_tryOrders_B_132
          refine kp_nm (fun x7_454 _ => ?_)
          exact kp_tr_kc (ih _ _ _ _ _) (kc_refl _)

set_option maxRecDepth 100000 in
theorem kk_X11_keepPath_7 {N : Nat} {K len : Nat → Nat} {a1 : Int32} {ρ : RG} (hL : Lay N K len ρ) : ∀ (n : Nat) (σ : SG) (v1 : Int32) (v2 : Int32), kp (F_X11_keepPath_7 a1 n σ ρ v1 v2) (fun q => KC σ q) := by
  intro n
  induction n with
  | zero => intro σ v1 v2; exact kp_none
  | succ n ih =>
    intro σ v1 v2
    unfold F_X11_keepPath_7
    refine kp_if ?_ ?_
    · exact kp_some (kc_refl _)
    · refine kp_if ?_ ?_
      · exact kp_some (kc_refl _)
      · refine kp_if ?_ ?_
        · exact kp_some (kc_refl _)
        · refine kp_gd (fun _ => ?_)
          refine kp_gd (fun _ => ?_)
          refine kp_nm (fun σ9_458 hσ9_458 => ?_)
          have kσ9_458 : KC σ σ9_458 := by rw [hσ9_458]; exact kc_trans (kc_refl _) (kc_row (by decide))
          refine kp_nm (fun x10_459 _ => ?_)
          exact kp_tr_kc (ih _ _ _) kσ9_458

set_option maxRecDepth 100000 in
theorem kk_X11_keepPath {N : Nat} {K len : Nat → Nat} {a1 : Int32} {σ : SG} {ρ : RG} (hL : Lay N K len ρ) : kp (F_X11_keepPath a1 σ ρ) (fun q => KC σ q) := by
  unfold F_X11_keepPath
  refine kp_nm (fun σ2_457 hσ2_457 => ?_)
  have kσ2_457 : KC σ σ2_457 := by rw [hσ2_457]; exact kc_trans (kc_refl _) (kc_lit (by decide))
  exact kp_tr_kc (kk_X11_keepPath_7 hL 1024 _ _ _) kσ2_457

set_option maxRecDepth 100000 in
theorem kk_X11_tryOrders_B {N : Nat} {K len : Nat → Nat} {R : Int32 → Int32 → Int32 → SG → RG → Option (SG)} {a1 : Int32} {a2 : Int32} {a3 : Int32} {σ : SG} {ρ : RG} (hL : Lay N K len ρ) (hR : ∀ (y0 : Int32) (y1 : Int32) (y2 : Int32) (σ : SG), kp (R y0 y1 y2 σ ρ) (fun q => KC σ q)) : kp (F_X11_tryOrders_B N K len R a1 a2 a3 σ ρ) (fun q => KC σ q) := by
  unfold F_X11_tryOrders_B
  refine kp_if ?_ ?_
  · exact kp_tr_kc (kk_X11_tryOrders_B_40 hL hR 1024 _ _ _ _ _) (kc_refl _)
  · refine kp_if ?_ ?_
    · unfold F_X11_tryOrders_B_26
      refine kp_nm (fun σ40_455 hσ40_455 => ?_)
      have kσ40_455 : KC σ σ40_455 := by rw [hσ40_455]; exact kc_trans (kc_refl _) (kc_lit (by decide))
      refine kp_bn (kk_X11_keepPath hL) (fun σ41_456 hσ41_456 => ?_)
      have kσ41_456 : KC σ σ41_456 := kc_trans kσ40_455 hσ41_456
      exact kp_some kσ41_456
    · refine kp_if ?_ ?_
      · exact kp_some (kc_refl _)
      · unfold F_X11_tryOrders_B_26
        refine kp_nm (fun σ40_460 hσ40_460 => ?_)
        have kσ40_460 : KC σ σ40_460 := by rw [hσ40_460]; exact kc_trans (kc_refl _) (kc_lit (by decide))
        refine kp_bn (kk_X11_keepPath hL) (fun σ41_461 hσ41_461 => ?_)
        have kσ41_461 : KC σ σ41_461 := kc_trans kσ40_460 hσ41_461
        exact kp_some kσ41_461

theorem kk_X11_tryOrders_R {N : Nat} {K len : Nat → Nat} {ρ : RG} (hL : Lay N K len ρ) : ∀ (d : Nat) (a1 : Int32) (a2 : Int32) (a3 : Int32) (σ : SG), kp (F_X11_tryOrders_R N K len d a1 a2 a3 σ ρ) (fun q => KC σ q) := by
  intro d
  induction d with
  | zero => intro a1 a2 a3 σ; exact kp_none
  | succ d ih =>
    intro a1 a2 a3 σ
    exact kk_X11_tryOrders_B hL ih

theorem kk_X11_tryOrders {N : Nat} {K len : Nat → Nat} {a1 : Int32} {a2 : Int32} {a3 : Int32} {σ : SG} {ρ : RG} (hL : Lay N K len ρ) : kp (F_X11_tryOrders N K len a1 a2 a3 σ ρ) (fun q => KC σ q) := kk_X11_tryOrders_R hL _ _ _ _ _

set_option maxRecDepth 100000 in
theorem kk_X11_order {N : Nat} {K len : Nat → Nat} {a1 : Int32} {σ : SG} {ρ : RG} (hL : Lay N K len ρ) : kp (F_X11_order N K len a1 σ ρ) (fun q => KC σ q.2) := by
  unfold F_X11_order
  refine kp_bx (fun r1_415 => ?_)
  refine kp_if ?_ ?_
  · exact kp_some (kc_refl _)
  · refine kp_if ?_ ?_
    · refine kp_bn (kk_X11_startSteps hL) (fun σ4_416 hσ4_416 => ?_)
      have kσ4_416 : KC σ σ4_416 := kc_trans (kc_refl _) hσ4_416
      refine kp_bn (kk_X11_tryOrders hL) (fun σ5_417 hσ5_417 => ?_)
      have kσ5_417 : KC σ σ5_417 := kc_trans kσ4_416 hσ5_417
      refine kp_if ?_ ?_
      · exact kp_some kσ5_417
      · refine kp_if ?_ ?_
        · refine kp_if ?_ ?_
          · refine kp_bx (fun r9_462 => ?_)
            exact kp_some kσ5_417
          · exact kp_some kσ5_417
        · exact kp_some kσ5_417
    · exact kp_some (kc_refl _)

set_option maxRecDepth 100000 in
theorem kk_X11_cancel_45 {N : Nat} {K len : Nat → Nat} {rec_11 : SG → RG → Int32 → Int32 → Int32 → Option (Int32 × SG)} {ρ : RG} (hL : Lay N K len ρ) (hrec_11 : ∀ (σ : SG) (y2 : Int32) (y3 : Int32) (y4 : Int32), kp (rec_11 σ ρ y2 y3 y4) (fun q => KC σ q.2)) : ∀ (n : Nat) (σ : SG) (v1 : Int32) (v2 : Int32) (v3 : Int32) (v4 : Int32), kp (F_X11_cancel_45 N K len rec_11 n σ ρ v1 v2 v3 v4) (fun q => KC σ q.2) := by
  intro n
  induction n with
  | zero => intro σ v1 v2 v3 v4; exact kp_none
  | succ n ih =>
    intro σ v1 v2 v3 v4
    unfold F_X11_cancel_45
    refine kp_if ?_ ?_
    · unfold F_X11_cancel_118
      refine kp_nm (fun x8_468 _ => ?_)
      exact kp_tr2_kc (hrec_11 _ _ _ _) (kc_refl _)
    · refine kp_bx (fun o9_469 => ?_)
      refine kp_oc ?_ (fun c10_470 => ?_)
      · refine kp_bx (fun r11_471 => ?_)
        refine kp_if ?_ ?_
        · unfold F_X11_cancel_112
          refine kp_nm (fun x13_472 _ => ?_)
          exact kp_tr2_kc (ih _ _ _ _ _) (kc_refl _)
        · refine kp_if ?_ ?_
          · unfold F_X11_cancel_94
            refine kp_bx (fun r15_473 => ?_)
            refine kp_nm (fun x16_474 _ => ?_)
            refine kp_nm (fun x17_475 _ => ?_)
            unfold F_X11_cancel_112
            refine kp_nm (fun x13_476 _ => ?_)
            exact kp_tr2_kc (ih _ _ _ _ _) (kc_refl _)
          · refine kp_bx (fun r18_477 => ?_)
            refine kp_if ?_ ?_
            · unfold F_X11_cancel_112
              refine kp_nm (fun x13_478 _ => ?_)
              exact kp_tr2_kc (ih _ _ _ _ _) (kc_refl _)
            · unfold F_X11_cancel_94
              refine kp_bx (fun r15_479 => ?_)
              refine kp_nm (fun x16_480 _ => ?_)
              refine kp_nm (fun x17_481 _ => ?_)
              unfold F_X11_cancel_112
              refine kp_nm (fun x13_482 _ => ?_)
              exact kp_tr2_kc (ih _ _ _ _ _) (kc_refl _)
      · refine kp_gd (fun g_483 => ?_)
        refine kp_bn2 (kk_X11_tryStep hL g_483) (fun r20_484 σ20_485 hr20_484 => ?_)
        have kσ20_485 : KC σ σ20_485 := kc_trans (kc_refl _) hr20_484
        refine kp_if ?_ ?_
        · unfold F_X11_cancel_112
          refine kp_nm (fun x13_486 _ => ?_)
          exact kp_tr2_kc (ih _ _ _ _ _) kσ20_485
        · refine kp_if ?_ ?_
          · unfold F_X11_cancel_94
            refine kp_bx (fun r15_487 => ?_)
            refine kp_nm (fun x16_488 _ => ?_)
            refine kp_nm (fun x17_489 _ => ?_)
            unfold F_X11_cancel_112
            refine kp_nm (fun x13_490 _ => ?_)
            exact kp_tr2_kc (ih _ _ _ _ _) kσ20_485
          · refine kp_bx (fun r23_491 => ?_)
            refine kp_if ?_ ?_
            · unfold F_X11_cancel_112
              refine kp_nm (fun x13_492 _ => ?_)
              exact kp_tr2_kc (ih _ _ _ _ _) kσ20_485
            · unfold F_X11_cancel_94
              refine kp_bx (fun r15_493 => ?_)
              refine kp_nm (fun x16_494 _ => ?_)
              refine kp_nm (fun x17_495 _ => ?_)
              unfold F_X11_cancel_112
              refine kp_nm (fun x13_496 _ => ?_)
              exact kp_tr2_kc (ih _ _ _ _ _) kσ20_485

set_option maxRecDepth 100000 in
theorem kk_X11_cancel_11 {N : Nat} {K len : Nat → Nat} {ρ : RG} (hL : Lay N K len ρ) : ∀ (n : Nat) (σ : SG) (v1 : Int32) (v2 : Int32) (v3 : Int32), kp (F_X11_cancel_11 N K len n σ ρ v1 v2 v3) (fun q => KC σ q.2) := by
  intro n
  induction n with
  | zero => intro σ v1 v2 v3; exact kp_none
  | succ n ih =>
    intro σ v1 v2 v3
    unfold F_X11_cancel_11
    refine kp_if ?_ ?_
    · exact kp_some (kc_refl _)
    · refine kp_bx (fun o3_464 => ?_)
      refine kp_oc ?_ (fun c4_465 => ?_)
      · refine kp_bx (fun r5_466 => ?_)
        refine kp_if ?_ ?_
        · unfold F_X11_cancel_118
          refine kp_nm (fun x8_467 _ => ?_)
          exact kp_tr2_kc (ih _ _ _ _) (kc_refl _)
        · exact kp_tr2_kc (kk_X11_cancel_45 hL (fun x0 x1 x2 x3 => ih x0 x1 x2 x3) 1024 _ _ _ _ _) (kc_refl _)
      · refine kp_gd (fun g_497 => ?_)
        refine kp_bn2 (kk_X11_tryStep hL g_497) (fun r25_498 σ25_499 hr25_498 => ?_)
        have kσ25_499 : KC σ σ25_499 := kc_trans (kc_refl _) hr25_498
        refine kp_if ?_ ?_
        · unfold F_X11_cancel_118
          refine kp_nm (fun x8_500 _ => ?_)
          exact kp_tr2_kc (ih _ _ _ _) kσ25_499
        · exact kp_tr2_kc (kk_X11_cancel_45 hL (fun x0 x1 x2 x3 => ih x0 x1 x2 x3) 1024 _ _ _ _ _) kσ25_499

set_option maxRecDepth 100000 in
theorem kk_X11_cancel {N : Nat} {K len : Nat → Nat} {σ : SG} {ρ : RG} (hL : Lay N K len ρ) : kp (F_X11_cancel N K len σ ρ) (fun q => KC σ q.2) := by
  unfold F_X11_cancel
  refine kp_bn (kk_X11_startSteps hL) (fun σ1_463 hσ1_463 => ?_)
  have kσ1_463 : KC σ σ1_463 := kc_trans (kc_refl _) hσ1_463
  exact kp_tr2_kc (kk_X11_cancel_11 hL 1024 _ _ _ _) kσ1_463

set_option maxRecDepth 100000 in
theorem kk_X11_enough_21 {N : Nat} {K len : Nat → Nat} {a1 : Int32} {ρ : RG} (hL : Lay N K len ρ) : ∀ (n : Nat) (σ : SG) (r2 : Nat) (v3 : Int32), isC N K r2 = true → kp (F_X11_enough_21 N K len a1 n σ ρ r2 v3) (fun q => KC σ q.2) := by
  intro n
  induction n with
  | zero => intro σ r2 v3 f_r2; exact kp_none
  | succ n ih =>
    intro σ r2 v3 f_r2
    unfold F_X11_enough_21
    refine kp_gd (fun g_505 => ?_)
    refine kp_if ?_ ?_
    · exact kp_some (kc_refl _)
    · refine kp_bn2 (kk_X11_tryStep hL g_505) (fun r5_506 σ5_507 hr5_506 => ?_)
      have kσ5_507 : KC σ σ5_507 := kc_trans (kc_refl _) hr5_506
      refine kp_if ?_ ?_
      · unfold F_X11_enough_61
        refine kp_gd (fun g_508 => ?_)
        refine kp_nm (fun x7_509 _ => ?_)
        exact kp_tr2_kc (ih _ _ _ g_508) kσ5_507
      · refine kp_if ?_ ?_
        · unfold F_X11_enough_61
          refine kp_gd (fun g_510 => ?_)
          refine kp_nm (fun x7_511 _ => ?_)
          exact kp_tr2_kc (ih _ _ _ g_510) kσ5_507
        · exact kp_some kσ5_507

set_option maxRecDepth 100000 in
theorem kk_X11_enough {N : Nat} {K len : Nat → Nat} {a1 : Int32} {σ : SG} {ρ : RG} (hL : Lay N K len ρ) : kp (F_X11_enough N K len a1 σ ρ) (fun q => KC σ q.2) := by
  unfold F_X11_enough
  refine kp_bx (fun o1_501 => ?_)
  refine kp_oc ?_ (fun c2_502 => ?_)
  · exact kp_some (kc_refl _)
  · refine kp_gd (fun g_503 => ?_)
    refine kp_bn (kk_X11_startSteps hL) (fun σ3_504 hσ3_504 => ?_)
    have kσ3_504 : KC σ σ3_504 := kc_trans (kc_refl _) hσ3_504
    exact kp_tr2_kc (kk_X11_enough_21 hL 1024 _ _ _ g_503) kσ3_504

set_option maxRecDepth 100000 in
theorem kk_X11_when_44 {N : Nat} {K len : Nat → Nat} {a1 : Int32} {a2 : Int32} {ρ : RG} (hL : Lay N K len ρ) : ∀ (n : Nat) (σ : SG) (v1 : Int32) (v2 : Int32) (v3 : Int32) (v4 : Int32) (v5 : Int32), kp (F_X11_when_44 N K len a1 a2 n σ ρ v1 v2 v3 v4 v5) (fun q => KC σ q.2) := by
  intro n
  induction n with
  | zero => intro σ v1 v2 v3 v4 v5; exact kp_none
  | succ n ih =>
    intro σ v1 v2 v3 v4 v5
    unfold F_X11_when_44
    refine kp_if ?_ ?_
    · refine kp_if ?_ ?_
      · exact kp_some (kc_refl _)
      · refine kp_if ?_ ?_
        · exact kp_some (kc_refl _)
        · exact kp_some (kc_refl _)
    · refine kp_bn (kk_X11_goOn hL) (fun σ9_515 hσ9_515 => ?_)
      have kσ9_515 : KC σ σ9_515 := kc_trans (kc_refl _) hσ9_515
      refine kp_if ?_ ?_
      · unfold F_X11_when_76
        refine kp_nm (fun x11_516 _ => ?_)
        exact kp_tr2_kc (ih _ _ _ _ _ _) kσ9_515
      · unfold F_X11_when_76
        refine kp_nm (fun x11_517 _ => ?_)
        exact kp_tr2_kc (ih _ _ _ _ _ _) kσ9_515

set_option maxRecDepth 100000 in
theorem kk_X11_when {N : Nat} {K len : Nat → Nat} {a1 : Int32} {a2 : Int32} {σ : SG} {ρ : RG} (hL : Lay N K len ρ) : kp (F_X11_when N K len a1 a2 σ ρ) (fun q => KC σ q.2) := by
  unfold F_X11_when
  refine kp_bx (fun r1_512 => ?_)
  refine kp_if ?_ ?_
  · exact kp_some (kc_refl _)
  · refine kp_bx (fun r3_513 => ?_)
    refine kp_if ?_ ?_
    · exact kp_some (kc_refl _)
    · refine kp_bn (kk_X11_goOn hL) (fun σ5_514 hσ5_514 => ?_)
      have kσ5_514 : KC σ σ5_514 := kc_trans (kc_refl _) hσ5_514
      exact kp_tr2_kc (kk_X11_when_44 hL 1024 _ _ _ _ _ _) kσ5_514

set_option maxRecDepth 100000 in
theorem kk_X11_guide {N : Nat} {K len : Nat → Nat} {a1 : Int32} {σ : SG} {ρ : RG} (hL : Lay N K len ρ) : kp (F_X11_guide N K len a1 σ ρ) (fun q => KC σ q.2) := by
  unfold F_X11_guide
  refine kp_bx (fun r1_518 => ?_)
  refine kp_if ?_ ?_
  · exact kp_some (kc_refl _)
  · refine kp_bn (kk_X11_goOn hL) (fun σ3_519 hσ3_519 => ?_)
    have kσ3_519 : KC σ σ3_519 := kc_trans (kc_refl _) hσ3_519
    refine kp_bn (kk_X11_goOn hL) (fun σ4_520 hσ4_520 => ?_)
    have kσ4_520 : KC σ σ4_520 := kc_trans kσ3_519 hσ4_520
    refine kp_nm (fun x5_521 _ => ?_)
    exact kp_some kσ4_520

set_option maxRecDepth 100000 in
theorem kk_X11_again_31 {N : Nat} {K len : Nat → Nat} {a1 : Int32} {ρ : RG} (hL : Lay N K len ρ) : ∀ (n : Nat) (σ : SG) (r2 : Nat) (v3 : Int32), isC N K r2 = true → kp (F_X11_again_31 N K len a1 n σ ρ r2 v3) (fun q => KC σ q.2) := by
  intro n
  induction n with
  | zero => intro σ r2 v3 f_r2; exact kp_none
  | succ n ih =>
    intro σ r2 v3 f_r2
    unfold F_X11_again_31
    refine kp_gd (fun g_526 => ?_)
    refine kp_if ?_ ?_
    · exact kp_some (kc_refl _)
    · refine kp_bn2 (kk_X3_tryCut hL (by decide) g_526) (fun r5_527 σ5_528 hr5_527 => ?_)
      have kσ5_528 : KC σ σ5_528 := kc_trans (kc_refl _) hr5_527
      refine kp_nm (fun σ7_529 hσ7_529 => ?_)
      have kσ7_529 : KC σ σ7_529 := by rw [hσ7_529]; exact kc_trans kσ5_528 (kc_lit (by decide))
      refine kp_if ?_ ?_
      · refine kp_if ?_ ?_
        · exact kp_some kσ7_529
        · unfold F_X11_again_118
          refine kp_gd (fun g_530 => ?_)
          refine kp_nm (fun x9_531 _ => ?_)
          exact kp_tr2_kc (ih _ _ _ g_530) kσ7_529
      · unfold F_X11_again_118
        refine kp_gd (fun g_532 => ?_)
        refine kp_nm (fun x9_533 _ => ?_)
        exact kp_tr2_kc (ih _ _ _ g_532) kσ7_529

set_option maxRecDepth 100000 in
theorem kk_X11_again {N : Nat} {K len : Nat → Nat} {a1 : Int32} {σ : SG} {ρ : RG} (hL : Lay N K len ρ) : kp (F_X11_again N K len a1 σ ρ) (fun q => KC σ q.2) := by
  unfold F_X11_again
  refine kp_bx (fun o1_522 => ?_)
  refine kp_oc ?_ (fun c2_523 => ?_)
  · exact kp_some (kc_refl _)
  · refine kp_gd (fun g_524 => ?_)
    refine kp_bn (kk_X3_takes hL (by decide)) (fun σ3_525 hσ3_525 => ?_)
    have kσ3_525 : KC σ σ3_525 := kc_trans (kc_refl _) hσ3_525
    exact kp_tr2_kc (kk_X11_again_31 hL 1024 _ _ _ g_524) kσ3_525

set_option maxRecDepth 100000 in
theorem kk_X11_evener_44 {N : Nat} {K len : Nat → Nat} {a1 : Int32} {a2 : Int32} {ρ : RG} (hL : Lay N K len ρ) : ∀ (n : Nat) (σ : SG) (v2 : Int32) (v3 : Int32) (v4 : Int32) (v5 : Int32) (v6 : Int32), kp (F_X11_evener_44 N K len a1 a2 n σ ρ v2 v3 v4 v5 v6) (fun q => KC σ q.2) := by
  intro n
  induction n with
  | zero => intro σ v2 v3 v4 v5 v6; exact kp_none
  | succ n ih =>
    intro σ v2 v3 v4 v5 v6
    unfold F_X11_evener_44
    refine kp_if ?_ ?_
    · refine kp_if ?_ ?_
      · exact kp_some (kc_refl _)
      · refine kp_if ?_ ?_
        · exact kp_some (kc_refl _)
        · refine kp_nm (fun x9_537 _ => ?_)
          exact kp_some (kc_refl _)
    · refine kp_bx (fun o10_538 => ?_)
      refine kp_oc ?_ (fun c11_539 => ?_)
      · unfold F_X11_evener_91
        refine kp_if ?_ ?_
        · unfold F_X11_evener_110
          refine kp_if ?_ ?_
          · unfold F_X11_evener_125
            unfold F_X11_evener_132
            refine kp_nm (fun x15_540 _ => ?_)
            exact kp_tr2_kc (ih _ _ _ _ _ _) (kc_refl _)
          · refine kp_if ?_ ?_
            · unfold F_X11_evener_132
              refine kp_nm (fun x15_541 _ => ?_)
              exact kp_tr2_kc (ih _ _ _ _ _ _) (kc_refl _)
            · unfold F_X11_evener_125
              unfold F_X11_evener_132
              refine kp_nm (fun x15_542 _ => ?_)
              exact kp_tr2_kc (ih _ _ _ _ _ _) (kc_refl _)
        · refine kp_nm (fun x13_543 _ => ?_)
          unfold F_X11_evener_110
          refine kp_if ?_ ?_
          · unfold F_X11_evener_125
            unfold F_X11_evener_132
            refine kp_nm (fun x15_544 _ => ?_)
            exact kp_tr2_kc (ih _ _ _ _ _ _) (kc_refl _)
          · refine kp_if ?_ ?_
            · unfold F_X11_evener_132
              refine kp_nm (fun x15_545 _ => ?_)
              exact kp_tr2_kc (ih _ _ _ _ _ _) (kc_refl _)
            · unfold F_X11_evener_125
              unfold F_X11_evener_132
              refine kp_nm (fun x15_546 _ => ?_)
              exact kp_tr2_kc (ih _ _ _ _ _ _) (kc_refl _)
      · refine kp_gd (fun g_547 => ?_)
        refine kp_bx (fun r17_548 => ?_)
        refine kp_nm (fun x18_549 _ => ?_)
        unfold F_X11_evener_91
        refine kp_if ?_ ?_
        · unfold F_X11_evener_110
          refine kp_if ?_ ?_
          · unfold F_X11_evener_125
            unfold F_X11_evener_132
            refine kp_nm (fun x15_550 _ => ?_)
            exact kp_tr2_kc (ih _ _ _ _ _ _) (kc_refl _)
          · refine kp_if ?_ ?_
            · unfold F_X11_evener_132
              refine kp_nm (fun x15_551 _ => ?_)
              exact kp_tr2_kc (ih _ _ _ _ _ _) (kc_refl _)
            · unfold F_X11_evener_125
              unfold F_X11_evener_132
              refine kp_nm (fun x15_552 _ => ?_)
              exact kp_tr2_kc (ih _ _ _ _ _ _) (kc_refl _)
        · refine kp_nm (fun x13_553 _ => ?_)
          unfold F_X11_evener_110
          refine kp_if ?_ ?_
          · unfold F_X11_evener_125
            unfold F_X11_evener_132
            refine kp_nm (fun x15_554 _ => ?_)
            exact kp_tr2_kc (ih _ _ _ _ _ _) (kc_refl _)
          · refine kp_if ?_ ?_
            · unfold F_X11_evener_132
              refine kp_nm (fun x15_555 _ => ?_)
              exact kp_tr2_kc (ih _ _ _ _ _ _) (kc_refl _)
            · unfold F_X11_evener_125
              unfold F_X11_evener_132
              refine kp_nm (fun x15_556 _ => ?_)
              exact kp_tr2_kc (ih _ _ _ _ _ _) (kc_refl _)

set_option maxRecDepth 100000 in
theorem kk_X11_evener {N : Nat} {K len : Nat → Nat} {a1 : Int32} {a2 : Int32} {σ : SG} {ρ : RG} (hL : Lay N K len ρ) : kp (F_X11_evener N K len a1 a2 σ ρ) (fun q => KC σ q.2) := by
  unfold F_X11_evener
  refine kp_bx (fun r1_534 => ?_)
  refine kp_if ?_ ?_
  · exact kp_some (kc_refl _)
  · refine kp_bx (fun r3_535 => ?_)
    refine kp_if ?_ ?_
    · exact kp_some (kc_refl _)
    · refine kp_bn (kk_X11_goOn hL) (fun σ5_536 hσ5_536 => ?_)
      have kσ5_536 : KC σ σ5_536 := kc_trans (kc_refl _) hσ5_536
      exact kp_tr2_kc (kk_X11_evener_44 hL 1024 _ _ _ _ _ _) kσ5_536

set_option maxRecDepth 100000 in
theorem kk_X11_bestOf_B_28 {N : Nat} {K len : Nat → Nat} {R : Nat → Nat → Int32 → Int32 → SG → RG → Option (Int32 × SG)} {z : Nat} {z2 : Nat} {a3 : Int32} {a4 : Int32} {ρ : RG} (hL : Lay N K len ρ) (hR : ∀ (y0 : Nat) (y1 : Nat) (y2 : Int32) (y3 : Int32) (σ : SG), isC N K y0 = true → isC N K y1 = true → kp (R y0 y1 y2 y3 σ ρ) (fun q => KC σ q.2)) (f_z : isC N K z = true) (f_z2 : isC N K z2 = true) : ∀ (n : Nat) (σ : SG) (r1 : Nat) (r2 : Nat) (v3 : Int32) (v4 : Int32) (v5 : Int32) (v6 : Int32) (v7 : Int32), isC N K r1 = true → isC N K r2 = true → kp (F_X11_bestOf_B_28 N K len R z z2 a3 a4 n σ ρ r1 r2 v3 v4 v5 v6 v7) (fun q => KC σ q.2) := by
  intro n
  induction n with
  | zero => intro σ r1 r2 v3 v4 v5 v6 v7 f_r1 f_r2; exact kp_none
  | succ n ih =>
    intro σ r1 r2 v3 v4 v5 v6 v7 f_r1 f_r2
    unfold F_X11_bestOf_B_28
    refine kp_gd (fun g_572 => ?_)
    refine kp_gd (fun g_573 => ?_)
    refine kp_if ?_ ?_
    · refine kp_if ?_ ?_
      · refine kp_nm (fun x9_574 _ => ?_)
        refine kp_gd (fun g_575 => ?_)
        refine kp_oce ?_ (fun c11_576 o_577 => ?_)
        · exact kp_none
        · refine kp_gd (fun g_578 => ?_)
          refine kp_gd (fun g_579 => ?_)
          refine kp_oce ?_ (fun c13_580 o_581 => ?_)
          · exact kp_none
          · refine kp_gd (fun g_582 => ?_)
            refine kp_bn (kk_X3_takes hL (lx_34 hL g_575 o_577)) (fun σ14_583 hσ14_583 => ?_)
            have kσ14_583 : KC σ σ14_583 := kc_trans (kc_refl _) hσ14_583
            refine kp_nm (fun x15_584 _ => ?_)
            refine kp_nm (fun x16_585 _ => ?_)
            refine kp_bn2 (hR _ _ _ _ _ g_573 g_572) (fun r17_586 σ17_587 hr17_586 => ?_)
            have kσ17_587 : KC σ σ17_587 := kc_trans kσ14_583 hr17_586
            refine kp_nm (fun x18_588 _ => ?_)
            unfold F_X11_bestOf_B_144
            refine kp_if ?_ ?_
            · refine kp_nm (fun σ8_589 hσ8_589 => ?_)
              have kσ8_589 : KC σ σ8_589 := by rw [hσ8_589]; exact kc_trans kσ17_587 (kc_lit (by decide))
              exact kp_some kσ8_589
            · exact kp_some kσ17_587
      · unfold F_X11_bestOf_B_144
        refine kp_if ?_ ?_
        · refine kp_nm (fun σ8_590 hσ8_590 => ?_)
          have kσ8_590 : KC σ σ8_590 := by rw [hσ8_590]; exact kc_trans (kc_refl _) (kc_lit (by decide))
          exact kp_some kσ8_590
        · exact kp_some (kc_refl _)
    · refine kp_bx (fun r19_591 => ?_)
      refine kp_bn2 (kk_X11_tryStep hL g_572) (fun r20_592 σ20_593 hr20_592 => ?_)
      have kσ20_593 : KC σ σ20_593 := kc_trans (kc_refl _) hr20_592
      refine kp_if ?_ ?_
      · unfold F_X11_bestOf_B_98
        refine kp_gd (fun g_594 => ?_)
        refine kp_gd (fun g_595 => ?_)
        refine kp_nm (fun x22_596 _ => ?_)
        exact kp_tr2_kc (ih _ _ _ _ _ _ _ _ g_594 g_595) kσ20_593
      · refine kp_nm (fun x23_597 _ => ?_)
        refine kp_gd (fun g_598 => ?_)
        refine kp_oce ?_ (fun c25_599 o_600 => ?_)
        · exact kp_none
        · refine kp_gd (fun g_601 => ?_)
          refine kp_nm (fun x26_602 _ => ?_)
          refine kp_nm (fun x27_603 _ => ?_)
          refine kp_bn2 (hR _ _ _ _ _ g_573 g_572) (fun r28_604 σ28_605 hr28_604 => ?_)
          have kσ28_605 : KC σ σ28_605 := kc_trans kσ20_593 hr28_604
          refine kp_nm (fun x29_606 _ => ?_)
          refine kp_if ?_ ?_
          · unfold F_X11_bestOf_B_90
            refine kp_gd (fun g_607 => ?_)
            refine kp_gd (fun g_608 => ?_)
            unfold F_X11_bestOf_B_98
            refine kp_gd (fun g_609 => ?_)
            refine kp_gd (fun g_610 => ?_)
            refine kp_nm (fun x22_611 _ => ?_)
            exact kp_tr2_kc (ih _ _ _ _ _ _ _ _ g_609 g_610) kσ28_605
          · refine kp_if ?_ ?_
            · unfold F_X11_bestOf_B_98
              refine kp_gd (fun g_612 => ?_)
              refine kp_gd (fun g_613 => ?_)
              refine kp_nm (fun x22_614 _ => ?_)
              exact kp_tr2_kc (ih _ _ _ _ _ _ _ _ g_612 g_613) kσ28_605
            · unfold F_X11_bestOf_B_90
              refine kp_gd (fun g_615 => ?_)
              refine kp_gd (fun g_616 => ?_)
              unfold F_X11_bestOf_B_98
              refine kp_gd (fun g_617 => ?_)
              refine kp_gd (fun g_618 => ?_)
              refine kp_nm (fun x22_619 _ => ?_)
              exact kp_tr2_kc (ih _ _ _ _ _ _ _ _ g_617 g_618) kσ28_605

set_option maxRecDepth 100000 in
theorem kk_X11_bestOf_B {N : Nat} {K len : Nat → Nat} {R : Nat → Nat → Int32 → Int32 → SG → RG → Option (Int32 × SG)} {z : Nat} {z2 : Nat} {a3 : Int32} {a4 : Int32} {σ : SG} {ρ : RG} (hL : Lay N K len ρ) (hR : ∀ (y0 : Nat) (y1 : Nat) (y2 : Int32) (y3 : Int32) (σ : SG), isC N K y0 = true → isC N K y1 = true → kp (R y0 y1 y2 y3 σ ρ) (fun q => KC σ q.2)) (f_z : isC N K z = true) (f_z2 : isC N K z2 = true) : kp (F_X11_bestOf_B N K len R z z2 a3 a4 σ ρ) (fun q => KC σ q.2) := by
  unfold F_X11_bestOf_B
  refine kp_if ?_ ?_
  · exact kp_some (kc_refl _)
  · refine kp_nm (fun x2_571 _ => ?_)
    refine kp_if ?_ ?_
    · exact kp_tr2_kc (kk_X11_bestOf_B_28 hL hR f_z f_z2 1024 _ _ _ _ _ _ _ _ f_z f_z2) (kc_refl _)
    · exact kp_some (kc_refl _)

theorem kk_X11_bestOf_R {N : Nat} {K len : Nat → Nat} {ρ : RG} (hL : Lay N K len ρ) : ∀ (d : Nat) (z : Nat) (z2 : Nat) (a3 : Int32) (a4 : Int32) (σ : SG), isC N K z = true → isC N K z2 = true → kp (F_X11_bestOf_R N K len d z z2 a3 a4 σ ρ) (fun q => KC σ q.2) := by
  intro d
  induction d with
  | zero => intro z z2 a3 a4 σ f_z f_z2; exact kp_none
  | succ d ih =>
    intro z z2 a3 a4 σ f_z f_z2
    exact kk_X11_bestOf_B hL ih f_z f_z2

theorem kk_X11_bestOf {N : Nat} {K len : Nat → Nat} {z : Nat} {z2 : Nat} {a3 : Int32} {a4 : Int32} {σ : SG} {ρ : RG} (hL : Lay N K len ρ) (f_z : isC N K z = true) (f_z2 : isC N K z2 = true) : kp (F_X11_bestOf N K len z z2 a3 a4 σ ρ) (fun q => KC σ q.2) := kk_X11_bestOf_R hL _ _ _ _ _ _ f_z f_z2

set_option maxRecDepth 100000 in
theorem kk_X11_game {N : Nat} {K len : Nat → Nat} {a1 : Int32} {a2 : Int32} {a3 : Int32} {a4 : Int32} {σ : SG} {ρ : RG} (hL : Lay N K len ρ) : kp (F_X11_game N K len a1 a2 a3 a4 σ ρ) (fun q => KC σ q.2) := by
  unfold F_X11_game
  refine kp_bx (fun o1_557 => ?_)
  refine kp_oc ?_ (fun c2_558 => ?_)
  · refine kp_bx (fun o3_559 => ?_)
    refine kp_oc ?_ (fun c4_560 => ?_)
    · exact kp_some (kc_refl _)
    · refine kp_gd (fun g_561 => ?_)
      exact kp_some (kc_refl _)
  · refine kp_gd (fun g_562 => ?_)
    refine kp_bx (fun o5_563 => ?_)
    refine kp_oc ?_ (fun c6_564 => ?_)
    · exact kp_some (kc_refl _)
    · refine kp_gd (fun g_565 => ?_)
      refine kp_bx (fun r7_566 => ?_)
      refine kp_if ?_ ?_
      · exact kp_some (kc_refl _)
      · refine kp_if ?_ ?_
        · exact kp_some (kc_refl _)
        · refine kp_bx (fun r10_567 => ?_)
          refine kp_if ?_ ?_
          · exact kp_some (kc_refl _)
          · refine kp_bn (kk_X11_startSteps hL) (fun σ12_568 hσ12_568 => ?_)
            have kσ12_568 : KC σ σ12_568 := kc_trans (kc_refl _) hσ12_568
            refine kp_bn2 (kk_X11_bestOf hL g_562 g_565) (fun r13_569 σ13_570 hr13_569 => ?_)
            have kσ13_570 : KC σ σ13_570 := kc_trans kσ12_568 hr13_569
            refine kp_if ?_ ?_
            · exact kp_some kσ13_570
            · exact kp_some kσ13_570

set_option maxRecDepth 100000 in
theorem kk_X11_see {N : Nat} {K len : Nat → Nat} {a1 : Int32} {a2 : Int32} {σ : SG} {ρ : RG} (hL : Lay N K len ρ) : kp (F_X11_see a1 a2 σ ρ) (fun q => KC σ q.2) := by
  unfold F_X11_see
  refine kp_bx (fun r1_620 => ?_)
  refine kp_if ?_ ?_
  · exact kp_some (kc_refl _)
  · refine kp_bx (fun r3_621 => ?_)
    refine kp_if ?_ ?_
    · exact kp_some (kc_refl _)
    · refine kp_nm (fun σ6_622 hσ6_622 => ?_)
      have kσ6_622 : KC σ σ6_622 := by rw [hσ6_622]; exact kc_trans (kc_refl _) (kc_lit (by decide))
      refine kp_nm (fun σ8_623 hσ8_623 => ?_)
      have kσ8_623 : KC σ σ8_623 := by rw [hσ8_623]; exact kc_trans kσ6_622 (kc_lit (by decide))
      exact kp_some kσ8_623

set_option maxRecDepth 100000 in
theorem kk_X11_who_8 {N : Nat} {K len : Nat → Nat} {ρ : RG} (hL : Lay N K len ρ) : ∀ (n : Nat) (σ : SG) (v1 : Int32) (v2 : Int32), kp (F_X11_who_8 N K len n σ ρ v1 v2) (fun q => KC σ q.2) := by
  intro n
  induction n with
  | zero => intro σ v1 v2; exact kp_none
  | succ n ih =>
    intro σ v1 v2
    unfold F_X11_who_8
    refine kp_if ?_ ?_
    · exact kp_some (kc_refl _)
    · refine kp_bx (fun o3_625 => ?_)
      refine kp_oc ?_ (fun c4_626 => ?_)
      · refine kp_bx (fun r5_627 => ?_)
        refine kp_if ?_ ?_
        · unfold F_X11_who_80
          refine kp_nm (fun x7_628 _ => ?_)
          exact kp_tr2_kc (ih _ _ _) (kc_refl _)
        · refine kp_if ?_ ?_
          · refine kp_if ?_ ?_
            · refine kp_nm (fun x10_629 _ => ?_)
              refine kp_nm (fun x11_630 _ => ?_)
              unfold F_X11_who_80
              refine kp_nm (fun x7_631 _ => ?_)
              exact kp_tr2_kc (ih _ _ _) (kc_refl _)
            · unfold F_X11_who_80
              refine kp_nm (fun x7_632 _ => ?_)
              exact kp_tr2_kc (ih _ _ _) (kc_refl _)
          · unfold F_X11_who_80
            refine kp_nm (fun x7_633 _ => ?_)
            exact kp_tr2_kc (ih _ _ _) (kc_refl _)
      · refine kp_gd (fun g_634 => ?_)
        refine kp_bn2 (kk_X11_tryStep hL g_634) (fun r12_635 σ12_636 hr12_635 => ?_)
        have kσ12_636 : KC σ σ12_636 := kc_trans (kc_refl _) hr12_635
        refine kp_if ?_ ?_
        · unfold F_X11_who_80
          refine kp_nm (fun x7_637 _ => ?_)
          exact kp_tr2_kc (ih _ _ _) kσ12_636
        · refine kp_if ?_ ?_
          · refine kp_if ?_ ?_
            · refine kp_nm (fun x16_638 _ => ?_)
              refine kp_nm (fun x17_639 _ => ?_)
              unfold F_X11_who_80
              refine kp_nm (fun x7_640 _ => ?_)
              exact kp_tr2_kc (ih _ _ _) kσ12_636
            · unfold F_X11_who_80
              refine kp_nm (fun x7_641 _ => ?_)
              exact kp_tr2_kc (ih _ _ _) kσ12_636
          · unfold F_X11_who_80
            refine kp_nm (fun x7_642 _ => ?_)
            exact kp_tr2_kc (ih _ _ _) kσ12_636

set_option maxRecDepth 100000 in
theorem kk_X11_who {N : Nat} {K len : Nat → Nat} {σ : SG} {ρ : RG} (hL : Lay N K len ρ) : kp (F_X11_who N K len σ ρ) (fun q => KC σ q.2) := by
  unfold F_X11_who
  refine kp_bn (kk_X11_startSteps hL) (fun σ1_624 hσ1_624 => ?_)
  have kσ1_624 : KC σ σ1_624 := kc_trans (kc_refl _) hσ1_624
  exact kp_tr2_kc (kk_X11_who_8 hL 1024 _ _ _) kσ1_624

set_option maxRecDepth 100000 in
theorem kk_X11_weekRows_B_29 {N : Nat} {K len : Nat → Nat} {R : Int32 → SG → RG → Option (Int32 × SG)} {a1 : Int32} {ρ : RG} (hL : Lay N K len ρ) (hR : ∀ (y0 : Int32) (σ : SG), kp (R y0 σ ρ) (fun q => KC σ q.2)) : ∀ (n : Nat) (σ : SG) (v1 : Int32) (v2 : Int32) (v3 : Int32), kp (F_X11_weekRows_B_29 N K len R a1 n σ ρ v1 v2 v3) (fun q => KC σ q.2) := by
  intro n
  induction n with
  | zero => intro σ v1 v2 v3; exact kp_none
  | succ n ih =>
    intro σ v1 v2 v3
    unfold F_X11_weekRows_B_29
    refine kp_if ?_ ?_
    · exact kp_some (kc_refl _)
    · refine kp_if ?_ ?_
      · exact kp_some (kc_refl _)
      · refine kp_bx (fun o4_647 => ?_)
        refine kp_oc ?_ (fun c5_648 => ?_)
        · refine kp_bx (fun r6_649 => ?_)
          refine kp_if ?_ ?_
          · unfold F_X11_weekRows_B_108
            refine kp_nm (fun x8_650 _ => ?_)
            exact kp_tr2_kc (ih _ _ _ _) (kc_refl _)
          · refine kp_nm (fun x9_651 _ => ?_)
            refine kp_gd (fun g_652 => ?_)
            refine kp_oce ?_ (fun c11_653 o_654 => ?_)
            · exact kp_none
            · refine kp_gd (fun g_655 => ?_)
              refine kp_bx (fun r12_656 => ?_)
              refine kp_if ?_ ?_
              · refine kp_gd (fun _ => ?_)
                refine kp_nm (fun σ16_657 hσ16_657 => ?_)
                have kσ16_657 : KC σ σ16_657 := by rw [hσ16_657]; exact kc_trans (kc_refl _) (kc_row (by decide))
                refine kp_nm (fun x17_658 _ => ?_)
                refine kp_bn2 (hR _ _) (fun r18_659 σ18_660 hr18_659 => ?_)
                have kσ18_660 : KC σ σ18_660 := kc_trans kσ16_657 hr18_659
                refine kp_nm (fun x19_661 _ => ?_)
                unfold F_X11_weekRows_B_108
                refine kp_nm (fun x8_662 _ => ?_)
                exact kp_tr2_kc (ih _ _ _ _) kσ18_660
              · unfold F_X11_weekRows_B_108
                refine kp_nm (fun x8_663 _ => ?_)
                exact kp_tr2_kc (ih _ _ _ _) (kc_refl _)
        · refine kp_gd (fun g_664 => ?_)
          refine kp_bn2 (kk_X11_tryStep hL g_664) (fun r20_665 σ20_666 hr20_665 => ?_)
          have kσ20_666 : KC σ σ20_666 := kc_trans (kc_refl _) hr20_665
          refine kp_if ?_ ?_
          · unfold F_X11_weekRows_B_108
            refine kp_nm (fun x8_667 _ => ?_)
            exact kp_tr2_kc (ih _ _ _ _) kσ20_666
          · refine kp_nm (fun x22_668 _ => ?_)
            refine kp_gd (fun g_669 => ?_)
            refine kp_oce ?_ (fun c24_670 o_671 => ?_)
            · exact kp_none
            · refine kp_gd (fun g_672 => ?_)
              refine kp_bx (fun r25_673 => ?_)
              refine kp_if ?_ ?_
              · refine kp_gd (fun _ => ?_)
                refine kp_nm (fun σ29_674 hσ29_674 => ?_)
                have kσ29_674 : KC σ σ29_674 := by rw [hσ29_674]; exact kc_trans kσ20_666 (kc_row (by decide))
                refine kp_nm (fun x30_675 _ => ?_)
                refine kp_bn2 (hR _ _) (fun r31_676 σ31_677 hr31_676 => ?_)
                have kσ31_677 : KC σ σ31_677 := kc_trans kσ29_674 hr31_676
                refine kp_nm (fun x32_678 _ => ?_)
                unfold F_X11_weekRows_B_108
                refine kp_nm (fun x8_679 _ => ?_)
                exact kp_tr2_kc (ih _ _ _ _) kσ31_677
              · unfold F_X11_weekRows_B_108
                refine kp_nm (fun x8_680 _ => ?_)
                exact kp_tr2_kc (ih _ _ _ _) kσ20_666

set_option maxRecDepth 100000 in
theorem kk_X11_weekRows_B {N : Nat} {K len : Nat → Nat} {R : Int32 → SG → RG → Option (Int32 × SG)} {a1 : Int32} {σ : SG} {ρ : RG} (hL : Lay N K len ρ) (hR : ∀ (y0 : Int32) (σ : SG), kp (R y0 σ ρ) (fun q => KC σ q.2)) : kp (F_X11_weekRows_B N K len R a1 σ ρ) (fun q => KC σ q.2) := by
  unfold F_X11_weekRows_B
  refine kp_if ?_ ?_
  · exact kp_tr2_kc (kk_X11_weekRows_B_29 hL hR 1024 _ _ _ _) (kc_refl _)
  · refine kp_if ?_ ?_
    · refine kp_bn (kk_X11_keepPath hL) (fun σ34_681 hσ34_681 => ?_)
      have kσ34_681 : KC σ σ34_681 := kc_trans (kc_refl _) hσ34_681
      exact kp_some kσ34_681
    · exact kp_some (kc_refl _)

theorem kk_X11_weekRows_R {N : Nat} {K len : Nat → Nat} {ρ : RG} (hL : Lay N K len ρ) : ∀ (d : Nat) (a1 : Int32) (σ : SG), kp (F_X11_weekRows_R N K len d a1 σ ρ) (fun q => KC σ q.2) := by
  intro d
  induction d with
  | zero => intro a1 σ; exact kp_none
  | succ d ih =>
    intro a1 σ
    exact kk_X11_weekRows_B hL ih

theorem kk_X11_weekRows {N : Nat} {K len : Nat → Nat} {a1 : Int32} {σ : SG} {ρ : RG} (hL : Lay N K len ρ) : kp (F_X11_weekRows N K len a1 σ ρ) (fun q => KC σ q.2) := kk_X11_weekRows_R hL _ _ _

set_option maxRecDepth 100000 in
theorem kk_X11_rows {N : Nat} {K len : Nat → Nat} {a1 : Int32} {σ : SG} {ρ : RG} (hL : Lay N K len ρ) : kp (F_X11_rows N K len a1 σ ρ) (fun q => KC σ q.2) := by
  unfold F_X11_rows
  refine kp_bx (fun r1_643 => ?_)
  refine kp_if ?_ ?_
  · exact kp_some (kc_refl _)
  · refine kp_bn (kk_X11_startSteps hL) (fun σ3_644 hσ3_644 => ?_)
    have kσ3_644 : KC σ σ3_644 := kc_trans (kc_refl _) hσ3_644
    refine kp_bn2 (kk_X11_weekRows hL) (fun r4_645 σ4_646 hr4_645 => ?_)
    have kσ4_646 : KC σ σ4_646 := kc_trans kσ3_644 hr4_645
    refine kp_if ?_ ?_
    · refine kp_if ?_ ?_
      · exact kp_some kσ4_646
      · refine kp_if ?_ ?_
        · exact kp_some kσ4_646
        · refine kp_bx (fun r8_682 => ?_)
          exact kp_some kσ4_646
    · exact kp_some kσ4_646

set_option maxRecDepth 100000 in
theorem kk_X11_goodRows_B_12 {N : Nat} {K len : Nat → Nat} {R : Int32 → Int32 → SG → RG → Option (Int64 × SG)} {a1 : Int32} {a2 : Int32} {ρ : RG} (hL : Lay N K len ρ) (hR : ∀ (y0 : Int32) (y1 : Int32) (σ : SG), kp (R y0 y1 σ ρ) (fun q => KC σ q.2)) : ∀ (n : Nat) (σ : SG) (v1 : Int32) (v2 : Int32) (v3 : Int64) (v5 : Int32), kp (F_X11_goodRows_B_12 N K len R a1 a2 n σ ρ v1 v2 v3 v5) (fun q => KC σ q.2) := by
  intro n
  induction n with
  | zero => intro σ v1 v2 v3 v5; exact kp_none
  | succ n ih =>
    intro σ v1 v2 v3 v5
    unfold F_X11_goodRows_B_12
    refine kp_if ?_ ?_
    · exact kp_some (kc_refl _)
    · refine kp_bx (fun o3_688 => ?_)
      refine kp_oc ?_ (fun c4_689 => ?_)
      · refine kp_bx (fun r5_690 => ?_)
        refine kp_if ?_ ?_
        · unfold F_X11_goodRows_B_77
          refine kp_nm (fun x7_691 _ => ?_)
          exact kp_tr2_kc (ih _ _ _ _ _) (kc_refl _)
        · refine kp_nm (fun x8_692 _ => ?_)
          refine kp_gd (fun g_693 => ?_)
          refine kp_oce ?_ (fun c10_694 o_695 => ?_)
          · exact kp_none
          · refine kp_gd (fun g_696 => ?_)
            refine kp_if ?_ ?_
            · unfold F_X11_goodRows_B_77
              refine kp_nm (fun x7_697 _ => ?_)
              exact kp_tr2_kc (ih _ _ _ _ _) (kc_refl _)
            · refine kp_nm (fun x12_698 _ => ?_)
              refine kp_bn2 (hR _ _ _) (fun r13_699 σ13_700 hr13_699 => ?_)
              have kσ13_700 : KC σ σ13_700 := kc_trans (kc_refl _) hr13_699
              refine kp_nm (fun x14_701 _ => ?_)
              unfold F_X11_goodRows_B_77
              refine kp_nm (fun x7_702 _ => ?_)
              exact kp_tr2_kc (ih _ _ _ _ _) kσ13_700
      · refine kp_gd (fun g_703 => ?_)
        refine kp_bn2 (kk_X11_tryStep hL g_703) (fun r15_704 σ15_705 hr15_704 => ?_)
        have kσ15_705 : KC σ σ15_705 := kc_trans (kc_refl _) hr15_704
        refine kp_if ?_ ?_
        · unfold F_X11_goodRows_B_77
          refine kp_nm (fun x7_706 _ => ?_)
          exact kp_tr2_kc (ih _ _ _ _ _) kσ15_705
        · refine kp_nm (fun x17_707 _ => ?_)
          refine kp_gd (fun g_708 => ?_)
          refine kp_oce ?_ (fun c19_709 o_710 => ?_)
          · exact kp_none
          · refine kp_gd (fun g_711 => ?_)
            refine kp_if ?_ ?_
            · unfold F_X11_goodRows_B_77
              refine kp_nm (fun x7_712 _ => ?_)
              exact kp_tr2_kc (ih _ _ _ _ _) kσ15_705
            · refine kp_nm (fun x21_713 _ => ?_)
              refine kp_bn2 (hR _ _ _) (fun r22_714 σ22_715 hr22_714 => ?_)
              have kσ22_715 : KC σ σ22_715 := kc_trans kσ15_705 hr22_714
              refine kp_nm (fun x23_716 _ => ?_)
              unfold F_X11_goodRows_B_77
              refine kp_nm (fun x7_717 _ => ?_)
              exact kp_tr2_kc (ih _ _ _ _ _) kσ22_715

set_option maxRecDepth 100000 in
theorem kk_X11_goodRows_B {N : Nat} {K len : Nat → Nat} {R : Int32 → Int32 → SG → RG → Option (Int64 × SG)} {a1 : Int32} {a2 : Int32} {σ : SG} {ρ : RG} (hL : Lay N K len ρ) (hR : ∀ (y0 : Int32) (y1 : Int32) (σ : SG), kp (R y0 y1 σ ρ) (fun q => KC σ q.2)) : kp (F_X11_goodRows_B N K len R a1 a2 σ ρ) (fun q => KC σ q.2) := by
  unfold F_X11_goodRows_B
  refine kp_if ?_ ?_
  · exact kp_tr2_kc (kk_X11_goodRows_B_12 hL hR 1024 _ _ _ _ _) (kc_refl _)
  · exact kp_some (kc_refl _)

theorem kk_X11_goodRows_R {N : Nat} {K len : Nat → Nat} {ρ : RG} (hL : Lay N K len ρ) : ∀ (d : Nat) (a1 : Int32) (a2 : Int32) (σ : SG), kp (F_X11_goodRows_R N K len d a1 a2 σ ρ) (fun q => KC σ q.2) := by
  intro d
  induction d with
  | zero => intro a1 a2 σ; exact kp_none
  | succ d ih =>
    intro a1 a2 σ
    exact kk_X11_goodRows_B hL ih

theorem kk_X11_goodRows {N : Nat} {K len : Nat → Nat} {a1 : Int32} {a2 : Int32} {σ : SG} {ρ : RG} (hL : Lay N K len ρ) : kp (F_X11_goodRows N K len a1 a2 σ ρ) (fun q => KC σ q.2) := kk_X11_goodRows_R hL _ _ _ _

set_option maxRecDepth 100000 in
theorem kk_X11_odds_37 {N : Nat} {K len : Nat → Nat} {a1 : Int32} {a2 : Int32} {ρ : RG} (hL : Lay N K len ρ) : ∀ (n : Nat) (σ : SG) (v1 : Int32) (v2 : Int32) (v3 : Int64) (v5 : Int32), kp (F_X11_odds_37 N K len a1 a2 n σ ρ v1 v2 v3 v5) (fun q => KC σ q.2) := by
  intro n
  induction n with
  | zero => intro σ v1 v2 v3 v5; exact kp_none
  | succ n ih =>
    intro σ v1 v2 v3 v5
    unfold F_X11_odds_37
    refine kp_if ?_ ?_
    · refine kp_bn (kk_X11_startSteps hL) (fun σ7_685 hσ7_685 => ?_)
      have kσ7_685 : KC σ σ7_685 := kc_trans (kc_refl _) hσ7_685
      refine kp_bn2 (kk_X11_goodRows hL) (fun r8_686 σ8_687 hr8_686 => ?_)
      have kσ8_687 : KC σ σ8_687 := kc_trans kσ7_685 hr8_686
      refine kp_bx (fun r9_718 => ?_)
      exact kp_some kσ8_687
    · refine kp_nm (fun x10_719 _ => ?_)
      refine kp_nm (fun x11_720 _ => ?_)
      exact kp_tr2_kc (ih _ _ _ _ _) (kc_refl _)

set_option maxRecDepth 100000 in
theorem kk_X11_odds {N : Nat} {K len : Nat → Nat} {a1 : Int32} {a2 : Int32} {σ : SG} {ρ : RG} (hL : Lay N K len ρ) : kp (F_X11_odds N K len a1 a2 σ ρ) (fun q => KC σ q.2) := by
  unfold F_X11_odds
  refine kp_bx (fun r1_683 => ?_)
  refine kp_if ?_ ?_
  · exact kp_some (kc_refl _)
  · refine kp_bx (fun r3_684 => ?_)
    refine kp_if ?_ ?_
    · exact kp_some (kc_refl _)
    · refine kp_if ?_ ?_
      · exact kp_some (kc_refl _)
      · exact kp_tr2_kc (kk_X11_odds_37 hL 1024 _ _ _ _ _) (kc_refl _)

set_option maxRecDepth 100000 in
theorem kk_X11_mean_32 {N : Nat} {K len : Nat → Nat} {a1 : Int32} {ρ : RG} (hL : Lay N K len ρ) : ∀ (n : Nat) (σ : SG) (v1 : Int32) (v2 : Int64) (v4 : Int32), kp (F_X11_mean_32 N K len a1 n σ ρ v1 v2 v4) (fun q => KC σ q.2) := by
  intro n
  induction n with
  | zero => intro σ v1 v2 v4; exact kp_none
  | succ n ih =>
    intro σ v1 v2 v4
    unfold F_X11_mean_32
    refine kp_if ?_ ?_
    · refine kp_bx (fun r6_723 => ?_)
      exact kp_some (kc_refl _)
    · refine kp_bx (fun o7_724 => ?_)
      refine kp_oc ?_ (fun c8_725 => ?_)
      · refine kp_bx (fun r9_726 => ?_)
        refine kp_if ?_ ?_
        · unfold F_X11_mean_75
          refine kp_nm (fun x11_727 _ => ?_)
          exact kp_tr2_kc (ih _ _ _ _) (kc_refl _)
        · refine kp_nm (fun x12_728 _ => ?_)
          unfold F_X11_mean_75
          refine kp_nm (fun x11_729 _ => ?_)
          exact kp_tr2_kc (ih _ _ _ _) (kc_refl _)
      · refine kp_gd (fun g_730 => ?_)
        refine kp_bn2 (kk_X11_tryStep hL g_730) (fun r13_731 σ13_732 hr13_731 => ?_)
        have kσ13_732 : KC σ σ13_732 := kc_trans (kc_refl _) hr13_731
        refine kp_if ?_ ?_
        · unfold F_X11_mean_75
          refine kp_nm (fun x11_733 _ => ?_)
          exact kp_tr2_kc (ih _ _ _ _) kσ13_732
        · refine kp_nm (fun x15_734 _ => ?_)
          unfold F_X11_mean_75
          refine kp_nm (fun x11_735 _ => ?_)
          exact kp_tr2_kc (ih _ _ _ _) kσ13_732

set_option maxRecDepth 100000 in
theorem kk_X11_mean {N : Nat} {K len : Nat → Nat} {a1 : Int32} {σ : SG} {ρ : RG} (hL : Lay N K len ρ) : kp (F_X11_mean N K len a1 σ ρ) (fun q => KC σ q.2) := by
  unfold F_X11_mean
  refine kp_bx (fun r1_721 => ?_)
  refine kp_if ?_ ?_
  · exact kp_some (kc_refl _)
  · refine kp_if ?_ ?_
    · exact kp_some (kc_refl _)
    · refine kp_bn (kk_X11_startSteps hL) (fun σ4_722 hσ4_722 => ?_)
      have kσ4_722 : KC σ σ4_722 := kc_trans (kc_refl _) hσ4_722
      exact kp_tr2_kc (kk_X11_mean_32 hL 1024 _ _ _ _) kσ4_722

set_option maxRecDepth 100000 in
theorem kk_X11_looked_16 {N : Nat} {K len : Nat → Nat} {ρ : RG} (hL : Lay N K len ρ) : ∀ (n : Nat) (σ : SG) (v1 : Int32), kp (F_X11_looked_16 N K len n σ ρ v1) (fun q => KC σ q.2) := by
  intro n
  induction n with
  | zero => intro σ v1; exact kp_none
  | succ n ih =>
    intro σ v1
    unfold F_X11_looked_16
    refine kp_if ?_ ?_
    · exact kp_some (kc_refl _)
    · refine kp_bx (fun r3_737 => ?_)
      refine kp_bx (fun o4_738 => ?_)
      refine kp_oc ?_ (fun c5_739 => ?_)
      · exact kp_some (kc_refl _)
      · refine kp_gd (fun g_740 => ?_)
        refine kp_bn2 (kk_X3_tryCut hL (by decide) g_740) (fun r6_741 σ6_742 hr6_741 => ?_)
        have kσ6_742 : KC σ σ6_742 := kc_trans (kc_refl _) hr6_741
        refine kp_if ?_ ?_
        · exact kp_some kσ6_742
        · refine kp_bx (fun r8_743 => ?_)
          refine kp_if ?_ ?_
          · refine kp_nm (fun x10_744 _ => ?_)
            exact kp_tr2_kc (ih _ _) kσ6_742
          · exact kp_some kσ6_742

set_option maxRecDepth 100000 in
theorem kk_X11_looked {N : Nat} {K len : Nat → Nat} {σ : SG} {ρ : RG} (hL : Lay N K len ρ) : kp (F_X11_looked N K len σ ρ) (fun q => KC σ q.2) := by
  unfold F_X11_looked
  refine kp_bn (kk_X3_takes hL (by decide)) (fun σ1_736 hσ1_736 => ?_)
  have kσ1_736 : KC σ σ1_736 := kc_trans (kc_refl _) hσ1_736
  exact kp_tr2_kc (kk_X11_looked_16 hL 1024 _ _) kσ1_736

set_option maxRecDepth 100000 in
theorem kk_X11_act {N : Nat} {K len : Nat → Nat} {a1 : Int32} {a2 : Int32} {a3 : Int32} {σ : SG} {ρ : RG} (hL : Lay N K len ρ) : kp (F_X11_act N K len a1 a2 a3 σ ρ) (fun q => KC σ q.2) := by
  unfold F_X11_act
  refine kp_nm (fun σ2_745 hσ2_745 => ?_)
  have kσ2_745 : KC σ σ2_745 := by rw [hσ2_745]; exact kc_trans (kc_refl _) (kc_lit (by decide))
  refine kp_bx (fun o3_746 => ?_)
  refine kp_oc ?_ (fun c4_747 => ?_)
  · exact kp_some kσ2_745
  · refine kp_gd (fun g_748 => ?_)
    refine kp_if ?_ ?_
    · refine kp_bn2 (kk_v_cuts hL g_748) (fun r6_749 σ6_750 hr6_749 => ?_)
      have kσ6_750 : KC σ σ6_750 := kc_trans kσ2_745 hr6_749
      exact kp_some kσ6_750
    · refine kp_if ?_ ?_
      · refine kp_bn2 (kk_v_eats hL g_748) (fun r7_751 σ7_752 hr7_751 => ?_)
        have kσ7_752 : KC σ σ7_752 := kc_trans kσ2_745 hr7_751
        exact kp_some kσ7_752
      · refine kp_if ?_ ?_
        · refine kp_bn2 (kk_v_tells hL g_748) (fun r8_753 σ8_754 hr8_753 => ?_)
          have kσ8_754 : KC σ σ8_754 := kc_trans kσ2_745 hr8_753
          exact kp_some kσ8_754
        · exact kp_some kσ2_745

set_option maxRecDepth 100000 in
theorem kk_X0_readSign {N : Nat} {K len : Nat → Nat} {a1 : Int32} {σ : SG} {ρ : RG} (hL : Lay N K len ρ) : kp (F_X0_readSign a1 σ ρ) (fun q => KC σ q.2) := by
  unfold F_X0_readSign
  refine kp_bx (fun r1_771 => ?_)
  refine kp_if ?_ ?_
  · refine kp_nm (fun x3_772 _ => ?_)
    refine kp_nm (fun σ5_773 hσ5_773 => ?_)
    have kσ5_773 : KC σ σ5_773 := by rw [hσ5_773]; exact kc_trans (kc_refl _) (kc_lit (by decide))
    exact kp_some kσ5_773
  · exact kp_some (kc_refl _)

set_option maxRecDepth 100000 in
theorem kk_X0_readWord_2 {N : Nat} {K len : Nat → Nat} {w : Nat} {ρ : RG} (hL : Lay N K len ρ) : ∀ (n : Nat) (σ : SG) (v2 : Int32), kp (F_X0_readWord_2 w n σ ρ v2) (fun q => KC σ q.2) := by
  intro n
  induction n with
  | zero => intro σ v2; exact kp_none
  | succ n ih =>
    intro σ v2
    unfold F_X0_readWord_2
    refine kp_bx (fun r1_767 => ?_)
    refine kp_if ?_ ?_
    · exact kp_some (kc_refl _)
    · refine kp_bx (fun r3_768 => ?_)
      refine kp_bn2 (kk_X0_readSign hL) (fun r4_769 σ4_770 hr4_769 => ?_)
      have kσ4_770 : KC σ σ4_770 := kc_trans (kc_refl _) hr4_769
      refine kp_if ?_ ?_
      · exact kp_some kσ4_770
      · refine kp_nm (fun x6_774 _ => ?_)
        exact kp_tr2_kc (ih _ _) kσ4_770

set_option maxRecDepth 100000 in
theorem kk_X0_readWord {N : Nat} {K len : Nat → Nat} {w : Nat} {σ : SG} {ρ : RG} (hL : Lay N K len ρ) : kp (F_X0_readWord w σ ρ) (fun q => KC σ q.2) := by
  unfold F_X0_readWord
  exact kp_tr2_kc (kk_X0_readWord_2 hL 1024 _ _) (kc_refl _)

set_option maxRecDepth 100000 in
theorem kk_X0_readNumber {N : Nat} {K len : Nat → Nat} {σ : SG} {ρ : RG} (hL : Lay N K len ρ) : kp (F_X0_readNumber σ ρ) (fun q => KC σ q.2) := by
  unfold F_X0_readNumber
  refine kp_bx (fun r1_777 => ?_)
  refine kp_bx (fun r2_778 => ?_)
  refine kp_if ?_ ?_
  · exact kp_some (kc_refl _)
  · refine kp_bx (fun r4_779 => ?_)
    refine kp_nm (fun x5_780 _ => ?_)
    refine kp_nm (fun σ7_781 hσ7_781 => ?_)
    have kσ7_781 : KC σ σ7_781 := by rw [hσ7_781]; exact kc_trans (kc_refl _) (kc_lit (by decide))
    refine kp_nm (fun x8_782 _ => ?_)
    refine kp_nm (fun σ10_783 hσ10_783 => ?_)
    have kσ10_783 : KC σ σ10_783 := by rw [hσ10_783]; exact kc_trans kσ7_781 (kc_lit (by decide))
    refine kp_if ?_ ?_
    · exact kp_some kσ10_783
    · refine kp_bx (fun r12_784 => ?_)
      refine kp_bx (fun r13_785 => ?_)
      refine kp_if ?_ ?_
      · exact kp_some kσ10_783
      · refine kp_nm (fun x15_786 _ => ?_)
        refine kp_bx (fun r16_787 => ?_)
        refine kp_nm (fun x17_788 _ => ?_)
        refine kp_nm (fun x18_789 _ => ?_)
        refine kp_nm (fun σ20_790 hσ20_790 => ?_)
        have kσ20_790 : KC σ σ20_790 := by rw [hσ20_790]; exact kc_trans kσ10_783 (kc_lit (by decide))
        refine kp_nm (fun x21_791 _ => ?_)
        refine kp_nm (fun σ23_792 hσ23_792 => ?_)
        have kσ23_792 : KC σ σ23_792 := by rw [hσ23_792]; exact kc_trans kσ20_790 (kc_lit (by decide))
        exact kp_some kσ23_792

set_option maxRecDepth 100000 in
theorem kk_X0_put {N : Nat} {K len : Nat → Nat} {a1 : Int32} {σ : SG} {ρ : RG} (hL : Lay N K len ρ) : kp (F_X0_put a1 σ ρ) (fun q => KC σ q.2) := by
  unfold F_X0_put
  refine kp_if ?_ ?_
  · exact kp_some (kc_refl _)
  · refine kp_if ?_ ?_
    · refine kp_gd (fun _ => ?_)
      refine kp_nm (fun σ5_816 hσ5_816 => ?_)
      have kσ5_816 : KC σ σ5_816 := by rw [hσ5_816]; exact kc_trans (kc_refl _) (kc_row (by decide))
      refine kp_nm (fun x6_817 _ => ?_)
      refine kp_nm (fun σ8_818 hσ8_818 => ?_)
      have kσ8_818 : KC σ σ8_818 := by rw [hσ8_818]; exact kc_trans kσ5_816 (kc_lit (by decide))
      exact kp_some kσ8_818
    · exact kp_some (kc_refl _)

set_option maxRecDepth 100000 in
theorem kk_X0_readBoth_B_12 {N : Nat} {K len : Nat → Nat} {R : Int32 → SG → RG → Option (Int32 × SG)} {a1 : Int32} {ρ : RG} (hL : Lay N K len ρ) (hR : ∀ (y0 : Int32) (σ : SG), kp (R y0 σ ρ) (fun q => KC σ q.2)) : ∀ (n : Nat) (σ : SG) (v1 : Int32) (v2 : Int32), kp (F_X0_readBoth_B_12 R a1 n σ ρ v1 v2) (fun q => KC σ q.2) := by
  intro n
  induction n with
  | zero => intro σ v1 v2; exact kp_none
  | succ n ih =>
    intro σ v1 v2
    unfold F_X0_readBoth_B_12
    refine kp_if ?_ ?_
    · exact kp_some (kc_refl _)
    · refine kp_bx (fun r4_826 => ?_)
      refine kp_if ?_ ?_
      · refine kp_nm (fun x6_827 _ => ?_)
        refine kp_nm (fun σ8_828 hσ8_828 => ?_)
        have kσ8_828 : KC σ σ8_828 := by rw [hσ8_828]; exact kc_trans (kc_refl _) (kc_lit (by decide))
        refine kp_bn2 (hR _ _) (fun r9_829 σ9_830 hr9_829 => ?_)
        have kσ9_830 : KC σ σ9_830 := kc_trans kσ8_828 hr9_829
        refine kp_if ?_ ?_
        · exact kp_some kσ9_830
        · refine kp_bn2 (kk_X0_put hL) (fun r11_831 σ11_832 hr11_831 => ?_)
          have kσ11_832 : KC σ σ11_832 := kc_trans kσ9_830 hr11_831
          refine kp_if ?_ ?_
          · exact kp_some kσ11_832
          · refine kp_nm (fun x13_833 _ => ?_)
            exact kp_tr2_kc (ih _ _ _) kσ11_832
      · exact kp_some (kc_refl _)

set_option maxRecDepth 100000 in
theorem kk_X0_readBoth_B {N : Nat} {K len : Nat → Nat} {R : Int32 → SG → RG → Option (Int32 × SG)} {a1 : Int32} {σ : SG} {ρ : RG} (hL : Lay N K len ρ) (hR : ∀ (y0 : Int32) (σ : SG), kp (R y0 σ ρ) (fun q => KC σ q.2)) : kp (F_X0_readBoth_B R a1 σ ρ) (fun q => KC σ q.2) := by
  unfold F_X0_readBoth_B
  refine kp_bn2 (hR _ _) (fun r1_824 σ1_825 hr1_824 => ?_)
  have kσ1_825 : KC σ σ1_825 := kc_trans (kc_refl _) hr1_824
  refine kp_if ?_ ?_
  · exact kp_some kσ1_825
  · exact kp_tr2_kc (kk_X0_readBoth_B_12 hL hR 1024 _ _ _) kσ1_825

set_option maxRecDepth 100000 in
theorem kk_X0_readEither_B_12 {N : Nat} {K len : Nat → Nat} {R : Int32 → SG → RG → Option (Int32 × SG)} {a1 : Int32} {ρ : RG} (hL : Lay N K len ρ) (hR : ∀ (y0 : Int32) (σ : SG), kp (R y0 σ ρ) (fun q => KC σ q.2)) : ∀ (n : Nat) (σ : SG) (v1 : Int32) (v2 : Int32), kp (F_X0_readEither_B_12 R a1 n σ ρ v1 v2) (fun q => KC σ q.2) := by
  intro n
  induction n with
  | zero => intro σ v1 v2; exact kp_none
  | succ n ih =>
    intro σ v1 v2
    unfold F_X0_readEither_B_12
    refine kp_if ?_ ?_
    · exact kp_some (kc_refl _)
    · refine kp_bx (fun r4_834 => ?_)
      refine kp_if ?_ ?_
      · refine kp_nm (fun x6_835 _ => ?_)
        refine kp_nm (fun σ8_836 hσ8_836 => ?_)
        have kσ8_836 : KC σ σ8_836 := by rw [hσ8_836]; exact kc_trans (kc_refl _) (kc_lit (by decide))
        refine kp_bn2 (kk_X0_readBoth_B hL hR) (fun r9_837 σ9_838 hr9_837 => ?_)
        have kσ9_838 : KC σ σ9_838 := kc_trans kσ8_836 hr9_837
        refine kp_if ?_ ?_
        · exact kp_some kσ9_838
        · refine kp_bn2 (kk_X0_put hL) (fun r11_839 σ11_840 hr11_839 => ?_)
          have kσ11_840 : KC σ σ11_840 := kc_trans kσ9_838 hr11_839
          refine kp_if ?_ ?_
          · exact kp_some kσ11_840
          · refine kp_nm (fun x13_841 _ => ?_)
            exact kp_tr2_kc (ih _ _ _) kσ11_840
      · exact kp_some (kc_refl _)

set_option maxRecDepth 100000 in
theorem kk_X0_readEither_B {N : Nat} {K len : Nat → Nat} {R : Int32 → SG → RG → Option (Int32 × SG)} {a1 : Int32} {σ : SG} {ρ : RG} (hL : Lay N K len ρ) (hR : ∀ (y0 : Int32) (σ : SG), kp (R y0 σ ρ) (fun q => KC σ q.2)) : kp (F_X0_readEither_B R a1 σ ρ) (fun q => KC σ q.2) := by
  unfold F_X0_readEither_B
  refine kp_bn2 (kk_X0_readBoth_B hL hR) (fun r1_822 σ1_823 hr1_822 => ?_)
  have kσ1_823 : KC σ σ1_823 := kc_trans (kc_refl _) hr1_822
  refine kp_if ?_ ?_
  · exact kp_some kσ1_823
  · exact kp_tr2_kc (kk_X0_readEither_B_12 hL hR 1024 _ _ _) kσ1_823

set_option maxRecDepth 100000 in
theorem kk_X0_readTest {N : Nat} {K len : Nat → Nat} {σ : SG} {ρ : RG} (hL : Lay N K len ρ) : kp (F_X0_readTest σ ρ) (fun q => KC σ q.2) := by
  unfold F_X0_readTest
  refine kp_bx (fun r1_858 => ?_)
  refine kp_nm (fun x2_859 _ => ?_)
  refine kp_bx (fun r3_860 => ?_)
  refine kp_if ?_ ?_
  · refine kp_nm (fun x5_861 _ => ?_)
    refine kp_nm (fun σ7_862 hσ7_862 => ?_)
    have kσ7_862 : KC σ σ7_862 := by rw [hσ7_862]; exact kc_trans (kc_refl _) (kc_lit (by decide))
    refine kp_bx (fun r8_863 => ?_)
    refine kp_nm (fun x9_864 _ => ?_)
    refine kp_bx (fun r10_865 => ?_)
    refine kp_if ?_ ?_
    · refine kp_nm (fun x12_866 _ => ?_)
      refine kp_nm (fun σ14_867 hσ14_867 => ?_)
      have kσ14_867 : KC σ σ14_867 := by rw [hσ14_867]; exact kc_trans kσ7_862 (kc_lit (by decide))
      refine kp_bn2 (kk_X0_readNumber hL) (fun r15_868 σ15_869 hr15_868 => ?_)
      have kσ15_869 : KC σ σ15_869 := kc_trans kσ14_867 hr15_868
      refine kp_if ?_ ?_
      · exact kp_some kσ15_869
      · refine kp_nm (fun x17_870 _ => ?_)
        refine kp_nm (fun x18_871 _ => ?_)
        refine kp_nm (fun x19_872 _ => ?_)
        refine kp_nm (fun x20_873 _ => ?_)
        refine kp_bn2 (kk_X0_put hL) (fun r21_874 σ21_875 hr21_874 => ?_)
        have kσ21_875 : KC σ σ21_875 := kc_trans kσ15_869 hr21_874
        refine kp_if ?_ ?_
        · exact kp_some kσ21_875
        · exact kp_some kσ21_875
    · exact kp_some kσ7_862
  · exact kp_some (kc_refl _)

set_option maxRecDepth 100000 in
theorem kk_X0_readFactor_B {N : Nat} {K len : Nat → Nat} {R : Int32 → SG → RG → Option (Int32 × SG)} {a1 : Int32} {σ : SG} {ρ : RG} (hL : Lay N K len ρ) (hR : ∀ (y0 : Int32) (σ : SG), kp (R y0 σ ρ) (fun q => KC σ q.2)) : kp (F_X0_readFactor_B R a1 σ ρ) (fun q => KC σ q.2) := by
  unfold F_X0_readFactor_B
  refine kp_bx (fun r1_808 => ?_)
  refine kp_if ?_ ?_
  · unfold F_X0_readFactor_B_22
    refine kp_if ?_ ?_
    · refine kp_nm (fun x4_809 _ => ?_)
      refine kp_nm (fun σ6_810 hσ6_810 => ?_)
      have kσ6_810 : KC σ σ6_810 := by rw [hσ6_810]; exact kc_trans (kc_refl _) (kc_lit (by decide))
      refine kp_if ?_ ?_
      · refine kp_nm (fun x13_811 _ => ?_)
        refine kp_bn2 (hR _ _) (fun r14_812 σ14_813 hr14_812 => ?_)
        have kσ14_813 : KC σ σ14_813 := kc_trans kσ6_810 hr14_812
        refine kp_if ?_ ?_
        · exact kp_some kσ14_813
        · refine kp_bn2 (kk_X0_put hL) (fun r16_814 σ16_815 hr16_814 => ?_)
          have kσ16_815 : KC σ σ16_815 := kc_trans kσ14_813 hr16_814
          refine kp_if ?_ ?_
          · exact kp_some kσ16_815
          · exact kp_some kσ16_815
      · refine kp_nm (fun x8_819 _ => ?_)
        refine kp_bn2 (kk_X0_readEither_B hL hR) (fun r9_820 σ9_821 hr9_820 => ?_)
        have kσ9_821 : KC σ σ9_821 := kc_trans kσ6_810 hr9_820
        refine kp_if ?_ ?_
        · exact kp_some kσ9_821
        · refine kp_bn2 (kk_X0_readSign hL) (fun r11_842 σ11_843 hr11_842 => ?_)
          have kσ11_843 : KC σ σ11_843 := kc_trans kσ9_821 hr11_842
          refine kp_if ?_ ?_
          · exact kp_some kσ11_843
          · exact kp_some kσ11_843
    · exact kp_some (kc_refl _)
  · refine kp_if ?_ ?_
    · unfold F_X0_readFactor_B_22
      refine kp_if ?_ ?_
      · refine kp_nm (fun x4_844 _ => ?_)
        refine kp_nm (fun σ6_845 hσ6_845 => ?_)
        have kσ6_845 : KC σ σ6_845 := by rw [hσ6_845]; exact kc_trans (kc_refl _) (kc_lit (by decide))
        refine kp_if ?_ ?_
        · refine kp_nm (fun x13_846 _ => ?_)
          refine kp_bn2 (hR _ _) (fun r14_847 σ14_848 hr14_847 => ?_)
          have kσ14_848 : KC σ σ14_848 := kc_trans kσ6_845 hr14_847
          refine kp_if ?_ ?_
          · exact kp_some kσ14_848
          · refine kp_bn2 (kk_X0_put hL) (fun r16_849 σ16_850 hr16_849 => ?_)
            have kσ16_850 : KC σ σ16_850 := kc_trans kσ14_848 hr16_849
            refine kp_if ?_ ?_
            · exact kp_some kσ16_850
            · exact kp_some kσ16_850
        · refine kp_nm (fun x8_851 _ => ?_)
          refine kp_bn2 (kk_X0_readEither_B hL hR) (fun r9_852 σ9_853 hr9_852 => ?_)
          have kσ9_853 : KC σ σ9_853 := kc_trans kσ6_845 hr9_852
          refine kp_if ?_ ?_
          · exact kp_some kσ9_853
          · refine kp_bn2 (kk_X0_readSign hL) (fun r11_854 σ11_855 hr11_854 => ?_)
            have kσ11_855 : KC σ σ11_855 := kc_trans kσ9_853 hr11_854
            refine kp_if ?_ ?_
            · exact kp_some kσ11_855
            · exact kp_some kσ11_855
      · exact kp_some (kc_refl _)
    · refine kp_bn2 (kk_X0_readTest hL) (fun r19_856 σ19_857 hr19_856 => ?_)
      have kσ19_857 : KC σ σ19_857 := kc_trans (kc_refl _) hr19_856
      refine kp_gd (fun _ => ?_)
      exact kp_some kσ19_857

theorem kk_X0_readFactor_R {N : Nat} {K len : Nat → Nat} {ρ : RG} (hL : Lay N K len ρ) : ∀ (d : Nat) (a1 : Int32) (σ : SG), kp (F_X0_readFactor_R d a1 σ ρ) (fun q => KC σ q.2) := by
  intro d
  induction d with
  | zero => intro a1 σ; exact kp_none
  | succ d ih =>
    intro a1 σ
    exact kk_X0_readFactor_B hL ih

theorem kk_X0_readFactor {N : Nat} {K len : Nat → Nat} {a1 : Int32} {σ : SG} {ρ : RG} (hL : Lay N K len ρ) : kp (F_X0_readFactor a1 σ ρ) (fun q => KC σ q.2) := kk_X0_readFactor_R hL _ _ _

set_option maxRecDepth 100000 in
theorem kk_X0_readBoth_12 {N : Nat} {K len : Nat → Nat} {a1 : Int32} {ρ : RG} (hL : Lay N K len ρ) : ∀ (n : Nat) (σ : SG) (v1 : Int32) (v2 : Int32), kp (F_X0_readBoth_12 a1 n σ ρ v1 v2) (fun q => KC σ q.2) := by
  intro n
  induction n with
  | zero => intro σ v1 v2; exact kp_none
  | succ n ih =>
    intro σ v1 v2
    unfold F_X0_readBoth_12
    refine kp_if ?_ ?_
    · exact kp_some (kc_refl _)
    · refine kp_bx (fun r4_876 => ?_)
      refine kp_if ?_ ?_
      · refine kp_nm (fun x6_877 _ => ?_)
        refine kp_nm (fun σ8_878 hσ8_878 => ?_)
        have kσ8_878 : KC σ σ8_878 := by rw [hσ8_878]; exact kc_trans (kc_refl _) (kc_lit (by decide))
        refine kp_bn2 (kk_X0_readFactor hL) (fun r9_879 σ9_880 hr9_879 => ?_)
        have kσ9_880 : KC σ σ9_880 := kc_trans kσ8_878 hr9_879
        refine kp_if ?_ ?_
        · exact kp_some kσ9_880
        · refine kp_bn2 (kk_X0_put hL) (fun r11_881 σ11_882 hr11_881 => ?_)
          have kσ11_882 : KC σ σ11_882 := kc_trans kσ9_880 hr11_881
          refine kp_if ?_ ?_
          · exact kp_some kσ11_882
          · refine kp_nm (fun x13_883 _ => ?_)
            exact kp_tr2_kc (ih _ _ _) kσ11_882
      · exact kp_some (kc_refl _)

set_option maxRecDepth 100000 in
theorem kk_X0_readBoth {N : Nat} {K len : Nat → Nat} {a1 : Int32} {σ : SG} {ρ : RG} (hL : Lay N K len ρ) : kp (F_X0_readBoth a1 σ ρ) (fun q => KC σ q.2) := by
  unfold F_X0_readBoth
  refine kp_bn2 (kk_X0_readFactor hL) (fun r1_806 σ1_807 hr1_806 => ?_)
  have kσ1_807 : KC σ σ1_807 := kc_trans (kc_refl _) hr1_806
  refine kp_if ?_ ?_
  · exact kp_some kσ1_807
  · exact kp_tr2_kc (kk_X0_readBoth_12 hL 1024 _ _ _) kσ1_807

set_option maxRecDepth 100000 in
theorem kk_X0_readEither_12 {N : Nat} {K len : Nat → Nat} {a1 : Int32} {ρ : RG} (hL : Lay N K len ρ) : ∀ (n : Nat) (σ : SG) (v1 : Int32) (v2 : Int32), kp (F_X0_readEither_12 a1 n σ ρ v1 v2) (fun q => KC σ q.2) := by
  intro n
  induction n with
  | zero => intro σ v1 v2; exact kp_none
  | succ n ih =>
    intro σ v1 v2
    unfold F_X0_readEither_12
    refine kp_if ?_ ?_
    · exact kp_some (kc_refl _)
    · refine kp_bx (fun r4_884 => ?_)
      refine kp_if ?_ ?_
      · refine kp_nm (fun x6_885 _ => ?_)
        refine kp_nm (fun σ8_886 hσ8_886 => ?_)
        have kσ8_886 : KC σ σ8_886 := by rw [hσ8_886]; exact kc_trans (kc_refl _) (kc_lit (by decide))
        refine kp_bn2 (kk_X0_readBoth hL) (fun r9_887 σ9_888 hr9_887 => ?_)
        have kσ9_888 : KC σ σ9_888 := kc_trans kσ8_886 hr9_887
        refine kp_if ?_ ?_
        · exact kp_some kσ9_888
        · refine kp_bn2 (kk_X0_put hL) (fun r11_889 σ11_890 hr11_889 => ?_)
          have kσ11_890 : KC σ σ11_890 := kc_trans kσ9_888 hr11_889
          refine kp_if ?_ ?_
          · exact kp_some kσ11_890
          · refine kp_nm (fun x13_891 _ => ?_)
            exact kp_tr2_kc (ih _ _ _) kσ11_890
      · exact kp_some (kc_refl _)

set_option maxRecDepth 100000 in
theorem kk_X0_readEither {N : Nat} {K len : Nat → Nat} {a1 : Int32} {σ : SG} {ρ : RG} (hL : Lay N K len ρ) : kp (F_X0_readEither a1 σ ρ) (fun q => KC σ q.2) := by
  unfold F_X0_readEither
  refine kp_bn2 (kk_X0_readBoth hL) (fun r1_804 σ1_805 hr1_804 => ?_)
  have kσ1_805 : KC σ σ1_805 := kc_trans (kc_refl _) hr1_804
  refine kp_if ?_ ?_
  · exact kp_some kσ1_805
  · exact kp_tr2_kc (kk_X0_readEither_12 hL 1024 _ _ _) kσ1_805

set_option maxRecDepth 100000 in
theorem kk_X0_readAdding {N : Nat} {K len : Nat → Nat} {a1 : Int32} {σ : SG} {ρ : RG} (hL : Lay N K len ρ) : kp (F_X0_readAdding a1 σ ρ) (fun q => KC σ q.2) := by
  unfold F_X0_readAdding
  refine kp_bn2 (kk_X0_readNumber hL) (fun r1_798 σ1_799 hr1_798 => ?_)
  have kσ1_799 : KC σ σ1_799 := kc_trans (kc_refl _) hr1_798
  refine kp_if ?_ ?_
  · exact kp_some kσ1_799
  · refine kp_bn2 (kk_X0_readSign hL) (fun r3_800 σ3_801 hr3_800 => ?_)
    have kσ3_801 : KC σ σ3_801 := kc_trans kσ1_799 hr3_800
    refine kp_if ?_ ?_
    · exact kp_some kσ3_801
    · refine kp_bn2 (kk_X0_readEither hL) (fun r5_802 σ5_803 hr5_802 => ?_)
      have kσ5_803 : KC σ σ5_803 := kc_trans kσ3_801 hr5_802
      refine kp_if ?_ ?_
      · exact kp_some kσ5_803
      · refine kp_if ?_ ?_
        · refine kp_gd (fun _ => ?_)
          refine kp_gd (fun _ => ?_)
          refine kp_nm (fun σ10_892 hσ10_892 => ?_)
          have kσ10_892 : KC σ σ10_892 := by rw [hσ10_892]; exact kc_trans kσ5_803 (kc_row (by decide))
          refine kp_gd (fun _ => ?_)
          refine kp_nm (fun σ13_893 hσ13_893 => ?_)
          have kσ13_893 : KC σ σ13_893 := by rw [hσ13_893]; exact kc_trans kσ10_892 (kc_row (by decide))
          refine kp_gd (fun _ => ?_)
          refine kp_nm (fun σ16_894 hσ16_894 => ?_)
          have kσ16_894 : KC σ σ16_894 := by rw [hσ16_894]; exact kc_trans kσ13_893 (kc_row (by decide))
          refine kp_nm (fun x17_895 _ => ?_)
          refine kp_nm (fun σ19_896 hσ19_896 => ?_)
          have kσ19_896 : KC σ σ19_896 := by rw [hσ19_896]; exact kc_trans kσ16_894 (kc_lit (by decide))
          exact kp_some kσ19_896
        · exact kp_some kσ5_803

set_option maxRecDepth 100000 in
theorem kk_X0_readClause {N : Nat} {K len : Nat → Nat} {σ : SG} {ρ : RG} (hL : Lay N K len ρ) : kp (F_X0_readClause σ ρ) (fun q => KC σ q.2) := by
  unfold F_X0_readClause
  refine kp_bx (fun r1_764 => ?_)
  refine kp_if ?_ ?_
  · refine kp_bn2 (kk_X0_readWord hL) (fun r3_765 σ3_766 hr3_765 => ?_)
    have kσ3_766 : KC σ σ3_766 := kc_trans (kc_refl _) hr3_765
    refine kp_if ?_ ?_
    · exact kp_some kσ3_766
    · refine kp_bn2 (kk_X0_readNumber hL) (fun r5_775 σ5_776 hr5_775 => ?_)
      have kσ5_776 : KC σ σ5_776 := kc_trans kσ3_766 hr5_775
      refine kp_if ?_ ?_
      · exact kp_some kσ5_776
      · refine kp_nm (fun σ8_793 hσ8_793 => ?_)
        have kσ8_793 : KC σ σ8_793 := by rw [hσ8_793]; exact kc_trans kσ5_776 (kc_lit (by decide))
        exact kp_some kσ8_793
  · refine kp_if ?_ ?_
    · refine kp_bn2 (kk_X0_readWord hL) (fun r9_794 σ9_795 hr9_794 => ?_)
      have kσ9_795 : KC σ σ9_795 := kc_trans (kc_refl _) hr9_794
      refine kp_if ?_ ?_
      · exact kp_some kσ9_795
      · refine kp_bn2 (kk_X0_readAdding hL) (fun r11_796 σ11_797 hr11_796 => ?_)
        have kσ11_797 : KC σ σ11_797 := kc_trans kσ9_795 hr11_796
        refine kp_if ?_ ?_
        · exact kp_some kσ11_797
        · exact kp_some kσ11_797
    · refine kp_if ?_ ?_
      · refine kp_bn2 (kk_X0_readWord hL) (fun r13_897 σ13_898 hr13_897 => ?_)
        have kσ13_898 : KC σ σ13_898 := kc_trans (kc_refl _) hr13_897
        refine kp_if ?_ ?_
        · exact kp_some kσ13_898
        · refine kp_bn2 (kk_X0_readAdding hL) (fun r15_899 σ15_900 hr15_899 => ?_)
          have kσ15_900 : KC σ σ15_900 := kc_trans kσ13_898 hr15_899
          refine kp_if ?_ ?_
          · exact kp_some kσ15_900
          · exact kp_some kσ15_900
      · refine kp_if ?_ ?_
        · refine kp_bn2 (kk_X0_readWord hL) (fun r17_901 σ17_902 hr17_901 => ?_)
          have kσ17_902 : KC σ σ17_902 := kc_trans (kc_refl _) hr17_901
          refine kp_if ?_ ?_
          · exact kp_some kσ17_902
          · refine kp_bn2 (kk_X0_readNumber hL) (fun r19_903 σ19_904 hr19_903 => ?_)
            have kσ19_904 : KC σ σ19_904 := kc_trans kσ17_902 hr19_903
            refine kp_if ?_ ?_
            · exact kp_some kσ19_904
            · refine kp_nm (fun σ22_905 hσ22_905 => ?_)
              have kσ22_905 : KC σ σ22_905 := by rw [hσ22_905]; exact kc_trans kσ19_904 (kc_lit (by decide))
              exact kp_some kσ22_905
        · exact kp_some (kc_refl _)

set_option maxRecDepth 100000 in
theorem kk_X0_readFrom_38 {N : Nat} {K len : Nat → Nat} {a2 : Int32} {ρ : RG} (hL : Lay N K len ρ) : ∀ (n : Nat) (σ : SG) (v3 : Int32), kp (F_X0_readFrom_38 a2 n σ ρ v3) (fun q => KC σ q.2.1) := by
  intro n
  induction n with
  | zero => intro σ v3; exact kp_none
  | succ n ih =>
    intro σ v3
    unfold F_X0_readFrom_38
    refine kp_if ?_ ?_
    · exact kp_some (kc_refl _)
    · refine kp_bn2 (kk_X0_readClause hL) (fun r16_762 σ16_763 hr16_762 => ?_)
      have kσ16_763 : KC σ σ16_763 := kc_trans (kc_refl _) hr16_762
      refine kp_if ?_ ?_
      · exact kp_some kσ16_763
      · refine kp_if ?_ ?_
        · exact kp_some kσ16_763
        · refine kp_nm (fun x19_906 _ => ?_)
          refine kp_if ?_ ?_
          · exact kp_some kσ16_763
          · refine kp_bn2 (kk_X0_readSign hL) (fun r21_907 σ21_908 hr21_907 => ?_)
            have kσ21_908 : KC σ σ21_908 := kc_trans kσ16_763 hr21_907
            refine kp_if ?_ ?_
            · exact kp_some kσ21_908
            · refine kp_nm (fun x23_909 _ => ?_)
              exact kp_tr3_kc (ih _ _) kσ21_908

set_option maxRecDepth 100000 in
theorem kk_X0_readFrom {N : Nat} {K len : Nat → Nat} {a2 : Int32} {σ : SG} {ρ : RG} (hL : Lay N K len ρ) : kp (F_X0_readFrom a2 σ ρ) (fun q => KC σ q.2.1) := by
  unfold F_X0_readFrom
  refine kp_nm (fun ρ2_755 hρ2_755 => ?_)
  have hL : Lay N K len ρ2_755 := by rw [hρ2_755]; exact ly_put hL _ (by decide)
  refine kp_nm (fun σ4_756 hσ4_756 => ?_)
  have kσ4_756 : KC σ σ4_756 := by rw [hσ4_756]; exact kc_trans (kc_refl _) (kc_lit (by decide))
  refine kp_nm (fun σ6_757 hσ6_757 => ?_)
  have kσ6_757 : KC σ σ6_757 := by rw [hσ6_757]; exact kc_trans kσ4_756 (kc_lit (by decide))
  refine kp_nm (fun σ8_758 hσ8_758 => ?_)
  have kσ8_758 : KC σ σ8_758 := by rw [hσ8_758]; exact kc_trans kσ6_757 (kc_lit (by decide))
  refine kp_nm (fun σ10_759 hσ10_759 => ?_)
  have kσ10_759 : KC σ σ10_759 := by rw [hσ10_759]; exact kc_trans kσ8_758 (kc_lit (by decide))
  refine kp_nm (fun σ12_760 hσ12_760 => ?_)
  have kσ12_760 : KC σ σ12_760 := by rw [hσ12_760]; exact kc_trans kσ10_759 (kc_lit (by decide))
  refine kp_nm (fun σ14_761 hσ14_761 => ?_)
  have kσ14_761 : KC σ σ14_761 := by rw [hσ14_761]; exact kc_trans kσ12_760 (kc_lit (by decide))
  exact kp_tr3_kc (kk_X0_readFrom_38 hL 1024 _ _) kσ14_761

set_option maxRecDepth 100000 in
theorem kk_X0_takes_5_29 {N : Nat} {K len : Nat → Nat} {σ : SG} {ρ : RG} (hL : Lay N K len ρ) : kp (F_X0_takes_5_29 σ ρ) (fun q => KC σ q) := by
  unfold F_X0_takes_5_29
  refine kp_nm (fun σ2_910 hσ2_910 => ?_)
  have kσ2_910 : KC σ σ2_910 := by rw [hσ2_910]; exact kc_trans (kc_refl _) (kc_lit (by decide))
  refine kp_nm (fun σ4_911 hσ4_911 => ?_)
  have kσ4_911 : KC σ σ4_911 := by rw [hσ4_911]; exact kc_trans kσ2_910 (kc_lit (by decide))
  refine kp_nm (fun σ6_912 hσ6_912 => ?_)
  have kσ6_912 : KC σ σ6_912 := by rw [hσ6_912]; exact kc_trans kσ4_911 (kc_lit (by decide))
  refine kp_nm (fun σ8_913 hσ8_913 => ?_)
  have kσ8_913 : KC σ σ8_913 := by rw [hσ8_913]; exact kc_trans kσ6_912 (kc_lit (by decide))
  refine kp_gd (fun _ => ?_)
  refine kp_nm (fun σ9_914 hσ9_914 => ?_)
  have kσ9_914 : KC σ σ9_914 := by rw [hσ9_914]; exact kc_trans kσ8_913 (kc_cpy (by decide))
  refine kp_nm (fun σ10_915 hσ10_915 => ?_)
  have kσ10_915 : KC σ σ10_915 := by rw [hσ10_915]; exact kc_trans kσ9_914 (kc_cpy (by decide))
  refine kp_nm (fun σ11_916 hσ11_916 => ?_)
  have kσ11_916 : KC σ σ11_916 := by rw [hσ11_916]; exact kc_trans kσ10_915 (kc_cpy (by decide))
  refine kp_nm (fun σ12_917 hσ12_917 => ?_)
  have kσ12_917 : KC σ σ12_917 := by rw [hσ12_917]; exact kc_trans kσ11_916 (kc_cpy (by decide))
  exact kp_some kσ12_917

set_option maxRecDepth 100000 in
theorem kk_X0_takes_18_5 {N : Nat} {K len : Nat → Nat} {σ : SG} {ρ : RG} (hL : Lay N K len ρ) : kp (F_X0_takes_18_5 σ ρ) (fun q => KC σ q) := by
  unfold F_X0_takes_18_5
  refine kp_nm (fun σ2_918 hσ2_918 => ?_)
  have kσ2_918 : KC σ σ2_918 := by rw [hσ2_918]; exact kc_trans (kc_refl _) (kc_lit (by decide))
  refine kp_nm (fun σ4_919 hσ4_919 => ?_)
  have kσ4_919 : KC σ σ4_919 := by rw [hσ4_919]; exact kc_trans kσ2_918 (kc_lit (by decide))
  refine kp_nm (fun σ6_920 hσ6_920 => ?_)
  have kσ6_920 : KC σ σ6_920 := by rw [hσ6_920]; exact kc_trans kσ4_919 (kc_lit (by decide))
  refine kp_nm (fun σ8_921 hσ8_921 => ?_)
  have kσ8_921 : KC σ σ8_921 := by rw [hσ8_921]; exact kc_trans kσ6_920 (kc_lit (by decide))
  refine kp_gd (fun _ => ?_)
  refine kp_nm (fun σ9_922 hσ9_922 => ?_)
  have kσ9_922 : KC σ σ9_922 := by rw [hσ9_922]; exact kc_trans kσ8_921 (kc_cpy (by decide))
  refine kp_nm (fun σ10_923 hσ10_923 => ?_)
  have kσ10_923 : KC σ σ10_923 := by rw [hσ10_923]; exact kc_trans kσ9_922 (kc_cpy (by decide))
  refine kp_nm (fun σ11_924 hσ11_924 => ?_)
  have kσ11_924 : KC σ σ11_924 := by rw [hσ11_924]; exact kc_trans kσ10_923 (kc_cpy (by decide))
  refine kp_nm (fun σ12_925 hσ12_925 => ?_)
  have kσ12_925 : KC σ σ12_925 := by rw [hσ12_925]; exact kc_trans kσ11_924 (kc_cpy (by decide))
  exact kp_some kσ12_925

set_option maxRecDepth 100000 in
theorem kk_X0_takes_5_18 {N : Nat} {K len : Nat → Nat} {σ : SG} {ρ : RG} (hL : Lay N K len ρ) : kp (F_X0_takes_5_18 σ ρ) (fun q => KC σ q) := by
  unfold F_X0_takes_5_18
  refine kp_nm (fun σ2_926 hσ2_926 => ?_)
  have kσ2_926 : KC σ σ2_926 := by rw [hσ2_926]; exact kc_trans (kc_refl _) (kc_lit (by decide))
  refine kp_nm (fun σ4_927 hσ4_927 => ?_)
  have kσ4_927 : KC σ σ4_927 := by rw [hσ4_927]; exact kc_trans kσ2_926 (kc_lit (by decide))
  refine kp_nm (fun σ6_928 hσ6_928 => ?_)
  have kσ6_928 : KC σ σ6_928 := by rw [hσ6_928]; exact kc_trans kσ4_927 (kc_lit (by decide))
  refine kp_nm (fun σ8_929 hσ8_929 => ?_)
  have kσ8_929 : KC σ σ8_929 := by rw [hσ8_929]; exact kc_trans kσ6_928 (kc_lit (by decide))
  refine kp_gd (fun _ => ?_)
  refine kp_nm (fun σ9_930 hσ9_930 => ?_)
  have kσ9_930 : KC σ σ9_930 := by rw [hσ9_930]; exact kc_trans kσ8_929 (kc_cpy (by decide))
  refine kp_nm (fun σ10_931 hσ10_931 => ?_)
  have kσ10_931 : KC σ σ10_931 := by rw [hσ10_931]; exact kc_trans kσ9_930 (kc_cpy (by decide))
  refine kp_nm (fun σ11_932 hσ11_932 => ?_)
  have kσ11_932 : KC σ σ11_932 := by rw [hσ11_932]; exact kc_trans kσ10_931 (kc_cpy (by decide))
  refine kp_nm (fun σ12_933 hσ12_933 => ?_)
  have kσ12_933 : KC σ σ12_933 := by rw [hσ12_933]; exact kc_trans kσ11_932 (kc_cpy (by decide))
  exact kp_some kσ12_933

theorem kk_X11_board {m : Int} {N : Nat} {K len : Nat → Nat} {σ : SG} {ρ : RG} (hB : BX m σ) (hQ : PR N K len ρ) : kp (F_X11_board σ ρ) (fun q => KC σ q.2.1) := by
  unfold F_X11_board
  refine kp_if (kp_bn3 (Q := fun q => PR N K len q.2.2 ∧ KC σ q.2.1) (fun q e => ⟨?_, kk_X0_readFrom hQ.1 q e⟩) (fun r2 σ2 ρ2 q2 => kp_nm (fun σ4 e4 => ?_))) (kp_some (kc_refl _))
  · obtain ⟨a, e', p⟩ := s_X0_readFrom (a2 := σ 1 6) hB hQ
    rw [e'] at e
    cases e
    exact p.2
  · have k4 : KC σ σ4 := kc_trans q2.2 (by rw [e4]; exact kc_lit (by decide))
    refine kp_if (kp_nm (fun x _ => kp_some k4)) (kp_bn (kk_X0_takes_5_29 q2.1.1) (fun σ6 k6 => kp_nm (fun x7 _ => kp_nm (fun σ9 e9 => kp_nm (fun x10 _ => kp_some ?_)))))
    exact kc_trans (kc_trans k4 k6) (by rw [e9]; exact kc_lit (by decide))
