/-! PART 7613.cu: by hand: one cut: class and reference side by side -/
/-- a loaf of the class, the face of the reference -/
def LE (i : Nat) (σ τ : SG) : Prop := σ i 1 = τ 55 0 ∧ σ i 2 = τ 55 1 ∧ σ i 3 = τ 55 2 ∧ σ i 4 = τ 55 3 ∧ σ i 5 = τ 55 4
/-- its slopes, its slices -/
def LQ (M : Int) (τ : SG) : Prop := rg (τ 55 1) (-99) 99 ∧ rg (τ 55 2) (-99) 99 ∧ rg (τ 55 3) 0 M
/-- cutter c of the class is the reference's j -/
def CX (N : Nat) (K : Nat → Nat) (j c : Nat) (σ : SG) (ρ : RG) (τ : SG) : Prop := isC N K c = true ∧ (σ c 0).toInt = (j : Int) ∧ kno (K c) = τ 55 (20 + j) ∧ σ c 2 = τ 55 (32 + j) ∧ σ c 3 = τ 55 (38 + j) ∧ σ c 4 = τ 55 (44 + j) ∧ (K c = 9 → ∀ d, ρ c 6 = some d → (d ≠ 0 ∧ 65 ≤ d) ∧ ∀ k, k < 4 → σ d k = τ 55 (50 + 4 * j + k))
theorem isC_7 {N : Nat} {K : Nat → Nat} {c : Nat} (h : isC N K c = true) : K c = 1 ∨ K c = 2 ∨ K c = 4 ∨ K c = 5 ∨ K c = 6 ∨ K c = 7 ∨ K c = 9 := by
  unfold isC isCk at h
  simp only [Bool.and_eq_true, Bool.or_eq_true, beq_iff_eq] at h
  omega
theorem k_kind {N : Nat} {K len : Nat → Nat} {c : Nat} {σ : SG} {ρ : RG} (h : isC N K c = true) : kp (F_v_kind N K len c σ ρ) (fun q => q = kno (K c)) := by
  unfold F_v_kind
  rcases isC_7 h with e | e | e | e | e | e | e <;> rw [e] <;> exact kp_some rfl
/-- a slope by kind -/
def slo (kd : Nat) (own old : Int32) : Int32 := if kd = 7 ∨ kd = 5 then 0 else if kd = 6 ∨ kd = 4 then own + old / 2 else if kd = 2 ∨ kd = 9 then own + old else own
theorem k_side {N : Nat} {K len : Nat → Nat} {c i : Nat} {a1 : Int32} {σ : SG} {ρ : RG} (h : isC N K c = true) : kp (F_v_sideBy N K len c a1 i σ ρ) (fun q => q = slo (K c) a1 (σ i 3)) := by
  unfold F_v_sideBy
  rcases isC_7 h with e | e | e | e | e | e | e <;> rw [e]
  · exact kp_some rfl
  · exact kp_nm (fun x hx => kp_some (by first | rfl | (rw [hx]; rfl)))
  · exact kp_nm (fun x hx => kp_nm (fun y hy => kp_some (by first | rfl | (rw [hy, hx]; rfl))))
  · exact kp_some rfl
  · exact kp_nm (fun x hx => kp_nm (fun y hy => kp_some (by first | rfl | (rw [hy, hx]; rfl))))
  · exact kp_some rfl
  · exact kp_nm (fun x hx => kp_some (by first | rfl | (rw [hx]; rfl)))
/-- what is left of SLICES by 4 -/
def m4 (x : Int32) : Int32 := x - x / 4 * 4
theorem m4_v {x : Int32} (h : 0 ≤ x.toInt) : (m4 x).toInt = x.toInt % 4 := by
  unfold m4
  rw [ti_rem (by decide), show (4 : Int32).toInt = 4 from rfl, Int.tmod_eq_emod_of_nonneg h]
theorem k_up {N : Nat} {K len : Nat → Nat} {j c i : Nat} {a1 : Int32} {σ : SG} {ρ : RG} {τ : SG} (h : isC N K c = true) (hd : K c = 9 → ∀ d, ρ c 6 = some d → ∀ k, k < 4 → σ d k = τ 55 (50 + 4 * j + k)) (h0 : 0 ≤ (σ i 4).toInt) : kp (F_v_upBy N K len c a1 i σ ρ) (fun q => q = slo (K c) (if K c = 9 then τ 55 (50 + 4 * j + (m4 (σ i 4)).toNatClampNeg) - 4 else a1) (σ i 2)) := by
  unfold F_v_upBy
  rcases isC_7 h with e | e | e | e | e | e | e
  · rw [e]; exact kp_some rfl
  · rw [e]; exact kp_nm (fun x hx => kp_some (by first | rfl | (rw [hx]; rfl)))
  · rw [e]; exact kp_nm (fun x hx => kp_nm (fun y hy => kp_some (by first | rfl | (rw [hy, hx]; rfl))))
  · rw [e]; exact kp_some rfl
  · rw [e]; exact kp_nm (fun x hx => kp_nm (fun y hy => kp_some (by first | rfl | (rw [hy, hx]; rfl))))
  · rw [e]; exact kp_some rfl
  · rw [if_neg (by omega), if_neg (by omega), if_neg (by omega), if_neg (by omega), if_neg (by omega), if_neg (by omega), if_pos e]
    unfold F_X9_upBy
    refine kp_gd (fun _ => kp_oce kp_none (fun d hd' => kp_gd (fun _ => kp_nm (fun x3 h3 => ?_))))
    have h3 : x3 = m4 (σ i 4) := h3
    have v3 := m4_v h0
    rw [← h3] at v3
    have l4 : x3.toNatClampNeg < 4 := by show x3.toInt.toNat < 4; omega
    refine kp_bn (Q := fun q => q = σ d x3.toNatClampNeg) ?_ (fun r4 h4 => kp_nm (fun x5 h5 => kp_nm (fun x6 h6 => kp_some ?_)))
    · unfold F_X11_valueAt
      refine kp_ih (fun z => ?_) (fun _ => kp_ih (fun z => ?_) (fun _ => kp_gd (fun _ => kp_some rfl)))
      · have := lt_i z; rw [ti_0] at this; omega
      · have := le_i z
        rw [show (Int32.ofNat 4).toInt = 4 from rfl] at this
        omega
    · show x6 = slo (K c) (if K c = 9 then τ 55 (50 + 4 * j + (m4 (σ i 4)).toNatClampNeg) - 4 else a1) (σ i 2)
      rw [if_pos e, e, h6, h5, h4, hd e d hd' _ l4, ← h3]
      show σ i 2 + τ 55 (50 + 4 * j + x3.toNatClampNeg) - 4 = τ 55 (50 + 4 * j + x3.toNatClampNeg) - 4 + σ i 2
      generalize τ 55 (50 + 4 * j + x3.toNatClampNeg) = a
      generalize σ i 2 = b
      grind
theorem kno_at {kd : Nat} (h : kd = 1 ∨ kd = 2 ∨ kd = 4 ∨ kd = 5 ∨ kd = 6 ∨ kd = 7 ∨ kd = 9) : (kno kd = 6 ↔ kd = 9) ∧ (kno kd = 4 ↔ kd = 5) ∧ (kno kd = 5 ↔ kd = 4) := by
  rcases h with rfl | rfl | rfl | rfl | rfl | rfl | rfl <;> decide
theorem k_slant {j kd : Nat} {a1 a2 a3 : Int32} {τ : SG} {ρ : RG} (hk : kd = 1 ∨ kd = 2 ∨ kd = 4 ∨ kd = 5 ∨ kd = 6 ∨ kd = 7 ∨ kd = 9) (ha : a1.toInt = (j : Int)) (hj : j < 6) (e : kno kd = τ 55 (20 + j)) : kp (F_X12_slant a1 a2 a3 τ ρ) (fun q => q = slo kd a2 a3) := by
  have e20 : (20 : Int32).toInt = 20 := rfl
  unfold F_X12_slant
  refine kp_nm (fun x1 h1 => kp_gd (fun _ => ?_))
  rw [cn (x := x1) (z := 20 + j) (by rw [h1, ti_add (by omega) (by omega), e20, ha]; omega), ← e]
  rcases hk with rfl | rfl | rfl | rfl | rfl | rfl | rfl
  · exact kp_f (by decide) (kp_f (by decide) (kp_f (by decide) (kp_f (by decide) (kp_f (by decide) (kp_f (by decide) (kp_some rfl))))))
  · exact kp_f (by decide) (kp_f (by decide) (kp_t rfl (kp_nm (fun x hx => kp_some (by rw [hx]; rfl)))))
  · exact kp_f (by decide) (kp_f (by decide) (kp_f (by decide) (kp_f (by decide) (kp_t rfl (kp_nm (fun x hx => kp_nm (fun y hy => kp_some (by rw [hy, hx]; rfl))))))))
  · exact kp_f (by decide) (kp_f (by decide) (kp_f (by decide) (kp_t rfl (kp_some rfl))))
  · exact kp_f (by decide) (kp_t rfl (kp_nm (fun x hx => kp_nm (fun y hy => kp_some (by rw [hy, hx]; rfl)))))
  · exact kp_t rfl (kp_some rfl)
  · exact kp_f (by decide) (kp_f (by decide) (kp_f (by decide) (kp_f (by decide) (kp_f (by decide) (kp_t rfl (kp_nm (fun x hx => kp_some (by rw [hx]; rfl))))))))
/-- held to -99 .. 99 -/
def hld (v : Int32) : Int32 := if -99 ≤ v then (if v ≤ 99 then v else 99) else -99
theorem k_held {a : Int32} {σ : SG} {ρ : RG} : kp (F_X3_held a σ ρ) (fun q => q = hld a) := by
  have e1 : (99 : Int32).toInt = 99 := rfl
  have e2 : (-99 : Int32).toInt = -99 := rfl
  unfold F_X3_held
  refine kp_nm (fun x h1 => kp_nm (fun y h2 => kp_some ?_))
  show y = hld a
  unfold hld
  rw [h2, h1]
  by_cases c : a < 99
  · rw [if_pos c]
    have := lt_i c
    by_cases d : (-99 : Int32) < a
    · have := lt_i d
      rw [if_pos d, if_pos (i_le (by omega)), if_pos (i_le (by omega))]
    · rw [if_neg d]
      have := le_i (nlt d)
      by_cases f : (-99 : Int32) ≤ a
      · have := le_i f
        rw [if_pos f, if_pos (i_le (by omega))]
        exact ieq (by omega)
      · rw [if_neg f]
  · rw [if_neg c]
    have := le_i (nlt c)
    rw [if_pos (by decide), if_pos (i_le (by omega))]
    by_cases f : a ≤ 99
    · have := le_i f
      rw [if_pos f]
      exact ieq (by omega)
    · rw [if_neg f]
theorem k_within {a : Int32} {σ : SG} {ρ : RG} : kp (F_X12_within a (-99 : Int32) (99 : Int32) σ ρ) (fun q => q = hld a) := by
  unfold F_X12_within hld
  refine kp_ih (fun c => kp_ih (fun d => kp_some ?_) (fun d => kp_some ?_)) (fun c => kp_some ?_)
  · rw [if_pos c, if_pos d]
  · rw [if_pos c, if_neg d]
  · rw [if_neg c]
theorem hld_rg (a : Int32) : rg (hld a) (-99) 99 := by
  unfold hld
  by_cases c : -99 ≤ a
  · rw [if_pos c]
    by_cases d : a ≤ 99
    · rw [if_pos d]
      exact ⟨le_i c, le_i d⟩
    · rw [if_neg d]; exact ⟨by decide, by decide⟩
  · rw [if_neg c]; exact ⟨by decide, by decide⟩
theorem k_half {a : Int32} {τ : SG} {ρ : RG} (h : τ 54 17 = 0) : kp (F_X12_half a τ ρ) (fun q => q = a) := by
  unfold F_X12_half
  exact kp_t h (kp_some rfl)
/-! weighing -/
def acr (k : Nat) (a b : Int32) : Int32 := (if k < 2 then a else -a) + (if k % 2 = 0 then -b else b)
theorem par2 {v : Int32} {k : Nat} (hv : v.toInt = (k : Int)) : (v - v / 2 * 2 = 0 ↔ k % 2 = 0) := by
  have e2 : (2 : Int32).toInt = 2 := rfl
  have h : (v - v / 2 * 2).toInt = (k : Int) % 2 := by rw [ti_rem (by decide), e2, Int.tmod_eq_emod_of_nonneg (by omega), hv]
  constructor
  · intro z
    rw [z, ti_0] at h
    omega
  · intro z
    exact ieq (by rw [h, ti_0]; omega)
theorem k_across {k : Nat} {a1 a2 a3 : Int32} {σ : SG} {ρ : RG} (h : a1.toInt = (k : Int)) : kp (F_X3_acrossAt a1 a2 a3 σ ρ) (fun q => q = acr k a2 a3) := by
  have e2 : (2 : Int32).toInt = 2 := rfl
  have P := par2 h
  have tail : ∀ k0 : Int32, k0 = (if k < 2 then a2 else -a2) → kp (F_X3_acrossAt_11 a1 a2 a3 σ ρ a1 a3 k0) (fun q => q = acr k a2 a3) := by
    intro k0 hk
    unfold F_X3_acrossAt_11 acr
    refine kp_nm (fun x3 h3 => kp_ih (fun c => kp_nm (fun x6 h6 => kp_nm (fun x7 h7 => kp_some ?_))) (fun c => kp_nm (fun x5 h5 => kp_some ?_)))
    · rw [if_pos (P.mp (h3.symm.trans c)), h7, h6, hk]
    · rw [if_neg (fun z => c (h3.trans (P.mpr z))), h5, hk]
  unfold F_X3_acrossAt
  refine kp_ih (fun c => kp_nm (fun x2 h2 => tail x2 ?_)) (fun c => tail a2 ?_)
  · have := le_i c
    rw [if_neg (by omega), h2]
  · have := lt_i (nle c)
    rw [if_pos (by omega)]
theorem k_corner {k : Nat} {a1 a2 a3 a4 : Int32} {σ : SG} {ρ : RG} (h : a1.toInt = (k : Int)) : kp (F_X12_corner a1 a2 a3 a4 σ ρ) (fun q => q = a2 + acr k a3 a4) := by
  have e2 : (2 : Int32).toInt = 2 := rfl
  have P := par2 h
  have tail : ∀ k1 : Int32, k1 = (if k < 2 then a3 else -a3) → kp (F_X12_corner_12 a1 a2 a3 a4 σ ρ a1 a4 a2 k1) (fun q => q = a2 + acr k a3 a4) := by
    intro k1 hk
    unfold F_X12_corner_12 acr
    refine kp_nm (fun x3 h3 => kp_nm (fun x4 h4 => kp_ih (fun c => kp_nm (fun x7 h7 => kp_nm (fun x8 h8 => kp_some ?_))) (fun c => kp_nm (fun x6 h6 => kp_some ?_))))
    · rw [if_pos (P.mp (h4.symm.trans c)), h8, h7, h3, hk, Int32.add_assoc]
    · rw [if_neg (fun z => c (h4.trans (P.mpr z))), h6, h3, hk, Int32.add_assoc]
  unfold F_X12_corner
  refine kp_ih (fun c => kp_nm (fun x2 h2 => tail x2 ?_)) (fun c => tail a3 ?_)
  · have := le_i c
    rw [if_neg (by omega), h2]
  · have := lt_i (nle c)
    rw [if_pos (by omega)]
theorem acr_rg {k : Nat} {a b : Int32} (ha : rg a (-198) 198) (hb : rg b (-198) 198) : rg (acr k a b) (-396) 396 := by
  have na : rg (-a) (-198) 198 := rg_neg ha (by decide) (by decide) (by decide) (by decide)
  have nb : rg (-b) (-198) 198 := rg_neg hb (by decide) (by decide) (by decide) (by decide)
  unfold acr
  exact rg_add (rg_ite ha na) (rg_ite nb hb) (by decide) (by decide) (by decide) (by decide)
theorem edge_eq {k : Nat} {th at_ up side up' side' : Int32} : th + acr k (up - up') (side - side') = (at_ + acr k up side) - ((at_ - th) + acr k up' side') := by
  unfold acr
  by_cases a : k < 2
  · rw [if_pos a, if_pos a, if_pos a]
    by_cases b : k % 2 = 0
    · rw [if_pos b, if_pos b, if_pos b]; grind
    · rw [if_neg b, if_neg b, if_neg b]; grind
  · rw [if_neg a, if_neg a, if_neg a]
    by_cases b : k % 2 = 0
    · rw [if_pos b, if_pos b, if_pos b]; grind
    · rw [if_neg b, if_neg b, if_neg b]; grind
def WR (k i : Nat) (σ τ : SG) : Prop := if k = 0 then σ i 6 = 0 ∧ τ 54 14 = 0 ∧ τ 54 15 = 1000000 ∧ τ 54 16 = 0 else σ i 6 = τ 54 14 ∧ σ i 7 = τ 54 15 ∧ σ i 8 = τ 54 16
def FW (i : Nat) (σ σ' : SG) : Prop := ∀ r k, ¬ (r = i ∧ (k = 6 ∨ k = 7 ∨ k = 8)) → σ' r k = σ r k
def FV2 (j : Nat) (τ τ' : SG) : Prop := ∀ r k, ¬ (r = 54 ∧ (k = 14 ∨ k = 15 ∨ k = 16)) → ¬ (r = 55 ∧ (k = 0 ∨ k = 1 ∨ k = 2 ∨ k = 3 ∨ k = 5 + j)) → τ' r k = τ r k
theorem sim_weigh {i j : Nat} {a1 a2 a3 b1 b2 th at0 up0 side0 v9 v10 J : Int32} {ρ ρ' : RG} (hJ : J.toInt = (j : Int)) (hj : j < 6) (ht : rg th 0 100) (hu : rg (up0 - v9) (-198) 198) (hs : rg (side0 - v10) (-198) 198) : ∀ (n k : Nat) (σ τ : SG) (v4 : Int32), v4.toInt = (k : Int) → k ≤ 4 → WR k i σ τ → τ 55 0 = at0 → τ 55 1 = up0 → τ 55 2 = side0 → kp (F_X3_weigh_8 i a1 a2 a3 n σ ρ th (up0 - v9) (side0 - v10) v4) (fun q => FW i σ q ∧ ∀ n' : Nat, kp (F_X12_cuts_305 b1 b2 n' τ ρ' J (at0 - th) v9 v10 v4) (fun q' => q'.1 = 1 ∧ (q i 6 = q'.2 54 14 ∧ q i 7 = q'.2 54 15 ∧ q i 8 = q'.2 54 16) ∧ (q'.2 55 0 = at0 - th ∧ q'.2 55 1 = v9 ∧ q'.2 55 2 = v10 ∧ q'.2 55 3 = τ 55 3 + 1 ∧ q'.2 55 (5 + j) = τ 55 (5 + j) + q'.2 54 14) ∧ FV2 j τ q'.2)) := by
  have e4 : (4 : Int32).toInt = 4 := rfl
  have e5 : (5 : Int32).toInt = 5 := rfl
  have eF : (1000000 : Int32).toInt = 1000000 := rfl
  intro n
  induction n with
  | zero => intro k σ τ v4 _ _ _ _ _ _; exact kp_none
  | succ n ih =>
    intro k σ τ v4 hk k4 hW h0 h1 h2
    unfold F_X3_weigh_8
    refine kp_ih (fun c => kp_some ⟨fun _ _ _ => rfl, fun n' => ?_⟩) (fun c => ?_)
    · -- all four
      have ek : k = 4 := by have := le_i c; omega
      rw [ek] at hW
      have hW : σ i 6 = τ 54 14 ∧ σ i 7 = τ 54 15 ∧ σ i 8 = τ 54 16 := hW
      cases n' with
      | zero => exact kp_none
      | succ n' =>
        unfold F_X12_cuts_305
        refine kp_t c (kp_nm (fun σ35 g35 => kp_nm (fun σ37 g37 => kp_nm (fun σ39 g39 => kp_nm (fun x40 g40 => kp_gd (fun _ => kp_nm (fun x42 g42 => kp_gd (fun _ => kp_nm (fun σ45 g45 => kp_nm (fun x46 g46 => kp_nm (fun σ48 g48 => kp_some ?_)))))))))))
        have n40 : x40.toNatClampNeg = 5 + j := cn (by rw [g40, ti_add (by omega) (by omega), e5, hJ]; omega)
        rw [n40] at g42 g45
        have o39 : ∀ r k', ¬ (r = 55 ∧ (k' = 0 ∨ k' = 1 ∨ k' = 2)) → σ39 r k' = τ r k' := fun r k' n => by rw [g39, sn (by omega), g37, sn (by omega), g35, sn (by omega)]
        have o48 : ∀ r k', ¬ (r = 55 ∧ (k' = 3 ∨ k' = 5 + j)) → σ48 r k' = σ39 r k' := fun r k' n => by rw [g48, sn (by omega), g45, sn (by omega)]
        have w14 : σ48 54 14 = τ 54 14 := by rw [o48 54 14 (by omega), o39 54 14 (by omega)]
        refine ⟨rfl, ⟨?_, ?_, ?_⟩, ⟨?_, ?_, ?_, ?_, ?_⟩, fun r k' n1 n2 => ?_⟩
        · show σ i 6 = σ48 54 14
          rw [w14]; exact hW.1
        · show σ i 7 = σ48 54 15
          rw [o48 54 15 (by omega), o39 54 15 (by omega)]; exact hW.2.1
        · show σ i 8 = σ48 54 16
          rw [o48 54 16 (by omega), o39 54 16 (by omega)]; exact hW.2.2
        · show σ48 55 0 = _
          rw [o48 55 0 (by omega), g39, sn (by omega), g37, sn (by omega), g35, sv]
        · show σ48 55 1 = _
          rw [o48 55 1 (by omega), g39, sn (by omega), g37, sv]
        · show σ48 55 2 = _
          rw [o48 55 2 (by omega), g39, sv]
        · show σ48 55 3 = _
          rw [g48, sv, g46, g45, sn (by omega), o39 55 3 (by omega)]
        · show σ48 55 (5 + j) = τ 55 (5 + j) + σ48 54 14
          rw [w14, g48, sn (by omega), g45, sv, g42, o39 55 (5 + j) (by omega), o39 54 14 (by omega)]
        · show σ48 r k' = τ r k'
          rw [o48 r k' (by omega), o39 r k' (by omega)]
    · have kl : k < 4 := by have := lt_i (nle c); omega
      refine kp_bn (k_across hk) (fun r4 h4 => kp_nm (fun x5 h5 => kp_nm (fun x6 h6 => kp_nm (fun x7 h7 => kp_nm (fun σ9 h9 => ?_)))))
      -- what lies at this corner
      have r5 : rg x5 (-396) 496 := by rw [h5, h4]; exact rg_add ht (acr_rg hu hs) (by decide) (by decide) (by decide) (by decide)
      have r6 : 0 ≤ x6.toInt ∧ x6.toInt ≤ 496 := by
        rw [h6]
        by_cases q : (0 : Int32) < x5
        · rw [if_pos q]; have := lt_i q; rw [ti_0] at this; exact ⟨by omega, r5.2⟩
        · rw [if_neg q]; exact ⟨by decide, by decide⟩
      have e9 : ∀ k', k' ≠ 6 → σ9 i k' = σ i k' := fun k' n => by rw [h9, sn (by omega)]
      -- the reference's round
      have ref : ∀ (Q : Int32 × SG → Prop) (n' : Nat), (∀ (m : Nat) (τ' : SG) (x : Int32), x = v4 + 1 → (∀ r k', ¬ (r = 54 ∧ (k' = 14 ∨ k' = 15 ∨ k' = 16)) → τ' r k' = τ r k') → τ' 54 14 = τ 54 14 + x6 → (τ' 54 15 = if τ 54 15 ≤ x6 then τ 54 15 else x6) → (τ' 54 16 = if x6 ≤ τ 54 16 then τ 54 16 else x6) → kp (F_X12_cuts_305 b1 b2 m τ' ρ' J (at0 - th) v9 v10 x) Q) → kp (F_X12_cuts_305 b1 b2 n' τ ρ' J (at0 - th) v9 v10 v4) Q := by
        intro Q n' hQ
        cases n' with
        | zero => exact kp_none
        | succ m =>
          unfold F_X12_cuts_305
          refine kp_f c (kp_bn (k_corner hk) (fun r49 g49 => kp_bn (k_corner hk) (fun r50 g50 => kp_nm (fun x51 g51 => ?_))))
          have e51 : x51 = x5 := by rw [g51, g49, g50, h0, h1, h2, h5, h4, edge_eq]
          have step : ∀ k0 : Int32, k0 = x6 → kp (F_X12_cuts_359 b1 b2 (F_X12_cuts_305 b1 b2 m) τ ρ' J (at0 - th) v9 v10 v4 k0) Q := by
            intro k0 hk0
            rw [hk0]
            unfold F_X12_cuts_359
            refine kp_nm (fun x53 g53 => kp_nm (fun τ55 g55 => ?_))
            have e15 : τ55 54 15 = τ 54 15 := by rw [g55, sn (by omega)]
            have e16 : τ55 54 16 = τ 54 16 := by rw [g55, sn (by omega)]
            have nx : ∀ k1 : Int32, (k1 = if τ 54 15 ≤ x6 then τ 54 15 else x6) → kp (F_X12_cuts_391 b1 b2 (F_X12_cuts_305 b1 b2 m) τ55 ρ' J (at0 - th) v9 v10 v4 x6 k1) Q := by
              intro k1 hk1
              unfold F_X12_cuts_391
              refine kp_nm (fun τ58 g58 => ?_)
              have f16 : τ58 54 16 = τ 54 16 := by rw [g58, sn (by omega), e16]
              have ny : ∀ k2 : Int32, (k2 = if x6 ≤ τ 54 16 then τ 54 16 else x6) → kp (F_X12_cuts_413 b1 b2 (F_X12_cuts_305 b1 b2 m) τ58 ρ' J (at0 - th) v9 v10 v4 k2) Q := by
                intro k2 hk2
                unfold F_X12_cuts_413
                refine kp_nm (fun τ61 g61 => kp_nm (fun x62 g62 => hQ m τ61 x62 g62 (fun r k' n => ?_) ?_ ?_ ?_))
                · rw [g61, sn (by omega), g58, sn (by omega), g55, sn (by omega)]
                · rw [g61, sn (by omega), g58, sn (by omega), g55, sv, g53]
                · rw [g61, sn (by omega), g58, sv, hk1]
                · rw [g61, sv, hk2]
              refine kp_ih (fun d => ?_) (fun d => ?_)
              · rw [f16] at d ⊢
                exact ny _ (by rw [if_pos d])
              · rw [f16] at d
                exact ny _ (by rw [if_neg d])
            refine kp_ih (fun d => ?_) (fun d => ?_)
            · rw [e15] at d ⊢
              exact nx _ (by rw [if_pos d])
            · rw [e15] at d
              exact nx _ (by rw [if_neg d])
          refine kp_ih (fun d => step x51 ?_) (fun d => step 0 ?_)
          · rw [e51] at d ⊢
            rw [h6]
            by_cases q : (0 : Int32) < x5
            · rw [if_pos q]
            · rw [if_neg q]
              have := le_i (nlt q)
              have := le_i d
              exact ieq (by omega)
          · rw [e51] at d
            rw [h6, if_neg]
            intro q
            exact d (i_le (by have := lt_i q; omega))
      -- the class's round
      have go : ∀ (σ17 : SG) (x18 : Int32), x18 = v4 + 1 → FW i σ σ17 → (∀ τ' : SG, τ' 54 14 = τ 54 14 + x6 → (τ' 54 15 = if τ 54 15 ≤ x6 then τ 54 15 else x6) → (τ' 54 16 = if x6 ≤ τ 54 16 then τ 54 16 else x6) → WR (k + 1) i σ17 τ') → kp (F_X3_weigh_8 i a1 a2 a3 n σ17 ρ th (up0 - v9) (side0 - v10) x18) (fun q => FW i σ q ∧ ∀ n' : Nat, kp (F_X12_cuts_305 b1 b2 n' τ ρ' J (at0 - th) v9 v10 v4) (fun q' => q'.1 = 1 ∧ (q i 6 = q'.2 54 14 ∧ q i 7 = q'.2 54 15 ∧ q i 8 = q'.2 54 16) ∧ (q'.2 55 0 = at0 - th ∧ q'.2 55 1 = v9 ∧ q'.2 55 2 = v10 ∧ q'.2 55 3 = τ 55 3 + 1 ∧ q'.2 55 (5 + j) = τ 55 (5 + j) + q'.2 54 14) ∧ FV2 j τ q'.2)) := by
        intro σ17 x18 hx hF hW'
        have ex : x18.toInt = ((k + 1 : Nat) : Int) := by rw [hx, ti_add (by rw [ti_1]; omega) (by rw [ti_1]; omega), ti_1, hk]; omega
        intro q hq
        have fq : FW i σ17 q := by
          obtain ⟨τ', t1, t2, t3, t4⟩ : ∃ τ' : SG, (∀ r k', ¬ (r = 54 ∧ (k' = 14 ∨ k' = 15 ∨ k' = 16)) → τ' r k' = τ r k') ∧ τ' 54 14 = τ 54 14 + x6 ∧ (τ' 54 15 = if τ 54 15 ≤ x6 then τ 54 15 else x6) ∧ (τ' 54 16 = if x6 ≤ τ 54 16 then τ 54 16 else x6) := by
            refine ⟨s2 (s2 (s2 τ 54 14 (τ 54 14 + x6)) 54 15 (if τ 54 15 ≤ x6 then τ 54 15 else x6)) 54 16 (if x6 ≤ τ 54 16 then τ 54 16 else x6), fun r k' n => ?_, ?_, ?_, ?_⟩
            · rw [sn (by omega), sn (by omega), sn (by omega)]
            · rw [sn (by omega), sn (by omega), sv]
            · rw [sn (by omega), sv]
            · rw [sv]
          exact (ih (k + 1) σ17 τ' x18 ex (by omega) (hW' τ' t2 t3 t4) (by rw [t1 55 0 (by omega)]; exact h0) (by rw [t1 55 1 (by omega)]; exact h1) (by rw [t1 55 2 (by omega)]; exact h2) q hq).1
        refine ⟨fun r k' nn => (fq r k' nn).trans (hF r k' nn), fun n' => ref _ n' (fun m τ' x hx' t1 t2 t3 t4 => ?_)⟩
        have := (ih (k + 1) σ17 τ' x18 ex (by omega) (hW' τ' t2 t3 t4) (by rw [t1 55 0 (by omega)]; exact h0) (by rw [t1 55 1 (by omega)]; exact h1) (by rw [t1 55 2 (by omega)]; exact h2) q hq).2 m
        rw [hx', ← hx]
        refine kp_mono this (fun q' hq' => ?_)
        obtain ⟨y1, y2, ⟨y3, y4, y5, y6, y7⟩, y8⟩ := hq'
        exact ⟨y1, y2, ⟨y3, y4, y5, by rw [y6, t1 55 3 (by omega)], by rw [y7, t1 55 (5 + j) (by omega)]⟩, fun r k' n1 n2 => (y8 r k' n1 n2).trans (t1 r k' n1)⟩
      refine kp_ih (fun d => ?_) (fun d => kp_nm (fun x11 h11 => ?_))
      · -- the first corner
        have k0 : k = 0 := by rw [d, ti_0] at hk; omega
        subst k0
        have hW : σ i 6 = 0 ∧ τ 54 14 = 0 ∧ τ 54 15 = 1000000 ∧ τ 54 16 = 0 := hW
        unfold F_X3_weigh_60
        refine kp_nm (fun σ13 h13 => kp_t d ?_)
        unfold F_X3_weigh_83
        refine kp_nm (fun σ17 h17 => kp_nm (fun x18 h18 => go σ17 x18 h18 (fun r k' nn => ?_) (fun τ' t2 t3 t4 => ?_)))
        · rw [h17, sn (by omega), h13, sn (by omega), h9, sn (by omega)]
        · show σ17 i 6 = τ' 54 14 ∧ σ17 i 7 = τ' 54 15 ∧ σ17 i 8 = τ' 54 16
          refine ⟨?_, ?_, ?_⟩
          · rw [h17, sn (by omega), h13, sn (by omega), h9, sv, h7, hW.1, t2, hW.2.1]
          · rw [h17, sn (by omega), h13, sv, t3, hW.2.2.1, if_neg]
            intro z
            have := le_i z
            omega
          · rw [h17, sv, t4, hW.2.2.2]
            by_cases z : x6 ≤ 0
            · rw [if_pos z]; have := le_i z; rw [ti_0] at this; exact ieq (by rw [ti_0]; omega)
            · rw [if_neg z]
      · have k0 : k ≠ 0 := fun z => d (ieq (by rw [hk, z]; rfl))
        have hW : σ i 6 = τ 54 14 ∧ σ i 7 = τ 54 15 ∧ σ i 8 = τ 54 16 := by unfold WR at hW; rwa [if_neg k0] at hW
        rw [e9 7 (by omega)] at h11
        unfold F_X3_weigh_60
        refine kp_nm (fun σ13 h13 => kp_f d (kp_nm (fun x15 h15 => ?_)))
        rw [h13, sn (by omega), e9 8 (by omega)] at h15
        unfold F_X3_weigh_83
        refine kp_nm (fun σ17 h17 => kp_nm (fun x18 h18 => go σ17 x18 h18 (fun r k' nn => ?_) (fun τ' t2 t3 t4 => ?_)))
        · rw [h17, sn (by omega), h13, sn (by omega), h9, sn (by omega)]
        · unfold WR
          rw [if_neg (by omega)]
          refine ⟨?_, ?_, ?_⟩
          · rw [h17, sn (by omega), h13, sn (by omega), h9, sv, h7, hW.1, t2]
          · rw [h17, sn (by omega), h13, sv, t3, h11, hW.2.1]
            by_cases z : τ 54 15 ≤ x6
            · rw [if_pos z, if_neg (fun y => by have := le_i z; have := lt_i y; omega)]
            · rw [if_neg z, if_pos (nle z)]
          · rw [h17, sv, t4, h15, hW.2.2]
            by_cases z : x6 ≤ τ 54 16
            · rw [if_pos z, if_neg (fun y => by have := le_i z; have := lt_i y; omega)]
            · rw [if_neg z, if_pos (nle z)]
