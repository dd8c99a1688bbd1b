/-! PART 7595.rk: by hand: board's references, as, ranges, the first world -/
theorem c11 {m : Int} {σ : SG} (hB : BX m σ) : rg (σ 1 1) 0 6 := bx_get hB (r := 1) (a := 1) (b := 1) (k := 1) (l := 0) (h := 6) (by decide) (by decide) (by decide)
theorem c55 {m : Int} {σ : SG} (hB : BX m σ) : rg (σ 55 11) 0 6 := bx_get hB (r := 55) (a := 11) (b := 11) (k := 11) (l := 0) (h := 6) (by decide) (by decide) (by decide)
theorem c13 {m : Int} {σ : SG} (hB : BX m σ) : rg (σ 55 13) 0 4 := bx_get hB (r := 55) (a := 13) (b := 13) (k := 13) (l := 0) (h := 4) (by decide) (by decide) (by decide)
theorem c14 {m : Int} {σ : SG} (hB : BX m σ) : rg (σ 55 14) 0 8 := bx_get hB (r := 55) (a := 14) (b := 14) (k := 14) (l := 0) (h := 8) (by decide) (by decide) (by decide)
theorem bd_38 {a2 : Int32} {ρ : RG} : ∀ (n : Nat) (σ : SG) (v3 : Int32), kp (F_X0_readFrom_38 a2 n σ ρ v3) (fun q => q.2.2 = ρ) := by
  intro n
  induction n with
  | zero => intro σ v3; exact kp_none
  | succ n ih =>
    intro σ v3
    unfold F_X0_readFrom_38
    refine kp_if (kp_some rfl) (kp_bx2 (fun r16 σ16 => kp_if (kp_some rfl) (kp_if (kp_some rfl) (kp_nm (fun x19 _ => kp_if (kp_some rfl) (kp_bx2 (fun r21 σ21 => kp_if (kp_some rfl) (kp_nm (fun x23 _ => ih σ21 x23)))))))))
theorem bd_rho {σ : SG} {ρ : RG} : kp (F_X11_board σ ρ) (fun q => q.2.2 = ρ ∨ q.2.2 = r2 ρ 29 8 (some 10)) := by
  unfold F_X11_board
  refine kp_if (kp_bn3 (Q := fun q => q.2.2 = r2 ρ 29 8 (some 10)) ?_ (fun r2' σ2 ρ2 h => kp_nm (fun σ4 _ => kp_if (kp_nm (fun x _ => kp_some (Or.inr h))) (kp_bx (fun σ6 => kp_nm (fun x7 _ => kp_nm (fun σ9 _ => kp_nm (fun x10 _ => kp_some (Or.inr h))))))))) (kp_some (Or.inl rfl))
  unfold F_X0_readFrom
  refine kp_nm (fun ρ2 e2 => kp_nm (fun σ4 _ => kp_nm (fun σ6 _ => kp_nm (fun σ8 _ => kp_nm (fun σ10 _ => kp_nm (fun σ12 _ => kp_nm (fun σ14 _ => ?_)))))))
  exact kp_mono (bd_38 1024 σ14 0) (fun q z => by rw [z, e2])
theorem ra_bd {N : Nat} {K len : Nat → Nat} {ρ ρ2 : RG} {σ : SG} (hQ : PR N K len ρ) (h : ρ2 = ρ ∨ ρ2 = r2 ρ 29 8 (some 10)) (R : RA K σ ρ) : RA K σ ρ2 := by
  rcases h with rfl | rfl
  · exact R
  · exact ra_29 hQ R
/-! as -/
def asK (k : Nat) (a : Int32) : Int32 := if a = 0 then 1 else if a = 1 then io7 k else if a = 2 then io6 k else if a = 3 then io2 k else if a = 4 then io5 k else if a = 5 then io4 k else if a = 6 then io9 k else 0
theorem ok_11 {N : Nat} {K len : Nat → Nat} {z : Nat} {a2 : Int32} {σ : SG} {ρ : RG} : kp (F_X11_isOfKind N K len z a2 σ ρ) (fun q => q = asK (K z) a2) := by
  unfold F_X11_isOfKind asK
  by_cases e0 : a2 = 0
  · rw [if_pos e0, if_pos e0]; exact kp_some rfl
  rw [if_neg e0, if_neg e0]
  by_cases e1 : a2 = 1
  · rw [if_pos e1, if_pos e1]; exact kp_gd (fun _ => kp_some rfl)
  rw [if_neg e1, if_neg e1]
  by_cases e2 : a2 = 2
  · rw [if_pos e2, if_pos e2]; exact kp_gd (fun _ => kp_some rfl)
  rw [if_neg e2, if_neg e2]
  by_cases e3 : a2 = 3
  · rw [if_pos e3, if_pos e3]; exact kp_gd (fun _ => kp_some rfl)
  rw [if_neg e3, if_neg e3]
  by_cases e4 : a2 = 4
  · rw [if_pos e4, if_pos e4]; exact kp_gd (fun _ => kp_some rfl)
  rw [if_neg e4, if_neg e4]
  by_cases e5 : a2 = 5
  · rw [if_pos e5, if_pos e5]; exact kp_gd (fun _ => kp_some rfl)
  rw [if_neg e5, if_neg e5]
  by_cases e6 : a2 = 6
  · rw [if_pos e6, if_pos e6]; exact kp_gd (fun _ => kp_some rfl)
  rw [if_neg e6, if_neg e6]
  exact kp_some rfl
theorem int7 {a : Int32} (h : (0 : Int32) ≤ a ∧ a ≤ (6 : Int32)) : a = 0 ∨ a = 1 ∨ a = 2 ∨ a = 3 ∨ a = 4 ∨ a = 5 ∨ a = 6 := by
  have z0 : (0 : Int32).toInt = 0 := rfl
  have z6 : (6 : Int32).toInt = 6 := rfl
  have h1 := Int32.le_iff_toInt_le.mp h.1
  have h2 := Int32.le_iff_toInt_le.mp h.2
  have h3 : a.toInt = 0 ∨ a.toInt = 1 ∨ a.toInt = 2 ∨ a.toInt = 3 ∨ a.toInt = 4 ∨ a.toInt = 5 ∨ a.toInt = 6 := by omega
  rcases h3 with h | h | h | h | h | h | h
  · exact Or.inl (Int32.toInt_inj.mp (by rw [h]; rfl))
  · exact Or.inr (Or.inl (Int32.toInt_inj.mp (by rw [h]; rfl)))
  · exact Or.inr (Or.inr (Or.inl (Int32.toInt_inj.mp (by rw [h]; rfl))))
  · exact Or.inr (Or.inr (Or.inr (Or.inl (Int32.toInt_inj.mp (by rw [h]; rfl)))))
  · exact Or.inr (Or.inr (Or.inr (Or.inr (Or.inl (Int32.toInt_inj.mp (by rw [h]; rfl))))))
  · exact Or.inr (Or.inr (Or.inr (Or.inr (Or.inr (Or.inl (Int32.toInt_inj.mp (by rw [h]; rfl)))))))
  · exact Or.inr (Or.inr (Or.inr (Or.inr (Or.inr (Or.inr (Int32.toInt_inj.mp (by rw [h]; rfl)))))))
theorem un_k {k : Nat} {a : Int32} {σ : SG} {ρ : RG} (hk : isCk k = true) (h : (0 : Int32) ≤ a ∧ a ≤ (6 : Int32)) : F_X12_isUnder (kno k) a σ ρ = some (asK k a) := by
  rcases isCk_or hk with rfl | rfl | rfl | rfl | rfl | rfl | rfl <;> rcases int7 h with rfl | rfl | rfl | rfl | rfl | rfl | rfl <;> rfl
def asA (a1 a2 : Int32) (v : Int32 × Int32) (c : Int32) : Int32 := if (0 : Int32) ≤ a1 ∧ a1 < c then (if (0 : Int32) ≤ a2 ∧ a2 ≤ (6 : Int32) then (if v.1 = 0 then -6 else v.2) else -1) else -1
theorem as_11 {N : Nat} {K len : Nat → Nat} {a1 a2 : Int32} {σ : SG} {ρ : RG} (hQ : PR N K len ρ) (hB0 : rg (σ 1 1) 0 6) (R : RA K σ ρ) : kp (F_X11_as N K len a1 a2 σ ρ) (fun q => F_X12_as a1 a2 σ ρ = some q) := by
  have w : σ 1 1 = σ 55 11 := R.1.1
  have hc : rg (σ 55 11) 0 6 := by rw [← w]; exact hB0
  obtain ⟨i1, hi1, hi⟩ := ic_12 (a1 := a1) (ρ := ρ) hc
  obtain ⟨i2, hj1, hj⟩ := in_0 (a := a2) (l := 0) (h := 6) (σ := σ) (ρ := ρ)
  unfold F_X11_as F_X12_as
  rw [hi1]
  show kp _ (fun q => (if i1 = 0 then some (-1) else _) = some q)
  refine kp_bn (kp_ok (at_11 (N := N) (len := len) hB0 R)) (fun o h => ?_)
  rcases h with ⟨rfl, n⟩ | ⟨c, j, rfl, v1, v2, hj6, ej, hρ⟩
  · have z : i1 = 0 := by
      by_cases z : i1 = 0
      · exact z
      · exact absurd (by have := hi.mp z; rw [← w] at this; exact this) n
    rw [if_pos z]; exact kp_some rfl
  have z : ¬ i1 = 0 := hi.mpr (by rw [← w]; exact ⟨v1, v2⟩)
  rw [if_neg z, hj1]
  refine kp_gd (fun _ => kp_bn (kp_ok wi_0) (fun r3 h3 => ?_))
  show kp _ (fun q => (if i2 = 0 then some (-1) else _) = some q)
  by_cases d : r3 = 0
  · have z2 : i2 = 0 := by
      by_cases z2 : i2 = 0
      · exact z2
      · exact absurd (hj.2.mp z2) (fun q => h3.2.mpr q d)
    rw [if_pos d, if_pos z2]; exact kp_some rfl
  have y := h3.2.mp d
  have z2 : ¬ i2 = 0 := hj.2.mpr y
  rw [if_neg d, if_neg z2]
  have kc := hQ.2.2.1 j c hj6 hρ
  obtain ⟨⟨f1, f2, -⟩, -⟩ := (R.2.1 j hj6).2 c hρ
  have r := hB0.2
  have e20 : (20 : Int32).toInt = 20 := rfl
  have e26 : (26 : Int32).toInt = 26 := rfl
  have a20 : (20 + a1 : Int32).toInt = 20 + (j : Int) := by rw [ti_add (by omega) (by omega), e20, ej]
  have a26 : (26 + a1 : Int32).toInt = 26 + (j : Int) := by rw [ti_add (by omega) (by omega), e26, ej]
  have n20 : (20 + a1 : Int32).toNatClampNeg = 20 + j := by show (20 + a1 : Int32).toInt.toNat = _; omega
  have n26 : (26 + a1 : Int32).toNatClampNeg = 26 + j := by show (26 + a1 : Int32).toInt.toNat = _; omega
  have g20 : inb (20 + a1 : Int32) 909 = true := decide_eq_true ⟨by omega, by omega⟩
  have g26 : inb (26 + a1 : Int32) 909 = true := decide_eq_true ⟨by omega, by omega⟩
  refine kp_bn ok_11 (fun r5 h5 => ?_)
  show kp _ (fun q => gd (inb (20 + a1 : Int32) 909) (bn (F_X12_isUnder (σ 55 (20 + a1 : Int32).toNatClampNeg) a2 σ ρ) (fun r7 => if r7 = 0 then some (-6 : Int32) else gd (inb (26 + a1 : Int32) 909) (some (σ 55 (26 + a1 : Int32).toNatClampNeg)))) = some q)
  rw [g20, n20, ← f1, un_k (isC_k kc.1) y, g26, n26, ← f2]
  show kp _ (fun q => (if asK (K c) a2 = 0 then some (-6 : Int32) else some (σ c 1)) = some q)
  rw [← h5]
  by_cases e : r5 = 0
  · rw [if_pos e]; exact kp_some rfl
  · rw [if_neg e]; exact kp_some rfl
