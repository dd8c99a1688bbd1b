/-! PART 65.ha: the reference's loops that a range does not bound: by hand -/
theorem rg_c {n : Int32} {z : Int} (h : n.toInt = z) : rg n z z := ⟨by omega, by omega⟩
theorem rg_lo {x : Int32} {m : Int} (h : rg x 0 m) : rg x 0 2147483647 := ⟨h.1, (rg_any x).2⟩
/-! the step of a board's code, as the F functions ask for it -/
theorem top_pos {c : Int32} {t z : Nat} (h : stepTop c t = some z) (hc : 0 ≤ c.toInt) : t < 64 ∧ c.toInt % 8 < 6 ∧ z = t + 1 := by
  unfold stepTop at h
  rw [if_pos hc] at h
  by_cases q : t < 64 ∧ c.toInt % 8 < 6
  · rw [if_pos q] at h; cases h; exact ⟨q.1, q.2, rfl⟩
  · rw [if_neg q] at h; cases h
theorem top_not {c : Int32} {t z : Nat} (h : stepTop c t = some z) (hc : c.toInt = -1) : 1 ≤ t ∧ t ≤ 64 ∧ z = t := by
  unfold stepTop at h
  rw [if_neg (by omega), if_pos hc] at h
  by_cases q : 1 ≤ t ∧ t ≤ 64
  · rw [if_pos q] at h; cases h; exact ⟨q.1, q.2, rfl⟩
  · rw [if_neg q] at h; cases h
theorem top_two {c : Int32} {t z : Nat} (h : stepTop c t = some z) (h1 : c.toInt < -1) (h2 : -10 < c.toInt) : 2 ≤ t ∧ t ≤ 64 ∧ z = t - 1 := by
  unfold stepTop at h
  rw [if_neg (by omega), if_neg (by omega), if_pos h2] at h
  by_cases q : 2 ≤ t ∧ t ≤ 64
  · rw [if_pos q] at h; cases h; exact ⟨q.1, q.2, rfl⟩
  · rw [if_neg q] at h; cases h
theorem top_end {c : Int32} {t z : Nat} (h : stepTop c t = some z) (h1 : c.toInt ≤ -10) : z = 0 := by
  unfold stepTop at h
  rw [if_neg (by omega), if_neg (by omega), if_neg (by omega)] at h
  cases h; rfl
/-- the loop of looks: what is left of the code can be run from here -/
theorem s_X12_looks_117 {g : Nat → Int32} {m : Int} {a1 a2 v3 v4 : Int32} {ρ : RG} (h3 : rg v3 0 140) (h4 : rg v4 209 769) : ∀ (n : Nat) (σ : SG) (v5 v6 : Int32) (t k : Nat), v5.toInt = (t : Int) → v6.toInt + (k : Int) = v4.toInt + v3.toInt → 209 ≤ v6.toInt → k < n → (simc (σ 55) k v6.toNatClampNeg t).isSome = true → BF g m σ → ok (F_X12_looks_117 a1 a2 n σ ρ v3 v4 v5 v6) (fun q => BF g m q) := by
  intro n
  induction n with
  | zero => intro σ v5 v6 t k e5 e6 h6 hk; omega
  | succ n ih =>
    intro σ v5 v6 t k e5 e6 h6 hk hs hB
    obtain ⟨b3, c3⟩ := h3
    obtain ⟨b4, c4⟩ := h4
    unfold F_X12_looks_117
    refine ok_nm (fun x25 hx25 => ?_)
    have e25 : x25.toInt = v4.toInt + v3.toInt := by rw [hx25, ti_add (by omega) (by omega)]
    refine ok_if (fun _ => ok_some hB) (fun c => ?_)
    have lt6 := Int32.lt_iff_toInt_lt.mp (nle c)
    obtain ⟨k, rfl⟩ : ∃ j, k = j + 1 := ⟨k - 1, by omega⟩
    have r6 : rg v6 209 908 := ⟨h6, by omega⟩
    have i6 := rg_cl r6 (by decide)
    -- the step
    obtain ⟨z, hz⟩ : ∃ z, stepTop (σ 55 v6.toNatClampNeg) t = some z := by
      cases q : stepTop (σ 55 v6.toNatClampNeg) t with
      | none => simp [simc, q] at hs
      | some z => exact ⟨z, rfl⟩
    have hs2 : (simc (σ 55) k (v6.toNatClampNeg + 1) z).isSome = true := by
      have e : simc (σ 55) (k + 1) v6.toNatClampNeg t = (stepTop (σ 55 v6.toNatClampNeg) t).bind (simc (σ 55) k (v6.toNatClampNeg + 1)) := rfl
      rw [e, hz] at hs
      exact hs
    refine ok_gd (rg_inb r6 (by decide) (by decide)) ?_
    -- going on, with the row of the reference as it was
    have go : ∀ (σ' : SG) (v5' : Int32), v5'.toInt = (z : Int) → σ' 55 = σ 55 → BF g m σ' → ok (F_X12_looks_429 a1 a2 (F_X12_looks_117 a1 a2 n) σ' ρ v3 v4 v5' v6) (fun q => BF g m q) := by
      intro σ' v5' e5' eσ hB'
      unfold F_X12_looks_429
      refine ok_nm (fun x hx => ?_)
      have e1 : (1 : Int32).toInt = 1 := rfl
      have ex : x.toInt = v6.toInt + 1 := by rw [hx, ti_add (by omega) (by omega), e1]
      have rx : rg x 210 909 := ⟨by omega, by omega⟩
      have ix := rg_cl rx (by decide)
      refine ih σ' v5' x z k e5' (by omega) (by omega) (by omega) ?_ hB'
      rw [eσ, show x.toNatClampNeg = v6.toNatClampNeg + 1 by omega]
      exact hs2
    have s59 : ∀ (j : Nat) (v : Int32), s2 σ 59 j v 55 = σ 55 := fun j v => s2_ne 55 (by decide)
    have b59 : ∀ (j : Nat) (v : Int32), BF g m (s2 σ 59 j v) := fun j v => bf_far hB (by decide) (by decide) (by decide) (by decide)
    refine ok_if (fun cn => ?_) (fun cn => ?_)
    · have neg := Int32.lt_iff_toInt_lt.mp cn
      have z0 : (0 : Int32).toInt = 0 := rfl
      refine ok_if (fun c1 => ?_) (fun c1 => ?_)
      · have hc : (σ 55 v6.toNatClampNeg).toInt = -1 := by rw [c1]; rfl
        obtain ⟨t1, t2, rfl⟩ := top_not hz hc
        have e1 : (1 : Int32).toInt = 1 := rfl
        refine ok_nm (fun x60 hx60 => ?_)
        have e60 : x60.toInt = (z : Int) - 1 := by rw [hx60, ti_sub (by omega) (by omega), e1]; omega
        refine ok_nm (fun x61 hx61 => ?_)
        have e61 : x61.toInt = (z : Int) - 1 := by rw [hx61, ti_sub (by omega) (by omega), e1]; omega
        refine ok_gd (rg_inb (l := 0) (h := 63) ⟨by omega, by omega⟩ (by decide) (by decide)) ?_
        refine ok_if (fun _ => ?_) (fun _ => ?_) <;>
        · unfold F_X12_looks_265
          refine ok_gd (rg_inb (l := 0) (h := 63) ⟨by omega, by omega⟩ (by decide) (by decide)) ?_
          refine ok_gd rfl ?_
          refine ok_nm (fun σ66 h66 => ?_)
          subst h66
          exact go _ v5 e5 (s59 _ _) (b59 _ _)
      · have hc1 : (σ 55 v6.toNatClampNeg).toInt ≠ -1 := fun e => c1 (Int32.toInt_inj.mp (by rw [e]; rfl))
        have z10 : (-10 : Int32).toInt = -10 := rfl
        refine ok_if (fun c10 => ?_) (fun c10 => ?_)
        · have l10 := Int32.le_iff_toInt_le.mp c10
          have hz0 := top_end hz (by omega)
          subst hz0
          have k0 : (0 : Int32).toInt = ((0 : Nat) : Int) := rfl
          have fin : ∀ (σ' : SG), σ' 55 = σ 55 → BF g m σ' → ∀ k1 k2 : Int32, ok (F_X12_looks_425 a1 a2 (F_X12_looks_117 a1 a2 n) σ' ρ v3 v4 (0 : Int32) v6 k1 k2) (fun q => BF g m q) := by
            intro σ' eσ hB' k1 k2
            unfold F_X12_looks_425
            refine ok_nm (fun x36 _ => ok_nm (fun σ38 h38 => ?_))
            subst h38
            exact go _ 0 k0 (by rw [s2_ne 55 (by decide), eσ]) (bf_set hB' (rg_any _) (by decide))
          have mid : ∀ (k1 k2 : Int32) (v7 v8 : Int32), ok (F_X12_looks_393 a1 a2 (F_X12_looks_117 a1 a2 n) σ ρ v3 v4 (0 : Int32) v6 v7 v8 k1 k2) (fun q => BF g m q) := by
            intro k1 k2 v7 v8
            unfold F_X12_looks_393
            refine ok_nm (fun x32 _ => ok_nm (fun σ34 h34 => ?_))
            have e34 : σ34 55 = σ 55 := by rw [h34, s2_ne 55 (by decide)]
            have b34 : BF g m σ34 := by rw [h34]; exact bf_set hB (rg_any _) (by decide)
            refine ok_if (fun _ => ?_) (fun _ => ok_if (fun _ => ?_) (fun _ => ok_nm (fun x41 _ => ?_)))
            · unfold F_X12_looks_424; exact fin σ34 e34 b34 _ _
            · unfold F_X12_looks_424; exact fin σ34 e34 b34 _ _
            · exact fin σ34 e34 b34 _ _
          refine ok_if (fun _ => ?_) (fun _ => ok_if (fun _ => ?_) (fun _ => ok_nm (fun x43 _ => ?_)))
          · unfold F_X12_looks_392; exact mid _ _ _ _
          · unfold F_X12_looks_392; exact mid _ _ _ _
          · exact mid _ _ _ _
        · have g10 := Int32.lt_iff_toInt_lt.mp (nle c10)
          obtain ⟨t1, t2, rfl⟩ := top_two hz (by omega) (by omega)
          have e1 : (1 : Int32).toInt = 1 := rfl
          have em : (-1 : Int32).toInt = -1 := rfl
          refine ok_nm (fun x44 hx44 => ?_)
          have e44 : x44.toInt = (t : Int) - 1 := by rw [hx44, ti_add (by omega) (by omega), em]; omega
          refine ok_nm (fun x45 hx45 => ?_)
          have e45 : x45.toInt = (t : Int) - 2 := by rw [hx45, ti_sub (by omega) (by omega), e1]; omega
          have e44' : x44.toInt = ((t - 1 : Nat) : Int) := by omega
          have g44 : inb x44 64 = true := rg_inb (l := 0) (h := 63) ⟨by omega, by omega⟩ (by decide) (by decide)
          have g45 : inb x45 64 = true := rg_inb (l := 0) (h := 63) ⟨by omega, by omega⟩ (by decide) (by decide)
          have fin : ∀ k2 : Int32, isb k2 = true → ok (F_X12_looks_351 a1 a2 (F_X12_looks_117 a1 a2 n) σ ρ v3 v4 x44 v6 x45 k2) (fun q => BF g m q) := by
            intro k2 hk2
            unfold F_X12_looks_351
            refine ok_gd g45 (ok_gd hk2 (ok_nm (fun σ52 h52 => ?_)))
            subst h52
            exact go _ x44 e44' (s59 _ _) (b59 _ _)
          refine ok_if (fun _ => ?_) (fun _ => ?_)
          · refine ok_nm (fun x55 hx55 => ?_)
            have g55 : inb x55 64 = true := by rw [hx55, ← hx45]; exact g45
            refine ok_gd g55 (ok_if (fun _ => ?_) (fun _ => ok_gd g44 (ok_if (fun _ => ?_) (fun _ => fin _ rfl))))
            · unfold F_X12_looks_320; exact fin _ rfl
            · unfold F_X12_looks_320; exact fin _ rfl
          · refine ok_nm (fun x47 hx47 => ?_)
            have g47 : inb x47 64 = true := by rw [hx47, ← hx45]; exact g45
            refine ok_gd g47 (ok_if (fun _ => ok_gd g44 (ok_if (fun _ => fin _ rfl) (fun _ => ?_))) (fun _ => ?_))
            · unfold F_X12_looks_346; exact fin _ rfl
            · unfold F_X12_looks_346; exact fin _ rfl
    · have nn := Int32.le_iff_toInt_le.mp (nlt cn)
      have z0 : (0 : Int32).toInt = 0 := rfl
      obtain ⟨t1, t2, rfl⟩ := top_pos hz (by omega)
      refine ok_nm (fun x67 hx67 => ?_)
      have e67 : x67.toInt = (σ 55 v6.toNatClampNeg).toInt % 8 := by
        rw [hx67, ti_rem (by decide)]
        exact Int.tmod_eq_emod_of_nonneg (by omega)
      have := Int.emod_nonneg (σ 55 v6.toNatClampNeg).toInt (by decide : (8 : Int) ≠ 0)
      refine ok_gd (rg_inb (l := 0) (h := 5) ⟨by omega, by omega⟩ (by decide) (by decide)) ?_
      refine ok_nm (fun x69 _ => ok_nm (fun x70 _ => ok_nm (fun x71 _ => ?_)))
      have g5 : inb v5 64 = true := rg_inb (l := 0) (h := 63) ⟨by omega, by omega⟩ (by decide) (by decide)
      have e1 : (1 : Int32).toInt = 1 := rfl
      have fin : ∀ k2 : Int32, isb k2 = true → ok (F_X12_looks_227 a1 a2 (F_X12_looks_117 a1 a2 n) σ ρ v3 v4 v5 v6 v5 k2) (fun q => BF g m q) := by
        intro k2 hk2
        unfold F_X12_looks_227
        refine ok_gd g5 (ok_gd hk2 (ok_nm (fun σ77 h77 => ok_nm (fun x78 hx78 => ?_))))
        subst h77
        exact go _ x78 (by rw [hx78, ti_add (by omega) (by omega), e1]; omega) (s59 _ _) (b59 _ _)
      refine ok_if (fun _ => ok_if (fun _ => fin _ rfl) (fun _ => fin _ rfl)) (fun _ => ok_if (fun _ => ok_if (fun _ => fin _ rfl) (fun _ => fin _ rfl)) (fun _ => ok_if (fun _ => fin _ rfl) (fun _ => fin _ rfl)))
