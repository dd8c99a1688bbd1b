/-! PART 75.rb: by hand: the calls that write the cells of RA: loaf, week, clear, book, thick, row -/
def KE (r0 k0 : Nat) (σ σ' : SG) : Prop := ∀ r k, kcP r k = true → ¬ (r = r0 ∧ k = k0) → σ' r k = σ r k
theorem ke_refl {r0 k0 : Nat} {σ : SG} : KE r0 k0 σ σ := fun _ _ _ _ => rfl
theorem ke_set {σ : SG} {r0 k0 : Nat} {v : Int32} : KE r0 k0 σ (s2 σ r0 k0 v) := fun r k _ n => by
  rw [s2_at]
  by_cases e : r = r0
  · rw [if_pos e, if_neg (fun q => n ⟨e, q⟩), e]
  · rw [if_neg e]
theorem ke_kc {r0 k0 : Nat} {σ σ1 σ2 : SG} (h : KC σ σ1) (h' : KE r0 k0 σ1 σ2) : KE r0 k0 σ σ2 := fun r k p n => (h' r k p n).trans (h r k p)
theorem ke_ck {r0 k0 : Nat} {σ σ1 σ2 : SG} (h : KE r0 k0 σ σ1) (h' : KC σ1 σ2) : KE r0 k0 σ σ2 := fun r k p n => (h' r k p).trans (h r k p n)
/-- row 55 of the reference, all cells of RA but one -/
def R5 (j0 : Nat) (σ σ' : SG) : Prop := ∀ k, raK k = true → k ≠ j0 → σ' 55 k = σ 55 k
theorem ra_one {N : Nat} {K len : Nat → Nat} {ρ : RG} {σ σ1 σ2 : SG} {r0 k0 j0 : Nat} {v : Int32} (hQ : PR N K len ρ) (R : RA K σ ρ) (hc : KE r0 k0 σ σ1) (hr : KR σ1 σ2) (h5 : R5 j0 σ1 σ2) (hcase : (r0 = 1 ∧ k0 = 10 ∧ j0 = 13) ∨ (r0 = 1 ∧ k0 = 13 ∧ j0 = 14) ∨ (r0 = 3 ∧ k0 = 0 ∧ j0 = 17)) (e : σ1 r0 k0 = v) (e' : σ2 55 j0 = v) : RA K σ2 ρ := by
  have n0 : r0 < 54 ∧ j0 < 20 ∧ (r0 = 1 ∨ r0 = 3) := by omega
  have u : ∀ r k, r < 54 → kcP r k = true → ¬ (r = r0 ∧ k = k0) → σ2 r k = σ r k := fun r k h p n => (hr r k (krP_lo h)).trans (hc r k p n)
  have w : ∀ k, raK k = true → k ≠ j0 → σ2 55 k = σ 55 k := fun k p n => (h5 k p n).trans (hc 55 k (kcP_ref (by decide) (by decide)) (by omega))
  have w6 : ∀ k, σ2 56 k = σ 56 k := fun k => (hr 56 k rfl).trans (hc 56 k (kcP_ref (by decide) (by decide)) (by omega))
  have w4 : σ2 54 4 = σ 54 4 := (hr 54 4 rfl).trans (hc 54 4 (kcP_ref (by decide) (by decide)) (by omega))
  have wc : ∀ r k, 65 ≤ r → r < N → k ≠ 5 → σ2 r k = σ r k := fun r k a _ n => (hr r k (krP_hi a)).trans (hc r k (kcP_hi a n) (by omega))
  have e2 : σ2 r0 k0 = v := (hr r0 k0 (krP_lo n0.1)).trans e
  have t2 : TB 14 16 56 σ → TB 14 16 56 σ2 := fun t => by
    unfold TB
    rw [u 14 1 (by decide) rfl (by omega), u 14 10 (by decide) rfl (by omega), u 14 13 (by decide) rfl (by omega), u 16 0 (by decide) rfl (by omega), w6 11, w6 13, w6 14, w6 17]
    exact t
  refine ra_eq hQ R ?_ t2 (u 0 2 (by decide) rfl (by omega)) w4 (u 1 1 (by decide) rfl (by omega)) (u 14 1 (by decide) rfl (by omega)) (fun k a b => w k (rk ⟨a, b⟩) (by omega)) (fun k _ _ => w6 k) wc rfl rfl (fun _ _ _ => rfl)
  rintro ⟨a, b, c, d⟩
  rcases hcase with ⟨rfl, rfl, rfl⟩ | ⟨rfl, rfl, rfl⟩ | ⟨rfl, rfl, rfl⟩
  · refine ⟨?_, e2.trans e'.symm, ?_, ?_⟩
    · rw [u 1 1 (by decide) rfl (by decide), w 11 rfl (by decide)]; exact a
    · rw [u 1 13 (by decide) rfl (by decide), w 14 rfl (by decide)]; exact c
    · rw [u 3 0 (by decide) rfl (by decide), w 17 rfl (by decide)]; exact d
  · refine ⟨?_, ?_, e2.trans e'.symm, ?_⟩
    · rw [u 1 1 (by decide) rfl (by decide), w 11 rfl (by decide)]; exact a
    · rw [u 1 10 (by decide) rfl (by decide), w 13 rfl (by decide)]; exact b
    · rw [u 3 0 (by decide) rfl (by decide), w 17 rfl (by decide)]; exact d
  · refine ⟨?_, ?_, ?_, e2.trans e'.symm⟩
    · rw [u 1 1 (by decide) rfl (by decide), w 11 rfl (by decide)]; exact a
    · rw [u 1 10 (by decide) rfl (by decide), w 13 rfl (by decide)]; exact b
    · rw [u 1 13 (by decide) rfl (by decide), w 14 rfl (by decide)]; exact c
/-! loaf -/
theorem sa_3 {a1 : Int32} {σ : SG} {ρ : RG} : kp (F_X3_startsAnew 3 a1 σ ρ) (fun q => q 3 0 = a1 ∧ KE 3 0 σ q) := by
  unfold F_X3_startsAnew
  refine kp_nm (fun σ2 h2 => kp_nm (fun σ4 h4 => kp_nm (fun σ6 h6 => kp_nm (fun σ8 h8 => kp_nm (fun σ10 h10 => kp_nm (fun σ12 h12 => kp_some ?_))))))
  have k4 : KC σ2 σ4 := by rw [h4]; exact kc_lit (by decide)
  have k6 : KC σ2 σ6 := kc_trans k4 (by rw [h6]; exact kc_lit (by decide))
  have k8 : KC σ2 σ8 := kc_trans k6 (by rw [h8]; exact kc_lit (by decide))
  have k10 : KC σ2 σ10 := kc_trans k8 (by rw [h10]; exact kc_lit (by decide))
  have k12 : KC σ2 σ12 := kc_trans k10 (by rw [h12]; exact kc_lit (by decide))
  exact ⟨by rw [k12 3 0 rfl, h2, s2_at, if_pos rfl, if_pos rfl], ke_ck (by rw [h2]; exact ke_set) k12⟩
def lfA (a o : Int32) : Int32 := if (40 : Int32) ≤ a ∧ a ≤ (999 : Int32) then o else -2
def lfN (a o : Int32) : Int32 := if (40 : Int32) ≤ a ∧ a ≤ (999 : Int32) then a else o
theorem loaf_11 {a1 : Int32} {σ : SG} {ρ : RG} : kp (F_X11_loaf a1 σ ρ) (fun q => q.1 = lfA a1 (σ 3 0) ∧ q.2 3 0 = lfN a1 (σ 3 0) ∧ KE 3 0 σ q.2) := by
  unfold F_X11_loaf lfA lfN
  refine kp_bn (kp_ok wi_0) (fun r1 h1 => ?_)
  by_cases c : r1 = 0
  · have n : ¬ ((40 : Int32) ≤ a1 ∧ a1 ≤ (999 : Int32)) := fun q => h1.2.mpr q c
    rw [if_pos c, if_neg n, if_neg n]; exact kp_some ⟨rfl, rfl, ke_refl⟩
  · rw [if_neg c, if_pos (h1.2.mp c), if_pos (h1.2.mp c)]
    exact kp_bn sa_3 (fun σ3 h3 => kp_some ⟨rfl, h3.1, h3.2⟩)
theorem loaf_12 {a1 : Int32} {σ : SG} {ρ : RG} : kp (F_X12_loaf a1 σ ρ) (fun q => q.1 = lfA a1 (σ 55 17) ∧ q.2 55 17 = lfN a1 (σ 55 17) ∧ R5 17 σ q.2) := by
  unfold F_X12_loaf lfA lfN
  refine kp_bn (kp_ok in_0) (fun r1 h1 => ?_)
  by_cases c : r1 = 0
  · have n : ¬ ((40 : Int32) ≤ a1 ∧ a1 ≤ (999 : Int32)) := fun q => h1.2.mpr q c
    rw [if_pos c, if_neg n, if_neg n]; exact kp_some ⟨rfl, rfl, fun _ _ _ => rfl⟩
  · rw [if_neg c, if_pos (h1.2.mp c), if_pos (h1.2.mp c)]
    refine kp_nm (fun σ4 h4 => kp_nm (fun σ6 h6 => kp_nm (fun σ8 h8 => kp_nm (fun σ10 h10 => kp_nm (fun σ12 h12 => kp_nm (fun σ14 h14 => kp_some ⟨rfl, ?_, fun k hk n => ?_⟩))))))
    · show σ14 55 17 = a1
      rw [s2_k h14 (by decide), s2_k h12 (by decide), s2_k h10 (by decide), s2_k h8 (by decide), s2_k h6 (by decide), s2_v h4]
    · show σ14 55 k = σ 55 k
      have := raK_11 hk
      rw [s2_k h14 (by omega), s2_k h12 (by omega), s2_k h10 (by omega), s2_k h8 (by omega), s2_k h6 (by omega), s2_k h4 (by omega)]
theorem loaf_ra {N : Nat} {K len : Nat → Nat} {ρ : RG} {a a' r3 r6 : Int32} {σ σ3 σ6 : SG} (hQ : PR N K len ρ) (R : RA K σ ρ) (h3 : r3 = lfA a (σ 3 0) ∧ σ3 3 0 = lfN a (σ 3 0) ∧ KE 3 0 σ σ3) (h6 : r6 = lfA a' (σ3 55 17) ∧ σ6 55 17 = lfN a' (σ3 55 17) ∧ R5 17 σ3 σ6) (hr : KR σ3 σ6) (e : a' = a) : r3 = r6 ∧ RA K σ6 ρ := by
  have u : σ3 55 17 = σ 3 0 := (h3.2.2 55 17 rfl (by decide)).trans R.1.2.2.2.symm
  rw [u, e] at h6
  exact ⟨h3.1.trans h6.1.symm, ra_one hQ R h3.2.2 hr h6.2.2 (Or.inr (Or.inr ⟨rfl, rfl, rfl⟩)) h3.2.1 h6.2.1⟩
/-! week, clear -/
def wkA (a c : Int32) : Int32 := if (-99 : Int32) ≤ a ∧ a ≤ (99 : Int32) then (if c < (4 : Int32) then c + 1 else -4) else -2
def wkN (a c : Int32) : Int32 := if (-99 : Int32) ≤ a ∧ a ≤ (99 : Int32) then (if c < (4 : Int32) then c + 1 else c) else c
theorem week_11 {a1 : Int32} {σ : SG} {ρ : RG} : kp (F_X11_week a1 σ ρ) (fun q => q.1 = wkA a1 (σ 1 10) ∧ q.2 1 10 = wkN a1 (σ 1 10) ∧ KE 1 10 σ q.2) := by
  unfold F_X11_week wkA wkN
  refine kp_bn (kp_ok sl_0) (fun r1 h1 => ?_)
  by_cases c : r1 = 0
  · have n : ¬ ((-99 : Int32) ≤ a1 ∧ a1 ≤ (99 : Int32)) := fun q => h1.mpr q c
    rw [if_pos c, if_neg n, if_neg n]; exact kp_some ⟨rfl, rfl, ke_refl⟩
  rw [if_neg c, if_pos (h1.mp c), if_pos (h1.mp c)]
  by_cases d : σ 1 10 < (4 : Int32)
  · rw [if_pos d, if_pos d, if_pos d]
    refine kp_gd (fun _ => kp_nm (fun σ6 h6 => kp_nm (fun x7 h7 => kp_nm (fun σ9 h9 => kp_some ?_))))
    have k6 : KC σ σ6 := by rw [h6]; exact kc_row (by decide)
    have e9 : σ9 1 10 = σ 1 10 + 1 := by rw [s2_v h9, h7, k6 1 10 rfl]
    exact ⟨e9, e9, ke_kc k6 (by rw [h9]; exact ke_set)⟩
  · rw [if_neg d, if_neg d, if_neg d]; exact kp_some ⟨rfl, rfl, ke_refl⟩
theorem week_12 {a1 : Int32} {σ : SG} {ρ : RG} (r : rg (σ 55 13) 0 4) : kp (F_X12_week a1 σ ρ) (fun q => q.1 = wkA a1 (σ 55 13) ∧ q.2 55 13 = wkN a1 (σ 55 13) ∧ R5 13 σ q.2) := by
  unfold F_X12_week wkA wkN
  refine kp_bn (kp_ok in_0) (fun r1 h1 => ?_)
  by_cases c : r1 = 0
  · have n : ¬ ((-99 : Int32) ≤ a1 ∧ a1 ≤ (99 : Int32)) := fun q => h1.2.mpr q c
    rw [if_pos c, if_neg n, if_neg n]; exact kp_some ⟨rfl, rfl, fun _ _ _ => rfl⟩
  rw [if_neg c, if_pos (h1.2.mp c), if_pos (h1.2.mp c)]
  by_cases d : σ 55 13 = (4 : Int32)
  · have nd : ¬ σ 55 13 < (4 : Int32) := by rw [d]; decide
    rw [if_pos d, if_neg nd, if_neg nd]; exact kp_some ⟨rfl, rfl, fun _ _ _ => rfl⟩
  · have r' : rg (σ 55 13) 0 3 := rg_neh d r (show rg (4 : Int32) 4 4 from ⟨by decide, by decide⟩) rfl
    have nd : σ 55 13 < (4 : Int32) := Int32.lt_iff_toInt_lt.mpr (by have := r'.2; have e4 : (4 : Int32).toInt = 4 := rfl; omega)
    rw [if_neg d, if_pos nd, if_pos nd]
    refine kp_nm (fun x4 h4 => kp_gd (fun _ => kp_nm (fun σ7 h7 => kp_nm (fun x8 h8 => kp_nm (fun σ10 h10 => kp_some ?_)))))
    have r4 : rg x4 74 77 := rg_eq h4 (rg_add (show rg (74 : Int32) 74 74 from ⟨by decide, by decide⟩) r' (by decide) (by decide) (by decide) (by decide))
    have e7 : ∀ k : Nat, k ≤ 73 → σ7 55 k = σ 55 k := fun k hk => s2_kx h7 r4 (by decide) (Or.inl (by omega))
    have e10 : σ10 55 13 = σ 55 13 + 1 := by rw [s2_v h10, h8, e7 13 (by decide)]
    exact ⟨e10, e10, fun k hk n => (s2_k h10 n).trans (e7 k (raK_11 hk).2.1)⟩
theorem week_ra {N : Nat} {K len : Nat → Nat} {ρ : RG} {a a' r3 r6 : Int32} {σ σ3 σ6 : SG} (hQ : PR N K len ρ) (R : RA K σ ρ) (h3 : r3 = wkA a (σ 1 10) ∧ σ3 1 10 = wkN a (σ 1 10) ∧ KE 1 10 σ σ3) (h6 : r6 = wkA a' (σ3 55 13) ∧ σ6 55 13 = wkN a' (σ3 55 13) ∧ R5 13 σ3 σ6) (hr : KR σ3 σ6) (e : a' = a) : r3 = r6 ∧ RA K σ6 ρ := by
  have u : σ3 55 13 = σ 1 10 := (h3.2.2 55 13 rfl (by decide)).trans R.1.2.1.symm
  rw [u, e] at h6
  exact ⟨h3.1.trans h6.1.symm, ra_one hQ R h3.2.2 hr h6.2.2 (Or.inl ⟨rfl, rfl, rfl⟩) h3.2.1 h6.2.1⟩
theorem clear_11 {σ : SG} {ρ : RG} : kp (F_X11_clear σ ρ) (fun q => q.1 = σ 1 10 ∧ q.2 1 10 = 0 ∧ KE 1 10 σ q.2) := by
  unfold F_X11_clear
  exact kp_nm (fun σ2 h2 => kp_some ⟨rfl, s2_v h2, by show KE 1 10 σ σ2; rw [h2]; exact ke_set⟩)
theorem clear_12 {σ : SG} {ρ : RG} : kp (F_X12_clear σ ρ) (fun q => q.1 = σ 55 13 ∧ q.2 55 13 = 0 ∧ R5 13 σ q.2) := by
  unfold F_X12_clear
  exact kp_nm (fun σ2 h2 => kp_some ⟨rfl, s2_v h2, fun k _ n => s2_k h2 n⟩)
theorem clear_ra {N : Nat} {K len : Nat → Nat} {ρ : RG} {r3 r6 : Int32} {σ σ3 σ6 : SG} (hQ : PR N K len ρ) (R : RA K σ ρ) (h3 : r3 = σ 1 10 ∧ σ3 1 10 = 0 ∧ KE 1 10 σ σ3) (h6 : r6 = σ3 55 13 ∧ σ6 55 13 = 0 ∧ R5 13 σ3 σ6) (hr : KR σ3 σ6) : r3 = r6 ∧ RA K σ6 ρ := by
  have u : σ3 55 13 = σ 1 10 := (h3.2.2 55 13 rfl (by decide)).trans R.1.2.1.symm
  exact ⟨by rw [h3.1, h6.1, u], ra_one hQ R h3.2.2 hr h6.2.2 (Or.inl ⟨rfl, rfl, rfl⟩) h3.2.1 h6.2.1⟩
/-! book -/
def bkA (a v c b : Int32) : Int32 := if a = -1 then 0 else if (0 : Int32) ≤ a ∧ a < c then (if (0 : Int32) ≤ v ∧ v ≤ (999 : Int32) then (if b < (8 : Int32) then b + 1 else -4) else -2) else -1
def bkN (a v c b : Int32) : Int32 := if a = -1 then 0 else if (0 : Int32) ≤ a ∧ a < c then (if (0 : Int32) ≤ v ∧ v ≤ (999 : Int32) then (if b < (8 : Int32) then b + 1 else b) else b) else b
theorem book_11 {N : Nat} {K len : Nat → Nat} {a1 a2 : Int32} {σ : SG} {ρ : RG} (hB0 : rg (σ 1 1) 0 6) (R : RA K σ ρ) : kp (F_X11_book N K len a1 a2 σ ρ) (fun q => q.1 = bkA a1 a2 (σ 1 1) (σ 1 13) ∧ q.2 1 13 = bkN a1 a2 (σ 1 1) (σ 1 13) ∧ KE 1 13 σ q.2) := by
  unfold F_X11_book bkA bkN
  by_cases m : a1 = (-1 : Int32)
  · rw [if_pos m, if_pos m, if_pos m]
    exact kp_nm (fun σ18 h => kp_some ⟨rfl, s2_v h, by show KE 1 13 σ σ18; rw [h]; exact ke_set⟩)
  rw [if_neg m, if_neg m, if_neg m]
  refine kp_bn (kp_ok (at_11 (N := N) (len := len) hB0 R)) (fun o h => ?_)
  rcases h with ⟨rfl, n⟩ | ⟨c, j, rfl, v1, v2, hj, ej, hc⟩
  · rw [if_neg n, if_neg n]; exact kp_some ⟨rfl, rfl, ke_refl⟩
  have vv : (0 : Int32) ≤ a1 ∧ a1 < σ 1 1 := ⟨v1, v2⟩
  rw [if_pos vv, if_pos vv]
  refine kp_gd (fun _ => kp_bn (kp_ok wi_0) (fun r4 h4 => ?_))
  by_cases d : r4 = 0
  · have n : ¬ ((0 : Int32) ≤ a2 ∧ a2 ≤ (999 : Int32)) := fun q => h4.2.mpr q d
    rw [if_pos d, if_neg n, if_neg n]; exact kp_some ⟨rfl, rfl, ke_refl⟩
  rw [if_neg d, if_pos (h4.2.mp d), if_pos (h4.2.mp d)]
  by_cases e : (8 : Int32) ≤ σ 1 13
  · have ne : ¬ σ 1 13 < (8 : Int32) := fun q => by have := Int32.lt_iff_toInt_lt.mp q; have := Int32.le_iff_toInt_le.mp e; omega
    rw [if_pos e, if_neg ne, if_neg ne]; exact kp_some ⟨rfl, rfl, ke_refl⟩
  have ne : σ 1 13 < (8 : Int32) := nle e
  rw [if_neg e, if_pos ne, if_pos ne, if_pos ne]
  refine kp_gd (fun _ => kp_nm (fun σ10 h10 => kp_gd (fun _ => kp_nm (fun σ13 h13 => kp_nm (fun x14 h14 => kp_nm (fun σ16 h16 => kp_some ?_))))))
  have k10 : KC σ σ10 := by rw [h10]; exact kc_row (by decide)
  have k13 : KC σ σ13 := kc_trans k10 (by rw [h13]; exact kc_row (by decide))
  have e16 : σ16 1 13 = σ 1 13 + 1 := by rw [s2_v h16, h14, k13 1 13 rfl]
  exact ⟨e16, e16, ke_kc k13 (by rw [h16]; exact ke_set)⟩
theorem book_12 {a1 a2 : Int32} {σ : SG} {ρ : RG} (hc : rg (σ 55 11) 0 6) (r : rg (σ 55 14) 0 8) : kp (F_X12_book a1 a2 σ ρ) (fun q => q.1 = bkA a1 a2 (σ 55 11) (σ 55 14) ∧ q.2 55 14 = bkN a1 a2 (σ 55 11) (σ 55 14) ∧ R5 14 σ q.2) := by
  unfold F_X12_book bkA bkN
  by_cases m : a1 = (-1 : Int32)
  · rw [if_pos m, if_pos m, if_pos m]
    exact kp_nm (fun σ18 h => kp_some ⟨rfl, s2_v h, fun k _ n => s2_k h n⟩)
  rw [if_neg m, if_neg m, if_neg m]
  refine kp_bn (kp_ok (ic_12 hc)) (fun r2 h2 => ?_)
  by_cases c : r2 = 0
  · have n : ¬ ((0 : Int32) ≤ a1 ∧ a1 < σ 55 11) := fun q => h2.mpr q c
    rw [if_pos c, if_neg n, if_neg n]; exact kp_some ⟨rfl, rfl, fun _ _ _ => rfl⟩
  rw [if_neg c, if_pos (h2.mp c), if_pos (h2.mp c)]
  refine kp_bn (kp_ok in_0) (fun r4 h4 => ?_)
  by_cases d : r4 = 0
  · have n : ¬ ((0 : Int32) ≤ a2 ∧ a2 ≤ (999 : Int32)) := fun q => h4.2.mpr q d
    rw [if_pos d, if_neg n, if_neg n]; exact kp_some ⟨rfl, rfl, fun _ _ _ => rfl⟩
  rw [if_neg d, if_pos (h4.2.mp d), if_pos (h4.2.mp d)]
  by_cases e : σ 55 14 = (8 : Int32)
  · have ne : ¬ σ 55 14 < (8 : Int32) := by rw [e]; decide
    rw [if_pos e, if_neg ne, if_neg ne]; exact kp_some ⟨rfl, rfl, fun _ _ _ => rfl⟩
  have r' : rg (σ 55 14) 0 7 := rg_neh e r (show rg (8 : Int32) 8 8 from ⟨by decide, by decide⟩) rfl
  have ne : σ 55 14 < (8 : Int32) := Int32.lt_iff_toInt_lt.mpr (by have := r'.2; have e4 : (8 : Int32).toInt = 8 := rfl; omega)
  rw [if_neg e, if_pos ne, if_pos ne]
  refine kp_nm (fun x7 h7 => kp_gd (fun _ => kp_nm (fun σ10 h10 => kp_nm (fun x11 h11 => kp_gd (fun _ => kp_nm (fun σ14 h14 => kp_nm (fun x15 h15 => kp_nm (fun σ17 h17 => kp_some ?_))))))))
  have r7 : rg x7 78 85 := rg_eq h7 (rg_add (show rg (78 : Int32) 78 78 from ⟨by decide, by decide⟩) r' (by decide) (by decide) (by decide) (by decide))
  have e10 : ∀ k : Nat, k ≤ 73 → σ10 55 k = σ 55 k := fun k hk => s2_kx h10 r7 (by decide) (Or.inl (by omega))
  rw [e10 14 (by decide)] at h11
  have r11 : rg x11 86 93 := rg_eq h11 (rg_add (show rg (86 : Int32) 86 86 from ⟨by decide, by decide⟩) r' (by decide) (by decide) (by decide) (by decide))
  have e14 : ∀ k : Nat, k ≤ 73 → σ14 55 k = σ 55 k := fun k hk => (s2_kx h14 r11 (by decide) (Or.inl (by omega))).trans (e10 k hk)
  have e17 : σ17 55 14 = σ 55 14 + 1 := by rw [s2_v h17, h15, e14 14 (by decide)]
  exact ⟨e17, e17, fun k hk n => (s2_k h17 n).trans (e14 k (raK_11 hk).2.1)⟩
theorem book_ra {N : Nat} {K len : Nat → Nat} {ρ : RG} {a a' b b' r3 r6 : Int32} {σ σ3 σ6 : SG} (hQ : PR N K len ρ) (R : RA K σ ρ) (h3 : r3 = bkA a b (σ 1 1) (σ 1 13) ∧ σ3 1 13 = bkN a b (σ 1 1) (σ 1 13) ∧ KE 1 13 σ σ3) (h6 : r6 = bkA a' b' (σ3 55 11) (σ3 55 14) ∧ σ6 55 14 = bkN a' b' (σ3 55 11) (σ3 55 14) ∧ R5 14 σ3 σ6) (hr : KR σ3 σ6) (e : a' = a) (e' : b' = b) : r3 = r6 ∧ RA K σ6 ρ := by
  have u : σ3 55 14 = σ 1 13 := (h3.2.2 55 14 rfl (by decide)).trans R.1.2.2.1.symm
  have w : σ3 55 11 = σ 1 1 := (h3.2.2 55 11 rfl (by decide)).trans R.1.1.symm
  rw [u, w, e, e'] at h6
  exact ⟨h3.1.trans h6.1.symm, ra_one hQ R h3.2.2 hr h6.2.2 (Or.inr (Or.inl ⟨rfl, rfl, rfl⟩)) h3.2.1 h6.2.1⟩
