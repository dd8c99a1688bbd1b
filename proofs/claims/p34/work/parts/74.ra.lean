/-! PART 74.ra: by hand (its first rows out of rl26.py): class and reference side by side: counters, whole, cutters -/
theorem kp_bnT {α γ : Type} {o : Option (α × TT)} {f : α → Nat → (Nat → Nat) → (Nat → Nat) → SG → RG → Option γ} {Q : α × TT → Prop} {P : γ → Prop} (ho : kp o Q) (h : ∀ a N K len σ ρ, Q (a, N, K, len, σ, ρ) → kp (f a N K len σ ρ) P) : kp (bnT o f) P := by
  cases o with
  | none => exact fun _ e => by cases e
  | some q =>
    obtain ⟨a, N, K, len, σ, ρ⟩ := q
    exact h a N K len σ ρ (ho _ rfl)
theorem kp_ok {α : Type} {o : Option α} {P : α → Prop} (h : ok o P) : kp o P := by
  obtain ⟨a, e, p⟩ := h
  intro b e'
  rw [e] at e'
  cases e'
  exact p
/-! what is within -/
theorem in_0 {a l h : Int32} {σ : SG} {ρ : RG} : ok (F_X12_in a l h σ ρ) (fun q => rg q 0 1 ∧ (¬ q = 0 ↔ l ≤ a ∧ a ≤ h)) := by
  unfold F_X12_in
  refine ok_if (fun c => ok_some ⟨⟨by decide, by decide⟩, fun n => absurd rfl n, fun q => absurd (Int32.lt_iff_toInt_lt.mp c) (by have := Int32.le_iff_toInt_le.mp q.1; omega)⟩) (fun c => ok_if (fun d => ok_some ⟨⟨by decide, by decide⟩, fun n => absurd rfl n, fun q => absurd (Int32.lt_iff_toInt_lt.mp d) (by have := Int32.le_iff_toInt_le.mp q.2; omega)⟩) (fun d => ok_some ⟨⟨by decide, by decide⟩, fun _ => ⟨nlt c, nlt d⟩, fun _ => by decide⟩))
theorem wi_0 {a l h : Int32} {σ : SG} {ρ : RG} : ok (F_X11_isWithin a l h σ ρ) (fun q => rg q 0 1 ∧ (¬ q = 0 ↔ l ≤ a ∧ a ≤ h)) := by
  unfold F_X11_isWithin
  refine ok_if (fun c => ok_some ⟨⟨by decide, by decide⟩, fun n => absurd rfl n, fun q => absurd (Int32.lt_iff_toInt_lt.mp c) (by have := Int32.le_iff_toInt_le.mp q.1; omega)⟩) (fun c => ok_if (fun d => ok_some ⟨⟨by decide, by decide⟩, fun n => absurd rfl n, fun q => absurd (Int32.lt_iff_toInt_lt.mp d) (by have := Int32.le_iff_toInt_le.mp q.2; omega)⟩) (fun d => ok_some ⟨⟨by decide, by decide⟩, fun _ => ⟨nlt c, nlt d⟩, fun _ => by decide⟩))
theorem sl_0 {a : Int32} {σ : SG} {ρ : RG} : ok (F_X11_isSlope a σ ρ) (fun q => ¬ q = 0 ↔ (-99 : Int32) ≤ a ∧ a ≤ (99 : Int32)) := by
  unfold F_X11_isSlope
  exact ok_bn wi_0 (fun r h => ok_gd (rg_isb h.1) (ok_some h.2))
theorem th_0 {a : Int32} {σ : SG} {ρ : RG} : ok (F_X11_isThick a σ ρ) (fun q => ¬ q = 0 ↔ (1 : Int32) ≤ a ∧ a ≤ (40 : Int32)) := by
  unfold F_X11_isThick
  exact ok_bn wi_0 (fun r h => ok_gd (rg_isb h.1) (ok_some h.2))
theorem ok_and {α : Type} {o : Option α} {P Q : α → Prop} (h : ok o P) (h' : ok o Q) : ok o (fun q => P q ∧ Q q) := by
  obtain ⟨a, e, p⟩ := h
  obtain ⟨b, e', q⟩ := h'
  rw [e] at e'
  cases e'
  exact ⟨a, e, p, q⟩
def seeA (a1 a2 : Int32) : Int32 := if (-99 : Int32) ≤ a1 ∧ a1 ≤ (99 : Int32) ∧ (-99 : Int32) ≤ a2 ∧ a2 ≤ (99 : Int32) then 1 else -2
theorem see_11 {a1 a2 : Int32} {σ : SG} {ρ : RG} : ok (F_X11_see a1 a2 σ ρ) (fun q => q.1 = seeA a1 a2) := by
  unfold F_X11_see
  refine ok_bn sl_0 (fun r1 h1 => ok_if (fun c => ok_some ?_) (fun c => ok_bn sl_0 (fun r3 h3 => ok_if (fun d => ok_some ?_) (fun d => ok_nm (fun _ _ => ok_nm (fun _ _ => ok_some ?_))))))
  · exact (if_neg (fun q => h1.mpr ⟨q.1, q.2.1⟩ c)).symm
  · exact (if_neg (fun q => h3.mpr ⟨q.2.2.1, q.2.2.2⟩ d)).symm
  · exact (if_pos ⟨(h1.mp c).1, (h1.mp c).2, (h3.mp d).1, (h3.mp d).2⟩).symm
theorem see_12 {a1 a2 : Int32} {σ : SG} {ρ : RG} : ok (F_X12_see a1 a2 σ ρ) (fun q => q.1 = seeA a1 a2) := by
  unfold F_X12_see
  refine ok_bn in_0 (fun r1 h1 => ok_if (fun c => ok_some ?_) (fun c => ok_bn in_0 (fun r3 h3 => ok_if (fun d => ok_some ?_) (fun d => ok_nm (fun _ _ => ok_nm (fun _ _ => ok_some ?_))))))
  · exact (if_neg (fun q => h1.2.mpr ⟨q.1, q.2.1⟩ c)).symm
  · exact (if_neg (fun q => h3.2.mpr ⟨q.2.2.1, q.2.2.2⟩ d)).symm
  · exact (if_pos ⟨(h1.2.mp c).1, (h1.2.mp c).2, (h3.2.mp d).1, (h3.2.mp d).2⟩).symm
/-! cells -/
def raK (k : Nat) : Bool := k == 11 || k == 13 || k == 14 || k == 17 || (Nat.ble 20 k && Nat.ble k 73)
theorem rk {k : Nat} (h : 20 ≤ k ∧ k ≤ 73) : raK k = true := by
  unfold raK
  rw [Nat.ble_eq.mpr h.1, Nat.ble_eq.mpr h.2]
  simp
theorem kcP_ref {r k : Nat} (h1 : 54 ≤ r) (h2 : r < 65) : kcP r k = true := by
  unfold kcP
  rw [Nat.ble_eq.mpr h1, Nat.blt_eq.mpr h2]
  simp
theorem kcP_hi {r k : Nat} (h1 : 65 ≤ r) (hk : k ≠ 5) : kcP r k = true := by
  have e : (k == 5) = false := beq_eq_false_iff_ne.mpr hk
  unfold kcP
  rw [Nat.ble_eq.mpr (by omega : 54 ≤ r), e]
  simp
theorem krP_lo {r k : Nat} (h : r < 54) : krP r k = true := by
  unfold krP
  rw [Nat.blt_eq.mpr h]
  simp
theorem krP_hi {r k : Nat} (h : 65 ≤ r) : krP r k = true := by
  unfold krP
  rw [Nat.blt_eq.mpr (by omega : 64 < r)]
  simp
def kno (k : Nat) : Int32 := if k = 7 then 1 else if k = 6 then 2 else if k = 2 then 3 else if k = 5 then 4 else if k = 4 then 5 else if k = 9 then 6 else 0
def TB (A Lf row : Nat) (σ : SG) : Prop := σ A 1 = σ row 11 ∧ σ A 10 = σ row 13 ∧ σ A 13 = σ row 14 ∧ σ Lf 0 = σ row 17
def CF (row j : Nat) (σ : SG) (ρ : RG) (K : Nat → Nat) (c : Nat) : Prop := kno (K c) = σ row (20 + j) ∧ σ c 1 = σ row (26 + j) ∧ σ c 2 = σ row (32 + j) ∧ σ c 3 = σ row (38 + j) ∧ σ c 4 = σ row (44 + j) ∧ (K c = 9 → ∀ d, ρ c 6 = some d → ∀ k, k < 4 → σ d k = σ row (50 + 4 * j + k))
def CU (arr A row : Nat) (σ : SG) (ρ : RG) (K : Nat → Nat) : Prop := ∀ j, j < 6 → (ρ arr j = none ↔ (σ A 1).toInt ≤ (j : Int)) ∧ ∀ c, ρ arr j = some c → CF row j σ ρ K c ∧ (σ c 0).toInt = (j : Int)
def IJ (K : Nat → Nat) (ρ : RG) : Prop := (∀ a j a' j' c, (a = 2 ∨ a = 15) → (a' = 2 ∨ a' = 15) → j < 6 → j' < 6 → ρ a j = some c → ρ a' j' = some c → a = a' ∧ j = j') ∧ (∀ a j a' j' c c' d, (a = 2 ∨ a = 15) → (a' = 2 ∨ a' = 15) → j < 6 → j' < 6 → ρ a j = some c → ρ a' j' = some c' → K c = 9 → K c' = 9 → ρ c 6 = some d → ρ c' 6 = some d → c = c')
def RA (K : Nat → Nat) (σ : SG) (ρ : RG) : Prop := TB 1 3 55 σ ∧ CU 2 1 55 σ ρ K ∧ IJ K ρ ∧ (σ 0 2 = 0 ↔ σ 54 4 = 0) ∧ (¬ σ 54 4 = 0 → TB 14 16 56 σ ∧ CU 15 14 56 σ ρ K)
theorem cu_eq {N : Nat} {K K' len : Nat → Nat} {ρ ρ' : RG} {σ σ' : SG} {arr A row : Nat} (hL : Lay N K len ρ) (hck : ∀ j c, j < 6 → ρ arr j = some c → CK N K len ρ c) (h : CU arr A row σ ρ K) (hA : σ' A 1 = σ A 1) (hrow : ∀ k, 20 ≤ k → k ≤ 73 → σ' row k = σ row k) (hc : ∀ r k, 65 ≤ r → r < N → k ≠ 5 → σ' r k = σ r k) (harr : ∀ j, j < 6 → ρ' arr j = ρ arr j) (hρ : ∀ c, 65 ≤ c → c < N → ρ' c 6 = ρ c 6) (hK : ∀ c, c < N → K' c = K c) : CU arr A row σ' ρ' K' := by
  intro j hj
  obtain ⟨h1, h2⟩ := h j hj
  refine ⟨by rw [harr j hj, hA]; exact h1, fun c e => ?_⟩
  rw [harr j hj] at e
  have k := hck j c hj e
  have c65 := ck_65 hL k.1
  have cN := isC_r k.1
  obtain ⟨⟨a1, a2, a3, a4, a5, a6⟩, a7⟩ := h2 c e
  refine ⟨⟨by rw [hK c cN, hrow (20 + j) (by omega) (by omega)]; exact a1, by rw [hc c 1 c65 cN (by decide), hrow (26 + j) (by omega) (by omega)]; exact a2, by rw [hc c 2 c65 cN (by decide), hrow (32 + j) (by omega) (by omega)]; exact a3, by rw [hc c 3 c65 cN (by decide), hrow (38 + j) (by omega) (by omega)]; exact a4, by rw [hc c 4 c65 cN (by decide), hrow (44 + j) (by omega) (by omega)]; exact a5, fun k9 d hd q hq => ?_⟩, by rw [hc c 0 c65 cN (by decide)]; exact a7⟩
  rw [hK c cN] at k9
  rw [hρ c c65 cN] at hd
  obtain ⟨d', e', hd', d65⟩ := k.2 k9
  have ed : d = d' := by rw [hd] at e'; cases e'; rfl
  subst ed
  rw [hc d q d65 (isD_lt hd').1 (by omega), hrow (50 + 4 * j + q) (by omega) (by omega)]
  exact a6 k9 d hd q hq
theorem ra_eq {N : Nat} {K len : Nat → Nat} {ρ ρ' : RG} {σ σ' : SG} (hQ : PR N K len ρ) (R : RA K σ ρ) (t1 : TB 1 3 55 σ → TB 1 3 55 σ') (t2 : TB 14 16 56 σ → TB 14 16 56 σ') (h0 : σ' 0 2 = σ 0 2) (h4 : σ' 54 4 = σ 54 4) (hA : σ' 1 1 = σ 1 1) (hA' : σ' 14 1 = σ 14 1) (hrow : ∀ k, 20 ≤ k → k ≤ 73 → σ' 55 k = σ 55 k) (hrow' : ∀ k, 20 ≤ k → k ≤ 73 → σ' 56 k = σ 56 k) (hc : ∀ r k, 65 ≤ r → r < N → k ≠ 5 → σ' r k = σ r k) (e2 : ρ' 2 = ρ 2) (e15 : ρ' 15 = ρ 15) (hρ : ∀ c, 65 ≤ c → c < N → ρ' c 6 = ρ c 6) : RA K σ' ρ' := by
  obtain ⟨a, b, i, c, d⟩ := R
  have ea : ∀ x, (x = 2 ∨ x = 15) → ρ' x = ρ x := fun x hx => by rcases hx with rfl | rfl <;> assumption
  have ck : ∀ x j c, (x = 2 ∨ x = 15) → j < 6 → ρ x j = some c → CK N K len ρ c := fun x j c hx => by
    rcases hx with rfl | rfl
    · exact hQ.2.2.1 j c
    · exact hQ.2.2.2.1 j c
  refine ⟨t1 a, cu_eq hQ.1 (fun j c => ck 2 j c (Or.inl rfl)) b hA hrow hc (fun j _ => by rw [e2]) hρ (fun _ _ => rfl), ⟨fun x j x' j' c hx hx' hj hj' h h' => ?_, fun x j x' j' c c' d hx hx' hj hj' h h' k k' hd hd' => ?_⟩, by rw [h0, h4]; exact c, fun n => ?_⟩
  · rw [ea x hx] at h; rw [ea x' hx'] at h'
    exact i.1 x j x' j' c hx hx' hj hj' h h'
  · rw [ea x hx] at h; rw [ea x' hx'] at h'
    have q := ck x j c hx hj h
    have q' := ck x' j' c' hx' hj' h'
    rw [hρ c (ck_65 hQ.1 q.1) (isC_r q.1)] at hd
    rw [hρ c' (ck_65 hQ.1 q'.1) (isC_r q'.1)] at hd'
    exact i.2 x j x' j' c c' d hx hx' hj hj' h h' k k' hd hd'
  · rw [h4] at n
    obtain ⟨y, z⟩ := d n
    exact ⟨t2 y, cu_eq hQ.1 (fun j c => ck 15 j c (Or.inr rfl)) z hA' hrow' hc (fun j _ => by rw [e15]) hρ (fun _ _ => rfl)⟩
theorem ra_c {N : Nat} {K len : Nat → Nat} {ρ : RG} {σ σ' : SG} (hQ : PR N K len ρ) (h : KC σ σ') (R : RA K σ ρ) : RA K σ' ρ := by
  refine ra_eq hQ R (fun t => ?_) (fun t => ?_) (h 0 2 rfl) (h 54 4 rfl) (h 1 1 rfl) (h 14 1 rfl) (fun k _ _ => h 55 k (kcP_ref (by decide) (by decide))) (fun k _ _ => h 56 k (kcP_ref (by decide) (by decide))) (fun r k a _ n => h r k (kcP_hi a n)) rfl rfl (fun _ _ _ => rfl)
  · unfold TB
    rw [h 1 1 rfl, h 1 10 rfl, h 1 13 rfl, h 3 0 rfl, h 55 11 rfl, h 55 13 rfl, h 55 14 rfl, h 55 17 rfl]
    exact t
  · unfold TB
    rw [h 14 1 rfl, h 14 10 rfl, h 14 13 rfl, h 16 0 rfl, h 56 11 rfl, h 56 13 rfl, h 56 14 rfl, h 56 17 rfl]
    exact t
/-- the text taken in: no array of cutters is touched -/
theorem ra_29 {N : Nat} {K len : Nat → Nat} {ρ : RG} {σ : SG} {v : Option Nat} (hQ : PR N K len ρ) (R : RA K σ ρ) : RA K σ (r2 ρ 29 8 v) :=
  ra_eq hQ R id id rfl rfl rfl rfl (fun _ _ _ => rfl) (fun _ _ _ => rfl) (fun _ _ _ _ _ => rfl) (r2_ne 2 (by decide)) (r2_ne 15 (by decide)) (fun c a _ => by rw [r2_ne c (by omega)])
theorem ra_r {N : Nat} {K len : Nat → Nat} {ρ : RG} {σ σ' : SG} (hQ : PR N K len ρ) (h : KR σ σ') (h5 : ∀ k, raK k = true → σ' 55 k = σ 55 k) (R : RA K σ ρ) : RA K σ' ρ := by
  refine ra_eq hQ R (fun t => ?_) (fun t => ?_) (h 0 2 rfl) (h 54 4 rfl) (h 1 1 rfl) (h 14 1 rfl) (fun k a b => h5 k (rk ⟨a, b⟩)) (fun k _ _ => h 56 k rfl) (fun r k a _ n => h r k (krP_hi a)) rfl rfl (fun _ _ _ => rfl)
  · unfold TB
    rw [h 1 1 rfl, h 1 10 rfl, h 1 13 rfl, h 3 0 rfl, h5 11 rfl, h5 13 rfl, h5 14 rfl, h5 17 rfl]
    exact t
  · unfold TB
    rw [h 14 1 rfl, h 14 10 rfl, h 14 13 rfl, h 16 0 rfl, h 56 11 rfl, h 56 13 rfl, h 56 14 rfl, h 56 17 rfl]
    exact t
theorem raK_11 {k : Nat} (h : raK k = true) : 11 ≤ k ∧ k ≤ 73 ∧ k ≠ 12 ∧ k ≠ 15 ∧ k ≠ 16 ∧ k ≠ 18 ∧ k ≠ 19 := by
  unfold raK at h
  simp only [Bool.or_eq_true, Bool.and_eq_true, beq_iff_eq, Nat.ble_eq] at h
  omega
theorem ra_bf {N : Nat} {K len : Nat → Nat} {ρ : RG} {m : Int} {σ σ' : SG} (hQ : PR N K len ρ) (h : KR σ σ') (h1 : BF (σ 55) m σ') (R : RA K σ ρ) : RA K σ' ρ := ra_r hQ h (fun k hk => h1.2 k (raK_11 hk).1) R
theorem ra_a {N : Nat} {K len : Nat → Nat} {ρ : RG} {σ σ' : SG} (hQ : PR N K len ρ) (h : KR σ σ') (h1 : KA σ σ') (R : RA K σ ρ) : RA K σ' ρ := ra_r hQ h (fun k _ => h1 55 k rfl) R
/-! a cutter's place -/
theorem at_11 {N : Nat} {K len : Nat → Nat} {a1 : Int32} {σ : SG} {ρ : RG} (hB0 : rg (σ 1 1) 0 6) (R : RA K σ ρ) : ok (F_X8_cutterAt_1 a1 σ ρ) (fun o => (o = none ∧ ¬ ((0 : Int32) ≤ a1 ∧ a1 < σ 1 1)) ∨ ∃ c j : Nat, o = some c ∧ (0 : Int32) ≤ a1 ∧ a1 < σ 1 1 ∧ j < 6 ∧ a1.toInt = (j : Int) ∧ ρ 2 j = some c) := by
  have z0 : (0 : Int32).toInt = 0 := rfl
  unfold F_X8_cutterAt_1
  refine ok_if (fun c => ok_some (Or.inl ⟨rfl, fun q => ?_⟩)) (fun c => ok_if (fun d => ok_some (Or.inl ⟨rfl, fun q => ?_⟩)) (fun d => ok_if (fun e => ok_some (Or.inl ⟨rfl, fun q => ?_⟩)) (fun e => ?_)))
  · have := Int32.lt_iff_toInt_lt.mp c
    have := Int32.le_iff_toInt_le.mp q.1
    omega
  · have := Int32.le_iff_toInt_le.mp d
    have := Int32.lt_iff_toInt_lt.mp q.2
    omega
  · have := Int32.le_iff_toInt_le.mp e
    have := Int32.lt_iff_toInt_lt.mp q.2
    have := hB0.2
    have e6 : (6 : Int32).toInt = 6 := rfl
    omega
  · have a0 := Int32.le_iff_toInt_le.mp (nlt c)
    have a1' := Int32.lt_iff_toInt_lt.mp (nle d)
    have r := hB0.2
    refine ok_gd (decide_eq_true ⟨by omega, by omega⟩) (ok_some ?_)
    obtain ⟨j, hj⟩ : ∃ j : Nat, a1.toInt = (j : Int) := ⟨a1.toInt.toNat, by omega⟩
    have ej : a1.toNatClampNeg = j := by show a1.toInt.toNat = j; omega
    have j6 : j < 6 := by omega
    rw [ej]
    have h := (R.2.1 j j6).1
    cases e : ρ 2 j with
    | none => have := h.mp e; omega
    | some c2 => exact Or.inr ⟨c2, j, rfl, nlt c, nle d, j6, hj, e⟩
theorem ic_12 {a1 : Int32} {σ : SG} {ρ : RG} (r : rg (σ 55 11) 0 6) : ok (F_X12_isCutter a1 σ ρ) (fun q => ¬ q = 0 ↔ (0 : Int32) ≤ a1 ∧ a1 < σ 55 11) := by
  unfold F_X12_isCutter
  refine ok_nm (fun x hx => ok_bn in_0 (fun q h => ok_gd (rg_isb h.1) (ok_some ?_)))
  have e1 : (1 : Int32).toInt = 1 := rfl
  have r1 := r.1
  have r2 := r.2
  have ex : x.toInt = (σ 55 11).toInt - 1 := by rw [hx, ti_sub (by omega) (by omega), e1]
  rw [h.2]
  constructor
  · rintro ⟨a, b⟩
    have := Int32.le_iff_toInt_le.mp b
    exact ⟨a, Int32.lt_iff_toInt_lt.mpr (by omega)⟩
  · rintro ⟨a, b⟩
    have := Int32.lt_iff_toInt_lt.mp b
    exact ⟨a, Int32.le_iff_toInt_le.mpr (by omega)⟩
