/-! PART 752.rc: by hand: thick, row, feed, see -/
theorem ck_of {N : Nat} {K len : Nat → Nat} {ρ : RG} (hQ : PR N K len ρ) {a j c : Nat} (ha : a = 2 ∨ a = 15) (hj : j < 6) (h : ρ a j = some c) : CK N K len ρ c := by
  rcases ha with rfl | rfl
  · exact hQ.2.2.1 j c hj h
  · exact hQ.2.2.2.1 j c hj h
theorem low_of {N : Nat} {K len : Nat → Nat} {ρ : RG} (hQ : PR N K len ρ) : ∀ a j c, (a = 2 ∨ a = 15) → j < 6 → ρ a j = some c → 65 ≤ c := fun a j c ha hj h => ck_65 hQ.1 (ck_of hQ ha hj h).1
/-- a cell of a cutter or of its digits, and the reference's cell of it -/
theorem ra_cell {N : Nat} {K len : Nat → Nat} {ρ : RG} {σ σ2 : SG} {x kx y : Nat} {v : Int32} (hQ : PR N K len ρ) (R : RA K σ ρ) (hx : 65 ≤ x) (hy : 20 ≤ y ∧ y ≤ 73) (e : σ2 = s2 (s2 σ x kx v) 55 y v) (H : ∀ j c, j < 6 → ρ 2 j = some c → CF 55 j σ ρ K c → CF 55 j σ2 ρ K c) (H' : ∀ j c, j < 6 → ρ 15 j = some c → CF 56 j σ ρ K c → CF 56 j σ2 ρ K c) (H0 : ∀ a j c, (a = 2 ∨ a = 15) → j < 6 → ρ a j = some c → σ2 c 0 = σ c 0) : RA K σ2 ρ := by
  have n2 : ∀ r k, r ≠ x → (r ≠ 55 ∨ k ≠ y) → σ2 r k = σ r k := fun r k a b => by
    rw [e, s2_at]
    by_cases q : r = 55
    · rw [if_pos q, if_neg (by omega), s2_ne 55 (by omega), q]
    · rw [if_neg q, s2_ne r a]
  obtain ⟨a, b, i, c, d⟩ := R
  obtain ⟨a1, a2, a3, a4⟩ := a
  refine ⟨⟨?_, ?_, ?_, ?_⟩, fun j hj => ⟨?_, fun c hc => ⟨H j c hj hc ((b j hj).2 c hc).1, by rw [H0 2 j c (Or.inl rfl) hj hc]; exact ((b j hj).2 c hc).2⟩⟩, i, ?_, fun n => ?_⟩
  · rw [n2 1 1 (by omega) (Or.inl (by decide)), n2 55 11 (by omega) (Or.inr (by omega))]; exact a1
  · rw [n2 1 10 (by omega) (Or.inl (by decide)), n2 55 13 (by omega) (Or.inr (by omega))]; exact a2
  · rw [n2 1 13 (by omega) (Or.inl (by decide)), n2 55 14 (by omega) (Or.inr (by omega))]; exact a3
  · rw [n2 3 0 (by omega) (Or.inl (by decide)), n2 55 17 (by omega) (Or.inr (by omega))]; exact a4
  · rw [n2 1 1 (by omega) (Or.inl (by decide))]; exact (b j hj).1
  · rw [n2 0 2 (by omega) (Or.inl (by decide)), n2 54 4 (by omega) (Or.inl (by decide))]; exact c
  · rw [n2 54 4 (by omega) (Or.inl (by decide))] at n
    obtain ⟨⟨y1, y2, y3, y4⟩, z⟩ := d n
    refine ⟨⟨?_, ?_, ?_, ?_⟩, fun j hj => ⟨?_, fun c hc => ⟨H' j c hj hc ((z j hj).2 c hc).1, by rw [H0 15 j c (Or.inr rfl) hj hc]; exact ((z j hj).2 c hc).2⟩⟩⟩
    · rw [n2 14 1 (by omega) (Or.inl (by decide)), n2 56 11 (by omega) (Or.inl (by decide))]; exact y1
    · rw [n2 14 10 (by omega) (Or.inl (by decide)), n2 56 13 (by omega) (Or.inl (by decide))]; exact y2
    · rw [n2 14 13 (by omega) (Or.inl (by decide)), n2 56 14 (by omega) (Or.inl (by decide))]; exact y3
    · rw [n2 16 0 (by omega) (Or.inl (by decide)), n2 56 17 (by omega) (Or.inl (by decide))]; exact y4
    · rw [n2 14 1 (by omega) (Or.inl (by decide))]; exact (z j hj).1
theorem isC_14 {N : Nat} {K len : Nat → Nat} {c d : Nat} (h : isC N K c = true) (h' : isD N K len d = true) : c ≠ d := fun e => by
  have a := isC_k h
  have b := (isD_lt h').2.1
  rw [e, b] at a
  cases a
theorem ra_thick {N : Nat} {K len : Nat → Nat} {ρ : RG} {σ σ2 : SG} {c j : Nat} {v : Int32} (hQ : PR N K len ρ) (R : RA K σ ρ) (hj : j < 6) (hc : ρ 2 j = some c) (e : σ2 = s2 (s2 σ c 4 v) 55 (44 + j) v) : RA K σ2 ρ := by
  have kc := hQ.2.2.1 j c hj hc
  have c65 := ck_65 hQ.1 kc.1
  have i := R.2.2.1
  have n2 : ∀ r k, (r ≠ c ∨ k ≠ 4) → (r ≠ 55 ∨ k ≠ 44 + j) → σ2 r k = σ r k := fun r k a b => by
    rw [e, s2_at]
    by_cases q : r = 55
    · rw [if_pos q, if_neg (by omega), s2_ne 55 (by omega), q]
    · rw [if_neg q, s2_at]
      by_cases q' : r = c
      · rw [if_pos q', if_neg (by omega), q']
      · rw [if_neg q']
  refine ra_cell hQ R c65 (by omega) e (fun j' c' hj' hc' f => ?_) (fun j' c' hj' hc' f => ?_) (fun a j' c' ha hj' hc' => n2 c' 0 (Or.inr (by decide)) (Or.inl (by have := low_of hQ a j' c' ha hj' hc'; omega)))
  · obtain ⟨f1, f2, f3, f4, f5, f6⟩ := f
    have kc' := hQ.2.2.1 j' c' hj' hc'
    have c65' := ck_65 hQ.1 kc'.1
    refine ⟨by rw [n2 55 (20 + j') (by omega) (by omega)]; exact f1, by rw [n2 c' 1 (by omega) (by omega), n2 55 (26 + j') (by omega) (by omega)]; exact f2, by rw [n2 c' 2 (by omega) (by omega), n2 55 (32 + j') (by omega) (by omega)]; exact f3, by rw [n2 c' 3 (by omega) (by omega), n2 55 (38 + j') (by omega) (by omega)]; exact f4, ?_, fun k9 d hd q hq => ?_⟩
    · by_cases ej : j' = j
      · subst ej
        have ec : c' = c := by rw [hc] at hc'; cases hc'; rfl
        rw [ec, e, s2_at, if_neg (by omega), s2_at, if_pos rfl, if_pos rfl, s2_at, if_pos rfl, if_pos rfl]
      · have nc : c' ≠ c := fun q => ej (by rw [q] at hc'; exact (i.1 2 j' 2 j c (Or.inl rfl) (Or.inl rfl) hj' hj hc' hc).2)
        rw [n2 c' 4 (Or.inl nc) (by omega), n2 55 (44 + j') (by omega) (by omega)]; exact f5
    · obtain ⟨d', e', hd', d65⟩ := kc'.2 k9
      have ed : d = d' := by rw [hd] at e'; cases e'; rfl
      subst ed
      have nd := isC_14 kc.1 hd'
      rw [n2 d q (Or.inl (fun q => nd q.symm)) (by omega), n2 55 (50 + 4 * j' + q) (by omega) (by omega)]
      exact f6 k9 d hd q hq
  · obtain ⟨f1, f2, f3, f4, f5, f6⟩ := f
    have kc' := hQ.2.2.2.1 j' c' hj' hc'
    have c65' := ck_65 hQ.1 kc'.1
    have nc : c' ≠ c := fun q => by rw [q] at hc'; have := (i.1 15 j' 2 j c (Or.inr rfl) (Or.inl rfl) hj' hj hc' hc).1; omega
    refine ⟨by rw [n2 56 (20 + j') (by omega) (by omega)]; exact f1, by rw [n2 c' 1 (by omega) (by omega), n2 56 (26 + j') (by omega) (by omega)]; exact f2, by rw [n2 c' 2 (by omega) (by omega), n2 56 (32 + j') (by omega) (by omega)]; exact f3, by rw [n2 c' 3 (by omega) (by omega), n2 56 (38 + j') (by omega) (by omega)]; exact f4, by rw [n2 c' 4 (Or.inl nc) (by omega), n2 56 (44 + j') (by omega) (by omega)]; exact f5, fun k9 d hd q hq => ?_⟩
    obtain ⟨d', e', hd', d65⟩ := kc'.2 k9
    have ed : d = d' := by rw [hd] at e'; cases e'; rfl
    subst ed
    have nd := isC_14 kc.1 hd'
    rw [n2 d q (Or.inl (fun q => nd q.symm)) (by omega), n2 56 (50 + 4 * j' + q) (by omega) (by omega)]
    exact f6 k9 d hd q hq
theorem ra_row {N : Nat} {K len : Nat → Nat} {ρ : RG} {σ σ2 : SG} {c d0 j k0 : Nat} {v : Int32} (hQ : PR N K len ρ) (R : RA K σ ρ) (hj : j < 6) (hc : ρ 2 j = some c) (h9 : K c = 9) (h6 : ρ c 6 = some d0) (hk : k0 < 4) (e : σ2 = s2 (s2 σ d0 k0 v) 55 (50 + 4 * j + k0) v) : RA K σ2 ρ := by
  have kc := hQ.2.2.1 j c hj hc
  have c65 := ck_65 hQ.1 kc.1
  have i := R.2.2.1
  have hd0 : isD N K len d0 = true ∧ 65 ≤ d0 := ck_d kc h9 h6
  have d65 := hd0.2
  have n2 : ∀ r k, (r ≠ d0 ∨ k ≠ k0) → (r ≠ 55 ∨ k ≠ 50 + 4 * j + k0) → σ2 r k = σ r k := fun r k a b => by
    rw [e, s2_at]
    by_cases q : r = 55
    · rw [if_pos q, if_neg (by omega), s2_ne 55 (by omega), q]
    · rw [if_neg q, s2_at]
      by_cases q' : r = d0
      · rw [if_pos q', if_neg (by omega), q']
      · rw [if_neg q']
  refine ra_cell hQ R d65 (by omega) e (fun j' c' hj' hc' f => ?_) (fun j' c' hj' hc' f => ?_) (fun a j' c' ha hj' hc' => n2 c' 0 (Or.inl (isC_14 (ck_of hQ ha hj' hc').1 hd0.1)) (Or.inl (by have := low_of hQ a j' c' ha hj' hc'; omega)))
  · obtain ⟨f1, f2, f3, f4, f5, f6⟩ := f
    have kc' := hQ.2.2.1 j' c' hj' hc'
    have c65' := ck_65 hQ.1 kc'.1
    have nd := isC_14 kc'.1 hd0.1
    refine ⟨by rw [n2 55 (20 + j') (by omega) (by omega)]; exact f1, by rw [n2 c' 1 (Or.inl nd) (by omega), n2 55 (26 + j') (by omega) (by omega)]; exact f2, by rw [n2 c' 2 (Or.inl nd) (by omega), n2 55 (32 + j') (by omega) (by omega)]; exact f3, by rw [n2 c' 3 (Or.inl nd) (by omega), n2 55 (38 + j') (by omega) (by omega)]; exact f4, by rw [n2 c' 4 (Or.inl nd) (by omega), n2 55 (44 + j') (by omega) (by omega)]; exact f5, fun k9 d hd q hq => ?_⟩
    by_cases ej : j' = j
    · subst ej
      have ec : c' = c := by rw [hc] at hc'; cases hc'; rfl
      subst ec
      have ed : d = d0 := by rw [hd] at h6; cases h6; rfl
      subst ed
      by_cases eq : q = k0
      · subst eq
        rw [e, s2_at, if_neg (by omega), s2_at, if_pos rfl, if_pos rfl, s2_at, if_pos rfl, if_pos rfl]
      · rw [n2 d q (Or.inr eq) (by omega), n2 55 (50 + 4 * j' + q) (by omega) (by omega)]
        exact f6 k9 d hd q hq
    · have nc : c' ≠ c := fun q => ej (by rw [q] at hc'; exact (i.1 2 j' 2 j c (Or.inl rfl) (Or.inl rfl) hj' hj hc' hc).2)
      have ndd : d ≠ d0 := fun z => nc (by rw [z] at hd; exact i.2 2 j' 2 j c' c d0 (Or.inl rfl) (Or.inl rfl) hj' hj hc' hc k9 h9 hd h6)
      have d'65 := (ck_d kc' k9 hd).2
      rw [n2 d q (Or.inl ndd) (by omega), n2 55 (50 + 4 * j' + q) (by omega) (by omega)]
      exact f6 k9 d hd q hq
  · obtain ⟨f1, f2, f3, f4, f5, f6⟩ := f
    have kc' := hQ.2.2.2.1 j' c' hj' hc'
    have c65' := ck_65 hQ.1 kc'.1
    have nd := isC_14 kc'.1 hd0.1
    have nc : c' ≠ c := fun q => by rw [q] at hc'; have := (i.1 15 j' 2 j c (Or.inr rfl) (Or.inl rfl) hj' hj hc' hc).1; omega
    refine ⟨by rw [n2 56 (20 + j') (by omega) (by omega)]; exact f1, by rw [n2 c' 1 (Or.inl nd) (by omega), n2 56 (26 + j') (by omega) (by omega)]; exact f2, by rw [n2 c' 2 (Or.inl nd) (by omega), n2 56 (32 + j') (by omega) (by omega)]; exact f3, by rw [n2 c' 3 (Or.inl nd) (by omega), n2 56 (38 + j') (by omega) (by omega)]; exact f4, by rw [n2 c' 4 (Or.inl nd) (by omega), n2 56 (44 + j') (by omega) (by omega)]; exact f5, fun k9 d hd q hq => ?_⟩
    have ndd : d ≠ d0 := fun z => nc (by rw [z] at hd; exact i.2 15 j' 2 j c' c d0 (Or.inr rfl) (Or.inl rfl) hj' hj hc' hc k9 h9 hd h6)
    have d'65 := (ck_d kc' k9 hd).2
    rw [n2 d q (Or.inl ndd) (by omega), n2 56 (50 + 4 * j' + q) (by omega) (by omega)]
    exact f6 k9 d hd q hq
/-! thick -/
theorem thick_11 {N : Nat} {K len : Nat → Nat} {a1 a2 : Int32} {σ : SG} {ρ : RG} (hB0 : rg (σ 1 1) 0 6) (R : RA K σ ρ) : kp (F_X11_thick N K len a1 a2 σ ρ) (fun q => (¬ ((0 : Int32) ≤ a1 ∧ a1 < σ 1 1) ∧ q = (-1, σ)) ∨ (((0 : Int32) ≤ a1 ∧ a1 < σ 1 1) ∧ ¬ ((1 : Int32) ≤ a2 ∧ a2 ≤ (40 : Int32)) ∧ q = (-2, σ)) ∨ ∃ c j : Nat, ((0 : Int32) ≤ a1 ∧ a1 < σ 1 1) ∧ ((1 : Int32) ≤ a2 ∧ a2 ≤ (40 : Int32)) ∧ j < 6 ∧ a1.toInt = (j : Int) ∧ ρ 2 j = some c ∧ q = (σ c 4, s2 σ c 4 a2)) := by
  unfold F_X11_thick
  refine kp_bn (kp_ok (at_11 (N := N) (len := len) hB0 R)) (fun o h => ?_)
  rcases h with ⟨rfl, n⟩ | ⟨c, j, rfl, v1, v2, hj, ej, hc⟩
  · exact kp_some (Or.inl ⟨n, rfl⟩)
  refine kp_gd (fun _ => kp_bn (kp_ok th_0) (fun r3 h3 => ?_))
  by_cases d : r3 = 0
  · rw [if_pos d]; exact kp_some (Or.inr (Or.inl ⟨⟨v1, v2⟩, fun q => h3.mpr q d, rfl⟩))
  · rw [if_neg d]; exact kp_nm (fun σ5 h5 => kp_some (Or.inr (Or.inr ⟨c, j, ⟨v1, v2⟩, h3.mp d, hj, ej, hc, by rw [h5]⟩)))
theorem thick_12 {a1 a2 : Int32} {σ : SG} {ρ : RG} (hc : rg (σ 55 11) 0 6) : kp (F_X12_thick a1 a2 σ ρ) (fun q => (¬ ((0 : Int32) ≤ a1 ∧ a1 < σ 55 11) ∧ q = (-1, σ)) ∨ (((0 : Int32) ≤ a1 ∧ a1 < σ 55 11) ∧ ¬ ((1 : Int32) ≤ a2 ∧ a2 ≤ (40 : Int32)) ∧ q = (-2, σ)) ∨ (((0 : Int32) ≤ a1 ∧ a1 < σ 55 11) ∧ ((1 : Int32) ≤ a2 ∧ a2 ≤ (40 : Int32)) ∧ ∀ j : Nat, a1.toInt = (j : Int) → q = (σ 55 (44 + j), s2 σ 55 (44 + j) a2))) := by
  unfold F_X12_thick
  refine kp_bn (kp_ok (ic_12 hc)) (fun r1 h1 => ?_)
  by_cases c : r1 = 0
  · rw [if_pos c]; exact kp_some (Or.inl ⟨fun q => h1.mpr q c, rfl⟩)
  rw [if_neg c]
  refine kp_bn (kp_ok in_0) (fun r3 h3 => ?_)
  by_cases d : r3 = 0
  · rw [if_pos d]; exact kp_some (Or.inr (Or.inl ⟨h1.mp c, fun q => h3.2.mpr q d, rfl⟩))
  rw [if_neg d]
  refine kp_nm (fun x5 h5 => kp_gd (fun _ => kp_nm (fun x7 h7 => kp_gd (fun _ => kp_nm (fun σ10 h10 => kp_some (Or.inr (Or.inr ⟨h1.mp c, h3.2.mp d, fun j hj => ?_⟩)))))))
  have e44 : (44 : Int32).toInt = 44 := rfl
  have b := Int32.lt_iff_toInt_lt.mp (h1.mp c).2
  have r := hc.2
  have e : ∀ x : Int32, x = 44 + a1 → x.toNatClampNeg = 44 + j := fun x hx => by
    have : x.toInt = 44 + a1.toInt := by rw [hx, ti_add (by omega) (by omega), e44]
    show x.toInt.toNat = _
    omega
  rw [h10, e x5 h5, e x7 h7]
theorem thick_ra {N : Nat} {K len : Nat → Nat} {ρ : RG} {a1 a2 b1 b2 r3 r6 : Int32} {σ σ3 σ6 : SG} (hQ : PR N K len ρ) (R : RA K σ ρ)
    (h3 : (¬ ((0 : Int32) ≤ a1 ∧ a1 < σ 1 1) ∧ (r3, σ3) = (-1, σ)) ∨ (((0 : Int32) ≤ a1 ∧ a1 < σ 1 1) ∧ ¬ ((1 : Int32) ≤ a2 ∧ a2 ≤ (40 : Int32)) ∧ (r3, σ3) = (-2, σ)) ∨ ∃ c j : Nat, ((0 : Int32) ≤ a1 ∧ a1 < σ 1 1) ∧ ((1 : Int32) ≤ a2 ∧ a2 ≤ (40 : Int32)) ∧ j < 6 ∧ a1.toInt = (j : Int) ∧ ρ 2 j = some c ∧ (r3, σ3) = (σ c 4, s2 σ c 4 a2))
    (h6 : (¬ ((0 : Int32) ≤ b1 ∧ b1 < σ3 55 11) ∧ (r6, σ6) = (-1, σ3)) ∨ (((0 : Int32) ≤ b1 ∧ b1 < σ3 55 11) ∧ ¬ ((1 : Int32) ≤ b2 ∧ b2 ≤ (40 : Int32)) ∧ (r6, σ6) = (-2, σ3)) ∨ (((0 : Int32) ≤ b1 ∧ b1 < σ3 55 11) ∧ ((1 : Int32) ≤ b2 ∧ b2 ≤ (40 : Int32)) ∧ ∀ j : Nat, b1.toInt = (j : Int) → (r6, σ6) = (σ3 55 (44 + j), s2 σ3 55 (44 + j) b2)))
    (e1 : b1 = a1) (e2 : b2 = a2) : r3 = r6 ∧ RA K σ6 ρ := by
  subst e1 e2
  have w : σ 1 1 = σ 55 11 := R.1.1
  rcases h3 with ⟨n, q⟩ | ⟨y, n, q⟩ | ⟨c, j, y, z, hj, ej, hc, q⟩
  · cases q
    rcases h6 with ⟨n', q'⟩ | ⟨y', -, q'⟩ | ⟨y', -, -⟩
    · cases q'; exact ⟨rfl, R⟩
    · rw [← w] at y'; exact absurd y' n
    · rw [← w] at y'; exact absurd y' n
  · cases q
    rcases h6 with ⟨n', q'⟩ | ⟨y', -, q'⟩ | ⟨y', z', -⟩
    · rw [← w] at n'; exact absurd y n'
    · cases q'; exact ⟨rfl, R⟩
    · exact absurd z' n
  · have c65 := ck_65 hQ.1 (hQ.2.2.1 j c hj hc).1
    cases q
    have u : s2 σ c 4 b2 55 = σ 55 := s2_ne 55 (by omega)
    rcases h6 with ⟨n', q'⟩ | ⟨y', n', q'⟩ | ⟨y', z', q'⟩
    · rw [u, ← w] at n'; exact absurd y n'
    · exact absurd z n'
    · have q' := q' j ej
      rw [u] at q'
      obtain ⟨g1, g2⟩ := Prod.mk.inj q'
      exact ⟨by rw [g1]; exact ((R.2.1 j hj).2 c hc).1.2.2.2.2.1, ra_thick hQ R hj hc g2⟩
/-! feed, see: the cells of RA aren't touched -/
theorem see_12k {a1 a2 : Int32} {σ : SG} {ρ : RG} : kp (F_X12_see a1 a2 σ ρ) (fun q => ∀ k, raK k = true → q.2 55 k = σ 55 k) := by
  unfold F_X12_see
  refine kp_bx (fun r1 => kp_if (kp_some (fun _ _ => rfl)) (kp_bx (fun r3 => kp_if (kp_some (fun _ _ => rfl)) (kp_nm (fun σ6 h6 => kp_nm (fun σ8 h8 => kp_some (fun k hk => ?_)))))))
  have := raK_11 hk
  exact (s2_k h8 (by omega)).trans (s2_k h6 (by omega))
