/-! PART 759.rj: printed by wip/gen/rj36.py: image and undo keep RA, the last step -/
theorem im_12r_2 {ρ : RG} : ∀ (n : Nat) (σ : SG) (v1 : Int32), rg v1 0 909 → kp (F_X12_image_2 n σ ρ v1) (fun q => q.1 = σ 55 11 ∧ q.2 54 4 = 1 ∧ q.2 55 = σ 55 ∧ (∀ r, r ≠ 54 → r ≠ 56 → q.2 r = σ r) ∧ ∀ k : Nat, k < 909 → (v1.toInt ≤ k ∨ σ 56 k = σ 55 k) → q.2 56 k = σ 55 k) := by
  intro n
  induction n with
  | zero => intro σ v1 _; exact kp_none
  | succ n ih =>
    intro σ v1 r1
    unfold F_X12_image_2
    have e909 : (909 : Int32).toInt = 909 := rfl
    by_cases c : (909 : Int32) ≤ v1
    · rw [if_pos c]
      have l := Int32.le_iff_toInt_le.mp c
      refine kp_nm (fun σ3 h3 => kp_some ⟨?_, ?_, ?_, fun r hr hr' => ?_, fun k hk q => ?_⟩)
      · show σ3 55 11 = _
        rw [s2_lt h3 (by decide)]
      · show σ3 54 4 = 1
        rw [h3, s2_at, if_pos rfl, if_pos rfl]
      · show σ3 55 = _
        rw [s2_lt h3 (by decide)]
      · show σ3 r = _
        rw [s2_lt h3 (by omega)]
      · show σ3 56 k = _
        rw [s2_lt h3 (by decide)]
        rcases q with q | q
        · omega
        · exact q
    · rw [if_neg c]
      have r1' : rg v1 0 908 := rg_lt (nle c) r1 (show rg (909 : Int32) 909 909 from ⟨by decide, by decide⟩)
      have i1 := rg_cl r1' (by decide)
      refine kp_gd (fun _ => kp_gd (fun _ => kp_nm (fun σ7 h7 => kp_nm (fun x8 h8 => ?_))))
      have e1 : (1 : Int32).toInt = 1 := rfl
      have u := r1'.2
      have u0 := r1'.1
      have e8 : x8.toInt = v1.toInt + 1 := by rw [h8, ti_add (by omega) (by omega), e1]
      have n55 : σ7 55 = σ 55 := s2_lt h7 (by decide)
      refine kp_mono (ih σ7 x8 ⟨by omega, by omega⟩) (fun q z => ?_)
      obtain ⟨z1, z2, z3, z4, z5⟩ := z
      refine ⟨by rw [z1, n55], z2, by rw [z3, n55], fun r hr hr' => by rw [z4 r hr hr', s2_lt h7 (by omega)], fun k hk y => ?_⟩
      rw [← n55]
      refine z5 k hk ?_
      rw [n55, h7, s2_at, if_pos rfl]
      by_cases w : k = v1.toNatClampNeg
      · rw [if_pos w, w]; exact Or.inr rfl
      · rw [if_neg w]
        rcases y with y | y
        · exact Or.inl (by omega)
        · exact Or.inr y
theorem im_12r {σ : SG} {ρ : RG} : kp (F_X12_image σ ρ) (fun q => q.1 = σ 55 11 ∧ q.2 54 4 = 1 ∧ q.2 55 = σ 55 ∧ (∀ r, r ≠ 54 → r ≠ 56 → q.2 r = σ r) ∧ ∀ k : Nat, k < 909 → q.2 56 k = σ 55 k) := by
  unfold F_X12_image
  refine kp_mono (im_12r_2 1024 σ 0 ⟨by decide, by decide⟩) (fun q z => ⟨z.1, z.2.1, z.2.2.1, z.2.2.2.1, fun k hk => z.2.2.2.2 k hk (Or.inl (by have : (0 : Int32).toInt = 0 := rfl; omega))⟩)
theorem un_12r_12 {ρ : RG} : ∀ (n : Nat) (σ : SG) (v1 : Int32), rg v1 0 909 → kp (F_X12_undo_12 n σ ρ v1) (fun q => q.1 = q.2 55 11 ∧ q.2 54 = σ 54 ∧ q.2 56 = σ 56 ∧ (∀ r, r ≠ 55 → q.2 r = σ r) ∧ ∀ k : Nat, k < 909 → (v1.toInt ≤ k ∨ σ 55 k = σ 56 k) → q.2 55 k = σ 56 k) := by
  intro n
  induction n with
  | zero => intro σ v1 _; exact kp_none
  | succ n ih =>
    intro σ v1 r1
    unfold F_X12_undo_12
    have e909 : (909 : Int32).toInt = 909 := rfl
    by_cases c : (909 : Int32) ≤ v1
    · rw [if_pos c]
      have l := Int32.le_iff_toInt_le.mp c
      refine kp_some ⟨rfl, rfl, rfl, fun r hr => rfl, fun k hk q => ?_⟩
      rcases q with q | q
      · omega
      · exact q
    · rw [if_neg c]
      have r1' : rg v1 0 908 := rg_lt (nle c) r1 (show rg (909 : Int32) 909 909 from ⟨by decide, by decide⟩)
      have i1 := rg_cl r1' (by decide)
      refine kp_gd (fun _ => kp_gd (fun _ => kp_nm (fun σ7 h7 => kp_nm (fun x8 h8 => ?_))))
      have e1 : (1 : Int32).toInt = 1 := rfl
      have u := r1'.2
      have u0 := r1'.1
      have e8 : x8.toInt = v1.toInt + 1 := by rw [h8, ti_add (by omega) (by omega), e1]
      have n56 : σ7 56 = σ 56 := s2_lt h7 (by decide)
      refine kp_mono (ih σ7 x8 ⟨by omega, by omega⟩) (fun q z => ?_)
      obtain ⟨z1, z2, z3, z4, z5⟩ := z
      refine ⟨z1, by rw [z2, s2_lt h7 (by decide)], by rw [z3, n56], fun r hr => by rw [z4 r hr, s2_lt h7 (by omega)], fun k hk y => ?_⟩
      rw [← n56]
      refine z5 k hk ?_
      rw [n56, h7, s2_at, if_pos rfl]
      by_cases w : k = v1.toNatClampNeg
      · rw [if_pos w, w]; exact Or.inr rfl
      · rw [if_neg w]
        rcases y with y | y
        · exact Or.inl (by omega)
        · exact Or.inr y
theorem un_12r {σ : SG} {ρ : RG} (h : ¬ σ 54 4 = 0) : kp (F_X12_undo σ ρ) (fun q => q.1 = q.2 55 11 ∧ q.2 54 = σ 54 ∧ q.2 56 = σ 56 ∧ (∀ r, r ≠ 55 → q.2 r = σ r) ∧ ∀ k : Nat, k < 909 → q.2 55 k = σ 56 k) := by
  unfold F_X12_undo
  rw [if_neg h]
  refine kp_mono (un_12r_12 1024 σ 0 ⟨by decide, by decide⟩) (fun q z => ⟨z.1, z.2.1, z.2.2.1, z.2.2.2.1, fun k hk => z.2.2.2.2 k hk (Or.inl (by have : (0 : Int32).toInt = 0 := rfl; omega))⟩)
theorem cu_base {N : Nat} {K len : Nat → Nat} {ρ : RG} {σ : SG} {arr A row X : Nat} {v : Int32} (hQ : PR N K len ρ) (hck : ∀ j c, j < 6 → ρ arr j = some c → CK N K len ρ c) (h : CU arr A row σ ρ K) (hX : X < 54 ∧ X ≠ A ∧ X ≠ row) : CU arr A row (s2 σ X 1 v) ρ K :=
  cu_eq hQ.1 hck h (by rw [s2_ne A (by omega)]) (fun k _ _ => by rw [s2_ne row (by omega)]) (fun r k a _ _ => by rw [s2_ne r (by omega)]) (fun _ _ => rfl) (fun _ _ _ => rfl) (fun _ _ => rfl)
theorem image_11r {m : Int} {N : Nat} {K len : Nat → Nat} {σ : SG} {ρ : RG} (hB : BX m σ) (hQ : PR N K len ρ) (R : RA K σ ρ) : kp (F_X11_image N K len σ ρ) (fun q => q.1 = q.2.2.2.2.1 1 1 ∧ ∃ σ1, CPE 15 2 N 14 1 16 3 K (s2 σ 14 1 (σ 1 1)) ρ ((), q.2.1, q.2.2.1, q.2.2.2.1, σ1, q.2.2.2.2.2) ∧ q.2.2.2.2.1 = s2 σ1 0 2 1) := by
  unfold F_X11_image F_X8_takes_14_1
  refine kp_bnT (kp_nm (fun σ2 e2 => ?_)) (fun u N1 K1 L1 σ1 ρ1 (h : CPE 15 2 N 14 1 16 3 K (s2 σ 14 1 (σ 1 1)) ρ (u, N1, K1, L1, σ1, ρ1)) => kp_nm (fun σ2 e2 => kp_some ⟨rfl, σ1, h, e2⟩))
  have b2 : BX m σ2 := by rw [e2]; exact bx_set hB (bx_get hB (r := 1) (a := 1) (b := 1) (k := 1) (l := 0) (h := 6) (by decide) (by decide) (by decide)) (by decide)
  rw [← e2]
  exact cp_14_1_0 hQ.1 (fun j c => hQ.2.2.1 j c) (fun j hj => by rw [e2, s2_ne 1 (by decide)]; exact (R.2.1 j hj).1) b2 hQ (cp_0 R.2.2.1)
theorem undo_11r {m : Int} {N : Nat} {K len : Nat → Nat} {σ : SG} {ρ : RG} (hB : BX m σ) (hQ : PR N K len ρ) (R : RA K σ ρ) : kp (F_X11_undo N K len σ ρ) (fun q => (σ 0 2 = 0 ∧ q = (-3, N, K, len, σ, ρ)) ∨ (¬ σ 0 2 = 0 ∧ q.1 = q.2.2.2.2.1 1 1 ∧ CPE 2 15 N 1 14 3 16 K (s2 σ 1 1 (σ 14 1)) ρ ((), q.2))) := by
  unfold F_X11_undo F_X8_takes_1_14
  by_cases c : σ 0 2 = 0
  · rw [if_pos c]; exact kp_some (Or.inl ⟨c, rfl⟩)
  rw [if_neg c]
  refine kp_bnT (kp_nm (fun σ2 e2 => ?_)) (fun u N1 K1 L1 σ1 ρ1 (h : CPE 2 15 N 1 14 3 16 K (s2 σ 1 1 (σ 14 1)) ρ (u, N1, K1, L1, σ1, ρ1)) => kp_some (Or.inr ⟨c, rfl, h⟩))
  have b2 : BX m σ2 := by rw [e2]; exact bx_set hB (bx_get hB (r := 14) (a := 1) (b := 1) (k := 1) (l := 0) (h := 6) (by decide) (by decide) (by decide)) (by decide)
  obtain ⟨-, z⟩ := R.2.2.2.2 (fun q => c (R.2.2.2.1.mpr q))
  rw [← e2]
  exact cp_1_14_0 hQ.1 (fun j c => hQ.2.2.2.1 j c) (fun j hj => by rw [e2, s2_ne 14 (by decide)]; exact (z j hj).1) b2 hQ (cp_0 R.2.2.1)
theorem image_ra {N N1 : Nat} {K len K1 L1 : Nat → Nat} {ρ ρ1 : RG} {r3 r6 : Int32} {σ σ3 σ6 : SG} (hQ : PR N K len ρ) (R : RA K σ ρ) (h3 : r3 = σ3 1 1 ∧ ∃ σ1, CPE 15 2 N 14 1 16 3 K (s2 σ 14 1 (σ 1 1)) ρ ((), N1, K1, L1, σ1, ρ1) ∧ σ3 = s2 σ1 0 2 1) (h6 : r6 = σ3 55 11 ∧ σ6 54 4 = 1 ∧ σ6 55 = σ3 55 ∧ (∀ r, r ≠ 54 → r ≠ 56 → σ6 r = σ3 r) ∧ ∀ k : Nat, k < 909 → σ6 56 k = σ3 55 k) : r3 = r6 ∧ RA K1 σ6 ρ1 := by
  have n65 := hQ.1.1
  obtain ⟨e3, σ1, ⟨σ5, cp, hQ1, tk, -⟩, e1⟩ := h3
  obtain ⟨g1, g2, g3, g4, g5⟩ := h6
  change CP 15 2 N 6 K (s2 σ 14 1 (σ 1 1)) ρ N1 K1 σ5 ρ1 at cp
  change PR N1 K1 L1 ρ1 at hQ1
  change TK 14 1 16 3 σ5 σ1 at tk
  obtain ⟨k1, k2, k3, k4⟩ := tk
  obtain ⟨t, cu, ij, fl, kpt⟩ := R
  obtain ⟨t1, t2, t3, t4⟩ := t
  have b5 : ∀ r, r < N → r ≠ 14 → σ5 r = σ r := fun r hr n => by rw [cp.1.2.2.1 r hr, s2_ne r n]
  have s3 : ∀ r, r ≠ 0 → σ3 r = σ1 r := fun r n => by rw [e1, s2_ne r n]
  have s3' : σ3 0 2 = 1 := by rw [e1, s2_at, if_pos rfl, if_pos rfl]
  have s1 : ∀ r k, kcP r k = true → r ≠ 14 → r ≠ 16 → r < N → r ≠ 0 → σ3 r k = σ r k := fun r k p n n' hr n0 => by rw [s3 r n0, k4 r k p (fun q => n q.1) (fun q => n' q.1), b5 r hr n]
  have r55 : ∀ k, σ3 55 k = σ 55 k := fun k => s1 55 k (kcP_ref (by decide) (by decide)) (by decide) (by decide) (by omega) (by decide)
  have hi : ∀ r k, 65 ≤ r → k ≠ 5 → σ6 r k = σ5 r k := fun r k h n => by rw [g4 r (by omega) (by omega), s3 r (by omega), k4 r k (kcP_hi h n) (by omega) (by omega)]
  have lo : ∀ r, r < 54 → σ6 r = σ3 r := fun r h => g4 r (by omega) (by omega)
  have a1 : σ6 1 1 = σ 1 1 := by rw [lo 1 (by decide), s1 1 1 rfl (by decide) (by decide) (by omega) (by decide)]
  have a10 : σ6 1 10 = σ 1 10 := by rw [lo 1 (by decide), s1 1 10 rfl (by decide) (by decide) (by omega) (by decide)]
  have a13 : σ6 1 13 = σ 1 13 := by rw [lo 1 (by decide), s1 1 13 rfl (by decide) (by decide) (by omega) (by decide)]
  have a3 : σ6 3 0 = σ 3 0 := by rw [lo 3 (by decide), s1 3 0 rfl (by decide) (by decide) (by omega) (by decide)]
  have m1 : σ6 14 1 = σ 1 1 := by rw [lo 14 (by decide), s3 14 (by decide), k4 14 1 rfl (by omega) (by omega), cp.1.2.2.1 14 (by omega), s2_at, if_pos rfl, if_pos rfl]
  have m10 : σ6 14 10 = σ 1 10 := by rw [lo 14 (by decide), s3 14 (by decide), k1, b5 1 (by omega) (by decide)]
  have m13 : σ6 14 13 = σ 1 13 := by rw [lo 14 (by decide), s3 14 (by decide), k2, b5 1 (by omega) (by decide)]
  have m3 : σ6 16 0 = σ 3 0 := by rw [lo 16 (by decide), s3 16 (by decide), k3, b5 3 (by omega) (by decide)]
  have q55 : ∀ k, σ6 55 k = σ 55 k := fun k => by rw [g3, r55 k]
  have q56 : ∀ k, k < 909 → σ6 56 k = σ 55 k := fun k hk => by rw [g5 k hk, r55 k]
  have eK : ∀ c, c < N → K1 c = K c := cp.1.2.1
  have base := cu_base (X := 14) (v := σ 1 1) hQ (fun j c => hQ.2.2.1 j c) cu ⟨by decide, by decide, by decide⟩
  refine ⟨?_, ⟨?_, ?_, ?_, ?_⟩, ?_, cp.2.1, ?_, fun _ => ⟨⟨?_, ?_, ?_, ?_⟩, ?_⟩⟩
  · rw [e3, g1, r55 11, ← t1, s1 1 1 rfl (by decide) (by decide) (by omega) (by decide)]
  · rw [a1, q55]; exact t1
  · rw [a10, q55]; exact t2
  · rw [a13, q55]; exact t3
  · rw [a3, q55]; exact t4
  · exact cu_eq hQ.1 (fun j c => hQ.2.2.1 j c) cu a1 (fun k _ _ => q55 k) (fun r k h h' n => by rw [hi r k h n, b5 r h' (by omega)]) (fun j _ => by rw [cp.1.2.2.2 2 (by omega) (by decide)]) (fun c h h' => by rw [cp.1.2.2.2 c h' (by omega)]) eK
  · have : σ6 0 2 = 1 := by rw [lo 0 (by decide)]; exact s3'
    rw [this, g2]
  · rw [m1, q56 11 (by decide)]; exact t1
  · rw [m10, q56 13 (by decide)]; exact t2
  · rw [m13, q56 14 (by decide)]; exact t3
  · rw [m3, q56 17 (by decide)]; exact t4
  · refine made_cu (Or.inr rfl) (fun j c => hQ.2.2.1 j c) hQ1 cp base (by rw [m1, s2_ne 1 (by decide)]) (fun k h h' => by rw [q56 k (by omega), s2_ne 55 (by decide)]) hi
theorem undo_ra {N N1 : Nat} {K len K1 L1 : Nat → Nat} {ρ ρ1 : RG} {r3 : Int32} {σ σ3 : SG} (hQ : PR N K len ρ) (R : RA K σ ρ) (h3 : (σ 0 2 = 0 ∧ (r3, N1, K1, L1, σ3, ρ1) = (-3, N, K, len, σ, ρ)) ∨ (¬ σ 0 2 = 0 ∧ r3 = σ3 1 1 ∧ CPE 2 15 N 1 14 3 16 K (s2 σ 1 1 (σ 14 1)) ρ ((), N1, K1, L1, σ3, ρ1))) : kp (F_X12_undo σ3 ρ1) (fun q => r3 = q.1 ∧ RA K1 q.2 ρ1) := by
  have n65 := hQ.1.1
  rcases h3 with ⟨c0, e⟩ | ⟨c0, e3, σ5, cp, hQ1, tk, -⟩
  · cases e
    unfold F_X12_undo
    rw [if_pos (R.2.2.2.1.mp c0)]
    exact kp_some ⟨rfl, R⟩
  · change CP 2 15 N 6 K (s2 σ 1 1 (σ 14 1)) ρ N1 K1 σ5 ρ1 at cp
    change PR N1 K1 L1 ρ1 at hQ1
    change TK 1 14 3 16 σ5 σ3 at tk
    obtain ⟨k1, k2, k3, k4⟩ := tk
    obtain ⟨t, cu, ij, fl, kpt⟩ := R
    have n4 : ¬ σ 54 4 = 0 := fun q => c0 (fl.mpr q)
    obtain ⟨⟨t1, t2, t3, t4⟩, cz⟩ := kpt n4
    have b5 : ∀ r, r < N → r ≠ 1 → σ5 r = σ r := fun r hr n => by rw [cp.1.2.2.1 r hr, s2_ne r n]
    have s1 : ∀ r k, kcP r k = true → r ≠ 1 → r ≠ 3 → r < N → σ3 r k = σ r k := fun r k p n n' hr => by rw [k4 r k p (fun q => n q.1) (fun q => n' q.1), b5 r hr n]
    have r54 : σ3 54 4 = σ 54 4 := s1 54 4 (kcP_ref (by decide) (by decide)) (by decide) (by decide) (by omega)
    refine kp_mono (un_12r (σ := σ3) (by rw [r54]; exact n4)) (fun q z => ?_)
    obtain ⟨g1, g2, g3, g4, g5⟩ := z
    have r56 : ∀ k, σ3 56 k = σ 56 k := fun k => s1 56 k (kcP_ref (by decide) (by decide)) (by decide) (by decide) (by omega)
    have q55 : ∀ k, k < 909 → q.2 55 k = σ 56 k := fun k hk => by rw [g5 k hk, r56 k]
    have q56 : ∀ k, q.2 56 k = σ 56 k := fun k => by rw [g3, r56 k]
    have hi : ∀ r k, 65 ≤ r → k ≠ 5 → q.2 r k = σ5 r k := fun r k h n => by rw [g4 r (by omega), k4 r k (kcP_hi h n) (by omega) (by omega)]
    have lo : ∀ r, r < 54 → q.2 r = σ3 r := fun r h => g4 r (by omega)
    have m1 : σ3 1 1 = σ 14 1 := by rw [k4 1 1 rfl (by omega) (by omega), cp.1.2.2.1 1 (by omega), s2_at, if_pos rfl, if_pos rfl]
    have m10 : σ3 1 10 = σ 14 10 := by rw [k1, b5 14 (by omega) (by decide)]
    have m13 : σ3 1 13 = σ 14 13 := by rw [k2, b5 14 (by omega) (by decide)]
    have m3 : σ3 3 0 = σ 16 0 := by rw [k3, b5 16 (by omega) (by decide)]
    have a1 : q.2 14 1 = σ 14 1 := by rw [lo 14 (by decide), s1 14 1 rfl (by decide) (by decide) (by omega)]
    have a10 : q.2 14 10 = σ 14 10 := by rw [lo 14 (by decide), s1 14 10 rfl (by decide) (by decide) (by omega)]
    have a13 : q.2 14 13 = σ 14 13 := by rw [lo 14 (by decide), s1 14 13 rfl (by decide) (by decide) (by omega)]
    have a16 : q.2 16 0 = σ 16 0 := by rw [lo 16 (by decide), s1 16 0 rfl (by decide) (by decide) (by omega)]
    have a0 : q.2 0 2 = σ 0 2 := by rw [lo 0 (by decide), s1 0 2 rfl (by decide) (by decide) (by omega)]
    have a4 : q.2 54 4 = σ 54 4 := by rw [g2, r54]
    have eK : ∀ c, c < N → K1 c = K c := cp.1.2.1
    have base := cu_base (X := 1) (v := σ 14 1) hQ (fun j c => hQ.2.2.2.1 j c) cz ⟨by decide, by decide, by decide⟩
    refine ⟨?_, ⟨?_, ?_, ?_, ?_⟩, ?_, cp.2.1, ?_, fun _ => ⟨⟨?_, ?_, ?_, ?_⟩, ?_⟩⟩
    · rw [e3, g1, q55 11 (by decide), m1]; exact t1
    · rw [lo 1 (by decide), m1, q55 11 (by decide)]; exact t1
    · rw [lo 1 (by decide), m10, q55 13 (by decide)]; exact t2
    · rw [lo 1 (by decide), m13, q55 14 (by decide)]; exact t3
    · rw [lo 3 (by decide), m3, q55 17 (by decide)]; exact t4
    · exact made_cu (Or.inl rfl) (fun j c => hQ.2.2.2.1 j c) hQ1 cp base (by rw [lo 1 (by decide), m1, s2_ne 14 (by decide)]) (fun k h h' => by rw [q55 k (by omega), s2_ne 56 (by decide)]) hi
    · rw [a0, a4]; exact fl
    · rw [a1, q56]; exact t1
    · rw [a10, q56]; exact t2
    · rw [a13, q56]; exact t3
    · rw [a16, q56]; exact t4
    · exact cu_eq hQ.1 (fun j c => hQ.2.2.2.1 j c) cz a1 (fun k _ _ => q56 k) (fun r k h h' n => by rw [hi r k h n, b5 r h' (by omega)]) (fun j _ => by rw [cp.1.2.2.2 15 (by omega) (by decide)]) (fun c h h' => by rw [cp.1.2.2.2 c h' (by omega)]) eK
