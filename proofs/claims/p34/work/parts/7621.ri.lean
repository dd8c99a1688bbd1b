/-! PART 7621.ri: by hand: tape and boards over image and undo -/
theorem rb_image {N N1 : Nat} {K len K1 L1 : Nat → Nat} {ρ ρ1 : RG} {r3 r6 : Int32} {σ σ3 σ6 : SG} (hQ : PR N K len ρ) (R : RB σ) (h3 : r3 = σ3 1 1 ∧ ∃ σ1, CPE 15 2 N 14 1 16 3 K (s2 σ 14 1 (σ 1 1)) ρ ((), N1, K1, L1, σ1, ρ1) ∧ σ3 = s2 σ1 0 2 1) (h6 : r6 = σ3 55 11 ∧ σ6 54 4 = 1 ∧ σ6 55 = σ3 55 ∧ (∀ r, r ≠ 54 → r ≠ 56 → σ6 r = σ3 r) ∧ ∀ k : Nat, k < 909 → σ6 56 k = σ3 55 k) : RB σ6 := by
  have n65 := hQ.1.1
  obtain ⟨e3, σ1, ⟨σ5, cp, hQ1, tk, tm⟩, e1⟩ := h3
  obtain ⟨g1, g2, g3, g4, g5⟩ := h6
  change CP 15 2 N 6 K (s2 σ 14 1 (σ 1 1)) ρ N1 K1 σ5 ρ1 at cp
  change TKM 14 1 σ5 σ1 at tm
  obtain ⟨m0, m1, m2, m3, m4, m5, m6, m7, m8, m9, m10, m11⟩ := tm
  have b5 : ∀ r k, r < 65 → r ≠ 14 → σ5 r k = σ r k := fun r k hr n => by rw [cp.1.2.2.1 r (by omega), s2_ne r n]
  have s3 : ∀ r k, r ≠ 0 → r ≠ 54 → r ≠ 56 → σ6 r k = σ1 r k := fun r k n n' n'' => by rw [g4 r n' n'', e1, s2_ne r n]
  have lo : ∀ r k, r < 14 → r ≠ 0 → σ6 r k = σ r k := fun r k l n => by rw [s3 r k n (by omega) (by omega), m11 r k (by omega) (by omega), b5 r k (by omega) (by omega)]
  have r55 : ∀ k, σ6 55 k = σ 55 k := fun k => by rw [s3 55 k (by decide) (by decide) (by decide), m11 55 k (by omega) (by omega), b5 55 k (by omega) (by omega)]
  have r56 : ∀ k, k < 909 → σ6 56 k = σ 55 k := fun k hk => by rw [g5 k hk, ← g3, r55]
  refine ⟨bt_congr R.1 (lo 1 4 (by decide) (by decide)) (lo 1 6 (by decide) (by decide)) (fun k _ => lo 10 k (by decide) (by decide)) (fun k _ => lo 5 k (by decide) (by decide)) (fun k _ => lo 6 k (by decide) (by decide)) (fun k _ => lo 7 k (by decide) (by decide)) (fun k _ => lo 8 k (by decide) (by decide)) (fun k _ => lo 9 k (by decide) (by decide)) (fun k _ _ => r55 k), fun _ => ?_⟩
  have hi : ∀ r k, 14 ≤ r → r ≤ 26 → σ6 r k = σ1 r k := fun r k a b => s3 r k (by omega) (by omega) (by omega)
  refine bt_congr R.1 ?_ ?_ (fun k hk => ?_) (fun k hk => ?_) (fun k hk => ?_) (fun k hk => ?_) (fun k hk => ?_) (fun k hk => ?_) (fun k hk _ => r56 k hk)
  · rw [hi 14 4 (by decide) (by decide), m0 4 (by omega), b5 1 4 (by decide) (by decide)]
  · rw [hi 14 6 (by decide) (by decide), m0 6 (by omega), b5 1 6 (by decide) (by decide)]
  · rw [hi 23 k (by decide) (by decide), m7 k hk, b5 (1 + 9) k (by decide) (by decide)]
  · rw [hi 18 k (by decide) (by decide), m2 k hk, b5 (1 + 4) k (by decide) (by decide)]
  · rw [hi 19 k (by decide) (by decide), m3 k hk, b5 (1 + 5) k (by decide) (by decide)]
  · rw [hi 20 k (by decide) (by decide), m4 k hk, b5 (1 + 6) k (by decide) (by decide)]
  · rw [hi 21 k (by decide) (by decide), m5 k hk, b5 (1 + 7) k (by decide) (by decide)]
  · rw [hi 22 k (by decide) (by decide), m6 k hk, b5 (1 + 8) k (by decide) (by decide)]
theorem rb_undo {N N1 : Nat} {K len K1 L1 : Nat → Nat} {ρ ρ1 : RG} {r3 : Int32} {σ σ3 : SG} (hQ : PR N K len ρ) (RA' : RA K σ ρ) (R : RB σ) (h3 : (σ 0 2 = 0 ∧ (r3, N1, K1, L1, σ3, ρ1) = (-3, N, K, len, σ, ρ)) ∨ (¬ σ 0 2 = 0 ∧ r3 = σ3 1 1 ∧ CPE 2 15 N 1 14 3 16 K (s2 σ 1 1 (σ 14 1)) ρ ((), N1, K1, L1, σ3, ρ1))) : kp (F_X12_undo σ3 ρ1) (fun q => RB q.2) := by
  have n65 := hQ.1.1
  rcases h3 with ⟨c0, e⟩ | ⟨c0, e3, σ5, cp, hQ1, tk, tm⟩
  · cases e
    unfold F_X12_undo
    rw [if_pos (RA'.2.2.2.1.mp c0)]
    exact kp_some R
  · change CP 2 15 N 6 K (s2 σ 1 1 (σ 14 1)) ρ N1 K1 σ5 ρ1 at cp
    change TKM 1 14 σ5 σ3 at tm
    have n4 : ¬ σ 54 4 = 0 := fun q => c0 (RA'.2.2.2.1.mpr q)
    obtain ⟨m0, m1, m2, m3, m4, m5, m6, m7, m8, m9, m10, m11⟩ := tm
    have b5 : ∀ r k, r < 65 → r ≠ 1 → σ5 r k = σ r k := fun r k hr n => by rw [cp.1.2.2.1 r (by omega), s2_ne r n]
    have hi3 : ∀ r k, r < 65 → 14 ≤ r → σ3 r k = σ r k := fun r k l g => by rw [m11 r k (by omega) (by omega), b5 r k l (by omega)]
    refine kp_mono (un_12r (σ := σ3) (by rw [hi3 54 4 (by decide) (by decide)]; exact n4)) (fun q z => ?_)
    obtain ⟨g1, g2, g3, g4, g5⟩ := z
    have q55 : ∀ k, k < 909 → q.2 55 k = σ 56 k := fun k hk => by rw [g5 k hk, hi3 56 k (by decide) (by decide)]
    have lo : ∀ r k, r < 54 → q.2 r k = σ3 r k := fun r k l => by rw [g4 r (by omega)]
    have T := R.2 n4
    refine ⟨?_, fun _ => ?_⟩
    · refine bt_congr T ?_ ?_ (fun k hk => ?_) (fun k hk => ?_) (fun k hk => ?_) (fun k hk => ?_) (fun k hk => ?_) (fun k hk => ?_) (fun k hk _ => q55 k hk)
      · rw [lo 1 4 (by decide), m0 4 (by omega), b5 14 4 (by decide) (by decide)]
      · rw [lo 1 6 (by decide), m0 6 (by omega), b5 14 6 (by decide) (by decide)]
      · rw [lo 10 k (by decide), m7 k hk, b5 (14 + 9) k (by decide) (by decide)]
      · rw [lo 5 k (by decide), m2 k hk, b5 (14 + 4) k (by decide) (by decide)]
      · rw [lo 6 k (by decide), m3 k hk, b5 (14 + 5) k (by decide) (by decide)]
      · rw [lo 7 k (by decide), m4 k hk, b5 (14 + 6) k (by decide) (by decide)]
      · rw [lo 8 k (by decide), m5 k hk, b5 (14 + 7) k (by decide) (by decide)]
      · rw [lo 9 k (by decide), m6 k hk, b5 (14 + 8) k (by decide) (by decide)]
    · have h : ∀ r k, 14 ≤ r → r ≤ 26 → q.2 r k = σ r k := fun r k a b => by rw [lo r k (by omega), hi3 r k (by omega) a]
      exact bt_congr T (h 14 4 (by decide) (by decide)) (h 14 6 (by decide) (by decide)) (fun k _ => h 23 k (by decide) (by decide)) (fun k _ => h 18 k (by decide) (by decide)) (fun k _ => h 19 k (by decide) (by decide)) (fun k _ => h 20 k (by decide) (by decide)) (fun k _ => h 21 k (by decide) (by decide)) (fun k _ => h 22 k (by decide) (by decide)) (fun k _ _ => by rw [g3, hi3 56 k (by decide) (by decide)])
/-! the cutter that comes -/
theorem rb_cutter {N N1 : Nat} {K len K1 L1 : Nat → Nat} {ρ ρ1 : RG} {a1 a2 a3 a4 a5 r3 : Int32} {σ σ3 σ6 : SG} (r0 : rg (σ 1 1) 0 6) (hQ : PR N K len ρ) (R : RB σ) (h3 : (¬ OKC a1 a2 a3 a4 a5 (σ 1 1) ∧ (r3, N1, K1, L1, σ3, ρ1) = (cuE a1 a2 a3 a4 a5, N, K, len, σ, ρ)) ∨ (OKC a1 a2 a3 a4 a5 (σ 1 1) ∧ r3 = σ 1 1 ∧ ∀ n : Nat, (σ 1 1).toInt = (n : Int) → NEWC a1 a2 a3 a4 a5 n N K len σ ρ (N1, K1, L1, σ3, ρ1))) (hr : KR σ3 σ6) (h5 : ∀ k, k < 909 → bc k → σ6 55 k = σ3 55 k) : RB σ6 := by
  have n65 := hQ.1.1
  have f : ∀ r k, r < 65 → ¬ (r = 1 ∧ k = 1) → σ3 r k = σ r k := by
    rcases h3 with ⟨_, e⟩ | ⟨_, _, e⟩
    · cases e; exact fun _ _ _ _ => rfl
    · have E := e (σ 1 1).toNatClampNeg (cl0 r0.1).symm
      exact fun r k l n => E.2.1 r k (by omega) n
  refine rb_keep R (fun r k p => ?_) (fun k hk q => by rw [h5 k hk q, f 55 k (by decide) (by omega)]) (fun k _ _ => by rw [hr 56 k rfl, f 56 k (by decide) (by omega)]) (by rw [hr 54 4 rfl, f 54 4 (by decide) (by omega)])
  have l := kb_lt p
  rw [hr r k (krP_lo l.1)]
  refine f r k (by omega) (fun z => ?_)
  rw [z.1, z.2] at p
  cases p
