/-! PART 756.rg: by hand: cutter keeps RA -/
theorem cutter_new {N N1 : Nat} {K len K1 L1 : Nat → Nat} {ρ ρ1 : RG} {a1 a2 a3 a4 a5 : Int32} {σ σ3 σ6 : SG} {n : Nat} (hQ : PR N K len ρ) (R : RA K σ ρ) (hn : (σ 1 1).toInt = (n : Int)) (n6 : n < 6) (ra1 : rg a1 0 6) (h3 : NEWC a1 a2 a3 a4 a5 n N K len σ ρ (N1, K1, L1, σ3, ρ1)) (hr : KR σ3 σ6)
    (h6 : σ6 55 11 = σ3 55 11 + 1 ∧ σ6 55 (20 + n) = a1 ∧ σ6 55 (26 + n) = a2 ∧ σ6 55 (32 + n) = a3 ∧ σ6 55 (38 + n) = a4 ∧ σ6 55 (44 + n) = a5 ∧ (∀ k, k < 4 → σ6 55 (50 + 4 * n + k) = 4) ∧ ∀ k, 11 < k → k ≠ 20 + n → k ≠ 26 + n → k ≠ 32 + n → k ≠ 38 + n → k ≠ 44 + n → (k < 50 + 4 * n ∨ 50 + 4 * n + 4 ≤ k) → σ6 55 k = σ3 55 k) : RA K1 σ6 ρ1 := by
  have n65 := hQ.1.1
  obtain ⟨c1, c2, c3, c4, c5, c6, c0, c7, c8, c9, c10, c11⟩ := h3
  change ∀ r, r < N → K1 r = K r at c1
  change ∀ r k, r < N → ¬ (r = 1 ∧ k = 1) → σ3 r k = σ r k at c2
  change σ3 1 1 = σ 1 1 + 1 at c3
  change ∀ r, r < N → r ≠ 2 → ρ1 r = ρ r at c4
  change ∀ j, ρ1 2 j = if j = n then some N else ρ 2 j at c5
  change K1 N = kof a1 at c6
  change σ3 N 0 = σ 1 1 at c0
  change σ3 N 1 = a2 at c7
  change σ3 N 2 = a3 at c8
  change σ3 N 3 = a4 at c9
  change σ3 N 4 = a5 at c10
  change kof a1 = 9 → ∃ d, N < d ∧ ρ1 N 6 = some d ∧ ∀ k, k < 4 → σ3 d k = 4 at c11
  obtain ⟨d1, d2, d3, d4, d5, d6, d7, d8⟩ := h6
  obtain ⟨t, cu, ij, fl, kp⟩ := R
  obtain ⟨t1, t2, t3, t4⟩ := t
  have one : (1 : Int32).toInt = 1 := rfl
  have u : ∀ r k, r < 54 → ¬ (r = 1 ∧ k = 1) → σ6 r k = σ r k := fun r k h q => (hr r k (krP_lo h)).trans (c2 r k (by omega) q)
  have uh : ∀ r k, 65 ≤ r → r < N → σ6 r k = σ r k := fun r k h h' => (hr r k (krP_hi h)).trans (c2 r k h' (by omega))
  have un : ∀ r k, N ≤ r → σ6 r k = σ3 r k := fun r k h => hr r k (krP_hi (by omega))
  have w : ∀ k, 11 < k → k ≠ 20 + n → k ≠ 26 + n → k ≠ 32 + n → k ≠ 38 + n → k ≠ 44 + n → (k < 50 + 4 * n ∨ 50 + 4 * n + 4 ≤ k) → σ6 55 k = σ 55 k := fun k g1 g2 g3 g4 g5 g6 g7 => (d8 k g1 g2 g3 g4 g5 g6 g7).trans (c2 55 k (by omega) (by omega))
  have w6 : ∀ k, σ6 56 k = σ 56 k := fun k => (hr 56 k rfl).trans (c2 56 k (by omega) (by omega))
  have w4 : σ6 54 4 = σ 54 4 := (hr 54 4 rfl).trans (c2 54 4 (by omega) (by omega))
  have e11 : σ6 1 1 = σ 1 1 + 1 := (hr 1 1 rfl).trans c3
  have i11 : (σ6 1 1).toInt = (n : Int) + 1 := by rw [e11, ti_add (by omega) (by omega), hn, one]
  -- a cutter of the new arrays: the new one, or an old one
  have old : ∀ a j c, (a = 2 ∨ a = 15) → j < 6 → ρ1 a j = some c → (a = 2 ∧ j = n ∧ c = N) ∨ (¬ (a = 2 ∧ j = n) ∧ ρ a j = some c ∧ CK N K len ρ c) := fun a j c ha hj h => by
    rcases ha with rfl | rfl
    · rw [c5 j] at h
      by_cases e : j = n
      · rw [if_pos e] at h; cases h; exact Or.inl ⟨rfl, e, rfl⟩
      · rw [if_neg e] at h; exact Or.inr ⟨fun q => e q.2, h, hQ.2.2.1 j c hj h⟩
    · rw [c4 15 (by omega) (by decide)] at h
      exact Or.inr ⟨fun q => absurd q.1 (by decide), h, hQ.2.2.2.1 j c hj h⟩
  have r6 : ∀ c, CK N K len ρ c → ρ1 c 6 = ρ c 6 := fun c h => by
    have h1 := isC_r h.1
    have h2 := ck_65 hQ.1 h.1
    rw [c4 c h1 (by omega)]
  refine ⟨⟨?_, ?_, ?_, ?_⟩, fun j hj => ⟨?_, fun c hc => ?_⟩, ⟨fun a j a' j' c ha ha' hj hj' h h' => ?_, fun a j a' j' c c' d ha ha' hj hj' h h' k k' hd hd' => ?_⟩, ?_, fun nf => ?_⟩
  · rw [e11, d1, c2 55 11 (by omega) (by omega), t1]
  · rw [u 1 10 (by decide) (by decide), w 13 (by omega) (by omega) (by omega) (by omega) (by omega) (by omega) (by omega)]; exact t2
  · rw [u 1 13 (by decide) (by decide), w 14 (by omega) (by omega) (by omega) (by omega) (by omega) (by omega) (by omega)]; exact t3
  · rw [u 3 0 (by decide) (by decide), w 17 (by omega) (by omega) (by omega) (by omega) (by omega) (by omega) (by omega)]; exact t4
  · rw [c5 j, i11]
    by_cases e : j = n
    · rw [if_pos e]
      exact ⟨fun q => (by cases q), fun q => (by omega)⟩
    · rw [if_neg e]
      have z := (cu j hj).1
      rw [hn] at z
      exact ⟨fun q => by have := z.mp q; omega, fun q => z.mpr (by omega)⟩
  · rcases old 2 j c (Or.inl rfl) hj hc with ⟨-, e, ec⟩ | ⟨ne, h, kc⟩
    · subst e ec
      refine ⟨⟨by rw [c6, kno_kof ra1, d2], by rw [un _ 1 (Nat.le_refl _), c7, d3], by rw [un _ 2 (Nat.le_refl _), c8, d4], by rw [un _ 3 (Nat.le_refl _), c9, d5], by rw [un _ 4 (Nat.le_refl _), c10, d6], fun k9 d hd q hq => ?_⟩, by rw [un _ 0 (Nat.le_refl _), c0]; exact hn⟩
      obtain ⟨d0, z1, z2, z3⟩ := c11 (c6.symm.trans k9)
      have ed : d = d0 := by rw [hd] at z2; cases z2; rfl
      subst ed
      rw [un d q (by omega), z3 q hq, d7 q hq]
    · have ne : j ≠ n := fun e => ne ⟨rfl, e⟩
      have cN := isC_r kc.1
      have c65 := ck_65 hQ.1 kc.1
      obtain ⟨⟨f1, f2, f3, f4, f5, f6⟩, f7⟩ := (cu j hj).2 c h
      have w' : ∀ b, (b = 20 ∨ b = 26 ∨ b = 32 ∨ b = 38 ∨ b = 44) → σ6 55 (b + j) = σ 55 (b + j) := fun b hb => w (b + j) (by omega) (by omega) (by omega) (by omega) (by omega) (by omega) (by omega)
      refine ⟨⟨by rw [c1 c cN, w' 20 (by omega)]; exact f1, by rw [uh c 1 c65 cN, w' 26 (by omega)]; exact f2, by rw [uh c 2 c65 cN, w' 32 (by omega)]; exact f3, by rw [uh c 3 c65 cN, w' 38 (by omega)]; exact f4, by rw [uh c 4 c65 cN, w' 44 (by omega)]; exact f5, fun k9 d hd q hq => ?_⟩, by rw [uh c 0 c65 cN]; exact f7⟩
      rw [c1 c cN] at k9
      rw [r6 c kc] at hd
      have hdd := ck_d kc k9 hd
      rw [uh d q hdd.2 (isD_lt hdd.1).1, w (50 + 4 * j + q) (by omega) (by omega) (by omega) (by omega) (by omega) (by omega) (by omega)]
      exact f6 k9 d hd q hq
  · rcases old a j c ha hj h with ⟨e1, e2, e3⟩ | ⟨n1, g1, k1⟩
    · rcases old a' j' c ha' hj' h' with ⟨e1', e2', -⟩ | ⟨-, -, k1'⟩
      · exact ⟨e1.trans e1'.symm, e2.trans e2'.symm⟩
      · have := isC_r k1'.1; omega
    · rcases old a' j' c ha' hj' h' with ⟨-, -, e3'⟩ | ⟨-, g1', -⟩
      · have := isC_r k1.1; omega
      · exact ij.1 a j a' j' c ha ha' hj hj' g1 g1'
  · rcases old a j c ha hj h with ⟨e1, e2, e3⟩ | ⟨n1, g1, k1⟩
    · rcases old a' j' c' ha' hj' h' with ⟨e1', e2', e3'⟩ | ⟨-, -, k1'⟩
      · exact e3.trans e3'.symm
      · exfalso
        rw [e3] at k hd
        obtain ⟨d0, z1, z2, -⟩ := c11 (c6.symm.trans k)
        have ed : d = d0 := by rw [hd] at z2; cases z2; rfl
        rw [c1 c' (isC_r k1'.1)] at k'
        rw [r6 c' k1'] at hd'
        have := (isD_lt (ck_d k1' k' hd').1).1
        omega
    · rcases old a' j' c' ha' hj' h' with ⟨e1', e2', e3'⟩ | ⟨-, g1', k1'⟩
      · exfalso
        rw [e3'] at k' hd'
        obtain ⟨d0, z1, z2, -⟩ := c11 (c6.symm.trans k')
        have ed : d = d0 := by rw [hd'] at z2; cases z2; rfl
        rw [c1 c (isC_r k1.1)] at k
        rw [r6 c k1] at hd
        have := (isD_lt (ck_d k1 k hd).1).1
        omega
      · rw [c1 c (isC_r k1.1)] at k
        rw [c1 c' (isC_r k1'.1)] at k'
        rw [r6 c k1] at hd
        rw [r6 c' k1'] at hd'
        exact ij.2 a j a' j' c c' d ha ha' hj hj' g1 g1' k k' hd hd'
  · rw [u 0 2 (by decide) (by decide), w4]; exact fl
  · rw [w4] at nf
    obtain ⟨⟨y1, y2, y3, y4⟩, z⟩ := kp nf
    refine ⟨⟨?_, ?_, ?_, ?_⟩, cu_eq hQ.1 (fun j c => hQ.2.2.2.1 j c) z (u 14 1 (by decide) (by decide)) (fun k _ _ => w6 k) (fun r k a b _ => uh r k a b) (fun j _ => by rw [c4 15 (by omega) (by decide)]) (fun c a b => by rw [c4 c b (by omega)]) c1⟩
    · rw [u 14 1 (by decide) (by decide), w6]; exact y1
    · rw [u 14 10 (by decide) (by decide), w6]; exact y2
    · rw [u 14 13 (by decide) (by decide), w6]; exact y3
    · rw [u 16 0 (by decide) (by decide), w6]; exact y4
theorem cutter_ra {N N1 : Nat} {K len K1 L1 : Nat → Nat} {ρ ρ1 : RG} {a1 a2 a3 a4 a5 b1 b2 b3 b4 b5 r3 r6 : Int32} {σ σ3 σ6 : SG} (r0 : rg (σ 1 1) 0 6) (hQ : PR N K len ρ) (R : RA K σ ρ)
    (h3 : (¬ OKC a1 a2 a3 a4 a5 (σ 1 1) ∧ (r3, N1, K1, L1, σ3, ρ1) = (cuE a1 a2 a3 a4 a5, N, K, len, σ, ρ)) ∨ (OKC a1 a2 a3 a4 a5 (σ 1 1) ∧ r3 = σ 1 1 ∧ ∀ n : Nat, (σ 1 1).toInt = (n : Int) → NEWC a1 a2 a3 a4 a5 n N K len σ ρ (N1, K1, L1, σ3, ρ1)))
    (h6 : (¬ OKC b1 b2 b3 b4 b5 (σ3 55 11) ∧ (r6, σ6) = (cuE b1 b2 b3 b4 b5, σ3)) ∨ (OKC b1 b2 b3 b4 b5 (σ3 55 11) ∧ r6 = σ3 55 11 ∧ ∀ n : Nat, (σ3 55 11).toInt = (n : Int) → n < 6 ∧ σ6 55 11 = σ3 55 11 + 1 ∧ σ6 55 (20 + n) = b1 ∧ σ6 55 (26 + n) = b2 ∧ σ6 55 (32 + n) = b3 ∧ σ6 55 (38 + n) = b4 ∧ σ6 55 (44 + n) = b5 ∧ (∀ k, k < 4 → σ6 55 (50 + 4 * n + k) = 4) ∧ ∀ k, 11 < k → k ≠ 20 + n → k ≠ 26 + n → k ≠ 32 + n → k ≠ 38 + n → k ≠ 44 + n → (k < 50 + 4 * n ∨ 50 + 4 * n + 4 ≤ k) → σ6 55 k = σ3 55 k))
    (hr : KR σ3 σ6) (e1 : b1 = a1) (e2 : b2 = a2) (e3 : b3 = a3) (e4 : b4 = a4) (e5 : b5 = a5) : r3 = r6 ∧ RA K1 σ6 ρ1 := by
  subst e1 e2 e3 e4 e5
  have w : σ 1 1 = σ 55 11 := R.1.1
  rcases h3 with ⟨n, q⟩ | ⟨y, q, h⟩
  · cases q
    rw [← w] at h6
    rcases h6 with ⟨-, q'⟩ | ⟨y', -⟩
    · cases q'; exact ⟨rfl, R⟩
    · exact absurd y' n
  · obtain ⟨n, hn⟩ : ∃ n : Nat, (σ 1 1).toInt = (n : Int) := ⟨(σ 1 1).toInt.toNat, by have := r0.1; omega⟩
    have hN := h n hn
    have n65 := hQ.1.1
    have u : σ3 55 11 = σ 1 1 := (hN.2.1 55 11 (by omega) (by decide)).trans w.symm
    rw [u] at h6
    rcases h6 with ⟨n', q'⟩ | ⟨y', q', h'⟩
    · exact absurd y n'
    · have h'' := h' n hn
      rw [← u] at h''
      have z0 : (0 : Int32).toInt = 0 := rfl
      have z6 : (6 : Int32).toInt = 6 := rfl
      have g0 := Int32.le_iff_toInt_le.mp y.1.1
      have g1 := Int32.le_iff_toInt_le.mp y.1.2
      exact ⟨q.trans q'.symm, cutter_new hQ R hn h''.1 ⟨by omega, by omega⟩ hN hr h''.2⟩
