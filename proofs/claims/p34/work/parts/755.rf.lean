/-! PART 755.rf: by hand: cutter, side by side -/
theorem kp_and {α : Type} {o : Option α} {P Q : α → Prop} (h : kp o P) (h' : kp o Q) : kp o (fun q => P q ∧ Q q) := fun a e => ⟨h a e, h' a e⟩
def OKC (a1 a2 a3 a4 a5 c : Int32) : Prop := ((0 : Int32) ≤ a1 ∧ a1 ≤ (6 : Int32)) ∧ ((0 : Int32) ≤ a2 ∧ a2 ≤ (9 : Int32)) ∧ ((-9 : Int32) ≤ a3 ∧ a3 ≤ (9 : Int32)) ∧ ((-9 : Int32) ≤ a4 ∧ a4 ≤ (9 : Int32)) ∧ ((1 : Int32) ≤ a5 ∧ a5 ≤ (40 : Int32)) ∧ c < (6 : Int32)
def cuE (a1 a2 a3 a4 a5 : Int32) : Int32 := if (0 : Int32) ≤ a1 ∧ a1 ≤ (6 : Int32) then (if ((0 : Int32) ≤ a2 ∧ a2 ≤ (9 : Int32)) ∧ ((-9 : Int32) ≤ a3 ∧ a3 ≤ (9 : Int32)) ∧ ((-9 : Int32) ≤ a4 ∧ a4 ≤ (9 : Int32)) ∧ ((1 : Int32) ≤ a5 ∧ a5 ≤ (40 : Int32)) then -4 else -2) else -1
/-- the class's world behind a cutter that was taken -/
def NEWC (a1 a2 a3 a4 a5 : Int32) (n N : Nat) (K len : Nat → Nat) (σ : SG) (ρ : RG) (q : TT) : Prop := (∀ r, r < N → q.2.1 r = K r) ∧ (∀ r k, r < N → ¬ (r = 1 ∧ k = 1) → q.2.2.2.1 r k = σ r k) ∧ q.2.2.2.1 1 1 = σ 1 1 + 1 ∧ (∀ r, r < N → r ≠ 2 → q.2.2.2.2 r = ρ r) ∧ (∀ j, q.2.2.2.2 2 j = if j = n then some N else ρ 2 j) ∧ q.2.1 N = kof a1 ∧ q.2.2.2.1 N 0 = σ 1 1 ∧ q.2.2.2.1 N 1 = a2 ∧ q.2.2.2.1 N 2 = a3 ∧ q.2.2.2.1 N 3 = a4 ∧ q.2.2.2.1 N 4 = a5 ∧ (kof a1 = 9 → ∃ d, N < d ∧ q.2.2.2.2 N 6 = some d ∧ ∀ k, k < 4 → q.2.2.2.1 d k = 4)
theorem cutter_11r {N : Nat} {K len : Nat → Nat} {a1 a2 a3 a4 a5 : Int32} {σ : SG} {ρ : RG} (r0 : rg (σ 1 1) 0 6) (hQ : PR N K len ρ) : kp (F_X11_cutter a1 a2 a3 a4 a5 N K len σ ρ) (fun q => (¬ OKC a1 a2 a3 a4 a5 (σ 1 1) ∧ q = (cuE a1 a2 a3 a4 a5, N, K, len, σ, ρ)) ∨ (OKC a1 a2 a3 a4 a5 (σ 1 1) ∧ q.1 = σ 1 1 ∧ ∀ n : Nat, (σ 1 1).toInt = (n : Int) → NEWC a1 a2 a3 a4 a5 n N K len σ ρ q.2)) := by
  have n65 := hQ.1.1
  unfold F_X11_cutter
  refine kp_bn (kp_ok wi_0) (fun r1 h1 => ?_)
  by_cases c1 : r1 = 0
  · have n : ¬ ((0 : Int32) ≤ a1 ∧ a1 ≤ (6 : Int32)) := fun q => h1.2.mpr q c1
    rw [if_pos c1]; exact kp_some (Or.inl ⟨fun q => n q.1, by unfold cuE; rw [if_neg n]⟩)
  have y1 := h1.2.mp c1
  rw [if_neg c1]
  have bad : ∀ {P : Prop}, ¬ (((0 : Int32) ≤ a2 ∧ a2 ≤ (9 : Int32)) ∧ ((-9 : Int32) ≤ a3 ∧ a3 ≤ (9 : Int32)) ∧ ((-9 : Int32) ≤ a4 ∧ a4 ≤ (9 : Int32)) ∧ ((1 : Int32) ≤ a5 ∧ a5 ≤ (40 : Int32))) → ((¬ OKC a1 a2 a3 a4 a5 (σ 1 1) ∧ (((-2 : Int32), N, K, len, σ, ρ) : Int32 × TT) = (cuE a1 a2 a3 a4 a5, N, K, len, σ, ρ)) ∨ P) := fun n => Or.inl ⟨fun q => n ⟨q.2.1, q.2.2.1, q.2.2.2.1, q.2.2.2.2.1⟩, by unfold cuE; rw [if_pos y1, if_neg n]⟩
  refine kp_bn (kp_ok wi_0) (fun r3 h3 => ?_)
  by_cases c3 : r3 = 0
  · rw [if_pos c3]; exact kp_some (bad (fun q => h3.2.mpr q.1 c3))
  rw [if_neg c3]
  refine kp_bn (kp_ok wi_0) (fun r5 h5 => ?_)
  by_cases c5 : r5 = 0
  · rw [if_pos c5]; exact kp_some (bad (fun q => h5.2.mpr q.2.1 c5))
  rw [if_neg c5]
  refine kp_bn (kp_ok wi_0) (fun r7 h7 => ?_)
  by_cases c7 : r7 = 0
  · rw [if_pos c7]; exact kp_some (bad (fun q => h7.2.mpr q.2.2.1 c7))
  rw [if_neg c7]
  refine kp_bn (kp_ok th_0) (fun r9 h9 => ?_)
  by_cases c9 : r9 = 0
  · rw [if_pos c9]; exact kp_some (bad (fun q => h9.mpr q.2.2.2 c9))
  rw [if_neg c9]
  by_cases d : σ 1 1 < (6 : Int32)
  · rw [if_pos d]
    refine kp_bnT (kp_and (kp_ok (s_X11_newCutter hQ)) (mv_newCutter hQ)) (fun c12 N12 K12 L12 σ12 ρ12 h => kp_gd (fun g => kp_nm (fun ρ14 e14 => kp_nm (fun x hx => kp_nm (fun σ17 e17 => kp_some (Or.inr ⟨⟨y1, h3.2.mp c3, h5.2.mp c5, h7.2.mp c7, h9.mp c9, d⟩, rfl, fun n hn => ?_⟩))))))
    obtain ⟨⟨p1, p2, p3, p4⟩, m1, m2, m3, m4⟩ := h
    have p1' : ∀ r, r < N → σ12 r = σ r := p1
    have p4' : GR N K len ρ N12 K12 L12 ρ12 := p4
    have m1' : c12 = N := m1
    have m2' : K12 N = kof a1 := m2
    have m3' : IV N (σ 1 1) a2 a3 a4 a5 σ12 := m3
    have m4' : kof a1 = 9 → ∃ d, N < d ∧ ρ12 N 6 = some d ∧ ∀ k, k < 4 → σ12 d k = 4 := m4
    have en : (σ 1 1).toNatClampNeg = n := by show (σ 1 1).toInt.toNat = n; omega
    rw [en, m1'] at e14
    have s17 : ∀ r k, ¬ (r = 1 ∧ k = 1) → σ17 r k = σ12 r k := fun r k q => by
      rw [e17, s2_at]
      by_cases e : r = 1
      · rw [if_pos e, if_neg (by omega), e]
      · rw [if_neg e]
    show NEWC a1 a2 a3 a4 a5 n N K len σ ρ (N12, K12, L12, σ17, ρ14)
    refine ⟨fun r hr => (p4'.2 r hr).1, fun r k hr q => ?_, ?_, fun r hr n2 => ?_, fun j => ?_, m2', ?_, ?_, ?_, ?_, ?_, fun k9 => ?_⟩
    · show σ17 r k = σ r k
      rw [s17 r k q, p1' r hr]
    · show σ17 1 1 = _
      rw [s2_v e17, hx, p1' 1 (by omega)]
    · show ρ14 r = ρ r
      rw [e14, r2_ne r n2, (p4'.2 r hr).2.2]
    · show ρ14 2 j = _
      rw [e14, r2_at, if_pos rfl, (p4'.2 2 (by omega)).2.2]
    · show σ17 N 0 = σ 1 1
      rw [s17 N 0 (by omega)]; exact m3'.1
    · show σ17 N 1 = a2
      rw [s17 N 1 (by omega)]; exact m3'.2.1
    · show σ17 N 2 = a3
      rw [s17 N 2 (by omega)]; exact m3'.2.2.1
    · show σ17 N 3 = a4
      rw [s17 N 3 (by omega)]; exact m3'.2.2.2.1
    · show σ17 N 4 = a5
      rw [s17 N 4 (by omega)]; exact m3'.2.2.2.2
    · obtain ⟨d', z1, z2, z3⟩ := m4' k9
      refine ⟨d', z1, ?_, fun k hk => ?_⟩
      · show ρ14 N 6 = _
        rw [e14, r2_ne N (by omega)]; exact z2
      · show σ17 d' k = 4
        rw [s17 d' k (by omega)]; exact z3 k hk
  · rw [if_neg d]
    exact kp_some (Or.inl ⟨fun q => d q.2.2.2.2.2, by unfold cuE; rw [if_pos y1, if_pos ⟨h3.2.mp c3, h5.2.mp c5, h7.2.mp c7, h9.mp c9⟩]⟩)
theorem cutter_153r {a1 a2 a3 a4 a5 v6 : Int32} {ρ : RG} {n0 : Nat} (e6 : v6.toInt = (n0 : Int)) (n6 : n0 < 6) : ∀ (n : Nat) (σ : SG) (v7 : Int32), rg v7 0 4 → kp (F_X12_cutter_153 a1 a2 a3 a4 a5 n σ ρ v6 v7) (fun q => q.1 = v6 ∧ q.2 55 11 = σ 55 11 + 1 ∧ (∀ k : Nat, k < 4 → (v7.toInt ≤ k ∨ σ 55 (50 + 4 * n0 + k) = 4) → q.2 55 (50 + 4 * n0 + k) = 4) ∧ ∀ k : Nat, k ≠ 11 → (k < 50 + 4 * n0 ∨ 50 + 4 * n0 + 4 ≤ k) → q.2 55 k = σ 55 k) := by
  intro n
  induction n with
  | zero => intro σ v7 _; exact kp_none
  | succ n ih =>
    intro σ v7 r7
    unfold F_X12_cutter_153
    have e4 : (4 : Int32).toInt = 4 := rfl
    have e50 : (50 : Int32).toInt = 50 := rfl
    by_cases c : (4 : Int32) ≤ v7
    · rw [if_pos c]
      have l := Int32.le_iff_toInt_le.mp c
      refine kp_nm (fun x h => kp_nm (fun σ39 e => kp_some ⟨rfl, ?_, fun k hk q => ?_, fun k h11 q => ?_⟩))
      · show σ39 55 11 = _
        rw [s2_v e, h]
      · show σ39 55 _ = 4
        rw [s2_k e (by omega)]
        rcases q with q | q
        · omega
        · exact q
      · show σ39 55 k = _
        rw [s2_k e h11]
    · rw [if_neg c]
      have r7' : rg v7 0 3 := rg_lt (nle c) r7 (show rg (4 : Int32) 4 4 from ⟨by decide, by decide⟩)
      obtain ⟨u0, u1⟩ := r7'
      have i7 := rg_cl (show rg v7 0 3 from ⟨u0, u1⟩) (by decide)
      refine kp_nm (fun x40 h40 => kp_nm (fun x41 h41 => kp_nm (fun x42 h42 => kp_gd (fun _ => kp_nm (fun σ45 h45 => kp_nm (fun x46 h46 => ?_))))))
      have q40 : x40.toInt = 4 * v6.toInt := by rw [h40, Int32.toInt_mul, e4, bmod_id (by omega) (by omega)]
      have q41 : x41.toInt = 50 + 4 * v6.toInt := by rw [h41, ti_add (by omega) (by omega), e50, q40]
      have q42 : x42.toInt = 50 + 4 * v6.toInt + v7.toInt := by rw [h42, ti_add (by omega) (by omega), q41]
      have i42 : x42.toNatClampNeg = 50 + 4 * n0 + v7.toNatClampNeg := by show x42.toInt.toNat = _; omega
      have e1 : (1 : Int32).toInt = 1 := rfl
      have q46 : x46.toInt = v7.toInt + 1 := by rw [h46, ti_add (by omega) (by omega), e1]
      rw [i42] at h45
      refine kp_mono (ih σ45 x46 ⟨by omega, by omega⟩) (fun q z => ?_)
      obtain ⟨z1, z2, z3, z4⟩ := z
      refine ⟨z1, by rw [z2, s2_k h45 (by omega)], fun k hk y => z3 k hk ?_, fun k h11 y => by rw [z4 k h11 y, s2_k h45 (by omega)]⟩
      by_cases w : k = v7.toNatClampNeg
      · rw [w]; exact Or.inr (s2_v h45)
      · rcases y with y | y
        · exact Or.inl (by omega)
        · exact Or.inr (by rw [s2_k h45 (by omega)]; exact y)
theorem cutter_12r {a1 a2 a3 a4 a5 : Int32} {σ : SG} {ρ : RG} (r0 : rg (σ 55 11) 0 6) : kp (F_X12_cutter a1 a2 a3 a4 a5 σ ρ) (fun q => (¬ OKC a1 a2 a3 a4 a5 (σ 55 11) ∧ q = (cuE a1 a2 a3 a4 a5, σ)) ∨ (OKC a1 a2 a3 a4 a5 (σ 55 11) ∧ q.1 = σ 55 11 ∧ ∀ n : Nat, (σ 55 11).toInt = (n : Int) → n < 6 ∧ q.2 55 11 = σ 55 11 + 1 ∧ q.2 55 (20 + n) = a1 ∧ q.2 55 (26 + n) = a2 ∧ q.2 55 (32 + n) = a3 ∧ q.2 55 (38 + n) = a4 ∧ q.2 55 (44 + n) = a5 ∧ (∀ k, k < 4 → q.2 55 (50 + 4 * n + k) = 4) ∧ ∀ k, 11 < k → k ≠ 20 + n → k ≠ 26 + n → k ≠ 32 + n → k ≠ 38 + n → k ≠ 44 + n → (k < 50 + 4 * n ∨ 50 + 4 * n + 4 ≤ k) → q.2 55 k = σ 55 k)) := by
  unfold F_X12_cutter
  refine kp_bn (kp_ok in_0) (fun r1 h1 => ?_)
  by_cases c1 : r1 = 0
  · have n : ¬ ((0 : Int32) ≤ a1 ∧ a1 ≤ (6 : Int32)) := fun q => h1.2.mpr q c1
    rw [if_pos c1]; exact kp_some (Or.inl ⟨fun q => n q.1, by unfold cuE; rw [if_neg n]⟩)
  have y1 := h1.2.mp c1
  rw [if_neg c1]
  have bad : ∀ {P : Prop}, ¬ (((0 : Int32) ≤ a2 ∧ a2 ≤ (9 : Int32)) ∧ ((-9 : Int32) ≤ a3 ∧ a3 ≤ (9 : Int32)) ∧ ((-9 : Int32) ≤ a4 ∧ a4 ≤ (9 : Int32)) ∧ ((1 : Int32) ≤ a5 ∧ a5 ≤ (40 : Int32))) → ((¬ OKC a1 a2 a3 a4 a5 (σ 55 11) ∧ (((-2 : Int32), σ) : Int32 × SG) = (cuE a1 a2 a3 a4 a5, σ)) ∨ P) := fun n => Or.inl ⟨fun q => n ⟨q.2.1, q.2.2.1, q.2.2.2.1, q.2.2.2.2.1⟩, by unfold cuE; rw [if_pos y1, if_neg n]⟩
  refine kp_bn (kp_ok in_0) (fun r3 h3 => ?_)
  by_cases c3 : r3 = 0
  · rw [if_pos c3]; exact kp_some (bad (fun q => h3.2.mpr q.1 c3))
  rw [if_neg c3]
  refine kp_bn (kp_ok in_0) (fun r5 h5 => ?_)
  by_cases c5 : r5 = 0
  · rw [if_pos c5]; exact kp_some (bad (fun q => h5.2.mpr q.2.1 c5))
  rw [if_neg c5]
  refine kp_bn (kp_ok in_0) (fun r7 h7 => ?_)
  by_cases c7 : r7 = 0
  · rw [if_pos c7]; exact kp_some (bad (fun q => h7.2.mpr q.2.2.1 c7))
  rw [if_neg c7]
  refine kp_bn (kp_ok in_0) (fun r9 h9 => ?_)
  by_cases c9 : r9 = 0
  · rw [if_pos c9]; exact kp_some (bad (fun q => h9.2.mpr q.2.2.2 c9))
  rw [if_neg c9]
  by_cases d : σ 55 11 = (6 : Int32)
  · rw [if_pos d]
    exact kp_some (Or.inl ⟨fun q => absurd q.2.2.2.2.2 (by rw [d]; decide), by unfold cuE; rw [if_pos y1, if_pos ⟨h3.2.mp c3, h5.2.mp c5, h7.2.mp c7, h9.2.mp c9⟩]⟩)
  rw [if_neg d]
  have r5 : rg (σ 55 11) 0 5 := rg_neh d r0 (show rg (6 : Int32) 6 6 from ⟨by decide, by decide⟩) rfl
  have nd : σ 55 11 < (6 : Int32) := Int32.lt_iff_toInt_lt.mpr (by have := r5.2; have e4 : (6 : Int32).toInt = 6 := rfl; omega)
  obtain ⟨n, hn⟩ : ∃ n : Nat, (σ 55 11).toInt = (n : Int) := ⟨(σ 55 11).toInt.toNat, by have := r5.1; omega⟩
  have n6 : n < 6 := by have := r5.2; omega
  have ix : ∀ (b : Int32) (x : Int32) (B : Nat), b.toInt = (B : Int) → B < 100 → x = b + σ 55 11 → x.toNatClampNeg = B + n := fun b x B hb hB hx => by
    have : x.toInt = (B : Int) + n := by rw [hx, ti_add (by omega) (by omega), hb, hn]
    show x.toInt.toNat = _
    omega
  refine kp_nm (fun x12 h12 => kp_gd (fun _ => kp_nm (fun σ15 h15 => kp_nm (fun x16 h16 => kp_gd (fun _ => kp_nm (fun σ19 h19 => kp_nm (fun x20 h20 => kp_gd (fun _ => kp_nm (fun σ23 h23 => kp_nm (fun x24 h24 => kp_gd (fun _ => kp_nm (fun σ27 h27 => kp_nm (fun x28 h28 => kp_gd (fun _ => kp_nm (fun σ31 h31 => kp_nm (fun x32 h32 => kp_gd (fun _ => kp_nm (fun σ35 h35 => ?_))))))))))))))))))
  rw [ix 20 x12 20 rfl (by decide) h12] at h15
  rw [ix 26 x16 26 rfl (by decide) h16] at h19
  rw [ix 32 x20 32 rfl (by decide) h20] at h23
  rw [ix 38 x24 38 rfl (by decide) h24] at h27
  rw [ix 44 x28 44 rfl (by decide) h28] at h31
  rw [ix 5 x32 5 rfl (by decide) h32] at h35
  refine kp_mono (cutter_153r hn n6 1024 σ35 0 ⟨by decide, by decide⟩) (fun q z => Or.inr ⟨⟨y1, h3.2.mp c3, h5.2.mp c5, h7.2.mp c7, h9.2.mp c9, nd⟩, z.1, fun n' hn' => ?_⟩)
  have en : n' = n := by omega
  subst en
  obtain ⟨z1, z2, z3, z4⟩ := z
  refine ⟨n6, ?_, ?_, ?_, ?_, ?_, ?_, fun k hk => z3 k hk (Or.inl (by have : (0 : Int32).toInt = 0 := rfl; omega)), fun k g1 g2 g3 g4 g5 g6 g7 => ?_⟩
  · rw [z2, s2_k h35 (by omega), s2_k h31 (by omega), s2_k h27 (by omega), s2_k h23 (by omega), s2_k h19 (by omega), s2_k h15 (by omega)]
  · rw [z4 _ (by omega) (by omega), s2_k h35 (by omega), s2_k h31 (by omega), s2_k h27 (by omega), s2_k h23 (by omega), s2_k h19 (by omega), s2_v h15]
  · rw [z4 _ (by omega) (by omega), s2_k h35 (by omega), s2_k h31 (by omega), s2_k h27 (by omega), s2_k h23 (by omega), s2_v h19]
  · rw [z4 _ (by omega) (by omega), s2_k h35 (by omega), s2_k h31 (by omega), s2_k h27 (by omega), s2_v h23]
  · rw [z4 _ (by omega) (by omega), s2_k h35 (by omega), s2_k h31 (by omega), s2_v h27]
  · rw [z4 _ (by omega) (by omega), s2_k h35 (by omega), s2_v h31]
  · rw [z4 k (by omega) g7, s2_k h35 (by omega), s2_k h31 (by omega), s2_k h27 (by omega), s2_k h23 (by omega), s2_k h19 (by omega), s2_k h15 (by omega)]
