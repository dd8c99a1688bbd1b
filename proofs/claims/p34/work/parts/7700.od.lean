/-! PART 7700.od: by hand: Euclid once more; odds, side by side -/
theorem euo_same {a1 a2 a1' a2' : Int64} {a3 a3' : Int32} {σ τ : SG} {ρ ρ' : RG} {v0 v2 : Int64} {v4 : Int32} : ∀ (n : Nat) (v5 v7 : Int64) (v9 : Int32), 0 ≤ v5.toInt → 0 ≤ v7.toInt → 0 ≤ v9.toInt → v9.toInt + v7.toInt ≤ 127 → (v7 = 0 → ¬ v5 = 0) → kp (F_X11_partOf_9 a1 a2 a3 n σ ρ v0 v2 v4 v5 v7 v9) (fun q => ∀ m : Nat, kp (F_X12_lowest_6 a1' a2' a3' m τ ρ' v0 v2 v4 v5 v7) (fun q' => q = q')) := by
  have e128 : (128 : Int32).toInt = 128 := rfl
  intro n
  induction n with
  | zero => intro v5 v7 v9 _ _ _ _ _; exact kp_none
  | succ n ih =>
    intro v5 v7 v9 h5 h7 h9 hs h0
    unfold F_X11_partOf_9
    refine kp_f (fun z => by have := le_i z; omega) (kp_nm (fun x10 g10 => kp_ih (fun z => ?_) (fun z => kp_gd (fun _ => kp_nm (fun x13 g13 => kp_nm (fun x14 g14 => ?_))))))
    · have e7 : v7 = 0 := cmp0 g10 z
      have n5 := h0 e7
      have ref : ∀ (m : Nat) (q : Int64), q = (if v4 = 0 then v0 / v5 else v2 / v5) → kp (F_X12_lowest_6 a1' a2' a3' m τ ρ' v0 v2 v4 v5 v7) (fun q' => q = q') := fun m q hq => by
        cases m with
        | zero => exact kp_none
        | succ m =>
          unfold F_X12_lowest_6
          refine kp_nm (fun x1 g1 => kp_t (by rw [g1, e7]; rfl) (kp_ih (fun y => kp_gd (fun _ => kp_nm (fun x7 g7 => kp_some ?_))) (fun y => kp_gd (fun _ => kp_nm (fun x5 g5 => kp_some ?_)))))
          · rw [hq, if_pos y, g7]
          · rw [hq, if_neg y, g5]
      unfold F_X11_partOf_45
      refine kp_nm (fun x2 g2 => kp_f (fun y => n5 (cmp0 g2 y)) (kp_ih (fun y => kp_gd (fun _ => kp_nm (fun x8 g8 => kp_some (fun m => ref m _ (by rw [if_pos y, g8]))))) (fun y => kp_gd (fun _ => kp_nm (fun x6 g6 => kp_some (fun m => ref m _ (by rw [if_neg y, g6])))))))
    · have n7 : ¬ v7 = 0 := lcmp_ne g10 z
      have i7 : v7.toInt ≠ 0 := fun y => n7 (i64 (by rw [y]; rfl))
      have e13 : x13.toInt = v5.toInt % v7.toInt := by rw [g13, ti64_rem i7, Int.tmod_eq_emod_of_nonneg h5]
      have b1 := Int.emod_nonneg v5.toInt i7
      have b2 := Int.emod_lt_of_pos v5.toInt (show 0 < v7.toInt by omega)
      have e14 : x14.toInt = v9.toInt + 1 := by rw [g14, ti_add (by rw [ti_1]; omega) (by rw [ti_1]; omega), ti_1]
      refine kp_mono (ih v7 x13 x14 h7 (by omega) (by omega) (by omega) (fun _ => n7)) (fun q hq m => ?_)
      cases m with
      | zero => exact kp_none
      | succ m =>
        unfold F_X12_lowest_6
        refine kp_nm (fun x1 g1 => kp_f (fun y => n7 (cmp0 g1 y)) (kp_gd (fun _ => kp_nm (fun x9 g9 => ?_))))
        have e : x9 = x13 := by rw [g9, g13]
        rw [e]; exact hq m
theorem euo9 {a1 a2 : Int64} {a3 : Int32} {σ τ : SG} {ρ ρ' : RG} (h1 : 0 ≤ a1.toInt) (h2 : 1 ≤ a2.toInt) (h2' : a2.toInt ≤ 216) (h12 : a1.toInt ≤ a2.toInt) : ∀ n m : Nat, kp (F_X11_partOf_9 a1 a2 a3 n σ ρ a1 a2 a3 a2 a1 0) (fun q => kp (F_X12_lowest_6 a1 a2 a3 m τ ρ' a1 a2 a3 a1 a2) (fun q' => q = q')) := by
  have z64 : (0 : Int64).toInt = 0 := rfl
  have n2 : ¬ a2 = 0 := fun z => by rw [z, z64] at h2; omega
  have i2 : a2.toInt ≠ 0 := by omega
  intro n m
  cases m with
  | zero => exact fun _ _ => kp_none
  | succ m =>
    by_cases z : a1 = 0
    · -- nothing was eaten: both divide by the count
      refine kp_mono (euo_same (a1' := a1) (a2' := a2) (a3' := a3) (τ := τ) (ρ' := ρ') n a2 a1 0 (by omega) h1 (by decide) (by rw [z, z64]; decide) (fun _ => n2)) (fun q hq => ?_)
      unfold F_X12_lowest_6
      refine kp_nm (fun x1 g1 => kp_f (fun y => n2 (cmp0 g1 y)) (kp_gd (fun _ => kp_nm (fun x9 g9 => ?_))))
      have e9 : x9 = a1 := i64 (by rw [g9, ti64_rem i2, z, z64]; exact Int.zero_tmod _)
      rw [e9]; exact hq m
    have i1 : a1.toInt ≠ 0 := fun y => z (i64 (by rw [y]; rfl))
    cases n with
    | zero => exact kp_none
    | succ n =>
      unfold F_X11_partOf_9
      refine kp_f (by decide) (kp_nm (fun x10 g10 => kp_f (fun y => z (cmp0 g10 y)) (kp_gd (fun _ => kp_nm (fun x13 g13 => kp_nm (fun x14 g14 => ?_))))))
      have e13 : x13.toInt = a2.toInt % a1.toInt := by rw [g13, ti64_rem i1, Int.tmod_eq_emod_of_nonneg (by omega)]
      have b1 := Int.emod_nonneg a2.toInt i1
      have b2 := Int.emod_lt_of_pos a2.toInt (show 0 < a1.toInt by omega)
      have b3 : a2.toInt % a1.toInt ≤ a2.toInt - a1.toInt := by
        have e : a2.toInt % a1.toInt = (a2.toInt - a1.toInt) % a1.toInt := by
          have w : (a2.toInt - a1.toInt + a1.toInt) % a1.toInt = (a2.toInt - a1.toInt) % a1.toInt := by
            first | exact Int.add_emod_right _ _ | exact Int.add_emod_self | simp
          rw [← w]; congr 1; omega
        rw [e]
        rcases (show a2.toInt - a1.toInt < a1.toInt ∨ a1.toInt ≤ a2.toInt - a1.toInt by omega) with l | l
        · rw [Int.emod_eq_of_lt (by omega) l]; exact Int.le_refl _
        · have := Int.emod_lt_of_pos (a2.toInt - a1.toInt) (show 0 < a1.toInt by omega)
          omega
      have e14 : x14 = 1 := by rw [g14]; decide
      have e14i : x14.toInt = 1 := by rw [e14]; rfl
      refine kp_mono (euo_same (a1' := a1) (a2' := a2) (a3' := a3) (τ := τ) (ρ' := ρ') n a1 x13 x14 h1 (by omega) (by omega) (by omega) (fun _ => z)) (fun q hq => ?_)
      rcases Int.lt_trichotomy a1.toInt a2.toInt with lt | eq | gt
      · -- one more step of the reference leads where the class began
        unfold F_X12_lowest_6
        refine kp_nm (fun x1 g1 => kp_f (fun y => n2 (cmp0 g1 y)) (kp_gd (fun _ => kp_nm (fun x9 g9 => ?_))))
        have e9 : x9 = a1 := i64 (by rw [g9, ti64_rem i2, Int.tmod_eq_emod_of_nonneg h1]; exact Int.emod_eq_of_lt h1 lt)
        rw [e9]
        cases m with
        | zero => exact kp_none
        | succ m =>
          unfold F_X12_lowest_6
          refine kp_nm (fun x1' g1' => kp_f (fun y => z (cmp0 g1' y)) (kp_gd (fun _ => kp_nm (fun y9 k9 => ?_))))
          have e : y9 = x13 := by rw [k9, g13]
          rw [e]; exact hq m
      · have ea : a1 = a2 := i64 eq
        unfold F_X12_lowest_6
        refine kp_nm (fun x1 g1 => kp_f (fun y => n2 (cmp0 g1 y)) (kp_gd (fun _ => kp_nm (fun x9 g9 => ?_))))
        have e9 : x9 = x13 := i64 (by rw [g9, ti64_rem i2, Int.tmod_eq_emod_of_nonneg h1, e13, eq])
        rw [e9]
        have w := hq m
        rw [ea] at w ⊢; exact w
      · omega
theorem euo {a1 a2 : Int64} {a3 : Int32} {σ τ : SG} {ρ ρ' : RG} (h1 : 0 ≤ a1.toInt) (h2 : 1 ≤ a2.toInt) (h2' : a2.toInt ≤ 216) (h12 : a1.toInt ≤ a2.toInt) : kp (F_X11_partOf a1 a2 a3 σ ρ) (fun q => kp (F_X12_lowest a1 a2 a3 τ ρ') (fun q' => q = q')) := by
  unfold F_X11_partOf F_X12_lowest
  exact euo9 h1 h2 h2' h12 _ _
theorem m64 {x y : Int64} {a b : Nat} (hx : x.toInt = (a : Int)) (hy : y.toInt = (b : Int)) (h : a * b ≤ 1000) : (x * y).toInt = ((a * b : Nat) : Int) := by
  obtain ⟨p, hp⟩ : ∃ p : Nat, a * b = p := ⟨_, rfl⟩
  rw [hp] at h
  rw [Int64.toInt_mul, hx, hy, ← Int.natCast_mul, hp]
  exact Int.bmod_eq_of_le (by omega) (by omega)
theorem good_R {N : Nat} {K len : Nat → Nat} {σ : SG} {ρ : RG} (b : BS N K len σ ρ) {C A : Nat} {aN : Int32} (hC : (σ 1 1).toInt = (C : Int)) (hA : aN.toInt = (A : Int)) (hA3 : A ≤ 3) : ∀ (f d : Nat) (a1 : Int32) (s : SG), a1.toInt = (d : Int) → d ≤ A → KD σ s → kp (F_X11_goodRows_R N K len f a1 aN s ρ) (fun q => KD σ q.2 ∧ (∀ r k, 40 ≤ r → r ≤ 41 + 2 * d → q.2 r k = s r k) ∧ (0 ≤ q.1.toInt ∧ q.1.toInt ≤ ((C ^ (A - d) : Nat) : Int)) ∧ ∀ (e : Nat) (τ : SG) (ρ' : RG), GW d σ s τ → kp (F_X12_goodRows_R e a1 aN τ ρ') (fun q' => q.1 = q'.1 ∧ ET 0 σ q'.2 ∧ RK d τ q'.2)) := by
  have t11 : σ 1 1 = σ 55 11 := b.2.1.1.1
  obtain ⟨c0, c6⟩ := b.2.2.2.2
  have C6 : C ≤ 6 := by omega
  have z64 : (0 : Int64).toInt = 0 := rfl
  have o64 : (1 : Int64).toInt = 1 := rfl
  intro f
  induction f with
  | zero => intro d a1 s _ _ _; exact kp_none
  | succ f ihf =>
    intro d a1 s ha hdA hd
    have w1 : ∀ s : SG, KD σ s → s 1 1 = σ 1 1 := fun s h => kd_lo h (by decide) (by decide)
    show kp (F_X11_goodRows_B N K len (F_X11_goodRows_R N K len f) a1 aN s ρ) _
    unfold F_X11_goodRows_B
    refine kp_ih (fun z => ?_) (fun z => kp_some ⟨hd, fun _ _ _ _ => rfl, ⟨?_, ?_⟩, fun e τ ρ' gw => ?_⟩)
    rotate_left
    · show 0 ≤ (1 : Int64).toInt
      rw [o64]; decide
    · have zi := le_i (nlt z)
      have e : A - d = 0 := by omega
      show (1 : Int64).toInt ≤ ((C ^ (A - d) : Nat) : Int)
      rw [e, Nat.pow_zero, o64]; decide
    · have zi := le_i (nlt z)
      cases e with
      | zero => exact kp_none
      | succ e =>
        show kp (F_X12_goodRows_B (F_X12_goodRows_R e) a1 aN τ ρ') _
        unfold F_X12_goodRows_B
        exact kp_t (ieq (by omega)) (kp_some ⟨rfl, gw.1, ⟨rs_refl, fun _ _ => rfl⟩⟩)
    have zi := lt_i z
    have dA : d < A := by omega
    have ed : 40 + 2 * (d + 1) = 42 + 2 * d := by omega
    have pw : C ^ (A - d) = C * C ^ (A - (d + 1)) := by
      have e : A - d = (A - (d + 1)) + 1 := by omega
      rw [e, Nat.pow_succ, Nat.mul_comm]
    obtain ⟨T, hT⟩ : ∃ T : Nat, T = C ^ (A - (d + 1)) := ⟨_, rfl⟩
    rw [← hT] at pw
    have CT : C * T ≤ 216 := by
      rw [← pw]
      have h : ∀ c : Fin 7, ∀ e : Fin 4, c.val ^ e.val ≤ 216 := by decide
      exact h ⟨C, by omega⟩ ⟨A - d, by omega⟩
    have T216 : T ≤ 216 := by
      rw [hT]
      have h : ∀ c : Fin 7, ∀ e : Fin 4, c.val ^ e.val ≤ 216 := by decide
      exact h ⟨C, by omega⟩ ⟨A - (d + 1), by omega⟩
    obtain ⟨M, hM⟩ : ∃ M : Nat, C * T = M := ⟨_, rfl⟩
    rw [pw, hM]
    rw [hM] at CT
    have loop : ∀ (n : Nat) (s1 : SG) (v3 : Int64) (v5 : Int32) (j : Nat), v5.toInt = (j : Int) → j ≤ C → KD σ s1 → (∀ r k, 40 ≤ r → r ≤ 41 + 2 * d → s1 r k = s r k) → 0 ≤ v3.toInt → v3.toInt ≤ ((j * T : Nat) : Int) → kp (F_X11_goodRows_B_12 N K len (F_X11_goodRows_R N K len f) a1 aN n s1 ρ a1 aN v3 v5) (fun q => KD σ q.2 ∧ (∀ r k, 40 ≤ r → r ≤ 41 + 2 * d → q.2 r k = s r k) ∧ (0 ≤ q.1.toInt ∧ q.1.toInt ≤ (M : Int)) ∧ ∀ (e m : Nat) (τ0 τ : SG) (ρ' : RG), GW d σ s τ0 → HK d τ0 τ → ET 0 σ τ → kp (F_X12_goodRows_B_17 (F_X12_goodRows_R e) a1 aN m τ ρ' a1 aN v3 v5) (fun q' => q.1 = q'.1 ∧ ET 0 σ q'.2 ∧ RK d τ0 q'.2)) := by
      intro n
      induction n with
      | zero => intro s1 v3 v5 j _ _ _ _ _ _; exact kp_none
      | succ n ih =>
        intro s1 v3 v5 j hv5 hjC hd1 l40 n0 n1
        obtain ⟨p, hp⟩ : ∃ p : Nat, j * T = p := ⟨_, rfl⟩
        rw [hp] at n1
        have jM : p ≤ M := by rw [← hp, ← hM]; exact Nat.mul_le_mul_right T hjC
        have jT1 : (j + 1) * T = p + T := by rw [Nat.succ_mul, hp]
        unfold F_X11_goodRows_B_12
        rw [w1 s1 hd1]
        refine kp_ih (fun y => kp_some ⟨hd1, l40, ⟨n0, Int.le_trans n1 (Int.ofNat_le.mpr jM)⟩, fun e m τ0 τ ρ' gw hk et => ?_⟩) (fun y => kp_bn (at_bs (N := N) (len := len) b hd1) (fun o3 h3 => ?_))
        · cases m with
          | zero => exact kp_none
          | succ m =>
            unfold F_X12_goodRows_B_17
            exact kp_t (by rw [et.1 11 (by decide), ← t11]; exact y) (kp_some ⟨rfl, et, hk_rk hk⟩)
        have yi := lt_i (nle y)
        rcases h3 with ⟨rfl, no⟩ | ⟨c, j', rfl, v1', v2', hj, ej, hcj⟩
        · exact absurd ⟨i_le (by rw [ti_0]; omega), i_lt yi⟩ no
        have ejj : j' = j := by omega
        rw [ejj] at hj ej hcj
        have hcc : isC N K c = true := (b.1.2.2.1 j c hj hcj).1
        have c65 := (pr_65 b.1 (Or.inl rfl) hj hcj).1
        obtain ⟨th, tr⟩ := th_bs b hj hcj (by omega)
        have tr' : rg (σ c 4) 0 100 := by rw [th]; exact ⟨by have := tr.1; omega, by have := tr.2; omega⟩
        show kp (gd (isC N K c) _) _
        refine kp_gd (fun _ => kp_bn2 (sim_step (d := d) (a3 := 0) (th := σ c 4) b (by omega) ha hv5 hj hcj hcc hd1 tr' (Or.inl ⟨rfl, rfl⟩)) (fun r15 σ15 h15 => ?_))
        have hd15 : KD σ σ15 := h15.1
        have l15 : ∀ r k, 40 ≤ r → r ≤ 41 + 2 * d → σ15 r k = s r k := fun r k h1 h2 => (h15.2.1 r k (by omega) (by omega)).trans (l40 r k h1 h2)
        -- a round of the reference, up to its cut
        have ref : ∀ (e m : Nat) (τ0 τ : SG) (ρ' : RG) (P : Int64 × SG → Prop), GW d σ s τ0 → HK d τ0 τ → ET 0 σ τ → (∀ (m' : Nat) (r6 : Int32) (τ6 : SG), CUT (42 + 2 * d) j (999 + (d : Int)) τ (r15, σ15) (r6, τ6) → ET 0 σ τ6 → AK d τ0 τ6 → kp (if r6 = 0 then F_X12_goodRows_B_66 (F_X12_goodRows_R e) a1 aN (F_X12_goodRows_B_17 (F_X12_goodRows_R e) a1 aN m') τ6 ρ' a1 aN v3 v5 else bn (F_X12_isGood τ6 ρ') fun r10 => if r10 = 0 then F_X12_goodRows_B_66 (F_X12_goodRows_R e) a1 aN (F_X12_goodRows_B_17 (F_X12_goodRows_R e) a1 aN m') τ6 ρ' a1 aN v3 v5 else nm (a1 + (1 : Int32)) fun x12 => bn2 ((F_X12_goodRows_R e) x12 aN τ6 ρ') fun r13 σ13 => nm (v3 + r13) fun x14 => F_X12_goodRows_B_66 (F_X12_goodRows_R e) a1 aN (F_X12_goodRows_B_17 (F_X12_goodRows_R e) a1 aN m') σ13 ρ' a1 aN x14 v5) P) → kp (F_X12_goodRows_B_17 (F_X12_goodRows_R e) a1 aN m τ ρ' a1 aN v3 v5) P := fun e m τ0 τ ρ' P gw hk et kk => by
          have le1 : LE (40 + 2 * d) s1 τ := by
            obtain ⟨l1, l2, l3, l4, l5⟩ := gw.2.1
            exact ⟨by rw [l40 _ 1 (by omega) (by omega), hk.1 0 (by decide)]; exact l1, by rw [l40 _ 2 (by omega) (by omega), hk.1 1 (by decide)]; exact l2, by rw [l40 _ 3 (by omega) (by omega), hk.1 2 (by decide)]; exact l3, by rw [l40 _ 4 (by omega) (by omega), hk.1 3 (by decide)]; exact l4, by rw [l40 _ 5 (by omega) (by omega), hk.1 4 (by decide)]; exact l5⟩
          have lq1 : LQ (999 + (d : Int)) τ := by
            obtain ⟨m1, m2, m3⟩ := gw.2.2
            exact ⟨by rw [hk.1 1 (by decide)]; exact m1, by rw [hk.1 2 (by decide)]; exact m2, by rw [hk.1 3 (by decide)]; exact m3⟩
          cases m with
          | zero => exact kp_none
          | succ m =>
            unfold F_X12_goodRows_B_17
            refine kp_f (by rw [et.1 11 (by decide), ← t11]; exact y) (kp_nm (fun x4 g4 => kp_gd (fun _ => ?_)))
            rw [jn hv5 hj g4, et.1 (44 + j) (by omega), ← th]
            exact kp_bn2 (h15.2.2 τ ρ' (999 + (d : Int)) (by omega) et le1 lq1) (fun r6 τ6 g => kk m r6 τ6 g.1 g.2 (ak_ft hj hk.2 g.1.1))
        -- back to the face of this depth
        have back : ∀ (e m : Nat) (τ0 τ' : SG) (ρ' : RG) (y3 : Int64) (P : Int64 × SG → Prop), AK d τ0 τ' → ET 0 σ τ' → (∀ (τ7 : SG) (x : Int32), HK d τ0 τ7 → ET 0 σ τ7 → x = v5 + 1 → kp (F_X12_goodRows_B_17 (F_X12_goodRows_R e) a1 aN m τ7 ρ' a1 aN y3 x) P) → kp (F_X12_goodRows_B_66 (F_X12_goodRows_R e) a1 aN (F_X12_goodRows_B_17 (F_X12_goodRows_R e) a1 aN m) τ' ρ' a1 aN y3 v5) P := fun e m τ0 τ' ρ' y3 P ak et kk => by
          unfold F_X12_goodRows_B_66
          exact kp_bn (kp_and (hk_back (k := d) (by omega) ha ak) (k_standsB (k := d) (by omega) ha)) (fun τ7 g7 => kp_nm (fun x9 g9 => kk τ7 x9 g7.1 ⟨fun x hx => by rw [g7.2.2.1 x hx]; exact et.1 x hx, by rw [g7.2.1 54 (by decide)]; exact et.2.1, by rw [g7.2.1 54 (by decide)]; exact et.2.2⟩ g9))
        -- on to the next cutter
        have next : ∀ (s2' : SG) (y3 : Int64), KD σ s2' → (∀ r k, 40 ≤ r → r ≤ 41 + 2 * d → s2' r k = s r k) → 0 ≤ y3.toInt → y3.toInt ≤ ((p + T : Nat) : Int) → kp (F_X11_goodRows_B_77 N K len (F_X11_goodRows_R N K len f) a1 aN (F_X11_goodRows_B_12 N K len (F_X11_goodRows_R N K len f) a1 aN n) s2' ρ a1 aN y3 v5) (fun q => KD σ q.2 ∧ (∀ r k, 40 ≤ r → r ≤ 41 + 2 * d → q.2 r k = s r k) ∧ (0 ≤ q.1.toInt ∧ q.1.toInt ≤ (M : Int)) ∧ ∀ (e m : Nat) (τ0 τ7 : SG) (ρ' : RG) (x : Int32), GW d σ s τ0 → HK d τ0 τ7 → ET 0 σ τ7 → x = v5 + 1 → kp (F_X12_goodRows_B_17 (F_X12_goodRows_R e) a1 aN m τ7 ρ' a1 aN y3 x) (fun q' => q.1 = q'.1 ∧ ET 0 σ q'.2 ∧ RK d τ0 q'.2)) := fun s2' y3 h1 h2 h3 h4 => by
          unfold F_X11_goodRows_B_77
          refine kp_nm (fun x7 h7 => ?_)
          have e7 : x7.toInt = ((j + 1 : Nat) : Int) := by rw [h7, ti_add (by rw [ti_1]; omega) (by rw [ti_1]; omega), ti_1, hv5]; omega
          refine kp_mono (ih s2' y3 x7 (j + 1) e7 (by omega) h1 h2 h3 (by rw [jT1]; exact h4)) (fun q hq => ⟨hq.1, hq.2.1, hq.2.2.1, fun e m τ0 τ7 ρ' x gw hk et hx => ?_⟩)
          rw [hx, ← h7]; exact hq.2.2.2 e m τ0 τ7 ρ' gw hk et
        refine kp_ih (fun y0 => kp_mono (next σ15 v3 hd15 l15 n0 (by omega)) (fun q hq => ⟨hq.1, hq.2.1, hq.2.2.1, fun e m τ0 τ ρ' gw hk et => ref e m τ0 τ ρ' _ gw hk et (fun m' r6 τ6 cut et' ak => ?_)⟩)) (fun y0 => kp_nm (fun x17 h17 => kp_gd (fun _ => ?_)))
        · obtain ⟨-, -, -, g⟩ := cut
          rcases g with ⟨q1, -⟩ | ⟨-, q2, -⟩
          · exact absurd (y0.symm.trans (show r15 = 1 from q1)) (by decide)
          exact kp_t q2 (back e m' τ0 τ6 ρ' v3 _ ak et' (fun τ7 x hk7 et7 hx => hq.2.2.2 e m' τ0 τ7 ρ' x gw hk7 et7 hx))
        have e17 : x17.toInt = ((d + 1 : Nat) : Int) := by rw [h17, ti_add (by rw [ti_1]; omega) (by rw [ti_1]; omega), ti_1, ha]; omega
        rw [cn e17, ly34 b.1.1 (by omega : d + 1 < 7)]
        show kp (gd (isLb _) _) _
        rw [ed]
        refine kp_gd (fun _ => kp_ih (fun y1 => kp_mono (next σ15 v3 hd15 l15 n0 (by omega)) (fun q hq => ⟨hq.1, hq.2.1, hq.2.2.1, fun e m τ0 τ ρ' gw hk et => ref e m τ0 τ ρ' _ gw hk et (fun m' r6 τ6 cut et' ak => ?_)⟩)) (fun y1 => kp_nm (fun x21 h21 => ?_)))
        · obtain ⟨-, -, -, g⟩ := cut
          rcases g with ⟨-, q2, -, ⟨-, ww7, -⟩, -⟩ | ⟨q1, -, -⟩
          rotate_left
          · exact absurd q1 y0
          have ww7 : σ15 (42 + 2 * d) 7 = τ6 54 15 := ww7
          refine kp_f (by rw [show r6 = 1 from q2]; decide) (kp_bn (k_good (N := N) (K := K) (len := len) b hd15 et') (fun r10 g10 => kp_t (by rw [g10, if_pos (by rw [← ww7]; exact y1)]) ?_))
          exact back e m' τ0 τ6 ρ' v3 _ ak et' (fun τ7 x hk7 et7 hx => hq.2.2.2 e m' τ0 τ7 ρ' x gw hk7 et7 hx)
        have e21 : x21.toInt = ((d + 1 : Nat) : Int) := by rw [h21, ← h17]; exact e17
        refine kp_bn2 (ihf (d + 1) x21 σ15 e21 (by omega) hd15) (fun r22 σ22 h22 => kp_nm (fun x23 h23 => ?_))
        rw [← hT] at h22
        obtain ⟨g1, g2, ⟨g3, g4⟩, g5⟩ := h22
        have g1 : KD σ σ22 := g1
        have g2 : ∀ r k, 40 ≤ r → r ≤ 41 + 2 * (d + 1) → σ22 r k = σ15 r k := g2
        have g3 : 0 ≤ r22.toInt := g3
        have g4 : r22.toInt ≤ (T : Int) := g4
        have e23 : x23.toInt = v3.toInt + r22.toInt := by rw [h23, a64 n0 (by omega) g3 (by omega)]
        refine kp_mono (next σ22 x23 g1 (fun r k h1 h2 => (g2 r k h1 (by omega)).trans (l15 r k h1 h2)) (by omega) (by omega)) (fun q hq => ⟨hq.1, hq.2.1, hq.2.2.1, fun e m τ0 τ ρ' gw hk et => ref e m τ0 τ ρ' _ gw hk et (fun m' r6 τ6 cut et' ak => ?_)⟩)
        obtain ⟨-, le', lq', g⟩ := cut
        have le' : LE (42 + 2 * d) σ15 τ6 := le'
        have lq' : LQ (999 + (d : Int) + 1) τ6 := lq'
        rcases g with ⟨-, q2, -, ⟨-, ww7, -⟩, -⟩ | ⟨q1, -, -⟩
        rotate_left
        · exact absurd q1 y0
        have ww7 : σ15 (42 + 2 * d) 7 = τ6 54 15 := ww7
        refine kp_f (by rw [show r6 = 1 from q2]; decide) (kp_bn (k_good (N := N) (K := K) (len := len) b hd15 et') (fun r10 g10 => kp_f (by rw [g10, if_neg (by rw [← ww7]; exact y1)]; decide) (kp_nm (fun x12 h12 => ?_))))
        have ex : x12 = x21 := by rw [h12, h21]
        rw [ex]
        refine kp_bn2 (g5 e τ6 ρ' ⟨et', by rw [ed]; exact le', ⟨lq'.1, lq'.2.1, ⟨lq'.2.2.1, by have := lq'.2.2.2; omega⟩⟩⟩) (fun r13 τ13 k13 => kp_nm (fun x14 h14 => ?_))
        have ex14 : x14 = x23 := by rw [h14, h23, show r22 = r13 from k13.1]
        rw [ex14]
        exact back e m' τ0 τ13 ρ' x23 _ (ak_rk ak k13.2.2) k13.2.1 (fun τ7 x hk7 et7 hx => hq.2.2.2 e m' τ0 τ7 ρ' x gw hk7 et7 hx)
    refine kp_mono (loop 1024 s 0 0 0 rfl (by omega) hd (fun _ _ _ _ => rfl) (by decide) (by rw [Nat.zero_mul]; decide)) (fun q hq => ⟨hq.1, hq.2.1, hq.2.2.1, fun e τ ρ' gw => ?_⟩)
    cases e with
    | zero => exact kp_none
    | succ e =>
      show kp (F_X12_goodRows_B (F_X12_goodRows_R e) a1 aN τ ρ') _
      unfold F_X12_goodRows_B
      refine kp_f (fun y => ?_) (kp_bn (kp_and (hk_stands (k := d) (by omega) ha) (k_stands (k := d) (by omega) ha)) (fun τ2 g2 => ?_))
      · have := congrArg Int32.toInt y
        omega
      exact hq.2.2.2 e 1024 τ τ2 ρ' gw g2.1 ⟨fun x hx => by rw [g2.2.1 55 (by decide)]; exact gw.1.1 x hx, by rw [g2.2.1 54 (by decide)]; exact gw.1.2.1, by rw [g2.2.1 54 (by decide)]; exact gw.1.2.2⟩
theorem odds_l {N : Nat} {K len : Nat → Nat} {a1 a2 : Int32} {σ : SG} {ρ : RG} (b : BS N K len σ ρ) : kp (F_X11_odds N K len a1 a2 σ ρ) (fun q => ∀ (τ : SG) (ρ' : RG), RT σ τ → kp (F_X12_odds a1 a2 τ ρ') (fun q' => q.1 = q'.1)) := by
  have t11 : σ 1 1 = σ 55 11 := b.2.1.1.1
  have e3 : (3 : Int32).toInt = 3 := rfl
  have o64 : (1 : Int64).toInt = 1 := rfl
  obtain ⟨c0, c6⟩ := b.2.2.2.2
  obtain ⟨C, hC⟩ : ∃ C : Nat, (σ 1 1).toInt = (C : Int) := ⟨(σ 1 1).toInt.toNat, by omega⟩
  have C6 : C ≤ 6 := by omega
  have c64 : ((σ 1 1).toInt64).toInt = (C : Int) := (Int32.toInt_toInt64 _).trans hC
  unfold F_X11_odds
  refine kp_bn (kp_ok wi_0) (fun r1 h1 => kp_ih (fun d => kp_some (fun τ ρ' t => ?_)) (fun d => kp_bn (kp_ok wi_0) (fun r3 h3 => kp_ih (fun d2 => kp_some (fun τ ρ' t => ?_)) (fun d2 => kp_ih (fun d3 => kp_some (fun τ ρ' t => ?_)) (fun d3 => ?_)))))
  · have n : ¬ ((1 : Int32) ≤ a1 ∧ a1 ≤ (3 : Int32)) := fun q => h1.2.mpr q d
    unfold F_X12_odds
    exact kp_bn (kp_ok in_0) (fun r g => kp_ih (fun _ => kp_some rfl) (fun z => absurd (g.2.mp z) n))
  · have y := h1.2.mp d
    have n : ¬ ((0 : Int32) ≤ a2 ∧ a2 ≤ (1 : Int32)) := fun q => h3.2.mpr q d2
    unfold F_X12_odds
    exact kp_bn (kp_ok in_0) (fun r g => kp_f (g.2.mpr y) (kp_bn (kp_ok in_0) (fun r' g' => kp_ih (fun _ => kp_some rfl) (fun z => absurd (g'.2.mp z) n))))
  · have y := h1.2.mp d
    have y2 := h3.2.mp d2
    unfold F_X12_odds
    refine kp_bn (kp_ok in_0) (fun r g => kp_f (g.2.mpr y) (kp_bn (kp_ok in_0) (fun r' g' => kp_f (g'.2.mpr y2) (kp_t ?_ (kp_some rfl)))))
    rw [t 55 11 (by decide) (by decide), ← t11]; exact d3
  have y := h1.2.mp d
  have y2 := h3.2.mp d2
  have yi := rc_i y
  rw [ti_1, e3] at yi
  obtain ⟨A, hA⟩ : ∃ A : Nat, a1.toInt = (A : Int) := ⟨a1.toInt.toNat, by omega⟩
  have A3 : A ≤ 3 := by omega
  have C1 : 1 ≤ C := by
    have : (σ 1 1).toInt ≠ 0 := fun z => d3 (ieq (by rw [z, ti_0]))
    omega
  have pb : ∀ k, k ≤ 3 → 1 ≤ C ^ k ∧ C ^ k ≤ 216 := fun k hk => by
    have h : ∀ c : Fin 7, ∀ e : Fin 4, 1 ≤ c.val → 1 ≤ c.val ^ e.val ∧ c.val ^ e.val ≤ 216 := by decide
    exact h ⟨C, by omega⟩ ⟨k, by omega⟩ C1
  have loop : ∀ (n : Nat) (v3 : Int64) (v5 : Int32) (k : Nat), v5.toInt = (k : Int) → k ≤ A → v3.toInt = ((C ^ k : Nat) : Int) → kp (F_X11_odds_37 N K len a1 a2 n σ ρ a1 a2 v3 v5) (fun q => ∀ (m : Nat) (τ : SG) (ρ' : RG), RT σ τ → kp (F_X12_odds_37 a1 a2 m τ ρ' a1 a2 v3 v5) (fun q' => q.1 = q'.1)) := by
    intro n
    induction n with
    | zero => intro v3 v5 k _ _ _; exact kp_none
    | succ n ih =>
      intro v3 v5 k hk hkA hv3
      unfold F_X11_odds_37
      refine kp_ih (fun z => kp_bn (k_start8 b.1.1) (fun σ7 h7 => kp_bn2 (good_R b hC hA A3 6 0 0 σ7 rfl (by omega) h7.1) (fun r8 σ8 h8 => ?_))) (fun z => kp_nm (fun x10 h10 => kp_nm (fun x11 h11 => ?_)))
      · have zi := le_i z
        have kA : k = A := by omega
        obtain ⟨-, -, ⟨g0, g1⟩, g⟩ := h8
        have g0 : 0 ≤ r8.toInt := g0
        have g1 : r8.toInt ≤ ((C ^ (A - 0) : Nat) : Int) := g1
        rw [Nat.sub_zero] at g1
        rw [kA] at hv3
        obtain ⟨b0, b1⟩ := pb A A3
        obtain ⟨p, hp⟩ : ∃ p : Nat, C ^ A = p := ⟨_, rfl⟩
        rw [hp] at hv3 g1 b0 b1
        refine kp_bn (Q := fun q => ∀ (τ : SG) (ρ' : RG), kp (F_X12_lowest r8 v3 a2 τ ρ') (fun q' => q = q')) (fun q hq τ ρ' => euo (τ := τ) (ρ' := ρ') g0 (by omega) (by omega) (by omega) q hq) (fun r9 h9 => kp_some (fun m τ ρ' t => ?_))
        cases m with
        | zero => exact kp_none
        | succ m =>
          have et := et_rt b t
          have lss := lss_t b.1 b.2.2.2.1 t
          obtain ⟨x1, x2, -⟩ := lss.1
          unfold F_X12_odds_37 F_X12_goodRows
          refine kp_t z (kp_bn2 (g 5 τ ρ' ⟨et, ⟨?_, ?_, ?_, ?_, ?_⟩, x2.1, x2.2.1, x2.2.2⟩) (fun r7 τ7 k7 => ?_))
          · exact (h7.2.1 1 (by decide)).trans (x1 0 (by decide))
          · exact (h7.2.1 2 (by decide)).trans (x1 1 (by decide))
          · exact (h7.2.1 3 (by decide)).trans (x1 2 (by decide))
          · exact (h7.2.1 4 (by decide)).trans (x1 3 (by decide))
          · exact (h7.2.1 5 (by decide)).trans (x1 4 (by decide))
          have e87 : r8 = r7 := k7.1
          rw [← e87]
          exact kp_bn (h9 τ7 ρ') (fun r w => kp_some w)
      · have zi := lt_i (nle z)
        have e11 : x11.toInt = ((k + 1 : Nat) : Int) := by rw [h11, ti_add (by rw [ti_1]; omega) (by rw [ti_1]; omega), ti_1, hk]; omega
        have e10 : x10.toInt = ((C ^ (k + 1) : Nat) : Int) := by
          have w := (pb (k + 1) (by omega)).2
          rw [Nat.pow_succ] at w
          rw [h10, m64 hv3 c64 (by omega), Nat.pow_succ]
        refine kp_mono (ih x10 x11 (k + 1) e11 (by omega) e10) (fun q hq m τ ρ' t => ?_)
        cases m with
        | zero => exact kp_none
        | succ m =>
          unfold F_X12_odds_37
          refine kp_f z (kp_nm (fun x9 k9 => kp_nm (fun y10 k10 => ?_)))
          have ex : x9 = x10 := by rw [k9, h10, t 55 11 (by decide) (by decide), ← t11]
          rw [ex, k10, ← h11]
          exact hq m τ ρ' t
  refine kp_mono (loop 1024 1 0 0 rfl (by omega) (by rw [Nat.pow_zero]; rfl)) (fun q hq τ ρ' t => ?_)
  unfold F_X12_odds
  refine kp_bn (kp_ok in_0) (fun r g => kp_f (g.2.mpr y) (kp_bn (kp_ok in_0) (fun r' g' => kp_f (g'.2.mpr y2) (kp_f ?_ (hq 1024 τ ρ' t)))))
  rw [t 55 11 (by decide) (by decide), ← t11]; exact d3
