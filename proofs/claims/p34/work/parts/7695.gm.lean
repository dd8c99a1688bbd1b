/-! PART 7695.gm: by hand: game, side by side -/
theorem ti_ng {x : Int32} (h1 : -2147483648 ≤ -x.toInt) (h2 : -x.toInt ≤ 2147483647) : (-x).toInt = -x.toInt := by rw [Int32.toInt_neg, bmod_id h1 h2]
theorem k_way {N : Nat} {K len : Nat → Nat} {c w : Nat} {v7 : Int32} {s : SG} {ρ : RG} (hw : v7.toInt = (w : Int)) (hw3 : w < 3) (ht : rg (s c 4) 1 40) : kp (F_X11_thickByWay N K len c v7 s ρ) (fun r => rg r 1 40 ∧ ∀ (x : Int32) (τ : SG) (ρ' : RG), (v7 = 0 → x = s c 4 + 0) → (v7 = 1 → x = s c 4 + 5) → (v7 = 2 → x = s c 4 + (-5)) → kp (F_X12_within x 1 40 τ ρ') (fun r' => r' = r)) := by
  have e5 : (5 : Int32).toInt = 5 := rfl
  have em5 : (-5 : Int32).toInt = -5 := rfl
  have e40 : (40 : Int32).toInt = 40 := rfl
  have e2 : (2 : Int32).toInt = 2 := rfl
  obtain ⟨t0, t1⟩ := ht
  have wi : ∀ (x r : Int32) (τ : SG) (ρ' : RG), ((1 ≤ x.toInt ∧ x.toInt ≤ 40 ∧ r = x) ∨ (x.toInt < 1 ∧ r = 1) ∨ (40 < x.toInt ∧ r = 40)) → kp (F_X12_within x 1 40 τ ρ') (fun r' => r' = r) := fun x r τ ρ' h => by
    unfold F_X12_within
    refine kp_ih (fun a => kp_ih (fun b => kp_some ?_) (fun b => kp_some ?_)) (fun a => kp_some ?_)
    · have a := le_i a
      have b := le_i b
      rw [ti_1] at a
      rw [e40] at b
      rcases h with ⟨_, _, h⟩ | ⟨h, _⟩ | ⟨h, _⟩
      · exact h.symm
      · omega
      · omega
    · have b := lt_i (nle b)
      rw [e40] at b
      rcases h with ⟨_, h, _⟩ | ⟨h, _⟩ | ⟨_, h⟩
      · omega
      · omega
      · exact h.symm
    · have a := lt_i (nle a)
      rw [ti_1] at a
      rcases h with ⟨h, _⟩ | ⟨_, h⟩ | ⟨h, _⟩
      · omega
      · exact h.symm
      · omega
  unfold F_X11_thickByWay
  refine kp_ih (fun y => kp_nm (fun x5 h5 => kp_nm (fun x6 h6 => kp_some ?_))) (fun y1 => kp_ih (fun y => kp_nm (fun x3 h3 => kp_nm (fun x4 h4 => kp_some ?_))) (fun y2 => kp_some ?_))
  · have e : x5.toInt = (s c 4).toInt + 5 := by rw [h5, ti_add (by omega) (by omega), e5]
    have r6 : (x5.toInt < 40 ∧ x6 = x5) ∨ (40 ≤ x5.toInt ∧ x6 = 40) := by
      by_cases z : x5 < 40
      · rw [if_pos z] at h6; exact Or.inl ⟨by have := lt_i z; omega, h6⟩
      · rw [if_neg z] at h6; exact Or.inr ⟨by have := le_i (nlt z); omega, h6⟩
    refine ⟨?_, fun x τ ρ' _ k _ => ?_⟩
    · rcases r6 with ⟨a, b⟩ | ⟨a, b⟩
      · rw [b]; exact ⟨by omega, by omega⟩
      · rw [b]; exact ⟨by decide, by decide⟩
    · rw [k y, ← h5]
      rcases r6 with ⟨a, b⟩ | ⟨a, b⟩
      · exact wi x5 x6 τ ρ' (Or.inl ⟨by omega, by omega, b⟩)
      · by_cases q : x5.toInt = 40
        · exact wi x5 x6 τ ρ' (Or.inl ⟨by omega, by omega, b.trans (ieq (by rw [q]; rfl)).symm⟩)
        · exact wi x5 x6 τ ρ' (Or.inr (Or.inr ⟨by omega, b⟩))
  · have e : x3.toInt = (s c 4).toInt - 5 := by rw [h3, ti_sub (by omega) (by omega), e5]
    have r4 : (1 < x3.toInt ∧ x4 = x3) ∨ (x3.toInt ≤ 1 ∧ x4 = 1) := by
      by_cases z : 1 < x3
      · rw [if_pos z] at h4; exact Or.inl ⟨by have := lt_i z; rw [ti_1] at this; omega, h4⟩
      · rw [if_neg z] at h4; exact Or.inr ⟨by have := le_i (nlt z); rw [ti_1] at this; omega, h4⟩
    refine ⟨?_, fun x τ ρ' _ _ k => ?_⟩
    · rcases r4 with ⟨a, b⟩ | ⟨a, b⟩
      · rw [b]; exact ⟨by omega, by omega⟩
      · rw [b]; exact ⟨by decide, by decide⟩
    · have ex : x = x3 := ieq (by rw [k y, ti_add (by omega) (by omega), em5, e]; omega)
      rw [ex]
      rcases r4 with ⟨a, b⟩ | ⟨a, b⟩
      · exact wi x3 x4 τ ρ' (Or.inl ⟨by omega, by omega, b⟩)
      · by_cases q : x3.toInt = 1
        · exact wi x3 x4 τ ρ' (Or.inl ⟨by omega, by omega, b.trans (ieq (by rw [q]; rfl)).symm⟩)
        · exact wi x3 x4 τ ρ' (Or.inr (Or.inl ⟨by omega, b⟩))
  · have y0 : v7 = 0 := by
      have n1 : v7.toInt ≠ 1 := fun q => y1 (ieq q)
      have n2 : v7.toInt ≠ 2 := fun q => y2 (ieq (q.trans e2.symm))
      exact ieq (by rw [ti_0]; omega)
    refine ⟨⟨t0, t1⟩, fun x τ ρ' k _ _ => ?_⟩
    have ex : x = s c 4 := ieq (by rw [k y0, ti_add (by rw [ti_0]; omega) (by rw [ti_0]; omega), ti_0]; omega)
    rw [ex]
    exact wi _ _ τ ρ' (Or.inl ⟨t0, t1, rfl⟩)
def GW (d : Nat) (σ s τ : SG) : Prop := ET 0 σ τ ∧ LE (40 + 2 * d) s τ ∧ LQ (999 + (d : Int)) τ
def CV (L : Int) (v5 v6 : Int32) : Prop := (v6 = -5 ∧ v5 = 0) ∨ (¬ v6 = -5 ∧ -L ≤ v5.toInt ∧ v5.toInt ≤ L)
def GV (v5 v6 u5 u6 : Int32) : Prop := u6 = v6 ∧ (v6 = -5 → u5 = -1000000) ∧ (¬ v6 = -5 → u5 = v5)
theorem et_26 {σ τ τ' : SG} {v : Int32} (h : ET 0 σ τ) (e : τ' = s2 τ 54 26 v) : ET 0 σ τ' := ⟨fun x hx => by rw [e, sn (by omega)]; exact h.1 x hx, by rw [e, sn (by omega)]; exact h.2.1, by rw [e, sn (by omega)]; exact h.2.2⟩
theorem rk_26 {k : Nat} {τ0 τ τ' : SG} {v : Int32} (h : RK k τ0 τ) (e : τ' = s2 τ 54 26 v) : RK k τ0 τ' := ⟨⟨fun x hx => by rw [e, sn (by omega)]; exact h.1.1 x hx, by rw [e, sn (by omega)]; exact h.1.2.1, by rw [e, sn (by omega)]; exact h.1.2.2⟩, fun y hy => by rw [e, sn (by omega)]; exact h.2 y hy⟩
theorem rk_on {k : Nat} {τ0 τ τ' : SG} (h : HK k τ0 τ) (f : RK (k + 1) τ τ') : RK k τ0 τ' := ⟨⟨fun x hx => (f.1.1 x hx).trans (h.1 x hx), f.1.2.1.trans h.2.2.2.1, f.1.2.2.trans h.2.2.2.2⟩, fun y hy => (f.2 y (by omega)).trans (h.2.2.1 y hy)⟩
theorem game_R {N : Nat} {K len : Nat → Nat} {σ : SG} {ρ : RG} (b : BS N K len σ ρ) {n : Nat} {aN : Int32} (hn : aN.toInt = (n : Int)) (hn5 : n ≤ 5) : ∀ (f d c1 c2 j1 j2 : Nat) (J1 J2 a3 a4 : Int32) (s : SG), j1 < 6 → J1.toInt = (j1 : Int) → ρ 2 j1 = some c1 → (j1 : Int) < (σ 1 1).toInt → j2 < 6 → J2.toInt = (j2 : Int) → ρ 2 j2 = some c2 → (j2 : Int) < (σ 1 1).toInt → a3.toInt = (d : Int) → a4.toInt = (n : Int) - (d : Int) → d ≤ n → KD σ s → rg (s (40 + 2 * d) 2) (-99) 99 → rg (s (40 + 2 * d) 3) (-99) 99 → kp (F_X11_bestOf_R N K len f c1 c2 a3 a4 s ρ) (fun q => KD σ q.2 ∧ (∀ r k, 40 ≤ r → r ≤ 41 + 2 * d → q.2 r k = s r k) ∧ (-(2400 * ((n : Int) - (d : Int))) ≤ q.1.toInt ∧ q.1.toInt ≤ 2400 * ((n : Int) - (d : Int))) ∧ ∀ (e : Nat) (τ : SG) (ρ' : RG), GW d σ s τ → kp (F_X12_gameFor_R e J1 J2 a3 aN τ ρ') (fun q' => q.1 = q'.1 ∧ ET 0 σ q'.2 ∧ RK d τ q'.2 ∧ (d < n → d = 0 → q.2 0 10 = q'.2 54 26))) := by
  have i7 : (7 : Int32).toInt = 7 := rfl
  have i3 : (3 : Int32).toInt = 3 := rfl
  have eM : (-1000000 : Int32).toInt = -1000000 := rfl
  intro f
  induction f with
  | zero => intro d c1 c2 j1 j2 J1 J2 a3 a4 s _ _ _ _ _ _ _ _ _ _ _ _ _ _; exact kp_none
  | succ f ihf =>
    intro d c1 c2 j1 j2 J1 J2 a3 a4 s hj1 hJ1 hc1 hl1 hj2 hJ2 hc2 hl2 ha h4 hdn hd hu hs
    show kp (F_X11_bestOf_B N K len (F_X11_bestOf_R N K len f) c1 c2 a3 a4 s ρ) _
    unfold F_X11_bestOf_B
    refine kp_ih (fun z => kp_some ⟨hd, fun _ _ _ _ => rfl, ⟨?_, ?_⟩, fun e τ ρ' gw => ?_⟩) (fun z => kp_nm (fun x2 h2 => kp_t ?_ ?_))
    · have z := le_i z
      show -(2400 * ((n : Int) - (d : Int))) ≤ (0 : Int32).toInt
      rw [ti_0] at z ⊢; omega
    · have z := le_i z
      show (0 : Int32).toInt ≤ 2400 * ((n : Int) - (d : Int))
      rw [ti_0] at z ⊢; omega
    · have z := le_i z
      rw [ti_0] at z
      cases e with
      | zero => exact kp_none
      | succ e =>
        show kp (F_X12_gameFor_B (F_X12_gameFor_R e) J1 J2 a3 aN τ ρ') _
        unfold F_X12_gameFor_B
        exact kp_t (ieq (by omega)) (kp_some ⟨rfl, gw.1, ⟨rs_refl, fun _ _ => rfl⟩, fun q => absurd q (by omega)⟩)
    · have z := lt_i (nle z)
      rw [ti_0] at z
      exact i_lt (by rw [h2, ti_add (by rw [ti_1]; omega) (by rw [ti_1]; omega), ti_1]; omega)
    have zi := lt_i (nle z)
    rw [ti_0] at zi
    have dn : d < n := by omega
    have hcc1 : isC N K c1 = true := (b.1.2.2.1 j1 c1 hj1 hc1).1
    have c65 := (pr_65 b.1 (Or.inl rfl) hj1 hc1).1
    have th := th_bs b hj1 hc1 hl1
    have ed : 40 + 2 * (d + 1) = 42 + 2 * d := by omega
    have loop : ∀ (k : Nat) (s1 : SG) (v5 v6 v7 : Int32) (w : Nat), v7.toInt = (w : Int) → w ≤ 3 → KD σ s1 → (∀ r k, 40 ≤ r → r ≤ 41 + 2 * d → s1 r k = s r k) → CV (2400 * ((n : Int) - (d : Int))) v5 v6 → kp (F_X11_bestOf_B_28 N K len (F_X11_bestOf_R N K len f) c1 c2 a3 a4 k s1 ρ c1 c2 a3 a4 v5 v6 v7) (fun q => KD σ q.2 ∧ (∀ r k, 40 ≤ r → r ≤ 41 + 2 * d → q.2 r k = s r k) ∧ (-(2400 * ((n : Int) - (d : Int))) ≤ q.1.toInt ∧ q.1.toInt ≤ 2400 * ((n : Int) - (d : Int))) ∧ ∀ (e m : Nat) (τ0 τ : SG) (ρ' : RG) (u5 u6 : Int32), GW d σ s τ0 → HK d τ0 τ → ET 0 σ τ → GV v5 v6 u5 u6 → kp (F_X12_gameFor_B_24 (F_X12_gameFor_R e) J1 J2 a3 aN m τ ρ' J1 J2 a3 aN u5 u6 v7) (fun q' => q.1 = q'.1 ∧ ET 0 σ q'.2 ∧ RK d τ0 q'.2 ∧ (d = 0 → q.2 0 10 = q'.2 54 26))) := by
      intro k
      induction k with
      | zero => intro s1 v5 v6 v7 w _ _ _ _ _; exact kp_none
      | succ k ih =>
        intro s1 v5 v6 v7 w hw hw3 hd1 l40 cv
        have leq : ∀ τ0 τ : SG, GW d σ s τ0 → HK d τ0 τ → LE (40 + 2 * d) s1 τ ∧ LQ (999 + (d : Int)) τ := fun τ0 τ gw hk => by
          obtain ⟨l1, l2, l3, l4, l5⟩ := gw.2.1
          obtain ⟨m1, m2, m3⟩ := gw.2.2
          exact ⟨⟨by rw [l40 _ 1 (by omega) (by omega), hk.1 0 (by decide)]; exact l1, by rw [l40 _ 2 (by omega) (by omega), hk.1 1 (by decide)]; exact l2, by rw [l40 _ 3 (by omega) (by omega), hk.1 2 (by decide)]; exact l3, by rw [l40 _ 4 (by omega) (by omega), hk.1 3 (by decide)]; exact l4, by rw [l40 _ 5 (by omega) (by omega), hk.1 4 (by decide)]; exact l5⟩, ⟨by rw [hk.1 1 (by decide)]; exact m1, by rw [hk.1 2 (by decide)]; exact m2, by rw [hk.1 3 (by decide)]; exact m3⟩⟩
        -- what is written at the end
        have fin : ∀ (s2' : SG) (v : Int32), KD σ s2' → (∀ r k, 40 ≤ r → r ≤ 41 + 2 * d → s2' r k = s r k) → kp (F_X11_bestOf_B_144 N K len (F_X11_bestOf_R N K len f) c1 c2 a3 a4 s2' ρ a3 v v6) (fun q => KD σ q.2 ∧ (∀ r k, 40 ≤ r → r ≤ 41 + 2 * d → q.2 r k = s r k) ∧ q.1 = v ∧ (d = 0 → q.2 0 10 = v6)) := fun s2' v h1 h2 => by
          unfold F_X11_bestOf_B_144
          refine kp_ih (fun y => kp_nm (fun σ8 h8 => kp_some ⟨?_, fun r k p q => ?_, rfl, fun _ => ?_⟩)) (fun y => kp_some ⟨h1, h2, rfl, fun q => absurd (ieq ?_) y⟩)
          · show KD σ σ8
            rw [h8]; exact kd_trans h1 (kd_lit rfl)
          · show σ8 r k = s r k
            rw [h8, sn (by omega)]; exact h2 r k p q
          · show σ8 0 10 = v6
            rw [h8, sv]
          · rw [ti_0]; omega
        unfold F_X11_bestOf_B_28
        refine kp_gd (fun _ => kp_gd (fun _ => kp_ih (fun z3 => ?_) (fun z3 => ?_)))
        · refine kp_ih (fun z5 => ?_) (fun z5 => ?_)
          · -- no way at all
            refine kp_nm (fun x9 h9 => kp_gd (fun _ => ?_))
            have e9 : x9.toInt = ((d + 1 : Nat) : Int) := by rw [h9, ti_add (by rw [ti_1]; omega) (by rw [ti_1]; omega), ti_1, ha]; omega
            rw [cn e9, ly34 b.1.1 (by omega : d + 1 < 7)]
            show kp (gd (isLb _) _) _
            rw [ed]
            refine kp_gd (fun _ => kp_gd (fun _ => ?_))
            rw [cn ha, ly34 b.1.1 (by omega : d < 7)]
            show kp (gd (isLb _) _) _
            refine kp_gd (fun _ => kp_bn (kp_and (k_tk (by omega)) (kd_X3_takes b.1.1 (lx_d (by omega)))) (fun σ14 h14 => kp_nm (fun x15 h15 => kp_nm (fun x16 h16 => ?_))))
            obtain ⟨h14, d14⟩ := h14
            have e15 : x15.toInt = ((d + 1 : Nat) : Int) := by rw [h15, ← h9]; exact e9
            have e16 : x16.toInt = (n : Int) - ((d + 1 : Nat) : Int) := by rw [h16, ti_sub (by rw [ti_1]; omega) (by rw [ti_1]; omega), ti_1, h4]; omega
            refine kp_bn2 (ihf (d + 1) c2 c1 j2 j1 J2 J1 x15 x16 σ14 hj2 hJ2 hc2 hl2 hj1 hJ1 hc1 hl1 e15 e16 (by omega) (kd_trans hd1 d14) (by rw [ed, h14.2 2 (by decide), l40 _ 2 (by omega) (by omega)]; exact hu) (by rw [ed, h14.2 3 (by decide), l40 _ 3 (by omega) (by omega)]; exact hs)) (fun r17 σ17 h17 => kp_nm (fun x18 h18 => ?_))
            obtain ⟨g1, g2, ⟨g3, g4⟩, g5⟩ := h17
            have g1 : KD σ σ17 := g1
            have g2 : ∀ r k, 40 ≤ r → r ≤ 41 + 2 * (d + 1) → σ17 r k = σ14 r k := g2
            have g3 : -(2400 * ((n : Int) - ((d + 1 : Nat) : Int))) ≤ r17.toInt := g3
            have g4 : r17.toInt ≤ 2400 * ((n : Int) - ((d + 1 : Nat) : Int)) := g4
            have e18 : x18.toInt = -r17.toInt := by rw [h18, ti_ng (by omega) (by omega)]
            refine kp_mono (fin σ17 x18 g1 (fun r k p q => by rw [g2 r k p (by omega), h14.1 r k (by omega)]; exact l40 r k p q)) (fun q hq => ⟨hq.1, hq.2.1, ⟨by rw [hq.2.2.1]; omega, by rw [hq.2.2.1]; omega⟩, fun e m τ0 τ ρ' u5 u6 gw hk et gv => ?_⟩)
            cases m with
            | zero => exact kp_none
            | succ m =>
              unfold F_X12_gameFor_B_24
              obtain ⟨le1, lq1⟩ := leq τ0 τ gw hk
              refine kp_t z3 (kp_t (gv.1.trans z5) (kp_nm (fun x7 k7 => ?_)))
              have ex : x7 = x15 := by rw [k7, h15]
              rw [ex]
              refine kp_bn2 (g5 e τ ρ' ⟨et, ?_, ?_⟩) (fun r8 τ8 k8 => kp_nm (fun y9 k9 => kp_nm (fun τ11 k11 => kp_some ⟨?_, ?_, ?_, fun y => ?_⟩)))
              · rw [ed]
                obtain ⟨l1, l2, l3, l4, l5⟩ := le1
                exact ⟨(h14.2 1 (by decide)).trans l1, (h14.2 2 (by decide)).trans l2, (h14.2 3 (by decide)).trans l3, (h14.2 4 (by decide)).trans l4, (h14.2 5 (by decide)).trans l5⟩
              · exact ⟨lq1.1, lq1.2.1, ⟨lq1.2.2.1, by have := lq1.2.2.2; omega⟩⟩
              · show q.1 = y9
                rw [hq.2.2.1, h18, k9, show r17 = r8 from k8.1]
              · exact et_26 k8.2.1 k11
              · exact rk_26 (rk_on hk k8.2.2.1) k11
              · show q.2 0 10 = τ11 54 26
                rw [hq.2.2.2 y, k11, sv]; exact gv.1.symm
          · -- the best of the ways
            rcases cv with ⟨q, _⟩ | ⟨_, v1, v2⟩
            · exact absurd q z5
            refine kp_mono (fin s1 v5 hd1 l40) (fun q hq => ⟨hq.1, hq.2.1, ⟨by rw [hq.2.2.1]; exact v1, by rw [hq.2.2.1]; exact v2⟩, fun e m τ0 τ ρ' u5 u6 gw hk et gv => ?_⟩)
            cases m with
            | zero => exact kp_none
            | succ m =>
              unfold F_X12_gameFor_B_24
              refine kp_t z3 (kp_f (fun y => z5 (gv.1.symm.trans y)) (kp_nm (fun τ6 k6 => kp_some ⟨?_, et_26 et k6, rk_26 (hk_rk hk) k6, fun y => ?_⟩)))
              · show q.1 = u5
                rw [hq.2.2.1, gv.2.2 z5]
              · show q.2 0 10 = τ6 54 26
                rw [hq.2.2.2 y, k6, sv]; exact gv.1.symm
        -- a way
        have w3 : w < 3 := by have := lt_i (nle z3); omega
        have s1c : s1 c1 4 = σ 55 (44 + j1) := by rw [kd_hi hd1 (by omega : 54 ≤ c1)]; exact th.1
        refine kp_bn (k_way hw w3 (by rw [s1c]; exact th.2)) (fun r19 h19 => ?_)
        obtain ⟨⟨t0, t1⟩, wi⟩ := h19
        have nz : ¬ r19 = 0 := fun y => by rw [y, ti_0] at t0; omega
        refine kp_bn2 (kp_and (sim_step (d := d) (a3 := r19) (th := r19) b (by omega) ha hJ1 hj1 hc1 hcc1 hd1 ⟨by omega, by omega⟩ (Or.inr ⟨nz, rfl⟩)) (wgx_step (a3 := r19) b.1.1 (by omega) ha hcc1 (by rw [l40 _ 2 (by omega) (by omega)]; exact hu) (by rw [l40 _ 3 (by omega) (by omega)]; exact hs) ⟨fun q => absurd q nz, fun _ => ⟨by omega, by omega⟩⟩)) (fun r20 σ20 h20 => ?_)
        obtain ⟨h20, wy⟩ := h20
        have w01 : r20 = 0 ∨ r20 = 1 := wy.1
        have wy : r20 = 1 → WY (42 + 2 * d) σ20 := wy.2
        have hd20 : KD σ σ20 := h20.1
        have l20 : ∀ r k, 40 ≤ r → r ≤ 41 + 2 * d → σ20 r k = s r k := fun r k h1 h2 => (h20.2.1 r k (by omega) (by omega)).trans (l40 r k h1 h2)
        -- a round of the reference, up to its cut
        have ref : ∀ (e m : Nat) (τ0 τ : SG) (ρ' : RG) (u5 u6 : Int32) (P : Int32 × SG → Prop), GW d σ s τ0 → HK d τ0 τ → ET 0 σ τ → (∀ (m' : Nat) (r18 : Int32) (τ18 : SG), CUT (42 + 2 * d) j1 (999 + (d : Int)) τ (r20, σ20) (r18, τ18) → ET 0 σ τ18 → AK d τ0 τ18 → kp (if r18 = 0 then F_X12_gameFor_B_133 (F_X12_gameFor_R e) J1 J2 a3 aN (F_X12_gameFor_B_24 (F_X12_gameFor_R e) J1 J2 a3 aN m') τ18 ρ' J1 J2 a3 aN u5 u6 v7 else nm (a3 + (1 : Int32)) fun x22 => bn2 ((F_X12_gameFor_R e) J2 J1 x22 aN τ18 ρ') fun r23 σ23 => nm ((τ18 54 14) - r23) fun x24 => if x24 ≤ u5 then F_X12_gameFor_B_115 (F_X12_gameFor_R e) J1 J2 a3 aN (F_X12_gameFor_B_24 (F_X12_gameFor_R e) J1 J2 a3 aN m') σ23 ρ' J1 J2 a3 aN u5 v7 x24 u6 else F_X12_gameFor_B_115 (F_X12_gameFor_R e) J1 J2 a3 aN (F_X12_gameFor_B_24 (F_X12_gameFor_R e) J1 J2 a3 aN m') σ23 ρ' J1 J2 a3 aN u5 v7 x24 v7) P) → kp (F_X12_gameFor_B_24 (F_X12_gameFor_R e) J1 J2 a3 aN m τ ρ' J1 J2 a3 aN u5 u6 v7) P := fun e m τ0 τ ρ' u5 u6 P gw hk et kk => by
          obtain ⟨le1, lq1⟩ := leq τ0 τ gw hk
          cases m with
          | zero => exact kp_none
          | succ m =>
            have go : ∀ k1 : Int32, (v7 = 0 → k1 = 0) → (v7 = 1 → k1 = 5) → (v7 = 2 → k1 = -5) → kp (F_X12_gameFor_B_60 (F_X12_gameFor_R e) J1 J2 a3 aN (F_X12_gameFor_B_24 (F_X12_gameFor_R e) J1 J2 a3 aN m) τ ρ' J1 J2 a3 aN u5 u6 v7 (s1 c1 4) k1) P := fun k1 y0 y1 y2 => by
              unfold F_X12_gameFor_B_60
              refine kp_nm (fun x16 k16 => kp_bn (wi x16 τ ρ' (fun y => by rw [k16, y0 y]) (fun y => by rw [k16, y1 y]) (fun y => by rw [k16, y2 y])) (fun r17 k17 => ?_))
              rw [k17]
              exact kp_bn2 (h20.2.2 τ ρ' (999 + (d : Int)) (by omega) et le1 lq1) (fun r18 τ18 g => kk m r18 τ18 g.1 g.2 (ak_ft hj1 hk.2 g.1.1))
            unfold F_X12_gameFor_B_24
            refine kp_f z3 (kp_nm (fun x12 g12 => kp_gd (fun _ => ?_)))
            rw [jn hJ1 hj1 g12, et.1 (44 + j1) (by omega), ← s1c]
            exact kp_ih (fun y => go 0 (fun _ => rfl) (fun q => absurd (y.symm.trans q) (by decide)) (fun q => absurd (y.symm.trans q) (by decide))) (fun y0 => kp_ih (fun y => go 5 (fun q => absurd q y0) (fun _ => rfl) (fun q => absurd (y.symm.trans q) (by decide))) (fun y1 => go (-5) (fun q => absurd q y0) (fun q => absurd q y1) (fun _ => rfl)))
        -- back to the face of this depth
        have back : ∀ (e m : Nat) (τ0 τ' : SG) (ρ' : RG) (u5 u6 : Int32) (P : Int32 × SG → Prop), AK d τ0 τ' → ET 0 σ τ' → (∀ (τ7 : SG) (x : Int32), HK d τ0 τ7 → ET 0 σ τ7 → x = v7 + 1 → kp (F_X12_gameFor_B_24 (F_X12_gameFor_R e) J1 J2 a3 aN m τ7 ρ' J1 J2 a3 aN u5 u6 x) P) → kp (F_X12_gameFor_B_133 (F_X12_gameFor_R e) J1 J2 a3 aN (F_X12_gameFor_B_24 (F_X12_gameFor_R e) J1 J2 a3 aN m) τ' ρ' J1 J2 a3 aN u5 u6 v7) P := fun e m τ0 τ' ρ' u5 u6 P ak et kk => by
          unfold F_X12_gameFor_B_133
          exact kp_bn (kp_and (hk_back (k := d) (by omega) ha ak) (k_standsB (k := d) (by omega) ha)) (fun τ7 g7 => kp_nm (fun x9 g9 => kk τ7 x9 g7.1 ⟨fun x hx => by rw [g7.2.2.1 x hx]; exact et.1 x hx, by rw [g7.2.1 54 (by decide)]; exact et.2.1, by rw [g7.2.1 54 (by decide)]; exact et.2.2⟩ g9))
        -- on to the next way
        have next : ∀ (s2' : SG) (y5 y6 : Int32), KD σ s2' → (∀ r k, 40 ≤ r → r ≤ 41 + 2 * d → s2' r k = s r k) → CV (2400 * ((n : Int) - (d : Int))) y5 y6 → kp (F_X11_bestOf_B_98 N K len (F_X11_bestOf_R N K len f) c1 c2 a3 a4 (F_X11_bestOf_B_28 N K len (F_X11_bestOf_R N K len f) c1 c2 a3 a4 k) s2' ρ c1 c2 a3 a4 y5 y6 v7) (fun q => KD σ q.2 ∧ (∀ r k, 40 ≤ r → r ≤ 41 + 2 * d → q.2 r k = s r k) ∧ (-(2400 * ((n : Int) - (d : Int))) ≤ q.1.toInt ∧ q.1.toInt ≤ 2400 * ((n : Int) - (d : Int))) ∧ ∀ (e m : Nat) (τ0 τ7 : SG) (ρ' : RG) (u5 u6 x : Int32), GW d σ s τ0 → HK d τ0 τ7 → ET 0 σ τ7 → GV y5 y6 u5 u6 → x = v7 + 1 → kp (F_X12_gameFor_B_24 (F_X12_gameFor_R e) J1 J2 a3 aN m τ7 ρ' J1 J2 a3 aN u5 u6 x) (fun q' => q.1 = q'.1 ∧ ET 0 σ q'.2 ∧ RK d τ0 q'.2 ∧ (d = 0 → q.2 0 10 = q'.2 54 26))) := fun s2' y5 y6 h1 h2 h3 => by
          unfold F_X11_bestOf_B_98
          refine kp_gd (fun _ => kp_gd (fun _ => kp_nm (fun x22 h22 => ?_)))
          have e22 : x22.toInt = ((w + 1 : Nat) : Int) := by rw [h22, ti_add (by rw [ti_1]; omega) (by rw [ti_1]; omega), ti_1, hw]; omega
          refine kp_mono (ih s2' y5 y6 x22 (w + 1) e22 (by omega) h1 h2 h3) (fun q hq => ⟨hq.1, hq.2.1, hq.2.2.1, fun e m τ0 τ7 ρ' u5 u6 x gw hk et gv hx => ?_⟩)
          rw [hx, ← h22]; exact hq.2.2.2 e m τ0 τ7 ρ' u5 u6 gw hk et gv
        refine kp_ih (fun y0 => kp_mono (next σ20 v5 v6 hd20 l20 cv) (fun q hq => ⟨hq.1, hq.2.1, hq.2.2.1, fun e m τ0 τ ρ' u5 u6 gw hk et gv => ref e m τ0 τ ρ' u5 u6 _ gw hk et (fun m' r18 τ18 cut et' ak => ?_)⟩)) (fun y0 => ?_)
        · obtain ⟨-, -, -, g⟩ := cut
          rcases g with ⟨q1, -⟩ | ⟨-, q2, -⟩
          · exact absurd (y0.symm.trans (show r20 = 1 from q1)) (by decide)
          exact kp_t q2 (back e m' τ0 τ18 ρ' u5 u6 _ ak et' (fun τ7 x hk7 et7 hx => hq.2.2.2 e m' τ0 τ7 ρ' u5 u6 x gw hk7 et7 gv hx))
        -- it can be cut
        have r1 : r20 = 1 := by
          rcases w01 with q | q
          · exact absurd q y0
          · exact q
        obtain ⟨⟨⟨w60, w61⟩, -, -⟩, wu, ws⟩ := wy r1
        refine kp_nm (fun x23 h23 => kp_gd (fun _ => ?_))
        have e23 : x23.toInt = ((d + 1 : Nat) : Int) := by rw [h23, ti_add (by rw [ti_1]; omega) (by rw [ti_1]; omega), ti_1, ha]; omega
        rw [cn e23, ly34 b.1.1 (by omega : d + 1 < 7)]
        show kp (gd (isLb _) _) _
        rw [ed]
        refine kp_gd (fun _ => kp_nm (fun x26 h26 => kp_nm (fun x27 h27 => ?_)))
        have e26 : x26.toInt = ((d + 1 : Nat) : Int) := by rw [h26, ← h23]; exact e23
        have e27 : x27.toInt = (n : Int) - ((d + 1 : Nat) : Int) := by rw [h27, ti_sub (by rw [ti_1]; omega) (by rw [ti_1]; omega), ti_1, h4]; omega
        refine kp_bn2 (ihf (d + 1) c2 c1 j2 j1 J2 J1 x26 x27 σ20 hj2 hJ2 hc2 hl2 hj1 hJ1 hc1 hl1 e26 e27 (by omega) hd20 (by rw [ed]; exact wu) (by rw [ed]; exact ws)) (fun r28 σ28 h28 => kp_nm (fun x29 h29 => ?_))
        obtain ⟨g1, g2, ⟨g3, g4⟩, g5⟩ := h28
        have g1 : KD σ σ28 := g1
        have g2 : ∀ r k, 40 ≤ r → r ≤ 41 + 2 * (d + 1) → σ28 r k = σ20 r k := g2
        have g3 : -(2400 * ((n : Int) - ((d + 1 : Nat) : Int))) ≤ r28.toInt := g3
        have g4 : r28.toInt ≤ 2400 * ((n : Int) - ((d + 1 : Nat) : Int)) := g4
        have e29 : x29.toInt = (σ20 (42 + 2 * d) 6).toInt - r28.toInt := by rw [h29, ti_sub (by omega) (by omega)]
        have l28 : ∀ r k, 40 ≤ r → r ≤ 41 + 2 * d → σ28 r k = s r k := fun r k h1 h2 => (g2 r k h1 (by omega)).trans (l20 r k h1 h2)
        -- the reference behind what comes after
        have refc : ∀ (e m : Nat) (τ0 τ : SG) (ρ' : RG) (u5 u6 : Int32) (P : Int32 × SG → Prop), GW d σ s τ0 → HK d τ0 τ → ET 0 σ τ → (∀ (m' : Nat) (τ23 : SG), AK d τ0 τ23 → ET 0 σ τ23 → kp (if x29 ≤ u5 then F_X12_gameFor_B_115 (F_X12_gameFor_R e) J1 J2 a3 aN (F_X12_gameFor_B_24 (F_X12_gameFor_R e) J1 J2 a3 aN m') τ23 ρ' J1 J2 a3 aN u5 v7 x29 u6 else F_X12_gameFor_B_115 (F_X12_gameFor_R e) J1 J2 a3 aN (F_X12_gameFor_B_24 (F_X12_gameFor_R e) J1 J2 a3 aN m') τ23 ρ' J1 J2 a3 aN u5 v7 x29 v7) P) → kp (F_X12_gameFor_B_24 (F_X12_gameFor_R e) J1 J2 a3 aN m τ ρ' J1 J2 a3 aN u5 u6 v7) P := fun e m τ0 τ ρ' u5 u6 P gw hk et kk => ref e m τ0 τ ρ' u5 u6 P gw hk et (fun m' r18 τ18 cut et' ak => by
          obtain ⟨-, le', lq', g⟩ := cut
          have le' : LE (42 + 2 * d) σ20 τ18 := le'
          have lq' : LQ (999 + (d : Int) + 1) τ18 := lq'
          rcases g with ⟨q1, q2, -, ⟨ww6, -, -⟩, -⟩ | ⟨q1, q2, -⟩
          rotate_left
          · exact absurd q1 y0
          refine kp_f (by rw [show r18 = 1 from q2]; decide) (kp_nm (fun x22 k22 => ?_))
          have ex : x22 = x26 := by rw [k22, h26]
          rw [ex]
          refine kp_bn2 (g5 e τ18 ρ' ⟨et', by rw [ed]; exact le', ⟨lq'.1, lq'.2.1, ⟨lq'.2.2.1, by have := lq'.2.2.2; omega⟩⟩⟩) (fun r23 τ23 k23 => kp_nm (fun x24 k24 => ?_))
          have ex24 : x24 = x29 := by rw [k24, h29, show σ20 (42 + 2 * d) 6 = τ18 54 14 from ww6, show r28 = r23 from k23.1]
          rw [ex24]
          exact kk m' τ23 (ak_rk ak k23.2.2.1) k23.2.1)
        have u115 : ∀ (e m' : Nat) (τ0 τ23 : SG) (ρ' : RG) (u5 k0 : Int32) (P : Int32 × SG → Prop), AK d τ0 τ23 → ET 0 σ τ23 → (∀ (τ7 : SG) (x : Int32), HK d τ0 τ7 → ET 0 σ τ7 → x = v7 + 1 → kp (F_X12_gameFor_B_24 (F_X12_gameFor_R e) J1 J2 a3 aN m' τ7 ρ' J1 J2 a3 aN (if x29 ≤ u5 then u5 else x29) k0 x) P) → kp (F_X12_gameFor_B_115 (F_X12_gameFor_R e) J1 J2 a3 aN (F_X12_gameFor_B_24 (F_X12_gameFor_R e) J1 J2 a3 aN m') τ23 ρ' J1 J2 a3 aN u5 v7 x29 k0) P := fun e m' τ0 τ23 ρ' u5 k0 P ak et kk => by
          unfold F_X12_gameFor_B_115 F_X12_gameFor_B_131
          refine kp_ih (fun y => back e m' τ0 τ23 ρ' u5 k0 P ak et (fun τ7 x h1 h2 h3 => ?_)) (fun y => back e m' τ0 τ23 ρ' x29 k0 P ak et (fun τ7 x h1 h2 h3 => ?_))
          · have := kk τ7 x h1 h2 h3
            rw [if_pos y] at this; exact this
          · have := kk τ7 x h1 h2 h3
            rw [if_neg y] at this; exact this
        have n7 : ¬ v7 = -5 := fun q => by
          rw [q] at hw
          have : (-5 : Int32).toInt = -5 := rfl
          omega
        -- the new one is the best
        have take : (v6 = -5 ∨ (¬ v6 = -5 ∧ ¬ x29 ≤ v5)) → kp (F_X11_bestOf_B_90 N K len (F_X11_bestOf_R N K len f) c1 c2 a3 a4 (F_X11_bestOf_B_28 N K len (F_X11_bestOf_R N K len f) c1 c2 a3 a4 k) σ28 ρ c1 c2 a3 a4 v7 x29) (fun q => KD σ q.2 ∧ (∀ r k, 40 ≤ r → r ≤ 41 + 2 * d → q.2 r k = s r k) ∧ (-(2400 * ((n : Int) - (d : Int))) ≤ q.1.toInt ∧ q.1.toInt ≤ 2400 * ((n : Int) - (d : Int))) ∧ ∀ (e m : Nat) (τ0 τ : SG) (ρ' : RG) (u5 u6 : Int32), GW d σ s τ0 → HK d τ0 τ → ET 0 σ τ → GV v5 v6 u5 u6 → kp (F_X12_gameFor_B_24 (F_X12_gameFor_R e) J1 J2 a3 aN m τ ρ' J1 J2 a3 aN u5 u6 v7) (fun q' => q.1 = q'.1 ∧ ET 0 σ q'.2 ∧ RK d τ0 q'.2 ∧ (d = 0 → q.2 0 10 = q'.2 54 26))) := fun cond => by
          unfold F_X11_bestOf_B_90
          refine kp_gd (fun _ => kp_gd (fun _ => kp_mono (next σ28 x29 v7 g1 l28 (Or.inr ⟨n7, by omega, by omega⟩)) (fun q hq => ⟨hq.1, hq.2.1, hq.2.2.1, fun e m τ0 τ ρ' u5 u6 gw hk et gv => refc e m τ0 τ ρ' u5 u6 _ gw hk et (fun m' τ23 ak et' => ?_)⟩)))
          have nn : ¬ x29 ≤ u5 := by
            rcases cond with y | ⟨y, y'⟩
            · rw [gv.2.1 y]
              intro z
              have := le_i z
              omega
            · rw [gv.2.2 y]; exact y'
          refine kp_f nn (u115 e m' τ0 τ23 ρ' u5 v7 _ ak et' (fun τ7 x h1 h2 h3 => ?_))
          rw [if_neg nn]
          exact hq.2.2.2 e m' τ0 τ7 ρ' x29 v7 x gw h1 h2 ⟨rfl, fun y => absurd y n7, fun _ => rfl⟩ h3
        refine kp_ih (fun y5 => take (Or.inl y5)) (fun y5 => kp_ih (fun y6 => kp_mono (next σ28 v5 v6 g1 l28 cv) (fun q hq => ⟨hq.1, hq.2.1, hq.2.2.1, fun e m τ0 τ ρ' u5 u6 gw hk et gv => refc e m τ0 τ ρ' u5 u6 _ gw hk et (fun m' τ23 ak et' => ?_)⟩)) (fun y6 => take (Or.inr ⟨y5, y6⟩)))
        have e5 : x29 ≤ u5 := by rw [gv.2.2 y5]; exact y6
        refine kp_t e5 (u115 e m' τ0 τ23 ρ' u5 u6 _ ak et' (fun τ7 x h1 h2 h3 => ?_))
        rw [if_pos e5]
        exact hq.2.2.2 e m' τ0 τ7 ρ' u5 u6 x gw h1 h2 gv h3
    refine kp_mono (loop 1024 s 0 (-5) 0 0 rfl (by omega) hd (fun _ _ _ _ => rfl) (Or.inl ⟨rfl, rfl⟩)) (fun q hq => ⟨hq.1, hq.2.1, hq.2.2.1, fun e τ ρ' gw => ?_⟩)
    cases e with
    | zero => exact kp_none
    | succ e =>
      show kp (F_X12_gameFor_B (F_X12_gameFor_R e) J1 J2 a3 aN τ ρ') _
      unfold F_X12_gameFor_B
      refine kp_f (fun y => ?_) (kp_bn (kp_and (hk_stands (k := d) (by omega) ha) (k_stands (k := d) (by omega) ha)) (fun τ2 g2 => ?_))
      · have := congrArg Int32.toInt y
        omega
      exact kp_mono (hq.2.2.2 e 1024 τ τ2 ρ' (-1000000) (-5) gw g2.1 ⟨fun x hx => by rw [g2.2.1 55 (by decide)]; exact gw.1.1 x hx, by rw [g2.2.1 54 (by decide)]; exact gw.1.2.1, by rw [g2.2.1 54 (by decide)]; exact gw.1.2.2⟩ ⟨rfl, fun _ => rfl, fun y => absurd rfl y⟩) (fun q' hq' => ⟨hq'.1, hq'.2.1, hq'.2.2.1, fun _ y => hq'.2.2.2 y⟩)
theorem game_l {N : Nat} {K len : Nat → Nat} {a1 a2 a3 a4 : Int32} {σ : SG} {ρ : RG} (b : BS N K len σ ρ) : kp (F_X11_game N K len a1 a2 a3 a4 σ ρ) (fun q => ∀ (τ : SG) (ρ' : RG), RT σ τ → kp (F_X12_game a1 a2 a3 a4 τ ρ') (fun q' => q.1 = q'.1)) := by
  have i5 : (5 : Int32).toInt = 5 := rfl
  have lq := b.2.2.2.1.1.2.1
  have l1 : σ 3 2 = σ 55 1 := b.2.2.2.1.1.1 1 (by decide)
  have l2 : σ 3 3 = σ 55 2 := b.2.2.2.1.1.1 2 (by decide)
  unfold F_X11_game
  refine kp_bn (at_bs (N := N) (len := len) b (kd_refl σ)) (fun o1 h1 => ?_)
  rcases h1 with ⟨rfl, no⟩ | ⟨c1, j1, rfl, v1, v2, hj1, ej1, hc1⟩
  · have k : ∀ (τ : SG) (ρ' : RG), RT σ τ → kp (F_X12_game a1 a2 a3 a4 τ ρ') (fun q' => (-10001 : Int32) = q'.1) := fun τ ρ' t => by
      unfold F_X12_game
      exact kp_bn (ic_et b (et_rt b t)) (fun r1 g1 => kp_ih (fun _ => kp_some rfl) (fun z => absurd (g1.mp z) no))
    refine kp_bx (fun o3 => ?_)
    cases o3 with
    | none => exact kp_some k
    | some c4 => exact kp_gd (fun _ => kp_some k)
  show kp (gd (isC N K c1) _) _
  refine kp_gd (fun hcc1 => kp_bn (at_bs (N := N) (len := len) b (kd_refl σ)) (fun o5 h5 => ?_))
  rcases h5 with ⟨rfl, no⟩ | ⟨c2, j2, rfl, v1', v2', hj2, ej2, hc2⟩
  · refine kp_some (fun τ ρ' t => ?_)
    unfold F_X12_game
    exact kp_bn (ic_et b (et_rt b t)) (fun r1 g1 => kp_f (g1.mpr ⟨v1, v2⟩) (kp_bn (ic_et b (et_rt b t)) (fun r3 g3 => kp_ih (fun _ => kp_some rfl) (fun z => absurd (g3.mp z) no))))
  show kp (gd (isC N K c2) _) _
  refine kp_gd (fun hcc2 => kp_bn (kp_ok wi_0) (fun r7 h7 => kp_ih (fun d => kp_some (fun τ ρ' t => ?_)) (fun d => kp_ih (fun eq => kp_some (fun τ ρ' t => ?_)) (fun ne => kp_bn (kp_ok wi_0) (fun r10 h10 => kp_ih (fun d' => kp_some (fun τ ρ' t => ?_)) (fun d' => kp_bn (k_start8 b.1.1) (fun σ12 h12 => ?_)))))))
  · have n : ¬ ((0 : Int32) ≤ a4 ∧ a4 ≤ (1 : Int32)) := fun q => h7.2.mpr q d
    unfold F_X12_game
    exact kp_bn (ic_et b (et_rt b t)) (fun r1 g1 => kp_f (g1.mpr ⟨v1, v2⟩) (kp_bn (ic_et b (et_rt b t)) (fun r3 g3 => kp_f (g3.mpr ⟨v1', v2'⟩) (kp_bn (kp_ok in_0) (fun r g => kp_ih (fun _ => kp_some rfl) (fun z => absurd (g.2.mp z) n))))))
  · have y7 := h7.2.mp d
    unfold F_X12_game
    exact kp_bn (ic_et b (et_rt b t)) (fun r1 g1 => kp_f (g1.mpr ⟨v1, v2⟩) (kp_bn (ic_et b (et_rt b t)) (fun r3 g3 => kp_f (g3.mpr ⟨v1', v2'⟩) (kp_bn (kp_ok in_0) (fun r g => kp_f (g.2.mpr y7) (kp_t eq (kp_some rfl)))))))
  · have y7 := h7.2.mp d
    have n : ¬ ((1 : Int32) ≤ a3 ∧ a3 ≤ (5 : Int32)) := fun q => h10.2.mpr q d'
    unfold F_X12_game
    exact kp_bn (ic_et b (et_rt b t)) (fun r1 g1 => kp_f (g1.mpr ⟨v1, v2⟩) (kp_bn (ic_et b (et_rt b t)) (fun r3 g3 => kp_f (g3.mpr ⟨v1', v2'⟩) (kp_bn (kp_ok in_0) (fun r g => kp_f (g.2.mpr y7) (kp_f ne (kp_bn (kp_ok in_0) (fun r g => kp_ih (fun _ => kp_some rfl) (fun z => absurd (g.2.mp z) n)))))))))
  have y7 := h7.2.mp d
  have y10 := h10.2.mp d'
  have y10i := rc_i y10
  rw [ti_1, i5] at y10i
  obtain ⟨n, hn⟩ : ∃ n : Nat, a3.toInt = (n : Int) := ⟨a3.toInt.toNat, by omega⟩
  have q1 := lt_i v2
  have q2 := lt_i v2'
  refine kp_bn2 (game_R b hn (by omega) 9 0 c1 c2 j1 j2 a1 a2 0 a3 σ12 hj1 ej1 hc1 (by omega) hj2 ej2 hc2 (by omega) rfl (by rw [hn]; omega) (by omega) h12.1 (by rw [h12.2.1 2 (by decide), l1]; exact lq.1) (by rw [h12.2.1 3 (by decide), l2]; exact lq.2.1)) (fun r13 σ13 h13 => ?_)
  obtain ⟨-, -, -, g⟩ := h13
  have ref : ∀ (τ : SG) (ρ' : RG) (v : Int32), RT σ τ → (∀ (r10 : Int32) (σ10 : SG), r13 = r10 → σ13 0 10 = σ10 54 26 → kp (if a4 = 0 then some (r10, σ10) else some ((σ10 54 26), σ10)) (fun q' => v = q'.1)) → kp (F_X12_game a1 a2 a3 a4 τ ρ') (fun q' => v = q'.1) := fun τ ρ' v t kk => by
    have et := et_rt b t
    have lss := lss_t b.1 b.2.2.2.1 t
    obtain ⟨x1, x2, -⟩ := lss.1
    unfold F_X12_game F_X12_gameFor
    refine kp_bn (ic_et b et) (fun r1 g1 => kp_f (g1.mpr ⟨v1, v2⟩) (kp_bn (ic_et b et) (fun r3 g3 => kp_f (g3.mpr ⟨v1', v2'⟩) (kp_bn (kp_ok in_0) (fun r g5 => kp_f (g5.2.mpr y7) (kp_f ne (kp_bn (kp_ok in_0) (fun r' g6 => kp_f (g6.2.mpr y10) (kp_bn2 (g 7 τ ρ' ⟨et, ⟨?_, ?_, ?_, ?_, ?_⟩, x2.1, x2.2.1, x2.2.2⟩) (fun r10 σ10 k10 => kk r10 σ10 k10.1 (k10.2.2.2 (by omega) rfl)))))))))))
    · exact (h12.2.1 1 (by decide)).trans (x1 0 (by decide))
    · exact (h12.2.1 2 (by decide)).trans (x1 1 (by decide))
    · exact (h12.2.1 3 (by decide)).trans (x1 2 (by decide))
    · exact (h12.2.1 4 (by decide)).trans (x1 3 (by decide))
    · exact (h12.2.1 5 (by decide)).trans (x1 4 (by decide))
  exact kp_ih (fun z => kp_some (fun τ ρ' t => ref τ ρ' _ t (fun r10 σ10 e1 _ => kp_t z (kp_some e1)))) (fun z => kp_some (fun τ ρ' t => ref τ ρ' _ t (fun r10 σ10 _ e2 => kp_f z (kp_some e2))))
