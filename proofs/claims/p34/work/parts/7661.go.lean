/-! PART 7661.go: by hand: going on, side by side; lasts, toasted, on -/
def GF (σ σ' τ : SG) : Prop := KD σ σ' ∧ AWAY σ τ ∧ LE 37 σ' τ ∧ (∀ j, j < 6 → τ 55 (5 + j) = σ 55 (5 + j) + σ' 39 j) ∧ σ' 0 13 = τ 54 20 ∧ σ' 0 14 = τ 54 21 ∧ τ 54 19 = τ 55 3 - σ 55 3
theorem k_good {N : Nat} {K len : Nat → Nat} {σ σ' τ : SG} {ρ ρ' : RG} (b : BS N K len σ ρ) (hd : KD σ σ') (t : ET 0 σ τ) : kp (F_X12_isGood τ ρ') (fun q => q = if τ 54 15 < σ' 5 0 then 0 else 1) := by
  unfold F_X12_isGood
  refine kp_bn (k_tells (hb_et b hd t) (Or.inl ⟨rfl, rfl, rfl⟩)) (fun r1 h1 => ?_)
  rw [h1]
  exact kp_ih (fun c => kp_some (if_pos c).symm) (fun c => kp_some (if_neg c).symm)
theorem go_loop {N : Nat} {K len : Nat → Nat} {a1 a2 a3 a4 b1 b2 b3 v1 v2 v4 : Int32} {σ : SG} {ρ : RG} (b : BS N K len σ ρ) (hv : v1.toInt ≤ 1000) : ∀ (n : Nat) (σ' : SG) (v5 : Int32) (k : Nat), v5.toInt = (k : Int) → k ≤ 1000 → KD σ σ' → kp (F_X11_goOn_54 N K len a1 a2 a3 a4 n σ' ρ v1 v2 0 v4 v5) (fun q => KD σ q ∧ ∀ (m : Nat) (τ : SG) (ρ' : RG), GF σ σ' τ → LQ (999 + (k : Int)) τ → kp (F_X12_goesOn_18 b1 b2 b3 m τ ρ' v1 v4 v2 v5) (fun q' => GF σ q q')) := by
  have t11 : σ 1 1 = σ 55 11 := b.2.1.1.1
  obtain ⟨c0, c6⟩ := b.2.2.2.2
  intro n
  induction n with
  | zero => intro σ' v5 k _ _ _; exact kp_none
  | succ n ih =>
    intro σ' v5 k hk hk1 hd
    have w1 : ∀ s : SG, KD σ s → s 1 1 = σ 1 1 := fun s h => kd_lo h (by decide) (by decide)
    have w50 : ∀ s : SG, KD σ s → s 5 0 = σ 5 0 := fun s h => kd_lo h (by decide) (by decide)
    have w51 : ∀ s : SG, KD σ s → s 5 1 = σ 5 1 := fun s h => kd_lo h (by decide) (by decide)
    -- the cut of this round, from a face that may have been straightened
    have cutS : ¬ σ 1 1 ≤ 0 → v5.toInt < v1.toInt → ∀ s : SG, KD σ s → kp (F_X11_goOn_104 N K len a1 a2 a3 a4 (F_X11_goOn_54 N K len a1 a2 a3 a4 n) s ρ v1 v2 0 v4 v5) (fun q => KD σ q ∧ ∀ (m : Nat) (τ : SG) (ρ' : RG) (x10 : Int32), GF σ s τ → LQ (999 + (k : Int)) τ → x10 = v5 - v5 / (σ 1 1) * (σ 1 1) → kp (F_X12_goesOn_72 b1 b2 b3 (F_X12_goesOn_18 b1 b2 b3 m) τ ρ' v1 v4 v2 v5 x10) (fun q' => GF σ q q')) := by
      intro d1 d0 s hs
      have p1 := lt_i (nle d1)
      rw [ti_0] at p1
      unfold F_X11_goOn_104
      rw [w1 s hs]
      refine kp_gd (fun _ => kp_nm (fun x11 h11 => kp_bn (at_bs (N := N) (len := len) b hs) (fun o12 h12 => ?_)))
      have r11 : x11.toInt = v5.toInt % (σ 1 1).toInt := by rw [h11, ti_rem (by omega), Int.tmod_eq_emod_of_nonneg (by omega)]
      have r11a : 0 ≤ x11.toInt := by rw [r11]; exact Int.emod_nonneg _ (by omega)
      have r11b : x11.toInt < (σ 1 1).toInt := by rw [r11]; exact Int.emod_lt_of_pos _ (by omega)
      rcases h12 with ⟨rfl, no⟩ | ⟨c, j, rfl, v1', v2', hj, ej, hcj⟩
      · exact absurd ⟨i_le (by rw [ti_0]; omega), i_lt r11b⟩ no
      show kp (gd (isC N K c) _) _
      obtain ⟨th, tr⟩ := th_bs b hj hcj (by omega)
      have c65 := (pr_65 b.1 (Or.inl rfl) hj hcj).1
      have tc : s c 4 = σ c 4 := kd_hi hs (by omega)
      rw [tc]
      have tr' : rg (σ c 4) 0 100 := by rw [th]; exact ⟨by have := tr.1; omega, by have := tr.2; omega⟩
      refine kp_gd (fun hcc => kp_bn2 (sim_try (i := 37) (a5 := 0) (e := 0) b (by decide) ej hj hcj hcc hs tr' ⟨fun _ => rfl, fun _ => rfl⟩) (fun r14 σ14 h14 => ?_))
      have hd14 : KD σ σ14 := h14.1
      have ki : KI 37 s σ14 := h14.2.1
      -- the reference up to the end of its cut
      have ref : ∀ (m : Nat) (τ : SG) (ρ' : RG) (x10 : Int32) (P : SG → Prop), GF σ s τ → LQ (999 + (k : Int)) τ → x10 = v5 - v5 / (σ 1 1) * (σ 1 1) → (∀ τ14, r14 = 0 → GF σ σ14 τ14 → P τ14) → (∀ (τ18 : SG) (k1 : Int32), r14 = 1 → KD σ σ14 → AWAY σ τ18 → LE 37 σ14 τ18 → LQ (999 + ((k + 1 : Nat) : Int)) τ18 → (∀ j', j' < 6 → τ18 55 (5 + j') = σ 55 (5 + j') + (if j' = j then s 39 j + σ14 37 6 else s 39 j')) → s 0 13 = τ18 54 20 → s 0 14 = τ18 54 21 → τ18 54 19 = τ18 55 3 - σ 55 3 → σ14 37 7 = τ18 54 15 → σ14 37 8 = τ18 54 16 → k1 = (if σ14 37 7 < σ14 5 0 then 0 else 1) → kp (F_X12_goesOn_119 b1 b2 b3 (F_X12_goesOn_18 b1 b2 b3 m) τ18 ρ' v1 v4 v2 v5 (τ18 54 20) k1) P) → kp (F_X12_goesOn_72 b1 b2 b3 (F_X12_goesOn_18 b1 b2 b3 m) τ ρ' v1 v4 v2 v5 x10) P := by
        intro m τ ρ' x10 P g lq hx stop go
        obtain ⟨-, aw, le, ea, g13, g14, g19⟩ := g
        have ex : x10 = x11 := by rw [hx, h11]
        rw [ex]
        unfold F_X12_goesOn_72
        refine kp_nm (fun x12 g12 => kp_gd (fun _ => ?_))
        rw [jn ej hj g12, aw.1.1 (44 + j) (by omega), ← th]
        refine kp_bn2 (h14.2.2 τ ρ' (999 + (k : Int)) (by omega) aw.1 le lq) (fun r14' τ14 q14 => ?_)
        obtain ⟨⟨ft, le', lq', cs⟩, et⟩ := q14
        have ft : FT j τ τ14 := ft
        have aw' : AWAY σ τ14 := away_ft hj aw ft
        have lq' : LQ (999 + (k : Int) + 1) τ14 := lq'
        have f54 : ∀ x, ¬ (12 ≤ x ∧ x ≤ 16) → τ14 54 x = τ 54 x := fun x n => ft 54 x (by decide) (by decide) (by omega) (by omega)
        have f55 : ∀ j', j' < 6 → j' ≠ j → τ14 55 (5 + j') = τ 55 (5 + j') := fun j' h n => ft 55 (5 + j') (by decide) (by decide) (by omega) (by omega)
        rcases cs with ⟨q, q', t3, ⟨ww1, ww2, ww3⟩, e5⟩ | ⟨q, q', t3, e5⟩
        · have q : r14 = 1 := q
          have q' : r14' = 1 := q'
          have t3 : τ14 55 3 = τ 55 3 + 1 := t3
          have ww1 : σ14 37 6 = τ14 54 14 := ww1
          have ww2 : σ14 37 7 = τ14 54 15 := ww2
          have ww3 : σ14 37 8 = τ14 54 16 := ww3
          have e5 : τ14 55 (5 + j) = τ 55 (5 + j) + τ14 54 14 := e5
          refine kp_f (by rw [q']; decide) (kp_nm (fun x16 g16 => kp_nm (fun τ18 g18 => ?_)))
          have s18 : ∀ r x, ¬ (r = 54 ∧ x = 19) → τ18 r x = τ14 r x := fun r x n => by rw [g18, sn n]
          have aw18 : AWAY σ τ18 := ⟨⟨fun x hx => by rw [s18 55 x (by omega)]; exact aw'.1.1 x hx, by rw [s18 54 17 (by omega)]; exact aw'.1.2.1, by rw [s18 54 18 (by omega)]; exact aw'.1.2.2⟩, fun x hx => by rw [s18 57 x (by omega)]; exact aw'.2 x hx⟩
          obtain ⟨m1, m2, m3, m4, m5⟩ := le'
          refine kp_bn (k_good b hd14 aw18.1) (fun r19 g19' => ?_)
          have body : ∀ k1 : Int32, k1 = (if σ14 37 7 < σ14 5 0 then 0 else 1) → kp (F_X12_goesOn_119 b1 b2 b3 (F_X12_goesOn_18 b1 b2 b3 m) τ18 ρ' v1 v4 v2 v5 (τ18 54 20) k1) P := fun k1 e1 => by
            refine go τ18 k1 q hd14 aw18 ⟨by rw [s18 55 0 (by omega)]; exact m1, by rw [s18 55 1 (by omega)]; exact m2, by rw [s18 55 2 (by omega)]; exact m3, by rw [s18 55 3 (by omega)]; exact m4, by rw [s18 55 4 (by omega)]; exact m5⟩ ⟨by rw [s18 55 1 (by omega)]; exact lq'.1, by rw [s18 55 2 (by omega)]; exact lq'.2.1, by rw [s18 55 3 (by omega)]; exact ⟨lq'.2.2.1, by have := lq'.2.2.2; omega⟩⟩ (fun j' hj' => ?_) ?_ ?_ ?_ ?_ ?_ e1
            · rw [s18 55 (5 + j') (by omega)]
              by_cases z : j' = j
              · rw [if_pos z, z, e5, ea j hj, ww1]; grind
              · rw [if_neg z, f55 j' hj' z]; exact ea j' hj'
            · rw [s18 54 20 (by omega), f54 20 (by omega)]; exact g13
            · rw [s18 54 21 (by omega), f54 21 (by omega)]; exact g14
            · rw [g18, sv, g16, f54 19 (by omega), g19, sn (by omega), t3]; grind
            · rw [s18 54 15 (by omega)]; exact ww2
            · rw [s18 54 16 (by omega)]; exact ww3
          have e19 : r19 = (if σ14 37 7 < σ14 5 0 then 0 else 1) := by rw [g19', s18 54 15 (by omega), ← ww2]
          refine kp_ih (fun z => body 0 (by rw [← e19, z])) (fun z => body 1 ?_)
          by_cases w : σ14 37 7 < σ14 5 0
          · rw [if_pos w] at e19; exact absurd e19 z
          · rw [if_neg w]
        · have q : r14 = 0 := q
          have q' : r14' = 0 := q'
          have e5 : τ14 55 (5 + j) = τ 55 (5 + j) := e5
          refine kp_t q' (kp_some (stop τ14 q ⟨hd14, aw', le', fun j' hj' => ?_, ?_, ?_, ?_⟩))
          · rw [ki 39 j' (by decide) (by decide)]
            by_cases z : j' = j
            · rw [z, e5]; exact ea j hj
            · rw [f55 j' hj' z]; exact ea j' hj'
          · rw [ki 0 13 (by decide) (by decide), f54 20 (by omega)]; exact g13
          · rw [ki 0 14 (by decide) (by decide), f54 21 (by omega)]; exact g14
          · rw [f54 19 (by omega), show τ14 55 3 = τ 55 3 from t3 3 (by decide)]; exact g19
      refine kp_ih (fun z => kp_some ⟨hd14, fun m τ ρ' x10 g lq hx => ref m τ ρ' x10 _ g lq hx (fun τ14 _ h => h) (fun τ18 k1 q => absurd (z.symm.trans q) (by decide))⟩) (fun z => kp_f (fun w => by have := le_i w; have e6 : (6 : Int32).toInt = 6 := rfl; omega) (kp_gd (fun _ => kp_nm (fun x27 h27 => kp_gd (fun _ => kp_nm (fun σ30 h30 => ?_))))))
      have nx : x11.toNatClampNeg = j := cn ej
      rw [nx] at h27 h30
      have s30 : ∀ r x, ¬ (r = 39 ∧ x = j) → σ30 r x = σ14 r x := fun r x n => by rw [h30, sn n]
      have v30 : σ30 39 j = s 39 j + σ14 37 6 := by rw [h30, sv, h27, ki 39 j (by decide) (by decide)]
      have kdl : ∀ (s1 s2 : SG), KD σ s1 → (∀ r x, ¬ (r = 0 ∧ (x = 13 ∨ x = 14)) → ¬ (r = 39) → s2 r x = s1 r x) → KD σ s2 := fun s1 s2 h e => kd_trans h (fun r x p => e r x (fun z => by rcases z with ⟨z, z' | z'⟩ <;> rw [z, z'] at p <;> cases p) (fun z => by rw [z] at p; cases p))
      have hd30 : KD σ σ30 := kdl σ14 σ30 hd14 (fun r x _ n => s30 r x (by omega))
      unfold F_X11_goOn_186
      -- the second flag
      have two : ∀ (σ20 : SG) (k1 k2 : Int32), (∀ r x, ¬ (r = 0 ∧ x = 13) → σ20 r x = σ30 r x) → σ20 0 13 = σ30 0 13 + k1 → k1 = (if σ14 37 7 < σ14 5 0 then 0 else 1) → k2 = (if v4 < σ14 37 8 then 0 else 1) → kp (F_X11_goOn_242 N K len a1 a2 a3 a4 (F_X11_goOn_54 N K len a1 a2 a3 a4 n) σ20 ρ v1 v2 0 v4 v5 (σ20 0 14) k2) (fun q => KD σ q ∧ ∀ (m : Nat) (τ : SG) (ρ' : RG) (x10 : Int32), GF σ s τ → LQ (999 + (k : Int)) τ → x10 = v5 - v5 / (σ 1 1) * (σ 1 1) → kp (F_X12_goesOn_72 b1 b2 b3 (F_X12_goesOn_18 b1 b2 b3 m) τ ρ' v1 v4 v2 v5 x10) (fun q' => GF σ q q')) := by
        intro σ20 k1 k2 s20 v20 ek1 ek2
        unfold F_X11_goOn_242
        refine kp_nm (fun x22 h22 => kp_nm (fun σ24 h24 => kp_nm (fun x25 h25 => ?_)))
        have e25 : x25.toInt = ((k + 1 : Nat) : Int) := by rw [h25, ti_add (by rw [ti_1]; omega) (by rw [ti_1]; omega), ti_1, hk]; omega
        have s24 : ∀ r x, ¬ (r = 0 ∧ (x = 13 ∨ x = 14)) → σ24 r x = σ30 r x := fun r x n => by rw [h24, sn (by omega), s20 r x (by omega)]
        have v13 : σ24 0 13 = s 0 13 + k1 := by rw [h24, sn (by omega), v20, s30 0 13 (by omega), ki 0 13 (by decide) (by decide)]
        have v14 : σ24 0 14 = s 0 14 + k2 := by rw [h24, sv, h22, s20 0 14 (by omega), s30 0 14 (by omega), ki 0 14 (by decide) (by decide)]
        have hd24 : KD σ σ24 := kdl σ30 σ24 hd30 (fun r x n _ => s24 r x n)
        refine kp_mono (ih σ24 x25 (k + 1) e25 (by omega) hd24) (fun q hq => ⟨hq.1, fun m τ ρ' x10 g lq hx => ref m τ ρ' x10 _ g lq hx (fun τ14 q0 _ => absurd q0 z) (fun τ18 k1' qq _ aw le lq' ea g13 g14 g19 g7 g8 ek => ?_)⟩)
        have ekk : k1' = k1 := ek.trans ek1.symm
        rw [ekk]
        unfold F_X12_goesOn_119
        refine kp_nm (fun x21 g21 => kp_nm (fun τ23 g23 => ?_))
        have u23 : ∀ r x, ¬ (r = 54 ∧ x = 20) → τ23 r x = τ18 r x := fun r x n => by rw [g23, sn n]
        have last : ∀ k2' : Int32, k2' = k2 → kp (F_X12_goesOn_141 b1 b2 b3 (F_X12_goesOn_18 b1 b2 b3 m) τ23 ρ' v1 v4 v2 v5 (τ23 54 21) k2') (fun q' => GF σ q q') := fun k2' e2 => by
          rw [e2]
          unfold F_X12_goesOn_141
          refine kp_nm (fun x25' g25 => kp_nm (fun τ27 g27 => kp_nm (fun x28 g28 => ?_)))
          have e28 : x28 = x25 := by rw [g28, h25]
          rw [e28]
          have u27 : ∀ r x, ¬ (r = 54 ∧ (x = 20 ∨ x = 21)) → τ27 r x = τ18 r x := fun r x n => by rw [g27, sn (by omega), u23 r x (by omega)]
          obtain ⟨m1, m2, m3, m4, m5⟩ := le
          refine hq.2 m τ27 ρ' ⟨hd24, ⟨⟨fun x hx => by rw [u27 55 x (by omega)]; exact aw.1.1 x hx, by rw [u27 54 17 (by omega)]; exact aw.1.2.1, by rw [u27 54 18 (by omega)]; exact aw.1.2.2⟩, fun x hx => by rw [u27 57 x (by omega)]; exact aw.2 x hx⟩, ⟨?_, ?_, ?_, ?_, ?_⟩, fun j' hj' => ?_, ?_, ?_, ?_⟩ ⟨by rw [u27 55 1 (by omega)]; exact lq'.1, by rw [u27 55 2 (by omega)]; exact lq'.2.1, by rw [u27 55 3 (by omega)]; exact lq'.2.2⟩
          · rw [s24 37 1 (by omega), s30 37 1 (by omega), u27 55 0 (by omega)]; exact m1
          · rw [s24 37 2 (by omega), s30 37 2 (by omega), u27 55 1 (by omega)]; exact m2
          · rw [s24 37 3 (by omega), s30 37 3 (by omega), u27 55 2 (by omega)]; exact m3
          · rw [s24 37 4 (by omega), s30 37 4 (by omega), u27 55 3 (by omega)]; exact m4
          · rw [s24 37 5 (by omega), s30 37 5 (by omega), u27 55 4 (by omega)]; exact m5
          · rw [u27 55 (5 + j') (by omega), ea j' hj', s24 39 j' (by omega)]
            by_cases w : j' = j
            · rw [if_pos w, w, v30]
            · rw [if_neg w, s30 39 j' (by omega), ki 39 j' (by decide) (by decide)]
          · rw [v13, g27, sn (by omega), g23, sv, g21, g13]
          · rw [v14, g27, sv, g25, u23 54 21 (by omega), g14]
          · rw [u27 54 19 (by omega), u27 55 3 (by omega)]; exact g19
        have e16 : τ23 54 16 = σ14 37 8 := by rw [u23 54 16 (by omega)]; exact g8.symm
        rw [e16]
        refine kp_ih (fun w => last 0 (by rw [ek2, if_pos w])) (fun w => last 1 (by rw [ek2, if_neg w]))
      have one : ∀ k1 : Int32, k1 = (if σ14 37 7 < σ14 5 0 then 0 else 1) → kp (F_X11_goOn_216 N K len a1 a2 a3 a4 (F_X11_goOn_54 N K len a1 a2 a3 a4 n) σ30 ρ v1 v2 0 v4 v5 (σ30 0 13) k1) (fun q => KD σ q ∧ ∀ (m : Nat) (τ : SG) (ρ' : RG) (x10 : Int32), GF σ s τ → LQ (999 + (k : Int)) τ → x10 = v5 - v5 / (σ 1 1) * (σ 1 1) → kp (F_X12_goesOn_72 b1 b2 b3 (F_X12_goesOn_18 b1 b2 b3 m) τ ρ' v1 v4 v2 v5 x10) (fun q' => GF σ q q')) := fun k1 ek1 => by
        unfold F_X11_goOn_216
        refine kp_nm (fun x18 h18 => kp_nm (fun σ20 h20 => ?_))
        have s20 : ∀ r x, ¬ (r = 0 ∧ x = 13) → σ20 r x = σ30 r x := fun r x n => by rw [h20, sn n]
        have v20 : σ20 0 13 = σ30 0 13 + k1 := by rw [h20, sv, h18]
        have e8 : σ20 37 8 = σ14 37 8 := by rw [s20 37 8 (by omega), s30 37 8 (by omega)]
        rw [e8]
        exact kp_ih (fun w => two σ20 k1 0 s20 v20 ek1 (by rw [if_pos w])) (fun w => two σ20 k1 1 s20 v20 ek1 (by rw [if_neg w]))
      have e7 : σ30 37 7 = σ14 37 7 := s30 37 7 (by omega)
      have e50 : σ30 5 0 = σ14 5 0 := s30 5 0 (by omega)
      rw [e7, e50]
      exact kp_ih (fun w => one 0 (by rw [if_pos w])) (fun w => one 1 (by rw [if_neg w]))
    -- the loop
    unfold F_X11_goOn_54
    rw [w1 σ' hd]
    have stopR : ∀ (m : Nat) (τ : SG) (ρ' : RG), (v1 ≤ v5 ∨ σ 1 1 ≤ 0) → GF σ σ' τ → kp (F_X12_goesOn_18 b1 b2 b3 m τ ρ' v1 v4 v2 v5) (fun q' => GF σ σ' q') := fun m τ ρ' z g => by
      cases m with
      | zero => exact kp_none
      | succ m =>
        unfold F_X12_goesOn_18
        rw [g.2.1.1.1 11 (by decide), ← t11]
        by_cases w : v1 ≤ v5
        · exact kp_t w (kp_some g)
        · rcases z with z | z
          · exact absurd z w
          · exact kp_f w (kp_t z (kp_some g))
    have goR : ∀ (m : Nat) (τ : SG) (ρ' : RG) (P : SG → Prop), ¬ v1 ≤ v5 → ¬ σ 1 1 ≤ 0 → AWAY σ τ → (∀ (m' : Nat) (x10 : Int32), x10 = v5 - v5 / (σ 1 1) * (σ 1 1) → kp (if v5 = v2 then bn (F_X12_leastCorner τ ρ') fun r29 => bn (F_X12_tellsOf (199 : Int32) (10 : Int32) τ ρ') fun r30 => if r29 < r30 then F_X12_goesOn_72 b1 b2 b3 (F_X12_goesOn_18 b1 b2 b3 m') τ ρ' v1 v4 v2 v5 x10 else bn (F_X12_rights τ ρ') fun σ32 => F_X12_goesOn_72 b1 b2 b3 (F_X12_goesOn_18 b1 b2 b3 m') σ32 ρ' v1 v4 v2 v5 x10 else F_X12_goesOn_72 b1 b2 b3 (F_X12_goesOn_18 b1 b2 b3 m') τ ρ' v1 v4 v2 v5 x10) P) → kp (F_X12_goesOn_18 b1 b2 b3 m τ ρ' v1 v4 v2 v5) P := fun m τ ρ' P d0 d1 aw k => by
      cases m with
      | zero => exact kp_none
      | succ m =>
        unfold F_X12_goesOn_18
        rw [aw.1.1 11 (by decide), ← t11]
        exact kp_f d0 (kp_f d1 (kp_gd (fun _ => kp_nm (fun x10 h10 => k m x10 h10))))
    refine kp_ih (fun d0 => kp_some ⟨hd, fun m τ ρ' g _ => stopR m τ ρ' (Or.inl d0) g⟩) (fun d0 => kp_ih (fun d1 => kp_some ⟨hd, fun m τ ρ' g _ => stopR m τ ρ' (Or.inr d1) g⟩) (fun d1 => kp_ih (fun d2 => kp_bn k_leastC (fun r31 h31 => ?_)) (fun d2 => kp_mono (cutS d1 (lt_i (nle d0)) σ' hd) (fun q hq => ⟨hq.1, fun m τ ρ' g lq => goR m τ ρ' _ d0 d1 g.2.1 (fun m' x10 hx => kp_f d2 (hq.2 m' τ ρ' x10 g lq hx))⟩))))
    have rr : ∀ (τ : SG) (ρ' : RG), GF σ σ' τ → kp (F_X12_leastCorner τ ρ') (fun q => q = r31) := fun τ ρ' g => kp_mono k_leastR (fun q hq => by
      obtain ⟨-, -, ⟨m1, m2, m3, -, -⟩, -⟩ := g
      rw [hq, h31, m1, m2, m3])
    have tt : ∀ (τ : SG) (ρ' : RG), GF σ σ' τ → kp (F_X12_tellsOf (199 : Int32) (10 : Int32) τ ρ') (fun q => q = σ' 5 1) := fun τ ρ' g => k_tells (hb_et b hd g.2.1.1) (Or.inr ⟨rfl, rfl, rfl⟩)
    refine kp_ih (fun d3 => kp_mono (cutS d1 (lt_i (nle d0)) σ' hd) (fun q hq => ⟨hq.1, fun m τ ρ' g lq => goR m τ ρ' _ d0 d1 g.2.1 (fun m' x10 hx => kp_t d2 (kp_bn (rr τ ρ' g) (fun r29 e29 => kp_bn (tt τ ρ' g) (fun r30 e30 => ?_))))⟩)) (fun d3 => kp_bn2 (kp_and (kd_X3_straighten b.1.1 (by decide)) k_straight) (fun r33 σ33 h33 => ?_))
    · rw [e29, e30]
      exact kp_t d3 (hq.2 m' τ ρ' x10 g lq hx)
    obtain ⟨kd33, -, y1, y2, y3, y4, y5⟩ := h33
    have y1 : ∀ r x, ¬ (r = 37 ∧ (x = 1 ∨ x = 2 ∨ x = 3 ∨ x = 5)) → σ33 r x = σ' r x := y1
    have y2 : σ33 37 1 = _ := y2
    have y3 : σ33 37 2 = 0 := y3
    have y4 : σ33 37 3 = 0 := y4
    have y5 : σ33 37 5 = _ := y5
    have hd33 : KD σ σ33 := kd_trans hd kd33
    refine kp_mono (cutS d1 (lt_i (nle d0)) σ33 hd33) (fun q hq => ⟨hq.1, fun m τ ρ' g lq => goR m τ ρ' _ d0 d1 g.2.1 (fun m' x10 hx => kp_t d2 (kp_bn (rr τ ρ' g) (fun r29 e29 => kp_bn (tt τ ρ' g) (fun r30 e30 => ?_))))⟩)
    rw [e29, e30]
    refine kp_f d3 (kp_bn k_rights (fun τ32 g32 => ?_))
    obtain ⟨p1, p2, p3, p4, p5⟩ := g32
    obtain ⟨-, aw, ⟨m1, m2, m3, m4, m5⟩, ea, g13, g14, g19⟩ := g
    refine hq.2 m' τ32 ρ' x10 ⟨hd33, ⟨⟨fun x hx => by rw [p1 55 x (by omega)]; exact aw.1.1 x hx, by rw [p1 54 17 (by omega)]; exact aw.1.2.1, by rw [p1 54 18 (by omega)]; exact aw.1.2.2⟩, fun x hx => by rw [p1 57 x (by omega)]; exact aw.2 x hx⟩, ⟨?_, ?_, ?_, ?_, ?_⟩, fun j' hj' => ?_, ?_, ?_, ?_⟩ ⟨by rw [p3]; exact ⟨by decide, by decide⟩, by rw [p4]; exact ⟨by decide, by decide⟩, by rw [p1 55 3 (by omega)]; exact lq.2.2⟩ hx
    · rw [y2, p2, m1, m2, m3]
    · rw [y3, p3]
    · rw [y4, p4]
    · rw [y1 37 4 (by omega), p1 55 3 (by omega)]; exact m4
    · rw [y5, p5, m5, m2, m3]
    · rw [p1 55 (5 + j') (by omega), y1 39 j' (by omega)]; exact ea j' hj'
    · rw [y1 0 13 (by omega), p1 54 20 (by omega)]; exact g13
    · rw [y1 0 14 (by omega), p1 54 21 (by omega)]; exact g14
    · rw [p1 54 19 (by omega), p1 55 3 (by omega)]; exact g19
theorem k_z39 {N : Nat} {K len : Nat → Nat} {a1 a2 a3 a4 v1 v2 v3 v4 : Int32} {ρ : RG} {σ0 : SG} {P : SG → Prop} (go : ∀ s : SG, (∀ r, r ≠ 39 → s r = σ0 r) → (∀ k, k < 6 → s 39 k = 0) → kp (F_X11_goOn_54 N K len a1 a2 a3 a4 1024 s ρ v1 v2 v3 v4 0) P) : ∀ (n : Nat) (s : SG) (v5 : Int32), 0 ≤ v5.toInt → v5.toInt ≤ 6 → (∀ r, r ≠ 39 → s r = σ0 r) → (∀ k : Nat, (k : Int) < v5.toInt → s 39 k = 0) → kp (F_X11_goOn_27 N K len a1 a2 a3 a4 n s ρ v1 v2 v3 v4 v5) P := by
  have e6 : (6 : Int32).toInt = 6 := rfl
  intro n
  induction n with
  | zero => intro s v5 _ _ _ _; exact kp_none
  | succ n ih =>
    intro s v5 h0 h6 hr hz
    unfold F_X11_goOn_27
    refine kp_ih (fun c => ?_) (fun c => kp_gd (fun _ => kp_nm (fun σ36 h36 => kp_nm (fun x37 h37 => ?_))))
    · have := le_i c
      exact go s hr (fun k hk => hz k (by omega))
    · have := lt_i (nle c)
      have ex : x37.toInt = v5.toInt + 1 := by rw [h37, ti_add (by rw [ti_1]; omega) (by rw [ti_1]; omega), ti_1]
      have c0 := cl0 h0
      refine ih σ36 x37 (by omega) (by omega) (fun r hr' => by rw [h36, s2_ne r hr']; exact hr r hr') (fun k hk => ?_)
      rw [h36]
      by_cases z : k = v5.toNatClampNeg
      · rw [z, sv]
      · rw [sn (by omega)]; exact hz k (by omega)
theorem go_on {N : Nat} {K len : Nat → Nat} {v1 v2 v4 : Int32} {σ : SG} {ρ : RG} (b : BS N K len σ ρ) (hv : v1.toInt ≤ 1000) : kp (F_X11_goOn N K len v1 v2 0 v4 σ ρ) (fun q => KD σ q ∧ ∀ (τ : SG) (ρ' : RG), HOME σ τ → kp (F_X12_goesOn v1 v4 v2 τ ρ') (fun q' => GF σ q q')) := by
  unfold F_X11_goOn
  refine kp_bn (k_tk (by decide)) (fun σ1 h1 => kp_nm (fun σ3 h3 => kp_nm (fun σ5 h5 => ?_)))
  have s5 : ∀ r k, ¬ (r = 37 ∧ k ≤ 8) → ¬ (r = 0 ∧ (k = 13 ∨ k = 14)) → σ5 r k = σ r k := fun r k n n' => by rw [h5, sn (by omega), h3, sn (by omega)]; exact h1.1 r k n
  have t5 : ∀ k, k ≤ 5 → σ5 37 k = σ 3 k := fun k hk => by rw [h5, sn (by omega), h3, sn (by omega)]; exact h1.2 k hk
  have z13 : σ5 0 13 = 0 := by rw [h5, sn (by omega), h3, sv]
  have z14 : σ5 0 14 = 0 := by rw [h5, sv]
  refine k_z39 (σ0 := σ5) (fun s hs hz => ?_) 1024 σ5 0 (by decide) (by decide) (fun _ _ => rfl) (fun k hk => by rw [ti_0] at hk; omega)
  have hd : KD σ s := fun r k p => by
    have n37 : ¬ (r = 37 ∧ k ≤ 8) := fun z => by rw [z.1] at p; cases p
    have n39 : r ≠ 39 := fun z => by rw [z] at p; cases p
    have n0 : ¬ (r = 0 ∧ (k = 13 ∨ k = 14)) := fun z => by rcases z with ⟨z, z' | z'⟩ <;> rw [z, z'] at p <;> cases p
    rw [hs r n39]; exact s5 r k n37 n0
  refine kp_mono (go_loop (b1 := v1) (b2 := v4) (b3 := v2) b hv 1024 s 0 0 rfl (by decide) hd) (fun q hq => ⟨hq.1, fun τ ρ' hm => ?_⟩)
  unfold F_X12_goesOn
  refine kp_nm (fun τ2 g2 => kp_nm (fun τ4 g4 => kp_nm (fun τ6 g6 => ?_)))
  have u6 : ∀ r k, ¬ (r = 54 ∧ (k = 19 ∨ k = 20 ∨ k = 21)) → τ6 r k = τ r k := fun r k n => by rw [g6, sn (by omega), g4, sn (by omega), g2, sn (by omega)]
  have lq := home_lq b hm
  have le := home_le (i := 37) b hm (σ' := s) (fun k hk => by rw [hs 37 (by decide)]; exact t5 k hk)
  obtain ⟨l1, l2, l3, l4, l5⟩ := le
  refine hq.2 1024 τ6 ρ' ⟨hd, ⟨⟨fun k hk => by rw [u6 55 k (by omega)]; exact hm.1.1 k hk, by rw [u6 54 17 (by omega)]; exact hm.1.2.1, by rw [u6 54 18 (by omega)]; exact hm.1.2.2⟩, fun k hk => by rw [u6 57 k (by omega)]; exact hm.2.2 k hk⟩, ⟨by rw [u6 55 0 (by omega)]; exact l1, by rw [u6 55 1 (by omega)]; exact l2, by rw [u6 55 2 (by omega)]; exact l3, by rw [u6 55 3 (by omega)]; exact l4, by rw [u6 55 4 (by omega)]; exact l5⟩, fun j hj => ?_, ?_, ?_, ?_⟩ ⟨by rw [u6 55 1 (by omega)]; exact lq.1, by rw [u6 55 2 (by omega)]; exact lq.2.1, by rw [u6 55 3 (by omega)]; exact lq.2.2⟩
  · rw [u6 55 (5 + j) (by omega), hm.2.1 (5 + j) (by omega), hz j hj]; grind
  · rw [hs 0 (by decide), z13, g6, sn (by omega), g4, sv]
  · rw [hs 0 (by decide), z14, g6, sv]
  · rw [g6, sn (by omega), g4, sn (by omega), g2, sv, sn (by omega), sn (by omega), sn (by omega), hm.2.1 3 (by decide)]; grind
theorem lasts_l {N : Nat} {K len : Nat → Nat} {σ : SG} {ρ : RG} (b : BS N K len σ ρ) : kp (F_X11_lasts N K len σ ρ) (fun q => ∀ (τ : SG) (ρ' : RG), RT σ τ → kp (F_X12_lasts τ ρ') (fun q' => q.1 = q'.1)) := by
  unfold F_X11_lasts
  refine kp_bn (go_on b (by decide)) (fun σ1 h1 => kp_nm (fun x2 h2 => kp_some (fun τ ρ' t => ?_)))
  unfold F_X12_lasts
  refine kp_bn (home_keeps b t) (fun τ1 g1 => kp_bn (h1.2 τ1 ρ' g1) (fun τ2 g2 => kp_bn (home_back g2.2.1) (fun τ3 g3 => kp_some ?_)))
  show x2 = τ3 54 19
  have l3 : σ 3 4 = σ 55 3 := b.2.2.2.1.1.1 3 (by decide)
  rw [g3.2 54 (by decide), g2.2.2.2.2.2.2, h2, g2.2.2.1.2.2.2.1, kd_lo h1.1 (r := 3) (k := 4) (by decide) (by decide), l3]
theorem toasted_l {N : Nat} {K len : Nat → Nat} {a w : Int32} {σ : SG} {ρ : RG} (b : BS N K len σ ρ) : kp (F_X11_toasted N K len a w σ ρ) (fun q => ∀ (τ : SG) (ρ' : RG), RT σ τ → kp (F_X12_toasted a w τ ρ') (fun q' => q.1 = q'.1)) := by
  have e40 : (40 : Int32).toInt = 40 := rfl
  unfold F_X11_toasted
  refine kp_bn (kp_ok wi_0) (fun r1 h1 => kp_ih (fun c => kp_some (fun τ ρ' t => ?_)) (fun c => kp_bn (kp_ok wi_0) (fun r3 h3 => kp_ih (fun d => kp_some (fun τ ρ' t => ?_)) (fun d => ?_))))
  · have n : ¬ ((0 : Int32) ≤ a ∧ a ≤ (40 : Int32)) := fun q => h1.2.mpr q c
    unfold F_X12_toasted
    exact kp_bn (kp_ok in_0) (fun r g => kp_ih (fun _ => kp_some rfl) (fun z => absurd (g.2.mp z) n))
  · have n : ¬ ((0 : Int32) ≤ w ∧ w ≤ (99 : Int32)) := fun q => h3.2.mpr q d
    unfold F_X12_toasted
    exact kp_bn (kp_ok in_0) (fun r g => kp_ih (fun _ => kp_some rfl) (fun _ => kp_bn (kp_ok in_0) (fun r g => kp_ih (fun _ => kp_some rfl) (fun z => absurd (g.2.mp z) n))))
  · have y1 := h1.2.mp c
    have y3 := h3.2.mp d
    have g40 := rc_i y1
    refine kp_bn (go_on b (by omega)) (fun σ5 h5 => kp_some (fun τ ρ' t => ?_))
    unfold F_X12_toasted
    refine kp_bn (kp_ok in_0) (fun r g => kp_f (g.2.mpr y1) (kp_bn (kp_ok in_0) (fun r' g' => kp_f (g'.2.mpr y3) (kp_bn (home_keeps b t) (fun τ5 g5 => kp_bn (h5.2 τ5 ρ' g5) (fun τ6 g6 => kp_bn (home_back g6.2.1) (fun τ7 g7 => kp_some ?_)))))))
    show σ5 0 14 = τ7 54 21
    rw [g7.2 54 (by decide)]; exact g6.2.2.2.2.2.1
