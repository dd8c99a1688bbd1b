/-! PART 7691.or: by hand: order, side by side -/
def FB (C : Nat) (s τ : SG) : Prop := (s 0 8 = 0 → τ 54 25 = 1000000 ∧ ∀ k, k < 5 → τ 62 k = -5) ∧ (¬ s 0 8 = 0 → τ 54 25 = s 0 9 ∧ (s 0 9).toInt ≤ 10000 ∧ (∀ k, k < C → τ 62 k = s 36 k) ∧ ∀ k, k < 5 → C ≤ k → τ 62 k = -5)
def OW (C d : Nat) (σ s τ : SG) : Prop := ET 0 σ τ ∧ LE (40 + 2 * d) s τ ∧ LQ (999 + (d : Int)) τ ∧ (∀ k, k < d → τ 61 k = s 35 k) ∧ FB C s τ
theorem fb_eq2 {C : Nat} {s τ s' τ' : SG} (h : FB C s τ) (a : s' 0 8 = s 0 8) (a9 : s' 0 9 = s 0 9) (b : ∀ k, k < C → s' 36 k = s 36 k) (c : τ' 54 25 = τ 54 25) (d : ∀ k, k < 5 → τ' 62 k = τ 62 k) (hC : C ≤ 5) : FB C s' τ' := by
  obtain ⟨y, z⟩ := h
  refine ⟨fun q => ?_, fun q => ?_⟩
  · rw [a] at q
    exact ⟨by rw [c]; exact (y q).1, fun k hk => by rw [d k hk]; exact (y q).2 k hk⟩
  · rw [a] at q
    obtain ⟨z1, z2, z3, z4⟩ := z q
    exact ⟨by rw [c, a9]; exact z1, by rw [a9]; exact z2, fun k hk => by rw [d k (by omega), b k hk]; exact z3 k hk, fun k hk hw => by rw [d k hk]; exact z4 k hk hw⟩
theorem k_or27 {R : Int32 → Int32 → Int32 → SG → RG → Option SG} {a1 a2 a3 : Int32} {ρ : RG} {D : Nat} (hD : D ≤ 5) : ∀ (n : Nat) (τ : SG) (v1 v4 : Int32), v1.toInt = (D : Int) → 0 ≤ v4.toInt → v4.toInt ≤ 5 → kp (F_X12_ordersFrom_B_27 R a1 a2 a3 n τ ρ v1 v4) (fun q => (∀ r, r ≠ 62 → q r = τ r) ∧ (∀ k : Nat, k < D → (v4.toInt ≤ (k : Int) ∨ τ 62 k = τ 61 k) → q 62 k = τ 61 k) ∧ ∀ k : Nat, D ≤ k → q 62 k = τ 62 k) := by
  intro n
  induction n with
  | zero => intro τ v1 v4 _ _ _; exact kp_none
  | succ n ih =>
    intro τ v1 v4 h1 h0 h5
    unfold F_X12_ordersFrom_B_27
    refine kp_ih (fun c => kp_some ⟨fun _ _ => rfl, fun k hk q => ?_, fun _ _ => rfl⟩) (fun c => kp_gd (fun _ => kp_gd (fun _ => kp_nm (fun σ29 h29 => kp_nm (fun x30 h30 => ?_)))))
    · have := le_i c
      rcases q with q | q
      · omega
      · exact q
    · have := lt_i (nle c)
      have ex : x30.toInt = v4.toInt + 1 := by rw [h30, ti_add (by rw [ti_1]; omega) (by rw [ti_1]; omega), ti_1]
      have c0 := cl0 h0
      have r29 : ∀ r, r ≠ 62 → σ29 r = τ r := fun r hr => by rw [h29, s2_ne r hr]
      refine kp_mono (ih σ29 v1 x30 h1 (by omega) (by omega)) (fun q hq => ⟨fun r hr => (hq.1 r hr).trans (r29 r hr), fun k hk y => ?_, fun k hk => ?_⟩)
      · rw [← r29 61 (by decide)]
        refine hq.2.1 k hk ?_
        by_cases e : k = v4.toNatClampNeg
        · refine Or.inr ?_
          rw [e, r29 61 (by decide), h29, sv]
        · rcases y with y | y
          · exact Or.inl (by omega)
          · refine Or.inr ?_
            rw [r29 61 (by decide), h29, sn (by omega)]; exact y
      · rw [hq.2.2 k hk, h29, sn (by omega)]
theorem ord_R {N : Nat} {K len : Nat → Nat} {σ : SG} {ρ : RG} (b : BS N K len σ ρ) {C : Nat} (hC : (σ 1 1).toInt = (C : Int)) (hC5 : C ≤ 5) : ∀ (f d : Nat) (a1 a2 a3 : Int32) (s : SG), a1.toInt = (d : Int) → d ≤ C → KD σ s → rg (s (40 + 2 * d) 2) (-99) 99 → rg (s (40 + 2 * d) 3) (-99) 99 → (-600 * (d : Int) ≤ a3.toInt ∧ a3.toInt ≤ 600 * (d : Int)) → kp (F_X11_tryOrders_R N K len f a1 a2 a3 s ρ) (fun q => KD σ q ∧ (∀ r k, 40 ≤ r → r ≤ 41 + 2 * d → q r k = s r k) ∧ (∀ k, k < d → q 35 k = s 35 k) ∧ ∀ (e : Nat) (τ : SG) (ρ' : RG), e ≤ 50 → OW C d σ s τ → kp (F_X12_ordersFrom_R e a1 a2 a3 τ ρ') (fun q' => OW C d σ q q' ∧ RK d τ q')) := by
  have t11 : σ 1 1 = σ 55 11 := b.2.1.1.1
  have eM : (1000000 : Int32).toInt = 1000000 := rfl
  intro f
  induction f with
  | zero => intro d a1 a2 a3 s _ _ _ _ _ _; exact kp_none
  | succ f ihf =>
    intro d a1 a2 a3 s ha hdC hd hu hs ⟨va, vb⟩
    have w1 : ∀ s : SG, KD σ s → s 1 1 = σ 1 1 := fun s h => kd_lo h (by decide) (by decide)
    show kp (F_X11_tryOrders_B N K len (F_X11_tryOrders_R N K len f) a1 a2 a3 s ρ) _
    unfold F_X11_tryOrders_B
    rw [w1 s hd]
    -- what the reference does at this depth
    have refB : ∀ (e : Nat) (τ : SG) (ρ' : RG) (P : SG → Prop), ET 0 σ τ → (∀ e', e' ≤ e → (d = C → kp (if (τ 54 25) ≤ a3 then some τ else nm (s2 τ 54 25 a3) fun σ24 => F_X12_ordersFrom_B_27 (F_X12_ordersFrom_R e') a1 a2 a3 1024 σ24 ρ' a1 0) P) ∧ (¬ d = C → kp (bn (F_X12_stands a1 τ ρ') fun σ2 => F_X12_ordersFrom_B_62 (F_X12_ordersFrom_R e') a1 a2 a3 1024 σ2 ρ' a1 a2 a3 0) P)) → kp (F_X12_ordersFrom_R e a1 a2 a3 τ ρ') P := fun e τ ρ' P et k => by
      cases e with
      | zero => exact kp_none
      | succ e =>
        show kp (F_X12_ordersFrom_B (F_X12_ordersFrom_R e) a1 a2 a3 τ ρ') P
        unfold F_X12_ordersFrom_B
        rw [et.1 11 (by decide), ← t11]
        refine kp_ih (fun z => (k e (by omega)).1 ?_) (fun z => (k e (by omega)).2 (fun y => z (ieq ?_)))
        · have := congrArg Int32.toInt z
          omega
        · omega
    refine kp_ih (fun z => ?_) (fun z => ?_)
    rotate_left
    · -- an order is full
      have zi := le_i (nlt z)
      have edC : d = C := by omega
      -- the state stays, or the new one is kept
      have out : ∀ (s' : SG), KD σ s' → (∀ r k, ¬ (r = 0 ∧ (k = 8 ∨ k = 9)) → r ≠ 36 → s' r k = s r k) → (∀ τ : SG, FB C s τ → (τ 54 25 ≤ a3 → FB C s' τ) ∧ (¬ τ 54 25 ≤ a3 → ∀ q : SG, q 54 25 = a3 → (∀ k, k < C → q 62 k = s 35 k) → (∀ k, k < 5 → C ≤ k → q 62 k = τ 62 k) → FB C s' q)) → (KD σ s' ∧ (∀ r k, 40 ≤ r → r ≤ 41 + 2 * d → s' r k = s r k) ∧ (∀ k, k < d → s' 35 k = s 35 k) ∧ ∀ (e : Nat) (τ : SG) (ρ' : RG), e ≤ 50 → OW C d σ s τ → kp (F_X12_ordersFrom_R e a1 a2 a3 τ ρ') (fun q' => OW C d σ s' q' ∧ RK d τ q')) := by
        intro s' hd' fr cs
        refine ⟨hd', fun r k h1 h2 => fr r k (by omega) (by omega), fun k hk => fr 35 k (by omega) (by decide), fun e τ ρ' _ ow => ?_⟩
        obtain ⟨et, le, lq, pa, fb⟩ := ow
        have v : ∀ k, s' (40 + 2 * d) k = s (40 + 2 * d) k := fun k => fr (40 + 2 * d) k (by omega) (by omega)
        obtain ⟨l1, l2, l3, l4, l5⟩ := le
        refine refB e τ ρ' _ et (fun e' _ => ⟨fun _ => kp_ih (fun y => kp_some ⟨⟨et, ⟨by rw [v]; exact l1, by rw [v]; exact l2, by rw [v]; exact l3, by rw [v]; exact l4, by rw [v]; exact l5⟩, lq, fun k hk => by rw [fr 35 k (by omega) (by decide)]; exact pa k hk, (cs τ fb).1 y⟩, rs_refl, fun _ _ => rfl⟩) (fun y => kp_nm (fun σ24 h24 => ?_)), fun n => absurd edC n⟩)
        refine kp_mono (k_or27 (D := C) hC5 1024 σ24 a1 0 (by omega) (by decide) (by decide)) (fun q hq => ?_)
        obtain ⟨q1, q2, q3⟩ := hq
        have u : ∀ r x, r ≠ 62 → ¬ (r = 54 ∧ x = 25) → q r x = τ r x := fun r x h1 h2 => by rw [q1 r h1, h24, sn h2]
        have q25 : q 54 25 = a3 := by rw [q1 54 (by decide), h24, sv]
        refine ⟨⟨⟨fun k hk => by rw [u 55 k (by decide) (by omega)]; exact et.1 k hk, by rw [u 54 17 (by decide) (by omega)]; exact et.2.1, by rw [u 54 18 (by decide) (by omega)]; exact et.2.2⟩, ⟨by rw [v, u 55 0 (by decide) (by omega)]; exact l1, by rw [v, u 55 1 (by decide) (by omega)]; exact l2, by rw [v, u 55 2 (by decide) (by omega)]; exact l3, by rw [v, u 55 3 (by decide) (by omega)]; exact l4, by rw [v, u 55 4 (by decide) (by omega)]; exact l5⟩, ⟨by rw [u 55 1 (by decide) (by omega)]; exact lq.1, by rw [u 55 2 (by decide) (by omega)]; exact lq.2.1, by rw [u 55 3 (by decide) (by omega)]; exact lq.2.2⟩, fun k hk => by rw [u 61 k (by decide) (by omega), fr 35 k (by omega) (by decide)]; exact pa k hk, (cs τ fb).2 y q q25 (fun k hk => ?_) (fun k _ hw => ?_)⟩, ⟨⟨fun k _ => u 55 k (by decide) (by omega), u 54 17 (by decide) (by omega), u 54 18 (by decide) (by omega)⟩, fun y _ => u 60 y (by decide) (by omega)⟩⟩
        · rw [q2 k hk (Or.inl (by rw [ti_0]; omega)), h24, sn (by omega)]; exact pa k (by omega)
        · rw [q3 k hw, h24, sn (by omega)]
      have keep : (∀ τ : SG, FB C s τ → τ 54 25 ≤ a3 → False) → kp (F_X11_tryOrders_B_26 N K len (F_X11_tryOrders_R N K len f) a1 a2 a3 s ρ a1 a3) (fun q => KD σ q ∧ (∀ r k, 40 ≤ r → r ≤ 41 + 2 * d → q r k = s r k) ∧ (∀ k, k < d → q 35 k = s 35 k) ∧ ∀ (e : Nat) (τ : SG) (ρ' : RG), e ≤ 50 → OW C d σ s τ → kp (F_X12_ordersFrom_R e a1 a2 a3 τ ρ') (fun q' => OW C d σ q q' ∧ RK d τ q')) := fun no => by
        unfold F_X11_tryOrders_B_26
        refine kp_nm (fun σ40 h40 => kp_bn (k_path (D := C) (by omega) (by omega)) (fun σ41 h41 => kp_some ?_))
        obtain ⟨g1, g2, g3⟩ := h41
        have fr : ∀ r k, ¬ (r = 0 ∧ (k = 8 ∨ k = 9)) → r ≠ 36 → σ41 r k = s r k := fun r k h1 h2 => by rw [g1 r k (by omega) h2, h40, sn (by omega)]
        have g9 : σ41 0 9 = a3 := by rw [g1 0 9 (by omega) (by decide), h40, sv]
        refine out σ41 (kd_trans hd (fun r k p => fr r k (fun y => by rcases y with ⟨y, y' | y'⟩ <;> rw [y, y'] at p <;> cases p) (fun y => by rw [y] at p; cases p))) fr (fun τ fb => ⟨fun y => (no τ fb y).elim, fun _ q q25 qk qw => ⟨fun y => absurd (g2.symm.trans y) (by decide), fun _ => ⟨by rw [q25, g9], by rw [g9]; omega, fun k hk => ?_, fun k hk hw => ?_⟩⟩⟩)
        · rw [qk k hk, g3 k hk, h40, sn (by omega)]
        · rw [qw k hk hw]
          by_cases y : s 0 8 = 0
          · exact (fb.1 y).2 k hk
          · exact (fb.2 y).2.2.2 k hk hw
      refine kp_ih (fun y => keep (fun τ fb y' => ?_)) (fun y => kp_ih (fun y1 => kp_some ?_) (fun y1 => keep (fun τ fb y' => ?_)))
      · rw [(fb.1 y).1] at y'
        have := le_i y'
        omega
      · refine out s hd (fun _ _ _ _ => rfl) (fun τ fb => ⟨fun _ => fb, fun y' => absurd (by rw [(fb.2 y).1]; exact y1) y'⟩)
      · rw [(fb.2 y).1] at y'
        exact y1 y'
    -- a place of the order
    have zi := lt_i z
    have dC : d < C := by omega
    have nC : ¬ d = C := by omega
    have d6 : d < 6 := by omega
    have loop : ∀ (n : Nat) (s1 : SG) (v4 : Int32) (j : Nat), v4.toInt = (j : Int) → j ≤ C → KD σ s1 → (∀ r k, 40 ≤ r → r ≤ 41 + 2 * d → s1 r k = s r k) → (∀ k, k < d → s1 35 k = s 35 k) → kp (F_X11_tryOrders_B_40 N K len (F_X11_tryOrders_R N K len f) a1 a2 a3 n s1 ρ a1 a2 a3 v4) (fun q => KD σ q ∧ (∀ r k, 40 ≤ r → r ≤ 41 + 2 * d → q r k = s r k) ∧ (∀ k, k < d → q 35 k = s 35 k) ∧ ∀ (e m : Nat) (τ0 τ : SG) (ρ' : RG), e ≤ 50 → OW C d σ s τ0 → HK d τ0 τ → ET 0 σ τ → (∀ k, k < d → τ 61 k = s 35 k) → FB C s1 τ → kp (F_X12_ordersFrom_B_62 (F_X12_ordersFrom_R e) a1 a2 a3 m τ ρ' a1 a2 a3 v4) (fun q' => OW C d σ q q' ∧ RK d τ0 q')) := by
      intro n
      induction n with
      | zero => intro s1 v4 j _ _ _ _ _; exact kp_none
      | succ n ih =>
        intro s1 v4 j hv4 hjC hd1 l40 p35
        unfold F_X11_tryOrders_B_40
        rw [w1 s1 hd1]
        have leq : ∀ τ0 τ : SG, OW C d σ s τ0 → HK d τ0 τ → LE (40 + 2 * d) s1 τ ∧ LQ (999 + (d : Int)) τ := fun τ0 τ ow hk => by
          obtain ⟨l1, l2, l3, l4, l5⟩ := ow.2.1
          obtain ⟨m1, m2, m3⟩ := ow.2.2.1
          exact ⟨⟨by rw [l40 _ 1 (by omega) (by omega), hk.1 0 (by decide)]; exact l1, by rw [l40 _ 2 (by omega) (by omega), hk.1 1 (by decide)]; exact l2, by rw [l40 _ 3 (by omega) (by omega), hk.1 2 (by decide)]; exact l3, by rw [l40 _ 4 (by omega) (by omega), hk.1 3 (by decide)]; exact l4, by rw [l40 _ 5 (by omega) (by omega), hk.1 4 (by decide)]; exact l5⟩, ⟨by rw [hk.1 1 (by decide)]; exact m1, by rw [hk.1 2 (by decide)]; exact m2, by rw [hk.1 3 (by decide)]; exact m3⟩⟩
        refine kp_ih (fun y => kp_some ⟨hd1, l40, p35, fun e m τ0 τ ρ' _ ow hk et pa fb => ?_⟩) (fun y => kp_f (fun y' => by have := le_i y'; have e6 : (6 : Int32).toInt = 6 := rfl; omega) (kp_nm (fun x4 h4 => kp_nm (fun x5 h5 => ?_))))
        · cases m with
          | zero => exact kp_none
          | succ m =>
            unfold F_X12_ordersFrom_B_62
            obtain ⟨le1, lq1⟩ := leq τ0 τ ow hk
            exact kp_t (by rw [et.1 11 (by decide), ← t11]; exact y) (kp_some ⟨⟨et, le1, lq1, fun k hk' => by rw [p35 k hk']; exact pa k hk', fb⟩, hk_rk hk⟩)
        have yi := lt_i (nle y)
        have jC : j < C := by omega
        -- back to the face of this depth
        have back : ∀ (e m : Nat) (τ0 τ' : SG) (ρ' : RG) (P : SG → Prop), AK d τ0 τ' → ET 0 σ τ' → (∀ (τ7 : SG) (x8 : Int32), HK d τ0 τ7 → ET 0 σ τ7 → (∀ r, r ≠ 55 → τ7 r = τ' r) → x8 = v4 + 1 → kp (F_X12_ordersFrom_B_62 (F_X12_ordersFrom_R e) a1 a2 a3 m τ7 ρ' a1 a2 a3 x8) P) → kp (F_X12_ordersFrom_B_134 (F_X12_ordersFrom_R e) a1 a2 a3 (F_X12_ordersFrom_B_62 (F_X12_ordersFrom_R e) a1 a2 a3 m) τ' ρ' a1 a2 a3 v4) P := fun e m τ0 τ' ρ' P ak et k => by
          unfold F_X12_ordersFrom_B_134
          refine kp_bn (kp_and (hk_back (k := d) (by omega) ha ak) (k_standsB (k := d) (by omega) ha)) (fun τ7 g7 => kp_nm (fun x8 g8 => k τ7 x8 g7.1 ⟨fun x hx => by rw [g7.2.2.1 x hx]; exact et.1 x hx, by rw [g7.2.1 54 (by decide)]; exact et.2.1, by rw [g7.2.1 54 (by decide)]; exact et.2.2⟩ g7.2.1 g8))
        -- on to the next cutter, nothing found here
        have next : ∀ s2' : SG, KD σ s2' → (∀ r k, 40 ≤ r → r ≤ 41 + 2 * d → s2' r k = s r k) → (∀ k, k < d → s2' 35 k = s 35 k) → kp (F_X11_tryOrders_B_132 N K len (F_X11_tryOrders_R N K len f) a1 a2 a3 (F_X11_tryOrders_B_40 N K len (F_X11_tryOrders_R N K len f) a1 a2 a3 n) s2' ρ a1 a2 a3 v4) (fun q => KD σ q ∧ (∀ r k, 40 ≤ r → r ≤ 41 + 2 * d → q r k = s r k) ∧ (∀ k, k < d → q 35 k = s 35 k) ∧ ∀ (e m : Nat) (τ0 τ7 : SG) (ρ' : RG) (x8 : Int32), e ≤ 50 → OW C d σ s τ0 → HK d τ0 τ7 → ET 0 σ τ7 → (∀ k, k < d → τ7 61 k = s 35 k) → FB C s2' τ7 → x8 = v4 + 1 → kp (F_X12_ordersFrom_B_62 (F_X12_ordersFrom_R e) a1 a2 a3 m τ7 ρ' a1 a2 a3 x8) (fun q' => OW C d σ q q' ∧ RK d τ0 q')) := fun s2' h1 h2 h3 => by
          unfold F_X11_tryOrders_B_132
          refine kp_nm (fun x7 h7 => ?_)
          have e7 : x7.toInt = ((j + 1 : Nat) : Int) := by rw [h7, ti_add (by rw [ti_1]; omega) (by rw [ti_1]; omega), ti_1, hv4]; omega
          refine kp_mono (ih s2' x7 (j + 1) e7 (by omega) h1 h2 h3) (fun q hq => ⟨hq.1, hq.2.1, hq.2.2.1, fun e m τ0 τ7 ρ' x8 he ow hk et pa fb h8 => ?_⟩)
          rw [h8, ← h7]; exact hq.2.2.2 e m τ0 τ7 ρ' he ow hk et pa fb
        -- a round of the reference
        have ref : ∀ (e m : Nat) (τ : SG) (ρ' : RG) (P : SG → Prop), ET 0 σ τ → (∀ m' : Nat, kp (if x5 = 0 then nm ((44 : Int32) + v4) fun x9 => gd (inb x9 909) <| bn2 (F_X12_cuts v4 (τ 55 (x9).toNatClampNeg) τ ρ') fun r11 σ11 => if r11 = 0 then F_X12_ordersFrom_B_134 (F_X12_ordersFrom_R e) a1 a2 a3 (F_X12_ordersFrom_B_62 (F_X12_ordersFrom_R e) a1 a2 a3 m') σ11 ρ' a1 a2 a3 v4 else gd (inb a1 5) <| nm (s2 σ11 61 (a1).toNatClampNeg v4) fun σ15 => nm (a1 + (1 : Int32)) fun x16 => nm ((1 : Int32) <<< (v4 &&& 31)) fun x17 => nm (a2 ||| x17) fun x18 => nm (a3 + (σ15 54 16)) fun x19 => nm (x19 - (σ15 54 15)) fun x20 => bn ((F_X12_ordersFrom_R e) x16 x18 x20 σ15 ρ') fun σ21 => F_X12_ordersFrom_B_134 (F_X12_ordersFrom_R e) a1 a2 a3 (F_X12_ordersFrom_B_62 (F_X12_ordersFrom_R e) a1 a2 a3 m') σ21 ρ' a1 a2 a3 v4 else F_X12_ordersFrom_B_134 (F_X12_ordersFrom_R e) a1 a2 a3 (F_X12_ordersFrom_B_62 (F_X12_ordersFrom_R e) a1 a2 a3 m') τ ρ' a1 a2 a3 v4) P) → kp (F_X12_ordersFrom_B_62 (F_X12_ordersFrom_R e) a1 a2 a3 m τ ρ' a1 a2 a3 v4) P := fun e m τ ρ' P et k => by
          cases m with
          | zero => exact kp_none
          | succ m =>
            unfold F_X12_ordersFrom_B_62
            refine kp_f (by rw [et.1 11 (by decide), ← t11]; exact y) (kp_nm (fun x4' g4 => kp_nm (fun x5' g5 => ?_)))
            have e5 : x5' = x5 := by rw [g5, g4, h5, h4]
            rw [e5]; exact k m
        refine kp_ih (fun y5 => kp_bn (at_bs (N := N) (len := len) b hd1) (fun o8 h8 => ?_)) (fun y5 => kp_mono (next s1 hd1 l40 p35) (fun q hq => ⟨hq.1, hq.2.1, hq.2.2.1, fun e m τ0 τ ρ' he ow hk et pa fb => ref e m τ ρ' _ et (fun m' => kp_f y5 (back e m' τ0 τ ρ' _ hk.2 et (fun τ7 x8 hk7 et7 r7 h8 => hq.2.2.2 e m' τ0 τ7 ρ' x8 he ow hk7 et7 (fun k hk' => by rw [r7 61 (by decide)]; exact pa k hk') (fb_eq2 fb rfl rfl (fun _ _ => rfl) (by rw [r7 54 (by decide)]) (fun k _ => by rw [r7 62 (by decide)]) hC5) h8)))⟩))
        rcases h8 with ⟨rfl, no⟩ | ⟨c, j', rfl, v1', v2', hj, ej, hcj⟩
        · exact absurd ⟨i_le (by rw [ti_0]; omega), i_lt yi⟩ no
        have ejj : j' = j := by omega
        rw [ejj] at hj ej hcj
        have hcc : isC N K c = true := (b.1.2.2.1 j c hj hcj).1
        have c65 := (pr_65 b.1 (Or.inl rfl) hj hcj).1
        obtain ⟨th, tr⟩ := th_bs b hj hcj (by omega)
        have tr' : rg (σ c 4) 0 100 := by rw [th]; exact ⟨by have := tr.1; omega, by have := tr.2; omega⟩
        show kp (gd (isC N K c) _) _
        refine kp_gd (fun _ => kp_bn2 (kp_and (sim_step (d := d) (a3 := 0) (th := σ c 4) b d6 ha hv4 hj hcj hcc hd1 tr' (Or.inl ⟨rfl, rfl⟩)) (wgx_step (a3 := 0) b.1.1 d6 ha hcc (by rw [l40 _ 2 (by omega) (by omega)]; exact hu) (by rw [l40 _ 3 (by omega) (by omega)]; exact hs) ⟨fun _ => by rw [kd_hi hd1 (by omega)]; exact tr', fun q => absurd rfl q⟩)) (fun r24 σ24 h24 => ?_))
        obtain ⟨h24, wy⟩ := h24
        have w01 : r24 = 0 ∨ r24 = 1 := wy.1
        have wy : r24 = 1 → WY (42 + 2 * d) σ24 := wy.2
        have hd24 : KD σ σ24 := h24.1
        have l24 : ∀ r k, 40 ≤ r → r ≤ 41 + 2 * d → σ24 r k = s r k := fun r k h1 h2 => (h24.2.1 r k (by omega) (by omega)).trans (l40 r k h1 h2)
        have a24 : ∀ r k, r < 40 → σ24 r k = s1 r k := fun r k h => h24.2.1 r k (by omega) (by omega)
        -- the reference's cut
        have cutR : ∀ (τ0 τ : SG) (ρ' : RG), OW C d σ s τ0 → HK d τ0 τ → ET 0 σ τ → kp (F_X12_cuts v4 (σ 55 (44 + j)) τ ρ') (fun q => CUT (42 + 2 * d) j (999 + (d : Int)) τ (r24, σ24) q ∧ ET 0 σ q.2 ∧ AK d τ0 q.2) := fun τ0 τ ρ' ow hk et => by
          obtain ⟨le1, lq1⟩ := leq τ0 τ ow hk
          rw [← th]
          exact kp_mono (h24.2.2 τ ρ' (999 + (d : Int)) (by omega) et le1 lq1) (fun q g => ⟨g.1, g.2, ak_ft hj hk.2 g.1.1⟩)
        refine kp_ih (fun y0 => kp_mono (next σ24 hd24 l24 (fun k hk => (a24 35 k (by decide)).trans (p35 k hk))) (fun q hq => ⟨hq.1, hq.2.1, hq.2.2.1, fun e m τ0 τ ρ' he ow hk et pa fb => ref e m τ ρ' _ et (fun m' => kp_t y5 (kp_nm (fun x9 g9 => kp_gd (fun _ => ?_))))⟩)) (fun y0 => ?_)
        · rw [jn hv4 hj g9, et.1 (44 + j) (by omega)]
          refine kp_bn2 (cutR τ0 τ ρ' ow hk et) (fun r11 τ11 g11 => ?_)
          obtain ⟨⟨ft, -, -, g⟩, et', ak'⟩ := g11
          have ft : FT j τ τ11 := ft
          rcases g with ⟨q1, -⟩ | ⟨-, q2, -⟩
          · exact absurd (y0.symm.trans (show r24 = 1 from q1)) (by decide)
          refine kp_t q2 (back e m' τ0 τ11 ρ' _ ak' et' (fun τ7 x8 hk7 et7 r7 h8 => hq.2.2.2 e m' τ0 τ7 ρ' x8 he ow hk7 et7 (fun k hk' => ?_) (fb_eq2 fb (a24 0 8 (by decide)) (a24 0 9 (by decide)) (fun k _ => a24 36 k (by decide)) ?_ (fun k _ => ?_) hC5) h8))
          · rw [r7 61 (by decide), ft 61 k (by decide) (by decide) (by omega) (by omega)]; exact pa k hk'
          · rw [r7 54 (by decide), ft 54 25 (by decide) (by decide) (by omega) (by omega)]
          · rw [r7 62 (by decide), ft 62 k (by decide) (by decide) (by omega) (by omega)]
        refine kp_gd (fun _ => kp_nm (fun σ28 h28 => kp_nm (fun x29 h29 => kp_gd (fun _ => ?_))))
        have na : a1.toNatClampNeg = d := cn ha
        rw [na] at h28
        have e29 : x29.toInt = ((d + 1 : Nat) : Int) := by rw [h29, ti_add (by rw [ti_1]; omega) (by rw [ti_1]; omega), ti_1, ha]; omega
        rw [cn e29, ly34 b.1.1 (by omega : d + 1 < 7)]
        show kp (gd (isLb _) _) _
        have ed : 40 + 2 * (d + 1) = 42 + 2 * d := by omega
        rw [ed]
        refine kp_gd (fun _ => kp_nm (fun x32 h32 => kp_nm (fun x33 h33 => kp_nm (fun x34 h34 => kp_nm (fun x35 h35 => kp_nm (fun x36 h36 => ?_))))))
        have s28 : ∀ r k, ¬ (r = 35 ∧ k = d) → σ28 r k = σ24 r k := fun r k nn => by rw [h28, sn nn]
        have hd28 : KD σ σ28 := kd_trans hd24 (fun r k p => s28 r k (fun y => by rw [y.1] at p; cases p))
        have r1 : r24 = 1 := by
          rcases w01 with w | w
          · exact absurd w y0
          · exact w
        obtain ⟨⟨w6, ⟨w70, w71⟩, ⟨w80, w81⟩⟩, wu, ws⟩ := wy r1
        have v7 : σ28 (42 + 2 * d) 7 = σ24 (42 + 2 * d) 7 := s28 _ 7 (by omega)
        have v8 : σ28 (42 + 2 * d) 8 = σ24 (42 + 2 * d) 8 := s28 _ 8 (by omega)
        have e35 : x35.toInt = a3.toInt + (σ24 (42 + 2 * d) 8).toInt := by rw [h35, v8, ti_add (by omega) (by omega)]
        have e36 : x36.toInt = a3.toInt + (σ24 (42 + 2 * d) 8).toInt - (σ24 (42 + 2 * d) 7).toInt := by rw [h36, v7, ti_sub (by omega) (by omega), e35]
        have e32 : x32.toInt = ((d + 1 : Nat) : Int) := by rw [h32, ← h29]; exact e29
        refine kp_bn (ihf (d + 1) x32 x34 x36 σ28 e32 (by omega) hd28 (by rw [ed, s28 _ 2 (by omega)]; exact wu) (by rw [ed, s28 _ 3 (by omega)]; exact ws) ⟨by omega, by omega⟩) (fun σ37 h37 => ?_)
        obtain ⟨g1, g2, g3, g6⟩ := h37
        have l37 : ∀ r k, 40 ≤ r → r ≤ 41 + 2 * d → σ37 r k = s r k := fun r k h1 h2 => by rw [g2 r k h1 (by omega), s28 r k (by omega)]; exact l24 r k h1 h2
        have p37 : ∀ k, k < d → σ37 35 k = s 35 k := fun k hk => by rw [g3 k (by omega), s28 35 k (by omega), a24 35 k (by decide)]; exact p35 k hk
        refine kp_mono (next σ37 g1 l37 p37) (fun q hq => ⟨hq.1, hq.2.1, hq.2.2.1, fun e m τ0 τ ρ' he ow hk et pa fb => ref e m τ ρ' _ et (fun m' => kp_t y5 (kp_nm (fun x9 g9 => kp_gd (fun _ => ?_))))⟩)
        rw [jn hv4 hj g9, et.1 (44 + j) (by omega)]
        refine kp_bn2 (cutR τ0 τ ρ' ow hk et) (fun r11 τ11 g11 => ?_)
        obtain ⟨⟨ft, le', lq', g⟩, et', ak'⟩ := g11
        have ft : FT j τ τ11 := ft
        have le' : LE (42 + 2 * d) σ24 τ11 := le'
        have lq' : LQ (999 + (d : Int) + 1) τ11 := lq'
        have et' : ET 0 σ τ11 := et'
        have ak' : AK d τ0 τ11 := ak'
        rcases g with ⟨q1, q2, -, ⟨-, ww7, ww8⟩, -⟩ | ⟨q1, q2, -⟩
        rotate_left
        · exact absurd q1 y0
        have ww7 : σ24 (42 + 2 * d) 7 = τ11 54 15 := ww7
        have ww8 : σ24 (42 + 2 * d) 8 = τ11 54 16 := ww8
        refine kp_f (by rw [show r11 = 1 from q2]; decide) (kp_gd (fun _ => kp_nm (fun τ15 k15 => kp_nm (fun x16 k16 => kp_nm (fun x17 k17 => kp_nm (fun x18 k18 => kp_nm (fun x19 k19 => kp_nm (fun x20 k20 => ?_))))))))
        rw [na] at k15
        have u15 : ∀ r k, ¬ (r = 61 ∧ k = d) → τ15 r k = τ11 r k := fun r k nn => by rw [k15, sn nn]
        have ex : x16 = x32 := by rw [k16, h32]
        have ex18 : x18 = x34 := by rw [k18, k17, h34, h33]
        have ex20 : x20 = x36 := by rw [k20, k19, u15 54 15 (by omega), u15 54 16 (by omega), h36, h35, v7, v8, ww7, ww8]
        rw [ex, ex18, ex20]
        have et15 : ET 0 σ τ15 := ⟨fun x hx => by rw [u15 55 x (by omega)]; exact et'.1 x hx, by rw [u15 54 17 (by omega)]; exact et'.2.1, by rw [u15 54 18 (by omega)]; exact et'.2.2⟩
        have ak15 : AK d τ0 τ15 := ak_s2 ak' k15 (by decide) (by omega)
        obtain ⟨m1', m2', m3', m4', m5'⟩ := le'
        have OWn : OW C (d + 1) σ σ28 τ15 := by
          refine ⟨et15, ?_, ⟨by rw [u15 55 1 (by omega)]; exact lq'.1, by rw [u15 55 2 (by omega)]; exact lq'.2.1, by rw [u15 55 3 (by omega)]; exact ⟨lq'.2.2.1, by have := lq'.2.2.2; omega⟩⟩, fun k hk' => ?_, fb_eq2 fb (by rw [s28 0 8 (by omega)]; exact a24 0 8 (by decide)) (by rw [s28 0 9 (by omega)]; exact a24 0 9 (by decide)) (fun k _ => by rw [s28 36 k (by omega)]; exact a24 36 k (by decide)) (by rw [u15 54 25 (by omega), ft 54 25 (by decide) (by decide) (by omega) (by omega)]) (fun k _ => by rw [u15 62 k (by omega), ft 62 k (by decide) (by decide) (by omega) (by omega)]) hC5⟩
          · rw [ed]
            exact ⟨by rw [s28 _ 1 (by omega), u15 55 0 (by omega)]; exact m1', by rw [s28 _ 2 (by omega), u15 55 1 (by omega)]; exact m2', by rw [s28 _ 3 (by omega), u15 55 2 (by omega)]; exact m3', by rw [s28 _ 4 (by omega), u15 55 3 (by omega)]; exact m4', by rw [s28 _ 5 (by omega), u15 55 4 (by omega)]; exact m5'⟩
          · by_cases w : k = d
            · rw [w, k15, sv, h28, sv]
            · rw [u15 61 k (by omega), ft 61 k (by decide) (by decide) (by omega) (by omega), s28 35 k (by omega), a24 35 k (by decide), p35 k (by omega)]; exact pa k (by omega)
        refine kp_bn (g6 e τ15 ρ' he OWn) (fun τ17 k17' => ?_)
        obtain ⟨⟨et17, -, -, pa17, fb17⟩, rk17⟩ := k17'
        refine back e m' τ0 τ17 ρ' _ (ak_rk ak15 rk17) et17 (fun τ7 x8 hk7 et7 r7 h8 => ?_)
        refine hq.2.2.2 e m' τ0 τ7 ρ' x8 he ow hk7 et7 (fun k hk' => ?_) (fb_eq2 fb17 rfl rfl (fun _ _ => rfl) (by rw [r7 54 (by decide)]) (fun k _ => by rw [r7 62 (by decide)]) hC5) h8
        rw [r7 61 (by decide), pa17 k (by omega)]; exact p37 k hk'
    refine kp_mono (loop 1024 s 0 0 rfl (by omega) hd (fun _ _ _ _ => rfl) (fun _ _ => rfl)) (fun q hq => ⟨hq.1, hq.2.1, hq.2.2.1, fun e τ ρ' he ow => ?_⟩)
    refine refB e τ ρ' _ ow.1 (fun e' he' => ⟨fun y => absurd y nC, fun _ => kp_bn (kp_and (hk_stands (k := d) (by omega) ha) (k_stands (k := d) (by omega) ha)) (fun τ2 g2 => ?_)⟩)
    exact hq.2.2.2 e' 1024 τ τ2 ρ' (by omega) ow g2.1 ⟨fun x hx => by rw [g2.2.1 55 (by decide)]; exact ow.1.1 x hx, by rw [g2.2.1 54 (by decide)]; exact ow.1.2.1, by rw [g2.2.1 54 (by decide)]; exact ow.1.2.2⟩ (fun k hk => by rw [g2.2.1 61 (by decide)]; exact ow.2.2.2.1 k hk) (fb_eq2 ow.2.2.2.2 rfl rfl (fun _ _ => rfl) (by rw [g2.2.1 54 (by decide)]) (fun k _ => by rw [g2.2.1 62 (by decide)]) hC5)
