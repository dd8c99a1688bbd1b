/-! PART 7601.pb: by hand: the two parsers side by side: a sign, a number, a word, a step of the code -/
theorem sim_sign {fh : Nat → Int32} {b : Nat} {e o a1 : Int32} {π δ : Int} {t ca : Nat} {σ τ : SG} {ρ ρ' : RG} (h : PS fh b e o π δ t ca σ ρ τ) (ha : 1 ≤ a1.toInt) : kp (F_X0_readSign a1 σ ρ) (fun q => kp (F_X12_must a1 τ ρ') (fun q' => (q.1 = 1 ∧ PS fh b e o π (δ + 1) t ca q.2 ρ q' ∧ (q.2 29 11 = σ 29 11)) ∨ (q.1 = 0 ∧ FL fh b q.2 q'))) := by
  obtain ⟨i1, i2⟩ := ps_is h ha
  have w := h.2.2.1.1
  unfold F_X0_readSign
  refine kp_bn (ps_next h) (fun r1 h1 => ?_)
  unfold F_X12_must
  refine kp_ih (fun c => kp_nm (fun x3 h3 => kp_nm (fun σ5 h5 => kp_some ?_))) (fun c => kp_some ?_)
  · rw [h1] at c
    refine kp_t w (kp_bn (ps_here h) (fun r11 h11 => kp_t (h11.trans (i1.mp c)) ?_))
    unfold F_X12_must_21
    refine kp_gd (fun _ => kp_nm (fun τ3 g3 => ?_))
    refine kp_t (by rw [g3, sv]) (kp_nm (fun x5 g5 => kp_nm (fun τ7 g7 => kp_some (Or.inl ⟨rfl, ?_, by show σ5 29 11 = _; rw [h5, sn (by omega)]⟩))))
    have lt := i2 c
    have ex := pos_1 h lt h3
    have p3 := h.2.1.2.2.1
    have e5 : x5 = x3 := by rw [g5, h3, g3, sn (by omega), h.2.1.1]
    show PS fh b e o π (δ + 1) t ca σ5 ρ τ7
    refine ps_new h (fun r k n => by rw [h5, sn (by omega)]) (fun r k n => by rw [g7, sn (by omega), g3, sn (by omega)]) (by rw [h5, sv, g7, sv, e5]) ?_ (by rw [h5, sv]; omega) (by rw [h5, sv]; omega) (by rw [h5, sv]; omega) (by rw [g7, sn (by omega), g3, sv]) (by rw [g7, sn (by omega), g3, sn (by omega)]; exact h.2.2.1.2)
    rw [h5, sv]; have := h.2.1.2.1; omega
  · rw [h1] at c
    refine kp_t w (kp_bn (ps_here h) (fun r11 h11 => kp_f (fun z => c (i1.mpr (h11.symm.trans z))) ?_))
    unfold F_X12_must_16 F_X12_must_21
    refine kp_gd (fun _ => kp_nm (fun τ3 g3 => kp_f (by rw [g3, sv]; decide) (kp_nm (fun x g => kp_nm (fun τ10 g10 => kp_some (Or.inr ⟨rfl, ?_⟩))))))
    refine ps_fl h (by rw [g10, sn (by omega), g3, sv]; decide) ?_ (by rw [g10, s2_ne 55 (by decide), g3, s2_ne 55 (by decide)])
    show σ 29 10 = τ10 54 6
    rw [g10, sv, g, g3, sn (by omega), Int32.add_zero]; exact h.2.1.1
/-! a number -/
def DG (c : Int32) : Prop := 48 ≤ c.toInt ∧ c.toInt ≤ 57
theorem k_digit {a : Int32} {σ : SG} {ρ : RG} : kp (F_X0_isDigit a σ ρ) (fun q => ¬ q = 0 ↔ DG a) := by
  have e48 : (48 : Int32).toInt = 48 := rfl
  have e57 : (57 : Int32).toInt = 57 := rfl
  unfold F_X0_isDigit DG
  refine kp_ih (fun c => kp_some ⟨fun n => absurd rfl n, fun q => ?_⟩) (fun c => kp_ih (fun d => kp_some ⟨fun n => absurd rfl n, fun q => ?_⟩) (fun d => kp_some ⟨fun _ => ⟨?_, ?_⟩, fun _ => by decide⟩))
  · have := lt_i c; omega
  · have := lt_i d; omega
  · have := le_i (nlt c); omega
  · have := le_i (nlt d); omega
theorem k_in {a : Int32} {σ : SG} {ρ : RG} : kp (F_X12_in a (48 : Int32) (57 : Int32) σ ρ) (fun q => ¬ q = 0 ↔ DG a) := by
  have e48 : (48 : Int32).toInt = 48 := rfl
  have e57 : (57 : Int32).toInt = 57 := rfl
  refine kp_mono (kp_ok in_0) (fun q h => h.2.trans ⟨fun ⟨x, y⟩ => ⟨?_, ?_⟩, fun ⟨x, y⟩ => ⟨i_le (by omega), i_le (by omega)⟩⟩)
  · have := le_i x; omega
  · have := le_i y; omega
theorem dg_N {fh : Nat → Int32} {b : Nat} {e o : Int32} {π δ : Int} {t ca : Nat} {σ τ : SG} {ρ : RG} (h : PS fh b e o π δ t ca σ ρ τ) : (DG (cN σ (σ 29 10)) ↔ DG (cH τ (τ 54 6))) ∧ (DG (cN σ (σ 29 10)) → cN σ (σ 29 10) = cH τ (τ 54 6) ∧ (σ 29 10).toInt < e.toInt) := by
  rcases ps_cN h with ⟨a, b', l⟩ | ⟨a, b', l⟩
  · rw [a]; exact ⟨Iff.rfl, fun _ => ⟨rfl, l⟩⟩
  · rw [a, b']
    refine ⟨⟨fun z => ?_, fun z => ?_⟩, fun z => ?_⟩ <;> exact absurd z.1 (by decide)
theorem dg_rg {c x : Int32} (h : DG c) (hx : x = c - 48) : rg x 0 9 ∧ x.toInt = c.toInt - 48 := by
  have e48 : (48 : Int32).toInt = 48 := rfl
  obtain ⟨a, b⟩ := h
  have e : x.toInt = c.toInt - 48 := by rw [hx, ti_sub (by omega) (by omega), e48]
  exact ⟨⟨by omega, by omega⟩, e⟩
theorem fig_end {τ : SG} {ρ : RG} {n : Nat} {v1 v2 : Int32} (c : 2 ≤ v2.toInt) : kp (F_X12_figures_34 (n + 1) τ ρ v1 v2) (fun q => q = (v1, τ)) := by
  unfold F_X12_figures_34
  exact kp_t (i_le (by show (2 : Int32).toInt ≤ _; rw [show (2 : Int32).toInt = 2 from rfl]; exact c)) (kp_some rfl)
theorem sim_num {fh : Nat → Int32} {b : Nat} {e o : Int32} {π δ : Int} {t ca : Nat} {σ τ : SG} {ρ ρ' : RG} (h : PS fh b e o π δ t ca σ ρ τ) : kp (F_X0_readNumber σ ρ) (fun q => kp (F_X12_figures τ ρ') (fun q' => (q.1 = 1 ∧ q.2 29 11 = q'.1 ∧ rg q'.1 0 99 ∧ PS fh b e o π (δ + 1) t ca q.2 ρ q'.2) ∨ (q.1 = 0 ∧ FL fh b q.2 q'.2))) := by
  obtain ⟨d1, d2⟩ := dg_N h
  have w := h.2.2.1.1
  unfold F_X0_readNumber
  refine kp_bn (ps_next h) (fun r1 h1 => kp_bn k_digit (fun r2 h2 => ?_))
  rw [h1] at h2
  unfold F_X12_figures
  refine kp_ih (fun c => kp_some ?_) (fun c => kp_bn (ps_next h) (fun r4 h4 => kp_nm (fun x5 h5 => kp_nm (fun σ7 h7 => kp_nm (fun x8 h8 => kp_nm (fun σ10 h10 => ?_))))))
  · refine kp_t w (kp_bn (ps_here h) (fun r19 h19 => kp_bn k_in (fun r20 h20 => ?_)))
    rw [h19, ← d1, ← h2] at h20
    have z : r20 = 0 := by
      by_cases z : r20 = 0
      · exact z
      · exact absurd c (h20.mp z)
    refine kp_t z ?_
    unfold F_X12_figures_22 F_X12_figures_27
    refine kp_gd (fun _ => kp_nm (fun τ3 g3 => ?_))
    have w3 : ¬ τ3 54 8 = 0 := by rw [g3, sv]; decide
    refine kp_mono (w_fig (n := 1023) w3) (fun q hq => Or.inr ⟨rfl, ps_fl h hq.1 ?_ (by rw [hq.2.2, g3, s2_ne 55 (by decide)])⟩)
    show σ 29 10 = _
    rw [hq.2.1, g3, sn (by omega)]; exact h.2.1.1
  · -- a first figure
    have D := h2.mp c
    obtain ⟨ec, lt⟩ := d2 D
    rw [h4] at h5
    obtain ⟨r5, t5⟩ := dg_rg D h5
    have e7 : σ7 29 10 = σ 29 10 := by rw [h7, sn (by omega)]
    rw [e7] at h8
    have ex8 := pos_1 h lt h8
    have p3 := h.2.1.2.2.1
    have v10 : σ10 29 11 = x5 := by rw [h10, sn (by omega), h7, sv]
    -- the reference at its second round
    obtain ⟨τ1, hτ1⟩ : ∃ τ1 : SG, τ1 = s2 (s2 τ 54 8 0) 54 6 x8 := ⟨_, rfl⟩
    have ps1 : PS fh b e o π (δ + 1) t ca σ10 ρ τ1 := by
      refine ps_new h (fun r k n => by rw [h10, sn (by omega), h7, sn (by omega)]) (fun r k n => by rw [hτ1, sn (by omega), sn (by omega)]) (by rw [h10, sv, hτ1, sv]) ?_ (by rw [h10, sv]; omega) (by rw [h10, sv]; omega) (by rw [h10, sv]; omega) (by rw [hτ1, sn (by omega), sv]) (by rw [hτ1, sn (by omega), sn (by omega)]; exact h.2.2.1.2)
      rw [h10, sv]; have := h.2.1.2.1; omega
    have ref : ∀ Q : Int32 × SG → Prop, (∀ v2 : Int32, v2.toInt = 1 → kp (F_X12_figures_34 (1022 + 1) τ1 ρ' x5 v2) Q) → kp (if τ 54 8 = 0 then bn (F_X12_here τ ρ') fun r19 => bn (F_X12_in r19 (48 : Int32) (57 : Int32) τ ρ') fun r20 => if r20 = 0 then F_X12_figures_22 τ ρ' else F_X12_figures_27 τ ρ' (0 : Int32) else F_X12_figures_22 τ ρ') Q := by
      intro Q hQ
      refine kp_t w (kp_bn (ps_here h) (fun r19 h19 => kp_bn k_in (fun r20 h20 => ?_)))
      rw [h19, ← d1] at h20
      refine kp_f (h20.mpr D) ?_
      unfold F_X12_figures_27
      refine kp_gd (fun _ => kp_nm (fun τ3 g3 => ?_))
      have n3 : ∀ r k, ¬ (r = 54 ∧ k = 8) → τ3 r k = τ r k := fun r k n => by rw [g3, sn n]
      show kp (F_X12_figures_34 (1023 + 1) τ3 ρ' 0 0) Q
      unfold F_X12_figures_34
      refine kp_f (by decide) (kp_t (by rw [g3, sv]) (kp_bn (k_here (e := e) (by rw [n3 54 7 (by omega)]; exact h.1.1.2.2.2.1) h.1.1.2.2.2.2.1.2 (by rw [n3 54 6 (by omega), ← h.2.1.1]; exact p3)) (fun r6 h6 => ?_)))
      have e6 : r6 = cN σ (σ 29 10) := by
        rw [h6, ec]
        unfold cH
        rw [n3 54 7 (by omega), n3 54 6 (by omega), n3 55 _ (by omega)]
      refine kp_bn k_in (fun r7 h7' => kp_f ((h7'.mpr (by rw [e6]; exact D))) (kp_t rfl ?_))
      unfold F_X12_figures_68
      refine kp_nm (fun x10 g10 => kp_bn (k_here (e := e) (by rw [n3 54 7 (by omega)]; exact h.1.1.2.2.2.1) h.1.1.2.2.2.2.1.2 (by rw [n3 54 6 (by omega), ← h.2.1.1]; exact p3)) (fun r11 h11 => kp_nm (fun x12 g12 => kp_nm (fun x13 g13 => kp_nm (fun x14 g14 => kp_nm (fun τ16 g16 => kp_nm (fun x17 g17 => ?_)))))))
      have e11 : r11 = cN σ (σ 29 10) := by rw [h11, ← h6, e6]
      have e13 : x13 = x5 := by rw [g13, g12, g10, e11, h5, Int32.mul_zero, Int32.zero_add]
      have e14 : x14 = x8 := by rw [g14, n3 54 6 (by omega), h8, h.2.1.1]
      have e16 : τ16 = τ1 := by rw [g16, g3, hτ1, e14]
      rw [e13, e16]
      exact hQ x17 (by rw [g17]; rfl)
    by_cases z5 : x5 = 0
    · -- 0: no figure more
      refine kp_t (by rw [v10, z5]) (kp_some (ref _ (fun v2 e2 => ?_)))
      have fin : ∀ q', q' = (x5, τ1) → ((1 : Int32) = 1 ∧ σ10 29 11 = q'.1 ∧ rg q'.1 0 99 ∧ PS fh b e o π (δ + 1) t ca σ10 ρ q'.2) ∨ ((1 : Int32) = 0 ∧ FL fh b σ10 q'.2) := fun q' hq => by
        rw [hq]; exact Or.inl ⟨rfl, v10, rg_w r5 (by decide) (by decide), ps1⟩
      unfold F_X12_figures_34
      refine kp_f (fun x => by have := le_i x; rw [show (2 : Int32).toInt = 2 from rfl] at this; omega) (kp_t ps1.2.2.1.1 (kp_bx (fun r6 => kp_bx (fun r7 => kp_ih (fun _ => kp_some (fin _ rfl)) (fun _ => kp_f (fun x => by rw [x] at e2; exact absurd e2 (by decide)) (kp_t (by rw [z5]; decide) (kp_some (fin _ rfl))))))))
    · have pos5 : 1 ≤ x5.toInt := by
        have := r5.1
        have : x5.toInt ≠ 0 := fun q => z5 (ieq (by rw [q]; rfl))
        omega
      obtain ⟨f1, f2⟩ := dg_N ps1
      refine kp_f (by rw [v10]; exact z5) (kp_bn (ps_next ps1) (fun r12 h12 => kp_bn k_digit (fun r13 h13 => ?_)))
      rw [h12] at h13
      refine kp_ih (fun c3 => kp_some (ref _ (fun v2 e2 => ?_))) (fun c3 => kp_nm (fun x15 h15 => kp_bn (ps_next ps1) (fun r16 h16 => kp_nm (fun x17 h17 => kp_nm (fun x18 h18 => kp_nm (fun σ20 h20 => kp_nm (fun x21 h21 => kp_nm (fun σ23 h23 => kp_some (ref _ (fun v2 e2 => ?_))))))))))
      · unfold F_X12_figures_34
        refine kp_f (fun x => by have := le_i x; rw [show (2 : Int32).toInt = 2 from rfl] at this; omega) (kp_t ps1.2.2.1.1 (kp_bn (ps_here ps1) (fun r6 h6 => kp_bn k_in (fun r7 h7' => ?_))))
        rw [h6, ← f1, ← h13] at h7'
        refine kp_t ?_ (kp_some (Or.inl ⟨rfl, v10, rg_w r5 (by decide) (by decide), ps1⟩))
        by_cases z : r7 = 0
        · exact z
        · exact absurd c3 (h7'.mp z)
      · have D2 := h13.mp c3
        obtain ⟨ec2, lt2⟩ := f2 D2
        have e10 : (10 : Int32).toInt = 10 := rfl
        have e48 : (48 : Int32).toInt = 48 := rfl
        have u5 := r5.2
        have e20 : σ20 29 10 = σ10 29 10 := by rw [h20, sn (by omega)]
        rw [e20] at h21
        have ex21 := pos_1 ps1 lt2 h21
        have pp := ps1.2.1.2.2.1
        have a15 : x15.toInt = x5.toInt * 10 := by rw [h15, v10, Int32.toInt_mul, e10, bmod_id (by omega) (by omega)]
        rw [h16] at h17
        obtain ⟨g1, g2⟩ := D2
        have a17 : x17.toInt = x5.toInt * 10 + (cN σ10 (σ10 29 10)).toInt := by rw [h17, ti_add (by omega) (by omega), a15]
        have a18 : x18.toInt = x5.toInt * 10 + (cN σ10 (σ10 29 10)).toInt - 48 := by rw [h18, ti_sub (by omega) (by omega), a17, e48]
        unfold F_X12_figures_34
        refine kp_f (fun x => by have := le_i x; rw [show (2 : Int32).toInt = 2 from rfl] at this; omega) (kp_t ps1.2.2.1.1 (kp_bn (ps_here ps1) (fun r6 h6 => kp_bn k_in (fun r7 h7' => ?_))))
        rw [h6, ← f1, ← h13] at h7'
        refine kp_f (h7'.mpr c3) (kp_f (fun x => by rw [x] at e2; exact absurd e2 (by decide)) (kp_f (fun x => by have := le_i x; rw [ti_0] at this; omega) ?_))
        unfold F_X12_figures_68
        refine kp_nm (fun y10 k10 => kp_bn (ps_here ps1) (fun y11 k11 => kp_nm (fun y12 k12 => kp_nm (fun y13 k13 => kp_nm (fun y14 k14 => kp_nm (fun τ16 k16 => kp_nm (fun y17 k17 => ?_)))))))
        have e13 : y13 = x18 := by rw [k13, k12, k10, k11, h18, h17, h15, v10, ← ec2, Int32.mul_comm]
        have e14 : y14 = x21 := by rw [k14, h21, ps1.2.1.1]
        have e17 : y17.toInt = 2 := by rw [k17, ti_add (by rw [ti_1]; omega) (by rw [ti_1]; omega), ti_1, e2]; rfl
        rw [e13]
        refine kp_mono (fig_end (n := 1021) (by omega)) (fun q' hq => Or.inl ?_)
        rw [hq]
        refine ⟨rfl, ?_, ⟨by show 0 ≤ x18.toInt; omega, by show x18.toInt ≤ 99; omega⟩, ?_⟩
        · show σ23 29 11 = x18
          rw [h23, sn (by omega), h20, sv]
        · show PS fh b e o π (δ + 1) t ca σ23 ρ τ16
          refine ps_lo (δ := δ + 1 + 1) (ps_new ps1 (fun r k n => by rw [h23, sn (by omega), h20, sn (by omega)]) (fun r k n => by rw [k16, sn (by omega)]) (by rw [h23, sv, k16, sv, e14]) (π' := π) ?_ (by rw [h23, sv]; omega) (by rw [h23, sv]; omega) (by rw [h23, sv]; omega) (by rw [k16, sn (by omega)]; exact ps1.2.2.1.1) (by rw [k16, sn (by omega)]; exact ps1.2.2.1.2)) (Int.le_refl _) (by omega)
          rw [h23, sv]; have := ps1.2.1.2.1; omega
/-! texts -/
def LT (w j : Nat) : Int32 := (sByt.getD w []).getD j 0
theorem lt_rg {w j : Nat} (hw : w < 6) (hj : j < sLen.getD w 0) : 1 ≤ (LT w j).toInt ∧ (LT w j).toInt ≤ 127 := by
  have h : ∀ w, w < 6 → ∀ j, j < sLen.getD w 0 → 1 ≤ (LT w j).toInt ∧ (LT w j).toInt ≤ 127 := by decide
  exact h w hw j hj
theorem k_len {w : Nat} {σ : SG} {ρ : RG} (hw : w < 6) : kp (F_J0_length_8abf5 w σ ρ) (fun q => q.toInt = ((sLen.getD w 0 : Nat) : Int)) := by
  refine kp_mono (kp_ok (s_J0_length hw)) (fun q h => ?_)
  rw [h]
  rcases (show w = 0 ∨ w = 1 ∨ w = 2 ∨ w = 3 ∨ w = 4 ∨ w = 5 by omega) with rfl | rfl | rfl | rfl | rfl | rfl <;> rfl
theorem k_charAt {w : Nat} {x : Int32} {σ : SG} {ρ : RG} (hw : w < 6) : kp (F_J0_charAt_5068e w x σ ρ) (fun q => ∀ j : Nat, x.toInt = (j : Int) → j < sLen.getD w 0 → q = LT w j) := by
  unfold F_J0_charAt_5068e
  refine kp_bx (fun r1 => kp_ih (fun _ => kp_none) (fun _ => kp_bn (Q := fun q => ∀ j : Nat, x.toInt = (j : Int) → j < sLen.getD w 0 → q = LT w j) ?_ (fun r3 h3 => kp_gd (fun _ => kp_some h3))))
  unfold F_J1_charAt_3b067
  refine kp_bx (fun _ => kp_gd (fun _ => kp_nm (fun x3 h3 => kp_nm (fun x4 h4 => kp_gd (fun _ => kp_some (fun j hj hl => ?_))))))
  rw [h4, h3, cn hj]
  have h : ∀ w, w < 6 → ∀ j, j < sLen.getD w 0 → ((((sByt.getD w []).getD j 0) &&& (255 : Int32)).toUInt32 % 65536).toInt32 = LT w j := by decide
  exact h w hw j hl
theorem sim_word {fh : Nat → Int32} {b : Nat} {e o : Int32} {π : Int} {t ca : Nat} {w : Nat} {ρ ρ' : RG} (hw : w < 6) : ∀ (n : Nat) (σ τ : SG) (δ : Int) (v2 : Int32), 0 ≤ v2.toInt → v2.toInt < 100 → 0 ≤ δ → PS fh b e o π δ t ca σ ρ τ → kp (F_X0_readWord_2 w n σ ρ v2) (fun q => kp (F_X12_spells_2 w n τ ρ' v2) (fun q' => (q.1 = 1 ∧ PS fh b e o π δ t ca q.2 ρ q') ∨ (q.1 = 0 ∧ FL fh b q.2 q'))) := by
  intro n
  induction n with
  | zero => intro σ τ δ v2 _ _ _ _; exact kp_none
  | succ n ih =>
    intro σ τ δ v2 h0 h1 hδ h
    unfold F_X0_readWord_2 F_X12_spells_2
    have l6 : sLen.getD w 0 ≤ 6 := by
      rcases (show w = 0 ∨ w = 1 ∨ w = 2 ∨ w = 3 ∨ w = 4 ∨ w = 5 by omega) with rfl | rfl | rfl | rfl | rfl | rfl <;> decide
    refine kp_bn (k_len hw) (fun r1 e1 => kp_ih (fun c => kp_some (kp_bn (k_len hw) (fun q1 f1 => kp_t ?_ (kp_some (Or.inl ⟨rfl, h⟩))))) (fun c => kp_bn (k_charAt hw) (fun r3 h3 => ?_)))
    · exact i_le (by rw [f1, ← e1]; exact le_i c)
    · have lt := lt_i (nle c)
      have lc := cl0 h0
      have e3 := h3 v2.toNatClampNeg lc.symm (by omega)
      have rl := lt_rg hw (j := v2.toNatClampNeg) (by omega)
      rw [← e3] at rl
      refine kp_bn2 (sim_sign (ρ' := ρ') h rl.1) (fun r4 σ4 h4 => ?_)
      have rest : ∀ (Q : SG → Prop), (∀ τ4 : SG, (r4 = 1 ∧ PS fh b e o π (δ + 1) t ca σ4 ρ τ4 ∧ σ4 29 11 = σ 29 11 ∨ r4 = 0 ∧ FL fh b σ4 τ4) → ∀ x5 : Int32, x5 = v2 + 1 → kp (F_X12_spells_2 w n τ4 ρ' x5) Q) → kp (bn (F_J0_length_8abf5 w τ ρ') fun r1 => if r1 ≤ v2 then some τ else bn (F_J0_charAt_5068e w v2 τ ρ') fun r3 => bn (F_X12_must r3 τ ρ') fun σ4 => nm (v2 + (1 : Int32)) fun x5 => F_X12_spells_2 w n σ4 ρ' x5) Q := by
        intro Q hQ
        refine kp_bn (k_len hw) (fun q1 f1 => kp_f (fun z => by have := le_i z; omega) (kp_bn (k_charAt hw) (fun q3 g3 => ?_)))
        have e3' : q3 = r3 := by rw [g3 v2.toNatClampNeg lc.symm (by omega), e3]
        rw [e3']
        exact kp_bn h4 (fun τ4 g4 => kp_nm (fun x5 hx => hQ τ4 g4 x5 hx))
      refine kp_ih (fun c4 => kp_some (rest _ (fun τ4 g4 x5 hx => ?_))) (fun c4 => kp_nm (fun x6 h6 => ?_))
      · rcases g4 with ⟨z, _⟩ | ⟨_, z⟩
        · rw [z] at c4; exact absurd c4 (by decide)
        · exact kp_mono (w_spells n τ4 x5 z.1) (fun q' hq => Or.inr ⟨rfl, ws_fl z hq⟩)
      · -- the rest of the word
        intro q hq
        refine rest _ (fun τ4 g4 x5 hx => ?_)
        rcases g4 with ⟨_, z, _⟩ | ⟨z, _⟩
        · rw [hx, ← h6]
          have e6 : x6.toInt = v2.toInt + 1 := by rw [h6, ti_add (by rw [ti_1]; omega) (by rw [ti_1]; omega), ti_1]
          have := ih σ4 τ4 (δ + 1) x6 (by omega) (by omega) (by omega) z q hq
          exact kp_mono this (fun q' g => g.elim (fun g => Or.inl ⟨g.1, ps_lo g.2 (Int.le_refl _) (by omega)⟩) Or.inr)
        · exact absurd z c4
/-! a step of the code -/
theorem sim_put {fh : Nat → Int32} {b : Nat} {e o c r : Int32} {π δ : Int} {t t' ca : Nat} {σ τ : SG} {ρ ρ' : RG} (h : PS fh b e o π (δ + 1) t ca σ ρ τ) (h0 : 0 ≤ δ) (hT : TR c r) (hs : hst c t = some t') : kp (F_X0_put c σ ρ) (fun q => q.1 = 1 ∧ kp (F_X12_emits r τ ρ') (fun q' => PS fh b e o π δ t' ca q.2 ρ q')) := by
  obtain ⟨⟨⟨s1, s2', s3, s4, s5, s6, s7⟩, hot⟩, ⟨p1, p2, p3, p4⟩, ⟨w, ho⟩, ⟨h4, h5⟩, cc, ⟨c1, c2, c3, c4⟩, h6, h7⟩ := h
  have u := s5.2
  unfold F_X0_put
  refine kp_f (fun z => by have := lt_i z; rw [ti_0] at this; omega) (kp_t (i_lt (by rw [ti_100]; omega)) (kp_gd (fun _ => kp_nm (fun σ5 k5 => kp_nm (fun x6 k6 => kp_nm (fun σ8 k8 => kp_some ⟨rfl, ?_⟩))))))
  show kp (F_X12_emits r τ ρ') (fun q' => PS fh b e o π δ t' ca σ8 ρ q')
  rw [cn c2] at k5
  have e5 : σ5 29 7 = σ 29 7 := by rw [k5, sn (by omega)]
  rw [e5] at k6
  have x6' : x6.toInt = (cc : Int) + 1 := by rw [k6, ti_add (by rw [ti_1]; omega) (by rw [ti_1]; omega), ti_1, c2]
  have n8 : ∀ r k, ¬ (r = 29 ∧ k = 7) → ¬ (r = 33 ∧ k = cc) → σ8 r k = σ r k := fun r k n n' => by rw [k8, sn n, k5, sn n']
  have v8 : σ8 33 cc = c := by rw [k8, sn (by omega), k5, sv]
  unfold F_X12_emits
  have e1 : (1 : Int32).toInt = 1 := rfl
  have e140 : (140 : Int32).toInt = 140 := rfl
  have e209 : (209 : Int32).toInt = 209 := rfl
  have e204 : (204 : Int32).toInt = 204 := rfl
  refine kp_t w (kp_nm (fun x2 g2 => kp_nm (fun x3 g3 => kp_nm (fun x4 g4 => ?_))))
  have v2 : x2.toInt = 140 * (b : Int) := by rw [g2, Int32.toInt_mul, e140, s6, bmod_id (by omega) (by omega)]
  have v3 : x3.toInt = 209 + 140 * (b : Int) := by rw [g3, ti_add (by omega) (by omega), e209, v2]
  have v4 : x4.toInt = 204 + (b : Int) := by rw [g4, ti_add (by omega) (by omega), e204, s6]
  rw [cn (z := 204 + b) (by omega)]
  refine kp_gd (fun _ => kp_nm (fun y6 g6 => kp_gd (fun _ => kp_nm (fun τ9 g9 => kp_nm (fun x10 g10 => ?_)))))
  have v6 : y6.toInt = 209 + 140 * (b : Int) + (cc : Int) + (ca : Int) := by rw [g6, ti_add (by omega) (by omega), v3, c3]; omega
  rw [cn (z := 209 + 140 * b + cc + ca) (by omega)] at g9
  have v10 : x10.toInt = 204 + (b : Int) := by rw [g10, g9, sn (by omega), ti_add (by omega) (by omega), e204, s6]
  rw [cn (x := x10) (z := 204 + b) (by omega)]
  refine kp_gd (fun _ => kp_nm (fun x12 g12 => kp_gd (fun _ => kp_nm (fun τ15 g15 => kp_some ?_))))
  have v12 : x12.toInt = (cc : Int) + (ca : Int) + 1 := by rw [g12, g9, sn (by omega), ti_add (by omega) (by omega), c3, e1]
  have m15 : ∀ r k, ¬ (r = 55 ∧ k = 204 + b) → ¬ (r = 55 ∧ k = 209 + 140 * b + cc + ca) → τ15 r k = τ r k := fun r k n n' => by rw [g15, sn n, g9, sn n']
  have w15 : τ15 55 (209 + 140 * b + cc + ca) = r := by rw [g15, sn (by omega), g9, sv]
  have z15 : τ15 55 (204 + b) = x12 := by rw [g15, sv]
  have hg : ∀ k, k < cc + ca → τ15 55 (209 + 140 * b + k) = τ 55 (209 + 140 * b + k) := fun k hk => m15 _ _ (by omega) (by omega)
  have hcd : ∀ k, k < cc → σ8 33 k = σ 33 k := fun k hk => n8 _ _ (by omega) (by omega)
  have f30 : σ8 30 = σ 30 := funext (fun k => n8 30 k (by omega) (by omega))
  have f31 : σ8 31 = σ 31 := funext (fun k => n8 31 k (by omega) (by omega))
  have f32 : σ8 32 = σ 32 := funext (fun k => n8 32 k (by omega) (by omega))
  refine ⟨⟨⟨fun k hk => ?_, s2', by rw [n8 29 9 (by omega) (by omega)]; exact s3, by rw [m15 54 7 (by omega) (by omega)]; exact s4, s5, by rw [m15 54 5 (by omega) (by omega)]; exact s6, s7⟩, fun k hk => by obtain ⟨o2, o3, o4, o5⟩ := hk; rw [m15 55 k (by omega) (by omega)]; exact hot k ⟨o2, o3, o4, o5⟩⟩, ⟨by rw [n8 29 10 (by omega) (by omega), m15 54 6 (by omega) (by omega)]; exact p1, by rw [n8 29 10 (by omega) (by omega)]; exact p2, by rw [n8 29 10 (by omega) (by omega)]; exact p3, by rw [n8 29 10 (by omega) (by omega)]; exact p4⟩, ⟨by rw [m15 54 8 (by omega) (by omega)]; exact w, by rw [m15 54 9 (by omega) (by omega)]; exact ho⟩, ⟨by rw [n8 29 0 (by omega) (by omega), m15 55 (194 + b) (by omega) (by omega)]; exact h4, by rw [n8 29 1 (by omega) (by omega), m15 55 (199 + b) (by omega) (by omega)]; exact h5⟩, cc + 1, ⟨by rw [n8 29 2 (by omega) (by omega)]; exact c1, ?_, by rw [z15, v12]; omega, by rw [n8 29 10 (by omega) (by omega)]; omega⟩, ?_, ?_⟩
  · rw [n8 10 k (by omega) (by omega), m15 55 (94 + k) (by omega) (by omega)]; exact s1 k hk
  · show (σ8 29 7).toInt = ((cc + 1 : Nat) : Int)
    rw [k8, sv]; omega
  · rw [f30, f31, f32]
    exact cdr_congr h6 h7.1 hcd (fun _ _ => rfl) (fun _ _ => rfl) (fun _ _ => rfl) hg
  · rw [f32]
    obtain ⟨a, b', d⟩ := h7
    refine ⟨by omega, fun q q1 q2 => ?_, ?_⟩
    · by_cases hq : q = cc
      · rw [hq, v8]
        show TR c (τ15 55 (209 + 140 * b + (cc + ca)))
        rw [show 209 + 140 * b + (cc + ca) = 209 + 140 * b + cc + ca by omega, w15]
        exact hT
      · show TR (σ8 33 q) (τ15 55 (209 + 140 * b + (q + ca)))
        rw [hcd q (by omega), hg (q + ca) (by omega)]
        exact b' q q1 (by omega)
    · rw [show cc + 1 - fre (σ 32) ca = (cc - fre (σ 32) ca) + 1 by omega, hrun_app, hrun_congr (f := σ 33) _ _ _ (fun k k1 k2 => hcd k (by omega)), d, show fre (σ 32) ca + (cc - fre (σ 32) ca) = cc by omega, v8]
      exact hs
