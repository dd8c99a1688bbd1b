/-! PART 69.pa: the parser of the reference, by hand: what holds of its state (PZ), and its steps -/
def BH (fh : Nat → Int32) (m : Int) (σ : SG) : Prop := BX m σ ∧ ∀ k, k < 194 → k ≠ 15 → σ 55 k = fh k
theorem bh_54 {fh : Nat → Int32} {m : Int} {σ : SG} {k : Nat} {v : Int32} (h : BH fh m σ) (hc : chk 54 k k (-2147483648) 2147483647 = true) : BH fh m (s2 σ 54 k v) := ⟨bx_set h.1 (rg_any _) hc, fun j a b => by rw [s2_ne 55 (by decide)]; exact h.2 j a b⟩
def PZ (fh : Nat → Int32) (b : Nat) (m : Int) (e o : Int32) (π δ : Int) (t : Nat) (σ : SG) : Prop :=
  (BH fh m σ ∧ (σ 54 5).toInt = (b : Int) ∧ (σ 55 12).toInt = (b : Int) ∧ b < 5 ∧ rg e 0 100 ∧ σ 54 7 = e) ∧ (σ 54 9 = o ∧ rg (σ 54 8) 0 1 ∧ 0 ≤ (σ 54 6).toInt ∧ (σ 54 6).toInt ≤ e.toInt ∧ π ≤ (σ 54 6).toInt) ∧ (σ 54 8 = 0 → o.toInt ≤ 5 ∧ (σ 55 (204 + b)).toInt + δ ≤ (σ 54 6).toInt ∧ simc (σ 55) (σ 55 (204 + b)).toNatClampNeg (209 + 140 * b) 0 = some t)
theorem pz_any {fh : Nat → Int32} {b : Nat} {m : Int} {e o : Int32} {π δ δ' : Int} {t t' : Nat} {σ : SG} (h : PZ fh b m e o π δ t σ) (w : ¬ σ 54 8 = 0) : PZ fh b m e o π δ' t' σ := ⟨h.1, h.2.1, fun z => absurd z w⟩
theorem pz_lo {fh : Nat → Int32} {b : Nat} {m : Int} {e o : Int32} {π π' δ δ' : Int} {t : Nat} {σ : SG} (h : PZ fh b m e o π δ t σ) (c : δ' ≤ δ) (c2 : π' ≤ π) : PZ fh b m e o π' δ' t σ :=
  ⟨h.1, ⟨h.2.1.1, h.2.1.2.1, h.2.1.2.2.1, h.2.1.2.2.2.1, Int.le_trans c2 h.2.1.2.2.2.2⟩, fun z => ⟨(h.2.2 z).1, by have := (h.2.2 z).2.1; omega, (h.2.2 z).2.2⟩⟩
theorem n54 {σ : SG} {k j : Nat} {v : Int32} (h : j ≠ k) : s2 σ 54 k v 54 j = σ 54 j := by rw [s2_at, if_pos rfl, if_neg h]
theorem n5455 {σ : SG} {k : Nat} {v : Int32} : s2 σ 54 k v 55 = σ 55 := s2_ne 55 (by decide)
theorem v54 {σ : SG} {k : Nat} {v : Int32} : s2 σ 54 k v 54 k = v := by rw [s2_at, if_pos rfl, if_pos rfl]
theorem pz_adv {fh : Nat → Int32} {b : Nat} {m : Int} {e o x : Int32} {π π' δ : Int} {t : Nat} {σ : SG} (h : PZ fh b m e o π δ t σ) (hx : x = σ 54 6 + 1) (lt : (σ 54 6).toInt < (σ 54 7).toInt) (hπ : π' ≤ (σ 54 6).toInt + 1) : PZ fh b m e o π' (δ + 1) t (s2 σ 54 6 x) := by
  obtain ⟨⟨h1, h2, h3, h4, h5, h6⟩, ⟨i1, i2, i3, i4, i5⟩, g⟩ := h
  have e1 : (1 : Int32).toInt = 1 := rfl
  have u := h5.2
  rw [h6] at lt
  have ex : x.toInt = (σ 54 6).toInt + 1 := by rw [hx, ti_add (by omega) (by omega), e1]
  refine ⟨⟨bh_54 h1 (by decide), by rw [n54 (by decide)]; exact h2, by rw [n5455]; exact h3, h4, h5, by rw [n54 (by decide)]; exact h6⟩, ⟨by rw [n54 (by decide)]; exact i1, by rw [n54 (by decide)]; exact i2, by rw [v54]; omega, by rw [v54]; omega, by rw [v54]; omega⟩, fun z => ?_⟩
  rw [n54 (by decide)] at z
  obtain ⟨g1, g2, g3⟩ := g z
  rw [n5455, v54]
  exact ⟨g1, by omega, g3⟩
theorem pz_same {fh : Nat → Int32} {b : Nat} {m : Int} {e o x : Int32} {π δ : Int} {t : Nat} {σ : SG} (h : PZ fh b m e o π δ t σ) (hx : x = σ 54 6 + 0) : PZ fh b m e o π δ t (s2 σ 54 6 x) := by
  obtain ⟨⟨h1, h2, h3, h4, h5, h6⟩, ⟨i1, i2, i3, i4, i5⟩, g⟩ := h
  rw [Int32.add_zero] at hx
  refine ⟨⟨bh_54 h1 (by decide), by rw [n54 (by decide)]; exact h2, by rw [n5455]; exact h3, h4, h5, by rw [n54 (by decide)]; exact h6⟩, ⟨by rw [n54 (by decide)]; exact i1, by rw [n54 (by decide)]; exact i2, by rw [v54, hx]; omega, by rw [v54, hx]; omega, by rw [v54, hx]; omega⟩, fun z => ?_⟩
  rw [n54 (by decide)] at z
  obtain ⟨g1, g2, g3⟩ := g z
  rw [n5455, v54, hx]
  exact ⟨g1, by omega, g3⟩
theorem pz_wr {fh : Nat → Int32} {b : Nat} {m : Int} {e o k : Int32} {π δ : Int} {t : Nat} {σ : SG} (h : PZ fh b m e o π δ t σ) (hk : isb k = true) (c : k = 0 → σ 54 8 = 0) : PZ fh b m e o π δ t (s2 σ 54 8 k) := by
  obtain ⟨⟨h1, h2, h3, h4, h5, h6⟩, ⟨i1, i2, i3, i4, i5⟩, g⟩ := h
  refine ⟨⟨bh_54 h1 (by decide), by rw [n54 (by decide)]; exact h2, by rw [n5455]; exact h3, h4, h5, by rw [n54 (by decide)]; exact h6⟩, ⟨by rw [n54 (by decide)]; exact i1, by rw [v54]; exact isb_rg hk, by rw [n54 (by decide)]; exact i3, by rw [n54 (by decide)]; exact i4, by rw [n54 (by decide)]; exact i5⟩, fun z => ?_⟩
  rw [v54] at z
  rw [n5455, n54 (by decide)]
  exact g (c z)
theorem pz_bad {fh : Nat → Int32} {b : Nat} {m : Int} {e o : Int32} {π δ δ' : Int} {t t' : Nat} {σ : SG} (h : PZ fh b m e o π δ t σ) : PZ fh b m e o π δ' t' (s2 σ 54 8 1) := pz_any (pz_wr h rfl (fun z => absurd z (by decide))) (by rw [v54]; decide)
theorem pz_op {fh : Nat → Int32} {b : Nat} {m : Int} {e o o' : Int32} {π δ : Int} {t : Nat} {σ : SG} (h : PZ fh b m e o π δ t σ) (c : σ 54 8 = 0 → o'.toInt ≤ 5) : PZ fh b m e o' π δ t (s2 σ 54 9 o') := by
  obtain ⟨⟨h1, h2, h3, h4, h5, h6⟩, ⟨i1, i2, i3, i4, i5⟩, g⟩ := h
  refine ⟨⟨bh_54 h1 (by decide), by rw [n54 (by decide)]; exact h2, by rw [n5455]; exact h3, h4, h5, by rw [n54 (by decide)]; exact h6⟩, ⟨by rw [v54], by rw [n54 (by decide)]; exact i2, by rw [n54 (by decide)]; exact i3, by rw [n54 (by decide)]; exact i4, by rw [n54 (by decide)]; exact i5⟩, fun z => ?_⟩
  rw [n54 (by decide)] at z
  rw [n5455, n54 (by decide)]
  exact ⟨c z, (g z).2⟩
/-- the sign at the place -/
theorem s_X12_here {fh : Nat → Int32} {b : Nat} {m : Int} {e o : Int32} {π δ : Int} {t : Nat} {σ : SG} {ρ : RG} (h : PZ fh b m e o π δ t σ) : ok (F_X12_here σ ρ) (fun q => ¬ q = -1 → (σ 54 6).toInt < (σ 54 7).toInt) := by
  obtain ⟨⟨h1, h2, h3, h4, h5, h6⟩, ⟨i1, i2, i3, i4, i5⟩, g⟩ := h
  unfold F_X12_here
  refine ok_if (fun _ => ok_some (fun n => absurd rfl n)) (fun c => ok_nm (fun x hx => ?_))
  have lt := Int32.lt_iff_toInt_lt.mp (nle c)
  have u := h5.2
  have e94 : (94 : Int32).toInt = 94 := rfl
  have lt2 := lt
  rw [h6] at lt2
  have ex : x.toInt = 94 + (σ 54 6).toInt := by rw [hx, ti_add (by omega) (by omega), e94]
  exact ok_gd (rg_inb (l := 94) (h := 194) ⟨by omega, by omega⟩ (by decide) (by decide)) (ok_some (fun _ => lt))
theorem isb_one : isb (1 : Int32) = true := rfl
theorem isb_nil : isb (0 : Int32) = true := rfl
theorem s_X12_must_21 {fh : Nat → Int32} {b : Nat} {m : Int} {e o a1 k1 : Int32} {π δ : Int} {t : Nat} {σ : SG} {ρ : RG} (h : PZ fh b m e o π δ t σ) (hk : isb k1 = true) (c : k1 = 0 → σ 54 8 = 0 ∧ (σ 54 6).toInt < (σ 54 7).toInt) : ok (F_X12_must_21 a1 σ ρ k1) (fun q => PZ fh b m e o π (δ + 1) t q) := by
  unfold F_X12_must_21
  refine ok_gd hk (ok_nm (fun σ3 h3 => ?_))
  have z3 : PZ fh b m e o π δ t σ3 := by rw [h3]; exact pz_wr h hk (fun z => (c z).1)
  have w3 : σ3 54 8 = k1 := by rw [h3, v54]
  have p3 : σ3 54 6 = σ 54 6 := by rw [h3, n54 (by decide)]
  have e3 : σ3 54 7 = σ 54 7 := by rw [h3, n54 (by decide)]
  refine ok_if (fun q => ok_nm (fun x hx => ok_nm (fun σ7 h7 => ok_some ?_))) (fun q => ok_nm (fun x hx => ok_nm (fun σ10 h10 => ok_some ?_)))
  · rw [h7]
    exact pz_adv z3 hx (by rw [p3, e3]; exact (c (w3.symm.trans q)).2) (by have := z3.2.1.2.2.2.2; omega)
  · rw [h10]
    exact pz_any (pz_same z3 hx) (by rw [n54 (by decide)]; exact q)
theorem s_X12_must {fh : Nat → Int32} {b : Nat} {m : Int} {e o a1 : Int32} {π δ : Int} {t : Nat} {σ : SG} {ρ : RG} (h : PZ fh b m e o π δ t σ) (ha : ¬ a1 = -1) : ok (F_X12_must a1 σ ρ) (fun q => PZ fh b m e o π (δ + 1) t q) := by
  unfold F_X12_must
  have bad : ok (F_X12_must_16 a1 σ ρ) (fun q => PZ fh b m e o π (δ + 1) t q) := by
    unfold F_X12_must_16
    exact s_X12_must_21 h rfl (fun z => absurd z (by decide))
  refine ok_if (fun w => ok_bn (s_X12_here h) (fun r hr => ok_if (fun q => ?_) (fun _ => bad))) (fun _ => bad)
  exact s_X12_must_21 h rfl (fun _ => ⟨w, hr (by rw [q]; exact ha)⟩)
/-- figures: 0 to 99 -/
theorem ok_self {α : Type} {o : Option α} {P : α → Prop} (h : ok o P) : ok o (fun q => o = some q ∧ P q) := by
  obtain ⟨a, e, p⟩ := h
  exact ⟨a, e, e, p⟩
def FV (v1 v2 : Int32) : Prop := (v2.toInt = 0 ∧ v1 = 0) ∨ (v2.toInt = 1 ∧ rg v1 0 9) ∨ (v2.toInt = 2 ∧ rg v1 0 99)
theorem s_X12_figures_34 {fh : Nat → Int32} {b : Nat} {m : Int} {e o : Int32} {π δ : Int} {t : Nat} {ρ : RG} : ∀ (n : Nat) (σ : SG) (v1 v2 : Int32), rg v2 0 2 → FV v1 v2 → (2 : Int) - v2.toInt < (n : Int) → 0 ≤ δ → PZ fh b m e o π δ t σ → ok (F_X12_figures_34 n σ ρ v1 v2) (fun q => rg q.1 0 99 ∧ PZ fh b m e o π δ t q.2) := by
  intro n
  induction n with
  | zero => intro σ v1 v2 r2 hv hm; exact (ms_z r2 (by decide) hm).elim
  | succ n ih =>
    intro σ v1 v2 r2 hv hm h0 h
    have r1 : rg v1 0 99 := by
      rcases hv with ⟨_, q⟩ | ⟨_, q⟩ | ⟨_, q⟩
      · rw [q]; exact ⟨by decide, by decide⟩
      · exact rg_w q (by decide) (by decide)
      · exact q
    unfold F_X12_figures_34
    refine ok_if (fun _ => ok_some ⟨r1, h⟩) (fun c2 => ok_if (fun w => ?_) (fun _ => ok_some ⟨r1, h⟩))
    refine ok_bn (ok_self (s_X12_here h)) (fun r6 h6 => ok_bn s_X12_in (fun r7 h7 => ok_if (fun _ => ok_some ⟨r1, h⟩) (fun c7 => ?_)))
    have r2' : rg v2 0 1 := rg_lt (nle c2) r2 (show rg (2 : Int32) 2 2 from ⟨by decide, by decide⟩)
    obtain ⟨d1, d2⟩ := h7.2 c7
    have r6' : rg r6 48 57 := rg_le d2 (rg_ge d1 (show rg (48 : Int32) 48 48 from ⟨by decide, by decide⟩) (rg_any _)) (show rg (57 : Int32) 57 57 from ⟨by decide, by decide⟩)
    have hlt : (σ 54 6).toInt < (σ 54 7).toInt := h6.2 (fun q => by rw [q] at r6'; exact absurd r6'.1 (by decide))
    have go : ok (F_X12_figures_68 (F_X12_figures_34 n) σ ρ v1 v2) (fun q => rg q.1 0 99 ∧ PZ fh b m e o π δ t q.2) := by
      have v9 : rg v1 0 9 := by
        rcases hv with ⟨_, q⟩ | ⟨_, q⟩ | ⟨q, _⟩
        · rw [q]; exact ⟨by decide, by decide⟩
        · exact q
        · have := r2'.2; omega
      unfold F_X12_figures_68
      refine ok_nm (fun x10 h10 => ok_bn (Q := fun z => rg z 48 57) ⟨r6, h6.1, r6'⟩ (fun r11 r11' => ok_nm (fun x12 h12 => ok_nm (fun x13 h13 => ok_nm (fun x14 h14 => ok_nm (fun σ16 h16 => ok_nm (fun x17 h17 => ?_)))))))
      have e1 : (1 : Int32).toInt = 1 := rfl
      have u1 := r2'.1
      have u2 := r2'.2
      have e17 : x17.toInt = v2.toInt + 1 := by rw [h17, ti_add (by omega) (by omega), e1]
      have q10 : rg x10 0 90 := rg_eq h10 (rg_mul (h := 90) (show rg (10 : Int32) 10 10 from ⟨by decide, by decide⟩) v9 (by decide) (by decide) (by decide) (by decide))
      have q12 : rg x12 48 147 := rg_eq h12 (rg_add q10 r11' (by decide) (by decide) (by decide) (by decide))
      have q13 : rg x13 0 99 := rg_eq h13 (rg_sub q12 (show rg (48 : Int32) 48 48 from ⟨by decide, by decide⟩) (by decide) (by decide) (by decide) (by decide))
      have p16 : PZ fh b m e o π δ t σ16 := by
        rw [h16]
        exact pz_lo (pz_adv h h14 hlt (π' := π) (by have := h.2.1.2.2.2.2; omega)) (by omega) (Int.le_refl _)
      refine ih σ16 x13 x17 ⟨by omega, by omega⟩ ?_ (by omega) h0 p16
      rcases hv with ⟨z, q⟩ | ⟨z, q⟩ | ⟨z, _⟩
      · refine Or.inr (Or.inl ⟨by omega, ?_⟩)
        have q10 : rg x10 0 0 := by rw [h10, q]; exact ⟨by decide, by decide⟩
        have q12 : rg x12 48 57 := rg_eq h12 (rg_add q10 r11' (by decide) (by decide) (by decide) (by decide))
        exact rg_eq h13 (rg_sub q12 (show rg (48 : Int32) 48 48 from ⟨by decide, by decide⟩) (by decide) (by decide) (by decide) (by decide))
      · exact Or.inr (Or.inr ⟨by omega, q13⟩)
      · omega
    exact ok_if (fun _ => go) (fun _ => ok_if (fun _ => ok_some ⟨r1, h⟩) (fun _ => go))
theorem s_X12_figures {fh : Nat → Int32} {b : Nat} {m : Int} {e o : Int32} {π δ : Int} {t : Nat} {σ : SG} {ρ : RG} (h : PZ fh b m e o π δ t σ) (h0 : 0 ≤ δ) : ok (F_X12_figures σ ρ) (fun q => rg q.1 0 99 ∧ PZ fh b m e o π δ t q.2) := by
  unfold F_X12_figures
  have go : ∀ k, isb k = true → (k = 0 → σ 54 8 = 0) → ok (F_X12_figures_27 σ ρ k) (fun q => rg q.1 0 99 ∧ PZ fh b m e o π δ t q.2) := by
    intro k hk c
    unfold F_X12_figures_27
    refine ok_gd hk (ok_nm (fun σ3 h3 => ?_))
    exact s_X12_figures_34 1024 σ3 0 0 ⟨by decide, by decide⟩ (Or.inl ⟨rfl, rfl⟩) (by decide) h0 (by rw [h3]; exact pz_wr h hk c)
  have bad : ok (F_X12_figures_22 σ ρ) (fun q => rg q.1 0 99 ∧ PZ fh b m e o π δ t q.2) := by
    unfold F_X12_figures_22
    exact go 1 rfl (fun z => absurd z (by decide))
  exact ok_if (fun w => ok_bn (s_X12_here h) (fun r hr => ok_bn s_X12_in (fun r7 h7 => ok_if (fun _ => bad) (fun _ => go 0 rfl (fun _ => w))))) (fun _ => bad)
/-- a word, and one sign of several -/
theorem s_X12_spells_2 {fh : Nat → Int32} {b : Nat} {m : Int} {e o : Int32} {π δ : Int} {t : Nat} {w : Nat} {ρ : RG} (hw : w < 6) (h0 : 0 ≤ δ) : ∀ (n : Nat) (σ : SG) (v2 : Int32), rg v2 0 6 → (6 : Int) - v2.toInt < (n : Int) → PZ fh b m e o π δ t σ → ok (F_X12_spells_2 w n σ ρ v2) (fun q => PZ fh b m e o π δ t q) := by
  intro n
  induction n with
  | zero => intro σ v2 r2 hm; exact (ms_z r2 (by decide) hm).elim
  | succ n ih =>
    intro σ v2 r2 hm h
    unfold F_X12_spells_2
    refine ok_bn (s_J0_length hw) (fun r1 h1 => ok_if (fun _ => ok_some h) (fun c => ?_))
    have hl : ((sLen.getD w 0 : Nat) : Int) ≤ 6 ∧ (Int32.ofNat (sLen.getD w 0)).toInt = ((sLen.getD w 0 : Nat) : Int) := by
      rcases (show w = 0 ∨ w = 1 ∨ w = 2 ∨ w = 3 ∨ w = 4 ∨ w = 5 by omega) with rfl | rfl | rfl | rfl | rfl | rfl <;> exact ⟨by decide, rfl⟩
    have c1 := Int32.lt_iff_toInt_lt.mp (nle c)
    rw [h1, hl.2] at c1
    have a2 := r2.1
    refine ok_bn (s_J0_charAt hw a2 c1) (fun r3 h3 => ok_bn (s_X12_must h (fun z => by rw [z] at h3; exact absurd h3.1 (by decide))) (fun σ4 h4 => ok_nm (fun x hx => ?_)))
    have e1 : (1 : Int32).toInt = 1 := rfl
    have ex : x.toInt = v2.toInt + 1 := by rw [hx, ti_add (by omega) (by omega), e1]
    exact ih σ4 x ⟨by omega, by omega⟩ (by omega) (pz_lo h4 (by omega) (Int.le_refl _))
theorem s_X12_spells {fh : Nat → Int32} {b : Nat} {m : Int} {e o : Int32} {π δ : Int} {t : Nat} {w : Nat} {σ : SG} {ρ : RG} (hw : w < 6) (h0 : 0 ≤ δ) (h : PZ fh b m e o π δ t σ) : ok (F_X12_spells w σ ρ) (fun q => PZ fh b m e o π δ t q) := s_X12_spells_2 hw h0 1024 σ 0 ⟨by decide, by decide⟩ (by decide) h
theorem s_X12_among_2 {fh : Nat → Int32} {b : Nat} {m : Int} {e o : Int32} {π δ : Int} {t : Nat} {w : Nat} {L : Int} {σ : SG} {ρ : RG} (hw : w < 6) (hL : ((sLen.getD w 0 : Nat) : Int) = L) (h : PZ fh b m e o π δ t σ) : ∀ (n : Nat) (v2 : Int32), rg v2 0 L → L - v2.toInt < (n : Int) → ok (F_X12_among_2 w n σ ρ v2) (fun q => rg q.1 (-1) (L - 1) ∧ (q.1 = -1 → q.2 = σ) ∧ (¬ q.1 = -1 → PZ fh b m e o π (δ + 1) t q.2) ∧ q.2 54 8 = σ 54 8) := by
  intro n
  induction n with
  | zero => intro v2 r2 hm; exact (ms_z r2 (Int.le_refl _) hm).elim
  | succ n ih =>
    intro v2 r2 hm
    unfold F_X12_among_2
    have hl : ((sLen.getD w 0 : Nat) : Int) ≤ 6 ∧ (Int32.ofNat (sLen.getD w 0)).toInt = ((sLen.getD w 0 : Nat) : Int) := by
      rcases (show w = 0 ∨ w = 1 ∨ w = 2 ∨ w = 3 ∨ w = 4 ∨ w = 5 by omega) with rfl | rfl | rfl | rfl | rfl | rfl <;> exact ⟨by decide, rfl⟩
    have a2 := r2.1
    have a3 := r2.2
    refine ok_bn (s_J0_length hw) (fun r1 h1 => ok_if (fun _ => ok_some ⟨show rg (-1 : Int32) (-1) (L - 1) from ⟨by decide, by have : (-1 : Int32).toInt = -1 := rfl; omega⟩, fun _ => rfl, fun n => absurd rfl n, rfl⟩) (fun c => ?_))
    have c1 := Int32.lt_iff_toInt_lt.mp (nle c)
    rw [h1, hl.2] at c1
    refine ok_bn (s_X12_here h) (fun r3 h3 => ok_bn (s_J0_charAt hw a2 c1) (fun r4 h4 => ok_if (fun q => ok_nm (fun x7 h7 => ok_nm (fun σ9 h9 => ok_some ?_))) (fun _ => ok_nm (fun x hx => ?_))))
    · have lt := h3 (fun z => by rw [← q, z] at h4; exact absurd h4.1 (by decide))
      refine ⟨show rg v2 (-1) (L - 1) from ⟨by omega, by omega⟩, fun z => by rw [show v2 = -1 from z] at a2; exact absurd a2 (by decide), fun _ => ?_, show σ9 54 8 = σ 54 8 from by rw [h9, n54 (by decide)]⟩
      rw [h9]
      exact pz_adv h h7 lt (by have := h.2.1.2.2.2.2; omega)
    · have e1 : (1 : Int32).toInt = 1 := rfl
      have ex : x.toInt = v2.toInt + 1 := by rw [hx, ti_add (by omega) (by omega), e1]
      exact ih x ⟨by omega, by omega⟩ (by omega)
/-! a step of the code -/
theorem simc_app {f : Nat → Int32} : ∀ (n i t : Nat), simc f (n + 1) i t = (simc f n i t).bind (stepTop (f (i + n))) := by
  intro n
  induction n with
  | zero =>
    intro i t
    show (stepTop (f i) t).bind (simc f 0 (i + 1)) = stepTop (f (i + 0)) t
    cases stepTop (f i) t <;> rfl
  | succ n ih =>
    intro i t
    show (stepTop (f i) t).bind (simc f (n + 1) (i + 1)) = ((stepTop (f i) t).bind (simc f n (i + 1))).bind (stepTop (f (i + (n + 1))))
    cases stepTop (f i) t with
    | none => rfl
    | some z =>
      show simc f (n + 1) (i + 1) z = (simc f n (i + 1) z).bind (stepTop (f (i + (n + 1))))
      rw [ih (i + 1) z, show i + 1 + n = i + (n + 1) by omega]
/-- cells of the reference's row that no board that holds reaches -/
theorem wcf_up {f g : Nat → Int32} {b : Nat} (e12 : (f 12).toInt = (b : Int)) (hm : ∀ k, 204 ≤ k → k ≤ 208 → rg (f k) 0 140) (h5 : b < 5) (w : WCf f) (h : ∀ k, (k < 194 ∨ (204 ≤ k ∧ k < 209 ∧ k ≠ 204 + b) ∨ (209 ≤ k ∧ k < 209 + 140 * b)) → g k = f k) : WCf g := by
  refine ⟨fun q hq => ?_, fun c hc => ?_⟩
  · rw [h 16 (by omega)] at hq
    obtain ⟨a, z⟩ := w.1 q hq
    have hqb : q < b := by omega
    have r := hm (204 + q) (by omega) (by omega)
    have i := rg_cl r (by decide)
    have r2 := r.2
    rw [h 12 (by omega), h (204 + q) (by omega), simc_congr2 (f := f) (g := g) _ _ _ (fun k hk hk2 => h k (by omega))]
    exact ⟨a, z⟩
  · rw [h 11 (by omega)] at hc
    have z := w.2 c hc
    rw [h (44 + c) (by omega)]
    exact z
/-- the reference's row made anew in such cells -/
theorem bx_row55 {m : Int} {σ σ' : SG} {b : Nat} (hB : BX m σ) (e12 : (σ 55 12).toInt = (b : Int)) (h5 : b < 5) (ne : ∀ r, r ≠ 55 → σ' r = σ r) (h : ∀ k, (k < 194 ∨ (204 ≤ k ∧ k < 209 ∧ k ≠ 204 + b) ∨ (209 ≤ k ∧ k < 209 + 140 * b)) → σ' 55 k = σ 55 k) (hc : rg (σ' 55 (204 + b)) 0 140) : BX m σ' := by
  have hm : ∀ k, 204 ≤ k → k ≤ 208 → rg (σ 55 k) 0 140 := fun k x y => bx_get hB (r := 55) (a := 204) (b := 208) (k := k) (l := 0) (h := 140) (by decide) x y
  refine ⟨fun q hq j x y => ?_, ?_, ?_, ?_⟩
  · by_cases e1 : q.1 = 55
    · have hq1 : ∀ q ∈ bndL, q.1 = 55 → q.2.2.1 < 194 ∨ q = (55, 204, 208, 0, 140) := by decide
      rcases hq1 q hq e1 with z | z
      · rw [e1, h j (by omega), ← e1]; exact hB.1 q hq j x y
      · by_cases ej : j = 204 + b
        · rw [z, ej]; exact hc
        · have x' : 204 ≤ j := by rw [z] at x; exact x
          have y' : j ≤ 208 := by rw [z] at y; exact y
          rw [e1, h j (by omega), ← e1]; exact hB.1 q hq j x y
    · rw [ne q.1 e1]; exact hB.1 q hq j x y
  · rw [ne 54 (by decide)]; exact hB.2.1
  · exact wcf_up e12 hm h5 hB.2.2.1 h
  · rw [ne 56 (by decide), ne 54 (by decide)]; exact hB.2.2.2
theorem s_X12_emits {fh : Nat → Int32} {b : Nat} {m : Int} {e o a1 : Int32} {π δ : Int} {t t' : Nat} {σ : SG} {ρ : RG} (h : PZ fh b m e o π (δ + 1) t σ) (h0 : 0 ≤ δ) (hs : σ 54 8 = 0 → stepTop a1 t = some t') : ok (F_X12_emits a1 σ ρ) (fun q => PZ fh b m e o π δ t' q) := by
  unfold F_X12_emits
  refine ok_if (fun w => ?_) (fun w => ok_some (pz_any h w))
  have hs := hs w
  obtain ⟨⟨h1, h2, h3, h4, h5, h6⟩, ⟨i1, i2, i3, i4, i5⟩, g⟩ := h
  obtain ⟨g1, g2, g3⟩ := g w
  have rc : rg (σ 55 (204 + b)) 0 140 := bx_get h1.1 (r := 55) (a := 204) (b := 208) (k := 204 + b) (l := 0) (h := 140) (by decide) (by omega) (by omega)
  have c0 := rc.1
  have u := h5.2
  have c99 : (σ 55 (204 + b)).toInt ≤ 99 := by omega
  refine ok_nm (fun x2 hx2 => ok_nm (fun x3 hx3 => ok_nm (fun x4 hx4 => ?_)))
  have e1 : (1 : Int32).toInt = 1 := rfl
  have e140 : (140 : Int32).toInt = 140 := rfl
  have e209 : (209 : Int32).toInt = 209 := rfl
  have e204 : (204 : Int32).toInt = 204 := rfl
  have v2 : x2.toInt = 140 * (b : Int) := by rw [hx2, Int32.toInt_mul, e140, h2, bmod_id (by omega) (by omega)]
  have v3 : x3.toInt = 209 + 140 * (b : Int) := by rw [hx3, ti_add (by omega) (by omega), e209, v2]
  have v4 : x4.toInt = 204 + (b : Int) := by rw [hx4, ti_add (by omega) (by omega), e204, h2]
  have n4 : x4.toNatClampNeg = 204 + b := by show x4.toInt.toNat = _; omega
  rw [n4]
  refine ok_gd (rg_inb (l := 204) (h := 208) ⟨by omega, by omega⟩ (by decide) (by decide)) (ok_nm (fun x6 hx6 => ?_))
  have v6 : x6.toInt = 209 + 140 * (b : Int) + (σ 55 (204 + b)).toInt := by rw [hx6, ti_add (by omega) (by omega), v3]
  have nc : ((σ 55 (204 + b)).toNatClampNeg : Int) = (σ 55 (204 + b)).toInt := rg_cl rc (by decide)
  have n6 : x6.toNatClampNeg = 209 + 140 * b + (σ 55 (204 + b)).toNatClampNeg := by show x6.toInt.toNat = _; omega
  refine ok_gd (rg_inb (l := 209) (h := 908) ⟨by omega, by omega⟩ (by decide) (by decide)) (ok_nm (fun σ9 h9 => ok_nm (fun x10 hx10 => ?_)))
  rw [n6] at h9
  have o9 : ∀ r, r ≠ 55 → σ9 r = σ r := fun r hr => by rw [h9, s2_ne r hr]
  have k9 : ∀ k, σ9 55 k = if k = 209 + 140 * b + (σ 55 (204 + b)).toNatClampNeg then a1 else σ 55 k := fun k => by rw [h9, s2_at, if_pos rfl]
  have v10 : x10.toInt = 204 + (b : Int) := by rw [hx10, o9 54 (by decide), ti_add (by omega) (by omega), e204, h2]
  have n10 : x10.toNatClampNeg = 204 + b := by show x10.toInt.toNat = _; omega
  rw [n10]
  have g10 : inb x10 909 = true := rg_inb (l := 204) (h := 208) ⟨by omega, by omega⟩ (by decide) (by decide)
  refine ok_gd g10 (ok_nm (fun x12 hx12 => ok_gd g10 (ok_nm (fun σ15 h15 => ok_some ?_))))
  rw [k9 (204 + b), if_neg (by omega)] at hx12
  have v12 : x12.toInt = (σ 55 (204 + b)).toInt + 1 := by rw [hx12, ti_add (by omega) (by omega), e1]
  have o15 : ∀ r, r ≠ 55 → σ15 r = σ r := fun r hr => by rw [h15, s2_ne r hr, o9 r hr]
  have k15 : ∀ k, σ15 55 k = if k = 204 + b then x12 else if k = 209 + 140 * b + (σ 55 (204 + b)).toNatClampNeg then a1 else σ 55 k := fun k => by rw [h15, s2_at, if_pos rfl, k9 k]
  have nx : ∀ k, k ≠ 204 + b → k ≠ 209 + 140 * b + (σ 55 (204 + b)).toNatClampNeg → σ15 55 k = σ 55 k := fun k p q => by rw [k15, if_neg p, if_neg q]
  have kc : σ15 55 (204 + b) = x12 := by rw [k15, if_pos rfl]
  have ke : σ15 55 (209 + 140 * b + (σ 55 (204 + b)).toNatClampNeg) = a1 := by rw [k15, if_neg (by omega), if_pos rfl]
  have bx : BH fh m σ15 := ⟨bx_row55 h1.1 h3 h4 o15 (fun k hk => nx k (by omega) (by omega)) (by rw [kc]; exact ⟨by omega, by omega⟩), fun k a _ => (nx k (by omega) (by omega)).trans (h1.2 k a ‹_›)⟩
  have n54' : σ15 54 = σ 54 := o15 54 (by decide)
  refine ⟨⟨bx, by rw [n54']; exact h2, by rw [nx 12 (by omega) (by omega)]; exact h3, h4, h5, by rw [n54']; exact h6⟩, by rw [n54']; exact ⟨i1, i2, i3, i4, i5⟩, fun _ => ⟨g1, by rw [kc, n54']; omega, ?_⟩⟩
  rw [kc]
  have n12 : x12.toNatClampNeg = (σ 55 (204 + b)).toNatClampNeg + 1 := by show x12.toInt.toNat = _; omega
  rw [n12, simc_app, ke, simc_congr2 (f := σ 55) (g := σ15 55) _ _ _ (fun k p q => nx k (by omega) (by omega)), g3]
  exact hs
