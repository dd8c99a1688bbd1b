/-! PART 695.pb: the parser of the reference: factor, every, some, clauses, board -/
def RS (fh : Nat → Int32) (b : Nat) (m : Int) (ρ : RG) (R : SG → RG → Option SG) (d : Nat) : Prop := ∀ (e o : Int32) (π δ : Int) (t : Nat) (σ : SG), 0 ≤ δ → 0 ≤ o.toInt → o.toInt ≤ 6 → 6 - o.toInt < (d : Int) → (t : Int) ≤ 2 * o.toInt + 2 → PZ fh b m e o π δ t σ → ok (R σ ρ) (fun q => PZ fh b m e o π δ (t + 1) q)
theorem st_two {c : Int32} {t : Nat} (h1 : c.toInt < -1) (h2 : -10 < c.toInt) (ht : t ≤ 62) : stepTop c (t + 2) = some (t + 1) := by
  unfold stepTop
  rw [if_neg (by omega), if_neg (by omega), if_pos h2, if_pos ⟨by omega, by omega⟩]
  rfl
theorem st_not {t : Nat} (ht : t ≤ 63) : stepTop (-1) (t + 1) = some (t + 1) := by
  unfold stepTop
  rw [if_neg (by decide), if_pos (by decide : (-1 : Int32).toInt = -1), if_pos ⟨by omega, by omega⟩]
theorem st_pos {c : Int32} {t : Nat} (h1 : 0 ≤ c.toInt) (h2 : c.toInt % 8 < 6) (ht : t ≤ 63) : stepTop c t = some (t + 1) := by
  unfold stepTop
  rw [if_pos h1, if_pos ⟨by omega, h2⟩]
theorem st_end {c : Int32} {t : Nat} (h : c.toInt ≤ -10) : stepTop c t = some 0 := by
  unfold stepTop
  rw [if_neg (by omega), if_neg (by omega), if_neg (by omega)]
theorem s_X12_every_B_4 {fh : Nat → Int32} {b : Nat} {m : Int} {ρ : RG} {R : SG → RG → Option SG} {d : Nat} (hR : RS fh b m ρ R d) {e o : Int32} {δ : Int} {t : Nat} (h0 : 0 ≤ δ) (ho : 0 ≤ o.toInt) (ho6 : o.toInt ≤ 6) (hd : 6 - o.toInt < (d : Int)) (ht : (t : Int) ≤ 2 * o.toInt + 1) : ∀ (n : Nat) (π : Int) (σ : SG), e.toInt - π < (n : Int) → PZ fh b m e o π δ (t + 1) σ → ok (F_X12_every_B_4 R n σ ρ) (fun q => PZ fh b m e o π δ (t + 1) q) := by
  intro n
  induction n with
  | zero => intro π σ hm h; have := h.2.1.2.2.2.1; have := h.2.1.2.2.2.2; omega
  | succ n ih =>
    intro π σ hm h
    unfold F_X12_every_B_4
    refine ok_if (fun w => ok_bn (s_X12_here h) (fun r3 h3 => ok_if (fun q => ?_) (fun _ => ok_some h))) (fun _ => ok_some h)
    have lt := h3 (by rw [q]; decide)
    refine ok_nm (fun x5 h5 => ok_nm (fun σ7 h7 => ?_))
    have p7 : PZ fh b m e o (π + 1) (δ + 1) (t + 1) σ7 := by rw [h7]; exact pz_adv h h5 lt (by have := h.2.1.2.2.2.2; omega)
    refine ok_bn (hR e o _ _ _ _ (by omega) ho ho6 hd (by omega) p7) (fun σ8 p8 => ok_bn (s_X12_emits (t' := t + 1) p8 h0 (fun _ => st_two (by decide) (by decide) (by omega))) (fun σ9 p9 => ?_))
    exact ok_mono (ih (π + 1) σ9 (by omega) p9) (fun q h => pz_lo h (Int.le_refl _) (by omega))
theorem s_X12_every_B {fh : Nat → Int32} {b : Nat} {m : Int} {ρ : RG} {R : SG → RG → Option SG} {d : Nat} (hR : RS fh b m ρ R d) {e o : Int32} {π δ : Int} {t : Nat} {σ : SG} (h0 : 0 ≤ δ) (ho : 0 ≤ o.toInt) (ho6 : o.toInt ≤ 6) (hd : 6 - o.toInt < (d : Int)) (ht : (t : Int) ≤ 2 * o.toInt + 1) (h : PZ fh b m e o π δ t σ) : ok (F_X12_every_B R σ ρ) (fun q => PZ fh b m e o π δ (t + 1) q) := by
  unfold F_X12_every_B
  refine ok_bn (hR e o π δ t σ h0 ho ho6 hd (by omega) h) (fun σ1 h1 => ?_)
  have p1 : PZ fh b m e o (σ1 54 6).toInt δ (t + 1) σ1 := ⟨h1.1, ⟨h1.2.1.1, h1.2.1.2.1, h1.2.1.2.2.1, h1.2.1.2.2.2.1, Int.le_refl _⟩, h1.2.2⟩
  exact ok_mono (s_X12_every_B_4 hR h0 ho ho6 hd ht 1024 _ σ1 (by have := h1.2.1.2.2.1; have := h1.1.2.2.2.2.1.2; omega) p1) (fun q h => pz_lo h (Int.le_refl _) h1.2.1.2.2.2.2)
theorem s_X12_some_B_4 {fh : Nat → Int32} {b : Nat} {m : Int} {ρ : RG} {R : SG → RG → Option SG} {d : Nat} (hR : RS fh b m ρ R d) {e o : Int32} {δ : Int} {t : Nat} (h0 : 0 ≤ δ) (ho : 0 ≤ o.toInt) (ho6 : o.toInt ≤ 6) (hd : 6 - o.toInt < (d : Int)) (ht : (t : Int) ≤ 2 * o.toInt) : ∀ (n : Nat) (π : Int) (σ : SG), e.toInt - π < (n : Int) → PZ fh b m e o π δ (t + 1) σ → ok (F_X12_some_B_4 R n σ ρ) (fun q => PZ fh b m e o π δ (t + 1) q) := by
  intro n
  induction n with
  | zero => intro π σ hm h; have := h.2.1.2.2.2.1; have := h.2.1.2.2.2.2; omega
  | succ n ih =>
    intro π σ hm h
    unfold F_X12_some_B_4
    refine ok_if (fun w => ok_bn (s_X12_here h) (fun r3 h3 => ok_if (fun q => ?_) (fun _ => ok_some h))) (fun _ => ok_some h)
    have lt := h3 (by rw [q]; decide)
    refine ok_nm (fun x5 h5 => ok_nm (fun σ7 h7 => ?_))
    have p7 : PZ fh b m e o (π + 1) (δ + 1) (t + 1) σ7 := by rw [h7]; exact pz_adv h h5 lt (by have := h.2.1.2.2.2.2; omega)
    refine ok_bn (s_X12_every_B hR (by omega) ho ho6 hd (by omega) p7) (fun σ8 p8 => ok_bn (s_X12_emits (t' := t + 1) p8 h0 (fun _ => st_two (by decide) (by decide) (by omega))) (fun σ9 p9 => ?_))
    exact ok_mono (ih (π + 1) σ9 (by omega) p9) (fun q h => pz_lo h (Int.le_refl _) (by omega))
theorem s_X12_some_B {fh : Nat → Int32} {b : Nat} {m : Int} {ρ : RG} {R : SG → RG → Option SG} {d : Nat} (hR : RS fh b m ρ R d) {e o : Int32} {π δ : Int} {t : Nat} {σ : SG} (h0 : 0 ≤ δ) (ho : 0 ≤ o.toInt) (ho6 : o.toInt ≤ 6) (hd : 6 - o.toInt < (d : Int)) (ht : (t : Int) ≤ 2 * o.toInt) (h : PZ fh b m e o π δ t σ) : ok (F_X12_some_B R σ ρ) (fun q => PZ fh b m e o π δ (t + 1) q) := by
  unfold F_X12_some_B
  refine ok_bn (s_X12_every_B hR h0 ho ho6 hd (by omega) h) (fun σ1 h1 => ?_)
  have p1 : PZ fh b m e o (σ1 54 6).toInt δ (t + 1) σ1 := ⟨h1.1, ⟨h1.2.1.1, h1.2.1.2.1, h1.2.1.2.2.1, h1.2.1.2.2.2.1, Int.le_refl _⟩, h1.2.2⟩
  exact ok_mono (s_X12_some_B_4 hR h0 ho ho6 hd ht 1024 _ σ1 (by have := h1.2.1.2.2.1; have := h1.1.2.2.2.2.1.2; omega) p1) (fun q h => pz_lo h (Int.le_refl _) h1.2.1.2.2.2.2)
theorem s_X12_factor_B_101 {fh : Nat → Int32} {b : Nat} {m : Int} {ρ : RG} {R : SG → RG → Option SG} {e o o1 : Int32} {π δ : Int} {t : Nat} {σ : SG} (e1 : o1.toInt = o.toInt + 1) (h5 : o.toInt ≤ 5) (h0 : 0 ≤ o.toInt) (h : PZ fh b m e o1 π δ t σ) : ok (F_X12_factor_B_101 R σ ρ) (fun q => PZ fh b m e o π δ t q) := by
  unfold F_X12_factor_B_101
  refine ok_nm (fun x hx => ok_nm (fun σ19 h19 => ok_some ?_))
  have one : (1 : Int32).toInt = 1 := rfl
  rw [h.2.1.1] at hx
  have ex : x = o := Int32.toInt_inj.mp (by rw [hx, ti_sub (by omega) (by omega), one, e1]; omega)
  rw [h19, ex]
  exact pz_op h (fun _ => h5)
theorem s_X12_factor_B_25 {fh : Nat → Int32} {b : Nat} {m : Int} {ρ : RG} {R : SG → RG → Option SG} {d : Nat} (hR : RS fh b m ρ R d) {e o v1 : Int32} {π δ : Int} {t : Nat} {σ : SG} (h0 : 0 ≤ δ) (ho : 0 ≤ o.toInt) (ho5 : o.toInt ≤ 5) (hd : 6 - o.toInt < ((d + 1 : Nat) : Int)) (ht : (t : Int) ≤ 2 * o.toInt + 2) (lt : (σ 54 6).toInt < (σ 54 7).toInt) (w : σ 54 8 = 0) (h : PZ fh b m e o π δ t σ) : ok (F_X12_factor_B_25 R σ ρ v1) (fun q => PZ fh b m e o π δ (t + 1) q) := by
  have one : (1 : Int32).toInt = 1 := rfl
  have b69 : ∀ (o1 : Int32) (σ9 : SG) (k2 : Int32), o1.toInt = o.toInt + 1 → PZ fh b m e o1 π δ t σ9 → (k2 = 0 ∧ ¬ σ9 54 8 = 0 ∨ k2 = 1 ∧ (σ9 54 6).toInt < (σ9 54 7).toInt) → ok (F_X12_factor_B_69 R σ9 ρ v1 (σ9 54 6) k2) (fun q => PZ fh b m e o π δ (t + 1) q) := by
    intro o1 σ9 k2 eo h9 hk
    unfold F_X12_factor_B_69
    refine ok_nm (fun x11 h11 => ok_nm (fun σ13 h13 => ?_))
    have p13 : PZ fh b m e o1 π (δ + 1) t σ13 := by
      rcases hk with ⟨k, w9⟩ | ⟨k, l9⟩
      · rw [h13]; rw [k] at h11
        exact pz_any (pz_same h9 h11) (by rw [n54 (by decide)]; exact w9)
      · rw [h13]; rw [k] at h11
        exact pz_adv h9 h11 l9 (by have := h9.2.1.2.2.2.2; omega)
    refine ok_if (fun _ => ?_) (fun _ => ?_)
    · refine ok_bn (hR e o1 π (δ + 1) t σ13 (by omega) (by omega) (by omega) (by omega) (by omega) p13) (fun σ20 p20 => ok_bn (s_X12_emits (t' := t + 1) p20 h0 (fun _ => st_not (by omega))) (fun σ21 p21 => ?_))
      exact s_X12_factor_B_101 eo ho5 ho p21
    · refine ok_bn (s_X12_some_B hR (by omega) (by omega) (by omega) (by omega) (by omega) p13) (fun σ15 p15 => ok_bn (s_X12_must p15 (by decide)) (fun σ16 p16 => ?_))
      exact s_X12_factor_B_101 eo ho5 ho (pz_lo p16 (by omega) (Int.le_refl _))
  have b39 : ∀ k : Int32, isb k = true → (k = 0 → ¬ o.toInt = 5) → ok (F_X12_factor_B_39 R σ ρ v1 k) (fun q => PZ fh b m e o π δ (t + 1) q) := by
    intro k hk hc
    unfold F_X12_factor_B_39
    refine ok_gd hk (ok_nm (fun σ6 h6 => ok_nm (fun x7 h7 => ok_nm (fun σ9 h9 => ?_))))
    have p6 : PZ fh b m e o π δ t σ6 := by rw [h6]; exact pz_wr h hk (fun _ => w)
    have w6 : σ6 54 8 = k := by rw [h6, v54]
    rw [p6.2.1.1] at h7
    have e7 : x7.toInt = o.toInt + 1 := by rw [h7, ti_add (by omega) (by omega), one]
    have p9 : PZ fh b m e x7 π δ t σ9 := by rw [h9]; exact pz_op p6 (fun z => by have := hc (w6.symm.trans z); omega)
    have l9 : (σ9 54 6).toInt < (σ9 54 7).toInt := by rw [h9, n54 (by decide), n54 (by decide), h6, n54 (by decide), n54 (by decide)]; exact lt
    refine ok_if (fun _ => b69 x7 σ9 1 e7 p9 (Or.inr ⟨rfl, l9⟩)) (fun z => b69 x7 σ9 0 e7 p9 (Or.inl ⟨rfl, z⟩))
  unfold F_X12_factor_B_25
  have oe := h.2.1.1
  refine ok_if (fun _ => b39 1 rfl (fun z => absurd z (by decide))) (fun c => b39 0 rfl (fun _ z => c ?_))
  rw [oe]
  exact Int32.toInt_inj.mp (by rw [z]; rfl)
theorem s_X12_factor_B_169 {fh : Nat → Int32} {b : Nat} {m : Int} {ρ : RG} {R : SG → RG → Option SG} {e o v2 v3 k : Int32} {π δ : Int} {t : Nat} {σ : SG} (h0 : 0 ≤ δ) (ht : t ≤ 63) (hk : isb k = true) (c : k = 0 → σ 54 8 = 0 ∧ rg v2 0 5 ∧ rg v3 0 2) (h : PZ fh b m e o π (δ + 1) t σ) : ok (F_X12_factor_B_169 R σ ρ v2 v3 k) (fun q => PZ fh b m e o π δ (t + 1) q) := by
  unfold F_X12_factor_B_169
  refine ok_gd hk (ok_nm (fun σ31 h31 => ?_))
  have p31 : PZ fh b m e o π (δ + 1) t σ31 := by rw [h31]; exact pz_wr h hk (fun z => (c z).1)
  have w31 : σ31 54 8 = k := by rw [h31, v54]
  by_cases kz : k = 0
  · obtain ⟨-, r2, r3⟩ := c kz
    refine ok_bn2 (s_X12_figures p31 (by omega)) (fun r32 σ32 q32 => ok_nm (fun x33 h33 => ok_nm (fun x34 h34 => ok_nm (fun x35 h35 => ok_nm (fun x36 h36 => ?_)))))
    obtain ⟨r32', p32⟩ := q32
    have e8 : (8 : Int32).toInt = 8 := rfl
    have e32 : (32 : Int32).toInt = 32 := rfl
    obtain ⟨a1, a2⟩ := r2
    obtain ⟨b1, b2⟩ := r3
    obtain ⟨d1, d2⟩ := (show rg r32 0 99 from r32')
    have v33 : x33.toInt = 8 * v3.toInt := by rw [h33, Int32.toInt_mul, e8, bmod_id (by omega) (by omega)]
    have v34 : x34.toInt = v2.toInt + 8 * v3.toInt := by rw [h34, ti_add (by omega) (by omega), v33]
    have v35 : x35.toInt = 32 * r32.toInt := by rw [h35, Int32.toInt_mul, e32, bmod_id (by omega) (by omega)]
    have v36 : x36.toInt = v2.toInt + 8 * v3.toInt + 32 * r32.toInt := by rw [h36, ti_add (by omega) (by omega), v34, v35]
    exact ok_bn (s_X12_emits (t' := t + 1) p32 h0 (fun _ => st_pos (by omega) (by omega) ht)) (fun σ37 p37 => ok_some p37)
  · have nb : ¬ σ31 54 8 = 0 := by rw [w31]; exact kz
    -- not right: nothing is read, nothing is written
    refine ok_bn2 (Q := fun q => PZ fh b m e o π (δ + 1) t q.2 ∧ ¬ q.2 54 8 = 0) ?_ (fun r32 σ32 q32 => ok_nm (fun x33 _ => ok_nm (fun x34 _ => ok_nm (fun x35 _ => ok_nm (fun x36 _ => ?_)))))
    · unfold F_X12_figures
      rw [if_neg nb]
      unfold F_X12_figures_22 F_X12_figures_27
      refine ok_gd rfl (ok_nm (fun σ3 h3 => ?_))
      have p3 : PZ fh b m e o π (δ + 1) t σ3 := by rw [h3]; exact pz_bad p31
      have w3 : ¬ σ3 54 8 = 0 := by rw [h3, v54]; decide
      show ok (F_X12_figures_34 (1023 + 1) σ3 ρ 0 0) _
      unfold F_X12_figures_34
      exact ok_if (fun z => absurd z (by decide)) (fun _ => ok_if (fun z => absurd z w3) (fun _ => ok_some ⟨p3, w3⟩))
    · exact ok_bn (s_X12_emits (t' := t + 1) q32.1 h0 (fun z => absurd z q32.2)) (fun σ37 p37 => ok_some p37)
theorem s_X12_factor_B_150 {fh : Nat → Int32} {b : Nat} {m : Int} {ρ : RG} {R : SG → RG → Option SG} {e o v2 v3 : Int32} {π δ : Int} {t : Nat} {σ : SG} (h0 : 0 ≤ δ) (ht : t ≤ 63) (c : σ 54 8 = 0 → rg v2 0 5 ∧ rg v3 (-1) 2) (h : PZ fh b m e o π (δ + 1) t σ) : ok (F_X12_factor_B_150 R σ ρ v2 v3) (fun q => PZ fh b m e o π δ (t + 1) q) := by
  unfold F_X12_factor_B_150
  have bad : ok (F_X12_factor_B_164 R σ ρ v2 v3) (fun q => PZ fh b m e o π δ (t + 1) q) := by
    unfold F_X12_factor_B_164
    exact s_X12_factor_B_169 h0 ht rfl (fun z => absurd z (by decide)) h
  refine ok_if (fun w => ok_if (fun _ => bad) (fun n => ?_)) (fun _ => bad)
  obtain ⟨r2, r3⟩ := c w
  exact s_X12_factor_B_169 h0 ht rfl (fun _ => ⟨w, r2, rg_nel n r3 (show rg (-1 : Int32) (-1) (-1) from ⟨by decide, by decide⟩) rfl⟩) h
theorem s_X12_factor_B {fh : Nat → Int32} {b : Nat} {m : Int} {ρ : RG} {R : SG → RG → Option SG} {d : Nat} (hR : RS fh b m ρ R d) : RS fh b m ρ (F_X12_factor_B R) (d + 1) := by
  intro e o π δ t σ h0 ho ho6 hd ht h
  unfold F_X12_factor_B
  refine ok_if (fun w => ?_) (fun w => ok_some (pz_any h w))
  have ho5 := (h.2.2 w).1
  refine ok_bn (s_X12_here h) (fun r2 h2 => ok_if (fun q => ?_) (fun _ => ok_if (fun q => ?_) (fun _ => ?_)))
  · exact s_X12_factor_B_25 hR h0 ho ho5 hd ht (h2 (by rw [q]; decide)) w h
  · exact s_X12_factor_B_25 hR h0 ho ho5 hd ht (h2 (by rw [q]; decide)) w h
  · have hz : t ≤ 63 := by omega
    refine ok_bn2 (s_X12_among_2 (L := 6) (by decide) rfl h 1024 0 ⟨by decide, by decide⟩ (by decide)) (fun r23 σ23 q23 => ?_)
    obtain ⟨q1, q2, q3, q4⟩ := q23
    have b130 : ∀ (k : Int32) (σ' : SG), isb k = true → (k = 0 → σ' 54 8 = 0 ∧ rg r23 0 5) → (PZ fh b m e o π (δ + 1) t (s2 σ' 54 8 k)) → ok (F_X12_factor_B_130 R σ' ρ r23 k) (fun q => PZ fh b m e o π δ (t + 1) q) := by
      intro k σ' hk hc hp
      unfold F_X12_factor_B_130
      refine ok_gd hk (ok_nm (fun σ26 h26 => ?_))
      rw [← h26] at hp
      have w26 : σ26 54 8 = k := by rw [h26, v54]
      refine ok_if (fun z => ?_) (fun z => s_X12_factor_B_150 h0 hz (fun z' => absurd z' z) hp)
      obtain ⟨-, r⟩ := hc (w26.symm.trans z)
      refine ok_bn2 (s_X12_among_2 (L := 3) (by decide) rfl hp 1024 0 ⟨by decide, by decide⟩ (by decide)) (fun r28 σ28 q28 => ?_)
      obtain ⟨u1, u2, u3, -⟩ := q28
      refine s_X12_factor_B_150 h0 hz (fun _ => ⟨r, u1⟩) ?_
      by_cases n : r28 = -1
      · have := u2 n
        rw [show σ28 = σ26 from this]; exact hp
      · exact pz_lo (u3 n) (by omega) (Int.le_refl _)
    refine ok_if (fun n => ?_) (fun n => ?_)
    · have := q2 n
      rw [show σ23 = σ from this]
      exact b130 1 σ rfl (fun z => absurd z (by decide)) (pz_bad h)
    · have p := q3 n
      have w23 : σ23 54 8 = 0 := q4.trans w
      have r5 : rg r23 0 5 := rg_nel n q1 (show rg (-1 : Int32) (-1) (-1) from ⟨by decide, by decide⟩) rfl
      exact b130 0 σ23 rfl (fun _ => ⟨w23, r5⟩) (pz_wr p rfl (fun _ => w23))
theorem s_X12_factor_R {fh : Nat → Int32} {b : Nat} {m : Int} {ρ : RG} : ∀ d : Nat, RS fh b m ρ (F_X12_factor_R d) d := by
  intro d
  induction d with
  | zero => intro e o π δ t σ h0 ho ho6 hd; omega
  | succ d ih => exact s_X12_factor_B ih
theorem every4_eq : ∀ (n : Nat) (σ : SG) (ρ : RG), F_X12_every_4 n σ ρ = F_X12_every_B_4 F_X12_factor n σ ρ := by
  intro n
  induction n with
  | zero => intro σ ρ; rfl
  | succ n ih =>
    intro σ ρ
    unfold F_X12_every_4 F_X12_every_B_4
    simp only [ih]
theorem every_eq (σ : SG) (ρ : RG) : F_X12_every σ ρ = F_X12_every_B F_X12_factor σ ρ := by
  unfold F_X12_every F_X12_every_B
  simp only [every4_eq]
theorem some4_eq : ∀ (n : Nat) (σ : SG) (ρ : RG), F_X12_some_4 n σ ρ = F_X12_some_B_4 F_X12_factor n σ ρ := by
  intro n
  induction n with
  | zero => intro σ ρ; rfl
  | succ n ih =>
    intro σ ρ
    unfold F_X12_some_4 F_X12_some_B_4
    simp only [ih, every_eq]
theorem some_eq (σ : SG) (ρ : RG) : F_X12_some σ ρ = F_X12_some_B F_X12_factor σ ρ := by
  unfold F_X12_some F_X12_some_B
  simp only [some4_eq, every_eq]
theorem s_X12_some {fh : Nat → Int32} {b : Nat} {m : Int} {ρ : RG} {e : Int32} {π δ : Int} {σ : SG} (h0 : 0 ≤ δ) (h : PZ fh b m e 0 π δ 0 σ) : ok (F_X12_some σ ρ) (fun q => PZ fh b m e 0 π δ 1 q) := by
  rw [some_eq]
  exact s_X12_some_B (s_X12_factor_R 8) h0 (by decide) (by decide) (by decide) (by decide) h
theorem s_X12_much {fh : Nat → Int32} {b : Nat} {m : Int} {ρ : RG} {e a1 : Int32} {π δ : Int} {w : Nat} {σ : SG} (hw : w < 6) (ha : rg a1 (-200) (-10)) (h0 : 0 ≤ δ) (h : PZ fh b m e 0 π δ 0 σ) : ok (F_X12_much a1 w σ ρ) (fun q => PZ fh b m e 0 π δ 0 q) := by
  unfold F_X12_much
  refine ok_bn (s_X12_spells hw h0 h) (fun σ1 h1 => ok_bn2 (s_X12_figures h1 h0) (fun r2 σ2 h2 => ok_bn (s_X12_must h2.2 (by decide)) (fun σ3 h3 => ok_bn (s_X12_some (by omega) h3) (fun σ4 h4 => ok_nm (fun x5 h5 => ?_)))))
  have r5 : rg x5 (-299) (-10) := rg_eq h5 (rg_sub ha h2.1 (by decide) (by decide) (by decide) (by decide))
  exact ok_bn (s_X12_emits (t' := 0) h4 h0 (fun _ => st_end r5.2)) (fun σ6 h6 => ok_some h6)
theorem pz_55 {fh : Nat → Int32} {b : Nat} {m : Int} {e o v : Int32} {π δ : Int} {t k : Nat} {σ : SG} (h : PZ fh b m e o π δ t σ) (k1 : 194 ≤ k) (k2 : k ≤ 203) : PZ fh b m e o π δ t (s2 σ 55 k v) := by
  obtain ⟨⟨h1, h2, h3, h4, h5, h6⟩, i, g⟩ := h
  have n5 : s2 σ 55 k v 54 = σ 54 := s2_ne 54 (by decide)
  have nk : ∀ j, j ≠ k → s2 σ 55 k v 55 j = σ 55 j := fun j hj => by rw [s2_at, if_pos rfl, if_neg hj]
  refine ⟨⟨⟨bx_seti h1.1 k1 k2 (rg_any v) (by decide), fun j a b' => (nk j (by omega)).trans (h1.2 j a b')⟩, by rw [n5]; exact h2, by rw [nk 12 (by omega)]; exact h3, h4, h5, by rw [n5]; exact h6⟩, by rw [n5]; exact i, fun z => ?_⟩
  rw [n5] at z
  obtain ⟨g1, g2, g3⟩ := g z
  refine ⟨g1, by rw [n5, nk _ (by omega)]; exact g2, ?_⟩
  rw [nk (204 + b) (by omega), simc_congr2 (f := σ 55) _ _ _ (fun j hj hj2 => nk j (by omega))]
  exact g3
theorem s_X12_tellsHere {fh : Nat → Int32} {b : Nat} {m : Int} {ρ : RG} {e a1 : Int32} {π δ : Int} {w : Nat} {σ : SG} (hw : w < 6) (ha : rg a1 194 199) (h0 : 0 ≤ δ) (h : PZ fh b m e 0 π δ 0 σ) : ok (F_X12_tellsHere a1 w σ ρ) (fun q => PZ fh b m e 0 π δ 0 q) := by
  unfold F_X12_tellsHere
  refine ok_bn (s_X12_spells hw h0 h) (fun σ1 h1 => ok_bn2 (s_X12_figures h1 h0) (fun r2 σ2 h2 => ok_if (fun _ => ?_) (fun _ => ok_some h2.2)))
  have e5 : (σ2 54 5).toInt = (b : Int) := h2.2.1.2.1
  have b5 := h2.2.1.2.2.2.1
  refine ok_nm (fun x4 h4 => ?_)
  have r4 : rg x4 194 203 := rg_eq h4 (rg_add ha (show rg (σ2 54 5) 0 4 from ⟨by omega, by omega⟩) (by decide) (by decide) (by decide) (by decide))
  have c4 := rg_cl r4 (by decide)
  have r41 := r4.1
  have r42 := r4.2
  refine ok_gd (rg_inb r4 (by decide) (by decide)) (ok_nm (fun σ7 h7 => ok_some ?_))
  rw [h7]
  exact pz_55 h2.2 (by omega) (by omega)
theorem s_X12_clauseHere {fh : Nat → Int32} {b : Nat} {m : Int} {ρ : RG} {e : Int32} {π δ : Int} {σ : SG} (h0 : 0 ≤ δ) (h : PZ fh b m e 0 π δ 0 σ) : ok (F_X12_clauseHere σ ρ) (fun q => PZ fh b m e 0 π δ 0 q) := by
  unfold F_X12_clauseHere
  refine ok_bn (s_X12_here h) (fun r1 _ => ok_if (fun _ => ?_) (fun _ => ok_if (fun _ => ?_) (fun _ => ok_if (fun _ => ?_) (fun _ => ok_if (fun _ => ?_) (fun _ => ok_nm (fun σ8 h8 => ok_some ?_))))))
  · exact ok_bn (s_X12_tellsHere (by decide) ⟨by decide, by decide⟩ h0 h) (fun _ p => ok_some p)
  · exact ok_bn (s_X12_much (by decide) ⟨by decide, by decide⟩ h0 h) (fun _ p => ok_some p)
  · exact ok_bn (s_X12_much (by decide) ⟨by decide, by decide⟩ h0 h) (fun _ p => ok_some p)
  · exact ok_bn (s_X12_tellsHere (by decide) ⟨by decide, by decide⟩ h0 h) (fun _ p => ok_some p)
  · rw [h8]; exact pz_bad h
theorem s_X12_board_150 {fh : Nat → Int32} {b : Nat} {m : Int} {ρ : RG} {e : Int32} {π : Int} {σ : SG} (h : PZ fh b m e 0 π 0 0 σ) : ok (F_X12_board_150 σ ρ) (fun q => BX m q.2 ∧ ∀ k, k < 194 → k ≠ 15 → k ≠ 12 → k ≠ 16 → q.2 55 k = fh k) := by
  unfold F_X12_board_150
  refine ok_if (fun w => ok_if (fun _ => ?_) (fun _ => ok_nm (fun x _ => ok_some ⟨h.1.1.1, fun k a b _ _ => h.1.1.2 k a b⟩))) (fun _ => ok_nm (fun x _ => ok_some ⟨h.1.1.1, fun k a b _ _ => h.1.1.2 k a b⟩))
  obtain ⟨⟨h1, h2, h3, h4, h5, h6⟩, i, g⟩ := h
  obtain ⟨g1, g2, g3⟩ := g w
  refine ok_nm (fun x31 h31 => ok_nm (fun σ33 h33 => ok_nm (fun σ35 h35 => ok_some ?_)))
  have one : (1 : Int32).toInt = 1 := rfl
  have e31 : x31.toInt = (b : Int) + 1 := by rw [h31, ti_add (by omega) (by omega), one, h3]
  have n33 : σ33 54 = σ 54 := by rw [h33, s2_ne 54 (by decide)]
  have ne : ∀ r, r ≠ 55 → σ35 r = σ r := fun r hr => by rw [h35, s2_ne r hr, h33, s2_ne r hr]
  have k35 : ∀ k, σ35 55 k = if k = 16 then σ 54 5 else if k = 12 then x31 else σ 55 k := fun k => by rw [h35, s2_at, if_pos rfl, n33, h33, s2_at, if_pos rfl]
  have nk : ∀ k, k ≠ 16 → k ≠ 12 → σ35 55 k = σ 55 k := fun k p q => by rw [k35, if_neg p, if_neg q]
  have k16 : σ35 55 16 = σ 54 5 := by rw [k35, if_pos rfl]
  have k12 : σ35 55 12 = x31 := by rw [k35, if_neg (by decide), if_pos rfl]
  obtain ⟨h1, hf⟩ := h1
  refine (show BX m σ35 ∧ ∀ k, k < 194 → k ≠ 15 → k ≠ 12 → k ≠ 16 → σ35 55 k = fh k from ⟨?_, fun k a b c d => (nk k d c).trans (hf k a b)⟩)
  refine ⟨fun q hq j x y => ?_, ?_, ?_, ?_⟩
  · by_cases e1 : q.1 = 55
    · have hq1 : ∀ q ∈ bndL, q.1 = 55 → (q = (55, 12, 12, 0, 5) ∨ q = (55, 16, 16, -1, 4) ∨ ((12 < q.2.1 ∨ q.2.2.1 < 12) ∧ (16 < q.2.1 ∨ q.2.2.1 < 16))) := by decide
      rcases hq1 q hq e1 with z | z | ⟨z1, z2⟩
      · rw [z] at x y
        have ej : j = 12 := by have x' : 12 ≤ j := x; have y' : j ≤ 12 := y; omega
        rw [z, ej]
        show rg (σ35 55 12) 0 5
        rw [k12]; exact ⟨by omega, by omega⟩
      · rw [z] at x y
        have ej : j = 16 := by have x' : 16 ≤ j := x; have y' : j ≤ 16 := y; omega
        rw [z, ej]
        show rg (σ35 55 16) (-1) 4
        rw [k16]; exact ⟨by omega, by omega⟩
      · rw [e1, nk j (by omega) (by omega), ← e1]; exact h1.1 q hq j x y
    · rw [ne q.1 e1]; exact h1.1 q hq j x y
  · rw [ne 54 (by decide)]; exact h1.2.1
  · refine ⟨fun q hq => ?_, fun c hc => ?_⟩
    · rw [k16, h2] at hq
      have qb : q = b := by omega
      rw [k12, nk _ (by omega) (by omega), simc_congr (f := σ 55) _ _ _ (fun k hk => nk k (by omega) (by omega)), qb, g3]
      exact ⟨by omega, rfl⟩
    · rw [nk 11 (by decide) (by decide)] at hc
      have z := h1.2.2.1.2 c hc
      rw [nk (44 + c) (by omega) (by omega)]
      exact z
  · rw [ne 56 (by decide), ne 54 (by decide)]; exact h1.2.2.2
theorem s_X12_board_108 {fh : Nat → Int32} {b : Nat} {m : Int} {ρ : RG} {e : Int32} {π : Int} : ∀ (n : Nat) (σ : SG) (v1 : Int32), rg v1 1 10 → (10 : Int) - v1.toInt < (n : Int) → PZ fh b m e 0 π 0 0 σ → ok (F_X12_board_108 n σ ρ v1) (fun q => BX m q.2 ∧ ∀ k, k < 194 → k ≠ 15 → k ≠ 12 → k ≠ 16 → q.2 55 k = fh k) := by
  intro n
  induction n with
  | zero => intro σ v1 r1 hm; exact (ms_z r1 (by decide) hm).elim
  | succ n ih =>
    intro σ v1 r1 hm h
    unfold F_X12_board_108
    refine ok_if (fun w => ok_if (fun _ => s_X12_board_150 h) (fun c => ?_)) (fun _ => s_X12_board_150 h)
    have r1' : rg v1 1 9 := rg_lt (nle c) r1 (show rg (10 : Int32) 10 10 from ⟨by decide, by decide⟩)
    refine ok_bn (s_X12_here h) (fun r38 h38 => ok_if (fun q => ?_) (fun _ => s_X12_board_150 h))
    have lt := h38 (by rw [q]; decide)
    refine ok_nm (fun x40 h40 => ok_nm (fun σ42 h42 => ?_))
    have p42 : PZ fh b m e 0 π 0 0 σ42 := by rw [h42]; exact pz_lo (pz_adv h h40 lt (π' := π) (by have := h.2.1.2.2.2.2; omega)) (by decide) (Int.le_refl _)
    refine ok_bn (s_X12_clauseHere (Int.le_refl _) p42) (fun σ43 p43 => ok_nm (fun x hx => ?_))
    exact ih σ43 x (rg_w (rg_eq hx (rg_add (l := 2) (h := 10) r1' (show rg (1 : Int32) 1 1 from ⟨by decide, by decide⟩) (by decide) (by decide) (by decide) (by decide))) (by decide) (by decide)) (ms_s hx r1' (by decide) (by decide) hm) p43
theorem s_X12_board {m : Int} {σ : SG} {ρ : RG} (hB : BX m σ) : ok (F_X12_board σ ρ) (fun q => BX m q.2 ∧ ∀ k, k < 194 → k ≠ 15 → k ≠ 12 → k ≠ 16 → q.2 55 k = σ 55 k) := by
  unfold F_X12_board
  refine ok_if (fun _ => ok_some ⟨hB, fun _ _ _ _ _ => rfl⟩) (fun c => ?_)
  have r12 : rg (σ 55 12) 0 5 := bx_get hB (r := 55) (a := 12) (b := 12) (k := 12) (l := 0) (h := 5) (by decide) (by decide) (by decide)
  have r12' : rg (σ 55 12) 0 4 := rg_neh c r12 (show rg (5 : Int32) 5 5 from ⟨by decide, by decide⟩) rfl
  have r15 : rg (σ 55 15) 0 100 := bx_get hB (r := 55) (a := 15) (b := 15) (k := 15) (l := 0) (h := 100) (by decide) (by decide) (by decide)
  obtain ⟨b, hb⟩ : ∃ b : Nat, (σ 55 12).toInt = (b : Int) := ⟨(σ 55 12).toInt.toNat, by have := r12'.1; omega⟩
  have b5 : b < 5 := by have := r12'.2; omega
  have e194 : (194 : Int32).toInt = 194 := rfl
  have e199 : (199 : Int32).toInt = 199 := rfl
  have e204 : (204 : Int32).toInt = 204 := rfl
  refine ok_nm (fun σ3 h3 => ok_nm (fun σ5 h5 => ok_nm (fun σ7 h7 => ok_nm (fun x8 hx8 => ?_))))
  have b3 : BX m σ3 := by rw [h3]; exact bx_set hB (rg_any _) (by decide)
  have b5' : BX m σ5 := by rw [h5]; exact bx_set b3 (rg_any _) (by decide)
  have b7 : BX m σ7 := by rw [h7]; exact bx_set b5' (show rg (0 : Int32) 0 0 from ⟨by decide, by decide⟩) (by decide)
  have r3 : σ3 55 = σ 55 := by rw [h3, s2_ne 55 (by decide)]
  have f5 : σ7 54 5 = σ 55 12 := by rw [h7, s2_ne 54 (by decide), h5, n54 (by decide), h3, v54]
  have f7 : σ7 54 7 = σ 55 15 := by rw [h7, s2_ne 54 (by decide), h5, v54, r3]
  have f12 : σ7 55 12 = σ 55 12 := by rw [h7, s2_at, if_pos rfl, if_neg (by decide), h5, n5455, r3]
  have x8' : x8.toInt = 194 + (b : Int) := by rw [hx8, f5, ti_add (by omega) (by omega), e194, hb]
  have n8 : x8.toNatClampNeg = 194 + b := by show x8.toInt.toNat = _; omega
  rw [n8]
  refine ok_gd (rg_inb (l := 194) (h := 198) ⟨by omega, by omega⟩ (by decide) (by decide)) (ok_nm (fun σ11 h11 => ok_nm (fun x12 hx12 => ?_)))
  have b11 : BX m σ11 := by rw [h11]; exact bx_seti b7 (a := 194) (b := 203) (by omega) (by omega) (rg_any _) (by decide)
  have q11 : σ11 54 = σ7 54 := by rw [h11, s2_ne 54 (by decide)]
  have x12' : x12.toInt = 199 + (b : Int) := by rw [hx12, q11, f5, ti_add (by omega) (by omega), e199, hb]
  have n12 : x12.toNatClampNeg = 199 + b := by show x12.toInt.toNat = _; omega
  rw [n12]
  refine ok_gd (rg_inb (l := 199) (h := 203) ⟨by omega, by omega⟩ (by decide) (by decide)) (ok_nm (fun σ15 h15 => ok_nm (fun x16 hx16 => ?_)))
  have b15 : BX m σ15 := by rw [h15]; exact bx_seti b11 (a := 194) (b := 203) (by omega) (by omega) (rg_any _) (by decide)
  have q15 : σ15 54 = σ7 54 := by rw [h15, s2_ne 54 (by decide), q11]
  have c12 : σ15 55 12 = σ 55 12 := by rw [h15, s2_at, if_pos rfl, if_neg (by omega), h11, s2_at, if_pos rfl, if_neg (by omega), f12]
  have x16' : x16.toInt = 204 + (b : Int) := by rw [hx16, q15, f5, ti_add (by omega) (by omega), e204, hb]
  have n16 : x16.toNatClampNeg = 204 + b := by show x16.toInt.toNat = _; omega
  rw [n16]
  refine ok_gd (rg_inb (l := 204) (h := 208) ⟨by omega, by omega⟩ (by decide) (by decide)) (ok_nm (fun σ19 h19 => ok_nm (fun σ21 h21 => ok_nm (fun σ23 h23 => ok_nm (fun σ25 h25 => ?_)))))
  have k19 : ∀ k, k ≠ 204 + b → σ19 55 k = σ15 55 k := fun k hk => by rw [h19, s2_at, if_pos rfl, if_neg hk]
  have z19 : σ19 55 (204 + b) = 0 := by rw [h19, s2_at, if_pos rfl, if_pos rfl]
  have b19 : BX m σ19 := bx_row55 b15 (by rw [c12]; exact hb) b5 (fun r hr => by rw [h19, s2_ne r hr]) (fun k hk => k19 k (by omega)) (by rw [z19]; exact ⟨by decide, by decide⟩)
  have q19 : σ19 54 = σ7 54 := by rw [h19, s2_ne 54 (by decide), q15]
  have b21 : BX m σ21 := by rw [h21]; exact bx_set b19 (rg_any _) (by decide)
  have b23 : BX m σ23 := by rw [h23]; exact bx_set b21 (rg_any _) (by decide)
  have b25 : BX m σ25 := by rw [h25]; exact bx_set b23 (rg_any _) (by decide)
  have r55 : σ25 55 = σ19 55 := by rw [h25, n5455, h23, n5455, h21, n5455]
  have g5 : σ25 54 5 = σ 55 12 := by rw [h25, n54 (by decide), h23, n54 (by decide), h21, n54 (by decide), q19, f5]
  have g7 : σ25 54 7 = σ 55 15 := by rw [h25, n54 (by decide), h23, n54 (by decide), h21, n54 (by decide), q19, f7]
  have g6 : σ25 54 6 = 0 := by rw [h25, n54 (by decide), h23, n54 (by decide), h21, v54]
  have g8 : σ25 54 8 = 0 := by rw [h25, n54 (by decide), h23, v54]
  have g9 : σ25 54 9 = 0 := by rw [h25, v54]
  have o0 : (0 : Int32).toInt = 0 := rfl
  have fr : ∀ k, k < 194 → k ≠ 15 → σ25 55 k = σ 55 k := fun k a b' => by
    rw [r55, k19 k (by omega), h15, s2_at, if_pos rfl, if_neg (by omega), h11, s2_at, if_pos rfl, if_neg (by omega), h7, s2_at, if_pos rfl, if_neg b', h5, n5455, r3]
  have p25 : PZ (σ 55) b m (σ 55 15) 0 0 0 0 σ25 := by
    refine ⟨⟨⟨b25, fr⟩, by rw [g5]; exact hb, by rw [r55, k19 12 (by omega), c12]; exact hb, b5, r15, g7⟩, ⟨g9, by rw [g8]; exact ⟨by decide, by decide⟩, by rw [g6]; decide, by rw [g6, o0]; exact r15.1, by rw [g6]; decide⟩, fun _ => ⟨by decide, by rw [r55, z19, g6]; decide, ?_⟩⟩
    rw [r55, z19]
    rfl
  refine ok_bn (s_X12_clauseHere (Int.le_refl _) p25) (fun σ26 p26 => ?_)
  exact s_X12_board_108 1024 σ26 1 ⟨by decide, by decide⟩ (by decide) p26
