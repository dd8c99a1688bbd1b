/-! PART 745.im: printed by wip/gen/im26.py: image and undo -/
theorem kc_low {σ σ' : SG} (h : ∀ r, r < 65 → σ' r = σ r) : KC σ σ' := fun r k p => by
  rcases Nat.lt_or_ge r 65 with q | q
  · rw [h r q]
  · have := kc_rows (k := k) (kc_hi q)
    rw [p] at this; cases this
theorem t_X1_twin {m : Int} {N z : Nat} {K len : Nat → Nat} {σ : SG} {ρ : RG} (hQ : PR N K len ρ) : kp (F_X1_twin z N K len σ ρ) (fun q => KC σ q.2.2.2.2.1) := by
  unfold F_X1_twin
  have n65 := hQ.1.1
  refine kp_bx (fun r1 => kp_bnT (kp_ok (s_X11_newCutter hQ)) (fun c2 N2 K2 L2 σ2 ρ2 h => kp_nm (fun σ3 e3 => kp_some ?_)))
  obtain ⟨h1, h2, h3, h4⟩ := h
  have h1' : ∀ r, r < N → σ2 r = σ r := h1
  have h2' : PR N2 K2 L2 ρ2 := h2
  have h3' : CK N2 K2 L2 ρ2 c2 := h3
  show KC σ σ3
  refine kc_low (fun r hr => ?_)
  have := ck_65 h2'.1 h3'.1
  rw [s2_lt e3 (by omega), h1' r (by omega)]
theorem t_X9_twin {m : Int} {N z : Nat} {K len : Nat → Nat} {σ : SG} {ρ : RG} (hQ : PR N K len ρ) : kp (F_X9_twin z N K len σ ρ) (fun q => KC σ q.2.2.2.2.1) := by
  unfold F_X9_twin
  have n65 := hQ.1.1
  refine kp_nm (fun K1 e1 => kp_nm (fun L1 e2 => kp_nm (fun σ1 e3 => kp_nm (fun ρ1 e4 => kp_bnT (kp_ok s_X9_init_k9) (fun u N2 K2 L2 σ2 ρ2 h => kp_nm (fun σ3 h3 => ?_))))))
  subst e1 e2 e3 e4
  obtain ⟨⟨w1, w2, w3, w4⟩, w5, w6, w7⟩ := mk_nine hQ h
  have w1' : ∀ r, r < N → σ2 r = σ r := w1
  have w5' : ρ2 N 6 = some (N + 1) := w5
  refine kp_gd (fun _ => ?_)
  cases e6 : ρ2 z 6 with
  | none => exact kp_none
  | some c5 =>
    refine kp_gd (fun _ => ?_)
    rw [w5']
    refine kp_gd (fun _ => kp_nm (fun σ7 e7 => kp_some ?_))
    show KC σ σ7
    refine kc_low (fun r hr => ?_)
    rw [e7]
    unfold cpy
    rw [va_up_ne _ _ (by omega), s2_lt h3 (by omega), w1' r (by omega)]
theorem y_v_twin {m : Int} {N z : Nat} {K len : Nat → Nat} {σ : SG} {ρ : RG} (k_z : CK N K len ρ z) (hB : BX m σ) (hQ : PR N K len ρ) : ok (F_v_twin z N K len σ ρ) (fun q => (WB m q ∧ CK q.2.1 q.2.2.1 q.2.2.2.1 q.2.2.2.2.2 q.1) ∧ KC σ q.2.2.2.2.1) := by
  refine ok_kp (s_v_twin k_z hB hQ) ?_
  unfold F_v_twin
  exact kp_if (t_X9_twin (m := m) hQ) (t_X1_twin (m := m) hQ)
/-- the table of A made from that of B -/
def TK (A B : Nat) (σ σ' : SG) : Prop := σ' A 10 = σ B 10 ∧ ∀ r k, kcP r k = true → ¬ (r = A ∧ k = 10) → σ' r k = σ r k
theorem tk_mk {A B : Nat} {σ σ1 σ2 σ3 : SG} (hB : kcP B 10 = true) (hA : kcP A 10 = true) (h1 : KC σ σ1) (e : σ2 = s2 σ1 A 10 (σ1 B 10)) (h3 : KC σ2 σ3) : TK A B σ σ3 := by
  refine ⟨?_, fun r k p n => ?_⟩
  · rw [h3 A 10 hA, e, s2_at, if_pos rfl, if_pos rfl, h1 B 10 hB]
  · rw [h3 r k p, e, s2_at]
    by_cases q : r = A
    · rw [if_pos q, if_neg (fun q' => n ⟨q, q'⟩), ← q, h1 r k p]
    · rw [if_neg q, h1 r k p]
theorem tk_kc {A B : Nat} {σ σ1 σ2 : SG} (hB : kcP B 10 = true) (h1 : KC σ σ1) (h : TK A B σ1 σ2) : TK A B σ σ2 := ⟨by rw [h.1, h1 B 10 hB], fun r k p n => by rw [h.2 r k p n, h1 r k p]⟩
theorem t_X8_takes_14_1_10_6 {N : Nat} {K len : Nat → Nat} {σ : SG} {ρ : RG} (hL : Lay N K len ρ) : kp (F_X8_takes_14_1_10_6 N K len σ ρ) (fun q => TK 14 1 σ q.2.2.2.2.1) := by
  unfold F_X8_takes_14_1_10_6
  refine kp_bn (kk_X3_takes hL (i := 16) (j := 3) (by decide) (by decide)) (fun σ28 k28 => kp_bn (kk_X0_takes_18_5 hL) (fun σ29 k29 => ?_))
  refine kp_nm (fun σ31 e31 => kp_nm (fun σ33 e33 => kp_nm (fun σ35 e35 => kp_nm (fun σ37 e37 => kp_nm (fun σ39 e39 => kp_nm (fun σ41 e41 => kp_gd (fun _ => kp_nm (fun σ42 e42 => kp_nm (fun σ43 e43 => kp_nm (fun σ44 e44 => kp_nm (fun σ45 e45 => kp_some ?_)))))))))))
  have k31 : KC σ σ31 := kc_trans (kc_trans k28 k29) (by rw [e31]; exact kc_lit (by decide))
  have k33 : KC σ σ33 := kc_trans k31 (by rw [e33]; exact kc_lit (by decide))
  have k35 : KC σ σ35 := kc_trans k33 (by rw [e35]; exact kc_lit (by decide))
  have k37 : KC σ σ37 := kc_trans k35 (by rw [e37]; exact kc_lit (by decide))
  have k41 : KC σ39 σ41 := by rw [e41]; exact kc_lit (by decide)
  have k42 : KC σ39 σ42 := kc_trans k41 (by rw [e42]; exact kc_cpy (by decide))
  have k43 : KC σ39 σ43 := kc_trans k42 (by rw [e43]; exact kc_cpy (by decide))
  have k44 : KC σ39 σ44 := kc_trans k43 (by rw [e44]; exact kc_cpy (by decide))
  have k45 : KC σ39 σ45 := kc_trans k44 (by rw [e45]; exact kc_cpy (by decide))
  exact tk_mk rfl rfl k37 e39 k45
theorem y_X8_takes_14_1_10_6 {m : Int} {N : Nat} {K len : Nat → Nat} {σ : SG} {ρ : RG} (hB : BX m σ) (hQ : PR N K len ρ) : ok (F_X8_takes_14_1_10_6 N K len σ ρ) (fun q => WB m q ∧ TK 14 1 σ q.2.2.2.2.1) := ok_kp (s_X8_takes_14_1_10_6 hB hQ) (t_X8_takes_14_1_10_6 hQ.1)
theorem y_X8_takes_14_1_10_5 {m : Int} {N : Nat} {K len : Nat → Nat} {σ : SG} {ρ : RG} (hB : BX m σ) (hQ : PR N K len ρ) : ok (F_X8_takes_14_1_10_5 N K len σ ρ) (fun q => WB m q ∧ TK 14 1 σ q.2.2.2.2.1) := by
  unfold F_X8_takes_14_1_10_5
  refine ok_bn (s_X8_cutterAt_1 hB hQ) (fun ov hv => ok_oc (fun _ => ok_nm (fun ρ1 e1 => ?_)) (fun c hc => ?_))
  · rw [e1]; exact y_X8_takes_14_1_10_6 hB (pr_set hQ (Or.inr rfl) (fun c e => by cases e))
  · have kc := hv c hc
    refine ok_gd kc.1 (ok_bnT (y_v_twin kc hB hQ) (fun c2 N2 K2 L2 σ2 ρ2 h => ok_nm (fun ρ3 e3 => ?_)))
    obtain ⟨⟨⟨h1, h2⟩, h3⟩, h4⟩ := h
    rw [e3]
    exact ok_mono (y_X8_takes_14_1_10_6 h1 (pr_set h2 (Or.inr rfl) (fun c e => by cases e; exact h3))) (fun q z => ⟨z.1, tk_kc rfl h4 z.2⟩)
theorem y_X8_takes_14_1_10_4 {m : Int} {N : Nat} {K len : Nat → Nat} {σ : SG} {ρ : RG} (hB : BX m σ) (hQ : PR N K len ρ) : ok (F_X8_takes_14_1_10_4 N K len σ ρ) (fun q => WB m q ∧ TK 14 1 σ q.2.2.2.2.1) := by
  unfold F_X8_takes_14_1_10_4
  refine ok_bn (s_X8_cutterAt_1 hB hQ) (fun ov hv => ok_oc (fun _ => ok_nm (fun ρ1 e1 => ?_)) (fun c hc => ?_))
  · rw [e1]; exact y_X8_takes_14_1_10_5 hB (pr_set hQ (Or.inr rfl) (fun c e => by cases e))
  · have kc := hv c hc
    refine ok_gd kc.1 (ok_bnT (y_v_twin kc hB hQ) (fun c2 N2 K2 L2 σ2 ρ2 h => ok_nm (fun ρ3 e3 => ?_)))
    obtain ⟨⟨⟨h1, h2⟩, h3⟩, h4⟩ := h
    rw [e3]
    exact ok_mono (y_X8_takes_14_1_10_5 h1 (pr_set h2 (Or.inr rfl) (fun c e => by cases e; exact h3))) (fun q z => ⟨z.1, tk_kc rfl h4 z.2⟩)
theorem y_X8_takes_14_1_10_3 {m : Int} {N : Nat} {K len : Nat → Nat} {σ : SG} {ρ : RG} (hB : BX m σ) (hQ : PR N K len ρ) : ok (F_X8_takes_14_1_10_3 N K len σ ρ) (fun q => WB m q ∧ TK 14 1 σ q.2.2.2.2.1) := by
  unfold F_X8_takes_14_1_10_3
  refine ok_bn (s_X8_cutterAt_1 hB hQ) (fun ov hv => ok_oc (fun _ => ok_nm (fun ρ1 e1 => ?_)) (fun c hc => ?_))
  · rw [e1]; exact y_X8_takes_14_1_10_4 hB (pr_set hQ (Or.inr rfl) (fun c e => by cases e))
  · have kc := hv c hc
    refine ok_gd kc.1 (ok_bnT (y_v_twin kc hB hQ) (fun c2 N2 K2 L2 σ2 ρ2 h => ok_nm (fun ρ3 e3 => ?_)))
    obtain ⟨⟨⟨h1, h2⟩, h3⟩, h4⟩ := h
    rw [e3]
    exact ok_mono (y_X8_takes_14_1_10_4 h1 (pr_set h2 (Or.inr rfl) (fun c e => by cases e; exact h3))) (fun q z => ⟨z.1, tk_kc rfl h4 z.2⟩)
theorem y_X8_takes_14_1_10_2 {m : Int} {N : Nat} {K len : Nat → Nat} {σ : SG} {ρ : RG} (hB : BX m σ) (hQ : PR N K len ρ) : ok (F_X8_takes_14_1_10_2 N K len σ ρ) (fun q => WB m q ∧ TK 14 1 σ q.2.2.2.2.1) := by
  unfold F_X8_takes_14_1_10_2
  refine ok_bn (s_X8_cutterAt_1 hB hQ) (fun ov hv => ok_oc (fun _ => ok_nm (fun ρ1 e1 => ?_)) (fun c hc => ?_))
  · rw [e1]; exact y_X8_takes_14_1_10_3 hB (pr_set hQ (Or.inr rfl) (fun c e => by cases e))
  · have kc := hv c hc
    refine ok_gd kc.1 (ok_bnT (y_v_twin kc hB hQ) (fun c2 N2 K2 L2 σ2 ρ2 h => ok_nm (fun ρ3 e3 => ?_)))
    obtain ⟨⟨⟨h1, h2⟩, h3⟩, h4⟩ := h
    rw [e3]
    exact ok_mono (y_X8_takes_14_1_10_3 h1 (pr_set h2 (Or.inr rfl) (fun c e => by cases e; exact h3))) (fun q z => ⟨z.1, tk_kc rfl h4 z.2⟩)
theorem y_X8_takes_14_1_10_1 {m : Int} {N : Nat} {K len : Nat → Nat} {σ : SG} {ρ : RG} (hB : BX m σ) (hQ : PR N K len ρ) : ok (F_X8_takes_14_1_10_1 N K len σ ρ) (fun q => WB m q ∧ TK 14 1 σ q.2.2.2.2.1) := by
  unfold F_X8_takes_14_1_10_1
  refine ok_bn (s_X8_cutterAt_1 hB hQ) (fun ov hv => ok_oc (fun _ => ok_nm (fun ρ1 e1 => ?_)) (fun c hc => ?_))
  · rw [e1]; exact y_X8_takes_14_1_10_2 hB (pr_set hQ (Or.inr rfl) (fun c e => by cases e))
  · have kc := hv c hc
    refine ok_gd kc.1 (ok_bnT (y_v_twin kc hB hQ) (fun c2 N2 K2 L2 σ2 ρ2 h => ok_nm (fun ρ3 e3 => ?_)))
    obtain ⟨⟨⟨h1, h2⟩, h3⟩, h4⟩ := h
    rw [e3]
    exact ok_mono (y_X8_takes_14_1_10_2 h1 (pr_set h2 (Or.inr rfl) (fun c e => by cases e; exact h3))) (fun q z => ⟨z.1, tk_kc rfl h4 z.2⟩)
theorem y_X8_takes_14_1_10_0 {m : Int} {N : Nat} {K len : Nat → Nat} {σ : SG} {ρ : RG} (hB : BX m σ) (hQ : PR N K len ρ) : ok (F_X8_takes_14_1_10_0 N K len σ ρ) (fun q => WB m q ∧ TK 14 1 σ q.2.2.2.2.1) := by
  unfold F_X8_takes_14_1_10_0
  refine ok_bn (s_X8_cutterAt_1 hB hQ) (fun ov hv => ok_oc (fun _ => ok_nm (fun ρ1 e1 => ?_)) (fun c hc => ?_))
  · rw [e1]; exact y_X8_takes_14_1_10_1 hB (pr_set hQ (Or.inr rfl) (fun c e => by cases e))
  · have kc := hv c hc
    refine ok_gd kc.1 (ok_bnT (y_v_twin kc hB hQ) (fun c2 N2 K2 L2 σ2 ρ2 h => ok_nm (fun ρ3 e3 => ?_)))
    obtain ⟨⟨⟨h1, h2⟩, h3⟩, h4⟩ := h
    rw [e3]
    exact ok_mono (y_X8_takes_14_1_10_1 h1 (pr_set h2 (Or.inr rfl) (fun c e => by cases e; exact h3))) (fun q z => ⟨z.1, tk_kc rfl h4 z.2⟩)
theorem y_X8_takes_14_1 {m : Int} {N : Nat} {K len : Nat → Nat} {σ : SG} {ρ : RG} (hB : BX m σ) (hQ : PR N K len ρ) : ok (F_X8_takes_14_1 N K len σ ρ) (fun q => WB m q ∧ q.2.2.2.2.1 14 1 = σ 1 1 ∧ q.2.2.2.2.1 14 10 = σ 1 10 ∧ ∀ r k, kcP r k = true → ¬ (r = 14) → q.2.2.2.2.1 r k = σ r k) := by
  unfold F_X8_takes_14_1
  refine ok_nm (fun σ2 e2 => ?_)
  refine ok_mono (y_X8_takes_14_1_10_0 (by rw [e2]; exact bx_set hB (bx_get hB (r := 1) (a := 1) (b := 1) (k := 1) (l := 0) (h := 6) (by decide) (by decide) (by decide)) (by decide)) hQ) (fun q z => ⟨z.1, ?_, ?_, fun r k p n => ?_⟩)
  · rw [z.2.2 14 1 rfl (by decide), e2, s2_at, if_pos rfl, if_pos rfl]
  · rw [z.2.1, e2, s2_at, if_neg (by decide)]
  · rw [z.2.2 r k p (fun q => n q.1), e2, s2_at, if_neg n]
theorem t_X8_takes_1_14_10_6 {N : Nat} {K len : Nat → Nat} {σ : SG} {ρ : RG} (hL : Lay N K len ρ) : kp (F_X8_takes_1_14_10_6 N K len σ ρ) (fun q => TK 1 14 σ q.2.2.2.2.1) := by
  unfold F_X8_takes_1_14_10_6
  refine kp_bn (kk_X3_takes hL (i := 3) (j := 16) (by decide) (by decide)) (fun σ28 k28 => kp_bn (kk_X0_takes_5_18 hL) (fun σ29 k29 => ?_))
  refine kp_nm (fun σ31 e31 => kp_nm (fun σ33 e33 => kp_nm (fun σ35 e35 => kp_nm (fun σ37 e37 => kp_nm (fun σ39 e39 => kp_nm (fun σ41 e41 => kp_gd (fun _ => kp_nm (fun σ42 e42 => kp_nm (fun σ43 e43 => kp_nm (fun σ44 e44 => kp_nm (fun σ45 e45 => kp_some ?_)))))))))))
  have k31 : KC σ σ31 := kc_trans (kc_trans k28 k29) (by rw [e31]; exact kc_lit (by decide))
  have k33 : KC σ σ33 := kc_trans k31 (by rw [e33]; exact kc_lit (by decide))
  have k35 : KC σ σ35 := kc_trans k33 (by rw [e35]; exact kc_lit (by decide))
  have k37 : KC σ σ37 := kc_trans k35 (by rw [e37]; exact kc_lit (by decide))
  have k41 : KC σ39 σ41 := by rw [e41]; exact kc_lit (by decide)
  have k42 : KC σ39 σ42 := kc_trans k41 (by rw [e42]; exact kc_cpy (by decide))
  have k43 : KC σ39 σ43 := kc_trans k42 (by rw [e43]; exact kc_cpy (by decide))
  have k44 : KC σ39 σ44 := kc_trans k43 (by rw [e44]; exact kc_cpy (by decide))
  have k45 : KC σ39 σ45 := kc_trans k44 (by rw [e45]; exact kc_cpy (by decide))
  exact tk_mk rfl rfl k37 e39 k45
theorem y_X8_takes_1_14_10_6 {m : Int} {N : Nat} {K len : Nat → Nat} {σ : SG} {ρ : RG} (hB : BX m σ) (hQ : PR N K len ρ) : ok (F_X8_takes_1_14_10_6 N K len σ ρ) (fun q => WB m q ∧ TK 1 14 σ q.2.2.2.2.1) := ok_kp (s_X8_takes_1_14_10_6 hB hQ) (t_X8_takes_1_14_10_6 hQ.1)
theorem y_X8_takes_1_14_10_5 {m : Int} {N : Nat} {K len : Nat → Nat} {σ : SG} {ρ : RG} (hB : BX m σ) (hQ : PR N K len ρ) : ok (F_X8_takes_1_14_10_5 N K len σ ρ) (fun q => WB m q ∧ TK 1 14 σ q.2.2.2.2.1) := by
  unfold F_X8_takes_1_14_10_5
  refine ok_bn (s_X8_cutterAt_14 hB hQ) (fun ov hv => ok_oc (fun _ => ok_nm (fun ρ1 e1 => ?_)) (fun c hc => ?_))
  · rw [e1]; exact y_X8_takes_1_14_10_6 hB (pr_set hQ (Or.inl rfl) (fun c e => by cases e))
  · have kc := hv c hc
    refine ok_gd kc.1 (ok_bnT (y_v_twin kc hB hQ) (fun c2 N2 K2 L2 σ2 ρ2 h => ok_nm (fun ρ3 e3 => ?_)))
    obtain ⟨⟨⟨h1, h2⟩, h3⟩, h4⟩ := h
    rw [e3]
    exact ok_mono (y_X8_takes_1_14_10_6 h1 (pr_set h2 (Or.inl rfl) (fun c e => by cases e; exact h3))) (fun q z => ⟨z.1, tk_kc rfl h4 z.2⟩)
theorem y_X8_takes_1_14_10_4 {m : Int} {N : Nat} {K len : Nat → Nat} {σ : SG} {ρ : RG} (hB : BX m σ) (hQ : PR N K len ρ) : ok (F_X8_takes_1_14_10_4 N K len σ ρ) (fun q => WB m q ∧ TK 1 14 σ q.2.2.2.2.1) := by
  unfold F_X8_takes_1_14_10_4
  refine ok_bn (s_X8_cutterAt_14 hB hQ) (fun ov hv => ok_oc (fun _ => ok_nm (fun ρ1 e1 => ?_)) (fun c hc => ?_))
  · rw [e1]; exact y_X8_takes_1_14_10_5 hB (pr_set hQ (Or.inl rfl) (fun c e => by cases e))
  · have kc := hv c hc
    refine ok_gd kc.1 (ok_bnT (y_v_twin kc hB hQ) (fun c2 N2 K2 L2 σ2 ρ2 h => ok_nm (fun ρ3 e3 => ?_)))
    obtain ⟨⟨⟨h1, h2⟩, h3⟩, h4⟩ := h
    rw [e3]
    exact ok_mono (y_X8_takes_1_14_10_5 h1 (pr_set h2 (Or.inl rfl) (fun c e => by cases e; exact h3))) (fun q z => ⟨z.1, tk_kc rfl h4 z.2⟩)
theorem y_X8_takes_1_14_10_3 {m : Int} {N : Nat} {K len : Nat → Nat} {σ : SG} {ρ : RG} (hB : BX m σ) (hQ : PR N K len ρ) : ok (F_X8_takes_1_14_10_3 N K len σ ρ) (fun q => WB m q ∧ TK 1 14 σ q.2.2.2.2.1) := by
  unfold F_X8_takes_1_14_10_3
  refine ok_bn (s_X8_cutterAt_14 hB hQ) (fun ov hv => ok_oc (fun _ => ok_nm (fun ρ1 e1 => ?_)) (fun c hc => ?_))
  · rw [e1]; exact y_X8_takes_1_14_10_4 hB (pr_set hQ (Or.inl rfl) (fun c e => by cases e))
  · have kc := hv c hc
    refine ok_gd kc.1 (ok_bnT (y_v_twin kc hB hQ) (fun c2 N2 K2 L2 σ2 ρ2 h => ok_nm (fun ρ3 e3 => ?_)))
    obtain ⟨⟨⟨h1, h2⟩, h3⟩, h4⟩ := h
    rw [e3]
    exact ok_mono (y_X8_takes_1_14_10_4 h1 (pr_set h2 (Or.inl rfl) (fun c e => by cases e; exact h3))) (fun q z => ⟨z.1, tk_kc rfl h4 z.2⟩)
theorem y_X8_takes_1_14_10_2 {m : Int} {N : Nat} {K len : Nat → Nat} {σ : SG} {ρ : RG} (hB : BX m σ) (hQ : PR N K len ρ) : ok (F_X8_takes_1_14_10_2 N K len σ ρ) (fun q => WB m q ∧ TK 1 14 σ q.2.2.2.2.1) := by
  unfold F_X8_takes_1_14_10_2
  refine ok_bn (s_X8_cutterAt_14 hB hQ) (fun ov hv => ok_oc (fun _ => ok_nm (fun ρ1 e1 => ?_)) (fun c hc => ?_))
  · rw [e1]; exact y_X8_takes_1_14_10_3 hB (pr_set hQ (Or.inl rfl) (fun c e => by cases e))
  · have kc := hv c hc
    refine ok_gd kc.1 (ok_bnT (y_v_twin kc hB hQ) (fun c2 N2 K2 L2 σ2 ρ2 h => ok_nm (fun ρ3 e3 => ?_)))
    obtain ⟨⟨⟨h1, h2⟩, h3⟩, h4⟩ := h
    rw [e3]
    exact ok_mono (y_X8_takes_1_14_10_3 h1 (pr_set h2 (Or.inl rfl) (fun c e => by cases e; exact h3))) (fun q z => ⟨z.1, tk_kc rfl h4 z.2⟩)
theorem y_X8_takes_1_14_10_1 {m : Int} {N : Nat} {K len : Nat → Nat} {σ : SG} {ρ : RG} (hB : BX m σ) (hQ : PR N K len ρ) : ok (F_X8_takes_1_14_10_1 N K len σ ρ) (fun q => WB m q ∧ TK 1 14 σ q.2.2.2.2.1) := by
  unfold F_X8_takes_1_14_10_1
  refine ok_bn (s_X8_cutterAt_14 hB hQ) (fun ov hv => ok_oc (fun _ => ok_nm (fun ρ1 e1 => ?_)) (fun c hc => ?_))
  · rw [e1]; exact y_X8_takes_1_14_10_2 hB (pr_set hQ (Or.inl rfl) (fun c e => by cases e))
  · have kc := hv c hc
    refine ok_gd kc.1 (ok_bnT (y_v_twin kc hB hQ) (fun c2 N2 K2 L2 σ2 ρ2 h => ok_nm (fun ρ3 e3 => ?_)))
    obtain ⟨⟨⟨h1, h2⟩, h3⟩, h4⟩ := h
    rw [e3]
    exact ok_mono (y_X8_takes_1_14_10_2 h1 (pr_set h2 (Or.inl rfl) (fun c e => by cases e; exact h3))) (fun q z => ⟨z.1, tk_kc rfl h4 z.2⟩)
theorem y_X8_takes_1_14_10_0 {m : Int} {N : Nat} {K len : Nat → Nat} {σ : SG} {ρ : RG} (hB : BX m σ) (hQ : PR N K len ρ) : ok (F_X8_takes_1_14_10_0 N K len σ ρ) (fun q => WB m q ∧ TK 1 14 σ q.2.2.2.2.1) := by
  unfold F_X8_takes_1_14_10_0
  refine ok_bn (s_X8_cutterAt_14 hB hQ) (fun ov hv => ok_oc (fun _ => ok_nm (fun ρ1 e1 => ?_)) (fun c hc => ?_))
  · rw [e1]; exact y_X8_takes_1_14_10_1 hB (pr_set hQ (Or.inl rfl) (fun c e => by cases e))
  · have kc := hv c hc
    refine ok_gd kc.1 (ok_bnT (y_v_twin kc hB hQ) (fun c2 N2 K2 L2 σ2 ρ2 h => ok_nm (fun ρ3 e3 => ?_)))
    obtain ⟨⟨⟨h1, h2⟩, h3⟩, h4⟩ := h
    rw [e3]
    exact ok_mono (y_X8_takes_1_14_10_1 h1 (pr_set h2 (Or.inl rfl) (fun c e => by cases e; exact h3))) (fun q z => ⟨z.1, tk_kc rfl h4 z.2⟩)
theorem y_X8_takes_1_14 {m : Int} {N : Nat} {K len : Nat → Nat} {σ : SG} {ρ : RG} (hB : BX m σ) (hQ : PR N K len ρ) : ok (F_X8_takes_1_14 N K len σ ρ) (fun q => WB m q ∧ q.2.2.2.2.1 1 1 = σ 14 1 ∧ q.2.2.2.2.1 1 10 = σ 14 10 ∧ ∀ r k, kcP r k = true → ¬ (r = 1) → q.2.2.2.2.1 r k = σ r k) := by
  unfold F_X8_takes_1_14
  refine ok_nm (fun σ2 e2 => ?_)
  refine ok_mono (y_X8_takes_1_14_10_0 (by rw [e2]; exact bx_set hB (bx_get hB (r := 14) (a := 1) (b := 1) (k := 1) (l := 0) (h := 6) (by decide) (by decide) (by decide)) (by decide)) hQ) (fun q z => ⟨z.1, ?_, ?_, fun r k p n => ?_⟩)
  · rw [z.2.2 1 1 rfl (by decide), e2, s2_at, if_pos rfl, if_pos rfl]
  · rw [z.2.1, e2, s2_at, if_neg (by decide)]
  · rw [z.2.2 r k p (fun q => n q.1), e2, s2_at, if_neg n]
theorem im_11 {m : Int} {N : Nat} {K len : Nat → Nat} {σ : SG} {ρ : RG} (hB : BX m σ) (hQ : PR N K len ρ) : ok (F_X11_image N K len σ ρ) (fun q => WB m q ∧ q.1 = σ 1 1 ∧ q.2.2.2.2.1 14 1 = σ 1 1 ∧ q.2.2.2.2.1 14 10 = σ 1 10 ∧ q.2.2.2.2.1 0 2 = 1 ∧ ∀ r k, kcP r k = true → ¬ (r = 14) → ¬ (r = 0) → q.2.2.2.2.1 r k = σ r k) := by
  unfold F_X11_image
  refine ok_bnT (y_X8_takes_14_1 hB hQ) (fun u N1 K1 L1 σ1 ρ1 h => ok_nm (fun σ2 e2 => ok_some ?_))
  obtain ⟨h, a, b, c⟩ := h
  have h1 : BX m σ1 := h.1
  have a' : σ1 14 1 = σ 1 1 := a
  have b' : σ1 14 10 = σ 1 10 := b
  have c' : ∀ r k, kcP r k = true → ¬ (r = 14) → σ1 r k = σ r k := c
  have n : ∀ r k, ¬ (r = 0) → σ2 r k = σ1 r k := fun r k q => by rw [e2, s2_at, if_neg q]
  refine ⟨⟨?_, h.2⟩, ?_, ?_, ?_, ?_, fun r k p q q' => ?_⟩
  · show BX m σ2
    rw [e2]; exact bx_set h1 (rg_any _) (by decide)
  · show σ2 1 1 = _
    rw [n 1 1 (by decide), c' 1 1 rfl (by decide)]
  · show σ2 14 1 = _
    rw [n 14 1 (by decide), a']
  · show σ2 14 10 = _
    rw [n 14 10 (by decide), b']
  · show σ2 0 2 = 1
    rw [e2, s2_at, if_pos rfl, if_pos rfl]
  · show σ2 r k = _
    rw [n r k q', c' r k p q]
theorem im_12_2 {ρ : RG} : ∀ (n : Nat) (σ : SG) (v1 : Int32), rg v1 0 909 → kp (F_X12_image_2 n σ ρ v1) (fun q => q.1 = σ 55 11 ∧ q.2 54 4 = 1 ∧ q.2 55 = σ 55 ∧ (∀ r, r < 54 → q.2 r = σ r) ∧ ∀ k : Nat, k < 909 → (v1.toInt ≤ k ∨ σ 56 k = σ 55 k) → q.2 56 k = σ 55 k) := by
  intro n
  induction n with
  | zero => intro σ v1 _; exact kp_none
  | succ n ih =>
    intro σ v1 r1
    unfold F_X12_image_2
    have e909 : (909 : Int32).toInt = 909 := rfl
    by_cases c : (909 : Int32) ≤ v1
    · rw [if_pos c]
      have l := Int32.le_iff_toInt_le.mp c
      refine kp_nm (fun σ3 h3 => kp_some ⟨?_, ?_, ?_, fun r hr => ?_, fun k hk q => ?_⟩)
      · show σ3 55 11 = _
        rw [s2_lt h3 (by decide)]
      · show σ3 54 4 = 1
        rw [h3, s2_at, if_pos rfl, if_pos rfl]
      · show σ3 55 = _
        rw [s2_lt h3 (by decide)]
      · show σ3 r = _
        rw [s2_lt h3 (by omega)]
      · show σ3 56 k = _
        rw [s2_lt h3 (by decide)]
        rcases q with q | q
        · omega
        · exact q
    · rw [if_neg c]
      have r1' : rg v1 0 908 := rg_lt (nle c) r1 (show rg (909 : Int32) 909 909 from ⟨by decide, by decide⟩)
      have i1 := rg_cl r1' (by decide)
      refine kp_gd (fun _ => kp_gd (fun _ => kp_nm (fun σ7 h7 => kp_nm (fun x8 h8 => ?_))))
      have e1 : (1 : Int32).toInt = 1 := rfl
      have u := r1'.2
      have u0 := r1'.1
      have e8 : x8.toInt = v1.toInt + 1 := by rw [h8, ti_add (by omega) (by omega), e1]
      have n55 : σ7 55 = σ 55 := s2_lt h7 (by decide)
      refine kp_mono (ih σ7 x8 ⟨by omega, by omega⟩) (fun q z => ?_)
      obtain ⟨z1, z2, z3, z4, z5⟩ := z
      refine ⟨by rw [z1, n55], z2, by rw [z3, n55], fun r hr => by rw [z4 r hr, s2_lt h7 (by omega)], fun k hk y => ?_⟩
      rw [← n55]
      refine z5 k hk ?_
      rw [n55, h7, s2_at, if_pos rfl]
      by_cases w : k = v1.toNatClampNeg
      · rw [if_pos w, w]; exact Or.inr rfl
      · rw [if_neg w]
        rcases y with y | y
        · exact Or.inl (by omega)
        · exact Or.inr y
theorem im_12 {σ : SG} {ρ : RG} : kp (F_X12_image σ ρ) (fun q => q.1 = σ 55 11 ∧ q.2 54 4 = 1 ∧ q.2 55 = σ 55 ∧ (∀ r, r < 54 → q.2 r = σ r) ∧ ∀ k : Nat, k < 909 → q.2 56 k = σ 55 k) := by
  unfold F_X12_image
  refine kp_mono (im_12_2 1024 σ 0 ⟨by decide, by decide⟩) (fun q z => ⟨z.1, z.2.1, z.2.2.1, z.2.2.2.1, fun k hk => z.2.2.2.2 k hk (Or.inl (by have : (0 : Int32).toInt = 0 := rfl; omega))⟩)
theorem un_12_12 {ρ : RG} : ∀ (n : Nat) (σ : SG) (v1 : Int32), rg v1 0 909 → kp (F_X12_undo_12 n σ ρ v1) (fun q => q.1 = q.2 55 11 ∧ q.2 54 = σ 54 ∧ q.2 56 = σ 56 ∧ (∀ r, r < 54 → q.2 r = σ r) ∧ ∀ k : Nat, k < 909 → (v1.toInt ≤ k ∨ σ 55 k = σ 56 k) → q.2 55 k = σ 56 k) := by
  intro n
  induction n with
  | zero => intro σ v1 _; exact kp_none
  | succ n ih =>
    intro σ v1 r1
    unfold F_X12_undo_12
    have e909 : (909 : Int32).toInt = 909 := rfl
    by_cases c : (909 : Int32) ≤ v1
    · rw [if_pos c]
      have l := Int32.le_iff_toInt_le.mp c
      refine kp_some ⟨rfl, rfl, rfl, fun r hr => rfl, fun k hk q => ?_⟩
      rcases q with q | q
      · omega
      · exact q
    · rw [if_neg c]
      have r1' : rg v1 0 908 := rg_lt (nle c) r1 (show rg (909 : Int32) 909 909 from ⟨by decide, by decide⟩)
      have i1 := rg_cl r1' (by decide)
      refine kp_gd (fun _ => kp_gd (fun _ => kp_nm (fun σ7 h7 => kp_nm (fun x8 h8 => ?_))))
      have e1 : (1 : Int32).toInt = 1 := rfl
      have u := r1'.2
      have u0 := r1'.1
      have e8 : x8.toInt = v1.toInt + 1 := by rw [h8, ti_add (by omega) (by omega), e1]
      have n56 : σ7 56 = σ 56 := s2_lt h7 (by decide)
      refine kp_mono (ih σ7 x8 ⟨by omega, by omega⟩) (fun q z => ?_)
      obtain ⟨z1, z2, z3, z4, z5⟩ := z
      refine ⟨z1, by rw [z2, s2_lt h7 (by decide)], by rw [z3, n56], fun r hr => by rw [z4 r hr, s2_lt h7 (by omega)], fun k hk y => ?_⟩
      rw [← n56]
      refine z5 k hk ?_
      rw [n56, h7, s2_at, if_pos rfl]
      by_cases w : k = v1.toNatClampNeg
      · rw [if_pos w, w]; exact Or.inr rfl
      · rw [if_neg w]
        rcases y with y | y
        · exact Or.inl (by omega)
        · exact Or.inr y
theorem un_12 {σ : SG} {ρ : RG} (h : ¬ σ 54 4 = 0) : kp (F_X12_undo σ ρ) (fun q => q.1 = q.2 55 11 ∧ q.2 54 = σ 54 ∧ q.2 56 = σ 56 ∧ (∀ r, r < 54 → q.2 r = σ r) ∧ ∀ k : Nat, k < 909 → q.2 55 k = σ 56 k) := by
  unfold F_X12_undo
  rw [if_neg h]
  refine kp_mono (un_12_12 1024 σ 0 ⟨by decide, by decide⟩) (fun q z => ⟨z.1, z.2.1, z.2.2.1, z.2.2.2.1, fun k hk => z.2.2.2.2 k hk (Or.inl (by have : (0 : Int32).toInt = 0 := rfl; omega))⟩)
theorem un_11 {m : Int} {N : Nat} {K len : Nat → Nat} {σ : SG} {ρ : RG} (hB : BX m σ) (hQ : PR N K len ρ) : ok (F_X11_undo N K len σ ρ) (fun q => WB m q ∧ ((σ 0 2 = 0 ∧ q.1 = -3 ∧ q.2.2.2.2.1 = σ) ∨ (¬ σ 0 2 = 0 ∧ q.1 = σ 14 1 ∧ q.2.2.2.2.1 1 1 = σ 14 1 ∧ q.2.2.2.2.1 1 10 = σ 14 10 ∧ ∀ r k, kcP r k = true → ¬ (r = 1) → q.2.2.2.2.1 r k = σ r k))) := by
  unfold F_X11_undo
  refine ok_if (fun c => ok_some ⟨⟨hB, hQ⟩, Or.inl ⟨c, rfl, rfl⟩⟩) (fun c => ok_bnT (y_X8_takes_1_14 hB hQ) (fun u N1 K1 L1 σ1 ρ1 h => ok_some ?_))
  obtain ⟨h, a, b, d⟩ := h
  exact ⟨h, Or.inr ⟨c, a, a, b, d⟩⟩
theorem rl_im {σ σ1 σ2 : SG} {x y : Int32} (hc : x = σ 1 1 ∧ σ1 14 1 = σ 1 1 ∧ σ1 14 10 = σ 1 10 ∧ σ1 0 2 = 1 ∧ ∀ r k, kcP r k = true → ¬ (r = 14) → ¬ (r = 0) → σ1 r k = σ r k) (hr : y = σ1 55 11 ∧ σ2 54 4 = 1 ∧ σ2 55 = σ1 55 ∧ (∀ r, r < 54 → σ2 r = σ1 r) ∧ ∀ k : Nat, k < 909 → σ2 56 k = σ1 55 k) (R : RTB σ) : x = y ∧ RTB σ2 := by
  obtain ⟨a, b, -, -⟩ := R
  obtain ⟨c1, c2, c3, c4, c5⟩ := hc
  obtain ⟨r1, r2, r3, r4, r5⟩ := hr
  refine ⟨by rw [c1, r1, c5 55 11 rfl (by decide) (by decide), a], ?_⟩
  unfold RTB
  rw [r4 1 (by decide), r4 0 (by decide), r4 14 (by decide), r3, r2, r5 11 (by decide), r5 13 (by decide), c2, c3, c4, c5 1 1 rfl (by decide) (by decide), c5 1 10 rfl (by decide) (by decide), c5 55 11 rfl (by decide) (by decide), c5 55 13 rfl (by decide) (by decide)]
  exact ⟨a, b, ⟨fun q => absurd q (by decide), fun q => absurd q (by decide)⟩, fun _ => ⟨a, b⟩⟩
theorem rl_un {m : Int} {σ σ1 : SG} {ρ1 : RG} {x : Int32} (hc : (σ 0 2 = 0 ∧ x = -3 ∧ σ1 = σ) ∨ (¬ σ 0 2 = 0 ∧ x = σ 14 1 ∧ σ1 1 1 = σ 14 1 ∧ σ1 1 10 = σ 14 10 ∧ ∀ r k, kcP r k = true → ¬ (r = 1) → σ1 r k = σ r k)) (R : RTB σ) : kp (F_X12_undo σ1 ρ1) (fun q => x = q.1 ∧ RTB q.2) := by
  rcases hc with ⟨c0, cx, c1⟩ | ⟨c0, cx, c1, c2, c3⟩
  · subst c1
    unfold F_X12_undo
    rw [if_pos (R.2.2.1.mp c0)]
    exact kp_some ⟨cx, R⟩
  · obtain ⟨a, b, c, d⟩ := R
    have n0 : ¬ σ 54 4 = 0 := fun q => c0 (c.mpr q)
    have n1 : ¬ σ1 54 4 = 0 := by rw [c3 54 4 rfl (by decide)]; exact n0
    obtain ⟨d1, d2⟩ := d n0
    refine kp_mono (un_12 n1) (fun q z => ?_)
    obtain ⟨z1, z2, z3, z4, z5⟩ := z
    have e11 : q.2 55 11 = σ 14 1 := by rw [z5 11 (by decide), c3 56 11 rfl (by decide), d1]
    have e13 : q.2 55 13 = σ 14 10 := by rw [z5 13 (by decide), c3 56 13 rfl (by decide), d2]
    refine ⟨by rw [cx, z1, e11], ?_⟩
    unfold RTB
    rw [z4 1 (by decide), z4 0 (by decide), z4 14 (by decide), e11, e13, z2, z3, c1, c2, c3 0 2 rfl (by decide), c3 14 1 rfl (by decide), c3 14 10 rfl (by decide), c3 54 4 rfl (by decide), c3 56 11 rfl (by decide), c3 56 13 rfl (by decide)]
    exact ⟨rfl, rfl, c, fun _ => ⟨d1, d2⟩⟩
