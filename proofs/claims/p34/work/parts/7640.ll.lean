/-! PART 7640.ll: by hand: the loaf, EATEN, what was seen, the week, the books, side by side -/
/-- the cells of the reference's row that this relation reads -/
def LV (k : Nat) : Prop := k ≤ 11 ∨ k = 18 ∨ k = 19 ∨ (44 ≤ k ∧ k ≤ 49) ∨ (74 ≤ k ∧ k ≤ 93)
def LD (Lf A U arr row : Nat) (σ τ : SG) (ρ : RG) : Prop := (∀ k, k < 5 → σ Lf (1 + k) = τ row k) ∧ (rg (τ row 1) (-99) 99 ∧ rg (τ row 2) (-99) 99 ∧ rg (τ row 3) 0 999) ∧ (∀ j c, j < 6 → ρ arr j = some c → σ c 5 = τ row (5 + j)) ∧ (∀ j : Nat, j < 6 → (j : Int) < (τ row 11).toInt → rg (τ row (44 + j)) 1 40) ∧ (σ A 7 = τ row 18 ∧ σ A 8 = τ row 19) ∧ (∀ k, k < 4 → σ U k = τ row (74 + k)) ∧ ∀ k, k < 8 → σ (U + 1) k = τ row (78 + k) ∧ σ (U + 2) k = τ row (86 + k)
/-- as LD, the state and its image; EATEN's two flags down -/
def LSS (σ τ : SG) (ρ : RG) : Prop := LD 3 1 11 2 55 σ τ ρ ∧ (τ 54 17 = 0 ∧ τ 54 18 = 0) ∧ (¬ τ 54 4 = 0 → LD 16 14 24 15 56 σ τ ρ)
/-- the class's cells that this relation reads -/
def CLP (r k : Nat) : Prop := r = 3 ∨ r = 16 ∨ (11 ≤ r ∧ r ≤ 13) ∨ (24 ≤ r ∧ r ≤ 26) ∨ ((r = 1 ∨ r = 14) ∧ (k = 7 ∨ k = 8)) ∨ (65 ≤ r ∧ k = 5)
def CL (σ σ' : SG) : Prop := ∀ r k, CLP r k → σ' r k = σ r k
def RLV (τ τ' : SG) : Prop := (∀ k, LV k → τ' 55 k = τ 55 k) ∧ (∀ k, k < 909 → τ' 56 k = τ 56 k) ∧ τ' 54 4 = τ 54 4 ∧ τ' 54 17 = τ 54 17 ∧ τ' 54 18 = τ 54 18
def RT (σ τ : SG) : Prop := ∀ r k, 54 ≤ r → r < 65 → τ r k = σ r k
theorem ld_eq {Lf A U arr row : Nat} {σ τ σ' τ' : SG} {ρ : RG} (h : LD Lf A U arr row σ τ ρ) (hl : ∀ k, 1 ≤ k → k ≤ 5 → σ' Lf k = σ Lf k) (h7 : σ' A 7 = σ A 7) (h8 : σ' A 8 = σ A 8) (hu : ∀ r k, U ≤ r → r ≤ U + 2 → σ' r k = σ r k) (he : ∀ j c, j < 6 → ρ arr j = some c → σ' c 5 = σ c 5) (hv : ∀ k, LV k → τ' row k = τ row k) : LD Lf A U arr row σ' τ' ρ := by
  obtain ⟨a, ⟨b1, b2, b3⟩, c, d, ⟨e1, e2⟩, f, g⟩ := h
  refine ⟨fun k hk => ?_, ⟨?_, ?_, ?_⟩, fun j x hj hx => ?_, fun j hj hl => ?_, ⟨?_, ?_⟩, fun k hk => ?_, fun k hk => ⟨?_, ?_⟩⟩
  · rw [hl (1 + k) (by omega) (by omega), hv k (Or.inl (by omega))]; exact a k hk
  · rw [hv 1 (Or.inl (by omega))]; exact b1
  · rw [hv 2 (Or.inl (by omega))]; exact b2
  · rw [hv 3 (Or.inl (by omega))]; exact b3
  · rw [he j x hj hx, hv (5 + j) (Or.inl (by omega))]; exact c j x hj hx
  · rw [hv 11 (Or.inl (by omega))] at hl
    rw [hv (44 + j) (Or.inr (Or.inr (Or.inr (Or.inl (by omega)))))]; exact d j hj hl
  · rw [h7, hv 18 (Or.inr (Or.inl rfl))]; exact e1
  · rw [h8, hv 19 (Or.inr (Or.inr (Or.inl rfl)))]; exact e2
  · rw [hu U k (by omega) (by omega), hv (74 + k) (Or.inr (Or.inr (Or.inr (Or.inr (by omega)))))]; exact f k hk
  · rw [hu (U + 1) k (by omega) (by omega), hv (78 + k) (Or.inr (Or.inr (Or.inr (Or.inr (by omega)))))]; exact (g k hk).1
  · rw [hu (U + 2) k (by omega) (by omega), hv (86 + k) (Or.inr (Or.inr (Or.inr (Or.inr (by omega)))))]; exact (g k hk).2
theorem lv94 {k : Nat} (h : LV k) : k < 94 := by unfold LV at h; omega
theorem pr_65 {N : Nat} {K len : Nat → Nat} {ρ : RG} (hQ : PR N K len ρ) {a j c : Nat} (ha : a = 2 ∨ a = 15) (hj : j < 6) (h : ρ a j = some c) : 65 ≤ c ∧ c < N := by
  rcases ha with rfl | rfl
  · have k := hQ.2.2.1 j c hj h; exact ⟨ck_65 hQ.1 k.1, isC_r k.1⟩
  · have k := hQ.2.2.2.1 j c hj h; exact ⟨ck_65 hQ.1 k.1, isC_r k.1⟩
theorem lss_im {N : Nat} {K len : Nat → Nat} {σ τ σ' τ' : SG} {ρ : RG} (hQ : PR N K len ρ) (h : LSS σ τ ρ) (hl : ∀ k, 1 ≤ k → k ≤ 5 → σ' 16 k = σ 16 k) (h7 : σ' 14 7 = σ 14 7) (h8 : σ' 14 8 = σ 14 8) (hu : ∀ r k, 24 ≤ r → r ≤ 26 → σ' r k = σ r k) (he : ∀ c, 65 ≤ c → (∃ j, j < 6 ∧ ρ 15 j = some c) → σ' c 5 = σ c 5) (h6 : ∀ k, k < 909 → τ' 56 k = τ 56 k) (h4 : τ' 54 4 = τ 54 4) : ¬ τ' 54 4 = 0 → LD 16 14 24 15 56 σ' τ' ρ := fun n => by
  rw [h4] at n
  exact ld_eq (h.2.2 n) hl h7 h8 hu (fun j c hj hc => he c (pr_65 hQ (Or.inr rfl) hj hc).1 ⟨j, hj, hc⟩) (fun k hk => h6 k (by have := lv94 hk; omega))
theorem lss_keep {N : Nat} {K len : Nat → Nat} {σ τ σ' τ' : SG} {ρ : RG} (hQ : PR N K len ρ) (h : LSS σ τ ρ) (c : CL σ σ') (r : RLV τ τ') : LSS σ' τ' ρ := by
  obtain ⟨r1, r2, r3, r4, r5⟩ := r
  refine ⟨ld_eq h.1 (fun k _ _ => c 3 k (Or.inl rfl)) (c 1 7 (Or.inr (Or.inr (Or.inr (Or.inr (Or.inl ⟨Or.inl rfl, Or.inl rfl⟩)))))) (c 1 8 (Or.inr (Or.inr (Or.inr (Or.inr (Or.inl ⟨Or.inl rfl, Or.inr rfl⟩)))))) (fun x k a b => c x k (Or.inr (Or.inr (Or.inl ⟨a, b⟩)))) (fun j x hj hx => c x 5 (Or.inr (Or.inr (Or.inr (Or.inr (Or.inr ⟨(pr_65 hQ (Or.inl rfl) hj hx).1, rfl⟩)))))) r1, ⟨r4.trans h.2.1.1, r5.trans h.2.1.2⟩, ?_⟩
  exact lss_im hQ h (fun k _ _ => c 16 k (Or.inr (Or.inl rfl))) (c 14 7 (Or.inr (Or.inr (Or.inr (Or.inr (Or.inl ⟨Or.inr rfl, Or.inl rfl⟩)))))) (c 14 8 (Or.inr (Or.inr (Or.inr (Or.inr (Or.inl ⟨Or.inr rfl, Or.inr rfl⟩)))))) (fun x k a b => c x k (Or.inr (Or.inr (Or.inr (Or.inl ⟨a, b⟩))))) (fun x hx _ => c x 5 (Or.inr (Or.inr (Or.inr (Or.inr (Or.inr ⟨hx, rfl⟩)))))) r2 r3
theorem cl_refl {σ : SG} : CL σ σ := fun _ _ _ => rfl
theorem rlv_refl {σ : SG} : RLV σ σ := ⟨fun _ _ => rfl, fun _ _ => rfl, rfl, rfl, rfl⟩
theorem rlv_rt {σ τ : SG} (h : RT σ τ) : RLV σ τ := ⟨fun k _ => h 55 k (by decide) (by decide), fun k _ => h 56 k (by decide) (by decide), h 54 4 (by decide) (by decide), h 54 17 (by decide) (by decide), h 54 18 (by decide) (by decide)⟩
theorem cl_kr {σ σ' : SG} (h : KR σ σ') : CL σ σ' := fun r k p => h r k (by
  unfold CLP at p
  rcases Nat.lt_or_ge r 54 with z | z
  · exact krP_lo z
  · exact krP_hi (by omega))
theorem clp_lo {r k : Nat} (p : CLP r k) : (1 ≤ r ∧ r ≤ 26) ∨ 65 ≤ r := by unfold CLP at p; omega
theorem cl_kd {σ σ' : SG} (h : KD σ σ') : CL σ σ' := fun r k p => h r k (by
  have q := clp_lo p
  unfold kdP
  rcases q with ⟨a, b⟩ | a
  · rw [Nat.ble_eq.mpr a, Nat.ble_eq.mpr b]; rfl
  · rw [Nat.ble_eq.mpr (show 54 ≤ r by omega)]; simp)
theorem rt_kx {σ σ' : SG} (h : KX σ σ') : RT σ σ' := fun r k a b => h r k (by
  unfold kxP
  rw [Nat.ble_eq.mpr a, Nat.ble_eq.mpr (show r ≤ 64 by omega)]; rfl)
/-- a call that changes nothing of it -/
theorem lss_call {N : Nat} {K len : Nat → Nat} {σ σ3 σ6 : SG} {ρ : RG} (hQ : PR N K len ρ) (h : LSS σ σ ρ) (hc : CL σ σ3) (hx : KX σ σ3) (hr : KR σ3 σ6) (hv : RLV σ3 σ6) : LSS σ6 σ6 ρ :=
  lss_keep hQ (lss_keep hQ (lss_keep hQ h hc (rlv_rt (rt_kx hx))) cl_refl hv) (cl_kr hr) rlv_refl
/-- a call whose two sides were run side by side -/
theorem lss_sim {N : Nat} {K len : Nat → Nat} {σ3 σ6 : SG} {ρ : RG} (hQ : PR N K len ρ) (h : LSS σ3 σ6 ρ) (hr : KR σ3 σ6) : LSS σ6 σ6 ρ := lss_keep hQ h (cl_kr hr) rlv_refl
/-! calls that change nothing of it -/
theorem lv_bf {m : Int} {σ σ' : SG} (h : KR σ σ') (b : BF (σ 55) m σ') (r : RSX σ σ') : RLV σ σ' := ⟨fun k _ => by
  rcases Nat.lt_or_ge k 11 with z | z
  · exact r.1 k z
  · exact b.2 k z, fun k _ => h 56 k rfl, h 54 4 rfl, r.2.1, r.2.2⟩
theorem lv_ks {σ σ' : SG} (h : KR σ σ') (b : ∀ k, LV k → σ' 55 k = σ 55 k) (r : KF σ σ') : RLV σ σ' := ⟨b, fun k _ => h 56 k rfl, h 54 4 rfl, r 54 17 rfl, r 54 18 rfl⟩
theorem feed_11l {a1 : Int32} {σ : SG} {ρ : RG} : kp (F_X11_feed a1 σ ρ) (fun q => CL σ q.2) := by
  unfold F_X11_feed
  refine kp_bx (fun r1 => kp_if (kp_some cl_refl) (kp_if (kp_gd (fun _ => kp_nm (fun σ6 h6 => kp_nm (fun x7 _ => kp_nm (fun σ9 h9 => kp_some (fun r k p => ?_)))))) (kp_some cl_refl)))
  unfold CLP at p
  show σ9 r k = _
  rw [h9, sn (by omega), h6, sn (by omega)]
theorem feed_12l {m : Int} {a1 : Int32} {σ : SG} {ρ : RG} (hB : BX m σ) : kp (F_X12_feed a1 σ ρ) (fun q => ∀ k, LV k → q.2 55 k = σ 55 k) := by
  have r : rg (σ 55 15) 0 100 := bx_get hB (r := 55) (a := 15) (b := 15) (k := 15) (l := 0) (h := 100) (by decide) (by decide) (by decide)
  unfold F_X12_feed
  refine kp_bx (fun r1 => kp_if (kp_some (fun _ _ => rfl)) (kp_if (kp_some (fun _ _ => rfl)) (kp_nm (fun x4 h4 => kp_gd (fun _ => kp_nm (fun σ7 h7 => kp_nm (fun x8 h8 => kp_nm (fun σ10 h10 => kp_some (fun k hk => ?_)))))))))
  have := lv94 hk
  have : k ≠ 15 := by unfold LV at hk; omega
  have r4 : rg x4 94 194 := rg_eq h4 (rg_add (show rg (94 : Int32) 94 94 from ⟨by decide, by decide⟩) r (by decide) (by decide) (by decide) (by decide))
  exact (s2_k h10 (by omega)).trans (s2_kx h7 r4 (by decide) (Or.inl (by omega)))
theorem board_11l {N : Nat} {K len : Nat → Nat} {σ : SG} {ρ : RG} (hL : Lay N K len ρ) : kp (F_X11_board σ ρ) (fun q => CL σ q.2.1) := by
  unfold F_X11_board
  refine kp_if (kp_bn3 (kd_X0_readFrom hL) (fun r2 σ2 ρ2 h => kp_nm (fun σ4 h4 => kp_if (kp_nm (fun x11 _ => kp_some (fun r k p => ?_))) (kp_bn k_takes5 (fun σ6 h6 => kp_nm (fun x7 _ => kp_nm (fun σ9 h9 => kp_nm (fun x10 _ => kp_some (fun r k p => ?_))))))))) (kp_some cl_refl)
  all_goals
    have h : KD σ σ2 := h
    have h2 := cl_kd h r k p
    unfold CLP at p
  · show σ4 r k = σ r k
    rw [h4, sn (by omega)]; exact h2
  · show σ9 r k = σ r k
    rw [h9, sn (by omega), h6.1 r k (by omega), h4, sn (by omega)]; exact h2
theorem clear_11l {σ : SG} {ρ : RG} : kp (F_X11_clear σ ρ) (fun q => CL σ q.2) := by
  unfold F_X11_clear
  refine kp_nm (fun σ2 h => kp_some (fun r k p => ?_))
  unfold CLP at p
  show σ2 r k = _
  rw [h, sn (by omega)]
theorem clear_12l {σ : SG} {ρ : RG} : kp (F_X12_clear σ ρ) (fun q => ∀ k, LV k → q.2 55 k = σ 55 k) := by
  unfold F_X12_clear
  refine kp_nm (fun σ2 h => kp_some (fun k p => ?_))
  unfold LV at p
  show σ2 55 k = _
  rw [h, sn (by omega)]
/-! see, loaf, week -/
theorem lv_c {σ τ : SG} {ρ : RG} (h : LSS σ τ ρ) : LSS σ τ ρ := h
theorem see_l {N : Nat} {K len : Nat → Nat} {a b : Int32} {σ : SG} {ρ : RG} (hQ : PR N K len ρ) (h : LSS σ σ ρ) : kp (F_X11_see a b σ ρ) (fun q => ∀ (τ : SG) (ρ' : RG), RT σ τ → kp (F_X12_see a b τ ρ') (fun q' => q.1 = q'.1 → LSS q.2 q'.2 ρ)) := by
  have e : ∀ τ : SG, RT σ τ → LSS σ τ ρ := fun τ t => lss_keep hQ h cl_refl (rlv_rt t)
  have no : ∀ (v w : Int32) (τ : SG) (ρ' : RG), v ≠ 1 → RT σ τ → kp (F_X12_see a b τ ρ') (fun q' => v = q'.1 → LSS σ q'.2 ρ) := fun v w τ ρ' n t => by
    unfold F_X12_see
    refine kp_bx (fun r1 => kp_if (kp_some (fun _ => e τ t)) (kp_bx (fun r3 => kp_if (kp_some (fun _ => e τ t)) (kp_nm (fun σ6 h6 => kp_nm (fun σ8 h8 => kp_some (fun z => absurd z n)))))))
  unfold F_X11_see
  refine kp_bx (fun r1 => kp_if (kp_some (fun τ ρ' t => no (-2) 0 τ ρ' (by decide) t)) (kp_bx (fun r3 => kp_if (kp_some (fun τ ρ' t => no (-2) 0 τ ρ' (by decide) t)) (kp_nm (fun σ6 h6 => kp_nm (fun σ8 h8 => kp_some (fun τ ρ' t => ?_)))))))
  have s : ∀ r k, ¬ (r = 1 ∧ (k = 7 ∨ k = 8)) → σ8 r k = σ r k := fun r k n => by rw [h8, sn (by omega), h6, sn (by omega)]
  unfold F_X12_see
  refine kp_bx (fun r1 => kp_if (kp_some (fun z => absurd z (show ¬ (1 : Int32) = -2 by decide))) (kp_bx (fun r3 => kp_if (kp_some (fun z => absurd z (show ¬ (1 : Int32) = -2 by decide))) (kp_nm (fun τ6 g6 => kp_nm (fun τ8 g8 => kp_some (fun _ => ?_)))))))
  have u : ∀ r k, ¬ (r = 55 ∧ (k = 18 ∨ k = 19)) → τ8 r k = τ r k := fun r k n => by rw [g8, sn (by omega), g6, sn (by omega)]
  obtain ⟨⟨x1, x2, x3, x4, x5, x6, x7⟩, f, i⟩ := e τ t
  show LSS σ8 τ8 ρ
  refine ⟨⟨fun k hk => ?_, ?_, fun j c hj hc => ?_, fun j hj hl => ?_, ⟨?_, ?_⟩, fun k hk => ?_, fun k hk => ?_⟩, ⟨?_, ?_⟩, lss_im hQ (e τ t) (fun k _ _ => s 16 k (by omega)) (s 14 7 (by omega)) (s 14 8 (by omega)) (fun r k _ _ => s r k (by omega)) (fun c _ _ => s c 5 (by omega)) (fun k _ => u 56 k (by omega)) (u 54 4 (by omega))⟩
  · rw [s 3 _ (by omega), u 55 k (by omega)]; exact x1 k hk
  · rw [u 55 1 (by omega), u 55 2 (by omega), u 55 3 (by omega)]; exact x2
  · rw [s c 5 (by omega), u 55 _ (by omega)]; exact x3 j c hj hc
  · rw [u 55 11 (by omega)] at hl; rw [u 55 _ (by omega)]; exact x4 j hj hl
  · rw [h8, sn (by omega), h6, sv, g8, sn (by omega), g6, sv]
  · rw [h8, sv, g8, sv]
  · rw [s 11 k (by omega), u 55 _ (by omega)]; exact x6 k hk
  · rw [s 12 k (by omega), s 13 k (by omega), u 55 _ (by omega), u 55 _ (by omega)]; exact x7 k hk
  · rw [u 54 17 (by omega)]; exact f.1
  · rw [u 54 18 (by omega)]; exact f.2
theorem k_starts {i : Nat} {a : Int32} {σ : SG} {ρ : RG} : kp (F_X3_startsAnew i a σ ρ) (fun q => (∀ r k, ¬ (r = i ∧ k ≤ 5) → q r k = σ r k) ∧ q i 1 = a ∧ q i 2 = 0 ∧ q i 3 = 0 ∧ q i 4 = 0 ∧ q i 5 = 0) := by
  unfold F_X3_startsAnew
  refine kp_nm (fun σ2 h2 => kp_nm (fun σ4 h4 => kp_nm (fun σ6 h6 => kp_nm (fun σ8 h8 => kp_nm (fun σ10 h10 => kp_nm (fun σ12 h12 => kp_some ⟨fun r k n => ?_, ?_, ?_, ?_, ?_, ?_⟩))))))
  · rw [h12, sn (by omega), h10, sn (by omega), h8, sn (by omega), h6, sn (by omega), h4, sn (by omega), h2, sn (by omega)]
  · rw [h12, sn (by omega), h10, sn (by omega), h8, sn (by omega), h6, sn (by omega), h4, sv]
  · rw [h12, sn (by omega), h10, sn (by omega), h8, sn (by omega), h6, sv]
  · rw [h12, sn (by omega), h10, sn (by omega), h8, sv]
  · rw [h12, sn (by omega), h10, sv]
  · rw [h12, sv]
theorem rc_i {a l h : Int32} (x : l ≤ a ∧ a ≤ h) : l.toInt ≤ a.toInt ∧ a.toInt ≤ h.toInt := ⟨Int32.le_iff_toInt_le.mp x.1, Int32.le_iff_toInt_le.mp x.2⟩
theorem loaf_l {N : Nat} {K len : Nat → Nat} {a : Int32} {σ : SG} {ρ : RG} (hQ : PR N K len ρ) (h : LSS σ σ ρ) : kp (F_X11_loaf a σ ρ) (fun q => ∀ (τ : SG) (ρ' : RG), RT σ τ → kp (F_X12_loaf a τ ρ') (fun q' => LSS q.2 q'.2 ρ)) := by
  have e : ∀ τ : SG, RT σ τ → LSS σ τ ρ := fun τ t => lss_keep hQ h cl_refl (rlv_rt t)
  unfold F_X11_loaf
  refine kp_bn (kp_ok wi_0) (fun r1 h1 => kp_ih (fun c => kp_some (fun τ ρ' t => ?_)) (fun c => kp_bn k_starts (fun σ3 h3 => kp_some (fun τ ρ' t => ?_))))
  · have n : ¬ ((40 : Int32) ≤ a ∧ a ≤ (999 : Int32)) := fun q => h1.2.mpr q c
    unfold F_X12_loaf
    refine kp_bn (kp_ok in_0) (fun r g => kp_ih (fun _ => kp_some (e τ t)) (fun z => absurd (g.2.mp z) n))
  · have y := h1.2.mp c
    unfold F_X12_loaf
    refine kp_bn (kp_ok in_0) (fun r g => kp_ih (fun z => absurd z (g.2.mpr y)) (fun _ => kp_nm (fun τ4 g4 => kp_nm (fun τ6 g6 => kp_nm (fun τ8 g8 => kp_nm (fun τ10 g10 => kp_nm (fun τ12 g12 => kp_nm (fun τ14 g14 => kp_some ?_))))))))
    obtain ⟨s, s1, s2', s3, s4, s5⟩ := h3
    have u : ∀ r k, ¬ (r = 55 ∧ (k ≤ 4 ∨ k = 17)) → τ14 r k = τ r k := fun r k n => by rw [g14, sn (by omega), g12, sn (by omega), g10, sn (by omega), g8, sn (by omega), g6, sn (by omega), g4, sn (by omega)]
    have v0 : τ14 55 0 = a := by rw [g14, sn (by omega), g12, sn (by omega), g10, sn (by omega), g8, sn (by omega), g6, sv]
    have v1 : τ14 55 1 = 0 := by rw [g14, sn (by omega), g12, sn (by omega), g10, sn (by omega), g8, sv]
    have v2 : τ14 55 2 = 0 := by rw [g14, sn (by omega), g12, sn (by omega), g10, sv]
    have v3 : τ14 55 3 = 0 := by rw [g14, sn (by omega), g12, sv]
    have v4 : τ14 55 4 = 0 := by rw [g14, sv]
    obtain ⟨⟨x1, x2, x3, x4, x5, x6, x7⟩, f, i⟩ := e τ t
    show LSS σ3 τ14 ρ
    refine ⟨⟨fun k hk => ?_, ⟨?_, ?_, ?_⟩, fun j c hj hc => ?_, fun j hj hl => ?_, ⟨?_, ?_⟩, fun k hk => ?_, fun k hk => ?_⟩, ⟨?_, ?_⟩, lss_im hQ (e τ t) (fun k _ _ => s 16 k (by omega)) (s 14 7 (by omega)) (s 14 8 (by omega)) (fun r k _ _ => s r k (by omega)) (fun c _ _ => s c 5 (by omega)) (fun k _ => u 56 k (by omega)) (u 54 4 (by omega))⟩
    · rcases (show k = 0 ∨ k = 1 ∨ k = 2 ∨ k = 3 ∨ k = 4 by omega) with rfl | rfl | rfl | rfl | rfl
      · exact s1.trans v0.symm
      · exact s2'.trans v1.symm
      · exact s3.trans v2.symm
      · exact s4.trans v3.symm
      · exact s5.trans v4.symm
    · rw [v1]; exact ⟨by decide, by decide⟩
    · rw [v2]; exact ⟨by decide, by decide⟩
    · rw [v3]; exact ⟨by decide, by decide⟩
    · have := (pr_65 hQ (Or.inl rfl) hj hc).1
      rw [s c 5 (by omega), u 55 _ (by omega)]; exact x3 j c hj hc
    · rw [u 55 11 (by omega)] at hl; rw [u 55 _ (by omega)]; exact x4 j hj hl
    · rw [s 1 7 (by omega), u 55 _ (by omega)]; exact x5.1
    · rw [s 1 8 (by omega), u 55 _ (by omega)]; exact x5.2
    · rw [s 11 k (by omega), u 55 _ (by omega)]; exact x6 k hk
    · rw [s 12 k (by omega), s 13 k (by omega), u 55 _ (by omega), u 55 _ (by omega)]; exact x7 k hk
    · rw [u 54 17 (by omega)]; exact f.1
    · rw [u 54 18 (by omega)]; exact f.2
theorem week_l {N : Nat} {K len : Nat → Nat} {a : Int32} {σ : SG} {ρ : RG} (hQ : PR N K len ρ) (h : LSS σ σ ρ) (hw : σ 1 10 = σ 55 13) (r13 : rg (σ 55 13) 0 4) : kp (F_X11_week a σ ρ) (fun q => ∀ (τ : SG) (ρ' : RG), RT σ τ → kp (F_X12_week a τ ρ') (fun q' => LSS q.2 q'.2 ρ)) := by
  have e : ∀ τ : SG, RT σ τ → LSS σ τ ρ := fun τ t => lss_keep hQ h cl_refl (rlv_rt t)
  have e4 : (4 : Int32).toInt = 4 := rfl
  have e74 : (74 : Int32).toInt = 74 := rfl
  obtain ⟨b0, b4⟩ := r13
  have wt : ∀ τ : SG, RT σ τ → τ 55 13 = σ 55 13 := fun τ t => t 55 13 (by decide) (by decide)
  unfold F_X11_week
  refine kp_bn (kp_ok sl_0) (fun r1 h1 => kp_ih (fun c => kp_some (fun τ ρ' t => ?_)) (fun c => kp_ih (fun d => kp_gd (fun _ => kp_nm (fun σ6 h6 => kp_nm (fun x7 _ => kp_nm (fun σ9 h9 => kp_some (fun τ ρ' t => ?_)))))) (fun d => kp_some (fun τ ρ' t => ?_))))
  · have n : ¬ ((-99 : Int32) ≤ a ∧ a ≤ (99 : Int32)) := fun q => h1.mpr q c
    unfold F_X12_week
    exact kp_bn (kp_ok in_0) (fun r g => kp_ih (fun _ => kp_some (e τ t)) (fun z => absurd (g.2.mp z) n))
  · have y := h1.mp c
    have l := lt_i d
    rw [hw] at l h6
    unfold F_X12_week
    refine kp_bn (kp_ok in_0) (fun r g => kp_ih (fun z => absurd z (g.2.mpr y)) (fun _ => kp_ih (fun z => ?_) (fun _ => kp_nm (fun x4 g4 => kp_gd (fun _ => kp_nm (fun τ7 g7 => kp_nm (fun x8 _ => kp_nm (fun τ10 g10 => kp_some ?_))))))))
    · rw [wt τ t] at z; rw [z] at l; omega
    rw [wt τ t] at g4
    have q4 : x4.toNatClampNeg = 74 + (σ 55 13).toNatClampNeg := by
      have a := cl0 b0
      refine cn ?_
      rw [g4, ti_add (by omega) (by omega), e74]; omega
    rw [q4] at g7
    have m4 : (σ 55 13).toNatClampNeg < 4 := by have := cl0 b0; omega
    have s : ∀ r k, ¬ (r = 11 ∧ k = (σ 55 13).toNatClampNeg) → ¬ (r = 1 ∧ k = 10) → σ9 r k = σ r k := fun r k n n' => by rw [h9, sn n', h6, sn n]
    have u : ∀ r k, ¬ (r = 55 ∧ (k = 74 + (σ 55 13).toNatClampNeg ∨ k = 13)) → τ10 r k = τ r k := fun r k n => by rw [g10, sn (by omega), g7, sn (by omega)]
    obtain ⟨⟨x1, x2, x3, x4', x5, x6, x7⟩, f, i⟩ := e τ t
    show LSS σ9 τ10 ρ
    refine ⟨⟨fun k hk => ?_, ?_, fun j c hj hc => ?_, fun j hj hl => ?_, ⟨?_, ?_⟩, fun k hk => ?_, fun k hk => ?_⟩, ⟨?_, ?_⟩, lss_im hQ (e τ t) (fun k _ _ => s 16 k (by omega) (by omega)) (s 14 7 (by omega) (by omega)) (s 14 8 (by omega) (by omega)) (fun r k _ _ => s r k (by omega) (by omega)) (fun c _ _ => s c 5 (by omega) (by omega)) (fun k _ => u 56 k (by omega)) (u 54 4 (by omega))⟩
    · rw [s 3 _ (by omega) (by omega), u 55 k (by omega)]; exact x1 k hk
    · rw [u 55 1 (by omega), u 55 2 (by omega), u 55 3 (by omega)]; exact x2
    · have := (pr_65 hQ (Or.inl rfl) hj hc).1
      rw [s c 5 (by omega) (by omega), u 55 _ (by omega)]; exact x3 j c hj hc
    · rw [u 55 11 (by omega)] at hl; rw [u 55 _ (by omega)]; exact x4' j hj hl
    · rw [s 1 7 (by omega) (by omega), u 55 _ (by omega)]; exact x5.1
    · rw [s 1 8 (by omega) (by omega), u 55 _ (by omega)]; exact x5.2
    · by_cases z : k = (σ 55 13).toNatClampNeg
      · rw [h9, sn (by omega), h6, z, sv, g10, sn (by omega), g7, sv]
      · rw [s 11 k (by omega) (by omega), u 55 _ (by omega)]; exact x6 k hk
    · rw [s 12 k (by omega) (by omega), s 13 k (by omega) (by omega), u 55 _ (by omega), u 55 _ (by omega)]; exact x7 k hk
    · rw [u 54 17 (by omega)]; exact f.1
    · rw [u 54 18 (by omega)]; exact f.2
  · have y := h1.mp c
    have l := le_i (nlt d)
    rw [hw] at l
    unfold F_X12_week
    refine kp_bn (kp_ok in_0) (fun r g => kp_ih (fun z => absurd z (g.2.mpr y)) (fun _ => kp_ih (fun _ => kp_some (e τ t)) (fun z => ?_)))
    exact absurd ((wt τ t).trans (ieq (by rw [e4]; omega))) z
theorem book_l {N : Nat} {K len : Nat → Nat} {a b : Int32} {σ : SG} {ρ : RG} (hQ : PR N K len ρ) (h : LSS σ σ ρ) (R : RA K σ ρ) (hB0 : rg (σ 1 1) 0 6) (hw : σ 1 13 = σ 55 14) (r14 : rg (σ 55 14) 0 8) : kp (F_X11_book N K len a b σ ρ) (fun q => ∀ (τ : SG) (ρ' : RG), RT σ τ → kp (F_X12_book a b τ ρ') (fun q' => LSS q.2 q'.2 ρ)) := by
  have e : ∀ τ : SG, RT σ τ → LSS σ τ ρ := fun τ t => lss_keep hQ h cl_refl (rlv_rt t)
  have e8 : (8 : Int32).toInt = 8 := rfl
  have e78 : (78 : Int32).toInt = 78 := rfl
  have e86 : (86 : Int32).toInt = 86 := rfl
  obtain ⟨b0, b8⟩ := r14
  have t11 : σ 1 1 = σ 55 11 := R.1.1
  have wt : ∀ τ : SG, RT σ τ → τ 55 14 = σ 55 14 := fun τ t => t 55 14 (by decide) (by decide)
  have ic : ∀ (τ : SG) (ρ' : RG), RT σ τ → kp (F_X12_isCutter a τ ρ') (fun q => ¬ q = 0 ↔ (0 : Int32) ≤ a ∧ a < σ 1 1) := fun τ ρ' t => by
    have z := t 55 11 (by decide) (by decide)
    refine kp_mono (kp_ok (ic_12 (by rw [z, ← t11]; exact hB0))) (fun q hq => ?_)
    rw [z, ← t11] at hq; exact hq
  unfold F_X11_book
  refine kp_ih (fun c1 => kp_nm (fun σ18 h18 => kp_some (fun τ ρ' t => ?_))) (fun c1 => kp_bn (kp_ok (at_11 (N := N) (len := len) hB0 R)) (fun o2 h2 => ?_))
  · unfold F_X12_book
    refine kp_t c1 (kp_nm (fun τ19 g19 => kp_some (lss_keep hQ (e τ t) (fun r k p => ?_) ⟨fun k p => ?_, fun k _ => ?_, ?_, ?_, ?_⟩)))
    · unfold CLP at p
      show σ18 r k = _
      rw [h18, sn (by omega)]
    · unfold LV at p
      show τ19 55 k = _
      rw [g19, sn (by omega)]
    all_goals
      show τ19 _ _ = _
      rw [g19, sn (by omega)]
  · rcases h2 with ⟨rfl, n⟩ | ⟨c, j, rfl, v1, v2, hj, ej, hcj⟩
    · refine kp_some (fun τ ρ' t => ?_)
      unfold F_X12_book
      exact kp_f c1 (kp_bn (ic τ ρ' t) (fun r2 g2 => kp_ih (fun _ => kp_some (e τ t)) (fun z => absurd (g2.mp z) n)))
    · show kp (gd (isC N K c) _) _
      refine kp_gd (fun _ => kp_bn (kp_ok wi_0) (fun r4 h4 => ?_))
      have iy : ∀ (τ : SG) (ρ' : RG), RT σ τ → ∀ {β : Type} {X Y : Option β} {P : β → Prop}, kp Y P → kp (bn (F_X12_isCutter a τ ρ') fun r2 => if r2 = 0 then X else Y) P := fun τ ρ' t _ X Y P y => kp_bn (ic τ ρ' t) (fun r2 g2 => kp_f (g2.mpr ⟨v1, v2⟩) y)
      refine kp_ih (fun c4 => kp_some (fun τ ρ' t => ?_)) (fun c4 => kp_ih (fun c5 => kp_some (fun τ ρ' t => ?_)) (fun c5 => kp_ih (fun _ => ?_) (fun z => absurd (nle c5) z)))
      · have n : ¬ ((0 : Int32) ≤ b ∧ b ≤ (999 : Int32)) := fun q => h4.2.mpr q c4
        unfold F_X12_book
        exact kp_f c1 (iy τ ρ' t (kp_bn (kp_ok in_0) (fun r g => kp_ih (fun _ => kp_some (e τ t)) (fun z => absurd (g.2.mp z) n))))
      · have y := h4.2.mp c4
        have l := le_i c5
        rw [hw] at l
        unfold F_X12_book
        exact kp_f c1 (iy τ ρ' t (kp_bn (kp_ok in_0) (fun r g => kp_ih (fun z => absurd z (g.2.mpr y)) (fun _ => kp_ih (fun _ => kp_some (e τ t)) (fun z => absurd ((wt τ t).trans (ieq (by rw [e8]; omega))) z)))))
      · refine kp_gd (fun _ => kp_nm (fun σ10 h10 => kp_gd (fun _ => kp_nm (fun σ13 h13 => kp_nm (fun x14 _ => kp_nm (fun σ16 h16 => kp_some (fun τ ρ' t => ?_)))))))
        have y := h4.2.mp c4
        have l := lt_i (nle c5)
        rw [hw] at l h10 h13
        unfold F_X12_book
        refine kp_f c1 (iy τ ρ' t (kp_bn (kp_ok in_0) (fun r g => kp_ih (fun z => absurd z (g.2.mpr y)) (fun _ => kp_ih (fun z => ?_) (fun _ => kp_nm (fun x7 g7 => kp_gd (fun _ => kp_nm (fun τ10 g10 => kp_nm (fun x11 g11 => kp_gd (fun _ => kp_nm (fun τ14 g14 => kp_nm (fun x15 _ => kp_nm (fun τ17 g17 => kp_some ?_)))))))))))))
        · rw [wt τ t] at z; rw [z] at l; omega
        rw [wt τ t] at g7
        have cl := cl0 b0
        have q7 : x7.toNatClampNeg = 78 + (σ 55 14).toNatClampNeg := cn (by rw [g7, ti_add (by omega) (by omega), e78]; omega)
        rw [q7] at g10
        have w10 : τ10 55 14 = σ 55 14 := by rw [g10, sn (by omega), wt τ t]
        rw [w10] at g11
        have q11 : x11.toNatClampNeg = 86 + (σ 55 14).toNatClampNeg := cn (by rw [g11, ti_add (by omega) (by omega), e86]; omega)
        rw [q11] at g14
        have m8 : (σ 55 14).toNatClampNeg < 8 := by omega
        have s : ∀ r k, ¬ ((r = 12 ∨ r = 13) ∧ k = (σ 55 14).toNatClampNeg) → ¬ (r = 1 ∧ k = 13) → σ16 r k = σ r k := fun r k n n' => by rw [h16, sn n', h13, sn (by omega), h10, sn (by omega)]
        have u : ∀ r k, ¬ (r = 55 ∧ (k = 78 + (σ 55 14).toNatClampNeg ∨ k = 86 + (σ 55 14).toNatClampNeg ∨ k = 14)) → τ17 r k = τ r k := fun r k n => by rw [g17, sn (by omega), g14, sn (by omega), g10, sn (by omega)]
        obtain ⟨⟨x1, x2, x3, x4', x5, x6, x7'⟩, f, i⟩ := e τ t
        show LSS σ16 τ17 ρ
        refine ⟨⟨fun k hk => ?_, ?_, fun j c hj hc => ?_, fun j hj hl => ?_, ⟨?_, ?_⟩, fun k hk => ?_, fun k hk => ?_⟩, ⟨?_, ?_⟩, lss_im hQ (e τ t) (fun k _ _ => s 16 k (by omega) (by omega)) (s 14 7 (by omega) (by omega)) (s 14 8 (by omega) (by omega)) (fun r k _ _ => s r k (by omega) (by omega)) (fun c _ _ => s c 5 (by omega) (by omega)) (fun k _ => u 56 k (by omega)) (u 54 4 (by omega))⟩
        · rw [s 3 _ (by omega) (by omega), u 55 k (by omega)]; exact x1 k hk
        · rw [u 55 1 (by omega), u 55 2 (by omega), u 55 3 (by omega)]; exact x2
        · have := (pr_65 hQ (Or.inl rfl) hj hc).1
          rw [s c 5 (by omega) (by omega), u 55 _ (by omega)]; exact x3 j c hj hc
        · rw [u 55 11 (by omega)] at hl; rw [u 55 _ (by omega)]; exact x4' j hj hl
        · rw [s 1 7 (by omega) (by omega), u 55 _ (by omega)]; exact x5.1
        · rw [s 1 8 (by omega) (by omega), u 55 _ (by omega)]; exact x5.2
        · rw [s 11 k (by omega) (by omega), u 55 _ (by omega)]; exact x6 k hk
        · by_cases z : k = (σ 55 14).toNatClampNeg
          · refine ⟨?_, ?_⟩
            · rw [h16, sn (by omega), h13, sn (by omega), h10, z, sv, g17, sn (by omega), g14, sn (by omega), g10, sv]
            · rw [h16, sn (by omega), h13, z, sv, g17, sn (by omega), g14, sv]
          · rw [s 12 k (by omega) (by omega), s 13 k (by omega) (by omega), u 55 _ (by omega), u 55 _ (by omega)]; exact x7' k hk
        · rw [u 54 17 (by omega)]; exact f.1
        · rw [u 54 18 (by omega)]; exact f.2
