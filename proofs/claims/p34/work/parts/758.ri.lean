/-! PART 758.ri: printed by wip/gen/ri36.py: image and undo keep RA -/
theorem t3_16_3 {σ : SG} {ρ : RG} : kp (F_X3_takes 16 3 σ ρ) (fun q => q 16 0 = σ 3 0 ∧ KE 16 0 σ q) := by
  unfold F_X3_takes
  refine kp_nm (fun σ2 hσ2 => kp_nm (fun σ4 hσ4 => kp_nm (fun σ6 hσ6 => kp_nm (fun σ8 hσ8 => kp_nm (fun σ10 hσ10 => kp_nm (fun σ12 hσ12 => kp_nm (fun σ14 hσ14 => kp_nm (fun σ16 hσ16 => kp_nm (fun σ18 hσ18 => kp_some ?_)))))))))
  have kσ2 : KC σ2 σ2 := kc_refl _
  have kσ4 : KC σ2 σ4 := kc_trans kσ2 (by rw [hσ4]; exact kc_lit (by decide))
  have kσ6 : KC σ2 σ6 := kc_trans kσ4 (by rw [hσ6]; exact kc_lit (by decide))
  have kσ8 : KC σ2 σ8 := kc_trans kσ6 (by rw [hσ8]; exact kc_lit (by decide))
  have kσ10 : KC σ2 σ10 := kc_trans kσ8 (by rw [hσ10]; exact kc_lit (by decide))
  have kσ12 : KC σ2 σ12 := kc_trans kσ10 (by rw [hσ12]; exact kc_lit (by decide))
  have kσ14 : KC σ2 σ14 := kc_trans kσ12 (by rw [hσ14]; exact kc_lit (by decide))
  have kσ16 : KC σ2 σ16 := kc_trans kσ14 (by rw [hσ16]; exact kc_lit (by decide))
  have kσ18 : KC σ2 σ18 := kc_trans kσ16 (by rw [hσ18]; exact kc_lit (by decide))
  exact ⟨by rw [kσ18 16 0 rfl, s2_v hσ2], ke_ck (by rw [hσ2]; exact ke_set) kσ18⟩
theorem t3_3_16 {σ : SG} {ρ : RG} : kp (F_X3_takes 3 16 σ ρ) (fun q => q 3 0 = σ 16 0 ∧ KE 3 0 σ q) := by
  unfold F_X3_takes
  refine kp_nm (fun σ2 hσ2 => kp_nm (fun σ4 hσ4 => kp_nm (fun σ6 hσ6 => kp_nm (fun σ8 hσ8 => kp_nm (fun σ10 hσ10 => kp_nm (fun σ12 hσ12 => kp_nm (fun σ14 hσ14 => kp_nm (fun σ16 hσ16 => kp_nm (fun σ18 hσ18 => kp_some ?_)))))))))
  have kσ2 : KC σ2 σ2 := kc_refl _
  have kσ4 : KC σ2 σ4 := kc_trans kσ2 (by rw [hσ4]; exact kc_lit (by decide))
  have kσ6 : KC σ2 σ6 := kc_trans kσ4 (by rw [hσ6]; exact kc_lit (by decide))
  have kσ8 : KC σ2 σ8 := kc_trans kσ6 (by rw [hσ8]; exact kc_lit (by decide))
  have kσ10 : KC σ2 σ10 := kc_trans kσ8 (by rw [hσ10]; exact kc_lit (by decide))
  have kσ12 : KC σ2 σ12 := kc_trans kσ10 (by rw [hσ12]; exact kc_lit (by decide))
  have kσ14 : KC σ2 σ14 := kc_trans kσ12 (by rw [hσ14]; exact kc_lit (by decide))
  have kσ16 : KC σ2 σ16 := kc_trans kσ14 (by rw [hσ16]; exact kc_lit (by decide))
  have kσ18 : KC σ2 σ18 := kc_trans kσ16 (by rw [hσ18]; exact kc_lit (by decide))
  exact ⟨by rw [kσ18 3 0 rfl, s2_v hσ2], ke_ck (by rw [hσ2]; exact ke_set) kσ18⟩
/-- the table of A made from that of B, the whole of the loaf too -/
def TK (A B LA LB : Nat) (σ σ' : SG) : Prop := σ' A 10 = σ B 10 ∧ σ' A 13 = σ B 13 ∧ σ' LA 0 = σ LB 0 ∧ ∀ r k, kcP r k = true → ¬ (r = A ∧ (k = 10 ∨ k = 13)) → ¬ (r = LA ∧ k = 0) → σ' r k = σ r k
/-- the whole table of A made from that of B but the cutters: counters, loaf, board, tape, rows -/
def TKM (A B : Nat) (σ σ' : SG) : Prop := (∀ k, (k = 4 ∨ k = 6 ∨ k = 7 ∨ k = 8 ∨ k = 10 ∨ k = 13) → σ' A k = σ B k) ∧ (∀ k, k < 9 → σ' (A + 2) k = σ (B + 2) k) ∧ (∀ k, k < 3 → σ' (A + 4) k = σ (B + 4) k) ∧ (∀ k, k < 10 → σ' (A + 5) k = σ (B + 5) k) ∧ (∀ k, k < 10 → σ' (A + 6) k = σ (B + 6) k) ∧ (∀ k, k < 10 → σ' (A + 7) k = σ (B + 7) k) ∧ (∀ k, k < 100 → σ' (A + 8) k = σ (B + 8) k) ∧ (∀ k, k < 100 → σ' (A + 9) k = σ (B + 9) k) ∧ (∀ k, k < 4 → σ' (A + 10) k = σ (B + 10) k) ∧ (∀ k, k < 8 → σ' (A + 11) k = σ (B + 11) k) ∧ (∀ k, k < 8 → σ' (A + 12) k = σ (B + 12) k) ∧ ∀ r k, ¬ (r = A ∧ (k = 4 ∨ k = 6 ∨ k = 7 ∨ k = 8 ∨ k = 10 ∨ k = 13)) → ¬ (r = A + 2 ∨ (A + 4 ≤ r ∧ r ≤ A + 12)) → σ' r k = σ r k
theorem sX {σ : SG} {r k a b : Nat} {v : Int32} (h : ¬ (a = r ∧ b = k)) : s2 σ r k v a b = σ a b := by
  rw [s2_at]
  by_cases e : a = r
  · rw [if_pos e, if_neg (fun q => h ⟨e, q⟩), e]
  · rw [if_neg e]
theorem sY {σ : SG} {r k : Nat} {v : Int32} : s2 σ r k v r k = v := by rw [s2_at, if_pos rfl, if_pos rfl]
theorem k_tk3 {i j : Nat} {σ : SG} {ρ : RG} (n : i ≠ j) : kp (F_X3_takes i j σ ρ) (fun q => (∀ k, k < 9 → q i k = σ j k) ∧ ∀ r k, r ≠ i → q r k = σ r k) := by
  unfold F_X3_takes
  refine kp_nm (fun σ2 h2 => kp_nm (fun σ4 h4 => kp_nm (fun σ6 h6 => kp_nm (fun σ8 h8 => kp_nm (fun σ10 h10 => kp_nm (fun σ12 h12 => kp_nm (fun σ14 h14 => kp_nm (fun σ16 h16 => kp_nm (fun σ18 h18 => kp_some ?_)))))))))
  refine ⟨fun k hk => ?_, fun r k hr => by rw [h18, sX (by omega), h16, sX (by omega), h14, sX (by omega), h12, sX (by omega), h10, sX (by omega), h8, sX (by omega), h6, sX (by omega), h4, sX (by omega), h2, sX (by omega)]⟩
  have o2 : ∀ k, σ2 j k = σ j k := fun k => by rw [h2, sX (by omega)]
  have o4 : ∀ k, σ4 j k = σ j k := fun k => by rw [h4, sX (by omega), o2]
  have o6 : ∀ k, σ6 j k = σ j k := fun k => by rw [h6, sX (by omega), o4]
  have o8 : ∀ k, σ8 j k = σ j k := fun k => by rw [h8, sX (by omega), o6]
  have o10 : ∀ k, σ10 j k = σ j k := fun k => by rw [h10, sX (by omega), o8]
  have o12 : ∀ k, σ12 j k = σ j k := fun k => by rw [h12, sX (by omega), o10]
  have o14 : ∀ k, σ14 j k = σ j k := fun k => by rw [h14, sX (by omega), o12]
  have o16 : ∀ k, σ16 j k = σ j k := fun k => by rw [h16, sX (by omega), o14]
  rcases (show k = 0 ∨ k = 1 ∨ k = 2 ∨ k = 3 ∨ k = 4 ∨ k = 5 ∨ k = 6 ∨ k = 7 ∨ k = 8 by omega) with rfl | rfl | rfl | rfl | rfl | rfl | rfl | rfl | rfl
  · rw [h18, sX (by omega), h16, sX (by omega), h14, sX (by omega), h12, sX (by omega), h10, sX (by omega), h8, sX (by omega), h6, sX (by omega), h4, sX (by omega), h2, sY]
  · rw [h18, sX (by omega), h16, sX (by omega), h14, sX (by omega), h12, sX (by omega), h10, sX (by omega), h8, sX (by omega), h6, sX (by omega), h4, sY, o2]
  · rw [h18, sX (by omega), h16, sX (by omega), h14, sX (by omega), h12, sX (by omega), h10, sX (by omega), h8, sX (by omega), h6, sY, o4]
  · rw [h18, sX (by omega), h16, sX (by omega), h14, sX (by omega), h12, sX (by omega), h10, sX (by omega), h8, sY, o6]
  · rw [h18, sX (by omega), h16, sX (by omega), h14, sX (by omega), h12, sX (by omega), h10, sY, o8]
  · rw [h18, sX (by omega), h16, sX (by omega), h14, sX (by omega), h12, sY, o10]
  · rw [h18, sX (by omega), h16, sX (by omega), h14, sY, o12]
  · rw [h18, sX (by omega), h16, sY, o14]
  · rw [h18, sY, o16]
theorem k_tkb_18 {σ : SG} {ρ : RG} : kp (F_X0_takes_18_5 σ ρ) (fun q => (∀ r k, ¬ (18 ≤ r ∧ r ≤ 22) → q r k = σ r k) ∧ (∀ k, k < 3 → q 18 k = σ 5 k) ∧ (∀ k, k < 10 → q 19 k = σ 6 k) ∧ (∀ k, k < 10 → q 20 k = σ 7 k) ∧ (∀ k, k < 10 → q 21 k = σ 8 k) ∧ (∀ k, k < 100 → q 22 k = σ 9 k)) := by
  unfold F_X0_takes_18_5
  refine kp_nm (fun σ2 h2 => kp_nm (fun σ4 h4 => kp_nm (fun σ6 h6 => kp_nm (fun σ8 h8 => kp_gd (fun _ => kp_nm (fun σ9 h9 => kp_nm (fun σ10 h10 => kp_nm (fun σ11 h11 => kp_nm (fun σ12 h12 => kp_some ?_)))))))))
  have n8 : ∀ r k, r ≠ 18 → σ8 r k = σ r k := fun r k n => by rw [h8, sX (by omega), h6, sX (by omega), h4, sX (by omega), h2, sX (by omega)]
  have c9 : ∀ r k, σ9 r k = if r = 19 then (if k < 10 then σ8 6 k else σ8 19 k) else σ8 r k := fun r k => by rw [h9, cpy_at]
  have c10 : ∀ r k, σ10 r k = if r = 20 then (if k < 10 then σ9 7 k else σ9 20 k) else σ9 r k := fun r k => by rw [h10, cpy_at]
  have c11 : ∀ r k, σ11 r k = if r = 21 then (if k < 10 then σ10 8 k else σ10 21 k) else σ10 r k := fun r k => by rw [h11, cpy_at]
  have c12 : ∀ r k, σ12 r k = if r = 22 then (if k < 100 then σ11 9 k else σ11 22 k) else σ11 r k := fun r k => by rw [h12, cpy_at]
  refine ⟨fun r k n => ?_, fun k hk => ?_, fun k hk => ?_, fun k hk => ?_, fun k hk => ?_, fun k hk => ?_⟩
  · rw [c12, if_neg (by omega), c11, if_neg (by omega), c10, if_neg (by omega), c9, if_neg (by omega), n8 r k (by omega)]
  · rw [c12, if_neg (by omega), c11, if_neg (by omega), c10, if_neg (by omega), c9, if_neg (by omega), h8, sX (by omega), h6]
    rcases (show k = 0 ∨ k = 1 ∨ k = 2 by omega) with rfl | rfl | rfl
    · rw [sX (by omega), h4, sX (by omega), h2, sY]
    · rw [sX (by omega), h4, sY, h2, sX (by omega)]
    · rw [sY, h4, sX (by omega), h2, sX (by omega)]
  · rw [c12, if_neg (by omega), c11, if_neg (by omega), c10, if_neg (by omega), c9, if_pos rfl, if_pos hk, n8 6 k (by omega)]
  · rw [c12, if_neg (by omega), c11, if_neg (by omega), c10, if_pos rfl, if_pos hk, c9, if_neg (by omega), n8 7 k (by omega)]
  · rw [c12, if_neg (by omega), c11, if_pos rfl, if_pos hk, c10, if_neg (by omega), c9, if_neg (by omega), n8 8 k (by omega)]
  · rw [c12, if_pos rfl, if_pos hk, c11, if_neg (by omega), c10, if_neg (by omega), c9, if_neg (by omega), n8 9 k (by omega)]
theorem k_tkb_5 {σ : SG} {ρ : RG} : kp (F_X0_takes_5_18 σ ρ) (fun q => (∀ r k, ¬ (5 ≤ r ∧ r ≤ 9) → q r k = σ r k) ∧ (∀ k, k < 3 → q 5 k = σ 18 k) ∧ (∀ k, k < 10 → q 6 k = σ 19 k) ∧ (∀ k, k < 10 → q 7 k = σ 20 k) ∧ (∀ k, k < 10 → q 8 k = σ 21 k) ∧ (∀ k, k < 100 → q 9 k = σ 22 k)) := by
  unfold F_X0_takes_5_18
  refine kp_nm (fun σ2 h2 => kp_nm (fun σ4 h4 => kp_nm (fun σ6 h6 => kp_nm (fun σ8 h8 => kp_gd (fun _ => kp_nm (fun σ9 h9 => kp_nm (fun σ10 h10 => kp_nm (fun σ11 h11 => kp_nm (fun σ12 h12 => kp_some ?_)))))))))
  have n8 : ∀ r k, r ≠ 5 → σ8 r k = σ r k := fun r k n => by rw [h8, sX (by omega), h6, sX (by omega), h4, sX (by omega), h2, sX (by omega)]
  have c9 : ∀ r k, σ9 r k = if r = 6 then (if k < 10 then σ8 19 k else σ8 6 k) else σ8 r k := fun r k => by rw [h9, cpy_at]
  have c10 : ∀ r k, σ10 r k = if r = 7 then (if k < 10 then σ9 20 k else σ9 7 k) else σ9 r k := fun r k => by rw [h10, cpy_at]
  have c11 : ∀ r k, σ11 r k = if r = 8 then (if k < 10 then σ10 21 k else σ10 8 k) else σ10 r k := fun r k => by rw [h11, cpy_at]
  have c12 : ∀ r k, σ12 r k = if r = 9 then (if k < 100 then σ11 22 k else σ11 9 k) else σ11 r k := fun r k => by rw [h12, cpy_at]
  refine ⟨fun r k n => ?_, fun k hk => ?_, fun k hk => ?_, fun k hk => ?_, fun k hk => ?_, fun k hk => ?_⟩
  · rw [c12, if_neg (by omega), c11, if_neg (by omega), c10, if_neg (by omega), c9, if_neg (by omega), n8 r k (by omega)]
  · rw [c12, if_neg (by omega), c11, if_neg (by omega), c10, if_neg (by omega), c9, if_neg (by omega), h8, sX (by omega), h6]
    rcases (show k = 0 ∨ k = 1 ∨ k = 2 by omega) with rfl | rfl | rfl
    · rw [sX (by omega), h4, sX (by omega), h2, sY]
    · rw [sX (by omega), h4, sY, h2, sX (by omega)]
    · rw [sY, h4, sX (by omega), h2, sX (by omega)]
  · rw [c12, if_neg (by omega), c11, if_neg (by omega), c10, if_neg (by omega), c9, if_pos rfl, if_pos hk, n8 19 k (by omega)]
  · rw [c12, if_neg (by omega), c11, if_neg (by omega), c10, if_pos rfl, if_pos hk, c9, if_neg (by omega), n8 20 k (by omega)]
  · rw [c12, if_neg (by omega), c11, if_pos rfl, if_pos hk, c10, if_neg (by omega), c9, if_neg (by omega), n8 21 k (by omega)]
  · rw [c12, if_pos rfl, if_pos hk, c11, if_neg (by omega), c10, if_neg (by omega), c9, if_neg (by omega), n8 22 k (by omega)]
theorem tkm_14_1 {N : Nat} {K len : Nat → Nat} {σ : SG} {ρ : RG} : kp (F_X8_takes_14_1_10_6 N K len σ ρ) (fun q => TKM 14 1 σ q.2.2.2.2.1) := by
  unfold F_X8_takes_14_1_10_6
  refine kp_bn (k_tk3 (by decide)) (fun σ28 h28 => kp_bn k_tkb_18 (fun σ29 h29 => ?_))
  refine kp_nm (fun σ31 e31 => kp_nm (fun σ33 e33 => kp_nm (fun σ35 e35 => kp_nm (fun σ37 e37 => kp_nm (fun σ39 e39 => kp_nm (fun σ41 e41 => kp_gd (fun _ => kp_nm (fun σ42 e42 => kp_nm (fun σ43 e43 => kp_nm (fun σ44 e44 => kp_nm (fun σ45 e45 => kp_some ?_)))))))))))
  obtain ⟨f1, f2⟩ := h28
  obtain ⟨g1, g2, g3, g4, g5, g6⟩ := h29
  have o41 : ∀ r k, r ≠ 14 → σ41 r k = σ29 r k := fun r k n => by rw [e41, sX (by omega), e39, sX (by omega), e37, sX (by omega), e35, sX (by omega), e33, sX (by omega), e31, sX (by omega)]
  have c42 : ∀ r k, σ42 r k = if r = 23 then (if k < 100 then σ41 10 k else σ41 23 k) else σ41 r k := fun r k => by rw [e42, cpy_at]
  have c43 : ∀ r k, σ43 r k = if r = 24 then (if k < 4 then σ42 11 k else σ42 24 k) else σ42 r k := fun r k => by rw [e43, cpy_at]
  have c44 : ∀ r k, σ44 r k = if r = 25 then (if k < 8 then σ43 12 k else σ43 25 k) else σ43 r k := fun r k => by rw [e44, cpy_at]
  have c45 : ∀ r k, σ45 r k = if r = 26 then (if k < 8 then σ44 13 k else σ44 26 k) else σ44 r k := fun r k => by rw [e45, cpy_at]
  have x41 : ∀ r k, ¬ (23 ≤ r ∧ r ≤ 26) → σ45 r k = σ41 r k := fun r k n => by rw [c45, if_neg (by omega), c44, if_neg (by omega), c43, if_neg (by omega), c42, if_neg (by omega)]
  have y29 : ∀ r k, ¬ (16 = r) → ¬ (18 ≤ r ∧ r ≤ 22) → σ29 r k = σ r k := fun r k n n' => by rw [g1 r k (by omega), f2 r k (by omega)]
  refine (show TKM 14 1 σ σ45 from ⟨fun k hk => ?_, fun k hk => ?_, fun k hk => ?_, fun k hk => ?_, fun k hk => ?_, fun k hk => ?_, fun k hk => ?_, fun k hk => ?_, fun k hk => ?_, fun k hk => ?_, fun k hk => ?_, fun r k n n' => ?_⟩)
  · rw [x41 14 k (by omega)]
    have b : ∀ k, σ29 1 k = σ 1 k := fun k => y29 1 k (by omega) (by omega)
    rcases hk with rfl | rfl | rfl | rfl | rfl | rfl
    · rw [e41, sX (by omega), e39, sX (by omega), e37, sX (by omega), e35, sX (by omega), e33, sX (by omega), e31, sY, b]
    · rw [e41, sX (by omega), e39, sX (by omega), e37, sX (by omega), e35, sX (by omega), e33, sY, e31, sX (by omega), b]
    · rw [e41, sX (by omega), e39, sX (by omega), e37, sX (by omega), e35, sY, e33, sX (by omega), e31, sX (by omega), b]
    · rw [e41, sX (by omega), e39, sX (by omega), e37, sY, e35, sX (by omega), e33, sX (by omega), e31, sX (by omega), b]
    · rw [e41, sX (by omega), e39, sY, e37, sX (by omega), e35, sX (by omega), e33, sX (by omega), e31, sX (by omega), b]
    · rw [e41, sY, e39, sX (by omega), e37, sX (by omega), e35, sX (by omega), e33, sX (by omega), e31, sX (by omega), b]
  · show σ45 16 k = σ 3 k
    rw [x41 16 k (by omega), o41 16 k (by omega), g1 16 k (by omega), f1 k hk]
  · show σ45 18 k = σ 5 k
    rw [x41 18 k (by omega), o41 18 k (by omega), g2 k hk, f2 5 k (by omega)]
  · show σ45 19 k = σ 6 k
    rw [x41 19 k (by omega), o41 19 k (by omega), g3 k hk, f2 6 k (by omega)]
  · show σ45 20 k = σ 7 k
    rw [x41 20 k (by omega), o41 20 k (by omega), g4 k hk, f2 7 k (by omega)]
  · show σ45 21 k = σ 8 k
    rw [x41 21 k (by omega), o41 21 k (by omega), g5 k hk, f2 8 k (by omega)]
  · show σ45 22 k = σ 9 k
    rw [x41 22 k (by omega), o41 22 k (by omega), g6 k hk, f2 9 k (by omega)]
  · show σ45 23 k = σ 10 k
    rw [c45, if_neg (by omega), c44, if_neg (by omega), c43, if_neg (by omega), c42, if_pos rfl, if_pos hk, o41 10 k (by omega), y29 10 k (by omega) (by omega)]
  · show σ45 24 k = σ 11 k
    rw [c45, if_neg (by omega), c44, if_neg (by omega), c43, if_pos rfl, if_pos hk, c42, if_neg (by omega), o41 11 k (by omega), y29 11 k (by omega) (by omega)]
  · show σ45 25 k = σ 12 k
    rw [c45, if_neg (by omega), c44, if_pos rfl, if_pos hk, c43, if_neg (by omega), c42, if_neg (by omega), o41 12 k (by omega), y29 12 k (by omega) (by omega)]
  · show σ45 26 k = σ 13 k
    rw [c45, if_pos rfl, if_pos hk, c44, if_neg (by omega), c43, if_neg (by omega), c42, if_neg (by omega), o41 13 k (by omega), y29 13 k (by omega) (by omega)]
  · rw [x41 r k (by omega)]
    by_cases e : r = 14
    · rw [e41, sX (by omega), e39, sX (by omega), e37, sX (by omega), e35, sX (by omega), e33, sX (by omega), e31, sX (by omega), y29 r k (by omega) (by omega)]
    · rw [o41 r k e, y29 r k (by omega) (by omega)]
theorem tkm_1_14 {N : Nat} {K len : Nat → Nat} {σ : SG} {ρ : RG} : kp (F_X8_takes_1_14_10_6 N K len σ ρ) (fun q => TKM 1 14 σ q.2.2.2.2.1) := by
  unfold F_X8_takes_1_14_10_6
  refine kp_bn (k_tk3 (by decide)) (fun σ28 h28 => kp_bn k_tkb_5 (fun σ29 h29 => ?_))
  refine kp_nm (fun σ31 e31 => kp_nm (fun σ33 e33 => kp_nm (fun σ35 e35 => kp_nm (fun σ37 e37 => kp_nm (fun σ39 e39 => kp_nm (fun σ41 e41 => kp_gd (fun _ => kp_nm (fun σ42 e42 => kp_nm (fun σ43 e43 => kp_nm (fun σ44 e44 => kp_nm (fun σ45 e45 => kp_some ?_)))))))))))
  obtain ⟨f1, f2⟩ := h28
  obtain ⟨g1, g2, g3, g4, g5, g6⟩ := h29
  have o41 : ∀ r k, r ≠ 1 → σ41 r k = σ29 r k := fun r k n => by rw [e41, sX (by omega), e39, sX (by omega), e37, sX (by omega), e35, sX (by omega), e33, sX (by omega), e31, sX (by omega)]
  have c42 : ∀ r k, σ42 r k = if r = 10 then (if k < 100 then σ41 23 k else σ41 10 k) else σ41 r k := fun r k => by rw [e42, cpy_at]
  have c43 : ∀ r k, σ43 r k = if r = 11 then (if k < 4 then σ42 24 k else σ42 11 k) else σ42 r k := fun r k => by rw [e43, cpy_at]
  have c44 : ∀ r k, σ44 r k = if r = 12 then (if k < 8 then σ43 25 k else σ43 12 k) else σ43 r k := fun r k => by rw [e44, cpy_at]
  have c45 : ∀ r k, σ45 r k = if r = 13 then (if k < 8 then σ44 26 k else σ44 13 k) else σ44 r k := fun r k => by rw [e45, cpy_at]
  have x41 : ∀ r k, ¬ (10 ≤ r ∧ r ≤ 13) → σ45 r k = σ41 r k := fun r k n => by rw [c45, if_neg (by omega), c44, if_neg (by omega), c43, if_neg (by omega), c42, if_neg (by omega)]
  have y29 : ∀ r k, ¬ (3 = r) → ¬ (5 ≤ r ∧ r ≤ 9) → σ29 r k = σ r k := fun r k n n' => by rw [g1 r k (by omega), f2 r k (by omega)]
  refine (show TKM 1 14 σ σ45 from ⟨fun k hk => ?_, fun k hk => ?_, fun k hk => ?_, fun k hk => ?_, fun k hk => ?_, fun k hk => ?_, fun k hk => ?_, fun k hk => ?_, fun k hk => ?_, fun k hk => ?_, fun k hk => ?_, fun r k n n' => ?_⟩)
  · rw [x41 1 k (by omega)]
    have b : ∀ k, σ29 14 k = σ 14 k := fun k => y29 14 k (by omega) (by omega)
    rcases hk with rfl | rfl | rfl | rfl | rfl | rfl
    · rw [e41, sX (by omega), e39, sX (by omega), e37, sX (by omega), e35, sX (by omega), e33, sX (by omega), e31, sY, b]
    · rw [e41, sX (by omega), e39, sX (by omega), e37, sX (by omega), e35, sX (by omega), e33, sY, e31, sX (by omega), b]
    · rw [e41, sX (by omega), e39, sX (by omega), e37, sX (by omega), e35, sY, e33, sX (by omega), e31, sX (by omega), b]
    · rw [e41, sX (by omega), e39, sX (by omega), e37, sY, e35, sX (by omega), e33, sX (by omega), e31, sX (by omega), b]
    · rw [e41, sX (by omega), e39, sY, e37, sX (by omega), e35, sX (by omega), e33, sX (by omega), e31, sX (by omega), b]
    · rw [e41, sY, e39, sX (by omega), e37, sX (by omega), e35, sX (by omega), e33, sX (by omega), e31, sX (by omega), b]
  · show σ45 3 k = σ 16 k
    rw [x41 3 k (by omega), o41 3 k (by omega), g1 3 k (by omega), f1 k hk]
  · show σ45 5 k = σ 18 k
    rw [x41 5 k (by omega), o41 5 k (by omega), g2 k hk, f2 18 k (by omega)]
  · show σ45 6 k = σ 19 k
    rw [x41 6 k (by omega), o41 6 k (by omega), g3 k hk, f2 19 k (by omega)]
  · show σ45 7 k = σ 20 k
    rw [x41 7 k (by omega), o41 7 k (by omega), g4 k hk, f2 20 k (by omega)]
  · show σ45 8 k = σ 21 k
    rw [x41 8 k (by omega), o41 8 k (by omega), g5 k hk, f2 21 k (by omega)]
  · show σ45 9 k = σ 22 k
    rw [x41 9 k (by omega), o41 9 k (by omega), g6 k hk, f2 22 k (by omega)]
  · show σ45 10 k = σ 23 k
    rw [c45, if_neg (by omega), c44, if_neg (by omega), c43, if_neg (by omega), c42, if_pos rfl, if_pos hk, o41 23 k (by omega), y29 23 k (by omega) (by omega)]
  · show σ45 11 k = σ 24 k
    rw [c45, if_neg (by omega), c44, if_neg (by omega), c43, if_pos rfl, if_pos hk, c42, if_neg (by omega), o41 24 k (by omega), y29 24 k (by omega) (by omega)]
  · show σ45 12 k = σ 25 k
    rw [c45, if_neg (by omega), c44, if_pos rfl, if_pos hk, c43, if_neg (by omega), c42, if_neg (by omega), o41 25 k (by omega), y29 25 k (by omega) (by omega)]
  · show σ45 13 k = σ 26 k
    rw [c45, if_pos rfl, if_pos hk, c44, if_neg (by omega), c43, if_neg (by omega), c42, if_neg (by omega), o41 26 k (by omega), y29 26 k (by omega) (by omega)]
  · rw [x41 r k (by omega)]
    by_cases e : r = 1
    · rw [e41, sX (by omega), e39, sX (by omega), e37, sX (by omega), e35, sX (by omega), e33, sX (by omega), e31, sX (by omega), y29 r k (by omega) (by omega)]
    · rw [o41 r k e, y29 r k (by omega) (by omega)]
def CPE (T S N0 A B LA LB : Nat) (K0 : Nat → Nat) (σ0 : SG) (ρ0 : RG) (q : Unit × TT) : Prop := ∃ σ5, CP T S N0 6 K0 σ0 ρ0 q.2.1 q.2.2.1 σ5 q.2.2.2.2.2 ∧ PR q.2.1 q.2.2.1 q.2.2.2.1 q.2.2.2.2.2 ∧ TK A B LA LB σ5 q.2.2.2.2.1 ∧ TKM A B σ5 q.2.2.2.2.1
theorem tk_14_1 {N : Nat} {K len : Nat → Nat} {σ : SG} {ρ : RG} (hQ : PR N K len ρ) : kp (F_X8_takes_14_1_10_6 N K len σ ρ) (fun q => q.2.1 = N ∧ q.2.2.1 = K ∧ q.2.2.2.1 = len ∧ q.2.2.2.2.2 = ρ ∧ TK 14 1 16 3 σ q.2.2.2.2.1) := by
  unfold F_X8_takes_14_1_10_6
  refine kp_bn t3_16_3 (fun σ28 k28 => kp_bn (kk_X0_takes_18_5 hQ.1) (fun σ29 k29 => ?_))
  refine kp_nm (fun σ31 e31 => kp_nm (fun σ33 e33 => kp_nm (fun σ35 e35 => kp_nm (fun σ37 e37 => kp_nm (fun σ39 e39 => kp_nm (fun σ41 e41 => kp_gd (fun _ => kp_nm (fun σ42 e42 => kp_nm (fun σ43 e43 => kp_nm (fun σ44 e44 => kp_nm (fun σ45 e45 => kp_some ⟨rfl, rfl, rfl, rfl, ?_⟩)))))))))))
  obtain ⟨x28, y28⟩ := k28
  have k31 : KC σ28 σ31 := kc_trans k29 (by rw [e31]; exact kc_lit (by decide))
  have k33 : KC σ28 σ33 := kc_trans k31 (by rw [e33]; exact kc_lit (by decide))
  have k35 : KC σ28 σ35 := kc_trans k33 (by rw [e35]; exact kc_lit (by decide))
  have k37 : KC σ28 σ37 := kc_trans k35 (by rw [e37]; exact kc_lit (by decide))
  have k42 : KC σ41 σ42 := by rw [e42]; exact kc_cpy (by decide)
  have k43 : KC σ41 σ43 := kc_trans k42 (by rw [e43]; exact kc_cpy (by decide))
  have k44 : KC σ41 σ44 := kc_trans k43 (by rw [e44]; exact kc_cpy (by decide))
  have k45 : KC σ41 σ45 := kc_trans k44 (by rw [e45]; exact kc_cpy (by decide))
  show TK 14 1 16 3 σ σ45
  have b : ∀ r k, kcP r k = true → ¬ (r = 16 ∧ k = 0) → σ37 r k = σ r k := fun r k p q => (k37 r k p).trans (y28 r k p q)
  refine ⟨?_, ?_, ?_, fun r k p q q' => ?_⟩
  · rw [k45 14 10 rfl, s2_k e41 (by decide), s2_v e39, b 1 10 rfl (by decide)]
  · rw [k45 14 13 rfl, s2_v e41, s2_o e39 (by decide), b 1 13 rfl (by decide)]
  · rw [k45 16 0 rfl, s2_o e41 (by decide), s2_o e39 (by decide), k37 16 0 rfl, x28]
  · rw [k45 r k p, e41, s2_at]
    by_cases e : r = 14
    · rw [if_pos e, if_neg (fun z => q ⟨e, Or.inr z⟩), e39, s2_at, if_pos rfl, if_neg (fun z => q ⟨e, Or.inl z⟩), ← e, b r k p q']
    · rw [if_neg e, e39, s2_ne r e, b r k p q']
theorem atc_1 {a1 : Int32} {j : Nat} {σ : SG} {ρ : RG} (e : a1.toInt = (j : Int)) (hj : j < 6) (h : ρ 2 j = none ↔ (σ 1 1).toInt ≤ (j : Int)) : kp (F_X8_cutterAt_1 a1 σ ρ) (fun o => o = ρ 2 j) := by
  have z0 : (0 : Int32).toInt = 0 := rfl
  have z6 : (6 : Int32).toInt = 6 := rfl
  have ej : a1.toNatClampNeg = j := by show a1.toInt.toNat = j; omega
  unfold F_X8_cutterAt_1
  rw [if_neg (fun c => by have := Int32.lt_iff_toInt_lt.mp c; omega)]
  by_cases d : σ 1 1 ≤ a1
  · rw [if_pos d]
    have := Int32.le_iff_toInt_le.mp d
    exact kp_some (h.mpr (by omega)).symm
  · rw [if_neg d, if_neg (fun c => by have := Int32.le_iff_toInt_le.mp c; omega), ej]
    exact kp_gd (fun _ => kp_some rfl)
theorem cp_14_1_6 {N0 N : Nat} {K0 K len : Nat → Nat} {σ0 σ : SG} {ρ0 ρ : RG} (hQ : PR N K len ρ) (h : CP 15 2 N0 6 K0 σ0 ρ0 N K σ ρ) : kp (F_X8_takes_14_1_10_6 N K len σ ρ) (CPE 15 2 N0 14 1 16 3 K0 σ0 ρ0) := by
  refine kp_mono (kp_and (tk_14_1 hQ) tkm_14_1) (fun q zz => ?_)
  obtain ⟨z, zm⟩ := zz
  obtain ⟨u, N', K', L', σ', ρ'⟩ := q
  obtain ⟨z1, z2, z3, z4, z5⟩ := z
  change N' = N at z1
  change K' = K at z2
  change L' = len at z3
  change ρ' = ρ at z4
  subst z1 z2 z3 z4
  exact ⟨σ, h, hQ, z5, zm⟩
theorem cp_14_1_5 {m : Int} {N0 N : Nat} {K0 len0' K len : Nat → Nat} {σ0 σ : SG} {ρ0 ρ : RG} (hL0 : Lay N0 K0 len0' ρ0) (hck : ∀ j c, j < 6 → ρ0 2 j = some c → CK N0 K0 len0' ρ0 c) (hcnt : ∀ j : Nat, j < 6 → (ρ0 2 j = none ↔ (σ0 1 1).toInt ≤ (j : Int))) (hB : BX m σ) (hQ : PR N K len ρ) (h : CP 15 2 N0 5 K0 σ0 ρ0 N K σ ρ) : kp (F_X8_takes_14_1_10_5 N K len σ ρ) (CPE 15 2 N0 14 1 16 3 K0 σ0 ρ0) := by
  have n65 := hL0.1
  have eS : ρ 2 = ρ0 2 := h.1.2.2.2 2 (by omega) (by decide)
  have eB : σ 1 = σ0 1 := h.1.2.2.1 1 (by omega)
  unfold F_X8_takes_14_1_10_5
  refine kp_bn (atc_1 (j := 5) rfl (by decide) (by rw [eS, eB]; exact hcnt 5 (by decide))) (fun ov hv => ?_)
  rw [eS] at hv
  subst hv
  cases e : ρ0 2 5 with
  | none =>
    refine kp_nm (fun ρ1 e1 => ?_)
    rw [e1]
    exact cp_14_1_6 (pr_set hQ (Or.inr rfl) (fun c e => by cases e)) (cp_none (Or.inr rfl) n65 hQ h e)
  | some c =>
    have kc0 := hck 5 c (by decide) e
    have kc : CK N K len ρ c := by
      have c65 := ck_65 hL0 kc0.1
      have z : ρ 2 5 = some c := by rw [eS]; exact e
      exact hQ.2.2.1 5 c (by decide) z
    refine kp_gd (fun _ => kp_bnT (kp_and (kp_ok (s_v_twin kc hB hQ)) (kp_and (tw_v kc hQ) (fun q z => gr_twin kc hQ q z))) (fun c2 N2 K2 L2 σ2 ρ2 hh => kp_nm (fun ρ3 e3 => ?_)))
    obtain ⟨⟨h1, h3⟩, h4, h5⟩ := hh
    rw [e3]
    exact cp_14_1_6 (pr_set h1.2 (Or.inr rfl) (fun c e => by cases e; exact h3)) (cp_some (Or.inr rfl) hL0 kc0 hQ h e h4 h5)
theorem cp_14_1_4 {m : Int} {N0 N : Nat} {K0 len0' K len : Nat → Nat} {σ0 σ : SG} {ρ0 ρ : RG} (hL0 : Lay N0 K0 len0' ρ0) (hck : ∀ j c, j < 6 → ρ0 2 j = some c → CK N0 K0 len0' ρ0 c) (hcnt : ∀ j : Nat, j < 6 → (ρ0 2 j = none ↔ (σ0 1 1).toInt ≤ (j : Int))) (hB : BX m σ) (hQ : PR N K len ρ) (h : CP 15 2 N0 4 K0 σ0 ρ0 N K σ ρ) : kp (F_X8_takes_14_1_10_4 N K len σ ρ) (CPE 15 2 N0 14 1 16 3 K0 σ0 ρ0) := by
  have n65 := hL0.1
  have eS : ρ 2 = ρ0 2 := h.1.2.2.2 2 (by omega) (by decide)
  have eB : σ 1 = σ0 1 := h.1.2.2.1 1 (by omega)
  unfold F_X8_takes_14_1_10_4
  refine kp_bn (atc_1 (j := 4) rfl (by decide) (by rw [eS, eB]; exact hcnt 4 (by decide))) (fun ov hv => ?_)
  rw [eS] at hv
  subst hv
  cases e : ρ0 2 4 with
  | none =>
    refine kp_nm (fun ρ1 e1 => ?_)
    rw [e1]
    exact cp_14_1_5 hL0 hck hcnt hB (pr_set hQ (Or.inr rfl) (fun c e => by cases e)) (cp_none (Or.inr rfl) n65 hQ h e)
  | some c =>
    have kc0 := hck 4 c (by decide) e
    have kc : CK N K len ρ c := by
      have c65 := ck_65 hL0 kc0.1
      have z : ρ 2 4 = some c := by rw [eS]; exact e
      exact hQ.2.2.1 4 c (by decide) z
    refine kp_gd (fun _ => kp_bnT (kp_and (kp_ok (s_v_twin kc hB hQ)) (kp_and (tw_v kc hQ) (fun q z => gr_twin kc hQ q z))) (fun c2 N2 K2 L2 σ2 ρ2 hh => kp_nm (fun ρ3 e3 => ?_)))
    obtain ⟨⟨h1, h3⟩, h4, h5⟩ := hh
    rw [e3]
    exact cp_14_1_5 hL0 hck hcnt h1.1 (pr_set h1.2 (Or.inr rfl) (fun c e => by cases e; exact h3)) (cp_some (Or.inr rfl) hL0 kc0 hQ h e h4 h5)
theorem cp_14_1_3 {m : Int} {N0 N : Nat} {K0 len0' K len : Nat → Nat} {σ0 σ : SG} {ρ0 ρ : RG} (hL0 : Lay N0 K0 len0' ρ0) (hck : ∀ j c, j < 6 → ρ0 2 j = some c → CK N0 K0 len0' ρ0 c) (hcnt : ∀ j : Nat, j < 6 → (ρ0 2 j = none ↔ (σ0 1 1).toInt ≤ (j : Int))) (hB : BX m σ) (hQ : PR N K len ρ) (h : CP 15 2 N0 3 K0 σ0 ρ0 N K σ ρ) : kp (F_X8_takes_14_1_10_3 N K len σ ρ) (CPE 15 2 N0 14 1 16 3 K0 σ0 ρ0) := by
  have n65 := hL0.1
  have eS : ρ 2 = ρ0 2 := h.1.2.2.2 2 (by omega) (by decide)
  have eB : σ 1 = σ0 1 := h.1.2.2.1 1 (by omega)
  unfold F_X8_takes_14_1_10_3
  refine kp_bn (atc_1 (j := 3) rfl (by decide) (by rw [eS, eB]; exact hcnt 3 (by decide))) (fun ov hv => ?_)
  rw [eS] at hv
  subst hv
  cases e : ρ0 2 3 with
  | none =>
    refine kp_nm (fun ρ1 e1 => ?_)
    rw [e1]
    exact cp_14_1_4 hL0 hck hcnt hB (pr_set hQ (Or.inr rfl) (fun c e => by cases e)) (cp_none (Or.inr rfl) n65 hQ h e)
  | some c =>
    have kc0 := hck 3 c (by decide) e
    have kc : CK N K len ρ c := by
      have c65 := ck_65 hL0 kc0.1
      have z : ρ 2 3 = some c := by rw [eS]; exact e
      exact hQ.2.2.1 3 c (by decide) z
    refine kp_gd (fun _ => kp_bnT (kp_and (kp_ok (s_v_twin kc hB hQ)) (kp_and (tw_v kc hQ) (fun q z => gr_twin kc hQ q z))) (fun c2 N2 K2 L2 σ2 ρ2 hh => kp_nm (fun ρ3 e3 => ?_)))
    obtain ⟨⟨h1, h3⟩, h4, h5⟩ := hh
    rw [e3]
    exact cp_14_1_4 hL0 hck hcnt h1.1 (pr_set h1.2 (Or.inr rfl) (fun c e => by cases e; exact h3)) (cp_some (Or.inr rfl) hL0 kc0 hQ h e h4 h5)
theorem cp_14_1_2 {m : Int} {N0 N : Nat} {K0 len0' K len : Nat → Nat} {σ0 σ : SG} {ρ0 ρ : RG} (hL0 : Lay N0 K0 len0' ρ0) (hck : ∀ j c, j < 6 → ρ0 2 j = some c → CK N0 K0 len0' ρ0 c) (hcnt : ∀ j : Nat, j < 6 → (ρ0 2 j = none ↔ (σ0 1 1).toInt ≤ (j : Int))) (hB : BX m σ) (hQ : PR N K len ρ) (h : CP 15 2 N0 2 K0 σ0 ρ0 N K σ ρ) : kp (F_X8_takes_14_1_10_2 N K len σ ρ) (CPE 15 2 N0 14 1 16 3 K0 σ0 ρ0) := by
  have n65 := hL0.1
  have eS : ρ 2 = ρ0 2 := h.1.2.2.2 2 (by omega) (by decide)
  have eB : σ 1 = σ0 1 := h.1.2.2.1 1 (by omega)
  unfold F_X8_takes_14_1_10_2
  refine kp_bn (atc_1 (j := 2) rfl (by decide) (by rw [eS, eB]; exact hcnt 2 (by decide))) (fun ov hv => ?_)
  rw [eS] at hv
  subst hv
  cases e : ρ0 2 2 with
  | none =>
    refine kp_nm (fun ρ1 e1 => ?_)
    rw [e1]
    exact cp_14_1_3 hL0 hck hcnt hB (pr_set hQ (Or.inr rfl) (fun c e => by cases e)) (cp_none (Or.inr rfl) n65 hQ h e)
  | some c =>
    have kc0 := hck 2 c (by decide) e
    have kc : CK N K len ρ c := by
      have c65 := ck_65 hL0 kc0.1
      have z : ρ 2 2 = some c := by rw [eS]; exact e
      exact hQ.2.2.1 2 c (by decide) z
    refine kp_gd (fun _ => kp_bnT (kp_and (kp_ok (s_v_twin kc hB hQ)) (kp_and (tw_v kc hQ) (fun q z => gr_twin kc hQ q z))) (fun c2 N2 K2 L2 σ2 ρ2 hh => kp_nm (fun ρ3 e3 => ?_)))
    obtain ⟨⟨h1, h3⟩, h4, h5⟩ := hh
    rw [e3]
    exact cp_14_1_3 hL0 hck hcnt h1.1 (pr_set h1.2 (Or.inr rfl) (fun c e => by cases e; exact h3)) (cp_some (Or.inr rfl) hL0 kc0 hQ h e h4 h5)
theorem cp_14_1_1 {m : Int} {N0 N : Nat} {K0 len0' K len : Nat → Nat} {σ0 σ : SG} {ρ0 ρ : RG} (hL0 : Lay N0 K0 len0' ρ0) (hck : ∀ j c, j < 6 → ρ0 2 j = some c → CK N0 K0 len0' ρ0 c) (hcnt : ∀ j : Nat, j < 6 → (ρ0 2 j = none ↔ (σ0 1 1).toInt ≤ (j : Int))) (hB : BX m σ) (hQ : PR N K len ρ) (h : CP 15 2 N0 1 K0 σ0 ρ0 N K σ ρ) : kp (F_X8_takes_14_1_10_1 N K len σ ρ) (CPE 15 2 N0 14 1 16 3 K0 σ0 ρ0) := by
  have n65 := hL0.1
  have eS : ρ 2 = ρ0 2 := h.1.2.2.2 2 (by omega) (by decide)
  have eB : σ 1 = σ0 1 := h.1.2.2.1 1 (by omega)
  unfold F_X8_takes_14_1_10_1
  refine kp_bn (atc_1 (j := 1) rfl (by decide) (by rw [eS, eB]; exact hcnt 1 (by decide))) (fun ov hv => ?_)
  rw [eS] at hv
  subst hv
  cases e : ρ0 2 1 with
  | none =>
    refine kp_nm (fun ρ1 e1 => ?_)
    rw [e1]
    exact cp_14_1_2 hL0 hck hcnt hB (pr_set hQ (Or.inr rfl) (fun c e => by cases e)) (cp_none (Or.inr rfl) n65 hQ h e)
  | some c =>
    have kc0 := hck 1 c (by decide) e
    have kc : CK N K len ρ c := by
      have c65 := ck_65 hL0 kc0.1
      have z : ρ 2 1 = some c := by rw [eS]; exact e
      exact hQ.2.2.1 1 c (by decide) z
    refine kp_gd (fun _ => kp_bnT (kp_and (kp_ok (s_v_twin kc hB hQ)) (kp_and (tw_v kc hQ) (fun q z => gr_twin kc hQ q z))) (fun c2 N2 K2 L2 σ2 ρ2 hh => kp_nm (fun ρ3 e3 => ?_)))
    obtain ⟨⟨h1, h3⟩, h4, h5⟩ := hh
    rw [e3]
    exact cp_14_1_2 hL0 hck hcnt h1.1 (pr_set h1.2 (Or.inr rfl) (fun c e => by cases e; exact h3)) (cp_some (Or.inr rfl) hL0 kc0 hQ h e h4 h5)
theorem cp_14_1_0 {m : Int} {N0 N : Nat} {K0 len0' K len : Nat → Nat} {σ0 σ : SG} {ρ0 ρ : RG} (hL0 : Lay N0 K0 len0' ρ0) (hck : ∀ j c, j < 6 → ρ0 2 j = some c → CK N0 K0 len0' ρ0 c) (hcnt : ∀ j : Nat, j < 6 → (ρ0 2 j = none ↔ (σ0 1 1).toInt ≤ (j : Int))) (hB : BX m σ) (hQ : PR N K len ρ) (h : CP 15 2 N0 0 K0 σ0 ρ0 N K σ ρ) : kp (F_X8_takes_14_1_10_0 N K len σ ρ) (CPE 15 2 N0 14 1 16 3 K0 σ0 ρ0) := by
  have n65 := hL0.1
  have eS : ρ 2 = ρ0 2 := h.1.2.2.2 2 (by omega) (by decide)
  have eB : σ 1 = σ0 1 := h.1.2.2.1 1 (by omega)
  unfold F_X8_takes_14_1_10_0
  refine kp_bn (atc_1 (j := 0) rfl (by decide) (by rw [eS, eB]; exact hcnt 0 (by decide))) (fun ov hv => ?_)
  rw [eS] at hv
  subst hv
  cases e : ρ0 2 0 with
  | none =>
    refine kp_nm (fun ρ1 e1 => ?_)
    rw [e1]
    exact cp_14_1_1 hL0 hck hcnt hB (pr_set hQ (Or.inr rfl) (fun c e => by cases e)) (cp_none (Or.inr rfl) n65 hQ h e)
  | some c =>
    have kc0 := hck 0 c (by decide) e
    have kc : CK N K len ρ c := by
      have c65 := ck_65 hL0 kc0.1
      have z : ρ 2 0 = some c := by rw [eS]; exact e
      exact hQ.2.2.1 0 c (by decide) z
    refine kp_gd (fun _ => kp_bnT (kp_and (kp_ok (s_v_twin kc hB hQ)) (kp_and (tw_v kc hQ) (fun q z => gr_twin kc hQ q z))) (fun c2 N2 K2 L2 σ2 ρ2 hh => kp_nm (fun ρ3 e3 => ?_)))
    obtain ⟨⟨h1, h3⟩, h4, h5⟩ := hh
    rw [e3]
    exact cp_14_1_1 hL0 hck hcnt h1.1 (pr_set h1.2 (Or.inr rfl) (fun c e => by cases e; exact h3)) (cp_some (Or.inr rfl) hL0 kc0 hQ h e h4 h5)
theorem tk_1_14 {N : Nat} {K len : Nat → Nat} {σ : SG} {ρ : RG} (hQ : PR N K len ρ) : kp (F_X8_takes_1_14_10_6 N K len σ ρ) (fun q => q.2.1 = N ∧ q.2.2.1 = K ∧ q.2.2.2.1 = len ∧ q.2.2.2.2.2 = ρ ∧ TK 1 14 3 16 σ q.2.2.2.2.1) := by
  unfold F_X8_takes_1_14_10_6
  refine kp_bn t3_3_16 (fun σ28 k28 => kp_bn (kk_X0_takes_5_18 hQ.1) (fun σ29 k29 => ?_))
  refine kp_nm (fun σ31 e31 => kp_nm (fun σ33 e33 => kp_nm (fun σ35 e35 => kp_nm (fun σ37 e37 => kp_nm (fun σ39 e39 => kp_nm (fun σ41 e41 => kp_gd (fun _ => kp_nm (fun σ42 e42 => kp_nm (fun σ43 e43 => kp_nm (fun σ44 e44 => kp_nm (fun σ45 e45 => kp_some ⟨rfl, rfl, rfl, rfl, ?_⟩)))))))))))
  obtain ⟨x28, y28⟩ := k28
  have k31 : KC σ28 σ31 := kc_trans k29 (by rw [e31]; exact kc_lit (by decide))
  have k33 : KC σ28 σ33 := kc_trans k31 (by rw [e33]; exact kc_lit (by decide))
  have k35 : KC σ28 σ35 := kc_trans k33 (by rw [e35]; exact kc_lit (by decide))
  have k37 : KC σ28 σ37 := kc_trans k35 (by rw [e37]; exact kc_lit (by decide))
  have k42 : KC σ41 σ42 := by rw [e42]; exact kc_cpy (by decide)
  have k43 : KC σ41 σ43 := kc_trans k42 (by rw [e43]; exact kc_cpy (by decide))
  have k44 : KC σ41 σ44 := kc_trans k43 (by rw [e44]; exact kc_cpy (by decide))
  have k45 : KC σ41 σ45 := kc_trans k44 (by rw [e45]; exact kc_cpy (by decide))
  show TK 1 14 3 16 σ σ45
  have b : ∀ r k, kcP r k = true → ¬ (r = 3 ∧ k = 0) → σ37 r k = σ r k := fun r k p q => (k37 r k p).trans (y28 r k p q)
  refine ⟨?_, ?_, ?_, fun r k p q q' => ?_⟩
  · rw [k45 1 10 rfl, s2_k e41 (by decide), s2_v e39, b 14 10 rfl (by decide)]
  · rw [k45 1 13 rfl, s2_v e41, s2_o e39 (by decide), b 14 13 rfl (by decide)]
  · rw [k45 3 0 rfl, s2_o e41 (by decide), s2_o e39 (by decide), k37 3 0 rfl, x28]
  · rw [k45 r k p, e41, s2_at]
    by_cases e : r = 1
    · rw [if_pos e, if_neg (fun z => q ⟨e, Or.inr z⟩), e39, s2_at, if_pos rfl, if_neg (fun z => q ⟨e, Or.inl z⟩), ← e, b r k p q']
    · rw [if_neg e, e39, s2_ne r e, b r k p q']
theorem atc_14 {a1 : Int32} {j : Nat} {σ : SG} {ρ : RG} (e : a1.toInt = (j : Int)) (hj : j < 6) (h : ρ 15 j = none ↔ (σ 14 1).toInt ≤ (j : Int)) : kp (F_X8_cutterAt_14 a1 σ ρ) (fun o => o = ρ 15 j) := by
  have z0 : (0 : Int32).toInt = 0 := rfl
  have z6 : (6 : Int32).toInt = 6 := rfl
  have ej : a1.toNatClampNeg = j := by show a1.toInt.toNat = j; omega
  unfold F_X8_cutterAt_14
  rw [if_neg (fun c => by have := Int32.lt_iff_toInt_lt.mp c; omega)]
  by_cases d : σ 14 1 ≤ a1
  · rw [if_pos d]
    have := Int32.le_iff_toInt_le.mp d
    exact kp_some (h.mpr (by omega)).symm
  · rw [if_neg d, if_neg (fun c => by have := Int32.le_iff_toInt_le.mp c; omega), ej]
    exact kp_gd (fun _ => kp_some rfl)
theorem cp_1_14_6 {N0 N : Nat} {K0 K len : Nat → Nat} {σ0 σ : SG} {ρ0 ρ : RG} (hQ : PR N K len ρ) (h : CP 2 15 N0 6 K0 σ0 ρ0 N K σ ρ) : kp (F_X8_takes_1_14_10_6 N K len σ ρ) (CPE 2 15 N0 1 14 3 16 K0 σ0 ρ0) := by
  refine kp_mono (kp_and (tk_1_14 hQ) tkm_1_14) (fun q zz => ?_)
  obtain ⟨z, zm⟩ := zz
  obtain ⟨u, N', K', L', σ', ρ'⟩ := q
  obtain ⟨z1, z2, z3, z4, z5⟩ := z
  change N' = N at z1
  change K' = K at z2
  change L' = len at z3
  change ρ' = ρ at z4
  subst z1 z2 z3 z4
  exact ⟨σ, h, hQ, z5, zm⟩
theorem cp_1_14_5 {m : Int} {N0 N : Nat} {K0 len0' K len : Nat → Nat} {σ0 σ : SG} {ρ0 ρ : RG} (hL0 : Lay N0 K0 len0' ρ0) (hck : ∀ j c, j < 6 → ρ0 15 j = some c → CK N0 K0 len0' ρ0 c) (hcnt : ∀ j : Nat, j < 6 → (ρ0 15 j = none ↔ (σ0 14 1).toInt ≤ (j : Int))) (hB : BX m σ) (hQ : PR N K len ρ) (h : CP 2 15 N0 5 K0 σ0 ρ0 N K σ ρ) : kp (F_X8_takes_1_14_10_5 N K len σ ρ) (CPE 2 15 N0 1 14 3 16 K0 σ0 ρ0) := by
  have n65 := hL0.1
  have eS : ρ 15 = ρ0 15 := h.1.2.2.2 15 (by omega) (by decide)
  have eB : σ 14 = σ0 14 := h.1.2.2.1 14 (by omega)
  unfold F_X8_takes_1_14_10_5
  refine kp_bn (atc_14 (j := 5) rfl (by decide) (by rw [eS, eB]; exact hcnt 5 (by decide))) (fun ov hv => ?_)
  rw [eS] at hv
  subst hv
  cases e : ρ0 15 5 with
  | none =>
    refine kp_nm (fun ρ1 e1 => ?_)
    rw [e1]
    exact cp_1_14_6 (pr_set hQ (Or.inl rfl) (fun c e => by cases e)) (cp_none (Or.inl rfl) n65 hQ h e)
  | some c =>
    have kc0 := hck 5 c (by decide) e
    have kc : CK N K len ρ c := by
      have c65 := ck_65 hL0 kc0.1
      have z : ρ 15 5 = some c := by rw [eS]; exact e
      exact hQ.2.2.2.1 5 c (by decide) z
    refine kp_gd (fun _ => kp_bnT (kp_and (kp_ok (s_v_twin kc hB hQ)) (kp_and (tw_v kc hQ) (fun q z => gr_twin kc hQ q z))) (fun c2 N2 K2 L2 σ2 ρ2 hh => kp_nm (fun ρ3 e3 => ?_)))
    obtain ⟨⟨h1, h3⟩, h4, h5⟩ := hh
    rw [e3]
    exact cp_1_14_6 (pr_set h1.2 (Or.inl rfl) (fun c e => by cases e; exact h3)) (cp_some (Or.inl rfl) hL0 kc0 hQ h e h4 h5)
theorem cp_1_14_4 {m : Int} {N0 N : Nat} {K0 len0' K len : Nat → Nat} {σ0 σ : SG} {ρ0 ρ : RG} (hL0 : Lay N0 K0 len0' ρ0) (hck : ∀ j c, j < 6 → ρ0 15 j = some c → CK N0 K0 len0' ρ0 c) (hcnt : ∀ j : Nat, j < 6 → (ρ0 15 j = none ↔ (σ0 14 1).toInt ≤ (j : Int))) (hB : BX m σ) (hQ : PR N K len ρ) (h : CP 2 15 N0 4 K0 σ0 ρ0 N K σ ρ) : kp (F_X8_takes_1_14_10_4 N K len σ ρ) (CPE 2 15 N0 1 14 3 16 K0 σ0 ρ0) := by
  have n65 := hL0.1
  have eS : ρ 15 = ρ0 15 := h.1.2.2.2 15 (by omega) (by decide)
  have eB : σ 14 = σ0 14 := h.1.2.2.1 14 (by omega)
  unfold F_X8_takes_1_14_10_4
  refine kp_bn (atc_14 (j := 4) rfl (by decide) (by rw [eS, eB]; exact hcnt 4 (by decide))) (fun ov hv => ?_)
  rw [eS] at hv
  subst hv
  cases e : ρ0 15 4 with
  | none =>
    refine kp_nm (fun ρ1 e1 => ?_)
    rw [e1]
    exact cp_1_14_5 hL0 hck hcnt hB (pr_set hQ (Or.inl rfl) (fun c e => by cases e)) (cp_none (Or.inl rfl) n65 hQ h e)
  | some c =>
    have kc0 := hck 4 c (by decide) e
    have kc : CK N K len ρ c := by
      have c65 := ck_65 hL0 kc0.1
      have z : ρ 15 4 = some c := by rw [eS]; exact e
      exact hQ.2.2.2.1 4 c (by decide) z
    refine kp_gd (fun _ => kp_bnT (kp_and (kp_ok (s_v_twin kc hB hQ)) (kp_and (tw_v kc hQ) (fun q z => gr_twin kc hQ q z))) (fun c2 N2 K2 L2 σ2 ρ2 hh => kp_nm (fun ρ3 e3 => ?_)))
    obtain ⟨⟨h1, h3⟩, h4, h5⟩ := hh
    rw [e3]
    exact cp_1_14_5 hL0 hck hcnt h1.1 (pr_set h1.2 (Or.inl rfl) (fun c e => by cases e; exact h3)) (cp_some (Or.inl rfl) hL0 kc0 hQ h e h4 h5)
theorem cp_1_14_3 {m : Int} {N0 N : Nat} {K0 len0' K len : Nat → Nat} {σ0 σ : SG} {ρ0 ρ : RG} (hL0 : Lay N0 K0 len0' ρ0) (hck : ∀ j c, j < 6 → ρ0 15 j = some c → CK N0 K0 len0' ρ0 c) (hcnt : ∀ j : Nat, j < 6 → (ρ0 15 j = none ↔ (σ0 14 1).toInt ≤ (j : Int))) (hB : BX m σ) (hQ : PR N K len ρ) (h : CP 2 15 N0 3 K0 σ0 ρ0 N K σ ρ) : kp (F_X8_takes_1_14_10_3 N K len σ ρ) (CPE 2 15 N0 1 14 3 16 K0 σ0 ρ0) := by
  have n65 := hL0.1
  have eS : ρ 15 = ρ0 15 := h.1.2.2.2 15 (by omega) (by decide)
  have eB : σ 14 = σ0 14 := h.1.2.2.1 14 (by omega)
  unfold F_X8_takes_1_14_10_3
  refine kp_bn (atc_14 (j := 3) rfl (by decide) (by rw [eS, eB]; exact hcnt 3 (by decide))) (fun ov hv => ?_)
  rw [eS] at hv
  subst hv
  cases e : ρ0 15 3 with
  | none =>
    refine kp_nm (fun ρ1 e1 => ?_)
    rw [e1]
    exact cp_1_14_4 hL0 hck hcnt hB (pr_set hQ (Or.inl rfl) (fun c e => by cases e)) (cp_none (Or.inl rfl) n65 hQ h e)
  | some c =>
    have kc0 := hck 3 c (by decide) e
    have kc : CK N K len ρ c := by
      have c65 := ck_65 hL0 kc0.1
      have z : ρ 15 3 = some c := by rw [eS]; exact e
      exact hQ.2.2.2.1 3 c (by decide) z
    refine kp_gd (fun _ => kp_bnT (kp_and (kp_ok (s_v_twin kc hB hQ)) (kp_and (tw_v kc hQ) (fun q z => gr_twin kc hQ q z))) (fun c2 N2 K2 L2 σ2 ρ2 hh => kp_nm (fun ρ3 e3 => ?_)))
    obtain ⟨⟨h1, h3⟩, h4, h5⟩ := hh
    rw [e3]
    exact cp_1_14_4 hL0 hck hcnt h1.1 (pr_set h1.2 (Or.inl rfl) (fun c e => by cases e; exact h3)) (cp_some (Or.inl rfl) hL0 kc0 hQ h e h4 h5)
theorem cp_1_14_2 {m : Int} {N0 N : Nat} {K0 len0' K len : Nat → Nat} {σ0 σ : SG} {ρ0 ρ : RG} (hL0 : Lay N0 K0 len0' ρ0) (hck : ∀ j c, j < 6 → ρ0 15 j = some c → CK N0 K0 len0' ρ0 c) (hcnt : ∀ j : Nat, j < 6 → (ρ0 15 j = none ↔ (σ0 14 1).toInt ≤ (j : Int))) (hB : BX m σ) (hQ : PR N K len ρ) (h : CP 2 15 N0 2 K0 σ0 ρ0 N K σ ρ) : kp (F_X8_takes_1_14_10_2 N K len σ ρ) (CPE 2 15 N0 1 14 3 16 K0 σ0 ρ0) := by
  have n65 := hL0.1
  have eS : ρ 15 = ρ0 15 := h.1.2.2.2 15 (by omega) (by decide)
  have eB : σ 14 = σ0 14 := h.1.2.2.1 14 (by omega)
  unfold F_X8_takes_1_14_10_2
  refine kp_bn (atc_14 (j := 2) rfl (by decide) (by rw [eS, eB]; exact hcnt 2 (by decide))) (fun ov hv => ?_)
  rw [eS] at hv
  subst hv
  cases e : ρ0 15 2 with
  | none =>
    refine kp_nm (fun ρ1 e1 => ?_)
    rw [e1]
    exact cp_1_14_3 hL0 hck hcnt hB (pr_set hQ (Or.inl rfl) (fun c e => by cases e)) (cp_none (Or.inl rfl) n65 hQ h e)
  | some c =>
    have kc0 := hck 2 c (by decide) e
    have kc : CK N K len ρ c := by
      have c65 := ck_65 hL0 kc0.1
      have z : ρ 15 2 = some c := by rw [eS]; exact e
      exact hQ.2.2.2.1 2 c (by decide) z
    refine kp_gd (fun _ => kp_bnT (kp_and (kp_ok (s_v_twin kc hB hQ)) (kp_and (tw_v kc hQ) (fun q z => gr_twin kc hQ q z))) (fun c2 N2 K2 L2 σ2 ρ2 hh => kp_nm (fun ρ3 e3 => ?_)))
    obtain ⟨⟨h1, h3⟩, h4, h5⟩ := hh
    rw [e3]
    exact cp_1_14_3 hL0 hck hcnt h1.1 (pr_set h1.2 (Or.inl rfl) (fun c e => by cases e; exact h3)) (cp_some (Or.inl rfl) hL0 kc0 hQ h e h4 h5)
theorem cp_1_14_1 {m : Int} {N0 N : Nat} {K0 len0' K len : Nat → Nat} {σ0 σ : SG} {ρ0 ρ : RG} (hL0 : Lay N0 K0 len0' ρ0) (hck : ∀ j c, j < 6 → ρ0 15 j = some c → CK N0 K0 len0' ρ0 c) (hcnt : ∀ j : Nat, j < 6 → (ρ0 15 j = none ↔ (σ0 14 1).toInt ≤ (j : Int))) (hB : BX m σ) (hQ : PR N K len ρ) (h : CP 2 15 N0 1 K0 σ0 ρ0 N K σ ρ) : kp (F_X8_takes_1_14_10_1 N K len σ ρ) (CPE 2 15 N0 1 14 3 16 K0 σ0 ρ0) := by
  have n65 := hL0.1
  have eS : ρ 15 = ρ0 15 := h.1.2.2.2 15 (by omega) (by decide)
  have eB : σ 14 = σ0 14 := h.1.2.2.1 14 (by omega)
  unfold F_X8_takes_1_14_10_1
  refine kp_bn (atc_14 (j := 1) rfl (by decide) (by rw [eS, eB]; exact hcnt 1 (by decide))) (fun ov hv => ?_)
  rw [eS] at hv
  subst hv
  cases e : ρ0 15 1 with
  | none =>
    refine kp_nm (fun ρ1 e1 => ?_)
    rw [e1]
    exact cp_1_14_2 hL0 hck hcnt hB (pr_set hQ (Or.inl rfl) (fun c e => by cases e)) (cp_none (Or.inl rfl) n65 hQ h e)
  | some c =>
    have kc0 := hck 1 c (by decide) e
    have kc : CK N K len ρ c := by
      have c65 := ck_65 hL0 kc0.1
      have z : ρ 15 1 = some c := by rw [eS]; exact e
      exact hQ.2.2.2.1 1 c (by decide) z
    refine kp_gd (fun _ => kp_bnT (kp_and (kp_ok (s_v_twin kc hB hQ)) (kp_and (tw_v kc hQ) (fun q z => gr_twin kc hQ q z))) (fun c2 N2 K2 L2 σ2 ρ2 hh => kp_nm (fun ρ3 e3 => ?_)))
    obtain ⟨⟨h1, h3⟩, h4, h5⟩ := hh
    rw [e3]
    exact cp_1_14_2 hL0 hck hcnt h1.1 (pr_set h1.2 (Or.inl rfl) (fun c e => by cases e; exact h3)) (cp_some (Or.inl rfl) hL0 kc0 hQ h e h4 h5)
theorem cp_1_14_0 {m : Int} {N0 N : Nat} {K0 len0' K len : Nat → Nat} {σ0 σ : SG} {ρ0 ρ : RG} (hL0 : Lay N0 K0 len0' ρ0) (hck : ∀ j c, j < 6 → ρ0 15 j = some c → CK N0 K0 len0' ρ0 c) (hcnt : ∀ j : Nat, j < 6 → (ρ0 15 j = none ↔ (σ0 14 1).toInt ≤ (j : Int))) (hB : BX m σ) (hQ : PR N K len ρ) (h : CP 2 15 N0 0 K0 σ0 ρ0 N K σ ρ) : kp (F_X8_takes_1_14_10_0 N K len σ ρ) (CPE 2 15 N0 1 14 3 16 K0 σ0 ρ0) := by
  have n65 := hL0.1
  have eS : ρ 15 = ρ0 15 := h.1.2.2.2 15 (by omega) (by decide)
  have eB : σ 14 = σ0 14 := h.1.2.2.1 14 (by omega)
  unfold F_X8_takes_1_14_10_0
  refine kp_bn (atc_14 (j := 0) rfl (by decide) (by rw [eS, eB]; exact hcnt 0 (by decide))) (fun ov hv => ?_)
  rw [eS] at hv
  subst hv
  cases e : ρ0 15 0 with
  | none =>
    refine kp_nm (fun ρ1 e1 => ?_)
    rw [e1]
    exact cp_1_14_1 hL0 hck hcnt hB (pr_set hQ (Or.inl rfl) (fun c e => by cases e)) (cp_none (Or.inl rfl) n65 hQ h e)
  | some c =>
    have kc0 := hck 0 c (by decide) e
    have kc : CK N K len ρ c := by
      have c65 := ck_65 hL0 kc0.1
      have z : ρ 15 0 = some c := by rw [eS]; exact e
      exact hQ.2.2.2.1 0 c (by decide) z
    refine kp_gd (fun _ => kp_bnT (kp_and (kp_ok (s_v_twin kc hB hQ)) (kp_and (tw_v kc hQ) (fun q z => gr_twin kc hQ q z))) (fun c2 N2 K2 L2 σ2 ρ2 hh => kp_nm (fun ρ3 e3 => ?_)))
    obtain ⟨⟨h1, h3⟩, h4, h5⟩ := hh
    rw [e3]
    exact cp_1_14_1 hL0 hck hcnt h1.1 (pr_set h1.2 (Or.inl rfl) (fun c e => by cases e; exact h3)) (cp_some (Or.inl rfl) hL0 kc0 hQ h e h4 h5)
theorem made_cu {T S A B rT rS N0 N : Nat} {K0 len0' K len : Nat → Nat} {σ0 σ5 σ6 : SG} {ρ0 ρ : RG} (hT : T = 2 ∨ T = 15) (hck : ∀ j c, j < 6 → ρ0 S j = some c → CK N0 K0 len0' ρ0 c) (hQ : PR N K len ρ) (h : CP T S N0 6 K0 σ0 ρ0 N K σ5 ρ) (cu : CU S B rS σ0 ρ0 K0) (hA : σ6 A 1 = σ0 B 1) (hr : ∀ k, 20 ≤ k → k ≤ 73 → σ6 rT k = σ0 rS k) (hc : ∀ r k, 65 ≤ r → k ≠ 5 → σ6 r k = σ5 r k) : CU T A rT σ6 ρ K := by
  intro j hj
  obtain ⟨x, y⟩ := h.2.2 j hj hj
  obtain ⟨u, v⟩ := cu j hj
  refine ⟨by rw [hA]; exact x.trans u, fun c' hc' => ?_⟩
  cases e : ρ0 S j with
  | none => rw [x.mpr e] at hc'; cases hc'
  | some c =>
    obtain ⟨t1, t2, t3, t4, t5, t6, t7⟩ := y c c' e hc'
    obtain ⟨⟨f1, f2, f3, f4, f5, f6⟩, f7⟩ := v c e
    have kc' : CK N K len ρ c' := by
      rcases hT with rfl | rfl
      · exact hQ.2.2.1 j c' hj hc'
      · exact hQ.2.2.2.1 j c' hj hc'
    have c65 := ck_65 hQ.1 kc'.1
    refine ⟨⟨by rw [t1, hr (20 + j) (by omega) (by omega)]; exact f1, by rw [hc c' 1 c65 (by decide), hr (26 + j) (by omega) (by omega), t2]; exact f2, by rw [hc c' 2 c65 (by decide), hr (32 + j) (by omega) (by omega), t3]; exact f3, by rw [hc c' 3 c65 (by decide), hr (38 + j) (by omega) (by omega), t4]; exact f4, by rw [hc c' 4 c65 (by decide), hr (44 + j) (by omega) (by omega), t5]; exact f5, fun k9 d' hd' q hq => ?_⟩, by rw [hc c' 0 c65 (by decide), t7.1]; exact f7⟩
    rw [t1] at k9
    obtain ⟨d, hd, -, -⟩ := (hck j c hj e).2 k9
    have d65 := (ck_d kc' (t1.trans k9) hd').2
    rw [hc d' q d65 (by omega), hr (50 + 4 * j + q) (by omega) (by omega), t6 k9 d d' hd hd' q hq]
    exact f6 k9 d hd q hq
