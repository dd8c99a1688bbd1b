/-! PART 754.re: printed by wip/gen/re36.py: the maker's values; cutter -/
def IV (t : Nat) (a1 a2 a3 a4 a5 : Int32) (q : SG) : Prop := q t 0 = a1 ∧ q t 1 = a2 ∧ q t 2 = a3 ∧ q t 3 = a4 ∧ q t 4 = a5
theorem iv_X1_1 {t : Nat} {a1 a2 a3 a4 a5 : Int32} {σ : SG} {ρ : RG} : kp (F_X1_init_k1 t a1 a2 a3 a4 a5 σ ρ) (IV t a1 a2 a3 a4 a5) := by
  unfold F_X1_init_k1
  refine kp_nm (fun σ2 h2 => kp_nm (fun σ4 h4 => kp_nm (fun σ6 h6 => kp_nm (fun σ8 h8 => kp_nm (fun σ10 h10 => kp_some ⟨?_, ?_, ?_, ?_, ?_⟩)))))
  · rw [s2_k h10 (by decide), s2_k h8 (by decide), s2_k h6 (by decide), s2_k h4 (by decide), s2_v h2]
  · rw [s2_k h10 (by decide), s2_k h8 (by decide), s2_k h6 (by decide), s2_v h4]
  · rw [s2_k h10 (by decide), s2_k h8 (by decide), s2_v h6]
  · rw [s2_k h10 (by decide), s2_v h8]
  · rw [s2_v h10]
theorem iv_X1_2 {t : Nat} {a1 a2 a3 a4 a5 : Int32} {σ : SG} {ρ : RG} : kp (F_X1_init_k2 t a1 a2 a3 a4 a5 σ ρ) (IV t a1 a2 a3 a4 a5) := by
  unfold F_X1_init_k2
  refine kp_nm (fun σ2 h2 => kp_nm (fun σ4 h4 => kp_nm (fun σ6 h6 => kp_nm (fun σ8 h8 => kp_nm (fun σ10 h10 => kp_some ⟨?_, ?_, ?_, ?_, ?_⟩)))))
  · rw [s2_k h10 (by decide), s2_k h8 (by decide), s2_k h6 (by decide), s2_k h4 (by decide), s2_v h2]
  · rw [s2_k h10 (by decide), s2_k h8 (by decide), s2_k h6 (by decide), s2_v h4]
  · rw [s2_k h10 (by decide), s2_k h8 (by decide), s2_v h6]
  · rw [s2_k h10 (by decide), s2_v h8]
  · rw [s2_v h10]
theorem iv_X1_4 {t : Nat} {a1 a2 a3 a4 a5 : Int32} {σ : SG} {ρ : RG} : kp (F_X1_init_k4 t a1 a2 a3 a4 a5 σ ρ) (IV t a1 a2 a3 a4 a5) := by
  unfold F_X1_init_k4
  refine kp_nm (fun σ2 h2 => kp_nm (fun σ4 h4 => kp_nm (fun σ6 h6 => kp_nm (fun σ8 h8 => kp_nm (fun σ10 h10 => kp_some ⟨?_, ?_, ?_, ?_, ?_⟩)))))
  · rw [s2_k h10 (by decide), s2_k h8 (by decide), s2_k h6 (by decide), s2_k h4 (by decide), s2_v h2]
  · rw [s2_k h10 (by decide), s2_k h8 (by decide), s2_k h6 (by decide), s2_v h4]
  · rw [s2_k h10 (by decide), s2_k h8 (by decide), s2_v h6]
  · rw [s2_k h10 (by decide), s2_v h8]
  · rw [s2_v h10]
theorem iv_X1_5 {t : Nat} {a1 a2 a3 a4 a5 : Int32} {σ : SG} {ρ : RG} : kp (F_X1_init_k5 t a1 a2 a3 a4 a5 σ ρ) (IV t a1 a2 a3 a4 a5) := by
  unfold F_X1_init_k5
  refine kp_nm (fun σ2 h2 => kp_nm (fun σ4 h4 => kp_nm (fun σ6 h6 => kp_nm (fun σ8 h8 => kp_nm (fun σ10 h10 => kp_some ⟨?_, ?_, ?_, ?_, ?_⟩)))))
  · rw [s2_k h10 (by decide), s2_k h8 (by decide), s2_k h6 (by decide), s2_k h4 (by decide), s2_v h2]
  · rw [s2_k h10 (by decide), s2_k h8 (by decide), s2_k h6 (by decide), s2_v h4]
  · rw [s2_k h10 (by decide), s2_k h8 (by decide), s2_v h6]
  · rw [s2_k h10 (by decide), s2_v h8]
  · rw [s2_v h10]
theorem iv_X1_6 {t : Nat} {a1 a2 a3 a4 a5 : Int32} {σ : SG} {ρ : RG} : kp (F_X1_init_k6 t a1 a2 a3 a4 a5 σ ρ) (IV t a1 a2 a3 a4 a5) := by
  unfold F_X1_init_k6
  refine kp_nm (fun σ2 h2 => kp_nm (fun σ4 h4 => kp_nm (fun σ6 h6 => kp_nm (fun σ8 h8 => kp_nm (fun σ10 h10 => kp_some ⟨?_, ?_, ?_, ?_, ?_⟩)))))
  · rw [s2_k h10 (by decide), s2_k h8 (by decide), s2_k h6 (by decide), s2_k h4 (by decide), s2_v h2]
  · rw [s2_k h10 (by decide), s2_k h8 (by decide), s2_k h6 (by decide), s2_v h4]
  · rw [s2_k h10 (by decide), s2_k h8 (by decide), s2_v h6]
  · rw [s2_k h10 (by decide), s2_v h8]
  · rw [s2_v h10]
theorem iv_X1_7 {t : Nat} {a1 a2 a3 a4 a5 : Int32} {σ : SG} {ρ : RG} : kp (F_X1_init_k7 t a1 a2 a3 a4 a5 σ ρ) (IV t a1 a2 a3 a4 a5) := by
  unfold F_X1_init_k7
  refine kp_nm (fun σ2 h2 => kp_nm (fun σ4 h4 => kp_nm (fun σ6 h6 => kp_nm (fun σ8 h8 => kp_nm (fun σ10 h10 => kp_some ⟨?_, ?_, ?_, ?_, ?_⟩)))))
  · rw [s2_k h10 (by decide), s2_k h8 (by decide), s2_k h6 (by decide), s2_k h4 (by decide), s2_v h2]
  · rw [s2_k h10 (by decide), s2_k h8 (by decide), s2_k h6 (by decide), s2_v h4]
  · rw [s2_k h10 (by decide), s2_k h8 (by decide), s2_v h6]
  · rw [s2_k h10 (by decide), s2_v h8]
  · rw [s2_v h10]
theorem iv_X1_9 {t : Nat} {a1 a2 a3 a4 a5 : Int32} {σ : SG} {ρ : RG} : kp (F_X1_init_k9 t a1 a2 a3 a4 a5 σ ρ) (IV t a1 a2 a3 a4 a5) := by
  unfold F_X1_init_k9
  refine kp_nm (fun σ2 h2 => kp_nm (fun σ4 h4 => kp_nm (fun σ6 h6 => kp_nm (fun σ8 h8 => kp_nm (fun σ10 h10 => kp_some ⟨?_, ?_, ?_, ?_, ?_⟩)))))
  · rw [s2_k h10 (by decide), s2_k h8 (by decide), s2_k h6 (by decide), s2_k h4 (by decide), s2_v h2]
  · rw [s2_k h10 (by decide), s2_k h8 (by decide), s2_k h6 (by decide), s2_v h4]
  · rw [s2_k h10 (by decide), s2_k h8 (by decide), s2_v h6]
  · rw [s2_k h10 (by decide), s2_v h8]
  · rw [s2_v h10]
theorem iv_X7_7 {t : Nat} {a1 a2 a3 a4 a5 : Int32} {σ : SG} {ρ : RG} : kp (F_X7_init_k7 t a1 a2 a3 a4 a5 σ ρ) (IV t a1 a2 a3 a4 a5) := by
  unfold F_X7_init_k7
  exact kp_bn iv_X1_7 (fun σ1 h => kp_some h)
theorem iv_X7_5 {t : Nat} {a1 a2 a3 a4 a5 : Int32} {σ : SG} {ρ : RG} : kp (F_X7_init_k5 t a1 a2 a3 a4 a5 σ ρ) (IV t a1 a2 a3 a4 a5) := by
  unfold F_X7_init_k5
  exact kp_bn iv_X1_5 (fun σ1 h => kp_some h)
theorem iv_X6_6 {t : Nat} {a1 a2 a3 a4 a5 : Int32} {σ : SG} {ρ : RG} : kp (F_X6_init_k6 t a1 a2 a3 a4 a5 σ ρ) (IV t a1 a2 a3 a4 a5) := by
  unfold F_X6_init_k6
  exact kp_bn iv_X1_6 (fun σ1 h => kp_some h)
theorem iv_X6_4 {t : Nat} {a1 a2 a3 a4 a5 : Int32} {σ : SG} {ρ : RG} : kp (F_X6_init_k4 t a1 a2 a3 a4 a5 σ ρ) (IV t a1 a2 a3 a4 a5) := by
  unfold F_X6_init_k4
  exact kp_bn iv_X1_4 (fun σ1 h => kp_some h)
theorem iv_X2_2 {t : Nat} {a1 a2 a3 a4 a5 : Int32} {σ : SG} {ρ : RG} : kp (F_X2_init_k2 t a1 a2 a3 a4 a5 σ ρ) (IV t a1 a2 a3 a4 a5) := by
  unfold F_X2_init_k2
  exact kp_bn iv_X1_2 (fun σ1 h => kp_some h)
theorem iv_X2_9 {t : Nat} {a1 a2 a3 a4 a5 : Int32} {σ : SG} {ρ : RG} : kp (F_X2_init_k9 t a1 a2 a3 a4 a5 σ ρ) (IV t a1 a2 a3 a4 a5) := by
  unfold F_X2_init_k9
  exact kp_bn iv_X1_9 (fun σ1 h => kp_some h)
theorem iv_X5_5 {t : Nat} {a1 a2 a3 a4 a5 : Int32} {σ : SG} {ρ : RG} : kp (F_X5_init_k5 t a1 a2 a3 a4 a5 σ ρ) (IV t a1 a2 a3 a4 a5) := by
  unfold F_X5_init_k5
  exact kp_bn iv_X7_5 (fun σ1 h => kp_some h)
theorem iv_X4_4 {t : Nat} {a1 a2 a3 a4 a5 : Int32} {σ : SG} {ρ : RG} : kp (F_X4_init_k4 t a1 a2 a3 a4 a5 σ ρ) (IV t a1 a2 a3 a4 a5) := by
  unfold F_X4_init_k4
  exact kp_bn iv_X6_4 (fun σ1 h => kp_some h)
/-- the cutter with digits: its fields, its row of fours -/
theorem iv_X9_9 {t N : Nat} {K len : Nat → Nat} {a1 a2 a3 a4 a5 : Int32} {σ : SG} {ρ : RG} (ht : t ≠ N) : kp (F_X9_init_k9 t a1 a2 a3 a4 a5 N K len σ ρ) (fun q => IV t a1 a2 a3 a4 a5 q.2.2.2.2.1 ∧ ∀ k, k < 4 → q.2.2.2.2.1 N k = 4) := by
  unfold F_X9_init_k9
  refine kp_bn iv_X2_9 (fun σ1 h1 => kp_nm (fun K2 e1 => kp_nm (fun L2 e2 => kp_nm (fun σ2 h2 => kp_nm (fun ρ2 e3 => kp_nm (fun σ4 h4 => kp_nm (fun σ6 h6 => kp_nm (fun σ8 h8 => kp_nm (fun σ10 h10 => kp_nm (fun ρ11 e4 => kp_some ?_))))))))))
  have n : σ10 t = σ1 t := by rw [s2_lt h10 ht, s2_lt h8 ht, s2_lt h6 ht, s2_lt h4 ht, h2, va_up_ne _ _ ht]
  refine ⟨?_, fun k hk => ?_⟩
  · show IV t a1 a2 a3 a4 a5 σ10
    unfold IV
    rw [n]
    exact h1
  · show σ10 N k = 4
    have hh : k = 0 ∨ k = 1 ∨ k = 2 ∨ k = 3 := by omega
    rcases hh with rfl | rfl | rfl | rfl
    · rw [s2_k h10 (by decide), s2_k h8 (by decide), s2_k h6 (by decide), s2_v h4]
    · rw [s2_k h10 (by decide), s2_k h8 (by decide), s2_v h6]
    · rw [s2_k h10 (by decide), s2_v h8]
    · rw [s2_v h10]
def kof (a : Int32) : Nat := if a = 1 then 7 else if a = 2 then 6 else if a = 3 then 2 else if a = 4 then 5 else if a = 5 then 4 else if a = 6 then 9 else 1
theorem kno_kof {a : Int32} (h : rg a 0 6) : kno (kof a) = a := by
  have h1 := h.1
  have h2 := h.2
  have hh : a = 0 ∨ a = 1 ∨ a = 2 ∨ a = 3 ∨ a = 4 ∨ a = 5 ∨ a = 6 := by
    have h3 : a.toInt = 0 ∨ a.toInt = 1 ∨ a.toInt = 2 ∨ a.toInt = 3 ∨ a.toInt = 4 ∨ a.toInt = 5 ∨ a.toInt = 6 := by omega
    rcases h3 with h | h | h | h | h | h | h
    · exact Or.inl (Int32.toInt_inj.mp (by rw [h]; rfl))
    · exact Or.inr (Or.inl (Int32.toInt_inj.mp (by rw [h]; rfl)))
    · exact Or.inr (Or.inr (Or.inl (Int32.toInt_inj.mp (by rw [h]; rfl))))
    · exact Or.inr (Or.inr (Or.inr (Or.inl (Int32.toInt_inj.mp (by rw [h]; rfl)))))
    · exact Or.inr (Or.inr (Or.inr (Or.inr (Or.inl (Int32.toInt_inj.mp (by rw [h]; rfl))))))
    · exact Or.inr (Or.inr (Or.inr (Or.inr (Or.inr (Or.inl (Int32.toInt_inj.mp (by rw [h]; rfl)))))))
    · exact Or.inr (Or.inr (Or.inr (Or.inr (Or.inr (Or.inr (Int32.toInt_inj.mp (by rw [h]; rfl)))))))
  rcases hh with rfl | rfl | rfl | rfl | rfl | rfl | rfl <;> decide
/-- the new cutter's values -/
def MV (a1 a2 a3 a4 a5 a6 : Int32) (N : Nat) (q : Nat × TT) : Prop := q.1 = N ∧ q.2.2.1 N = kof a1 ∧ IV N a2 a3 a4 a5 a6 q.2.2.2.2.1 ∧ (kof a1 = 9 → ∃ d, N < d ∧ q.2.2.2.2.2 N 6 = some d ∧ ∀ k, k < 4 → q.2.2.2.2.1 d k = 4)
theorem mv_newCutter {N : Nat} {K len : Nat → Nat} {a1 a2 a3 a4 a5 a6 : Int32} {σ : SG} {ρ : RG} (hQ : PR N K len ρ) : kp (F_X11_newCutter a1 a2 a3 a4 a5 a6 N K len σ ρ) (MV a1 a2 a3 a4 a5 a6 N) := by
  unfold F_X11_newCutter
  by_cases e1 : a1 = 1
  · have ek : kof a1 = 7 := by subst e1; decide
    rw [if_pos e1]
    refine kp_nm (fun K2 e1 => kp_nm (fun L2 e2 => kp_nm (fun σ2 e3 => kp_nm (fun ρ2 e4 => kp_bn iv_X7_7 (fun σ3 h3 => kp_some ⟨rfl, ?_, h3, fun h => absurd (ek.symm.trans h) (by decide)⟩)))))
    show K2 N = kof a1
    rw [e1, va_up_self, ek]
  rw [if_neg e1]
  by_cases e2 : a1 = 2
  · have ek : kof a1 = 6 := by subst e2; decide
    rw [if_pos e2]
    refine kp_nm (fun K2 e1 => kp_nm (fun L2 e2 => kp_nm (fun σ2 e3 => kp_nm (fun ρ2 e4 => kp_bn iv_X6_6 (fun σ3 h3 => kp_some ⟨rfl, ?_, h3, fun h => absurd (ek.symm.trans h) (by decide)⟩)))))
    show K2 N = kof a1
    rw [e1, va_up_self, ek]
  rw [if_neg e2]
  by_cases e3 : a1 = 3
  · have ek : kof a1 = 2 := by subst e3; decide
    rw [if_pos e3]
    refine kp_nm (fun K2 e1 => kp_nm (fun L2 e2 => kp_nm (fun σ2 e3 => kp_nm (fun ρ2 e4 => kp_bn iv_X2_2 (fun σ3 h3 => kp_some ⟨rfl, ?_, h3, fun h => absurd (ek.symm.trans h) (by decide)⟩)))))
    show K2 N = kof a1
    rw [e1, va_up_self, ek]
  rw [if_neg e3]
  by_cases e4 : a1 = 4
  · have ek : kof a1 = 5 := by subst e4; decide
    rw [if_pos e4]
    refine kp_nm (fun K2 e1 => kp_nm (fun L2 e2 => kp_nm (fun σ2 e3 => kp_nm (fun ρ2 e4 => kp_bn iv_X5_5 (fun σ3 h3 => kp_some ⟨rfl, ?_, h3, fun h => absurd (ek.symm.trans h) (by decide)⟩)))))
    show K2 N = kof a1
    rw [e1, va_up_self, ek]
  rw [if_neg e4]
  by_cases e5 : a1 = 5
  · have ek : kof a1 = 4 := by subst e5; decide
    rw [if_pos e5]
    refine kp_nm (fun K2 e1 => kp_nm (fun L2 e2 => kp_nm (fun σ2 e3 => kp_nm (fun ρ2 e4 => kp_bn iv_X4_4 (fun σ3 h3 => kp_some ⟨rfl, ?_, h3, fun h => absurd (ek.symm.trans h) (by decide)⟩)))))
    show K2 N = kof a1
    rw [e1, va_up_self, ek]
  rw [if_neg e5]
  by_cases e6 : a1 = 6
  · have ek : kof a1 = 9 := by subst e6; decide
    rw [if_pos e6]
    refine kp_nm (fun K2 e1 => kp_nm (fun L2 e2 => kp_nm (fun σ2 e3 => kp_nm (fun ρ2 e4 => kp_bnT (Q := fun q => (IV N a2 a3 a4 a5 a6 q.2.2.2.2.1 ∧ ∀ k, k < 4 → q.2.2.2.2.1 (N + 1) k = 4) ∧ MK9 N (N + 1) K2 L2 σ2 ρ2 q) (fun q h => ⟨iv_X9_9 (by omega) q h, kp_ok s_X9_init_k9 q h⟩) (fun u N1 K1 L1 σ1 ρ1 h => kp_some ?_)))))
    obtain ⟨⟨h1, h2⟩, q1, q2, q3, q4, q5⟩ := h
    have q2' : K1 = va_up K2 (N + 1) 14 := q2
    have q5' : ρ1 = r2 (va_up ρ2 (N + 1) (fun _ => none)) N 6 (some (N + 1)) := q5
    refine ⟨rfl, ?_, h1, fun _ => ⟨N + 1, by omega, ?_, h2⟩⟩
    · show K1 N = kof a1
      rw [q2', va_up_ne _ _ (by omega), e1, va_up_self, ek]
    · show ρ1 N 6 = _
      rw [q5', r2_at, if_pos rfl, if_pos rfl]
  rw [if_neg e6]
  have ek : kof a1 = 1 := by
    unfold kof
    rw [if_neg e1, if_neg e2, if_neg e3, if_neg e4, if_neg e5, if_neg e6]
  refine kp_nm (fun K2 f1 => kp_nm (fun L2 f2 => kp_nm (fun σ2 f3 => kp_nm (fun ρ2 f4 => kp_bn iv_X1_1 (fun σ3 h3 => kp_some ⟨rfl, ?_, h3, fun h => absurd (ek.symm.trans h) (by decide)⟩)))))
  show K2 N = kof a1
  rw [f1, va_up_self, ek]
