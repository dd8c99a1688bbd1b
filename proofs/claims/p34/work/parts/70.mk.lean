/-! PART 70.mk: printed by wip/gen/mk26.py: what makes objects -/
theorem bx_lt {m : Int} {σ σ' : SG} (hB : BX m σ) (h : ∀ r, r < 65 → σ' r = σ r) : BX m σ' := by
  have hq : ∀ q ∈ bndL, q.1 < 65 := by decide
  refine ⟨fun q hq' j x y => ?_, ?_, ?_, ?_⟩
  · rw [h q.1 (hq q hq')]; exact hB.1 q hq' j x y
  · rw [h 54 (by decide)]; exact hB.2.1
  · rw [h 55 (by decide)]; exact hB.2.2.1
  · rw [h 54 (by decide), h 56 (by decide)]; exact hB.2.2.2
/-- the world has grown: what was there is as it was -/
def GR (N : Nat) (K len : Nat → Nat) (ρ : RG) (N1 : Nat) (K1 len1 : Nat → Nat) (ρ1 : RG) : Prop := N ≤ N1 ∧ ∀ r, r < N → K1 r = K r ∧ len1 r = len r ∧ ρ1 r = ρ r
theorem grw_new {N : Nat} {K len : Nat → Nat} {ρ : RG} (k n : Nat) : GR N K len ρ (N + 1) (va_up K N k) (va_up len N n) (va_up ρ N (fun _ => none)) := ⟨by omega, fun r hr => ⟨va_up_ne _ _ (by omega), va_up_ne _ _ (by omega), va_up_ne _ _ (by omega)⟩⟩
theorem grw_trans {N N1 N2 : Nat} {K len K1 len1 K2 len2 : Nat → Nat} {ρ ρ1 ρ2 : RG} (h : GR N K len ρ N1 K1 len1 ρ1) (h' : GR N1 K1 len1 ρ1 N2 K2 len2 ρ2) : GR N K len ρ N2 K2 len2 ρ2 := by
  refine ⟨Nat.le_trans h.1 h'.1, fun r hr => ?_⟩
  obtain ⟨a, b, c⟩ := h.2 r hr
  obtain ⟨a', b', c'⟩ := h'.2 r (Nat.lt_of_lt_of_le hr h.1)
  exact ⟨a'.trans a, b'.trans b, c'.trans c⟩
theorem grw_r2 {N N1 : Nat} {K len K1 len1 : Nat → Nat} {ρ ρ1 : RG} (h : GR N K len ρ N1 K1 len1 ρ1) {t k : Nat} {v : Option Nat} (ht : N ≤ t) : GR N K len ρ N1 K1 len1 (r2 ρ1 t k v) := by
  refine ⟨h.1, fun r hr => ?_⟩
  obtain ⟨a, b, c⟩ := h.2 r hr
  exact ⟨a, b, by rw [r2_ne r (by omega)]; exact c⟩
theorem isC_gr {N N1 : Nat} {K len K1 len1 : Nat → Nat} {ρ ρ1 : RG} (h : GR N K len ρ N1 K1 len1 ρ1) {c : Nat} (hc : isC N K c = true) : isC N1 K1 c = true := by
  have := isC_r hc
  have h1 := h.1
  exact isC_of (by omega) (by rw [(h.2 c this).1]; exact isC_k hc)
theorem isD_lt {N : Nat} {K len : Nat → Nat} {d : Nat} (h : isD N K len d = true) : d < N ∧ K d = 14 ∧ len d = 4 := by
  unfold isD at h
  simp only [Bool.and_eq_true, beq_iff_eq, Nat.blt_eq] at h
  exact ⟨h.1.1, h.1.2, h.2⟩
theorem isD_of {N : Nat} {K len : Nat → Nat} {d : Nat} (h1 : d < N) (h2 : K d = 14) (h3 : len d = 4) : isD N K len d = true := by
  unfold isD
  simp only [Bool.and_eq_true, beq_iff_eq, Nat.blt_eq]
  exact ⟨⟨h1, h2⟩, h3⟩
theorem isD_gr {N N1 : Nat} {K len K1 len1 : Nat → Nat} {ρ ρ1 : RG} (h : GR N K len ρ N1 K1 len1 ρ1) {d : Nat} (hd : isD N K len d = true) : isD N1 K1 len1 d = true := by
  obtain ⟨a, b, c⟩ := isD_lt hd
  obtain ⟨x, y, z⟩ := h.2 d a
  exact isD_of (Nat.lt_of_lt_of_le a h.1) (x.trans b) (y.trans c)
theorem ck_gr {N N1 : Nat} {K len K1 len1 : Nat → Nat} {ρ ρ1 : RG} (h : GR N K len ρ N1 K1 len1 ρ1) {c : Nat} (hc : CK N K len ρ c) : CK N1 K1 len1 ρ1 c := by
  refine ⟨isC_gr h hc.1, fun k => ?_⟩
  obtain ⟨x, y, z⟩ := h.2 c (isC_r hc.1)
  obtain ⟨d, e, f, g⟩ := hc.2 (x.symm.trans k)
  exact ⟨d, by rw [z]; exact e, isD_gr h f, g⟩
theorem pr_gr {N N1 : Nat} {K len K1 len1 : Nat → Nat} {ρ ρ1 : RG} (hQ : PR N K len ρ) (h : GR N K len ρ N1 K1 len1 ρ1) (hR : RC N1 ρ1) : PR N1 K1 len1 ρ1 := by
  have n65 := hQ.1.1
  have hl : ∀ q ∈ refsL, q.1 < 65 := by decide
  have e : ∀ r, r < 65 → ρ1 r = ρ r := fun r hr => (h.2 r (by omega)).2.2
  refine ⟨⟨Nat.le_trans n65 h.1, fun r hr => ?_, fun q hq => ?_⟩, hR, fun j c hj hc => ?_, fun j c hj hc => ?_, ?_⟩
  · obtain ⟨x, y, z⟩ := h.2 r (by omega)
    obtain ⟨a, b⟩ := hQ.1.2.1 r hr
    exact ⟨x.trans a, y.trans b⟩
  · rw [e q.1 (hl q hq)]; exact hQ.1.2.2 q hq
  · rw [e 2 (by decide)] at hc; exact ck_gr h (hQ.2.2.1 j c hj hc)
  · rw [e 15 (by decide)] at hc; exact ck_gr h (hQ.2.2.2.1 j c hj hc)
  · rw [e 29 (by decide)]; exact hQ.2.2.2.2
theorem pr_set {N : Nat} {K len : Nat → Nat} {ρ : RG} (hQ : PR N K len ρ) {r k : Nat} {v : Option Nat} (hr : r = 2 ∨ r = 15) (hv : ∀ c, v = some c → CK N K len ρ c) : PR N K len (r2 ρ r k v) := by
  have hb : Nat.blt r 65 = true := by rcases hr with rfl | rfl <;> rfl
  have hl : Lay N K len (r2 ρ r k v) := by
    refine ly_row hQ.1 _ ?_
    rcases hr with rfl | rfl <;> decide
  have hc : ∀ j c, j < 6 → r2 ρ r k v r j = some c → (∀ j c, j < 6 → ρ r j = some c → CK N K len ρ c) → CK N K len (r2 ρ r k v) c := by
    intro j c hj h hh
    rw [r2_at, if_pos rfl] at h
    by_cases e : j = k
    · rw [if_pos e] at h; exact ckr hQ.1 hb (hv c h)
    · rw [if_neg e] at h; exact ckr hQ.1 hb (hh j c hj h)
  refine ⟨hl, ?_, fun j c hj h => ?_, fun j c hj h => ?_, ?_⟩
  · cases v with
    | none => exact RC_putn hQ.2.1
    | some t => exact RC_put hQ.2.1 (isC_r (hv t rfl).1)
  · rcases hr with rfl | rfl
    · exact hc j c hj h hQ.2.2.1
    · rw [r2_ne 2 (by decide)] at h; exact ckr hQ.1 hb (hQ.2.2.1 j c hj h)
  · rcases hr with rfl | rfl
    · rw [r2_ne 15 (by decide)] at h; exact ckr hQ.1 hb (hQ.2.2.2.1 j c hj h)
    · exact hc j c hj h hQ.2.2.2.1
  · rw [r2_ne 29 (by rcases hr with rfl | rfl <;> decide)]; exact hQ.2.2.2.2
theorem s2_lt {σ σ' : SG} {t r k : Nat} {v : Int32} (e : σ' = s2 σ t k v) (h : r ≠ t) : σ' r = σ r := by rw [e, s2_ne r h]
theorem s_X1_init_k1 {t : Nat} {a1 a2 a3 a4 a5 : Int32} {σ : SG} {ρ : RG} : ok (F_X1_init_k1 t a1 a2 a3 a4 a5 σ ρ) (fun q => ∀ r, r ≠ t → q r = σ r) := by
  unfold F_X1_init_k1
  exact ok_nm (fun σ2 h2 => ok_nm (fun σ4 h4 => ok_nm (fun σ6 h6 => ok_nm (fun σ8 h8 => ok_nm (fun σ10 h10 => ok_some (fun r hr => by rw [s2_lt h10 hr, s2_lt h8 hr, s2_lt h6 hr, s2_lt h4 hr, s2_lt h2 hr]))))))
theorem s_X1_init_k2 {t : Nat} {a1 a2 a3 a4 a5 : Int32} {σ : SG} {ρ : RG} : ok (F_X1_init_k2 t a1 a2 a3 a4 a5 σ ρ) (fun q => ∀ r, r ≠ t → q r = σ r) := by
  unfold F_X1_init_k2
  exact ok_nm (fun σ2 h2 => ok_nm (fun σ4 h4 => ok_nm (fun σ6 h6 => ok_nm (fun σ8 h8 => ok_nm (fun σ10 h10 => ok_some (fun r hr => by rw [s2_lt h10 hr, s2_lt h8 hr, s2_lt h6 hr, s2_lt h4 hr, s2_lt h2 hr]))))))
theorem s_X1_init_k4 {t : Nat} {a1 a2 a3 a4 a5 : Int32} {σ : SG} {ρ : RG} : ok (F_X1_init_k4 t a1 a2 a3 a4 a5 σ ρ) (fun q => ∀ r, r ≠ t → q r = σ r) := by
  unfold F_X1_init_k4
  exact ok_nm (fun σ2 h2 => ok_nm (fun σ4 h4 => ok_nm (fun σ6 h6 => ok_nm (fun σ8 h8 => ok_nm (fun σ10 h10 => ok_some (fun r hr => by rw [s2_lt h10 hr, s2_lt h8 hr, s2_lt h6 hr, s2_lt h4 hr, s2_lt h2 hr]))))))
theorem s_X1_init_k5 {t : Nat} {a1 a2 a3 a4 a5 : Int32} {σ : SG} {ρ : RG} : ok (F_X1_init_k5 t a1 a2 a3 a4 a5 σ ρ) (fun q => ∀ r, r ≠ t → q r = σ r) := by
  unfold F_X1_init_k5
  exact ok_nm (fun σ2 h2 => ok_nm (fun σ4 h4 => ok_nm (fun σ6 h6 => ok_nm (fun σ8 h8 => ok_nm (fun σ10 h10 => ok_some (fun r hr => by rw [s2_lt h10 hr, s2_lt h8 hr, s2_lt h6 hr, s2_lt h4 hr, s2_lt h2 hr]))))))
theorem s_X1_init_k6 {t : Nat} {a1 a2 a3 a4 a5 : Int32} {σ : SG} {ρ : RG} : ok (F_X1_init_k6 t a1 a2 a3 a4 a5 σ ρ) (fun q => ∀ r, r ≠ t → q r = σ r) := by
  unfold F_X1_init_k6
  exact ok_nm (fun σ2 h2 => ok_nm (fun σ4 h4 => ok_nm (fun σ6 h6 => ok_nm (fun σ8 h8 => ok_nm (fun σ10 h10 => ok_some (fun r hr => by rw [s2_lt h10 hr, s2_lt h8 hr, s2_lt h6 hr, s2_lt h4 hr, s2_lt h2 hr]))))))
theorem s_X1_init_k7 {t : Nat} {a1 a2 a3 a4 a5 : Int32} {σ : SG} {ρ : RG} : ok (F_X1_init_k7 t a1 a2 a3 a4 a5 σ ρ) (fun q => ∀ r, r ≠ t → q r = σ r) := by
  unfold F_X1_init_k7
  exact ok_nm (fun σ2 h2 => ok_nm (fun σ4 h4 => ok_nm (fun σ6 h6 => ok_nm (fun σ8 h8 => ok_nm (fun σ10 h10 => ok_some (fun r hr => by rw [s2_lt h10 hr, s2_lt h8 hr, s2_lt h6 hr, s2_lt h4 hr, s2_lt h2 hr]))))))
theorem s_X1_init_k9 {t : Nat} {a1 a2 a3 a4 a5 : Int32} {σ : SG} {ρ : RG} : ok (F_X1_init_k9 t a1 a2 a3 a4 a5 σ ρ) (fun q => ∀ r, r ≠ t → q r = σ r) := by
  unfold F_X1_init_k9
  exact ok_nm (fun σ2 h2 => ok_nm (fun σ4 h4 => ok_nm (fun σ6 h6 => ok_nm (fun σ8 h8 => ok_nm (fun σ10 h10 => ok_some (fun r hr => by rw [s2_lt h10 hr, s2_lt h8 hr, s2_lt h6 hr, s2_lt h4 hr, s2_lt h2 hr]))))))
theorem s_X7_init_k7 {t : Nat} {a1 a2 a3 a4 a5 : Int32} {σ : SG} {ρ : RG} : ok (F_X7_init_k7 t a1 a2 a3 a4 a5 σ ρ) (fun q => ∀ r, r ≠ t → q r = σ r) := by
  unfold F_X7_init_k7
  exact ok_bn s_X1_init_k7 (fun σ1 h => ok_some h)
theorem s_X7_init_k5 {t : Nat} {a1 a2 a3 a4 a5 : Int32} {σ : SG} {ρ : RG} : ok (F_X7_init_k5 t a1 a2 a3 a4 a5 σ ρ) (fun q => ∀ r, r ≠ t → q r = σ r) := by
  unfold F_X7_init_k5
  exact ok_bn s_X1_init_k5 (fun σ1 h => ok_some h)
theorem s_X6_init_k6 {t : Nat} {a1 a2 a3 a4 a5 : Int32} {σ : SG} {ρ : RG} : ok (F_X6_init_k6 t a1 a2 a3 a4 a5 σ ρ) (fun q => ∀ r, r ≠ t → q r = σ r) := by
  unfold F_X6_init_k6
  exact ok_bn s_X1_init_k6 (fun σ1 h => ok_some h)
theorem s_X6_init_k4 {t : Nat} {a1 a2 a3 a4 a5 : Int32} {σ : SG} {ρ : RG} : ok (F_X6_init_k4 t a1 a2 a3 a4 a5 σ ρ) (fun q => ∀ r, r ≠ t → q r = σ r) := by
  unfold F_X6_init_k4
  exact ok_bn s_X1_init_k4 (fun σ1 h => ok_some h)
theorem s_X2_init_k2 {t : Nat} {a1 a2 a3 a4 a5 : Int32} {σ : SG} {ρ : RG} : ok (F_X2_init_k2 t a1 a2 a3 a4 a5 σ ρ) (fun q => ∀ r, r ≠ t → q r = σ r) := by
  unfold F_X2_init_k2
  exact ok_bn s_X1_init_k2 (fun σ1 h => ok_some h)
theorem s_X2_init_k9 {t : Nat} {a1 a2 a3 a4 a5 : Int32} {σ : SG} {ρ : RG} : ok (F_X2_init_k9 t a1 a2 a3 a4 a5 σ ρ) (fun q => ∀ r, r ≠ t → q r = σ r) := by
  unfold F_X2_init_k9
  exact ok_bn s_X1_init_k9 (fun σ1 h => ok_some h)
theorem s_X5_init_k5 {t : Nat} {a1 a2 a3 a4 a5 : Int32} {σ : SG} {ρ : RG} : ok (F_X5_init_k5 t a1 a2 a3 a4 a5 σ ρ) (fun q => ∀ r, r ≠ t → q r = σ r) := by
  unfold F_X5_init_k5
  exact ok_bn s_X7_init_k5 (fun σ1 h => ok_some h)
theorem s_X4_init_k4 {t : Nat} {a1 a2 a3 a4 a5 : Int32} {σ : SG} {ρ : RG} : ok (F_X4_init_k4 t a1 a2 a3 a4 a5 σ ρ) (fun q => ∀ r, r ≠ t → q r = σ r) := by
  unfold F_X4_init_k4
  exact ok_bn s_X6_init_k4 (fun σ1 h => ok_some h)
/-- what a maker of a cutter leaves: the cutter, and the world grown by it -/
def MKP (N : Nat) (K len : Nat → Nat) (σ : SG) (ρ : RG) (q : Nat × TT) : Prop := (∀ r, r < N → q.2.2.2.2.1 r = σ r) ∧ PR q.2.1 q.2.2.1 q.2.2.2.1 q.2.2.2.2.2 ∧ CK q.2.1 q.2.2.1 q.2.2.2.1 q.2.2.2.2.2 q.1 ∧ GR N K len ρ q.2.1 q.2.2.1 q.2.2.2.1 q.2.2.2.2.2
theorem mk_one {N k : Nat} {K len : Nat → Nat} {σ σ1 : SG} {ρ : RG} (hQ : PR N K len ρ) (hk : isCk k = true) (k9 : k ≠ 9) (hσ : ∀ r, r ≠ N → σ1 r = va_up σ N (fun _ => 0) r) : MKP N K len σ ρ (N, (N + 1), va_up K N k, va_up len N 0, σ1, va_up ρ N (fun _ => none)) := by
  have g : GR N K len ρ (N + 1) (va_up K N k) (va_up len N 0) (va_up ρ N (fun _ => none)) := grw_new k 0
  refine ⟨fun r hr => ?_, pr_gr hQ g (RC_new hQ.2.1), ⟨isC_of (by show N < N + 1; omega) (by show isCk (va_up K N k N) = true; rw [va_up_self]; exact hk), fun q => ?_⟩, g⟩
  · show σ1 r = σ r
    rw [hσ r (by omega), va_up_ne _ _ (by omega)]
  · have q' : va_up K N k N = 9 := q
    rw [va_up_self] at q'
    exact absurd q' k9
/-- the cutter with the row of digits -/
def MK9 (t N : Nat) (K len : Nat → Nat) (σ : SG) (ρ : RG) (q : Unit × TT) : Prop := q.2.1 = N + 1 ∧ q.2.2.1 = va_up K N 14 ∧ q.2.2.2.1 = va_up len N 4 ∧ (∀ r, r ≠ t → r ≠ N → q.2.2.2.2.1 r = σ r) ∧ q.2.2.2.2.2 = r2 (va_up ρ N (fun _ => none)) t 6 (some N)
theorem s_X9_init_k9 {t N : Nat} {K len : Nat → Nat} {a1 a2 a3 a4 a5 : Int32} {σ : SG} {ρ : RG} : ok (F_X9_init_k9 t a1 a2 a3 a4 a5 N K len σ ρ) (MK9 t N K len σ ρ) := by
  unfold F_X9_init_k9
  refine ok_bn s_X2_init_k9 (fun σ1 h1 => ok_nm (fun K2 e1 => ok_nm (fun L2 e2 => ok_nm (fun σ2 h2 => ok_nm (fun ρ2 e3 => ok_nm (fun σ4 h4 => ok_nm (fun σ6 h6 => ok_nm (fun σ8 h8 => ok_nm (fun σ10 h10 => ok_nm (fun ρ11 e4 => ok_some ?_))))))))))
  refine ⟨rfl, e1, e2, fun r ht hN => ?_, by show ρ11 = _; rw [e4, e3]⟩
  show σ10 r = σ r
  rw [s2_lt h10 hN, s2_lt h8 hN, s2_lt h6 hN, s2_lt h4 hN, h2, va_up_ne _ _ hN, h1 r ht]
theorem mk_nine {N : Nat} {K len : Nat → Nat} {σ : SG} {ρ : RG} {q : Unit × TT} (hQ : PR N K len ρ) (h : MK9 N (N + 1) (va_up K N 9) (va_up len N 0) (va_up σ N (fun _ => 0)) (va_up ρ N (fun _ => none)) q) : MKP N K len σ ρ (N, q.2) ∧ q.2.2.2.2.2 N 6 = some (N + 1) ∧ isD q.2.1 q.2.2.1 q.2.2.2.1 (N + 1) = true ∧ q.2.2.1 N = 9 := by
  obtain ⟨u, N1, K1, L1, σ1, ρ1⟩ := q
  obtain ⟨q1, q2, q3, q4, q5⟩ := h
  change N1 = N + 1 + 1 at q1
  change K1 = va_up (va_up K N 9) (N + 1) 14 at q2
  change L1 = va_up (va_up len N 0) (N + 1) 4 at q3
  change ∀ r, r ≠ N → r ≠ N + 1 → σ1 r = va_up σ N (fun _ => 0) r at q4
  change ρ1 = r2 (va_up (va_up ρ N (fun _ => none)) (N + 1) (fun _ => none)) N 6 (some (N + 1)) at q5
  subst q1 q2 q3 q5
  have n65 := hQ.1.1
  have g : GR N K len ρ (N + 1 + 1) (va_up (va_up K N 9) (N + 1) 14) (va_up (va_up len N 0) (N + 1) 4) (r2 (va_up (va_up ρ N (fun _ => none)) (N + 1) (fun _ => none)) N 6 (some (N + 1))) := grw_r2 (grw_trans (grw_new 9 0) (grw_new 14 4)) (Nat.le_refl N)
  have hr : RC (N + 1 + 1) (r2 (va_up (va_up ρ N (fun _ => none)) (N + 1) (fun _ => none)) N 6 (some (N + 1))) := RC_put (RC_new (RC_new hQ.2.1)) (by omega)
  have hd : isD (N + 1 + 1) (va_up (va_up K N 9) (N + 1) 14) (va_up (va_up len N 0) (N + 1) 4) (N + 1) = true := isD_of (by omega) (va_up_self _ _ _) (va_up_self _ _ _)
  have h6 : r2 (va_up (va_up ρ N (fun _ => none)) (N + 1) (fun _ => none)) N 6 (some (N + 1)) N 6 = some (N + 1) := by rw [r2_at, if_pos rfl, if_pos rfl]
  have hk : va_up (va_up K N 9) (N + 1) 14 N = 9 := by rw [va_up_ne _ _ (by omega), va_up_self]
  refine ⟨⟨fun r hr => ?_, pr_gr hQ g hr, ⟨isC_of (by show N < N + 1 + 1; omega) (by show isCk (va_up (va_up K N 9) (N + 1) 14 N) = true; rw [hk]; rfl), fun _ => ⟨N + 1, h6, hd, by omega⟩⟩, g⟩, h6, hd, hk⟩
  show σ1 r = σ r
  rw [q4 r (by omega) (by omega), va_up_ne _ _ (by omega)]
theorem s_X11_newCutter {N : Nat} {K len : Nat → Nat} {a1 a2 a3 a4 a5 a6 : Int32} {σ : SG} {ρ : RG} (hQ : PR N K len ρ) : ok (F_X11_newCutter a1 a2 a3 a4 a5 a6 N K len σ ρ) (MKP N K len σ ρ) := by
  unfold F_X11_newCutter
  refine ok_if (fun _ => ok_nm (fun K2 e1 => ok_nm (fun L2 e2 => ok_nm (fun σ2 e3 => ok_nm (fun ρ2 e4 => ok_bn s_X7_init_k7 (fun σ3 h3 => ok_some ?_)))))) (fun _ => ?_)
  · subst e1 e2 e3 e4; exact mk_one hQ (k := 7) rfl (by decide) h3
  refine ok_if (fun _ => ok_nm (fun K2 e1 => ok_nm (fun L2 e2 => ok_nm (fun σ2 e3 => ok_nm (fun ρ2 e4 => ok_bn s_X6_init_k6 (fun σ3 h3 => ok_some ?_)))))) (fun _ => ?_)
  · subst e1 e2 e3 e4; exact mk_one hQ (k := 6) rfl (by decide) h3
  refine ok_if (fun _ => ok_nm (fun K2 e1 => ok_nm (fun L2 e2 => ok_nm (fun σ2 e3 => ok_nm (fun ρ2 e4 => ok_bn s_X2_init_k2 (fun σ3 h3 => ok_some ?_)))))) (fun _ => ?_)
  · subst e1 e2 e3 e4; exact mk_one hQ (k := 2) rfl (by decide) h3
  refine ok_if (fun _ => ok_nm (fun K2 e1 => ok_nm (fun L2 e2 => ok_nm (fun σ2 e3 => ok_nm (fun ρ2 e4 => ok_bn s_X5_init_k5 (fun σ3 h3 => ok_some ?_)))))) (fun _ => ?_)
  · subst e1 e2 e3 e4; exact mk_one hQ (k := 5) rfl (by decide) h3
  refine ok_if (fun _ => ok_nm (fun K2 e1 => ok_nm (fun L2 e2 => ok_nm (fun σ2 e3 => ok_nm (fun ρ2 e4 => ok_bn s_X4_init_k4 (fun σ3 h3 => ok_some ?_)))))) (fun _ => ?_)
  · subst e1 e2 e3 e4; exact mk_one hQ (k := 4) rfl (by decide) h3
  refine ok_if (fun _ => ok_nm (fun K2 e1 => ok_nm (fun L2 e2 => ok_nm (fun σ2 e3 => ok_nm (fun ρ2 e4 => ok_bnT s_X9_init_k9 (fun u N1 K1 L1 σ1 ρ1 h => ok_some ?_)))))) (fun _ => ?_)
  · subst e1 e2 e3 e4; exact (mk_nine hQ h).1
  refine ok_nm (fun K2 e1 => ok_nm (fun L2 e2 => ok_nm (fun σ2 e3 => ok_nm (fun ρ2 e4 => ok_bn s_X1_init_k1 (fun σ3 h3 => ok_some ?_)))))
  subst e1 e2 e3 e4
  exact mk_one hQ (k := 1) rfl (by decide) h3
/-- the world behind: its box and its references -/
def WB {α : Type} (m : Int) (q : α × TT) : Prop := BX m q.2.2.2.2.1 ∧ PR q.2.1 q.2.2.1 q.2.2.2.1 q.2.2.2.2.2
theorem s_X11_cutter {m : Int} {N : Nat} {K len : Nat → Nat} {a1 a2 a3 a4 a5 : Int32} {σ : SG} {ρ : RG} (hB : BX m σ) (hQ : PR N K len ρ) : ok (F_X11_cutter a1 a2 a3 a4 a5 N K len σ ρ) (WB m) := by
  unfold F_X11_cutter
  have st : ∀ r : Int32, ok (some (r, N, K, len, σ, ρ)) (WB (α := Int32) m) := fun r => ok_some ⟨hB, hQ⟩
  refine ok_bn s_X11_isWithin (fun _ _ => ok_if (fun _ => st _) (fun _ => ok_bn s_X11_isWithin (fun _ _ => ok_if (fun _ => st _) (fun _ => ok_bn s_X11_isWithin (fun _ _ => ok_if (fun _ => st _) (fun _ => ok_bn s_X11_isWithin (fun _ _ => ok_if (fun _ => st _) (fun _ => ok_bn s_X11_isThick (fun _ _ => ok_if (fun _ => st _) (fun _ => ok_if (fun c => ?_) (fun _ => st _)))))))))))
  have n65 := hQ.1.1
  have r0 : rg (σ 1 1) 0 6 := bx_get hB (r := 1) (a := 1) (b := 1) (k := 1) (l := 0) (h := 6) (by decide) (by decide) (by decide)
  have r1 : rg (σ 1 1) 0 5 := rg_lt c r0 (show rg (6 : Int32) 6 6 from ⟨by decide, by decide⟩)
  refine ok_bnT (s_X11_newCutter hQ) (fun c12 N12 K12 L12 σ12 ρ12 h => ?_)
  obtain ⟨h1, h2, h3, h4⟩ := h
  have h1' : ∀ r, r < N → σ12 r = σ r := h1
  refine ok_gd (rg_inb r1 (by decide) (by decide)) (ok_nm (fun ρ14 e14 => ok_nm (fun x hx => ok_nm (fun σ17 e17 => ok_some ?_))))
  rw [h1' 1 (by omega)] at hx
  have rx : rg x 1 6 := rg_eq hx (rg_add r1 (show rg (1 : Int32) 1 1 from ⟨by decide, by decide⟩) (by decide) (by decide) (by decide) (by decide))
  refine ⟨?_, ?_⟩
  · show BX m σ17
    rw [e17]; exact bx_set (bx_lt hB (fun r hr => h1' r (by omega))) rx (by decide)
  · show PR N12 K12 L12 ρ14
    rw [e14]; exact pr_set h2 (Or.inl rfl) (fun c e => by cases e; exact h3)
theorem s_X1_twin {m : Int} {N z : Nat} {K len : Nat → Nat} {σ : SG} {ρ : RG} (k_z : CK N K len ρ z) (hB : BX m σ) (hQ : PR N K len ρ) : ok (F_X1_twin z N K len σ ρ) (fun q => WB m q ∧ CK q.2.1 q.2.2.1 q.2.2.2.1 q.2.2.2.2.2 q.1) := by
  unfold F_X1_twin
  have n65 := hQ.1.1
  refine ok_bn (s_v_kind k_z hB hQ) (fun r1 _ => ok_bnT (s_X11_newCutter hQ) (fun c2 N2 K2 L2 σ2 ρ2 h => ok_nm (fun σ3 e3 => ok_some ?_)))
  obtain ⟨h1, h2, h3, h4⟩ := h
  have h1' : ∀ r, r < N → σ2 r = σ r := h1
  have h2' : PR N2 K2 L2 ρ2 := h2
  have h3' : CK N2 K2 L2 ρ2 c2 := h3
  refine ⟨⟨?_, h2⟩, h3⟩
  show BX m σ3
  rw [e3]
  exact bx_65 (bx_lt hB (fun r hr => h1' r (by omega))) (ck_65 h2'.1 h3'.1)
theorem s_X9_twin {m : Int} {N z : Nat} {K len : Nat → Nat} {σ : SG} {ρ : RG} (k_z : CK N K len ρ z) (k9 : K z = 9) (hB : BX m σ) (hQ : PR N K len ρ) : ok (F_X9_twin z N K len σ ρ) (fun q => WB m q ∧ CK q.2.1 q.2.2.1 q.2.2.2.1 q.2.2.2.2.2 q.1) := by
  unfold F_X9_twin
  have n65 := hQ.1.1
  refine ok_nm (fun K1 e1 => ok_nm (fun L1 e2 => ok_nm (fun σ1 e3 => ok_nm (fun ρ1 e4 => ok_bnT s_X9_init_k9 (fun u N2 K2 L2 σ2 ρ2 h => ok_nm (fun σ3 h3 => ?_))))))
  subst e1 e2 e3 e4
  obtain ⟨⟨w1, w2, w3, w4⟩, w5, w6, w7⟩ := mk_nine hQ h
  have w1' : ∀ r, r < N → σ2 r = σ r := w1
  have w2' : PR N2 K2 L2 ρ2 := w2
  have w3' : CK N2 K2 L2 ρ2 N := w3
  have w4' : GR N K len ρ N2 K2 L2 ρ2 := w4
  have w5' : ρ2 N 6 = some (N + 1) := w5
  have w6' : isD N2 K2 L2 (N + 1) = true := w6
  obtain ⟨x, y, zz⟩ := w4'.2 z (isC_r k_z.1)
  obtain ⟨d, hd1, hd2, hd3⟩ := k_z.2 k9
  refine ok_gd (by rw [beq_iff_eq]; exact x.trans k9) (ok_oc (fun e => by rw [zz, hd1] at e; cases e) (fun c5 h5 => ?_))
  have ec : c5 = d := by rw [zz, hd1] at h5; cases h5; rfl
  subst ec
  refine ok_gd (isD_gr w4' hd2) (ok_oc (fun e => by rw [w5'] at e; cases e) (fun c6 h6 => ?_))
  have ec : c6 = N + 1 := by rw [w5'] at h6; cases h6; rfl
  subst ec
  refine ok_gd w6' (ok_nm (fun σ7 e7 => ok_some ⟨⟨?_, w2⟩, w3⟩))
  show BX m σ7
  refine bx_lt hB (fun r hr => ?_)
  rw [e7]
  unfold cpy
  rw [va_up_ne _ _ (by omega), s2_lt h3 (by omega), w1' r (by omega)]
theorem s_v_twin {m : Int} {N z : Nat} {K len : Nat → Nat} {σ : SG} {ρ : RG} (k_z : CK N K len ρ z) (hB : BX m σ) (hQ : PR N K len ρ) : ok (F_v_twin z N K len σ ρ) (fun q => WB m q ∧ CK q.2.1 q.2.2.1 q.2.2.2.1 q.2.2.2.2.2 q.1) := by
  unfold F_v_twin
  exact ok_if (fun h => s_X9_twin k_z h hB hQ) (fun _ => s_X1_twin k_z hB hQ)
theorem s_X8_takes_14_1_10_6 {m : Int} {N : Nat} {K len : Nat → Nat} {σ : SG} {ρ : RG} (hB : BX m σ) (hQ : PR N K len ρ) : ok (F_X8_takes_14_1_10_6 N K len σ ρ) (WB m) := by
  unfold F_X8_takes_14_1_10_6
  refine ok_bn (s_X3_takes (i := 16) (j := 3) (by decide) (by decide) hB hQ) (fun σ28 b28 => ok_bn (s_X0_takes_18_5 b28 hQ) (fun σ29 b29 => ?_))
  refine ok_nm (fun σ31 e31 => ?_)
  have b31 : BX m σ31 := by rw [e31]; exact bx_set b29 (rg_any _) (by decide)
  refine ok_nm (fun σ33 e33 => ?_)
  have b33 : BX m σ33 := by rw [e33]; exact bx_set b31 (bx_get b31 (r := 1) (a := 6) (b := 6) (k := 6) (l := 0) (h := 100) (by decide) (by decide) (by decide)) (by decide)
  refine ok_nm (fun σ35 e35 => ?_)
  have b35 : BX m σ35 := by rw [e35]; exact bx_set b33 (rg_any _) (by decide)
  refine ok_nm (fun σ37 e37 => ?_)
  have b37 : BX m σ37 := by rw [e37]; exact bx_set b35 (rg_any _) (by decide)
  refine ok_nm (fun σ39 e39 => ?_)
  have b39 : BX m σ39 := by rw [e39]; exact bx_set b37 (bx_get b37 (r := 1) (a := 10) (b := 10) (k := 10) (l := 0) (h := 4) (by decide) (by decide) (by decide)) (by decide)
  refine ok_nm (fun σ41 e41 => ?_)
  have b41 : BX m σ41 := by rw [e41]; exact bx_set b39 (bx_get b39 (r := 1) (a := 13) (b := 13) (k := 13) (l := 0) (h := 8) (by decide) (by decide) (by decide)) (by decide)
  refine ok_gd (isB_of b41 (by decide)) ?_
  refine ok_nm (fun σ42 e42 => ?_)
  have b42 : BX m σ42 := by rw [e42]; exact bx_cpy b41 (by decide)
  refine ok_nm (fun σ43 e43 => ?_)
  have b43 : BX m σ43 := by rw [e43]; exact bx_cpy b42 (by decide)
  refine ok_nm (fun σ44 e44 => ?_)
  have b44 : BX m σ44 := by rw [e44]; exact bx_cpy b43 (by decide)
  refine ok_nm (fun σ45 e45 => ?_)
  have b45 : BX m σ45 := by rw [e45]; exact bx_cpy b44 (by decide)
  exact ok_some ⟨b45, hQ⟩
theorem s_X8_takes_14_1_10_5 {m : Int} {N : Nat} {K len : Nat → Nat} {σ : SG} {ρ : RG} (hB : BX m σ) (hQ : PR N K len ρ) : ok (F_X8_takes_14_1_10_5 N K len σ ρ) (WB m) := by
  unfold F_X8_takes_14_1_10_5
  refine ok_bn (s_X8_cutterAt_1 hB hQ) (fun ov hv => ok_oc (fun _ => ok_nm (fun ρ1 e1 => ?_)) (fun c hc => ?_))
  · rw [e1]; exact s_X8_takes_14_1_10_6 hB (pr_set hQ (Or.inr rfl) (fun c e => by cases e))
  · have kc := hv c hc
    refine ok_gd kc.1 (ok_bnT (s_v_twin kc hB hQ) (fun c2 N2 K2 L2 σ2 ρ2 h => ok_nm (fun ρ3 e3 => ?_)))
    obtain ⟨⟨h1, h2⟩, h3⟩ := h
    rw [e3]
    exact s_X8_takes_14_1_10_6 h1 (pr_set h2 (Or.inr rfl) (fun c e => by cases e; exact h3))
theorem s_X8_takes_14_1_10_4 {m : Int} {N : Nat} {K len : Nat → Nat} {σ : SG} {ρ : RG} (hB : BX m σ) (hQ : PR N K len ρ) : ok (F_X8_takes_14_1_10_4 N K len σ ρ) (WB m) := by
  unfold F_X8_takes_14_1_10_4
  refine ok_bn (s_X8_cutterAt_1 hB hQ) (fun ov hv => ok_oc (fun _ => ok_nm (fun ρ1 e1 => ?_)) (fun c hc => ?_))
  · rw [e1]; exact s_X8_takes_14_1_10_5 hB (pr_set hQ (Or.inr rfl) (fun c e => by cases e))
  · have kc := hv c hc
    refine ok_gd kc.1 (ok_bnT (s_v_twin kc hB hQ) (fun c2 N2 K2 L2 σ2 ρ2 h => ok_nm (fun ρ3 e3 => ?_)))
    obtain ⟨⟨h1, h2⟩, h3⟩ := h
    rw [e3]
    exact s_X8_takes_14_1_10_5 h1 (pr_set h2 (Or.inr rfl) (fun c e => by cases e; exact h3))
theorem s_X8_takes_14_1_10_3 {m : Int} {N : Nat} {K len : Nat → Nat} {σ : SG} {ρ : RG} (hB : BX m σ) (hQ : PR N K len ρ) : ok (F_X8_takes_14_1_10_3 N K len σ ρ) (WB m) := by
  unfold F_X8_takes_14_1_10_3
  refine ok_bn (s_X8_cutterAt_1 hB hQ) (fun ov hv => ok_oc (fun _ => ok_nm (fun ρ1 e1 => ?_)) (fun c hc => ?_))
  · rw [e1]; exact s_X8_takes_14_1_10_4 hB (pr_set hQ (Or.inr rfl) (fun c e => by cases e))
  · have kc := hv c hc
    refine ok_gd kc.1 (ok_bnT (s_v_twin kc hB hQ) (fun c2 N2 K2 L2 σ2 ρ2 h => ok_nm (fun ρ3 e3 => ?_)))
    obtain ⟨⟨h1, h2⟩, h3⟩ := h
    rw [e3]
    exact s_X8_takes_14_1_10_4 h1 (pr_set h2 (Or.inr rfl) (fun c e => by cases e; exact h3))
theorem s_X8_takes_14_1_10_2 {m : Int} {N : Nat} {K len : Nat → Nat} {σ : SG} {ρ : RG} (hB : BX m σ) (hQ : PR N K len ρ) : ok (F_X8_takes_14_1_10_2 N K len σ ρ) (WB m) := by
  unfold F_X8_takes_14_1_10_2
  refine ok_bn (s_X8_cutterAt_1 hB hQ) (fun ov hv => ok_oc (fun _ => ok_nm (fun ρ1 e1 => ?_)) (fun c hc => ?_))
  · rw [e1]; exact s_X8_takes_14_1_10_3 hB (pr_set hQ (Or.inr rfl) (fun c e => by cases e))
  · have kc := hv c hc
    refine ok_gd kc.1 (ok_bnT (s_v_twin kc hB hQ) (fun c2 N2 K2 L2 σ2 ρ2 h => ok_nm (fun ρ3 e3 => ?_)))
    obtain ⟨⟨h1, h2⟩, h3⟩ := h
    rw [e3]
    exact s_X8_takes_14_1_10_3 h1 (pr_set h2 (Or.inr rfl) (fun c e => by cases e; exact h3))
theorem s_X8_takes_14_1_10_1 {m : Int} {N : Nat} {K len : Nat → Nat} {σ : SG} {ρ : RG} (hB : BX m σ) (hQ : PR N K len ρ) : ok (F_X8_takes_14_1_10_1 N K len σ ρ) (WB m) := by
  unfold F_X8_takes_14_1_10_1
  refine ok_bn (s_X8_cutterAt_1 hB hQ) (fun ov hv => ok_oc (fun _ => ok_nm (fun ρ1 e1 => ?_)) (fun c hc => ?_))
  · rw [e1]; exact s_X8_takes_14_1_10_2 hB (pr_set hQ (Or.inr rfl) (fun c e => by cases e))
  · have kc := hv c hc
    refine ok_gd kc.1 (ok_bnT (s_v_twin kc hB hQ) (fun c2 N2 K2 L2 σ2 ρ2 h => ok_nm (fun ρ3 e3 => ?_)))
    obtain ⟨⟨h1, h2⟩, h3⟩ := h
    rw [e3]
    exact s_X8_takes_14_1_10_2 h1 (pr_set h2 (Or.inr rfl) (fun c e => by cases e; exact h3))
theorem s_X8_takes_14_1_10_0 {m : Int} {N : Nat} {K len : Nat → Nat} {σ : SG} {ρ : RG} (hB : BX m σ) (hQ : PR N K len ρ) : ok (F_X8_takes_14_1_10_0 N K len σ ρ) (WB m) := by
  unfold F_X8_takes_14_1_10_0
  refine ok_bn (s_X8_cutterAt_1 hB hQ) (fun ov hv => ok_oc (fun _ => ok_nm (fun ρ1 e1 => ?_)) (fun c hc => ?_))
  · rw [e1]; exact s_X8_takes_14_1_10_1 hB (pr_set hQ (Or.inr rfl) (fun c e => by cases e))
  · have kc := hv c hc
    refine ok_gd kc.1 (ok_bnT (s_v_twin kc hB hQ) (fun c2 N2 K2 L2 σ2 ρ2 h => ok_nm (fun ρ3 e3 => ?_)))
    obtain ⟨⟨h1, h2⟩, h3⟩ := h
    rw [e3]
    exact s_X8_takes_14_1_10_1 h1 (pr_set h2 (Or.inr rfl) (fun c e => by cases e; exact h3))
theorem s_X8_takes_14_1 {m : Int} {N : Nat} {K len : Nat → Nat} {σ : SG} {ρ : RG} (hB : BX m σ) (hQ : PR N K len ρ) : ok (F_X8_takes_14_1 N K len σ ρ) (WB m) := by
  unfold F_X8_takes_14_1
  refine ok_nm (fun σ2 e2 => ?_)
  exact s_X8_takes_14_1_10_0 (by rw [e2]; exact bx_set hB (bx_get hB (r := 1) (a := 1) (b := 1) (k := 1) (l := 0) (h := 6) (by decide) (by decide) (by decide)) (by decide)) hQ
theorem s_X8_takes_1_14_10_6 {m : Int} {N : Nat} {K len : Nat → Nat} {σ : SG} {ρ : RG} (hB : BX m σ) (hQ : PR N K len ρ) : ok (F_X8_takes_1_14_10_6 N K len σ ρ) (WB m) := by
  unfold F_X8_takes_1_14_10_6
  refine ok_bn (s_X3_takes (i := 3) (j := 16) (by decide) (by decide) hB hQ) (fun σ28 b28 => ok_bn (s_X0_takes_5_18 b28 hQ) (fun σ29 b29 => ?_))
  refine ok_nm (fun σ31 e31 => ?_)
  have b31 : BX m σ31 := by rw [e31]; exact bx_set b29 (rg_any _) (by decide)
  refine ok_nm (fun σ33 e33 => ?_)
  have b33 : BX m σ33 := by rw [e33]; exact bx_set b31 (bx_get b31 (r := 14) (a := 6) (b := 6) (k := 6) (l := 0) (h := 100) (by decide) (by decide) (by decide)) (by decide)
  refine ok_nm (fun σ35 e35 => ?_)
  have b35 : BX m σ35 := by rw [e35]; exact bx_set b33 (rg_any _) (by decide)
  refine ok_nm (fun σ37 e37 => ?_)
  have b37 : BX m σ37 := by rw [e37]; exact bx_set b35 (rg_any _) (by decide)
  refine ok_nm (fun σ39 e39 => ?_)
  have b39 : BX m σ39 := by rw [e39]; exact bx_set b37 (bx_get b37 (r := 14) (a := 10) (b := 10) (k := 10) (l := 0) (h := 4) (by decide) (by decide) (by decide)) (by decide)
  refine ok_nm (fun σ41 e41 => ?_)
  have b41 : BX m σ41 := by rw [e41]; exact bx_set b39 (bx_get b39 (r := 14) (a := 13) (b := 13) (k := 13) (l := 0) (h := 8) (by decide) (by decide) (by decide)) (by decide)
  refine ok_gd (isB_of b41 (by decide)) ?_
  refine ok_nm (fun σ42 e42 => ?_)
  have b42 : BX m σ42 := by rw [e42]; exact bx_cpy b41 (by decide)
  refine ok_nm (fun σ43 e43 => ?_)
  have b43 : BX m σ43 := by rw [e43]; exact bx_cpy b42 (by decide)
  refine ok_nm (fun σ44 e44 => ?_)
  have b44 : BX m σ44 := by rw [e44]; exact bx_cpy b43 (by decide)
  refine ok_nm (fun σ45 e45 => ?_)
  have b45 : BX m σ45 := by rw [e45]; exact bx_cpy b44 (by decide)
  exact ok_some ⟨b45, hQ⟩
theorem s_X8_takes_1_14_10_5 {m : Int} {N : Nat} {K len : Nat → Nat} {σ : SG} {ρ : RG} (hB : BX m σ) (hQ : PR N K len ρ) : ok (F_X8_takes_1_14_10_5 N K len σ ρ) (WB m) := by
  unfold F_X8_takes_1_14_10_5
  refine ok_bn (s_X8_cutterAt_14 hB hQ) (fun ov hv => ok_oc (fun _ => ok_nm (fun ρ1 e1 => ?_)) (fun c hc => ?_))
  · rw [e1]; exact s_X8_takes_1_14_10_6 hB (pr_set hQ (Or.inl rfl) (fun c e => by cases e))
  · have kc := hv c hc
    refine ok_gd kc.1 (ok_bnT (s_v_twin kc hB hQ) (fun c2 N2 K2 L2 σ2 ρ2 h => ok_nm (fun ρ3 e3 => ?_)))
    obtain ⟨⟨h1, h2⟩, h3⟩ := h
    rw [e3]
    exact s_X8_takes_1_14_10_6 h1 (pr_set h2 (Or.inl rfl) (fun c e => by cases e; exact h3))
theorem s_X8_takes_1_14_10_4 {m : Int} {N : Nat} {K len : Nat → Nat} {σ : SG} {ρ : RG} (hB : BX m σ) (hQ : PR N K len ρ) : ok (F_X8_takes_1_14_10_4 N K len σ ρ) (WB m) := by
  unfold F_X8_takes_1_14_10_4
  refine ok_bn (s_X8_cutterAt_14 hB hQ) (fun ov hv => ok_oc (fun _ => ok_nm (fun ρ1 e1 => ?_)) (fun c hc => ?_))
  · rw [e1]; exact s_X8_takes_1_14_10_5 hB (pr_set hQ (Or.inl rfl) (fun c e => by cases e))
  · have kc := hv c hc
    refine ok_gd kc.1 (ok_bnT (s_v_twin kc hB hQ) (fun c2 N2 K2 L2 σ2 ρ2 h => ok_nm (fun ρ3 e3 => ?_)))
    obtain ⟨⟨h1, h2⟩, h3⟩ := h
    rw [e3]
    exact s_X8_takes_1_14_10_5 h1 (pr_set h2 (Or.inl rfl) (fun c e => by cases e; exact h3))
theorem s_X8_takes_1_14_10_3 {m : Int} {N : Nat} {K len : Nat → Nat} {σ : SG} {ρ : RG} (hB : BX m σ) (hQ : PR N K len ρ) : ok (F_X8_takes_1_14_10_3 N K len σ ρ) (WB m) := by
  unfold F_X8_takes_1_14_10_3
  refine ok_bn (s_X8_cutterAt_14 hB hQ) (fun ov hv => ok_oc (fun _ => ok_nm (fun ρ1 e1 => ?_)) (fun c hc => ?_))
  · rw [e1]; exact s_X8_takes_1_14_10_4 hB (pr_set hQ (Or.inl rfl) (fun c e => by cases e))
  · have kc := hv c hc
    refine ok_gd kc.1 (ok_bnT (s_v_twin kc hB hQ) (fun c2 N2 K2 L2 σ2 ρ2 h => ok_nm (fun ρ3 e3 => ?_)))
    obtain ⟨⟨h1, h2⟩, h3⟩ := h
    rw [e3]
    exact s_X8_takes_1_14_10_4 h1 (pr_set h2 (Or.inl rfl) (fun c e => by cases e; exact h3))
theorem s_X8_takes_1_14_10_2 {m : Int} {N : Nat} {K len : Nat → Nat} {σ : SG} {ρ : RG} (hB : BX m σ) (hQ : PR N K len ρ) : ok (F_X8_takes_1_14_10_2 N K len σ ρ) (WB m) := by
  unfold F_X8_takes_1_14_10_2
  refine ok_bn (s_X8_cutterAt_14 hB hQ) (fun ov hv => ok_oc (fun _ => ok_nm (fun ρ1 e1 => ?_)) (fun c hc => ?_))
  · rw [e1]; exact s_X8_takes_1_14_10_3 hB (pr_set hQ (Or.inl rfl) (fun c e => by cases e))
  · have kc := hv c hc
    refine ok_gd kc.1 (ok_bnT (s_v_twin kc hB hQ) (fun c2 N2 K2 L2 σ2 ρ2 h => ok_nm (fun ρ3 e3 => ?_)))
    obtain ⟨⟨h1, h2⟩, h3⟩ := h
    rw [e3]
    exact s_X8_takes_1_14_10_3 h1 (pr_set h2 (Or.inl rfl) (fun c e => by cases e; exact h3))
theorem s_X8_takes_1_14_10_1 {m : Int} {N : Nat} {K len : Nat → Nat} {σ : SG} {ρ : RG} (hB : BX m σ) (hQ : PR N K len ρ) : ok (F_X8_takes_1_14_10_1 N K len σ ρ) (WB m) := by
  unfold F_X8_takes_1_14_10_1
  refine ok_bn (s_X8_cutterAt_14 hB hQ) (fun ov hv => ok_oc (fun _ => ok_nm (fun ρ1 e1 => ?_)) (fun c hc => ?_))
  · rw [e1]; exact s_X8_takes_1_14_10_2 hB (pr_set hQ (Or.inl rfl) (fun c e => by cases e))
  · have kc := hv c hc
    refine ok_gd kc.1 (ok_bnT (s_v_twin kc hB hQ) (fun c2 N2 K2 L2 σ2 ρ2 h => ok_nm (fun ρ3 e3 => ?_)))
    obtain ⟨⟨h1, h2⟩, h3⟩ := h
    rw [e3]
    exact s_X8_takes_1_14_10_2 h1 (pr_set h2 (Or.inl rfl) (fun c e => by cases e; exact h3))
theorem s_X8_takes_1_14_10_0 {m : Int} {N : Nat} {K len : Nat → Nat} {σ : SG} {ρ : RG} (hB : BX m σ) (hQ : PR N K len ρ) : ok (F_X8_takes_1_14_10_0 N K len σ ρ) (WB m) := by
  unfold F_X8_takes_1_14_10_0
  refine ok_bn (s_X8_cutterAt_14 hB hQ) (fun ov hv => ok_oc (fun _ => ok_nm (fun ρ1 e1 => ?_)) (fun c hc => ?_))
  · rw [e1]; exact s_X8_takes_1_14_10_1 hB (pr_set hQ (Or.inl rfl) (fun c e => by cases e))
  · have kc := hv c hc
    refine ok_gd kc.1 (ok_bnT (s_v_twin kc hB hQ) (fun c2 N2 K2 L2 σ2 ρ2 h => ok_nm (fun ρ3 e3 => ?_)))
    obtain ⟨⟨h1, h2⟩, h3⟩ := h
    rw [e3]
    exact s_X8_takes_1_14_10_1 h1 (pr_set h2 (Or.inl rfl) (fun c e => by cases e; exact h3))
theorem s_X8_takes_1_14 {m : Int} {N : Nat} {K len : Nat → Nat} {σ : SG} {ρ : RG} (hB : BX m σ) (hQ : PR N K len ρ) : ok (F_X8_takes_1_14 N K len σ ρ) (WB m) := by
  unfold F_X8_takes_1_14
  refine ok_nm (fun σ2 e2 => ?_)
  exact s_X8_takes_1_14_10_0 (by rw [e2]; exact bx_set hB (bx_get hB (r := 14) (a := 1) (b := 1) (k := 1) (l := 0) (h := 6) (by decide) (by decide) (by decide)) (by decide)) hQ
theorem s_X11_image {m : Int} {N : Nat} {K len : Nat → Nat} {σ : SG} {ρ : RG} (hB : BX m σ) (hQ : PR N K len ρ) : ok (F_X11_image N K len σ ρ) (WB m) := by
  unfold F_X11_image
  refine ok_bnT (s_X8_takes_14_1 hB hQ) (fun u N1 K1 L1 σ1 ρ1 h => ok_nm (fun σ2 e2 => ok_some ⟨?_, h.2⟩))
  show BX m σ2
  have h1 : BX m σ1 := h.1
  rw [e2]; exact bx_set h1 (rg_any _) (by decide)
theorem s_X11_undo {m : Int} {N : Nat} {K len : Nat → Nat} {σ : SG} {ρ : RG} (hB : BX m σ) (hQ : PR N K len ρ) : ok (F_X11_undo N K len σ ρ) (WB m) := by
  unfold F_X11_undo
  refine ok_if (fun _ => ok_some ⟨hB, hQ⟩) (fun _ => ok_bnT (s_X8_takes_1_14 hB hQ) (fun u N1 K1 L1 σ1 ρ1 h => ok_some h))
