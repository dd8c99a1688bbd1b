/-! PART 7602.pc: by hand: the two parsers side by side: a test, a factor, every, some -/
/-- one sign of several: the class's indexOf -/
theorem k_ixc {i : Nat} {a2 a3 a4 L : Int32} {σ : SG} {ρ : RG} (hL : L.toInt ≤ 100) : ∀ (n : Nat) (v4 v5 : Int32), 0 ≤ v5.toInt → kp (F_J1_indexOfChar_4cfef_7 i a2 a3 a4 n σ ρ L v4 v5) (fun q => (∃ j : Nat, v5.toInt ≤ (j : Int) ∧ (j : Int) < L.toInt ∧ q.toInt = (j : Int) ∧ LT i j = v4) ∨ (q = -1 ∧ ∀ j : Nat, v5.toInt ≤ (j : Int) → (j : Int) < L.toInt → LT i j ≠ v4)) := by
  intro n
  induction n with
  | zero => intro v4 v5 _; exact kp_none
  | succ n ih =>
    intro v4 v5 h0
    unfold F_J1_indexOfChar_4cfef_7
    refine kp_ih (fun c => kp_some (Or.inr ⟨rfl, fun j a b => ?_⟩)) (fun c => kp_gd (fun _ => kp_ih (fun d => kp_some (Or.inl ⟨v5.toNatClampNeg, ?_, ?_, ?_, d⟩)) (fun d => kp_nm (fun x hx => ?_))))
    · have := le_i c; omega
    · have := cl0 h0; omega
    · have := cl0 h0; have := lt_i (nle c); omega
    · exact (cl0 h0).symm
    · have lt := lt_i (nle c)
      have ex : x.toInt = v5.toInt + 1 := by rw [hx, ti_add (by rw [ti_1]; omega) (by rw [ti_1]; omega), ti_1]
      refine kp_mono (ih v4 x (by omega)) (fun q h => h.elim (fun ⟨j, a, b, c', d'⟩ => Or.inl ⟨j, by omega, b, c', d'⟩) (fun ⟨a, b⟩ => Or.inr ⟨a, fun j j1 j2 => ?_⟩))
      by_cases e : (j : Int) = v5.toInt
      · have : j = v5.toNatClampNeg := by have := cl0 h0; omega
        rw [this]; exact d
      · exact b j (by omega) j2
theorem char_val {c x : Int32} (hc : rg c (-128) 127) (hx : x = (c.toUInt32 % 65536).toInt32) : (0 ≤ c.toInt → x = c) ∧ (c.toInt < 0 → 255 < x.toInt) := by
  obtain ⟨a, b⟩ := hc
  have key : x.toInt = c.toInt % 65536 := by
    rw [hx]
    have e1 : ((c.toUInt32 % 65536).toInt32).toInt = ((c.toUInt32 % 65536).toNat : Int) := by
      have : (c.toUInt32 % 65536).toNat < 65536 := by
        rw [UInt32.toNat_mod]
        exact Nat.mod_lt _ (by decide)
      show ((c.toUInt32 % 65536).toBitVec).toInt = _
      rw [BitVec.toInt_eq_toNat_of_lt]
      · rfl
      · show 2 * (c.toUInt32 % 65536).toNat < _
        omega
    rw [e1, UInt32.toNat_mod]
    have e2 : ((c.toUInt32.toNat : Nat) : Int) = c.toInt % 4294967296 := by
      show ((c.toBitVec.toNat : Nat) : Int) = c.toBitVec.toInt % 4294967296
      have := BitVec.toInt_eq_toNat_bmod c.toBitVec
      rw [this]
      have hl : c.toBitVec.toNat < 2 ^ 32 := c.toBitVec.isLt
      rw [show (2 ^ 32 : Nat) = 4294967296 from rfl] at *
      have q := Int.bmod_emod (x := (c.toBitVec.toNat : Int)) (m := 4294967296)
      have e0 : ((4294967296 : Nat) : Int) = 4294967296 := rfl
      rw [e0] at q
      rw [q]
      omega
    show ((c.toUInt32.toNat % 65536 : Nat) : Int) = _
    omega
  refine ⟨fun h => ieq (by omega), fun h => by omega⟩
theorem i8_val {x : Int32} (h0 : 0 ≤ x.toInt) (h1 : x.toInt ≤ 127) : x.toInt8.toInt32 = x := by
  apply Int32.toInt_inj.mp
  rw [Int8.toInt_toInt32, Int32.toInt_toInt8]
  exact Int.bmod_eq_of_le (by omega) (by omega)
theorem k_ix {i : Nat} {c x : Int32} {σ : SG} {ρ : RG} (hi : i < 6) (hc : rg c (-128) 127) (hx : x = (c.toUInt32 % 65536).toInt32) : kp (F_J0_indexOf_0f7a4 i x σ ρ) (fun q => (∃ j : Nat, j < sLen.getD i 0 ∧ q.toInt = (j : Int) ∧ c = LT i j) ∨ (q = -1 ∧ ∀ j : Nat, j < sLen.getD i 0 → c ≠ LT i j)) := by
  obtain ⟨x1, x2⟩ := char_val hc hx
  unfold F_J0_indexOf_0f7a4 F_J0_indexOf_7cf53
  have none_ : c.toInt < 0 → ∀ q : Int32, q = -1 → (∃ j : Nat, j < sLen.getD i 0 ∧ q.toInt = (j : Int) ∧ c = LT i j) ∨ (q = -1 ∧ ∀ j : Nat, j < sLen.getD i 0 → c ≠ LT i j) := fun h q hq => Or.inr ⟨hq, fun j hj e => by have := (lt_rg hi hj).1; rw [← e] at this; omega⟩
  refine kp_bn (Q := fun q => (∃ j : Nat, j < sLen.getD i 0 ∧ q.toInt = (j : Int) ∧ c = LT i j) ∨ (q = -1 ∧ ∀ j : Nat, j < sLen.getD i 0 → c ≠ LT i j)) ?_ (fun r1 h1 => kp_some h1)
  refine kp_bx (fun r1 => kp_ih (fun _ => kp_bx (fun _ => kp_none)) (fun _ => kp_bn (k_len hi) (fun r4 h4 => kp_bn (Q := fun q => (∃ j : Nat, j < sLen.getD i 0 ∧ q.toInt = (j : Int) ∧ c = LT i j) ∨ (q = -1 ∧ ∀ j : Nat, j < sLen.getD i 0 → c ≠ LT i j)) ?_ (fun r5 h5 => kp_some h5))))
  unfold F_J1_indexOf_4cfef
  have e255 : (255 : Int32).toInt = 255 := rfl
  refine kp_bn (Q := fun q => (q = 0 → c.toInt < 0) ∧ (¬ q = 0 → x.toInt ≤ 255)) ?_ (fun r1 h1 => kp_ih (fun d => kp_some (none_ (h1.1 d) _ rfl)) (fun d => kp_nm (fun x3 h3 => kp_nm (fun x4 h4' => ?_))))
  · unfold F_J1_canEncode_9a6ad
    refine kp_ih (fun d => kp_some ⟨fun _ => ?_, fun n => absurd rfl n⟩) (fun d => kp_ih (fun f => kp_some ⟨fun _ => ?_, fun n => absurd rfl n⟩) (fun f => kp_some ⟨fun z => absurd z (by decide), fun _ => by have := le_i (nlt f); omega⟩))
    · have := lt_i d
      rw [ti_0] at this
      rcases Int.lt_or_le c.toInt 0 with z | z
      · exact z
      · rw [x1 z] at this; exact this
    · have := lt_i f
      rw [e255] at this
      rcases Int.lt_or_le c.toInt 0 with z | z
      · exact z
      · rw [x1 z] at this; have := hc.2; omega
  · have z3 : x3 = 0 := by rw [h3, if_neg (by decide)]
    have l6 : sLen.getD i 0 ≤ 6 := by
      rcases (show i = 0 ∨ i = 1 ∨ i = 2 ∨ i = 3 ∨ i = 4 ∨ i = 5 by omega) with rfl | rfl | rfl | rfl | rfl | rfl <;> decide
    have z4 : x4 = r4 := by
      rw [h4']
      by_cases q : (Int32.ofNat (sLen.getD i 0)) < r4
      · exfalso
        have := lt_i q
        rw [h4, Int32.toInt_ofNat_of_lt (by omega)] at this
        omega
      · rw [if_neg q]
    refine kp_ih (fun f => ?_) (fun f => kp_some ?_)
    · unfold F_J1_indexOfChar_4cfef
      rcases Int.lt_or_le c.toInt 0 with z | z
      · have := x2 z
        have := h1.2 d
        omega
      · refine kp_bn (k_ixc (L := x4) (by rw [z4, h4]; omega) 1024 _ x3 (by rw [z3, ti_0]; omega)) (fun r6 h6 => kp_some ?_)
        rw [x1 z, i8_val z hc.2, z4, h4, z3, ti_0] at h6
        rcases h6 with ⟨j, j1, j2, j3, j4⟩ | ⟨j1, j2⟩
        · exact Or.inl ⟨j, by omega, j3, j4.symm⟩
        · exact Or.inr ⟨j1, fun j hj e => j2 j (by omega) (by omega) e.symm⟩
    · refine Or.inr ⟨rfl, fun j hj _ => f ?_⟩
      rw [z3, z4]
      exact i_lt (by rw [ti_0, h4]; omega)

theorem k_among {w : Nat} {fh : Nat → Int32} {b : Nat} {e o : Int32} {π δ : Int} {t ca : Nat} {σ τ : SG} {ρ ρ' : RG} (hw : w < 6) (h : PS fh b e o π δ t ca σ ρ τ) : ∀ (n : Nat) (v2 : Int32), 0 ≤ v2.toInt → v2.toInt < 100 → kp (F_X12_among_2 w n τ ρ' v2) (fun q => (∃ j : Nat, v2.toInt ≤ (j : Int) ∧ j < sLen.getD w 0 ∧ q.1.toInt = (j : Int) ∧ cH τ (τ 54 6) = LT w j ∧ q.2 = s2 τ 54 6 (τ 54 6 + 1)) ∨ (q.1 = -1 ∧ q.2 = τ ∧ ∀ j : Nat, v2.toInt ≤ (j : Int) → j < sLen.getD w 0 → cH τ (τ 54 6) ≠ LT w j)) := by
  have l6 : sLen.getD w 0 ≤ 6 := by
    rcases (show w = 0 ∨ w = 1 ∨ w = 2 ∨ w = 3 ∨ w = 4 ∨ w = 5 by omega) with rfl | rfl | rfl | rfl | rfl | rfl <;> decide
  intro n
  induction n with
  | zero => intro v2 _ _; exact kp_none
  | succ n ih =>
    intro v2 h0 h1
    unfold F_X12_among_2
    refine kp_bn (k_len hw) (fun r1 e1 => kp_ih (fun c => kp_some (Or.inr ⟨rfl, rfl, fun j a b => ?_⟩)) (fun c => kp_bn (ps_here h) (fun r3 h3 => kp_bn (k_charAt hw) (fun r4 h4 => ?_))))
    · have := le_i c; omega
    · have lt := lt_i (nle c)
      have lc := cl0 h0
      have e4 := h4 v2.toNatClampNeg lc.symm (by omega)
      refine kp_ih (fun q => kp_nm (fun x7 g7 => kp_nm (fun τ9 g9 => kp_some (Or.inl ⟨v2.toNatClampNeg, by omega, by omega, lc.symm, ?_, ?_⟩)))) (fun q => kp_nm (fun x6 g6 => ?_))
      · rw [← h3, q, e4]
      · show τ9 = _
        rw [g9, g7]
      · have ex : x6.toInt = v2.toInt + 1 := by rw [g6, ti_add (by rw [ti_1]; omega) (by rw [ti_1]; omega), ti_1]
        refine kp_mono (ih x6 (by omega) (by omega)) (fun z hz => hz.elim (fun ⟨j, a, b, c', d'⟩ => Or.inl ⟨j, by omega, b, c', d'⟩) (fun ⟨a, b, c'⟩ => Or.inr ⟨a, b, fun j j1 j2 => ?_⟩))
        by_cases ej : (j : Int) = v2.toInt
        · have : j = v2.toNatClampNeg := by omega
          rw [this, ← e4, ← h3]; exact q
        · exact c' j (by omega) j2
theorem lt_inj {w i j : Nat} (hw : w = 4 ∨ w = 5) (hi : i < sLen.getD w 0) (hj : j < sLen.getD w 0) (h : LT w i = LT w j) : i = j := by
  have k4 : ∀ i, i < sLen.getD 4 0 → ∀ j, j < sLen.getD 4 0 → LT 4 i = LT 4 j → i = j := by decide
  have k5 : ∀ i, i < sLen.getD 5 0 → ∀ j, j < sLen.getD 5 0 → LT 5 i = LT 5 j → i = j := by decide
  rcases hw with rfl | rfl
  · exact k4 i hi j hj h
  · exact k5 i hi j hj h
/-- both look for one sign of several -/
def IX (w : Nat) (e r r' : Int32) (σ τ τ' : SG) : Prop := (∃ j : Nat, j < sLen.getD w 0 ∧ r.toInt = (j : Int) ∧ r' = r ∧ (σ 29 10).toInt < e.toInt ∧ τ' = s2 τ 54 6 (τ 54 6 + 1)) ∨ (r = -1 ∧ r' = -1 ∧ τ' = τ)
theorem sim_ix {w : Nat} {fh : Nat → Int32} {b : Nat} {e o c x : Int32} {π δ : Int} {t ca : Nat} {σ τ : SG} {ρ ρ' : RG} (hw : w = 4 ∨ w = 5) (h : PS fh b e o π δ t ca σ ρ τ) (hc : c = cN σ (σ 29 10)) (hx : x = (c.toUInt32 % 65536).toInt32) : kp (F_J0_indexOf_0f7a4 w x σ ρ) (fun r => (0 ≤ r.toInt → (σ 29 10).toInt < e.toInt ∧ r.toInt < ((sLen.getD w 0 : Nat) : Int)) ∧ kp (F_X12_among w τ ρ') (fun q => IX w e r q.1 σ τ q.2)) := by
  have hw6 : w < 6 := by omega
  have rc : rg c (-128) 127 := by
    rcases ps_cN h with ⟨_, z, _⟩ | ⟨z, _, _⟩
    · rw [hc]; exact z
    · rw [hc, z]; exact ⟨by decide, by decide⟩
  refine kp_mono (k_ix hw6 rc hx) (fun r hr => ⟨fun p0 => ?_, ?_⟩)
  · rcases hr with ⟨j, j1, j2, j3⟩ | ⟨j1, j2⟩
    · exact ⟨(ps_is h (c := LT w j) (lt_rg hw6 j1).1).2 (by rw [← hc]; exact j3), by omega⟩
    · rw [j1] at p0; exact absurd p0 (by decide)
  unfold F_X12_among
  refine kp_mono (k_among (ρ' := ρ') hw6 h 1024 0 (by decide) (by decide)) (fun q hq => ?_)
  rcases hr with ⟨j, j1, j2, j3⟩ | ⟨j1, j2⟩
  · have is := ps_is h (c := LT w j) (lt_rg hw6 j1).1
    have cj : cN σ (σ 29 10) = LT w j := by rw [← hc]; exact j3
    rcases hq with ⟨i, _, i1, i2, i3, i4⟩ | ⟨i1, i2, i3⟩
    · have : j = i := lt_inj hw j1 i1 (by rw [← is.1.mp cj, i3])
      exact Or.inl ⟨j, j1, j2, ieq (by rw [i2, j2, this]), is.2 cj, i4⟩
    · exact absurd (is.1.mp cj) (i3 j (by rw [ti_0]; omega) j1)
  · rcases hq with ⟨i, _, i1, i2, i3, i4⟩ | ⟨i1, i2, i3⟩
    · have is := ps_is h (c := LT w i) (lt_rg hw6 i1).1
      exact absurd (hc.trans (is.1.mpr i3)) (j2 i i1)
    · exact Or.inr ⟨j1, i1, i2⟩
theorem ps_w0 {fh : Nat → Int32} {b : Nat} {e o : Int32} {π δ : Int} {t ca : Nat} {σ τ : SG} {ρ : RG} (h : PS fh b e o π δ t ca σ ρ τ) : PS fh b e o π δ t ca σ ρ (s2 τ 54 8 0) :=
  ps_new h (fun _ _ _ => rfl) (fun r k n => sn (by omega)) (by rw [sn (by omega)]; exact h.2.1.1) h.2.1.2.1 (by omega) h.2.1.2.2.1 h.2.1.2.2.2 (by rw [sv]) (by rw [sn (by omega)]; exact h.2.2.1.2)
theorem w_169 {R : SG → RG → Option SG} {v2 v3 : Int32} {τ : SG} {ρ : RG} : kp (F_X12_factor_B_169 R τ ρ v2 v3 (1 : Int32)) (fun q => WS τ q) := by
  unfold F_X12_factor_B_169
  refine kp_gd (fun _ => kp_nm (fun τ3 g3 => ?_))
  have w3 : ¬ τ3 54 8 = 0 := by rw [g3, sv]; decide
  have a3 : WS τ τ3 := ⟨w3, by rw [g3, sn (by omega)], by rw [g3, s2_ne 55 (by decide)]⟩
  exact kp_bn2 (w_figures w3) (fun r32 τ32 g32 => kp_nm (fun x33 _ => kp_nm (fun x34 _ => kp_nm (fun x35 _ => kp_nm (fun x36 _ => kp_bn (w_emits (ws_trans a3 g32).1) (fun τ37 g37 => kp_some (ws_trans (ws_trans a3 g32) g37)))))))
theorem w_150 {R : SG → RG → Option SG} {v2 v3 : Int32} {τ : SG} {ρ : RG} (w : ¬ τ 54 8 = 0) : kp (F_X12_factor_B_150 R τ ρ v2 v3) (fun q => WS τ q) := by
  unfold F_X12_factor_B_150
  refine kp_f w ?_
  unfold F_X12_factor_B_164
  exact w_169
theorem w_130 {R : SG → RG → Option SG} {v2 : Int32} {τ : SG} {ρ : RG} : kp (F_X12_factor_B_130 R τ ρ v2 (1 : Int32)) (fun q => WS τ q) := by
  unfold F_X12_factor_B_130
  refine kp_gd (fun _ => kp_nm (fun τ3 g3 => ?_))
  have w3 : ¬ τ3 54 8 = 0 := by rw [g3, sv]; decide
  have a3 : WS τ τ3 := ⟨w3, by rw [g3, sn (by omega)], by rw [g3, s2_ne 55 (by decide)]⟩
  exact kp_f w3 (kp_mono (w_150 w3) (fun q h => ws_trans a3 h))
/-- both are through, or both are wrong -/
def OU (fh : Nat → Int32) (b : Nat) (e o : Int32) (π δ : Int) (t ca : Nat) (ρ : RG) (q : Int32 × SG) (τ' : SG) : Prop := (q.1 = 1 ∧ PS fh b e o π δ t ca q.2 ρ τ') ∨ (q.1 = 0 ∧ FL fh b q.2 τ')
theorem sim_test {R : SG → RG → Option SG} {fh : Nat → Int32} {b : Nat} {e o : Int32} {π δ : Int} {t ca : Nat} {σ τ : SG} {ρ ρ' : RG} (h : PS fh b e o π δ t ca σ ρ τ) (h0 : 0 ≤ δ) (ht : t < 30) : kp (F_X0_readTest σ ρ) (fun q => kp (bn2 (F_X12_among 4 τ ρ') fun r23 σ23 => if r23 = (-1 : Int32) then F_X12_factor_B_130 R σ23 ρ' r23 (1 : Int32) else F_X12_factor_B_130 R σ23 ρ' r23 (0 : Int32)) (fun q' => OU fh b e o π δ (t + 1) ca ρ q q')) := by
  have em : (-1 : Int32).toInt = -1 := rfl
  unfold F_X0_readTest
  refine kp_bn (ps_next h) (fun r1 h1 => kp_nm (fun x2 h2 => kp_bn (sim_ix (ρ' := ρ') (Or.inl rfl) h h1 h2) (fun r3 h3 => ?_)))
  refine kp_ih (fun c => kp_nm (fun x5 h5 => kp_nm (fun σ7 h7 => ?_))) (fun c => kp_some (kp_bn2 h3.2 (fun r23 τ23 g23 => ?_)))
  · have c0 := le_i c
    rw [ti_0] at c0
    obtain ⟨lt3, l3⟩ := h3.1 c0
    have l3 : r3.toInt < 6 := l3
    have p7 : PS fh b e o π (δ + 1) t ca σ7 ρ (s2 (s2 τ 54 6 (τ 54 6 + 1)) 54 8 0) := by
      rw [h7]
      exact ps_w0 (ps_adv h lt3 h5 rfl (by have := h.2.1.2.1; omega))
    -- the reference behind its first sign
    have ref : ∀ Q : SG → Prop, kp (bn2 (F_X12_among 5 (s2 (s2 τ 54 6 (τ 54 6 + 1)) 54 8 0) ρ') fun r28 σ28 => F_X12_factor_B_150 R σ28 ρ' r3 r28) Q → kp (bn2 (F_X12_among 4 τ ρ') fun r23 σ23 => if r23 = (-1 : Int32) then F_X12_factor_B_130 R σ23 ρ' r23 (1 : Int32) else F_X12_factor_B_130 R σ23 ρ' r23 (0 : Int32)) Q := by
      intro Q hQ
      refine kp_bn2 h3.2 (fun r23 τ23 g23 => ?_)
      rcases g23 with ⟨j, j1, j2, j3, j4, j5⟩ | ⟨j1, j2, j3⟩
      · have e3 : r23 = r3 := j3
        have e5 : τ23 = s2 τ 54 6 (τ 54 6 + 1) := j5
        rw [e3, e5]
        refine kp_f (fun z => by rw [z] at c0; exact absurd c0 (by decide)) ?_
        unfold F_X12_factor_B_130
        exact kp_gd (fun _ => kp_nm (fun τ26 g26 => by
          subst g26
          exact kp_t (by rw [sv]) hQ))
      · rw [j1] at c0; exact absurd c0 (by decide)
    have w7 := p7.2.2.1.1
    refine kp_bn (ps_next p7) (fun r8 h8 => kp_nm (fun x9 h9 => kp_bn (sim_ix (ρ' := ρ') (Or.inr rfl) p7 h8 h9) (fun r10 h10 => ?_)))
    refine kp_ih (fun c2 => kp_nm (fun x12 h12 => kp_nm (fun σ14 h14 => ?_))) (fun c2 => kp_some (ref _ (kp_bn2 h10.2 (fun r28 τ28 g28 => ?_))))
    · have c0' := le_i c2
      rw [ti_0] at c0'
      obtain ⟨lt10, l10⟩ := h10.1 c0'
      have l10 : r10.toInt < 3 := l10
      generalize (s2 (s2 τ 54 6 (τ 54 6 + 1)) 54 8 0) = τ7 at p7 ref w7 h10
      have p14 : PS fh b e o π (δ + 1 + 1) t ca σ14 ρ (s2 (s2 τ7 54 6 (τ7 54 6 + 1)) 54 8 0) := by
        rw [h14]
        exact ps_w0 (ps_adv p7 lt10 h12 rfl (by have := p7.2.1.2.1; omega))
      have ref2 : ∀ Q : SG → Prop, kp (bn2 (F_X12_figures (s2 (s2 τ7 54 6 (τ7 54 6 + 1)) 54 8 0) ρ') fun r32 σ32 => nm ((8 : Int32) * r10) fun x33 => nm (r3 + x33) fun x34 => nm ((32 : Int32) * r32) fun x35 => nm (x34 + x35) fun x36 => bn (F_X12_emits x36 σ32 ρ') fun σ37 => some σ37) Q → kp (bn2 (F_X12_among 4 τ ρ') fun r23 σ23 => if r23 = (-1 : Int32) then F_X12_factor_B_130 R σ23 ρ' r23 (1 : Int32) else F_X12_factor_B_130 R σ23 ρ' r23 (0 : Int32)) Q := by
        intro Q hQ
        refine ref Q (kp_bn2 h10.2 (fun r28 τ28 g28 => ?_))
        rcases g28 with ⟨j, j1, j2, j3, j4, j5⟩ | ⟨j1, j2, j3⟩
        · have e3 : r28 = r10 := j3
          have e5 : τ28 = s2 τ7 54 6 (τ7 54 6 + 1) := j5
          rw [e3, e5]
          unfold F_X12_factor_B_150
          refine kp_t (by rw [sn (by omega)]; exact w7) (kp_f (fun z => by rw [z] at c0'; exact absurd c0' (by decide)) ?_)
          unfold F_X12_factor_B_169
          exact kp_gd (fun _ => kp_nm (fun τ31 g31 => by
            subst g31
            exact hQ))
        · rw [j1] at c0'; exact absurd c0' (by decide)
      refine kp_bn2 (sim_num (ρ' := ρ') p14) (fun r15 σ15 h15 => ?_)
      refine kp_ih (fun c3 => kp_some (ref2 _ (kp_bn2 h15 (fun r32 τ32 g32 => ?_)))) (fun c3 => kp_nm (fun x17 h17 => kp_nm (fun x18 h18 => kp_nm (fun x19 h19 => kp_nm (fun x20 h20 => ?_)))))
      · rcases g32 with ⟨z, -⟩ | ⟨_, z⟩
        · have z : r15 = 1 := z
          rw [z] at c3; exact absurd c3 (by decide)
        · have z : FL fh b σ15 τ32 := z
          exact kp_nm (fun x33 _ => kp_nm (fun x34 _ => kp_nm (fun x35 _ => kp_nm (fun x36 _ => kp_bn (w_emits z.1) (fun τ37 g37 => kp_some (Or.inr ⟨rfl, ws_fl z g37⟩))))))
      · -- the step is put
        have e3' : (3 : Int32).toInt = 3 := rfl
        have e8 : (8 : Int32).toInt = 8 := rfl
        have e32 : (32 : Int32).toInt = 32 := rfl
        have v17 : x17.toInt = r3.toInt * 3 := by rw [h17, Int32.toInt_mul, e3', bmod_id (by omega) (by omega)]
        have v18 : x18.toInt = r3.toInt * 3 + r10.toInt := by rw [h18, ti_add (by omega) (by omega), v17]
        have v19 : x19.toInt = (r3.toInt * 3 + r10.toInt) * 100 := by rw [h19, Int32.toInt_mul, ti_100, v18, bmod_id (by omega) (by omega)]
        intro q hq
        refine ref2 _ (kp_bn2 h15 (fun r32 τ32 g32 => ?_))
        rcases g32 with ⟨_, z1, z2, z3⟩ | ⟨z, _⟩
        · have z1 : σ15 29 11 = r32 := z1
          have z2 : rg r32 0 99 := z2
          have z3 : PS fh b e o π (δ + 1 + 1 + 1) t ca σ15 ρ τ32 := z3
          obtain ⟨u1, u2⟩ := z2
          have v20 : x20.toInt = (r3.toInt * 3 + r10.toInt) * 100 + r32.toInt := by rw [h20, z1, ti_add (by omega) (by omega), v19]
          refine kp_nm (fun x33 g33 => kp_nm (fun x34 g34 => kp_nm (fun x35 g35 => kp_nm (fun x36 g36 => ?_))))
          have w33 : x33.toInt = 8 * r10.toInt := by rw [g33, Int32.toInt_mul, e8, bmod_id (by omega) (by omega)]
          have w34 : x34.toInt = r3.toInt + 8 * r10.toInt := by rw [g34, ti_add (by omega) (by omega), w33]
          have w35 : x35.toInt = 32 * r32.toInt := by rw [g35, Int32.toInt_mul, e32, bmod_id (by omega) (by omega)]
          have w36 : x36.toInt = r3.toInt + 8 * r10.toInt + 32 * r32.toInt := by rw [g36, ti_add (by omega) (by omega), w34, w35]
          have T : TR x20 x36 := Or.inr (Or.inr (Or.inr ⟨r3.toInt, r10.toInt, r32.toInt, c0, l3, c0', l10, u1, by omega, v20, w36⟩))
          have S : hst x20 t = some (t + 1) := by
            unfold hst
            rw [if_pos (by omega), if_pos ht]
          have P := sim_put (ρ' := ρ') z3 (by omega) T S
          have P2 : kp (bn2 (F_X0_put x20 σ15 ρ) fun r21 σ21 => if r21 = 0 then some ((0 : Int32), σ21) else some ((1 : Int32), σ21)) (fun q => kp (bn (F_X12_emits x36 τ32 ρ') fun σ37 => some σ37) (fun q' => OU fh b e o π δ (t + 1) ca ρ q q')) := by
            refine kp_bn2 P (fun r21 σ21 g21 => kp_f (fun z => by have := g21.1; rw [show r21 = 1 from this] at z; exact absurd z (by decide)) (kp_some (kp_bn g21.2 (fun τ37 g37 => kp_some (Or.inl ⟨rfl, ps_lo g37 (Int.le_refl _) (by omega)⟩)))))
          exact P2 q hq
        · exact absurd z c3
    · rcases g28 with ⟨j, j1, j2, -⟩ | ⟨j1, j2, j3⟩
      · exact absurd (i_le (by rw [ti_0, j2]; omega)) c2
      · have e3 : τ28 = _ := j3
        have e4 : r28 = -1 := j2
        rw [e3, e4]
        unfold F_X12_factor_B_150
        refine kp_t w7 (kp_t rfl ?_)
        unfold F_X12_factor_B_164
        exact kp_mono w_169 (fun q' hq => Or.inr ⟨rfl, ps_fl p7 hq.1 (by show σ7 29 10 = _; rw [hq.2.1]; exact p7.2.1.1) hq.2.2⟩)
  · rcases g23 with ⟨j, j1, j2, -⟩ | ⟨j1, j2, j3⟩
    · exact absurd (i_le (by rw [ti_0, j2]; omega)) c
    · have e3 : τ23 = τ := j3
      have e4 : r23 = -1 := j2
      rw [e3, e4]
      refine kp_t rfl ?_
      exact kp_mono w_130 (fun q' hq => Or.inr ⟨rfl, ps_fl h hq.1 (by show σ 29 10 = _; rw [hq.2.1]; exact h.2.1.1) hq.2.2⟩)
