/-! PART 7610.ev: by hand: what a board adds: class and reference, by one run of a stack of truths -/
def tst (g : Nat → Int32) (c : Int32) : Bool := if c.toInt / 100 % 3 = 0 then decide ((g (c.toInt / 300).toNat).toInt < c.toInt % 100) else if c.toInt / 100 % 3 = 1 then decide ((g (c.toInt / 300).toNat).toInt = c.toInt % 100) else decide (c.toInt % 100 < (g (c.toInt / 300).toNat).toInt)
def ls (g : Nat → Int32) (c : Int32) (l : List Bool) : List Bool := if 0 ≤ c.toInt then tst g c :: l else if c = -1 then (match l with
  | b :: r => (!b) :: r
  | [] => []) else if c = -2 then (match l with
  | a :: b :: r => (b && a) :: r
  | r => r) else (match l with
  | a :: b :: r => (b || a) :: r
  | r => r)
def lrun (g : Nat → Int32) (cd : Nat → Int32) : Nat → Nat → List Bool → List Bool
  | 0, _, l => l
  | n + 1, i, l => lrun g cd n (i + 1) (ls g (cd i) l)
def tv (g cd en : Nat → Int32) (i : Nat) : Bool := (lrun g cd ((en i).toNatClampNeg - fre en i) (fre en i) []).getD 0 false
def asum (g cd pu am en : Nat → Int32) (p : Int32) : Nat → Int32
  | 0 => 0
  | k + 1 => if pu k = p ∧ tv g cd en k = true then asum g cd pu am en p k + am k else asum g cd pu am en p k
theorem ls_len {g : Nat → Int32} {c : Int32} {l : List Bool} {t : Nat} (h : hst c l.length = some t) : (ls g c l).length = t := by
  unfold hst at h
  unfold ls
  by_cases a : 0 ≤ c.toInt
  · rw [if_pos a] at h ⊢
    by_cases b : l.length < 30
    · rw [if_pos b] at h; cases h; rfl
    · rw [if_neg b] at h; cases h
  · rw [if_neg a] at h ⊢
    by_cases a1 : c = -1
    · rw [if_pos a1] at h ⊢
      by_cases b : 1 ≤ l.length
      · rw [if_pos b] at h
        cases l with
        | nil => simp at b
        | cons x r => cases h; rfl
      · rw [if_neg b] at h; cases h
    · rw [if_neg a1] at h ⊢
      by_cases b : 2 ≤ l.length
      · rw [if_pos b] at h
        cases l with
        | nil => simp at b
        | cons x r =>
          cases r with
          | nil => simp at b
          | cons y r =>
            cases h
            by_cases a2 : c = -2
            · rw [if_pos a2]; rfl
            · rw [if_neg a2]; rfl
      · rw [if_neg b] at h; cases h
/-! the class's bits -/
def BV (x : Int32) (l : List Bool) : Prop := l.length ≤ 30 ∧ ∀ i, i < 32 → x.toBitVec.getLsbD i = l.getD i false
theorem bb_one : ∀ i, i < 32 → (1 : Int32).toBitVec.getLsbD i = decide (i = 0) := by decide
theorem bb_nil : ∀ i, i < 32 → (0 : Int32).toBitVec.getLsbD i = false := by decide
theorem bb_m2 : ∀ i, i < 32 → (-2 : Int32).toBitVec.getLsbD i = decide (¬ i = 0) := by decide
theorem bb_and (x y : Int32) (i : Nat) : (x &&& y).toBitVec.getLsbD i = (x.toBitVec.getLsbD i && y.toBitVec.getLsbD i) := by
  rw [Int32.toBitVec_and, BitVec.getLsbD_and]
theorem bb_or (x y : Int32) (i : Nat) : (x ||| y).toBitVec.getLsbD i = (x.toBitVec.getLsbD i || y.toBitVec.getLsbD i) := by
  rw [Int32.toBitVec_or, BitVec.getLsbD_or]
theorem bb_xor (x y : Int32) (i : Nat) : (x ^^^ y).toBitVec.getLsbD i = (x.toBitVec.getLsbD i ^^ y.toBitVec.getLsbD i) := by
  rw [Int32.toBitVec_xor, BitVec.getLsbD_xor]
theorem bb_shl (x : Int32) (i : Nat) (hi : i < 32) : (x <<< ((1 : Int32) &&& 31)).toBitVec.getLsbD i = (!decide (i = 0) && x.toBitVec.getLsbD (i - 1)) := by
  have e : ((1 : Int32) &&& 31).toBitVec.smod 32 = 1#32 := by decide
  rw [Int32.toBitVec_shiftLeft, e]
  show (x.toBitVec <<< 1).getLsbD i = _
  rw [BitVec.getLsbD_shiftLeft]
  by_cases z : i = 0
  · subst z; simp
  · simp [hi, z, show ¬ i < 1 by omega]
theorem bb_shr (x : Int32) (i : Nat) (hi : i < 32) (h31 : x.toBitVec.getLsbD 31 = false) : (x >>> ((1 : Int32) &&& 31)).toBitVec.getLsbD i = (decide (i < 31) && x.toBitVec.getLsbD (i + 1)) := by
  have e : ((1 : Int32) &&& 31).toBitVec.smod 32 = 1#32 := by decide
  rw [Int32.toBitVec_shiftRight, e]
  show (x.toBitVec.sshiftRight 1).getLsbD i = _
  rw [BitVec.getLsbD_sshiftRight]
  have m : x.toBitVec.msb = false := by rw [BitVec.msb_eq_getLsbD_last]; exact h31
  by_cases z : i < 31
  · simp [hi, z, show 1 + i < 32 by omega, Nat.add_comm, show ¬ 32 ≤ i by omega]
    intro h
    omega
  · simp [z, m, show ¬ 1 + i < 32 by omega]
theorem getD_big {l : List Bool} {i : Nat} (h : l.length ≤ i) : l.getD i false = false := by
  rw [List.getD_eq_getElem?_getD, List.getElem?_eq_none h]; rfl
theorem bv_31 {x : Int32} {l : List Bool} (h : BV x l) : x.toBitVec.getLsbD 31 = false := by
  rw [h.2 31 (by decide), getD_big (by have := h.1; omega)]
theorem bv_push {x b : Int32} {l : List Bool} {v : Bool} (h : BV x l) (hl : l.length < 30) (hb : b = if v then 1 else 0) : BV ((x <<< ((1 : Int32) &&& 31)) ||| b) (v :: l) := by
  refine ⟨by show l.length + 1 ≤ 30; omega, fun i hi => ?_⟩
  rw [bb_or, bb_shl x i hi]
  have hb' : b.toBitVec.getLsbD i = (decide (i = 0) && v) := by
    rw [hb]
    cases v
    · rw [if_neg (by decide), bb_nil i hi]; simp
    · rw [if_pos rfl, bb_one i hi]; simp
  rw [hb']
  cases i with
  | zero => simp
  | succ i => simp [h.2 i (by omega)]
theorem bv_not {x : Int32} {b : Bool} {r : List Bool} (h : BV x (b :: r)) : BV (x ^^^ 1) ((!b) :: r) := by
  refine ⟨h.1, fun i hi => ?_⟩
  rw [bb_xor, bb_one i hi, h.2 i hi]
  cases i with
  | zero => simp
  | succ i => simp
theorem bv_shr {x : Int32} {a : Bool} {r : List Bool} (h : BV x (a :: r)) : BV (x >>> ((1 : Int32) &&& 31)) r := by
  have hl : r.length + 1 ≤ 30 := h.1
  refine ⟨by omega, fun i hi => ?_⟩
  rw [bb_shr x i hi (bv_31 h)]
  by_cases z : i < 31
  · rw [h.2 (i + 1) (by omega)]; simp [z]
  · rw [getD_big (by omega)]; simp [z]
theorem bv_bit {x : Int32} {l : List Bool} (h : BV x l) : (x &&& 1 = 0 ↔ l.getD 0 false = false) ∧ (x &&& 1 = if l.getD 0 false = true then 1 else 0) := by
  have e : x &&& 1 = if l.getD 0 false = true then 1 else 0 := by
    apply Int32.toBitVec_inj.mp
    apply BitVec.eq_of_getLsbD_eq
    intro i hi
    rw [bb_and, bb_one i hi, h.2 i hi]
    cases i with
    | zero => cases l.getD 0 false <;> rfl
    | succ i =>
      cases l.getD 0 false
      · rw [if_neg (by decide), bb_nil _ hi]; simp
      · rw [if_pos rfl, bb_one _ hi]; simp
  refine ⟨?_, e⟩
  rw [e]
  cases l.getD 0 false
  · simp
  · simp
theorem bv_and0 {x : Int32} {b : Bool} {r : List Bool} (h : BV x (b :: r)) : BV (x &&& (-2)) (false :: r) := by
  refine ⟨h.1, fun i hi => ?_⟩
  rw [bb_and, bb_m2 i hi, h.2 i hi]
  cases i with
  | zero => simp
  | succ i => simp
theorem bv_or {x y : Int32} {a b : Bool} {r : List Bool} (h : BV x (b :: r)) (hy : y = if a = true then 1 else 0) : BV (x ||| y) ((b || a) :: r) := by
  refine ⟨h.1, fun i hi => ?_⟩
  have hy' : y.toBitVec.getLsbD i = (decide (i = 0) && a) := by
    rw [hy]
    cases a
    · rw [if_neg (by decide), bb_nil i hi]; simp
    · rw [if_pos rfl, bb_one i hi]; simp
  rw [bb_or, hy', h.2 i hi]
  cases i with
  | zero => simp
  | succ i => simp
/-! a test -/
def CG (c : Int32) : Prop := c = -1 ∨ c = -2 ∨ c = -3 ∨ (0 ≤ c.toInt ∧ c.toInt < 1800)
theorem tr_cg {c r : Int32} (h : TR c r) : CG c := by
  rcases h with ⟨h, _⟩ | ⟨h, _⟩ | ⟨h, _⟩ | ⟨m, k, v, m0, m1, k0, k1, v0, v1, e, _⟩
  · exact Or.inl h
  · exact Or.inr (Or.inl h)
  · exact Or.inr (Or.inr (Or.inl h))
  · exact Or.inr (Or.inr (Or.inr (by omega)))
theorem k_isTrue {c : Int32} {qa : Nat} {σ : SG} {ρ : RG} (h0 : 0 ≤ c.toInt) (h1 : c.toInt < 1800) : kp (F_X0_isTrue c qa 6 σ ρ) (fun q => q = if tst (σ qa) c = true then 1 else 0) := by
  have e300 : (300 : Int32).toInt = 300 := rfl
  have e3 : (3 : Int32).toInt = 3 := rfl
  unfold F_X0_isTrue
  refine kp_nm (fun x1 hx1 => ?_)
  have v1 : x1.toInt = c.toInt / 300 := by rw [hx1, ti_div (by decide), e300, Int.tdiv_eq_ediv_of_nonneg h0]
  refine kp_bn (Q := fun q => q = σ qa (c.toInt / 300).toNat) ?_ (fun r2 h2 => kp_nm (fun x3 h3 => kp_nm (fun x4 h4 => kp_nm (fun x5 h5 => ?_))))
  · unfold F_X11_valueAt
    refine kp_ih (fun d => ?_) (fun _ => kp_ih (fun d => ?_) (fun _ => kp_gd (fun _ => kp_some ?_)))
    · have := lt_i d; rw [ti_0] at this; omega
    · have := le_i d
      rw [show (Int32.ofNat 6).toInt = 6 from rfl] at this
      omega
    · rw [cn (x := x1) (z := (c.toInt / 300).toNat) (by omega)]
  · have v3 : x3.toInt = c.toInt % 100 := by rw [h3, ti_rem (by decide), ti_100, Int.tmod_eq_emod_of_nonneg h0]
    have v4 : x4.toInt = c.toInt / 100 := by rw [h4, ti_div (by decide), ti_100, Int.tdiv_eq_ediv_of_nonneg h0]
    have v5 : x5.toInt = c.toInt / 100 % 3 := by rw [h5, ti_rem (by decide), e3, Int.tmod_eq_emod_of_nonneg (by omega), v4]
    have et : tst (σ qa) c = (if x5.toInt = 0 then decide (r2.toInt < x3.toInt) else if x5.toInt = 1 then decide (r2.toInt = x3.toInt) else decide (x3.toInt < r2.toInt)) := by
      unfold tst
      rw [← h2, ← v3, ← v5]
    refine kp_ih (fun d => ?_) (fun d => ?_)
    · have z0 : x5.toInt = 0 := by rw [d]; rfl
      rw [if_pos z0] at et
      refine kp_ih (fun f => kp_some ?_) (fun f => kp_some ?_)
      · have := le_i f
        rw [et, if_neg (by simp; omega)]
      · have := lt_i (nle f)
        rw [et, if_pos (by simp; omega)]
    · have z0 : ¬ x5.toInt = 0 := fun z => d (ieq (by rw [z]; rfl))
      rw [if_neg z0] at et
      refine kp_ih (fun d' => ?_) (fun d' => ?_)
      · have z1 : x5.toInt = 1 := by rw [d']; rfl
        rw [if_pos z1] at et
        refine kp_ih (fun f => kp_some ?_) (fun f => kp_some ?_)
        · rw [et, if_pos (by simp [f])]
        · rw [et, if_neg (by simp; intro z; exact f (ieq z))]
      · have z1 : ¬ x5.toInt = 1 := fun z => d' (ieq (by rw [z]; rfl))
        rw [if_neg z1] at et
        refine kp_ih (fun f => kp_some ?_) (fun f => kp_some ?_)
        · have := le_i f
          rw [et, if_neg (by simp; omega)]
        · have := lt_i (nle f)
          rw [et, if_pos (by simp; omega)]
theorem hst_no {c : Int32} {t : Nat} {l : List Bool} (h : hst c l.length = some t) (hc : (c = -1 ∧ l = []) ∨ ((c = -2 ∨ c = -3) ∧ (l = [] ∨ ∃ x, l = [x]))) : False := by
  have e1 : hst (-1) 0 = none := by decide
  have e2 : hst (-2) 0 = none := by decide
  have e3 : hst (-3) 0 = none := by decide
  have e4 : hst (-2) 1 = none := by decide
  have e5 : hst (-3) 1 = none := by decide
  rcases hc with ⟨rfl, rfl⟩ | ⟨rfl | rfl, rfl | ⟨x, rfl⟩⟩
  · rw [show ([] : List Bool).length = 0 from rfl, e1] at h; cases h
  · rw [show ([] : List Bool).length = 0 from rfl, e2] at h; cases h
  · rw [show [x].length = 1 from rfl, e4] at h; cases h
  · rw [show ([] : List Bool).length = 0 from rfl, e3] at h; cases h
  · rw [show [x].length = 1 from rfl, e5] at h; cases h
/-- the class runs one clause's code -/
theorem k_holds6 {a1 a2 : Int32} {qa : Nat} {σ : SG} {ρ : RG} {v2 : Int32} (h100 : v2.toInt ≤ 100) : ∀ (n : Nat) (v4 v5 : Int32) (l : List Bool) (k : Nat), BV v4 l → 0 ≤ v5.toInt → v5.toInt + (k : Int) = v2.toInt → (∀ q, v5.toNatClampNeg ≤ q → (q : Int) < v2.toInt → CG (σ 9 q)) → (hrun (σ 9) k v5.toNatClampNeg l.length).isSome = true → kp (F_X0_holds_6 a1 a2 qa 6 n σ ρ v2 v4 v5) (fun q => q = if (lrun (σ qa) (σ 9) k v5.toNatClampNeg l).getD 0 false = true then 1 else 0) := by
  intro n
  induction n with
  | zero => intro v4 v5 l k _ _ _ _ _; exact kp_none
  | succ n ih =>
    intro v4 v5 l k hv h0 hk hc hs
    have lc := cl0 h0
    unfold F_X0_holds_6
    have fin : k = 0 → kp (F_X0_holds_143 a1 a2 qa 6 σ ρ v4) (fun q => q = if (lrun (σ qa) (σ 9) k v5.toNatClampNeg l).getD 0 false = true then 1 else 0) := by
      intro k0
      subst k0
      show kp _ (fun q => q = if l.getD 0 false = true then 1 else 0)
      unfold F_X0_holds_143
      refine kp_nm (fun x2 h2 => ?_)
      obtain ⟨b1, b2⟩ := bv_bit hv
      rw [h2]
      refine kp_ih (fun d => kp_some ?_) (fun d => kp_some ?_)
      · rw [b1.mp d]; rfl
      · cases q : l.getD 0 false
        · exact absurd (b1.mpr q) d
        · rfl
    refine kp_ih (fun d => ?_) (fun _ => kp_ih (fun d => fin (by have := le_i d; omega)) (fun d => kp_ih (fun f => ?_) (fun f => ?_)))
    · have := lt_i d; rw [ti_0] at this; omega
    · have := le_i f; have := lt_i (nle d); rw [ti_100] at *; omega
    have lt := lt_i (nle d)
    obtain ⟨k, rfl⟩ : ∃ j, k = j + 1 := ⟨k - 1, by omega⟩
    have C := hc v5.toNatClampNeg (Nat.le_refl _) (by omega)
    obtain ⟨t, ht, hs2⟩ : ∃ t, hst (σ 9 v5.toNatClampNeg) l.length = some t ∧ (hrun (σ 9) k (v5.toNatClampNeg + 1) t).isSome = true := by
      have e : hrun (σ 9) (k + 1) v5.toNatClampNeg l.length = (hst (σ 9 v5.toNatClampNeg) l.length).bind (hrun (σ 9) k (v5.toNatClampNeg + 1)) := rfl
      rw [e] at hs
      cases q : hst (σ 9 v5.toNatClampNeg) l.length with
      | none => rw [q] at hs; cases hs
      | some t => rw [q] at hs; exact ⟨t, rfl, hs⟩
    have len := ls_len (g := σ qa) ht
    have e1 : lrun (σ qa) (σ 9) (k + 1) v5.toNatClampNeg l = lrun (σ qa) (σ 9) k (v5.toNatClampNeg + 1) (ls (σ qa) (σ 9 v5.toNatClampNeg) l) := rfl
    rw [e1]
    have go : ∀ v4' : Int32, BV v4' (ls (σ qa) (σ 9 v5.toNatClampNeg) l) → kp (F_X0_holds_137 a1 a2 qa 6 (F_X0_holds_6 a1 a2 qa 6 n) σ ρ v2 v4' v5) (fun q => q = if (lrun (σ qa) (σ 9) k (v5.toNatClampNeg + 1) (ls (σ qa) (σ 9 v5.toNatClampNeg) l)).getD 0 false = true then 1 else 0) := by
      intro v4' hb
      unfold F_X0_holds_137
      refine kp_nm (fun x18 h18 => ?_)
      have ex : x18.toInt = v5.toInt + 1 := by rw [h18, ti_add (by rw [ti_1]; omega) (by rw [ti_1]; omega), ti_1]
      have en : x18.toNatClampNeg = v5.toNatClampNeg + 1 := cn (by omega)
      rw [← en]
      refine ih v4' x18 _ k hb (by omega) (by omega) (fun q q1 q2 => hc q (by omega) q2) ?_
      rw [en, len]; exact hs2
    refine kp_nm (fun x6 h6 => kp_gd (fun _ => kp_ih (fun c1 => ?_) (fun c1 => kp_gd (fun _ => kp_ih (fun c2 => ?_) (fun c2 => kp_gd (fun _ => kp_ih (fun c3 => ?_) (fun c3 => ?_)))))))
    · -- not
      refine kp_nm (fun x24 h24 => go x24 ?_)
      rw [c1] at ht ⊢
      cases l with
      | nil => exact (hst_no ht (Or.inl ⟨rfl, rfl⟩)).elim
      | cons b r => rw [h24]; exact bv_not hv
    · -- both
      rw [c2] at ht
      obtain ⟨a, b, r, rfl⟩ : ∃ a b r, l = a :: b :: r := by
        cases l with
        | nil => exact (hst_no ht (Or.inr ⟨Or.inl rfl, Or.inl rfl⟩)).elim
        | cons a r =>
          cases r with
          | nil => exact (hst_no ht (Or.inr ⟨Or.inl rfl, Or.inr ⟨a, rfl⟩⟩)).elim
          | cons b r => exact ⟨a, b, r, rfl⟩
      have s6 := bv_shr hv
      rw [← h6] at s6
      obtain ⟨b1, b2⟩ := bv_bit hv
      have el : ls (σ qa) (σ 9 v5.toNatClampNeg) (a :: b :: r) = (b && a) :: r := by rw [c2]; rfl
      refine kp_nm (fun x21 h21 => kp_ih (fun d21 => kp_nm (fun x23 h23 => ?_)) (fun d21 => ?_))
      · unfold F_X0_holds_82
        refine go x23 ?_
        rw [el, h23]
        have : a = false := b1.mp (h21.symm.trans d21)
        rw [this, Bool.and_false]
        exact bv_and0 s6
      · unfold F_X0_holds_82
        refine go x6 ?_
        rw [el]
        have : a = true := by
          cases a
          · exact absurd (h21.trans (b1.mpr rfl)) d21
          · rfl
        rw [this, Bool.and_true]
        exact s6
    · -- one of two
      rw [c3] at ht
      obtain ⟨a, b, r, rfl⟩ : ∃ a b r, l = a :: b :: r := by
        cases l with
        | nil => exact (hst_no ht (Or.inr ⟨Or.inr rfl, Or.inl rfl⟩)).elim
        | cons a r =>
          cases r with
          | nil => exact (hst_no ht (Or.inr ⟨Or.inr rfl, Or.inr ⟨a, rfl⟩⟩)).elim
          | cons b r => exact ⟨a, b, r, rfl⟩
      have s6 := bv_shr hv
      rw [← h6] at s6
      obtain ⟨b1, b2⟩ := bv_bit hv
      have el : ls (σ qa) (σ 9 v5.toNatClampNeg) (a :: b :: r) = (b || a) :: r := by rw [c3]; rfl
      refine kp_nm (fun x19 h19 => kp_nm (fun x20 h20 => go x20 ?_))
      rw [el, h20]
      exact bv_or s6 (h19.trans b2)
    · -- a test
      have cp : 0 ≤ (σ 9 v5.toNatClampNeg).toInt ∧ (σ 9 v5.toNatClampNeg).toInt < 1800 := by
        rcases C with z | z | z | z
        · exact absurd z c1
        · exact absurd z c2
        · exact absurd z c3
        · exact z
      have l30 : l.length < 30 := by
        unfold hst at ht
        rw [if_pos cp.1] at ht
        by_cases q : l.length < 30
        · exact q
        · rw [if_neg q] at ht; cases ht
      have el : ls (σ qa) (σ 9 v5.toNatClampNeg) l = tst (σ qa) (σ 9 v5.toNatClampNeg) :: l := by unfold ls; rw [if_pos cp.1]
      refine kp_nm (fun x13 h13 => kp_gd (fun _ => kp_bn (k_isTrue cp.1 cp.2) (fun r15 h15 => ?_)))
      refine kp_ih (fun d15 => ?_) (fun d15 => ?_)
      · unfold F_X0_holds_134
        refine kp_nm (fun x17 h17 => go x17 ?_)
        rw [el, h17, h13]
        exact bv_push hv l30 (d15.symm.trans h15)
      · unfold F_X0_holds_134
        refine kp_nm (fun x17 h17 => go x17 ?_)
        rw [el, h17, h13]
        refine bv_push hv l30 ?_
        cases q : tst (σ qa) (σ 9 v5.toNatClampNeg)
        · rw [q] at h15; exact absurd h15 d15
        · rfl
/-- the class adds up -/
def CW (cd en : Nat → Int32) (ca : Nat) : Prop := ∀ i, i < ca → fre en i ≤ (en i).toNatClampNeg ∧ rg (en i) 0 100 ∧ (∀ q, fre en i ≤ q → q < (en i).toNatClampNeg → CG (cd q)) ∧ hrun cd ((en i).toNatClampNeg - fre en i) (fre en i) 0 = some 1
theorem cdr_cw {cd pu am en g : Nat → Int32} {ca : Nat} (h : CDR cd pu am en g ca) : CW cd en ca := fun i hi => ⟨(h i hi).1.1, (h i hi).1.2, fun q q1 q2 => tr_cg ((h i hi).2.1 q q1 q2), (h i hi).2.2.2⟩
theorem k_added9 {a1 a3 p : Int32} {qa ca : Nat} {σ : SG} {ρ : RG} (h2 : (σ 5 2).toInt = (ca : Int)) (hca : ca ≤ 10) (W : CW (σ 9) (σ 8) ca) : ∀ (n i : Nat) (v4 v5 v6 : Int32), v6.toInt = (i : Int) → i ≤ ca → v5.toInt = (fre (σ 8) i : Int) → v4 = asum (σ qa) (σ 9) (σ 6) (σ 7) (σ 8) p i → kp (F_X0_added_9 a1 qa 6 a3 n σ ρ p 0 v4 v5 v6) (fun q => q = asum (σ qa) (σ 9) (σ 6) (σ 7) (σ 8) p ca) := by
  intro n
  induction n with
  | zero => intro i v4 v5 v6 _ _ _ _; exact kp_none
  | succ n ih =>
    intro i v4 v5 v6 h6 hi h5 h4
    have e10 : (10 : Int32).toInt = 10 := rfl
    unfold F_X0_added_9
    refine kp_ih (fun d => kp_some ?_) (fun d => kp_ih (fun f => kp_some ?_) (fun f => ?_))
    · have := le_i d
      rw [h4, show i = ca by omega]
    · have := le_i f
      rw [h4, show i = ca by omega]
    have lt := lt_i (nle d)
    have il : i < ca := by omega
    obtain ⟨w1, w2, w3, w4⟩ := W i il
    have n6 : v6.toNatClampNeg = i := cn h6
    rw [n6]
    have as : asum (σ qa) (σ 9) (σ 6) (σ 7) (σ 8) p (i + 1) = if σ 6 i = p ∧ tv (σ qa) (σ 9) (σ 8) i = true then v4 + σ 7 i else v4 := by rw [h4]; rfl
    have go : ∀ v4' : Int32, v4' = asum (σ qa) (σ 9) (σ 6) (σ 7) (σ 8) p (i + 1) → kp (F_X0_added_81 a1 qa 6 a3 (F_X0_added_9 a1 qa 6 a3 n) σ ρ p 0 v4' v6) (fun q => q = asum (σ qa) (σ 9) (σ 6) (σ 7) (σ 8) p ca) := by
      intro v4' hv
      unfold F_X0_added_81
      refine kp_gd (fun _ => kp_nm (fun x6 hx => ?_))
      rw [n6]
      have ex : x6.toInt = ((i + 1 : Nat) : Int) := by rw [hx, ti_add (by rw [ti_1]; omega) (by rw [ti_1]; omega), ti_1, h6]; omega
      refine ih (i + 1) v4' (σ 8 i) x6 ex il ?_ hv
      have := cl0 w2.1
      unfold fre
      rw [if_neg (by omega)]
      exact this.symm
    have run : kp (F_X0_holds v5 (σ 8 i) qa 6 σ ρ) (fun q => q = if tv (σ qa) (σ 9) (σ 8) i = true then 1 else 0) := by
      unfold F_X0_holds
      have n5 : v5.toNatClampNeg = fre (σ 8) i := cn h5
      have c8 := cl0 w2.1
      have := k_holds6 (a1 := v5) (a2 := σ 8 i) (qa := qa) (σ := σ) (ρ := ρ) (v2 := σ 8 i) w2.2 1024 0 v5 [] ((σ 8 i).toNatClampNeg - fre (σ 8) i) ⟨by decide, fun j hj => by rw [bb_nil j hj]; rfl⟩ (by omega) (by omega) (fun q q1 q2 => w3 q (by omega) (by omega)) (by rw [n5]; show (hrun _ _ _ 0).isSome = true; rw [w4]; rfl)
      rw [n5] at this
      exact this
    refine kp_gd (fun _ => kp_ih (fun c1 => kp_gd (fun _ => kp_bn run (fun r8 h8 => ?_))) (fun c1 => go v4 (by rw [as, if_neg (fun z => c1 z.1)])))
    refine kp_ih (fun d8 => go v4 ?_) (fun d8 => kp_t rfl (kp_gd (fun _ => ?_)))
    · rw [as, if_neg]
      rintro ⟨_, z⟩
      rw [z] at h8
      rw [h8] at d8
      exact absurd d8 (by decide)
    · unfold F_X0_added_78
      refine kp_nm (fun x12 h12 => go x12 ?_)
      rw [as, if_pos, h12]
      refine ⟨c1, ?_⟩
      cases q : tv (σ qa) (σ 9) (σ 8) i
      · rw [q] at h8; exact absurd h8 d8
      · rfl
theorem k_added {p : Int32} {qa ca : Nat} {σ : SG} {ρ : RG} (h2 : (σ 5 2).toInt = (ca : Int)) (hca : ca ≤ 10) (W : CW (σ 9) (σ 8) ca) : kp (F_X0_added p qa 6 0 σ ρ) (fun q => q = asum (σ qa) (σ 9) (σ 6) (σ 7) (σ 8) p ca) := by
  unfold F_X0_added
  exact k_added9 h2 hca W 1024 0 0 0 0 rfl (Nat.zero_le _) rfl rfl
