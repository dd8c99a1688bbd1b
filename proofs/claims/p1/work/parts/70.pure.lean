/-! PART 70.pure: F of the law on every script of at most 6 ints -/
theorem bn_some {α β : Type} (x : α) (f : α → Option β) : bn (some x) f = f x := rfl
theorem bn2_some {α β γ : Type} (x : α) (y : β) (f : α → β → Option γ) : bn2 (some (x, y)) f = f x y := rfl
theorem bn3_some {α β γ δ : Type} (x : α) (y : β) (z : γ) (f : α → β → γ → Option δ) : bn3 (some (x, y, z)) f = f x y z := rfl
theorem bnT_some {α γ : Type} (a : α) (N : Nat) (K len : Nat → Nat) (σ : SG) (ρ : RG) (f : α → Nat → (Nat → Nat) → (Nat → Nat) → SG → RG → Option γ) : bnT (some (a, N, K, len, σ, ρ)) f = f a N K len σ ρ := rfl
theorem gd_true {α : Type} (x : Option α) : gd true x = x := rfl
theorem nm_eq {α β : Type} (v : α) (f : α → β) : nm v f = f v := rfl
theorem oc_none {β : Type} (a : Option β) (f : Nat → Option β) : oc none a f = a := rfl
theorem oc_some {β : Type} (i : Nat) (a : Option β) (f : Nat → Option β) : oc (some i) a f = f i := rfl
theorem bn_ite {α β : Type} (c : Prop) [Decidable c] (a b : Option α) (f : α → Option β) : bn (if c then a else b) f = if c then bn a f else bn b f := by split <;> rfl
theorem bn2_ite {α β γ : Type} (c : Prop) [Decidable c] (a b : Option (α × β)) (f : α → β → Option γ) : bn2 (if c then a else b) f = if c then bn2 a f else bn2 b f := by split <;> rfl
theorem bn3_ite {α β γ δ : Type} (c : Prop) [Decidable c] (a b : Option (α × β × γ)) (f : α → β → γ → Option δ) : bn3 (if c then a else b) f = if c then bn3 a f else bn3 b f := by split <;> rfl
theorem bnT_ite {α γ : Type} (c : Prop) [Decidable c] (a b : Option (α × TT)) (f : α → Nat → (Nat → Nat) → (Nat → Nat) → SG → RG → Option γ) : bnT (if c then a else b) f = if c then bnT a f else bnT b f := by split <;> rfl
theorem nm_eq_p {α β : Type} (v : α) (f : α → β) : nm v f = f v := Eq.trans rfl rfl
theorem gd_true_p {α : Type} (x : Option α) : gd true x = x := Eq.trans rfl rfl
theorem bn_some_p {α β : Type} (x : α) (f : α → Option β) : bn (some x) f = f x := Eq.trans rfl rfl
theorem bn2_some_p {α β γ : Type} (x : α) (y : β) (f : α → β → Option γ) : bn2 (some (x, y)) f = f x y := Eq.trans rfl rfl
theorem bn3_some_p {α β γ δ : Type} (x : α) (y : β) (z : γ) (f : α → β → γ → Option δ) : bn3 (some (x, y, z)) f = f x y z := Eq.trans rfl rfl
theorem bnT_some_p {α γ : Type} (a : α) (N : Nat) (K len : Nat → Nat) (σ : SG) (ρ : RG) (f : α → Nat → (Nat → Nat) → (Nat → Nat) → SG → RG → Option γ) : bnT (some (a, N, K, len, σ, ρ)) f = f a N K len σ ρ := Eq.trans rfl rfl
theorem oc_none_p {β : Type} (a : Option β) (f : Nat → Option β) : oc none a f = a := Eq.trans rfl rfl
theorem oc_some_p {β : Type} (i : Nat) (a : Option β) (f : Nat → Option β) : oc (some i) a f = f i := Eq.trans rfl rfl
/-- 1 in the bounds, else 0 -/
def wi (a lo hi : Int32) : Int32 := if a < lo then 0 else if hi < a then 0 else 1
theorem wi_01 (a lo hi : Int32) : wi a lo hi = 0 ∨ wi a lo hi = 1 := by
  unfold wi; split
  · exact Or.inl rfl
  · split
    · exact Or.inl rfl
    · exact Or.inr rfl
theorem wi_isb (a lo hi : Int32) : isb (wi a lo hi) = true := by
  rcases wi_01 a lo hi with h | h <;> rw [h] <;> rfl
theorem F_X11_isWithin_eq (a lo hi : Int32) (σ : SG) (ρ : RG) : F_X11_isWithin a lo hi σ ρ = some (wi a lo hi) := by
  unfold F_X11_isWithin wi; split
  · rfl
  · split <;> rfl
theorem F_X12_in_eq (a lo hi : Int32) (σ : SG) (ρ : RG) : F_X12_in a lo hi σ ρ = some (wi a lo hi) := by
  unfold F_X12_in wi; split
  · rfl
  · split <;> rfl
theorem F_X11_isThick_eq (a : Int32) (σ : SG) (ρ : RG) : F_X11_isThick a σ ρ = some (wi a 1 40) := by
  simp only [F_X11_isThick, F_X11_isWithin_eq, bn_some, wi_isb, gd_true]
theorem F_X11_isSlope_eq (a : Int32) (σ : SG) (ρ : RG) : F_X11_isSlope a σ ρ = some (wi a (-99) 99) := by
  simp only [F_X11_isSlope, F_X11_isWithin_eq, bn_some, wi_isb, gd_true]
theorem F_X12_isCutter_eq (a : Int32) (σ : SG) (ρ : RG) : F_X12_isCutter a σ ρ = some (wi a 0 (σ 55 11 - 1)) := by
  simp only [F_X12_isCutter, F_X12_in_eq, bn_some, wi_isb, gd_true, nm_eq]
theorem wi_empty (a : Int32) : wi a 0 (0 - 1) = 0 := by
  unfold wi
  by_cases h : a < 0
  · rw [if_pos h]
  · rw [if_neg h, if_pos]
    rw [Int32.lt_iff_toInt_lt] at h ⊢
    have : (0 - 1 : Int32).toInt = -1 := by decide
    have : (0 : Int32).toInt = 0 := by decide
    omega
/-- the fresh object's cells -/
def St (σ : SG) (ρ : RG) : Prop := (σ 1 1 = 0) ∧ (σ 1 4 = 0) ∧ (σ 1 6 = 0) ∧ (σ 1 10 = 0) ∧ (σ 1 13 = 0) ∧ (σ 0 2 = 0) ∧ (σ 27 1 = 0) ∧ (σ 3 0 = 300) ∧ (σ 3 1 = 300) ∧ (σ 3 2 = 0) ∧ (σ 3 3 = 0) ∧ (σ 3 4 = 0) ∧ (σ 3 5 = 0) ∧ (σ 5 0 = 3) ∧ (σ 5 1 = 10) ∧ (∀ i, σ 6 i = 0) ∧ (∀ i, σ 10 i = 0) ∧ (σ 55 0 = 300) ∧ (σ 55 1 = 0) ∧ (σ 55 2 = 0) ∧ (σ 55 3 = 0) ∧ (σ 55 4 = 0) ∧ (σ 55 5 = 0) ∧ (σ 55 6 = 0) ∧ (σ 55 7 = 0) ∧ (σ 55 8 = 0) ∧ (σ 55 9 = 0) ∧ (σ 55 10 = 0) ∧ (σ 55 11 = 0) ∧ (σ 55 12 = 0) ∧ (σ 55 13 = 0) ∧ (σ 55 14 = 0) ∧ (σ 55 15 = 0) ∧ (σ 55 16 = -1) ∧ (σ 55 17 = 300) ∧ (σ 55 18 = 0) ∧ (σ 55 19 = 0) ∧ (σ 54 4 = 0) ∧ (σ 54 9 = 0) ∧ (σ 54 10 = 0) ∧ (σ 54 12 = 0) ∧ (σ 54 13 = 0) ∧ (σ 54 17 = 0) ∧ (σ 54 18 = 0) ∧ (σ 54 28 = 0) ∧ (σ 54 30 = 0)
theorem St.c1 {σ : SG} {ρ : RG} (h : St σ ρ) : σ 1 1 = 0 := h.1
theorem St.c4 {σ : SG} {ρ : RG} (h : St σ ρ) : σ 1 4 = 0 := h.2.1
theorem St.c6 {σ : SG} {ρ : RG} (h : St σ ρ) : σ 1 6 = 0 := h.2.2.1
theorem St.c10 {σ : SG} {ρ : RG} (h : St σ ρ) : σ 1 10 = 0 := h.2.2.2.1
theorem St.c13 {σ : SG} {ρ : RG} (h : St σ ρ) : σ 1 13 = 0 := h.2.2.2.2.1
theorem St.c02 {σ : SG} {ρ : RG} (h : St σ ρ) : σ 0 2 = 0 := h.2.2.2.2.2.1
theorem St.t1 {σ : SG} {ρ : RG} (h : St σ ρ) : σ 27 1 = 0 := h.2.2.2.2.2.2.1
theorem St.l0 {σ : SG} {ρ : RG} (h : St σ ρ) : σ 3 0 = 300 := h.2.2.2.2.2.2.2.1
theorem St.l1 {σ : SG} {ρ : RG} (h : St σ ρ) : σ 3 1 = 300 := h.2.2.2.2.2.2.2.2.1
theorem St.l2 {σ : SG} {ρ : RG} (h : St σ ρ) : σ 3 2 = 0 := h.2.2.2.2.2.2.2.2.2.1
theorem St.l3 {σ : SG} {ρ : RG} (h : St σ ρ) : σ 3 3 = 0 := h.2.2.2.2.2.2.2.2.2.2.1
theorem St.l4 {σ : SG} {ρ : RG} (h : St σ ρ) : σ 3 4 = 0 := h.2.2.2.2.2.2.2.2.2.2.2.1
theorem St.l5 {σ : SG} {ρ : RG} (h : St σ ρ) : σ 3 5 = 0 := h.2.2.2.2.2.2.2.2.2.2.2.2.1
theorem St.b0 {σ : SG} {ρ : RG} (h : St σ ρ) : σ 5 0 = 3 := h.2.2.2.2.2.2.2.2.2.2.2.2.2.1
theorem St.b1 {σ : SG} {ρ : RG} (h : St σ ρ) : σ 5 1 = 10 := h.2.2.2.2.2.2.2.2.2.2.2.2.2.2.1
theorem St.r6 {σ : SG} {ρ : RG} (h : St σ ρ) : ∀ i, σ 6 i = 0 := h.2.2.2.2.2.2.2.2.2.2.2.2.2.2.2.1
theorem St.r10 {σ : SG} {ρ : RG} (h : St σ ρ) : ∀ i, σ 10 i = 0 := h.2.2.2.2.2.2.2.2.2.2.2.2.2.2.2.2.1
theorem St.m0 {σ : SG} {ρ : RG} (h : St σ ρ) : σ 55 0 = 300 := h.2.2.2.2.2.2.2.2.2.2.2.2.2.2.2.2.2.1
theorem St.m1 {σ : SG} {ρ : RG} (h : St σ ρ) : σ 55 1 = 0 := h.2.2.2.2.2.2.2.2.2.2.2.2.2.2.2.2.2.2.1
theorem St.m2 {σ : SG} {ρ : RG} (h : St σ ρ) : σ 55 2 = 0 := h.2.2.2.2.2.2.2.2.2.2.2.2.2.2.2.2.2.2.2.1
theorem St.m3 {σ : SG} {ρ : RG} (h : St σ ρ) : σ 55 3 = 0 := h.2.2.2.2.2.2.2.2.2.2.2.2.2.2.2.2.2.2.2.2.1
theorem St.m4 {σ : SG} {ρ : RG} (h : St σ ρ) : σ 55 4 = 0 := h.2.2.2.2.2.2.2.2.2.2.2.2.2.2.2.2.2.2.2.2.2.1
theorem St.m5 {σ : SG} {ρ : RG} (h : St σ ρ) : σ 55 5 = 0 := h.2.2.2.2.2.2.2.2.2.2.2.2.2.2.2.2.2.2.2.2.2.2.1
theorem St.m6 {σ : SG} {ρ : RG} (h : St σ ρ) : σ 55 6 = 0 := h.2.2.2.2.2.2.2.2.2.2.2.2.2.2.2.2.2.2.2.2.2.2.2.1
theorem St.m7 {σ : SG} {ρ : RG} (h : St σ ρ) : σ 55 7 = 0 := h.2.2.2.2.2.2.2.2.2.2.2.2.2.2.2.2.2.2.2.2.2.2.2.2.1
theorem St.m8 {σ : SG} {ρ : RG} (h : St σ ρ) : σ 55 8 = 0 := h.2.2.2.2.2.2.2.2.2.2.2.2.2.2.2.2.2.2.2.2.2.2.2.2.2.1
theorem St.m9 {σ : SG} {ρ : RG} (h : St σ ρ) : σ 55 9 = 0 := h.2.2.2.2.2.2.2.2.2.2.2.2.2.2.2.2.2.2.2.2.2.2.2.2.2.2.1
theorem St.m10 {σ : SG} {ρ : RG} (h : St σ ρ) : σ 55 10 = 0 := h.2.2.2.2.2.2.2.2.2.2.2.2.2.2.2.2.2.2.2.2.2.2.2.2.2.2.2.1
theorem St.m11 {σ : SG} {ρ : RG} (h : St σ ρ) : σ 55 11 = 0 := h.2.2.2.2.2.2.2.2.2.2.2.2.2.2.2.2.2.2.2.2.2.2.2.2.2.2.2.2.1
theorem St.m12 {σ : SG} {ρ : RG} (h : St σ ρ) : σ 55 12 = 0 := h.2.2.2.2.2.2.2.2.2.2.2.2.2.2.2.2.2.2.2.2.2.2.2.2.2.2.2.2.2.1
theorem St.m13 {σ : SG} {ρ : RG} (h : St σ ρ) : σ 55 13 = 0 := h.2.2.2.2.2.2.2.2.2.2.2.2.2.2.2.2.2.2.2.2.2.2.2.2.2.2.2.2.2.2.1
theorem St.m14 {σ : SG} {ρ : RG} (h : St σ ρ) : σ 55 14 = 0 := h.2.2.2.2.2.2.2.2.2.2.2.2.2.2.2.2.2.2.2.2.2.2.2.2.2.2.2.2.2.2.2.1
theorem St.m15 {σ : SG} {ρ : RG} (h : St σ ρ) : σ 55 15 = 0 := h.2.2.2.2.2.2.2.2.2.2.2.2.2.2.2.2.2.2.2.2.2.2.2.2.2.2.2.2.2.2.2.2.1
theorem St.m16 {σ : SG} {ρ : RG} (h : St σ ρ) : σ 55 16 = -1 := h.2.2.2.2.2.2.2.2.2.2.2.2.2.2.2.2.2.2.2.2.2.2.2.2.2.2.2.2.2.2.2.2.2.1
theorem St.m17 {σ : SG} {ρ : RG} (h : St σ ρ) : σ 55 17 = 300 := h.2.2.2.2.2.2.2.2.2.2.2.2.2.2.2.2.2.2.2.2.2.2.2.2.2.2.2.2.2.2.2.2.2.2.1
theorem St.m18 {σ : SG} {ρ : RG} (h : St σ ρ) : σ 55 18 = 0 := h.2.2.2.2.2.2.2.2.2.2.2.2.2.2.2.2.2.2.2.2.2.2.2.2.2.2.2.2.2.2.2.2.2.2.2.1
theorem St.m19 {σ : SG} {ρ : RG} (h : St σ ρ) : σ 55 19 = 0 := h.2.2.2.2.2.2.2.2.2.2.2.2.2.2.2.2.2.2.2.2.2.2.2.2.2.2.2.2.2.2.2.2.2.2.2.2.1
theorem St.n4 {σ : SG} {ρ : RG} (h : St σ ρ) : σ 54 4 = 0 := h.2.2.2.2.2.2.2.2.2.2.2.2.2.2.2.2.2.2.2.2.2.2.2.2.2.2.2.2.2.2.2.2.2.2.2.2.2.1
theorem St.n9 {σ : SG} {ρ : RG} (h : St σ ρ) : σ 54 9 = 0 := h.2.2.2.2.2.2.2.2.2.2.2.2.2.2.2.2.2.2.2.2.2.2.2.2.2.2.2.2.2.2.2.2.2.2.2.2.2.2.1
theorem St.n10 {σ : SG} {ρ : RG} (h : St σ ρ) : σ 54 10 = 0 := h.2.2.2.2.2.2.2.2.2.2.2.2.2.2.2.2.2.2.2.2.2.2.2.2.2.2.2.2.2.2.2.2.2.2.2.2.2.2.2.1
theorem St.n12 {σ : SG} {ρ : RG} (h : St σ ρ) : σ 54 12 = 0 := h.2.2.2.2.2.2.2.2.2.2.2.2.2.2.2.2.2.2.2.2.2.2.2.2.2.2.2.2.2.2.2.2.2.2.2.2.2.2.2.2.1
theorem St.n13 {σ : SG} {ρ : RG} (h : St σ ρ) : σ 54 13 = 0 := h.2.2.2.2.2.2.2.2.2.2.2.2.2.2.2.2.2.2.2.2.2.2.2.2.2.2.2.2.2.2.2.2.2.2.2.2.2.2.2.2.2.1
theorem St.n17 {σ : SG} {ρ : RG} (h : St σ ρ) : σ 54 17 = 0 := h.2.2.2.2.2.2.2.2.2.2.2.2.2.2.2.2.2.2.2.2.2.2.2.2.2.2.2.2.2.2.2.2.2.2.2.2.2.2.2.2.2.2.1
theorem St.n18 {σ : SG} {ρ : RG} (h : St σ ρ) : σ 54 18 = 0 := h.2.2.2.2.2.2.2.2.2.2.2.2.2.2.2.2.2.2.2.2.2.2.2.2.2.2.2.2.2.2.2.2.2.2.2.2.2.2.2.2.2.2.2.1
theorem St.n28 {σ : SG} {ρ : RG} (h : St σ ρ) : σ 54 28 = 0 := h.2.2.2.2.2.2.2.2.2.2.2.2.2.2.2.2.2.2.2.2.2.2.2.2.2.2.2.2.2.2.2.2.2.2.2.2.2.2.2.2.2.2.2.2.1
theorem St.n30 {σ : SG} {ρ : RG} (h : St σ ρ) : σ 54 30 = 0 := h.2.2.2.2.2.2.2.2.2.2.2.2.2.2.2.2.2.2.2.2.2.2.2.2.2.2.2.2.2.2.2.2.2.2.2.2.2.2.2.2.2.2.2.2.2
theorem cutterAt_0 {σ : SG} {ρ : RG} (h : σ 1 1 = 0) (a : Int32) : F_X8_cutterAt_1 a σ ρ = some none := by
  unfold F_X8_cutterAt_1
  by_cases h1 : a < 0
  · rw [if_pos h1]
  · rw [if_neg h1, if_pos]
    rw [h, Int32.le_iff_toInt_le]
    rw [Int32.lt_iff_toInt_lt] at h1
    omega
theorem inb_1 : inb 1 6 = true := by decide
theorem inb_2 : inb 2 6 = true := by decide
theorem inb_3 : inb 3 6 = true := by decide
theorem inb_4 : inb 4 6 = true := by decide
theorem inb_5 : inb 5 6 = true := by decide
theorem gd_in {α : Type} {i : Int32} {n : Nat} (x : Option α) (h : inb i n = true) : gd (inb i n) x = x := by rw [h]; rfl
theorem wi_e (a : Int32) : wi a 0 (-1) = 0 := wi_empty a
theorem wi_one {a lo hi : Int32} (h : wi a lo hi = 1) : lo.toInt ≤ a.toInt ∧ a.toInt ≤ hi.toInt := by
  unfold wi at h
  by_cases h1 : a < lo
  · rw [if_pos h1] at h; exact absurd h (by decide)
  · rw [if_neg h1] at h
    by_cases h2 : hi < a
    · rw [if_pos h2] at h; exact absurd h (by decide)
    · rw [Int32.lt_iff_toInt_lt] at h1 h2
      omega
theorem wi_zero {a lo hi : Int32} (h : a.toInt < lo.toInt ∨ hi.toInt < a.toInt) : wi a lo hi = 0 := by
  rcases wi_01 a lo hi with h1 | h1
  · exact h1
  · have := wi_one h1
    omega
theorem eq_of_toInt {a : Int32} {k : Int} (h : a.toInt = k) : a = Int32.ofInt k := by rw [← h, Int32.ofInt_toInt]
theorem ne_toInt {a : Int32} {k : Int} (h : a ≠ Int32.ofInt k) : a.toInt ≠ k := fun e => h (eq_of_toInt e)
theorem ofN_toInt {k : Nat} (h : k < 2 ^ 31) : (Int32.ofNat k).toInt = k := Int32.toInt_ofNat_of_lt h
theorem ofN_clamp {k : Nat} (h : k < 2 ^ 31) : (Int32.ofNat k).toNatClampNeg = k := by
  show (Int32.ofNat k).toInt.toNat = k
  rw [ofN_toInt h]; rfl
theorem ofN_succ (k : Nat) : Int32.ofNat k + 1 = Int32.ofNat (k + 1) := (Int32.ofNat_add k 1).symm
theorem ofN_inb {k n : Nat} (h : k < n) (hn : n ≤ 2 ^ 31) : inb (Int32.ofNat k) n = true := by
  unfold inb
  rw [ofN_toInt (by omega)]
  exact decide_eq_true ⟨by omega, by omega⟩
theorem ofN_le {a b : Nat} (ha : a < 2 ^ 31) (hb : b < 2 ^ 31) : (Int32.ofNat a ≤ Int32.ofNat b) ↔ a ≤ b := by
  rw [Int32.le_iff_toInt_le, ofN_toInt ha, ofN_toInt hb]
  exact Int.ofNat_le
theorem cpy_zero (σ : SG) (a b : Nat) : cpy σ a b 0 = σ := by
  funext r j
  rw [cpy_at]
  by_cases h : r = b
  · subst h; simp
  · rw [if_neg h]
theorem cpy_succ (σ : SG) (a b k : Nat) (h : a ≠ b) : s2 (cpy σ a b k) b k (cpy σ a b k a k) = cpy σ a b (k + 1) := by
  funext r j
  rw [s2_at, cpy_at, cpy_at, cpy_at, cpy_at, if_pos rfl, if_neg h]
  by_cases h1 : r = b
  · rw [if_pos h1, if_pos h1]
    by_cases h2 : j = k
    · subst h2
      rw [if_pos rfl, if_pos (Nat.lt_succ_self _)]
    · rw [if_neg h2]
      by_cases h3 : j < k
      · rw [if_pos h3, if_pos (by omega)]
      · rw [if_neg h3, if_neg (by omega)]
  · rw [if_neg h1, if_neg h1, if_neg h1]
theorem keeps_go (σ : SG) (ρ : RG) : ∀ (d k f : Nat), k + d = 11 → d < f → F_X12_keeps_2 f (cpy σ 55 57 k) ρ (Int32.ofNat k) = some (cpy σ 55 57 11)
  | 0, k, f + 1, h, hf => by
    have : k = 11 := by omega
    subst this
    unfold F_X12_keeps_2
    rw [if_pos (by decide)]
  | d + 1, k, f + 1, h, hf => by
    unfold F_X12_keeps_2
    rw [if_neg (fun q => by have := (ofN_le (a := 11) (b := k) (by omega) (by omega)).mp q; omega), ofN_inb (by omega) (by omega), ofN_inb (by omega) (by omega), gd_true, gd_true, nm_eq, nm_eq, ofN_clamp (by omega), cpy_succ _ _ _ _ (by decide), ofN_succ]
    exact keeps_go σ ρ d (k + 1) f (by omega) (by omega)
theorem F_X12_keeps_eq (σ : SG) (ρ : RG) : F_X12_keeps σ ρ = some (cpy σ 55 57 11) := by
  have h := keeps_go σ ρ 11 0 1024 rfl (by decide)
  rw [cpy_zero] at h
  exact h
theorem goesBack_go (σ : SG) (ρ : RG) : ∀ (d k f : Nat), k + d = 11 → d < f → F_X12_goesBack_2 f (cpy σ 57 55 k) ρ (Int32.ofNat k) = some (cpy σ 57 55 11)
  | 0, k, f + 1, h, hf => by
    have : k = 11 := by omega
    subst this
    unfold F_X12_goesBack_2
    rw [if_pos (by decide)]
  | d + 1, k, f + 1, h, hf => by
    unfold F_X12_goesBack_2
    rw [if_neg (fun q => by have := (ofN_le (a := 11) (b := k) (by omega) (by omega)).mp q; omega), ofN_inb (by omega) (by omega), ofN_inb (by omega) (by omega), gd_true, gd_true, nm_eq, nm_eq, ofN_clamp (by omega), cpy_succ _ _ _ _ (by decide), ofN_succ]
    exact goesBack_go σ ρ d (k + 1) f (by omega) (by omega)
theorem F_X12_goesBack_eq (σ : SG) (ρ : RG) : F_X12_goesBack σ ρ = some (cpy σ 57 55 11) := by
  have h := goesBack_go σ ρ 11 0 1024 rfl (by decide)
  rw [cpy_zero] at h
  exact h
theorem image_go (σ : SG) (ρ : RG) : ∀ (d k f : Nat), k + d = 909 → d < f → F_X12_image_2 f (cpy σ 55 56 k) ρ (Int32.ofNat k) = some ((s2 (cpy σ 55 56 909) 54 4 1) 55 11, s2 (cpy σ 55 56 909) 54 4 1)
  | 0, k, f + 1, h, hf => by
    have : k = 909 := by omega
    subst this
    unfold F_X12_image_2
    rw [if_pos (by decide)]
    rfl
  | d + 1, k, f + 1, h, hf => by
    unfold F_X12_image_2
    rw [if_neg (fun q => by have := (ofN_le (a := 909) (b := k) (by omega) (by omega)).mp q; omega), ofN_inb (by omega) (by omega), gd_true, gd_true, nm_eq, nm_eq, ofN_clamp (by omega), cpy_succ _ _ _ _ (by decide), ofN_succ]
    exact image_go σ ρ d (k + 1) f (by omega) (by omega)
theorem F_X12_image_eq (σ : SG) (ρ : RG) : F_X12_image σ ρ = some (σ 55 11, s2 (cpy σ 55 56 909) 54 4 1) := by
  have h := image_go σ ρ 909 0 1024 rfl (by decide)
  rw [cpy_zero] at h
  rw [show F_X12_image σ ρ = F_X12_image_2 1024 σ ρ (Int32.ofNat 0) from rfl, h]
  simp [s2_at, cpy_at]
theorem goesOn_0 {σ : SG} (ρ : RG) (a b c : Int32) (h : σ 55 11 = 0) : F_X12_goesOn a b c σ ρ = some (s2 (s2 (s2 σ 54 19 0) 54 20 0) 54 21 0) := by
  unfold F_X12_goesOn
  simp only [nm_eq]
  unfold F_X12_goesOn_18
  by_cases h1 : a ≤ 0
  · rw [if_pos h1]
  · rw [if_neg h1, if_pos]
    simp [s2_at, h]
/-- a new run of the class's, nobody there -/
def go0 (σ : SG) : SG := s2 (s2 (s2 (s2 (s2 (s2 (s2 (s2 (s2 (s2 (s2 (s2 (s2 (s2 (s2 (s2 (s2 σ 37 0 (σ 3 0)) 37 1 (σ 3 1)) 37 2 (σ 3 2)) 37 3 (σ 3 3)) 37 4 (σ 3 4)) 37 5 (σ 3 5)) 37 6 (σ 3 6)) 37 7 (σ 3 7)) 37 8 (σ 3 8)) 0 13 0) 0 14 0) 39 0 0) 39 1 0) 39 2 0) 39 3 0) 39 4 0) 39 5 0
theorem goOn_0 {σ : SG} (ρ : RG) (a b c d : Int32) (h : σ 1 1 = 0) : F_X11_goOn a b c d σ ρ = some (go0 σ) := by
  have e : F_X11_goOn a b c d σ ρ = F_X11_goOn_54 a b c d 1024 (go0 σ) ρ a b c d 0 := rfl
  rw [e, show (1024 : Nat) = 1023 + 1 from rfl, F_X11_goOn_54]
  dsimp only
  by_cases h1 : a ≤ 0
  · rw [if_pos h1]
  · rw [if_neg h1, if_pos]
    have e1 : go0 σ 1 1 = σ 1 1 := rfl
    rw [e1, h]
    decide
theorem F_X11_cancel_11_s  (n : Nat) (σ : SG) (ρ : RG) (v1 : Int32) (v2 : Int32) (v3 : Int32) : F_X11_cancel_11  (n + 1) σ ρ v1 v2 v3 =
  (if (σ 1 1) ≤ v3 then
    some (v2, σ)
  else
    bn (F_X8_cutterAt_1 v3 σ ρ) fun o3 =>
    oc o3
     (
      none /- none: 33: no contract 11.tryStep -/)
     (fun c4 =>
      none /- none: some -/)) := rfl
theorem F_X12_cancel_12_s  (n : Nat) (σ : SG) (ρ : RG) (v1 : Int32) (v2 : Int32) (v3 : Int32) : F_X12_cancel_12  (n + 1) σ ρ v1 v2 v3 =
  (nm ((σ 55 11) * (σ 55 11)) fun x2 =>
  if x2 ≤ v3 then
    some (v1, σ)
  else
    gd (decide (¬ (σ 55 11) = 0)) <|
    nm (v3 / (σ 55 11)) fun x5 =>
    gd (decide (¬ (σ 55 11) = 0)) <|
    nm (v3 - v3 / (σ 55 11) * (σ 55 11)) fun x7 =>
    nm ((44 : Int32) + x5) fun x8 =>
    gd (inb x8 909) <|
    bn2 (F_X12_cuts x5 (σ 55 (x8).toNatClampNeg) σ ρ) fun r10 σ10 =>
    if r10 = 0 then
      F_X12_cancel_143 (F_X12_cancel_12 n) σ10 ρ v1 v2 v3
    else
      nm ((44 : Int32) + x7) fun x14 =>
      gd (inb x14 909) <|
      bn2 (F_X12_cuts x7 (σ10 55 (x14).toNatClampNeg) σ10 ρ) fun r16 σ16 =>
      if r16 = 0 then
        F_X12_cancel_143 (F_X12_cancel_12 n) σ16 ρ v1 v2 v3
      else
        bn (F_X12_size (σ16 55 1) σ16 ρ) fun r18 =>
        bn (F_X12_size (σ16 55 2) σ16 ρ) fun r19 =>
        nm (r18 + r19) fun x20 =>
        if v2 ≤ x20 then
          F_X12_cancel_143 (F_X12_cancel_12 n) σ16 ρ v1 v2 v3
        else
          bn (F_X12_size (σ16 55 1) σ16 ρ) fun r22 =>
          bn (F_X12_size (σ16 55 2) σ16 ρ) fun r23 =>
          nm (r22 + r23) fun x24 =>
          nm ((10 : Int32) * x5) fun x25 =>
          nm (x25 + x7) fun x26 =>
          F_X12_cancel_143 (F_X12_cancel_12 n) σ16 ρ x26 x24 v3) := rfl
theorem F_X11_who_8_s  (n : Nat) (σ : SG) (ρ : RG) (v1 : Int32) (v2 : Int32) : F_X11_who_8  (n + 1) σ ρ v1 v2 =
  (if (σ 1 1) ≤ v2 then
    some (v1, σ)
  else
    bn (F_X8_cutterAt_1 v2 σ ρ) fun o3 =>
    oc o3
     (
      none /- none: 30: no contract 11.tryStep -/)
     (fun c4 =>
      none /- none: some -/)) := rfl
theorem F_X12_who_8_s  (n : Nat) (σ : SG) (ρ : RG) (v1 : Int32) (v2 : Int32) : F_X12_who_8  (n + 1) σ ρ v1 v2 =
  (if (σ 55 11) ≤ v2 then
    some (v1, σ)
  else
    nm ((44 : Int32) + v2) fun x3 =>
    gd (inb x3 909) <|
    bn2 (F_X12_cuts v2 (σ 55 (x3).toNatClampNeg) σ ρ) fun r5 σ5 =>
    if r5 = 0 then
      F_X12_who_75 (F_X12_who_8 n) σ5 ρ v2 v1
    else
      if (σ5 55 1) = (σ5 55 18) then
        if (σ5 55 2) = (σ5 55 19) then
          nm ((1 : Int32) <<< (v2 &&& 31)) fun x12 =>
          F_X12_who_76 (F_X12_who_8 n) σ5 ρ v2 v1 x12
        else
          F_X12_who_75 (F_X12_who_8 n) σ5 ρ v2 v1
      else
        F_X12_who_75 (F_X12_who_8 n) σ5 ρ v2 v1) := rfl
theorem F_X11_looked_16_s  (n : Nat) (σ : SG) (ρ : RG) (v1 : Int32) : F_X11_looked_16  (n + 1) σ ρ v1 =
  (if (σ 1 13) ≤ v1 then
    some ((-5 : Int32), σ)
  else
    bn (F_X11_valueAt 12 8 v1 σ ρ) fun r3 =>
    bn (F_X8_cutterAt_1 r3 σ ρ) fun o4 =>
    oc o4
     (
      some (v1, σ))
     (fun c5 =>
      none /- none: some -/)) := rfl
theorem F_X12_looked_9_s  (n : Nat) (σ : SG) (ρ : RG) (v1 : Int32) (v2 : Int32) : F_X12_looked_9  (n + 1) σ ρ v1 v2 =
  (if (σ 55 14) ≤ v2 then
    bn (F_X12_goesBack σ ρ) fun σ3 =>
    some (v1, σ3)
  else
    if v1 = (-5 : Int32) then
      nm ((78 : Int32) + v2) fun x6 =>
      gd (inb x6 909) <|
      nm ((44 : Int32) + (σ 55 (x6).toNatClampNeg)) fun x8 =>
      gd (inb x8 909) <|
      bn2 (F_X12_cuts (σ 55 (x6).toNatClampNeg) (σ 55 (x8).toNatClampNeg) σ ρ) fun r10 σ10 =>
      if r10 = 0 then
        F_X12_looked_69 (F_X12_looked_9 n) σ10 ρ v2
      else
        nm ((86 : Int32) + v2) fun x13 =>
        gd (inb x13 909) <|
        if (σ10 54 15) = (σ10 55 (x13).toNatClampNeg) then
          F_X12_looked_75 (F_X12_looked_9 n) σ10 ρ v2 (-5 : Int32)
        else
          F_X12_looked_69 (F_X12_looked_9 n) σ10 ρ v2
    else
      bn (F_X12_goesBack σ ρ) fun σ5 =>
      some (v1, σ5)) := rfl
theorem F_X11_evener_44_s (a1 : Int32) (a2 : Int32) (n : Nat) (σ : SG) (ρ : RG) (v2 : Int32) (v3 : Int32) (v4 : Int32) (v5 : Int32) (v6 : Int32) : F_X11_evener_44 a1 a2 (n + 1) σ ρ v2 v3 v4 v5 v6 =
  (if (σ 1 1) ≤ v6 then
    if v2 = 0 then
      some (v3, σ)
    else
      if v3 = (-5 : Int32) then
        some (v3, σ)
      else
        nm (v4 - v5) fun x9 =>
        some (x9, σ)
  else
    bn (F_X8_cutterAt_1 v6 σ ρ) fun o10 =>
    oc o10
     (
      F_X11_evener_91 a1 a2 (F_X11_evener_44 a1 a2 n) σ ρ v2 v3 v4 v5 v6 (0 : Int32))
     (fun c11 =>
      none /- none: some -/)) := rfl
theorem F_X0_readFrom_29_38_s (a2 : Int32) (n : Nat) (σ : SG) (ρ : RG) (v3 : Int32) : F_X0_readFrom_29_38 a2 (n + 1) σ ρ v3 =
  (if (10 : Int32) ≤ v3 then
    some ((0 : Int32), σ, ρ)
  else
    bn (F_X0_readClause_29 σ ρ) fun r16 =>
    if r16 = 0 then
      some ((0 : Int32), σ, ρ)
    else
      if (σ 29 10) = (σ 29 9) then
        some ((1 : Int32), σ, ρ)
      else
        nm (v3 + (1 : Int32)) fun x19 =>
        if x19 = (10 : Int32) then
          some ((0 : Int32), σ, ρ)
        else
          bn2 (F_X0_readSign_29 (59 : Int32) σ ρ) fun r21 σ21 =>
          if r21 = 0 then
            some ((0 : Int32), σ21, ρ)
          else
            nm (v3 + (1 : Int32)) fun x23 =>
            F_X0_readFrom_29_38 a2 n σ21 ρ x23) := rfl
theorem F_X12_board_108_s  (n : Nat) (σ : SG) (ρ : RG) (v1 : Int32) : F_X12_board_108  (n + 1) σ ρ v1 =
  (if (σ 54 8) = 0 then
    if (10 : Int32) ≤ v1 then
      F_X12_board_150 σ ρ
    else
      bn (F_X12_here σ ρ) fun r38 =>
      if r38 = (59 : Int32) then
        nm ((σ 54 6) + (1 : Int32)) fun x40 =>
        nm (s2 σ 54 6 x40) fun σ42 =>
        bn (F_X12_clauseHere σ42 ρ) fun σ43 =>
        nm (v1 + (1 : Int32)) fun x44 =>
        F_X12_board_108 n σ43 ρ x44
      else
        F_X12_board_150 σ ρ
  else
    F_X12_board_150 σ ρ) := rfl
theorem readFrom_0 (σ : SG) (ρ : RG) : F_X0_readFrom_29 0 σ ρ = some (0, s2 (s2 (s2 (s2 (s2 (s2 σ 29 9 0) 29 10 0) 29 0 3) 29 1 10) 29 2 0) 29 7 0, r2 ρ 29 8 (some 10)) := by
  have hn : F_X0_next_29 (s2 (s2 (s2 (s2 (s2 (s2 σ 29 9 0) 29 10 0) 29 0 3) 29 1 10) 29 2 0) 29 7 0) (r2 ρ 29 8 (some 10)) = some 0 := by
    simp [F_X0_next_29, r2_at, oc_some, gd_true, s2_at]
  have hc : F_X0_readClause_29 (s2 (s2 (s2 (s2 (s2 (s2 σ 29 9 0) 29 10 0) 29 0 3) 29 1 10) 29 2 0) 29 7 0) (r2 ρ 29 8 (some 10)) = some 0 := by
    unfold F_X0_readClause_29
    rw [hn, bn_some, if_neg (by decide), if_neg (by decide), if_neg (by decide), if_neg (by decide)]
  show F_X0_readFrom_29_38 0 (1023 + 1) (s2 (s2 (s2 (s2 (s2 (s2 σ 29 9 0) 29 10 0) 29 0 3) 29 1 10) 29 2 0) 29 7 0) (r2 ρ 29 8 (some 10)) 0 = _
  rw [F_X0_readFrom_29_38_s, if_neg (by decide), hc, bn_some, if_pos rfl]
theorem cancel_x0 {σ : SG} {ρ : RG} {a b : Int32} (h : σ 1 1 = 0) : F_X11_cancel_11 1024 σ ρ a b 0 = some (b, σ) := by
  show F_X11_cancel_11 (1023 + 1) σ ρ a b 0 = _
  rw [F_X11_cancel_11_s, h, if_pos (by decide)]
theorem cancel_m0 {σ : SG} {ρ : RG} {a b : Int32} (h : σ 55 11 = 0) : F_X12_cancel_12 1024 σ ρ a b 0 = some (a, σ) := by
  show F_X12_cancel_12 (1023 + 1) σ ρ a b 0 = _
  rw [F_X12_cancel_12_s, h, nm_eq, if_pos (by decide)]
theorem F_X11_keepPath_7_s (a1 : Int32) (n : Nat) (σ : SG) (ρ : RG) (v1 : Int32) (v2 : Int32) : F_X11_keepPath_7 a1 (n + 1) σ ρ v1 v2 =
  (if v1 ≤ v2 then
    some σ
  else
    if (6 : Int32) ≤ v2 then
      some σ
    else
      if (6 : Int32) ≤ v2 then
        some σ
      else
        gd (inb v2 6) <|
        gd (inb v2 6) <|
        nm (s2 σ 36 (v2).toNatClampNeg (σ 35 (v2).toNatClampNeg)) fun σ9 =>
        nm (v2 + (1 : Int32)) fun x10 =>
        F_X11_keepPath_7 a1 n σ9 ρ v1 x10) := rfl
theorem F_X12_ordersFrom_27_s (a1 : Int32) (a2 : Int32) (a3 : Int32) (n : Nat) (σ : SG) (ρ : RG) (v1 : Int32) (v4 : Int32) : F_X12_ordersFrom_27 a1 a2 a3 (n + 1) σ ρ v1 v4 =
  (if v1 ≤ v4 then
    some σ
  else
    gd (inb v4 5) <|
    gd (inb v4 5) <|
    nm (s2 σ 62 (v4).toNatClampNeg (σ 61 (v4).toNatClampNeg)) fun σ28 =>
    nm (v4 + (1 : Int32)) fun x29 =>
    F_X12_ordersFrom_27 a1 a2 a3 n σ28 ρ v1 x29) := rfl
theorem F_X12_rowsFrom_13_s (a1 : Int32) (n : Nat) (σ : SG) (ρ : RG) (v1 : Int32) (v2 : Int32) : F_X12_rowsFrom_13 a1 (n + 1) σ ρ v1 v2 =
  (if v1 ≤ v2 then
    F_X12_rowsFrom_43 a1 σ ρ
  else
    if (σ 54 28) = 0 then
      gd (inb v2 5) <|
      gd (inb v2 5) <|
      nm (s2 σ 62 (v2).toNatClampNeg (σ 61 (v2).toNatClampNeg)) fun σ25 =>
      nm (v2 + (1 : Int32)) fun x26 =>
      F_X12_rowsFrom_13 a1 n σ25 ρ v1 x26
    else
      F_X12_rowsFrom_43 a1 σ ρ) := rfl
theorem F_X11_when_44_s (a1 : Int32) (a2 : Int32) (n : Nat) (σ : SG) (ρ : RG) (v1 : Int32) (v2 : Int32) (v3 : Int32) (v4 : Int32) (v5 : Int32) : F_X11_when_44 a1 a2 (n + 1) σ ρ v1 v2 v3 v4 v5 =
  (if v1 ≤ v5 then
    if v2 = 0 then
      some (v4, σ)
    else
      if v4 = (-5 : Int32) then
        some (v4, σ)
      else
        some (v3, σ)
  else
    bn (F_X11_goOn v1 v5 (0 : Int32) (0 : Int32) σ ρ) fun σ9 =>
    if (σ9 0 13) ≤ v3 then
      F_X11_when_76 a1 a2 (F_X11_when_44 a1 a2 n) σ9 ρ v1 v2 v3 v4 v5
    else
      F_X11_when_76 a1 a2 (F_X11_when_44 a1 a2 n) σ9 ρ v1 v2 (σ9 0 13) v5 v5) := rfl
theorem F_X12_when_42_s (a1 : Int32) (a2 : Int32) (n : Nat) (σ : SG) (ρ : RG) (v1 : Int32) (v2 : Int32) (v3 : Int32) (v4 : Int32) (v5 : Int32) : F_X12_when_42 a1 a2 (n + 1) σ ρ v1 v2 v3 v4 v5 =
  (if v1 ≤ v5 then
    if v2 = 0 then
      some (v4, σ)
    else
      if v4 = (-5 : Int32) then
        some (v4, σ)
      else
        some (v3, σ)
  else
    bn2 (F_X12_goodBy v1 v5 σ ρ) fun r10 σ10 =>
    if r10 ≤ v3 then
      F_X12_when_70 a1 a2 (F_X12_when_42 a1 a2 n) σ10 ρ v1 v2 v3 v5 r10 v4
    else
      F_X12_when_70 a1 a2 (F_X12_when_42 a1 a2 n) σ10 ρ v1 v2 v3 v5 r10 v5) := rfl
theorem F_X11_cheese_62_s (a1 : Int32) (a2 : Int32) (n : Nat) (σ : SG) (ρ : RG) (v1 : Int32) (v2 : Int32) (v3 : Int32) (v4 : Int32) (v5 : Int32) (v6 : Int32) (v7 : Int32) : F_X11_cheese_62 a1 a2 (n + 1) σ ρ v1 v2 v3 v4 v5 v6 v7 =
  (if v1 ≤ v7 then
    F_X11_cheese_161 a1 a2 σ ρ v2 v3 v4 v5 v6
  else
    if (σ 1 1) ≤ 0 then
      F_X11_cheese_161 a1 a2 σ ρ v2 v3 v4 v5 v6
    else
      gd (decide (¬ (σ 1 1) = 0)) <|
      nm (v7 - v7 / (σ 1 1) * (σ 1 1)) fun x13 =>
      bn (F_X8_cutterAt_1 x13 σ ρ) fun o14 =>
      oc o14
       (
        F_X11_cheese_161 a1 a2 σ ρ v2 v3 v4 v5 v6)
       (fun c15 =>
        none /- none: some -/)) := rfl
theorem F_X12_cheese_63_s (a1 : Int32) (a2 : Int32) (n : Nat) (σ : SG) (ρ : RG) (v2 : Int32) (v3 : Int32) (v4 : Int32) : F_X12_cheese_63 a1 a2 (n + 1) σ ρ v2 v3 v4 =
  (if (σ 55 11) ≤ 0 then
    F_X12_cheese_146 a1 a2 σ ρ v2 v3 v4
  else
    gd (decide (¬ (σ 55 11) = 0)) <|
    nm (v4 - v4 / (σ 55 11) * (σ 55 11)) fun x12 =>
    nm ((44 : Int32) + x12) fun x13 =>
    gd (inb x13 909) <|
    if v3 < (σ 55 (x13).toNatClampNeg) then
      F_X12_cheese_146 a1 a2 σ ρ v2 v3 v4
    else
      gd (decide (¬ (σ 55 11) = 0)) <|
      nm (v4 - v4 / (σ 55 11) * (σ 55 11)) fun x17 =>
      gd (inb x17 6) <|
      nm ((44 : Int32) + x17) fun x19 =>
      gd (inb x19 909) <|
      nm ((σ 63 (x17).toNatClampNeg) + (σ 55 (x19).toNatClampNeg)) fun x21 =>
      gd (inb x17 6) <|
      nm (s2 σ 63 (x17).toNatClampNeg x21) fun σ24 =>
      nm ((44 : Int32) + x17) fun x25 =>
      gd (inb x25 909) <|
      nm (v3 - (σ24 55 (x25).toNatClampNeg)) fun x27 =>
      nm (v4 + (1 : Int32)) fun x28 =>
      F_X12_cheese_63 a1 a2 n σ24 ρ v2 x27 x28) := rfl
theorem F_X8_takes_14_1_10_s  (n : Nat) (σ : SG) (ρ : RG) (v2 : Int32) : F_X8_takes_14_1_10  (n + 1) σ ρ v2 =
  (if (6 : Int32) ≤ v2 then
    bn (F_X3_takes 16 3 σ ρ) fun σ4 =>
    bn (F_X0_takes_18_5 σ4 ρ) fun σ5 =>
    nm (s2 σ5 14 4 (σ5 1 4)) fun σ7 =>
    nm (s2 σ7 14 6 (σ7 1 6)) fun σ9 =>
    nm (s2 σ9 14 7 (σ9 1 7)) fun σ11 =>
    nm (s2 σ11 14 8 (σ11 1 8)) fun σ13 =>
    nm (s2 σ13 14 10 (σ13 1 10)) fun σ15 =>
    nm (s2 σ15 14 13 (σ15 1 13)) fun σ17 =>
    gd ((List.range 100).all (fun i => isB (σ17 10 i))) <|
    nm (cpy σ17 10 23 100) fun σ18 =>
    nm (cpy σ18 11 24 4) fun σ19 =>
    nm (cpy σ19 12 25 8) fun σ20 =>
    nm (cpy σ20 13 26 8) fun σ21 =>
    some (σ21, ρ)
  else
    bn (F_X8_cutterAt_1 v2 σ ρ) fun o22 =>
    oc o22
     (
      F_X8_takes_14_1_42 (F_X8_takes_14_1_10 n) σ ρ v2 v2)
     (fun c23 =>
      none /- none: some -/)) := rfl
theorem board_m108 {σ : SG} {ρ : RG} {v : Int32} (h : ¬ σ 54 8 = 0) : F_X12_board_108 1024 σ ρ v = F_X12_board_150 σ ρ := by
  show F_X12_board_108 (1023 + 1) σ ρ v = _
  rw [F_X12_board_108_s, if_neg h]
def ord5 (σ : SG) : SG := s2 (s2 (s2 (s2 (s2 σ 62 0 (-5)) 62 1 (-5)) 62 2 (-5)) 62 3 (-5)) 62 4 (-5)
theorem keepPath_0 (σ : SG) (ρ : RG) : F_X11_keepPath 0 σ ρ = some (s2 σ 0 8 1) := rfl
theorem F_X12_order_27_s (a1 : Int32) (n : Nat) (σ : SG) (ρ : RG) (v1 : Int32) (v2 : Int32) : F_X12_order_27 a1 (n + 1) σ ρ v1 v2 =
  (if (5 : Int32) ≤ v2 then
    nm (s2 σ 54 25 (1000000 : Int32)) fun σ6 =>
    bn (F_X12_ordersFrom (0 : Int32) (0 : Int32) (0 : Int32) σ6 ρ) fun σ7 =>
    if v1 < 0 then
      if (σ7 54 25) = (1000000 : Int32) then
        some ((-5 : Int32), σ7)
      else
        some ((σ7 54 25), σ7)
    else
      gd (inb v1 5) <|
      some ((σ7 62 (v1).toNatClampNeg), σ7)
  else
    gd (inb v2 5) <|
    nm (s2 σ 62 (v2).toNatClampNeg (-5 : Int32)) fun σ13 =>
    nm (v2 + (1 : Int32)) fun x14 =>
    F_X12_order_27 a1 n σ13 ρ v1 x14) := rfl
theorem F_X12_rows_13_s (a1 : Int32) (n : Nat) (σ : SG) (ρ : RG) (v1 : Int32) (v2 : Int32) : F_X12_rows_13 a1 (n + 1) σ ρ v1 v2 =
  (if (5 : Int32) ≤ v2 then
    nm (s2 σ 54 28 (0 : Int32)) fun σ5 =>
    bn (F_X12_rowsFrom (0 : Int32) σ5 ρ) fun σ6 =>
    if v1 = (-1 : Int32) then
      some ((σ6 54 28), σ6)
    else
      gd (inb v1 5) <|
      some ((σ6 62 (v1).toNatClampNeg), σ6)
  else
    gd (inb v2 5) <|
    nm (s2 σ 62 (v2).toNatClampNeg (-5 : Int32)) fun σ11 =>
    nm (v2 + (1 : Int32)) fun x12 =>
    F_X12_rows_13 a1 n σ11 ρ v1 x12) := rfl
theorem F_X12_cheese_39_s (a1 : Int32) (a2 : Int32) (n : Nat) (σ : SG) (ρ : RG) (v1 : Int32) (v2 : Int32) (v3 : Int32) : F_X12_cheese_39 a1 a2 (n + 1) σ ρ v1 v2 v3 =
  (if (6 : Int32) ≤ v3 then
    F_X12_cheese_63 a1 a2 1024 σ ρ v2 v1 (0 : Int32)
  else
    gd (inb v3 6) <|
    nm (s2 σ 63 (v3).toNatClampNeg (0 : Int32)) fun σ31 =>
    nm (v3 + (1 : Int32)) fun x32 =>
    F_X12_cheese_39 a1 a2 n σ31 ρ v1 v2 x32) := rfl
theorem ord_st {a v : Int32} {σ : SG} {ρ : RG} {n : Nat} (h5 : ¬ 5 ≤ v) (hi : inb v 5 = true) : F_X12_order_27 a (n + 1) σ ρ a v = F_X12_order_27 a n (s2 σ 62 v.toNatClampNeg (-5)) ρ a (v + 1) := by
  rw [F_X12_order_27_s, if_neg h5, hi, gd_true, nm_eq, nm_eq]
theorem rows_st {a v : Int32} {σ : SG} {ρ : RG} {n : Nat} (h5 : ¬ 5 ≤ v) (hi : inb v 5 = true) : F_X12_rows_13 a (n + 1) σ ρ a v = F_X12_rows_13 a n (s2 σ 62 v.toNatClampNeg (-5)) ρ a (v + 1) := by
  rw [F_X12_rows_13_s, if_neg h5, hi, gd_true, nm_eq, nm_eq]
theorem cheese_st {a b v : Int32} {σ : SG} {ρ : RG} {n : Nat} (h5 : ¬ 6 ≤ v) (hi : inb v 6 = true) : F_X12_cheese_39 a b (n + 1) σ ρ a b v = F_X12_cheese_39 a b n (s2 σ 63 v.toNatClampNeg 0) ρ a b (v + 1) := by
  rw [F_X12_cheese_39_s, if_neg h5, hi, gd_true, nm_eq, nm_eq]
theorem order_5 {σ : SG} {ρ : RG} {a : Int32} : F_X12_order_27 a 1024 σ ρ a 0 = F_X12_order_27 a (1018 + 1) (ord5 σ) ρ a 5 := by
  show F_X12_order_27 a (1023 + 1) σ ρ a 0 = _
  rw [ord_st (by decide) (by decide), show (0 : Int32) + 1 = 1 from rfl]
  show F_X12_order_27 a (1022 + 1) _ ρ a 1 = _
  rw [ord_st (by decide) (by decide), show (1 : Int32) + 1 = 2 from rfl]
  show F_X12_order_27 a (1021 + 1) _ ρ a 2 = _
  rw [ord_st (by decide) (by decide), show (2 : Int32) + 1 = 3 from rfl]
  show F_X12_order_27 a (1020 + 1) _ ρ a 3 = _
  rw [ord_st (by decide) (by decide), show (3 : Int32) + 1 = 4 from rfl]
  show F_X12_order_27 a (1019 + 1) _ ρ a 4 = _
  rw [ord_st (by decide) (by decide), show (4 : Int32) + 1 = 5 from rfl]
  rfl
theorem rows_5 {σ : SG} {ρ : RG} {a : Int32} : F_X12_rows_13 a 1024 σ ρ a 0 = F_X12_rows_13 a (1018 + 1) (ord5 σ) ρ a 5 := by
  show F_X12_rows_13 a (1023 + 1) σ ρ a 0 = _
  rw [rows_st (by decide) (by decide), show (0 : Int32) + 1 = 1 from rfl]
  show F_X12_rows_13 a (1022 + 1) _ ρ a 1 = _
  rw [rows_st (by decide) (by decide), show (1 : Int32) + 1 = 2 from rfl]
  show F_X12_rows_13 a (1021 + 1) _ ρ a 2 = _
  rw [rows_st (by decide) (by decide), show (2 : Int32) + 1 = 3 from rfl]
  show F_X12_rows_13 a (1020 + 1) _ ρ a 3 = _
  rw [rows_st (by decide) (by decide), show (3 : Int32) + 1 = 4 from rfl]
  show F_X12_rows_13 a (1019 + 1) _ ρ a 4 = _
  rw [rows_st (by decide) (by decide), show (4 : Int32) + 1 = 5 from rfl]
  rfl
theorem order_m0 {σ : SG} {ρ : RG} {a : Int32} (h : σ 55 11 = 0) : F_X12_order_27 a 1024 σ ρ a 0 = if a < 0 then some (0, s2 (s2 (ord5 σ) 54 25 1000000) 54 25 0) else gd (inb a 5) (some ((ord5 σ) 62 a.toNatClampNeg, s2 (s2 (ord5 σ) 54 25 1000000) 54 25 0)) := by
  have h1 : (0 : Int32) = s2 (ord5 σ) 54 25 1000000 55 11 := h.symm
  have ef : F_X12_ordersFrom 0 0 0 (s2 (ord5 σ) 54 25 1000000) ρ = some (s2 (s2 (ord5 σ) 54 25 1000000) 54 25 0) := by
    unfold F_X12_ordersFrom
    rw [if_pos h1, show s2 (ord5 σ) 54 25 1000000 54 25 = 1000000 from rfl, if_neg (show ¬ (1000000 : Int32) ≤ 0 by decide), nm_eq]
    show F_X12_ordersFrom_27 0 0 0 (1023 + 1) _ ρ 0 0 = _
    rw [F_X12_ordersFrom_27_s, if_pos (by decide)]
  rw [order_5, F_X12_order_27_s, if_pos (by decide), nm_eq, ef, bn_some, show s2 (s2 (ord5 σ) 54 25 1000000) 54 25 0 54 25 = 0 from rfl, if_neg (show ¬ (0 : Int32) = 1000000 by decide)]
  rfl
theorem rows_m0 {σ : SG} {ρ : RG} {a : Int32} (h : σ 55 13 = 0) : F_X12_rows_13 a 1024 σ ρ a 0 = (if a = -1 then some (1, s2 (s2 (ord5 σ) 54 28 0) 54 28 1) else gd (inb a 5) (some ((ord5 σ) 62 a.toNatClampNeg, s2 (s2 (ord5 σ) 54 28 0) 54 28 1))) := by
  have h1 : (0 : Int32) = s2 (ord5 σ) 54 28 0 55 13 := h.symm
  have ef : F_X12_rowsFrom 0 (s2 (ord5 σ) 54 28 0) ρ = some (s2 (s2 (ord5 σ) 54 28 0) 54 28 1) := by
    unfold F_X12_rowsFrom
    rw [if_pos h1]
    show F_X12_rowsFrom_13 0 (1023 + 1) _ ρ 0 0 = _
    rw [F_X12_rowsFrom_13_s, if_pos (by decide)]
    unfold F_X12_rowsFrom_43
    rw [nm_eq, nm_eq, show s2 (ord5 σ) 54 28 0 54 28 + 1 = 1 from rfl]
  rw [rows_5, F_X12_rows_13_s, if_pos (by decide), nm_eq, ef, bn_some]
  rfl
def ch6 (σ : SG) : SG := s2 (s2 (s2 (s2 (s2 (s2 σ 63 0 0) 63 1 0) 63 2 0) 63 3 0) 63 4 0) 63 5 0
theorem cheese_6 {σ : SG} {ρ : RG} {a b : Int32} : F_X12_cheese_39 a b 1024 σ ρ a b 0 = F_X12_cheese_39 a b (1017 + 1) (ch6 σ) ρ a b 6 := by
  show F_X12_cheese_39 a b (1023 + 1) σ ρ a b 0 = _
  rw [cheese_st (by decide) (by decide), show (0 : Int32) + 1 = 1 from rfl]
  show F_X12_cheese_39 a b (1022 + 1) _ ρ a b 1 = _
  rw [cheese_st (by decide) (by decide), show (1 : Int32) + 1 = 2 from rfl]
  show F_X12_cheese_39 a b (1021 + 1) _ ρ a b 2 = _
  rw [cheese_st (by decide) (by decide), show (2 : Int32) + 1 = 3 from rfl]
  show F_X12_cheese_39 a b (1020 + 1) _ ρ a b 3 = _
  rw [cheese_st (by decide) (by decide), show (3 : Int32) + 1 = 4 from rfl]
  show F_X12_cheese_39 a b (1019 + 1) _ ρ a b 4 = _
  rw [cheese_st (by decide) (by decide), show (4 : Int32) + 1 = 5 from rfl]
  show F_X12_cheese_39 a b (1018 + 1) _ ρ a b 5 = _
  rw [cheese_st (by decide) (by decide), show (5 : Int32) + 1 = 6 from rfl]
  rfl
theorem cheese_m0 {σ : SG} {ρ : RG} {a b : Int32} (h : σ 55 11 = 0) : F_X12_cheese_39 a b 1024 σ ρ a b 0 = F_X12_cheese_146 a b (ch6 σ) ρ b a 0 := by
  have h1 : ch6 σ 55 11 ≤ 0 := by
    rw [show ch6 σ 55 11 = σ 55 11 from rfl, h]; decide
  rw [cheese_6, F_X12_cheese_39_s, if_pos (by decide)]
  show F_X12_cheese_63 a b (1023 + 1) (ch6 σ) ρ b a 0 = _
  rw [F_X12_cheese_63_s, if_pos h1]
theorem cheese_x0 {σ : SG} {ρ : RG} {a b c d e f g : Int32} (h : σ 1 1 = 0) : F_X11_cheese_62 a b 1024 σ ρ a b c d e f g = F_X11_cheese_161 a b σ ρ b c d e f := by
  show F_X11_cheese_62 a b (1023 + 1) σ ρ a b c d e f g = _
  rw [F_X11_cheese_62_s]
  by_cases h1 : a ≤ g
  · rw [if_pos h1]
  · rw [if_neg h1, if_pos (show σ 1 1 ≤ 0 by rw [h]; decide)]
theorem takes_st {σ : SG} {ρ : RG} {v : Int32} {n : Nat} (h : σ 1 1 = 0) (h6 : ¬ 6 ≤ v) (hi : inb v 6 = true) : F_X8_takes_14_1_10 (n + 1) σ ρ v = F_X8_takes_14_1_10 n σ (r2 ρ 15 v.toNatClampNeg none) (v + 1) := by
  rw [F_X8_takes_14_1_10_s, if_neg h6, cutterAt_0 h, bn_some, oc_none]
  unfold F_X8_takes_14_1_42
  rw [hi, gd_true, nm_eq, nm_eq]
theorem takes_0 {σ : SG} {ρ : RG} (h : σ 1 1 = 0) : ∃ ρ', F_X8_takes_14_1_10 1024 σ ρ 0 = F_X8_takes_14_1_10 (1017 + 1) σ ρ' 6 := by
  show ∃ ρ', F_X8_takes_14_1_10 (1023 + 1) σ ρ 0 = _
  rw [takes_st h (by decide) (by decide), show (0 : Int32) + 1 = 1 from rfl]
  show ∃ ρ', F_X8_takes_14_1_10 (1022 + 1) σ _ 1 = _
  rw [takes_st h (by decide) (by decide), show (1 : Int32) + 1 = 2 from rfl]
  show ∃ ρ', F_X8_takes_14_1_10 (1021 + 1) σ _ 2 = _
  rw [takes_st h (by decide) (by decide), show (2 : Int32) + 1 = 3 from rfl]
  show ∃ ρ', F_X8_takes_14_1_10 (1020 + 1) σ _ 3 = _
  rw [takes_st h (by decide) (by decide), show (3 : Int32) + 1 = 4 from rfl]
  show ∃ ρ', F_X8_takes_14_1_10 (1019 + 1) σ _ 4 = _
  rw [takes_st h (by decide) (by decide), show (4 : Int32) + 1 = 5 from rfl]
  show ∃ ρ', F_X8_takes_14_1_10 (1018 + 1) σ _ 5 = _
  rw [takes_st h (by decide) (by decide), show (5 : Int32) + 1 = 6 from rfl]
  exact ⟨_, rfl⟩
theorem wi_00 : wi 0 0 1 = 1 ∧ wi 1 0 1 = 1 := by decide
theorem wi_05 : wi 0 0 5 = 1 ∧ wi 1 0 5 = 1 ∧ wi 2 0 5 = 1 ∧ wi 3 0 5 = 1 ∧ wi 4 0 5 = 1 ∧ wi 5 0 5 = 1 := by decide
theorem isb_0 : isb 0 = true := rfl
theorem isB_0 : isB 0 = true := by decide
theorem all_1 (n : Nat) (f : Nat → Bool) (h : ∀ i, f i = true) : (List.range n).all f = true := List.all_eq_true.mpr (fun i _ => h i)
theorem takes_x0 {σ : SG} {ρ : RG} (h : σ 1 1 = 0) (h6 : ∀ i, σ 6 i = 0) (h10 : ∀ i, σ 10 i = 0) : ∃ σ' ρ', F_X8_takes_14_1 σ ρ = some (σ', ρ') ∧ σ' 1 = σ 1 ∧ σ' 55 = σ 55 := by
  unfold F_X8_takes_14_1
  rw [nm_eq]
  obtain ⟨ρ1, e⟩ := takes_0 (σ := s2 σ 14 1 (σ 1 1)) (ρ := ρ) (by simp [s2_at, h])
  rw [e, F_X8_takes_14_1_10_s, if_pos (by decide)]
  unfold F_X3_takes F_X0_takes_18_5
  simp only [nm_eq, bn_some]
  rw [all_1, gd_true, bn_some, all_1, gd_true]
  · exact ⟨_, _, rfl, rfl, rfl⟩
  · intro i
    simp [s2_at, cpy_at, h10, isB_0]
  · intro i
    simp [s2_at, h6, isb_0]
theorem when_x0 (a b : Int32) (ρ : RG) : ∀ (d k f : Nat) (σ : SG), σ 1 1 = 0 → k + d ≤ 1000 → d < f → a = Int32.ofNat (k + d) → ∃ σ', F_X11_when_44 a b f σ ρ a b 0 (-5) (Int32.ofNat k) = some (-5, σ') ∧ σ' 1 = σ 1 ∧ ∀ r, 54 ≤ r → σ' r = σ r
  | d, k, 0, σ, h, hk, hf, ha => absurd hf (Nat.not_lt_zero _)
  | 0, k, f + 1, σ, h, hk, hf, ha => by
    rw [F_X11_when_44_s, if_pos (by rw [ha]; exact (ofN_le (by omega) (by omega)).mpr (by omega))]
    refine ⟨σ, ?_, rfl, fun _ _ => rfl⟩
    by_cases hb : b = 0
    · rw [if_pos hb]
    · rw [if_neg hb, if_pos rfl]
  | d + 1, k, f + 1, σ, h, hk, hf, ha => by
    rw [F_X11_when_44_s, if_neg (by rw [ha]; intro q; have := (ofN_le (by omega) (by omega)).mp q; omega), goOn_0 _ _ _ _ _ h, bn_some, if_pos (show go0 σ 0 13 ≤ 0 by rw [show go0 σ 0 13 = 0 from rfl]; decide)]
    unfold F_X11_when_76
    rw [nm_eq, ofN_succ]
    obtain ⟨σ', e1, e2, e3⟩ := when_x0 a b ρ d (k + 1) f (go0 σ) (show σ 1 1 = 0 from h) (by omega) (by omega) (by rw [ha]; congr 1; omega)
    refine ⟨σ', e1, e2.trans rfl, fun r hr => (e3 r hr).trans ?_⟩
    funext c
    unfold go0
    simp only [s2_at]
    rw [if_neg (by omega), if_neg (by omega), if_neg (by omega), if_neg (by omega), if_neg (by omega), if_neg (by omega), if_neg (by omega), if_neg (by omega), if_neg (by omega), if_neg (by omega), if_neg (by omega), if_neg (by omega), if_neg (by omega), if_neg (by omega), if_neg (by omega), if_neg (by omega), if_neg (by omega)]
theorem goodBy_0 {σ : SG} (ρ : RG) (a b : Int32) (h : σ 55 11 = 0) : ∃ σ', F_X12_goodBy a b σ ρ = some (0, σ') ∧ σ' 55 11 = 0 := by
  unfold F_X12_goodBy
  rw [goesOn_0 _ _ _ _ h, bn_some, F_X12_goesBack_eq, bn_some]
  exact ⟨_, rfl, h⟩
theorem when_m0 (a b : Int32) (ρ : RG) : ∀ (d k f : Nat) (σ : SG), σ 55 11 = 0 → k + d ≤ 1000 → d < f → a = Int32.ofNat (k + d) → ∃ σ', F_X12_when_42 a b f σ ρ a b 0 (-5) (Int32.ofNat k) = some (-5, σ')
  | d, k, 0, σ, h, hk, hf, ha => absurd hf (Nat.not_lt_zero _)
  | 0, k, f + 1, σ, h, hk, hf, ha => by
    rw [F_X12_when_42_s, if_pos (by rw [ha]; exact (ofN_le (by omega) (by omega)).mpr (by omega))]
    refine ⟨σ, ?_⟩
    by_cases hb : b = 0
    · rw [if_pos hb]
    · rw [if_neg hb, if_pos rfl]
  | d + 1, k, f + 1, σ, h, hk, hf, ha => by
    obtain ⟨σ1, e1, e2⟩ := goodBy_0 ρ a (Int32.ofNat k) h
    rw [F_X12_when_42_s, if_neg (by rw [ha]; intro q; have := (ofN_le (by omega) (by omega)).mp q; omega), e1, bn2_some, if_pos (by decide)]
    unfold F_X12_when_70 F_X12_when_84
    rw [if_pos (by decide), nm_eq, ofN_succ]
    exact when_m0 a b ρ d (k + 1) f σ1 e2 (by omega) (by omega) (by rw [ha]; congr 1; omega)
theorem F_X12_cutter_153_s (a1 : Int32) (a2 : Int32) (a3 : Int32) (a4 : Int32) (a5 : Int32) (n : Nat) (σ : SG) (ρ : RG) (v6 : Int32) (v7 : Int32) : F_X12_cutter_153 a1 a2 a3 a4 a5 (n + 1) σ ρ v6 v7 =
  (if (4 : Int32) ≤ v7 then
    nm ((σ 55 11) + (1 : Int32)) fun x37 =>
    nm (s2 σ 55 11 x37) fun σ39 =>
    some (v6, σ39)
  else
    nm ((4 : Int32) * v6) fun x40 =>
    nm ((50 : Int32) + x40) fun x41 =>
    nm (x41 + v7) fun x42 =>
    gd (inb x42 909) <|
    nm (s2 σ 55 (x42).toNatClampNeg (4 : Int32)) fun σ45 =>
    nm (v7 + (1 : Int32)) fun x46 =>
    F_X12_cutter_153 a1 a2 a3 a4 a5 n σ45 ρ v6 x46) := rfl
theorem cutter_st {a b c d e v w : Int32} {σ : SG} {ρ : RG} {n : Nat} (h4 : ¬ 4 ≤ w) (hi : inb (50 + 4 * v + w) 909 = true) : F_X12_cutter_153 a b c d e (n + 1) σ ρ v w = F_X12_cutter_153 a b c d e n (s2 σ 55 (50 + 4 * v + w).toNatClampNeg 4) ρ v (w + 1) := by
  rw [F_X12_cutter_153_s, if_neg h4, nm_eq, nm_eq, nm_eq, hi, gd_true, nm_eq, nm_eq]
theorem cutter_4 {a b c d e : Int32} {σ : SG} {ρ : RG} : ∃ σ', F_X12_cutter_153 a b c d e 1024 σ ρ 0 0 = some (0, σ') := by
  show ∃ σ', F_X12_cutter_153 a b c d e (1023 + 1) σ ρ 0 0 = _
  rw [cutter_st (by decide) (by decide), show (0 : Int32) + 1 = 1 from rfl]
  show ∃ σ', F_X12_cutter_153 a b c d e (1022 + 1) _ ρ 0 1 = _
  rw [cutter_st (by decide) (by decide), show (1 : Int32) + 1 = 2 from rfl]
  show ∃ σ', F_X12_cutter_153 a b c d e (1021 + 1) _ ρ 0 2 = _
  rw [cutter_st (by decide) (by decide), show (2 : Int32) + 1 = 3 from rfl]
  show ∃ σ', F_X12_cutter_153 a b c d e (1020 + 1) _ ρ 0 3 = _
  rw [cutter_st (by decide) (by decide), show (3 : Int32) + 1 = 4 from rfl]
  show ∃ σ', F_X12_cutter_153 a b c d e (1019 + 1) _ ρ 0 4 = _
  rw [F_X12_cutter_153_s, if_pos (by decide)]
  exact ⟨_, rfl⟩
theorem newCutter_65 (a b c d e f : Int32) (K len : Nat → Nat) (σ : SG) (ρ : RG) : ∃ N' K' L' σ' ρ', F_X11_newCutter a b c d e f 65 K len σ ρ = some (65, N', K', L', σ', ρ') ∧ σ' 1 = σ 1 ∧ σ' 55 = σ 55 := by
  unfold F_X11_newCutter
  by_cases h1 : a = 1
  · rw [if_pos h1]; exact ⟨_, _, _, _, _, rfl, rfl, rfl⟩
  rw [if_neg h1]
  by_cases h2 : a = 2
  · rw [if_pos h2]; exact ⟨_, _, _, _, _, rfl, rfl, rfl⟩
  rw [if_neg h2]
  by_cases h3 : a = 3
  · rw [if_pos h3]; exact ⟨_, _, _, _, _, rfl, rfl, rfl⟩
  rw [if_neg h3]
  by_cases h4 : a = 4
  · rw [if_pos h4]; exact ⟨_, _, _, _, _, rfl, rfl, rfl⟩
  rw [if_neg h4]
  by_cases h5 : a = 5
  · rw [if_pos h5]; exact ⟨_, _, _, _, _, rfl, rfl, rfl⟩
  rw [if_neg h5]
  by_cases h6 : a = 6
  · rw [if_pos h6]; exact ⟨_, _, _, _, _, rfl, rfl, rfl⟩
  · rw [if_neg h6]; exact ⟨_, _, _, _, _, rfl, rfl, rfl⟩
theorem mcutter_0 {a b c d e : Int32} {σ : SG} (ρ : RG) (h1 : wi a 0 6 = 1) (h2 : wi b 0 9 = 1) (h3 : wi c (-9) 9 = 1) (h4 : wi d (-9) 9 = 1) (h5 : wi e 1 40 = 1) (h : σ 55 11 = 0) : ∃ σ', F_X12_cutter a b c d e σ ρ = some (0, σ') := by
  unfold F_X12_cutter
  simp only [F_X12_in_eq, bn_some_p, h1, h2, h3, h4, h5, h]
  rw [if_neg (by decide), if_neg (by decide), if_neg (by decide), if_neg (by decide), if_neg (by decide), if_neg (by decide)]
  simp only [nm_eq_p]
  rw [show inb (20 + 0) 909 = true by decide, gd_true_p, show inb (26 + 0) 909 = true by decide, gd_true_p, show inb (32 + 0) 909 = true by decide, gd_true_p, show inb (38 + 0) 909 = true by decide, gd_true_p, show inb (44 + 0) 909 = true by decide, gd_true_p, show inb (5 + 0) 909 = true by decide, gd_true_p]
  exact cutter_4
section CASES
variable {xs : Nat → Int32} {rec : Nat → (Nat → Nat) → (Nat → Nat) → SG → RG → Int32 → Option Unit} {N : Nat} {K len : Nat → Nat} {σ : SG} {ρ : RG}
theorem l_of (hS : St σ ρ) (hrec : ∀ N K len σ ρ, rec N K len σ ρ 6 = some ()) : F_L_303 xs 6 rec N K len σ ρ 0 = some () := by
  simp (decide := true) [gd_in, nm_eq, gd_true, bn_some, bn2_some, bn3_some, bnT_some, oc_none, oc_some, bn_ite, bn2_ite, bn3_ite, F_X12_isCutter_eq, F_X12_in_eq, F_X11_isWithin_eq, F_X11_isThick_eq, F_X11_isSlope_eq, wi_e, inb_1, inb_2, inb_3, inb_4, inb_5, s2_at, cutterAt_0 (St.c1 hS), St.c1 hS, St.c4 hS, St.c6 hS, St.c10 hS, St.c13 hS, St.c02 hS, St.t1 hS, St.l0 hS, St.l1 hS, St.l2 hS, St.l3 hS, St.l4 hS, St.l5 hS, St.b0 hS, St.b1 hS, St.m0 hS, St.m1 hS, St.m2 hS, St.m3 hS, St.m4 hS, St.m5 hS, St.m6 hS, St.m7 hS, St.m8 hS, St.m9 hS, St.m10 hS, St.m11 hS, St.m12 hS, St.m13 hS, St.m14 hS, St.m15 hS, St.m16 hS, St.m17 hS, St.m18 hS, St.m19 hS, St.n4 hS, St.n9 hS, St.n10 hS, St.n12 hS, St.n13 hS, St.n17 hS, St.n18 hS, St.n28 hS, St.n30 hS, F_L_303, F_X11_of, F_X12_of, hrec]
theorem l_thick (hS : St σ ρ) (hrec : ∀ N K len σ ρ, rec N K len σ ρ 6 = some ()) : F_L_336 xs 6 rec N K len σ ρ 0 = some () := by
  simp (decide := true) [gd_in, nm_eq, gd_true, bn_some, bn2_some, bn3_some, bnT_some, oc_none, oc_some, bn_ite, bn2_ite, bn3_ite, F_X12_isCutter_eq, F_X12_in_eq, F_X11_isWithin_eq, F_X11_isThick_eq, F_X11_isSlope_eq, wi_e, inb_1, inb_2, inb_3, inb_4, inb_5, s2_at, cutterAt_0 (St.c1 hS), St.c1 hS, St.c4 hS, St.c6 hS, St.c10 hS, St.c13 hS, St.c02 hS, St.t1 hS, St.l0 hS, St.l1 hS, St.l2 hS, St.l3 hS, St.l4 hS, St.l5 hS, St.b0 hS, St.b1 hS, St.m0 hS, St.m1 hS, St.m2 hS, St.m3 hS, St.m4 hS, St.m5 hS, St.m6 hS, St.m7 hS, St.m8 hS, St.m9 hS, St.m10 hS, St.m11 hS, St.m12 hS, St.m13 hS, St.m14 hS, St.m15 hS, St.m16 hS, St.m17 hS, St.m18 hS, St.m19 hS, St.n4 hS, St.n9 hS, St.n10 hS, St.n12 hS, St.n13 hS, St.n17 hS, St.n18 hS, St.n28 hS, St.n30 hS, F_L_336, F_X11_thick, F_X12_thick, hrec]
theorem l_row (hS : St σ ρ) (hrec : ∀ N K len σ ρ, rec N K len σ ρ 6 = some ()) : F_L_369 xs 6 rec N K len σ ρ 0 = some () := by
  simp (decide := true) [gd_in, nm_eq, gd_true, bn_some, bn2_some, bn3_some, bnT_some, oc_none, oc_some, bn_ite, bn2_ite, bn3_ite, F_X12_isCutter_eq, F_X12_in_eq, F_X11_isWithin_eq, F_X11_isThick_eq, F_X11_isSlope_eq, wi_e, inb_1, inb_2, inb_3, inb_4, inb_5, s2_at, cutterAt_0 (St.c1 hS), St.c1 hS, St.c4 hS, St.c6 hS, St.c10 hS, St.c13 hS, St.c02 hS, St.t1 hS, St.l0 hS, St.l1 hS, St.l2 hS, St.l3 hS, St.l4 hS, St.l5 hS, St.b0 hS, St.b1 hS, St.m0 hS, St.m1 hS, St.m2 hS, St.m3 hS, St.m4 hS, St.m5 hS, St.m6 hS, St.m7 hS, St.m8 hS, St.m9 hS, St.m10 hS, St.m11 hS, St.m12 hS, St.m13 hS, St.m14 hS, St.m15 hS, St.m16 hS, St.m17 hS, St.m18 hS, St.m19 hS, St.n4 hS, St.n9 hS, St.n10 hS, St.n12 hS, St.n13 hS, St.n17 hS, St.n18 hS, St.n28 hS, St.n30 hS, F_L_369, F_X11_row, F_X12_row, hrec]
theorem l_cut (hS : St σ ρ) (hrec : ∀ N K len σ ρ, rec N K len σ ρ 6 = some ()) : F_L_458 xs 6 rec N K len σ ρ 0 = some () := by
  simp (decide := true) [gd_in, nm_eq, gd_true, bn_some, bn2_some, bn3_some, bnT_some, oc_none, oc_some, bn_ite, bn2_ite, bn3_ite, F_X12_isCutter_eq, F_X12_in_eq, F_X11_isWithin_eq, F_X11_isThick_eq, F_X11_isSlope_eq, wi_e, inb_1, inb_2, inb_3, inb_4, inb_5, s2_at, cutterAt_0 (St.c1 hS), St.c1 hS, St.c4 hS, St.c6 hS, St.c10 hS, St.c13 hS, St.c02 hS, St.t1 hS, St.l0 hS, St.l1 hS, St.l2 hS, St.l3 hS, St.l4 hS, St.l5 hS, St.b0 hS, St.b1 hS, St.m0 hS, St.m1 hS, St.m2 hS, St.m3 hS, St.m4 hS, St.m5 hS, St.m6 hS, St.m7 hS, St.m8 hS, St.m9 hS, St.m10 hS, St.m11 hS, St.m12 hS, St.m13 hS, St.m14 hS, St.m15 hS, St.m16 hS, St.m17 hS, St.m18 hS, St.m19 hS, St.n4 hS, St.n9 hS, St.n10 hS, St.n12 hS, St.n13 hS, St.n17 hS, St.n18 hS, St.n28 hS, St.n30 hS, F_L_458, F_X11_cut, F_X12_cut, hrec]
theorem l_would (hS : St σ ρ) (hrec : ∀ N K len σ ρ, rec N K len σ ρ 6 = some ()) : F_L_533 xs 6 rec N K len σ ρ 0 = some () := by
  simp (decide := true) [gd_in, nm_eq, gd_true, bn_some, bn2_some, bn3_some, bnT_some, oc_none, oc_some, bn_ite, bn2_ite, bn3_ite, F_X12_isCutter_eq, F_X12_in_eq, F_X11_isWithin_eq, F_X11_isThick_eq, F_X11_isSlope_eq, wi_e, inb_1, inb_2, inb_3, inb_4, inb_5, s2_at, cutterAt_0 (St.c1 hS), St.c1 hS, St.c4 hS, St.c6 hS, St.c10 hS, St.c13 hS, St.c02 hS, St.t1 hS, St.l0 hS, St.l1 hS, St.l2 hS, St.l3 hS, St.l4 hS, St.l5 hS, St.b0 hS, St.b1 hS, St.m0 hS, St.m1 hS, St.m2 hS, St.m3 hS, St.m4 hS, St.m5 hS, St.m6 hS, St.m7 hS, St.m8 hS, St.m9 hS, St.m10 hS, St.m11 hS, St.m12 hS, St.m13 hS, St.m14 hS, St.m15 hS, St.m16 hS, St.m17 hS, St.m18 hS, St.m19 hS, St.n4 hS, St.n9 hS, St.n10 hS, St.n12 hS, St.n13 hS, St.n17 hS, St.n18 hS, St.n28 hS, St.n30 hS, F_L_533, F_X11_would, F_X12_would, hrec]
theorem l_enough (hS : St σ ρ) (hrec : ∀ N K len σ ρ, rec N K len σ ρ 6 = some ()) : F_L_681 xs 6 rec N K len σ ρ 0 = some () := by
  simp (decide := true) [gd_in, nm_eq, gd_true, bn_some, bn2_some, bn3_some, bnT_some, oc_none, oc_some, bn_ite, bn2_ite, bn3_ite, F_X12_isCutter_eq, F_X12_in_eq, F_X11_isWithin_eq, F_X11_isThick_eq, F_X11_isSlope_eq, wi_e, inb_1, inb_2, inb_3, inb_4, inb_5, s2_at, cutterAt_0 (St.c1 hS), St.c1 hS, St.c4 hS, St.c6 hS, St.c10 hS, St.c13 hS, St.c02 hS, St.t1 hS, St.l0 hS, St.l1 hS, St.l2 hS, St.l3 hS, St.l4 hS, St.l5 hS, St.b0 hS, St.b1 hS, St.m0 hS, St.m1 hS, St.m2 hS, St.m3 hS, St.m4 hS, St.m5 hS, St.m6 hS, St.m7 hS, St.m8 hS, St.m9 hS, St.m10 hS, St.m11 hS, St.m12 hS, St.m13 hS, St.m14 hS, St.m15 hS, St.m16 hS, St.m17 hS, St.m18 hS, St.m19 hS, St.n4 hS, St.n9 hS, St.n10 hS, St.n12 hS, St.n13 hS, St.n17 hS, St.n18 hS, St.n28 hS, St.n30 hS, F_L_681, F_X11_enough, F_X12_enough, hrec]
theorem l_again (hS : St σ ρ) (hrec : ∀ N K len σ ρ, rec N K len σ ρ 6 = some ()) : F_L_760 xs 6 rec N K len σ ρ 0 = some () := by
  simp (decide := true) [gd_in, nm_eq, gd_true, bn_some, bn2_some, bn3_some, bnT_some, oc_none, oc_some, bn_ite, bn2_ite, bn3_ite, F_X12_isCutter_eq, F_X12_in_eq, F_X11_isWithin_eq, F_X11_isThick_eq, F_X11_isSlope_eq, wi_e, inb_1, inb_2, inb_3, inb_4, inb_5, s2_at, cutterAt_0 (St.c1 hS), St.c1 hS, St.c4 hS, St.c6 hS, St.c10 hS, St.c13 hS, St.c02 hS, St.t1 hS, St.l0 hS, St.l1 hS, St.l2 hS, St.l3 hS, St.l4 hS, St.l5 hS, St.b0 hS, St.b1 hS, St.m0 hS, St.m1 hS, St.m2 hS, St.m3 hS, St.m4 hS, St.m5 hS, St.m6 hS, St.m7 hS, St.m8 hS, St.m9 hS, St.m10 hS, St.m11 hS, St.m12 hS, St.m13 hS, St.m14 hS, St.m15 hS, St.m16 hS, St.m17 hS, St.m18 hS, St.m19 hS, St.n4 hS, St.n9 hS, St.n10 hS, St.n12 hS, St.n13 hS, St.n17 hS, St.n18 hS, St.n28 hS, St.n30 hS, F_L_760, F_X11_again, F_X12_again, hrec]
theorem l_game (hS : St σ ρ) (hrec : ∀ N K len σ ρ, rec N K len σ ρ 6 = some ()) : F_L_816 xs 6 rec N K len σ ρ 0 = some () := by
  simp (decide := true) [gd_in, nm_eq, gd_true, bn_some, bn2_some, bn3_some, bnT_some, oc_none, oc_some, bn_ite, bn2_ite, bn3_ite, F_X12_isCutter_eq, F_X12_in_eq, F_X11_isWithin_eq, F_X11_isThick_eq, F_X11_isSlope_eq, wi_e, inb_1, inb_2, inb_3, inb_4, inb_5, s2_at, cutterAt_0 (St.c1 hS), St.c1 hS, St.c4 hS, St.c6 hS, St.c10 hS, St.c13 hS, St.c02 hS, St.t1 hS, St.l0 hS, St.l1 hS, St.l2 hS, St.l3 hS, St.l4 hS, St.l5 hS, St.b0 hS, St.b1 hS, St.m0 hS, St.m1 hS, St.m2 hS, St.m3 hS, St.m4 hS, St.m5 hS, St.m6 hS, St.m7 hS, St.m8 hS, St.m9 hS, St.m10 hS, St.m11 hS, St.m12 hS, St.m13 hS, St.m14 hS, St.m15 hS, St.m16 hS, St.m17 hS, St.m18 hS, St.m19 hS, St.n4 hS, St.n9 hS, St.n10 hS, St.n12 hS, St.n13 hS, St.n17 hS, St.n18 hS, St.n28 hS, St.n30 hS, F_L_816, F_X11_game, F_X12_game, hrec]
theorem l_as (hS : St σ ρ) (hrec : ∀ N K len σ ρ, rec N K len σ ρ 6 = some ()) : F_L_1177 xs 6 rec N K len σ ρ 0 = some () := by
  simp (decide := true) [gd_in, nm_eq, gd_true, bn_some, bn2_some, bn3_some, bnT_some, oc_none, oc_some, bn_ite, bn2_ite, bn3_ite, F_X12_isCutter_eq, F_X12_in_eq, F_X11_isWithin_eq, F_X11_isThick_eq, F_X11_isSlope_eq, wi_e, inb_1, inb_2, inb_3, inb_4, inb_5, s2_at, cutterAt_0 (St.c1 hS), St.c1 hS, St.c4 hS, St.c6 hS, St.c10 hS, St.c13 hS, St.c02 hS, St.t1 hS, St.l0 hS, St.l1 hS, St.l2 hS, St.l3 hS, St.l4 hS, St.l5 hS, St.b0 hS, St.b1 hS, St.m0 hS, St.m1 hS, St.m2 hS, St.m3 hS, St.m4 hS, St.m5 hS, St.m6 hS, St.m7 hS, St.m8 hS, St.m9 hS, St.m10 hS, St.m11 hS, St.m12 hS, St.m13 hS, St.m14 hS, St.m15 hS, St.m16 hS, St.m17 hS, St.m18 hS, St.m19 hS, St.n4 hS, St.n9 hS, St.n10 hS, St.n12 hS, St.n13 hS, St.n17 hS, St.n18 hS, St.n28 hS, St.n30 hS, F_L_1177, F_X11_as, F_X12_as, hrec]
theorem l_clear (hS : St σ ρ) (hrec : ∀ N K len σ ρ, rec N K len σ ρ 6 = some ()) : F_L_971 xs 6 rec N K len σ ρ 0 = some () := by
  simp (decide := true) [gd_in, nm_eq, gd_true, bn_some, bn2_some, bn3_some, bnT_some, oc_none, oc_some, bn_ite, bn2_ite, bn3_ite, F_X12_isCutter_eq, F_X12_in_eq, F_X11_isWithin_eq, F_X11_isThick_eq, F_X11_isSlope_eq, wi_e, inb_1, inb_2, inb_3, inb_4, inb_5, s2_at, cutterAt_0 (St.c1 hS), St.c1 hS, St.c4 hS, St.c6 hS, St.c10 hS, St.c13 hS, St.c02 hS, St.t1 hS, St.l0 hS, St.l1 hS, St.l2 hS, St.l3 hS, St.l4 hS, St.l5 hS, St.b0 hS, St.b1 hS, St.m0 hS, St.m1 hS, St.m2 hS, St.m3 hS, St.m4 hS, St.m5 hS, St.m6 hS, St.m7 hS, St.m8 hS, St.m9 hS, St.m10 hS, St.m11 hS, St.m12 hS, St.m13 hS, St.m14 hS, St.m15 hS, St.m16 hS, St.m17 hS, St.m18 hS, St.m19 hS, St.n4 hS, St.n9 hS, St.n10 hS, St.n12 hS, St.n13 hS, St.n17 hS, St.n18 hS, St.n28 hS, St.n30 hS, F_L_971, F_X11_clear, F_X12_clear, hrec]
theorem l_undo (hS : St σ ρ) (hrec : ∀ N K len σ ρ, rec N K len σ ρ 6 = some ()) : F_L_1223 xs 6 rec N K len σ ρ 0 = some () := by
  simp (decide := true) [gd_in, nm_eq, gd_true, bn_some, bn2_some, bn3_some, bnT_some, oc_none, oc_some, bn_ite, bn2_ite, bn3_ite, F_X12_isCutter_eq, F_X12_in_eq, F_X11_isWithin_eq, F_X11_isThick_eq, F_X11_isSlope_eq, wi_e, inb_1, inb_2, inb_3, inb_4, inb_5, s2_at, cutterAt_0 (St.c1 hS), St.c1 hS, St.c4 hS, St.c6 hS, St.c10 hS, St.c13 hS, St.c02 hS, St.t1 hS, St.l0 hS, St.l1 hS, St.l2 hS, St.l3 hS, St.l4 hS, St.l5 hS, St.b0 hS, St.b1 hS, St.m0 hS, St.m1 hS, St.m2 hS, St.m3 hS, St.m4 hS, St.m5 hS, St.m6 hS, St.m7 hS, St.m8 hS, St.m9 hS, St.m10 hS, St.m11 hS, St.m12 hS, St.m13 hS, St.m14 hS, St.m15 hS, St.m16 hS, St.m17 hS, St.m18 hS, St.m19 hS, St.n4 hS, St.n9 hS, St.n10 hS, St.n12 hS, St.n13 hS, St.n17 hS, St.n18 hS, St.n28 hS, St.n30 hS, F_L_1223, F_X11_undo, F_X12_undo, hrec]
theorem l_see (hS : St σ ρ) (hrec : ∀ N K len σ ρ, rec N K len σ ρ 6 = some ()) : F_L_902 xs 6 rec N K len σ ρ 0 = some () := by
  rcases wi_01 (xs 1) (-99) 99 with h0 | h0 <;>
  rcases wi_01 (xs 2) (-99) 99 with h1 | h1 <;>
  simp (decide := true) [gd_in, nm_eq, gd_true, bn_some, bn2_some, bn3_some, bnT_some, oc_none, oc_some, bn_ite, bn2_ite, bn3_ite, F_X12_isCutter_eq, F_X12_in_eq, F_X11_isWithin_eq, F_X11_isThick_eq, F_X11_isSlope_eq, wi_e, inb_1, inb_2, inb_3, inb_4, inb_5, s2_at, cutterAt_0 (St.c1 hS), St.c1 hS, St.c4 hS, St.c6 hS, St.c10 hS, St.c13 hS, St.c02 hS, St.t1 hS, St.l0 hS, St.l1 hS, St.l2 hS, St.l3 hS, St.l4 hS, St.l5 hS, St.b0 hS, St.b1 hS, St.m0 hS, St.m1 hS, St.m2 hS, St.m3 hS, St.m4 hS, St.m5 hS, St.m6 hS, St.m7 hS, St.m8 hS, St.m9 hS, St.m10 hS, St.m11 hS, St.m12 hS, St.m13 hS, St.m14 hS, St.m15 hS, St.m16 hS, St.m17 hS, St.m18 hS, St.m19 hS, St.n4 hS, St.n9 hS, St.n10 hS, St.n12 hS, St.n13 hS, St.n17 hS, St.n18 hS, St.n28 hS, St.n30 hS, F_L_902, F_X11_see, F_X12_see, hrec, h0, h1]
theorem l_week (hS : St σ ρ) (hrec : ∀ N K len σ ρ, rec N K len σ ρ 6 = some ()) : F_L_948 xs 6 rec N K len σ ρ 0 = some () := by
  rcases wi_01 (xs 1) (-99) 99 with h0 | h0 <;>
  simp (decide := true) [gd_in, nm_eq, gd_true, bn_some, bn2_some, bn3_some, bnT_some, oc_none, oc_some, bn_ite, bn2_ite, bn3_ite, F_X12_isCutter_eq, F_X12_in_eq, F_X11_isWithin_eq, F_X11_isThick_eq, F_X11_isSlope_eq, wi_e, inb_1, inb_2, inb_3, inb_4, inb_5, s2_at, cutterAt_0 (St.c1 hS), St.c1 hS, St.c4 hS, St.c6 hS, St.c10 hS, St.c13 hS, St.c02 hS, St.t1 hS, St.l0 hS, St.l1 hS, St.l2 hS, St.l3 hS, St.l4 hS, St.l5 hS, St.b0 hS, St.b1 hS, St.m0 hS, St.m1 hS, St.m2 hS, St.m3 hS, St.m4 hS, St.m5 hS, St.m6 hS, St.m7 hS, St.m8 hS, St.m9 hS, St.m10 hS, St.m11 hS, St.m12 hS, St.m13 hS, St.m14 hS, St.m15 hS, St.m16 hS, St.m17 hS, St.m18 hS, St.m19 hS, St.n4 hS, St.n9 hS, St.n10 hS, St.n12 hS, St.n13 hS, St.n17 hS, St.n18 hS, St.n28 hS, St.n30 hS, F_L_948, F_X11_week, F_X12_week, hrec, h0]
theorem l_feed (hS : St σ ρ) (hrec : ∀ N K len σ ρ, rec N K len σ ρ 6 = some ()) : F_L_204 xs 6 rec N K len σ ρ 0 = some () := by
  rcases wi_01 (xs 1) 0 127 with h0 | h0 <;>
  simp (decide := true) [gd_in, nm_eq, gd_true, bn_some, bn2_some, bn3_some, bnT_some, oc_none, oc_some, bn_ite, bn2_ite, bn3_ite, F_X12_isCutter_eq, F_X12_in_eq, F_X11_isWithin_eq, F_X11_isThick_eq, F_X11_isSlope_eq, wi_e, inb_1, inb_2, inb_3, inb_4, inb_5, s2_at, cutterAt_0 (St.c1 hS), St.c1 hS, St.c4 hS, St.c6 hS, St.c10 hS, St.c13 hS, St.c02 hS, St.t1 hS, St.l0 hS, St.l1 hS, St.l2 hS, St.l3 hS, St.l4 hS, St.l5 hS, St.b0 hS, St.b1 hS, St.m0 hS, St.m1 hS, St.m2 hS, St.m3 hS, St.m4 hS, St.m5 hS, St.m6 hS, St.m7 hS, St.m8 hS, St.m9 hS, St.m10 hS, St.m11 hS, St.m12 hS, St.m13 hS, St.m14 hS, St.m15 hS, St.m16 hS, St.m17 hS, St.m18 hS, St.m19 hS, St.n4 hS, St.n9 hS, St.n10 hS, St.n12 hS, St.n13 hS, St.n17 hS, St.n18 hS, St.n28 hS, St.n30 hS, F_L_204, F_X11_feed, F_X12_feed, hrec, h0]
theorem l_loaf (hS : St σ ρ) (hrec : ∀ N K len σ ρ, rec N K len σ ρ 6 = some ()) : F_L_412 xs 6 rec N K len σ ρ 0 = some () := by
  rcases wi_01 (xs 1) 40 999 with h0 | h0 <;>
  simp (decide := true) [gd_in, nm_eq, gd_true, bn_some, bn2_some, bn3_some, bnT_some, oc_none, oc_some, bn_ite, bn2_ite, bn3_ite, F_X12_isCutter_eq, F_X12_in_eq, F_X11_isWithin_eq, F_X11_isThick_eq, F_X11_isSlope_eq, wi_e, inb_1, inb_2, inb_3, inb_4, inb_5, s2_at, cutterAt_0 (St.c1 hS), St.c1 hS, St.c4 hS, St.c6 hS, St.c10 hS, St.c13 hS, St.c02 hS, St.t1 hS, St.l0 hS, St.l1 hS, St.l2 hS, St.l3 hS, St.l4 hS, St.l5 hS, St.b0 hS, St.b1 hS, St.m0 hS, St.m1 hS, St.m2 hS, St.m3 hS, St.m4 hS, St.m5 hS, St.m6 hS, St.m7 hS, St.m8 hS, St.m9 hS, St.m10 hS, St.m11 hS, St.m12 hS, St.m13 hS, St.m14 hS, St.m15 hS, St.m16 hS, St.m17 hS, St.m18 hS, St.m19 hS, St.n4 hS, St.n9 hS, St.n10 hS, St.n12 hS, St.n13 hS, St.n17 hS, St.n18 hS, St.n28 hS, St.n30 hS, F_L_412, F_X11_loaf, F_X12_loaf, hrec, h0, F_X3_startsAnew]
theorem l_turn (hS : St σ ρ) (hrec : ∀ N K len σ ρ, rec N K len σ ρ 6 = some ()) : F_L_494 xs 6 rec N K len σ ρ 0 = some () := by
  by_cases h : xs 1 = 0 <;> simp (decide := true) [gd_in, nm_eq, gd_true, bn_some, bn2_some, bn3_some, bnT_some, oc_none, oc_some, bn_ite, bn2_ite, bn3_ite, F_X12_isCutter_eq, F_X12_in_eq, F_X11_isWithin_eq, F_X11_isThick_eq, F_X11_isSlope_eq, wi_e, inb_1, inb_2, inb_3, inb_4, inb_5, s2_at, cutterAt_0 (St.c1 hS), St.c1 hS, St.c4 hS, St.c6 hS, St.c10 hS, St.c13 hS, St.c02 hS, St.t1 hS, St.l0 hS, St.l1 hS, St.l2 hS, St.l3 hS, St.l4 hS, St.l5 hS, St.b0 hS, St.b1 hS, St.m0 hS, St.m1 hS, St.m2 hS, St.m3 hS, St.m4 hS, St.m5 hS, St.m6 hS, St.m7 hS, St.m8 hS, St.m9 hS, St.m10 hS, St.m11 hS, St.m12 hS, St.m13 hS, St.m14 hS, St.m15 hS, St.m16 hS, St.m17 hS, St.m18 hS, St.m19 hS, St.n4 hS, St.n9 hS, St.n10 hS, St.n12 hS, St.n13 hS, St.n17 hS, St.n18 hS, St.n28 hS, St.n30 hS, F_L_494, F_X11_turn, F_X12_turn, hrec, h, F_X12_turn_9]
theorem l_count (hS : St σ ρ) (hrec : ∀ N K len σ ρ, rec N K len σ ρ 6 = some ()) : F_L_1236 xs 6 rec N K len σ ρ 0 = some () := by
  by_cases h0 : xs 1 = 0
  · simp (decide := true) [gd_in, nm_eq, gd_true, bn_some, bn2_some, bn3_some, bnT_some, oc_none, oc_some, bn_ite, bn2_ite, bn3_ite, F_X12_isCutter_eq, F_X12_in_eq, F_X11_isWithin_eq, F_X11_isThick_eq, F_X11_isSlope_eq, wi_e, inb_1, inb_2, inb_3, inb_4, inb_5, s2_at, cutterAt_0 (St.c1 hS), St.c1 hS, St.c4 hS, St.c6 hS, St.c10 hS, St.c13 hS, St.c02 hS, St.t1 hS, St.l0 hS, St.l1 hS, St.l2 hS, St.l3 hS, St.l4 hS, St.l5 hS, St.b0 hS, St.b1 hS, St.m0 hS, St.m1 hS, St.m2 hS, St.m3 hS, St.m4 hS, St.m5 hS, St.m6 hS, St.m7 hS, St.m8 hS, St.m9 hS, St.m10 hS, St.m11 hS, St.m12 hS, St.m13 hS, St.m14 hS, St.m15 hS, St.m16 hS, St.m17 hS, St.m18 hS, St.m19 hS, St.n4 hS, St.n9 hS, St.n10 hS, St.n12 hS, St.n13 hS, St.n17 hS, St.n18 hS, St.n28 hS, St.n30 hS, F_L_1236, F_X11_count, F_X12_count, hrec, h0]
  by_cases h1 : xs 1 = 1
  · simp (decide := true) [gd_in, nm_eq, gd_true, bn_some, bn2_some, bn3_some, bnT_some, oc_none, oc_some, bn_ite, bn2_ite, bn3_ite, F_X12_isCutter_eq, F_X12_in_eq, F_X11_isWithin_eq, F_X11_isThick_eq, F_X11_isSlope_eq, wi_e, inb_1, inb_2, inb_3, inb_4, inb_5, s2_at, cutterAt_0 (St.c1 hS), St.c1 hS, St.c4 hS, St.c6 hS, St.c10 hS, St.c13 hS, St.c02 hS, St.t1 hS, St.l0 hS, St.l1 hS, St.l2 hS, St.l3 hS, St.l4 hS, St.l5 hS, St.b0 hS, St.b1 hS, St.m0 hS, St.m1 hS, St.m2 hS, St.m3 hS, St.m4 hS, St.m5 hS, St.m6 hS, St.m7 hS, St.m8 hS, St.m9 hS, St.m10 hS, St.m11 hS, St.m12 hS, St.m13 hS, St.m14 hS, St.m15 hS, St.m16 hS, St.m17 hS, St.m18 hS, St.m19 hS, St.n4 hS, St.n9 hS, St.n10 hS, St.n12 hS, St.n13 hS, St.n17 hS, St.n18 hS, St.n28 hS, St.n30 hS, F_L_1236, F_X11_count, F_X12_count, hrec, h1]
  by_cases h2 : xs 1 = 2
  · simp (decide := true) [gd_in, nm_eq, gd_true, bn_some, bn2_some, bn3_some, bnT_some, oc_none, oc_some, bn_ite, bn2_ite, bn3_ite, F_X12_isCutter_eq, F_X12_in_eq, F_X11_isWithin_eq, F_X11_isThick_eq, F_X11_isSlope_eq, wi_e, inb_1, inb_2, inb_3, inb_4, inb_5, s2_at, cutterAt_0 (St.c1 hS), St.c1 hS, St.c4 hS, St.c6 hS, St.c10 hS, St.c13 hS, St.c02 hS, St.t1 hS, St.l0 hS, St.l1 hS, St.l2 hS, St.l3 hS, St.l4 hS, St.l5 hS, St.b0 hS, St.b1 hS, St.m0 hS, St.m1 hS, St.m2 hS, St.m3 hS, St.m4 hS, St.m5 hS, St.m6 hS, St.m7 hS, St.m8 hS, St.m9 hS, St.m10 hS, St.m11 hS, St.m12 hS, St.m13 hS, St.m14 hS, St.m15 hS, St.m16 hS, St.m17 hS, St.m18 hS, St.m19 hS, St.n4 hS, St.n9 hS, St.n10 hS, St.n12 hS, St.n13 hS, St.n17 hS, St.n18 hS, St.n28 hS, St.n30 hS, F_L_1236, F_X11_count, F_X12_count, hrec, h2]
  by_cases h3 : xs 1 = 3
  · simp (decide := true) [gd_in, nm_eq, gd_true, bn_some, bn2_some, bn3_some, bnT_some, oc_none, oc_some, bn_ite, bn2_ite, bn3_ite, F_X12_isCutter_eq, F_X12_in_eq, F_X11_isWithin_eq, F_X11_isThick_eq, F_X11_isSlope_eq, wi_e, inb_1, inb_2, inb_3, inb_4, inb_5, s2_at, cutterAt_0 (St.c1 hS), St.c1 hS, St.c4 hS, St.c6 hS, St.c10 hS, St.c13 hS, St.c02 hS, St.t1 hS, St.l0 hS, St.l1 hS, St.l2 hS, St.l3 hS, St.l4 hS, St.l5 hS, St.b0 hS, St.b1 hS, St.m0 hS, St.m1 hS, St.m2 hS, St.m3 hS, St.m4 hS, St.m5 hS, St.m6 hS, St.m7 hS, St.m8 hS, St.m9 hS, St.m10 hS, St.m11 hS, St.m12 hS, St.m13 hS, St.m14 hS, St.m15 hS, St.m16 hS, St.m17 hS, St.m18 hS, St.m19 hS, St.n4 hS, St.n9 hS, St.n10 hS, St.n12 hS, St.n13 hS, St.n17 hS, St.n18 hS, St.n28 hS, St.n30 hS, F_L_1236, F_X11_count, F_X12_count, hrec, h3]
  by_cases h4 : xs 1 = 4
  · simp (decide := true) [gd_in, nm_eq, gd_true, bn_some, bn2_some, bn3_some, bnT_some, oc_none, oc_some, bn_ite, bn2_ite, bn3_ite, F_X12_isCutter_eq, F_X12_in_eq, F_X11_isWithin_eq, F_X11_isThick_eq, F_X11_isSlope_eq, wi_e, inb_1, inb_2, inb_3, inb_4, inb_5, s2_at, cutterAt_0 (St.c1 hS), St.c1 hS, St.c4 hS, St.c6 hS, St.c10 hS, St.c13 hS, St.c02 hS, St.t1 hS, St.l0 hS, St.l1 hS, St.l2 hS, St.l3 hS, St.l4 hS, St.l5 hS, St.b0 hS, St.b1 hS, St.m0 hS, St.m1 hS, St.m2 hS, St.m3 hS, St.m4 hS, St.m5 hS, St.m6 hS, St.m7 hS, St.m8 hS, St.m9 hS, St.m10 hS, St.m11 hS, St.m12 hS, St.m13 hS, St.m14 hS, St.m15 hS, St.m16 hS, St.m17 hS, St.m18 hS, St.m19 hS, St.n4 hS, St.n9 hS, St.n10 hS, St.n12 hS, St.n13 hS, St.n17 hS, St.n18 hS, St.n28 hS, St.n30 hS, F_L_1236, F_X11_count, F_X12_count, hrec, h4]
  by_cases h5 : xs 1 = 5
  · simp (decide := true) [gd_in, nm_eq, gd_true, bn_some, bn2_some, bn3_some, bnT_some, oc_none, oc_some, bn_ite, bn2_ite, bn3_ite, F_X12_isCutter_eq, F_X12_in_eq, F_X11_isWithin_eq, F_X11_isThick_eq, F_X11_isSlope_eq, wi_e, inb_1, inb_2, inb_3, inb_4, inb_5, s2_at, cutterAt_0 (St.c1 hS), St.c1 hS, St.c4 hS, St.c6 hS, St.c10 hS, St.c13 hS, St.c02 hS, St.t1 hS, St.l0 hS, St.l1 hS, St.l2 hS, St.l3 hS, St.l4 hS, St.l5 hS, St.b0 hS, St.b1 hS, St.m0 hS, St.m1 hS, St.m2 hS, St.m3 hS, St.m4 hS, St.m5 hS, St.m6 hS, St.m7 hS, St.m8 hS, St.m9 hS, St.m10 hS, St.m11 hS, St.m12 hS, St.m13 hS, St.m14 hS, St.m15 hS, St.m16 hS, St.m17 hS, St.m18 hS, St.m19 hS, St.n4 hS, St.n9 hS, St.n10 hS, St.n12 hS, St.n13 hS, St.n17 hS, St.n18 hS, St.n28 hS, St.n30 hS, F_L_1236, F_X11_count, F_X12_count, hrec, h5]
  have hw : wi (xs 1) 0 4 = 0 := by
    have q0 := ne_toInt (k := 0) h0
    have q1 := ne_toInt (k := 1) h1
    have q2 := ne_toInt (k := 2) h2
    have q3 := ne_toInt (k := 3) h3
    have q4 := ne_toInt (k := 4) h4
    apply wi_zero
    have : (0 : Int32).toInt = 0 := by decide
    have : (4 : Int32).toInt = 4 := by decide
    omega
  simp (decide := true) [gd_in, nm_eq, gd_true, bn_some, bn2_some, bn3_some, bnT_some, oc_none, oc_some, bn_ite, bn2_ite, bn3_ite, F_X12_isCutter_eq, F_X12_in_eq, F_X11_isWithin_eq, F_X11_isThick_eq, F_X11_isSlope_eq, wi_e, inb_1, inb_2, inb_3, inb_4, inb_5, s2_at, cutterAt_0 (St.c1 hS), St.c1 hS, St.c4 hS, St.c6 hS, St.c10 hS, St.c13 hS, St.c02 hS, St.t1 hS, St.l0 hS, St.l1 hS, St.l2 hS, St.l3 hS, St.l4 hS, St.l5 hS, St.b0 hS, St.b1 hS, St.m0 hS, St.m1 hS, St.m2 hS, St.m3 hS, St.m4 hS, St.m5 hS, St.m6 hS, St.m7 hS, St.m8 hS, St.m9 hS, St.m10 hS, St.m11 hS, St.m12 hS, St.m13 hS, St.m14 hS, St.m15 hS, St.m16 hS, St.m17 hS, St.m18 hS, St.m19 hS, St.n4 hS, St.n9 hS, St.n10 hS, St.n12 hS, St.n13 hS, St.n17 hS, St.n18 hS, St.n28 hS, St.n30 hS, F_L_1236, F_X11_count, F_X12_count, hrec, h0, h1, h2, h3, h4, h5, hw]
theorem l_told (hS : St σ ρ) (hrec : ∀ N K len σ ρ, rec N K len σ ρ 6 = some ()) : F_L_435 xs 6 rec N K len σ ρ 0 = some () := by
  by_cases h0 : xs 1 = 0
  · simp (decide := true) [gd_in, nm_eq, gd_true, bn_some, bn2_some, bn3_some, bnT_some, oc_none, oc_some, bn_ite, bn2_ite, bn3_ite, F_X12_isCutter_eq, F_X12_in_eq, F_X11_isWithin_eq, F_X11_isThick_eq, F_X11_isSlope_eq, wi_e, inb_1, inb_2, inb_3, inb_4, inb_5, s2_at, cutterAt_0 (St.c1 hS), St.c1 hS, St.c4 hS, St.c6 hS, St.c10 hS, St.c13 hS, St.c02 hS, St.t1 hS, St.l0 hS, St.l1 hS, St.l2 hS, St.l3 hS, St.l4 hS, St.l5 hS, St.b0 hS, St.b1 hS, St.m0 hS, St.m1 hS, St.m2 hS, St.m3 hS, St.m4 hS, St.m5 hS, St.m6 hS, St.m7 hS, St.m8 hS, St.m9 hS, St.m10 hS, St.m11 hS, St.m12 hS, St.m13 hS, St.m14 hS, St.m15 hS, St.m16 hS, St.m17 hS, St.m18 hS, St.m19 hS, St.n4 hS, St.n9 hS, St.n10 hS, St.n12 hS, St.n13 hS, St.n17 hS, St.n18 hS, St.n28 hS, St.n30 hS, F_L_435, F_X11_told, F_X12_told, hrec, h0, wi, F_X12_tellsOf, F_X3_corner, F_X3_acrossAt, F_X3_acrossAt_11, F_X12_corner, F_X12_corner_12]
  by_cases h1 : xs 1 = 1
  · simp (decide := true) [gd_in, nm_eq, gd_true, bn_some, bn2_some, bn3_some, bnT_some, oc_none, oc_some, bn_ite, bn2_ite, bn3_ite, F_X12_isCutter_eq, F_X12_in_eq, F_X11_isWithin_eq, F_X11_isThick_eq, F_X11_isSlope_eq, wi_e, inb_1, inb_2, inb_3, inb_4, inb_5, s2_at, cutterAt_0 (St.c1 hS), St.c1 hS, St.c4 hS, St.c6 hS, St.c10 hS, St.c13 hS, St.c02 hS, St.t1 hS, St.l0 hS, St.l1 hS, St.l2 hS, St.l3 hS, St.l4 hS, St.l5 hS, St.b0 hS, St.b1 hS, St.m0 hS, St.m1 hS, St.m2 hS, St.m3 hS, St.m4 hS, St.m5 hS, St.m6 hS, St.m7 hS, St.m8 hS, St.m9 hS, St.m10 hS, St.m11 hS, St.m12 hS, St.m13 hS, St.m14 hS, St.m15 hS, St.m16 hS, St.m17 hS, St.m18 hS, St.m19 hS, St.n4 hS, St.n9 hS, St.n10 hS, St.n12 hS, St.n13 hS, St.n17 hS, St.n18 hS, St.n28 hS, St.n30 hS, F_L_435, F_X11_told, F_X12_told, hrec, h1, wi, F_X12_tellsOf, F_X3_corner, F_X3_acrossAt, F_X3_acrossAt_11, F_X12_corner, F_X12_corner_12]
  by_cases h2 : xs 1 = 2
  · simp (decide := true) [gd_in, nm_eq, gd_true, bn_some, bn2_some, bn3_some, bnT_some, oc_none, oc_some, bn_ite, bn2_ite, bn3_ite, F_X12_isCutter_eq, F_X12_in_eq, F_X11_isWithin_eq, F_X11_isThick_eq, F_X11_isSlope_eq, wi_e, inb_1, inb_2, inb_3, inb_4, inb_5, s2_at, cutterAt_0 (St.c1 hS), St.c1 hS, St.c4 hS, St.c6 hS, St.c10 hS, St.c13 hS, St.c02 hS, St.t1 hS, St.l0 hS, St.l1 hS, St.l2 hS, St.l3 hS, St.l4 hS, St.l5 hS, St.b0 hS, St.b1 hS, St.m0 hS, St.m1 hS, St.m2 hS, St.m3 hS, St.m4 hS, St.m5 hS, St.m6 hS, St.m7 hS, St.m8 hS, St.m9 hS, St.m10 hS, St.m11 hS, St.m12 hS, St.m13 hS, St.m14 hS, St.m15 hS, St.m16 hS, St.m17 hS, St.m18 hS, St.m19 hS, St.n4 hS, St.n9 hS, St.n10 hS, St.n12 hS, St.n13 hS, St.n17 hS, St.n18 hS, St.n28 hS, St.n30 hS, F_L_435, F_X11_told, F_X12_told, hrec, h2, wi, F_X12_tellsOf, F_X3_corner, F_X3_acrossAt, F_X3_acrossAt_11, F_X12_corner, F_X12_corner_12]
  by_cases h3 : xs 1 = 3
  · simp (decide := true) [gd_in, nm_eq, gd_true, bn_some, bn2_some, bn3_some, bnT_some, oc_none, oc_some, bn_ite, bn2_ite, bn3_ite, F_X12_isCutter_eq, F_X12_in_eq, F_X11_isWithin_eq, F_X11_isThick_eq, F_X11_isSlope_eq, wi_e, inb_1, inb_2, inb_3, inb_4, inb_5, s2_at, cutterAt_0 (St.c1 hS), St.c1 hS, St.c4 hS, St.c6 hS, St.c10 hS, St.c13 hS, St.c02 hS, St.t1 hS, St.l0 hS, St.l1 hS, St.l2 hS, St.l3 hS, St.l4 hS, St.l5 hS, St.b0 hS, St.b1 hS, St.m0 hS, St.m1 hS, St.m2 hS, St.m3 hS, St.m4 hS, St.m5 hS, St.m6 hS, St.m7 hS, St.m8 hS, St.m9 hS, St.m10 hS, St.m11 hS, St.m12 hS, St.m13 hS, St.m14 hS, St.m15 hS, St.m16 hS, St.m17 hS, St.m18 hS, St.m19 hS, St.n4 hS, St.n9 hS, St.n10 hS, St.n12 hS, St.n13 hS, St.n17 hS, St.n18 hS, St.n28 hS, St.n30 hS, F_L_435, F_X11_told, F_X12_told, hrec, h3, wi, F_X12_tellsOf, F_X3_corner, F_X3_acrossAt, F_X3_acrossAt_11, F_X12_corner, F_X12_corner_12]
  by_cases h4 : xs 1 = 4
  · simp (decide := true) [gd_in, nm_eq, gd_true, bn_some, bn2_some, bn3_some, bnT_some, oc_none, oc_some, bn_ite, bn2_ite, bn3_ite, F_X12_isCutter_eq, F_X12_in_eq, F_X11_isWithin_eq, F_X11_isThick_eq, F_X11_isSlope_eq, wi_e, inb_1, inb_2, inb_3, inb_4, inb_5, s2_at, cutterAt_0 (St.c1 hS), St.c1 hS, St.c4 hS, St.c6 hS, St.c10 hS, St.c13 hS, St.c02 hS, St.t1 hS, St.l0 hS, St.l1 hS, St.l2 hS, St.l3 hS, St.l4 hS, St.l5 hS, St.b0 hS, St.b1 hS, St.m0 hS, St.m1 hS, St.m2 hS, St.m3 hS, St.m4 hS, St.m5 hS, St.m6 hS, St.m7 hS, St.m8 hS, St.m9 hS, St.m10 hS, St.m11 hS, St.m12 hS, St.m13 hS, St.m14 hS, St.m15 hS, St.m16 hS, St.m17 hS, St.m18 hS, St.m19 hS, St.n4 hS, St.n9 hS, St.n10 hS, St.n12 hS, St.n13 hS, St.n17 hS, St.n18 hS, St.n28 hS, St.n30 hS, F_L_435, F_X11_told, F_X12_told, hrec, h4, wi, F_X12_tellsOf, F_X3_corner, F_X3_acrossAt, F_X3_acrossAt_11, F_X12_corner, F_X12_corner_12]
  by_cases h5 : xs 1 = 5
  · simp (decide := true) [gd_in, nm_eq, gd_true, bn_some, bn2_some, bn3_some, bnT_some, oc_none, oc_some, bn_ite, bn2_ite, bn3_ite, F_X12_isCutter_eq, F_X12_in_eq, F_X11_isWithin_eq, F_X11_isThick_eq, F_X11_isSlope_eq, wi_e, inb_1, inb_2, inb_3, inb_4, inb_5, s2_at, cutterAt_0 (St.c1 hS), St.c1 hS, St.c4 hS, St.c6 hS, St.c10 hS, St.c13 hS, St.c02 hS, St.t1 hS, St.l0 hS, St.l1 hS, St.l2 hS, St.l3 hS, St.l4 hS, St.l5 hS, St.b0 hS, St.b1 hS, St.m0 hS, St.m1 hS, St.m2 hS, St.m3 hS, St.m4 hS, St.m5 hS, St.m6 hS, St.m7 hS, St.m8 hS, St.m9 hS, St.m10 hS, St.m11 hS, St.m12 hS, St.m13 hS, St.m14 hS, St.m15 hS, St.m16 hS, St.m17 hS, St.m18 hS, St.m19 hS, St.n4 hS, St.n9 hS, St.n10 hS, St.n12 hS, St.n13 hS, St.n17 hS, St.n18 hS, St.n28 hS, St.n30 hS, F_L_435, F_X11_told, F_X12_told, hrec, h5, wi, F_X12_tellsOf, F_X3_corner, F_X3_acrossAt, F_X3_acrossAt_11, F_X12_corner, F_X12_corner_12]
  by_cases h6 : xs 1 = 6
  · simp (decide := true) [gd_in, nm_eq, gd_true, bn_some, bn2_some, bn3_some, bnT_some, oc_none, oc_some, bn_ite, bn2_ite, bn3_ite, F_X12_isCutter_eq, F_X12_in_eq, F_X11_isWithin_eq, F_X11_isThick_eq, F_X11_isSlope_eq, wi_e, inb_1, inb_2, inb_3, inb_4, inb_5, s2_at, cutterAt_0 (St.c1 hS), St.c1 hS, St.c4 hS, St.c6 hS, St.c10 hS, St.c13 hS, St.c02 hS, St.t1 hS, St.l0 hS, St.l1 hS, St.l2 hS, St.l3 hS, St.l4 hS, St.l5 hS, St.b0 hS, St.b1 hS, St.m0 hS, St.m1 hS, St.m2 hS, St.m3 hS, St.m4 hS, St.m5 hS, St.m6 hS, St.m7 hS, St.m8 hS, St.m9 hS, St.m10 hS, St.m11 hS, St.m12 hS, St.m13 hS, St.m14 hS, St.m15 hS, St.m16 hS, St.m17 hS, St.m18 hS, St.m19 hS, St.n4 hS, St.n9 hS, St.n10 hS, St.n12 hS, St.n13 hS, St.n17 hS, St.n18 hS, St.n28 hS, St.n30 hS, F_L_435, F_X11_told, F_X12_told, hrec, h6, wi, F_X12_tellsOf, F_X3_corner, F_X3_acrossAt, F_X3_acrossAt_11, F_X12_corner, F_X12_corner_12]
  by_cases h7 : xs 1 = 7
  · simp (decide := true) [gd_in, nm_eq, gd_true, bn_some, bn2_some, bn3_some, bnT_some, oc_none, oc_some, bn_ite, bn2_ite, bn3_ite, F_X12_isCutter_eq, F_X12_in_eq, F_X11_isWithin_eq, F_X11_isThick_eq, F_X11_isSlope_eq, wi_e, inb_1, inb_2, inb_3, inb_4, inb_5, s2_at, cutterAt_0 (St.c1 hS), St.c1 hS, St.c4 hS, St.c6 hS, St.c10 hS, St.c13 hS, St.c02 hS, St.t1 hS, St.l0 hS, St.l1 hS, St.l2 hS, St.l3 hS, St.l4 hS, St.l5 hS, St.b0 hS, St.b1 hS, St.m0 hS, St.m1 hS, St.m2 hS, St.m3 hS, St.m4 hS, St.m5 hS, St.m6 hS, St.m7 hS, St.m8 hS, St.m9 hS, St.m10 hS, St.m11 hS, St.m12 hS, St.m13 hS, St.m14 hS, St.m15 hS, St.m16 hS, St.m17 hS, St.m18 hS, St.m19 hS, St.n4 hS, St.n9 hS, St.n10 hS, St.n12 hS, St.n13 hS, St.n17 hS, St.n18 hS, St.n28 hS, St.n30 hS, F_L_435, F_X11_told, F_X12_told, hrec, h7, wi, F_X12_tellsOf, F_X3_corner, F_X3_acrossAt, F_X3_acrossAt_11, F_X12_corner, F_X12_corner_12]
  by_cases h10 : xs 1 = 10
  · simp (decide := true) [gd_in, nm_eq, gd_true, bn_some, bn2_some, bn3_some, bnT_some, oc_none, oc_some, bn_ite, bn2_ite, bn3_ite, F_X12_isCutter_eq, F_X12_in_eq, F_X11_isWithin_eq, F_X11_isThick_eq, F_X11_isSlope_eq, wi_e, inb_1, inb_2, inb_3, inb_4, inb_5, s2_at, cutterAt_0 (St.c1 hS), St.c1 hS, St.c4 hS, St.c6 hS, St.c10 hS, St.c13 hS, St.c02 hS, St.t1 hS, St.l0 hS, St.l1 hS, St.l2 hS, St.l3 hS, St.l4 hS, St.l5 hS, St.b0 hS, St.b1 hS, St.m0 hS, St.m1 hS, St.m2 hS, St.m3 hS, St.m4 hS, St.m5 hS, St.m6 hS, St.m7 hS, St.m8 hS, St.m9 hS, St.m10 hS, St.m11 hS, St.m12 hS, St.m13 hS, St.m14 hS, St.m15 hS, St.m16 hS, St.m17 hS, St.m18 hS, St.m19 hS, St.n4 hS, St.n9 hS, St.n10 hS, St.n12 hS, St.n13 hS, St.n17 hS, St.n18 hS, St.n28 hS, St.n30 hS, F_L_435, F_X11_told, F_X12_told, hrec, h10, wi, F_X12_tellsOf, F_X3_corner, F_X3_acrossAt, F_X3_acrossAt_11, F_X12_corner, F_X12_corner_12]
  by_cases h11 : xs 1 = 11
  · simp (decide := true) [gd_in, nm_eq, gd_true, bn_some, bn2_some, bn3_some, bnT_some, oc_none, oc_some, bn_ite, bn2_ite, bn3_ite, F_X12_isCutter_eq, F_X12_in_eq, F_X11_isWithin_eq, F_X11_isThick_eq, F_X11_isSlope_eq, wi_e, inb_1, inb_2, inb_3, inb_4, inb_5, s2_at, cutterAt_0 (St.c1 hS), St.c1 hS, St.c4 hS, St.c6 hS, St.c10 hS, St.c13 hS, St.c02 hS, St.t1 hS, St.l0 hS, St.l1 hS, St.l2 hS, St.l3 hS, St.l4 hS, St.l5 hS, St.b0 hS, St.b1 hS, St.m0 hS, St.m1 hS, St.m2 hS, St.m3 hS, St.m4 hS, St.m5 hS, St.m6 hS, St.m7 hS, St.m8 hS, St.m9 hS, St.m10 hS, St.m11 hS, St.m12 hS, St.m13 hS, St.m14 hS, St.m15 hS, St.m16 hS, St.m17 hS, St.m18 hS, St.m19 hS, St.n4 hS, St.n9 hS, St.n10 hS, St.n12 hS, St.n13 hS, St.n17 hS, St.n18 hS, St.n28 hS, St.n30 hS, F_L_435, F_X11_told, F_X12_told, hrec, h11, wi, F_X12_tellsOf, F_X3_corner, F_X3_acrossAt, F_X3_acrossAt_11, F_X12_corner, F_X12_corner_12]
  by_cases h12 : xs 1 = 12
  · simp (decide := true) [gd_in, nm_eq, gd_true, bn_some, bn2_some, bn3_some, bnT_some, oc_none, oc_some, bn_ite, bn2_ite, bn3_ite, F_X12_isCutter_eq, F_X12_in_eq, F_X11_isWithin_eq, F_X11_isThick_eq, F_X11_isSlope_eq, wi_e, inb_1, inb_2, inb_3, inb_4, inb_5, s2_at, cutterAt_0 (St.c1 hS), St.c1 hS, St.c4 hS, St.c6 hS, St.c10 hS, St.c13 hS, St.c02 hS, St.t1 hS, St.l0 hS, St.l1 hS, St.l2 hS, St.l3 hS, St.l4 hS, St.l5 hS, St.b0 hS, St.b1 hS, St.m0 hS, St.m1 hS, St.m2 hS, St.m3 hS, St.m4 hS, St.m5 hS, St.m6 hS, St.m7 hS, St.m8 hS, St.m9 hS, St.m10 hS, St.m11 hS, St.m12 hS, St.m13 hS, St.m14 hS, St.m15 hS, St.m16 hS, St.m17 hS, St.m18 hS, St.m19 hS, St.n4 hS, St.n9 hS, St.n10 hS, St.n12 hS, St.n13 hS, St.n17 hS, St.n18 hS, St.n28 hS, St.n30 hS, F_L_435, F_X11_told, F_X12_told, hrec, h12, wi, F_X12_tellsOf, F_X3_corner, F_X3_acrossAt, F_X3_acrossAt_11, F_X12_corner, F_X12_corner_12]
  by_cases h13 : xs 1 = 13
  · simp (decide := true) [gd_in, nm_eq, gd_true, bn_some, bn2_some, bn3_some, bnT_some, oc_none, oc_some, bn_ite, bn2_ite, bn3_ite, F_X12_isCutter_eq, F_X12_in_eq, F_X11_isWithin_eq, F_X11_isThick_eq, F_X11_isSlope_eq, wi_e, inb_1, inb_2, inb_3, inb_4, inb_5, s2_at, cutterAt_0 (St.c1 hS), St.c1 hS, St.c4 hS, St.c6 hS, St.c10 hS, St.c13 hS, St.c02 hS, St.t1 hS, St.l0 hS, St.l1 hS, St.l2 hS, St.l3 hS, St.l4 hS, St.l5 hS, St.b0 hS, St.b1 hS, St.m0 hS, St.m1 hS, St.m2 hS, St.m3 hS, St.m4 hS, St.m5 hS, St.m6 hS, St.m7 hS, St.m8 hS, St.m9 hS, St.m10 hS, St.m11 hS, St.m12 hS, St.m13 hS, St.m14 hS, St.m15 hS, St.m16 hS, St.m17 hS, St.m18 hS, St.m19 hS, St.n4 hS, St.n9 hS, St.n10 hS, St.n12 hS, St.n13 hS, St.n17 hS, St.n18 hS, St.n28 hS, St.n30 hS, F_L_435, F_X11_told, F_X12_told, hrec, h13, wi, F_X12_tellsOf, F_X3_corner, F_X3_acrossAt, F_X3_acrossAt_11, F_X12_corner, F_X12_corner_12]
  have hw : wi (xs 1) 10 13 = 0 := by
    have q0 := ne_toInt (k := 10) h10
    have q1 := ne_toInt (k := 11) h11
    have q2 := ne_toInt (k := 12) h12
    have q3 := ne_toInt (k := 13) h13
    apply wi_zero
    have : (10 : Int32).toInt = 10 := by decide
    have : (13 : Int32).toInt = 13 := by decide
    omega
  simp (decide := true) [gd_in, nm_eq, gd_true, bn_some, bn2_some, bn3_some, bnT_some, oc_none, oc_some, bn_ite, bn2_ite, bn3_ite, F_X12_isCutter_eq, F_X12_in_eq, F_X11_isWithin_eq, F_X11_isThick_eq, F_X11_isSlope_eq, wi_e, inb_1, inb_2, inb_3, inb_4, inb_5, s2_at, cutterAt_0 (St.c1 hS), St.c1 hS, St.c4 hS, St.c6 hS, St.c10 hS, St.c13 hS, St.c02 hS, St.t1 hS, St.l0 hS, St.l1 hS, St.l2 hS, St.l3 hS, St.l4 hS, St.l5 hS, St.b0 hS, St.b1 hS, St.m0 hS, St.m1 hS, St.m2 hS, St.m3 hS, St.m4 hS, St.m5 hS, St.m6 hS, St.m7 hS, St.m8 hS, St.m9 hS, St.m10 hS, St.m11 hS, St.m12 hS, St.m13 hS, St.m14 hS, St.m15 hS, St.m16 hS, St.m17 hS, St.m18 hS, St.m19 hS, St.n4 hS, St.n9 hS, St.n10 hS, St.n12 hS, St.n13 hS, St.n17 hS, St.n18 hS, St.n28 hS, St.n30 hS, F_L_435, F_X11_told, F_X12_told, hrec, h0, h1, h2, h3, h4, h5, h6, h7, hw]
theorem l_right (hS : St σ ρ) (hrec : ∀ N K len σ ρ, rec N K len σ ρ 6 = some ()) : F_L_481 xs 6 rec N K len σ ρ 0 = some () := by
  simp (decide := true) [gd_in, nm_eq, gd_true, bn_some, bn2_some, bn3_some, bnT_some, oc_none, oc_some, bn_ite, bn2_ite, bn3_ite, F_X12_isCutter_eq, F_X12_in_eq, F_X11_isWithin_eq, F_X11_isThick_eq, F_X11_isSlope_eq, wi_e, inb_1, inb_2, inb_3, inb_4, inb_5, s2_at, cutterAt_0 (St.c1 hS), St.c1 hS, St.c4 hS, St.c6 hS, St.c10 hS, St.c13 hS, St.c02 hS, St.t1 hS, St.l0 hS, St.l1 hS, St.l2 hS, St.l3 hS, St.l4 hS, St.l5 hS, St.b0 hS, St.b1 hS, St.m0 hS, St.m1 hS, St.m2 hS, St.m3 hS, St.m4 hS, St.m5 hS, St.m6 hS, St.m7 hS, St.m8 hS, St.m9 hS, St.m10 hS, St.m11 hS, St.m12 hS, St.m13 hS, St.m14 hS, St.m15 hS, St.m16 hS, St.m17 hS, St.m18 hS, St.m19 hS, St.n4 hS, St.n9 hS, St.n10 hS, St.n12 hS, St.n13 hS, St.n17 hS, St.n18 hS, St.n28 hS, St.n30 hS, F_L_481, F_X11_right, F_X12_right, hrec, F_X3_leastCorner, F_X3_slope, F_X3_straighten, F_X12_leastCorner, F_X12_size, F_X12_rights, F_X12_tellsOf]
theorem l_act (hS : St σ ρ) (hrec : ∀ N K len σ ρ, rec N K len σ ρ 6 = some ()) : F_L_1111 xs 6 rec N K len σ ρ 0 = some () := by
  rw [show F_L_1111 = F_L_1111 from rfl]
  have h : F_X8_cutterAt_1 (xs 1) (s2 σ 27 1 0) ρ = some none := cutterAt_0 (by simp [s2_at, hS.c1]) _
  simp (decide := true) [gd_in, nm_eq, gd_true, bn_some, bn2_some, bn3_some, bnT_some, oc_none, oc_some, bn_ite, bn2_ite, bn3_ite, F_X12_isCutter_eq, F_X12_in_eq, F_X11_isWithin_eq, F_X11_isThick_eq, F_X11_isSlope_eq, wi_e, inb_1, inb_2, inb_3, inb_4, inb_5, s2_at, cutterAt_0 (St.c1 hS), St.c1 hS, St.c4 hS, St.c6 hS, St.c10 hS, St.c13 hS, St.c02 hS, St.t1 hS, St.l0 hS, St.l1 hS, St.l2 hS, St.l3 hS, St.l4 hS, St.l5 hS, St.b0 hS, St.b1 hS, St.m0 hS, St.m1 hS, St.m2 hS, St.m3 hS, St.m4 hS, St.m5 hS, St.m6 hS, St.m7 hS, St.m8 hS, St.m9 hS, St.m10 hS, St.m11 hS, St.m12 hS, St.m13 hS, St.m14 hS, St.m15 hS, St.m16 hS, St.m17 hS, St.m18 hS, St.m19 hS, St.n4 hS, St.n9 hS, St.n10 hS, St.n12 hS, St.n13 hS, St.n17 hS, St.n18 hS, St.n28 hS, St.n30 hS, F_L_1111, F_X11_act, F_X12_act, hrec, h]
theorem l_lasts (hS : St σ ρ) (hrec : ∀ N K len σ ρ, rec N K len σ ρ 6 = some ()) : F_L_632 xs 6 rec N K len σ ρ 0 = some () := by
  simp (decide := true) [gd_in, nm_eq, gd_true, bn_some, bn2_some, bn3_some, bnT_some, oc_none, oc_some, bn_ite, bn2_ite, bn3_ite, F_X12_isCutter_eq, F_X12_in_eq, F_X11_isWithin_eq, F_X11_isThick_eq, F_X11_isSlope_eq, wi_e, inb_1, inb_2, inb_3, inb_4, inb_5, s2_at, cutterAt_0 (St.c1 hS), St.c1 hS, St.c4 hS, St.c6 hS, St.c10 hS, St.c13 hS, St.c02 hS, St.t1 hS, St.l0 hS, St.l1 hS, St.l2 hS, St.l3 hS, St.l4 hS, St.l5 hS, St.b0 hS, St.b1 hS, St.m0 hS, St.m1 hS, St.m2 hS, St.m3 hS, St.m4 hS, St.m5 hS, St.m6 hS, St.m7 hS, St.m8 hS, St.m9 hS, St.m10 hS, St.m11 hS, St.m12 hS, St.m13 hS, St.m14 hS, St.m15 hS, St.m16 hS, St.m17 hS, St.m18 hS, St.m19 hS, St.n4 hS, St.n9 hS, St.n10 hS, St.n12 hS, St.n13 hS, St.n17 hS, St.n18 hS, St.n28 hS, St.n30 hS, F_L_632, F_X11_lasts, F_X12_lasts, hrec, goOn_0, go0, F_X12_keeps_eq, F_X12_goesBack_eq, goesOn_0, cpy_at, F_X12_goodBy, F_X11_startSteps, F_X3_takes]
theorem l_toasted (hS : St σ ρ) (hrec : ∀ N K len σ ρ, rec N K len σ ρ 6 = some ()) : F_L_599 xs 6 rec N K len σ ρ 0 = some () := by
  rcases wi_01 (xs 1) 0 40 with h0 | h0 <;>
  rcases wi_01 (xs 2) 0 99 with h1 | h1 <;>
  simp (decide := true) [gd_in, nm_eq, gd_true, bn_some, bn2_some, bn3_some, bnT_some, oc_none, oc_some, bn_ite, bn2_ite, bn3_ite, F_X12_isCutter_eq, F_X12_in_eq, F_X11_isWithin_eq, F_X11_isThick_eq, F_X11_isSlope_eq, wi_e, inb_1, inb_2, inb_3, inb_4, inb_5, s2_at, cutterAt_0 (St.c1 hS), St.c1 hS, St.c4 hS, St.c6 hS, St.c10 hS, St.c13 hS, St.c02 hS, St.t1 hS, St.l0 hS, St.l1 hS, St.l2 hS, St.l3 hS, St.l4 hS, St.l5 hS, St.b0 hS, St.b1 hS, St.m0 hS, St.m1 hS, St.m2 hS, St.m3 hS, St.m4 hS, St.m5 hS, St.m6 hS, St.m7 hS, St.m8 hS, St.m9 hS, St.m10 hS, St.m11 hS, St.m12 hS, St.m13 hS, St.m14 hS, St.m15 hS, St.m16 hS, St.m17 hS, St.m18 hS, St.m19 hS, St.n4 hS, St.n9 hS, St.n10 hS, St.n12 hS, St.n13 hS, St.n17 hS, St.n18 hS, St.n28 hS, St.n30 hS, F_L_599, F_X11_toasted, F_X12_toasted, hrec, h0, h1, goOn_0, go0, F_X12_keeps_eq, F_X12_goesBack_eq, goesOn_0, cpy_at, F_X12_goodBy, F_X11_startSteps, F_X3_takes]
theorem l_guide (hS : St σ ρ) (hrec : ∀ N K len σ ρ, rec N K len σ ρ 6 = some ()) : F_L_737 xs 6 rec N K len σ ρ 0 = some () := by
  rcases wi_01 (xs 1) 0 40 with h0 | h0 <;>
  simp (decide := true) [gd_in, nm_eq, gd_true, bn_some, bn2_some, bn3_some, bnT_some, oc_none, oc_some, bn_ite, bn2_ite, bn3_ite, F_X12_isCutter_eq, F_X12_in_eq, F_X11_isWithin_eq, F_X11_isThick_eq, F_X11_isSlope_eq, wi_e, inb_1, inb_2, inb_3, inb_4, inb_5, s2_at, cutterAt_0 (St.c1 hS), St.c1 hS, St.c4 hS, St.c6 hS, St.c10 hS, St.c13 hS, St.c02 hS, St.t1 hS, St.l0 hS, St.l1 hS, St.l2 hS, St.l3 hS, St.l4 hS, St.l5 hS, St.b0 hS, St.b1 hS, St.m0 hS, St.m1 hS, St.m2 hS, St.m3 hS, St.m4 hS, St.m5 hS, St.m6 hS, St.m7 hS, St.m8 hS, St.m9 hS, St.m10 hS, St.m11 hS, St.m12 hS, St.m13 hS, St.m14 hS, St.m15 hS, St.m16 hS, St.m17 hS, St.m18 hS, St.m19 hS, St.n4 hS, St.n9 hS, St.n10 hS, St.n12 hS, St.n13 hS, St.n17 hS, St.n18 hS, St.n28 hS, St.n30 hS, F_L_737, F_X11_guide, F_X12_guide, hrec, h0, goOn_0, go0, F_X12_keeps_eq, F_X12_goesBack_eq, goesOn_0, cpy_at, F_X12_goodBy, F_X11_startSteps, F_X3_takes]
theorem l_cancel (hS : St σ ρ) (hrec : ∀ N K len σ ρ, rec N K len σ ρ 6 = some ()) : F_L_668 xs 6 rec N K len σ ρ 0 = some () := by
  simp (decide := true) [gd_in, nm_eq, gd_true, bn_some, bn2_some, bn3_some, bnT_some, oc_none, oc_some, bn_ite, bn2_ite, bn3_ite, F_X12_isCutter_eq, F_X12_in_eq, F_X11_isWithin_eq, F_X11_isThick_eq, F_X11_isSlope_eq, wi_e, inb_1, inb_2, inb_3, inb_4, inb_5, s2_at, cutterAt_0 (St.c1 hS), St.c1 hS, St.c4 hS, St.c6 hS, St.c10 hS, St.c13 hS, St.c02 hS, St.t1 hS, St.l0 hS, St.l1 hS, St.l2 hS, St.l3 hS, St.l4 hS, St.l5 hS, St.b0 hS, St.b1 hS, St.m0 hS, St.m1 hS, St.m2 hS, St.m3 hS, St.m4 hS, St.m5 hS, St.m6 hS, St.m7 hS, St.m8 hS, St.m9 hS, St.m10 hS, St.m11 hS, St.m12 hS, St.m13 hS, St.m14 hS, St.m15 hS, St.m16 hS, St.m17 hS, St.m18 hS, St.m19 hS, St.n4 hS, St.n9 hS, St.n10 hS, St.n12 hS, St.n13 hS, St.n17 hS, St.n18 hS, St.n28 hS, St.n30 hS, F_L_668, F_X11_cancel, F_X12_cancel, hrec, goOn_0, go0, F_X12_keeps_eq, F_X12_goesBack_eq, goesOn_0, cpy_at, F_X12_goodBy, F_X11_startSteps, F_X3_takes, cancel_x0, cancel_m0]
theorem l_who (hS : St σ ρ) (hrec : ∀ N K len σ ρ, rec N K len σ ρ 6 = some ()) : F_L_935 xs 6 rec N K len σ ρ 0 = some () := by
  simp (decide := true) [gd_in, nm_eq, gd_true, bn_some, bn2_some, bn3_some, bnT_some, oc_none, oc_some, bn_ite, bn2_ite, bn3_ite, F_X12_isCutter_eq, F_X12_in_eq, F_X11_isWithin_eq, F_X11_isThick_eq, F_X11_isSlope_eq, wi_e, inb_1, inb_2, inb_3, inb_4, inb_5, s2_at, cutterAt_0 (St.c1 hS), St.c1 hS, St.c4 hS, St.c6 hS, St.c10 hS, St.c13 hS, St.c02 hS, St.t1 hS, St.l0 hS, St.l1 hS, St.l2 hS, St.l3 hS, St.l4 hS, St.l5 hS, St.b0 hS, St.b1 hS, St.m0 hS, St.m1 hS, St.m2 hS, St.m3 hS, St.m4 hS, St.m5 hS, St.m6 hS, St.m7 hS, St.m8 hS, St.m9 hS, St.m10 hS, St.m11 hS, St.m12 hS, St.m13 hS, St.m14 hS, St.m15 hS, St.m16 hS, St.m17 hS, St.m18 hS, St.m19 hS, St.n4 hS, St.n9 hS, St.n10 hS, St.n12 hS, St.n13 hS, St.n17 hS, St.n18 hS, St.n28 hS, St.n30 hS, F_L_935, F_X11_who, F_X12_who, hrec, goOn_0, go0, F_X12_keeps_eq, F_X12_goesBack_eq, goesOn_0, cpy_at, F_X12_goodBy, F_X11_startSteps, F_X3_takes, F_X11_who_8_s, F_X12_who_8_s]
theorem l_looked (hS : St σ ρ) (hrec : ∀ N K len σ ρ, rec N K len σ ρ 6 = some ()) : F_L_1098 xs 6 rec N K len σ ρ 0 = some () := by
  simp (decide := true) [gd_in, nm_eq, gd_true, bn_some, bn2_some, bn3_some, bnT_some, oc_none, oc_some, bn_ite, bn2_ite, bn3_ite, F_X12_isCutter_eq, F_X12_in_eq, F_X11_isWithin_eq, F_X11_isThick_eq, F_X11_isSlope_eq, wi_e, inb_1, inb_2, inb_3, inb_4, inb_5, s2_at, cutterAt_0 (St.c1 hS), St.c1 hS, St.c4 hS, St.c6 hS, St.c10 hS, St.c13 hS, St.c02 hS, St.t1 hS, St.l0 hS, St.l1 hS, St.l2 hS, St.l3 hS, St.l4 hS, St.l5 hS, St.b0 hS, St.b1 hS, St.m0 hS, St.m1 hS, St.m2 hS, St.m3 hS, St.m4 hS, St.m5 hS, St.m6 hS, St.m7 hS, St.m8 hS, St.m9 hS, St.m10 hS, St.m11 hS, St.m12 hS, St.m13 hS, St.m14 hS, St.m15 hS, St.m16 hS, St.m17 hS, St.m18 hS, St.m19 hS, St.n4 hS, St.n9 hS, St.n10 hS, St.n12 hS, St.n13 hS, St.n17 hS, St.n18 hS, St.n28 hS, St.n30 hS, F_L_1098, F_X11_looked, F_X12_looked, hrec, goOn_0, go0, F_X12_keeps_eq, F_X12_goesBack_eq, goesOn_0, cpy_at, F_X12_goodBy, F_X11_startSteps, F_X3_takes, F_X11_looked_16_s, F_X12_looked_9_s]
theorem l_odds (hS : St σ ρ) (hrec : ∀ N K len σ ρ, rec N K len σ ρ 6 = some ()) : F_L_1007 xs 6 rec N K len σ ρ 0 = some () := by
  rcases wi_01 (xs 1) 1 3 with h0 | h0 <;>
  rcases wi_01 (xs 2) 0 1 with h1 | h1 <;>
  simp (decide := true) [gd_in, nm_eq, gd_true, bn_some, bn2_some, bn3_some, bnT_some, oc_none, oc_some, bn_ite, bn2_ite, bn3_ite, F_X12_isCutter_eq, F_X12_in_eq, F_X11_isWithin_eq, F_X11_isThick_eq, F_X11_isSlope_eq, wi_e, inb_1, inb_2, inb_3, inb_4, inb_5, s2_at, cutterAt_0 (St.c1 hS), St.c1 hS, St.c4 hS, St.c6 hS, St.c10 hS, St.c13 hS, St.c02 hS, St.t1 hS, St.l0 hS, St.l1 hS, St.l2 hS, St.l3 hS, St.l4 hS, St.l5 hS, St.b0 hS, St.b1 hS, St.m0 hS, St.m1 hS, St.m2 hS, St.m3 hS, St.m4 hS, St.m5 hS, St.m6 hS, St.m7 hS, St.m8 hS, St.m9 hS, St.m10 hS, St.m11 hS, St.m12 hS, St.m13 hS, St.m14 hS, St.m15 hS, St.m16 hS, St.m17 hS, St.m18 hS, St.m19 hS, St.n4 hS, St.n9 hS, St.n10 hS, St.n12 hS, St.n13 hS, St.n17 hS, St.n18 hS, St.n28 hS, St.n30 hS, F_L_1007, F_X11_odds, F_X12_odds, hrec, h0, h1]
theorem l_mean (hS : St σ ρ) (hrec : ∀ N K len σ ρ, rec N K len σ ρ 6 = some ()) : F_L_1041 xs 6 rec N K len σ ρ 0 = some () := by
  rcases wi_01 (xs 1) 0 1 with h0 | h0 <;>
  simp (decide := true) [gd_in, nm_eq, gd_true, bn_some, bn2_some, bn3_some, bnT_some, oc_none, oc_some, bn_ite, bn2_ite, bn3_ite, F_X12_isCutter_eq, F_X12_in_eq, F_X11_isWithin_eq, F_X11_isThick_eq, F_X11_isSlope_eq, wi_e, inb_1, inb_2, inb_3, inb_4, inb_5, s2_at, cutterAt_0 (St.c1 hS), St.c1 hS, St.c4 hS, St.c6 hS, St.c10 hS, St.c13 hS, St.c02 hS, St.t1 hS, St.l0 hS, St.l1 hS, St.l2 hS, St.l3 hS, St.l4 hS, St.l5 hS, St.b0 hS, St.b1 hS, St.m0 hS, St.m1 hS, St.m2 hS, St.m3 hS, St.m4 hS, St.m5 hS, St.m6 hS, St.m7 hS, St.m8 hS, St.m9 hS, St.m10 hS, St.m11 hS, St.m12 hS, St.m13 hS, St.m14 hS, St.m15 hS, St.m16 hS, St.m17 hS, St.m18 hS, St.m19 hS, St.n4 hS, St.n9 hS, St.n10 hS, St.n12 hS, St.n13 hS, St.n17 hS, St.n18 hS, St.n28 hS, St.n30 hS, F_L_1041, F_X11_mean, F_X12_mean, hrec, h0]
theorem l_evener (hS : St σ ρ) (hrec : ∀ N K len σ ρ, rec N K len σ ρ 6 = some ()) : F_L_783 xs 6 rec N K len σ ρ 0 = some () := by
  rcases wi_01 (xs 2) 0 1 with h0 | h0 <;>
  rcases wi_01 (xs 1) 0 40 with h1 | h1 <;>
  simp (decide := true) [gd_in, nm_eq, gd_true, bn_some, bn2_some, bn3_some, bnT_some, oc_none, oc_some, bn_ite, bn2_ite, bn3_ite, F_X12_isCutter_eq, F_X12_in_eq, F_X11_isWithin_eq, F_X11_isThick_eq, F_X11_isSlope_eq, wi_e, inb_1, inb_2, inb_3, inb_4, inb_5, s2_at, cutterAt_0 (St.c1 hS), St.c1 hS, St.c4 hS, St.c6 hS, St.c10 hS, St.c13 hS, St.c02 hS, St.t1 hS, St.l0 hS, St.l1 hS, St.l2 hS, St.l3 hS, St.l4 hS, St.l5 hS, St.b0 hS, St.b1 hS, St.m0 hS, St.m1 hS, St.m2 hS, St.m3 hS, St.m4 hS, St.m5 hS, St.m6 hS, St.m7 hS, St.m8 hS, St.m9 hS, St.m10 hS, St.m11 hS, St.m12 hS, St.m13 hS, St.m14 hS, St.m15 hS, St.m16 hS, St.m17 hS, St.m18 hS, St.m19 hS, St.n4 hS, St.n9 hS, St.n10 hS, St.n12 hS, St.n13 hS, St.n17 hS, St.n18 hS, St.n28 hS, St.n30 hS, F_L_783, F_X11_evener, F_X12_evener, hrec, h0, h1, goOn_0, go0, F_X12_keeps_eq, F_X12_goesBack_eq, goesOn_0, cpy_at, F_X12_goodBy, F_X11_startSteps, F_X3_takes, F_X11_evener_44_s]
theorem l_board (hS : St σ ρ) (hrec : ∀ N K len σ ρ, rec N K len σ ρ 6 = some ()) : F_L_227 xs 6 rec N K len σ ρ 0 = some () := by
  simp (decide := true) [gd_in, nm_eq, gd_true, bn_some, bn2_some, bn3_some, bnT_some, oc_none, oc_some, bn_ite, bn2_ite, bn3_ite, F_X12_isCutter_eq, F_X12_in_eq, F_X11_isWithin_eq, F_X11_isThick_eq, F_X11_isSlope_eq, wi_e, inb_1, inb_2, inb_3, inb_4, inb_5, s2_at, cutterAt_0 (St.c1 hS), St.c1 hS, St.c4 hS, St.c6 hS, St.c10 hS, St.c13 hS, St.c02 hS, St.t1 hS, St.l0 hS, St.l1 hS, St.l2 hS, St.l3 hS, St.l4 hS, St.l5 hS, St.b0 hS, St.b1 hS, St.m0 hS, St.m1 hS, St.m2 hS, St.m3 hS, St.m4 hS, St.m5 hS, St.m6 hS, St.m7 hS, St.m8 hS, St.m9 hS, St.m10 hS, St.m11 hS, St.m12 hS, St.m13 hS, St.m14 hS, St.m15 hS, St.m16 hS, St.m17 hS, St.m18 hS, St.m19 hS, St.n4 hS, St.n9 hS, St.n10 hS, St.n12 hS, St.n13 hS, St.n17 hS, St.n18 hS, St.n28 hS, St.n30 hS, F_L_227, F_X11_board, F_X12_board, hrec, readFrom_0, F_X12_clauseHere, F_X12_here, board_m108, F_X12_board_150, r2_at]
theorem l_trace (hS : St σ ρ) (hrec : ∀ N K len σ ρ, rec N K len σ ρ 6 = some ()) : F_L_1154 xs 6 rec N K len σ ρ 0 = some () := by
  rcases wi_01 (xs 1) 0 19 with h0 | h0
  · simp (decide := true) [gd_in, nm_eq, gd_true, bn_some, bn2_some, bn3_some, bnT_some, oc_none, oc_some, bn_ite, bn2_ite, bn3_ite, F_X12_isCutter_eq, F_X12_in_eq, F_X11_isWithin_eq, F_X11_isThick_eq, F_X11_isSlope_eq, wi_e, inb_1, inb_2, inb_3, inb_4, inb_5, s2_at, cutterAt_0 (St.c1 hS), St.c1 hS, St.c4 hS, St.c6 hS, St.c10 hS, St.c13 hS, St.c02 hS, St.t1 hS, St.l0 hS, St.l1 hS, St.l2 hS, St.l3 hS, St.l4 hS, St.l5 hS, St.b0 hS, St.b1 hS, St.m0 hS, St.m1 hS, St.m2 hS, St.m3 hS, St.m4 hS, St.m5 hS, St.m6 hS, St.m7 hS, St.m8 hS, St.m9 hS, St.m10 hS, St.m11 hS, St.m12 hS, St.m13 hS, St.m14 hS, St.m15 hS, St.m16 hS, St.m17 hS, St.m18 hS, St.m19 hS, St.n4 hS, St.n9 hS, St.n10 hS, St.n12 hS, St.n13 hS, St.n17 hS, St.n18 hS, St.n28 hS, St.n30 hS, F_L_1154, F_X11_trace, F_X12_trace, hrec, h0, F_X12_trace_20]
  · have h1 : ¬ xs 1 < 0 := by
      have := wi_one h0
      rw [Int32.lt_iff_toInt_lt]
      have : (0 : Int32).toInt = 0 := by decide
      omega
    simp (decide := true) [gd_in, nm_eq, gd_true, bn_some, bn2_some, bn3_some, bnT_some, oc_none, oc_some, bn_ite, bn2_ite, bn3_ite, F_X12_isCutter_eq, F_X12_in_eq, F_X11_isWithin_eq, F_X11_isThick_eq, F_X11_isSlope_eq, wi_e, inb_1, inb_2, inb_3, inb_4, inb_5, s2_at, cutterAt_0 (St.c1 hS), St.c1 hS, St.c4 hS, St.c6 hS, St.c10 hS, St.c13 hS, St.c02 hS, St.t1 hS, St.l0 hS, St.l1 hS, St.l2 hS, St.l3 hS, St.l4 hS, St.l5 hS, St.b0 hS, St.b1 hS, St.m0 hS, St.m1 hS, St.m2 hS, St.m3 hS, St.m4 hS, St.m5 hS, St.m6 hS, St.m7 hS, St.m8 hS, St.m9 hS, St.m10 hS, St.m11 hS, St.m12 hS, St.m13 hS, St.m14 hS, St.m15 hS, St.m16 hS, St.m17 hS, St.m18 hS, St.m19 hS, St.n4 hS, St.n9 hS, St.n10 hS, St.n12 hS, St.n13 hS, St.n17 hS, St.n18 hS, St.n28 hS, St.n30 hS, F_L_1154, F_X11_trace, F_X12_trace, hrec, h0, h1, F_X12_trace_20]
theorem l_image (hS : St σ ρ) (hrec : ∀ N K len σ ρ, rec N K len σ ρ 6 = some ()) : F_L_1210 xs 6 rec N K len σ ρ 0 = some () := by
  obtain ⟨σ', ρ', e1, e2, e3⟩ := takes_x0 (ρ := ρ) hS.c1 hS.r6 hS.r10
  have h1 : σ' 1 1 = 0 := by rw [e2]; exact hS.c1
  have h2 : σ' 55 11 = 0 := by rw [e3]; exact hS.m11
  simp (decide := true) [gd_in, nm_eq, gd_true, bn_some, bn2_some, bn3_some, bnT_some, oc_none, oc_some, bn_ite, bn2_ite, bn3_ite, F_X12_isCutter_eq, F_X12_in_eq, F_X11_isWithin_eq, F_X11_isThick_eq, F_X11_isSlope_eq, wi_e, inb_1, inb_2, inb_3, inb_4, inb_5, s2_at, cutterAt_0 (St.c1 hS), St.c1 hS, St.c4 hS, St.c6 hS, St.c10 hS, St.c13 hS, St.c02 hS, St.t1 hS, St.l0 hS, St.l1 hS, St.l2 hS, St.l3 hS, St.l4 hS, St.l5 hS, St.b0 hS, St.b1 hS, St.m0 hS, St.m1 hS, St.m2 hS, St.m3 hS, St.m4 hS, St.m5 hS, St.m6 hS, St.m7 hS, St.m8 hS, St.m9 hS, St.m10 hS, St.m11 hS, St.m12 hS, St.m13 hS, St.m14 hS, St.m15 hS, St.m16 hS, St.m17 hS, St.m18 hS, St.m19 hS, St.n4 hS, St.n9 hS, St.n10 hS, St.n12 hS, St.n13 hS, St.n17 hS, St.n18 hS, St.n28 hS, St.n30 hS, F_L_1210, F_X11_image, hrec, e1, h1, h2, F_X12_image_eq]
theorem l_order (hS : St σ ρ) (hrec : ∀ N K len σ ρ, rec N K len σ ρ 6 = some ()) : F_L_645 xs 6 rec N K len σ ρ 0 = some () := by
  by_cases g0 : xs 1 = -1
  · simp (decide := true) [gd_in, nm_eq, gd_true, bn_some, bn2_some, bn3_some, bnT_some, oc_none, oc_some, bn_ite, bn2_ite, bn3_ite, F_X12_isCutter_eq, F_X12_in_eq, F_X11_isWithin_eq, F_X11_isThick_eq, F_X11_isSlope_eq, wi_e, inb_1, inb_2, inb_3, inb_4, inb_5, s2_at, cutterAt_0 (St.c1 hS), St.c1 hS, St.c4 hS, St.c6 hS, St.c10 hS, St.c13 hS, St.c02 hS, St.t1 hS, St.l0 hS, St.l1 hS, St.l2 hS, St.l3 hS, St.l4 hS, St.l5 hS, St.b0 hS, St.b1 hS, St.m0 hS, St.m1 hS, St.m2 hS, St.m3 hS, St.m4 hS, St.m5 hS, St.m6 hS, St.m7 hS, St.m8 hS, St.m9 hS, St.m10 hS, St.m11 hS, St.m12 hS, St.m13 hS, St.m14 hS, St.m15 hS, St.m16 hS, St.m17 hS, St.m18 hS, St.m19 hS, St.n4 hS, St.n9 hS, St.n10 hS, St.n12 hS, St.n13 hS, St.n17 hS, St.n18 hS, St.n28 hS, St.n30 hS, F_L_645, F_X11_order, F_X12_order, hrec, goOn_0, go0, F_X12_keeps_eq, F_X12_goesBack_eq, goesOn_0, cpy_at, F_X12_goodBy, F_X11_startSteps, F_X3_takes, F_X11_tryOrders, F_X11_tryOrders_26, keepPath_0, order_m0, ord5, g0, wi]
  by_cases g1 : xs 1 = 0
  · simp (decide := true) [gd_in, nm_eq, gd_true, bn_some, bn2_some, bn3_some, bnT_some, oc_none, oc_some, bn_ite, bn2_ite, bn3_ite, F_X12_isCutter_eq, F_X12_in_eq, F_X11_isWithin_eq, F_X11_isThick_eq, F_X11_isSlope_eq, wi_e, inb_1, inb_2, inb_3, inb_4, inb_5, s2_at, cutterAt_0 (St.c1 hS), St.c1 hS, St.c4 hS, St.c6 hS, St.c10 hS, St.c13 hS, St.c02 hS, St.t1 hS, St.l0 hS, St.l1 hS, St.l2 hS, St.l3 hS, St.l4 hS, St.l5 hS, St.b0 hS, St.b1 hS, St.m0 hS, St.m1 hS, St.m2 hS, St.m3 hS, St.m4 hS, St.m5 hS, St.m6 hS, St.m7 hS, St.m8 hS, St.m9 hS, St.m10 hS, St.m11 hS, St.m12 hS, St.m13 hS, St.m14 hS, St.m15 hS, St.m16 hS, St.m17 hS, St.m18 hS, St.m19 hS, St.n4 hS, St.n9 hS, St.n10 hS, St.n12 hS, St.n13 hS, St.n17 hS, St.n18 hS, St.n28 hS, St.n30 hS, F_L_645, F_X11_order, F_X12_order, hrec, goOn_0, go0, F_X12_keeps_eq, F_X12_goesBack_eq, goesOn_0, cpy_at, F_X12_goodBy, F_X11_startSteps, F_X3_takes, F_X11_tryOrders, F_X11_tryOrders_26, keepPath_0, order_m0, ord5, g1, wi]
  by_cases g2 : xs 1 = 1
  · simp (decide := true) [gd_in, nm_eq, gd_true, bn_some, bn2_some, bn3_some, bnT_some, oc_none, oc_some, bn_ite, bn2_ite, bn3_ite, F_X12_isCutter_eq, F_X12_in_eq, F_X11_isWithin_eq, F_X11_isThick_eq, F_X11_isSlope_eq, wi_e, inb_1, inb_2, inb_3, inb_4, inb_5, s2_at, cutterAt_0 (St.c1 hS), St.c1 hS, St.c4 hS, St.c6 hS, St.c10 hS, St.c13 hS, St.c02 hS, St.t1 hS, St.l0 hS, St.l1 hS, St.l2 hS, St.l3 hS, St.l4 hS, St.l5 hS, St.b0 hS, St.b1 hS, St.m0 hS, St.m1 hS, St.m2 hS, St.m3 hS, St.m4 hS, St.m5 hS, St.m6 hS, St.m7 hS, St.m8 hS, St.m9 hS, St.m10 hS, St.m11 hS, St.m12 hS, St.m13 hS, St.m14 hS, St.m15 hS, St.m16 hS, St.m17 hS, St.m18 hS, St.m19 hS, St.n4 hS, St.n9 hS, St.n10 hS, St.n12 hS, St.n13 hS, St.n17 hS, St.n18 hS, St.n28 hS, St.n30 hS, F_L_645, F_X11_order, F_X12_order, hrec, goOn_0, go0, F_X12_keeps_eq, F_X12_goesBack_eq, goesOn_0, cpy_at, F_X12_goodBy, F_X11_startSteps, F_X3_takes, F_X11_tryOrders, F_X11_tryOrders_26, keepPath_0, order_m0, ord5, g2, wi]
  by_cases g3 : xs 1 = 2
  · simp (decide := true) [gd_in, nm_eq, gd_true, bn_some, bn2_some, bn3_some, bnT_some, oc_none, oc_some, bn_ite, bn2_ite, bn3_ite, F_X12_isCutter_eq, F_X12_in_eq, F_X11_isWithin_eq, F_X11_isThick_eq, F_X11_isSlope_eq, wi_e, inb_1, inb_2, inb_3, inb_4, inb_5, s2_at, cutterAt_0 (St.c1 hS), St.c1 hS, St.c4 hS, St.c6 hS, St.c10 hS, St.c13 hS, St.c02 hS, St.t1 hS, St.l0 hS, St.l1 hS, St.l2 hS, St.l3 hS, St.l4 hS, St.l5 hS, St.b0 hS, St.b1 hS, St.m0 hS, St.m1 hS, St.m2 hS, St.m3 hS, St.m4 hS, St.m5 hS, St.m6 hS, St.m7 hS, St.m8 hS, St.m9 hS, St.m10 hS, St.m11 hS, St.m12 hS, St.m13 hS, St.m14 hS, St.m15 hS, St.m16 hS, St.m17 hS, St.m18 hS, St.m19 hS, St.n4 hS, St.n9 hS, St.n10 hS, St.n12 hS, St.n13 hS, St.n17 hS, St.n18 hS, St.n28 hS, St.n30 hS, F_L_645, F_X11_order, F_X12_order, hrec, goOn_0, go0, F_X12_keeps_eq, F_X12_goesBack_eq, goesOn_0, cpy_at, F_X12_goodBy, F_X11_startSteps, F_X3_takes, F_X11_tryOrders, F_X11_tryOrders_26, keepPath_0, order_m0, ord5, g3, wi]
  by_cases g4 : xs 1 = 3
  · simp (decide := true) [gd_in, nm_eq, gd_true, bn_some, bn2_some, bn3_some, bnT_some, oc_none, oc_some, bn_ite, bn2_ite, bn3_ite, F_X12_isCutter_eq, F_X12_in_eq, F_X11_isWithin_eq, F_X11_isThick_eq, F_X11_isSlope_eq, wi_e, inb_1, inb_2, inb_3, inb_4, inb_5, s2_at, cutterAt_0 (St.c1 hS), St.c1 hS, St.c4 hS, St.c6 hS, St.c10 hS, St.c13 hS, St.c02 hS, St.t1 hS, St.l0 hS, St.l1 hS, St.l2 hS, St.l3 hS, St.l4 hS, St.l5 hS, St.b0 hS, St.b1 hS, St.m0 hS, St.m1 hS, St.m2 hS, St.m3 hS, St.m4 hS, St.m5 hS, St.m6 hS, St.m7 hS, St.m8 hS, St.m9 hS, St.m10 hS, St.m11 hS, St.m12 hS, St.m13 hS, St.m14 hS, St.m15 hS, St.m16 hS, St.m17 hS, St.m18 hS, St.m19 hS, St.n4 hS, St.n9 hS, St.n10 hS, St.n12 hS, St.n13 hS, St.n17 hS, St.n18 hS, St.n28 hS, St.n30 hS, F_L_645, F_X11_order, F_X12_order, hrec, goOn_0, go0, F_X12_keeps_eq, F_X12_goesBack_eq, goesOn_0, cpy_at, F_X12_goodBy, F_X11_startSteps, F_X3_takes, F_X11_tryOrders, F_X11_tryOrders_26, keepPath_0, order_m0, ord5, g4, wi]
  by_cases g5 : xs 1 = 4
  · simp (decide := true) [gd_in, nm_eq, gd_true, bn_some, bn2_some, bn3_some, bnT_some, oc_none, oc_some, bn_ite, bn2_ite, bn3_ite, F_X12_isCutter_eq, F_X12_in_eq, F_X11_isWithin_eq, F_X11_isThick_eq, F_X11_isSlope_eq, wi_e, inb_1, inb_2, inb_3, inb_4, inb_5, s2_at, cutterAt_0 (St.c1 hS), St.c1 hS, St.c4 hS, St.c6 hS, St.c10 hS, St.c13 hS, St.c02 hS, St.t1 hS, St.l0 hS, St.l1 hS, St.l2 hS, St.l3 hS, St.l4 hS, St.l5 hS, St.b0 hS, St.b1 hS, St.m0 hS, St.m1 hS, St.m2 hS, St.m3 hS, St.m4 hS, St.m5 hS, St.m6 hS, St.m7 hS, St.m8 hS, St.m9 hS, St.m10 hS, St.m11 hS, St.m12 hS, St.m13 hS, St.m14 hS, St.m15 hS, St.m16 hS, St.m17 hS, St.m18 hS, St.m19 hS, St.n4 hS, St.n9 hS, St.n10 hS, St.n12 hS, St.n13 hS, St.n17 hS, St.n18 hS, St.n28 hS, St.n30 hS, F_L_645, F_X11_order, F_X12_order, hrec, goOn_0, go0, F_X12_keeps_eq, F_X12_goesBack_eq, goesOn_0, cpy_at, F_X12_goodBy, F_X11_startSteps, F_X3_takes, F_X11_tryOrders, F_X11_tryOrders_26, keepPath_0, order_m0, ord5, g5, wi]
  have hw : wi (xs 1) (-1) 4 = 0 := by
    have q0 := ne_toInt (k := -1) g0
    have q1 := ne_toInt (k := 0) g1
    have q2 := ne_toInt (k := 1) g2
    have q3 := ne_toInt (k := 2) g3
    have q4 := ne_toInt (k := 3) g4
    have q5 := ne_toInt (k := 4) g5
    apply wi_zero
    have : ((-1) : Int32).toInt = -1 := by decide
    have : (4 : Int32).toInt = 4 := by decide
    omega
  simp (decide := true) [gd_in, nm_eq, gd_true, bn_some, bn2_some, bn3_some, bnT_some, oc_none, oc_some, bn_ite, bn2_ite, bn3_ite, F_X12_isCutter_eq, F_X12_in_eq, F_X11_isWithin_eq, F_X11_isThick_eq, F_X11_isSlope_eq, wi_e, inb_1, inb_2, inb_3, inb_4, inb_5, s2_at, cutterAt_0 (St.c1 hS), St.c1 hS, St.c4 hS, St.c6 hS, St.c10 hS, St.c13 hS, St.c02 hS, St.t1 hS, St.l0 hS, St.l1 hS, St.l2 hS, St.l3 hS, St.l4 hS, St.l5 hS, St.b0 hS, St.b1 hS, St.m0 hS, St.m1 hS, St.m2 hS, St.m3 hS, St.m4 hS, St.m5 hS, St.m6 hS, St.m7 hS, St.m8 hS, St.m9 hS, St.m10 hS, St.m11 hS, St.m12 hS, St.m13 hS, St.m14 hS, St.m15 hS, St.m16 hS, St.m17 hS, St.m18 hS, St.m19 hS, St.n4 hS, St.n9 hS, St.n10 hS, St.n12 hS, St.n13 hS, St.n17 hS, St.n18 hS, St.n28 hS, St.n30 hS, F_L_645, F_X11_order, F_X12_order, hrec, goOn_0, go0, F_X12_keeps_eq, F_X12_goesBack_eq, goesOn_0, cpy_at, F_X12_goodBy, F_X11_startSteps, F_X3_takes, F_X11_tryOrders, F_X11_tryOrders_26, keepPath_0, order_m0, ord5, g0, g1, g2, g3, g4, g5, hw]
theorem l_rows (hS : St σ ρ) (hrec : ∀ N K len σ ρ, rec N K len σ ρ 6 = some ()) : F_L_984 xs 6 rec N K len σ ρ 0 = some () := by
  by_cases g0 : xs 1 = -1
  · simp (decide := true) [gd_in, nm_eq, gd_true, bn_some, bn2_some, bn3_some, bnT_some, oc_none, oc_some, bn_ite, bn2_ite, bn3_ite, F_X12_isCutter_eq, F_X12_in_eq, F_X11_isWithin_eq, F_X11_isThick_eq, F_X11_isSlope_eq, wi_e, inb_1, inb_2, inb_3, inb_4, inb_5, s2_at, cutterAt_0 (St.c1 hS), St.c1 hS, St.c4 hS, St.c6 hS, St.c10 hS, St.c13 hS, St.c02 hS, St.t1 hS, St.l0 hS, St.l1 hS, St.l2 hS, St.l3 hS, St.l4 hS, St.l5 hS, St.b0 hS, St.b1 hS, St.m0 hS, St.m1 hS, St.m2 hS, St.m3 hS, St.m4 hS, St.m5 hS, St.m6 hS, St.m7 hS, St.m8 hS, St.m9 hS, St.m10 hS, St.m11 hS, St.m12 hS, St.m13 hS, St.m14 hS, St.m15 hS, St.m16 hS, St.m17 hS, St.m18 hS, St.m19 hS, St.n4 hS, St.n9 hS, St.n10 hS, St.n12 hS, St.n13 hS, St.n17 hS, St.n18 hS, St.n28 hS, St.n30 hS, F_L_984, F_X11_rows, F_X12_rows, hrec, goOn_0, go0, F_X12_keeps_eq, F_X12_goesBack_eq, goesOn_0, cpy_at, F_X12_goodBy, F_X11_startSteps, F_X3_takes, F_X11_weekRows, keepPath_0, rows_m0, ord5, g0, wi]
  by_cases g1 : xs 1 = 0
  · simp (decide := true) [gd_in, nm_eq, gd_true, bn_some, bn2_some, bn3_some, bnT_some, oc_none, oc_some, bn_ite, bn2_ite, bn3_ite, F_X12_isCutter_eq, F_X12_in_eq, F_X11_isWithin_eq, F_X11_isThick_eq, F_X11_isSlope_eq, wi_e, inb_1, inb_2, inb_3, inb_4, inb_5, s2_at, cutterAt_0 (St.c1 hS), St.c1 hS, St.c4 hS, St.c6 hS, St.c10 hS, St.c13 hS, St.c02 hS, St.t1 hS, St.l0 hS, St.l1 hS, St.l2 hS, St.l3 hS, St.l4 hS, St.l5 hS, St.b0 hS, St.b1 hS, St.m0 hS, St.m1 hS, St.m2 hS, St.m3 hS, St.m4 hS, St.m5 hS, St.m6 hS, St.m7 hS, St.m8 hS, St.m9 hS, St.m10 hS, St.m11 hS, St.m12 hS, St.m13 hS, St.m14 hS, St.m15 hS, St.m16 hS, St.m17 hS, St.m18 hS, St.m19 hS, St.n4 hS, St.n9 hS, St.n10 hS, St.n12 hS, St.n13 hS, St.n17 hS, St.n18 hS, St.n28 hS, St.n30 hS, F_L_984, F_X11_rows, F_X12_rows, hrec, goOn_0, go0, F_X12_keeps_eq, F_X12_goesBack_eq, goesOn_0, cpy_at, F_X12_goodBy, F_X11_startSteps, F_X3_takes, F_X11_weekRows, keepPath_0, rows_m0, ord5, g1, wi]
  by_cases g2 : xs 1 = 1
  · simp (decide := true) [gd_in, nm_eq, gd_true, bn_some, bn2_some, bn3_some, bnT_some, oc_none, oc_some, bn_ite, bn2_ite, bn3_ite, F_X12_isCutter_eq, F_X12_in_eq, F_X11_isWithin_eq, F_X11_isThick_eq, F_X11_isSlope_eq, wi_e, inb_1, inb_2, inb_3, inb_4, inb_5, s2_at, cutterAt_0 (St.c1 hS), St.c1 hS, St.c4 hS, St.c6 hS, St.c10 hS, St.c13 hS, St.c02 hS, St.t1 hS, St.l0 hS, St.l1 hS, St.l2 hS, St.l3 hS, St.l4 hS, St.l5 hS, St.b0 hS, St.b1 hS, St.m0 hS, St.m1 hS, St.m2 hS, St.m3 hS, St.m4 hS, St.m5 hS, St.m6 hS, St.m7 hS, St.m8 hS, St.m9 hS, St.m10 hS, St.m11 hS, St.m12 hS, St.m13 hS, St.m14 hS, St.m15 hS, St.m16 hS, St.m17 hS, St.m18 hS, St.m19 hS, St.n4 hS, St.n9 hS, St.n10 hS, St.n12 hS, St.n13 hS, St.n17 hS, St.n18 hS, St.n28 hS, St.n30 hS, F_L_984, F_X11_rows, F_X12_rows, hrec, goOn_0, go0, F_X12_keeps_eq, F_X12_goesBack_eq, goesOn_0, cpy_at, F_X12_goodBy, F_X11_startSteps, F_X3_takes, F_X11_weekRows, keepPath_0, rows_m0, ord5, g2, wi]
  by_cases g3 : xs 1 = 2
  · simp (decide := true) [gd_in, nm_eq, gd_true, bn_some, bn2_some, bn3_some, bnT_some, oc_none, oc_some, bn_ite, bn2_ite, bn3_ite, F_X12_isCutter_eq, F_X12_in_eq, F_X11_isWithin_eq, F_X11_isThick_eq, F_X11_isSlope_eq, wi_e, inb_1, inb_2, inb_3, inb_4, inb_5, s2_at, cutterAt_0 (St.c1 hS), St.c1 hS, St.c4 hS, St.c6 hS, St.c10 hS, St.c13 hS, St.c02 hS, St.t1 hS, St.l0 hS, St.l1 hS, St.l2 hS, St.l3 hS, St.l4 hS, St.l5 hS, St.b0 hS, St.b1 hS, St.m0 hS, St.m1 hS, St.m2 hS, St.m3 hS, St.m4 hS, St.m5 hS, St.m6 hS, St.m7 hS, St.m8 hS, St.m9 hS, St.m10 hS, St.m11 hS, St.m12 hS, St.m13 hS, St.m14 hS, St.m15 hS, St.m16 hS, St.m17 hS, St.m18 hS, St.m19 hS, St.n4 hS, St.n9 hS, St.n10 hS, St.n12 hS, St.n13 hS, St.n17 hS, St.n18 hS, St.n28 hS, St.n30 hS, F_L_984, F_X11_rows, F_X12_rows, hrec, goOn_0, go0, F_X12_keeps_eq, F_X12_goesBack_eq, goesOn_0, cpy_at, F_X12_goodBy, F_X11_startSteps, F_X3_takes, F_X11_weekRows, keepPath_0, rows_m0, ord5, g3, wi]
  by_cases g4 : xs 1 = 3
  · simp (decide := true) [gd_in, nm_eq, gd_true, bn_some, bn2_some, bn3_some, bnT_some, oc_none, oc_some, bn_ite, bn2_ite, bn3_ite, F_X12_isCutter_eq, F_X12_in_eq, F_X11_isWithin_eq, F_X11_isThick_eq, F_X11_isSlope_eq, wi_e, inb_1, inb_2, inb_3, inb_4, inb_5, s2_at, cutterAt_0 (St.c1 hS), St.c1 hS, St.c4 hS, St.c6 hS, St.c10 hS, St.c13 hS, St.c02 hS, St.t1 hS, St.l0 hS, St.l1 hS, St.l2 hS, St.l3 hS, St.l4 hS, St.l5 hS, St.b0 hS, St.b1 hS, St.m0 hS, St.m1 hS, St.m2 hS, St.m3 hS, St.m4 hS, St.m5 hS, St.m6 hS, St.m7 hS, St.m8 hS, St.m9 hS, St.m10 hS, St.m11 hS, St.m12 hS, St.m13 hS, St.m14 hS, St.m15 hS, St.m16 hS, St.m17 hS, St.m18 hS, St.m19 hS, St.n4 hS, St.n9 hS, St.n10 hS, St.n12 hS, St.n13 hS, St.n17 hS, St.n18 hS, St.n28 hS, St.n30 hS, F_L_984, F_X11_rows, F_X12_rows, hrec, goOn_0, go0, F_X12_keeps_eq, F_X12_goesBack_eq, goesOn_0, cpy_at, F_X12_goodBy, F_X11_startSteps, F_X3_takes, F_X11_weekRows, keepPath_0, rows_m0, ord5, g4, wi]
  have hw : wi (xs 1) (-1) 3 = 0 := by
    have q0 := ne_toInt (k := -1) g0
    have q1 := ne_toInt (k := 0) g1
    have q2 := ne_toInt (k := 1) g2
    have q3 := ne_toInt (k := 2) g3
    have q4 := ne_toInt (k := 3) g4
    apply wi_zero
    have : (-1 : Int32).toInt = -1 := by decide
    have : (3 : Int32).toInt = 3 := by decide
    omega
  simp (decide := true) [gd_in, nm_eq, gd_true, bn_some, bn2_some, bn3_some, bnT_some, oc_none, oc_some, bn_ite, bn2_ite, bn3_ite, F_X12_isCutter_eq, F_X12_in_eq, F_X11_isWithin_eq, F_X11_isThick_eq, F_X11_isSlope_eq, wi_e, inb_1, inb_2, inb_3, inb_4, inb_5, s2_at, cutterAt_0 (St.c1 hS), St.c1 hS, St.c4 hS, St.c6 hS, St.c10 hS, St.c13 hS, St.c02 hS, St.t1 hS, St.l0 hS, St.l1 hS, St.l2 hS, St.l3 hS, St.l4 hS, St.l5 hS, St.b0 hS, St.b1 hS, St.m0 hS, St.m1 hS, St.m2 hS, St.m3 hS, St.m4 hS, St.m5 hS, St.m6 hS, St.m7 hS, St.m8 hS, St.m9 hS, St.m10 hS, St.m11 hS, St.m12 hS, St.m13 hS, St.m14 hS, St.m15 hS, St.m16 hS, St.m17 hS, St.m18 hS, St.m19 hS, St.n4 hS, St.n9 hS, St.n10 hS, St.n12 hS, St.n13 hS, St.n17 hS, St.n18 hS, St.n28 hS, St.n30 hS, F_L_984, F_X11_rows, F_X12_rows, hrec, goOn_0, go0, F_X12_keeps_eq, F_X12_goesBack_eq, goesOn_0, cpy_at, F_X12_goodBy, F_X11_startSteps, F_X3_takes, F_X11_weekRows, keepPath_0, rows_m0, ord5, g0, g1, g2, g3, g4, hw]
theorem l_cheese (hS : St σ ρ) (hrec : ∀ N K len σ ρ, rec N K len σ ρ 6 = some ()) : F_L_869 xs 6 rec N K len σ ρ 0 = some () := by
  by_cases g0 : xs 2 = 0
  · rcases wi_01 (xs 1) 12 360 with h0 | h0 <;> simp (decide := true) [gd_in, nm_eq, gd_true, bn_some, bn2_some, bn3_some, bnT_some, oc_none, oc_some, bn_ite, bn2_ite, bn3_ite, F_X12_isCutter_eq, F_X12_in_eq, F_X11_isWithin_eq, F_X11_isThick_eq, F_X11_isSlope_eq, wi_e, inb_1, inb_2, inb_3, inb_4, inb_5, s2_at, cutterAt_0 (St.c1 hS), St.c1 hS, St.c4 hS, St.c6 hS, St.c10 hS, St.c13 hS, St.c02 hS, St.t1 hS, St.l0 hS, St.l1 hS, St.l2 hS, St.l3 hS, St.l4 hS, St.l5 hS, St.b0 hS, St.b1 hS, St.m0 hS, St.m1 hS, St.m2 hS, St.m3 hS, St.m4 hS, St.m5 hS, St.m6 hS, St.m7 hS, St.m8 hS, St.m9 hS, St.m10 hS, St.m11 hS, St.m12 hS, St.m13 hS, St.m14 hS, St.m15 hS, St.m16 hS, St.m17 hS, St.m18 hS, St.m19 hS, St.n4 hS, St.n9 hS, St.n10 hS, St.n12 hS, St.n13 hS, St.n17 hS, St.n18 hS, St.n28 hS, St.n30 hS, F_L_869, F_X11_cheese, F_X12_cheese, hrec, F_X11_cheese_19, F_X11_cheese_35, F_X12_cheese_22, cheese_x0, cheese_m0, F_X11_cheese_161, F_X12_cheese_146, g0, h0, wi_00]
  by_cases g1 : xs 2 = 1
  · rcases wi_01 (xs 1) 12 360 with h0 | h0 <;> simp (decide := true) [gd_in, nm_eq, gd_true, bn_some, bn2_some, bn3_some, bnT_some, oc_none, oc_some, bn_ite, bn2_ite, bn3_ite, F_X12_isCutter_eq, F_X12_in_eq, F_X11_isWithin_eq, F_X11_isThick_eq, F_X11_isSlope_eq, wi_e, inb_1, inb_2, inb_3, inb_4, inb_5, s2_at, cutterAt_0 (St.c1 hS), St.c1 hS, St.c4 hS, St.c6 hS, St.c10 hS, St.c13 hS, St.c02 hS, St.t1 hS, St.l0 hS, St.l1 hS, St.l2 hS, St.l3 hS, St.l4 hS, St.l5 hS, St.b0 hS, St.b1 hS, St.m0 hS, St.m1 hS, St.m2 hS, St.m3 hS, St.m4 hS, St.m5 hS, St.m6 hS, St.m7 hS, St.m8 hS, St.m9 hS, St.m10 hS, St.m11 hS, St.m12 hS, St.m13 hS, St.m14 hS, St.m15 hS, St.m16 hS, St.m17 hS, St.m18 hS, St.m19 hS, St.n4 hS, St.n9 hS, St.n10 hS, St.n12 hS, St.n13 hS, St.n17 hS, St.n18 hS, St.n28 hS, St.n30 hS, F_L_869, F_X11_cheese, F_X12_cheese, hrec, F_X11_cheese_19, F_X11_cheese_35, F_X12_cheese_22, cheese_x0, cheese_m0, F_X11_cheese_161, F_X12_cheese_146, g1, h0, wi_00]
  have hw : wi (xs 2) 0 1 = 0 := by
    have q0 := ne_toInt (k := 0) g0
    have q1 := ne_toInt (k := 1) g1
    apply wi_zero
    have : (0 : Int32).toInt = 0 := by decide
    have : (1 : Int32).toInt = 1 := by decide
    omega
  simp (decide := true) [gd_in, nm_eq, gd_true, bn_some, bn2_some, bn3_some, bnT_some, oc_none, oc_some, bn_ite, bn2_ite, bn3_ite, F_X12_isCutter_eq, F_X12_in_eq, F_X11_isWithin_eq, F_X11_isThick_eq, F_X11_isSlope_eq, wi_e, inb_1, inb_2, inb_3, inb_4, inb_5, s2_at, cutterAt_0 (St.c1 hS), St.c1 hS, St.c4 hS, St.c6 hS, St.c10 hS, St.c13 hS, St.c02 hS, St.t1 hS, St.l0 hS, St.l1 hS, St.l2 hS, St.l3 hS, St.l4 hS, St.l5 hS, St.b0 hS, St.b1 hS, St.m0 hS, St.m1 hS, St.m2 hS, St.m3 hS, St.m4 hS, St.m5 hS, St.m6 hS, St.m7 hS, St.m8 hS, St.m9 hS, St.m10 hS, St.m11 hS, St.m12 hS, St.m13 hS, St.m14 hS, St.m15 hS, St.m16 hS, St.m17 hS, St.m18 hS, St.m19 hS, St.n4 hS, St.n9 hS, St.n10 hS, St.n12 hS, St.n13 hS, St.n17 hS, St.n18 hS, St.n28 hS, St.n30 hS, F_L_869, F_X11_cheese, F_X12_cheese, hrec, F_X11_cheese_19, F_X11_cheese_35, F_X12_cheese_22, cheese_x0, cheese_m0, F_X11_cheese_161, F_X12_cheese_146, g0, g1, hw]
theorem l_on (hS : St σ ρ) (hrec : ∀ N K len σ ρ, rec N K len σ ρ 6 = some ()) : F_L_566 xs 6 rec N K len σ ρ 0 = some () := by
  by_cases g0 : xs 2 = 0
  · rcases wi_01 (xs 1) 0 40 with h0 | h0 <;> simp (decide := true) [gd_in, nm_eq, gd_true, bn_some, bn2_some, bn3_some, bnT_some, oc_none, oc_some, bn_ite, bn2_ite, bn3_ite, F_X12_isCutter_eq, F_X12_in_eq, F_X11_isWithin_eq, F_X11_isThick_eq, F_X11_isSlope_eq, wi_e, inb_1, inb_2, inb_3, inb_4, inb_5, s2_at, cutterAt_0 (St.c1 hS), St.c1 hS, St.c4 hS, St.c6 hS, St.c10 hS, St.c13 hS, St.c02 hS, St.t1 hS, St.l0 hS, St.l1 hS, St.l2 hS, St.l3 hS, St.l4 hS, St.l5 hS, St.b0 hS, St.b1 hS, St.m0 hS, St.m1 hS, St.m2 hS, St.m3 hS, St.m4 hS, St.m5 hS, St.m6 hS, St.m7 hS, St.m8 hS, St.m9 hS, St.m10 hS, St.m11 hS, St.m12 hS, St.m13 hS, St.m14 hS, St.m15 hS, St.m16 hS, St.m17 hS, St.m18 hS, St.m19 hS, St.n4 hS, St.n9 hS, St.n10 hS, St.n12 hS, St.n13 hS, St.n17 hS, St.n18 hS, St.n28 hS, St.n30 hS, F_L_566, F_X11_on, F_X12_on, hrec, F_X11_on_19, F_X11_on_37, F_X12_on_24, goOn_0, go0, F_X12_keeps_eq, F_X12_goesBack_eq, goesOn_0, cpy_at, F_X12_goodBy, F_X11_startSteps, F_X3_takes, g0, h0, wi_05]
  by_cases g1 : xs 2 = 1
  · rcases wi_01 (xs 1) 0 40 with h0 | h0 <;> simp (decide := true) [gd_in, nm_eq, gd_true, bn_some, bn2_some, bn3_some, bnT_some, oc_none, oc_some, bn_ite, bn2_ite, bn3_ite, F_X12_isCutter_eq, F_X12_in_eq, F_X11_isWithin_eq, F_X11_isThick_eq, F_X11_isSlope_eq, wi_e, inb_1, inb_2, inb_3, inb_4, inb_5, s2_at, cutterAt_0 (St.c1 hS), St.c1 hS, St.c4 hS, St.c6 hS, St.c10 hS, St.c13 hS, St.c02 hS, St.t1 hS, St.l0 hS, St.l1 hS, St.l2 hS, St.l3 hS, St.l4 hS, St.l5 hS, St.b0 hS, St.b1 hS, St.m0 hS, St.m1 hS, St.m2 hS, St.m3 hS, St.m4 hS, St.m5 hS, St.m6 hS, St.m7 hS, St.m8 hS, St.m9 hS, St.m10 hS, St.m11 hS, St.m12 hS, St.m13 hS, St.m14 hS, St.m15 hS, St.m16 hS, St.m17 hS, St.m18 hS, St.m19 hS, St.n4 hS, St.n9 hS, St.n10 hS, St.n12 hS, St.n13 hS, St.n17 hS, St.n18 hS, St.n28 hS, St.n30 hS, F_L_566, F_X11_on, F_X12_on, hrec, F_X11_on_19, F_X11_on_37, F_X12_on_24, goOn_0, go0, F_X12_keeps_eq, F_X12_goesBack_eq, goesOn_0, cpy_at, F_X12_goodBy, F_X11_startSteps, F_X3_takes, g1, h0, wi_05]
  by_cases g2 : xs 2 = 2
  · rcases wi_01 (xs 1) 0 40 with h0 | h0 <;> simp (decide := true) [gd_in, nm_eq, gd_true, bn_some, bn2_some, bn3_some, bnT_some, oc_none, oc_some, bn_ite, bn2_ite, bn3_ite, F_X12_isCutter_eq, F_X12_in_eq, F_X11_isWithin_eq, F_X11_isThick_eq, F_X11_isSlope_eq, wi_e, inb_1, inb_2, inb_3, inb_4, inb_5, s2_at, cutterAt_0 (St.c1 hS), St.c1 hS, St.c4 hS, St.c6 hS, St.c10 hS, St.c13 hS, St.c02 hS, St.t1 hS, St.l0 hS, St.l1 hS, St.l2 hS, St.l3 hS, St.l4 hS, St.l5 hS, St.b0 hS, St.b1 hS, St.m0 hS, St.m1 hS, St.m2 hS, St.m3 hS, St.m4 hS, St.m5 hS, St.m6 hS, St.m7 hS, St.m8 hS, St.m9 hS, St.m10 hS, St.m11 hS, St.m12 hS, St.m13 hS, St.m14 hS, St.m15 hS, St.m16 hS, St.m17 hS, St.m18 hS, St.m19 hS, St.n4 hS, St.n9 hS, St.n10 hS, St.n12 hS, St.n13 hS, St.n17 hS, St.n18 hS, St.n28 hS, St.n30 hS, F_L_566, F_X11_on, F_X12_on, hrec, F_X11_on_19, F_X11_on_37, F_X12_on_24, goOn_0, go0, F_X12_keeps_eq, F_X12_goesBack_eq, goesOn_0, cpy_at, F_X12_goodBy, F_X11_startSteps, F_X3_takes, g2, h0, wi_05]
  by_cases g3 : xs 2 = 3
  · rcases wi_01 (xs 1) 0 40 with h0 | h0 <;> simp (decide := true) [gd_in, nm_eq, gd_true, bn_some, bn2_some, bn3_some, bnT_some, oc_none, oc_some, bn_ite, bn2_ite, bn3_ite, F_X12_isCutter_eq, F_X12_in_eq, F_X11_isWithin_eq, F_X11_isThick_eq, F_X11_isSlope_eq, wi_e, inb_1, inb_2, inb_3, inb_4, inb_5, s2_at, cutterAt_0 (St.c1 hS), St.c1 hS, St.c4 hS, St.c6 hS, St.c10 hS, St.c13 hS, St.c02 hS, St.t1 hS, St.l0 hS, St.l1 hS, St.l2 hS, St.l3 hS, St.l4 hS, St.l5 hS, St.b0 hS, St.b1 hS, St.m0 hS, St.m1 hS, St.m2 hS, St.m3 hS, St.m4 hS, St.m5 hS, St.m6 hS, St.m7 hS, St.m8 hS, St.m9 hS, St.m10 hS, St.m11 hS, St.m12 hS, St.m13 hS, St.m14 hS, St.m15 hS, St.m16 hS, St.m17 hS, St.m18 hS, St.m19 hS, St.n4 hS, St.n9 hS, St.n10 hS, St.n12 hS, St.n13 hS, St.n17 hS, St.n18 hS, St.n28 hS, St.n30 hS, F_L_566, F_X11_on, F_X12_on, hrec, F_X11_on_19, F_X11_on_37, F_X12_on_24, goOn_0, go0, F_X12_keeps_eq, F_X12_goesBack_eq, goesOn_0, cpy_at, F_X12_goodBy, F_X11_startSteps, F_X3_takes, g3, h0, wi_05]
  by_cases g4 : xs 2 = 4
  · rcases wi_01 (xs 1) 0 40 with h0 | h0 <;> simp (decide := true) [gd_in, nm_eq, gd_true, bn_some, bn2_some, bn3_some, bnT_some, oc_none, oc_some, bn_ite, bn2_ite, bn3_ite, F_X12_isCutter_eq, F_X12_in_eq, F_X11_isWithin_eq, F_X11_isThick_eq, F_X11_isSlope_eq, wi_e, inb_1, inb_2, inb_3, inb_4, inb_5, s2_at, cutterAt_0 (St.c1 hS), St.c1 hS, St.c4 hS, St.c6 hS, St.c10 hS, St.c13 hS, St.c02 hS, St.t1 hS, St.l0 hS, St.l1 hS, St.l2 hS, St.l3 hS, St.l4 hS, St.l5 hS, St.b0 hS, St.b1 hS, St.m0 hS, St.m1 hS, St.m2 hS, St.m3 hS, St.m4 hS, St.m5 hS, St.m6 hS, St.m7 hS, St.m8 hS, St.m9 hS, St.m10 hS, St.m11 hS, St.m12 hS, St.m13 hS, St.m14 hS, St.m15 hS, St.m16 hS, St.m17 hS, St.m18 hS, St.m19 hS, St.n4 hS, St.n9 hS, St.n10 hS, St.n12 hS, St.n13 hS, St.n17 hS, St.n18 hS, St.n28 hS, St.n30 hS, F_L_566, F_X11_on, F_X12_on, hrec, F_X11_on_19, F_X11_on_37, F_X12_on_24, goOn_0, go0, F_X12_keeps_eq, F_X12_goesBack_eq, goesOn_0, cpy_at, F_X12_goodBy, F_X11_startSteps, F_X3_takes, g4, h0, wi_05]
  by_cases g5 : xs 2 = 5
  · rcases wi_01 (xs 1) 0 40 with h0 | h0 <;> simp (decide := true) [gd_in, nm_eq, gd_true, bn_some, bn2_some, bn3_some, bnT_some, oc_none, oc_some, bn_ite, bn2_ite, bn3_ite, F_X12_isCutter_eq, F_X12_in_eq, F_X11_isWithin_eq, F_X11_isThick_eq, F_X11_isSlope_eq, wi_e, inb_1, inb_2, inb_3, inb_4, inb_5, s2_at, cutterAt_0 (St.c1 hS), St.c1 hS, St.c4 hS, St.c6 hS, St.c10 hS, St.c13 hS, St.c02 hS, St.t1 hS, St.l0 hS, St.l1 hS, St.l2 hS, St.l3 hS, St.l4 hS, St.l5 hS, St.b0 hS, St.b1 hS, St.m0 hS, St.m1 hS, St.m2 hS, St.m3 hS, St.m4 hS, St.m5 hS, St.m6 hS, St.m7 hS, St.m8 hS, St.m9 hS, St.m10 hS, St.m11 hS, St.m12 hS, St.m13 hS, St.m14 hS, St.m15 hS, St.m16 hS, St.m17 hS, St.m18 hS, St.m19 hS, St.n4 hS, St.n9 hS, St.n10 hS, St.n12 hS, St.n13 hS, St.n17 hS, St.n18 hS, St.n28 hS, St.n30 hS, F_L_566, F_X11_on, F_X12_on, hrec, F_X11_on_19, F_X11_on_37, F_X12_on_24, goOn_0, go0, F_X12_keeps_eq, F_X12_goesBack_eq, goesOn_0, cpy_at, F_X12_goodBy, F_X11_startSteps, F_X3_takes, g5, h0, wi_05]
  have hw : wi (xs 2) 0 5 = 0 := by
    have q0 := ne_toInt (k := 0) g0
    have q1 := ne_toInt (k := 1) g1
    have q2 := ne_toInt (k := 2) g2
    have q3 := ne_toInt (k := 3) g3
    have q4 := ne_toInt (k := 4) g4
    have q5 := ne_toInt (k := 5) g5
    apply wi_zero
    have : (0 : Int32).toInt = 0 := by decide
    have : (5 : Int32).toInt = 5 := by decide
    omega
  simp (decide := true) [gd_in, nm_eq, gd_true, bn_some, bn2_some, bn3_some, bnT_some, oc_none, oc_some, bn_ite, bn2_ite, bn3_ite, F_X12_isCutter_eq, F_X12_in_eq, F_X11_isWithin_eq, F_X11_isThick_eq, F_X11_isSlope_eq, wi_e, inb_1, inb_2, inb_3, inb_4, inb_5, s2_at, cutterAt_0 (St.c1 hS), St.c1 hS, St.c4 hS, St.c6 hS, St.c10 hS, St.c13 hS, St.c02 hS, St.t1 hS, St.l0 hS, St.l1 hS, St.l2 hS, St.l3 hS, St.l4 hS, St.l5 hS, St.b0 hS, St.b1 hS, St.m0 hS, St.m1 hS, St.m2 hS, St.m3 hS, St.m4 hS, St.m5 hS, St.m6 hS, St.m7 hS, St.m8 hS, St.m9 hS, St.m10 hS, St.m11 hS, St.m12 hS, St.m13 hS, St.m14 hS, St.m15 hS, St.m16 hS, St.m17 hS, St.m18 hS, St.m19 hS, St.n4 hS, St.n9 hS, St.n10 hS, St.n12 hS, St.n13 hS, St.n17 hS, St.n18 hS, St.n28 hS, St.n30 hS, F_L_566, F_X11_on, F_X12_on, hrec, F_X11_on_19, F_X11_on_37, F_X12_on_24, goOn_0, go0, F_X12_keeps_eq, F_X12_goesBack_eq, goesOn_0, cpy_at, F_X12_goodBy, F_X11_startSteps, F_X3_takes, g0, g1, g2, g3, g4, g5, hw]
theorem l_when (hS : St σ ρ) (hrec : ∀ N K len σ ρ, rec N K len σ ρ 6 = some ()) : F_L_704 xs 6 rec N K len σ ρ 0 = some () := by
  rcases wi_01 (xs 2) 0 1 with h0 | h0
  · simp (decide := true) [gd_in, nm_eq, gd_true, bn_some, bn2_some, bn3_some, bnT_some, oc_none, oc_some, bn_ite, bn2_ite, bn3_ite, F_X12_isCutter_eq, F_X12_in_eq, F_X11_isWithin_eq, F_X11_isThick_eq, F_X11_isSlope_eq, wi_e, inb_1, inb_2, inb_3, inb_4, inb_5, s2_at, cutterAt_0 (St.c1 hS), St.c1 hS, St.c4 hS, St.c6 hS, St.c10 hS, St.c13 hS, St.c02 hS, St.t1 hS, St.l0 hS, St.l1 hS, St.l2 hS, St.l3 hS, St.l4 hS, St.l5 hS, St.b0 hS, St.b1 hS, St.m0 hS, St.m1 hS, St.m2 hS, St.m3 hS, St.m4 hS, St.m5 hS, St.m6 hS, St.m7 hS, St.m8 hS, St.m9 hS, St.m10 hS, St.m11 hS, St.m12 hS, St.m13 hS, St.m14 hS, St.m15 hS, St.m16 hS, St.m17 hS, St.m18 hS, St.m19 hS, St.n4 hS, St.n9 hS, St.n10 hS, St.n12 hS, St.n13 hS, St.n17 hS, St.n18 hS, St.n28 hS, St.n30 hS, F_L_704, F_X11_when, F_X12_when, hrec, h0]
  rcases wi_01 (xs 1) 1 20 with h1 | h1
  · simp (decide := true) [gd_in, nm_eq, gd_true, bn_some, bn2_some, bn3_some, bnT_some, oc_none, oc_some, bn_ite, bn2_ite, bn3_ite, F_X12_isCutter_eq, F_X12_in_eq, F_X11_isWithin_eq, F_X11_isThick_eq, F_X11_isSlope_eq, wi_e, inb_1, inb_2, inb_3, inb_4, inb_5, s2_at, cutterAt_0 (St.c1 hS), St.c1 hS, St.c4 hS, St.c6 hS, St.c10 hS, St.c13 hS, St.c02 hS, St.t1 hS, St.l0 hS, St.l1 hS, St.l2 hS, St.l3 hS, St.l4 hS, St.l5 hS, St.b0 hS, St.b1 hS, St.m0 hS, St.m1 hS, St.m2 hS, St.m3 hS, St.m4 hS, St.m5 hS, St.m6 hS, St.m7 hS, St.m8 hS, St.m9 hS, St.m10 hS, St.m11 hS, St.m12 hS, St.m13 hS, St.m14 hS, St.m15 hS, St.m16 hS, St.m17 hS, St.m18 hS, St.m19 hS, St.n4 hS, St.n9 hS, St.n10 hS, St.n12 hS, St.n13 hS, St.n17 hS, St.n18 hS, St.n28 hS, St.n30 hS, F_L_704, F_X11_when, F_X12_when, hrec, h0, h1]
  have hw := wi_one h1
  have e1 : (1 : Int32).toInt = 1 := by decide
  have e20 : (20 : Int32).toInt = 20 := by decide
  have ha : xs 1 = Int32.ofNat (0 + (xs 1).toInt.toNat) := by
    have hn : (xs 1).toInt = ((0 + (xs 1).toInt.toNat : Nat) : Int) := by omega
    exact (Int32.ofInt_toInt _).symm.trans (congrArg Int32.ofInt hn)
  obtain ⟨σ1, q1, q2, q3⟩ := when_x0 (xs 1) (xs 2) ρ (xs 1).toInt.toNat 0 1024 (go0 σ) hS.c1 (by omega) (by omega) ha
  have q1 : F_X11_when_44 (xs 1) (xs 2) 1024 (go0 σ) ρ (xs 1) (xs 2) 0 (-5) 0 = some (-5, σ1) := q1
  have h55 : σ1 55 = σ 55 := (q3 55 (by decide)).trans rfl
  have h11 : cpy σ1 55 57 11 55 11 = 0 := by
    rw [show cpy σ1 55 57 11 55 11 = σ1 55 11 from rfl, h55, hS.m11]
  obtain ⟨σ2, q4, q5⟩ := goodBy_0 ρ (xs 1) (-1) h11
  obtain ⟨σ3, q6⟩ := when_m0 (xs 1) (xs 2) ρ (xs 1).toInt.toNat 0 1024 σ2 q5 (by omega) (by omega) ha
  have q6 : F_X12_when_42 (xs 1) (xs 2) 1024 σ2 ρ (xs 1) (xs 2) 0 (-5) 0 = some (-5, σ3) := q6
  have g13 : go0 σ 0 13 = 0 := rfl
  simp (decide := true) [gd_in, nm_eq, gd_true, bn_some, bn2_some, bn3_some, bnT_some, oc_none, oc_some, bn_ite, bn2_ite, bn3_ite, F_X12_isCutter_eq, F_X12_in_eq, F_X11_isWithin_eq, F_X11_isThick_eq, F_X11_isSlope_eq, wi_e, inb_1, inb_2, inb_3, inb_4, inb_5, s2_at, cutterAt_0 (St.c1 hS), St.c1 hS, St.c4 hS, St.c6 hS, St.c10 hS, St.c13 hS, St.c02 hS, St.t1 hS, St.l0 hS, St.l1 hS, St.l2 hS, St.l3 hS, St.l4 hS, St.l5 hS, St.b0 hS, St.b1 hS, St.m0 hS, St.m1 hS, St.m2 hS, St.m3 hS, St.m4 hS, St.m5 hS, St.m6 hS, St.m7 hS, St.m8 hS, St.m9 hS, St.m10 hS, St.m11 hS, St.m12 hS, St.m13 hS, St.m14 hS, St.m15 hS, St.m16 hS, St.m17 hS, St.m18 hS, St.m19 hS, St.n4 hS, St.n9 hS, St.n10 hS, St.n12 hS, St.n13 hS, St.n17 hS, St.n18 hS, St.n28 hS, St.n30 hS, F_L_704, F_X11_when, F_X12_when, hrec, h0, h1, goOn_0, g13, q1, F_X12_keeps_eq, q4, q6]
theorem l_cutter (hS : St σ ρ) (hrec : ∀ N K len σ ρ, rec N K len σ ρ 6 = some ()) : F_L_240 xs 6 rec 65 K len σ ρ 0 = some () := by
  rcases wi_01 (xs 1) 0 6 with h1 | h1
  · (unfold F_L_240 F_X11_cutter F_X12_cutter; simp (decide := true) [gd_in, nm_eq_p, gd_true_p, bn_some_p, bn2_some_p, bn3_some_p, bnT_some_p, oc_none_p, oc_some_p, bn_ite, bn2_ite, bn3_ite, F_X12_isCutter_eq, F_X12_in_eq, F_X11_isWithin_eq, F_X11_isThick_eq, F_X11_isSlope_eq, wi_e, inb_1, inb_2, inb_3, inb_4, inb_5, s2_at, h1, hrec])
  rcases wi_01 (xs 2) 0 9 with h2 | h2
  · (unfold F_L_240 F_X11_cutter F_X12_cutter; simp (decide := true) [gd_in, nm_eq_p, gd_true_p, bn_some_p, bn2_some_p, bn3_some_p, bnT_some_p, oc_none_p, oc_some_p, bn_ite, bn2_ite, bn3_ite, F_X12_isCutter_eq, F_X12_in_eq, F_X11_isWithin_eq, F_X11_isThick_eq, F_X11_isSlope_eq, wi_e, inb_1, inb_2, inb_3, inb_4, inb_5, s2_at, h1, h2, hrec])
  rcases wi_01 (xs 3) (-9) 9 with h3 | h3
  · (unfold F_L_240 F_X11_cutter F_X12_cutter; simp (decide := true) [gd_in, nm_eq_p, gd_true_p, bn_some_p, bn2_some_p, bn3_some_p, bnT_some_p, oc_none_p, oc_some_p, bn_ite, bn2_ite, bn3_ite, F_X12_isCutter_eq, F_X12_in_eq, F_X11_isWithin_eq, F_X11_isThick_eq, F_X11_isSlope_eq, wi_e, inb_1, inb_2, inb_3, inb_4, inb_5, s2_at, h1, h2, h3, hrec])
  rcases wi_01 (xs 4) (-9) 9 with h4 | h4
  · (unfold F_L_240 F_X11_cutter F_X12_cutter; simp (decide := true) [gd_in, nm_eq_p, gd_true_p, bn_some_p, bn2_some_p, bn3_some_p, bnT_some_p, oc_none_p, oc_some_p, bn_ite, bn2_ite, bn3_ite, F_X12_isCutter_eq, F_X12_in_eq, F_X11_isWithin_eq, F_X11_isThick_eq, F_X11_isSlope_eq, wi_e, inb_1, inb_2, inb_3, inb_4, inb_5, s2_at, h1, h2, h3, h4, hrec])
  rcases wi_01 (xs 5) 1 40 with h5 | h5
  · (unfold F_L_240 F_X11_cutter F_X12_cutter; simp (decide := true) [gd_in, nm_eq_p, gd_true_p, bn_some_p, bn2_some_p, bn3_some_p, bnT_some_p, oc_none_p, oc_some_p, bn_ite, bn2_ite, bn3_ite, F_X12_isCutter_eq, F_X12_in_eq, F_X11_isWithin_eq, F_X11_isThick_eq, F_X11_isSlope_eq, wi_e, inb_1, inb_2, inb_3, inb_4, inb_5, s2_at, h1, h2, h3, h4, h5, hrec])
  obtain ⟨N', K', L', σ', ρ', q1, q2, q3⟩ := newCutter_65 (xs 1) 0 (xs 2) (xs 3) (xs 4) (xs 5) K len σ ρ
  have c1 : σ' 1 1 = 0 := by rw [q2]; exact hS.c1
  have c2 : σ' 55 11 = 0 := by rw [q3]; exact hS.m11
  have hx : F_X11_cutter (xs 1) (xs 2) (xs 3) (xs 4) (xs 5) 65 K len σ ρ = some (0, N', K', L', s2 σ' 1 1 1, r2 ρ' 2 0 (some 65)) := by
    unfold F_X11_cutter
    simp (decide := true) [gd_in, nm_eq_p, gd_true_p, bn_some_p, bn2_some_p, bn3_some_p, bnT_some_p, oc_none_p, oc_some_p, bn_ite, bn2_ite, bn3_ite, F_X12_isCutter_eq, F_X12_in_eq, F_X11_isWithin_eq, F_X11_isThick_eq, F_X11_isSlope_eq, wi_e, inb_1, inb_2, inb_3, inb_4, inb_5, s2_at, h1, h2, h3, h4, h5, q1, c1, hS.c1]
  obtain ⟨σ2, hm⟩ := mcutter_0 (σ := s2 σ' 1 1 1) (r2 ρ' 2 0 (some 65)) h1 h2 h3 h4 h5 c2
  unfold F_L_240
  simp (decide := true) [gd_in, nm_eq_p, gd_true_p, bn_some_p, bn2_some_p, bn3_some_p, bnT_some_p, oc_none_p, oc_some_p, bn_ite, bn2_ite, bn3_ite, F_X12_isCutter_eq, F_X12_in_eq, F_X11_isWithin_eq, F_X11_isThick_eq, F_X11_isSlope_eq, wi_e, inb_1, inb_2, inb_3, inb_4, inb_5, s2_at, hx, hm, hrec]
theorem l_book (hS : St σ ρ) (hrec : ∀ N K len σ ρ, rec N K len σ ρ 6 = some ()) : F_L_1065 xs 6 rec N K len σ ρ 0 = some () := by
  by_cases h : xs 1 = -1 <;> simp (decide := true) [gd_in, nm_eq, gd_true, bn_some, bn2_some, bn3_some, bnT_some, oc_none, oc_some, bn_ite, bn2_ite, bn3_ite, F_X12_isCutter_eq, F_X12_in_eq, F_X11_isWithin_eq, F_X11_isThick_eq, F_X11_isSlope_eq, wi_e, inb_1, inb_2, inb_3, inb_4, inb_5, s2_at, cutterAt_0 (St.c1 hS), St.c1 hS, St.c4 hS, St.c6 hS, St.c10 hS, St.c13 hS, St.c02 hS, St.t1 hS, St.l0 hS, St.l1 hS, St.l2 hS, St.l3 hS, St.l4 hS, St.l5 hS, St.b0 hS, St.b1 hS, St.m0 hS, St.m1 hS, St.m2 hS, St.m3 hS, St.m4 hS, St.m5 hS, St.m6 hS, St.m7 hS, St.m8 hS, St.m9 hS, St.m10 hS, St.m11 hS, St.m12 hS, St.m13 hS, St.m14 hS, St.m15 hS, St.m16 hS, St.m17 hS, St.m18 hS, St.m19 hS, St.n4 hS, St.n9 hS, St.n10 hS, St.n12 hS, St.n13 hS, St.n17 hS, St.n18 hS, St.n28 hS, St.n30 hS, F_L_1065, F_X11_book, F_X12_book, hrec, h]
end CASES
theorem F_L_18_s (xs : Nat → Int32) (L n N : Nat) (K len : Nat → Nat) (σ : SG) (ρ : RG) (v3 : Int32) : F_L_18 xs L (n + 1) N K len σ ρ v3 =
  (nm (Int32.ofNat L - (6 : Int32)) fun x1 =>
  if x1 < v3 then some () else
  gd (inb v3 L) <|
  nm (xs v3.toNatClampNeg &&& (63 : Int32)) fun x2 =>
  if x2 = 0 then F_L_204 xs L (F_L_18 xs L n) N K len σ ρ v3 else
  if x2 = 1 then F_L_227 xs L (F_L_18 xs L n) N K len σ ρ v3 else
  if x2 = 2 then F_L_240 xs L (F_L_18 xs L n) N K len σ ρ v3 else
  if x2 = 3 then F_L_303 xs L (F_L_18 xs L n) N K len σ ρ v3 else
  if x2 = 4 then F_L_336 xs L (F_L_18 xs L n) N K len σ ρ v3 else
  if x2 = 5 then F_L_369 xs L (F_L_18 xs L n) N K len σ ρ v3 else
  if x2 = 6 then F_L_412 xs L (F_L_18 xs L n) N K len σ ρ v3 else
  if x2 = 7 then F_L_435 xs L (F_L_18 xs L n) N K len σ ρ v3 else
  if x2 = 8 then F_L_458 xs L (F_L_18 xs L n) N K len σ ρ v3 else
  if x2 = 9 then F_L_481 xs L (F_L_18 xs L n) N K len σ ρ v3 else
  if x2 = 10 then F_L_494 xs L (F_L_18 xs L n) N K len σ ρ v3 else
  if x2 = 11 then F_L_533 xs L (F_L_18 xs L n) N K len σ ρ v3 else
  if x2 = 12 then F_L_566 xs L (F_L_18 xs L n) N K len σ ρ v3 else
  if x2 = 13 then F_L_599 xs L (F_L_18 xs L n) N K len σ ρ v3 else
  if x2 = 14 then F_L_632 xs L (F_L_18 xs L n) N K len σ ρ v3 else
  if x2 = 15 then F_L_645 xs L (F_L_18 xs L n) N K len σ ρ v3 else
  if x2 = 16 then F_L_668 xs L (F_L_18 xs L n) N K len σ ρ v3 else
  if x2 = 17 then F_L_681 xs L (F_L_18 xs L n) N K len σ ρ v3 else
  if x2 = 18 then F_L_704 xs L (F_L_18 xs L n) N K len σ ρ v3 else
  if x2 = 19 then F_L_737 xs L (F_L_18 xs L n) N K len σ ρ v3 else
  if x2 = 20 then F_L_760 xs L (F_L_18 xs L n) N K len σ ρ v3 else
  if x2 = 21 then F_L_783 xs L (F_L_18 xs L n) N K len σ ρ v3 else
  if x2 = 22 then F_L_816 xs L (F_L_18 xs L n) N K len σ ρ v3 else
  if x2 = 23 then F_L_869 xs L (F_L_18 xs L n) N K len σ ρ v3 else
  if x2 = 24 then F_L_902 xs L (F_L_18 xs L n) N K len σ ρ v3 else
  if x2 = 25 then F_L_935 xs L (F_L_18 xs L n) N K len σ ρ v3 else
  if x2 = 26 then F_L_948 xs L (F_L_18 xs L n) N K len σ ρ v3 else
  if x2 = 27 then F_L_971 xs L (F_L_18 xs L n) N K len σ ρ v3 else
  if x2 = 28 then F_L_984 xs L (F_L_18 xs L n) N K len σ ρ v3 else
  if x2 = 29 then F_L_1007 xs L (F_L_18 xs L n) N K len σ ρ v3 else
  if x2 = 30 then F_L_1041 xs L (F_L_18 xs L n) N K len σ ρ v3 else
  if x2 = 31 then F_L_1065 xs L (F_L_18 xs L n) N K len σ ρ v3 else
  if x2 = 32 then F_L_1098 xs L (F_L_18 xs L n) N K len σ ρ v3 else
  if x2 = 33 then F_L_1111 xs L (F_L_18 xs L n) N K len σ ρ v3 else
  if x2 = 34 then F_L_1154 xs L (F_L_18 xs L n) N K len σ ρ v3 else
  if x2 = 35 then F_L_1177 xs L (F_L_18 xs L n) N K len σ ρ v3 else
  if x2 = 36 then F_L_1210 xs L (F_L_18 xs L n) N K len σ ρ v3 else
  if x2 = 37 then F_L_1223 xs L (F_L_18 xs L n) N K len σ ρ v3 else
  if x2 = 38 then F_L_1236 xs L (F_L_18 xs L n) N K len σ ρ v3 else
  nm (v3 + (6 : Int32)) fun x3 =>
  F_L_18 xs L n N K len σ ρ x3) := rfl
theorem law_6 {xs : Nat → Int32} {K len : Nat → Nat} {σ : SG} {ρ : RG} (hS : St σ ρ) : F_L_18 xs 6 2 65 K len σ ρ 0 = some () := by
  have hrec : ∀ N K len σ ρ, F_L_18 xs 6 1 N K len σ ρ 6 = some () := fun N K len σ ρ => by
    rw [F_L_18_s, nm_eq, if_pos (by decide)]
  show F_L_18 xs 6 (1 + 1) 65 K len σ ρ 0 = some ()
  rw [F_L_18_s, nm_eq, if_neg (by decide), show inb 0 6 = true by decide, gd_true, nm_eq]
  by_cases h0 : xs (0 : Int32).toNatClampNeg &&& 63 = 0
  · rw [if_pos h0]; exact l_feed hS hrec
  rw [if_neg h0]
  by_cases h1 : xs (0 : Int32).toNatClampNeg &&& 63 = 1
  · rw [if_pos h1]; exact l_board hS hrec
  rw [if_neg h1]
  by_cases h2 : xs (0 : Int32).toNatClampNeg &&& 63 = 2
  · rw [if_pos h2]; exact l_cutter hS hrec
  rw [if_neg h2]
  by_cases h3 : xs (0 : Int32).toNatClampNeg &&& 63 = 3
  · rw [if_pos h3]; exact l_of hS hrec
  rw [if_neg h3]
  by_cases h4 : xs (0 : Int32).toNatClampNeg &&& 63 = 4
  · rw [if_pos h4]; exact l_thick hS hrec
  rw [if_neg h4]
  by_cases h5 : xs (0 : Int32).toNatClampNeg &&& 63 = 5
  · rw [if_pos h5]; exact l_row hS hrec
  rw [if_neg h5]
  by_cases h6 : xs (0 : Int32).toNatClampNeg &&& 63 = 6
  · rw [if_pos h6]; exact l_loaf hS hrec
  rw [if_neg h6]
  by_cases h7 : xs (0 : Int32).toNatClampNeg &&& 63 = 7
  · rw [if_pos h7]; exact l_told hS hrec
  rw [if_neg h7]
  by_cases h8 : xs (0 : Int32).toNatClampNeg &&& 63 = 8
  · rw [if_pos h8]; exact l_cut hS hrec
  rw [if_neg h8]
  by_cases h9 : xs (0 : Int32).toNatClampNeg &&& 63 = 9
  · rw [if_pos h9]; exact l_right hS hrec
  rw [if_neg h9]
  by_cases h10 : xs (0 : Int32).toNatClampNeg &&& 63 = 10
  · rw [if_pos h10]; exact l_turn hS hrec
  rw [if_neg h10]
  by_cases h11 : xs (0 : Int32).toNatClampNeg &&& 63 = 11
  · rw [if_pos h11]; exact l_would hS hrec
  rw [if_neg h11]
  by_cases h12 : xs (0 : Int32).toNatClampNeg &&& 63 = 12
  · rw [if_pos h12]; exact l_on hS hrec
  rw [if_neg h12]
  by_cases h13 : xs (0 : Int32).toNatClampNeg &&& 63 = 13
  · rw [if_pos h13]; exact l_toasted hS hrec
  rw [if_neg h13]
  by_cases h14 : xs (0 : Int32).toNatClampNeg &&& 63 = 14
  · rw [if_pos h14]; exact l_lasts hS hrec
  rw [if_neg h14]
  by_cases h15 : xs (0 : Int32).toNatClampNeg &&& 63 = 15
  · rw [if_pos h15]; exact l_order hS hrec
  rw [if_neg h15]
  by_cases h16 : xs (0 : Int32).toNatClampNeg &&& 63 = 16
  · rw [if_pos h16]; exact l_cancel hS hrec
  rw [if_neg h16]
  by_cases h17 : xs (0 : Int32).toNatClampNeg &&& 63 = 17
  · rw [if_pos h17]; exact l_enough hS hrec
  rw [if_neg h17]
  by_cases h18 : xs (0 : Int32).toNatClampNeg &&& 63 = 18
  · rw [if_pos h18]; exact l_when hS hrec
  rw [if_neg h18]
  by_cases h19 : xs (0 : Int32).toNatClampNeg &&& 63 = 19
  · rw [if_pos h19]; exact l_guide hS hrec
  rw [if_neg h19]
  by_cases h20 : xs (0 : Int32).toNatClampNeg &&& 63 = 20
  · rw [if_pos h20]; exact l_again hS hrec
  rw [if_neg h20]
  by_cases h21 : xs (0 : Int32).toNatClampNeg &&& 63 = 21
  · rw [if_pos h21]; exact l_evener hS hrec
  rw [if_neg h21]
  by_cases h22 : xs (0 : Int32).toNatClampNeg &&& 63 = 22
  · rw [if_pos h22]; exact l_game hS hrec
  rw [if_neg h22]
  by_cases h23 : xs (0 : Int32).toNatClampNeg &&& 63 = 23
  · rw [if_pos h23]; exact l_cheese hS hrec
  rw [if_neg h23]
  by_cases h24 : xs (0 : Int32).toNatClampNeg &&& 63 = 24
  · rw [if_pos h24]; exact l_see hS hrec
  rw [if_neg h24]
  by_cases h25 : xs (0 : Int32).toNatClampNeg &&& 63 = 25
  · rw [if_pos h25]; exact l_who hS hrec
  rw [if_neg h25]
  by_cases h26 : xs (0 : Int32).toNatClampNeg &&& 63 = 26
  · rw [if_pos h26]; exact l_week hS hrec
  rw [if_neg h26]
  by_cases h27 : xs (0 : Int32).toNatClampNeg &&& 63 = 27
  · rw [if_pos h27]; exact l_clear hS hrec
  rw [if_neg h27]
  by_cases h28 : xs (0 : Int32).toNatClampNeg &&& 63 = 28
  · rw [if_pos h28]; exact l_rows hS hrec
  rw [if_neg h28]
  by_cases h29 : xs (0 : Int32).toNatClampNeg &&& 63 = 29
  · rw [if_pos h29]; exact l_odds hS hrec
  rw [if_neg h29]
  by_cases h30 : xs (0 : Int32).toNatClampNeg &&& 63 = 30
  · rw [if_pos h30]; exact l_mean hS hrec
  rw [if_neg h30]
  by_cases h31 : xs (0 : Int32).toNatClampNeg &&& 63 = 31
  · rw [if_pos h31]; exact l_book hS hrec
  rw [if_neg h31]
  by_cases h32 : xs (0 : Int32).toNatClampNeg &&& 63 = 32
  · rw [if_pos h32]; exact l_looked hS hrec
  rw [if_neg h32]
  by_cases h33 : xs (0 : Int32).toNatClampNeg &&& 63 = 33
  · rw [if_pos h33]; exact l_act hS hrec
  rw [if_neg h33]
  by_cases h34 : xs (0 : Int32).toNatClampNeg &&& 63 = 34
  · rw [if_pos h34]; exact l_trace hS hrec
  rw [if_neg h34]
  by_cases h35 : xs (0 : Int32).toNatClampNeg &&& 63 = 35
  · rw [if_pos h35]; exact l_as hS hrec
  rw [if_neg h35]
  by_cases h36 : xs (0 : Int32).toNatClampNeg &&& 63 = 36
  · rw [if_pos h36]; exact l_image hS hrec
  rw [if_neg h36]
  by_cases h37 : xs (0 : Int32).toNatClampNeg &&& 63 = 37
  · rw [if_pos h37]; exact l_undo hS hrec
  rw [if_neg h37]
  by_cases h38 : xs (0 : Int32).toNatClampNeg &&& 63 = 38
  · rw [if_pos h38]; exact l_count hS hrec
  rw [if_neg h38]
  rw [nm_eq]
  exact hrec _ _ _ _ _
theorem ini_St : St ini2.1 ini2.2 := ⟨rfl, rfl, rfl, rfl, rfl, rfl, rfl, rfl, rfl, rfl, rfl, rfl, rfl, rfl, rfl, fun _ => rfl, fun _ => rfl, rfl, rfl, rfl, rfl, rfl, rfl, rfl, rfl, rfl, rfl, rfl, rfl, rfl, rfl, rfl, rfl, rfl, rfl, rfl, rfl, rfl, rfl, rfl, rfl, rfl, rfl, rfl, rfl, rfl⟩
theorem law_short {L : Nat} {xs : Nat → Int32} {K len : Nat → Nat} {σ : SG} {ρ : RG} (hL : L < 6) : F_L_18 xs L 2 65 K len σ ρ 0 = some () := by
  show F_L_18 xs L (1 + 1) 65 K len σ ρ 0 = some ()
  rw [F_L_18_s, nm_eq, if_pos]
  match L, hL with
  | 0, _ => decide
  | 1, _ => decide
  | 2, _ => decide
  | 3, _ => decide
  | 4, _ => decide
  | 5, _ => decide
  | L + 6, h => exact absurd h (by omega)
theorem law_pure {L : Nat} {xs : Nat → Int32} (hL : L ≤ 6) : F_L_18 xs L 2 65 kind0 len0 ini2.1 ini2.2 0 = some () := by
  by_cases h : L < 6
  · exact law_short h
  · have : L = 6 := by omega
    subst this
    exact law_6 ini_St
