/-! PART 63.saf: what it means that a function F answers, step by step; ranges of ints; the box of the world -/
def ok {α : Type} (o : Option α) (P : α → Prop) : Prop := ∃ a, o = some a ∧ P a
theorem ok_some {α : Type} {a : α} {P : α → Prop} (h : P a) : ok (some a) P := ⟨a, rfl, h⟩
theorem ok_nm {α β : Type} {v : α} {f : α → Option β} {P : β → Prop} (h : ∀ x, x = v → ok (f x) P) : ok (nm v f) P := h v rfl
theorem ok_gd {α : Type} {b : Bool} {x : Option α} {P : α → Prop} (hb : b = true) (h : ok x P) : ok (gd b x) P := by subst hb; exact h
theorem ok_bn {α β : Type} {o : Option α} {f : α → Option β} {Q : α → Prop} {P : β → Prop} (ho : ok o Q) (h : ∀ a, Q a → ok (f a) P) : ok (bn o f) P := by
  obtain ⟨a, rfl, q⟩ := ho
  exact h a q
theorem ok_bn2 {α β γ : Type} {o : Option (α × β)} {f : α → β → Option γ} {Q : α × β → Prop} {P : γ → Prop} (ho : ok o Q) (h : ∀ a b, Q (a, b) → ok (f a b) P) : ok (bn2 o f) P := by
  obtain ⟨⟨a, b⟩, rfl, q⟩ := ho
  exact h a b q
theorem ok_bn3 {α β γ δ : Type} {o : Option (α × β × γ)} {f : α → β → γ → Option δ} {Q : α × β × γ → Prop} {P : δ → Prop} (ho : ok o Q) (h : ∀ a b c, Q (a, b, c) → ok (f a b c) P) : ok (bn3 o f) P := by
  obtain ⟨⟨a, b, c⟩, rfl, q⟩ := ho
  exact h a b c q
theorem ok_bnT {α γ : Type} {o : Option (α × TT)} {f : α → Nat → (Nat → Nat) → (Nat → Nat) → SG → RG → Option γ} {Q : α × TT → Prop} {P : γ → Prop} (ho : ok o Q) (h : ∀ a N K len σ ρ, Q (a, N, K, len, σ, ρ) → ok (f a N K len σ ρ) P) : ok (bnT o f) P := by
  obtain ⟨⟨a, N, K, len, σ, ρ⟩, rfl, q⟩ := ho
  exact h a N K len σ ρ q
theorem ok_if {α : Type} {c : Prop} [Decidable c] {x y : Option α} {P : α → Prop} (h1 : c → ok x P) (h2 : ¬ c → ok y P) : ok (if c then x else y) P := by
  by_cases h : c
  · rw [if_pos h]; exact h1 h
  · rw [if_neg h]; exact h2 h
theorem ok_oc {β : Type} {x : Option Nat} {a : Option β} {f : Nat → Option β} {P : β → Prop} (h1 : x = none → ok a P) (h2 : ∀ c, x = some c → ok (f c) P) : ok (oc x a f) P := by
  cases x with
  | none => exact h1 rfl
  | some c => exact h2 c rfl
theorem ok_mono {α : Type} {o : Option α} {P Q : α → Prop} (h : ok o P) (hpq : ∀ a, P a → Q a) : ok o Q := by
  obtain ⟨a, e, q⟩ := h
  exact ⟨a, e, hpq a q⟩
/-! ranges -/
def rg (x : Int32) (l h : Int) : Prop := l ≤ x.toInt ∧ x.toInt ≤ h
theorem rg_any (x : Int32) : rg x (-2147483648) 2147483647 := ⟨by have := x.le_toInt; omega, by have := x.toInt_lt; omega⟩
theorem rg_w {x : Int32} {l h l' h' : Int} (H : rg x l h) (a : l' ≤ l) (b : h ≤ h') : rg x l' h' := ⟨Int.le_trans a H.1, Int.le_trans H.2 b⟩
theorem rg_eq {x y : Int32} {l h : Int} (e : x = y) (H : rg y l h) : rg x l h := e ▸ H
theorem bmod_id {z : Int} (a : -2147483648 ≤ z) (b : z ≤ 2147483647) : z.bmod (2 ^ 32) = z := Int.bmod_eq_of_le (by omega) (by omega)
theorem ti_add {a b : Int32} (h1 : -2147483648 ≤ a.toInt + b.toInt) (h2 : a.toInt + b.toInt ≤ 2147483647) : (a + b).toInt = a.toInt + b.toInt := by rw [Int32.toInt_add, bmod_id h1 h2]
theorem ti_sub {a b : Int32} (h1 : -2147483648 ≤ a.toInt - b.toInt) (h2 : a.toInt - b.toInt ≤ 2147483647) : (a - b).toInt = a.toInt - b.toInt := by rw [Int32.toInt_sub, bmod_id h1 h2]
theorem rg_add {a b : Int32} {l1 h1 l2 h2 l h : Int} (ha : rg a l1 h1) (hb : rg b l2 h2) (c1 : l ≤ l1 + l2) (c2 : h1 + h2 ≤ h) (c3 : -2147483648 ≤ l) (c4 : h ≤ 2147483647) : rg (a + b) l h := by
  obtain ⟨a1, a2⟩ := ha
  obtain ⟨b1, b2⟩ := hb
  unfold rg
  rw [ti_add (by omega) (by omega)]
  omega
theorem rg_sub {a b : Int32} {l1 h1 l2 h2 l h : Int} (ha : rg a l1 h1) (hb : rg b l2 h2) (c1 : l ≤ l1 - h2) (c2 : h1 - l2 ≤ h) (c3 : -2147483648 ≤ l) (c4 : h ≤ 2147483647) : rg (a - b) l h := by
  obtain ⟨a1, a2⟩ := ha
  obtain ⟨b1, b2⟩ := hb
  unfold rg
  rw [ti_sub (by omega) (by omega)]
  omega
theorem rg_mul {a b : Int32} {l1 h1 l2 h2 h : Int} (ha : rg a l1 h1) (hb : rg b l2 h2) (c1 : 0 ≤ l1) (c2 : 0 ≤ l2) (c3 : h1 * h2 ≤ h) (c4 : h ≤ 2147483647) : rg (a * b) 0 h := by
  obtain ⟨a1, a2⟩ := ha
  obtain ⟨b1, b2⟩ := hb
  have p0 : 0 ≤ a.toInt * b.toInt := Int.mul_nonneg (by omega) (by omega)
  have p1 : a.toInt * b.toInt ≤ h1 * h2 := Int.mul_le_mul a2 b2 (by omega) (by omega)
  unfold rg
  rw [Int32.toInt_mul, bmod_id (by omega) (by omega)]
  omega
theorem rg_neg {a : Int32} {l1 h1 l h : Int} (ha : rg a l1 h1) (c1 : l ≤ -h1) (c2 : -l1 ≤ h) (c3 : -2147483648 ≤ l) (c4 : h ≤ 2147483647) : rg (-a) l h := by
  obtain ⟨a1, a2⟩ := ha
  unfold rg
  rw [Int32.toInt_neg, bmod_id (by omega) (by omega)]
  omega
/-- a quotient by a number above 0 -/
theorem ti_div {a b : Int32} (hb : 0 < b.toInt) : (a / b).toInt = a.toInt.tdiv b.toInt := Int32.toInt_div_of_ne_right a b (fun e => by subst e; exact absurd hb (by decide))
theorem rg_div {a b : Int32} {l1 h1 l2 h2 : Int} (ha : rg a l1 h1) (hb : rg b l2 h2) (c1 : 0 ≤ l1) (c2 : 1 ≤ l2) : rg (a / b) 0 h1 := by
  obtain ⟨a1, a2⟩ := ha
  obtain ⟨b1, b2⟩ := hb
  unfold rg
  rw [ti_div (by omega), Int.tdiv_eq_ediv_of_nonneg (by omega)]
  exact ⟨Int.ediv_nonneg (by omega) (by omega), Int.le_trans (Int.ediv_le_self _ (by omega)) a2⟩
theorem rg_divc {a b : Int32} {l1 h1 d h : Int} (ha : rg a l1 h1) (hb : rg b d d) (c1 : 0 ≤ l1) (c2 : 1 ≤ d) (c3 : h1 / d ≤ h) : rg (a / b) 0 h := by
  obtain ⟨a1, a2⟩ := ha
  have hb' : b.toInt = d := Int.le_antisymm hb.2 hb.1
  unfold rg
  rw [ti_div (by omega), hb', Int.tdiv_eq_ediv_of_nonneg (by omega)]
  exact ⟨Int.ediv_nonneg (by omega) (by omega), Int.le_trans (Int.ediv_le_ediv (by omega) a2) c3⟩
/-- a rest by a number above 0 -/
theorem ti_rem {a b : Int32} (hb : 0 < b.toInt) : (a - a / b * b).toInt = a.toInt.tmod b.toInt := by
  have h1 := Int.mul_tdiv_add_tmod a.toInt b.toInt
  have h2 := Int.tmod_lt_of_pos a.toInt hb
  have h3 : -b.toInt < a.toInt.tmod b.toInt := by
    have := Int.tmod_lt_of_pos (-a.toInt) hb
    rw [Int.neg_tmod] at this
    omega
  have h4 := b.toInt_lt
  rw [Int32.toInt_sub, Int32.toInt_mul, ti_div hb, Int.sub_bmod_bmod]
  have e : a.toInt - a.toInt.tdiv b.toInt * b.toInt = a.toInt.tmod b.toInt := by
    have := Int.mul_comm (a.toInt.tdiv b.toInt) b.toInt
    omega
  rw [e]
  exact bmod_id (by omega) (by omega)
theorem rg_rem {a b : Int32} {l2 h2 : Int} (hb : rg b l2 h2) (c2 : 1 ≤ l2) : rg (a - a / b * b) (1 - h2) (h2 - 1) := by
  obtain ⟨b1, b2⟩ := hb
  have hb' : 0 < b.toInt := by omega
  unfold rg
  rw [ti_rem hb']
  have h2 := Int.tmod_lt_of_pos a.toInt hb'
  have h3 : -b.toInt < a.toInt.tmod b.toInt := by
    have := Int.tmod_lt_of_pos (-a.toInt) hb'
    rw [Int.neg_tmod] at this
    omega
  omega
theorem rg_rem0 {a b : Int32} {l1 h1 l2 h2 : Int} (ha : rg a l1 h1) (hb : rg b l2 h2) (c1 : 0 ≤ l1) (c2 : 1 ≤ l2) : rg (a - a / b * b) 0 (h2 - 1) := by
  obtain ⟨b1, b2⟩ := hb
  obtain ⟨a1, a2⟩ := ha
  have hb' : 0 < b.toInt := by omega
  unfold rg
  rw [ti_rem hb']
  have h2 := Int.tmod_lt_of_pos a.toInt hb'
  have h3 : 0 ≤ a.toInt.tmod b.toInt := Int.tmod_nonneg _ (by omega)
  omega
/-! ranges by what was asked -/
theorem rg_lt {a b : Int32} {l1 h1 l2 h2 : Int} (c : a < b) (ha : rg a l1 h1) (hb : rg b l2 h2) : rg a l1 (h2 - 1) := ⟨ha.1, by have := Int32.lt_iff_toInt_lt.mp c; have := hb.2; omega⟩
theorem rg_gt {a b : Int32} {l1 h1 l2 h2 : Int} (c : a < b) (ha : rg a l1 h1) (hb : rg b l2 h2) : rg b (l1 + 1) h2 := ⟨by have := Int32.lt_iff_toInt_lt.mp c; have := ha.1; omega, hb.2⟩
theorem rg_le {a b : Int32} {l1 h1 l2 h2 : Int} (c : a ≤ b) (ha : rg a l1 h1) (hb : rg b l2 h2) : rg a l1 h2 := ⟨ha.1, by have := Int32.le_iff_toInt_le.mp c; have := hb.2; omega⟩
theorem rg_ge {a b : Int32} {l1 h1 l2 h2 : Int} (c : a ≤ b) (ha : rg a l1 h1) (hb : rg b l2 h2) : rg b l1 h2 := ⟨by have := Int32.le_iff_toInt_le.mp c; have := ha.1; omega, hb.2⟩
theorem nlt {a b : Int32} (c : ¬ a < b) : b ≤ a := Int32.le_iff_toInt_le.mpr (by have q : ¬ a.toInt < b.toInt := fun h => c (Int32.lt_iff_toInt_lt.mpr h); omega)
theorem nle {a b : Int32} (c : ¬ a ≤ b) : b < a := Int32.lt_iff_toInt_lt.mpr (by have q : ¬ a.toInt ≤ b.toInt := fun h => c (Int32.le_iff_toInt_le.mpr h); omega)
theorem rg_eql {a b : Int32} {l h : Int} (c : a = b) (hb : rg b l h) : rg a l h := c ▸ hb
theorem rg_eqr {a b : Int32} {l h : Int} (c : a = b) (ha : rg a l h) : rg b l h := c ▸ ha
theorem rg_both {a : Int32} {l1 h1 l2 h2 : Int} (x : rg a l1 h1) (y : rg a l2 h2) : rg a (max l1 l2) (min h1 h2) := ⟨by have := x.1; have := y.1; omega, by have := x.2; have := y.2; omega⟩
theorem rg_ne0 {a : Int32} {l h : Int} (x : rg a l h) (hl : 1 ≤ l) : decide (¬ a = 0) = true := by
  refine decide_eq_true (fun e => ?_)
  subst e
  have h1 : (1 : Int) ≤ (0 : Int32).toInt := Int.le_trans hl x.1
  exact absurd h1 (by decide)
theorem rg_inb {a : Int32} {l h : Int} {n : Nat} (x : rg a l h) (hl : 0 ≤ l) (hh : h < (n : Int)) : inb a n = true := decide_eq_true ⟨by have := x.1; omega, by have := x.2; omega⟩
theorem rg_isb {a : Int32} (x : rg a 0 1) : isb a = true := by
  have h : a.toInt = 0 ∨ a.toInt = 1 := by have := x.1; have := x.2; omega
  rcases h with h | h
  · have : a = 0 := Int32.toInt_inj.mp (by rw [h]; rfl)
    subst this; rfl
  · have : a = 1 := Int32.toInt_inj.mp (by rw [h]; rfl)
    subst this; rfl
theorem isb_rg {a : Int32} (h : isb a = true) : rg a 0 1 := by rcases isb_01 h with rfl | rfl <;> exact ⟨by decide, by decide⟩
theorem rg_cl {a : Int32} {l h : Int} (x : rg a l h) (hl : 0 ≤ l) : (a.toNatClampNeg : Int) = a.toInt := by
  show ((a.toInt.toNat : Nat) : Int) = a.toInt
  have := x.1
  omega
theorem rg_ite {c : Prop} [Decidable c] {a b : Int32} {l h : Int} (x : rg a l h) (y : rg b l h) : rg (if c then a else b) l h := by by_cases q : c <;> simp [q, x, y]
/-! a loop's measure -/
theorem ms_0 {v : Int32} {l h B : Int} {n : Nat} (x : rg v l h) (c : B - l < (n : Int)) : B - v.toInt < (n : Int) := by have := x.1; omega
theorem ms_s {v x : Int32} {l h B : Int} {n : Nat} (e : x = v + 1) (hv : rg v l h) (hl : -2147483648 ≤ l + 1) (hh : h + 1 ≤ 2147483647) (hm : B - v.toInt < ((n + 1 : Nat) : Int)) : B - x.toInt < (n : Int) := by
  have h1 := hv.1
  have h2 := hv.2
  have e1 : (1 : Int32).toInt = 1 := rfl
  rw [e, ti_add (by omega) (by omega), e1]
  omega
theorem ms_z {v : Int32} {l h B : Int} (x : rg v l h) (c : h ≤ B) (hm : B - v.toInt < ((0 : Nat) : Int)) : False := by have := x.2; omega
/-! the box of the world: object, fields from, to, least, greatest -/
def bndL : List (Nat × Nat × Nat × Int × Int) := [(1, 1, 1, 0, 6), (1, 6, 6, 0, 100), (1, 10, 10, 0, 4), (1, 13, 13, 0, 8), (14, 1, 1, 0, 6), (14, 6, 6, 0, 100), (14, 10, 10, 0, 4), (14, 13, 13, 0, 8), (29, 2, 2, 0, 10), (29, 7, 7, 0, 100), (8, 0, 9, 0, 100), (21, 0, 9, 0, 100), (32, 0, 9, 0, 100), (6, 0, 9, 0, 1), (19, 0, 9, 0, 1), (30, 0, 9, 0, 1), (10, 0, 99, -128, 127), (23, 0, 99, -128, 127),
  (55, 11, 11, 0, 6), (55, 12, 12, 0, 5), (55, 13, 13, 0, 4), (55, 14, 14, 0, 8), (55, 15, 15, 0, 100), (55, 16, 16, -1, 4), (55, 78, 85, 0, 5), (55, 204, 208, 0, 140), (56, 11, 11, 0, 6), (56, 12, 12, 0, 5), (56, 13, 13, 0, 4), (56, 14, 14, 0, 8), (56, 15, 15, 0, 100), (56, 16, 16, -1, 4), (56, 78, 85, 0, 5), (56, 204, 208, 0, 140)]
/-- what one step of a board's code makes of the height of the stack -/
def stepTop (c : Int32) (t : Nat) : Option Nat :=
  if 0 ≤ c.toInt then (if t < 64 ∧ c.toInt % 8 < 6 then some (t + 1) else none)
  else if c.toInt = -1 then (if 1 ≤ t ∧ t ≤ 64 then some t else none)
  else if -10 < c.toInt then (if 2 ≤ t ∧ t ≤ 64 then some (t - 1) else none)
  else some 0
/-- n steps from place i on, with a stack of height t: the height behind them -/
def simc (f : Nat → Int32) : Nat → Nat → Nat → Option Nat
  | 0, _, t => some t
  | n + 1, i, t => (stepTop (f i) t).bind (simc f n (i + 1))
/-- the board that holds: its code can be run -/
def WCf (f : Nat → Int32) : Prop := (∀ h : Nat, (f 16).toInt = (h : Int) → (h : Int) < (f 12).toInt ∧ (simc f (f (204 + h)).toNatClampNeg (209 + 140 * h) 0).isSome = true) ∧ ∀ c : Nat, (c : Int) < (f 11).toInt → 1 ≤ (f (44 + c)).toInt ∧ c < 6
theorem simc_congr {f g : Nat → Int32} : ∀ (n i t : Nat), (∀ k, i ≤ k → g k = f k) → simc g n i t = simc f n i t := by
  intro n
  induction n with
  | zero => intro i t _; rfl
  | succ n ih =>
    intro i t h
    show (stepTop (g i) t).bind (simc g n (i + 1)) = (stepTop (f i) t).bind (simc f n (i + 1))
    rw [h i (Nat.le_refl _)]
    congr 1
    funext z
    exact ih (i + 1) z (fun k hk => h k (by omega))
theorem WCf_congr {f g : Nat → Int32} (h : ∀ k, (k = 11 ∨ k = 12 ∨ k = 16 ∨ (44 ≤ k ∧ k ≤ 49) ∨ 204 ≤ k) → g k = f k) (w : WCf f) : WCf g := by
  refine ⟨fun q hq => ?_, fun c hc => ?_⟩
  rotate_left
  · rw [h 11 (by omega)] at hc
    have := w.2 c hc
    rw [h (44 + c) (by omega)]
    exact this
  rw [h 16 (by omega)] at hq
  obtain ⟨a, b⟩ := w.1 q hq
  rw [h 12 (by omega), h (204 + q) (by omega), simc_congr (f := f) (g := g) _ _ _ (fun k hk => h k (by omega))]
  exact ⟨a, b⟩
def BX (m : Int) (σ : SG) : Prop := (∀ q ∈ bndL, ∀ k, q.2.1 ≤ k → k ≤ q.2.2.1 → rg (σ q.1 k) q.2.2.2.1 q.2.2.2.2) ∧ rg (σ 54 30) 0 m ∧ WCf (σ 55) ∧ (σ 54 4 = 0 ∨ WCf (σ 56))
theorem bx_get {m : Int} {σ : SG} (hB : BX m σ) {r a b k : Nat} {l h : Int} (hq : (r, a, b, l, h) ∈ bndL) (ha : a ≤ k) (hb : k ≤ b) : rg (σ r k) l h := hB.1 (r, a, b, l, h) hq k ha hb
/-- may fields a to b of object r become what lies in l to h -/
def chk (r a b : Nat) (l h : Int) : Bool := bndL.all (fun q => !(q.1 == r) || Nat.blt q.2.2.1 a || Nat.blt b q.2.1 || (decide (q.2.2.2.1 ≤ l) && decide (h ≤ q.2.2.2.2))) && !(r == 54 && Nat.ble a 30 && Nat.ble 30 b) && !(r == 54 && Nat.ble a 4 && Nat.ble 4 b) && !(r == 55 && (Nat.ble 204 b || (Nat.ble a 12 && Nat.ble 12 b) || (Nat.ble a 16 && Nat.ble 16 b) || (Nat.ble a 11 && Nat.ble 11 b) || (Nat.ble a 49 && Nat.ble 44 b))) && !(r == 56)
theorem bx_seti {m : Int} {σ : SG} (hB : BX m σ) {r k a b : Nat} {v : Int32} {l h : Int} (ha : a ≤ k) (hb : k ≤ b) (hv : rg v l h) (hc : chk r a b l h = true) : BX m (s2 σ r k v) := by
  unfold chk at hc
  simp only [Bool.and_eq_true, List.all_eq_true, Bool.not_eq_true', Bool.or_eq_true, decide_eq_true_eq, Bool.and_eq_false_iff, Bool.or_eq_false_iff, beq_iff_eq, beq_eq_false_iff_ne, Nat.blt_eq, Nat.ble_eq] at hc
  obtain ⟨⟨⟨⟨c1, c2⟩, c3⟩, c4⟩, c5⟩ := hc
  have nb : ∀ x y : Nat, Nat.ble x y = false → y < x := fun x y q => by
    rcases Nat.lt_or_ge y x with z | z
    · exact z
    · rw [Nat.ble_eq.mpr z] at q; cases q
  refine ⟨fun q hq j h1 h2 => ?_, ?_, ?_, ?_⟩
  · rw [s2_at]
    by_cases e1 : q.1 = r
    · rw [if_pos e1]
      by_cases e2 : j = k
      · rw [if_pos e2]
        subst e2
        rcases c1 q hq with ((x | x) | x) | x
        · exact absurd e1 (by simpa using x)
        · omega
        · omega
        · exact rg_w hv x.1 x.2
      · rw [if_neg e2, ← e1]; exact hB.1 q hq j h1 h2
    · rw [if_neg e1]; exact hB.1 q hq j h1 h2
  · rw [s2_at]
    by_cases e1 : 54 = r
    · by_cases e2 : 30 = k
      · rcases c2 with (x | x) | x
        · exact absurd e1.symm x
        · have := nb _ _ x; omega
        · have := nb _ _ x; omega
      · rw [if_pos e1, if_neg e2, ← e1]; exact hB.2.1
    · rw [if_neg e1]; exact hB.2.1
  · by_cases e1 : r = 55
    · rcases c4 with x | ⟨⟨⟨⟨x, y⟩, z⟩, u⟩, u2⟩
      · exact absurd e1 x
      · have h204 := nb _ _ x
        have e2 : s2 σ r k v 55 = upd (σ 55) k v := by subst e1; exact s2_eq
        rw [e2]
        refine WCf_congr (f := σ 55) (fun j hj => ?_) hB.2.2.1
        unfold upd
        have hjk : j ≠ k := by
          rintro rfl
          rcases hj with rfl | rfl | rfl | hj | hj
          · rcases u with y | y <;> have := nb _ _ y <;> omega
          · rcases y with y | y <;> have := nb _ _ y <;> omega
          · rcases z with z | z <;> have := nb _ _ z <;> omega
          · rcases u2 with y | y <;> have := nb _ _ y <;> omega
          · omega
        simp [hjk]
    · rw [s2_ne 55 (fun e => e1 e.symm)]; exact hB.2.2.1
  · have e1 : s2 σ r k v 56 = σ 56 := s2_ne 56 (fun e => c5 e.symm)
    rw [e1, s2_at]
    by_cases e2 : 54 = r
    · by_cases e3 : 4 = k
      · rcases c3 with (x | x) | x
        · exact absurd e2.symm x
        · have := nb _ _ x; omega
        · have := nb _ _ x; omega
      · rw [if_pos e2, if_neg e3, ← e2]; exact hB.2.2.2
    · rw [if_neg e2]; exact hB.2.2.2
theorem bx_set {m : Int} {σ : SG} (hB : BX m σ) {r k : Nat} {v : Int32} {l h : Int} (hv : rg v l h) (hc : chk r k k l h = true) : BX m (s2 σ r k v) := bx_seti hB (Nat.le_refl _) (Nat.le_refl _) hv hc
theorem bx_setx {m : Int} {σ : SG} (hB : BX m σ) {r a b : Nat} {x v : Int32} {l h : Int} (hx : rg x (a : Int) (b : Int)) (hv : rg v l h) (hc : chk r a b l h = true) : BX m (s2 σ r x.toNatClampNeg v) := by
  have e := rg_cl hx (by omega)
  have h1 := hx.1
  have h2 := hx.2
  exact bx_seti hB (by omega) (by omega) hv hc
theorem bx_getx {m : Int} {σ : SG} (hB : BX m σ) {r a b : Nat} {l h : Int} {x : Int32} (hq : (r, a, b, l, h) ∈ bndL) (hx : rg x (a : Int) (b : Int)) : rg (σ r x.toNatClampNeg) l h := by
  have e := rg_cl hx (by omega)
  have h1 := hx.1
  have h2 := hx.2
  exact bx_get hB hq (by omega) (by omega)
/-- objects that the box says nothing of -/
theorem bx_far {m : Int} {σ : SG} (hB : BX m σ) {r k : Nat} {v : Int32} (hr : bndL.all (fun q => !(q.1 == r)) = true) (h1 : r ≠ 54) (h2 : r ≠ 55) (h3 : r ≠ 56) : BX m (s2 σ r k v) := by
  simp only [List.all_eq_true, Bool.not_eq_true', beq_eq_false_iff_ne] at hr
  refine ⟨fun q hq j a b => ?_, ?_, ?_, ?_⟩
  · rw [s2_ne q.1 (hr q hq)]; exact hB.1 q hq j a b
  · rw [s2_ne 54 (Ne.symm h1)]; exact hB.2.1
  · rw [s2_ne 55 (Ne.symm h2)]; exact hB.2.2.1
  · rw [s2_ne 54 (Ne.symm h1), s2_ne 56 (Ne.symm h3)]; exact hB.2.2.2
theorem bx_65 {m : Int} {σ : SG} (hB : BX m σ) {r k : Nat} {v : Int32} (hr : 65 ≤ r) : BX m (s2 σ r k v) := by
  refine bx_far hB ?_ (by omega) (by omega) (by omega)
  rw [List.all_eq_true]
  intro q hq
  have hq1 : ∀ q ∈ bndL, q.1 < 65 := by decide
  have := hq1 q hq
  simp only [Bool.not_eq_true', beq_eq_false_iff_ne]
  omega
theorem lb_or {i : Nat} (h : isLb i = true) : i = 3 ∨ i = 16 ∨ i = 37 ∨ i = 40 ∨ i = 42 ∨ i = 44 ∨ i = 46 ∨ i = 48 ∨ i = 50 ∨ i = 52 := by
  simp only [isLb, Bool.or_eq_true, beq_iff_eq] at h
  omega
theorem bx_lf {m : Int} {σ : SG} (hB : BX m σ) {i k : Nat} {v : Int32} (hi : isLb i = true) : BX m (s2 σ i k v) := by
  rcases lb_or hi with rfl | rfl | rfl | rfl | rfl | rfl | rfl | rfl | rfl | rfl <;> exact bx_far hB (by decide) (by decide) (by decide) (by decide)
theorem bx_lf1 {m : Int} {σ : SG} (hB : BX m σ) {i k : Nat} {v : Int32} (hi : isLb i = true) : BX m (s2 σ (i + 1) k v) := by
  rcases lb_or hi with rfl | rfl | rfl | rfl | rfl | rfl | rfl | rfl | rfl | rfl <;> exact bx_far hB (by decide) (by decide) (by decide) (by decide)
theorem bx_m {m m' : Int} {σ : SG} (hB : BX m σ) (h : m ≤ m') : BX m' σ := ⟨hB.1, rg_w hB.2.1 (Int.le_refl _) h, hB.2.2⟩
theorem bx_ran {m m' : Int} {σ : SG} (hB : BX m σ) {v : Int32} (hv : rg v 0 m') : BX m' (s2 σ 54 30 v) := by
  refine ⟨fun q hq j a b => ?_, ?_, ?_, ?_⟩
  · have hq1 : ∀ q ∈ bndL, q.1 = 54 → False := by decide
    rw [s2_ne q.1 (fun e => hq1 q hq e)]; exact hB.1 q hq j a b
  · rw [s2_at, if_pos rfl, if_pos rfl]; exact hv
  · rw [s2_ne 55 (by decide)]; exact hB.2.2.1
  · rw [s2_ne 56 (by decide), s2_at, if_pos rfl, if_neg (by decide)]; exact hB.2.2.2
/-- arrays copied -/
def chkc (a b k : Nat) : Bool := bndL.all (fun q => !(q.1 == b) || ((List.range (q.2.2.1 + 1 - q.2.1)).all (fun j => Nat.ble k (q.2.1 + j) || bndL.any (fun p => p.1 == a && Nat.ble p.2.1 (q.2.1 + j) && Nat.ble (q.2.1 + j) p.2.2.1 && decide (q.2.2.2.1 ≤ p.2.2.2.1) && decide (p.2.2.2.2 ≤ q.2.2.2.2))))) && !(b == 54) && !(b == 55) && !(b == 56)
theorem bx_cpy {m : Int} {σ : SG} (hB : BX m σ) {a b k : Nat} (hc : chkc a b k = true) : BX m (cpy σ a b k) := by
  unfold chkc at hc
  simp only [Bool.and_eq_true, List.all_eq_true, Bool.not_eq_true', Bool.or_eq_true, decide_eq_true_eq, List.any_eq_true, beq_iff_eq, beq_eq_false_iff_ne, Nat.ble_eq, List.mem_range] at hc
  obtain ⟨⟨⟨c1, c2⟩, c3⟩, c4⟩ := hc
  have ne : ∀ r : Nat, r ≠ b → cpy σ a b k r = σ r := fun r hr => by unfold cpy; exact va_up_ne _ _ hr
  refine ⟨fun q hq j h1 h2 => ?_, ?_, ?_, ?_⟩
  · rw [cpy_at]
    by_cases e1 : q.1 = b
    · rw [if_pos e1]
      by_cases e2 : j < k
      · rw [if_pos e2]
        rcases c1 q hq with x | x
        · exact absurd e1 x
        · have z := x (j - q.2.1) (by omega)
          rw [show q.2.1 + (j - q.2.1) = j by omega] at z
          rcases z with z | ⟨p, hp, ⟨⟨⟨y1, y2⟩, y3⟩, y4⟩, y5⟩
          · omega
          · have := hB.1 p hp j y2 y3
            rw [y1] at this
            exact rg_w this y4 y5
      · rw [if_neg e2, ← e1]; exact hB.1 q hq j h1 h2
    · rw [if_neg e1]; exact hB.1 q hq j h1 h2
  · rw [ne 54 (Ne.symm c2)]; exact hB.2.1
  · rw [ne 55 (Ne.symm c3)]; exact hB.2.2.1
  · rw [ne 54 (Ne.symm c2), ne 56 (Ne.symm c4)]; exact hB.2.2.2
theorem isB_of {m : Int} {σ : SG} (hB : BX m σ) {r : Nat} (hq : (r, 0, 99, -128, 127) ∈ bndL) : ((List.range 100).all (fun i => isB (σ r i))) = true := by
  rw [List.all_eq_true]
  intro i hi
  have hi : i < 100 := List.mem_range.mp hi
  have h := bx_get hB hq (Nat.zero_le i) (by omega : i ≤ 99)
  unfold isB
  rw [beq_iff_eq]
  apply Int32.toInt_inj.mp
  rw [Int8.toInt_toInt32, Int32.toInt_toInt8]
  exact Int.bmod_eq_of_le (by have := h.1; omega) (by have := h.2; omega)
theorem isb_of {m : Int} {σ : SG} (hB : BX m σ) {r : Nat} (hq : (r, 0, 9, 0, 1) ∈ bndL) : ((List.range 10).all (fun i => isb (σ r i))) = true := by
  rw [List.all_eq_true]
  intro i hi
  have hi : i < 10 := List.mem_range.mp hi
  exact rg_isb (bx_get hB hq (Nat.zero_le i) (by omega : i ≤ 9))
/-! the references -/
def CK (N : Nat) (K len : Nat → Nat) (ρ : RG) (c : Nat) : Prop := isC N K c = true ∧ (K c = 9 → ∃ d, ρ c 6 = some d ∧ isD N K len d = true ∧ 65 ≤ d)
def PR (N : Nat) (K len : Nat → Nat) (ρ : RG) : Prop := Lay N K len ρ ∧ RC N ρ ∧ (∀ j c, j < 6 → ρ 2 j = some c → CK N K len ρ c) ∧ (∀ j c, j < 6 → ρ 15 j = some c → CK N K len ρ c) ∧ (ρ 29 8 = none ∨ ρ 29 8 = some 10)
theorem ck_65 {N : Nat} {K len : Nat → Nat} {ρ : RG} (hL : Lay N K len ρ) {c : Nat} (h : isC N K c = true) : 65 ≤ c := by
  rcases Nat.lt_or_ge c 65 with q | q
  · have h1 := isC_k h
    rw [ly_k hL c (Nat.blt_eq.mpr q)] at h1
    have h2 : ∀ r, r < 65 → isCk (kind0 r) = false := by decide
    rw [h2 c q] at h1
    cases h1
  · exact q
theorem lb_34 {N : Nat} {K len : Nat → Nat} {ρ : RG} (hL : Lay N K len ρ) {j c : Nat} (hj : j < 7) (h : ρ 34 j = some c) : isLb c = true := by
  have e : ρ 34 j = some (40 + 2 * j) := ly_f hL 34 j (40 + 2 * j) (by
    have : ∀ j, j < 7 → (34, j, 40 + 2 * j) ∈ refsL := by decide
    exact this j hj)
  rw [e] at h
  cases h
  have : ∀ j, j < 7 → isLb (40 + 2 * j) = true := by decide
  exact this j hj
theorem lb_some {N : Nat} {K len : Nat → Nat} {ρ : RG} (hL : Lay N K len ρ) {j : Nat} (hj : j < 7) (h : ρ 34 j = none) : False := by
  have e : ρ 34 j = some (40 + 2 * j) := ly_f hL 34 j (40 + 2 * j) (by
    have : ∀ j, j < 7 → (34, j, 40 + 2 * j) ∈ refsL := by decide
    exact this j hj)
  rw [e] at h
  cases h
theorem lb_x {N : Nat} {K len : Nat → Nat} {ρ : RG} (hL : Lay N K len ρ) {x : Int32} {c : Nat} (hx : rg x 0 6) (h : ρ 34 x.toNatClampNeg = some c) : isLb c = true := lb_34 hL (by have := rg_cl hx (by omega); have := hx.2; omega) h
theorem lb_xn {N : Nat} {K len : Nat → Nat} {ρ : RG} (hL : Lay N K len ρ) {x : Int32} (hx : rg x 0 6) (h : ρ 34 x.toNatClampNeg = none) : False := lb_some hL (by have := rg_cl hx (by omega); have := hx.2; omega) h
theorem rg_nel {a b : Int32} {l h d : Int} (c : ¬ a = b) (ha : rg a l h) (hb : rg b d d) (e : l = d) : rg a (l + 1) h := by
  refine ⟨?_, ha.2⟩
  have h1 := ha.1
  rcases Int.lt_or_eq_of_le h1 with q | q
  · omega
  · exact absurd (Int32.toInt_inj.mp (by have := hb.1; have := hb.2; omega)) c
theorem rg_neh {a b : Int32} {l h d : Int} (c : ¬ a = b) (ha : rg a l h) (hb : rg b d d) (e : h = d) : rg a l (h - 1) := by
  refine ⟨ha.1, ?_⟩
  have h1 := ha.2
  rcases Int.lt_or_eq_of_le h1 with q | q
  · omega
  · exact absurd (Int32.toInt_inj.mp (by have := hb.1; have := hb.2; omega)) c
theorem s2_o {σ σ1 : SG} {r k a b : Nat} {v : Int32} (h : σ1 = s2 σ r k v) (n : a ≠ r) : σ1 a b = σ a b := by rw [h, s2_ne a n]
theorem s2_k {σ σ1 : SG} {r k b : Nat} {v : Int32} (h : σ1 = s2 σ r k v) (n : b ≠ k) : σ1 r b = σ r b := by rw [h, s2_at, if_pos rfl, if_neg n]
theorem s2_v {σ σ1 : SG} {r k : Nat} {v : Int32} (h : σ1 = s2 σ r k v) : σ1 r k = v := by rw [h, s2_at, if_pos rfl, if_pos rfl]
theorem ne65 {c a : Nat} (h : 65 ≤ c) (ha : Nat.blt a 65 = true) : a ≠ c := by have := Nat.blt_eq.mp ha; omega
theorem ne_lb {i a : Nat} (h : isLb i = true) (ha : isLb a = false) : a ≠ i := fun e => by rw [e, h] at ha; cases ha
theorem nar_rg (x : Int32) : rg (vp_nar .byte x) (-128) 127 := by
  show rg x.toInt8.toInt32 (-128) 127
  unfold rg
  rw [Int8.toInt_toInt32]
  have h1 := x.toInt8.le_toInt
  have h2 := x.toInt8.toInt_lt
  omega
theorem rg_lt6 {x : Int32} (h : rg x 0 5) : x.toNatClampNeg < 6 := by have := rg_cl h (by omega); have := h.2; omega
theorem io9_k {k : Nat} (h : ¬ io9 k = 0) : k = 9 := by
  unfold io9 at h
  by_cases e : k = 9
  · exact e
  · rw [if_neg e] at h; exact absurd rfl h
theorem ck_d {N : Nat} {K len : Nat → Nat} {ρ : RG} {c d : Nat} (h : CK N K len ρ c) (k : K c = 9) (e : ρ c 6 = some d) : isD N K len d = true ∧ 65 ≤ d := by
  obtain ⟨d', e', h'⟩ := h.2 k
  rw [e'] at e
  cases e
  exact h'
theorem ck_dn {N : Nat} {K len : Nat → Nat} {ρ : RG} {c : Nat} (h : CK N K len ρ c) (k : K c = 9) (e : ρ c 6 = none) : False := by
  obtain ⟨d', e', h'⟩ := h.2 k
  rw [e'] at e
  cases e
theorem ok_imp {o : Option Int32} {P : Prop} (h : ok o (fun q => q = 0 ∨ q = 1 ∧ P)) : ok o (fun q => rg q 0 1 ∧ (¬ q = 0 → P)) := ok_mono h (fun q hq => by
  rcases hq with rfl | ⟨rfl, p⟩
  · exact ⟨⟨by decide, by decide⟩, fun n => absurd rfl n⟩
  · exact ⟨⟨by decide, by decide⟩, fun _ => p⟩)
theorem s_X11_isWithin {a1 a2 a3 : Int32} {σ : SG} {ρ : RG} : ok (F_X11_isWithin a1 a2 a3 σ ρ) (fun q => rg q 0 1 ∧ (¬ q = 0 → a2 ≤ a1 ∧ a1 ≤ a3)) := by
  refine ok_imp ?_
  unfold F_X11_isWithin
  refine ok_if (fun c => ok_some (Or.inl rfl)) (fun c => ?_)
  refine ok_if (fun d => ok_some (Or.inl rfl)) (fun d => ok_some (Or.inr ⟨rfl, nlt c, nlt d⟩))
theorem s_X11_isThick {a1 : Int32} {σ : SG} {ρ : RG} : ok (F_X11_isThick a1 σ ρ) (fun q => rg q 0 1 ∧ (¬ q = 0 → (1 : Int32) ≤ a1 ∧ a1 ≤ (40 : Int32))) := by
  unfold F_X11_isThick
  exact ok_bn s_X11_isWithin (fun r h => ok_gd (rg_isb h.1) (ok_some h))
theorem s_X11_isSlope {a1 : Int32} {σ : SG} {ρ : RG} : ok (F_X11_isSlope a1 σ ρ) (fun q => rg q 0 1 ∧ (¬ q = 0 → (-99 : Int32) ≤ a1 ∧ a1 ≤ (99 : Int32))) := by
  unfold F_X11_isSlope
  exact ok_bn s_X11_isWithin (fun r h => ok_gd (rg_isb h.1) (ok_some h))
theorem s_X12_in {a1 a2 a3 : Int32} {σ : SG} {ρ : RG} : ok (F_X12_in a1 a2 a3 σ ρ) (fun q => rg q 0 1 ∧ (¬ q = 0 → a2 ≤ a1 ∧ a1 ≤ a3)) := by
  refine ok_imp ?_
  unfold F_X12_in
  refine ok_if (fun c => ok_some (Or.inl rfl)) (fun c => ?_)
  refine ok_if (fun d => ok_some (Or.inl rfl)) (fun d => ok_some (Or.inr ⟨rfl, nlt c, nlt d⟩))
theorem s_X12_isCutter {m : Int} {a1 : Int32} {σ : SG} {ρ : RG} (hB : BX m σ) : ok (F_X12_isCutter a1 σ ρ) (fun q => rg q 0 1 ∧ (¬ q = 0 → (0 : Int32) ≤ a1 ∧ a1 ≤ (5 : Int32))) := by
  unfold F_X12_isCutter
  refine ok_nm (fun x hx => ?_)
  refine ok_bn s_X12_in (fun r h => ok_gd (rg_isb h.1) (ok_some ⟨h.1, fun n => ⟨(h.2 n).1, ?_⟩⟩))
  have h1 := (h.2 n).2
  have h2 : rg x (-1) 5 := rg_eq hx (rg_sub (bx_get hB (r := 55) (a := 11) (b := 11) (k := 11) (l := 0) (h := 6) (by decide) (by decide) (by decide)) (show rg (1 : Int32) 1 1 from ⟨by decide, by decide⟩) (by decide) (by decide) (by decide) (by decide))
  exact Int32.le_iff_toInt_le.mpr (Int.le_trans (Int32.le_iff_toInt_le.mp h1) h2.2)
/-- a row's value at a place, 0 elsewhere -/
theorem s_X11_valueAt {q n : Nat} {a2 : Int32} {σ : SG} {ρ : RG} (hn : n < 2147483648) : ok (F_X11_valueAt q n a2 σ ρ) (fun r => rg r (-2147483648) 2147483647) := by
  unfold F_X11_valueAt
  refine ok_if (fun c => ok_some (rg_any _)) (fun c => ?_)
  refine ok_if (fun d => ok_some (rg_any _)) (fun d => ?_)
  refine ok_gd ?_ (ok_some (rg_any _))
  have h0 : (0 : Int) ≤ a2.toInt := Int32.le_iff_toInt_le.mp (nlt c)
  have h1 := Int32.lt_iff_toInt_lt.mp (nle d)
  rw [Int32.toInt_ofNat_of_lt (by omega)] at h1
  exact decide_eq_true ⟨h0, h1⟩
theorem lcmp_ne {v : Int64} {x : Int32} (h : x = lg_cmp v 0) (c : ¬ x = 0) : ¬ v = 0 := fun e => c (by rw [h, e]; rfl)
theorem rg_una {y a c : Int32} {l1 h1 l h d : Int} (e : y = a + c) (hc : rg c d d) (ha : rg a l1 h1) (hy : rg y l h) (o1 : -2147483648 ≤ l1 + d) (o2 : h1 + d ≤ 2147483647) : rg a (l - d) (h - d) := by
  have a1 := ha.1
  have a2 := ha.2
  have c1 := hc.1
  have c2 := hc.2
  have e1 : y.toInt = a.toInt + c.toInt := by rw [e, ti_add (by omega) (by omega)]
  exact ⟨by have := hy.1; omega, by have := hy.2; omega⟩
/-! the box, with all cells of the reference's row from 11 on as they were -/
def BF (g : Nat → Int32) (m : Int) (σ : SG) : Prop := BX m σ ∧ ∀ k, 11 ≤ k → σ 55 k = g k
def chkf (r a b : Nat) (l h : Int) : Bool := chk r a b l h && !(r == 55 && Nat.ble 11 b)
theorem bf_seti {g : Nat → Int32} {m : Int} {σ : SG} (hB : BF g m σ) {r k a b : Nat} {v : Int32} {l h : Int} (ha : a ≤ k) (hb : k ≤ b) (hv : rg v l h) (hc : chkf r a b l h = true) : BF g m (s2 σ r k v) := by
  unfold chkf at hc
  simp only [Bool.and_eq_true, Bool.not_eq_true', Bool.and_eq_false_iff, beq_eq_false_iff_ne] at hc
  refine ⟨bx_seti hB.1 ha hb hv hc.1, fun j hj => ?_⟩
  rw [s2_at]
  by_cases e1 : 55 = r
  · rw [if_pos e1, if_neg ?_, ← e1]
    · exact hB.2 j hj
    · rintro rfl
      rcases hc.2 with x | x
      · exact x e1.symm
      · rw [Nat.ble_eq.mpr (by omega)] at x; cases x
  · rw [if_neg e1]; exact hB.2 j hj
theorem bf_set {g : Nat → Int32} {m : Int} {σ : SG} (hB : BF g m σ) {r k : Nat} {v : Int32} {l h : Int} (hv : rg v l h) (hc : chkf r k k l h = true) : BF g m (s2 σ r k v) := bf_seti hB (Nat.le_refl _) (Nat.le_refl _) hv hc
theorem bf_setx {g : Nat → Int32} {m : Int} {σ : SG} (hB : BF g m σ) {r a b : Nat} {x v : Int32} {l h : Int} (hx : rg x (a : Int) (b : Int)) (hv : rg v l h) (hc : chkf r a b l h = true) : BF g m (s2 σ r x.toNatClampNeg v) := by
  have e := rg_cl hx (by omega)
  have h1 := hx.1
  have h2 := hx.2
  exact bf_seti hB (by omega) (by omega) hv hc
theorem bf_far {g : Nat → Int32} {m : Int} {σ : SG} (hB : BF g m σ) {r k : Nat} {v : Int32} (hr : bndL.all (fun q => !(q.1 == r)) = true) (h1 : r ≠ 54) (h2 : r ≠ 55) (h3 : r ≠ 56) : BF g m (s2 σ r k v) := ⟨bx_far hB.1 hr h1 h2 h3, fun j hj => by rw [s2_ne 55 (Ne.symm h2)]; exact hB.2 j hj⟩
theorem bf_x {m : Int} {σ : SG} (hB : BX m σ) : BF (σ 55) m σ := ⟨hB, fun _ _ => rfl⟩
theorem bf_cell {g : Nat → Int32} {m : Int} {σ σ1 : SG} (h : BF g m σ) (h1 : BF g m σ1) {k : Nat} (hk : 11 ≤ k) : σ1 55 k = σ 55 k := (h1.2 k hk).trans (h.2 k hk).symm
theorem una {y a c : Int32} (e : y = a + c) : a = y - c := by rw [e, Int32.add_sub_cancel]
theorem uns {y a c : Int32} (e : y = a - c) : a = y + c := by rw [e, Int32.sub_add_cancel]
theorem s2_kx {σ σ1 : SG} {r b : Nat} {x v : Int32} {l h : Int} (e : σ1 = s2 σ r x.toNatClampNeg v) (hx : rg x l h) (hl : 0 ≤ l) (hn : (b : Int) < l ∨ h < (b : Int)) : σ1 r b = σ r b := s2_k e (by have := rg_cl hx hl; have := hx.1; have := hx.2; omega)
theorem sq_ge1 {x t v : Int32} {h l h2 : Int} (e : x = t * t) (c : v < x) (hv : rg v 0 h) (ht : rg t l h2) (hl : 0 ≤ l) : rg t 1 h2 := by
  refine ⟨?_, ht.2⟩
  by_cases q : 0 < t.toInt
  · omega
  · have h0 : t.toInt = 0 := by have := ht.1; omega
    have : t = 0 := Int32.toInt_inj.mp (by rw [h0]; rfl)
    subst this
    have h1 := Int32.lt_iff_toInt_lt.mp c
    rw [e] at h1
    have h2 : ((0 : Int32) * 0).toInt = 0 := by decide
    have := hv.1
    omega
theorem dv_sq {x t v : Int32} {h l : Int} (e : x = t * t) (c : v < x) (hv : rg v 0 h) (ht : rg t l 6) (hl : 0 ≤ l) : rg (v / t) 0 5 := by
  have h1 := sq_ge1 e c hv ht hl
  have a1 := h1.1
  have a2 := h1.2
  have b1 := hv.1
  have hx : x.toInt = t.toInt * t.toInt := by
    have p0 : 0 ≤ t.toInt * t.toInt := Int.mul_nonneg (by omega) (by omega)
    have p1 : t.toInt * t.toInt ≤ 6 * 6 := Int.mul_le_mul a2 a2 (by omega) (by omega)
    rw [e, Int32.toInt_mul, bmod_id (by omega) (by omega)]
  have h2 := Int32.lt_iff_toInt_lt.mp c
  rw [hx] at h2
  unfold rg
  rw [ti_div (by omega), Int.tdiv_eq_ediv_of_nonneg b1]
  refine ⟨Int.ediv_nonneg b1 (by omega), ?_⟩
  have h3 : v.toInt / t.toInt < t.toInt := Int.ediv_lt_of_lt_mul (by omega) h2
  omega
theorem bx_thick {m : Int} {σ : SG} (hB : BX m σ) {x v : Int32} (hx : rg x 44 49) (hv : rg v 1 40) : BX m (s2 σ 55 x.toNatClampNeg v) := by
  have e := rg_cl hx (by omega)
  have h1 := hx.1
  have h2 := hx.2
  have hw : s2 σ 55 x.toNatClampNeg v 55 = upd (σ 55) x.toNatClampNeg v := s2_eq
  refine ⟨fun q hq j a b => ?_, ?_, ?_, ?_⟩
  · rw [s2_at]
    by_cases e1 : q.1 = 55
    · have hq1 : ∀ q ∈ bndL, q.1 = 55 → q.2.2.1 < 44 ∨ 49 < q.2.1 := by decide
      have := hq1 q hq e1
      rw [if_pos e1, if_neg (by omega), ← e1]
      exact hB.1 q hq j a b
    · rw [if_neg e1]; exact hB.1 q hq j a b
  · rw [s2_ne 54 (by decide)]; exact hB.2.1
  · rw [hw]
    obtain ⟨w1, w2⟩ := hB.2.2.1
    have ne : ∀ k, (k < 44 ∨ 49 < k) → upd (σ 55) x.toNatClampNeg v k = σ 55 k := fun k hk => by
      unfold upd
      have : k ≠ x.toNatClampNeg := by omega
      simp [this]
    refine ⟨fun q hq => ?_, fun c hc => ?_⟩
    · rw [ne 16 (by omega)] at hq
      obtain ⟨y1, y2⟩ := w1 q hq
      rw [ne 12 (by omega), ne (204 + q) (by omega), simc_congr (f := σ 55) _ _ _ (fun k hk => ne k (by omega))]
      exact ⟨y1, y2⟩
    · rw [ne 11 (by omega)] at hc
      obtain ⟨y1, y2⟩ := w2 c hc
      refine ⟨?_, y2⟩
      by_cases q : 44 + c = x.toNatClampNeg
      · unfold upd
        simp only [q, if_true]
        exact hv.1
      · unfold upd
        simp only [q, if_false]
        exact y1
  · rw [s2_ne 56 (by decide), s2_ne 54 (by decide)]; exact hB.2.2.2
