/-! PART 7600.pa: by hand: the two parsers side by side: signs, numbers, words, tests -/
theorem sn {σ : SG} {r k a b : Nat} {v : Int32} (h : ¬ (a = r ∧ b = k)) : s2 σ r k v a b = σ a b := by
  rw [s2_at]
  by_cases e : a = r
  · rw [if_pos e, if_neg (fun q => h ⟨e, q⟩), e]
  · rw [if_neg e]
theorem sv {σ : SG} {r k : Nat} {v : Int32} : s2 σ r k v r k = v := by rw [s2_at, if_pos rfl, if_pos rfl]
theorem kp_ih {α : Type} {c : Prop} [Decidable c] {x y : Option α} {P : α → Prop} (h1 : c → kp x P) (h2 : ¬ c → kp y P) : kp (if c then x else y) P := by
  by_cases h : c
  · rw [if_pos h]; exact h1 h
  · rw [if_neg h]; exact h2 h
theorem kp_t {α : Type} {c : Prop} [Decidable c] {x y : Option α} {P : α → Prop} (h : c) (h1 : kp x P) : kp (if c then x else y) P := by rw [if_pos h]; exact h1
theorem kp_f {α : Type} {c : Prop} [Decidable c] {x y : Option α} {P : α → Prop} (h : ¬ c) (h1 : kp y P) : kp (if c then x else y) P := by rw [if_neg h]; exact h1
theorem ti_0 : (0 : Int32).toInt = 0 := rfl
theorem ti_1 : (1 : Int32).toInt = 1 := rfl
theorem ti_100 : (100 : Int32).toInt = 100 := rfl
theorem cn {x : Int32} {z : Nat} (h : x.toInt = (z : Int)) : x.toNatClampNeg = z := by show x.toInt.toNat = z; omega
theorem cl0 {x : Int32} (h : 0 ≤ x.toInt) : (x.toNatClampNeg : Int) = x.toInt := by show ((x.toInt.toNat : Nat) : Int) = x.toInt; omega
theorem ieq {x y : Int32} (h : x.toInt = y.toInt) : x = y := Int32.toInt_inj.mp h
theorem lt_i {a b : Int32} (h : a < b) : a.toInt < b.toInt := Int32.lt_iff_toInt_lt.mp h
theorem le_i {a b : Int32} (h : a ≤ b) : a.toInt ≤ b.toInt := Int32.le_iff_toInt_le.mp h
theorem i_lt {a b : Int32} (h : a.toInt < b.toInt) : a < b := Int32.lt_iff_toInt_lt.mpr h
theorem i_le {a b : Int32} (h : a.toInt ≤ b.toInt) : a ≤ b := Int32.le_iff_toInt_le.mpr h
/-! the sign at a place: of the class, of the reference -/
def cN (σ : SG) (p : Int32) : Int32 := if σ 29 9 ≤ p then 0 else σ 10 p.toNatClampNeg
def cH (σ : SG) (p : Int32) : Int32 := if σ 54 7 ≤ p then -1 else σ 55 (94 + p.toNatClampNeg)
/-- what stands while both read -/
def SS (b : Nat) (e : Int32) (σ : SG) (ρ : RG) (τ : SG) : Prop := (∀ k, k < 100 → σ 10 k = τ 55 (94 + k) ∧ rg (σ 10 k) (-128) 127) ∧ ρ 29 8 = some 10 ∧ σ 29 9 = e ∧ τ 54 7 = e ∧ rg e 0 100 ∧ (τ 54 5).toInt = (b : Int) ∧ b < 5
theorem k_next {e : Int32} {σ : SG} {ρ : RG} (hr : ρ 29 8 = some 10) (he : σ 29 9 = e) (h1 : e.toInt ≤ 100) (h0 : 0 ≤ (σ 29 10).toInt) : kp (F_X0_next σ ρ) (fun q => q = cN σ (σ 29 10)) := by
  unfold F_X0_next
  rw [hr]
  refine kp_gd (fun _ => ?_)
  refine kp_ih (fun c => ?_) (fun _ => kp_ih (fun c => kp_some ?_) (fun c => ?_))
  · have := lt_i c
    rw [ti_0] at this
    omega
  · unfold cN; rw [if_pos c]
  · refine kp_gd (fun _ => kp_ih (fun d => ?_) (fun d => ?_))
    · have := le_i d
      have := lt_i (nle c)
      rw [he] at this
      rw [ti_100] at *
      omega
    · refine kp_gd (fun _ => kp_gd (fun _ => kp_some ?_))
      unfold cN; rw [if_neg c]
theorem k_here {e : Int32} {τ : SG} {ρ : RG} (he : τ 54 7 = e) (h1 : e.toInt ≤ 100) (h0 : 0 ≤ (τ 54 6).toInt) : kp (F_X12_here τ ρ) (fun q => q = cH τ (τ 54 6)) := by
  unfold F_X12_here
  refine kp_ih (fun c => kp_some ?_) (fun c => kp_nm (fun x hx => kp_gd (fun _ => kp_some ?_)))
  · unfold cH; rw [if_pos c]
  · unfold cH
    rw [if_neg c]
    have := lt_i (nle c)
    rw [he] at this
    have e94 : (94 : Int32).toInt = 94 := rfl
    have ex : x.toInt = 94 + (τ 54 6).toInt := by rw [hx, ti_add (by omega) (by omega), e94]
    have := cl0 h0
    rw [cn (z := 94 + (τ 54 6).toNatClampNeg) (by omega)]
theorem ch_eq {b : Nat} {e p : Int32} {σ τ : SG} {ρ : RG} (S : SS b e σ ρ τ) (h0 : 0 ≤ p.toInt) (h1 : p.toInt ≤ e.toInt) : (cN σ p = cH τ p ∧ rg (cN σ p) (-128) 127 ∧ p.toInt < e.toInt) ∨ (cN σ p = 0 ∧ cH τ p = -1 ∧ p.toInt = e.toInt) := by
  obtain ⟨t, -, s1, s2', s3, -, -⟩ := S
  unfold cN cH
  rw [s1, s2']
  by_cases c : e ≤ p
  · rw [if_pos c, if_pos c]
    have := le_i c
    exact Or.inr ⟨rfl, rfl, by omega⟩
  · rw [if_neg c, if_neg c]
    have l := lt_i (nle c)
    have := cl0 h0
    have u := s3.2
    obtain ⟨x, y⟩ := t p.toNatClampNeg (by omega)
    exact Or.inl ⟨x, y, l⟩
/-! how the two codes say the same -/
def fre (en : Nat → Int32) (i : Nat) : Nat := if i = 0 then 0 else (en (i - 1)).toNatClampNeg
def TR (c r : Int32) : Prop := (c = -1 ∧ r = -1) ∨ (c = -2 ∧ r = -2) ∨ (c = -3 ∧ r = -3) ∨ ∃ m h v : Int, 0 ≤ m ∧ m < 6 ∧ 0 ≤ h ∧ h < 3 ∧ 0 ≤ v ∧ v < 100 ∧ c.toInt = (m * 3 + h) * 100 + v ∧ r.toInt = m + 8 * h + 32 * v
def TM (p a r : Int32) : Prop := rg a 0 99 ∧ ((p = 0 ∧ r = -10 - a) ∨ (p = 1 ∧ r = -200 - a))
def hst (c : Int32) (t : Nat) : Option Nat := if 0 ≤ c.toInt then (if t < 30 then some (t + 1) else none) else if c = -1 then (if 1 ≤ t then some t else none) else (if 2 ≤ t then some (t - 1) else none)
def hrun (f : Nat → Int32) : Nat → Nat → Nat → Option Nat
  | 0, _, t => some t
  | n + 1, i, t => (hst (f i) t).bind (hrun f n (i + 1))
theorem hrun_app {f : Nat → Int32} : ∀ (n i t : Nat), hrun f (n + 1) i t = (hrun f n i t).bind (hst (f (i + n))) := by
  intro n
  induction n with
  | zero =>
    intro i t
    show (hst (f i) t).bind (hrun f 0 (i + 1)) = hst (f (i + 0)) t
    cases hst (f i) t <;> rfl
  | succ n ih =>
    intro i t
    show (hst (f i) t).bind (hrun f (n + 1) (i + 1)) = ((hst (f i) t).bind (hrun f n (i + 1))).bind (hst (f (i + (n + 1))))
    cases hst (f i) t with
    | none => rfl
    | some z =>
      show hrun f (n + 1) (i + 1) z = (hrun f n (i + 1) z).bind (hst (f (i + (n + 1))))
      rw [ih (i + 1) z, show i + 1 + n = i + (n + 1) by omega]
theorem hrun_congr {f g : Nat → Int32} : ∀ (n i t : Nat), (∀ k, i ≤ k → k < i + n → g k = f k) → hrun g n i t = hrun f n i t := by
  intro n
  induction n with
  | zero => intro i t _; rfl
  | succ n ih =>
    intro i t h
    show (hst (g i) t).bind (hrun g n (i + 1)) = (hst (f i) t).bind (hrun f n (i + 1))
    rw [h i (Nat.le_refl _) (by omega)]
    congr 1
    funext z
    exact ih (i + 1) z (fun k hk hk2 => h k (by omega) (by omega))
def CDR (cd pu am en g : Nat → Int32) (ca : Nat) : Prop := ∀ i, i < ca → (fre en i ≤ (en i).toNatClampNeg ∧ rg (en i) 0 100) ∧ (∀ q, fre en i ≤ q → q < (en i).toNatClampNeg → TR (cd q) (g (q + i))) ∧ TM (pu i) (am i) (g ((en i).toNatClampNeg + i)) ∧ hrun cd ((en i).toNatClampNeg - fre en i) (fre en i) 0 = some 1
def CDO (cd en g : Nat → Int32) (ca cc t : Nat) : Prop := fre en ca ≤ cc ∧ (∀ q, fre en ca ≤ q → q < cc → TR (cd q) (g (q + ca))) ∧ hrun cd (cc - fre en ca) (fre en ca) 0 = some t
theorem fre_congr {en en' : Nat → Int32} {i ca : Nat} (h : ∀ k, k < ca → en' k = en k) (hi : i ≤ ca) : fre en' i = fre en i := by
  unfold fre
  by_cases z : i = 0
  · rw [if_pos z, if_pos z]
  · rw [if_neg z, if_neg z, h (i - 1) (by omega)]
/-- an end of a clause that is closed lies below what is open -/
theorem cdr_le {cd pu am en g : Nat → Int32} {ca : Nat} (h : CDR cd pu am en g ca) : ∀ j i, i < j → j ≤ ca → (en i).toNatClampNeg ≤ fre en j := by
  intro j
  induction j with
  | zero => intro i hi; omega
  | succ j ih =>
    intro i hi hj
    have e : fre en (j + 1) = (en j).toNatClampNeg := by unfold fre; rw [if_neg (by omega)]; rfl
    rw [e]
    rcases Nat.lt_or_ge i j with x | x
    · exact Nat.le_trans (ih i x (by omega)) (h j (by omega)).1.1
    · rw [show i = j by omega]; exact Nat.le_refl _
theorem cdr_congr {cd pu am en g cd' pu' am' en' g' : Nat → Int32} {ca cc : Nat} (h : CDR cd pu am en g ca) (hl : fre en ca ≤ cc) (hcd : ∀ k, k < cc → cd' k = cd k) (hpu : ∀ k, k < ca → pu' k = pu k) (ham : ∀ k, k < ca → am' k = am k) (hen : ∀ k, k < ca → en' k = en k) (hg : ∀ k, k < cc + ca → g' k = g k) : CDR cd' pu' am' en' g' ca := by
  intro i hi
  obtain ⟨⟨a, a'⟩, b, c, d⟩ := h i hi
  have le := cdr_le h ca i hi (Nat.le_refl _)
  rw [fre_congr hen (Nat.le_of_lt hi), hen i hi, hpu i hi, ham i hi]
  refine ⟨⟨a, a'⟩, fun q q1 q2 => ?_, ?_, ?_⟩
  · rw [hcd q (by omega), hg (q + i) (by omega)]; exact b q q1 q2
  · rw [hg _ (by omega)]; exact c
  · rw [hrun_congr (f := cd) _ _ _ (fun k k1 k2 => hcd k (by omega))]; exact d
theorem cdo_congr {cd en g cd' en' g' : Nat → Int32} {ca cc t : Nat} (h : CDO cd en g ca cc t) (hcd : ∀ k, k < cc → cd' k = cd k) (hen : ∀ k, k < ca → en' k = en k) (hg : ∀ k, k < cc + ca → g' k = g k) : CDO cd' en' g' ca cc t := by
  obtain ⟨a, b, c⟩ := h
  unfold CDO
  rw [fre_congr hen (Nat.le_refl _)]
  refine ⟨a, fun q q1 q2 => ?_, ?_⟩
  · rw [hcd q q2, hg (q + ca) (by omega)]; exact b q q1 q2
  · rw [hrun_congr (f := cd) _ _ _ (fun k k1 k2 => hcd k (by omega))]; exact c
/-- cells of the reference's row that a board b being read leaves alone -/
def OT (b k : Nat) : Prop := k ≠ 194 + b ∧ k ≠ 199 + b ∧ k ≠ 204 + b ∧ ¬ (209 + 140 * b ≤ k ∧ k < 209 + 140 * b + 140)
/-- both read: place e to come to, o open, place at least π, code at least δ shorter than what was read, stack t, ca clauses -/
def PS (fh : Nat → Int32) (b : Nat) (e o : Int32) (π δ : Int) (t ca : Nat) (σ : SG) (ρ : RG) (τ : SG) : Prop :=
  (SS b e σ ρ τ ∧ ∀ k, OT b k → τ 55 k = fh k) ∧ (σ 29 10 = τ 54 6 ∧ π ≤ (σ 29 10).toInt ∧ 0 ≤ (σ 29 10).toInt ∧ (σ 29 10).toInt ≤ e.toInt) ∧ (τ 54 8 = 0 ∧ τ 54 9 = o) ∧ (σ 29 0 = τ 55 (194 + b) ∧ σ 29 1 = τ 55 (199 + b)) ∧
  ∃ cc : Nat, ((σ 29 2).toInt = (ca : Int) ∧ (σ 29 7).toInt = (cc : Int) ∧ (τ 55 (204 + b)).toInt = (cc : Int) + (ca : Int) ∧ (cc : Int) + (ca : Int) + δ ≤ (σ 29 10).toInt) ∧ CDR (σ 33) (σ 30) (σ 31) (σ 32) (fun k => τ 55 (209 + 140 * b + k)) ca ∧ CDO (σ 33) (σ 32) (fun k => τ 55 (209 + 140 * b + k)) ca cc t
/-- both are wrong, at one place -/
def FL (fh : Nat → Int32) (b : Nat) (σ τ : SG) : Prop := ¬ τ 54 8 = 0 ∧ σ 29 10 = τ 54 6 ∧ ∀ k, OT b k → τ 55 k = fh k
theorem ps_fl {fh : Nat → Int32} {b : Nat} {e o : Int32} {π δ : Int} {t ca : Nat} {σ τ σ1 τ1 : SG} {ρ : RG} (h : PS fh b e o π δ t ca σ ρ τ) (w : ¬ τ1 54 8 = 0) (p : σ1 29 10 = τ1 54 6) (r : τ1 55 = τ 55) : FL fh b σ1 τ1 := ⟨w, p, fun k hk => by rw [r]; exact h.1.2 k hk⟩
theorem ps_lo {fh : Nat → Int32} {b : Nat} {e o : Int32} {π π' δ δ' : Int} {t ca : Nat} {σ τ : SG} {ρ : RG} (h : PS fh b e o π δ t ca σ ρ τ) (a : π' ≤ π) (c : δ' ≤ δ) : PS fh b e o π' δ' t ca σ ρ τ := by
  obtain ⟨h1, ⟨p1, p2, p3, p4⟩, h3, h4, cc, ⟨c1, c2, c3, c4⟩, h6, h7⟩ := h
  exact ⟨h1, ⟨p1, by omega, p3, p4⟩, h3, h4, cc, ⟨c1, c2, c3, by omega⟩, h6, h7⟩
/-- a place further on; the number, what is open, may have changed -/
theorem ps_new {fh : Nat → Int32} {b : Nat} {e o o' : Int32} {π π' δ δ' : Int} {t ca : Nat} {σ σ' τ τ' : SG} {ρ : RG} (h : PS fh b e o π δ t ca σ ρ τ) (hc : ∀ r k, ¬ (r = 29 ∧ (k = 10 ∨ k = 11)) → σ' r k = σ r k) (hr : ∀ r k, ¬ (r = 54 ∧ (k = 6 ∨ k = 8 ∨ k = 9)) → τ' r k = τ r k) (hp : σ' 29 10 = τ' 54 6) (hπ : π' ≤ (σ' 29 10).toInt) (hd : (σ 29 10).toInt + (δ' - δ) ≤ (σ' 29 10).toInt) (h0 : 0 ≤ (σ' 29 10).toInt) (he : (σ' 29 10).toInt ≤ e.toInt) (w : τ' 54 8 = 0) (ho : τ' 54 9 = o') : PS fh b e o' π' δ' t ca σ' ρ τ' := by
  obtain ⟨⟨⟨s1, s2, s3, s4, s5, s6, s7⟩, hot⟩, ⟨p1, p2, p3, p4⟩, h3, ⟨h4, h5⟩, cc, ⟨c1, c2, c3, c4⟩, h6, h7⟩ := h
  have f33 : σ' 33 = σ 33 := funext (fun k => hc 33 k (by omega))
  have f30 : σ' 30 = σ 30 := funext (fun k => hc 30 k (by omega))
  have f31 : σ' 31 = σ 31 := funext (fun k => hc 31 k (by omega))
  have f32 : σ' 32 = σ 32 := funext (fun k => hc 32 k (by omega))
  have f55 : ∀ k, τ' 55 k = τ 55 k := fun k => hr 55 k (by omega)
  refine ⟨⟨⟨fun k hk => ?_, s2, by rw [hc 29 9 (by omega)]; exact s3, by rw [hr 54 7 (by omega)]; exact s4, s5, by rw [hr 54 5 (by omega)]; exact s6, s7⟩, fun k hk => by rw [f55]; exact hot k hk⟩, ⟨hp, hπ, h0, he⟩, ⟨w, ho⟩, ⟨by rw [hc 29 0 (by omega), f55]; exact h4, by rw [hc 29 1 (by omega), f55]; exact h5⟩, cc, ⟨by rw [hc 29 2 (by omega)]; exact c1, by rw [hc 29 7 (by omega)]; exact c2, by rw [f55]; exact c3, by omega⟩, ?_, ?_⟩
  · rw [hc 10 k (by omega), f55]; exact s1 k hk
  · rw [f33, f30, f31, f32]; simp only [f55]; exact h6
  · rw [f33, f32]; simp only [f55]; exact h7
theorem ps_cN {fh : Nat → Int32} {b : Nat} {e o : Int32} {π δ : Int} {t ca : Nat} {σ τ : SG} {ρ : RG} (h : PS fh b e o π δ t ca σ ρ τ) : (cN σ (σ 29 10) = cH τ (τ 54 6) ∧ rg (cN σ (σ 29 10)) (-128) 127 ∧ (σ 29 10).toInt < e.toInt) ∨ (cN σ (σ 29 10) = 0 ∧ cH τ (τ 54 6) = -1 ∧ (σ 29 10).toInt = e.toInt) := by
  obtain ⟨⟨h1, -⟩, ⟨p1, p2, p3, p4⟩, -⟩ := h
  rw [← p1]
  exact ch_eq h1 p3 p4
theorem ps_next {fh : Nat → Int32} {b : Nat} {e o : Int32} {π δ : Int} {t ca : Nat} {σ τ : SG} {ρ : RG} (h : PS fh b e o π δ t ca σ ρ τ) : kp (F_X0_next σ ρ) (fun q => q = cN σ (σ 29 10)) := k_next h.1.1.2.1 h.1.1.2.2.1 h.1.1.2.2.2.2.1.2 h.2.1.2.2.1
theorem ps_here {fh : Nat → Int32} {b : Nat} {e o : Int32} {π δ : Int} {t ca : Nat} {σ τ : SG} {ρ ρ' : RG} (h : PS fh b e o π δ t ca σ ρ τ) : kp (F_X12_here τ ρ') (fun q => q = cH τ (τ 54 6)) := k_here h.1.1.2.2.2.1 h.1.1.2.2.2.2.1.2 (by rw [← h.2.1.1]; exact h.2.1.2.2.1)
/-- a sign that is asked for stands on both sides, or on none -/
theorem ps_is {fh : Nat → Int32} {b : Nat} {e o c : Int32} {π δ : Int} {t ca : Nat} {σ τ : SG} {ρ : RG} (h : PS fh b e o π δ t ca σ ρ τ) (hc : 1 ≤ c.toInt) : (cN σ (σ 29 10) = c ↔ cH τ (τ 54 6) = c) ∧ (cN σ (σ 29 10) = c → (σ 29 10).toInt < e.toInt) := by
  rcases ps_cN h with ⟨a, b', l⟩ | ⟨a, b', l⟩
  · rw [a]; exact ⟨Iff.rfl, fun _ => l⟩
  · rw [a, b']
    refine ⟨⟨fun z => ?_, fun z => ?_⟩, fun z => ?_⟩ <;> · rw [← z] at hc; exact absurd hc (by decide)
theorem pos_1 {fh : Nat → Int32} {b : Nat} {e o x : Int32} {π δ : Int} {t ca : Nat} {σ τ : SG} {ρ : RG} (h : PS fh b e o π δ t ca σ ρ τ) (lt : (σ 29 10).toInt < e.toInt) (hx : x = σ 29 10 + 1) : x.toInt = (σ 29 10).toInt + 1 := by
  have := h.1.1.2.2.2.2.1.2
  have := h.2.1.2.2.1
  rw [hx, ti_add (by rw [ti_1]; omega) (by rw [ti_1]; omega), ti_1]
/-- both go on by one sign -/
theorem ps_adv {fh : Nat → Int32} {b : Nat} {e o x y : Int32} {π π' δ : Int} {t ca : Nat} {σ τ : SG} {ρ : RG} (h : PS fh b e o π δ t ca σ ρ τ) (lt : (σ 29 10).toInt < e.toInt) (hx : x = σ 29 10 + 1) (hy : y = τ 54 6 + 1) (hπ : π' ≤ (σ 29 10).toInt + 1) : PS fh b e o π' (δ + 1) t ca (s2 σ 29 10 x) ρ (s2 τ 54 6 y) := by
  have ex := pos_1 h lt hx
  have exy : x = y := by rw [hx, hy, h.2.1.1]
  have p3 := h.2.1.2.2.1
  refine ps_new h (fun r k n => sn (by omega)) (fun r k n => sn (by omega)) (by rw [sv, sv]; exact exy) (by rw [sv, ex]; exact hπ) (by rw [sv]; omega) (by rw [sv]; omega) (by rw [sv]; omega) (by rw [sn (by omega)]; exact h.2.2.1.1) (by rw [sn (by omega)]; exact h.2.2.1.2)
/-! a reference that is wrong stays so, at its place -/
def WS (τ : SG) (τ' : SG) : Prop := ¬ τ' 54 8 = 0 ∧ τ' 54 6 = τ 54 6 ∧ τ' 55 = τ 55
theorem ws_refl {τ : SG} (w : ¬ τ 54 8 = 0) : WS τ τ := ⟨w, rfl, rfl⟩
theorem ws_trans {τ τ1 τ2 : SG} (h : WS τ τ1) (h' : WS τ1 τ2) : WS τ τ2 := ⟨h'.1, h'.2.1.trans h.2.1, h'.2.2.trans h.2.2⟩
theorem ws_fl {fh : Nat → Int32} {b : Nat} {σ τ τ' : SG} (h : FL fh b σ τ) (k : WS τ τ') : FL fh b σ τ' := ⟨k.1, h.2.1.trans k.2.1.symm, fun j hj => by rw [k.2.2]; exact h.2.2 j hj⟩
theorem w_must {a1 : Int32} {τ : SG} {ρ : RG} (w : ¬ τ 54 8 = 0) : kp (F_X12_must a1 τ ρ) (fun q => WS τ q) := by
  unfold F_X12_must
  refine kp_f w ?_
  unfold F_X12_must_16 F_X12_must_21
  refine kp_gd (fun _ => kp_nm (fun σ3 h3 => kp_ih (fun c => ?_) (fun _ => kp_nm (fun x hx => kp_nm (fun σ10 h10 => kp_some ?_)))))
  · rw [h3, sv] at c; exact absurd c (by decide)
  · refine ⟨by rw [h10, sn (by omega), h3, sv]; decide, ?_, by rw [h10, s2_ne 55 (by decide), h3, s2_ne 55 (by decide)]⟩
    rw [h10, sv, hx, h3, sn (by omega), Int32.add_zero]
theorem w_fig {τ : SG} {ρ : RG} {n : Nat} {v1 v2 : Int32} (w : ¬ τ 54 8 = 0) : kp (F_X12_figures_34 (n + 1) τ ρ v1 v2) (fun q => WS τ q.2) := by
  unfold F_X12_figures_34
  exact kp_ih (fun _ => kp_some (ws_refl w)) (fun _ => kp_f w (kp_some (ws_refl w)))
theorem w_figures {τ : SG} {ρ : RG} (w : ¬ τ 54 8 = 0) : kp (F_X12_figures τ ρ) (fun q => WS τ q.2) := by
  unfold F_X12_figures
  refine kp_f w ?_
  unfold F_X12_figures_22 F_X12_figures_27
  refine kp_gd (fun _ => kp_nm (fun σ3 h3 => ?_))
  have w3 : ¬ σ3 54 8 = 0 := by rw [h3, sv]; decide
  exact kp_mono (w_fig (n := 1023) w3) (fun q h => ws_trans ⟨w3, by rw [h3, sn (by omega)], by rw [h3, s2_ne 55 (by decide)]⟩ h)
theorem w_emits {a1 : Int32} {τ : SG} {ρ : RG} (w : ¬ τ 54 8 = 0) : kp (F_X12_emits a1 τ ρ) (fun q => WS τ q) := by
  unfold F_X12_emits
  exact kp_f w (kp_some (ws_refl w))
theorem w_every4 {R : SG → RG → Option SG} {n : Nat} {τ : SG} {ρ : RG} (w : ¬ τ 54 8 = 0) : kp (F_X12_every_B_4 R n τ ρ) (fun q => WS τ q) := by
  cases n with
  | zero => exact kp_none
  | succ n => unfold F_X12_every_B_4; exact kp_f w (kp_some (ws_refl w))
theorem w_some4 {R : SG → RG → Option SG} {n : Nat} {τ : SG} {ρ : RG} (w : ¬ τ 54 8 = 0) : kp (F_X12_some_B_4 R n τ ρ) (fun q => WS τ q) := by
  cases n with
  | zero => exact kp_none
  | succ n => unfold F_X12_some_B_4; exact kp_f w (kp_some (ws_refl w))
theorem w_factor {d : Nat} {τ : SG} {ρ : RG} (w : ¬ τ 54 8 = 0) : kp (F_X12_factor_R d τ ρ) (fun q => WS τ q) := by
  cases d with
  | zero => exact kp_none
  | succ d => unfold F_X12_factor_R F_X12_factor_B; exact kp_f w (kp_some (ws_refl w))
theorem w_every {d : Nat} {τ : SG} {ρ : RG} (w : ¬ τ 54 8 = 0) : kp (F_X12_every_B (F_X12_factor_R d) τ ρ) (fun q => WS τ q) := by
  unfold F_X12_every_B
  exact kp_bn (w_factor w) (fun σ1 h1 => kp_mono (w_every4 h1.1) (fun q h => ws_trans h1 h))
theorem w_some {d : Nat} {τ : SG} {ρ : RG} (w : ¬ τ 54 8 = 0) : kp (F_X12_some_B (F_X12_factor_R d) τ ρ) (fun q => WS τ q) := by
  unfold F_X12_some_B
  exact kp_bn (w_every w) (fun σ1 h1 => kp_mono (w_some4 h1.1) (fun q h => ws_trans h1 h))
theorem w_spells {w0 : Nat} {ρ : RG} : ∀ (n : Nat) (τ : SG) (v2 : Int32), ¬ τ 54 8 = 0 → kp (F_X12_spells_2 w0 n τ ρ v2) (fun q => WS τ q) := by
  intro n
  induction n with
  | zero => intro τ v2 _; exact kp_none
  | succ n ih =>
    intro τ v2 w
    unfold F_X12_spells_2
    exact kp_bx (fun r1 => kp_ih (fun _ => kp_some (ws_refl w)) (fun _ => kp_bx (fun r3 => kp_bn (w_must w) (fun σ4 h4 => kp_nm (fun x5 _ => kp_mono (ih σ4 x5 h4.1) (fun q h => ws_trans h4 h))))))
