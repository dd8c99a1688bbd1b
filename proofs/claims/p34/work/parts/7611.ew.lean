/-! PART 7611.ew: by hand: what a board adds: the reference's run -/
theorem ls_congr {g g' : Nat → Int32} {c : Int32} {l : List Bool} (hg : ∀ m, m < 6 → g' m = g m) (hc : CG c) : ls g' c l = ls g c l := by
  unfold ls
  by_cases a : 0 ≤ c.toInt
  · rw [if_pos a, if_pos a]
    have lt : c.toInt < 1800 := by
      rcases hc with z | z | z | z
      · rw [z] at a; exact absurd a (by decide)
      · rw [z] at a; exact absurd a (by decide)
      · rw [z] at a; exact absurd a (by decide)
      · exact z.2
    unfold tst
    rw [hg (c.toInt / 300).toNat (by omega)]
  · rw [if_neg a, if_neg a]
theorem lrun_congr {g g' cd : Nat → Int32} (hg : ∀ m, m < 6 → g' m = g m) : ∀ (n i : Nat) (l : List Bool), (∀ q, i ≤ q → q < i + n → CG (cd q)) → lrun g' cd n i l = lrun g cd n i l := by
  intro n
  induction n with
  | zero => intro i l _; rfl
  | succ n ih =>
    intro i l h
    show lrun g' cd n (i + 1) (ls g' (cd i) l) = lrun g cd n (i + 1) (ls g (cd i) l)
    rw [ls_congr hg (h i (Nat.le_refl _) (by omega))]
    exact ih (i + 1) _ (fun q q1 q2 => h q (by omega) (by omega))
theorem asum_congr {g g' cd pu am en : Nat → Int32} {p : Int32} {ca : Nat} (hg : ∀ m, m < 6 → g' m = g m) (W : CW cd en ca) : ∀ k, k ≤ ca → asum g' cd pu am en p k = asum g cd pu am en p k := by
  intro k
  induction k with
  | zero => intro _; rfl
  | succ k ih =>
    intro hk
    obtain ⟨w1, w2, w3, w4⟩ := W k (by omega)
    have e : tv g' cd en k = tv g cd en k := by
      unfold tv
      rw [lrun_congr hg _ _ _ (fun q q1 q2 => w3 q q1 (by omega))]
    show (if pu k = p ∧ tv g' cd en k = true then asum g' cd pu am en p k + am k else asum g' cd pu am en p k) = if pu k = p ∧ tv g cd en k = true then asum g cd pu am en p k + am k else asum g cd pu am en p k
    rw [e, ih (by omega)]
/-! the reference's stack -/
def TS (f : Nat → Int32) (l : List Bool) : Prop := ∀ j, j < l.length → f j = if l.getD (l.length - 1 - j) false = true then 1 else 0
theorem ts_congr {f f' : Nat → Int32} {l : List Bool} (h : TS f l) (e : ∀ j, j < l.length → f' j = f j) : TS f' l := fun j hj => by rw [e j hj]; exact h j hj
theorem ts_tail {f : Nat → Int32} {x : Bool} {r : List Bool} (h : TS f (x :: r)) : TS f r := fun j hj => by
  have := h j (by show j < r.length + 1; omega)
  rw [this]
  show (if (x :: r).getD (r.length + 1 - 1 - j) false = true then (1 : Int32) else 0) = _
  rw [show r.length + 1 - 1 - j = (r.length - 1 - j) + 1 by omega, List.getD_cons_succ]
theorem ts_head {f : Nat → Int32} {x : Bool} {r : List Bool} (h : TS f (x :: r)) : f r.length = if x = true then 1 else 0 := by
  have := h r.length (by show r.length < r.length + 1; omega)
  rw [this]
  show (if (x :: r).getD (r.length + 1 - 1 - r.length) false = true then (1 : Int32) else 0) = _
  rw [show r.length + 1 - 1 - r.length = 0 by omega, List.getD_cons_zero]
theorem ts_cons {f : Nat → Int32} {x : Bool} {r : List Bool} (h : TS f r) (e : f r.length = if x = true then 1 else 0) : TS f (x :: r) := fun j hj => by
  have hj' : j < r.length + 1 := hj
  show f j = if (x :: r).getD (r.length + 1 - 1 - j) false = true then (1 : Int32) else 0
  by_cases q : j = r.length
  · rw [q, show r.length + 1 - 1 - r.length = 0 by omega, List.getD_cons_zero]; exact e
  · rw [show r.length + 1 - 1 - j = (r.length - 1 - j) + 1 by omega, List.getD_cons_succ]; exact h j (by omega)
/-- what a run of looks leaves -/
def LF (σ σ' : SG) : Prop := ∀ r k, r ≠ 59 → ¬ (r = 54 ∧ (k = 12 ∨ k = 13)) → σ' r k = σ r k
theorem lf_trans {σ σ1 σ2 : SG} (h : LF σ σ1) (h' : LF σ1 σ2) : LF σ σ2 := fun r k a b => (h' r k a b).trans (h r k a b)
theorem bt0 {x : Bool} {v : Int32} (h : v = if x = true then 1 else 0) : (v = 0 → x = false) ∧ (¬ v = 0 → x = true) := by
  cases x
  · exact ⟨fun _ => rfl, fun n => absurd h n⟩
  · exact ⟨fun z => by rw [z] at h; exact absurd h (by decide), fun _ => rfl⟩
/-- one step that is no clause's end -/
theorem k_lstep {a1 a2 v3 v4 v5 v6 c r : Int32} {σ : SG} {ρ : RG} {l : List Bool} {t : Nat} {P : SG → Prop} (T : TR c r) (h6 : 0 ≤ v6.toInt) (h9 : v6.toInt < 909) (hr : σ 55 v6.toNatClampNeg = r) (lt : v6.toInt < (v4 + v3).toInt) (hS : TS (σ 59) l) (h5 : v5.toInt = (l.length : Int)) (ht : hst c l.length = some t) (n : Nat) (go : ∀ (n' : Nat) (σ' : SG) (x5 x6 : Int32), (∀ q, q ≠ 59 → σ' q = σ q) → TS (σ' 59) (ls (σ 58) c l) → x5.toInt = (t : Int) → x6.toInt = v6.toInt + 1 → kp (F_X12_looks_117 a1 a2 n' σ' ρ v3 v4 x5 x6) P) : kp (F_X12_looks_117 a1 a2 n σ ρ v3 v4 v5 v6) P := by
  cases n with
  | zero => exact kp_none
  | succ n =>
  have em1 : (-1 : Int32).toInt = -1 := rfl
  have em2 : (-2 : Int32).toInt = -2 := rfl
  have em3 : (-3 : Int32).toInt = -3 := rfl
  have em10 : (-10 : Int32).toInt = -10 := rfl
  have len := ls_len (g := σ 58) ht
  have ad : ∀ (σ' : SG) (x5 : Int32), (∀ q, q ≠ 59 → σ' q = σ q) → TS (σ' 59) (ls (σ 58) c l) → x5.toInt = (t : Int) → kp (F_X12_looks_429 a1 a2 (F_X12_looks_117 a1 a2 n) σ' ρ v3 v4 x5 v6) P := by
    intro σ' x5 q1 q2 q3
    unfold F_X12_looks_429
    refine kp_nm (fun x39 h39 => go n σ' x5 x39 q1 q2 q3 ?_)
    rw [h39, ti_add (by rw [ti_1]; omega) (by rw [ti_1]; omega), ti_1]
  unfold F_X12_looks_117
  refine kp_nm (fun x25 hx25 => kp_f (fun z => by have := le_i z; rw [hx25] at this; omega) (kp_gd (fun _ => ?_)))
  rw [hr]
  rcases T with ⟨e1, e2⟩ | ⟨e1, e2⟩ | ⟨e1, e2⟩ | ⟨m, h, v, m0, m1, k0, k1, v0, v1, e1, e2⟩
  · -- not
    rw [e1] at ht len ad go
    rw [e2]
    obtain ⟨b, s, rfl⟩ : ∃ b s, l = b :: s := by
      cases l with
      | nil => exact (hst_no ht (Or.inl ⟨rfl, rfl⟩)).elim
      | cons b s => exact ⟨b, s, rfl⟩
    have el : ls (σ 58) (-1) (b :: s) = (!b) :: s := rfl
    have tl : t = s.length + 1 := by rw [← len, el]; rfl
    have h5 : v5.toInt = ((s.length + 1 : Nat) : Int) := h5
    have u5 := (rg_any v5).2
    refine kp_t (by decide) (kp_t rfl (kp_nm (fun x60 hx60 => kp_nm (fun x61 hx61 => kp_gd (fun _ => ?_)))))
    have v60 : x60.toInt = (s.length : Int) := by rw [hx60, ti_sub (by rw [ti_1]; omega) (by rw [ti_1]; omega), ti_1, h5]; omega
    have v61 : x61.toInt = (s.length : Int) := by rw [hx61, ti_sub (by rw [ti_1]; omega) (by rw [ti_1]; omega), ti_1, h5]; omega
    rw [cn v61]
    obtain ⟨b0, b1⟩ := bt0 (ts_head hS)
    have upd : ∀ v : Int32, (v = if (!b) = true then 1 else 0) → kp (F_X12_looks_265 a1 a2 (F_X12_looks_117 a1 a2 n) σ ρ v3 v4 v5 v6 x60 v) P := by
      intro v hv
      unfold F_X12_looks_265
      refine kp_gd (fun _ => kp_gd (fun _ => kp_nm (fun σ66 h66 => ?_)))
      rw [cn v60] at h66
      refine ad σ66 v5 (fun q hq => by rw [h66, s2_ne q hq]) ?_ (by rw [h5, tl])
      rw [el]
      refine ts_cons (ts_congr (ts_tail hS) (fun j hj => by rw [h66, sn (by omega)])) (by rw [h66, sv]; exact hv)
    refine kp_ih (fun d => upd 1 ?_) (fun d => upd 0 ?_)
    · rw [b0 d]; rfl
    · rw [b1 d]; rfl
  · -- both
    rw [e1] at ht len ad go
    rw [e2]
    obtain ⟨a, b, s, rfl⟩ : ∃ a b s, l = a :: b :: s := by
      cases l with
      | nil => exact (hst_no ht (Or.inr ⟨Or.inl rfl, Or.inl rfl⟩)).elim
      | cons a s =>
        cases s with
        | nil => exact (hst_no ht (Or.inr ⟨Or.inl rfl, Or.inr ⟨a, rfl⟩⟩)).elim
        | cons b s => exact ⟨a, b, s, rfl⟩
    have el : ls (σ 58) (-2) (a :: b :: s) = (b && a) :: s := rfl
    have tl : t = s.length + 1 := by rw [← len, el]; rfl
    have h5 : v5.toInt = ((s.length + 1 + 1 : Nat) : Int) := h5
    have u5 := (rg_any v5).2
    refine kp_t (by decide) (kp_f (by decide) (kp_f (by decide) (kp_nm (fun x44 hx44 => kp_nm (fun x45 hx45 => ?_)))))
    have v44 : x44.toInt = ((s.length + 1 : Nat) : Int) := by rw [hx44, ti_add (by rw [em1]; omega) (by rw [em1]; omega), em1, h5]; omega
    have v45 : x45.toInt = (s.length : Int) := by rw [hx45, ti_sub (by rw [ti_1]; omega) (by rw [ti_1]; omega), ti_1, v44]; omega
    have ha := bt0 (ts_head hS)
    have hb := bt0 (ts_head (ts_tail hS))
    have hl : (b :: s).length = s.length + 1 := rfl
    rw [hl] at ha
    have upd : ∀ v : Int32, (v = if (b && a) = true then 1 else 0) → kp (F_X12_looks_351 a1 a2 (F_X12_looks_117 a1 a2 n) σ ρ v3 v4 x44 v6 x45 v) P := by
      intro v hv
      unfold F_X12_looks_351
      refine kp_gd (fun _ => kp_gd (fun _ => kp_nm (fun σ52 h52 => ?_)))
      rw [cn v45] at h52
      refine ad σ52 x44 (fun q hq => by rw [h52, s2_ne q hq]) ?_ (by rw [v44, tl])
      rw [el]
      refine ts_cons (ts_congr (ts_tail (ts_tail hS)) (fun j hj => by rw [h52, sn (by omega)])) (by rw [h52, sv]; exact hv)
    refine kp_t rfl (kp_nm (fun x55 hx55 => kp_gd (fun _ => ?_)))
    have v55 : x55.toInt = (s.length : Int) := by rw [hx55, ti_sub (by rw [ti_1]; omega) (by rw [ti_1]; omega), ti_1, v44]; omega
    rw [cn v55]
    refine kp_ih (fun d => ?_) (fun d => kp_gd (fun _ => ?_))
    · unfold F_X12_looks_320
      refine upd 0 ?_
      rw [hb.1 d]; rfl
    · rw [cn v44]
      refine kp_ih (fun f => ?_) (fun f => upd 1 ?_)
      · unfold F_X12_looks_320
        refine upd 0 ?_
        rw [ha.1 f, Bool.and_false]; rfl
      · rw [hb.2 d, ha.2 f]; rfl
  · -- one of two
    rw [e1] at ht len ad go
    rw [e2]
    obtain ⟨a, b, s, rfl⟩ : ∃ a b s, l = a :: b :: s := by
      cases l with
      | nil => exact (hst_no ht (Or.inr ⟨Or.inr rfl, Or.inl rfl⟩)).elim
      | cons a s =>
        cases s with
        | nil => exact (hst_no ht (Or.inr ⟨Or.inr rfl, Or.inr ⟨a, rfl⟩⟩)).elim
        | cons b s => exact ⟨a, b, s, rfl⟩
    have el : ls (σ 58) (-3) (a :: b :: s) = (b || a) :: s := rfl
    have tl : t = s.length + 1 := by rw [← len, el]; rfl
    have h5 : v5.toInt = ((s.length + 1 + 1 : Nat) : Int) := h5
    have u5 := (rg_any v5).2
    refine kp_t (by decide) (kp_f (by decide) (kp_f (by decide) (kp_nm (fun x44 hx44 => kp_nm (fun x45 hx45 => ?_)))))
    have v44 : x44.toInt = ((s.length + 1 : Nat) : Int) := by rw [hx44, ti_add (by rw [em1]; omega) (by rw [em1]; omega), em1, h5]; omega
    have v45 : x45.toInt = (s.length : Int) := by rw [hx45, ti_sub (by rw [ti_1]; omega) (by rw [ti_1]; omega), ti_1, v44]; omega
    have ha := bt0 (ts_head hS)
    have hb := bt0 (ts_head (ts_tail hS))
    have hl : (b :: s).length = s.length + 1 := rfl
    rw [hl] at ha
    have upd : ∀ v : Int32, (v = if (b || a) = true then 1 else 0) → kp (F_X12_looks_351 a1 a2 (F_X12_looks_117 a1 a2 n) σ ρ v3 v4 x44 v6 x45 v) P := by
      intro v hv
      unfold F_X12_looks_351
      refine kp_gd (fun _ => kp_gd (fun _ => kp_nm (fun σ52 h52 => ?_)))
      rw [cn v45] at h52
      refine ad σ52 x44 (fun q hq => by rw [h52, s2_ne q hq]) ?_ (by rw [v44, tl])
      rw [el]
      refine ts_cons (ts_congr (ts_tail (ts_tail hS)) (fun j hj => by rw [h52, sn (by omega)])) (by rw [h52, sv]; exact hv)
    refine kp_f (by decide) (kp_nm (fun x55 hx55 => kp_gd (fun _ => ?_)))
    have v55 : x55.toInt = (s.length : Int) := by rw [hx55, ti_sub (by rw [ti_1]; omega) (by rw [ti_1]; omega), ti_1, v44]; omega
    rw [cn v55]
    refine kp_ih (fun d => kp_gd (fun _ => ?_)) (fun d => ?_)
    · rw [cn v44]
      refine kp_ih (fun f => upd 0 ?_) (fun f => ?_)
      · rw [hb.1 d, ha.1 f]; rfl
      · unfold F_X12_looks_346
        refine upd 1 ?_
        rw [ha.2 f, Bool.or_true]; rfl
    · unfold F_X12_looks_346
      refine upd 1 ?_
      rw [hb.2 d]; rfl
  · -- a test
    have e8 : (8 : Int32).toInt = 8 := rfl
    have e4 : (4 : Int32).toInt = 4 := rfl
    have e32 : (32 : Int32).toInt = 32 := rfl
    have r0 : 0 ≤ r.toInt := by omega
    have c0 : 0 ≤ c.toInt := by omega
    have l30 : l.length < 30 ∧ t = l.length + 1 := by
      unfold hst at ht
      rw [if_pos c0] at ht
      by_cases q : l.length < 30
      · rw [if_pos q] at ht; cases ht; exact ⟨q, rfl⟩
      · rw [if_neg q] at ht; cases ht
    have el : ls (σ 58) c l = tst (σ 58) c :: l := by unfold ls; rw [if_pos c0]
    refine kp_f (fun z => by have := lt_i z; rw [ti_0] at this; omega) (kp_nm (fun x67 hx67 => kp_gd (fun _ => kp_nm (fun x69 hx69 => kp_nm (fun x70 hx70 => kp_nm (fun x71 hx71 => ?_))))))
    have w67 : x67.toInt = m := by rw [hx67, ti_rem (by decide), e8, Int.tmod_eq_emod_of_nonneg r0]; omega
    have w69 : x69.toInt = r.toInt / 8 := by rw [hx69, ti_div (by decide), e8, Int.tdiv_eq_ediv_of_nonneg r0]
    have r8 : r.toInt / 8 = h + 4 * v := by omega
    have w70 : x70.toInt = h := by rw [hx70, ti_rem (by decide), e4, Int.tmod_eq_emod_of_nonneg (by omega), w69]; omega
    have w71 : x71.toInt = v := by rw [hx71, ti_div (by decide), e32, Int.tdiv_eq_ediv_of_nonneg r0]; omega
    have n67 : x67.toNatClampNeg = (c.toInt / 300).toNat := cn (by omega)
    rw [n67]
    have et : tst (σ 58) c = if h = 0 then decide ((σ 58 (c.toInt / 300).toNat).toInt < v) else if h = 1 then decide ((σ 58 (c.toInt / 300).toNat).toInt = v) else decide (v < (σ 58 (c.toInt / 300).toNat).toInt) := by
      unfold tst
      rw [show c.toInt / 100 % 3 = h by omega, show c.toInt % 100 = v by omega]
    have upd : ∀ b : Int32, (b = if tst (σ 58) c = true then 1 else 0) → kp (F_X12_looks_227 a1 a2 (F_X12_looks_117 a1 a2 n) σ ρ v3 v4 v5 v6 v5 b) P := by
      intro b hb
      unfold F_X12_looks_227
      refine kp_gd (fun _ => kp_gd (fun _ => kp_nm (fun σ77 h77 => kp_nm (fun x78 h78 => ?_))))
      rw [cn h5] at h77
      refine ad σ77 x78 (fun q hq => by rw [h77, s2_ne q hq]) ?_ (by rw [h78, ti_add (by rw [ti_1]; omega) (by rw [ti_1]; omega), ti_1, h5, l30.2]; omega)
      rw [el]
      refine ts_cons (ts_congr hS (fun j hj => by rw [h77, sn (by omega)])) (by rw [h77, sv]; exact hb)
    refine kp_ih (fun d => ?_) (fun d => ?_)
    · have h0 : h = 0 := by rw [← w70, d]; rfl
      rw [if_pos h0] at et
      refine kp_ih (fun f => upd 0 ?_) (fun f => upd 1 ?_)
      · have := le_i f
        rw [et, if_neg (by simp; omega)]
      · have := lt_i (nle f)
        rw [et, if_pos (by simp; omega)]
    · have h0 : ¬ h = 0 := fun z => d (ieq (by rw [w70, z]; rfl))
      rw [if_neg h0] at et
      refine kp_ih (fun d' => ?_) (fun d' => ?_)
      · have h1 : h = 1 := by rw [← w70, d']; rfl
        rw [if_pos h1] at et
        refine kp_ih (fun f => upd 1 ?_) (fun f => upd 0 ?_)
        · rw [et, if_pos (by simp; rw [f]; omega)]
        · rw [et, if_neg (by simp; intro z; exact f (ieq (by omega)))]
      · have h1 : ¬ h = 1 := fun z => d' (ieq (by rw [w70, z]; rfl))
        rw [if_neg h1] at et
        refine kp_ih (fun f => upd 0 ?_) (fun f => upd 1 ?_)
        · have := le_i f
          rw [et, if_neg (by simp; omega)]
        · have := lt_i (nle f)
          rw [et, if_pos (by simp; omega)]
/-- the end of a clause -/
theorem k_lend {a1 a2 v3 v4 v5 v6 p am r : Int32} {σ : SG} {ρ : RG} {b : Bool} {P : SG → Prop} (T : TM p am r) (h6 : 0 ≤ v6.toInt) (h9 : v6.toInt < 909) (hr : σ 55 v6.toNatClampNeg = r) (lt : v6.toInt < (v4 + v3).toInt) (hS : TS (σ 59) [b]) (n : Nat) (go : ∀ (n' : Nat) (σ' : SG) (x6 : Int32), LF σ σ' → (σ' 54 12 = if p = 0 ∧ b = true then σ 54 12 + am else σ 54 12) → (σ' 54 13 = if p = 1 ∧ b = true then σ 54 13 + am else σ 54 13) → x6.toInt = v6.toInt + 1 → kp (F_X12_looks_117 a1 a2 n' σ' ρ v3 v4 0 x6) P) : kp (F_X12_looks_117 a1 a2 n σ ρ v3 v4 v5 v6) P := by
  cases n with
  | zero => exact kp_none
  | succ n =>
  have em10 : (-10 : Int32).toInt = -10 := rfl
  have em200 : (-200 : Int32).toInt = -200 := rfl
  have em1 : (-1 : Int32).toInt = -1 := rfl
  obtain ⟨⟨am0, am1⟩, hp⟩ := T
  have hr' : (p = 0 ∧ r.toInt = -10 - am.toInt ∧ -10 - r = am) ∨ (p = 1 ∧ r.toInt = -200 - am.toInt ∧ -200 - r = am) := by
    rcases hp with ⟨p0, e⟩ | ⟨p0, e⟩
    · have er : r.toInt = -10 - am.toInt := by rw [e, ti_sub (by omega) (by omega), em10]
      exact Or.inl ⟨p0, er, ieq (by rw [ti_sub (by omega) (by omega), em10]; omega)⟩
    · have er : r.toInt = -200 - am.toInt := by rw [e, ti_sub (by omega) (by omega), em200]
      exact Or.inr ⟨p0, er, ieq (by rw [ti_sub (by omega) (by omega), em200]; omega)⟩
  have hd := bt0 (ts_head hS)
  have hl : ([] : List Bool).length = 0 := rfl
  rw [hl] at hd
  -- the two sums
  have fin : ∀ (k1 k2 : Int32) (v8 : Int32), v8 = σ 59 0 → (σ 54 12 + 0 = k1 → True) → (∀ x : Int32, x = k1 + k2 → x = if p = 0 ∧ b = true then σ 54 12 + am else σ 54 12) → kp (F_X12_looks_393 a1 a2 (F_X12_looks_117 a1 a2 n) σ ρ v3 v4 0 v6 r v8 k1 k2) P := by
    intro k1 k2 v8 hv8 _ hx
    unfold F_X12_looks_393
    refine kp_nm (fun x32 h32 => kp_nm (fun σ34 h34 => ?_))
    have e12 : σ34 54 12 = if p = 0 ∧ b = true then σ 54 12 + am else σ 54 12 := by rw [h34, sv]; exact hx x32 h32
    have e13 : σ34 54 13 = σ 54 13 := by rw [h34, sn (by omega)]
    have f34 : LF σ σ34 := fun r' k n1 n2 => by rw [h34, sn (by omega)]
    have last : ∀ (k1 k2 : Int32), (∀ x : Int32, x = k1 + k2 → x = if p = 1 ∧ b = true then σ 54 13 + am else σ 54 13) → kp (F_X12_looks_425 a1 a2 (F_X12_looks_117 a1 a2 n) σ34 ρ v3 v4 0 v6 k1 k2) P := by
      intro k1 k2 hy
      unfold F_X12_looks_425
      refine kp_nm (fun x36 h36 => kp_nm (fun σ38 h38 => ?_))
      unfold F_X12_looks_429
      refine kp_nm (fun x39 h39 => go n σ38 x39 (lf_trans f34 (fun r' k n1 n2 => by rw [h38, sn (by omega)])) (by rw [h38, sn (by omega)]; exact e12) (by rw [h38, sv]; exact hy x36 h36) ?_)
      rw [h39, ti_add (by rw [ti_1]; omega) (by rw [ti_1]; omega), ti_1]
    rw [hv8]
    refine kp_ih (fun d => ?_) (fun d => kp_ih (fun f => ?_) (fun f => kp_nm (fun x41 h41 => ?_)))
    · unfold F_X12_looks_424
      refine last _ _ (fun x hx => ?_)
      rw [hx, e13, Int32.add_zero, if_neg]
      rintro ⟨_, z⟩; rw [hd.1 d] at z; cases z
    · unfold F_X12_looks_424
      refine last _ _ (fun x hx => ?_)
      rw [hx, e13, Int32.add_zero, if_neg]
      rintro ⟨z, _⟩
      have := lt_i f
      rcases hr' with ⟨q, _, _⟩ | ⟨q, q', _⟩
      · rw [q] at z; exact absurd z (by decide)
      · rw [em200] at this; omega
    · refine last _ _ (fun x hx => ?_)
      have := le_i (nlt f)
      rcases hr' with ⟨q, q', _⟩ | ⟨q, _, q''⟩
      · rw [em200] at this; omega
      · rw [hx, h41, q'', e13, if_pos ⟨q, hd.2 d⟩]
  have r10 : r.toInt ≤ -10 := by rcases hr' with ⟨_, q, _⟩ | ⟨_, q, _⟩ <;> omega
  unfold F_X12_looks_117
  refine kp_nm (fun x25 hx25 => kp_f (fun z => by have := le_i z; rw [hx25] at this; omega) (kp_gd (fun _ => ?_)))
  rw [hr]
  refine kp_t (i_lt (by rw [ti_0]; omega)) (kp_f (fun z => by rw [z, em1] at r10; omega) (kp_t (i_le (by rw [em10]; exact r10)) (kp_ih (fun d => ?_) (fun d => kp_ih (fun f => ?_) (fun f => kp_nm (fun x43 h43 => ?_))))))
  · unfold F_X12_looks_392
    refine fin _ _ _ rfl (fun _ => trivial) (fun x hx => ?_)
    rw [hx, Int32.add_zero, if_neg]
    rintro ⟨_, z⟩; rw [hd.1 d] at z; cases z
  · unfold F_X12_looks_392
    refine fin _ _ _ rfl (fun _ => trivial) (fun x hx => ?_)
    rw [hx, Int32.add_zero, if_neg]
    rintro ⟨z, _⟩
    have := le_i f
    rcases hr' with ⟨_, q, _⟩ | ⟨q, _, _⟩
    · rw [em200] at this; omega
    · rw [q] at z; exact absurd z (by decide)
  · refine fin _ _ _ rfl (fun _ => trivial) (fun x hx => ?_)
    have := lt_i (nle f)
    rcases hr' with ⟨q, _, q''⟩ | ⟨_, q, _⟩
    · rw [hx, h43, q'', if_pos ⟨q, hd.2 d⟩]
    · rw [em200] at this; omega
/-- one clause -/
theorem k_lclause {a1 a2 v3 v4 p am : Int32} {ρ : RG} {cd : Nat → Int32} {R g : Nat → Int32} {base i e : Nat} {P : SG → Prop} (hv4 : v4.toInt = (base : Int)) (hsum : (v4 + v3).toInt = v4.toInt + v3.toInt) (hTM : TM p am (R (base + (e + i)))) (hbe : base + e + i < 909) (hmany : ((e + i : Nat) : Int) < v3.toInt) : ∀ (k n : Nat) (σ : SG) (l : List Bool) (q : Nat) (v5 v6 : Int32), q + k = e → (∀ j, q ≤ j → j < e → TR (cd j) (R (base + (j + i)))) → v6.toInt = ((base + q + i : Nat) : Int) → v5.toInt = (l.length : Int) → TS (σ 59) l → hrun cd k q l.length = some 1 → (∀ j, j < 909 → σ 55 j = R j) → σ 58 = g → (∀ (n' : Nat) (σ' : SG) (x6 : Int32), LF σ σ' → (σ' 54 12 = if p = 0 ∧ (lrun g cd k q l).getD 0 false = true then σ 54 12 + am else σ 54 12) → (σ' 54 13 = if p = 1 ∧ (lrun g cd k q l).getD 0 false = true then σ 54 13 + am else σ 54 13) → x6.toInt = ((base + e + i + 1 : Nat) : Int) → kp (F_X12_looks_117 a1 a2 n' σ' ρ v3 v4 0 x6) P) → kp (F_X12_looks_117 a1 a2 n σ ρ v3 v4 v5 v6) P := by
  intro k
  induction k with
  | zero =>
    intro n σ l q v5 v6 hq hTR h6 h5 hS hh hR hg go
    have eq : q = e := by omega
    subst eq
    have hl : l.length = 1 := by
      have : some l.length = some 1 := hh
      exact Option.some.inj this
    obtain ⟨b, rfl⟩ : ∃ b, l = [b] := by
      cases l with
      | nil => cases hl
      | cons b s =>
        cases s with
        | nil => exact ⟨b, rfl⟩
        | cons _ _ => simp at hl
    refine k_lend hTM (by omega) (by omega) ?_ (by rw [hsum]; omega) hS n (fun n' σ' x6 q1 q2 q3 q4 => go n' σ' x6 q1 q2 q3 (by omega))
    rw [cn h6, hR _ (by omega), show base + q + i = base + (q + i) by omega]
  | succ k ih =>
    intro n σ l q v5 v6 hq hTR h6 h5 hS hh hR hg go
    obtain ⟨t, ht, hh2⟩ : ∃ t, hst (cd q) l.length = some t ∧ hrun cd k (q + 1) t = some 1 := by
      have e : hrun cd (k + 1) q l.length = (hst (cd q) l.length).bind (hrun cd k (q + 1)) := rfl
      rw [e] at hh
      cases z : hst (cd q) l.length with
      | none => rw [z] at hh; cases hh
      | some t => rw [z] at hh; exact ⟨t, rfl, hh⟩
    refine k_lstep (hTR q (Nat.le_refl _) (by omega)) (by omega) (by omega) ?_ (by rw [hsum]; omega) hS h5 ht n (fun n' σ' x5 x6 q1 q2 q3 q4 => ?_)
    · rw [cn h6, hR _ (by omega), show base + q + i = base + (q + i) by omega]
    · have len := ls_len (g := σ 58) ht
      refine ih n' σ' _ (q + 1) x5 x6 (by omega) (fun j j1 j2 => hTR j (by omega) j2) (by omega) (by rw [len]; exact q3) q2 (by rw [len]; exact hh2) (fun j hj => by rw [q1 55 (by decide)]; exact hR j hj) (by rw [q1 58 (by decide)]; exact hg) (fun n2 σ2 y6 w1 w2 w3 w4 => ?_)
      have f : LF σ σ' := fun r k' n1 _ => by rw [q1 r n1]
      rw [q1 54 (by decide)] at w2 w3
      rw [← hg] at go w2 w3
      exact go n2 σ2 y6 (lf_trans f w1) w2 w3 w4
/-- all clauses -/
theorem k_lall {a1 a2 v3 v4 : Int32} {ρ : RG} {cd pu am en R g : Nat → Int32} {base ca : Nat} (hv4 : v4.toInt = (base : Int)) (hsum : (v4 + v3).toInt = v4.toInt + v3.toInt) (hC : CDR cd pu am en (fun k => R (base + k)) ca) (hm : v3.toInt = (ca : Int) + (fre en ca : Int)) (hb : base + 140 ≤ 909) (hle : fre en ca + ca ≤ 140) : ∀ (k i n : Nat) (σ : SG) (v6 : Int32), i + k = ca → v6.toInt = ((base + fre en i + i : Nat) : Int) → (∀ j, j < 909 → σ 55 j = R j) → σ 58 = g → σ 54 12 = asum g cd pu am en 0 i → σ 54 13 = asum g cd pu am en 1 i → kp (F_X12_looks_117 a1 a2 n σ ρ v3 v4 0 v6) (fun q => LF σ q ∧ q 54 12 = asum g cd pu am en 0 ca ∧ q 54 13 = asum g cd pu am en 1 ca) := by
  intro k
  induction k with
  | zero =>
    intro i n σ v6 hi h6 hR hg a0 a1'
    have e : i = ca := by omega
    subst e
    cases n with
    | zero => exact kp_none
    | succ n =>
      unfold F_X12_looks_117
      refine kp_nm (fun x25 hx25 => kp_t (i_le ?_) (kp_some ⟨fun _ _ _ _ => rfl, a0, a1'⟩))
      rw [hx25, hsum]; omega
  | succ k ih =>
    intro i n σ v6 hi h6 hR hg a0 a1'
    obtain ⟨⟨c1, c2⟩, c3, c4, c5⟩ := hC i (by omega)
    have le := cdr_le hC ca i (by omega) (Nat.le_refl _)
    have ef : fre en (i + 1) = (en i).toNatClampNeg := by unfold fre; rw [if_neg (by omega)]; rfl
    refine k_lclause (p := pu i) (am := am i) (cd := cd) (R := R) (g := g) (base := base) (i := i) (e := (en i).toNatClampNeg) hv4 hsum c4 (by omega) (by omega) ((en i).toNatClampNeg - fre en i) n σ [] (fre en i) 0 v6 (by omega) (fun j j1 j2 => c3 j j1 j2) h6 rfl (fun j hj => absurd hj (Nat.not_lt_zero _)) c5 hR hg (fun n' σ' x6 q1 q2 q3 q4 => ?_)
    have s0 : σ' 54 12 = asum g cd pu am en 0 (i + 1) := by rw [q2, a0]; rfl
    have s1 : σ' 54 13 = asum g cd pu am en 1 (i + 1) := by rw [q3, a1']; rfl
    refine kp_mono (ih (i + 1) n' σ' x6 (by omega) (by rw [ef]; omega) (fun j hj => by rw [q1 55 j (by decide) (by omega)]; exact hR j hj) (funext (fun j => by rw [q1 58 j (by decide) (by omega), hg])) s0 s1) (fun q hq => ⟨lf_trans q1 hq.1, hq.2⟩)
/-! what the board that holds tells -/
theorem k_tells {ob w : Nat} {a1 a2 : Int32} {σ τ : SG} {ρ : RG} (H : HB ob 55 σ τ) (hw : (w = 0 ∧ a1 = 194 ∧ a2 = 3) ∨ (w = 1 ∧ a1 = 199 ∧ a2 = 10)) : kp (F_X12_tellsOf a1 a2 τ ρ) (fun q => q = σ ob w) := by
  have e194 : (194 : Int32).toInt = 194 := rfl
  have e199 : (199 : Int32).toInt = 199 := rfl
  unfold F_X12_tellsOf
  rcases H with ⟨a, b, c, d⟩ | ⟨b, ca, b5, e16, e12, c10, v0, v1, v2, v3, v4, R⟩
  · refine kp_t a (kp_some ?_)
    rcases hw with ⟨x, _, y⟩ | ⟨x, _, y⟩
    · rw [x, y, b]
    · rw [x, y, c]
  · refine kp_f (fun z => by rw [z] at e16; have : (-1 : Int32).toInt = -1 := rfl; omega) (kp_nm (fun x2 h2 => kp_gd (fun _ => kp_some ?_)))
    rcases hw with ⟨x, y, _⟩ | ⟨x, y, _⟩
    · rw [x, v0, cn (x := x2) (z := 194 + b) (by rw [h2, y, ti_add (by omega) (by omega), e194, e16]; omega)]
    · rw [x, v1, cn (x := x2) (z := 199 + b) (by rw [h2, y, ti_add (by omega) (by omega), e199, e16]; omega)]
def LF8 (σ σ' : SG) : Prop := ∀ r k, r ≠ 58 → r ≠ 59 → ¬ (r = 54 ∧ (k = 12 ∨ k = 13)) → σ' r k = σ r k
def babs (v : Int32) : Int32 := if 0 ≤ v then v else 0 - v
theorem k_size {a : Int32} {σ : SG} {ρ : RG} : kp (F_X12_size a σ ρ) (fun q => q = babs a) := by
  unfold F_X12_size babs
  refine kp_ih (fun c => kp_some (by rw [if_pos c])) (fun c => kp_nm (fun x hx => kp_some (by rw [if_neg c, hx, Int32.zero_sub])))
theorem k_looks {ob j : Nat} {a1 a2 : Int32} {σ τ : SG} {ρ : RG} (H : HB ob 55 σ τ) (ha : a1.toInt = (j : Int)) (hj : j < 6) : kp (F_X12_looks a1 a2 τ ρ) (fun q => LF8 τ q ∧ (q 58 0 = a1 ∧ q 58 1 = τ 55 (20 + j) ∧ q 58 2 = a2 ∧ q 58 3 = babs (τ 55 1) ∧ q 58 4 = τ 55 0 / 10 ∧ q 58 5 = τ 55 3 - τ 55 3 / 10 * 10) ∧ q 54 12 = asum (q 58) (σ (ob + 4)) (σ (ob + 1)) (σ (ob + 2)) (σ (ob + 3)) 0 (σ ob 2).toNatClampNeg ∧ q 54 13 = asum (q 58) (σ (ob + 4)) (σ (ob + 1)) (σ (ob + 2)) (σ (ob + 3)) 1 (σ ob 2).toNatClampNeg) := by
  have e20 : (20 : Int32).toInt = 20 := rfl
  have e140 : (140 : Int32).toInt = 140 := rfl
  have e204 : (204 : Int32).toInt = 204 := rfl
  have e209 : (209 : Int32).toInt = 209 := rfl
  have em1 : (-1 : Int32).toInt = -1 := rfl
  unfold F_X12_looks
  refine kp_nm (fun σ2 h2 => kp_nm (fun x3 h3 => kp_gd (fun _ => kp_nm (fun σ6 h6 => kp_nm (fun σ8 h8 => kp_bn k_size (fun r9 h9 => kp_nm (fun σ11 h11 => kp_nm (fun x12 h12 => kp_nm (fun σ14 h14 => kp_nm (fun x15 h15 => kp_nm (fun σ17 h17 => kp_nm (fun σ19 h19 => kp_nm (fun σ21 h21 => ?_)))))))))))))
  have v3 : x3.toInt = 20 + (j : Int) := by rw [h3, ti_add (by omega) (by omega), e20, ha]
  rw [cn (z := 20 + j) (by omega)] at h6
  have o2 : ∀ r k, r ≠ 58 → σ2 r k = τ r k := fun r k n => by rw [h2, sn (by omega)]
  have o6 : ∀ r k, r ≠ 58 → σ6 r k = τ r k := fun r k n => by rw [h6, sn (by omega), o2 r k n]
  have o8 : ∀ r k, r ≠ 58 → σ8 r k = τ r k := fun r k n => by rw [h8, sn (by omega), o6 r k n]
  have o11 : ∀ r k, r ≠ 58 → σ11 r k = τ r k := fun r k n => by rw [h11, sn (by omega), o8 r k n]
  have o14 : ∀ r k, r ≠ 58 → σ14 r k = τ r k := fun r k n => by rw [h14, sn (by omega), o11 r k n]
  have o17 : ∀ r k, r ≠ 58 → σ17 r k = τ r k := fun r k n => by rw [h17, sn (by omega), o14 r k n]
  have o21 : ∀ r k, r ≠ 58 → ¬ (r = 54 ∧ (k = 12 ∨ k = 13)) → σ21 r k = τ r k := fun r k n n' => by rw [h21, sn (by omega), h19, sn (by omega), o17 r k n]
  have k21 : ∀ k, σ21 58 k = σ17 58 k := fun k => by rw [h21, sn (by omega), h19, sn (by omega)]
  have b0 : σ21 58 0 = a1 := by rw [k21, h17, sn (by omega), h14, sn (by omega), h11, sn (by omega), h8, sn (by omega), h6, sn (by omega), h2, sv]
  have b1 : σ21 58 1 = τ 55 (20 + j) := by rw [k21, h17, sn (by omega), h14, sn (by omega), h11, sn (by omega), h8, sn (by omega), h6, sv, o2 55 _ (by omega)]
  have b2 : σ21 58 2 = a2 := by rw [k21, h17, sn (by omega), h14, sn (by omega), h11, sn (by omega), h8, sv]
  have b3 : σ21 58 3 = babs (τ 55 1) := by rw [k21, h17, sn (by omega), h14, sn (by omega), h11, sv, h9, o8 55 1 (by omega)]
  have b4 : σ21 58 4 = τ 55 0 / 10 := by rw [k21, h17, sn (by omega), h14, sv, h12, o11 55 0 (by omega)]
  have b5 : σ21 58 5 = τ 55 3 - τ 55 3 / 10 * 10 := by rw [k21, h17, sv, h15, o14 55 3 (by omega)]
  have z12 : σ21 54 12 = 0 := by rw [h21, sn (by omega), h19, sv]
  have z13 : σ21 54 13 = 0 := by rw [h21, sv]
  have e55 : ∀ k, σ21 55 k = τ 55 k := fun k => o21 55 k (by omega) (by omega)
  have fin : ∀ q : SG, LF σ21 q → q 54 12 = asum (σ21 58) (σ (ob + 4)) (σ (ob + 1)) (σ (ob + 2)) (σ (ob + 3)) 0 (σ ob 2).toNatClampNeg → q 54 13 = asum (σ21 58) (σ (ob + 4)) (σ (ob + 1)) (σ (ob + 2)) (σ (ob + 3)) 1 (σ ob 2).toNatClampNeg → LF8 τ q ∧ (q 58 0 = a1 ∧ q 58 1 = τ 55 (20 + j) ∧ q 58 2 = a2 ∧ q 58 3 = babs (τ 55 1) ∧ q 58 4 = τ 55 0 / 10 ∧ q 58 5 = τ 55 3 - τ 55 3 / 10 * 10) ∧ q 54 12 = asum (q 58) (σ (ob + 4)) (σ (ob + 1)) (σ (ob + 2)) (σ (ob + 3)) 0 (σ ob 2).toNatClampNeg ∧ q 54 13 = asum (q 58) (σ (ob + 4)) (σ (ob + 1)) (σ (ob + 2)) (σ (ob + 3)) 1 (σ ob 2).toNatClampNeg := by
    intro q hq q12 q13
    have e58 : q 58 = σ21 58 := funext (fun k => hq 58 k (by decide) (by omega))
    rw [e58]
    exact ⟨fun r k n1 n2 n3 => (hq r k n2 n3).trans (o21 r k n1 n3), ⟨b0, b1, b2, b3, b4, b5⟩, q12, q13⟩
  rcases H with ⟨a, b, c, d⟩ | ⟨b, ca, b5', e16, e12, c10, v0, v1, v2, v3', v4, R⟩
  · -- no board
    have n0 : (σ ob 2).toNatClampNeg = 0 := by rw [d]; rfl
    rw [n0] at fin ⊢
    refine kp_bn (Q := fun q => q = 0) ?_ (fun r22 h22 => kp_nm (fun x23 h23 => kp_nm (fun x24 h24 => ?_)))
    · unfold F_X12_tellsOf
      exact kp_t (by rw [e55]; exact a) (kp_some rfl)
    · show kp (F_X12_looks_117 a1 a2 (1023 + 1) σ21 ρ r22 x24 0 x24) _
      unfold F_X12_looks_117
      refine kp_nm (fun x25 h25 => kp_t (i_le ?_) (kp_some (fin σ21 (fun _ _ _ _ => rfl) z12 z13)))
      rw [h25, h22, Int32.add_zero]; exact Int.le_refl _
  · have n0 : (σ ob 2).toNatClampNeg = ca := cn v2
    rw [n0] at fin ⊢
    refine kp_bn (Q := fun q => q.toInt = (ca : Int) + (fre (σ (ob + 3)) ca : Int)) ?_ (fun r22 h22 => kp_nm (fun x23 h23 => kp_nm (fun x24 h24 => ?_)))
    · unfold F_X12_tellsOf
      refine kp_f (fun z => by rw [e55] at z; rw [z, em1] at e16; omega) (kp_nm (fun x2 g2 => kp_gd (fun _ => kp_some ?_)))
      rw [e55] at g2
      rw [cn (x := x2) (z := 204 + b) (by rw [g2, ti_add (by omega) (by omega), e204, e16]; omega), e55]
      exact v3'
    · rw [e55] at h23
      have w23 : x23.toInt = 140 * (b : Int) := by rw [h23, Int32.toInt_mul, e140, e16, bmod_id (by omega) (by omega)]
      have w24 : x24.toInt = ((209 + 140 * b : Nat) : Int) := by rw [h24, ti_add (by omega) (by omega), e209, w23]; omega
      refine kp_mono (k_lall (cd := σ (ob + 4)) (pu := σ (ob + 1)) (am := σ (ob + 2)) (en := σ (ob + 3)) (R := τ 55) (g := σ21 58) (base := 209 + 140 * b) (ca := ca) w24 (ti_add (by omega) (by omega)) R (by omega) (by omega) (by omega) ca 0 1024 σ21 x24 (by omega) (by rw [w24]; show _ = ((209 + 140 * b + 0 + 0 : Nat) : Int); omega) (fun k _ => e55 k) rfl z12 z13) (fun q hq => fin q hq.1 hq.2.1 hq.2.2)
