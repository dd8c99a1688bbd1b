/-! PART 74.rl: printed by wip/gen/rl26.py: the two tables -/
theorem kp_bnT {α γ : Type} {o : Option (α × TT)} {f : α → Nat → (Nat → Nat) → (Nat → Nat) → SG → RG → Option γ} {Q : α × TT → Prop} {P : γ → Prop} (ho : kp o Q) (h : ∀ a N K len σ ρ, Q (a, N, K, len, σ, ρ) → kp (f a N K len σ ρ) P) : kp (bnT o f) P := by
  cases o with
  | none => exact fun _ e => by cases e
  | some q =>
    obtain ⟨a, N, K, len, σ, ρ⟩ := q
    exact h a N K len σ ρ (ho _ rfl)
theorem kp_ok {α : Type} {o : Option α} {P : α → Prop} (h : ok o P) : kp o P := by
  obtain ⟨a, e, p⟩ := h
  intro b e'
  rw [e] at e'
  cases e'
  exact p
def RTB (σ : SG) : Prop := σ 1 1 = σ 55 11 ∧ σ 1 10 = σ 55 13 ∧ (σ 0 2 = 0 ↔ σ 54 4 = 0) ∧ (¬ σ 54 4 = 0 → σ 14 1 = σ 56 11 ∧ σ 14 10 = σ 56 13)
theorem kc_hirow {σ σ' : SG} (h : KC σ σ') {r k : Nat} (h1 : 54 ≤ r) (h2 : r < 65) : σ' r k = σ r k := h r k (by
  unfold kcP
  rw [Nat.ble_eq.mpr h1, Nat.blt_eq.mpr h2]
  simp)
theorem rl_c {σ σ' : SG} (h : KC σ σ') (R : RTB σ) : RTB σ' := by
  obtain ⟨a, b, c, d⟩ := R
  unfold RTB
  rw [h 1 1 rfl, h 1 10 rfl, h 0 2 rfl, h 14 1 rfl, h 14 10 rfl, h 55 11 rfl, h 55 13 rfl, h 54 4 rfl, h 56 11 rfl, h 56 13 rfl]
  exact ⟨a, b, c, d⟩
theorem rl_r {σ σ' : SG} (h : KR σ σ') (h1 : σ' 55 11 = σ 55 11) (h2 : σ' 55 13 = σ 55 13) (R : RTB σ) : RTB σ' := by
  obtain ⟨a, b, c, d⟩ := R
  unfold RTB
  rw [h 1 1 rfl, h 1 10 rfl, h 0 2 rfl, h 14 1 rfl, h 14 10 rfl, h1, h2, h 54 4 rfl, h 56 11 rfl, h 56 13 rfl]
  exact ⟨a, b, c, d⟩
theorem rl_bf {m : Int} {σ σ' : SG} (h : KR σ σ') (h1 : BF (σ 55) m σ') (R : RTB σ) : RTB σ' := rl_r h (h1.2 11 (by decide)) (h1.2 13 (by decide)) R
theorem rl_a {σ σ' : SG} (h : KR σ σ') (h1 : KA σ σ') (R : RTB σ) : RTB σ' := rl_r h (h1 55 11 rfl) (h1 55 13 rfl) R
/-- all cells but one of the class's table -/
def KE (x : Nat) (σ σ' : SG) : Prop := ∀ r k, kcP r k = true → ¬ (r = 1 ∧ k = x) → σ' r k = σ r k
theorem ke_set {σ : SG} {x : Nat} {v : Int32} : KE x σ (s2 σ 1 x v) := fun r k _ n => by
  rw [s2_at]
  by_cases e : r = 1
  · rw [if_pos e, if_neg (fun q => n ⟨e, q⟩), e]
  · rw [if_neg e]
theorem ke_kc {x : Nat} {σ σ1 σ2 : SG} (h : KC σ σ1) (h' : KE x σ1 σ2) : KE x σ σ2 := fun r k p n => (h' r k p n).trans (h r k p)
theorem rl_week {σ σ1 σ2 : SG} {v : Int32} (hc : KE 10 σ σ1) (hr : KR σ1 σ2) (h1 : σ2 55 11 = σ1 55 11) (e1 : σ1 1 10 = v) (e2 : σ2 55 13 = v) (R : RTB σ) : RTB σ2 := by
  obtain ⟨a, b, c, d⟩ := R
  have u : ∀ r k, kcP r k = true → ¬ (r = 1 ∧ k = 10) → σ1 r k = σ r k := hc
  unfold RTB
  rw [hr 1 1 rfl, hr 1 10 rfl, hr 0 2 rfl, hr 14 1 rfl, hr 14 10 rfl, h1, e2, e1, hr 54 4 rfl, hr 56 11 rfl, hr 56 13 rfl, u 1 1 rfl (by decide), u 0 2 rfl (by decide), u 14 1 rfl (by decide), u 14 10 rfl (by decide), u 55 11 rfl (by decide), u 54 4 rfl (by decide), u 56 11 rfl (by decide), u 56 13 rfl (by decide)]
  exact ⟨a, rfl, c, d⟩
theorem rl_cut {σ σ1 σ2 : SG} {v : Int32} (hc : KE 1 σ σ1) (hr : KR σ1 σ2) (h1 : σ2 55 13 = σ1 55 13) (e1 : σ1 1 1 = v) (e2 : σ2 55 11 = v) (R : RTB σ) : RTB σ2 := by
  obtain ⟨a, b, c, d⟩ := R
  have u : ∀ r k, kcP r k = true → ¬ (r = 1 ∧ k = 1) → σ1 r k = σ r k := hc
  unfold RTB
  rw [hr 1 1 rfl, hr 1 10 rfl, hr 0 2 rfl, hr 14 1 rfl, hr 14 10 rfl, h1, e2, e1, hr 54 4 rfl, hr 56 11 rfl, hr 56 13 rfl, u 1 10 rfl (by decide), u 0 2 rfl (by decide), u 14 1 rfl (by decide), u 14 10 rfl (by decide), u 55 13 rfl (by decide), u 54 4 rfl (by decide), u 56 11 rfl (by decide), u 56 13 rfl (by decide)]
  exact ⟨rfl, b, c, d⟩
/-! what is within -/
theorem in_0 {a l h : Int32} {σ : SG} {ρ : RG} : ok (F_X12_in a l h σ ρ) (fun q => rg q 0 1 ∧ (¬ q = 0 ↔ l ≤ a ∧ a ≤ h)) := by
  unfold F_X12_in
  refine ok_if (fun c => ok_some ⟨⟨by decide, by decide⟩, fun n => absurd rfl n, fun q => absurd (Int32.lt_iff_toInt_lt.mp c) (by have := Int32.le_iff_toInt_le.mp q.1; omega)⟩) (fun c => ok_if (fun d => ok_some ⟨⟨by decide, by decide⟩, fun n => absurd rfl n, fun q => absurd (Int32.lt_iff_toInt_lt.mp d) (by have := Int32.le_iff_toInt_le.mp q.2; omega)⟩) (fun d => ok_some ⟨⟨by decide, by decide⟩, fun _ => ⟨nlt c, nlt d⟩, fun _ => by decide⟩))
theorem wi_0 {a l h : Int32} {σ : SG} {ρ : RG} : ok (F_X11_isWithin a l h σ ρ) (fun q => rg q 0 1 ∧ (¬ q = 0 ↔ l ≤ a ∧ a ≤ h)) := by
  unfold F_X11_isWithin
  refine ok_if (fun c => ok_some ⟨⟨by decide, by decide⟩, fun n => absurd rfl n, fun q => absurd (Int32.lt_iff_toInt_lt.mp c) (by have := Int32.le_iff_toInt_le.mp q.1; omega)⟩) (fun c => ok_if (fun d => ok_some ⟨⟨by decide, by decide⟩, fun n => absurd rfl n, fun q => absurd (Int32.lt_iff_toInt_lt.mp d) (by have := Int32.le_iff_toInt_le.mp q.2; omega)⟩) (fun d => ok_some ⟨⟨by decide, by decide⟩, fun _ => ⟨nlt c, nlt d⟩, fun _ => by decide⟩))
theorem sl_0 {a : Int32} {σ : SG} {ρ : RG} : ok (F_X11_isSlope a σ ρ) (fun q => ¬ q = 0 ↔ (-99 : Int32) ≤ a ∧ a ≤ (99 : Int32)) := by
  unfold F_X11_isSlope
  exact ok_bn wi_0 (fun r h => ok_gd (rg_isb h.1) (ok_some h.2))
theorem th_0 {a : Int32} {σ : SG} {ρ : RG} : ok (F_X11_isThick a σ ρ) (fun q => ¬ q = 0 ↔ (1 : Int32) ≤ a ∧ a ≤ (40 : Int32)) := by
  unfold F_X11_isThick
  exact ok_bn wi_0 (fun r h => ok_gd (rg_isb h.1) (ok_some h.2))
theorem ok_and {α : Type} {o : Option α} {P Q : α → Prop} (h : ok o P) (h' : ok o Q) : ok o (fun q => P q ∧ Q q) := by
  obtain ⟨a, e, p⟩ := h
  obtain ⟨b, e', q⟩ := h'
  rw [e] at e'
  cases e'
  exact ⟨a, e, p, q⟩
def seeA (a1 a2 : Int32) : Int32 := if (-99 : Int32) ≤ a1 ∧ a1 ≤ (99 : Int32) ∧ (-99 : Int32) ≤ a2 ∧ a2 ≤ (99 : Int32) then 1 else -2
theorem see_11 {a1 a2 : Int32} {σ : SG} {ρ : RG} : ok (F_X11_see a1 a2 σ ρ) (fun q => q.1 = seeA a1 a2) := by
  unfold F_X11_see
  refine ok_bn sl_0 (fun r1 h1 => ok_if (fun c => ok_some ?_) (fun c => ok_bn sl_0 (fun r3 h3 => ok_if (fun d => ok_some ?_) (fun d => ok_nm (fun _ _ => ok_nm (fun _ _ => ok_some ?_))))))
  · exact (if_neg (fun q => h1.mpr ⟨q.1, q.2.1⟩ c)).symm
  · exact (if_neg (fun q => h3.mpr ⟨q.2.2.1, q.2.2.2⟩ d)).symm
  · exact (if_pos ⟨(h1.mp c).1, (h1.mp c).2, (h3.mp d).1, (h3.mp d).2⟩).symm
theorem see_12 {a1 a2 : Int32} {σ : SG} {ρ : RG} : ok (F_X12_see a1 a2 σ ρ) (fun q => q.1 = seeA a1 a2) := by
  unfold F_X12_see
  refine ok_bn in_0 (fun r1 h1 => ok_if (fun c => ok_some ?_) (fun c => ok_bn in_0 (fun r3 h3 => ok_if (fun d => ok_some ?_) (fun d => ok_nm (fun _ _ => ok_nm (fun _ _ => ok_some ?_))))))
  · exact (if_neg (fun q => h1.2.mpr ⟨q.1, q.2.1⟩ c)).symm
  · exact (if_neg (fun q => h3.2.mpr ⟨q.2.2.1, q.2.2.2⟩ d)).symm
  · exact (if_pos ⟨(h1.2.mp c).1, (h1.2.mp c).2, (h3.2.mp d).1, (h3.2.mp d).2⟩).symm
/-! week, clear -/
def wkA (a c : Int32) : Int32 := if (-99 : Int32) ≤ a ∧ a ≤ (99 : Int32) then (if c < (4 : Int32) then c + 1 else -4) else -2
def wkN (a c : Int32) : Int32 := if (-99 : Int32) ≤ a ∧ a ≤ (99 : Int32) then (if c < (4 : Int32) then c + 1 else c) else c
theorem ke_refl {x : Nat} {σ : SG} : KE x σ σ := fun _ _ _ _ => rfl
theorem week_11 {m : Int} {a1 : Int32} {σ : SG} {ρ : RG} (hB : BX m σ) : ok (F_X11_week a1 σ ρ) (fun q => q.1 = wkA a1 (σ 1 10) ∧ q.2 1 10 = wkN a1 (σ 1 10) ∧ KE 10 σ q.2) := by
  have r : rg (σ 1 10) 0 4 := bx_get hB (r := 1) (a := 10) (b := 10) (k := 10) (l := 0) (h := 4) (by decide) (by decide) (by decide)
  unfold F_X11_week
  refine ok_bn sl_0 (fun r1 h1 => ok_if (fun c => ok_some ?_) (fun c => ok_if (fun d => ?_) (fun d => ok_some ?_)))
  · have n : ¬ ((-99 : Int32) ≤ a1 ∧ a1 ≤ (99 : Int32)) := fun q => h1.mpr q c
    exact ⟨(if_neg n).symm, (if_neg n).symm, ke_refl⟩
  · have y := h1.mp c
    refine ok_gd (rg_inb (rg_lt d r (show rg (4 : Int32) 4 4 from ⟨by decide, by decide⟩)) (by decide) (by decide)) (ok_nm (fun σ6 h6 => ok_nm (fun x7 h7 => ok_nm (fun σ9 h9 => ok_some ?_))))
    have k6 : KC σ σ6 := by rw [h6]; exact kc_row (by decide)
    have e6 : σ6 1 10 = σ 1 10 := k6 1 10 rfl
    have e9 : σ9 1 10 = σ 1 10 + 1 := by rw [h9, s2_at, if_pos rfl, if_pos rfl, h7, e6]
    refine ⟨?_, ?_, ke_kc k6 (by rw [h9]; exact ke_set)⟩
    · show σ9 1 10 = _
      rw [e9, wkA, if_pos y, if_pos d]
    · show σ9 1 10 = _
      rw [e9, wkN, if_pos y, if_pos d]
  · have y := h1.mp c
    refine ⟨?_, ?_, ke_refl⟩
    · rw [wkA, if_pos y, if_neg d]
    · rw [wkN, if_pos y, if_neg d]
theorem week_12 {m : Int} {a1 : Int32} {σ : SG} {ρ : RG} (hB : BX m σ) : ok (F_X12_week a1 σ ρ) (fun q => q.1 = wkA a1 (σ 55 13) ∧ q.2 55 13 = wkN a1 (σ 55 13) ∧ q.2 55 11 = σ 55 11) := by
  have r : rg (σ 55 13) 0 4 := bx_get hB (r := 55) (a := 13) (b := 13) (k := 13) (l := 0) (h := 4) (by decide) (by decide) (by decide)
  unfold F_X12_week
  refine ok_bn in_0 (fun r1 h1 => ok_if (fun c => ok_some ?_) (fun c => ok_if (fun d => ok_some ?_) (fun d => ?_)))
  · have n : ¬ ((-99 : Int32) ≤ a1 ∧ a1 ≤ (99 : Int32)) := fun q => h1.2.mpr q c
    exact ⟨(if_neg n).symm, (if_neg n).symm, rfl⟩
  · have y := h1.2.mp c
    have nd : ¬ σ 55 13 < (4 : Int32) := by rw [d]; decide
    refine ⟨?_, ?_, rfl⟩
    · rw [wkA, if_pos y, if_neg nd]
    · rw [wkN, if_pos y, if_neg nd]
  · have y := h1.2.mp c
    have r' : rg (σ 55 13) 0 3 := rg_neh d r (show rg (4 : Int32) 4 4 from ⟨by decide, by decide⟩) rfl
    have nd : σ 55 13 < (4 : Int32) := Int32.lt_iff_toInt_lt.mpr (by have := r'.2; have e4 : (4 : Int32).toInt = 4 := rfl; omega)
    refine ok_nm (fun x4 h4 => ?_)
    have r4 : rg x4 74 77 := rg_eq h4 (rg_add (show rg (74 : Int32) 74 74 from ⟨by decide, by decide⟩) r' (by decide) (by decide) (by decide) (by decide))
    refine ok_gd (rg_inb r4 (by decide) (by decide)) (ok_nm (fun σ7 h7 => ok_nm (fun x8 h8 => ok_nm (fun σ10 h10 => ok_some ?_))))
    have e7 : σ7 55 13 = σ 55 13 := s2_kx h7 r4 (by decide) (by decide)
    have e11 : σ7 55 11 = σ 55 11 := s2_kx h7 r4 (by decide) (by decide)
    have e10 : σ10 55 13 = σ 55 13 + 1 := by rw [h10, s2_at, if_pos rfl, if_pos rfl, h8, e7]
    refine ⟨?_, ?_, ?_⟩
    · show σ10 55 13 = _
      rw [e10, wkA, if_pos y, if_pos nd]
    · show σ10 55 13 = _
      rw [e10, wkN, if_pos y, if_pos nd]
    · show σ10 55 11 = _
      rw [h10, s2_at, if_pos rfl, if_neg (by decide), e11]
theorem clear_11 {σ : SG} {ρ : RG} : ok (F_X11_clear σ ρ) (fun q => q.1 = σ 1 10 ∧ q.2 1 10 = 0 ∧ KE 10 σ q.2) := by
  unfold F_X11_clear
  refine ok_nm (fun σ2 h2 => ok_some ⟨rfl, ?_, ?_⟩)
  · show σ2 1 10 = 0
    rw [h2, s2_at, if_pos rfl, if_pos rfl]
  · show KE 10 σ σ2
    rw [h2]; exact ke_set
theorem clear_12 {σ : SG} {ρ : RG} : ok (F_X12_clear σ ρ) (fun q => q.1 = σ 55 13 ∧ q.2 55 13 = 0 ∧ q.2 55 11 = σ 55 11) := by
  unfold F_X12_clear
  refine ok_nm (fun σ2 h2 => ok_some ⟨rfl, ?_, ?_⟩)
  · show σ2 55 13 = 0
    rw [h2, s2_at, if_pos rfl, if_pos rfl]
  · show σ2 55 11 = _
    rw [h2, s2_at, if_pos rfl, if_neg (by decide)]
/-! cutter -/
def cuA (a1 a2 a3 a4 a5 c : Int32) : Int32 := if (0 : Int32) ≤ a1 ∧ a1 ≤ (6 : Int32) then (if (0 : Int32) ≤ a2 ∧ a2 ≤ (9 : Int32) then (if (-9 : Int32) ≤ a3 ∧ a3 ≤ (9 : Int32) then (if (-9 : Int32) ≤ a4 ∧ a4 ≤ (9 : Int32) then (if (1 : Int32) ≤ a5 ∧ a5 ≤ (40 : Int32) then (if c < (6 : Int32) then c else -4) else -2) else -2) else -2) else -2) else -1
def cuN (a1 a2 a3 a4 a5 c : Int32) : Int32 := if (0 : Int32) ≤ a1 ∧ a1 ≤ (6 : Int32) then (if (0 : Int32) ≤ a2 ∧ a2 ≤ (9 : Int32) then (if (-9 : Int32) ≤ a3 ∧ a3 ≤ (9 : Int32) then (if (-9 : Int32) ≤ a4 ∧ a4 ≤ (9 : Int32) then (if (1 : Int32) ≤ a5 ∧ a5 ≤ (40 : Int32) then (if c < (6 : Int32) then c + 1 else c) else c) else c) else c) else c) else c
theorem cutter_11 {m : Int} {N : Nat} {K len : Nat → Nat} {a1 a2 a3 a4 a5 : Int32} {σ : SG} {ρ : RG} (hB : BX m σ) (hQ : PR N K len ρ) : ok (F_X11_cutter a1 a2 a3 a4 a5 N K len σ ρ) (fun q => q.1 = cuA a1 a2 a3 a4 a5 (σ 1 1) ∧ q.2.2.2.2.1 1 1 = cuN a1 a2 a3 a4 a5 (σ 1 1) ∧ KE 1 σ q.2.2.2.2.1) := by
  have n65 := hQ.1.1
  have r0 : rg (σ 1 1) 0 6 := bx_get hB (r := 1) (a := 1) (b := 1) (k := 1) (l := 0) (h := 6) (by decide) (by decide) (by decide)
  unfold F_X11_cutter cuA cuN
  refine ok_bn wi_0 (fun r1 h1 => ok_if (fun c => ?_) (fun c => ?_))
  · have n : ¬ ((0 : Int32) ≤ a1 ∧ a1 ≤ (6 : Int32)) := fun q => h1.2.mpr q c
    rw [if_neg n, if_neg n]; exact ok_some ⟨rfl, rfl, ke_refl⟩
  rw [if_pos (h1.2.mp c), if_pos (h1.2.mp c)]
  refine ok_bn wi_0 (fun r1 h1 => ok_if (fun c => ?_) (fun c => ?_))
  · have n : ¬ ((0 : Int32) ≤ a2 ∧ a2 ≤ (9 : Int32)) := fun q => h1.2.mpr q c
    rw [if_neg n, if_neg n]; exact ok_some ⟨rfl, rfl, ke_refl⟩
  rw [if_pos (h1.2.mp c), if_pos (h1.2.mp c)]
  refine ok_bn wi_0 (fun r1 h1 => ok_if (fun c => ?_) (fun c => ?_))
  · have n : ¬ ((-9 : Int32) ≤ a3 ∧ a3 ≤ (9 : Int32)) := fun q => h1.2.mpr q c
    rw [if_neg n, if_neg n]; exact ok_some ⟨rfl, rfl, ke_refl⟩
  rw [if_pos (h1.2.mp c), if_pos (h1.2.mp c)]
  refine ok_bn wi_0 (fun r1 h1 => ok_if (fun c => ?_) (fun c => ?_))
  · have n : ¬ ((-9 : Int32) ≤ a4 ∧ a4 ≤ (9 : Int32)) := fun q => h1.2.mpr q c
    rw [if_neg n, if_neg n]; exact ok_some ⟨rfl, rfl, ke_refl⟩
  rw [if_pos (h1.2.mp c), if_pos (h1.2.mp c)]
  refine ok_bn th_0 (fun r1 h1 => ok_if (fun c => ?_) (fun c => ?_))
  · have n : ¬ ((1 : Int32) ≤ a5 ∧ a5 ≤ (40 : Int32)) := fun q => h1.mpr q c
    rw [if_neg n, if_neg n]; exact ok_some ⟨rfl, rfl, ke_refl⟩
  rw [if_pos (h1.mp c), if_pos (h1.mp c)]
  refine ok_if (fun d => ?_) (fun d => ?_)
  · rw [if_pos d, if_pos d]
    have r1 : rg (σ 1 1) 0 5 := rg_lt d r0 (show rg (6 : Int32) 6 6 from ⟨by decide, by decide⟩)
    refine ok_bnT (s_X11_newCutter hQ) (fun c12 N12 K12 L12 σ12 ρ12 h => ?_)
    have h1' : ∀ r, r < N → σ12 r = σ r := h.1
    refine ok_gd (rg_inb r1 (by decide) (by decide)) (ok_nm (fun ρ14 e14 => ok_nm (fun x hx => ok_nm (fun σ17 e17 => ok_some ⟨rfl, ?_, ?_⟩))))
    · show σ17 1 1 = σ 1 1 + 1
      rw [e17, s2_at, if_pos rfl, if_pos rfl, hx, h1' 1 (by omega)]
    · show KE 1 σ σ17
      rw [e17]
      refine ke_kc (fun r k p => ?_) ke_set
      rw [h1' r ?_]
      rcases Nat.lt_or_ge r 65 with q | q
      · omega
      · exfalso
        have := kc_rows (k := k) (kc_hi q)
        rw [p] at this; cases this
  · rw [if_neg d, if_neg d]; exact ok_some ⟨rfl, rfl, ke_refl⟩
theorem cutter_153 {m : Int} {a1 a2 a3 a4 a5 v6 : Int32} {ρ : RG} (r6 : rg v6 0 5) : ∀ (n : Nat) (σ : SG) (v7 : Int32), rg v7 0 4 → kp (F_X12_cutter_153 a1 a2 a3 a4 a5 n σ ρ v6 v7) (fun q => q.1 = v6 ∧ q.2 55 11 = σ 55 11 + 1 ∧ q.2 55 13 = σ 55 13) := by
  intro n
  induction n with
  | zero => intro σ v7 _; exact kp_none
  | succ n ih =>
    intro σ v7 r7
    unfold F_X12_cutter_153
    by_cases c : (4 : Int32) ≤ v7
    · rw [if_pos c]
      refine kp_nm (fun x h => kp_nm (fun σ39 e => kp_some ⟨rfl, ?_, ?_⟩))
      · show σ39 55 11 = _
        rw [e, s2_at, if_pos rfl, if_pos rfl, h]
      · show σ39 55 13 = _
        rw [e, s2_at, if_pos rfl, if_neg (by decide)]
    · rw [if_neg c]
      have r7' : rg v7 0 3 := rg_lt (nle c) r7 (show rg (4 : Int32) 4 4 from ⟨by decide, by decide⟩)
      refine kp_nm (fun x40 h40 => kp_nm (fun x41 h41 => kp_nm (fun x42 h42 => kp_gd (fun _ => kp_nm (fun σ45 h45 => kp_nm (fun x46 h46 => ?_))))))
      have q40 : rg x40 0 20 := rg_eq h40 (rg_mul (show rg (4 : Int32) 4 4 from ⟨by decide, by decide⟩) r6 (by decide) (by decide) (by decide) (by decide))
      have q41 : rg x41 50 70 := rg_eq h41 (rg_add (show rg (50 : Int32) 50 50 from ⟨by decide, by decide⟩) q40 (by decide) (by decide) (by decide) (by decide))
      have q42 : rg x42 50 73 := rg_eq h42 (rg_add q41 r7' (by decide) (by decide) (by decide) (by decide))
      have q46 : rg x46 0 4 := rg_eq h46 (rg_add r7' (show rg (1 : Int32) 1 1 from ⟨by decide, by decide⟩) (by decide) (by decide) (by decide) (by decide))
      refine kp_mono (ih σ45 x46 q46) (fun q z => ⟨z.1, z.2.1.trans ?_, z.2.2.trans ?_⟩)
      · rw [s2_kx h45 q42 (by decide) (by decide)]
      · exact s2_kx h45 q42 (by decide) (by decide)
theorem cutter_12 {m : Int} {a1 a2 a3 a4 a5 : Int32} {σ : SG} {ρ : RG} (hB : BX m σ) : kp (F_X12_cutter a1 a2 a3 a4 a5 σ ρ) (fun q => q.1 = cuA a1 a2 a3 a4 a5 (σ 55 11) ∧ q.2 55 11 = cuN a1 a2 a3 a4 a5 (σ 55 11) ∧ q.2 55 13 = σ 55 13) := by
  have r0 : rg (σ 55 11) 0 6 := bx_get hB (r := 55) (a := 11) (b := 11) (k := 11) (l := 0) (h := 6) (by decide) (by decide) (by decide)
  unfold F_X12_cutter cuA cuN
  refine kp_bn (kp_ok in_0) (fun r1 h1 => ?_)
  by_cases c : r1 = 0
  · have n : ¬ ((0 : Int32) ≤ a1 ∧ a1 ≤ (6 : Int32)) := fun q => h1.2.mpr q c
    rw [if_pos c, if_neg n, if_neg n]; exact kp_some ⟨rfl, rfl, rfl⟩
  rw [if_neg c, if_pos (h1.2.mp c), if_pos (h1.2.mp c)]
  clear h1 c
  refine kp_bn (kp_ok in_0) (fun r1 h1 => ?_)
  by_cases c : r1 = 0
  · have n : ¬ ((0 : Int32) ≤ a2 ∧ a2 ≤ (9 : Int32)) := fun q => h1.2.mpr q c
    rw [if_pos c, if_neg n, if_neg n]; exact kp_some ⟨rfl, rfl, rfl⟩
  rw [if_neg c, if_pos (h1.2.mp c), if_pos (h1.2.mp c)]
  clear h1 c
  refine kp_bn (kp_ok in_0) (fun r1 h1 => ?_)
  by_cases c : r1 = 0
  · have n : ¬ ((-9 : Int32) ≤ a3 ∧ a3 ≤ (9 : Int32)) := fun q => h1.2.mpr q c
    rw [if_pos c, if_neg n, if_neg n]; exact kp_some ⟨rfl, rfl, rfl⟩
  rw [if_neg c, if_pos (h1.2.mp c), if_pos (h1.2.mp c)]
  clear h1 c
  refine kp_bn (kp_ok in_0) (fun r1 h1 => ?_)
  by_cases c : r1 = 0
  · have n : ¬ ((-9 : Int32) ≤ a4 ∧ a4 ≤ (9 : Int32)) := fun q => h1.2.mpr q c
    rw [if_pos c, if_neg n, if_neg n]; exact kp_some ⟨rfl, rfl, rfl⟩
  rw [if_neg c, if_pos (h1.2.mp c), if_pos (h1.2.mp c)]
  clear h1 c
  refine kp_bn (kp_ok in_0) (fun r1 h1 => ?_)
  by_cases c : r1 = 0
  · have n : ¬ ((1 : Int32) ≤ a5 ∧ a5 ≤ (40 : Int32)) := fun q => h1.2.mpr q c
    rw [if_pos c, if_neg n, if_neg n]; exact kp_some ⟨rfl, rfl, rfl⟩
  rw [if_neg c, if_pos (h1.2.mp c), if_pos (h1.2.mp c)]
  clear h1 c
  by_cases d : σ 55 11 = (6 : Int32)
  · have nd : ¬ σ 55 11 < (6 : Int32) := by rw [d]; decide
    rw [if_pos d, if_neg nd, if_neg nd]; exact kp_some ⟨rfl, rfl, rfl⟩
  have r5 : rg (σ 55 11) 0 5 := rg_neh d r0 (show rg (6 : Int32) 6 6 from ⟨by decide, by decide⟩) rfl
  have nd : σ 55 11 < (6 : Int32) := Int32.lt_iff_toInt_lt.mpr (by have := r5.2; have e4 : (6 : Int32).toInt = 6 := rfl; omega)
  rw [if_neg d, if_pos nd, if_pos nd]
  refine kp_nm (fun x12 h12 => kp_gd (fun _ => kp_nm (fun σ15 e15 => ?_)))
  have q12 : rg x12 20 25 := rg_eq h12 (rg_add (show rg (20 : Int32) 20 20 from ⟨by decide, by decide⟩) r5 (by decide) (by decide) (by decide) (by decide))
  have u15 : σ15 55 11 = σ 55 11 := (s2_kx e15 q12 (by decide) (by decide))
  have w15 : σ15 55 13 = σ 55 13 := (s2_kx e15 q12 (by decide) (by decide))
  refine kp_nm (fun x16 h16 => kp_gd (fun _ => kp_nm (fun σ19 e19 => ?_)))
  have q16 : rg x16 26 31 := rg_eq h16 (rg_add (show rg (26 : Int32) 26 26 from ⟨by decide, by decide⟩) r5 (by decide) (by decide) (by decide) (by decide))
  have u19 : σ19 55 11 = σ 55 11 := (s2_kx e19 q16 (by decide) (by decide)).trans u15
  have w19 : σ19 55 13 = σ 55 13 := (s2_kx e19 q16 (by decide) (by decide)).trans w15
  refine kp_nm (fun x20 h20 => kp_gd (fun _ => kp_nm (fun σ23 e23 => ?_)))
  have q20 : rg x20 32 37 := rg_eq h20 (rg_add (show rg (32 : Int32) 32 32 from ⟨by decide, by decide⟩) r5 (by decide) (by decide) (by decide) (by decide))
  have u23 : σ23 55 11 = σ 55 11 := (s2_kx e23 q20 (by decide) (by decide)).trans u19
  have w23 : σ23 55 13 = σ 55 13 := (s2_kx e23 q20 (by decide) (by decide)).trans w19
  refine kp_nm (fun x24 h24 => kp_gd (fun _ => kp_nm (fun σ27 e27 => ?_)))
  have q24 : rg x24 38 43 := rg_eq h24 (rg_add (show rg (38 : Int32) 38 38 from ⟨by decide, by decide⟩) r5 (by decide) (by decide) (by decide) (by decide))
  have u27 : σ27 55 11 = σ 55 11 := (s2_kx e27 q24 (by decide) (by decide)).trans u23
  have w27 : σ27 55 13 = σ 55 13 := (s2_kx e27 q24 (by decide) (by decide)).trans w23
  refine kp_nm (fun x28 h28 => kp_gd (fun _ => kp_nm (fun σ31 e31 => ?_)))
  have q28 : rg x28 44 49 := rg_eq h28 (rg_add (show rg (44 : Int32) 44 44 from ⟨by decide, by decide⟩) r5 (by decide) (by decide) (by decide) (by decide))
  have u31 : σ31 55 11 = σ 55 11 := (s2_kx e31 q28 (by decide) (by decide)).trans u27
  have w31 : σ31 55 13 = σ 55 13 := (s2_kx e31 q28 (by decide) (by decide)).trans w27
  refine kp_nm (fun x32 h32 => kp_gd (fun _ => kp_nm (fun σ35 e35 => ?_)))
  have q32 : rg x32 5 10 := rg_eq h32 (rg_add (show rg (5 : Int32) 5 5 from ⟨by decide, by decide⟩) r5 (by decide) (by decide) (by decide) (by decide))
  have u35 : σ35 55 11 = σ 55 11 := (s2_kx e35 q32 (by decide) (by decide)).trans u31
  have w35 : σ35 55 13 = σ 55 13 := (s2_kx e35 q32 (by decide) (by decide)).trans w31
  exact kp_mono (cutter_153 (m := m) r5 1024 σ35 0 ⟨by decide, by decide⟩) (fun q z => ⟨z.1, by rw [z.2.1, u35], z.2.2.trans w35⟩)
