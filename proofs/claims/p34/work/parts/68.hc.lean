/-! PART 68.hc: by hand: the class's boards; the reference's orders, rows, odds -/
theorem ckr {N : Nat} {K len : Nat → Nat} {ρ : RG} (hL : Lay N K len ρ) {r k : Nat} {v : Option Nat} (hr : Nat.blt r 65 = true) {c : Nat} (h : CK N K len ρ c) : CK N K len (r2 ρ r k v) c := by
  refine ⟨h.1, fun q => ?_⟩
  have := ck_65 hL h.1
  have := Nat.blt_eq.mp hr
  rw [r2_ne c (by omega)]
  exact h.2 q
theorem pr_298 {N : Nat} {K len : Nat → Nat} {ρ : RG} (hQ : PR N K len ρ) : PR N K len (r2 ρ 29 8 (some 10)) := by
  have n65 := hQ.1.1
  refine ⟨ly_put hQ.1 (some 10) (by decide), RC_put hQ.2.1 (by omega), fun j c hj h => ?_, fun j c hj h => ?_, Or.inr ?_⟩
  · rw [r2_ne 2 (by decide)] at h; exact ckr hQ.1 (by decide) (hQ.2.2.1 j c hj h)
  · rw [r2_ne 15 (by decide)] at h; exact ckr hQ.1 (by decide) (hQ.2.2.2.1 j c hj h)
  · rw [r2_at, if_pos rfl, if_pos rfl]
theorem s_X0_readFrom_38 {N : Nat} {K len : Nat → Nat} {m : Int} {a2 : Int32} {ρ : RG} (hQ : PR N K len ρ) : ∀ (n : Nat) (σ : SG) (v3 : Int32), rg v3 0 10 → (10 : Int) - v3.toInt < (n : Int) → BX m σ → ok (F_X0_readFrom_38 a2 n σ ρ v3) (fun q => BX m q.2.1 ∧ q.2.2 = ρ) := by
  intro n
  induction n with
  | zero => intro σ v3 r3 hm; exact (ms_z r3 (by decide) hm).elim
  | succ n ih =>
    intro σ v3 r3 hm hB
    unfold F_X0_readFrom_38
    refine ok_if (fun _ => ok_some ⟨hB, rfl⟩) (fun c => ?_)
    have r3' : rg v3 0 9 := rg_lt (nle c) r3 (show rg (10 : Int32) 10 10 from ⟨by decide, by decide⟩)
    refine ok_bn2 (s_X0_readClause hB hQ) (fun r16 σ16 q16 => ok_if (fun _ => ok_some ⟨q16.2, rfl⟩) (fun _ => ok_if (fun _ => ok_some ⟨q16.2, rfl⟩) (fun _ => ok_nm (fun x19 _ => ok_if (fun _ => ok_some ⟨q16.2, rfl⟩) (fun _ => ?_)))))
    refine ok_bn2 (s_X0_readSign q16.2 hQ) (fun r21 σ21 q21 => ok_if (fun _ => ok_some ⟨q21.2, rfl⟩) (fun _ => ok_nm (fun x hx => ?_)))
    exact ih σ21 x (rg_eq hx (rg_add r3' (show rg (1 : Int32) 1 1 from ⟨by decide, by decide⟩) (by decide) (by decide) (by decide) (by decide))) (ms_s hx r3' (by decide) (by decide) hm) q21.2
theorem s_X0_readFrom {N : Nat} {K len : Nat → Nat} {m : Int} {a2 : Int32} {σ : SG} {ρ : RG} (hB : BX m σ) (hQ : PR N K len ρ) : ok (F_X0_readFrom a2 σ ρ) (fun q => BX m q.2.1 ∧ PR N K len q.2.2) := by
  unfold F_X0_readFrom
  refine ok_nm (fun ρ2 e2 => ok_nm (fun σ4 e4 => ok_nm (fun σ6 e6 => ok_nm (fun σ8 e8 => ok_nm (fun σ10 e10 => ok_nm (fun σ12 e12 => ok_nm (fun σ14 e14 => ?_)))))))
  subst e2
  have b4 : BX m σ4 := by rw [e4]; exact bx_set hB (rg_any _) (by decide)
  have b6 : BX m σ6 := by rw [e6]; exact bx_set b4 (rg_any _) (by decide)
  have b8 : BX m σ8 := by rw [e8]; exact bx_set b6 (rg_any _) (by decide)
  have b10 : BX m σ10 := by rw [e10]; exact bx_set b8 (rg_any _) (by decide)
  have b12 : BX m σ12 := by rw [e12]; exact bx_set b10 (show rg (0 : Int32) 0 0 from ⟨by decide, by decide⟩) (by decide)
  have b14 : BX m σ14 := by rw [e14]; exact bx_set b12 (show rg (0 : Int32) 0 0 from ⟨by decide, by decide⟩) (by decide)
  exact ok_mono (s_X0_readFrom_38 (pr_298 hQ) 1024 σ14 0 ⟨by decide, by decide⟩ (by decide) b14) (fun q h => ⟨h.1, by rw [h.2]; exact pr_298 hQ⟩)
theorem s_X11_board {N : Nat} {K len : Nat → Nat} {m : Int} {σ : SG} {ρ : RG} (hB : BX m σ) (hQ : PR N K len ρ) : ok (F_X11_board σ ρ) (fun q => BX m q.2.1 ∧ PR N K len q.2.2) := by
  unfold F_X11_board
  refine ok_if (fun c => ?_) (fun _ => ok_some ⟨hB, hQ⟩)
  refine ok_bn3 (s_X0_readFrom hB hQ) (fun r2 σ2 ρ2 q2 => ok_nm (fun σ4 e4 => ?_))
  have b4 : BX m σ4 := by rw [e4]; exact bx_set q2.1 (show rg (0 : Int32) 0 0 from ⟨by decide, by decide⟩) (by decide)
  refine ok_if (fun _ => ok_nm (fun x _ => ok_some ⟨b4, q2.2⟩)) (fun _ => ?_)
  refine ok_bn (s_X0_takes_5_29 b4 q2.2) (fun σ6 b6 => ok_nm (fun x7 _ => ok_nm (fun σ9 e9 => ok_nm (fun x10 _ => ok_some ⟨?_, q2.2⟩))))
  rw [e9]; exact bx_set b6 (rg_any _) (by decide)
/-! orders, rows, odds of the reference -/
theorem s_X12_order_27 {g : Nat → Int32} {m : Int} {a1 v1 : Int32} {ρ : RG} (hT : (g 11).toInt ≤ 5) (r1 : rg v1 (-1) 4) : ∀ (n : Nat) (σ : SG) (v2 : Int32), rg v2 0 5 → (5 : Int) - v2.toInt < (n : Int) → BF g m σ → ok (F_X12_order_27 a1 n σ ρ v1 v2) (fun q => BF g m q.2) := by
  intro n
  induction n with
  | zero => intro σ v2 r2 hm; exact (ms_z r2 (by decide) hm).elim
  | succ n ih =>
    intro σ v2 r2 hm hB
    unfold F_X12_order_27
    refine ok_if (fun _ => ok_nm (fun σ6 e6 => ?_)) (fun c => ?_)
    · have b6 : BF g m σ6 := by rw [e6]; exact bf_set hB (rg_any _) (by decide)
      refine ok_bn (s_X12_ordersFrom hT ⟨by decide, by decide⟩ b6) (fun σ7 b7 => ok_if (fun _ => ok_if (fun _ => ok_some b7) (fun _ => ok_some b7)) (fun c2 => ?_))
      exact ok_gd (rg_inb (rg_ge (nlt c2) (show rg (0 : Int32) 0 0 from ⟨by decide, by decide⟩) r1) (by decide) (by decide)) (ok_some b7)
    · have r2' : rg v2 0 4 := rg_lt (nle c) r2 (show rg (5 : Int32) 5 5 from ⟨by decide, by decide⟩)
      refine ok_gd (rg_inb r2' (by decide) (by decide)) (ok_nm (fun σ13 e13 => ok_nm (fun x hx => ?_)))
      exact ih σ13 x (rg_eq hx (rg_add r2' (show rg (1 : Int32) 1 1 from ⟨by decide, by decide⟩) (by decide) (by decide) (by decide) (by decide))) (ms_s hx r2' (by decide) (by decide) hm) (by rw [e13]; exact bf_far hB (by decide) (by decide) (by decide) (by decide))
theorem s_X12_order {g : Nat → Int32} {m : Int} {a1 : Int32} {σ : SG} {ρ : RG} (hB : BF g m σ) : ok (F_X12_order a1 σ ρ) (fun q => BF g m q.2) := by
  unfold F_X12_order
  refine ok_bn s_X12_in (fun r h => ok_if (fun _ => ok_some hB) (fun c => ok_if (fun d => ?_) (fun _ => ok_some hB)))
  obtain ⟨w1, w2⟩ := h.2 c
  have r1 : rg a1 (-1) 4 := rg_le w2 (rg_ge w1 (show rg (-1 : Int32) (-1) (-1) from ⟨by decide, by decide⟩) (rg_any _)) (show rg (4 : Int32) 4 4 from ⟨by decide, by decide⟩)
  have d1 := Int32.le_iff_toInt_le.mp d
  rw [hB.2 11 (by decide)] at d1
  exact s_X12_order_27 d1 r1 1024 σ 0 ⟨by decide, by decide⟩ (by decide) hB
theorem s_X12_rows_13 {g : Nat → Int32} {m : Int} {a1 v1 : Int32} {ρ : RG} (hT : (g 13).toInt ≤ 4) (r1 : rg v1 (-1) 3) : ∀ (n : Nat) (σ : SG) (v2 : Int32), rg v2 0 5 → (5 : Int) - v2.toInt < (n : Int) → BF g m σ → ok (F_X12_rows_13 a1 n σ ρ v1 v2) (fun q => BF g m q.2) := by
  intro n
  induction n with
  | zero => intro σ v2 r2 hm; exact (ms_z r2 (by decide) hm).elim
  | succ n ih =>
    intro σ v2 r2 hm hB
    unfold F_X12_rows_13
    refine ok_if (fun _ => ok_nm (fun σ5 e5 => ?_)) (fun c => ?_)
    · have b5 : BF g m σ5 := by rw [e5]; exact bf_set hB (rg_any _) (by decide)
      refine ok_bn (s_X12_rowsFrom hT ⟨by decide, by decide⟩ b5) (fun σ6 b6 => ok_if (fun _ => ok_some b6) (fun c2 => ?_))
      exact ok_gd (rg_inb (rg_nel c2 r1 (show rg (-1 : Int32) (-1) (-1) from ⟨by decide, by decide⟩) rfl) (by decide) (by decide)) (ok_some b6)
    · have r2' : rg v2 0 4 := rg_lt (nle c) r2 (show rg (5 : Int32) 5 5 from ⟨by decide, by decide⟩)
      refine ok_gd (rg_inb r2' (by decide) (by decide)) (ok_nm (fun σ13 e13 => ok_nm (fun x hx => ?_)))
      exact ih σ13 x (rg_eq hx (rg_add r2' (show rg (1 : Int32) 1 1 from ⟨by decide, by decide⟩) (by decide) (by decide) (by decide) (by decide))) (ms_s hx r2' (by decide) (by decide) hm) (by rw [e13]; exact bf_far hB (by decide) (by decide) (by decide) (by decide))
theorem s_X12_rows {g : Nat → Int32} {m : Int} {a1 : Int32} {σ : SG} {ρ : RG} (hB : BF g m σ) : ok (F_X12_rows a1 σ ρ) (fun q => BF g m q.2) := by
  unfold F_X12_rows
  refine ok_bn s_X12_in (fun r h => ok_if (fun _ => ok_some hB) (fun c => ?_))
  obtain ⟨w1, w2⟩ := h.2 c
  have r1 : rg a1 (-1) 3 := rg_le w2 (rg_ge w1 (show rg (-1 : Int32) (-1) (-1) from ⟨by decide, by decide⟩) (rg_any _)) (show rg (3 : Int32) 3 3 from ⟨by decide, by decide⟩)
  have r13 := bx_get hB.1 (r := 55) (a := 13) (b := 13) (k := 13) (l := 0) (h := 4) (by decide) (by decide) (by decide)
  rw [hB.2 13 (by decide)] at r13
  exact s_X12_rows_13 r13.2 r1 1024 σ 0 ⟨by decide, by decide⟩ (by decide) hB
def PWR (v3 : Int64) (v5 : Int32) : Prop := 1 ≤ v3.toInt ∧ ((v5.toInt = 0 ∧ v3.toInt ≤ 1) ∨ (v5.toInt = 1 ∧ v3.toInt ≤ 6) ∨ (v5.toInt = 2 ∧ v3.toInt ≤ 36) ∨ (v5.toInt = 3 ∧ v3.toInt ≤ 216))
theorem pw_mul {v3 : Int64} {x : Int32} {B : Int} (h1 : 1 ≤ v3.toInt) (h2 : v3.toInt ≤ B) (hB : B ≤ 36) (hx : rg x 1 6) : 1 ≤ (v3 * x.toInt64).toInt ∧ (v3 * x.toInt64).toInt ≤ B * 6 := by
  obtain ⟨x1, x2⟩ := hx
  have p0 : 1 * 1 ≤ v3.toInt * x.toInt := Int.mul_le_mul h1 x1 (by omega) (by omega)
  have p1 : v3.toInt * x.toInt ≤ B * 6 := Int.mul_le_mul h2 x2 (by omega) (by omega)
  have e : (v3 * x.toInt64).toInt = v3.toInt * x.toInt := by
    rw [Int64.toInt_mul, Int32.toInt_toInt64]
    exact Int.bmod_eq_of_le (by omega) (by omega)
  rw [e]
  omega
theorem s_X12_odds_37 {g : Nat → Int32} {m : Int} {a1 a2 v1 v2 : Int32} {ρ : RG} (r1 : rg v1 1 3) (hg : ¬ g 11 = 0) : ∀ (n : Nat) (σ : SG) (v3 : Int64) (v5 : Int32), rg v5 0 3 → (3 : Int) - v5.toInt < (n : Int) → PWR v3 v5 → BF g m σ → ok (F_X12_odds_37 a1 a2 n σ ρ v1 v2 v3 v5) (fun q => BF g m q.2) := by
  intro n
  induction n with
  | zero => intro σ v3 v5 r5 hm; exact (ms_z r5 (by decide) hm).elim
  | succ n ih =>
    intro σ v3 v5 r5 hm hp hB
    unfold F_X12_odds_37
    refine ok_if (fun _ => ?_) (fun c => ?_)
    · refine ok_bn2 (s_X12_goodRows ⟨by decide, by decide⟩ (rg_w r1 (by decide) (by decide)) hB) (fun r7 σ7 b7 => ?_)
      have hn : ¬ v3 = 0 := fun e => by
        have := hp.1
        rw [e] at this
        exact absurd this (by decide)
      have hz : v3.toInt.natAbs < 1024 := by
        obtain ⟨p1, p2⟩ := hp
        omega
      exact ok_bn (s_X12_lowest hn hz) (fun r8 _ => ok_some b7)
    · have r5' : rg v5 0 2 := rg_lt (nle c) r5 r1
      have r11 : rg (σ 55 11) 0 6 := bx_get hB.1 (r := 55) (a := 11) (b := 11) (k := 11) (l := 0) (h := 6) (by decide) (by decide) (by decide)
      have n11 : ¬ σ 55 11 = 0 := by rw [hB.2 11 (by decide)]; exact hg
      have r1 : rg (σ 55 11) 1 6 := rg_nel n11 r11 (show rg (0 : Int32) 0 0 from ⟨by decide, by decide⟩) rfl
      refine ok_nm (fun x9 e9 => ok_nm (fun x hx => ?_))
      have e1 : (1 : Int32).toInt = 1 := rfl
      have u1 := r5'.1
      have u2 := r5'.2
      have ex : x.toInt = v5.toInt + 1 := by rw [hx, ti_add (by omega) (by omega), e1]
      refine ih σ x9 x ⟨by omega, by omega⟩ (by omega) ?_ hB
      obtain ⟨p1, p2⟩ := hp
      rw [e9]
      rcases p2 with ⟨q, p⟩ | ⟨q, p⟩ | ⟨q, p⟩ | ⟨q, p⟩
      · have z := pw_mul p1 p (by decide) r1
        exact ⟨z.1, Or.inr (Or.inl ⟨by omega, z.2⟩)⟩
      · have z := pw_mul p1 p (by decide) r1
        exact ⟨z.1, Or.inr (Or.inr (Or.inl ⟨by omega, z.2⟩))⟩
      · have z := pw_mul p1 p (by decide) r1
        exact ⟨z.1, Or.inr (Or.inr (Or.inr ⟨by omega, z.2⟩))⟩
      · omega
theorem s_X12_odds {g : Nat → Int32} {m : Int} {a1 a2 : Int32} {σ : SG} {ρ : RG} (hB : BF g m σ) : ok (F_X12_odds a1 a2 σ ρ) (fun q => BF g m q.2) := by
  unfold F_X12_odds
  refine ok_bn s_X12_in (fun r h => ok_if (fun _ => ok_some hB) (fun c => ?_))
  obtain ⟨w1, w2⟩ := h.2 c
  have r1 : rg a1 1 3 := rg_le w2 (rg_ge w1 (show rg (1 : Int32) 1 1 from ⟨by decide, by decide⟩) (rg_any _)) (show rg (3 : Int32) 3 3 from ⟨by decide, by decide⟩)
  refine ok_bn s_X12_in (fun r3 _ => ok_if (fun _ => ok_some hB) (fun _ => ok_if (fun _ => ok_some hB) (fun c3 => ?_)))
  exact s_X12_odds_37 r1 (by rw [← hB.2 11 (by decide)]; exact c3) 1024 σ 1 0 ⟨by decide, by decide⟩ (by decide) ⟨by decide, Or.inl ⟨by decide, by decide⟩⟩ hB
