/-! PART 67.hb: the reference's acts and image, by hand -/
theorem s_X12_ranBody_19 {m : Int} {a1 : Int32} {σ : SG} {ρ : RG} (hm : m ≤ 1000) (hB : BX m σ) : ok (F_X12_ranBody_19 a1 σ ρ) (fun q => BX (m + 1) q) := by
  unfold F_X12_ranBody_19
  have r := hB.2.1
  have r1 := r.1
  have r2 := r.2
  have e1 : (1 : Int32).toInt = 1 := rfl
  refine ok_nm (fun x hx => ok_nm (fun σ4 h4 => ok_some ?_))
  subst h4
  have ex : x.toInt = (σ 54 30).toInt + 1 := by rw [hx, ti_add (by omega) (by omega), e1]
  exact bx_ran hB ⟨by omega, by omega⟩
theorem s_X12_ranBody {m : Int} {a1 : Int32} {σ : SG} {ρ : RG} (hm : m ≤ 1000) (hB : BX m σ) : ok (F_X12_ranBody a1 σ ρ) (fun q => BX (m + 1) q) := by
  unfold F_X12_ranBody
  refine ok_if (fun _ => s_X12_ranBody_19 hm hB) (fun c => ?_)
  have r : rg (σ 54 30) 0 19 := rg_lt (nle c) (rg_lo hB.2.1) (show rg (20 : Int32) 20 20 from ⟨by decide, by decide⟩)
  refine ok_gd (rg_inb r (by decide) (by decide)) (ok_nm (fun σ7 h7 => ?_))
  exact s_X12_ranBody_19 hm (by rw [h7]; exact bx_far hB (by decide) (by decide) (by decide) (by decide))
theorem s_X12_plainCuts {m : Int} {a1 : Int32} {σ : SG} {ρ : RG} (hm : m ≤ 900) (hB : BX m σ) : ok (F_X12_plainCuts a1 σ ρ) (fun q => BX (m + 1) q.2) := by
  unfold F_X12_plainCuts
  exact ok_bn (s_X12_ranBody (by omega) hB) (fun σ1 b => ok_nm (fun x _ => ok_some b))
theorem s_X12_cutsActs {m : Int} {a1 : Int32} {σ : SG} {ρ : RG} (hm : m ≤ 800) (hB : BX m σ) : ok (F_X12_cutsActs a1 σ ρ) (fun q => BX (m + 2) q.2) := by
  unfold F_X12_cutsActs
  refine ok_bn (s_X12_isUnder hB) (fun r _ => ok_if (fun _ => ok_if (fun _ => ?_) (fun _ => ?_)) (fun _ => ?_))
  · exact ok_bn (s_X12_ranBody (by omega) hB) (fun σ5 b5 => ok_bn2 (s_X12_plainCuts (by omega) b5) (fun r6 σ6 b6 => ok_nm (fun x _ => ok_some (bx_m b6 (by omega)))))
  · exact ok_bn2 (s_X12_plainCuts (by omega) hB) (fun r6 σ6 b6 => ok_some (bx_m b6 (by omega)))
  · exact ok_bn (s_X12_ranBody (by omega) hB) (fun σ5 b5 => ok_nm (fun x _ => ok_bn2 (s_X12_plainCuts (by omega) b5) (fun r6 σ6 b6 => ok_some (bx_m b6 (by omega)))))
theorem s_X12_plainEats {m : Int} {a1 : Int32} {σ : SG} {ρ : RG} (hm : m ≤ 700) (hB : BX m σ) : ok (F_X12_plainEats a1 σ ρ) (fun q => BX (m + 3) q.2) := by
  unfold F_X12_plainEats
  exact ok_bn (s_X12_ranBody (by omega) hB) (fun σ1 b => ok_bn2 (s_X12_cutsActs (by omega) b) (fun r2 σ2 b2 => ok_nm (fun x _ => ok_some (bx_m b2 (by omega)))))
theorem s_X12_eatsActs {m : Int} {a1 : Int32} {σ : SG} {ρ : RG} (hm : m ≤ 600) (hB : BX m σ) : ok (F_X12_eatsActs a1 σ ρ) (fun q => BX (m + 4) q.2) := by
  unfold F_X12_eatsActs
  refine ok_bn (s_X12_isUnder hB) (fun r _ => ok_if (fun _ => ok_if (fun _ => ?_) (fun _ => ?_)) (fun _ => ?_))
  · exact ok_bn (s_X12_ranBody (by omega) hB) (fun σ5 b5 => ok_bn2 (s_X12_plainEats (by omega) b5) (fun r6 σ6 b6 => ok_nm (fun x _ => ok_some (bx_m b6 (by omega)))))
  · exact ok_bn2 (s_X12_plainEats (by omega) hB) (fun r6 σ6 b6 => ok_some (bx_m b6 (by omega)))
  · exact ok_bn (s_X12_ranBody (by omega) hB) (fun σ5 b5 => ok_bn2 (s_X12_plainEats (by omega) b5) (fun r6 σ6 b6 => ok_nm (fun x _ => ok_some (bx_m b6 (by omega)))))
theorem s_X12_plainTells {m : Int} {a1 : Int32} {σ : SG} {ρ : RG} (hm : m ≤ 500) (hB : BX m σ) : ok (F_X12_plainTells a1 σ ρ) (fun q => BX (m + 5) q.2) := by
  unfold F_X12_plainTells
  exact ok_bn (s_X12_ranBody (by omega) hB) (fun σ1 b => ok_bn2 (s_X12_eatsActs (by omega) b) (fun r2 σ2 b2 => ok_nm (fun x _ => ok_some (bx_m b2 (by omega)))))
theorem s_X12_tellsActs {m : Int} {a1 : Int32} {σ : SG} {ρ : RG} (hm : m ≤ 400) (hB : BX m σ) : ok (F_X12_tellsActs a1 σ ρ) (fun q => BX (m + 8) q.2) := by
  unfold F_X12_tellsActs
  refine ok_bn (s_X12_isUnder hB) (fun r _ => ok_if (fun _ => ok_if (fun _ => ?_) (fun _ => ?_)) (fun _ => ?_))
  · exact ok_bn (s_X12_ranBody (by omega) hB) (fun σ5 b5 => ok_nm (fun x _ => ok_bn2 (s_X12_plainTells (by omega) b5) (fun r6 σ6 b6 => ok_bn2 (s_X12_cutsActs (by omega) b6) (fun r7 σ7 b7 => ok_nm (fun y _ => ok_some (bx_m b7 (by omega)))))))
  · exact ok_bn2 (s_X12_plainTells (by omega) hB) (fun r6 σ6 b6 => ok_some (bx_m b6 (by omega)))
  · exact ok_bn (s_X12_ranBody (by omega) hB) (fun σ5 b5 => ok_bn2 (s_X12_plainTells (by omega) b5) (fun r6 σ6 b6 => ok_nm (fun x _ => ok_some (bx_m b6 (by omega)))))
theorem s_X12_act {m : Int} {a1 a2 a3 : Int32} {σ : SG} {ρ : RG} (hB : BX m σ) : ok (F_X12_act a1 a2 a3 σ ρ) (fun q => BX 8 q.2) := by
  unfold F_X12_act
  refine ok_nm (fun σ2 h2 => ?_)
  have b2 : BX 0 σ2 := by rw [h2]; exact bx_ran hB ⟨by decide, by decide⟩
  refine ok_bn (s_X12_isCutter b2) (fun r3 h3 => ok_if (fun _ => ok_some (bx_m b2 (by decide))) (fun c => ?_))
  obtain ⟨w1, w2⟩ := h3.2 c
  have r1 : rg a1 0 5 := rg_le w2 (rg_ge w1 (show rg (0 : Int32) 0 0 from ⟨by decide, by decide⟩) (rg_any _)) (show rg (5 : Int32) 5 5 from ⟨by decide, by decide⟩)
  refine ok_bn s_X12_in (fun r5 _ => ok_if (fun _ => ok_some (bx_m b2 (by decide))) (fun _ => ?_))
  refine ok_nm (fun x7 h7 => ?_)
  have r7 : rg x7 20 25 := rg_eq h7 (rg_add (show rg (20 : Int32) 20 20 from ⟨by decide, by decide⟩) r1 (by decide) (by decide) (by decide) (by decide))
  refine ok_gd (rg_inb r7 (by decide) (by decide)) (ok_nm (fun σ10 h10 => ok_nm (fun σ12 h12 => ok_nm (fun x13 h13 => ?_))))
  have b10 : BX 0 σ10 := by rw [h10]; exact bx_set b2 (rg_any _) (by decide)
  have b12 : BX 0 σ12 := by rw [h12]; exact bx_set b10 (rg_any _) (by decide)
  have r13 : rg x13 26 31 := rg_eq h13 (rg_add (show rg (26 : Int32) 26 26 from ⟨by decide, by decide⟩) r1 (by decide) (by decide) (by decide) (by decide))
  refine ok_gd (rg_inb r13 (by decide) (by decide)) (ok_nm (fun σ16 h16 => ?_))
  have b16 : BX 0 σ16 := by rw [h16]; exact bx_set b12 (rg_any _) (by decide)
  refine ok_if (fun _ => ?_) (fun _ => ok_if (fun _ => ?_) (fun _ => ?_))
  · exact ok_bn2 (s_X12_cutsActs (by decide) b16) (fun r σ b => ok_some (bx_m b (by decide)))
  · exact ok_bn2 (s_X12_eatsActs (by decide) b16) (fun r σ b => ok_some (bx_m b (by decide)))
  · exact ok_bn2 (s_X12_tellsActs (by decide) b16) (fun r σ b => ok_some (bx_m b (by decide)))
/-! the image -/
theorem simc_congr2 {f g : Nat → Int32} : ∀ (n i t : Nat), (∀ k, i ≤ k → k < i + n → g k = f k) → simc g n i t = simc f n i t := by
  intro n
  induction n with
  | zero => intro i t _; rfl
  | succ n ih =>
    intro i t h
    show (stepTop (g i) t).bind (simc g n (i + 1)) = (stepTop (f i) t).bind (simc f n (i + 1))
    rw [h i (Nat.le_refl _) (by omega)]
    congr 1
    funext z
    exact ih (i + 1) z (fun k hk hk2 => h k (by omega) (by omega))
/-- what is copied whole can be run as before -/
theorem WCf_copy {f g : Nat → Int32} (h : ∀ k, k < 909 → g k = f k) (h12 : (f 12).toInt ≤ 5) (hm : ∀ k, 204 ≤ k → k ≤ 208 → rg (f k) 0 140) (w : WCf f) : WCf g := by
  refine ⟨fun q hq => ?_, fun c hc => ?_⟩
  · rw [h 16 (by omega)] at hq
    obtain ⟨a, b⟩ := w.1 q hq
    have hq5 : q < 5 := by omega
    have r := hm (204 + q) (by omega) (by omega)
    have i := rg_cl r (by decide)
    have r2 := r.2
    rw [h 12 (by omega), h (204 + q) (by omega), simc_congr2 (f := f) (g := g) _ _ _ (fun k hk hk2 => h k (by omega))]
    exact ⟨a, b⟩
  · rw [h 11 (by omega)] at hc
    have z := w.2 c hc
    rw [h (44 + c) (by omega)]
    exact z
def BXb (m : Int) (σ : SG) : Prop := (∀ q ∈ bndL, ∀ k, q.2.1 ≤ k → k ≤ q.2.2.1 → rg (σ q.1 k) q.2.2.2.1 q.2.2.2.2) ∧ rg (σ 54 30) 0 m
theorem bxb_copy {m : Int} {σ : SG} (hB : BXb m σ) {a b k : Nat} (hab : (a = 55 ∧ b = 56) ∨ (a = 56 ∧ b = 55)) : BXb m (s2 σ b k (σ a k)) := by
  have h1 : ∀ q ∈ bndL, q.1 = 56 → (55, q.2) ∈ bndL := by decide
  have h2 : ∀ q ∈ bndL, q.1 = 55 → (56, q.2) ∈ bndL := by decide
  refine ⟨fun q hq j x y => ?_, ?_⟩
  · rw [s2_at]
    by_cases e1 : q.1 = b
    · rw [if_pos e1]
      by_cases e2 : j = k
      · rw [if_pos e2]
        subst e2
        rcases hab with ⟨rfl, rfl⟩ | ⟨rfl, rfl⟩
        · exact hB.1 _ (h1 q hq e1) j x y
        · exact hB.1 _ (h2 q hq e1) j x y
      · rw [if_neg e2, ← e1]; exact hB.1 q hq j x y
    · rw [if_neg e1]; exact hB.1 q hq j x y
  · rw [s2_ne 54 (by rcases hab with ⟨_, rfl⟩ | ⟨_, rfl⟩ <;> decide)]; exact hB.2
theorem bxb_m12 {m : Int} {σ : SG} (hB : BXb m σ) {r : Nat} (hr : r = 55 ∨ r = 56) : (σ r 12).toInt ≤ 5 ∧ ∀ k, 204 ≤ k → k ≤ 208 → rg (σ r k) 0 140 := by
  have h1 : ∀ r, r = 55 ∨ r = 56 → (r, 12, 12, 0, 5) ∈ bndL ∧ (r, 204, 208, 0, 140) ∈ bndL := by rintro r (rfl | rfl) <;> decide
  obtain ⟨q1, q2⟩ := h1 r hr
  exact ⟨(hB.1 _ q1 12 (Nat.le_refl _) (Nat.le_refl _)).2, fun k a b => hB.1 _ q2 k a b⟩
theorem s_X12_image_2 {m : Int} {ρ : RG} : ∀ (n : Nat) (σ : SG) (v1 : Int32), rg v1 0 909 → (909 : Int) - v1.toInt < (n : Int) → BXb m σ → WCf (σ 55) → (∀ k : Nat, (k : Int) < v1.toInt → σ 56 k = σ 55 k) → ok (F_X12_image_2 n σ ρ v1) (fun q => rg q.1 0 6 ∧ BX m q.2) := by
  intro n
  induction n with
  | zero => intro σ v1 r1 hm; exact (ms_z r1 (by decide) hm).elim
  | succ n ih =>
    intro σ v1 r1 hm hB hW he
    unfold F_X12_image_2
    have e909 : (909 : Int32).toInt = 909 := rfl
    refine ok_if (fun c => ?_) (fun c => ?_)
    · have l := Int32.le_iff_toInt_le.mp c
      refine ok_nm (fun σ3 h3 => ok_some ?_)
      have n55 : σ3 55 = σ 55 := by rw [h3, s2_ne 55 (by decide)]
      have n56 : σ3 56 = σ 56 := by rw [h3, s2_ne 56 (by decide)]
      obtain ⟨q1, q2⟩ := bxb_m12 hB (Or.inl rfl)
      have b : BX m σ3 := by
        refine ⟨fun q hq j x y => ?_, ?_, by rw [n55]; exact hW, Or.inr ?_⟩
        · have hq1 : ∀ q ∈ bndL, q.1 ≠ 54 := by decide
          rw [h3, s2_ne q.1 (hq1 q hq)]; exact hB.1 q hq j x y
        · rw [h3, s2_at, if_pos rfl, if_neg (by decide)]; exact hB.2
        · rw [n56]; exact WCf_copy (f := σ 55) (fun k hk => he k (by omega)) q1 q2 hW
      exact ⟨bx_get b (r := 55) (a := 11) (b := 11) (k := 11) (l := 0) (h := 6) (by decide) (by decide) (by decide), b⟩
    · have r1' : rg v1 0 908 := rg_lt (nle c) r1 (show rg (909 : Int32) 909 909 from ⟨by decide, by decide⟩)
      have i1 := rg_cl r1' (by decide)
      have one := show rg (1 : Int32) 1 1 from ⟨by decide, by decide⟩
      refine ok_gd (rg_inb r1' (by decide) (by decide)) (ok_gd (rg_inb r1' (by decide) (by decide)) (ok_nm (fun σ7 h7 => ok_nm (fun x8 h8 => ?_))))
      have e1 : (1 : Int32).toInt = 1 := rfl
      have u := r1'.2
      have u0 := r1'.1
      have e8 : x8.toInt = v1.toInt + 1 := by rw [h8, ti_add (by omega) (by omega), e1]
      refine ih σ7 x8 (rg_eq h8 (rg_add r1' one (by decide) (by decide) (by decide) (by decide))) (ms_s h8 r1' (by decide) (by decide) hm) (by rw [h7]; exact bxb_copy hB (Or.inl ⟨rfl, rfl⟩)) (by rw [h7, s2_ne 55 (by decide)]; exact hW) (fun k hk => ?_)
      rw [h7, s2_ne 55 (by decide), s2_at, if_pos rfl]
      by_cases q : k = v1.toNatClampNeg
      · rw [if_pos q, q]
      · rw [if_neg q]; exact he k (by omega)
theorem s_X12_image {m : Int} {σ : SG} {ρ : RG} (hB : BX m σ) : ok (F_X12_image σ ρ) (fun q => rg q.1 0 6 ∧ BX m q.2) :=
  s_X12_image_2 1024 σ 0 ⟨by decide, by decide⟩ (by decide) ⟨hB.1, hB.2.1⟩ hB.2.2.1 (fun k hk => by have : (0 : Int32).toInt = 0 := rfl; omega)
theorem s_X12_undo_12 {m : Int} {ρ : RG} : ∀ (n : Nat) (σ : SG) (v1 : Int32), rg v1 0 909 → (909 : Int) - v1.toInt < (n : Int) → BXb m σ → WCf (σ 56) → (∀ k : Nat, (k : Int) < v1.toInt → σ 55 k = σ 56 k) → ok (F_X12_undo_12 n σ ρ v1) (fun q => rg q.1 0 6 ∧ BX m q.2) := by
  intro n
  induction n with
  | zero => intro σ v1 r1 hm; exact (ms_z r1 (by decide) hm).elim
  | succ n ih =>
    intro σ v1 r1 hm hB hW he
    unfold F_X12_undo_12
    have e909 : (909 : Int32).toInt = 909 := rfl
    refine ok_if (fun c => ?_) (fun c => ?_)
    · have l := Int32.le_iff_toInt_le.mp c
      obtain ⟨q1, q2⟩ := bxb_m12 hB (Or.inr rfl)
      have b : BX m σ := ⟨hB.1, hB.2, WCf_copy (f := σ 56) (fun k hk => he k (by omega)) q1 q2 hW, Or.inr hW⟩
      exact ok_some ⟨bx_get b (r := 55) (a := 11) (b := 11) (k := 11) (l := 0) (h := 6) (by decide) (by decide) (by decide), b⟩
    · have r1' : rg v1 0 908 := rg_lt (nle c) r1 (show rg (909 : Int32) 909 909 from ⟨by decide, by decide⟩)
      have i1 := rg_cl r1' (by decide)
      have one := show rg (1 : Int32) 1 1 from ⟨by decide, by decide⟩
      refine ok_gd (rg_inb r1' (by decide) (by decide)) (ok_gd (rg_inb r1' (by decide) (by decide)) (ok_nm (fun σ7 h7 => ok_nm (fun x8 h8 => ?_))))
      have e1 : (1 : Int32).toInt = 1 := rfl
      have u := r1'.2
      have u0 := r1'.1
      have e8 : x8.toInt = v1.toInt + 1 := by rw [h8, ti_add (by omega) (by omega), e1]
      refine ih σ7 x8 (rg_eq h8 (rg_add r1' one (by decide) (by decide) (by decide) (by decide))) (ms_s h8 r1' (by decide) (by decide) hm) (by rw [h7]; exact bxb_copy hB (Or.inr ⟨rfl, rfl⟩)) (by rw [h7, s2_ne 56 (by decide)]; exact hW) (fun k hk => ?_)
      rw [h7, s2_ne 56 (by decide), s2_at, if_pos rfl]
      by_cases q : k = v1.toNatClampNeg
      · rw [if_pos q, q]
      · rw [if_neg q]; exact he k (by omega)
theorem s_X12_undo {m : Int} {σ : SG} {ρ : RG} (hB : BX m σ) : ok (F_X12_undo σ ρ) (fun q => rg q.1 (-3) 6 ∧ BX m q.2) := by
  unfold F_X12_undo
  refine ok_if (fun _ => ok_some ⟨show rg (-3 : Int32) (-3) 6 from ⟨by decide, by decide⟩, hB⟩) (fun c => ?_)
  exact ok_mono (s_X12_undo_12 1024 σ 0 ⟨by decide, by decide⟩ (by decide) ⟨hB.1, hB.2.1⟩ (hB.2.2.2.resolve_left c) (fun k hk => by have : (0 : Int32).toInt = 0 := rfl; omega)) (fun q h => ⟨rg_w h.1 (by decide) (by decide), h.2⟩)
