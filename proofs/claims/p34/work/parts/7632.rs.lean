/-! PART 7632.rs: by hand: who asks the reference leaves the face, EATEN and its flags as they were -/
def RSX (τ q : SG) : Prop := (∀ k, k < 11 → q 55 k = τ 55 k) ∧ q 54 17 = τ 54 17 ∧ q 54 18 = τ 54 18
def RSQ {α : Type} (τ : SG) (q : α × SG) : Prop := RSX τ q.2
theorem rs_refl {τ : SG} : RSX τ τ := ⟨fun _ _ => rfl, rfl, rfl⟩
def AW (τ τ' : SG) : Prop := (∀ k, k < 11 → τ' 57 k = τ 55 k) ∧ τ' 54 17 = τ 54 17 ∧ τ' 54 18 = τ 54 18
def HM (τ τ' : SG) : Prop := (∀ k, k < 11 → τ' 55 k = τ 55 k) ∧ AW τ τ'
theorem hm_rs {τ τ' : SG} (h : HM τ τ') : RSX τ τ' := ⟨h.1, h.2.2⟩
theorem aw_kf {τ τ1 τ2 : SG} (h : AW τ τ1) (k : KF τ1 τ2) : AW τ τ2 := ⟨fun x hx => by rw [k 57 x rfl]; exact h.1 x hx, by rw [k 54 17 rfl]; exact h.2.1, by rw [k 54 18 rfl]; exact h.2.2⟩
theorem hm_keeps {τ : SG} {ρ : RG} : kp (F_X12_keeps τ ρ) (fun q => HM τ q) := kp_mono k_keeps (fun q h => ⟨fun k _ => by rw [h.1 55 (by decide)], h.2, by rw [h.1 54 (by decide)], by rw [h.1 54 (by decide)]⟩)
theorem hm_back {τ τ1 : SG} {ρ : RG} (h : AW τ τ1) : kp (F_X12_goesBack τ1 ρ) (fun q => HM τ q) := kp_mono k_back (fun q g => ⟨fun k hk => by rw [g.2.2 k hk]; exact h.1 k hk, fun k hk => by rw [g.1 57 (by decide)]; exact h.1 k hk, by rw [g.1 54 (by decide)]; exact h.2.1, by rw [g.1 54 (by decide)]; exact h.2.2⟩)
theorem aw_cuts {N : Nat} {K len : Nat → Nat} {a1 a2 : Int32} {τ τ1 : SG} {ρ : RG} (hL : Lay N K len ρ) (h : AW τ τ1) : kp (F_X12_cuts a1 a2 τ1 ρ) (fun q => AW τ q.2) := kp_mono (kf_X12_cuts hL) (fun q g => aw_kf h g)
theorem aw_goes {N : Nat} {K len : Nat → Nat} {a1 a2 a3 : Int32} {τ τ1 : SG} {ρ : RG} (hL : Lay N K len ρ) (h : AW τ τ1) : kp (F_X12_goesOn a1 a2 a3 τ1 ρ) (fun q => AW τ q) := kp_mono (kf_X12_goesOn hL) (fun q g => aw_kf h g)
theorem hm_fin {α : Type} {τ τ1 : SG} {ρ : RG} {f : SG → α} (h : AW τ τ1) : kp (bn (F_X12_goesBack τ1 ρ) fun σ => some (f σ, σ)) (RSQ τ) := kp_bn (hm_back h) (fun σ g => kp_some (hm_rs g))
theorem rs_would {N : Nat} {K len : Nat → Nat} {a1 a2 : Int32} {τ : SG} {ρ : RG} (hL : Lay N K len ρ) : kp (F_X12_would a1 a2 τ ρ) (RSQ τ) := by
  unfold F_X12_would
  refine kp_bx (fun r1 => kp_if (kp_some rs_refl) (kp_bx (fun r3 => kp_if (kp_some rs_refl) (kp_bn hm_keeps (fun σ5 h5 => kp_nm (fun x6 _ => kp_gd (fun _ => kp_bn2 (aw_cuts hL h5.2) (fun r8 σ8 h8 => ?_))))))))
  have F : ∀ (v : Int32), kp (bn (F_X12_goesBack σ8 ρ) fun σ => some (v, σ)) (RSQ τ) := fun v => hm_fin (f := fun _ => v) h8
  exact kp_if (F _) (kp_nm (fun x11 _ => kp_if (F _) (kp_if (F _) (kp_if (F _) (kp_if (F _) (kp_nm (fun x16 _ => kp_nm (fun x17 _ => kp_gd (fun _ => F _)))))))))
theorem rs_on {N : Nat} {K len : Nat → Nat} {a1 a2 : Int32} {τ : SG} {ρ : RG} (hL : Lay N K len ρ) : kp (F_X12_on a1 a2 τ ρ) (RSQ τ) := by
  have go : kp (F_X12_on_24 a1 a2 τ ρ a1 a2) (RSQ τ) := by
    unfold F_X12_on_24
    refine kp_bx (fun r3 => kp_if (kp_some rs_refl) (kp_bn hm_keeps (fun σ5 h5 => kp_bn (aw_goes hL h5.2) (fun σ6 h6 => ?_))))
    have F : ∀ (v : Int32), kp (bn (F_X12_goesBack σ6 ρ) fun σ => some (v, σ)) (RSQ τ) := fun v => hm_fin (f := fun _ => v) h6
    exact kp_if (kp_if (kp_nm (fun x _ => F _)) (kp_if (F _) (kp_if (F _) (kp_nm (fun x11 _ => kp_nm (fun x12 _ => kp_gd (fun _ => kp_nm (fun x14 _ => kp_nm (fun x15 _ => kp_gd (fun _ => kp_nm (fun x17 _ => F _))))))))))) (kp_nm (fun x _ => kp_gd (fun _ => F _)))
  unfold F_X12_on
  exact kp_bx (fun r1 => kp_if (kp_nm (fun x26 _ => kp_bx (fun r27 => kp_if (kp_some rs_refl) go))) go)
theorem rs_toasted {N : Nat} {K len : Nat → Nat} {a1 a2 : Int32} {τ : SG} {ρ : RG} (hL : Lay N K len ρ) : kp (F_X12_toasted a1 a2 τ ρ) (RSQ τ) := by
  unfold F_X12_toasted
  exact kp_bx (fun r1 => kp_if (kp_some rs_refl) (kp_bx (fun r3 => kp_if (kp_some rs_refl) (kp_bn hm_keeps (fun σ5 h5 => kp_bn (aw_goes hL h5.2) (fun σ6 h6 => hm_fin (f := fun σ7 => σ7 54 21) h6))))))
theorem rs_lasts {N : Nat} {K len : Nat → Nat} {τ : SG} {ρ : RG} (hL : Lay N K len ρ) : kp (F_X12_lasts τ ρ) (RSQ τ) := by
  unfold F_X12_lasts
  exact kp_bn hm_keeps (fun σ5 h5 => kp_bn (aw_goes hL h5.2) (fun σ6 h6 => hm_fin (f := fun σ7 => σ7 54 19) h6))
theorem hm_goodBy {N : Nat} {K len : Nat → Nat} {a1 a2 : Int32} {τ τ1 : SG} {ρ : RG} (hL : Lay N K len ρ) (h : AW τ τ1) : kp (F_X12_goodBy a1 a2 τ1 ρ) (fun q => HM τ q.2) := by
  unfold F_X12_goodBy
  exact kp_bn (aw_goes hL h) (fun σ1 h1 => kp_bn (hm_back h1) (fun σ2 h2 => kp_some h2))
theorem rs_when {N : Nat} {K len : Nat → Nat} {a1 a2 : Int32} {τ : SG} {ρ : RG} (hL : Lay N K len ρ) : kp (F_X12_when a1 a2 τ ρ) (RSQ τ) := by
  have loop : ∀ (n : Nat) (τ1 : SG) (v1 v2 v3 v4 v5 : Int32), HM τ τ1 → kp (F_X12_when_42 a1 a2 n τ1 ρ v1 v2 v3 v4 v5) (RSQ τ) := by
    intro n
    induction n with
    | zero => intro τ1 v1 v2 v3 v4 v5 _; exact kp_none
    | succ n ih =>
      intro τ1 v1 v2 v3 v4 v5 h
      have E : ∀ (v : Int32), RSQ τ (v, τ1) := fun v => hm_rs h
      unfold F_X12_when_42
      refine kp_if (kp_if (kp_some (E _)) (kp_if (kp_some (E _)) (kp_some (E _)))) (kp_bn2 (hm_goodBy hL h.2) (fun r10 σ10 h10 => ?_))
      have W : ∀ (x : Int32), kp (F_X12_when_70 a1 a2 (F_X12_when_42 a1 a2 n) σ10 ρ v1 v2 v3 v5 r10 x) (RSQ τ) := fun x => by
        unfold F_X12_when_70 F_X12_when_84
        exact kp_if (kp_nm (fun y _ => ih σ10 _ _ _ _ _ h10)) (kp_nm (fun y _ => ih σ10 _ _ _ _ _ h10))
      exact kp_if (W _) (W _)
  unfold F_X12_when
  exact kp_bx (fun r1 => kp_if (kp_some rs_refl) (kp_bx (fun r3 => kp_if (kp_some rs_refl) (kp_bn hm_keeps (fun σ5 h5 => kp_bn2 (hm_goodBy hL h5.2) (fun r6 σ6 h6 => loop 1024 σ6 _ _ _ _ _ h6))))))
theorem rs_guide {N : Nat} {K len : Nat → Nat} {a1 : Int32} {τ : SG} {ρ : RG} (hL : Lay N K len ρ) (h17 : τ 54 17 = 0) : kp (F_X12_guide a1 τ ρ) (RSQ τ) := by
  unfold F_X12_guide
  refine kp_bx (fun r1 => kp_if (kp_some rs_refl) (kp_bn hm_keeps (fun σ3 h3 => kp_bn2 (hm_goodBy hL h3.2) (fun r4 σ4 h4 => kp_nm (fun σ6 h6 => ?_)))))
  have a6 : AW σ6 σ6 ∨ True := Or.inr trivial
  -- the flag of the guide is put, and taken away
  have b6 : AW (s2 τ 54 17 1) σ6 := ⟨fun k hk => by rw [h6, sn (by omega), sn (by omega)]; exact h4.2.1 k hk, by rw [h6, sv, sv], by rw [h6, sn (by omega), sn (by omega)]; exact h4.2.2.2⟩
  refine kp_bn2 (hm_goodBy hL b6) (fun r7 σ7 h7 => kp_nm (fun σ9 h9 => kp_nm (fun x10 _ => kp_some ?_)))
  show RSX τ σ9
  refine ⟨fun k hk => by rw [h9, sn (by omega)]; exact (show σ7 55 k = _ from h7.1 k hk).trans (sn (by omega)), by rw [h9, sv, h17], ?_⟩
  rw [h9, sn (by omega)]; exact (show σ7 54 18 = _ from h7.2.2.2).trans (sn (by omega))
theorem rs_cancel {N : Nat} {K len : Nat → Nat} {τ : SG} {ρ : RG} (hL : Lay N K len ρ) : kp (F_X12_cancel τ ρ) (RSQ τ) := by
  have loop : ∀ (n : Nat) (τ1 : SG) (v1 v2 v3 : Int32), HM τ τ1 → kp (F_X12_cancel_12 n τ1 ρ v1 v2 v3) (RSQ τ) := by
    intro n
    induction n with
    | zero => intro τ1 v1 v2 v3 _; exact kp_none
    | succ n ih =>
      intro τ1 v1 v2 v3 h
      have B : ∀ (τ2 : SG) (y1 y2 y3 : Int32), AW τ τ2 → kp (F_X12_cancel_143 (F_X12_cancel_12 n) τ2 ρ y1 y2 y3) (RSQ τ) := fun τ2 y1 y2 y3 a => by
        unfold F_X12_cancel_143
        exact kp_bn (hm_back a) (fun σ12 g => kp_nm (fun x _ => ih σ12 _ _ _ g))
      unfold F_X12_cancel_12
      exact kp_nm (fun x2 _ => kp_if (kp_some (hm_rs h)) (kp_gd (fun _ => kp_nm (fun x5 _ => kp_gd (fun _ => kp_nm (fun x7 _ => kp_nm (fun x8 _ => kp_gd (fun _ => kp_bn2 (aw_cuts hL h.2) (fun r10 σ10 h10 => kp_if (B _ _ _ _ h10) (kp_nm (fun x14 _ => kp_gd (fun _ => kp_bn2 (aw_cuts hL h10) (fun r16 σ16 h16 => kp_if (B _ _ _ _ h16) (kp_bx (fun r18 => kp_bx (fun r19 => kp_nm (fun x20 _ => kp_if (B _ _ _ _ h16) (kp_bx (fun r22 => kp_bx (fun r23 => kp_nm (fun x24 _ => kp_nm (fun x25 _ => kp_nm (fun x26 _ => B _ _ _ _ h16)))))))))))))))))))))))
  unfold F_X12_cancel
  exact kp_bn hm_keeps (fun σ1 h1 => loop 1024 σ1 _ _ _ h1)
theorem rs_enough {N : Nat} {K len : Nat → Nat} {a1 : Int32} {τ : SG} {ρ : RG} (hL : Lay N K len ρ) : kp (F_X12_enough a1 τ ρ) (RSQ τ) := by
  have loop : ∀ (n : Nat) (τ1 : SG) (v1 v2 : Int32), HM τ τ1 → kp (F_X12_enough_16 a1 n τ1 ρ v1 v2) (RSQ τ) := by
    intro n
    induction n with
    | zero => intro τ1 v1 v2 _; exact kp_none
    | succ n ih =>
      intro τ1 v1 v2 h
      have B : ∀ (τ2 : SG) (k0 : Int32), AW τ τ2 → kp (F_X12_enough_43 a1 (F_X12_enough_16 a1 n) τ2 ρ v1 v2 k0) (RSQ τ) := fun τ2 k0 a => by
        unfold F_X12_enough_43
        exact kp_bn (hm_back a) (fun σ7 g => kp_if (kp_nm (fun x _ => ih σ7 _ _ g)) (kp_some (hm_rs g)))
      unfold F_X12_enough_16 F_X12_enough_42
      exact kp_if (kp_some (hm_rs h)) (kp_bn2 (aw_cuts hL h.2) (fun r5 σ5 h5 => kp_if (B _ _ h5) (kp_bx (fun r10 => kp_if (B _ _ h5) (B _ _ h5)))))
  unfold F_X12_enough
  exact kp_bx (fun r1 => kp_if (kp_some rs_refl) (kp_bn hm_keeps (fun σ3 h3 => loop 1024 σ3 _ _ h3)))
theorem rs_again {N : Nat} {K len : Nat → Nat} {a1 : Int32} {τ : SG} {ρ : RG} (hL : Lay N K len ρ) (h18 : τ 54 18 = 0) : kp (F_X12_again a1 τ ρ) (RSQ τ) := by
  have fin : ∀ (τ1 : SG) (v : Int32), AW (s2 τ 54 18 1) τ1 → kp (F_X12_again_106 a1 τ1 ρ v) (RSQ τ) := fun τ1 v h => by
    unfold F_X12_again_106
    refine kp_nm (fun σ8 h8 => kp_bn (hm_back (τ := τ) ⟨fun k hk => ?_, ?_, ?_⟩) (fun σ9 g => kp_some (hm_rs g)))
    · rw [h8, sn (by omega), h.1 k hk, sn (by omega)]
    · rw [h8, sn (by omega), h.2.1, sn (by omega)]
    · rw [h8, sv, h18]
  have loop : ∀ (n : Nat) (τ1 : SG) (v1 v2 v3 : Int32), AW (s2 τ 54 18 1) τ1 → kp (F_X12_again_24 a1 n τ1 ρ v1 v2 v3) (RSQ τ) := by
    intro n
    induction n with
    | zero => intro τ1 v1 v2 v3 _; exact kp_none
    | succ n ih =>
      intro τ1 v1 v2 v3 h
      have C : ∀ (τ2 : SG) (k0 : Int32), AW (s2 τ 54 18 1) τ2 → kp (F_X12_again_99 a1 (F_X12_again_24 a1 n) τ2 ρ v1 v3 k0) (RSQ τ) := fun τ2 k0 a => by
        unfold F_X12_again_99
        exact kp_nm (fun x _ => ih τ2 _ _ _ a)
      unfold F_X12_again_24
      refine kp_if (fin τ1 v2 h) (kp_if (kp_nm (fun x11 _ => kp_gd (fun _ => kp_bn2 (aw_cuts hL h) (fun r13 σ13 h13 => kp_nm (fun σ15 h15 => ?_))))) (fin τ1 v2 h))
      have h15' : AW (s2 τ 54 18 1) σ15 := ⟨fun k hk => by rw [h15, sn (by omega)]; exact h13.1 k hk, by rw [h15, sn (by omega)]; exact h13.2.1, by rw [h15, sn (by omega)]; exact h13.2.2⟩
      unfold F_X12_again_97
      exact kp_if (kp_if (C _ _ h15') (C _ _ h15')) (C _ _ h15')
  unfold F_X12_again
  refine kp_bx (fun r1 => kp_if (kp_some rs_refl) (kp_bn hm_keeps (fun σ3 h3 => kp_nm (fun σ5 h5 => loop 1024 σ5 _ _ _ ?_))))
  exact ⟨fun k hk => by rw [h5, sn (by omega), sn (by omega)]; exact h3.2.1 k hk, by rw [h5, sn (by omega), sn (by omega)]; exact h3.2.2.1, by rw [h5, sv, sv]⟩
theorem rs_evener {N : Nat} {K len : Nat → Nat} {a1 a2 : Int32} {τ : SG} {ρ : RG} (hL : Lay N K len ρ) : kp (F_X12_evener a1 a2 τ ρ) (RSQ τ) := by
  have loop : ∀ (n : Nat) (τ1 : SG) (v2 v3 v4 v5 : Int32), AW τ τ1 → kp (F_X12_evener_61 a1 a2 n τ1 ρ v2 v3 v4 v5) (RSQ τ) := by
    intro n
    induction n with
    | zero => intro τ1 v2 v3 v4 v5 _; exact kp_none
    | succ n ih =>
      intro τ1 v2 v3 v4 v5 h
      have C : ∀ (k0 : Int32), kp (F_X12_evener_99 a1 a2 (F_X12_evener_61 a1 a2 n) τ1 ρ v2 v4 v5 k0) (RSQ τ) := fun k0 => by
        unfold F_X12_evener_99 F_X12_evener_128
        exact kp_nm (fun x _ => kp_gd (fun _ => kp_if (kp_nm (fun y _ => ih τ1 _ _ _ _ h)) (kp_nm (fun y _ => kp_gd (fun _ => kp_nm (fun w _ => ih τ1 _ _ _ _ h))))))
      unfold F_X12_evener_61
      exact kp_if (kp_nm (fun x9 _ => kp_gd (fun _ => kp_nm (fun x11 _ => kp_bn (hm_back h) (fun σ12 g => kp_if (kp_some (hm_rs g)) (kp_some (hm_rs g))))))) (kp_nm (fun x14 _ => kp_gd (fun _ => kp_nm (fun x16 _ => kp_gd (fun _ => kp_if (C _) (C _))))))
  unfold F_X12_evener
  exact kp_bx (fun r1 => kp_if (kp_some rs_refl) (kp_bx (fun r3 => kp_if (kp_some rs_refl) (kp_if (kp_some rs_refl) (kp_bn hm_keeps (fun σ6 h6 => kp_bn (aw_goes hL h6.2) (fun σ7 h7 => loop 1024 σ7 _ _ _ _ h7)))))))
theorem rs_who {N : Nat} {K len : Nat → Nat} {τ : SG} {ρ : RG} (hL : Lay N K len ρ) : kp (F_X12_who τ ρ) (RSQ τ) := by
  have loop : ∀ (n : Nat) (τ1 : SG) (v1 v2 : Int32), HM τ τ1 → kp (F_X12_who_8 n τ1 ρ v1 v2) (RSQ τ) := by
    intro n
    induction n with
    | zero => intro τ1 v1 v2 _; exact kp_none
    | succ n ih =>
      intro τ1 v1 v2 h
      have B : ∀ (τ2 : SG) (k1 : Int32), AW τ τ2 → kp (F_X12_who_76 (F_X12_who_8 n) τ2 ρ v2 v1 k1) (RSQ τ) := fun τ2 k1 a => by
        unfold F_X12_who_76
        exact kp_nm (fun x _ => kp_bn (hm_back a) (fun σ8 g => kp_nm (fun y _ => ih σ8 _ _ g)))
      unfold F_X12_who_8 F_X12_who_75
      exact kp_if (kp_some (hm_rs h)) (kp_nm (fun x3 _ => kp_gd (fun _ => kp_bn2 (aw_cuts hL h.2) (fun r5 σ5 h5 => kp_if (B _ _ h5) (kp_if (kp_if (kp_nm (fun x12 _ => B _ _ h5)) (B _ _ h5)) (B _ _ h5))))))
  unfold F_X12_who
  exact kp_bn hm_keeps (fun σ1 h1 => loop 1024 σ1 _ _ h1)
theorem rs_mean {N : Nat} {K len : Nat → Nat} {a1 : Int32} {τ : SG} {ρ : RG} (hL : Lay N K len ρ) : kp (F_X12_mean a1 τ ρ) (RSQ τ) := by
  have loop : ∀ (n : Nat) (τ1 : SG) (v1 : Int32) (v2 : Int64) (v4 : Int32), HM τ τ1 → kp (F_X12_mean_32 a1 n τ1 ρ v1 v2 v4) (RSQ τ) := by
    intro n
    induction n with
    | zero => intro τ1 v1 v2 v4 _; exact kp_none
    | succ n ih =>
      intro τ1 v1 v2 v4 h
      have B : ∀ (τ2 : SG) (k1 : Int64), AW τ τ2 → kp (F_X12_mean_73 a1 (F_X12_mean_32 a1 n) τ2 ρ v1 v4 v2 k1) (RSQ τ) := fun τ2 k1 a => by
        unfold F_X12_mean_73
        exact kp_nm (fun x _ => kp_bn (hm_back a) (fun σ8 g => kp_nm (fun y _ => ih σ8 _ _ _ g)))
      unfold F_X12_mean_32
      exact kp_if (kp_bx (fun r6 => kp_some (hm_rs h))) (kp_nm (fun x7 _ => kp_gd (fun _ => kp_bn2 (aw_cuts hL h.2) (fun r9 σ9 h9 => kp_if (B _ _ h9) (B _ _ h9)))))
  unfold F_X12_mean
  exact kp_bx (fun r1 => kp_if (kp_some rs_refl) (kp_if (kp_some rs_refl) (kp_bn hm_keeps (fun σ4 h4 => loop 1024 σ4 _ _ _ h4))))
theorem rs_looked {N : Nat} {K len : Nat → Nat} {τ : SG} {ρ : RG} (hL : Lay N K len ρ) : kp (F_X12_looked τ ρ) (RSQ τ) := by
  have loop : ∀ (n : Nat) (τ1 : SG) (v1 v2 : Int32), AW τ τ1 → kp (F_X12_looked_9 n τ1 ρ v1 v2) (RSQ τ) := by
    intro n
    induction n with
    | zero => intro τ1 v1 v2 _; exact kp_none
    | succ n ih =>
      intro τ1 v1 v2 h
      have B : ∀ (τ2 : SG) (k0 : Int32), AW τ τ2 → kp (F_X12_looked_75 (F_X12_looked_9 n) τ2 ρ v2 k0) (RSQ τ) := fun τ2 k0 a => by
        unfold F_X12_looked_75
        exact kp_nm (fun y _ => ih τ2 _ _ a)
      unfold F_X12_looked_9 F_X12_looked_69
      exact kp_if (hm_fin (f := fun _ => v1) h) (kp_if (kp_nm (fun x6 _ => kp_gd (fun _ => kp_nm (fun x8 _ => kp_gd (fun _ => kp_bn2 (aw_cuts hL h) (fun r10 σ10 h10 => kp_if (B _ _ h10) (kp_nm (fun x13 _ => kp_gd (fun _ => kp_if (B _ _ h10) (B _ _ h10)))))))))) (hm_fin (f := fun _ => v1) h))
  unfold F_X12_looked
  exact kp_bn hm_keeps (fun σ1 h1 => loop 1024 σ1 _ _ h1.2)
theorem rs_cheese {N : Nat} {K len : Nat → Nat} {a1 a2 : Int32} {τ : SG} {ρ : RG} (hL : Lay N K len ρ) : kp (F_X12_cheese a1 a2 τ ρ) (RSQ τ) := by
  have fin : ∀ (τ1 : SG) (v2 v3 v4 : Int32), RSX τ τ1 → kp (F_X12_cheese_146 a1 a2 τ1 ρ v2 v3 v4) (RSQ τ) := fun τ1 v2 v3 v4 h => by
    unfold F_X12_cheese_146
    exact kp_if (kp_some h) (kp_if (kp_some h) (kp_nm (fun x _ => kp_gd (fun _ => kp_some h))))
  have st : ∀ (τ1 τ2 : SG) (x : Nat) (v : Int32), RSX τ τ1 → τ2 = s2 τ1 63 x v → RSX τ τ2 := fun τ1 τ2 x v h e => ⟨fun k hk => by rw [e, sn (by omega)]; exact h.1 k hk, by rw [e, sn (by omega)]; exact h.2.1, by rw [e, sn (by omega)]; exact h.2.2⟩
  have loop : ∀ (n : Nat) (τ1 : SG) (v2 v3 v4 : Int32), RSX τ τ1 → kp (F_X12_cheese_63 a1 a2 n τ1 ρ v2 v3 v4) (RSQ τ) := by
    intro n
    induction n with
    | zero => intro τ1 v2 v3 v4 _; exact kp_none
    | succ n ih =>
      intro τ1 v2 v3 v4 h
      unfold F_X12_cheese_63
      exact kp_if (fin _ _ _ _ h) (kp_gd (fun _ => kp_nm (fun x12 _ => kp_nm (fun x13 _ => kp_gd (fun _ => kp_if (fin _ _ _ _ h) (kp_gd (fun _ => kp_nm (fun x17 _ => kp_gd (fun _ => kp_nm (fun x19 _ => kp_gd (fun _ => kp_nm (fun x21 _ => kp_gd (fun _ => kp_nm (fun σ24 h24 => kp_nm (fun x25 _ => kp_gd (fun _ => kp_nm (fun x27 _ => kp_nm (fun x28 _ => ih σ24 _ _ _ (st _ _ _ _ h h24)))))))))))))))))))
  have zero : ∀ (n : Nat) (τ1 : SG) (v1 v2 v3 : Int32), RSX τ τ1 → kp (F_X12_cheese_39 a1 a2 n τ1 ρ v1 v2 v3) (RSQ τ) := by
    intro n
    induction n with
    | zero => intro τ1 v1 v2 v3 _; exact kp_none
    | succ n ih =>
      intro τ1 v1 v2 v3 h
      unfold F_X12_cheese_39
      exact kp_if (loop 1024 τ1 _ _ _ h) (kp_gd (fun _ => kp_nm (fun σ31 h31 => kp_nm (fun x32 _ => ih σ31 _ _ _ (st _ _ _ _ h h31)))))
  have go : kp (F_X12_cheese_22 a1 a2 τ ρ a1 a2) (RSQ τ) := by
    unfold F_X12_cheese_22
    exact kp_bx (fun r3 => kp_if (kp_some rs_refl) (zero 1024 τ _ _ _ rs_refl))
  unfold F_X12_cheese
  exact kp_bx (fun r1 => kp_if (kp_nm (fun x33 _ => kp_bx (fun r34 => kp_if (kp_some rs_refl) go))) go)
/-! stands, standsBack; the recursions -/
theorem k_stands2 {a1 : Int32} {ρ : RG} {k : Nat} (hk : k ≤ 1000) : ∀ (n : Nat) (τ : SG) (v1 v2 : Int32), v1.toInt = (k : Int) → 0 ≤ v2.toInt → v2.toInt ≤ 11 → kp (F_X12_stands_2 a1 n τ ρ v1 v2) (fun q => (∀ r, r ≠ 60 → q r = τ r) ∧ (∀ y : Nat, y < 11 * k → q 60 y = τ 60 y) ∧ ∀ x : Nat, x < 11 → (v2.toInt ≤ (x : Int) ∨ τ 60 (11 * k + x) = τ 55 x) → q 60 (11 * k + x) = τ 55 x) := by
  have e11 : (11 : Int32).toInt = 11 := rfl
  intro n
  induction n with
  | zero => intro τ v1 v2 _ _ _; exact kp_none
  | succ n ih =>
    intro τ v1 v2 h1 h0 h2
    unfold F_X12_stands_2
    refine kp_ih (fun c => kp_some ⟨fun _ _ => rfl, fun _ _ => rfl, fun x hx q => ?_⟩) (fun c => kp_nm (fun x2 g2 => kp_nm (fun x3 g3 => kp_gd (fun _ => kp_gd (fun _ => kp_nm (fun σ7 g7 => kp_nm (fun x8 g8 => ?_)))))))
    · have := le_i c
      rcases q with q | q
      · omega
      · exact q
    · have lt := lt_i (nle c)
      have w2 : x2.toInt = 11 * (k : Int) := by rw [g2, Int32.toInt_mul, e11, h1, bmod_id (by omega) (by omega)]
      have w3 : x3.toInt = 11 * (k : Int) + v2.toInt := by rw [g3, ti_add (by omega) (by omega), w2]
      have c2 := cl0 h0
      have n3 : x3.toNatClampNeg = 11 * k + v2.toNatClampNeg := cn (by omega)
      rw [n3] at g7
      have e8 : x8.toInt = v2.toInt + 1 := by rw [g8, ti_add (by rw [ti_1]; omega) (by rw [ti_1]; omega), ti_1]
      have r7 : ∀ r, r ≠ 60 → σ7 r = τ r := fun r hr => by rw [g7, s2_ne r hr]
      refine kp_mono (ih σ7 v1 x8 h1 (by omega) (by omega)) (fun q hq => ⟨fun r hr => (hq.1 r hr).trans (r7 r hr), fun y hy => by rw [hq.2.1 y hy, g7, sn (by omega)], fun x hx y => ?_⟩)
      rw [← r7 55 (by decide)]
      refine hq.2.2 x hx ?_
      by_cases e : x = v2.toNatClampNeg
      · refine Or.inr ?_
        rw [e, r7 55 (by decide), g7, sv]
      · rcases y with y | y
        · exact Or.inl (by omega)
        · refine Or.inr ?_
          rw [r7 55 (by decide), g7, sn (by omega)]; exact y
theorem k_stands {a1 : Int32} {τ : SG} {ρ : RG} {k : Nat} (hk : k ≤ 1000) (h1 : a1.toInt = (k : Int)) : kp (F_X12_stands a1 τ ρ) (fun q => (∀ r, r ≠ 60 → q r = τ r) ∧ (∀ y : Nat, y < 11 * k → q 60 y = τ 60 y) ∧ ∀ x : Nat, x < 11 → q 60 (11 * k + x) = τ 55 x) := by
  unfold F_X12_stands
  exact kp_mono (k_stands2 hk 1024 τ a1 0 h1 (by decide) (by decide)) (fun q h => ⟨h.1, h.2.1, fun x hx => h.2.2 x hx (Or.inl (by rw [ti_0]; omega))⟩)
theorem k_standsB2 {a1 : Int32} {ρ : RG} {k : Nat} (hk : k ≤ 1000) : ∀ (n : Nat) (τ : SG) (v1 v2 : Int32), v1.toInt = (k : Int) → 0 ≤ v2.toInt → v2.toInt ≤ 11 → kp (F_X12_standsBack_2 a1 n τ ρ v1 v2) (fun q => (∀ r, r ≠ 55 → q r = τ r) ∧ (∀ y : Nat, 11 ≤ y → q 55 y = τ 55 y) ∧ ∀ x : Nat, x < 11 → (v2.toInt ≤ (x : Int) ∨ τ 55 x = τ 60 (11 * k + x)) → q 55 x = τ 60 (11 * k + x)) := by
  have e11 : (11 : Int32).toInt = 11 := rfl
  intro n
  induction n with
  | zero => intro τ v1 v2 _ _ _; exact kp_none
  | succ n ih =>
    intro τ v1 v2 h1 h0 h2
    unfold F_X12_standsBack_2
    refine kp_ih (fun c => kp_some ⟨fun _ _ => rfl, fun _ _ => rfl, fun x hx q => ?_⟩) (fun c => kp_nm (fun x2 g2 => kp_nm (fun x3 g3 => kp_gd (fun _ => kp_gd (fun _ => kp_nm (fun σ7 g7 => kp_nm (fun x8 g8 => ?_)))))))
    · have := le_i c
      rcases q with q | q
      · omega
      · exact q
    · have lt := lt_i (nle c)
      have w2 : x2.toInt = 11 * (k : Int) := by rw [g2, Int32.toInt_mul, e11, h1, bmod_id (by omega) (by omega)]
      have w3 : x3.toInt = 11 * (k : Int) + v2.toInt := by rw [g3, ti_add (by omega) (by omega), w2]
      have c2 := cl0 h0
      have n3 : x3.toNatClampNeg = 11 * k + v2.toNatClampNeg := cn (by omega)
      rw [n3] at g7
      have e8 : x8.toInt = v2.toInt + 1 := by rw [g8, ti_add (by rw [ti_1]; omega) (by rw [ti_1]; omega), ti_1]
      have r7 : ∀ r, r ≠ 55 → σ7 r = τ r := fun r hr => by rw [g7, s2_ne r hr]
      refine kp_mono (ih σ7 v1 x8 h1 (by omega) (by omega)) (fun q hq => ⟨fun r hr => (hq.1 r hr).trans (r7 r hr), fun y hy => by rw [hq.2.1 y hy, g7, sn (by omega)], fun x hx y => ?_⟩)
      rw [← r7 60 (by decide)]
      refine hq.2.2 x hx ?_
      by_cases e : x = v2.toNatClampNeg
      · refine Or.inr ?_
        rw [e, r7 60 (by decide), g7, sv]
      · rcases y with y | y
        · exact Or.inl (by omega)
        · refine Or.inr ?_
          rw [r7 60 (by decide), g7, sn (by omega)]; exact y
theorem k_standsB {a1 : Int32} {τ : SG} {ρ : RG} {k : Nat} (hk : k ≤ 1000) (h1 : a1.toInt = (k : Int)) : kp (F_X12_standsBack a1 τ ρ) (fun q => (∀ r, r ≠ 55 → q r = τ r) ∧ (∀ y : Nat, 11 ≤ y → q 55 y = τ 55 y) ∧ ∀ x : Nat, x < 11 → q 55 x = τ 60 (11 * k + x)) := by
  unfold F_X12_standsBack
  exact kp_mono (k_standsB2 hk 1024 τ a1 0 h1 (by decide) (by decide)) (fun q h => ⟨h.1, h.2.1, fun x hx => h.2.2 x hx (Or.inl (by rw [ti_0]; omega))⟩)
/-- away from a face that stands at place k; home again -/
def AK (k : Nat) (τ τ' : SG) : Prop := (∀ x, x < 11 → τ' 60 (11 * k + x) = τ 55 x) ∧ (∀ y, y < 11 * k → τ' 60 y = τ 60 y) ∧ τ' 54 17 = τ 54 17 ∧ τ' 54 18 = τ 54 18
def HK (k : Nat) (τ τ' : SG) : Prop := (∀ x, x < 11 → τ' 55 x = τ 55 x) ∧ AK k τ τ'
/-- what a recursion at place k leaves -/
def RK (k : Nat) (τ q : SG) : Prop := RSX τ q ∧ ∀ y, y < 11 * k → q 60 y = τ 60 y
theorem hk_rk {k : Nat} {τ τ' : SG} (h : HK k τ τ') : RK k τ τ' := ⟨⟨h.1, h.2.2.2⟩, h.2.2.1⟩
theorem ak_kf {k : Nat} {τ τ1 τ2 : SG} (h : AK k τ τ1) (f : KF τ1 τ2) : AK k τ τ2 := ⟨fun x hx => by rw [f 60 _ rfl]; exact h.1 x hx, fun y hy => by rw [f 60 y rfl]; exact h.2.1 y hy, by rw [f 54 17 rfl]; exact h.2.2.1, by rw [f 54 18 rfl]; exact h.2.2.2⟩
theorem ak_rk {k : Nat} {τ τ1 τ2 : SG} (h : AK k τ τ1) (f : RK (k + 1) τ1 τ2) : AK k τ τ2 := ⟨fun x hx => by rw [f.2 _ (by omega)]; exact h.1 x hx, fun y hy => by rw [f.2 y (by omega)]; exact h.2.1 y hy, by rw [f.1.2.1]; exact h.2.2.1, by rw [f.1.2.2]; exact h.2.2.2⟩
theorem ak_s2 {k : Nat} {τ τ1 τ2 : SG} {r x : Nat} {v : Int32} (h : AK k τ τ1) (e : τ2 = s2 τ1 r x v) (hr : r ≠ 60) (hr' : ¬ (r = 54 ∧ (x = 17 ∨ x = 18))) : AK k τ τ2 := ⟨fun x hx => by rw [e, sn (by omega)]; exact h.1 x hx, fun y hy => by rw [e, sn (by omega)]; exact h.2.1 y hy, by rw [e, sn (by omega)]; exact h.2.2.1, by rw [e, sn (by omega)]; exact h.2.2.2⟩
theorem ak_cuts {N : Nat} {K len : Nat → Nat} {k : Nat} {a1 a2 : Int32} {τ τ1 : SG} {ρ : RG} (hL : Lay N K len ρ) (h : AK k τ τ1) : kp (F_X12_cuts a1 a2 τ1 ρ) (fun q => AK k τ q.2) := kp_mono (kf_X12_cuts hL) (fun q g => ak_kf h g)
theorem hk_stands {k : Nat} {a1 : Int32} {τ : SG} {ρ : RG} (hk : k ≤ 1000) (h1 : a1.toInt = (k : Int)) : kp (F_X12_stands a1 τ ρ) (fun q => HK k τ q) := kp_mono (k_stands hk h1) (fun q h => ⟨fun x _ => by rw [h.1 55 (by decide)], h.2.2, h.2.1, by rw [h.1 54 (by decide)], by rw [h.1 54 (by decide)]⟩)
theorem hk_back {k : Nat} {a1 : Int32} {τ τ1 : SG} {ρ : RG} (hk : k ≤ 1000) (h1 : a1.toInt = (k : Int)) (h : AK k τ τ1) : kp (F_X12_standsBack a1 τ1 ρ) (fun q => HK k τ q) := kp_mono (k_standsB hk h1) (fun q g => ⟨fun x hx => by rw [g.2.2 x hx]; exact h.1 x hx, fun x hx => by rw [g.1 60 (by decide)]; exact h.1 x hx, fun y hy => by rw [g.1 60 (by decide)]; exact h.2.1 y hy, by rw [g.1 54 (by decide)]; exact h.2.2.1, by rw [g.1 54 (by decide)]; exact h.2.2.2⟩)
theorem nx_k {k : Nat} {v x : Int32} (hk : k ≤ 100) (h : v.toInt = (k : Int)) (hx : x = v + 1) : x.toInt = ((k + 1 : Nat) : Int) := by rw [hx, ti_add (by rw [ti_1]; omega) (by rw [ti_1]; omega), ti_1, h]; omega
theorem rs_ordersR {N : Nat} {K len : Nat → Nat} {ρ : RG} (hL : Lay N K len ρ) : ∀ (d k : Nat) (a1 a2 a3 : Int32) (τ : SG), k + d ≤ 100 → a1.toInt = (k : Int) → kp (F_X12_ordersFrom_R d a1 a2 a3 τ ρ) (fun q => RK k τ q) := by
  intro d
  induction d with
  | zero => intro k a1 a2 a3 τ _ _; exact kp_none
  | succ d ihd =>
    intro k a1 a2 a3 τ hkd h1
    have keep : ∀ (n : Nat) (τ1 : SG) (v1 v4 : Int32), RK k τ τ1 → kp (F_X12_ordersFrom_B_27 (F_X12_ordersFrom_R d) a1 a2 a3 n τ1 ρ v1 v4) (fun q => RK k τ q) := by
      intro n
      induction n with
      | zero => intro τ1 v1 v4 _; exact kp_none
      | succ n ih =>
        intro τ1 v1 v4 h
        unfold F_X12_ordersFrom_B_27
        exact kp_if (kp_some h) (kp_gd (fun _ => kp_gd (fun _ => kp_nm (fun σ29 h29 => kp_nm (fun x30 _ => ih σ29 _ _ ⟨⟨fun x hx => by rw [h29, sn (by omega)]; exact h.1.1 x hx, by rw [h29, sn (by omega)]; exact h.1.2.1, by rw [h29, sn (by omega)]; exact h.1.2.2⟩, fun y hy => by rw [h29, sn (by omega)]; exact h.2 y hy⟩)))))
    have loop : ∀ (n : Nat) (τ1 : SG) (v2 v3 v4 : Int32), HK k τ τ1 → kp (F_X12_ordersFrom_B_62 (F_X12_ordersFrom_R d) a1 a2 a3 n τ1 ρ a1 v2 v3 v4) (fun q => RK k τ q) := by
      intro n
      induction n with
      | zero => intro τ1 v2 v3 v4 _; exact kp_none
      | succ n ih =>
        intro τ1 v2 v3 v4 h
        have B : ∀ (τ2 : SG), AK k τ τ2 → kp (F_X12_ordersFrom_B_134 (F_X12_ordersFrom_R d) a1 a2 a3 (F_X12_ordersFrom_B_62 (F_X12_ordersFrom_R d) a1 a2 a3 n) τ2 ρ a1 v2 v3 v4) (fun q => RK k τ q) := fun τ2 a => by
          unfold F_X12_ordersFrom_B_134
          exact kp_bn (hk_back (by omega) h1 a) (fun σ7 g => kp_nm (fun x8 _ => ih σ7 _ _ _ g))
        unfold F_X12_ordersFrom_B_62
        exact kp_if (kp_some (hk_rk h)) (kp_nm (fun x4 _ => kp_nm (fun x5 _ => kp_if (kp_nm (fun x9 _ => kp_gd (fun _ => kp_bn2 (ak_cuts hL h.2) (fun r11 σ11 h11 => kp_if (B _ h11) (kp_gd (fun _ => kp_nm (fun σ15 h15 => kp_nm (fun x16 h16 => kp_nm (fun x17 _ => kp_nm (fun x18 _ => kp_nm (fun x19 _ => kp_nm (fun x20 _ => kp_bn (ihd (k + 1) x16 _ _ σ15 (by omega) (nx_k (by omega) h1 h16)) (fun σ21 h21 => B _ (ak_rk (ak_s2 h11 h15 (by decide) (by omega)) h21)))))))))))))) (B _ h.2))))
    show kp (F_X12_ordersFrom_B (F_X12_ordersFrom_R d) a1 a2 a3 τ ρ) _
    unfold F_X12_ordersFrom_B
    exact kp_if (kp_if (kp_some ⟨rs_refl, fun _ _ => rfl⟩) (kp_nm (fun σ24 h24 => keep 1024 σ24 _ _ ⟨⟨fun x _ => by rw [h24, sn (by omega)], by rw [h24, sn (by omega)], by rw [h24, sn (by omega)]⟩, fun y _ => by rw [h24, sn (by omega)]⟩))) (kp_bn (hk_stands (by omega) h1) (fun σ2 h2 => loop 1024 σ2 _ _ _ h2))
theorem rs_order {N : Nat} {K len : Nat → Nat} {a1 : Int32} {τ : SG} {ρ : RG} (hL : Lay N K len ρ) : kp (F_X12_order a1 τ ρ) (RSQ τ) := by
  have loop : ∀ (n : Nat) (τ1 : SG) (v1 v2 : Int32), RSX τ τ1 → kp (F_X12_order_27 a1 n τ1 ρ v1 v2) (RSQ τ) := by
    intro n
    induction n with
    | zero => intro τ1 v1 v2 _; exact kp_none
    | succ n ih =>
      intro τ1 v1 v2 h
      unfold F_X12_order_27
      refine kp_if (kp_nm (fun σ6 h6 => kp_bn (rs_ordersR hL 7 0 0 0 0 σ6 (by decide) rfl) (fun σ7 h7 => ?_))) (kp_gd (fun _ => kp_nm (fun σ13 h13 => kp_nm (fun x14 _ => ih σ13 _ _ ⟨fun x hx => by rw [h13, sn (by omega)]; exact h.1 x hx, by rw [h13, sn (by omega)]; exact h.2.1, by rw [h13, sn (by omega)]; exact h.2.2⟩))))
      have e : RSX τ σ7 := ⟨fun x hx => by rw [h7.1.1 x hx, h6, sn (by omega)]; exact h.1 x hx, by rw [h7.1.2.1, h6, sn (by omega)]; exact h.2.1, by rw [h7.1.2.2, h6, sn (by omega)]; exact h.2.2⟩
      exact kp_if (kp_if (kp_some e) (kp_some e)) (kp_gd (fun _ => kp_some e))
  unfold F_X12_order
  exact kp_bx (fun r1 => kp_if (kp_some rs_refl) (kp_if (loop 1024 τ _ _ rs_refl) (kp_some rs_refl)))
theorem rs_rowsR {N : Nat} {K len : Nat → Nat} {ρ : RG} (hL : Lay N K len ρ) : ∀ (d k : Nat) (a1 : Int32) (τ : SG), k + d ≤ 100 → a1.toInt = (k : Int) → kp (F_X12_rowsFrom_R d a1 τ ρ) (fun q => RK k τ q) := by
  intro d
  induction d with
  | zero => intro k a1 τ _ _; exact kp_none
  | succ d ihd =>
    intro k a1 τ hkd h1
    have fin : ∀ (τ1 : SG), RK k τ τ1 → kp (F_X12_rowsFrom_B_43 (F_X12_rowsFrom_R d) a1 τ1 ρ) (fun q => RK k τ q) := fun τ1 h => by
      unfold F_X12_rowsFrom_B_43
      exact kp_nm (fun x19 _ => kp_nm (fun σ21 h21 => kp_some ⟨⟨fun x hx => by rw [h21, sn (by omega)]; exact h.1.1 x hx, by rw [h21, sn (by omega)]; exact h.1.2.1, by rw [h21, sn (by omega)]; exact h.1.2.2⟩, fun y hy => by rw [h21, sn (by omega)]; exact h.2 y hy⟩))
    have keep : ∀ (n : Nat) (τ1 : SG) (v1 v4 : Int32), RK k τ τ1 → kp (F_X12_rowsFrom_B_13 (F_X12_rowsFrom_R d) a1 n τ1 ρ v1 v4) (fun q => RK k τ q) := by
      intro n
      induction n with
      | zero => intro τ1 v1 v4 _; exact kp_none
      | succ n ih =>
        intro τ1 v1 v4 h
        unfold F_X12_rowsFrom_B_13
        exact kp_if (fin _ h) (kp_if (kp_gd (fun _ => kp_gd (fun _ => kp_nm (fun σ29 h29 => kp_nm (fun x30 _ => ih σ29 _ _ ⟨⟨fun x hx => by rw [h29, sn (by omega)]; exact h.1.1 x hx, by rw [h29, sn (by omega)]; exact h.1.2.1, by rw [h29, sn (by omega)]; exact h.1.2.2⟩, fun y hy => by rw [h29, sn (by omega)]; exact h.2 y hy⟩))))) (fin _ h))
    have loop : ∀ (n : Nat) (τ1 : SG) (v2 : Int32), HK k τ τ1 → kp (F_X12_rowsFrom_B_61 (F_X12_rowsFrom_R d) a1 n τ1 ρ a1 v2) (fun q => RK k τ q) := by
      intro n
      induction n with
      | zero => intro τ1 v2 _; exact kp_none
      | succ n ih =>
        intro τ1 v2 h
        have B : ∀ (τ2 : SG), AK k τ τ2 → kp (F_X12_rowsFrom_B_121 (F_X12_rowsFrom_R d) a1 (F_X12_rowsFrom_B_61 (F_X12_rowsFrom_R d) a1 n) τ2 ρ a1 v2) (fun q => RK k τ q) := fun τ2 a => by
          unfold F_X12_rowsFrom_B_121
          exact kp_bn (hk_back (by omega) h1 a) (fun σ8 g => kp_nm (fun x9 _ => ih σ8 _ g))
        unfold F_X12_rowsFrom_B_61
        exact kp_if (kp_some (hk_rk h)) (kp_nm (fun x4 _ => kp_gd (fun _ => kp_bn2 (ak_cuts hL h.2) (fun r6 σ6 h6 => kp_if (B _ h6) (kp_nm (fun x10 _ => kp_gd (fun _ => kp_if (kp_gd (fun _ => kp_nm (fun σ15 h15 => kp_nm (fun x16 h16 => kp_bn (ihd (k + 1) x16 σ15 (by omega) (nx_k (by omega) h1 h16)) (fun σ17 h17 => B _ (ak_rk (ak_s2 h6 h15 (by decide) (by omega)) h17)))))) (B _ h6))))))))
    show kp (F_X12_rowsFrom_B (F_X12_rowsFrom_R d) a1 τ ρ) _
    unfold F_X12_rowsFrom_B
    exact kp_if (keep 1024 τ _ _ ⟨rs_refl, fun _ _ => rfl⟩) (kp_bn (hk_stands (by omega) h1) (fun σ2 h2 => loop 1024 σ2 _ h2))
theorem rs_rows {N : Nat} {K len : Nat → Nat} {a1 : Int32} {τ : SG} {ρ : RG} (hL : Lay N K len ρ) : kp (F_X12_rows a1 τ ρ) (RSQ τ) := by
  have loop : ∀ (n : Nat) (τ1 : SG) (v1 v2 : Int32), RSX τ τ1 → kp (F_X12_rows_13 a1 n τ1 ρ v1 v2) (RSQ τ) := by
    intro n
    induction n with
    | zero => intro τ1 v1 v2 _; exact kp_none
    | succ n ih =>
      intro τ1 v1 v2 h
      unfold F_X12_rows_13
      refine kp_if (kp_nm (fun σ6 h6 => kp_bn (rs_rowsR hL 6 0 0 σ6 (by decide) rfl) (fun σ7 h7 => ?_))) (kp_gd (fun _ => kp_nm (fun σ13 h13 => kp_nm (fun x14 _ => ih σ13 _ _ ⟨fun x hx => by rw [h13, sn (by omega)]; exact h.1 x hx, by rw [h13, sn (by omega)]; exact h.2.1, by rw [h13, sn (by omega)]; exact h.2.2⟩))))
      have e : RSX τ σ7 := ⟨fun x hx => by rw [h7.1.1 x hx, h6, sn (by omega)]; exact h.1 x hx, by rw [h7.1.2.1, h6, sn (by omega)]; exact h.2.1, by rw [h7.1.2.2, h6, sn (by omega)]; exact h.2.2⟩
      exact kp_if (kp_some e) (kp_gd (fun _ => kp_some e))
  unfold F_X12_rows
  exact kp_bx (fun r1 => kp_if (kp_some rs_refl) (loop 1024 τ _ _ rs_refl))
theorem rs_goodR {N : Nat} {K len : Nat → Nat} {ρ : RG} (hL : Lay N K len ρ) : ∀ (d k : Nat) (a1 a2 : Int32) (τ : SG), k + d ≤ 100 → a1.toInt = (k : Int) → kp (F_X12_goodRows_R d a1 a2 τ ρ) (fun q => RK k τ q.2) := by
  intro d
  induction d with
  | zero => intro k a1 a2 τ _ _; exact kp_none
  | succ d ihd =>
    intro k a1 a2 τ hkd h1
    have loop : ∀ (n : Nat) (τ1 : SG) (v3 : Int64) (v5 : Int32), HK k τ τ1 → kp (F_X12_goodRows_B_17 (F_X12_goodRows_R d) a1 a2 n τ1 ρ a1 a2 v3 v5) (fun q => RK k τ q.2) := by
      intro n
      induction n with
      | zero => intro τ1 v3 v5 _; exact kp_none
      | succ n ih =>
        intro τ1 v3 v5 h
        have B : ∀ (τ2 : SG) (v : Int64), AK k τ τ2 → kp (F_X12_goodRows_B_66 (F_X12_goodRows_R d) a1 a2 (F_X12_goodRows_B_17 (F_X12_goodRows_R d) a1 a2 n) τ2 ρ a1 a2 v v5) (fun q => RK k τ q.2) := fun τ2 v a => by
          unfold F_X12_goodRows_B_66
          exact kp_bn (hk_back (by omega) h1 a) (fun σ8 g => kp_nm (fun x9 _ => ih σ8 _ _ g))
        unfold F_X12_goodRows_B_17
        exact kp_if (kp_some (hk_rk h)) (kp_nm (fun x4 _ => kp_gd (fun _ => kp_bn2 (ak_cuts hL h.2) (fun r6 σ6 h6 => kp_if (B _ _ h6) (kp_bx (fun r10 => kp_if (B _ _ h6) (kp_nm (fun x12 h12 => kp_bn2 (ihd (k + 1) x12 a2 σ6 (by omega) (nx_k (by omega) h1 h12)) (fun r13 σ13 h13 => kp_nm (fun x14 _ => B _ _ (ak_rk h6 h13)))))))))))
    show kp (F_X12_goodRows_B (F_X12_goodRows_R d) a1 a2 τ ρ) _
    unfold F_X12_goodRows_B
    exact kp_if (kp_some ⟨rs_refl, fun _ _ => rfl⟩) (kp_bn (hk_stands (by omega) h1) (fun σ2 h2 => loop 1024 σ2 _ _ h2))
theorem rs_odds {N : Nat} {K len : Nat → Nat} {a1 a2 : Int32} {τ : SG} {ρ : RG} (hL : Lay N K len ρ) : kp (F_X12_odds a1 a2 τ ρ) (RSQ τ) := by
  have loop : ∀ (n : Nat) (v1 v2 : Int32) (v3 : Int64) (v5 : Int32), kp (F_X12_odds_37 a1 a2 n τ ρ v1 v2 v3 v5) (RSQ τ) := by
    intro n
    induction n with
    | zero => intro v1 v2 v3 v5; exact kp_none
    | succ n ih =>
      intro v1 v2 v3 v5
      unfold F_X12_odds_37
      exact kp_if (kp_bn2 (rs_goodR hL 5 0 0 v1 τ (by decide) rfl) (fun r7 σ7 h7 => kp_bx (fun r8 => kp_some h7.1))) (kp_nm (fun x9 _ => kp_nm (fun x10 _ => ih _ _ _ _)))
  unfold F_X12_odds
  exact kp_bx (fun r1 => kp_if (kp_some rs_refl) (kp_bx (fun r3 => kp_if (kp_some rs_refl) (kp_if (kp_some rs_refl) (loop 1024 _ _ _ _)))))
theorem rs_gameR {N : Nat} {K len : Nat → Nat} {ρ : RG} (hL : Lay N K len ρ) : ∀ (d k : Nat) (a1 a2 a3 a4 : Int32) (τ : SG), k + d ≤ 100 → a3.toInt = (k : Int) → kp (F_X12_gameFor_R d a1 a2 a3 a4 τ ρ) (fun q => RK k τ q.2) := by
  intro d
  induction d with
  | zero => intro k a1 a2 a3 a4 τ _ _; exact kp_none
  | succ d ihd =>
    intro k a1 a2 a3 a4 τ hkd h1
    have put : ∀ (τ1 τ2 : SG) (v : Int32), RK k τ τ1 → τ2 = s2 τ1 54 26 v → RK k τ τ2 := fun τ1 τ2 v h e => ⟨⟨fun x hx => by rw [e, sn (by omega)]; exact h.1.1 x hx, by rw [e, sn (by omega)]; exact h.1.2.1, by rw [e, sn (by omega)]; exact h.1.2.2⟩, fun y hy => by rw [e, sn (by omega)]; exact h.2 y hy⟩
    have loop : ∀ (n : Nat) (τ1 : SG) (v5 v6 v7 : Int32), HK k τ τ1 → kp (F_X12_gameFor_B_24 (F_X12_gameFor_R d) a1 a2 a3 a4 n τ1 ρ a1 a2 a3 a4 v5 v6 v7) (fun q => RK k τ q.2) := by
      intro n
      induction n with
      | zero => intro τ1 v5 v6 v7 _; exact kp_none
      | succ n ih =>
        intro τ1 v5 v6 v7 h
        have B : ∀ (τ2 : SG) (y5 y6 : Int32), AK k τ τ2 → kp (F_X12_gameFor_B_133 (F_X12_gameFor_R d) a1 a2 a3 a4 (F_X12_gameFor_B_24 (F_X12_gameFor_R d) a1 a2 a3 a4 n) τ2 ρ a1 a2 a3 a4 y5 y6 v7) (fun q => RK k τ q.2) := fun τ2 y5 y6 a => by
          unfold F_X12_gameFor_B_133
          exact kp_bn (hk_back (by omega) h1 a) (fun σ20 g => kp_nm (fun x21 _ => ih σ20 _ _ _ g))
        have C : ∀ (k0 k1 : Int32), kp (F_X12_gameFor_B_60 (F_X12_gameFor_R d) a1 a2 a3 a4 (F_X12_gameFor_B_24 (F_X12_gameFor_R d) a1 a2 a3 a4 n) τ1 ρ a1 a2 a3 a4 v5 v6 v7 k0 k1) (fun q => RK k τ q.2) := fun k0 k1 => by
          unfold F_X12_gameFor_B_60
          refine kp_nm (fun x16 _ => kp_bx (fun r17 => kp_bn2 (ak_cuts hL h.2) (fun r18 σ18 h18 => kp_if (B _ _ _ h18) (kp_nm (fun x22 h22 => kp_bn2 (ihd (k + 1) a2 a1 x22 a4 σ18 (by omega) (nx_k (by omega) h1 h22)) (fun r23 σ23 h23 => kp_nm (fun x24 _ => ?_)))))))
          have a23 := ak_rk h18 h23
          unfold F_X12_gameFor_B_115 F_X12_gameFor_B_131
          exact kp_if (kp_if (B _ _ _ a23) (B _ _ _ a23)) (kp_if (B _ _ _ a23) (B _ _ _ a23))
        unfold F_X12_gameFor_B_24
        refine kp_if (kp_if (kp_nm (fun x7 h7 => kp_bn2 (ihd (k + 1) a2 a1 x7 a4 τ1 (by omega) (nx_k (by omega) h1 h7)) (fun r8 σ8 h8 => kp_nm (fun x9 _ => kp_nm (fun σ11 h11 => kp_some (put σ8 _ _ ?_ h11)))))) (kp_nm (fun σ6 h6 => kp_some (put τ1 _ _ (hk_rk h) h6)))) (kp_nm (fun x12 _ => kp_gd (fun _ => kp_if (C _ _) (kp_if (C _ _) (C _ _)))))
        have a8 := ak_rk h.2 h8
        exact ⟨⟨fun x hx => (show σ8 55 x = _ from h8.1.1 x hx).trans (h.1 x hx), a8.2.2⟩, a8.2.1⟩
    show kp (F_X12_gameFor_B (F_X12_gameFor_R d) a1 a2 a3 a4 τ ρ) _
    unfold F_X12_gameFor_B
    exact kp_if (kp_some ⟨rs_refl, fun _ _ => rfl⟩) (kp_bn (hk_stands (by omega) h1) (fun σ2 h2 => loop 1024 σ2 _ _ _ h2))
theorem rs_game {N : Nat} {K len : Nat → Nat} {a1 a2 a3 a4 : Int32} {τ : SG} {ρ : RG} (hL : Lay N K len ρ) : kp (F_X12_game a1 a2 a3 a4 τ ρ) (RSQ τ) := by
  unfold F_X12_game
  exact kp_bx (fun r1 => kp_if (kp_some rs_refl) (kp_bx (fun r3 => kp_if (kp_some rs_refl) (kp_bx (fun r5 => kp_if (kp_some rs_refl) (kp_if (kp_some rs_refl) (kp_bx (fun r8 => kp_if (kp_some rs_refl) (kp_bn2 (rs_gameR hL 7 0 a1 a2 0 a3 τ (by decide) rfl) (fun r10 σ10 h10 => kp_if (kp_some h10.1) (kp_some h10.1))))))))))) 
