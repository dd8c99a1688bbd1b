/-! PART 757.rh: by hand: the twin of a cutter -/
def TW (c : Nat) (K0 : Nat → Nat) (σ0 : SG) (ρ0 : RG) (c' : Nat) (K : Nat → Nat) (σ : SG) (ρ : RG) : Prop := K c' = K0 c ∧ σ c' 1 = σ0 c 1 ∧ σ c' 2 = σ0 c 2 ∧ σ c' 3 = σ0 c 3 ∧ σ c' 4 = σ0 c 4 ∧ (K0 c = 9 → ∀ d d', ρ0 c 6 = some d → ρ c' 6 = some d' → ∀ k, k < 4 → σ d' k = σ0 d k) ∧ σ c' 0 = σ0 c 0 ∧ σ c' 5 = σ0 c 5
def TWM (N : Nat) (K : Nat → Nat) (σ : SG) (ρ : RG) (c : Nat) (q : Nat × TT) : Prop := q.1 = N ∧ (∀ r, r < N → q.2.2.1 r = K r ∧ q.2.2.2.2.1 r = σ r ∧ q.2.2.2.2.2 r = ρ r) ∧ TW c K σ ρ N q.2.2.1 q.2.2.2.2.1 q.2.2.2.2.2 ∧ (q.2.2.1 N = 9 → ∀ d', q.2.2.2.2.2 N 6 = some d' → N < d')
theorem kof_kno {k : Nat} (h : isCk k = true) : kof (kno k) = k := by
  rcases isCk_or h with rfl | rfl | rfl | rfl | rfl | rfl | rfl <;> decide
theorem vk_kno {N : Nat} {K len : Nat → Nat} {z : Nat} {σ : SG} {ρ : RG} (hk : isCk (K z) = true) : kp (F_v_kind N K len z σ ρ) (fun q => q = kno (K z)) := by
  unfold F_v_kind
  rcases isCk_or hk with h | h | h | h | h | h | h
  · rw [if_pos h, h]; exact kp_some rfl
  · rw [if_neg (by rw [h]; decide : ¬ K z = 1), if_pos h, h]; exact kp_some rfl
  · rw [if_neg (by rw [h]; decide : ¬ K z = 1), if_neg (by rw [h]; decide : ¬ K z = 2), if_pos h, h]; exact kp_some rfl
  · rw [if_neg (by rw [h]; decide : ¬ K z = 1), if_neg (by rw [h]; decide : ¬ K z = 2), if_neg (by rw [h]; decide : ¬ K z = 4), if_pos h, h]; exact kp_some rfl
  · rw [if_neg (by rw [h]; decide : ¬ K z = 1), if_neg (by rw [h]; decide : ¬ K z = 2), if_neg (by rw [h]; decide : ¬ K z = 4), if_neg (by rw [h]; decide : ¬ K z = 5), if_pos h, h]; exact kp_some rfl
  · rw [if_neg (by rw [h]; decide : ¬ K z = 1), if_neg (by rw [h]; decide : ¬ K z = 2), if_neg (by rw [h]; decide : ¬ K z = 4), if_neg (by rw [h]; decide : ¬ K z = 5), if_neg (by rw [h]; decide : ¬ K z = 6), if_pos h, h]; exact kp_some rfl
  · rw [if_neg (by rw [h]; decide : ¬ K z = 1), if_neg (by rw [h]; decide : ¬ K z = 2), if_neg (by rw [h]; decide : ¬ K z = 4), if_neg (by rw [h]; decide : ¬ K z = 5), if_neg (by rw [h]; decide : ¬ K z = 6), if_neg (by rw [h]; decide : ¬ K z = 7), if_pos h, h]; exact kp_some rfl
theorem tw_X1 {N z : Nat} {K len : Nat → Nat} {σ : SG} {ρ : RG} (kz : CK N K len ρ z) (n9 : ¬ K z = 9) (hQ : PR N K len ρ) : kp (F_X1_twin z N K len σ ρ) (TWM N K σ ρ z) := by
  unfold F_X1_twin
  refine kp_bn (vk_kno (isC_k kz.1)) (fun r1 h1 => kp_bnT (kp_and (kp_ok (s_X11_newCutter hQ)) (mv_newCutter hQ)) (fun c2 N2 K2 L2 σ2 ρ2 h => kp_nm (fun σ3 e3 => kp_some ?_)))
  obtain ⟨⟨p1, p2, p3, p4⟩, m1, m2, m3, m4⟩ := h
  have p1' : ∀ r, r < N → σ2 r = σ r := p1
  have p4' : GR N K len ρ N2 K2 L2 ρ2 := p4
  have m1' : c2 = N := m1
  have m2' : K2 N = kof r1 := m2
  have m3' : IV N (σ z 0) (σ z 1) (σ z 2) (σ z 3) (σ z 4) σ2 := m3
  rw [h1, kof_kno (isC_k kz.1)] at m2'
  rw [m1'] at e3
  have s3 : ∀ k, k ≠ 5 → σ3 N k = σ2 N k := fun k hk => s2_k e3 hk
  refine ⟨m1', fun r hr => ⟨(p4'.2 r hr).1, ?_, (p4'.2 r hr).2.2⟩, ⟨m2', ?_, ?_, ?_, ?_, fun k9 => absurd k9 n9, ?_⟩, fun k9 => absurd (m2'.symm.trans k9) n9⟩
  · show σ3 r = σ r
    rw [s2_lt e3 (by omega), p1' r hr]
  · show σ3 N 1 = _
    rw [s3 1 (by decide)]; exact m3'.2.1
  · show σ3 N 2 = _
    rw [s3 2 (by decide)]; exact m3'.2.2.1
  · show σ3 N 3 = _
    rw [s3 3 (by decide)]; exact m3'.2.2.2.1
  · show σ3 N 4 = _
    rw [s3 4 (by decide)]; exact m3'.2.2.2.2
  · show σ3 N 0 = _ ∧ σ3 N 5 = _
    exact ⟨by rw [s3 0 (by decide)]; exact m3'.1, by rw [s2_v e3, p1' z (isC_r kz.1)]⟩
theorem tw_X9 {N z : Nat} {K len : Nat → Nat} {σ : SG} {ρ : RG} (kz : CK N K len ρ z) (k9 : K z = 9) (hQ : PR N K len ρ) : kp (F_X9_twin z N K len σ ρ) (TWM N K σ ρ z) := by
  unfold F_X9_twin
  have zN := isC_r kz.1
  refine kp_nm (fun K1 e1 => kp_nm (fun L1 e2 => kp_nm (fun σ1 e3 => kp_nm (fun ρ1 e4 => kp_bnT (kp_and (kp_ok s_X9_init_k9) (iv_X9_9 (by omega))) (fun u N2 K2 L2 σ2 ρ2 h => kp_nm (fun σ3 h3 => ?_))))))
  subst e1 e2 e3 e4
  obtain ⟨hm, iv, -⟩ := h
  obtain ⟨⟨w1, w2, w3, w4⟩, w5, w6, w7⟩ := mk_nine hQ hm
  have w1' : ∀ r, r < N → σ2 r = σ r := w1
  have w4' : GR N K len ρ N2 K2 L2 ρ2 := w4
  have w5' : ρ2 N 6 = some (N + 1) := w5
  have w7' : K2 N = 9 := w7
  have iv' : IV N (va_up σ N (fun _ => 0) z 0) (va_up σ N (fun _ => 0) z 1) (va_up σ N (fun _ => 0) z 2) (va_up σ N (fun _ => 0) z 3) (va_up σ N (fun _ => 0) z 4) σ2 := iv
  rw [va_up_ne _ _ (by omega : z ≠ N)] at iv'
  obtain ⟨d, hd1, hd2, hd3⟩ := kz.2 k9
  have dN := (isD_lt hd2).1
  have zz : ρ2 z = ρ z := (w4'.2 z zN).2.2
  refine kp_gd (fun _ => ?_)
  rw [zz, hd1]
  refine kp_gd (fun _ => ?_)
  rw [w5']
  refine kp_gd (fun _ => kp_nm (fun σ7 e7 => kp_some ?_))
  have s7 : ∀ r, r ≠ N + 1 → σ7 r = σ3 r := fun r hr => by rw [e7]; unfold cpy; exact va_up_ne _ _ hr
  have s3 : ∀ k, k ≠ 5 → σ3 N k = σ2 N k := fun k hk => s2_k h3 hk
  refine ⟨rfl, fun r hr => ⟨(w4'.2 r hr).1, ?_, (w4'.2 r hr).2.2⟩, ⟨w7'.trans k9.symm, ?_, ?_, ?_, ?_, fun _ e e' he he' k hk => ?_, ?_⟩, fun _ d' hd' => ?_⟩
  · show σ7 r = σ r
    rw [s7 r (by omega), s2_lt h3 (by omega), w1' r hr]
  · show σ7 N 1 = _
    rw [s7 N (by omega), s3 1 (by decide)]; exact iv'.2.1
  · show σ7 N 2 = _
    rw [s7 N (by omega), s3 2 (by decide)]; exact iv'.2.2.1
  · show σ7 N 3 = _
    rw [s7 N (by omega), s3 3 (by decide)]; exact iv'.2.2.2.1
  · show σ7 N 4 = _
    rw [s7 N (by omega), s3 4 (by decide)]; exact iv'.2.2.2.2
  · have ee : e = d := by rw [hd1] at he; cases he; rfl
    have he'' : ρ2 N 6 = some e' := he'
    have ee' : e' = N + 1 := by rw [w5'] at he''; cases he''; rfl
    rw [ee, ee']
    show σ7 (N + 1) k = σ d k
    rw [e7, cpy_at, if_pos rfl, if_pos hk, s2_lt h3 (by omega), w1' d dN]
  · show σ7 N 0 = _ ∧ σ7 N 5 = _
    exact ⟨by rw [s7 N (by omega), s3 0 (by decide)]; exact iv'.1, by rw [s7 N (by omega), s2_v h3, w1' z zN]⟩
  · have hd'' : ρ2 N 6 = some d' := hd'
    rw [w5'] at hd''
    cases hd''
    omega
theorem tw_v {N z : Nat} {K len : Nat → Nat} {σ : SG} {ρ : RG} (kz : CK N K len ρ z) (hQ : PR N K len ρ) : kp (F_v_twin z N K len σ ρ) (TWM N K σ ρ z) := by
  unfold F_v_twin
  by_cases h : K z = 9
  · rw [if_pos h]; exact tw_X9 kz h hQ
  · rw [if_neg h]; exact tw_X1 kz h hQ
/-! the copy of an array of cutters, place by place -/
def CP (T S N0 i : Nat) (K0 : Nat → Nat) (σ0 : SG) (ρ0 : RG) (N : Nat) (K : Nat → Nat) (σ : SG) (ρ : RG) : Prop := (N0 ≤ N ∧ (∀ r, r < N0 → K r = K0 r) ∧ (∀ r, r < N0 → σ r = σ0 r) ∧ ∀ r, r < N0 → r ≠ T → ρ r = ρ0 r) ∧ IJ K ρ ∧ ∀ j, j < i → j < 6 → (ρ T j = none ↔ ρ0 S j = none) ∧ ∀ c c', ρ0 S j = some c → ρ T j = some c' → TW c K0 σ0 ρ0 c' K σ ρ
theorem cp_0 {T S N0 : Nat} {K0 : Nat → Nat} {σ0 : SG} {ρ0 : RG} (h : IJ K0 ρ0) : CP T S N0 0 K0 σ0 ρ0 N0 K0 σ0 ρ0 := ⟨⟨Nat.le_refl _, fun _ _ => rfl, fun _ _ => rfl, fun _ _ _ => rfl⟩, h, fun j hj => by omega⟩
theorem ij_none {K : Nat → Nat} {ρ : RG} {T i : Nat} (hT : T = 2 ∨ T = 15) (hlow : ∀ a j c, (a = 2 ∨ a = 15) → j < 6 → ρ a j = some c → 65 ≤ c) (h : IJ K ρ) : IJ K (r2 ρ T i none) := by
  have old : ∀ a j c, (a = 2 ∨ a = 15) → j < 6 → r2 ρ T i none a j = some c → ρ a j = some c := fun a j c ha hj q => by
    rw [r2_at] at q
    by_cases e : a = T
    · rw [if_pos e] at q
      by_cases e' : j = i
      · rw [if_pos e'] at q; cases q
      · rw [if_neg e'] at q; rw [e]; exact q
    · rw [if_neg e] at q; exact q
  have r6 : ∀ c, 65 ≤ c → r2 ρ T i none c 6 = ρ c 6 := fun c hc => by rw [r2_ne c (by omega)]
  refine ⟨fun a j a' j' c ha ha' hj hj' q q' => h.1 a j a' j' c ha ha' hj hj' (old a j c ha hj q) (old a' j' c ha' hj' q'), fun a j a' j' c c' d ha ha' hj hj' q q' k k' hd hd' => ?_⟩
  have o := old a j c ha hj q
  have o' := old a' j' c' ha' hj' q'
  rw [r6 c (hlow a j c ha hj o)] at hd
  rw [r6 c' (hlow a' j' c' ha' hj' o')] at hd'
  exact h.2 a j a' j' c c' d ha ha' hj hj' o o' k k' hd hd'
theorem ij_new {N : Nat} {K len K2 : Nat → Nat} {ρ ρ2 : RG} {T i : Nat} (hT : T = 2 ∨ T = 15) (hQ : PR N K len ρ) (ij : IJ K ρ) (g : ∀ r, r < N → K2 r = K r ∧ ρ2 r = ρ r) (hd : K2 N = 9 → ∀ d, ρ2 N 6 = some d → N < d) : IJ K2 (r2 ρ2 T i (some N)) := by
  have n65 := hQ.1.1
  have old : ∀ a j c, (a = 2 ∨ a = 15) → j < 6 → r2 ρ2 T i (some N) a j = some c → (a = T ∧ j = i ∧ c = N) ∨ (ρ a j = some c ∧ CK N K len ρ c) := fun a j c ha hj q => by
    have ck : ρ a j = some c → CK N K len ρ c := fun z => by
      rcases ha with rfl | rfl
      · exact hQ.2.2.1 j c hj z
      · exact hQ.2.2.2.1 j c hj z
    have aN : a < N := by omega
    rw [r2_at] at q
    by_cases e : a = T
    · rw [if_pos e] at q
      by_cases e' : j = i
      · rw [if_pos e'] at q; cases q; exact Or.inl ⟨e, e', rfl⟩
      · rw [if_neg e', ← e, (g a aN).2] at q; exact Or.inr ⟨q, ck q⟩
    · rw [if_neg e, (g a aN).2] at q; exact Or.inr ⟨q, ck q⟩
  have r6 : ∀ c, CK N K len ρ c → r2 ρ2 T i (some N) c 6 = ρ c 6 := fun c h => by
    have h1 := isC_r h.1
    have h2 := ck_65 hQ.1 h.1
    rw [r2_ne c (by omega), (g c h1).2]
  have rN : r2 ρ2 T i (some N) N 6 = ρ2 N 6 := by rw [r2_ne N (by omega)]
  refine ⟨fun a j a' j' c ha ha' hj hj' h h' => ?_, fun a j a' j' c c' d ha ha' hj hj' h h' k k' hd1 hd2 => ?_⟩
  · rcases old a j c ha hj h with ⟨e1, e2, e3⟩ | ⟨g1, k1⟩
    · rcases old a' j' c ha' hj' h' with ⟨e1', e2', -⟩ | ⟨-, k1'⟩
      · exact ⟨e1.trans e1'.symm, e2.trans e2'.symm⟩
      · have := isC_r k1'.1; omega
    · rcases old a' j' c ha' hj' h' with ⟨-, -, e3'⟩ | ⟨g1', -⟩
      · have := isC_r k1.1; omega
      · exact ij.1 a j a' j' c ha ha' hj hj' g1 g1'
  · rcases old a j c ha hj h with ⟨e1, e2, e3⟩ | ⟨g1, k1⟩
    · rcases old a' j' c' ha' hj' h' with ⟨e1', e2', e3'⟩ | ⟨-, k1'⟩
      · exact e3.trans e3'.symm
      · exfalso
        rw [e3] at k hd1
        rw [rN] at hd1
        have z := hd k d hd1
        rw [(g c' (isC_r k1'.1)).1] at k'
        rw [r6 c' k1'] at hd2
        have := (isD_lt (ck_d k1' k' hd2).1).1
        omega
    · rcases old a' j' c' ha' hj' h' with ⟨e1', e2', e3'⟩ | ⟨g1', k1'⟩
      · exfalso
        rw [e3'] at k' hd2
        rw [rN] at hd2
        have z := hd k' d hd2
        rw [(g c (isC_r k1.1)).1] at k
        rw [r6 c k1] at hd1
        have := (isD_lt (ck_d k1 k hd1).1).1
        omega
      · rw [(g c (isC_r k1.1)).1] at k
        rw [(g c' (isC_r k1'.1)).1] at k'
        rw [r6 c k1] at hd1
        rw [r6 c' k1'] at hd2
        exact ij.2 a j a' j' c c' d ha ha' hj hj' g1 g1' k k' hd1 hd2
theorem cp_none {T S N0 i : Nat} {K0 : Nat → Nat} {σ0 : SG} {ρ0 : RG} {N : Nat} {K len : Nat → Nat} {σ : SG} {ρ : RG} (hT : T = 2 ∨ T = 15) (n65 : 65 ≤ N0) (hQ : PR N K len ρ) (h : CP T S N0 i K0 σ0 ρ0 N K σ ρ) (hn : ρ0 S i = none) : CP T S N0 (i + 1) K0 σ0 ρ0 N K σ (r2 ρ T i none) := by
  obtain ⟨⟨h1, h2, h3, h4⟩, ij, h5⟩ := h
  refine ⟨⟨h1, h2, h3, fun r hr q => by rw [r2_ne r q]; exact h4 r hr q⟩, ij_none hT (low_of hQ) ij, fun j hj hj6 => ?_⟩
  by_cases e : j = i
  · subst e
    have z : r2 ρ T j none T j = none := by rw [r2_at, if_pos rfl, if_pos rfl]
    exact ⟨⟨fun _ => hn, fun _ => z⟩, fun c c' hc => by rw [hn] at hc; cases hc⟩
  · have z : r2 ρ T i none T j = ρ T j := by rw [r2_at, if_pos rfl, if_neg e]
    obtain ⟨a, b⟩ := h5 j (by omega) hj6
    rw [z]
    refine ⟨a, fun c c' hc hc' => ?_⟩
    obtain ⟨t1, t2, t3, t4, t5, t6, t7⟩ := b c c' hc hc'
    refine ⟨t1, t2, t3, t4, t5, fun k9 d d' hd hd' => t6 k9 d d' hd ?_, t7⟩
    have := low_of hQ T j c' hT hj6 hc'
    rw [r2_ne c' (by omega)] at hd'
    exact hd'
theorem cp_some {T S N0 i : Nat} {K0 len0' : Nat → Nat} {σ0 : SG} {ρ0 : RG} {N N2 : Nat} {K len K2 L2 : Nat → Nat} {σ σ2 : SG} {ρ ρ2 : RG} {c a : Nat} (hT : T = 2 ∨ T = 15) (hL0 : Lay N0 K0 len0' ρ0) (kc0 : CK N0 K0 len0' ρ0 c) (hQ : PR N K len ρ) (h : CP T S N0 i K0 σ0 ρ0 N K σ ρ) (hc : ρ0 S i = some c) (tw : TWM N K σ ρ c (a, N2, K2, L2, σ2, ρ2)) (hN : N ≤ N2) : CP T S N0 (i + 1) K0 σ0 ρ0 N2 K2 σ2 (r2 ρ2 T i (some a)) := by
  obtain ⟨⟨h1, h2, h3, h4⟩, ij, h5⟩ := h
  obtain ⟨w1, w2, w3, w4⟩ := tw
  have ea : a = N := w1
  subst ea
  have w2' : ∀ r, r < a → K2 r = K r ∧ σ2 r = σ r ∧ ρ2 r = ρ r := w2
  have n65 := hL0.1
  have cN0 := isC_r kc0.1
  have c65 := ck_65 hL0 kc0.1
  refine ⟨⟨by omega, fun r hr => (w2' r (by omega)).1.trans (h2 r hr), fun r hr => (w2' r (by omega)).2.1.trans (h3 r hr), fun r hr q => by rw [r2_ne r q, (w2' r (by omega)).2.2]; exact h4 r hr q⟩, ij_new hT hQ ij (fun r hr => ⟨(w2' r hr).1, (w2' r hr).2.2⟩) w4, fun j hj hj6 => ?_⟩
  by_cases e : j = i
  · subst e
    have z : r2 ρ2 T j (some a) T j = some a := by rw [r2_at, if_pos rfl, if_pos rfl]
    refine ⟨⟨fun q => (by rw [z] at q; cases q), fun q => (by rw [hc] at q; cases q)⟩, fun c1 c' hc1 hc' => ?_⟩
    have ec : c1 = c := by rw [hc] at hc1; cases hc1; rfl
    have ec' : c' = a := by rw [z] at hc'; cases hc'; rfl
    rw [ec, ec']
    obtain ⟨t1, t2, t3, t4, t5, t6, t7⟩ := w3
    have s0 : σ c = σ0 c := h3 c cN0
    have k0 : K c = K0 c := h2 c cN0
    have q0 : ρ c = ρ0 c := h4 c cN0 (by omega)
    rw [s0] at t2 t3 t4 t5 t7
    refine ⟨t1.trans k0, t2, t3, t4, t5, fun k9 d d' hd hd' k hk => ?_, t7⟩
    rw [r2_ne a (by omega)] at hd'
    have dd := ck_d kc0 k9 hd
    have r := t6 (k0.trans k9) d d' (by rw [q0]; exact hd) hd' k hk
    rw [h3 d (isD_lt dd.1).1] at r
    exact r
  · have z : r2 ρ2 T i (some a) T j = ρ T j := by rw [r2_at, if_pos rfl, if_neg e, (w2' T (by omega)).2.2]
    obtain ⟨x, y⟩ := h5 j (by omega) hj6
    rw [z]
    refine ⟨x, fun c1 c' hc1 hc' => ?_⟩
    obtain ⟨t1, t2, t3, t4, t5, t6, t7⟩ := y c1 c' hc1 hc'
    have kc' : CK a K len ρ c' := by
      rcases hT with rfl | rfl
      · exact hQ.2.2.1 j c' hj6 hc'
      · exact hQ.2.2.2.1 j c' hj6 hc'
    have cN' := isC_r kc'.1
    have c65' := ck_65 hQ.1 kc'.1
    obtain ⟨y1, y2, y3⟩ := w2' c' cN'
    refine ⟨y1.trans t1, by rw [y2]; exact t2, by rw [y2]; exact t3, by rw [y2]; exact t4, by rw [y2]; exact t5, fun k9 d d' hd hd' k hk => ?_, by rw [y2]; exact t7⟩
    rw [r2_ne c' (by omega), y3] at hd'
    have dd := ck_d kc' (t1.trans k9) hd'
    rw [(w2' d' (isD_lt dd.1).1).2.1]
    exact t6 k9 d d' hd hd' k hk
theorem gr_twin {N z : Nat} {K len : Nat → Nat} {σ : SG} {ρ : RG} (kz : CK N K len ρ z) (hQ : PR N K len ρ) : kp (F_v_twin z N K len σ ρ) (fun q => N ≤ q.2.1) := by
  unfold F_v_twin
  refine kp_if ?_ ?_
  · unfold F_X9_twin
    refine kp_nm (fun K1 e1 => kp_nm (fun L1 e2 => kp_nm (fun σ1 e3 => kp_nm (fun ρ1 e4 => kp_bnT (kp_ok s_X9_init_k9) (fun u N2 K2 L2 σ2 ρ2 h => kp_nm (fun σ3 h3 => kp_gd (fun _ => ?_)))))))
    have hN : N2 = N + 1 + 1 := h.1
    exact kp_oc kp_none (fun c5 => kp_gd (fun _ => kp_oc kp_none (fun c6 => kp_gd (fun _ => kp_nm (fun σ7 e7 => kp_some (by show N ≤ N2; omega))))))
  · unfold F_X1_twin
    exact kp_bx (fun r1 => kp_bnT (kp_ok (s_X11_newCutter hQ)) (fun c2 N2 K2 L2 σ2 ρ2 h => kp_nm (fun σ3 e3 => kp_some h.2.2.2.1)))
