/-! PART 7620.rb: by hand: the tape, the boards, in the state and in the image: class and reference, call by call -/
def bc (k : Nat) : Prop := k = 12 ∨ k = 15 ∨ k = 16 ∨ 94 ≤ k
theorem bt_congr {A tp ob row A' tp' ob' row' : Nat} {σ τ σ' τ' : SG} (h : BT A tp ob row σ τ) (c1 : σ' A' 4 = σ A 4) (c2 : σ' A' 6 = σ A 6) (ct : ∀ k, k < 100 → σ' tp' k = σ tp k) (c0 : ∀ k, k < 3 → σ' ob' k = σ ob k) (d1 : ∀ k, k < 10 → σ' (ob' + 1) k = σ (ob + 1) k) (d2 : ∀ k, k < 10 → σ' (ob' + 2) k = σ (ob + 2) k) (d3 : ∀ k, k < 10 → σ' (ob' + 3) k = σ (ob + 3) k) (d4 : ∀ k, k < 100 → σ' (ob' + 4) k = σ (ob + 4) k) (r : ∀ k, k < 909 → bc k → τ' row' k = τ row k) : BT A' tp' ob' row' σ' τ' := by
  obtain ⟨t1, t2, t3, t4⟩ := h
  refine ⟨fun k hk => ?_, ?_, ?_, ?_⟩
  · rw [ct k hk, r (94 + k) (by omega) (Or.inr (Or.inr (Or.inr (by omega))))]; exact t1 k hk
  · rw [c2, r 15 (by decide) (Or.inr (Or.inl rfl))]; exact t2
  · rw [c1, r 12 (by decide) (Or.inl rfl)]; exact t3
  · refine hb_congr t4 c0 d1 d2 d3 d4 (fun k hk q => r k hk ?_)
    rcases q with q | q | ⟨q, _⟩
    · exact Or.inr (Or.inr (Or.inl q))
    · exact Or.inl q
    · exact Or.inr (Or.inr (Or.inr (by omega)))
def RB (σ : SG) : Prop := BT 1 10 5 55 σ σ ∧ (¬ σ 54 4 = 0 → BT 14 23 18 56 σ σ)
theorem bt_keep {A tp ob row : Nat} {σ σ' : SG} (hA : (A = 1 ∧ tp = 10 ∧ ob = 5) ∨ (A = 14 ∧ tp = 23 ∧ ob = 18)) (h : BT A tp ob row σ σ) (c : ∀ r k, kbP r k = true → σ' r k = σ r k) (r : ∀ k, k < 909 → bc k → σ' row k = σ row k) : BT A tp ob row σ' σ' := by
  rcases hA with ⟨rfl, rfl, rfl⟩ | ⟨rfl, rfl, rfl⟩
  · exact bt_congr h (c 1 4 rfl) (c 1 6 rfl) (fun k _ => c 10 k rfl) (fun k _ => c 5 k rfl) (fun k _ => c 6 k rfl) (fun k _ => c 7 k rfl) (fun k _ => c 8 k rfl) (fun k _ => c 9 k rfl) r
  · exact bt_congr h (c 14 4 rfl) (c 14 6 rfl) (fun k _ => c 23 k rfl) (fun k _ => c 18 k rfl) (fun k _ => c 19 k rfl) (fun k _ => c 20 k rfl) (fun k _ => c 21 k rfl) (fun k _ => c 22 k rfl) r
theorem rb_keep {σ σ' : SG} (R : RB σ) (c : ∀ r k, kbP r k = true → σ' r k = σ r k) (r : ∀ k, k < 909 → bc k → σ' 55 k = σ 55 k) (r' : ∀ k, k < 909 → bc k → σ' 56 k = σ 56 k) (f : σ' 54 4 = σ 54 4) : RB σ' := by
  refine ⟨bt_keep (Or.inl ⟨rfl, rfl, rfl⟩) R.1 c r, fun n => ?_⟩
  rw [f] at n
  exact bt_keep (Or.inr ⟨rfl, rfl, rfl⟩) (R.2 n) c r'
theorem kb_lt {r k : Nat} (h : kbP r k = true) : r < 54 ∧ 1 ≤ r ∧ r ≤ 26 := by
  have a : ∀ r : Fin 65, kbR r = true → r.val < 54 ∧ 1 ≤ r.val ∧ r.val ≤ 26 := by decide
  rcases Nat.lt_or_ge r 54 with z | z
  · cases e : kbR r with
    | false => rw [kb_rows e] at h; cases h
    | true => exact a ⟨r, by omega⟩ e
  · rw [kb_hi z] at h; cases h
theorem kd_of {σ σ' : SG} (h : KD σ σ') : KB σ σ' := fun r k p => h r k (by
  obtain ⟨a, b, c⟩ := kb_lt p
  unfold kdP
  rw [Nat.ble_eq.mpr b, Nat.ble_eq.mpr c]
  simp)
/-- a call that neither writes board nor tape -/
theorem rb_call {σ σ3 σ6 : SG} (R : RB σ) (hb : KB σ σ3) (hc : KC σ σ3) (hr : KR σ3 σ6) (h5 : ∀ k, k < 909 → bc k → σ6 55 k = σ3 55 k) : RB σ6 := by
  refine rb_keep R (fun r k p => (hr r k (krP_lo (kb_lt p).1)).trans (hb r k p)) (fun k hk q => (h5 k hk q).trans (hc 55 k (kcP_ref (by decide) (by decide)))) (fun k _ _ => (hr 56 k rfl).trans (hc 56 k (kcP_ref (by decide) (by decide)))) ((hr 54 4 rfl).trans (hc 54 4 (kcP_ref (by decide) (by decide))))
theorem bc_11 {k : Nat} (h : bc k) : 11 ≤ k ∧ k ≠ 11 ∧ k ≠ 13 ∧ k ≠ 14 ∧ k ≠ 17 ∧ k ≠ 18 ∧ k ≠ 19 ∧ ¬ (20 ≤ k ∧ k < 94) := by unfold bc at h; omega
/-! the row of the reference, call by call -/
def BK (σ : SG) (q : Int32 × SG) : Prop := ∀ k, k < 909 → bc k → q.2 55 k = σ 55 k
theorem bk_some {σ : SG} {v : Int32} : BK σ (v, σ) := fun _ _ _ => rfl
theorem fb_see {a1 a2 : Int32} {σ : SG} {ρ : RG} : kp (F_X12_see a1 a2 σ ρ) (BK σ) := by
  unfold F_X12_see
  refine kp_bx (fun r1 => kp_if (kp_some bk_some) (kp_bx (fun r3 => kp_if (kp_some bk_some) (kp_nm (fun σ6 h6 => kp_nm (fun σ8 h8 => kp_some (fun k _ q => ?_)))))))
  have := bc_11 q
  show σ8 55 k = _
  rw [h8, sn (by omega), h6, sn (by omega)]
theorem fb_loaf {a1 : Int32} {σ : SG} {ρ : RG} : kp (F_X12_loaf a1 σ ρ) (BK σ) := by
  unfold F_X12_loaf
  refine kp_bx (fun r1 => kp_if (kp_some bk_some) (kp_nm (fun σ4 h4 => kp_nm (fun σ6 h6 => kp_nm (fun σ8 h8 => kp_nm (fun σ10 h10 => kp_nm (fun σ12 h12 => kp_nm (fun σ14 h14 => kp_some (fun k _ q => ?_)))))))))
  have := bc_11 q
  show σ14 55 k = _
  rw [h14, sn (by omega), h12, sn (by omega), h10, sn (by omega), h8, sn (by omega), h6, sn (by omega), h4, sn (by omega)]
theorem fb_week {a1 : Int32} {σ : SG} {ρ : RG} (r13 : rg (σ 55 13) 0 4) : kp (F_X12_week a1 σ ρ) (BK σ) := by
  have e74 : (74 : Int32).toInt = 74 := rfl
  unfold F_X12_week
  refine kp_bx (fun r1 => kp_if (kp_some bk_some) (kp_if (kp_some bk_some) (kp_nm (fun x4 h4 => kp_gd (fun _ => kp_nm (fun σ7 h7 => kp_nm (fun x8 h8 => kp_nm (fun σ10 h10 => kp_some (fun k _ q => ?_)))))))))
  have b := bc_11 q
  have u := r13.1
  have u' := r13.2
  have v4 : x4.toInt = 74 + (σ 55 13).toInt := by rw [h4, ti_add (by omega) (by omega), e74]
  have n4 := cl0 (x := x4) (by omega)
  show σ10 55 k = _
  rw [h10, sn (by omega), h7, sn (by omega)]
theorem fb_clear {σ : SG} {ρ : RG} : kp (F_X12_clear σ ρ) (BK σ) := by
  unfold F_X12_clear
  refine kp_nm (fun σ2 h2 => kp_some (fun k _ q => ?_))
  have := bc_11 q
  show σ2 55 k = _
  rw [h2, sn (by omega)]
theorem fb_book {a1 a2 : Int32} {σ : SG} {ρ : RG} (r14 : rg (σ 55 14) 0 8) : kp (F_X12_book a1 a2 σ ρ) (BK σ) := by
  have e78 : (78 : Int32).toInt = 78 := rfl
  have e86 : (86 : Int32).toInt = 86 := rfl
  have u := r14.1
  have u' := r14.2
  unfold F_X12_book
  refine kp_if (kp_nm (fun σ19 h19 => kp_some (fun k _ q => ?_))) (kp_bx (fun r2 => kp_if (kp_some bk_some) (kp_bx (fun r4 => kp_if (kp_some bk_some) (kp_ih (fun _ => kp_some bk_some) (fun c8 => kp_nm (fun x7 h7 => kp_gd (fun _ => kp_nm (fun σ10 h10 => kp_nm (fun x11 h11 => kp_gd (fun _ => kp_nm (fun σ14 h14 => kp_nm (fun x15 h15 => kp_nm (fun σ17 h17 => kp_some (fun k _ q => ?_)))))))))))))))
  · have := bc_11 q
    show σ19 55 k = _
    rw [h19, sn (by omega)]
  · have b := bc_11 q
    have c8' : (σ 55 14).toInt ≠ 8 := fun z => c8 (ieq (by rw [z]; rfl))
    have v7 : x7.toInt = 78 + (σ 55 14).toInt := by rw [h7, ti_add (by omega) (by omega), e78]
    have n7 := cl0 (x := x7) (by omega)
    have e10 : σ10 55 14 = σ 55 14 := by rw [h10, sn (by omega)]
    have v11 : x11.toInt = 86 + (σ 55 14).toInt := by rw [h11, e10, ti_add (by omega) (by omega), e86]
    have n11 := cl0 (x := x11) (by omega)
    show σ17 55 k = _
    rw [h17, sn (by omega), h14, sn (by omega), h10, sn (by omega)]
theorem fb_thick {a1 a2 : Int32} {σ : SG} {ρ : RG} (hc : rg (σ 55 11) 0 6) : kp (F_X12_thick a1 a2 σ ρ) (BK σ) := by
  refine kp_mono (thick_12 hc) (fun q h k hk b => ?_)
  have b' := bc_11 b
  rcases h with ⟨_, e⟩ | ⟨_, _, e⟩ | ⟨⟨n1, n2⟩, _, e⟩
  · rw [e]
  · rw [e]
  · have l1 := le_i n1
    have l2 := lt_i n2
    have := hc.2
    rw [ti_0] at l1
    rw [e a1.toNatClampNeg (cl0 l1).symm]
    have := cl0 l1
    show s2 σ 55 (44 + a1.toNatClampNeg) a2 55 k = _
    rw [sn (by omega)]
theorem fb_row {a1 a2 a3 : Int32} {σ : SG} {ρ : RG} (hc : rg (σ 55 11) 0 6) : kp (F_X12_row a1 a2 a3 σ ρ) (BK σ) := by
  refine kp_mono (row_12 hc) (fun q h k hk b => ?_)
  have b' := bc_11 b
  rcases h with ⟨_, e⟩ | ⟨_, _, e⟩ | ⟨_, _, _, e⟩ | ⟨⟨n1, n2⟩, ⟨m1, m2⟩, _, e⟩
  · rw [e]
  · rw [e]
  · rw [e]
  · have l1 := le_i n1
    have l2 := lt_i n2
    have := hc.2
    rw [ti_0] at l1
    have c1 := cl0 l1
    have l3 := le_i m1
    have l4 := le_i m2
    rw [ti_0] at l3
    have c2 := cl0 l3
    have e3 : (3 : Int32).toInt = 3 := rfl
    rcases e a1.toNatClampNeg c1.symm with ⟨_, e⟩ | ⟨_, e⟩
    · rw [e]
    · rw [e]
      show s2 σ 55 (50 + 4 * a1.toNatClampNeg + a2.toNatClampNeg) a3 55 k = _
      rw [sn (by omega)]
theorem fb_cutter {a1 a2 a3 a4 a5 : Int32} {σ : SG} {ρ : RG} (r0 : rg (σ 55 11) 0 6) : kp (F_X12_cutter a1 a2 a3 a4 a5 σ ρ) (BK σ) := by
  refine kp_mono (cutter_12r r0) (fun q h k hk b => ?_)
  have b' := bc_11 b
  rcases h with ⟨_, e⟩ | ⟨_, _, e⟩
  · rw [e]
  · have u := r0.1
    obtain ⟨n6, -, -, -, -, -, -, -, f⟩ := e (σ 55 11).toNatClampNeg (cl0 u).symm
    exact f k (by omega) (by omega) (by omega) (by omega) (by omega) (by omega) (by omega)
/-! feed -/
theorem sim_feed {m : Int} {a1 : Int32} {σ : SG} {ρ : RG} (hB : BX m σ) (hT : BT 1 10 5 55 σ σ) : kp (F_X11_feed a1 σ ρ) (fun q => (∀ r k, ¬ (r = 1 ∧ k = 6) → r ≠ 10 → q.2 r k = σ r k) ∧ ∀ (τ : SG) (ρ' : RG), τ 55 = σ 55 → kp (F_X12_feed a1 τ ρ') (fun q' => q.1 = q'.1 ∧ BT 1 10 5 55 q.2 q'.2)) := by
  obtain ⟨t1, t2, t3, t4⟩ := id hT
  have r15 : rg (σ 55 15) 0 100 := bx_get hB (r := 55) (a := 15) (b := 15) (k := 15) (l := 0) (h := 100) (by decide) (by decide) (by decide)
  have e94 : (94 : Int32).toInt = 94 := rfl
  have same : ∀ τ : SG, τ 55 = σ 55 → BT 1 10 5 55 σ τ := fun τ hτ => bt_congr hT rfl rfl (fun _ _ => rfl) (fun _ _ => rfl) (fun _ _ => rfl) (fun _ _ => rfl) (fun _ _ => rfl) (fun _ _ => rfl) (fun k _ _ => by rw [hτ])
  unfold F_X11_feed
  refine kp_bn (kp_ok wi_0) (fun r1 h1 => kp_ih (fun c1 => kp_some ⟨fun _ _ _ _ => rfl, fun τ ρ' hτ => ?_⟩) (fun c1 => ?_))
  · unfold F_X12_feed
    refine kp_bn (kp_ok in_0) (fun q1 g1 => kp_t ?_ (kp_some ⟨rfl, same τ hτ⟩))
    by_cases z : q1 = 0
    · exact z
    · exact absurd c1 (h1.2.mpr (g1.2.mp z))
  have y := h1.2.mp c1
  have y0 := le_i y.1
  have y1 := le_i y.2
  rw [ti_0] at y0
  rw [show (127 : Int32).toInt = 127 from rfl] at y1
  have go : ∀ (τ : SG) (ρ' : RG) (Q : Int32 × SG → Prop), kp (if τ 55 15 = (100 : Int32) then some ((-4 : Int32), τ) else nm ((94 : Int32) + (τ 55 15)) fun x4 => gd (inb x4 909) <| nm (s2 τ 55 (x4).toNatClampNeg a1) fun σ7 => nm ((σ7 55 15) + (1 : Int32)) fun x8 => nm (s2 σ7 55 15 x8) fun σ10 => some ((σ10 55 15), σ10)) Q → kp (F_X12_feed a1 τ ρ') Q := by
    intro τ ρ' Q hQ
    unfold F_X12_feed
    exact kp_bn (kp_ok in_0) (fun q1 g1 => kp_f (g1.2.mpr y) hQ)
  refine kp_ih (fun c => kp_gd (fun _ => kp_nm (fun σ6 h6 => kp_nm (fun x7 h7 => kp_nm (fun σ9 h9 => kp_some ⟨fun r k n n' => ?_, fun τ ρ' hτ => go τ ρ' _ (kp_f ?_ (kp_nm (fun x4 g4 => kp_gd (fun _ => kp_nm (fun τ7 g7 => kp_nm (fun x8 g8 => kp_nm (fun τ10 g10 => kp_some ?_))))))) ⟩))))) (fun c => kp_some ⟨fun _ _ _ _ => rfl, fun τ ρ' hτ => go τ ρ' _ (kp_t ?_ (kp_some ⟨rfl, same τ hτ⟩))⟩)
  · show σ9 r k = σ r k
    rw [h9, sn (by omega), h6, sn (by omega)]
  · intro z
    have := lt_i c
    rw [t2, ← hτ, z] at this
    omega
  · have lc := lt_i c
    rw [t2, ti_100] at lc
    have u := r15.1
    have n15 := cl0 u
    rw [t2] at h6
    have ev : vp_nar .byte a1.toInt8.toInt32 = a1 := by
      have e : a1.toInt8.toInt32 = a1 := i8_val y0 y1
      rw [e]
      show a1.toInt8.toInt32 = a1
      exact e
    rw [ev] at h6
    have e7 : σ6 1 6 = σ 55 15 := by rw [h6, sn (by omega), t2]
    rw [e7] at h7
    rw [hτ] at g4
    have v4 : x4.toInt = 94 + (σ 55 15).toInt := by rw [g4, ti_add (by omega) (by omega), e94]
    have n4 : x4.toNatClampNeg = 94 + (σ 55 15).toNatClampNeg := cn (by omega)
    rw [n4] at g7
    have e8 : τ7 55 15 = σ 55 15 := by rw [g7, sn (by omega), hτ]
    rw [e8] at g8
    have ex : x7 = x8 := h7.trans g8.symm
    have o9 : ∀ r k, ¬ (r = 1 ∧ k = 6) → ¬ (r = 10 ∧ k = (σ 55 15).toNatClampNeg) → σ9 r k = σ r k := fun r k n n' => by rw [h9, sn n, h6, sn n']
    have o10 : ∀ k, k ≠ 15 → k ≠ 94 + (σ 55 15).toNatClampNeg → τ10 55 k = σ 55 k := fun k n n' => by rw [g10, sn (by omega), g7, sn (by omega), hτ]
    refine ⟨?_, fun k hk => ?_, ?_, ?_, ?_⟩
    · show σ9 1 6 = τ10 55 15
      rw [h9, sv, g10, sv, ex]
    · show σ9 10 k = τ10 55 (94 + k)
      by_cases ek : k = (σ 55 15).toNatClampNeg
      · rw [ek, h9, sn (by omega), h6, sv, g10, sn (by omega), g7, sv]
      · rw [o9 10 k (by omega) (by omega), o10 (94 + k) (by omega) (by omega)]; exact t1 k hk
    · show σ9 1 6 = τ10 55 15
      rw [h9, sv, g10, sv, ex]
    · show σ9 1 4 = τ10 55 12
      rw [o9 1 4 (by omega) (by omega), o10 12 (by omega) (by omega)]; exact t3
    · refine hb_congr (σ' := σ9) (τ' := τ10) t4 (fun k _ => o9 5 k (by omega) (by omega)) (fun k _ => o9 6 k (by omega) (by omega)) (fun k _ => o9 7 k (by omega) (by omega)) (fun k _ => o9 8 k (by omega) (by omega)) (fun k _ => o9 9 k (by omega) (by omega)) (fun k _ q => o10 k (by omega) (by omega))
  · have := le_i (nlt c)
    rw [t2, ti_100] at this
    rw [hτ]
    exact ieq (by rw [ti_100]; have := r15.2; omega)
theorem rb_feed {m : Int} {a1 b1 : Int32} {σ : SG} {ρ ρ' : RG} {q q' : Int32 × SG} (hB : BX m σ) (R : RB σ) (h : F_X11_feed a1 σ ρ = some q) (hr : KR q.2 q'.2) (h' : F_X12_feed b1 q.2 ρ' = some q') (e : b1 = a1) : q.1 = q'.1 ∧ RB q'.2 := by
  subst e
  obtain ⟨f, s⟩ := sim_feed hB R.1 q h
  obtain ⟨e1, e2⟩ := s q.2 ρ' (funext (fun k => f 55 k (by omega) (by omega))) q' h'
  have o : ∀ r k, r < 54 → q'.2 r k = q.2 r k := fun r k l => hr r k (krP_lo l)
  refine ⟨e1, ?_, fun n => ?_⟩
  · exact bt_congr e2 (o 1 4 (by decide)) (o 1 6 (by decide)) (fun k _ => o 10 k (by decide)) (fun k _ => o 5 k (by decide)) (fun k _ => o 6 k (by decide)) (fun k _ => o 7 k (by decide)) (fun k _ => o 8 k (by decide)) (fun k _ => o 9 k (by decide)) (fun _ _ _ => rfl)
  · rw [hr 54 4 rfl, f 54 4 (by omega) (by omega)] at n
    have g : ∀ r k, r < 54 → ¬ (r = 1 ∧ k = 6) → r ≠ 10 → q'.2 r k = σ r k := fun r k l n n' => (o r k l).trans (f r k n n')
    exact bt_congr (R.2 n) (g 14 4 (by decide) (by omega) (by decide)) (g 14 6 (by decide) (by omega) (by decide)) (fun k _ => g 23 k (by decide) (by omega) (by decide)) (fun k _ => g 18 k (by decide) (by omega) (by decide)) (fun k _ => g 19 k (by decide) (by omega) (by decide)) (fun k _ => g 20 k (by decide) (by omega) (by decide)) (fun k _ => g 21 k (by decide) (by omega) (by decide)) (fun k _ => g 22 k (by decide) (by omega) (by decide)) (fun k _ _ => (hr 56 k rfl).trans (f 56 k (by omega) (by decide)))
/-! board -/
theorem bd_far {N : Nat} {K len : Nat → Nat} {σ : SG} {ρ : RG} (hL : Lay N K len ρ) : kp (F_X11_board σ ρ) (fun q => ∀ r k, ((14 ≤ r ∧ r ≤ 26) ∨ 54 ≤ r) → q.2.1 r k = σ r k) := by
  unfold F_X11_board
  refine kp_if (kp_bn3 (kd_X0_readFrom hL) (fun r2 σ2 ρ2 h => kp_nm (fun σ4 h4 => kp_if (kp_nm (fun x11 _ => kp_some (fun r k p => ?_))) (kp_bn k_takes5 (fun σ6 h6 => kp_nm (fun x7 _ => kp_nm (fun σ9 h9 => kp_nm (fun x10 _ => kp_some (fun r k p => ?_))))))))) (kp_some (fun _ _ _ => rfl))
  all_goals
    have h : KD σ σ2 := h
    have p1 : kdP r k = true := by
      unfold kdP
      rcases p with ⟨a, b⟩ | a
      · rw [Nat.ble_eq.mpr (show 1 ≤ r by omega), Nat.ble_eq.mpr b]; rfl
      · rw [Nat.ble_eq.mpr a]; simp
  · show σ4 r k = σ r k
    rw [h4, sn (by omega)]; exact h r k p1
  · show σ9 r k = σ r k
    rw [h9, sn (by omega), h6.1 r k (by omega), h4, sn (by omega)]; exact h r k p1
theorem rb_board {m : Int} {N : Nat} {K len : Nat → Nat} {σ : SG} {ρ ρ' : RG} {q : Int32 × SG × RG} {q' : Int32 × SG} (hB : BX m σ) (hQ : PR N K len ρ) (R : RB σ) (h : F_X11_board σ ρ = some q) (hr : KR q.2.1 q'.2) (h' : F_X12_board q.2.1 ρ' = some q') : q.1 = q'.1 ∧ RB q'.2 := by
  have f := bd_far hQ.1 q h
  obtain ⟨e1, e2⟩ := sim_board hB hQ R.1 q h q.2.1 ρ' (funext (fun k => f 55 k (Or.inr (by decide)))) q' h'
  have o : ∀ r k, r < 54 → q'.2 r k = q.2.1 r k := fun r k l => hr r k (krP_lo l)
  refine ⟨e1, ?_, fun n => ?_⟩
  · exact bt_congr e2 (o 1 4 (by decide)) (o 1 6 (by decide)) (fun k _ => o 10 k (by decide)) (fun k _ => o 5 k (by decide)) (fun k _ => o 6 k (by decide)) (fun k _ => o 7 k (by decide)) (fun k _ => o 8 k (by decide)) (fun k _ => o 9 k (by decide)) (fun _ _ _ => rfl)
  · rw [hr 54 4 rfl, f 54 4 (Or.inr (by decide))] at n
    have g : ∀ r k, 14 ≤ r → r ≤ 26 → q'.2 r k = σ r k := fun r k a b => (o r k (by omega)).trans (f r k (Or.inl ⟨a, b⟩))
    exact bt_congr (R.2 n) (g 14 4 (by decide) (by decide)) (g 14 6 (by decide) (by decide)) (fun k _ => g 23 k (by decide) (by decide)) (fun k _ => g 18 k (by decide) (by decide)) (fun k _ => g 19 k (by decide) (by decide)) (fun k _ => g 20 k (by decide) (by decide)) (fun k _ => g 21 k (by decide) (by decide)) (fun k _ => g 22 k (by decide) (by decide)) (fun k _ _ => (hr 56 k rfl).trans (f 56 k (Or.inr (by decide))))
