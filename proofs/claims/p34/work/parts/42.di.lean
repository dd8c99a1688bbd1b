/-! PART 42.di: printed by wip/gen -/
section GEN
variable {l : Launch} {Y : YT} {D : va_G} {N : Nat} {ad K len : Nat → Nat}
variable {fR lR : Nat}
/-! CutCrooked$Cutter.CutCrooked$Cutter twin();  -/
theorem dX1_twin_0 : decode cX1_twin 0 = .ok (.aload_n 0, 1) := by decide +kernel
theorem dX1_twin_1 : decode cX1_twin 1 = .ok (.invokevirtual 38, 3) := by decide +kernel
theorem dX1_twin_4 : decode cX1_twin 4 = .ok (.aload_n 0, 1) := by decide +kernel
theorem dX1_twin_5 : decode cX1_twin 5 = .ok (.getfield 7, 3) := by decide +kernel
theorem dX1_twin_8 : decode cX1_twin 8 = .ok (.aload_n 0, 1) := by decide +kernel
theorem dX1_twin_9 : decode cX1_twin 9 = .ok (.getfield 13, 3) := by decide +kernel
theorem dX1_twin_12 : decode cX1_twin 12 = .ok (.aload_n 0, 1) := by decide +kernel
theorem dX1_twin_13 : decode cX1_twin 13 = .ok (.getfield 16, 3) := by decide +kernel
theorem dX1_twin_16 : decode cX1_twin 16 = .ok (.aload_n 0, 1) := by decide +kernel
theorem dX1_twin_17 : decode cX1_twin 17 = .ok (.getfield 19, 3) := by decide +kernel
theorem dX1_twin_20 : decode cX1_twin 20 = .ok (.aload_n 0, 1) := by decide +kernel
theorem dX1_twin_21 : decode cX1_twin 21 = .ok (.getfield 22, 3) := by decide +kernel
theorem dX1_twin_24 : decode cX1_twin 24 = .ok (.invokestatic 42, 3) := by decide +kernel
theorem dX1_twin_27 : decode cX1_twin 27 = .ok (.astore_n 1, 1) := by decide +kernel
theorem dX1_twin_28 : decode cX1_twin 28 = .ok (.aload_n 1, 1) := by decide +kernel
theorem dX1_twin_29 : decode cX1_twin 29 = .ok (.aload_n 0, 1) := by decide +kernel
theorem dX1_twin_30 : decode cX1_twin 30 = .ok (.getfield 48, 3) := by decide +kernel
theorem dX1_twin_33 : decode cX1_twin 33 = .ok (.putfield 48, 3) := by decide +kernel
theorem dX1_twin_36 : decode cX1_twin 36 = .ok (.aload_n 1, 1) := by decide +kernel
theorem dX1_twin_37 : decode cX1_twin 37 = .ok (.areturn, 1) := by decide +kernel
theorem hd_X1_twin : yX1_twin.cls = RX1 ∧ yX1_twin.cls ≠ "java/lang/invoke/MethodHandle" ∧ yX1_twin.cls ≠ "java/lang/invoke/VarHandle" ∧ (parseMethodDescriptor yX1_twin.desc).map (fun d => d.parameters.length) = some 0 := by decide +kernel
abbrev rm_X1_twin : Room := { frames := 5, cells := 2, slots := 11, locals := 120 }
def F_X1_twin (z : Nat) (N : Nat) (K len : Nat → Nat) (σ : SG) (ρ : RG) : Option (Nat × TT) :=
  bn (F_v_kind N K len z σ ρ) fun r1 =>
  bnT (F_X11_newCutter r1 (σ z 0) (σ z 1) (σ z 2) (σ z 3) (σ z 4) N K len σ ρ) fun c2 N2 K2 L2 σ2 ρ2 =>
  nm (s2 σ2 c2 5 (σ2 z 5)) fun σ3 =>
  some (c2, N2, K2, L2, σ3, ρ2)
set_option maxHeartbeats 8000000 in
set_option maxRecDepth 100000 in
theorem k_X1_twin {z : Nat} {r : Nat} {N1 : Nat} {K1 len1 : Nat → Nat} {σ σ1 : SG} {ρ ρ1 : RG} (hL : Lay N K len ρ) (hR : RC N ρ) (hz : isC N K z = true) (hF : F_X1_twin z N K len σ ρ = some (r, N1, K1, len1, σ1, ρ1)) : N ≤ N1 ∧ Lay N1 K1 len1 ρ1 ∧ RC N1 ρ1 ∧ (∀ k t : Nat, isO k N K t → isO k N1 K1 t) ∧ r < N1 ∧ isCk (K1 r) = true := by
  unfold F_X1_twin at hF
  have hN0 : 65 ≤ N := hL.1
  have hI : ∀ k t : Nat, isO k N K t → isO k N K t := fun _ _ h => h
  obtain ⟨r1, hq1, hF⟩ := bn_1 hF
  obtain ⟨c2, N2, K2, L2, σ2, ρ2, hq2, hF⟩ := bnT_1 hF
  obtain ⟨hN2, hL2, hR2, hO2, hc2⟩ := k_X11_newCutter hL hR hq2
  have hL := hL2
  have hR := hR2
  have hI := fun k t h => hO2 k t (hI k t h)
  have hz : isC N2 K2 z = true := isC_mv hO2 hz
  have gc2 : isC N2 K2 c2 = true := isC_of hc2.1 hc2.2
  obtain ⟨σ3, eσ3, hF⟩ := nm_1 hF
  obtain ⟨rfl, rfl, rfl, rfl, rfl, rfl⟩ := ret_T hF
  exact ⟨by omega, hL, hR, hI, (isC_r gc2), (isC_k gc2)⟩
set_option maxHeartbeats 8000000 in
set_option maxRecDepth 100000 in
theorem c_X1_twin {z : Nat} {r : Nat} {N1 : Nat} {K1 len1 : Nat → Nat} {σ σ1 : SG} {ρ ρ1 : RG} (hL : Lay N K len ρ) (hR : RC N ρ) (hz : isC N K z = true) (hF : F_X1_twin z N K len σ ρ = some (r, N1, K1, len1, σ1, ρ1)) : MC l Y D N ad K len yX1_twin (Cond.code yX1_twin cX1_twin 2 (some (.object "CutCrooked$Cutter")) :: wsL_law) rm_X1_twin [.ref (ad z)] σ ρ (fun z => some (.ref (z r))) N1 K1 len1 σ1 ρ1 2 11 := by
  refine mc_of (cc := cX1_twin) (nL := 2) (ret := (some (.object "CutCrooked$Cutter"))) (by decide) (Nat.le_of_ble_eq_true rfl) ?_
  intro p e s m args below meth c ls C hnm hP hS hl
  have hx := C.1.1
  have hb := C.1.2.1
  have hl : lv_has ls 2 [(0, .ref (ad z))] := hl
  have hEE : ∀ r, r < N → ad r = ad r := fun _ _ => rfl
  have hAA : AA N ad s.heap.size = AA N ad s.heap.size := rfl
  have hN0 : 65 ≤ N := hL.1
  unfold F_X1_twin at hF
  refine lv_aload_n hx hb dX1_twin_0 rfl (lv_at hl 0 rfl) ?_
  obtain ⟨r1, hq1, hF⟩ := bn_1 hF
  refine v_kind C hP hS hL hz hq1 mw_1172 ⟨Nat.le_of_ble_eq_true rfl, Nat.le_of_ble_eq_true rfl⟩ hl.1 (Nat.le_of_ble_eq_true rfl) ⟨Nat.le_of_ble_eq_true rfl, Nat.le_of_ble_eq_true rfl⟩ dX1_twin_1 (fun H locs hP hS => ?_)
  refine lv_aload_n hx hb dX1_twin_4 rfl (lv_at hl 0 rfl) ?_
  refine get_ck_0 C hP (isC_r hz) (isC_k hz) mw_388 (Or.inl rfl) dX1_twin_5 ?_
  refine lv_aload_n hx hb dX1_twin_8 rfl (lv_at hl 0 rfl) ?_
  refine get_ck_1 C hP (isC_r hz) (isC_k hz) mw_389 (Or.inl rfl) dX1_twin_9 ?_
  refine lv_aload_n hx hb dX1_twin_12 rfl (lv_at hl 0 rfl) ?_
  refine get_ck_2 C hP (isC_r hz) (isC_k hz) mw_390 (Or.inl rfl) dX1_twin_13 ?_
  refine lv_aload_n hx hb dX1_twin_16 rfl (lv_at hl 0 rfl) ?_
  refine get_ck_3 C hP (isC_r hz) (isC_k hz) mw_391 (Or.inl rfl) dX1_twin_17 ?_
  refine lv_aload_n hx hb dX1_twin_20 rfl (lv_at hl 0 rfl) ?_
  refine get_ck_4 C hP (isC_r hz) (isC_k hz) mw_392 (Or.inl rfl) dX1_twin_21 ?_
  obtain ⟨c2, N2, K2, L2, σ2, ρ2, hq2, hF⟩ := bnT_1 hF
  obtain ⟨hN2, hL2, hR2, hO2, hc2⟩ := k_X11_newCutter hL hR hq2
  refine x_callSNC (ws := (Cond.code yX11_newCutter cX11_newCutter 6 (some (.object "CutCrooked$Cutter")) :: wsL_law)) C hP hS (c_X11_newCutter hL hR hq2) ⟨va_cnB 6 C.1.2.2.2.2 (gdI mw_359) rfl rfl rfl (x_nest (own := "CutCrooked$Cutter") (idx := 42) (y := yX11_newCutter) (host := "CutCrooked") C (by decide +kernel)) (C.1.2.2.2.2 _ mw_2) hd_X11_newCutter.2 ⟨(Nat.le_of_ble_eq_true rfl), (Nat.le_of_ble_eq_true rfl)⟩, (C.1.2.2.2.2 _ mw_358), trivial⟩ rfl rfl hl.1 (Nat.le_of_ble_eq_true rfl) ⟨(Nat.le_of_ble_eq_true rfl), (Nat.le_of_ble_eq_true rfl)⟩ dX1_twin_24 (fun ad2 H locs hE hA C hP hS => ?_)
  rw [← hE z (isC_r hz)] at hl
  have hEE : ∀ r, r < N → ad2 r = ad r := fun r h => (hE r (by omega)).trans (hEE r h)
  have hAA := hA.trans hAA
  have hL := hL2
  have hR := hR2
  have hz : isC N2 K2 z = true := isC_mv hO2 hz
  have gc2 : isC N2 K2 c2 = true := isC_of hc2.1 hc2.2
  refine lv_astore_n (lv' := [(1, .ref (ad2 c2)), (0, .ref (ad2 z))]) hx hb dX1_twin_27 rfl hl (by decide) rfl (fun ls hl => ?_)
  refine lv_aload_n hx hb dX1_twin_28 rfl (lv_at hl 0 rfl) ?_
  refine lv_aload_n hx hb dX1_twin_29 rfl (lv_at hl 1 rfl) ?_
  refine get_ck_5 C hP (isC_r hz) (isC_k hz) mw_1171 (Or.inl rfl) dX1_twin_30 ?_
  obtain ⟨σ3, eσ3, hF⟩ := nm_1 hF
  refine put_ckr_5 C hP hS (isC_r gc2) (isC_k gc2) mw_1171 (Or.inl rfl) eσ3 dX1_twin_33 (fun H locs hP hS => ?_)
  refine lv_aload_n hx hb dX1_twin_36 rfl (lv_at hl 0 rfl) ?_
  obtain ⟨rfl, rfl, rfl, rfl, rfl, rfl⟩ := ret_T hF
  exact x_aretC rfl hEE hAA C hP hS dX1_twin_37

/-! CutCrooked$Told.CutCrooked$Cutter twin();  -/
theorem dX9_twin_0 : decode cX9_twin 0 = .ok (.new 10, 3) := by decide +kernel
theorem dX9_twin_3 : decode cX9_twin 3 = .ok (.dup, 1) := by decide +kernel
theorem dX9_twin_4 : decode cX9_twin 4 = .ok (.aload_n 0, 1) := by decide +kernel
theorem dX9_twin_5 : decode cX9_twin 5 = .ok (.getfield 41, 3) := by decide +kernel
theorem dX9_twin_8 : decode cX9_twin 8 = .ok (.aload_n 0, 1) := by decide +kernel
theorem dX9_twin_9 : decode cX9_twin 9 = .ok (.getfield 38, 3) := by decide +kernel
theorem dX9_twin_12 : decode cX9_twin 12 = .ok (.aload_n 0, 1) := by decide +kernel
theorem dX9_twin_13 : decode cX9_twin 13 = .ok (.getfield 44, 3) := by decide +kernel
theorem dX9_twin_16 : decode cX9_twin 16 = .ok (.aload_n 0, 1) := by decide +kernel
theorem dX9_twin_17 : decode cX9_twin 17 = .ok (.getfield 47, 3) := by decide +kernel
theorem dX9_twin_20 : decode cX9_twin 20 = .ok (.aload_n 0, 1) := by decide +kernel
theorem dX9_twin_21 : decode cX9_twin 21 = .ok (.getfield 50, 3) := by decide +kernel
theorem dX9_twin_24 : decode cX9_twin 24 = .ok (.invokespecial 53, 3) := by decide +kernel
theorem dX9_twin_27 : decode cX9_twin 27 = .ok (.astore_n 1, 1) := by decide +kernel
theorem dX9_twin_28 : decode cX9_twin 28 = .ok (.aload_n 1, 1) := by decide +kernel
theorem dX9_twin_29 : decode cX9_twin 29 = .ok (.aload_n 0, 1) := by decide +kernel
theorem dX9_twin_30 : decode cX9_twin 30 = .ok (.getfield 54, 3) := by decide +kernel
theorem dX9_twin_33 : decode cX9_twin 33 = .ok (.putfield 54, 3) := by decide +kernel
theorem dX9_twin_36 : decode cX9_twin 36 = .ok (.aload_n 0, 1) := by decide +kernel
theorem dX9_twin_37 : decode cX9_twin 37 = .ok (.getfield 9, 3) := by decide +kernel
theorem dX9_twin_40 : decode cX9_twin 40 = .ok (.iconst 0, 1) := by decide +kernel
theorem dX9_twin_41 : decode cX9_twin 41 = .ok (.aload_n 1, 1) := by decide +kernel
theorem dX9_twin_42 : decode cX9_twin 42 = .ok (.getfield 9, 3) := by decide +kernel
theorem dX9_twin_45 : decode cX9_twin 45 = .ok (.iconst 0, 1) := by decide +kernel
theorem dX9_twin_46 : decode cX9_twin 46 = .ok (.iconst 4, 1) := by decide +kernel
theorem dX9_twin_47 : decode cX9_twin 47 = .ok (.invokestatic 57, 3) := by decide +kernel
theorem dX9_twin_50 : decode cX9_twin 50 = .ok (.aload_n 1, 1) := by decide +kernel
theorem dX9_twin_51 : decode cX9_twin 51 = .ok (.areturn, 1) := by decide +kernel
theorem hd_X9_twin : yX9_twin.cls = RX9 ∧ yX9_twin.cls ≠ "java/lang/invoke/MethodHandle" ∧ yX9_twin.cls ≠ "java/lang/invoke/VarHandle" ∧ (parseMethodDescriptor yX9_twin.desc).map (fun d => d.parameters.length) = some 0 := by decide +kernel
abbrev rm_X9_twin : Room := { frames := 4, cells := 2, slots := 11, locals := 95 }
def F_X9_twin (z : Nat) (N : Nat) (K len : Nat → Nat) (σ : SG) (ρ : RG) : Option (Nat × TT) :=
  nm (va_up K N 9) fun K1 =>
  nm (va_up len N 0) fun L1 =>
  nm (va_up σ N (fun _ => 0)) fun σ1 =>
  nm (va_up ρ N (fun _ => none)) fun ρ1 =>
  bnT (F_X9_init_k9 N (σ1 z 0) (σ1 z 1) (σ1 z 2) (σ1 z 3) (σ1 z 4) (N + 1) K1 L1 σ1 ρ1) fun _ N2 K2 L2 σ2 ρ2 =>
  nm (s2 σ2 N 5 (σ2 z 5)) fun σ3 =>
  gd (K2 z == 9) <|
  oc (ρ2 z 6)
   (
    none)
   (fun c5 =>
    gd (isD N2 K2 L2 c5) <|
    oc (ρ2 N 6)
     (
      none)
     (fun c6 =>
      gd (isD N2 K2 L2 c6) <|
      nm (cpy σ3 c5 c6 4) fun σ7 =>
      some (N, N2, K2, L2, σ7, ρ2)))
set_option maxHeartbeats 8000000 in
set_option maxRecDepth 100000 in
theorem k_X9_twin {z : Nat} {r : Nat} {N1 : Nat} {K1 len1 : Nat → Nat} {σ σ1 : SG} {ρ ρ1 : RG} (hL : Lay N K len ρ) (hR : RC N ρ) (hz : isC N K z = true) (hF : F_X9_twin z N K len σ ρ = some (r, N1, K1, len1, σ1, ρ1)) : N ≤ N1 ∧ Lay N1 K1 len1 ρ1 ∧ RC N1 ρ1 ∧ (∀ k t : Nat, isO k N K t → isO k N1 K1 t) ∧ r < N1 ∧ isCk (K1 r) = true := by
  unfold F_X9_twin at hF
  have hN0 : 65 ≤ N := hL.1
  have hI : ∀ k t : Nat, isO k N K t → isO k N K t := fun _ _ h => h
  obtain ⟨K1, eK1, hF⟩ := nm_1 hF
  obtain ⟨L1, eL1, hF⟩ := nm_1 hF
  obtain ⟨σ1, eσ1, hF⟩ := nm_1 hF
  obtain ⟨ρ1, eρ1, hF⟩ := nm_1 hF
  have hR : RC (N + 1) ρ1 := by rw [eρ1]; exact RC_new hR
  have hL : Lay (N + 1) K1 L1 ρ1 := by rw [eK1, eL1, eρ1]; exact Lay_new hL _ _
  have hO1 : ∀ k t : Nat, isO k N K t → isO k (N + 1) K1 t := fun k t h => by rw [eK1]; exact isO_new h _
  have hI := fun k t h => hO1 k t (hI k t h)
  have hz : isC (N + 1) K1 z = true := isC_mv hO1 hz
  have hn1 : isO 9 (N + 1) K1 N := by rw [eK1]; exact isO_self _ _
  obtain ⟨u2, N2, K2, L2, σ2, ρ2, hq2, hF⟩ := bnT_1 hF
  obtain ⟨hN2, hL2, hR2, hO2⟩ := k_X9_init_k9 hL hR ⟨hn1.1, hn1.2⟩ hN0 hq2
  have hL := hL2
  have hR := hR2
  have hI := fun k t h => hO2 k t (hI k t h)
  have hz : isC N2 K2 z = true := isC_mv hO2 hz
  have hn1 : isO 9 N2 K2 N := hO2 _ _ hn1
  obtain ⟨σ3, eσ3, hF⟩ := nm_1 hF
  obtain ⟨gk4, hF⟩ := gd_1 hF
  have gk4 := beq_iff_eq.mp gk4
  rcases ho5 : (ρ2 z 6) with _ | c5
  · have hF := oc_n hF ho5
    cases hF
  · have hF := oc_s hF ho5
    obtain ⟨gc5, hF⟩ := gd_1 hF
    rcases ho6 : (ρ2 N 6) with _ | c6
    · have hF := oc_n hF ho6
      cases hF
    · have hF := oc_s hF ho6
      obtain ⟨gc6, hF⟩ := gd_1 hF
      obtain ⟨σ7, eσ7, hF⟩ := nm_1 hF
      obtain ⟨rfl, rfl, rfl, rfl, rfl, rfl⟩ := ret_T hF
      exact ⟨by omega, hL, hR, hI, hn1.1, (by rw [hn1.2]; rfl)⟩
set_option maxHeartbeats 8000000 in
set_option maxRecDepth 100000 in
theorem c_X9_twin {z : Nat} {r : Nat} {N1 : Nat} {K1 len1 : Nat → Nat} {σ σ1 : SG} {ρ ρ1 : RG} (hL : Lay N K len ρ) (hR : RC N ρ) (hz : isC N K z = true) (hF : F_X9_twin z N K len σ ρ = some (r, N1, K1, len1, σ1, ρ1)) : MC l Y D N ad K len yX9_twin (Cond.code yX9_twin cX9_twin 2 (some (.object "CutCrooked$Cutter")) :: wsL_law) rm_X9_twin [.ref (ad z)] σ ρ (fun z => some (.ref (z r))) N1 K1 len1 σ1 ρ1 2 11 := by
  refine mc_of (cc := cX9_twin) (nL := 2) (ret := (some (.object "CutCrooked$Cutter"))) (by decide) (Nat.le_of_ble_eq_true rfl) ?_
  intro p e s m args below meth c ls C hnm hP hS hl
  have hx := C.1.1
  have hb := C.1.2.1
  have hl : lv_has ls 2 [(0, .ref (ad z))] := hl
  have hEE : ∀ r, r < N → ad r = ad r := fun _ _ => rfl
  have hAA : AA N ad s.heap.size = AA N ad s.heap.size := rfl
  have hN0 : 65 ≤ N := hL.1
  unfold F_X9_twin at hF
  obtain ⟨K1, eK1, hF⟩ := nm_1 hF
  obtain ⟨L1, eL1, hF⟩ := nm_1 hF
  obtain ⟨σ1, eσ1, hF⟩ := nm_1 hF
  obtain ⟨ρ1, eρ1, hF⟩ := nm_1 hF
  have hP := WP_like (K1 := K1) (len1 := L1) (σ1 := σ1) (ρ1 := ρ1) hP (fun r h => by rw [eK1, va_up_ne _ _ (Nat.ne_of_lt h)]) (fun r h => by rw [eL1, va_up_ne _ _ (Nat.ne_of_lt h)]) (fun r h => by rw [eσ1, va_up_ne _ _ (Nat.ne_of_lt h)]) (fun r h => by rw [eρ1, va_up_ne _ _ (Nat.ne_of_lt h)])
  have hR0 : RC N ρ1 := by rw [eρ1]; exact RC_row hR
  refine x_new (ci := 9) (fs := [.int 0, .int 0, .int 0, .int 0, .int 0, .int 0, .null]) tyX9_ok rfl rfl (fun _ => rfl) (fun j hj => by have : j < 7 := hj; revert j; decide) C hP hS hR0 (by rw [eK1, va_up_self]) ⟨by rw [eσ1, va_up_self], by rw [eρ1, va_up_self]⟩ inlX9 mw_1185 mw_376 mw_377 (Nat.le_of_ble_eq_true rfl) (Nat.le_of_ble_eq_true rfl) dX9_twin_0 (fun ad1 H hE hA C hP hS => ?_)
  rw [← hE z (isC_r hz)] at hl
  have hEE : ∀ r, r < N → ad1 r = ad r := fun r h => (hE r (by omega)).trans (hEE r h)
  have hAA := hA.trans hAA
  have hR : RC (N + 1) ρ1 := by rw [eρ1]; exact RC_new hR
  have hL : Lay (N + 1) K1 L1 ρ1 := by rw [eK1, eL1, eρ1]; exact Lay_new hL _ _
  have hO1 : ∀ k t : Nat, isO k N K t → isO k (N + 1) K1 t := fun k t h => by rw [eK1]; exact isO_new h _
  have hz : isC (N + 1) K1 z = true := isC_mv hO1 hz
  have hn1 : isO 9 (N + 1) K1 N := by rw [eK1]; exact isO_self _ _
  refine lv_dup hx hb dX9_twin_3 rfl ?_
  refine lv_aload_n hx hb dX9_twin_4 rfl (lv_at hl 0 rfl) ?_
  refine get_ck_0 C hP (isC_r hz) (isC_k hz) mw_1186 (Or.inr mw_1187) dX9_twin_5 ?_
  refine lv_aload_n hx hb dX9_twin_8 rfl (lv_at hl 0 rfl) ?_
  refine get_ck_1 C hP (isC_r hz) (isC_k hz) mw_1057 (Or.inr mw_1058) dX9_twin_9 ?_
  refine lv_aload_n hx hb dX9_twin_12 rfl (lv_at hl 0 rfl) ?_
  refine get_ck_2 C hP (isC_r hz) (isC_k hz) mw_1188 (Or.inr mw_1189) dX9_twin_13 ?_
  refine lv_aload_n hx hb dX9_twin_16 rfl (lv_at hl 0 rfl) ?_
  refine get_ck_3 C hP (isC_r hz) (isC_k hz) mw_1190 (Or.inr mw_1191) dX9_twin_17 ?_
  refine lv_aload_n hx hb dX9_twin_20 rfl (lv_at hl 0 rfl) ?_
  refine get_ck_4 C hP (isC_r hz) (isC_k hz) mw_1192 (Or.inr mw_1193) dX9_twin_21 ?_
  obtain ⟨u2, N2, K2, L2, σ2, ρ2, hq2, hF⟩ := bnT_1 hF
  obtain ⟨hN2, hL2, hR2, hO2⟩ := k_X9_init_k9 hL hR ⟨hn1.1, hn1.2⟩ hN0 hq2
  refine x_callI (ws := (Cond.code yX9_init cX9_init 6 none :: wsL_law)) C hP hS (c_X9_init_k9 hL hR ⟨hn1.1, hn1.2⟩ hN0 hq2) (cwI 5 C.1.2.2.2.2 (gdI mw_411) rfl rfl rfl (C.1.2.2.2.2 _ mw_377) (C.1.2.2.2.2 _ mw_1197) (C.1.2.2.2.2 _ mw_410) rfl hd_X9_init.2 ⟨Nat.le_of_ble_eq_true rfl, Nat.le_of_ble_eq_true rfl⟩) rfl rfl hl.1 (Nat.le_of_ble_eq_true rfl) ⟨(Nat.le_of_ble_eq_true rfl), (Nat.le_of_ble_eq_true rfl)⟩ dX9_twin_24 (fun ad2 H locs hE hA C hP hS => ?_)
  rw [← hE N hn1.1]
  rw [← hE z (isC_r hz)] at hl
  have hEE : ∀ r, r < N → ad2 r = ad r := fun r h => (hE r (by omega)).trans (hEE r h)
  have hAA := hA.trans hAA
  have hL := hL2
  have hR := hR2
  have hz : isC N2 K2 z = true := isC_mv hO2 hz
  have hn1 : isO 9 N2 K2 N := hO2 _ _ hn1
  refine lv_astore_n (lv' := [(1, .ref (ad2 N)), (0, .ref (ad2 z))]) hx hb dX9_twin_27 rfl hl (by decide) rfl (fun ls hl => ?_)
  refine lv_aload_n hx hb dX9_twin_28 rfl (lv_at hl 0 rfl) ?_
  refine lv_aload_n hx hb dX9_twin_29 rfl (lv_at hl 1 rfl) ?_
  refine get_ck_5 C hP (isC_r hz) (isC_k hz) mw_1194 (Or.inr mw_1195) dX9_twin_30 ?_
  obtain ⟨σ3, eσ3, hF⟩ := nm_1 hF
  refine put_ckr_5 C hP hS hn1.1 (by rw [hn1.2]; rfl) mw_1194 (Or.inr mw_1195) eσ3 dX9_twin_33 (fun H locs hP hS => ?_)
  refine lv_aload_n hx hb dX9_twin_36 rfl (lv_at hl 1 rfl) ?_
  obtain ⟨gk4, hF⟩ := gd_1 hF
  have gk4 := beq_iff_eq.mp gk4
  refine geto_9_6 C hP (isC_r hz) gk4 inlX9 mw_412 dX9_twin_37 ?_
  rcases ho5 : (ρ2 z 6) with _ | c5
  · have hF := oc_n hF ho5
    refine x_n ?_
    cases hF
  · have hF := oc_s hF ho5
    refine x_s ?_
    obtain ⟨gc5, hF⟩ := gd_1 hF
    refine lv_iconst (v := 0) hx hb dX9_twin_40 (by decide) ?_
    refine lv_aload_n hx hb dX9_twin_41 rfl (lv_at hl 0 rfl) ?_
    refine geto_9_6 C hP hn1.1 hn1.2 inlX9 mw_412 dX9_twin_42 ?_
    rcases ho6 : (ρ2 N 6) with _ | c6
    · have hF := oc_n hF ho6
      refine x_n ?_
      cases hF
    · have hF := oc_s hF ho6
      refine x_s ?_
      obtain ⟨gc6, hF⟩ := gd_1 hF
      refine lv_iconst (v := 0) hx hb dX9_twin_45 (by decide) ?_
      refine lv_iconst (v := 4) hx hb dX9_twin_46 (by decide) ?_
      obtain ⟨σ7, eσ7, hF⟩ := nm_1 hF
      refine x_copyI C hP hS hl.1 (isD_r gc5) (isD_r gc6) (isD_k gc5) (isD_k gc6) (isD_n gc5) (isD_n gc6) (by decide +kernel : (4 : Int32).toNatClampNeg = 4) (by decide) (Nat.le_of_ble_eq_true rfl) (Nat.le_of_ble_eq_true rfl)  eσ7 mw_1196 mw_286 mw_287 mw_288 (Nat.le_of_ble_eq_true rfl) (Nat.le_of_ble_eq_true rfl) dX9_twin_47 (fun H locs hP hS => ?_)
      refine lv_aload_n hx hb dX9_twin_50 rfl (lv_at hl 0 rfl) ?_
      obtain ⟨rfl, rfl, rfl, rfl, rfl, rfl⟩ := ret_T hF
      exact x_aretC rfl hEE hAA C hP hS dX9_twin_51

/-! a virtual call that makes objects: twin -/
def F_v_twin (c N : Nat) (K len : Nat → Nat) (σ : SG) (ρ : RG) : Option (Nat × TT) :=
  if K c = 9 then F_X9_twin c N K len σ ρ else F_X1_twin c N K len σ ρ
theorem kv_twin {b : Nat} {r N1 : Nat} {K1 len1 : Nat → Nat} {σ σ1 : SG} {ρ ρ1 : RG} (hL : Lay N K len ρ) (hR : RC N ρ) (hc : isC N K b = true) (hF : F_v_twin b N K len σ ρ = some (r, N1, K1, len1, σ1, ρ1)) : N ≤ N1 ∧ Lay N1 K1 len1 ρ1 ∧ RC N1 ρ1 ∧ (∀ k t : Nat, isO k N K t → isO k N1 K1 t) ∧ r < N1 ∧ isCk (K1 r) = true := by
  unfold F_v_twin at hF
  by_cases h : K b = 9
  · rw [if_pos h] at hF; exact k_X9_twin hL hR hc hF
  · rw [if_neg h] at hF; exact k_X1_twin hL hR hc hF
set_option maxHeartbeats 4000000 in
theorem v_twin {p : Program} {e : Env} {R : Room} {s : State} {m : MethodId} {args : Array Value} {below : List Frame} {meth : Method} {c : Code} {H : Heap} {locs : List Loc} {cells slots : Nat} {Q : State → Prop} {cc : ByteArray} {nL : Nat} {ret : Option FieldType} {own : String} {pc : Nat} {ls : Array Slot} {rest : List Value} {idx b : Nat} {r N1 : Nat} {K1 len1 : Nat → Nat} {σ σ1 : SG} {ρ ρ1 : RG} (C : Cx Y D N ad p s m args meth c cc nL ret own wsL_law) (hP : WP Y D N ad K len σ ρ H) (hS : va_S (AA N ad s.heap.size) s.heap H locs) (hL : Lay N K len ρ) (hR : RC N ρ) (hc : isC N K b = true) (hF : F_v_twin b N K len σ ρ = some (r, N1, K1, len1, σ1, ρ1)) (hlink : Cond.methodLink own idx yX1_twin ∈ wsL_law) (hRm : 6 ≤ R.frames ∧ 141 ≤ R.locals) (hls : ls.size = nL) (hW : (rest.map fun v => v.category).sum ≤ 8) (hf : cells + 2 ≤ R.cells ∧ slots + 11 ≤ R.slots) (hdg : decode cc pc = .ok (.invokevirtual idx, 3))
    (kk : ∀ (ad1 : Nat → Nat) (H1 : Heap) (locs1 : List Loc), (∀ r, r < N → ad1 r = ad r) → AA N1 ad1 s.heap.size = AA N ad s.heap.size → Cx Y D N1 ad1 p s m args meth c cc nL ret own wsL_law → WP Y D N1 ad1 K1 len1 σ1 ρ1 H1 → va_S (AA N1 ad1 s.heap.size) s.heap H1 locs1 → W p l e R s m args below meth c H1 locs1 (cells + 2) (slots + 11) Q (F0 m (pc + 3) ls (.ref (ad1 r) :: rest))) : W p l e R s m args below meth c H locs cells slots Q (F0 m pc ls (.ref (ad b) :: rest)) := by
  unfold F_v_twin at hF
  have hr := isC_r hc
  rcases isCk_or (isC_k hc) with h | h | h | h | h | h | h
  · rw [if_neg (by rw [h]; decide : ¬ K b = 9)] at hF
    exact x_callVC (ci := 1) rfl rfl C hP hS (c_X1_twin hL hR hc hF) hr h (cwV 0 C.1.2.2.2.2 (gdV hlink mw_1168 mw_1169 mw_380 mw_1170) rfl rfl rfl hd_X1_twin ⟨Nat.le_trans (Nat.le_of_ble_eq_true rfl) hRm.1, Nat.le_trans (Nat.le_of_ble_eq_true rfl) hRm.2⟩) rfl rfl hls hW hf hdg kk
  · rw [if_neg (by rw [h]; decide : ¬ K b = 9)] at hF
    exact x_callUC (ci := 2) rfl rfl C hP hS (c_X1_twin hL hR hc hF) hr h (va_cwU 0 C.1.2.2.2.2 (gdU (x := yX1_twin) (owner := RX1) hlink mw_1175 mw_1176 mw_1168 mw_380 mw_1170) rfl rfl rfl rfl hd_X1_twin.2 ⟨Nat.le_trans (Nat.le_of_ble_eq_true rfl) hRm.1, Nat.le_trans (Nat.le_of_ble_eq_true rfl) hRm.2⟩) rfl rfl hls hW hf hdg kk
  · rw [if_neg (by rw [h]; decide : ¬ K b = 9)] at hF
    exact x_callUC (ci := 4) rfl rfl C hP hS (c_X1_twin hL hR hc hF) hr h (va_cwU 0 C.1.2.2.2.2 (gdU (x := yX1_twin) (owner := RX1) hlink mw_1175 mw_1177 mw_1168 mw_380 mw_1170) rfl rfl rfl rfl hd_X1_twin.2 ⟨Nat.le_trans (Nat.le_of_ble_eq_true rfl) hRm.1, Nat.le_trans (Nat.le_of_ble_eq_true rfl) hRm.2⟩) rfl rfl hls hW hf hdg kk
  · rw [if_neg (by rw [h]; decide : ¬ K b = 9)] at hF
    exact x_callUC (ci := 5) rfl rfl C hP hS (c_X1_twin hL hR hc hF) hr h (va_cwU 0 C.1.2.2.2.2 (gdU (x := yX1_twin) (owner := RX1) hlink mw_1175 mw_1178 mw_1168 mw_380 mw_1170) rfl rfl rfl rfl hd_X1_twin.2 ⟨Nat.le_trans (Nat.le_of_ble_eq_true rfl) hRm.1, Nat.le_trans (Nat.le_of_ble_eq_true rfl) hRm.2⟩) rfl rfl hls hW hf hdg kk
  · rw [if_neg (by rw [h]; decide : ¬ K b = 9)] at hF
    exact x_callUC (ci := 6) rfl rfl C hP hS (c_X1_twin hL hR hc hF) hr h (va_cwU 0 C.1.2.2.2.2 (gdU (x := yX1_twin) (owner := RX1) hlink mw_1175 mw_1179 mw_1168 mw_380 mw_1170) rfl rfl rfl rfl hd_X1_twin.2 ⟨Nat.le_trans (Nat.le_of_ble_eq_true rfl) hRm.1, Nat.le_trans (Nat.le_of_ble_eq_true rfl) hRm.2⟩) rfl rfl hls hW hf hdg kk
  · rw [if_neg (by rw [h]; decide : ¬ K b = 9)] at hF
    exact x_callUC (ci := 7) rfl rfl C hP hS (c_X1_twin hL hR hc hF) hr h (va_cwU 0 C.1.2.2.2.2 (gdU (x := yX1_twin) (owner := RX1) hlink mw_1175 mw_1180 mw_1168 mw_380 mw_1170) rfl rfl rfl rfl hd_X1_twin.2 ⟨Nat.le_trans (Nat.le_of_ble_eq_true rfl) hRm.1, Nat.le_trans (Nat.le_of_ble_eq_true rfl) hRm.2⟩) rfl rfl hls hW hf hdg kk
  · rw [if_pos h] at hF
    exact x_callUC (ci := 9) rfl rfl C hP hS (c_X9_twin hL hR hc hF) hr h (va_cwO 0 C.1.2.2.2.2 (gdO (x := yX1_twin) (owner := RX1) hlink mw_1175 mw_1181 mw_1182 mw_1183 mw_377 mw_1184) rfl rfl rfl mw_1170 hd_X1_twin.2 ⟨Nat.le_trans (Nat.le_of_ble_eq_true rfl) hRm.1, Nat.le_trans (Nat.le_of_ble_eq_true rfl) hRm.2⟩) rfl rfl hls hW hf hdg kk

/-! CutCrooked$Table.void takes(CutCrooked$Table); 14_1 -/
theorem dX8_takes_0 : decode cX8_takes 0 = .ok (.aload_n 0, 1) := by decide +kernel
theorem dX8_takes_1 : decode cX8_takes 1 = .ok (.aload_n 1, 1) := by decide +kernel
theorem dX8_takes_2 : decode cX8_takes 2 = .ok (.getfield 49, 3) := by decide +kernel
theorem dX8_takes_5 : decode cX8_takes 5 = .ok (.putfield 49, 3) := by decide +kernel
theorem dX8_takes_8 : decode cX8_takes 8 = .ok (.iconst 0, 1) := by decide +kernel
theorem dX8_takes_9 : decode cX8_takes 9 = .ok (.istore_n 2, 1) := by decide +kernel
theorem dX8_takes_10 : decode cX8_takes 10 = .ok (.iload_n 2, 1) := by decide +kernel
theorem dX8_takes_11 : decode cX8_takes 11 = .ok (.aload_n 0, 1) := by decide +kernel
theorem dX8_takes_12 : decode cX8_takes 12 = .ok (.getfield 11, 3) := by decide +kernel
theorem dX8_takes_15 : decode cX8_takes 15 = .ok (.arraylength, 1) := by decide +kernel
theorem dX8_takes_16 : decode cX8_takes 16 = .ok (.if_icmp .ge 33, 3) := by decide +kernel
theorem dX8_takes_19 : decode cX8_takes 19 = .ok (.aload_n 1, 1) := by decide +kernel
theorem dX8_takes_20 : decode cX8_takes 20 = .ok (.iload_n 2, 1) := by decide +kernel
theorem dX8_takes_21 : decode cX8_takes 21 = .ok (.invokevirtual 53, 3) := by decide +kernel
theorem dX8_takes_24 : decode cX8_takes 24 = .ok (.astore_n 3, 1) := by decide +kernel
theorem dX8_takes_25 : decode cX8_takes 25 = .ok (.aload_n 0, 1) := by decide +kernel
theorem dX8_takes_26 : decode cX8_takes 26 = .ok (.getfield 11, 3) := by decide +kernel
theorem dX8_takes_29 : decode cX8_takes 29 = .ok (.iload_n 2, 1) := by decide +kernel
theorem dX8_takes_30 : decode cX8_takes 30 = .ok (.aload_n 3, 1) := by decide +kernel
theorem dX8_takes_31 : decode cX8_takes 31 = .ok (.ifnonnull 7, 3) := by decide +kernel
theorem dX8_takes_34 : decode cX8_takes 34 = .ok (.aconst_null, 1) := by decide +kernel
theorem dX8_takes_35 : decode cX8_takes 35 = .ok (.goto 7, 3) := by decide +kernel
theorem dX8_takes_38 : decode cX8_takes 38 = .ok (.aload_n 3, 1) := by decide +kernel
theorem dX8_takes_39 : decode cX8_takes 39 = .ok (.invokevirtual 57, 3) := by decide +kernel
theorem dX8_takes_42 : decode cX8_takes 42 = .ok (.aastore, 1) := by decide +kernel
theorem dX8_takes_43 : decode cX8_takes 43 = .ok (.iinc 2 1, 3) := by decide +kernel
theorem dX8_takes_46 : decode cX8_takes 46 = .ok (.goto (-36), 3) := by decide +kernel
theorem dX8_takes_49 : decode cX8_takes 49 = .ok (.aload_n 0, 1) := by decide +kernel
theorem dX8_takes_50 : decode cX8_takes 50 = .ok (.getfield 20, 3) := by decide +kernel
theorem dX8_takes_53 : decode cX8_takes 53 = .ok (.aload_n 1, 1) := by decide +kernel
theorem dX8_takes_54 : decode cX8_takes 54 = .ok (.getfield 20, 3) := by decide +kernel
theorem dX8_takes_57 : decode cX8_takes 57 = .ok (.invokevirtual 61, 3) := by decide +kernel
theorem dX8_takes_60 : decode cX8_takes 60 = .ok (.aload_n 0, 1) := by decide +kernel
theorem dX8_takes_61 : decode cX8_takes 61 = .ok (.getfield 27, 3) := by decide +kernel
theorem dX8_takes_64 : decode cX8_takes 64 = .ok (.aload_n 1, 1) := by decide +kernel
theorem dX8_takes_65 : decode cX8_takes 65 = .ok (.getfield 27, 3) := by decide +kernel
theorem dX8_takes_68 : decode cX8_takes 68 = .ok (.invokevirtual 65, 3) := by decide +kernel
theorem dX8_takes_71 : decode cX8_takes 71 = .ok (.aload_n 0, 1) := by decide +kernel
theorem dX8_takes_72 : decode cX8_takes 72 = .ok (.aload_n 1, 1) := by decide +kernel
theorem dX8_takes_73 : decode cX8_takes 73 = .ok (.getfield 68, 3) := by decide +kernel
theorem dX8_takes_76 : decode cX8_takes 76 = .ok (.putfield 68, 3) := by decide +kernel
theorem dX8_takes_79 : decode cX8_takes 79 = .ok (.aload_n 0, 1) := by decide +kernel
theorem dX8_takes_80 : decode cX8_takes 80 = .ok (.aload_n 1, 1) := by decide +kernel
theorem dX8_takes_81 : decode cX8_takes 81 = .ok (.getfield 71, 3) := by decide +kernel
theorem dX8_takes_84 : decode cX8_takes 84 = .ok (.putfield 71, 3) := by decide +kernel
theorem dX8_takes_87 : decode cX8_takes 87 = .ok (.aload_n 0, 1) := by decide +kernel
theorem dX8_takes_88 : decode cX8_takes 88 = .ok (.aload_n 1, 1) := by decide +kernel
theorem dX8_takes_89 : decode cX8_takes 89 = .ok (.getfield 74, 3) := by decide +kernel
theorem dX8_takes_92 : decode cX8_takes 92 = .ok (.putfield 74, 3) := by decide +kernel
theorem dX8_takes_95 : decode cX8_takes 95 = .ok (.aload_n 0, 1) := by decide +kernel
theorem dX8_takes_96 : decode cX8_takes 96 = .ok (.aload_n 1, 1) := by decide +kernel
theorem dX8_takes_97 : decode cX8_takes 97 = .ok (.getfield 77, 3) := by decide +kernel
theorem dX8_takes_100 : decode cX8_takes 100 = .ok (.putfield 77, 3) := by decide +kernel
theorem dX8_takes_103 : decode cX8_takes 103 = .ok (.aload_n 0, 1) := by decide +kernel
theorem dX8_takes_104 : decode cX8_takes 104 = .ok (.aload_n 1, 1) := by decide +kernel
theorem dX8_takes_105 : decode cX8_takes 105 = .ok (.getfield 80, 3) := by decide +kernel
theorem dX8_takes_108 : decode cX8_takes 108 = .ok (.putfield 80, 3) := by decide +kernel
theorem dX8_takes_111 : decode cX8_takes 111 = .ok (.aload_n 0, 1) := by decide +kernel
theorem dX8_takes_112 : decode cX8_takes 112 = .ok (.aload_n 1, 1) := by decide +kernel
theorem dX8_takes_113 : decode cX8_takes 113 = .ok (.getfield 83, 3) := by decide +kernel
theorem dX8_takes_116 : decode cX8_takes 116 = .ok (.putfield 83, 3) := by decide +kernel
theorem dX8_takes_119 : decode cX8_takes 119 = .ok (.aload_n 1, 1) := by decide +kernel
theorem dX8_takes_120 : decode cX8_takes 120 = .ok (.getfield 31, 3) := by decide +kernel
theorem dX8_takes_123 : decode cX8_takes 123 = .ok (.iconst 0, 1) := by decide +kernel
theorem dX8_takes_124 : decode cX8_takes 124 = .ok (.aload_n 0, 1) := by decide +kernel
theorem dX8_takes_125 : decode cX8_takes 125 = .ok (.getfield 31, 3) := by decide +kernel
theorem dX8_takes_128 : decode cX8_takes 128 = .ok (.iconst 0, 1) := by decide +kernel
theorem dX8_takes_129 : decode cX8_takes 129 = .ok (.bipush 100, 2) := by decide +kernel
theorem dX8_takes_131 : decode cX8_takes 131 = .ok (.invokestatic 86, 3) := by decide +kernel
theorem dX8_takes_134 : decode cX8_takes 134 = .ok (.aload_n 1, 1) := by decide +kernel
theorem dX8_takes_135 : decode cX8_takes 135 = .ok (.getfield 35, 3) := by decide +kernel
theorem dX8_takes_138 : decode cX8_takes 138 = .ok (.iconst 0, 1) := by decide +kernel
theorem dX8_takes_139 : decode cX8_takes 139 = .ok (.aload_n 0, 1) := by decide +kernel
theorem dX8_takes_140 : decode cX8_takes 140 = .ok (.getfield 35, 3) := by decide +kernel
theorem dX8_takes_143 : decode cX8_takes 143 = .ok (.iconst 0, 1) := by decide +kernel
theorem dX8_takes_144 : decode cX8_takes 144 = .ok (.iconst 4, 1) := by decide +kernel
theorem dX8_takes_145 : decode cX8_takes 145 = .ok (.invokestatic 86, 3) := by decide +kernel
theorem dX8_takes_148 : decode cX8_takes 148 = .ok (.aload_n 1, 1) := by decide +kernel
theorem dX8_takes_149 : decode cX8_takes 149 = .ok (.getfield 39, 3) := by decide +kernel
theorem dX8_takes_152 : decode cX8_takes 152 = .ok (.iconst 0, 1) := by decide +kernel
theorem dX8_takes_153 : decode cX8_takes 153 = .ok (.aload_n 0, 1) := by decide +kernel
theorem dX8_takes_154 : decode cX8_takes 154 = .ok (.getfield 39, 3) := by decide +kernel
theorem dX8_takes_157 : decode cX8_takes 157 = .ok (.iconst 0, 1) := by decide +kernel
theorem dX8_takes_158 : decode cX8_takes 158 = .ok (.bipush 8, 2) := by decide +kernel
theorem dX8_takes_160 : decode cX8_takes 160 = .ok (.invokestatic 86, 3) := by decide +kernel
theorem dX8_takes_163 : decode cX8_takes 163 = .ok (.aload_n 1, 1) := by decide +kernel
theorem dX8_takes_164 : decode cX8_takes 164 = .ok (.getfield 42, 3) := by decide +kernel
theorem dX8_takes_167 : decode cX8_takes 167 = .ok (.iconst 0, 1) := by decide +kernel
theorem dX8_takes_168 : decode cX8_takes 168 = .ok (.aload_n 0, 1) := by decide +kernel
theorem dX8_takes_169 : decode cX8_takes 169 = .ok (.getfield 42, 3) := by decide +kernel
theorem dX8_takes_172 : decode cX8_takes 172 = .ok (.iconst 0, 1) := by decide +kernel
theorem dX8_takes_173 : decode cX8_takes 173 = .ok (.bipush 8, 2) := by decide +kernel
theorem dX8_takes_175 : decode cX8_takes 175 = .ok (.invokestatic 86, 3) := by decide +kernel
theorem dX8_takes_178 : decode cX8_takes 178 = .ok (.return_, 1) := by decide +kernel
theorem hd_X8_takes : yX8_takes.cls = RX8 ∧ yX8_takes.cls ≠ "java/lang/invoke/MethodHandle" ∧ yX8_takes.cls ≠ "java/lang/invoke/VarHandle" ∧ (parseMethodDescriptor yX8_takes.desc).map (fun d => d.parameters.length) = some 1 := by decide +kernel
abbrev rm_X8_takes_14_1 : Room := { frames := 6, cells := 12, slots := 66, locals := 141 }
def F_X8_takes_14_1_10_6 (N : Nat) (K len : Nat → Nat) (σ : SG) (ρ : RG) : Option (Unit × TT) :=
  bn (F_X3_takes 16 3 σ ρ) fun σ28 =>
  bn (F_X0_takes_18_5 σ28 ρ) fun σ29 =>
  nm (s2 σ29 14 4 (σ29 1 4)) fun σ31 =>
  nm (s2 σ31 14 6 (σ31 1 6)) fun σ33 =>
  nm (s2 σ33 14 7 (σ33 1 7)) fun σ35 =>
  nm (s2 σ35 14 8 (σ35 1 8)) fun σ37 =>
  nm (s2 σ37 14 10 (σ37 1 10)) fun σ39 =>
  nm (s2 σ39 14 13 (σ39 1 13)) fun σ41 =>
  gd ((List.range 100).all (fun i => isB (σ41 10 i))) <|
  nm (cpy σ41 10 23 100) fun σ42 =>
  nm (cpy σ42 11 24 4) fun σ43 =>
  nm (cpy σ43 12 25 8) fun σ44 =>
  nm (cpy σ44 13 26 8) fun σ45 =>
  some ((), N, K, len, σ45, ρ)
set_option maxHeartbeats 8000000 in
set_option maxRecDepth 100000 in
theorem k_X8_takes_14_1_10_6 {N1 : Nat} {K1 len1 : Nat → Nat} {σ σ1 : SG} {ρ ρ1 : RG} (hL : Lay N K len ρ) (hR : RC N ρ) (hF : F_X8_takes_14_1_10_6 N K len σ ρ = some ((), N1, K1, len1, σ1, ρ1)) : N ≤ N1 ∧ Lay N1 K1 len1 ρ1 ∧ RC N1 ρ1 ∧ (∀ k t : Nat, isO k N K t → isO k N1 K1 t) := by
  unfold F_X8_takes_14_1_10_6 at hF
  have hN0 : 65 ≤ N := hL.1
  have hI : ∀ k t : Nat, isO k N K t → isO k N K t := fun _ _ h => h
  obtain ⟨σ28, hq28, hF⟩ := bn_1 hF
  obtain ⟨σ29, hq29, hF⟩ := bn_1 hF
  obtain ⟨σ31, eσ31, hF⟩ := nm_1 hF
  obtain ⟨σ33, eσ33, hF⟩ := nm_1 hF
  obtain ⟨σ35, eσ35, hF⟩ := nm_1 hF
  obtain ⟨σ37, eσ37, hF⟩ := nm_1 hF
  obtain ⟨σ39, eσ39, hF⟩ := nm_1 hF
  obtain ⟨σ41, eσ41, hF⟩ := nm_1 hF
  obtain ⟨ga42, hF⟩ := gd_1 hF
  obtain ⟨σ42, eσ42, hF⟩ := nm_1 hF
  obtain ⟨σ43, eσ43, hF⟩ := nm_1 hF
  obtain ⟨σ44, eσ44, hF⟩ := nm_1 hF
  obtain ⟨σ45, eσ45, hF⟩ := nm_1 hF
  obtain ⟨-, rfl, rfl, rfl, rfl, rfl⟩ := ret_T hF
  exact ⟨by omega, hL, hR, hI⟩
set_option maxHeartbeats 8000000 in
set_option maxRecDepth 100000 in
theorem w_X8_takes_14_1_10_6 {p : Program} {e : Env} {s : State} {m : MethodId} {args : Array Value} {below : List Frame} {meth : Method} {c : Code} {H : Heap} {locs : List Loc} {ls : Array Slot} {N0 : Nat} {ad0 : Nat → Nat} {N1 : Nat} {K1 len1 : Nat → Nat} {σ σ1 : SG} {ρ ρ1 : RG} (hEE : ∀ r, r < N0 → ad r = ad0 r) (hAA : AA N ad s.heap.size = AA N0 ad0 s.heap.size) (hNN : N0 ≤ N) (C : Cx Y D N ad p s m args meth c cX8_takes 4 none RX8 wsL_law) (hL : Lay N K len ρ) (hR : RC N ρ) (hF : F_X8_takes_14_1_10_6 N K len σ ρ = some ((), N1, K1, len1, σ1, ρ1)) (hP : WP Y D N ad K len σ ρ H) (hS : va_S (AA N ad s.heap.size) s.heap H locs) (hl : lv_has ls 4 [(0, .ref (ad 14)), (1, .ref (ad 1)), (2, .int (6 : Int32))]) : W p l e rm_X8_takes_14_1 s m args below meth c H locs 12 66 (MQ below (QC Y D N0 ad0 N1 K1 len1 σ1 ρ1 s.heap.size (fun _ => none)) args s 12 66 (AA N0 ad0 s.heap.size)) (F0 m 10 ls []) := by
  have hx := C.1.1
  have hb := C.1.2.1
  have hN0 : 65 ≤ N := hL.1
  unfold F_X8_takes_14_1_10_6 at hF
  refine lv_iload_n hx hb dX8_takes_10 rfl (lv_at hl 2 rfl) ?_
  refine lv_aload_n hx hb dX8_takes_11 rfl (lv_at hl 0 rfl) ?_
  refine get_8_0 C hP (lr_14 hL) (lk_14 hL) inlX8 mw_39 (lf_14_0 hL) dX8_takes_12 ?_
  refine x_alen (v := (6 : Int32)) C hP (lr_15 hL) (lk_15 hL) (by decide) (ln_15 hL) (by decide +kernel) dX8_takes_15 ?_
  refine lv_icmp_ge (tgt := 49) hx hb dX8_takes_16 (by decide) (fun c_27 => ?_) (fun c_27 => absurd (by decide) c_27)
  refine lv_aload_n hx hb dX8_takes_49 rfl (lv_at hl 0 rfl) ?_
  refine get_8_2 C hP (lr_14 hL) (lk_14 hL) inlX8 mw_41 (lf_14_2 hL) dX8_takes_50 ?_
  refine lv_aload_n hx hb dX8_takes_53 rfl (lv_at hl 1 rfl) ?_
  refine get_8_2 C hP (lr_1 hL) (lk_1 hL) inlX8 mw_41 (lf_1_2 hL) dX8_takes_54 ?_
  obtain ⟨σ28, hq28, hF⟩ := bn_1 hF
  refine x_callV (ci := 3) rfl rfl C hP hS (c_X3_takes hL (il_16 hL) (il_3 hL) hq28) (lr_16 hL) (lk_16 hL) (cwV 1 C.1.2.2.2.2 (gdV mw_1198 mw_721 mw_722 mw_31 mw_723) rfl rfl rfl hd_X3_takes ⟨Nat.le_of_ble_eq_true rfl, Nat.le_of_ble_eq_true rfl⟩) rfl rfl hl.1 (Nat.le_of_ble_eq_true rfl) ⟨Nat.le_of_ble_eq_true rfl, Nat.le_of_ble_eq_true rfl⟩ dX8_takes_57 (fun H locs hP hS => ?_)
  refine lv_aload_n hx hb dX8_takes_60 rfl (lv_at hl 0 rfl) ?_
  refine get_8_3 C hP (lr_14 hL) (lk_14 hL) inlX8 mw_43 (lf_14_3 hL) dX8_takes_61 ?_
  refine lv_aload_n hx hb dX8_takes_64 rfl (lv_at hl 1 rfl) ?_
  refine get_8_3 C hP (lr_1 hL) (lk_1 hL) inlX8 mw_43 (lf_1_3 hL) dX8_takes_65 ?_
  obtain ⟨σ29, hq29, hF⟩ := bn_1 hF
  refine x_callV (ci := 0) rfl rfl C hP hS (c_X0_takes_18_5 hL hq29) (lr_18 hL) (lk_18 hL) (cwV 1 C.1.2.2.2.2 (gdV mw_1199 mw_282 mw_283 mw_23 mw_284) rfl rfl rfl hd_X0_takes ⟨Nat.le_of_ble_eq_true rfl, Nat.le_of_ble_eq_true rfl⟩) rfl rfl hl.1 (Nat.le_of_ble_eq_true rfl) ⟨Nat.le_of_ble_eq_true rfl, Nat.le_of_ble_eq_true rfl⟩ dX8_takes_68 (fun H locs hP hS => ?_)
  refine lv_aload_n hx hb dX8_takes_71 rfl (lv_at hl 0 rfl) ?_
  refine lv_aload_n hx hb dX8_takes_72 rfl (lv_at hl 1 rfl) ?_
  refine get_8_4 C hP (lr_1 hL) (lk_1 hL) inlX8 mw_1159 dX8_takes_73 ?_
  obtain ⟨σ31, eσ31, hF⟩ := nm_1 hF
  refine put_8_4 C hP hS (lr_14 hL) (lk_14 hL) inlX8 mw_1159 eσ31 dX8_takes_76 (fun H locs hP hS => ?_)
  refine lv_aload_n hx hb dX8_takes_79 rfl (lv_at hl 0 rfl) ?_
  refine lv_aload_n hx hb dX8_takes_80 rfl (lv_at hl 1 rfl) ?_
  refine get_8_6 C hP (lr_1 hL) (lk_1 hL) inlX8 mw_1160 dX8_takes_81 ?_
  obtain ⟨σ33, eσ33, hF⟩ := nm_1 hF
  refine put_8_6 C hP hS (lr_14 hL) (lk_14 hL) inlX8 mw_1160 eσ33 dX8_takes_84 (fun H locs hP hS => ?_)
  refine lv_aload_n hx hb dX8_takes_87 rfl (lv_at hl 0 rfl) ?_
  refine lv_aload_n hx hb dX8_takes_88 rfl (lv_at hl 1 rfl) ?_
  refine get_8_7 C hP (lr_1 hL) (lk_1 hL) inlX8 mw_1161 dX8_takes_89 ?_
  obtain ⟨σ35, eσ35, hF⟩ := nm_1 hF
  refine put_8_7 C hP hS (lr_14 hL) (lk_14 hL) inlX8 mw_1161 eσ35 dX8_takes_92 (fun H locs hP hS => ?_)
  refine lv_aload_n hx hb dX8_takes_95 rfl (lv_at hl 0 rfl) ?_
  refine lv_aload_n hx hb dX8_takes_96 rfl (lv_at hl 1 rfl) ?_
  refine get_8_8 C hP (lr_1 hL) (lk_1 hL) inlX8 mw_1162 dX8_takes_97 ?_
  obtain ⟨σ37, eσ37, hF⟩ := nm_1 hF
  refine put_8_8 C hP hS (lr_14 hL) (lk_14 hL) inlX8 mw_1162 eσ37 dX8_takes_100 (fun H locs hP hS => ?_)
  refine lv_aload_n hx hb dX8_takes_103 rfl (lv_at hl 0 rfl) ?_
  refine lv_aload_n hx hb dX8_takes_104 rfl (lv_at hl 1 rfl) ?_
  refine get_8_10 C hP (lr_1 hL) (lk_1 hL) inlX8 mw_1163 dX8_takes_105 ?_
  obtain ⟨σ39, eσ39, hF⟩ := nm_1 hF
  refine put_8_10 C hP hS (lr_14 hL) (lk_14 hL) inlX8 mw_1163 eσ39 dX8_takes_108 (fun H locs hP hS => ?_)
  refine lv_aload_n hx hb dX8_takes_111 rfl (lv_at hl 0 rfl) ?_
  refine lv_aload_n hx hb dX8_takes_112 rfl (lv_at hl 1 rfl) ?_
  refine get_8_13 C hP (lr_1 hL) (lk_1 hL) inlX8 mw_1164 dX8_takes_113 ?_
  obtain ⟨σ41, eσ41, hF⟩ := nm_1 hF
  refine put_8_13 C hP hS (lr_14 hL) (lk_14 hL) inlX8 mw_1164 eσ41 dX8_takes_116 (fun H locs hP hS => ?_)
  refine lv_aload_n hx hb dX8_takes_119 rfl (lv_at hl 1 rfl) ?_
  refine get_8_5 C hP (lr_1 hL) (lk_1 hL) inlX8 mw_45 (lf_1_5 hL) dX8_takes_120 ?_
  refine lv_iconst (v := 0) hx hb dX8_takes_123 (by decide) ?_
  refine lv_aload_n hx hb dX8_takes_124 rfl (lv_at hl 0 rfl) ?_
  refine get_8_5 C hP (lr_14 hL) (lk_14 hL) inlX8 mw_45 (lf_14_5 hL) dX8_takes_125 ?_
  refine lv_iconst (v := 0) hx hb dX8_takes_128 (by decide) ?_
  refine lv_bipush (v := 100) hx hb dX8_takes_129 (by decide +kernel) ?_
  obtain ⟨ga42, hF⟩ := gd_1 hF
  obtain ⟨σ42, eσ42, hF⟩ := nm_1 hF
  refine x_copyB C hP hS hl.1 (lr_10 hL) (lr_23 hL) (lk_10 hL) (lk_23 hL) (ln_10 hL) (ln_23 hL) (by decide +kernel : (100 : Int32).toNatClampNeg = 100) (by decide) (Nat.le_of_ble_eq_true rfl) (Nat.le_of_ble_eq_true rfl) ga42 eσ42 mw_1165 mw_286 mw_287 mw_288 (Nat.le_of_ble_eq_true rfl) (Nat.le_of_ble_eq_true rfl) dX8_takes_131 (fun H locs hP hS => ?_)
  refine lv_aload_n hx hb dX8_takes_134 rfl (lv_at hl 1 rfl) ?_
  refine get_8_9 C hP (lr_1 hL) (lk_1 hL) inlX8 mw_46 (lf_1_9 hL) dX8_takes_135 ?_
  refine lv_iconst (v := 0) hx hb dX8_takes_138 (by decide) ?_
  refine lv_aload_n hx hb dX8_takes_139 rfl (lv_at hl 0 rfl) ?_
  refine get_8_9 C hP (lr_14 hL) (lk_14 hL) inlX8 mw_46 (lf_14_9 hL) dX8_takes_140 ?_
  refine lv_iconst (v := 0) hx hb dX8_takes_143 (by decide) ?_
  refine lv_iconst (v := 4) hx hb dX8_takes_144 (by decide) ?_
  obtain ⟨σ43, eσ43, hF⟩ := nm_1 hF
  refine x_copyI C hP hS hl.1 (lr_11 hL) (lr_24 hL) (lk_11 hL) (lk_24 hL) (ln_11 hL) (ln_24 hL) (by decide +kernel : (4 : Int32).toNatClampNeg = 4) (by decide) (Nat.le_of_ble_eq_true rfl) (Nat.le_of_ble_eq_true rfl)  eσ43 mw_1165 mw_286 mw_287 mw_288 (Nat.le_of_ble_eq_true rfl) (Nat.le_of_ble_eq_true rfl) dX8_takes_145 (fun H locs hP hS => ?_)
  refine lv_aload_n hx hb dX8_takes_148 rfl (lv_at hl 1 rfl) ?_
  refine get_8_11 C hP (lr_1 hL) (lk_1 hL) inlX8 mw_47 (lf_1_11 hL) dX8_takes_149 ?_
  refine lv_iconst (v := 0) hx hb dX8_takes_152 (by decide) ?_
  refine lv_aload_n hx hb dX8_takes_153 rfl (lv_at hl 0 rfl) ?_
  refine get_8_11 C hP (lr_14 hL) (lk_14 hL) inlX8 mw_47 (lf_14_11 hL) dX8_takes_154 ?_
  refine lv_iconst (v := 0) hx hb dX8_takes_157 (by decide) ?_
  refine lv_bipush (v := 8) hx hb dX8_takes_158 (by decide +kernel) ?_
  obtain ⟨σ44, eσ44, hF⟩ := nm_1 hF
  refine x_copyI C hP hS hl.1 (lr_12 hL) (lr_25 hL) (lk_12 hL) (lk_25 hL) (ln_12 hL) (ln_25 hL) (by decide +kernel : (8 : Int32).toNatClampNeg = 8) (by decide) (Nat.le_of_ble_eq_true rfl) (Nat.le_of_ble_eq_true rfl)  eσ44 mw_1165 mw_286 mw_287 mw_288 (Nat.le_of_ble_eq_true rfl) (Nat.le_of_ble_eq_true rfl) dX8_takes_160 (fun H locs hP hS => ?_)
  refine lv_aload_n hx hb dX8_takes_163 rfl (lv_at hl 1 rfl) ?_
  refine get_8_12 C hP (lr_1 hL) (lk_1 hL) inlX8 mw_48 (lf_1_12 hL) dX8_takes_164 ?_
  refine lv_iconst (v := 0) hx hb dX8_takes_167 (by decide) ?_
  refine lv_aload_n hx hb dX8_takes_168 rfl (lv_at hl 0 rfl) ?_
  refine get_8_12 C hP (lr_14 hL) (lk_14 hL) inlX8 mw_48 (lf_14_12 hL) dX8_takes_169 ?_
  refine lv_iconst (v := 0) hx hb dX8_takes_172 (by decide) ?_
  refine lv_bipush (v := 8) hx hb dX8_takes_173 (by decide +kernel) ?_
  obtain ⟨σ45, eσ45, hF⟩ := nm_1 hF
  refine x_copyI C hP hS hl.1 (lr_13 hL) (lr_26 hL) (lk_13 hL) (lk_26 hL) (ln_13 hL) (ln_26 hL) (by decide +kernel : (8 : Int32).toNatClampNeg = 8) (by decide) (Nat.le_of_ble_eq_true rfl) (Nat.le_of_ble_eq_true rfl)  eσ45 mw_1165 mw_286 mw_287 mw_288 (Nat.le_of_ble_eq_true rfl) (Nat.le_of_ble_eq_true rfl) dX8_takes_175 (fun H locs hP hS => ?_)
  obtain ⟨-, rfl, rfl, rfl, rfl, rfl⟩ := ret_T hF
  exact x_cret rfl hEE hAA C hP hS dX8_takes_178
def F_X8_takes_14_1_10_5 (N : Nat) (K len : Nat → Nat) (σ : SG) (ρ : RG) : Option (Unit × TT) :=
  bn (F_X8_cutterAt_1 (5 : Int32) σ ρ) fun o24 =>
  oc o24
   (
    nm (r2 ρ 15 5 none) fun ρ26 =>
    F_X8_takes_14_1_10_6 N K len σ ρ26)
   (fun c25 =>
    gd (isC N K c25) <|
    bnT (F_v_twin c25 N K len σ ρ) fun c46 N46 K46 L46 σ46 ρ46 =>
    nm (r2 ρ46 15 5 (some c46)) fun ρ47 =>
    F_X8_takes_14_1_10_6 N46 K46 L46 σ46 ρ47)
set_option maxHeartbeats 8000000 in
set_option maxRecDepth 100000 in
theorem k_X8_takes_14_1_10_5 {N1 : Nat} {K1 len1 : Nat → Nat} {σ σ1 : SG} {ρ ρ1 : RG} (hL : Lay N K len ρ) (hR : RC N ρ) (hF : F_X8_takes_14_1_10_5 N K len σ ρ = some ((), N1, K1, len1, σ1, ρ1)) : N ≤ N1 ∧ Lay N1 K1 len1 ρ1 ∧ RC N1 ρ1 ∧ (∀ k t : Nat, isO k N K t → isO k N1 K1 t) := by
  unfold F_X8_takes_14_1_10_5 at hF
  have hN0 : 65 ≤ N := hL.1
  have hI : ∀ k t : Nat, isO k N K t → isO k N K t := fun _ _ h => h
  obtain ⟨o24, hq24, hF⟩ := bn_1 hF
  rcases ho25 : o24 with _ | c25
  · have hF := oc_n hF ho25
    obtain ⟨ρ26, eρ26, hF⟩ := nm_1 hF
    have hR : RC N ρ26 := by rw [eρ26]; exact RC_putn hR
    have hL : Lay N K len ρ26 := by rw [eρ26]; exact ly_row hL _ (by decide +kernel)
    exact kb_go (by omega) hI (k_X8_takes_14_1_10_6 hL hR hF)
  · have hF := oc_s hF ho25
    obtain ⟨gc25, hF⟩ := gd_1 hF
    obtain ⟨c46, N46, K46, L46, σ46, ρ46, hq46, hF⟩ := bnT_1 hF
    obtain ⟨hN46, hL46, hR46, hO46, hc46⟩ := kv_twin hL hR gc25 hq46
    have hL := hL46
    have hR := hR46
    have hI := fun k t h => hO46 k t (hI k t h)
    have gc25 : isC N46 K46 c25 = true := isC_mv hO46 gc25
    have gc46 : isC N46 K46 c46 = true := isC_of hc46.1 hc46.2
    obtain ⟨ρ47, eρ47, hF⟩ := nm_1 hF
    have hL : Lay N46 K46 L46 ρ47 := by rw [eρ47]; exact ly_row hL _ (by decide +kernel)
    have hR : RC N46 ρ47 := by rw [eρ47]; exact RC_put hR (isC_r gc46)
    exact kb_go (by omega) hI (k_X8_takes_14_1_10_6 hL hR hF)
set_option maxHeartbeats 8000000 in
set_option maxRecDepth 100000 in
theorem w_X8_takes_14_1_10_5 {p : Program} {e : Env} {s : State} {m : MethodId} {args : Array Value} {below : List Frame} {meth : Method} {c : Code} {H : Heap} {locs : List Loc} {ls : Array Slot} {N0 : Nat} {ad0 : Nat → Nat} {N1 : Nat} {K1 len1 : Nat → Nat} {σ σ1 : SG} {ρ ρ1 : RG} (hEE : ∀ r, r < N0 → ad r = ad0 r) (hAA : AA N ad s.heap.size = AA N0 ad0 s.heap.size) (hNN : N0 ≤ N) (C : Cx Y D N ad p s m args meth c cX8_takes 4 none RX8 wsL_law) (hL : Lay N K len ρ) (hR : RC N ρ) (hF : F_X8_takes_14_1_10_5 N K len σ ρ = some ((), N1, K1, len1, σ1, ρ1)) (hP : WP Y D N ad K len σ ρ H) (hS : va_S (AA N ad s.heap.size) s.heap H locs) (hl : lv_has ls 4 [(0, .ref (ad 14)), (1, .ref (ad 1)), (2, .int (5 : Int32))]) : W p l e rm_X8_takes_14_1 s m args below meth c H locs 10 55 (MQ below (QC Y D N0 ad0 N1 K1 len1 σ1 ρ1 s.heap.size (fun _ => none)) args s 12 66 (AA N0 ad0 s.heap.size)) (F0 m 10 ls []) := by
  have hx := C.1.1
  have hb := C.1.2.1
  have hN0 : 65 ≤ N := hL.1
  unfold F_X8_takes_14_1_10_5 at hF
  refine lv_iload_n hx hb dX8_takes_10 rfl (lv_at hl 2 rfl) ?_
  refine lv_aload_n hx hb dX8_takes_11 rfl (lv_at hl 0 rfl) ?_
  refine get_8_0 C hP (lr_14 hL) (lk_14 hL) inlX8 mw_39 (lf_14_0 hL) dX8_takes_12 ?_
  refine x_alen (v := (6 : Int32)) C hP (lr_15 hL) (lk_15 hL) (by decide) (ln_15 hL) (by decide +kernel) dX8_takes_15 ?_
  refine lv_icmp_ge (tgt := 49) hx hb dX8_takes_16 (by decide) (fun c_23 => absurd c_23 (by decide)) (fun c_23 => ?_)
  refine lv_aload_n hx hb dX8_takes_19 rfl (lv_at hl 1 rfl) ?_
  refine lv_iload_n hx hb dX8_takes_20 rfl (lv_at hl 2 rfl) ?_
  obtain ⟨o24, hq24, hF⟩ := bn_1 hF
  refine x_callV (ci := 8) rfl rfl C hP hS (c_X8_cutterAt_1 hL hq24) (lr_1 hL) (lk_1 hL) (cwV 1 C.1.2.2.2.2 (gdV mw_1166 mw_429 mw_430 mw_14 mw_431) rfl rfl rfl hd_X8_cutterAt ⟨Nat.le_of_ble_eq_true rfl, Nat.le_of_ble_eq_true rfl⟩) rfl rfl hl.1 (Nat.le_of_ble_eq_true rfl) ⟨Nat.le_of_ble_eq_true rfl, Nat.le_of_ble_eq_true rfl⟩ dX8_takes_21 (fun H locs hP hS => ?_)
  rcases ho25 : o24 with _ | c25
  · have hF := oc_n hF ho25
    refine x_n ?_
    refine lv_astore_nN (lv' := [(3, .null), (0, .ref (ad 14)), (1, .ref (ad 1)), (2, .int (5 : Int32))]) hx hb dX8_takes_24 rfl hl (by decide) rfl (fun ls hl => ?_)
    refine lv_aload_n hx hb dX8_takes_25 rfl (lv_at hl 1 rfl) ?_
    refine get_8_0 C hP (lr_14 hL) (lk_14 hL) inlX8 mw_39 (lf_14_0 hL) dX8_takes_26 ?_
    refine lv_iload_n hx hb dX8_takes_29 rfl (lv_at hl 3 rfl) ?_
    refine lv_aload_nN hx hb dX8_takes_30 rfl (lv_at hl 0 rfl) ?_
    refine lv_ifnonnullN hx hb dX8_takes_31 ?_
    refine lv_null hx hb dX8_takes_34 ?_
    refine lv_goto (tgt := 42) hx hb dX8_takes_35 (by decide) ?_
    obtain ⟨ρ26, eρ26, hF⟩ := nm_1 hF
    refine x_aastN (ρ1 := ρ26) C hP hS (lr_15 hL) (lk_15 hL) (ln_15 hL) (by decide +kernel) (by rw [cl_5]; exact eρ26) dX8_takes_42 (fun H locs hP hS => ?_)
    have hR : RC N ρ26 := by rw [eρ26]; exact RC_putn hR
    have hL : Lay N K len ρ26 := by rw [eρ26]; exact ly_row hL _ (by decide +kernel)
    refine lv_iinc (v := 6) (lv' := [(2, .int (6 : Int32)), (3, .null), (0, .ref (ad 14)), (1, .ref (ad 1))]) hx hb dX8_takes_43 hl (k := 3) rfl (by decide) (by decide) rfl (fun ls hl => ?_)
    refine lv_goto (tgt := 10) hx hb dX8_takes_46 (by decide) ?_
    refine W.widen (k := 12) (n := 66) (Nat.le_of_ble_eq_true rfl) (Nat.le_of_ble_eq_true rfl) ?_
    exact x_wb (w_X8_takes_14_1_10_6 hEE hAA (by omega) C hL hR hF hP hS (lv_sub hl [2, 3, 0] rfl))
  · have hF := oc_s hF ho25
    refine x_s ?_
    obtain ⟨gc25, hF⟩ := gd_1 hF
    refine lv_astore_n (lv' := [(3, .ref (ad c25)), (0, .ref (ad 14)), (1, .ref (ad 1)), (2, .int (5 : Int32))]) hx hb dX8_takes_24 rfl hl (by decide) rfl (fun ls hl => ?_)
    refine lv_aload_n hx hb dX8_takes_25 rfl (lv_at hl 1 rfl) ?_
    refine get_8_0 C hP (lr_14 hL) (lk_14 hL) inlX8 mw_39 (lf_14_0 hL) dX8_takes_26 ?_
    refine lv_iload_n hx hb dX8_takes_29 rfl (lv_at hl 3 rfl) ?_
    refine lv_aload_n hx hb dX8_takes_30 rfl (lv_at hl 0 rfl) ?_
    refine lv_ifnonnull (tgt := 38) hx hb dX8_takes_31 (by decide) ?_
    refine lv_aload_n hx hb dX8_takes_38 rfl (lv_at hl 0 rfl) ?_
    obtain ⟨c46, N46, K46, L46, σ46, ρ46, hq46, hF⟩ := bnT_1 hF
    obtain ⟨hN46, hL46, hR46, hO46, hc46⟩ := kv_twin hL hR gc25 hq46
    refine v_twin C hP hS hL hR gc25 hq46 mw_1167 ⟨(Nat.le_of_ble_eq_true rfl), (Nat.le_of_ble_eq_true rfl)⟩ hl.1 (Nat.le_of_ble_eq_true rfl) ⟨(Nat.le_of_ble_eq_true rfl), (Nat.le_of_ble_eq_true rfl)⟩ dX8_takes_39 (fun ad46 H locs hE hA C hP hS => ?_)
    rw [← hE 15 (lr_15 hL)]
    rw [← hE c25 (isC_r gc25)] at hl
    rw [← hE 14 (lr_14 hL)] at hl
    rw [← hE 1 (lr_1 hL)] at hl
    have hEE : ∀ r, r < N0 → ad46 r = ad0 r := fun r h => (hE r (by omega)).trans (hEE r h)
    have hAA := hA.trans hAA
    have hL := hL46
    have hR := hR46
    have gc25 : isC N46 K46 c25 = true := isC_mv hO46 gc25
    have gc46 : isC N46 K46 c46 = true := isC_of hc46.1 hc46.2
    obtain ⟨ρ47, eρ47, hF⟩ := nm_1 hF
    refine x_aastC (ρ1 := ρ47) C hP hS (lr_15 hL) (lk_15 hL) (ln_15 hL) (isC_r gc46) (isC_k gc46) (by decide +kernel) (by rw [cl_5]; exact eρ47) dX8_takes_42 (fun H locs hP hS => ?_)
    have hL : Lay N46 K46 L46 ρ47 := by rw [eρ47]; exact ly_row hL _ (by decide +kernel)
    have hR : RC N46 ρ47 := by rw [eρ47]; exact RC_put hR (isC_r gc46)
    refine lv_iinc (v := 6) (lv' := [(2, .int (6 : Int32)), (3, .ref (ad46 c25)), (0, .ref (ad46 14)), (1, .ref (ad46 1))]) hx hb dX8_takes_43 hl (k := 3) rfl (by decide) (by decide) rfl (fun ls hl => ?_)
    refine lv_goto (tgt := 10) hx hb dX8_takes_46 (by decide) ?_
    exact x_wb (w_X8_takes_14_1_10_6 hEE hAA (by omega) C hL hR hF hP hS (lv_sub hl [2, 3, 0] rfl))
def F_X8_takes_14_1_10_4 (N : Nat) (K len : Nat → Nat) (σ : SG) (ρ : RG) : Option (Unit × TT) :=
  bn (F_X8_cutterAt_1 (4 : Int32) σ ρ) fun o20 =>
  oc o20
   (
    nm (r2 ρ 15 4 none) fun ρ22 =>
    F_X8_takes_14_1_10_5 N K len σ ρ22)
   (fun c21 =>
    gd (isC N K c21) <|
    bnT (F_v_twin c21 N K len σ ρ) fun c48 N48 K48 L48 σ48 ρ48 =>
    nm (r2 ρ48 15 4 (some c48)) fun ρ49 =>
    F_X8_takes_14_1_10_5 N48 K48 L48 σ48 ρ49)
set_option maxHeartbeats 8000000 in
set_option maxRecDepth 100000 in
theorem k_X8_takes_14_1_10_4 {N1 : Nat} {K1 len1 : Nat → Nat} {σ σ1 : SG} {ρ ρ1 : RG} (hL : Lay N K len ρ) (hR : RC N ρ) (hF : F_X8_takes_14_1_10_4 N K len σ ρ = some ((), N1, K1, len1, σ1, ρ1)) : N ≤ N1 ∧ Lay N1 K1 len1 ρ1 ∧ RC N1 ρ1 ∧ (∀ k t : Nat, isO k N K t → isO k N1 K1 t) := by
  unfold F_X8_takes_14_1_10_4 at hF
  have hN0 : 65 ≤ N := hL.1
  have hI : ∀ k t : Nat, isO k N K t → isO k N K t := fun _ _ h => h
  obtain ⟨o20, hq20, hF⟩ := bn_1 hF
  rcases ho21 : o20 with _ | c21
  · have hF := oc_n hF ho21
    obtain ⟨ρ22, eρ22, hF⟩ := nm_1 hF
    have hR : RC N ρ22 := by rw [eρ22]; exact RC_putn hR
    have hL : Lay N K len ρ22 := by rw [eρ22]; exact ly_row hL _ (by decide +kernel)
    exact kb_go (by omega) hI (k_X8_takes_14_1_10_5 hL hR hF)
  · have hF := oc_s hF ho21
    obtain ⟨gc21, hF⟩ := gd_1 hF
    obtain ⟨c48, N48, K48, L48, σ48, ρ48, hq48, hF⟩ := bnT_1 hF
    obtain ⟨hN48, hL48, hR48, hO48, hc48⟩ := kv_twin hL hR gc21 hq48
    have hL := hL48
    have hR := hR48
    have hI := fun k t h => hO48 k t (hI k t h)
    have gc21 : isC N48 K48 c21 = true := isC_mv hO48 gc21
    have gc48 : isC N48 K48 c48 = true := isC_of hc48.1 hc48.2
    obtain ⟨ρ49, eρ49, hF⟩ := nm_1 hF
    have hL : Lay N48 K48 L48 ρ49 := by rw [eρ49]; exact ly_row hL _ (by decide +kernel)
    have hR : RC N48 ρ49 := by rw [eρ49]; exact RC_put hR (isC_r gc48)
    exact kb_go (by omega) hI (k_X8_takes_14_1_10_5 hL hR hF)
set_option maxHeartbeats 8000000 in
set_option maxRecDepth 100000 in
theorem w_X8_takes_14_1_10_4 {p : Program} {e : Env} {s : State} {m : MethodId} {args : Array Value} {below : List Frame} {meth : Method} {c : Code} {H : Heap} {locs : List Loc} {ls : Array Slot} {N0 : Nat} {ad0 : Nat → Nat} {N1 : Nat} {K1 len1 : Nat → Nat} {σ σ1 : SG} {ρ ρ1 : RG} (hEE : ∀ r, r < N0 → ad r = ad0 r) (hAA : AA N ad s.heap.size = AA N0 ad0 s.heap.size) (hNN : N0 ≤ N) (C : Cx Y D N ad p s m args meth c cX8_takes 4 none RX8 wsL_law) (hL : Lay N K len ρ) (hR : RC N ρ) (hF : F_X8_takes_14_1_10_4 N K len σ ρ = some ((), N1, K1, len1, σ1, ρ1)) (hP : WP Y D N ad K len σ ρ H) (hS : va_S (AA N ad s.heap.size) s.heap H locs) (hl : lv_has ls 4 [(0, .ref (ad 14)), (1, .ref (ad 1)), (2, .int (4 : Int32))]) : W p l e rm_X8_takes_14_1 s m args below meth c H locs 8 44 (MQ below (QC Y D N0 ad0 N1 K1 len1 σ1 ρ1 s.heap.size (fun _ => none)) args s 12 66 (AA N0 ad0 s.heap.size)) (F0 m 10 ls []) := by
  have hx := C.1.1
  have hb := C.1.2.1
  have hN0 : 65 ≤ N := hL.1
  unfold F_X8_takes_14_1_10_4 at hF
  refine lv_iload_n hx hb dX8_takes_10 rfl (lv_at hl 2 rfl) ?_
  refine lv_aload_n hx hb dX8_takes_11 rfl (lv_at hl 0 rfl) ?_
  refine get_8_0 C hP (lr_14 hL) (lk_14 hL) inlX8 mw_39 (lf_14_0 hL) dX8_takes_12 ?_
  refine x_alen (v := (6 : Int32)) C hP (lr_15 hL) (lk_15 hL) (by decide) (ln_15 hL) (by decide +kernel) dX8_takes_15 ?_
  refine lv_icmp_ge (tgt := 49) hx hb dX8_takes_16 (by decide) (fun c_19 => absurd c_19 (by decide)) (fun c_19 => ?_)
  refine lv_aload_n hx hb dX8_takes_19 rfl (lv_at hl 1 rfl) ?_
  refine lv_iload_n hx hb dX8_takes_20 rfl (lv_at hl 2 rfl) ?_
  obtain ⟨o20, hq20, hF⟩ := bn_1 hF
  refine x_callV (ci := 8) rfl rfl C hP hS (c_X8_cutterAt_1 hL hq20) (lr_1 hL) (lk_1 hL) (cwV 1 C.1.2.2.2.2 (gdV mw_1166 mw_429 mw_430 mw_14 mw_431) rfl rfl rfl hd_X8_cutterAt ⟨Nat.le_of_ble_eq_true rfl, Nat.le_of_ble_eq_true rfl⟩) rfl rfl hl.1 (Nat.le_of_ble_eq_true rfl) ⟨Nat.le_of_ble_eq_true rfl, Nat.le_of_ble_eq_true rfl⟩ dX8_takes_21 (fun H locs hP hS => ?_)
  rcases ho21 : o20 with _ | c21
  · have hF := oc_n hF ho21
    refine x_n ?_
    refine lv_astore_nN (lv' := [(3, .null), (0, .ref (ad 14)), (1, .ref (ad 1)), (2, .int (4 : Int32))]) hx hb dX8_takes_24 rfl hl (by decide) rfl (fun ls hl => ?_)
    refine lv_aload_n hx hb dX8_takes_25 rfl (lv_at hl 1 rfl) ?_
    refine get_8_0 C hP (lr_14 hL) (lk_14 hL) inlX8 mw_39 (lf_14_0 hL) dX8_takes_26 ?_
    refine lv_iload_n hx hb dX8_takes_29 rfl (lv_at hl 3 rfl) ?_
    refine lv_aload_nN hx hb dX8_takes_30 rfl (lv_at hl 0 rfl) ?_
    refine lv_ifnonnullN hx hb dX8_takes_31 ?_
    refine lv_null hx hb dX8_takes_34 ?_
    refine lv_goto (tgt := 42) hx hb dX8_takes_35 (by decide) ?_
    obtain ⟨ρ22, eρ22, hF⟩ := nm_1 hF
    refine x_aastN (ρ1 := ρ22) C hP hS (lr_15 hL) (lk_15 hL) (ln_15 hL) (by decide +kernel) (by rw [cl_4]; exact eρ22) dX8_takes_42 (fun H locs hP hS => ?_)
    have hR : RC N ρ22 := by rw [eρ22]; exact RC_putn hR
    have hL : Lay N K len ρ22 := by rw [eρ22]; exact ly_row hL _ (by decide +kernel)
    refine lv_iinc (v := 5) (lv' := [(2, .int (5 : Int32)), (3, .null), (0, .ref (ad 14)), (1, .ref (ad 1))]) hx hb dX8_takes_43 hl (k := 3) rfl (by decide) (by decide) rfl (fun ls hl => ?_)
    refine lv_goto (tgt := 10) hx hb dX8_takes_46 (by decide) ?_
    refine W.widen (k := 10) (n := 55) (Nat.le_of_ble_eq_true rfl) (Nat.le_of_ble_eq_true rfl) ?_
    exact x_wb (w_X8_takes_14_1_10_5 hEE hAA (by omega) C hL hR hF hP hS (lv_sub hl [2, 3, 0] rfl))
  · have hF := oc_s hF ho21
    refine x_s ?_
    obtain ⟨gc21, hF⟩ := gd_1 hF
    refine lv_astore_n (lv' := [(3, .ref (ad c21)), (0, .ref (ad 14)), (1, .ref (ad 1)), (2, .int (4 : Int32))]) hx hb dX8_takes_24 rfl hl (by decide) rfl (fun ls hl => ?_)
    refine lv_aload_n hx hb dX8_takes_25 rfl (lv_at hl 1 rfl) ?_
    refine get_8_0 C hP (lr_14 hL) (lk_14 hL) inlX8 mw_39 (lf_14_0 hL) dX8_takes_26 ?_
    refine lv_iload_n hx hb dX8_takes_29 rfl (lv_at hl 3 rfl) ?_
    refine lv_aload_n hx hb dX8_takes_30 rfl (lv_at hl 0 rfl) ?_
    refine lv_ifnonnull (tgt := 38) hx hb dX8_takes_31 (by decide) ?_
    refine lv_aload_n hx hb dX8_takes_38 rfl (lv_at hl 0 rfl) ?_
    obtain ⟨c48, N48, K48, L48, σ48, ρ48, hq48, hF⟩ := bnT_1 hF
    obtain ⟨hN48, hL48, hR48, hO48, hc48⟩ := kv_twin hL hR gc21 hq48
    refine v_twin C hP hS hL hR gc21 hq48 mw_1167 ⟨(Nat.le_of_ble_eq_true rfl), (Nat.le_of_ble_eq_true rfl)⟩ hl.1 (Nat.le_of_ble_eq_true rfl) ⟨(Nat.le_of_ble_eq_true rfl), (Nat.le_of_ble_eq_true rfl)⟩ dX8_takes_39 (fun ad48 H locs hE hA C hP hS => ?_)
    rw [← hE 15 (lr_15 hL)]
    rw [← hE c21 (isC_r gc21)] at hl
    rw [← hE 14 (lr_14 hL)] at hl
    rw [← hE 1 (lr_1 hL)] at hl
    have hEE : ∀ r, r < N0 → ad48 r = ad0 r := fun r h => (hE r (by omega)).trans (hEE r h)
    have hAA := hA.trans hAA
    have hL := hL48
    have hR := hR48
    have gc21 : isC N48 K48 c21 = true := isC_mv hO48 gc21
    have gc48 : isC N48 K48 c48 = true := isC_of hc48.1 hc48.2
    obtain ⟨ρ49, eρ49, hF⟩ := nm_1 hF
    refine x_aastC (ρ1 := ρ49) C hP hS (lr_15 hL) (lk_15 hL) (ln_15 hL) (isC_r gc48) (isC_k gc48) (by decide +kernel) (by rw [cl_4]; exact eρ49) dX8_takes_42 (fun H locs hP hS => ?_)
    have hL : Lay N48 K48 L48 ρ49 := by rw [eρ49]; exact ly_row hL _ (by decide +kernel)
    have hR : RC N48 ρ49 := by rw [eρ49]; exact RC_put hR (isC_r gc48)
    refine lv_iinc (v := 5) (lv' := [(2, .int (5 : Int32)), (3, .ref (ad48 c21)), (0, .ref (ad48 14)), (1, .ref (ad48 1))]) hx hb dX8_takes_43 hl (k := 3) rfl (by decide) (by decide) rfl (fun ls hl => ?_)
    refine lv_goto (tgt := 10) hx hb dX8_takes_46 (by decide) ?_
    exact x_wb (w_X8_takes_14_1_10_5 hEE hAA (by omega) C hL hR hF hP hS (lv_sub hl [2, 3, 0] rfl))
def F_X8_takes_14_1_10_3 (N : Nat) (K len : Nat → Nat) (σ : SG) (ρ : RG) : Option (Unit × TT) :=
  bn (F_X8_cutterAt_1 (3 : Int32) σ ρ) fun o16 =>
  oc o16
   (
    nm (r2 ρ 15 3 none) fun ρ18 =>
    F_X8_takes_14_1_10_4 N K len σ ρ18)
   (fun c17 =>
    gd (isC N K c17) <|
    bnT (F_v_twin c17 N K len σ ρ) fun c50 N50 K50 L50 σ50 ρ50 =>
    nm (r2 ρ50 15 3 (some c50)) fun ρ51 =>
    F_X8_takes_14_1_10_4 N50 K50 L50 σ50 ρ51)
set_option maxHeartbeats 8000000 in
set_option maxRecDepth 100000 in
theorem k_X8_takes_14_1_10_3 {N1 : Nat} {K1 len1 : Nat → Nat} {σ σ1 : SG} {ρ ρ1 : RG} (hL : Lay N K len ρ) (hR : RC N ρ) (hF : F_X8_takes_14_1_10_3 N K len σ ρ = some ((), N1, K1, len1, σ1, ρ1)) : N ≤ N1 ∧ Lay N1 K1 len1 ρ1 ∧ RC N1 ρ1 ∧ (∀ k t : Nat, isO k N K t → isO k N1 K1 t) := by
  unfold F_X8_takes_14_1_10_3 at hF
  have hN0 : 65 ≤ N := hL.1
  have hI : ∀ k t : Nat, isO k N K t → isO k N K t := fun _ _ h => h
  obtain ⟨o16, hq16, hF⟩ := bn_1 hF
  rcases ho17 : o16 with _ | c17
  · have hF := oc_n hF ho17
    obtain ⟨ρ18, eρ18, hF⟩ := nm_1 hF
    have hR : RC N ρ18 := by rw [eρ18]; exact RC_putn hR
    have hL : Lay N K len ρ18 := by rw [eρ18]; exact ly_row hL _ (by decide +kernel)
    exact kb_go (by omega) hI (k_X8_takes_14_1_10_4 hL hR hF)
  · have hF := oc_s hF ho17
    obtain ⟨gc17, hF⟩ := gd_1 hF
    obtain ⟨c50, N50, K50, L50, σ50, ρ50, hq50, hF⟩ := bnT_1 hF
    obtain ⟨hN50, hL50, hR50, hO50, hc50⟩ := kv_twin hL hR gc17 hq50
    have hL := hL50
    have hR := hR50
    have hI := fun k t h => hO50 k t (hI k t h)
    have gc17 : isC N50 K50 c17 = true := isC_mv hO50 gc17
    have gc50 : isC N50 K50 c50 = true := isC_of hc50.1 hc50.2
    obtain ⟨ρ51, eρ51, hF⟩ := nm_1 hF
    have hL : Lay N50 K50 L50 ρ51 := by rw [eρ51]; exact ly_row hL _ (by decide +kernel)
    have hR : RC N50 ρ51 := by rw [eρ51]; exact RC_put hR (isC_r gc50)
    exact kb_go (by omega) hI (k_X8_takes_14_1_10_4 hL hR hF)
set_option maxHeartbeats 8000000 in
set_option maxRecDepth 100000 in
theorem w_X8_takes_14_1_10_3 {p : Program} {e : Env} {s : State} {m : MethodId} {args : Array Value} {below : List Frame} {meth : Method} {c : Code} {H : Heap} {locs : List Loc} {ls : Array Slot} {N0 : Nat} {ad0 : Nat → Nat} {N1 : Nat} {K1 len1 : Nat → Nat} {σ σ1 : SG} {ρ ρ1 : RG} (hEE : ∀ r, r < N0 → ad r = ad0 r) (hAA : AA N ad s.heap.size = AA N0 ad0 s.heap.size) (hNN : N0 ≤ N) (C : Cx Y D N ad p s m args meth c cX8_takes 4 none RX8 wsL_law) (hL : Lay N K len ρ) (hR : RC N ρ) (hF : F_X8_takes_14_1_10_3 N K len σ ρ = some ((), N1, K1, len1, σ1, ρ1)) (hP : WP Y D N ad K len σ ρ H) (hS : va_S (AA N ad s.heap.size) s.heap H locs) (hl : lv_has ls 4 [(0, .ref (ad 14)), (1, .ref (ad 1)), (2, .int (3 : Int32))]) : W p l e rm_X8_takes_14_1 s m args below meth c H locs 6 33 (MQ below (QC Y D N0 ad0 N1 K1 len1 σ1 ρ1 s.heap.size (fun _ => none)) args s 12 66 (AA N0 ad0 s.heap.size)) (F0 m 10 ls []) := by
  have hx := C.1.1
  have hb := C.1.2.1
  have hN0 : 65 ≤ N := hL.1
  unfold F_X8_takes_14_1_10_3 at hF
  refine lv_iload_n hx hb dX8_takes_10 rfl (lv_at hl 2 rfl) ?_
  refine lv_aload_n hx hb dX8_takes_11 rfl (lv_at hl 0 rfl) ?_
  refine get_8_0 C hP (lr_14 hL) (lk_14 hL) inlX8 mw_39 (lf_14_0 hL) dX8_takes_12 ?_
  refine x_alen (v := (6 : Int32)) C hP (lr_15 hL) (lk_15 hL) (by decide) (ln_15 hL) (by decide +kernel) dX8_takes_15 ?_
  refine lv_icmp_ge (tgt := 49) hx hb dX8_takes_16 (by decide) (fun c_15 => absurd c_15 (by decide)) (fun c_15 => ?_)
  refine lv_aload_n hx hb dX8_takes_19 rfl (lv_at hl 1 rfl) ?_
  refine lv_iload_n hx hb dX8_takes_20 rfl (lv_at hl 2 rfl) ?_
  obtain ⟨o16, hq16, hF⟩ := bn_1 hF
  refine x_callV (ci := 8) rfl rfl C hP hS (c_X8_cutterAt_1 hL hq16) (lr_1 hL) (lk_1 hL) (cwV 1 C.1.2.2.2.2 (gdV mw_1166 mw_429 mw_430 mw_14 mw_431) rfl rfl rfl hd_X8_cutterAt ⟨Nat.le_of_ble_eq_true rfl, Nat.le_of_ble_eq_true rfl⟩) rfl rfl hl.1 (Nat.le_of_ble_eq_true rfl) ⟨Nat.le_of_ble_eq_true rfl, Nat.le_of_ble_eq_true rfl⟩ dX8_takes_21 (fun H locs hP hS => ?_)
  rcases ho17 : o16 with _ | c17
  · have hF := oc_n hF ho17
    refine x_n ?_
    refine lv_astore_nN (lv' := [(3, .null), (0, .ref (ad 14)), (1, .ref (ad 1)), (2, .int (3 : Int32))]) hx hb dX8_takes_24 rfl hl (by decide) rfl (fun ls hl => ?_)
    refine lv_aload_n hx hb dX8_takes_25 rfl (lv_at hl 1 rfl) ?_
    refine get_8_0 C hP (lr_14 hL) (lk_14 hL) inlX8 mw_39 (lf_14_0 hL) dX8_takes_26 ?_
    refine lv_iload_n hx hb dX8_takes_29 rfl (lv_at hl 3 rfl) ?_
    refine lv_aload_nN hx hb dX8_takes_30 rfl (lv_at hl 0 rfl) ?_
    refine lv_ifnonnullN hx hb dX8_takes_31 ?_
    refine lv_null hx hb dX8_takes_34 ?_
    refine lv_goto (tgt := 42) hx hb dX8_takes_35 (by decide) ?_
    obtain ⟨ρ18, eρ18, hF⟩ := nm_1 hF
    refine x_aastN (ρ1 := ρ18) C hP hS (lr_15 hL) (lk_15 hL) (ln_15 hL) (by decide +kernel) (by rw [cl_3]; exact eρ18) dX8_takes_42 (fun H locs hP hS => ?_)
    have hR : RC N ρ18 := by rw [eρ18]; exact RC_putn hR
    have hL : Lay N K len ρ18 := by rw [eρ18]; exact ly_row hL _ (by decide +kernel)
    refine lv_iinc (v := 4) (lv' := [(2, .int (4 : Int32)), (3, .null), (0, .ref (ad 14)), (1, .ref (ad 1))]) hx hb dX8_takes_43 hl (k := 3) rfl (by decide) (by decide) rfl (fun ls hl => ?_)
    refine lv_goto (tgt := 10) hx hb dX8_takes_46 (by decide) ?_
    refine W.widen (k := 8) (n := 44) (Nat.le_of_ble_eq_true rfl) (Nat.le_of_ble_eq_true rfl) ?_
    exact x_wb (w_X8_takes_14_1_10_4 hEE hAA (by omega) C hL hR hF hP hS (lv_sub hl [2, 3, 0] rfl))
  · have hF := oc_s hF ho17
    refine x_s ?_
    obtain ⟨gc17, hF⟩ := gd_1 hF
    refine lv_astore_n (lv' := [(3, .ref (ad c17)), (0, .ref (ad 14)), (1, .ref (ad 1)), (2, .int (3 : Int32))]) hx hb dX8_takes_24 rfl hl (by decide) rfl (fun ls hl => ?_)
    refine lv_aload_n hx hb dX8_takes_25 rfl (lv_at hl 1 rfl) ?_
    refine get_8_0 C hP (lr_14 hL) (lk_14 hL) inlX8 mw_39 (lf_14_0 hL) dX8_takes_26 ?_
    refine lv_iload_n hx hb dX8_takes_29 rfl (lv_at hl 3 rfl) ?_
    refine lv_aload_n hx hb dX8_takes_30 rfl (lv_at hl 0 rfl) ?_
    refine lv_ifnonnull (tgt := 38) hx hb dX8_takes_31 (by decide) ?_
    refine lv_aload_n hx hb dX8_takes_38 rfl (lv_at hl 0 rfl) ?_
    obtain ⟨c50, N50, K50, L50, σ50, ρ50, hq50, hF⟩ := bnT_1 hF
    obtain ⟨hN50, hL50, hR50, hO50, hc50⟩ := kv_twin hL hR gc17 hq50
    refine v_twin C hP hS hL hR gc17 hq50 mw_1167 ⟨(Nat.le_of_ble_eq_true rfl), (Nat.le_of_ble_eq_true rfl)⟩ hl.1 (Nat.le_of_ble_eq_true rfl) ⟨(Nat.le_of_ble_eq_true rfl), (Nat.le_of_ble_eq_true rfl)⟩ dX8_takes_39 (fun ad50 H locs hE hA C hP hS => ?_)
    rw [← hE 15 (lr_15 hL)]
    rw [← hE c17 (isC_r gc17)] at hl
    rw [← hE 14 (lr_14 hL)] at hl
    rw [← hE 1 (lr_1 hL)] at hl
    have hEE : ∀ r, r < N0 → ad50 r = ad0 r := fun r h => (hE r (by omega)).trans (hEE r h)
    have hAA := hA.trans hAA
    have hL := hL50
    have hR := hR50
    have gc17 : isC N50 K50 c17 = true := isC_mv hO50 gc17
    have gc50 : isC N50 K50 c50 = true := isC_of hc50.1 hc50.2
    obtain ⟨ρ51, eρ51, hF⟩ := nm_1 hF
    refine x_aastC (ρ1 := ρ51) C hP hS (lr_15 hL) (lk_15 hL) (ln_15 hL) (isC_r gc50) (isC_k gc50) (by decide +kernel) (by rw [cl_3]; exact eρ51) dX8_takes_42 (fun H locs hP hS => ?_)
    have hL : Lay N50 K50 L50 ρ51 := by rw [eρ51]; exact ly_row hL _ (by decide +kernel)
    have hR : RC N50 ρ51 := by rw [eρ51]; exact RC_put hR (isC_r gc50)
    refine lv_iinc (v := 4) (lv' := [(2, .int (4 : Int32)), (3, .ref (ad50 c17)), (0, .ref (ad50 14)), (1, .ref (ad50 1))]) hx hb dX8_takes_43 hl (k := 3) rfl (by decide) (by decide) rfl (fun ls hl => ?_)
    refine lv_goto (tgt := 10) hx hb dX8_takes_46 (by decide) ?_
    exact x_wb (w_X8_takes_14_1_10_4 hEE hAA (by omega) C hL hR hF hP hS (lv_sub hl [2, 3, 0] rfl))
def F_X8_takes_14_1_10_2 (N : Nat) (K len : Nat → Nat) (σ : SG) (ρ : RG) : Option (Unit × TT) :=
  bn (F_X8_cutterAt_1 (2 : Int32) σ ρ) fun o12 =>
  oc o12
   (
    nm (r2 ρ 15 2 none) fun ρ14 =>
    F_X8_takes_14_1_10_3 N K len σ ρ14)
   (fun c13 =>
    gd (isC N K c13) <|
    bnT (F_v_twin c13 N K len σ ρ) fun c52 N52 K52 L52 σ52 ρ52 =>
    nm (r2 ρ52 15 2 (some c52)) fun ρ53 =>
    F_X8_takes_14_1_10_3 N52 K52 L52 σ52 ρ53)
set_option maxHeartbeats 8000000 in
set_option maxRecDepth 100000 in
theorem k_X8_takes_14_1_10_2 {N1 : Nat} {K1 len1 : Nat → Nat} {σ σ1 : SG} {ρ ρ1 : RG} (hL : Lay N K len ρ) (hR : RC N ρ) (hF : F_X8_takes_14_1_10_2 N K len σ ρ = some ((), N1, K1, len1, σ1, ρ1)) : N ≤ N1 ∧ Lay N1 K1 len1 ρ1 ∧ RC N1 ρ1 ∧ (∀ k t : Nat, isO k N K t → isO k N1 K1 t) := by
  unfold F_X8_takes_14_1_10_2 at hF
  have hN0 : 65 ≤ N := hL.1
  have hI : ∀ k t : Nat, isO k N K t → isO k N K t := fun _ _ h => h
  obtain ⟨o12, hq12, hF⟩ := bn_1 hF
  rcases ho13 : o12 with _ | c13
  · have hF := oc_n hF ho13
    obtain ⟨ρ14, eρ14, hF⟩ := nm_1 hF
    have hR : RC N ρ14 := by rw [eρ14]; exact RC_putn hR
    have hL : Lay N K len ρ14 := by rw [eρ14]; exact ly_row hL _ (by decide +kernel)
    exact kb_go (by omega) hI (k_X8_takes_14_1_10_3 hL hR hF)
  · have hF := oc_s hF ho13
    obtain ⟨gc13, hF⟩ := gd_1 hF
    obtain ⟨c52, N52, K52, L52, σ52, ρ52, hq52, hF⟩ := bnT_1 hF
    obtain ⟨hN52, hL52, hR52, hO52, hc52⟩ := kv_twin hL hR gc13 hq52
    have hL := hL52
    have hR := hR52
    have hI := fun k t h => hO52 k t (hI k t h)
    have gc13 : isC N52 K52 c13 = true := isC_mv hO52 gc13
    have gc52 : isC N52 K52 c52 = true := isC_of hc52.1 hc52.2
    obtain ⟨ρ53, eρ53, hF⟩ := nm_1 hF
    have hL : Lay N52 K52 L52 ρ53 := by rw [eρ53]; exact ly_row hL _ (by decide +kernel)
    have hR : RC N52 ρ53 := by rw [eρ53]; exact RC_put hR (isC_r gc52)
    exact kb_go (by omega) hI (k_X8_takes_14_1_10_3 hL hR hF)
set_option maxHeartbeats 8000000 in
set_option maxRecDepth 100000 in
theorem w_X8_takes_14_1_10_2 {p : Program} {e : Env} {s : State} {m : MethodId} {args : Array Value} {below : List Frame} {meth : Method} {c : Code} {H : Heap} {locs : List Loc} {ls : Array Slot} {N0 : Nat} {ad0 : Nat → Nat} {N1 : Nat} {K1 len1 : Nat → Nat} {σ σ1 : SG} {ρ ρ1 : RG} (hEE : ∀ r, r < N0 → ad r = ad0 r) (hAA : AA N ad s.heap.size = AA N0 ad0 s.heap.size) (hNN : N0 ≤ N) (C : Cx Y D N ad p s m args meth c cX8_takes 4 none RX8 wsL_law) (hL : Lay N K len ρ) (hR : RC N ρ) (hF : F_X8_takes_14_1_10_2 N K len σ ρ = some ((), N1, K1, len1, σ1, ρ1)) (hP : WP Y D N ad K len σ ρ H) (hS : va_S (AA N ad s.heap.size) s.heap H locs) (hl : lv_has ls 4 [(0, .ref (ad 14)), (1, .ref (ad 1)), (2, .int (2 : Int32))]) : W p l e rm_X8_takes_14_1 s m args below meth c H locs 4 22 (MQ below (QC Y D N0 ad0 N1 K1 len1 σ1 ρ1 s.heap.size (fun _ => none)) args s 12 66 (AA N0 ad0 s.heap.size)) (F0 m 10 ls []) := by
  have hx := C.1.1
  have hb := C.1.2.1
  have hN0 : 65 ≤ N := hL.1
  unfold F_X8_takes_14_1_10_2 at hF
  refine lv_iload_n hx hb dX8_takes_10 rfl (lv_at hl 2 rfl) ?_
  refine lv_aload_n hx hb dX8_takes_11 rfl (lv_at hl 0 rfl) ?_
  refine get_8_0 C hP (lr_14 hL) (lk_14 hL) inlX8 mw_39 (lf_14_0 hL) dX8_takes_12 ?_
  refine x_alen (v := (6 : Int32)) C hP (lr_15 hL) (lk_15 hL) (by decide) (ln_15 hL) (by decide +kernel) dX8_takes_15 ?_
  refine lv_icmp_ge (tgt := 49) hx hb dX8_takes_16 (by decide) (fun c_11 => absurd c_11 (by decide)) (fun c_11 => ?_)
  refine lv_aload_n hx hb dX8_takes_19 rfl (lv_at hl 1 rfl) ?_
  refine lv_iload_n hx hb dX8_takes_20 rfl (lv_at hl 2 rfl) ?_
  obtain ⟨o12, hq12, hF⟩ := bn_1 hF
  refine x_callV (ci := 8) rfl rfl C hP hS (c_X8_cutterAt_1 hL hq12) (lr_1 hL) (lk_1 hL) (cwV 1 C.1.2.2.2.2 (gdV mw_1166 mw_429 mw_430 mw_14 mw_431) rfl rfl rfl hd_X8_cutterAt ⟨Nat.le_of_ble_eq_true rfl, Nat.le_of_ble_eq_true rfl⟩) rfl rfl hl.1 (Nat.le_of_ble_eq_true rfl) ⟨Nat.le_of_ble_eq_true rfl, Nat.le_of_ble_eq_true rfl⟩ dX8_takes_21 (fun H locs hP hS => ?_)
  rcases ho13 : o12 with _ | c13
  · have hF := oc_n hF ho13
    refine x_n ?_
    refine lv_astore_nN (lv' := [(3, .null), (0, .ref (ad 14)), (1, .ref (ad 1)), (2, .int (2 : Int32))]) hx hb dX8_takes_24 rfl hl (by decide) rfl (fun ls hl => ?_)
    refine lv_aload_n hx hb dX8_takes_25 rfl (lv_at hl 1 rfl) ?_
    refine get_8_0 C hP (lr_14 hL) (lk_14 hL) inlX8 mw_39 (lf_14_0 hL) dX8_takes_26 ?_
    refine lv_iload_n hx hb dX8_takes_29 rfl (lv_at hl 3 rfl) ?_
    refine lv_aload_nN hx hb dX8_takes_30 rfl (lv_at hl 0 rfl) ?_
    refine lv_ifnonnullN hx hb dX8_takes_31 ?_
    refine lv_null hx hb dX8_takes_34 ?_
    refine lv_goto (tgt := 42) hx hb dX8_takes_35 (by decide) ?_
    obtain ⟨ρ14, eρ14, hF⟩ := nm_1 hF
    refine x_aastN (ρ1 := ρ14) C hP hS (lr_15 hL) (lk_15 hL) (ln_15 hL) (by decide +kernel) (by rw [cl_2]; exact eρ14) dX8_takes_42 (fun H locs hP hS => ?_)
    have hR : RC N ρ14 := by rw [eρ14]; exact RC_putn hR
    have hL : Lay N K len ρ14 := by rw [eρ14]; exact ly_row hL _ (by decide +kernel)
    refine lv_iinc (v := 3) (lv' := [(2, .int (3 : Int32)), (3, .null), (0, .ref (ad 14)), (1, .ref (ad 1))]) hx hb dX8_takes_43 hl (k := 3) rfl (by decide) (by decide) rfl (fun ls hl => ?_)
    refine lv_goto (tgt := 10) hx hb dX8_takes_46 (by decide) ?_
    refine W.widen (k := 6) (n := 33) (Nat.le_of_ble_eq_true rfl) (Nat.le_of_ble_eq_true rfl) ?_
    exact x_wb (w_X8_takes_14_1_10_3 hEE hAA (by omega) C hL hR hF hP hS (lv_sub hl [2, 3, 0] rfl))
  · have hF := oc_s hF ho13
    refine x_s ?_
    obtain ⟨gc13, hF⟩ := gd_1 hF
    refine lv_astore_n (lv' := [(3, .ref (ad c13)), (0, .ref (ad 14)), (1, .ref (ad 1)), (2, .int (2 : Int32))]) hx hb dX8_takes_24 rfl hl (by decide) rfl (fun ls hl => ?_)
    refine lv_aload_n hx hb dX8_takes_25 rfl (lv_at hl 1 rfl) ?_
    refine get_8_0 C hP (lr_14 hL) (lk_14 hL) inlX8 mw_39 (lf_14_0 hL) dX8_takes_26 ?_
    refine lv_iload_n hx hb dX8_takes_29 rfl (lv_at hl 3 rfl) ?_
    refine lv_aload_n hx hb dX8_takes_30 rfl (lv_at hl 0 rfl) ?_
    refine lv_ifnonnull (tgt := 38) hx hb dX8_takes_31 (by decide) ?_
    refine lv_aload_n hx hb dX8_takes_38 rfl (lv_at hl 0 rfl) ?_
    obtain ⟨c52, N52, K52, L52, σ52, ρ52, hq52, hF⟩ := bnT_1 hF
    obtain ⟨hN52, hL52, hR52, hO52, hc52⟩ := kv_twin hL hR gc13 hq52
    refine v_twin C hP hS hL hR gc13 hq52 mw_1167 ⟨(Nat.le_of_ble_eq_true rfl), (Nat.le_of_ble_eq_true rfl)⟩ hl.1 (Nat.le_of_ble_eq_true rfl) ⟨(Nat.le_of_ble_eq_true rfl), (Nat.le_of_ble_eq_true rfl)⟩ dX8_takes_39 (fun ad52 H locs hE hA C hP hS => ?_)
    rw [← hE 15 (lr_15 hL)]
    rw [← hE c13 (isC_r gc13)] at hl
    rw [← hE 14 (lr_14 hL)] at hl
    rw [← hE 1 (lr_1 hL)] at hl
    have hEE : ∀ r, r < N0 → ad52 r = ad0 r := fun r h => (hE r (by omega)).trans (hEE r h)
    have hAA := hA.trans hAA
    have hL := hL52
    have hR := hR52
    have gc13 : isC N52 K52 c13 = true := isC_mv hO52 gc13
    have gc52 : isC N52 K52 c52 = true := isC_of hc52.1 hc52.2
    obtain ⟨ρ53, eρ53, hF⟩ := nm_1 hF
    refine x_aastC (ρ1 := ρ53) C hP hS (lr_15 hL) (lk_15 hL) (ln_15 hL) (isC_r gc52) (isC_k gc52) (by decide +kernel) (by rw [cl_2]; exact eρ53) dX8_takes_42 (fun H locs hP hS => ?_)
    have hL : Lay N52 K52 L52 ρ53 := by rw [eρ53]; exact ly_row hL _ (by decide +kernel)
    have hR : RC N52 ρ53 := by rw [eρ53]; exact RC_put hR (isC_r gc52)
    refine lv_iinc (v := 3) (lv' := [(2, .int (3 : Int32)), (3, .ref (ad52 c13)), (0, .ref (ad52 14)), (1, .ref (ad52 1))]) hx hb dX8_takes_43 hl (k := 3) rfl (by decide) (by decide) rfl (fun ls hl => ?_)
    refine lv_goto (tgt := 10) hx hb dX8_takes_46 (by decide) ?_
    exact x_wb (w_X8_takes_14_1_10_3 hEE hAA (by omega) C hL hR hF hP hS (lv_sub hl [2, 3, 0] rfl))
def F_X8_takes_14_1_10_1 (N : Nat) (K len : Nat → Nat) (σ : SG) (ρ : RG) : Option (Unit × TT) :=
  bn (F_X8_cutterAt_1 (1 : Int32) σ ρ) fun o8 =>
  oc o8
   (
    nm (r2 ρ 15 1 none) fun ρ10 =>
    F_X8_takes_14_1_10_2 N K len σ ρ10)
   (fun c9 =>
    gd (isC N K c9) <|
    bnT (F_v_twin c9 N K len σ ρ) fun c54 N54 K54 L54 σ54 ρ54 =>
    nm (r2 ρ54 15 1 (some c54)) fun ρ55 =>
    F_X8_takes_14_1_10_2 N54 K54 L54 σ54 ρ55)
set_option maxHeartbeats 8000000 in
set_option maxRecDepth 100000 in
theorem k_X8_takes_14_1_10_1 {N1 : Nat} {K1 len1 : Nat → Nat} {σ σ1 : SG} {ρ ρ1 : RG} (hL : Lay N K len ρ) (hR : RC N ρ) (hF : F_X8_takes_14_1_10_1 N K len σ ρ = some ((), N1, K1, len1, σ1, ρ1)) : N ≤ N1 ∧ Lay N1 K1 len1 ρ1 ∧ RC N1 ρ1 ∧ (∀ k t : Nat, isO k N K t → isO k N1 K1 t) := by
  unfold F_X8_takes_14_1_10_1 at hF
  have hN0 : 65 ≤ N := hL.1
  have hI : ∀ k t : Nat, isO k N K t → isO k N K t := fun _ _ h => h
  obtain ⟨o8, hq8, hF⟩ := bn_1 hF
  rcases ho9 : o8 with _ | c9
  · have hF := oc_n hF ho9
    obtain ⟨ρ10, eρ10, hF⟩ := nm_1 hF
    have hR : RC N ρ10 := by rw [eρ10]; exact RC_putn hR
    have hL : Lay N K len ρ10 := by rw [eρ10]; exact ly_row hL _ (by decide +kernel)
    exact kb_go (by omega) hI (k_X8_takes_14_1_10_2 hL hR hF)
  · have hF := oc_s hF ho9
    obtain ⟨gc9, hF⟩ := gd_1 hF
    obtain ⟨c54, N54, K54, L54, σ54, ρ54, hq54, hF⟩ := bnT_1 hF
    obtain ⟨hN54, hL54, hR54, hO54, hc54⟩ := kv_twin hL hR gc9 hq54
    have hL := hL54
    have hR := hR54
    have hI := fun k t h => hO54 k t (hI k t h)
    have gc9 : isC N54 K54 c9 = true := isC_mv hO54 gc9
    have gc54 : isC N54 K54 c54 = true := isC_of hc54.1 hc54.2
    obtain ⟨ρ55, eρ55, hF⟩ := nm_1 hF
    have hL : Lay N54 K54 L54 ρ55 := by rw [eρ55]; exact ly_row hL _ (by decide +kernel)
    have hR : RC N54 ρ55 := by rw [eρ55]; exact RC_put hR (isC_r gc54)
    exact kb_go (by omega) hI (k_X8_takes_14_1_10_2 hL hR hF)
set_option maxHeartbeats 8000000 in
set_option maxRecDepth 100000 in
theorem w_X8_takes_14_1_10_1 {p : Program} {e : Env} {s : State} {m : MethodId} {args : Array Value} {below : List Frame} {meth : Method} {c : Code} {H : Heap} {locs : List Loc} {ls : Array Slot} {N0 : Nat} {ad0 : Nat → Nat} {N1 : Nat} {K1 len1 : Nat → Nat} {σ σ1 : SG} {ρ ρ1 : RG} (hEE : ∀ r, r < N0 → ad r = ad0 r) (hAA : AA N ad s.heap.size = AA N0 ad0 s.heap.size) (hNN : N0 ≤ N) (C : Cx Y D N ad p s m args meth c cX8_takes 4 none RX8 wsL_law) (hL : Lay N K len ρ) (hR : RC N ρ) (hF : F_X8_takes_14_1_10_1 N K len σ ρ = some ((), N1, K1, len1, σ1, ρ1)) (hP : WP Y D N ad K len σ ρ H) (hS : va_S (AA N ad s.heap.size) s.heap H locs) (hl : lv_has ls 4 [(0, .ref (ad 14)), (1, .ref (ad 1)), (2, .int (1 : Int32))]) : W p l e rm_X8_takes_14_1 s m args below meth c H locs 2 11 (MQ below (QC Y D N0 ad0 N1 K1 len1 σ1 ρ1 s.heap.size (fun _ => none)) args s 12 66 (AA N0 ad0 s.heap.size)) (F0 m 10 ls []) := by
  have hx := C.1.1
  have hb := C.1.2.1
  have hN0 : 65 ≤ N := hL.1
  unfold F_X8_takes_14_1_10_1 at hF
  refine lv_iload_n hx hb dX8_takes_10 rfl (lv_at hl 2 rfl) ?_
  refine lv_aload_n hx hb dX8_takes_11 rfl (lv_at hl 0 rfl) ?_
  refine get_8_0 C hP (lr_14 hL) (lk_14 hL) inlX8 mw_39 (lf_14_0 hL) dX8_takes_12 ?_
  refine x_alen (v := (6 : Int32)) C hP (lr_15 hL) (lk_15 hL) (by decide) (ln_15 hL) (by decide +kernel) dX8_takes_15 ?_
  refine lv_icmp_ge (tgt := 49) hx hb dX8_takes_16 (by decide) (fun c_7 => absurd c_7 (by decide)) (fun c_7 => ?_)
  refine lv_aload_n hx hb dX8_takes_19 rfl (lv_at hl 1 rfl) ?_
  refine lv_iload_n hx hb dX8_takes_20 rfl (lv_at hl 2 rfl) ?_
  obtain ⟨o8, hq8, hF⟩ := bn_1 hF
  refine x_callV (ci := 8) rfl rfl C hP hS (c_X8_cutterAt_1 hL hq8) (lr_1 hL) (lk_1 hL) (cwV 1 C.1.2.2.2.2 (gdV mw_1166 mw_429 mw_430 mw_14 mw_431) rfl rfl rfl hd_X8_cutterAt ⟨Nat.le_of_ble_eq_true rfl, Nat.le_of_ble_eq_true rfl⟩) rfl rfl hl.1 (Nat.le_of_ble_eq_true rfl) ⟨Nat.le_of_ble_eq_true rfl, Nat.le_of_ble_eq_true rfl⟩ dX8_takes_21 (fun H locs hP hS => ?_)
  rcases ho9 : o8 with _ | c9
  · have hF := oc_n hF ho9
    refine x_n ?_
    refine lv_astore_nN (lv' := [(3, .null), (0, .ref (ad 14)), (1, .ref (ad 1)), (2, .int (1 : Int32))]) hx hb dX8_takes_24 rfl hl (by decide) rfl (fun ls hl => ?_)
    refine lv_aload_n hx hb dX8_takes_25 rfl (lv_at hl 1 rfl) ?_
    refine get_8_0 C hP (lr_14 hL) (lk_14 hL) inlX8 mw_39 (lf_14_0 hL) dX8_takes_26 ?_
    refine lv_iload_n hx hb dX8_takes_29 rfl (lv_at hl 3 rfl) ?_
    refine lv_aload_nN hx hb dX8_takes_30 rfl (lv_at hl 0 rfl) ?_
    refine lv_ifnonnullN hx hb dX8_takes_31 ?_
    refine lv_null hx hb dX8_takes_34 ?_
    refine lv_goto (tgt := 42) hx hb dX8_takes_35 (by decide) ?_
    obtain ⟨ρ10, eρ10, hF⟩ := nm_1 hF
    refine x_aastN (ρ1 := ρ10) C hP hS (lr_15 hL) (lk_15 hL) (ln_15 hL) (by decide +kernel) (by rw [cl_1]; exact eρ10) dX8_takes_42 (fun H locs hP hS => ?_)
    have hR : RC N ρ10 := by rw [eρ10]; exact RC_putn hR
    have hL : Lay N K len ρ10 := by rw [eρ10]; exact ly_row hL _ (by decide +kernel)
    refine lv_iinc (v := 2) (lv' := [(2, .int (2 : Int32)), (3, .null), (0, .ref (ad 14)), (1, .ref (ad 1))]) hx hb dX8_takes_43 hl (k := 3) rfl (by decide) (by decide) rfl (fun ls hl => ?_)
    refine lv_goto (tgt := 10) hx hb dX8_takes_46 (by decide) ?_
    refine W.widen (k := 4) (n := 22) (Nat.le_of_ble_eq_true rfl) (Nat.le_of_ble_eq_true rfl) ?_
    exact x_wb (w_X8_takes_14_1_10_2 hEE hAA (by omega) C hL hR hF hP hS (lv_sub hl [2, 3, 0] rfl))
  · have hF := oc_s hF ho9
    refine x_s ?_
    obtain ⟨gc9, hF⟩ := gd_1 hF
    refine lv_astore_n (lv' := [(3, .ref (ad c9)), (0, .ref (ad 14)), (1, .ref (ad 1)), (2, .int (1 : Int32))]) hx hb dX8_takes_24 rfl hl (by decide) rfl (fun ls hl => ?_)
    refine lv_aload_n hx hb dX8_takes_25 rfl (lv_at hl 1 rfl) ?_
    refine get_8_0 C hP (lr_14 hL) (lk_14 hL) inlX8 mw_39 (lf_14_0 hL) dX8_takes_26 ?_
    refine lv_iload_n hx hb dX8_takes_29 rfl (lv_at hl 3 rfl) ?_
    refine lv_aload_n hx hb dX8_takes_30 rfl (lv_at hl 0 rfl) ?_
    refine lv_ifnonnull (tgt := 38) hx hb dX8_takes_31 (by decide) ?_
    refine lv_aload_n hx hb dX8_takes_38 rfl (lv_at hl 0 rfl) ?_
    obtain ⟨c54, N54, K54, L54, σ54, ρ54, hq54, hF⟩ := bnT_1 hF
    obtain ⟨hN54, hL54, hR54, hO54, hc54⟩ := kv_twin hL hR gc9 hq54
    refine v_twin C hP hS hL hR gc9 hq54 mw_1167 ⟨(Nat.le_of_ble_eq_true rfl), (Nat.le_of_ble_eq_true rfl)⟩ hl.1 (Nat.le_of_ble_eq_true rfl) ⟨(Nat.le_of_ble_eq_true rfl), (Nat.le_of_ble_eq_true rfl)⟩ dX8_takes_39 (fun ad54 H locs hE hA C hP hS => ?_)
    rw [← hE 15 (lr_15 hL)]
    rw [← hE c9 (isC_r gc9)] at hl
    rw [← hE 14 (lr_14 hL)] at hl
    rw [← hE 1 (lr_1 hL)] at hl
    have hEE : ∀ r, r < N0 → ad54 r = ad0 r := fun r h => (hE r (by omega)).trans (hEE r h)
    have hAA := hA.trans hAA
    have hL := hL54
    have hR := hR54
    have gc9 : isC N54 K54 c9 = true := isC_mv hO54 gc9
    have gc54 : isC N54 K54 c54 = true := isC_of hc54.1 hc54.2
    obtain ⟨ρ55, eρ55, hF⟩ := nm_1 hF
    refine x_aastC (ρ1 := ρ55) C hP hS (lr_15 hL) (lk_15 hL) (ln_15 hL) (isC_r gc54) (isC_k gc54) (by decide +kernel) (by rw [cl_1]; exact eρ55) dX8_takes_42 (fun H locs hP hS => ?_)
    have hL : Lay N54 K54 L54 ρ55 := by rw [eρ55]; exact ly_row hL _ (by decide +kernel)
    have hR : RC N54 ρ55 := by rw [eρ55]; exact RC_put hR (isC_r gc54)
    refine lv_iinc (v := 2) (lv' := [(2, .int (2 : Int32)), (3, .ref (ad54 c9)), (0, .ref (ad54 14)), (1, .ref (ad54 1))]) hx hb dX8_takes_43 hl (k := 3) rfl (by decide) (by decide) rfl (fun ls hl => ?_)
    refine lv_goto (tgt := 10) hx hb dX8_takes_46 (by decide) ?_
    exact x_wb (w_X8_takes_14_1_10_2 hEE hAA (by omega) C hL hR hF hP hS (lv_sub hl [2, 3, 0] rfl))
def F_X8_takes_14_1_10_0 (N : Nat) (K len : Nat → Nat) (σ : SG) (ρ : RG) : Option (Unit × TT) :=
  bn (F_X8_cutterAt_1 (0 : Int32) σ ρ) fun o4 =>
  oc o4
   (
    nm (r2 ρ 15 0 none) fun ρ6 =>
    F_X8_takes_14_1_10_1 N K len σ ρ6)
   (fun c5 =>
    gd (isC N K c5) <|
    bnT (F_v_twin c5 N K len σ ρ) fun c56 N56 K56 L56 σ56 ρ56 =>
    nm (r2 ρ56 15 0 (some c56)) fun ρ57 =>
    F_X8_takes_14_1_10_1 N56 K56 L56 σ56 ρ57)
set_option maxHeartbeats 8000000 in
set_option maxRecDepth 100000 in
theorem k_X8_takes_14_1_10_0 {N1 : Nat} {K1 len1 : Nat → Nat} {σ σ1 : SG} {ρ ρ1 : RG} (hL : Lay N K len ρ) (hR : RC N ρ) (hF : F_X8_takes_14_1_10_0 N K len σ ρ = some ((), N1, K1, len1, σ1, ρ1)) : N ≤ N1 ∧ Lay N1 K1 len1 ρ1 ∧ RC N1 ρ1 ∧ (∀ k t : Nat, isO k N K t → isO k N1 K1 t) := by
  unfold F_X8_takes_14_1_10_0 at hF
  have hN0 : 65 ≤ N := hL.1
  have hI : ∀ k t : Nat, isO k N K t → isO k N K t := fun _ _ h => h
  obtain ⟨o4, hq4, hF⟩ := bn_1 hF
  rcases ho5 : o4 with _ | c5
  · have hF := oc_n hF ho5
    obtain ⟨ρ6, eρ6, hF⟩ := nm_1 hF
    have hR : RC N ρ6 := by rw [eρ6]; exact RC_putn hR
    have hL : Lay N K len ρ6 := by rw [eρ6]; exact ly_row hL _ (by decide +kernel)
    exact kb_go (by omega) hI (k_X8_takes_14_1_10_1 hL hR hF)
  · have hF := oc_s hF ho5
    obtain ⟨gc5, hF⟩ := gd_1 hF
    obtain ⟨c56, N56, K56, L56, σ56, ρ56, hq56, hF⟩ := bnT_1 hF
    obtain ⟨hN56, hL56, hR56, hO56, hc56⟩ := kv_twin hL hR gc5 hq56
    have hL := hL56
    have hR := hR56
    have hI := fun k t h => hO56 k t (hI k t h)
    have gc5 : isC N56 K56 c5 = true := isC_mv hO56 gc5
    have gc56 : isC N56 K56 c56 = true := isC_of hc56.1 hc56.2
    obtain ⟨ρ57, eρ57, hF⟩ := nm_1 hF
    have hL : Lay N56 K56 L56 ρ57 := by rw [eρ57]; exact ly_row hL _ (by decide +kernel)
    have hR : RC N56 ρ57 := by rw [eρ57]; exact RC_put hR (isC_r gc56)
    exact kb_go (by omega) hI (k_X8_takes_14_1_10_1 hL hR hF)
set_option maxHeartbeats 8000000 in
set_option maxRecDepth 100000 in
theorem w_X8_takes_14_1_10_0 {p : Program} {e : Env} {s : State} {m : MethodId} {args : Array Value} {below : List Frame} {meth : Method} {c : Code} {H : Heap} {locs : List Loc} {ls : Array Slot} {N0 : Nat} {ad0 : Nat → Nat} {N1 : Nat} {K1 len1 : Nat → Nat} {σ σ1 : SG} {ρ ρ1 : RG} (hEE : ∀ r, r < N0 → ad r = ad0 r) (hAA : AA N ad s.heap.size = AA N0 ad0 s.heap.size) (hNN : N0 ≤ N) (C : Cx Y D N ad p s m args meth c cX8_takes 4 none RX8 wsL_law) (hL : Lay N K len ρ) (hR : RC N ρ) (hF : F_X8_takes_14_1_10_0 N K len σ ρ = some ((), N1, K1, len1, σ1, ρ1)) (hP : WP Y D N ad K len σ ρ H) (hS : va_S (AA N ad s.heap.size) s.heap H locs) (hl : lv_has ls 4 [(0, .ref (ad 14)), (1, .ref (ad 1)), (2, .int (0 : Int32))]) : W p l e rm_X8_takes_14_1 s m args below meth c H locs 0 0 (MQ below (QC Y D N0 ad0 N1 K1 len1 σ1 ρ1 s.heap.size (fun _ => none)) args s 12 66 (AA N0 ad0 s.heap.size)) (F0 m 10 ls []) := by
  have hx := C.1.1
  have hb := C.1.2.1
  have hN0 : 65 ≤ N := hL.1
  unfold F_X8_takes_14_1_10_0 at hF
  refine lv_iload_n hx hb dX8_takes_10 rfl (lv_at hl 2 rfl) ?_
  refine lv_aload_n hx hb dX8_takes_11 rfl (lv_at hl 0 rfl) ?_
  refine get_8_0 C hP (lr_14 hL) (lk_14 hL) inlX8 mw_39 (lf_14_0 hL) dX8_takes_12 ?_
  refine x_alen (v := (6 : Int32)) C hP (lr_15 hL) (lk_15 hL) (by decide) (ln_15 hL) (by decide +kernel) dX8_takes_15 ?_
  refine lv_icmp_ge (tgt := 49) hx hb dX8_takes_16 (by decide) (fun c_3 => absurd c_3 (by decide)) (fun c_3 => ?_)
  refine lv_aload_n hx hb dX8_takes_19 rfl (lv_at hl 1 rfl) ?_
  refine lv_iload_n hx hb dX8_takes_20 rfl (lv_at hl 2 rfl) ?_
  obtain ⟨o4, hq4, hF⟩ := bn_1 hF
  refine x_callV (ci := 8) rfl rfl C hP hS (c_X8_cutterAt_1 hL hq4) (lr_1 hL) (lk_1 hL) (cwV 1 C.1.2.2.2.2 (gdV mw_1166 mw_429 mw_430 mw_14 mw_431) rfl rfl rfl hd_X8_cutterAt ⟨Nat.le_of_ble_eq_true rfl, Nat.le_of_ble_eq_true rfl⟩) rfl rfl hl.1 (Nat.le_of_ble_eq_true rfl) ⟨Nat.le_of_ble_eq_true rfl, Nat.le_of_ble_eq_true rfl⟩ dX8_takes_21 (fun H locs hP hS => ?_)
  rcases ho5 : o4 with _ | c5
  · have hF := oc_n hF ho5
    refine x_n ?_
    refine lv_astore_nN (lv' := [(3, .null), (0, .ref (ad 14)), (1, .ref (ad 1)), (2, .int (0 : Int32))]) hx hb dX8_takes_24 rfl hl (by decide) rfl (fun ls hl => ?_)
    refine lv_aload_n hx hb dX8_takes_25 rfl (lv_at hl 1 rfl) ?_
    refine get_8_0 C hP (lr_14 hL) (lk_14 hL) inlX8 mw_39 (lf_14_0 hL) dX8_takes_26 ?_
    refine lv_iload_n hx hb dX8_takes_29 rfl (lv_at hl 3 rfl) ?_
    refine lv_aload_nN hx hb dX8_takes_30 rfl (lv_at hl 0 rfl) ?_
    refine lv_ifnonnullN hx hb dX8_takes_31 ?_
    refine lv_null hx hb dX8_takes_34 ?_
    refine lv_goto (tgt := 42) hx hb dX8_takes_35 (by decide) ?_
    obtain ⟨ρ6, eρ6, hF⟩ := nm_1 hF
    refine x_aastN (ρ1 := ρ6) C hP hS (lr_15 hL) (lk_15 hL) (ln_15 hL) (by decide +kernel) (by rw [cl_0]; exact eρ6) dX8_takes_42 (fun H locs hP hS => ?_)
    have hR : RC N ρ6 := by rw [eρ6]; exact RC_putn hR
    have hL : Lay N K len ρ6 := by rw [eρ6]; exact ly_row hL _ (by decide +kernel)
    refine lv_iinc (v := 1) (lv' := [(2, .int (1 : Int32)), (3, .null), (0, .ref (ad 14)), (1, .ref (ad 1))]) hx hb dX8_takes_43 hl (k := 3) rfl (by decide) (by decide) rfl (fun ls hl => ?_)
    refine lv_goto (tgt := 10) hx hb dX8_takes_46 (by decide) ?_
    refine W.widen (k := 2) (n := 11) (Nat.le_of_ble_eq_true rfl) (Nat.le_of_ble_eq_true rfl) ?_
    exact x_wb (w_X8_takes_14_1_10_1 hEE hAA (by omega) C hL hR hF hP hS (lv_sub hl [2, 3, 0] rfl))
  · have hF := oc_s hF ho5
    refine x_s ?_
    obtain ⟨gc5, hF⟩ := gd_1 hF
    refine lv_astore_n (lv' := [(3, .ref (ad c5)), (0, .ref (ad 14)), (1, .ref (ad 1)), (2, .int (0 : Int32))]) hx hb dX8_takes_24 rfl hl (by decide) rfl (fun ls hl => ?_)
    refine lv_aload_n hx hb dX8_takes_25 rfl (lv_at hl 1 rfl) ?_
    refine get_8_0 C hP (lr_14 hL) (lk_14 hL) inlX8 mw_39 (lf_14_0 hL) dX8_takes_26 ?_
    refine lv_iload_n hx hb dX8_takes_29 rfl (lv_at hl 3 rfl) ?_
    refine lv_aload_n hx hb dX8_takes_30 rfl (lv_at hl 0 rfl) ?_
    refine lv_ifnonnull (tgt := 38) hx hb dX8_takes_31 (by decide) ?_
    refine lv_aload_n hx hb dX8_takes_38 rfl (lv_at hl 0 rfl) ?_
    obtain ⟨c56, N56, K56, L56, σ56, ρ56, hq56, hF⟩ := bnT_1 hF
    obtain ⟨hN56, hL56, hR56, hO56, hc56⟩ := kv_twin hL hR gc5 hq56
    refine v_twin C hP hS hL hR gc5 hq56 mw_1167 ⟨(Nat.le_of_ble_eq_true rfl), (Nat.le_of_ble_eq_true rfl)⟩ hl.1 (Nat.le_of_ble_eq_true rfl) ⟨(Nat.le_of_ble_eq_true rfl), (Nat.le_of_ble_eq_true rfl)⟩ dX8_takes_39 (fun ad56 H locs hE hA C hP hS => ?_)
    rw [← hE 15 (lr_15 hL)]
    rw [← hE c5 (isC_r gc5)] at hl
    rw [← hE 14 (lr_14 hL)] at hl
    rw [← hE 1 (lr_1 hL)] at hl
    have hEE : ∀ r, r < N0 → ad56 r = ad0 r := fun r h => (hE r (by omega)).trans (hEE r h)
    have hAA := hA.trans hAA
    have hL := hL56
    have hR := hR56
    have gc5 : isC N56 K56 c5 = true := isC_mv hO56 gc5
    have gc56 : isC N56 K56 c56 = true := isC_of hc56.1 hc56.2
    obtain ⟨ρ57, eρ57, hF⟩ := nm_1 hF
    refine x_aastC (ρ1 := ρ57) C hP hS (lr_15 hL) (lk_15 hL) (ln_15 hL) (isC_r gc56) (isC_k gc56) (by decide +kernel) (by rw [cl_0]; exact eρ57) dX8_takes_42 (fun H locs hP hS => ?_)
    have hL : Lay N56 K56 L56 ρ57 := by rw [eρ57]; exact ly_row hL _ (by decide +kernel)
    have hR : RC N56 ρ57 := by rw [eρ57]; exact RC_put hR (isC_r gc56)
    refine lv_iinc (v := 1) (lv' := [(2, .int (1 : Int32)), (3, .ref (ad56 c5)), (0, .ref (ad56 14)), (1, .ref (ad56 1))]) hx hb dX8_takes_43 hl (k := 3) rfl (by decide) (by decide) rfl (fun ls hl => ?_)
    refine lv_goto (tgt := 10) hx hb dX8_takes_46 (by decide) ?_
    exact x_wb (w_X8_takes_14_1_10_1 hEE hAA (by omega) C hL hR hF hP hS (lv_sub hl [2, 3, 0] rfl))
def F_X8_takes_14_1  (N : Nat) (K len : Nat → Nat) (σ : SG) (ρ : RG) : Option (Unit × TT) :=
  nm (s2 σ 14 1 (σ 1 1)) fun σ2 =>
  F_X8_takes_14_1_10_0 N K len σ2 ρ
set_option maxHeartbeats 8000000 in
set_option maxRecDepth 100000 in
theorem k_X8_takes_14_1  {N1 : Nat} {K1 len1 : Nat → Nat} {σ σ1 : SG} {ρ ρ1 : RG} (hL : Lay N K len ρ) (hR : RC N ρ) (hF : F_X8_takes_14_1 N K len σ ρ = some ((), N1, K1, len1, σ1, ρ1)) : N ≤ N1 ∧ Lay N1 K1 len1 ρ1 ∧ RC N1 ρ1 ∧ (∀ k t : Nat, isO k N K t → isO k N1 K1 t) := by
  unfold F_X8_takes_14_1 at hF
  have hN0 : 65 ≤ N := hL.1
  have hI : ∀ k t : Nat, isO k N K t → isO k N K t := fun _ _ h => h
  obtain ⟨σ2, eσ2, hF⟩ := nm_1 hF
  exact kb_go (by omega) hI (k_X8_takes_14_1_10_0 hL hR hF)
set_option maxHeartbeats 8000000 in
set_option maxRecDepth 100000 in
theorem c_X8_takes_14_1  {N1 : Nat} {K1 len1 : Nat → Nat} {σ σ1 : SG} {ρ ρ1 : RG} (hL : Lay N K len ρ) (hR : RC N ρ) (hF : F_X8_takes_14_1 N K len σ ρ = some ((), N1, K1, len1, σ1, ρ1)) : MC l Y D N ad K len yX8_takes (Cond.code yX8_takes cX8_takes 4 none :: wsL_law) rm_X8_takes_14_1 [.ref (ad 14), .ref (ad 1)] σ ρ (fun _ => none) N1 K1 len1 σ1 ρ1 12 66 := by
  refine mc_of (cc := cX8_takes) (nL := 4) (ret := none) (by decide) (Nat.le_of_ble_eq_true rfl) ?_
  intro p e s m args below meth c ls C hnm hP hS hl
  have hx := C.1.1
  have hb := C.1.2.1
  have hl : lv_has ls 4 [(0, .ref (ad 14)), (1, .ref (ad 1))] := hl
  have hEE : ∀ r, r < N → ad r = ad r := fun _ _ => rfl
  have hAA : AA N ad s.heap.size = AA N ad s.heap.size := rfl
  have hN0 : 65 ≤ N := hL.1
  unfold F_X8_takes_14_1 at hF
  refine lv_aload_n hx hb dX8_takes_0 rfl (lv_at hl 0 rfl) ?_
  refine lv_aload_n hx hb dX8_takes_1 rfl (lv_at hl 1 rfl) ?_
  refine get_8_1 C hP (lr_1 hL) (lk_1 hL) inlX8 mw_432 dX8_takes_2 ?_
  obtain ⟨σ2, eσ2, hF⟩ := nm_1 hF
  refine put_8_1 C hP hS (lr_14 hL) (lk_14 hL) inlX8 mw_432 eσ2 dX8_takes_5 (fun H locs hP hS => ?_)
  refine lv_iconst (v := 0) hx hb dX8_takes_8 (by decide) ?_
  refine lv_istore_n (lv' := [(2, .int (0 : Int32)), (0, .ref (ad 14)), (1, .ref (ad 1))]) hx hb dX8_takes_9 rfl hl (by decide) rfl (fun ls hl => ?_)
  exact x_wb (w_X8_takes_14_1_10_0 hEE hAA (by omega) C hL hR hF hP hS (lv_sub hl [1, 2, 0] rfl))

/-! CutCrooked$Table.void takes(CutCrooked$Table); 1_14 -/
abbrev rm_X8_takes_1_14 : Room := { frames := 6, cells := 12, slots := 66, locals := 141 }
def F_X8_takes_1_14_10_6 (N : Nat) (K len : Nat → Nat) (σ : SG) (ρ : RG) : Option (Unit × TT) :=
  bn (F_X3_takes 3 16 σ ρ) fun σ28 =>
  bn (F_X0_takes_5_18 σ28 ρ) fun σ29 =>
  nm (s2 σ29 1 4 (σ29 14 4)) fun σ31 =>
  nm (s2 σ31 1 6 (σ31 14 6)) fun σ33 =>
  nm (s2 σ33 1 7 (σ33 14 7)) fun σ35 =>
  nm (s2 σ35 1 8 (σ35 14 8)) fun σ37 =>
  nm (s2 σ37 1 10 (σ37 14 10)) fun σ39 =>
  nm (s2 σ39 1 13 (σ39 14 13)) fun σ41 =>
  gd ((List.range 100).all (fun i => isB (σ41 23 i))) <|
  nm (cpy σ41 23 10 100) fun σ42 =>
  nm (cpy σ42 24 11 4) fun σ43 =>
  nm (cpy σ43 25 12 8) fun σ44 =>
  nm (cpy σ44 26 13 8) fun σ45 =>
  some ((), N, K, len, σ45, ρ)
set_option maxHeartbeats 8000000 in
set_option maxRecDepth 100000 in
theorem k_X8_takes_1_14_10_6 {N1 : Nat} {K1 len1 : Nat → Nat} {σ σ1 : SG} {ρ ρ1 : RG} (hL : Lay N K len ρ) (hR : RC N ρ) (hF : F_X8_takes_1_14_10_6 N K len σ ρ = some ((), N1, K1, len1, σ1, ρ1)) : N ≤ N1 ∧ Lay N1 K1 len1 ρ1 ∧ RC N1 ρ1 ∧ (∀ k t : Nat, isO k N K t → isO k N1 K1 t) := by
  unfold F_X8_takes_1_14_10_6 at hF
  have hN0 : 65 ≤ N := hL.1
  have hI : ∀ k t : Nat, isO k N K t → isO k N K t := fun _ _ h => h
  obtain ⟨σ28, hq28, hF⟩ := bn_1 hF
  obtain ⟨σ29, hq29, hF⟩ := bn_1 hF
  obtain ⟨σ31, eσ31, hF⟩ := nm_1 hF
  obtain ⟨σ33, eσ33, hF⟩ := nm_1 hF
  obtain ⟨σ35, eσ35, hF⟩ := nm_1 hF
  obtain ⟨σ37, eσ37, hF⟩ := nm_1 hF
  obtain ⟨σ39, eσ39, hF⟩ := nm_1 hF
  obtain ⟨σ41, eσ41, hF⟩ := nm_1 hF
  obtain ⟨ga42, hF⟩ := gd_1 hF
  obtain ⟨σ42, eσ42, hF⟩ := nm_1 hF
  obtain ⟨σ43, eσ43, hF⟩ := nm_1 hF
  obtain ⟨σ44, eσ44, hF⟩ := nm_1 hF
  obtain ⟨σ45, eσ45, hF⟩ := nm_1 hF
  obtain ⟨-, rfl, rfl, rfl, rfl, rfl⟩ := ret_T hF
  exact ⟨by omega, hL, hR, hI⟩
set_option maxHeartbeats 8000000 in
set_option maxRecDepth 100000 in
theorem w_X8_takes_1_14_10_6 {p : Program} {e : Env} {s : State} {m : MethodId} {args : Array Value} {below : List Frame} {meth : Method} {c : Code} {H : Heap} {locs : List Loc} {ls : Array Slot} {N0 : Nat} {ad0 : Nat → Nat} {N1 : Nat} {K1 len1 : Nat → Nat} {σ σ1 : SG} {ρ ρ1 : RG} (hEE : ∀ r, r < N0 → ad r = ad0 r) (hAA : AA N ad s.heap.size = AA N0 ad0 s.heap.size) (hNN : N0 ≤ N) (C : Cx Y D N ad p s m args meth c cX8_takes 4 none RX8 wsL_law) (hL : Lay N K len ρ) (hR : RC N ρ) (hF : F_X8_takes_1_14_10_6 N K len σ ρ = some ((), N1, K1, len1, σ1, ρ1)) (hP : WP Y D N ad K len σ ρ H) (hS : va_S (AA N ad s.heap.size) s.heap H locs) (hl : lv_has ls 4 [(0, .ref (ad 1)), (1, .ref (ad 14)), (2, .int (6 : Int32))]) : W p l e rm_X8_takes_1_14 s m args below meth c H locs 12 66 (MQ below (QC Y D N0 ad0 N1 K1 len1 σ1 ρ1 s.heap.size (fun _ => none)) args s 12 66 (AA N0 ad0 s.heap.size)) (F0 m 10 ls []) := by
  have hx := C.1.1
  have hb := C.1.2.1
  have hN0 : 65 ≤ N := hL.1
  unfold F_X8_takes_1_14_10_6 at hF
  refine lv_iload_n hx hb dX8_takes_10 rfl (lv_at hl 2 rfl) ?_
  refine lv_aload_n hx hb dX8_takes_11 rfl (lv_at hl 0 rfl) ?_
  refine get_8_0 C hP (lr_1 hL) (lk_1 hL) inlX8 mw_39 (lf_1_0 hL) dX8_takes_12 ?_
  refine x_alen (v := (6 : Int32)) C hP (lr_2 hL) (lk_2 hL) (by decide) (ln_2 hL) (by decide +kernel) dX8_takes_15 ?_
  refine lv_icmp_ge (tgt := 49) hx hb dX8_takes_16 (by decide) (fun c_27 => ?_) (fun c_27 => absurd (by decide) c_27)
  refine lv_aload_n hx hb dX8_takes_49 rfl (lv_at hl 0 rfl) ?_
  refine get_8_2 C hP (lr_1 hL) (lk_1 hL) inlX8 mw_41 (lf_1_2 hL) dX8_takes_50 ?_
  refine lv_aload_n hx hb dX8_takes_53 rfl (lv_at hl 1 rfl) ?_
  refine get_8_2 C hP (lr_14 hL) (lk_14 hL) inlX8 mw_41 (lf_14_2 hL) dX8_takes_54 ?_
  obtain ⟨σ28, hq28, hF⟩ := bn_1 hF
  refine x_callV (ci := 3) rfl rfl C hP hS (c_X3_takes hL (il_3 hL) (il_16 hL) hq28) (lr_3 hL) (lk_3 hL) (cwV 1 C.1.2.2.2.2 (gdV mw_1198 mw_721 mw_722 mw_31 mw_723) rfl rfl rfl hd_X3_takes ⟨Nat.le_of_ble_eq_true rfl, Nat.le_of_ble_eq_true rfl⟩) rfl rfl hl.1 (Nat.le_of_ble_eq_true rfl) ⟨Nat.le_of_ble_eq_true rfl, Nat.le_of_ble_eq_true rfl⟩ dX8_takes_57 (fun H locs hP hS => ?_)
  refine lv_aload_n hx hb dX8_takes_60 rfl (lv_at hl 0 rfl) ?_
  refine get_8_3 C hP (lr_1 hL) (lk_1 hL) inlX8 mw_43 (lf_1_3 hL) dX8_takes_61 ?_
  refine lv_aload_n hx hb dX8_takes_64 rfl (lv_at hl 1 rfl) ?_
  refine get_8_3 C hP (lr_14 hL) (lk_14 hL) inlX8 mw_43 (lf_14_3 hL) dX8_takes_65 ?_
  obtain ⟨σ29, hq29, hF⟩ := bn_1 hF
  refine x_callV (ci := 0) rfl rfl C hP hS (c_X0_takes_5_18 hL hq29) (lr_5 hL) (lk_5 hL) (cwV 1 C.1.2.2.2.2 (gdV mw_1199 mw_282 mw_283 mw_23 mw_284) rfl rfl rfl hd_X0_takes ⟨Nat.le_of_ble_eq_true rfl, Nat.le_of_ble_eq_true rfl⟩) rfl rfl hl.1 (Nat.le_of_ble_eq_true rfl) ⟨Nat.le_of_ble_eq_true rfl, Nat.le_of_ble_eq_true rfl⟩ dX8_takes_68 (fun H locs hP hS => ?_)
  refine lv_aload_n hx hb dX8_takes_71 rfl (lv_at hl 0 rfl) ?_
  refine lv_aload_n hx hb dX8_takes_72 rfl (lv_at hl 1 rfl) ?_
  refine get_8_4 C hP (lr_14 hL) (lk_14 hL) inlX8 mw_1159 dX8_takes_73 ?_
  obtain ⟨σ31, eσ31, hF⟩ := nm_1 hF
  refine put_8_4 C hP hS (lr_1 hL) (lk_1 hL) inlX8 mw_1159 eσ31 dX8_takes_76 (fun H locs hP hS => ?_)
  refine lv_aload_n hx hb dX8_takes_79 rfl (lv_at hl 0 rfl) ?_
  refine lv_aload_n hx hb dX8_takes_80 rfl (lv_at hl 1 rfl) ?_
  refine get_8_6 C hP (lr_14 hL) (lk_14 hL) inlX8 mw_1160 dX8_takes_81 ?_
  obtain ⟨σ33, eσ33, hF⟩ := nm_1 hF
  refine put_8_6 C hP hS (lr_1 hL) (lk_1 hL) inlX8 mw_1160 eσ33 dX8_takes_84 (fun H locs hP hS => ?_)
  refine lv_aload_n hx hb dX8_takes_87 rfl (lv_at hl 0 rfl) ?_
  refine lv_aload_n hx hb dX8_takes_88 rfl (lv_at hl 1 rfl) ?_
  refine get_8_7 C hP (lr_14 hL) (lk_14 hL) inlX8 mw_1161 dX8_takes_89 ?_
  obtain ⟨σ35, eσ35, hF⟩ := nm_1 hF
  refine put_8_7 C hP hS (lr_1 hL) (lk_1 hL) inlX8 mw_1161 eσ35 dX8_takes_92 (fun H locs hP hS => ?_)
  refine lv_aload_n hx hb dX8_takes_95 rfl (lv_at hl 0 rfl) ?_
  refine lv_aload_n hx hb dX8_takes_96 rfl (lv_at hl 1 rfl) ?_
  refine get_8_8 C hP (lr_14 hL) (lk_14 hL) inlX8 mw_1162 dX8_takes_97 ?_
  obtain ⟨σ37, eσ37, hF⟩ := nm_1 hF
  refine put_8_8 C hP hS (lr_1 hL) (lk_1 hL) inlX8 mw_1162 eσ37 dX8_takes_100 (fun H locs hP hS => ?_)
  refine lv_aload_n hx hb dX8_takes_103 rfl (lv_at hl 0 rfl) ?_
  refine lv_aload_n hx hb dX8_takes_104 rfl (lv_at hl 1 rfl) ?_
  refine get_8_10 C hP (lr_14 hL) (lk_14 hL) inlX8 mw_1163 dX8_takes_105 ?_
  obtain ⟨σ39, eσ39, hF⟩ := nm_1 hF
  refine put_8_10 C hP hS (lr_1 hL) (lk_1 hL) inlX8 mw_1163 eσ39 dX8_takes_108 (fun H locs hP hS => ?_)
  refine lv_aload_n hx hb dX8_takes_111 rfl (lv_at hl 0 rfl) ?_
  refine lv_aload_n hx hb dX8_takes_112 rfl (lv_at hl 1 rfl) ?_
  refine get_8_13 C hP (lr_14 hL) (lk_14 hL) inlX8 mw_1164 dX8_takes_113 ?_
  obtain ⟨σ41, eσ41, hF⟩ := nm_1 hF
  refine put_8_13 C hP hS (lr_1 hL) (lk_1 hL) inlX8 mw_1164 eσ41 dX8_takes_116 (fun H locs hP hS => ?_)
  refine lv_aload_n hx hb dX8_takes_119 rfl (lv_at hl 1 rfl) ?_
  refine get_8_5 C hP (lr_14 hL) (lk_14 hL) inlX8 mw_45 (lf_14_5 hL) dX8_takes_120 ?_
  refine lv_iconst (v := 0) hx hb dX8_takes_123 (by decide) ?_
  refine lv_aload_n hx hb dX8_takes_124 rfl (lv_at hl 0 rfl) ?_
  refine get_8_5 C hP (lr_1 hL) (lk_1 hL) inlX8 mw_45 (lf_1_5 hL) dX8_takes_125 ?_
  refine lv_iconst (v := 0) hx hb dX8_takes_128 (by decide) ?_
  refine lv_bipush (v := 100) hx hb dX8_takes_129 (by decide +kernel) ?_
  obtain ⟨ga42, hF⟩ := gd_1 hF
  obtain ⟨σ42, eσ42, hF⟩ := nm_1 hF
  refine x_copyB C hP hS hl.1 (lr_23 hL) (lr_10 hL) (lk_23 hL) (lk_10 hL) (ln_23 hL) (ln_10 hL) (by decide +kernel : (100 : Int32).toNatClampNeg = 100) (by decide) (Nat.le_of_ble_eq_true rfl) (Nat.le_of_ble_eq_true rfl) ga42 eσ42 mw_1165 mw_286 mw_287 mw_288 (Nat.le_of_ble_eq_true rfl) (Nat.le_of_ble_eq_true rfl) dX8_takes_131 (fun H locs hP hS => ?_)
  refine lv_aload_n hx hb dX8_takes_134 rfl (lv_at hl 1 rfl) ?_
  refine get_8_9 C hP (lr_14 hL) (lk_14 hL) inlX8 mw_46 (lf_14_9 hL) dX8_takes_135 ?_
  refine lv_iconst (v := 0) hx hb dX8_takes_138 (by decide) ?_
  refine lv_aload_n hx hb dX8_takes_139 rfl (lv_at hl 0 rfl) ?_
  refine get_8_9 C hP (lr_1 hL) (lk_1 hL) inlX8 mw_46 (lf_1_9 hL) dX8_takes_140 ?_
  refine lv_iconst (v := 0) hx hb dX8_takes_143 (by decide) ?_
  refine lv_iconst (v := 4) hx hb dX8_takes_144 (by decide) ?_
  obtain ⟨σ43, eσ43, hF⟩ := nm_1 hF
  refine x_copyI C hP hS hl.1 (lr_24 hL) (lr_11 hL) (lk_24 hL) (lk_11 hL) (ln_24 hL) (ln_11 hL) (by decide +kernel : (4 : Int32).toNatClampNeg = 4) (by decide) (Nat.le_of_ble_eq_true rfl) (Nat.le_of_ble_eq_true rfl)  eσ43 mw_1165 mw_286 mw_287 mw_288 (Nat.le_of_ble_eq_true rfl) (Nat.le_of_ble_eq_true rfl) dX8_takes_145 (fun H locs hP hS => ?_)
  refine lv_aload_n hx hb dX8_takes_148 rfl (lv_at hl 1 rfl) ?_
  refine get_8_11 C hP (lr_14 hL) (lk_14 hL) inlX8 mw_47 (lf_14_11 hL) dX8_takes_149 ?_
  refine lv_iconst (v := 0) hx hb dX8_takes_152 (by decide) ?_
  refine lv_aload_n hx hb dX8_takes_153 rfl (lv_at hl 0 rfl) ?_
  refine get_8_11 C hP (lr_1 hL) (lk_1 hL) inlX8 mw_47 (lf_1_11 hL) dX8_takes_154 ?_
  refine lv_iconst (v := 0) hx hb dX8_takes_157 (by decide) ?_
  refine lv_bipush (v := 8) hx hb dX8_takes_158 (by decide +kernel) ?_
  obtain ⟨σ44, eσ44, hF⟩ := nm_1 hF
  refine x_copyI C hP hS hl.1 (lr_25 hL) (lr_12 hL) (lk_25 hL) (lk_12 hL) (ln_25 hL) (ln_12 hL) (by decide +kernel : (8 : Int32).toNatClampNeg = 8) (by decide) (Nat.le_of_ble_eq_true rfl) (Nat.le_of_ble_eq_true rfl)  eσ44 mw_1165 mw_286 mw_287 mw_288 (Nat.le_of_ble_eq_true rfl) (Nat.le_of_ble_eq_true rfl) dX8_takes_160 (fun H locs hP hS => ?_)
  refine lv_aload_n hx hb dX8_takes_163 rfl (lv_at hl 1 rfl) ?_
  refine get_8_12 C hP (lr_14 hL) (lk_14 hL) inlX8 mw_48 (lf_14_12 hL) dX8_takes_164 ?_
  refine lv_iconst (v := 0) hx hb dX8_takes_167 (by decide) ?_
  refine lv_aload_n hx hb dX8_takes_168 rfl (lv_at hl 0 rfl) ?_
  refine get_8_12 C hP (lr_1 hL) (lk_1 hL) inlX8 mw_48 (lf_1_12 hL) dX8_takes_169 ?_
  refine lv_iconst (v := 0) hx hb dX8_takes_172 (by decide) ?_
  refine lv_bipush (v := 8) hx hb dX8_takes_173 (by decide +kernel) ?_
  obtain ⟨σ45, eσ45, hF⟩ := nm_1 hF
  refine x_copyI C hP hS hl.1 (lr_26 hL) (lr_13 hL) (lk_26 hL) (lk_13 hL) (ln_26 hL) (ln_13 hL) (by decide +kernel : (8 : Int32).toNatClampNeg = 8) (by decide) (Nat.le_of_ble_eq_true rfl) (Nat.le_of_ble_eq_true rfl)  eσ45 mw_1165 mw_286 mw_287 mw_288 (Nat.le_of_ble_eq_true rfl) (Nat.le_of_ble_eq_true rfl) dX8_takes_175 (fun H locs hP hS => ?_)
  obtain ⟨-, rfl, rfl, rfl, rfl, rfl⟩ := ret_T hF
  exact x_cret rfl hEE hAA C hP hS dX8_takes_178
def F_X8_takes_1_14_10_5 (N : Nat) (K len : Nat → Nat) (σ : SG) (ρ : RG) : Option (Unit × TT) :=
  bn (F_X8_cutterAt_14 (5 : Int32) σ ρ) fun o24 =>
  oc o24
   (
    nm (r2 ρ 2 5 none) fun ρ26 =>
    F_X8_takes_1_14_10_6 N K len σ ρ26)
   (fun c25 =>
    gd (isC N K c25) <|
    bnT (F_v_twin c25 N K len σ ρ) fun c46 N46 K46 L46 σ46 ρ46 =>
    nm (r2 ρ46 2 5 (some c46)) fun ρ47 =>
    F_X8_takes_1_14_10_6 N46 K46 L46 σ46 ρ47)
set_option maxHeartbeats 8000000 in
set_option maxRecDepth 100000 in
theorem k_X8_takes_1_14_10_5 {N1 : Nat} {K1 len1 : Nat → Nat} {σ σ1 : SG} {ρ ρ1 : RG} (hL : Lay N K len ρ) (hR : RC N ρ) (hF : F_X8_takes_1_14_10_5 N K len σ ρ = some ((), N1, K1, len1, σ1, ρ1)) : N ≤ N1 ∧ Lay N1 K1 len1 ρ1 ∧ RC N1 ρ1 ∧ (∀ k t : Nat, isO k N K t → isO k N1 K1 t) := by
  unfold F_X8_takes_1_14_10_5 at hF
  have hN0 : 65 ≤ N := hL.1
  have hI : ∀ k t : Nat, isO k N K t → isO k N K t := fun _ _ h => h
  obtain ⟨o24, hq24, hF⟩ := bn_1 hF
  rcases ho25 : o24 with _ | c25
  · have hF := oc_n hF ho25
    obtain ⟨ρ26, eρ26, hF⟩ := nm_1 hF
    have hR : RC N ρ26 := by rw [eρ26]; exact RC_putn hR
    have hL : Lay N K len ρ26 := by rw [eρ26]; exact ly_row hL _ (by decide +kernel)
    exact kb_go (by omega) hI (k_X8_takes_1_14_10_6 hL hR hF)
  · have hF := oc_s hF ho25
    obtain ⟨gc25, hF⟩ := gd_1 hF
    obtain ⟨c46, N46, K46, L46, σ46, ρ46, hq46, hF⟩ := bnT_1 hF
    obtain ⟨hN46, hL46, hR46, hO46, hc46⟩ := kv_twin hL hR gc25 hq46
    have hL := hL46
    have hR := hR46
    have hI := fun k t h => hO46 k t (hI k t h)
    have gc25 : isC N46 K46 c25 = true := isC_mv hO46 gc25
    have gc46 : isC N46 K46 c46 = true := isC_of hc46.1 hc46.2
    obtain ⟨ρ47, eρ47, hF⟩ := nm_1 hF
    have hL : Lay N46 K46 L46 ρ47 := by rw [eρ47]; exact ly_row hL _ (by decide +kernel)
    have hR : RC N46 ρ47 := by rw [eρ47]; exact RC_put hR (isC_r gc46)
    exact kb_go (by omega) hI (k_X8_takes_1_14_10_6 hL hR hF)
set_option maxHeartbeats 8000000 in
set_option maxRecDepth 100000 in
theorem w_X8_takes_1_14_10_5 {p : Program} {e : Env} {s : State} {m : MethodId} {args : Array Value} {below : List Frame} {meth : Method} {c : Code} {H : Heap} {locs : List Loc} {ls : Array Slot} {N0 : Nat} {ad0 : Nat → Nat} {N1 : Nat} {K1 len1 : Nat → Nat} {σ σ1 : SG} {ρ ρ1 : RG} (hEE : ∀ r, r < N0 → ad r = ad0 r) (hAA : AA N ad s.heap.size = AA N0 ad0 s.heap.size) (hNN : N0 ≤ N) (C : Cx Y D N ad p s m args meth c cX8_takes 4 none RX8 wsL_law) (hL : Lay N K len ρ) (hR : RC N ρ) (hF : F_X8_takes_1_14_10_5 N K len σ ρ = some ((), N1, K1, len1, σ1, ρ1)) (hP : WP Y D N ad K len σ ρ H) (hS : va_S (AA N ad s.heap.size) s.heap H locs) (hl : lv_has ls 4 [(0, .ref (ad 1)), (1, .ref (ad 14)), (2, .int (5 : Int32))]) : W p l e rm_X8_takes_1_14 s m args below meth c H locs 10 55 (MQ below (QC Y D N0 ad0 N1 K1 len1 σ1 ρ1 s.heap.size (fun _ => none)) args s 12 66 (AA N0 ad0 s.heap.size)) (F0 m 10 ls []) := by
  have hx := C.1.1
  have hb := C.1.2.1
  have hN0 : 65 ≤ N := hL.1
  unfold F_X8_takes_1_14_10_5 at hF
  refine lv_iload_n hx hb dX8_takes_10 rfl (lv_at hl 2 rfl) ?_
  refine lv_aload_n hx hb dX8_takes_11 rfl (lv_at hl 0 rfl) ?_
  refine get_8_0 C hP (lr_1 hL) (lk_1 hL) inlX8 mw_39 (lf_1_0 hL) dX8_takes_12 ?_
  refine x_alen (v := (6 : Int32)) C hP (lr_2 hL) (lk_2 hL) (by decide) (ln_2 hL) (by decide +kernel) dX8_takes_15 ?_
  refine lv_icmp_ge (tgt := 49) hx hb dX8_takes_16 (by decide) (fun c_23 => absurd c_23 (by decide)) (fun c_23 => ?_)
  refine lv_aload_n hx hb dX8_takes_19 rfl (lv_at hl 1 rfl) ?_
  refine lv_iload_n hx hb dX8_takes_20 rfl (lv_at hl 2 rfl) ?_
  obtain ⟨o24, hq24, hF⟩ := bn_1 hF
  refine x_callV (ci := 8) rfl rfl C hP hS (c_X8_cutterAt_14 hL hq24) (lr_14 hL) (lk_14 hL) (cwV 1 C.1.2.2.2.2 (gdV mw_1166 mw_429 mw_430 mw_14 mw_431) rfl rfl rfl hd_X8_cutterAt ⟨Nat.le_of_ble_eq_true rfl, Nat.le_of_ble_eq_true rfl⟩) rfl rfl hl.1 (Nat.le_of_ble_eq_true rfl) ⟨Nat.le_of_ble_eq_true rfl, Nat.le_of_ble_eq_true rfl⟩ dX8_takes_21 (fun H locs hP hS => ?_)
  rcases ho25 : o24 with _ | c25
  · have hF := oc_n hF ho25
    refine x_n ?_
    refine lv_astore_nN (lv' := [(3, .null), (0, .ref (ad 1)), (1, .ref (ad 14)), (2, .int (5 : Int32))]) hx hb dX8_takes_24 rfl hl (by decide) rfl (fun ls hl => ?_)
    refine lv_aload_n hx hb dX8_takes_25 rfl (lv_at hl 1 rfl) ?_
    refine get_8_0 C hP (lr_1 hL) (lk_1 hL) inlX8 mw_39 (lf_1_0 hL) dX8_takes_26 ?_
    refine lv_iload_n hx hb dX8_takes_29 rfl (lv_at hl 3 rfl) ?_
    refine lv_aload_nN hx hb dX8_takes_30 rfl (lv_at hl 0 rfl) ?_
    refine lv_ifnonnullN hx hb dX8_takes_31 ?_
    refine lv_null hx hb dX8_takes_34 ?_
    refine lv_goto (tgt := 42) hx hb dX8_takes_35 (by decide) ?_
    obtain ⟨ρ26, eρ26, hF⟩ := nm_1 hF
    refine x_aastN (ρ1 := ρ26) C hP hS (lr_2 hL) (lk_2 hL) (ln_2 hL) (by decide +kernel) (by rw [cl_5]; exact eρ26) dX8_takes_42 (fun H locs hP hS => ?_)
    have hR : RC N ρ26 := by rw [eρ26]; exact RC_putn hR
    have hL : Lay N K len ρ26 := by rw [eρ26]; exact ly_row hL _ (by decide +kernel)
    refine lv_iinc (v := 6) (lv' := [(2, .int (6 : Int32)), (3, .null), (0, .ref (ad 1)), (1, .ref (ad 14))]) hx hb dX8_takes_43 hl (k := 3) rfl (by decide) (by decide) rfl (fun ls hl => ?_)
    refine lv_goto (tgt := 10) hx hb dX8_takes_46 (by decide) ?_
    refine W.widen (k := 12) (n := 66) (Nat.le_of_ble_eq_true rfl) (Nat.le_of_ble_eq_true rfl) ?_
    exact x_wb (w_X8_takes_1_14_10_6 hEE hAA (by omega) C hL hR hF hP hS (lv_sub hl [2, 3, 0] rfl))
  · have hF := oc_s hF ho25
    refine x_s ?_
    obtain ⟨gc25, hF⟩ := gd_1 hF
    refine lv_astore_n (lv' := [(3, .ref (ad c25)), (0, .ref (ad 1)), (1, .ref (ad 14)), (2, .int (5 : Int32))]) hx hb dX8_takes_24 rfl hl (by decide) rfl (fun ls hl => ?_)
    refine lv_aload_n hx hb dX8_takes_25 rfl (lv_at hl 1 rfl) ?_
    refine get_8_0 C hP (lr_1 hL) (lk_1 hL) inlX8 mw_39 (lf_1_0 hL) dX8_takes_26 ?_
    refine lv_iload_n hx hb dX8_takes_29 rfl (lv_at hl 3 rfl) ?_
    refine lv_aload_n hx hb dX8_takes_30 rfl (lv_at hl 0 rfl) ?_
    refine lv_ifnonnull (tgt := 38) hx hb dX8_takes_31 (by decide) ?_
    refine lv_aload_n hx hb dX8_takes_38 rfl (lv_at hl 0 rfl) ?_
    obtain ⟨c46, N46, K46, L46, σ46, ρ46, hq46, hF⟩ := bnT_1 hF
    obtain ⟨hN46, hL46, hR46, hO46, hc46⟩ := kv_twin hL hR gc25 hq46
    refine v_twin C hP hS hL hR gc25 hq46 mw_1167 ⟨(Nat.le_of_ble_eq_true rfl), (Nat.le_of_ble_eq_true rfl)⟩ hl.1 (Nat.le_of_ble_eq_true rfl) ⟨(Nat.le_of_ble_eq_true rfl), (Nat.le_of_ble_eq_true rfl)⟩ dX8_takes_39 (fun ad46 H locs hE hA C hP hS => ?_)
    rw [← hE 2 (lr_2 hL)]
    rw [← hE c25 (isC_r gc25)] at hl
    rw [← hE 1 (lr_1 hL)] at hl
    rw [← hE 14 (lr_14 hL)] at hl
    have hEE : ∀ r, r < N0 → ad46 r = ad0 r := fun r h => (hE r (by omega)).trans (hEE r h)
    have hAA := hA.trans hAA
    have hL := hL46
    have hR := hR46
    have gc25 : isC N46 K46 c25 = true := isC_mv hO46 gc25
    have gc46 : isC N46 K46 c46 = true := isC_of hc46.1 hc46.2
    obtain ⟨ρ47, eρ47, hF⟩ := nm_1 hF
    refine x_aastC (ρ1 := ρ47) C hP hS (lr_2 hL) (lk_2 hL) (ln_2 hL) (isC_r gc46) (isC_k gc46) (by decide +kernel) (by rw [cl_5]; exact eρ47) dX8_takes_42 (fun H locs hP hS => ?_)
    have hL : Lay N46 K46 L46 ρ47 := by rw [eρ47]; exact ly_row hL _ (by decide +kernel)
    have hR : RC N46 ρ47 := by rw [eρ47]; exact RC_put hR (isC_r gc46)
    refine lv_iinc (v := 6) (lv' := [(2, .int (6 : Int32)), (3, .ref (ad46 c25)), (0, .ref (ad46 1)), (1, .ref (ad46 14))]) hx hb dX8_takes_43 hl (k := 3) rfl (by decide) (by decide) rfl (fun ls hl => ?_)
    refine lv_goto (tgt := 10) hx hb dX8_takes_46 (by decide) ?_
    exact x_wb (w_X8_takes_1_14_10_6 hEE hAA (by omega) C hL hR hF hP hS (lv_sub hl [2, 3, 0] rfl))
def F_X8_takes_1_14_10_4 (N : Nat) (K len : Nat → Nat) (σ : SG) (ρ : RG) : Option (Unit × TT) :=
  bn (F_X8_cutterAt_14 (4 : Int32) σ ρ) fun o20 =>
  oc o20
   (
    nm (r2 ρ 2 4 none) fun ρ22 =>
    F_X8_takes_1_14_10_5 N K len σ ρ22)
   (fun c21 =>
    gd (isC N K c21) <|
    bnT (F_v_twin c21 N K len σ ρ) fun c48 N48 K48 L48 σ48 ρ48 =>
    nm (r2 ρ48 2 4 (some c48)) fun ρ49 =>
    F_X8_takes_1_14_10_5 N48 K48 L48 σ48 ρ49)
set_option maxHeartbeats 8000000 in
set_option maxRecDepth 100000 in
theorem k_X8_takes_1_14_10_4 {N1 : Nat} {K1 len1 : Nat → Nat} {σ σ1 : SG} {ρ ρ1 : RG} (hL : Lay N K len ρ) (hR : RC N ρ) (hF : F_X8_takes_1_14_10_4 N K len σ ρ = some ((), N1, K1, len1, σ1, ρ1)) : N ≤ N1 ∧ Lay N1 K1 len1 ρ1 ∧ RC N1 ρ1 ∧ (∀ k t : Nat, isO k N K t → isO k N1 K1 t) := by
  unfold F_X8_takes_1_14_10_4 at hF
  have hN0 : 65 ≤ N := hL.1
  have hI : ∀ k t : Nat, isO k N K t → isO k N K t := fun _ _ h => h
  obtain ⟨o20, hq20, hF⟩ := bn_1 hF
  rcases ho21 : o20 with _ | c21
  · have hF := oc_n hF ho21
    obtain ⟨ρ22, eρ22, hF⟩ := nm_1 hF
    have hR : RC N ρ22 := by rw [eρ22]; exact RC_putn hR
    have hL : Lay N K len ρ22 := by rw [eρ22]; exact ly_row hL _ (by decide +kernel)
    exact kb_go (by omega) hI (k_X8_takes_1_14_10_5 hL hR hF)
  · have hF := oc_s hF ho21
    obtain ⟨gc21, hF⟩ := gd_1 hF
    obtain ⟨c48, N48, K48, L48, σ48, ρ48, hq48, hF⟩ := bnT_1 hF
    obtain ⟨hN48, hL48, hR48, hO48, hc48⟩ := kv_twin hL hR gc21 hq48
    have hL := hL48
    have hR := hR48
    have hI := fun k t h => hO48 k t (hI k t h)
    have gc21 : isC N48 K48 c21 = true := isC_mv hO48 gc21
    have gc48 : isC N48 K48 c48 = true := isC_of hc48.1 hc48.2
    obtain ⟨ρ49, eρ49, hF⟩ := nm_1 hF
    have hL : Lay N48 K48 L48 ρ49 := by rw [eρ49]; exact ly_row hL _ (by decide +kernel)
    have hR : RC N48 ρ49 := by rw [eρ49]; exact RC_put hR (isC_r gc48)
    exact kb_go (by omega) hI (k_X8_takes_1_14_10_5 hL hR hF)
set_option maxHeartbeats 8000000 in
set_option maxRecDepth 100000 in
theorem w_X8_takes_1_14_10_4 {p : Program} {e : Env} {s : State} {m : MethodId} {args : Array Value} {below : List Frame} {meth : Method} {c : Code} {H : Heap} {locs : List Loc} {ls : Array Slot} {N0 : Nat} {ad0 : Nat → Nat} {N1 : Nat} {K1 len1 : Nat → Nat} {σ σ1 : SG} {ρ ρ1 : RG} (hEE : ∀ r, r < N0 → ad r = ad0 r) (hAA : AA N ad s.heap.size = AA N0 ad0 s.heap.size) (hNN : N0 ≤ N) (C : Cx Y D N ad p s m args meth c cX8_takes 4 none RX8 wsL_law) (hL : Lay N K len ρ) (hR : RC N ρ) (hF : F_X8_takes_1_14_10_4 N K len σ ρ = some ((), N1, K1, len1, σ1, ρ1)) (hP : WP Y D N ad K len σ ρ H) (hS : va_S (AA N ad s.heap.size) s.heap H locs) (hl : lv_has ls 4 [(0, .ref (ad 1)), (1, .ref (ad 14)), (2, .int (4 : Int32))]) : W p l e rm_X8_takes_1_14 s m args below meth c H locs 8 44 (MQ below (QC Y D N0 ad0 N1 K1 len1 σ1 ρ1 s.heap.size (fun _ => none)) args s 12 66 (AA N0 ad0 s.heap.size)) (F0 m 10 ls []) := by
  have hx := C.1.1
  have hb := C.1.2.1
  have hN0 : 65 ≤ N := hL.1
  unfold F_X8_takes_1_14_10_4 at hF
  refine lv_iload_n hx hb dX8_takes_10 rfl (lv_at hl 2 rfl) ?_
  refine lv_aload_n hx hb dX8_takes_11 rfl (lv_at hl 0 rfl) ?_
  refine get_8_0 C hP (lr_1 hL) (lk_1 hL) inlX8 mw_39 (lf_1_0 hL) dX8_takes_12 ?_
  refine x_alen (v := (6 : Int32)) C hP (lr_2 hL) (lk_2 hL) (by decide) (ln_2 hL) (by decide +kernel) dX8_takes_15 ?_
  refine lv_icmp_ge (tgt := 49) hx hb dX8_takes_16 (by decide) (fun c_19 => absurd c_19 (by decide)) (fun c_19 => ?_)
  refine lv_aload_n hx hb dX8_takes_19 rfl (lv_at hl 1 rfl) ?_
  refine lv_iload_n hx hb dX8_takes_20 rfl (lv_at hl 2 rfl) ?_
  obtain ⟨o20, hq20, hF⟩ := bn_1 hF
  refine x_callV (ci := 8) rfl rfl C hP hS (c_X8_cutterAt_14 hL hq20) (lr_14 hL) (lk_14 hL) (cwV 1 C.1.2.2.2.2 (gdV mw_1166 mw_429 mw_430 mw_14 mw_431) rfl rfl rfl hd_X8_cutterAt ⟨Nat.le_of_ble_eq_true rfl, Nat.le_of_ble_eq_true rfl⟩) rfl rfl hl.1 (Nat.le_of_ble_eq_true rfl) ⟨Nat.le_of_ble_eq_true rfl, Nat.le_of_ble_eq_true rfl⟩ dX8_takes_21 (fun H locs hP hS => ?_)
  rcases ho21 : o20 with _ | c21
  · have hF := oc_n hF ho21
    refine x_n ?_
    refine lv_astore_nN (lv' := [(3, .null), (0, .ref (ad 1)), (1, .ref (ad 14)), (2, .int (4 : Int32))]) hx hb dX8_takes_24 rfl hl (by decide) rfl (fun ls hl => ?_)
    refine lv_aload_n hx hb dX8_takes_25 rfl (lv_at hl 1 rfl) ?_
    refine get_8_0 C hP (lr_1 hL) (lk_1 hL) inlX8 mw_39 (lf_1_0 hL) dX8_takes_26 ?_
    refine lv_iload_n hx hb dX8_takes_29 rfl (lv_at hl 3 rfl) ?_
    refine lv_aload_nN hx hb dX8_takes_30 rfl (lv_at hl 0 rfl) ?_
    refine lv_ifnonnullN hx hb dX8_takes_31 ?_
    refine lv_null hx hb dX8_takes_34 ?_
    refine lv_goto (tgt := 42) hx hb dX8_takes_35 (by decide) ?_
    obtain ⟨ρ22, eρ22, hF⟩ := nm_1 hF
    refine x_aastN (ρ1 := ρ22) C hP hS (lr_2 hL) (lk_2 hL) (ln_2 hL) (by decide +kernel) (by rw [cl_4]; exact eρ22) dX8_takes_42 (fun H locs hP hS => ?_)
    have hR : RC N ρ22 := by rw [eρ22]; exact RC_putn hR
    have hL : Lay N K len ρ22 := by rw [eρ22]; exact ly_row hL _ (by decide +kernel)
    refine lv_iinc (v := 5) (lv' := [(2, .int (5 : Int32)), (3, .null), (0, .ref (ad 1)), (1, .ref (ad 14))]) hx hb dX8_takes_43 hl (k := 3) rfl (by decide) (by decide) rfl (fun ls hl => ?_)
    refine lv_goto (tgt := 10) hx hb dX8_takes_46 (by decide) ?_
    refine W.widen (k := 10) (n := 55) (Nat.le_of_ble_eq_true rfl) (Nat.le_of_ble_eq_true rfl) ?_
    exact x_wb (w_X8_takes_1_14_10_5 hEE hAA (by omega) C hL hR hF hP hS (lv_sub hl [2, 3, 0] rfl))
  · have hF := oc_s hF ho21
    refine x_s ?_
    obtain ⟨gc21, hF⟩ := gd_1 hF
    refine lv_astore_n (lv' := [(3, .ref (ad c21)), (0, .ref (ad 1)), (1, .ref (ad 14)), (2, .int (4 : Int32))]) hx hb dX8_takes_24 rfl hl (by decide) rfl (fun ls hl => ?_)
    refine lv_aload_n hx hb dX8_takes_25 rfl (lv_at hl 1 rfl) ?_
    refine get_8_0 C hP (lr_1 hL) (lk_1 hL) inlX8 mw_39 (lf_1_0 hL) dX8_takes_26 ?_
    refine lv_iload_n hx hb dX8_takes_29 rfl (lv_at hl 3 rfl) ?_
    refine lv_aload_n hx hb dX8_takes_30 rfl (lv_at hl 0 rfl) ?_
    refine lv_ifnonnull (tgt := 38) hx hb dX8_takes_31 (by decide) ?_
    refine lv_aload_n hx hb dX8_takes_38 rfl (lv_at hl 0 rfl) ?_
    obtain ⟨c48, N48, K48, L48, σ48, ρ48, hq48, hF⟩ := bnT_1 hF
    obtain ⟨hN48, hL48, hR48, hO48, hc48⟩ := kv_twin hL hR gc21 hq48
    refine v_twin C hP hS hL hR gc21 hq48 mw_1167 ⟨(Nat.le_of_ble_eq_true rfl), (Nat.le_of_ble_eq_true rfl)⟩ hl.1 (Nat.le_of_ble_eq_true rfl) ⟨(Nat.le_of_ble_eq_true rfl), (Nat.le_of_ble_eq_true rfl)⟩ dX8_takes_39 (fun ad48 H locs hE hA C hP hS => ?_)
    rw [← hE 2 (lr_2 hL)]
    rw [← hE c21 (isC_r gc21)] at hl
    rw [← hE 1 (lr_1 hL)] at hl
    rw [← hE 14 (lr_14 hL)] at hl
    have hEE : ∀ r, r < N0 → ad48 r = ad0 r := fun r h => (hE r (by omega)).trans (hEE r h)
    have hAA := hA.trans hAA
    have hL := hL48
    have hR := hR48
    have gc21 : isC N48 K48 c21 = true := isC_mv hO48 gc21
    have gc48 : isC N48 K48 c48 = true := isC_of hc48.1 hc48.2
    obtain ⟨ρ49, eρ49, hF⟩ := nm_1 hF
    refine x_aastC (ρ1 := ρ49) C hP hS (lr_2 hL) (lk_2 hL) (ln_2 hL) (isC_r gc48) (isC_k gc48) (by decide +kernel) (by rw [cl_4]; exact eρ49) dX8_takes_42 (fun H locs hP hS => ?_)
    have hL : Lay N48 K48 L48 ρ49 := by rw [eρ49]; exact ly_row hL _ (by decide +kernel)
    have hR : RC N48 ρ49 := by rw [eρ49]; exact RC_put hR (isC_r gc48)
    refine lv_iinc (v := 5) (lv' := [(2, .int (5 : Int32)), (3, .ref (ad48 c21)), (0, .ref (ad48 1)), (1, .ref (ad48 14))]) hx hb dX8_takes_43 hl (k := 3) rfl (by decide) (by decide) rfl (fun ls hl => ?_)
    refine lv_goto (tgt := 10) hx hb dX8_takes_46 (by decide) ?_
    exact x_wb (w_X8_takes_1_14_10_5 hEE hAA (by omega) C hL hR hF hP hS (lv_sub hl [2, 3, 0] rfl))
def F_X8_takes_1_14_10_3 (N : Nat) (K len : Nat → Nat) (σ : SG) (ρ : RG) : Option (Unit × TT) :=
  bn (F_X8_cutterAt_14 (3 : Int32) σ ρ) fun o16 =>
  oc o16
   (
    nm (r2 ρ 2 3 none) fun ρ18 =>
    F_X8_takes_1_14_10_4 N K len σ ρ18)
   (fun c17 =>
    gd (isC N K c17) <|
    bnT (F_v_twin c17 N K len σ ρ) fun c50 N50 K50 L50 σ50 ρ50 =>
    nm (r2 ρ50 2 3 (some c50)) fun ρ51 =>
    F_X8_takes_1_14_10_4 N50 K50 L50 σ50 ρ51)
set_option maxHeartbeats 8000000 in
set_option maxRecDepth 100000 in
theorem k_X8_takes_1_14_10_3 {N1 : Nat} {K1 len1 : Nat → Nat} {σ σ1 : SG} {ρ ρ1 : RG} (hL : Lay N K len ρ) (hR : RC N ρ) (hF : F_X8_takes_1_14_10_3 N K len σ ρ = some ((), N1, K1, len1, σ1, ρ1)) : N ≤ N1 ∧ Lay N1 K1 len1 ρ1 ∧ RC N1 ρ1 ∧ (∀ k t : Nat, isO k N K t → isO k N1 K1 t) := by
  unfold F_X8_takes_1_14_10_3 at hF
  have hN0 : 65 ≤ N := hL.1
  have hI : ∀ k t : Nat, isO k N K t → isO k N K t := fun _ _ h => h
  obtain ⟨o16, hq16, hF⟩ := bn_1 hF
  rcases ho17 : o16 with _ | c17
  · have hF := oc_n hF ho17
    obtain ⟨ρ18, eρ18, hF⟩ := nm_1 hF
    have hR : RC N ρ18 := by rw [eρ18]; exact RC_putn hR
    have hL : Lay N K len ρ18 := by rw [eρ18]; exact ly_row hL _ (by decide +kernel)
    exact kb_go (by omega) hI (k_X8_takes_1_14_10_4 hL hR hF)
  · have hF := oc_s hF ho17
    obtain ⟨gc17, hF⟩ := gd_1 hF
    obtain ⟨c50, N50, K50, L50, σ50, ρ50, hq50, hF⟩ := bnT_1 hF
    obtain ⟨hN50, hL50, hR50, hO50, hc50⟩ := kv_twin hL hR gc17 hq50
    have hL := hL50
    have hR := hR50
    have hI := fun k t h => hO50 k t (hI k t h)
    have gc17 : isC N50 K50 c17 = true := isC_mv hO50 gc17
    have gc50 : isC N50 K50 c50 = true := isC_of hc50.1 hc50.2
    obtain ⟨ρ51, eρ51, hF⟩ := nm_1 hF
    have hL : Lay N50 K50 L50 ρ51 := by rw [eρ51]; exact ly_row hL _ (by decide +kernel)
    have hR : RC N50 ρ51 := by rw [eρ51]; exact RC_put hR (isC_r gc50)
    exact kb_go (by omega) hI (k_X8_takes_1_14_10_4 hL hR hF)
set_option maxHeartbeats 8000000 in
set_option maxRecDepth 100000 in
theorem w_X8_takes_1_14_10_3 {p : Program} {e : Env} {s : State} {m : MethodId} {args : Array Value} {below : List Frame} {meth : Method} {c : Code} {H : Heap} {locs : List Loc} {ls : Array Slot} {N0 : Nat} {ad0 : Nat → Nat} {N1 : Nat} {K1 len1 : Nat → Nat} {σ σ1 : SG} {ρ ρ1 : RG} (hEE : ∀ r, r < N0 → ad r = ad0 r) (hAA : AA N ad s.heap.size = AA N0 ad0 s.heap.size) (hNN : N0 ≤ N) (C : Cx Y D N ad p s m args meth c cX8_takes 4 none RX8 wsL_law) (hL : Lay N K len ρ) (hR : RC N ρ) (hF : F_X8_takes_1_14_10_3 N K len σ ρ = some ((), N1, K1, len1, σ1, ρ1)) (hP : WP Y D N ad K len σ ρ H) (hS : va_S (AA N ad s.heap.size) s.heap H locs) (hl : lv_has ls 4 [(0, .ref (ad 1)), (1, .ref (ad 14)), (2, .int (3 : Int32))]) : W p l e rm_X8_takes_1_14 s m args below meth c H locs 6 33 (MQ below (QC Y D N0 ad0 N1 K1 len1 σ1 ρ1 s.heap.size (fun _ => none)) args s 12 66 (AA N0 ad0 s.heap.size)) (F0 m 10 ls []) := by
  have hx := C.1.1
  have hb := C.1.2.1
  have hN0 : 65 ≤ N := hL.1
  unfold F_X8_takes_1_14_10_3 at hF
  refine lv_iload_n hx hb dX8_takes_10 rfl (lv_at hl 2 rfl) ?_
  refine lv_aload_n hx hb dX8_takes_11 rfl (lv_at hl 0 rfl) ?_
  refine get_8_0 C hP (lr_1 hL) (lk_1 hL) inlX8 mw_39 (lf_1_0 hL) dX8_takes_12 ?_
  refine x_alen (v := (6 : Int32)) C hP (lr_2 hL) (lk_2 hL) (by decide) (ln_2 hL) (by decide +kernel) dX8_takes_15 ?_
  refine lv_icmp_ge (tgt := 49) hx hb dX8_takes_16 (by decide) (fun c_15 => absurd c_15 (by decide)) (fun c_15 => ?_)
  refine lv_aload_n hx hb dX8_takes_19 rfl (lv_at hl 1 rfl) ?_
  refine lv_iload_n hx hb dX8_takes_20 rfl (lv_at hl 2 rfl) ?_
  obtain ⟨o16, hq16, hF⟩ := bn_1 hF
  refine x_callV (ci := 8) rfl rfl C hP hS (c_X8_cutterAt_14 hL hq16) (lr_14 hL) (lk_14 hL) (cwV 1 C.1.2.2.2.2 (gdV mw_1166 mw_429 mw_430 mw_14 mw_431) rfl rfl rfl hd_X8_cutterAt ⟨Nat.le_of_ble_eq_true rfl, Nat.le_of_ble_eq_true rfl⟩) rfl rfl hl.1 (Nat.le_of_ble_eq_true rfl) ⟨Nat.le_of_ble_eq_true rfl, Nat.le_of_ble_eq_true rfl⟩ dX8_takes_21 (fun H locs hP hS => ?_)
  rcases ho17 : o16 with _ | c17
  · have hF := oc_n hF ho17
    refine x_n ?_
    refine lv_astore_nN (lv' := [(3, .null), (0, .ref (ad 1)), (1, .ref (ad 14)), (2, .int (3 : Int32))]) hx hb dX8_takes_24 rfl hl (by decide) rfl (fun ls hl => ?_)
    refine lv_aload_n hx hb dX8_takes_25 rfl (lv_at hl 1 rfl) ?_
    refine get_8_0 C hP (lr_1 hL) (lk_1 hL) inlX8 mw_39 (lf_1_0 hL) dX8_takes_26 ?_
    refine lv_iload_n hx hb dX8_takes_29 rfl (lv_at hl 3 rfl) ?_
    refine lv_aload_nN hx hb dX8_takes_30 rfl (lv_at hl 0 rfl) ?_
    refine lv_ifnonnullN hx hb dX8_takes_31 ?_
    refine lv_null hx hb dX8_takes_34 ?_
    refine lv_goto (tgt := 42) hx hb dX8_takes_35 (by decide) ?_
    obtain ⟨ρ18, eρ18, hF⟩ := nm_1 hF
    refine x_aastN (ρ1 := ρ18) C hP hS (lr_2 hL) (lk_2 hL) (ln_2 hL) (by decide +kernel) (by rw [cl_3]; exact eρ18) dX8_takes_42 (fun H locs hP hS => ?_)
    have hR : RC N ρ18 := by rw [eρ18]; exact RC_putn hR
    have hL : Lay N K len ρ18 := by rw [eρ18]; exact ly_row hL _ (by decide +kernel)
    refine lv_iinc (v := 4) (lv' := [(2, .int (4 : Int32)), (3, .null), (0, .ref (ad 1)), (1, .ref (ad 14))]) hx hb dX8_takes_43 hl (k := 3) rfl (by decide) (by decide) rfl (fun ls hl => ?_)
    refine lv_goto (tgt := 10) hx hb dX8_takes_46 (by decide) ?_
    refine W.widen (k := 8) (n := 44) (Nat.le_of_ble_eq_true rfl) (Nat.le_of_ble_eq_true rfl) ?_
    exact x_wb (w_X8_takes_1_14_10_4 hEE hAA (by omega) C hL hR hF hP hS (lv_sub hl [2, 3, 0] rfl))
  · have hF := oc_s hF ho17
    refine x_s ?_
    obtain ⟨gc17, hF⟩ := gd_1 hF
    refine lv_astore_n (lv' := [(3, .ref (ad c17)), (0, .ref (ad 1)), (1, .ref (ad 14)), (2, .int (3 : Int32))]) hx hb dX8_takes_24 rfl hl (by decide) rfl (fun ls hl => ?_)
    refine lv_aload_n hx hb dX8_takes_25 rfl (lv_at hl 1 rfl) ?_
    refine get_8_0 C hP (lr_1 hL) (lk_1 hL) inlX8 mw_39 (lf_1_0 hL) dX8_takes_26 ?_
    refine lv_iload_n hx hb dX8_takes_29 rfl (lv_at hl 3 rfl) ?_
    refine lv_aload_n hx hb dX8_takes_30 rfl (lv_at hl 0 rfl) ?_
    refine lv_ifnonnull (tgt := 38) hx hb dX8_takes_31 (by decide) ?_
    refine lv_aload_n hx hb dX8_takes_38 rfl (lv_at hl 0 rfl) ?_
    obtain ⟨c50, N50, K50, L50, σ50, ρ50, hq50, hF⟩ := bnT_1 hF
    obtain ⟨hN50, hL50, hR50, hO50, hc50⟩ := kv_twin hL hR gc17 hq50
    refine v_twin C hP hS hL hR gc17 hq50 mw_1167 ⟨(Nat.le_of_ble_eq_true rfl), (Nat.le_of_ble_eq_true rfl)⟩ hl.1 (Nat.le_of_ble_eq_true rfl) ⟨(Nat.le_of_ble_eq_true rfl), (Nat.le_of_ble_eq_true rfl)⟩ dX8_takes_39 (fun ad50 H locs hE hA C hP hS => ?_)
    rw [← hE 2 (lr_2 hL)]
    rw [← hE c17 (isC_r gc17)] at hl
    rw [← hE 1 (lr_1 hL)] at hl
    rw [← hE 14 (lr_14 hL)] at hl
    have hEE : ∀ r, r < N0 → ad50 r = ad0 r := fun r h => (hE r (by omega)).trans (hEE r h)
    have hAA := hA.trans hAA
    have hL := hL50
    have hR := hR50
    have gc17 : isC N50 K50 c17 = true := isC_mv hO50 gc17
    have gc50 : isC N50 K50 c50 = true := isC_of hc50.1 hc50.2
    obtain ⟨ρ51, eρ51, hF⟩ := nm_1 hF
    refine x_aastC (ρ1 := ρ51) C hP hS (lr_2 hL) (lk_2 hL) (ln_2 hL) (isC_r gc50) (isC_k gc50) (by decide +kernel) (by rw [cl_3]; exact eρ51) dX8_takes_42 (fun H locs hP hS => ?_)
    have hL : Lay N50 K50 L50 ρ51 := by rw [eρ51]; exact ly_row hL _ (by decide +kernel)
    have hR : RC N50 ρ51 := by rw [eρ51]; exact RC_put hR (isC_r gc50)
    refine lv_iinc (v := 4) (lv' := [(2, .int (4 : Int32)), (3, .ref (ad50 c17)), (0, .ref (ad50 1)), (1, .ref (ad50 14))]) hx hb dX8_takes_43 hl (k := 3) rfl (by decide) (by decide) rfl (fun ls hl => ?_)
    refine lv_goto (tgt := 10) hx hb dX8_takes_46 (by decide) ?_
    exact x_wb (w_X8_takes_1_14_10_4 hEE hAA (by omega) C hL hR hF hP hS (lv_sub hl [2, 3, 0] rfl))
def F_X8_takes_1_14_10_2 (N : Nat) (K len : Nat → Nat) (σ : SG) (ρ : RG) : Option (Unit × TT) :=
  bn (F_X8_cutterAt_14 (2 : Int32) σ ρ) fun o12 =>
  oc o12
   (
    nm (r2 ρ 2 2 none) fun ρ14 =>
    F_X8_takes_1_14_10_3 N K len σ ρ14)
   (fun c13 =>
    gd (isC N K c13) <|
    bnT (F_v_twin c13 N K len σ ρ) fun c52 N52 K52 L52 σ52 ρ52 =>
    nm (r2 ρ52 2 2 (some c52)) fun ρ53 =>
    F_X8_takes_1_14_10_3 N52 K52 L52 σ52 ρ53)
set_option maxHeartbeats 8000000 in
set_option maxRecDepth 100000 in
theorem k_X8_takes_1_14_10_2 {N1 : Nat} {K1 len1 : Nat → Nat} {σ σ1 : SG} {ρ ρ1 : RG} (hL : Lay N K len ρ) (hR : RC N ρ) (hF : F_X8_takes_1_14_10_2 N K len σ ρ = some ((), N1, K1, len1, σ1, ρ1)) : N ≤ N1 ∧ Lay N1 K1 len1 ρ1 ∧ RC N1 ρ1 ∧ (∀ k t : Nat, isO k N K t → isO k N1 K1 t) := by
  unfold F_X8_takes_1_14_10_2 at hF
  have hN0 : 65 ≤ N := hL.1
  have hI : ∀ k t : Nat, isO k N K t → isO k N K t := fun _ _ h => h
  obtain ⟨o12, hq12, hF⟩ := bn_1 hF
  rcases ho13 : o12 with _ | c13
  · have hF := oc_n hF ho13
    obtain ⟨ρ14, eρ14, hF⟩ := nm_1 hF
    have hR : RC N ρ14 := by rw [eρ14]; exact RC_putn hR
    have hL : Lay N K len ρ14 := by rw [eρ14]; exact ly_row hL _ (by decide +kernel)
    exact kb_go (by omega) hI (k_X8_takes_1_14_10_3 hL hR hF)
  · have hF := oc_s hF ho13
    obtain ⟨gc13, hF⟩ := gd_1 hF
    obtain ⟨c52, N52, K52, L52, σ52, ρ52, hq52, hF⟩ := bnT_1 hF
    obtain ⟨hN52, hL52, hR52, hO52, hc52⟩ := kv_twin hL hR gc13 hq52
    have hL := hL52
    have hR := hR52
    have hI := fun k t h => hO52 k t (hI k t h)
    have gc13 : isC N52 K52 c13 = true := isC_mv hO52 gc13
    have gc52 : isC N52 K52 c52 = true := isC_of hc52.1 hc52.2
    obtain ⟨ρ53, eρ53, hF⟩ := nm_1 hF
    have hL : Lay N52 K52 L52 ρ53 := by rw [eρ53]; exact ly_row hL _ (by decide +kernel)
    have hR : RC N52 ρ53 := by rw [eρ53]; exact RC_put hR (isC_r gc52)
    exact kb_go (by omega) hI (k_X8_takes_1_14_10_3 hL hR hF)
set_option maxHeartbeats 8000000 in
set_option maxRecDepth 100000 in
theorem w_X8_takes_1_14_10_2 {p : Program} {e : Env} {s : State} {m : MethodId} {args : Array Value} {below : List Frame} {meth : Method} {c : Code} {H : Heap} {locs : List Loc} {ls : Array Slot} {N0 : Nat} {ad0 : Nat → Nat} {N1 : Nat} {K1 len1 : Nat → Nat} {σ σ1 : SG} {ρ ρ1 : RG} (hEE : ∀ r, r < N0 → ad r = ad0 r) (hAA : AA N ad s.heap.size = AA N0 ad0 s.heap.size) (hNN : N0 ≤ N) (C : Cx Y D N ad p s m args meth c cX8_takes 4 none RX8 wsL_law) (hL : Lay N K len ρ) (hR : RC N ρ) (hF : F_X8_takes_1_14_10_2 N K len σ ρ = some ((), N1, K1, len1, σ1, ρ1)) (hP : WP Y D N ad K len σ ρ H) (hS : va_S (AA N ad s.heap.size) s.heap H locs) (hl : lv_has ls 4 [(0, .ref (ad 1)), (1, .ref (ad 14)), (2, .int (2 : Int32))]) : W p l e rm_X8_takes_1_14 s m args below meth c H locs 4 22 (MQ below (QC Y D N0 ad0 N1 K1 len1 σ1 ρ1 s.heap.size (fun _ => none)) args s 12 66 (AA N0 ad0 s.heap.size)) (F0 m 10 ls []) := by
  have hx := C.1.1
  have hb := C.1.2.1
  have hN0 : 65 ≤ N := hL.1
  unfold F_X8_takes_1_14_10_2 at hF
  refine lv_iload_n hx hb dX8_takes_10 rfl (lv_at hl 2 rfl) ?_
  refine lv_aload_n hx hb dX8_takes_11 rfl (lv_at hl 0 rfl) ?_
  refine get_8_0 C hP (lr_1 hL) (lk_1 hL) inlX8 mw_39 (lf_1_0 hL) dX8_takes_12 ?_
  refine x_alen (v := (6 : Int32)) C hP (lr_2 hL) (lk_2 hL) (by decide) (ln_2 hL) (by decide +kernel) dX8_takes_15 ?_
  refine lv_icmp_ge (tgt := 49) hx hb dX8_takes_16 (by decide) (fun c_11 => absurd c_11 (by decide)) (fun c_11 => ?_)
  refine lv_aload_n hx hb dX8_takes_19 rfl (lv_at hl 1 rfl) ?_
  refine lv_iload_n hx hb dX8_takes_20 rfl (lv_at hl 2 rfl) ?_
  obtain ⟨o12, hq12, hF⟩ := bn_1 hF
  refine x_callV (ci := 8) rfl rfl C hP hS (c_X8_cutterAt_14 hL hq12) (lr_14 hL) (lk_14 hL) (cwV 1 C.1.2.2.2.2 (gdV mw_1166 mw_429 mw_430 mw_14 mw_431) rfl rfl rfl hd_X8_cutterAt ⟨Nat.le_of_ble_eq_true rfl, Nat.le_of_ble_eq_true rfl⟩) rfl rfl hl.1 (Nat.le_of_ble_eq_true rfl) ⟨Nat.le_of_ble_eq_true rfl, Nat.le_of_ble_eq_true rfl⟩ dX8_takes_21 (fun H locs hP hS => ?_)
  rcases ho13 : o12 with _ | c13
  · have hF := oc_n hF ho13
    refine x_n ?_
    refine lv_astore_nN (lv' := [(3, .null), (0, .ref (ad 1)), (1, .ref (ad 14)), (2, .int (2 : Int32))]) hx hb dX8_takes_24 rfl hl (by decide) rfl (fun ls hl => ?_)
    refine lv_aload_n hx hb dX8_takes_25 rfl (lv_at hl 1 rfl) ?_
    refine get_8_0 C hP (lr_1 hL) (lk_1 hL) inlX8 mw_39 (lf_1_0 hL) dX8_takes_26 ?_
    refine lv_iload_n hx hb dX8_takes_29 rfl (lv_at hl 3 rfl) ?_
    refine lv_aload_nN hx hb dX8_takes_30 rfl (lv_at hl 0 rfl) ?_
    refine lv_ifnonnullN hx hb dX8_takes_31 ?_
    refine lv_null hx hb dX8_takes_34 ?_
    refine lv_goto (tgt := 42) hx hb dX8_takes_35 (by decide) ?_
    obtain ⟨ρ14, eρ14, hF⟩ := nm_1 hF
    refine x_aastN (ρ1 := ρ14) C hP hS (lr_2 hL) (lk_2 hL) (ln_2 hL) (by decide +kernel) (by rw [cl_2]; exact eρ14) dX8_takes_42 (fun H locs hP hS => ?_)
    have hR : RC N ρ14 := by rw [eρ14]; exact RC_putn hR
    have hL : Lay N K len ρ14 := by rw [eρ14]; exact ly_row hL _ (by decide +kernel)
    refine lv_iinc (v := 3) (lv' := [(2, .int (3 : Int32)), (3, .null), (0, .ref (ad 1)), (1, .ref (ad 14))]) hx hb dX8_takes_43 hl (k := 3) rfl (by decide) (by decide) rfl (fun ls hl => ?_)
    refine lv_goto (tgt := 10) hx hb dX8_takes_46 (by decide) ?_
    refine W.widen (k := 6) (n := 33) (Nat.le_of_ble_eq_true rfl) (Nat.le_of_ble_eq_true rfl) ?_
    exact x_wb (w_X8_takes_1_14_10_3 hEE hAA (by omega) C hL hR hF hP hS (lv_sub hl [2, 3, 0] rfl))
  · have hF := oc_s hF ho13
    refine x_s ?_
    obtain ⟨gc13, hF⟩ := gd_1 hF
    refine lv_astore_n (lv' := [(3, .ref (ad c13)), (0, .ref (ad 1)), (1, .ref (ad 14)), (2, .int (2 : Int32))]) hx hb dX8_takes_24 rfl hl (by decide) rfl (fun ls hl => ?_)
    refine lv_aload_n hx hb dX8_takes_25 rfl (lv_at hl 1 rfl) ?_
    refine get_8_0 C hP (lr_1 hL) (lk_1 hL) inlX8 mw_39 (lf_1_0 hL) dX8_takes_26 ?_
    refine lv_iload_n hx hb dX8_takes_29 rfl (lv_at hl 3 rfl) ?_
    refine lv_aload_n hx hb dX8_takes_30 rfl (lv_at hl 0 rfl) ?_
    refine lv_ifnonnull (tgt := 38) hx hb dX8_takes_31 (by decide) ?_
    refine lv_aload_n hx hb dX8_takes_38 rfl (lv_at hl 0 rfl) ?_
    obtain ⟨c52, N52, K52, L52, σ52, ρ52, hq52, hF⟩ := bnT_1 hF
    obtain ⟨hN52, hL52, hR52, hO52, hc52⟩ := kv_twin hL hR gc13 hq52
    refine v_twin C hP hS hL hR gc13 hq52 mw_1167 ⟨(Nat.le_of_ble_eq_true rfl), (Nat.le_of_ble_eq_true rfl)⟩ hl.1 (Nat.le_of_ble_eq_true rfl) ⟨(Nat.le_of_ble_eq_true rfl), (Nat.le_of_ble_eq_true rfl)⟩ dX8_takes_39 (fun ad52 H locs hE hA C hP hS => ?_)
    rw [← hE 2 (lr_2 hL)]
    rw [← hE c13 (isC_r gc13)] at hl
    rw [← hE 1 (lr_1 hL)] at hl
    rw [← hE 14 (lr_14 hL)] at hl
    have hEE : ∀ r, r < N0 → ad52 r = ad0 r := fun r h => (hE r (by omega)).trans (hEE r h)
    have hAA := hA.trans hAA
    have hL := hL52
    have hR := hR52
    have gc13 : isC N52 K52 c13 = true := isC_mv hO52 gc13
    have gc52 : isC N52 K52 c52 = true := isC_of hc52.1 hc52.2
    obtain ⟨ρ53, eρ53, hF⟩ := nm_1 hF
    refine x_aastC (ρ1 := ρ53) C hP hS (lr_2 hL) (lk_2 hL) (ln_2 hL) (isC_r gc52) (isC_k gc52) (by decide +kernel) (by rw [cl_2]; exact eρ53) dX8_takes_42 (fun H locs hP hS => ?_)
    have hL : Lay N52 K52 L52 ρ53 := by rw [eρ53]; exact ly_row hL _ (by decide +kernel)
    have hR : RC N52 ρ53 := by rw [eρ53]; exact RC_put hR (isC_r gc52)
    refine lv_iinc (v := 3) (lv' := [(2, .int (3 : Int32)), (3, .ref (ad52 c13)), (0, .ref (ad52 1)), (1, .ref (ad52 14))]) hx hb dX8_takes_43 hl (k := 3) rfl (by decide) (by decide) rfl (fun ls hl => ?_)
    refine lv_goto (tgt := 10) hx hb dX8_takes_46 (by decide) ?_
    exact x_wb (w_X8_takes_1_14_10_3 hEE hAA (by omega) C hL hR hF hP hS (lv_sub hl [2, 3, 0] rfl))
def F_X8_takes_1_14_10_1 (N : Nat) (K len : Nat → Nat) (σ : SG) (ρ : RG) : Option (Unit × TT) :=
  bn (F_X8_cutterAt_14 (1 : Int32) σ ρ) fun o8 =>
  oc o8
   (
    nm (r2 ρ 2 1 none) fun ρ10 =>
    F_X8_takes_1_14_10_2 N K len σ ρ10)
   (fun c9 =>
    gd (isC N K c9) <|
    bnT (F_v_twin c9 N K len σ ρ) fun c54 N54 K54 L54 σ54 ρ54 =>
    nm (r2 ρ54 2 1 (some c54)) fun ρ55 =>
    F_X8_takes_1_14_10_2 N54 K54 L54 σ54 ρ55)
set_option maxHeartbeats 8000000 in
set_option maxRecDepth 100000 in
theorem k_X8_takes_1_14_10_1 {N1 : Nat} {K1 len1 : Nat → Nat} {σ σ1 : SG} {ρ ρ1 : RG} (hL : Lay N K len ρ) (hR : RC N ρ) (hF : F_X8_takes_1_14_10_1 N K len σ ρ = some ((), N1, K1, len1, σ1, ρ1)) : N ≤ N1 ∧ Lay N1 K1 len1 ρ1 ∧ RC N1 ρ1 ∧ (∀ k t : Nat, isO k N K t → isO k N1 K1 t) := by
  unfold F_X8_takes_1_14_10_1 at hF
  have hN0 : 65 ≤ N := hL.1
  have hI : ∀ k t : Nat, isO k N K t → isO k N K t := fun _ _ h => h
  obtain ⟨o8, hq8, hF⟩ := bn_1 hF
  rcases ho9 : o8 with _ | c9
  · have hF := oc_n hF ho9
    obtain ⟨ρ10, eρ10, hF⟩ := nm_1 hF
    have hR : RC N ρ10 := by rw [eρ10]; exact RC_putn hR
    have hL : Lay N K len ρ10 := by rw [eρ10]; exact ly_row hL _ (by decide +kernel)
    exact kb_go (by omega) hI (k_X8_takes_1_14_10_2 hL hR hF)
  · have hF := oc_s hF ho9
    obtain ⟨gc9, hF⟩ := gd_1 hF
    obtain ⟨c54, N54, K54, L54, σ54, ρ54, hq54, hF⟩ := bnT_1 hF
    obtain ⟨hN54, hL54, hR54, hO54, hc54⟩ := kv_twin hL hR gc9 hq54
    have hL := hL54
    have hR := hR54
    have hI := fun k t h => hO54 k t (hI k t h)
    have gc9 : isC N54 K54 c9 = true := isC_mv hO54 gc9
    have gc54 : isC N54 K54 c54 = true := isC_of hc54.1 hc54.2
    obtain ⟨ρ55, eρ55, hF⟩ := nm_1 hF
    have hL : Lay N54 K54 L54 ρ55 := by rw [eρ55]; exact ly_row hL _ (by decide +kernel)
    have hR : RC N54 ρ55 := by rw [eρ55]; exact RC_put hR (isC_r gc54)
    exact kb_go (by omega) hI (k_X8_takes_1_14_10_2 hL hR hF)
set_option maxHeartbeats 8000000 in
set_option maxRecDepth 100000 in
theorem w_X8_takes_1_14_10_1 {p : Program} {e : Env} {s : State} {m : MethodId} {args : Array Value} {below : List Frame} {meth : Method} {c : Code} {H : Heap} {locs : List Loc} {ls : Array Slot} {N0 : Nat} {ad0 : Nat → Nat} {N1 : Nat} {K1 len1 : Nat → Nat} {σ σ1 : SG} {ρ ρ1 : RG} (hEE : ∀ r, r < N0 → ad r = ad0 r) (hAA : AA N ad s.heap.size = AA N0 ad0 s.heap.size) (hNN : N0 ≤ N) (C : Cx Y D N ad p s m args meth c cX8_takes 4 none RX8 wsL_law) (hL : Lay N K len ρ) (hR : RC N ρ) (hF : F_X8_takes_1_14_10_1 N K len σ ρ = some ((), N1, K1, len1, σ1, ρ1)) (hP : WP Y D N ad K len σ ρ H) (hS : va_S (AA N ad s.heap.size) s.heap H locs) (hl : lv_has ls 4 [(0, .ref (ad 1)), (1, .ref (ad 14)), (2, .int (1 : Int32))]) : W p l e rm_X8_takes_1_14 s m args below meth c H locs 2 11 (MQ below (QC Y D N0 ad0 N1 K1 len1 σ1 ρ1 s.heap.size (fun _ => none)) args s 12 66 (AA N0 ad0 s.heap.size)) (F0 m 10 ls []) := by
  have hx := C.1.1
  have hb := C.1.2.1
  have hN0 : 65 ≤ N := hL.1
  unfold F_X8_takes_1_14_10_1 at hF
  refine lv_iload_n hx hb dX8_takes_10 rfl (lv_at hl 2 rfl) ?_
  refine lv_aload_n hx hb dX8_takes_11 rfl (lv_at hl 0 rfl) ?_
  refine get_8_0 C hP (lr_1 hL) (lk_1 hL) inlX8 mw_39 (lf_1_0 hL) dX8_takes_12 ?_
  refine x_alen (v := (6 : Int32)) C hP (lr_2 hL) (lk_2 hL) (by decide) (ln_2 hL) (by decide +kernel) dX8_takes_15 ?_
  refine lv_icmp_ge (tgt := 49) hx hb dX8_takes_16 (by decide) (fun c_7 => absurd c_7 (by decide)) (fun c_7 => ?_)
  refine lv_aload_n hx hb dX8_takes_19 rfl (lv_at hl 1 rfl) ?_
  refine lv_iload_n hx hb dX8_takes_20 rfl (lv_at hl 2 rfl) ?_
  obtain ⟨o8, hq8, hF⟩ := bn_1 hF
  refine x_callV (ci := 8) rfl rfl C hP hS (c_X8_cutterAt_14 hL hq8) (lr_14 hL) (lk_14 hL) (cwV 1 C.1.2.2.2.2 (gdV mw_1166 mw_429 mw_430 mw_14 mw_431) rfl rfl rfl hd_X8_cutterAt ⟨Nat.le_of_ble_eq_true rfl, Nat.le_of_ble_eq_true rfl⟩) rfl rfl hl.1 (Nat.le_of_ble_eq_true rfl) ⟨Nat.le_of_ble_eq_true rfl, Nat.le_of_ble_eq_true rfl⟩ dX8_takes_21 (fun H locs hP hS => ?_)
  rcases ho9 : o8 with _ | c9
  · have hF := oc_n hF ho9
    refine x_n ?_
    refine lv_astore_nN (lv' := [(3, .null), (0, .ref (ad 1)), (1, .ref (ad 14)), (2, .int (1 : Int32))]) hx hb dX8_takes_24 rfl hl (by decide) rfl (fun ls hl => ?_)
    refine lv_aload_n hx hb dX8_takes_25 rfl (lv_at hl 1 rfl) ?_
    refine get_8_0 C hP (lr_1 hL) (lk_1 hL) inlX8 mw_39 (lf_1_0 hL) dX8_takes_26 ?_
    refine lv_iload_n hx hb dX8_takes_29 rfl (lv_at hl 3 rfl) ?_
    refine lv_aload_nN hx hb dX8_takes_30 rfl (lv_at hl 0 rfl) ?_
    refine lv_ifnonnullN hx hb dX8_takes_31 ?_
    refine lv_null hx hb dX8_takes_34 ?_
    refine lv_goto (tgt := 42) hx hb dX8_takes_35 (by decide) ?_
    obtain ⟨ρ10, eρ10, hF⟩ := nm_1 hF
    refine x_aastN (ρ1 := ρ10) C hP hS (lr_2 hL) (lk_2 hL) (ln_2 hL) (by decide +kernel) (by rw [cl_1]; exact eρ10) dX8_takes_42 (fun H locs hP hS => ?_)
    have hR : RC N ρ10 := by rw [eρ10]; exact RC_putn hR
    have hL : Lay N K len ρ10 := by rw [eρ10]; exact ly_row hL _ (by decide +kernel)
    refine lv_iinc (v := 2) (lv' := [(2, .int (2 : Int32)), (3, .null), (0, .ref (ad 1)), (1, .ref (ad 14))]) hx hb dX8_takes_43 hl (k := 3) rfl (by decide) (by decide) rfl (fun ls hl => ?_)
    refine lv_goto (tgt := 10) hx hb dX8_takes_46 (by decide) ?_
    refine W.widen (k := 4) (n := 22) (Nat.le_of_ble_eq_true rfl) (Nat.le_of_ble_eq_true rfl) ?_
    exact x_wb (w_X8_takes_1_14_10_2 hEE hAA (by omega) C hL hR hF hP hS (lv_sub hl [2, 3, 0] rfl))
  · have hF := oc_s hF ho9
    refine x_s ?_
    obtain ⟨gc9, hF⟩ := gd_1 hF
    refine lv_astore_n (lv' := [(3, .ref (ad c9)), (0, .ref (ad 1)), (1, .ref (ad 14)), (2, .int (1 : Int32))]) hx hb dX8_takes_24 rfl hl (by decide) rfl (fun ls hl => ?_)
    refine lv_aload_n hx hb dX8_takes_25 rfl (lv_at hl 1 rfl) ?_
    refine get_8_0 C hP (lr_1 hL) (lk_1 hL) inlX8 mw_39 (lf_1_0 hL) dX8_takes_26 ?_
    refine lv_iload_n hx hb dX8_takes_29 rfl (lv_at hl 3 rfl) ?_
    refine lv_aload_n hx hb dX8_takes_30 rfl (lv_at hl 0 rfl) ?_
    refine lv_ifnonnull (tgt := 38) hx hb dX8_takes_31 (by decide) ?_
    refine lv_aload_n hx hb dX8_takes_38 rfl (lv_at hl 0 rfl) ?_
    obtain ⟨c54, N54, K54, L54, σ54, ρ54, hq54, hF⟩ := bnT_1 hF
    obtain ⟨hN54, hL54, hR54, hO54, hc54⟩ := kv_twin hL hR gc9 hq54
    refine v_twin C hP hS hL hR gc9 hq54 mw_1167 ⟨(Nat.le_of_ble_eq_true rfl), (Nat.le_of_ble_eq_true rfl)⟩ hl.1 (Nat.le_of_ble_eq_true rfl) ⟨(Nat.le_of_ble_eq_true rfl), (Nat.le_of_ble_eq_true rfl)⟩ dX8_takes_39 (fun ad54 H locs hE hA C hP hS => ?_)
    rw [← hE 2 (lr_2 hL)]
    rw [← hE c9 (isC_r gc9)] at hl
    rw [← hE 1 (lr_1 hL)] at hl
    rw [← hE 14 (lr_14 hL)] at hl
    have hEE : ∀ r, r < N0 → ad54 r = ad0 r := fun r h => (hE r (by omega)).trans (hEE r h)
    have hAA := hA.trans hAA
    have hL := hL54
    have hR := hR54
    have gc9 : isC N54 K54 c9 = true := isC_mv hO54 gc9
    have gc54 : isC N54 K54 c54 = true := isC_of hc54.1 hc54.2
    obtain ⟨ρ55, eρ55, hF⟩ := nm_1 hF
    refine x_aastC (ρ1 := ρ55) C hP hS (lr_2 hL) (lk_2 hL) (ln_2 hL) (isC_r gc54) (isC_k gc54) (by decide +kernel) (by rw [cl_1]; exact eρ55) dX8_takes_42 (fun H locs hP hS => ?_)
    have hL : Lay N54 K54 L54 ρ55 := by rw [eρ55]; exact ly_row hL _ (by decide +kernel)
    have hR : RC N54 ρ55 := by rw [eρ55]; exact RC_put hR (isC_r gc54)
    refine lv_iinc (v := 2) (lv' := [(2, .int (2 : Int32)), (3, .ref (ad54 c9)), (0, .ref (ad54 1)), (1, .ref (ad54 14))]) hx hb dX8_takes_43 hl (k := 3) rfl (by decide) (by decide) rfl (fun ls hl => ?_)
    refine lv_goto (tgt := 10) hx hb dX8_takes_46 (by decide) ?_
    exact x_wb (w_X8_takes_1_14_10_2 hEE hAA (by omega) C hL hR hF hP hS (lv_sub hl [2, 3, 0] rfl))
def F_X8_takes_1_14_10_0 (N : Nat) (K len : Nat → Nat) (σ : SG) (ρ : RG) : Option (Unit × TT) :=
  bn (F_X8_cutterAt_14 (0 : Int32) σ ρ) fun o4 =>
  oc o4
   (
    nm (r2 ρ 2 0 none) fun ρ6 =>
    F_X8_takes_1_14_10_1 N K len σ ρ6)
   (fun c5 =>
    gd (isC N K c5) <|
    bnT (F_v_twin c5 N K len σ ρ) fun c56 N56 K56 L56 σ56 ρ56 =>
    nm (r2 ρ56 2 0 (some c56)) fun ρ57 =>
    F_X8_takes_1_14_10_1 N56 K56 L56 σ56 ρ57)
set_option maxHeartbeats 8000000 in
set_option maxRecDepth 100000 in
theorem k_X8_takes_1_14_10_0 {N1 : Nat} {K1 len1 : Nat → Nat} {σ σ1 : SG} {ρ ρ1 : RG} (hL : Lay N K len ρ) (hR : RC N ρ) (hF : F_X8_takes_1_14_10_0 N K len σ ρ = some ((), N1, K1, len1, σ1, ρ1)) : N ≤ N1 ∧ Lay N1 K1 len1 ρ1 ∧ RC N1 ρ1 ∧ (∀ k t : Nat, isO k N K t → isO k N1 K1 t) := by
  unfold F_X8_takes_1_14_10_0 at hF
  have hN0 : 65 ≤ N := hL.1
  have hI : ∀ k t : Nat, isO k N K t → isO k N K t := fun _ _ h => h
  obtain ⟨o4, hq4, hF⟩ := bn_1 hF
  rcases ho5 : o4 with _ | c5
  · have hF := oc_n hF ho5
    obtain ⟨ρ6, eρ6, hF⟩ := nm_1 hF
    have hR : RC N ρ6 := by rw [eρ6]; exact RC_putn hR
    have hL : Lay N K len ρ6 := by rw [eρ6]; exact ly_row hL _ (by decide +kernel)
    exact kb_go (by omega) hI (k_X8_takes_1_14_10_1 hL hR hF)
  · have hF := oc_s hF ho5
    obtain ⟨gc5, hF⟩ := gd_1 hF
    obtain ⟨c56, N56, K56, L56, σ56, ρ56, hq56, hF⟩ := bnT_1 hF
    obtain ⟨hN56, hL56, hR56, hO56, hc56⟩ := kv_twin hL hR gc5 hq56
    have hL := hL56
    have hR := hR56
    have hI := fun k t h => hO56 k t (hI k t h)
    have gc5 : isC N56 K56 c5 = true := isC_mv hO56 gc5
    have gc56 : isC N56 K56 c56 = true := isC_of hc56.1 hc56.2
    obtain ⟨ρ57, eρ57, hF⟩ := nm_1 hF
    have hL : Lay N56 K56 L56 ρ57 := by rw [eρ57]; exact ly_row hL _ (by decide +kernel)
    have hR : RC N56 ρ57 := by rw [eρ57]; exact RC_put hR (isC_r gc56)
    exact kb_go (by omega) hI (k_X8_takes_1_14_10_1 hL hR hF)
set_option maxHeartbeats 8000000 in
set_option maxRecDepth 100000 in
theorem w_X8_takes_1_14_10_0 {p : Program} {e : Env} {s : State} {m : MethodId} {args : Array Value} {below : List Frame} {meth : Method} {c : Code} {H : Heap} {locs : List Loc} {ls : Array Slot} {N0 : Nat} {ad0 : Nat → Nat} {N1 : Nat} {K1 len1 : Nat → Nat} {σ σ1 : SG} {ρ ρ1 : RG} (hEE : ∀ r, r < N0 → ad r = ad0 r) (hAA : AA N ad s.heap.size = AA N0 ad0 s.heap.size) (hNN : N0 ≤ N) (C : Cx Y D N ad p s m args meth c cX8_takes 4 none RX8 wsL_law) (hL : Lay N K len ρ) (hR : RC N ρ) (hF : F_X8_takes_1_14_10_0 N K len σ ρ = some ((), N1, K1, len1, σ1, ρ1)) (hP : WP Y D N ad K len σ ρ H) (hS : va_S (AA N ad s.heap.size) s.heap H locs) (hl : lv_has ls 4 [(0, .ref (ad 1)), (1, .ref (ad 14)), (2, .int (0 : Int32))]) : W p l e rm_X8_takes_1_14 s m args below meth c H locs 0 0 (MQ below (QC Y D N0 ad0 N1 K1 len1 σ1 ρ1 s.heap.size (fun _ => none)) args s 12 66 (AA N0 ad0 s.heap.size)) (F0 m 10 ls []) := by
  have hx := C.1.1
  have hb := C.1.2.1
  have hN0 : 65 ≤ N := hL.1
  unfold F_X8_takes_1_14_10_0 at hF
  refine lv_iload_n hx hb dX8_takes_10 rfl (lv_at hl 2 rfl) ?_
  refine lv_aload_n hx hb dX8_takes_11 rfl (lv_at hl 0 rfl) ?_
  refine get_8_0 C hP (lr_1 hL) (lk_1 hL) inlX8 mw_39 (lf_1_0 hL) dX8_takes_12 ?_
  refine x_alen (v := (6 : Int32)) C hP (lr_2 hL) (lk_2 hL) (by decide) (ln_2 hL) (by decide +kernel) dX8_takes_15 ?_
  refine lv_icmp_ge (tgt := 49) hx hb dX8_takes_16 (by decide) (fun c_3 => absurd c_3 (by decide)) (fun c_3 => ?_)
  refine lv_aload_n hx hb dX8_takes_19 rfl (lv_at hl 1 rfl) ?_
  refine lv_iload_n hx hb dX8_takes_20 rfl (lv_at hl 2 rfl) ?_
  obtain ⟨o4, hq4, hF⟩ := bn_1 hF
  refine x_callV (ci := 8) rfl rfl C hP hS (c_X8_cutterAt_14 hL hq4) (lr_14 hL) (lk_14 hL) (cwV 1 C.1.2.2.2.2 (gdV mw_1166 mw_429 mw_430 mw_14 mw_431) rfl rfl rfl hd_X8_cutterAt ⟨Nat.le_of_ble_eq_true rfl, Nat.le_of_ble_eq_true rfl⟩) rfl rfl hl.1 (Nat.le_of_ble_eq_true rfl) ⟨Nat.le_of_ble_eq_true rfl, Nat.le_of_ble_eq_true rfl⟩ dX8_takes_21 (fun H locs hP hS => ?_)
  rcases ho5 : o4 with _ | c5
  · have hF := oc_n hF ho5
    refine x_n ?_
    refine lv_astore_nN (lv' := [(3, .null), (0, .ref (ad 1)), (1, .ref (ad 14)), (2, .int (0 : Int32))]) hx hb dX8_takes_24 rfl hl (by decide) rfl (fun ls hl => ?_)
    refine lv_aload_n hx hb dX8_takes_25 rfl (lv_at hl 1 rfl) ?_
    refine get_8_0 C hP (lr_1 hL) (lk_1 hL) inlX8 mw_39 (lf_1_0 hL) dX8_takes_26 ?_
    refine lv_iload_n hx hb dX8_takes_29 rfl (lv_at hl 3 rfl) ?_
    refine lv_aload_nN hx hb dX8_takes_30 rfl (lv_at hl 0 rfl) ?_
    refine lv_ifnonnullN hx hb dX8_takes_31 ?_
    refine lv_null hx hb dX8_takes_34 ?_
    refine lv_goto (tgt := 42) hx hb dX8_takes_35 (by decide) ?_
    obtain ⟨ρ6, eρ6, hF⟩ := nm_1 hF
    refine x_aastN (ρ1 := ρ6) C hP hS (lr_2 hL) (lk_2 hL) (ln_2 hL) (by decide +kernel) (by rw [cl_0]; exact eρ6) dX8_takes_42 (fun H locs hP hS => ?_)
    have hR : RC N ρ6 := by rw [eρ6]; exact RC_putn hR
    have hL : Lay N K len ρ6 := by rw [eρ6]; exact ly_row hL _ (by decide +kernel)
    refine lv_iinc (v := 1) (lv' := [(2, .int (1 : Int32)), (3, .null), (0, .ref (ad 1)), (1, .ref (ad 14))]) hx hb dX8_takes_43 hl (k := 3) rfl (by decide) (by decide) rfl (fun ls hl => ?_)
    refine lv_goto (tgt := 10) hx hb dX8_takes_46 (by decide) ?_
    refine W.widen (k := 2) (n := 11) (Nat.le_of_ble_eq_true rfl) (Nat.le_of_ble_eq_true rfl) ?_
    exact x_wb (w_X8_takes_1_14_10_1 hEE hAA (by omega) C hL hR hF hP hS (lv_sub hl [2, 3, 0] rfl))
  · have hF := oc_s hF ho5
    refine x_s ?_
    obtain ⟨gc5, hF⟩ := gd_1 hF
    refine lv_astore_n (lv' := [(3, .ref (ad c5)), (0, .ref (ad 1)), (1, .ref (ad 14)), (2, .int (0 : Int32))]) hx hb dX8_takes_24 rfl hl (by decide) rfl (fun ls hl => ?_)
    refine lv_aload_n hx hb dX8_takes_25 rfl (lv_at hl 1 rfl) ?_
    refine get_8_0 C hP (lr_1 hL) (lk_1 hL) inlX8 mw_39 (lf_1_0 hL) dX8_takes_26 ?_
    refine lv_iload_n hx hb dX8_takes_29 rfl (lv_at hl 3 rfl) ?_
    refine lv_aload_n hx hb dX8_takes_30 rfl (lv_at hl 0 rfl) ?_
    refine lv_ifnonnull (tgt := 38) hx hb dX8_takes_31 (by decide) ?_
    refine lv_aload_n hx hb dX8_takes_38 rfl (lv_at hl 0 rfl) ?_
    obtain ⟨c56, N56, K56, L56, σ56, ρ56, hq56, hF⟩ := bnT_1 hF
    obtain ⟨hN56, hL56, hR56, hO56, hc56⟩ := kv_twin hL hR gc5 hq56
    refine v_twin C hP hS hL hR gc5 hq56 mw_1167 ⟨(Nat.le_of_ble_eq_true rfl), (Nat.le_of_ble_eq_true rfl)⟩ hl.1 (Nat.le_of_ble_eq_true rfl) ⟨(Nat.le_of_ble_eq_true rfl), (Nat.le_of_ble_eq_true rfl)⟩ dX8_takes_39 (fun ad56 H locs hE hA C hP hS => ?_)
    rw [← hE 2 (lr_2 hL)]
    rw [← hE c5 (isC_r gc5)] at hl
    rw [← hE 1 (lr_1 hL)] at hl
    rw [← hE 14 (lr_14 hL)] at hl
    have hEE : ∀ r, r < N0 → ad56 r = ad0 r := fun r h => (hE r (by omega)).trans (hEE r h)
    have hAA := hA.trans hAA
    have hL := hL56
    have hR := hR56
    have gc5 : isC N56 K56 c5 = true := isC_mv hO56 gc5
    have gc56 : isC N56 K56 c56 = true := isC_of hc56.1 hc56.2
    obtain ⟨ρ57, eρ57, hF⟩ := nm_1 hF
    refine x_aastC (ρ1 := ρ57) C hP hS (lr_2 hL) (lk_2 hL) (ln_2 hL) (isC_r gc56) (isC_k gc56) (by decide +kernel) (by rw [cl_0]; exact eρ57) dX8_takes_42 (fun H locs hP hS => ?_)
    have hL : Lay N56 K56 L56 ρ57 := by rw [eρ57]; exact ly_row hL _ (by decide +kernel)
    have hR : RC N56 ρ57 := by rw [eρ57]; exact RC_put hR (isC_r gc56)
    refine lv_iinc (v := 1) (lv' := [(2, .int (1 : Int32)), (3, .ref (ad56 c5)), (0, .ref (ad56 1)), (1, .ref (ad56 14))]) hx hb dX8_takes_43 hl (k := 3) rfl (by decide) (by decide) rfl (fun ls hl => ?_)
    refine lv_goto (tgt := 10) hx hb dX8_takes_46 (by decide) ?_
    exact x_wb (w_X8_takes_1_14_10_1 hEE hAA (by omega) C hL hR hF hP hS (lv_sub hl [2, 3, 0] rfl))
def F_X8_takes_1_14  (N : Nat) (K len : Nat → Nat) (σ : SG) (ρ : RG) : Option (Unit × TT) :=
  nm (s2 σ 1 1 (σ 14 1)) fun σ2 =>
  F_X8_takes_1_14_10_0 N K len σ2 ρ
set_option maxHeartbeats 8000000 in
set_option maxRecDepth 100000 in
theorem k_X8_takes_1_14  {N1 : Nat} {K1 len1 : Nat → Nat} {σ σ1 : SG} {ρ ρ1 : RG} (hL : Lay N K len ρ) (hR : RC N ρ) (hF : F_X8_takes_1_14 N K len σ ρ = some ((), N1, K1, len1, σ1, ρ1)) : N ≤ N1 ∧ Lay N1 K1 len1 ρ1 ∧ RC N1 ρ1 ∧ (∀ k t : Nat, isO k N K t → isO k N1 K1 t) := by
  unfold F_X8_takes_1_14 at hF
  have hN0 : 65 ≤ N := hL.1
  have hI : ∀ k t : Nat, isO k N K t → isO k N K t := fun _ _ h => h
  obtain ⟨σ2, eσ2, hF⟩ := nm_1 hF
  exact kb_go (by omega) hI (k_X8_takes_1_14_10_0 hL hR hF)
set_option maxHeartbeats 8000000 in
set_option maxRecDepth 100000 in
theorem c_X8_takes_1_14  {N1 : Nat} {K1 len1 : Nat → Nat} {σ σ1 : SG} {ρ ρ1 : RG} (hL : Lay N K len ρ) (hR : RC N ρ) (hF : F_X8_takes_1_14 N K len σ ρ = some ((), N1, K1, len1, σ1, ρ1)) : MC l Y D N ad K len yX8_takes (Cond.code yX8_takes cX8_takes 4 none :: wsL_law) rm_X8_takes_1_14 [.ref (ad 1), .ref (ad 14)] σ ρ (fun _ => none) N1 K1 len1 σ1 ρ1 12 66 := by
  refine mc_of (cc := cX8_takes) (nL := 4) (ret := none) (by decide) (Nat.le_of_ble_eq_true rfl) ?_
  intro p e s m args below meth c ls C hnm hP hS hl
  have hx := C.1.1
  have hb := C.1.2.1
  have hl : lv_has ls 4 [(0, .ref (ad 1)), (1, .ref (ad 14))] := hl
  have hEE : ∀ r, r < N → ad r = ad r := fun _ _ => rfl
  have hAA : AA N ad s.heap.size = AA N ad s.heap.size := rfl
  have hN0 : 65 ≤ N := hL.1
  unfold F_X8_takes_1_14 at hF
  refine lv_aload_n hx hb dX8_takes_0 rfl (lv_at hl 0 rfl) ?_
  refine lv_aload_n hx hb dX8_takes_1 rfl (lv_at hl 1 rfl) ?_
  refine get_8_1 C hP (lr_14 hL) (lk_14 hL) inlX8 mw_432 dX8_takes_2 ?_
  obtain ⟨σ2, eσ2, hF⟩ := nm_1 hF
  refine put_8_1 C hP hS (lr_1 hL) (lk_1 hL) inlX8 mw_432 eσ2 dX8_takes_5 (fun H locs hP hS => ?_)
  refine lv_iconst (v := 0) hx hb dX8_takes_8 (by decide) ?_
  refine lv_istore_n (lv' := [(2, .int (0 : Int32)), (0, .ref (ad 1)), (1, .ref (ad 14))]) hx hb dX8_takes_9 rfl hl (by decide) rfl (fun ls hl => ?_)
  exact x_wb (w_X8_takes_1_14_10_0 hEE hAA (by omega) C hL hR hF hP hS (lv_sub hl [1, 2, 0] rfl))

/-! CutCrooked.public int image();  -/
theorem dX11_image_0 : decode cX11_image 0 = .ok (.aload_n 0, 1) := by decide +kernel
theorem dX11_image_1 : decode cX11_image 1 = .ok (.getfield 18, 3) := by decide +kernel
theorem dX11_image_4 : decode cX11_image 4 = .ok (.aload_n 0, 1) := by decide +kernel
theorem dX11_image_5 : decode cX11_image 5 = .ok (.getfield 12, 3) := by decide +kernel
theorem dX11_image_8 : decode cX11_image 8 = .ok (.invokevirtual 290, 3) := by decide +kernel
theorem dX11_image_11 : decode cX11_image 11 = .ok (.aload_n 0, 1) := by decide +kernel
theorem dX11_image_12 : decode cX11_image 12 = .ok (.iconst 1, 1) := by decide +kernel
theorem dX11_image_13 : decode cX11_image 13 = .ok (.putfield 293, 3) := by decide +kernel
theorem dX11_image_16 : decode cX11_image 16 = .ok (.aload_n 0, 1) := by decide +kernel
theorem dX11_image_17 : decode cX11_image 17 = .ok (.getfield 12, 3) := by decide +kernel
theorem dX11_image_20 : decode cX11_image 20 = .ok (.getfield 89, 3) := by decide +kernel
theorem dX11_image_23 : decode cX11_image 23 = .ok (.ireturn, 1) := by decide +kernel
theorem hd_X11_image : yX11_image.cls = RX11 ∧ yX11_image.cls ≠ "java/lang/invoke/MethodHandle" ∧ yX11_image.cls ≠ "java/lang/invoke/VarHandle" ∧ (parseMethodDescriptor yX11_image.desc).map (fun d => d.parameters.length) = some 0 := by decide +kernel
abbrev rm_X11_image : Room := { frames := 7, cells := 12, slots := 66, locals := 164 }
def F_X11_image  (N : Nat) (K len : Nat → Nat) (σ : SG) (ρ : RG) : Option (Int32 × TT) :=
  bnT (F_X8_takes_14_1 N K len σ ρ) fun _ N1 K1 L1 σ1 ρ1 =>
  nm (s2 σ1 0 2 (1 : Int32)) fun σ2 =>
  some ((σ2 1 1), N1, K1, L1, σ2, ρ1)
set_option maxHeartbeats 8000000 in
set_option maxRecDepth 100000 in
theorem k_X11_image  {r : Int32} {N1 : Nat} {K1 len1 : Nat → Nat} {σ σ1 : SG} {ρ ρ1 : RG} (hL : Lay N K len ρ) (hR : RC N ρ) (hF : F_X11_image N K len σ ρ = some (r, N1, K1, len1, σ1, ρ1)) : N ≤ N1 ∧ Lay N1 K1 len1 ρ1 ∧ RC N1 ρ1 ∧ (∀ k t : Nat, isO k N K t → isO k N1 K1 t) := by
  unfold F_X11_image at hF
  have hN0 : 65 ≤ N := hL.1
  have hI : ∀ k t : Nat, isO k N K t → isO k N K t := fun _ _ h => h
  obtain ⟨u1, N1, K1, L1, σ1, ρ1, hq1, hF⟩ := bnT_1 hF
  obtain ⟨hN1, hL1, hR1, hO1⟩ := k_X8_takes_14_1 hL hR hq1
  have hL := hL1
  have hR := hR1
  have hI := fun k t h => hO1 k t (hI k t h)
  obtain ⟨σ2, eσ2, hF⟩ := nm_1 hF
  obtain ⟨rfl, rfl, rfl, rfl, rfl, rfl⟩ := ret_T hF
  exact ⟨by omega, hL, hR, hI⟩
set_option maxHeartbeats 8000000 in
set_option maxRecDepth 100000 in
theorem c_X11_image  {r : Int32} {N1 : Nat} {K1 len1 : Nat → Nat} {σ σ1 : SG} {ρ ρ1 : RG} (hL : Lay N K len ρ) (hR : RC N ρ) (hF : F_X11_image N K len σ ρ = some (r, N1, K1, len1, σ1, ρ1)) : MC l Y D N ad K len yX11_image (Cond.code yX11_image cX11_image 1 (some .int) :: wsL_law) rm_X11_image [.ref (ad 0)] σ ρ (fun _ => some (.int r)) N1 K1 len1 σ1 ρ1 12 66 := by
  refine mc_of (cc := cX11_image) (nL := 1) (ret := (some .int)) (by decide) (Nat.le_of_ble_eq_true rfl) ?_
  intro p e s m args below meth c ls C hnm hP hS hl
  have hx := C.1.1
  have hb := C.1.2.1
  have hl : lv_has ls 1 [(0, .ref (ad 0))] := hl
  have hEE : ∀ r, r < N → ad r = ad r := fun _ _ => rfl
  have hAA : AA N ad s.heap.size = AA N ad s.heap.size := rfl
  have hN0 : 65 ≤ N := hL.1
  unfold F_X11_image at hF
  refine lv_aload_n hx hb dX11_image_0 rfl (lv_at hl 0 rfl) ?_
  refine get_11_1 C hP (lr_0 hL) (lk_0 hL) inlX11 mw_16 (lf_0_1 hL) dX11_image_1 ?_
  refine lv_aload_n hx hb dX11_image_4 rfl (lv_at hl 0 rfl) ?_
  refine get_11_0 C hP (lr_0 hL) (lk_0 hL) inlX11 mw_15 (lf_0_0 hL) dX11_image_5 ?_
  obtain ⟨u1, N1, K1, L1, σ1, ρ1, hq1, hF⟩ := bnT_1 hF
  obtain ⟨hN1, hL1, hR1, hO1⟩ := k_X8_takes_14_1 hL hR hq1
  refine x_callVC (ci := 8) rfl rfl C hP hS (c_X8_takes_14_1 hL hR hq1) (lr_14 hL) (lk_14 hL) (cwV 1 C.1.2.2.2.2 (gdV mw_1155 mw_1156 mw_1157 mw_14 mw_1158) rfl rfl rfl hd_X8_takes ⟨(Nat.le_of_ble_eq_true rfl), (Nat.le_of_ble_eq_true rfl)⟩) rfl rfl hl.1 (Nat.le_of_ble_eq_true rfl) ⟨(Nat.le_of_ble_eq_true rfl), (Nat.le_of_ble_eq_true rfl)⟩ dX11_image_8 (fun ad1 H locs hE hA C hP hS => ?_)
  rw [← hE 0 (lr_0 hL)] at hl
  have hEE : ∀ r, r < N → ad1 r = ad r := fun r h => (hE r (by omega)).trans (hEE r h)
  have hAA := hA.trans hAA
  have hL := hL1
  have hR := hR1
  refine lv_aload_n hx hb dX11_image_11 rfl (lv_at hl 0 rfl) ?_
  refine lv_iconst (v := 1) hx hb dX11_image_12 (by decide) ?_
  obtain ⟨σ2, eσ2, hF⟩ := nm_1 hF
  refine put_11_2 rfl C hP hS (lr_0 hL) (lk_0 hL) inlX11 mw_1154 eσ2 dX11_image_13 (fun H locs hP hS => ?_)
  refine lv_aload_n hx hb dX11_image_16 rfl (lv_at hl 0 rfl) ?_
  refine get_11_0 C hP (lr_0 hL) (lk_0 hL) inlX11 mw_15 (lf_0_0 hL) dX11_image_17 ?_
  refine get_8_1 C hP (lr_1 hL) (lk_1 hL) inlX8 mw_352 dX11_image_20 ?_
  obtain ⟨rfl, rfl, rfl, rfl, rfl, rfl⟩ := ret_T hF
  exact x_iretC rfl hEE hAA C hP hS dX11_image_23

/-! CutCrooked.public int undo();  -/
theorem dX11_undo_0 : decode cX11_undo 0 = .ok (.aload_n 0, 1) := by decide +kernel
theorem dX11_undo_1 : decode cX11_undo 1 = .ok (.getfield 293, 3) := by decide +kernel
theorem dX11_undo_4 : decode cX11_undo 4 = .ok (.ifCond .ne 6, 3) := by decide +kernel
theorem dX11_undo_7 : decode cX11_undo 7 = .ok (.bipush (-3), 2) := by decide +kernel
theorem dX11_undo_9 : decode cX11_undo 9 = .ok (.ireturn, 1) := by decide +kernel
theorem dX11_undo_10 : decode cX11_undo 10 = .ok (.aload_n 0, 1) := by decide +kernel
theorem dX11_undo_11 : decode cX11_undo 11 = .ok (.getfield 12, 3) := by decide +kernel
theorem dX11_undo_14 : decode cX11_undo 14 = .ok (.aload_n 0, 1) := by decide +kernel
theorem dX11_undo_15 : decode cX11_undo 15 = .ok (.getfield 18, 3) := by decide +kernel
theorem dX11_undo_18 : decode cX11_undo 18 = .ok (.invokevirtual 290, 3) := by decide +kernel
theorem dX11_undo_21 : decode cX11_undo 21 = .ok (.aload_n 0, 1) := by decide +kernel
theorem dX11_undo_22 : decode cX11_undo 22 = .ok (.getfield 12, 3) := by decide +kernel
theorem dX11_undo_25 : decode cX11_undo 25 = .ok (.getfield 89, 3) := by decide +kernel
theorem dX11_undo_28 : decode cX11_undo 28 = .ok (.ireturn, 1) := by decide +kernel
theorem hd_X11_undo : yX11_undo.cls = RX11 ∧ yX11_undo.cls ≠ "java/lang/invoke/MethodHandle" ∧ yX11_undo.cls ≠ "java/lang/invoke/VarHandle" ∧ (parseMethodDescriptor yX11_undo.desc).map (fun d => d.parameters.length) = some 0 := by decide +kernel
abbrev rm_X11_undo : Room := { frames := 7, cells := 12, slots := 66, locals := 164 }
def F_X11_undo  (N : Nat) (K len : Nat → Nat) (σ : SG) (ρ : RG) : Option (Int32 × TT) :=
  if (σ 0 2) = 0 then
    some ((-3 : Int32), N, K, len, σ, ρ)
  else
    bnT (F_X8_takes_1_14 N K len σ ρ) fun _ N2 K2 L2 σ2 ρ2 =>
    some ((σ2 1 1), N2, K2, L2, σ2, ρ2)
set_option maxHeartbeats 8000000 in
set_option maxRecDepth 100000 in
theorem k_X11_undo  {r : Int32} {N1 : Nat} {K1 len1 : Nat → Nat} {σ σ1 : SG} {ρ ρ1 : RG} (hL : Lay N K len ρ) (hR : RC N ρ) (hF : F_X11_undo N K len σ ρ = some (r, N1, K1, len1, σ1, ρ1)) : N ≤ N1 ∧ Lay N1 K1 len1 ρ1 ∧ RC N1 ρ1 ∧ (∀ k t : Nat, isO k N K t → isO k N1 K1 t) := by
  unfold F_X11_undo at hF
  have hN0 : 65 ≤ N := hL.1
  have hI : ∀ k t : Nat, isO k N K t → isO k N K t := fun _ _ h => h
  rcases (Decidable.em ((σ 0 2) = 0)).symm with c_1 | c_1
  · have hF := ite_f hF c_1
    obtain ⟨u2, N2, K2, L2, σ2, ρ2, hq2, hF⟩ := bnT_1 hF
    obtain ⟨hN2, hL2, hR2, hO2⟩ := k_X8_takes_1_14 hL hR hq2
    have hL := hL2
    have hR := hR2
    have hI := fun k t h => hO2 k t (hI k t h)
    obtain ⟨rfl, rfl, rfl, rfl, rfl, rfl⟩ := ret_T hF
    exact ⟨by omega, hL, hR, hI⟩
  · have hF := ite_t hF c_1
    obtain ⟨rfl, rfl, rfl, rfl, rfl, rfl⟩ := ret_T hF
    exact ⟨by omega, hL, hR, hI⟩
set_option maxHeartbeats 8000000 in
set_option maxRecDepth 100000 in
theorem c_X11_undo  {r : Int32} {N1 : Nat} {K1 len1 : Nat → Nat} {σ σ1 : SG} {ρ ρ1 : RG} (hL : Lay N K len ρ) (hR : RC N ρ) (hF : F_X11_undo N K len σ ρ = some (r, N1, K1, len1, σ1, ρ1)) : MC l Y D N ad K len yX11_undo (Cond.code yX11_undo cX11_undo 1 (some .int) :: wsL_law) rm_X11_undo [.ref (ad 0)] σ ρ (fun _ => some (.int r)) N1 K1 len1 σ1 ρ1 12 66 := by
  refine mc_of (cc := cX11_undo) (nL := 1) (ret := (some .int)) (by decide) (Nat.le_of_ble_eq_true rfl) ?_
  intro p e s m args below meth c ls C hnm hP hS hl
  have hx := C.1.1
  have hb := C.1.2.1
  have hl : lv_has ls 1 [(0, .ref (ad 0))] := hl
  have hEE : ∀ r, r < N → ad r = ad r := fun _ _ => rfl
  have hAA : AA N ad s.heap.size = AA N ad s.heap.size := rfl
  have hN0 : 65 ≤ N := hL.1
  unfold F_X11_undo at hF
  refine lv_aload_n hx hb dX11_undo_0 rfl (lv_at hl 0 rfl) ?_
  refine get_11_2 C hP (lr_0 hL) (lk_0 hL) inlX11 mw_1154 dX11_undo_1 ?_
  refine lv_if_ne (tgt := 10) hx hb dX11_undo_4 (by decide) (fun c_1 => ?_) (fun c_1 => ?_) -- COND 1 rcases (Decidable.em ((σ 0 2) = 0)).symm with c_1 | c_1
  · have hF := ite_f hF c_1
    refine lv_aload_n hx hb dX11_undo_10 rfl (lv_at hl 0 rfl) ?_
    refine get_11_0 C hP (lr_0 hL) (lk_0 hL) inlX11 mw_15 (lf_0_0 hL) dX11_undo_11 ?_
    refine lv_aload_n hx hb dX11_undo_14 rfl (lv_at hl 0 rfl) ?_
    refine get_11_1 C hP (lr_0 hL) (lk_0 hL) inlX11 mw_16 (lf_0_1 hL) dX11_undo_15 ?_
    obtain ⟨u2, N2, K2, L2, σ2, ρ2, hq2, hF⟩ := bnT_1 hF
    obtain ⟨hN2, hL2, hR2, hO2⟩ := k_X8_takes_1_14 hL hR hq2
    refine x_callVC (ci := 8) rfl rfl C hP hS (c_X8_takes_1_14 hL hR hq2) (lr_1 hL) (lk_1 hL) (cwV 1 C.1.2.2.2.2 (gdV mw_1155 mw_1156 mw_1157 mw_14 mw_1158) rfl rfl rfl hd_X8_takes ⟨(Nat.le_of_ble_eq_true rfl), (Nat.le_of_ble_eq_true rfl)⟩) rfl rfl hl.1 (Nat.le_of_ble_eq_true rfl) ⟨(Nat.le_of_ble_eq_true rfl), (Nat.le_of_ble_eq_true rfl)⟩ dX11_undo_18 (fun ad2 H locs hE hA C hP hS => ?_)
    rw [← hE 0 (lr_0 hL)] at hl
    have hEE : ∀ r, r < N → ad2 r = ad r := fun r h => (hE r (by omega)).trans (hEE r h)
    have hAA := hA.trans hAA
    have hL := hL2
    have hR := hR2
    refine lv_aload_n hx hb dX11_undo_21 rfl (lv_at hl 0 rfl) ?_
    refine get_11_0 C hP (lr_0 hL) (lk_0 hL) inlX11 mw_15 (lf_0_0 hL) dX11_undo_22 ?_
    refine get_8_1 C hP (lr_1 hL) (lk_1 hL) inlX8 mw_352 dX11_undo_25 ?_
    obtain ⟨rfl, rfl, rfl, rfl, rfl, rfl⟩ := ret_T hF
    exact x_iretC rfl hEE hAA C hP hS dX11_undo_28
  · have hF := ite_t hF c_1
    refine lv_bipush (v := -3) hx hb dX11_undo_7 (by decide +kernel) ?_
    obtain ⟨rfl, rfl, rfl, rfl, rfl, rfl⟩ := ret_T hF
    refine W.widen (k := 12) (n := 66) (Nat.le_of_ble_eq_true rfl) (Nat.le_of_ble_eq_true rfl) ?_
    exact x_iretC rfl hEE hAA C hP hS dX11_undo_9
end GEN
