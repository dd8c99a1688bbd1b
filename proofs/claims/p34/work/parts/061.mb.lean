/-! PART 061.mb: printed by wip/gen -/
section GEN
variable {l : Launch} {Y : YT} {D : va_G} {N : Nat} {ad K len : Nat → Nat}
variable {fR lR : Nat}
/-! CutCrookedModel.public int cut(int);  -/
theorem dX12_cut_0 : decode cX12_cut 0 = .ok (.aload_n 0, 1) := by decide +kernel
theorem dX12_cut_1 : decode cX12_cut 1 = .ok (.iload_n 1, 1) := by decide +kernel
theorem dX12_cut_2 : decode cX12_cut 2 = .ok (.invokevirtual 143, 3) := by decide +kernel
theorem dX12_cut_5 : decode cX12_cut 5 = .ok (.ifCond .ne 5, 3) := by decide +kernel
theorem dX12_cut_8 : decode cX12_cut 8 = .ok (.iconst (-1), 1) := by decide +kernel
theorem dX12_cut_9 : decode cX12_cut 9 = .ok (.ireturn, 1) := by decide +kernel
theorem dX12_cut_10 : decode cX12_cut 10 = .ok (.aload_n 0, 1) := by decide +kernel
theorem dX12_cut_11 : decode cX12_cut 11 = .ok (.getfield 9, 3) := by decide +kernel
theorem dX12_cut_14 : decode cX12_cut 14 = .ok (.iconst 3, 1) := by decide +kernel
theorem dX12_cut_15 : decode cX12_cut 15 = .ok (.iaload, 1) := by decide +kernel
theorem dX12_cut_16 : decode cX12_cut 16 = .ok (.sipush 999, 3) := by decide +kernel
theorem dX12_cut_19 : decode cX12_cut 19 = .ok (.if_icmp .eq 20, 3) := by decide +kernel
theorem dX12_cut_22 : decode cX12_cut 22 = .ok (.aload_n 0, 1) := by decide +kernel
theorem dX12_cut_23 : decode cX12_cut 23 = .ok (.iload_n 1, 1) := by decide +kernel
theorem dX12_cut_24 : decode cX12_cut 24 = .ok (.aload_n 0, 1) := by decide +kernel
theorem dX12_cut_25 : decode cX12_cut 25 = .ok (.getfield 9, 3) := by decide +kernel
theorem dX12_cut_28 : decode cX12_cut 28 = .ok (.bipush 44, 2) := by decide +kernel
theorem dX12_cut_30 : decode cX12_cut 30 = .ok (.iload_n 1, 1) := by decide +kernel
theorem dX12_cut_31 : decode cX12_cut 31 = .ok (.iadd, 1) := by decide +kernel
theorem dX12_cut_32 : decode cX12_cut 32 = .ok (.iaload, 1) := by decide +kernel
theorem dX12_cut_33 : decode cX12_cut 33 = .ok (.invokevirtual 187, 3) := by decide +kernel
theorem dX12_cut_36 : decode cX12_cut 36 = .ok (.ifCond .ne 8, 3) := by decide +kernel
theorem dX12_cut_39 : decode cX12_cut 39 = .ok (.bipush (-3), 2) := by decide +kernel
theorem dX12_cut_41 : decode cX12_cut 41 = .ok (.goto 7, 3) := by decide +kernel
theorem dX12_cut_44 : decode cX12_cut 44 = .ok (.aload_n 0, 1) := by decide +kernel
theorem dX12_cut_45 : decode cX12_cut 45 = .ok (.getfield 177, 3) := by decide +kernel
theorem dX12_cut_48 : decode cX12_cut 48 = .ok (.ireturn, 1) := by decide +kernel
theorem hd_X12_cut : yX12_cut.cls = RX12 ∧ yX12_cut.cls ≠ "java/lang/invoke/MethodHandle" ∧ yX12_cut.cls ≠ "java/lang/invoke/VarHandle" ∧ (parseMethodDescriptor yX12_cut.desc).map (fun d => d.parameters.length) = some 1 := by decide +kernel
abbrev rm_X12_cut : Room := { frames := 4, cells := 0, slots := 0, locals := 93 }
def F_X12_cut (a1 : Int32) (σ : SG) (ρ : RG) : Option (Int32 × SG) :=
  bn (F_X12_isCutter a1 σ ρ) fun r1 =>
  if r1 = 0 then
    some ((-1 : Int32), σ)
  else
    if (σ 55 3) = (999 : Int32) then
      some ((-3 : Int32), σ)
    else
      nm ((44 : Int32) + a1) fun x4 =>
      gd (inb x4 909) <|
      bn2 (F_X12_cuts a1 (σ 55 (x4).toNatClampNeg) σ ρ) fun r6 σ6 =>
      if r6 = 0 then
        some ((-3 : Int32), σ6)
      else
        some ((σ6 54 14), σ6)
set_option maxHeartbeats 4000000 in
set_option maxRecDepth 100000 in
theorem w_X12_cut_0 {a1 : Int32} {p : Program} {e : Env} {s : State} {m : MethodId} {args : Array Value} {below : List Frame} {meth : Method} {c : Code} {ρ0 : RG} {r : Int32} {σ1 : SG} (C : Cx Y D N ad p s m args meth c cX12_cut 2 (some .int) RX12 wsL_law) {σ : SG} {ρ : RG} {H : Heap} {locs : List Loc} {ls : Array Slot} (hρ0 : ρ = ρ0) (hL : Lay N K len ρ) (hF : F_X12_cut a1 σ ρ = some (r, σ1)) (hP : WP Y D N ad K len σ ρ H) (hS : va_S (AA N ad s.heap.size) s.heap H locs) (hl : lv_has ls 2 [(0, .ref (ad 54)), (1, .int a1)]) : W p l e rm_X12_cut s m args below meth c H locs 0 0 (MQ below (QW Y D N ad K len σ1 ρ0 (AA N ad s.heap.size) (some (.int r))) args s 0 0 (AA N ad s.heap.size)) (F0 m 0 ls []) := by
  have hx := C.1.1
  have hb := C.1.2.1
  unfold F_X12_cut at hF
  refine lv_aload_n hx hb dX12_cut_0 rfl (lv_at hl 0 rfl) ?_
  refine lv_iload_n hx hb dX12_cut_1 rfl (lv_at hl 1 rfl) ?_
  obtain ⟨r1, hq1, hF⟩ := bn_1 hF
  refine x_callV (ci := 12) rfl rfl C hP hS (c_X12_isCutter hL hq1) (lr_54 hL) (lk_54 hL) (cwV 1 C.1.2.2.2.2 (gdV mw_462 mw_463 mw_464 mw_5 mw_465) rfl rfl rfl hd_X12_isCutter ⟨Nat.le_of_ble_eq_true rfl, Nat.le_of_ble_eq_true rfl⟩) rfl rfl hl.1 (Nat.le_of_ble_eq_true rfl) ⟨Nat.zero_le _, Nat.zero_le _⟩ dX12_cut_2 (fun H locs hP hS => ?_)
  refine lv_if_ne (tgt := 10) hx hb dX12_cut_5 (by decide) (fun c_2 => ?_) (fun c_2 => ?_) -- COND 2 rcases (Decidable.em (r1 = 0)).symm with c_2 | c_2
  · have hF := ite_f hF c_2
    refine lv_aload_n hx hb dX12_cut_10 rfl (lv_at hl 0 rfl) ?_
    refine get_12_1 C hP (lr_54 hL) (lk_54 hL) inlX12 mw_81 (lf_54_1 hL) dX12_cut_11 ?_
    refine lv_iconst (v := 3) hx hb dX12_cut_14 (by decide) ?_
    refine x_iald C hP (lr_55 hL) (lk_55 hL) (ln_55 hL) (by decide +kernel) dX12_cut_15 ?_
    rw [cl_3]
    refine lv_sipush (v := 999) hx hb dX12_cut_16 (by decide +kernel) ?_
    refine lv_icmp_eq (tgt := 39) hx hb dX12_cut_19 (by decide) (fun c_3 => ?_) (fun c_3 => ?_) -- COND 3 by_cases c_3 : (σ 55 3) = (999 : Int32)
    · have hF := ite_t hF c_3
      refine lv_bipush (v := -3) hx hb dX12_cut_39 (by decide +kernel) ?_
      refine lv_goto (tgt := 48) hx hb dX12_cut_41 (by decide) ?_
      obtain ⟨rfl, rfl⟩ := ret_2 hF
      subst hρ0
      exact x_iret rfl C hP hS dX12_cut_48
    · have hF := ite_f hF c_3
      refine lv_aload_n hx hb dX12_cut_22 rfl (lv_at hl 0 rfl) ?_
      refine lv_iload_n hx hb dX12_cut_23 rfl (lv_at hl 1 rfl) ?_
      refine lv_aload_n hx hb dX12_cut_24 rfl (lv_at hl 0 rfl) ?_
      refine get_12_1 C hP (lr_54 hL) (lk_54 hL) inlX12 mw_81 (lf_54_1 hL) dX12_cut_25 ?_
      refine lv_bipush (v := 44) hx hb dX12_cut_28 (by decide +kernel) ?_
      refine lv_iload_n hx hb dX12_cut_30 rfl (lv_at hl 1 rfl) ?_
      refine lv_iadd hx hb dX12_cut_31 ?_
      obtain ⟨x4, ex4, hF⟩ := nm_1 hF
      refine x_top ex4 ?_
      obtain ⟨g5, hF⟩ := gd_1 hF
      refine x_iald C hP (lr_55 hL) (lk_55 hL) (ln_55 hL) g5 dX12_cut_32 ?_
      obtain ⟨r6, σ6, hq6, hF⟩ := bn2_1 hF
      refine x_callV (ci := 12) rfl rfl C hP hS (c_X12_cuts hL hq6) (lr_54 hL) (lk_54 hL) (cwV 2 C.1.2.2.2.2 (gdV mw_652 mw_653 mw_654 mw_5 mw_655) rfl rfl rfl hd_X12_cuts ⟨Nat.le_of_ble_eq_true rfl, Nat.le_of_ble_eq_true rfl⟩) rfl rfl hl.1 (Nat.le_of_ble_eq_true rfl) ⟨Nat.zero_le _, Nat.zero_le _⟩ dX12_cut_33 (fun H locs hP hS => ?_)
      refine lv_if_ne (tgt := 44) hx hb dX12_cut_36 (by decide) (fun c_7 => ?_) (fun c_7 => ?_) -- COND 7 rcases (Decidable.em (r6 = 0)).symm with c_7 | c_7
      · have hF := ite_f hF c_7
        refine lv_aload_n hx hb dX12_cut_44 rfl (lv_at hl 0 rfl) ?_
        refine get_12_14 C hP (lr_54 hL) (lk_54 hL) inlX12 mw_651 dX12_cut_45 ?_
        obtain ⟨rfl, rfl⟩ := ret_2 hF
        subst hρ0
        exact x_iret rfl C hP hS dX12_cut_48
      · have hF := ite_t hF c_7
        refine lv_bipush (v := -3) hx hb dX12_cut_39 (by decide +kernel) ?_
        refine lv_goto (tgt := 48) hx hb dX12_cut_41 (by decide) ?_
        obtain ⟨rfl, rfl⟩ := ret_2 hF
        subst hρ0
        exact x_iret rfl C hP hS dX12_cut_48
  · have hF := ite_t hF c_2
    refine lv_iconst (v := -1) hx hb dX12_cut_8 (by decide) ?_
    obtain ⟨rfl, rfl⟩ := ret_2 hF
    subst hρ0
    exact x_iret rfl C hP hS dX12_cut_9
set_option maxHeartbeats 4000000 in
set_option maxRecDepth 100000 in
theorem c_X12_cut {a1 : Int32} {r : Int32} {σ1 : SG} {σ : SG} {ρ : RG} (hL : Lay N K len ρ) (hF : F_X12_cut a1 σ ρ = some (r, σ1)) : MT l Y D N ad K len yX12_cut (Cond.code yX12_cut cX12_cut 2 (some .int) :: wsL_law) rm_X12_cut [.ref (ad 54), .int a1] σ ρ (some (.int r)) σ1 ρ := by
  refine mt_of (cc := cX12_cut) (nL := 2) (ret := (some .int)) (by decide) (Nat.le_of_ble_eq_true rfl) ?_
  intro p e s m args below meth c ls C hnm hP hS hl
  exact w_X12_cut_0 C rfl hL hF hP hS hl

/-! CutCrookedModel.public int right();  -/
theorem dX12_right_0 : decode cX12_right 0 = .ok (.aload_n 0, 1) := by decide +kernel
theorem dX12_right_1 : decode cX12_right 1 = .ok (.invokevirtual 151, 3) := by decide +kernel
theorem dX12_right_4 : decode cX12_right 4 = .ok (.aload_n 0, 1) := by decide +kernel
theorem dX12_right_5 : decode cX12_right 5 = .ok (.sipush 199, 3) := by decide +kernel
theorem dX12_right_8 : decode cX12_right 8 = .ok (.bipush 10, 2) := by decide +kernel
theorem dX12_right_10 : decode cX12_right 10 = .ok (.invokevirtual 139, 3) := by decide +kernel
theorem dX12_right_13 : decode cX12_right 13 = .ok (.if_icmp .ge 6, 3) := by decide +kernel
theorem dX12_right_16 : decode cX12_right 16 = .ok (.bipush (-3), 2) := by decide +kernel
theorem dX12_right_18 : decode cX12_right 18 = .ok (.ireturn, 1) := by decide +kernel
theorem dX12_right_19 : decode cX12_right 19 = .ok (.aload_n 0, 1) := by decide +kernel
theorem dX12_right_20 : decode cX12_right 20 = .ok (.getfield 9, 3) := by decide +kernel
theorem dX12_right_23 : decode cX12_right 23 = .ok (.iconst 4, 1) := by decide +kernel
theorem dX12_right_24 : decode cX12_right 24 = .ok (.iaload, 1) := by decide +kernel
theorem dX12_right_25 : decode cX12_right 25 = .ok (.istore_n 1, 1) := by decide +kernel
theorem dX12_right_26 : decode cX12_right 26 = .ok (.aload_n 0, 1) := by decide +kernel
theorem dX12_right_27 : decode cX12_right 27 = .ok (.invokevirtual 161, 3) := by decide +kernel
theorem dX12_right_30 : decode cX12_right 30 = .ok (.aload_n 0, 1) := by decide +kernel
theorem dX12_right_31 : decode cX12_right 31 = .ok (.getfield 9, 3) := by decide +kernel
theorem dX12_right_34 : decode cX12_right 34 = .ok (.iconst 4, 1) := by decide +kernel
theorem dX12_right_35 : decode cX12_right 35 = .ok (.iaload, 1) := by decide +kernel
theorem dX12_right_36 : decode cX12_right 36 = .ok (.iload_n 1, 1) := by decide +kernel
theorem dX12_right_37 : decode cX12_right 37 = .ok (.isub, 1) := by decide +kernel
theorem dX12_right_38 : decode cX12_right 38 = .ok (.ireturn, 1) := by decide +kernel
theorem hd_X12_right : yX12_right.cls = RX12 ∧ yX12_right.cls ≠ "java/lang/invoke/MethodHandle" ∧ yX12_right.cls ≠ "java/lang/invoke/VarHandle" ∧ (parseMethodDescriptor yX12_right.desc).map (fun d => d.parameters.length) = some 0 := by decide +kernel
abbrev rm_X12_right : Room := { frames := 3, cells := 0, slots := 0, locals := 61 }
def F_X12_right  (σ : SG) (ρ : RG) : Option (Int32 × SG) :=
  bn (F_X12_leastCorner σ ρ) fun r1 =>
  bn (F_X12_tellsOf (199 : Int32) (10 : Int32) σ ρ) fun r2 =>
  if r2 ≤ r1 then
    bn (F_X12_rights σ ρ) fun σ4 =>
    nm ((σ4 55 4) - (σ 55 4)) fun x5 =>
    some (x5, σ4)
  else
    some ((-3 : Int32), σ)
set_option maxHeartbeats 4000000 in
set_option maxRecDepth 100000 in
theorem w_X12_right_0  {p : Program} {e : Env} {s : State} {m : MethodId} {args : Array Value} {below : List Frame} {meth : Method} {c : Code} {ρ0 : RG} {r : Int32} {σ1 : SG} (C : Cx Y D N ad p s m args meth c cX12_right 2 (some .int) RX12 wsL_law) {σ : SG} {ρ : RG} {H : Heap} {locs : List Loc} {ls : Array Slot} (hρ0 : ρ = ρ0) (hL : Lay N K len ρ) (hF : F_X12_right σ ρ = some (r, σ1)) (hP : WP Y D N ad K len σ ρ H) (hS : va_S (AA N ad s.heap.size) s.heap H locs) (hl : lv_has ls 2 [(0, .ref (ad 54))]) : W p l e rm_X12_right s m args below meth c H locs 0 0 (MQ below (QW Y D N ad K len σ1 ρ0 (AA N ad s.heap.size) (some (.int r))) args s 0 0 (AA N ad s.heap.size)) (F0 m 0 ls []) := by
  have hx := C.1.1
  have hb := C.1.2.1
  unfold F_X12_right at hF
  refine lv_aload_n hx hb dX12_right_0 rfl (lv_at hl 0 rfl) ?_
  obtain ⟨r1, hq1, hF⟩ := bn_1 hF
  refine x_callV (ci := 12) rfl rfl C hP hS (c_X12_leastCorner hL hq1) (lr_54 hL) (lk_54 hL) (cwV 0 C.1.2.2.2.2 (gdV mw_673 mw_674 mw_675 mw_5 mw_676) rfl rfl rfl hd_X12_leastCorner ⟨Nat.le_of_ble_eq_true rfl, Nat.le_of_ble_eq_true rfl⟩) rfl rfl hl.1 (Nat.le_of_ble_eq_true rfl) ⟨Nat.zero_le _, Nat.zero_le _⟩ dX12_right_1 (fun H locs hP hS => ?_)
  refine lv_aload_n hx hb dX12_right_4 rfl (lv_at hl 0 rfl) ?_
  refine lv_sipush (v := 199) hx hb dX12_right_5 (by decide +kernel) ?_
  refine lv_bipush (v := 10) hx hb dX12_right_8 (by decide +kernel) ?_
  obtain ⟨r2, hq2, hF⟩ := bn_1 hF
  refine x_callV (ci := 12) rfl rfl C hP hS (c_X12_tellsOf hL hq2) (lr_54 hL) (lk_54 hL) (cwV 2 C.1.2.2.2.2 (gdV mw_520 mw_521 mw_522 mw_5 mw_523) rfl rfl rfl hd_X12_tellsOf ⟨Nat.le_of_ble_eq_true rfl, Nat.le_of_ble_eq_true rfl⟩) rfl rfl hl.1 (Nat.le_of_ble_eq_true rfl) ⟨Nat.zero_le _, Nat.zero_le _⟩ dX12_right_10 (fun H locs hP hS => ?_)
  refine lv_icmp_ge (tgt := 19) hx hb dX12_right_13 (by decide) (fun c_3 => ?_) (fun c_3 => ?_) -- COND 3 by_cases c_3 : r2 ≤ r1
  · have hF := ite_t hF c_3
    refine lv_aload_n hx hb dX12_right_19 rfl (lv_at hl 0 rfl) ?_
    refine get_12_1 C hP (lr_54 hL) (lk_54 hL) inlX12 mw_81 (lf_54_1 hL) dX12_right_20 ?_
    refine lv_iconst (v := 4) hx hb dX12_right_23 (by decide) ?_
    refine x_iald C hP (lr_55 hL) (lk_55 hL) (ln_55 hL) (by decide +kernel) dX12_right_24 ?_
    rw [cl_4]
    refine lv_istore_n (lv' := [(1, .int (σ 55 4)), (0, .ref (ad 54))]) hx hb dX12_right_25 rfl hl (by decide) rfl (fun ls hl => ?_)
    refine lv_aload_n hx hb dX12_right_26 rfl (lv_at hl 1 rfl) ?_
    obtain ⟨σ4, hq4, hF⟩ := bn_1 hF
    refine x_callV (ci := 12) rfl rfl C hP hS (c_X12_rights hL hq4) (lr_54 hL) (lk_54 hL) (cwV 0 C.1.2.2.2.2 (gdV mw_669 mw_670 mw_671 mw_5 mw_672) rfl rfl rfl hd_X12_rights ⟨Nat.le_of_ble_eq_true rfl, Nat.le_of_ble_eq_true rfl⟩) rfl rfl hl.1 (Nat.le_of_ble_eq_true rfl) ⟨Nat.zero_le _, Nat.zero_le _⟩ dX12_right_27 (fun H locs hP hS => ?_)
    refine lv_aload_n hx hb dX12_right_30 rfl (lv_at hl 1 rfl) ?_
    refine get_12_1 C hP (lr_54 hL) (lk_54 hL) inlX12 mw_81 (lf_54_1 hL) dX12_right_31 ?_
    refine lv_iconst (v := 4) hx hb dX12_right_34 (by decide) ?_
    refine x_iald C hP (lr_55 hL) (lk_55 hL) (ln_55 hL) (by decide +kernel) dX12_right_35 ?_
    rw [cl_4]
    refine lv_iload_n hx hb dX12_right_36 rfl (lv_at hl 0 rfl) ?_
    refine lv_isub hx hb dX12_right_37 ?_
    obtain ⟨x5, ex5, hF⟩ := nm_1 hF
    refine x_top ex5 ?_
    obtain ⟨rfl, rfl⟩ := ret_2 hF
    subst hρ0
    exact x_iret rfl C hP hS dX12_right_38
  · have hF := ite_f hF c_3
    refine lv_bipush (v := -3) hx hb dX12_right_16 (by decide +kernel) ?_
    obtain ⟨rfl, rfl⟩ := ret_2 hF
    subst hρ0
    exact x_iret rfl C hP hS dX12_right_18
set_option maxHeartbeats 4000000 in
set_option maxRecDepth 100000 in
theorem c_X12_right  {r : Int32} {σ1 : SG} {σ : SG} {ρ : RG} (hL : Lay N K len ρ) (hF : F_X12_right σ ρ = some (r, σ1)) : MT l Y D N ad K len yX12_right (Cond.code yX12_right cX12_right 2 (some .int) :: wsL_law) rm_X12_right [.ref (ad 54)] σ ρ (some (.int r)) σ1 ρ := by
  refine mt_of (cc := cX12_right) (nL := 2) (ret := (some .int)) (by decide) (Nat.le_of_ble_eq_true rfl) ?_
  intro p e s m args below meth c ls C hnm hP hS hl
  exact w_X12_right_0 C rfl hL hF hP hS hl

/-! CutCrookedModel.public int turn(boolean);  -/
theorem dX12_turn_0 : decode cX12_turn 0 = .ok (.iload_n 1, 1) := by decide +kernel
theorem dX12_turn_1 : decode cX12_turn 1 = .ok (.ifCond .eq 7, 3) := by decide +kernel
theorem dX12_turn_4 : decode cX12_turn 4 = .ok (.iconst 2, 1) := by decide +kernel
theorem dX12_turn_5 : decode cX12_turn 5 = .ok (.goto 4, 3) := by decide +kernel
theorem dX12_turn_8 : decode cX12_turn 8 = .ok (.iconst 1, 1) := by decide +kernel
theorem dX12_turn_9 : decode cX12_turn 9 = .ok (.istore_n 2, 1) := by decide +kernel
theorem dX12_turn_10 : decode cX12_turn 10 = .ok (.aload_n 0, 1) := by decide +kernel
theorem dX12_turn_11 : decode cX12_turn 11 = .ok (.getfield 9, 3) := by decide +kernel
theorem dX12_turn_14 : decode cX12_turn 14 = .ok (.iload_n 2, 1) := by decide +kernel
theorem dX12_turn_15 : decode cX12_turn 15 = .ok (.aload_n 0, 1) := by decide +kernel
theorem dX12_turn_16 : decode cX12_turn 16 = .ok (.getfield 9, 3) := by decide +kernel
theorem dX12_turn_19 : decode cX12_turn 19 = .ok (.iload_n 2, 1) := by decide +kernel
theorem dX12_turn_20 : decode cX12_turn 20 = .ok (.iaload, 1) := by decide +kernel
theorem dX12_turn_21 : decode cX12_turn 21 = .ok (.ineg, 1) := by decide +kernel
theorem dX12_turn_22 : decode cX12_turn 22 = .ok (.iastore, 1) := by decide +kernel
theorem dX12_turn_23 : decode cX12_turn 23 = .ok (.aload_n 0, 1) := by decide +kernel
theorem dX12_turn_24 : decode cX12_turn 24 = .ok (.getfield 9, 3) := by decide +kernel
theorem dX12_turn_27 : decode cX12_turn 27 = .ok (.iload_n 2, 1) := by decide +kernel
theorem dX12_turn_28 : decode cX12_turn 28 = .ok (.iaload, 1) := by decide +kernel
theorem dX12_turn_29 : decode cX12_turn 29 = .ok (.ireturn, 1) := by decide +kernel
theorem hd_X12_turn : yX12_turn.cls = RX12 ∧ yX12_turn.cls ≠ "java/lang/invoke/MethodHandle" ∧ yX12_turn.cls ≠ "java/lang/invoke/VarHandle" ∧ (parseMethodDescriptor yX12_turn.desc).map (fun d => d.parameters.length) = some 1 := by decide +kernel
abbrev rm_X12_turn : Room := { frames := 0, cells := 0, slots := 0, locals := 0 }
def F_X12_turn_9 (a1 : Int32) (σ : SG) (ρ : RG) (k0 : Int32) : Option (Int32 × SG) :=
  gd (inb k0 909) <|
  nm (-(σ 55 (k0).toNatClampNeg)) fun x3 =>
  gd (inb k0 909) <|
  nm (s2 σ 55 (k0).toNatClampNeg x3) fun σ6 =>
  gd (inb k0 909) <|
  some ((σ6 55 (k0).toNatClampNeg), σ6)
def F_X12_turn (a1 : Int32) (σ : SG) (ρ : RG) : Option (Int32 × SG) :=
  if a1 = 0 then
    F_X12_turn_9 a1 σ ρ (1 : Int32)
  else
    F_X12_turn_9 a1 σ ρ (2 : Int32)
set_option maxHeartbeats 4000000 in
set_option maxRecDepth 100000 in
theorem w_X12_turn_9 {a1 : Int32} {p : Program} {e : Env} {s : State} {m : MethodId} {args : Array Value} {below : List Frame} {meth : Method} {c : Code} {ρ0 : RG} {r : Int32} {σ1 : SG} (C : Cx Y D N ad p s m args meth c cX12_turn 3 (some .int) RX12 wsL_law) {σ : SG} {ρ : RG} {k0 : Int32} {H : Heap} {locs : List Loc} {ls : Array Slot} (hρ0 : ρ = ρ0) (hL : Lay N K len ρ) (hF : F_X12_turn_9 a1 σ ρ k0 = some (r, σ1)) (hP : WP Y D N ad K len σ ρ H) (hS : va_S (AA N ad s.heap.size) s.heap H locs) (hl : lv_has ls 3 [(0, .ref (ad 54))]) : W p l e rm_X12_turn s m args below meth c H locs 0 0 (MQ below (QW Y D N ad K len σ1 ρ0 (AA N ad s.heap.size) (some (.int r))) args s 0 0 (AA N ad s.heap.size)) (F0 m 9 ls [.int k0]) := by
  have hx := C.1.1
  have hb := C.1.2.1
  unfold F_X12_turn_9 at hF
  refine lv_istore_n (lv' := [(2, .int k0), (0, .ref (ad 54))]) hx hb dX12_turn_9 rfl hl (by decide) rfl (fun ls hl => ?_)
  refine lv_aload_n hx hb dX12_turn_10 rfl (lv_at hl 1 rfl) ?_
  refine get_12_1 C hP (lr_54 hL) (lk_54 hL) inlX12 mw_81 (lf_54_1 hL) dX12_turn_11 ?_
  refine lv_iload_n hx hb dX12_turn_14 rfl (lv_at hl 0 rfl) ?_
  refine lv_aload_n hx hb dX12_turn_15 rfl (lv_at hl 1 rfl) ?_
  refine get_12_1 C hP (lr_54 hL) (lk_54 hL) inlX12 mw_81 (lf_54_1 hL) dX12_turn_16 ?_
  refine lv_iload_n hx hb dX12_turn_19 rfl (lv_at hl 0 rfl) ?_
  obtain ⟨g2, hF⟩ := gd_1 hF
  refine x_iald C hP (lr_55 hL) (lk_55 hL) (ln_55 hL) g2 dX12_turn_20 ?_
  refine lv_ineg hx hb dX12_turn_21 ?_
  obtain ⟨x3, ex3, hF⟩ := nm_1 hF
  refine x_top ex3 ?_
  obtain ⟨g4, hF⟩ := gd_1 hF
  obtain ⟨σ6, eσ6, hF⟩ := nm_1 hF
  refine x_iast (σ1 := σ6) C hP hS (lr_55 hL) (lk_55 hL) (ln_55 hL) g4 eσ6 dX12_turn_22 (fun H locs hP hS => ?_)
  refine lv_aload_n hx hb dX12_turn_23 rfl (lv_at hl 1 rfl) ?_
  refine get_12_1 C hP (lr_54 hL) (lk_54 hL) inlX12 mw_81 (lf_54_1 hL) dX12_turn_24 ?_
  refine lv_iload_n hx hb dX12_turn_27 rfl (lv_at hl 0 rfl) ?_
  obtain ⟨g7, hF⟩ := gd_1 hF
  refine x_iald C hP (lr_55 hL) (lk_55 hL) (ln_55 hL) g7 dX12_turn_28 ?_
  obtain ⟨rfl, rfl⟩ := ret_2 hF
  subst hρ0
  exact x_iret rfl C hP hS dX12_turn_29
set_option maxHeartbeats 4000000 in
set_option maxRecDepth 100000 in
theorem w_X12_turn_0 {a1 : Int32} {p : Program} {e : Env} {s : State} {m : MethodId} {args : Array Value} {below : List Frame} {meth : Method} {c : Code} {ρ0 : RG} {r : Int32} {σ1 : SG} (C : Cx Y D N ad p s m args meth c cX12_turn 3 (some .int) RX12 wsL_law) {σ : SG} {ρ : RG} {H : Heap} {locs : List Loc} {ls : Array Slot} (hρ0 : ρ = ρ0) (hL : Lay N K len ρ) (hF : F_X12_turn a1 σ ρ = some (r, σ1)) (hP : WP Y D N ad K len σ ρ H) (hS : va_S (AA N ad s.heap.size) s.heap H locs) (hl : lv_has ls 3 [(0, .ref (ad 54)), (1, .int a1)]) : W p l e rm_X12_turn s m args below meth c H locs 0 0 (MQ below (QW Y D N ad K len σ1 ρ0 (AA N ad s.heap.size) (some (.int r))) args s 0 0 (AA N ad s.heap.size)) (F0 m 0 ls []) := by
  have hx := C.1.1
  have hb := C.1.2.1
  unfold F_X12_turn at hF
  refine lv_iload_n hx hb dX12_turn_0 rfl (lv_at hl 1 rfl) ?_
  refine lv_if_eq (tgt := 8) hx hb dX12_turn_1 (by decide) (fun c_1 => ?_) (fun c_1 => ?_) -- COND 1 by_cases c_1 : a1 = 0
  · have hF := ite_t hF c_1
    refine lv_iconst (v := 1) hx hb dX12_turn_8 (by decide) ?_
    exact w_X12_turn_9 C hρ0 hL hF hP hS (lv_sub hl [0] rfl)
  · have hF := ite_f hF c_1
    refine lv_iconst (v := 2) hx hb dX12_turn_4 (by decide) ?_
    refine lv_goto (tgt := 9) hx hb dX12_turn_5 (by decide) ?_
    exact w_X12_turn_9 C hρ0 hL hF hP hS (lv_sub hl [0] rfl)
set_option maxHeartbeats 4000000 in
set_option maxRecDepth 100000 in
theorem c_X12_turn {a1 : Int32} {r : Int32} {σ1 : SG} {σ : SG} {ρ : RG} (hL : Lay N K len ρ) (hF : F_X12_turn a1 σ ρ = some (r, σ1)) : MT l Y D N ad K len yX12_turn (Cond.code yX12_turn cX12_turn 3 (some .int) :: wsL_law) rm_X12_turn [.ref (ad 54), .int a1] σ ρ (some (.int r)) σ1 ρ := by
  refine mt_of (cc := cX12_turn) (nL := 3) (ret := (some .int)) (by decide) (Nat.le_of_ble_eq_true rfl) ?_
  intro p e s m args below meth c ls C hnm hP hS hl
  exact w_X12_turn_0 C rfl hL hF hP hS hl

/-! CutCrookedModel.public int would(int, int);  -/
theorem dX12_would_0 : decode cX12_would 0 = .ok (.aload_n 0, 1) := by decide +kernel
theorem dX12_would_1 : decode cX12_would 1 = .ok (.iload_n 1, 1) := by decide +kernel
theorem dX12_would_2 : decode cX12_would 2 = .ok (.invokevirtual 143, 3) := by decide +kernel
theorem dX12_would_5 : decode cX12_would 5 = .ok (.ifCond .eq 13, 3) := by decide +kernel
theorem dX12_would_8 : decode cX12_would 8 = .ok (.iload_n 2, 1) := by decide +kernel
theorem dX12_would_9 : decode cX12_would 9 = .ok (.iconst 0, 1) := by decide +kernel
theorem dX12_would_10 : decode cX12_would 10 = .ok (.bipush 6, 2) := by decide +kernel
theorem dX12_would_12 : decode cX12_would 12 = .ok (.invokestatic 47, 3) := by decide +kernel
theorem dX12_would_15 : decode cX12_would 15 = .ok (.ifCond .ne 7, 3) := by decide +kernel
theorem dX12_would_18 : decode cX12_would 18 = .ok (.sipush (-10001), 3) := by decide +kernel
theorem dX12_would_21 : decode cX12_would 21 = .ok (.ireturn, 1) := by decide +kernel
theorem dX12_would_22 : decode cX12_would 22 = .ok (.aload_n 0, 1) := by decide +kernel
theorem dX12_would_23 : decode cX12_would 23 = .ok (.invokevirtual 191, 3) := by decide +kernel
theorem dX12_would_26 : decode cX12_would 26 = .ok (.sipush (-10005), 3) := by decide +kernel
theorem dX12_would_29 : decode cX12_would 29 = .ok (.istore_n 3, 1) := by decide +kernel
theorem dX12_would_30 : decode cX12_would 30 = .ok (.aload_n 0, 1) := by decide +kernel
theorem dX12_would_31 : decode cX12_would 31 = .ok (.iload_n 1, 1) := by decide +kernel
theorem dX12_would_32 : decode cX12_would 32 = .ok (.aload_n 0, 1) := by decide +kernel
theorem dX12_would_33 : decode cX12_would 33 = .ok (.getfield 9, 3) := by decide +kernel
theorem dX12_would_36 : decode cX12_would 36 = .ok (.bipush 44, 2) := by decide +kernel
theorem dX12_would_38 : decode cX12_would 38 = .ok (.iload_n 1, 1) := by decide +kernel
theorem dX12_would_39 : decode cX12_would 39 = .ok (.iadd, 1) := by decide +kernel
theorem dX12_would_40 : decode cX12_would 40 = .ok (.iaload, 1) := by decide +kernel
theorem dX12_would_41 : decode cX12_would 41 = .ok (.invokevirtual 187, 3) := by decide +kernel
theorem dX12_would_44 : decode cX12_would 44 = .ok (.ifCond .eq 75, 3) := by decide +kernel
theorem dX12_would_47 : decode cX12_would 47 = .ok (.aload_n 0, 1) := by decide +kernel
theorem dX12_would_48 : decode cX12_would 48 = .ok (.getfield 9, 3) := by decide +kernel
theorem dX12_would_51 : decode cX12_would 51 = .ok (.iconst 4, 1) := by decide +kernel
theorem dX12_would_52 : decode cX12_would 52 = .ok (.iaload, 1) := by decide +kernel
theorem dX12_would_53 : decode cX12_would 53 = .ok (.aload_n 0, 1) := by decide +kernel
theorem dX12_would_54 : decode cX12_would 54 = .ok (.getfield 18, 3) := by decide +kernel
theorem dX12_would_57 : decode cX12_would 57 = .ok (.iconst 4, 1) := by decide +kernel
theorem dX12_would_58 : decode cX12_would 58 = .ok (.iaload, 1) := by decide +kernel
theorem dX12_would_59 : decode cX12_would 59 = .ok (.isub, 1) := by decide +kernel
theorem dX12_would_60 : decode cX12_would 60 = .ok (.istore 4, 2) := by decide +kernel
theorem dX12_would_62 : decode cX12_would 62 = .ok (.iload_n 2, 1) := by decide +kernel
theorem dX12_would_63 : decode cX12_would 63 = .ok (.ifCond .ne 10, 3) := by decide +kernel
theorem dX12_would_66 : decode cX12_would 66 = .ok (.aload_n 0, 1) := by decide +kernel
theorem dX12_would_67 : decode cX12_would 67 = .ok (.getfield 177, 3) := by decide +kernel
theorem dX12_would_70 : decode cX12_would 70 = .ok (.goto 48, 3) := by decide +kernel
theorem dX12_would_73 : decode cX12_would 73 = .ok (.iload_n 2, 1) := by decide +kernel
theorem dX12_would_74 : decode cX12_would 74 = .ok (.iconst 1, 1) := by decide +kernel
theorem dX12_would_75 : decode cX12_would 75 = .ok (.if_icmp .ne 10, 3) := by decide +kernel
theorem dX12_would_78 : decode cX12_would 78 = .ok (.aload_n 0, 1) := by decide +kernel
theorem dX12_would_79 : decode cX12_would 79 = .ok (.getfield 181, 3) := by decide +kernel
theorem dX12_would_82 : decode cX12_would 82 = .ok (.goto 36, 3) := by decide +kernel
theorem dX12_would_85 : decode cX12_would 85 = .ok (.iload_n 2, 1) := by decide +kernel
theorem dX12_would_86 : decode cX12_would 86 = .ok (.iconst 2, 1) := by decide +kernel
theorem dX12_would_87 : decode cX12_would 87 = .ok (.if_icmp .ne 10, 3) := by decide +kernel
theorem dX12_would_90 : decode cX12_would 90 = .ok (.aload_n 0, 1) := by decide +kernel
theorem dX12_would_91 : decode cX12_would 91 = .ok (.getfield 184, 3) := by decide +kernel
theorem dX12_would_94 : decode cX12_would 94 = .ok (.goto 24, 3) := by decide +kernel
theorem dX12_would_97 : decode cX12_would 97 = .ok (.iload_n 2, 1) := by decide +kernel
theorem dX12_would_98 : decode cX12_would 98 = .ok (.bipush 6, 2) := by decide +kernel
theorem dX12_would_100 : decode cX12_would 100 = .ok (.if_icmp .ne 8, 3) := by decide +kernel
theorem dX12_would_103 : decode cX12_would 103 = .ok (.iload 4, 2) := by decide +kernel
theorem dX12_would_105 : decode cX12_would 105 = .ok (.goto 13, 3) := by decide +kernel
theorem dX12_would_108 : decode cX12_would 108 = .ok (.aload_n 0, 1) := by decide +kernel
theorem dX12_would_109 : decode cX12_would 109 = .ok (.getfield 9, 3) := by decide +kernel
theorem dX12_would_112 : decode cX12_would 112 = .ok (.iconst 0, 1) := by decide +kernel
theorem dX12_would_113 : decode cX12_would 113 = .ok (.iload_n 2, 1) := by decide +kernel
theorem dX12_would_114 : decode cX12_would 114 = .ok (.iadd, 1) := by decide +kernel
theorem dX12_would_115 : decode cX12_would 115 = .ok (.iconst 3, 1) := by decide +kernel
theorem dX12_would_116 : decode cX12_would 116 = .ok (.isub, 1) := by decide +kernel
theorem dX12_would_117 : decode cX12_would 117 = .ok (.iaload, 1) := by decide +kernel
theorem dX12_would_118 : decode cX12_would 118 = .ok (.istore_n 3, 1) := by decide +kernel
theorem dX12_would_119 : decode cX12_would 119 = .ok (.aload_n 0, 1) := by decide +kernel
theorem dX12_would_120 : decode cX12_would 120 = .ok (.invokevirtual 194, 3) := by decide +kernel
theorem dX12_would_123 : decode cX12_would 123 = .ok (.iload_n 3, 1) := by decide +kernel
theorem dX12_would_124 : decode cX12_would 124 = .ok (.ireturn, 1) := by decide +kernel
theorem hd_X12_would : yX12_would.cls = RX12 ∧ yX12_would.cls ≠ "java/lang/invoke/MethodHandle" ∧ yX12_would.cls ≠ "java/lang/invoke/VarHandle" ∧ (parseMethodDescriptor yX12_would.desc).map (fun d => d.parameters.length) = some 2 := by decide +kernel
abbrev rm_X12_would : Room := { frames := 4, cells := 0, slots := 0, locals := 93 }
def F_X12_would (a1 : Int32) (a2 : Int32) (σ : SG) (ρ : RG) : Option (Int32 × SG) :=
  bn (F_X12_isCutter a1 σ ρ) fun r1 =>
  if r1 = 0 then
    some ((-10001 : Int32), σ)
  else
    bn (F_X12_in a2 (0 : Int32) (6 : Int32) σ ρ) fun r3 =>
    if r3 = 0 then
      some ((-10001 : Int32), σ)
    else
      bn (F_X12_keeps σ ρ) fun σ5 =>
      nm ((44 : Int32) + a1) fun x6 =>
      gd (inb x6 909) <|
      bn2 (F_X12_cuts a1 (σ5 55 (x6).toNatClampNeg) σ5 ρ) fun r8 σ8 =>
      if r8 = 0 then
        bn (F_X12_goesBack σ8 ρ) fun σ10 =>
        some ((-10005 : Int32), σ10)
      else
        nm ((σ8 55 4) - (σ8 57 4)) fun x11 =>
        if a2 = 0 then
          bn (F_X12_goesBack σ8 ρ) fun σ23 =>
          some ((σ8 54 14), σ23)
        else
          if a2 = (1 : Int32) then
            bn (F_X12_goesBack σ8 ρ) fun σ22 =>
            some ((σ8 54 15), σ22)
          else
            if a2 = (2 : Int32) then
              bn (F_X12_goesBack σ8 ρ) fun σ21 =>
              some ((σ8 54 16), σ21)
            else
              if a2 = (6 : Int32) then
                bn (F_X12_goesBack σ8 ρ) fun σ20 =>
                some (x11, σ20)
              else
                nm ((0 : Int32) + a2) fun x16 =>
                nm (x16 - (3 : Int32)) fun x17 =>
                gd (inb x17 909) <|
                bn (F_X12_goesBack σ8 ρ) fun σ19 =>
                some ((σ8 55 (x17).toNatClampNeg), σ19)
set_option maxHeartbeats 4000000 in
set_option maxRecDepth 100000 in
theorem w_X12_would_0 {a1 : Int32} {a2 : Int32} {p : Program} {e : Env} {s : State} {m : MethodId} {args : Array Value} {below : List Frame} {meth : Method} {c : Code} {ρ0 : RG} {r : Int32} {σ1 : SG} (C : Cx Y D N ad p s m args meth c cX12_would 5 (some .int) RX12 wsL_law) {σ : SG} {ρ : RG} {H : Heap} {locs : List Loc} {ls : Array Slot} (hρ0 : ρ = ρ0) (hL : Lay N K len ρ) (hF : F_X12_would a1 a2 σ ρ = some (r, σ1)) (hP : WP Y D N ad K len σ ρ H) (hS : va_S (AA N ad s.heap.size) s.heap H locs) (hl : lv_has ls 5 [(0, .ref (ad 54)), (1, .int a1), (2, .int a2)]) : W p l e rm_X12_would s m args below meth c H locs 0 0 (MQ below (QW Y D N ad K len σ1 ρ0 (AA N ad s.heap.size) (some (.int r))) args s 0 0 (AA N ad s.heap.size)) (F0 m 0 ls []) := by
  have hx := C.1.1
  have hb := C.1.2.1
  unfold F_X12_would at hF
  refine lv_aload_n hx hb dX12_would_0 rfl (lv_at hl 0 rfl) ?_
  refine lv_iload_n hx hb dX12_would_1 rfl (lv_at hl 1 rfl) ?_
  obtain ⟨r1, hq1, hF⟩ := bn_1 hF
  refine x_callV (ci := 12) rfl rfl C hP hS (c_X12_isCutter hL hq1) (lr_54 hL) (lk_54 hL) (cwV 1 C.1.2.2.2.2 (gdV mw_462 mw_463 mw_464 mw_5 mw_465) rfl rfl rfl hd_X12_isCutter ⟨Nat.le_of_ble_eq_true rfl, Nat.le_of_ble_eq_true rfl⟩) rfl rfl hl.1 (Nat.le_of_ble_eq_true rfl) ⟨Nat.zero_le _, Nat.zero_le _⟩ dX12_would_2 (fun H locs hP hS => ?_)
  refine lv_if_eq (tgt := 18) hx hb dX12_would_5 (by decide) (fun c_2 => ?_) (fun c_2 => ?_) -- COND 2 by_cases c_2 : r1 = 0
  · have hF := ite_t hF c_2
    refine lv_sipush (v := -10001) hx hb dX12_would_18 (by decide +kernel) ?_
    obtain ⟨rfl, rfl⟩ := ret_2 hF
    subst hρ0
    exact x_iret rfl C hP hS dX12_would_21
  · have hF := ite_f hF c_2
    refine lv_iload_n hx hb dX12_would_8 rfl (lv_at hl 2 rfl) ?_
    refine lv_iconst (v := 0) hx hb dX12_would_9 (by decide) ?_
    refine lv_bipush (v := 6) hx hb dX12_would_10 (by decide +kernel) ?_
    obtain ⟨r3, hq3, hF⟩ := bn_1 hF
    refine x_callS C hP hS (c_X12_in hL hq3) (va_cwS 3 C.1.2.2.2.2 (gdS mw_104 mw_105 mw_5 mw_106) rfl rfl rfl hd_X12_in.2 ⟨Nat.le_of_ble_eq_true rfl, Nat.le_of_ble_eq_true rfl⟩) rfl rfl hl.1 (Nat.le_of_ble_eq_true rfl) ⟨Nat.zero_le _, Nat.zero_le _⟩ dX12_would_12 (fun H locs hP hS => ?_)
    refine lv_if_ne (tgt := 22) hx hb dX12_would_15 (by decide) (fun c_4 => ?_) (fun c_4 => ?_) -- COND 4 rcases (Decidable.em (r3 = 0)).symm with c_4 | c_4
    · have hF := ite_f hF c_4
      refine lv_aload_n hx hb dX12_would_22 rfl (lv_at hl 0 rfl) ?_
      obtain ⟨σ5, hq5, hF⟩ := bn_1 hF
      refine x_callV (ci := 12) rfl rfl C hP hS (c_X12_keeps hL hq5) (lr_54 hL) (lk_54 hL) (cwV 0 C.1.2.2.2.2 (gdV mw_732 mw_733 mw_734 mw_5 mw_735) rfl rfl rfl hd_X12_keeps ⟨Nat.le_of_ble_eq_true rfl, Nat.le_of_ble_eq_true rfl⟩) rfl rfl hl.1 (Nat.le_of_ble_eq_true rfl) ⟨Nat.zero_le _, Nat.zero_le _⟩ dX12_would_23 (fun H locs hP hS => ?_)
      refine lv_sipush (v := -10005) hx hb dX12_would_26 (by decide +kernel) ?_
      refine lv_istore_n (lv' := [(3, .int (-10005 : Int32)), (0, .ref (ad 54)), (1, .int a1), (2, .int a2)]) hx hb dX12_would_29 rfl hl (by decide) rfl (fun ls hl => ?_)
      refine lv_aload_n hx hb dX12_would_30 rfl (lv_at hl 1 rfl) ?_
      refine lv_iload_n hx hb dX12_would_31 rfl (lv_at hl 2 rfl) ?_
      refine lv_aload_n hx hb dX12_would_32 rfl (lv_at hl 1 rfl) ?_
      refine get_12_1 C hP (lr_54 hL) (lk_54 hL) inlX12 mw_81 (lf_54_1 hL) dX12_would_33 ?_
      refine lv_bipush (v := 44) hx hb dX12_would_36 (by decide +kernel) ?_
      refine lv_iload_n hx hb dX12_would_38 rfl (lv_at hl 2 rfl) ?_
      refine lv_iadd hx hb dX12_would_39 ?_
      obtain ⟨x6, ex6, hF⟩ := nm_1 hF
      refine x_top ex6 ?_
      obtain ⟨g7, hF⟩ := gd_1 hF
      refine x_iald C hP (lr_55 hL) (lk_55 hL) (ln_55 hL) g7 dX12_would_40 ?_
      obtain ⟨r8, σ8, hq8, hF⟩ := bn2_1 hF
      refine x_callV (ci := 12) rfl rfl C hP hS (c_X12_cuts hL hq8) (lr_54 hL) (lk_54 hL) (cwV 2 C.1.2.2.2.2 (gdV mw_652 mw_653 mw_654 mw_5 mw_655) rfl rfl rfl hd_X12_cuts ⟨Nat.le_of_ble_eq_true rfl, Nat.le_of_ble_eq_true rfl⟩) rfl rfl hl.1 (Nat.le_of_ble_eq_true rfl) ⟨Nat.zero_le _, Nat.zero_le _⟩ dX12_would_41 (fun H locs hP hS => ?_)
      refine lv_if_eq (tgt := 119) hx hb dX12_would_44 (by decide) (fun c_9 => ?_) (fun c_9 => ?_) -- COND 9 by_cases c_9 : r8 = 0
      · have hF := ite_t hF c_9
        refine lv_aload_n hx hb dX12_would_119 rfl (lv_at hl 1 rfl) ?_
        obtain ⟨σ10, hq10, hF⟩ := bn_1 hF
        refine x_callV (ci := 12) rfl rfl C hP hS (c_X12_goesBack hL hq10) (lr_54 hL) (lk_54 hL) (cwV 0 C.1.2.2.2.2 (gdV mw_736 mw_737 mw_738 mw_5 mw_739) rfl rfl rfl hd_X12_goesBack ⟨Nat.le_of_ble_eq_true rfl, Nat.le_of_ble_eq_true rfl⟩) rfl rfl hl.1 (Nat.le_of_ble_eq_true rfl) ⟨Nat.zero_le _, Nat.zero_le _⟩ dX12_would_120 (fun H locs hP hS => ?_)
        refine lv_iload_n hx hb dX12_would_123 rfl (lv_at hl 0 rfl) ?_
        obtain ⟨rfl, rfl⟩ := ret_2 hF
        subst hρ0
        exact x_iret rfl C hP hS dX12_would_124
      · have hF := ite_f hF c_9
        refine lv_aload_n hx hb dX12_would_47 rfl (lv_at hl 1 rfl) ?_
        refine get_12_1 C hP (lr_54 hL) (lk_54 hL) inlX12 mw_81 (lf_54_1 hL) dX12_would_48 ?_
        refine lv_iconst (v := 4) hx hb dX12_would_51 (by decide) ?_
        refine x_iald C hP (lr_55 hL) (lk_55 hL) (ln_55 hL) (by decide +kernel) dX12_would_52 ?_
        rw [cl_4]
        refine lv_aload_n hx hb dX12_would_53 rfl (lv_at hl 1 rfl) ?_
        refine get_12_3 C hP (lr_54 hL) (lk_54 hL) inlX12 mw_83 (lf_54_3 hL) dX12_would_54 ?_
        refine lv_iconst (v := 4) hx hb dX12_would_57 (by decide) ?_
        refine x_iald C hP (lr_57 hL) (lk_57 hL) (ln_57 hL) (by decide +kernel) dX12_would_58 ?_
        rw [cl_4]
        refine lv_isub hx hb dX12_would_59 ?_
        obtain ⟨x11, ex11, hF⟩ := nm_1 hF
        refine x_top ex11 ?_
        refine lv_istore (lv' := [(4, .int x11), (3, .int (-10005 : Int32)), (0, .ref (ad 54)), (1, .int a1), (2, .int a2)]) hx hb dX12_would_60 hl (by decide) rfl (fun ls hl => ?_)
        refine lv_iload_n hx hb dX12_would_62 rfl (lv_at hl 4 rfl) ?_
        refine lv_if_ne (tgt := 73) hx hb dX12_would_63 (by decide) (fun c_12 => ?_) (fun c_12 => ?_) -- COND 12 rcases (Decidable.em (a2 = 0)).symm with c_12 | c_12
        · have hF := ite_f hF c_12
          refine lv_iload_n hx hb dX12_would_73 rfl (lv_at hl 4 rfl) ?_
          refine lv_iconst (v := 1) hx hb dX12_would_74 (by decide) ?_
          refine lv_icmp_ne (tgt := 85) hx hb dX12_would_75 (by decide) (fun c_13 => ?_) (fun c_13 => ?_) -- COND 13 rcases (Decidable.em (a2 = (1 : Int32))).symm with c_13 | c_13
          · have hF := ite_f hF c_13
            refine lv_iload_n hx hb dX12_would_85 rfl (lv_at hl 4 rfl) ?_
            refine lv_iconst (v := 2) hx hb dX12_would_86 (by decide) ?_
            refine lv_icmp_ne (tgt := 97) hx hb dX12_would_87 (by decide) (fun c_14 => ?_) (fun c_14 => ?_) -- COND 14 rcases (Decidable.em (a2 = (2 : Int32))).symm with c_14 | c_14
            · have hF := ite_f hF c_14
              refine lv_iload_n hx hb dX12_would_97 rfl (lv_at hl 4 rfl) ?_
              refine lv_bipush (v := 6) hx hb dX12_would_98 (by decide +kernel) ?_
              refine lv_icmp_ne (tgt := 108) hx hb dX12_would_100 (by decide) (fun c_15 => ?_) (fun c_15 => ?_) -- COND 15 rcases (Decidable.em (a2 = (6 : Int32))).symm with c_15 | c_15
              · have hF := ite_f hF c_15
                refine lv_aload_n hx hb dX12_would_108 rfl (lv_at hl 2 rfl) ?_
                refine get_12_1 C hP (lr_54 hL) (lk_54 hL) inlX12 mw_81 (lf_54_1 hL) dX12_would_109 ?_
                refine lv_iconst (v := 0) hx hb dX12_would_112 (by decide) ?_
                refine lv_iload_n hx hb dX12_would_113 rfl (lv_at hl 4 rfl) ?_
                refine lv_iadd hx hb dX12_would_114 ?_
                obtain ⟨x16, ex16, hF⟩ := nm_1 hF
                refine x_top ex16 ?_
                refine lv_iconst (v := 3) hx hb dX12_would_115 (by decide) ?_
                refine lv_isub hx hb dX12_would_116 ?_
                obtain ⟨x17, ex17, hF⟩ := nm_1 hF
                refine x_top ex17 ?_
                obtain ⟨g18, hF⟩ := gd_1 hF
                refine x_iald C hP (lr_55 hL) (lk_55 hL) (ln_55 hL) g18 dX12_would_117 ?_
                refine lv_istore_n (lv' := [(3, .int (σ8 55 (x17).toNatClampNeg)), (4, .int x11), (0, .ref (ad 54)), (1, .int a1), (2, .int a2)]) hx hb dX12_would_118 rfl hl (by decide) rfl (fun ls hl => ?_)
                refine lv_aload_n hx hb dX12_would_119 rfl (lv_at hl 2 rfl) ?_
                obtain ⟨σ19, hq19, hF⟩ := bn_1 hF
                refine x_callV (ci := 12) rfl rfl C hP hS (c_X12_goesBack hL hq19) (lr_54 hL) (lk_54 hL) (cwV 0 C.1.2.2.2.2 (gdV mw_736 mw_737 mw_738 mw_5 mw_739) rfl rfl rfl hd_X12_goesBack ⟨Nat.le_of_ble_eq_true rfl, Nat.le_of_ble_eq_true rfl⟩) rfl rfl hl.1 (Nat.le_of_ble_eq_true rfl) ⟨Nat.zero_le _, Nat.zero_le _⟩ dX12_would_120 (fun H locs hP hS => ?_)
                refine lv_iload_n hx hb dX12_would_123 rfl (lv_at hl 0 rfl) ?_
                obtain ⟨rfl, rfl⟩ := ret_2 hF
                subst hρ0
                exact x_iret rfl C hP hS dX12_would_124
              · have hF := ite_t hF c_15
                refine lv_iload hx hb dX12_would_103 (lv_at hl 0 rfl) ?_
                refine lv_goto (tgt := 118) hx hb dX12_would_105 (by decide) ?_
                refine lv_istore_n (lv' := [(3, .int x11), (4, .int x11), (0, .ref (ad 54)), (1, .int a1), (2, .int a2)]) hx hb dX12_would_118 rfl hl (by decide) rfl (fun ls hl => ?_)
                refine lv_aload_n hx hb dX12_would_119 rfl (lv_at hl 2 rfl) ?_
                obtain ⟨σ20, hq20, hF⟩ := bn_1 hF
                refine x_callV (ci := 12) rfl rfl C hP hS (c_X12_goesBack hL hq20) (lr_54 hL) (lk_54 hL) (cwV 0 C.1.2.2.2.2 (gdV mw_736 mw_737 mw_738 mw_5 mw_739) rfl rfl rfl hd_X12_goesBack ⟨Nat.le_of_ble_eq_true rfl, Nat.le_of_ble_eq_true rfl⟩) rfl rfl hl.1 (Nat.le_of_ble_eq_true rfl) ⟨Nat.zero_le _, Nat.zero_le _⟩ dX12_would_120 (fun H locs hP hS => ?_)
                refine lv_iload_n hx hb dX12_would_123 rfl (lv_at hl 0 rfl) ?_
                obtain ⟨rfl, rfl⟩ := ret_2 hF
                subst hρ0
                exact x_iret rfl C hP hS dX12_would_124
            · have hF := ite_t hF c_14
              refine lv_aload_n hx hb dX12_would_90 rfl (lv_at hl 2 rfl) ?_
              refine get_12_16 C hP (lr_54 hL) (lk_54 hL) inlX12 mw_661 dX12_would_91 ?_
              refine lv_goto (tgt := 118) hx hb dX12_would_94 (by decide) ?_
              refine lv_istore_n (lv' := [(3, .int (σ8 54 16)), (4, .int x11), (0, .ref (ad 54)), (1, .int a1), (2, .int a2)]) hx hb dX12_would_118 rfl hl (by decide) rfl (fun ls hl => ?_)
              refine lv_aload_n hx hb dX12_would_119 rfl (lv_at hl 2 rfl) ?_
              obtain ⟨σ21, hq21, hF⟩ := bn_1 hF
              refine x_callV (ci := 12) rfl rfl C hP hS (c_X12_goesBack hL hq21) (lr_54 hL) (lk_54 hL) (cwV 0 C.1.2.2.2.2 (gdV mw_736 mw_737 mw_738 mw_5 mw_739) rfl rfl rfl hd_X12_goesBack ⟨Nat.le_of_ble_eq_true rfl, Nat.le_of_ble_eq_true rfl⟩) rfl rfl hl.1 (Nat.le_of_ble_eq_true rfl) ⟨Nat.zero_le _, Nat.zero_le _⟩ dX12_would_120 (fun H locs hP hS => ?_)
              refine lv_iload_n hx hb dX12_would_123 rfl (lv_at hl 0 rfl) ?_
              obtain ⟨rfl, rfl⟩ := ret_2 hF
              subst hρ0
              exact x_iret rfl C hP hS dX12_would_124
          · have hF := ite_t hF c_13
            refine lv_aload_n hx hb dX12_would_78 rfl (lv_at hl 2 rfl) ?_
            refine get_12_15 C hP (lr_54 hL) (lk_54 hL) inlX12 mw_660 dX12_would_79 ?_
            refine lv_goto (tgt := 118) hx hb dX12_would_82 (by decide) ?_
            refine lv_istore_n (lv' := [(3, .int (σ8 54 15)), (4, .int x11), (0, .ref (ad 54)), (1, .int a1), (2, .int a2)]) hx hb dX12_would_118 rfl hl (by decide) rfl (fun ls hl => ?_)
            refine lv_aload_n hx hb dX12_would_119 rfl (lv_at hl 2 rfl) ?_
            obtain ⟨σ22, hq22, hF⟩ := bn_1 hF
            refine x_callV (ci := 12) rfl rfl C hP hS (c_X12_goesBack hL hq22) (lr_54 hL) (lk_54 hL) (cwV 0 C.1.2.2.2.2 (gdV mw_736 mw_737 mw_738 mw_5 mw_739) rfl rfl rfl hd_X12_goesBack ⟨Nat.le_of_ble_eq_true rfl, Nat.le_of_ble_eq_true rfl⟩) rfl rfl hl.1 (Nat.le_of_ble_eq_true rfl) ⟨Nat.zero_le _, Nat.zero_le _⟩ dX12_would_120 (fun H locs hP hS => ?_)
            refine lv_iload_n hx hb dX12_would_123 rfl (lv_at hl 0 rfl) ?_
            obtain ⟨rfl, rfl⟩ := ret_2 hF
            subst hρ0
            exact x_iret rfl C hP hS dX12_would_124
        · have hF := ite_t hF c_12
          refine lv_aload_n hx hb dX12_would_66 rfl (lv_at hl 2 rfl) ?_
          refine get_12_14 C hP (lr_54 hL) (lk_54 hL) inlX12 mw_651 dX12_would_67 ?_
          refine lv_goto (tgt := 118) hx hb dX12_would_70 (by decide) ?_
          refine lv_istore_n (lv' := [(3, .int (σ8 54 14)), (4, .int x11), (0, .ref (ad 54)), (1, .int a1), (2, .int a2)]) hx hb dX12_would_118 rfl hl (by decide) rfl (fun ls hl => ?_)
          refine lv_aload_n hx hb dX12_would_119 rfl (lv_at hl 2 rfl) ?_
          obtain ⟨σ23, hq23, hF⟩ := bn_1 hF
          refine x_callV (ci := 12) rfl rfl C hP hS (c_X12_goesBack hL hq23) (lr_54 hL) (lk_54 hL) (cwV 0 C.1.2.2.2.2 (gdV mw_736 mw_737 mw_738 mw_5 mw_739) rfl rfl rfl hd_X12_goesBack ⟨Nat.le_of_ble_eq_true rfl, Nat.le_of_ble_eq_true rfl⟩) rfl rfl hl.1 (Nat.le_of_ble_eq_true rfl) ⟨Nat.zero_le _, Nat.zero_le _⟩ dX12_would_120 (fun H locs hP hS => ?_)
          refine lv_iload_n hx hb dX12_would_123 rfl (lv_at hl 0 rfl) ?_
          obtain ⟨rfl, rfl⟩ := ret_2 hF
          subst hρ0
          exact x_iret rfl C hP hS dX12_would_124
    · have hF := ite_t hF c_4
      refine lv_sipush (v := -10001) hx hb dX12_would_18 (by decide +kernel) ?_
      obtain ⟨rfl, rfl⟩ := ret_2 hF
      subst hρ0
      exact x_iret rfl C hP hS dX12_would_21
set_option maxHeartbeats 4000000 in
set_option maxRecDepth 100000 in
theorem c_X12_would {a1 : Int32} {a2 : Int32} {r : Int32} {σ1 : SG} {σ : SG} {ρ : RG} (hL : Lay N K len ρ) (hF : F_X12_would a1 a2 σ ρ = some (r, σ1)) : MT l Y D N ad K len yX12_would (Cond.code yX12_would cX12_would 5 (some .int) :: wsL_law) rm_X12_would [.ref (ad 54), .int a1, .int a2] σ ρ (some (.int r)) σ1 ρ := by
  refine mt_of (cc := cX12_would) (nL := 5) (ret := (some .int)) (by decide) (Nat.le_of_ble_eq_true rfl) ?_
  intro p e s m args below meth c ls C hnm hP hS hl
  exact w_X12_would_0 C rfl hL hF hP hS hl

/-! CutCrookedModel.private void goesOn(int, int, int);  -/
theorem dX12_goesOn_0 : decode cX12_goesOn 0 = .ok (.aload_n 0, 1) := by decide +kernel
theorem dX12_goesOn_1 : decode cX12_goesOn 1 = .ok (.iconst 0, 1) := by decide +kernel
theorem dX12_goesOn_2 : decode cX12_goesOn 2 = .ok (.putfield 197, 3) := by decide +kernel
theorem dX12_goesOn_5 : decode cX12_goesOn 5 = .ok (.aload_n 0, 1) := by decide +kernel
theorem dX12_goesOn_6 : decode cX12_goesOn 6 = .ok (.iconst 0, 1) := by decide +kernel
theorem dX12_goesOn_7 : decode cX12_goesOn 7 = .ok (.putfield 200, 3) := by decide +kernel
theorem dX12_goesOn_10 : decode cX12_goesOn 10 = .ok (.aload_n 0, 1) := by decide +kernel
theorem dX12_goesOn_11 : decode cX12_goesOn 11 = .ok (.iconst 0, 1) := by decide +kernel
theorem dX12_goesOn_12 : decode cX12_goesOn 12 = .ok (.putfield 203, 3) := by decide +kernel
theorem dX12_goesOn_15 : decode cX12_goesOn 15 = .ok (.iconst 0, 1) := by decide +kernel
theorem dX12_goesOn_16 : decode cX12_goesOn 16 = .ok (.istore 4, 2) := by decide +kernel
theorem dX12_goesOn_18 : decode cX12_goesOn 18 = .ok (.iload 4, 2) := by decide +kernel
theorem dX12_goesOn_20 : decode cX12_goesOn 20 = .ok (.iload_n 1, 1) := by decide +kernel
theorem dX12_goesOn_21 : decode cX12_goesOn 21 = .ok (.if_icmp .ge 130, 3) := by decide +kernel
theorem dX12_goesOn_24 : decode cX12_goesOn 24 = .ok (.aload_n 0, 1) := by decide +kernel
theorem dX12_goesOn_25 : decode cX12_goesOn 25 = .ok (.getfield 9, 3) := by decide +kernel
theorem dX12_goesOn_28 : decode cX12_goesOn 28 = .ok (.bipush 11, 2) := by decide +kernel
theorem dX12_goesOn_30 : decode cX12_goesOn 30 = .ok (.iaload, 1) := by decide +kernel
theorem dX12_goesOn_31 : decode cX12_goesOn 31 = .ok (.ifCond .le 120, 3) := by decide +kernel
theorem dX12_goesOn_34 : decode cX12_goesOn 34 = .ok (.iload 4, 2) := by decide +kernel
theorem dX12_goesOn_36 : decode cX12_goesOn 36 = .ok (.aload_n 0, 1) := by decide +kernel
theorem dX12_goesOn_37 : decode cX12_goesOn 37 = .ok (.getfield 9, 3) := by decide +kernel
theorem dX12_goesOn_40 : decode cX12_goesOn 40 = .ok (.bipush 11, 2) := by decide +kernel
theorem dX12_goesOn_42 : decode cX12_goesOn 42 = .ok (.iaload, 1) := by decide +kernel
theorem dX12_goesOn_43 : decode cX12_goesOn 43 = .ok (.irem, 1) := by decide +kernel
theorem dX12_goesOn_44 : decode cX12_goesOn 44 = .ok (.istore 5, 2) := by decide +kernel
theorem dX12_goesOn_46 : decode cX12_goesOn 46 = .ok (.iload 4, 2) := by decide +kernel
theorem dX12_goesOn_48 : decode cX12_goesOn 48 = .ok (.iload_n 3, 1) := by decide +kernel
theorem dX12_goesOn_49 : decode cX12_goesOn 49 = .ok (.if_icmp .ne 23, 3) := by decide +kernel
theorem dX12_goesOn_52 : decode cX12_goesOn 52 = .ok (.aload_n 0, 1) := by decide +kernel
theorem dX12_goesOn_53 : decode cX12_goesOn 53 = .ok (.invokevirtual 151, 3) := by decide +kernel
theorem dX12_goesOn_56 : decode cX12_goesOn 56 = .ok (.aload_n 0, 1) := by decide +kernel
theorem dX12_goesOn_57 : decode cX12_goesOn 57 = .ok (.sipush 199, 3) := by decide +kernel
theorem dX12_goesOn_60 : decode cX12_goesOn 60 = .ok (.bipush 10, 2) := by decide +kernel
theorem dX12_goesOn_62 : decode cX12_goesOn 62 = .ok (.invokevirtual 139, 3) := by decide +kernel
theorem dX12_goesOn_65 : decode cX12_goesOn 65 = .ok (.if_icmp .lt 7, 3) := by decide +kernel
theorem dX12_goesOn_68 : decode cX12_goesOn 68 = .ok (.aload_n 0, 1) := by decide +kernel
theorem dX12_goesOn_69 : decode cX12_goesOn 69 = .ok (.invokevirtual 161, 3) := by decide +kernel
theorem dX12_goesOn_72 : decode cX12_goesOn 72 = .ok (.aload_n 0, 1) := by decide +kernel
theorem dX12_goesOn_73 : decode cX12_goesOn 73 = .ok (.iload 5, 2) := by decide +kernel
theorem dX12_goesOn_75 : decode cX12_goesOn 75 = .ok (.aload_n 0, 1) := by decide +kernel
theorem dX12_goesOn_76 : decode cX12_goesOn 76 = .ok (.getfield 9, 3) := by decide +kernel
theorem dX12_goesOn_79 : decode cX12_goesOn 79 = .ok (.bipush 44, 2) := by decide +kernel
theorem dX12_goesOn_81 : decode cX12_goesOn 81 = .ok (.iload 5, 2) := by decide +kernel
theorem dX12_goesOn_83 : decode cX12_goesOn 83 = .ok (.iadd, 1) := by decide +kernel
theorem dX12_goesOn_84 : decode cX12_goesOn 84 = .ok (.iaload, 1) := by decide +kernel
theorem dX12_goesOn_85 : decode cX12_goesOn 85 = .ok (.invokevirtual 187, 3) := by decide +kernel
theorem dX12_goesOn_88 : decode cX12_goesOn 88 = .ok (.ifCond .ne 4, 3) := by decide +kernel
theorem dX12_goesOn_91 : decode cX12_goesOn 91 = .ok (.return_, 1) := by decide +kernel
theorem dX12_goesOn_92 : decode cX12_goesOn 92 = .ok (.aload_n 0, 1) := by decide +kernel
theorem dX12_goesOn_93 : decode cX12_goesOn 93 = .ok (.dup, 1) := by decide +kernel
theorem dX12_goesOn_94 : decode cX12_goesOn 94 = .ok (.getfield 197, 3) := by decide +kernel
theorem dX12_goesOn_97 : decode cX12_goesOn 97 = .ok (.iconst 1, 1) := by decide +kernel
theorem dX12_goesOn_98 : decode cX12_goesOn 98 = .ok (.iadd, 1) := by decide +kernel
theorem dX12_goesOn_99 : decode cX12_goesOn 99 = .ok (.putfield 197, 3) := by decide +kernel
theorem dX12_goesOn_102 : decode cX12_goesOn 102 = .ok (.aload_n 0, 1) := by decide +kernel
theorem dX12_goesOn_103 : decode cX12_goesOn 103 = .ok (.dup, 1) := by decide +kernel
theorem dX12_goesOn_104 : decode cX12_goesOn 104 = .ok (.getfield 200, 3) := by decide +kernel
theorem dX12_goesOn_107 : decode cX12_goesOn 107 = .ok (.aload_n 0, 1) := by decide +kernel
theorem dX12_goesOn_108 : decode cX12_goesOn 108 = .ok (.invokevirtual 206, 3) := by decide +kernel
theorem dX12_goesOn_111 : decode cX12_goesOn 111 = .ok (.ifCond .eq 7, 3) := by decide +kernel
theorem dX12_goesOn_114 : decode cX12_goesOn 114 = .ok (.iconst 1, 1) := by decide +kernel
theorem dX12_goesOn_115 : decode cX12_goesOn 115 = .ok (.goto 4, 3) := by decide +kernel
theorem dX12_goesOn_118 : decode cX12_goesOn 118 = .ok (.iconst 0, 1) := by decide +kernel
theorem dX12_goesOn_119 : decode cX12_goesOn 119 = .ok (.iadd, 1) := by decide +kernel
theorem dX12_goesOn_120 : decode cX12_goesOn 120 = .ok (.putfield 200, 3) := by decide +kernel
theorem dX12_goesOn_123 : decode cX12_goesOn 123 = .ok (.aload_n 0, 1) := by decide +kernel
theorem dX12_goesOn_124 : decode cX12_goesOn 124 = .ok (.dup, 1) := by decide +kernel
theorem dX12_goesOn_125 : decode cX12_goesOn 125 = .ok (.getfield 203, 3) := by decide +kernel
theorem dX12_goesOn_128 : decode cX12_goesOn 128 = .ok (.aload_n 0, 1) := by decide +kernel
theorem dX12_goesOn_129 : decode cX12_goesOn 129 = .ok (.getfield 184, 3) := by decide +kernel
theorem dX12_goesOn_132 : decode cX12_goesOn 132 = .ok (.iload_n 2, 1) := by decide +kernel
theorem dX12_goesOn_133 : decode cX12_goesOn 133 = .ok (.if_icmp .gt 7, 3) := by decide +kernel
theorem dX12_goesOn_136 : decode cX12_goesOn 136 = .ok (.iconst 1, 1) := by decide +kernel
theorem dX12_goesOn_137 : decode cX12_goesOn 137 = .ok (.goto 4, 3) := by decide +kernel
theorem dX12_goesOn_140 : decode cX12_goesOn 140 = .ok (.iconst 0, 1) := by decide +kernel
theorem dX12_goesOn_141 : decode cX12_goesOn 141 = .ok (.iadd, 1) := by decide +kernel
theorem dX12_goesOn_142 : decode cX12_goesOn 142 = .ok (.putfield 203, 3) := by decide +kernel
theorem dX12_goesOn_145 : decode cX12_goesOn 145 = .ok (.iinc 4 1, 3) := by decide +kernel
theorem dX12_goesOn_148 : decode cX12_goesOn 148 = .ok (.goto (-130), 3) := by decide +kernel
theorem dX12_goesOn_151 : decode cX12_goesOn 151 = .ok (.return_, 1) := by decide +kernel
theorem hd_X12_goesOn : yX12_goesOn.cls = RX12 ∧ yX12_goesOn.cls ≠ "java/lang/invoke/MethodHandle" ∧ yX12_goesOn.cls ≠ "java/lang/invoke/VarHandle" ∧ (parseMethodDescriptor yX12_goesOn.desc).map (fun d => d.parameters.length) = some 3 := by decide +kernel
abbrev rm_X12_goesOn : Room := { frames := 4, cells := 0, slots := 0, locals := 93 }
def F_X12_goesOn_141 (a1 : Int32) (a2 : Int32) (a3 : Int32) (rec_18 : SG → RG → Int32 → Int32 → Int32 → Int32 → Option (SG)) (σ : SG) (ρ : RG) (v1 : Int32) (v2 : Int32) (v3 : Int32) (v4 : Int32) (k1 : Int32) (k2 : Int32) : Option (SG) :=
  nm (k1 + k2) fun x25 =>
  nm (s2 σ 54 21 x25) fun σ27 =>
  nm (v4 + (1 : Int32)) fun x28 =>
  rec_18 σ27 ρ v1 v2 v3 x28
def F_X12_goesOn_119 (a1 : Int32) (a2 : Int32) (a3 : Int32) (rec_18 : SG → RG → Int32 → Int32 → Int32 → Int32 → Option (SG)) (σ : SG) (ρ : RG) (v1 : Int32) (v2 : Int32) (v3 : Int32) (v4 : Int32) (k1 : Int32) (k2 : Int32) : Option (SG) :=
  nm (k1 + k2) fun x21 =>
  nm (s2 σ 54 20 x21) fun σ23 =>
  if v2 < (σ23 54 16) then
    F_X12_goesOn_141 a1 a2 a3 rec_18 σ23 ρ v1 v2 v3 v4 (σ23 54 21) (0 : Int32)
  else
    F_X12_goesOn_141 a1 a2 a3 rec_18 σ23 ρ v1 v2 v3 v4 (σ23 54 21) (1 : Int32)
def F_X12_goesOn_72 (a1 : Int32) (a2 : Int32) (a3 : Int32) (rec_18 : SG → RG → Int32 → Int32 → Int32 → Int32 → Option (SG)) (σ : SG) (ρ : RG) (v1 : Int32) (v2 : Int32) (v3 : Int32) (v4 : Int32) (v5 : Int32) : Option (SG) :=
  nm ((44 : Int32) + v5) fun x12 =>
  gd (inb x12 909) <|
  bn2 (F_X12_cuts v5 (σ 55 (x12).toNatClampNeg) σ ρ) fun r14 σ14 =>
  if r14 = 0 then
    some σ14
  else
    nm ((σ14 54 19) + (1 : Int32)) fun x16 =>
    nm (s2 σ14 54 19 x16) fun σ18 =>
    bn (F_X12_isGood σ18 ρ) fun r19 =>
    if r19 = 0 then
      F_X12_goesOn_119 a1 a2 a3 rec_18 σ18 ρ v1 v2 v3 v4 (σ18 54 20) (0 : Int32)
    else
      F_X12_goesOn_119 a1 a2 a3 rec_18 σ18 ρ v1 v2 v3 v4 (σ18 54 20) (1 : Int32)
def F_X12_goesOn_18 (a1 : Int32) (a2 : Int32) (a3 : Int32) : Nat → SG → RG → Int32 → Int32 → Int32 → Int32 → Option (SG)
  | 0 => fun _ _ _ _ _ _ => none
  | n + 1 => fun σ ρ v1 v2 v3 v4 =>
  if v1 ≤ v4 then
    some σ
  else
    if (σ 55 11) ≤ 0 then
      some σ
    else
      gd (decide (¬ (σ 55 11) = 0)) <|
      nm (v4 - v4 / (σ 55 11) * (σ 55 11)) fun x10 =>
      if v4 = v3 then
        bn (F_X12_leastCorner σ ρ) fun r29 =>
        bn (F_X12_tellsOf (199 : Int32) (10 : Int32) σ ρ) fun r30 =>
        if r29 < r30 then
          F_X12_goesOn_72 a1 a2 a3 (F_X12_goesOn_18 a1 a2 a3 n) σ ρ v1 v2 v3 v4 x10
        else
          bn (F_X12_rights σ ρ) fun σ32 =>
          F_X12_goesOn_72 a1 a2 a3 (F_X12_goesOn_18 a1 a2 a3 n) σ32 ρ v1 v2 v3 v4 x10
      else
        F_X12_goesOn_72 a1 a2 a3 (F_X12_goesOn_18 a1 a2 a3 n) σ ρ v1 v2 v3 v4 x10
def F_X12_goesOn (a1 : Int32) (a2 : Int32) (a3 : Int32) (σ : SG) (ρ : RG) : Option (SG) :=
  nm (s2 σ 54 19 (0 : Int32)) fun σ2 =>
  nm (s2 σ2 54 20 (0 : Int32)) fun σ4 =>
  nm (s2 σ4 54 21 (0 : Int32)) fun σ6 =>
  F_X12_goesOn_18 a1 a2 a3 1024 σ6 ρ a1 a2 a3 (0 : Int32)
set_option maxHeartbeats 4000000 in
set_option maxRecDepth 100000 in
theorem w_X12_goesOn_141 {a1 : Int32} {a2 : Int32} {a3 : Int32} {rec_18 : SG → RG → Int32 → Int32 → Int32 → Int32 → Option (SG)} {p : Program} {e : Env} {s : State} {m : MethodId} {args : Array Value} {below : List Frame} {meth : Method} {c : Code} {ρ0 : RG} {σ1 : SG} (C : Cx Y D N ad p s m args meth c cX12_goesOn 6 none RX12 wsL_law) (hrec_18 : ∀ (σ : SG) (ρ : RG) (v1 : Int32) (v2 : Int32) (v3 : Int32) (v4 : Int32) (H : Heap) (locs : List Loc) (ls : Array Slot), ρ = ρ0 → Lay N K len ρ → rec_18 σ ρ v1 v2 v3 v4 = some σ1 → WP Y D N ad K len σ ρ H → va_S (AA N ad s.heap.size) s.heap H locs → lv_has ls 6 [(0, .ref (ad 54)), (1, .int v1), (2, .int v2), (3, .int v3), (4, .int v4)] → W p l e rm_X12_goesOn s m args below meth c H locs 0 0 (MQ below (QW Y D N ad K len σ1 ρ0 (AA N ad s.heap.size) none) args s 0 0 (AA N ad s.heap.size)) (F0 m 18 ls [])) {σ : SG} {ρ : RG} {v1 : Int32} {v2 : Int32} {v3 : Int32} {v4 : Int32} {k1 : Int32} {k2 : Int32} {H : Heap} {locs : List Loc} {ls : Array Slot} (hρ0 : ρ = ρ0) (hL : Lay N K len ρ) (hF : F_X12_goesOn_141 a1 a2 a3 rec_18 σ ρ v1 v2 v3 v4 k1 k2 = some σ1) (hP : WP Y D N ad K len σ ρ H) (hS : va_S (AA N ad s.heap.size) s.heap H locs) (hl : lv_has ls 6 [(0, .ref (ad 54)), (1, .int v1), (2, .int v2), (3, .int v3), (4, .int v4)]) : W p l e rm_X12_goesOn s m args below meth c H locs 0 0 (MQ below (QW Y D N ad K len σ1 ρ0 (AA N ad s.heap.size) none) args s 0 0 (AA N ad s.heap.size)) (F0 m 141 ls [.int k2, .int k1, .ref (ad 54)]) := by
  have hx := C.1.1
  have hb := C.1.2.1
  unfold F_X12_goesOn_141 at hF
  refine lv_iadd hx hb dX12_goesOn_141 ?_
  obtain ⟨x25, ex25, hF⟩ := nm_1 hF
  refine x_top ex25 ?_
  obtain ⟨σ27, eσ27, hF⟩ := nm_1 hF
  refine put_12_21 C hP hS (lr_54 hL) (lk_54 hL) inlX12 mw_761 eσ27 dX12_goesOn_142 (fun H locs hP hS => ?_)
  obtain ⟨x28, ex28, hF⟩ := nm_1 hF
  refine lv_iinc (v := x28) (lv' := [(4, .int x28), (0, .ref (ad 54)), (1, .int v1), (2, .int v2), (3, .int v3)]) hx hb dX12_goesOn_145 hl (k := 4) rfl (by rw [ex28]; first | rfl | decide) (by decide) rfl (fun ls hl => ?_)
  refine lv_goto (tgt := 18) hx hb dX12_goesOn_148 (by decide) ?_
  exact hrec_18 _ _ _ _ _ _ _ _ _ hρ0 hL hF hP hS (lv_sub hl [1, 2, 3, 4, 0] rfl)
set_option maxHeartbeats 4000000 in
set_option maxRecDepth 100000 in
theorem w_X12_goesOn_119 {a1 : Int32} {a2 : Int32} {a3 : Int32} {rec_18 : SG → RG → Int32 → Int32 → Int32 → Int32 → Option (SG)} {p : Program} {e : Env} {s : State} {m : MethodId} {args : Array Value} {below : List Frame} {meth : Method} {c : Code} {ρ0 : RG} {σ1 : SG} (C : Cx Y D N ad p s m args meth c cX12_goesOn 6 none RX12 wsL_law) (hrec_18 : ∀ (σ : SG) (ρ : RG) (v1 : Int32) (v2 : Int32) (v3 : Int32) (v4 : Int32) (H : Heap) (locs : List Loc) (ls : Array Slot), ρ = ρ0 → Lay N K len ρ → rec_18 σ ρ v1 v2 v3 v4 = some σ1 → WP Y D N ad K len σ ρ H → va_S (AA N ad s.heap.size) s.heap H locs → lv_has ls 6 [(0, .ref (ad 54)), (1, .int v1), (2, .int v2), (3, .int v3), (4, .int v4)] → W p l e rm_X12_goesOn s m args below meth c H locs 0 0 (MQ below (QW Y D N ad K len σ1 ρ0 (AA N ad s.heap.size) none) args s 0 0 (AA N ad s.heap.size)) (F0 m 18 ls [])) {σ : SG} {ρ : RG} {v1 : Int32} {v2 : Int32} {v3 : Int32} {v4 : Int32} {k1 : Int32} {k2 : Int32} {H : Heap} {locs : List Loc} {ls : Array Slot} (hρ0 : ρ = ρ0) (hL : Lay N K len ρ) (hF : F_X12_goesOn_119 a1 a2 a3 rec_18 σ ρ v1 v2 v3 v4 k1 k2 = some σ1) (hP : WP Y D N ad K len σ ρ H) (hS : va_S (AA N ad s.heap.size) s.heap H locs) (hl : lv_has ls 6 [(0, .ref (ad 54)), (1, .int v1), (2, .int v2), (3, .int v3), (4, .int v4)]) : W p l e rm_X12_goesOn s m args below meth c H locs 0 0 (MQ below (QW Y D N ad K len σ1 ρ0 (AA N ad s.heap.size) none) args s 0 0 (AA N ad s.heap.size)) (F0 m 119 ls [.int k2, .int k1, .ref (ad 54)]) := by
  have hx := C.1.1
  have hb := C.1.2.1
  unfold F_X12_goesOn_119 at hF
  refine lv_iadd hx hb dX12_goesOn_119 ?_
  obtain ⟨x21, ex21, hF⟩ := nm_1 hF
  refine x_top ex21 ?_
  obtain ⟨σ23, eσ23, hF⟩ := nm_1 hF
  refine put_12_20 C hP hS (lr_54 hL) (lk_54 hL) inlX12 mw_756 eσ23 dX12_goesOn_120 (fun H locs hP hS => ?_)
  refine lv_aload_n hx hb dX12_goesOn_123 rfl (lv_at hl 0 rfl) ?_
  refine lv_dup hx hb dX12_goesOn_124 rfl ?_
  refine get_12_21 C hP (lr_54 hL) (lk_54 hL) inlX12 mw_761 dX12_goesOn_125 ?_
  refine lv_aload_n hx hb dX12_goesOn_128 rfl (lv_at hl 0 rfl) ?_
  refine get_12_16 C hP (lr_54 hL) (lk_54 hL) inlX12 mw_661 dX12_goesOn_129 ?_
  refine lv_iload_n hx hb dX12_goesOn_132 rfl (lv_at hl 2 rfl) ?_
  refine lv_icmp_gt (tgt := 140) hx hb dX12_goesOn_133 (by decide) (fun c_24 => ?_) (fun c_24 => ?_) -- COND 24 by_cases c_24 : v2 < (σ23 54 16)
  · have hF := ite_t hF c_24
    refine lv_iconst (v := 0) hx hb dX12_goesOn_140 (by decide) ?_
    exact w_X12_goesOn_141 C hrec_18 hρ0 hL hF hP hS (lv_sub hl [0, 1, 2, 3, 4] rfl)
  · have hF := ite_f hF c_24
    refine lv_iconst (v := 1) hx hb dX12_goesOn_136 (by decide) ?_
    refine lv_goto (tgt := 141) hx hb dX12_goesOn_137 (by decide) ?_
    exact w_X12_goesOn_141 C hrec_18 hρ0 hL hF hP hS (lv_sub hl [0, 1, 2, 3, 4] rfl)
set_option maxHeartbeats 4000000 in
set_option maxRecDepth 100000 in
theorem w_X12_goesOn_72 {a1 : Int32} {a2 : Int32} {a3 : Int32} {rec_18 : SG → RG → Int32 → Int32 → Int32 → Int32 → Option (SG)} {p : Program} {e : Env} {s : State} {m : MethodId} {args : Array Value} {below : List Frame} {meth : Method} {c : Code} {ρ0 : RG} {σ1 : SG} (C : Cx Y D N ad p s m args meth c cX12_goesOn 6 none RX12 wsL_law) (hrec_18 : ∀ (σ : SG) (ρ : RG) (v1 : Int32) (v2 : Int32) (v3 : Int32) (v4 : Int32) (H : Heap) (locs : List Loc) (ls : Array Slot), ρ = ρ0 → Lay N K len ρ → rec_18 σ ρ v1 v2 v3 v4 = some σ1 → WP Y D N ad K len σ ρ H → va_S (AA N ad s.heap.size) s.heap H locs → lv_has ls 6 [(0, .ref (ad 54)), (1, .int v1), (2, .int v2), (3, .int v3), (4, .int v4)] → W p l e rm_X12_goesOn s m args below meth c H locs 0 0 (MQ below (QW Y D N ad K len σ1 ρ0 (AA N ad s.heap.size) none) args s 0 0 (AA N ad s.heap.size)) (F0 m 18 ls [])) {σ : SG} {ρ : RG} {v1 : Int32} {v2 : Int32} {v3 : Int32} {v4 : Int32} {v5 : Int32} {H : Heap} {locs : List Loc} {ls : Array Slot} (hρ0 : ρ = ρ0) (hL : Lay N K len ρ) (hF : F_X12_goesOn_72 a1 a2 a3 rec_18 σ ρ v1 v2 v3 v4 v5 = some σ1) (hP : WP Y D N ad K len σ ρ H) (hS : va_S (AA N ad s.heap.size) s.heap H locs) (hl : lv_has ls 6 [(0, .ref (ad 54)), (1, .int v1), (2, .int v2), (3, .int v3), (4, .int v4), (5, .int v5)]) : W p l e rm_X12_goesOn s m args below meth c H locs 0 0 (MQ below (QW Y D N ad K len σ1 ρ0 (AA N ad s.heap.size) none) args s 0 0 (AA N ad s.heap.size)) (F0 m 72 ls []) := by
  have hx := C.1.1
  have hb := C.1.2.1
  unfold F_X12_goesOn_72 at hF
  refine lv_aload_n hx hb dX12_goesOn_72 rfl (lv_at hl 0 rfl) ?_
  refine lv_iload hx hb dX12_goesOn_73 (lv_at hl 5 rfl) ?_
  refine lv_aload_n hx hb dX12_goesOn_75 rfl (lv_at hl 0 rfl) ?_
  refine get_12_1 C hP (lr_54 hL) (lk_54 hL) inlX12 mw_81 (lf_54_1 hL) dX12_goesOn_76 ?_
  refine lv_bipush (v := 44) hx hb dX12_goesOn_79 (by decide +kernel) ?_
  refine lv_iload hx hb dX12_goesOn_81 (lv_at hl 5 rfl) ?_
  refine lv_iadd hx hb dX12_goesOn_83 ?_
  obtain ⟨x12, ex12, hF⟩ := nm_1 hF
  refine x_top ex12 ?_
  obtain ⟨g13, hF⟩ := gd_1 hF
  refine x_iald C hP (lr_55 hL) (lk_55 hL) (ln_55 hL) g13 dX12_goesOn_84 ?_
  obtain ⟨r14, σ14, hq14, hF⟩ := bn2_1 hF
  refine x_callV (ci := 12) rfl rfl C hP hS (c_X12_cuts hL hq14) (lr_54 hL) (lk_54 hL) (cwV 2 C.1.2.2.2.2 (gdV mw_652 mw_653 mw_654 mw_5 mw_655) rfl rfl rfl hd_X12_cuts ⟨Nat.le_of_ble_eq_true rfl, Nat.le_of_ble_eq_true rfl⟩) rfl rfl hl.1 (Nat.le_of_ble_eq_true rfl) ⟨Nat.zero_le _, Nat.zero_le _⟩ dX12_goesOn_85 (fun H locs hP hS => ?_)
  refine lv_if_ne (tgt := 92) hx hb dX12_goesOn_88 (by decide) (fun c_15 => ?_) (fun c_15 => ?_) -- COND 15 rcases (Decidable.em (r14 = 0)).symm with c_15 | c_15
  · have hF := ite_f hF c_15
    refine lv_aload_n hx hb dX12_goesOn_92 rfl (lv_at hl 0 rfl) ?_
    refine lv_dup hx hb dX12_goesOn_93 rfl ?_
    refine get_12_19 C hP (lr_54 hL) (lk_54 hL) inlX12 mw_755 dX12_goesOn_94 ?_
    refine lv_iconst (v := 1) hx hb dX12_goesOn_97 (by decide) ?_
    refine lv_iadd hx hb dX12_goesOn_98 ?_
    obtain ⟨x16, ex16, hF⟩ := nm_1 hF
    refine x_top ex16 ?_
    obtain ⟨σ18, eσ18, hF⟩ := nm_1 hF
    refine put_12_19 C hP hS (lr_54 hL) (lk_54 hL) inlX12 mw_755 eσ18 dX12_goesOn_99 (fun H locs hP hS => ?_)
    refine lv_aload_n hx hb dX12_goesOn_102 rfl (lv_at hl 0 rfl) ?_
    refine lv_dup hx hb dX12_goesOn_103 rfl ?_
    refine get_12_20 C hP (lr_54 hL) (lk_54 hL) inlX12 mw_756 dX12_goesOn_104 ?_
    refine lv_aload_n hx hb dX12_goesOn_107 rfl (lv_at hl 0 rfl) ?_
    obtain ⟨r19, hq19, hF⟩ := bn_1 hF
    refine x_callV (ci := 12) rfl rfl C hP hS (c_X12_isGood hL hq19) (lr_54 hL) (lk_54 hL) (cwV 0 C.1.2.2.2.2 (gdV mw_762 mw_763 mw_764 mw_5 mw_765) rfl rfl rfl hd_X12_isGood ⟨Nat.le_of_ble_eq_true rfl, Nat.le_of_ble_eq_true rfl⟩) rfl rfl hl.1 (Nat.le_of_ble_eq_true rfl) ⟨Nat.zero_le _, Nat.zero_le _⟩ dX12_goesOn_108 (fun H locs hP hS => ?_)
    refine lv_if_eq (tgt := 118) hx hb dX12_goesOn_111 (by decide) (fun c_20 => ?_) (fun c_20 => ?_) -- COND 20 by_cases c_20 : r19 = 0
    · have hF := ite_t hF c_20
      refine lv_iconst (v := 0) hx hb dX12_goesOn_118 (by decide) ?_
      exact w_X12_goesOn_119 C hrec_18 hρ0 hL hF hP hS (lv_sub hl [0, 1, 2, 3, 4] rfl)
    · have hF := ite_f hF c_20
      refine lv_iconst (v := 1) hx hb dX12_goesOn_114 (by decide) ?_
      refine lv_goto (tgt := 119) hx hb dX12_goesOn_115 (by decide) ?_
      exact w_X12_goesOn_119 C hrec_18 hρ0 hL hF hP hS (lv_sub hl [0, 1, 2, 3, 4] rfl)
  · have hF := ite_t hF c_15
    obtain rfl := ret_1 hF
    subst hρ0
    exact x_vret rfl C hP hS dX12_goesOn_91
set_option maxHeartbeats 4000000 in
set_option maxRecDepth 100000 in
theorem w_X12_goesOn_18 {a1 : Int32} {a2 : Int32} {a3 : Int32} {p : Program} {e : Env} {s : State} {m : MethodId} {args : Array Value} {below : List Frame} {meth : Method} {c : Code} {ρ0 : RG} {σ1 : SG} (C : Cx Y D N ad p s m args meth c cX12_goesOn 6 none RX12 wsL_law) : ∀ (n : Nat) (σ : SG) (ρ : RG) (v1 : Int32) (v2 : Int32) (v3 : Int32) (v4 : Int32) (H : Heap) (locs : List Loc) (ls : Array Slot), ρ = ρ0 → Lay N K len ρ → F_X12_goesOn_18 a1 a2 a3 n σ ρ v1 v2 v3 v4 = some σ1 → WP Y D N ad K len σ ρ H → va_S (AA N ad s.heap.size) s.heap H locs → lv_has ls 6 [(0, .ref (ad 54)), (1, .int v1), (2, .int v2), (3, .int v3), (4, .int v4)] → W p l e rm_X12_goesOn s m args below meth c H locs 0 0 (MQ below (QW Y D N ad K len σ1 ρ0 (AA N ad s.heap.size) none) args s 0 0 (AA N ad s.heap.size)) (F0 m 18 ls []) := by
  have hx := C.1.1
  have hb := C.1.2.1
  intro n
  induction n with
  | zero => intro σ ρ v1 v2 v3 v4 H locs ls hρ0 hL hF; cases hF
  | succ n ih =>
    intro σ ρ v1 v2 v3 v4 H locs ls hρ0 hL hF hP hS hl
    unfold F_X12_goesOn_18 at hF
    refine lv_iload hx hb dX12_goesOn_18 (lv_at hl 4 rfl) ?_
    refine lv_iload_n hx hb dX12_goesOn_20 rfl (lv_at hl 1 rfl) ?_
    refine lv_icmp_ge (tgt := 151) hx hb dX12_goesOn_21 (by decide) (fun c_7 => ?_) (fun c_7 => ?_) -- COND 7 by_cases c_7 : v1 ≤ v4
    · have hF := ite_t hF c_7
      obtain rfl := ret_1 hF
      subst hρ0
      exact x_vret rfl C hP hS dX12_goesOn_151
    · have hF := ite_f hF c_7
      refine lv_aload_n hx hb dX12_goesOn_24 rfl (lv_at hl 0 rfl) ?_
      refine get_12_1 C hP (lr_54 hL) (lk_54 hL) inlX12 mw_81 (lf_54_1 hL) dX12_goesOn_25 ?_
      refine lv_bipush (v := 11) hx hb dX12_goesOn_28 (by decide +kernel) ?_
      refine x_iald C hP (lr_55 hL) (lk_55 hL) (ln_55 hL) (by decide +kernel) dX12_goesOn_30 ?_
      rw [cl_11]
      refine lv_if_le (tgt := 151) hx hb dX12_goesOn_31 (by decide) (fun c_8 => ?_) (fun c_8 => ?_) -- COND 8 by_cases c_8 : (σ 55 11) ≤ 0
      · have hF := ite_t hF c_8
        obtain rfl := ret_1 hF
        subst hρ0
        exact x_vret rfl C hP hS dX12_goesOn_151
      · have hF := ite_f hF c_8
        refine lv_iload hx hb dX12_goesOn_34 (lv_at hl 4 rfl) ?_
        refine lv_aload_n hx hb dX12_goesOn_36 rfl (lv_at hl 0 rfl) ?_
        refine get_12_1 C hP (lr_54 hL) (lk_54 hL) inlX12 mw_81 (lf_54_1 hL) dX12_goesOn_37 ?_
        refine lv_bipush (v := 11) hx hb dX12_goesOn_40 (by decide +kernel) ?_
        refine x_iald C hP (lr_55 hL) (lk_55 hL) (ln_55 hL) (by decide +kernel) dX12_goesOn_42 ?_
        rw [cl_11]
        obtain ⟨g9, hF⟩ := gd_1 hF
        refine lv_irem hx hb dX12_goesOn_43 (of_decide_eq_true g9) ?_
        obtain ⟨x10, ex10, hF⟩ := nm_1 hF
        refine x_top ex10 ?_
        refine lv_istore (lv' := [(5, .int x10), (0, .ref (ad 54)), (1, .int v1), (2, .int v2), (3, .int v3), (4, .int v4)]) hx hb dX12_goesOn_44 hl (by decide) rfl (fun ls hl => ?_)
        refine lv_iload hx hb dX12_goesOn_46 (lv_at hl 5 rfl) ?_
        refine lv_iload_n hx hb dX12_goesOn_48 rfl (lv_at hl 4 rfl) ?_
        refine lv_icmp_ne (tgt := 72) hx hb dX12_goesOn_49 (by decide) (fun c_11 => ?_) (fun c_11 => ?_) -- COND 11 rcases (Decidable.em (v4 = v3)).symm with c_11 | c_11
        · have hF := ite_f hF c_11
          exact w_X12_goesOn_72 C ih hρ0 hL hF hP hS (lv_sub hl [1, 2, 3, 4, 5, 0] rfl)
        · have hF := ite_t hF c_11
          refine lv_aload_n hx hb dX12_goesOn_52 rfl (lv_at hl 1 rfl) ?_
          obtain ⟨r29, hq29, hF⟩ := bn_1 hF
          refine x_callV (ci := 12) rfl rfl C hP hS (c_X12_leastCorner hL hq29) (lr_54 hL) (lk_54 hL) (cwV 0 C.1.2.2.2.2 (gdV mw_673 mw_674 mw_675 mw_5 mw_676) rfl rfl rfl hd_X12_leastCorner ⟨Nat.le_of_ble_eq_true rfl, Nat.le_of_ble_eq_true rfl⟩) rfl rfl hl.1 (Nat.le_of_ble_eq_true rfl) ⟨Nat.zero_le _, Nat.zero_le _⟩ dX12_goesOn_53 (fun H locs hP hS => ?_)
          refine lv_aload_n hx hb dX12_goesOn_56 rfl (lv_at hl 1 rfl) ?_
          refine lv_sipush (v := 199) hx hb dX12_goesOn_57 (by decide +kernel) ?_
          refine lv_bipush (v := 10) hx hb dX12_goesOn_60 (by decide +kernel) ?_
          obtain ⟨r30, hq30, hF⟩ := bn_1 hF
          refine x_callV (ci := 12) rfl rfl C hP hS (c_X12_tellsOf hL hq30) (lr_54 hL) (lk_54 hL) (cwV 2 C.1.2.2.2.2 (gdV mw_520 mw_521 mw_522 mw_5 mw_523) rfl rfl rfl hd_X12_tellsOf ⟨Nat.le_of_ble_eq_true rfl, Nat.le_of_ble_eq_true rfl⟩) rfl rfl hl.1 (Nat.le_of_ble_eq_true rfl) ⟨Nat.zero_le _, Nat.zero_le _⟩ dX12_goesOn_62 (fun H locs hP hS => ?_)
          refine lv_icmp_lt (tgt := 72) hx hb dX12_goesOn_65 (by decide) (fun c_31 => ?_) (fun c_31 => ?_) -- COND 31 by_cases c_31 : r29 < r30
          · have hF := ite_t hF c_31
            exact w_X12_goesOn_72 C ih hρ0 hL hF hP hS (lv_sub hl [1, 2, 3, 4, 5, 0] rfl)
          · have hF := ite_f hF c_31
            refine lv_aload_n hx hb dX12_goesOn_68 rfl (lv_at hl 1 rfl) ?_
            obtain ⟨σ32, hq32, hF⟩ := bn_1 hF
            refine x_callV (ci := 12) rfl rfl C hP hS (c_X12_rights hL hq32) (lr_54 hL) (lk_54 hL) (cwV 0 C.1.2.2.2.2 (gdV mw_669 mw_670 mw_671 mw_5 mw_672) rfl rfl rfl hd_X12_rights ⟨Nat.le_of_ble_eq_true rfl, Nat.le_of_ble_eq_true rfl⟩) rfl rfl hl.1 (Nat.le_of_ble_eq_true rfl) ⟨Nat.zero_le _, Nat.zero_le _⟩ dX12_goesOn_69 (fun H locs hP hS => ?_)
            exact w_X12_goesOn_72 C ih hρ0 hL hF hP hS (lv_sub hl [1, 2, 3, 4, 5, 0] rfl)
set_option maxHeartbeats 4000000 in
set_option maxRecDepth 100000 in
theorem w_X12_goesOn_0 {a1 : Int32} {a2 : Int32} {a3 : Int32} {p : Program} {e : Env} {s : State} {m : MethodId} {args : Array Value} {below : List Frame} {meth : Method} {c : Code} {ρ0 : RG} {σ1 : SG} (C : Cx Y D N ad p s m args meth c cX12_goesOn 6 none RX12 wsL_law) {σ : SG} {ρ : RG} {H : Heap} {locs : List Loc} {ls : Array Slot} (hρ0 : ρ = ρ0) (hL : Lay N K len ρ) (hF : F_X12_goesOn a1 a2 a3 σ ρ = some σ1) (hP : WP Y D N ad K len σ ρ H) (hS : va_S (AA N ad s.heap.size) s.heap H locs) (hl : lv_has ls 6 [(0, .ref (ad 54)), (1, .int a1), (2, .int a2), (3, .int a3)]) : W p l e rm_X12_goesOn s m args below meth c H locs 0 0 (MQ below (QW Y D N ad K len σ1 ρ0 (AA N ad s.heap.size) none) args s 0 0 (AA N ad s.heap.size)) (F0 m 0 ls []) := by
  have hx := C.1.1
  have hb := C.1.2.1
  unfold F_X12_goesOn at hF
  refine lv_aload_n hx hb dX12_goesOn_0 rfl (lv_at hl 0 rfl) ?_
  refine lv_iconst (v := 0) hx hb dX12_goesOn_1 (by decide) ?_
  obtain ⟨σ2, eσ2, hF⟩ := nm_1 hF
  refine put_12_19 C hP hS (lr_54 hL) (lk_54 hL) inlX12 mw_755 eσ2 dX12_goesOn_2 (fun H locs hP hS => ?_)
  refine lv_aload_n hx hb dX12_goesOn_5 rfl (lv_at hl 0 rfl) ?_
  refine lv_iconst (v := 0) hx hb dX12_goesOn_6 (by decide) ?_
  obtain ⟨σ4, eσ4, hF⟩ := nm_1 hF
  refine put_12_20 C hP hS (lr_54 hL) (lk_54 hL) inlX12 mw_756 eσ4 dX12_goesOn_7 (fun H locs hP hS => ?_)
  refine lv_aload_n hx hb dX12_goesOn_10 rfl (lv_at hl 0 rfl) ?_
  refine lv_iconst (v := 0) hx hb dX12_goesOn_11 (by decide) ?_
  obtain ⟨σ6, eσ6, hF⟩ := nm_1 hF
  refine put_12_21 C hP hS (lr_54 hL) (lk_54 hL) inlX12 mw_761 eσ6 dX12_goesOn_12 (fun H locs hP hS => ?_)
  refine lv_iconst (v := 0) hx hb dX12_goesOn_15 (by decide) ?_
  refine lv_istore (lv' := [(4, .int (0 : Int32)), (0, .ref (ad 54)), (1, .int a1), (2, .int a2), (3, .int a3)]) hx hb dX12_goesOn_16 hl (by decide) rfl (fun ls hl => ?_)
  exact w_X12_goesOn_18 C 1024 _ _ _ _ _ _ _ _ _ hρ0 hL hF hP hS (lv_sub hl [1, 2, 3, 4, 0] rfl)
set_option maxHeartbeats 4000000 in
set_option maxRecDepth 100000 in
theorem c_X12_goesOn {a1 : Int32} {a2 : Int32} {a3 : Int32} {σ1 : SG} {σ : SG} {ρ : RG} (hL : Lay N K len ρ) (hF : F_X12_goesOn a1 a2 a3 σ ρ = some σ1) : MT l Y D N ad K len yX12_goesOn (Cond.code yX12_goesOn cX12_goesOn 6 none :: wsL_law) rm_X12_goesOn [.ref (ad 54), .int a1, .int a2, .int a3] σ ρ none σ1 ρ := by
  refine mt_of (cc := cX12_goesOn) (nL := 6) (ret := none) (by decide) (Nat.le_of_ble_eq_true rfl) ?_
  intro p e s m args below meth c ls C hnm hP hS hl
  exact w_X12_goesOn_0 C rfl hL hF hP hS hl

/-! CutCrookedModel.private int goodBy(int, int);  -/
theorem dX12_goodBy_0 : decode cX12_goodBy 0 = .ok (.aload_n 0, 1) := by decide +kernel
theorem dX12_goodBy_1 : decode cX12_goodBy 1 = .ok (.iload_n 1, 1) := by decide +kernel
theorem dX12_goodBy_2 : decode cX12_goodBy 2 = .ok (.iconst 0, 1) := by decide +kernel
theorem dX12_goodBy_3 : decode cX12_goodBy 3 = .ok (.iload_n 2, 1) := by decide +kernel
theorem dX12_goodBy_4 : decode cX12_goodBy 4 = .ok (.invokevirtual 210, 3) := by decide +kernel
theorem dX12_goodBy_7 : decode cX12_goodBy 7 = .ok (.aload_n 0, 1) := by decide +kernel
theorem dX12_goodBy_8 : decode cX12_goodBy 8 = .ok (.invokevirtual 194, 3) := by decide +kernel
theorem dX12_goodBy_11 : decode cX12_goodBy 11 = .ok (.aload_n 0, 1) := by decide +kernel
theorem dX12_goodBy_12 : decode cX12_goodBy 12 = .ok (.getfield 200, 3) := by decide +kernel
theorem dX12_goodBy_15 : decode cX12_goodBy 15 = .ok (.ireturn, 1) := by decide +kernel
theorem hd_X12_goodBy : yX12_goodBy.cls = RX12 ∧ yX12_goodBy.cls ≠ "java/lang/invoke/MethodHandle" ∧ yX12_goodBy.cls ≠ "java/lang/invoke/VarHandle" ∧ (parseMethodDescriptor yX12_goodBy.desc).map (fun d => d.parameters.length) = some 2 := by decide +kernel
abbrev rm_X12_goodBy : Room := { frames := 5, cells := 0, slots := 0, locals := 118 }
def F_X12_goodBy (a1 : Int32) (a2 : Int32) (σ : SG) (ρ : RG) : Option (Int32 × SG) :=
  bn (F_X12_goesOn a1 (0 : Int32) a2 σ ρ) fun σ1 =>
  bn (F_X12_goesBack σ1 ρ) fun σ2 =>
  some ((σ2 54 20), σ2)
set_option maxHeartbeats 4000000 in
set_option maxRecDepth 100000 in
theorem w_X12_goodBy_0 {a1 : Int32} {a2 : Int32} {p : Program} {e : Env} {s : State} {m : MethodId} {args : Array Value} {below : List Frame} {meth : Method} {c : Code} {ρ0 : RG} {r : Int32} {σ1 : SG} (C : Cx Y D N ad p s m args meth c cX12_goodBy 3 (some .int) RX12 wsL_law) {σ : SG} {ρ : RG} {H : Heap} {locs : List Loc} {ls : Array Slot} (hρ0 : ρ = ρ0) (hL : Lay N K len ρ) (hF : F_X12_goodBy a1 a2 σ ρ = some (r, σ1)) (hP : WP Y D N ad K len σ ρ H) (hS : va_S (AA N ad s.heap.size) s.heap H locs) (hl : lv_has ls 3 [(0, .ref (ad 54)), (1, .int a1), (2, .int a2)]) : W p l e rm_X12_goodBy s m args below meth c H locs 0 0 (MQ below (QW Y D N ad K len σ1 ρ0 (AA N ad s.heap.size) (some (.int r))) args s 0 0 (AA N ad s.heap.size)) (F0 m 0 ls []) := by
  have hx := C.1.1
  have hb := C.1.2.1
  unfold F_X12_goodBy at hF
  refine lv_aload_n hx hb dX12_goodBy_0 rfl (lv_at hl 0 rfl) ?_
  refine lv_iload_n hx hb dX12_goodBy_1 rfl (lv_at hl 1 rfl) ?_
  refine lv_iconst (v := 0) hx hb dX12_goodBy_2 (by decide) ?_
  refine lv_iload_n hx hb dX12_goodBy_3 rfl (lv_at hl 2 rfl) ?_
  obtain ⟨σ1, hq1, hF⟩ := bn_1 hF
  refine x_callV (ci := 12) rfl rfl C hP hS (c_X12_goesOn hL hq1) (lr_54 hL) (lk_54 hL) (cwV 3 C.1.2.2.2.2 (gdV mw_757 mw_758 mw_759 mw_5 mw_760) rfl rfl rfl hd_X12_goesOn ⟨Nat.le_of_ble_eq_true rfl, Nat.le_of_ble_eq_true rfl⟩) rfl rfl hl.1 (Nat.le_of_ble_eq_true rfl) ⟨Nat.zero_le _, Nat.zero_le _⟩ dX12_goodBy_4 (fun H locs hP hS => ?_)
  refine lv_aload_n hx hb dX12_goodBy_7 rfl (lv_at hl 0 rfl) ?_
  obtain ⟨σ2, hq2, hF⟩ := bn_1 hF
  refine x_callV (ci := 12) rfl rfl C hP hS (c_X12_goesBack hL hq2) (lr_54 hL) (lk_54 hL) (cwV 0 C.1.2.2.2.2 (gdV mw_736 mw_737 mw_738 mw_5 mw_739) rfl rfl rfl hd_X12_goesBack ⟨Nat.le_of_ble_eq_true rfl, Nat.le_of_ble_eq_true rfl⟩) rfl rfl hl.1 (Nat.le_of_ble_eq_true rfl) ⟨Nat.zero_le _, Nat.zero_le _⟩ dX12_goodBy_8 (fun H locs hP hS => ?_)
  refine lv_aload_n hx hb dX12_goodBy_11 rfl (lv_at hl 0 rfl) ?_
  refine get_12_20 C hP (lr_54 hL) (lk_54 hL) inlX12 mw_756 dX12_goodBy_12 ?_
  obtain ⟨rfl, rfl⟩ := ret_2 hF
  subst hρ0
  exact x_iret rfl C hP hS dX12_goodBy_15
set_option maxHeartbeats 4000000 in
set_option maxRecDepth 100000 in
theorem c_X12_goodBy {a1 : Int32} {a2 : Int32} {r : Int32} {σ1 : SG} {σ : SG} {ρ : RG} (hL : Lay N K len ρ) (hF : F_X12_goodBy a1 a2 σ ρ = some (r, σ1)) : MT l Y D N ad K len yX12_goodBy (Cond.code yX12_goodBy cX12_goodBy 3 (some .int) :: wsL_law) rm_X12_goodBy [.ref (ad 54), .int a1, .int a2] σ ρ (some (.int r)) σ1 ρ := by
  refine mt_of (cc := cX12_goodBy) (nL := 3) (ret := (some .int)) (by decide) (Nat.le_of_ble_eq_true rfl) ?_
  intro p e s m args below meth c ls C hnm hP hS hl
  exact w_X12_goodBy_0 C rfl hL hF hP hS hl

/-! CutCrookedModel.public int on(int, int);  -/
theorem dX12_on_0 : decode cX12_on 0 = .ok (.iload_n 2, 1) := by decide +kernel
theorem dX12_on_1 : decode cX12_on 1 = .ok (.iconst 0, 1) := by decide +kernel
theorem dX12_on_2 : decode cX12_on 2 = .ok (.iconst 5, 1) := by decide +kernel
theorem dX12_on_3 : decode cX12_on 3 = .ok (.invokestatic 47, 3) := by decide +kernel
theorem dX12_on_6 : decode cX12_on 6 = .ok (.ifCond .ne 18, 3) := by decide +kernel
theorem dX12_on_9 : decode cX12_on 9 = .ok (.aload_n 0, 1) := by decide +kernel
theorem dX12_on_10 : decode cX12_on 10 = .ok (.iload_n 2, 1) := by decide +kernel
theorem dX12_on_11 : decode cX12_on 11 = .ok (.bipush 10, 2) := by decide +kernel
theorem dX12_on_13 : decode cX12_on 13 = .ok (.isub, 1) := by decide +kernel
theorem dX12_on_14 : decode cX12_on 14 = .ok (.invokevirtual 143, 3) := by decide +kernel
theorem dX12_on_17 : decode cX12_on 17 = .ok (.ifCond .ne 7, 3) := by decide +kernel
theorem dX12_on_20 : decode cX12_on 20 = .ok (.sipush (-10001), 3) := by decide +kernel
theorem dX12_on_23 : decode cX12_on 23 = .ok (.ireturn, 1) := by decide +kernel
theorem dX12_on_24 : decode cX12_on 24 = .ok (.iload_n 1, 1) := by decide +kernel
theorem dX12_on_25 : decode cX12_on 25 = .ok (.iconst 0, 1) := by decide +kernel
theorem dX12_on_26 : decode cX12_on 26 = .ok (.bipush 40, 2) := by decide +kernel
theorem dX12_on_28 : decode cX12_on 28 = .ok (.invokestatic 47, 3) := by decide +kernel
theorem dX12_on_31 : decode cX12_on 31 = .ok (.ifCond .ne 7, 3) := by decide +kernel
theorem dX12_on_34 : decode cX12_on 34 = .ok (.sipush (-10002), 3) := by decide +kernel
theorem dX12_on_37 : decode cX12_on 37 = .ok (.ireturn, 1) := by decide +kernel
theorem dX12_on_38 : decode cX12_on 38 = .ok (.aload_n 0, 1) := by decide +kernel
theorem dX12_on_39 : decode cX12_on 39 = .ok (.invokevirtual 191, 3) := by decide +kernel
theorem dX12_on_42 : decode cX12_on 42 = .ok (.aload_n 0, 1) := by decide +kernel
theorem dX12_on_43 : decode cX12_on 43 = .ok (.iload_n 1, 1) := by decide +kernel
theorem dX12_on_44 : decode cX12_on 44 = .ok (.iconst 0, 1) := by decide +kernel
theorem dX12_on_45 : decode cX12_on 45 = .ok (.iconst (-1), 1) := by decide +kernel
theorem dX12_on_46 : decode cX12_on 46 = .ok (.invokevirtual 210, 3) := by decide +kernel
theorem dX12_on_49 : decode cX12_on 49 = .ok (.iload_n 2, 1) := by decide +kernel
theorem dX12_on_50 : decode cX12_on 50 = .ok (.iconst 3, 1) := by decide +kernel
theorem dX12_on_51 : decode cX12_on 51 = .ok (.if_icmp .ge 14, 3) := by decide +kernel
theorem dX12_on_54 : decode cX12_on 54 = .ok (.aload_n 0, 1) := by decide +kernel
theorem dX12_on_55 : decode cX12_on 55 = .ok (.getfield 9, 3) := by decide +kernel
theorem dX12_on_58 : decode cX12_on 58 = .ok (.iconst 0, 1) := by decide +kernel
theorem dX12_on_59 : decode cX12_on 59 = .ok (.iload_n 2, 1) := by decide +kernel
theorem dX12_on_60 : decode cX12_on 60 = .ok (.iadd, 1) := by decide +kernel
theorem dX12_on_61 : decode cX12_on 61 = .ok (.iaload, 1) := by decide +kernel
theorem dX12_on_62 : decode cX12_on 62 = .ok (.goto 71, 3) := by decide +kernel
theorem dX12_on_65 : decode cX12_on 65 = .ok (.iload_n 2, 1) := by decide +kernel
theorem dX12_on_66 : decode cX12_on 66 = .ok (.iconst 3, 1) := by decide +kernel
theorem dX12_on_67 : decode cX12_on 67 = .ok (.if_icmp .ne 19, 3) := by decide +kernel
theorem dX12_on_70 : decode cX12_on 70 = .ok (.aload_n 0, 1) := by decide +kernel
theorem dX12_on_71 : decode cX12_on 71 = .ok (.getfield 9, 3) := by decide +kernel
theorem dX12_on_74 : decode cX12_on 74 = .ok (.iconst 4, 1) := by decide +kernel
theorem dX12_on_75 : decode cX12_on 75 = .ok (.iaload, 1) := by decide +kernel
theorem dX12_on_76 : decode cX12_on 76 = .ok (.aload_n 0, 1) := by decide +kernel
theorem dX12_on_77 : decode cX12_on 77 = .ok (.getfield 18, 3) := by decide +kernel
theorem dX12_on_80 : decode cX12_on 80 = .ok (.iconst 4, 1) := by decide +kernel
theorem dX12_on_81 : decode cX12_on 81 = .ok (.iaload, 1) := by decide +kernel
theorem dX12_on_82 : decode cX12_on 82 = .ok (.isub, 1) := by decide +kernel
theorem dX12_on_83 : decode cX12_on 83 = .ok (.goto 50, 3) := by decide +kernel
theorem dX12_on_86 : decode cX12_on 86 = .ok (.iload_n 2, 1) := by decide +kernel
theorem dX12_on_87 : decode cX12_on 87 = .ok (.iconst 4, 1) := by decide +kernel
theorem dX12_on_88 : decode cX12_on 88 = .ok (.if_icmp .ne 10, 3) := by decide +kernel
theorem dX12_on_91 : decode cX12_on 91 = .ok (.aload_n 0, 1) := by decide +kernel
theorem dX12_on_92 : decode cX12_on 92 = .ok (.getfield 197, 3) := by decide +kernel
theorem dX12_on_95 : decode cX12_on 95 = .ok (.goto 38, 3) := by decide +kernel
theorem dX12_on_98 : decode cX12_on 98 = .ok (.iload_n 2, 1) := by decide +kernel
theorem dX12_on_99 : decode cX12_on 99 = .ok (.iconst 5, 1) := by decide +kernel
theorem dX12_on_100 : decode cX12_on 100 = .ok (.if_icmp .ne 10, 3) := by decide +kernel
theorem dX12_on_103 : decode cX12_on 103 = .ok (.aload_n 0, 1) := by decide +kernel
theorem dX12_on_104 : decode cX12_on 104 = .ok (.getfield 200, 3) := by decide +kernel
theorem dX12_on_107 : decode cX12_on 107 = .ok (.goto 26, 3) := by decide +kernel
theorem dX12_on_110 : decode cX12_on 110 = .ok (.aload_n 0, 1) := by decide +kernel
theorem dX12_on_111 : decode cX12_on 111 = .ok (.getfield 9, 3) := by decide +kernel
theorem dX12_on_114 : decode cX12_on 114 = .ok (.iconst 5, 1) := by decide +kernel
theorem dX12_on_115 : decode cX12_on 115 = .ok (.iload_n 2, 1) := by decide +kernel
theorem dX12_on_116 : decode cX12_on 116 = .ok (.iadd, 1) := by decide +kernel
theorem dX12_on_117 : decode cX12_on 117 = .ok (.bipush 10, 2) := by decide +kernel
theorem dX12_on_119 : decode cX12_on 119 = .ok (.isub, 1) := by decide +kernel
theorem dX12_on_120 : decode cX12_on 120 = .ok (.iaload, 1) := by decide +kernel
theorem dX12_on_121 : decode cX12_on 121 = .ok (.aload_n 0, 1) := by decide +kernel
theorem dX12_on_122 : decode cX12_on 122 = .ok (.getfield 18, 3) := by decide +kernel
theorem dX12_on_125 : decode cX12_on 125 = .ok (.iconst 5, 1) := by decide +kernel
theorem dX12_on_126 : decode cX12_on 126 = .ok (.iload_n 2, 1) := by decide +kernel
theorem dX12_on_127 : decode cX12_on 127 = .ok (.iadd, 1) := by decide +kernel
theorem dX12_on_128 : decode cX12_on 128 = .ok (.bipush 10, 2) := by decide +kernel
theorem dX12_on_130 : decode cX12_on 130 = .ok (.isub, 1) := by decide +kernel
theorem dX12_on_131 : decode cX12_on 131 = .ok (.iaload, 1) := by decide +kernel
theorem dX12_on_132 : decode cX12_on 132 = .ok (.isub, 1) := by decide +kernel
theorem dX12_on_133 : decode cX12_on 133 = .ok (.istore_n 3, 1) := by decide +kernel
theorem dX12_on_134 : decode cX12_on 134 = .ok (.aload_n 0, 1) := by decide +kernel
theorem dX12_on_135 : decode cX12_on 135 = .ok (.invokevirtual 194, 3) := by decide +kernel
theorem dX12_on_138 : decode cX12_on 138 = .ok (.iload_n 3, 1) := by decide +kernel
theorem dX12_on_139 : decode cX12_on 139 = .ok (.ireturn, 1) := by decide +kernel
theorem hd_X12_on : yX12_on.cls = RX12 ∧ yX12_on.cls ≠ "java/lang/invoke/MethodHandle" ∧ yX12_on.cls ≠ "java/lang/invoke/VarHandle" ∧ (parseMethodDescriptor yX12_on.desc).map (fun d => d.parameters.length) = some 2 := by decide +kernel
abbrev rm_X12_on : Room := { frames := 5, cells := 0, slots := 0, locals := 118 }
def F_X12_on_24 (a1 : Int32) (a2 : Int32) (σ : SG) (ρ : RG) (v1 : Int32) (v2 : Int32) : Option (Int32 × SG) :=
  bn (F_X12_in v1 (0 : Int32) (40 : Int32) σ ρ) fun r3 =>
  if r3 = 0 then
    some ((-10002 : Int32), σ)
  else
    bn (F_X12_keeps σ ρ) fun σ5 =>
    bn (F_X12_goesOn v1 (0 : Int32) (-1 : Int32) σ5 ρ) fun σ6 =>
    if (3 : Int32) ≤ v2 then
      if v2 = (3 : Int32) then
        nm ((σ6 55 4) - (σ6 57 4)) fun x21 =>
        bn (F_X12_goesBack σ6 ρ) fun σ22 =>
        some (x21, σ22)
      else
        if v2 = (4 : Int32) then
          bn (F_X12_goesBack σ6 ρ) fun σ20 =>
          some ((σ6 54 19), σ20)
        else
          if v2 = (5 : Int32) then
            bn (F_X12_goesBack σ6 ρ) fun σ19 =>
            some ((σ6 54 20), σ19)
          else
            nm ((5 : Int32) + v2) fun x11 =>
            nm (x11 - (10 : Int32)) fun x12 =>
            gd (inb x12 909) <|
            nm ((5 : Int32) + v2) fun x14 =>
            nm (x14 - (10 : Int32)) fun x15 =>
            gd (inb x15 11) <|
            nm ((σ6 55 (x12).toNatClampNeg) - (σ6 57 (x15).toNatClampNeg)) fun x17 =>
            bn (F_X12_goesBack σ6 ρ) fun σ18 =>
            some (x17, σ18)
    else
      nm ((0 : Int32) + v2) fun x23 =>
      gd (inb x23 909) <|
      bn (F_X12_goesBack σ6 ρ) fun σ25 =>
      some ((σ6 55 (x23).toNatClampNeg), σ25)
def F_X12_on (a1 : Int32) (a2 : Int32) (σ : SG) (ρ : RG) : Option (Int32 × SG) :=
  bn (F_X12_in a2 (0 : Int32) (5 : Int32) σ ρ) fun r1 =>
  if r1 = 0 then
    nm (a2 - (10 : Int32)) fun x26 =>
    bn (F_X12_isCutter x26 σ ρ) fun r27 =>
    if r27 = 0 then
      some ((-10001 : Int32), σ)
    else
      F_X12_on_24 a1 a2 σ ρ a1 a2
  else
    F_X12_on_24 a1 a2 σ ρ a1 a2
set_option maxHeartbeats 4000000 in
set_option maxRecDepth 100000 in
theorem w_X12_on_24 {a1 : Int32} {a2 : Int32} {p : Program} {e : Env} {s : State} {m : MethodId} {args : Array Value} {below : List Frame} {meth : Method} {c : Code} {ρ0 : RG} {r : Int32} {σ1 : SG} (C : Cx Y D N ad p s m args meth c cX12_on 4 (some .int) RX12 wsL_law) {σ : SG} {ρ : RG} {v1 : Int32} {v2 : Int32} {H : Heap} {locs : List Loc} {ls : Array Slot} (hρ0 : ρ = ρ0) (hL : Lay N K len ρ) (hF : F_X12_on_24 a1 a2 σ ρ v1 v2 = some (r, σ1)) (hP : WP Y D N ad K len σ ρ H) (hS : va_S (AA N ad s.heap.size) s.heap H locs) (hl : lv_has ls 4 [(0, .ref (ad 54)), (1, .int v1), (2, .int v2)]) : W p l e rm_X12_on s m args below meth c H locs 0 0 (MQ below (QW Y D N ad K len σ1 ρ0 (AA N ad s.heap.size) (some (.int r))) args s 0 0 (AA N ad s.heap.size)) (F0 m 24 ls []) := by
  have hx := C.1.1
  have hb := C.1.2.1
  unfold F_X12_on_24 at hF
  refine lv_iload_n hx hb dX12_on_24 rfl (lv_at hl 1 rfl) ?_
  refine lv_iconst (v := 0) hx hb dX12_on_25 (by decide) ?_
  refine lv_bipush (v := 40) hx hb dX12_on_26 (by decide +kernel) ?_
  obtain ⟨r3, hq3, hF⟩ := bn_1 hF
  refine x_callS C hP hS (c_X12_in hL hq3) (va_cwS 3 C.1.2.2.2.2 (gdS mw_104 mw_105 mw_5 mw_106) rfl rfl rfl hd_X12_in.2 ⟨Nat.le_of_ble_eq_true rfl, Nat.le_of_ble_eq_true rfl⟩) rfl rfl hl.1 (Nat.le_of_ble_eq_true rfl) ⟨Nat.zero_le _, Nat.zero_le _⟩ dX12_on_28 (fun H locs hP hS => ?_)
  refine lv_if_ne (tgt := 38) hx hb dX12_on_31 (by decide) (fun c_4 => ?_) (fun c_4 => ?_) -- COND 4 rcases (Decidable.em (r3 = 0)).symm with c_4 | c_4
  · have hF := ite_f hF c_4
    refine lv_aload_n hx hb dX12_on_38 rfl (lv_at hl 0 rfl) ?_
    obtain ⟨σ5, hq5, hF⟩ := bn_1 hF
    refine x_callV (ci := 12) rfl rfl C hP hS (c_X12_keeps hL hq5) (lr_54 hL) (lk_54 hL) (cwV 0 C.1.2.2.2.2 (gdV mw_732 mw_733 mw_734 mw_5 mw_735) rfl rfl rfl hd_X12_keeps ⟨Nat.le_of_ble_eq_true rfl, Nat.le_of_ble_eq_true rfl⟩) rfl rfl hl.1 (Nat.le_of_ble_eq_true rfl) ⟨Nat.zero_le _, Nat.zero_le _⟩ dX12_on_39 (fun H locs hP hS => ?_)
    refine lv_aload_n hx hb dX12_on_42 rfl (lv_at hl 0 rfl) ?_
    refine lv_iload_n hx hb dX12_on_43 rfl (lv_at hl 1 rfl) ?_
    refine lv_iconst (v := 0) hx hb dX12_on_44 (by decide) ?_
    refine lv_iconst (v := -1) hx hb dX12_on_45 (by decide) ?_
    obtain ⟨σ6, hq6, hF⟩ := bn_1 hF
    refine x_callV (ci := 12) rfl rfl C hP hS (c_X12_goesOn hL hq6) (lr_54 hL) (lk_54 hL) (cwV 3 C.1.2.2.2.2 (gdV mw_757 mw_758 mw_759 mw_5 mw_760) rfl rfl rfl hd_X12_goesOn ⟨Nat.le_of_ble_eq_true rfl, Nat.le_of_ble_eq_true rfl⟩) rfl rfl hl.1 (Nat.le_of_ble_eq_true rfl) ⟨Nat.zero_le _, Nat.zero_le _⟩ dX12_on_46 (fun H locs hP hS => ?_)
    refine lv_iload_n hx hb dX12_on_49 rfl (lv_at hl 2 rfl) ?_
    refine lv_iconst (v := 3) hx hb dX12_on_50 (by decide) ?_
    refine lv_icmp_ge (tgt := 65) hx hb dX12_on_51 (by decide) (fun c_7 => ?_) (fun c_7 => ?_) -- COND 7 by_cases c_7 : (3 : Int32) ≤ v2
    · have hF := ite_t hF c_7
      refine lv_iload_n hx hb dX12_on_65 rfl (lv_at hl 2 rfl) ?_
      refine lv_iconst (v := 3) hx hb dX12_on_66 (by decide) ?_
      refine lv_icmp_ne (tgt := 86) hx hb dX12_on_67 (by decide) (fun c_8 => ?_) (fun c_8 => ?_) -- COND 8 rcases (Decidable.em (v2 = (3 : Int32))).symm with c_8 | c_8
      · have hF := ite_f hF c_8
        refine lv_iload_n hx hb dX12_on_86 rfl (lv_at hl 2 rfl) ?_
        refine lv_iconst (v := 4) hx hb dX12_on_87 (by decide) ?_
        refine lv_icmp_ne (tgt := 98) hx hb dX12_on_88 (by decide) (fun c_9 => ?_) (fun c_9 => ?_) -- COND 9 rcases (Decidable.em (v2 = (4 : Int32))).symm with c_9 | c_9
        · have hF := ite_f hF c_9
          refine lv_iload_n hx hb dX12_on_98 rfl (lv_at hl 2 rfl) ?_
          refine lv_iconst (v := 5) hx hb dX12_on_99 (by decide) ?_
          refine lv_icmp_ne (tgt := 110) hx hb dX12_on_100 (by decide) (fun c_10 => ?_) (fun c_10 => ?_) -- COND 10 rcases (Decidable.em (v2 = (5 : Int32))).symm with c_10 | c_10
          · have hF := ite_f hF c_10
            refine lv_aload_n hx hb dX12_on_110 rfl (lv_at hl 0 rfl) ?_
            refine get_12_1 C hP (lr_54 hL) (lk_54 hL) inlX12 mw_81 (lf_54_1 hL) dX12_on_111 ?_
            refine lv_iconst (v := 5) hx hb dX12_on_114 (by decide) ?_
            refine lv_iload_n hx hb dX12_on_115 rfl (lv_at hl 2 rfl) ?_
            refine lv_iadd hx hb dX12_on_116 ?_
            obtain ⟨x11, ex11, hF⟩ := nm_1 hF
            refine x_top ex11 ?_
            refine lv_bipush (v := 10) hx hb dX12_on_117 (by decide +kernel) ?_
            refine lv_isub hx hb dX12_on_119 ?_
            obtain ⟨x12, ex12, hF⟩ := nm_1 hF
            refine x_top ex12 ?_
            obtain ⟨g13, hF⟩ := gd_1 hF
            refine x_iald C hP (lr_55 hL) (lk_55 hL) (ln_55 hL) g13 dX12_on_120 ?_
            refine lv_aload_n hx hb dX12_on_121 rfl (lv_at hl 0 rfl) ?_
            refine get_12_3 C hP (lr_54 hL) (lk_54 hL) inlX12 mw_83 (lf_54_3 hL) dX12_on_122 ?_
            refine lv_iconst (v := 5) hx hb dX12_on_125 (by decide) ?_
            refine lv_iload_n hx hb dX12_on_126 rfl (lv_at hl 2 rfl) ?_
            refine lv_iadd hx hb dX12_on_127 ?_
            obtain ⟨x14, ex14, hF⟩ := nm_1 hF
            refine x_top ex14 ?_
            refine lv_bipush (v := 10) hx hb dX12_on_128 (by decide +kernel) ?_
            refine lv_isub hx hb dX12_on_130 ?_
            obtain ⟨x15, ex15, hF⟩ := nm_1 hF
            refine x_top ex15 ?_
            obtain ⟨g16, hF⟩ := gd_1 hF
            refine x_iald C hP (lr_57 hL) (lk_57 hL) (ln_57 hL) g16 dX12_on_131 ?_
            refine lv_isub hx hb dX12_on_132 ?_
            obtain ⟨x17, ex17, hF⟩ := nm_1 hF
            refine x_top ex17 ?_
            refine lv_istore_n (lv' := [(3, .int x17), (0, .ref (ad 54)), (1, .int v1), (2, .int v2)]) hx hb dX12_on_133 rfl hl (by decide) rfl (fun ls hl => ?_)
            refine lv_aload_n hx hb dX12_on_134 rfl (lv_at hl 1 rfl) ?_
            obtain ⟨σ18, hq18, hF⟩ := bn_1 hF
            refine x_callV (ci := 12) rfl rfl C hP hS (c_X12_goesBack hL hq18) (lr_54 hL) (lk_54 hL) (cwV 0 C.1.2.2.2.2 (gdV mw_736 mw_737 mw_738 mw_5 mw_739) rfl rfl rfl hd_X12_goesBack ⟨Nat.le_of_ble_eq_true rfl, Nat.le_of_ble_eq_true rfl⟩) rfl rfl hl.1 (Nat.le_of_ble_eq_true rfl) ⟨Nat.zero_le _, Nat.zero_le _⟩ dX12_on_135 (fun H locs hP hS => ?_)
            refine lv_iload_n hx hb dX12_on_138 rfl (lv_at hl 0 rfl) ?_
            obtain ⟨rfl, rfl⟩ := ret_2 hF
            subst hρ0
            exact x_iret rfl C hP hS dX12_on_139
          · have hF := ite_t hF c_10
            refine lv_aload_n hx hb dX12_on_103 rfl (lv_at hl 0 rfl) ?_
            refine get_12_20 C hP (lr_54 hL) (lk_54 hL) inlX12 mw_756 dX12_on_104 ?_
            refine lv_goto (tgt := 133) hx hb dX12_on_107 (by decide) ?_
            refine lv_istore_n (lv' := [(3, .int (σ6 54 20)), (0, .ref (ad 54)), (1, .int v1), (2, .int v2)]) hx hb dX12_on_133 rfl hl (by decide) rfl (fun ls hl => ?_)
            refine lv_aload_n hx hb dX12_on_134 rfl (lv_at hl 1 rfl) ?_
            obtain ⟨σ19, hq19, hF⟩ := bn_1 hF
            refine x_callV (ci := 12) rfl rfl C hP hS (c_X12_goesBack hL hq19) (lr_54 hL) (lk_54 hL) (cwV 0 C.1.2.2.2.2 (gdV mw_736 mw_737 mw_738 mw_5 mw_739) rfl rfl rfl hd_X12_goesBack ⟨Nat.le_of_ble_eq_true rfl, Nat.le_of_ble_eq_true rfl⟩) rfl rfl hl.1 (Nat.le_of_ble_eq_true rfl) ⟨Nat.zero_le _, Nat.zero_le _⟩ dX12_on_135 (fun H locs hP hS => ?_)
            refine lv_iload_n hx hb dX12_on_138 rfl (lv_at hl 0 rfl) ?_
            obtain ⟨rfl, rfl⟩ := ret_2 hF
            subst hρ0
            exact x_iret rfl C hP hS dX12_on_139
        · have hF := ite_t hF c_9
          refine lv_aload_n hx hb dX12_on_91 rfl (lv_at hl 0 rfl) ?_
          refine get_12_19 C hP (lr_54 hL) (lk_54 hL) inlX12 mw_755 dX12_on_92 ?_
          refine lv_goto (tgt := 133) hx hb dX12_on_95 (by decide) ?_
          refine lv_istore_n (lv' := [(3, .int (σ6 54 19)), (0, .ref (ad 54)), (1, .int v1), (2, .int v2)]) hx hb dX12_on_133 rfl hl (by decide) rfl (fun ls hl => ?_)
          refine lv_aload_n hx hb dX12_on_134 rfl (lv_at hl 1 rfl) ?_
          obtain ⟨σ20, hq20, hF⟩ := bn_1 hF
          refine x_callV (ci := 12) rfl rfl C hP hS (c_X12_goesBack hL hq20) (lr_54 hL) (lk_54 hL) (cwV 0 C.1.2.2.2.2 (gdV mw_736 mw_737 mw_738 mw_5 mw_739) rfl rfl rfl hd_X12_goesBack ⟨Nat.le_of_ble_eq_true rfl, Nat.le_of_ble_eq_true rfl⟩) rfl rfl hl.1 (Nat.le_of_ble_eq_true rfl) ⟨Nat.zero_le _, Nat.zero_le _⟩ dX12_on_135 (fun H locs hP hS => ?_)
          refine lv_iload_n hx hb dX12_on_138 rfl (lv_at hl 0 rfl) ?_
          obtain ⟨rfl, rfl⟩ := ret_2 hF
          subst hρ0
          exact x_iret rfl C hP hS dX12_on_139
      · have hF := ite_t hF c_8
        refine lv_aload_n hx hb dX12_on_70 rfl (lv_at hl 0 rfl) ?_
        refine get_12_1 C hP (lr_54 hL) (lk_54 hL) inlX12 mw_81 (lf_54_1 hL) dX12_on_71 ?_
        refine lv_iconst (v := 4) hx hb dX12_on_74 (by decide) ?_
        refine x_iald C hP (lr_55 hL) (lk_55 hL) (ln_55 hL) (by decide +kernel) dX12_on_75 ?_
        rw [cl_4]
        refine lv_aload_n hx hb dX12_on_76 rfl (lv_at hl 0 rfl) ?_
        refine get_12_3 C hP (lr_54 hL) (lk_54 hL) inlX12 mw_83 (lf_54_3 hL) dX12_on_77 ?_
        refine lv_iconst (v := 4) hx hb dX12_on_80 (by decide) ?_
        refine x_iald C hP (lr_57 hL) (lk_57 hL) (ln_57 hL) (by decide +kernel) dX12_on_81 ?_
        rw [cl_4]
        refine lv_isub hx hb dX12_on_82 ?_
        obtain ⟨x21, ex21, hF⟩ := nm_1 hF
        refine x_top ex21 ?_
        refine lv_goto (tgt := 133) hx hb dX12_on_83 (by decide) ?_
        refine lv_istore_n (lv' := [(3, .int x21), (0, .ref (ad 54)), (1, .int v1), (2, .int v2)]) hx hb dX12_on_133 rfl hl (by decide) rfl (fun ls hl => ?_)
        refine lv_aload_n hx hb dX12_on_134 rfl (lv_at hl 1 rfl) ?_
        obtain ⟨σ22, hq22, hF⟩ := bn_1 hF
        refine x_callV (ci := 12) rfl rfl C hP hS (c_X12_goesBack hL hq22) (lr_54 hL) (lk_54 hL) (cwV 0 C.1.2.2.2.2 (gdV mw_736 mw_737 mw_738 mw_5 mw_739) rfl rfl rfl hd_X12_goesBack ⟨Nat.le_of_ble_eq_true rfl, Nat.le_of_ble_eq_true rfl⟩) rfl rfl hl.1 (Nat.le_of_ble_eq_true rfl) ⟨Nat.zero_le _, Nat.zero_le _⟩ dX12_on_135 (fun H locs hP hS => ?_)
        refine lv_iload_n hx hb dX12_on_138 rfl (lv_at hl 0 rfl) ?_
        obtain ⟨rfl, rfl⟩ := ret_2 hF
        subst hρ0
        exact x_iret rfl C hP hS dX12_on_139
    · have hF := ite_f hF c_7
      refine lv_aload_n hx hb dX12_on_54 rfl (lv_at hl 0 rfl) ?_
      refine get_12_1 C hP (lr_54 hL) (lk_54 hL) inlX12 mw_81 (lf_54_1 hL) dX12_on_55 ?_
      refine lv_iconst (v := 0) hx hb dX12_on_58 (by decide) ?_
      refine lv_iload_n hx hb dX12_on_59 rfl (lv_at hl 2 rfl) ?_
      refine lv_iadd hx hb dX12_on_60 ?_
      obtain ⟨x23, ex23, hF⟩ := nm_1 hF
      refine x_top ex23 ?_
      obtain ⟨g24, hF⟩ := gd_1 hF
      refine x_iald C hP (lr_55 hL) (lk_55 hL) (ln_55 hL) g24 dX12_on_61 ?_
      refine lv_goto (tgt := 133) hx hb dX12_on_62 (by decide) ?_
      refine lv_istore_n (lv' := [(3, .int (σ6 55 (x23).toNatClampNeg)), (0, .ref (ad 54)), (1, .int v1), (2, .int v2)]) hx hb dX12_on_133 rfl hl (by decide) rfl (fun ls hl => ?_)
      refine lv_aload_n hx hb dX12_on_134 rfl (lv_at hl 1 rfl) ?_
      obtain ⟨σ25, hq25, hF⟩ := bn_1 hF
      refine x_callV (ci := 12) rfl rfl C hP hS (c_X12_goesBack hL hq25) (lr_54 hL) (lk_54 hL) (cwV 0 C.1.2.2.2.2 (gdV mw_736 mw_737 mw_738 mw_5 mw_739) rfl rfl rfl hd_X12_goesBack ⟨Nat.le_of_ble_eq_true rfl, Nat.le_of_ble_eq_true rfl⟩) rfl rfl hl.1 (Nat.le_of_ble_eq_true rfl) ⟨Nat.zero_le _, Nat.zero_le _⟩ dX12_on_135 (fun H locs hP hS => ?_)
      refine lv_iload_n hx hb dX12_on_138 rfl (lv_at hl 0 rfl) ?_
      obtain ⟨rfl, rfl⟩ := ret_2 hF
      subst hρ0
      exact x_iret rfl C hP hS dX12_on_139
  · have hF := ite_t hF c_4
    refine lv_sipush (v := -10002) hx hb dX12_on_34 (by decide +kernel) ?_
    obtain ⟨rfl, rfl⟩ := ret_2 hF
    subst hρ0
    exact x_iret rfl C hP hS dX12_on_37
set_option maxHeartbeats 4000000 in
set_option maxRecDepth 100000 in
theorem w_X12_on_0 {a1 : Int32} {a2 : Int32} {p : Program} {e : Env} {s : State} {m : MethodId} {args : Array Value} {below : List Frame} {meth : Method} {c : Code} {ρ0 : RG} {r : Int32} {σ1 : SG} (C : Cx Y D N ad p s m args meth c cX12_on 4 (some .int) RX12 wsL_law) {σ : SG} {ρ : RG} {H : Heap} {locs : List Loc} {ls : Array Slot} (hρ0 : ρ = ρ0) (hL : Lay N K len ρ) (hF : F_X12_on a1 a2 σ ρ = some (r, σ1)) (hP : WP Y D N ad K len σ ρ H) (hS : va_S (AA N ad s.heap.size) s.heap H locs) (hl : lv_has ls 4 [(0, .ref (ad 54)), (1, .int a1), (2, .int a2)]) : W p l e rm_X12_on s m args below meth c H locs 0 0 (MQ below (QW Y D N ad K len σ1 ρ0 (AA N ad s.heap.size) (some (.int r))) args s 0 0 (AA N ad s.heap.size)) (F0 m 0 ls []) := by
  have hx := C.1.1
  have hb := C.1.2.1
  unfold F_X12_on at hF
  refine lv_iload_n hx hb dX12_on_0 rfl (lv_at hl 2 rfl) ?_
  refine lv_iconst (v := 0) hx hb dX12_on_1 (by decide) ?_
  refine lv_iconst (v := 5) hx hb dX12_on_2 (by decide) ?_
  obtain ⟨r1, hq1, hF⟩ := bn_1 hF
  refine x_callS C hP hS (c_X12_in hL hq1) (va_cwS 3 C.1.2.2.2.2 (gdS mw_104 mw_105 mw_5 mw_106) rfl rfl rfl hd_X12_in.2 ⟨Nat.le_of_ble_eq_true rfl, Nat.le_of_ble_eq_true rfl⟩) rfl rfl hl.1 (Nat.le_of_ble_eq_true rfl) ⟨Nat.zero_le _, Nat.zero_le _⟩ dX12_on_3 (fun H locs hP hS => ?_)
  refine lv_if_ne (tgt := 24) hx hb dX12_on_6 (by decide) (fun c_2 => ?_) (fun c_2 => ?_) -- COND 2 rcases (Decidable.em (r1 = 0)).symm with c_2 | c_2
  · have hF := ite_f hF c_2
    exact w_X12_on_24 C hρ0 hL hF hP hS (lv_sub hl [0, 1, 2] rfl)
  · have hF := ite_t hF c_2
    refine lv_aload_n hx hb dX12_on_9 rfl (lv_at hl 0 rfl) ?_
    refine lv_iload_n hx hb dX12_on_10 rfl (lv_at hl 2 rfl) ?_
    refine lv_bipush (v := 10) hx hb dX12_on_11 (by decide +kernel) ?_
    refine lv_isub hx hb dX12_on_13 ?_
    obtain ⟨x26, ex26, hF⟩ := nm_1 hF
    refine x_top ex26 ?_
    obtain ⟨r27, hq27, hF⟩ := bn_1 hF
    refine x_callV (ci := 12) rfl rfl C hP hS (c_X12_isCutter hL hq27) (lr_54 hL) (lk_54 hL) (cwV 1 C.1.2.2.2.2 (gdV mw_462 mw_463 mw_464 mw_5 mw_465) rfl rfl rfl hd_X12_isCutter ⟨Nat.le_of_ble_eq_true rfl, Nat.le_of_ble_eq_true rfl⟩) rfl rfl hl.1 (Nat.le_of_ble_eq_true rfl) ⟨Nat.zero_le _, Nat.zero_le _⟩ dX12_on_14 (fun H locs hP hS => ?_)
    refine lv_if_ne (tgt := 24) hx hb dX12_on_17 (by decide) (fun c_28 => ?_) (fun c_28 => ?_) -- COND 28 rcases (Decidable.em (r27 = 0)).symm with c_28 | c_28
    · have hF := ite_f hF c_28
      exact w_X12_on_24 C hρ0 hL hF hP hS (lv_sub hl [0, 1, 2] rfl)
    · have hF := ite_t hF c_28
      refine lv_sipush (v := -10001) hx hb dX12_on_20 (by decide +kernel) ?_
      obtain ⟨rfl, rfl⟩ := ret_2 hF
      subst hρ0
      exact x_iret rfl C hP hS dX12_on_23
set_option maxHeartbeats 4000000 in
set_option maxRecDepth 100000 in
theorem c_X12_on {a1 : Int32} {a2 : Int32} {r : Int32} {σ1 : SG} {σ : SG} {ρ : RG} (hL : Lay N K len ρ) (hF : F_X12_on a1 a2 σ ρ = some (r, σ1)) : MT l Y D N ad K len yX12_on (Cond.code yX12_on cX12_on 4 (some .int) :: wsL_law) rm_X12_on [.ref (ad 54), .int a1, .int a2] σ ρ (some (.int r)) σ1 ρ := by
  refine mt_of (cc := cX12_on) (nL := 4) (ret := (some .int)) (by decide) (Nat.le_of_ble_eq_true rfl) ?_
  intro p e s m args below meth c ls C hnm hP hS hl
  exact w_X12_on_0 C rfl hL hF hP hS hl

/-! CutCrookedModel.public int toasted(int, int);  -/
theorem dX12_toasted_0 : decode cX12_toasted 0 = .ok (.iload_n 1, 1) := by decide +kernel
theorem dX12_toasted_1 : decode cX12_toasted 1 = .ok (.iconst 0, 1) := by decide +kernel
theorem dX12_toasted_2 : decode cX12_toasted 2 = .ok (.bipush 40, 2) := by decide +kernel
theorem dX12_toasted_4 : decode cX12_toasted 4 = .ok (.invokestatic 47, 3) := by decide +kernel
theorem dX12_toasted_7 : decode cX12_toasted 7 = .ok (.ifCond .eq 13, 3) := by decide +kernel
theorem dX12_toasted_10 : decode cX12_toasted 10 = .ok (.iload_n 2, 1) := by decide +kernel
theorem dX12_toasted_11 : decode cX12_toasted 11 = .ok (.iconst 0, 1) := by decide +kernel
theorem dX12_toasted_12 : decode cX12_toasted 12 = .ok (.bipush 99, 2) := by decide +kernel
theorem dX12_toasted_14 : decode cX12_toasted 14 = .ok (.invokestatic 47, 3) := by decide +kernel
theorem dX12_toasted_17 : decode cX12_toasted 17 = .ok (.ifCond .ne 6, 3) := by decide +kernel
theorem dX12_toasted_20 : decode cX12_toasted 20 = .ok (.bipush (-2), 2) := by decide +kernel
theorem dX12_toasted_22 : decode cX12_toasted 22 = .ok (.ireturn, 1) := by decide +kernel
theorem dX12_toasted_23 : decode cX12_toasted 23 = .ok (.aload_n 0, 1) := by decide +kernel
theorem dX12_toasted_24 : decode cX12_toasted 24 = .ok (.invokevirtual 191, 3) := by decide +kernel
theorem dX12_toasted_27 : decode cX12_toasted 27 = .ok (.aload_n 0, 1) := by decide +kernel
theorem dX12_toasted_28 : decode cX12_toasted 28 = .ok (.iload_n 1, 1) := by decide +kernel
theorem dX12_toasted_29 : decode cX12_toasted 29 = .ok (.iload_n 2, 1) := by decide +kernel
theorem dX12_toasted_30 : decode cX12_toasted 30 = .ok (.iconst (-1), 1) := by decide +kernel
theorem dX12_toasted_31 : decode cX12_toasted 31 = .ok (.invokevirtual 210, 3) := by decide +kernel
theorem dX12_toasted_34 : decode cX12_toasted 34 = .ok (.aload_n 0, 1) := by decide +kernel
theorem dX12_toasted_35 : decode cX12_toasted 35 = .ok (.invokevirtual 194, 3) := by decide +kernel
theorem dX12_toasted_38 : decode cX12_toasted 38 = .ok (.aload_n 0, 1) := by decide +kernel
theorem dX12_toasted_39 : decode cX12_toasted 39 = .ok (.getfield 203, 3) := by decide +kernel
theorem dX12_toasted_42 : decode cX12_toasted 42 = .ok (.ireturn, 1) := by decide +kernel
theorem hd_X12_toasted : yX12_toasted.cls = RX12 ∧ yX12_toasted.cls ≠ "java/lang/invoke/MethodHandle" ∧ yX12_toasted.cls ≠ "java/lang/invoke/VarHandle" ∧ (parseMethodDescriptor yX12_toasted.desc).map (fun d => d.parameters.length) = some 2 := by decide +kernel
abbrev rm_X12_toasted : Room := { frames := 5, cells := 0, slots := 0, locals := 118 }
def F_X12_toasted (a1 : Int32) (a2 : Int32) (σ : SG) (ρ : RG) : Option (Int32 × SG) :=
  bn (F_X12_in a1 (0 : Int32) (40 : Int32) σ ρ) fun r1 =>
  if r1 = 0 then
    some ((-2 : Int32), σ)
  else
    bn (F_X12_in a2 (0 : Int32) (99 : Int32) σ ρ) fun r3 =>
    if r3 = 0 then
      some ((-2 : Int32), σ)
    else
      bn (F_X12_keeps σ ρ) fun σ5 =>
      bn (F_X12_goesOn a1 a2 (-1 : Int32) σ5 ρ) fun σ6 =>
      bn (F_X12_goesBack σ6 ρ) fun σ7 =>
      some ((σ7 54 21), σ7)
set_option maxHeartbeats 4000000 in
set_option maxRecDepth 100000 in
theorem w_X12_toasted_0 {a1 : Int32} {a2 : Int32} {p : Program} {e : Env} {s : State} {m : MethodId} {args : Array Value} {below : List Frame} {meth : Method} {c : Code} {ρ0 : RG} {r : Int32} {σ1 : SG} (C : Cx Y D N ad p s m args meth c cX12_toasted 3 (some .int) RX12 wsL_law) {σ : SG} {ρ : RG} {H : Heap} {locs : List Loc} {ls : Array Slot} (hρ0 : ρ = ρ0) (hL : Lay N K len ρ) (hF : F_X12_toasted a1 a2 σ ρ = some (r, σ1)) (hP : WP Y D N ad K len σ ρ H) (hS : va_S (AA N ad s.heap.size) s.heap H locs) (hl : lv_has ls 3 [(0, .ref (ad 54)), (1, .int a1), (2, .int a2)]) : W p l e rm_X12_toasted s m args below meth c H locs 0 0 (MQ below (QW Y D N ad K len σ1 ρ0 (AA N ad s.heap.size) (some (.int r))) args s 0 0 (AA N ad s.heap.size)) (F0 m 0 ls []) := by
  have hx := C.1.1
  have hb := C.1.2.1
  unfold F_X12_toasted at hF
  refine lv_iload_n hx hb dX12_toasted_0 rfl (lv_at hl 1 rfl) ?_
  refine lv_iconst (v := 0) hx hb dX12_toasted_1 (by decide) ?_
  refine lv_bipush (v := 40) hx hb dX12_toasted_2 (by decide +kernel) ?_
  obtain ⟨r1, hq1, hF⟩ := bn_1 hF
  refine x_callS C hP hS (c_X12_in hL hq1) (va_cwS 3 C.1.2.2.2.2 (gdS mw_104 mw_105 mw_5 mw_106) rfl rfl rfl hd_X12_in.2 ⟨Nat.le_of_ble_eq_true rfl, Nat.le_of_ble_eq_true rfl⟩) rfl rfl hl.1 (Nat.le_of_ble_eq_true rfl) ⟨Nat.zero_le _, Nat.zero_le _⟩ dX12_toasted_4 (fun H locs hP hS => ?_)
  refine lv_if_eq (tgt := 20) hx hb dX12_toasted_7 (by decide) (fun c_2 => ?_) (fun c_2 => ?_) -- COND 2 by_cases c_2 : r1 = 0
  · have hF := ite_t hF c_2
    refine lv_bipush (v := -2) hx hb dX12_toasted_20 (by decide +kernel) ?_
    obtain ⟨rfl, rfl⟩ := ret_2 hF
    subst hρ0
    exact x_iret rfl C hP hS dX12_toasted_22
  · have hF := ite_f hF c_2
    refine lv_iload_n hx hb dX12_toasted_10 rfl (lv_at hl 2 rfl) ?_
    refine lv_iconst (v := 0) hx hb dX12_toasted_11 (by decide) ?_
    refine lv_bipush (v := 99) hx hb dX12_toasted_12 (by decide +kernel) ?_
    obtain ⟨r3, hq3, hF⟩ := bn_1 hF
    refine x_callS C hP hS (c_X12_in hL hq3) (va_cwS 3 C.1.2.2.2.2 (gdS mw_104 mw_105 mw_5 mw_106) rfl rfl rfl hd_X12_in.2 ⟨Nat.le_of_ble_eq_true rfl, Nat.le_of_ble_eq_true rfl⟩) rfl rfl hl.1 (Nat.le_of_ble_eq_true rfl) ⟨Nat.zero_le _, Nat.zero_le _⟩ dX12_toasted_14 (fun H locs hP hS => ?_)
    refine lv_if_ne (tgt := 23) hx hb dX12_toasted_17 (by decide) (fun c_4 => ?_) (fun c_4 => ?_) -- COND 4 rcases (Decidable.em (r3 = 0)).symm with c_4 | c_4
    · have hF := ite_f hF c_4
      refine lv_aload_n hx hb dX12_toasted_23 rfl (lv_at hl 0 rfl) ?_
      obtain ⟨σ5, hq5, hF⟩ := bn_1 hF
      refine x_callV (ci := 12) rfl rfl C hP hS (c_X12_keeps hL hq5) (lr_54 hL) (lk_54 hL) (cwV 0 C.1.2.2.2.2 (gdV mw_732 mw_733 mw_734 mw_5 mw_735) rfl rfl rfl hd_X12_keeps ⟨Nat.le_of_ble_eq_true rfl, Nat.le_of_ble_eq_true rfl⟩) rfl rfl hl.1 (Nat.le_of_ble_eq_true rfl) ⟨Nat.zero_le _, Nat.zero_le _⟩ dX12_toasted_24 (fun H locs hP hS => ?_)
      refine lv_aload_n hx hb dX12_toasted_27 rfl (lv_at hl 0 rfl) ?_
      refine lv_iload_n hx hb dX12_toasted_28 rfl (lv_at hl 1 rfl) ?_
      refine lv_iload_n hx hb dX12_toasted_29 rfl (lv_at hl 2 rfl) ?_
      refine lv_iconst (v := -1) hx hb dX12_toasted_30 (by decide) ?_
      obtain ⟨σ6, hq6, hF⟩ := bn_1 hF
      refine x_callV (ci := 12) rfl rfl C hP hS (c_X12_goesOn hL hq6) (lr_54 hL) (lk_54 hL) (cwV 3 C.1.2.2.2.2 (gdV mw_757 mw_758 mw_759 mw_5 mw_760) rfl rfl rfl hd_X12_goesOn ⟨Nat.le_of_ble_eq_true rfl, Nat.le_of_ble_eq_true rfl⟩) rfl rfl hl.1 (Nat.le_of_ble_eq_true rfl) ⟨Nat.zero_le _, Nat.zero_le _⟩ dX12_toasted_31 (fun H locs hP hS => ?_)
      refine lv_aload_n hx hb dX12_toasted_34 rfl (lv_at hl 0 rfl) ?_
      obtain ⟨σ7, hq7, hF⟩ := bn_1 hF
      refine x_callV (ci := 12) rfl rfl C hP hS (c_X12_goesBack hL hq7) (lr_54 hL) (lk_54 hL) (cwV 0 C.1.2.2.2.2 (gdV mw_736 mw_737 mw_738 mw_5 mw_739) rfl rfl rfl hd_X12_goesBack ⟨Nat.le_of_ble_eq_true rfl, Nat.le_of_ble_eq_true rfl⟩) rfl rfl hl.1 (Nat.le_of_ble_eq_true rfl) ⟨Nat.zero_le _, Nat.zero_le _⟩ dX12_toasted_35 (fun H locs hP hS => ?_)
      refine lv_aload_n hx hb dX12_toasted_38 rfl (lv_at hl 0 rfl) ?_
      refine get_12_21 C hP (lr_54 hL) (lk_54 hL) inlX12 mw_761 dX12_toasted_39 ?_
      obtain ⟨rfl, rfl⟩ := ret_2 hF
      subst hρ0
      exact x_iret rfl C hP hS dX12_toasted_42
    · have hF := ite_t hF c_4
      refine lv_bipush (v := -2) hx hb dX12_toasted_20 (by decide +kernel) ?_
      obtain ⟨rfl, rfl⟩ := ret_2 hF
      subst hρ0
      exact x_iret rfl C hP hS dX12_toasted_22
set_option maxHeartbeats 4000000 in
set_option maxRecDepth 100000 in
theorem c_X12_toasted {a1 : Int32} {a2 : Int32} {r : Int32} {σ1 : SG} {σ : SG} {ρ : RG} (hL : Lay N K len ρ) (hF : F_X12_toasted a1 a2 σ ρ = some (r, σ1)) : MT l Y D N ad K len yX12_toasted (Cond.code yX12_toasted cX12_toasted 3 (some .int) :: wsL_law) rm_X12_toasted [.ref (ad 54), .int a1, .int a2] σ ρ (some (.int r)) σ1 ρ := by
  refine mt_of (cc := cX12_toasted) (nL := 3) (ret := (some .int)) (by decide) (Nat.le_of_ble_eq_true rfl) ?_
  intro p e s m args below meth c ls C hnm hP hS hl
  exact w_X12_toasted_0 C rfl hL hF hP hS hl

/-! CutCrookedModel.public int lasts();  -/
theorem dX12_lasts_0 : decode cX12_lasts 0 = .ok (.aload_n 0, 1) := by decide +kernel
theorem dX12_lasts_1 : decode cX12_lasts 1 = .ok (.invokevirtual 191, 3) := by decide +kernel
theorem dX12_lasts_4 : decode cX12_lasts 4 = .ok (.aload_n 0, 1) := by decide +kernel
theorem dX12_lasts_5 : decode cX12_lasts 5 = .ok (.sipush 200, 3) := by decide +kernel
theorem dX12_lasts_8 : decode cX12_lasts 8 = .ok (.iconst 0, 1) := by decide +kernel
theorem dX12_lasts_9 : decode cX12_lasts 9 = .ok (.iconst (-1), 1) := by decide +kernel
theorem dX12_lasts_10 : decode cX12_lasts 10 = .ok (.invokevirtual 210, 3) := by decide +kernel
theorem dX12_lasts_13 : decode cX12_lasts 13 = .ok (.aload_n 0, 1) := by decide +kernel
theorem dX12_lasts_14 : decode cX12_lasts 14 = .ok (.invokevirtual 194, 3) := by decide +kernel
theorem dX12_lasts_17 : decode cX12_lasts 17 = .ok (.aload_n 0, 1) := by decide +kernel
theorem dX12_lasts_18 : decode cX12_lasts 18 = .ok (.getfield 197, 3) := by decide +kernel
theorem dX12_lasts_21 : decode cX12_lasts 21 = .ok (.ireturn, 1) := by decide +kernel
theorem hd_X12_lasts : yX12_lasts.cls = RX12 ∧ yX12_lasts.cls ≠ "java/lang/invoke/MethodHandle" ∧ yX12_lasts.cls ≠ "java/lang/invoke/VarHandle" ∧ (parseMethodDescriptor yX12_lasts.desc).map (fun d => d.parameters.length) = some 0 := by decide +kernel
abbrev rm_X12_lasts : Room := { frames := 5, cells := 0, slots := 0, locals := 118 }
def F_X12_lasts  (σ : SG) (ρ : RG) : Option (Int32 × SG) :=
  bn (F_X12_keeps σ ρ) fun σ1 =>
  bn (F_X12_goesOn (200 : Int32) (0 : Int32) (-1 : Int32) σ1 ρ) fun σ2 =>
  bn (F_X12_goesBack σ2 ρ) fun σ3 =>
  some ((σ3 54 19), σ3)
set_option maxHeartbeats 4000000 in
set_option maxRecDepth 100000 in
theorem w_X12_lasts_0  {p : Program} {e : Env} {s : State} {m : MethodId} {args : Array Value} {below : List Frame} {meth : Method} {c : Code} {ρ0 : RG} {r : Int32} {σ1 : SG} (C : Cx Y D N ad p s m args meth c cX12_lasts 1 (some .int) RX12 wsL_law) {σ : SG} {ρ : RG} {H : Heap} {locs : List Loc} {ls : Array Slot} (hρ0 : ρ = ρ0) (hL : Lay N K len ρ) (hF : F_X12_lasts σ ρ = some (r, σ1)) (hP : WP Y D N ad K len σ ρ H) (hS : va_S (AA N ad s.heap.size) s.heap H locs) (hl : lv_has ls 1 [(0, .ref (ad 54))]) : W p l e rm_X12_lasts s m args below meth c H locs 0 0 (MQ below (QW Y D N ad K len σ1 ρ0 (AA N ad s.heap.size) (some (.int r))) args s 0 0 (AA N ad s.heap.size)) (F0 m 0 ls []) := by
  have hx := C.1.1
  have hb := C.1.2.1
  unfold F_X12_lasts at hF
  refine lv_aload_n hx hb dX12_lasts_0 rfl (lv_at hl 0 rfl) ?_
  obtain ⟨σ1, hq1, hF⟩ := bn_1 hF
  refine x_callV (ci := 12) rfl rfl C hP hS (c_X12_keeps hL hq1) (lr_54 hL) (lk_54 hL) (cwV 0 C.1.2.2.2.2 (gdV mw_732 mw_733 mw_734 mw_5 mw_735) rfl rfl rfl hd_X12_keeps ⟨Nat.le_of_ble_eq_true rfl, Nat.le_of_ble_eq_true rfl⟩) rfl rfl hl.1 (Nat.le_of_ble_eq_true rfl) ⟨Nat.zero_le _, Nat.zero_le _⟩ dX12_lasts_1 (fun H locs hP hS => ?_)
  refine lv_aload_n hx hb dX12_lasts_4 rfl (lv_at hl 0 rfl) ?_
  refine lv_sipush (v := 200) hx hb dX12_lasts_5 (by decide +kernel) ?_
  refine lv_iconst (v := 0) hx hb dX12_lasts_8 (by decide) ?_
  refine lv_iconst (v := -1) hx hb dX12_lasts_9 (by decide) ?_
  obtain ⟨σ2, hq2, hF⟩ := bn_1 hF
  refine x_callV (ci := 12) rfl rfl C hP hS (c_X12_goesOn hL hq2) (lr_54 hL) (lk_54 hL) (cwV 3 C.1.2.2.2.2 (gdV mw_757 mw_758 mw_759 mw_5 mw_760) rfl rfl rfl hd_X12_goesOn ⟨Nat.le_of_ble_eq_true rfl, Nat.le_of_ble_eq_true rfl⟩) rfl rfl hl.1 (Nat.le_of_ble_eq_true rfl) ⟨Nat.zero_le _, Nat.zero_le _⟩ dX12_lasts_10 (fun H locs hP hS => ?_)
  refine lv_aload_n hx hb dX12_lasts_13 rfl (lv_at hl 0 rfl) ?_
  obtain ⟨σ3, hq3, hF⟩ := bn_1 hF
  refine x_callV (ci := 12) rfl rfl C hP hS (c_X12_goesBack hL hq3) (lr_54 hL) (lk_54 hL) (cwV 0 C.1.2.2.2.2 (gdV mw_736 mw_737 mw_738 mw_5 mw_739) rfl rfl rfl hd_X12_goesBack ⟨Nat.le_of_ble_eq_true rfl, Nat.le_of_ble_eq_true rfl⟩) rfl rfl hl.1 (Nat.le_of_ble_eq_true rfl) ⟨Nat.zero_le _, Nat.zero_le _⟩ dX12_lasts_14 (fun H locs hP hS => ?_)
  refine lv_aload_n hx hb dX12_lasts_17 rfl (lv_at hl 0 rfl) ?_
  refine get_12_19 C hP (lr_54 hL) (lk_54 hL) inlX12 mw_755 dX12_lasts_18 ?_
  obtain ⟨rfl, rfl⟩ := ret_2 hF
  subst hρ0
  exact x_iret rfl C hP hS dX12_lasts_21
set_option maxHeartbeats 4000000 in
set_option maxRecDepth 100000 in
theorem c_X12_lasts  {r : Int32} {σ1 : SG} {σ : SG} {ρ : RG} (hL : Lay N K len ρ) (hF : F_X12_lasts σ ρ = some (r, σ1)) : MT l Y D N ad K len yX12_lasts (Cond.code yX12_lasts cX12_lasts 1 (some .int) :: wsL_law) rm_X12_lasts [.ref (ad 54)] σ ρ (some (.int r)) σ1 ρ := by
  refine mt_of (cc := cX12_lasts) (nL := 1) (ret := (some .int)) (by decide) (Nat.le_of_ble_eq_true rfl) ?_
  intro p e s m args below meth c ls C hnm hP hS hl
  exact w_X12_lasts_0 C rfl hL hF hP hS hl

/-! CutCrookedModel.private void stands(int);  -/
theorem dX12_stands_0 : decode cX12_stands 0 = .ok (.iconst 0, 1) := by decide +kernel
theorem dX12_stands_1 : decode cX12_stands 1 = .ok (.istore_n 2, 1) := by decide +kernel
theorem dX12_stands_2 : decode cX12_stands 2 = .ok (.iload_n 2, 1) := by decide +kernel
theorem dX12_stands_3 : decode cX12_stands 3 = .ok (.bipush 11, 2) := by decide +kernel
theorem dX12_stands_5 : decode cX12_stands 5 = .ok (.if_icmp .ge 26, 3) := by decide +kernel
theorem dX12_stands_8 : decode cX12_stands 8 = .ok (.aload_n 0, 1) := by decide +kernel
theorem dX12_stands_9 : decode cX12_stands 9 = .ok (.getfield 28, 3) := by decide +kernel
theorem dX12_stands_12 : decode cX12_stands 12 = .ok (.bipush 11, 2) := by decide +kernel
theorem dX12_stands_14 : decode cX12_stands 14 = .ok (.iload_n 1, 1) := by decide +kernel
theorem dX12_stands_15 : decode cX12_stands 15 = .ok (.imul, 1) := by decide +kernel
theorem dX12_stands_16 : decode cX12_stands 16 = .ok (.iload_n 2, 1) := by decide +kernel
theorem dX12_stands_17 : decode cX12_stands 17 = .ok (.iadd, 1) := by decide +kernel
theorem dX12_stands_18 : decode cX12_stands 18 = .ok (.aload_n 0, 1) := by decide +kernel
theorem dX12_stands_19 : decode cX12_stands 19 = .ok (.getfield 9, 3) := by decide +kernel
theorem dX12_stands_22 : decode cX12_stands 22 = .ok (.iload_n 2, 1) := by decide +kernel
theorem dX12_stands_23 : decode cX12_stands 23 = .ok (.iaload, 1) := by decide +kernel
theorem dX12_stands_24 : decode cX12_stands 24 = .ok (.iastore, 1) := by decide +kernel
theorem dX12_stands_25 : decode cX12_stands 25 = .ok (.iinc 2 1, 3) := by decide +kernel
theorem dX12_stands_28 : decode cX12_stands 28 = .ok (.goto (-26), 3) := by decide +kernel
theorem dX12_stands_31 : decode cX12_stands 31 = .ok (.return_, 1) := by decide +kernel
theorem hd_X12_stands : yX12_stands.cls = RX12 ∧ yX12_stands.cls ≠ "java/lang/invoke/MethodHandle" ∧ yX12_stands.cls ≠ "java/lang/invoke/VarHandle" ∧ (parseMethodDescriptor yX12_stands.desc).map (fun d => d.parameters.length) = some 1 := by decide +kernel
abbrev rm_X12_stands : Room := { frames := 0, cells := 0, slots := 0, locals := 0 }
def F_X12_stands_2 (a1 : Int32) : Nat → SG → RG → Int32 → Int32 → Option (SG)
  | 0 => fun _ _ _ _ => none
  | n + 1 => fun σ ρ v1 v2 =>
  if (11 : Int32) ≤ v2 then
    some σ
  else
    nm ((11 : Int32) * v1) fun x2 =>
    nm (x2 + v2) fun x3 =>
    gd (inb v2 909) <|
    gd (inb x3 66) <|
    nm (s2 σ 60 (x3).toNatClampNeg (σ 55 (v2).toNatClampNeg)) fun σ7 =>
    nm (v2 + (1 : Int32)) fun x8 =>
    F_X12_stands_2 a1 n σ7 ρ v1 x8
def F_X12_stands (a1 : Int32) (σ : SG) (ρ : RG) : Option (SG) :=
  F_X12_stands_2 a1 1024 σ ρ a1 (0 : Int32)
set_option maxHeartbeats 4000000 in
set_option maxRecDepth 100000 in
theorem w_X12_stands_2 {a1 : Int32} {p : Program} {e : Env} {s : State} {m : MethodId} {args : Array Value} {below : List Frame} {meth : Method} {c : Code} {ρ0 : RG} {σ1 : SG} (C : Cx Y D N ad p s m args meth c cX12_stands 3 none RX12 wsL_law) : ∀ (n : Nat) (σ : SG) (ρ : RG) (v1 : Int32) (v2 : Int32) (H : Heap) (locs : List Loc) (ls : Array Slot), ρ = ρ0 → Lay N K len ρ → F_X12_stands_2 a1 n σ ρ v1 v2 = some σ1 → WP Y D N ad K len σ ρ H → va_S (AA N ad s.heap.size) s.heap H locs → lv_has ls 3 [(0, .ref (ad 54)), (1, .int v1), (2, .int v2)] → W p l e rm_X12_stands s m args below meth c H locs 0 0 (MQ below (QW Y D N ad K len σ1 ρ0 (AA N ad s.heap.size) none) args s 0 0 (AA N ad s.heap.size)) (F0 m 2 ls []) := by
  have hx := C.1.1
  have hb := C.1.2.1
  intro n
  induction n with
  | zero => intro σ ρ v1 v2 H locs ls hρ0 hL hF; cases hF
  | succ n ih =>
    intro σ ρ v1 v2 H locs ls hρ0 hL hF hP hS hl
    unfold F_X12_stands_2 at hF
    refine lv_iload_n hx hb dX12_stands_2 rfl (lv_at hl 2 rfl) ?_
    refine lv_bipush (v := 11) hx hb dX12_stands_3 (by decide +kernel) ?_
    refine lv_icmp_ge (tgt := 31) hx hb dX12_stands_5 (by decide) (fun c_1 => ?_) (fun c_1 => ?_) -- COND 1 by_cases c_1 : (11 : Int32) ≤ v2
    · have hF := ite_t hF c_1
      obtain rfl := ret_1 hF
      subst hρ0
      exact x_vret rfl C hP hS dX12_stands_31
    · have hF := ite_f hF c_1
      refine lv_aload_n hx hb dX12_stands_8 rfl (lv_at hl 0 rfl) ?_
      refine get_12_22 C hP (lr_54 hL) (lk_54 hL) inlX12 mw_86 (lf_54_22 hL) dX12_stands_9 ?_
      refine lv_bipush (v := 11) hx hb dX12_stands_12 (by decide +kernel) ?_
      refine lv_iload_n hx hb dX12_stands_14 rfl (lv_at hl 1 rfl) ?_
      refine lv_imul hx hb dX12_stands_15 ?_
      obtain ⟨x2, ex2, hF⟩ := nm_1 hF
      refine x_top ex2 ?_
      refine lv_iload_n hx hb dX12_stands_16 rfl (lv_at hl 2 rfl) ?_
      refine lv_iadd hx hb dX12_stands_17 ?_
      obtain ⟨x3, ex3, hF⟩ := nm_1 hF
      refine x_top ex3 ?_
      refine lv_aload_n hx hb dX12_stands_18 rfl (lv_at hl 0 rfl) ?_
      refine get_12_1 C hP (lr_54 hL) (lk_54 hL) inlX12 mw_81 (lf_54_1 hL) dX12_stands_19 ?_
      refine lv_iload_n hx hb dX12_stands_22 rfl (lv_at hl 2 rfl) ?_
      obtain ⟨g4, hF⟩ := gd_1 hF
      refine x_iald C hP (lr_55 hL) (lk_55 hL) (ln_55 hL) g4 dX12_stands_23 ?_
      obtain ⟨g5, hF⟩ := gd_1 hF
      obtain ⟨σ7, eσ7, hF⟩ := nm_1 hF
      refine x_iast (σ1 := σ7) C hP hS (lr_60 hL) (lk_60 hL) (ln_60 hL) g5 eσ7 dX12_stands_24 (fun H locs hP hS => ?_)
      obtain ⟨x8, ex8, hF⟩ := nm_1 hF
      refine lv_iinc (v := x8) (lv' := [(2, .int x8), (0, .ref (ad 54)), (1, .int v1)]) hx hb dX12_stands_25 hl (k := 2) rfl (by rw [ex8]; first | rfl | decide) (by decide) rfl (fun ls hl => ?_)
      refine lv_goto (tgt := 2) hx hb dX12_stands_28 (by decide) ?_
      exact ih _ _ _ _ _ _ _ hρ0 hL hF hP hS (lv_sub hl [1, 2, 0] rfl)
set_option maxHeartbeats 4000000 in
set_option maxRecDepth 100000 in
theorem w_X12_stands_0 {a1 : Int32} {p : Program} {e : Env} {s : State} {m : MethodId} {args : Array Value} {below : List Frame} {meth : Method} {c : Code} {ρ0 : RG} {σ1 : SG} (C : Cx Y D N ad p s m args meth c cX12_stands 3 none RX12 wsL_law) {σ : SG} {ρ : RG} {H : Heap} {locs : List Loc} {ls : Array Slot} (hρ0 : ρ = ρ0) (hL : Lay N K len ρ) (hF : F_X12_stands a1 σ ρ = some σ1) (hP : WP Y D N ad K len σ ρ H) (hS : va_S (AA N ad s.heap.size) s.heap H locs) (hl : lv_has ls 3 [(0, .ref (ad 54)), (1, .int a1)]) : W p l e rm_X12_stands s m args below meth c H locs 0 0 (MQ below (QW Y D N ad K len σ1 ρ0 (AA N ad s.heap.size) none) args s 0 0 (AA N ad s.heap.size)) (F0 m 0 ls []) := by
  have hx := C.1.1
  have hb := C.1.2.1
  unfold F_X12_stands at hF
  refine lv_iconst (v := 0) hx hb dX12_stands_0 (by decide) ?_
  refine lv_istore_n (lv' := [(2, .int (0 : Int32)), (0, .ref (ad 54)), (1, .int a1)]) hx hb dX12_stands_1 rfl hl (by decide) rfl (fun ls hl => ?_)
  exact w_X12_stands_2 C 1024 _ _ _ _ _ _ _ hρ0 hL hF hP hS (lv_sub hl [1, 2, 0] rfl)
set_option maxHeartbeats 4000000 in
set_option maxRecDepth 100000 in
theorem c_X12_stands {a1 : Int32} {σ1 : SG} {σ : SG} {ρ : RG} (hL : Lay N K len ρ) (hF : F_X12_stands a1 σ ρ = some σ1) : MT l Y D N ad K len yX12_stands (Cond.code yX12_stands cX12_stands 3 none :: wsL_law) rm_X12_stands [.ref (ad 54), .int a1] σ ρ none σ1 ρ := by
  refine mt_of (cc := cX12_stands) (nL := 3) (ret := none) (by decide) (Nat.le_of_ble_eq_true rfl) ?_
  intro p e s m args below meth c ls C hnm hP hS hl
  exact w_X12_stands_0 C rfl hL hF hP hS hl

/-! CutCrookedModel.private void standsBack(int);  -/
theorem dX12_standsBack_0 : decode cX12_standsBack 0 = .ok (.iconst 0, 1) := by decide +kernel
theorem dX12_standsBack_1 : decode cX12_standsBack 1 = .ok (.istore_n 2, 1) := by decide +kernel
theorem dX12_standsBack_2 : decode cX12_standsBack 2 = .ok (.iload_n 2, 1) := by decide +kernel
theorem dX12_standsBack_3 : decode cX12_standsBack 3 = .ok (.bipush 11, 2) := by decide +kernel
theorem dX12_standsBack_5 : decode cX12_standsBack 5 = .ok (.if_icmp .ge 26, 3) := by decide +kernel
theorem dX12_standsBack_8 : decode cX12_standsBack 8 = .ok (.aload_n 0, 1) := by decide +kernel
theorem dX12_standsBack_9 : decode cX12_standsBack 9 = .ok (.getfield 9, 3) := by decide +kernel
theorem dX12_standsBack_12 : decode cX12_standsBack 12 = .ok (.iload_n 2, 1) := by decide +kernel
theorem dX12_standsBack_13 : decode cX12_standsBack 13 = .ok (.aload_n 0, 1) := by decide +kernel
theorem dX12_standsBack_14 : decode cX12_standsBack 14 = .ok (.getfield 28, 3) := by decide +kernel
theorem dX12_standsBack_17 : decode cX12_standsBack 17 = .ok (.bipush 11, 2) := by decide +kernel
theorem dX12_standsBack_19 : decode cX12_standsBack 19 = .ok (.iload_n 1, 1) := by decide +kernel
theorem dX12_standsBack_20 : decode cX12_standsBack 20 = .ok (.imul, 1) := by decide +kernel
theorem dX12_standsBack_21 : decode cX12_standsBack 21 = .ok (.iload_n 2, 1) := by decide +kernel
theorem dX12_standsBack_22 : decode cX12_standsBack 22 = .ok (.iadd, 1) := by decide +kernel
theorem dX12_standsBack_23 : decode cX12_standsBack 23 = .ok (.iaload, 1) := by decide +kernel
theorem dX12_standsBack_24 : decode cX12_standsBack 24 = .ok (.iastore, 1) := by decide +kernel
theorem dX12_standsBack_25 : decode cX12_standsBack 25 = .ok (.iinc 2 1, 3) := by decide +kernel
theorem dX12_standsBack_28 : decode cX12_standsBack 28 = .ok (.goto (-26), 3) := by decide +kernel
theorem dX12_standsBack_31 : decode cX12_standsBack 31 = .ok (.return_, 1) := by decide +kernel
theorem hd_X12_standsBack : yX12_standsBack.cls = RX12 ∧ yX12_standsBack.cls ≠ "java/lang/invoke/MethodHandle" ∧ yX12_standsBack.cls ≠ "java/lang/invoke/VarHandle" ∧ (parseMethodDescriptor yX12_standsBack.desc).map (fun d => d.parameters.length) = some 1 := by decide +kernel
abbrev rm_X12_standsBack : Room := { frames := 0, cells := 0, slots := 0, locals := 0 }
def F_X12_standsBack_2 (a1 : Int32) : Nat → SG → RG → Int32 → Int32 → Option (SG)
  | 0 => fun _ _ _ _ => none
  | n + 1 => fun σ ρ v1 v2 =>
  if (11 : Int32) ≤ v2 then
    some σ
  else
    nm ((11 : Int32) * v1) fun x2 =>
    nm (x2 + v2) fun x3 =>
    gd (inb x3 66) <|
    gd (inb v2 909) <|
    nm (s2 σ 55 (v2).toNatClampNeg (σ 60 (x3).toNatClampNeg)) fun σ7 =>
    nm (v2 + (1 : Int32)) fun x8 =>
    F_X12_standsBack_2 a1 n σ7 ρ v1 x8
def F_X12_standsBack (a1 : Int32) (σ : SG) (ρ : RG) : Option (SG) :=
  F_X12_standsBack_2 a1 1024 σ ρ a1 (0 : Int32)
set_option maxHeartbeats 4000000 in
set_option maxRecDepth 100000 in
theorem w_X12_standsBack_2 {a1 : Int32} {p : Program} {e : Env} {s : State} {m : MethodId} {args : Array Value} {below : List Frame} {meth : Method} {c : Code} {ρ0 : RG} {σ1 : SG} (C : Cx Y D N ad p s m args meth c cX12_standsBack 3 none RX12 wsL_law) : ∀ (n : Nat) (σ : SG) (ρ : RG) (v1 : Int32) (v2 : Int32) (H : Heap) (locs : List Loc) (ls : Array Slot), ρ = ρ0 → Lay N K len ρ → F_X12_standsBack_2 a1 n σ ρ v1 v2 = some σ1 → WP Y D N ad K len σ ρ H → va_S (AA N ad s.heap.size) s.heap H locs → lv_has ls 3 [(0, .ref (ad 54)), (1, .int v1), (2, .int v2)] → W p l e rm_X12_standsBack s m args below meth c H locs 0 0 (MQ below (QW Y D N ad K len σ1 ρ0 (AA N ad s.heap.size) none) args s 0 0 (AA N ad s.heap.size)) (F0 m 2 ls []) := by
  have hx := C.1.1
  have hb := C.1.2.1
  intro n
  induction n with
  | zero => intro σ ρ v1 v2 H locs ls hρ0 hL hF; cases hF
  | succ n ih =>
    intro σ ρ v1 v2 H locs ls hρ0 hL hF hP hS hl
    unfold F_X12_standsBack_2 at hF
    refine lv_iload_n hx hb dX12_standsBack_2 rfl (lv_at hl 2 rfl) ?_
    refine lv_bipush (v := 11) hx hb dX12_standsBack_3 (by decide +kernel) ?_
    refine lv_icmp_ge (tgt := 31) hx hb dX12_standsBack_5 (by decide) (fun c_1 => ?_) (fun c_1 => ?_) -- COND 1 by_cases c_1 : (11 : Int32) ≤ v2
    · have hF := ite_t hF c_1
      obtain rfl := ret_1 hF
      subst hρ0
      exact x_vret rfl C hP hS dX12_standsBack_31
    · have hF := ite_f hF c_1
      refine lv_aload_n hx hb dX12_standsBack_8 rfl (lv_at hl 0 rfl) ?_
      refine get_12_1 C hP (lr_54 hL) (lk_54 hL) inlX12 mw_81 (lf_54_1 hL) dX12_standsBack_9 ?_
      refine lv_iload_n hx hb dX12_standsBack_12 rfl (lv_at hl 2 rfl) ?_
      refine lv_aload_n hx hb dX12_standsBack_13 rfl (lv_at hl 0 rfl) ?_
      refine get_12_22 C hP (lr_54 hL) (lk_54 hL) inlX12 mw_86 (lf_54_22 hL) dX12_standsBack_14 ?_
      refine lv_bipush (v := 11) hx hb dX12_standsBack_17 (by decide +kernel) ?_
      refine lv_iload_n hx hb dX12_standsBack_19 rfl (lv_at hl 1 rfl) ?_
      refine lv_imul hx hb dX12_standsBack_20 ?_
      obtain ⟨x2, ex2, hF⟩ := nm_1 hF
      refine x_top ex2 ?_
      refine lv_iload_n hx hb dX12_standsBack_21 rfl (lv_at hl 2 rfl) ?_
      refine lv_iadd hx hb dX12_standsBack_22 ?_
      obtain ⟨x3, ex3, hF⟩ := nm_1 hF
      refine x_top ex3 ?_
      obtain ⟨g4, hF⟩ := gd_1 hF
      refine x_iald C hP (lr_60 hL) (lk_60 hL) (ln_60 hL) g4 dX12_standsBack_23 ?_
      obtain ⟨g5, hF⟩ := gd_1 hF
      obtain ⟨σ7, eσ7, hF⟩ := nm_1 hF
      refine x_iast (σ1 := σ7) C hP hS (lr_55 hL) (lk_55 hL) (ln_55 hL) g5 eσ7 dX12_standsBack_24 (fun H locs hP hS => ?_)
      obtain ⟨x8, ex8, hF⟩ := nm_1 hF
      refine lv_iinc (v := x8) (lv' := [(2, .int x8), (0, .ref (ad 54)), (1, .int v1)]) hx hb dX12_standsBack_25 hl (k := 2) rfl (by rw [ex8]; first | rfl | decide) (by decide) rfl (fun ls hl => ?_)
      refine lv_goto (tgt := 2) hx hb dX12_standsBack_28 (by decide) ?_
      exact ih _ _ _ _ _ _ _ hρ0 hL hF hP hS (lv_sub hl [1, 2, 0] rfl)
set_option maxHeartbeats 4000000 in
set_option maxRecDepth 100000 in
theorem w_X12_standsBack_0 {a1 : Int32} {p : Program} {e : Env} {s : State} {m : MethodId} {args : Array Value} {below : List Frame} {meth : Method} {c : Code} {ρ0 : RG} {σ1 : SG} (C : Cx Y D N ad p s m args meth c cX12_standsBack 3 none RX12 wsL_law) {σ : SG} {ρ : RG} {H : Heap} {locs : List Loc} {ls : Array Slot} (hρ0 : ρ = ρ0) (hL : Lay N K len ρ) (hF : F_X12_standsBack a1 σ ρ = some σ1) (hP : WP Y D N ad K len σ ρ H) (hS : va_S (AA N ad s.heap.size) s.heap H locs) (hl : lv_has ls 3 [(0, .ref (ad 54)), (1, .int a1)]) : W p l e rm_X12_standsBack s m args below meth c H locs 0 0 (MQ below (QW Y D N ad K len σ1 ρ0 (AA N ad s.heap.size) none) args s 0 0 (AA N ad s.heap.size)) (F0 m 0 ls []) := by
  have hx := C.1.1
  have hb := C.1.2.1
  unfold F_X12_standsBack at hF
  refine lv_iconst (v := 0) hx hb dX12_standsBack_0 (by decide) ?_
  refine lv_istore_n (lv' := [(2, .int (0 : Int32)), (0, .ref (ad 54)), (1, .int a1)]) hx hb dX12_standsBack_1 rfl hl (by decide) rfl (fun ls hl => ?_)
  exact w_X12_standsBack_2 C 1024 _ _ _ _ _ _ _ hρ0 hL hF hP hS (lv_sub hl [1, 2, 0] rfl)
set_option maxHeartbeats 4000000 in
set_option maxRecDepth 100000 in
theorem c_X12_standsBack {a1 : Int32} {σ1 : SG} {σ : SG} {ρ : RG} (hL : Lay N K len ρ) (hF : F_X12_standsBack a1 σ ρ = some σ1) : MT l Y D N ad K len yX12_standsBack (Cond.code yX12_standsBack cX12_standsBack 3 none :: wsL_law) rm_X12_standsBack [.ref (ad 54), .int a1] σ ρ none σ1 ρ := by
  refine mt_of (cc := cX12_standsBack) (nL := 3) (ret := none) (by decide) (Nat.le_of_ble_eq_true rfl) ?_
  intro p e s m args below meth c ls C hnm hP hS hl
  exact w_X12_standsBack_0 C rfl hL hF hP hS hl

/-! CutCrookedModel.public int cancel();  -/
theorem dX12_cancel_0 : decode cX12_cancel 0 = .ok (.bipush (-5), 2) := by decide +kernel
theorem dX12_cancel_2 : decode cX12_cancel 2 = .ok (.istore_n 1, 1) := by decide +kernel
theorem dX12_cancel_3 : decode cX12_cancel 3 = .ok (.ldc 180, 2) := by decide +kernel
theorem dX12_cancel_5 : decode cX12_cancel 5 = .ok (.istore_n 2, 1) := by decide +kernel
theorem dX12_cancel_6 : decode cX12_cancel 6 = .ok (.aload_n 0, 1) := by decide +kernel
theorem dX12_cancel_7 : decode cX12_cancel 7 = .ok (.invokevirtual 191, 3) := by decide +kernel
theorem dX12_cancel_10 : decode cX12_cancel 10 = .ok (.iconst 0, 1) := by decide +kernel
theorem dX12_cancel_11 : decode cX12_cancel 11 = .ok (.istore_n 3, 1) := by decide +kernel
theorem dX12_cancel_12 : decode cX12_cancel 12 = .ok (.iload_n 3, 1) := by decide +kernel
theorem dX12_cancel_13 : decode cX12_cancel 13 = .ok (.aload_n 0, 1) := by decide +kernel
theorem dX12_cancel_14 : decode cX12_cancel 14 = .ok (.getfield 9, 3) := by decide +kernel
theorem dX12_cancel_17 : decode cX12_cancel 17 = .ok (.bipush 11, 2) := by decide +kernel
theorem dX12_cancel_19 : decode cX12_cancel 19 = .ok (.iaload, 1) := by decide +kernel
theorem dX12_cancel_20 : decode cX12_cancel 20 = .ok (.aload_n 0, 1) := by decide +kernel
theorem dX12_cancel_21 : decode cX12_cancel 21 = .ok (.getfield 9, 3) := by decide +kernel
theorem dX12_cancel_24 : decode cX12_cancel 24 = .ok (.bipush 11, 2) := by decide +kernel
theorem dX12_cancel_26 : decode cX12_cancel 26 = .ok (.iaload, 1) := by decide +kernel
theorem dX12_cancel_27 : decode cX12_cancel 27 = .ok (.imul, 1) := by decide +kernel
theorem dX12_cancel_28 : decode cX12_cancel 28 = .ok (.if_icmp .ge 125, 3) := by decide +kernel
theorem dX12_cancel_31 : decode cX12_cancel 31 = .ok (.iload_n 3, 1) := by decide +kernel
theorem dX12_cancel_32 : decode cX12_cancel 32 = .ok (.aload_n 0, 1) := by decide +kernel
theorem dX12_cancel_33 : decode cX12_cancel 33 = .ok (.getfield 9, 3) := by decide +kernel
theorem dX12_cancel_36 : decode cX12_cancel 36 = .ok (.bipush 11, 2) := by decide +kernel
theorem dX12_cancel_38 : decode cX12_cancel 38 = .ok (.iaload, 1) := by decide +kernel
theorem dX12_cancel_39 : decode cX12_cancel 39 = .ok (.idiv, 1) := by decide +kernel
theorem dX12_cancel_40 : decode cX12_cancel 40 = .ok (.istore 4, 2) := by decide +kernel
theorem dX12_cancel_42 : decode cX12_cancel 42 = .ok (.iload_n 3, 1) := by decide +kernel
theorem dX12_cancel_43 : decode cX12_cancel 43 = .ok (.aload_n 0, 1) := by decide +kernel
theorem dX12_cancel_44 : decode cX12_cancel 44 = .ok (.getfield 9, 3) := by decide +kernel
theorem dX12_cancel_47 : decode cX12_cancel 47 = .ok (.bipush 11, 2) := by decide +kernel
theorem dX12_cancel_49 : decode cX12_cancel 49 = .ok (.iaload, 1) := by decide +kernel
theorem dX12_cancel_50 : decode cX12_cancel 50 = .ok (.irem, 1) := by decide +kernel
theorem dX12_cancel_51 : decode cX12_cancel 51 = .ok (.istore 5, 2) := by decide +kernel
theorem dX12_cancel_53 : decode cX12_cancel 53 = .ok (.aload_n 0, 1) := by decide +kernel
theorem dX12_cancel_54 : decode cX12_cancel 54 = .ok (.iload 4, 2) := by decide +kernel
theorem dX12_cancel_56 : decode cX12_cancel 56 = .ok (.aload_n 0, 1) := by decide +kernel
theorem dX12_cancel_57 : decode cX12_cancel 57 = .ok (.getfield 9, 3) := by decide +kernel
theorem dX12_cancel_60 : decode cX12_cancel 60 = .ok (.bipush 44, 2) := by decide +kernel
theorem dX12_cancel_62 : decode cX12_cancel 62 = .ok (.iload 4, 2) := by decide +kernel
theorem dX12_cancel_64 : decode cX12_cancel 64 = .ok (.iadd, 1) := by decide +kernel
theorem dX12_cancel_65 : decode cX12_cancel 65 = .ok (.iaload, 1) := by decide +kernel
theorem dX12_cancel_66 : decode cX12_cancel 66 = .ok (.invokevirtual 187, 3) := by decide +kernel
theorem dX12_cancel_69 : decode cX12_cancel 69 = .ok (.ifCond .eq 74, 3) := by decide +kernel
theorem dX12_cancel_72 : decode cX12_cancel 72 = .ok (.aload_n 0, 1) := by decide +kernel
theorem dX12_cancel_73 : decode cX12_cancel 73 = .ok (.iload 5, 2) := by decide +kernel
theorem dX12_cancel_75 : decode cX12_cancel 75 = .ok (.aload_n 0, 1) := by decide +kernel
theorem dX12_cancel_76 : decode cX12_cancel 76 = .ok (.getfield 9, 3) := by decide +kernel
theorem dX12_cancel_79 : decode cX12_cancel 79 = .ok (.bipush 44, 2) := by decide +kernel
theorem dX12_cancel_81 : decode cX12_cancel 81 = .ok (.iload 5, 2) := by decide +kernel
theorem dX12_cancel_83 : decode cX12_cancel 83 = .ok (.iadd, 1) := by decide +kernel
theorem dX12_cancel_84 : decode cX12_cancel 84 = .ok (.iaload, 1) := by decide +kernel
theorem dX12_cancel_85 : decode cX12_cancel 85 = .ok (.invokevirtual 187, 3) := by decide +kernel
theorem dX12_cancel_88 : decode cX12_cancel 88 = .ok (.ifCond .eq 55, 3) := by decide +kernel
theorem dX12_cancel_91 : decode cX12_cancel 91 = .ok (.aload_n 0, 1) := by decide +kernel
theorem dX12_cancel_92 : decode cX12_cancel 92 = .ok (.getfield 9, 3) := by decide +kernel
theorem dX12_cancel_95 : decode cX12_cancel 95 = .ok (.iconst 1, 1) := by decide +kernel
theorem dX12_cancel_96 : decode cX12_cancel 96 = .ok (.iaload, 1) := by decide +kernel
theorem dX12_cancel_97 : decode cX12_cancel 97 = .ok (.invokestatic 129, 3) := by decide +kernel
theorem dX12_cancel_100 : decode cX12_cancel 100 = .ok (.aload_n 0, 1) := by decide +kernel
theorem dX12_cancel_101 : decode cX12_cancel 101 = .ok (.getfield 9, 3) := by decide +kernel
theorem dX12_cancel_104 : decode cX12_cancel 104 = .ok (.iconst 2, 1) := by decide +kernel
theorem dX12_cancel_105 : decode cX12_cancel 105 = .ok (.iaload, 1) := by decide +kernel
theorem dX12_cancel_106 : decode cX12_cancel 106 = .ok (.invokestatic 129, 3) := by decide +kernel
theorem dX12_cancel_109 : decode cX12_cancel 109 = .ok (.iadd, 1) := by decide +kernel
theorem dX12_cancel_110 : decode cX12_cancel 110 = .ok (.iload_n 2, 1) := by decide +kernel
theorem dX12_cancel_111 : decode cX12_cancel 111 = .ok (.if_icmp .ge 32, 3) := by decide +kernel
theorem dX12_cancel_114 : decode cX12_cancel 114 = .ok (.aload_n 0, 1) := by decide +kernel
theorem dX12_cancel_115 : decode cX12_cancel 115 = .ok (.getfield 9, 3) := by decide +kernel
theorem dX12_cancel_118 : decode cX12_cancel 118 = .ok (.iconst 1, 1) := by decide +kernel
theorem dX12_cancel_119 : decode cX12_cancel 119 = .ok (.iaload, 1) := by decide +kernel
theorem dX12_cancel_120 : decode cX12_cancel 120 = .ok (.invokestatic 129, 3) := by decide +kernel
theorem dX12_cancel_123 : decode cX12_cancel 123 = .ok (.aload_n 0, 1) := by decide +kernel
theorem dX12_cancel_124 : decode cX12_cancel 124 = .ok (.getfield 9, 3) := by decide +kernel
theorem dX12_cancel_127 : decode cX12_cancel 127 = .ok (.iconst 2, 1) := by decide +kernel
theorem dX12_cancel_128 : decode cX12_cancel 128 = .ok (.iaload, 1) := by decide +kernel
theorem dX12_cancel_129 : decode cX12_cancel 129 = .ok (.invokestatic 129, 3) := by decide +kernel
theorem dX12_cancel_132 : decode cX12_cancel 132 = .ok (.iadd, 1) := by decide +kernel
theorem dX12_cancel_133 : decode cX12_cancel 133 = .ok (.istore_n 2, 1) := by decide +kernel
theorem dX12_cancel_134 : decode cX12_cancel 134 = .ok (.bipush 10, 2) := by decide +kernel
theorem dX12_cancel_136 : decode cX12_cancel 136 = .ok (.iload 4, 2) := by decide +kernel
theorem dX12_cancel_138 : decode cX12_cancel 138 = .ok (.imul, 1) := by decide +kernel
theorem dX12_cancel_139 : decode cX12_cancel 139 = .ok (.iload 5, 2) := by decide +kernel
theorem dX12_cancel_141 : decode cX12_cancel 141 = .ok (.iadd, 1) := by decide +kernel
theorem dX12_cancel_142 : decode cX12_cancel 142 = .ok (.istore_n 1, 1) := by decide +kernel
theorem dX12_cancel_143 : decode cX12_cancel 143 = .ok (.aload_n 0, 1) := by decide +kernel
theorem dX12_cancel_144 : decode cX12_cancel 144 = .ok (.invokevirtual 194, 3) := by decide +kernel
theorem dX12_cancel_147 : decode cX12_cancel 147 = .ok (.iinc 3 1, 3) := by decide +kernel
theorem dX12_cancel_150 : decode cX12_cancel 150 = .ok (.goto (-138), 3) := by decide +kernel
theorem dX12_cancel_153 : decode cX12_cancel 153 = .ok (.iload_n 1, 1) := by decide +kernel
theorem dX12_cancel_154 : decode cX12_cancel 154 = .ok (.ireturn, 1) := by decide +kernel
theorem hd_X12_cancel : yX12_cancel.cls = RX12 ∧ yX12_cancel.cls ≠ "java/lang/invoke/MethodHandle" ∧ yX12_cancel.cls ≠ "java/lang/invoke/VarHandle" ∧ (parseMethodDescriptor yX12_cancel.desc).map (fun d => d.parameters.length) = some 0 := by decide +kernel
abbrev rm_X12_cancel : Room := { frames := 4, cells := 0, slots := 0, locals := 93 }
def F_X12_cancel_143  (rec_12 : SG → RG → Int32 → Int32 → Int32 → Option (Int32 × SG)) (σ : SG) (ρ : RG) (v1 : Int32) (v2 : Int32) (v3 : Int32) : Option (Int32 × SG) :=
  bn (F_X12_goesBack σ ρ) fun σ12 =>
  nm (v3 + (1 : Int32)) fun x13 =>
  rec_12 σ12 ρ v1 v2 x13
def F_X12_cancel_12  : Nat → SG → RG → Int32 → Int32 → Int32 → Option (Int32 × SG)
  | 0 => fun _ _ _ _ _ => none
  | n + 1 => fun σ ρ v1 v2 v3 =>
  nm ((σ 55 11) * (σ 55 11)) fun x2 =>
  if x2 ≤ v3 then
    some (v1, σ)
  else
    gd (decide (¬ (σ 55 11) = 0)) <|
    nm (v3 / (σ 55 11)) fun x5 =>
    gd (decide (¬ (σ 55 11) = 0)) <|
    nm (v3 - v3 / (σ 55 11) * (σ 55 11)) fun x7 =>
    nm ((44 : Int32) + x5) fun x8 =>
    gd (inb x8 909) <|
    bn2 (F_X12_cuts x5 (σ 55 (x8).toNatClampNeg) σ ρ) fun r10 σ10 =>
    if r10 = 0 then
      F_X12_cancel_143 (F_X12_cancel_12 n) σ10 ρ v1 v2 v3
    else
      nm ((44 : Int32) + x7) fun x14 =>
      gd (inb x14 909) <|
      bn2 (F_X12_cuts x7 (σ10 55 (x14).toNatClampNeg) σ10 ρ) fun r16 σ16 =>
      if r16 = 0 then
        F_X12_cancel_143 (F_X12_cancel_12 n) σ16 ρ v1 v2 v3
      else
        bn (F_X12_size (σ16 55 1) σ16 ρ) fun r18 =>
        bn (F_X12_size (σ16 55 2) σ16 ρ) fun r19 =>
        nm (r18 + r19) fun x20 =>
        if v2 ≤ x20 then
          F_X12_cancel_143 (F_X12_cancel_12 n) σ16 ρ v1 v2 v3
        else
          bn (F_X12_size (σ16 55 1) σ16 ρ) fun r22 =>
          bn (F_X12_size (σ16 55 2) σ16 ρ) fun r23 =>
          nm (r22 + r23) fun x24 =>
          nm ((10 : Int32) * x5) fun x25 =>
          nm (x25 + x7) fun x26 =>
          F_X12_cancel_143 (F_X12_cancel_12 n) σ16 ρ x26 x24 v3
def F_X12_cancel  (σ : SG) (ρ : RG) : Option (Int32 × SG) :=
  bn (F_X12_keeps σ ρ) fun σ1 =>
  F_X12_cancel_12 1024 σ1 ρ (-5 : Int32) (1000000 : Int32) (0 : Int32)
set_option maxHeartbeats 4000000 in
set_option maxRecDepth 100000 in
theorem w_X12_cancel_143  {rec_12 : SG → RG → Int32 → Int32 → Int32 → Option (Int32 × SG)} {p : Program} {e : Env} {s : State} {m : MethodId} {args : Array Value} {below : List Frame} {meth : Method} {c : Code} {ρ0 : RG} {r : Int32} {σ1 : SG} (C : Cx Y D N ad p s m args meth c cX12_cancel 6 (some .int) RX12 wsL_law) (hrec_12 : ∀ (σ : SG) (ρ : RG) (v1 : Int32) (v2 : Int32) (v3 : Int32) (H : Heap) (locs : List Loc) (ls : Array Slot), ρ = ρ0 → Lay N K len ρ → rec_12 σ ρ v1 v2 v3 = some (r, σ1) → WP Y D N ad K len σ ρ H → va_S (AA N ad s.heap.size) s.heap H locs → lv_has ls 6 [(0, .ref (ad 54)), (1, .int v1), (2, .int v2), (3, .int v3)] → W p l e rm_X12_cancel s m args below meth c H locs 0 0 (MQ below (QW Y D N ad K len σ1 ρ0 (AA N ad s.heap.size) (some (.int r))) args s 0 0 (AA N ad s.heap.size)) (F0 m 12 ls [])) {σ : SG} {ρ : RG} {v1 : Int32} {v2 : Int32} {v3 : Int32} {H : Heap} {locs : List Loc} {ls : Array Slot} (hρ0 : ρ = ρ0) (hL : Lay N K len ρ) (hF : F_X12_cancel_143 rec_12 σ ρ v1 v2 v3 = some (r, σ1)) (hP : WP Y D N ad K len σ ρ H) (hS : va_S (AA N ad s.heap.size) s.heap H locs) (hl : lv_has ls 6 [(0, .ref (ad 54)), (1, .int v1), (2, .int v2), (3, .int v3)]) : W p l e rm_X12_cancel s m args below meth c H locs 0 0 (MQ below (QW Y D N ad K len σ1 ρ0 (AA N ad s.heap.size) (some (.int r))) args s 0 0 (AA N ad s.heap.size)) (F0 m 143 ls []) := by
  have hx := C.1.1
  have hb := C.1.2.1
  unfold F_X12_cancel_143 at hF
  refine lv_aload_n hx hb dX12_cancel_143 rfl (lv_at hl 0 rfl) ?_
  obtain ⟨σ12, hq12, hF⟩ := bn_1 hF
  refine x_callV (ci := 12) rfl rfl C hP hS (c_X12_goesBack hL hq12) (lr_54 hL) (lk_54 hL) (cwV 0 C.1.2.2.2.2 (gdV mw_736 mw_737 mw_738 mw_5 mw_739) rfl rfl rfl hd_X12_goesBack ⟨Nat.le_of_ble_eq_true rfl, Nat.le_of_ble_eq_true rfl⟩) rfl rfl hl.1 (Nat.le_of_ble_eq_true rfl) ⟨Nat.zero_le _, Nat.zero_le _⟩ dX12_cancel_144 (fun H locs hP hS => ?_)
  obtain ⟨x13, ex13, hF⟩ := nm_1 hF
  refine lv_iinc (v := x13) (lv' := [(3, .int x13), (0, .ref (ad 54)), (1, .int v1), (2, .int v2)]) hx hb dX12_cancel_147 hl (k := 3) rfl (by rw [ex13]; first | rfl | decide) (by decide) rfl (fun ls hl => ?_)
  refine lv_goto (tgt := 12) hx hb dX12_cancel_150 (by decide) ?_
  exact hrec_12 _ _ _ _ _ _ _ _ hρ0 hL hF hP hS (lv_sub hl [1, 2, 3, 0] rfl)
set_option maxHeartbeats 4000000 in
set_option maxRecDepth 100000 in
theorem w_X12_cancel_12  {p : Program} {e : Env} {s : State} {m : MethodId} {args : Array Value} {below : List Frame} {meth : Method} {c : Code} {ρ0 : RG} {r : Int32} {σ1 : SG} (C : Cx Y D N ad p s m args meth c cX12_cancel 6 (some .int) RX12 wsL_law) : ∀ (n : Nat) (σ : SG) (ρ : RG) (v1 : Int32) (v2 : Int32) (v3 : Int32) (H : Heap) (locs : List Loc) (ls : Array Slot), ρ = ρ0 → Lay N K len ρ → F_X12_cancel_12 n σ ρ v1 v2 v3 = some (r, σ1) → WP Y D N ad K len σ ρ H → va_S (AA N ad s.heap.size) s.heap H locs → lv_has ls 6 [(0, .ref (ad 54)), (1, .int v1), (2, .int v2), (3, .int v3)] → W p l e rm_X12_cancel s m args below meth c H locs 0 0 (MQ below (QW Y D N ad K len σ1 ρ0 (AA N ad s.heap.size) (some (.int r))) args s 0 0 (AA N ad s.heap.size)) (F0 m 12 ls []) := by
  have hx := C.1.1
  have hb := C.1.2.1
  intro n
  induction n with
  | zero => intro σ ρ v1 v2 v3 H locs ls hρ0 hL hF; cases hF
  | succ n ih =>
    intro σ ρ v1 v2 v3 H locs ls hρ0 hL hF hP hS hl
    unfold F_X12_cancel_12 at hF
    refine lv_iload_n hx hb dX12_cancel_12 rfl (lv_at hl 3 rfl) ?_
    refine lv_aload_n hx hb dX12_cancel_13 rfl (lv_at hl 0 rfl) ?_
    refine get_12_1 C hP (lr_54 hL) (lk_54 hL) inlX12 mw_81 (lf_54_1 hL) dX12_cancel_14 ?_
    refine lv_bipush (v := 11) hx hb dX12_cancel_17 (by decide +kernel) ?_
    refine x_iald C hP (lr_55 hL) (lk_55 hL) (ln_55 hL) (by decide +kernel) dX12_cancel_19 ?_
    rw [cl_11]
    refine lv_aload_n hx hb dX12_cancel_20 rfl (lv_at hl 0 rfl) ?_
    refine get_12_1 C hP (lr_54 hL) (lk_54 hL) inlX12 mw_81 (lf_54_1 hL) dX12_cancel_21 ?_
    refine lv_bipush (v := 11) hx hb dX12_cancel_24 (by decide +kernel) ?_
    refine x_iald C hP (lr_55 hL) (lk_55 hL) (ln_55 hL) (by decide +kernel) dX12_cancel_26 ?_
    rw [cl_11]
    refine lv_imul hx hb dX12_cancel_27 ?_
    obtain ⟨x2, ex2, hF⟩ := nm_1 hF
    refine x_top ex2 ?_
    refine lv_icmp_ge (tgt := 153) hx hb dX12_cancel_28 (by decide) (fun c_3 => ?_) (fun c_3 => ?_) -- COND 3 by_cases c_3 : x2 ≤ v3
    · have hF := ite_t hF c_3
      refine lv_iload_n hx hb dX12_cancel_153 rfl (lv_at hl 1 rfl) ?_
      obtain ⟨rfl, rfl⟩ := ret_2 hF
      subst hρ0
      exact x_iret rfl C hP hS dX12_cancel_154
    · have hF := ite_f hF c_3
      refine lv_iload_n hx hb dX12_cancel_31 rfl (lv_at hl 3 rfl) ?_
      refine lv_aload_n hx hb dX12_cancel_32 rfl (lv_at hl 0 rfl) ?_
      refine get_12_1 C hP (lr_54 hL) (lk_54 hL) inlX12 mw_81 (lf_54_1 hL) dX12_cancel_33 ?_
      refine lv_bipush (v := 11) hx hb dX12_cancel_36 (by decide +kernel) ?_
      refine x_iald C hP (lr_55 hL) (lk_55 hL) (ln_55 hL) (by decide +kernel) dX12_cancel_38 ?_
      rw [cl_11]
      obtain ⟨g4, hF⟩ := gd_1 hF
      refine lv_idiv hx hb dX12_cancel_39 (of_decide_eq_true g4) ?_
      obtain ⟨x5, ex5, hF⟩ := nm_1 hF
      refine x_top ex5 ?_
      refine lv_istore (lv' := [(4, .int x5), (0, .ref (ad 54)), (1, .int v1), (2, .int v2), (3, .int v3)]) hx hb dX12_cancel_40 hl (by decide) rfl (fun ls hl => ?_)
      refine lv_iload_n hx hb dX12_cancel_42 rfl (lv_at hl 4 rfl) ?_
      refine lv_aload_n hx hb dX12_cancel_43 rfl (lv_at hl 1 rfl) ?_
      refine get_12_1 C hP (lr_54 hL) (lk_54 hL) inlX12 mw_81 (lf_54_1 hL) dX12_cancel_44 ?_
      refine lv_bipush (v := 11) hx hb dX12_cancel_47 (by decide +kernel) ?_
      refine x_iald C hP (lr_55 hL) (lk_55 hL) (ln_55 hL) (by decide +kernel) dX12_cancel_49 ?_
      rw [cl_11]
      obtain ⟨g6, hF⟩ := gd_1 hF
      refine lv_irem hx hb dX12_cancel_50 (of_decide_eq_true g6) ?_
      obtain ⟨x7, ex7, hF⟩ := nm_1 hF
      refine x_top ex7 ?_
      refine lv_istore (lv' := [(5, .int x7), (4, .int x5), (0, .ref (ad 54)), (1, .int v1), (2, .int v2), (3, .int v3)]) hx hb dX12_cancel_51 hl (by decide) rfl (fun ls hl => ?_)
      refine lv_aload_n hx hb dX12_cancel_53 rfl (lv_at hl 2 rfl) ?_
      refine lv_iload hx hb dX12_cancel_54 (lv_at hl 1 rfl) ?_
      refine lv_aload_n hx hb dX12_cancel_56 rfl (lv_at hl 2 rfl) ?_
      refine get_12_1 C hP (lr_54 hL) (lk_54 hL) inlX12 mw_81 (lf_54_1 hL) dX12_cancel_57 ?_
      refine lv_bipush (v := 44) hx hb dX12_cancel_60 (by decide +kernel) ?_
      refine lv_iload hx hb dX12_cancel_62 (lv_at hl 1 rfl) ?_
      refine lv_iadd hx hb dX12_cancel_64 ?_
      obtain ⟨x8, ex8, hF⟩ := nm_1 hF
      refine x_top ex8 ?_
      obtain ⟨g9, hF⟩ := gd_1 hF
      refine x_iald C hP (lr_55 hL) (lk_55 hL) (ln_55 hL) g9 dX12_cancel_65 ?_
      obtain ⟨r10, σ10, hq10, hF⟩ := bn2_1 hF
      refine x_callV (ci := 12) rfl rfl C hP hS (c_X12_cuts hL hq10) (lr_54 hL) (lk_54 hL) (cwV 2 C.1.2.2.2.2 (gdV mw_652 mw_653 mw_654 mw_5 mw_655) rfl rfl rfl hd_X12_cuts ⟨Nat.le_of_ble_eq_true rfl, Nat.le_of_ble_eq_true rfl⟩) rfl rfl hl.1 (Nat.le_of_ble_eq_true rfl) ⟨Nat.zero_le _, Nat.zero_le _⟩ dX12_cancel_66 (fun H locs hP hS => ?_)
      refine lv_if_eq (tgt := 143) hx hb dX12_cancel_69 (by decide) (fun c_11 => ?_) (fun c_11 => ?_) -- COND 11 by_cases c_11 : r10 = 0
      · have hF := ite_t hF c_11
        exact w_X12_cancel_143 C ih hρ0 hL hF hP hS (lv_sub hl [2, 3, 4, 5] rfl)
      · have hF := ite_f hF c_11
        refine lv_aload_n hx hb dX12_cancel_72 rfl (lv_at hl 2 rfl) ?_
        refine lv_iload hx hb dX12_cancel_73 (lv_at hl 0 rfl) ?_
        refine lv_aload_n hx hb dX12_cancel_75 rfl (lv_at hl 2 rfl) ?_
        refine get_12_1 C hP (lr_54 hL) (lk_54 hL) inlX12 mw_81 (lf_54_1 hL) dX12_cancel_76 ?_
        refine lv_bipush (v := 44) hx hb dX12_cancel_79 (by decide +kernel) ?_
        refine lv_iload hx hb dX12_cancel_81 (lv_at hl 0 rfl) ?_
        refine lv_iadd hx hb dX12_cancel_83 ?_
        obtain ⟨x14, ex14, hF⟩ := nm_1 hF
        refine x_top ex14 ?_
        obtain ⟨g15, hF⟩ := gd_1 hF
        refine x_iald C hP (lr_55 hL) (lk_55 hL) (ln_55 hL) g15 dX12_cancel_84 ?_
        obtain ⟨r16, σ16, hq16, hF⟩ := bn2_1 hF
        refine x_callV (ci := 12) rfl rfl C hP hS (c_X12_cuts hL hq16) (lr_54 hL) (lk_54 hL) (cwV 2 C.1.2.2.2.2 (gdV mw_652 mw_653 mw_654 mw_5 mw_655) rfl rfl rfl hd_X12_cuts ⟨Nat.le_of_ble_eq_true rfl, Nat.le_of_ble_eq_true rfl⟩) rfl rfl hl.1 (Nat.le_of_ble_eq_true rfl) ⟨Nat.zero_le _, Nat.zero_le _⟩ dX12_cancel_85 (fun H locs hP hS => ?_)
        refine lv_if_eq (tgt := 143) hx hb dX12_cancel_88 (by decide) (fun c_17 => ?_) (fun c_17 => ?_) -- COND 17 by_cases c_17 : r16 = 0
        · have hF := ite_t hF c_17
          exact w_X12_cancel_143 C ih hρ0 hL hF hP hS (lv_sub hl [2, 3, 4, 5] rfl)
        · have hF := ite_f hF c_17
          refine lv_aload_n hx hb dX12_cancel_91 rfl (lv_at hl 2 rfl) ?_
          refine get_12_1 C hP (lr_54 hL) (lk_54 hL) inlX12 mw_81 (lf_54_1 hL) dX12_cancel_92 ?_
          refine lv_iconst (v := 1) hx hb dX12_cancel_95 (by decide) ?_
          refine x_iald C hP (lr_55 hL) (lk_55 hL) (ln_55 hL) (by decide +kernel) dX12_cancel_96 ?_
          rw [cl_1]
          obtain ⟨r18, hq18, hF⟩ := bn_1 hF
          refine x_callS C hP hS (c_X12_size hL hq18) (va_cwS 1 C.1.2.2.2.2 (gdS mw_666 mw_667 mw_5 mw_668) rfl rfl rfl hd_X12_size.2 ⟨Nat.le_of_ble_eq_true rfl, Nat.le_of_ble_eq_true rfl⟩) rfl rfl hl.1 (Nat.le_of_ble_eq_true rfl) ⟨Nat.zero_le _, Nat.zero_le _⟩ dX12_cancel_97 (fun H locs hP hS => ?_)
          refine lv_aload_n hx hb dX12_cancel_100 rfl (lv_at hl 2 rfl) ?_
          refine get_12_1 C hP (lr_54 hL) (lk_54 hL) inlX12 mw_81 (lf_54_1 hL) dX12_cancel_101 ?_
          refine lv_iconst (v := 2) hx hb dX12_cancel_104 (by decide) ?_
          refine x_iald C hP (lr_55 hL) (lk_55 hL) (ln_55 hL) (by decide +kernel) dX12_cancel_105 ?_
          rw [cl_2]
          obtain ⟨r19, hq19, hF⟩ := bn_1 hF
          refine x_callS C hP hS (c_X12_size hL hq19) (va_cwS 1 C.1.2.2.2.2 (gdS mw_666 mw_667 mw_5 mw_668) rfl rfl rfl hd_X12_size.2 ⟨Nat.le_of_ble_eq_true rfl, Nat.le_of_ble_eq_true rfl⟩) rfl rfl hl.1 (Nat.le_of_ble_eq_true rfl) ⟨Nat.zero_le _, Nat.zero_le _⟩ dX12_cancel_106 (fun H locs hP hS => ?_)
          refine lv_iadd hx hb dX12_cancel_109 ?_
          obtain ⟨x20, ex20, hF⟩ := nm_1 hF
          refine x_top ex20 ?_
          refine lv_iload_n hx hb dX12_cancel_110 rfl (lv_at hl 4 rfl) ?_
          refine lv_icmp_ge (tgt := 143) hx hb dX12_cancel_111 (by decide) (fun c_21 => ?_) (fun c_21 => ?_) -- COND 21 by_cases c_21 : v2 ≤ x20
          · have hF := ite_t hF c_21
            exact w_X12_cancel_143 C ih hρ0 hL hF hP hS (lv_sub hl [2, 3, 4, 5] rfl)
          · have hF := ite_f hF c_21
            refine lv_aload_n hx hb dX12_cancel_114 rfl (lv_at hl 2 rfl) ?_
            refine get_12_1 C hP (lr_54 hL) (lk_54 hL) inlX12 mw_81 (lf_54_1 hL) dX12_cancel_115 ?_
            refine lv_iconst (v := 1) hx hb dX12_cancel_118 (by decide) ?_
            refine x_iald C hP (lr_55 hL) (lk_55 hL) (ln_55 hL) (by decide +kernel) dX12_cancel_119 ?_
            rw [cl_1]
            obtain ⟨r22, hq22, hF⟩ := bn_1 hF
            refine x_callS C hP hS (c_X12_size hL hq22) (va_cwS 1 C.1.2.2.2.2 (gdS mw_666 mw_667 mw_5 mw_668) rfl rfl rfl hd_X12_size.2 ⟨Nat.le_of_ble_eq_true rfl, Nat.le_of_ble_eq_true rfl⟩) rfl rfl hl.1 (Nat.le_of_ble_eq_true rfl) ⟨Nat.zero_le _, Nat.zero_le _⟩ dX12_cancel_120 (fun H locs hP hS => ?_)
            refine lv_aload_n hx hb dX12_cancel_123 rfl (lv_at hl 2 rfl) ?_
            refine get_12_1 C hP (lr_54 hL) (lk_54 hL) inlX12 mw_81 (lf_54_1 hL) dX12_cancel_124 ?_
            refine lv_iconst (v := 2) hx hb dX12_cancel_127 (by decide) ?_
            refine x_iald C hP (lr_55 hL) (lk_55 hL) (ln_55 hL) (by decide +kernel) dX12_cancel_128 ?_
            rw [cl_2]
            obtain ⟨r23, hq23, hF⟩ := bn_1 hF
            refine x_callS C hP hS (c_X12_size hL hq23) (va_cwS 1 C.1.2.2.2.2 (gdS mw_666 mw_667 mw_5 mw_668) rfl rfl rfl hd_X12_size.2 ⟨Nat.le_of_ble_eq_true rfl, Nat.le_of_ble_eq_true rfl⟩) rfl rfl hl.1 (Nat.le_of_ble_eq_true rfl) ⟨Nat.zero_le _, Nat.zero_le _⟩ dX12_cancel_129 (fun H locs hP hS => ?_)
            refine lv_iadd hx hb dX12_cancel_132 ?_
            obtain ⟨x24, ex24, hF⟩ := nm_1 hF
            refine x_top ex24 ?_
            refine lv_istore_n (lv' := [(2, .int x24), (5, .int x7), (4, .int x5), (0, .ref (ad 54)), (1, .int v1), (3, .int v3)]) hx hb dX12_cancel_133 rfl hl (by decide) rfl (fun ls hl => ?_)
            refine lv_bipush (v := 10) hx hb dX12_cancel_134 (by decide +kernel) ?_
            refine lv_iload hx hb dX12_cancel_136 (lv_at hl 2 rfl) ?_
            refine lv_imul hx hb dX12_cancel_138 ?_
            obtain ⟨x25, ex25, hF⟩ := nm_1 hF
            refine x_top ex25 ?_
            refine lv_iload hx hb dX12_cancel_139 (lv_at hl 1 rfl) ?_
            refine lv_iadd hx hb dX12_cancel_141 ?_
            obtain ⟨x26, ex26, hF⟩ := nm_1 hF
            refine x_top ex26 ?_
            refine lv_istore_n (lv' := [(1, .int x26), (2, .int x24), (5, .int x7), (4, .int x5), (0, .ref (ad 54)), (3, .int v3)]) hx hb dX12_cancel_142 rfl hl (by decide) rfl (fun ls hl => ?_)
            exact w_X12_cancel_143 C ih hρ0 hL hF hP hS (lv_sub hl [4, 0, 1, 5] rfl)
set_option maxHeartbeats 4000000 in
set_option maxRecDepth 100000 in
theorem w_X12_cancel_0  {p : Program} {e : Env} {s : State} {m : MethodId} {args : Array Value} {below : List Frame} {meth : Method} {c : Code} {ρ0 : RG} {r : Int32} {σ1 : SG} (C : Cx Y D N ad p s m args meth c cX12_cancel 6 (some .int) RX12 wsL_law) {σ : SG} {ρ : RG} {H : Heap} {locs : List Loc} {ls : Array Slot} (hρ0 : ρ = ρ0) (hL : Lay N K len ρ) (hF : F_X12_cancel σ ρ = some (r, σ1)) (hP : WP Y D N ad K len σ ρ H) (hS : va_S (AA N ad s.heap.size) s.heap H locs) (hl : lv_has ls 6 [(0, .ref (ad 54))]) : W p l e rm_X12_cancel s m args below meth c H locs 0 0 (MQ below (QW Y D N ad K len σ1 ρ0 (AA N ad s.heap.size) (some (.int r))) args s 0 0 (AA N ad s.heap.size)) (F0 m 0 ls []) := by
  have hx := C.1.1
  have hb := C.1.2.1
  unfold F_X12_cancel at hF
  refine lv_bipush (v := -5) hx hb dX12_cancel_0 (by decide +kernel) ?_
  refine lv_istore_n (lv' := [(1, .int (-5 : Int32)), (0, .ref (ad 54))]) hx hb dX12_cancel_2 rfl hl (by decide) rfl (fun ls hl => ?_)
  refine lv_ldc hx hb (C.1.2.2.2.1) (C.1.2.2.2.2 _ mw_659) dX12_cancel_3 ?_
  refine lv_istore_n (lv' := [(2, .int (1000000 : Int32)), (1, .int (-5 : Int32)), (0, .ref (ad 54))]) hx hb dX12_cancel_5 rfl hl (by decide) rfl (fun ls hl => ?_)
  refine lv_aload_n hx hb dX12_cancel_6 rfl (lv_at hl 2 rfl) ?_
  obtain ⟨σ1, hq1, hF⟩ := bn_1 hF
  refine x_callV (ci := 12) rfl rfl C hP hS (c_X12_keeps hL hq1) (lr_54 hL) (lk_54 hL) (cwV 0 C.1.2.2.2.2 (gdV mw_732 mw_733 mw_734 mw_5 mw_735) rfl rfl rfl hd_X12_keeps ⟨Nat.le_of_ble_eq_true rfl, Nat.le_of_ble_eq_true rfl⟩) rfl rfl hl.1 (Nat.le_of_ble_eq_true rfl) ⟨Nat.zero_le _, Nat.zero_le _⟩ dX12_cancel_7 (fun H locs hP hS => ?_)
  refine lv_iconst (v := 0) hx hb dX12_cancel_10 (by decide) ?_
  refine lv_istore_n (lv' := [(3, .int (0 : Int32)), (2, .int (1000000 : Int32)), (1, .int (-5 : Int32)), (0, .ref (ad 54))]) hx hb dX12_cancel_11 rfl hl (by decide) rfl (fun ls hl => ?_)
  exact w_X12_cancel_12 C 1024 _ _ _ _ _ _ _ _ hρ0 hL hF hP hS (lv_sub hl [3, 2, 1, 0] rfl)
set_option maxHeartbeats 4000000 in
set_option maxRecDepth 100000 in
theorem c_X12_cancel  {r : Int32} {σ1 : SG} {σ : SG} {ρ : RG} (hL : Lay N K len ρ) (hF : F_X12_cancel σ ρ = some (r, σ1)) : MT l Y D N ad K len yX12_cancel (Cond.code yX12_cancel cX12_cancel 6 (some .int) :: wsL_law) rm_X12_cancel [.ref (ad 54)] σ ρ (some (.int r)) σ1 ρ := by
  refine mt_of (cc := cX12_cancel) (nL := 6) (ret := (some .int)) (by decide) (Nat.le_of_ble_eq_true rfl) ?_
  intro p e s m args below meth c ls C hnm hP hS hl
  exact w_X12_cancel_0 C rfl hL hF hP hS hl

/-! CutCrookedModel.public int enough(int);  -/
theorem dX12_enough_0 : decode cX12_enough 0 = .ok (.aload_n 0, 1) := by decide +kernel
theorem dX12_enough_1 : decode cX12_enough 1 = .ok (.iload_n 1, 1) := by decide +kernel
theorem dX12_enough_2 : decode cX12_enough 2 = .ok (.invokevirtual 143, 3) := by decide +kernel
theorem dX12_enough_5 : decode cX12_enough 5 = .ok (.ifCond .ne 5, 3) := by decide +kernel
theorem dX12_enough_8 : decode cX12_enough 8 = .ok (.iconst (-1), 1) := by decide +kernel
theorem dX12_enough_9 : decode cX12_enough 9 = .ok (.ireturn, 1) := by decide +kernel
theorem dX12_enough_10 : decode cX12_enough 10 = .ok (.aload_n 0, 1) := by decide +kernel
theorem dX12_enough_11 : decode cX12_enough 11 = .ok (.invokevirtual 191, 3) := by decide +kernel
theorem dX12_enough_14 : decode cX12_enough 14 = .ok (.iconst 1, 1) := by decide +kernel
theorem dX12_enough_15 : decode cX12_enough 15 = .ok (.istore_n 2, 1) := by decide +kernel
theorem dX12_enough_16 : decode cX12_enough 16 = .ok (.iload_n 2, 1) := by decide +kernel
theorem dX12_enough_17 : decode cX12_enough 17 = .ok (.bipush 40, 2) := by decide +kernel
theorem dX12_enough_19 : decode cX12_enough 19 = .ok (.if_icmp .gt 41, 3) := by decide +kernel
theorem dX12_enough_22 : decode cX12_enough 22 = .ok (.aload_n 0, 1) := by decide +kernel
theorem dX12_enough_23 : decode cX12_enough 23 = .ok (.iload_n 1, 1) := by decide +kernel
theorem dX12_enough_24 : decode cX12_enough 24 = .ok (.iload_n 2, 1) := by decide +kernel
theorem dX12_enough_25 : decode cX12_enough 25 = .ok (.invokevirtual 187, 3) := by decide +kernel
theorem dX12_enough_28 : decode cX12_enough 28 = .ok (.ifCond .eq 14, 3) := by decide +kernel
theorem dX12_enough_31 : decode cX12_enough 31 = .ok (.aload_n 0, 1) := by decide +kernel
theorem dX12_enough_32 : decode cX12_enough 32 = .ok (.invokevirtual 206, 3) := by decide +kernel
theorem dX12_enough_35 : decode cX12_enough 35 = .ok (.ifCond .eq 7, 3) := by decide +kernel
theorem dX12_enough_38 : decode cX12_enough 38 = .ok (.iconst 1, 1) := by decide +kernel
theorem dX12_enough_39 : decode cX12_enough 39 = .ok (.goto 4, 3) := by decide +kernel
theorem dX12_enough_42 : decode cX12_enough 42 = .ok (.iconst 0, 1) := by decide +kernel
theorem dX12_enough_43 : decode cX12_enough 43 = .ok (.istore_n 3, 1) := by decide +kernel
theorem dX12_enough_44 : decode cX12_enough 44 = .ok (.aload_n 0, 1) := by decide +kernel
theorem dX12_enough_45 : decode cX12_enough 45 = .ok (.invokevirtual 194, 3) := by decide +kernel
theorem dX12_enough_48 : decode cX12_enough 48 = .ok (.iload_n 3, 1) := by decide +kernel
theorem dX12_enough_49 : decode cX12_enough 49 = .ok (.ifCond .eq 5, 3) := by decide +kernel
theorem dX12_enough_52 : decode cX12_enough 52 = .ok (.iload_n 2, 1) := by decide +kernel
theorem dX12_enough_53 : decode cX12_enough 53 = .ok (.ireturn, 1) := by decide +kernel
theorem dX12_enough_54 : decode cX12_enough 54 = .ok (.iinc 2 1, 3) := by decide +kernel
theorem dX12_enough_57 : decode cX12_enough 57 = .ok (.goto (-41), 3) := by decide +kernel
theorem dX12_enough_60 : decode cX12_enough 60 = .ok (.bipush (-5), 2) := by decide +kernel
theorem dX12_enough_62 : decode cX12_enough 62 = .ok (.ireturn, 1) := by decide +kernel
theorem hd_X12_enough : yX12_enough.cls = RX12 ∧ yX12_enough.cls ≠ "java/lang/invoke/MethodHandle" ∧ yX12_enough.cls ≠ "java/lang/invoke/VarHandle" ∧ (parseMethodDescriptor yX12_enough.desc).map (fun d => d.parameters.length) = some 1 := by decide +kernel
abbrev rm_X12_enough : Room := { frames := 4, cells := 0, slots := 0, locals := 93 }
def F_X12_enough_43 (a1 : Int32) (rec_16 : SG → RG → Int32 → Int32 → Option (Int32 × SG)) (σ : SG) (ρ : RG) (v1 : Int32) (v2 : Int32) (k0 : Int32) : Option (Int32 × SG) :=
  bn (F_X12_goesBack σ ρ) fun σ7 =>
  if k0 = 0 then
    nm (v2 + (1 : Int32)) fun x9 =>
    rec_16 σ7 ρ v1 x9
  else
    some (v2, σ7)
def F_X12_enough_42 (a1 : Int32) (rec_16 : SG → RG → Int32 → Int32 → Option (Int32 × SG)) (σ : SG) (ρ : RG) (v1 : Int32) (v2 : Int32) : Option (Int32 × SG) :=
  F_X12_enough_43 a1 rec_16 σ ρ v1 v2 (0 : Int32)
def F_X12_enough_16 (a1 : Int32) : Nat → SG → RG → Int32 → Int32 → Option (Int32 × SG)
  | 0 => fun _ _ _ _ => none
  | n + 1 => fun σ ρ v1 v2 =>
  if (40 : Int32) < v2 then
    some ((-5 : Int32), σ)
  else
    bn2 (F_X12_cuts v1 v2 σ ρ) fun r5 σ5 =>
    if r5 = 0 then
      F_X12_enough_42 a1 (F_X12_enough_16 a1 n) σ5 ρ v1 v2
    else
      bn (F_X12_isGood σ5 ρ) fun r10 =>
      if r10 = 0 then
        F_X12_enough_42 a1 (F_X12_enough_16 a1 n) σ5 ρ v1 v2
      else
        F_X12_enough_43 a1 (F_X12_enough_16 a1 n) σ5 ρ v1 v2 (1 : Int32)
def F_X12_enough (a1 : Int32) (σ : SG) (ρ : RG) : Option (Int32 × SG) :=
  bn (F_X12_isCutter a1 σ ρ) fun r1 =>
  if r1 = 0 then
    some ((-1 : Int32), σ)
  else
    bn (F_X12_keeps σ ρ) fun σ3 =>
    F_X12_enough_16 a1 1024 σ3 ρ a1 (1 : Int32)
set_option maxHeartbeats 4000000 in
set_option maxRecDepth 100000 in
theorem w_X12_enough_43 {a1 : Int32} {rec_16 : SG → RG → Int32 → Int32 → Option (Int32 × SG)} {p : Program} {e : Env} {s : State} {m : MethodId} {args : Array Value} {below : List Frame} {meth : Method} {c : Code} {ρ0 : RG} {r : Int32} {σ1 : SG} (C : Cx Y D N ad p s m args meth c cX12_enough 4 (some .int) RX12 wsL_law) (hrec_16 : ∀ (σ : SG) (ρ : RG) (v1 : Int32) (v2 : Int32) (H : Heap) (locs : List Loc) (ls : Array Slot), ρ = ρ0 → Lay N K len ρ → rec_16 σ ρ v1 v2 = some (r, σ1) → WP Y D N ad K len σ ρ H → va_S (AA N ad s.heap.size) s.heap H locs → lv_has ls 4 [(0, .ref (ad 54)), (1, .int v1), (2, .int v2)] → W p l e rm_X12_enough s m args below meth c H locs 0 0 (MQ below (QW Y D N ad K len σ1 ρ0 (AA N ad s.heap.size) (some (.int r))) args s 0 0 (AA N ad s.heap.size)) (F0 m 16 ls [])) {σ : SG} {ρ : RG} {v1 : Int32} {v2 : Int32} {k0 : Int32} {H : Heap} {locs : List Loc} {ls : Array Slot} (hρ0 : ρ = ρ0) (hL : Lay N K len ρ) (hF : F_X12_enough_43 a1 rec_16 σ ρ v1 v2 k0 = some (r, σ1)) (hP : WP Y D N ad K len σ ρ H) (hS : va_S (AA N ad s.heap.size) s.heap H locs) (hl : lv_has ls 4 [(0, .ref (ad 54)), (1, .int v1), (2, .int v2)]) : W p l e rm_X12_enough s m args below meth c H locs 0 0 (MQ below (QW Y D N ad K len σ1 ρ0 (AA N ad s.heap.size) (some (.int r))) args s 0 0 (AA N ad s.heap.size)) (F0 m 43 ls [.int k0]) := by
  have hx := C.1.1
  have hb := C.1.2.1
  unfold F_X12_enough_43 at hF
  refine lv_istore_n (lv' := [(3, .int k0), (0, .ref (ad 54)), (1, .int v1), (2, .int v2)]) hx hb dX12_enough_43 rfl hl (by decide) rfl (fun ls hl => ?_)
  refine lv_aload_n hx hb dX12_enough_44 rfl (lv_at hl 1 rfl) ?_
  obtain ⟨σ7, hq7, hF⟩ := bn_1 hF
  refine x_callV (ci := 12) rfl rfl C hP hS (c_X12_goesBack hL hq7) (lr_54 hL) (lk_54 hL) (cwV 0 C.1.2.2.2.2 (gdV mw_736 mw_737 mw_738 mw_5 mw_739) rfl rfl rfl hd_X12_goesBack ⟨Nat.le_of_ble_eq_true rfl, Nat.le_of_ble_eq_true rfl⟩) rfl rfl hl.1 (Nat.le_of_ble_eq_true rfl) ⟨Nat.zero_le _, Nat.zero_le _⟩ dX12_enough_45 (fun H locs hP hS => ?_)
  refine lv_iload_n hx hb dX12_enough_48 rfl (lv_at hl 0 rfl) ?_
  refine lv_if_eq (tgt := 54) hx hb dX12_enough_49 (by decide) (fun c_8 => ?_) (fun c_8 => ?_) -- COND 8 by_cases c_8 : k0 = 0
  · have hF := ite_t hF c_8
    obtain ⟨x9, ex9, hF⟩ := nm_1 hF
    refine lv_iinc (v := x9) (lv' := [(2, .int x9), (3, .int k0), (0, .ref (ad 54)), (1, .int v1)]) hx hb dX12_enough_54 hl (k := 3) rfl (by rw [ex9]; first | rfl | decide) (by decide) rfl (fun ls hl => ?_)
    refine lv_goto (tgt := 16) hx hb dX12_enough_57 (by decide) ?_
    exact hrec_16 _ _ _ _ _ _ _ hρ0 hL hF hP hS (lv_sub hl [2, 3, 0] rfl)
  · have hF := ite_f hF c_8
    refine lv_iload_n hx hb dX12_enough_52 rfl (lv_at hl 3 rfl) ?_
    obtain ⟨rfl, rfl⟩ := ret_2 hF
    subst hρ0
    exact x_iret rfl C hP hS dX12_enough_53
set_option maxHeartbeats 4000000 in
set_option maxRecDepth 100000 in
theorem w_X12_enough_42 {a1 : Int32} {rec_16 : SG → RG → Int32 → Int32 → Option (Int32 × SG)} {p : Program} {e : Env} {s : State} {m : MethodId} {args : Array Value} {below : List Frame} {meth : Method} {c : Code} {ρ0 : RG} {r : Int32} {σ1 : SG} (C : Cx Y D N ad p s m args meth c cX12_enough 4 (some .int) RX12 wsL_law) (hrec_16 : ∀ (σ : SG) (ρ : RG) (v1 : Int32) (v2 : Int32) (H : Heap) (locs : List Loc) (ls : Array Slot), ρ = ρ0 → Lay N K len ρ → rec_16 σ ρ v1 v2 = some (r, σ1) → WP Y D N ad K len σ ρ H → va_S (AA N ad s.heap.size) s.heap H locs → lv_has ls 4 [(0, .ref (ad 54)), (1, .int v1), (2, .int v2)] → W p l e rm_X12_enough s m args below meth c H locs 0 0 (MQ below (QW Y D N ad K len σ1 ρ0 (AA N ad s.heap.size) (some (.int r))) args s 0 0 (AA N ad s.heap.size)) (F0 m 16 ls [])) {σ : SG} {ρ : RG} {v1 : Int32} {v2 : Int32} {H : Heap} {locs : List Loc} {ls : Array Slot} (hρ0 : ρ = ρ0) (hL : Lay N K len ρ) (hF : F_X12_enough_42 a1 rec_16 σ ρ v1 v2 = some (r, σ1)) (hP : WP Y D N ad K len σ ρ H) (hS : va_S (AA N ad s.heap.size) s.heap H locs) (hl : lv_has ls 4 [(0, .ref (ad 54)), (1, .int v1), (2, .int v2)]) : W p l e rm_X12_enough s m args below meth c H locs 0 0 (MQ below (QW Y D N ad K len σ1 ρ0 (AA N ad s.heap.size) (some (.int r))) args s 0 0 (AA N ad s.heap.size)) (F0 m 42 ls []) := by
  have hx := C.1.1
  have hb := C.1.2.1
  unfold F_X12_enough_42 at hF
  refine lv_iconst (v := 0) hx hb dX12_enough_42 (by decide) ?_
  exact w_X12_enough_43 C hrec_16 hρ0 hL hF hP hS (lv_sub hl [0, 1, 2] rfl)
set_option maxHeartbeats 4000000 in
set_option maxRecDepth 100000 in
theorem w_X12_enough_16 {a1 : Int32} {p : Program} {e : Env} {s : State} {m : MethodId} {args : Array Value} {below : List Frame} {meth : Method} {c : Code} {ρ0 : RG} {r : Int32} {σ1 : SG} (C : Cx Y D N ad p s m args meth c cX12_enough 4 (some .int) RX12 wsL_law) : ∀ (n : Nat) (σ : SG) (ρ : RG) (v1 : Int32) (v2 : Int32) (H : Heap) (locs : List Loc) (ls : Array Slot), ρ = ρ0 → Lay N K len ρ → F_X12_enough_16 a1 n σ ρ v1 v2 = some (r, σ1) → WP Y D N ad K len σ ρ H → va_S (AA N ad s.heap.size) s.heap H locs → lv_has ls 4 [(0, .ref (ad 54)), (1, .int v1), (2, .int v2)] → W p l e rm_X12_enough s m args below meth c H locs 0 0 (MQ below (QW Y D N ad K len σ1 ρ0 (AA N ad s.heap.size) (some (.int r))) args s 0 0 (AA N ad s.heap.size)) (F0 m 16 ls []) := by
  have hx := C.1.1
  have hb := C.1.2.1
  intro n
  induction n with
  | zero => intro σ ρ v1 v2 H locs ls hρ0 hL hF; cases hF
  | succ n ih =>
    intro σ ρ v1 v2 H locs ls hρ0 hL hF hP hS hl
    unfold F_X12_enough_16 at hF
    refine lv_iload_n hx hb dX12_enough_16 rfl (lv_at hl 2 rfl) ?_
    refine lv_bipush (v := 40) hx hb dX12_enough_17 (by decide +kernel) ?_
    refine lv_icmp_gt (tgt := 60) hx hb dX12_enough_19 (by decide) (fun c_4 => ?_) (fun c_4 => ?_) -- COND 4 by_cases c_4 : (40 : Int32) < v2
    · have hF := ite_t hF c_4
      refine lv_bipush (v := -5) hx hb dX12_enough_60 (by decide +kernel) ?_
      obtain ⟨rfl, rfl⟩ := ret_2 hF
      subst hρ0
      exact x_iret rfl C hP hS dX12_enough_62
    · have hF := ite_f hF c_4
      refine lv_aload_n hx hb dX12_enough_22 rfl (lv_at hl 0 rfl) ?_
      refine lv_iload_n hx hb dX12_enough_23 rfl (lv_at hl 1 rfl) ?_
      refine lv_iload_n hx hb dX12_enough_24 rfl (lv_at hl 2 rfl) ?_
      obtain ⟨r5, σ5, hq5, hF⟩ := bn2_1 hF
      refine x_callV (ci := 12) rfl rfl C hP hS (c_X12_cuts hL hq5) (lr_54 hL) (lk_54 hL) (cwV 2 C.1.2.2.2.2 (gdV mw_652 mw_653 mw_654 mw_5 mw_655) rfl rfl rfl hd_X12_cuts ⟨Nat.le_of_ble_eq_true rfl, Nat.le_of_ble_eq_true rfl⟩) rfl rfl hl.1 (Nat.le_of_ble_eq_true rfl) ⟨Nat.zero_le _, Nat.zero_le _⟩ dX12_enough_25 (fun H locs hP hS => ?_)
      refine lv_if_eq (tgt := 42) hx hb dX12_enough_28 (by decide) (fun c_6 => ?_) (fun c_6 => ?_) -- COND 6 by_cases c_6 : r5 = 0
      · have hF := ite_t hF c_6
        exact w_X12_enough_42 C ih hρ0 hL hF hP hS (lv_sub hl [0, 1, 2] rfl)
      · have hF := ite_f hF c_6
        refine lv_aload_n hx hb dX12_enough_31 rfl (lv_at hl 0 rfl) ?_
        obtain ⟨r10, hq10, hF⟩ := bn_1 hF
        refine x_callV (ci := 12) rfl rfl C hP hS (c_X12_isGood hL hq10) (lr_54 hL) (lk_54 hL) (cwV 0 C.1.2.2.2.2 (gdV mw_762 mw_763 mw_764 mw_5 mw_765) rfl rfl rfl hd_X12_isGood ⟨Nat.le_of_ble_eq_true rfl, Nat.le_of_ble_eq_true rfl⟩) rfl rfl hl.1 (Nat.le_of_ble_eq_true rfl) ⟨Nat.zero_le _, Nat.zero_le _⟩ dX12_enough_32 (fun H locs hP hS => ?_)
        refine lv_if_eq (tgt := 42) hx hb dX12_enough_35 (by decide) (fun c_11 => ?_) (fun c_11 => ?_) -- COND 11 by_cases c_11 : r10 = 0
        · have hF := ite_t hF c_11
          exact w_X12_enough_42 C ih hρ0 hL hF hP hS (lv_sub hl [0, 1, 2] rfl)
        · have hF := ite_f hF c_11
          refine lv_iconst (v := 1) hx hb dX12_enough_38 (by decide) ?_
          refine lv_goto (tgt := 43) hx hb dX12_enough_39 (by decide) ?_
          exact w_X12_enough_43 C ih hρ0 hL hF hP hS (lv_sub hl [0, 1, 2] rfl)
set_option maxHeartbeats 4000000 in
set_option maxRecDepth 100000 in
theorem w_X12_enough_0 {a1 : Int32} {p : Program} {e : Env} {s : State} {m : MethodId} {args : Array Value} {below : List Frame} {meth : Method} {c : Code} {ρ0 : RG} {r : Int32} {σ1 : SG} (C : Cx Y D N ad p s m args meth c cX12_enough 4 (some .int) RX12 wsL_law) {σ : SG} {ρ : RG} {H : Heap} {locs : List Loc} {ls : Array Slot} (hρ0 : ρ = ρ0) (hL : Lay N K len ρ) (hF : F_X12_enough a1 σ ρ = some (r, σ1)) (hP : WP Y D N ad K len σ ρ H) (hS : va_S (AA N ad s.heap.size) s.heap H locs) (hl : lv_has ls 4 [(0, .ref (ad 54)), (1, .int a1)]) : W p l e rm_X12_enough s m args below meth c H locs 0 0 (MQ below (QW Y D N ad K len σ1 ρ0 (AA N ad s.heap.size) (some (.int r))) args s 0 0 (AA N ad s.heap.size)) (F0 m 0 ls []) := by
  have hx := C.1.1
  have hb := C.1.2.1
  unfold F_X12_enough at hF
  refine lv_aload_n hx hb dX12_enough_0 rfl (lv_at hl 0 rfl) ?_
  refine lv_iload_n hx hb dX12_enough_1 rfl (lv_at hl 1 rfl) ?_
  obtain ⟨r1, hq1, hF⟩ := bn_1 hF
  refine x_callV (ci := 12) rfl rfl C hP hS (c_X12_isCutter hL hq1) (lr_54 hL) (lk_54 hL) (cwV 1 C.1.2.2.2.2 (gdV mw_462 mw_463 mw_464 mw_5 mw_465) rfl rfl rfl hd_X12_isCutter ⟨Nat.le_of_ble_eq_true rfl, Nat.le_of_ble_eq_true rfl⟩) rfl rfl hl.1 (Nat.le_of_ble_eq_true rfl) ⟨Nat.zero_le _, Nat.zero_le _⟩ dX12_enough_2 (fun H locs hP hS => ?_)
  refine lv_if_ne (tgt := 10) hx hb dX12_enough_5 (by decide) (fun c_2 => ?_) (fun c_2 => ?_) -- COND 2 rcases (Decidable.em (r1 = 0)).symm with c_2 | c_2
  · have hF := ite_f hF c_2
    refine lv_aload_n hx hb dX12_enough_10 rfl (lv_at hl 0 rfl) ?_
    obtain ⟨σ3, hq3, hF⟩ := bn_1 hF
    refine x_callV (ci := 12) rfl rfl C hP hS (c_X12_keeps hL hq3) (lr_54 hL) (lk_54 hL) (cwV 0 C.1.2.2.2.2 (gdV mw_732 mw_733 mw_734 mw_5 mw_735) rfl rfl rfl hd_X12_keeps ⟨Nat.le_of_ble_eq_true rfl, Nat.le_of_ble_eq_true rfl⟩) rfl rfl hl.1 (Nat.le_of_ble_eq_true rfl) ⟨Nat.zero_le _, Nat.zero_le _⟩ dX12_enough_11 (fun H locs hP hS => ?_)
    refine lv_iconst (v := 1) hx hb dX12_enough_14 (by decide) ?_
    refine lv_istore_n (lv' := [(2, .int (1 : Int32)), (0, .ref (ad 54)), (1, .int a1)]) hx hb dX12_enough_15 rfl hl (by decide) rfl (fun ls hl => ?_)
    exact w_X12_enough_16 C 1024 _ _ _ _ _ _ _ hρ0 hL hF hP hS (lv_sub hl [1, 2, 0] rfl)
  · have hF := ite_t hF c_2
    refine lv_iconst (v := -1) hx hb dX12_enough_8 (by decide) ?_
    obtain ⟨rfl, rfl⟩ := ret_2 hF
    subst hρ0
    exact x_iret rfl C hP hS dX12_enough_9
set_option maxHeartbeats 4000000 in
set_option maxRecDepth 100000 in
theorem c_X12_enough {a1 : Int32} {r : Int32} {σ1 : SG} {σ : SG} {ρ : RG} (hL : Lay N K len ρ) (hF : F_X12_enough a1 σ ρ = some (r, σ1)) : MT l Y D N ad K len yX12_enough (Cond.code yX12_enough cX12_enough 4 (some .int) :: wsL_law) rm_X12_enough [.ref (ad 54), .int a1] σ ρ (some (.int r)) σ1 ρ := by
  refine mt_of (cc := cX12_enough) (nL := 4) (ret := (some .int)) (by decide) (Nat.le_of_ble_eq_true rfl) ?_
  intro p e s m args below meth c ls C hnm hP hS hl
  exact w_X12_enough_0 C rfl hL hF hP hS hl

/-! CutCrookedModel.public int when(int, int);  -/
theorem dX12_when_0 : decode cX12_when 0 = .ok (.iload_n 2, 1) := by decide +kernel
theorem dX12_when_1 : decode cX12_when 1 = .ok (.iconst 0, 1) := by decide +kernel
theorem dX12_when_2 : decode cX12_when 2 = .ok (.iconst 1, 1) := by decide +kernel
theorem dX12_when_3 : decode cX12_when 3 = .ok (.invokestatic 47, 3) := by decide +kernel
theorem dX12_when_6 : decode cX12_when 6 = .ok (.ifCond .ne 5, 3) := by decide +kernel
theorem dX12_when_9 : decode cX12_when 9 = .ok (.iconst (-1), 1) := by decide +kernel
theorem dX12_when_10 : decode cX12_when 10 = .ok (.ireturn, 1) := by decide +kernel
theorem dX12_when_11 : decode cX12_when 11 = .ok (.iload_n 1, 1) := by decide +kernel
theorem dX12_when_12 : decode cX12_when 12 = .ok (.iconst 1, 1) := by decide +kernel
theorem dX12_when_13 : decode cX12_when 13 = .ok (.bipush 20, 2) := by decide +kernel
theorem dX12_when_15 : decode cX12_when 15 = .ok (.invokestatic 47, 3) := by decide +kernel
theorem dX12_when_18 : decode cX12_when 18 = .ok (.ifCond .ne 6, 3) := by decide +kernel
theorem dX12_when_21 : decode cX12_when 21 = .ok (.bipush (-2), 2) := by decide +kernel
theorem dX12_when_23 : decode cX12_when 23 = .ok (.ireturn, 1) := by decide +kernel
theorem dX12_when_24 : decode cX12_when 24 = .ok (.aload_n 0, 1) := by decide +kernel
theorem dX12_when_25 : decode cX12_when 25 = .ok (.invokevirtual 191, 3) := by decide +kernel
theorem dX12_when_28 : decode cX12_when 28 = .ok (.aload_n 0, 1) := by decide +kernel
theorem dX12_when_29 : decode cX12_when 29 = .ok (.iload_n 1, 1) := by decide +kernel
theorem dX12_when_30 : decode cX12_when 30 = .ok (.iconst (-1), 1) := by decide +kernel
theorem dX12_when_31 : decode cX12_when 31 = .ok (.invokevirtual 226, 3) := by decide +kernel
theorem dX12_when_34 : decode cX12_when 34 = .ok (.istore_n 3, 1) := by decide +kernel
theorem dX12_when_35 : decode cX12_when 35 = .ok (.bipush (-5), 2) := by decide +kernel
theorem dX12_when_37 : decode cX12_when 37 = .ok (.istore 4, 2) := by decide +kernel
theorem dX12_when_39 : decode cX12_when 39 = .ok (.iconst 0, 1) := by decide +kernel
theorem dX12_when_40 : decode cX12_when 40 = .ok (.istore 5, 2) := by decide +kernel
theorem dX12_when_42 : decode cX12_when 42 = .ok (.iload 5, 2) := by decide +kernel
theorem dX12_when_44 : decode cX12_when 44 = .ok (.iload_n 1, 1) := by decide +kernel
theorem dX12_when_45 : decode cX12_when 45 = .ok (.if_icmp .ge 46, 3) := by decide +kernel
theorem dX12_when_48 : decode cX12_when 48 = .ok (.aload_n 0, 1) := by decide +kernel
theorem dX12_when_49 : decode cX12_when 49 = .ok (.iload_n 1, 1) := by decide +kernel
theorem dX12_when_50 : decode cX12_when 50 = .ok (.iload 5, 2) := by decide +kernel
theorem dX12_when_52 : decode cX12_when 52 = .ok (.invokevirtual 226, 3) := by decide +kernel
theorem dX12_when_55 : decode cX12_when 55 = .ok (.istore 6, 2) := by decide +kernel
theorem dX12_when_57 : decode cX12_when 57 = .ok (.iload 6, 2) := by decide +kernel
theorem dX12_when_59 : decode cX12_when 59 = .ok (.iload_n 3, 1) := by decide +kernel
theorem dX12_when_60 : decode cX12_when 60 = .ok (.if_icmp .le 8, 3) := by decide +kernel
theorem dX12_when_63 : decode cX12_when 63 = .ok (.iload 5, 2) := by decide +kernel
theorem dX12_when_65 : decode cX12_when 65 = .ok (.goto 5, 3) := by decide +kernel
theorem dX12_when_68 : decode cX12_when 68 = .ok (.iload 4, 2) := by decide +kernel
theorem dX12_when_70 : decode cX12_when 70 = .ok (.istore 4, 2) := by decide +kernel
theorem dX12_when_72 : decode cX12_when 72 = .ok (.iload 6, 2) := by decide +kernel
theorem dX12_when_74 : decode cX12_when 74 = .ok (.iload_n 3, 1) := by decide +kernel
theorem dX12_when_75 : decode cX12_when 75 = .ok (.if_icmp .le 8, 3) := by decide +kernel
theorem dX12_when_78 : decode cX12_when 78 = .ok (.iload 6, 2) := by decide +kernel
theorem dX12_when_80 : decode cX12_when 80 = .ok (.goto 4, 3) := by decide +kernel
theorem dX12_when_83 : decode cX12_when 83 = .ok (.iload_n 3, 1) := by decide +kernel
theorem dX12_when_84 : decode cX12_when 84 = .ok (.istore_n 3, 1) := by decide +kernel
theorem dX12_when_85 : decode cX12_when 85 = .ok (.iinc 5 1, 3) := by decide +kernel
theorem dX12_when_88 : decode cX12_when 88 = .ok (.goto (-46), 3) := by decide +kernel
theorem dX12_when_91 : decode cX12_when 91 = .ok (.iload_n 2, 1) := by decide +kernel
theorem dX12_when_92 : decode cX12_when 92 = .ok (.ifCond .eq 10, 3) := by decide +kernel
theorem dX12_when_95 : decode cX12_when 95 = .ok (.iload 4, 2) := by decide +kernel
theorem dX12_when_97 : decode cX12_when 97 = .ok (.bipush (-5), 2) := by decide +kernel
theorem dX12_when_99 : decode cX12_when 99 = .ok (.if_icmp .ne 8, 3) := by decide +kernel
theorem dX12_when_102 : decode cX12_when 102 = .ok (.iload 4, 2) := by decide +kernel
theorem dX12_when_104 : decode cX12_when 104 = .ok (.goto 4, 3) := by decide +kernel
theorem dX12_when_107 : decode cX12_when 107 = .ok (.iload_n 3, 1) := by decide +kernel
theorem dX12_when_108 : decode cX12_when 108 = .ok (.ireturn, 1) := by decide +kernel
theorem hd_X12_when : yX12_when.cls = RX12 ∧ yX12_when.cls ≠ "java/lang/invoke/MethodHandle" ∧ yX12_when.cls ≠ "java/lang/invoke/VarHandle" ∧ (parseMethodDescriptor yX12_when.desc).map (fun d => d.parameters.length) = some 2 := by decide +kernel
abbrev rm_X12_when : Room := { frames := 6, cells := 0, slots := 0, locals := 140 }
def F_X12_when_84 (a1 : Int32) (a2 : Int32) (rec_42 : SG → RG → Int32 → Int32 → Int32 → Int32 → Int32 → Option (Int32 × SG)) (σ : SG) (ρ : RG) (v1 : Int32) (v2 : Int32) (v4 : Int32) (v5 : Int32) (k0 : Int32) : Option (Int32 × SG) :=
  nm (v5 + (1 : Int32)) fun x13 =>
  rec_42 σ ρ v1 v2 k0 v4 x13
def F_X12_when_70 (a1 : Int32) (a2 : Int32) (rec_42 : SG → RG → Int32 → Int32 → Int32 → Int32 → Int32 → Option (Int32 × SG)) (σ : SG) (ρ : RG) (v1 : Int32) (v2 : Int32) (v3 : Int32) (v5 : Int32) (v6 : Int32) (k0 : Int32) : Option (Int32 × SG) :=
  if v6 ≤ v3 then
    F_X12_when_84 a1 a2 rec_42 σ ρ v1 v2 k0 v5 v3
  else
    F_X12_when_84 a1 a2 rec_42 σ ρ v1 v2 k0 v5 v6
def F_X12_when_42 (a1 : Int32) (a2 : Int32) : Nat → SG → RG → Int32 → Int32 → Int32 → Int32 → Int32 → Option (Int32 × SG)
  | 0 => fun _ _ _ _ _ _ _ => none
  | n + 1 => fun σ ρ v1 v2 v3 v4 v5 =>
  if v1 ≤ v5 then
    if v2 = 0 then
      some (v4, σ)
    else
      if v4 = (-5 : Int32) then
        some (v4, σ)
      else
        some (v3, σ)
  else
    bn2 (F_X12_goodBy v1 v5 σ ρ) fun r10 σ10 =>
    if r10 ≤ v3 then
      F_X12_when_70 a1 a2 (F_X12_when_42 a1 a2 n) σ10 ρ v1 v2 v3 v5 r10 v4
    else
      F_X12_when_70 a1 a2 (F_X12_when_42 a1 a2 n) σ10 ρ v1 v2 v3 v5 r10 v5
def F_X12_when (a1 : Int32) (a2 : Int32) (σ : SG) (ρ : RG) : Option (Int32 × SG) :=
  bn (F_X12_in a2 (0 : Int32) (1 : Int32) σ ρ) fun r1 =>
  if r1 = 0 then
    some ((-1 : Int32), σ)
  else
    bn (F_X12_in a1 (1 : Int32) (20 : Int32) σ ρ) fun r3 =>
    if r3 = 0 then
      some ((-2 : Int32), σ)
    else
      bn (F_X12_keeps σ ρ) fun σ5 =>
      bn2 (F_X12_goodBy a1 (-1 : Int32) σ5 ρ) fun r6 σ6 =>
      F_X12_when_42 a1 a2 1024 σ6 ρ a1 a2 r6 (-5 : Int32) (0 : Int32)
set_option maxHeartbeats 4000000 in
set_option maxRecDepth 100000 in
theorem w_X12_when_84 {a1 : Int32} {a2 : Int32} {rec_42 : SG → RG → Int32 → Int32 → Int32 → Int32 → Int32 → Option (Int32 × SG)} {p : Program} {e : Env} {s : State} {m : MethodId} {args : Array Value} {below : List Frame} {meth : Method} {c : Code} {ρ0 : RG} {r : Int32} {σ1 : SG} (C : Cx Y D N ad p s m args meth c cX12_when 7 (some .int) RX12 wsL_law) (hrec_42 : ∀ (σ : SG) (ρ : RG) (v1 : Int32) (v2 : Int32) (v3 : Int32) (v4 : Int32) (v5 : Int32) (H : Heap) (locs : List Loc) (ls : Array Slot), ρ = ρ0 → Lay N K len ρ → rec_42 σ ρ v1 v2 v3 v4 v5 = some (r, σ1) → WP Y D N ad K len σ ρ H → va_S (AA N ad s.heap.size) s.heap H locs → lv_has ls 7 [(0, .ref (ad 54)), (1, .int v1), (2, .int v2), (3, .int v3), (4, .int v4), (5, .int v5)] → W p l e rm_X12_when s m args below meth c H locs 0 0 (MQ below (QW Y D N ad K len σ1 ρ0 (AA N ad s.heap.size) (some (.int r))) args s 0 0 (AA N ad s.heap.size)) (F0 m 42 ls [])) {σ : SG} {ρ : RG} {v1 : Int32} {v2 : Int32} {v4 : Int32} {v5 : Int32} {k0 : Int32} {H : Heap} {locs : List Loc} {ls : Array Slot} (hρ0 : ρ = ρ0) (hL : Lay N K len ρ) (hF : F_X12_when_84 a1 a2 rec_42 σ ρ v1 v2 v4 v5 k0 = some (r, σ1)) (hP : WP Y D N ad K len σ ρ H) (hS : va_S (AA N ad s.heap.size) s.heap H locs) (hl : lv_has ls 7 [(0, .ref (ad 54)), (1, .int v1), (2, .int v2), (4, .int v4), (5, .int v5)]) : W p l e rm_X12_when s m args below meth c H locs 0 0 (MQ below (QW Y D N ad K len σ1 ρ0 (AA N ad s.heap.size) (some (.int r))) args s 0 0 (AA N ad s.heap.size)) (F0 m 84 ls [.int k0]) := by
  have hx := C.1.1
  have hb := C.1.2.1
  unfold F_X12_when_84 at hF
  refine lv_istore_n (lv' := [(3, .int k0), (0, .ref (ad 54)), (1, .int v1), (2, .int v2), (4, .int v4), (5, .int v5)]) hx hb dX12_when_84 rfl hl (by decide) rfl (fun ls hl => ?_)
  obtain ⟨x13, ex13, hF⟩ := nm_1 hF
  refine lv_iinc (v := x13) (lv' := [(5, .int x13), (3, .int k0), (0, .ref (ad 54)), (1, .int v1), (2, .int v2), (4, .int v4)]) hx hb dX12_when_85 hl (k := 5) rfl (by rw [ex13]; first | rfl | decide) (by decide) rfl (fun ls hl => ?_)
  refine lv_goto (tgt := 42) hx hb dX12_when_88 (by decide) ?_
  exact hrec_42 _ _ _ _ _ _ _ _ _ _ hρ0 hL hF hP hS (lv_sub hl [2, 3, 4, 1, 5, 0] rfl)
set_option maxHeartbeats 4000000 in
set_option maxRecDepth 100000 in
theorem w_X12_when_70 {a1 : Int32} {a2 : Int32} {rec_42 : SG → RG → Int32 → Int32 → Int32 → Int32 → Int32 → Option (Int32 × SG)} {p : Program} {e : Env} {s : State} {m : MethodId} {args : Array Value} {below : List Frame} {meth : Method} {c : Code} {ρ0 : RG} {r : Int32} {σ1 : SG} (C : Cx Y D N ad p s m args meth c cX12_when 7 (some .int) RX12 wsL_law) (hrec_42 : ∀ (σ : SG) (ρ : RG) (v1 : Int32) (v2 : Int32) (v3 : Int32) (v4 : Int32) (v5 : Int32) (H : Heap) (locs : List Loc) (ls : Array Slot), ρ = ρ0 → Lay N K len ρ → rec_42 σ ρ v1 v2 v3 v4 v5 = some (r, σ1) → WP Y D N ad K len σ ρ H → va_S (AA N ad s.heap.size) s.heap H locs → lv_has ls 7 [(0, .ref (ad 54)), (1, .int v1), (2, .int v2), (3, .int v3), (4, .int v4), (5, .int v5)] → W p l e rm_X12_when s m args below meth c H locs 0 0 (MQ below (QW Y D N ad K len σ1 ρ0 (AA N ad s.heap.size) (some (.int r))) args s 0 0 (AA N ad s.heap.size)) (F0 m 42 ls [])) {σ : SG} {ρ : RG} {v1 : Int32} {v2 : Int32} {v3 : Int32} {v5 : Int32} {v6 : Int32} {k0 : Int32} {H : Heap} {locs : List Loc} {ls : Array Slot} (hρ0 : ρ = ρ0) (hL : Lay N K len ρ) (hF : F_X12_when_70 a1 a2 rec_42 σ ρ v1 v2 v3 v5 v6 k0 = some (r, σ1)) (hP : WP Y D N ad K len σ ρ H) (hS : va_S (AA N ad s.heap.size) s.heap H locs) (hl : lv_has ls 7 [(0, .ref (ad 54)), (1, .int v1), (2, .int v2), (3, .int v3), (5, .int v5), (6, .int v6)]) : W p l e rm_X12_when s m args below meth c H locs 0 0 (MQ below (QW Y D N ad K len σ1 ρ0 (AA N ad s.heap.size) (some (.int r))) args s 0 0 (AA N ad s.heap.size)) (F0 m 70 ls [.int k0]) := by
  have hx := C.1.1
  have hb := C.1.2.1
  unfold F_X12_when_70 at hF
  refine lv_istore (lv' := [(4, .int k0), (0, .ref (ad 54)), (1, .int v1), (2, .int v2), (3, .int v3), (5, .int v5), (6, .int v6)]) hx hb dX12_when_70 hl (by decide) rfl (fun ls hl => ?_)
  refine lv_iload hx hb dX12_when_72 (lv_at hl 6 rfl) ?_
  refine lv_iload_n hx hb dX12_when_74 rfl (lv_at hl 4 rfl) ?_
  refine lv_icmp_le (tgt := 83) hx hb dX12_when_75 (by decide) (fun c_12 => ?_) (fun c_12 => ?_) -- COND 12 by_cases c_12 : v6 ≤ v3
  · have hF := ite_t hF c_12
    refine lv_iload_n hx hb dX12_when_83 rfl (lv_at hl 4 rfl) ?_
    exact w_X12_when_84 C hrec_42 hρ0 hL hF hP hS (lv_sub hl [1, 2, 3, 0, 5] rfl)
  · have hF := ite_f hF c_12
    refine lv_iload hx hb dX12_when_78 (lv_at hl 6 rfl) ?_
    refine lv_goto (tgt := 84) hx hb dX12_when_80 (by decide) ?_
    exact w_X12_when_84 C hrec_42 hρ0 hL hF hP hS (lv_sub hl [1, 2, 3, 0, 5] rfl)
set_option maxHeartbeats 4000000 in
set_option maxRecDepth 100000 in
theorem w_X12_when_42 {a1 : Int32} {a2 : Int32} {p : Program} {e : Env} {s : State} {m : MethodId} {args : Array Value} {below : List Frame} {meth : Method} {c : Code} {ρ0 : RG} {r : Int32} {σ1 : SG} (C : Cx Y D N ad p s m args meth c cX12_when 7 (some .int) RX12 wsL_law) : ∀ (n : Nat) (σ : SG) (ρ : RG) (v1 : Int32) (v2 : Int32) (v3 : Int32) (v4 : Int32) (v5 : Int32) (H : Heap) (locs : List Loc) (ls : Array Slot), ρ = ρ0 → Lay N K len ρ → F_X12_when_42 a1 a2 n σ ρ v1 v2 v3 v4 v5 = some (r, σ1) → WP Y D N ad K len σ ρ H → va_S (AA N ad s.heap.size) s.heap H locs → lv_has ls 7 [(0, .ref (ad 54)), (1, .int v1), (2, .int v2), (3, .int v3), (4, .int v4), (5, .int v5)] → W p l e rm_X12_when s m args below meth c H locs 0 0 (MQ below (QW Y D N ad K len σ1 ρ0 (AA N ad s.heap.size) (some (.int r))) args s 0 0 (AA N ad s.heap.size)) (F0 m 42 ls []) := by
  have hx := C.1.1
  have hb := C.1.2.1
  intro n
  induction n with
  | zero => intro σ ρ v1 v2 v3 v4 v5 H locs ls hρ0 hL hF; cases hF
  | succ n ih =>
    intro σ ρ v1 v2 v3 v4 v5 H locs ls hρ0 hL hF hP hS hl
    unfold F_X12_when_42 at hF
    refine lv_iload hx hb dX12_when_42 (lv_at hl 5 rfl) ?_
    refine lv_iload_n hx hb dX12_when_44 rfl (lv_at hl 1 rfl) ?_
    refine lv_icmp_ge (tgt := 91) hx hb dX12_when_45 (by decide) (fun c_7 => ?_) (fun c_7 => ?_) -- COND 7 by_cases c_7 : v1 ≤ v5
    · have hF := ite_t hF c_7
      refine lv_iload_n hx hb dX12_when_91 rfl (lv_at hl 2 rfl) ?_
      refine lv_if_eq (tgt := 102) hx hb dX12_when_92 (by decide) (fun c_8 => ?_) (fun c_8 => ?_) -- COND 8 by_cases c_8 : v2 = 0
      · have hF := ite_t hF c_8
        refine lv_iload hx hb dX12_when_102 (lv_at hl 4 rfl) ?_
        refine lv_goto (tgt := 108) hx hb dX12_when_104 (by decide) ?_
        obtain ⟨rfl, rfl⟩ := ret_2 hF
        subst hρ0
        exact x_iret rfl C hP hS dX12_when_108
      · have hF := ite_f hF c_8
        refine lv_iload hx hb dX12_when_95 (lv_at hl 4 rfl) ?_
        refine lv_bipush (v := -5) hx hb dX12_when_97 (by decide +kernel) ?_
        refine lv_icmp_ne (tgt := 107) hx hb dX12_when_99 (by decide) (fun c_9 => ?_) (fun c_9 => ?_) -- COND 9 rcases (Decidable.em (v4 = (-5 : Int32))).symm with c_9 | c_9
        · have hF := ite_f hF c_9
          refine lv_iload_n hx hb dX12_when_107 rfl (lv_at hl 3 rfl) ?_
          obtain ⟨rfl, rfl⟩ := ret_2 hF
          subst hρ0
          exact x_iret rfl C hP hS dX12_when_108
        · have hF := ite_t hF c_9
          refine lv_iload hx hb dX12_when_102 (lv_at hl 4 rfl) ?_
          refine lv_goto (tgt := 108) hx hb dX12_when_104 (by decide) ?_
          obtain ⟨rfl, rfl⟩ := ret_2 hF
          subst hρ0
          exact x_iret rfl C hP hS dX12_when_108
    · have hF := ite_f hF c_7
      refine lv_aload_n hx hb dX12_when_48 rfl (lv_at hl 0 rfl) ?_
      refine lv_iload_n hx hb dX12_when_49 rfl (lv_at hl 1 rfl) ?_
      refine lv_iload hx hb dX12_when_50 (lv_at hl 5 rfl) ?_
      obtain ⟨r10, σ10, hq10, hF⟩ := bn2_1 hF
      refine x_callV (ci := 12) rfl rfl C hP hS (c_X12_goodBy hL hq10) (lr_54 hL) (lk_54 hL) (cwV 2 C.1.2.2.2.2 (gdV mw_836 mw_837 mw_838 mw_5 mw_839) rfl rfl rfl hd_X12_goodBy ⟨Nat.le_of_ble_eq_true rfl, Nat.le_of_ble_eq_true rfl⟩) rfl rfl hl.1 (Nat.le_of_ble_eq_true rfl) ⟨Nat.zero_le _, Nat.zero_le _⟩ dX12_when_52 (fun H locs hP hS => ?_)
      refine lv_istore (lv' := [(6, .int r10), (0, .ref (ad 54)), (1, .int v1), (2, .int v2), (3, .int v3), (4, .int v4), (5, .int v5)]) hx hb dX12_when_55 hl (by decide) rfl (fun ls hl => ?_)
      refine lv_iload hx hb dX12_when_57 (lv_at hl 0 rfl) ?_
      refine lv_iload_n hx hb dX12_when_59 rfl (lv_at hl 4 rfl) ?_
      refine lv_icmp_le (tgt := 68) hx hb dX12_when_60 (by decide) (fun c_11 => ?_) (fun c_11 => ?_) -- COND 11 by_cases c_11 : r10 ≤ v3
      · have hF := ite_t hF c_11
        refine lv_iload hx hb dX12_when_68 (lv_at hl 5 rfl) ?_
        exact w_X12_when_70 C ih hρ0 hL hF hP hS (lv_sub hl [1, 2, 3, 4, 6, 0] rfl)
      · have hF := ite_f hF c_11
        refine lv_iload hx hb dX12_when_63 (lv_at hl 6 rfl) ?_
        refine lv_goto (tgt := 70) hx hb dX12_when_65 (by decide) ?_
        exact w_X12_when_70 C ih hρ0 hL hF hP hS (lv_sub hl [1, 2, 3, 4, 6, 0] rfl)
set_option maxHeartbeats 4000000 in
set_option maxRecDepth 100000 in
theorem w_X12_when_0 {a1 : Int32} {a2 : Int32} {p : Program} {e : Env} {s : State} {m : MethodId} {args : Array Value} {below : List Frame} {meth : Method} {c : Code} {ρ0 : RG} {r : Int32} {σ1 : SG} (C : Cx Y D N ad p s m args meth c cX12_when 7 (some .int) RX12 wsL_law) {σ : SG} {ρ : RG} {H : Heap} {locs : List Loc} {ls : Array Slot} (hρ0 : ρ = ρ0) (hL : Lay N K len ρ) (hF : F_X12_when a1 a2 σ ρ = some (r, σ1)) (hP : WP Y D N ad K len σ ρ H) (hS : va_S (AA N ad s.heap.size) s.heap H locs) (hl : lv_has ls 7 [(0, .ref (ad 54)), (1, .int a1), (2, .int a2)]) : W p l e rm_X12_when s m args below meth c H locs 0 0 (MQ below (QW Y D N ad K len σ1 ρ0 (AA N ad s.heap.size) (some (.int r))) args s 0 0 (AA N ad s.heap.size)) (F0 m 0 ls []) := by
  have hx := C.1.1
  have hb := C.1.2.1
  unfold F_X12_when at hF
  refine lv_iload_n hx hb dX12_when_0 rfl (lv_at hl 2 rfl) ?_
  refine lv_iconst (v := 0) hx hb dX12_when_1 (by decide) ?_
  refine lv_iconst (v := 1) hx hb dX12_when_2 (by decide) ?_
  obtain ⟨r1, hq1, hF⟩ := bn_1 hF
  refine x_callS C hP hS (c_X12_in hL hq1) (va_cwS 3 C.1.2.2.2.2 (gdS mw_104 mw_105 mw_5 mw_106) rfl rfl rfl hd_X12_in.2 ⟨Nat.le_of_ble_eq_true rfl, Nat.le_of_ble_eq_true rfl⟩) rfl rfl hl.1 (Nat.le_of_ble_eq_true rfl) ⟨Nat.zero_le _, Nat.zero_le _⟩ dX12_when_3 (fun H locs hP hS => ?_)
  refine lv_if_ne (tgt := 11) hx hb dX12_when_6 (by decide) (fun c_2 => ?_) (fun c_2 => ?_) -- COND 2 rcases (Decidable.em (r1 = 0)).symm with c_2 | c_2
  · have hF := ite_f hF c_2
    refine lv_iload_n hx hb dX12_when_11 rfl (lv_at hl 1 rfl) ?_
    refine lv_iconst (v := 1) hx hb dX12_when_12 (by decide) ?_
    refine lv_bipush (v := 20) hx hb dX12_when_13 (by decide +kernel) ?_
    obtain ⟨r3, hq3, hF⟩ := bn_1 hF
    refine x_callS C hP hS (c_X12_in hL hq3) (va_cwS 3 C.1.2.2.2.2 (gdS mw_104 mw_105 mw_5 mw_106) rfl rfl rfl hd_X12_in.2 ⟨Nat.le_of_ble_eq_true rfl, Nat.le_of_ble_eq_true rfl⟩) rfl rfl hl.1 (Nat.le_of_ble_eq_true rfl) ⟨Nat.zero_le _, Nat.zero_le _⟩ dX12_when_15 (fun H locs hP hS => ?_)
    refine lv_if_ne (tgt := 24) hx hb dX12_when_18 (by decide) (fun c_4 => ?_) (fun c_4 => ?_) -- COND 4 rcases (Decidable.em (r3 = 0)).symm with c_4 | c_4
    · have hF := ite_f hF c_4
      refine lv_aload_n hx hb dX12_when_24 rfl (lv_at hl 0 rfl) ?_
      obtain ⟨σ5, hq5, hF⟩ := bn_1 hF
      refine x_callV (ci := 12) rfl rfl C hP hS (c_X12_keeps hL hq5) (lr_54 hL) (lk_54 hL) (cwV 0 C.1.2.2.2.2 (gdV mw_732 mw_733 mw_734 mw_5 mw_735) rfl rfl rfl hd_X12_keeps ⟨Nat.le_of_ble_eq_true rfl, Nat.le_of_ble_eq_true rfl⟩) rfl rfl hl.1 (Nat.le_of_ble_eq_true rfl) ⟨Nat.zero_le _, Nat.zero_le _⟩ dX12_when_25 (fun H locs hP hS => ?_)
      refine lv_aload_n hx hb dX12_when_28 rfl (lv_at hl 0 rfl) ?_
      refine lv_iload_n hx hb dX12_when_29 rfl (lv_at hl 1 rfl) ?_
      refine lv_iconst (v := -1) hx hb dX12_when_30 (by decide) ?_
      obtain ⟨r6, σ6, hq6, hF⟩ := bn2_1 hF
      refine x_callV (ci := 12) rfl rfl C hP hS (c_X12_goodBy hL hq6) (lr_54 hL) (lk_54 hL) (cwV 2 C.1.2.2.2.2 (gdV mw_836 mw_837 mw_838 mw_5 mw_839) rfl rfl rfl hd_X12_goodBy ⟨Nat.le_of_ble_eq_true rfl, Nat.le_of_ble_eq_true rfl⟩) rfl rfl hl.1 (Nat.le_of_ble_eq_true rfl) ⟨Nat.zero_le _, Nat.zero_le _⟩ dX12_when_31 (fun H locs hP hS => ?_)
      refine lv_istore_n (lv' := [(3, .int r6), (0, .ref (ad 54)), (1, .int a1), (2, .int a2)]) hx hb dX12_when_34 rfl hl (by decide) rfl (fun ls hl => ?_)
      refine lv_bipush (v := -5) hx hb dX12_when_35 (by decide +kernel) ?_
      refine lv_istore (lv' := [(4, .int (-5 : Int32)), (3, .int r6), (0, .ref (ad 54)), (1, .int a1), (2, .int a2)]) hx hb dX12_when_37 hl (by decide) rfl (fun ls hl => ?_)
      refine lv_iconst (v := 0) hx hb dX12_when_39 (by decide) ?_
      refine lv_istore (lv' := [(5, .int (0 : Int32)), (4, .int (-5 : Int32)), (3, .int r6), (0, .ref (ad 54)), (1, .int a1), (2, .int a2)]) hx hb dX12_when_40 hl (by decide) rfl (fun ls hl => ?_)
      exact w_X12_when_42 C 1024 _ _ _ _ _ _ _ _ _ _ hρ0 hL hF hP hS (lv_sub hl [3, 4, 5, 2, 1, 0] rfl)
    · have hF := ite_t hF c_4
      refine lv_bipush (v := -2) hx hb dX12_when_21 (by decide +kernel) ?_
      obtain ⟨rfl, rfl⟩ := ret_2 hF
      subst hρ0
      exact x_iret rfl C hP hS dX12_when_23
  · have hF := ite_t hF c_2
    refine lv_iconst (v := -1) hx hb dX12_when_9 (by decide) ?_
    obtain ⟨rfl, rfl⟩ := ret_2 hF
    subst hρ0
    exact x_iret rfl C hP hS dX12_when_10
set_option maxHeartbeats 4000000 in
set_option maxRecDepth 100000 in
theorem c_X12_when {a1 : Int32} {a2 : Int32} {r : Int32} {σ1 : SG} {σ : SG} {ρ : RG} (hL : Lay N K len ρ) (hF : F_X12_when a1 a2 σ ρ = some (r, σ1)) : MT l Y D N ad K len yX12_when (Cond.code yX12_when cX12_when 7 (some .int) :: wsL_law) rm_X12_when [.ref (ad 54), .int a1, .int a2] σ ρ (some (.int r)) σ1 ρ := by
  refine mt_of (cc := cX12_when) (nL := 7) (ret := (some .int)) (by decide) (Nat.le_of_ble_eq_true rfl) ?_
  intro p e s m args below meth c ls C hnm hP hS hl
  exact w_X12_when_0 C rfl hL hF hP hS hl

/-! CutCrookedModel.public int guide(int);  -/
theorem dX12_guide_0 : decode cX12_guide 0 = .ok (.iload_n 1, 1) := by decide +kernel
theorem dX12_guide_1 : decode cX12_guide 1 = .ok (.iconst 0, 1) := by decide +kernel
theorem dX12_guide_2 : decode cX12_guide 2 = .ok (.bipush 40, 2) := by decide +kernel
theorem dX12_guide_4 : decode cX12_guide 4 = .ok (.invokestatic 47, 3) := by decide +kernel
theorem dX12_guide_7 : decode cX12_guide 7 = .ok (.ifCond .ne 7, 3) := by decide +kernel
theorem dX12_guide_10 : decode cX12_guide 10 = .ok (.sipush (-10002), 3) := by decide +kernel
theorem dX12_guide_13 : decode cX12_guide 13 = .ok (.ireturn, 1) := by decide +kernel
theorem dX12_guide_14 : decode cX12_guide 14 = .ok (.aload_n 0, 1) := by decide +kernel
theorem dX12_guide_15 : decode cX12_guide 15 = .ok (.invokevirtual 191, 3) := by decide +kernel
theorem dX12_guide_18 : decode cX12_guide 18 = .ok (.aload_n 0, 1) := by decide +kernel
theorem dX12_guide_19 : decode cX12_guide 19 = .ok (.iload_n 1, 1) := by decide +kernel
theorem dX12_guide_20 : decode cX12_guide 20 = .ok (.iconst (-1), 1) := by decide +kernel
theorem dX12_guide_21 : decode cX12_guide 21 = .ok (.invokevirtual 226, 3) := by decide +kernel
theorem dX12_guide_24 : decode cX12_guide 24 = .ok (.istore_n 2, 1) := by decide +kernel
theorem dX12_guide_25 : decode cX12_guide 25 = .ok (.aload_n 0, 1) := by decide +kernel
theorem dX12_guide_26 : decode cX12_guide 26 = .ok (.iconst 1, 1) := by decide +kernel
theorem dX12_guide_27 : decode cX12_guide 27 = .ok (.putfield 154, 3) := by decide +kernel
theorem dX12_guide_30 : decode cX12_guide 30 = .ok (.aload_n 0, 1) := by decide +kernel
theorem dX12_guide_31 : decode cX12_guide 31 = .ok (.iload_n 1, 1) := by decide +kernel
theorem dX12_guide_32 : decode cX12_guide 32 = .ok (.iconst (-1), 1) := by decide +kernel
theorem dX12_guide_33 : decode cX12_guide 33 = .ok (.invokevirtual 226, 3) := by decide +kernel
theorem dX12_guide_36 : decode cX12_guide 36 = .ok (.istore_n 3, 1) := by decide +kernel
theorem dX12_guide_37 : decode cX12_guide 37 = .ok (.aload_n 0, 1) := by decide +kernel
theorem dX12_guide_38 : decode cX12_guide 38 = .ok (.iconst 0, 1) := by decide +kernel
theorem dX12_guide_39 : decode cX12_guide 39 = .ok (.putfield 154, 3) := by decide +kernel
theorem dX12_guide_42 : decode cX12_guide 42 = .ok (.iload_n 3, 1) := by decide +kernel
theorem dX12_guide_43 : decode cX12_guide 43 = .ok (.iload_n 2, 1) := by decide +kernel
theorem dX12_guide_44 : decode cX12_guide 44 = .ok (.isub, 1) := by decide +kernel
theorem dX12_guide_45 : decode cX12_guide 45 = .ok (.ireturn, 1) := by decide +kernel
theorem hd_X12_guide : yX12_guide.cls = RX12 ∧ yX12_guide.cls ≠ "java/lang/invoke/MethodHandle" ∧ yX12_guide.cls ≠ "java/lang/invoke/VarHandle" ∧ (parseMethodDescriptor yX12_guide.desc).map (fun d => d.parameters.length) = some 1 := by decide +kernel
abbrev rm_X12_guide : Room := { frames := 6, cells := 0, slots := 0, locals := 140 }
def F_X12_guide (a1 : Int32) (σ : SG) (ρ : RG) : Option (Int32 × SG) :=
  bn (F_X12_in a1 (0 : Int32) (40 : Int32) σ ρ) fun r1 =>
  if r1 = 0 then
    some ((-10002 : Int32), σ)
  else
    bn (F_X12_keeps σ ρ) fun σ3 =>
    bn2 (F_X12_goodBy a1 (-1 : Int32) σ3 ρ) fun r4 σ4 =>
    nm (s2 σ4 54 17 (1 : Int32)) fun σ6 =>
    bn2 (F_X12_goodBy a1 (-1 : Int32) σ6 ρ) fun r7 σ7 =>
    nm (s2 σ7 54 17 (0 : Int32)) fun σ9 =>
    nm (r7 - r4) fun x10 =>
    some (x10, σ9)
set_option maxHeartbeats 4000000 in
set_option maxRecDepth 100000 in
theorem w_X12_guide_0 {a1 : Int32} {p : Program} {e : Env} {s : State} {m : MethodId} {args : Array Value} {below : List Frame} {meth : Method} {c : Code} {ρ0 : RG} {r : Int32} {σ1 : SG} (C : Cx Y D N ad p s m args meth c cX12_guide 4 (some .int) RX12 wsL_law) {σ : SG} {ρ : RG} {H : Heap} {locs : List Loc} {ls : Array Slot} (hρ0 : ρ = ρ0) (hL : Lay N K len ρ) (hF : F_X12_guide a1 σ ρ = some (r, σ1)) (hP : WP Y D N ad K len σ ρ H) (hS : va_S (AA N ad s.heap.size) s.heap H locs) (hl : lv_has ls 4 [(0, .ref (ad 54)), (1, .int a1)]) : W p l e rm_X12_guide s m args below meth c H locs 0 0 (MQ below (QW Y D N ad K len σ1 ρ0 (AA N ad s.heap.size) (some (.int r))) args s 0 0 (AA N ad s.heap.size)) (F0 m 0 ls []) := by
  have hx := C.1.1
  have hb := C.1.2.1
  unfold F_X12_guide at hF
  refine lv_iload_n hx hb dX12_guide_0 rfl (lv_at hl 1 rfl) ?_
  refine lv_iconst (v := 0) hx hb dX12_guide_1 (by decide) ?_
  refine lv_bipush (v := 40) hx hb dX12_guide_2 (by decide +kernel) ?_
  obtain ⟨r1, hq1, hF⟩ := bn_1 hF
  refine x_callS C hP hS (c_X12_in hL hq1) (va_cwS 3 C.1.2.2.2.2 (gdS mw_104 mw_105 mw_5 mw_106) rfl rfl rfl hd_X12_in.2 ⟨Nat.le_of_ble_eq_true rfl, Nat.le_of_ble_eq_true rfl⟩) rfl rfl hl.1 (Nat.le_of_ble_eq_true rfl) ⟨Nat.zero_le _, Nat.zero_le _⟩ dX12_guide_4 (fun H locs hP hS => ?_)
  refine lv_if_ne (tgt := 14) hx hb dX12_guide_7 (by decide) (fun c_2 => ?_) (fun c_2 => ?_) -- COND 2 rcases (Decidable.em (r1 = 0)).symm with c_2 | c_2
  · have hF := ite_f hF c_2
    refine lv_aload_n hx hb dX12_guide_14 rfl (lv_at hl 0 rfl) ?_
    obtain ⟨σ3, hq3, hF⟩ := bn_1 hF
    refine x_callV (ci := 12) rfl rfl C hP hS (c_X12_keeps hL hq3) (lr_54 hL) (lk_54 hL) (cwV 0 C.1.2.2.2.2 (gdV mw_732 mw_733 mw_734 mw_5 mw_735) rfl rfl rfl hd_X12_keeps ⟨Nat.le_of_ble_eq_true rfl, Nat.le_of_ble_eq_true rfl⟩) rfl rfl hl.1 (Nat.le_of_ble_eq_true rfl) ⟨Nat.zero_le _, Nat.zero_le _⟩ dX12_guide_15 (fun H locs hP hS => ?_)
    refine lv_aload_n hx hb dX12_guide_18 rfl (lv_at hl 0 rfl) ?_
    refine lv_iload_n hx hb dX12_guide_19 rfl (lv_at hl 1 rfl) ?_
    refine lv_iconst (v := -1) hx hb dX12_guide_20 (by decide) ?_
    obtain ⟨r4, σ4, hq4, hF⟩ := bn2_1 hF
    refine x_callV (ci := 12) rfl rfl C hP hS (c_X12_goodBy hL hq4) (lr_54 hL) (lk_54 hL) (cwV 2 C.1.2.2.2.2 (gdV mw_836 mw_837 mw_838 mw_5 mw_839) rfl rfl rfl hd_X12_goodBy ⟨Nat.le_of_ble_eq_true rfl, Nat.le_of_ble_eq_true rfl⟩) rfl rfl hl.1 (Nat.le_of_ble_eq_true rfl) ⟨Nat.zero_le _, Nat.zero_le _⟩ dX12_guide_21 (fun H locs hP hS => ?_)
    refine lv_istore_n (lv' := [(2, .int r4), (0, .ref (ad 54)), (1, .int a1)]) hx hb dX12_guide_24 rfl hl (by decide) rfl (fun ls hl => ?_)
    refine lv_aload_n hx hb dX12_guide_25 rfl (lv_at hl 1 rfl) ?_
    refine lv_iconst (v := 1) hx hb dX12_guide_26 (by decide) ?_
    obtain ⟨σ6, eσ6, hF⟩ := nm_1 hF
    refine put_12_17 rfl C hP hS (lr_54 hL) (lk_54 hL) inlX12 mw_681 eσ6 dX12_guide_27 (fun H locs hP hS => ?_)
    refine lv_aload_n hx hb dX12_guide_30 rfl (lv_at hl 1 rfl) ?_
    refine lv_iload_n hx hb dX12_guide_31 rfl (lv_at hl 2 rfl) ?_
    refine lv_iconst (v := -1) hx hb dX12_guide_32 (by decide) ?_
    obtain ⟨r7, σ7, hq7, hF⟩ := bn2_1 hF
    refine x_callV (ci := 12) rfl rfl C hP hS (c_X12_goodBy hL hq7) (lr_54 hL) (lk_54 hL) (cwV 2 C.1.2.2.2.2 (gdV mw_836 mw_837 mw_838 mw_5 mw_839) rfl rfl rfl hd_X12_goodBy ⟨Nat.le_of_ble_eq_true rfl, Nat.le_of_ble_eq_true rfl⟩) rfl rfl hl.1 (Nat.le_of_ble_eq_true rfl) ⟨Nat.zero_le _, Nat.zero_le _⟩ dX12_guide_33 (fun H locs hP hS => ?_)
    refine lv_istore_n (lv' := [(3, .int r7), (2, .int r4), (0, .ref (ad 54)), (1, .int a1)]) hx hb dX12_guide_36 rfl hl (by decide) rfl (fun ls hl => ?_)
    refine lv_aload_n hx hb dX12_guide_37 rfl (lv_at hl 2 rfl) ?_
    refine lv_iconst (v := 0) hx hb dX12_guide_38 (by decide) ?_
    obtain ⟨σ9, eσ9, hF⟩ := nm_1 hF
    refine put_12_17 rfl C hP hS (lr_54 hL) (lk_54 hL) inlX12 mw_681 eσ9 dX12_guide_39 (fun H locs hP hS => ?_)
    refine lv_iload_n hx hb dX12_guide_42 rfl (lv_at hl 0 rfl) ?_
    refine lv_iload_n hx hb dX12_guide_43 rfl (lv_at hl 1 rfl) ?_
    refine lv_isub hx hb dX12_guide_44 ?_
    obtain ⟨x10, ex10, hF⟩ := nm_1 hF
    refine x_top ex10 ?_
    obtain ⟨rfl, rfl⟩ := ret_2 hF
    subst hρ0
    exact x_iret rfl C hP hS dX12_guide_45
  · have hF := ite_t hF c_2
    refine lv_sipush (v := -10002) hx hb dX12_guide_10 (by decide +kernel) ?_
    obtain ⟨rfl, rfl⟩ := ret_2 hF
    subst hρ0
    exact x_iret rfl C hP hS dX12_guide_13
set_option maxHeartbeats 4000000 in
set_option maxRecDepth 100000 in
theorem c_X12_guide {a1 : Int32} {r : Int32} {σ1 : SG} {σ : SG} {ρ : RG} (hL : Lay N K len ρ) (hF : F_X12_guide a1 σ ρ = some (r, σ1)) : MT l Y D N ad K len yX12_guide (Cond.code yX12_guide cX12_guide 4 (some .int) :: wsL_law) rm_X12_guide [.ref (ad 54), .int a1] σ ρ (some (.int r)) σ1 ρ := by
  refine mt_of (cc := cX12_guide) (nL := 4) (ret := (some .int)) (by decide) (Nat.le_of_ble_eq_true rfl) ?_
  intro p e s m args below meth c ls C hnm hP hS hl
  exact w_X12_guide_0 C rfl hL hF hP hS hl

/-! CutCrookedModel.public int again(int);  -/
theorem dX12_again_0 : decode cX12_again 0 = .ok (.aload_n 0, 1) := by decide +kernel
theorem dX12_again_1 : decode cX12_again 1 = .ok (.iload_n 1, 1) := by decide +kernel
theorem dX12_again_2 : decode cX12_again 2 = .ok (.invokevirtual 143, 3) := by decide +kernel
theorem dX12_again_5 : decode cX12_again 5 = .ok (.ifCond .ne 5, 3) := by decide +kernel
theorem dX12_again_8 : decode cX12_again 8 = .ok (.iconst (-1), 1) := by decide +kernel
theorem dX12_again_9 : decode cX12_again 9 = .ok (.ireturn, 1) := by decide +kernel
theorem dX12_again_10 : decode cX12_again 10 = .ok (.aload_n 0, 1) := by decide +kernel
theorem dX12_again_11 : decode cX12_again 11 = .ok (.invokevirtual 191, 3) := by decide +kernel
theorem dX12_again_14 : decode cX12_again 14 = .ok (.bipush (-5), 2) := by decide +kernel
theorem dX12_again_16 : decode cX12_again 16 = .ok (.istore_n 2, 1) := by decide +kernel
theorem dX12_again_17 : decode cX12_again 17 = .ok (.aload_n 0, 1) := by decide +kernel
theorem dX12_again_18 : decode cX12_again 18 = .ok (.iconst 1, 1) := by decide +kernel
theorem dX12_again_19 : decode cX12_again 19 = .ok (.putfield 174, 3) := by decide +kernel
theorem dX12_again_22 : decode cX12_again 22 = .ok (.iconst 1, 1) := by decide +kernel
theorem dX12_again_23 : decode cX12_again 23 = .ok (.istore_n 3, 1) := by decide +kernel
theorem dX12_again_24 : decode cX12_again 24 = .ok (.iload_n 3, 1) := by decide +kernel
theorem dX12_again_25 : decode cX12_again 25 = .ok (.bipush 20, 2) := by decide +kernel
theorem dX12_again_27 : decode cX12_again 27 = .ok (.if_icmp .gt 79, 3) := by decide +kernel
theorem dX12_again_30 : decode cX12_again 30 = .ok (.iload_n 2, 1) := by decide +kernel
theorem dX12_again_31 : decode cX12_again 31 = .ok (.bipush (-5), 2) := by decide +kernel
theorem dX12_again_33 : decode cX12_again 33 = .ok (.if_icmp .ne 73, 3) := by decide +kernel
theorem dX12_again_36 : decode cX12_again 36 = .ok (.aload_n 0, 1) := by decide +kernel
theorem dX12_again_37 : decode cX12_again 37 = .ok (.iload_n 1, 1) := by decide +kernel
theorem dX12_again_38 : decode cX12_again 38 = .ok (.aload_n 0, 1) := by decide +kernel
theorem dX12_again_39 : decode cX12_again 39 = .ok (.getfield 9, 3) := by decide +kernel
theorem dX12_again_42 : decode cX12_again 42 = .ok (.bipush 44, 2) := by decide +kernel
theorem dX12_again_44 : decode cX12_again 44 = .ok (.iload_n 1, 1) := by decide +kernel
theorem dX12_again_45 : decode cX12_again 45 = .ok (.iadd, 1) := by decide +kernel
theorem dX12_again_46 : decode cX12_again 46 = .ok (.iaload, 1) := by decide +kernel
theorem dX12_again_47 : decode cX12_again 47 = .ok (.invokevirtual 187, 3) := by decide +kernel
theorem dX12_again_50 : decode cX12_again 50 = .ok (.pop, 1) := by decide +kernel
theorem dX12_again_51 : decode cX12_again 51 = .ok (.aload_n 0, 1) := by decide +kernel
theorem dX12_again_52 : decode cX12_again 52 = .ok (.getfield 9, 3) := by decide +kernel
theorem dX12_again_55 : decode cX12_again 55 = .ok (.iconst 0, 1) := by decide +kernel
theorem dX12_again_56 : decode cX12_again 56 = .ok (.aload_n 0, 1) := by decide +kernel
theorem dX12_again_57 : decode cX12_again 57 = .ok (.getfield 18, 3) := by decide +kernel
theorem dX12_again_60 : decode cX12_again 60 = .ok (.iconst 0, 1) := by decide +kernel
theorem dX12_again_61 : decode cX12_again 61 = .ok (.iaload, 1) := by decide +kernel
theorem dX12_again_62 : decode cX12_again 62 = .ok (.iastore, 1) := by decide +kernel
theorem dX12_again_63 : decode cX12_again 63 = .ok (.aload_n 0, 1) := by decide +kernel
theorem dX12_again_64 : decode cX12_again 64 = .ok (.getfield 9, 3) := by decide +kernel
theorem dX12_again_67 : decode cX12_again 67 = .ok (.iconst 1, 1) := by decide +kernel
theorem dX12_again_68 : decode cX12_again 68 = .ok (.iaload, 1) := by decide +kernel
theorem dX12_again_69 : decode cX12_again 69 = .ok (.aload_n 0, 1) := by decide +kernel
theorem dX12_again_70 : decode cX12_again 70 = .ok (.getfield 18, 3) := by decide +kernel
theorem dX12_again_73 : decode cX12_again 73 = .ok (.iconst 1, 1) := by decide +kernel
theorem dX12_again_74 : decode cX12_again 74 = .ok (.iaload, 1) := by decide +kernel
theorem dX12_again_75 : decode cX12_again 75 = .ok (.if_icmp .ne 22, 3) := by decide +kernel
theorem dX12_again_78 : decode cX12_again 78 = .ok (.aload_n 0, 1) := by decide +kernel
theorem dX12_again_79 : decode cX12_again 79 = .ok (.getfield 9, 3) := by decide +kernel
theorem dX12_again_82 : decode cX12_again 82 = .ok (.iconst 2, 1) := by decide +kernel
theorem dX12_again_83 : decode cX12_again 83 = .ok (.iaload, 1) := by decide +kernel
theorem dX12_again_84 : decode cX12_again 84 = .ok (.aload_n 0, 1) := by decide +kernel
theorem dX12_again_85 : decode cX12_again 85 = .ok (.getfield 18, 3) := by decide +kernel
theorem dX12_again_88 : decode cX12_again 88 = .ok (.iconst 2, 1) := by decide +kernel
theorem dX12_again_89 : decode cX12_again 89 = .ok (.iaload, 1) := by decide +kernel
theorem dX12_again_90 : decode cX12_again 90 = .ok (.if_icmp .ne 7, 3) := by decide +kernel
theorem dX12_again_93 : decode cX12_again 93 = .ok (.iload_n 3, 1) := by decide +kernel
theorem dX12_again_94 : decode cX12_again 94 = .ok (.goto 5, 3) := by decide +kernel
theorem dX12_again_97 : decode cX12_again 97 = .ok (.bipush (-5), 2) := by decide +kernel
theorem dX12_again_99 : decode cX12_again 99 = .ok (.istore_n 2, 1) := by decide +kernel
theorem dX12_again_100 : decode cX12_again 100 = .ok (.iinc 3 1, 3) := by decide +kernel
theorem dX12_again_103 : decode cX12_again 103 = .ok (.goto (-79), 3) := by decide +kernel
theorem dX12_again_106 : decode cX12_again 106 = .ok (.aload_n 0, 1) := by decide +kernel
theorem dX12_again_107 : decode cX12_again 107 = .ok (.iconst 0, 1) := by decide +kernel
theorem dX12_again_108 : decode cX12_again 108 = .ok (.putfield 174, 3) := by decide +kernel
theorem dX12_again_111 : decode cX12_again 111 = .ok (.aload_n 0, 1) := by decide +kernel
theorem dX12_again_112 : decode cX12_again 112 = .ok (.invokevirtual 194, 3) := by decide +kernel
theorem dX12_again_115 : decode cX12_again 115 = .ok (.iload_n 2, 1) := by decide +kernel
theorem dX12_again_116 : decode cX12_again 116 = .ok (.ireturn, 1) := by decide +kernel
theorem hd_X12_again : yX12_again.cls = RX12 ∧ yX12_again.cls ≠ "java/lang/invoke/MethodHandle" ∧ yX12_again.cls ≠ "java/lang/invoke/VarHandle" ∧ (parseMethodDescriptor yX12_again.desc).map (fun d => d.parameters.length) = some 1 := by decide +kernel
abbrev rm_X12_again : Room := { frames := 4, cells := 0, slots := 0, locals := 93 }
def F_X12_again_106 (a1 : Int32) (σ : SG) (ρ : RG) (v2 : Int32) : Option (Int32 × SG) :=
  nm (s2 σ 54 18 (0 : Int32)) fun σ8 =>
  bn (F_X12_goesBack σ8 ρ) fun σ9 =>
  some (v2, σ9)
def F_X12_again_99 (a1 : Int32) (rec_24 : SG → RG → Int32 → Int32 → Int32 → Option (Int32 × SG)) (σ : SG) (ρ : RG) (v1 : Int32) (v3 : Int32) (k0 : Int32) : Option (Int32 × SG) :=
  nm (v3 + (1 : Int32)) fun x17 =>
  rec_24 σ ρ v1 k0 x17
def F_X12_again_97 (a1 : Int32) (rec_24 : SG → RG → Int32 → Int32 → Int32 → Option (Int32 × SG)) (σ : SG) (ρ : RG) (v1 : Int32) (v3 : Int32) : Option (Int32 × SG) :=
  F_X12_again_99 a1 rec_24 σ ρ v1 v3 (-5 : Int32)
def F_X12_again_24 (a1 : Int32) : Nat → SG → RG → Int32 → Int32 → Int32 → Option (Int32 × SG)
  | 0 => fun _ _ _ _ _ => none
  | n + 1 => fun σ ρ v1 v2 v3 =>
  if (20 : Int32) < v3 then
    F_X12_again_106 a1 σ ρ v2
  else
    if v2 = (-5 : Int32) then
      nm ((44 : Int32) + v1) fun x11 =>
      gd (inb x11 909) <|
      bn2 (F_X12_cuts v1 (σ 55 (x11).toNatClampNeg) σ ρ) fun r13 σ13 =>
      nm (s2 σ13 55 0 (σ13 57 0)) fun σ15 =>
      if (σ15 55 1) = (σ15 57 1) then
        if (σ15 55 2) = (σ15 57 2) then
          F_X12_again_99 a1 (F_X12_again_24 a1 n) σ15 ρ v1 v3 v3
        else
          F_X12_again_97 a1 (F_X12_again_24 a1 n) σ15 ρ v1 v3
      else
        F_X12_again_97 a1 (F_X12_again_24 a1 n) σ15 ρ v1 v3
    else
      F_X12_again_106 a1 σ ρ v2
def F_X12_again (a1 : Int32) (σ : SG) (ρ : RG) : Option (Int32 × SG) :=
  bn (F_X12_isCutter a1 σ ρ) fun r1 =>
  if r1 = 0 then
    some ((-1 : Int32), σ)
  else
    bn (F_X12_keeps σ ρ) fun σ3 =>
    nm (s2 σ3 54 18 (1 : Int32)) fun σ5 =>
    F_X12_again_24 a1 1024 σ5 ρ a1 (-5 : Int32) (1 : Int32)
set_option maxHeartbeats 4000000 in
set_option maxRecDepth 100000 in
theorem w_X12_again_106 {a1 : Int32} {p : Program} {e : Env} {s : State} {m : MethodId} {args : Array Value} {below : List Frame} {meth : Method} {c : Code} {ρ0 : RG} {r : Int32} {σ1 : SG} (C : Cx Y D N ad p s m args meth c cX12_again 4 (some .int) RX12 wsL_law) {σ : SG} {ρ : RG} {v2 : Int32} {H : Heap} {locs : List Loc} {ls : Array Slot} (hρ0 : ρ = ρ0) (hL : Lay N K len ρ) (hF : F_X12_again_106 a1 σ ρ v2 = some (r, σ1)) (hP : WP Y D N ad K len σ ρ H) (hS : va_S (AA N ad s.heap.size) s.heap H locs) (hl : lv_has ls 4 [(0, .ref (ad 54)), (2, .int v2)]) : W p l e rm_X12_again s m args below meth c H locs 0 0 (MQ below (QW Y D N ad K len σ1 ρ0 (AA N ad s.heap.size) (some (.int r))) args s 0 0 (AA N ad s.heap.size)) (F0 m 106 ls []) := by
  have hx := C.1.1
  have hb := C.1.2.1
  unfold F_X12_again_106 at hF
  refine lv_aload_n hx hb dX12_again_106 rfl (lv_at hl 0 rfl) ?_
  refine lv_iconst (v := 0) hx hb dX12_again_107 (by decide) ?_
  obtain ⟨σ8, eσ8, hF⟩ := nm_1 hF
  refine put_12_18 rfl C hP hS (lr_54 hL) (lk_54 hL) inlX12 mw_658 eσ8 dX12_again_108 (fun H locs hP hS => ?_)
  refine lv_aload_n hx hb dX12_again_111 rfl (lv_at hl 0 rfl) ?_
  obtain ⟨σ9, hq9, hF⟩ := bn_1 hF
  refine x_callV (ci := 12) rfl rfl C hP hS (c_X12_goesBack hL hq9) (lr_54 hL) (lk_54 hL) (cwV 0 C.1.2.2.2.2 (gdV mw_736 mw_737 mw_738 mw_5 mw_739) rfl rfl rfl hd_X12_goesBack ⟨Nat.le_of_ble_eq_true rfl, Nat.le_of_ble_eq_true rfl⟩) rfl rfl hl.1 (Nat.le_of_ble_eq_true rfl) ⟨Nat.zero_le _, Nat.zero_le _⟩ dX12_again_112 (fun H locs hP hS => ?_)
  refine lv_iload_n hx hb dX12_again_115 rfl (lv_at hl 1 rfl) ?_
  obtain ⟨rfl, rfl⟩ := ret_2 hF
  subst hρ0
  exact x_iret rfl C hP hS dX12_again_116
set_option maxHeartbeats 4000000 in
set_option maxRecDepth 100000 in
theorem w_X12_again_99 {a1 : Int32} {rec_24 : SG → RG → Int32 → Int32 → Int32 → Option (Int32 × SG)} {p : Program} {e : Env} {s : State} {m : MethodId} {args : Array Value} {below : List Frame} {meth : Method} {c : Code} {ρ0 : RG} {r : Int32} {σ1 : SG} (C : Cx Y D N ad p s m args meth c cX12_again 4 (some .int) RX12 wsL_law) (hrec_24 : ∀ (σ : SG) (ρ : RG) (v1 : Int32) (v2 : Int32) (v3 : Int32) (H : Heap) (locs : List Loc) (ls : Array Slot), ρ = ρ0 → Lay N K len ρ → rec_24 σ ρ v1 v2 v3 = some (r, σ1) → WP Y D N ad K len σ ρ H → va_S (AA N ad s.heap.size) s.heap H locs → lv_has ls 4 [(0, .ref (ad 54)), (1, .int v1), (2, .int v2), (3, .int v3)] → W p l e rm_X12_again s m args below meth c H locs 0 0 (MQ below (QW Y D N ad K len σ1 ρ0 (AA N ad s.heap.size) (some (.int r))) args s 0 0 (AA N ad s.heap.size)) (F0 m 24 ls [])) {σ : SG} {ρ : RG} {v1 : Int32} {v3 : Int32} {k0 : Int32} {H : Heap} {locs : List Loc} {ls : Array Slot} (hρ0 : ρ = ρ0) (hL : Lay N K len ρ) (hF : F_X12_again_99 a1 rec_24 σ ρ v1 v3 k0 = some (r, σ1)) (hP : WP Y D N ad K len σ ρ H) (hS : va_S (AA N ad s.heap.size) s.heap H locs) (hl : lv_has ls 4 [(0, .ref (ad 54)), (1, .int v1), (3, .int v3)]) : W p l e rm_X12_again s m args below meth c H locs 0 0 (MQ below (QW Y D N ad K len σ1 ρ0 (AA N ad s.heap.size) (some (.int r))) args s 0 0 (AA N ad s.heap.size)) (F0 m 99 ls [.int k0]) := by
  have hx := C.1.1
  have hb := C.1.2.1
  unfold F_X12_again_99 at hF
  refine lv_istore_n (lv' := [(2, .int k0), (0, .ref (ad 54)), (1, .int v1), (3, .int v3)]) hx hb dX12_again_99 rfl hl (by decide) rfl (fun ls hl => ?_)
  obtain ⟨x17, ex17, hF⟩ := nm_1 hF
  refine lv_iinc (v := x17) (lv' := [(3, .int x17), (2, .int k0), (0, .ref (ad 54)), (1, .int v1)]) hx hb dX12_again_100 hl (k := 3) rfl (by rw [ex17]; first | rfl | decide) (by decide) rfl (fun ls hl => ?_)
  refine lv_goto (tgt := 24) hx hb dX12_again_103 (by decide) ?_
  exact hrec_24 _ _ _ _ _ _ _ _ hρ0 hL hF hP hS (lv_sub hl [2, 3, 1, 0] rfl)
set_option maxHeartbeats 4000000 in
set_option maxRecDepth 100000 in
theorem w_X12_again_97 {a1 : Int32} {rec_24 : SG → RG → Int32 → Int32 → Int32 → Option (Int32 × SG)} {p : Program} {e : Env} {s : State} {m : MethodId} {args : Array Value} {below : List Frame} {meth : Method} {c : Code} {ρ0 : RG} {r : Int32} {σ1 : SG} (C : Cx Y D N ad p s m args meth c cX12_again 4 (some .int) RX12 wsL_law) (hrec_24 : ∀ (σ : SG) (ρ : RG) (v1 : Int32) (v2 : Int32) (v3 : Int32) (H : Heap) (locs : List Loc) (ls : Array Slot), ρ = ρ0 → Lay N K len ρ → rec_24 σ ρ v1 v2 v3 = some (r, σ1) → WP Y D N ad K len σ ρ H → va_S (AA N ad s.heap.size) s.heap H locs → lv_has ls 4 [(0, .ref (ad 54)), (1, .int v1), (2, .int v2), (3, .int v3)] → W p l e rm_X12_again s m args below meth c H locs 0 0 (MQ below (QW Y D N ad K len σ1 ρ0 (AA N ad s.heap.size) (some (.int r))) args s 0 0 (AA N ad s.heap.size)) (F0 m 24 ls [])) {σ : SG} {ρ : RG} {v1 : Int32} {v3 : Int32} {H : Heap} {locs : List Loc} {ls : Array Slot} (hρ0 : ρ = ρ0) (hL : Lay N K len ρ) (hF : F_X12_again_97 a1 rec_24 σ ρ v1 v3 = some (r, σ1)) (hP : WP Y D N ad K len σ ρ H) (hS : va_S (AA N ad s.heap.size) s.heap H locs) (hl : lv_has ls 4 [(0, .ref (ad 54)), (1, .int v1), (3, .int v3)]) : W p l e rm_X12_again s m args below meth c H locs 0 0 (MQ below (QW Y D N ad K len σ1 ρ0 (AA N ad s.heap.size) (some (.int r))) args s 0 0 (AA N ad s.heap.size)) (F0 m 97 ls []) := by
  have hx := C.1.1
  have hb := C.1.2.1
  unfold F_X12_again_97 at hF
  refine lv_bipush (v := -5) hx hb dX12_again_97 (by decide +kernel) ?_
  exact w_X12_again_99 C hrec_24 hρ0 hL hF hP hS (lv_sub hl [0, 1, 2] rfl)
set_option maxHeartbeats 4000000 in
set_option maxRecDepth 100000 in
theorem w_X12_again_24 {a1 : Int32} {p : Program} {e : Env} {s : State} {m : MethodId} {args : Array Value} {below : List Frame} {meth : Method} {c : Code} {ρ0 : RG} {r : Int32} {σ1 : SG} (C : Cx Y D N ad p s m args meth c cX12_again 4 (some .int) RX12 wsL_law) : ∀ (n : Nat) (σ : SG) (ρ : RG) (v1 : Int32) (v2 : Int32) (v3 : Int32) (H : Heap) (locs : List Loc) (ls : Array Slot), ρ = ρ0 → Lay N K len ρ → F_X12_again_24 a1 n σ ρ v1 v2 v3 = some (r, σ1) → WP Y D N ad K len σ ρ H → va_S (AA N ad s.heap.size) s.heap H locs → lv_has ls 4 [(0, .ref (ad 54)), (1, .int v1), (2, .int v2), (3, .int v3)] → W p l e rm_X12_again s m args below meth c H locs 0 0 (MQ below (QW Y D N ad K len σ1 ρ0 (AA N ad s.heap.size) (some (.int r))) args s 0 0 (AA N ad s.heap.size)) (F0 m 24 ls []) := by
  have hx := C.1.1
  have hb := C.1.2.1
  intro n
  induction n with
  | zero => intro σ ρ v1 v2 v3 H locs ls hρ0 hL hF; cases hF
  | succ n ih =>
    intro σ ρ v1 v2 v3 H locs ls hρ0 hL hF hP hS hl
    unfold F_X12_again_24 at hF
    refine lv_iload_n hx hb dX12_again_24 rfl (lv_at hl 3 rfl) ?_
    refine lv_bipush (v := 20) hx hb dX12_again_25 (by decide +kernel) ?_
    refine lv_icmp_gt (tgt := 106) hx hb dX12_again_27 (by decide) (fun c_6 => ?_) (fun c_6 => ?_) -- COND 6 by_cases c_6 : (20 : Int32) < v3
    · have hF := ite_t hF c_6
      exact w_X12_again_106 C hρ0 hL hF hP hS (lv_sub hl [0, 2] rfl)
    · have hF := ite_f hF c_6
      refine lv_iload_n hx hb dX12_again_30 rfl (lv_at hl 2 rfl) ?_
      refine lv_bipush (v := -5) hx hb dX12_again_31 (by decide +kernel) ?_
      refine lv_icmp_ne (tgt := 106) hx hb dX12_again_33 (by decide) (fun c_10 => ?_) (fun c_10 => ?_) -- COND 10 rcases (Decidable.em (v2 = (-5 : Int32))).symm with c_10 | c_10
      · have hF := ite_f hF c_10
        exact w_X12_again_106 C hρ0 hL hF hP hS (lv_sub hl [0, 2] rfl)
      · have hF := ite_t hF c_10
        refine lv_aload_n hx hb dX12_again_36 rfl (lv_at hl 0 rfl) ?_
        refine lv_iload_n hx hb dX12_again_37 rfl (lv_at hl 1 rfl) ?_
        refine lv_aload_n hx hb dX12_again_38 rfl (lv_at hl 0 rfl) ?_
        refine get_12_1 C hP (lr_54 hL) (lk_54 hL) inlX12 mw_81 (lf_54_1 hL) dX12_again_39 ?_
        refine lv_bipush (v := 44) hx hb dX12_again_42 (by decide +kernel) ?_
        refine lv_iload_n hx hb dX12_again_44 rfl (lv_at hl 1 rfl) ?_
        refine lv_iadd hx hb dX12_again_45 ?_
        obtain ⟨x11, ex11, hF⟩ := nm_1 hF
        refine x_top ex11 ?_
        obtain ⟨g12, hF⟩ := gd_1 hF
        refine x_iald C hP (lr_55 hL) (lk_55 hL) (ln_55 hL) g12 dX12_again_46 ?_
        obtain ⟨r13, σ13, hq13, hF⟩ := bn2_1 hF
        refine x_callV (ci := 12) rfl rfl C hP hS (c_X12_cuts hL hq13) (lr_54 hL) (lk_54 hL) (cwV 2 C.1.2.2.2.2 (gdV mw_652 mw_653 mw_654 mw_5 mw_655) rfl rfl rfl hd_X12_cuts ⟨Nat.le_of_ble_eq_true rfl, Nat.le_of_ble_eq_true rfl⟩) rfl rfl hl.1 (Nat.le_of_ble_eq_true rfl) ⟨Nat.zero_le _, Nat.zero_le _⟩ dX12_again_47 (fun H locs hP hS => ?_)
        refine lv_pop hx hb dX12_again_50 rfl ?_
        refine lv_aload_n hx hb dX12_again_51 rfl (lv_at hl 0 rfl) ?_
        refine get_12_1 C hP (lr_54 hL) (lk_54 hL) inlX12 mw_81 (lf_54_1 hL) dX12_again_52 ?_
        refine lv_iconst (v := 0) hx hb dX12_again_55 (by decide) ?_
        refine lv_aload_n hx hb dX12_again_56 rfl (lv_at hl 0 rfl) ?_
        refine get_12_3 C hP (lr_54 hL) (lk_54 hL) inlX12 mw_83 (lf_54_3 hL) dX12_again_57 ?_
        refine lv_iconst (v := 0) hx hb dX12_again_60 (by decide) ?_
        refine x_iald C hP (lr_57 hL) (lk_57 hL) (ln_57 hL) (by decide +kernel) dX12_again_61 ?_
        rw [cl_0]
        obtain ⟨σ15, eσ15, hF⟩ := nm_1 hF
        refine x_iast (σ1 := σ15) C hP hS (lr_55 hL) (lk_55 hL) (ln_55 hL) (by decide +kernel) (by rw [cl_0]; exact eσ15) dX12_again_62 (fun H locs hP hS => ?_)
        refine lv_aload_n hx hb dX12_again_63 rfl (lv_at hl 0 rfl) ?_
        refine get_12_1 C hP (lr_54 hL) (lk_54 hL) inlX12 mw_81 (lf_54_1 hL) dX12_again_64 ?_
        refine lv_iconst (v := 1) hx hb dX12_again_67 (by decide) ?_
        refine x_iald C hP (lr_55 hL) (lk_55 hL) (ln_55 hL) (by decide +kernel) dX12_again_68 ?_
        rw [cl_1]
        refine lv_aload_n hx hb dX12_again_69 rfl (lv_at hl 0 rfl) ?_
        refine get_12_3 C hP (lr_54 hL) (lk_54 hL) inlX12 mw_83 (lf_54_3 hL) dX12_again_70 ?_
        refine lv_iconst (v := 1) hx hb dX12_again_73 (by decide) ?_
        refine x_iald C hP (lr_57 hL) (lk_57 hL) (ln_57 hL) (by decide +kernel) dX12_again_74 ?_
        rw [cl_1]
        refine lv_icmp_ne (tgt := 97) hx hb dX12_again_75 (by decide) (fun c_16 => ?_) (fun c_16 => ?_) -- COND 16 rcases (Decidable.em ((σ15 55 1) = (σ15 57 1))).symm with c_16 | c_16
        · have hF := ite_f hF c_16
          exact w_X12_again_97 C ih hρ0 hL hF hP hS (lv_sub hl [0, 1, 3] rfl)
        · have hF := ite_t hF c_16
          refine lv_aload_n hx hb dX12_again_78 rfl (lv_at hl 0 rfl) ?_
          refine get_12_1 C hP (lr_54 hL) (lk_54 hL) inlX12 mw_81 (lf_54_1 hL) dX12_again_79 ?_
          refine lv_iconst (v := 2) hx hb dX12_again_82 (by decide) ?_
          refine x_iald C hP (lr_55 hL) (lk_55 hL) (ln_55 hL) (by decide +kernel) dX12_again_83 ?_
          rw [cl_2]
          refine lv_aload_n hx hb dX12_again_84 rfl (lv_at hl 0 rfl) ?_
          refine get_12_3 C hP (lr_54 hL) (lk_54 hL) inlX12 mw_83 (lf_54_3 hL) dX12_again_85 ?_
          refine lv_iconst (v := 2) hx hb dX12_again_88 (by decide) ?_
          refine x_iald C hP (lr_57 hL) (lk_57 hL) (ln_57 hL) (by decide +kernel) dX12_again_89 ?_
          rw [cl_2]
          refine lv_icmp_ne (tgt := 97) hx hb dX12_again_90 (by decide) (fun c_18 => ?_) (fun c_18 => ?_) -- COND 18 rcases (Decidable.em ((σ15 55 2) = (σ15 57 2))).symm with c_18 | c_18
          · have hF := ite_f hF c_18
            exact w_X12_again_97 C ih hρ0 hL hF hP hS (lv_sub hl [0, 1, 3] rfl)
          · have hF := ite_t hF c_18
            refine lv_iload_n hx hb dX12_again_93 rfl (lv_at hl 3 rfl) ?_
            refine lv_goto (tgt := 99) hx hb dX12_again_94 (by decide) ?_
            exact w_X12_again_99 C ih hρ0 hL hF hP hS (lv_sub hl [0, 1, 3] rfl)
set_option maxHeartbeats 4000000 in
set_option maxRecDepth 100000 in
theorem w_X12_again_0 {a1 : Int32} {p : Program} {e : Env} {s : State} {m : MethodId} {args : Array Value} {below : List Frame} {meth : Method} {c : Code} {ρ0 : RG} {r : Int32} {σ1 : SG} (C : Cx Y D N ad p s m args meth c cX12_again 4 (some .int) RX12 wsL_law) {σ : SG} {ρ : RG} {H : Heap} {locs : List Loc} {ls : Array Slot} (hρ0 : ρ = ρ0) (hL : Lay N K len ρ) (hF : F_X12_again a1 σ ρ = some (r, σ1)) (hP : WP Y D N ad K len σ ρ H) (hS : va_S (AA N ad s.heap.size) s.heap H locs) (hl : lv_has ls 4 [(0, .ref (ad 54)), (1, .int a1)]) : W p l e rm_X12_again s m args below meth c H locs 0 0 (MQ below (QW Y D N ad K len σ1 ρ0 (AA N ad s.heap.size) (some (.int r))) args s 0 0 (AA N ad s.heap.size)) (F0 m 0 ls []) := by
  have hx := C.1.1
  have hb := C.1.2.1
  unfold F_X12_again at hF
  refine lv_aload_n hx hb dX12_again_0 rfl (lv_at hl 0 rfl) ?_
  refine lv_iload_n hx hb dX12_again_1 rfl (lv_at hl 1 rfl) ?_
  obtain ⟨r1, hq1, hF⟩ := bn_1 hF
  refine x_callV (ci := 12) rfl rfl C hP hS (c_X12_isCutter hL hq1) (lr_54 hL) (lk_54 hL) (cwV 1 C.1.2.2.2.2 (gdV mw_462 mw_463 mw_464 mw_5 mw_465) rfl rfl rfl hd_X12_isCutter ⟨Nat.le_of_ble_eq_true rfl, Nat.le_of_ble_eq_true rfl⟩) rfl rfl hl.1 (Nat.le_of_ble_eq_true rfl) ⟨Nat.zero_le _, Nat.zero_le _⟩ dX12_again_2 (fun H locs hP hS => ?_)
  refine lv_if_ne (tgt := 10) hx hb dX12_again_5 (by decide) (fun c_2 => ?_) (fun c_2 => ?_) -- COND 2 rcases (Decidable.em (r1 = 0)).symm with c_2 | c_2
  · have hF := ite_f hF c_2
    refine lv_aload_n hx hb dX12_again_10 rfl (lv_at hl 0 rfl) ?_
    obtain ⟨σ3, hq3, hF⟩ := bn_1 hF
    refine x_callV (ci := 12) rfl rfl C hP hS (c_X12_keeps hL hq3) (lr_54 hL) (lk_54 hL) (cwV 0 C.1.2.2.2.2 (gdV mw_732 mw_733 mw_734 mw_5 mw_735) rfl rfl rfl hd_X12_keeps ⟨Nat.le_of_ble_eq_true rfl, Nat.le_of_ble_eq_true rfl⟩) rfl rfl hl.1 (Nat.le_of_ble_eq_true rfl) ⟨Nat.zero_le _, Nat.zero_le _⟩ dX12_again_11 (fun H locs hP hS => ?_)
    refine lv_bipush (v := -5) hx hb dX12_again_14 (by decide +kernel) ?_
    refine lv_istore_n (lv' := [(2, .int (-5 : Int32)), (0, .ref (ad 54)), (1, .int a1)]) hx hb dX12_again_16 rfl hl (by decide) rfl (fun ls hl => ?_)
    refine lv_aload_n hx hb dX12_again_17 rfl (lv_at hl 1 rfl) ?_
    refine lv_iconst (v := 1) hx hb dX12_again_18 (by decide) ?_
    obtain ⟨σ5, eσ5, hF⟩ := nm_1 hF
    refine put_12_18 rfl C hP hS (lr_54 hL) (lk_54 hL) inlX12 mw_658 eσ5 dX12_again_19 (fun H locs hP hS => ?_)
    refine lv_iconst (v := 1) hx hb dX12_again_22 (by decide) ?_
    refine lv_istore_n (lv' := [(3, .int (1 : Int32)), (2, .int (-5 : Int32)), (0, .ref (ad 54)), (1, .int a1)]) hx hb dX12_again_23 rfl hl (by decide) rfl (fun ls hl => ?_)
    exact w_X12_again_24 C 1024 _ _ _ _ _ _ _ _ hρ0 hL hF hP hS (lv_sub hl [2, 3, 1, 0] rfl)
  · have hF := ite_t hF c_2
    refine lv_iconst (v := -1) hx hb dX12_again_8 (by decide) ?_
    obtain ⟨rfl, rfl⟩ := ret_2 hF
    subst hρ0
    exact x_iret rfl C hP hS dX12_again_9
set_option maxHeartbeats 4000000 in
set_option maxRecDepth 100000 in
theorem c_X12_again {a1 : Int32} {r : Int32} {σ1 : SG} {σ : SG} {ρ : RG} (hL : Lay N K len ρ) (hF : F_X12_again a1 σ ρ = some (r, σ1)) : MT l Y D N ad K len yX12_again (Cond.code yX12_again cX12_again 4 (some .int) :: wsL_law) rm_X12_again [.ref (ad 54), .int a1] σ ρ (some (.int r)) σ1 ρ := by
  refine mt_of (cc := cX12_again) (nL := 4) (ret := (some .int)) (by decide) (Nat.le_of_ble_eq_true rfl) ?_
  intro p e s m args below meth c ls C hnm hP hS hl
  exact w_X12_again_0 C rfl hL hF hP hS hl

/-! CutCrookedModel.public int evener(int, int);  -/
theorem dX12_evener_0 : decode cX12_evener 0 = .ok (.iload_n 2, 1) := by decide +kernel
theorem dX12_evener_1 : decode cX12_evener 1 = .ok (.iconst 0, 1) := by decide +kernel
theorem dX12_evener_2 : decode cX12_evener 2 = .ok (.iconst 1, 1) := by decide +kernel
theorem dX12_evener_3 : decode cX12_evener 3 = .ok (.invokestatic 47, 3) := by decide +kernel
theorem dX12_evener_6 : decode cX12_evener 6 = .ok (.ifCond .ne 5, 3) := by decide +kernel
theorem dX12_evener_9 : decode cX12_evener 9 = .ok (.iconst (-1), 1) := by decide +kernel
theorem dX12_evener_10 : decode cX12_evener 10 = .ok (.ireturn, 1) := by decide +kernel
theorem dX12_evener_11 : decode cX12_evener 11 = .ok (.iload_n 1, 1) := by decide +kernel
theorem dX12_evener_12 : decode cX12_evener 12 = .ok (.iconst 0, 1) := by decide +kernel
theorem dX12_evener_13 : decode cX12_evener 13 = .ok (.bipush 40, 2) := by decide +kernel
theorem dX12_evener_15 : decode cX12_evener 15 = .ok (.invokestatic 47, 3) := by decide +kernel
theorem dX12_evener_18 : decode cX12_evener 18 = .ok (.ifCond .ne 6, 3) := by decide +kernel
theorem dX12_evener_21 : decode cX12_evener 21 = .ok (.bipush (-2), 2) := by decide +kernel
theorem dX12_evener_23 : decode cX12_evener 23 = .ok (.ireturn, 1) := by decide +kernel
theorem dX12_evener_24 : decode cX12_evener 24 = .ok (.aload_n 0, 1) := by decide +kernel
theorem dX12_evener_25 : decode cX12_evener 25 = .ok (.getfield 9, 3) := by decide +kernel
theorem dX12_evener_28 : decode cX12_evener 28 = .ok (.bipush 11, 2) := by decide +kernel
theorem dX12_evener_30 : decode cX12_evener 30 = .ok (.iaload, 1) := by decide +kernel
theorem dX12_evener_31 : decode cX12_evener 31 = .ok (.ifCond .ne 6, 3) := by decide +kernel
theorem dX12_evener_34 : decode cX12_evener 34 = .ok (.bipush (-5), 2) := by decide +kernel
theorem dX12_evener_36 : decode cX12_evener 36 = .ok (.ireturn, 1) := by decide +kernel
theorem dX12_evener_37 : decode cX12_evener 37 = .ok (.aload_n 0, 1) := by decide +kernel
theorem dX12_evener_38 : decode cX12_evener 38 = .ok (.invokevirtual 191, 3) := by decide +kernel
theorem dX12_evener_41 : decode cX12_evener 41 = .ok (.aload_n 0, 1) := by decide +kernel
theorem dX12_evener_42 : decode cX12_evener 42 = .ok (.iload_n 1, 1) := by decide +kernel
theorem dX12_evener_43 : decode cX12_evener 43 = .ok (.iconst 0, 1) := by decide +kernel
theorem dX12_evener_44 : decode cX12_evener 44 = .ok (.iconst (-1), 1) := by decide +kernel
theorem dX12_evener_45 : decode cX12_evener 45 = .ok (.invokevirtual 210, 3) := by decide +kernel
theorem dX12_evener_48 : decode cX12_evener 48 = .ok (.iconst 0, 1) := by decide +kernel
theorem dX12_evener_49 : decode cX12_evener 49 = .ok (.istore_n 3, 1) := by decide +kernel
theorem dX12_evener_50 : decode cX12_evener 50 = .ok (.aload_n 0, 1) := by decide +kernel
theorem dX12_evener_51 : decode cX12_evener 51 = .ok (.getfield 9, 3) := by decide +kernel
theorem dX12_evener_54 : decode cX12_evener 54 = .ok (.iconst 5, 1) := by decide +kernel
theorem dX12_evener_55 : decode cX12_evener 55 = .ok (.iaload, 1) := by decide +kernel
theorem dX12_evener_56 : decode cX12_evener 56 = .ok (.istore 4, 2) := by decide +kernel
theorem dX12_evener_58 : decode cX12_evener 58 = .ok (.iconst 1, 1) := by decide +kernel
theorem dX12_evener_59 : decode cX12_evener 59 = .ok (.istore 5, 2) := by decide +kernel
theorem dX12_evener_61 : decode cX12_evener 61 = .ok (.iload 5, 2) := by decide +kernel
theorem dX12_evener_63 : decode cX12_evener 63 = .ok (.aload_n 0, 1) := by decide +kernel
theorem dX12_evener_64 : decode cX12_evener 64 = .ok (.getfield 9, 3) := by decide +kernel
theorem dX12_evener_67 : decode cX12_evener 67 = .ok (.bipush 11, 2) := by decide +kernel
theorem dX12_evener_69 : decode cX12_evener 69 = .ok (.iaload, 1) := by decide +kernel
theorem dX12_evener_70 : decode cX12_evener 70 = .ok (.if_icmp .ge 66, 3) := by decide +kernel
theorem dX12_evener_73 : decode cX12_evener 73 = .ok (.aload_n 0, 1) := by decide +kernel
theorem dX12_evener_74 : decode cX12_evener 74 = .ok (.getfield 9, 3) := by decide +kernel
theorem dX12_evener_77 : decode cX12_evener 77 = .ok (.iconst 5, 1) := by decide +kernel
theorem dX12_evener_78 : decode cX12_evener 78 = .ok (.iload 5, 2) := by decide +kernel
theorem dX12_evener_80 : decode cX12_evener 80 = .ok (.iadd, 1) := by decide +kernel
theorem dX12_evener_81 : decode cX12_evener 81 = .ok (.iaload, 1) := by decide +kernel
theorem dX12_evener_82 : decode cX12_evener 82 = .ok (.aload_n 0, 1) := by decide +kernel
theorem dX12_evener_83 : decode cX12_evener 83 = .ok (.getfield 9, 3) := by decide +kernel
theorem dX12_evener_86 : decode cX12_evener 86 = .ok (.iconst 5, 1) := by decide +kernel
theorem dX12_evener_87 : decode cX12_evener 87 = .ok (.iload_n 3, 1) := by decide +kernel
theorem dX12_evener_88 : decode cX12_evener 88 = .ok (.iadd, 1) := by decide +kernel
theorem dX12_evener_89 : decode cX12_evener 89 = .ok (.iaload, 1) := by decide +kernel
theorem dX12_evener_90 : decode cX12_evener 90 = .ok (.if_icmp .le 8, 3) := by decide +kernel
theorem dX12_evener_93 : decode cX12_evener 93 = .ok (.iload 5, 2) := by decide +kernel
theorem dX12_evener_95 : decode cX12_evener 95 = .ok (.goto 4, 3) := by decide +kernel
theorem dX12_evener_98 : decode cX12_evener 98 = .ok (.iload_n 3, 1) := by decide +kernel
theorem dX12_evener_99 : decode cX12_evener 99 = .ok (.istore_n 3, 1) := by decide +kernel
theorem dX12_evener_100 : decode cX12_evener 100 = .ok (.aload_n 0, 1) := by decide +kernel
theorem dX12_evener_101 : decode cX12_evener 101 = .ok (.getfield 9, 3) := by decide +kernel
theorem dX12_evener_104 : decode cX12_evener 104 = .ok (.iconst 5, 1) := by decide +kernel
theorem dX12_evener_105 : decode cX12_evener 105 = .ok (.iload 5, 2) := by decide +kernel
theorem dX12_evener_107 : decode cX12_evener 107 = .ok (.iadd, 1) := by decide +kernel
theorem dX12_evener_108 : decode cX12_evener 108 = .ok (.iaload, 1) := by decide +kernel
theorem dX12_evener_109 : decode cX12_evener 109 = .ok (.iload 4, 2) := by decide +kernel
theorem dX12_evener_111 : decode cX12_evener 111 = .ok (.if_icmp .ge 15, 3) := by decide +kernel
theorem dX12_evener_114 : decode cX12_evener 114 = .ok (.aload_n 0, 1) := by decide +kernel
theorem dX12_evener_115 : decode cX12_evener 115 = .ok (.getfield 9, 3) := by decide +kernel
theorem dX12_evener_118 : decode cX12_evener 118 = .ok (.iconst 5, 1) := by decide +kernel
theorem dX12_evener_119 : decode cX12_evener 119 = .ok (.iload 5, 2) := by decide +kernel
theorem dX12_evener_121 : decode cX12_evener 121 = .ok (.iadd, 1) := by decide +kernel
theorem dX12_evener_122 : decode cX12_evener 122 = .ok (.iaload, 1) := by decide +kernel
theorem dX12_evener_123 : decode cX12_evener 123 = .ok (.goto 5, 3) := by decide +kernel
theorem dX12_evener_126 : decode cX12_evener 126 = .ok (.iload 4, 2) := by decide +kernel
theorem dX12_evener_128 : decode cX12_evener 128 = .ok (.istore 4, 2) := by decide +kernel
theorem dX12_evener_130 : decode cX12_evener 130 = .ok (.iinc 5 1, 3) := by decide +kernel
theorem dX12_evener_133 : decode cX12_evener 133 = .ok (.goto (-72), 3) := by decide +kernel
theorem dX12_evener_136 : decode cX12_evener 136 = .ok (.aload_n 0, 1) := by decide +kernel
theorem dX12_evener_137 : decode cX12_evener 137 = .ok (.getfield 9, 3) := by decide +kernel
theorem dX12_evener_140 : decode cX12_evener 140 = .ok (.iconst 5, 1) := by decide +kernel
theorem dX12_evener_141 : decode cX12_evener 141 = .ok (.iload_n 3, 1) := by decide +kernel
theorem dX12_evener_142 : decode cX12_evener 142 = .ok (.iadd, 1) := by decide +kernel
theorem dX12_evener_143 : decode cX12_evener 143 = .ok (.iaload, 1) := by decide +kernel
theorem dX12_evener_144 : decode cX12_evener 144 = .ok (.iload 4, 2) := by decide +kernel
theorem dX12_evener_146 : decode cX12_evener 146 = .ok (.isub, 1) := by decide +kernel
theorem dX12_evener_147 : decode cX12_evener 147 = .ok (.istore 5, 2) := by decide +kernel
theorem dX12_evener_149 : decode cX12_evener 149 = .ok (.aload_n 0, 1) := by decide +kernel
theorem dX12_evener_150 : decode cX12_evener 150 = .ok (.invokevirtual 194, 3) := by decide +kernel
theorem dX12_evener_153 : decode cX12_evener 153 = .ok (.iload_n 2, 1) := by decide +kernel
theorem dX12_evener_154 : decode cX12_evener 154 = .ok (.ifCond .ne 7, 3) := by decide +kernel
theorem dX12_evener_157 : decode cX12_evener 157 = .ok (.iload_n 3, 1) := by decide +kernel
theorem dX12_evener_158 : decode cX12_evener 158 = .ok (.goto 5, 3) := by decide +kernel
theorem dX12_evener_161 : decode cX12_evener 161 = .ok (.iload 5, 2) := by decide +kernel
theorem dX12_evener_163 : decode cX12_evener 163 = .ok (.ireturn, 1) := by decide +kernel
theorem hd_X12_evener : yX12_evener.cls = RX12 ∧ yX12_evener.cls ≠ "java/lang/invoke/MethodHandle" ∧ yX12_evener.cls ≠ "java/lang/invoke/VarHandle" ∧ (parseMethodDescriptor yX12_evener.desc).map (fun d => d.parameters.length) = some 2 := by decide +kernel
abbrev rm_X12_evener : Room := { frames := 5, cells := 0, slots := 0, locals := 118 }
def F_X12_evener_128 (a1 : Int32) (a2 : Int32) (rec_61 : SG → RG → Int32 → Int32 → Int32 → Int32 → Option (Int32 × SG)) (σ : SG) (ρ : RG) (v2 : Int32) (v3 : Int32) (v5 : Int32) (k0 : Int32) : Option (Int32 × SG) :=
  nm (v5 + (1 : Int32)) fun x22 =>
  rec_61 σ ρ v2 v3 k0 x22
def F_X12_evener_99 (a1 : Int32) (a2 : Int32) (rec_61 : SG → RG → Int32 → Int32 → Int32 → Int32 → Option (Int32 × SG)) (σ : SG) (ρ : RG) (v2 : Int32) (v4 : Int32) (v5 : Int32) (k0 : Int32) : Option (Int32 × SG) :=
  nm ((5 : Int32) + v5) fun x19 =>
  gd (inb x19 909) <|
  if v4 ≤ (σ 55 (x19).toNatClampNeg) then
    F_X12_evener_128 a1 a2 rec_61 σ ρ v2 k0 v5 v4
  else
    nm ((5 : Int32) + v5) fun x23 =>
    gd (inb x23 909) <|
    F_X12_evener_128 a1 a2 rec_61 σ ρ v2 k0 v5 (σ 55 (x23).toNatClampNeg)
def F_X12_evener_61 (a1 : Int32) (a2 : Int32) : Nat → SG → RG → Int32 → Int32 → Int32 → Int32 → Option (Int32 × SG)
  | 0 => fun _ _ _ _ _ _ => none
  | n + 1 => fun σ ρ v2 v3 v4 v5 =>
  if (σ 55 11) ≤ v5 then
    nm ((5 : Int32) + v3) fun x9 =>
    gd (inb x9 909) <|
    nm ((σ 55 (x9).toNatClampNeg) - v4) fun x11 =>
    bn (F_X12_goesBack σ ρ) fun σ12 =>
    if v2 = 0 then
      some (v3, σ12)
    else
      some (x11, σ12)
  else
    nm ((5 : Int32) + v5) fun x14 =>
    gd (inb x14 909) <|
    nm ((5 : Int32) + v3) fun x16 =>
    gd (inb x16 909) <|
    if (σ 55 (x14).toNatClampNeg) ≤ (σ 55 (x16).toNatClampNeg) then
      F_X12_evener_99 a1 a2 (F_X12_evener_61 a1 a2 n) σ ρ v2 v4 v5 v3
    else
      F_X12_evener_99 a1 a2 (F_X12_evener_61 a1 a2 n) σ ρ v2 v4 v5 v5
def F_X12_evener (a1 : Int32) (a2 : Int32) (σ : SG) (ρ : RG) : Option (Int32 × SG) :=
  bn (F_X12_in a2 (0 : Int32) (1 : Int32) σ ρ) fun r1 =>
  if r1 = 0 then
    some ((-1 : Int32), σ)
  else
    bn (F_X12_in a1 (0 : Int32) (40 : Int32) σ ρ) fun r3 =>
    if r3 = 0 then
      some ((-2 : Int32), σ)
    else
      if (σ 55 11) = 0 then
        some ((-5 : Int32), σ)
      else
        bn (F_X12_keeps σ ρ) fun σ6 =>
        bn (F_X12_goesOn a1 (0 : Int32) (-1 : Int32) σ6 ρ) fun σ7 =>
        F_X12_evener_61 a1 a2 1024 σ7 ρ a2 (0 : Int32) (σ7 55 5) (1 : Int32)
set_option maxHeartbeats 4000000 in
set_option maxRecDepth 100000 in
theorem w_X12_evener_128 {a1 : Int32} {a2 : Int32} {rec_61 : SG → RG → Int32 → Int32 → Int32 → Int32 → Option (Int32 × SG)} {p : Program} {e : Env} {s : State} {m : MethodId} {args : Array Value} {below : List Frame} {meth : Method} {c : Code} {ρ0 : RG} {r : Int32} {σ1 : SG} (C : Cx Y D N ad p s m args meth c cX12_evener 6 (some .int) RX12 wsL_law) (hrec_61 : ∀ (σ : SG) (ρ : RG) (v2 : Int32) (v3 : Int32) (v4 : Int32) (v5 : Int32) (H : Heap) (locs : List Loc) (ls : Array Slot), ρ = ρ0 → Lay N K len ρ → rec_61 σ ρ v2 v3 v4 v5 = some (r, σ1) → WP Y D N ad K len σ ρ H → va_S (AA N ad s.heap.size) s.heap H locs → lv_has ls 6 [(0, .ref (ad 54)), (2, .int v2), (3, .int v3), (4, .int v4), (5, .int v5)] → W p l e rm_X12_evener s m args below meth c H locs 0 0 (MQ below (QW Y D N ad K len σ1 ρ0 (AA N ad s.heap.size) (some (.int r))) args s 0 0 (AA N ad s.heap.size)) (F0 m 61 ls [])) {σ : SG} {ρ : RG} {v2 : Int32} {v3 : Int32} {v5 : Int32} {k0 : Int32} {H : Heap} {locs : List Loc} {ls : Array Slot} (hρ0 : ρ = ρ0) (hL : Lay N K len ρ) (hF : F_X12_evener_128 a1 a2 rec_61 σ ρ v2 v3 v5 k0 = some (r, σ1)) (hP : WP Y D N ad K len σ ρ H) (hS : va_S (AA N ad s.heap.size) s.heap H locs) (hl : lv_has ls 6 [(0, .ref (ad 54)), (2, .int v2), (3, .int v3), (5, .int v5)]) : W p l e rm_X12_evener s m args below meth c H locs 0 0 (MQ below (QW Y D N ad K len σ1 ρ0 (AA N ad s.heap.size) (some (.int r))) args s 0 0 (AA N ad s.heap.size)) (F0 m 128 ls [.int k0]) := by
  have hx := C.1.1
  have hb := C.1.2.1
  unfold F_X12_evener_128 at hF
  refine lv_istore (lv' := [(4, .int k0), (0, .ref (ad 54)), (2, .int v2), (3, .int v3), (5, .int v5)]) hx hb dX12_evener_128 hl (by decide) rfl (fun ls hl => ?_)
  obtain ⟨x22, ex22, hF⟩ := nm_1 hF
  refine lv_iinc (v := x22) (lv' := [(5, .int x22), (4, .int k0), (0, .ref (ad 54)), (2, .int v2), (3, .int v3)]) hx hb dX12_evener_130 hl (k := 4) rfl (by rw [ex22]; first | rfl | decide) (by decide) rfl (fun ls hl => ?_)
  refine lv_goto (tgt := 61) hx hb dX12_evener_133 (by decide) ?_
  exact hrec_61 _ _ _ _ _ _ _ _ _ hρ0 hL hF hP hS (lv_sub hl [2, 3, 4, 1, 0] rfl)
set_option maxHeartbeats 4000000 in
set_option maxRecDepth 100000 in
theorem w_X12_evener_99 {a1 : Int32} {a2 : Int32} {rec_61 : SG → RG → Int32 → Int32 → Int32 → Int32 → Option (Int32 × SG)} {p : Program} {e : Env} {s : State} {m : MethodId} {args : Array Value} {below : List Frame} {meth : Method} {c : Code} {ρ0 : RG} {r : Int32} {σ1 : SG} (C : Cx Y D N ad p s m args meth c cX12_evener 6 (some .int) RX12 wsL_law) (hrec_61 : ∀ (σ : SG) (ρ : RG) (v2 : Int32) (v3 : Int32) (v4 : Int32) (v5 : Int32) (H : Heap) (locs : List Loc) (ls : Array Slot), ρ = ρ0 → Lay N K len ρ → rec_61 σ ρ v2 v3 v4 v5 = some (r, σ1) → WP Y D N ad K len σ ρ H → va_S (AA N ad s.heap.size) s.heap H locs → lv_has ls 6 [(0, .ref (ad 54)), (2, .int v2), (3, .int v3), (4, .int v4), (5, .int v5)] → W p l e rm_X12_evener s m args below meth c H locs 0 0 (MQ below (QW Y D N ad K len σ1 ρ0 (AA N ad s.heap.size) (some (.int r))) args s 0 0 (AA N ad s.heap.size)) (F0 m 61 ls [])) {σ : SG} {ρ : RG} {v2 : Int32} {v4 : Int32} {v5 : Int32} {k0 : Int32} {H : Heap} {locs : List Loc} {ls : Array Slot} (hρ0 : ρ = ρ0) (hL : Lay N K len ρ) (hF : F_X12_evener_99 a1 a2 rec_61 σ ρ v2 v4 v5 k0 = some (r, σ1)) (hP : WP Y D N ad K len σ ρ H) (hS : va_S (AA N ad s.heap.size) s.heap H locs) (hl : lv_has ls 6 [(0, .ref (ad 54)), (2, .int v2), (4, .int v4), (5, .int v5)]) : W p l e rm_X12_evener s m args below meth c H locs 0 0 (MQ below (QW Y D N ad K len σ1 ρ0 (AA N ad s.heap.size) (some (.int r))) args s 0 0 (AA N ad s.heap.size)) (F0 m 99 ls [.int k0]) := by
  have hx := C.1.1
  have hb := C.1.2.1
  unfold F_X12_evener_99 at hF
  refine lv_istore_n (lv' := [(3, .int k0), (0, .ref (ad 54)), (2, .int v2), (4, .int v4), (5, .int v5)]) hx hb dX12_evener_99 rfl hl (by decide) rfl (fun ls hl => ?_)
  refine lv_aload_n hx hb dX12_evener_100 rfl (lv_at hl 1 rfl) ?_
  refine get_12_1 C hP (lr_54 hL) (lk_54 hL) inlX12 mw_81 (lf_54_1 hL) dX12_evener_101 ?_
  refine lv_iconst (v := 5) hx hb dX12_evener_104 (by decide) ?_
  refine lv_iload hx hb dX12_evener_105 (lv_at hl 4 rfl) ?_
  refine lv_iadd hx hb dX12_evener_107 ?_
  obtain ⟨x19, ex19, hF⟩ := nm_1 hF
  refine x_top ex19 ?_
  obtain ⟨g20, hF⟩ := gd_1 hF
  refine x_iald C hP (lr_55 hL) (lk_55 hL) (ln_55 hL) g20 dX12_evener_108 ?_
  refine lv_iload hx hb dX12_evener_109 (lv_at hl 3 rfl) ?_
  refine lv_icmp_ge (tgt := 126) hx hb dX12_evener_111 (by decide) (fun c_21 => ?_) (fun c_21 => ?_) -- COND 21 by_cases c_21 : v4 ≤ (σ 55 (x19).toNatClampNeg)
  · have hF := ite_t hF c_21
    refine lv_iload hx hb dX12_evener_126 (lv_at hl 3 rfl) ?_
    exact w_X12_evener_128 C hrec_61 hρ0 hL hF hP hS (lv_sub hl [1, 2, 0, 4] rfl)
  · have hF := ite_f hF c_21
    refine lv_aload_n hx hb dX12_evener_114 rfl (lv_at hl 1 rfl) ?_
    refine get_12_1 C hP (lr_54 hL) (lk_54 hL) inlX12 mw_81 (lf_54_1 hL) dX12_evener_115 ?_
    refine lv_iconst (v := 5) hx hb dX12_evener_118 (by decide) ?_
    refine lv_iload hx hb dX12_evener_119 (lv_at hl 4 rfl) ?_
    refine lv_iadd hx hb dX12_evener_121 ?_
    obtain ⟨x23, ex23, hF⟩ := nm_1 hF
    refine x_top ex23 ?_
    obtain ⟨g24, hF⟩ := gd_1 hF
    refine x_iald C hP (lr_55 hL) (lk_55 hL) (ln_55 hL) g24 dX12_evener_122 ?_
    refine lv_goto (tgt := 128) hx hb dX12_evener_123 (by decide) ?_
    exact w_X12_evener_128 C hrec_61 hρ0 hL hF hP hS (lv_sub hl [1, 2, 0, 4] rfl)
set_option maxHeartbeats 4000000 in
set_option maxRecDepth 100000 in
theorem w_X12_evener_61 {a1 : Int32} {a2 : Int32} {p : Program} {e : Env} {s : State} {m : MethodId} {args : Array Value} {below : List Frame} {meth : Method} {c : Code} {ρ0 : RG} {r : Int32} {σ1 : SG} (C : Cx Y D N ad p s m args meth c cX12_evener 6 (some .int) RX12 wsL_law) : ∀ (n : Nat) (σ : SG) (ρ : RG) (v2 : Int32) (v3 : Int32) (v4 : Int32) (v5 : Int32) (H : Heap) (locs : List Loc) (ls : Array Slot), ρ = ρ0 → Lay N K len ρ → F_X12_evener_61 a1 a2 n σ ρ v2 v3 v4 v5 = some (r, σ1) → WP Y D N ad K len σ ρ H → va_S (AA N ad s.heap.size) s.heap H locs → lv_has ls 6 [(0, .ref (ad 54)), (2, .int v2), (3, .int v3), (4, .int v4), (5, .int v5)] → W p l e rm_X12_evener s m args below meth c H locs 0 0 (MQ below (QW Y D N ad K len σ1 ρ0 (AA N ad s.heap.size) (some (.int r))) args s 0 0 (AA N ad s.heap.size)) (F0 m 61 ls []) := by
  have hx := C.1.1
  have hb := C.1.2.1
  intro n
  induction n with
  | zero => intro σ ρ v2 v3 v4 v5 H locs ls hρ0 hL hF; cases hF
  | succ n ih =>
    intro σ ρ v2 v3 v4 v5 H locs ls hρ0 hL hF hP hS hl
    unfold F_X12_evener_61 at hF
    refine lv_iload hx hb dX12_evener_61 (lv_at hl 4 rfl) ?_
    refine lv_aload_n hx hb dX12_evener_63 rfl (lv_at hl 0 rfl) ?_
    refine get_12_1 C hP (lr_54 hL) (lk_54 hL) inlX12 mw_81 (lf_54_1 hL) dX12_evener_64 ?_
    refine lv_bipush (v := 11) hx hb dX12_evener_67 (by decide +kernel) ?_
    refine x_iald C hP (lr_55 hL) (lk_55 hL) (ln_55 hL) (by decide +kernel) dX12_evener_69 ?_
    rw [cl_11]
    refine lv_icmp_ge (tgt := 136) hx hb dX12_evener_70 (by decide) (fun c_8 => ?_) (fun c_8 => ?_) -- COND 8 by_cases c_8 : (σ 55 11) ≤ v5
    · have hF := ite_t hF c_8
      refine lv_aload_n hx hb dX12_evener_136 rfl (lv_at hl 0 rfl) ?_
      refine get_12_1 C hP (lr_54 hL) (lk_54 hL) inlX12 mw_81 (lf_54_1 hL) dX12_evener_137 ?_
      refine lv_iconst (v := 5) hx hb dX12_evener_140 (by decide) ?_
      refine lv_iload_n hx hb dX12_evener_141 rfl (lv_at hl 2 rfl) ?_
      refine lv_iadd hx hb dX12_evener_142 ?_
      obtain ⟨x9, ex9, hF⟩ := nm_1 hF
      refine x_top ex9 ?_
      obtain ⟨g10, hF⟩ := gd_1 hF
      refine x_iald C hP (lr_55 hL) (lk_55 hL) (ln_55 hL) g10 dX12_evener_143 ?_
      refine lv_iload hx hb dX12_evener_144 (lv_at hl 3 rfl) ?_
      refine lv_isub hx hb dX12_evener_146 ?_
      obtain ⟨x11, ex11, hF⟩ := nm_1 hF
      refine x_top ex11 ?_
      refine lv_istore (lv' := [(5, .int x11), (0, .ref (ad 54)), (2, .int v2), (3, .int v3), (4, .int v4)]) hx hb dX12_evener_147 hl (by decide) rfl (fun ls hl => ?_)
      refine lv_aload_n hx hb dX12_evener_149 rfl (lv_at hl 1 rfl) ?_
      obtain ⟨σ12, hq12, hF⟩ := bn_1 hF
      refine x_callV (ci := 12) rfl rfl C hP hS (c_X12_goesBack hL hq12) (lr_54 hL) (lk_54 hL) (cwV 0 C.1.2.2.2.2 (gdV mw_736 mw_737 mw_738 mw_5 mw_739) rfl rfl rfl hd_X12_goesBack ⟨Nat.le_of_ble_eq_true rfl, Nat.le_of_ble_eq_true rfl⟩) rfl rfl hl.1 (Nat.le_of_ble_eq_true rfl) ⟨Nat.zero_le _, Nat.zero_le _⟩ dX12_evener_150 (fun H locs hP hS => ?_)
      refine lv_iload_n hx hb dX12_evener_153 rfl (lv_at hl 2 rfl) ?_
      refine lv_if_ne (tgt := 161) hx hb dX12_evener_154 (by decide) (fun c_13 => ?_) (fun c_13 => ?_) -- COND 13 rcases (Decidable.em (v2 = 0)).symm with c_13 | c_13
      · have hF := ite_f hF c_13
        refine lv_iload hx hb dX12_evener_161 (lv_at hl 0 rfl) ?_
        obtain ⟨rfl, rfl⟩ := ret_2 hF
        subst hρ0
        exact x_iret rfl C hP hS dX12_evener_163
      · have hF := ite_t hF c_13
        refine lv_iload_n hx hb dX12_evener_157 rfl (lv_at hl 3 rfl) ?_
        refine lv_goto (tgt := 163) hx hb dX12_evener_158 (by decide) ?_
        obtain ⟨rfl, rfl⟩ := ret_2 hF
        subst hρ0
        exact x_iret rfl C hP hS dX12_evener_163
    · have hF := ite_f hF c_8
      refine lv_aload_n hx hb dX12_evener_73 rfl (lv_at hl 0 rfl) ?_
      refine get_12_1 C hP (lr_54 hL) (lk_54 hL) inlX12 mw_81 (lf_54_1 hL) dX12_evener_74 ?_
      refine lv_iconst (v := 5) hx hb dX12_evener_77 (by decide) ?_
      refine lv_iload hx hb dX12_evener_78 (lv_at hl 4 rfl) ?_
      refine lv_iadd hx hb dX12_evener_80 ?_
      obtain ⟨x14, ex14, hF⟩ := nm_1 hF
      refine x_top ex14 ?_
      obtain ⟨g15, hF⟩ := gd_1 hF
      refine x_iald C hP (lr_55 hL) (lk_55 hL) (ln_55 hL) g15 dX12_evener_81 ?_
      refine lv_aload_n hx hb dX12_evener_82 rfl (lv_at hl 0 rfl) ?_
      refine get_12_1 C hP (lr_54 hL) (lk_54 hL) inlX12 mw_81 (lf_54_1 hL) dX12_evener_83 ?_
      refine lv_iconst (v := 5) hx hb dX12_evener_86 (by decide) ?_
      refine lv_iload_n hx hb dX12_evener_87 rfl (lv_at hl 2 rfl) ?_
      refine lv_iadd hx hb dX12_evener_88 ?_
      obtain ⟨x16, ex16, hF⟩ := nm_1 hF
      refine x_top ex16 ?_
      obtain ⟨g17, hF⟩ := gd_1 hF
      refine x_iald C hP (lr_55 hL) (lk_55 hL) (ln_55 hL) g17 dX12_evener_89 ?_
      refine lv_icmp_le (tgt := 98) hx hb dX12_evener_90 (by decide) (fun c_18 => ?_) (fun c_18 => ?_) -- COND 18 by_cases c_18 : (σ 55 (x14).toNatClampNeg) ≤ (σ 55 (x16).toNatClampNeg)
      · have hF := ite_t hF c_18
        refine lv_iload_n hx hb dX12_evener_98 rfl (lv_at hl 2 rfl) ?_
        exact w_X12_evener_99 C ih hρ0 hL hF hP hS (lv_sub hl [0, 1, 3, 4] rfl)
      · have hF := ite_f hF c_18
        refine lv_iload hx hb dX12_evener_93 (lv_at hl 4 rfl) ?_
        refine lv_goto (tgt := 99) hx hb dX12_evener_95 (by decide) ?_
        exact w_X12_evener_99 C ih hρ0 hL hF hP hS (lv_sub hl [0, 1, 3, 4] rfl)
set_option maxHeartbeats 4000000 in
set_option maxRecDepth 100000 in
theorem w_X12_evener_0 {a1 : Int32} {a2 : Int32} {p : Program} {e : Env} {s : State} {m : MethodId} {args : Array Value} {below : List Frame} {meth : Method} {c : Code} {ρ0 : RG} {r : Int32} {σ1 : SG} (C : Cx Y D N ad p s m args meth c cX12_evener 6 (some .int) RX12 wsL_law) {σ : SG} {ρ : RG} {H : Heap} {locs : List Loc} {ls : Array Slot} (hρ0 : ρ = ρ0) (hL : Lay N K len ρ) (hF : F_X12_evener a1 a2 σ ρ = some (r, σ1)) (hP : WP Y D N ad K len σ ρ H) (hS : va_S (AA N ad s.heap.size) s.heap H locs) (hl : lv_has ls 6 [(0, .ref (ad 54)), (1, .int a1), (2, .int a2)]) : W p l e rm_X12_evener s m args below meth c H locs 0 0 (MQ below (QW Y D N ad K len σ1 ρ0 (AA N ad s.heap.size) (some (.int r))) args s 0 0 (AA N ad s.heap.size)) (F0 m 0 ls []) := by
  have hx := C.1.1
  have hb := C.1.2.1
  unfold F_X12_evener at hF
  refine lv_iload_n hx hb dX12_evener_0 rfl (lv_at hl 2 rfl) ?_
  refine lv_iconst (v := 0) hx hb dX12_evener_1 (by decide) ?_
  refine lv_iconst (v := 1) hx hb dX12_evener_2 (by decide) ?_
  obtain ⟨r1, hq1, hF⟩ := bn_1 hF
  refine x_callS C hP hS (c_X12_in hL hq1) (va_cwS 3 C.1.2.2.2.2 (gdS mw_104 mw_105 mw_5 mw_106) rfl rfl rfl hd_X12_in.2 ⟨Nat.le_of_ble_eq_true rfl, Nat.le_of_ble_eq_true rfl⟩) rfl rfl hl.1 (Nat.le_of_ble_eq_true rfl) ⟨Nat.zero_le _, Nat.zero_le _⟩ dX12_evener_3 (fun H locs hP hS => ?_)
  refine lv_if_ne (tgt := 11) hx hb dX12_evener_6 (by decide) (fun c_2 => ?_) (fun c_2 => ?_) -- COND 2 rcases (Decidable.em (r1 = 0)).symm with c_2 | c_2
  · have hF := ite_f hF c_2
    refine lv_iload_n hx hb dX12_evener_11 rfl (lv_at hl 1 rfl) ?_
    refine lv_iconst (v := 0) hx hb dX12_evener_12 (by decide) ?_
    refine lv_bipush (v := 40) hx hb dX12_evener_13 (by decide +kernel) ?_
    obtain ⟨r3, hq3, hF⟩ := bn_1 hF
    refine x_callS C hP hS (c_X12_in hL hq3) (va_cwS 3 C.1.2.2.2.2 (gdS mw_104 mw_105 mw_5 mw_106) rfl rfl rfl hd_X12_in.2 ⟨Nat.le_of_ble_eq_true rfl, Nat.le_of_ble_eq_true rfl⟩) rfl rfl hl.1 (Nat.le_of_ble_eq_true rfl) ⟨Nat.zero_le _, Nat.zero_le _⟩ dX12_evener_15 (fun H locs hP hS => ?_)
    refine lv_if_ne (tgt := 24) hx hb dX12_evener_18 (by decide) (fun c_4 => ?_) (fun c_4 => ?_) -- COND 4 rcases (Decidable.em (r3 = 0)).symm with c_4 | c_4
    · have hF := ite_f hF c_4
      refine lv_aload_n hx hb dX12_evener_24 rfl (lv_at hl 0 rfl) ?_
      refine get_12_1 C hP (lr_54 hL) (lk_54 hL) inlX12 mw_81 (lf_54_1 hL) dX12_evener_25 ?_
      refine lv_bipush (v := 11) hx hb dX12_evener_28 (by decide +kernel) ?_
      refine x_iald C hP (lr_55 hL) (lk_55 hL) (ln_55 hL) (by decide +kernel) dX12_evener_30 ?_
      rw [cl_11]
      refine lv_if_ne (tgt := 37) hx hb dX12_evener_31 (by decide) (fun c_5 => ?_) (fun c_5 => ?_) -- COND 5 rcases (Decidable.em ((σ 55 11) = 0)).symm with c_5 | c_5
      · have hF := ite_f hF c_5
        refine lv_aload_n hx hb dX12_evener_37 rfl (lv_at hl 0 rfl) ?_
        obtain ⟨σ6, hq6, hF⟩ := bn_1 hF
        refine x_callV (ci := 12) rfl rfl C hP hS (c_X12_keeps hL hq6) (lr_54 hL) (lk_54 hL) (cwV 0 C.1.2.2.2.2 (gdV mw_732 mw_733 mw_734 mw_5 mw_735) rfl rfl rfl hd_X12_keeps ⟨Nat.le_of_ble_eq_true rfl, Nat.le_of_ble_eq_true rfl⟩) rfl rfl hl.1 (Nat.le_of_ble_eq_true rfl) ⟨Nat.zero_le _, Nat.zero_le _⟩ dX12_evener_38 (fun H locs hP hS => ?_)
        refine lv_aload_n hx hb dX12_evener_41 rfl (lv_at hl 0 rfl) ?_
        refine lv_iload_n hx hb dX12_evener_42 rfl (lv_at hl 1 rfl) ?_
        refine lv_iconst (v := 0) hx hb dX12_evener_43 (by decide) ?_
        refine lv_iconst (v := -1) hx hb dX12_evener_44 (by decide) ?_
        obtain ⟨σ7, hq7, hF⟩ := bn_1 hF
        refine x_callV (ci := 12) rfl rfl C hP hS (c_X12_goesOn hL hq7) (lr_54 hL) (lk_54 hL) (cwV 3 C.1.2.2.2.2 (gdV mw_757 mw_758 mw_759 mw_5 mw_760) rfl rfl rfl hd_X12_goesOn ⟨Nat.le_of_ble_eq_true rfl, Nat.le_of_ble_eq_true rfl⟩) rfl rfl hl.1 (Nat.le_of_ble_eq_true rfl) ⟨Nat.zero_le _, Nat.zero_le _⟩ dX12_evener_45 (fun H locs hP hS => ?_)
        refine lv_iconst (v := 0) hx hb dX12_evener_48 (by decide) ?_
        refine lv_istore_n (lv' := [(3, .int (0 : Int32)), (0, .ref (ad 54)), (1, .int a1), (2, .int a2)]) hx hb dX12_evener_49 rfl hl (by decide) rfl (fun ls hl => ?_)
        refine lv_aload_n hx hb dX12_evener_50 rfl (lv_at hl 1 rfl) ?_
        refine get_12_1 C hP (lr_54 hL) (lk_54 hL) inlX12 mw_81 (lf_54_1 hL) dX12_evener_51 ?_
        refine lv_iconst (v := 5) hx hb dX12_evener_54 (by decide) ?_
        refine x_iald C hP (lr_55 hL) (lk_55 hL) (ln_55 hL) (by decide +kernel) dX12_evener_55 ?_
        rw [cl_5]
        refine lv_istore (lv' := [(4, .int (σ7 55 5)), (3, .int (0 : Int32)), (0, .ref (ad 54)), (1, .int a1), (2, .int a2)]) hx hb dX12_evener_56 hl (by decide) rfl (fun ls hl => ?_)
        refine lv_iconst (v := 1) hx hb dX12_evener_58 (by decide) ?_
        refine lv_istore (lv' := [(5, .int (1 : Int32)), (4, .int (σ7 55 5)), (3, .int (0 : Int32)), (0, .ref (ad 54)), (1, .int a1), (2, .int a2)]) hx hb dX12_evener_59 hl (by decide) rfl (fun ls hl => ?_)
        exact w_X12_evener_61 C 1024 _ _ _ _ _ _ _ _ _ hρ0 hL hF hP hS (lv_sub hl [3, 5, 2, 1, 0] rfl)
      · have hF := ite_t hF c_5
        refine lv_bipush (v := -5) hx hb dX12_evener_34 (by decide +kernel) ?_
        obtain ⟨rfl, rfl⟩ := ret_2 hF
        subst hρ0
        exact x_iret rfl C hP hS dX12_evener_36
    · have hF := ite_t hF c_4
      refine lv_bipush (v := -2) hx hb dX12_evener_21 (by decide +kernel) ?_
      obtain ⟨rfl, rfl⟩ := ret_2 hF
      subst hρ0
      exact x_iret rfl C hP hS dX12_evener_23
  · have hF := ite_t hF c_2
    refine lv_iconst (v := -1) hx hb dX12_evener_9 (by decide) ?_
    obtain ⟨rfl, rfl⟩ := ret_2 hF
    subst hρ0
    exact x_iret rfl C hP hS dX12_evener_10
set_option maxHeartbeats 4000000 in
set_option maxRecDepth 100000 in
theorem c_X12_evener {a1 : Int32} {a2 : Int32} {r : Int32} {σ1 : SG} {σ : SG} {ρ : RG} (hL : Lay N K len ρ) (hF : F_X12_evener a1 a2 σ ρ = some (r, σ1)) : MT l Y D N ad K len yX12_evener (Cond.code yX12_evener cX12_evener 6 (some .int) :: wsL_law) rm_X12_evener [.ref (ad 54), .int a1, .int a2] σ ρ (some (.int r)) σ1 ρ := by
  refine mt_of (cc := cX12_evener) (nL := 6) (ret := (some .int)) (by decide) (Nat.le_of_ble_eq_true rfl) ?_
  intro p e s m args below meth c ls C hnm hP hS hl
  exact w_X12_evener_0 C rfl hL hF hP hS hl

/-! CutCrookedModel.public int cheese(int, int);  -/
theorem dX12_cheese_0 : decode cX12_cheese 0 = .ok (.iload_n 2, 1) := by decide +kernel
theorem dX12_cheese_1 : decode cX12_cheese 1 = .ok (.iconst 0, 1) := by decide +kernel
theorem dX12_cheese_2 : decode cX12_cheese 2 = .ok (.iconst 1, 1) := by decide +kernel
theorem dX12_cheese_3 : decode cX12_cheese 3 = .ok (.invokestatic 47, 3) := by decide +kernel
theorem dX12_cheese_6 : decode cX12_cheese 6 = .ok (.ifCond .ne 16, 3) := by decide +kernel
theorem dX12_cheese_9 : decode cX12_cheese 9 = .ok (.aload_n 0, 1) := by decide +kernel
theorem dX12_cheese_10 : decode cX12_cheese 10 = .ok (.iload_n 2, 1) := by decide +kernel
theorem dX12_cheese_11 : decode cX12_cheese 11 = .ok (.bipush 10, 2) := by decide +kernel
theorem dX12_cheese_13 : decode cX12_cheese 13 = .ok (.isub, 1) := by decide +kernel
theorem dX12_cheese_14 : decode cX12_cheese 14 = .ok (.invokevirtual 143, 3) := by decide +kernel
theorem dX12_cheese_17 : decode cX12_cheese 17 = .ok (.ifCond .ne 5, 3) := by decide +kernel
theorem dX12_cheese_20 : decode cX12_cheese 20 = .ok (.iconst (-1), 1) := by decide +kernel
theorem dX12_cheese_21 : decode cX12_cheese 21 = .ok (.ireturn, 1) := by decide +kernel
theorem dX12_cheese_22 : decode cX12_cheese 22 = .ok (.iload_n 1, 1) := by decide +kernel
theorem dX12_cheese_23 : decode cX12_cheese 23 = .ok (.bipush 12, 2) := by decide +kernel
theorem dX12_cheese_25 : decode cX12_cheese 25 = .ok (.sipush 360, 3) := by decide +kernel
theorem dX12_cheese_28 : decode cX12_cheese 28 = .ok (.invokestatic 47, 3) := by decide +kernel
theorem dX12_cheese_31 : decode cX12_cheese 31 = .ok (.ifCond .ne 6, 3) := by decide +kernel
theorem dX12_cheese_34 : decode cX12_cheese 34 = .ok (.bipush (-2), 2) := by decide +kernel
theorem dX12_cheese_36 : decode cX12_cheese 36 = .ok (.ireturn, 1) := by decide +kernel
theorem dX12_cheese_37 : decode cX12_cheese 37 = .ok (.iconst 0, 1) := by decide +kernel
theorem dX12_cheese_38 : decode cX12_cheese 38 = .ok (.istore_n 3, 1) := by decide +kernel
theorem dX12_cheese_39 : decode cX12_cheese 39 = .ok (.iload_n 3, 1) := by decide +kernel
theorem dX12_cheese_40 : decode cX12_cheese 40 = .ok (.bipush 6, 2) := by decide +kernel
theorem dX12_cheese_42 : decode cX12_cheese 42 = .ok (.if_icmp .ge 16, 3) := by decide +kernel
theorem dX12_cheese_45 : decode cX12_cheese 45 = .ok (.aload_n 0, 1) := by decide +kernel
theorem dX12_cheese_46 : decode cX12_cheese 46 = .ok (.getfield 37, 3) := by decide +kernel
theorem dX12_cheese_49 : decode cX12_cheese 49 = .ok (.iload_n 3, 1) := by decide +kernel
theorem dX12_cheese_50 : decode cX12_cheese 50 = .ok (.iconst 0, 1) := by decide +kernel
theorem dX12_cheese_51 : decode cX12_cheese 51 = .ok (.iastore, 1) := by decide +kernel
theorem dX12_cheese_52 : decode cX12_cheese 52 = .ok (.iinc 3 1, 3) := by decide +kernel
theorem dX12_cheese_55 : decode cX12_cheese 55 = .ok (.goto (-16), 3) := by decide +kernel
theorem dX12_cheese_58 : decode cX12_cheese 58 = .ok (.iload_n 1, 1) := by decide +kernel
theorem dX12_cheese_59 : decode cX12_cheese 59 = .ok (.istore_n 3, 1) := by decide +kernel
theorem dX12_cheese_60 : decode cX12_cheese 60 = .ok (.iconst 0, 1) := by decide +kernel
theorem dX12_cheese_61 : decode cX12_cheese 61 = .ok (.istore 4, 2) := by decide +kernel
theorem dX12_cheese_63 : decode cX12_cheese 63 = .ok (.aload_n 0, 1) := by decide +kernel
theorem dX12_cheese_64 : decode cX12_cheese 64 = .ok (.getfield 9, 3) := by decide +kernel
theorem dX12_cheese_67 : decode cX12_cheese 67 = .ok (.bipush 11, 2) := by decide +kernel
theorem dX12_cheese_69 : decode cX12_cheese 69 = .ok (.iaload, 1) := by decide +kernel
theorem dX12_cheese_70 : decode cX12_cheese 70 = .ok (.ifCond .le 76, 3) := by decide +kernel
theorem dX12_cheese_73 : decode cX12_cheese 73 = .ok (.aload_n 0, 1) := by decide +kernel
theorem dX12_cheese_74 : decode cX12_cheese 74 = .ok (.getfield 9, 3) := by decide +kernel
theorem dX12_cheese_77 : decode cX12_cheese 77 = .ok (.bipush 44, 2) := by decide +kernel
theorem dX12_cheese_79 : decode cX12_cheese 79 = .ok (.iload 4, 2) := by decide +kernel
theorem dX12_cheese_81 : decode cX12_cheese 81 = .ok (.aload_n 0, 1) := by decide +kernel
theorem dX12_cheese_82 : decode cX12_cheese 82 = .ok (.getfield 9, 3) := by decide +kernel
theorem dX12_cheese_85 : decode cX12_cheese 85 = .ok (.bipush 11, 2) := by decide +kernel
theorem dX12_cheese_87 : decode cX12_cheese 87 = .ok (.iaload, 1) := by decide +kernel
theorem dX12_cheese_88 : decode cX12_cheese 88 = .ok (.irem, 1) := by decide +kernel
theorem dX12_cheese_89 : decode cX12_cheese 89 = .ok (.iadd, 1) := by decide +kernel
theorem dX12_cheese_90 : decode cX12_cheese 90 = .ok (.iaload, 1) := by decide +kernel
theorem dX12_cheese_91 : decode cX12_cheese 91 = .ok (.iload_n 3, 1) := by decide +kernel
theorem dX12_cheese_92 : decode cX12_cheese 92 = .ok (.if_icmp .gt 54, 3) := by decide +kernel
theorem dX12_cheese_95 : decode cX12_cheese 95 = .ok (.iload 4, 2) := by decide +kernel
theorem dX12_cheese_97 : decode cX12_cheese 97 = .ok (.aload_n 0, 1) := by decide +kernel
theorem dX12_cheese_98 : decode cX12_cheese 98 = .ok (.getfield 9, 3) := by decide +kernel
theorem dX12_cheese_101 : decode cX12_cheese 101 = .ok (.bipush 11, 2) := by decide +kernel
theorem dX12_cheese_103 : decode cX12_cheese 103 = .ok (.iaload, 1) := by decide +kernel
theorem dX12_cheese_104 : decode cX12_cheese 104 = .ok (.irem, 1) := by decide +kernel
theorem dX12_cheese_105 : decode cX12_cheese 105 = .ok (.istore 5, 2) := by decide +kernel
theorem dX12_cheese_107 : decode cX12_cheese 107 = .ok (.aload_n 0, 1) := by decide +kernel
theorem dX12_cheese_108 : decode cX12_cheese 108 = .ok (.getfield 37, 3) := by decide +kernel
theorem dX12_cheese_111 : decode cX12_cheese 111 = .ok (.iload 5, 2) := by decide +kernel
theorem dX12_cheese_113 : decode cX12_cheese 113 = .ok (.dup2, 1) := by decide +kernel
theorem dX12_cheese_114 : decode cX12_cheese 114 = .ok (.iaload, 1) := by decide +kernel
theorem dX12_cheese_115 : decode cX12_cheese 115 = .ok (.aload_n 0, 1) := by decide +kernel
theorem dX12_cheese_116 : decode cX12_cheese 116 = .ok (.getfield 9, 3) := by decide +kernel
theorem dX12_cheese_119 : decode cX12_cheese 119 = .ok (.bipush 44, 2) := by decide +kernel
theorem dX12_cheese_121 : decode cX12_cheese 121 = .ok (.iload 5, 2) := by decide +kernel
theorem dX12_cheese_123 : decode cX12_cheese 123 = .ok (.iadd, 1) := by decide +kernel
theorem dX12_cheese_124 : decode cX12_cheese 124 = .ok (.iaload, 1) := by decide +kernel
theorem dX12_cheese_125 : decode cX12_cheese 125 = .ok (.iadd, 1) := by decide +kernel
theorem dX12_cheese_126 : decode cX12_cheese 126 = .ok (.iastore, 1) := by decide +kernel
theorem dX12_cheese_127 : decode cX12_cheese 127 = .ok (.iload_n 3, 1) := by decide +kernel
theorem dX12_cheese_128 : decode cX12_cheese 128 = .ok (.aload_n 0, 1) := by decide +kernel
theorem dX12_cheese_129 : decode cX12_cheese 129 = .ok (.getfield 9, 3) := by decide +kernel
theorem dX12_cheese_132 : decode cX12_cheese 132 = .ok (.bipush 44, 2) := by decide +kernel
theorem dX12_cheese_134 : decode cX12_cheese 134 = .ok (.iload 5, 2) := by decide +kernel
theorem dX12_cheese_136 : decode cX12_cheese 136 = .ok (.iadd, 1) := by decide +kernel
theorem dX12_cheese_137 : decode cX12_cheese 137 = .ok (.iaload, 1) := by decide +kernel
theorem dX12_cheese_138 : decode cX12_cheese 138 = .ok (.isub, 1) := by decide +kernel
theorem dX12_cheese_139 : decode cX12_cheese 139 = .ok (.istore_n 3, 1) := by decide +kernel
theorem dX12_cheese_140 : decode cX12_cheese 140 = .ok (.iinc 4 1, 3) := by decide +kernel
theorem dX12_cheese_143 : decode cX12_cheese 143 = .ok (.goto (-80), 3) := by decide +kernel
theorem dX12_cheese_146 : decode cX12_cheese 146 = .ok (.iload_n 2, 1) := by decide +kernel
theorem dX12_cheese_147 : decode cX12_cheese 147 = .ok (.ifCond .ne 8, 3) := by decide +kernel
theorem dX12_cheese_150 : decode cX12_cheese 150 = .ok (.iload 4, 2) := by decide +kernel
theorem dX12_cheese_152 : decode cX12_cheese 152 = .ok (.goto 21, 3) := by decide +kernel
theorem dX12_cheese_155 : decode cX12_cheese 155 = .ok (.iload_n 2, 1) := by decide +kernel
theorem dX12_cheese_156 : decode cX12_cheese 156 = .ok (.iconst 1, 1) := by decide +kernel
theorem dX12_cheese_157 : decode cX12_cheese 157 = .ok (.if_icmp .ne 7, 3) := by decide +kernel
theorem dX12_cheese_160 : decode cX12_cheese 160 = .ok (.iload_n 3, 1) := by decide +kernel
theorem dX12_cheese_161 : decode cX12_cheese 161 = .ok (.goto 12, 3) := by decide +kernel
theorem dX12_cheese_164 : decode cX12_cheese 164 = .ok (.aload_n 0, 1) := by decide +kernel
theorem dX12_cheese_165 : decode cX12_cheese 165 = .ok (.getfield 37, 3) := by decide +kernel
theorem dX12_cheese_168 : decode cX12_cheese 168 = .ok (.iload_n 2, 1) := by decide +kernel
theorem dX12_cheese_169 : decode cX12_cheese 169 = .ok (.bipush 10, 2) := by decide +kernel
theorem dX12_cheese_171 : decode cX12_cheese 171 = .ok (.isub, 1) := by decide +kernel
theorem dX12_cheese_172 : decode cX12_cheese 172 = .ok (.iaload, 1) := by decide +kernel
theorem dX12_cheese_173 : decode cX12_cheese 173 = .ok (.ireturn, 1) := by decide +kernel
theorem hd_X12_cheese : yX12_cheese.cls = RX12 ∧ yX12_cheese.cls ≠ "java/lang/invoke/MethodHandle" ∧ yX12_cheese.cls ≠ "java/lang/invoke/VarHandle" ∧ (parseMethodDescriptor yX12_cheese.desc).map (fun d => d.parameters.length) = some 2 := by decide +kernel
abbrev rm_X12_cheese : Room := { frames := 2, cells := 0, slots := 0, locals := 43 }
def F_X12_cheese_146 (a1 : Int32) (a2 : Int32) (σ : SG) (ρ : RG) (v2 : Int32) (v3 : Int32) (v4 : Int32) : Option (Int32 × SG) :=
  if v2 = 0 then
    some (v4, σ)
  else
    if v2 = (1 : Int32) then
      some (v3, σ)
    else
      nm (v2 - (10 : Int32)) fun x9 =>
      gd (inb x9 6) <|
      some ((σ 63 (x9).toNatClampNeg), σ)
def F_X12_cheese_63 (a1 : Int32) (a2 : Int32) : Nat → SG → RG → Int32 → Int32 → Int32 → Option (Int32 × SG)
  | 0 => fun _ _ _ _ _ => none
  | n + 1 => fun σ ρ v2 v3 v4 =>
  if (σ 55 11) ≤ 0 then
    F_X12_cheese_146 a1 a2 σ ρ v2 v3 v4
  else
    gd (decide (¬ (σ 55 11) = 0)) <|
    nm (v4 - v4 / (σ 55 11) * (σ 55 11)) fun x12 =>
    nm ((44 : Int32) + x12) fun x13 =>
    gd (inb x13 909) <|
    if v3 < (σ 55 (x13).toNatClampNeg) then
      F_X12_cheese_146 a1 a2 σ ρ v2 v3 v4
    else
      gd (decide (¬ (σ 55 11) = 0)) <|
      nm (v4 - v4 / (σ 55 11) * (σ 55 11)) fun x17 =>
      gd (inb x17 6) <|
      nm ((44 : Int32) + x17) fun x19 =>
      gd (inb x19 909) <|
      nm ((σ 63 (x17).toNatClampNeg) + (σ 55 (x19).toNatClampNeg)) fun x21 =>
      gd (inb x17 6) <|
      nm (s2 σ 63 (x17).toNatClampNeg x21) fun σ24 =>
      nm ((44 : Int32) + x17) fun x25 =>
      gd (inb x25 909) <|
      nm (v3 - (σ24 55 (x25).toNatClampNeg)) fun x27 =>
      nm (v4 + (1 : Int32)) fun x28 =>
      F_X12_cheese_63 a1 a2 n σ24 ρ v2 x27 x28
def F_X12_cheese_39 (a1 : Int32) (a2 : Int32) : Nat → SG → RG → Int32 → Int32 → Int32 → Option (Int32 × SG)
  | 0 => fun _ _ _ _ _ => none
  | n + 1 => fun σ ρ v1 v2 v3 =>
  if (6 : Int32) ≤ v3 then
    F_X12_cheese_63 a1 a2 1024 σ ρ v2 v1 (0 : Int32)
  else
    gd (inb v3 6) <|
    nm (s2 σ 63 (v3).toNatClampNeg (0 : Int32)) fun σ31 =>
    nm (v3 + (1 : Int32)) fun x32 =>
    F_X12_cheese_39 a1 a2 n σ31 ρ v1 v2 x32
def F_X12_cheese_22 (a1 : Int32) (a2 : Int32) (σ : SG) (ρ : RG) (v1 : Int32) (v2 : Int32) : Option (Int32 × SG) :=
  bn (F_X12_in v1 (12 : Int32) (360 : Int32) σ ρ) fun r3 =>
  if r3 = 0 then
    some ((-2 : Int32), σ)
  else
    F_X12_cheese_39 a1 a2 1024 σ ρ v1 v2 (0 : Int32)
def F_X12_cheese (a1 : Int32) (a2 : Int32) (σ : SG) (ρ : RG) : Option (Int32 × SG) :=
  bn (F_X12_in a2 (0 : Int32) (1 : Int32) σ ρ) fun r1 =>
  if r1 = 0 then
    nm (a2 - (10 : Int32)) fun x33 =>
    bn (F_X12_isCutter x33 σ ρ) fun r34 =>
    if r34 = 0 then
      some ((-1 : Int32), σ)
    else
      F_X12_cheese_22 a1 a2 σ ρ a1 a2
  else
    F_X12_cheese_22 a1 a2 σ ρ a1 a2
set_option maxHeartbeats 4000000 in
set_option maxRecDepth 100000 in
theorem w_X12_cheese_146 {a1 : Int32} {a2 : Int32} {p : Program} {e : Env} {s : State} {m : MethodId} {args : Array Value} {below : List Frame} {meth : Method} {c : Code} {ρ0 : RG} {r : Int32} {σ1 : SG} (C : Cx Y D N ad p s m args meth c cX12_cheese 6 (some .int) RX12 wsL_law) {σ : SG} {ρ : RG} {v2 : Int32} {v3 : Int32} {v4 : Int32} {H : Heap} {locs : List Loc} {ls : Array Slot} (hρ0 : ρ = ρ0) (hL : Lay N K len ρ) (hF : F_X12_cheese_146 a1 a2 σ ρ v2 v3 v4 = some (r, σ1)) (hP : WP Y D N ad K len σ ρ H) (hS : va_S (AA N ad s.heap.size) s.heap H locs) (hl : lv_has ls 6 [(0, .ref (ad 54)), (2, .int v2), (3, .int v3), (4, .int v4)]) : W p l e rm_X12_cheese s m args below meth c H locs 0 0 (MQ below (QW Y D N ad K len σ1 ρ0 (AA N ad s.heap.size) (some (.int r))) args s 0 0 (AA N ad s.heap.size)) (F0 m 146 ls []) := by
  have hx := C.1.1
  have hb := C.1.2.1
  unfold F_X12_cheese_146 at hF
  refine lv_iload_n hx hb dX12_cheese_146 rfl (lv_at hl 1 rfl) ?_
  refine lv_if_ne (tgt := 155) hx hb dX12_cheese_147 (by decide) (fun c_7 => ?_) (fun c_7 => ?_) -- COND 7 rcases (Decidable.em (v2 = 0)).symm with c_7 | c_7
  · have hF := ite_f hF c_7
    refine lv_iload_n hx hb dX12_cheese_155 rfl (lv_at hl 1 rfl) ?_
    refine lv_iconst (v := 1) hx hb dX12_cheese_156 (by decide) ?_
    refine lv_icmp_ne (tgt := 164) hx hb dX12_cheese_157 (by decide) (fun c_8 => ?_) (fun c_8 => ?_) -- COND 8 rcases (Decidable.em (v2 = (1 : Int32))).symm with c_8 | c_8
    · have hF := ite_f hF c_8
      refine lv_aload_n hx hb dX12_cheese_164 rfl (lv_at hl 0 rfl) ?_
      refine get_12_27 C hP (lr_54 hL) (lk_54 hL) inlX12 mw_89 (lf_54_27 hL) dX12_cheese_165 ?_
      refine lv_iload_n hx hb dX12_cheese_168 rfl (lv_at hl 1 rfl) ?_
      refine lv_bipush (v := 10) hx hb dX12_cheese_169 (by decide +kernel) ?_
      refine lv_isub hx hb dX12_cheese_171 ?_
      obtain ⟨x9, ex9, hF⟩ := nm_1 hF
      refine x_top ex9 ?_
      obtain ⟨g10, hF⟩ := gd_1 hF
      refine x_iald C hP (lr_63 hL) (lk_63 hL) (ln_63 hL) g10 dX12_cheese_172 ?_
      obtain ⟨rfl, rfl⟩ := ret_2 hF
      subst hρ0
      exact x_iret rfl C hP hS dX12_cheese_173
    · have hF := ite_t hF c_8
      refine lv_iload_n hx hb dX12_cheese_160 rfl (lv_at hl 2 rfl) ?_
      refine lv_goto (tgt := 173) hx hb dX12_cheese_161 (by decide) ?_
      obtain ⟨rfl, rfl⟩ := ret_2 hF
      subst hρ0
      exact x_iret rfl C hP hS dX12_cheese_173
  · have hF := ite_t hF c_7
    refine lv_iload hx hb dX12_cheese_150 (lv_at hl 3 rfl) ?_
    refine lv_goto (tgt := 173) hx hb dX12_cheese_152 (by decide) ?_
    obtain ⟨rfl, rfl⟩ := ret_2 hF
    subst hρ0
    exact x_iret rfl C hP hS dX12_cheese_173
set_option maxHeartbeats 4000000 in
set_option maxRecDepth 100000 in
theorem w_X12_cheese_63 {a1 : Int32} {a2 : Int32} {p : Program} {e : Env} {s : State} {m : MethodId} {args : Array Value} {below : List Frame} {meth : Method} {c : Code} {ρ0 : RG} {r : Int32} {σ1 : SG} (C : Cx Y D N ad p s m args meth c cX12_cheese 6 (some .int) RX12 wsL_law) : ∀ (n : Nat) (σ : SG) (ρ : RG) (v2 : Int32) (v3 : Int32) (v4 : Int32) (H : Heap) (locs : List Loc) (ls : Array Slot), ρ = ρ0 → Lay N K len ρ → F_X12_cheese_63 a1 a2 n σ ρ v2 v3 v4 = some (r, σ1) → WP Y D N ad K len σ ρ H → va_S (AA N ad s.heap.size) s.heap H locs → lv_has ls 6 [(0, .ref (ad 54)), (2, .int v2), (3, .int v3), (4, .int v4)] → W p l e rm_X12_cheese s m args below meth c H locs 0 0 (MQ below (QW Y D N ad K len σ1 ρ0 (AA N ad s.heap.size) (some (.int r))) args s 0 0 (AA N ad s.heap.size)) (F0 m 63 ls []) := by
  have hx := C.1.1
  have hb := C.1.2.1
  intro n
  induction n with
  | zero => intro σ ρ v2 v3 v4 H locs ls hρ0 hL hF; cases hF
  | succ n ih =>
    intro σ ρ v2 v3 v4 H locs ls hρ0 hL hF hP hS hl
    unfold F_X12_cheese_63 at hF
    refine lv_aload_n hx hb dX12_cheese_63 rfl (lv_at hl 0 rfl) ?_
    refine get_12_1 C hP (lr_54 hL) (lk_54 hL) inlX12 mw_81 (lf_54_1 hL) dX12_cheese_64 ?_
    refine lv_bipush (v := 11) hx hb dX12_cheese_67 (by decide +kernel) ?_
    refine x_iald C hP (lr_55 hL) (lk_55 hL) (ln_55 hL) (by decide +kernel) dX12_cheese_69 ?_
    rw [cl_11]
    refine lv_if_le (tgt := 146) hx hb dX12_cheese_70 (by decide) (fun c_6 => ?_) (fun c_6 => ?_) -- COND 6 by_cases c_6 : (σ 55 11) ≤ 0
    · have hF := ite_t hF c_6
      exact w_X12_cheese_146 C hρ0 hL hF hP hS (lv_sub hl [0, 1, 2, 3] rfl)
    · have hF := ite_f hF c_6
      refine lv_aload_n hx hb dX12_cheese_73 rfl (lv_at hl 0 rfl) ?_
      refine get_12_1 C hP (lr_54 hL) (lk_54 hL) inlX12 mw_81 (lf_54_1 hL) dX12_cheese_74 ?_
      refine lv_bipush (v := 44) hx hb dX12_cheese_77 (by decide +kernel) ?_
      refine lv_iload hx hb dX12_cheese_79 (lv_at hl 3 rfl) ?_
      refine lv_aload_n hx hb dX12_cheese_81 rfl (lv_at hl 0 rfl) ?_
      refine get_12_1 C hP (lr_54 hL) (lk_54 hL) inlX12 mw_81 (lf_54_1 hL) dX12_cheese_82 ?_
      refine lv_bipush (v := 11) hx hb dX12_cheese_85 (by decide +kernel) ?_
      refine x_iald C hP (lr_55 hL) (lk_55 hL) (ln_55 hL) (by decide +kernel) dX12_cheese_87 ?_
      rw [cl_11]
      obtain ⟨g11, hF⟩ := gd_1 hF
      refine lv_irem hx hb dX12_cheese_88 (of_decide_eq_true g11) ?_
      obtain ⟨x12, ex12, hF⟩ := nm_1 hF
      refine x_top ex12 ?_
      refine lv_iadd hx hb dX12_cheese_89 ?_
      obtain ⟨x13, ex13, hF⟩ := nm_1 hF
      refine x_top ex13 ?_
      obtain ⟨g14, hF⟩ := gd_1 hF
      refine x_iald C hP (lr_55 hL) (lk_55 hL) (ln_55 hL) g14 dX12_cheese_90 ?_
      refine lv_iload_n hx hb dX12_cheese_91 rfl (lv_at hl 2 rfl) ?_
      refine lv_icmp_gt (tgt := 146) hx hb dX12_cheese_92 (by decide) (fun c_15 => ?_) (fun c_15 => ?_) -- COND 15 by_cases c_15 : v3 < (σ 55 (x13).toNatClampNeg)
      · have hF := ite_t hF c_15
        exact w_X12_cheese_146 C hρ0 hL hF hP hS (lv_sub hl [0, 1, 2, 3] rfl)
      · have hF := ite_f hF c_15
        refine lv_iload hx hb dX12_cheese_95 (lv_at hl 3 rfl) ?_
        refine lv_aload_n hx hb dX12_cheese_97 rfl (lv_at hl 0 rfl) ?_
        refine get_12_1 C hP (lr_54 hL) (lk_54 hL) inlX12 mw_81 (lf_54_1 hL) dX12_cheese_98 ?_
        refine lv_bipush (v := 11) hx hb dX12_cheese_101 (by decide +kernel) ?_
        refine x_iald C hP (lr_55 hL) (lk_55 hL) (ln_55 hL) (by decide +kernel) dX12_cheese_103 ?_
        rw [cl_11]
        obtain ⟨g16, hF⟩ := gd_1 hF
        refine lv_irem hx hb dX12_cheese_104 (of_decide_eq_true g16) ?_
        obtain ⟨x17, ex17, hF⟩ := nm_1 hF
        refine x_top ex17 ?_
        refine lv_istore (lv' := [(5, .int x17), (0, .ref (ad 54)), (2, .int v2), (3, .int v3), (4, .int v4)]) hx hb dX12_cheese_105 hl (by decide) rfl (fun ls hl => ?_)
        refine lv_aload_n hx hb dX12_cheese_107 rfl (lv_at hl 1 rfl) ?_
        refine get_12_27 C hP (lr_54 hL) (lk_54 hL) inlX12 mw_89 (lf_54_27 hL) dX12_cheese_108 ?_
        refine lv_iload hx hb dX12_cheese_111 (lv_at hl 0 rfl) ?_
        refine lv_dup2_11 hx hb dX12_cheese_113 rfl rfl ?_
        obtain ⟨g18, hF⟩ := gd_1 hF
        refine x_iald C hP (lr_63 hL) (lk_63 hL) (ln_63 hL) g18 dX12_cheese_114 ?_
        refine lv_aload_n hx hb dX12_cheese_115 rfl (lv_at hl 1 rfl) ?_
        refine get_12_1 C hP (lr_54 hL) (lk_54 hL) inlX12 mw_81 (lf_54_1 hL) dX12_cheese_116 ?_
        refine lv_bipush (v := 44) hx hb dX12_cheese_119 (by decide +kernel) ?_
        refine lv_iload hx hb dX12_cheese_121 (lv_at hl 0 rfl) ?_
        refine lv_iadd hx hb dX12_cheese_123 ?_
        obtain ⟨x19, ex19, hF⟩ := nm_1 hF
        refine x_top ex19 ?_
        obtain ⟨g20, hF⟩ := gd_1 hF
        refine x_iald C hP (lr_55 hL) (lk_55 hL) (ln_55 hL) g20 dX12_cheese_124 ?_
        refine lv_iadd hx hb dX12_cheese_125 ?_
        obtain ⟨x21, ex21, hF⟩ := nm_1 hF
        refine x_top ex21 ?_
        obtain ⟨g22, hF⟩ := gd_1 hF
        obtain ⟨σ24, eσ24, hF⟩ := nm_1 hF
        refine x_iast (σ1 := σ24) C hP hS (lr_63 hL) (lk_63 hL) (ln_63 hL) g22 eσ24 dX12_cheese_126 (fun H locs hP hS => ?_)
        refine lv_iload_n hx hb dX12_cheese_127 rfl (lv_at hl 3 rfl) ?_
        refine lv_aload_n hx hb dX12_cheese_128 rfl (lv_at hl 1 rfl) ?_
        refine get_12_1 C hP (lr_54 hL) (lk_54 hL) inlX12 mw_81 (lf_54_1 hL) dX12_cheese_129 ?_
        refine lv_bipush (v := 44) hx hb dX12_cheese_132 (by decide +kernel) ?_
        refine lv_iload hx hb dX12_cheese_134 (lv_at hl 0 rfl) ?_
        refine lv_iadd hx hb dX12_cheese_136 ?_
        obtain ⟨x25, ex25, hF⟩ := nm_1 hF
        refine x_top ex25 ?_
        obtain ⟨g26, hF⟩ := gd_1 hF
        refine x_iald C hP (lr_55 hL) (lk_55 hL) (ln_55 hL) g26 dX12_cheese_137 ?_
        refine lv_isub hx hb dX12_cheese_138 ?_
        obtain ⟨x27, ex27, hF⟩ := nm_1 hF
        refine x_top ex27 ?_
        refine lv_istore_n (lv' := [(3, .int x27), (5, .int x17), (0, .ref (ad 54)), (2, .int v2), (4, .int v4)]) hx hb dX12_cheese_139 rfl hl (by decide) rfl (fun ls hl => ?_)
        obtain ⟨x28, ex28, hF⟩ := nm_1 hF
        refine lv_iinc (v := x28) (lv' := [(4, .int x28), (3, .int x27), (5, .int x17), (0, .ref (ad 54)), (2, .int v2)]) hx hb dX12_cheese_140 hl (k := 4) rfl (by rw [ex28]; first | rfl | decide) (by decide) rfl (fun ls hl => ?_)
        refine lv_goto (tgt := 63) hx hb dX12_cheese_143 (by decide) ?_
        exact ih _ _ _ _ _ _ _ _ hρ0 hL hF hP hS (lv_sub hl [3, 4, 1, 0] rfl)
set_option maxHeartbeats 4000000 in
set_option maxRecDepth 100000 in
theorem w_X12_cheese_39 {a1 : Int32} {a2 : Int32} {p : Program} {e : Env} {s : State} {m : MethodId} {args : Array Value} {below : List Frame} {meth : Method} {c : Code} {ρ0 : RG} {r : Int32} {σ1 : SG} (C : Cx Y D N ad p s m args meth c cX12_cheese 6 (some .int) RX12 wsL_law) : ∀ (n : Nat) (σ : SG) (ρ : RG) (v1 : Int32) (v2 : Int32) (v3 : Int32) (H : Heap) (locs : List Loc) (ls : Array Slot), ρ = ρ0 → Lay N K len ρ → F_X12_cheese_39 a1 a2 n σ ρ v1 v2 v3 = some (r, σ1) → WP Y D N ad K len σ ρ H → va_S (AA N ad s.heap.size) s.heap H locs → lv_has ls 6 [(0, .ref (ad 54)), (1, .int v1), (2, .int v2), (3, .int v3)] → W p l e rm_X12_cheese s m args below meth c H locs 0 0 (MQ below (QW Y D N ad K len σ1 ρ0 (AA N ad s.heap.size) (some (.int r))) args s 0 0 (AA N ad s.heap.size)) (F0 m 39 ls []) := by
  have hx := C.1.1
  have hb := C.1.2.1
  intro n
  induction n with
  | zero => intro σ ρ v1 v2 v3 H locs ls hρ0 hL hF; cases hF
  | succ n ih =>
    intro σ ρ v1 v2 v3 H locs ls hρ0 hL hF hP hS hl
    unfold F_X12_cheese_39 at hF
    refine lv_iload_n hx hb dX12_cheese_39 rfl (lv_at hl 3 rfl) ?_
    refine lv_bipush (v := 6) hx hb dX12_cheese_40 (by decide +kernel) ?_
    refine lv_icmp_ge (tgt := 58) hx hb dX12_cheese_42 (by decide) (fun c_5 => ?_) (fun c_5 => ?_) -- COND 5 by_cases c_5 : (6 : Int32) ≤ v3
    · have hF := ite_t hF c_5
      refine lv_iload_n hx hb dX12_cheese_58 rfl (lv_at hl 1 rfl) ?_
      refine lv_istore_n (lv' := [(3, .int v1), (0, .ref (ad 54)), (1, .int v1), (2, .int v2)]) hx hb dX12_cheese_59 rfl hl (by decide) rfl (fun ls hl => ?_)
      refine lv_iconst (v := 0) hx hb dX12_cheese_60 (by decide) ?_
      refine lv_istore (lv' := [(4, .int (0 : Int32)), (3, .int v1), (0, .ref (ad 54)), (1, .int v1), (2, .int v2)]) hx hb dX12_cheese_61 hl (by decide) rfl (fun ls hl => ?_)
      exact w_X12_cheese_63 C 1024 _ _ _ _ _ _ _ _ hρ0 hL hF hP hS (lv_sub hl [2, 4, 1, 0] rfl)
    · have hF := ite_f hF c_5
      refine lv_aload_n hx hb dX12_cheese_45 rfl (lv_at hl 0 rfl) ?_
      refine get_12_27 C hP (lr_54 hL) (lk_54 hL) inlX12 mw_89 (lf_54_27 hL) dX12_cheese_46 ?_
      refine lv_iload_n hx hb dX12_cheese_49 rfl (lv_at hl 3 rfl) ?_
      refine lv_iconst (v := 0) hx hb dX12_cheese_50 (by decide) ?_
      obtain ⟨g29, hF⟩ := gd_1 hF
      obtain ⟨σ31, eσ31, hF⟩ := nm_1 hF
      refine x_iast (σ1 := σ31) C hP hS (lr_63 hL) (lk_63 hL) (ln_63 hL) g29 eσ31 dX12_cheese_51 (fun H locs hP hS => ?_)
      obtain ⟨x32, ex32, hF⟩ := nm_1 hF
      refine lv_iinc (v := x32) (lv' := [(3, .int x32), (0, .ref (ad 54)), (1, .int v1), (2, .int v2)]) hx hb dX12_cheese_52 hl (k := 3) rfl (by rw [ex32]; first | rfl | decide) (by decide) rfl (fun ls hl => ?_)
      refine lv_goto (tgt := 39) hx hb dX12_cheese_55 (by decide) ?_
      exact ih _ _ _ _ _ _ _ _ hρ0 hL hF hP hS (lv_sub hl [1, 2, 3, 0] rfl)
set_option maxHeartbeats 4000000 in
set_option maxRecDepth 100000 in
theorem w_X12_cheese_22 {a1 : Int32} {a2 : Int32} {p : Program} {e : Env} {s : State} {m : MethodId} {args : Array Value} {below : List Frame} {meth : Method} {c : Code} {ρ0 : RG} {r : Int32} {σ1 : SG} (C : Cx Y D N ad p s m args meth c cX12_cheese 6 (some .int) RX12 wsL_law) {σ : SG} {ρ : RG} {v1 : Int32} {v2 : Int32} {H : Heap} {locs : List Loc} {ls : Array Slot} (hρ0 : ρ = ρ0) (hL : Lay N K len ρ) (hF : F_X12_cheese_22 a1 a2 σ ρ v1 v2 = some (r, σ1)) (hP : WP Y D N ad K len σ ρ H) (hS : va_S (AA N ad s.heap.size) s.heap H locs) (hl : lv_has ls 6 [(0, .ref (ad 54)), (1, .int v1), (2, .int v2)]) : W p l e rm_X12_cheese s m args below meth c H locs 0 0 (MQ below (QW Y D N ad K len σ1 ρ0 (AA N ad s.heap.size) (some (.int r))) args s 0 0 (AA N ad s.heap.size)) (F0 m 22 ls []) := by
  have hx := C.1.1
  have hb := C.1.2.1
  unfold F_X12_cheese_22 at hF
  refine lv_iload_n hx hb dX12_cheese_22 rfl (lv_at hl 1 rfl) ?_
  refine lv_bipush (v := 12) hx hb dX12_cheese_23 (by decide +kernel) ?_
  refine lv_sipush (v := 360) hx hb dX12_cheese_25 (by decide +kernel) ?_
  obtain ⟨r3, hq3, hF⟩ := bn_1 hF
  refine x_callS C hP hS (c_X12_in hL hq3) (va_cwS 3 C.1.2.2.2.2 (gdS mw_104 mw_105 mw_5 mw_106) rfl rfl rfl hd_X12_in.2 ⟨Nat.le_of_ble_eq_true rfl, Nat.le_of_ble_eq_true rfl⟩) rfl rfl hl.1 (Nat.le_of_ble_eq_true rfl) ⟨Nat.zero_le _, Nat.zero_le _⟩ dX12_cheese_28 (fun H locs hP hS => ?_)
  refine lv_if_ne (tgt := 37) hx hb dX12_cheese_31 (by decide) (fun c_4 => ?_) (fun c_4 => ?_) -- COND 4 rcases (Decidable.em (r3 = 0)).symm with c_4 | c_4
  · have hF := ite_f hF c_4
    refine lv_iconst (v := 0) hx hb dX12_cheese_37 (by decide) ?_
    refine lv_istore_n (lv' := [(3, .int (0 : Int32)), (0, .ref (ad 54)), (1, .int v1), (2, .int v2)]) hx hb dX12_cheese_38 rfl hl (by decide) rfl (fun ls hl => ?_)
    exact w_X12_cheese_39 C 1024 _ _ _ _ _ _ _ _ hρ0 hL hF hP hS (lv_sub hl [1, 2, 3, 0] rfl)
  · have hF := ite_t hF c_4
    refine lv_bipush (v := -2) hx hb dX12_cheese_34 (by decide +kernel) ?_
    obtain ⟨rfl, rfl⟩ := ret_2 hF
    subst hρ0
    exact x_iret rfl C hP hS dX12_cheese_36
set_option maxHeartbeats 4000000 in
set_option maxRecDepth 100000 in
theorem w_X12_cheese_0 {a1 : Int32} {a2 : Int32} {p : Program} {e : Env} {s : State} {m : MethodId} {args : Array Value} {below : List Frame} {meth : Method} {c : Code} {ρ0 : RG} {r : Int32} {σ1 : SG} (C : Cx Y D N ad p s m args meth c cX12_cheese 6 (some .int) RX12 wsL_law) {σ : SG} {ρ : RG} {H : Heap} {locs : List Loc} {ls : Array Slot} (hρ0 : ρ = ρ0) (hL : Lay N K len ρ) (hF : F_X12_cheese a1 a2 σ ρ = some (r, σ1)) (hP : WP Y D N ad K len σ ρ H) (hS : va_S (AA N ad s.heap.size) s.heap H locs) (hl : lv_has ls 6 [(0, .ref (ad 54)), (1, .int a1), (2, .int a2)]) : W p l e rm_X12_cheese s m args below meth c H locs 0 0 (MQ below (QW Y D N ad K len σ1 ρ0 (AA N ad s.heap.size) (some (.int r))) args s 0 0 (AA N ad s.heap.size)) (F0 m 0 ls []) := by
  have hx := C.1.1
  have hb := C.1.2.1
  unfold F_X12_cheese at hF
  refine lv_iload_n hx hb dX12_cheese_0 rfl (lv_at hl 2 rfl) ?_
  refine lv_iconst (v := 0) hx hb dX12_cheese_1 (by decide) ?_
  refine lv_iconst (v := 1) hx hb dX12_cheese_2 (by decide) ?_
  obtain ⟨r1, hq1, hF⟩ := bn_1 hF
  refine x_callS C hP hS (c_X12_in hL hq1) (va_cwS 3 C.1.2.2.2.2 (gdS mw_104 mw_105 mw_5 mw_106) rfl rfl rfl hd_X12_in.2 ⟨Nat.le_of_ble_eq_true rfl, Nat.le_of_ble_eq_true rfl⟩) rfl rfl hl.1 (Nat.le_of_ble_eq_true rfl) ⟨Nat.zero_le _, Nat.zero_le _⟩ dX12_cheese_3 (fun H locs hP hS => ?_)
  refine lv_if_ne (tgt := 22) hx hb dX12_cheese_6 (by decide) (fun c_2 => ?_) (fun c_2 => ?_) -- COND 2 rcases (Decidable.em (r1 = 0)).symm with c_2 | c_2
  · have hF := ite_f hF c_2
    exact w_X12_cheese_22 C hρ0 hL hF hP hS (lv_sub hl [0, 1, 2] rfl)
  · have hF := ite_t hF c_2
    refine lv_aload_n hx hb dX12_cheese_9 rfl (lv_at hl 0 rfl) ?_
    refine lv_iload_n hx hb dX12_cheese_10 rfl (lv_at hl 2 rfl) ?_
    refine lv_bipush (v := 10) hx hb dX12_cheese_11 (by decide +kernel) ?_
    refine lv_isub hx hb dX12_cheese_13 ?_
    obtain ⟨x33, ex33, hF⟩ := nm_1 hF
    refine x_top ex33 ?_
    obtain ⟨r34, hq34, hF⟩ := bn_1 hF
    refine x_callV (ci := 12) rfl rfl C hP hS (c_X12_isCutter hL hq34) (lr_54 hL) (lk_54 hL) (cwV 1 C.1.2.2.2.2 (gdV mw_462 mw_463 mw_464 mw_5 mw_465) rfl rfl rfl hd_X12_isCutter ⟨Nat.le_of_ble_eq_true rfl, Nat.le_of_ble_eq_true rfl⟩) rfl rfl hl.1 (Nat.le_of_ble_eq_true rfl) ⟨Nat.zero_le _, Nat.zero_le _⟩ dX12_cheese_14 (fun H locs hP hS => ?_)
    refine lv_if_ne (tgt := 22) hx hb dX12_cheese_17 (by decide) (fun c_35 => ?_) (fun c_35 => ?_) -- COND 35 rcases (Decidable.em (r34 = 0)).symm with c_35 | c_35
    · have hF := ite_f hF c_35
      exact w_X12_cheese_22 C hρ0 hL hF hP hS (lv_sub hl [0, 1, 2] rfl)
    · have hF := ite_t hF c_35
      refine lv_iconst (v := -1) hx hb dX12_cheese_20 (by decide) ?_
      obtain ⟨rfl, rfl⟩ := ret_2 hF
      subst hρ0
      exact x_iret rfl C hP hS dX12_cheese_21
set_option maxHeartbeats 4000000 in
set_option maxRecDepth 100000 in
theorem c_X12_cheese {a1 : Int32} {a2 : Int32} {r : Int32} {σ1 : SG} {σ : SG} {ρ : RG} (hL : Lay N K len ρ) (hF : F_X12_cheese a1 a2 σ ρ = some (r, σ1)) : MT l Y D N ad K len yX12_cheese (Cond.code yX12_cheese cX12_cheese 6 (some .int) :: wsL_law) rm_X12_cheese [.ref (ad 54), .int a1, .int a2] σ ρ (some (.int r)) σ1 ρ := by
  refine mt_of (cc := cX12_cheese) (nL := 6) (ret := (some .int)) (by decide) (Nat.le_of_ble_eq_true rfl) ?_
  intro p e s m args below meth c ls C hnm hP hS hl
  exact w_X12_cheese_0 C rfl hL hF hP hS hl
end GEN
