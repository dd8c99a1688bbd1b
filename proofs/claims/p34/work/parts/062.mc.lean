/-! PART 062.mc: printed by wip/gen -/
section GEN
variable {l : Launch} {Y : YT} {D : va_G} {N : Nat} {ad K len : Nat → Nat}
variable {fR lR : Nat}
/-! CutCrookedModel.public int see(int, int);  -/
theorem dX12_see_0 : decode cX12_see 0 = .ok (.iload_n 1, 1) := by decide +kernel
theorem dX12_see_1 : decode cX12_see 1 = .ok (.bipush (-99), 2) := by decide +kernel
theorem dX12_see_3 : decode cX12_see 3 = .ok (.bipush 99, 2) := by decide +kernel
theorem dX12_see_5 : decode cX12_see 5 = .ok (.invokestatic 47, 3) := by decide +kernel
theorem dX12_see_8 : decode cX12_see 8 = .ok (.ifCond .eq 14, 3) := by decide +kernel
theorem dX12_see_11 : decode cX12_see 11 = .ok (.iload_n 2, 1) := by decide +kernel
theorem dX12_see_12 : decode cX12_see 12 = .ok (.bipush (-99), 2) := by decide +kernel
theorem dX12_see_14 : decode cX12_see 14 = .ok (.bipush 99, 2) := by decide +kernel
theorem dX12_see_16 : decode cX12_see 16 = .ok (.invokestatic 47, 3) := by decide +kernel
theorem dX12_see_19 : decode cX12_see 19 = .ok (.ifCond .ne 6, 3) := by decide +kernel
theorem dX12_see_22 : decode cX12_see 22 = .ok (.bipush (-2), 2) := by decide +kernel
theorem dX12_see_24 : decode cX12_see 24 = .ok (.ireturn, 1) := by decide +kernel
theorem dX12_see_25 : decode cX12_see 25 = .ok (.aload_n 0, 1) := by decide +kernel
theorem dX12_see_26 : decode cX12_see 26 = .ok (.getfield 9, 3) := by decide +kernel
theorem dX12_see_29 : decode cX12_see 29 = .ok (.bipush 18, 2) := by decide +kernel
theorem dX12_see_31 : decode cX12_see 31 = .ok (.iload_n 1, 1) := by decide +kernel
theorem dX12_see_32 : decode cX12_see 32 = .ok (.iastore, 1) := by decide +kernel
theorem dX12_see_33 : decode cX12_see 33 = .ok (.aload_n 0, 1) := by decide +kernel
theorem dX12_see_34 : decode cX12_see 34 = .ok (.getfield 9, 3) := by decide +kernel
theorem dX12_see_37 : decode cX12_see 37 = .ok (.bipush 19, 2) := by decide +kernel
theorem dX12_see_39 : decode cX12_see 39 = .ok (.iload_n 2, 1) := by decide +kernel
theorem dX12_see_40 : decode cX12_see 40 = .ok (.iastore, 1) := by decide +kernel
theorem dX12_see_41 : decode cX12_see 41 = .ok (.iconst 1, 1) := by decide +kernel
theorem dX12_see_42 : decode cX12_see 42 = .ok (.ireturn, 1) := by decide +kernel
theorem hd_X12_see : yX12_see.cls = RX12 ∧ yX12_see.cls ≠ "java/lang/invoke/MethodHandle" ∧ yX12_see.cls ≠ "java/lang/invoke/VarHandle" ∧ (parseMethodDescriptor yX12_see.desc).map (fun d => d.parameters.length) = some 2 := by decide +kernel
abbrev rm_X12_see : Room := { frames := 1, cells := 0, slots := 0, locals := 22 }
def F_X12_see (a1 : Int32) (a2 : Int32) (σ : SG) (ρ : RG) : Option (Int32 × SG) :=
  bn (F_X12_in a1 (-99 : Int32) (99 : Int32) σ ρ) fun r1 =>
  if r1 = 0 then
    some ((-2 : Int32), σ)
  else
    bn (F_X12_in a2 (-99 : Int32) (99 : Int32) σ ρ) fun r3 =>
    if r3 = 0 then
      some ((-2 : Int32), σ)
    else
      nm (s2 σ 55 18 a1) fun σ6 =>
      nm (s2 σ6 55 19 a2) fun σ8 =>
      some ((1 : Int32), σ8)
set_option maxHeartbeats 4000000 in
set_option maxRecDepth 100000 in
theorem w_X12_see_0 {a1 : Int32} {a2 : Int32} {p : Program} {e : Env} {s : State} {m : MethodId} {args : Array Value} {below : List Frame} {meth : Method} {c : Code} {ρ0 : RG} {r : Int32} {σ1 : SG} (C : Cx Y D N ad p s m args meth c cX12_see 3 (some .int) RX12 wsL_law) {σ : SG} {ρ : RG} {H : Heap} {locs : List Loc} {ls : Array Slot} (hρ0 : ρ = ρ0) (hL : Lay N K len ρ) (hF : F_X12_see a1 a2 σ ρ = some (r, σ1)) (hP : WP Y D N ad K len σ ρ H) (hS : va_S (AA N ad s.heap.size) s.heap H locs) (hl : lv_has ls 3 [(0, .ref (ad 54)), (1, .int a1), (2, .int a2)]) : W p l e rm_X12_see s m args below meth c H locs 0 0 (MQ below (QW Y D N ad K len σ1 ρ0 (AA N ad s.heap.size) (some (.int r))) args s 0 0 (AA N ad s.heap.size)) (F0 m 0 ls []) := by
  have hx := C.1.1
  have hb := C.1.2.1
  unfold F_X12_see at hF
  refine lv_iload_n hx hb dX12_see_0 rfl (lv_at hl 1 rfl) ?_
  refine lv_bipush (v := -99) hx hb dX12_see_1 (by decide +kernel) ?_
  refine lv_bipush (v := 99) hx hb dX12_see_3 (by decide +kernel) ?_
  obtain ⟨r1, hq1, hF⟩ := bn_1 hF
  refine x_callS C hP hS (c_X12_in hL hq1) (va_cwS 3 C.1.2.2.2.2 (gdS mw_104 mw_105 mw_5 mw_106) rfl rfl rfl hd_X12_in.2 ⟨Nat.le_of_ble_eq_true rfl, Nat.le_of_ble_eq_true rfl⟩) rfl rfl hl.1 (Nat.le_of_ble_eq_true rfl) ⟨Nat.zero_le _, Nat.zero_le _⟩ dX12_see_5 (fun H locs hP hS => ?_)
  refine lv_if_eq (tgt := 22) hx hb dX12_see_8 (by decide) (fun c_2 => ?_) (fun c_2 => ?_) -- COND 2 by_cases c_2 : r1 = 0
  · have hF := ite_t hF c_2
    refine lv_bipush (v := -2) hx hb dX12_see_22 (by decide +kernel) ?_
    obtain ⟨rfl, rfl⟩ := ret_2 hF
    subst hρ0
    exact x_iret rfl C hP hS dX12_see_24
  · have hF := ite_f hF c_2
    refine lv_iload_n hx hb dX12_see_11 rfl (lv_at hl 2 rfl) ?_
    refine lv_bipush (v := -99) hx hb dX12_see_12 (by decide +kernel) ?_
    refine lv_bipush (v := 99) hx hb dX12_see_14 (by decide +kernel) ?_
    obtain ⟨r3, hq3, hF⟩ := bn_1 hF
    refine x_callS C hP hS (c_X12_in hL hq3) (va_cwS 3 C.1.2.2.2.2 (gdS mw_104 mw_105 mw_5 mw_106) rfl rfl rfl hd_X12_in.2 ⟨Nat.le_of_ble_eq_true rfl, Nat.le_of_ble_eq_true rfl⟩) rfl rfl hl.1 (Nat.le_of_ble_eq_true rfl) ⟨Nat.zero_le _, Nat.zero_le _⟩ dX12_see_16 (fun H locs hP hS => ?_)
    refine lv_if_ne (tgt := 25) hx hb dX12_see_19 (by decide) (fun c_4 => ?_) (fun c_4 => ?_) -- COND 4 rcases (Decidable.em (r3 = 0)).symm with c_4 | c_4
    · have hF := ite_f hF c_4
      refine lv_aload_n hx hb dX12_see_25 rfl (lv_at hl 0 rfl) ?_
      refine get_12_1 C hP (lr_54 hL) (lk_54 hL) inlX12 mw_81 (lf_54_1 hL) dX12_see_26 ?_
      refine lv_bipush (v := 18) hx hb dX12_see_29 (by decide +kernel) ?_
      refine lv_iload_n hx hb dX12_see_31 rfl (lv_at hl 1 rfl) ?_
      obtain ⟨σ6, eσ6, hF⟩ := nm_1 hF
      refine x_iast (σ1 := σ6) C hP hS (lr_55 hL) (lk_55 hL) (ln_55 hL) (by decide +kernel) (by rw [cl_18]; exact eσ6) dX12_see_32 (fun H locs hP hS => ?_)
      refine lv_aload_n hx hb dX12_see_33 rfl (lv_at hl 0 rfl) ?_
      refine get_12_1 C hP (lr_54 hL) (lk_54 hL) inlX12 mw_81 (lf_54_1 hL) dX12_see_34 ?_
      refine lv_bipush (v := 19) hx hb dX12_see_37 (by decide +kernel) ?_
      refine lv_iload_n hx hb dX12_see_39 rfl (lv_at hl 2 rfl) ?_
      obtain ⟨σ8, eσ8, hF⟩ := nm_1 hF
      refine x_iast (σ1 := σ8) C hP hS (lr_55 hL) (lk_55 hL) (ln_55 hL) (by decide +kernel) (by rw [cl_19]; exact eσ8) dX12_see_40 (fun H locs hP hS => ?_)
      refine lv_iconst (v := 1) hx hb dX12_see_41 (by decide) ?_
      obtain ⟨rfl, rfl⟩ := ret_2 hF
      subst hρ0
      exact x_iret rfl C hP hS dX12_see_42
    · have hF := ite_t hF c_4
      refine lv_bipush (v := -2) hx hb dX12_see_22 (by decide +kernel) ?_
      obtain ⟨rfl, rfl⟩ := ret_2 hF
      subst hρ0
      exact x_iret rfl C hP hS dX12_see_24
set_option maxHeartbeats 4000000 in
set_option maxRecDepth 100000 in
theorem c_X12_see {a1 : Int32} {a2 : Int32} {r : Int32} {σ1 : SG} {σ : SG} {ρ : RG} (hL : Lay N K len ρ) (hF : F_X12_see a1 a2 σ ρ = some (r, σ1)) : MT l Y D N ad K len yX12_see (Cond.code yX12_see cX12_see 3 (some .int) :: wsL_law) rm_X12_see [.ref (ad 54), .int a1, .int a2] σ ρ (some (.int r)) σ1 ρ := by
  refine mt_of (cc := cX12_see) (nL := 3) (ret := (some .int)) (by decide) (Nat.le_of_ble_eq_true rfl) ?_
  intro p e s m args below meth c ls C hnm hP hS hl
  exact w_X12_see_0 C rfl hL hF hP hS hl

/-! CutCrookedModel.public int who();  -/
theorem dX12_who_0 : decode cX12_who 0 = .ok (.iconst 0, 1) := by decide +kernel
theorem dX12_who_1 : decode cX12_who 1 = .ok (.istore_n 1, 1) := by decide +kernel
theorem dX12_who_2 : decode cX12_who 2 = .ok (.aload_n 0, 1) := by decide +kernel
theorem dX12_who_3 : decode cX12_who 3 = .ok (.invokevirtual 191, 3) := by decide +kernel
theorem dX12_who_6 : decode cX12_who 6 = .ok (.iconst 0, 1) := by decide +kernel
theorem dX12_who_7 : decode cX12_who 7 = .ok (.istore_n 2, 1) := by decide +kernel
theorem dX12_who_8 : decode cX12_who 8 = .ok (.iload_n 2, 1) := by decide +kernel
theorem dX12_who_9 : decode cX12_who 9 = .ok (.aload_n 0, 1) := by decide +kernel
theorem dX12_who_10 : decode cX12_who 10 = .ok (.getfield 9, 3) := by decide +kernel
theorem dX12_who_13 : decode cX12_who 13 = .ok (.bipush 11, 2) := by decide +kernel
theorem dX12_who_15 : decode cX12_who 15 = .ok (.iaload, 1) := by decide +kernel
theorem dX12_who_16 : decode cX12_who 16 = .ok (.if_icmp .ge 72, 3) := by decide +kernel
theorem dX12_who_19 : decode cX12_who 19 = .ok (.iload_n 1, 1) := by decide +kernel
theorem dX12_who_20 : decode cX12_who 20 = .ok (.aload_n 0, 1) := by decide +kernel
theorem dX12_who_21 : decode cX12_who 21 = .ok (.iload_n 2, 1) := by decide +kernel
theorem dX12_who_22 : decode cX12_who 22 = .ok (.aload_n 0, 1) := by decide +kernel
theorem dX12_who_23 : decode cX12_who 23 = .ok (.getfield 9, 3) := by decide +kernel
theorem dX12_who_26 : decode cX12_who 26 = .ok (.bipush 44, 2) := by decide +kernel
theorem dX12_who_28 : decode cX12_who 28 = .ok (.iload_n 2, 1) := by decide +kernel
theorem dX12_who_29 : decode cX12_who 29 = .ok (.iadd, 1) := by decide +kernel
theorem dX12_who_30 : decode cX12_who 30 = .ok (.iaload, 1) := by decide +kernel
theorem dX12_who_31 : decode cX12_who 31 = .ok (.invokevirtual 187, 3) := by decide +kernel
theorem dX12_who_34 : decode cX12_who 34 = .ok (.ifCond .eq 41, 3) := by decide +kernel
theorem dX12_who_37 : decode cX12_who 37 = .ok (.aload_n 0, 1) := by decide +kernel
theorem dX12_who_38 : decode cX12_who 38 = .ok (.getfield 9, 3) := by decide +kernel
theorem dX12_who_41 : decode cX12_who 41 = .ok (.iconst 1, 1) := by decide +kernel
theorem dX12_who_42 : decode cX12_who 42 = .ok (.iaload, 1) := by decide +kernel
theorem dX12_who_43 : decode cX12_who 43 = .ok (.aload_n 0, 1) := by decide +kernel
theorem dX12_who_44 : decode cX12_who 44 = .ok (.getfield 9, 3) := by decide +kernel
theorem dX12_who_47 : decode cX12_who 47 = .ok (.bipush 18, 2) := by decide +kernel
theorem dX12_who_49 : decode cX12_who 49 = .ok (.iaload, 1) := by decide +kernel
theorem dX12_who_50 : decode cX12_who 50 = .ok (.if_icmp .ne 25, 3) := by decide +kernel
theorem dX12_who_53 : decode cX12_who 53 = .ok (.aload_n 0, 1) := by decide +kernel
theorem dX12_who_54 : decode cX12_who 54 = .ok (.getfield 9, 3) := by decide +kernel
theorem dX12_who_57 : decode cX12_who 57 = .ok (.iconst 2, 1) := by decide +kernel
theorem dX12_who_58 : decode cX12_who 58 = .ok (.iaload, 1) := by decide +kernel
theorem dX12_who_59 : decode cX12_who 59 = .ok (.aload_n 0, 1) := by decide +kernel
theorem dX12_who_60 : decode cX12_who 60 = .ok (.getfield 9, 3) := by decide +kernel
theorem dX12_who_63 : decode cX12_who 63 = .ok (.bipush 19, 2) := by decide +kernel
theorem dX12_who_65 : decode cX12_who 65 = .ok (.iaload, 1) := by decide +kernel
theorem dX12_who_66 : decode cX12_who 66 = .ok (.if_icmp .ne 9, 3) := by decide +kernel
theorem dX12_who_69 : decode cX12_who 69 = .ok (.iconst 1, 1) := by decide +kernel
theorem dX12_who_70 : decode cX12_who 70 = .ok (.iload_n 2, 1) := by decide +kernel
theorem dX12_who_71 : decode cX12_who 71 = .ok (.ishl, 1) := by decide +kernel
theorem dX12_who_72 : decode cX12_who 72 = .ok (.goto 4, 3) := by decide +kernel
theorem dX12_who_75 : decode cX12_who 75 = .ok (.iconst 0, 1) := by decide +kernel
theorem dX12_who_76 : decode cX12_who 76 = .ok (.ior, 1) := by decide +kernel
theorem dX12_who_77 : decode cX12_who 77 = .ok (.istore_n 1, 1) := by decide +kernel
theorem dX12_who_78 : decode cX12_who 78 = .ok (.aload_n 0, 1) := by decide +kernel
theorem dX12_who_79 : decode cX12_who 79 = .ok (.invokevirtual 194, 3) := by decide +kernel
theorem dX12_who_82 : decode cX12_who 82 = .ok (.iinc 2 1, 3) := by decide +kernel
theorem dX12_who_85 : decode cX12_who 85 = .ok (.goto (-77), 3) := by decide +kernel
theorem dX12_who_88 : decode cX12_who 88 = .ok (.iload_n 1, 1) := by decide +kernel
theorem dX12_who_89 : decode cX12_who 89 = .ok (.ireturn, 1) := by decide +kernel
theorem hd_X12_who : yX12_who.cls = RX12 ∧ yX12_who.cls ≠ "java/lang/invoke/MethodHandle" ∧ yX12_who.cls ≠ "java/lang/invoke/VarHandle" ∧ (parseMethodDescriptor yX12_who.desc).map (fun d => d.parameters.length) = some 0 := by decide +kernel
abbrev rm_X12_who : Room := { frames := 4, cells := 0, slots := 0, locals := 93 }
def F_X12_who_76  (rec_8 : SG → RG → Int32 → Int32 → Option (Int32 × SG)) (σ : SG) (ρ : RG) (v2 : Int32) (k0 : Int32) (k1 : Int32) : Option (Int32 × SG) :=
  nm (k0 ||| k1) fun x7 =>
  bn (F_X12_goesBack σ ρ) fun σ8 =>
  nm (v2 + (1 : Int32)) fun x9 =>
  rec_8 σ8 ρ x7 x9
def F_X12_who_75  (rec_8 : SG → RG → Int32 → Int32 → Option (Int32 × SG)) (σ : SG) (ρ : RG) (v2 : Int32) (k0 : Int32) : Option (Int32 × SG) :=
  F_X12_who_76 rec_8 σ ρ v2 k0 (0 : Int32)
def F_X12_who_8  : Nat → SG → RG → Int32 → Int32 → Option (Int32 × SG)
  | 0 => fun _ _ _ _ => none
  | n + 1 => fun σ ρ v1 v2 =>
  if (σ 55 11) ≤ v2 then
    some (v1, σ)
  else
    nm ((44 : Int32) + v2) fun x3 =>
    gd (inb x3 909) <|
    bn2 (F_X12_cuts v2 (σ 55 (x3).toNatClampNeg) σ ρ) fun r5 σ5 =>
    if r5 = 0 then
      F_X12_who_75 (F_X12_who_8 n) σ5 ρ v2 v1
    else
      if (σ5 55 1) = (σ5 55 18) then
        if (σ5 55 2) = (σ5 55 19) then
          nm ((1 : Int32) <<< (v2 &&& 31)) fun x12 =>
          F_X12_who_76 (F_X12_who_8 n) σ5 ρ v2 v1 x12
        else
          F_X12_who_75 (F_X12_who_8 n) σ5 ρ v2 v1
      else
        F_X12_who_75 (F_X12_who_8 n) σ5 ρ v2 v1
def F_X12_who  (σ : SG) (ρ : RG) : Option (Int32 × SG) :=
  bn (F_X12_keeps σ ρ) fun σ1 =>
  F_X12_who_8 1024 σ1 ρ (0 : Int32) (0 : Int32)
set_option maxHeartbeats 4000000 in
set_option maxRecDepth 100000 in
theorem w_X12_who_76  {rec_8 : SG → RG → Int32 → Int32 → Option (Int32 × SG)} {p : Program} {e : Env} {s : State} {m : MethodId} {args : Array Value} {below : List Frame} {meth : Method} {c : Code} {ρ0 : RG} {r : Int32} {σ1 : SG} (C : Cx Y D N ad p s m args meth c cX12_who 3 (some .int) RX12 wsL_law) (hrec_8 : ∀ (σ : SG) (ρ : RG) (v1 : Int32) (v2 : Int32) (H : Heap) (locs : List Loc) (ls : Array Slot), ρ = ρ0 → Lay N K len ρ → rec_8 σ ρ v1 v2 = some (r, σ1) → WP Y D N ad K len σ ρ H → va_S (AA N ad s.heap.size) s.heap H locs → lv_has ls 3 [(0, .ref (ad 54)), (1, .int v1), (2, .int v2)] → W p l e rm_X12_who s m args below meth c H locs 0 0 (MQ below (QW Y D N ad K len σ1 ρ0 (AA N ad s.heap.size) (some (.int r))) args s 0 0 (AA N ad s.heap.size)) (F0 m 8 ls [])) {σ : SG} {ρ : RG} {v2 : Int32} {k0 : Int32} {k1 : Int32} {H : Heap} {locs : List Loc} {ls : Array Slot} (hρ0 : ρ = ρ0) (hL : Lay N K len ρ) (hF : F_X12_who_76 rec_8 σ ρ v2 k0 k1 = some (r, σ1)) (hP : WP Y D N ad K len σ ρ H) (hS : va_S (AA N ad s.heap.size) s.heap H locs) (hl : lv_has ls 3 [(0, .ref (ad 54)), (2, .int v2)]) : W p l e rm_X12_who s m args below meth c H locs 0 0 (MQ below (QW Y D N ad K len σ1 ρ0 (AA N ad s.heap.size) (some (.int r))) args s 0 0 (AA N ad s.heap.size)) (F0 m 76 ls [.int k1, .int k0]) := by
  have hx := C.1.1
  have hb := C.1.2.1
  unfold F_X12_who_76 at hF
  refine lv_ior hx hb dX12_who_76 ?_
  obtain ⟨x7, ex7, hF⟩ := nm_1 hF
  refine x_top ex7 ?_
  refine lv_istore_n (lv' := [(1, .int x7), (0, .ref (ad 54)), (2, .int v2)]) hx hb dX12_who_77 rfl hl (by decide) rfl (fun ls hl => ?_)
  refine lv_aload_n hx hb dX12_who_78 rfl (lv_at hl 1 rfl) ?_
  obtain ⟨σ8, hq8, hF⟩ := bn_1 hF
  refine x_callV (ci := 12) rfl rfl C hP hS (c_X12_goesBack hL hq8) (lr_54 hL) (lk_54 hL) (cwV 0 C.1.2.2.2.2 (gdV mw_736 mw_737 mw_738 mw_5 mw_739) rfl rfl rfl hd_X12_goesBack ⟨Nat.le_of_ble_eq_true rfl, Nat.le_of_ble_eq_true rfl⟩) rfl rfl hl.1 (Nat.le_of_ble_eq_true rfl) ⟨Nat.zero_le _, Nat.zero_le _⟩ dX12_who_79 (fun H locs hP hS => ?_)
  obtain ⟨x9, ex9, hF⟩ := nm_1 hF
  refine lv_iinc (v := x9) (lv' := [(2, .int x9), (1, .int x7), (0, .ref (ad 54))]) hx hb dX12_who_82 hl (k := 2) rfl (by rw [ex9]; first | rfl | decide) (by decide) rfl (fun ls hl => ?_)
  refine lv_goto (tgt := 8) hx hb dX12_who_85 (by decide) ?_
  exact hrec_8 _ _ _ _ _ _ _ hρ0 hL hF hP hS (lv_sub hl [2, 1, 0] rfl)
set_option maxHeartbeats 4000000 in
set_option maxRecDepth 100000 in
theorem w_X12_who_75  {rec_8 : SG → RG → Int32 → Int32 → Option (Int32 × SG)} {p : Program} {e : Env} {s : State} {m : MethodId} {args : Array Value} {below : List Frame} {meth : Method} {c : Code} {ρ0 : RG} {r : Int32} {σ1 : SG} (C : Cx Y D N ad p s m args meth c cX12_who 3 (some .int) RX12 wsL_law) (hrec_8 : ∀ (σ : SG) (ρ : RG) (v1 : Int32) (v2 : Int32) (H : Heap) (locs : List Loc) (ls : Array Slot), ρ = ρ0 → Lay N K len ρ → rec_8 σ ρ v1 v2 = some (r, σ1) → WP Y D N ad K len σ ρ H → va_S (AA N ad s.heap.size) s.heap H locs → lv_has ls 3 [(0, .ref (ad 54)), (1, .int v1), (2, .int v2)] → W p l e rm_X12_who s m args below meth c H locs 0 0 (MQ below (QW Y D N ad K len σ1 ρ0 (AA N ad s.heap.size) (some (.int r))) args s 0 0 (AA N ad s.heap.size)) (F0 m 8 ls [])) {σ : SG} {ρ : RG} {v2 : Int32} {k0 : Int32} {H : Heap} {locs : List Loc} {ls : Array Slot} (hρ0 : ρ = ρ0) (hL : Lay N K len ρ) (hF : F_X12_who_75 rec_8 σ ρ v2 k0 = some (r, σ1)) (hP : WP Y D N ad K len σ ρ H) (hS : va_S (AA N ad s.heap.size) s.heap H locs) (hl : lv_has ls 3 [(0, .ref (ad 54)), (2, .int v2)]) : W p l e rm_X12_who s m args below meth c H locs 0 0 (MQ below (QW Y D N ad K len σ1 ρ0 (AA N ad s.heap.size) (some (.int r))) args s 0 0 (AA N ad s.heap.size)) (F0 m 75 ls [.int k0]) := by
  have hx := C.1.1
  have hb := C.1.2.1
  unfold F_X12_who_75 at hF
  refine lv_iconst (v := 0) hx hb dX12_who_75 (by decide) ?_
  exact w_X12_who_76 C hrec_8 hρ0 hL hF hP hS (lv_sub hl [0, 1] rfl)
set_option maxHeartbeats 4000000 in
set_option maxRecDepth 100000 in
theorem w_X12_who_8  {p : Program} {e : Env} {s : State} {m : MethodId} {args : Array Value} {below : List Frame} {meth : Method} {c : Code} {ρ0 : RG} {r : Int32} {σ1 : SG} (C : Cx Y D N ad p s m args meth c cX12_who 3 (some .int) RX12 wsL_law) : ∀ (n : Nat) (σ : SG) (ρ : RG) (v1 : Int32) (v2 : Int32) (H : Heap) (locs : List Loc) (ls : Array Slot), ρ = ρ0 → Lay N K len ρ → F_X12_who_8 n σ ρ v1 v2 = some (r, σ1) → WP Y D N ad K len σ ρ H → va_S (AA N ad s.heap.size) s.heap H locs → lv_has ls 3 [(0, .ref (ad 54)), (1, .int v1), (2, .int v2)] → W p l e rm_X12_who s m args below meth c H locs 0 0 (MQ below (QW Y D N ad K len σ1 ρ0 (AA N ad s.heap.size) (some (.int r))) args s 0 0 (AA N ad s.heap.size)) (F0 m 8 ls []) := by
  have hx := C.1.1
  have hb := C.1.2.1
  intro n
  induction n with
  | zero => intro σ ρ v1 v2 H locs ls hρ0 hL hF; cases hF
  | succ n ih =>
    intro σ ρ v1 v2 H locs ls hρ0 hL hF hP hS hl
    unfold F_X12_who_8 at hF
    refine lv_iload_n hx hb dX12_who_8 rfl (lv_at hl 2 rfl) ?_
    refine lv_aload_n hx hb dX12_who_9 rfl (lv_at hl 0 rfl) ?_
    refine get_12_1 C hP (lr_54 hL) (lk_54 hL) inlX12 mw_81 (lf_54_1 hL) dX12_who_10 ?_
    refine lv_bipush (v := 11) hx hb dX12_who_13 (by decide +kernel) ?_
    refine x_iald C hP (lr_55 hL) (lk_55 hL) (ln_55 hL) (by decide +kernel) dX12_who_15 ?_
    rw [cl_11]
    refine lv_icmp_ge (tgt := 88) hx hb dX12_who_16 (by decide) (fun c_2 => ?_) (fun c_2 => ?_) -- COND 2 by_cases c_2 : (σ 55 11) ≤ v2
    · have hF := ite_t hF c_2
      refine lv_iload_n hx hb dX12_who_88 rfl (lv_at hl 1 rfl) ?_
      obtain ⟨rfl, rfl⟩ := ret_2 hF
      subst hρ0
      exact x_iret rfl C hP hS dX12_who_89
    · have hF := ite_f hF c_2
      refine lv_iload_n hx hb dX12_who_19 rfl (lv_at hl 1 rfl) ?_
      refine lv_aload_n hx hb dX12_who_20 rfl (lv_at hl 0 rfl) ?_
      refine lv_iload_n hx hb dX12_who_21 rfl (lv_at hl 2 rfl) ?_
      refine lv_aload_n hx hb dX12_who_22 rfl (lv_at hl 0 rfl) ?_
      refine get_12_1 C hP (lr_54 hL) (lk_54 hL) inlX12 mw_81 (lf_54_1 hL) dX12_who_23 ?_
      refine lv_bipush (v := 44) hx hb dX12_who_26 (by decide +kernel) ?_
      refine lv_iload_n hx hb dX12_who_28 rfl (lv_at hl 2 rfl) ?_
      refine lv_iadd hx hb dX12_who_29 ?_
      obtain ⟨x3, ex3, hF⟩ := nm_1 hF
      refine x_top ex3 ?_
      obtain ⟨g4, hF⟩ := gd_1 hF
      refine x_iald C hP (lr_55 hL) (lk_55 hL) (ln_55 hL) g4 dX12_who_30 ?_
      obtain ⟨r5, σ5, hq5, hF⟩ := bn2_1 hF
      refine x_callV (ci := 12) rfl rfl C hP hS (c_X12_cuts hL hq5) (lr_54 hL) (lk_54 hL) (cwV 2 C.1.2.2.2.2 (gdV mw_652 mw_653 mw_654 mw_5 mw_655) rfl rfl rfl hd_X12_cuts ⟨Nat.le_of_ble_eq_true rfl, Nat.le_of_ble_eq_true rfl⟩) rfl rfl hl.1 (Nat.le_of_ble_eq_true rfl) ⟨Nat.zero_le _, Nat.zero_le _⟩ dX12_who_31 (fun H locs hP hS => ?_)
      refine lv_if_eq (tgt := 75) hx hb dX12_who_34 (by decide) (fun c_6 => ?_) (fun c_6 => ?_) -- COND 6 by_cases c_6 : r5 = 0
      · have hF := ite_t hF c_6
        exact w_X12_who_75 C ih hρ0 hL hF hP hS (lv_sub hl [0, 2] rfl)
      · have hF := ite_f hF c_6
        refine lv_aload_n hx hb dX12_who_37 rfl (lv_at hl 0 rfl) ?_
        refine get_12_1 C hP (lr_54 hL) (lk_54 hL) inlX12 mw_81 (lf_54_1 hL) dX12_who_38 ?_
        refine lv_iconst (v := 1) hx hb dX12_who_41 (by decide) ?_
        refine x_iald C hP (lr_55 hL) (lk_55 hL) (ln_55 hL) (by decide +kernel) dX12_who_42 ?_
        rw [cl_1]
        refine lv_aload_n hx hb dX12_who_43 rfl (lv_at hl 0 rfl) ?_
        refine get_12_1 C hP (lr_54 hL) (lk_54 hL) inlX12 mw_81 (lf_54_1 hL) dX12_who_44 ?_
        refine lv_bipush (v := 18) hx hb dX12_who_47 (by decide +kernel) ?_
        refine x_iald C hP (lr_55 hL) (lk_55 hL) (ln_55 hL) (by decide +kernel) dX12_who_49 ?_
        rw [cl_18]
        refine lv_icmp_ne (tgt := 75) hx hb dX12_who_50 (by decide) (fun c_10 => ?_) (fun c_10 => ?_) -- COND 10 rcases (Decidable.em ((σ5 55 1) = (σ5 55 18))).symm with c_10 | c_10
        · have hF := ite_f hF c_10
          exact w_X12_who_75 C ih hρ0 hL hF hP hS (lv_sub hl [0, 2] rfl)
        · have hF := ite_t hF c_10
          refine lv_aload_n hx hb dX12_who_53 rfl (lv_at hl 0 rfl) ?_
          refine get_12_1 C hP (lr_54 hL) (lk_54 hL) inlX12 mw_81 (lf_54_1 hL) dX12_who_54 ?_
          refine lv_iconst (v := 2) hx hb dX12_who_57 (by decide) ?_
          refine x_iald C hP (lr_55 hL) (lk_55 hL) (ln_55 hL) (by decide +kernel) dX12_who_58 ?_
          rw [cl_2]
          refine lv_aload_n hx hb dX12_who_59 rfl (lv_at hl 0 rfl) ?_
          refine get_12_1 C hP (lr_54 hL) (lk_54 hL) inlX12 mw_81 (lf_54_1 hL) dX12_who_60 ?_
          refine lv_bipush (v := 19) hx hb dX12_who_63 (by decide +kernel) ?_
          refine x_iald C hP (lr_55 hL) (lk_55 hL) (ln_55 hL) (by decide +kernel) dX12_who_65 ?_
          rw [cl_19]
          refine lv_icmp_ne (tgt := 75) hx hb dX12_who_66 (by decide) (fun c_11 => ?_) (fun c_11 => ?_) -- COND 11 rcases (Decidable.em ((σ5 55 2) = (σ5 55 19))).symm with c_11 | c_11
          · have hF := ite_f hF c_11
            exact w_X12_who_75 C ih hρ0 hL hF hP hS (lv_sub hl [0, 2] rfl)
          · have hF := ite_t hF c_11
            refine lv_iconst (v := 1) hx hb dX12_who_69 (by decide) ?_
            refine lv_iload_n hx hb dX12_who_70 rfl (lv_at hl 2 rfl) ?_
            refine lv_ishl hx hb dX12_who_71 ?_
            obtain ⟨x12, ex12, hF⟩ := nm_1 hF
            refine x_top ex12 ?_
            refine lv_goto (tgt := 76) hx hb dX12_who_72 (by decide) ?_
            exact w_X12_who_76 C ih hρ0 hL hF hP hS (lv_sub hl [0, 2] rfl)
set_option maxHeartbeats 4000000 in
set_option maxRecDepth 100000 in
theorem w_X12_who_0  {p : Program} {e : Env} {s : State} {m : MethodId} {args : Array Value} {below : List Frame} {meth : Method} {c : Code} {ρ0 : RG} {r : Int32} {σ1 : SG} (C : Cx Y D N ad p s m args meth c cX12_who 3 (some .int) RX12 wsL_law) {σ : SG} {ρ : RG} {H : Heap} {locs : List Loc} {ls : Array Slot} (hρ0 : ρ = ρ0) (hL : Lay N K len ρ) (hF : F_X12_who σ ρ = some (r, σ1)) (hP : WP Y D N ad K len σ ρ H) (hS : va_S (AA N ad s.heap.size) s.heap H locs) (hl : lv_has ls 3 [(0, .ref (ad 54))]) : W p l e rm_X12_who s m args below meth c H locs 0 0 (MQ below (QW Y D N ad K len σ1 ρ0 (AA N ad s.heap.size) (some (.int r))) args s 0 0 (AA N ad s.heap.size)) (F0 m 0 ls []) := by
  have hx := C.1.1
  have hb := C.1.2.1
  unfold F_X12_who at hF
  refine lv_iconst (v := 0) hx hb dX12_who_0 (by decide) ?_
  refine lv_istore_n (lv' := [(1, .int (0 : Int32)), (0, .ref (ad 54))]) hx hb dX12_who_1 rfl hl (by decide) rfl (fun ls hl => ?_)
  refine lv_aload_n hx hb dX12_who_2 rfl (lv_at hl 1 rfl) ?_
  obtain ⟨σ1, hq1, hF⟩ := bn_1 hF
  refine x_callV (ci := 12) rfl rfl C hP hS (c_X12_keeps hL hq1) (lr_54 hL) (lk_54 hL) (cwV 0 C.1.2.2.2.2 (gdV mw_732 mw_733 mw_734 mw_5 mw_735) rfl rfl rfl hd_X12_keeps ⟨Nat.le_of_ble_eq_true rfl, Nat.le_of_ble_eq_true rfl⟩) rfl rfl hl.1 (Nat.le_of_ble_eq_true rfl) ⟨Nat.zero_le _, Nat.zero_le _⟩ dX12_who_3 (fun H locs hP hS => ?_)
  refine lv_iconst (v := 0) hx hb dX12_who_6 (by decide) ?_
  refine lv_istore_n (lv' := [(2, .int (0 : Int32)), (1, .int (0 : Int32)), (0, .ref (ad 54))]) hx hb dX12_who_7 rfl hl (by decide) rfl (fun ls hl => ?_)
  exact w_X12_who_8 C 1024 _ _ _ _ _ _ _ hρ0 hL hF hP hS (lv_sub hl [2, 1, 0] rfl)
set_option maxHeartbeats 4000000 in
set_option maxRecDepth 100000 in
theorem c_X12_who  {r : Int32} {σ1 : SG} {σ : SG} {ρ : RG} (hL : Lay N K len ρ) (hF : F_X12_who σ ρ = some (r, σ1)) : MT l Y D N ad K len yX12_who (Cond.code yX12_who cX12_who 3 (some .int) :: wsL_law) rm_X12_who [.ref (ad 54)] σ ρ (some (.int r)) σ1 ρ := by
  refine mt_of (cc := cX12_who) (nL := 3) (ret := (some .int)) (by decide) (Nat.le_of_ble_eq_true rfl) ?_
  intro p e s m args below meth c ls C hnm hP hS hl
  exact w_X12_who_0 C rfl hL hF hP hS hl

/-! CutCrookedModel.public int week(int);  -/
theorem dX12_week_0 : decode cX12_week 0 = .ok (.iload_n 1, 1) := by decide +kernel
theorem dX12_week_1 : decode cX12_week 1 = .ok (.bipush (-99), 2) := by decide +kernel
theorem dX12_week_3 : decode cX12_week 3 = .ok (.bipush 99, 2) := by decide +kernel
theorem dX12_week_5 : decode cX12_week 5 = .ok (.invokestatic 47, 3) := by decide +kernel
theorem dX12_week_8 : decode cX12_week 8 = .ok (.ifCond .ne 6, 3) := by decide +kernel
theorem dX12_week_11 : decode cX12_week 11 = .ok (.bipush (-2), 2) := by decide +kernel
theorem dX12_week_13 : decode cX12_week 13 = .ok (.ireturn, 1) := by decide +kernel
theorem dX12_week_14 : decode cX12_week 14 = .ok (.aload_n 0, 1) := by decide +kernel
theorem dX12_week_15 : decode cX12_week 15 = .ok (.getfield 9, 3) := by decide +kernel
theorem dX12_week_18 : decode cX12_week 18 = .ok (.bipush 13, 2) := by decide +kernel
theorem dX12_week_20 : decode cX12_week 20 = .ok (.iaload, 1) := by decide +kernel
theorem dX12_week_21 : decode cX12_week 21 = .ok (.iconst 4, 1) := by decide +kernel
theorem dX12_week_22 : decode cX12_week 22 = .ok (.if_icmp .ne 6, 3) := by decide +kernel
theorem dX12_week_25 : decode cX12_week 25 = .ok (.bipush (-4), 2) := by decide +kernel
theorem dX12_week_27 : decode cX12_week 27 = .ok (.ireturn, 1) := by decide +kernel
theorem dX12_week_28 : decode cX12_week 28 = .ok (.aload_n 0, 1) := by decide +kernel
theorem dX12_week_29 : decode cX12_week 29 = .ok (.getfield 9, 3) := by decide +kernel
theorem dX12_week_32 : decode cX12_week 32 = .ok (.bipush 74, 2) := by decide +kernel
theorem dX12_week_34 : decode cX12_week 34 = .ok (.aload_n 0, 1) := by decide +kernel
theorem dX12_week_35 : decode cX12_week 35 = .ok (.getfield 9, 3) := by decide +kernel
theorem dX12_week_38 : decode cX12_week 38 = .ok (.bipush 13, 2) := by decide +kernel
theorem dX12_week_40 : decode cX12_week 40 = .ok (.iaload, 1) := by decide +kernel
theorem dX12_week_41 : decode cX12_week 41 = .ok (.iadd, 1) := by decide +kernel
theorem dX12_week_42 : decode cX12_week 42 = .ok (.iload_n 1, 1) := by decide +kernel
theorem dX12_week_43 : decode cX12_week 43 = .ok (.iastore, 1) := by decide +kernel
theorem dX12_week_44 : decode cX12_week 44 = .ok (.aload_n 0, 1) := by decide +kernel
theorem dX12_week_45 : decode cX12_week 45 = .ok (.getfield 9, 3) := by decide +kernel
theorem dX12_week_48 : decode cX12_week 48 = .ok (.bipush 13, 2) := by decide +kernel
theorem dX12_week_50 : decode cX12_week 50 = .ok (.dup2, 1) := by decide +kernel
theorem dX12_week_51 : decode cX12_week 51 = .ok (.iaload, 1) := by decide +kernel
theorem dX12_week_52 : decode cX12_week 52 = .ok (.iconst 1, 1) := by decide +kernel
theorem dX12_week_53 : decode cX12_week 53 = .ok (.iadd, 1) := by decide +kernel
theorem dX12_week_54 : decode cX12_week 54 = .ok (.iastore, 1) := by decide +kernel
theorem dX12_week_55 : decode cX12_week 55 = .ok (.aload_n 0, 1) := by decide +kernel
theorem dX12_week_56 : decode cX12_week 56 = .ok (.getfield 9, 3) := by decide +kernel
theorem dX12_week_59 : decode cX12_week 59 = .ok (.bipush 13, 2) := by decide +kernel
theorem dX12_week_61 : decode cX12_week 61 = .ok (.iaload, 1) := by decide +kernel
theorem dX12_week_62 : decode cX12_week 62 = .ok (.ireturn, 1) := by decide +kernel
theorem hd_X12_week : yX12_week.cls = RX12 ∧ yX12_week.cls ≠ "java/lang/invoke/MethodHandle" ∧ yX12_week.cls ≠ "java/lang/invoke/VarHandle" ∧ (parseMethodDescriptor yX12_week.desc).map (fun d => d.parameters.length) = some 1 := by decide +kernel
abbrev rm_X12_week : Room := { frames := 1, cells := 0, slots := 0, locals := 22 }
def F_X12_week (a1 : Int32) (σ : SG) (ρ : RG) : Option (Int32 × SG) :=
  bn (F_X12_in a1 (-99 : Int32) (99 : Int32) σ ρ) fun r1 =>
  if r1 = 0 then
    some ((-2 : Int32), σ)
  else
    if (σ 55 13) = (4 : Int32) then
      some ((-4 : Int32), σ)
    else
      nm ((74 : Int32) + (σ 55 13)) fun x4 =>
      gd (inb x4 909) <|
      nm (s2 σ 55 (x4).toNatClampNeg a1) fun σ7 =>
      nm ((σ7 55 13) + (1 : Int32)) fun x8 =>
      nm (s2 σ7 55 13 x8) fun σ10 =>
      some ((σ10 55 13), σ10)
set_option maxHeartbeats 4000000 in
set_option maxRecDepth 100000 in
theorem w_X12_week_0 {a1 : Int32} {p : Program} {e : Env} {s : State} {m : MethodId} {args : Array Value} {below : List Frame} {meth : Method} {c : Code} {ρ0 : RG} {r : Int32} {σ1 : SG} (C : Cx Y D N ad p s m args meth c cX12_week 2 (some .int) RX12 wsL_law) {σ : SG} {ρ : RG} {H : Heap} {locs : List Loc} {ls : Array Slot} (hρ0 : ρ = ρ0) (hL : Lay N K len ρ) (hF : F_X12_week a1 σ ρ = some (r, σ1)) (hP : WP Y D N ad K len σ ρ H) (hS : va_S (AA N ad s.heap.size) s.heap H locs) (hl : lv_has ls 2 [(0, .ref (ad 54)), (1, .int a1)]) : W p l e rm_X12_week s m args below meth c H locs 0 0 (MQ below (QW Y D N ad K len σ1 ρ0 (AA N ad s.heap.size) (some (.int r))) args s 0 0 (AA N ad s.heap.size)) (F0 m 0 ls []) := by
  have hx := C.1.1
  have hb := C.1.2.1
  unfold F_X12_week at hF
  refine lv_iload_n hx hb dX12_week_0 rfl (lv_at hl 1 rfl) ?_
  refine lv_bipush (v := -99) hx hb dX12_week_1 (by decide +kernel) ?_
  refine lv_bipush (v := 99) hx hb dX12_week_3 (by decide +kernel) ?_
  obtain ⟨r1, hq1, hF⟩ := bn_1 hF
  refine x_callS C hP hS (c_X12_in hL hq1) (va_cwS 3 C.1.2.2.2.2 (gdS mw_104 mw_105 mw_5 mw_106) rfl rfl rfl hd_X12_in.2 ⟨Nat.le_of_ble_eq_true rfl, Nat.le_of_ble_eq_true rfl⟩) rfl rfl hl.1 (Nat.le_of_ble_eq_true rfl) ⟨Nat.zero_le _, Nat.zero_le _⟩ dX12_week_5 (fun H locs hP hS => ?_)
  refine lv_if_ne (tgt := 14) hx hb dX12_week_8 (by decide) (fun c_2 => ?_) (fun c_2 => ?_) -- COND 2 rcases (Decidable.em (r1 = 0)).symm with c_2 | c_2
  · have hF := ite_f hF c_2
    refine lv_aload_n hx hb dX12_week_14 rfl (lv_at hl 0 rfl) ?_
    refine get_12_1 C hP (lr_54 hL) (lk_54 hL) inlX12 mw_81 (lf_54_1 hL) dX12_week_15 ?_
    refine lv_bipush (v := 13) hx hb dX12_week_18 (by decide +kernel) ?_
    refine x_iald C hP (lr_55 hL) (lk_55 hL) (ln_55 hL) (by decide +kernel) dX12_week_20 ?_
    rw [cl_13]
    refine lv_iconst (v := 4) hx hb dX12_week_21 (by decide) ?_
    refine lv_icmp_ne (tgt := 28) hx hb dX12_week_22 (by decide) (fun c_3 => ?_) (fun c_3 => ?_) -- COND 3 rcases (Decidable.em ((σ 55 13) = (4 : Int32))).symm with c_3 | c_3
    · have hF := ite_f hF c_3
      refine lv_aload_n hx hb dX12_week_28 rfl (lv_at hl 0 rfl) ?_
      refine get_12_1 C hP (lr_54 hL) (lk_54 hL) inlX12 mw_81 (lf_54_1 hL) dX12_week_29 ?_
      refine lv_bipush (v := 74) hx hb dX12_week_32 (by decide +kernel) ?_
      refine lv_aload_n hx hb dX12_week_34 rfl (lv_at hl 0 rfl) ?_
      refine get_12_1 C hP (lr_54 hL) (lk_54 hL) inlX12 mw_81 (lf_54_1 hL) dX12_week_35 ?_
      refine lv_bipush (v := 13) hx hb dX12_week_38 (by decide +kernel) ?_
      refine x_iald C hP (lr_55 hL) (lk_55 hL) (ln_55 hL) (by decide +kernel) dX12_week_40 ?_
      rw [cl_13]
      refine lv_iadd hx hb dX12_week_41 ?_
      obtain ⟨x4, ex4, hF⟩ := nm_1 hF
      refine x_top ex4 ?_
      refine lv_iload_n hx hb dX12_week_42 rfl (lv_at hl 1 rfl) ?_
      obtain ⟨g5, hF⟩ := gd_1 hF
      obtain ⟨σ7, eσ7, hF⟩ := nm_1 hF
      refine x_iast (σ1 := σ7) C hP hS (lr_55 hL) (lk_55 hL) (ln_55 hL) g5 eσ7 dX12_week_43 (fun H locs hP hS => ?_)
      refine lv_aload_n hx hb dX12_week_44 rfl (lv_at hl 0 rfl) ?_
      refine get_12_1 C hP (lr_54 hL) (lk_54 hL) inlX12 mw_81 (lf_54_1 hL) dX12_week_45 ?_
      refine lv_bipush (v := 13) hx hb dX12_week_48 (by decide +kernel) ?_
      refine lv_dup2_11 hx hb dX12_week_50 rfl rfl ?_
      refine x_iald C hP (lr_55 hL) (lk_55 hL) (ln_55 hL) (by decide +kernel) dX12_week_51 ?_
      rw [cl_13]
      refine lv_iconst (v := 1) hx hb dX12_week_52 (by decide) ?_
      refine lv_iadd hx hb dX12_week_53 ?_
      obtain ⟨x8, ex8, hF⟩ := nm_1 hF
      refine x_top ex8 ?_
      obtain ⟨σ10, eσ10, hF⟩ := nm_1 hF
      refine x_iast (σ1 := σ10) C hP hS (lr_55 hL) (lk_55 hL) (ln_55 hL) (by decide +kernel) (by rw [cl_13]; exact eσ10) dX12_week_54 (fun H locs hP hS => ?_)
      refine lv_aload_n hx hb dX12_week_55 rfl (lv_at hl 0 rfl) ?_
      refine get_12_1 C hP (lr_54 hL) (lk_54 hL) inlX12 mw_81 (lf_54_1 hL) dX12_week_56 ?_
      refine lv_bipush (v := 13) hx hb dX12_week_59 (by decide +kernel) ?_
      refine x_iald C hP (lr_55 hL) (lk_55 hL) (ln_55 hL) (by decide +kernel) dX12_week_61 ?_
      rw [cl_13]
      obtain ⟨rfl, rfl⟩ := ret_2 hF
      subst hρ0
      exact x_iret rfl C hP hS dX12_week_62
    · have hF := ite_t hF c_3
      refine lv_bipush (v := -4) hx hb dX12_week_25 (by decide +kernel) ?_
      obtain ⟨rfl, rfl⟩ := ret_2 hF
      subst hρ0
      exact x_iret rfl C hP hS dX12_week_27
  · have hF := ite_t hF c_2
    refine lv_bipush (v := -2) hx hb dX12_week_11 (by decide +kernel) ?_
    obtain ⟨rfl, rfl⟩ := ret_2 hF
    subst hρ0
    exact x_iret rfl C hP hS dX12_week_13
set_option maxHeartbeats 4000000 in
set_option maxRecDepth 100000 in
theorem c_X12_week {a1 : Int32} {r : Int32} {σ1 : SG} {σ : SG} {ρ : RG} (hL : Lay N K len ρ) (hF : F_X12_week a1 σ ρ = some (r, σ1)) : MT l Y D N ad K len yX12_week (Cond.code yX12_week cX12_week 2 (some .int) :: wsL_law) rm_X12_week [.ref (ad 54), .int a1] σ ρ (some (.int r)) σ1 ρ := by
  refine mt_of (cc := cX12_week) (nL := 2) (ret := (some .int)) (by decide) (Nat.le_of_ble_eq_true rfl) ?_
  intro p e s m args below meth c ls C hnm hP hS hl
  exact w_X12_week_0 C rfl hL hF hP hS hl

/-! CutCrookedModel.public int clear();  -/
theorem dX12_clear_0 : decode cX12_clear 0 = .ok (.aload_n 0, 1) := by decide +kernel
theorem dX12_clear_1 : decode cX12_clear 1 = .ok (.getfield 9, 3) := by decide +kernel
theorem dX12_clear_4 : decode cX12_clear 4 = .ok (.bipush 13, 2) := by decide +kernel
theorem dX12_clear_6 : decode cX12_clear 6 = .ok (.iaload, 1) := by decide +kernel
theorem dX12_clear_7 : decode cX12_clear 7 = .ok (.istore_n 1, 1) := by decide +kernel
theorem dX12_clear_8 : decode cX12_clear 8 = .ok (.aload_n 0, 1) := by decide +kernel
theorem dX12_clear_9 : decode cX12_clear 9 = .ok (.getfield 9, 3) := by decide +kernel
theorem dX12_clear_12 : decode cX12_clear 12 = .ok (.bipush 13, 2) := by decide +kernel
theorem dX12_clear_14 : decode cX12_clear 14 = .ok (.iconst 0, 1) := by decide +kernel
theorem dX12_clear_15 : decode cX12_clear 15 = .ok (.iastore, 1) := by decide +kernel
theorem dX12_clear_16 : decode cX12_clear 16 = .ok (.iload_n 1, 1) := by decide +kernel
theorem dX12_clear_17 : decode cX12_clear 17 = .ok (.ireturn, 1) := by decide +kernel
theorem hd_X12_clear : yX12_clear.cls = RX12 ∧ yX12_clear.cls ≠ "java/lang/invoke/MethodHandle" ∧ yX12_clear.cls ≠ "java/lang/invoke/VarHandle" ∧ (parseMethodDescriptor yX12_clear.desc).map (fun d => d.parameters.length) = some 0 := by decide +kernel
abbrev rm_X12_clear : Room := { frames := 0, cells := 0, slots := 0, locals := 0 }
def F_X12_clear  (σ : SG) (ρ : RG) : Option (Int32 × SG) :=
  nm (s2 σ 55 13 (0 : Int32)) fun σ2 =>
  some ((σ 55 13), σ2)
set_option maxHeartbeats 4000000 in
set_option maxRecDepth 100000 in
theorem w_X12_clear_0  {p : Program} {e : Env} {s : State} {m : MethodId} {args : Array Value} {below : List Frame} {meth : Method} {c : Code} {ρ0 : RG} {r : Int32} {σ1 : SG} (C : Cx Y D N ad p s m args meth c cX12_clear 2 (some .int) RX12 wsL_law) {σ : SG} {ρ : RG} {H : Heap} {locs : List Loc} {ls : Array Slot} (hρ0 : ρ = ρ0) (hL : Lay N K len ρ) (hF : F_X12_clear σ ρ = some (r, σ1)) (hP : WP Y D N ad K len σ ρ H) (hS : va_S (AA N ad s.heap.size) s.heap H locs) (hl : lv_has ls 2 [(0, .ref (ad 54))]) : W p l e rm_X12_clear s m args below meth c H locs 0 0 (MQ below (QW Y D N ad K len σ1 ρ0 (AA N ad s.heap.size) (some (.int r))) args s 0 0 (AA N ad s.heap.size)) (F0 m 0 ls []) := by
  have hx := C.1.1
  have hb := C.1.2.1
  unfold F_X12_clear at hF
  refine lv_aload_n hx hb dX12_clear_0 rfl (lv_at hl 0 rfl) ?_
  refine get_12_1 C hP (lr_54 hL) (lk_54 hL) inlX12 mw_81 (lf_54_1 hL) dX12_clear_1 ?_
  refine lv_bipush (v := 13) hx hb dX12_clear_4 (by decide +kernel) ?_
  refine x_iald C hP (lr_55 hL) (lk_55 hL) (ln_55 hL) (by decide +kernel) dX12_clear_6 ?_
  rw [cl_13]
  refine lv_istore_n (lv' := [(1, .int (σ 55 13)), (0, .ref (ad 54))]) hx hb dX12_clear_7 rfl hl (by decide) rfl (fun ls hl => ?_)
  refine lv_aload_n hx hb dX12_clear_8 rfl (lv_at hl 1 rfl) ?_
  refine get_12_1 C hP (lr_54 hL) (lk_54 hL) inlX12 mw_81 (lf_54_1 hL) dX12_clear_9 ?_
  refine lv_bipush (v := 13) hx hb dX12_clear_12 (by decide +kernel) ?_
  refine lv_iconst (v := 0) hx hb dX12_clear_14 (by decide) ?_
  obtain ⟨σ2, eσ2, hF⟩ := nm_1 hF
  refine x_iast (σ1 := σ2) C hP hS (lr_55 hL) (lk_55 hL) (ln_55 hL) (by decide +kernel) (by rw [cl_13]; exact eσ2) dX12_clear_15 (fun H locs hP hS => ?_)
  refine lv_iload_n hx hb dX12_clear_16 rfl (lv_at hl 0 rfl) ?_
  obtain ⟨rfl, rfl⟩ := ret_2 hF
  subst hρ0
  exact x_iret rfl C hP hS dX12_clear_17
set_option maxHeartbeats 4000000 in
set_option maxRecDepth 100000 in
theorem c_X12_clear  {r : Int32} {σ1 : SG} {σ : SG} {ρ : RG} (hL : Lay N K len ρ) (hF : F_X12_clear σ ρ = some (r, σ1)) : MT l Y D N ad K len yX12_clear (Cond.code yX12_clear cX12_clear 2 (some .int) :: wsL_law) rm_X12_clear [.ref (ad 54)] σ ρ (some (.int r)) σ1 ρ := by
  refine mt_of (cc := cX12_clear) (nL := 2) (ret := (some .int)) (by decide) (Nat.le_of_ble_eq_true rfl) ?_
  intro p e s m args below meth c ls C hnm hP hS hl
  exact w_X12_clear_0 C rfl hL hF hP hS hl

/-! CutCrookedModel.private static long lowest(long, long, int);  -/
theorem dX12_lowest_0 : decode cX12_lowest 0 = .ok (.lload_n 0, 1) := by decide +kernel
theorem dX12_lowest_1 : decode cX12_lowest 1 = .ok (.lstore 5, 2) := by decide +kernel
theorem dX12_lowest_3 : decode cX12_lowest 3 = .ok (.lload_n 2, 1) := by decide +kernel
theorem dX12_lowest_4 : decode cX12_lowest 4 = .ok (.lstore 7, 2) := by decide +kernel
theorem dX12_lowest_6 : decode cX12_lowest 6 = .ok (.lload 7, 2) := by decide +kernel
theorem dX12_lowest_8 : decode cX12_lowest 8 = .ok (.lconst 0, 1) := by decide +kernel
theorem dX12_lowest_9 : decode cX12_lowest 9 = .ok (.lcmp, 1) := by decide +kernel
theorem dX12_lowest_10 : decode cX12_lowest 10 = .ok (.ifCond .eq 21, 3) := by decide +kernel
theorem dX12_lowest_13 : decode cX12_lowest 13 = .ok (.lload 5, 2) := by decide +kernel
theorem dX12_lowest_15 : decode cX12_lowest 15 = .ok (.lload 7, 2) := by decide +kernel
theorem dX12_lowest_17 : decode cX12_lowest 17 = .ok (.lrem, 1) := by decide +kernel
theorem dX12_lowest_18 : decode cX12_lowest 18 = .ok (.lstore 9, 2) := by decide +kernel
theorem dX12_lowest_20 : decode cX12_lowest 20 = .ok (.lload 7, 2) := by decide +kernel
theorem dX12_lowest_22 : decode cX12_lowest 22 = .ok (.lstore 5, 2) := by decide +kernel
theorem dX12_lowest_24 : decode cX12_lowest 24 = .ok (.lload 9, 2) := by decide +kernel
theorem dX12_lowest_26 : decode cX12_lowest 26 = .ok (.lstore 7, 2) := by decide +kernel
theorem dX12_lowest_28 : decode cX12_lowest 28 = .ok (.goto (-22), 3) := by decide +kernel
theorem dX12_lowest_31 : decode cX12_lowest 31 = .ok (.iload 4, 2) := by decide +kernel
theorem dX12_lowest_33 : decode cX12_lowest 33 = .ok (.ifCond .ne 7, 3) := by decide +kernel
theorem dX12_lowest_36 : decode cX12_lowest 36 = .ok (.lload_n 0, 1) := by decide +kernel
theorem dX12_lowest_37 : decode cX12_lowest 37 = .ok (.goto 4, 3) := by decide +kernel
theorem dX12_lowest_40 : decode cX12_lowest 40 = .ok (.lload_n 2, 1) := by decide +kernel
theorem dX12_lowest_41 : decode cX12_lowest 41 = .ok (.lload 5, 2) := by decide +kernel
theorem dX12_lowest_43 : decode cX12_lowest 43 = .ok (.ldiv, 1) := by decide +kernel
theorem dX12_lowest_44 : decode cX12_lowest 44 = .ok (.lreturn, 1) := by decide +kernel
theorem hd_X12_lowest : yX12_lowest.cls = RX12 ∧ yX12_lowest.cls ≠ "java/lang/invoke/MethodHandle" ∧ yX12_lowest.cls ≠ "java/lang/invoke/VarHandle" ∧ (parseMethodDescriptor yX12_lowest.desc).map (fun d => d.parameters.length) = some 3 := by decide +kernel
abbrev rm_X12_lowest : Room := { frames := 0, cells := 0, slots := 0, locals := 0 }
def F_X12_lowest_6 (a1 : Int64) (a2 : Int64) (a3 : Int32) : Nat → SG → RG → Int64 → Int64 → Int32 → Int64 → Int64 → Option (Int64)
  | 0 => fun _ _ _ _ _ _ _ => none
  | n + 1 => fun σ ρ v0 v2 v4 v5 v7 =>
  nm (lg_cmp v7 (0 : Int64)) fun x1 =>
  if x1 = 0 then
    if v4 = 0 then
      gd (decide (¬ v5 = 0)) <|
      nm (v0 / v5) fun x7 =>
      some x7
    else
      gd (decide (¬ v5 = 0)) <|
      nm (v2 / v5) fun x5 =>
      some x5
  else
    gd (decide (¬ v7 = 0)) <|
    nm (v5 - v5 / v7 * v7) fun x9 =>
    F_X12_lowest_6 a1 a2 a3 n σ ρ v0 v2 v4 v7 x9
def F_X12_lowest (a1 : Int64) (a2 : Int64) (a3 : Int32) (σ : SG) (ρ : RG) : Option (Int64) :=
  F_X12_lowest_6 a1 a2 a3 1024 σ ρ a1 a2 a3 a1 a2
set_option maxHeartbeats 4000000 in
set_option maxRecDepth 100000 in
theorem w_X12_lowest_6 {a1 : Int64} {a2 : Int64} {a3 : Int32} {p : Program} {e : Env} {s : State} {m : MethodId} {args : Array Value} {below : List Frame} {meth : Method} {c : Code} {σ0 : SG} {ρ0 : RG} {r : Int64} (C : Cx Y D N ad p s m args meth c cX12_lowest 11 (some .long) RX12 wsL_law) : ∀ (n : Nat) (σ : SG) (ρ : RG) (v0 : Int64) (v2 : Int64) (v4 : Int32) (v5 : Int64) (v7 : Int64) (H : Heap) (locs : List Loc) (ls : Array Slot), σ = σ0 → ρ = ρ0 → Lay N K len ρ → F_X12_lowest_6 a1 a2 a3 n σ ρ v0 v2 v4 v5 v7 = some r → WP Y D N ad K len σ ρ H → va_S (AA N ad s.heap.size) s.heap H locs → lv_has ls 11 [(0, .long v0), (2, .long v2), (4, .int v4), (5, .long v5), (7, .long v7)] → W p l e rm_X12_lowest s m args below meth c H locs 0 0 (MQ below (QW Y D N ad K len σ0 ρ0 (AA N ad s.heap.size) (some (.long r))) args s 0 0 (AA N ad s.heap.size)) (F0 m 6 ls []) := by
  have hx := C.1.1
  have hb := C.1.2.1
  intro n
  induction n with
  | zero => intro σ ρ v0 v2 v4 v5 v7 H locs ls hσ0 hρ0 hL hF; cases hF
  | succ n ih =>
    intro σ ρ v0 v2 v4 v5 v7 H locs ls hσ0 hρ0 hL hF hP hS hl
    unfold F_X12_lowest_6 at hF
    refine lv_lload hx hb dX12_lowest_6 (lv_at hl 4 rfl) ?_
    refine lv_lconst (v := 0) hx hb dX12_lowest_8 (by decide +kernel) ?_
    refine W.lcmp hx hb dX12_lowest_9 ?_
    obtain ⟨x1, ex1, hF⟩ := nm_1 hF
    refine x_top ex1 ?_
    refine lv_if_eq (tgt := 31) hx hb dX12_lowest_10 (by decide) (fun c_2 => ?_) (fun c_2 => ?_) -- COND 2 by_cases c_2 : x1 = 0
    · have hF := ite_t hF c_2
      refine lv_iload hx hb dX12_lowest_31 (lv_at hl 2 rfl) ?_
      refine lv_if_ne (tgt := 40) hx hb dX12_lowest_33 (by decide) (fun c_3 => ?_) (fun c_3 => ?_) -- COND 3 rcases (Decidable.em (v4 = 0)).symm with c_3 | c_3
      · have hF := ite_f hF c_3
        refine lv_lload_n hx hb dX12_lowest_40 rfl (lv_at hl 1 rfl) ?_
        refine lv_lload hx hb dX12_lowest_41 (lv_at hl 3 rfl) ?_
        obtain ⟨g4, hF⟩ := gd_1 hF
        refine lv_ldiv hx hb dX12_lowest_43 (of_decide_eq_true g4) ?_
        obtain ⟨x5, ex5, hF⟩ := nm_1 hF
        refine x_topl ex5 ?_
        obtain rfl := ret_1 hF
        subst hσ0
        subst hρ0
        exact x_lret rfl C hP hS dX12_lowest_44
      · have hF := ite_t hF c_3
        refine lv_lload_n hx hb dX12_lowest_36 rfl (lv_at hl 0 rfl) ?_
        refine lv_goto (tgt := 41) hx hb dX12_lowest_37 (by decide) ?_
        refine lv_lload hx hb dX12_lowest_41 (lv_at hl 3 rfl) ?_
        obtain ⟨g6, hF⟩ := gd_1 hF
        refine lv_ldiv hx hb dX12_lowest_43 (of_decide_eq_true g6) ?_
        obtain ⟨x7, ex7, hF⟩ := nm_1 hF
        refine x_topl ex7 ?_
        obtain rfl := ret_1 hF
        subst hσ0
        subst hρ0
        exact x_lret rfl C hP hS dX12_lowest_44
    · have hF := ite_f hF c_2
      refine lv_lload hx hb dX12_lowest_13 (lv_at hl 3 rfl) ?_
      refine lv_lload hx hb dX12_lowest_15 (lv_at hl 4 rfl) ?_
      obtain ⟨g8, hF⟩ := gd_1 hF
      refine lv_lrem hx hb dX12_lowest_17 (of_decide_eq_true g8) ?_
      obtain ⟨x9, ex9, hF⟩ := nm_1 hF
      refine x_topl ex9 ?_
      refine lv_lstore (lv' := [(9, .long x9), (0, .long v0), (2, .long v2), (4, .int v4), (5, .long v5), (7, .long v7)]) hx hb dX12_lowest_18 hl (by decide) rfl (fun ls hl => ?_)
      refine lv_lload hx hb dX12_lowest_20 (lv_at hl 5 rfl) ?_
      refine lv_lstore (lv' := [(5, .long v7), (9, .long x9), (0, .long v0), (2, .long v2), (4, .int v4), (7, .long v7)]) hx hb dX12_lowest_22 hl (by decide) rfl (fun ls hl => ?_)
      refine lv_lload hx hb dX12_lowest_24 (lv_at hl 1 rfl) ?_
      refine lv_lstore (lv' := [(7, .long x9), (5, .long v7), (9, .long x9), (0, .long v0), (2, .long v2), (4, .int v4)]) hx hb dX12_lowest_26 hl (by decide) rfl (fun ls hl => ?_)
      refine lv_goto (tgt := 6) hx hb dX12_lowest_28 (by decide) ?_
      exact ih _ _ _ _ _ _ _ _ _ _ hσ0 hρ0 hL hF hP hS (lv_sub hl [3, 4, 5, 1, 0] rfl)
set_option maxHeartbeats 4000000 in
set_option maxRecDepth 100000 in
theorem w_X12_lowest_0 {a1 : Int64} {a2 : Int64} {a3 : Int32} {p : Program} {e : Env} {s : State} {m : MethodId} {args : Array Value} {below : List Frame} {meth : Method} {c : Code} {σ0 : SG} {ρ0 : RG} {r : Int64} (C : Cx Y D N ad p s m args meth c cX12_lowest 11 (some .long) RX12 wsL_law) {σ : SG} {ρ : RG} {H : Heap} {locs : List Loc} {ls : Array Slot} (hσ0 : σ = σ0) (hρ0 : ρ = ρ0) (hL : Lay N K len ρ) (hF : F_X12_lowest a1 a2 a3 σ ρ = some r) (hP : WP Y D N ad K len σ ρ H) (hS : va_S (AA N ad s.heap.size) s.heap H locs) (hl : lv_has ls 11 [(0, .long a1), (2, .long a2), (4, .int a3)]) : W p l e rm_X12_lowest s m args below meth c H locs 0 0 (MQ below (QW Y D N ad K len σ0 ρ0 (AA N ad s.heap.size) (some (.long r))) args s 0 0 (AA N ad s.heap.size)) (F0 m 0 ls []) := by
  have hx := C.1.1
  have hb := C.1.2.1
  unfold F_X12_lowest at hF
  refine lv_lload_n hx hb dX12_lowest_0 rfl (lv_at hl 0 rfl) ?_
  refine lv_lstore (lv' := [(5, .long a1), (0, .long a1), (2, .long a2), (4, .int a3)]) hx hb dX12_lowest_1 hl (by decide) rfl (fun ls hl => ?_)
  refine lv_lload_n hx hb dX12_lowest_3 rfl (lv_at hl 2 rfl) ?_
  refine lv_lstore (lv' := [(7, .long a2), (5, .long a1), (0, .long a1), (2, .long a2), (4, .int a3)]) hx hb dX12_lowest_4 hl (by decide) rfl (fun ls hl => ?_)
  exact w_X12_lowest_6 C 1024 _ _ _ _ _ _ _ _ _ _ hσ0 hρ0 hL hF hP hS (lv_sub hl [2, 3, 4, 1, 0] rfl)
set_option maxHeartbeats 4000000 in
set_option maxRecDepth 100000 in
theorem c_X12_lowest {a1 : Int64} {a2 : Int64} {a3 : Int32} {r : Int64} {σ : SG} {ρ : RG} (hL : Lay N K len ρ) (hF : F_X12_lowest a1 a2 a3 σ ρ = some r) : MT l Y D N ad K len yX12_lowest (Cond.code yX12_lowest cX12_lowest 11 (some .long) :: wsL_law) rm_X12_lowest [.long a1, .long a2, .int a3] σ ρ (some (.long r)) σ ρ := by
  refine mt_of (cc := cX12_lowest) (nL := 11) (ret := (some .long)) (by decide) (Nat.le_of_ble_eq_true rfl) ?_
  intro p e s m args below meth c ls C hnm hP hS hl
  exact w_X12_lowest_0 C rfl rfl hL hF hP hS hl

/-! CutCrookedModel.public long mean(int);  -/
theorem dX12_mean_0 : decode cX12_mean 0 = .ok (.iload_n 1, 1) := by decide +kernel
theorem dX12_mean_1 : decode cX12_mean 1 = .ok (.iconst 0, 1) := by decide +kernel
theorem dX12_mean_2 : decode cX12_mean 2 = .ok (.iconst 1, 1) := by decide +kernel
theorem dX12_mean_3 : decode cX12_mean 3 = .ok (.invokestatic 47, 3) := by decide +kernel
theorem dX12_mean_6 : decode cX12_mean 6 = .ok (.ifCond .eq 13, 3) := by decide +kernel
theorem dX12_mean_9 : decode cX12_mean 9 = .ok (.aload_n 0, 1) := by decide +kernel
theorem dX12_mean_10 : decode cX12_mean 10 = .ok (.getfield 9, 3) := by decide +kernel
theorem dX12_mean_13 : decode cX12_mean 13 = .ok (.bipush 11, 2) := by decide +kernel
theorem dX12_mean_15 : decode cX12_mean 15 = .ok (.iaload, 1) := by decide +kernel
theorem dX12_mean_16 : decode cX12_mean 16 = .ok (.ifCond .ne 7, 3) := by decide +kernel
theorem dX12_mean_19 : decode cX12_mean 19 = .ok (.ldc2_w 246, 3) := by decide +kernel
theorem dX12_mean_22 : decode cX12_mean 22 = .ok (.lreturn, 1) := by decide +kernel
theorem dX12_mean_23 : decode cX12_mean 23 = .ok (.lconst 0, 1) := by decide +kernel
theorem dX12_mean_24 : decode cX12_mean 24 = .ok (.lstore_n 2, 1) := by decide +kernel
theorem dX12_mean_25 : decode cX12_mean 25 = .ok (.aload_n 0, 1) := by decide +kernel
theorem dX12_mean_26 : decode cX12_mean 26 = .ok (.invokevirtual 191, 3) := by decide +kernel
theorem dX12_mean_29 : decode cX12_mean 29 = .ok (.iconst 0, 1) := by decide +kernel
theorem dX12_mean_30 : decode cX12_mean 30 = .ok (.istore 4, 2) := by decide +kernel
theorem dX12_mean_32 : decode cX12_mean 32 = .ok (.iload 4, 2) := by decide +kernel
theorem dX12_mean_34 : decode cX12_mean 34 = .ok (.aload_n 0, 1) := by decide +kernel
theorem dX12_mean_35 : decode cX12_mean 35 = .ok (.getfield 9, 3) := by decide +kernel
theorem dX12_mean_38 : decode cX12_mean 38 = .ok (.bipush 11, 2) := by decide +kernel
theorem dX12_mean_40 : decode cX12_mean 40 = .ok (.iaload, 1) := by decide +kernel
theorem dX12_mean_41 : decode cX12_mean 41 = .ok (.if_icmp .ge 44, 3) := by decide +kernel
theorem dX12_mean_44 : decode cX12_mean 44 = .ok (.lload_n 2, 1) := by decide +kernel
theorem dX12_mean_45 : decode cX12_mean 45 = .ok (.aload_n 0, 1) := by decide +kernel
theorem dX12_mean_46 : decode cX12_mean 46 = .ok (.iload 4, 2) := by decide +kernel
theorem dX12_mean_48 : decode cX12_mean 48 = .ok (.aload_n 0, 1) := by decide +kernel
theorem dX12_mean_49 : decode cX12_mean 49 = .ok (.getfield 9, 3) := by decide +kernel
theorem dX12_mean_52 : decode cX12_mean 52 = .ok (.bipush 44, 2) := by decide +kernel
theorem dX12_mean_54 : decode cX12_mean 54 = .ok (.iload 4, 2) := by decide +kernel
theorem dX12_mean_56 : decode cX12_mean 56 = .ok (.iadd, 1) := by decide +kernel
theorem dX12_mean_57 : decode cX12_mean 57 = .ok (.iaload, 1) := by decide +kernel
theorem dX12_mean_58 : decode cX12_mean 58 = .ok (.invokevirtual 187, 3) := by decide +kernel
theorem dX12_mean_61 : decode cX12_mean 61 = .ok (.ifCond .eq 11, 3) := by decide +kernel
theorem dX12_mean_64 : decode cX12_mean 64 = .ok (.aload_n 0, 1) := by decide +kernel
theorem dX12_mean_65 : decode cX12_mean 65 = .ok (.getfield 177, 3) := by decide +kernel
theorem dX12_mean_68 : decode cX12_mean 68 = .ok (.i2l, 1) := by decide +kernel
theorem dX12_mean_69 : decode cX12_mean 69 = .ok (.goto 4, 3) := by decide +kernel
theorem dX12_mean_72 : decode cX12_mean 72 = .ok (.lconst 0, 1) := by decide +kernel
theorem dX12_mean_73 : decode cX12_mean 73 = .ok (.ladd, 1) := by decide +kernel
theorem dX12_mean_74 : decode cX12_mean 74 = .ok (.lstore_n 2, 1) := by decide +kernel
theorem dX12_mean_75 : decode cX12_mean 75 = .ok (.aload_n 0, 1) := by decide +kernel
theorem dX12_mean_76 : decode cX12_mean 76 = .ok (.invokevirtual 194, 3) := by decide +kernel
theorem dX12_mean_79 : decode cX12_mean 79 = .ok (.iinc 4 1, 3) := by decide +kernel
theorem dX12_mean_82 : decode cX12_mean 82 = .ok (.goto (-50), 3) := by decide +kernel
theorem dX12_mean_85 : decode cX12_mean 85 = .ok (.lload_n 2, 1) := by decide +kernel
theorem dX12_mean_86 : decode cX12_mean 86 = .ok (.aload_n 0, 1) := by decide +kernel
theorem dX12_mean_87 : decode cX12_mean 87 = .ok (.getfield 9, 3) := by decide +kernel
theorem dX12_mean_90 : decode cX12_mean 90 = .ok (.bipush 11, 2) := by decide +kernel
theorem dX12_mean_92 : decode cX12_mean 92 = .ok (.iaload, 1) := by decide +kernel
theorem dX12_mean_93 : decode cX12_mean 93 = .ok (.i2l, 1) := by decide +kernel
theorem dX12_mean_94 : decode cX12_mean 94 = .ok (.iload_n 1, 1) := by decide +kernel
theorem dX12_mean_95 : decode cX12_mean 95 = .ok (.invokestatic 248, 3) := by decide +kernel
theorem dX12_mean_98 : decode cX12_mean 98 = .ok (.lreturn, 1) := by decide +kernel
theorem hd_X12_mean : yX12_mean.cls = RX12 ∧ yX12_mean.cls ≠ "java/lang/invoke/MethodHandle" ∧ yX12_mean.cls ≠ "java/lang/invoke/VarHandle" ∧ (parseMethodDescriptor yX12_mean.desc).map (fun d => d.parameters.length) = some 1 := by decide +kernel
abbrev rm_X12_mean : Room := { frames := 4, cells := 0, slots := 0, locals := 93 }
def F_X12_mean_73 (a1 : Int32) (rec_32 : SG → RG → Int32 → Int64 → Int32 → Option (Int64 × SG)) (σ : SG) (ρ : RG) (v1 : Int32) (v4 : Int32) (k0 : Int64) (k1 : Int64) : Option (Int64 × SG) :=
  nm (k0 + k1) fun x11 =>
  bn (F_X12_goesBack σ ρ) fun σ12 =>
  nm (v4 + (1 : Int32)) fun x13 =>
  rec_32 σ12 ρ v1 x11 x13
def F_X12_mean_32 (a1 : Int32) : Nat → SG → RG → Int32 → Int64 → Int32 → Option (Int64 × SG)
  | 0 => fun _ _ _ _ _ => none
  | n + 1 => fun σ ρ v1 v2 v4 =>
  if (σ 55 11) ≤ v4 then
    bn (F_X12_lowest v2 ((σ 55 11)).toInt64 v1 σ ρ) fun r6 =>
    some (r6, σ)
  else
    nm ((44 : Int32) + v4) fun x7 =>
    gd (inb x7 909) <|
    bn2 (F_X12_cuts v4 (σ 55 (x7).toNatClampNeg) σ ρ) fun r9 σ9 =>
    if r9 = 0 then
      F_X12_mean_73 a1 (F_X12_mean_32 a1 n) σ9 ρ v1 v4 v2 (0 : Int64)
    else
      F_X12_mean_73 a1 (F_X12_mean_32 a1 n) σ9 ρ v1 v4 v2 ((σ9 54 14)).toInt64
def F_X12_mean (a1 : Int32) (σ : SG) (ρ : RG) : Option (Int64 × SG) :=
  bn (F_X12_in a1 (0 : Int32) (1 : Int32) σ ρ) fun r1 =>
  if r1 = 0 then
    some ((-9223372036854775808 : Int64), σ)
  else
    if (σ 55 11) = 0 then
      some ((-9223372036854775808 : Int64), σ)
    else
      bn (F_X12_keeps σ ρ) fun σ4 =>
      F_X12_mean_32 a1 1024 σ4 ρ a1 (0 : Int64) (0 : Int32)
set_option maxHeartbeats 4000000 in
set_option maxRecDepth 100000 in
theorem w_X12_mean_73 {a1 : Int32} {rec_32 : SG → RG → Int32 → Int64 → Int32 → Option (Int64 × SG)} {p : Program} {e : Env} {s : State} {m : MethodId} {args : Array Value} {below : List Frame} {meth : Method} {c : Code} {ρ0 : RG} {r : Int64} {σ1 : SG} (C : Cx Y D N ad p s m args meth c cX12_mean 5 (some .long) RX12 wsL_law) (hrec_32 : ∀ (σ : SG) (ρ : RG) (v1 : Int32) (v2 : Int64) (v4 : Int32) (H : Heap) (locs : List Loc) (ls : Array Slot), ρ = ρ0 → Lay N K len ρ → rec_32 σ ρ v1 v2 v4 = some (r, σ1) → WP Y D N ad K len σ ρ H → va_S (AA N ad s.heap.size) s.heap H locs → lv_has ls 5 [(0, .ref (ad 54)), (1, .int v1), (2, .long v2), (4, .int v4)] → W p l e rm_X12_mean s m args below meth c H locs 0 0 (MQ below (QW Y D N ad K len σ1 ρ0 (AA N ad s.heap.size) (some (.long r))) args s 0 0 (AA N ad s.heap.size)) (F0 m 32 ls [])) {σ : SG} {ρ : RG} {v1 : Int32} {v4 : Int32} {k0 : Int64} {k1 : Int64} {H : Heap} {locs : List Loc} {ls : Array Slot} (hρ0 : ρ = ρ0) (hL : Lay N K len ρ) (hF : F_X12_mean_73 a1 rec_32 σ ρ v1 v4 k0 k1 = some (r, σ1)) (hP : WP Y D N ad K len σ ρ H) (hS : va_S (AA N ad s.heap.size) s.heap H locs) (hl : lv_has ls 5 [(0, .ref (ad 54)), (1, .int v1), (4, .int v4)]) : W p l e rm_X12_mean s m args below meth c H locs 0 0 (MQ below (QW Y D N ad K len σ1 ρ0 (AA N ad s.heap.size) (some (.long r))) args s 0 0 (AA N ad s.heap.size)) (F0 m 73 ls [.long k1, .long k0]) := by
  have hx := C.1.1
  have hb := C.1.2.1
  unfold F_X12_mean_73 at hF
  refine lv_ladd hx hb dX12_mean_73 ?_
  obtain ⟨x11, ex11, hF⟩ := nm_1 hF
  refine x_topl ex11 ?_
  refine lv_lstore_n (lv' := [(2, .long x11), (0, .ref (ad 54)), (1, .int v1), (4, .int v4)]) hx hb dX12_mean_74 rfl hl (by decide) rfl (fun ls hl => ?_)
  refine lv_aload_n hx hb dX12_mean_75 rfl (lv_at hl 1 rfl) ?_
  obtain ⟨σ12, hq12, hF⟩ := bn_1 hF
  refine x_callV (ci := 12) rfl rfl C hP hS (c_X12_goesBack hL hq12) (lr_54 hL) (lk_54 hL) (cwV 0 C.1.2.2.2.2 (gdV mw_736 mw_737 mw_738 mw_5 mw_739) rfl rfl rfl hd_X12_goesBack ⟨Nat.le_of_ble_eq_true rfl, Nat.le_of_ble_eq_true rfl⟩) rfl rfl hl.1 (Nat.le_of_ble_eq_true rfl) ⟨Nat.zero_le _, Nat.zero_le _⟩ dX12_mean_76 (fun H locs hP hS => ?_)
  obtain ⟨x13, ex13, hF⟩ := nm_1 hF
  refine lv_iinc (v := x13) (lv' := [(4, .int x13), (2, .long x11), (0, .ref (ad 54)), (1, .int v1)]) hx hb dX12_mean_79 hl (k := 3) rfl (by rw [ex13]; first | rfl | decide) (by decide) rfl (fun ls hl => ?_)
  refine lv_goto (tgt := 32) hx hb dX12_mean_82 (by decide) ?_
  exact hrec_32 _ _ _ _ _ _ _ _ hρ0 hL hF hP hS (lv_sub hl [2, 3, 1, 0] rfl)
set_option maxHeartbeats 4000000 in
set_option maxRecDepth 100000 in
theorem w_X12_mean_32 {a1 : Int32} {p : Program} {e : Env} {s : State} {m : MethodId} {args : Array Value} {below : List Frame} {meth : Method} {c : Code} {ρ0 : RG} {r : Int64} {σ1 : SG} (C : Cx Y D N ad p s m args meth c cX12_mean 5 (some .long) RX12 wsL_law) : ∀ (n : Nat) (σ : SG) (ρ : RG) (v1 : Int32) (v2 : Int64) (v4 : Int32) (H : Heap) (locs : List Loc) (ls : Array Slot), ρ = ρ0 → Lay N K len ρ → F_X12_mean_32 a1 n σ ρ v1 v2 v4 = some (r, σ1) → WP Y D N ad K len σ ρ H → va_S (AA N ad s.heap.size) s.heap H locs → lv_has ls 5 [(0, .ref (ad 54)), (1, .int v1), (2, .long v2), (4, .int v4)] → W p l e rm_X12_mean s m args below meth c H locs 0 0 (MQ below (QW Y D N ad K len σ1 ρ0 (AA N ad s.heap.size) (some (.long r))) args s 0 0 (AA N ad s.heap.size)) (F0 m 32 ls []) := by
  have hx := C.1.1
  have hb := C.1.2.1
  intro n
  induction n with
  | zero => intro σ ρ v1 v2 v4 H locs ls hρ0 hL hF; cases hF
  | succ n ih =>
    intro σ ρ v1 v2 v4 H locs ls hρ0 hL hF hP hS hl
    unfold F_X12_mean_32 at hF
    refine lv_iload hx hb dX12_mean_32 (lv_at hl 3 rfl) ?_
    refine lv_aload_n hx hb dX12_mean_34 rfl (lv_at hl 0 rfl) ?_
    refine get_12_1 C hP (lr_54 hL) (lk_54 hL) inlX12 mw_81 (lf_54_1 hL) dX12_mean_35 ?_
    refine lv_bipush (v := 11) hx hb dX12_mean_38 (by decide +kernel) ?_
    refine x_iald C hP (lr_55 hL) (lk_55 hL) (ln_55 hL) (by decide +kernel) dX12_mean_40 ?_
    rw [cl_11]
    refine lv_icmp_ge (tgt := 85) hx hb dX12_mean_41 (by decide) (fun c_5 => ?_) (fun c_5 => ?_) -- COND 5 by_cases c_5 : (σ 55 11) ≤ v4
    · have hF := ite_t hF c_5
      refine lv_lload_n hx hb dX12_mean_85 rfl (lv_at hl 2 rfl) ?_
      refine lv_aload_n hx hb dX12_mean_86 rfl (lv_at hl 0 rfl) ?_
      refine get_12_1 C hP (lr_54 hL) (lk_54 hL) inlX12 mw_81 (lf_54_1 hL) dX12_mean_87 ?_
      refine lv_bipush (v := 11) hx hb dX12_mean_90 (by decide +kernel) ?_
      refine x_iald C hP (lr_55 hL) (lk_55 hL) (ln_55 hL) (by decide +kernel) dX12_mean_92 ?_
      rw [cl_11]
      refine lv_i2l (v := ((σ 55 11)).toInt64) hx hb dX12_mean_93 rfl ?_
      refine lv_iload_n hx hb dX12_mean_94 rfl (lv_at hl 1 rfl) ?_
      obtain ⟨r6, hq6, hF⟩ := bn_1 hF
      refine x_callS C hP hS (c_X12_lowest hL hq6) (va_cwS 3 C.1.2.2.2.2 (gdS mw_972 mw_973 mw_5 mw_974) rfl rfl rfl hd_X12_lowest.2 ⟨Nat.le_of_ble_eq_true rfl, Nat.le_of_ble_eq_true rfl⟩) rfl rfl hl.1 (Nat.le_of_ble_eq_true rfl) ⟨Nat.zero_le _, Nat.zero_le _⟩ dX12_mean_95 (fun H locs hP hS => ?_)
      obtain ⟨rfl, rfl⟩ := ret_2 hF
      subst hρ0
      exact x_lret rfl C hP hS dX12_mean_98
    · have hF := ite_f hF c_5
      refine lv_lload_n hx hb dX12_mean_44 rfl (lv_at hl 2 rfl) ?_
      refine lv_aload_n hx hb dX12_mean_45 rfl (lv_at hl 0 rfl) ?_
      refine lv_iload hx hb dX12_mean_46 (lv_at hl 3 rfl) ?_
      refine lv_aload_n hx hb dX12_mean_48 rfl (lv_at hl 0 rfl) ?_
      refine get_12_1 C hP (lr_54 hL) (lk_54 hL) inlX12 mw_81 (lf_54_1 hL) dX12_mean_49 ?_
      refine lv_bipush (v := 44) hx hb dX12_mean_52 (by decide +kernel) ?_
      refine lv_iload hx hb dX12_mean_54 (lv_at hl 3 rfl) ?_
      refine lv_iadd hx hb dX12_mean_56 ?_
      obtain ⟨x7, ex7, hF⟩ := nm_1 hF
      refine x_top ex7 ?_
      obtain ⟨g8, hF⟩ := gd_1 hF
      refine x_iald C hP (lr_55 hL) (lk_55 hL) (ln_55 hL) g8 dX12_mean_57 ?_
      obtain ⟨r9, σ9, hq9, hF⟩ := bn2_1 hF
      refine x_callV (ci := 12) rfl rfl C hP hS (c_X12_cuts hL hq9) (lr_54 hL) (lk_54 hL) (cwV 2 C.1.2.2.2.2 (gdV mw_652 mw_653 mw_654 mw_5 mw_655) rfl rfl rfl hd_X12_cuts ⟨Nat.le_of_ble_eq_true rfl, Nat.le_of_ble_eq_true rfl⟩) rfl rfl hl.1 (Nat.le_of_ble_eq_true rfl) ⟨Nat.zero_le _, Nat.zero_le _⟩ dX12_mean_58 (fun H locs hP hS => ?_)
      refine lv_if_eq (tgt := 72) hx hb dX12_mean_61 (by decide) (fun c_10 => ?_) (fun c_10 => ?_) -- COND 10 by_cases c_10 : r9 = 0
      · have hF := ite_t hF c_10
        refine lv_lconst (v := 0) hx hb dX12_mean_72 (by decide +kernel) ?_
        exact w_X12_mean_73 C ih hρ0 hL hF hP hS (lv_sub hl [0, 1, 3] rfl)
      · have hF := ite_f hF c_10
        refine lv_aload_n hx hb dX12_mean_64 rfl (lv_at hl 0 rfl) ?_
        refine get_12_14 C hP (lr_54 hL) (lk_54 hL) inlX12 mw_651 dX12_mean_65 ?_
        refine lv_i2l (v := ((σ9 54 14)).toInt64) hx hb dX12_mean_68 rfl ?_
        refine lv_goto (tgt := 73) hx hb dX12_mean_69 (by decide) ?_
        exact w_X12_mean_73 C ih hρ0 hL hF hP hS (lv_sub hl [0, 1, 3] rfl)
set_option maxHeartbeats 4000000 in
set_option maxRecDepth 100000 in
theorem w_X12_mean_0 {a1 : Int32} {p : Program} {e : Env} {s : State} {m : MethodId} {args : Array Value} {below : List Frame} {meth : Method} {c : Code} {ρ0 : RG} {r : Int64} {σ1 : SG} (C : Cx Y D N ad p s m args meth c cX12_mean 5 (some .long) RX12 wsL_law) {σ : SG} {ρ : RG} {H : Heap} {locs : List Loc} {ls : Array Slot} (hρ0 : ρ = ρ0) (hL : Lay N K len ρ) (hF : F_X12_mean a1 σ ρ = some (r, σ1)) (hP : WP Y D N ad K len σ ρ H) (hS : va_S (AA N ad s.heap.size) s.heap H locs) (hl : lv_has ls 5 [(0, .ref (ad 54)), (1, .int a1)]) : W p l e rm_X12_mean s m args below meth c H locs 0 0 (MQ below (QW Y D N ad K len σ1 ρ0 (AA N ad s.heap.size) (some (.long r))) args s 0 0 (AA N ad s.heap.size)) (F0 m 0 ls []) := by
  have hx := C.1.1
  have hb := C.1.2.1
  unfold F_X12_mean at hF
  refine lv_iload_n hx hb dX12_mean_0 rfl (lv_at hl 1 rfl) ?_
  refine lv_iconst (v := 0) hx hb dX12_mean_1 (by decide) ?_
  refine lv_iconst (v := 1) hx hb dX12_mean_2 (by decide) ?_
  obtain ⟨r1, hq1, hF⟩ := bn_1 hF
  refine x_callS C hP hS (c_X12_in hL hq1) (va_cwS 3 C.1.2.2.2.2 (gdS mw_104 mw_105 mw_5 mw_106) rfl rfl rfl hd_X12_in.2 ⟨Nat.le_of_ble_eq_true rfl, Nat.le_of_ble_eq_true rfl⟩) rfl rfl hl.1 (Nat.le_of_ble_eq_true rfl) ⟨Nat.zero_le _, Nat.zero_le _⟩ dX12_mean_3 (fun H locs hP hS => ?_)
  refine lv_if_eq (tgt := 19) hx hb dX12_mean_6 (by decide) (fun c_2 => ?_) (fun c_2 => ?_) -- COND 2 by_cases c_2 : r1 = 0
  · have hF := ite_t hF c_2
    refine lv_ldc2 hx hb (C.1.2.2.2.1) (C.1.2.2.2.2 _ mw_967) dX12_mean_19 ?_
    obtain ⟨rfl, rfl⟩ := ret_2 hF
    subst hρ0
    exact x_lret rfl C hP hS dX12_mean_22
  · have hF := ite_f hF c_2
    refine lv_aload_n hx hb dX12_mean_9 rfl (lv_at hl 0 rfl) ?_
    refine get_12_1 C hP (lr_54 hL) (lk_54 hL) inlX12 mw_81 (lf_54_1 hL) dX12_mean_10 ?_
    refine lv_bipush (v := 11) hx hb dX12_mean_13 (by decide +kernel) ?_
    refine x_iald C hP (lr_55 hL) (lk_55 hL) (ln_55 hL) (by decide +kernel) dX12_mean_15 ?_
    rw [cl_11]
    refine lv_if_ne (tgt := 23) hx hb dX12_mean_16 (by decide) (fun c_3 => ?_) (fun c_3 => ?_) -- COND 3 rcases (Decidable.em ((σ 55 11) = 0)).symm with c_3 | c_3
    · have hF := ite_f hF c_3
      refine lv_lconst (v := 0) hx hb dX12_mean_23 (by decide +kernel) ?_
      refine lv_lstore_n (lv' := [(2, .long (0 : Int64)), (0, .ref (ad 54)), (1, .int a1)]) hx hb dX12_mean_24 rfl hl (by decide) rfl (fun ls hl => ?_)
      refine lv_aload_n hx hb dX12_mean_25 rfl (lv_at hl 1 rfl) ?_
      obtain ⟨σ4, hq4, hF⟩ := bn_1 hF
      refine x_callV (ci := 12) rfl rfl C hP hS (c_X12_keeps hL hq4) (lr_54 hL) (lk_54 hL) (cwV 0 C.1.2.2.2.2 (gdV mw_732 mw_733 mw_734 mw_5 mw_735) rfl rfl rfl hd_X12_keeps ⟨Nat.le_of_ble_eq_true rfl, Nat.le_of_ble_eq_true rfl⟩) rfl rfl hl.1 (Nat.le_of_ble_eq_true rfl) ⟨Nat.zero_le _, Nat.zero_le _⟩ dX12_mean_26 (fun H locs hP hS => ?_)
      refine lv_iconst (v := 0) hx hb dX12_mean_29 (by decide) ?_
      refine lv_istore (lv' := [(4, .int (0 : Int32)), (2, .long (0 : Int64)), (0, .ref (ad 54)), (1, .int a1)]) hx hb dX12_mean_30 hl (by decide) rfl (fun ls hl => ?_)
      exact w_X12_mean_32 C 1024 _ _ _ _ _ _ _ _ hρ0 hL hF hP hS (lv_sub hl [2, 3, 1, 0] rfl)
    · have hF := ite_t hF c_3
      refine lv_ldc2 hx hb (C.1.2.2.2.1) (C.1.2.2.2.2 _ mw_967) dX12_mean_19 ?_
      obtain ⟨rfl, rfl⟩ := ret_2 hF
      subst hρ0
      exact x_lret rfl C hP hS dX12_mean_22
set_option maxHeartbeats 4000000 in
set_option maxRecDepth 100000 in
theorem c_X12_mean {a1 : Int32} {r : Int64} {σ1 : SG} {σ : SG} {ρ : RG} (hL : Lay N K len ρ) (hF : F_X12_mean a1 σ ρ = some (r, σ1)) : MT l Y D N ad K len yX12_mean (Cond.code yX12_mean cX12_mean 5 (some .long) :: wsL_law) rm_X12_mean [.ref (ad 54), .int a1] σ ρ (some (.long r)) σ1 ρ := by
  refine mt_of (cc := cX12_mean) (nL := 5) (ret := (some .long)) (by decide) (Nat.le_of_ble_eq_true rfl) ?_
  intro p e s m args below meth c ls C hnm hP hS hl
  exact w_X12_mean_0 C rfl hL hF hP hS hl

/-! CutCrookedModel.public int book(int, int);  -/
theorem dX12_book_0 : decode cX12_book 0 = .ok (.iload_n 1, 1) := by decide +kernel
theorem dX12_book_1 : decode cX12_book 1 = .ok (.iconst (-1), 1) := by decide +kernel
theorem dX12_book_2 : decode cX12_book 2 = .ok (.if_icmp .ne 13, 3) := by decide +kernel
theorem dX12_book_5 : decode cX12_book 5 = .ok (.aload_n 0, 1) := by decide +kernel
theorem dX12_book_6 : decode cX12_book 6 = .ok (.getfield 9, 3) := by decide +kernel
theorem dX12_book_9 : decode cX12_book 9 = .ok (.bipush 14, 2) := by decide +kernel
theorem dX12_book_11 : decode cX12_book 11 = .ok (.iconst 0, 1) := by decide +kernel
theorem dX12_book_12 : decode cX12_book 12 = .ok (.iastore, 1) := by decide +kernel
theorem dX12_book_13 : decode cX12_book 13 = .ok (.iconst 0, 1) := by decide +kernel
theorem dX12_book_14 : decode cX12_book 14 = .ok (.ireturn, 1) := by decide +kernel
theorem dX12_book_15 : decode cX12_book 15 = .ok (.aload_n 0, 1) := by decide +kernel
theorem dX12_book_16 : decode cX12_book 16 = .ok (.iload_n 1, 1) := by decide +kernel
theorem dX12_book_17 : decode cX12_book 17 = .ok (.invokevirtual 143, 3) := by decide +kernel
theorem dX12_book_20 : decode cX12_book 20 = .ok (.ifCond .ne 5, 3) := by decide +kernel
theorem dX12_book_23 : decode cX12_book 23 = .ok (.iconst (-1), 1) := by decide +kernel
theorem dX12_book_24 : decode cX12_book 24 = .ok (.ireturn, 1) := by decide +kernel
theorem dX12_book_25 : decode cX12_book 25 = .ok (.iload_n 2, 1) := by decide +kernel
theorem dX12_book_26 : decode cX12_book 26 = .ok (.iconst 0, 1) := by decide +kernel
theorem dX12_book_27 : decode cX12_book 27 = .ok (.sipush 999, 3) := by decide +kernel
theorem dX12_book_30 : decode cX12_book 30 = .ok (.invokestatic 47, 3) := by decide +kernel
theorem dX12_book_33 : decode cX12_book 33 = .ok (.ifCond .ne 6, 3) := by decide +kernel
theorem dX12_book_36 : decode cX12_book 36 = .ok (.bipush (-2), 2) := by decide +kernel
theorem dX12_book_38 : decode cX12_book 38 = .ok (.ireturn, 1) := by decide +kernel
theorem dX12_book_39 : decode cX12_book 39 = .ok (.aload_n 0, 1) := by decide +kernel
theorem dX12_book_40 : decode cX12_book 40 = .ok (.getfield 9, 3) := by decide +kernel
theorem dX12_book_43 : decode cX12_book 43 = .ok (.bipush 14, 2) := by decide +kernel
theorem dX12_book_45 : decode cX12_book 45 = .ok (.iaload, 1) := by decide +kernel
theorem dX12_book_46 : decode cX12_book 46 = .ok (.bipush 8, 2) := by decide +kernel
theorem dX12_book_48 : decode cX12_book 48 = .ok (.if_icmp .ne 6, 3) := by decide +kernel
theorem dX12_book_51 : decode cX12_book 51 = .ok (.bipush (-4), 2) := by decide +kernel
theorem dX12_book_53 : decode cX12_book 53 = .ok (.ireturn, 1) := by decide +kernel
theorem dX12_book_54 : decode cX12_book 54 = .ok (.aload_n 0, 1) := by decide +kernel
theorem dX12_book_55 : decode cX12_book 55 = .ok (.getfield 9, 3) := by decide +kernel
theorem dX12_book_58 : decode cX12_book 58 = .ok (.bipush 78, 2) := by decide +kernel
theorem dX12_book_60 : decode cX12_book 60 = .ok (.aload_n 0, 1) := by decide +kernel
theorem dX12_book_61 : decode cX12_book 61 = .ok (.getfield 9, 3) := by decide +kernel
theorem dX12_book_64 : decode cX12_book 64 = .ok (.bipush 14, 2) := by decide +kernel
theorem dX12_book_66 : decode cX12_book 66 = .ok (.iaload, 1) := by decide +kernel
theorem dX12_book_67 : decode cX12_book 67 = .ok (.iadd, 1) := by decide +kernel
theorem dX12_book_68 : decode cX12_book 68 = .ok (.iload_n 1, 1) := by decide +kernel
theorem dX12_book_69 : decode cX12_book 69 = .ok (.iastore, 1) := by decide +kernel
theorem dX12_book_70 : decode cX12_book 70 = .ok (.aload_n 0, 1) := by decide +kernel
theorem dX12_book_71 : decode cX12_book 71 = .ok (.getfield 9, 3) := by decide +kernel
theorem dX12_book_74 : decode cX12_book 74 = .ok (.bipush 86, 2) := by decide +kernel
theorem dX12_book_76 : decode cX12_book 76 = .ok (.aload_n 0, 1) := by decide +kernel
theorem dX12_book_77 : decode cX12_book 77 = .ok (.getfield 9, 3) := by decide +kernel
theorem dX12_book_80 : decode cX12_book 80 = .ok (.bipush 14, 2) := by decide +kernel
theorem dX12_book_82 : decode cX12_book 82 = .ok (.iaload, 1) := by decide +kernel
theorem dX12_book_83 : decode cX12_book 83 = .ok (.iadd, 1) := by decide +kernel
theorem dX12_book_84 : decode cX12_book 84 = .ok (.iload_n 2, 1) := by decide +kernel
theorem dX12_book_85 : decode cX12_book 85 = .ok (.iastore, 1) := by decide +kernel
theorem dX12_book_86 : decode cX12_book 86 = .ok (.aload_n 0, 1) := by decide +kernel
theorem dX12_book_87 : decode cX12_book 87 = .ok (.getfield 9, 3) := by decide +kernel
theorem dX12_book_90 : decode cX12_book 90 = .ok (.bipush 14, 2) := by decide +kernel
theorem dX12_book_92 : decode cX12_book 92 = .ok (.dup2, 1) := by decide +kernel
theorem dX12_book_93 : decode cX12_book 93 = .ok (.iaload, 1) := by decide +kernel
theorem dX12_book_94 : decode cX12_book 94 = .ok (.iconst 1, 1) := by decide +kernel
theorem dX12_book_95 : decode cX12_book 95 = .ok (.iadd, 1) := by decide +kernel
theorem dX12_book_96 : decode cX12_book 96 = .ok (.iastore, 1) := by decide +kernel
theorem dX12_book_97 : decode cX12_book 97 = .ok (.aload_n 0, 1) := by decide +kernel
theorem dX12_book_98 : decode cX12_book 98 = .ok (.getfield 9, 3) := by decide +kernel
theorem dX12_book_101 : decode cX12_book 101 = .ok (.bipush 14, 2) := by decide +kernel
theorem dX12_book_103 : decode cX12_book 103 = .ok (.iaload, 1) := by decide +kernel
theorem dX12_book_104 : decode cX12_book 104 = .ok (.ireturn, 1) := by decide +kernel
theorem hd_X12_book : yX12_book.cls = RX12 ∧ yX12_book.cls ≠ "java/lang/invoke/MethodHandle" ∧ yX12_book.cls ≠ "java/lang/invoke/VarHandle" ∧ (parseMethodDescriptor yX12_book.desc).map (fun d => d.parameters.length) = some 2 := by decide +kernel
abbrev rm_X12_book : Room := { frames := 2, cells := 0, slots := 0, locals := 43 }
def F_X12_book (a1 : Int32) (a2 : Int32) (σ : SG) (ρ : RG) : Option (Int32 × SG) :=
  if a1 = (-1 : Int32) then
    nm (s2 σ 55 14 (0 : Int32)) fun σ19 =>
    some ((0 : Int32), σ19)
  else
    bn (F_X12_isCutter a1 σ ρ) fun r2 =>
    if r2 = 0 then
      some ((-1 : Int32), σ)
    else
      bn (F_X12_in a2 (0 : Int32) (999 : Int32) σ ρ) fun r4 =>
      if r4 = 0 then
        some ((-2 : Int32), σ)
      else
        if (σ 55 14) = (8 : Int32) then
          some ((-4 : Int32), σ)
        else
          nm ((78 : Int32) + (σ 55 14)) fun x7 =>
          gd (inb x7 909) <|
          nm (s2 σ 55 (x7).toNatClampNeg a1) fun σ10 =>
          nm ((86 : Int32) + (σ10 55 14)) fun x11 =>
          gd (inb x11 909) <|
          nm (s2 σ10 55 (x11).toNatClampNeg a2) fun σ14 =>
          nm ((σ14 55 14) + (1 : Int32)) fun x15 =>
          nm (s2 σ14 55 14 x15) fun σ17 =>
          some ((σ17 55 14), σ17)
set_option maxHeartbeats 4000000 in
set_option maxRecDepth 100000 in
theorem w_X12_book_0 {a1 : Int32} {a2 : Int32} {p : Program} {e : Env} {s : State} {m : MethodId} {args : Array Value} {below : List Frame} {meth : Method} {c : Code} {ρ0 : RG} {r : Int32} {σ1 : SG} (C : Cx Y D N ad p s m args meth c cX12_book 3 (some .int) RX12 wsL_law) {σ : SG} {ρ : RG} {H : Heap} {locs : List Loc} {ls : Array Slot} (hρ0 : ρ = ρ0) (hL : Lay N K len ρ) (hF : F_X12_book a1 a2 σ ρ = some (r, σ1)) (hP : WP Y D N ad K len σ ρ H) (hS : va_S (AA N ad s.heap.size) s.heap H locs) (hl : lv_has ls 3 [(0, .ref (ad 54)), (1, .int a1), (2, .int a2)]) : W p l e rm_X12_book s m args below meth c H locs 0 0 (MQ below (QW Y D N ad K len σ1 ρ0 (AA N ad s.heap.size) (some (.int r))) args s 0 0 (AA N ad s.heap.size)) (F0 m 0 ls []) := by
  have hx := C.1.1
  have hb := C.1.2.1
  unfold F_X12_book at hF
  refine lv_iload_n hx hb dX12_book_0 rfl (lv_at hl 1 rfl) ?_
  refine lv_iconst (v := -1) hx hb dX12_book_1 (by decide) ?_
  refine lv_icmp_ne (tgt := 15) hx hb dX12_book_2 (by decide) (fun c_1 => ?_) (fun c_1 => ?_) -- COND 1 rcases (Decidable.em (a1 = (-1 : Int32))).symm with c_1 | c_1
  · have hF := ite_f hF c_1
    refine lv_aload_n hx hb dX12_book_15 rfl (lv_at hl 0 rfl) ?_
    refine lv_iload_n hx hb dX12_book_16 rfl (lv_at hl 1 rfl) ?_
    obtain ⟨r2, hq2, hF⟩ := bn_1 hF
    refine x_callV (ci := 12) rfl rfl C hP hS (c_X12_isCutter hL hq2) (lr_54 hL) (lk_54 hL) (cwV 1 C.1.2.2.2.2 (gdV mw_462 mw_463 mw_464 mw_5 mw_465) rfl rfl rfl hd_X12_isCutter ⟨Nat.le_of_ble_eq_true rfl, Nat.le_of_ble_eq_true rfl⟩) rfl rfl hl.1 (Nat.le_of_ble_eq_true rfl) ⟨Nat.zero_le _, Nat.zero_le _⟩ dX12_book_17 (fun H locs hP hS => ?_)
    refine lv_if_ne (tgt := 25) hx hb dX12_book_20 (by decide) (fun c_3 => ?_) (fun c_3 => ?_) -- COND 3 rcases (Decidable.em (r2 = 0)).symm with c_3 | c_3
    · have hF := ite_f hF c_3
      refine lv_iload_n hx hb dX12_book_25 rfl (lv_at hl 2 rfl) ?_
      refine lv_iconst (v := 0) hx hb dX12_book_26 (by decide) ?_
      refine lv_sipush (v := 999) hx hb dX12_book_27 (by decide +kernel) ?_
      obtain ⟨r4, hq4, hF⟩ := bn_1 hF
      refine x_callS C hP hS (c_X12_in hL hq4) (va_cwS 3 C.1.2.2.2.2 (gdS mw_104 mw_105 mw_5 mw_106) rfl rfl rfl hd_X12_in.2 ⟨Nat.le_of_ble_eq_true rfl, Nat.le_of_ble_eq_true rfl⟩) rfl rfl hl.1 (Nat.le_of_ble_eq_true rfl) ⟨Nat.zero_le _, Nat.zero_le _⟩ dX12_book_30 (fun H locs hP hS => ?_)
      refine lv_if_ne (tgt := 39) hx hb dX12_book_33 (by decide) (fun c_5 => ?_) (fun c_5 => ?_) -- COND 5 rcases (Decidable.em (r4 = 0)).symm with c_5 | c_5
      · have hF := ite_f hF c_5
        refine lv_aload_n hx hb dX12_book_39 rfl (lv_at hl 0 rfl) ?_
        refine get_12_1 C hP (lr_54 hL) (lk_54 hL) inlX12 mw_81 (lf_54_1 hL) dX12_book_40 ?_
        refine lv_bipush (v := 14) hx hb dX12_book_43 (by decide +kernel) ?_
        refine x_iald C hP (lr_55 hL) (lk_55 hL) (ln_55 hL) (by decide +kernel) dX12_book_45 ?_
        rw [cl_14]
        refine lv_bipush (v := 8) hx hb dX12_book_46 (by decide +kernel) ?_
        refine lv_icmp_ne (tgt := 54) hx hb dX12_book_48 (by decide) (fun c_6 => ?_) (fun c_6 => ?_) -- COND 6 rcases (Decidable.em ((σ 55 14) = (8 : Int32))).symm with c_6 | c_6
        · have hF := ite_f hF c_6
          refine lv_aload_n hx hb dX12_book_54 rfl (lv_at hl 0 rfl) ?_
          refine get_12_1 C hP (lr_54 hL) (lk_54 hL) inlX12 mw_81 (lf_54_1 hL) dX12_book_55 ?_
          refine lv_bipush (v := 78) hx hb dX12_book_58 (by decide +kernel) ?_
          refine lv_aload_n hx hb dX12_book_60 rfl (lv_at hl 0 rfl) ?_
          refine get_12_1 C hP (lr_54 hL) (lk_54 hL) inlX12 mw_81 (lf_54_1 hL) dX12_book_61 ?_
          refine lv_bipush (v := 14) hx hb dX12_book_64 (by decide +kernel) ?_
          refine x_iald C hP (lr_55 hL) (lk_55 hL) (ln_55 hL) (by decide +kernel) dX12_book_66 ?_
          rw [cl_14]
          refine lv_iadd hx hb dX12_book_67 ?_
          obtain ⟨x7, ex7, hF⟩ := nm_1 hF
          refine x_top ex7 ?_
          refine lv_iload_n hx hb dX12_book_68 rfl (lv_at hl 1 rfl) ?_
          obtain ⟨g8, hF⟩ := gd_1 hF
          obtain ⟨σ10, eσ10, hF⟩ := nm_1 hF
          refine x_iast (σ1 := σ10) C hP hS (lr_55 hL) (lk_55 hL) (ln_55 hL) g8 eσ10 dX12_book_69 (fun H locs hP hS => ?_)
          refine lv_aload_n hx hb dX12_book_70 rfl (lv_at hl 0 rfl) ?_
          refine get_12_1 C hP (lr_54 hL) (lk_54 hL) inlX12 mw_81 (lf_54_1 hL) dX12_book_71 ?_
          refine lv_bipush (v := 86) hx hb dX12_book_74 (by decide +kernel) ?_
          refine lv_aload_n hx hb dX12_book_76 rfl (lv_at hl 0 rfl) ?_
          refine get_12_1 C hP (lr_54 hL) (lk_54 hL) inlX12 mw_81 (lf_54_1 hL) dX12_book_77 ?_
          refine lv_bipush (v := 14) hx hb dX12_book_80 (by decide +kernel) ?_
          refine x_iald C hP (lr_55 hL) (lk_55 hL) (ln_55 hL) (by decide +kernel) dX12_book_82 ?_
          rw [cl_14]
          refine lv_iadd hx hb dX12_book_83 ?_
          obtain ⟨x11, ex11, hF⟩ := nm_1 hF
          refine x_top ex11 ?_
          refine lv_iload_n hx hb dX12_book_84 rfl (lv_at hl 2 rfl) ?_
          obtain ⟨g12, hF⟩ := gd_1 hF
          obtain ⟨σ14, eσ14, hF⟩ := nm_1 hF
          refine x_iast (σ1 := σ14) C hP hS (lr_55 hL) (lk_55 hL) (ln_55 hL) g12 eσ14 dX12_book_85 (fun H locs hP hS => ?_)
          refine lv_aload_n hx hb dX12_book_86 rfl (lv_at hl 0 rfl) ?_
          refine get_12_1 C hP (lr_54 hL) (lk_54 hL) inlX12 mw_81 (lf_54_1 hL) dX12_book_87 ?_
          refine lv_bipush (v := 14) hx hb dX12_book_90 (by decide +kernel) ?_
          refine lv_dup2_11 hx hb dX12_book_92 rfl rfl ?_
          refine x_iald C hP (lr_55 hL) (lk_55 hL) (ln_55 hL) (by decide +kernel) dX12_book_93 ?_
          rw [cl_14]
          refine lv_iconst (v := 1) hx hb dX12_book_94 (by decide) ?_
          refine lv_iadd hx hb dX12_book_95 ?_
          obtain ⟨x15, ex15, hF⟩ := nm_1 hF
          refine x_top ex15 ?_
          obtain ⟨σ17, eσ17, hF⟩ := nm_1 hF
          refine x_iast (σ1 := σ17) C hP hS (lr_55 hL) (lk_55 hL) (ln_55 hL) (by decide +kernel) (by rw [cl_14]; exact eσ17) dX12_book_96 (fun H locs hP hS => ?_)
          refine lv_aload_n hx hb dX12_book_97 rfl (lv_at hl 0 rfl) ?_
          refine get_12_1 C hP (lr_54 hL) (lk_54 hL) inlX12 mw_81 (lf_54_1 hL) dX12_book_98 ?_
          refine lv_bipush (v := 14) hx hb dX12_book_101 (by decide +kernel) ?_
          refine x_iald C hP (lr_55 hL) (lk_55 hL) (ln_55 hL) (by decide +kernel) dX12_book_103 ?_
          rw [cl_14]
          obtain ⟨rfl, rfl⟩ := ret_2 hF
          subst hρ0
          exact x_iret rfl C hP hS dX12_book_104
        · have hF := ite_t hF c_6
          refine lv_bipush (v := -4) hx hb dX12_book_51 (by decide +kernel) ?_
          obtain ⟨rfl, rfl⟩ := ret_2 hF
          subst hρ0
          exact x_iret rfl C hP hS dX12_book_53
      · have hF := ite_t hF c_5
        refine lv_bipush (v := -2) hx hb dX12_book_36 (by decide +kernel) ?_
        obtain ⟨rfl, rfl⟩ := ret_2 hF
        subst hρ0
        exact x_iret rfl C hP hS dX12_book_38
    · have hF := ite_t hF c_3
      refine lv_iconst (v := -1) hx hb dX12_book_23 (by decide) ?_
      obtain ⟨rfl, rfl⟩ := ret_2 hF
      subst hρ0
      exact x_iret rfl C hP hS dX12_book_24
  · have hF := ite_t hF c_1
    refine lv_aload_n hx hb dX12_book_5 rfl (lv_at hl 0 rfl) ?_
    refine get_12_1 C hP (lr_54 hL) (lk_54 hL) inlX12 mw_81 (lf_54_1 hL) dX12_book_6 ?_
    refine lv_bipush (v := 14) hx hb dX12_book_9 (by decide +kernel) ?_
    refine lv_iconst (v := 0) hx hb dX12_book_11 (by decide) ?_
    obtain ⟨σ19, eσ19, hF⟩ := nm_1 hF
    refine x_iast (σ1 := σ19) C hP hS (lr_55 hL) (lk_55 hL) (ln_55 hL) (by decide +kernel) (by rw [cl_14]; exact eσ19) dX12_book_12 (fun H locs hP hS => ?_)
    refine lv_iconst (v := 0) hx hb dX12_book_13 (by decide) ?_
    obtain ⟨rfl, rfl⟩ := ret_2 hF
    subst hρ0
    exact x_iret rfl C hP hS dX12_book_14
set_option maxHeartbeats 4000000 in
set_option maxRecDepth 100000 in
theorem c_X12_book {a1 : Int32} {a2 : Int32} {r : Int32} {σ1 : SG} {σ : SG} {ρ : RG} (hL : Lay N K len ρ) (hF : F_X12_book a1 a2 σ ρ = some (r, σ1)) : MT l Y D N ad K len yX12_book (Cond.code yX12_book cX12_book 3 (some .int) :: wsL_law) rm_X12_book [.ref (ad 54), .int a1, .int a2] σ ρ (some (.int r)) σ1 ρ := by
  refine mt_of (cc := cX12_book) (nL := 3) (ret := (some .int)) (by decide) (Nat.le_of_ble_eq_true rfl) ?_
  intro p e s m args below meth c ls C hnm hP hS hl
  exact w_X12_book_0 C rfl hL hF hP hS hl

/-! CutCrookedModel.public int looked();  -/
theorem dX12_looked_0 : decode cX12_looked 0 = .ok (.aload_n 0, 1) := by decide +kernel
theorem dX12_looked_1 : decode cX12_looked 1 = .ok (.invokevirtual 191, 3) := by decide +kernel
theorem dX12_looked_4 : decode cX12_looked 4 = .ok (.bipush (-5), 2) := by decide +kernel
theorem dX12_looked_6 : decode cX12_looked 6 = .ok (.istore_n 1, 1) := by decide +kernel
theorem dX12_looked_7 : decode cX12_looked 7 = .ok (.iconst 0, 1) := by decide +kernel
theorem dX12_looked_8 : decode cX12_looked 8 = .ok (.istore_n 2, 1) := by decide +kernel
theorem dX12_looked_9 : decode cX12_looked 9 = .ok (.iload_n 2, 1) := by decide +kernel
theorem dX12_looked_10 : decode cX12_looked 10 = .ok (.aload_n 0, 1) := by decide +kernel
theorem dX12_looked_11 : decode cX12_looked 11 = .ok (.getfield 9, 3) := by decide +kernel
theorem dX12_looked_14 : decode cX12_looked 14 = .ok (.bipush 14, 2) := by decide +kernel
theorem dX12_looked_16 : decode cX12_looked 16 = .ok (.iaload, 1) := by decide +kernel
theorem dX12_looked_17 : decode cX12_looked 17 = .ok (.if_icmp .ge 65, 3) := by decide +kernel
theorem dX12_looked_20 : decode cX12_looked 20 = .ok (.iload_n 1, 1) := by decide +kernel
theorem dX12_looked_21 : decode cX12_looked 21 = .ok (.bipush (-5), 2) := by decide +kernel
theorem dX12_looked_23 : decode cX12_looked 23 = .ok (.if_icmp .ne 59, 3) := by decide +kernel
theorem dX12_looked_26 : decode cX12_looked 26 = .ok (.aload_n 0, 1) := by decide +kernel
theorem dX12_looked_27 : decode cX12_looked 27 = .ok (.getfield 9, 3) := by decide +kernel
theorem dX12_looked_30 : decode cX12_looked 30 = .ok (.bipush 78, 2) := by decide +kernel
theorem dX12_looked_32 : decode cX12_looked 32 = .ok (.iload_n 2, 1) := by decide +kernel
theorem dX12_looked_33 : decode cX12_looked 33 = .ok (.iadd, 1) := by decide +kernel
theorem dX12_looked_34 : decode cX12_looked 34 = .ok (.iaload, 1) := by decide +kernel
theorem dX12_looked_35 : decode cX12_looked 35 = .ok (.istore_n 3, 1) := by decide +kernel
theorem dX12_looked_36 : decode cX12_looked 36 = .ok (.aload_n 0, 1) := by decide +kernel
theorem dX12_looked_37 : decode cX12_looked 37 = .ok (.iload_n 3, 1) := by decide +kernel
theorem dX12_looked_38 : decode cX12_looked 38 = .ok (.aload_n 0, 1) := by decide +kernel
theorem dX12_looked_39 : decode cX12_looked 39 = .ok (.getfield 9, 3) := by decide +kernel
theorem dX12_looked_42 : decode cX12_looked 42 = .ok (.bipush 44, 2) := by decide +kernel
theorem dX12_looked_44 : decode cX12_looked 44 = .ok (.iload_n 3, 1) := by decide +kernel
theorem dX12_looked_45 : decode cX12_looked 45 = .ok (.iadd, 1) := by decide +kernel
theorem dX12_looked_46 : decode cX12_looked 46 = .ok (.iaload, 1) := by decide +kernel
theorem dX12_looked_47 : decode cX12_looked 47 = .ok (.invokevirtual 187, 3) := by decide +kernel
theorem dX12_looked_50 : decode cX12_looked 50 = .ok (.ifCond .eq 19, 3) := by decide +kernel
theorem dX12_looked_53 : decode cX12_looked 53 = .ok (.aload_n 0, 1) := by decide +kernel
theorem dX12_looked_54 : decode cX12_looked 54 = .ok (.getfield 181, 3) := by decide +kernel
theorem dX12_looked_57 : decode cX12_looked 57 = .ok (.aload_n 0, 1) := by decide +kernel
theorem dX12_looked_58 : decode cX12_looked 58 = .ok (.getfield 9, 3) := by decide +kernel
theorem dX12_looked_61 : decode cX12_looked 61 = .ok (.bipush 86, 2) := by decide +kernel
theorem dX12_looked_63 : decode cX12_looked 63 = .ok (.iload_n 2, 1) := by decide +kernel
theorem dX12_looked_64 : decode cX12_looked 64 = .ok (.iadd, 1) := by decide +kernel
theorem dX12_looked_65 : decode cX12_looked 65 = .ok (.iaload, 1) := by decide +kernel
theorem dX12_looked_66 : decode cX12_looked 66 = .ok (.if_icmp .eq 7, 3) := by decide +kernel
theorem dX12_looked_69 : decode cX12_looked 69 = .ok (.iload_n 2, 1) := by decide +kernel
theorem dX12_looked_70 : decode cX12_looked 70 = .ok (.goto 5, 3) := by decide +kernel
theorem dX12_looked_73 : decode cX12_looked 73 = .ok (.bipush (-5), 2) := by decide +kernel
theorem dX12_looked_75 : decode cX12_looked 75 = .ok (.istore_n 1, 1) := by decide +kernel
theorem dX12_looked_76 : decode cX12_looked 76 = .ok (.iinc 2 1, 3) := by decide +kernel
theorem dX12_looked_79 : decode cX12_looked 79 = .ok (.goto (-70), 3) := by decide +kernel
theorem dX12_looked_82 : decode cX12_looked 82 = .ok (.aload_n 0, 1) := by decide +kernel
theorem dX12_looked_83 : decode cX12_looked 83 = .ok (.invokevirtual 194, 3) := by decide +kernel
theorem dX12_looked_86 : decode cX12_looked 86 = .ok (.iload_n 1, 1) := by decide +kernel
theorem dX12_looked_87 : decode cX12_looked 87 = .ok (.ireturn, 1) := by decide +kernel
theorem hd_X12_looked : yX12_looked.cls = RX12 ∧ yX12_looked.cls ≠ "java/lang/invoke/MethodHandle" ∧ yX12_looked.cls ≠ "java/lang/invoke/VarHandle" ∧ (parseMethodDescriptor yX12_looked.desc).map (fun d => d.parameters.length) = some 0 := by decide +kernel
abbrev rm_X12_looked : Room := { frames := 4, cells := 0, slots := 0, locals := 93 }
def F_X12_looked_75  (rec_9 : SG → RG → Int32 → Int32 → Option (Int32 × SG)) (σ : SG) (ρ : RG) (v2 : Int32) (k0 : Int32) : Option (Int32 × SG) :=
  nm (v2 + (1 : Int32)) fun x12 =>
  rec_9 σ ρ k0 x12
def F_X12_looked_69  (rec_9 : SG → RG → Int32 → Int32 → Option (Int32 × SG)) (σ : SG) (ρ : RG) (v2 : Int32) : Option (Int32 × SG) :=
  F_X12_looked_75 rec_9 σ ρ v2 v2
def F_X12_looked_9  : Nat → SG → RG → Int32 → Int32 → Option (Int32 × SG)
  | 0 => fun _ _ _ _ => none
  | n + 1 => fun σ ρ v1 v2 =>
  if (σ 55 14) ≤ v2 then
    bn (F_X12_goesBack σ ρ) fun σ3 =>
    some (v1, σ3)
  else
    if v1 = (-5 : Int32) then
      nm ((78 : Int32) + v2) fun x6 =>
      gd (inb x6 909) <|
      nm ((44 : Int32) + (σ 55 (x6).toNatClampNeg)) fun x8 =>
      gd (inb x8 909) <|
      bn2 (F_X12_cuts (σ 55 (x6).toNatClampNeg) (σ 55 (x8).toNatClampNeg) σ ρ) fun r10 σ10 =>
      if r10 = 0 then
        F_X12_looked_69 (F_X12_looked_9 n) σ10 ρ v2
      else
        nm ((86 : Int32) + v2) fun x13 =>
        gd (inb x13 909) <|
        if (σ10 54 15) = (σ10 55 (x13).toNatClampNeg) then
          F_X12_looked_75 (F_X12_looked_9 n) σ10 ρ v2 (-5 : Int32)
        else
          F_X12_looked_69 (F_X12_looked_9 n) σ10 ρ v2
    else
      bn (F_X12_goesBack σ ρ) fun σ5 =>
      some (v1, σ5)
def F_X12_looked  (σ : SG) (ρ : RG) : Option (Int32 × SG) :=
  bn (F_X12_keeps σ ρ) fun σ1 =>
  F_X12_looked_9 1024 σ1 ρ (-5 : Int32) (0 : Int32)
set_option maxHeartbeats 4000000 in
set_option maxRecDepth 100000 in
theorem w_X12_looked_75  {rec_9 : SG → RG → Int32 → Int32 → Option (Int32 × SG)} {p : Program} {e : Env} {s : State} {m : MethodId} {args : Array Value} {below : List Frame} {meth : Method} {c : Code} {ρ0 : RG} {r : Int32} {σ1 : SG} (C : Cx Y D N ad p s m args meth c cX12_looked 4 (some .int) RX12 wsL_law) (hrec_9 : ∀ (σ : SG) (ρ : RG) (v1 : Int32) (v2 : Int32) (H : Heap) (locs : List Loc) (ls : Array Slot), ρ = ρ0 → Lay N K len ρ → rec_9 σ ρ v1 v2 = some (r, σ1) → WP Y D N ad K len σ ρ H → va_S (AA N ad s.heap.size) s.heap H locs → lv_has ls 4 [(0, .ref (ad 54)), (1, .int v1), (2, .int v2)] → W p l e rm_X12_looked s m args below meth c H locs 0 0 (MQ below (QW Y D N ad K len σ1 ρ0 (AA N ad s.heap.size) (some (.int r))) args s 0 0 (AA N ad s.heap.size)) (F0 m 9 ls [])) {σ : SG} {ρ : RG} {v2 : Int32} {k0 : Int32} {H : Heap} {locs : List Loc} {ls : Array Slot} (hρ0 : ρ = ρ0) (hL : Lay N K len ρ) (hF : F_X12_looked_75 rec_9 σ ρ v2 k0 = some (r, σ1)) (hP : WP Y D N ad K len σ ρ H) (hS : va_S (AA N ad s.heap.size) s.heap H locs) (hl : lv_has ls 4 [(0, .ref (ad 54)), (2, .int v2)]) : W p l e rm_X12_looked s m args below meth c H locs 0 0 (MQ below (QW Y D N ad K len σ1 ρ0 (AA N ad s.heap.size) (some (.int r))) args s 0 0 (AA N ad s.heap.size)) (F0 m 75 ls [.int k0]) := by
  have hx := C.1.1
  have hb := C.1.2.1
  unfold F_X12_looked_75 at hF
  refine lv_istore_n (lv' := [(1, .int k0), (0, .ref (ad 54)), (2, .int v2)]) hx hb dX12_looked_75 rfl hl (by decide) rfl (fun ls hl => ?_)
  obtain ⟨x12, ex12, hF⟩ := nm_1 hF
  refine lv_iinc (v := x12) (lv' := [(2, .int x12), (1, .int k0), (0, .ref (ad 54))]) hx hb dX12_looked_76 hl (k := 2) rfl (by rw [ex12]; first | rfl | decide) (by decide) rfl (fun ls hl => ?_)
  refine lv_goto (tgt := 9) hx hb dX12_looked_79 (by decide) ?_
  exact hrec_9 _ _ _ _ _ _ _ hρ0 hL hF hP hS (lv_sub hl [2, 1, 0] rfl)
set_option maxHeartbeats 4000000 in
set_option maxRecDepth 100000 in
theorem w_X12_looked_69  {rec_9 : SG → RG → Int32 → Int32 → Option (Int32 × SG)} {p : Program} {e : Env} {s : State} {m : MethodId} {args : Array Value} {below : List Frame} {meth : Method} {c : Code} {ρ0 : RG} {r : Int32} {σ1 : SG} (C : Cx Y D N ad p s m args meth c cX12_looked 4 (some .int) RX12 wsL_law) (hrec_9 : ∀ (σ : SG) (ρ : RG) (v1 : Int32) (v2 : Int32) (H : Heap) (locs : List Loc) (ls : Array Slot), ρ = ρ0 → Lay N K len ρ → rec_9 σ ρ v1 v2 = some (r, σ1) → WP Y D N ad K len σ ρ H → va_S (AA N ad s.heap.size) s.heap H locs → lv_has ls 4 [(0, .ref (ad 54)), (1, .int v1), (2, .int v2)] → W p l e rm_X12_looked s m args below meth c H locs 0 0 (MQ below (QW Y D N ad K len σ1 ρ0 (AA N ad s.heap.size) (some (.int r))) args s 0 0 (AA N ad s.heap.size)) (F0 m 9 ls [])) {σ : SG} {ρ : RG} {v2 : Int32} {H : Heap} {locs : List Loc} {ls : Array Slot} (hρ0 : ρ = ρ0) (hL : Lay N K len ρ) (hF : F_X12_looked_69 rec_9 σ ρ v2 = some (r, σ1)) (hP : WP Y D N ad K len σ ρ H) (hS : va_S (AA N ad s.heap.size) s.heap H locs) (hl : lv_has ls 4 [(0, .ref (ad 54)), (2, .int v2)]) : W p l e rm_X12_looked s m args below meth c H locs 0 0 (MQ below (QW Y D N ad K len σ1 ρ0 (AA N ad s.heap.size) (some (.int r))) args s 0 0 (AA N ad s.heap.size)) (F0 m 69 ls []) := by
  have hx := C.1.1
  have hb := C.1.2.1
  unfold F_X12_looked_69 at hF
  refine lv_iload_n hx hb dX12_looked_69 rfl (lv_at hl 1 rfl) ?_
  refine lv_goto (tgt := 75) hx hb dX12_looked_70 (by decide) ?_
  exact w_X12_looked_75 C hrec_9 hρ0 hL hF hP hS (lv_sub hl [0, 1] rfl)
set_option maxHeartbeats 4000000 in
set_option maxRecDepth 100000 in
theorem w_X12_looked_9  {p : Program} {e : Env} {s : State} {m : MethodId} {args : Array Value} {below : List Frame} {meth : Method} {c : Code} {ρ0 : RG} {r : Int32} {σ1 : SG} (C : Cx Y D N ad p s m args meth c cX12_looked 4 (some .int) RX12 wsL_law) : ∀ (n : Nat) (σ : SG) (ρ : RG) (v1 : Int32) (v2 : Int32) (H : Heap) (locs : List Loc) (ls : Array Slot), ρ = ρ0 → Lay N K len ρ → F_X12_looked_9 n σ ρ v1 v2 = some (r, σ1) → WP Y D N ad K len σ ρ H → va_S (AA N ad s.heap.size) s.heap H locs → lv_has ls 4 [(0, .ref (ad 54)), (1, .int v1), (2, .int v2)] → W p l e rm_X12_looked s m args below meth c H locs 0 0 (MQ below (QW Y D N ad K len σ1 ρ0 (AA N ad s.heap.size) (some (.int r))) args s 0 0 (AA N ad s.heap.size)) (F0 m 9 ls []) := by
  have hx := C.1.1
  have hb := C.1.2.1
  intro n
  induction n with
  | zero => intro σ ρ v1 v2 H locs ls hρ0 hL hF; cases hF
  | succ n ih =>
    intro σ ρ v1 v2 H locs ls hρ0 hL hF hP hS hl
    unfold F_X12_looked_9 at hF
    refine lv_iload_n hx hb dX12_looked_9 rfl (lv_at hl 2 rfl) ?_
    refine lv_aload_n hx hb dX12_looked_10 rfl (lv_at hl 0 rfl) ?_
    refine get_12_1 C hP (lr_54 hL) (lk_54 hL) inlX12 mw_81 (lf_54_1 hL) dX12_looked_11 ?_
    refine lv_bipush (v := 14) hx hb dX12_looked_14 (by decide +kernel) ?_
    refine x_iald C hP (lr_55 hL) (lk_55 hL) (ln_55 hL) (by decide +kernel) dX12_looked_16 ?_
    rw [cl_14]
    refine lv_icmp_ge (tgt := 82) hx hb dX12_looked_17 (by decide) (fun c_2 => ?_) (fun c_2 => ?_) -- COND 2 by_cases c_2 : (σ 55 14) ≤ v2
    · have hF := ite_t hF c_2
      refine lv_aload_n hx hb dX12_looked_82 rfl (lv_at hl 0 rfl) ?_
      obtain ⟨σ3, hq3, hF⟩ := bn_1 hF
      refine x_callV (ci := 12) rfl rfl C hP hS (c_X12_goesBack hL hq3) (lr_54 hL) (lk_54 hL) (cwV 0 C.1.2.2.2.2 (gdV mw_736 mw_737 mw_738 mw_5 mw_739) rfl rfl rfl hd_X12_goesBack ⟨Nat.le_of_ble_eq_true rfl, Nat.le_of_ble_eq_true rfl⟩) rfl rfl hl.1 (Nat.le_of_ble_eq_true rfl) ⟨Nat.zero_le _, Nat.zero_le _⟩ dX12_looked_83 (fun H locs hP hS => ?_)
      refine lv_iload_n hx hb dX12_looked_86 rfl (lv_at hl 1 rfl) ?_
      obtain ⟨rfl, rfl⟩ := ret_2 hF
      subst hρ0
      exact x_iret rfl C hP hS dX12_looked_87
    · have hF := ite_f hF c_2
      refine lv_iload_n hx hb dX12_looked_20 rfl (lv_at hl 1 rfl) ?_
      refine lv_bipush (v := -5) hx hb dX12_looked_21 (by decide +kernel) ?_
      refine lv_icmp_ne (tgt := 82) hx hb dX12_looked_23 (by decide) (fun c_4 => ?_) (fun c_4 => ?_) -- COND 4 rcases (Decidable.em (v1 = (-5 : Int32))).symm with c_4 | c_4
      · have hF := ite_f hF c_4
        refine lv_aload_n hx hb dX12_looked_82 rfl (lv_at hl 0 rfl) ?_
        obtain ⟨σ5, hq5, hF⟩ := bn_1 hF
        refine x_callV (ci := 12) rfl rfl C hP hS (c_X12_goesBack hL hq5) (lr_54 hL) (lk_54 hL) (cwV 0 C.1.2.2.2.2 (gdV mw_736 mw_737 mw_738 mw_5 mw_739) rfl rfl rfl hd_X12_goesBack ⟨Nat.le_of_ble_eq_true rfl, Nat.le_of_ble_eq_true rfl⟩) rfl rfl hl.1 (Nat.le_of_ble_eq_true rfl) ⟨Nat.zero_le _, Nat.zero_le _⟩ dX12_looked_83 (fun H locs hP hS => ?_)
        refine lv_iload_n hx hb dX12_looked_86 rfl (lv_at hl 1 rfl) ?_
        obtain ⟨rfl, rfl⟩ := ret_2 hF
        subst hρ0
        exact x_iret rfl C hP hS dX12_looked_87
      · have hF := ite_t hF c_4
        refine lv_aload_n hx hb dX12_looked_26 rfl (lv_at hl 0 rfl) ?_
        refine get_12_1 C hP (lr_54 hL) (lk_54 hL) inlX12 mw_81 (lf_54_1 hL) dX12_looked_27 ?_
        refine lv_bipush (v := 78) hx hb dX12_looked_30 (by decide +kernel) ?_
        refine lv_iload_n hx hb dX12_looked_32 rfl (lv_at hl 2 rfl) ?_
        refine lv_iadd hx hb dX12_looked_33 ?_
        obtain ⟨x6, ex6, hF⟩ := nm_1 hF
        refine x_top ex6 ?_
        obtain ⟨g7, hF⟩ := gd_1 hF
        refine x_iald C hP (lr_55 hL) (lk_55 hL) (ln_55 hL) g7 dX12_looked_34 ?_
        refine lv_istore_n (lv' := [(3, .int (σ 55 (x6).toNatClampNeg)), (0, .ref (ad 54)), (1, .int v1), (2, .int v2)]) hx hb dX12_looked_35 rfl hl (by decide) rfl (fun ls hl => ?_)
        refine lv_aload_n hx hb dX12_looked_36 rfl (lv_at hl 1 rfl) ?_
        refine lv_iload_n hx hb dX12_looked_37 rfl (lv_at hl 0 rfl) ?_
        refine lv_aload_n hx hb dX12_looked_38 rfl (lv_at hl 1 rfl) ?_
        refine get_12_1 C hP (lr_54 hL) (lk_54 hL) inlX12 mw_81 (lf_54_1 hL) dX12_looked_39 ?_
        refine lv_bipush (v := 44) hx hb dX12_looked_42 (by decide +kernel) ?_
        refine lv_iload_n hx hb dX12_looked_44 rfl (lv_at hl 0 rfl) ?_
        refine lv_iadd hx hb dX12_looked_45 ?_
        obtain ⟨x8, ex8, hF⟩ := nm_1 hF
        refine x_top ex8 ?_
        obtain ⟨g9, hF⟩ := gd_1 hF
        refine x_iald C hP (lr_55 hL) (lk_55 hL) (ln_55 hL) g9 dX12_looked_46 ?_
        obtain ⟨r10, σ10, hq10, hF⟩ := bn2_1 hF
        refine x_callV (ci := 12) rfl rfl C hP hS (c_X12_cuts hL hq10) (lr_54 hL) (lk_54 hL) (cwV 2 C.1.2.2.2.2 (gdV mw_652 mw_653 mw_654 mw_5 mw_655) rfl rfl rfl hd_X12_cuts ⟨Nat.le_of_ble_eq_true rfl, Nat.le_of_ble_eq_true rfl⟩) rfl rfl hl.1 (Nat.le_of_ble_eq_true rfl) ⟨Nat.zero_le _, Nat.zero_le _⟩ dX12_looked_47 (fun H locs hP hS => ?_)
        refine lv_if_eq (tgt := 69) hx hb dX12_looked_50 (by decide) (fun c_11 => ?_) (fun c_11 => ?_) -- COND 11 by_cases c_11 : r10 = 0
        · have hF := ite_t hF c_11
          exact w_X12_looked_69 C ih hρ0 hL hF hP hS (lv_sub hl [1, 3] rfl)
        · have hF := ite_f hF c_11
          refine lv_aload_n hx hb dX12_looked_53 rfl (lv_at hl 1 rfl) ?_
          refine get_12_15 C hP (lr_54 hL) (lk_54 hL) inlX12 mw_660 dX12_looked_54 ?_
          refine lv_aload_n hx hb dX12_looked_57 rfl (lv_at hl 1 rfl) ?_
          refine get_12_1 C hP (lr_54 hL) (lk_54 hL) inlX12 mw_81 (lf_54_1 hL) dX12_looked_58 ?_
          refine lv_bipush (v := 86) hx hb dX12_looked_61 (by decide +kernel) ?_
          refine lv_iload_n hx hb dX12_looked_63 rfl (lv_at hl 3 rfl) ?_
          refine lv_iadd hx hb dX12_looked_64 ?_
          obtain ⟨x13, ex13, hF⟩ := nm_1 hF
          refine x_top ex13 ?_
          obtain ⟨g14, hF⟩ := gd_1 hF
          refine x_iald C hP (lr_55 hL) (lk_55 hL) (ln_55 hL) g14 dX12_looked_65 ?_
          refine lv_icmp_eq (tgt := 73) hx hb dX12_looked_66 (by decide) (fun c_15 => ?_) (fun c_15 => ?_) -- COND 15 by_cases c_15 : (σ10 54 15) = (σ10 55 (x13).toNatClampNeg)
          · have hF := ite_t hF c_15
            refine lv_bipush (v := -5) hx hb dX12_looked_73 (by decide +kernel) ?_
            exact w_X12_looked_75 C ih hρ0 hL hF hP hS (lv_sub hl [1, 3] rfl)
          · have hF := ite_f hF c_15
            exact w_X12_looked_69 C ih hρ0 hL hF hP hS (lv_sub hl [1, 3] rfl)
set_option maxHeartbeats 4000000 in
set_option maxRecDepth 100000 in
theorem w_X12_looked_0  {p : Program} {e : Env} {s : State} {m : MethodId} {args : Array Value} {below : List Frame} {meth : Method} {c : Code} {ρ0 : RG} {r : Int32} {σ1 : SG} (C : Cx Y D N ad p s m args meth c cX12_looked 4 (some .int) RX12 wsL_law) {σ : SG} {ρ : RG} {H : Heap} {locs : List Loc} {ls : Array Slot} (hρ0 : ρ = ρ0) (hL : Lay N K len ρ) (hF : F_X12_looked σ ρ = some (r, σ1)) (hP : WP Y D N ad K len σ ρ H) (hS : va_S (AA N ad s.heap.size) s.heap H locs) (hl : lv_has ls 4 [(0, .ref (ad 54))]) : W p l e rm_X12_looked s m args below meth c H locs 0 0 (MQ below (QW Y D N ad K len σ1 ρ0 (AA N ad s.heap.size) (some (.int r))) args s 0 0 (AA N ad s.heap.size)) (F0 m 0 ls []) := by
  have hx := C.1.1
  have hb := C.1.2.1
  unfold F_X12_looked at hF
  refine lv_aload_n hx hb dX12_looked_0 rfl (lv_at hl 0 rfl) ?_
  obtain ⟨σ1, hq1, hF⟩ := bn_1 hF
  refine x_callV (ci := 12) rfl rfl C hP hS (c_X12_keeps hL hq1) (lr_54 hL) (lk_54 hL) (cwV 0 C.1.2.2.2.2 (gdV mw_732 mw_733 mw_734 mw_5 mw_735) rfl rfl rfl hd_X12_keeps ⟨Nat.le_of_ble_eq_true rfl, Nat.le_of_ble_eq_true rfl⟩) rfl rfl hl.1 (Nat.le_of_ble_eq_true rfl) ⟨Nat.zero_le _, Nat.zero_le _⟩ dX12_looked_1 (fun H locs hP hS => ?_)
  refine lv_bipush (v := -5) hx hb dX12_looked_4 (by decide +kernel) ?_
  refine lv_istore_n (lv' := [(1, .int (-5 : Int32)), (0, .ref (ad 54))]) hx hb dX12_looked_6 rfl hl (by decide) rfl (fun ls hl => ?_)
  refine lv_iconst (v := 0) hx hb dX12_looked_7 (by decide) ?_
  refine lv_istore_n (lv' := [(2, .int (0 : Int32)), (1, .int (-5 : Int32)), (0, .ref (ad 54))]) hx hb dX12_looked_8 rfl hl (by decide) rfl (fun ls hl => ?_)
  exact w_X12_looked_9 C 1024 _ _ _ _ _ _ _ hρ0 hL hF hP hS (lv_sub hl [2, 1, 0] rfl)
set_option maxHeartbeats 4000000 in
set_option maxRecDepth 100000 in
theorem c_X12_looked  {r : Int32} {σ1 : SG} {σ : SG} {ρ : RG} (hL : Lay N K len ρ) (hF : F_X12_looked σ ρ = some (r, σ1)) : MT l Y D N ad K len yX12_looked (Cond.code yX12_looked cX12_looked 4 (some .int) :: wsL_law) rm_X12_looked [.ref (ad 54)] σ ρ (some (.int r)) σ1 ρ := by
  refine mt_of (cc := cX12_looked) (nL := 4) (ret := (some .int)) (by decide) (Nat.le_of_ble_eq_true rfl) ?_
  intro p e s m args below meth c ls C hnm hP hS hl
  exact w_X12_looked_0 C rfl hL hF hP hS hl

/-! CutCrookedModel.private void ranBody(int);  -/
theorem dX12_ranBody_0 : decode cX12_ranBody 0 = .ok (.aload_n 0, 1) := by decide +kernel
theorem dX12_ranBody_1 : decode cX12_ranBody 1 = .ok (.getfield 252, 3) := by decide +kernel
theorem dX12_ranBody_4 : decode cX12_ranBody 4 = .ok (.bipush 20, 2) := by decide +kernel
theorem dX12_ranBody_6 : decode cX12_ranBody 6 = .ok (.if_icmp .ge 13, 3) := by decide +kernel
theorem dX12_ranBody_9 : decode cX12_ranBody 9 = .ok (.aload_n 0, 1) := by decide +kernel
theorem dX12_ranBody_10 : decode cX12_ranBody 10 = .ok (.getfield 40, 3) := by decide +kernel
theorem dX12_ranBody_13 : decode cX12_ranBody 13 = .ok (.aload_n 0, 1) := by decide +kernel
theorem dX12_ranBody_14 : decode cX12_ranBody 14 = .ok (.getfield 252, 3) := by decide +kernel
theorem dX12_ranBody_17 : decode cX12_ranBody 17 = .ok (.iload_n 1, 1) := by decide +kernel
theorem dX12_ranBody_18 : decode cX12_ranBody 18 = .ok (.iastore, 1) := by decide +kernel
theorem dX12_ranBody_19 : decode cX12_ranBody 19 = .ok (.aload_n 0, 1) := by decide +kernel
theorem dX12_ranBody_20 : decode cX12_ranBody 20 = .ok (.dup, 1) := by decide +kernel
theorem dX12_ranBody_21 : decode cX12_ranBody 21 = .ok (.getfield 252, 3) := by decide +kernel
theorem dX12_ranBody_24 : decode cX12_ranBody 24 = .ok (.iconst 1, 1) := by decide +kernel
theorem dX12_ranBody_25 : decode cX12_ranBody 25 = .ok (.iadd, 1) := by decide +kernel
theorem dX12_ranBody_26 : decode cX12_ranBody 26 = .ok (.putfield 252, 3) := by decide +kernel
theorem dX12_ranBody_29 : decode cX12_ranBody 29 = .ok (.return_, 1) := by decide +kernel
theorem hd_X12_ranBody : yX12_ranBody.cls = RX12 ∧ yX12_ranBody.cls ≠ "java/lang/invoke/MethodHandle" ∧ yX12_ranBody.cls ≠ "java/lang/invoke/VarHandle" ∧ (parseMethodDescriptor yX12_ranBody.desc).map (fun d => d.parameters.length) = some 1 := by decide +kernel
abbrev rm_X12_ranBody : Room := { frames := 0, cells := 0, slots := 0, locals := 0 }
def F_X12_ranBody_19 (a1 : Int32) (σ : SG) (ρ : RG) : Option (SG) :=
  nm ((σ 54 30) + (1 : Int32)) fun x2 =>
  nm (s2 σ 54 30 x2) fun σ4 =>
  some σ4
def F_X12_ranBody (a1 : Int32) (σ : SG) (ρ : RG) : Option (SG) :=
  if (20 : Int32) ≤ (σ 54 30) then
    F_X12_ranBody_19 a1 σ ρ
  else
    gd (inb (σ 54 30) 20) <|
    nm (s2 σ 64 ((σ 54 30)).toNatClampNeg a1) fun σ7 =>
    F_X12_ranBody_19 a1 σ7 ρ
set_option maxHeartbeats 4000000 in
set_option maxRecDepth 100000 in
theorem w_X12_ranBody_19 {a1 : Int32} {p : Program} {e : Env} {s : State} {m : MethodId} {args : Array Value} {below : List Frame} {meth : Method} {c : Code} {ρ0 : RG} {σ1 : SG} (C : Cx Y D N ad p s m args meth c cX12_ranBody 2 none RX12 wsL_law) {σ : SG} {ρ : RG} {H : Heap} {locs : List Loc} {ls : Array Slot} (hρ0 : ρ = ρ0) (hL : Lay N K len ρ) (hF : F_X12_ranBody_19 a1 σ ρ = some σ1) (hP : WP Y D N ad K len σ ρ H) (hS : va_S (AA N ad s.heap.size) s.heap H locs) (hl : lv_has ls 2 [(0, .ref (ad 54))]) : W p l e rm_X12_ranBody s m args below meth c H locs 0 0 (MQ below (QW Y D N ad K len σ1 ρ0 (AA N ad s.heap.size) none) args s 0 0 (AA N ad s.heap.size)) (F0 m 19 ls []) := by
  have hx := C.1.1
  have hb := C.1.2.1
  unfold F_X12_ranBody_19 at hF
  refine lv_aload_n hx hb dX12_ranBody_19 rfl (lv_at hl 0 rfl) ?_
  refine lv_dup hx hb dX12_ranBody_20 rfl ?_
  refine get_12_30 C hP (lr_54 hL) (lk_54 hL) inlX12 mw_1090 dX12_ranBody_21 ?_
  refine lv_iconst (v := 1) hx hb dX12_ranBody_24 (by decide) ?_
  refine lv_iadd hx hb dX12_ranBody_25 ?_
  obtain ⟨x2, ex2, hF⟩ := nm_1 hF
  refine x_top ex2 ?_
  obtain ⟨σ4, eσ4, hF⟩ := nm_1 hF
  refine put_12_30 C hP hS (lr_54 hL) (lk_54 hL) inlX12 mw_1090 eσ4 dX12_ranBody_26 (fun H locs hP hS => ?_)
  obtain rfl := ret_1 hF
  subst hρ0
  exact x_vret rfl C hP hS dX12_ranBody_29
set_option maxHeartbeats 4000000 in
set_option maxRecDepth 100000 in
theorem w_X12_ranBody_0 {a1 : Int32} {p : Program} {e : Env} {s : State} {m : MethodId} {args : Array Value} {below : List Frame} {meth : Method} {c : Code} {ρ0 : RG} {σ1 : SG} (C : Cx Y D N ad p s m args meth c cX12_ranBody 2 none RX12 wsL_law) {σ : SG} {ρ : RG} {H : Heap} {locs : List Loc} {ls : Array Slot} (hρ0 : ρ = ρ0) (hL : Lay N K len ρ) (hF : F_X12_ranBody a1 σ ρ = some σ1) (hP : WP Y D N ad K len σ ρ H) (hS : va_S (AA N ad s.heap.size) s.heap H locs) (hl : lv_has ls 2 [(0, .ref (ad 54)), (1, .int a1)]) : W p l e rm_X12_ranBody s m args below meth c H locs 0 0 (MQ below (QW Y D N ad K len σ1 ρ0 (AA N ad s.heap.size) none) args s 0 0 (AA N ad s.heap.size)) (F0 m 0 ls []) := by
  have hx := C.1.1
  have hb := C.1.2.1
  unfold F_X12_ranBody at hF
  refine lv_aload_n hx hb dX12_ranBody_0 rfl (lv_at hl 0 rfl) ?_
  refine get_12_30 C hP (lr_54 hL) (lk_54 hL) inlX12 mw_1090 dX12_ranBody_1 ?_
  refine lv_bipush (v := 20) hx hb dX12_ranBody_4 (by decide +kernel) ?_
  refine lv_icmp_ge (tgt := 19) hx hb dX12_ranBody_6 (by decide) (fun c_1 => ?_) (fun c_1 => ?_) -- COND 1 by_cases c_1 : (20 : Int32) ≤ (σ 54 30)
  · have hF := ite_t hF c_1
    exact w_X12_ranBody_19 C hρ0 hL hF hP hS (lv_sub hl [0] rfl)
  · have hF := ite_f hF c_1
    refine lv_aload_n hx hb dX12_ranBody_9 rfl (lv_at hl 0 rfl) ?_
    refine get_12_29 C hP (lr_54 hL) (lk_54 hL) inlX12 mw_90 (lf_54_29 hL) dX12_ranBody_10 ?_
    refine lv_aload_n hx hb dX12_ranBody_13 rfl (lv_at hl 0 rfl) ?_
    refine get_12_30 C hP (lr_54 hL) (lk_54 hL) inlX12 mw_1090 dX12_ranBody_14 ?_
    refine lv_iload_n hx hb dX12_ranBody_17 rfl (lv_at hl 1 rfl) ?_
    obtain ⟨g5, hF⟩ := gd_1 hF
    obtain ⟨σ7, eσ7, hF⟩ := nm_1 hF
    refine x_iast (σ1 := σ7) C hP hS (lr_64 hL) (lk_64 hL) (ln_64 hL) g5 eσ7 dX12_ranBody_18 (fun H locs hP hS => ?_)
    exact w_X12_ranBody_19 C hρ0 hL hF hP hS (lv_sub hl [0] rfl)
set_option maxHeartbeats 4000000 in
set_option maxRecDepth 100000 in
theorem c_X12_ranBody {a1 : Int32} {σ1 : SG} {σ : SG} {ρ : RG} (hL : Lay N K len ρ) (hF : F_X12_ranBody a1 σ ρ = some σ1) : MT l Y D N ad K len yX12_ranBody (Cond.code yX12_ranBody cX12_ranBody 2 none :: wsL_law) rm_X12_ranBody [.ref (ad 54), .int a1] σ ρ none σ1 ρ := by
  refine mt_of (cc := cX12_ranBody) (nL := 2) (ret := none) (by decide) (Nat.le_of_ble_eq_true rfl) ?_
  intro p e s m args below meth c ls C hnm hP hS hl
  exact w_X12_ranBody_0 C rfl hL hF hP hS hl

/-! CutCrookedModel.private static boolean isUnder(int, int);  -/
theorem dX12_isUnder_0 : decode cX12_isUnder 0 = .ok (.iload_n 1, 1) := by decide +kernel
theorem dX12_isUnder_1 : decode cX12_isUnder 1 = .ok (.ifCond .eq 24, 3) := by decide +kernel
theorem dX12_isUnder_4 : decode cX12_isUnder 4 = .ok (.iload_n 1, 1) := by decide +kernel
theorem dX12_isUnder_5 : decode cX12_isUnder 5 = .ok (.iload_n 0, 1) := by decide +kernel
theorem dX12_isUnder_6 : decode cX12_isUnder 6 = .ok (.if_icmp .eq 19, 3) := by decide +kernel
theorem dX12_isUnder_9 : decode cX12_isUnder 9 = .ok (.iload_n 1, 1) := by decide +kernel
theorem dX12_isUnder_10 : decode cX12_isUnder 10 = .ok (.ifCond .le 19, 3) := by decide +kernel
theorem dX12_isUnder_13 : decode cX12_isUnder 13 = .ok (.iload_n 1, 1) := by decide +kernel
theorem dX12_isUnder_14 : decode cX12_isUnder 14 = .ok (.iconst 4, 1) := by decide +kernel
theorem dX12_isUnder_15 : decode cX12_isUnder 15 = .ok (.if_icmp .ge 14, 3) := by decide +kernel
theorem dX12_isUnder_18 : decode cX12_isUnder 18 = .ok (.iload_n 0, 1) := by decide +kernel
theorem dX12_isUnder_19 : decode cX12_isUnder 19 = .ok (.iload_n 1, 1) := by decide +kernel
theorem dX12_isUnder_20 : decode cX12_isUnder 20 = .ok (.iconst 3, 1) := by decide +kernel
theorem dX12_isUnder_21 : decode cX12_isUnder 21 = .ok (.iadd, 1) := by decide +kernel
theorem dX12_isUnder_22 : decode cX12_isUnder 22 = .ok (.if_icmp .ne 7, 3) := by decide +kernel
theorem dX12_isUnder_25 : decode cX12_isUnder 25 = .ok (.iconst 1, 1) := by decide +kernel
theorem dX12_isUnder_26 : decode cX12_isUnder 26 = .ok (.goto 4, 3) := by decide +kernel
theorem dX12_isUnder_29 : decode cX12_isUnder 29 = .ok (.iconst 0, 1) := by decide +kernel
theorem dX12_isUnder_30 : decode cX12_isUnder 30 = .ok (.ireturn, 1) := by decide +kernel
theorem hd_X12_isUnder : yX12_isUnder.cls = RX12 ∧ yX12_isUnder.cls ≠ "java/lang/invoke/MethodHandle" ∧ yX12_isUnder.cls ≠ "java/lang/invoke/VarHandle" ∧ (parseMethodDescriptor yX12_isUnder.desc).map (fun d => d.parameters.length) = some 2 := by decide +kernel
abbrev rm_X12_isUnder : Room := { frames := 0, cells := 0, slots := 0, locals := 0 }
def F_X12_isUnder (a1 : Int32) (a2 : Int32) (σ : SG) (ρ : RG) : Option (Int32) :=
  if a2 = 0 then
    some (1 : Int32)
  else
    if a2 = a1 then
      some (1 : Int32)
    else
      if a2 ≤ 0 then
        some (0 : Int32)
      else
        if (4 : Int32) ≤ a2 then
          some (0 : Int32)
        else
          nm (a2 + (3 : Int32)) fun x5 =>
          if a1 = x5 then
            some (1 : Int32)
          else
            some (0 : Int32)
set_option maxHeartbeats 4000000 in
set_option maxRecDepth 100000 in
theorem w_X12_isUnder_0 {a1 : Int32} {a2 : Int32} {p : Program} {e : Env} {s : State} {m : MethodId} {args : Array Value} {below : List Frame} {meth : Method} {c : Code} {σ0 : SG} {ρ0 : RG} {r : Int32} (C : Cx Y D N ad p s m args meth c cX12_isUnder 2 (some .boolean) RX12 wsL_law) {σ : SG} {ρ : RG} {H : Heap} {locs : List Loc} {ls : Array Slot} (hσ0 : σ = σ0) (hρ0 : ρ = ρ0) (hL : Lay N K len ρ) (hF : F_X12_isUnder a1 a2 σ ρ = some r) (hP : WP Y D N ad K len σ ρ H) (hS : va_S (AA N ad s.heap.size) s.heap H locs) (hl : lv_has ls 2 [(0, .int a1), (1, .int a2)]) : W p l e rm_X12_isUnder s m args below meth c H locs 0 0 (MQ below (QW Y D N ad K len σ0 ρ0 (AA N ad s.heap.size) (some (.int r))) args s 0 0 (AA N ad s.heap.size)) (F0 m 0 ls []) := by
  have hx := C.1.1
  have hb := C.1.2.1
  unfold F_X12_isUnder at hF
  refine lv_iload_n hx hb dX12_isUnder_0 rfl (lv_at hl 1 rfl) ?_
  refine lv_if_eq (tgt := 25) hx hb dX12_isUnder_1 (by decide) (fun c_1 => ?_) (fun c_1 => ?_) -- COND 1 by_cases c_1 : a2 = 0
  · have hF := ite_t hF c_1
    refine lv_iconst (v := 1) hx hb dX12_isUnder_25 (by decide) ?_
    refine lv_goto (tgt := 30) hx hb dX12_isUnder_26 (by decide) ?_
    obtain rfl := ret_1 hF
    subst hσ0
    subst hρ0
    exact x_zret rfl rfl C hP hS dX12_isUnder_30
  · have hF := ite_f hF c_1
    refine lv_iload_n hx hb dX12_isUnder_4 rfl (lv_at hl 1 rfl) ?_
    refine lv_iload_n hx hb dX12_isUnder_5 rfl (lv_at hl 0 rfl) ?_
    refine lv_icmp_eq (tgt := 25) hx hb dX12_isUnder_6 (by decide) (fun c_2 => ?_) (fun c_2 => ?_) -- COND 2 by_cases c_2 : a2 = a1
    · have hF := ite_t hF c_2
      refine lv_iconst (v := 1) hx hb dX12_isUnder_25 (by decide) ?_
      refine lv_goto (tgt := 30) hx hb dX12_isUnder_26 (by decide) ?_
      obtain rfl := ret_1 hF
      subst hσ0
      subst hρ0
      exact x_zret rfl rfl C hP hS dX12_isUnder_30
    · have hF := ite_f hF c_2
      refine lv_iload_n hx hb dX12_isUnder_9 rfl (lv_at hl 1 rfl) ?_
      refine lv_if_le (tgt := 29) hx hb dX12_isUnder_10 (by decide) (fun c_3 => ?_) (fun c_3 => ?_) -- COND 3 by_cases c_3 : a2 ≤ 0
      · have hF := ite_t hF c_3
        refine lv_iconst (v := 0) hx hb dX12_isUnder_29 (by decide) ?_
        obtain rfl := ret_1 hF
        subst hσ0
        subst hρ0
        exact x_zret rfl rfl C hP hS dX12_isUnder_30
      · have hF := ite_f hF c_3
        refine lv_iload_n hx hb dX12_isUnder_13 rfl (lv_at hl 1 rfl) ?_
        refine lv_iconst (v := 4) hx hb dX12_isUnder_14 (by decide) ?_
        refine lv_icmp_ge (tgt := 29) hx hb dX12_isUnder_15 (by decide) (fun c_4 => ?_) (fun c_4 => ?_) -- COND 4 by_cases c_4 : (4 : Int32) ≤ a2
        · have hF := ite_t hF c_4
          refine lv_iconst (v := 0) hx hb dX12_isUnder_29 (by decide) ?_
          obtain rfl := ret_1 hF
          subst hσ0
          subst hρ0
          exact x_zret rfl rfl C hP hS dX12_isUnder_30
        · have hF := ite_f hF c_4
          refine lv_iload_n hx hb dX12_isUnder_18 rfl (lv_at hl 0 rfl) ?_
          refine lv_iload_n hx hb dX12_isUnder_19 rfl (lv_at hl 1 rfl) ?_
          refine lv_iconst (v := 3) hx hb dX12_isUnder_20 (by decide) ?_
          refine lv_iadd hx hb dX12_isUnder_21 ?_
          obtain ⟨x5, ex5, hF⟩ := nm_1 hF
          refine x_top ex5 ?_
          refine lv_icmp_ne (tgt := 29) hx hb dX12_isUnder_22 (by decide) (fun c_6 => ?_) (fun c_6 => ?_) -- COND 6 rcases (Decidable.em (a1 = x5)).symm with c_6 | c_6
          · have hF := ite_f hF c_6
            refine lv_iconst (v := 0) hx hb dX12_isUnder_29 (by decide) ?_
            obtain rfl := ret_1 hF
            subst hσ0
            subst hρ0
            exact x_zret rfl rfl C hP hS dX12_isUnder_30
          · have hF := ite_t hF c_6
            refine lv_iconst (v := 1) hx hb dX12_isUnder_25 (by decide) ?_
            refine lv_goto (tgt := 30) hx hb dX12_isUnder_26 (by decide) ?_
            obtain rfl := ret_1 hF
            subst hσ0
            subst hρ0
            exact x_zret rfl rfl C hP hS dX12_isUnder_30
set_option maxHeartbeats 4000000 in
set_option maxRecDepth 100000 in
theorem c_X12_isUnder {a1 : Int32} {a2 : Int32} {r : Int32} {σ : SG} {ρ : RG} (hL : Lay N K len ρ) (hF : F_X12_isUnder a1 a2 σ ρ = some r) : MT l Y D N ad K len yX12_isUnder (Cond.code yX12_isUnder cX12_isUnder 2 (some .boolean) :: wsL_law) rm_X12_isUnder [.int a1, .int a2] σ ρ (some (.int r)) σ ρ := by
  refine mt_of (cc := cX12_isUnder) (nL := 2) (ret := (some .boolean)) (by decide) (Nat.le_of_ble_eq_true rfl) ?_
  intro p e s m args below meth c ls C hnm hP hS hl
  exact w_X12_isUnder_0 C rfl rfl hL hF hP hS hl

/-! CutCrookedModel.private int plainCuts(int);  -/
theorem dX12_plainCuts_0 : decode cX12_plainCuts 0 = .ok (.aload_n 0, 1) := by decide +kernel
theorem dX12_plainCuts_1 : decode cX12_plainCuts 1 = .ok (.iconst 1, 1) := by decide +kernel
theorem dX12_plainCuts_2 : decode cX12_plainCuts 2 = .ok (.invokevirtual 255, 3) := by decide +kernel
theorem dX12_plainCuts_5 : decode cX12_plainCuts 5 = .ok (.iload_n 1, 1) := by decide +kernel
theorem dX12_plainCuts_6 : decode cX12_plainCuts 6 = .ok (.aload_n 0, 1) := by decide +kernel
theorem dX12_plainCuts_7 : decode cX12_plainCuts 7 = .ok (.getfield 258, 3) := by decide +kernel
theorem dX12_plainCuts_10 : decode cX12_plainCuts 10 = .ok (.iadd, 1) := by decide +kernel
theorem dX12_plainCuts_11 : decode cX12_plainCuts 11 = .ok (.ireturn, 1) := by decide +kernel
theorem hd_X12_plainCuts : yX12_plainCuts.cls = RX12 ∧ yX12_plainCuts.cls ≠ "java/lang/invoke/MethodHandle" ∧ yX12_plainCuts.cls ≠ "java/lang/invoke/VarHandle" ∧ (parseMethodDescriptor yX12_plainCuts.desc).map (fun d => d.parameters.length) = some 1 := by decide +kernel
abbrev rm_X12_plainCuts : Room := { frames := 1, cells := 0, slots := 0, locals := 21 }
def F_X12_plainCuts (a1 : Int32) (σ : SG) (ρ : RG) : Option (Int32 × SG) :=
  bn (F_X12_ranBody (1 : Int32) σ ρ) fun σ1 =>
  nm (a1 + (σ1 54 32)) fun x2 =>
  some (x2, σ1)
set_option maxHeartbeats 4000000 in
set_option maxRecDepth 100000 in
theorem w_X12_plainCuts_0 {a1 : Int32} {p : Program} {e : Env} {s : State} {m : MethodId} {args : Array Value} {below : List Frame} {meth : Method} {c : Code} {ρ0 : RG} {r : Int32} {σ1 : SG} (C : Cx Y D N ad p s m args meth c cX12_plainCuts 2 (some .int) RX12 wsL_law) {σ : SG} {ρ : RG} {H : Heap} {locs : List Loc} {ls : Array Slot} (hρ0 : ρ = ρ0) (hL : Lay N K len ρ) (hF : F_X12_plainCuts a1 σ ρ = some (r, σ1)) (hP : WP Y D N ad K len σ ρ H) (hS : va_S (AA N ad s.heap.size) s.heap H locs) (hl : lv_has ls 2 [(0, .ref (ad 54)), (1, .int a1)]) : W p l e rm_X12_plainCuts s m args below meth c H locs 0 0 (MQ below (QW Y D N ad K len σ1 ρ0 (AA N ad s.heap.size) (some (.int r))) args s 0 0 (AA N ad s.heap.size)) (F0 m 0 ls []) := by
  have hx := C.1.1
  have hb := C.1.2.1
  unfold F_X12_plainCuts at hF
  refine lv_aload_n hx hb dX12_plainCuts_0 rfl (lv_at hl 0 rfl) ?_
  refine lv_iconst (v := 1) hx hb dX12_plainCuts_1 (by decide) ?_
  obtain ⟨σ1, hq1, hF⟩ := bn_1 hF
  refine x_callV (ci := 12) rfl rfl C hP hS (c_X12_ranBody hL hq1) (lr_54 hL) (lk_54 hL) (cwV 1 C.1.2.2.2.2 (gdV mw_1101 mw_1102 mw_1103 mw_5 mw_1104) rfl rfl rfl hd_X12_ranBody ⟨Nat.le_of_ble_eq_true rfl, Nat.le_of_ble_eq_true rfl⟩) rfl rfl hl.1 (Nat.le_of_ble_eq_true rfl) ⟨Nat.zero_le _, Nat.zero_le _⟩ dX12_plainCuts_2 (fun H locs hP hS => ?_)
  refine lv_iload_n hx hb dX12_plainCuts_5 rfl (lv_at hl 1 rfl) ?_
  refine lv_aload_n hx hb dX12_plainCuts_6 rfl (lv_at hl 0 rfl) ?_
  refine get_12_32 C hP (lr_54 hL) (lk_54 hL) inlX12 mw_1092 dX12_plainCuts_7 ?_
  refine lv_iadd hx hb dX12_plainCuts_10 ?_
  obtain ⟨x2, ex2, hF⟩ := nm_1 hF
  refine x_top ex2 ?_
  obtain ⟨rfl, rfl⟩ := ret_2 hF
  subst hρ0
  exact x_iret rfl C hP hS dX12_plainCuts_11
set_option maxHeartbeats 4000000 in
set_option maxRecDepth 100000 in
theorem c_X12_plainCuts {a1 : Int32} {r : Int32} {σ1 : SG} {σ : SG} {ρ : RG} (hL : Lay N K len ρ) (hF : F_X12_plainCuts a1 σ ρ = some (r, σ1)) : MT l Y D N ad K len yX12_plainCuts (Cond.code yX12_plainCuts cX12_plainCuts 2 (some .int) :: wsL_law) rm_X12_plainCuts [.ref (ad 54), .int a1] σ ρ (some (.int r)) σ1 ρ := by
  refine mt_of (cc := cX12_plainCuts) (nL := 2) (ret := (some .int)) (by decide) (Nat.le_of_ble_eq_true rfl) ?_
  intro p e s m args below meth c ls C hnm hP hS hl
  exact w_X12_plainCuts_0 C rfl hL hF hP hS hl

/-! CutCrookedModel.private int cutsActs(int);  -/
theorem dX12_cutsActs_0 : decode cX12_cutsActs 0 = .ok (.aload_n 0, 1) := by decide +kernel
theorem dX12_cutsActs_1 : decode cX12_cutsActs 1 = .ok (.getfield 261, 3) := by decide +kernel
theorem dX12_cutsActs_4 : decode cX12_cutsActs 4 = .ok (.iconst 1, 1) := by decide +kernel
theorem dX12_cutsActs_5 : decode cX12_cutsActs 5 = .ok (.invokestatic 264, 3) := by decide +kernel
theorem dX12_cutsActs_8 : decode cX12_cutsActs 8 = .ok (.ifCond .eq 17, 3) := by decide +kernel
theorem dX12_cutsActs_11 : decode cX12_cutsActs 11 = .ok (.aload_n 0, 1) := by decide +kernel
theorem dX12_cutsActs_12 : decode cX12_cutsActs 12 = .ok (.bipush 11, 2) := by decide +kernel
theorem dX12_cutsActs_14 : decode cX12_cutsActs 14 = .ok (.invokevirtual 255, 3) := by decide +kernel
theorem dX12_cutsActs_17 : decode cX12_cutsActs 17 = .ok (.aload_n 0, 1) := by decide +kernel
theorem dX12_cutsActs_18 : decode cX12_cutsActs 18 = .ok (.iload_n 1, 1) := by decide +kernel
theorem dX12_cutsActs_19 : decode cX12_cutsActs 19 = .ok (.iconst 3, 1) := by decide +kernel
theorem dX12_cutsActs_20 : decode cX12_cutsActs 20 = .ok (.imul, 1) := by decide +kernel
theorem dX12_cutsActs_21 : decode cX12_cutsActs 21 = .ok (.invokevirtual 267, 3) := by decide +kernel
theorem dX12_cutsActs_24 : decode cX12_cutsActs 24 = .ok (.ireturn, 1) := by decide +kernel
theorem dX12_cutsActs_25 : decode cX12_cutsActs 25 = .ok (.aload_n 0, 1) := by decide +kernel
theorem dX12_cutsActs_26 : decode cX12_cutsActs 26 = .ok (.getfield 261, 3) := by decide +kernel
theorem dX12_cutsActs_29 : decode cX12_cutsActs 29 = .ok (.iconst 5, 1) := by decide +kernel
theorem dX12_cutsActs_30 : decode cX12_cutsActs 30 = .ok (.if_icmp .ne 20, 3) := by decide +kernel
theorem dX12_cutsActs_33 : decode cX12_cutsActs 33 = .ok (.aload_n 0, 1) := by decide +kernel
theorem dX12_cutsActs_34 : decode cX12_cutsActs 34 = .ok (.bipush 51, 2) := by decide +kernel
theorem dX12_cutsActs_36 : decode cX12_cutsActs 36 = .ok (.invokevirtual 255, 3) := by decide +kernel
theorem dX12_cutsActs_39 : decode cX12_cutsActs 39 = .ok (.aload_n 0, 1) := by decide +kernel
theorem dX12_cutsActs_40 : decode cX12_cutsActs 40 = .ok (.iload_n 1, 1) := by decide +kernel
theorem dX12_cutsActs_41 : decode cX12_cutsActs 41 = .ok (.invokevirtual 267, 3) := by decide +kernel
theorem dX12_cutsActs_44 : decode cX12_cutsActs 44 = .ok (.aload_n 0, 1) := by decide +kernel
theorem dX12_cutsActs_45 : decode cX12_cutsActs 45 = .ok (.getfield 258, 3) := by decide +kernel
theorem dX12_cutsActs_48 : decode cX12_cutsActs 48 = .ok (.ixor, 1) := by decide +kernel
theorem dX12_cutsActs_49 : decode cX12_cutsActs 49 = .ok (.ireturn, 1) := by decide +kernel
theorem dX12_cutsActs_50 : decode cX12_cutsActs 50 = .ok (.aload_n 0, 1) := by decide +kernel
theorem dX12_cutsActs_51 : decode cX12_cutsActs 51 = .ok (.iload_n 1, 1) := by decide +kernel
theorem dX12_cutsActs_52 : decode cX12_cutsActs 52 = .ok (.invokevirtual 267, 3) := by decide +kernel
theorem dX12_cutsActs_55 : decode cX12_cutsActs 55 = .ok (.ireturn, 1) := by decide +kernel
theorem hd_X12_cutsActs : yX12_cutsActs.cls = RX12 ∧ yX12_cutsActs.cls ≠ "java/lang/invoke/MethodHandle" ∧ yX12_cutsActs.cls ≠ "java/lang/invoke/VarHandle" ∧ (parseMethodDescriptor yX12_cutsActs.desc).map (fun d => d.parameters.length) = some 1 := by decide +kernel
abbrev rm_X12_cutsActs : Room := { frames := 2, cells := 0, slots := 0, locals := 42 }
def F_X12_cutsActs (a1 : Int32) (σ : SG) (ρ : RG) : Option (Int32 × SG) :=
  bn (F_X12_isUnder (σ 54 31) (1 : Int32) σ ρ) fun r1 =>
  if r1 = 0 then
    if (σ 54 31) = (5 : Int32) then
      bn (F_X12_ranBody (51 : Int32) σ ρ) fun σ5 =>
      bn2 (F_X12_plainCuts a1 σ5 ρ) fun r6 σ6 =>
      nm (r6 ^^^ (σ6 54 32)) fun x7 =>
      some (x7, σ6)
    else
      bn2 (F_X12_plainCuts a1 σ ρ) fun r4 σ4 =>
      some (r4, σ4)
  else
    bn (F_X12_ranBody (11 : Int32) σ ρ) fun σ8 =>
    nm (a1 * (3 : Int32)) fun x9 =>
    bn2 (F_X12_plainCuts x9 σ8 ρ) fun r10 σ10 =>
    some (r10, σ10)
set_option maxHeartbeats 4000000 in
set_option maxRecDepth 100000 in
theorem w_X12_cutsActs_0 {a1 : Int32} {p : Program} {e : Env} {s : State} {m : MethodId} {args : Array Value} {below : List Frame} {meth : Method} {c : Code} {ρ0 : RG} {r : Int32} {σ1 : SG} (C : Cx Y D N ad p s m args meth c cX12_cutsActs 2 (some .int) RX12 wsL_law) {σ : SG} {ρ : RG} {H : Heap} {locs : List Loc} {ls : Array Slot} (hρ0 : ρ = ρ0) (hL : Lay N K len ρ) (hF : F_X12_cutsActs a1 σ ρ = some (r, σ1)) (hP : WP Y D N ad K len σ ρ H) (hS : va_S (AA N ad s.heap.size) s.heap H locs) (hl : lv_has ls 2 [(0, .ref (ad 54)), (1, .int a1)]) : W p l e rm_X12_cutsActs s m args below meth c H locs 0 0 (MQ below (QW Y D N ad K len σ1 ρ0 (AA N ad s.heap.size) (some (.int r))) args s 0 0 (AA N ad s.heap.size)) (F0 m 0 ls []) := by
  have hx := C.1.1
  have hb := C.1.2.1
  unfold F_X12_cutsActs at hF
  refine lv_aload_n hx hb dX12_cutsActs_0 rfl (lv_at hl 0 rfl) ?_
  refine get_12_31 C hP (lr_54 hL) (lk_54 hL) inlX12 mw_1091 dX12_cutsActs_1 ?_
  refine lv_iconst (v := 1) hx hb dX12_cutsActs_4 (by decide) ?_
  obtain ⟨r1, hq1, hF⟩ := bn_1 hF
  refine x_callS C hP hS (c_X12_isUnder hL hq1) (va_cwS 2 C.1.2.2.2.2 (gdS mw_1098 mw_1099 mw_5 mw_1100) rfl rfl rfl hd_X12_isUnder.2 ⟨Nat.le_of_ble_eq_true rfl, Nat.le_of_ble_eq_true rfl⟩) rfl rfl hl.1 (Nat.le_of_ble_eq_true rfl) ⟨Nat.zero_le _, Nat.zero_le _⟩ dX12_cutsActs_5 (fun H locs hP hS => ?_)
  refine lv_if_eq (tgt := 25) hx hb dX12_cutsActs_8 (by decide) (fun c_2 => ?_) (fun c_2 => ?_) -- COND 2 by_cases c_2 : r1 = 0
  · have hF := ite_t hF c_2
    refine lv_aload_n hx hb dX12_cutsActs_25 rfl (lv_at hl 0 rfl) ?_
    refine get_12_31 C hP (lr_54 hL) (lk_54 hL) inlX12 mw_1091 dX12_cutsActs_26 ?_
    refine lv_iconst (v := 5) hx hb dX12_cutsActs_29 (by decide) ?_
    refine lv_icmp_ne (tgt := 50) hx hb dX12_cutsActs_30 (by decide) (fun c_3 => ?_) (fun c_3 => ?_) -- COND 3 rcases (Decidable.em ((σ 54 31) = (5 : Int32))).symm with c_3 | c_3
    · have hF := ite_f hF c_3
      refine lv_aload_n hx hb dX12_cutsActs_50 rfl (lv_at hl 0 rfl) ?_
      refine lv_iload_n hx hb dX12_cutsActs_51 rfl (lv_at hl 1 rfl) ?_
      obtain ⟨r4, σ4, hq4, hF⟩ := bn2_1 hF
      refine x_callV (ci := 12) rfl rfl C hP hS (c_X12_plainCuts hL hq4) (lr_54 hL) (lk_54 hL) (cwV 1 C.1.2.2.2.2 (gdV mw_1105 mw_1106 mw_1107 mw_5 mw_1108) rfl rfl rfl hd_X12_plainCuts ⟨Nat.le_of_ble_eq_true rfl, Nat.le_of_ble_eq_true rfl⟩) rfl rfl hl.1 (Nat.le_of_ble_eq_true rfl) ⟨Nat.zero_le _, Nat.zero_le _⟩ dX12_cutsActs_52 (fun H locs hP hS => ?_)
      obtain ⟨rfl, rfl⟩ := ret_2 hF
      subst hρ0
      exact x_iret rfl C hP hS dX12_cutsActs_55
    · have hF := ite_t hF c_3
      refine lv_aload_n hx hb dX12_cutsActs_33 rfl (lv_at hl 0 rfl) ?_
      refine lv_bipush (v := 51) hx hb dX12_cutsActs_34 (by decide +kernel) ?_
      obtain ⟨σ5, hq5, hF⟩ := bn_1 hF
      refine x_callV (ci := 12) rfl rfl C hP hS (c_X12_ranBody hL hq5) (lr_54 hL) (lk_54 hL) (cwV 1 C.1.2.2.2.2 (gdV mw_1101 mw_1102 mw_1103 mw_5 mw_1104) rfl rfl rfl hd_X12_ranBody ⟨Nat.le_of_ble_eq_true rfl, Nat.le_of_ble_eq_true rfl⟩) rfl rfl hl.1 (Nat.le_of_ble_eq_true rfl) ⟨Nat.zero_le _, Nat.zero_le _⟩ dX12_cutsActs_36 (fun H locs hP hS => ?_)
      refine lv_aload_n hx hb dX12_cutsActs_39 rfl (lv_at hl 0 rfl) ?_
      refine lv_iload_n hx hb dX12_cutsActs_40 rfl (lv_at hl 1 rfl) ?_
      obtain ⟨r6, σ6, hq6, hF⟩ := bn2_1 hF
      refine x_callV (ci := 12) rfl rfl C hP hS (c_X12_plainCuts hL hq6) (lr_54 hL) (lk_54 hL) (cwV 1 C.1.2.2.2.2 (gdV mw_1105 mw_1106 mw_1107 mw_5 mw_1108) rfl rfl rfl hd_X12_plainCuts ⟨Nat.le_of_ble_eq_true rfl, Nat.le_of_ble_eq_true rfl⟩) rfl rfl hl.1 (Nat.le_of_ble_eq_true rfl) ⟨Nat.zero_le _, Nat.zero_le _⟩ dX12_cutsActs_41 (fun H locs hP hS => ?_)
      refine lv_aload_n hx hb dX12_cutsActs_44 rfl (lv_at hl 0 rfl) ?_
      refine get_12_32 C hP (lr_54 hL) (lk_54 hL) inlX12 mw_1092 dX12_cutsActs_45 ?_
      refine lv_ixor hx hb dX12_cutsActs_48 ?_
      obtain ⟨x7, ex7, hF⟩ := nm_1 hF
      refine x_top ex7 ?_
      obtain ⟨rfl, rfl⟩ := ret_2 hF
      subst hρ0
      exact x_iret rfl C hP hS dX12_cutsActs_49
  · have hF := ite_f hF c_2
    refine lv_aload_n hx hb dX12_cutsActs_11 rfl (lv_at hl 0 rfl) ?_
    refine lv_bipush (v := 11) hx hb dX12_cutsActs_12 (by decide +kernel) ?_
    obtain ⟨σ8, hq8, hF⟩ := bn_1 hF
    refine x_callV (ci := 12) rfl rfl C hP hS (c_X12_ranBody hL hq8) (lr_54 hL) (lk_54 hL) (cwV 1 C.1.2.2.2.2 (gdV mw_1101 mw_1102 mw_1103 mw_5 mw_1104) rfl rfl rfl hd_X12_ranBody ⟨Nat.le_of_ble_eq_true rfl, Nat.le_of_ble_eq_true rfl⟩) rfl rfl hl.1 (Nat.le_of_ble_eq_true rfl) ⟨Nat.zero_le _, Nat.zero_le _⟩ dX12_cutsActs_14 (fun H locs hP hS => ?_)
    refine lv_aload_n hx hb dX12_cutsActs_17 rfl (lv_at hl 0 rfl) ?_
    refine lv_iload_n hx hb dX12_cutsActs_18 rfl (lv_at hl 1 rfl) ?_
    refine lv_iconst (v := 3) hx hb dX12_cutsActs_19 (by decide) ?_
    refine lv_imul hx hb dX12_cutsActs_20 ?_
    obtain ⟨x9, ex9, hF⟩ := nm_1 hF
    refine x_top ex9 ?_
    obtain ⟨r10, σ10, hq10, hF⟩ := bn2_1 hF
    refine x_callV (ci := 12) rfl rfl C hP hS (c_X12_plainCuts hL hq10) (lr_54 hL) (lk_54 hL) (cwV 1 C.1.2.2.2.2 (gdV mw_1105 mw_1106 mw_1107 mw_5 mw_1108) rfl rfl rfl hd_X12_plainCuts ⟨Nat.le_of_ble_eq_true rfl, Nat.le_of_ble_eq_true rfl⟩) rfl rfl hl.1 (Nat.le_of_ble_eq_true rfl) ⟨Nat.zero_le _, Nat.zero_le _⟩ dX12_cutsActs_21 (fun H locs hP hS => ?_)
    obtain ⟨rfl, rfl⟩ := ret_2 hF
    subst hρ0
    exact x_iret rfl C hP hS dX12_cutsActs_24
set_option maxHeartbeats 4000000 in
set_option maxRecDepth 100000 in
theorem c_X12_cutsActs {a1 : Int32} {r : Int32} {σ1 : SG} {σ : SG} {ρ : RG} (hL : Lay N K len ρ) (hF : F_X12_cutsActs a1 σ ρ = some (r, σ1)) : MT l Y D N ad K len yX12_cutsActs (Cond.code yX12_cutsActs cX12_cutsActs 2 (some .int) :: wsL_law) rm_X12_cutsActs [.ref (ad 54), .int a1] σ ρ (some (.int r)) σ1 ρ := by
  refine mt_of (cc := cX12_cutsActs) (nL := 2) (ret := (some .int)) (by decide) (Nat.le_of_ble_eq_true rfl) ?_
  intro p e s m args below meth c ls C hnm hP hS hl
  exact w_X12_cutsActs_0 C rfl hL hF hP hS hl

/-! CutCrookedModel.private int plainEats(int);  -/
theorem dX12_plainEats_0 : decode cX12_plainEats 0 = .ok (.aload_n 0, 1) := by decide +kernel
theorem dX12_plainEats_1 : decode cX12_plainEats 1 = .ok (.iconst 2, 1) := by decide +kernel
theorem dX12_plainEats_2 : decode cX12_plainEats 2 = .ok (.invokevirtual 255, 3) := by decide +kernel
theorem dX12_plainEats_5 : decode cX12_plainEats 5 = .ok (.aload_n 0, 1) := by decide +kernel
theorem dX12_plainEats_6 : decode cX12_plainEats 6 = .ok (.iload_n 1, 1) := by decide +kernel
theorem dX12_plainEats_7 : decode cX12_plainEats 7 = .ok (.invokevirtual 270, 3) := by decide +kernel
theorem dX12_plainEats_10 : decode cX12_plainEats 10 = .ok (.aload_n 0, 1) := by decide +kernel
theorem dX12_plainEats_11 : decode cX12_plainEats 11 = .ok (.getfield 273, 3) := by decide +kernel
theorem dX12_plainEats_14 : decode cX12_plainEats 14 = .ok (.isub, 1) := by decide +kernel
theorem dX12_plainEats_15 : decode cX12_plainEats 15 = .ok (.ireturn, 1) := by decide +kernel
theorem hd_X12_plainEats : yX12_plainEats.cls = RX12 ∧ yX12_plainEats.cls ≠ "java/lang/invoke/MethodHandle" ∧ yX12_plainEats.cls ≠ "java/lang/invoke/VarHandle" ∧ (parseMethodDescriptor yX12_plainEats.desc).map (fun d => d.parameters.length) = some 1 := by decide +kernel
abbrev rm_X12_plainEats : Room := { frames := 3, cells := 0, slots := 0, locals := 63 }
def F_X12_plainEats (a1 : Int32) (σ : SG) (ρ : RG) : Option (Int32 × SG) :=
  bn (F_X12_ranBody (2 : Int32) σ ρ) fun σ1 =>
  bn2 (F_X12_cutsActs a1 σ1 ρ) fun r2 σ2 =>
  nm (r2 - (σ2 54 33)) fun x3 =>
  some (x3, σ2)
set_option maxHeartbeats 4000000 in
set_option maxRecDepth 100000 in
theorem w_X12_plainEats_0 {a1 : Int32} {p : Program} {e : Env} {s : State} {m : MethodId} {args : Array Value} {below : List Frame} {meth : Method} {c : Code} {ρ0 : RG} {r : Int32} {σ1 : SG} (C : Cx Y D N ad p s m args meth c cX12_plainEats 2 (some .int) RX12 wsL_law) {σ : SG} {ρ : RG} {H : Heap} {locs : List Loc} {ls : Array Slot} (hρ0 : ρ = ρ0) (hL : Lay N K len ρ) (hF : F_X12_plainEats a1 σ ρ = some (r, σ1)) (hP : WP Y D N ad K len σ ρ H) (hS : va_S (AA N ad s.heap.size) s.heap H locs) (hl : lv_has ls 2 [(0, .ref (ad 54)), (1, .int a1)]) : W p l e rm_X12_plainEats s m args below meth c H locs 0 0 (MQ below (QW Y D N ad K len σ1 ρ0 (AA N ad s.heap.size) (some (.int r))) args s 0 0 (AA N ad s.heap.size)) (F0 m 0 ls []) := by
  have hx := C.1.1
  have hb := C.1.2.1
  unfold F_X12_plainEats at hF
  refine lv_aload_n hx hb dX12_plainEats_0 rfl (lv_at hl 0 rfl) ?_
  refine lv_iconst (v := 2) hx hb dX12_plainEats_1 (by decide) ?_
  obtain ⟨σ1, hq1, hF⟩ := bn_1 hF
  refine x_callV (ci := 12) rfl rfl C hP hS (c_X12_ranBody hL hq1) (lr_54 hL) (lk_54 hL) (cwV 1 C.1.2.2.2.2 (gdV mw_1101 mw_1102 mw_1103 mw_5 mw_1104) rfl rfl rfl hd_X12_ranBody ⟨Nat.le_of_ble_eq_true rfl, Nat.le_of_ble_eq_true rfl⟩) rfl rfl hl.1 (Nat.le_of_ble_eq_true rfl) ⟨Nat.zero_le _, Nat.zero_le _⟩ dX12_plainEats_2 (fun H locs hP hS => ?_)
  refine lv_aload_n hx hb dX12_plainEats_5 rfl (lv_at hl 0 rfl) ?_
  refine lv_iload_n hx hb dX12_plainEats_6 rfl (lv_at hl 1 rfl) ?_
  obtain ⟨r2, σ2, hq2, hF⟩ := bn2_1 hF
  refine x_callV (ci := 12) rfl rfl C hP hS (c_X12_cutsActs hL hq2) (lr_54 hL) (lk_54 hL) (cwV 1 C.1.2.2.2.2 (gdV mw_1094 mw_1095 mw_1096 mw_5 mw_1097) rfl rfl rfl hd_X12_cutsActs ⟨Nat.le_of_ble_eq_true rfl, Nat.le_of_ble_eq_true rfl⟩) rfl rfl hl.1 (Nat.le_of_ble_eq_true rfl) ⟨Nat.zero_le _, Nat.zero_le _⟩ dX12_plainEats_7 (fun H locs hP hS => ?_)
  refine lv_aload_n hx hb dX12_plainEats_10 rfl (lv_at hl 0 rfl) ?_
  refine get_12_33 C hP (lr_54 hL) (lk_54 hL) inlX12 mw_1093 dX12_plainEats_11 ?_
  refine lv_isub hx hb dX12_plainEats_14 ?_
  obtain ⟨x3, ex3, hF⟩ := nm_1 hF
  refine x_top ex3 ?_
  obtain ⟨rfl, rfl⟩ := ret_2 hF
  subst hρ0
  exact x_iret rfl C hP hS dX12_plainEats_15
set_option maxHeartbeats 4000000 in
set_option maxRecDepth 100000 in
theorem c_X12_plainEats {a1 : Int32} {r : Int32} {σ1 : SG} {σ : SG} {ρ : RG} (hL : Lay N K len ρ) (hF : F_X12_plainEats a1 σ ρ = some (r, σ1)) : MT l Y D N ad K len yX12_plainEats (Cond.code yX12_plainEats cX12_plainEats 2 (some .int) :: wsL_law) rm_X12_plainEats [.ref (ad 54), .int a1] σ ρ (some (.int r)) σ1 ρ := by
  refine mt_of (cc := cX12_plainEats) (nL := 2) (ret := (some .int)) (by decide) (Nat.le_of_ble_eq_true rfl) ?_
  intro p e s m args below meth c ls C hnm hP hS hl
  exact w_X12_plainEats_0 C rfl hL hF hP hS hl

/-! CutCrookedModel.private int eatsActs(int);  -/
theorem dX12_eatsActs_0 : decode cX12_eatsActs 0 = .ok (.aload_n 0, 1) := by decide +kernel
theorem dX12_eatsActs_1 : decode cX12_eatsActs 1 = .ok (.getfield 261, 3) := by decide +kernel
theorem dX12_eatsActs_4 : decode cX12_eatsActs 4 = .ok (.iconst 2, 1) := by decide +kernel
theorem dX12_eatsActs_5 : decode cX12_eatsActs 5 = .ok (.invokestatic 264, 3) := by decide +kernel
theorem dX12_eatsActs_8 : decode cX12_eatsActs 8 = .ok (.ifCond .eq 16, 3) := by decide +kernel
theorem dX12_eatsActs_11 : decode cX12_eatsActs 11 = .ok (.aload_n 0, 1) := by decide +kernel
theorem dX12_eatsActs_12 : decode cX12_eatsActs 12 = .ok (.bipush 21, 2) := by decide +kernel
theorem dX12_eatsActs_14 : decode cX12_eatsActs 14 = .ok (.invokevirtual 255, 3) := by decide +kernel
theorem dX12_eatsActs_17 : decode cX12_eatsActs 17 = .ok (.aload_n 0, 1) := by decide +kernel
theorem dX12_eatsActs_18 : decode cX12_eatsActs 18 = .ok (.iload_n 1, 1) := by decide +kernel
theorem dX12_eatsActs_19 : decode cX12_eatsActs 19 = .ok (.invokevirtual 276, 3) := by decide +kernel
theorem dX12_eatsActs_22 : decode cX12_eatsActs 22 = .ok (.ineg, 1) := by decide +kernel
theorem dX12_eatsActs_23 : decode cX12_eatsActs 23 = .ok (.ireturn, 1) := by decide +kernel
theorem dX12_eatsActs_24 : decode cX12_eatsActs 24 = .ok (.aload_n 0, 1) := by decide +kernel
theorem dX12_eatsActs_25 : decode cX12_eatsActs 25 = .ok (.getfield 261, 3) := by decide +kernel
theorem dX12_eatsActs_28 : decode cX12_eatsActs 28 = .ok (.bipush 6, 2) := by decide +kernel
theorem dX12_eatsActs_30 : decode cX12_eatsActs 30 = .ok (.if_icmp .ne 20, 3) := by decide +kernel
theorem dX12_eatsActs_33 : decode cX12_eatsActs 33 = .ok (.aload_n 0, 1) := by decide +kernel
theorem dX12_eatsActs_34 : decode cX12_eatsActs 34 = .ok (.bipush 61, 2) := by decide +kernel
theorem dX12_eatsActs_36 : decode cX12_eatsActs 36 = .ok (.invokevirtual 255, 3) := by decide +kernel
theorem dX12_eatsActs_39 : decode cX12_eatsActs 39 = .ok (.aload_n 0, 1) := by decide +kernel
theorem dX12_eatsActs_40 : decode cX12_eatsActs 40 = .ok (.iload_n 1, 1) := by decide +kernel
theorem dX12_eatsActs_41 : decode cX12_eatsActs 41 = .ok (.invokevirtual 276, 3) := by decide +kernel
theorem dX12_eatsActs_44 : decode cX12_eatsActs 44 = .ok (.aload_n 0, 1) := by decide +kernel
theorem dX12_eatsActs_45 : decode cX12_eatsActs 45 = .ok (.getfield 273, 3) := by decide +kernel
theorem dX12_eatsActs_48 : decode cX12_eatsActs 48 = .ok (.iadd, 1) := by decide +kernel
theorem dX12_eatsActs_49 : decode cX12_eatsActs 49 = .ok (.ireturn, 1) := by decide +kernel
theorem dX12_eatsActs_50 : decode cX12_eatsActs 50 = .ok (.aload_n 0, 1) := by decide +kernel
theorem dX12_eatsActs_51 : decode cX12_eatsActs 51 = .ok (.iload_n 1, 1) := by decide +kernel
theorem dX12_eatsActs_52 : decode cX12_eatsActs 52 = .ok (.invokevirtual 276, 3) := by decide +kernel
theorem dX12_eatsActs_55 : decode cX12_eatsActs 55 = .ok (.ireturn, 1) := by decide +kernel
theorem hd_X12_eatsActs : yX12_eatsActs.cls = RX12 ∧ yX12_eatsActs.cls ≠ "java/lang/invoke/MethodHandle" ∧ yX12_eatsActs.cls ≠ "java/lang/invoke/VarHandle" ∧ (parseMethodDescriptor yX12_eatsActs.desc).map (fun d => d.parameters.length) = some 1 := by decide +kernel
abbrev rm_X12_eatsActs : Room := { frames := 4, cells := 0, slots := 0, locals := 84 }
def F_X12_eatsActs (a1 : Int32) (σ : SG) (ρ : RG) : Option (Int32 × SG) :=
  bn (F_X12_isUnder (σ 54 31) (2 : Int32) σ ρ) fun r1 =>
  if r1 = 0 then
    if (σ 54 31) = (6 : Int32) then
      bn (F_X12_ranBody (61 : Int32) σ ρ) fun σ5 =>
      bn2 (F_X12_plainEats a1 σ5 ρ) fun r6 σ6 =>
      nm (r6 + (σ6 54 33)) fun x7 =>
      some (x7, σ6)
    else
      bn2 (F_X12_plainEats a1 σ ρ) fun r4 σ4 =>
      some (r4, σ4)
  else
    bn (F_X12_ranBody (21 : Int32) σ ρ) fun σ8 =>
    bn2 (F_X12_plainEats a1 σ8 ρ) fun r9 σ9 =>
    nm (-r9) fun x10 =>
    some (x10, σ9)
set_option maxHeartbeats 4000000 in
set_option maxRecDepth 100000 in
theorem w_X12_eatsActs_0 {a1 : Int32} {p : Program} {e : Env} {s : State} {m : MethodId} {args : Array Value} {below : List Frame} {meth : Method} {c : Code} {ρ0 : RG} {r : Int32} {σ1 : SG} (C : Cx Y D N ad p s m args meth c cX12_eatsActs 2 (some .int) RX12 wsL_law) {σ : SG} {ρ : RG} {H : Heap} {locs : List Loc} {ls : Array Slot} (hρ0 : ρ = ρ0) (hL : Lay N K len ρ) (hF : F_X12_eatsActs a1 σ ρ = some (r, σ1)) (hP : WP Y D N ad K len σ ρ H) (hS : va_S (AA N ad s.heap.size) s.heap H locs) (hl : lv_has ls 2 [(0, .ref (ad 54)), (1, .int a1)]) : W p l e rm_X12_eatsActs s m args below meth c H locs 0 0 (MQ below (QW Y D N ad K len σ1 ρ0 (AA N ad s.heap.size) (some (.int r))) args s 0 0 (AA N ad s.heap.size)) (F0 m 0 ls []) := by
  have hx := C.1.1
  have hb := C.1.2.1
  unfold F_X12_eatsActs at hF
  refine lv_aload_n hx hb dX12_eatsActs_0 rfl (lv_at hl 0 rfl) ?_
  refine get_12_31 C hP (lr_54 hL) (lk_54 hL) inlX12 mw_1091 dX12_eatsActs_1 ?_
  refine lv_iconst (v := 2) hx hb dX12_eatsActs_4 (by decide) ?_
  obtain ⟨r1, hq1, hF⟩ := bn_1 hF
  refine x_callS C hP hS (c_X12_isUnder hL hq1) (va_cwS 2 C.1.2.2.2.2 (gdS mw_1098 mw_1099 mw_5 mw_1100) rfl rfl rfl hd_X12_isUnder.2 ⟨Nat.le_of_ble_eq_true rfl, Nat.le_of_ble_eq_true rfl⟩) rfl rfl hl.1 (Nat.le_of_ble_eq_true rfl) ⟨Nat.zero_le _, Nat.zero_le _⟩ dX12_eatsActs_5 (fun H locs hP hS => ?_)
  refine lv_if_eq (tgt := 24) hx hb dX12_eatsActs_8 (by decide) (fun c_2 => ?_) (fun c_2 => ?_) -- COND 2 by_cases c_2 : r1 = 0
  · have hF := ite_t hF c_2
    refine lv_aload_n hx hb dX12_eatsActs_24 rfl (lv_at hl 0 rfl) ?_
    refine get_12_31 C hP (lr_54 hL) (lk_54 hL) inlX12 mw_1091 dX12_eatsActs_25 ?_
    refine lv_bipush (v := 6) hx hb dX12_eatsActs_28 (by decide +kernel) ?_
    refine lv_icmp_ne (tgt := 50) hx hb dX12_eatsActs_30 (by decide) (fun c_3 => ?_) (fun c_3 => ?_) -- COND 3 rcases (Decidable.em ((σ 54 31) = (6 : Int32))).symm with c_3 | c_3
    · have hF := ite_f hF c_3
      refine lv_aload_n hx hb dX12_eatsActs_50 rfl (lv_at hl 0 rfl) ?_
      refine lv_iload_n hx hb dX12_eatsActs_51 rfl (lv_at hl 1 rfl) ?_
      obtain ⟨r4, σ4, hq4, hF⟩ := bn2_1 hF
      refine x_callV (ci := 12) rfl rfl C hP hS (c_X12_plainEats hL hq4) (lr_54 hL) (lk_54 hL) (cwV 1 C.1.2.2.2.2 (gdV mw_1113 mw_1114 mw_1115 mw_5 mw_1116) rfl rfl rfl hd_X12_plainEats ⟨Nat.le_of_ble_eq_true rfl, Nat.le_of_ble_eq_true rfl⟩) rfl rfl hl.1 (Nat.le_of_ble_eq_true rfl) ⟨Nat.zero_le _, Nat.zero_le _⟩ dX12_eatsActs_52 (fun H locs hP hS => ?_)
      obtain ⟨rfl, rfl⟩ := ret_2 hF
      subst hρ0
      exact x_iret rfl C hP hS dX12_eatsActs_55
    · have hF := ite_t hF c_3
      refine lv_aload_n hx hb dX12_eatsActs_33 rfl (lv_at hl 0 rfl) ?_
      refine lv_bipush (v := 61) hx hb dX12_eatsActs_34 (by decide +kernel) ?_
      obtain ⟨σ5, hq5, hF⟩ := bn_1 hF
      refine x_callV (ci := 12) rfl rfl C hP hS (c_X12_ranBody hL hq5) (lr_54 hL) (lk_54 hL) (cwV 1 C.1.2.2.2.2 (gdV mw_1101 mw_1102 mw_1103 mw_5 mw_1104) rfl rfl rfl hd_X12_ranBody ⟨Nat.le_of_ble_eq_true rfl, Nat.le_of_ble_eq_true rfl⟩) rfl rfl hl.1 (Nat.le_of_ble_eq_true rfl) ⟨Nat.zero_le _, Nat.zero_le _⟩ dX12_eatsActs_36 (fun H locs hP hS => ?_)
      refine lv_aload_n hx hb dX12_eatsActs_39 rfl (lv_at hl 0 rfl) ?_
      refine lv_iload_n hx hb dX12_eatsActs_40 rfl (lv_at hl 1 rfl) ?_
      obtain ⟨r6, σ6, hq6, hF⟩ := bn2_1 hF
      refine x_callV (ci := 12) rfl rfl C hP hS (c_X12_plainEats hL hq6) (lr_54 hL) (lk_54 hL) (cwV 1 C.1.2.2.2.2 (gdV mw_1113 mw_1114 mw_1115 mw_5 mw_1116) rfl rfl rfl hd_X12_plainEats ⟨Nat.le_of_ble_eq_true rfl, Nat.le_of_ble_eq_true rfl⟩) rfl rfl hl.1 (Nat.le_of_ble_eq_true rfl) ⟨Nat.zero_le _, Nat.zero_le _⟩ dX12_eatsActs_41 (fun H locs hP hS => ?_)
      refine lv_aload_n hx hb dX12_eatsActs_44 rfl (lv_at hl 0 rfl) ?_
      refine get_12_33 C hP (lr_54 hL) (lk_54 hL) inlX12 mw_1093 dX12_eatsActs_45 ?_
      refine lv_iadd hx hb dX12_eatsActs_48 ?_
      obtain ⟨x7, ex7, hF⟩ := nm_1 hF
      refine x_top ex7 ?_
      obtain ⟨rfl, rfl⟩ := ret_2 hF
      subst hρ0
      exact x_iret rfl C hP hS dX12_eatsActs_49
  · have hF := ite_f hF c_2
    refine lv_aload_n hx hb dX12_eatsActs_11 rfl (lv_at hl 0 rfl) ?_
    refine lv_bipush (v := 21) hx hb dX12_eatsActs_12 (by decide +kernel) ?_
    obtain ⟨σ8, hq8, hF⟩ := bn_1 hF
    refine x_callV (ci := 12) rfl rfl C hP hS (c_X12_ranBody hL hq8) (lr_54 hL) (lk_54 hL) (cwV 1 C.1.2.2.2.2 (gdV mw_1101 mw_1102 mw_1103 mw_5 mw_1104) rfl rfl rfl hd_X12_ranBody ⟨Nat.le_of_ble_eq_true rfl, Nat.le_of_ble_eq_true rfl⟩) rfl rfl hl.1 (Nat.le_of_ble_eq_true rfl) ⟨Nat.zero_le _, Nat.zero_le _⟩ dX12_eatsActs_14 (fun H locs hP hS => ?_)
    refine lv_aload_n hx hb dX12_eatsActs_17 rfl (lv_at hl 0 rfl) ?_
    refine lv_iload_n hx hb dX12_eatsActs_18 rfl (lv_at hl 1 rfl) ?_
    obtain ⟨r9, σ9, hq9, hF⟩ := bn2_1 hF
    refine x_callV (ci := 12) rfl rfl C hP hS (c_X12_plainEats hL hq9) (lr_54 hL) (lk_54 hL) (cwV 1 C.1.2.2.2.2 (gdV mw_1113 mw_1114 mw_1115 mw_5 mw_1116) rfl rfl rfl hd_X12_plainEats ⟨Nat.le_of_ble_eq_true rfl, Nat.le_of_ble_eq_true rfl⟩) rfl rfl hl.1 (Nat.le_of_ble_eq_true rfl) ⟨Nat.zero_le _, Nat.zero_le _⟩ dX12_eatsActs_19 (fun H locs hP hS => ?_)
    refine lv_ineg hx hb dX12_eatsActs_22 ?_
    obtain ⟨x10, ex10, hF⟩ := nm_1 hF
    refine x_top ex10 ?_
    obtain ⟨rfl, rfl⟩ := ret_2 hF
    subst hρ0
    exact x_iret rfl C hP hS dX12_eatsActs_23
set_option maxHeartbeats 4000000 in
set_option maxRecDepth 100000 in
theorem c_X12_eatsActs {a1 : Int32} {r : Int32} {σ1 : SG} {σ : SG} {ρ : RG} (hL : Lay N K len ρ) (hF : F_X12_eatsActs a1 σ ρ = some (r, σ1)) : MT l Y D N ad K len yX12_eatsActs (Cond.code yX12_eatsActs cX12_eatsActs 2 (some .int) :: wsL_law) rm_X12_eatsActs [.ref (ad 54), .int a1] σ ρ (some (.int r)) σ1 ρ := by
  refine mt_of (cc := cX12_eatsActs) (nL := 2) (ret := (some .int)) (by decide) (Nat.le_of_ble_eq_true rfl) ?_
  intro p e s m args below meth c ls C hnm hP hS hl
  exact w_X12_eatsActs_0 C rfl hL hF hP hS hl

/-! CutCrookedModel.private int plainTells(int);  -/
theorem dX12_plainTells_0 : decode cX12_plainTells 0 = .ok (.aload_n 0, 1) := by decide +kernel
theorem dX12_plainTells_1 : decode cX12_plainTells 1 = .ok (.iconst 3, 1) := by decide +kernel
theorem dX12_plainTells_2 : decode cX12_plainTells 2 = .ok (.invokevirtual 255, 3) := by decide +kernel
theorem dX12_plainTells_5 : decode cX12_plainTells 5 = .ok (.aload_n 0, 1) := by decide +kernel
theorem dX12_plainTells_6 : decode cX12_plainTells 6 = .ok (.iload_n 1, 1) := by decide +kernel
theorem dX12_plainTells_7 : decode cX12_plainTells 7 = .ok (.invokevirtual 279, 3) := by decide +kernel
theorem dX12_plainTells_10 : decode cX12_plainTells 10 = .ok (.iconst 2, 1) := by decide +kernel
theorem dX12_plainTells_11 : decode cX12_plainTells 11 = .ok (.imul, 1) := by decide +kernel
theorem dX12_plainTells_12 : decode cX12_plainTells 12 = .ok (.ireturn, 1) := by decide +kernel
theorem hd_X12_plainTells : yX12_plainTells.cls = RX12 ∧ yX12_plainTells.cls ≠ "java/lang/invoke/MethodHandle" ∧ yX12_plainTells.cls ≠ "java/lang/invoke/VarHandle" ∧ (parseMethodDescriptor yX12_plainTells.desc).map (fun d => d.parameters.length) = some 1 := by decide +kernel
abbrev rm_X12_plainTells : Room := { frames := 5, cells := 0, slots := 0, locals := 105 }
def F_X12_plainTells (a1 : Int32) (σ : SG) (ρ : RG) : Option (Int32 × SG) :=
  bn (F_X12_ranBody (3 : Int32) σ ρ) fun σ1 =>
  bn2 (F_X12_eatsActs a1 σ1 ρ) fun r2 σ2 =>
  nm (r2 * (2 : Int32)) fun x3 =>
  some (x3, σ2)
set_option maxHeartbeats 4000000 in
set_option maxRecDepth 100000 in
theorem w_X12_plainTells_0 {a1 : Int32} {p : Program} {e : Env} {s : State} {m : MethodId} {args : Array Value} {below : List Frame} {meth : Method} {c : Code} {ρ0 : RG} {r : Int32} {σ1 : SG} (C : Cx Y D N ad p s m args meth c cX12_plainTells 2 (some .int) RX12 wsL_law) {σ : SG} {ρ : RG} {H : Heap} {locs : List Loc} {ls : Array Slot} (hρ0 : ρ = ρ0) (hL : Lay N K len ρ) (hF : F_X12_plainTells a1 σ ρ = some (r, σ1)) (hP : WP Y D N ad K len σ ρ H) (hS : va_S (AA N ad s.heap.size) s.heap H locs) (hl : lv_has ls 2 [(0, .ref (ad 54)), (1, .int a1)]) : W p l e rm_X12_plainTells s m args below meth c H locs 0 0 (MQ below (QW Y D N ad K len σ1 ρ0 (AA N ad s.heap.size) (some (.int r))) args s 0 0 (AA N ad s.heap.size)) (F0 m 0 ls []) := by
  have hx := C.1.1
  have hb := C.1.2.1
  unfold F_X12_plainTells at hF
  refine lv_aload_n hx hb dX12_plainTells_0 rfl (lv_at hl 0 rfl) ?_
  refine lv_iconst (v := 3) hx hb dX12_plainTells_1 (by decide) ?_
  obtain ⟨σ1, hq1, hF⟩ := bn_1 hF
  refine x_callV (ci := 12) rfl rfl C hP hS (c_X12_ranBody hL hq1) (lr_54 hL) (lk_54 hL) (cwV 1 C.1.2.2.2.2 (gdV mw_1101 mw_1102 mw_1103 mw_5 mw_1104) rfl rfl rfl hd_X12_ranBody ⟨Nat.le_of_ble_eq_true rfl, Nat.le_of_ble_eq_true rfl⟩) rfl rfl hl.1 (Nat.le_of_ble_eq_true rfl) ⟨Nat.zero_le _, Nat.zero_le _⟩ dX12_plainTells_2 (fun H locs hP hS => ?_)
  refine lv_aload_n hx hb dX12_plainTells_5 rfl (lv_at hl 0 rfl) ?_
  refine lv_iload_n hx hb dX12_plainTells_6 rfl (lv_at hl 1 rfl) ?_
  obtain ⟨r2, σ2, hq2, hF⟩ := bn2_1 hF
  refine x_callV (ci := 12) rfl rfl C hP hS (c_X12_eatsActs hL hq2) (lr_54 hL) (lk_54 hL) (cwV 1 C.1.2.2.2.2 (gdV mw_1109 mw_1110 mw_1111 mw_5 mw_1112) rfl rfl rfl hd_X12_eatsActs ⟨Nat.le_of_ble_eq_true rfl, Nat.le_of_ble_eq_true rfl⟩) rfl rfl hl.1 (Nat.le_of_ble_eq_true rfl) ⟨Nat.zero_le _, Nat.zero_le _⟩ dX12_plainTells_7 (fun H locs hP hS => ?_)
  refine lv_iconst (v := 2) hx hb dX12_plainTells_10 (by decide) ?_
  refine lv_imul hx hb dX12_plainTells_11 ?_
  obtain ⟨x3, ex3, hF⟩ := nm_1 hF
  refine x_top ex3 ?_
  obtain ⟨rfl, rfl⟩ := ret_2 hF
  subst hρ0
  exact x_iret rfl C hP hS dX12_plainTells_12
set_option maxHeartbeats 4000000 in
set_option maxRecDepth 100000 in
theorem c_X12_plainTells {a1 : Int32} {r : Int32} {σ1 : SG} {σ : SG} {ρ : RG} (hL : Lay N K len ρ) (hF : F_X12_plainTells a1 σ ρ = some (r, σ1)) : MT l Y D N ad K len yX12_plainTells (Cond.code yX12_plainTells cX12_plainTells 2 (some .int) :: wsL_law) rm_X12_plainTells [.ref (ad 54), .int a1] σ ρ (some (.int r)) σ1 ρ := by
  refine mt_of (cc := cX12_plainTells) (nL := 2) (ret := (some .int)) (by decide) (Nat.le_of_ble_eq_true rfl) ?_
  intro p e s m args below meth c ls C hnm hP hS hl
  exact w_X12_plainTells_0 C rfl hL hF hP hS hl

/-! CutCrookedModel.private int tellsActs(int);  -/
theorem dX12_tellsActs_0 : decode cX12_tellsActs 0 = .ok (.aload_n 0, 1) := by decide +kernel
theorem dX12_tellsActs_1 : decode cX12_tellsActs 1 = .ok (.getfield 261, 3) := by decide +kernel
theorem dX12_tellsActs_4 : decode cX12_tellsActs 4 = .ok (.iconst 3, 1) := by decide +kernel
theorem dX12_tellsActs_5 : decode cX12_tellsActs 5 = .ok (.invokestatic 264, 3) := by decide +kernel
theorem dX12_tellsActs_8 : decode cX12_tellsActs 8 = .ok (.ifCond .eq 18, 3) := by decide +kernel
theorem dX12_tellsActs_11 : decode cX12_tellsActs 11 = .ok (.aload_n 0, 1) := by decide +kernel
theorem dX12_tellsActs_12 : decode cX12_tellsActs 12 = .ok (.bipush 31, 2) := by decide +kernel
theorem dX12_tellsActs_14 : decode cX12_tellsActs 14 = .ok (.invokevirtual 255, 3) := by decide +kernel
theorem dX12_tellsActs_17 : decode cX12_tellsActs 17 = .ok (.aload_n 0, 1) := by decide +kernel
theorem dX12_tellsActs_18 : decode cX12_tellsActs 18 = .ok (.iload_n 1, 1) := by decide +kernel
theorem dX12_tellsActs_19 : decode cX12_tellsActs 19 = .ok (.invokevirtual 282, 3) := by decide +kernel
theorem dX12_tellsActs_22 : decode cX12_tellsActs 22 = .ok (.bipush 7, 2) := by decide +kernel
theorem dX12_tellsActs_24 : decode cX12_tellsActs 24 = .ok (.ixor, 1) := by decide +kernel
theorem dX12_tellsActs_25 : decode cX12_tellsActs 25 = .ok (.ireturn, 1) := by decide +kernel
theorem dX12_tellsActs_26 : decode cX12_tellsActs 26 = .ok (.aload_n 0, 1) := by decide +kernel
theorem dX12_tellsActs_27 : decode cX12_tellsActs 27 = .ok (.getfield 261, 3) := by decide +kernel
theorem dX12_tellsActs_30 : decode cX12_tellsActs 30 = .ok (.iconst 4, 1) := by decide +kernel
theorem dX12_tellsActs_31 : decode cX12_tellsActs 31 = .ok (.if_icmp .ne 25, 3) := by decide +kernel
theorem dX12_tellsActs_34 : decode cX12_tellsActs 34 = .ok (.aload_n 0, 1) := by decide +kernel
theorem dX12_tellsActs_35 : decode cX12_tellsActs 35 = .ok (.bipush 41, 2) := by decide +kernel
theorem dX12_tellsActs_37 : decode cX12_tellsActs 37 = .ok (.invokevirtual 255, 3) := by decide +kernel
theorem dX12_tellsActs_40 : decode cX12_tellsActs 40 = .ok (.aload_n 0, 1) := by decide +kernel
theorem dX12_tellsActs_41 : decode cX12_tellsActs 41 = .ok (.iload_n 1, 1) := by decide +kernel
theorem dX12_tellsActs_42 : decode cX12_tellsActs 42 = .ok (.iconst 1, 1) := by decide +kernel
theorem dX12_tellsActs_43 : decode cX12_tellsActs 43 = .ok (.isub, 1) := by decide +kernel
theorem dX12_tellsActs_44 : decode cX12_tellsActs 44 = .ok (.invokevirtual 282, 3) := by decide +kernel
theorem dX12_tellsActs_47 : decode cX12_tellsActs 47 = .ok (.istore_n 2, 1) := by decide +kernel
theorem dX12_tellsActs_48 : decode cX12_tellsActs 48 = .ok (.iload_n 2, 1) := by decide +kernel
theorem dX12_tellsActs_49 : decode cX12_tellsActs 49 = .ok (.aload_n 0, 1) := by decide +kernel
theorem dX12_tellsActs_50 : decode cX12_tellsActs 50 = .ok (.iconst 2, 1) := by decide +kernel
theorem dX12_tellsActs_51 : decode cX12_tellsActs 51 = .ok (.invokevirtual 270, 3) := by decide +kernel
theorem dX12_tellsActs_54 : decode cX12_tellsActs 54 = .ok (.iadd, 1) := by decide +kernel
theorem dX12_tellsActs_55 : decode cX12_tellsActs 55 = .ok (.ireturn, 1) := by decide +kernel
theorem dX12_tellsActs_56 : decode cX12_tellsActs 56 = .ok (.aload_n 0, 1) := by decide +kernel
theorem dX12_tellsActs_57 : decode cX12_tellsActs 57 = .ok (.iload_n 1, 1) := by decide +kernel
theorem dX12_tellsActs_58 : decode cX12_tellsActs 58 = .ok (.invokevirtual 282, 3) := by decide +kernel
theorem dX12_tellsActs_61 : decode cX12_tellsActs 61 = .ok (.ireturn, 1) := by decide +kernel
theorem hd_X12_tellsActs : yX12_tellsActs.cls = RX12 ∧ yX12_tellsActs.cls ≠ "java/lang/invoke/MethodHandle" ∧ yX12_tellsActs.cls ≠ "java/lang/invoke/VarHandle" ∧ (parseMethodDescriptor yX12_tellsActs.desc).map (fun d => d.parameters.length) = some 1 := by decide +kernel
abbrev rm_X12_tellsActs : Room := { frames := 6, cells := 0, slots := 0, locals := 126 }
def F_X12_tellsActs (a1 : Int32) (σ : SG) (ρ : RG) : Option (Int32 × SG) :=
  bn (F_X12_isUnder (σ 54 31) (3 : Int32) σ ρ) fun r1 =>
  if r1 = 0 then
    if (σ 54 31) = (4 : Int32) then
      bn (F_X12_ranBody (41 : Int32) σ ρ) fun σ5 =>
      nm (a1 - (1 : Int32)) fun x6 =>
      bn2 (F_X12_plainTells x6 σ5 ρ) fun r7 σ7 =>
      bn2 (F_X12_cutsActs (2 : Int32) σ7 ρ) fun r8 σ8 =>
      nm (r7 + r8) fun x9 =>
      some (x9, σ8)
    else
      bn2 (F_X12_plainTells a1 σ ρ) fun r4 σ4 =>
      some (r4, σ4)
  else
    bn (F_X12_ranBody (31 : Int32) σ ρ) fun σ10 =>
    bn2 (F_X12_plainTells a1 σ10 ρ) fun r11 σ11 =>
    nm (r11 ^^^ (7 : Int32)) fun x12 =>
    some (x12, σ11)
set_option maxHeartbeats 4000000 in
set_option maxRecDepth 100000 in
theorem w_X12_tellsActs_0 {a1 : Int32} {p : Program} {e : Env} {s : State} {m : MethodId} {args : Array Value} {below : List Frame} {meth : Method} {c : Code} {ρ0 : RG} {r : Int32} {σ1 : SG} (C : Cx Y D N ad p s m args meth c cX12_tellsActs 3 (some .int) RX12 wsL_law) {σ : SG} {ρ : RG} {H : Heap} {locs : List Loc} {ls : Array Slot} (hρ0 : ρ = ρ0) (hL : Lay N K len ρ) (hF : F_X12_tellsActs a1 σ ρ = some (r, σ1)) (hP : WP Y D N ad K len σ ρ H) (hS : va_S (AA N ad s.heap.size) s.heap H locs) (hl : lv_has ls 3 [(0, .ref (ad 54)), (1, .int a1)]) : W p l e rm_X12_tellsActs s m args below meth c H locs 0 0 (MQ below (QW Y D N ad K len σ1 ρ0 (AA N ad s.heap.size) (some (.int r))) args s 0 0 (AA N ad s.heap.size)) (F0 m 0 ls []) := by
  have hx := C.1.1
  have hb := C.1.2.1
  unfold F_X12_tellsActs at hF
  refine lv_aload_n hx hb dX12_tellsActs_0 rfl (lv_at hl 0 rfl) ?_
  refine get_12_31 C hP (lr_54 hL) (lk_54 hL) inlX12 mw_1091 dX12_tellsActs_1 ?_
  refine lv_iconst (v := 3) hx hb dX12_tellsActs_4 (by decide) ?_
  obtain ⟨r1, hq1, hF⟩ := bn_1 hF
  refine x_callS C hP hS (c_X12_isUnder hL hq1) (va_cwS 2 C.1.2.2.2.2 (gdS mw_1098 mw_1099 mw_5 mw_1100) rfl rfl rfl hd_X12_isUnder.2 ⟨Nat.le_of_ble_eq_true rfl, Nat.le_of_ble_eq_true rfl⟩) rfl rfl hl.1 (Nat.le_of_ble_eq_true rfl) ⟨Nat.zero_le _, Nat.zero_le _⟩ dX12_tellsActs_5 (fun H locs hP hS => ?_)
  refine lv_if_eq (tgt := 26) hx hb dX12_tellsActs_8 (by decide) (fun c_2 => ?_) (fun c_2 => ?_) -- COND 2 by_cases c_2 : r1 = 0
  · have hF := ite_t hF c_2
    refine lv_aload_n hx hb dX12_tellsActs_26 rfl (lv_at hl 0 rfl) ?_
    refine get_12_31 C hP (lr_54 hL) (lk_54 hL) inlX12 mw_1091 dX12_tellsActs_27 ?_
    refine lv_iconst (v := 4) hx hb dX12_tellsActs_30 (by decide) ?_
    refine lv_icmp_ne (tgt := 56) hx hb dX12_tellsActs_31 (by decide) (fun c_3 => ?_) (fun c_3 => ?_) -- COND 3 rcases (Decidable.em ((σ 54 31) = (4 : Int32))).symm with c_3 | c_3
    · have hF := ite_f hF c_3
      refine lv_aload_n hx hb dX12_tellsActs_56 rfl (lv_at hl 0 rfl) ?_
      refine lv_iload_n hx hb dX12_tellsActs_57 rfl (lv_at hl 1 rfl) ?_
      obtain ⟨r4, σ4, hq4, hF⟩ := bn2_1 hF
      refine x_callV (ci := 12) rfl rfl C hP hS (c_X12_plainTells hL hq4) (lr_54 hL) (lk_54 hL) (cwV 1 C.1.2.2.2.2 (gdV mw_1121 mw_1122 mw_1123 mw_5 mw_1124) rfl rfl rfl hd_X12_plainTells ⟨Nat.le_of_ble_eq_true rfl, Nat.le_of_ble_eq_true rfl⟩) rfl rfl hl.1 (Nat.le_of_ble_eq_true rfl) ⟨Nat.zero_le _, Nat.zero_le _⟩ dX12_tellsActs_58 (fun H locs hP hS => ?_)
      obtain ⟨rfl, rfl⟩ := ret_2 hF
      subst hρ0
      exact x_iret rfl C hP hS dX12_tellsActs_61
    · have hF := ite_t hF c_3
      refine lv_aload_n hx hb dX12_tellsActs_34 rfl (lv_at hl 0 rfl) ?_
      refine lv_bipush (v := 41) hx hb dX12_tellsActs_35 (by decide +kernel) ?_
      obtain ⟨σ5, hq5, hF⟩ := bn_1 hF
      refine x_callV (ci := 12) rfl rfl C hP hS (c_X12_ranBody hL hq5) (lr_54 hL) (lk_54 hL) (cwV 1 C.1.2.2.2.2 (gdV mw_1101 mw_1102 mw_1103 mw_5 mw_1104) rfl rfl rfl hd_X12_ranBody ⟨Nat.le_of_ble_eq_true rfl, Nat.le_of_ble_eq_true rfl⟩) rfl rfl hl.1 (Nat.le_of_ble_eq_true rfl) ⟨Nat.zero_le _, Nat.zero_le _⟩ dX12_tellsActs_37 (fun H locs hP hS => ?_)
      refine lv_aload_n hx hb dX12_tellsActs_40 rfl (lv_at hl 0 rfl) ?_
      refine lv_iload_n hx hb dX12_tellsActs_41 rfl (lv_at hl 1 rfl) ?_
      refine lv_iconst (v := 1) hx hb dX12_tellsActs_42 (by decide) ?_
      refine lv_isub hx hb dX12_tellsActs_43 ?_
      obtain ⟨x6, ex6, hF⟩ := nm_1 hF
      refine x_top ex6 ?_
      obtain ⟨r7, σ7, hq7, hF⟩ := bn2_1 hF
      refine x_callV (ci := 12) rfl rfl C hP hS (c_X12_plainTells hL hq7) (lr_54 hL) (lk_54 hL) (cwV 1 C.1.2.2.2.2 (gdV mw_1121 mw_1122 mw_1123 mw_5 mw_1124) rfl rfl rfl hd_X12_plainTells ⟨Nat.le_of_ble_eq_true rfl, Nat.le_of_ble_eq_true rfl⟩) rfl rfl hl.1 (Nat.le_of_ble_eq_true rfl) ⟨Nat.zero_le _, Nat.zero_le _⟩ dX12_tellsActs_44 (fun H locs hP hS => ?_)
      refine lv_istore_n (lv' := [(2, .int r7), (0, .ref (ad 54)), (1, .int a1)]) hx hb dX12_tellsActs_47 rfl hl (by decide) rfl (fun ls hl => ?_)
      refine lv_iload_n hx hb dX12_tellsActs_48 rfl (lv_at hl 0 rfl) ?_
      refine lv_aload_n hx hb dX12_tellsActs_49 rfl (lv_at hl 1 rfl) ?_
      refine lv_iconst (v := 2) hx hb dX12_tellsActs_50 (by decide) ?_
      obtain ⟨r8, σ8, hq8, hF⟩ := bn2_1 hF
      refine x_callV (ci := 12) rfl rfl C hP hS (c_X12_cutsActs hL hq8) (lr_54 hL) (lk_54 hL) (cwV 1 C.1.2.2.2.2 (gdV mw_1094 mw_1095 mw_1096 mw_5 mw_1097) rfl rfl rfl hd_X12_cutsActs ⟨Nat.le_of_ble_eq_true rfl, Nat.le_of_ble_eq_true rfl⟩) rfl rfl hl.1 (Nat.le_of_ble_eq_true rfl) ⟨Nat.zero_le _, Nat.zero_le _⟩ dX12_tellsActs_51 (fun H locs hP hS => ?_)
      refine lv_iadd hx hb dX12_tellsActs_54 ?_
      obtain ⟨x9, ex9, hF⟩ := nm_1 hF
      refine x_top ex9 ?_
      obtain ⟨rfl, rfl⟩ := ret_2 hF
      subst hρ0
      exact x_iret rfl C hP hS dX12_tellsActs_55
  · have hF := ite_f hF c_2
    refine lv_aload_n hx hb dX12_tellsActs_11 rfl (lv_at hl 0 rfl) ?_
    refine lv_bipush (v := 31) hx hb dX12_tellsActs_12 (by decide +kernel) ?_
    obtain ⟨σ10, hq10, hF⟩ := bn_1 hF
    refine x_callV (ci := 12) rfl rfl C hP hS (c_X12_ranBody hL hq10) (lr_54 hL) (lk_54 hL) (cwV 1 C.1.2.2.2.2 (gdV mw_1101 mw_1102 mw_1103 mw_5 mw_1104) rfl rfl rfl hd_X12_ranBody ⟨Nat.le_of_ble_eq_true rfl, Nat.le_of_ble_eq_true rfl⟩) rfl rfl hl.1 (Nat.le_of_ble_eq_true rfl) ⟨Nat.zero_le _, Nat.zero_le _⟩ dX12_tellsActs_14 (fun H locs hP hS => ?_)
    refine lv_aload_n hx hb dX12_tellsActs_17 rfl (lv_at hl 0 rfl) ?_
    refine lv_iload_n hx hb dX12_tellsActs_18 rfl (lv_at hl 1 rfl) ?_
    obtain ⟨r11, σ11, hq11, hF⟩ := bn2_1 hF
    refine x_callV (ci := 12) rfl rfl C hP hS (c_X12_plainTells hL hq11) (lr_54 hL) (lk_54 hL) (cwV 1 C.1.2.2.2.2 (gdV mw_1121 mw_1122 mw_1123 mw_5 mw_1124) rfl rfl rfl hd_X12_plainTells ⟨Nat.le_of_ble_eq_true rfl, Nat.le_of_ble_eq_true rfl⟩) rfl rfl hl.1 (Nat.le_of_ble_eq_true rfl) ⟨Nat.zero_le _, Nat.zero_le _⟩ dX12_tellsActs_19 (fun H locs hP hS => ?_)
    refine lv_bipush (v := 7) hx hb dX12_tellsActs_22 (by decide +kernel) ?_
    refine lv_ixor hx hb dX12_tellsActs_24 ?_
    obtain ⟨x12, ex12, hF⟩ := nm_1 hF
    refine x_top ex12 ?_
    obtain ⟨rfl, rfl⟩ := ret_2 hF
    subst hρ0
    exact x_iret rfl C hP hS dX12_tellsActs_25
set_option maxHeartbeats 4000000 in
set_option maxRecDepth 100000 in
theorem c_X12_tellsActs {a1 : Int32} {r : Int32} {σ1 : SG} {σ : SG} {ρ : RG} (hL : Lay N K len ρ) (hF : F_X12_tellsActs a1 σ ρ = some (r, σ1)) : MT l Y D N ad K len yX12_tellsActs (Cond.code yX12_tellsActs cX12_tellsActs 3 (some .int) :: wsL_law) rm_X12_tellsActs [.ref (ad 54), .int a1] σ ρ (some (.int r)) σ1 ρ := by
  refine mt_of (cc := cX12_tellsActs) (nL := 3) (ret := (some .int)) (by decide) (Nat.le_of_ble_eq_true rfl) ?_
  intro p e s m args below meth c ls C hnm hP hS hl
  exact w_X12_tellsActs_0 C rfl hL hF hP hS hl

/-! CutCrookedModel.public int act(int, int, int);  -/
theorem dX12_act_0 : decode cX12_act 0 = .ok (.aload_n 0, 1) := by decide +kernel
theorem dX12_act_1 : decode cX12_act 1 = .ok (.iconst 0, 1) := by decide +kernel
theorem dX12_act_2 : decode cX12_act 2 = .ok (.putfield 252, 3) := by decide +kernel
theorem dX12_act_5 : decode cX12_act 5 = .ok (.aload_n 0, 1) := by decide +kernel
theorem dX12_act_6 : decode cX12_act 6 = .ok (.iload_n 1, 1) := by decide +kernel
theorem dX12_act_7 : decode cX12_act 7 = .ok (.invokevirtual 143, 3) := by decide +kernel
theorem dX12_act_10 : decode cX12_act 10 = .ok (.ifCond .eq 12, 3) := by decide +kernel
theorem dX12_act_13 : decode cX12_act 13 = .ok (.iload_n 2, 1) := by decide +kernel
theorem dX12_act_14 : decode cX12_act 14 = .ok (.iconst 0, 1) := by decide +kernel
theorem dX12_act_15 : decode cX12_act 15 = .ok (.iconst 2, 1) := by decide +kernel
theorem dX12_act_16 : decode cX12_act 16 = .ok (.invokestatic 47, 3) := by decide +kernel
theorem dX12_act_19 : decode cX12_act 19 = .ok (.ifCond .ne 5, 3) := by decide +kernel
theorem dX12_act_22 : decode cX12_act 22 = .ok (.iconst 0, 1) := by decide +kernel
theorem dX12_act_23 : decode cX12_act 23 = .ok (.ireturn, 1) := by decide +kernel
theorem dX12_act_24 : decode cX12_act 24 = .ok (.aload_n 0, 1) := by decide +kernel
theorem dX12_act_25 : decode cX12_act 25 = .ok (.aload_n 0, 1) := by decide +kernel
theorem dX12_act_26 : decode cX12_act 26 = .ok (.getfield 9, 3) := by decide +kernel
theorem dX12_act_29 : decode cX12_act 29 = .ok (.bipush 20, 2) := by decide +kernel
theorem dX12_act_31 : decode cX12_act 31 = .ok (.iload_n 1, 1) := by decide +kernel
theorem dX12_act_32 : decode cX12_act 32 = .ok (.iadd, 1) := by decide +kernel
theorem dX12_act_33 : decode cX12_act 33 = .ok (.iaload, 1) := by decide +kernel
theorem dX12_act_34 : decode cX12_act 34 = .ok (.putfield 261, 3) := by decide +kernel
theorem dX12_act_37 : decode cX12_act 37 = .ok (.aload_n 0, 1) := by decide +kernel
theorem dX12_act_38 : decode cX12_act 38 = .ok (.iload_n 1, 1) := by decide +kernel
theorem dX12_act_39 : decode cX12_act 39 = .ok (.putfield 258, 3) := by decide +kernel
theorem dX12_act_42 : decode cX12_act 42 = .ok (.aload_n 0, 1) := by decide +kernel
theorem dX12_act_43 : decode cX12_act 43 = .ok (.aload_n 0, 1) := by decide +kernel
theorem dX12_act_44 : decode cX12_act 44 = .ok (.getfield 9, 3) := by decide +kernel
theorem dX12_act_47 : decode cX12_act 47 = .ok (.bipush 26, 2) := by decide +kernel
theorem dX12_act_49 : decode cX12_act 49 = .ok (.iload_n 1, 1) := by decide +kernel
theorem dX12_act_50 : decode cX12_act 50 = .ok (.iadd, 1) := by decide +kernel
theorem dX12_act_51 : decode cX12_act 51 = .ok (.iaload, 1) := by decide +kernel
theorem dX12_act_52 : decode cX12_act 52 = .ok (.putfield 273, 3) := by decide +kernel
theorem dX12_act_55 : decode cX12_act 55 = .ok (.iload_n 2, 1) := by decide +kernel
theorem dX12_act_56 : decode cX12_act 56 = .ok (.ifCond .ne 11, 3) := by decide +kernel
theorem dX12_act_59 : decode cX12_act 59 = .ok (.aload_n 0, 1) := by decide +kernel
theorem dX12_act_60 : decode cX12_act 60 = .ok (.iload_n 3, 1) := by decide +kernel
theorem dX12_act_61 : decode cX12_act 61 = .ok (.invokevirtual 270, 3) := by decide +kernel
theorem dX12_act_64 : decode cX12_act 64 = .ok (.goto 21, 3) := by decide +kernel
theorem dX12_act_67 : decode cX12_act 67 = .ok (.iload_n 2, 1) := by decide +kernel
theorem dX12_act_68 : decode cX12_act 68 = .ok (.iconst 1, 1) := by decide +kernel
theorem dX12_act_69 : decode cX12_act 69 = .ok (.if_icmp .ne 11, 3) := by decide +kernel
theorem dX12_act_72 : decode cX12_act 72 = .ok (.aload_n 0, 1) := by decide +kernel
theorem dX12_act_73 : decode cX12_act 73 = .ok (.iload_n 3, 1) := by decide +kernel
theorem dX12_act_74 : decode cX12_act 74 = .ok (.invokevirtual 279, 3) := by decide +kernel
theorem dX12_act_77 : decode cX12_act 77 = .ok (.goto 8, 3) := by decide +kernel
theorem dX12_act_80 : decode cX12_act 80 = .ok (.aload_n 0, 1) := by decide +kernel
theorem dX12_act_81 : decode cX12_act 81 = .ok (.iload_n 3, 1) := by decide +kernel
theorem dX12_act_82 : decode cX12_act 82 = .ok (.invokevirtual 285, 3) := by decide +kernel
theorem dX12_act_85 : decode cX12_act 85 = .ok (.ireturn, 1) := by decide +kernel
theorem hd_X12_act : yX12_act.cls = RX12 ∧ yX12_act.cls ≠ "java/lang/invoke/MethodHandle" ∧ yX12_act.cls ≠ "java/lang/invoke/VarHandle" ∧ (parseMethodDescriptor yX12_act.desc).map (fun d => d.parameters.length) = some 3 := by decide +kernel
abbrev rm_X12_act : Room := { frames := 7, cells := 0, slots := 0, locals := 148 }
def F_X12_act (a1 : Int32) (a2 : Int32) (a3 : Int32) (σ : SG) (ρ : RG) : Option (Int32 × SG) :=
  nm (s2 σ 54 30 (0 : Int32)) fun σ2 =>
  bn (F_X12_isCutter a1 σ2 ρ) fun r3 =>
  if r3 = 0 then
    some ((0 : Int32), σ2)
  else
    bn (F_X12_in a2 (0 : Int32) (2 : Int32) σ2 ρ) fun r5 =>
    if r5 = 0 then
      some ((0 : Int32), σ2)
    else
      nm ((20 : Int32) + a1) fun x7 =>
      gd (inb x7 909) <|
      nm (s2 σ2 54 31 (σ2 55 (x7).toNatClampNeg)) fun σ10 =>
      nm (s2 σ10 54 32 a1) fun σ12 =>
      nm ((26 : Int32) + a1) fun x13 =>
      gd (inb x13 909) <|
      nm (s2 σ12 54 33 (σ12 55 (x13).toNatClampNeg)) fun σ16 =>
      if a2 = 0 then
        bn2 (F_X12_cutsActs a3 σ16 ρ) fun r21 σ21 =>
        some (r21, σ21)
      else
        if a2 = (1 : Int32) then
          bn2 (F_X12_eatsActs a3 σ16 ρ) fun r20 σ20 =>
          some (r20, σ20)
        else
          bn2 (F_X12_tellsActs a3 σ16 ρ) fun r19 σ19 =>
          some (r19, σ19)
set_option maxHeartbeats 4000000 in
set_option maxRecDepth 100000 in
theorem w_X12_act_0 {a1 : Int32} {a2 : Int32} {a3 : Int32} {p : Program} {e : Env} {s : State} {m : MethodId} {args : Array Value} {below : List Frame} {meth : Method} {c : Code} {ρ0 : RG} {r : Int32} {σ1 : SG} (C : Cx Y D N ad p s m args meth c cX12_act 4 (some .int) RX12 wsL_law) {σ : SG} {ρ : RG} {H : Heap} {locs : List Loc} {ls : Array Slot} (hρ0 : ρ = ρ0) (hL : Lay N K len ρ) (hF : F_X12_act a1 a2 a3 σ ρ = some (r, σ1)) (hP : WP Y D N ad K len σ ρ H) (hS : va_S (AA N ad s.heap.size) s.heap H locs) (hl : lv_has ls 4 [(0, .ref (ad 54)), (1, .int a1), (2, .int a2), (3, .int a3)]) : W p l e rm_X12_act s m args below meth c H locs 0 0 (MQ below (QW Y D N ad K len σ1 ρ0 (AA N ad s.heap.size) (some (.int r))) args s 0 0 (AA N ad s.heap.size)) (F0 m 0 ls []) := by
  have hx := C.1.1
  have hb := C.1.2.1
  unfold F_X12_act at hF
  refine lv_aload_n hx hb dX12_act_0 rfl (lv_at hl 0 rfl) ?_
  refine lv_iconst (v := 0) hx hb dX12_act_1 (by decide) ?_
  obtain ⟨σ2, eσ2, hF⟩ := nm_1 hF
  refine put_12_30 C hP hS (lr_54 hL) (lk_54 hL) inlX12 mw_1090 eσ2 dX12_act_2 (fun H locs hP hS => ?_)
  refine lv_aload_n hx hb dX12_act_5 rfl (lv_at hl 0 rfl) ?_
  refine lv_iload_n hx hb dX12_act_6 rfl (lv_at hl 1 rfl) ?_
  obtain ⟨r3, hq3, hF⟩ := bn_1 hF
  refine x_callV (ci := 12) rfl rfl C hP hS (c_X12_isCutter hL hq3) (lr_54 hL) (lk_54 hL) (cwV 1 C.1.2.2.2.2 (gdV mw_462 mw_463 mw_464 mw_5 mw_465) rfl rfl rfl hd_X12_isCutter ⟨Nat.le_of_ble_eq_true rfl, Nat.le_of_ble_eq_true rfl⟩) rfl rfl hl.1 (Nat.le_of_ble_eq_true rfl) ⟨Nat.zero_le _, Nat.zero_le _⟩ dX12_act_7 (fun H locs hP hS => ?_)
  refine lv_if_eq (tgt := 22) hx hb dX12_act_10 (by decide) (fun c_4 => ?_) (fun c_4 => ?_) -- COND 4 by_cases c_4 : r3 = 0
  · have hF := ite_t hF c_4
    refine lv_iconst (v := 0) hx hb dX12_act_22 (by decide) ?_
    obtain ⟨rfl, rfl⟩ := ret_2 hF
    subst hρ0
    exact x_iret rfl C hP hS dX12_act_23
  · have hF := ite_f hF c_4
    refine lv_iload_n hx hb dX12_act_13 rfl (lv_at hl 2 rfl) ?_
    refine lv_iconst (v := 0) hx hb dX12_act_14 (by decide) ?_
    refine lv_iconst (v := 2) hx hb dX12_act_15 (by decide) ?_
    obtain ⟨r5, hq5, hF⟩ := bn_1 hF
    refine x_callS C hP hS (c_X12_in hL hq5) (va_cwS 3 C.1.2.2.2.2 (gdS mw_104 mw_105 mw_5 mw_106) rfl rfl rfl hd_X12_in.2 ⟨Nat.le_of_ble_eq_true rfl, Nat.le_of_ble_eq_true rfl⟩) rfl rfl hl.1 (Nat.le_of_ble_eq_true rfl) ⟨Nat.zero_le _, Nat.zero_le _⟩ dX12_act_16 (fun H locs hP hS => ?_)
    refine lv_if_ne (tgt := 24) hx hb dX12_act_19 (by decide) (fun c_6 => ?_) (fun c_6 => ?_) -- COND 6 rcases (Decidable.em (r5 = 0)).symm with c_6 | c_6
    · have hF := ite_f hF c_6
      refine lv_aload_n hx hb dX12_act_24 rfl (lv_at hl 0 rfl) ?_
      refine lv_aload_n hx hb dX12_act_25 rfl (lv_at hl 0 rfl) ?_
      refine get_12_1 C hP (lr_54 hL) (lk_54 hL) inlX12 mw_81 (lf_54_1 hL) dX12_act_26 ?_
      refine lv_bipush (v := 20) hx hb dX12_act_29 (by decide +kernel) ?_
      refine lv_iload_n hx hb dX12_act_31 rfl (lv_at hl 1 rfl) ?_
      refine lv_iadd hx hb dX12_act_32 ?_
      obtain ⟨x7, ex7, hF⟩ := nm_1 hF
      refine x_top ex7 ?_
      obtain ⟨g8, hF⟩ := gd_1 hF
      refine x_iald C hP (lr_55 hL) (lk_55 hL) (ln_55 hL) g8 dX12_act_33 ?_
      obtain ⟨σ10, eσ10, hF⟩ := nm_1 hF
      refine put_12_31 C hP hS (lr_54 hL) (lk_54 hL) inlX12 mw_1091 eσ10 dX12_act_34 (fun H locs hP hS => ?_)
      refine lv_aload_n hx hb dX12_act_37 rfl (lv_at hl 0 rfl) ?_
      refine lv_iload_n hx hb dX12_act_38 rfl (lv_at hl 1 rfl) ?_
      obtain ⟨σ12, eσ12, hF⟩ := nm_1 hF
      refine put_12_32 C hP hS (lr_54 hL) (lk_54 hL) inlX12 mw_1092 eσ12 dX12_act_39 (fun H locs hP hS => ?_)
      refine lv_aload_n hx hb dX12_act_42 rfl (lv_at hl 0 rfl) ?_
      refine lv_aload_n hx hb dX12_act_43 rfl (lv_at hl 0 rfl) ?_
      refine get_12_1 C hP (lr_54 hL) (lk_54 hL) inlX12 mw_81 (lf_54_1 hL) dX12_act_44 ?_
      refine lv_bipush (v := 26) hx hb dX12_act_47 (by decide +kernel) ?_
      refine lv_iload_n hx hb dX12_act_49 rfl (lv_at hl 1 rfl) ?_
      refine lv_iadd hx hb dX12_act_50 ?_
      obtain ⟨x13, ex13, hF⟩ := nm_1 hF
      refine x_top ex13 ?_
      obtain ⟨g14, hF⟩ := gd_1 hF
      refine x_iald C hP (lr_55 hL) (lk_55 hL) (ln_55 hL) g14 dX12_act_51 ?_
      obtain ⟨σ16, eσ16, hF⟩ := nm_1 hF
      refine put_12_33 C hP hS (lr_54 hL) (lk_54 hL) inlX12 mw_1093 eσ16 dX12_act_52 (fun H locs hP hS => ?_)
      refine lv_iload_n hx hb dX12_act_55 rfl (lv_at hl 2 rfl) ?_
      refine lv_if_ne (tgt := 67) hx hb dX12_act_56 (by decide) (fun c_17 => ?_) (fun c_17 => ?_) -- COND 17 rcases (Decidable.em (a2 = 0)).symm with c_17 | c_17
      · have hF := ite_f hF c_17
        refine lv_iload_n hx hb dX12_act_67 rfl (lv_at hl 2 rfl) ?_
        refine lv_iconst (v := 1) hx hb dX12_act_68 (by decide) ?_
        refine lv_icmp_ne (tgt := 80) hx hb dX12_act_69 (by decide) (fun c_18 => ?_) (fun c_18 => ?_) -- COND 18 rcases (Decidable.em (a2 = (1 : Int32))).symm with c_18 | c_18
        · have hF := ite_f hF c_18
          refine lv_aload_n hx hb dX12_act_80 rfl (lv_at hl 0 rfl) ?_
          refine lv_iload_n hx hb dX12_act_81 rfl (lv_at hl 3 rfl) ?_
          obtain ⟨r19, σ19, hq19, hF⟩ := bn2_1 hF
          refine x_callV (ci := 12) rfl rfl C hP hS (c_X12_tellsActs hL hq19) (lr_54 hL) (lk_54 hL) (cwV 1 C.1.2.2.2.2 (gdV mw_1117 mw_1118 mw_1119 mw_5 mw_1120) rfl rfl rfl hd_X12_tellsActs ⟨Nat.le_of_ble_eq_true rfl, Nat.le_of_ble_eq_true rfl⟩) rfl rfl hl.1 (Nat.le_of_ble_eq_true rfl) ⟨Nat.zero_le _, Nat.zero_le _⟩ dX12_act_82 (fun H locs hP hS => ?_)
          obtain ⟨rfl, rfl⟩ := ret_2 hF
          subst hρ0
          exact x_iret rfl C hP hS dX12_act_85
        · have hF := ite_t hF c_18
          refine lv_aload_n hx hb dX12_act_72 rfl (lv_at hl 0 rfl) ?_
          refine lv_iload_n hx hb dX12_act_73 rfl (lv_at hl 3 rfl) ?_
          obtain ⟨r20, σ20, hq20, hF⟩ := bn2_1 hF
          refine x_callV (ci := 12) rfl rfl C hP hS (c_X12_eatsActs hL hq20) (lr_54 hL) (lk_54 hL) (cwV 1 C.1.2.2.2.2 (gdV mw_1109 mw_1110 mw_1111 mw_5 mw_1112) rfl rfl rfl hd_X12_eatsActs ⟨Nat.le_of_ble_eq_true rfl, Nat.le_of_ble_eq_true rfl⟩) rfl rfl hl.1 (Nat.le_of_ble_eq_true rfl) ⟨Nat.zero_le _, Nat.zero_le _⟩ dX12_act_74 (fun H locs hP hS => ?_)
          refine lv_goto (tgt := 85) hx hb dX12_act_77 (by decide) ?_
          obtain ⟨rfl, rfl⟩ := ret_2 hF
          subst hρ0
          exact x_iret rfl C hP hS dX12_act_85
      · have hF := ite_t hF c_17
        refine lv_aload_n hx hb dX12_act_59 rfl (lv_at hl 0 rfl) ?_
        refine lv_iload_n hx hb dX12_act_60 rfl (lv_at hl 3 rfl) ?_
        obtain ⟨r21, σ21, hq21, hF⟩ := bn2_1 hF
        refine x_callV (ci := 12) rfl rfl C hP hS (c_X12_cutsActs hL hq21) (lr_54 hL) (lk_54 hL) (cwV 1 C.1.2.2.2.2 (gdV mw_1094 mw_1095 mw_1096 mw_5 mw_1097) rfl rfl rfl hd_X12_cutsActs ⟨Nat.le_of_ble_eq_true rfl, Nat.le_of_ble_eq_true rfl⟩) rfl rfl hl.1 (Nat.le_of_ble_eq_true rfl) ⟨Nat.zero_le _, Nat.zero_le _⟩ dX12_act_61 (fun H locs hP hS => ?_)
        refine lv_goto (tgt := 85) hx hb dX12_act_64 (by decide) ?_
        obtain ⟨rfl, rfl⟩ := ret_2 hF
        subst hρ0
        exact x_iret rfl C hP hS dX12_act_85
    · have hF := ite_t hF c_6
      refine lv_iconst (v := 0) hx hb dX12_act_22 (by decide) ?_
      obtain ⟨rfl, rfl⟩ := ret_2 hF
      subst hρ0
      exact x_iret rfl C hP hS dX12_act_23
set_option maxHeartbeats 4000000 in
set_option maxRecDepth 100000 in
theorem c_X12_act {a1 : Int32} {a2 : Int32} {a3 : Int32} {r : Int32} {σ1 : SG} {σ : SG} {ρ : RG} (hL : Lay N K len ρ) (hF : F_X12_act a1 a2 a3 σ ρ = some (r, σ1)) : MT l Y D N ad K len yX12_act (Cond.code yX12_act cX12_act 4 (some .int) :: wsL_law) rm_X12_act [.ref (ad 54), .int a1, .int a2, .int a3] σ ρ (some (.int r)) σ1 ρ := by
  refine mt_of (cc := cX12_act) (nL := 4) (ret := (some .int)) (by decide) (Nat.le_of_ble_eq_true rfl) ?_
  intro p e s m args below meth c ls C hnm hP hS hl
  exact w_X12_act_0 C rfl hL hF hP hS hl

/-! CutCrookedModel.public int trace(int);  -/
theorem dX12_trace_0 : decode cX12_trace 0 = .ok (.iload_n 1, 1) := by decide +kernel
theorem dX12_trace_1 : decode cX12_trace 1 = .ok (.iconst 0, 1) := by decide +kernel
theorem dX12_trace_2 : decode cX12_trace 2 = .ok (.aload_n 0, 1) := by decide +kernel
theorem dX12_trace_3 : decode cX12_trace 3 = .ok (.getfield 252, 3) := by decide +kernel
theorem dX12_trace_6 : decode cX12_trace 6 = .ok (.bipush 20, 2) := by decide +kernel
theorem dX12_trace_8 : decode cX12_trace 8 = .ok (.if_icmp .ge 10, 3) := by decide +kernel
theorem dX12_trace_11 : decode cX12_trace 11 = .ok (.aload_n 0, 1) := by decide +kernel
theorem dX12_trace_12 : decode cX12_trace 12 = .ok (.getfield 252, 3) := by decide +kernel
theorem dX12_trace_15 : decode cX12_trace 15 = .ok (.goto 5, 3) := by decide +kernel
theorem dX12_trace_18 : decode cX12_trace 18 = .ok (.bipush 20, 2) := by decide +kernel
theorem dX12_trace_20 : decode cX12_trace 20 = .ok (.iconst 1, 1) := by decide +kernel
theorem dX12_trace_21 : decode cX12_trace 21 = .ok (.isub, 1) := by decide +kernel
theorem dX12_trace_22 : decode cX12_trace 22 = .ok (.invokestatic 47, 3) := by decide +kernel
theorem dX12_trace_25 : decode cX12_trace 25 = .ok (.ifCond .eq 12, 3) := by decide +kernel
theorem dX12_trace_28 : decode cX12_trace 28 = .ok (.aload_n 0, 1) := by decide +kernel
theorem dX12_trace_29 : decode cX12_trace 29 = .ok (.getfield 40, 3) := by decide +kernel
theorem dX12_trace_32 : decode cX12_trace 32 = .ok (.iload_n 1, 1) := by decide +kernel
theorem dX12_trace_33 : decode cX12_trace 33 = .ok (.iaload, 1) := by decide +kernel
theorem dX12_trace_34 : decode cX12_trace 34 = .ok (.goto 4, 3) := by decide +kernel
theorem dX12_trace_37 : decode cX12_trace 37 = .ok (.iconst (-1), 1) := by decide +kernel
theorem dX12_trace_38 : decode cX12_trace 38 = .ok (.ireturn, 1) := by decide +kernel
theorem hd_X12_trace : yX12_trace.cls = RX12 ∧ yX12_trace.cls ≠ "java/lang/invoke/MethodHandle" ∧ yX12_trace.cls ≠ "java/lang/invoke/VarHandle" ∧ (parseMethodDescriptor yX12_trace.desc).map (fun d => d.parameters.length) = some 1 := by decide +kernel
abbrev rm_X12_trace : Room := { frames := 1, cells := 0, slots := 0, locals := 22 }
def F_X12_trace_20 (a1 : Int32) (σ : SG) (ρ : RG) (v1 : Int32) (k0 : Int32) (k1 : Int32) (k2 : Int32) : Option (Int32) :=
  nm (k2 - (1 : Int32)) fun x2 =>
  bn (F_X12_in k0 k1 x2 σ ρ) fun r3 =>
  if r3 = 0 then
    some (-1 : Int32)
  else
    gd (inb v1 20) <|
    some (σ 64 (v1).toNatClampNeg)
def F_X12_trace (a1 : Int32) (σ : SG) (ρ : RG) : Option (Int32) :=
  if (20 : Int32) ≤ (σ 54 30) then
    F_X12_trace_20 a1 σ ρ a1 a1 (0 : Int32) (20 : Int32)
  else
    F_X12_trace_20 a1 σ ρ a1 a1 (0 : Int32) (σ 54 30)
set_option maxHeartbeats 4000000 in
set_option maxRecDepth 100000 in
theorem w_X12_trace_20 {a1 : Int32} {p : Program} {e : Env} {s : State} {m : MethodId} {args : Array Value} {below : List Frame} {meth : Method} {c : Code} {σ0 : SG} {ρ0 : RG} {r : Int32} (C : Cx Y D N ad p s m args meth c cX12_trace 2 (some .int) RX12 wsL_law) {σ : SG} {ρ : RG} {v1 : Int32} {k0 : Int32} {k1 : Int32} {k2 : Int32} {H : Heap} {locs : List Loc} {ls : Array Slot} (hσ0 : σ = σ0) (hρ0 : ρ = ρ0) (hL : Lay N K len ρ) (hF : F_X12_trace_20 a1 σ ρ v1 k0 k1 k2 = some r) (hP : WP Y D N ad K len σ ρ H) (hS : va_S (AA N ad s.heap.size) s.heap H locs) (hl : lv_has ls 2 [(0, .ref (ad 54)), (1, .int v1)]) : W p l e rm_X12_trace s m args below meth c H locs 0 0 (MQ below (QW Y D N ad K len σ0 ρ0 (AA N ad s.heap.size) (some (.int r))) args s 0 0 (AA N ad s.heap.size)) (F0 m 20 ls [.int k2, .int k1, .int k0]) := by
  have hx := C.1.1
  have hb := C.1.2.1
  unfold F_X12_trace_20 at hF
  refine lv_iconst (v := 1) hx hb dX12_trace_20 (by decide) ?_
  refine lv_isub hx hb dX12_trace_21 ?_
  obtain ⟨x2, ex2, hF⟩ := nm_1 hF
  refine x_top ex2 ?_
  obtain ⟨r3, hq3, hF⟩ := bn_1 hF
  refine x_callS C hP hS (c_X12_in hL hq3) (va_cwS 3 C.1.2.2.2.2 (gdS mw_104 mw_105 mw_5 mw_106) rfl rfl rfl hd_X12_in.2 ⟨Nat.le_of_ble_eq_true rfl, Nat.le_of_ble_eq_true rfl⟩) rfl rfl hl.1 (Nat.le_of_ble_eq_true rfl) ⟨Nat.zero_le _, Nat.zero_le _⟩ dX12_trace_22 (fun H locs hP hS => ?_)
  refine lv_if_eq (tgt := 37) hx hb dX12_trace_25 (by decide) (fun c_4 => ?_) (fun c_4 => ?_) -- COND 4 by_cases c_4 : r3 = 0
  · have hF := ite_t hF c_4
    refine lv_iconst (v := -1) hx hb dX12_trace_37 (by decide) ?_
    obtain rfl := ret_1 hF
    subst hσ0
    subst hρ0
    exact x_iret rfl C hP hS dX12_trace_38
  · have hF := ite_f hF c_4
    refine lv_aload_n hx hb dX12_trace_28 rfl (lv_at hl 0 rfl) ?_
    refine get_12_29 C hP (lr_54 hL) (lk_54 hL) inlX12 mw_90 (lf_54_29 hL) dX12_trace_29 ?_
    refine lv_iload_n hx hb dX12_trace_32 rfl (lv_at hl 1 rfl) ?_
    obtain ⟨g5, hF⟩ := gd_1 hF
    refine x_iald C hP (lr_64 hL) (lk_64 hL) (ln_64 hL) g5 dX12_trace_33 ?_
    refine lv_goto (tgt := 38) hx hb dX12_trace_34 (by decide) ?_
    obtain rfl := ret_1 hF
    subst hσ0
    subst hρ0
    exact x_iret rfl C hP hS dX12_trace_38
set_option maxHeartbeats 4000000 in
set_option maxRecDepth 100000 in
theorem w_X12_trace_0 {a1 : Int32} {p : Program} {e : Env} {s : State} {m : MethodId} {args : Array Value} {below : List Frame} {meth : Method} {c : Code} {σ0 : SG} {ρ0 : RG} {r : Int32} (C : Cx Y D N ad p s m args meth c cX12_trace 2 (some .int) RX12 wsL_law) {σ : SG} {ρ : RG} {H : Heap} {locs : List Loc} {ls : Array Slot} (hσ0 : σ = σ0) (hρ0 : ρ = ρ0) (hL : Lay N K len ρ) (hF : F_X12_trace a1 σ ρ = some r) (hP : WP Y D N ad K len σ ρ H) (hS : va_S (AA N ad s.heap.size) s.heap H locs) (hl : lv_has ls 2 [(0, .ref (ad 54)), (1, .int a1)]) : W p l e rm_X12_trace s m args below meth c H locs 0 0 (MQ below (QW Y D N ad K len σ0 ρ0 (AA N ad s.heap.size) (some (.int r))) args s 0 0 (AA N ad s.heap.size)) (F0 m 0 ls []) := by
  have hx := C.1.1
  have hb := C.1.2.1
  unfold F_X12_trace at hF
  refine lv_iload_n hx hb dX12_trace_0 rfl (lv_at hl 1 rfl) ?_
  refine lv_iconst (v := 0) hx hb dX12_trace_1 (by decide) ?_
  refine lv_aload_n hx hb dX12_trace_2 rfl (lv_at hl 0 rfl) ?_
  refine get_12_30 C hP (lr_54 hL) (lk_54 hL) inlX12 mw_1090 dX12_trace_3 ?_
  refine lv_bipush (v := 20) hx hb dX12_trace_6 (by decide +kernel) ?_
  refine lv_icmp_ge (tgt := 18) hx hb dX12_trace_8 (by decide) (fun c_1 => ?_) (fun c_1 => ?_) -- COND 1 by_cases c_1 : (20 : Int32) ≤ (σ 54 30)
  · have hF := ite_t hF c_1
    refine lv_bipush (v := 20) hx hb dX12_trace_18 (by decide +kernel) ?_
    exact w_X12_trace_20 C hσ0 hρ0 hL hF hP hS (lv_sub hl [0, 1] rfl)
  · have hF := ite_f hF c_1
    refine lv_aload_n hx hb dX12_trace_11 rfl (lv_at hl 0 rfl) ?_
    refine get_12_30 C hP (lr_54 hL) (lk_54 hL) inlX12 mw_1090 dX12_trace_12 ?_
    refine lv_goto (tgt := 20) hx hb dX12_trace_15 (by decide) ?_
    exact w_X12_trace_20 C hσ0 hρ0 hL hF hP hS (lv_sub hl [0, 1] rfl)
set_option maxHeartbeats 4000000 in
set_option maxRecDepth 100000 in
theorem c_X12_trace {a1 : Int32} {r : Int32} {σ : SG} {ρ : RG} (hL : Lay N K len ρ) (hF : F_X12_trace a1 σ ρ = some r) : MT l Y D N ad K len yX12_trace (Cond.code yX12_trace cX12_trace 2 (some .int) :: wsL_law) rm_X12_trace [.ref (ad 54), .int a1] σ ρ (some (.int r)) σ ρ := by
  refine mt_of (cc := cX12_trace) (nL := 2) (ret := (some .int)) (by decide) (Nat.le_of_ble_eq_true rfl) ?_
  intro p e s m args below meth c ls C hnm hP hS hl
  exact w_X12_trace_0 C rfl rfl hL hF hP hS hl

/-! CutCrookedModel.public int as(int, int);  -/
theorem dX12_as_0 : decode cX12_as 0 = .ok (.aload_n 0, 1) := by decide +kernel
theorem dX12_as_1 : decode cX12_as 1 = .ok (.iload_n 1, 1) := by decide +kernel
theorem dX12_as_2 : decode cX12_as 2 = .ok (.invokevirtual 143, 3) := by decide +kernel
theorem dX12_as_5 : decode cX12_as 5 = .ok (.ifCond .eq 13, 3) := by decide +kernel
theorem dX12_as_8 : decode cX12_as 8 = .ok (.iload_n 2, 1) := by decide +kernel
theorem dX12_as_9 : decode cX12_as 9 = .ok (.iconst 0, 1) := by decide +kernel
theorem dX12_as_10 : decode cX12_as 10 = .ok (.bipush 6, 2) := by decide +kernel
theorem dX12_as_12 : decode cX12_as 12 = .ok (.invokestatic 47, 3) := by decide +kernel
theorem dX12_as_15 : decode cX12_as 15 = .ok (.ifCond .ne 5, 3) := by decide +kernel
theorem dX12_as_18 : decode cX12_as 18 = .ok (.iconst (-1), 1) := by decide +kernel
theorem dX12_as_19 : decode cX12_as 19 = .ok (.ireturn, 1) := by decide +kernel
theorem dX12_as_20 : decode cX12_as 20 = .ok (.aload_n 0, 1) := by decide +kernel
theorem dX12_as_21 : decode cX12_as 21 = .ok (.getfield 9, 3) := by decide +kernel
theorem dX12_as_24 : decode cX12_as 24 = .ok (.bipush 20, 2) := by decide +kernel
theorem dX12_as_26 : decode cX12_as 26 = .ok (.iload_n 1, 1) := by decide +kernel
theorem dX12_as_27 : decode cX12_as 27 = .ok (.iadd, 1) := by decide +kernel
theorem dX12_as_28 : decode cX12_as 28 = .ok (.iaload, 1) := by decide +kernel
theorem dX12_as_29 : decode cX12_as 29 = .ok (.iload_n 2, 1) := by decide +kernel
theorem dX12_as_30 : decode cX12_as 30 = .ok (.invokestatic 264, 3) := by decide +kernel
theorem dX12_as_33 : decode cX12_as 33 = .ok (.ifCond .eq 15, 3) := by decide +kernel
theorem dX12_as_36 : decode cX12_as 36 = .ok (.aload_n 0, 1) := by decide +kernel
theorem dX12_as_37 : decode cX12_as 37 = .ok (.getfield 9, 3) := by decide +kernel
theorem dX12_as_40 : decode cX12_as 40 = .ok (.bipush 26, 2) := by decide +kernel
theorem dX12_as_42 : decode cX12_as 42 = .ok (.iload_n 1, 1) := by decide +kernel
theorem dX12_as_43 : decode cX12_as 43 = .ok (.iadd, 1) := by decide +kernel
theorem dX12_as_44 : decode cX12_as 44 = .ok (.iaload, 1) := by decide +kernel
theorem dX12_as_45 : decode cX12_as 45 = .ok (.goto 5, 3) := by decide +kernel
theorem dX12_as_48 : decode cX12_as 48 = .ok (.bipush (-6), 2) := by decide +kernel
theorem dX12_as_50 : decode cX12_as 50 = .ok (.ireturn, 1) := by decide +kernel
theorem hd_X12_as : yX12_as.cls = RX12 ∧ yX12_as.cls ≠ "java/lang/invoke/MethodHandle" ∧ yX12_as.cls ≠ "java/lang/invoke/VarHandle" ∧ (parseMethodDescriptor yX12_as.desc).map (fun d => d.parameters.length) = some 2 := by decide +kernel
abbrev rm_X12_as : Room := { frames := 2, cells := 0, slots := 0, locals := 43 }
def F_X12_as (a1 : Int32) (a2 : Int32) (σ : SG) (ρ : RG) : Option (Int32) :=
  bn (F_X12_isCutter a1 σ ρ) fun r1 =>
  if r1 = 0 then
    some (-1 : Int32)
  else
    bn (F_X12_in a2 (0 : Int32) (6 : Int32) σ ρ) fun r3 =>
    if r3 = 0 then
      some (-1 : Int32)
    else
      nm ((20 : Int32) + a1) fun x5 =>
      gd (inb x5 909) <|
      bn (F_X12_isUnder (σ 55 (x5).toNatClampNeg) a2 σ ρ) fun r7 =>
      if r7 = 0 then
        some (-6 : Int32)
      else
        nm ((26 : Int32) + a1) fun x9 =>
        gd (inb x9 909) <|
        some (σ 55 (x9).toNatClampNeg)
set_option maxHeartbeats 4000000 in
set_option maxRecDepth 100000 in
theorem w_X12_as_0 {a1 : Int32} {a2 : Int32} {p : Program} {e : Env} {s : State} {m : MethodId} {args : Array Value} {below : List Frame} {meth : Method} {c : Code} {σ0 : SG} {ρ0 : RG} {r : Int32} (C : Cx Y D N ad p s m args meth c cX12_as 3 (some .int) RX12 wsL_law) {σ : SG} {ρ : RG} {H : Heap} {locs : List Loc} {ls : Array Slot} (hσ0 : σ = σ0) (hρ0 : ρ = ρ0) (hL : Lay N K len ρ) (hF : F_X12_as a1 a2 σ ρ = some r) (hP : WP Y D N ad K len σ ρ H) (hS : va_S (AA N ad s.heap.size) s.heap H locs) (hl : lv_has ls 3 [(0, .ref (ad 54)), (1, .int a1), (2, .int a2)]) : W p l e rm_X12_as s m args below meth c H locs 0 0 (MQ below (QW Y D N ad K len σ0 ρ0 (AA N ad s.heap.size) (some (.int r))) args s 0 0 (AA N ad s.heap.size)) (F0 m 0 ls []) := by
  have hx := C.1.1
  have hb := C.1.2.1
  unfold F_X12_as at hF
  refine lv_aload_n hx hb dX12_as_0 rfl (lv_at hl 0 rfl) ?_
  refine lv_iload_n hx hb dX12_as_1 rfl (lv_at hl 1 rfl) ?_
  obtain ⟨r1, hq1, hF⟩ := bn_1 hF
  refine x_callV (ci := 12) rfl rfl C hP hS (c_X12_isCutter hL hq1) (lr_54 hL) (lk_54 hL) (cwV 1 C.1.2.2.2.2 (gdV mw_462 mw_463 mw_464 mw_5 mw_465) rfl rfl rfl hd_X12_isCutter ⟨Nat.le_of_ble_eq_true rfl, Nat.le_of_ble_eq_true rfl⟩) rfl rfl hl.1 (Nat.le_of_ble_eq_true rfl) ⟨Nat.zero_le _, Nat.zero_le _⟩ dX12_as_2 (fun H locs hP hS => ?_)
  refine lv_if_eq (tgt := 18) hx hb dX12_as_5 (by decide) (fun c_2 => ?_) (fun c_2 => ?_) -- COND 2 by_cases c_2 : r1 = 0
  · have hF := ite_t hF c_2
    refine lv_iconst (v := -1) hx hb dX12_as_18 (by decide) ?_
    obtain rfl := ret_1 hF
    subst hσ0
    subst hρ0
    exact x_iret rfl C hP hS dX12_as_19
  · have hF := ite_f hF c_2
    refine lv_iload_n hx hb dX12_as_8 rfl (lv_at hl 2 rfl) ?_
    refine lv_iconst (v := 0) hx hb dX12_as_9 (by decide) ?_
    refine lv_bipush (v := 6) hx hb dX12_as_10 (by decide +kernel) ?_
    obtain ⟨r3, hq3, hF⟩ := bn_1 hF
    refine x_callS C hP hS (c_X12_in hL hq3) (va_cwS 3 C.1.2.2.2.2 (gdS mw_104 mw_105 mw_5 mw_106) rfl rfl rfl hd_X12_in.2 ⟨Nat.le_of_ble_eq_true rfl, Nat.le_of_ble_eq_true rfl⟩) rfl rfl hl.1 (Nat.le_of_ble_eq_true rfl) ⟨Nat.zero_le _, Nat.zero_le _⟩ dX12_as_12 (fun H locs hP hS => ?_)
    refine lv_if_ne (tgt := 20) hx hb dX12_as_15 (by decide) (fun c_4 => ?_) (fun c_4 => ?_) -- COND 4 rcases (Decidable.em (r3 = 0)).symm with c_4 | c_4
    · have hF := ite_f hF c_4
      refine lv_aload_n hx hb dX12_as_20 rfl (lv_at hl 0 rfl) ?_
      refine get_12_1 C hP (lr_54 hL) (lk_54 hL) inlX12 mw_81 (lf_54_1 hL) dX12_as_21 ?_
      refine lv_bipush (v := 20) hx hb dX12_as_24 (by decide +kernel) ?_
      refine lv_iload_n hx hb dX12_as_26 rfl (lv_at hl 1 rfl) ?_
      refine lv_iadd hx hb dX12_as_27 ?_
      obtain ⟨x5, ex5, hF⟩ := nm_1 hF
      refine x_top ex5 ?_
      obtain ⟨g6, hF⟩ := gd_1 hF
      refine x_iald C hP (lr_55 hL) (lk_55 hL) (ln_55 hL) g6 dX12_as_28 ?_
      refine lv_iload_n hx hb dX12_as_29 rfl (lv_at hl 2 rfl) ?_
      obtain ⟨r7, hq7, hF⟩ := bn_1 hF
      refine x_callS C hP hS (c_X12_isUnder hL hq7) (va_cwS 2 C.1.2.2.2.2 (gdS mw_1098 mw_1099 mw_5 mw_1100) rfl rfl rfl hd_X12_isUnder.2 ⟨Nat.le_of_ble_eq_true rfl, Nat.le_of_ble_eq_true rfl⟩) rfl rfl hl.1 (Nat.le_of_ble_eq_true rfl) ⟨Nat.zero_le _, Nat.zero_le _⟩ dX12_as_30 (fun H locs hP hS => ?_)
      refine lv_if_eq (tgt := 48) hx hb dX12_as_33 (by decide) (fun c_8 => ?_) (fun c_8 => ?_) -- COND 8 by_cases c_8 : r7 = 0
      · have hF := ite_t hF c_8
        refine lv_bipush (v := -6) hx hb dX12_as_48 (by decide +kernel) ?_
        obtain rfl := ret_1 hF
        subst hσ0
        subst hρ0
        exact x_iret rfl C hP hS dX12_as_50
      · have hF := ite_f hF c_8
        refine lv_aload_n hx hb dX12_as_36 rfl (lv_at hl 0 rfl) ?_
        refine get_12_1 C hP (lr_54 hL) (lk_54 hL) inlX12 mw_81 (lf_54_1 hL) dX12_as_37 ?_
        refine lv_bipush (v := 26) hx hb dX12_as_40 (by decide +kernel) ?_
        refine lv_iload_n hx hb dX12_as_42 rfl (lv_at hl 1 rfl) ?_
        refine lv_iadd hx hb dX12_as_43 ?_
        obtain ⟨x9, ex9, hF⟩ := nm_1 hF
        refine x_top ex9 ?_
        obtain ⟨g10, hF⟩ := gd_1 hF
        refine x_iald C hP (lr_55 hL) (lk_55 hL) (ln_55 hL) g10 dX12_as_44 ?_
        refine lv_goto (tgt := 50) hx hb dX12_as_45 (by decide) ?_
        obtain rfl := ret_1 hF
        subst hσ0
        subst hρ0
        exact x_iret rfl C hP hS dX12_as_50
    · have hF := ite_t hF c_4
      refine lv_iconst (v := -1) hx hb dX12_as_18 (by decide) ?_
      obtain rfl := ret_1 hF
      subst hσ0
      subst hρ0
      exact x_iret rfl C hP hS dX12_as_19
set_option maxHeartbeats 4000000 in
set_option maxRecDepth 100000 in
theorem c_X12_as {a1 : Int32} {a2 : Int32} {r : Int32} {σ : SG} {ρ : RG} (hL : Lay N K len ρ) (hF : F_X12_as a1 a2 σ ρ = some r) : MT l Y D N ad K len yX12_as (Cond.code yX12_as cX12_as 3 (some .int) :: wsL_law) rm_X12_as [.ref (ad 54), .int a1, .int a2] σ ρ (some (.int r)) σ ρ := by
  refine mt_of (cc := cX12_as) (nL := 3) (ret := (some .int)) (by decide) (Nat.le_of_ble_eq_true rfl) ?_
  intro p e s m args below meth c ls C hnm hP hS hl
  exact w_X12_as_0 C rfl rfl hL hF hP hS hl

/-! CutCrookedModel.public int image();  -/
theorem dX12_image_0 : decode cX12_image 0 = .ok (.iconst 0, 1) := by decide +kernel
theorem dX12_image_1 : decode cX12_image 1 = .ok (.istore_n 1, 1) := by decide +kernel
theorem dX12_image_2 : decode cX12_image 2 = .ok (.iload_n 1, 1) := by decide +kernel
theorem dX12_image_3 : decode cX12_image 3 = .ok (.sipush 909, 3) := by decide +kernel
theorem dX12_image_6 : decode cX12_image 6 = .ok (.if_icmp .ge 21, 3) := by decide +kernel
theorem dX12_image_9 : decode cX12_image 9 = .ok (.aload_n 0, 1) := by decide +kernel
theorem dX12_image_10 : decode cX12_image 10 = .ok (.getfield 15, 3) := by decide +kernel
theorem dX12_image_13 : decode cX12_image 13 = .ok (.iload_n 1, 1) := by decide +kernel
theorem dX12_image_14 : decode cX12_image 14 = .ok (.aload_n 0, 1) := by decide +kernel
theorem dX12_image_15 : decode cX12_image 15 = .ok (.getfield 9, 3) := by decide +kernel
theorem dX12_image_18 : decode cX12_image 18 = .ok (.iload_n 1, 1) := by decide +kernel
theorem dX12_image_19 : decode cX12_image 19 = .ok (.iaload, 1) := by decide +kernel
theorem dX12_image_20 : decode cX12_image 20 = .ok (.iastore, 1) := by decide +kernel
theorem dX12_image_21 : decode cX12_image 21 = .ok (.iinc 1 1, 3) := by decide +kernel
theorem dX12_image_24 : decode cX12_image 24 = .ok (.goto (-22), 3) := by decide +kernel
theorem dX12_image_27 : decode cX12_image 27 = .ok (.aload_n 0, 1) := by decide +kernel
theorem dX12_image_28 : decode cX12_image 28 = .ok (.iconst 1, 1) := by decide +kernel
theorem dX12_image_29 : decode cX12_image 29 = .ok (.putfield 288, 3) := by decide +kernel
theorem dX12_image_32 : decode cX12_image 32 = .ok (.aload_n 0, 1) := by decide +kernel
theorem dX12_image_33 : decode cX12_image 33 = .ok (.getfield 9, 3) := by decide +kernel
theorem dX12_image_36 : decode cX12_image 36 = .ok (.bipush 11, 2) := by decide +kernel
theorem dX12_image_38 : decode cX12_image 38 = .ok (.iaload, 1) := by decide +kernel
theorem dX12_image_39 : decode cX12_image 39 = .ok (.ireturn, 1) := by decide +kernel
theorem hd_X12_image : yX12_image.cls = RX12 ∧ yX12_image.cls ≠ "java/lang/invoke/MethodHandle" ∧ yX12_image.cls ≠ "java/lang/invoke/VarHandle" ∧ (parseMethodDescriptor yX12_image.desc).map (fun d => d.parameters.length) = some 0 := by decide +kernel
abbrev rm_X12_image : Room := { frames := 0, cells := 0, slots := 0, locals := 0 }
def F_X12_image_2  : Nat → SG → RG → Int32 → Option (Int32 × SG)
  | 0 => fun _ _ _ => none
  | n + 1 => fun σ ρ v1 =>
  if (909 : Int32) ≤ v1 then
    nm (s2 σ 54 4 (1 : Int32)) fun σ3 =>
    some ((σ3 55 11), σ3)
  else
    gd (inb v1 909) <|
    gd (inb v1 909) <|
    nm (s2 σ 56 (v1).toNatClampNeg (σ 55 (v1).toNatClampNeg)) fun σ7 =>
    nm (v1 + (1 : Int32)) fun x8 =>
    F_X12_image_2 n σ7 ρ x8
def F_X12_image  (σ : SG) (ρ : RG) : Option (Int32 × SG) :=
  F_X12_image_2 1024 σ ρ (0 : Int32)
set_option maxHeartbeats 4000000 in
set_option maxRecDepth 100000 in
theorem w_X12_image_2  {p : Program} {e : Env} {s : State} {m : MethodId} {args : Array Value} {below : List Frame} {meth : Method} {c : Code} {ρ0 : RG} {r : Int32} {σ1 : SG} (C : Cx Y D N ad p s m args meth c cX12_image 2 (some .int) RX12 wsL_law) : ∀ (n : Nat) (σ : SG) (ρ : RG) (v1 : Int32) (H : Heap) (locs : List Loc) (ls : Array Slot), ρ = ρ0 → Lay N K len ρ → F_X12_image_2 n σ ρ v1 = some (r, σ1) → WP Y D N ad K len σ ρ H → va_S (AA N ad s.heap.size) s.heap H locs → lv_has ls 2 [(0, .ref (ad 54)), (1, .int v1)] → W p l e rm_X12_image s m args below meth c H locs 0 0 (MQ below (QW Y D N ad K len σ1 ρ0 (AA N ad s.heap.size) (some (.int r))) args s 0 0 (AA N ad s.heap.size)) (F0 m 2 ls []) := by
  have hx := C.1.1
  have hb := C.1.2.1
  intro n
  induction n with
  | zero => intro σ ρ v1 H locs ls hρ0 hL hF; cases hF
  | succ n ih =>
    intro σ ρ v1 H locs ls hρ0 hL hF hP hS hl
    unfold F_X12_image_2 at hF
    refine lv_iload_n hx hb dX12_image_2 rfl (lv_at hl 1 rfl) ?_
    refine lv_sipush (v := 909) hx hb dX12_image_3 (by decide +kernel) ?_
    refine lv_icmp_ge (tgt := 27) hx hb dX12_image_6 (by decide) (fun c_1 => ?_) (fun c_1 => ?_) -- COND 1 by_cases c_1 : (909 : Int32) ≤ v1
    · have hF := ite_t hF c_1
      refine lv_aload_n hx hb dX12_image_27 rfl (lv_at hl 0 rfl) ?_
      refine lv_iconst (v := 1) hx hb dX12_image_28 (by decide) ?_
      obtain ⟨σ3, eσ3, hF⟩ := nm_1 hF
      refine put_12_4 rfl C hP hS (lr_54 hL) (lk_54 hL) inlX12 mw_1204 eσ3 dX12_image_29 (fun H locs hP hS => ?_)
      refine lv_aload_n hx hb dX12_image_32 rfl (lv_at hl 0 rfl) ?_
      refine get_12_1 C hP (lr_54 hL) (lk_54 hL) inlX12 mw_81 (lf_54_1 hL) dX12_image_33 ?_
      refine lv_bipush (v := 11) hx hb dX12_image_36 (by decide +kernel) ?_
      refine x_iald C hP (lr_55 hL) (lk_55 hL) (ln_55 hL) (by decide +kernel) dX12_image_38 ?_
      rw [cl_11]
      obtain ⟨rfl, rfl⟩ := ret_2 hF
      subst hρ0
      exact x_iret rfl C hP hS dX12_image_39
    · have hF := ite_f hF c_1
      refine lv_aload_n hx hb dX12_image_9 rfl (lv_at hl 0 rfl) ?_
      refine get_12_2 C hP (lr_54 hL) (lk_54 hL) inlX12 mw_82 (lf_54_2 hL) dX12_image_10 ?_
      refine lv_iload_n hx hb dX12_image_13 rfl (lv_at hl 1 rfl) ?_
      refine lv_aload_n hx hb dX12_image_14 rfl (lv_at hl 0 rfl) ?_
      refine get_12_1 C hP (lr_54 hL) (lk_54 hL) inlX12 mw_81 (lf_54_1 hL) dX12_image_15 ?_
      refine lv_iload_n hx hb dX12_image_18 rfl (lv_at hl 1 rfl) ?_
      obtain ⟨g4, hF⟩ := gd_1 hF
      refine x_iald C hP (lr_55 hL) (lk_55 hL) (ln_55 hL) g4 dX12_image_19 ?_
      obtain ⟨g5, hF⟩ := gd_1 hF
      obtain ⟨σ7, eσ7, hF⟩ := nm_1 hF
      refine x_iast (σ1 := σ7) C hP hS (lr_56 hL) (lk_56 hL) (ln_56 hL) g5 eσ7 dX12_image_20 (fun H locs hP hS => ?_)
      obtain ⟨x8, ex8, hF⟩ := nm_1 hF
      refine lv_iinc (v := x8) (lv' := [(1, .int x8), (0, .ref (ad 54))]) hx hb dX12_image_21 hl (k := 1) rfl (by rw [ex8]; first | rfl | decide) (by decide) rfl (fun ls hl => ?_)
      refine lv_goto (tgt := 2) hx hb dX12_image_24 (by decide) ?_
      exact ih _ _ _ _ _ _ hρ0 hL hF hP hS (lv_sub hl [1, 0] rfl)
set_option maxHeartbeats 4000000 in
set_option maxRecDepth 100000 in
theorem w_X12_image_0  {p : Program} {e : Env} {s : State} {m : MethodId} {args : Array Value} {below : List Frame} {meth : Method} {c : Code} {ρ0 : RG} {r : Int32} {σ1 : SG} (C : Cx Y D N ad p s m args meth c cX12_image 2 (some .int) RX12 wsL_law) {σ : SG} {ρ : RG} {H : Heap} {locs : List Loc} {ls : Array Slot} (hρ0 : ρ = ρ0) (hL : Lay N K len ρ) (hF : F_X12_image σ ρ = some (r, σ1)) (hP : WP Y D N ad K len σ ρ H) (hS : va_S (AA N ad s.heap.size) s.heap H locs) (hl : lv_has ls 2 [(0, .ref (ad 54))]) : W p l e rm_X12_image s m args below meth c H locs 0 0 (MQ below (QW Y D N ad K len σ1 ρ0 (AA N ad s.heap.size) (some (.int r))) args s 0 0 (AA N ad s.heap.size)) (F0 m 0 ls []) := by
  have hx := C.1.1
  have hb := C.1.2.1
  unfold F_X12_image at hF
  refine lv_iconst (v := 0) hx hb dX12_image_0 (by decide) ?_
  refine lv_istore_n (lv' := [(1, .int (0 : Int32)), (0, .ref (ad 54))]) hx hb dX12_image_1 rfl hl (by decide) rfl (fun ls hl => ?_)
  exact w_X12_image_2 C 1024 _ _ _ _ _ _ hρ0 hL hF hP hS (lv_sub hl [1, 0] rfl)
set_option maxHeartbeats 4000000 in
set_option maxRecDepth 100000 in
theorem c_X12_image  {r : Int32} {σ1 : SG} {σ : SG} {ρ : RG} (hL : Lay N K len ρ) (hF : F_X12_image σ ρ = some (r, σ1)) : MT l Y D N ad K len yX12_image (Cond.code yX12_image cX12_image 2 (some .int) :: wsL_law) rm_X12_image [.ref (ad 54)] σ ρ (some (.int r)) σ1 ρ := by
  refine mt_of (cc := cX12_image) (nL := 2) (ret := (some .int)) (by decide) (Nat.le_of_ble_eq_true rfl) ?_
  intro p e s m args below meth c ls C hnm hP hS hl
  exact w_X12_image_0 C rfl hL hF hP hS hl

/-! CutCrookedModel.public int undo();  -/
theorem dX12_undo_0 : decode cX12_undo 0 = .ok (.aload_n 0, 1) := by decide +kernel
theorem dX12_undo_1 : decode cX12_undo 1 = .ok (.getfield 288, 3) := by decide +kernel
theorem dX12_undo_4 : decode cX12_undo 4 = .ok (.ifCond .ne 6, 3) := by decide +kernel
theorem dX12_undo_7 : decode cX12_undo 7 = .ok (.bipush (-3), 2) := by decide +kernel
theorem dX12_undo_9 : decode cX12_undo 9 = .ok (.ireturn, 1) := by decide +kernel
theorem dX12_undo_10 : decode cX12_undo 10 = .ok (.iconst 0, 1) := by decide +kernel
theorem dX12_undo_11 : decode cX12_undo 11 = .ok (.istore_n 1, 1) := by decide +kernel
theorem dX12_undo_12 : decode cX12_undo 12 = .ok (.iload_n 1, 1) := by decide +kernel
theorem dX12_undo_13 : decode cX12_undo 13 = .ok (.sipush 909, 3) := by decide +kernel
theorem dX12_undo_16 : decode cX12_undo 16 = .ok (.if_icmp .ge 21, 3) := by decide +kernel
theorem dX12_undo_19 : decode cX12_undo 19 = .ok (.aload_n 0, 1) := by decide +kernel
theorem dX12_undo_20 : decode cX12_undo 20 = .ok (.getfield 9, 3) := by decide +kernel
theorem dX12_undo_23 : decode cX12_undo 23 = .ok (.iload_n 1, 1) := by decide +kernel
theorem dX12_undo_24 : decode cX12_undo 24 = .ok (.aload_n 0, 1) := by decide +kernel
theorem dX12_undo_25 : decode cX12_undo 25 = .ok (.getfield 15, 3) := by decide +kernel
theorem dX12_undo_28 : decode cX12_undo 28 = .ok (.iload_n 1, 1) := by decide +kernel
theorem dX12_undo_29 : decode cX12_undo 29 = .ok (.iaload, 1) := by decide +kernel
theorem dX12_undo_30 : decode cX12_undo 30 = .ok (.iastore, 1) := by decide +kernel
theorem dX12_undo_31 : decode cX12_undo 31 = .ok (.iinc 1 1, 3) := by decide +kernel
theorem dX12_undo_34 : decode cX12_undo 34 = .ok (.goto (-22), 3) := by decide +kernel
theorem dX12_undo_37 : decode cX12_undo 37 = .ok (.aload_n 0, 1) := by decide +kernel
theorem dX12_undo_38 : decode cX12_undo 38 = .ok (.getfield 9, 3) := by decide +kernel
theorem dX12_undo_41 : decode cX12_undo 41 = .ok (.bipush 11, 2) := by decide +kernel
theorem dX12_undo_43 : decode cX12_undo 43 = .ok (.iaload, 1) := by decide +kernel
theorem dX12_undo_44 : decode cX12_undo 44 = .ok (.ireturn, 1) := by decide +kernel
theorem hd_X12_undo : yX12_undo.cls = RX12 ∧ yX12_undo.cls ≠ "java/lang/invoke/MethodHandle" ∧ yX12_undo.cls ≠ "java/lang/invoke/VarHandle" ∧ (parseMethodDescriptor yX12_undo.desc).map (fun d => d.parameters.length) = some 0 := by decide +kernel
abbrev rm_X12_undo : Room := { frames := 0, cells := 0, slots := 0, locals := 0 }
def F_X12_undo_12  : Nat → SG → RG → Int32 → Option (Int32 × SG)
  | 0 => fun _ _ _ => none
  | n + 1 => fun σ ρ v1 =>
  if (909 : Int32) ≤ v1 then
    some ((σ 55 11), σ)
  else
    gd (inb v1 909) <|
    gd (inb v1 909) <|
    nm (s2 σ 55 (v1).toNatClampNeg (σ 56 (v1).toNatClampNeg)) fun σ6 =>
    nm (v1 + (1 : Int32)) fun x7 =>
    F_X12_undo_12 n σ6 ρ x7
def F_X12_undo  (σ : SG) (ρ : RG) : Option (Int32 × SG) :=
  if (σ 54 4) = 0 then
    some ((-3 : Int32), σ)
  else
    F_X12_undo_12 1024 σ ρ (0 : Int32)
set_option maxHeartbeats 4000000 in
set_option maxRecDepth 100000 in
theorem w_X12_undo_12  {p : Program} {e : Env} {s : State} {m : MethodId} {args : Array Value} {below : List Frame} {meth : Method} {c : Code} {ρ0 : RG} {r : Int32} {σ1 : SG} (C : Cx Y D N ad p s m args meth c cX12_undo 2 (some .int) RX12 wsL_law) : ∀ (n : Nat) (σ : SG) (ρ : RG) (v1 : Int32) (H : Heap) (locs : List Loc) (ls : Array Slot), ρ = ρ0 → Lay N K len ρ → F_X12_undo_12 n σ ρ v1 = some (r, σ1) → WP Y D N ad K len σ ρ H → va_S (AA N ad s.heap.size) s.heap H locs → lv_has ls 2 [(0, .ref (ad 54)), (1, .int v1)] → W p l e rm_X12_undo s m args below meth c H locs 0 0 (MQ below (QW Y D N ad K len σ1 ρ0 (AA N ad s.heap.size) (some (.int r))) args s 0 0 (AA N ad s.heap.size)) (F0 m 12 ls []) := by
  have hx := C.1.1
  have hb := C.1.2.1
  intro n
  induction n with
  | zero => intro σ ρ v1 H locs ls hρ0 hL hF; cases hF
  | succ n ih =>
    intro σ ρ v1 H locs ls hρ0 hL hF hP hS hl
    unfold F_X12_undo_12 at hF
    refine lv_iload_n hx hb dX12_undo_12 rfl (lv_at hl 1 rfl) ?_
    refine lv_sipush (v := 909) hx hb dX12_undo_13 (by decide +kernel) ?_
    refine lv_icmp_ge (tgt := 37) hx hb dX12_undo_16 (by decide) (fun c_2 => ?_) (fun c_2 => ?_) -- COND 2 by_cases c_2 : (909 : Int32) ≤ v1
    · have hF := ite_t hF c_2
      refine lv_aload_n hx hb dX12_undo_37 rfl (lv_at hl 0 rfl) ?_
      refine get_12_1 C hP (lr_54 hL) (lk_54 hL) inlX12 mw_81 (lf_54_1 hL) dX12_undo_38 ?_
      refine lv_bipush (v := 11) hx hb dX12_undo_41 (by decide +kernel) ?_
      refine x_iald C hP (lr_55 hL) (lk_55 hL) (ln_55 hL) (by decide +kernel) dX12_undo_43 ?_
      rw [cl_11]
      obtain ⟨rfl, rfl⟩ := ret_2 hF
      subst hρ0
      exact x_iret rfl C hP hS dX12_undo_44
    · have hF := ite_f hF c_2
      refine lv_aload_n hx hb dX12_undo_19 rfl (lv_at hl 0 rfl) ?_
      refine get_12_1 C hP (lr_54 hL) (lk_54 hL) inlX12 mw_81 (lf_54_1 hL) dX12_undo_20 ?_
      refine lv_iload_n hx hb dX12_undo_23 rfl (lv_at hl 1 rfl) ?_
      refine lv_aload_n hx hb dX12_undo_24 rfl (lv_at hl 0 rfl) ?_
      refine get_12_2 C hP (lr_54 hL) (lk_54 hL) inlX12 mw_82 (lf_54_2 hL) dX12_undo_25 ?_
      refine lv_iload_n hx hb dX12_undo_28 rfl (lv_at hl 1 rfl) ?_
      obtain ⟨g3, hF⟩ := gd_1 hF
      refine x_iald C hP (lr_56 hL) (lk_56 hL) (ln_56 hL) g3 dX12_undo_29 ?_
      obtain ⟨g4, hF⟩ := gd_1 hF
      obtain ⟨σ6, eσ6, hF⟩ := nm_1 hF
      refine x_iast (σ1 := σ6) C hP hS (lr_55 hL) (lk_55 hL) (ln_55 hL) g4 eσ6 dX12_undo_30 (fun H locs hP hS => ?_)
      obtain ⟨x7, ex7, hF⟩ := nm_1 hF
      refine lv_iinc (v := x7) (lv' := [(1, .int x7), (0, .ref (ad 54))]) hx hb dX12_undo_31 hl (k := 1) rfl (by rw [ex7]; first | rfl | decide) (by decide) rfl (fun ls hl => ?_)
      refine lv_goto (tgt := 12) hx hb dX12_undo_34 (by decide) ?_
      exact ih _ _ _ _ _ _ hρ0 hL hF hP hS (lv_sub hl [1, 0] rfl)
set_option maxHeartbeats 4000000 in
set_option maxRecDepth 100000 in
theorem w_X12_undo_0  {p : Program} {e : Env} {s : State} {m : MethodId} {args : Array Value} {below : List Frame} {meth : Method} {c : Code} {ρ0 : RG} {r : Int32} {σ1 : SG} (C : Cx Y D N ad p s m args meth c cX12_undo 2 (some .int) RX12 wsL_law) {σ : SG} {ρ : RG} {H : Heap} {locs : List Loc} {ls : Array Slot} (hρ0 : ρ = ρ0) (hL : Lay N K len ρ) (hF : F_X12_undo σ ρ = some (r, σ1)) (hP : WP Y D N ad K len σ ρ H) (hS : va_S (AA N ad s.heap.size) s.heap H locs) (hl : lv_has ls 2 [(0, .ref (ad 54))]) : W p l e rm_X12_undo s m args below meth c H locs 0 0 (MQ below (QW Y D N ad K len σ1 ρ0 (AA N ad s.heap.size) (some (.int r))) args s 0 0 (AA N ad s.heap.size)) (F0 m 0 ls []) := by
  have hx := C.1.1
  have hb := C.1.2.1
  unfold F_X12_undo at hF
  refine lv_aload_n hx hb dX12_undo_0 rfl (lv_at hl 0 rfl) ?_
  refine get_12_4 C hP (lr_54 hL) (lk_54 hL) inlX12 mw_1204 dX12_undo_1 ?_
  refine lv_if_ne (tgt := 10) hx hb dX12_undo_4 (by decide) (fun c_1 => ?_) (fun c_1 => ?_) -- COND 1 rcases (Decidable.em ((σ 54 4) = 0)).symm with c_1 | c_1
  · have hF := ite_f hF c_1
    refine lv_iconst (v := 0) hx hb dX12_undo_10 (by decide) ?_
    refine lv_istore_n (lv' := [(1, .int (0 : Int32)), (0, .ref (ad 54))]) hx hb dX12_undo_11 rfl hl (by decide) rfl (fun ls hl => ?_)
    exact w_X12_undo_12 C 1024 _ _ _ _ _ _ hρ0 hL hF hP hS (lv_sub hl [1, 0] rfl)
  · have hF := ite_t hF c_1
    refine lv_bipush (v := -3) hx hb dX12_undo_7 (by decide +kernel) ?_
    obtain ⟨rfl, rfl⟩ := ret_2 hF
    subst hρ0
    exact x_iret rfl C hP hS dX12_undo_9
set_option maxHeartbeats 4000000 in
set_option maxRecDepth 100000 in
theorem c_X12_undo  {r : Int32} {σ1 : SG} {σ : SG} {ρ : RG} (hL : Lay N K len ρ) (hF : F_X12_undo σ ρ = some (r, σ1)) : MT l Y D N ad K len yX12_undo (Cond.code yX12_undo cX12_undo 2 (some .int) :: wsL_law) rm_X12_undo [.ref (ad 54)] σ ρ (some (.int r)) σ1 ρ := by
  refine mt_of (cc := cX12_undo) (nL := 2) (ret := (some .int)) (by decide) (Nat.le_of_ble_eq_true rfl) ?_
  intro p e s m args below meth c ls C hnm hP hS hl
  exact w_X12_undo_0 C rfl hL hF hP hS hl

/-! CutCrookedModel.public int count(int);  -/
theorem dX12_count_0 : decode cX12_count 0 = .ok (.iload_n 1, 1) := by decide +kernel
theorem dX12_count_1 : decode cX12_count 1 = .ok (.iconst 5, 1) := by decide +kernel
theorem dX12_count_2 : decode cX12_count 2 = .ok (.if_icmp .ne 10, 3) := by decide +kernel
theorem dX12_count_5 : decode cX12_count 5 = .ok (.aload_n 0, 1) := by decide +kernel
theorem dX12_count_6 : decode cX12_count 6 = .ok (.getfield 252, 3) := by decide +kernel
theorem dX12_count_9 : decode cX12_count 9 = .ok (.goto 25, 3) := by decide +kernel
theorem dX12_count_12 : decode cX12_count 12 = .ok (.iload_n 1, 1) := by decide +kernel
theorem dX12_count_13 : decode cX12_count 13 = .ok (.iconst 0, 1) := by decide +kernel
theorem dX12_count_14 : decode cX12_count 14 = .ok (.iconst 4, 1) := by decide +kernel
theorem dX12_count_15 : decode cX12_count 15 = .ok (.invokestatic 47, 3) := by decide +kernel
theorem dX12_count_18 : decode cX12_count 18 = .ok (.ifCond .eq 15, 3) := by decide +kernel
theorem dX12_count_21 : decode cX12_count 21 = .ok (.aload_n 0, 1) := by decide +kernel
theorem dX12_count_22 : decode cX12_count 22 = .ok (.getfield 9, 3) := by decide +kernel
theorem dX12_count_25 : decode cX12_count 25 = .ok (.bipush 11, 2) := by decide +kernel
theorem dX12_count_27 : decode cX12_count 27 = .ok (.iload_n 1, 1) := by decide +kernel
theorem dX12_count_28 : decode cX12_count 28 = .ok (.iadd, 1) := by decide +kernel
theorem dX12_count_29 : decode cX12_count 29 = .ok (.iaload, 1) := by decide +kernel
theorem dX12_count_30 : decode cX12_count 30 = .ok (.goto 4, 3) := by decide +kernel
theorem dX12_count_33 : decode cX12_count 33 = .ok (.iconst (-1), 1) := by decide +kernel
theorem dX12_count_34 : decode cX12_count 34 = .ok (.ireturn, 1) := by decide +kernel
theorem hd_X12_count : yX12_count.cls = RX12 ∧ yX12_count.cls ≠ "java/lang/invoke/MethodHandle" ∧ yX12_count.cls ≠ "java/lang/invoke/VarHandle" ∧ (parseMethodDescriptor yX12_count.desc).map (fun d => d.parameters.length) = some 1 := by decide +kernel
abbrev rm_X12_count : Room := { frames := 1, cells := 0, slots := 0, locals := 22 }
def F_X12_count (a1 : Int32) (σ : SG) (ρ : RG) : Option (Int32) :=
  if a1 = (5 : Int32) then
    some (σ 54 30)
  else
    bn (F_X12_in a1 (0 : Int32) (4 : Int32) σ ρ) fun r2 =>
    if r2 = 0 then
      some (-1 : Int32)
    else
      nm ((11 : Int32) + a1) fun x4 =>
      gd (inb x4 909) <|
      some (σ 55 (x4).toNatClampNeg)
set_option maxHeartbeats 4000000 in
set_option maxRecDepth 100000 in
theorem w_X12_count_0 {a1 : Int32} {p : Program} {e : Env} {s : State} {m : MethodId} {args : Array Value} {below : List Frame} {meth : Method} {c : Code} {σ0 : SG} {ρ0 : RG} {r : Int32} (C : Cx Y D N ad p s m args meth c cX12_count 2 (some .int) RX12 wsL_law) {σ : SG} {ρ : RG} {H : Heap} {locs : List Loc} {ls : Array Slot} (hσ0 : σ = σ0) (hρ0 : ρ = ρ0) (hL : Lay N K len ρ) (hF : F_X12_count a1 σ ρ = some r) (hP : WP Y D N ad K len σ ρ H) (hS : va_S (AA N ad s.heap.size) s.heap H locs) (hl : lv_has ls 2 [(0, .ref (ad 54)), (1, .int a1)]) : W p l e rm_X12_count s m args below meth c H locs 0 0 (MQ below (QW Y D N ad K len σ0 ρ0 (AA N ad s.heap.size) (some (.int r))) args s 0 0 (AA N ad s.heap.size)) (F0 m 0 ls []) := by
  have hx := C.1.1
  have hb := C.1.2.1
  unfold F_X12_count at hF
  refine lv_iload_n hx hb dX12_count_0 rfl (lv_at hl 1 rfl) ?_
  refine lv_iconst (v := 5) hx hb dX12_count_1 (by decide) ?_
  refine lv_icmp_ne (tgt := 12) hx hb dX12_count_2 (by decide) (fun c_1 => ?_) (fun c_1 => ?_) -- COND 1 rcases (Decidable.em (a1 = (5 : Int32))).symm with c_1 | c_1
  · have hF := ite_f hF c_1
    refine lv_iload_n hx hb dX12_count_12 rfl (lv_at hl 1 rfl) ?_
    refine lv_iconst (v := 0) hx hb dX12_count_13 (by decide) ?_
    refine lv_iconst (v := 4) hx hb dX12_count_14 (by decide) ?_
    obtain ⟨r2, hq2, hF⟩ := bn_1 hF
    refine x_callS C hP hS (c_X12_in hL hq2) (va_cwS 3 C.1.2.2.2.2 (gdS mw_104 mw_105 mw_5 mw_106) rfl rfl rfl hd_X12_in.2 ⟨Nat.le_of_ble_eq_true rfl, Nat.le_of_ble_eq_true rfl⟩) rfl rfl hl.1 (Nat.le_of_ble_eq_true rfl) ⟨Nat.zero_le _, Nat.zero_le _⟩ dX12_count_15 (fun H locs hP hS => ?_)
    refine lv_if_eq (tgt := 33) hx hb dX12_count_18 (by decide) (fun c_3 => ?_) (fun c_3 => ?_) -- COND 3 by_cases c_3 : r2 = 0
    · have hF := ite_t hF c_3
      refine lv_iconst (v := -1) hx hb dX12_count_33 (by decide) ?_
      obtain rfl := ret_1 hF
      subst hσ0
      subst hρ0
      exact x_iret rfl C hP hS dX12_count_34
    · have hF := ite_f hF c_3
      refine lv_aload_n hx hb dX12_count_21 rfl (lv_at hl 0 rfl) ?_
      refine get_12_1 C hP (lr_54 hL) (lk_54 hL) inlX12 mw_81 (lf_54_1 hL) dX12_count_22 ?_
      refine lv_bipush (v := 11) hx hb dX12_count_25 (by decide +kernel) ?_
      refine lv_iload_n hx hb dX12_count_27 rfl (lv_at hl 1 rfl) ?_
      refine lv_iadd hx hb dX12_count_28 ?_
      obtain ⟨x4, ex4, hF⟩ := nm_1 hF
      refine x_top ex4 ?_
      obtain ⟨g5, hF⟩ := gd_1 hF
      refine x_iald C hP (lr_55 hL) (lk_55 hL) (ln_55 hL) g5 dX12_count_29 ?_
      refine lv_goto (tgt := 34) hx hb dX12_count_30 (by decide) ?_
      obtain rfl := ret_1 hF
      subst hσ0
      subst hρ0
      exact x_iret rfl C hP hS dX12_count_34
  · have hF := ite_t hF c_1
    refine lv_aload_n hx hb dX12_count_5 rfl (lv_at hl 0 rfl) ?_
    refine get_12_30 C hP (lr_54 hL) (lk_54 hL) inlX12 mw_1090 dX12_count_6 ?_
    refine lv_goto (tgt := 34) hx hb dX12_count_9 (by decide) ?_
    obtain rfl := ret_1 hF
    subst hσ0
    subst hρ0
    exact x_iret rfl C hP hS dX12_count_34
set_option maxHeartbeats 4000000 in
set_option maxRecDepth 100000 in
theorem c_X12_count {a1 : Int32} {r : Int32} {σ : SG} {ρ : RG} (hL : Lay N K len ρ) (hF : F_X12_count a1 σ ρ = some r) : MT l Y D N ad K len yX12_count (Cond.code yX12_count cX12_count 2 (some .int) :: wsL_law) rm_X12_count [.ref (ad 54), .int a1] σ ρ (some (.int r)) σ ρ := by
  refine mt_of (cc := cX12_count) (nL := 2) (ret := (some .int)) (by decide) (Nat.le_of_ble_eq_true rfl) ?_
  intro p e s m args below meth c ls C hnm hP hS hl
  exact w_X12_count_0 C rfl rfl hL hF hP hS hl
end GEN
