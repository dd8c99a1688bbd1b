/-! PART 15.lf: printed by wip/gen -/
section GEN
variable {l : Launch} {Y : YT} {D : va_G} {N : Nat} {ad K len : Nat → Nat}
variable {fR lR : Nat}
/-! CutCrooked$Loaf.private static int held(int);  -/
theorem dX3_held_0 : decode cX3_held 0 = .ok (.bipush (-99), 2) := by decide +kernel
theorem dX3_held_2 : decode cX3_held 2 = .ok (.bipush 99, 2) := by decide +kernel
theorem dX3_held_4 : decode cX3_held 4 = .ok (.iload_n 0, 1) := by decide +kernel
theorem dX3_held_5 : decode cX3_held 5 = .ok (.invokestatic 109, 3) := by decide +kernel
theorem dX3_held_8 : decode cX3_held 8 = .ok (.invokestatic 105, 3) := by decide +kernel
theorem dX3_held_11 : decode cX3_held 11 = .ok (.ireturn, 1) := by decide +kernel
theorem hd_X3_held : yX3_held.cls = RX3 ∧ yX3_held.cls ≠ "java/lang/invoke/MethodHandle" ∧ yX3_held.cls ≠ "java/lang/invoke/VarHandle" ∧ (parseMethodDescriptor yX3_held.desc).map (fun d => d.parameters.length) = some 1 := by decide +kernel
abbrev rm_X3_held : Room := { frames := 1, cells := 0, slots := 0, locals := 21 }
def F_X3_held (a1 : Int32) (σ : SG) (ρ : RG) : Option (Int32) :=
  nm (if a1 < (99 : Int32) then a1 else (99 : Int32)) fun x1 =>
  nm (if (-99 : Int32) < x1 then x1 else (-99 : Int32)) fun x2 =>
  some x2
set_option maxHeartbeats 4000000 in
set_option maxRecDepth 100000 in
theorem w_X3_held_0 {a1 : Int32} {p : Program} {e : Env} {s : State} {m : MethodId} {args : Array Value} {below : List Frame} {meth : Method} {c : Code} {σ0 : SG} {ρ0 : RG} {r : Int32} (C : Cx Y D N ad p s m args meth c cX3_held 1 (some .int) RX3 wsL_law) {σ : SG} {ρ : RG} {H : Heap} {locs : List Loc} {ls : Array Slot} (hσ0 : σ = σ0) (hρ0 : ρ = ρ0) (hL : Lay N K len ρ) (hF : F_X3_held a1 σ ρ = some r) (hP : WP Y D N ad K len σ ρ H) (hS : va_S (AA N ad s.heap.size) s.heap H locs) (hl : lv_has ls 1 [(0, .int a1)]) : W p l e rm_X3_held s m args below meth c H locs 0 0 (MQ below (QW Y D N ad K len σ0 ρ0 (AA N ad s.heap.size) (some (.int r))) args s 0 0 (AA N ad s.heap.size)) (F0 m 0 ls []) := by
  have hx := C.1.1
  have hb := C.1.2.1
  unfold F_X3_held at hF
  refine lv_bipush (v := -99) hx hb dX3_held_0 (by decide +kernel) ?_
  refine lv_bipush (v := 99) hx hb dX3_held_2 (by decide +kernel) ?_
  refine lv_iload_n hx hb dX3_held_4 rfl (lv_at hl 0 rfl) ?_
  refine va_mmin hx hb (C.1.2.2.1.trans hl.1.symm) C.1.2.2.2.1 (C.1.2.2.2.2 _ mw_613) (C.1.2.2.2.2 _ mw_237) (C.1.2.2.2.2 _ mw_234) (C.1.2.2.2.2 _ mw_238) (Nat.le_of_ble_eq_true rfl) (Nat.le_of_ble_eq_true rfl) (Nat.zero_le _) (Nat.zero_le _) dX3_held_5 ?_
  obtain ⟨x1, ex1, hF⟩ := nm_1 hF
  refine x_top ex1 ?_
  refine va_mmax hx hb (C.1.2.2.1.trans hl.1.symm) C.1.2.2.2.1 (C.1.2.2.2.2 _ mw_614) (C.1.2.2.2.2 _ mw_233) (C.1.2.2.2.2 _ mw_234) (C.1.2.2.2.2 _ mw_235) (Nat.le_of_ble_eq_true rfl) (Nat.le_of_ble_eq_true rfl) (Nat.zero_le _) (Nat.zero_le _) dX3_held_8 ?_
  obtain ⟨x2, ex2, hF⟩ := nm_1 hF
  refine x_top ex2 ?_
  obtain rfl := ret_1 hF
  subst hσ0
  subst hρ0
  exact x_iret rfl C hP hS dX3_held_11
set_option maxHeartbeats 4000000 in
set_option maxRecDepth 100000 in
theorem c_X3_held {a1 : Int32} {r : Int32} {σ : SG} {ρ : RG} (hL : Lay N K len ρ) (hF : F_X3_held a1 σ ρ = some r) : MT l Y D N ad K len yX3_held (Cond.code yX3_held cX3_held 1 (some .int) :: wsL_law) rm_X3_held [.int a1] σ ρ (some (.int r)) σ ρ := by
  refine mt_of (cc := cX3_held) (nL := 1) (ret := (some .int)) (by decide) (Nat.le_of_ble_eq_true rfl) ?_
  intro p e s m args below meth c ls C hnm hP hS hl
  exact w_X3_held_0 C rfl rfl hL hF hP hS hl

/-! CutCrooked$Loaf.private void noteStart(CutCrooked$Cutter, int);  -/
theorem dX3_noteStart_0 : decode cX3_noteStart 0 = .ok (.aload_n 0, 1) := by decide +kernel
theorem dX3_noteStart_1 : decode cX3_noteStart 1 = .ok (.getfield 9, 3) := by decide +kernel
theorem dX3_noteStart_4 : decode cX3_noteStart 4 = .ok (.iconst 0, 1) := by decide +kernel
theorem dX3_noteStart_5 : decode cX3_noteStart 5 = .ok (.aload_n 1, 1) := by decide +kernel
theorem dX3_noteStart_6 : decode cX3_noteStart 6 = .ok (.getfield 99, 3) := by decide +kernel
theorem dX3_noteStart_9 : decode cX3_noteStart 9 = .ok (.iastore, 1) := by decide +kernel
theorem dX3_noteStart_10 : decode cX3_noteStart 10 = .ok (.aload_n 0, 1) := by decide +kernel
theorem dX3_noteStart_11 : decode cX3_noteStart 11 = .ok (.getfield 9, 3) := by decide +kernel
theorem dX3_noteStart_14 : decode cX3_noteStart 14 = .ok (.iconst 1, 1) := by decide +kernel
theorem dX3_noteStart_15 : decode cX3_noteStart 15 = .ok (.aload_n 1, 1) := by decide +kernel
theorem dX3_noteStart_16 : decode cX3_noteStart 16 = .ok (.invokevirtual 102, 3) := by decide +kernel
theorem dX3_noteStart_19 : decode cX3_noteStart 19 = .ok (.iastore, 1) := by decide +kernel
theorem dX3_noteStart_20 : decode cX3_noteStart 20 = .ok (.aload_n 0, 1) := by decide +kernel
theorem dX3_noteStart_21 : decode cX3_noteStart 21 = .ok (.getfield 9, 3) := by decide +kernel
theorem dX3_noteStart_24 : decode cX3_noteStart 24 = .ok (.iconst 2, 1) := by decide +kernel
theorem dX3_noteStart_25 : decode cX3_noteStart 25 = .ok (.iload_n 2, 1) := by decide +kernel
theorem dX3_noteStart_26 : decode cX3_noteStart 26 = .ok (.iastore, 1) := by decide +kernel
theorem dX3_noteStart_27 : decode cX3_noteStart 27 = .ok (.aload_n 0, 1) := by decide +kernel
theorem dX3_noteStart_28 : decode cX3_noteStart 28 = .ok (.getfield 9, 3) := by decide +kernel
theorem dX3_noteStart_31 : decode cX3_noteStart 31 = .ok (.iconst 3, 1) := by decide +kernel
theorem dX3_noteStart_32 : decode cX3_noteStart 32 = .ok (.aload_n 0, 1) := by decide +kernel
theorem dX3_noteStart_33 : decode cX3_noteStart 33 = .ok (.getfield 22, 3) := by decide +kernel
theorem dX3_noteStart_36 : decode cX3_noteStart 36 = .ok (.invokestatic 47, 3) := by decide +kernel
theorem dX3_noteStart_39 : decode cX3_noteStart 39 = .ok (.iastore, 1) := by decide +kernel
theorem dX3_noteStart_40 : decode cX3_noteStart 40 = .ok (.aload_n 0, 1) := by decide +kernel
theorem dX3_noteStart_41 : decode cX3_noteStart 41 = .ok (.getfield 9, 3) := by decide +kernel
theorem dX3_noteStart_44 : decode cX3_noteStart 44 = .ok (.iconst 4, 1) := by decide +kernel
theorem dX3_noteStart_45 : decode cX3_noteStart 45 = .ok (.aload_n 0, 1) := by decide +kernel
theorem dX3_noteStart_46 : decode cX3_noteStart 46 = .ok (.getfield 19, 3) := by decide +kernel
theorem dX3_noteStart_49 : decode cX3_noteStart 49 = .ok (.bipush 10, 2) := by decide +kernel
theorem dX3_noteStart_51 : decode cX3_noteStart 51 = .ok (.idiv, 1) := by decide +kernel
theorem dX3_noteStart_52 : decode cX3_noteStart 52 = .ok (.iastore, 1) := by decide +kernel
theorem dX3_noteStart_53 : decode cX3_noteStart 53 = .ok (.aload_n 0, 1) := by decide +kernel
theorem dX3_noteStart_54 : decode cX3_noteStart 54 = .ok (.getfield 9, 3) := by decide +kernel
theorem dX3_noteStart_57 : decode cX3_noteStart 57 = .ok (.iconst 5, 1) := by decide +kernel
theorem dX3_noteStart_58 : decode cX3_noteStart 58 = .ok (.aload_n 0, 1) := by decide +kernel
theorem dX3_noteStart_59 : decode cX3_noteStart 59 = .ok (.getfield 28, 3) := by decide +kernel
theorem dX3_noteStart_62 : decode cX3_noteStart 62 = .ok (.bipush 10, 2) := by decide +kernel
theorem dX3_noteStart_64 : decode cX3_noteStart 64 = .ok (.irem, 1) := by decide +kernel
theorem dX3_noteStart_65 : decode cX3_noteStart 65 = .ok (.iastore, 1) := by decide +kernel
theorem dX3_noteStart_66 : decode cX3_noteStart 66 = .ok (.return_, 1) := by decide +kernel
theorem hd_X3_noteStart : yX3_noteStart.cls = RX3 ∧ yX3_noteStart.cls ≠ "java/lang/invoke/MethodHandle" ∧ yX3_noteStart.cls ≠ "java/lang/invoke/VarHandle" ∧ (parseMethodDescriptor yX3_noteStart.desc).map (fun d => d.parameters.length) = some 2 := by decide +kernel
abbrev rm_X3_noteStart : Room := { frames := 1, cells := 0, slots := 0, locals := 21 }
def F_X3_noteStart (N : Nat) (K len : Nat → Nat) (i : Nat) (z : Nat) (a2 : Int32) (σ : SG) (ρ : RG) : Option (SG) :=
  nm (s2 σ (i + 1) 0 (σ z 0)) fun σ2 =>
  bn (F_v_kind N K len z σ2 ρ) fun r3 =>
  nm (s2 σ2 (i + 1) 1 r3) fun σ5 =>
  nm (s2 σ5 (i + 1) 2 a2) fun σ7 =>
  nm (if 0 ≤ (σ7 i 2) then (σ7 i 2) else 0 - (σ7 i 2)) fun x8 =>
  nm (s2 σ7 (i + 1) 3 x8) fun σ10 =>
  nm ((σ10 i 1) / (10 : Int32)) fun x11 =>
  nm (s2 σ10 (i + 1) 4 x11) fun σ13 =>
  nm ((σ13 i 4) - (σ13 i 4) / (10 : Int32) * (10 : Int32)) fun x14 =>
  nm (s2 σ13 (i + 1) 5 x14) fun σ16 =>
  some σ16
set_option maxHeartbeats 4000000 in
set_option maxRecDepth 100000 in
theorem w_X3_noteStart_0 {N : Nat} {K len : Nat → Nat} {i : Nat} {z : Nat} {a2 : Int32} {p : Program} {e : Env} {s : State} {m : MethodId} {args : Array Value} {below : List Frame} {meth : Method} {c : Code} {ρ0 : RG} {σ1 : SG} (C : Cx Y D N ad p s m args meth c cX3_noteStart 3 none RX3 wsL_law) {σ : SG} {ρ : RG} {H : Heap} {locs : List Loc} {ls : Array Slot} (hρ0 : ρ = ρ0) (hL : Lay N K len ρ) (hi : isL N K len ρ i) (hz : isC N K z = true) (hF : F_X3_noteStart N K len i z a2 σ ρ = some σ1) (hP : WP Y D N ad K len σ ρ H) (hS : va_S (AA N ad s.heap.size) s.heap H locs) (hl : lv_has ls 3 [(0, .ref (ad i)), (1, .ref (ad z)), (2, .int a2)]) : W p l e rm_X3_noteStart s m args below meth c H locs 0 0 (MQ below (QW Y D N ad K len σ1 ρ0 (AA N ad s.heap.size) none) args s 0 0 (AA N ad s.heap.size)) (F0 m 0 ls []) := by
  have hx := C.1.1
  have hb := C.1.2.1
  unfold F_X3_noteStart at hF
  refine lv_aload_n hx hb dX3_noteStart_0 rfl (lv_at hl 0 rfl) ?_
  refine get_3_9 C hP hi.1 hi.2.1 inlX3 mw_52 hi.2.2.2.2.2 dX3_noteStart_1 ?_
  refine lv_iconst (v := 0) hx hb dX3_noteStart_4 (by decide) ?_
  refine lv_aload_n hx hb dX3_noteStart_5 rfl (lv_at hl 1 rfl) ?_
  refine get_ck_0 C hP (isC_r hz) (isC_k hz) mw_540 (Or.inl rfl) dX3_noteStart_6 ?_
  obtain ⟨σ2, eσ2, hF⟩ := nm_1 hF
  refine x_iast (σ1 := σ2) C hP hS hi.2.2.1 hi.2.2.2.1 hi.2.2.2.2.1 (by decide +kernel) (by rw [cl_0]; exact eσ2) dX3_noteStart_9 (fun H locs hP hS => ?_)
  refine lv_aload_n hx hb dX3_noteStart_10 rfl (lv_at hl 0 rfl) ?_
  refine get_3_9 C hP hi.1 hi.2.1 inlX3 mw_52 hi.2.2.2.2.2 dX3_noteStart_11 ?_
  refine lv_iconst (v := 1) hx hb dX3_noteStart_14 (by decide) ?_
  refine lv_aload_n hx hb dX3_noteStart_15 rfl (lv_at hl 1 rfl) ?_
  obtain ⟨r3, hq3, hF⟩ := bn_1 hF
  refine v_kind C hP hS hL hz hq3 mw_544 ⟨Nat.le_of_ble_eq_true rfl, Nat.le_of_ble_eq_true rfl⟩ hl.1 (Nat.le_of_ble_eq_true rfl) ⟨Nat.zero_le _, Nat.zero_le _⟩ dX3_noteStart_16 (fun H locs hP hS => ?_)
  obtain ⟨σ5, eσ5, hF⟩ := nm_1 hF
  refine x_iast (σ1 := σ5) C hP hS hi.2.2.1 hi.2.2.2.1 hi.2.2.2.2.1 (by decide +kernel) (by rw [cl_1]; exact eσ5) dX3_noteStart_19 (fun H locs hP hS => ?_)
  refine lv_aload_n hx hb dX3_noteStart_20 rfl (lv_at hl 0 rfl) ?_
  refine get_3_9 C hP hi.1 hi.2.1 inlX3 mw_52 hi.2.2.2.2.2 dX3_noteStart_21 ?_
  refine lv_iconst (v := 2) hx hb dX3_noteStart_24 (by decide) ?_
  refine lv_iload_n hx hb dX3_noteStart_25 rfl (lv_at hl 2 rfl) ?_
  obtain ⟨σ7, eσ7, hF⟩ := nm_1 hF
  refine x_iast (σ1 := σ7) C hP hS hi.2.2.1 hi.2.2.2.1 hi.2.2.2.2.1 (by decide +kernel) (by rw [cl_2]; exact eσ7) dX3_noteStart_26 (fun H locs hP hS => ?_)
  refine lv_aload_n hx hb dX3_noteStart_27 rfl (lv_at hl 0 rfl) ?_
  refine get_3_9 C hP hi.1 hi.2.1 inlX3 mw_52 hi.2.2.2.2.2 dX3_noteStart_28 ?_
  refine lv_iconst (v := 3) hx hb dX3_noteStart_31 (by decide) ?_
  refine lv_aload_n hx hb dX3_noteStart_32 rfl (lv_at hl 0 rfl) ?_
  refine get_3_2 C hP hi.1 hi.2.1 inlX3 mw_69 dX3_noteStart_33 ?_
  refine va_mabs hx hb (C.1.2.2.1.trans hl.1.symm) C.1.2.2.2.1 (C.1.2.2.2.2 _ mw_541) (C.1.2.2.2.2 _ mw_542) (C.1.2.2.2.2 _ mw_234) (C.1.2.2.2.2 _ mw_543) (Nat.le_of_ble_eq_true rfl) (Nat.le_of_ble_eq_true rfl) (Nat.zero_le _) (Nat.zero_le _) dX3_noteStart_36 ?_
  obtain ⟨x8, ex8, hF⟩ := nm_1 hF
  refine x_top ex8 ?_
  obtain ⟨σ10, eσ10, hF⟩ := nm_1 hF
  refine x_iast (σ1 := σ10) C hP hS hi.2.2.1 hi.2.2.2.1 hi.2.2.2.2.1 (by decide +kernel) (by rw [cl_3]; exact eσ10) dX3_noteStart_39 (fun H locs hP hS => ?_)
  refine lv_aload_n hx hb dX3_noteStart_40 rfl (lv_at hl 0 rfl) ?_
  refine get_3_9 C hP hi.1 hi.2.1 inlX3 mw_52 hi.2.2.2.2.2 dX3_noteStart_41 ?_
  refine lv_iconst (v := 4) hx hb dX3_noteStart_44 (by decide) ?_
  refine lv_aload_n hx hb dX3_noteStart_45 rfl (lv_at hl 0 rfl) ?_
  refine get_3_1 C hP hi.1 hi.2.1 inlX3 mw_68 dX3_noteStart_46 ?_
  refine lv_bipush (v := 10) hx hb dX3_noteStart_49 (by decide +kernel) ?_
  refine lv_idiv hx hb dX3_noteStart_51 (by decide) ?_
  obtain ⟨x11, ex11, hF⟩ := nm_1 hF
  refine x_top ex11 ?_
  obtain ⟨σ13, eσ13, hF⟩ := nm_1 hF
  refine x_iast (σ1 := σ13) C hP hS hi.2.2.1 hi.2.2.2.1 hi.2.2.2.2.1 (by decide +kernel) (by rw [cl_4]; exact eσ13) dX3_noteStart_52 (fun H locs hP hS => ?_)
  refine lv_aload_n hx hb dX3_noteStart_53 rfl (lv_at hl 0 rfl) ?_
  refine get_3_9 C hP hi.1 hi.2.1 inlX3 mw_52 hi.2.2.2.2.2 dX3_noteStart_54 ?_
  refine lv_iconst (v := 5) hx hb dX3_noteStart_57 (by decide) ?_
  refine lv_aload_n hx hb dX3_noteStart_58 rfl (lv_at hl 0 rfl) ?_
  refine get_3_4 C hP hi.1 hi.2.1 inlX3 mw_71 dX3_noteStart_59 ?_
  refine lv_bipush (v := 10) hx hb dX3_noteStart_62 (by decide +kernel) ?_
  refine lv_irem hx hb dX3_noteStart_64 (by decide) ?_
  obtain ⟨x14, ex14, hF⟩ := nm_1 hF
  refine x_top ex14 ?_
  obtain ⟨σ16, eσ16, hF⟩ := nm_1 hF
  refine x_iast (σ1 := σ16) C hP hS hi.2.2.1 hi.2.2.2.1 hi.2.2.2.2.1 (by decide +kernel) (by rw [cl_5]; exact eσ16) dX3_noteStart_65 (fun H locs hP hS => ?_)
  obtain rfl := ret_1 hF
  subst hρ0
  exact x_vret rfl C hP hS dX3_noteStart_66
set_option maxHeartbeats 4000000 in
set_option maxRecDepth 100000 in
theorem c_X3_noteStart {N : Nat} {K len : Nat → Nat} {i : Nat} {z : Nat} {a2 : Int32} {σ1 : SG} {σ : SG} {ρ : RG} (hL : Lay N K len ρ) (hi : isL N K len ρ i) (hz : isC N K z = true) (hF : F_X3_noteStart N K len i z a2 σ ρ = some σ1) : MT l Y D N ad K len yX3_noteStart (Cond.code yX3_noteStart cX3_noteStart 3 none :: wsL_law) rm_X3_noteStart [.ref (ad i), .ref (ad z), .int a2] σ ρ none σ1 ρ := by
  refine mt_of (cc := cX3_noteStart) (nL := 3) (ret := none) (by decide) (Nat.le_of_ble_eq_true rfl) ?_
  intro p e s m args below meth c ls C hnm hP hS hl
  exact w_X3_noteStart_0 C rfl hL hi hz hF hP hS hl

/-! CutCrooked$Loaf.private void weigh(int, int, int);  -/
theorem dX3_weigh_0 : decode cX3_weigh 0 = .ok (.aload_n 0, 1) := by decide +kernel
theorem dX3_weigh_1 : decode cX3_weigh 1 = .ok (.iconst 0, 1) := by decide +kernel
theorem dX3_weigh_2 : decode cX3_weigh 2 = .ok (.putfield 34, 3) := by decide +kernel
theorem dX3_weigh_5 : decode cX3_weigh 5 = .ok (.iconst 0, 1) := by decide +kernel
theorem dX3_weigh_6 : decode cX3_weigh 6 = .ok (.istore 4, 2) := by decide +kernel
theorem dX3_weigh_8 : decode cX3_weigh 8 = .ok (.iload 4, 2) := by decide +kernel
theorem dX3_weigh_10 : decode cX3_weigh 10 = .ok (.iconst 4, 1) := by decide +kernel
theorem dX3_weigh_11 : decode cX3_weigh 11 = .ok (.if_icmp .ge 81, 3) := by decide +kernel
theorem dX3_weigh_14 : decode cX3_weigh 14 = .ok (.iconst 0, 1) := by decide +kernel
theorem dX3_weigh_15 : decode cX3_weigh 15 = .ok (.iload_n 1, 1) := by decide +kernel
theorem dX3_weigh_16 : decode cX3_weigh 16 = .ok (.iload 4, 2) := by decide +kernel
theorem dX3_weigh_18 : decode cX3_weigh 18 = .ok (.iload_n 2, 1) := by decide +kernel
theorem dX3_weigh_19 : decode cX3_weigh 19 = .ok (.iload_n 3, 1) := by decide +kernel
theorem dX3_weigh_20 : decode cX3_weigh 20 = .ok (.invokestatic 43, 3) := by decide +kernel
theorem dX3_weigh_23 : decode cX3_weigh 23 = .ok (.iadd, 1) := by decide +kernel
theorem dX3_weigh_24 : decode cX3_weigh 24 = .ok (.invokestatic 105, 3) := by decide +kernel
theorem dX3_weigh_27 : decode cX3_weigh 27 = .ok (.istore 5, 2) := by decide +kernel
theorem dX3_weigh_29 : decode cX3_weigh 29 = .ok (.aload_n 0, 1) := by decide +kernel
theorem dX3_weigh_30 : decode cX3_weigh 30 = .ok (.dup, 1) := by decide +kernel
theorem dX3_weigh_31 : decode cX3_weigh 31 = .ok (.getfield 34, 3) := by decide +kernel
theorem dX3_weigh_34 : decode cX3_weigh 34 = .ok (.iload 5, 2) := by decide +kernel
theorem dX3_weigh_36 : decode cX3_weigh 36 = .ok (.iadd, 1) := by decide +kernel
theorem dX3_weigh_37 : decode cX3_weigh 37 = .ok (.putfield 34, 3) := by decide +kernel
theorem dX3_weigh_40 : decode cX3_weigh 40 = .ok (.aload_n 0, 1) := by decide +kernel
theorem dX3_weigh_41 : decode cX3_weigh 41 = .ok (.iload 4, 2) := by decide +kernel
theorem dX3_weigh_43 : decode cX3_weigh 43 = .ok (.ifCond .ne 8, 3) := by decide +kernel
theorem dX3_weigh_46 : decode cX3_weigh 46 = .ok (.iload 5, 2) := by decide +kernel
theorem dX3_weigh_48 : decode cX3_weigh 48 = .ok (.goto 12, 3) := by decide +kernel
theorem dX3_weigh_51 : decode cX3_weigh 51 = .ok (.aload_n 0, 1) := by decide +kernel
theorem dX3_weigh_52 : decode cX3_weigh 52 = .ok (.getfield 37, 3) := by decide +kernel
theorem dX3_weigh_55 : decode cX3_weigh 55 = .ok (.iload 5, 2) := by decide +kernel
theorem dX3_weigh_57 : decode cX3_weigh 57 = .ok (.invokestatic 109, 3) := by decide +kernel
theorem dX3_weigh_60 : decode cX3_weigh 60 = .ok (.putfield 37, 3) := by decide +kernel
theorem dX3_weigh_63 : decode cX3_weigh 63 = .ok (.aload_n 0, 1) := by decide +kernel
theorem dX3_weigh_64 : decode cX3_weigh 64 = .ok (.iload 4, 2) := by decide +kernel
theorem dX3_weigh_66 : decode cX3_weigh 66 = .ok (.ifCond .ne 8, 3) := by decide +kernel
theorem dX3_weigh_69 : decode cX3_weigh 69 = .ok (.iload 5, 2) := by decide +kernel
theorem dX3_weigh_71 : decode cX3_weigh 71 = .ok (.goto 12, 3) := by decide +kernel
theorem dX3_weigh_74 : decode cX3_weigh 74 = .ok (.aload_n 0, 1) := by decide +kernel
theorem dX3_weigh_75 : decode cX3_weigh 75 = .ok (.getfield 40, 3) := by decide +kernel
theorem dX3_weigh_78 : decode cX3_weigh 78 = .ok (.iload 5, 2) := by decide +kernel
theorem dX3_weigh_80 : decode cX3_weigh 80 = .ok (.invokestatic 105, 3) := by decide +kernel
theorem dX3_weigh_83 : decode cX3_weigh 83 = .ok (.putfield 40, 3) := by decide +kernel
theorem dX3_weigh_86 : decode cX3_weigh 86 = .ok (.iinc 4 1, 3) := by decide +kernel
theorem dX3_weigh_89 : decode cX3_weigh 89 = .ok (.goto (-81), 3) := by decide +kernel
theorem dX3_weigh_92 : decode cX3_weigh 92 = .ok (.return_, 1) := by decide +kernel
theorem hd_X3_weigh : yX3_weigh.cls = RX3 ∧ yX3_weigh.cls ≠ "java/lang/invoke/MethodHandle" ∧ yX3_weigh.cls ≠ "java/lang/invoke/VarHandle" ∧ (parseMethodDescriptor yX3_weigh.desc).map (fun d => d.parameters.length) = some 3 := by decide +kernel
abbrev rm_X3_weigh : Room := { frames := 1, cells := 0, slots := 0, locals := 22 }
def F_X3_weigh_83 (i : Nat) (a1 : Int32) (a2 : Int32) (a3 : Int32) (rec_8 : SG → RG → Int32 → Int32 → Int32 → Int32 → Option (SG)) (σ : SG) (ρ : RG) (v1 : Int32) (v2 : Int32) (v3 : Int32) (v4 : Int32) (k1 : Int32) : Option (SG) :=
  nm (s2 σ i 8 k1) fun σ17 =>
  nm (v4 + (1 : Int32)) fun x18 =>
  rec_8 σ17 ρ v1 v2 v3 x18
def F_X3_weigh_60 (i : Nat) (a1 : Int32) (a2 : Int32) (a3 : Int32) (rec_8 : SG → RG → Int32 → Int32 → Int32 → Int32 → Option (SG)) (σ : SG) (ρ : RG) (v1 : Int32) (v2 : Int32) (v3 : Int32) (v4 : Int32) (v5 : Int32) (k1 : Int32) : Option (SG) :=
  nm (s2 σ i 7 k1) fun σ13 =>
  if v4 = 0 then
    F_X3_weigh_83 i a1 a2 a3 rec_8 σ13 ρ v1 v2 v3 v4 v5
  else
    nm (if (σ13 i 8) < v5 then v5 else (σ13 i 8)) fun x15 =>
    F_X3_weigh_83 i a1 a2 a3 rec_8 σ13 ρ v1 v2 v3 v4 x15
def F_X3_weigh_8 (i : Nat) (a1 : Int32) (a2 : Int32) (a3 : Int32) : Nat → SG → RG → Int32 → Int32 → Int32 → Int32 → Option (SG)
  | 0 => fun _ _ _ _ _ _ => none
  | n + 1 => fun σ ρ v1 v2 v3 v4 =>
  if (4 : Int32) ≤ v4 then
    some σ
  else
    bn (F_X3_acrossAt v4 v2 v3 σ ρ) fun r4 =>
    nm (v1 + r4) fun x5 =>
    nm (if (0 : Int32) < x5 then x5 else (0 : Int32)) fun x6 =>
    nm ((σ i 6) + x6) fun x7 =>
    nm (s2 σ i 6 x7) fun σ9 =>
    if v4 = 0 then
      F_X3_weigh_60 i a1 a2 a3 (F_X3_weigh_8 i a1 a2 a3 n) σ9 ρ v1 v2 v3 v4 x6 x6
    else
      nm (if x6 < (σ9 i 7) then x6 else (σ9 i 7)) fun x11 =>
      F_X3_weigh_60 i a1 a2 a3 (F_X3_weigh_8 i a1 a2 a3 n) σ9 ρ v1 v2 v3 v4 x6 x11
def F_X3_weigh (i : Nat) (a1 : Int32) (a2 : Int32) (a3 : Int32) (σ : SG) (ρ : RG) : Option (SG) :=
  nm (s2 σ i 6 (0 : Int32)) fun σ2 =>
  F_X3_weigh_8 i a1 a2 a3 1024 σ2 ρ a1 a2 a3 (0 : Int32)
set_option maxHeartbeats 4000000 in
set_option maxRecDepth 100000 in
theorem w_X3_weigh_83 {i : Nat} {a1 : Int32} {a2 : Int32} {a3 : Int32} {rec_8 : SG → RG → Int32 → Int32 → Int32 → Int32 → Option (SG)} {p : Program} {e : Env} {s : State} {m : MethodId} {args : Array Value} {below : List Frame} {meth : Method} {c : Code} {ρ0 : RG} {σ1 : SG} (C : Cx Y D N ad p s m args meth c cX3_weigh 6 none RX3 wsL_law) (hrec_8 : ∀ (σ : SG) (ρ : RG) (v1 : Int32) (v2 : Int32) (v3 : Int32) (v4 : Int32) (H : Heap) (locs : List Loc) (ls : Array Slot), ρ = ρ0 → Lay N K len ρ → isL N K len ρ i → rec_8 σ ρ v1 v2 v3 v4 = some σ1 → WP Y D N ad K len σ ρ H → va_S (AA N ad s.heap.size) s.heap H locs → lv_has ls 6 [(0, .ref (ad i)), (1, .int v1), (2, .int v2), (3, .int v3), (4, .int v4)] → W p l e rm_X3_weigh s m args below meth c H locs 0 0 (MQ below (QW Y D N ad K len σ1 ρ0 (AA N ad s.heap.size) none) args s 0 0 (AA N ad s.heap.size)) (F0 m 8 ls [])) {σ : SG} {ρ : RG} {v1 : Int32} {v2 : Int32} {v3 : Int32} {v4 : Int32} {k1 : Int32} {H : Heap} {locs : List Loc} {ls : Array Slot} (hρ0 : ρ = ρ0) (hL : Lay N K len ρ) (hi : isL N K len ρ i) (hF : F_X3_weigh_83 i a1 a2 a3 rec_8 σ ρ v1 v2 v3 v4 k1 = some σ1) (hP : WP Y D N ad K len σ ρ H) (hS : va_S (AA N ad s.heap.size) s.heap H locs) (hl : lv_has ls 6 [(0, .ref (ad i)), (1, .int v1), (2, .int v2), (3, .int v3), (4, .int v4)]) : W p l e rm_X3_weigh s m args below meth c H locs 0 0 (MQ below (QW Y D N ad K len σ1 ρ0 (AA N ad s.heap.size) none) args s 0 0 (AA N ad s.heap.size)) (F0 m 83 ls [.int k1, .ref (ad i)]) := by
  have hx := C.1.1
  have hb := C.1.2.1
  unfold F_X3_weigh_83 at hF
  obtain ⟨σ17, eσ17, hF⟩ := nm_1 hF
  refine put_3_8 C hP hS hi.1 hi.2.1 inlX3 mw_642 eσ17 dX3_weigh_83 (fun H locs hP hS => ?_)
  obtain ⟨x18, ex18, hF⟩ := nm_1 hF
  refine lv_iinc (v := x18) (lv' := [(4, .int x18), (0, .ref (ad i)), (1, .int v1), (2, .int v2), (3, .int v3)]) hx hb dX3_weigh_86 hl (k := 4) rfl (by rw [ex18]; first | rfl | decide) (by decide) rfl (fun ls hl => ?_)
  refine lv_goto (tgt := 8) hx hb dX3_weigh_89 (by decide) ?_
  exact hrec_8 _ _ _ _ _ _ _ _ _ hρ0 hL hi hF hP hS (lv_sub hl [1, 2, 3, 4, 0] rfl)
set_option maxHeartbeats 4000000 in
set_option maxRecDepth 100000 in
theorem w_X3_weigh_60 {i : Nat} {a1 : Int32} {a2 : Int32} {a3 : Int32} {rec_8 : SG → RG → Int32 → Int32 → Int32 → Int32 → Option (SG)} {p : Program} {e : Env} {s : State} {m : MethodId} {args : Array Value} {below : List Frame} {meth : Method} {c : Code} {ρ0 : RG} {σ1 : SG} (C : Cx Y D N ad p s m args meth c cX3_weigh 6 none RX3 wsL_law) (hrec_8 : ∀ (σ : SG) (ρ : RG) (v1 : Int32) (v2 : Int32) (v3 : Int32) (v4 : Int32) (H : Heap) (locs : List Loc) (ls : Array Slot), ρ = ρ0 → Lay N K len ρ → isL N K len ρ i → rec_8 σ ρ v1 v2 v3 v4 = some σ1 → WP Y D N ad K len σ ρ H → va_S (AA N ad s.heap.size) s.heap H locs → lv_has ls 6 [(0, .ref (ad i)), (1, .int v1), (2, .int v2), (3, .int v3), (4, .int v4)] → W p l e rm_X3_weigh s m args below meth c H locs 0 0 (MQ below (QW Y D N ad K len σ1 ρ0 (AA N ad s.heap.size) none) args s 0 0 (AA N ad s.heap.size)) (F0 m 8 ls [])) {σ : SG} {ρ : RG} {v1 : Int32} {v2 : Int32} {v3 : Int32} {v4 : Int32} {v5 : Int32} {k1 : Int32} {H : Heap} {locs : List Loc} {ls : Array Slot} (hρ0 : ρ = ρ0) (hL : Lay N K len ρ) (hi : isL N K len ρ i) (hF : F_X3_weigh_60 i a1 a2 a3 rec_8 σ ρ v1 v2 v3 v4 v5 k1 = some σ1) (hP : WP Y D N ad K len σ ρ H) (hS : va_S (AA N ad s.heap.size) s.heap H locs) (hl : lv_has ls 6 [(0, .ref (ad i)), (1, .int v1), (2, .int v2), (3, .int v3), (4, .int v4), (5, .int v5)]) : W p l e rm_X3_weigh s m args below meth c H locs 0 0 (MQ below (QW Y D N ad K len σ1 ρ0 (AA N ad s.heap.size) none) args s 0 0 (AA N ad s.heap.size)) (F0 m 60 ls [.int k1, .ref (ad i)]) := by
  have hx := C.1.1
  have hb := C.1.2.1
  unfold F_X3_weigh_60 at hF
  obtain ⟨σ13, eσ13, hF⟩ := nm_1 hF
  refine put_3_7 C hP hS hi.1 hi.2.1 inlX3 mw_641 eσ13 dX3_weigh_60 (fun H locs hP hS => ?_)
  refine lv_aload_n hx hb dX3_weigh_63 rfl (lv_at hl 0 rfl) ?_
  refine lv_iload hx hb dX3_weigh_64 (lv_at hl 4 rfl) ?_
  refine lv_if_ne (tgt := 74) hx hb dX3_weigh_66 (by decide) (fun c_14 => ?_) (fun c_14 => ?_) -- COND 14 rcases (Decidable.em (v4 = 0)).symm with c_14 | c_14
  · have hF := ite_f hF c_14
    refine lv_aload_n hx hb dX3_weigh_74 rfl (lv_at hl 0 rfl) ?_
    refine get_3_8 C hP hi.1 hi.2.1 inlX3 mw_642 dX3_weigh_75 ?_
    refine lv_iload hx hb dX3_weigh_78 (lv_at hl 5 rfl) ?_
    refine va_mmax hx hb (C.1.2.2.1.trans hl.1.symm) C.1.2.2.2.1 (C.1.2.2.2.2 _ mw_614) (C.1.2.2.2.2 _ mw_233) (C.1.2.2.2.2 _ mw_234) (C.1.2.2.2.2 _ mw_235) (Nat.le_of_ble_eq_true rfl) (Nat.le_of_ble_eq_true rfl) (Nat.zero_le _) (Nat.zero_le _) dX3_weigh_80 ?_
    obtain ⟨x15, ex15, hF⟩ := nm_1 hF
    refine x_top ex15 ?_
    exact w_X3_weigh_83 C hrec_8 hρ0 hL hi hF hP hS (lv_sub hl [0, 1, 2, 3, 4] rfl)
  · have hF := ite_t hF c_14
    refine lv_iload hx hb dX3_weigh_69 (lv_at hl 5 rfl) ?_
    refine lv_goto (tgt := 83) hx hb dX3_weigh_71 (by decide) ?_
    exact w_X3_weigh_83 C hrec_8 hρ0 hL hi hF hP hS (lv_sub hl [0, 1, 2, 3, 4] rfl)
set_option maxHeartbeats 4000000 in
set_option maxRecDepth 100000 in
theorem w_X3_weigh_8 {i : Nat} {a1 : Int32} {a2 : Int32} {a3 : Int32} {p : Program} {e : Env} {s : State} {m : MethodId} {args : Array Value} {below : List Frame} {meth : Method} {c : Code} {ρ0 : RG} {σ1 : SG} (C : Cx Y D N ad p s m args meth c cX3_weigh 6 none RX3 wsL_law) : ∀ (n : Nat) (σ : SG) (ρ : RG) (v1 : Int32) (v2 : Int32) (v3 : Int32) (v4 : Int32) (H : Heap) (locs : List Loc) (ls : Array Slot), ρ = ρ0 → Lay N K len ρ → isL N K len ρ i → F_X3_weigh_8 i a1 a2 a3 n σ ρ v1 v2 v3 v4 = some σ1 → WP Y D N ad K len σ ρ H → va_S (AA N ad s.heap.size) s.heap H locs → lv_has ls 6 [(0, .ref (ad i)), (1, .int v1), (2, .int v2), (3, .int v3), (4, .int v4)] → W p l e rm_X3_weigh s m args below meth c H locs 0 0 (MQ below (QW Y D N ad K len σ1 ρ0 (AA N ad s.heap.size) none) args s 0 0 (AA N ad s.heap.size)) (F0 m 8 ls []) := by
  have hx := C.1.1
  have hb := C.1.2.1
  intro n
  induction n with
  | zero => intro σ ρ v1 v2 v3 v4 H locs ls hρ0 hL hi hF; cases hF
  | succ n ih =>
    intro σ ρ v1 v2 v3 v4 H locs ls hρ0 hL hi hF hP hS hl
    unfold F_X3_weigh_8 at hF
    refine lv_iload hx hb dX3_weigh_8 (lv_at hl 4 rfl) ?_
    refine lv_iconst (v := 4) hx hb dX3_weigh_10 (by decide) ?_
    refine lv_icmp_ge (tgt := 92) hx hb dX3_weigh_11 (by decide) (fun c_3 => ?_) (fun c_3 => ?_) -- COND 3 by_cases c_3 : (4 : Int32) ≤ v4
    · have hF := ite_t hF c_3
      obtain rfl := ret_1 hF
      subst hρ0
      exact x_vret rfl C hP hS dX3_weigh_92
    · have hF := ite_f hF c_3
      refine lv_iconst (v := 0) hx hb dX3_weigh_14 (by decide) ?_
      refine lv_iload_n hx hb dX3_weigh_15 rfl (lv_at hl 1 rfl) ?_
      refine lv_iload hx hb dX3_weigh_16 (lv_at hl 4 rfl) ?_
      refine lv_iload_n hx hb dX3_weigh_18 rfl (lv_at hl 2 rfl) ?_
      refine lv_iload_n hx hb dX3_weigh_19 rfl (lv_at hl 3 rfl) ?_
      obtain ⟨r4, hq4, hF⟩ := bn_1 hF
      refine x_callS C hP hS (c_X3_acrossAt hL hq4) (va_cwS 3 C.1.2.2.2.2 (gdS mw_510 mw_511 mw_31 mw_512) rfl rfl rfl hd_X3_acrossAt.2 ⟨Nat.le_of_ble_eq_true rfl, Nat.le_of_ble_eq_true rfl⟩) rfl rfl hl.1 (Nat.le_of_ble_eq_true rfl) ⟨Nat.zero_le _, Nat.zero_le _⟩ dX3_weigh_20 (fun H locs hP hS => ?_)
      refine lv_iadd hx hb dX3_weigh_23 ?_
      obtain ⟨x5, ex5, hF⟩ := nm_1 hF
      refine x_top ex5 ?_
      refine va_mmax hx hb (C.1.2.2.1.trans hl.1.symm) C.1.2.2.2.1 (C.1.2.2.2.2 _ mw_614) (C.1.2.2.2.2 _ mw_233) (C.1.2.2.2.2 _ mw_234) (C.1.2.2.2.2 _ mw_235) (Nat.le_of_ble_eq_true rfl) (Nat.le_of_ble_eq_true rfl) (Nat.zero_le _) (Nat.zero_le _) dX3_weigh_24 ?_
      obtain ⟨x6, ex6, hF⟩ := nm_1 hF
      refine x_top ex6 ?_
      refine lv_istore (lv' := [(5, .int x6), (0, .ref (ad i)), (1, .int v1), (2, .int v2), (3, .int v3), (4, .int v4)]) hx hb dX3_weigh_27 hl (by decide) rfl (fun ls hl => ?_)
      refine lv_aload_n hx hb dX3_weigh_29 rfl (lv_at hl 1 rfl) ?_
      refine lv_dup hx hb dX3_weigh_30 rfl ?_
      refine get_3_6 C hP hi.1 hi.2.1 inlX3 mw_640 dX3_weigh_31 ?_
      refine lv_iload hx hb dX3_weigh_34 (lv_at hl 0 rfl) ?_
      refine lv_iadd hx hb dX3_weigh_36 ?_
      obtain ⟨x7, ex7, hF⟩ := nm_1 hF
      refine x_top ex7 ?_
      obtain ⟨σ9, eσ9, hF⟩ := nm_1 hF
      refine put_3_6 C hP hS hi.1 hi.2.1 inlX3 mw_640 eσ9 dX3_weigh_37 (fun H locs hP hS => ?_)
      refine lv_aload_n hx hb dX3_weigh_40 rfl (lv_at hl 1 rfl) ?_
      refine lv_iload hx hb dX3_weigh_41 (lv_at hl 5 rfl) ?_
      refine lv_if_ne (tgt := 51) hx hb dX3_weigh_43 (by decide) (fun c_10 => ?_) (fun c_10 => ?_) -- COND 10 rcases (Decidable.em (v4 = 0)).symm with c_10 | c_10
      · have hF := ite_f hF c_10
        refine lv_aload_n hx hb dX3_weigh_51 rfl (lv_at hl 1 rfl) ?_
        refine get_3_7 C hP hi.1 hi.2.1 inlX3 mw_641 dX3_weigh_52 ?_
        refine lv_iload hx hb dX3_weigh_55 (lv_at hl 0 rfl) ?_
        refine va_mmin hx hb (C.1.2.2.1.trans hl.1.symm) C.1.2.2.2.1 (C.1.2.2.2.2 _ mw_613) (C.1.2.2.2.2 _ mw_237) (C.1.2.2.2.2 _ mw_234) (C.1.2.2.2.2 _ mw_238) (Nat.le_of_ble_eq_true rfl) (Nat.le_of_ble_eq_true rfl) (Nat.zero_le _) (Nat.zero_le _) dX3_weigh_57 ?_
        obtain ⟨x11, ex11, hF⟩ := nm_1 hF
        refine x_top ex11 ?_
        exact w_X3_weigh_60 C ih hρ0 hL hi hF hP hS (lv_sub hl [1, 2, 3, 4, 5, 0] rfl)
      · have hF := ite_t hF c_10
        refine lv_iload hx hb dX3_weigh_46 (lv_at hl 0 rfl) ?_
        refine lv_goto (tgt := 60) hx hb dX3_weigh_48 (by decide) ?_
        exact w_X3_weigh_60 C ih hρ0 hL hi hF hP hS (lv_sub hl [1, 2, 3, 4, 5, 0] rfl)
set_option maxHeartbeats 4000000 in
set_option maxRecDepth 100000 in
theorem w_X3_weigh_0 {i : Nat} {a1 : Int32} {a2 : Int32} {a3 : Int32} {p : Program} {e : Env} {s : State} {m : MethodId} {args : Array Value} {below : List Frame} {meth : Method} {c : Code} {ρ0 : RG} {σ1 : SG} (C : Cx Y D N ad p s m args meth c cX3_weigh 6 none RX3 wsL_law) {σ : SG} {ρ : RG} {H : Heap} {locs : List Loc} {ls : Array Slot} (hρ0 : ρ = ρ0) (hL : Lay N K len ρ) (hi : isL N K len ρ i) (hF : F_X3_weigh i a1 a2 a3 σ ρ = some σ1) (hP : WP Y D N ad K len σ ρ H) (hS : va_S (AA N ad s.heap.size) s.heap H locs) (hl : lv_has ls 6 [(0, .ref (ad i)), (1, .int a1), (2, .int a2), (3, .int a3)]) : W p l e rm_X3_weigh s m args below meth c H locs 0 0 (MQ below (QW Y D N ad K len σ1 ρ0 (AA N ad s.heap.size) none) args s 0 0 (AA N ad s.heap.size)) (F0 m 0 ls []) := by
  have hx := C.1.1
  have hb := C.1.2.1
  unfold F_X3_weigh at hF
  refine lv_aload_n hx hb dX3_weigh_0 rfl (lv_at hl 0 rfl) ?_
  refine lv_iconst (v := 0) hx hb dX3_weigh_1 (by decide) ?_
  obtain ⟨σ2, eσ2, hF⟩ := nm_1 hF
  refine put_3_6 C hP hS hi.1 hi.2.1 inlX3 mw_640 eσ2 dX3_weigh_2 (fun H locs hP hS => ?_)
  refine lv_iconst (v := 0) hx hb dX3_weigh_5 (by decide) ?_
  refine lv_istore (lv' := [(4, .int (0 : Int32)), (0, .ref (ad i)), (1, .int a1), (2, .int a2), (3, .int a3)]) hx hb dX3_weigh_6 hl (by decide) rfl (fun ls hl => ?_)
  exact w_X3_weigh_8 C 1024 _ _ _ _ _ _ _ _ _ hρ0 hL hi hF hP hS (lv_sub hl [1, 2, 3, 4, 0] rfl)
set_option maxHeartbeats 4000000 in
set_option maxRecDepth 100000 in
theorem c_X3_weigh {i : Nat} {a1 : Int32} {a2 : Int32} {a3 : Int32} {σ1 : SG} {σ : SG} {ρ : RG} (hL : Lay N K len ρ) (hi : isL N K len ρ i) (hF : F_X3_weigh i a1 a2 a3 σ ρ = some σ1) : MT l Y D N ad K len yX3_weigh (Cond.code yX3_weigh cX3_weigh 6 none :: wsL_law) rm_X3_weigh [.ref (ad i), .int a1, .int a2, .int a3] σ ρ none σ1 ρ := by
  refine mt_of (cc := cX3_weigh) (nL := 6) (ret := none) (by decide) (Nat.le_of_ble_eq_true rfl) ?_
  intro p e s m args below meth c ls C hnm hP hS hl
  exact w_X3_weigh_0 C rfl hL hi hF hP hS hl

/-! CutCrooked$Loaf.boolean tryCut(CutCrooked$Cutter, int, CutCrooked$Board, boolean, boolean);  -/
theorem dX3_tryCut_0 : decode cX3_tryCut 0 = .ok (.aload_n 0, 1) := by decide +kernel
theorem dX3_tryCut_1 : decode cX3_tryCut 1 = .ok (.getfield 19, 3) := by decide +kernel
theorem dX3_tryCut_4 : decode cX3_tryCut 4 = .ok (.istore 6, 2) := by decide +kernel
theorem dX3_tryCut_6 : decode cX3_tryCut 6 = .ok (.aload_n 0, 1) := by decide +kernel
theorem dX3_tryCut_7 : decode cX3_tryCut 7 = .ok (.getfield 22, 3) := by decide +kernel
theorem dX3_tryCut_10 : decode cX3_tryCut 10 = .ok (.istore 7, 2) := by decide +kernel
theorem dX3_tryCut_12 : decode cX3_tryCut 12 = .ok (.aload_n 0, 1) := by decide +kernel
theorem dX3_tryCut_13 : decode cX3_tryCut 13 = .ok (.getfield 25, 3) := by decide +kernel
theorem dX3_tryCut_16 : decode cX3_tryCut 16 = .ok (.istore 8, 2) := by decide +kernel
theorem dX3_tryCut_18 : decode cX3_tryCut 18 = .ok (.aload_n 0, 1) := by decide +kernel
theorem dX3_tryCut_19 : decode cX3_tryCut 19 = .ok (.getfield 31, 3) := by decide +kernel
theorem dX3_tryCut_22 : decode cX3_tryCut 22 = .ok (.istore 9, 2) := by decide +kernel
theorem dX3_tryCut_24 : decode cX3_tryCut 24 = .ok (.aload_n 0, 1) := by decide +kernel
theorem dX3_tryCut_25 : decode cX3_tryCut 25 = .ok (.aload_n 1, 1) := by decide +kernel
theorem dX3_tryCut_26 : decode cX3_tryCut 26 = .ok (.iload_n 2, 1) := by decide +kernel
theorem dX3_tryCut_27 : decode cX3_tryCut 27 = .ok (.invokevirtual 57, 3) := by decide +kernel
theorem dX3_tryCut_30 : decode cX3_tryCut 30 = .ok (.aload_n 3, 1) := by decide +kernel
theorem dX3_tryCut_31 : decode cX3_tryCut 31 = .ok (.iconst 0, 1) := by decide +kernel
theorem dX3_tryCut_32 : decode cX3_tryCut 32 = .ok (.aload_n 0, 1) := by decide +kernel
theorem dX3_tryCut_33 : decode cX3_tryCut 33 = .ok (.getfield 9, 3) := by decide +kernel
theorem dX3_tryCut_36 : decode cX3_tryCut 36 = .ok (.iload 4, 2) := by decide +kernel
theorem dX3_tryCut_38 : decode cX3_tryCut 38 = .ok (.invokevirtual 61, 3) := by decide +kernel
theorem dX3_tryCut_41 : decode cX3_tryCut 41 = .ok (.istore 10, 2) := by decide +kernel
theorem dX3_tryCut_43 : decode cX3_tryCut 43 = .ok (.aload_n 3, 1) := by decide +kernel
theorem dX3_tryCut_44 : decode cX3_tryCut 44 = .ok (.iconst 1, 1) := by decide +kernel
theorem dX3_tryCut_45 : decode cX3_tryCut 45 = .ok (.aload_n 0, 1) := by decide +kernel
theorem dX3_tryCut_46 : decode cX3_tryCut 46 = .ok (.getfield 9, 3) := by decide +kernel
theorem dX3_tryCut_49 : decode cX3_tryCut 49 = .ok (.iload 4, 2) := by decide +kernel
theorem dX3_tryCut_51 : decode cX3_tryCut 51 = .ok (.invokevirtual 61, 3) := by decide +kernel
theorem dX3_tryCut_54 : decode cX3_tryCut 54 = .ok (.istore 11, 2) := by decide +kernel
theorem dX3_tryCut_56 : decode cX3_tryCut 56 = .ok (.aload_n 1, 1) := by decide +kernel
theorem dX3_tryCut_57 : decode cX3_tryCut 57 = .ok (.aload_n 0, 1) := by decide +kernel
theorem dX3_tryCut_58 : decode cX3_tryCut 58 = .ok (.invokevirtual 67, 3) := by decide +kernel
theorem dX3_tryCut_61 : decode cX3_tryCut 61 = .ok (.aload_n 1, 1) := by decide +kernel
theorem dX3_tryCut_62 : decode cX3_tryCut 62 = .ok (.iload 4, 2) := by decide +kernel
theorem dX3_tryCut_64 : decode cX3_tryCut 64 = .ok (.ifCond .eq 12, 3) := by decide +kernel
theorem dX3_tryCut_67 : decode cX3_tryCut 67 = .ok (.aload_n 1, 1) := by decide +kernel
theorem dX3_tryCut_68 : decode cX3_tryCut 68 = .ok (.getfield 73, 3) := by decide +kernel
theorem dX3_tryCut_71 : decode cX3_tryCut 71 = .ok (.iconst 2, 1) := by decide +kernel
theorem dX3_tryCut_72 : decode cX3_tryCut 72 = .ok (.idiv, 1) := by decide +kernel
theorem dX3_tryCut_73 : decode cX3_tryCut 73 = .ok (.goto 7, 3) := by decide +kernel
theorem dX3_tryCut_76 : decode cX3_tryCut 76 = .ok (.aload_n 1, 1) := by decide +kernel
theorem dX3_tryCut_77 : decode cX3_tryCut 77 = .ok (.getfield 73, 3) := by decide +kernel
theorem dX3_tryCut_80 : decode cX3_tryCut 80 = .ok (.aload_n 0, 1) := by decide +kernel
theorem dX3_tryCut_81 : decode cX3_tryCut 81 = .ok (.invokevirtual 76, 3) := by decide +kernel
theorem dX3_tryCut_84 : decode cX3_tryCut 84 = .ok (.iload 10, 2) := by decide +kernel
theorem dX3_tryCut_86 : decode cX3_tryCut 86 = .ok (.iadd, 1) := by decide +kernel
theorem dX3_tryCut_87 : decode cX3_tryCut 87 = .ok (.invokestatic 80, 3) := by decide +kernel
theorem dX3_tryCut_90 : decode cX3_tryCut 90 = .ok (.istore 12, 2) := by decide +kernel
theorem dX3_tryCut_92 : decode cX3_tryCut 92 = .ok (.aload_n 1, 1) := by decide +kernel
theorem dX3_tryCut_93 : decode cX3_tryCut 93 = .ok (.iload 4, 2) := by decide +kernel
theorem dX3_tryCut_95 : decode cX3_tryCut 95 = .ok (.ifCond .eq 12, 3) := by decide +kernel
theorem dX3_tryCut_98 : decode cX3_tryCut 98 = .ok (.aload_n 1, 1) := by decide +kernel
theorem dX3_tryCut_99 : decode cX3_tryCut 99 = .ok (.getfield 83, 3) := by decide +kernel
theorem dX3_tryCut_102 : decode cX3_tryCut 102 = .ok (.iconst 2, 1) := by decide +kernel
theorem dX3_tryCut_103 : decode cX3_tryCut 103 = .ok (.idiv, 1) := by decide +kernel
theorem dX3_tryCut_104 : decode cX3_tryCut 104 = .ok (.goto 7, 3) := by decide +kernel
theorem dX3_tryCut_107 : decode cX3_tryCut 107 = .ok (.aload_n 1, 1) := by decide +kernel
theorem dX3_tryCut_108 : decode cX3_tryCut 108 = .ok (.getfield 83, 3) := by decide +kernel
theorem dX3_tryCut_111 : decode cX3_tryCut 111 = .ok (.aload_n 0, 1) := by decide +kernel
theorem dX3_tryCut_112 : decode cX3_tryCut 112 = .ok (.invokevirtual 86, 3) := by decide +kernel
theorem dX3_tryCut_115 : decode cX3_tryCut 115 = .ok (.iload 11, 2) := by decide +kernel
theorem dX3_tryCut_117 : decode cX3_tryCut 117 = .ok (.iadd, 1) := by decide +kernel
theorem dX3_tryCut_118 : decode cX3_tryCut 118 = .ok (.invokestatic 80, 3) := by decide +kernel
theorem dX3_tryCut_121 : decode cX3_tryCut 121 = .ok (.istore 13, 2) := by decide +kernel
theorem dX3_tryCut_123 : decode cX3_tryCut 123 = .ok (.aload_n 0, 1) := by decide +kernel
theorem dX3_tryCut_124 : decode cX3_tryCut 124 = .ok (.iload_n 2, 1) := by decide +kernel
theorem dX3_tryCut_125 : decode cX3_tryCut 125 = .ok (.aload_n 0, 1) := by decide +kernel
theorem dX3_tryCut_126 : decode cX3_tryCut 126 = .ok (.getfield 22, 3) := by decide +kernel
theorem dX3_tryCut_129 : decode cX3_tryCut 129 = .ok (.iload 12, 2) := by decide +kernel
theorem dX3_tryCut_131 : decode cX3_tryCut 131 = .ok (.isub, 1) := by decide +kernel
theorem dX3_tryCut_132 : decode cX3_tryCut 132 = .ok (.aload_n 0, 1) := by decide +kernel
theorem dX3_tryCut_133 : decode cX3_tryCut 133 = .ok (.getfield 25, 3) := by decide +kernel
theorem dX3_tryCut_136 : decode cX3_tryCut 136 = .ok (.iload 13, 2) := by decide +kernel
theorem dX3_tryCut_138 : decode cX3_tryCut 138 = .ok (.isub, 1) := by decide +kernel
theorem dX3_tryCut_139 : decode cX3_tryCut 139 = .ok (.invokevirtual 89, 3) := by decide +kernel
theorem dX3_tryCut_142 : decode cX3_tryCut 142 = .ok (.aload_n 0, 1) := by decide +kernel
theorem dX3_tryCut_143 : decode cX3_tryCut 143 = .ok (.dup, 1) := by decide +kernel
theorem dX3_tryCut_144 : decode cX3_tryCut 144 = .ok (.getfield 19, 3) := by decide +kernel
theorem dX3_tryCut_147 : decode cX3_tryCut 147 = .ok (.iload_n 2, 1) := by decide +kernel
theorem dX3_tryCut_148 : decode cX3_tryCut 148 = .ok (.isub, 1) := by decide +kernel
theorem dX3_tryCut_149 : decode cX3_tryCut 149 = .ok (.putfield 19, 3) := by decide +kernel
theorem dX3_tryCut_152 : decode cX3_tryCut 152 = .ok (.aload_n 0, 1) := by decide +kernel
theorem dX3_tryCut_153 : decode cX3_tryCut 153 = .ok (.iload 12, 2) := by decide +kernel
theorem dX3_tryCut_155 : decode cX3_tryCut 155 = .ok (.putfield 22, 3) := by decide +kernel
theorem dX3_tryCut_158 : decode cX3_tryCut 158 = .ok (.aload_n 0, 1) := by decide +kernel
theorem dX3_tryCut_159 : decode cX3_tryCut 159 = .ok (.iload 13, 2) := by decide +kernel
theorem dX3_tryCut_161 : decode cX3_tryCut 161 = .ok (.putfield 25, 3) := by decide +kernel
theorem dX3_tryCut_164 : decode cX3_tryCut 164 = .ok (.iload 5, 2) := by decide +kernel
theorem dX3_tryCut_166 : decode cX3_tryCut 166 = .ok (.ifCond .ne 14, 3) := by decide +kernel
theorem dX3_tryCut_169 : decode cX3_tryCut 169 = .ok (.aload_n 0, 1) := by decide +kernel
theorem dX3_tryCut_170 : decode cX3_tryCut 170 = .ok (.invokevirtual 93, 3) := by decide +kernel
theorem dX3_tryCut_173 : decode cX3_tryCut 173 = .ok (.aload_n 3, 1) := by decide +kernel
theorem dX3_tryCut_174 : decode cX3_tryCut 174 = .ok (.getfield 96, 3) := by decide +kernel
theorem dX3_tryCut_177 : decode cX3_tryCut 177 = .ok (.if_icmp .lt 15, 3) := by decide +kernel
theorem dX3_tryCut_180 : decode cX3_tryCut 180 = .ok (.aload_n 0, 1) := by decide +kernel
theorem dX3_tryCut_181 : decode cX3_tryCut 181 = .ok (.dup, 1) := by decide +kernel
theorem dX3_tryCut_182 : decode cX3_tryCut 182 = .ok (.getfield 28, 3) := by decide +kernel
theorem dX3_tryCut_185 : decode cX3_tryCut 185 = .ok (.iconst 1, 1) := by decide +kernel
theorem dX3_tryCut_186 : decode cX3_tryCut 186 = .ok (.iadd, 1) := by decide +kernel
theorem dX3_tryCut_187 : decode cX3_tryCut 187 = .ok (.putfield 28, 3) := by decide +kernel
theorem dX3_tryCut_190 : decode cX3_tryCut 190 = .ok (.iconst 1, 1) := by decide +kernel
theorem dX3_tryCut_191 : decode cX3_tryCut 191 = .ok (.ireturn, 1) := by decide +kernel
theorem dX3_tryCut_192 : decode cX3_tryCut 192 = .ok (.aload_n 0, 1) := by decide +kernel
theorem dX3_tryCut_193 : decode cX3_tryCut 193 = .ok (.iload 6, 2) := by decide +kernel
theorem dX3_tryCut_195 : decode cX3_tryCut 195 = .ok (.putfield 19, 3) := by decide +kernel
theorem dX3_tryCut_198 : decode cX3_tryCut 198 = .ok (.aload_n 0, 1) := by decide +kernel
theorem dX3_tryCut_199 : decode cX3_tryCut 199 = .ok (.iload 7, 2) := by decide +kernel
theorem dX3_tryCut_201 : decode cX3_tryCut 201 = .ok (.putfield 22, 3) := by decide +kernel
theorem dX3_tryCut_204 : decode cX3_tryCut 204 = .ok (.aload_n 0, 1) := by decide +kernel
theorem dX3_tryCut_205 : decode cX3_tryCut 205 = .ok (.iload 8, 2) := by decide +kernel
theorem dX3_tryCut_207 : decode cX3_tryCut 207 = .ok (.putfield 25, 3) := by decide +kernel
theorem dX3_tryCut_210 : decode cX3_tryCut 210 = .ok (.aload_n 0, 1) := by decide +kernel
theorem dX3_tryCut_211 : decode cX3_tryCut 211 = .ok (.iload 9, 2) := by decide +kernel
theorem dX3_tryCut_213 : decode cX3_tryCut 213 = .ok (.putfield 31, 3) := by decide +kernel
theorem dX3_tryCut_216 : decode cX3_tryCut 216 = .ok (.iconst 0, 1) := by decide +kernel
theorem dX3_tryCut_217 : decode cX3_tryCut 217 = .ok (.ireturn, 1) := by decide +kernel
theorem hd_X3_tryCut : yX3_tryCut.cls = RX3 ∧ yX3_tryCut.cls ≠ "java/lang/invoke/MethodHandle" ∧ yX3_tryCut.cls ≠ "java/lang/invoke/VarHandle" ∧ (parseMethodDescriptor yX3_tryCut.desc).map (fun d => d.parameters.length) = some 5 := by decide +kernel
abbrev rm_X3_tryCut : Room := { frames := 4, cells := 0, slots := 0, locals := 96 }
def F_X3_tryCut_180 (N : Nat) (K len : Nat → Nat) (i : Nat) (z : Nat) (a2 : Int32) (a4 : Int32) (a5 : Int32) (σ : SG) (ρ : RG) : Option (Int32 × SG) :=
  nm ((σ i 4) + (1 : Int32)) fun x24 =>
  nm (s2 σ i 4 x24) fun σ26 =>
  some ((1 : Int32), σ26)
def F_X3_tryCut_111 (N : Nat) (K len : Nat → Nat) (i : Nat) (z : Nat) (a2 : Int32) (a4 : Int32) (a5 : Int32) (σ : SG) (ρ : RG) (v2 : Int32) (v5 : Int32) (v6 : Int32) (v7 : Int32) (v8 : Int32) (v9 : Int32) (v11 : Int32) (v12 : Int32) (q0 : Nat) (k1 : Int32) : Option (Int32 × SG) :=
  gd (isC N K q0) <|
  bn (F_v_sideBy N K len q0 k1 i σ ρ) fun r10 =>
  nm (r10 + v11) fun x11 =>
  bn (F_X3_held x11 σ ρ) fun r12 =>
  nm ((σ i 2) - v12) fun x13 =>
  nm ((σ i 3) - r12) fun x14 =>
  bn (F_X3_weigh i v2 x13 x14 σ ρ) fun σ15 =>
  nm ((σ15 i 1) - v2) fun x16 =>
  nm (s2 σ15 i 1 x16) fun σ18 =>
  nm (s2 σ18 i 2 v12) fun σ20 =>
  nm (s2 σ20 i 3 r12) fun σ22 =>
  if v5 = 0 then
    bn (F_X3_leastCorner i σ22 ρ) fun r27 =>
    if r27 < (σ22 5 1) then
      nm (s2 σ22 i 1 v6) fun σ30 =>
      nm (s2 σ30 i 2 v7) fun σ32 =>
      nm (s2 σ32 i 3 v8) fun σ34 =>
      nm (s2 σ34 i 5 v9) fun σ36 =>
      some ((0 : Int32), σ36)
    else
      F_X3_tryCut_180 N K len i z a2 a4 a5 σ22 ρ
  else
    F_X3_tryCut_180 N K len i z a2 a4 a5 σ22 ρ
def F_X3_tryCut_80 (N : Nat) (K len : Nat → Nat) (i : Nat) (z : Nat) (a2 : Int32) (a4 : Int32) (a5 : Int32) (σ : SG) (ρ : RG) (r1 : Nat) (v2 : Int32) (v4 : Int32) (v5 : Int32) (v6 : Int32) (v7 : Int32) (v8 : Int32) (v9 : Int32) (v10 : Int32) (v11 : Int32) (q0 : Nat) (k1 : Int32) : Option (Int32 × SG) :=
  gd (isC N K r1) <|
  gd (isC N K q0) <|
  bn (F_v_upBy N K len q0 k1 i σ ρ) fun r6 =>
  nm (r6 + v10) fun x7 =>
  bn (F_X3_held x7 σ ρ) fun r8 =>
  if v4 = 0 then
    F_X3_tryCut_111 N K len i z a2 a4 a5 σ ρ v2 v5 v6 v7 v8 v9 v11 r8 r1 (σ r1 3)
  else
    nm ((σ r1 3) / (2 : Int32)) fun x37 =>
    F_X3_tryCut_111 N K len i z a2 a4 a5 σ ρ v2 v5 v6 v7 v8 v9 v11 r8 r1 x37
def F_X3_tryCut (N : Nat) (K len : Nat → Nat) (i : Nat) (z : Nat) (a2 : Int32) (a4 : Int32) (a5 : Int32) (σ : SG) (ρ : RG) : Option (Int32 × SG) :=
  bn (F_X3_noteStart N K len i z a2 σ ρ) fun σ1 =>
  bn (F_X0_added (0 : Int32) (i + 1) 6 a4 σ1 ρ) fun r2 =>
  bn (F_X0_added (1 : Int32) (i + 1) 6 a4 σ1 ρ) fun r3 =>
  bn (F_v_prepare N K len z i σ1 ρ) fun σ4 =>
  if a4 = 0 then
    F_X3_tryCut_80 N K len i z a2 a4 a5 σ4 ρ z a2 a4 a5 (σ i 1) (σ i 2) (σ i 3) (σ i 5) r2 r3 z (σ4 z 2)
  else
    nm ((σ4 z 2) / (2 : Int32)) fun x38 =>
    F_X3_tryCut_80 N K len i z a2 a4 a5 σ4 ρ z a2 a4 a5 (σ i 1) (σ i 2) (σ i 3) (σ i 5) r2 r3 z x38
set_option maxHeartbeats 4000000 in
set_option maxRecDepth 100000 in
theorem w_X3_tryCut_180 {N : Nat} {K len : Nat → Nat} {i : Nat} {z : Nat} {a2 : Int32} {a4 : Int32} {a5 : Int32} {p : Program} {e : Env} {s : State} {m : MethodId} {args : Array Value} {below : List Frame} {meth : Method} {c : Code} {ρ0 : RG} {r : Int32} {σ1 : SG} (C : Cx Y D N ad p s m args meth c cX3_tryCut 14 (some .boolean) RX3 wsL_law) {σ : SG} {ρ : RG} {H : Heap} {locs : List Loc} {ls : Array Slot} (hρ0 : ρ = ρ0) (hL : Lay N K len ρ) (hi : isL N K len ρ i) (hz : isC N K z = true) (hF : F_X3_tryCut_180 N K len i z a2 a4 a5 σ ρ = some (r, σ1)) (hP : WP Y D N ad K len σ ρ H) (hS : va_S (AA N ad s.heap.size) s.heap H locs) (hl : lv_has ls 14 [(0, .ref (ad i))]) : W p l e rm_X3_tryCut s m args below meth c H locs 0 0 (MQ below (QW Y D N ad K len σ1 ρ0 (AA N ad s.heap.size) (some (.int r))) args s 0 0 (AA N ad s.heap.size)) (F0 m 180 ls []) := by
  have hx := C.1.1
  have hb := C.1.2.1
  unfold F_X3_tryCut_180 at hF
  refine lv_aload_n hx hb dX3_tryCut_180 rfl (lv_at hl 0 rfl) ?_
  refine lv_dup hx hb dX3_tryCut_181 rfl ?_
  refine get_3_4 C hP hi.1 hi.2.1 inlX3 mw_71 dX3_tryCut_182 ?_
  refine lv_iconst (v := 1) hx hb dX3_tryCut_185 (by decide) ?_
  refine lv_iadd hx hb dX3_tryCut_186 ?_
  obtain ⟨x24, ex24, hF⟩ := nm_1 hF
  refine x_top ex24 ?_
  obtain ⟨σ26, eσ26, hF⟩ := nm_1 hF
  refine put_3_4 C hP hS hi.1 hi.2.1 inlX3 mw_71 eσ26 dX3_tryCut_187 (fun H locs hP hS => ?_)
  refine lv_iconst (v := 1) hx hb dX3_tryCut_190 (by decide) ?_
  obtain ⟨rfl, rfl⟩ := ret_2 hF
  subst hρ0
  exact x_zret rfl rfl C hP hS dX3_tryCut_191
set_option maxHeartbeats 4000000 in
set_option maxRecDepth 100000 in
theorem w_X3_tryCut_111 {N : Nat} {K len : Nat → Nat} {i : Nat} {z : Nat} {a2 : Int32} {a4 : Int32} {a5 : Int32} {p : Program} {e : Env} {s : State} {m : MethodId} {args : Array Value} {below : List Frame} {meth : Method} {c : Code} {ρ0 : RG} {r : Int32} {σ1 : SG} (C : Cx Y D N ad p s m args meth c cX3_tryCut 14 (some .boolean) RX3 wsL_law) {σ : SG} {ρ : RG} {v2 : Int32} {v5 : Int32} {v6 : Int32} {v7 : Int32} {v8 : Int32} {v9 : Int32} {v11 : Int32} {v12 : Int32} {q0 : Nat} {k1 : Int32} {H : Heap} {locs : List Loc} {ls : Array Slot} (hρ0 : ρ = ρ0) (hL : Lay N K len ρ) (hi : isL N K len ρ i) (hz : isC N K z = true) (hF : F_X3_tryCut_111 N K len i z a2 a4 a5 σ ρ v2 v5 v6 v7 v8 v9 v11 v12 q0 k1 = some (r, σ1)) (hP : WP Y D N ad K len σ ρ H) (hS : va_S (AA N ad s.heap.size) s.heap H locs) (hl : lv_has ls 14 [(0, .ref (ad i)), (2, .int v2), (3, .ref (ad 5)), (5, .int v5), (6, .int v6), (7, .int v7), (8, .int v8), (9, .int v9), (11, .int v11), (12, .int v12)]) : W p l e rm_X3_tryCut s m args below meth c H locs 0 0 (MQ below (QW Y D N ad K len σ1 ρ0 (AA N ad s.heap.size) (some (.int r))) args s 0 0 (AA N ad s.heap.size)) (F0 m 111 ls [.int k1, .ref (ad q0)]) := by
  have hx := C.1.1
  have hb := C.1.2.1
  unfold F_X3_tryCut_111 at hF
  obtain ⟨gq0, hF⟩ := gd_1 hF
  refine lv_aload_n hx hb dX3_tryCut_111 rfl (lv_at hl 0 rfl) ?_
  obtain ⟨r10, hq10, hF⟩ := bn_1 hF
  refine v_sideBy C hP hS hL gq0 hi hq10 mw_615 ⟨Nat.le_of_ble_eq_true rfl, Nat.le_of_ble_eq_true rfl⟩ hl.1 (Nat.le_of_ble_eq_true rfl) ⟨Nat.zero_le _, Nat.zero_le _⟩ dX3_tryCut_112 (fun H locs hP hS => ?_)
  refine lv_iload hx hb dX3_tryCut_115 (lv_at hl 8 rfl) ?_
  refine lv_iadd hx hb dX3_tryCut_117 ?_
  obtain ⟨x11, ex11, hF⟩ := nm_1 hF
  refine x_top ex11 ?_
  obtain ⟨r12, hq12, hF⟩ := bn_1 hF
  refine x_callS C hP hS (c_X3_held hL hq12) (va_cwS 1 C.1.2.2.2.2 (gdS mw_610 mw_611 mw_31 mw_612) rfl rfl rfl hd_X3_held.2 ⟨Nat.le_of_ble_eq_true rfl, Nat.le_of_ble_eq_true rfl⟩) rfl rfl hl.1 (Nat.le_of_ble_eq_true rfl) ⟨Nat.zero_le _, Nat.zero_le _⟩ dX3_tryCut_118 (fun H locs hP hS => ?_)
  refine lv_istore (lv' := [(13, .int r12), (0, .ref (ad i)), (2, .int v2), (3, .ref (ad 5)), (5, .int v5), (6, .int v6), (7, .int v7), (8, .int v8), (9, .int v9), (11, .int v11), (12, .int v12)]) hx hb dX3_tryCut_121 hl (by decide) rfl (fun ls hl => ?_)
  refine lv_aload_n hx hb dX3_tryCut_123 rfl (lv_at hl 1 rfl) ?_
  refine lv_iload_n hx hb dX3_tryCut_124 rfl (lv_at hl 2 rfl) ?_
  refine lv_aload_n hx hb dX3_tryCut_125 rfl (lv_at hl 1 rfl) ?_
  refine get_3_2 C hP hi.1 hi.2.1 inlX3 mw_69 dX3_tryCut_126 ?_
  refine lv_iload hx hb dX3_tryCut_129 (lv_at hl 10 rfl) ?_
  refine lv_isub hx hb dX3_tryCut_131 ?_
  obtain ⟨x13, ex13, hF⟩ := nm_1 hF
  refine x_top ex13 ?_
  refine lv_aload_n hx hb dX3_tryCut_132 rfl (lv_at hl 1 rfl) ?_
  refine get_3_3 C hP hi.1 hi.2.1 inlX3 mw_70 dX3_tryCut_133 ?_
  refine lv_iload hx hb dX3_tryCut_136 (lv_at hl 0 rfl) ?_
  refine lv_isub hx hb dX3_tryCut_138 ?_
  obtain ⟨x14, ex14, hF⟩ := nm_1 hF
  refine x_top ex14 ?_
  obtain ⟨σ15, hq15, hF⟩ := bn_1 hF
  refine x_callV (ci := 3) rfl rfl C hP hS (c_X3_weigh hL hi hq15) hi.1 hi.2.1 (cwV 3 C.1.2.2.2.2 (gdV mw_636 mw_637 mw_638 mw_31 mw_639) rfl rfl rfl hd_X3_weigh ⟨Nat.le_of_ble_eq_true rfl, Nat.le_of_ble_eq_true rfl⟩) rfl rfl hl.1 (Nat.le_of_ble_eq_true rfl) ⟨Nat.zero_le _, Nat.zero_le _⟩ dX3_tryCut_139 (fun H locs hP hS => ?_)
  refine lv_aload_n hx hb dX3_tryCut_142 rfl (lv_at hl 1 rfl) ?_
  refine lv_dup hx hb dX3_tryCut_143 rfl ?_
  refine get_3_1 C hP hi.1 hi.2.1 inlX3 mw_68 dX3_tryCut_144 ?_
  refine lv_iload_n hx hb dX3_tryCut_147 rfl (lv_at hl 2 rfl) ?_
  refine lv_isub hx hb dX3_tryCut_148 ?_
  obtain ⟨x16, ex16, hF⟩ := nm_1 hF
  refine x_top ex16 ?_
  obtain ⟨σ18, eσ18, hF⟩ := nm_1 hF
  refine put_3_1 C hP hS hi.1 hi.2.1 inlX3 mw_68 eσ18 dX3_tryCut_149 (fun H locs hP hS => ?_)
  refine lv_aload_n hx hb dX3_tryCut_152 rfl (lv_at hl 1 rfl) ?_
  refine lv_iload hx hb dX3_tryCut_153 (lv_at hl 10 rfl) ?_
  obtain ⟨σ20, eσ20, hF⟩ := nm_1 hF
  refine put_3_2 C hP hS hi.1 hi.2.1 inlX3 mw_69 eσ20 dX3_tryCut_155 (fun H locs hP hS => ?_)
  refine lv_aload_n hx hb dX3_tryCut_158 rfl (lv_at hl 1 rfl) ?_
  refine lv_iload hx hb dX3_tryCut_159 (lv_at hl 0 rfl) ?_
  obtain ⟨σ22, eσ22, hF⟩ := nm_1 hF
  refine put_3_3 C hP hS hi.1 hi.2.1 inlX3 mw_70 eσ22 dX3_tryCut_161 (fun H locs hP hS => ?_)
  refine lv_iload hx hb dX3_tryCut_164 (lv_at hl 4 rfl) ?_
  refine lv_if_ne (tgt := 180) hx hb dX3_tryCut_166 (by decide) (fun c_23 => ?_) (fun c_23 => ?_) -- COND 23 rcases (Decidable.em (v5 = 0)).symm with c_23 | c_23
  · have hF := ite_f hF c_23
    exact w_X3_tryCut_180 C hρ0 hL hi hz hF hP hS (lv_sub hl [1] rfl)
  · have hF := ite_t hF c_23
    refine lv_aload_n hx hb dX3_tryCut_169 rfl (lv_at hl 1 rfl) ?_
    obtain ⟨r27, hq27, hF⟩ := bn_1 hF
    refine x_callV (ci := 3) rfl rfl C hP hS (c_X3_leastCorner hL hi hq27) hi.1 hi.2.1 (cwV 0 C.1.2.2.2.2 (gdV mw_643 mw_644 mw_645 mw_31 mw_646) rfl rfl rfl hd_X3_leastCorner ⟨Nat.le_of_ble_eq_true rfl, Nat.le_of_ble_eq_true rfl⟩) rfl rfl hl.1 (Nat.le_of_ble_eq_true rfl) ⟨Nat.zero_le _, Nat.zero_le _⟩ dX3_tryCut_170 (fun H locs hP hS => ?_)
    refine lv_aload_n hx hb dX3_tryCut_173 rfl (lv_at hl 3 rfl) ?_
    refine get_0_1 C hP (lr_5 hL) (lk_5 hL) inlX0 mw_535 dX3_tryCut_174 ?_
    refine lv_icmp_lt (tgt := 192) hx hb dX3_tryCut_177 (by decide) (fun c_28 => ?_) (fun c_28 => ?_) -- COND 28 by_cases c_28 : r27 < (σ22 5 1)
    · have hF := ite_t hF c_28
      refine lv_aload_n hx hb dX3_tryCut_192 rfl (lv_at hl 1 rfl) ?_
      refine lv_iload hx hb dX3_tryCut_193 (lv_at hl 5 rfl) ?_
      obtain ⟨σ30, eσ30, hF⟩ := nm_1 hF
      refine put_3_1 C hP hS hi.1 hi.2.1 inlX3 mw_68 eσ30 dX3_tryCut_195 (fun H locs hP hS => ?_)
      refine lv_aload_n hx hb dX3_tryCut_198 rfl (lv_at hl 1 rfl) ?_
      refine lv_iload hx hb dX3_tryCut_199 (lv_at hl 6 rfl) ?_
      obtain ⟨σ32, eσ32, hF⟩ := nm_1 hF
      refine put_3_2 C hP hS hi.1 hi.2.1 inlX3 mw_69 eσ32 dX3_tryCut_201 (fun H locs hP hS => ?_)
      refine lv_aload_n hx hb dX3_tryCut_204 rfl (lv_at hl 1 rfl) ?_
      refine lv_iload hx hb dX3_tryCut_205 (lv_at hl 7 rfl) ?_
      obtain ⟨σ34, eσ34, hF⟩ := nm_1 hF
      refine put_3_3 C hP hS hi.1 hi.2.1 inlX3 mw_70 eσ34 dX3_tryCut_207 (fun H locs hP hS => ?_)
      refine lv_aload_n hx hb dX3_tryCut_210 rfl (lv_at hl 1 rfl) ?_
      refine lv_iload hx hb dX3_tryCut_211 (lv_at hl 8 rfl) ?_
      obtain ⟨σ36, eσ36, hF⟩ := nm_1 hF
      refine put_3_5 C hP hS hi.1 hi.2.1 inlX3 mw_72 eσ36 dX3_tryCut_213 (fun H locs hP hS => ?_)
      refine lv_iconst (v := 0) hx hb dX3_tryCut_216 (by decide) ?_
      obtain ⟨rfl, rfl⟩ := ret_2 hF
      subst hρ0
      exact x_zret rfl rfl C hP hS dX3_tryCut_217
    · have hF := ite_f hF c_28
      exact w_X3_tryCut_180 C hρ0 hL hi hz hF hP hS (lv_sub hl [1] rfl)
set_option maxHeartbeats 4000000 in
set_option maxRecDepth 100000 in
theorem w_X3_tryCut_80 {N : Nat} {K len : Nat → Nat} {i : Nat} {z : Nat} {a2 : Int32} {a4 : Int32} {a5 : Int32} {p : Program} {e : Env} {s : State} {m : MethodId} {args : Array Value} {below : List Frame} {meth : Method} {c : Code} {ρ0 : RG} {r : Int32} {σ1 : SG} (C : Cx Y D N ad p s m args meth c cX3_tryCut 14 (some .boolean) RX3 wsL_law) {σ : SG} {ρ : RG} {r1 : Nat} {v2 : Int32} {v4 : Int32} {v5 : Int32} {v6 : Int32} {v7 : Int32} {v8 : Int32} {v9 : Int32} {v10 : Int32} {v11 : Int32} {q0 : Nat} {k1 : Int32} {H : Heap} {locs : List Loc} {ls : Array Slot} (hρ0 : ρ = ρ0) (hL : Lay N K len ρ) (hi : isL N K len ρ i) (hz : isC N K z = true) (hF : F_X3_tryCut_80 N K len i z a2 a4 a5 σ ρ r1 v2 v4 v5 v6 v7 v8 v9 v10 v11 q0 k1 = some (r, σ1)) (hP : WP Y D N ad K len σ ρ H) (hS : va_S (AA N ad s.heap.size) s.heap H locs) (hl : lv_has ls 14 [(0, .ref (ad i)), (1, .ref (ad r1)), (2, .int v2), (3, .ref (ad 5)), (4, .int v4), (5, .int v5), (6, .int v6), (7, .int v7), (8, .int v8), (9, .int v9), (10, .int v10), (11, .int v11)]) : W p l e rm_X3_tryCut s m args below meth c H locs 0 0 (MQ below (QW Y D N ad K len σ1 ρ0 (AA N ad s.heap.size) (some (.int r))) args s 0 0 (AA N ad s.heap.size)) (F0 m 80 ls [.int k1, .ref (ad q0)]) := by
  have hx := C.1.1
  have hb := C.1.2.1
  unfold F_X3_tryCut_80 at hF
  obtain ⟨gr1, hF⟩ := gd_1 hF
  obtain ⟨gq0, hF⟩ := gd_1 hF
  refine lv_aload_n hx hb dX3_tryCut_80 rfl (lv_at hl 0 rfl) ?_
  obtain ⟨r6, hq6, hF⟩ := bn_1 hF
  refine v_upBy C hP hS hL gq0 hi hq6 mw_585 ⟨Nat.le_of_ble_eq_true rfl, Nat.le_of_ble_eq_true rfl⟩ hl.1 (Nat.le_of_ble_eq_true rfl) ⟨Nat.zero_le _, Nat.zero_le _⟩ dX3_tryCut_81 (fun H locs hP hS => ?_)
  refine lv_iload hx hb dX3_tryCut_84 (lv_at hl 10 rfl) ?_
  refine lv_iadd hx hb dX3_tryCut_86 ?_
  obtain ⟨x7, ex7, hF⟩ := nm_1 hF
  refine x_top ex7 ?_
  obtain ⟨r8, hq8, hF⟩ := bn_1 hF
  refine x_callS C hP hS (c_X3_held hL hq8) (va_cwS 1 C.1.2.2.2.2 (gdS mw_610 mw_611 mw_31 mw_612) rfl rfl rfl hd_X3_held.2 ⟨Nat.le_of_ble_eq_true rfl, Nat.le_of_ble_eq_true rfl⟩) rfl rfl hl.1 (Nat.le_of_ble_eq_true rfl) ⟨Nat.zero_le _, Nat.zero_le _⟩ dX3_tryCut_87 (fun H locs hP hS => ?_)
  refine lv_istore (lv' := [(12, .int r8), (0, .ref (ad i)), (1, .ref (ad r1)), (2, .int v2), (3, .ref (ad 5)), (4, .int v4), (5, .int v5), (6, .int v6), (7, .int v7), (8, .int v8), (9, .int v9), (10, .int v10), (11, .int v11)]) hx hb dX3_tryCut_90 hl (by decide) rfl (fun ls hl => ?_)
  refine lv_aload_n hx hb dX3_tryCut_92 rfl (lv_at hl 2 rfl) ?_
  refine lv_iload hx hb dX3_tryCut_93 (lv_at hl 5 rfl) ?_
  refine lv_if_eq (tgt := 107) hx hb dX3_tryCut_95 (by decide) (fun c_9 => ?_) (fun c_9 => ?_) -- COND 9 by_cases c_9 : v4 = 0
  · have hF := ite_t hF c_9
    refine lv_aload_n hx hb dX3_tryCut_107 rfl (lv_at hl 2 rfl) ?_
    refine get_ck_3 C hP (isC_r gr1) (isC_k gr1) mw_534 (Or.inl rfl) dX3_tryCut_108 ?_
    exact w_X3_tryCut_111 C hρ0 hL hi hz hF hP hS (lv_sub hl [1, 3, 4, 6, 7, 8, 9, 10, 12, 0] rfl)
  · have hF := ite_f hF c_9
    refine lv_aload_n hx hb dX3_tryCut_98 rfl (lv_at hl 2 rfl) ?_
    refine get_ck_3 C hP (isC_r gr1) (isC_k gr1) mw_534 (Or.inl rfl) dX3_tryCut_99 ?_
    refine lv_iconst (v := 2) hx hb dX3_tryCut_102 (by decide) ?_
    refine lv_idiv hx hb dX3_tryCut_103 (by decide) ?_
    obtain ⟨x37, ex37, hF⟩ := nm_1 hF
    refine x_top ex37 ?_
    refine lv_goto (tgt := 111) hx hb dX3_tryCut_104 (by decide) ?_
    exact w_X3_tryCut_111 C hρ0 hL hi hz hF hP hS (lv_sub hl [1, 3, 4, 6, 7, 8, 9, 10, 12, 0] rfl)
set_option maxHeartbeats 4000000 in
set_option maxRecDepth 100000 in
theorem w_X3_tryCut_0 {N : Nat} {K len : Nat → Nat} {i : Nat} {z : Nat} {a2 : Int32} {a4 : Int32} {a5 : Int32} {p : Program} {e : Env} {s : State} {m : MethodId} {args : Array Value} {below : List Frame} {meth : Method} {c : Code} {ρ0 : RG} {r : Int32} {σ1 : SG} (C : Cx Y D N ad p s m args meth c cX3_tryCut 14 (some .boolean) RX3 wsL_law) {σ : SG} {ρ : RG} {H : Heap} {locs : List Loc} {ls : Array Slot} (hρ0 : ρ = ρ0) (hL : Lay N K len ρ) (hi : isL N K len ρ i) (hz : isC N K z = true) (hF : F_X3_tryCut N K len i z a2 a4 a5 σ ρ = some (r, σ1)) (hP : WP Y D N ad K len σ ρ H) (hS : va_S (AA N ad s.heap.size) s.heap H locs) (hl : lv_has ls 14 [(0, .ref (ad i)), (1, .ref (ad z)), (2, .int a2), (3, .ref (ad 5)), (4, .int a4), (5, .int a5)]) : W p l e rm_X3_tryCut s m args below meth c H locs 0 0 (MQ below (QW Y D N ad K len σ1 ρ0 (AA N ad s.heap.size) (some (.int r))) args s 0 0 (AA N ad s.heap.size)) (F0 m 0 ls []) := by
  have hx := C.1.1
  have hb := C.1.2.1
  unfold F_X3_tryCut at hF
  refine lv_aload_n hx hb dX3_tryCut_0 rfl (lv_at hl 0 rfl) ?_
  refine get_3_1 C hP hi.1 hi.2.1 inlX3 mw_68 dX3_tryCut_1 ?_
  refine lv_istore (lv' := [(6, .int (σ i 1)), (0, .ref (ad i)), (1, .ref (ad z)), (2, .int a2), (3, .ref (ad 5)), (4, .int a4), (5, .int a5)]) hx hb dX3_tryCut_4 hl (by decide) rfl (fun ls hl => ?_)
  refine lv_aload_n hx hb dX3_tryCut_6 rfl (lv_at hl 1 rfl) ?_
  refine get_3_2 C hP hi.1 hi.2.1 inlX3 mw_69 dX3_tryCut_7 ?_
  refine lv_istore (lv' := [(7, .int (σ i 2)), (6, .int (σ i 1)), (0, .ref (ad i)), (1, .ref (ad z)), (2, .int a2), (3, .ref (ad 5)), (4, .int a4), (5, .int a5)]) hx hb dX3_tryCut_10 hl (by decide) rfl (fun ls hl => ?_)
  refine lv_aload_n hx hb dX3_tryCut_12 rfl (lv_at hl 2 rfl) ?_
  refine get_3_3 C hP hi.1 hi.2.1 inlX3 mw_70 dX3_tryCut_13 ?_
  refine lv_istore (lv' := [(8, .int (σ i 3)), (7, .int (σ i 2)), (6, .int (σ i 1)), (0, .ref (ad i)), (1, .ref (ad z)), (2, .int a2), (3, .ref (ad 5)), (4, .int a4), (5, .int a5)]) hx hb dX3_tryCut_16 hl (by decide) rfl (fun ls hl => ?_)
  refine lv_aload_n hx hb dX3_tryCut_18 rfl (lv_at hl 3 rfl) ?_
  refine get_3_5 C hP hi.1 hi.2.1 inlX3 mw_72 dX3_tryCut_19 ?_
  refine lv_istore (lv' := [(9, .int (σ i 5)), (8, .int (σ i 3)), (7, .int (σ i 2)), (6, .int (σ i 1)), (0, .ref (ad i)), (1, .ref (ad z)), (2, .int a2), (3, .ref (ad 5)), (4, .int a4), (5, .int a5)]) hx hb dX3_tryCut_22 hl (by decide) rfl (fun ls hl => ?_)
  refine lv_aload_n hx hb dX3_tryCut_24 rfl (lv_at hl 4 rfl) ?_
  refine lv_aload_n hx hb dX3_tryCut_25 rfl (lv_at hl 5 rfl) ?_
  refine lv_iload_n hx hb dX3_tryCut_26 rfl (lv_at hl 6 rfl) ?_
  obtain ⟨σ1, hq1, hF⟩ := bn_1 hF
  refine x_callV (ci := 3) rfl rfl C hP hS (c_X3_noteStart hL hi hz hq1) hi.1 hi.2.1 (cwV 2 C.1.2.2.2.2 (gdV mw_536 mw_537 mw_538 mw_31 mw_539) rfl rfl rfl hd_X3_noteStart ⟨Nat.le_of_ble_eq_true rfl, Nat.le_of_ble_eq_true rfl⟩) rfl rfl hl.1 (Nat.le_of_ble_eq_true rfl) ⟨Nat.zero_le _, Nat.zero_le _⟩ dX3_tryCut_27 (fun H locs hP hS => ?_)
  refine lv_aload_n hx hb dX3_tryCut_30 rfl (lv_at hl 7 rfl) ?_
  refine lv_iconst (v := 0) hx hb dX3_tryCut_31 (by decide) ?_
  refine lv_aload_n hx hb dX3_tryCut_32 rfl (lv_at hl 4 rfl) ?_
  refine get_3_9 C hP hi.1 hi.2.1 inlX3 mw_52 hi.2.2.2.2.2 dX3_tryCut_33 ?_
  refine lv_iload hx hb dX3_tryCut_36 (lv_at hl 8 rfl) ?_
  obtain ⟨r2, hq2, hF⟩ := bn_1 hF
  refine x_callV (ci := 0) rfl rfl C hP hS (c_X0_added hL ⟨hi.2.2.1, hi.2.2.2.1, hi.2.2.2.2.1⟩ hq2) (lr_5 hL) (lk_5 hL) (cwV 3 C.1.2.2.2.2 (gdV mw_546 mw_547 mw_548 mw_23 mw_549) rfl rfl rfl hd_X0_added ⟨Nat.le_of_ble_eq_true rfl, Nat.le_of_ble_eq_true rfl⟩) rfl rfl hl.1 (Nat.le_of_ble_eq_true rfl) ⟨Nat.zero_le _, Nat.zero_le _⟩ dX3_tryCut_38 (fun H locs hP hS => ?_)
  refine lv_istore (lv' := [(10, .int r2), (9, .int (σ i 5)), (8, .int (σ i 3)), (7, .int (σ i 2)), (6, .int (σ i 1)), (0, .ref (ad i)), (1, .ref (ad z)), (2, .int a2), (3, .ref (ad 5)), (4, .int a4), (5, .int a5)]) hx hb dX3_tryCut_41 hl (by decide) rfl (fun ls hl => ?_)
  refine lv_aload_n hx hb dX3_tryCut_43 rfl (lv_at hl 8 rfl) ?_
  refine lv_iconst (v := 1) hx hb dX3_tryCut_44 (by decide) ?_
  refine lv_aload_n hx hb dX3_tryCut_45 rfl (lv_at hl 5 rfl) ?_
  refine get_3_9 C hP hi.1 hi.2.1 inlX3 mw_52 hi.2.2.2.2.2 dX3_tryCut_46 ?_
  refine lv_iload hx hb dX3_tryCut_49 (lv_at hl 9 rfl) ?_
  obtain ⟨r3, hq3, hF⟩ := bn_1 hF
  refine x_callV (ci := 0) rfl rfl C hP hS (c_X0_added hL ⟨hi.2.2.1, hi.2.2.2.1, hi.2.2.2.2.1⟩ hq3) (lr_5 hL) (lk_5 hL) (cwV 3 C.1.2.2.2.2 (gdV mw_546 mw_547 mw_548 mw_23 mw_549) rfl rfl rfl hd_X0_added ⟨Nat.le_of_ble_eq_true rfl, Nat.le_of_ble_eq_true rfl⟩) rfl rfl hl.1 (Nat.le_of_ble_eq_true rfl) ⟨Nat.zero_le _, Nat.zero_le _⟩ dX3_tryCut_51 (fun H locs hP hS => ?_)
  refine lv_istore (lv' := [(11, .int r3), (10, .int r2), (9, .int (σ i 5)), (8, .int (σ i 3)), (7, .int (σ i 2)), (6, .int (σ i 1)), (0, .ref (ad i)), (1, .ref (ad z)), (2, .int a2), (3, .ref (ad 5)), (4, .int a4), (5, .int a5)]) hx hb dX3_tryCut_54 hl (by decide) rfl (fun ls hl => ?_)
  refine lv_aload_n hx hb dX3_tryCut_56 rfl (lv_at hl 7 rfl) ?_
  refine lv_aload_n hx hb dX3_tryCut_57 rfl (lv_at hl 6 rfl) ?_
  obtain ⟨σ4, hq4, hF⟩ := bn_1 hF
  refine v_prepare C hP hS hL hz hi hq4 mw_559 ⟨Nat.le_of_ble_eq_true rfl, Nat.le_of_ble_eq_true rfl⟩ hl.1 (Nat.le_of_ble_eq_true rfl) ⟨Nat.zero_le _, Nat.zero_le _⟩ dX3_tryCut_58 (fun H locs hP hS => ?_)
  refine lv_aload_n hx hb dX3_tryCut_61 rfl (lv_at hl 7 rfl) ?_
  refine lv_iload hx hb dX3_tryCut_62 (lv_at hl 10 rfl) ?_
  refine lv_if_eq (tgt := 76) hx hb dX3_tryCut_64 (by decide) (fun c_5 => ?_) (fun c_5 => ?_) -- COND 5 by_cases c_5 : a4 = 0
  · have hF := ite_t hF c_5
    refine lv_aload_n hx hb dX3_tryCut_76 rfl (lv_at hl 7 rfl) ?_
    refine get_ck_2 C hP (isC_r hz) (isC_k hz) mw_533 (Or.inl rfl) dX3_tryCut_77 ?_
    exact w_X3_tryCut_80 C hρ0 hL hi hz hF hP hS (lv_sub hl [6, 7, 8, 9, 10, 11, 5, 4, 3, 2, 1, 0] rfl)
  · have hF := ite_f hF c_5
    refine lv_aload_n hx hb dX3_tryCut_67 rfl (lv_at hl 7 rfl) ?_
    refine get_ck_2 C hP (isC_r hz) (isC_k hz) mw_533 (Or.inl rfl) dX3_tryCut_68 ?_
    refine lv_iconst (v := 2) hx hb dX3_tryCut_71 (by decide) ?_
    refine lv_idiv hx hb dX3_tryCut_72 (by decide) ?_
    obtain ⟨x38, ex38, hF⟩ := nm_1 hF
    refine x_top ex38 ?_
    refine lv_goto (tgt := 80) hx hb dX3_tryCut_73 (by decide) ?_
    exact w_X3_tryCut_80 C hρ0 hL hi hz hF hP hS (lv_sub hl [6, 7, 8, 9, 10, 11, 5, 4, 3, 2, 1, 0] rfl)
set_option maxHeartbeats 4000000 in
set_option maxRecDepth 100000 in
theorem c_X3_tryCut {N : Nat} {K len : Nat → Nat} {i : Nat} {z : Nat} {a2 : Int32} {a4 : Int32} {a5 : Int32} {r : Int32} {σ1 : SG} {σ : SG} {ρ : RG} (hL : Lay N K len ρ) (hi : isL N K len ρ i) (hz : isC N K z = true) (hF : F_X3_tryCut N K len i z a2 a4 a5 σ ρ = some (r, σ1)) : MT l Y D N ad K len yX3_tryCut (Cond.code yX3_tryCut cX3_tryCut 14 (some .boolean) :: wsL_law) rm_X3_tryCut [.ref (ad i), .ref (ad z), .int a2, .ref (ad 5), .int a4, .int a5] σ ρ (some (.int r)) σ1 ρ := by
  refine mt_of (cc := cX3_tryCut) (nL := 14) (ret := (some .boolean)) (by decide) (Nat.le_of_ble_eq_true rfl) ?_
  intro p e s m args below meth c ls C hnm hP hS hl
  exact w_X3_tryCut_0 C rfl hL hi hz hF hP hS hl
end GEN
