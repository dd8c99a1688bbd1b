/-! PART 11.xb: printed by wip/gen -/
section GEN
variable {l : Launch} {Y : YT} {D : va_G} {N : Nat} {ad K len : Nat → Nat}
/-! CutCrooked$Loaf.private static int acrossAt(int, int, int);  -/
theorem dX3_acrossAt_0 : decode cX3_acrossAt 0 = .ok (.iload_n 0, 1) := by decide +kernel
theorem dX3_acrossAt_1 : decode cX3_acrossAt 1 = .ok (.iconst 2, 1) := by decide +kernel
theorem dX3_acrossAt_2 : decode cX3_acrossAt 2 = .ok (.if_icmp .ge 7, 3) := by decide +kernel
theorem dX3_acrossAt_5 : decode cX3_acrossAt 5 = .ok (.iload_n 1, 1) := by decide +kernel
theorem dX3_acrossAt_6 : decode cX3_acrossAt 6 = .ok (.goto 5, 3) := by decide +kernel
theorem dX3_acrossAt_9 : decode cX3_acrossAt 9 = .ok (.iload_n 1, 1) := by decide +kernel
theorem dX3_acrossAt_10 : decode cX3_acrossAt 10 = .ok (.ineg, 1) := by decide +kernel
theorem dX3_acrossAt_11 : decode cX3_acrossAt 11 = .ok (.iload_n 0, 1) := by decide +kernel
theorem dX3_acrossAt_12 : decode cX3_acrossAt 12 = .ok (.iconst 2, 1) := by decide +kernel
theorem dX3_acrossAt_13 : decode cX3_acrossAt 13 = .ok (.irem, 1) := by decide +kernel
theorem dX3_acrossAt_14 : decode cX3_acrossAt 14 = .ok (.ifCond .ne 8, 3) := by decide +kernel
theorem dX3_acrossAt_17 : decode cX3_acrossAt 17 = .ok (.iload_n 2, 1) := by decide +kernel
theorem dX3_acrossAt_18 : decode cX3_acrossAt 18 = .ok (.ineg, 1) := by decide +kernel
theorem dX3_acrossAt_19 : decode cX3_acrossAt 19 = .ok (.goto 4, 3) := by decide +kernel
theorem dX3_acrossAt_22 : decode cX3_acrossAt 22 = .ok (.iload_n 2, 1) := by decide +kernel
theorem dX3_acrossAt_23 : decode cX3_acrossAt 23 = .ok (.iadd, 1) := by decide +kernel
theorem dX3_acrossAt_24 : decode cX3_acrossAt 24 = .ok (.ireturn, 1) := by decide +kernel
theorem hd_X3_acrossAt : yX3_acrossAt.cls = RX3 ∧ yX3_acrossAt.cls ≠ "java/lang/invoke/MethodHandle" ∧ yX3_acrossAt.cls ≠ "java/lang/invoke/VarHandle" ∧ (parseMethodDescriptor yX3_acrossAt.desc).map (fun d => d.parameters.length) = some 3 := by decide +kernel
abbrev rm_X3_acrossAt : Room := { frames := 0, cells := 0, slots := 0, locals := 0 }
def F_X3_acrossAt_11 (a1 : Int32) (a2 : Int32) (a3 : Int32) (σ : SG) (ρ : RG) (v0 : Int32) (v2 : Int32) (k0 : Int32) : Option (Int32) :=
  nm (v0 - v0 / (2 : Int32) * (2 : Int32)) fun x3 =>
  if x3 = 0 then
    nm (-v2) fun x6 =>
    nm (k0 + x6) fun x7 =>
    some x7
  else
    nm (k0 + v2) fun x5 =>
    some x5
def F_X3_acrossAt (a1 : Int32) (a2 : Int32) (a3 : Int32) (σ : SG) (ρ : RG) : Option (Int32) :=
  if (2 : Int32) ≤ a1 then
    nm (-a2) fun x2 =>
    F_X3_acrossAt_11 a1 a2 a3 σ ρ a1 a3 x2
  else
    F_X3_acrossAt_11 a1 a2 a3 σ ρ a1 a3 a2
set_option maxHeartbeats 4000000 in
set_option maxRecDepth 100000 in
theorem w_X3_acrossAt_11 {a1 : Int32} {a2 : Int32} {a3 : Int32} {p : Program} {e : Env} {s : State} {m : MethodId} {args : Array Value} {below : List Frame} {meth : Method} {c : Code} {σ0 : SG} {ρ0 : RG} {r : Int32} (C : Cx Y D N ad p s m args meth c cX3_acrossAt 3 (some .int) RX3 wsL_law) {σ : SG} {ρ : RG} {v0 : Int32} {v2 : Int32} {k0 : Int32} {H : Heap} {locs : List Loc} {ls : Array Slot} (hσ0 : σ = σ0) (hρ0 : ρ = ρ0) (hL : Lay N K len ρ) (hF : F_X3_acrossAt_11 a1 a2 a3 σ ρ v0 v2 k0 = some r) (hP : WP Y D N ad K len σ ρ H) (hS : va_S (AA N ad s.heap.size) s.heap H locs) (hl : lv_has ls 3 [(0, .int v0), (2, .int v2)]) : W p l e rm_X3_acrossAt s m args below meth c H locs 0 0 (MQ below (QW Y D N ad K len σ0 ρ0 (AA N ad s.heap.size) (some (.int r))) args s 0 0 (AA N ad s.heap.size)) (F0 m 11 ls [.int k0]) := by
  have hx := C.1.1
  have hb := C.1.2.1
  unfold F_X3_acrossAt_11 at hF
  refine lv_iload_n hx hb dX3_acrossAt_11 rfl (lv_at hl 0 rfl) ?_
  refine lv_iconst (v := 2) hx hb dX3_acrossAt_12 (by decide) ?_
  refine lv_irem hx hb dX3_acrossAt_13 (by decide) ?_
  obtain ⟨x3, ex3, hF⟩ := nm_1 hF
  refine x_top ex3 ?_
  refine lv_if_ne (tgt := 22) hx hb dX3_acrossAt_14 (by decide) (fun c_4 => ?_) (fun c_4 => ?_) -- COND 4 rcases (Decidable.em (x3 = 0)).symm with c_4 | c_4
  · have hF := ite_f hF c_4
    refine lv_iload_n hx hb dX3_acrossAt_22 rfl (lv_at hl 1 rfl) ?_
    refine lv_iadd hx hb dX3_acrossAt_23 ?_
    obtain ⟨x5, ex5, hF⟩ := nm_1 hF
    refine x_top ex5 ?_
    obtain rfl := ret_1 hF
    subst hσ0
    subst hρ0
    exact x_iret rfl C hP hS dX3_acrossAt_24
  · have hF := ite_t hF c_4
    refine lv_iload_n hx hb dX3_acrossAt_17 rfl (lv_at hl 1 rfl) ?_
    refine lv_ineg hx hb dX3_acrossAt_18 ?_
    obtain ⟨x6, ex6, hF⟩ := nm_1 hF
    refine x_top ex6 ?_
    refine lv_goto (tgt := 23) hx hb dX3_acrossAt_19 (by decide) ?_
    refine lv_iadd hx hb dX3_acrossAt_23 ?_
    obtain ⟨x7, ex7, hF⟩ := nm_1 hF
    refine x_top ex7 ?_
    obtain rfl := ret_1 hF
    subst hσ0
    subst hρ0
    exact x_iret rfl C hP hS dX3_acrossAt_24
set_option maxHeartbeats 4000000 in
set_option maxRecDepth 100000 in
theorem w_X3_acrossAt_0 {a1 : Int32} {a2 : Int32} {a3 : Int32} {p : Program} {e : Env} {s : State} {m : MethodId} {args : Array Value} {below : List Frame} {meth : Method} {c : Code} {σ0 : SG} {ρ0 : RG} {r : Int32} (C : Cx Y D N ad p s m args meth c cX3_acrossAt 3 (some .int) RX3 wsL_law) {σ : SG} {ρ : RG} {H : Heap} {locs : List Loc} {ls : Array Slot} (hσ0 : σ = σ0) (hρ0 : ρ = ρ0) (hL : Lay N K len ρ) (hF : F_X3_acrossAt a1 a2 a3 σ ρ = some r) (hP : WP Y D N ad K len σ ρ H) (hS : va_S (AA N ad s.heap.size) s.heap H locs) (hl : lv_has ls 3 [(0, .int a1), (1, .int a2), (2, .int a3)]) : W p l e rm_X3_acrossAt s m args below meth c H locs 0 0 (MQ below (QW Y D N ad K len σ0 ρ0 (AA N ad s.heap.size) (some (.int r))) args s 0 0 (AA N ad s.heap.size)) (F0 m 0 ls []) := by
  have hx := C.1.1
  have hb := C.1.2.1
  unfold F_X3_acrossAt at hF
  refine lv_iload_n hx hb dX3_acrossAt_0 rfl (lv_at hl 0 rfl) ?_
  refine lv_iconst (v := 2) hx hb dX3_acrossAt_1 (by decide) ?_
  refine lv_icmp_ge (tgt := 9) hx hb dX3_acrossAt_2 (by decide) (fun c_1 => ?_) (fun c_1 => ?_) -- COND 1 by_cases c_1 : (2 : Int32) ≤ a1
  · have hF := ite_t hF c_1
    refine lv_iload_n hx hb dX3_acrossAt_9 rfl (lv_at hl 1 rfl) ?_
    refine lv_ineg hx hb dX3_acrossAt_10 ?_
    obtain ⟨x2, ex2, hF⟩ := nm_1 hF
    refine x_top ex2 ?_
    exact w_X3_acrossAt_11 C hσ0 hρ0 hL hF hP hS (lv_sub hl [0, 2] rfl)
  · have hF := ite_f hF c_1
    refine lv_iload_n hx hb dX3_acrossAt_5 rfl (lv_at hl 1 rfl) ?_
    refine lv_goto (tgt := 11) hx hb dX3_acrossAt_6 (by decide) ?_
    exact w_X3_acrossAt_11 C hσ0 hρ0 hL hF hP hS (lv_sub hl [0, 2] rfl)
set_option maxHeartbeats 4000000 in
set_option maxRecDepth 100000 in
theorem c_X3_acrossAt {a1 : Int32} {a2 : Int32} {a3 : Int32} {r : Int32} {σ : SG} {ρ : RG} (hL : Lay N K len ρ) (hF : F_X3_acrossAt a1 a2 a3 σ ρ = some r) : MT l Y D N ad K len yX3_acrossAt (Cond.code yX3_acrossAt cX3_acrossAt 3 (some .int) :: wsL_law) rm_X3_acrossAt [.int a1, .int a2, .int a3] σ ρ (some (.int r)) σ ρ := by
  refine mt_of (cc := cX3_acrossAt) (nL := 3) (ret := (some .int)) (by decide) (Nat.le_of_ble_eq_true rfl) ?_
  intro p e s m args below meth c ls C hnm hP hS hl
  exact w_X3_acrossAt_0 C rfl rfl hL hF hP hS hl

/-! CutCrooked$Loaf.void startsAnew(int);  -/
theorem dX3_startsAnew_0 : decode cX3_startsAnew 0 = .ok (.aload_n 0, 1) := by decide +kernel
theorem dX3_startsAnew_1 : decode cX3_startsAnew 1 = .ok (.iload_n 1, 1) := by decide +kernel
theorem dX3_startsAnew_2 : decode cX3_startsAnew 2 = .ok (.putfield 15, 3) := by decide +kernel
theorem dX3_startsAnew_5 : decode cX3_startsAnew 5 = .ok (.aload_n 0, 1) := by decide +kernel
theorem dX3_startsAnew_6 : decode cX3_startsAnew 6 = .ok (.iload_n 1, 1) := by decide +kernel
theorem dX3_startsAnew_7 : decode cX3_startsAnew 7 = .ok (.putfield 19, 3) := by decide +kernel
theorem dX3_startsAnew_10 : decode cX3_startsAnew 10 = .ok (.aload_n 0, 1) := by decide +kernel
theorem dX3_startsAnew_11 : decode cX3_startsAnew 11 = .ok (.iconst 0, 1) := by decide +kernel
theorem dX3_startsAnew_12 : decode cX3_startsAnew 12 = .ok (.putfield 22, 3) := by decide +kernel
theorem dX3_startsAnew_15 : decode cX3_startsAnew 15 = .ok (.aload_n 0, 1) := by decide +kernel
theorem dX3_startsAnew_16 : decode cX3_startsAnew 16 = .ok (.iconst 0, 1) := by decide +kernel
theorem dX3_startsAnew_17 : decode cX3_startsAnew 17 = .ok (.putfield 25, 3) := by decide +kernel
theorem dX3_startsAnew_20 : decode cX3_startsAnew 20 = .ok (.aload_n 0, 1) := by decide +kernel
theorem dX3_startsAnew_21 : decode cX3_startsAnew 21 = .ok (.iconst 0, 1) := by decide +kernel
theorem dX3_startsAnew_22 : decode cX3_startsAnew 22 = .ok (.putfield 28, 3) := by decide +kernel
theorem dX3_startsAnew_25 : decode cX3_startsAnew 25 = .ok (.aload_n 0, 1) := by decide +kernel
theorem dX3_startsAnew_26 : decode cX3_startsAnew 26 = .ok (.iconst 0, 1) := by decide +kernel
theorem dX3_startsAnew_27 : decode cX3_startsAnew 27 = .ok (.putfield 31, 3) := by decide +kernel
theorem dX3_startsAnew_30 : decode cX3_startsAnew 30 = .ok (.return_, 1) := by decide +kernel
theorem hd_X3_startsAnew : yX3_startsAnew.cls = RX3 ∧ yX3_startsAnew.cls ≠ "java/lang/invoke/MethodHandle" ∧ yX3_startsAnew.cls ≠ "java/lang/invoke/VarHandle" ∧ (parseMethodDescriptor yX3_startsAnew.desc).map (fun d => d.parameters.length) = some 1 := by decide +kernel
abbrev rm_X3_startsAnew : Room := { frames := 0, cells := 0, slots := 0, locals := 0 }
def F_X3_startsAnew (i : Nat) (a1 : Int32) (σ : SG) (ρ : RG) : Option (SG) :=
  nm (s2 σ i 0 a1) fun σ2 =>
  nm (s2 σ2 i 1 a1) fun σ4 =>
  nm (s2 σ4 i 2 (0 : Int32)) fun σ6 =>
  nm (s2 σ6 i 3 (0 : Int32)) fun σ8 =>
  nm (s2 σ8 i 4 (0 : Int32)) fun σ10 =>
  nm (s2 σ10 i 5 (0 : Int32)) fun σ12 =>
  some σ12
set_option maxHeartbeats 4000000 in
set_option maxRecDepth 100000 in
theorem w_X3_startsAnew_0 {i : Nat} {a1 : Int32} {p : Program} {e : Env} {s : State} {m : MethodId} {args : Array Value} {below : List Frame} {meth : Method} {c : Code} {ρ0 : RG} {σ1 : SG} (C : Cx Y D N ad p s m args meth c cX3_startsAnew 2 none RX3 wsL_law) {σ : SG} {ρ : RG} {H : Heap} {locs : List Loc} {ls : Array Slot} (hρ0 : ρ = ρ0) (hL : True) (hi : isL N K len ρ i) (hF : F_X3_startsAnew i a1 σ ρ = some σ1) (hP : WP Y D N ad K len σ ρ H) (hS : va_S (AA N ad s.heap.size) s.heap H locs) (hl : lv_has ls 2 [(0, .ref (ad i)), (1, .int a1)]) : W p l e rm_X3_startsAnew s m args below meth c H locs 0 0 (MQ below (QW Y D N ad K len σ1 ρ0 (AA N ad s.heap.size) none) args s 0 0 (AA N ad s.heap.size)) (F0 m 0 ls []) := by
  have hx := C.1.1
  have hb := C.1.2.1
  unfold F_X3_startsAnew at hF
  refine lv_aload_n hx hb dX3_startsAnew_0 rfl (lv_at hl 0 rfl) ?_
  refine lv_iload_n hx hb dX3_startsAnew_1 rfl (lv_at hl 1 rfl) ?_
  obtain ⟨σ2, eσ2, hF⟩ := nm_1 hF
  refine put_3_0 C hP hS hi.1 hi.2.1 inlX3 mw_67 eσ2 dX3_startsAnew_2 (fun H locs hP hS => ?_)
  refine lv_aload_n hx hb dX3_startsAnew_5 rfl (lv_at hl 0 rfl) ?_
  refine lv_iload_n hx hb dX3_startsAnew_6 rfl (lv_at hl 1 rfl) ?_
  obtain ⟨σ4, eσ4, hF⟩ := nm_1 hF
  refine put_3_1 C hP hS hi.1 hi.2.1 inlX3 mw_68 eσ4 dX3_startsAnew_7 (fun H locs hP hS => ?_)
  refine lv_aload_n hx hb dX3_startsAnew_10 rfl (lv_at hl 0 rfl) ?_
  refine lv_iconst (v := 0) hx hb dX3_startsAnew_11 (by decide) ?_
  obtain ⟨σ6, eσ6, hF⟩ := nm_1 hF
  refine put_3_2 C hP hS hi.1 hi.2.1 inlX3 mw_69 eσ6 dX3_startsAnew_12 (fun H locs hP hS => ?_)
  refine lv_aload_n hx hb dX3_startsAnew_15 rfl (lv_at hl 0 rfl) ?_
  refine lv_iconst (v := 0) hx hb dX3_startsAnew_16 (by decide) ?_
  obtain ⟨σ8, eσ8, hF⟩ := nm_1 hF
  refine put_3_3 C hP hS hi.1 hi.2.1 inlX3 mw_70 eσ8 dX3_startsAnew_17 (fun H locs hP hS => ?_)
  refine lv_aload_n hx hb dX3_startsAnew_20 rfl (lv_at hl 0 rfl) ?_
  refine lv_iconst (v := 0) hx hb dX3_startsAnew_21 (by decide) ?_
  obtain ⟨σ10, eσ10, hF⟩ := nm_1 hF
  refine put_3_4 C hP hS hi.1 hi.2.1 inlX3 mw_71 eσ10 dX3_startsAnew_22 (fun H locs hP hS => ?_)
  refine lv_aload_n hx hb dX3_startsAnew_25 rfl (lv_at hl 0 rfl) ?_
  refine lv_iconst (v := 0) hx hb dX3_startsAnew_26 (by decide) ?_
  obtain ⟨σ12, eσ12, hF⟩ := nm_1 hF
  refine put_3_5 C hP hS hi.1 hi.2.1 inlX3 mw_72 eσ12 dX3_startsAnew_27 (fun H locs hP hS => ?_)
  obtain rfl := ret_1 hF
  subst hρ0
  exact x_vret rfl C hP hS dX3_startsAnew_30
set_option maxHeartbeats 4000000 in
set_option maxRecDepth 100000 in
theorem c_X3_startsAnew {i : Nat} {a1 : Int32} {σ1 : SG} {σ : SG} {ρ : RG} (hL : True) (hi : isL N K len ρ i) (hF : F_X3_startsAnew i a1 σ ρ = some σ1) : MT l Y D N ad K len yX3_startsAnew (Cond.code yX3_startsAnew cX3_startsAnew 2 none :: wsL_law) rm_X3_startsAnew [.ref (ad i), .int a1] σ ρ none σ1 ρ := by
  refine mt_of (cc := cX3_startsAnew) (nL := 2) (ret := none) (by decide) (Nat.le_of_ble_eq_true rfl) ?_
  intro p e s m args below meth c ls C hnm hP hS hl
  exact w_X3_startsAnew_0 C rfl hL hi hF hP hS hl

/-! CutCrooked$Loaf.void takes(CutCrooked$Loaf);  -/
theorem dX3_takes_0 : decode cX3_takes 0 = .ok (.aload_n 0, 1) := by decide +kernel
theorem dX3_takes_1 : decode cX3_takes 1 = .ok (.aload_n 1, 1) := by decide +kernel
theorem dX3_takes_2 : decode cX3_takes 2 = .ok (.getfield 15, 3) := by decide +kernel
theorem dX3_takes_5 : decode cX3_takes 5 = .ok (.putfield 15, 3) := by decide +kernel
theorem dX3_takes_8 : decode cX3_takes 8 = .ok (.aload_n 0, 1) := by decide +kernel
theorem dX3_takes_9 : decode cX3_takes 9 = .ok (.aload_n 1, 1) := by decide +kernel
theorem dX3_takes_10 : decode cX3_takes 10 = .ok (.getfield 19, 3) := by decide +kernel
theorem dX3_takes_13 : decode cX3_takes 13 = .ok (.putfield 19, 3) := by decide +kernel
theorem dX3_takes_16 : decode cX3_takes 16 = .ok (.aload_n 0, 1) := by decide +kernel
theorem dX3_takes_17 : decode cX3_takes 17 = .ok (.aload_n 1, 1) := by decide +kernel
theorem dX3_takes_18 : decode cX3_takes 18 = .ok (.getfield 22, 3) := by decide +kernel
theorem dX3_takes_21 : decode cX3_takes 21 = .ok (.putfield 22, 3) := by decide +kernel
theorem dX3_takes_24 : decode cX3_takes 24 = .ok (.aload_n 0, 1) := by decide +kernel
theorem dX3_takes_25 : decode cX3_takes 25 = .ok (.aload_n 1, 1) := by decide +kernel
theorem dX3_takes_26 : decode cX3_takes 26 = .ok (.getfield 25, 3) := by decide +kernel
theorem dX3_takes_29 : decode cX3_takes 29 = .ok (.putfield 25, 3) := by decide +kernel
theorem dX3_takes_32 : decode cX3_takes 32 = .ok (.aload_n 0, 1) := by decide +kernel
theorem dX3_takes_33 : decode cX3_takes 33 = .ok (.aload_n 1, 1) := by decide +kernel
theorem dX3_takes_34 : decode cX3_takes 34 = .ok (.getfield 28, 3) := by decide +kernel
theorem dX3_takes_37 : decode cX3_takes 37 = .ok (.putfield 28, 3) := by decide +kernel
theorem dX3_takes_40 : decode cX3_takes 40 = .ok (.aload_n 0, 1) := by decide +kernel
theorem dX3_takes_41 : decode cX3_takes 41 = .ok (.aload_n 1, 1) := by decide +kernel
theorem dX3_takes_42 : decode cX3_takes 42 = .ok (.getfield 31, 3) := by decide +kernel
theorem dX3_takes_45 : decode cX3_takes 45 = .ok (.putfield 31, 3) := by decide +kernel
theorem dX3_takes_48 : decode cX3_takes 48 = .ok (.aload_n 0, 1) := by decide +kernel
theorem dX3_takes_49 : decode cX3_takes 49 = .ok (.aload_n 1, 1) := by decide +kernel
theorem dX3_takes_50 : decode cX3_takes 50 = .ok (.getfield 34, 3) := by decide +kernel
theorem dX3_takes_53 : decode cX3_takes 53 = .ok (.putfield 34, 3) := by decide +kernel
theorem dX3_takes_56 : decode cX3_takes 56 = .ok (.aload_n 0, 1) := by decide +kernel
theorem dX3_takes_57 : decode cX3_takes 57 = .ok (.aload_n 1, 1) := by decide +kernel
theorem dX3_takes_58 : decode cX3_takes 58 = .ok (.getfield 37, 3) := by decide +kernel
theorem dX3_takes_61 : decode cX3_takes 61 = .ok (.putfield 37, 3) := by decide +kernel
theorem dX3_takes_64 : decode cX3_takes 64 = .ok (.aload_n 0, 1) := by decide +kernel
theorem dX3_takes_65 : decode cX3_takes 65 = .ok (.aload_n 1, 1) := by decide +kernel
theorem dX3_takes_66 : decode cX3_takes 66 = .ok (.getfield 40, 3) := by decide +kernel
theorem dX3_takes_69 : decode cX3_takes 69 = .ok (.putfield 40, 3) := by decide +kernel
theorem dX3_takes_72 : decode cX3_takes 72 = .ok (.return_, 1) := by decide +kernel
theorem hd_X3_takes : yX3_takes.cls = RX3 ∧ yX3_takes.cls ≠ "java/lang/invoke/MethodHandle" ∧ yX3_takes.cls ≠ "java/lang/invoke/VarHandle" ∧ (parseMethodDescriptor yX3_takes.desc).map (fun d => d.parameters.length) = some 1 := by decide +kernel
abbrev rm_X3_takes : Room := { frames := 0, cells := 0, slots := 0, locals := 0 }
def F_X3_takes (i : Nat) (j : Nat) (σ : SG) (ρ : RG) : Option (SG) :=
  nm (s2 σ i 0 (σ j 0)) fun σ2 =>
  nm (s2 σ2 i 1 (σ2 j 1)) fun σ4 =>
  nm (s2 σ4 i 2 (σ4 j 2)) fun σ6 =>
  nm (s2 σ6 i 3 (σ6 j 3)) fun σ8 =>
  nm (s2 σ8 i 4 (σ8 j 4)) fun σ10 =>
  nm (s2 σ10 i 5 (σ10 j 5)) fun σ12 =>
  nm (s2 σ12 i 6 (σ12 j 6)) fun σ14 =>
  nm (s2 σ14 i 7 (σ14 j 7)) fun σ16 =>
  nm (s2 σ16 i 8 (σ16 j 8)) fun σ18 =>
  some σ18
set_option maxHeartbeats 4000000 in
set_option maxRecDepth 100000 in
theorem w_X3_takes_0 {i : Nat} {j : Nat} {p : Program} {e : Env} {s : State} {m : MethodId} {args : Array Value} {below : List Frame} {meth : Method} {c : Code} {ρ0 : RG} {σ1 : SG} (C : Cx Y D N ad p s m args meth c cX3_takes 2 none RX3 wsL_law) {σ : SG} {ρ : RG} {H : Heap} {locs : List Loc} {ls : Array Slot} (hρ0 : ρ = ρ0) (hL : Lay N K len ρ) (hi : isL N K len ρ i) (hj : isL N K len ρ j) (hF : F_X3_takes i j σ ρ = some σ1) (hP : WP Y D N ad K len σ ρ H) (hS : va_S (AA N ad s.heap.size) s.heap H locs) (hl : lv_has ls 2 [(0, .ref (ad i)), (1, .ref (ad j))]) : W p l e rm_X3_takes s m args below meth c H locs 0 0 (MQ below (QW Y D N ad K len σ1 ρ0 (AA N ad s.heap.size) none) args s 0 0 (AA N ad s.heap.size)) (F0 m 0 ls []) := by
  have hx := C.1.1
  have hb := C.1.2.1
  unfold F_X3_takes at hF
  refine lv_aload_n hx hb dX3_takes_0 rfl (lv_at hl 0 rfl) ?_
  refine lv_aload_n hx hb dX3_takes_1 rfl (lv_at hl 1 rfl) ?_
  refine get_3_0 C hP hj.1 hj.2.1 inlX3 mw_67 dX3_takes_2 ?_
  obtain ⟨σ2, eσ2, hF⟩ := nm_1 hF
  refine put_3_0 C hP hS hi.1 hi.2.1 inlX3 mw_67 eσ2 dX3_takes_5 (fun H locs hP hS => ?_)
  refine lv_aload_n hx hb dX3_takes_8 rfl (lv_at hl 0 rfl) ?_
  refine lv_aload_n hx hb dX3_takes_9 rfl (lv_at hl 1 rfl) ?_
  refine get_3_1 C hP hj.1 hj.2.1 inlX3 mw_68 dX3_takes_10 ?_
  obtain ⟨σ4, eσ4, hF⟩ := nm_1 hF
  refine put_3_1 C hP hS hi.1 hi.2.1 inlX3 mw_68 eσ4 dX3_takes_13 (fun H locs hP hS => ?_)
  refine lv_aload_n hx hb dX3_takes_16 rfl (lv_at hl 0 rfl) ?_
  refine lv_aload_n hx hb dX3_takes_17 rfl (lv_at hl 1 rfl) ?_
  refine get_3_2 C hP hj.1 hj.2.1 inlX3 mw_69 dX3_takes_18 ?_
  obtain ⟨σ6, eσ6, hF⟩ := nm_1 hF
  refine put_3_2 C hP hS hi.1 hi.2.1 inlX3 mw_69 eσ6 dX3_takes_21 (fun H locs hP hS => ?_)
  refine lv_aload_n hx hb dX3_takes_24 rfl (lv_at hl 0 rfl) ?_
  refine lv_aload_n hx hb dX3_takes_25 rfl (lv_at hl 1 rfl) ?_
  refine get_3_3 C hP hj.1 hj.2.1 inlX3 mw_70 dX3_takes_26 ?_
  obtain ⟨σ8, eσ8, hF⟩ := nm_1 hF
  refine put_3_3 C hP hS hi.1 hi.2.1 inlX3 mw_70 eσ8 dX3_takes_29 (fun H locs hP hS => ?_)
  refine lv_aload_n hx hb dX3_takes_32 rfl (lv_at hl 0 rfl) ?_
  refine lv_aload_n hx hb dX3_takes_33 rfl (lv_at hl 1 rfl) ?_
  refine get_3_4 C hP hj.1 hj.2.1 inlX3 mw_71 dX3_takes_34 ?_
  obtain ⟨σ10, eσ10, hF⟩ := nm_1 hF
  refine put_3_4 C hP hS hi.1 hi.2.1 inlX3 mw_71 eσ10 dX3_takes_37 (fun H locs hP hS => ?_)
  refine lv_aload_n hx hb dX3_takes_40 rfl (lv_at hl 0 rfl) ?_
  refine lv_aload_n hx hb dX3_takes_41 rfl (lv_at hl 1 rfl) ?_
  refine get_3_5 C hP hj.1 hj.2.1 inlX3 mw_72 dX3_takes_42 ?_
  obtain ⟨σ12, eσ12, hF⟩ := nm_1 hF
  refine put_3_5 C hP hS hi.1 hi.2.1 inlX3 mw_72 eσ12 dX3_takes_45 (fun H locs hP hS => ?_)
  refine lv_aload_n hx hb dX3_takes_48 rfl (lv_at hl 0 rfl) ?_
  refine lv_aload_n hx hb dX3_takes_49 rfl (lv_at hl 1 rfl) ?_
  refine get_3_6 C hP hj.1 hj.2.1 inlX3 mw_640 dX3_takes_50 ?_
  obtain ⟨σ14, eσ14, hF⟩ := nm_1 hF
  refine put_3_6 C hP hS hi.1 hi.2.1 inlX3 mw_640 eσ14 dX3_takes_53 (fun H locs hP hS => ?_)
  refine lv_aload_n hx hb dX3_takes_56 rfl (lv_at hl 0 rfl) ?_
  refine lv_aload_n hx hb dX3_takes_57 rfl (lv_at hl 1 rfl) ?_
  refine get_3_7 C hP hj.1 hj.2.1 inlX3 mw_641 dX3_takes_58 ?_
  obtain ⟨σ16, eσ16, hF⟩ := nm_1 hF
  refine put_3_7 C hP hS hi.1 hi.2.1 inlX3 mw_641 eσ16 dX3_takes_61 (fun H locs hP hS => ?_)
  refine lv_aload_n hx hb dX3_takes_64 rfl (lv_at hl 0 rfl) ?_
  refine lv_aload_n hx hb dX3_takes_65 rfl (lv_at hl 1 rfl) ?_
  refine get_3_8 C hP hj.1 hj.2.1 inlX3 mw_642 dX3_takes_66 ?_
  obtain ⟨σ18, eσ18, hF⟩ := nm_1 hF
  refine put_3_8 C hP hS hi.1 hi.2.1 inlX3 mw_642 eσ18 dX3_takes_69 (fun H locs hP hS => ?_)
  obtain rfl := ret_1 hF
  subst hρ0
  exact x_vret rfl C hP hS dX3_takes_72
set_option maxHeartbeats 4000000 in
set_option maxRecDepth 100000 in
theorem c_X3_takes {i : Nat} {j : Nat} {σ1 : SG} {σ : SG} {ρ : RG} (hL : Lay N K len ρ) (hi : isL N K len ρ i) (hj : isL N K len ρ j) (hF : F_X3_takes i j σ ρ = some σ1) : MT l Y D N ad K len yX3_takes (Cond.code yX3_takes cX3_takes 2 none :: wsL_law) rm_X3_takes [.ref (ad i), .ref (ad j)] σ ρ none σ1 ρ := by
  refine mt_of (cc := cX3_takes) (nL := 2) (ret := none) (by decide) (Nat.le_of_ble_eq_true rfl) ?_
  intro p e s m args below meth c ls C hnm hP hS hl
  exact w_X3_takes_0 C rfl hL hi hj hF hP hS hl

/-! CutCrooked$Loaf.int corner(int);  -/
theorem dX3_corner_0 : decode cX3_corner 0 = .ok (.aload_n 0, 1) := by decide +kernel
theorem dX3_corner_1 : decode cX3_corner 1 = .ok (.getfield 19, 3) := by decide +kernel
theorem dX3_corner_4 : decode cX3_corner 4 = .ok (.iload_n 1, 1) := by decide +kernel
theorem dX3_corner_5 : decode cX3_corner 5 = .ok (.aload_n 0, 1) := by decide +kernel
theorem dX3_corner_6 : decode cX3_corner 6 = .ok (.getfield 22, 3) := by decide +kernel
theorem dX3_corner_9 : decode cX3_corner 9 = .ok (.aload_n 0, 1) := by decide +kernel
theorem dX3_corner_10 : decode cX3_corner 10 = .ok (.getfield 25, 3) := by decide +kernel
theorem dX3_corner_13 : decode cX3_corner 13 = .ok (.invokestatic 43, 3) := by decide +kernel
theorem dX3_corner_16 : decode cX3_corner 16 = .ok (.iadd, 1) := by decide +kernel
theorem dX3_corner_17 : decode cX3_corner 17 = .ok (.ireturn, 1) := by decide +kernel
theorem hd_X3_corner : yX3_corner.cls = RX3 ∧ yX3_corner.cls ≠ "java/lang/invoke/MethodHandle" ∧ yX3_corner.cls ≠ "java/lang/invoke/VarHandle" ∧ (parseMethodDescriptor yX3_corner.desc).map (fun d => d.parameters.length) = some 1 := by decide +kernel
abbrev rm_X3_corner : Room := { frames := 1, cells := 0, slots := 0, locals := 22 }
def F_X3_corner (i : Nat) (a1 : Int32) (σ : SG) (ρ : RG) : Option (Int32) :=
  bn (F_X3_acrossAt a1 (σ i 2) (σ i 3) σ ρ) fun r1 =>
  nm ((σ i 1) + r1) fun x2 =>
  some x2
set_option maxHeartbeats 4000000 in
set_option maxRecDepth 100000 in
theorem w_X3_corner_0 {i : Nat} {a1 : Int32} {p : Program} {e : Env} {s : State} {m : MethodId} {args : Array Value} {below : List Frame} {meth : Method} {c : Code} {σ0 : SG} {ρ0 : RG} {r : Int32} (C : Cx Y D N ad p s m args meth c cX3_corner 2 (some .int) RX3 wsL_law) {σ : SG} {ρ : RG} {H : Heap} {locs : List Loc} {ls : Array Slot} (hσ0 : σ = σ0) (hρ0 : ρ = ρ0) (hL : Lay N K len ρ) (hi : isL N K len ρ i) (hF : F_X3_corner i a1 σ ρ = some r) (hP : WP Y D N ad K len σ ρ H) (hS : va_S (AA N ad s.heap.size) s.heap H locs) (hl : lv_has ls 2 [(0, .ref (ad i)), (1, .int a1)]) : W p l e rm_X3_corner s m args below meth c H locs 0 0 (MQ below (QW Y D N ad K len σ0 ρ0 (AA N ad s.heap.size) (some (.int r))) args s 0 0 (AA N ad s.heap.size)) (F0 m 0 ls []) := by
  have hx := C.1.1
  have hb := C.1.2.1
  unfold F_X3_corner at hF
  refine lv_aload_n hx hb dX3_corner_0 rfl (lv_at hl 0 rfl) ?_
  refine get_3_1 C hP hi.1 hi.2.1 inlX3 mw_68 dX3_corner_1 ?_
  refine lv_iload_n hx hb dX3_corner_4 rfl (lv_at hl 1 rfl) ?_
  refine lv_aload_n hx hb dX3_corner_5 rfl (lv_at hl 0 rfl) ?_
  refine get_3_2 C hP hi.1 hi.2.1 inlX3 mw_69 dX3_corner_6 ?_
  refine lv_aload_n hx hb dX3_corner_9 rfl (lv_at hl 0 rfl) ?_
  refine get_3_3 C hP hi.1 hi.2.1 inlX3 mw_70 dX3_corner_10 ?_
  obtain ⟨r1, hq1, hF⟩ := bn_1 hF
  refine x_callS C hP hS (c_X3_acrossAt hL hq1) (va_cwS 3 C.1.2.2.2.2 (gdS mw_510 mw_511 mw_31 mw_512) rfl rfl rfl hd_X3_acrossAt.2 ⟨Nat.le_of_ble_eq_true rfl, Nat.le_of_ble_eq_true rfl⟩) rfl rfl hl.1 (Nat.le_of_ble_eq_true rfl) ⟨Nat.zero_le _, Nat.zero_le _⟩ dX3_corner_13 (fun H locs hP hS => ?_)
  refine lv_iadd hx hb dX3_corner_16 ?_
  obtain ⟨x2, ex2, hF⟩ := nm_1 hF
  refine x_top ex2 ?_
  obtain rfl := ret_1 hF
  subst hσ0
  subst hρ0
  exact x_iret rfl C hP hS dX3_corner_17
set_option maxHeartbeats 4000000 in
set_option maxRecDepth 100000 in
theorem c_X3_corner {i : Nat} {a1 : Int32} {r : Int32} {σ : SG} {ρ : RG} (hL : Lay N K len ρ) (hi : isL N K len ρ i) (hF : F_X3_corner i a1 σ ρ = some r) : MT l Y D N ad K len yX3_corner (Cond.code yX3_corner cX3_corner 2 (some .int) :: wsL_law) rm_X3_corner [.ref (ad i), .int a1] σ ρ (some (.int r)) σ ρ := by
  refine mt_of (cc := cX3_corner) (nL := 2) (ret := (some .int)) (by decide) (Nat.le_of_ble_eq_true rfl) ?_
  intro p e s m args below meth c ls C hnm hP hS hl
  exact w_X3_corner_0 C rfl rfl hL hi hF hP hS hl

/-! CutCrooked$Loaf.int slope();  -/
theorem dX3_slope_0 : decode cX3_slope 0 = .ok (.aload_n 0, 1) := by decide +kernel
theorem dX3_slope_1 : decode cX3_slope 1 = .ok (.getfield 22, 3) := by decide +kernel
theorem dX3_slope_4 : decode cX3_slope 4 = .ok (.invokestatic 47, 3) := by decide +kernel
theorem dX3_slope_7 : decode cX3_slope 7 = .ok (.aload_n 0, 1) := by decide +kernel
theorem dX3_slope_8 : decode cX3_slope 8 = .ok (.getfield 25, 3) := by decide +kernel
theorem dX3_slope_11 : decode cX3_slope 11 = .ok (.invokestatic 47, 3) := by decide +kernel
theorem dX3_slope_14 : decode cX3_slope 14 = .ok (.iadd, 1) := by decide +kernel
theorem dX3_slope_15 : decode cX3_slope 15 = .ok (.ireturn, 1) := by decide +kernel
theorem hd_X3_slope : yX3_slope.cls = RX3 ∧ yX3_slope.cls ≠ "java/lang/invoke/MethodHandle" ∧ yX3_slope.cls ≠ "java/lang/invoke/VarHandle" ∧ (parseMethodDescriptor yX3_slope.desc).map (fun d => d.parameters.length) = some 0 := by decide +kernel
abbrev rm_X3_slope : Room := { frames := 1, cells := 0, slots := 0, locals := 21 }
def F_X3_slope (i : Nat) (σ : SG) (ρ : RG) : Option (Int32) :=
  nm (if 0 ≤ (σ i 2) then (σ i 2) else 0 - (σ i 2)) fun x1 =>
  nm (if 0 ≤ (σ i 3) then (σ i 3) else 0 - (σ i 3)) fun x2 =>
  nm (x1 + x2) fun x3 =>
  some x3
set_option maxHeartbeats 4000000 in
set_option maxRecDepth 100000 in
theorem w_X3_slope_0 {i : Nat} {p : Program} {e : Env} {s : State} {m : MethodId} {args : Array Value} {below : List Frame} {meth : Method} {c : Code} {σ0 : SG} {ρ0 : RG} {r : Int32} (C : Cx Y D N ad p s m args meth c cX3_slope 1 (some .int) RX3 wsL_law) {σ : SG} {ρ : RG} {H : Heap} {locs : List Loc} {ls : Array Slot} (hσ0 : σ = σ0) (hρ0 : ρ = ρ0) (hL : Lay N K len ρ) (hi : isL N K len ρ i) (hF : F_X3_slope i σ ρ = some r) (hP : WP Y D N ad K len σ ρ H) (hS : va_S (AA N ad s.heap.size) s.heap H locs) (hl : lv_has ls 1 [(0, .ref (ad i))]) : W p l e rm_X3_slope s m args below meth c H locs 0 0 (MQ below (QW Y D N ad K len σ0 ρ0 (AA N ad s.heap.size) (some (.int r))) args s 0 0 (AA N ad s.heap.size)) (F0 m 0 ls []) := by
  have hx := C.1.1
  have hb := C.1.2.1
  unfold F_X3_slope at hF
  refine lv_aload_n hx hb dX3_slope_0 rfl (lv_at hl 0 rfl) ?_
  refine get_3_2 C hP hi.1 hi.2.1 inlX3 mw_69 dX3_slope_1 ?_
  refine va_mabs hx hb (C.1.2.2.1.trans hl.1.symm) C.1.2.2.2.1 (C.1.2.2.2.2 _ mw_541) (C.1.2.2.2.2 _ mw_542) (C.1.2.2.2.2 _ mw_234) (C.1.2.2.2.2 _ mw_543) (Nat.le_of_ble_eq_true rfl) (Nat.le_of_ble_eq_true rfl) (Nat.zero_le _) (Nat.zero_le _) dX3_slope_4 ?_
  obtain ⟨x1, ex1, hF⟩ := nm_1 hF
  refine x_top ex1 ?_
  refine lv_aload_n hx hb dX3_slope_7 rfl (lv_at hl 0 rfl) ?_
  refine get_3_3 C hP hi.1 hi.2.1 inlX3 mw_70 dX3_slope_8 ?_
  refine va_mabs hx hb (C.1.2.2.1.trans hl.1.symm) C.1.2.2.2.1 (C.1.2.2.2.2 _ mw_541) (C.1.2.2.2.2 _ mw_542) (C.1.2.2.2.2 _ mw_234) (C.1.2.2.2.2 _ mw_543) (Nat.le_of_ble_eq_true rfl) (Nat.le_of_ble_eq_true rfl) (Nat.zero_le _) (Nat.zero_le _) dX3_slope_11 ?_
  obtain ⟨x2, ex2, hF⟩ := nm_1 hF
  refine x_top ex2 ?_
  refine lv_iadd hx hb dX3_slope_14 ?_
  obtain ⟨x3, ex3, hF⟩ := nm_1 hF
  refine x_top ex3 ?_
  obtain rfl := ret_1 hF
  subst hσ0
  subst hρ0
  exact x_iret rfl C hP hS dX3_slope_15
set_option maxHeartbeats 4000000 in
set_option maxRecDepth 100000 in
theorem c_X3_slope {i : Nat} {r : Int32} {σ : SG} {ρ : RG} (hL : Lay N K len ρ) (hi : isL N K len ρ i) (hF : F_X3_slope i σ ρ = some r) : MT l Y D N ad K len yX3_slope (Cond.code yX3_slope cX3_slope 1 (some .int) :: wsL_law) rm_X3_slope [.ref (ad i)] σ ρ (some (.int r)) σ ρ := by
  refine mt_of (cc := cX3_slope) (nL := 1) (ret := (some .int)) (by decide) (Nat.le_of_ble_eq_true rfl) ?_
  intro p e s m args below meth c ls C hnm hP hS hl
  exact w_X3_slope_0 C rfl rfl hL hi hF hP hS hl

/-! CutCrooked$Loaf.int leastCorner();  -/
theorem dX3_leastCorner_0 : decode cX3_leastCorner 0 = .ok (.aload_n 0, 1) := by decide +kernel
theorem dX3_leastCorner_1 : decode cX3_leastCorner 1 = .ok (.getfield 19, 3) := by decide +kernel
theorem dX3_leastCorner_4 : decode cX3_leastCorner 4 = .ok (.aload_n 0, 1) := by decide +kernel
theorem dX3_leastCorner_5 : decode cX3_leastCorner 5 = .ok (.invokevirtual 53, 3) := by decide +kernel
theorem dX3_leastCorner_8 : decode cX3_leastCorner 8 = .ok (.isub, 1) := by decide +kernel
theorem dX3_leastCorner_9 : decode cX3_leastCorner 9 = .ok (.ireturn, 1) := by decide +kernel
theorem hd_X3_leastCorner : yX3_leastCorner.cls = RX3 ∧ yX3_leastCorner.cls ≠ "java/lang/invoke/MethodHandle" ∧ yX3_leastCorner.cls ≠ "java/lang/invoke/VarHandle" ∧ (parseMethodDescriptor yX3_leastCorner.desc).map (fun d => d.parameters.length) = some 0 := by decide +kernel
abbrev rm_X3_leastCorner : Room := { frames := 2, cells := 0, slots := 0, locals := 41 }
def F_X3_leastCorner (i : Nat) (σ : SG) (ρ : RG) : Option (Int32) :=
  bn (F_X3_slope i σ ρ) fun r1 =>
  nm ((σ i 1) - r1) fun x2 =>
  some x2
set_option maxHeartbeats 4000000 in
set_option maxRecDepth 100000 in
theorem w_X3_leastCorner_0 {i : Nat} {p : Program} {e : Env} {s : State} {m : MethodId} {args : Array Value} {below : List Frame} {meth : Method} {c : Code} {σ0 : SG} {ρ0 : RG} {r : Int32} (C : Cx Y D N ad p s m args meth c cX3_leastCorner 1 (some .int) RX3 wsL_law) {σ : SG} {ρ : RG} {H : Heap} {locs : List Loc} {ls : Array Slot} (hσ0 : σ = σ0) (hρ0 : ρ = ρ0) (hL : Lay N K len ρ) (hi : isL N K len ρ i) (hF : F_X3_leastCorner i σ ρ = some r) (hP : WP Y D N ad K len σ ρ H) (hS : va_S (AA N ad s.heap.size) s.heap H locs) (hl : lv_has ls 1 [(0, .ref (ad i))]) : W p l e rm_X3_leastCorner s m args below meth c H locs 0 0 (MQ below (QW Y D N ad K len σ0 ρ0 (AA N ad s.heap.size) (some (.int r))) args s 0 0 (AA N ad s.heap.size)) (F0 m 0 ls []) := by
  have hx := C.1.1
  have hb := C.1.2.1
  unfold F_X3_leastCorner at hF
  refine lv_aload_n hx hb dX3_leastCorner_0 rfl (lv_at hl 0 rfl) ?_
  refine get_3_1 C hP hi.1 hi.2.1 inlX3 mw_68 dX3_leastCorner_1 ?_
  refine lv_aload_n hx hb dX3_leastCorner_4 rfl (lv_at hl 0 rfl) ?_
  obtain ⟨r1, hq1, hF⟩ := bn_1 hF
  refine x_callV (ci := 3) rfl rfl C hP hS (c_X3_slope hL hi hq1) hi.1 hi.2.1 (cwV 0 C.1.2.2.2.2 (gdV mw_578 mw_579 mw_580 mw_31 mw_581) rfl rfl rfl hd_X3_slope ⟨Nat.le_of_ble_eq_true rfl, Nat.le_of_ble_eq_true rfl⟩) rfl rfl hl.1 (Nat.le_of_ble_eq_true rfl) ⟨Nat.zero_le _, Nat.zero_le _⟩ dX3_leastCorner_5 (fun H locs hP hS => ?_)
  refine lv_isub hx hb dX3_leastCorner_8 ?_
  obtain ⟨x2, ex2, hF⟩ := nm_1 hF
  refine x_top ex2 ?_
  obtain rfl := ret_1 hF
  subst hσ0
  subst hρ0
  exact x_iret rfl C hP hS dX3_leastCorner_9
set_option maxHeartbeats 4000000 in
set_option maxRecDepth 100000 in
theorem c_X3_leastCorner {i : Nat} {r : Int32} {σ : SG} {ρ : RG} (hL : Lay N K len ρ) (hi : isL N K len ρ i) (hF : F_X3_leastCorner i σ ρ = some r) : MT l Y D N ad K len yX3_leastCorner (Cond.code yX3_leastCorner cX3_leastCorner 1 (some .int) :: wsL_law) rm_X3_leastCorner [.ref (ad i)] σ ρ (some (.int r)) σ ρ := by
  refine mt_of (cc := cX3_leastCorner) (nL := 1) (ret := (some .int)) (by decide) (Nat.le_of_ble_eq_true rfl) ?_
  intro p e s m args below meth c ls C hnm hP hS hl
  exact w_X3_leastCorner_0 C rfl rfl hL hi hF hP hS hl

/-! CutCrooked$Loaf.int straighten();  -/
theorem dX3_straighten_0 : decode cX3_straighten 0 = .ok (.aload_n 0, 1) := by decide +kernel
theorem dX3_straighten_1 : decode cX3_straighten 1 = .ok (.invokevirtual 53, 3) := by decide +kernel
theorem dX3_straighten_4 : decode cX3_straighten 4 = .ok (.istore_n 1, 1) := by decide +kernel
theorem dX3_straighten_5 : decode cX3_straighten 5 = .ok (.aload_n 0, 1) := by decide +kernel
theorem dX3_straighten_6 : decode cX3_straighten 6 = .ok (.dup, 1) := by decide +kernel
theorem dX3_straighten_7 : decode cX3_straighten 7 = .ok (.getfield 19, 3) := by decide +kernel
theorem dX3_straighten_10 : decode cX3_straighten 10 = .ok (.iload_n 1, 1) := by decide +kernel
theorem dX3_straighten_11 : decode cX3_straighten 11 = .ok (.isub, 1) := by decide +kernel
theorem dX3_straighten_12 : decode cX3_straighten 12 = .ok (.putfield 19, 3) := by decide +kernel
theorem dX3_straighten_15 : decode cX3_straighten 15 = .ok (.aload_n 0, 1) := by decide +kernel
theorem dX3_straighten_16 : decode cX3_straighten 16 = .ok (.iconst 0, 1) := by decide +kernel
theorem dX3_straighten_17 : decode cX3_straighten 17 = .ok (.putfield 22, 3) := by decide +kernel
theorem dX3_straighten_20 : decode cX3_straighten 20 = .ok (.aload_n 0, 1) := by decide +kernel
theorem dX3_straighten_21 : decode cX3_straighten 21 = .ok (.iconst 0, 1) := by decide +kernel
theorem dX3_straighten_22 : decode cX3_straighten 22 = .ok (.putfield 25, 3) := by decide +kernel
theorem dX3_straighten_25 : decode cX3_straighten 25 = .ok (.aload_n 0, 1) := by decide +kernel
theorem dX3_straighten_26 : decode cX3_straighten 26 = .ok (.dup, 1) := by decide +kernel
theorem dX3_straighten_27 : decode cX3_straighten 27 = .ok (.getfield 31, 3) := by decide +kernel
theorem dX3_straighten_30 : decode cX3_straighten 30 = .ok (.iconst 4, 1) := by decide +kernel
theorem dX3_straighten_31 : decode cX3_straighten 31 = .ok (.iload_n 1, 1) := by decide +kernel
theorem dX3_straighten_32 : decode cX3_straighten 32 = .ok (.imul, 1) := by decide +kernel
theorem dX3_straighten_33 : decode cX3_straighten 33 = .ok (.iadd, 1) := by decide +kernel
theorem dX3_straighten_34 : decode cX3_straighten 34 = .ok (.putfield 31, 3) := by decide +kernel
theorem dX3_straighten_37 : decode cX3_straighten 37 = .ok (.iconst 4, 1) := by decide +kernel
theorem dX3_straighten_38 : decode cX3_straighten 38 = .ok (.iload_n 1, 1) := by decide +kernel
theorem dX3_straighten_39 : decode cX3_straighten 39 = .ok (.imul, 1) := by decide +kernel
theorem dX3_straighten_40 : decode cX3_straighten 40 = .ok (.ireturn, 1) := by decide +kernel
theorem hd_X3_straighten : yX3_straighten.cls = RX3 ∧ yX3_straighten.cls ≠ "java/lang/invoke/MethodHandle" ∧ yX3_straighten.cls ≠ "java/lang/invoke/VarHandle" ∧ (parseMethodDescriptor yX3_straighten.desc).map (fun d => d.parameters.length) = some 0 := by decide +kernel
abbrev rm_X3_straighten : Room := { frames := 2, cells := 0, slots := 0, locals := 41 }
def F_X3_straighten (i : Nat) (σ : SG) (ρ : RG) : Option (Int32 × SG) :=
  bn (F_X3_slope i σ ρ) fun r1 =>
  nm ((σ i 1) - r1) fun x2 =>
  nm (s2 σ i 1 x2) fun σ4 =>
  nm (s2 σ4 i 2 (0 : Int32)) fun σ6 =>
  nm (s2 σ6 i 3 (0 : Int32)) fun σ8 =>
  nm ((4 : Int32) * r1) fun x9 =>
  nm ((σ8 i 5) + x9) fun x10 =>
  nm (s2 σ8 i 5 x10) fun σ12 =>
  nm ((4 : Int32) * r1) fun x13 =>
  some (x13, σ12)
set_option maxHeartbeats 4000000 in
set_option maxRecDepth 100000 in
theorem w_X3_straighten_0 {i : Nat} {p : Program} {e : Env} {s : State} {m : MethodId} {args : Array Value} {below : List Frame} {meth : Method} {c : Code} {ρ0 : RG} {r : Int32} {σ1 : SG} (C : Cx Y D N ad p s m args meth c cX3_straighten 2 (some .int) RX3 wsL_law) {σ : SG} {ρ : RG} {H : Heap} {locs : List Loc} {ls : Array Slot} (hρ0 : ρ = ρ0) (hL : Lay N K len ρ) (hi : isL N K len ρ i) (hF : F_X3_straighten i σ ρ = some (r, σ1)) (hP : WP Y D N ad K len σ ρ H) (hS : va_S (AA N ad s.heap.size) s.heap H locs) (hl : lv_has ls 2 [(0, .ref (ad i))]) : W p l e rm_X3_straighten s m args below meth c H locs 0 0 (MQ below (QW Y D N ad K len σ1 ρ0 (AA N ad s.heap.size) (some (.int r))) args s 0 0 (AA N ad s.heap.size)) (F0 m 0 ls []) := by
  have hx := C.1.1
  have hb := C.1.2.1
  unfold F_X3_straighten at hF
  refine lv_aload_n hx hb dX3_straighten_0 rfl (lv_at hl 0 rfl) ?_
  obtain ⟨r1, hq1, hF⟩ := bn_1 hF
  refine x_callV (ci := 3) rfl rfl C hP hS (c_X3_slope hL hi hq1) hi.1 hi.2.1 (cwV 0 C.1.2.2.2.2 (gdV mw_578 mw_579 mw_580 mw_31 mw_581) rfl rfl rfl hd_X3_slope ⟨Nat.le_of_ble_eq_true rfl, Nat.le_of_ble_eq_true rfl⟩) rfl rfl hl.1 (Nat.le_of_ble_eq_true rfl) ⟨Nat.zero_le _, Nat.zero_le _⟩ dX3_straighten_1 (fun H locs hP hS => ?_)
  refine lv_istore_n (lv' := [(1, .int r1), (0, .ref (ad i))]) hx hb dX3_straighten_4 rfl hl (by decide) rfl (fun ls hl => ?_)
  refine lv_aload_n hx hb dX3_straighten_5 rfl (lv_at hl 1 rfl) ?_
  refine lv_dup hx hb dX3_straighten_6 rfl ?_
  refine get_3_1 C hP hi.1 hi.2.1 inlX3 mw_68 dX3_straighten_7 ?_
  refine lv_iload_n hx hb dX3_straighten_10 rfl (lv_at hl 0 rfl) ?_
  refine lv_isub hx hb dX3_straighten_11 ?_
  obtain ⟨x2, ex2, hF⟩ := nm_1 hF
  refine x_top ex2 ?_
  obtain ⟨σ4, eσ4, hF⟩ := nm_1 hF
  refine put_3_1 C hP hS hi.1 hi.2.1 inlX3 mw_68 eσ4 dX3_straighten_12 (fun H locs hP hS => ?_)
  refine lv_aload_n hx hb dX3_straighten_15 rfl (lv_at hl 1 rfl) ?_
  refine lv_iconst (v := 0) hx hb dX3_straighten_16 (by decide) ?_
  obtain ⟨σ6, eσ6, hF⟩ := nm_1 hF
  refine put_3_2 C hP hS hi.1 hi.2.1 inlX3 mw_69 eσ6 dX3_straighten_17 (fun H locs hP hS => ?_)
  refine lv_aload_n hx hb dX3_straighten_20 rfl (lv_at hl 1 rfl) ?_
  refine lv_iconst (v := 0) hx hb dX3_straighten_21 (by decide) ?_
  obtain ⟨σ8, eσ8, hF⟩ := nm_1 hF
  refine put_3_3 C hP hS hi.1 hi.2.1 inlX3 mw_70 eσ8 dX3_straighten_22 (fun H locs hP hS => ?_)
  refine lv_aload_n hx hb dX3_straighten_25 rfl (lv_at hl 1 rfl) ?_
  refine lv_dup hx hb dX3_straighten_26 rfl ?_
  refine get_3_5 C hP hi.1 hi.2.1 inlX3 mw_72 dX3_straighten_27 ?_
  refine lv_iconst (v := 4) hx hb dX3_straighten_30 (by decide) ?_
  refine lv_iload_n hx hb dX3_straighten_31 rfl (lv_at hl 0 rfl) ?_
  refine lv_imul hx hb dX3_straighten_32 ?_
  obtain ⟨x9, ex9, hF⟩ := nm_1 hF
  refine x_top ex9 ?_
  refine lv_iadd hx hb dX3_straighten_33 ?_
  obtain ⟨x10, ex10, hF⟩ := nm_1 hF
  refine x_top ex10 ?_
  obtain ⟨σ12, eσ12, hF⟩ := nm_1 hF
  refine put_3_5 C hP hS hi.1 hi.2.1 inlX3 mw_72 eσ12 dX3_straighten_34 (fun H locs hP hS => ?_)
  refine lv_iconst (v := 4) hx hb dX3_straighten_37 (by decide) ?_
  refine lv_iload_n hx hb dX3_straighten_38 rfl (lv_at hl 0 rfl) ?_
  refine lv_imul hx hb dX3_straighten_39 ?_
  obtain ⟨x13, ex13, hF⟩ := nm_1 hF
  refine x_top ex13 ?_
  obtain ⟨rfl, rfl⟩ := ret_2 hF
  subst hρ0
  exact x_iret rfl C hP hS dX3_straighten_40
set_option maxHeartbeats 4000000 in
set_option maxRecDepth 100000 in
theorem c_X3_straighten {i : Nat} {r : Int32} {σ1 : SG} {σ : SG} {ρ : RG} (hL : Lay N K len ρ) (hi : isL N K len ρ i) (hF : F_X3_straighten i σ ρ = some (r, σ1)) : MT l Y D N ad K len yX3_straighten (Cond.code yX3_straighten cX3_straighten 2 (some .int) :: wsL_law) rm_X3_straighten [.ref (ad i)] σ ρ (some (.int r)) σ1 ρ := by
  refine mt_of (cc := cX3_straighten) (nL := 2) (ret := (some .int)) (by decide) (Nat.le_of_ble_eq_true rfl) ?_
  intro p e s m args below meth c ls C hnm hP hS hl
  exact w_X3_straighten_0 C rfl hL hi hF hP hS hl

/-! CutCrooked$Board.private int next(); 29 -/
theorem dX0_next_0 : decode cX0_next 0 = .ok (.aload_n 0, 1) := by decide +kernel
theorem dX0_next_1 : decode cX0_next 1 = .ok (.getfield 56, 3) := by decide +kernel
theorem dX0_next_4 : decode cX0_next 4 = .ok (.ifnull 45, 3) := by decide +kernel
theorem dX0_next_7 : decode cX0_next 7 = .ok (.aload_n 0, 1) := by decide +kernel
theorem dX0_next_8 : decode cX0_next 8 = .ok (.getfield 63, 3) := by decide +kernel
theorem dX0_next_11 : decode cX0_next 11 = .ok (.ifCond .lt 38, 3) := by decide +kernel
theorem dX0_next_14 : decode cX0_next 14 = .ok (.aload_n 0, 1) := by decide +kernel
theorem dX0_next_15 : decode cX0_next 15 = .ok (.getfield 63, 3) := by decide +kernel
theorem dX0_next_18 : decode cX0_next 18 = .ok (.aload_n 0, 1) := by decide +kernel
theorem dX0_next_19 : decode cX0_next 19 = .ok (.getfield 60, 3) := by decide +kernel
theorem dX0_next_22 : decode cX0_next 22 = .ok (.if_icmp .ge 27, 3) := by decide +kernel
theorem dX0_next_25 : decode cX0_next 25 = .ok (.aload_n 0, 1) := by decide +kernel
theorem dX0_next_26 : decode cX0_next 26 = .ok (.getfield 63, 3) := by decide +kernel
theorem dX0_next_29 : decode cX0_next 29 = .ok (.aload_n 0, 1) := by decide +kernel
theorem dX0_next_30 : decode cX0_next 30 = .ok (.getfield 56, 3) := by decide +kernel
theorem dX0_next_33 : decode cX0_next 33 = .ok (.arraylength, 1) := by decide +kernel
theorem dX0_next_34 : decode cX0_next 34 = .ok (.if_icmp .ge 15, 3) := by decide +kernel
theorem dX0_next_37 : decode cX0_next 37 = .ok (.aload_n 0, 1) := by decide +kernel
theorem dX0_next_38 : decode cX0_next 38 = .ok (.getfield 56, 3) := by decide +kernel
theorem dX0_next_41 : decode cX0_next 41 = .ok (.aload_n 0, 1) := by decide +kernel
theorem dX0_next_42 : decode cX0_next 42 = .ok (.getfield 63, 3) := by decide +kernel
theorem dX0_next_45 : decode cX0_next 45 = .ok (.baload, 1) := by decide +kernel
theorem dX0_next_46 : decode cX0_next 46 = .ok (.goto 4, 3) := by decide +kernel
theorem dX0_next_49 : decode cX0_next 49 = .ok (.iconst 0, 1) := by decide +kernel
theorem dX0_next_50 : decode cX0_next 50 = .ok (.ireturn, 1) := by decide +kernel
theorem hd_X0_next : yX0_next.cls = RX0 ∧ yX0_next.cls ≠ "java/lang/invoke/MethodHandle" ∧ yX0_next.cls ≠ "java/lang/invoke/VarHandle" ∧ (parseMethodDescriptor yX0_next.desc).map (fun d => d.parameters.length) = some 0 := by decide +kernel
abbrev rm_X0_next_29 : Room := { frames := 0, cells := 0, slots := 0, locals := 0 }
def F_X0_next_29  (σ : SG) (ρ : RG) : Option (Int32) :=
  oc (ρ 29 8)
   (
    some (0 : Int32))
   (fun c1 =>
    gd (c1 == 10) <|
    if (σ 29 10) < 0 then
      some (0 : Int32)
    else
      if (σ 29 9) ≤ (σ 29 10) then
        some (0 : Int32)
      else
        oc (ρ 29 8)
         (
          none /- none: 33: not a known reference -/)
         (fun c4 =>
          gd (c4 == 10) <|
          if (100 : Int32) ≤ (σ 29 10) then
            some (0 : Int32)
          else
            oc (ρ 29 8)
             (
              none /- none: 45: not a known reference -/)
             (fun c6 =>
              gd (c6 == 10) <|
              gd (inb (σ 29 10) 100) <|
              some (σ 10 ((σ 29 10)).toNatClampNeg))))
set_option maxHeartbeats 4000000 in
set_option maxRecDepth 100000 in
theorem w_X0_next_29_0  {p : Program} {e : Env} {s : State} {m : MethodId} {args : Array Value} {below : List Frame} {meth : Method} {c : Code} {σ0 : SG} {ρ0 : RG} {r : Int32} (C : Cx Y D N ad p s m args meth c cX0_next 1 (some .int) RX0 wsL_law) {σ : SG} {ρ : RG} {H : Heap} {locs : List Loc} {ls : Array Slot} (hσ0 : σ = σ0) (hρ0 : ρ = ρ0) (hL : Lay N K len ρ) (hF : F_X0_next_29 σ ρ = some r) (hP : WP Y D N ad K len σ ρ H) (hS : va_S (AA N ad s.heap.size) s.heap H locs) (hl : lv_has ls 1 [(0, .ref (ad 29))]) : W p l e rm_X0_next_29 s m args below meth c H locs 0 0 (MQ below (QW Y D N ad K len σ0 ρ0 (AA N ad s.heap.size) (some (.int r))) args s 0 0 (AA N ad s.heap.size)) (F0 m 0 ls []) := by
  have hx := C.1.1
  have hb := C.1.2.1
  unfold F_X0_next_29 at hF
  refine lv_aload_n hx hb dX0_next_0 rfl (lv_at hl 0 rfl) ?_
  refine geto_0_8 C hP (lr_29 hL) (lk_29 hL) inlX0 mw_118 dX0_next_1 ?_
  rcases ho1 : (ρ 29 8) with _ | c1
  · have hF := oc_n hF ho1
    refine x_n ?_
    refine lv_ifnullN (tgt := 49) hx hb dX0_next_4 (by decide) ?_
    refine lv_iconst (v := 0) hx hb dX0_next_49 (by decide) ?_
    obtain rfl := ret_1 hF
    subst hσ0
    subst hρ0
    exact x_iret rfl C hP hS dX0_next_50
  · have hF := oc_s hF ho1
    refine x_s ?_
    obtain ⟨gc, hF⟩ := gd_1 hF
    rw [show c1 = 10 from by simpa using gc]
    refine lv_ifnull hx hb dX0_next_4 ?_
    refine lv_aload_n hx hb dX0_next_7 rfl (lv_at hl 0 rfl) ?_
    refine get_0_10 C hP (lr_29 hL) (lk_29 hL) inlX0 mw_120 dX0_next_8 ?_
    refine lv_if_lt (tgt := 49) hx hb dX0_next_11 (by decide) (fun c_2 => ?_) (fun c_2 => ?_) -- COND 2 by_cases c_2 : (σ 29 10) < 0
    · have hF := ite_t hF c_2
      refine lv_iconst (v := 0) hx hb dX0_next_49 (by decide) ?_
      obtain rfl := ret_1 hF
      subst hσ0
      subst hρ0
      exact x_iret rfl C hP hS dX0_next_50
    · have hF := ite_f hF c_2
      refine lv_aload_n hx hb dX0_next_14 rfl (lv_at hl 0 rfl) ?_
      refine get_0_10 C hP (lr_29 hL) (lk_29 hL) inlX0 mw_120 dX0_next_15 ?_
      refine lv_aload_n hx hb dX0_next_18 rfl (lv_at hl 0 rfl) ?_
      refine get_0_9 C hP (lr_29 hL) (lk_29 hL) inlX0 mw_119 dX0_next_19 ?_
      refine lv_icmp_ge (tgt := 49) hx hb dX0_next_22 (by decide) (fun c_3 => ?_) (fun c_3 => ?_) -- COND 3 by_cases c_3 : (σ 29 9) ≤ (σ 29 10)
      · have hF := ite_t hF c_3
        refine lv_iconst (v := 0) hx hb dX0_next_49 (by decide) ?_
        obtain rfl := ret_1 hF
        subst hσ0
        subst hρ0
        exact x_iret rfl C hP hS dX0_next_50
      · have hF := ite_f hF c_3
        refine lv_aload_n hx hb dX0_next_25 rfl (lv_at hl 0 rfl) ?_
        refine get_0_10 C hP (lr_29 hL) (lk_29 hL) inlX0 mw_120 dX0_next_26 ?_
        refine lv_aload_n hx hb dX0_next_29 rfl (lv_at hl 0 rfl) ?_
        refine geto_0_8 C hP (lr_29 hL) (lk_29 hL) inlX0 mw_118 dX0_next_30 ?_
        rcases ho4 : (ρ 29 8) with _ | c4
        · have hF := oc_n hF ho4
          refine x_n ?_
          cases hF
        · have hF := oc_s hF ho4
          refine x_s ?_
          obtain ⟨gc, hF⟩ := gd_1 hF
          rw [show c4 = 10 from by simpa using gc]
          refine x_alen (v := (100 : Int32)) C hP (lr_10 hL) (lk_10 hL) (by decide) (ln_10 hL) (by decide +kernel) dX0_next_33 ?_
          refine lv_icmp_ge (tgt := 49) hx hb dX0_next_34 (by decide) (fun c_5 => ?_) (fun c_5 => ?_) -- COND 5 by_cases c_5 : (100 : Int32) ≤ (σ 29 10)
          · have hF := ite_t hF c_5
            refine lv_iconst (v := 0) hx hb dX0_next_49 (by decide) ?_
            obtain rfl := ret_1 hF
            subst hσ0
            subst hρ0
            exact x_iret rfl C hP hS dX0_next_50
          · have hF := ite_f hF c_5
            refine lv_aload_n hx hb dX0_next_37 rfl (lv_at hl 0 rfl) ?_
            refine geto_0_8 C hP (lr_29 hL) (lk_29 hL) inlX0 mw_118 dX0_next_38 ?_
            rcases ho6 : (ρ 29 8) with _ | c6
            · have hF := oc_n hF ho6
              refine x_n ?_
              refine lv_aload_n hx hb dX0_next_41 rfl (lv_at hl 0 rfl) ?_
              refine get_0_10 C hP (lr_29 hL) (lk_29 hL) inlX0 mw_120 dX0_next_42 ?_
              cases hF
            · have hF := oc_s hF ho6
              refine x_s ?_
              obtain ⟨gc, hF⟩ := gd_1 hF
              rw [show c6 = 10 from by simpa using gc]
              refine lv_aload_n hx hb dX0_next_41 rfl (lv_at hl 0 rfl) ?_
              refine get_0_10 C hP (lr_29 hL) (lk_29 hL) inlX0 mw_120 dX0_next_42 ?_
              obtain ⟨g7, hF⟩ := gd_1 hF
              refine x_bald C hP (lr_10 hL) (lk_10 hL) (ln_10 hL) g7 dX0_next_45 ?_
              refine lv_goto (tgt := 50) hx hb dX0_next_46 (by decide) ?_
              obtain rfl := ret_1 hF
              subst hσ0
              subst hρ0
              exact x_iret rfl C hP hS dX0_next_50
set_option maxHeartbeats 4000000 in
set_option maxRecDepth 100000 in
theorem c_X0_next_29  {r : Int32} {σ : SG} {ρ : RG} (hL : Lay N K len ρ) (hF : F_X0_next_29 σ ρ = some r) : MT l Y D N ad K len yX0_next (Cond.code yX0_next cX0_next 1 (some .int) :: wsL_law) rm_X0_next_29 [.ref (ad 29)] σ ρ (some (.int r)) σ ρ := by
  refine mt_of (cc := cX0_next) (nL := 1) (ret := (some .int)) (by decide) (Nat.le_of_ble_eq_true rfl) ?_
  intro p e s m args below meth c ls C hnm hP hS hl
  exact w_X0_next_29_0 C rfl rfl hL hF hP hS hl

/-! CutCrooked$Board.private boolean readSign(char); 29 -/
theorem dX0_readSign_0 : decode cX0_readSign 0 = .ok (.aload_n 0, 1) := by decide +kernel
theorem dX0_readSign_1 : decode cX0_readSign 1 = .ok (.invokevirtual 74, 3) := by decide +kernel
theorem dX0_readSign_4 : decode cX0_readSign 4 = .ok (.iload_n 1, 1) := by decide +kernel
theorem dX0_readSign_5 : decode cX0_readSign 5 = .ok (.if_icmp .eq 5, 3) := by decide +kernel
theorem dX0_readSign_8 : decode cX0_readSign 8 = .ok (.iconst 0, 1) := by decide +kernel
theorem dX0_readSign_9 : decode cX0_readSign 9 = .ok (.ireturn, 1) := by decide +kernel
theorem dX0_readSign_10 : decode cX0_readSign 10 = .ok (.aload_n 0, 1) := by decide +kernel
theorem dX0_readSign_11 : decode cX0_readSign 11 = .ok (.dup, 1) := by decide +kernel
theorem dX0_readSign_12 : decode cX0_readSign 12 = .ok (.getfield 63, 3) := by decide +kernel
theorem dX0_readSign_15 : decode cX0_readSign 15 = .ok (.iconst 1, 1) := by decide +kernel
theorem dX0_readSign_16 : decode cX0_readSign 16 = .ok (.iadd, 1) := by decide +kernel
theorem dX0_readSign_17 : decode cX0_readSign 17 = .ok (.putfield 63, 3) := by decide +kernel
theorem dX0_readSign_20 : decode cX0_readSign 20 = .ok (.iconst 1, 1) := by decide +kernel
theorem dX0_readSign_21 : decode cX0_readSign 21 = .ok (.ireturn, 1) := by decide +kernel
theorem hd_X0_readSign : yX0_readSign.cls = RX0 ∧ yX0_readSign.cls ≠ "java/lang/invoke/MethodHandle" ∧ yX0_readSign.cls ≠ "java/lang/invoke/VarHandle" ∧ (parseMethodDescriptor yX0_readSign.desc).map (fun d => d.parameters.length) = some 1 := by decide +kernel
abbrev rm_X0_readSign_29 : Room := { frames := 1, cells := 0, slots := 0, locals := 20 }
def F_X0_readSign_29 (a1 : Int32) (σ : SG) (ρ : RG) : Option (Int32 × SG) :=
  bn (F_X0_next_29 σ ρ) fun r1 =>
  if r1 = a1 then
    nm ((σ 29 10) + (1 : Int32)) fun x3 =>
    nm (s2 σ 29 10 x3) fun σ5 =>
    some ((1 : Int32), σ5)
  else
    some ((0 : Int32), σ)
set_option maxHeartbeats 4000000 in
set_option maxRecDepth 100000 in
theorem w_X0_readSign_29_0 {a1 : Int32} {p : Program} {e : Env} {s : State} {m : MethodId} {args : Array Value} {below : List Frame} {meth : Method} {c : Code} {ρ0 : RG} {r : Int32} {σ1 : SG} (C : Cx Y D N ad p s m args meth c cX0_readSign 2 (some .boolean) RX0 wsL_law) {σ : SG} {ρ : RG} {H : Heap} {locs : List Loc} {ls : Array Slot} (hρ0 : ρ = ρ0) (hL : Lay N K len ρ) (hF : F_X0_readSign_29 a1 σ ρ = some (r, σ1)) (hP : WP Y D N ad K len σ ρ H) (hS : va_S (AA N ad s.heap.size) s.heap H locs) (hl : lv_has ls 2 [(0, .ref (ad 29)), (1, .int a1)]) : W p l e rm_X0_readSign_29 s m args below meth c H locs 0 0 (MQ below (QW Y D N ad K len σ1 ρ0 (AA N ad s.heap.size) (some (.int r))) args s 0 0 (AA N ad s.heap.size)) (F0 m 0 ls []) := by
  have hx := C.1.1
  have hb := C.1.2.1
  unfold F_X0_readSign_29 at hF
  refine lv_aload_n hx hb dX0_readSign_0 rfl (lv_at hl 0 rfl) ?_
  obtain ⟨r1, hq1, hF⟩ := bn_1 hF
  refine x_callV (ci := 0) rfl rfl C hP hS (c_X0_next_29 hL hq1) (lr_29 hL) (lk_29 hL) (cwV 0 C.1.2.2.2.2 (gdV mw_128 mw_129 mw_130 mw_23 mw_131) rfl rfl rfl hd_X0_next ⟨Nat.le_of_ble_eq_true rfl, Nat.le_of_ble_eq_true rfl⟩) rfl rfl hl.1 (Nat.le_of_ble_eq_true rfl) ⟨Nat.zero_le _, Nat.zero_le _⟩ dX0_readSign_1 (fun H locs hP hS => ?_)
  refine lv_iload_n hx hb dX0_readSign_4 rfl (lv_at hl 1 rfl) ?_
  refine lv_icmp_eq (tgt := 10) hx hb dX0_readSign_5 (by decide) (fun c_2 => ?_) (fun c_2 => ?_) -- COND 2 by_cases c_2 : r1 = a1
  · have hF := ite_t hF c_2
    refine lv_aload_n hx hb dX0_readSign_10 rfl (lv_at hl 0 rfl) ?_
    refine lv_dup hx hb dX0_readSign_11 rfl ?_
    refine get_0_10 C hP (lr_29 hL) (lk_29 hL) inlX0 mw_120 dX0_readSign_12 ?_
    refine lv_iconst (v := 1) hx hb dX0_readSign_15 (by decide) ?_
    refine lv_iadd hx hb dX0_readSign_16 ?_
    obtain ⟨x3, ex3, hF⟩ := nm_1 hF
    refine x_top ex3 ?_
    obtain ⟨σ5, eσ5, hF⟩ := nm_1 hF
    refine put_0_10 C hP hS (lr_29 hL) (lk_29 hL) inlX0 mw_120 eσ5 dX0_readSign_17 (fun H locs hP hS => ?_)
    refine lv_iconst (v := 1) hx hb dX0_readSign_20 (by decide) ?_
    obtain ⟨rfl, rfl⟩ := ret_2 hF
    subst hρ0
    exact x_zret rfl rfl C hP hS dX0_readSign_21
  · have hF := ite_f hF c_2
    refine lv_iconst (v := 0) hx hb dX0_readSign_8 (by decide) ?_
    obtain ⟨rfl, rfl⟩ := ret_2 hF
    subst hρ0
    exact x_zret rfl rfl C hP hS dX0_readSign_9
set_option maxHeartbeats 4000000 in
set_option maxRecDepth 100000 in
theorem c_X0_readSign_29 {a1 : Int32} {r : Int32} {σ1 : SG} {σ : SG} {ρ : RG} (hL : Lay N K len ρ) (hF : F_X0_readSign_29 a1 σ ρ = some (r, σ1)) : MT l Y D N ad K len yX0_readSign (Cond.code yX0_readSign cX0_readSign 2 (some .boolean) :: wsL_law) rm_X0_readSign_29 [.ref (ad 29), .int a1] σ ρ (some (.int r)) σ1 ρ := by
  refine mt_of (cc := cX0_readSign) (nL := 2) (ret := (some .boolean)) (by decide) (Nat.le_of_ble_eq_true rfl) ?_
  intro p e s m args below meth c ls C hnm hP hS hl
  exact w_X0_readSign_29_0 C rfl hL hF hP hS hl

/-! CutCrooked$Board.private boolean readClause(); 29 -/
theorem dX0_readClause_0 : decode cX0_readClause 0 = .ok (.aload_n 0, 1) := by decide +kernel
theorem dX0_readClause_1 : decode cX0_readClause 1 = .ok (.invokevirtual 74, 3) := by decide +kernel
theorem dX0_readClause_4 : decode cX0_readClause 4 = .ok (.lookupswitch 146 #[(101, 72), (112, 123), (115, 100), (116, 44)], 44) := by decide +kernel
theorem dX0_readClause_48 : decode cX0_readClause 48 = .ok (.aload_n 0, 1) := by decide +kernel
theorem dX0_readClause_76 : decode cX0_readClause 76 = .ok (.aload_n 0, 1) := by decide +kernel
theorem dX0_readClause_104 : decode cX0_readClause 104 = .ok (.aload_n 0, 1) := by decide +kernel
theorem dX0_readClause_127 : decode cX0_readClause 127 = .ok (.aload_n 0, 1) := by decide +kernel
theorem dX0_readClause_150 : decode cX0_readClause 150 = .ok (.iconst 0, 1) := by decide +kernel
theorem dX0_readClause_151 : decode cX0_readClause 151 = .ok (.ireturn, 1) := by decide +kernel
theorem hd_X0_readClause : yX0_readClause.cls = RX0 ∧ yX0_readClause.cls ≠ "java/lang/invoke/MethodHandle" ∧ yX0_readClause.cls ≠ "java/lang/invoke/VarHandle" ∧ (parseMethodDescriptor yX0_readClause.desc).map (fun d => d.parameters.length) = some 0 := by decide +kernel
abbrev rm_X0_readClause_29 : Room := { frames := 1, cells := 0, slots := 0, locals := 20 }
def F_X0_readClause_29  (σ : SG) (ρ : RG) : Option (Int32) :=
  bn (F_X0_next_29 σ ρ) fun r1 =>
  if r1 = 101 then
    none /- none: 77: ldc -/
  else
    if r1 = 112 then
      none /- none: 128: ldc -/
    else
      if r1 = 115 then
        none /- none: 105: ldc -/
      else
        if r1 = 116 then
          none /- none: 49: ldc -/
        else
          some (0 : Int32)
set_option maxHeartbeats 4000000 in
set_option maxRecDepth 100000 in
theorem w_X0_readClause_29_0  {p : Program} {e : Env} {s : State} {m : MethodId} {args : Array Value} {below : List Frame} {meth : Method} {c : Code} {σ0 : SG} {ρ0 : RG} {r : Int32} (C : Cx Y D N ad p s m args meth c cX0_readClause 1 (some .boolean) RX0 wsL_law) {σ : SG} {ρ : RG} {H : Heap} {locs : List Loc} {ls : Array Slot} (hσ0 : σ = σ0) (hρ0 : ρ = ρ0) (hL : Lay N K len ρ) (hF : F_X0_readClause_29 σ ρ = some r) (hP : WP Y D N ad K len σ ρ H) (hS : va_S (AA N ad s.heap.size) s.heap H locs) (hl : lv_has ls 1 [(0, .ref (ad 29))]) : W p l e rm_X0_readClause_29 s m args below meth c H locs 0 0 (MQ below (QW Y D N ad K len σ0 ρ0 (AA N ad s.heap.size) (some (.int r))) args s 0 0 (AA N ad s.heap.size)) (F0 m 0 ls []) := by
  have hx := C.1.1
  have hb := C.1.2.1
  unfold F_X0_readClause_29 at hF
  refine lv_aload_n hx hb dX0_readClause_0 rfl (lv_at hl 0 rfl) ?_
  obtain ⟨r1, hq1, hF⟩ := bn_1 hF
  refine x_callV (ci := 0) rfl rfl C hP hS (c_X0_next_29 hL hq1) (lr_29 hL) (lk_29 hL) (cwV 0 C.1.2.2.2.2 (gdV mw_128 mw_129 mw_130 mw_23 mw_131) rfl rfl rfl hd_X0_next ⟨Nat.le_of_ble_eq_true rfl, Nat.le_of_ble_eq_true rfl⟩) rfl rfl hl.1 (Nat.le_of_ble_eq_true rfl) ⟨Nat.zero_le _, Nat.zero_le _⟩ dX0_readClause_1 (fun H locs hP hS => ?_)
  by_cases cs2_101 : r1 = 101
  · have hF := ite_t hF cs2_101
    refine lv_lookup (tgt := 76) (off := 72) hx hb dX0_readClause_4 (by decide) (by rw [cs2_101]; decide) (by decide) ?_
    refine lv_aload_n hx hb dX0_readClause_76 rfl (lv_at hl 0 rfl) ?_
    cases hF
  · have hF := ite_f hF cs2_101
    by_cases cs2_112 : r1 = 112
    · have hF := ite_t hF cs2_112
      refine lv_lookup (tgt := 127) (off := 123) hx hb dX0_readClause_4 (by decide) (by rw [cs2_112]; decide) (by decide) ?_
      refine lv_aload_n hx hb dX0_readClause_127 rfl (lv_at hl 0 rfl) ?_
      cases hF
    · have hF := ite_f hF cs2_112
      by_cases cs2_115 : r1 = 115
      · have hF := ite_t hF cs2_115
        refine lv_lookup (tgt := 104) (off := 100) hx hb dX0_readClause_4 (by decide) (by rw [cs2_115]; decide) (by decide) ?_
        refine lv_aload_n hx hb dX0_readClause_104 rfl (lv_at hl 0 rfl) ?_
        cases hF
      · have hF := ite_f hF cs2_115
        by_cases cs2_116 : r1 = 116
        · have hF := ite_t hF cs2_116
          refine lv_lookup (tgt := 48) (off := 44) hx hb dX0_readClause_4 (by decide) (by rw [cs2_116]; decide) (by decide) ?_
          refine lv_aload_n hx hb dX0_readClause_48 rfl (lv_at hl 0 rfl) ?_
          cases hF
        · have hF := ite_f hF cs2_116
          refine lv_lookup (tgt := 150) (off := 146) hx hb dX0_readClause_4 (by decide) (by have q101 := ne_ti cs2_101 (by decide : (101 : Int32).toInt = 101); have q112 := ne_ti cs2_112 (by decide : (112 : Int32).toInt = 112); have q115 := ne_ti cs2_115 (by decide : (115 : Int32).toInt = 115); have q116 := ne_ti cs2_116 (by decide : (116 : Int32).toInt = 116); show (if (101 : Int) = r1.toInt then (72 : Int) else if (112 : Int) = r1.toInt then (123 : Int) else if (115 : Int) = r1.toInt then (100 : Int) else if (116 : Int) = r1.toInt then (44 : Int) else (146 : Int)) = _; rw [if_neg (Ne.symm q101), if_neg (Ne.symm q112), if_neg (Ne.symm q115), if_neg (Ne.symm q116)]) (by decide) ?_
          refine lv_iconst (v := 0) hx hb dX0_readClause_150 (by decide) ?_
          obtain rfl := ret_1 hF
          subst hσ0
          subst hρ0
          exact x_zret rfl rfl C hP hS dX0_readClause_151
set_option maxHeartbeats 4000000 in
set_option maxRecDepth 100000 in
theorem c_X0_readClause_29  {r : Int32} {σ : SG} {ρ : RG} (hL : Lay N K len ρ) (hF : F_X0_readClause_29 σ ρ = some r) : MT l Y D N ad K len yX0_readClause (Cond.code yX0_readClause cX0_readClause 1 (some .boolean) :: wsL_law) rm_X0_readClause_29 [.ref (ad 29)] σ ρ (some (.int r)) σ ρ := by
  refine mt_of (cc := cX0_readClause) (nL := 1) (ret := (some .boolean)) (by decide) (Nat.le_of_ble_eq_true rfl) ?_
  intro p e s m args below meth c ls C hnm hP hS hl
  exact w_X0_readClause_29_0 C rfl rfl hL hF hP hS hl

/-! CutCrooked$Board.boolean readFrom(byte[], int); 29 -/
theorem dX0_readFrom_0 : decode cX0_readFrom 0 = .ok (.aload_n 0, 1) := by decide +kernel
theorem dX0_readFrom_1 : decode cX0_readFrom 1 = .ok (.aload_n 1, 1) := by decide +kernel
theorem dX0_readFrom_2 : decode cX0_readFrom 2 = .ok (.putfield 56, 3) := by decide +kernel
theorem dX0_readFrom_5 : decode cX0_readFrom 5 = .ok (.aload_n 0, 1) := by decide +kernel
theorem dX0_readFrom_6 : decode cX0_readFrom 6 = .ok (.iload_n 2, 1) := by decide +kernel
theorem dX0_readFrom_7 : decode cX0_readFrom 7 = .ok (.putfield 60, 3) := by decide +kernel
theorem dX0_readFrom_10 : decode cX0_readFrom 10 = .ok (.aload_n 0, 1) := by decide +kernel
theorem dX0_readFrom_11 : decode cX0_readFrom 11 = .ok (.iconst 0, 1) := by decide +kernel
theorem dX0_readFrom_12 : decode cX0_readFrom 12 = .ok (.putfield 63, 3) := by decide +kernel
theorem dX0_readFrom_15 : decode cX0_readFrom 15 = .ok (.aload_n 0, 1) := by decide +kernel
theorem dX0_readFrom_16 : decode cX0_readFrom 16 = .ok (.iconst 3, 1) := by decide +kernel
theorem dX0_readFrom_17 : decode cX0_readFrom 17 = .ok (.putfield 11, 3) := by decide +kernel
theorem dX0_readFrom_20 : decode cX0_readFrom 20 = .ok (.aload_n 0, 1) := by decide +kernel
theorem dX0_readFrom_21 : decode cX0_readFrom 21 = .ok (.bipush 10, 2) := by decide +kernel
theorem dX0_readFrom_23 : decode cX0_readFrom 23 = .ok (.putfield 15, 3) := by decide +kernel
theorem dX0_readFrom_26 : decode cX0_readFrom 26 = .ok (.aload_n 0, 1) := by decide +kernel
theorem dX0_readFrom_27 : decode cX0_readFrom 27 = .ok (.iconst 0, 1) := by decide +kernel
theorem dX0_readFrom_28 : decode cX0_readFrom 28 = .ok (.putfield 32, 3) := by decide +kernel
theorem dX0_readFrom_31 : decode cX0_readFrom 31 = .ok (.aload_n 0, 1) := by decide +kernel
theorem dX0_readFrom_32 : decode cX0_readFrom 32 = .ok (.iconst 0, 1) := by decide +kernel
theorem dX0_readFrom_33 : decode cX0_readFrom 33 = .ok (.putfield 35, 3) := by decide +kernel
theorem dX0_readFrom_36 : decode cX0_readFrom 36 = .ok (.iconst 0, 1) := by decide +kernel
theorem dX0_readFrom_37 : decode cX0_readFrom 37 = .ok (.istore_n 3, 1) := by decide +kernel
theorem dX0_readFrom_38 : decode cX0_readFrom 38 = .ok (.iload_n 3, 1) := by decide +kernel
theorem dX0_readFrom_39 : decode cX0_readFrom 39 = .ok (.bipush 10, 2) := by decide +kernel
theorem dX0_readFrom_41 : decode cX0_readFrom 41 = .ok (.if_icmp .ge 50, 3) := by decide +kernel
theorem dX0_readFrom_44 : decode cX0_readFrom 44 = .ok (.aload_n 0, 1) := by decide +kernel
theorem dX0_readFrom_45 : decode cX0_readFrom 45 = .ok (.invokevirtual 66, 3) := by decide +kernel
theorem dX0_readFrom_48 : decode cX0_readFrom 48 = .ok (.ifCond .ne 5, 3) := by decide +kernel
theorem dX0_readFrom_51 : decode cX0_readFrom 51 = .ok (.iconst 0, 1) := by decide +kernel
theorem dX0_readFrom_52 : decode cX0_readFrom 52 = .ok (.ireturn, 1) := by decide +kernel
theorem dX0_readFrom_53 : decode cX0_readFrom 53 = .ok (.aload_n 0, 1) := by decide +kernel
theorem dX0_readFrom_54 : decode cX0_readFrom 54 = .ok (.getfield 63, 3) := by decide +kernel
theorem dX0_readFrom_57 : decode cX0_readFrom 57 = .ok (.aload_n 0, 1) := by decide +kernel
theorem dX0_readFrom_58 : decode cX0_readFrom 58 = .ok (.getfield 60, 3) := by decide +kernel
theorem dX0_readFrom_61 : decode cX0_readFrom 61 = .ok (.if_icmp .ne 5, 3) := by decide +kernel
theorem dX0_readFrom_64 : decode cX0_readFrom 64 = .ok (.iconst 1, 1) := by decide +kernel
theorem dX0_readFrom_65 : decode cX0_readFrom 65 = .ok (.ireturn, 1) := by decide +kernel
theorem dX0_readFrom_66 : decode cX0_readFrom 66 = .ok (.iload_n 3, 1) := by decide +kernel
theorem dX0_readFrom_67 : decode cX0_readFrom 67 = .ok (.iconst 1, 1) := by decide +kernel
theorem dX0_readFrom_68 : decode cX0_readFrom 68 = .ok (.iadd, 1) := by decide +kernel
theorem dX0_readFrom_69 : decode cX0_readFrom 69 = .ok (.bipush 10, 2) := by decide +kernel
theorem dX0_readFrom_71 : decode cX0_readFrom 71 = .ok (.if_icmp .eq 12, 3) := by decide +kernel
theorem dX0_readFrom_74 : decode cX0_readFrom 74 = .ok (.aload_n 0, 1) := by decide +kernel
theorem dX0_readFrom_75 : decode cX0_readFrom 75 = .ok (.bipush 59, 2) := by decide +kernel
theorem dX0_readFrom_77 : decode cX0_readFrom 77 = .ok (.invokevirtual 70, 3) := by decide +kernel
theorem dX0_readFrom_80 : decode cX0_readFrom 80 = .ok (.ifCond .ne 5, 3) := by decide +kernel
theorem dX0_readFrom_83 : decode cX0_readFrom 83 = .ok (.iconst 0, 1) := by decide +kernel
theorem dX0_readFrom_84 : decode cX0_readFrom 84 = .ok (.ireturn, 1) := by decide +kernel
theorem dX0_readFrom_85 : decode cX0_readFrom 85 = .ok (.iinc 3 1, 3) := by decide +kernel
theorem dX0_readFrom_88 : decode cX0_readFrom 88 = .ok (.goto (-50), 3) := by decide +kernel
theorem dX0_readFrom_91 : decode cX0_readFrom 91 = .ok (.iconst 0, 1) := by decide +kernel
theorem dX0_readFrom_92 : decode cX0_readFrom 92 = .ok (.ireturn, 1) := by decide +kernel
theorem hd_X0_readFrom : yX0_readFrom.cls = RX0 ∧ yX0_readFrom.cls ≠ "java/lang/invoke/MethodHandle" ∧ yX0_readFrom.cls ≠ "java/lang/invoke/VarHandle" ∧ (parseMethodDescriptor yX0_readFrom.desc).map (fun d => d.parameters.length) = some 2 := by decide +kernel
abbrev rm_X0_readFrom_29 : Room := { frames := 2, cells := 0, slots := 0, locals := 41 }
def F_X0_readFrom_29_38 (a2 : Int32) : Nat → SG → RG → Int32 → Option (Int32 × SG × RG)
  | 0 => fun _ _ _ => none
  | n + 1 => fun σ ρ v3 =>
  if (10 : Int32) ≤ v3 then
    some ((0 : Int32), σ, ρ)
  else
    bn (F_X0_readClause_29 σ ρ) fun r16 =>
    if r16 = 0 then
      some ((0 : Int32), σ, ρ)
    else
      if (σ 29 10) = (σ 29 9) then
        some ((1 : Int32), σ, ρ)
      else
        nm (v3 + (1 : Int32)) fun x19 =>
        if x19 = (10 : Int32) then
          some ((0 : Int32), σ, ρ)
        else
          bn2 (F_X0_readSign_29 (59 : Int32) σ ρ) fun r21 σ21 =>
          if r21 = 0 then
            some ((0 : Int32), σ21, ρ)
          else
            nm (v3 + (1 : Int32)) fun x23 =>
            F_X0_readFrom_29_38 a2 n σ21 ρ x23
def F_X0_readFrom_29 (a2 : Int32) (σ : SG) (ρ : RG) : Option (Int32 × SG × RG) :=
  nm (r2 ρ 29 8 (some 10)) fun ρ2 =>
  nm (s2 σ 29 9 a2) fun σ4 =>
  nm (s2 σ4 29 10 (0 : Int32)) fun σ6 =>
  nm (s2 σ6 29 0 (3 : Int32)) fun σ8 =>
  nm (s2 σ8 29 1 (10 : Int32)) fun σ10 =>
  nm (s2 σ10 29 2 (0 : Int32)) fun σ12 =>
  nm (s2 σ12 29 7 (0 : Int32)) fun σ14 =>
  F_X0_readFrom_29_38 a2 1024 σ14 ρ2 (0 : Int32)
set_option maxHeartbeats 4000000 in
set_option maxRecDepth 100000 in
theorem w_X0_readFrom_29_38 {a2 : Int32} {p : Program} {e : Env} {s : State} {m : MethodId} {args : Array Value} {below : List Frame} {meth : Method} {c : Code} {r : Int32} {σ1 : SG} {ρ1 : RG} (C : Cx Y D N ad p s m args meth c cX0_readFrom 4 (some .boolean) RX0 wsL_law) : ∀ (n : Nat) (σ : SG) (ρ : RG) (v3 : Int32) (H : Heap) (locs : List Loc) (ls : Array Slot), Lay N K len ρ → F_X0_readFrom_29_38 a2 n σ ρ v3 = some (r, σ1, ρ1) → WP Y D N ad K len σ ρ H → va_S (AA N ad s.heap.size) s.heap H locs → lv_has ls 4 [(0, .ref (ad 29)), (3, .int v3)] → W p l e rm_X0_readFrom_29 s m args below meth c H locs 0 0 (MQ below (QW Y D N ad K len σ1 ρ1 (AA N ad s.heap.size) (some (.int r))) args s 0 0 (AA N ad s.heap.size)) (F0 m 38 ls []) := by
  have hx := C.1.1
  have hb := C.1.2.1
  intro n
  induction n with
  | zero => intro σ ρ v3 H locs ls hL hF; cases hF
  | succ n ih =>
    intro σ ρ v3 H locs ls hL hF hP hS hl
    unfold F_X0_readFrom_29_38 at hF
    refine lv_iload_n hx hb dX0_readFrom_38 rfl (lv_at hl 1 rfl) ?_
    refine lv_bipush (v := 10) hx hb dX0_readFrom_39 (by decide +kernel) ?_
    refine lv_icmp_ge (tgt := 91) hx hb dX0_readFrom_41 (by decide) (fun c_15 => ?_) (fun c_15 => ?_) -- COND 15 by_cases c_15 : (10 : Int32) ≤ v3
    · have hF := ite_t hF c_15
      refine lv_iconst (v := 0) hx hb dX0_readFrom_91 (by decide) ?_
      obtain ⟨rfl, rfl, rfl⟩ := ret_3 hF
      exact x_zret rfl rfl C hP hS dX0_readFrom_92
    · have hF := ite_f hF c_15
      refine lv_aload_n hx hb dX0_readFrom_44 rfl (lv_at hl 0 rfl) ?_
      obtain ⟨r16, hq16, hF⟩ := bn_1 hF
      refine x_callV (ci := 0) rfl rfl C hP hS (c_X0_readClause_29 hL hq16) (lr_29 hL) (lk_29 hL) (cwV 0 C.1.2.2.2.2 (gdV mw_123 mw_124 mw_125 mw_23 mw_126) rfl rfl rfl hd_X0_readClause ⟨Nat.le_of_ble_eq_true rfl, Nat.le_of_ble_eq_true rfl⟩) rfl rfl hl.1 (Nat.le_of_ble_eq_true rfl) ⟨Nat.zero_le _, Nat.zero_le _⟩ dX0_readFrom_45 (fun H locs hP hS => ?_)
      refine lv_if_ne (tgt := 53) hx hb dX0_readFrom_48 (by decide) (fun c_17 => ?_) (fun c_17 => ?_) -- COND 17 rcases (Decidable.em (r16 = 0)).symm with c_17 | c_17
      · have hF := ite_f hF c_17
        refine lv_aload_n hx hb dX0_readFrom_53 rfl (lv_at hl 0 rfl) ?_
        refine get_0_10 C hP (lr_29 hL) (lk_29 hL) inlX0 mw_120 dX0_readFrom_54 ?_
        refine lv_aload_n hx hb dX0_readFrom_57 rfl (lv_at hl 0 rfl) ?_
        refine get_0_9 C hP (lr_29 hL) (lk_29 hL) inlX0 mw_119 dX0_readFrom_58 ?_
        refine lv_icmp_ne (tgt := 66) hx hb dX0_readFrom_61 (by decide) (fun c_18 => ?_) (fun c_18 => ?_) -- COND 18 rcases (Decidable.em ((σ 29 10) = (σ 29 9))).symm with c_18 | c_18
        · have hF := ite_f hF c_18
          refine lv_iload_n hx hb dX0_readFrom_66 rfl (lv_at hl 1 rfl) ?_
          refine lv_iconst (v := 1) hx hb dX0_readFrom_67 (by decide) ?_
          refine lv_iadd hx hb dX0_readFrom_68 ?_
          obtain ⟨x19, ex19, hF⟩ := nm_1 hF
          refine x_top ex19 ?_
          refine lv_bipush (v := 10) hx hb dX0_readFrom_69 (by decide +kernel) ?_
          refine lv_icmp_eq (tgt := 83) hx hb dX0_readFrom_71 (by decide) (fun c_20 => ?_) (fun c_20 => ?_) -- COND 20 by_cases c_20 : x19 = (10 : Int32)
          · have hF := ite_t hF c_20
            refine lv_iconst (v := 0) hx hb dX0_readFrom_83 (by decide) ?_
            obtain ⟨rfl, rfl, rfl⟩ := ret_3 hF
            exact x_zret rfl rfl C hP hS dX0_readFrom_84
          · have hF := ite_f hF c_20
            refine lv_aload_n hx hb dX0_readFrom_74 rfl (lv_at hl 0 rfl) ?_
            refine lv_bipush (v := 59) hx hb dX0_readFrom_75 (by decide +kernel) ?_
            obtain ⟨r21, σ21, hq21, hF⟩ := bn2_1 hF
            refine x_callV (ci := 0) rfl rfl C hP hS (c_X0_readSign_29 hL hq21) (lr_29 hL) (lk_29 hL) (cwV 1 C.1.2.2.2.2 (gdV mw_185 mw_186 mw_187 mw_23 mw_188) rfl rfl rfl hd_X0_readSign ⟨Nat.le_of_ble_eq_true rfl, Nat.le_of_ble_eq_true rfl⟩) rfl rfl hl.1 (Nat.le_of_ble_eq_true rfl) ⟨Nat.zero_le _, Nat.zero_le _⟩ dX0_readFrom_77 (fun H locs hP hS => ?_)
            refine lv_if_ne (tgt := 85) hx hb dX0_readFrom_80 (by decide) (fun c_22 => ?_) (fun c_22 => ?_) -- COND 22 rcases (Decidable.em (r21 = 0)).symm with c_22 | c_22
            · have hF := ite_f hF c_22
              obtain ⟨x23, ex23, hF⟩ := nm_1 hF
              refine lv_iinc (v := x23) (lv' := [(3, .int x23), (0, .ref (ad 29))]) hx hb dX0_readFrom_85 hl (k := 1) rfl (by rw [ex23]; first | rfl | decide) (by decide) rfl (fun ls hl => ?_)
              refine lv_goto (tgt := 38) hx hb dX0_readFrom_88 (by decide) ?_
              exact ih _ _ _ _ _ _ hL hF hP hS (lv_sub hl [1, 0] rfl)
            · have hF := ite_t hF c_22
              refine lv_iconst (v := 0) hx hb dX0_readFrom_83 (by decide) ?_
              obtain ⟨rfl, rfl, rfl⟩ := ret_3 hF
              exact x_zret rfl rfl C hP hS dX0_readFrom_84
        · have hF := ite_t hF c_18
          refine lv_iconst (v := 1) hx hb dX0_readFrom_64 (by decide) ?_
          obtain ⟨rfl, rfl, rfl⟩ := ret_3 hF
          exact x_zret rfl rfl C hP hS dX0_readFrom_65
      · have hF := ite_t hF c_17
        refine lv_iconst (v := 0) hx hb dX0_readFrom_51 (by decide) ?_
        obtain ⟨rfl, rfl, rfl⟩ := ret_3 hF
        exact x_zret rfl rfl C hP hS dX0_readFrom_52
theorem k_X0_readFrom_29_38 {a2 : Int32} {r : Int32} {σ1 : SG} {ρ1 : RG} : ∀ (n : Nat) (σ : SG) (ρ : RG) (v3 : Int32), Lay N K len ρ → F_X0_readFrom_29_38 a2 n σ ρ v3 = some (r, σ1, ρ1) → Lay N K len ρ1 := by
  intro n
  induction n with
  | zero => intro σ ρ v3 hL hF; cases hF
  | succ n ih =>
    intro σ ρ v3 hL hF
    unfold F_X0_readFrom_29_38 at hF
    by_cases c_15 : (10 : Int32) ≤ v3
    · have hF := ite_t hF c_15
      obtain ⟨rfl, rfl, rfl⟩ := ret_3 hF
      exact hL
    · have hF := ite_f hF c_15
      obtain ⟨r16, hq16, hF⟩ := bn_1 hF
      rcases (Decidable.em (r16 = 0)).symm with c_17 | c_17
      · have hF := ite_f hF c_17
        rcases (Decidable.em ((σ 29 10) = (σ 29 9))).symm with c_18 | c_18
        · have hF := ite_f hF c_18
          obtain ⟨x19, ex19, hF⟩ := nm_1 hF
          by_cases c_20 : x19 = (10 : Int32)
          · have hF := ite_t hF c_20
            obtain ⟨rfl, rfl, rfl⟩ := ret_3 hF
            exact hL
          · have hF := ite_f hF c_20
            obtain ⟨r21, σ21, hq21, hF⟩ := bn2_1 hF
            rcases (Decidable.em (r21 = 0)).symm with c_22 | c_22
            · have hF := ite_f hF c_22
              obtain ⟨x23, ex23, hF⟩ := nm_1 hF
              exact ih _ _ _ hL hF
            · have hF := ite_t hF c_22
              obtain ⟨rfl, rfl, rfl⟩ := ret_3 hF
              exact hL
        · have hF := ite_t hF c_18
          obtain ⟨rfl, rfl, rfl⟩ := ret_3 hF
          exact hL
      · have hF := ite_t hF c_17
        obtain ⟨rfl, rfl, rfl⟩ := ret_3 hF
        exact hL
theorem kr_X0_readFrom_29_38 {a2 : Int32} {r : Int32} {σ1 : SG} {ρ1 : RG} : ∀ (n : Nat) (σ : SG) (ρ : RG) (v3 : Int32), Lay N K len ρ → RC N ρ → F_X0_readFrom_29_38 a2 n σ ρ v3 = some (r, σ1, ρ1) → RC N ρ1 := by
  intro n
  induction n with
  | zero => intro σ ρ v3 hL hR hF; cases hF
  | succ n ih =>
    intro σ ρ v3 hL hR hF
    unfold F_X0_readFrom_29_38 at hF
    by_cases c_15 : (10 : Int32) ≤ v3
    · have hF := ite_t hF c_15
      obtain ⟨rfl, rfl, rfl⟩ := ret_3 hF
      exact hR
    · have hF := ite_f hF c_15
      obtain ⟨r16, hq16, hF⟩ := bn_1 hF
      rcases (Decidable.em (r16 = 0)).symm with c_17 | c_17
      · have hF := ite_f hF c_17
        rcases (Decidable.em ((σ 29 10) = (σ 29 9))).symm with c_18 | c_18
        · have hF := ite_f hF c_18
          obtain ⟨x19, ex19, hF⟩ := nm_1 hF
          by_cases c_20 : x19 = (10 : Int32)
          · have hF := ite_t hF c_20
            obtain ⟨rfl, rfl, rfl⟩ := ret_3 hF
            exact hR
          · have hF := ite_f hF c_20
            obtain ⟨r21, σ21, hq21, hF⟩ := bn2_1 hF
            rcases (Decidable.em (r21 = 0)).symm with c_22 | c_22
            · have hF := ite_f hF c_22
              obtain ⟨x23, ex23, hF⟩ := nm_1 hF
              exact ih _ _ _ hL hR hF
            · have hF := ite_t hF c_22
              obtain ⟨rfl, rfl, rfl⟩ := ret_3 hF
              exact hR
        · have hF := ite_t hF c_18
          obtain ⟨rfl, rfl, rfl⟩ := ret_3 hF
          exact hR
      · have hF := ite_t hF c_17
        obtain ⟨rfl, rfl, rfl⟩ := ret_3 hF
        exact hR
set_option maxHeartbeats 4000000 in
set_option maxRecDepth 100000 in
theorem w_X0_readFrom_29_0 {a2 : Int32} {p : Program} {e : Env} {s : State} {m : MethodId} {args : Array Value} {below : List Frame} {meth : Method} {c : Code} {r : Int32} {σ1 : SG} {ρ1 : RG} (C : Cx Y D N ad p s m args meth c cX0_readFrom 4 (some .boolean) RX0 wsL_law) {σ : SG} {ρ : RG} {H : Heap} {locs : List Loc} {ls : Array Slot} (hL : Lay N K len ρ) (hF : F_X0_readFrom_29 a2 σ ρ = some (r, σ1, ρ1)) (hP : WP Y D N ad K len σ ρ H) (hS : va_S (AA N ad s.heap.size) s.heap H locs) (hl : lv_has ls 4 [(0, .ref (ad 29)), (1, .ref (ad 10)), (2, .int a2)]) : W p l e rm_X0_readFrom_29 s m args below meth c H locs 0 0 (MQ below (QW Y D N ad K len σ1 ρ1 (AA N ad s.heap.size) (some (.int r))) args s 0 0 (AA N ad s.heap.size)) (F0 m 0 ls []) := by
  have hx := C.1.1
  have hb := C.1.2.1
  unfold F_X0_readFrom_29 at hF
  refine lv_aload_n hx hb dX0_readFrom_0 rfl (lv_at hl 0 rfl) ?_
  refine lv_aload_n hx hb dX0_readFrom_1 rfl (lv_at hl 1 rfl) ?_
  obtain ⟨ρ2, eρ2, hF⟩ := nm_1 hF
  refine put_0_8 C hP hS (lr_29 hL) (lk_29 hL) inlX0 mw_118 eρ2 dX0_readFrom_2 (fun H locs hP hS => ?_)
  have hL : Lay N K len ρ2 := eρ2 ▸ ly_put hL (some 10) (by decide +kernel)
  refine lv_aload_n hx hb dX0_readFrom_5 rfl (lv_at hl 0 rfl) ?_
  refine lv_iload_n hx hb dX0_readFrom_6 rfl (lv_at hl 2 rfl) ?_
  obtain ⟨σ4, eσ4, hF⟩ := nm_1 hF
  refine put_0_9 C hP hS (lr_29 hL) (lk_29 hL) inlX0 mw_119 eσ4 dX0_readFrom_7 (fun H locs hP hS => ?_)
  refine lv_aload_n hx hb dX0_readFrom_10 rfl (lv_at hl 0 rfl) ?_
  refine lv_iconst (v := 0) hx hb dX0_readFrom_11 (by decide) ?_
  obtain ⟨σ6, eσ6, hF⟩ := nm_1 hF
  refine put_0_10 C hP hS (lr_29 hL) (lk_29 hL) inlX0 mw_120 eσ6 dX0_readFrom_12 (fun H locs hP hS => ?_)
  refine lv_aload_n hx hb dX0_readFrom_15 rfl (lv_at hl 0 rfl) ?_
  refine lv_iconst (v := 3) hx hb dX0_readFrom_16 (by decide) ?_
  obtain ⟨σ8, eσ8, hF⟩ := nm_1 hF
  refine put_0_0 C hP hS (lr_29 hL) (lk_29 hL) inlX0 mw_56 eσ8 dX0_readFrom_17 (fun H locs hP hS => ?_)
  refine lv_aload_n hx hb dX0_readFrom_20 rfl (lv_at hl 0 rfl) ?_
  refine lv_bipush (v := 10) hx hb dX0_readFrom_21 (by decide +kernel) ?_
  obtain ⟨σ10, eσ10, hF⟩ := nm_1 hF
  refine put_0_1 C hP hS (lr_29 hL) (lk_29 hL) inlX0 mw_57 eσ10 dX0_readFrom_23 (fun H locs hP hS => ?_)
  refine lv_aload_n hx hb dX0_readFrom_26 rfl (lv_at hl 0 rfl) ?_
  refine lv_iconst (v := 0) hx hb dX0_readFrom_27 (by decide) ?_
  obtain ⟨σ12, eσ12, hF⟩ := nm_1 hF
  refine put_0_2 C hP hS (lr_29 hL) (lk_29 hL) inlX0 mw_121 eσ12 dX0_readFrom_28 (fun H locs hP hS => ?_)
  refine lv_aload_n hx hb dX0_readFrom_31 rfl (lv_at hl 0 rfl) ?_
  refine lv_iconst (v := 0) hx hb dX0_readFrom_32 (by decide) ?_
  obtain ⟨σ14, eσ14, hF⟩ := nm_1 hF
  refine put_0_7 C hP hS (lr_29 hL) (lk_29 hL) inlX0 mw_122 eσ14 dX0_readFrom_33 (fun H locs hP hS => ?_)
  refine lv_iconst (v := 0) hx hb dX0_readFrom_36 (by decide) ?_
  refine lv_istore_n (lv' := [(3, .int (0 : Int32)), (0, .ref (ad 29)), (1, .ref (ad 10)), (2, .int a2)]) hx hb dX0_readFrom_37 rfl hl (by decide) rfl (fun ls hl => ?_)
  exact w_X0_readFrom_29_38 C 1024 _ _ _ _ _ _ hL hF hP hS (lv_sub hl [1, 0] rfl)
theorem k_X0_readFrom_29_0 {a2 : Int32} {r : Int32} {σ1 : SG} {ρ1 : RG} {σ : SG} {ρ : RG} (hL : Lay N K len ρ) (hF : F_X0_readFrom_29 a2 σ ρ = some (r, σ1, ρ1)) : Lay N K len ρ1 := by
  unfold F_X0_readFrom_29 at hF
  obtain ⟨ρ2, eρ2, hF⟩ := nm_1 hF
  have hL : Lay N K len ρ2 := eρ2 ▸ ly_put hL (some 10) (by decide +kernel)
  obtain ⟨σ4, eσ4, hF⟩ := nm_1 hF
  obtain ⟨σ6, eσ6, hF⟩ := nm_1 hF
  obtain ⟨σ8, eσ8, hF⟩ := nm_1 hF
  obtain ⟨σ10, eσ10, hF⟩ := nm_1 hF
  obtain ⟨σ12, eσ12, hF⟩ := nm_1 hF
  obtain ⟨σ14, eσ14, hF⟩ := nm_1 hF
  exact k_X0_readFrom_29_38 1024 _ _ _ hL hF
theorem kr_X0_readFrom_29_0 {a2 : Int32} {r : Int32} {σ1 : SG} {ρ1 : RG} {σ : SG} {ρ : RG} (hL : Lay N K len ρ) (hR : RC N ρ) (hF : F_X0_readFrom_29 a2 σ ρ = some (r, σ1, ρ1)) : RC N ρ1 := by
  unfold F_X0_readFrom_29 at hF
  obtain ⟨ρ2, eρ2, hF⟩ := nm_1 hF
  have hR : RC N ρ2 := by rw [eρ2]; exact RC_put hR (lr_10 hL)
  have hL : Lay N K len ρ2 := eρ2 ▸ ly_put hL (some 10) (by decide +kernel)
  obtain ⟨σ4, eσ4, hF⟩ := nm_1 hF
  obtain ⟨σ6, eσ6, hF⟩ := nm_1 hF
  obtain ⟨σ8, eσ8, hF⟩ := nm_1 hF
  obtain ⟨σ10, eσ10, hF⟩ := nm_1 hF
  obtain ⟨σ12, eσ12, hF⟩ := nm_1 hF
  obtain ⟨σ14, eσ14, hF⟩ := nm_1 hF
  exact kr_X0_readFrom_29_38 1024 _ _ _ hL hR hF
set_option maxHeartbeats 4000000 in
set_option maxRecDepth 100000 in
theorem c_X0_readFrom_29 {a2 : Int32} {r : Int32} {σ1 : SG} {ρ1 : RG} {σ : SG} {ρ : RG} (hL : Lay N K len ρ) (hF : F_X0_readFrom_29 a2 σ ρ = some (r, σ1, ρ1)) : MT l Y D N ad K len yX0_readFrom (Cond.code yX0_readFrom cX0_readFrom 4 (some .boolean) :: wsL_law) rm_X0_readFrom_29 [.ref (ad 29), .ref (ad 10), .int a2] σ ρ (some (.int r)) σ1 ρ1 := by
  refine mt_of (cc := cX0_readFrom) (nL := 4) (ret := (some .boolean)) (by decide) (Nat.le_of_ble_eq_true rfl) ?_
  intro p e s m args below meth c ls C hnm hP hS hl
  exact w_X0_readFrom_29_0 C hL hF hP hS hl
theorem k_X0_readFrom_29 {a2 : Int32} {r : Int32} {σ1 : SG} {ρ1 : RG} {σ : SG} {ρ : RG} (hL : Lay N K len ρ) (hF : F_X0_readFrom_29 a2 σ ρ = some (r, σ1, ρ1)) : Lay N K len ρ1 := k_X0_readFrom_29_0 hL hF
theorem kr_X0_readFrom_29 {a2 : Int32} {r : Int32} {σ1 : SG} {ρ1 : RG} {σ : SG} {ρ : RG} (hL : Lay N K len ρ) (hR : RC N ρ) (hF : F_X0_readFrom_29 a2 σ ρ = some (r, σ1, ρ1)) : RC N ρ1 := kr_X0_readFrom_29_0 hL hR hF

/-! CutCrooked$Board.void takes(CutCrooked$Board); 5_29 -/
theorem dX0_takes_0 : decode cX0_takes 0 = .ok (.aload_n 0, 1) := by decide +kernel
theorem dX0_takes_1 : decode cX0_takes 1 = .ok (.aload_n 1, 1) := by decide +kernel
theorem dX0_takes_2 : decode cX0_takes 2 = .ok (.getfield 11, 3) := by decide +kernel
theorem dX0_takes_5 : decode cX0_takes 5 = .ok (.putfield 11, 3) := by decide +kernel
theorem dX0_takes_8 : decode cX0_takes 8 = .ok (.aload_n 0, 1) := by decide +kernel
theorem dX0_takes_9 : decode cX0_takes 9 = .ok (.aload_n 1, 1) := by decide +kernel
theorem dX0_takes_10 : decode cX0_takes 10 = .ok (.getfield 15, 3) := by decide +kernel
theorem dX0_takes_13 : decode cX0_takes 13 = .ok (.putfield 15, 3) := by decide +kernel
theorem dX0_takes_16 : decode cX0_takes 16 = .ok (.aload_n 0, 1) := by decide +kernel
theorem dX0_takes_17 : decode cX0_takes 17 = .ok (.aload_n 1, 1) := by decide +kernel
theorem dX0_takes_18 : decode cX0_takes 18 = .ok (.getfield 32, 3) := by decide +kernel
theorem dX0_takes_21 : decode cX0_takes 21 = .ok (.putfield 32, 3) := by decide +kernel
theorem dX0_takes_24 : decode cX0_takes 24 = .ok (.aload_n 0, 1) := by decide +kernel
theorem dX0_takes_25 : decode cX0_takes 25 = .ok (.aload_n 1, 1) := by decide +kernel
theorem dX0_takes_26 : decode cX0_takes 26 = .ok (.getfield 35, 3) := by decide +kernel
theorem dX0_takes_29 : decode cX0_takes 29 = .ok (.putfield 35, 3) := by decide +kernel
theorem dX0_takes_32 : decode cX0_takes 32 = .ok (.aload_n 1, 1) := by decide +kernel
theorem dX0_takes_33 : decode cX0_takes 33 = .ok (.getfield 18, 3) := by decide +kernel
theorem dX0_takes_36 : decode cX0_takes 36 = .ok (.iconst 0, 1) := by decide +kernel
theorem dX0_takes_37 : decode cX0_takes 37 = .ok (.aload_n 0, 1) := by decide +kernel
theorem dX0_takes_38 : decode cX0_takes 38 = .ok (.getfield 18, 3) := by decide +kernel
theorem dX0_takes_41 : decode cX0_takes 41 = .ok (.iconst 0, 1) := by decide +kernel
theorem dX0_takes_42 : decode cX0_takes 42 = .ok (.bipush 10, 2) := by decide +kernel
theorem dX0_takes_44 : decode cX0_takes 44 = .ok (.invokestatic 38, 3) := by decide +kernel
theorem dX0_takes_47 : decode cX0_takes 47 = .ok (.aload_n 1, 1) := by decide +kernel
theorem dX0_takes_48 : decode cX0_takes 48 = .ok (.getfield 22, 3) := by decide +kernel
theorem dX0_takes_51 : decode cX0_takes 51 = .ok (.iconst 0, 1) := by decide +kernel
theorem dX0_takes_52 : decode cX0_takes 52 = .ok (.aload_n 0, 1) := by decide +kernel
theorem dX0_takes_53 : decode cX0_takes 53 = .ok (.getfield 22, 3) := by decide +kernel
theorem dX0_takes_56 : decode cX0_takes 56 = .ok (.iconst 0, 1) := by decide +kernel
theorem dX0_takes_57 : decode cX0_takes 57 = .ok (.bipush 10, 2) := by decide +kernel
theorem dX0_takes_59 : decode cX0_takes 59 = .ok (.invokestatic 38, 3) := by decide +kernel
theorem dX0_takes_62 : decode cX0_takes 62 = .ok (.aload_n 1, 1) := by decide +kernel
theorem dX0_takes_63 : decode cX0_takes 63 = .ok (.getfield 26, 3) := by decide +kernel
theorem dX0_takes_66 : decode cX0_takes 66 = .ok (.iconst 0, 1) := by decide +kernel
theorem dX0_takes_67 : decode cX0_takes 67 = .ok (.aload_n 0, 1) := by decide +kernel
theorem dX0_takes_68 : decode cX0_takes 68 = .ok (.getfield 26, 3) := by decide +kernel
theorem dX0_takes_71 : decode cX0_takes 71 = .ok (.iconst 0, 1) := by decide +kernel
theorem dX0_takes_72 : decode cX0_takes 72 = .ok (.bipush 10, 2) := by decide +kernel
theorem dX0_takes_74 : decode cX0_takes 74 = .ok (.invokestatic 38, 3) := by decide +kernel
theorem dX0_takes_77 : decode cX0_takes 77 = .ok (.aload_n 1, 1) := by decide +kernel
theorem dX0_takes_78 : decode cX0_takes 78 = .ok (.getfield 29, 3) := by decide +kernel
theorem dX0_takes_81 : decode cX0_takes 81 = .ok (.iconst 0, 1) := by decide +kernel
theorem dX0_takes_82 : decode cX0_takes 82 = .ok (.aload_n 0, 1) := by decide +kernel
theorem dX0_takes_83 : decode cX0_takes 83 = .ok (.getfield 29, 3) := by decide +kernel
theorem dX0_takes_86 : decode cX0_takes 86 = .ok (.iconst 0, 1) := by decide +kernel
theorem dX0_takes_87 : decode cX0_takes 87 = .ok (.bipush 100, 2) := by decide +kernel
theorem dX0_takes_89 : decode cX0_takes 89 = .ok (.invokestatic 38, 3) := by decide +kernel
theorem dX0_takes_92 : decode cX0_takes 92 = .ok (.return_, 1) := by decide +kernel
theorem hd_X0_takes : yX0_takes.cls = RX0 ∧ yX0_takes.cls ≠ "java/lang/invoke/MethodHandle" ∧ yX0_takes.cls ≠ "java/lang/invoke/VarHandle" ∧ (parseMethodDescriptor yX0_takes.desc).map (fun d => d.parameters.length) = some 1 := by decide +kernel
abbrev rm_X0_takes_5_29 : Room := { frames := 1, cells := 0, slots := 0, locals := 60 }
def F_X0_takes_5_29  (σ : SG) (ρ : RG) : Option (SG) :=
  nm (s2 σ 5 0 (σ 29 0)) fun σ2 =>
  nm (s2 σ2 5 1 (σ2 29 1)) fun σ4 =>
  nm (s2 σ4 5 2 (σ4 29 2)) fun σ6 =>
  nm (s2 σ6 5 7 (σ6 29 7)) fun σ8 =>
  gd ((List.range 10).all (fun i => isb (σ8 30 i))) <|
  nm (cpy σ8 30 6 10) fun σ9 =>
  nm (cpy σ9 31 7 10) fun σ10 =>
  nm (cpy σ10 32 8 10) fun σ11 =>
  nm (cpy σ11 33 9 100) fun σ12 =>
  some σ12
set_option maxHeartbeats 4000000 in
set_option maxRecDepth 100000 in
theorem w_X0_takes_5_29_0  {p : Program} {e : Env} {s : State} {m : MethodId} {args : Array Value} {below : List Frame} {meth : Method} {c : Code} {ρ0 : RG} {σ1 : SG} (C : Cx Y D N ad p s m args meth c cX0_takes 2 none RX0 wsL_law) {σ : SG} {ρ : RG} {H : Heap} {locs : List Loc} {ls : Array Slot} (hρ0 : ρ = ρ0) (hL : Lay N K len ρ) (hF : F_X0_takes_5_29 σ ρ = some σ1) (hP : WP Y D N ad K len σ ρ H) (hS : va_S (AA N ad s.heap.size) s.heap H locs) (hl : lv_has ls 2 [(0, .ref (ad 5)), (1, .ref (ad 29))]) : W p l e rm_X0_takes_5_29 s m args below meth c H locs 0 0 (MQ below (QW Y D N ad K len σ1 ρ0 (AA N ad s.heap.size) none) args s 0 0 (AA N ad s.heap.size)) (F0 m 0 ls []) := by
  have hx := C.1.1
  have hb := C.1.2.1
  unfold F_X0_takes_5_29 at hF
  refine lv_aload_n hx hb dX0_takes_0 rfl (lv_at hl 0 rfl) ?_
  refine lv_aload_n hx hb dX0_takes_1 rfl (lv_at hl 1 rfl) ?_
  refine get_0_0 C hP (lr_29 hL) (lk_29 hL) inlX0 mw_56 dX0_takes_2 ?_
  obtain ⟨σ2, eσ2, hF⟩ := nm_1 hF
  refine put_0_0 C hP hS (lr_5 hL) (lk_5 hL) inlX0 mw_56 eσ2 dX0_takes_5 (fun H locs hP hS => ?_)
  refine lv_aload_n hx hb dX0_takes_8 rfl (lv_at hl 0 rfl) ?_
  refine lv_aload_n hx hb dX0_takes_9 rfl (lv_at hl 1 rfl) ?_
  refine get_0_1 C hP (lr_29 hL) (lk_29 hL) inlX0 mw_57 dX0_takes_10 ?_
  obtain ⟨σ4, eσ4, hF⟩ := nm_1 hF
  refine put_0_1 C hP hS (lr_5 hL) (lk_5 hL) inlX0 mw_57 eσ4 dX0_takes_13 (fun H locs hP hS => ?_)
  refine lv_aload_n hx hb dX0_takes_16 rfl (lv_at hl 0 rfl) ?_
  refine lv_aload_n hx hb dX0_takes_17 rfl (lv_at hl 1 rfl) ?_
  refine get_0_2 C hP (lr_29 hL) (lk_29 hL) inlX0 mw_121 dX0_takes_18 ?_
  obtain ⟨σ6, eσ6, hF⟩ := nm_1 hF
  refine put_0_2 C hP hS (lr_5 hL) (lk_5 hL) inlX0 mw_121 eσ6 dX0_takes_21 (fun H locs hP hS => ?_)
  refine lv_aload_n hx hb dX0_takes_24 rfl (lv_at hl 0 rfl) ?_
  refine lv_aload_n hx hb dX0_takes_25 rfl (lv_at hl 1 rfl) ?_
  refine get_0_7 C hP (lr_29 hL) (lk_29 hL) inlX0 mw_122 dX0_takes_26 ?_
  obtain ⟨σ8, eσ8, hF⟩ := nm_1 hF
  refine put_0_7 C hP hS (lr_5 hL) (lk_5 hL) inlX0 mw_122 eσ8 dX0_takes_29 (fun H locs hP hS => ?_)
  refine lv_aload_n hx hb dX0_takes_32 rfl (lv_at hl 1 rfl) ?_
  refine get_0_3 C hP (lr_29 hL) (lk_29 hL) inlX0 mw_59 (lf_29_3 hL) dX0_takes_33 ?_
  refine lv_iconst (v := 0) hx hb dX0_takes_36 (by decide) ?_
  refine lv_aload_n hx hb dX0_takes_37 rfl (lv_at hl 0 rfl) ?_
  refine get_0_3 C hP (lr_5 hL) (lk_5 hL) inlX0 mw_59 (lf_5_3 hL) dX0_takes_38 ?_
  refine lv_iconst (v := 0) hx hb dX0_takes_41 (by decide) ?_
  refine lv_bipush (v := 10) hx hb dX0_takes_42 (by decide +kernel) ?_
  obtain ⟨ga9, hF⟩ := gd_1 hF
  obtain ⟨σ9, eσ9, hF⟩ := nm_1 hF
  refine x_copyZ C hP hS hl.1 (lr_30 hL) (lr_6 hL) (lk_30 hL) (lk_6 hL) (ln_30 hL) (ln_6 hL) (by decide +kernel : (10 : Int32).toNatClampNeg = 10) (by decide) (Nat.le_of_ble_eq_true rfl) (Nat.le_of_ble_eq_true rfl) ga9 eσ9 mw_285 mw_286 mw_287 mw_288 (Nat.le_of_ble_eq_true rfl) (Nat.le_of_ble_eq_true rfl) dX0_takes_44 (fun H locs hP hS => ?_)
  refine lv_aload_n hx hb dX0_takes_47 rfl (lv_at hl 1 rfl) ?_
  refine get_0_4 C hP (lr_29 hL) (lk_29 hL) inlX0 mw_60 (lf_29_4 hL) dX0_takes_48 ?_
  refine lv_iconst (v := 0) hx hb dX0_takes_51 (by decide) ?_
  refine lv_aload_n hx hb dX0_takes_52 rfl (lv_at hl 0 rfl) ?_
  refine get_0_4 C hP (lr_5 hL) (lk_5 hL) inlX0 mw_60 (lf_5_4 hL) dX0_takes_53 ?_
  refine lv_iconst (v := 0) hx hb dX0_takes_56 (by decide) ?_
  refine lv_bipush (v := 10) hx hb dX0_takes_57 (by decide +kernel) ?_
  obtain ⟨σ10, eσ10, hF⟩ := nm_1 hF
  refine x_copyI C hP hS hl.1 (lr_31 hL) (lr_7 hL) (lk_31 hL) (lk_7 hL) (ln_31 hL) (ln_7 hL) (by decide +kernel : (10 : Int32).toNatClampNeg = 10) (by decide) (Nat.le_of_ble_eq_true rfl) (Nat.le_of_ble_eq_true rfl)  eσ10 mw_285 mw_286 mw_287 mw_288 (Nat.le_of_ble_eq_true rfl) (Nat.le_of_ble_eq_true rfl) dX0_takes_59 (fun H locs hP hS => ?_)
  refine lv_aload_n hx hb dX0_takes_62 rfl (lv_at hl 1 rfl) ?_
  refine get_0_5 C hP (lr_29 hL) (lk_29 hL) inlX0 mw_61 (lf_29_5 hL) dX0_takes_63 ?_
  refine lv_iconst (v := 0) hx hb dX0_takes_66 (by decide) ?_
  refine lv_aload_n hx hb dX0_takes_67 rfl (lv_at hl 0 rfl) ?_
  refine get_0_5 C hP (lr_5 hL) (lk_5 hL) inlX0 mw_61 (lf_5_5 hL) dX0_takes_68 ?_
  refine lv_iconst (v := 0) hx hb dX0_takes_71 (by decide) ?_
  refine lv_bipush (v := 10) hx hb dX0_takes_72 (by decide +kernel) ?_
  obtain ⟨σ11, eσ11, hF⟩ := nm_1 hF
  refine x_copyI C hP hS hl.1 (lr_32 hL) (lr_8 hL) (lk_32 hL) (lk_8 hL) (ln_32 hL) (ln_8 hL) (by decide +kernel : (10 : Int32).toNatClampNeg = 10) (by decide) (Nat.le_of_ble_eq_true rfl) (Nat.le_of_ble_eq_true rfl)  eσ11 mw_285 mw_286 mw_287 mw_288 (Nat.le_of_ble_eq_true rfl) (Nat.le_of_ble_eq_true rfl) dX0_takes_74 (fun H locs hP hS => ?_)
  refine lv_aload_n hx hb dX0_takes_77 rfl (lv_at hl 1 rfl) ?_
  refine get_0_6 C hP (lr_29 hL) (lk_29 hL) inlX0 mw_62 (lf_29_6 hL) dX0_takes_78 ?_
  refine lv_iconst (v := 0) hx hb dX0_takes_81 (by decide) ?_
  refine lv_aload_n hx hb dX0_takes_82 rfl (lv_at hl 0 rfl) ?_
  refine get_0_6 C hP (lr_5 hL) (lk_5 hL) inlX0 mw_62 (lf_5_6 hL) dX0_takes_83 ?_
  refine lv_iconst (v := 0) hx hb dX0_takes_86 (by decide) ?_
  refine lv_bipush (v := 100) hx hb dX0_takes_87 (by decide +kernel) ?_
  obtain ⟨σ12, eσ12, hF⟩ := nm_1 hF
  refine x_copyI C hP hS hl.1 (lr_33 hL) (lr_9 hL) (lk_33 hL) (lk_9 hL) (ln_33 hL) (ln_9 hL) (by decide +kernel : (100 : Int32).toNatClampNeg = 100) (by decide) (Nat.le_of_ble_eq_true rfl) (Nat.le_of_ble_eq_true rfl)  eσ12 mw_285 mw_286 mw_287 mw_288 (Nat.le_of_ble_eq_true rfl) (Nat.le_of_ble_eq_true rfl) dX0_takes_89 (fun H locs hP hS => ?_)
  obtain rfl := ret_1 hF
  subst hρ0
  exact x_vret rfl C hP hS dX0_takes_92
set_option maxHeartbeats 4000000 in
set_option maxRecDepth 100000 in
theorem c_X0_takes_5_29  {σ1 : SG} {σ : SG} {ρ : RG} (hL : Lay N K len ρ) (hF : F_X0_takes_5_29 σ ρ = some σ1) : MT l Y D N ad K len yX0_takes (Cond.code yX0_takes cX0_takes 2 none :: wsL_law) rm_X0_takes_5_29 [.ref (ad 5), .ref (ad 29)] σ ρ none σ1 ρ := by
  refine mt_of (cc := cX0_takes) (nL := 2) (ret := none) (by decide) (Nat.le_of_ble_eq_true rfl) ?_
  intro p e s m args below meth c ls C hnm hP hS hl
  exact w_X0_takes_5_29_0 C rfl hL hF hP hS hl

/-! CutCrooked$Board.void takes(CutCrooked$Board); 18_5 -/
abbrev rm_X0_takes_18_5 : Room := { frames := 1, cells := 0, slots := 0, locals := 60 }
def F_X0_takes_18_5  (σ : SG) (ρ : RG) : Option (SG) :=
  nm (s2 σ 18 0 (σ 5 0)) fun σ2 =>
  nm (s2 σ2 18 1 (σ2 5 1)) fun σ4 =>
  nm (s2 σ4 18 2 (σ4 5 2)) fun σ6 =>
  nm (s2 σ6 18 7 (σ6 5 7)) fun σ8 =>
  gd ((List.range 10).all (fun i => isb (σ8 6 i))) <|
  nm (cpy σ8 6 19 10) fun σ9 =>
  nm (cpy σ9 7 20 10) fun σ10 =>
  nm (cpy σ10 8 21 10) fun σ11 =>
  nm (cpy σ11 9 22 100) fun σ12 =>
  some σ12
set_option maxHeartbeats 4000000 in
set_option maxRecDepth 100000 in
theorem w_X0_takes_18_5_0  {p : Program} {e : Env} {s : State} {m : MethodId} {args : Array Value} {below : List Frame} {meth : Method} {c : Code} {ρ0 : RG} {σ1 : SG} (C : Cx Y D N ad p s m args meth c cX0_takes 2 none RX0 wsL_law) {σ : SG} {ρ : RG} {H : Heap} {locs : List Loc} {ls : Array Slot} (hρ0 : ρ = ρ0) (hL : Lay N K len ρ) (hF : F_X0_takes_18_5 σ ρ = some σ1) (hP : WP Y D N ad K len σ ρ H) (hS : va_S (AA N ad s.heap.size) s.heap H locs) (hl : lv_has ls 2 [(0, .ref (ad 18)), (1, .ref (ad 5))]) : W p l e rm_X0_takes_18_5 s m args below meth c H locs 0 0 (MQ below (QW Y D N ad K len σ1 ρ0 (AA N ad s.heap.size) none) args s 0 0 (AA N ad s.heap.size)) (F0 m 0 ls []) := by
  have hx := C.1.1
  have hb := C.1.2.1
  unfold F_X0_takes_18_5 at hF
  refine lv_aload_n hx hb dX0_takes_0 rfl (lv_at hl 0 rfl) ?_
  refine lv_aload_n hx hb dX0_takes_1 rfl (lv_at hl 1 rfl) ?_
  refine get_0_0 C hP (lr_5 hL) (lk_5 hL) inlX0 mw_56 dX0_takes_2 ?_
  obtain ⟨σ2, eσ2, hF⟩ := nm_1 hF
  refine put_0_0 C hP hS (lr_18 hL) (lk_18 hL) inlX0 mw_56 eσ2 dX0_takes_5 (fun H locs hP hS => ?_)
  refine lv_aload_n hx hb dX0_takes_8 rfl (lv_at hl 0 rfl) ?_
  refine lv_aload_n hx hb dX0_takes_9 rfl (lv_at hl 1 rfl) ?_
  refine get_0_1 C hP (lr_5 hL) (lk_5 hL) inlX0 mw_57 dX0_takes_10 ?_
  obtain ⟨σ4, eσ4, hF⟩ := nm_1 hF
  refine put_0_1 C hP hS (lr_18 hL) (lk_18 hL) inlX0 mw_57 eσ4 dX0_takes_13 (fun H locs hP hS => ?_)
  refine lv_aload_n hx hb dX0_takes_16 rfl (lv_at hl 0 rfl) ?_
  refine lv_aload_n hx hb dX0_takes_17 rfl (lv_at hl 1 rfl) ?_
  refine get_0_2 C hP (lr_5 hL) (lk_5 hL) inlX0 mw_121 dX0_takes_18 ?_
  obtain ⟨σ6, eσ6, hF⟩ := nm_1 hF
  refine put_0_2 C hP hS (lr_18 hL) (lk_18 hL) inlX0 mw_121 eσ6 dX0_takes_21 (fun H locs hP hS => ?_)
  refine lv_aload_n hx hb dX0_takes_24 rfl (lv_at hl 0 rfl) ?_
  refine lv_aload_n hx hb dX0_takes_25 rfl (lv_at hl 1 rfl) ?_
  refine get_0_7 C hP (lr_5 hL) (lk_5 hL) inlX0 mw_122 dX0_takes_26 ?_
  obtain ⟨σ8, eσ8, hF⟩ := nm_1 hF
  refine put_0_7 C hP hS (lr_18 hL) (lk_18 hL) inlX0 mw_122 eσ8 dX0_takes_29 (fun H locs hP hS => ?_)
  refine lv_aload_n hx hb dX0_takes_32 rfl (lv_at hl 1 rfl) ?_
  refine get_0_3 C hP (lr_5 hL) (lk_5 hL) inlX0 mw_59 (lf_5_3 hL) dX0_takes_33 ?_
  refine lv_iconst (v := 0) hx hb dX0_takes_36 (by decide) ?_
  refine lv_aload_n hx hb dX0_takes_37 rfl (lv_at hl 0 rfl) ?_
  refine get_0_3 C hP (lr_18 hL) (lk_18 hL) inlX0 mw_59 (lf_18_3 hL) dX0_takes_38 ?_
  refine lv_iconst (v := 0) hx hb dX0_takes_41 (by decide) ?_
  refine lv_bipush (v := 10) hx hb dX0_takes_42 (by decide +kernel) ?_
  obtain ⟨ga9, hF⟩ := gd_1 hF
  obtain ⟨σ9, eσ9, hF⟩ := nm_1 hF
  refine x_copyZ C hP hS hl.1 (lr_6 hL) (lr_19 hL) (lk_6 hL) (lk_19 hL) (ln_6 hL) (ln_19 hL) (by decide +kernel : (10 : Int32).toNatClampNeg = 10) (by decide) (Nat.le_of_ble_eq_true rfl) (Nat.le_of_ble_eq_true rfl) ga9 eσ9 mw_285 mw_286 mw_287 mw_288 (Nat.le_of_ble_eq_true rfl) (Nat.le_of_ble_eq_true rfl) dX0_takes_44 (fun H locs hP hS => ?_)
  refine lv_aload_n hx hb dX0_takes_47 rfl (lv_at hl 1 rfl) ?_
  refine get_0_4 C hP (lr_5 hL) (lk_5 hL) inlX0 mw_60 (lf_5_4 hL) dX0_takes_48 ?_
  refine lv_iconst (v := 0) hx hb dX0_takes_51 (by decide) ?_
  refine lv_aload_n hx hb dX0_takes_52 rfl (lv_at hl 0 rfl) ?_
  refine get_0_4 C hP (lr_18 hL) (lk_18 hL) inlX0 mw_60 (lf_18_4 hL) dX0_takes_53 ?_
  refine lv_iconst (v := 0) hx hb dX0_takes_56 (by decide) ?_
  refine lv_bipush (v := 10) hx hb dX0_takes_57 (by decide +kernel) ?_
  obtain ⟨σ10, eσ10, hF⟩ := nm_1 hF
  refine x_copyI C hP hS hl.1 (lr_7 hL) (lr_20 hL) (lk_7 hL) (lk_20 hL) (ln_7 hL) (ln_20 hL) (by decide +kernel : (10 : Int32).toNatClampNeg = 10) (by decide) (Nat.le_of_ble_eq_true rfl) (Nat.le_of_ble_eq_true rfl)  eσ10 mw_285 mw_286 mw_287 mw_288 (Nat.le_of_ble_eq_true rfl) (Nat.le_of_ble_eq_true rfl) dX0_takes_59 (fun H locs hP hS => ?_)
  refine lv_aload_n hx hb dX0_takes_62 rfl (lv_at hl 1 rfl) ?_
  refine get_0_5 C hP (lr_5 hL) (lk_5 hL) inlX0 mw_61 (lf_5_5 hL) dX0_takes_63 ?_
  refine lv_iconst (v := 0) hx hb dX0_takes_66 (by decide) ?_
  refine lv_aload_n hx hb dX0_takes_67 rfl (lv_at hl 0 rfl) ?_
  refine get_0_5 C hP (lr_18 hL) (lk_18 hL) inlX0 mw_61 (lf_18_5 hL) dX0_takes_68 ?_
  refine lv_iconst (v := 0) hx hb dX0_takes_71 (by decide) ?_
  refine lv_bipush (v := 10) hx hb dX0_takes_72 (by decide +kernel) ?_
  obtain ⟨σ11, eσ11, hF⟩ := nm_1 hF
  refine x_copyI C hP hS hl.1 (lr_8 hL) (lr_21 hL) (lk_8 hL) (lk_21 hL) (ln_8 hL) (ln_21 hL) (by decide +kernel : (10 : Int32).toNatClampNeg = 10) (by decide) (Nat.le_of_ble_eq_true rfl) (Nat.le_of_ble_eq_true rfl)  eσ11 mw_285 mw_286 mw_287 mw_288 (Nat.le_of_ble_eq_true rfl) (Nat.le_of_ble_eq_true rfl) dX0_takes_74 (fun H locs hP hS => ?_)
  refine lv_aload_n hx hb dX0_takes_77 rfl (lv_at hl 1 rfl) ?_
  refine get_0_6 C hP (lr_5 hL) (lk_5 hL) inlX0 mw_62 (lf_5_6 hL) dX0_takes_78 ?_
  refine lv_iconst (v := 0) hx hb dX0_takes_81 (by decide) ?_
  refine lv_aload_n hx hb dX0_takes_82 rfl (lv_at hl 0 rfl) ?_
  refine get_0_6 C hP (lr_18 hL) (lk_18 hL) inlX0 mw_62 (lf_18_6 hL) dX0_takes_83 ?_
  refine lv_iconst (v := 0) hx hb dX0_takes_86 (by decide) ?_
  refine lv_bipush (v := 100) hx hb dX0_takes_87 (by decide +kernel) ?_
  obtain ⟨σ12, eσ12, hF⟩ := nm_1 hF
  refine x_copyI C hP hS hl.1 (lr_9 hL) (lr_22 hL) (lk_9 hL) (lk_22 hL) (ln_9 hL) (ln_22 hL) (by decide +kernel : (100 : Int32).toNatClampNeg = 100) (by decide) (Nat.le_of_ble_eq_true rfl) (Nat.le_of_ble_eq_true rfl)  eσ12 mw_285 mw_286 mw_287 mw_288 (Nat.le_of_ble_eq_true rfl) (Nat.le_of_ble_eq_true rfl) dX0_takes_89 (fun H locs hP hS => ?_)
  obtain rfl := ret_1 hF
  subst hρ0
  exact x_vret rfl C hP hS dX0_takes_92
set_option maxHeartbeats 4000000 in
set_option maxRecDepth 100000 in
theorem c_X0_takes_18_5  {σ1 : SG} {σ : SG} {ρ : RG} (hL : Lay N K len ρ) (hF : F_X0_takes_18_5 σ ρ = some σ1) : MT l Y D N ad K len yX0_takes (Cond.code yX0_takes cX0_takes 2 none :: wsL_law) rm_X0_takes_18_5 [.ref (ad 18), .ref (ad 5)] σ ρ none σ1 ρ := by
  refine mt_of (cc := cX0_takes) (nL := 2) (ret := none) (by decide) (Nat.le_of_ble_eq_true rfl) ?_
  intro p e s m args below meth c ls C hnm hP hS hl
  exact w_X0_takes_18_5_0 C rfl hL hF hP hS hl

/-! CutCrooked$Table.void takes(CutCrooked$Table); 14_1 -/
theorem dX8_takes_0 : decode cX8_takes 0 = .ok (.aload_n 0, 1) := by decide +kernel
theorem dX8_takes_1 : decode cX8_takes 1 = .ok (.aload_n 1, 1) := by decide +kernel
theorem dX8_takes_2 : decode cX8_takes 2 = .ok (.getfield 49, 3) := by decide +kernel
theorem dX8_takes_5 : decode cX8_takes 5 = .ok (.putfield 49, 3) := by decide +kernel
theorem dX8_takes_8 : decode cX8_takes 8 = .ok (.iconst 0, 1) := by decide +kernel
theorem dX8_takes_9 : decode cX8_takes 9 = .ok (.istore_n 2, 1) := by decide +kernel
theorem dX8_takes_10 : decode cX8_takes 10 = .ok (.iload_n 2, 1) := by decide +kernel
theorem dX8_takes_11 : decode cX8_takes 11 = .ok (.aload_n 0, 1) := by decide +kernel
theorem dX8_takes_12 : decode cX8_takes 12 = .ok (.getfield 11, 3) := by decide +kernel
theorem dX8_takes_15 : decode cX8_takes 15 = .ok (.arraylength, 1) := by decide +kernel
theorem dX8_takes_16 : decode cX8_takes 16 = .ok (.if_icmp .ge 33, 3) := by decide +kernel
theorem dX8_takes_19 : decode cX8_takes 19 = .ok (.aload_n 1, 1) := by decide +kernel
theorem dX8_takes_20 : decode cX8_takes 20 = .ok (.iload_n 2, 1) := by decide +kernel
theorem dX8_takes_21 : decode cX8_takes 21 = .ok (.invokevirtual 53, 3) := by decide +kernel
theorem dX8_takes_24 : decode cX8_takes 24 = .ok (.astore_n 3, 1) := by decide +kernel
theorem dX8_takes_25 : decode cX8_takes 25 = .ok (.aload_n 0, 1) := by decide +kernel
theorem dX8_takes_26 : decode cX8_takes 26 = .ok (.getfield 11, 3) := by decide +kernel
theorem dX8_takes_29 : decode cX8_takes 29 = .ok (.iload_n 2, 1) := by decide +kernel
theorem dX8_takes_30 : decode cX8_takes 30 = .ok (.aload_n 3, 1) := by decide +kernel
theorem dX8_takes_31 : decode cX8_takes 31 = .ok (.ifnonnull 7, 3) := by decide +kernel
theorem dX8_takes_34 : decode cX8_takes 34 = .ok (.aconst_null, 1) := by decide +kernel
theorem dX8_takes_35 : decode cX8_takes 35 = .ok (.goto 7, 3) := by decide +kernel
theorem dX8_takes_42 : decode cX8_takes 42 = .ok (.aastore, 1) := by decide +kernel
theorem dX8_takes_43 : decode cX8_takes 43 = .ok (.iinc 2 1, 3) := by decide +kernel
theorem dX8_takes_46 : decode cX8_takes 46 = .ok (.goto (-36), 3) := by decide +kernel
theorem dX8_takes_49 : decode cX8_takes 49 = .ok (.aload_n 0, 1) := by decide +kernel
theorem dX8_takes_50 : decode cX8_takes 50 = .ok (.getfield 20, 3) := by decide +kernel
theorem dX8_takes_53 : decode cX8_takes 53 = .ok (.aload_n 1, 1) := by decide +kernel
theorem dX8_takes_54 : decode cX8_takes 54 = .ok (.getfield 20, 3) := by decide +kernel
theorem dX8_takes_57 : decode cX8_takes 57 = .ok (.invokevirtual 61, 3) := by decide +kernel
theorem dX8_takes_60 : decode cX8_takes 60 = .ok (.aload_n 0, 1) := by decide +kernel
theorem dX8_takes_61 : decode cX8_takes 61 = .ok (.getfield 27, 3) := by decide +kernel
theorem dX8_takes_64 : decode cX8_takes 64 = .ok (.aload_n 1, 1) := by decide +kernel
theorem dX8_takes_65 : decode cX8_takes 65 = .ok (.getfield 27, 3) := by decide +kernel
theorem dX8_takes_68 : decode cX8_takes 68 = .ok (.invokevirtual 65, 3) := by decide +kernel
theorem dX8_takes_71 : decode cX8_takes 71 = .ok (.aload_n 0, 1) := by decide +kernel
theorem dX8_takes_72 : decode cX8_takes 72 = .ok (.aload_n 1, 1) := by decide +kernel
theorem dX8_takes_73 : decode cX8_takes 73 = .ok (.getfield 68, 3) := by decide +kernel
theorem dX8_takes_76 : decode cX8_takes 76 = .ok (.putfield 68, 3) := by decide +kernel
theorem dX8_takes_79 : decode cX8_takes 79 = .ok (.aload_n 0, 1) := by decide +kernel
theorem dX8_takes_80 : decode cX8_takes 80 = .ok (.aload_n 1, 1) := by decide +kernel
theorem dX8_takes_81 : decode cX8_takes 81 = .ok (.getfield 71, 3) := by decide +kernel
theorem dX8_takes_84 : decode cX8_takes 84 = .ok (.putfield 71, 3) := by decide +kernel
theorem dX8_takes_87 : decode cX8_takes 87 = .ok (.aload_n 0, 1) := by decide +kernel
theorem dX8_takes_88 : decode cX8_takes 88 = .ok (.aload_n 1, 1) := by decide +kernel
theorem dX8_takes_89 : decode cX8_takes 89 = .ok (.getfield 74, 3) := by decide +kernel
theorem dX8_takes_92 : decode cX8_takes 92 = .ok (.putfield 74, 3) := by decide +kernel
theorem dX8_takes_95 : decode cX8_takes 95 = .ok (.aload_n 0, 1) := by decide +kernel
theorem dX8_takes_96 : decode cX8_takes 96 = .ok (.aload_n 1, 1) := by decide +kernel
theorem dX8_takes_97 : decode cX8_takes 97 = .ok (.getfield 77, 3) := by decide +kernel
theorem dX8_takes_100 : decode cX8_takes 100 = .ok (.putfield 77, 3) := by decide +kernel
theorem dX8_takes_103 : decode cX8_takes 103 = .ok (.aload_n 0, 1) := by decide +kernel
theorem dX8_takes_104 : decode cX8_takes 104 = .ok (.aload_n 1, 1) := by decide +kernel
theorem dX8_takes_105 : decode cX8_takes 105 = .ok (.getfield 80, 3) := by decide +kernel
theorem dX8_takes_108 : decode cX8_takes 108 = .ok (.putfield 80, 3) := by decide +kernel
theorem dX8_takes_111 : decode cX8_takes 111 = .ok (.aload_n 0, 1) := by decide +kernel
theorem dX8_takes_112 : decode cX8_takes 112 = .ok (.aload_n 1, 1) := by decide +kernel
theorem dX8_takes_113 : decode cX8_takes 113 = .ok (.getfield 83, 3) := by decide +kernel
theorem dX8_takes_116 : decode cX8_takes 116 = .ok (.putfield 83, 3) := by decide +kernel
theorem dX8_takes_119 : decode cX8_takes 119 = .ok (.aload_n 1, 1) := by decide +kernel
theorem dX8_takes_120 : decode cX8_takes 120 = .ok (.getfield 31, 3) := by decide +kernel
theorem dX8_takes_123 : decode cX8_takes 123 = .ok (.iconst 0, 1) := by decide +kernel
theorem dX8_takes_124 : decode cX8_takes 124 = .ok (.aload_n 0, 1) := by decide +kernel
theorem dX8_takes_125 : decode cX8_takes 125 = .ok (.getfield 31, 3) := by decide +kernel
theorem dX8_takes_128 : decode cX8_takes 128 = .ok (.iconst 0, 1) := by decide +kernel
theorem dX8_takes_129 : decode cX8_takes 129 = .ok (.bipush 100, 2) := by decide +kernel
theorem dX8_takes_131 : decode cX8_takes 131 = .ok (.invokestatic 86, 3) := by decide +kernel
theorem dX8_takes_134 : decode cX8_takes 134 = .ok (.aload_n 1, 1) := by decide +kernel
theorem dX8_takes_135 : decode cX8_takes 135 = .ok (.getfield 35, 3) := by decide +kernel
theorem dX8_takes_138 : decode cX8_takes 138 = .ok (.iconst 0, 1) := by decide +kernel
theorem dX8_takes_139 : decode cX8_takes 139 = .ok (.aload_n 0, 1) := by decide +kernel
theorem dX8_takes_140 : decode cX8_takes 140 = .ok (.getfield 35, 3) := by decide +kernel
theorem dX8_takes_143 : decode cX8_takes 143 = .ok (.iconst 0, 1) := by decide +kernel
theorem dX8_takes_144 : decode cX8_takes 144 = .ok (.iconst 4, 1) := by decide +kernel
theorem dX8_takes_145 : decode cX8_takes 145 = .ok (.invokestatic 86, 3) := by decide +kernel
theorem dX8_takes_148 : decode cX8_takes 148 = .ok (.aload_n 1, 1) := by decide +kernel
theorem dX8_takes_149 : decode cX8_takes 149 = .ok (.getfield 39, 3) := by decide +kernel
theorem dX8_takes_152 : decode cX8_takes 152 = .ok (.iconst 0, 1) := by decide +kernel
theorem dX8_takes_153 : decode cX8_takes 153 = .ok (.aload_n 0, 1) := by decide +kernel
theorem dX8_takes_154 : decode cX8_takes 154 = .ok (.getfield 39, 3) := by decide +kernel
theorem dX8_takes_157 : decode cX8_takes 157 = .ok (.iconst 0, 1) := by decide +kernel
theorem dX8_takes_158 : decode cX8_takes 158 = .ok (.bipush 8, 2) := by decide +kernel
theorem dX8_takes_160 : decode cX8_takes 160 = .ok (.invokestatic 86, 3) := by decide +kernel
theorem dX8_takes_163 : decode cX8_takes 163 = .ok (.aload_n 1, 1) := by decide +kernel
theorem dX8_takes_164 : decode cX8_takes 164 = .ok (.getfield 42, 3) := by decide +kernel
theorem dX8_takes_167 : decode cX8_takes 167 = .ok (.iconst 0, 1) := by decide +kernel
theorem dX8_takes_168 : decode cX8_takes 168 = .ok (.aload_n 0, 1) := by decide +kernel
theorem dX8_takes_169 : decode cX8_takes 169 = .ok (.getfield 42, 3) := by decide +kernel
theorem dX8_takes_172 : decode cX8_takes 172 = .ok (.iconst 0, 1) := by decide +kernel
theorem dX8_takes_173 : decode cX8_takes 173 = .ok (.bipush 8, 2) := by decide +kernel
theorem dX8_takes_175 : decode cX8_takes 175 = .ok (.invokestatic 86, 3) := by decide +kernel
theorem dX8_takes_178 : decode cX8_takes 178 = .ok (.return_, 1) := by decide +kernel
theorem hd_X8_takes : yX8_takes.cls = RX8 ∧ yX8_takes.cls ≠ "java/lang/invoke/MethodHandle" ∧ yX8_takes.cls ≠ "java/lang/invoke/VarHandle" ∧ (parseMethodDescriptor yX8_takes.desc).map (fun d => d.parameters.length) = some 1 := by decide +kernel
abbrev rm_X8_takes_14_1 : Room := { frames := 2, cells := 0, slots := 0, locals := 81 }
def F_X8_takes_14_1_42  (rec_10 : SG → RG → Int32 → Option (SG × RG)) (σ : SG) (ρ : RG) (v2 : Int32) (k1 : Int32) : Option (SG × RG) :=
  gd (inb k1 6) <|
  nm (r2 ρ 15 (k1).toNatClampNeg none) fun ρ26 =>
  nm (v2 + (1 : Int32)) fun x27 =>
  rec_10 σ ρ26 x27
def F_X8_takes_14_1_10  : Nat → SG → RG → Int32 → Option (SG × RG)
  | 0 => fun _ _ _ => none
  | n + 1 => fun σ ρ v2 =>
  if (6 : Int32) ≤ v2 then
    bn (F_X3_takes 16 3 σ ρ) fun σ4 =>
    bn (F_X0_takes_18_5 σ4 ρ) fun σ5 =>
    nm (s2 σ5 14 4 (σ5 1 4)) fun σ7 =>
    nm (s2 σ7 14 6 (σ7 1 6)) fun σ9 =>
    nm (s2 σ9 14 7 (σ9 1 7)) fun σ11 =>
    nm (s2 σ11 14 8 (σ11 1 8)) fun σ13 =>
    nm (s2 σ13 14 10 (σ13 1 10)) fun σ15 =>
    nm (s2 σ15 14 13 (σ15 1 13)) fun σ17 =>
    gd ((List.range 100).all (fun i => isB (σ17 10 i))) <|
    nm (cpy σ17 10 23 100) fun σ18 =>
    nm (cpy σ18 11 24 4) fun σ19 =>
    nm (cpy σ19 12 25 8) fun σ20 =>
    nm (cpy σ20 13 26 8) fun σ21 =>
    some (σ21, ρ)
  else
    bn (F_X8_cutterAt_1 v2 σ ρ) fun o22 =>
    oc o22
     (
      F_X8_takes_14_1_42 (F_X8_takes_14_1_10 n) σ ρ v2 v2)
     (fun c23 =>
      none /- none: some -/)
def F_X8_takes_14_1  (σ : SG) (ρ : RG) : Option (SG × RG) :=
  nm (s2 σ 14 1 (σ 1 1)) fun σ2 =>
  F_X8_takes_14_1_10 1024 σ2 ρ (0 : Int32)
set_option maxHeartbeats 4000000 in
set_option maxRecDepth 100000 in
theorem w_X8_takes_14_1_42  {rec_10 : SG → RG → Int32 → Option (SG × RG)} {p : Program} {e : Env} {s : State} {m : MethodId} {args : Array Value} {below : List Frame} {meth : Method} {c : Code} {σ1 : SG} {ρ1 : RG} (C : Cx Y D N ad p s m args meth c cX8_takes 4 none RX8 wsL_law) (hrec_10 : ∀ (σ : SG) (ρ : RG) (v2 : Int32) (H : Heap) (locs : List Loc) (ls : Array Slot), Lay N K len ρ → rec_10 σ ρ v2 = some (σ1, ρ1) → WP Y D N ad K len σ ρ H → va_S (AA N ad s.heap.size) s.heap H locs → lv_has ls 4 [(0, .ref (ad 14)), (1, .ref (ad 1)), (2, .int v2)] → W p l e rm_X8_takes_14_1 s m args below meth c H locs 0 0 (MQ below (QW Y D N ad K len σ1 ρ1 (AA N ad s.heap.size) none) args s 0 0 (AA N ad s.heap.size)) (F0 m 10 ls [])) {σ : SG} {ρ : RG} {v2 : Int32} {k1 : Int32} {H : Heap} {locs : List Loc} {ls : Array Slot} (hL : Lay N K len ρ) (hF : F_X8_takes_14_1_42 rec_10 σ ρ v2 k1 = some (σ1, ρ1)) (hP : WP Y D N ad K len σ ρ H) (hS : va_S (AA N ad s.heap.size) s.heap H locs) (hl : lv_has ls 4 [(0, .ref (ad 14)), (1, .ref (ad 1)), (2, .int v2)]) : W p l e rm_X8_takes_14_1 s m args below meth c H locs 0 0 (MQ below (QW Y D N ad K len σ1 ρ1 (AA N ad s.heap.size) none) args s 0 0 (AA N ad s.heap.size)) (F0 m 42 ls [.null, .int k1, .ref (ad 15)]) := by
  have hx := C.1.1
  have hb := C.1.2.1
  unfold F_X8_takes_14_1_42 at hF
  obtain ⟨g24, hF⟩ := gd_1 hF
  obtain ⟨ρ26, eρ26, hF⟩ := nm_1 hF
  refine x_aastN (ρ1 := ρ26) C hP hS (lr_15 hL) (lk_15 hL) (ln_15 hL) g24 eρ26 dX8_takes_42 (fun H locs hP hS => ?_)
  have hL : Lay N K len ρ26 := eρ26 ▸ ly_row hL _ (by decide +kernel)
  obtain ⟨x27, ex27, hF⟩ := nm_1 hF
  refine lv_iinc (v := x27) (lv' := [(2, .int x27), (0, .ref (ad 14)), (1, .ref (ad 1))]) hx hb dX8_takes_43 hl (k := 2) rfl (by rw [ex27]; first | rfl | decide) (by decide) rfl (fun ls hl => ?_)
  refine lv_goto (tgt := 10) hx hb dX8_takes_46 (by decide) ?_
  exact hrec_10 _ _ _ _ _ _ hL hF hP hS (lv_sub hl [1, 2, 0] rfl)
theorem k_X8_takes_14_1_42  {rec_10 : SG → RG → Int32 → Option (SG × RG)} {σ1 : SG} {ρ1 : RG} (hrec_10 : ∀ (σ : SG) (ρ : RG) (v2 : Int32), Lay N K len ρ → rec_10 σ ρ v2 = some (σ1, ρ1) → Lay N K len ρ1) {σ : SG} {ρ : RG} {v2 : Int32} {k1 : Int32} (hL : Lay N K len ρ) (hF : F_X8_takes_14_1_42 rec_10 σ ρ v2 k1 = some (σ1, ρ1)) : Lay N K len ρ1 := by
  unfold F_X8_takes_14_1_42 at hF
  obtain ⟨g24, hF⟩ := gd_1 hF
  obtain ⟨ρ26, eρ26, hF⟩ := nm_1 hF
  have hL : Lay N K len ρ26 := eρ26 ▸ ly_row hL _ (by decide +kernel)
  obtain ⟨x27, ex27, hF⟩ := nm_1 hF
  exact hrec_10 _ _ _ hL hF
theorem kr_X8_takes_14_1_42  {rec_10 : SG → RG → Int32 → Option (SG × RG)} {σ1 : SG} {ρ1 : RG} (hrec_10 : ∀ (σ : SG) (ρ : RG) (v2 : Int32), Lay N K len ρ → RC N ρ → rec_10 σ ρ v2 = some (σ1, ρ1) → RC N ρ1) {σ : SG} {ρ : RG} {v2 : Int32} {k1 : Int32} (hL : Lay N K len ρ) (hR : RC N ρ) (hF : F_X8_takes_14_1_42 rec_10 σ ρ v2 k1 = some (σ1, ρ1)) : RC N ρ1 := by
  unfold F_X8_takes_14_1_42 at hF
  obtain ⟨g24, hF⟩ := gd_1 hF
  obtain ⟨ρ26, eρ26, hF⟩ := nm_1 hF
  have hR : RC N ρ26 := by rw [eρ26]; exact RC_putn hR
  have hL : Lay N K len ρ26 := eρ26 ▸ ly_row hL _ (by decide +kernel)
  obtain ⟨x27, ex27, hF⟩ := nm_1 hF
  exact hrec_10 _ _ _ hL hR hF
set_option maxHeartbeats 4000000 in
set_option maxRecDepth 100000 in
theorem w_X8_takes_14_1_10  {p : Program} {e : Env} {s : State} {m : MethodId} {args : Array Value} {below : List Frame} {meth : Method} {c : Code} {σ1 : SG} {ρ1 : RG} (C : Cx Y D N ad p s m args meth c cX8_takes 4 none RX8 wsL_law) : ∀ (n : Nat) (σ : SG) (ρ : RG) (v2 : Int32) (H : Heap) (locs : List Loc) (ls : Array Slot), Lay N K len ρ → F_X8_takes_14_1_10 n σ ρ v2 = some (σ1, ρ1) → WP Y D N ad K len σ ρ H → va_S (AA N ad s.heap.size) s.heap H locs → lv_has ls 4 [(0, .ref (ad 14)), (1, .ref (ad 1)), (2, .int v2)] → W p l e rm_X8_takes_14_1 s m args below meth c H locs 0 0 (MQ below (QW Y D N ad K len σ1 ρ1 (AA N ad s.heap.size) none) args s 0 0 (AA N ad s.heap.size)) (F0 m 10 ls []) := by
  have hx := C.1.1
  have hb := C.1.2.1
  intro n
  induction n with
  | zero => intro σ ρ v2 H locs ls hL hF; cases hF
  | succ n ih =>
    intro σ ρ v2 H locs ls hL hF hP hS hl
    unfold F_X8_takes_14_1_10 at hF
    refine lv_iload_n hx hb dX8_takes_10 rfl (lv_at hl 2 rfl) ?_
    refine lv_aload_n hx hb dX8_takes_11 rfl (lv_at hl 0 rfl) ?_
    refine get_8_0 C hP (lr_14 hL) (lk_14 hL) inlX8 mw_39 (lf_14_0 hL) dX8_takes_12 ?_
    refine x_alen (v := (6 : Int32)) C hP (lr_15 hL) (lk_15 hL) (by decide) (ln_15 hL) (by decide +kernel) dX8_takes_15 ?_
    refine lv_icmp_ge (tgt := 49) hx hb dX8_takes_16 (by decide) (fun c_3 => ?_) (fun c_3 => ?_) -- COND 3 by_cases c_3 : (6 : Int32) ≤ v2
    · have hF := ite_t hF c_3
      refine lv_aload_n hx hb dX8_takes_49 rfl (lv_at hl 0 rfl) ?_
      refine get_8_2 C hP (lr_14 hL) (lk_14 hL) inlX8 mw_41 (lf_14_2 hL) dX8_takes_50 ?_
      refine lv_aload_n hx hb dX8_takes_53 rfl (lv_at hl 1 rfl) ?_
      refine get_8_2 C hP (lr_1 hL) (lk_1 hL) inlX8 mw_41 (lf_1_2 hL) dX8_takes_54 ?_
      obtain ⟨σ4, hq4, hF⟩ := bn_1 hF
      refine x_callV (ci := 3) rfl rfl C hP hS (c_X3_takes hL (il_16 hL) (il_3 hL) hq4) (lr_16 hL) (lk_16 hL) (cwV 1 C.1.2.2.2.2 (gdV mw_1198 mw_721 mw_722 mw_31 mw_723) rfl rfl rfl hd_X3_takes ⟨Nat.le_of_ble_eq_true rfl, Nat.le_of_ble_eq_true rfl⟩) rfl rfl hl.1 (Nat.le_of_ble_eq_true rfl) ⟨Nat.zero_le _, Nat.zero_le _⟩ dX8_takes_57 (fun H locs hP hS => ?_)
      refine lv_aload_n hx hb dX8_takes_60 rfl (lv_at hl 0 rfl) ?_
      refine get_8_3 C hP (lr_14 hL) (lk_14 hL) inlX8 mw_43 (lf_14_3 hL) dX8_takes_61 ?_
      refine lv_aload_n hx hb dX8_takes_64 rfl (lv_at hl 1 rfl) ?_
      refine get_8_3 C hP (lr_1 hL) (lk_1 hL) inlX8 mw_43 (lf_1_3 hL) dX8_takes_65 ?_
      obtain ⟨σ5, hq5, hF⟩ := bn_1 hF
      refine x_callV (ci := 0) rfl rfl C hP hS (c_X0_takes_18_5 hL hq5) (lr_18 hL) (lk_18 hL) (cwV 1 C.1.2.2.2.2 (gdV mw_1199 mw_282 mw_283 mw_23 mw_284) rfl rfl rfl hd_X0_takes ⟨Nat.le_of_ble_eq_true rfl, Nat.le_of_ble_eq_true rfl⟩) rfl rfl hl.1 (Nat.le_of_ble_eq_true rfl) ⟨Nat.zero_le _, Nat.zero_le _⟩ dX8_takes_68 (fun H locs hP hS => ?_)
      refine lv_aload_n hx hb dX8_takes_71 rfl (lv_at hl 0 rfl) ?_
      refine lv_aload_n hx hb dX8_takes_72 rfl (lv_at hl 1 rfl) ?_
      refine get_8_4 C hP (lr_1 hL) (lk_1 hL) inlX8 mw_1159 dX8_takes_73 ?_
      obtain ⟨σ7, eσ7, hF⟩ := nm_1 hF
      refine put_8_4 C hP hS (lr_14 hL) (lk_14 hL) inlX8 mw_1159 eσ7 dX8_takes_76 (fun H locs hP hS => ?_)
      refine lv_aload_n hx hb dX8_takes_79 rfl (lv_at hl 0 rfl) ?_
      refine lv_aload_n hx hb dX8_takes_80 rfl (lv_at hl 1 rfl) ?_
      refine get_8_6 C hP (lr_1 hL) (lk_1 hL) inlX8 mw_1160 dX8_takes_81 ?_
      obtain ⟨σ9, eσ9, hF⟩ := nm_1 hF
      refine put_8_6 C hP hS (lr_14 hL) (lk_14 hL) inlX8 mw_1160 eσ9 dX8_takes_84 (fun H locs hP hS => ?_)
      refine lv_aload_n hx hb dX8_takes_87 rfl (lv_at hl 0 rfl) ?_
      refine lv_aload_n hx hb dX8_takes_88 rfl (lv_at hl 1 rfl) ?_
      refine get_8_7 C hP (lr_1 hL) (lk_1 hL) inlX8 mw_1161 dX8_takes_89 ?_
      obtain ⟨σ11, eσ11, hF⟩ := nm_1 hF
      refine put_8_7 C hP hS (lr_14 hL) (lk_14 hL) inlX8 mw_1161 eσ11 dX8_takes_92 (fun H locs hP hS => ?_)
      refine lv_aload_n hx hb dX8_takes_95 rfl (lv_at hl 0 rfl) ?_
      refine lv_aload_n hx hb dX8_takes_96 rfl (lv_at hl 1 rfl) ?_
      refine get_8_8 C hP (lr_1 hL) (lk_1 hL) inlX8 mw_1162 dX8_takes_97 ?_
      obtain ⟨σ13, eσ13, hF⟩ := nm_1 hF
      refine put_8_8 C hP hS (lr_14 hL) (lk_14 hL) inlX8 mw_1162 eσ13 dX8_takes_100 (fun H locs hP hS => ?_)
      refine lv_aload_n hx hb dX8_takes_103 rfl (lv_at hl 0 rfl) ?_
      refine lv_aload_n hx hb dX8_takes_104 rfl (lv_at hl 1 rfl) ?_
      refine get_8_10 C hP (lr_1 hL) (lk_1 hL) inlX8 mw_1163 dX8_takes_105 ?_
      obtain ⟨σ15, eσ15, hF⟩ := nm_1 hF
      refine put_8_10 C hP hS (lr_14 hL) (lk_14 hL) inlX8 mw_1163 eσ15 dX8_takes_108 (fun H locs hP hS => ?_)
      refine lv_aload_n hx hb dX8_takes_111 rfl (lv_at hl 0 rfl) ?_
      refine lv_aload_n hx hb dX8_takes_112 rfl (lv_at hl 1 rfl) ?_
      refine get_8_13 C hP (lr_1 hL) (lk_1 hL) inlX8 mw_1164 dX8_takes_113 ?_
      obtain ⟨σ17, eσ17, hF⟩ := nm_1 hF
      refine put_8_13 C hP hS (lr_14 hL) (lk_14 hL) inlX8 mw_1164 eσ17 dX8_takes_116 (fun H locs hP hS => ?_)
      refine lv_aload_n hx hb dX8_takes_119 rfl (lv_at hl 1 rfl) ?_
      refine get_8_5 C hP (lr_1 hL) (lk_1 hL) inlX8 mw_45 (lf_1_5 hL) dX8_takes_120 ?_
      refine lv_iconst (v := 0) hx hb dX8_takes_123 (by decide) ?_
      refine lv_aload_n hx hb dX8_takes_124 rfl (lv_at hl 0 rfl) ?_
      refine get_8_5 C hP (lr_14 hL) (lk_14 hL) inlX8 mw_45 (lf_14_5 hL) dX8_takes_125 ?_
      refine lv_iconst (v := 0) hx hb dX8_takes_128 (by decide) ?_
      refine lv_bipush (v := 100) hx hb dX8_takes_129 (by decide +kernel) ?_
      obtain ⟨ga18, hF⟩ := gd_1 hF
      obtain ⟨σ18, eσ18, hF⟩ := nm_1 hF
      refine x_copyB C hP hS hl.1 (lr_10 hL) (lr_23 hL) (lk_10 hL) (lk_23 hL) (ln_10 hL) (ln_23 hL) (by decide +kernel : (100 : Int32).toNatClampNeg = 100) (by decide) (Nat.le_of_ble_eq_true rfl) (Nat.le_of_ble_eq_true rfl) ga18 eσ18 mw_1165 mw_286 mw_287 mw_288 (Nat.le_of_ble_eq_true rfl) (Nat.le_of_ble_eq_true rfl) dX8_takes_131 (fun H locs hP hS => ?_)
      refine lv_aload_n hx hb dX8_takes_134 rfl (lv_at hl 1 rfl) ?_
      refine get_8_9 C hP (lr_1 hL) (lk_1 hL) inlX8 mw_46 (lf_1_9 hL) dX8_takes_135 ?_
      refine lv_iconst (v := 0) hx hb dX8_takes_138 (by decide) ?_
      refine lv_aload_n hx hb dX8_takes_139 rfl (lv_at hl 0 rfl) ?_
      refine get_8_9 C hP (lr_14 hL) (lk_14 hL) inlX8 mw_46 (lf_14_9 hL) dX8_takes_140 ?_
      refine lv_iconst (v := 0) hx hb dX8_takes_143 (by decide) ?_
      refine lv_iconst (v := 4) hx hb dX8_takes_144 (by decide) ?_
      obtain ⟨σ19, eσ19, hF⟩ := nm_1 hF
      refine x_copyI C hP hS hl.1 (lr_11 hL) (lr_24 hL) (lk_11 hL) (lk_24 hL) (ln_11 hL) (ln_24 hL) (by decide +kernel : (4 : Int32).toNatClampNeg = 4) (by decide) (Nat.le_of_ble_eq_true rfl) (Nat.le_of_ble_eq_true rfl)  eσ19 mw_1165 mw_286 mw_287 mw_288 (Nat.le_of_ble_eq_true rfl) (Nat.le_of_ble_eq_true rfl) dX8_takes_145 (fun H locs hP hS => ?_)
      refine lv_aload_n hx hb dX8_takes_148 rfl (lv_at hl 1 rfl) ?_
      refine get_8_11 C hP (lr_1 hL) (lk_1 hL) inlX8 mw_47 (lf_1_11 hL) dX8_takes_149 ?_
      refine lv_iconst (v := 0) hx hb dX8_takes_152 (by decide) ?_
      refine lv_aload_n hx hb dX8_takes_153 rfl (lv_at hl 0 rfl) ?_
      refine get_8_11 C hP (lr_14 hL) (lk_14 hL) inlX8 mw_47 (lf_14_11 hL) dX8_takes_154 ?_
      refine lv_iconst (v := 0) hx hb dX8_takes_157 (by decide) ?_
      refine lv_bipush (v := 8) hx hb dX8_takes_158 (by decide +kernel) ?_
      obtain ⟨σ20, eσ20, hF⟩ := nm_1 hF
      refine x_copyI C hP hS hl.1 (lr_12 hL) (lr_25 hL) (lk_12 hL) (lk_25 hL) (ln_12 hL) (ln_25 hL) (by decide +kernel : (8 : Int32).toNatClampNeg = 8) (by decide) (Nat.le_of_ble_eq_true rfl) (Nat.le_of_ble_eq_true rfl)  eσ20 mw_1165 mw_286 mw_287 mw_288 (Nat.le_of_ble_eq_true rfl) (Nat.le_of_ble_eq_true rfl) dX8_takes_160 (fun H locs hP hS => ?_)
      refine lv_aload_n hx hb dX8_takes_163 rfl (lv_at hl 1 rfl) ?_
      refine get_8_12 C hP (lr_1 hL) (lk_1 hL) inlX8 mw_48 (lf_1_12 hL) dX8_takes_164 ?_
      refine lv_iconst (v := 0) hx hb dX8_takes_167 (by decide) ?_
      refine lv_aload_n hx hb dX8_takes_168 rfl (lv_at hl 0 rfl) ?_
      refine get_8_12 C hP (lr_14 hL) (lk_14 hL) inlX8 mw_48 (lf_14_12 hL) dX8_takes_169 ?_
      refine lv_iconst (v := 0) hx hb dX8_takes_172 (by decide) ?_
      refine lv_bipush (v := 8) hx hb dX8_takes_173 (by decide +kernel) ?_
      obtain ⟨σ21, eσ21, hF⟩ := nm_1 hF
      refine x_copyI C hP hS hl.1 (lr_13 hL) (lr_26 hL) (lk_13 hL) (lk_26 hL) (ln_13 hL) (ln_26 hL) (by decide +kernel : (8 : Int32).toNatClampNeg = 8) (by decide) (Nat.le_of_ble_eq_true rfl) (Nat.le_of_ble_eq_true rfl)  eσ21 mw_1165 mw_286 mw_287 mw_288 (Nat.le_of_ble_eq_true rfl) (Nat.le_of_ble_eq_true rfl) dX8_takes_175 (fun H locs hP hS => ?_)
      obtain ⟨rfl, rfl⟩ := ret_2 hF
      exact x_vret rfl C hP hS dX8_takes_178
    · have hF := ite_f hF c_3
      refine lv_aload_n hx hb dX8_takes_19 rfl (lv_at hl 1 rfl) ?_
      refine lv_iload_n hx hb dX8_takes_20 rfl (lv_at hl 2 rfl) ?_
      obtain ⟨o22, hq22, hF⟩ := bn_1 hF
      refine x_callV (ci := 8) rfl rfl C hP hS (c_X8_cutterAt_1 hL hq22) (lr_1 hL) (lk_1 hL) (cwV 1 C.1.2.2.2.2 (gdV mw_1166 mw_429 mw_430 mw_14 mw_431) rfl rfl rfl hd_X8_cutterAt ⟨Nat.le_of_ble_eq_true rfl, Nat.le_of_ble_eq_true rfl⟩) rfl rfl hl.1 (Nat.le_of_ble_eq_true rfl) ⟨Nat.zero_le _, Nat.zero_le _⟩ dX8_takes_21 (fun H locs hP hS => ?_)
      rcases ho23 : o22 with _ | c23
      · have hF := oc_n hF ho23
        refine x_n ?_
        refine lv_astore_nN (lv' := [(3, .null), (0, .ref (ad 14)), (1, .ref (ad 1)), (2, .int v2)]) hx hb dX8_takes_24 rfl hl (by decide) rfl (fun ls hl => ?_)
        refine lv_aload_n hx hb dX8_takes_25 rfl (lv_at hl 1 rfl) ?_
        refine get_8_0 C hP (lr_14 hL) (lk_14 hL) inlX8 mw_39 (lf_14_0 hL) dX8_takes_26 ?_
        refine lv_iload_n hx hb dX8_takes_29 rfl (lv_at hl 3 rfl) ?_
        refine lv_aload_nN hx hb dX8_takes_30 rfl (lv_at hl 0 rfl) ?_
        refine lv_ifnonnullN hx hb dX8_takes_31 ?_
        refine lv_null hx hb dX8_takes_34 ?_
        refine lv_goto (tgt := 42) hx hb dX8_takes_35 (by decide) ?_
        exact w_X8_takes_14_1_42 C ih hL hF hP hS (lv_sub hl [1, 2, 3] rfl)
      · have hF := oc_s hF ho23
        refine x_s ?_
        cases hF
theorem k_X8_takes_14_1_10  {σ1 : SG} {ρ1 : RG} : ∀ (n : Nat) (σ : SG) (ρ : RG) (v2 : Int32), Lay N K len ρ → F_X8_takes_14_1_10 n σ ρ v2 = some (σ1, ρ1) → Lay N K len ρ1 := by
  intro n
  induction n with
  | zero => intro σ ρ v2 hL hF; cases hF
  | succ n ih =>
    intro σ ρ v2 hL hF
    unfold F_X8_takes_14_1_10 at hF
    by_cases c_3 : (6 : Int32) ≤ v2
    · have hF := ite_t hF c_3
      obtain ⟨σ4, hq4, hF⟩ := bn_1 hF
      obtain ⟨σ5, hq5, hF⟩ := bn_1 hF
      obtain ⟨σ7, eσ7, hF⟩ := nm_1 hF
      obtain ⟨σ9, eσ9, hF⟩ := nm_1 hF
      obtain ⟨σ11, eσ11, hF⟩ := nm_1 hF
      obtain ⟨σ13, eσ13, hF⟩ := nm_1 hF
      obtain ⟨σ15, eσ15, hF⟩ := nm_1 hF
      obtain ⟨σ17, eσ17, hF⟩ := nm_1 hF
      obtain ⟨ga18, hF⟩ := gd_1 hF
      obtain ⟨σ18, eσ18, hF⟩ := nm_1 hF
      obtain ⟨σ19, eσ19, hF⟩ := nm_1 hF
      obtain ⟨σ20, eσ20, hF⟩ := nm_1 hF
      obtain ⟨σ21, eσ21, hF⟩ := nm_1 hF
      obtain ⟨rfl, rfl⟩ := ret_2 hF
      exact hL
    · have hF := ite_f hF c_3
      obtain ⟨o22, hq22, hF⟩ := bn_1 hF
      rcases ho23 : o22 with _ | c23
      · have hF := oc_n hF ho23
        exact k_X8_takes_14_1_42 ih hL hF
      · have hF := oc_s hF ho23
        cases hF
theorem kr_X8_takes_14_1_10  {σ1 : SG} {ρ1 : RG} : ∀ (n : Nat) (σ : SG) (ρ : RG) (v2 : Int32), Lay N K len ρ → RC N ρ → F_X8_takes_14_1_10 n σ ρ v2 = some (σ1, ρ1) → RC N ρ1 := by
  intro n
  induction n with
  | zero => intro σ ρ v2 hL hR hF; cases hF
  | succ n ih =>
    intro σ ρ v2 hL hR hF
    unfold F_X8_takes_14_1_10 at hF
    by_cases c_3 : (6 : Int32) ≤ v2
    · have hF := ite_t hF c_3
      obtain ⟨σ4, hq4, hF⟩ := bn_1 hF
      obtain ⟨σ5, hq5, hF⟩ := bn_1 hF
      obtain ⟨σ7, eσ7, hF⟩ := nm_1 hF
      obtain ⟨σ9, eσ9, hF⟩ := nm_1 hF
      obtain ⟨σ11, eσ11, hF⟩ := nm_1 hF
      obtain ⟨σ13, eσ13, hF⟩ := nm_1 hF
      obtain ⟨σ15, eσ15, hF⟩ := nm_1 hF
      obtain ⟨σ17, eσ17, hF⟩ := nm_1 hF
      obtain ⟨ga18, hF⟩ := gd_1 hF
      obtain ⟨σ18, eσ18, hF⟩ := nm_1 hF
      obtain ⟨σ19, eσ19, hF⟩ := nm_1 hF
      obtain ⟨σ20, eσ20, hF⟩ := nm_1 hF
      obtain ⟨σ21, eσ21, hF⟩ := nm_1 hF
      obtain ⟨rfl, rfl⟩ := ret_2 hF
      exact hR
    · have hF := ite_f hF c_3
      obtain ⟨o22, hq22, hF⟩ := bn_1 hF
      rcases ho23 : o22 with _ | c23
      · have hF := oc_n hF ho23
        exact kr_X8_takes_14_1_42 ih hL hR hF
      · have hF := oc_s hF ho23
        cases hF
set_option maxHeartbeats 4000000 in
set_option maxRecDepth 100000 in
theorem w_X8_takes_14_1_0  {p : Program} {e : Env} {s : State} {m : MethodId} {args : Array Value} {below : List Frame} {meth : Method} {c : Code} {σ1 : SG} {ρ1 : RG} (C : Cx Y D N ad p s m args meth c cX8_takes 4 none RX8 wsL_law) {σ : SG} {ρ : RG} {H : Heap} {locs : List Loc} {ls : Array Slot} (hL : Lay N K len ρ) (hF : F_X8_takes_14_1 σ ρ = some (σ1, ρ1)) (hP : WP Y D N ad K len σ ρ H) (hS : va_S (AA N ad s.heap.size) s.heap H locs) (hl : lv_has ls 4 [(0, .ref (ad 14)), (1, .ref (ad 1))]) : W p l e rm_X8_takes_14_1 s m args below meth c H locs 0 0 (MQ below (QW Y D N ad K len σ1 ρ1 (AA N ad s.heap.size) none) args s 0 0 (AA N ad s.heap.size)) (F0 m 0 ls []) := by
  have hx := C.1.1
  have hb := C.1.2.1
  unfold F_X8_takes_14_1 at hF
  refine lv_aload_n hx hb dX8_takes_0 rfl (lv_at hl 0 rfl) ?_
  refine lv_aload_n hx hb dX8_takes_1 rfl (lv_at hl 1 rfl) ?_
  refine get_8_1 C hP (lr_1 hL) (lk_1 hL) inlX8 mw_432 dX8_takes_2 ?_
  obtain ⟨σ2, eσ2, hF⟩ := nm_1 hF
  refine put_8_1 C hP hS (lr_14 hL) (lk_14 hL) inlX8 mw_432 eσ2 dX8_takes_5 (fun H locs hP hS => ?_)
  refine lv_iconst (v := 0) hx hb dX8_takes_8 (by decide) ?_
  refine lv_istore_n (lv' := [(2, .int (0 : Int32)), (0, .ref (ad 14)), (1, .ref (ad 1))]) hx hb dX8_takes_9 rfl hl (by decide) rfl (fun ls hl => ?_)
  exact w_X8_takes_14_1_10 C 1024 _ _ _ _ _ _ hL hF hP hS (lv_sub hl [1, 2, 0] rfl)
theorem k_X8_takes_14_1_0  {σ1 : SG} {ρ1 : RG} {σ : SG} {ρ : RG} (hL : Lay N K len ρ) (hF : F_X8_takes_14_1 σ ρ = some (σ1, ρ1)) : Lay N K len ρ1 := by
  unfold F_X8_takes_14_1 at hF
  obtain ⟨σ2, eσ2, hF⟩ := nm_1 hF
  exact k_X8_takes_14_1_10 1024 _ _ _ hL hF
theorem kr_X8_takes_14_1_0  {σ1 : SG} {ρ1 : RG} {σ : SG} {ρ : RG} (hL : Lay N K len ρ) (hR : RC N ρ) (hF : F_X8_takes_14_1 σ ρ = some (σ1, ρ1)) : RC N ρ1 := by
  unfold F_X8_takes_14_1 at hF
  obtain ⟨σ2, eσ2, hF⟩ := nm_1 hF
  exact kr_X8_takes_14_1_10 1024 _ _ _ hL hR hF
set_option maxHeartbeats 4000000 in
set_option maxRecDepth 100000 in
theorem c_X8_takes_14_1  {σ1 : SG} {ρ1 : RG} {σ : SG} {ρ : RG} (hL : Lay N K len ρ) (hF : F_X8_takes_14_1 σ ρ = some (σ1, ρ1)) : MT l Y D N ad K len yX8_takes (Cond.code yX8_takes cX8_takes 4 none :: wsL_law) rm_X8_takes_14_1 [.ref (ad 14), .ref (ad 1)] σ ρ none σ1 ρ1 := by
  refine mt_of (cc := cX8_takes) (nL := 4) (ret := none) (by decide) (Nat.le_of_ble_eq_true rfl) ?_
  intro p e s m args below meth c ls C hnm hP hS hl
  exact w_X8_takes_14_1_0 C hL hF hP hS hl
theorem k_X8_takes_14_1  {σ1 : SG} {ρ1 : RG} {σ : SG} {ρ : RG} (hL : Lay N K len ρ) (hF : F_X8_takes_14_1 σ ρ = some (σ1, ρ1)) : Lay N K len ρ1 := k_X8_takes_14_1_0 hL hF
theorem kr_X8_takes_14_1  {σ1 : SG} {ρ1 : RG} {σ : SG} {ρ : RG} (hL : Lay N K len ρ) (hR : RC N ρ) (hF : F_X8_takes_14_1 σ ρ = some (σ1, ρ1)) : RC N ρ1 := kr_X8_takes_14_1_0 hL hR hF
end GEN
