/-! PART 11.xb: printed by wip/gen -/
section GEN
variable {l : Launch} {Y : YT} {D : va_G} {N : Nat} {ad K len : Nat → Nat}
variable {fR lR : Nat}
/-! CutCrooked$Loaf.private static int acrossAt(int, int, int);  -/
theorem dX3_acrossAt_0 : decode cX3_acrossAt 0 = .ok (.iload_n 0, 1) := by decide +kernel
theorem dX3_acrossAt_1 : decode cX3_acrossAt 1 = .ok (.iconst 2, 1) := by decide +kernel
theorem dX3_acrossAt_2 : decode cX3_acrossAt 2 = .ok (.if_icmp .ge 7, 3) := by decide +kernel
theorem dX3_acrossAt_5 : decode cX3_acrossAt 5 = .ok (.iload_n 1, 1) := by decide +kernel
theorem dX3_acrossAt_6 : decode cX3_acrossAt 6 = .ok (.goto 5, 3) := by decide +kernel
theorem dX3_acrossAt_9 : decode cX3_acrossAt 9 = .ok (.iload_n 1, 1) := by decide +kernel
theorem dX3_acrossAt_10 : decode cX3_acrossAt 10 = .ok (.ineg, 1) := by decide +kernel
theorem dX3_acrossAt_11 : decode cX3_acrossAt 11 = .ok (.iload_n 0, 1) := by decide +kernel
theorem dX3_acrossAt_12 : decode cX3_acrossAt 12 = .ok (.iconst 2, 1) := by decide +kernel
theorem dX3_acrossAt_13 : decode cX3_acrossAt 13 = .ok (.irem, 1) := by decide +kernel
theorem dX3_acrossAt_14 : decode cX3_acrossAt 14 = .ok (.ifCond .ne 8, 3) := by decide +kernel
theorem dX3_acrossAt_17 : decode cX3_acrossAt 17 = .ok (.iload_n 2, 1) := by decide +kernel
theorem dX3_acrossAt_18 : decode cX3_acrossAt 18 = .ok (.ineg, 1) := by decide +kernel
theorem dX3_acrossAt_19 : decode cX3_acrossAt 19 = .ok (.goto 4, 3) := by decide +kernel
theorem dX3_acrossAt_22 : decode cX3_acrossAt 22 = .ok (.iload_n 2, 1) := by decide +kernel
theorem dX3_acrossAt_23 : decode cX3_acrossAt 23 = .ok (.iadd, 1) := by decide +kernel
theorem dX3_acrossAt_24 : decode cX3_acrossAt 24 = .ok (.ireturn, 1) := by decide +kernel
theorem hd_X3_acrossAt : yX3_acrossAt.cls = RX3 ∧ yX3_acrossAt.cls ≠ "java/lang/invoke/MethodHandle" ∧ yX3_acrossAt.cls ≠ "java/lang/invoke/VarHandle" ∧ (parseMethodDescriptor yX3_acrossAt.desc).map (fun d => d.parameters.length) = some 3 := by decide +kernel
abbrev rm_X3_acrossAt : Room := { frames := 0, cells := 0, slots := 0, locals := 0 }
def F_X3_acrossAt_11 (a1 : Int32) (a2 : Int32) (a3 : Int32) (σ : SG) (ρ : RG) (v0 : Int32) (v2 : Int32) (k0 : Int32) : Option (Int32) :=
  nm (v0 - v0 / (2 : Int32) * (2 : Int32)) fun x3 =>
  if x3 = 0 then
    nm (-v2) fun x6 =>
    nm (k0 + x6) fun x7 =>
    some x7
  else
    nm (k0 + v2) fun x5 =>
    some x5
def F_X3_acrossAt (a1 : Int32) (a2 : Int32) (a3 : Int32) (σ : SG) (ρ : RG) : Option (Int32) :=
  if (2 : Int32) ≤ a1 then
    nm (-a2) fun x2 =>
    F_X3_acrossAt_11 a1 a2 a3 σ ρ a1 a3 x2
  else
    F_X3_acrossAt_11 a1 a2 a3 σ ρ a1 a3 a2
set_option maxHeartbeats 4000000 in
set_option maxRecDepth 100000 in
theorem w_X3_acrossAt_11 {a1 : Int32} {a2 : Int32} {a3 : Int32} {p : Program} {e : Env} {s : State} {m : MethodId} {args : Array Value} {below : List Frame} {meth : Method} {c : Code} {σ0 : SG} {ρ0 : RG} {r : Int32} (C : Cx Y D N ad p s m args meth c cX3_acrossAt 3 (some .int) RX3 wsL_law) {σ : SG} {ρ : RG} {v0 : Int32} {v2 : Int32} {k0 : Int32} {H : Heap} {locs : List Loc} {ls : Array Slot} (hσ0 : σ = σ0) (hρ0 : ρ = ρ0) (hL : Lay N K len ρ) (hF : F_X3_acrossAt_11 a1 a2 a3 σ ρ v0 v2 k0 = some r) (hP : WP Y D N ad K len σ ρ H) (hS : va_S (AA N ad s.heap.size) s.heap H locs) (hl : lv_has ls 3 [(0, .int v0), (2, .int v2)]) : W p l e rm_X3_acrossAt s m args below meth c H locs 0 0 (MQ below (QW Y D N ad K len σ0 ρ0 (AA N ad s.heap.size) (some (.int r))) args s 0 0 (AA N ad s.heap.size)) (F0 m 11 ls [.int k0]) := by
  have hx := C.1.1
  have hb := C.1.2.1
  unfold F_X3_acrossAt_11 at hF
  refine lv_iload_n hx hb dX3_acrossAt_11 rfl (lv_at hl 0 rfl) ?_
  refine lv_iconst (v := 2) hx hb dX3_acrossAt_12 (by decide) ?_
  refine lv_irem hx hb dX3_acrossAt_13 (by decide) ?_
  obtain ⟨x3, ex3, hF⟩ := nm_1 hF
  refine x_top ex3 ?_
  refine lv_if_ne (tgt := 22) hx hb dX3_acrossAt_14 (by decide) (fun c_4 => ?_) (fun c_4 => ?_) -- COND 4 rcases (Decidable.em (x3 = 0)).symm with c_4 | c_4
  · have hF := ite_f hF c_4
    refine lv_iload_n hx hb dX3_acrossAt_22 rfl (lv_at hl 1 rfl) ?_
    refine lv_iadd hx hb dX3_acrossAt_23 ?_
    obtain ⟨x5, ex5, hF⟩ := nm_1 hF
    refine x_top ex5 ?_
    obtain rfl := ret_1 hF
    subst hσ0
    subst hρ0
    exact x_iret rfl C hP hS dX3_acrossAt_24
  · have hF := ite_t hF c_4
    refine lv_iload_n hx hb dX3_acrossAt_17 rfl (lv_at hl 1 rfl) ?_
    refine lv_ineg hx hb dX3_acrossAt_18 ?_
    obtain ⟨x6, ex6, hF⟩ := nm_1 hF
    refine x_top ex6 ?_
    refine lv_goto (tgt := 23) hx hb dX3_acrossAt_19 (by decide) ?_
    refine lv_iadd hx hb dX3_acrossAt_23 ?_
    obtain ⟨x7, ex7, hF⟩ := nm_1 hF
    refine x_top ex7 ?_
    obtain rfl := ret_1 hF
    subst hσ0
    subst hρ0
    exact x_iret rfl C hP hS dX3_acrossAt_24
set_option maxHeartbeats 4000000 in
set_option maxRecDepth 100000 in
theorem w_X3_acrossAt_0 {a1 : Int32} {a2 : Int32} {a3 : Int32} {p : Program} {e : Env} {s : State} {m : MethodId} {args : Array Value} {below : List Frame} {meth : Method} {c : Code} {σ0 : SG} {ρ0 : RG} {r : Int32} (C : Cx Y D N ad p s m args meth c cX3_acrossAt 3 (some .int) RX3 wsL_law) {σ : SG} {ρ : RG} {H : Heap} {locs : List Loc} {ls : Array Slot} (hσ0 : σ = σ0) (hρ0 : ρ = ρ0) (hL : Lay N K len ρ) (hF : F_X3_acrossAt a1 a2 a3 σ ρ = some r) (hP : WP Y D N ad K len σ ρ H) (hS : va_S (AA N ad s.heap.size) s.heap H locs) (hl : lv_has ls 3 [(0, .int a1), (1, .int a2), (2, .int a3)]) : W p l e rm_X3_acrossAt s m args below meth c H locs 0 0 (MQ below (QW Y D N ad K len σ0 ρ0 (AA N ad s.heap.size) (some (.int r))) args s 0 0 (AA N ad s.heap.size)) (F0 m 0 ls []) := by
  have hx := C.1.1
  have hb := C.1.2.1
  unfold F_X3_acrossAt at hF
  refine lv_iload_n hx hb dX3_acrossAt_0 rfl (lv_at hl 0 rfl) ?_
  refine lv_iconst (v := 2) hx hb dX3_acrossAt_1 (by decide) ?_
  refine lv_icmp_ge (tgt := 9) hx hb dX3_acrossAt_2 (by decide) (fun c_1 => ?_) (fun c_1 => ?_) -- COND 1 by_cases c_1 : (2 : Int32) ≤ a1
  · have hF := ite_t hF c_1
    refine lv_iload_n hx hb dX3_acrossAt_9 rfl (lv_at hl 1 rfl) ?_
    refine lv_ineg hx hb dX3_acrossAt_10 ?_
    obtain ⟨x2, ex2, hF⟩ := nm_1 hF
    refine x_top ex2 ?_
    exact w_X3_acrossAt_11 C hσ0 hρ0 hL hF hP hS (lv_sub hl [0, 2] rfl)
  · have hF := ite_f hF c_1
    refine lv_iload_n hx hb dX3_acrossAt_5 rfl (lv_at hl 1 rfl) ?_
    refine lv_goto (tgt := 11) hx hb dX3_acrossAt_6 (by decide) ?_
    exact w_X3_acrossAt_11 C hσ0 hρ0 hL hF hP hS (lv_sub hl [0, 2] rfl)
set_option maxHeartbeats 4000000 in
set_option maxRecDepth 100000 in
theorem c_X3_acrossAt {a1 : Int32} {a2 : Int32} {a3 : Int32} {r : Int32} {σ : SG} {ρ : RG} (hL : Lay N K len ρ) (hF : F_X3_acrossAt a1 a2 a3 σ ρ = some r) : MT l Y D N ad K len yX3_acrossAt (Cond.code yX3_acrossAt cX3_acrossAt 3 (some .int) :: wsL_law) rm_X3_acrossAt [.int a1, .int a2, .int a3] σ ρ (some (.int r)) σ ρ := by
  refine mt_of (cc := cX3_acrossAt) (nL := 3) (ret := (some .int)) (by decide) (Nat.le_of_ble_eq_true rfl) ?_
  intro p e s m args below meth c ls C hnm hP hS hl
  exact w_X3_acrossAt_0 C rfl rfl hL hF hP hS hl

/-! CutCrooked$Loaf.void startsAnew(int);  -/
theorem dX3_startsAnew_0 : decode cX3_startsAnew 0 = .ok (.aload_n 0, 1) := by decide +kernel
theorem dX3_startsAnew_1 : decode cX3_startsAnew 1 = .ok (.iload_n 1, 1) := by decide +kernel
theorem dX3_startsAnew_2 : decode cX3_startsAnew 2 = .ok (.putfield 15, 3) := by decide +kernel
theorem dX3_startsAnew_5 : decode cX3_startsAnew 5 = .ok (.aload_n 0, 1) := by decide +kernel
theorem dX3_startsAnew_6 : decode cX3_startsAnew 6 = .ok (.iload_n 1, 1) := by decide +kernel
theorem dX3_startsAnew_7 : decode cX3_startsAnew 7 = .ok (.putfield 19, 3) := by decide +kernel
theorem dX3_startsAnew_10 : decode cX3_startsAnew 10 = .ok (.aload_n 0, 1) := by decide +kernel
theorem dX3_startsAnew_11 : decode cX3_startsAnew 11 = .ok (.iconst 0, 1) := by decide +kernel
theorem dX3_startsAnew_12 : decode cX3_startsAnew 12 = .ok (.putfield 22, 3) := by decide +kernel
theorem dX3_startsAnew_15 : decode cX3_startsAnew 15 = .ok (.aload_n 0, 1) := by decide +kernel
theorem dX3_startsAnew_16 : decode cX3_startsAnew 16 = .ok (.iconst 0, 1) := by decide +kernel
theorem dX3_startsAnew_17 : decode cX3_startsAnew 17 = .ok (.putfield 25, 3) := by decide +kernel
theorem dX3_startsAnew_20 : decode cX3_startsAnew 20 = .ok (.aload_n 0, 1) := by decide +kernel
theorem dX3_startsAnew_21 : decode cX3_startsAnew 21 = .ok (.iconst 0, 1) := by decide +kernel
theorem dX3_startsAnew_22 : decode cX3_startsAnew 22 = .ok (.putfield 28, 3) := by decide +kernel
theorem dX3_startsAnew_25 : decode cX3_startsAnew 25 = .ok (.aload_n 0, 1) := by decide +kernel
theorem dX3_startsAnew_26 : decode cX3_startsAnew 26 = .ok (.iconst 0, 1) := by decide +kernel
theorem dX3_startsAnew_27 : decode cX3_startsAnew 27 = .ok (.putfield 31, 3) := by decide +kernel
theorem dX3_startsAnew_30 : decode cX3_startsAnew 30 = .ok (.return_, 1) := by decide +kernel
theorem hd_X3_startsAnew : yX3_startsAnew.cls = RX3 ∧ yX3_startsAnew.cls ≠ "java/lang/invoke/MethodHandle" ∧ yX3_startsAnew.cls ≠ "java/lang/invoke/VarHandle" ∧ (parseMethodDescriptor yX3_startsAnew.desc).map (fun d => d.parameters.length) = some 1 := by decide +kernel
abbrev rm_X3_startsAnew : Room := { frames := 0, cells := 0, slots := 0, locals := 0 }
def F_X3_startsAnew (i : Nat) (a1 : Int32) (σ : SG) (ρ : RG) : Option (SG) :=
  nm (s2 σ i 0 a1) fun σ2 =>
  nm (s2 σ2 i 1 a1) fun σ4 =>
  nm (s2 σ4 i 2 (0 : Int32)) fun σ6 =>
  nm (s2 σ6 i 3 (0 : Int32)) fun σ8 =>
  nm (s2 σ8 i 4 (0 : Int32)) fun σ10 =>
  nm (s2 σ10 i 5 (0 : Int32)) fun σ12 =>
  some σ12
set_option maxHeartbeats 4000000 in
set_option maxRecDepth 100000 in
theorem w_X3_startsAnew_0 {i : Nat} {a1 : Int32} {p : Program} {e : Env} {s : State} {m : MethodId} {args : Array Value} {below : List Frame} {meth : Method} {c : Code} {ρ0 : RG} {σ1 : SG} (C : Cx Y D N ad p s m args meth c cX3_startsAnew 2 none RX3 wsL_law) {σ : SG} {ρ : RG} {H : Heap} {locs : List Loc} {ls : Array Slot} (hρ0 : ρ = ρ0) (hL : True) (hi : isL N K len ρ i) (hF : F_X3_startsAnew i a1 σ ρ = some σ1) (hP : WP Y D N ad K len σ ρ H) (hS : va_S (AA N ad s.heap.size) s.heap H locs) (hl : lv_has ls 2 [(0, .ref (ad i)), (1, .int a1)]) : W p l e rm_X3_startsAnew s m args below meth c H locs 0 0 (MQ below (QW Y D N ad K len σ1 ρ0 (AA N ad s.heap.size) none) args s 0 0 (AA N ad s.heap.size)) (F0 m 0 ls []) := by
  have hx := C.1.1
  have hb := C.1.2.1
  unfold F_X3_startsAnew at hF
  refine lv_aload_n hx hb dX3_startsAnew_0 rfl (lv_at hl 0 rfl) ?_
  refine lv_iload_n hx hb dX3_startsAnew_1 rfl (lv_at hl 1 rfl) ?_
  obtain ⟨σ2, eσ2, hF⟩ := nm_1 hF
  refine put_3_0 C hP hS hi.1 hi.2.1 inlX3 mw_67 eσ2 dX3_startsAnew_2 (fun H locs hP hS => ?_)
  refine lv_aload_n hx hb dX3_startsAnew_5 rfl (lv_at hl 0 rfl) ?_
  refine lv_iload_n hx hb dX3_startsAnew_6 rfl (lv_at hl 1 rfl) ?_
  obtain ⟨σ4, eσ4, hF⟩ := nm_1 hF
  refine put_3_1 C hP hS hi.1 hi.2.1 inlX3 mw_68 eσ4 dX3_startsAnew_7 (fun H locs hP hS => ?_)
  refine lv_aload_n hx hb dX3_startsAnew_10 rfl (lv_at hl 0 rfl) ?_
  refine lv_iconst (v := 0) hx hb dX3_startsAnew_11 (by decide) ?_
  obtain ⟨σ6, eσ6, hF⟩ := nm_1 hF
  refine put_3_2 C hP hS hi.1 hi.2.1 inlX3 mw_69 eσ6 dX3_startsAnew_12 (fun H locs hP hS => ?_)
  refine lv_aload_n hx hb dX3_startsAnew_15 rfl (lv_at hl 0 rfl) ?_
  refine lv_iconst (v := 0) hx hb dX3_startsAnew_16 (by decide) ?_
  obtain ⟨σ8, eσ8, hF⟩ := nm_1 hF
  refine put_3_3 C hP hS hi.1 hi.2.1 inlX3 mw_70 eσ8 dX3_startsAnew_17 (fun H locs hP hS => ?_)
  refine lv_aload_n hx hb dX3_startsAnew_20 rfl (lv_at hl 0 rfl) ?_
  refine lv_iconst (v := 0) hx hb dX3_startsAnew_21 (by decide) ?_
  obtain ⟨σ10, eσ10, hF⟩ := nm_1 hF
  refine put_3_4 C hP hS hi.1 hi.2.1 inlX3 mw_71 eσ10 dX3_startsAnew_22 (fun H locs hP hS => ?_)
  refine lv_aload_n hx hb dX3_startsAnew_25 rfl (lv_at hl 0 rfl) ?_
  refine lv_iconst (v := 0) hx hb dX3_startsAnew_26 (by decide) ?_
  obtain ⟨σ12, eσ12, hF⟩ := nm_1 hF
  refine put_3_5 C hP hS hi.1 hi.2.1 inlX3 mw_72 eσ12 dX3_startsAnew_27 (fun H locs hP hS => ?_)
  obtain rfl := ret_1 hF
  subst hρ0
  exact x_vret rfl C hP hS dX3_startsAnew_30
set_option maxHeartbeats 4000000 in
set_option maxRecDepth 100000 in
theorem c_X3_startsAnew {i : Nat} {a1 : Int32} {σ1 : SG} {σ : SG} {ρ : RG} (hL : True) (hi : isL N K len ρ i) (hF : F_X3_startsAnew i a1 σ ρ = some σ1) : MT l Y D N ad K len yX3_startsAnew (Cond.code yX3_startsAnew cX3_startsAnew 2 none :: wsL_law) rm_X3_startsAnew [.ref (ad i), .int a1] σ ρ none σ1 ρ := by
  refine mt_of (cc := cX3_startsAnew) (nL := 2) (ret := none) (by decide) (Nat.le_of_ble_eq_true rfl) ?_
  intro p e s m args below meth c ls C hnm hP hS hl
  exact w_X3_startsAnew_0 C rfl hL hi hF hP hS hl

/-! CutCrooked$Loaf.void takes(CutCrooked$Loaf);  -/
theorem dX3_takes_0 : decode cX3_takes 0 = .ok (.aload_n 0, 1) := by decide +kernel
theorem dX3_takes_1 : decode cX3_takes 1 = .ok (.aload_n 1, 1) := by decide +kernel
theorem dX3_takes_2 : decode cX3_takes 2 = .ok (.getfield 15, 3) := by decide +kernel
theorem dX3_takes_5 : decode cX3_takes 5 = .ok (.putfield 15, 3) := by decide +kernel
theorem dX3_takes_8 : decode cX3_takes 8 = .ok (.aload_n 0, 1) := by decide +kernel
theorem dX3_takes_9 : decode cX3_takes 9 = .ok (.aload_n 1, 1) := by decide +kernel
theorem dX3_takes_10 : decode cX3_takes 10 = .ok (.getfield 19, 3) := by decide +kernel
theorem dX3_takes_13 : decode cX3_takes 13 = .ok (.putfield 19, 3) := by decide +kernel
theorem dX3_takes_16 : decode cX3_takes 16 = .ok (.aload_n 0, 1) := by decide +kernel
theorem dX3_takes_17 : decode cX3_takes 17 = .ok (.aload_n 1, 1) := by decide +kernel
theorem dX3_takes_18 : decode cX3_takes 18 = .ok (.getfield 22, 3) := by decide +kernel
theorem dX3_takes_21 : decode cX3_takes 21 = .ok (.putfield 22, 3) := by decide +kernel
theorem dX3_takes_24 : decode cX3_takes 24 = .ok (.aload_n 0, 1) := by decide +kernel
theorem dX3_takes_25 : decode cX3_takes 25 = .ok (.aload_n 1, 1) := by decide +kernel
theorem dX3_takes_26 : decode cX3_takes 26 = .ok (.getfield 25, 3) := by decide +kernel
theorem dX3_takes_29 : decode cX3_takes 29 = .ok (.putfield 25, 3) := by decide +kernel
theorem dX3_takes_32 : decode cX3_takes 32 = .ok (.aload_n 0, 1) := by decide +kernel
theorem dX3_takes_33 : decode cX3_takes 33 = .ok (.aload_n 1, 1) := by decide +kernel
theorem dX3_takes_34 : decode cX3_takes 34 = .ok (.getfield 28, 3) := by decide +kernel
theorem dX3_takes_37 : decode cX3_takes 37 = .ok (.putfield 28, 3) := by decide +kernel
theorem dX3_takes_40 : decode cX3_takes 40 = .ok (.aload_n 0, 1) := by decide +kernel
theorem dX3_takes_41 : decode cX3_takes 41 = .ok (.aload_n 1, 1) := by decide +kernel
theorem dX3_takes_42 : decode cX3_takes 42 = .ok (.getfield 31, 3) := by decide +kernel
theorem dX3_takes_45 : decode cX3_takes 45 = .ok (.putfield 31, 3) := by decide +kernel
theorem dX3_takes_48 : decode cX3_takes 48 = .ok (.aload_n 0, 1) := by decide +kernel
theorem dX3_takes_49 : decode cX3_takes 49 = .ok (.aload_n 1, 1) := by decide +kernel
theorem dX3_takes_50 : decode cX3_takes 50 = .ok (.getfield 34, 3) := by decide +kernel
theorem dX3_takes_53 : decode cX3_takes 53 = .ok (.putfield 34, 3) := by decide +kernel
theorem dX3_takes_56 : decode cX3_takes 56 = .ok (.aload_n 0, 1) := by decide +kernel
theorem dX3_takes_57 : decode cX3_takes 57 = .ok (.aload_n 1, 1) := by decide +kernel
theorem dX3_takes_58 : decode cX3_takes 58 = .ok (.getfield 37, 3) := by decide +kernel
theorem dX3_takes_61 : decode cX3_takes 61 = .ok (.putfield 37, 3) := by decide +kernel
theorem dX3_takes_64 : decode cX3_takes 64 = .ok (.aload_n 0, 1) := by decide +kernel
theorem dX3_takes_65 : decode cX3_takes 65 = .ok (.aload_n 1, 1) := by decide +kernel
theorem dX3_takes_66 : decode cX3_takes 66 = .ok (.getfield 40, 3) := by decide +kernel
theorem dX3_takes_69 : decode cX3_takes 69 = .ok (.putfield 40, 3) := by decide +kernel
theorem dX3_takes_72 : decode cX3_takes 72 = .ok (.return_, 1) := by decide +kernel
theorem hd_X3_takes : yX3_takes.cls = RX3 ∧ yX3_takes.cls ≠ "java/lang/invoke/MethodHandle" ∧ yX3_takes.cls ≠ "java/lang/invoke/VarHandle" ∧ (parseMethodDescriptor yX3_takes.desc).map (fun d => d.parameters.length) = some 1 := by decide +kernel
abbrev rm_X3_takes : Room := { frames := 0, cells := 0, slots := 0, locals := 0 }
def F_X3_takes (i : Nat) (j : Nat) (σ : SG) (ρ : RG) : Option (SG) :=
  nm (s2 σ i 0 (σ j 0)) fun σ2 =>
  nm (s2 σ2 i 1 (σ2 j 1)) fun σ4 =>
  nm (s2 σ4 i 2 (σ4 j 2)) fun σ6 =>
  nm (s2 σ6 i 3 (σ6 j 3)) fun σ8 =>
  nm (s2 σ8 i 4 (σ8 j 4)) fun σ10 =>
  nm (s2 σ10 i 5 (σ10 j 5)) fun σ12 =>
  nm (s2 σ12 i 6 (σ12 j 6)) fun σ14 =>
  nm (s2 σ14 i 7 (σ14 j 7)) fun σ16 =>
  nm (s2 σ16 i 8 (σ16 j 8)) fun σ18 =>
  some σ18
set_option maxHeartbeats 4000000 in
set_option maxRecDepth 100000 in
theorem w_X3_takes_0 {i : Nat} {j : Nat} {p : Program} {e : Env} {s : State} {m : MethodId} {args : Array Value} {below : List Frame} {meth : Method} {c : Code} {ρ0 : RG} {σ1 : SG} (C : Cx Y D N ad p s m args meth c cX3_takes 2 none RX3 wsL_law) {σ : SG} {ρ : RG} {H : Heap} {locs : List Loc} {ls : Array Slot} (hρ0 : ρ = ρ0) (hL : Lay N K len ρ) (hi : isL N K len ρ i) (hj : isL N K len ρ j) (hF : F_X3_takes i j σ ρ = some σ1) (hP : WP Y D N ad K len σ ρ H) (hS : va_S (AA N ad s.heap.size) s.heap H locs) (hl : lv_has ls 2 [(0, .ref (ad i)), (1, .ref (ad j))]) : W p l e rm_X3_takes s m args below meth c H locs 0 0 (MQ below (QW Y D N ad K len σ1 ρ0 (AA N ad s.heap.size) none) args s 0 0 (AA N ad s.heap.size)) (F0 m 0 ls []) := by
  have hx := C.1.1
  have hb := C.1.2.1
  unfold F_X3_takes at hF
  refine lv_aload_n hx hb dX3_takes_0 rfl (lv_at hl 0 rfl) ?_
  refine lv_aload_n hx hb dX3_takes_1 rfl (lv_at hl 1 rfl) ?_
  refine get_3_0 C hP hj.1 hj.2.1 inlX3 mw_67 dX3_takes_2 ?_
  obtain ⟨σ2, eσ2, hF⟩ := nm_1 hF
  refine put_3_0 C hP hS hi.1 hi.2.1 inlX3 mw_67 eσ2 dX3_takes_5 (fun H locs hP hS => ?_)
  refine lv_aload_n hx hb dX3_takes_8 rfl (lv_at hl 0 rfl) ?_
  refine lv_aload_n hx hb dX3_takes_9 rfl (lv_at hl 1 rfl) ?_
  refine get_3_1 C hP hj.1 hj.2.1 inlX3 mw_68 dX3_takes_10 ?_
  obtain ⟨σ4, eσ4, hF⟩ := nm_1 hF
  refine put_3_1 C hP hS hi.1 hi.2.1 inlX3 mw_68 eσ4 dX3_takes_13 (fun H locs hP hS => ?_)
  refine lv_aload_n hx hb dX3_takes_16 rfl (lv_at hl 0 rfl) ?_
  refine lv_aload_n hx hb dX3_takes_17 rfl (lv_at hl 1 rfl) ?_
  refine get_3_2 C hP hj.1 hj.2.1 inlX3 mw_69 dX3_takes_18 ?_
  obtain ⟨σ6, eσ6, hF⟩ := nm_1 hF
  refine put_3_2 C hP hS hi.1 hi.2.1 inlX3 mw_69 eσ6 dX3_takes_21 (fun H locs hP hS => ?_)
  refine lv_aload_n hx hb dX3_takes_24 rfl (lv_at hl 0 rfl) ?_
  refine lv_aload_n hx hb dX3_takes_25 rfl (lv_at hl 1 rfl) ?_
  refine get_3_3 C hP hj.1 hj.2.1 inlX3 mw_70 dX3_takes_26 ?_
  obtain ⟨σ8, eσ8, hF⟩ := nm_1 hF
  refine put_3_3 C hP hS hi.1 hi.2.1 inlX3 mw_70 eσ8 dX3_takes_29 (fun H locs hP hS => ?_)
  refine lv_aload_n hx hb dX3_takes_32 rfl (lv_at hl 0 rfl) ?_
  refine lv_aload_n hx hb dX3_takes_33 rfl (lv_at hl 1 rfl) ?_
  refine get_3_4 C hP hj.1 hj.2.1 inlX3 mw_71 dX3_takes_34 ?_
  obtain ⟨σ10, eσ10, hF⟩ := nm_1 hF
  refine put_3_4 C hP hS hi.1 hi.2.1 inlX3 mw_71 eσ10 dX3_takes_37 (fun H locs hP hS => ?_)
  refine lv_aload_n hx hb dX3_takes_40 rfl (lv_at hl 0 rfl) ?_
  refine lv_aload_n hx hb dX3_takes_41 rfl (lv_at hl 1 rfl) ?_
  refine get_3_5 C hP hj.1 hj.2.1 inlX3 mw_72 dX3_takes_42 ?_
  obtain ⟨σ12, eσ12, hF⟩ := nm_1 hF
  refine put_3_5 C hP hS hi.1 hi.2.1 inlX3 mw_72 eσ12 dX3_takes_45 (fun H locs hP hS => ?_)
  refine lv_aload_n hx hb dX3_takes_48 rfl (lv_at hl 0 rfl) ?_
  refine lv_aload_n hx hb dX3_takes_49 rfl (lv_at hl 1 rfl) ?_
  refine get_3_6 C hP hj.1 hj.2.1 inlX3 mw_640 dX3_takes_50 ?_
  obtain ⟨σ14, eσ14, hF⟩ := nm_1 hF
  refine put_3_6 C hP hS hi.1 hi.2.1 inlX3 mw_640 eσ14 dX3_takes_53 (fun H locs hP hS => ?_)
  refine lv_aload_n hx hb dX3_takes_56 rfl (lv_at hl 0 rfl) ?_
  refine lv_aload_n hx hb dX3_takes_57 rfl (lv_at hl 1 rfl) ?_
  refine get_3_7 C hP hj.1 hj.2.1 inlX3 mw_641 dX3_takes_58 ?_
  obtain ⟨σ16, eσ16, hF⟩ := nm_1 hF
  refine put_3_7 C hP hS hi.1 hi.2.1 inlX3 mw_641 eσ16 dX3_takes_61 (fun H locs hP hS => ?_)
  refine lv_aload_n hx hb dX3_takes_64 rfl (lv_at hl 0 rfl) ?_
  refine lv_aload_n hx hb dX3_takes_65 rfl (lv_at hl 1 rfl) ?_
  refine get_3_8 C hP hj.1 hj.2.1 inlX3 mw_642 dX3_takes_66 ?_
  obtain ⟨σ18, eσ18, hF⟩ := nm_1 hF
  refine put_3_8 C hP hS hi.1 hi.2.1 inlX3 mw_642 eσ18 dX3_takes_69 (fun H locs hP hS => ?_)
  obtain rfl := ret_1 hF
  subst hρ0
  exact x_vret rfl C hP hS dX3_takes_72
set_option maxHeartbeats 4000000 in
set_option maxRecDepth 100000 in
theorem c_X3_takes {i : Nat} {j : Nat} {σ1 : SG} {σ : SG} {ρ : RG} (hL : Lay N K len ρ) (hi : isL N K len ρ i) (hj : isL N K len ρ j) (hF : F_X3_takes i j σ ρ = some σ1) : MT l Y D N ad K len yX3_takes (Cond.code yX3_takes cX3_takes 2 none :: wsL_law) rm_X3_takes [.ref (ad i), .ref (ad j)] σ ρ none σ1 ρ := by
  refine mt_of (cc := cX3_takes) (nL := 2) (ret := none) (by decide) (Nat.le_of_ble_eq_true rfl) ?_
  intro p e s m args below meth c ls C hnm hP hS hl
  exact w_X3_takes_0 C rfl hL hi hj hF hP hS hl

/-! CutCrooked$Loaf.int corner(int);  -/
theorem dX3_corner_0 : decode cX3_corner 0 = .ok (.aload_n 0, 1) := by decide +kernel
theorem dX3_corner_1 : decode cX3_corner 1 = .ok (.getfield 19, 3) := by decide +kernel
theorem dX3_corner_4 : decode cX3_corner 4 = .ok (.iload_n 1, 1) := by decide +kernel
theorem dX3_corner_5 : decode cX3_corner 5 = .ok (.aload_n 0, 1) := by decide +kernel
theorem dX3_corner_6 : decode cX3_corner 6 = .ok (.getfield 22, 3) := by decide +kernel
theorem dX3_corner_9 : decode cX3_corner 9 = .ok (.aload_n 0, 1) := by decide +kernel
theorem dX3_corner_10 : decode cX3_corner 10 = .ok (.getfield 25, 3) := by decide +kernel
theorem dX3_corner_13 : decode cX3_corner 13 = .ok (.invokestatic 43, 3) := by decide +kernel
theorem dX3_corner_16 : decode cX3_corner 16 = .ok (.iadd, 1) := by decide +kernel
theorem dX3_corner_17 : decode cX3_corner 17 = .ok (.ireturn, 1) := by decide +kernel
theorem hd_X3_corner : yX3_corner.cls = RX3 ∧ yX3_corner.cls ≠ "java/lang/invoke/MethodHandle" ∧ yX3_corner.cls ≠ "java/lang/invoke/VarHandle" ∧ (parseMethodDescriptor yX3_corner.desc).map (fun d => d.parameters.length) = some 1 := by decide +kernel
abbrev rm_X3_corner : Room := { frames := 1, cells := 0, slots := 0, locals := 22 }
def F_X3_corner (i : Nat) (a1 : Int32) (σ : SG) (ρ : RG) : Option (Int32) :=
  bn (F_X3_acrossAt a1 (σ i 2) (σ i 3) σ ρ) fun r1 =>
  nm ((σ i 1) + r1) fun x2 =>
  some x2
set_option maxHeartbeats 4000000 in
set_option maxRecDepth 100000 in
theorem w_X3_corner_0 {i : Nat} {a1 : Int32} {p : Program} {e : Env} {s : State} {m : MethodId} {args : Array Value} {below : List Frame} {meth : Method} {c : Code} {σ0 : SG} {ρ0 : RG} {r : Int32} (C : Cx Y D N ad p s m args meth c cX3_corner 2 (some .int) RX3 wsL_law) {σ : SG} {ρ : RG} {H : Heap} {locs : List Loc} {ls : Array Slot} (hσ0 : σ = σ0) (hρ0 : ρ = ρ0) (hL : Lay N K len ρ) (hi : isL N K len ρ i) (hF : F_X3_corner i a1 σ ρ = some r) (hP : WP Y D N ad K len σ ρ H) (hS : va_S (AA N ad s.heap.size) s.heap H locs) (hl : lv_has ls 2 [(0, .ref (ad i)), (1, .int a1)]) : W p l e rm_X3_corner s m args below meth c H locs 0 0 (MQ below (QW Y D N ad K len σ0 ρ0 (AA N ad s.heap.size) (some (.int r))) args s 0 0 (AA N ad s.heap.size)) (F0 m 0 ls []) := by
  have hx := C.1.1
  have hb := C.1.2.1
  unfold F_X3_corner at hF
  refine lv_aload_n hx hb dX3_corner_0 rfl (lv_at hl 0 rfl) ?_
  refine get_3_1 C hP hi.1 hi.2.1 inlX3 mw_68 dX3_corner_1 ?_
  refine lv_iload_n hx hb dX3_corner_4 rfl (lv_at hl 1 rfl) ?_
  refine lv_aload_n hx hb dX3_corner_5 rfl (lv_at hl 0 rfl) ?_
  refine get_3_2 C hP hi.1 hi.2.1 inlX3 mw_69 dX3_corner_6 ?_
  refine lv_aload_n hx hb dX3_corner_9 rfl (lv_at hl 0 rfl) ?_
  refine get_3_3 C hP hi.1 hi.2.1 inlX3 mw_70 dX3_corner_10 ?_
  obtain ⟨r1, hq1, hF⟩ := bn_1 hF
  refine x_callS C hP hS (c_X3_acrossAt hL hq1) (va_cwS 3 C.1.2.2.2.2 (gdS mw_510 mw_511 mw_31 mw_512) rfl rfl rfl hd_X3_acrossAt.2 ⟨Nat.le_of_ble_eq_true rfl, Nat.le_of_ble_eq_true rfl⟩) rfl rfl hl.1 (Nat.le_of_ble_eq_true rfl) ⟨Nat.zero_le _, Nat.zero_le _⟩ dX3_corner_13 (fun H locs hP hS => ?_)
  refine lv_iadd hx hb dX3_corner_16 ?_
  obtain ⟨x2, ex2, hF⟩ := nm_1 hF
  refine x_top ex2 ?_
  obtain rfl := ret_1 hF
  subst hσ0
  subst hρ0
  exact x_iret rfl C hP hS dX3_corner_17
set_option maxHeartbeats 4000000 in
set_option maxRecDepth 100000 in
theorem c_X3_corner {i : Nat} {a1 : Int32} {r : Int32} {σ : SG} {ρ : RG} (hL : Lay N K len ρ) (hi : isL N K len ρ i) (hF : F_X3_corner i a1 σ ρ = some r) : MT l Y D N ad K len yX3_corner (Cond.code yX3_corner cX3_corner 2 (some .int) :: wsL_law) rm_X3_corner [.ref (ad i), .int a1] σ ρ (some (.int r)) σ ρ := by
  refine mt_of (cc := cX3_corner) (nL := 2) (ret := (some .int)) (by decide) (Nat.le_of_ble_eq_true rfl) ?_
  intro p e s m args below meth c ls C hnm hP hS hl
  exact w_X3_corner_0 C rfl rfl hL hi hF hP hS hl

/-! CutCrooked$Loaf.int slope();  -/
theorem dX3_slope_0 : decode cX3_slope 0 = .ok (.aload_n 0, 1) := by decide +kernel
theorem dX3_slope_1 : decode cX3_slope 1 = .ok (.getfield 22, 3) := by decide +kernel
theorem dX3_slope_4 : decode cX3_slope 4 = .ok (.invokestatic 47, 3) := by decide +kernel
theorem dX3_slope_7 : decode cX3_slope 7 = .ok (.aload_n 0, 1) := by decide +kernel
theorem dX3_slope_8 : decode cX3_slope 8 = .ok (.getfield 25, 3) := by decide +kernel
theorem dX3_slope_11 : decode cX3_slope 11 = .ok (.invokestatic 47, 3) := by decide +kernel
theorem dX3_slope_14 : decode cX3_slope 14 = .ok (.iadd, 1) := by decide +kernel
theorem dX3_slope_15 : decode cX3_slope 15 = .ok (.ireturn, 1) := by decide +kernel
theorem hd_X3_slope : yX3_slope.cls = RX3 ∧ yX3_slope.cls ≠ "java/lang/invoke/MethodHandle" ∧ yX3_slope.cls ≠ "java/lang/invoke/VarHandle" ∧ (parseMethodDescriptor yX3_slope.desc).map (fun d => d.parameters.length) = some 0 := by decide +kernel
abbrev rm_X3_slope : Room := { frames := 1, cells := 0, slots := 0, locals := 21 }
def F_X3_slope (i : Nat) (σ : SG) (ρ : RG) : Option (Int32) :=
  nm (if 0 ≤ (σ i 2) then (σ i 2) else 0 - (σ i 2)) fun x1 =>
  nm (if 0 ≤ (σ i 3) then (σ i 3) else 0 - (σ i 3)) fun x2 =>
  nm (x1 + x2) fun x3 =>
  some x3
set_option maxHeartbeats 4000000 in
set_option maxRecDepth 100000 in
theorem w_X3_slope_0 {i : Nat} {p : Program} {e : Env} {s : State} {m : MethodId} {args : Array Value} {below : List Frame} {meth : Method} {c : Code} {σ0 : SG} {ρ0 : RG} {r : Int32} (C : Cx Y D N ad p s m args meth c cX3_slope 1 (some .int) RX3 wsL_law) {σ : SG} {ρ : RG} {H : Heap} {locs : List Loc} {ls : Array Slot} (hσ0 : σ = σ0) (hρ0 : ρ = ρ0) (hL : Lay N K len ρ) (hi : isL N K len ρ i) (hF : F_X3_slope i σ ρ = some r) (hP : WP Y D N ad K len σ ρ H) (hS : va_S (AA N ad s.heap.size) s.heap H locs) (hl : lv_has ls 1 [(0, .ref (ad i))]) : W p l e rm_X3_slope s m args below meth c H locs 0 0 (MQ below (QW Y D N ad K len σ0 ρ0 (AA N ad s.heap.size) (some (.int r))) args s 0 0 (AA N ad s.heap.size)) (F0 m 0 ls []) := by
  have hx := C.1.1
  have hb := C.1.2.1
  unfold F_X3_slope at hF
  refine lv_aload_n hx hb dX3_slope_0 rfl (lv_at hl 0 rfl) ?_
  refine get_3_2 C hP hi.1 hi.2.1 inlX3 mw_69 dX3_slope_1 ?_
  refine va_mabs hx hb (C.1.2.2.1.trans hl.1.symm) C.1.2.2.2.1 (C.1.2.2.2.2 _ mw_541) (C.1.2.2.2.2 _ mw_542) (C.1.2.2.2.2 _ mw_234) (C.1.2.2.2.2 _ mw_543) (Nat.le_of_ble_eq_true rfl) (Nat.le_of_ble_eq_true rfl) (Nat.zero_le _) (Nat.zero_le _) dX3_slope_4 ?_
  obtain ⟨x1, ex1, hF⟩ := nm_1 hF
  refine x_top ex1 ?_
  refine lv_aload_n hx hb dX3_slope_7 rfl (lv_at hl 0 rfl) ?_
  refine get_3_3 C hP hi.1 hi.2.1 inlX3 mw_70 dX3_slope_8 ?_
  refine va_mabs hx hb (C.1.2.2.1.trans hl.1.symm) C.1.2.2.2.1 (C.1.2.2.2.2 _ mw_541) (C.1.2.2.2.2 _ mw_542) (C.1.2.2.2.2 _ mw_234) (C.1.2.2.2.2 _ mw_543) (Nat.le_of_ble_eq_true rfl) (Nat.le_of_ble_eq_true rfl) (Nat.zero_le _) (Nat.zero_le _) dX3_slope_11 ?_
  obtain ⟨x2, ex2, hF⟩ := nm_1 hF
  refine x_top ex2 ?_
  refine lv_iadd hx hb dX3_slope_14 ?_
  obtain ⟨x3, ex3, hF⟩ := nm_1 hF
  refine x_top ex3 ?_
  obtain rfl := ret_1 hF
  subst hσ0
  subst hρ0
  exact x_iret rfl C hP hS dX3_slope_15
set_option maxHeartbeats 4000000 in
set_option maxRecDepth 100000 in
theorem c_X3_slope {i : Nat} {r : Int32} {σ : SG} {ρ : RG} (hL : Lay N K len ρ) (hi : isL N K len ρ i) (hF : F_X3_slope i σ ρ = some r) : MT l Y D N ad K len yX3_slope (Cond.code yX3_slope cX3_slope 1 (some .int) :: wsL_law) rm_X3_slope [.ref (ad i)] σ ρ (some (.int r)) σ ρ := by
  refine mt_of (cc := cX3_slope) (nL := 1) (ret := (some .int)) (by decide) (Nat.le_of_ble_eq_true rfl) ?_
  intro p e s m args below meth c ls C hnm hP hS hl
  exact w_X3_slope_0 C rfl rfl hL hi hF hP hS hl

/-! CutCrooked$Loaf.int leastCorner();  -/
theorem dX3_leastCorner_0 : decode cX3_leastCorner 0 = .ok (.aload_n 0, 1) := by decide +kernel
theorem dX3_leastCorner_1 : decode cX3_leastCorner 1 = .ok (.getfield 19, 3) := by decide +kernel
theorem dX3_leastCorner_4 : decode cX3_leastCorner 4 = .ok (.aload_n 0, 1) := by decide +kernel
theorem dX3_leastCorner_5 : decode cX3_leastCorner 5 = .ok (.invokevirtual 53, 3) := by decide +kernel
theorem dX3_leastCorner_8 : decode cX3_leastCorner 8 = .ok (.isub, 1) := by decide +kernel
theorem dX3_leastCorner_9 : decode cX3_leastCorner 9 = .ok (.ireturn, 1) := by decide +kernel
theorem hd_X3_leastCorner : yX3_leastCorner.cls = RX3 ∧ yX3_leastCorner.cls ≠ "java/lang/invoke/MethodHandle" ∧ yX3_leastCorner.cls ≠ "java/lang/invoke/VarHandle" ∧ (parseMethodDescriptor yX3_leastCorner.desc).map (fun d => d.parameters.length) = some 0 := by decide +kernel
abbrev rm_X3_leastCorner : Room := { frames := 2, cells := 0, slots := 0, locals := 41 }
def F_X3_leastCorner (i : Nat) (σ : SG) (ρ : RG) : Option (Int32) :=
  bn (F_X3_slope i σ ρ) fun r1 =>
  nm ((σ i 1) - r1) fun x2 =>
  some x2
set_option maxHeartbeats 4000000 in
set_option maxRecDepth 100000 in
theorem w_X3_leastCorner_0 {i : Nat} {p : Program} {e : Env} {s : State} {m : MethodId} {args : Array Value} {below : List Frame} {meth : Method} {c : Code} {σ0 : SG} {ρ0 : RG} {r : Int32} (C : Cx Y D N ad p s m args meth c cX3_leastCorner 1 (some .int) RX3 wsL_law) {σ : SG} {ρ : RG} {H : Heap} {locs : List Loc} {ls : Array Slot} (hσ0 : σ = σ0) (hρ0 : ρ = ρ0) (hL : Lay N K len ρ) (hi : isL N K len ρ i) (hF : F_X3_leastCorner i σ ρ = some r) (hP : WP Y D N ad K len σ ρ H) (hS : va_S (AA N ad s.heap.size) s.heap H locs) (hl : lv_has ls 1 [(0, .ref (ad i))]) : W p l e rm_X3_leastCorner s m args below meth c H locs 0 0 (MQ below (QW Y D N ad K len σ0 ρ0 (AA N ad s.heap.size) (some (.int r))) args s 0 0 (AA N ad s.heap.size)) (F0 m 0 ls []) := by
  have hx := C.1.1
  have hb := C.1.2.1
  unfold F_X3_leastCorner at hF
  refine lv_aload_n hx hb dX3_leastCorner_0 rfl (lv_at hl 0 rfl) ?_
  refine get_3_1 C hP hi.1 hi.2.1 inlX3 mw_68 dX3_leastCorner_1 ?_
  refine lv_aload_n hx hb dX3_leastCorner_4 rfl (lv_at hl 0 rfl) ?_
  obtain ⟨r1, hq1, hF⟩ := bn_1 hF
  refine x_callV (ci := 3) rfl rfl C hP hS (c_X3_slope hL hi hq1) hi.1 hi.2.1 (cwV 0 C.1.2.2.2.2 (gdV mw_578 mw_579 mw_580 mw_31 mw_581) rfl rfl rfl hd_X3_slope ⟨Nat.le_of_ble_eq_true rfl, Nat.le_of_ble_eq_true rfl⟩) rfl rfl hl.1 (Nat.le_of_ble_eq_true rfl) ⟨Nat.zero_le _, Nat.zero_le _⟩ dX3_leastCorner_5 (fun H locs hP hS => ?_)
  refine lv_isub hx hb dX3_leastCorner_8 ?_
  obtain ⟨x2, ex2, hF⟩ := nm_1 hF
  refine x_top ex2 ?_
  obtain rfl := ret_1 hF
  subst hσ0
  subst hρ0
  exact x_iret rfl C hP hS dX3_leastCorner_9
set_option maxHeartbeats 4000000 in
set_option maxRecDepth 100000 in
theorem c_X3_leastCorner {i : Nat} {r : Int32} {σ : SG} {ρ : RG} (hL : Lay N K len ρ) (hi : isL N K len ρ i) (hF : F_X3_leastCorner i σ ρ = some r) : MT l Y D N ad K len yX3_leastCorner (Cond.code yX3_leastCorner cX3_leastCorner 1 (some .int) :: wsL_law) rm_X3_leastCorner [.ref (ad i)] σ ρ (some (.int r)) σ ρ := by
  refine mt_of (cc := cX3_leastCorner) (nL := 1) (ret := (some .int)) (by decide) (Nat.le_of_ble_eq_true rfl) ?_
  intro p e s m args below meth c ls C hnm hP hS hl
  exact w_X3_leastCorner_0 C rfl rfl hL hi hF hP hS hl

/-! CutCrooked$Loaf.int straighten();  -/
theorem dX3_straighten_0 : decode cX3_straighten 0 = .ok (.aload_n 0, 1) := by decide +kernel
theorem dX3_straighten_1 : decode cX3_straighten 1 = .ok (.invokevirtual 53, 3) := by decide +kernel
theorem dX3_straighten_4 : decode cX3_straighten 4 = .ok (.istore_n 1, 1) := by decide +kernel
theorem dX3_straighten_5 : decode cX3_straighten 5 = .ok (.aload_n 0, 1) := by decide +kernel
theorem dX3_straighten_6 : decode cX3_straighten 6 = .ok (.dup, 1) := by decide +kernel
theorem dX3_straighten_7 : decode cX3_straighten 7 = .ok (.getfield 19, 3) := by decide +kernel
theorem dX3_straighten_10 : decode cX3_straighten 10 = .ok (.iload_n 1, 1) := by decide +kernel
theorem dX3_straighten_11 : decode cX3_straighten 11 = .ok (.isub, 1) := by decide +kernel
theorem dX3_straighten_12 : decode cX3_straighten 12 = .ok (.putfield 19, 3) := by decide +kernel
theorem dX3_straighten_15 : decode cX3_straighten 15 = .ok (.aload_n 0, 1) := by decide +kernel
theorem dX3_straighten_16 : decode cX3_straighten 16 = .ok (.iconst 0, 1) := by decide +kernel
theorem dX3_straighten_17 : decode cX3_straighten 17 = .ok (.putfield 22, 3) := by decide +kernel
theorem dX3_straighten_20 : decode cX3_straighten 20 = .ok (.aload_n 0, 1) := by decide +kernel
theorem dX3_straighten_21 : decode cX3_straighten 21 = .ok (.iconst 0, 1) := by decide +kernel
theorem dX3_straighten_22 : decode cX3_straighten 22 = .ok (.putfield 25, 3) := by decide +kernel
theorem dX3_straighten_25 : decode cX3_straighten 25 = .ok (.aload_n 0, 1) := by decide +kernel
theorem dX3_straighten_26 : decode cX3_straighten 26 = .ok (.dup, 1) := by decide +kernel
theorem dX3_straighten_27 : decode cX3_straighten 27 = .ok (.getfield 31, 3) := by decide +kernel
theorem dX3_straighten_30 : decode cX3_straighten 30 = .ok (.iconst 4, 1) := by decide +kernel
theorem dX3_straighten_31 : decode cX3_straighten 31 = .ok (.iload_n 1, 1) := by decide +kernel
theorem dX3_straighten_32 : decode cX3_straighten 32 = .ok (.imul, 1) := by decide +kernel
theorem dX3_straighten_33 : decode cX3_straighten 33 = .ok (.iadd, 1) := by decide +kernel
theorem dX3_straighten_34 : decode cX3_straighten 34 = .ok (.putfield 31, 3) := by decide +kernel
theorem dX3_straighten_37 : decode cX3_straighten 37 = .ok (.iconst 4, 1) := by decide +kernel
theorem dX3_straighten_38 : decode cX3_straighten 38 = .ok (.iload_n 1, 1) := by decide +kernel
theorem dX3_straighten_39 : decode cX3_straighten 39 = .ok (.imul, 1) := by decide +kernel
theorem dX3_straighten_40 : decode cX3_straighten 40 = .ok (.ireturn, 1) := by decide +kernel
theorem hd_X3_straighten : yX3_straighten.cls = RX3 ∧ yX3_straighten.cls ≠ "java/lang/invoke/MethodHandle" ∧ yX3_straighten.cls ≠ "java/lang/invoke/VarHandle" ∧ (parseMethodDescriptor yX3_straighten.desc).map (fun d => d.parameters.length) = some 0 := by decide +kernel
abbrev rm_X3_straighten : Room := { frames := 2, cells := 0, slots := 0, locals := 41 }
def F_X3_straighten (i : Nat) (σ : SG) (ρ : RG) : Option (Int32 × SG) :=
  bn (F_X3_slope i σ ρ) fun r1 =>
  nm ((σ i 1) - r1) fun x2 =>
  nm (s2 σ i 1 x2) fun σ4 =>
  nm (s2 σ4 i 2 (0 : Int32)) fun σ6 =>
  nm (s2 σ6 i 3 (0 : Int32)) fun σ8 =>
  nm ((4 : Int32) * r1) fun x9 =>
  nm ((σ8 i 5) + x9) fun x10 =>
  nm (s2 σ8 i 5 x10) fun σ12 =>
  nm ((4 : Int32) * r1) fun x13 =>
  some (x13, σ12)
set_option maxHeartbeats 4000000 in
set_option maxRecDepth 100000 in
theorem w_X3_straighten_0 {i : Nat} {p : Program} {e : Env} {s : State} {m : MethodId} {args : Array Value} {below : List Frame} {meth : Method} {c : Code} {ρ0 : RG} {r : Int32} {σ1 : SG} (C : Cx Y D N ad p s m args meth c cX3_straighten 2 (some .int) RX3 wsL_law) {σ : SG} {ρ : RG} {H : Heap} {locs : List Loc} {ls : Array Slot} (hρ0 : ρ = ρ0) (hL : Lay N K len ρ) (hi : isL N K len ρ i) (hF : F_X3_straighten i σ ρ = some (r, σ1)) (hP : WP Y D N ad K len σ ρ H) (hS : va_S (AA N ad s.heap.size) s.heap H locs) (hl : lv_has ls 2 [(0, .ref (ad i))]) : W p l e rm_X3_straighten s m args below meth c H locs 0 0 (MQ below (QW Y D N ad K len σ1 ρ0 (AA N ad s.heap.size) (some (.int r))) args s 0 0 (AA N ad s.heap.size)) (F0 m 0 ls []) := by
  have hx := C.1.1
  have hb := C.1.2.1
  unfold F_X3_straighten at hF
  refine lv_aload_n hx hb dX3_straighten_0 rfl (lv_at hl 0 rfl) ?_
  obtain ⟨r1, hq1, hF⟩ := bn_1 hF
  refine x_callV (ci := 3) rfl rfl C hP hS (c_X3_slope hL hi hq1) hi.1 hi.2.1 (cwV 0 C.1.2.2.2.2 (gdV mw_578 mw_579 mw_580 mw_31 mw_581) rfl rfl rfl hd_X3_slope ⟨Nat.le_of_ble_eq_true rfl, Nat.le_of_ble_eq_true rfl⟩) rfl rfl hl.1 (Nat.le_of_ble_eq_true rfl) ⟨Nat.zero_le _, Nat.zero_le _⟩ dX3_straighten_1 (fun H locs hP hS => ?_)
  refine lv_istore_n (lv' := [(1, .int r1), (0, .ref (ad i))]) hx hb dX3_straighten_4 rfl hl (by decide) rfl (fun ls hl => ?_)
  refine lv_aload_n hx hb dX3_straighten_5 rfl (lv_at hl 1 rfl) ?_
  refine lv_dup hx hb dX3_straighten_6 rfl ?_
  refine get_3_1 C hP hi.1 hi.2.1 inlX3 mw_68 dX3_straighten_7 ?_
  refine lv_iload_n hx hb dX3_straighten_10 rfl (lv_at hl 0 rfl) ?_
  refine lv_isub hx hb dX3_straighten_11 ?_
  obtain ⟨x2, ex2, hF⟩ := nm_1 hF
  refine x_top ex2 ?_
  obtain ⟨σ4, eσ4, hF⟩ := nm_1 hF
  refine put_3_1 C hP hS hi.1 hi.2.1 inlX3 mw_68 eσ4 dX3_straighten_12 (fun H locs hP hS => ?_)
  refine lv_aload_n hx hb dX3_straighten_15 rfl (lv_at hl 1 rfl) ?_
  refine lv_iconst (v := 0) hx hb dX3_straighten_16 (by decide) ?_
  obtain ⟨σ6, eσ6, hF⟩ := nm_1 hF
  refine put_3_2 C hP hS hi.1 hi.2.1 inlX3 mw_69 eσ6 dX3_straighten_17 (fun H locs hP hS => ?_)
  refine lv_aload_n hx hb dX3_straighten_20 rfl (lv_at hl 1 rfl) ?_
  refine lv_iconst (v := 0) hx hb dX3_straighten_21 (by decide) ?_
  obtain ⟨σ8, eσ8, hF⟩ := nm_1 hF
  refine put_3_3 C hP hS hi.1 hi.2.1 inlX3 mw_70 eσ8 dX3_straighten_22 (fun H locs hP hS => ?_)
  refine lv_aload_n hx hb dX3_straighten_25 rfl (lv_at hl 1 rfl) ?_
  refine lv_dup hx hb dX3_straighten_26 rfl ?_
  refine get_3_5 C hP hi.1 hi.2.1 inlX3 mw_72 dX3_straighten_27 ?_
  refine lv_iconst (v := 4) hx hb dX3_straighten_30 (by decide) ?_
  refine lv_iload_n hx hb dX3_straighten_31 rfl (lv_at hl 0 rfl) ?_
  refine lv_imul hx hb dX3_straighten_32 ?_
  obtain ⟨x9, ex9, hF⟩ := nm_1 hF
  refine x_top ex9 ?_
  refine lv_iadd hx hb dX3_straighten_33 ?_
  obtain ⟨x10, ex10, hF⟩ := nm_1 hF
  refine x_top ex10 ?_
  obtain ⟨σ12, eσ12, hF⟩ := nm_1 hF
  refine put_3_5 C hP hS hi.1 hi.2.1 inlX3 mw_72 eσ12 dX3_straighten_34 (fun H locs hP hS => ?_)
  refine lv_iconst (v := 4) hx hb dX3_straighten_37 (by decide) ?_
  refine lv_iload_n hx hb dX3_straighten_38 rfl (lv_at hl 0 rfl) ?_
  refine lv_imul hx hb dX3_straighten_39 ?_
  obtain ⟨x13, ex13, hF⟩ := nm_1 hF
  refine x_top ex13 ?_
  obtain ⟨rfl, rfl⟩ := ret_2 hF
  subst hρ0
  exact x_iret rfl C hP hS dX3_straighten_40
set_option maxHeartbeats 4000000 in
set_option maxRecDepth 100000 in
theorem c_X3_straighten {i : Nat} {r : Int32} {σ1 : SG} {σ : SG} {ρ : RG} (hL : Lay N K len ρ) (hi : isL N K len ρ i) (hF : F_X3_straighten i σ ρ = some (r, σ1)) : MT l Y D N ad K len yX3_straighten (Cond.code yX3_straighten cX3_straighten 2 (some .int) :: wsL_law) rm_X3_straighten [.ref (ad i)] σ ρ (some (.int r)) σ1 ρ := by
  refine mt_of (cc := cX3_straighten) (nL := 2) (ret := (some .int)) (by decide) (Nat.le_of_ble_eq_true rfl) ?_
  intro p e s m args below meth c ls C hnm hP hS hl
  exact w_X3_straighten_0 C rfl hL hi hF hP hS hl

/-! CutCrooked$Board.void takes(CutCrooked$Board); 5_29 -/
theorem dX0_takes_0 : decode cX0_takes 0 = .ok (.aload_n 0, 1) := by decide +kernel
theorem dX0_takes_1 : decode cX0_takes 1 = .ok (.aload_n 1, 1) := by decide +kernel
theorem dX0_takes_2 : decode cX0_takes 2 = .ok (.getfield 11, 3) := by decide +kernel
theorem dX0_takes_5 : decode cX0_takes 5 = .ok (.putfield 11, 3) := by decide +kernel
theorem dX0_takes_8 : decode cX0_takes 8 = .ok (.aload_n 0, 1) := by decide +kernel
theorem dX0_takes_9 : decode cX0_takes 9 = .ok (.aload_n 1, 1) := by decide +kernel
theorem dX0_takes_10 : decode cX0_takes 10 = .ok (.getfield 15, 3) := by decide +kernel
theorem dX0_takes_13 : decode cX0_takes 13 = .ok (.putfield 15, 3) := by decide +kernel
theorem dX0_takes_16 : decode cX0_takes 16 = .ok (.aload_n 0, 1) := by decide +kernel
theorem dX0_takes_17 : decode cX0_takes 17 = .ok (.aload_n 1, 1) := by decide +kernel
theorem dX0_takes_18 : decode cX0_takes 18 = .ok (.getfield 32, 3) := by decide +kernel
theorem dX0_takes_21 : decode cX0_takes 21 = .ok (.putfield 32, 3) := by decide +kernel
theorem dX0_takes_24 : decode cX0_takes 24 = .ok (.aload_n 0, 1) := by decide +kernel
theorem dX0_takes_25 : decode cX0_takes 25 = .ok (.aload_n 1, 1) := by decide +kernel
theorem dX0_takes_26 : decode cX0_takes 26 = .ok (.getfield 35, 3) := by decide +kernel
theorem dX0_takes_29 : decode cX0_takes 29 = .ok (.putfield 35, 3) := by decide +kernel
theorem dX0_takes_32 : decode cX0_takes 32 = .ok (.aload_n 1, 1) := by decide +kernel
theorem dX0_takes_33 : decode cX0_takes 33 = .ok (.getfield 18, 3) := by decide +kernel
theorem dX0_takes_36 : decode cX0_takes 36 = .ok (.iconst 0, 1) := by decide +kernel
theorem dX0_takes_37 : decode cX0_takes 37 = .ok (.aload_n 0, 1) := by decide +kernel
theorem dX0_takes_38 : decode cX0_takes 38 = .ok (.getfield 18, 3) := by decide +kernel
theorem dX0_takes_41 : decode cX0_takes 41 = .ok (.iconst 0, 1) := by decide +kernel
theorem dX0_takes_42 : decode cX0_takes 42 = .ok (.bipush 10, 2) := by decide +kernel
theorem dX0_takes_44 : decode cX0_takes 44 = .ok (.invokestatic 38, 3) := by decide +kernel
theorem dX0_takes_47 : decode cX0_takes 47 = .ok (.aload_n 1, 1) := by decide +kernel
theorem dX0_takes_48 : decode cX0_takes 48 = .ok (.getfield 22, 3) := by decide +kernel
theorem dX0_takes_51 : decode cX0_takes 51 = .ok (.iconst 0, 1) := by decide +kernel
theorem dX0_takes_52 : decode cX0_takes 52 = .ok (.aload_n 0, 1) := by decide +kernel
theorem dX0_takes_53 : decode cX0_takes 53 = .ok (.getfield 22, 3) := by decide +kernel
theorem dX0_takes_56 : decode cX0_takes 56 = .ok (.iconst 0, 1) := by decide +kernel
theorem dX0_takes_57 : decode cX0_takes 57 = .ok (.bipush 10, 2) := by decide +kernel
theorem dX0_takes_59 : decode cX0_takes 59 = .ok (.invokestatic 38, 3) := by decide +kernel
theorem dX0_takes_62 : decode cX0_takes 62 = .ok (.aload_n 1, 1) := by decide +kernel
theorem dX0_takes_63 : decode cX0_takes 63 = .ok (.getfield 26, 3) := by decide +kernel
theorem dX0_takes_66 : decode cX0_takes 66 = .ok (.iconst 0, 1) := by decide +kernel
theorem dX0_takes_67 : decode cX0_takes 67 = .ok (.aload_n 0, 1) := by decide +kernel
theorem dX0_takes_68 : decode cX0_takes 68 = .ok (.getfield 26, 3) := by decide +kernel
theorem dX0_takes_71 : decode cX0_takes 71 = .ok (.iconst 0, 1) := by decide +kernel
theorem dX0_takes_72 : decode cX0_takes 72 = .ok (.bipush 10, 2) := by decide +kernel
theorem dX0_takes_74 : decode cX0_takes 74 = .ok (.invokestatic 38, 3) := by decide +kernel
theorem dX0_takes_77 : decode cX0_takes 77 = .ok (.aload_n 1, 1) := by decide +kernel
theorem dX0_takes_78 : decode cX0_takes 78 = .ok (.getfield 29, 3) := by decide +kernel
theorem dX0_takes_81 : decode cX0_takes 81 = .ok (.iconst 0, 1) := by decide +kernel
theorem dX0_takes_82 : decode cX0_takes 82 = .ok (.aload_n 0, 1) := by decide +kernel
theorem dX0_takes_83 : decode cX0_takes 83 = .ok (.getfield 29, 3) := by decide +kernel
theorem dX0_takes_86 : decode cX0_takes 86 = .ok (.iconst 0, 1) := by decide +kernel
theorem dX0_takes_87 : decode cX0_takes 87 = .ok (.bipush 100, 2) := by decide +kernel
theorem dX0_takes_89 : decode cX0_takes 89 = .ok (.invokestatic 38, 3) := by decide +kernel
theorem dX0_takes_92 : decode cX0_takes 92 = .ok (.return_, 1) := by decide +kernel
theorem hd_X0_takes : yX0_takes.cls = RX0 ∧ yX0_takes.cls ≠ "java/lang/invoke/MethodHandle" ∧ yX0_takes.cls ≠ "java/lang/invoke/VarHandle" ∧ (parseMethodDescriptor yX0_takes.desc).map (fun d => d.parameters.length) = some 1 := by decide +kernel
abbrev rm_X0_takes_5_29 : Room := { frames := 1, cells := 0, slots := 0, locals := 60 }
def F_X0_takes_5_29  (σ : SG) (ρ : RG) : Option (SG) :=
  nm (s2 σ 5 0 (σ 29 0)) fun σ2 =>
  nm (s2 σ2 5 1 (σ2 29 1)) fun σ4 =>
  nm (s2 σ4 5 2 (σ4 29 2)) fun σ6 =>
  nm (s2 σ6 5 7 (σ6 29 7)) fun σ8 =>
  gd ((List.range 10).all (fun i => isb (σ8 30 i))) <|
  nm (cpy σ8 30 6 10) fun σ9 =>
  nm (cpy σ9 31 7 10) fun σ10 =>
  nm (cpy σ10 32 8 10) fun σ11 =>
  nm (cpy σ11 33 9 100) fun σ12 =>
  some σ12
set_option maxHeartbeats 4000000 in
set_option maxRecDepth 100000 in
theorem w_X0_takes_5_29_0  {p : Program} {e : Env} {s : State} {m : MethodId} {args : Array Value} {below : List Frame} {meth : Method} {c : Code} {ρ0 : RG} {σ1 : SG} (C : Cx Y D N ad p s m args meth c cX0_takes 2 none RX0 wsL_law) {σ : SG} {ρ : RG} {H : Heap} {locs : List Loc} {ls : Array Slot} (hρ0 : ρ = ρ0) (hL : Lay N K len ρ) (hF : F_X0_takes_5_29 σ ρ = some σ1) (hP : WP Y D N ad K len σ ρ H) (hS : va_S (AA N ad s.heap.size) s.heap H locs) (hl : lv_has ls 2 [(0, .ref (ad 5)), (1, .ref (ad 29))]) : W p l e rm_X0_takes_5_29 s m args below meth c H locs 0 0 (MQ below (QW Y D N ad K len σ1 ρ0 (AA N ad s.heap.size) none) args s 0 0 (AA N ad s.heap.size)) (F0 m 0 ls []) := by
  have hx := C.1.1
  have hb := C.1.2.1
  unfold F_X0_takes_5_29 at hF
  refine lv_aload_n hx hb dX0_takes_0 rfl (lv_at hl 0 rfl) ?_
  refine lv_aload_n hx hb dX0_takes_1 rfl (lv_at hl 1 rfl) ?_
  refine get_0_0 C hP (lr_29 hL) (lk_29 hL) inlX0 mw_56 dX0_takes_2 ?_
  obtain ⟨σ2, eσ2, hF⟩ := nm_1 hF
  refine put_0_0 C hP hS (lr_5 hL) (lk_5 hL) inlX0 mw_56 eσ2 dX0_takes_5 (fun H locs hP hS => ?_)
  refine lv_aload_n hx hb dX0_takes_8 rfl (lv_at hl 0 rfl) ?_
  refine lv_aload_n hx hb dX0_takes_9 rfl (lv_at hl 1 rfl) ?_
  refine get_0_1 C hP (lr_29 hL) (lk_29 hL) inlX0 mw_57 dX0_takes_10 ?_
  obtain ⟨σ4, eσ4, hF⟩ := nm_1 hF
  refine put_0_1 C hP hS (lr_5 hL) (lk_5 hL) inlX0 mw_57 eσ4 dX0_takes_13 (fun H locs hP hS => ?_)
  refine lv_aload_n hx hb dX0_takes_16 rfl (lv_at hl 0 rfl) ?_
  refine lv_aload_n hx hb dX0_takes_17 rfl (lv_at hl 1 rfl) ?_
  refine get_0_2 C hP (lr_29 hL) (lk_29 hL) inlX0 mw_121 dX0_takes_18 ?_
  obtain ⟨σ6, eσ6, hF⟩ := nm_1 hF
  refine put_0_2 C hP hS (lr_5 hL) (lk_5 hL) inlX0 mw_121 eσ6 dX0_takes_21 (fun H locs hP hS => ?_)
  refine lv_aload_n hx hb dX0_takes_24 rfl (lv_at hl 0 rfl) ?_
  refine lv_aload_n hx hb dX0_takes_25 rfl (lv_at hl 1 rfl) ?_
  refine get_0_7 C hP (lr_29 hL) (lk_29 hL) inlX0 mw_122 dX0_takes_26 ?_
  obtain ⟨σ8, eσ8, hF⟩ := nm_1 hF
  refine put_0_7 C hP hS (lr_5 hL) (lk_5 hL) inlX0 mw_122 eσ8 dX0_takes_29 (fun H locs hP hS => ?_)
  refine lv_aload_n hx hb dX0_takes_32 rfl (lv_at hl 1 rfl) ?_
  refine get_0_3 C hP (lr_29 hL) (lk_29 hL) inlX0 mw_59 (lf_29_3 hL) dX0_takes_33 ?_
  refine lv_iconst (v := 0) hx hb dX0_takes_36 (by decide) ?_
  refine lv_aload_n hx hb dX0_takes_37 rfl (lv_at hl 0 rfl) ?_
  refine get_0_3 C hP (lr_5 hL) (lk_5 hL) inlX0 mw_59 (lf_5_3 hL) dX0_takes_38 ?_
  refine lv_iconst (v := 0) hx hb dX0_takes_41 (by decide) ?_
  refine lv_bipush (v := 10) hx hb dX0_takes_42 (by decide +kernel) ?_
  obtain ⟨ga9, hF⟩ := gd_1 hF
  obtain ⟨σ9, eσ9, hF⟩ := nm_1 hF
  refine x_copyZ C hP hS hl.1 (lr_30 hL) (lr_6 hL) (lk_30 hL) (lk_6 hL) (ln_30 hL) (ln_6 hL) (by decide +kernel : (10 : Int32).toNatClampNeg = 10) (by decide) (Nat.le_of_ble_eq_true rfl) (Nat.le_of_ble_eq_true rfl) ga9 eσ9 mw_285 mw_286 mw_287 mw_288 (Nat.le_of_ble_eq_true rfl) (Nat.le_of_ble_eq_true rfl) dX0_takes_44 (fun H locs hP hS => ?_)
  refine lv_aload_n hx hb dX0_takes_47 rfl (lv_at hl 1 rfl) ?_
  refine get_0_4 C hP (lr_29 hL) (lk_29 hL) inlX0 mw_60 (lf_29_4 hL) dX0_takes_48 ?_
  refine lv_iconst (v := 0) hx hb dX0_takes_51 (by decide) ?_
  refine lv_aload_n hx hb dX0_takes_52 rfl (lv_at hl 0 rfl) ?_
  refine get_0_4 C hP (lr_5 hL) (lk_5 hL) inlX0 mw_60 (lf_5_4 hL) dX0_takes_53 ?_
  refine lv_iconst (v := 0) hx hb dX0_takes_56 (by decide) ?_
  refine lv_bipush (v := 10) hx hb dX0_takes_57 (by decide +kernel) ?_
  obtain ⟨σ10, eσ10, hF⟩ := nm_1 hF
  refine x_copyI C hP hS hl.1 (lr_31 hL) (lr_7 hL) (lk_31 hL) (lk_7 hL) (ln_31 hL) (ln_7 hL) (by decide +kernel : (10 : Int32).toNatClampNeg = 10) (by decide) (Nat.le_of_ble_eq_true rfl) (Nat.le_of_ble_eq_true rfl)  eσ10 mw_285 mw_286 mw_287 mw_288 (Nat.le_of_ble_eq_true rfl) (Nat.le_of_ble_eq_true rfl) dX0_takes_59 (fun H locs hP hS => ?_)
  refine lv_aload_n hx hb dX0_takes_62 rfl (lv_at hl 1 rfl) ?_
  refine get_0_5 C hP (lr_29 hL) (lk_29 hL) inlX0 mw_61 (lf_29_5 hL) dX0_takes_63 ?_
  refine lv_iconst (v := 0) hx hb dX0_takes_66 (by decide) ?_
  refine lv_aload_n hx hb dX0_takes_67 rfl (lv_at hl 0 rfl) ?_
  refine get_0_5 C hP (lr_5 hL) (lk_5 hL) inlX0 mw_61 (lf_5_5 hL) dX0_takes_68 ?_
  refine lv_iconst (v := 0) hx hb dX0_takes_71 (by decide) ?_
  refine lv_bipush (v := 10) hx hb dX0_takes_72 (by decide +kernel) ?_
  obtain ⟨σ11, eσ11, hF⟩ := nm_1 hF
  refine x_copyI C hP hS hl.1 (lr_32 hL) (lr_8 hL) (lk_32 hL) (lk_8 hL) (ln_32 hL) (ln_8 hL) (by decide +kernel : (10 : Int32).toNatClampNeg = 10) (by decide) (Nat.le_of_ble_eq_true rfl) (Nat.le_of_ble_eq_true rfl)  eσ11 mw_285 mw_286 mw_287 mw_288 (Nat.le_of_ble_eq_true rfl) (Nat.le_of_ble_eq_true rfl) dX0_takes_74 (fun H locs hP hS => ?_)
  refine lv_aload_n hx hb dX0_takes_77 rfl (lv_at hl 1 rfl) ?_
  refine get_0_6 C hP (lr_29 hL) (lk_29 hL) inlX0 mw_62 (lf_29_6 hL) dX0_takes_78 ?_
  refine lv_iconst (v := 0) hx hb dX0_takes_81 (by decide) ?_
  refine lv_aload_n hx hb dX0_takes_82 rfl (lv_at hl 0 rfl) ?_
  refine get_0_6 C hP (lr_5 hL) (lk_5 hL) inlX0 mw_62 (lf_5_6 hL) dX0_takes_83 ?_
  refine lv_iconst (v := 0) hx hb dX0_takes_86 (by decide) ?_
  refine lv_bipush (v := 100) hx hb dX0_takes_87 (by decide +kernel) ?_
  obtain ⟨σ12, eσ12, hF⟩ := nm_1 hF
  refine x_copyI C hP hS hl.1 (lr_33 hL) (lr_9 hL) (lk_33 hL) (lk_9 hL) (ln_33 hL) (ln_9 hL) (by decide +kernel : (100 : Int32).toNatClampNeg = 100) (by decide) (Nat.le_of_ble_eq_true rfl) (Nat.le_of_ble_eq_true rfl)  eσ12 mw_285 mw_286 mw_287 mw_288 (Nat.le_of_ble_eq_true rfl) (Nat.le_of_ble_eq_true rfl) dX0_takes_89 (fun H locs hP hS => ?_)
  obtain rfl := ret_1 hF
  subst hρ0
  exact x_vret rfl C hP hS dX0_takes_92
set_option maxHeartbeats 4000000 in
set_option maxRecDepth 100000 in
theorem c_X0_takes_5_29  {σ1 : SG} {σ : SG} {ρ : RG} (hL : Lay N K len ρ) (hF : F_X0_takes_5_29 σ ρ = some σ1) : MT l Y D N ad K len yX0_takes (Cond.code yX0_takes cX0_takes 2 none :: wsL_law) rm_X0_takes_5_29 [.ref (ad 5), .ref (ad 29)] σ ρ none σ1 ρ := by
  refine mt_of (cc := cX0_takes) (nL := 2) (ret := none) (by decide) (Nat.le_of_ble_eq_true rfl) ?_
  intro p e s m args below meth c ls C hnm hP hS hl
  exact w_X0_takes_5_29_0 C rfl hL hF hP hS hl

/-! CutCrooked$Board.void takes(CutCrooked$Board); 18_5 -/
abbrev rm_X0_takes_18_5 : Room := { frames := 1, cells := 0, slots := 0, locals := 60 }
def F_X0_takes_18_5  (σ : SG) (ρ : RG) : Option (SG) :=
  nm (s2 σ 18 0 (σ 5 0)) fun σ2 =>
  nm (s2 σ2 18 1 (σ2 5 1)) fun σ4 =>
  nm (s2 σ4 18 2 (σ4 5 2)) fun σ6 =>
  nm (s2 σ6 18 7 (σ6 5 7)) fun σ8 =>
  gd ((List.range 10).all (fun i => isb (σ8 6 i))) <|
  nm (cpy σ8 6 19 10) fun σ9 =>
  nm (cpy σ9 7 20 10) fun σ10 =>
  nm (cpy σ10 8 21 10) fun σ11 =>
  nm (cpy σ11 9 22 100) fun σ12 =>
  some σ12
set_option maxHeartbeats 4000000 in
set_option maxRecDepth 100000 in
theorem w_X0_takes_18_5_0  {p : Program} {e : Env} {s : State} {m : MethodId} {args : Array Value} {below : List Frame} {meth : Method} {c : Code} {ρ0 : RG} {σ1 : SG} (C : Cx Y D N ad p s m args meth c cX0_takes 2 none RX0 wsL_law) {σ : SG} {ρ : RG} {H : Heap} {locs : List Loc} {ls : Array Slot} (hρ0 : ρ = ρ0) (hL : Lay N K len ρ) (hF : F_X0_takes_18_5 σ ρ = some σ1) (hP : WP Y D N ad K len σ ρ H) (hS : va_S (AA N ad s.heap.size) s.heap H locs) (hl : lv_has ls 2 [(0, .ref (ad 18)), (1, .ref (ad 5))]) : W p l e rm_X0_takes_18_5 s m args below meth c H locs 0 0 (MQ below (QW Y D N ad K len σ1 ρ0 (AA N ad s.heap.size) none) args s 0 0 (AA N ad s.heap.size)) (F0 m 0 ls []) := by
  have hx := C.1.1
  have hb := C.1.2.1
  unfold F_X0_takes_18_5 at hF
  refine lv_aload_n hx hb dX0_takes_0 rfl (lv_at hl 0 rfl) ?_
  refine lv_aload_n hx hb dX0_takes_1 rfl (lv_at hl 1 rfl) ?_
  refine get_0_0 C hP (lr_5 hL) (lk_5 hL) inlX0 mw_56 dX0_takes_2 ?_
  obtain ⟨σ2, eσ2, hF⟩ := nm_1 hF
  refine put_0_0 C hP hS (lr_18 hL) (lk_18 hL) inlX0 mw_56 eσ2 dX0_takes_5 (fun H locs hP hS => ?_)
  refine lv_aload_n hx hb dX0_takes_8 rfl (lv_at hl 0 rfl) ?_
  refine lv_aload_n hx hb dX0_takes_9 rfl (lv_at hl 1 rfl) ?_
  refine get_0_1 C hP (lr_5 hL) (lk_5 hL) inlX0 mw_57 dX0_takes_10 ?_
  obtain ⟨σ4, eσ4, hF⟩ := nm_1 hF
  refine put_0_1 C hP hS (lr_18 hL) (lk_18 hL) inlX0 mw_57 eσ4 dX0_takes_13 (fun H locs hP hS => ?_)
  refine lv_aload_n hx hb dX0_takes_16 rfl (lv_at hl 0 rfl) ?_
  refine lv_aload_n hx hb dX0_takes_17 rfl (lv_at hl 1 rfl) ?_
  refine get_0_2 C hP (lr_5 hL) (lk_5 hL) inlX0 mw_121 dX0_takes_18 ?_
  obtain ⟨σ6, eσ6, hF⟩ := nm_1 hF
  refine put_0_2 C hP hS (lr_18 hL) (lk_18 hL) inlX0 mw_121 eσ6 dX0_takes_21 (fun H locs hP hS => ?_)
  refine lv_aload_n hx hb dX0_takes_24 rfl (lv_at hl 0 rfl) ?_
  refine lv_aload_n hx hb dX0_takes_25 rfl (lv_at hl 1 rfl) ?_
  refine get_0_7 C hP (lr_5 hL) (lk_5 hL) inlX0 mw_122 dX0_takes_26 ?_
  obtain ⟨σ8, eσ8, hF⟩ := nm_1 hF
  refine put_0_7 C hP hS (lr_18 hL) (lk_18 hL) inlX0 mw_122 eσ8 dX0_takes_29 (fun H locs hP hS => ?_)
  refine lv_aload_n hx hb dX0_takes_32 rfl (lv_at hl 1 rfl) ?_
  refine get_0_3 C hP (lr_5 hL) (lk_5 hL) inlX0 mw_59 (lf_5_3 hL) dX0_takes_33 ?_
  refine lv_iconst (v := 0) hx hb dX0_takes_36 (by decide) ?_
  refine lv_aload_n hx hb dX0_takes_37 rfl (lv_at hl 0 rfl) ?_
  refine get_0_3 C hP (lr_18 hL) (lk_18 hL) inlX0 mw_59 (lf_18_3 hL) dX0_takes_38 ?_
  refine lv_iconst (v := 0) hx hb dX0_takes_41 (by decide) ?_
  refine lv_bipush (v := 10) hx hb dX0_takes_42 (by decide +kernel) ?_
  obtain ⟨ga9, hF⟩ := gd_1 hF
  obtain ⟨σ9, eσ9, hF⟩ := nm_1 hF
  refine x_copyZ C hP hS hl.1 (lr_6 hL) (lr_19 hL) (lk_6 hL) (lk_19 hL) (ln_6 hL) (ln_19 hL) (by decide +kernel : (10 : Int32).toNatClampNeg = 10) (by decide) (Nat.le_of_ble_eq_true rfl) (Nat.le_of_ble_eq_true rfl) ga9 eσ9 mw_285 mw_286 mw_287 mw_288 (Nat.le_of_ble_eq_true rfl) (Nat.le_of_ble_eq_true rfl) dX0_takes_44 (fun H locs hP hS => ?_)
  refine lv_aload_n hx hb dX0_takes_47 rfl (lv_at hl 1 rfl) ?_
  refine get_0_4 C hP (lr_5 hL) (lk_5 hL) inlX0 mw_60 (lf_5_4 hL) dX0_takes_48 ?_
  refine lv_iconst (v := 0) hx hb dX0_takes_51 (by decide) ?_
  refine lv_aload_n hx hb dX0_takes_52 rfl (lv_at hl 0 rfl) ?_
  refine get_0_4 C hP (lr_18 hL) (lk_18 hL) inlX0 mw_60 (lf_18_4 hL) dX0_takes_53 ?_
  refine lv_iconst (v := 0) hx hb dX0_takes_56 (by decide) ?_
  refine lv_bipush (v := 10) hx hb dX0_takes_57 (by decide +kernel) ?_
  obtain ⟨σ10, eσ10, hF⟩ := nm_1 hF
  refine x_copyI C hP hS hl.1 (lr_7 hL) (lr_20 hL) (lk_7 hL) (lk_20 hL) (ln_7 hL) (ln_20 hL) (by decide +kernel : (10 : Int32).toNatClampNeg = 10) (by decide) (Nat.le_of_ble_eq_true rfl) (Nat.le_of_ble_eq_true rfl)  eσ10 mw_285 mw_286 mw_287 mw_288 (Nat.le_of_ble_eq_true rfl) (Nat.le_of_ble_eq_true rfl) dX0_takes_59 (fun H locs hP hS => ?_)
  refine lv_aload_n hx hb dX0_takes_62 rfl (lv_at hl 1 rfl) ?_
  refine get_0_5 C hP (lr_5 hL) (lk_5 hL) inlX0 mw_61 (lf_5_5 hL) dX0_takes_63 ?_
  refine lv_iconst (v := 0) hx hb dX0_takes_66 (by decide) ?_
  refine lv_aload_n hx hb dX0_takes_67 rfl (lv_at hl 0 rfl) ?_
  refine get_0_5 C hP (lr_18 hL) (lk_18 hL) inlX0 mw_61 (lf_18_5 hL) dX0_takes_68 ?_
  refine lv_iconst (v := 0) hx hb dX0_takes_71 (by decide) ?_
  refine lv_bipush (v := 10) hx hb dX0_takes_72 (by decide +kernel) ?_
  obtain ⟨σ11, eσ11, hF⟩ := nm_1 hF
  refine x_copyI C hP hS hl.1 (lr_8 hL) (lr_21 hL) (lk_8 hL) (lk_21 hL) (ln_8 hL) (ln_21 hL) (by decide +kernel : (10 : Int32).toNatClampNeg = 10) (by decide) (Nat.le_of_ble_eq_true rfl) (Nat.le_of_ble_eq_true rfl)  eσ11 mw_285 mw_286 mw_287 mw_288 (Nat.le_of_ble_eq_true rfl) (Nat.le_of_ble_eq_true rfl) dX0_takes_74 (fun H locs hP hS => ?_)
  refine lv_aload_n hx hb dX0_takes_77 rfl (lv_at hl 1 rfl) ?_
  refine get_0_6 C hP (lr_5 hL) (lk_5 hL) inlX0 mw_62 (lf_5_6 hL) dX0_takes_78 ?_
  refine lv_iconst (v := 0) hx hb dX0_takes_81 (by decide) ?_
  refine lv_aload_n hx hb dX0_takes_82 rfl (lv_at hl 0 rfl) ?_
  refine get_0_6 C hP (lr_18 hL) (lk_18 hL) inlX0 mw_62 (lf_18_6 hL) dX0_takes_83 ?_
  refine lv_iconst (v := 0) hx hb dX0_takes_86 (by decide) ?_
  refine lv_bipush (v := 100) hx hb dX0_takes_87 (by decide +kernel) ?_
  obtain ⟨σ12, eσ12, hF⟩ := nm_1 hF
  refine x_copyI C hP hS hl.1 (lr_9 hL) (lr_22 hL) (lk_9 hL) (lk_22 hL) (ln_9 hL) (ln_22 hL) (by decide +kernel : (100 : Int32).toNatClampNeg = 100) (by decide) (Nat.le_of_ble_eq_true rfl) (Nat.le_of_ble_eq_true rfl)  eσ12 mw_285 mw_286 mw_287 mw_288 (Nat.le_of_ble_eq_true rfl) (Nat.le_of_ble_eq_true rfl) dX0_takes_89 (fun H locs hP hS => ?_)
  obtain rfl := ret_1 hF
  subst hρ0
  exact x_vret rfl C hP hS dX0_takes_92
set_option maxHeartbeats 4000000 in
set_option maxRecDepth 100000 in
theorem c_X0_takes_18_5  {σ1 : SG} {σ : SG} {ρ : RG} (hL : Lay N K len ρ) (hF : F_X0_takes_18_5 σ ρ = some σ1) : MT l Y D N ad K len yX0_takes (Cond.code yX0_takes cX0_takes 2 none :: wsL_law) rm_X0_takes_18_5 [.ref (ad 18), .ref (ad 5)] σ ρ none σ1 ρ := by
  refine mt_of (cc := cX0_takes) (nL := 2) (ret := none) (by decide) (Nat.le_of_ble_eq_true rfl) ?_
  intro p e s m args below meth c ls C hnm hP hS hl
  exact w_X0_takes_18_5_0 C rfl hL hF hP hS hl

/-! CutCrooked$Board.void takes(CutCrooked$Board); 5_18 -/
abbrev rm_X0_takes_5_18 : Room := { frames := 1, cells := 0, slots := 0, locals := 60 }
def F_X0_takes_5_18  (σ : SG) (ρ : RG) : Option (SG) :=
  nm (s2 σ 5 0 (σ 18 0)) fun σ2 =>
  nm (s2 σ2 5 1 (σ2 18 1)) fun σ4 =>
  nm (s2 σ4 5 2 (σ4 18 2)) fun σ6 =>
  nm (s2 σ6 5 7 (σ6 18 7)) fun σ8 =>
  gd ((List.range 10).all (fun i => isb (σ8 19 i))) <|
  nm (cpy σ8 19 6 10) fun σ9 =>
  nm (cpy σ9 20 7 10) fun σ10 =>
  nm (cpy σ10 21 8 10) fun σ11 =>
  nm (cpy σ11 22 9 100) fun σ12 =>
  some σ12
set_option maxHeartbeats 4000000 in
set_option maxRecDepth 100000 in
theorem w_X0_takes_5_18_0  {p : Program} {e : Env} {s : State} {m : MethodId} {args : Array Value} {below : List Frame} {meth : Method} {c : Code} {ρ0 : RG} {σ1 : SG} (C : Cx Y D N ad p s m args meth c cX0_takes 2 none RX0 wsL_law) {σ : SG} {ρ : RG} {H : Heap} {locs : List Loc} {ls : Array Slot} (hρ0 : ρ = ρ0) (hL : Lay N K len ρ) (hF : F_X0_takes_5_18 σ ρ = some σ1) (hP : WP Y D N ad K len σ ρ H) (hS : va_S (AA N ad s.heap.size) s.heap H locs) (hl : lv_has ls 2 [(0, .ref (ad 5)), (1, .ref (ad 18))]) : W p l e rm_X0_takes_5_18 s m args below meth c H locs 0 0 (MQ below (QW Y D N ad K len σ1 ρ0 (AA N ad s.heap.size) none) args s 0 0 (AA N ad s.heap.size)) (F0 m 0 ls []) := by
  have hx := C.1.1
  have hb := C.1.2.1
  unfold F_X0_takes_5_18 at hF
  refine lv_aload_n hx hb dX0_takes_0 rfl (lv_at hl 0 rfl) ?_
  refine lv_aload_n hx hb dX0_takes_1 rfl (lv_at hl 1 rfl) ?_
  refine get_0_0 C hP (lr_18 hL) (lk_18 hL) inlX0 mw_56 dX0_takes_2 ?_
  obtain ⟨σ2, eσ2, hF⟩ := nm_1 hF
  refine put_0_0 C hP hS (lr_5 hL) (lk_5 hL) inlX0 mw_56 eσ2 dX0_takes_5 (fun H locs hP hS => ?_)
  refine lv_aload_n hx hb dX0_takes_8 rfl (lv_at hl 0 rfl) ?_
  refine lv_aload_n hx hb dX0_takes_9 rfl (lv_at hl 1 rfl) ?_
  refine get_0_1 C hP (lr_18 hL) (lk_18 hL) inlX0 mw_57 dX0_takes_10 ?_
  obtain ⟨σ4, eσ4, hF⟩ := nm_1 hF
  refine put_0_1 C hP hS (lr_5 hL) (lk_5 hL) inlX0 mw_57 eσ4 dX0_takes_13 (fun H locs hP hS => ?_)
  refine lv_aload_n hx hb dX0_takes_16 rfl (lv_at hl 0 rfl) ?_
  refine lv_aload_n hx hb dX0_takes_17 rfl (lv_at hl 1 rfl) ?_
  refine get_0_2 C hP (lr_18 hL) (lk_18 hL) inlX0 mw_121 dX0_takes_18 ?_
  obtain ⟨σ6, eσ6, hF⟩ := nm_1 hF
  refine put_0_2 C hP hS (lr_5 hL) (lk_5 hL) inlX0 mw_121 eσ6 dX0_takes_21 (fun H locs hP hS => ?_)
  refine lv_aload_n hx hb dX0_takes_24 rfl (lv_at hl 0 rfl) ?_
  refine lv_aload_n hx hb dX0_takes_25 rfl (lv_at hl 1 rfl) ?_
  refine get_0_7 C hP (lr_18 hL) (lk_18 hL) inlX0 mw_122 dX0_takes_26 ?_
  obtain ⟨σ8, eσ8, hF⟩ := nm_1 hF
  refine put_0_7 C hP hS (lr_5 hL) (lk_5 hL) inlX0 mw_122 eσ8 dX0_takes_29 (fun H locs hP hS => ?_)
  refine lv_aload_n hx hb dX0_takes_32 rfl (lv_at hl 1 rfl) ?_
  refine get_0_3 C hP (lr_18 hL) (lk_18 hL) inlX0 mw_59 (lf_18_3 hL) dX0_takes_33 ?_
  refine lv_iconst (v := 0) hx hb dX0_takes_36 (by decide) ?_
  refine lv_aload_n hx hb dX0_takes_37 rfl (lv_at hl 0 rfl) ?_
  refine get_0_3 C hP (lr_5 hL) (lk_5 hL) inlX0 mw_59 (lf_5_3 hL) dX0_takes_38 ?_
  refine lv_iconst (v := 0) hx hb dX0_takes_41 (by decide) ?_
  refine lv_bipush (v := 10) hx hb dX0_takes_42 (by decide +kernel) ?_
  obtain ⟨ga9, hF⟩ := gd_1 hF
  obtain ⟨σ9, eσ9, hF⟩ := nm_1 hF
  refine x_copyZ C hP hS hl.1 (lr_19 hL) (lr_6 hL) (lk_19 hL) (lk_6 hL) (ln_19 hL) (ln_6 hL) (by decide +kernel : (10 : Int32).toNatClampNeg = 10) (by decide) (Nat.le_of_ble_eq_true rfl) (Nat.le_of_ble_eq_true rfl) ga9 eσ9 mw_285 mw_286 mw_287 mw_288 (Nat.le_of_ble_eq_true rfl) (Nat.le_of_ble_eq_true rfl) dX0_takes_44 (fun H locs hP hS => ?_)
  refine lv_aload_n hx hb dX0_takes_47 rfl (lv_at hl 1 rfl) ?_
  refine get_0_4 C hP (lr_18 hL) (lk_18 hL) inlX0 mw_60 (lf_18_4 hL) dX0_takes_48 ?_
  refine lv_iconst (v := 0) hx hb dX0_takes_51 (by decide) ?_
  refine lv_aload_n hx hb dX0_takes_52 rfl (lv_at hl 0 rfl) ?_
  refine get_0_4 C hP (lr_5 hL) (lk_5 hL) inlX0 mw_60 (lf_5_4 hL) dX0_takes_53 ?_
  refine lv_iconst (v := 0) hx hb dX0_takes_56 (by decide) ?_
  refine lv_bipush (v := 10) hx hb dX0_takes_57 (by decide +kernel) ?_
  obtain ⟨σ10, eσ10, hF⟩ := nm_1 hF
  refine x_copyI C hP hS hl.1 (lr_20 hL) (lr_7 hL) (lk_20 hL) (lk_7 hL) (ln_20 hL) (ln_7 hL) (by decide +kernel : (10 : Int32).toNatClampNeg = 10) (by decide) (Nat.le_of_ble_eq_true rfl) (Nat.le_of_ble_eq_true rfl)  eσ10 mw_285 mw_286 mw_287 mw_288 (Nat.le_of_ble_eq_true rfl) (Nat.le_of_ble_eq_true rfl) dX0_takes_59 (fun H locs hP hS => ?_)
  refine lv_aload_n hx hb dX0_takes_62 rfl (lv_at hl 1 rfl) ?_
  refine get_0_5 C hP (lr_18 hL) (lk_18 hL) inlX0 mw_61 (lf_18_5 hL) dX0_takes_63 ?_
  refine lv_iconst (v := 0) hx hb dX0_takes_66 (by decide) ?_
  refine lv_aload_n hx hb dX0_takes_67 rfl (lv_at hl 0 rfl) ?_
  refine get_0_5 C hP (lr_5 hL) (lk_5 hL) inlX0 mw_61 (lf_5_5 hL) dX0_takes_68 ?_
  refine lv_iconst (v := 0) hx hb dX0_takes_71 (by decide) ?_
  refine lv_bipush (v := 10) hx hb dX0_takes_72 (by decide +kernel) ?_
  obtain ⟨σ11, eσ11, hF⟩ := nm_1 hF
  refine x_copyI C hP hS hl.1 (lr_21 hL) (lr_8 hL) (lk_21 hL) (lk_8 hL) (ln_21 hL) (ln_8 hL) (by decide +kernel : (10 : Int32).toNatClampNeg = 10) (by decide) (Nat.le_of_ble_eq_true rfl) (Nat.le_of_ble_eq_true rfl)  eσ11 mw_285 mw_286 mw_287 mw_288 (Nat.le_of_ble_eq_true rfl) (Nat.le_of_ble_eq_true rfl) dX0_takes_74 (fun H locs hP hS => ?_)
  refine lv_aload_n hx hb dX0_takes_77 rfl (lv_at hl 1 rfl) ?_
  refine get_0_6 C hP (lr_18 hL) (lk_18 hL) inlX0 mw_62 (lf_18_6 hL) dX0_takes_78 ?_
  refine lv_iconst (v := 0) hx hb dX0_takes_81 (by decide) ?_
  refine lv_aload_n hx hb dX0_takes_82 rfl (lv_at hl 0 rfl) ?_
  refine get_0_6 C hP (lr_5 hL) (lk_5 hL) inlX0 mw_62 (lf_5_6 hL) dX0_takes_83 ?_
  refine lv_iconst (v := 0) hx hb dX0_takes_86 (by decide) ?_
  refine lv_bipush (v := 100) hx hb dX0_takes_87 (by decide +kernel) ?_
  obtain ⟨σ12, eσ12, hF⟩ := nm_1 hF
  refine x_copyI C hP hS hl.1 (lr_22 hL) (lr_9 hL) (lk_22 hL) (lk_9 hL) (ln_22 hL) (ln_9 hL) (by decide +kernel : (100 : Int32).toNatClampNeg = 100) (by decide) (Nat.le_of_ble_eq_true rfl) (Nat.le_of_ble_eq_true rfl)  eσ12 mw_285 mw_286 mw_287 mw_288 (Nat.le_of_ble_eq_true rfl) (Nat.le_of_ble_eq_true rfl) dX0_takes_89 (fun H locs hP hS => ?_)
  obtain rfl := ret_1 hF
  subst hρ0
  exact x_vret rfl C hP hS dX0_takes_92
set_option maxHeartbeats 4000000 in
set_option maxRecDepth 100000 in
theorem c_X0_takes_5_18  {σ1 : SG} {σ : SG} {ρ : RG} (hL : Lay N K len ρ) (hF : F_X0_takes_5_18 σ ρ = some σ1) : MT l Y D N ad K len yX0_takes (Cond.code yX0_takes cX0_takes 2 none :: wsL_law) rm_X0_takes_5_18 [.ref (ad 5), .ref (ad 18)] σ ρ none σ1 ρ := by
  refine mt_of (cc := cX0_takes) (nL := 2) (ret := none) (by decide) (Nat.le_of_ble_eq_true rfl) ?_
  intro p e s m args below meth c ls C hnm hP hS hl
  exact w_X0_takes_5_18_0 C rfl hL hF hP hS hl
end GEN
