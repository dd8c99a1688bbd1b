/-! PART 13.ck: printed by wip/gen -/
section GEN
variable {l : Launch} {Y : YT} {D : va_G} {N : Nat} {ad K len : Nat → Nat}
variable {fR lR : Nat}
/-! CutCrooked$Trace.void began(int);  -/
theorem dX10_began_0 : decode cX10_began 0 = .ok (.aload_n 0, 1) := by decide +kernel
theorem dX10_began_1 : decode cX10_began 1 = .ok (.getfield 15, 3) := by decide +kernel
theorem dX10_began_4 : decode cX10_began 4 = .ok (.ifCond .lt 25, 3) := by decide +kernel
theorem dX10_began_7 : decode cX10_began 7 = .ok (.aload_n 0, 1) := by decide +kernel
theorem dX10_began_8 : decode cX10_began 8 = .ok (.getfield 15, 3) := by decide +kernel
theorem dX10_began_11 : decode cX10_began 11 = .ok (.aload_n 0, 1) := by decide +kernel
theorem dX10_began_12 : decode cX10_began 12 = .ok (.getfield 9, 3) := by decide +kernel
theorem dX10_began_15 : decode cX10_began 15 = .ok (.arraylength, 1) := by decide +kernel
theorem dX10_began_16 : decode cX10_began 16 = .ok (.if_icmp .ge 13, 3) := by decide +kernel
theorem dX10_began_19 : decode cX10_began 19 = .ok (.aload_n 0, 1) := by decide +kernel
theorem dX10_began_20 : decode cX10_began 20 = .ok (.getfield 9, 3) := by decide +kernel
theorem dX10_began_23 : decode cX10_began 23 = .ok (.aload_n 0, 1) := by decide +kernel
theorem dX10_began_24 : decode cX10_began 24 = .ok (.getfield 15, 3) := by decide +kernel
theorem dX10_began_27 : decode cX10_began 27 = .ok (.iload_n 1, 1) := by decide +kernel
theorem dX10_began_28 : decode cX10_began 28 = .ok (.iastore, 1) := by decide +kernel
theorem dX10_began_29 : decode cX10_began 29 = .ok (.aload_n 0, 1) := by decide +kernel
theorem dX10_began_30 : decode cX10_began 30 = .ok (.dup, 1) := by decide +kernel
theorem dX10_began_31 : decode cX10_began 31 = .ok (.getfield 15, 3) := by decide +kernel
theorem dX10_began_34 : decode cX10_began 34 = .ok (.iconst 1, 1) := by decide +kernel
theorem dX10_began_35 : decode cX10_began 35 = .ok (.iadd, 1) := by decide +kernel
theorem dX10_began_36 : decode cX10_began 36 = .ok (.putfield 15, 3) := by decide +kernel
theorem dX10_began_39 : decode cX10_began 39 = .ok (.return_, 1) := by decide +kernel
theorem hd_X10_began : yX10_began.cls = RX10 ∧ yX10_began.cls ≠ "java/lang/invoke/MethodHandle" ∧ yX10_began.cls ≠ "java/lang/invoke/VarHandle" ∧ (parseMethodDescriptor yX10_began.desc).map (fun d => d.parameters.length) = some 1 := by decide +kernel
abbrev rm_X10_began : Room := { frames := 0, cells := 0, slots := 0, locals := 0 }
def F_X10_began_29 (a1 : Int32) (σ : SG) (ρ : RG) : Option (SG) :=
  nm ((σ 27 1) + (1 : Int32)) fun x2 =>
  nm (s2 σ 27 1 x2) fun σ4 =>
  some σ4
def F_X10_began (a1 : Int32) (σ : SG) (ρ : RG) : Option (SG) :=
  if (σ 27 1) < 0 then
    F_X10_began_29 a1 σ ρ
  else
    if (20 : Int32) ≤ (σ 27 1) then
      F_X10_began_29 a1 σ ρ
    else
      gd (inb (σ 27 1) 20) <|
      nm (s2 σ 28 ((σ 27 1)).toNatClampNeg a1) fun σ8 =>
      F_X10_began_29 a1 σ8 ρ
set_option maxHeartbeats 4000000 in
set_option maxRecDepth 100000 in
theorem w_X10_began_29 {a1 : Int32} {p : Program} {e : Env} {s : State} {m : MethodId} {args : Array Value} {below : List Frame} {meth : Method} {c : Code} {ρ0 : RG} {σ1 : SG} (C : Cx Y D N ad p s m args meth c cX10_began 2 none RX10 wsL_law) {σ : SG} {ρ : RG} {H : Heap} {locs : List Loc} {ls : Array Slot} (hρ0 : ρ = ρ0) (hL : Lay N K len ρ) (hF : F_X10_began_29 a1 σ ρ = some σ1) (hP : WP Y D N ad K len σ ρ H) (hS : va_S (AA N ad s.heap.size) s.heap H locs) (hl : lv_has ls 2 [(0, .ref (ad 27))]) : W p l e rm_X10_began s m args below meth c H locs 0 0 (MQ below (QW Y D N ad K len σ1 ρ0 (AA N ad s.heap.size) none) args s 0 0 (AA N ad s.heap.size)) (F0 m 29 ls []) := by
  have hx := C.1.1
  have hb := C.1.2.1
  unfold F_X10_began_29 at hF
  refine lv_aload_n hx hb dX10_began_29 rfl (lv_at hl 0 rfl) ?_
  refine lv_dup hx hb dX10_began_30 rfl ?_
  refine get_10_1 C hP (lr_27 hL) (lk_27 hL) inlX10 mw_1015 dX10_began_31 ?_
  refine lv_iconst (v := 1) hx hb dX10_began_34 (by decide) ?_
  refine lv_iadd hx hb dX10_began_35 ?_
  obtain ⟨x2, ex2, hF⟩ := nm_1 hF
  refine x_top ex2 ?_
  obtain ⟨σ4, eσ4, hF⟩ := nm_1 hF
  refine put_10_1 C hP hS (lr_27 hL) (lk_27 hL) inlX10 mw_1015 eσ4 dX10_began_36 (fun H locs hP hS => ?_)
  obtain rfl := ret_1 hF
  subst hρ0
  exact x_vret rfl C hP hS dX10_began_39
set_option maxHeartbeats 4000000 in
set_option maxRecDepth 100000 in
theorem w_X10_began_0 {a1 : Int32} {p : Program} {e : Env} {s : State} {m : MethodId} {args : Array Value} {below : List Frame} {meth : Method} {c : Code} {ρ0 : RG} {σ1 : SG} (C : Cx Y D N ad p s m args meth c cX10_began 2 none RX10 wsL_law) {σ : SG} {ρ : RG} {H : Heap} {locs : List Loc} {ls : Array Slot} (hρ0 : ρ = ρ0) (hL : Lay N K len ρ) (hF : F_X10_began a1 σ ρ = some σ1) (hP : WP Y D N ad K len σ ρ H) (hS : va_S (AA N ad s.heap.size) s.heap H locs) (hl : lv_has ls 2 [(0, .ref (ad 27)), (1, .int a1)]) : W p l e rm_X10_began s m args below meth c H locs 0 0 (MQ below (QW Y D N ad K len σ1 ρ0 (AA N ad s.heap.size) none) args s 0 0 (AA N ad s.heap.size)) (F0 m 0 ls []) := by
  have hx := C.1.1
  have hb := C.1.2.1
  unfold F_X10_began at hF
  refine lv_aload_n hx hb dX10_began_0 rfl (lv_at hl 0 rfl) ?_
  refine get_10_1 C hP (lr_27 hL) (lk_27 hL) inlX10 mw_1015 dX10_began_1 ?_
  refine lv_if_lt (tgt := 29) hx hb dX10_began_4 (by decide) (fun c_1 => ?_) (fun c_1 => ?_) -- COND 1 by_cases c_1 : (σ 27 1) < 0
  · have hF := ite_t hF c_1
    exact w_X10_began_29 C hρ0 hL hF hP hS (lv_sub hl [0] rfl)
  · have hF := ite_f hF c_1
    refine lv_aload_n hx hb dX10_began_7 rfl (lv_at hl 0 rfl) ?_
    refine get_10_1 C hP (lr_27 hL) (lk_27 hL) inlX10 mw_1015 dX10_began_8 ?_
    refine lv_aload_n hx hb dX10_began_11 rfl (lv_at hl 0 rfl) ?_
    refine get_10_0 C hP (lr_27 hL) (lk_27 hL) inlX10 mw_76 (lf_27_0 hL) dX10_began_12 ?_
    refine x_alen (v := (20 : Int32)) C hP (lr_28 hL) (lk_28 hL) (by decide) (ln_28 hL) (by decide +kernel) dX10_began_15 ?_
    refine lv_icmp_ge (tgt := 29) hx hb dX10_began_16 (by decide) (fun c_5 => ?_) (fun c_5 => ?_) -- COND 5 by_cases c_5 : (20 : Int32) ≤ (σ 27 1)
    · have hF := ite_t hF c_5
      exact w_X10_began_29 C hρ0 hL hF hP hS (lv_sub hl [0] rfl)
    · have hF := ite_f hF c_5
      refine lv_aload_n hx hb dX10_began_19 rfl (lv_at hl 0 rfl) ?_
      refine get_10_0 C hP (lr_27 hL) (lk_27 hL) inlX10 mw_76 (lf_27_0 hL) dX10_began_20 ?_
      refine lv_aload_n hx hb dX10_began_23 rfl (lv_at hl 0 rfl) ?_
      refine get_10_1 C hP (lr_27 hL) (lk_27 hL) inlX10 mw_1015 dX10_began_24 ?_
      refine lv_iload_n hx hb dX10_began_27 rfl (lv_at hl 1 rfl) ?_
      obtain ⟨g6, hF⟩ := gd_1 hF
      obtain ⟨σ8, eσ8, hF⟩ := nm_1 hF
      refine x_iast (σ1 := σ8) C hP hS (lr_28 hL) (lk_28 hL) (ln_28 hL) g6 eσ8 dX10_began_28 (fun H locs hP hS => ?_)
      exact w_X10_began_29 C hρ0 hL hF hP hS (lv_sub hl [0] rfl)
set_option maxHeartbeats 4000000 in
set_option maxRecDepth 100000 in
theorem c_X10_began {a1 : Int32} {σ1 : SG} {σ : SG} {ρ : RG} (hL : Lay N K len ρ) (hF : F_X10_began a1 σ ρ = some σ1) : MT l Y D N ad K len yX10_began (Cond.code yX10_began cX10_began 2 none :: wsL_law) rm_X10_began [.ref (ad 27), .int a1] σ ρ none σ1 ρ := by
  refine mt_of (cc := cX10_began) (nL := 2) (ret := none) (by decide) (Nat.le_of_ble_eq_true rfl) ?_
  intro p e s m args below meth c ls C hnm hP hS hl
  exact w_X10_began_0 C rfl hL hF hP hS hl

/-! CutCrooked$Cutter.int kind();  -/
theorem dX1_kind_0 : decode cX1_kind 0 = .ok (.iconst 0, 1) := by decide +kernel
theorem dX1_kind_1 : decode cX1_kind 1 = .ok (.ireturn, 1) := by decide +kernel
theorem hd_X1_kind : yX1_kind.cls = RX1 ∧ yX1_kind.cls ≠ "java/lang/invoke/MethodHandle" ∧ yX1_kind.cls ≠ "java/lang/invoke/VarHandle" ∧ (parseMethodDescriptor yX1_kind.desc).map (fun d => d.parameters.length) = some 0 := by decide +kernel
abbrev rm_X1_kind : Room := { frames := 0, cells := 0, slots := 0, locals := 0 }
def F_X1_kind (N : Nat) (K len : Nat → Nat) (z : Nat) (σ : SG) (ρ : RG) : Option (Int32) :=
  some (0 : Int32)
set_option maxHeartbeats 4000000 in
set_option maxRecDepth 100000 in
theorem w_X1_kind_0 {N : Nat} {K len : Nat → Nat} {z : Nat} {p : Program} {e : Env} {s : State} {m : MethodId} {args : Array Value} {below : List Frame} {meth : Method} {c : Code} {σ0 : SG} {ρ0 : RG} {r : Int32} (C : Cx Y D N ad p s m args meth c cX1_kind 1 (some .int) RX1 wsL_law) {σ : SG} {ρ : RG} {H : Heap} {locs : List Loc} {ls : Array Slot} (hσ0 : σ = σ0) (hρ0 : ρ = ρ0) (hL : Lay N K len ρ) (hz : isC N K z = true) (hF : F_X1_kind N K len z σ ρ = some r) (hP : WP Y D N ad K len σ ρ H) (hS : va_S (AA N ad s.heap.size) s.heap H locs) (hl : lv_has ls 1 [(0, .ref (ad z))]) : W p l e rm_X1_kind s m args below meth c H locs 0 0 (MQ below (QW Y D N ad K len σ0 ρ0 (AA N ad s.heap.size) (some (.int r))) args s 0 0 (AA N ad s.heap.size)) (F0 m 0 ls []) := by
  have hx := C.1.1
  have hb := C.1.2.1
  unfold F_X1_kind at hF
  refine lv_iconst (v := 0) hx hb dX1_kind_0 (by decide) ?_
  obtain rfl := ret_1 hF
  subst hσ0
  subst hρ0
  exact x_iret rfl C hP hS dX1_kind_1
set_option maxHeartbeats 4000000 in
set_option maxRecDepth 100000 in
theorem c_X1_kind {N : Nat} {K len : Nat → Nat} {z : Nat} {r : Int32} {σ : SG} {ρ : RG} (hL : Lay N K len ρ) (hz : isC N K z = true) (hF : F_X1_kind N K len z σ ρ = some r) : MT l Y D N ad K len yX1_kind (Cond.code yX1_kind cX1_kind 1 (some .int) :: wsL_law) rm_X1_kind [.ref (ad z)] σ ρ (some (.int r)) σ ρ := by
  refine mt_of (cc := cX1_kind) (nL := 1) (ret := (some .int)) (by decide) (Nat.le_of_ble_eq_true rfl) ?_
  intro p e s m args below meth c ls C hnm hP hS hl
  exact w_X1_kind_0 C rfl rfl hL hz hF hP hS hl

/-! CutCrooked$Follow.int kind();  -/
theorem dX2_kind_0 : decode cX2_kind 0 = .ok (.iconst 3, 1) := by decide +kernel
theorem dX2_kind_1 : decode cX2_kind 1 = .ok (.ireturn, 1) := by decide +kernel
theorem hd_X2_kind : yX2_kind.cls = RX2 ∧ yX2_kind.cls ≠ "java/lang/invoke/MethodHandle" ∧ yX2_kind.cls ≠ "java/lang/invoke/VarHandle" ∧ (parseMethodDescriptor yX2_kind.desc).map (fun d => d.parameters.length) = some 0 := by decide +kernel
abbrev rm_X2_kind : Room := { frames := 0, cells := 0, slots := 0, locals := 0 }
def F_X2_kind (N : Nat) (K len : Nat → Nat) (z : Nat) (σ : SG) (ρ : RG) : Option (Int32) :=
  some (3 : Int32)
set_option maxHeartbeats 4000000 in
set_option maxRecDepth 100000 in
theorem w_X2_kind_0 {N : Nat} {K len : Nat → Nat} {z : Nat} {p : Program} {e : Env} {s : State} {m : MethodId} {args : Array Value} {below : List Frame} {meth : Method} {c : Code} {σ0 : SG} {ρ0 : RG} {r : Int32} (C : Cx Y D N ad p s m args meth c cX2_kind 1 (some .int) RX2 wsL_law) {σ : SG} {ρ : RG} {H : Heap} {locs : List Loc} {ls : Array Slot} (hσ0 : σ = σ0) (hρ0 : ρ = ρ0) (hL : Lay N K len ρ) (hz : isC N K z = true) (hF : F_X2_kind N K len z σ ρ = some r) (hP : WP Y D N ad K len σ ρ H) (hS : va_S (AA N ad s.heap.size) s.heap H locs) (hl : lv_has ls 1 [(0, .ref (ad z))]) : W p l e rm_X2_kind s m args below meth c H locs 0 0 (MQ below (QW Y D N ad K len σ0 ρ0 (AA N ad s.heap.size) (some (.int r))) args s 0 0 (AA N ad s.heap.size)) (F0 m 0 ls []) := by
  have hx := C.1.1
  have hb := C.1.2.1
  unfold F_X2_kind at hF
  refine lv_iconst (v := 3) hx hb dX2_kind_0 (by decide) ?_
  obtain rfl := ret_1 hF
  subst hσ0
  subst hρ0
  exact x_iret rfl C hP hS dX2_kind_1
set_option maxHeartbeats 4000000 in
set_option maxRecDepth 100000 in
theorem c_X2_kind {N : Nat} {K len : Nat → Nat} {z : Nat} {r : Int32} {σ : SG} {ρ : RG} (hL : Lay N K len ρ) (hz : isC N K z = true) (hF : F_X2_kind N K len z σ ρ = some r) : MT l Y D N ad K len yX2_kind (Cond.code yX2_kind cX2_kind 1 (some .int) :: wsL_law) rm_X2_kind [.ref (ad z)] σ ρ (some (.int r)) σ ρ := by
  refine mt_of (cc := cX2_kind) (nL := 1) (ret := (some .int)) (by decide) (Nat.le_of_ble_eq_true rfl) ?_
  intro p e s m args below meth c ls C hnm hP hS hl
  exact w_X2_kind_0 C rfl rfl hL hz hF hP hS hl

/-! CutCrooked$Over.int kind();  -/
theorem dX4_kind_0 : decode cX4_kind 0 = .ok (.iconst 5, 1) := by decide +kernel
theorem dX4_kind_1 : decode cX4_kind 1 = .ok (.ireturn, 1) := by decide +kernel
theorem hd_X4_kind : yX4_kind.cls = RX4 ∧ yX4_kind.cls ≠ "java/lang/invoke/MethodHandle" ∧ yX4_kind.cls ≠ "java/lang/invoke/VarHandle" ∧ (parseMethodDescriptor yX4_kind.desc).map (fun d => d.parameters.length) = some 0 := by decide +kernel
abbrev rm_X4_kind : Room := { frames := 0, cells := 0, slots := 0, locals := 0 }
def F_X4_kind (N : Nat) (K len : Nat → Nat) (z : Nat) (σ : SG) (ρ : RG) : Option (Int32) :=
  some (5 : Int32)
set_option maxHeartbeats 4000000 in
set_option maxRecDepth 100000 in
theorem w_X4_kind_0 {N : Nat} {K len : Nat → Nat} {z : Nat} {p : Program} {e : Env} {s : State} {m : MethodId} {args : Array Value} {below : List Frame} {meth : Method} {c : Code} {σ0 : SG} {ρ0 : RG} {r : Int32} (C : Cx Y D N ad p s m args meth c cX4_kind 1 (some .int) RX4 wsL_law) {σ : SG} {ρ : RG} {H : Heap} {locs : List Loc} {ls : Array Slot} (hσ0 : σ = σ0) (hρ0 : ρ = ρ0) (hL : Lay N K len ρ) (hz : isC N K z = true) (hF : F_X4_kind N K len z σ ρ = some r) (hP : WP Y D N ad K len σ ρ H) (hS : va_S (AA N ad s.heap.size) s.heap H locs) (hl : lv_has ls 1 [(0, .ref (ad z))]) : W p l e rm_X4_kind s m args below meth c H locs 0 0 (MQ below (QW Y D N ad K len σ0 ρ0 (AA N ad s.heap.size) (some (.int r))) args s 0 0 (AA N ad s.heap.size)) (F0 m 0 ls []) := by
  have hx := C.1.1
  have hb := C.1.2.1
  unfold F_X4_kind at hF
  refine lv_iconst (v := 5) hx hb dX4_kind_0 (by decide) ?_
  obtain rfl := ret_1 hF
  subst hσ0
  subst hρ0
  exact x_iret rfl C hP hS dX4_kind_1
set_option maxHeartbeats 4000000 in
set_option maxRecDepth 100000 in
theorem c_X4_kind {N : Nat} {K len : Nat → Nat} {z : Nat} {r : Int32} {σ : SG} {ρ : RG} (hL : Lay N K len ρ) (hz : isC N K z = true) (hF : F_X4_kind N K len z σ ρ = some r) : MT l Y D N ad K len yX4_kind (Cond.code yX4_kind cX4_kind 1 (some .int) :: wsL_law) rm_X4_kind [.ref (ad z)] σ ρ (some (.int r)) σ ρ := by
  refine mt_of (cc := cX4_kind) (nL := 1) (ret := (some .int)) (by decide) (Nat.le_of_ble_eq_true rfl) ?_
  intro p e s m args below meth c ls C hnm hP hS hl
  exact w_X4_kind_0 C rfl rfl hL hz hF hP hS hl

/-! CutCrooked$Righting.int kind();  -/
theorem dX5_kind_0 : decode cX5_kind 0 = .ok (.iconst 4, 1) := by decide +kernel
theorem dX5_kind_1 : decode cX5_kind 1 = .ok (.ireturn, 1) := by decide +kernel
theorem hd_X5_kind : yX5_kind.cls = RX5 ∧ yX5_kind.cls ≠ "java/lang/invoke/MethodHandle" ∧ yX5_kind.cls ≠ "java/lang/invoke/VarHandle" ∧ (parseMethodDescriptor yX5_kind.desc).map (fun d => d.parameters.length) = some 0 := by decide +kernel
abbrev rm_X5_kind : Room := { frames := 0, cells := 0, slots := 0, locals := 0 }
def F_X5_kind (N : Nat) (K len : Nat → Nat) (z : Nat) (σ : SG) (ρ : RG) : Option (Int32) :=
  some (4 : Int32)
set_option maxHeartbeats 4000000 in
set_option maxRecDepth 100000 in
theorem w_X5_kind_0 {N : Nat} {K len : Nat → Nat} {z : Nat} {p : Program} {e : Env} {s : State} {m : MethodId} {args : Array Value} {below : List Frame} {meth : Method} {c : Code} {σ0 : SG} {ρ0 : RG} {r : Int32} (C : Cx Y D N ad p s m args meth c cX5_kind 1 (some .int) RX5 wsL_law) {σ : SG} {ρ : RG} {H : Heap} {locs : List Loc} {ls : Array Slot} (hσ0 : σ = σ0) (hρ0 : ρ = ρ0) (hL : Lay N K len ρ) (hz : isC N K z = true) (hF : F_X5_kind N K len z σ ρ = some r) (hP : WP Y D N ad K len σ ρ H) (hS : va_S (AA N ad s.heap.size) s.heap H locs) (hl : lv_has ls 1 [(0, .ref (ad z))]) : W p l e rm_X5_kind s m args below meth c H locs 0 0 (MQ below (QW Y D N ad K len σ0 ρ0 (AA N ad s.heap.size) (some (.int r))) args s 0 0 (AA N ad s.heap.size)) (F0 m 0 ls []) := by
  have hx := C.1.1
  have hb := C.1.2.1
  unfold F_X5_kind at hF
  refine lv_iconst (v := 4) hx hb dX5_kind_0 (by decide) ?_
  obtain rfl := ret_1 hF
  subst hσ0
  subst hρ0
  exact x_iret rfl C hP hS dX5_kind_1
set_option maxHeartbeats 4000000 in
set_option maxRecDepth 100000 in
theorem c_X5_kind {N : Nat} {K len : Nat → Nat} {z : Nat} {r : Int32} {σ : SG} {ρ : RG} (hL : Lay N K len ρ) (hz : isC N K z = true) (hF : F_X5_kind N K len z σ ρ = some r) : MT l Y D N ad K len yX5_kind (Cond.code yX5_kind cX5_kind 1 (some .int) :: wsL_law) rm_X5_kind [.ref (ad z)] σ ρ (some (.int r)) σ ρ := by
  refine mt_of (cc := cX5_kind) (nL := 1) (ret := (some .int)) (by decide) (Nat.le_of_ble_eq_true rfl) ?_
  intro p e s m args below meth c ls C hnm hP hS hl
  exact w_X5_kind_0 C rfl rfl hL hz hF hP hS hl

/-! CutCrooked$Slant.int kind();  -/
theorem dX6_kind_0 : decode cX6_kind 0 = .ok (.iconst 2, 1) := by decide +kernel
theorem dX6_kind_1 : decode cX6_kind 1 = .ok (.ireturn, 1) := by decide +kernel
theorem hd_X6_kind : yX6_kind.cls = RX6 ∧ yX6_kind.cls ≠ "java/lang/invoke/MethodHandle" ∧ yX6_kind.cls ≠ "java/lang/invoke/VarHandle" ∧ (parseMethodDescriptor yX6_kind.desc).map (fun d => d.parameters.length) = some 0 := by decide +kernel
abbrev rm_X6_kind : Room := { frames := 0, cells := 0, slots := 0, locals := 0 }
def F_X6_kind (N : Nat) (K len : Nat → Nat) (z : Nat) (σ : SG) (ρ : RG) : Option (Int32) :=
  some (2 : Int32)
set_option maxHeartbeats 4000000 in
set_option maxRecDepth 100000 in
theorem w_X6_kind_0 {N : Nat} {K len : Nat → Nat} {z : Nat} {p : Program} {e : Env} {s : State} {m : MethodId} {args : Array Value} {below : List Frame} {meth : Method} {c : Code} {σ0 : SG} {ρ0 : RG} {r : Int32} (C : Cx Y D N ad p s m args meth c cX6_kind 1 (some .int) RX6 wsL_law) {σ : SG} {ρ : RG} {H : Heap} {locs : List Loc} {ls : Array Slot} (hσ0 : σ = σ0) (hρ0 : ρ = ρ0) (hL : Lay N K len ρ) (hz : isC N K z = true) (hF : F_X6_kind N K len z σ ρ = some r) (hP : WP Y D N ad K len σ ρ H) (hS : va_S (AA N ad s.heap.size) s.heap H locs) (hl : lv_has ls 1 [(0, .ref (ad z))]) : W p l e rm_X6_kind s m args below meth c H locs 0 0 (MQ below (QW Y D N ad K len σ0 ρ0 (AA N ad s.heap.size) (some (.int r))) args s 0 0 (AA N ad s.heap.size)) (F0 m 0 ls []) := by
  have hx := C.1.1
  have hb := C.1.2.1
  unfold F_X6_kind at hF
  refine lv_iconst (v := 2) hx hb dX6_kind_0 (by decide) ?_
  obtain rfl := ret_1 hF
  subst hσ0
  subst hρ0
  exact x_iret rfl C hP hS dX6_kind_1
set_option maxHeartbeats 4000000 in
set_option maxRecDepth 100000 in
theorem c_X6_kind {N : Nat} {K len : Nat → Nat} {z : Nat} {r : Int32} {σ : SG} {ρ : RG} (hL : Lay N K len ρ) (hz : isC N K z = true) (hF : F_X6_kind N K len z σ ρ = some r) : MT l Y D N ad K len yX6_kind (Cond.code yX6_kind cX6_kind 1 (some .int) :: wsL_law) rm_X6_kind [.ref (ad z)] σ ρ (some (.int r)) σ ρ := by
  refine mt_of (cc := cX6_kind) (nL := 1) (ret := (some .int)) (by decide) (Nat.le_of_ble_eq_true rfl) ?_
  intro p e s m args below meth c ls C hnm hP hS hl
  exact w_X6_kind_0 C rfl rfl hL hz hF hP hS hl

/-! CutCrooked$Straight.int kind();  -/
theorem dX7_kind_0 : decode cX7_kind 0 = .ok (.iconst 1, 1) := by decide +kernel
theorem dX7_kind_1 : decode cX7_kind 1 = .ok (.ireturn, 1) := by decide +kernel
theorem hd_X7_kind : yX7_kind.cls = RX7 ∧ yX7_kind.cls ≠ "java/lang/invoke/MethodHandle" ∧ yX7_kind.cls ≠ "java/lang/invoke/VarHandle" ∧ (parseMethodDescriptor yX7_kind.desc).map (fun d => d.parameters.length) = some 0 := by decide +kernel
abbrev rm_X7_kind : Room := { frames := 0, cells := 0, slots := 0, locals := 0 }
def F_X7_kind (N : Nat) (K len : Nat → Nat) (z : Nat) (σ : SG) (ρ : RG) : Option (Int32) :=
  some (1 : Int32)
set_option maxHeartbeats 4000000 in
set_option maxRecDepth 100000 in
theorem w_X7_kind_0 {N : Nat} {K len : Nat → Nat} {z : Nat} {p : Program} {e : Env} {s : State} {m : MethodId} {args : Array Value} {below : List Frame} {meth : Method} {c : Code} {σ0 : SG} {ρ0 : RG} {r : Int32} (C : Cx Y D N ad p s m args meth c cX7_kind 1 (some .int) RX7 wsL_law) {σ : SG} {ρ : RG} {H : Heap} {locs : List Loc} {ls : Array Slot} (hσ0 : σ = σ0) (hρ0 : ρ = ρ0) (hL : Lay N K len ρ) (hz : isC N K z = true) (hF : F_X7_kind N K len z σ ρ = some r) (hP : WP Y D N ad K len σ ρ H) (hS : va_S (AA N ad s.heap.size) s.heap H locs) (hl : lv_has ls 1 [(0, .ref (ad z))]) : W p l e rm_X7_kind s m args below meth c H locs 0 0 (MQ below (QW Y D N ad K len σ0 ρ0 (AA N ad s.heap.size) (some (.int r))) args s 0 0 (AA N ad s.heap.size)) (F0 m 0 ls []) := by
  have hx := C.1.1
  have hb := C.1.2.1
  unfold F_X7_kind at hF
  refine lv_iconst (v := 1) hx hb dX7_kind_0 (by decide) ?_
  obtain rfl := ret_1 hF
  subst hσ0
  subst hρ0
  exact x_iret rfl C hP hS dX7_kind_1
set_option maxHeartbeats 4000000 in
set_option maxRecDepth 100000 in
theorem c_X7_kind {N : Nat} {K len : Nat → Nat} {z : Nat} {r : Int32} {σ : SG} {ρ : RG} (hL : Lay N K len ρ) (hz : isC N K z = true) (hF : F_X7_kind N K len z σ ρ = some r) : MT l Y D N ad K len yX7_kind (Cond.code yX7_kind cX7_kind 1 (some .int) :: wsL_law) rm_X7_kind [.ref (ad z)] σ ρ (some (.int r)) σ ρ := by
  refine mt_of (cc := cX7_kind) (nL := 1) (ret := (some .int)) (by decide) (Nat.le_of_ble_eq_true rfl) ?_
  intro p e s m args below meth c ls C hnm hP hS hl
  exact w_X7_kind_0 C rfl rfl hL hz hF hP hS hl

/-! CutCrooked$Told.int kind();  -/
theorem dX9_kind_0 : decode cX9_kind 0 = .ok (.bipush 6, 2) := by decide +kernel
theorem dX9_kind_2 : decode cX9_kind 2 = .ok (.ireturn, 1) := by decide +kernel
theorem hd_X9_kind : yX9_kind.cls = RX9 ∧ yX9_kind.cls ≠ "java/lang/invoke/MethodHandle" ∧ yX9_kind.cls ≠ "java/lang/invoke/VarHandle" ∧ (parseMethodDescriptor yX9_kind.desc).map (fun d => d.parameters.length) = some 0 := by decide +kernel
abbrev rm_X9_kind : Room := { frames := 0, cells := 0, slots := 0, locals := 0 }
def F_X9_kind (N : Nat) (K len : Nat → Nat) (z : Nat) (σ : SG) (ρ : RG) : Option (Int32) :=
  some (6 : Int32)
set_option maxHeartbeats 4000000 in
set_option maxRecDepth 100000 in
theorem w_X9_kind_0 {N : Nat} {K len : Nat → Nat} {z : Nat} {p : Program} {e : Env} {s : State} {m : MethodId} {args : Array Value} {below : List Frame} {meth : Method} {c : Code} {σ0 : SG} {ρ0 : RG} {r : Int32} (C : Cx Y D N ad p s m args meth c cX9_kind 1 (some .int) RX9 wsL_law) {σ : SG} {ρ : RG} {H : Heap} {locs : List Loc} {ls : Array Slot} (hσ0 : σ = σ0) (hρ0 : ρ = ρ0) (hL : Lay N K len ρ) (hz : isC N K z = true) (hF : F_X9_kind N K len z σ ρ = some r) (hP : WP Y D N ad K len σ ρ H) (hS : va_S (AA N ad s.heap.size) s.heap H locs) (hl : lv_has ls 1 [(0, .ref (ad z))]) : W p l e rm_X9_kind s m args below meth c H locs 0 0 (MQ below (QW Y D N ad K len σ0 ρ0 (AA N ad s.heap.size) (some (.int r))) args s 0 0 (AA N ad s.heap.size)) (F0 m 0 ls []) := by
  have hx := C.1.1
  have hb := C.1.2.1
  unfold F_X9_kind at hF
  refine lv_bipush (v := 6) hx hb dX9_kind_0 (by decide +kernel) ?_
  obtain rfl := ret_1 hF
  subst hσ0
  subst hρ0
  exact x_iret rfl C hP hS dX9_kind_2
set_option maxHeartbeats 4000000 in
set_option maxRecDepth 100000 in
theorem c_X9_kind {N : Nat} {K len : Nat → Nat} {z : Nat} {r : Int32} {σ : SG} {ρ : RG} (hL : Lay N K len ρ) (hz : isC N K z = true) (hF : F_X9_kind N K len z σ ρ = some r) : MT l Y D N ad K len yX9_kind (Cond.code yX9_kind cX9_kind 1 (some .int) :: wsL_law) rm_X9_kind [.ref (ad z)] σ ρ (some (.int r)) σ ρ := by
  refine mt_of (cc := cX9_kind) (nL := 1) (ret := (some .int)) (by decide) (Nat.le_of_ble_eq_true rfl) ?_
  intro p e s m args below meth c ls C hnm hP hS hl
  exact w_X9_kind_0 C rfl rfl hL hz hF hP hS hl

/-! a virtual call: kind -/
def F_v_kind (N : Nat) (K len : Nat → Nat) (c : Nat) (σ : SG) (ρ : RG) : Option (Int32) :=
  if K c = 1 then F_X1_kind N K len c σ ρ else
  if K c = 2 then F_X2_kind N K len c σ ρ else
  if K c = 4 then F_X4_kind N K len c σ ρ else
  if K c = 5 then F_X5_kind N K len c σ ρ else
  if K c = 6 then F_X6_kind N K len c σ ρ else
  if K c = 7 then F_X7_kind N K len c σ ρ else
  if K c = 9 then F_X9_kind N K len c σ ρ else
  none
set_option maxHeartbeats 4000000 in
theorem v_kind {p : Program} {e : Env} {R : Room} {s : State} {m : MethodId} {args : Array Value} {below : List Frame} {meth : Method} {c : Code} {H : Heap} {locs : List Loc} {cells slots : Nat} {Q : State → Prop} {cc : ByteArray} {nL : Nat} {ret : Option FieldType} {own : String} {pc : Nat} {ls : Array Slot} {rest : List Value} {σ : SG} {ρ : RG} {idx b : Nat} {r : Int32} (C : Cx Y D N ad p s m args meth c cc nL ret own wsL_law) (hP : WP Y D N ad K len σ ρ H) (hS : va_S (AA N ad s.heap.size) s.heap H locs) (hL : Lay N K len ρ) (hc : isC N K b = true) (hF : F_v_kind N K len b σ ρ = some r) (hlink : Cond.methodLink own idx yX1_kind ∈ wsL_law) (hR : 1 ≤ R.frames ∧ 20 ≤ R.locals) (hls : ls.size = nL) (hW : (rest.map fun v => v.category).sum ≤ 8) (hf : cells ≤ R.cells ∧ slots ≤ R.slots) (hdg : decode cc pc = .ok (.invokevirtual idx, 3))
    (kk : ∀ (H1 : Heap) (locs1 : List Loc), WP Y D N ad K len σ ρ H1 → va_S (AA N ad s.heap.size) s.heap H1 locs1 → W p l e R s m args below meth c H1 locs1 cells slots Q (F0 m (pc + 3) ls (.int r :: rest))) : W p l e R s m args below meth c H locs cells slots Q (F0 m pc ls (.ref (ad b) :: rest)) := by
  unfold F_v_kind at hF
  have hr := isC_r hc
  rcases isCk_or (isC_k hc) with h | h | h | h | h | h | h
  · rw [if_pos h] at hF
    exact x_callV (ci := 1) rfl rfl C hP hS (c_X1_kind hL hc hF) hr h (cwV 0 C.1.2.2.2.2 (gdV hlink mw_434 mw_435 mw_380 mw_436) rfl rfl rfl hd_X1_kind ⟨Nat.le_trans (Nat.le_of_ble_eq_true rfl) hR.1, Nat.le_trans (Nat.le_of_ble_eq_true rfl) hR.2⟩) rfl rfl hls hW hf hdg kk
  · rw [if_neg (by rw [h]; decide : ¬ K b = 1), if_pos h] at hF
    exact x_callU (ci := 2) rfl rfl C hP hS (c_X2_kind hL hc hF) hr h (va_cwO 0 C.1.2.2.2.2 (gdO (x := yX1_kind) (owner := RX1) hlink mw_438 mw_439 mw_440 mw_441 mw_368 mw_442) rfl rfl rfl mw_436 hd_X1_kind.2 ⟨Nat.le_trans (Nat.le_of_ble_eq_true rfl) hR.1, Nat.le_trans (Nat.le_of_ble_eq_true rfl) hR.2⟩) rfl rfl hls hW hf hdg kk
  · rw [if_neg (by rw [h]; decide : ¬ K b = 1), if_neg (by rw [h]; decide : ¬ K b = 2), if_pos h] at hF
    exact x_callU (ci := 4) rfl rfl C hP hS (c_X4_kind hL hc hF) hr h (va_cwO 0 C.1.2.2.2.2 (gdO (x := yX1_kind) (owner := RX1) hlink mw_438 mw_439 mw_443 mw_444 mw_374 mw_445) rfl rfl rfl mw_436 hd_X1_kind.2 ⟨Nat.le_trans (Nat.le_of_ble_eq_true rfl) hR.1, Nat.le_trans (Nat.le_of_ble_eq_true rfl) hR.2⟩) rfl rfl hls hW hf hdg kk
  · rw [if_neg (by rw [h]; decide : ¬ K b = 1), if_neg (by rw [h]; decide : ¬ K b = 2), if_neg (by rw [h]; decide : ¬ K b = 4), if_pos h] at hF
    exact x_callU (ci := 5) rfl rfl C hP hS (c_X5_kind hL hc hF) hr h (va_cwO 0 C.1.2.2.2.2 (gdO (x := yX1_kind) (owner := RX1) hlink mw_438 mw_439 mw_446 mw_447 mw_371 mw_448) rfl rfl rfl mw_436 hd_X1_kind.2 ⟨Nat.le_trans (Nat.le_of_ble_eq_true rfl) hR.1, Nat.le_trans (Nat.le_of_ble_eq_true rfl) hR.2⟩) rfl rfl hls hW hf hdg kk
  · rw [if_neg (by rw [h]; decide : ¬ K b = 1), if_neg (by rw [h]; decide : ¬ K b = 2), if_neg (by rw [h]; decide : ¬ K b = 4), if_neg (by rw [h]; decide : ¬ K b = 5), if_pos h] at hF
    exact x_callU (ci := 6) rfl rfl C hP hS (c_X6_kind hL hc hF) hr h (va_cwO 0 C.1.2.2.2.2 (gdO (x := yX1_kind) (owner := RX1) hlink mw_438 mw_439 mw_449 mw_450 mw_365 mw_451) rfl rfl rfl mw_436 hd_X1_kind.2 ⟨Nat.le_trans (Nat.le_of_ble_eq_true rfl) hR.1, Nat.le_trans (Nat.le_of_ble_eq_true rfl) hR.2⟩) rfl rfl hls hW hf hdg kk
  · rw [if_neg (by rw [h]; decide : ¬ K b = 1), if_neg (by rw [h]; decide : ¬ K b = 2), if_neg (by rw [h]; decide : ¬ K b = 4), if_neg (by rw [h]; decide : ¬ K b = 5), if_neg (by rw [h]; decide : ¬ K b = 6), if_pos h] at hF
    exact x_callU (ci := 7) rfl rfl C hP hS (c_X7_kind hL hc hF) hr h (va_cwO 0 C.1.2.2.2.2 (gdO (x := yX1_kind) (owner := RX1) hlink mw_438 mw_439 mw_452 mw_453 mw_362 mw_454) rfl rfl rfl mw_436 hd_X1_kind.2 ⟨Nat.le_trans (Nat.le_of_ble_eq_true rfl) hR.1, Nat.le_trans (Nat.le_of_ble_eq_true rfl) hR.2⟩) rfl rfl hls hW hf hdg kk
  · rw [if_neg (by rw [h]; decide : ¬ K b = 1), if_neg (by rw [h]; decide : ¬ K b = 2), if_neg (by rw [h]; decide : ¬ K b = 4), if_neg (by rw [h]; decide : ¬ K b = 5), if_neg (by rw [h]; decide : ¬ K b = 6), if_neg (by rw [h]; decide : ¬ K b = 7), if_pos h] at hF
    exact x_callU (ci := 9) rfl rfl C hP hS (c_X9_kind hL hc hF) hr h (va_cwO 0 C.1.2.2.2.2 (gdO (x := yX1_kind) (owner := RX1) hlink mw_438 mw_439 mw_455 mw_456 mw_377 mw_457) rfl rfl rfl mw_436 hd_X1_kind.2 ⟨Nat.le_trans (Nat.le_of_ble_eq_true rfl) hR.1, Nat.le_trans (Nat.le_of_ble_eq_true rfl) hR.2⟩) rfl rfl hls hW hf hdg kk

/-! CutCrooked$Cutter.void prepare(CutCrooked$Loaf);  -/
theorem dX1_prepare_0 : decode cX1_prepare 0 = .ok (.return_, 1) := by decide +kernel
theorem hd_X1_prepare : yX1_prepare.cls = RX1 ∧ yX1_prepare.cls ≠ "java/lang/invoke/MethodHandle" ∧ yX1_prepare.cls ≠ "java/lang/invoke/VarHandle" ∧ (parseMethodDescriptor yX1_prepare.desc).map (fun d => d.parameters.length) = some 1 := by decide +kernel
abbrev rm_X1_prepare : Room := { frames := 0, cells := 0, slots := 0, locals := 0 }
def F_X1_prepare (N : Nat) (K len : Nat → Nat) (z : Nat) (i : Nat) (σ : SG) (ρ : RG) : Option (Unit) :=
  some ()
set_option maxHeartbeats 4000000 in
set_option maxRecDepth 100000 in
theorem w_X1_prepare_0 {N : Nat} {K len : Nat → Nat} {z : Nat} {i : Nat} {p : Program} {e : Env} {s : State} {m : MethodId} {args : Array Value} {below : List Frame} {meth : Method} {c : Code} {σ0 : SG} {ρ0 : RG} (C : Cx Y D N ad p s m args meth c cX1_prepare 2 none RX1 wsL_law) {σ : SG} {ρ : RG} {H : Heap} {locs : List Loc} {ls : Array Slot} (hσ0 : σ = σ0) (hρ0 : ρ = ρ0) (hL : Lay N K len ρ) (hz : isC N K z = true) (hi : isL N K len ρ i) (hF : F_X1_prepare N K len z i σ ρ = some ()) (hP : WP Y D N ad K len σ ρ H) (hS : va_S (AA N ad s.heap.size) s.heap H locs) (hl : lv_has ls 2 [(0, .ref (ad z)), (1, .ref (ad i))]) : W p l e rm_X1_prepare s m args below meth c H locs 0 0 (MQ below (QW Y D N ad K len σ0 ρ0 (AA N ad s.heap.size) none) args s 0 0 (AA N ad s.heap.size)) (F0 m 0 ls []) := by
  have hx := C.1.1
  have hb := C.1.2.1
  unfold F_X1_prepare at hF
  subst hσ0
  subst hρ0
  exact x_vret rfl C hP hS dX1_prepare_0
set_option maxHeartbeats 4000000 in
set_option maxRecDepth 100000 in
theorem c_X1_prepare {N : Nat} {K len : Nat → Nat} {z : Nat} {i : Nat} {σ : SG} {ρ : RG} (hL : Lay N K len ρ) (hz : isC N K z = true) (hi : isL N K len ρ i) (hF : F_X1_prepare N K len z i σ ρ = some ()) : MT l Y D N ad K len yX1_prepare (Cond.code yX1_prepare cX1_prepare 2 none :: wsL_law) rm_X1_prepare [.ref (ad z), .ref (ad i)] σ ρ none σ ρ := by
  refine mt_of (cc := cX1_prepare) (nL := 2) (ret := none) (by decide) (Nat.le_of_ble_eq_true rfl) ?_
  intro p e s m args below meth c ls C hnm hP hS hl
  exact w_X1_prepare_0 C rfl rfl hL hz hi hF hP hS hl

/-! CutCrooked$Over.void prepare(CutCrooked$Loaf);  -/
theorem dX4_prepare_0 : decode cX4_prepare 0 = .ok (.aload_n 1, 1) := by decide +kernel
theorem dX4_prepare_1 : decode cX4_prepare 1 = .ok (.aload_n 1, 1) := by decide +kernel
theorem dX4_prepare_2 : decode cX4_prepare 2 = .ok (.getfield 7, 3) := by decide +kernel
theorem dX4_prepare_5 : decode cX4_prepare 5 = .ok (.ineg, 1) := by decide +kernel
theorem dX4_prepare_6 : decode cX4_prepare 6 = .ok (.putfield 7, 3) := by decide +kernel
theorem dX4_prepare_9 : decode cX4_prepare 9 = .ok (.return_, 1) := by decide +kernel
theorem hd_X4_prepare : yX4_prepare.cls = RX4 ∧ yX4_prepare.cls ≠ "java/lang/invoke/MethodHandle" ∧ yX4_prepare.cls ≠ "java/lang/invoke/VarHandle" ∧ (parseMethodDescriptor yX4_prepare.desc).map (fun d => d.parameters.length) = some 1 := by decide +kernel
abbrev rm_X4_prepare : Room := { frames := 0, cells := 0, slots := 0, locals := 0 }
def F_X4_prepare (N : Nat) (K len : Nat → Nat) (z : Nat) (i : Nat) (σ : SG) (ρ : RG) : Option (SG) :=
  nm (-(σ i 2)) fun x1 =>
  nm (s2 σ i 2 x1) fun σ3 =>
  some σ3
set_option maxHeartbeats 4000000 in
set_option maxRecDepth 100000 in
theorem w_X4_prepare_0 {N : Nat} {K len : Nat → Nat} {z : Nat} {i : Nat} {p : Program} {e : Env} {s : State} {m : MethodId} {args : Array Value} {below : List Frame} {meth : Method} {c : Code} {ρ0 : RG} {σ1 : SG} (C : Cx Y D N ad p s m args meth c cX4_prepare 2 none RX4 wsL_law) {σ : SG} {ρ : RG} {H : Heap} {locs : List Loc} {ls : Array Slot} (hρ0 : ρ = ρ0) (hL : Lay N K len ρ) (hz : isC N K z = true) (hi : isL N K len ρ i) (hF : F_X4_prepare N K len z i σ ρ = some σ1) (hP : WP Y D N ad K len σ ρ H) (hS : va_S (AA N ad s.heap.size) s.heap H locs) (hl : lv_has ls 2 [(0, .ref (ad z)), (1, .ref (ad i))]) : W p l e rm_X4_prepare s m args below meth c H locs 0 0 (MQ below (QW Y D N ad K len σ1 ρ0 (AA N ad s.heap.size) none) args s 0 0 (AA N ad s.heap.size)) (F0 m 0 ls []) := by
  have hx := C.1.1
  have hb := C.1.2.1
  unfold F_X4_prepare at hF
  refine lv_aload_n hx hb dX4_prepare_0 rfl (lv_at hl 1 rfl) ?_
  refine lv_aload_n hx hb dX4_prepare_1 rfl (lv_at hl 1 rfl) ?_
  refine get_3_2 C hP hi.1 hi.2.1 inlX3 mw_570 dX4_prepare_2 ?_
  refine lv_ineg hx hb dX4_prepare_5 ?_
  obtain ⟨x1, ex1, hF⟩ := nm_1 hF
  refine x_top ex1 ?_
  obtain ⟨σ3, eσ3, hF⟩ := nm_1 hF
  refine put_3_2 C hP hS hi.1 hi.2.1 inlX3 mw_570 eσ3 dX4_prepare_6 (fun H locs hP hS => ?_)
  obtain rfl := ret_1 hF
  subst hρ0
  exact x_vret rfl C hP hS dX4_prepare_9
set_option maxHeartbeats 4000000 in
set_option maxRecDepth 100000 in
theorem c_X4_prepare {N : Nat} {K len : Nat → Nat} {z : Nat} {i : Nat} {σ1 : SG} {σ : SG} {ρ : RG} (hL : Lay N K len ρ) (hz : isC N K z = true) (hi : isL N K len ρ i) (hF : F_X4_prepare N K len z i σ ρ = some σ1) : MT l Y D N ad K len yX4_prepare (Cond.code yX4_prepare cX4_prepare 2 none :: wsL_law) rm_X4_prepare [.ref (ad z), .ref (ad i)] σ ρ none σ1 ρ := by
  refine mt_of (cc := cX4_prepare) (nL := 2) (ret := none) (by decide) (Nat.le_of_ble_eq_true rfl) ?_
  intro p e s m args below meth c ls C hnm hP hS hl
  exact w_X4_prepare_0 C rfl hL hz hi hF hP hS hl

/-! CutCrooked$Righting.void prepare(CutCrooked$Loaf);  -/
theorem dX5_prepare_0 : decode cX5_prepare 0 = .ok (.aload_n 1, 1) := by decide +kernel
theorem dX5_prepare_1 : decode cX5_prepare 1 = .ok (.invokevirtual 7, 3) := by decide +kernel
theorem dX5_prepare_4 : decode cX5_prepare 4 = .ok (.pop, 1) := by decide +kernel
theorem dX5_prepare_5 : decode cX5_prepare 5 = .ok (.return_, 1) := by decide +kernel
theorem hd_X5_prepare : yX5_prepare.cls = RX5 ∧ yX5_prepare.cls ≠ "java/lang/invoke/MethodHandle" ∧ yX5_prepare.cls ≠ "java/lang/invoke/VarHandle" ∧ (parseMethodDescriptor yX5_prepare.desc).map (fun d => d.parameters.length) = some 1 := by decide +kernel
abbrev rm_X5_prepare : Room := { frames := 3, cells := 0, slots := 0, locals := 62 }
def F_X5_prepare (N : Nat) (K len : Nat → Nat) (z : Nat) (i : Nat) (σ : SG) (ρ : RG) : Option (SG) :=
  bn2 (F_X3_straighten i σ ρ) fun r1 σ1 =>
  some σ1
set_option maxHeartbeats 4000000 in
set_option maxRecDepth 100000 in
theorem w_X5_prepare_0 {N : Nat} {K len : Nat → Nat} {z : Nat} {i : Nat} {p : Program} {e : Env} {s : State} {m : MethodId} {args : Array Value} {below : List Frame} {meth : Method} {c : Code} {ρ0 : RG} {σ1 : SG} (C : Cx Y D N ad p s m args meth c cX5_prepare 2 none RX5 wsL_law) {σ : SG} {ρ : RG} {H : Heap} {locs : List Loc} {ls : Array Slot} (hρ0 : ρ = ρ0) (hL : Lay N K len ρ) (hz : isC N K z = true) (hi : isL N K len ρ i) (hF : F_X5_prepare N K len z i σ ρ = some σ1) (hP : WP Y D N ad K len σ ρ H) (hS : va_S (AA N ad s.heap.size) s.heap H locs) (hl : lv_has ls 2 [(0, .ref (ad z)), (1, .ref (ad i))]) : W p l e rm_X5_prepare s m args below meth c H locs 0 0 (MQ below (QW Y D N ad K len σ1 ρ0 (AA N ad s.heap.size) none) args s 0 0 (AA N ad s.heap.size)) (F0 m 0 ls []) := by
  have hx := C.1.1
  have hb := C.1.2.1
  unfold F_X5_prepare at hF
  refine lv_aload_n hx hb dX5_prepare_0 rfl (lv_at hl 1 rfl) ?_
  obtain ⟨r1, σ1, hq1, hF⟩ := bn2_1 hF
  refine x_callV (ci := 3) rfl rfl C hP hS (c_X3_straighten hL hi hq1) hi.1 hi.2.1 (cwV 0 C.1.2.2.2.2 (gdV mw_574 mw_575 mw_576 mw_31 mw_577) rfl rfl rfl hd_X3_straighten ⟨Nat.le_of_ble_eq_true rfl, Nat.le_of_ble_eq_true rfl⟩) rfl rfl hl.1 (Nat.le_of_ble_eq_true rfl) ⟨Nat.zero_le _, Nat.zero_le _⟩ dX5_prepare_1 (fun H locs hP hS => ?_)
  refine lv_pop hx hb dX5_prepare_4 rfl ?_
  obtain rfl := ret_1 hF
  subst hρ0
  exact x_vret rfl C hP hS dX5_prepare_5
set_option maxHeartbeats 4000000 in
set_option maxRecDepth 100000 in
theorem c_X5_prepare {N : Nat} {K len : Nat → Nat} {z : Nat} {i : Nat} {σ1 : SG} {σ : SG} {ρ : RG} (hL : Lay N K len ρ) (hz : isC N K z = true) (hi : isL N K len ρ i) (hF : F_X5_prepare N K len z i σ ρ = some σ1) : MT l Y D N ad K len yX5_prepare (Cond.code yX5_prepare cX5_prepare 2 none :: wsL_law) rm_X5_prepare [.ref (ad z), .ref (ad i)] σ ρ none σ1 ρ := by
  refine mt_of (cc := cX5_prepare) (nL := 2) (ret := none) (by decide) (Nat.le_of_ble_eq_true rfl) ?_
  intro p e s m args below meth c ls C hnm hP hS hl
  exact w_X5_prepare_0 C rfl hL hz hi hF hP hS hl

/-! a virtual call: prepare -/
def F_v_prepare (N : Nat) (K len : Nat → Nat) (c : Nat) (i : Nat) (σ : SG) (ρ : RG) : Option (SG) :=
  if K c = 1 then bn (F_X1_prepare N K len c i σ ρ) fun _ => some σ else
  if K c = 2 then bn (F_X1_prepare N K len c i σ ρ) fun _ => some σ else
  if K c = 4 then F_X4_prepare N K len c i σ ρ else
  if K c = 5 then F_X5_prepare N K len c i σ ρ else
  if K c = 6 then bn (F_X1_prepare N K len c i σ ρ) fun _ => some σ else
  if K c = 7 then bn (F_X1_prepare N K len c i σ ρ) fun _ => some σ else
  if K c = 9 then bn (F_X1_prepare N K len c i σ ρ) fun _ => some σ else
  none
set_option maxHeartbeats 4000000 in
theorem v_prepare {p : Program} {e : Env} {R : Room} {s : State} {m : MethodId} {args : Array Value} {below : List Frame} {meth : Method} {c : Code} {H : Heap} {locs : List Loc} {cells slots : Nat} {Q : State → Prop} {cc : ByteArray} {nL : Nat} {ret : Option FieldType} {own : String} {pc : Nat} {ls : Array Slot} {rest : List Value} {σ : SG} {ρ : RG} {idx b : Nat} {i : Nat} {σ1 : SG} (C : Cx Y D N ad p s m args meth c cc nL ret own wsL_law) (hP : WP Y D N ad K len σ ρ H) (hS : va_S (AA N ad s.heap.size) s.heap H locs) (hL : Lay N K len ρ) (hc : isC N K b = true) (hi : isL N K len ρ i) (hF : F_v_prepare N K len b i σ ρ = some σ1) (hlink : Cond.methodLink own idx yX1_prepare ∈ wsL_law) (hR : 4 ≤ R.frames ∧ 83 ≤ R.locals) (hls : ls.size = nL) (hW : (rest.map fun v => v.category).sum ≤ 8) (hf : cells ≤ R.cells ∧ slots ≤ R.slots) (hdg : decode cc pc = .ok (.invokevirtual idx, 3))
    (kk : ∀ (H1 : Heap) (locs1 : List Loc), WP Y D N ad K len σ1 ρ H1 → va_S (AA N ad s.heap.size) s.heap H1 locs1 → W p l e R s m args below meth c H1 locs1 cells slots Q (F0 m (pc + 3) ls (rest))) : W p l e R s m args below meth c H locs cells slots Q (F0 m pc ls (.ref (ad i) :: .ref (ad b) :: rest)) := by
  unfold F_v_prepare at hF
  have hr := isC_r hc
  rcases isCk_or (isC_k hc) with h | h | h | h | h | h | h
  · rw [if_pos h] at hF
    obtain ⟨u2, hq, hF⟩ := bn_1 hF
    obtain rfl := ret_1 hF
    exact x_callV (ci := 1) rfl rfl C hP hS (c_X1_prepare hL hc hi hq) hr h (cwV 1 C.1.2.2.2.2 (gdV hlink mw_560 mw_561 mw_380 mw_562) rfl rfl rfl hd_X1_prepare ⟨Nat.le_trans (Nat.le_of_ble_eq_true rfl) hR.1, Nat.le_trans (Nat.le_of_ble_eq_true rfl) hR.2⟩) rfl rfl hls hW hf hdg kk
  · rw [if_neg (by rw [h]; decide : ¬ K b = 1), if_pos h] at hF
    obtain ⟨u2, hq, hF⟩ := bn_1 hF
    obtain rfl := ret_1 hF
    exact x_callU (ci := 2) rfl rfl C hP hS (c_X1_prepare hL hc hi hq) hr h (va_cwU 1 C.1.2.2.2.2 (gdU (x := yX1_prepare) (owner := RX1) hlink mw_564 mw_565 mw_560 mw_380 mw_562) rfl rfl rfl rfl hd_X1_prepare.2 ⟨Nat.le_trans (Nat.le_of_ble_eq_true rfl) hR.1, Nat.le_trans (Nat.le_of_ble_eq_true rfl) hR.2⟩) rfl rfl hls hW hf hdg kk
  · rw [if_neg (by rw [h]; decide : ¬ K b = 1), if_neg (by rw [h]; decide : ¬ K b = 2), if_pos h] at hF
    exact x_callU (ci := 4) rfl rfl C hP hS (c_X4_prepare hL hc hi hF) hr h (va_cwO 1 C.1.2.2.2.2 (gdO (x := yX1_prepare) (owner := RX1) hlink mw_564 mw_566 mw_567 mw_568 mw_374 mw_569) rfl rfl rfl mw_562 hd_X1_prepare.2 ⟨Nat.le_trans (Nat.le_of_ble_eq_true rfl) hR.1, Nat.le_trans (Nat.le_of_ble_eq_true rfl) hR.2⟩) rfl rfl hls hW hf hdg kk
  · rw [if_neg (by rw [h]; decide : ¬ K b = 1), if_neg (by rw [h]; decide : ¬ K b = 2), if_neg (by rw [h]; decide : ¬ K b = 4), if_pos h] at hF
    exact x_callU (ci := 5) rfl rfl C hP hS (c_X5_prepare hL hc hi hF) hr h (va_cwO 1 C.1.2.2.2.2 (gdO (x := yX1_prepare) (owner := RX1) hlink mw_564 mw_566 mw_571 mw_572 mw_371 mw_573) rfl rfl rfl mw_562 hd_X1_prepare.2 ⟨Nat.le_trans (Nat.le_of_ble_eq_true rfl) hR.1, Nat.le_trans (Nat.le_of_ble_eq_true rfl) hR.2⟩) rfl rfl hls hW hf hdg kk
  · rw [if_neg (by rw [h]; decide : ¬ K b = 1), if_neg (by rw [h]; decide : ¬ K b = 2), if_neg (by rw [h]; decide : ¬ K b = 4), if_neg (by rw [h]; decide : ¬ K b = 5), if_pos h] at hF
    obtain ⟨u2, hq, hF⟩ := bn_1 hF
    obtain rfl := ret_1 hF
    exact x_callU (ci := 6) rfl rfl C hP hS (c_X1_prepare hL hc hi hq) hr h (va_cwU 1 C.1.2.2.2.2 (gdU (x := yX1_prepare) (owner := RX1) hlink mw_564 mw_582 mw_560 mw_380 mw_562) rfl rfl rfl rfl hd_X1_prepare.2 ⟨Nat.le_trans (Nat.le_of_ble_eq_true rfl) hR.1, Nat.le_trans (Nat.le_of_ble_eq_true rfl) hR.2⟩) rfl rfl hls hW hf hdg kk
  · rw [if_neg (by rw [h]; decide : ¬ K b = 1), if_neg (by rw [h]; decide : ¬ K b = 2), if_neg (by rw [h]; decide : ¬ K b = 4), if_neg (by rw [h]; decide : ¬ K b = 5), if_neg (by rw [h]; decide : ¬ K b = 6), if_pos h] at hF
    obtain ⟨u2, hq, hF⟩ := bn_1 hF
    obtain rfl := ret_1 hF
    exact x_callU (ci := 7) rfl rfl C hP hS (c_X1_prepare hL hc hi hq) hr h (va_cwU 1 C.1.2.2.2.2 (gdU (x := yX1_prepare) (owner := RX1) hlink mw_564 mw_583 mw_560 mw_380 mw_562) rfl rfl rfl rfl hd_X1_prepare.2 ⟨Nat.le_trans (Nat.le_of_ble_eq_true rfl) hR.1, Nat.le_trans (Nat.le_of_ble_eq_true rfl) hR.2⟩) rfl rfl hls hW hf hdg kk
  · rw [if_neg (by rw [h]; decide : ¬ K b = 1), if_neg (by rw [h]; decide : ¬ K b = 2), if_neg (by rw [h]; decide : ¬ K b = 4), if_neg (by rw [h]; decide : ¬ K b = 5), if_neg (by rw [h]; decide : ¬ K b = 6), if_neg (by rw [h]; decide : ¬ K b = 7), if_pos h] at hF
    obtain ⟨u2, hq, hF⟩ := bn_1 hF
    obtain rfl := ret_1 hF
    exact x_callU (ci := 9) rfl rfl C hP hS (c_X1_prepare hL hc hi hq) hr h (va_cwU 1 C.1.2.2.2.2 (gdU (x := yX1_prepare) (owner := RX1) hlink mw_564 mw_584 mw_560 mw_380 mw_562) rfl rfl rfl rfl hd_X1_prepare.2 ⟨Nat.le_trans (Nat.le_of_ble_eq_true rfl) hR.1, Nat.le_trans (Nat.le_of_ble_eq_true rfl) hR.2⟩) rfl rfl hls hW hf hdg kk

/-! CutCrooked$Cutter.int upBy(int, CutCrooked$Loaf);  -/
theorem dX1_upBy_0 : decode cX1_upBy 0 = .ok (.iload_n 1, 1) := by decide +kernel
theorem dX1_upBy_1 : decode cX1_upBy 1 = .ok (.ireturn, 1) := by decide +kernel
theorem hd_X1_upBy : yX1_upBy.cls = RX1 ∧ yX1_upBy.cls ≠ "java/lang/invoke/MethodHandle" ∧ yX1_upBy.cls ≠ "java/lang/invoke/VarHandle" ∧ (parseMethodDescriptor yX1_upBy.desc).map (fun d => d.parameters.length) = some 2 := by decide +kernel
abbrev rm_X1_upBy : Room := { frames := 0, cells := 0, slots := 0, locals := 0 }
def F_X1_upBy (N : Nat) (K len : Nat → Nat) (z : Nat) (a1 : Int32) (i : Nat) (σ : SG) (ρ : RG) : Option (Int32) :=
  some a1
set_option maxHeartbeats 4000000 in
set_option maxRecDepth 100000 in
theorem w_X1_upBy_0 {N : Nat} {K len : Nat → Nat} {z : Nat} {a1 : Int32} {i : Nat} {p : Program} {e : Env} {s : State} {m : MethodId} {args : Array Value} {below : List Frame} {meth : Method} {c : Code} {σ0 : SG} {ρ0 : RG} {r : Int32} (C : Cx Y D N ad p s m args meth c cX1_upBy 3 (some .int) RX1 wsL_law) {σ : SG} {ρ : RG} {H : Heap} {locs : List Loc} {ls : Array Slot} (hσ0 : σ = σ0) (hρ0 : ρ = ρ0) (hL : Lay N K len ρ) (hz : isC N K z = true) (hi : isL N K len ρ i) (hF : F_X1_upBy N K len z a1 i σ ρ = some r) (hP : WP Y D N ad K len σ ρ H) (hS : va_S (AA N ad s.heap.size) s.heap H locs) (hl : lv_has ls 3 [(0, .ref (ad z)), (1, .int a1), (2, .ref (ad i))]) : W p l e rm_X1_upBy s m args below meth c H locs 0 0 (MQ below (QW Y D N ad K len σ0 ρ0 (AA N ad s.heap.size) (some (.int r))) args s 0 0 (AA N ad s.heap.size)) (F0 m 0 ls []) := by
  have hx := C.1.1
  have hb := C.1.2.1
  unfold F_X1_upBy at hF
  refine lv_iload_n hx hb dX1_upBy_0 rfl (lv_at hl 1 rfl) ?_
  obtain rfl := ret_1 hF
  subst hσ0
  subst hρ0
  exact x_iret rfl C hP hS dX1_upBy_1
set_option maxHeartbeats 4000000 in
set_option maxRecDepth 100000 in
theorem c_X1_upBy {N : Nat} {K len : Nat → Nat} {z : Nat} {a1 : Int32} {i : Nat} {r : Int32} {σ : SG} {ρ : RG} (hL : Lay N K len ρ) (hz : isC N K z = true) (hi : isL N K len ρ i) (hF : F_X1_upBy N K len z a1 i σ ρ = some r) : MT l Y D N ad K len yX1_upBy (Cond.code yX1_upBy cX1_upBy 3 (some .int) :: wsL_law) rm_X1_upBy [.ref (ad z), .int a1, .ref (ad i)] σ ρ (some (.int r)) σ ρ := by
  refine mt_of (cc := cX1_upBy) (nL := 3) (ret := (some .int)) (by decide) (Nat.le_of_ble_eq_true rfl) ?_
  intro p e s m args below meth c ls C hnm hP hS hl
  exact w_X1_upBy_0 C rfl rfl hL hz hi hF hP hS hl

/-! CutCrooked$Follow.int upBy(int, CutCrooked$Loaf);  -/
theorem dX2_upBy_0 : decode cX2_upBy 0 = .ok (.iload_n 1, 1) := by decide +kernel
theorem dX2_upBy_1 : decode cX2_upBy 1 = .ok (.aload_n 2, 1) := by decide +kernel
theorem dX2_upBy_2 : decode cX2_upBy 2 = .ok (.getfield 7, 3) := by decide +kernel
theorem dX2_upBy_5 : decode cX2_upBy 5 = .ok (.iadd, 1) := by decide +kernel
theorem dX2_upBy_6 : decode cX2_upBy 6 = .ok (.ireturn, 1) := by decide +kernel
theorem hd_X2_upBy : yX2_upBy.cls = RX2 ∧ yX2_upBy.cls ≠ "java/lang/invoke/MethodHandle" ∧ yX2_upBy.cls ≠ "java/lang/invoke/VarHandle" ∧ (parseMethodDescriptor yX2_upBy.desc).map (fun d => d.parameters.length) = some 2 := by decide +kernel
abbrev rm_X2_upBy : Room := { frames := 0, cells := 0, slots := 0, locals := 0 }
def F_X2_upBy (N : Nat) (K len : Nat → Nat) (z : Nat) (a1 : Int32) (i : Nat) (σ : SG) (ρ : RG) : Option (Int32) :=
  nm (a1 + (σ i 2)) fun x1 =>
  some x1
set_option maxHeartbeats 4000000 in
set_option maxRecDepth 100000 in
theorem w_X2_upBy_0 {N : Nat} {K len : Nat → Nat} {z : Nat} {a1 : Int32} {i : Nat} {p : Program} {e : Env} {s : State} {m : MethodId} {args : Array Value} {below : List Frame} {meth : Method} {c : Code} {σ0 : SG} {ρ0 : RG} {r : Int32} (C : Cx Y D N ad p s m args meth c cX2_upBy 3 (some .int) RX2 wsL_law) {σ : SG} {ρ : RG} {H : Heap} {locs : List Loc} {ls : Array Slot} (hσ0 : σ = σ0) (hρ0 : ρ = ρ0) (hL : Lay N K len ρ) (hz : isC N K z = true) (hi : isL N K len ρ i) (hF : F_X2_upBy N K len z a1 i σ ρ = some r) (hP : WP Y D N ad K len σ ρ H) (hS : va_S (AA N ad s.heap.size) s.heap H locs) (hl : lv_has ls 3 [(0, .ref (ad z)), (1, .int a1), (2, .ref (ad i))]) : W p l e rm_X2_upBy s m args below meth c H locs 0 0 (MQ below (QW Y D N ad K len σ0 ρ0 (AA N ad s.heap.size) (some (.int r))) args s 0 0 (AA N ad s.heap.size)) (F0 m 0 ls []) := by
  have hx := C.1.1
  have hb := C.1.2.1
  unfold F_X2_upBy at hF
  refine lv_iload_n hx hb dX2_upBy_0 rfl (lv_at hl 1 rfl) ?_
  refine lv_aload_n hx hb dX2_upBy_1 rfl (lv_at hl 2 rfl) ?_
  refine get_3_2 C hP hi.1 hi.2.1 inlX3 mw_595 dX2_upBy_2 ?_
  refine lv_iadd hx hb dX2_upBy_5 ?_
  obtain ⟨x1, ex1, hF⟩ := nm_1 hF
  refine x_top ex1 ?_
  obtain rfl := ret_1 hF
  subst hσ0
  subst hρ0
  exact x_iret rfl C hP hS dX2_upBy_6
set_option maxHeartbeats 4000000 in
set_option maxRecDepth 100000 in
theorem c_X2_upBy {N : Nat} {K len : Nat → Nat} {z : Nat} {a1 : Int32} {i : Nat} {r : Int32} {σ : SG} {ρ : RG} (hL : Lay N K len ρ) (hz : isC N K z = true) (hi : isL N K len ρ i) (hF : F_X2_upBy N K len z a1 i σ ρ = some r) : MT l Y D N ad K len yX2_upBy (Cond.code yX2_upBy cX2_upBy 3 (some .int) :: wsL_law) rm_X2_upBy [.ref (ad z), .int a1, .ref (ad i)] σ ρ (some (.int r)) σ ρ := by
  refine mt_of (cc := cX2_upBy) (nL := 3) (ret := (some .int)) (by decide) (Nat.le_of_ble_eq_true rfl) ?_
  intro p e s m args below meth c ls C hnm hP hS hl
  exact w_X2_upBy_0 C rfl rfl hL hz hi hF hP hS hl

/-! CutCrooked$Slant.int upBy(int, CutCrooked$Loaf);  -/
theorem dX6_upBy_0 : decode cX6_upBy 0 = .ok (.iload_n 1, 1) := by decide +kernel
theorem dX6_upBy_1 : decode cX6_upBy 1 = .ok (.aload_n 2, 1) := by decide +kernel
theorem dX6_upBy_2 : decode cX6_upBy 2 = .ok (.getfield 7, 3) := by decide +kernel
theorem dX6_upBy_5 : decode cX6_upBy 5 = .ok (.iconst 2, 1) := by decide +kernel
theorem dX6_upBy_6 : decode cX6_upBy 6 = .ok (.idiv, 1) := by decide +kernel
theorem dX6_upBy_7 : decode cX6_upBy 7 = .ok (.iadd, 1) := by decide +kernel
theorem dX6_upBy_8 : decode cX6_upBy 8 = .ok (.ireturn, 1) := by decide +kernel
theorem hd_X6_upBy : yX6_upBy.cls = RX6 ∧ yX6_upBy.cls ≠ "java/lang/invoke/MethodHandle" ∧ yX6_upBy.cls ≠ "java/lang/invoke/VarHandle" ∧ (parseMethodDescriptor yX6_upBy.desc).map (fun d => d.parameters.length) = some 2 := by decide +kernel
abbrev rm_X6_upBy : Room := { frames := 0, cells := 0, slots := 0, locals := 0 }
def F_X6_upBy (N : Nat) (K len : Nat → Nat) (z : Nat) (a1 : Int32) (i : Nat) (σ : SG) (ρ : RG) : Option (Int32) :=
  nm ((σ i 2) / (2 : Int32)) fun x1 =>
  nm (a1 + x1) fun x2 =>
  some x2
set_option maxHeartbeats 4000000 in
set_option maxRecDepth 100000 in
theorem w_X6_upBy_0 {N : Nat} {K len : Nat → Nat} {z : Nat} {a1 : Int32} {i : Nat} {p : Program} {e : Env} {s : State} {m : MethodId} {args : Array Value} {below : List Frame} {meth : Method} {c : Code} {σ0 : SG} {ρ0 : RG} {r : Int32} (C : Cx Y D N ad p s m args meth c cX6_upBy 3 (some .int) RX6 wsL_law) {σ : SG} {ρ : RG} {H : Heap} {locs : List Loc} {ls : Array Slot} (hσ0 : σ = σ0) (hρ0 : ρ = ρ0) (hL : Lay N K len ρ) (hz : isC N K z = true) (hi : isL N K len ρ i) (hF : F_X6_upBy N K len z a1 i σ ρ = some r) (hP : WP Y D N ad K len σ ρ H) (hS : va_S (AA N ad s.heap.size) s.heap H locs) (hl : lv_has ls 3 [(0, .ref (ad z)), (1, .int a1), (2, .ref (ad i))]) : W p l e rm_X6_upBy s m args below meth c H locs 0 0 (MQ below (QW Y D N ad K len σ0 ρ0 (AA N ad s.heap.size) (some (.int r))) args s 0 0 (AA N ad s.heap.size)) (F0 m 0 ls []) := by
  have hx := C.1.1
  have hb := C.1.2.1
  unfold F_X6_upBy at hF
  refine lv_iload_n hx hb dX6_upBy_0 rfl (lv_at hl 1 rfl) ?_
  refine lv_aload_n hx hb dX6_upBy_1 rfl (lv_at hl 2 rfl) ?_
  refine get_3_2 C hP hi.1 hi.2.1 inlX3 mw_599 dX6_upBy_2 ?_
  refine lv_iconst (v := 2) hx hb dX6_upBy_5 (by decide) ?_
  refine lv_idiv hx hb dX6_upBy_6 (by decide) ?_
  obtain ⟨x1, ex1, hF⟩ := nm_1 hF
  refine x_top ex1 ?_
  refine lv_iadd hx hb dX6_upBy_7 ?_
  obtain ⟨x2, ex2, hF⟩ := nm_1 hF
  refine x_top ex2 ?_
  obtain rfl := ret_1 hF
  subst hσ0
  subst hρ0
  exact x_iret rfl C hP hS dX6_upBy_8
set_option maxHeartbeats 4000000 in
set_option maxRecDepth 100000 in
theorem c_X6_upBy {N : Nat} {K len : Nat → Nat} {z : Nat} {a1 : Int32} {i : Nat} {r : Int32} {σ : SG} {ρ : RG} (hL : Lay N K len ρ) (hz : isC N K z = true) (hi : isL N K len ρ i) (hF : F_X6_upBy N K len z a1 i σ ρ = some r) : MT l Y D N ad K len yX6_upBy (Cond.code yX6_upBy cX6_upBy 3 (some .int) :: wsL_law) rm_X6_upBy [.ref (ad z), .int a1, .ref (ad i)] σ ρ (some (.int r)) σ ρ := by
  refine mt_of (cc := cX6_upBy) (nL := 3) (ret := (some .int)) (by decide) (Nat.le_of_ble_eq_true rfl) ?_
  intro p e s m args below meth c ls C hnm hP hS hl
  exact w_X6_upBy_0 C rfl rfl hL hz hi hF hP hS hl

/-! CutCrooked$Straight.int upBy(int, CutCrooked$Loaf);  -/
theorem dX7_upBy_0 : decode cX7_upBy 0 = .ok (.iconst 0, 1) := by decide +kernel
theorem dX7_upBy_1 : decode cX7_upBy 1 = .ok (.ireturn, 1) := by decide +kernel
theorem hd_X7_upBy : yX7_upBy.cls = RX7 ∧ yX7_upBy.cls ≠ "java/lang/invoke/MethodHandle" ∧ yX7_upBy.cls ≠ "java/lang/invoke/VarHandle" ∧ (parseMethodDescriptor yX7_upBy.desc).map (fun d => d.parameters.length) = some 2 := by decide +kernel
abbrev rm_X7_upBy : Room := { frames := 0, cells := 0, slots := 0, locals := 0 }
def F_X7_upBy (N : Nat) (K len : Nat → Nat) (z : Nat) (a1 : Int32) (i : Nat) (σ : SG) (ρ : RG) : Option (Int32) :=
  some (0 : Int32)
set_option maxHeartbeats 4000000 in
set_option maxRecDepth 100000 in
theorem w_X7_upBy_0 {N : Nat} {K len : Nat → Nat} {z : Nat} {a1 : Int32} {i : Nat} {p : Program} {e : Env} {s : State} {m : MethodId} {args : Array Value} {below : List Frame} {meth : Method} {c : Code} {σ0 : SG} {ρ0 : RG} {r : Int32} (C : Cx Y D N ad p s m args meth c cX7_upBy 3 (some .int) RX7 wsL_law) {σ : SG} {ρ : RG} {H : Heap} {locs : List Loc} {ls : Array Slot} (hσ0 : σ = σ0) (hρ0 : ρ = ρ0) (hL : Lay N K len ρ) (hz : isC N K z = true) (hi : isL N K len ρ i) (hF : F_X7_upBy N K len z a1 i σ ρ = some r) (hP : WP Y D N ad K len σ ρ H) (hS : va_S (AA N ad s.heap.size) s.heap H locs) (hl : lv_has ls 3 [(0, .ref (ad z)), (1, .int a1), (2, .ref (ad i))]) : W p l e rm_X7_upBy s m args below meth c H locs 0 0 (MQ below (QW Y D N ad K len σ0 ρ0 (AA N ad s.heap.size) (some (.int r))) args s 0 0 (AA N ad s.heap.size)) (F0 m 0 ls []) := by
  have hx := C.1.1
  have hb := C.1.2.1
  unfold F_X7_upBy at hF
  refine lv_iconst (v := 0) hx hb dX7_upBy_0 (by decide) ?_
  obtain rfl := ret_1 hF
  subst hσ0
  subst hρ0
  exact x_iret rfl C hP hS dX7_upBy_1
set_option maxHeartbeats 4000000 in
set_option maxRecDepth 100000 in
theorem c_X7_upBy {N : Nat} {K len : Nat → Nat} {z : Nat} {a1 : Int32} {i : Nat} {r : Int32} {σ : SG} {ρ : RG} (hL : Lay N K len ρ) (hz : isC N K z = true) (hi : isL N K len ρ i) (hF : F_X7_upBy N K len z a1 i σ ρ = some r) : MT l Y D N ad K len yX7_upBy (Cond.code yX7_upBy cX7_upBy 3 (some .int) :: wsL_law) rm_X7_upBy [.ref (ad z), .int a1, .ref (ad i)] σ ρ (some (.int r)) σ ρ := by
  refine mt_of (cc := cX7_upBy) (nL := 3) (ret := (some .int)) (by decide) (Nat.le_of_ble_eq_true rfl) ?_
  intro p e s m args below meth c ls C hnm hP hS hl
  exact w_X7_upBy_0 C rfl rfl hL hz hi hF hP hS hl

/-! CutCrooked$Told.int upBy(int, CutCrooked$Loaf);  -/
theorem dX9_upBy_0 : decode cX9_upBy 0 = .ok (.aload_n 2, 1) := by decide +kernel
theorem dX9_upBy_1 : decode cX9_upBy 1 = .ok (.getfield 15, 3) := by decide +kernel
theorem dX9_upBy_4 : decode cX9_upBy 4 = .ok (.aload_n 0, 1) := by decide +kernel
theorem dX9_upBy_5 : decode cX9_upBy 5 = .ok (.getfield 9, 3) := by decide +kernel
theorem dX9_upBy_8 : decode cX9_upBy 8 = .ok (.aload_n 2, 1) := by decide +kernel
theorem dX9_upBy_9 : decode cX9_upBy 9 = .ok (.getfield 21, 3) := by decide +kernel
theorem dX9_upBy_12 : decode cX9_upBy 12 = .ok (.iconst 4, 1) := by decide +kernel
theorem dX9_upBy_13 : decode cX9_upBy 13 = .ok (.irem, 1) := by decide +kernel
theorem dX9_upBy_14 : decode cX9_upBy 14 = .ok (.invokestatic 24, 3) := by decide +kernel
theorem dX9_upBy_17 : decode cX9_upBy 17 = .ok (.iadd, 1) := by decide +kernel
theorem dX9_upBy_18 : decode cX9_upBy 18 = .ok (.iconst 4, 1) := by decide +kernel
theorem dX9_upBy_19 : decode cX9_upBy 19 = .ok (.isub, 1) := by decide +kernel
theorem dX9_upBy_20 : decode cX9_upBy 20 = .ok (.ireturn, 1) := by decide +kernel
theorem hd_X9_upBy : yX9_upBy.cls = RX9 ∧ yX9_upBy.cls ≠ "java/lang/invoke/MethodHandle" ∧ yX9_upBy.cls ≠ "java/lang/invoke/VarHandle" ∧ (parseMethodDescriptor yX9_upBy.desc).map (fun d => d.parameters.length) = some 2 := by decide +kernel
abbrev rm_X9_upBy : Room := { frames := 1, cells := 0, slots := 0, locals := 21 }
def F_X9_upBy (N : Nat) (K len : Nat → Nat) (z : Nat) (a1 : Int32) (i : Nat) (σ : SG) (ρ : RG) : Option (Int32) :=
  gd (K z == 9) <|
  oc (ρ z 6)
   (
    none)
   (fun c2 =>
    gd (isD N K len c2) <|
    nm ((σ i 4) - (σ i 4) / (4 : Int32) * (4 : Int32)) fun x3 =>
    bn (F_X11_valueAt c2 4 x3 σ ρ) fun r4 =>
    nm ((σ i 2) + r4) fun x5 =>
    nm (x5 - (4 : Int32)) fun x6 =>
    some x6)
set_option maxHeartbeats 4000000 in
set_option maxRecDepth 100000 in
theorem w_X9_upBy_0 {N : Nat} {K len : Nat → Nat} {z : Nat} {a1 : Int32} {i : Nat} {p : Program} {e : Env} {s : State} {m : MethodId} {args : Array Value} {below : List Frame} {meth : Method} {c : Code} {σ0 : SG} {ρ0 : RG} {r : Int32} (C : Cx Y D N ad p s m args meth c cX9_upBy 3 (some .int) RX9 wsL_law) {σ : SG} {ρ : RG} {H : Heap} {locs : List Loc} {ls : Array Slot} (hσ0 : σ = σ0) (hρ0 : ρ = ρ0) (hL : Lay N K len ρ) (hz : isC N K z = true) (hi : isL N K len ρ i) (hF : F_X9_upBy N K len z a1 i σ ρ = some r) (hP : WP Y D N ad K len σ ρ H) (hS : va_S (AA N ad s.heap.size) s.heap H locs) (hl : lv_has ls 3 [(0, .ref (ad z)), (1, .int a1), (2, .ref (ad i))]) : W p l e rm_X9_upBy s m args below meth c H locs 0 0 (MQ below (QW Y D N ad K len σ0 ρ0 (AA N ad s.heap.size) (some (.int r))) args s 0 0 (AA N ad s.heap.size)) (F0 m 0 ls []) := by
  have hx := C.1.1
  have hb := C.1.2.1
  unfold F_X9_upBy at hF
  refine lv_aload_n hx hb dX9_upBy_0 rfl (lv_at hl 2 rfl) ?_
  refine get_3_2 C hP hi.1 hi.2.1 inlX3 mw_608 dX9_upBy_1 ?_
  refine lv_aload_n hx hb dX9_upBy_4 rfl (lv_at hl 0 rfl) ?_
  obtain ⟨gk1, hF⟩ := gd_1 hF
  have gk1 := beq_iff_eq.mp gk1
  refine geto_9_6 C hP (isC_r hz) gk1 inlX9 mw_412 dX9_upBy_5 ?_
  rcases ho2 : (ρ z 6) with _ | c2
  · have hF := oc_n hF ho2
    refine x_n ?_
    cases hF
  · have hF := oc_s hF ho2
    refine x_s ?_
    obtain ⟨gc2, hF⟩ := gd_1 hF
    refine lv_aload_n hx hb dX9_upBy_8 rfl (lv_at hl 2 rfl) ?_
    refine get_3_4 C hP hi.1 hi.2.1 inlX3 mw_609 dX9_upBy_9 ?_
    refine lv_iconst (v := 4) hx hb dX9_upBy_12 (by decide) ?_
    refine lv_irem hx hb dX9_upBy_13 (by decide) ?_
    obtain ⟨x3, ex3, hF⟩ := nm_1 hF
    refine x_top ex3 ?_
    obtain ⟨r4, hq4, hF⟩ := bn_1 hF
    refine x_callSN C hP hS (c_X11_valueAt hL ⟨(isD_r gc2), (isD_k gc2), (isD_n gc2)⟩ hq4) ⟨va_cnB 2 C.1.2.2.2.2 (gdI mw_558) rfl rfl rfl (x_nest (own := "CutCrooked$Told") (idx := 24) (y := yX11_valueAt) (host := "CutCrooked") C (by decide +kernel)) (C.1.2.2.2.2 _ mw_2) hd_X11_valueAt.2 ⟨Nat.le_of_ble_eq_true rfl, Nat.le_of_ble_eq_true rfl⟩, (C.1.2.2.2.2 _ mw_557), trivial⟩ rfl rfl hl.1 (Nat.le_of_ble_eq_true rfl) ⟨Nat.zero_le _, Nat.zero_le _⟩ dX9_upBy_14 (fun H locs hP hS => ?_)
    refine lv_iadd hx hb dX9_upBy_17 ?_
    obtain ⟨x5, ex5, hF⟩ := nm_1 hF
    refine x_top ex5 ?_
    refine lv_iconst (v := 4) hx hb dX9_upBy_18 (by decide) ?_
    refine lv_isub hx hb dX9_upBy_19 ?_
    obtain ⟨x6, ex6, hF⟩ := nm_1 hF
    refine x_top ex6 ?_
    obtain rfl := ret_1 hF
    subst hσ0
    subst hρ0
    exact x_iret rfl C hP hS dX9_upBy_20
set_option maxHeartbeats 4000000 in
set_option maxRecDepth 100000 in
theorem c_X9_upBy {N : Nat} {K len : Nat → Nat} {z : Nat} {a1 : Int32} {i : Nat} {r : Int32} {σ : SG} {ρ : RG} (hL : Lay N K len ρ) (hz : isC N K z = true) (hi : isL N K len ρ i) (hF : F_X9_upBy N K len z a1 i σ ρ = some r) : MT l Y D N ad K len yX9_upBy (Cond.code yX9_upBy cX9_upBy 3 (some .int) :: wsL_law) rm_X9_upBy [.ref (ad z), .int a1, .ref (ad i)] σ ρ (some (.int r)) σ ρ := by
  refine mt_of (cc := cX9_upBy) (nL := 3) (ret := (some .int)) (by decide) (Nat.le_of_ble_eq_true rfl) ?_
  intro p e s m args below meth c ls C hnm hP hS hl
  exact w_X9_upBy_0 C rfl rfl hL hz hi hF hP hS hl

/-! a virtual call: upBy -/
def F_v_upBy (N : Nat) (K len : Nat → Nat) (c : Nat) (a1 : Int32) (i : Nat) (σ : SG) (ρ : RG) : Option (Int32) :=
  if K c = 1 then F_X1_upBy N K len c a1 i σ ρ else
  if K c = 2 then F_X2_upBy N K len c a1 i σ ρ else
  if K c = 4 then F_X6_upBy N K len c a1 i σ ρ else
  if K c = 5 then F_X7_upBy N K len c a1 i σ ρ else
  if K c = 6 then F_X6_upBy N K len c a1 i σ ρ else
  if K c = 7 then F_X7_upBy N K len c a1 i σ ρ else
  if K c = 9 then F_X9_upBy N K len c a1 i σ ρ else
  none
set_option maxHeartbeats 4000000 in
theorem v_upBy {p : Program} {e : Env} {R : Room} {s : State} {m : MethodId} {args : Array Value} {below : List Frame} {meth : Method} {c : Code} {H : Heap} {locs : List Loc} {cells slots : Nat} {Q : State → Prop} {cc : ByteArray} {nL : Nat} {ret : Option FieldType} {own : String} {pc : Nat} {ls : Array Slot} {rest : List Value} {σ : SG} {ρ : RG} {idx b : Nat} {a1 : Int32} {i : Nat} {r : Int32} (C : Cx Y D N ad p s m args meth c cc nL ret own wsL_law) (hP : WP Y D N ad K len σ ρ H) (hS : va_S (AA N ad s.heap.size) s.heap H locs) (hL : Lay N K len ρ) (hc : isC N K b = true) (hi : isL N K len ρ i) (hF : F_v_upBy N K len b a1 i σ ρ = some r) (hlink : Cond.methodLink own idx yX1_upBy ∈ wsL_law) (hR : 2 ≤ R.frames ∧ 43 ≤ R.locals) (hls : ls.size = nL) (hW : (rest.map fun v => v.category).sum ≤ 8) (hf : cells ≤ R.cells ∧ slots ≤ R.slots) (hdg : decode cc pc = .ok (.invokevirtual idx, 3))
    (kk : ∀ (H1 : Heap) (locs1 : List Loc), WP Y D N ad K len σ ρ H1 → va_S (AA N ad s.heap.size) s.heap H1 locs1 → W p l e R s m args below meth c H1 locs1 cells slots Q (F0 m (pc + 3) ls (.int r :: rest))) : W p l e R s m args below meth c H locs cells slots Q (F0 m pc ls (.ref (ad i) :: .int a1 :: .ref (ad b) :: rest)) := by
  unfold F_v_upBy at hF
  have hr := isC_r hc
  rcases isCk_or (isC_k hc) with h | h | h | h | h | h | h
  · rw [if_pos h] at hF
    exact x_callV (ci := 1) rfl rfl C hP hS (c_X1_upBy hL hc hi hF) hr h (cwV 2 C.1.2.2.2.2 (gdV hlink mw_586 mw_587 mw_380 mw_588) rfl rfl rfl hd_X1_upBy ⟨Nat.le_trans (Nat.le_of_ble_eq_true rfl) hR.1, Nat.le_trans (Nat.le_of_ble_eq_true rfl) hR.2⟩) rfl rfl hls hW hf hdg kk
  · rw [if_neg (by rw [h]; decide : ¬ K b = 1), if_pos h] at hF
    exact x_callU (ci := 2) rfl rfl C hP hS (c_X2_upBy hL hc hi hF) hr h (va_cwO 2 C.1.2.2.2.2 (gdO (x := yX1_upBy) (owner := RX1) hlink mw_590 mw_591 mw_592 mw_593 mw_368 mw_594) rfl rfl rfl mw_588 hd_X1_upBy.2 ⟨Nat.le_trans (Nat.le_of_ble_eq_true rfl) hR.1, Nat.le_trans (Nat.le_of_ble_eq_true rfl) hR.2⟩) rfl rfl hls hW hf hdg kk
  · rw [if_neg (by rw [h]; decide : ¬ K b = 1), if_neg (by rw [h]; decide : ¬ K b = 2), if_pos h] at hF
    exact x_callU (ci := 4) rfl rfl C hP hS (c_X6_upBy hL hc hi hF) hr h (va_cwO 2 C.1.2.2.2.2 (gdO (x := yX1_upBy) (owner := RX1) hlink mw_590 mw_591 mw_596 mw_597 mw_365 mw_598) rfl rfl rfl mw_588 hd_X1_upBy.2 ⟨Nat.le_trans (Nat.le_of_ble_eq_true rfl) hR.1, Nat.le_trans (Nat.le_of_ble_eq_true rfl) hR.2⟩) rfl rfl hls hW hf hdg kk
  · rw [if_neg (by rw [h]; decide : ¬ K b = 1), if_neg (by rw [h]; decide : ¬ K b = 2), if_neg (by rw [h]; decide : ¬ K b = 4), if_pos h] at hF
    exact x_callU (ci := 5) rfl rfl C hP hS (c_X7_upBy hL hc hi hF) hr h (va_cwO 2 C.1.2.2.2.2 (gdO (x := yX1_upBy) (owner := RX1) hlink mw_590 mw_591 mw_600 mw_601 mw_362 mw_602) rfl rfl rfl mw_588 hd_X1_upBy.2 ⟨Nat.le_trans (Nat.le_of_ble_eq_true rfl) hR.1, Nat.le_trans (Nat.le_of_ble_eq_true rfl) hR.2⟩) rfl rfl hls hW hf hdg kk
  · rw [if_neg (by rw [h]; decide : ¬ K b = 1), if_neg (by rw [h]; decide : ¬ K b = 2), if_neg (by rw [h]; decide : ¬ K b = 4), if_neg (by rw [h]; decide : ¬ K b = 5), if_pos h] at hF
    exact x_callU (ci := 6) rfl rfl C hP hS (c_X6_upBy hL hc hi hF) hr h (va_cwO 2 C.1.2.2.2.2 (gdO (x := yX1_upBy) (owner := RX1) hlink mw_590 mw_591 mw_603 mw_597 mw_365 mw_598) rfl rfl rfl mw_588 hd_X1_upBy.2 ⟨Nat.le_trans (Nat.le_of_ble_eq_true rfl) hR.1, Nat.le_trans (Nat.le_of_ble_eq_true rfl) hR.2⟩) rfl rfl hls hW hf hdg kk
  · rw [if_neg (by rw [h]; decide : ¬ K b = 1), if_neg (by rw [h]; decide : ¬ K b = 2), if_neg (by rw [h]; decide : ¬ K b = 4), if_neg (by rw [h]; decide : ¬ K b = 5), if_neg (by rw [h]; decide : ¬ K b = 6), if_pos h] at hF
    exact x_callU (ci := 7) rfl rfl C hP hS (c_X7_upBy hL hc hi hF) hr h (va_cwO 2 C.1.2.2.2.2 (gdO (x := yX1_upBy) (owner := RX1) hlink mw_590 mw_591 mw_604 mw_601 mw_362 mw_602) rfl rfl rfl mw_588 hd_X1_upBy.2 ⟨Nat.le_trans (Nat.le_of_ble_eq_true rfl) hR.1, Nat.le_trans (Nat.le_of_ble_eq_true rfl) hR.2⟩) rfl rfl hls hW hf hdg kk
  · rw [if_neg (by rw [h]; decide : ¬ K b = 1), if_neg (by rw [h]; decide : ¬ K b = 2), if_neg (by rw [h]; decide : ¬ K b = 4), if_neg (by rw [h]; decide : ¬ K b = 5), if_neg (by rw [h]; decide : ¬ K b = 6), if_neg (by rw [h]; decide : ¬ K b = 7), if_pos h] at hF
    exact x_callU (ci := 9) rfl rfl C hP hS (c_X9_upBy hL hc hi hF) hr h (va_cwO 2 C.1.2.2.2.2 (gdO (x := yX1_upBy) (owner := RX1) hlink mw_590 mw_591 mw_605 mw_606 mw_377 mw_607) rfl rfl rfl mw_588 hd_X1_upBy.2 ⟨Nat.le_trans (Nat.le_of_ble_eq_true rfl) hR.1, Nat.le_trans (Nat.le_of_ble_eq_true rfl) hR.2⟩) rfl rfl hls hW hf hdg kk

/-! CutCrooked$Cutter.int sideBy(int, CutCrooked$Loaf);  -/
theorem dX1_sideBy_0 : decode cX1_sideBy 0 = .ok (.iload_n 1, 1) := by decide +kernel
theorem dX1_sideBy_1 : decode cX1_sideBy 1 = .ok (.ireturn, 1) := by decide +kernel
theorem hd_X1_sideBy : yX1_sideBy.cls = RX1 ∧ yX1_sideBy.cls ≠ "java/lang/invoke/MethodHandle" ∧ yX1_sideBy.cls ≠ "java/lang/invoke/VarHandle" ∧ (parseMethodDescriptor yX1_sideBy.desc).map (fun d => d.parameters.length) = some 2 := by decide +kernel
abbrev rm_X1_sideBy : Room := { frames := 0, cells := 0, slots := 0, locals := 0 }
def F_X1_sideBy (N : Nat) (K len : Nat → Nat) (z : Nat) (a1 : Int32) (i : Nat) (σ : SG) (ρ : RG) : Option (Int32) :=
  some a1
set_option maxHeartbeats 4000000 in
set_option maxRecDepth 100000 in
theorem w_X1_sideBy_0 {N : Nat} {K len : Nat → Nat} {z : Nat} {a1 : Int32} {i : Nat} {p : Program} {e : Env} {s : State} {m : MethodId} {args : Array Value} {below : List Frame} {meth : Method} {c : Code} {σ0 : SG} {ρ0 : RG} {r : Int32} (C : Cx Y D N ad p s m args meth c cX1_sideBy 3 (some .int) RX1 wsL_law) {σ : SG} {ρ : RG} {H : Heap} {locs : List Loc} {ls : Array Slot} (hσ0 : σ = σ0) (hρ0 : ρ = ρ0) (hL : Lay N K len ρ) (hz : isC N K z = true) (hi : isL N K len ρ i) (hF : F_X1_sideBy N K len z a1 i σ ρ = some r) (hP : WP Y D N ad K len σ ρ H) (hS : va_S (AA N ad s.heap.size) s.heap H locs) (hl : lv_has ls 3 [(0, .ref (ad z)), (1, .int a1), (2, .ref (ad i))]) : W p l e rm_X1_sideBy s m args below meth c H locs 0 0 (MQ below (QW Y D N ad K len σ0 ρ0 (AA N ad s.heap.size) (some (.int r))) args s 0 0 (AA N ad s.heap.size)) (F0 m 0 ls []) := by
  have hx := C.1.1
  have hb := C.1.2.1
  unfold F_X1_sideBy at hF
  refine lv_iload_n hx hb dX1_sideBy_0 rfl (lv_at hl 1 rfl) ?_
  obtain rfl := ret_1 hF
  subst hσ0
  subst hρ0
  exact x_iret rfl C hP hS dX1_sideBy_1
set_option maxHeartbeats 4000000 in
set_option maxRecDepth 100000 in
theorem c_X1_sideBy {N : Nat} {K len : Nat → Nat} {z : Nat} {a1 : Int32} {i : Nat} {r : Int32} {σ : SG} {ρ : RG} (hL : Lay N K len ρ) (hz : isC N K z = true) (hi : isL N K len ρ i) (hF : F_X1_sideBy N K len z a1 i σ ρ = some r) : MT l Y D N ad K len yX1_sideBy (Cond.code yX1_sideBy cX1_sideBy 3 (some .int) :: wsL_law) rm_X1_sideBy [.ref (ad z), .int a1, .ref (ad i)] σ ρ (some (.int r)) σ ρ := by
  refine mt_of (cc := cX1_sideBy) (nL := 3) (ret := (some .int)) (by decide) (Nat.le_of_ble_eq_true rfl) ?_
  intro p e s m args below meth c ls C hnm hP hS hl
  exact w_X1_sideBy_0 C rfl rfl hL hz hi hF hP hS hl

/-! CutCrooked$Follow.int sideBy(int, CutCrooked$Loaf);  -/
theorem dX2_sideBy_0 : decode cX2_sideBy 0 = .ok (.iload_n 1, 1) := by decide +kernel
theorem dX2_sideBy_1 : decode cX2_sideBy 1 = .ok (.aload_n 2, 1) := by decide +kernel
theorem dX2_sideBy_2 : decode cX2_sideBy 2 = .ok (.getfield 13, 3) := by decide +kernel
theorem dX2_sideBy_5 : decode cX2_sideBy 5 = .ok (.iadd, 1) := by decide +kernel
theorem dX2_sideBy_6 : decode cX2_sideBy 6 = .ok (.ireturn, 1) := by decide +kernel
theorem hd_X2_sideBy : yX2_sideBy.cls = RX2 ∧ yX2_sideBy.cls ≠ "java/lang/invoke/MethodHandle" ∧ yX2_sideBy.cls ≠ "java/lang/invoke/VarHandle" ∧ (parseMethodDescriptor yX2_sideBy.desc).map (fun d => d.parameters.length) = some 2 := by decide +kernel
abbrev rm_X2_sideBy : Room := { frames := 0, cells := 0, slots := 0, locals := 0 }
def F_X2_sideBy (N : Nat) (K len : Nat → Nat) (z : Nat) (a1 : Int32) (i : Nat) (σ : SG) (ρ : RG) : Option (Int32) :=
  nm (a1 + (σ i 3)) fun x1 =>
  some x1
set_option maxHeartbeats 4000000 in
set_option maxRecDepth 100000 in
theorem w_X2_sideBy_0 {N : Nat} {K len : Nat → Nat} {z : Nat} {a1 : Int32} {i : Nat} {p : Program} {e : Env} {s : State} {m : MethodId} {args : Array Value} {below : List Frame} {meth : Method} {c : Code} {σ0 : SG} {ρ0 : RG} {r : Int32} (C : Cx Y D N ad p s m args meth c cX2_sideBy 3 (some .int) RX2 wsL_law) {σ : SG} {ρ : RG} {H : Heap} {locs : List Loc} {ls : Array Slot} (hσ0 : σ = σ0) (hρ0 : ρ = ρ0) (hL : Lay N K len ρ) (hz : isC N K z = true) (hi : isL N K len ρ i) (hF : F_X2_sideBy N K len z a1 i σ ρ = some r) (hP : WP Y D N ad K len σ ρ H) (hS : va_S (AA N ad s.heap.size) s.heap H locs) (hl : lv_has ls 3 [(0, .ref (ad z)), (1, .int a1), (2, .ref (ad i))]) : W p l e rm_X2_sideBy s m args below meth c H locs 0 0 (MQ below (QW Y D N ad K len σ0 ρ0 (AA N ad s.heap.size) (some (.int r))) args s 0 0 (AA N ad s.heap.size)) (F0 m 0 ls []) := by
  have hx := C.1.1
  have hb := C.1.2.1
  unfold F_X2_sideBy at hF
  refine lv_iload_n hx hb dX2_sideBy_0 rfl (lv_at hl 1 rfl) ?_
  refine lv_aload_n hx hb dX2_sideBy_1 rfl (lv_at hl 2 rfl) ?_
  refine get_3_3 C hP hi.1 hi.2.1 inlX3 mw_625 dX2_sideBy_2 ?_
  refine lv_iadd hx hb dX2_sideBy_5 ?_
  obtain ⟨x1, ex1, hF⟩ := nm_1 hF
  refine x_top ex1 ?_
  obtain rfl := ret_1 hF
  subst hσ0
  subst hρ0
  exact x_iret rfl C hP hS dX2_sideBy_6
set_option maxHeartbeats 4000000 in
set_option maxRecDepth 100000 in
theorem c_X2_sideBy {N : Nat} {K len : Nat → Nat} {z : Nat} {a1 : Int32} {i : Nat} {r : Int32} {σ : SG} {ρ : RG} (hL : Lay N K len ρ) (hz : isC N K z = true) (hi : isL N K len ρ i) (hF : F_X2_sideBy N K len z a1 i σ ρ = some r) : MT l Y D N ad K len yX2_sideBy (Cond.code yX2_sideBy cX2_sideBy 3 (some .int) :: wsL_law) rm_X2_sideBy [.ref (ad z), .int a1, .ref (ad i)] σ ρ (some (.int r)) σ ρ := by
  refine mt_of (cc := cX2_sideBy) (nL := 3) (ret := (some .int)) (by decide) (Nat.le_of_ble_eq_true rfl) ?_
  intro p e s m args below meth c ls C hnm hP hS hl
  exact w_X2_sideBy_0 C rfl rfl hL hz hi hF hP hS hl

/-! CutCrooked$Slant.int sideBy(int, CutCrooked$Loaf);  -/
theorem dX6_sideBy_0 : decode cX6_sideBy 0 = .ok (.iload_n 1, 1) := by decide +kernel
theorem dX6_sideBy_1 : decode cX6_sideBy 1 = .ok (.aload_n 2, 1) := by decide +kernel
theorem dX6_sideBy_2 : decode cX6_sideBy 2 = .ok (.getfield 13, 3) := by decide +kernel
theorem dX6_sideBy_5 : decode cX6_sideBy 5 = .ok (.iconst 2, 1) := by decide +kernel
theorem dX6_sideBy_6 : decode cX6_sideBy 6 = .ok (.idiv, 1) := by decide +kernel
theorem dX6_sideBy_7 : decode cX6_sideBy 7 = .ok (.iadd, 1) := by decide +kernel
theorem dX6_sideBy_8 : decode cX6_sideBy 8 = .ok (.ireturn, 1) := by decide +kernel
theorem hd_X6_sideBy : yX6_sideBy.cls = RX6 ∧ yX6_sideBy.cls ≠ "java/lang/invoke/MethodHandle" ∧ yX6_sideBy.cls ≠ "java/lang/invoke/VarHandle" ∧ (parseMethodDescriptor yX6_sideBy.desc).map (fun d => d.parameters.length) = some 2 := by decide +kernel
abbrev rm_X6_sideBy : Room := { frames := 0, cells := 0, slots := 0, locals := 0 }
def F_X6_sideBy (N : Nat) (K len : Nat → Nat) (z : Nat) (a1 : Int32) (i : Nat) (σ : SG) (ρ : RG) : Option (Int32) :=
  nm ((σ i 3) / (2 : Int32)) fun x1 =>
  nm (a1 + x1) fun x2 =>
  some x2
set_option maxHeartbeats 4000000 in
set_option maxRecDepth 100000 in
theorem w_X6_sideBy_0 {N : Nat} {K len : Nat → Nat} {z : Nat} {a1 : Int32} {i : Nat} {p : Program} {e : Env} {s : State} {m : MethodId} {args : Array Value} {below : List Frame} {meth : Method} {c : Code} {σ0 : SG} {ρ0 : RG} {r : Int32} (C : Cx Y D N ad p s m args meth c cX6_sideBy 3 (some .int) RX6 wsL_law) {σ : SG} {ρ : RG} {H : Heap} {locs : List Loc} {ls : Array Slot} (hσ0 : σ = σ0) (hρ0 : ρ = ρ0) (hL : Lay N K len ρ) (hz : isC N K z = true) (hi : isL N K len ρ i) (hF : F_X6_sideBy N K len z a1 i σ ρ = some r) (hP : WP Y D N ad K len σ ρ H) (hS : va_S (AA N ad s.heap.size) s.heap H locs) (hl : lv_has ls 3 [(0, .ref (ad z)), (1, .int a1), (2, .ref (ad i))]) : W p l e rm_X6_sideBy s m args below meth c H locs 0 0 (MQ below (QW Y D N ad K len σ0 ρ0 (AA N ad s.heap.size) (some (.int r))) args s 0 0 (AA N ad s.heap.size)) (F0 m 0 ls []) := by
  have hx := C.1.1
  have hb := C.1.2.1
  unfold F_X6_sideBy at hF
  refine lv_iload_n hx hb dX6_sideBy_0 rfl (lv_at hl 1 rfl) ?_
  refine lv_aload_n hx hb dX6_sideBy_1 rfl (lv_at hl 2 rfl) ?_
  refine get_3_3 C hP hi.1 hi.2.1 inlX3 mw_629 dX6_sideBy_2 ?_
  refine lv_iconst (v := 2) hx hb dX6_sideBy_5 (by decide) ?_
  refine lv_idiv hx hb dX6_sideBy_6 (by decide) ?_
  obtain ⟨x1, ex1, hF⟩ := nm_1 hF
  refine x_top ex1 ?_
  refine lv_iadd hx hb dX6_sideBy_7 ?_
  obtain ⟨x2, ex2, hF⟩ := nm_1 hF
  refine x_top ex2 ?_
  obtain rfl := ret_1 hF
  subst hσ0
  subst hρ0
  exact x_iret rfl C hP hS dX6_sideBy_8
set_option maxHeartbeats 4000000 in
set_option maxRecDepth 100000 in
theorem c_X6_sideBy {N : Nat} {K len : Nat → Nat} {z : Nat} {a1 : Int32} {i : Nat} {r : Int32} {σ : SG} {ρ : RG} (hL : Lay N K len ρ) (hz : isC N K z = true) (hi : isL N K len ρ i) (hF : F_X6_sideBy N K len z a1 i σ ρ = some r) : MT l Y D N ad K len yX6_sideBy (Cond.code yX6_sideBy cX6_sideBy 3 (some .int) :: wsL_law) rm_X6_sideBy [.ref (ad z), .int a1, .ref (ad i)] σ ρ (some (.int r)) σ ρ := by
  refine mt_of (cc := cX6_sideBy) (nL := 3) (ret := (some .int)) (by decide) (Nat.le_of_ble_eq_true rfl) ?_
  intro p e s m args below meth c ls C hnm hP hS hl
  exact w_X6_sideBy_0 C rfl rfl hL hz hi hF hP hS hl

/-! CutCrooked$Straight.int sideBy(int, CutCrooked$Loaf);  -/
theorem dX7_sideBy_0 : decode cX7_sideBy 0 = .ok (.iconst 0, 1) := by decide +kernel
theorem dX7_sideBy_1 : decode cX7_sideBy 1 = .ok (.ireturn, 1) := by decide +kernel
theorem hd_X7_sideBy : yX7_sideBy.cls = RX7 ∧ yX7_sideBy.cls ≠ "java/lang/invoke/MethodHandle" ∧ yX7_sideBy.cls ≠ "java/lang/invoke/VarHandle" ∧ (parseMethodDescriptor yX7_sideBy.desc).map (fun d => d.parameters.length) = some 2 := by decide +kernel
abbrev rm_X7_sideBy : Room := { frames := 0, cells := 0, slots := 0, locals := 0 }
def F_X7_sideBy (N : Nat) (K len : Nat → Nat) (z : Nat) (a1 : Int32) (i : Nat) (σ : SG) (ρ : RG) : Option (Int32) :=
  some (0 : Int32)
set_option maxHeartbeats 4000000 in
set_option maxRecDepth 100000 in
theorem w_X7_sideBy_0 {N : Nat} {K len : Nat → Nat} {z : Nat} {a1 : Int32} {i : Nat} {p : Program} {e : Env} {s : State} {m : MethodId} {args : Array Value} {below : List Frame} {meth : Method} {c : Code} {σ0 : SG} {ρ0 : RG} {r : Int32} (C : Cx Y D N ad p s m args meth c cX7_sideBy 3 (some .int) RX7 wsL_law) {σ : SG} {ρ : RG} {H : Heap} {locs : List Loc} {ls : Array Slot} (hσ0 : σ = σ0) (hρ0 : ρ = ρ0) (hL : Lay N K len ρ) (hz : isC N K z = true) (hi : isL N K len ρ i) (hF : F_X7_sideBy N K len z a1 i σ ρ = some r) (hP : WP Y D N ad K len σ ρ H) (hS : va_S (AA N ad s.heap.size) s.heap H locs) (hl : lv_has ls 3 [(0, .ref (ad z)), (1, .int a1), (2, .ref (ad i))]) : W p l e rm_X7_sideBy s m args below meth c H locs 0 0 (MQ below (QW Y D N ad K len σ0 ρ0 (AA N ad s.heap.size) (some (.int r))) args s 0 0 (AA N ad s.heap.size)) (F0 m 0 ls []) := by
  have hx := C.1.1
  have hb := C.1.2.1
  unfold F_X7_sideBy at hF
  refine lv_iconst (v := 0) hx hb dX7_sideBy_0 (by decide) ?_
  obtain rfl := ret_1 hF
  subst hσ0
  subst hρ0
  exact x_iret rfl C hP hS dX7_sideBy_1
set_option maxHeartbeats 4000000 in
set_option maxRecDepth 100000 in
theorem c_X7_sideBy {N : Nat} {K len : Nat → Nat} {z : Nat} {a1 : Int32} {i : Nat} {r : Int32} {σ : SG} {ρ : RG} (hL : Lay N K len ρ) (hz : isC N K z = true) (hi : isL N K len ρ i) (hF : F_X7_sideBy N K len z a1 i σ ρ = some r) : MT l Y D N ad K len yX7_sideBy (Cond.code yX7_sideBy cX7_sideBy 3 (some .int) :: wsL_law) rm_X7_sideBy [.ref (ad z), .int a1, .ref (ad i)] σ ρ (some (.int r)) σ ρ := by
  refine mt_of (cc := cX7_sideBy) (nL := 3) (ret := (some .int)) (by decide) (Nat.le_of_ble_eq_true rfl) ?_
  intro p e s m args below meth c ls C hnm hP hS hl
  exact w_X7_sideBy_0 C rfl rfl hL hz hi hF hP hS hl

/-! a virtual call: sideBy -/
def F_v_sideBy (N : Nat) (K len : Nat → Nat) (c : Nat) (a1 : Int32) (i : Nat) (σ : SG) (ρ : RG) : Option (Int32) :=
  if K c = 1 then F_X1_sideBy N K len c a1 i σ ρ else
  if K c = 2 then F_X2_sideBy N K len c a1 i σ ρ else
  if K c = 4 then F_X6_sideBy N K len c a1 i σ ρ else
  if K c = 5 then F_X7_sideBy N K len c a1 i σ ρ else
  if K c = 6 then F_X6_sideBy N K len c a1 i σ ρ else
  if K c = 7 then F_X7_sideBy N K len c a1 i σ ρ else
  if K c = 9 then F_X2_sideBy N K len c a1 i σ ρ else
  none
set_option maxHeartbeats 4000000 in
theorem v_sideBy {p : Program} {e : Env} {R : Room} {s : State} {m : MethodId} {args : Array Value} {below : List Frame} {meth : Method} {c : Code} {H : Heap} {locs : List Loc} {cells slots : Nat} {Q : State → Prop} {cc : ByteArray} {nL : Nat} {ret : Option FieldType} {own : String} {pc : Nat} {ls : Array Slot} {rest : List Value} {σ : SG} {ρ : RG} {idx b : Nat} {a1 : Int32} {i : Nat} {r : Int32} (C : Cx Y D N ad p s m args meth c cc nL ret own wsL_law) (hP : WP Y D N ad K len σ ρ H) (hS : va_S (AA N ad s.heap.size) s.heap H locs) (hL : Lay N K len ρ) (hc : isC N K b = true) (hi : isL N K len ρ i) (hF : F_v_sideBy N K len b a1 i σ ρ = some r) (hlink : Cond.methodLink own idx yX1_sideBy ∈ wsL_law) (hR : 1 ≤ R.frames ∧ 22 ≤ R.locals) (hls : ls.size = nL) (hW : (rest.map fun v => v.category).sum ≤ 8) (hf : cells ≤ R.cells ∧ slots ≤ R.slots) (hdg : decode cc pc = .ok (.invokevirtual idx, 3))
    (kk : ∀ (H1 : Heap) (locs1 : List Loc), WP Y D N ad K len σ ρ H1 → va_S (AA N ad s.heap.size) s.heap H1 locs1 → W p l e R s m args below meth c H1 locs1 cells slots Q (F0 m (pc + 3) ls (.int r :: rest))) : W p l e R s m args below meth c H locs cells slots Q (F0 m pc ls (.ref (ad i) :: .int a1 :: .ref (ad b) :: rest)) := by
  unfold F_v_sideBy at hF
  have hr := isC_r hc
  rcases isCk_or (isC_k hc) with h | h | h | h | h | h | h
  · rw [if_pos h] at hF
    exact x_callV (ci := 1) rfl rfl C hP hS (c_X1_sideBy hL hc hi hF) hr h (cwV 2 C.1.2.2.2.2 (gdV hlink mw_616 mw_617 mw_380 mw_618) rfl rfl rfl hd_X1_sideBy ⟨Nat.le_trans (Nat.le_of_ble_eq_true rfl) hR.1, Nat.le_trans (Nat.le_of_ble_eq_true rfl) hR.2⟩) rfl rfl hls hW hf hdg kk
  · rw [if_neg (by rw [h]; decide : ¬ K b = 1), if_pos h] at hF
    exact x_callU (ci := 2) rfl rfl C hP hS (c_X2_sideBy hL hc hi hF) hr h (va_cwO 2 C.1.2.2.2.2 (gdO (x := yX1_sideBy) (owner := RX1) hlink mw_620 mw_621 mw_622 mw_623 mw_368 mw_624) rfl rfl rfl mw_618 hd_X1_sideBy.2 ⟨Nat.le_trans (Nat.le_of_ble_eq_true rfl) hR.1, Nat.le_trans (Nat.le_of_ble_eq_true rfl) hR.2⟩) rfl rfl hls hW hf hdg kk
  · rw [if_neg (by rw [h]; decide : ¬ K b = 1), if_neg (by rw [h]; decide : ¬ K b = 2), if_pos h] at hF
    exact x_callU (ci := 4) rfl rfl C hP hS (c_X6_sideBy hL hc hi hF) hr h (va_cwO 2 C.1.2.2.2.2 (gdO (x := yX1_sideBy) (owner := RX1) hlink mw_620 mw_621 mw_626 mw_627 mw_365 mw_628) rfl rfl rfl mw_618 hd_X1_sideBy.2 ⟨Nat.le_trans (Nat.le_of_ble_eq_true rfl) hR.1, Nat.le_trans (Nat.le_of_ble_eq_true rfl) hR.2⟩) rfl rfl hls hW hf hdg kk
  · rw [if_neg (by rw [h]; decide : ¬ K b = 1), if_neg (by rw [h]; decide : ¬ K b = 2), if_neg (by rw [h]; decide : ¬ K b = 4), if_pos h] at hF
    exact x_callU (ci := 5) rfl rfl C hP hS (c_X7_sideBy hL hc hi hF) hr h (va_cwO 2 C.1.2.2.2.2 (gdO (x := yX1_sideBy) (owner := RX1) hlink mw_620 mw_621 mw_630 mw_631 mw_362 mw_632) rfl rfl rfl mw_618 hd_X1_sideBy.2 ⟨Nat.le_trans (Nat.le_of_ble_eq_true rfl) hR.1, Nat.le_trans (Nat.le_of_ble_eq_true rfl) hR.2⟩) rfl rfl hls hW hf hdg kk
  · rw [if_neg (by rw [h]; decide : ¬ K b = 1), if_neg (by rw [h]; decide : ¬ K b = 2), if_neg (by rw [h]; decide : ¬ K b = 4), if_neg (by rw [h]; decide : ¬ K b = 5), if_pos h] at hF
    exact x_callU (ci := 6) rfl rfl C hP hS (c_X6_sideBy hL hc hi hF) hr h (va_cwO 2 C.1.2.2.2.2 (gdO (x := yX1_sideBy) (owner := RX1) hlink mw_620 mw_621 mw_633 mw_627 mw_365 mw_628) rfl rfl rfl mw_618 hd_X1_sideBy.2 ⟨Nat.le_trans (Nat.le_of_ble_eq_true rfl) hR.1, Nat.le_trans (Nat.le_of_ble_eq_true rfl) hR.2⟩) rfl rfl hls hW hf hdg kk
  · rw [if_neg (by rw [h]; decide : ¬ K b = 1), if_neg (by rw [h]; decide : ¬ K b = 2), if_neg (by rw [h]; decide : ¬ K b = 4), if_neg (by rw [h]; decide : ¬ K b = 5), if_neg (by rw [h]; decide : ¬ K b = 6), if_pos h] at hF
    exact x_callU (ci := 7) rfl rfl C hP hS (c_X7_sideBy hL hc hi hF) hr h (va_cwO 2 C.1.2.2.2.2 (gdO (x := yX1_sideBy) (owner := RX1) hlink mw_620 mw_621 mw_634 mw_631 mw_362 mw_632) rfl rfl rfl mw_618 hd_X1_sideBy.2 ⟨Nat.le_trans (Nat.le_of_ble_eq_true rfl) hR.1, Nat.le_trans (Nat.le_of_ble_eq_true rfl) hR.2⟩) rfl rfl hls hW hf hdg kk
  · rw [if_neg (by rw [h]; decide : ¬ K b = 1), if_neg (by rw [h]; decide : ¬ K b = 2), if_neg (by rw [h]; decide : ¬ K b = 4), if_neg (by rw [h]; decide : ¬ K b = 5), if_neg (by rw [h]; decide : ¬ K b = 6), if_neg (by rw [h]; decide : ¬ K b = 7), if_pos h] at hF
    exact x_callU (ci := 9) rfl rfl C hP hS (c_X2_sideBy hL hc hi hF) hr h (va_cwO 2 C.1.2.2.2.2 (gdO (x := yX1_sideBy) (owner := RX1) hlink mw_620 mw_621 mw_635 mw_623 mw_368 mw_624) rfl rfl rfl mw_618 hd_X1_sideBy.2 ⟨Nat.le_trans (Nat.le_of_ble_eq_true rfl) hR.1, Nat.le_trans (Nat.le_of_ble_eq_true rfl) hR.2⟩) rfl rfl hls hW hf hdg kk

/-! CutCrooked$Cutter.int cuts(int, CutCrooked$Trace);  -/
theorem dX1_cuts_0 : decode cX1_cuts 0 = .ok (.aload_n 2, 1) := by decide +kernel
theorem dX1_cuts_1 : decode cX1_cuts 1 = .ok (.iconst 1, 1) := by decide +kernel
theorem dX1_cuts_2 : decode cX1_cuts 2 = .ok (.invokevirtual 25, 3) := by decide +kernel
theorem dX1_cuts_5 : decode cX1_cuts 5 = .ok (.iload_n 1, 1) := by decide +kernel
theorem dX1_cuts_6 : decode cX1_cuts 6 = .ok (.aload_n 0, 1) := by decide +kernel
theorem dX1_cuts_7 : decode cX1_cuts 7 = .ok (.getfield 7, 3) := by decide +kernel
theorem dX1_cuts_10 : decode cX1_cuts 10 = .ok (.iadd, 1) := by decide +kernel
theorem dX1_cuts_11 : decode cX1_cuts 11 = .ok (.ireturn, 1) := by decide +kernel
theorem hd_X1_cuts : yX1_cuts.cls = RX1 ∧ yX1_cuts.cls ≠ "java/lang/invoke/MethodHandle" ∧ yX1_cuts.cls ≠ "java/lang/invoke/VarHandle" ∧ (parseMethodDescriptor yX1_cuts.desc).map (fun d => d.parameters.length) = some 2 := by decide +kernel
abbrev rm_X1_cuts : Room := { frames := 1, cells := 0, slots := 0, locals := 21 }
def F_X1_cuts (N : Nat) (K len : Nat → Nat) (z : Nat) (a1 : Int32) (σ : SG) (ρ : RG) : Option (Int32 × SG) :=
  bn (F_X10_began (1 : Int32) σ ρ) fun σ1 =>
  nm (a1 + (σ1 z 0)) fun x2 =>
  some (x2, σ1)
set_option maxHeartbeats 4000000 in
set_option maxRecDepth 100000 in
theorem w_X1_cuts_0 {N : Nat} {K len : Nat → Nat} {z : Nat} {a1 : Int32} {p : Program} {e : Env} {s : State} {m : MethodId} {args : Array Value} {below : List Frame} {meth : Method} {c : Code} {ρ0 : RG} {r : Int32} {σ1 : SG} (C : Cx Y D N ad p s m args meth c cX1_cuts 3 (some .int) RX1 wsL_law) {σ : SG} {ρ : RG} {H : Heap} {locs : List Loc} {ls : Array Slot} (hρ0 : ρ = ρ0) (hL : Lay N K len ρ) (hz : isC N K z = true) (hF : F_X1_cuts N K len z a1 σ ρ = some (r, σ1)) (hP : WP Y D N ad K len σ ρ H) (hS : va_S (AA N ad s.heap.size) s.heap H locs) (hl : lv_has ls 3 [(0, .ref (ad z)), (1, .int a1), (2, .ref (ad 27))]) : W p l e rm_X1_cuts s m args below meth c H locs 0 0 (MQ below (QW Y D N ad K len σ1 ρ0 (AA N ad s.heap.size) (some (.int r))) args s 0 0 (AA N ad s.heap.size)) (F0 m 0 ls []) := by
  have hx := C.1.1
  have hb := C.1.2.1
  unfold F_X1_cuts at hF
  refine lv_aload_n hx hb dX1_cuts_0 rfl (lv_at hl 2 rfl) ?_
  refine lv_iconst (v := 1) hx hb dX1_cuts_1 (by decide) ?_
  obtain ⟨σ1, hq1, hF⟩ := bn_1 hF
  refine x_callV (ci := 10) rfl rfl C hP hS (c_X10_began hL hq1) (lr_27 hL) (lk_27 hL) (cwV 1 C.1.2.2.2.2 (gdV mw_1011 mw_1012 mw_1013 mw_19 mw_1014) rfl rfl rfl hd_X10_began ⟨Nat.le_of_ble_eq_true rfl, Nat.le_of_ble_eq_true rfl⟩) rfl rfl hl.1 (Nat.le_of_ble_eq_true rfl) ⟨Nat.zero_le _, Nat.zero_le _⟩ dX1_cuts_2 (fun H locs hP hS => ?_)
  refine lv_iload_n hx hb dX1_cuts_5 rfl (lv_at hl 1 rfl) ?_
  refine lv_aload_n hx hb dX1_cuts_6 rfl (lv_at hl 0 rfl) ?_
  refine get_ck_0 C hP (isC_r hz) (isC_k hz) mw_388 (Or.inl rfl) dX1_cuts_7 ?_
  refine lv_iadd hx hb dX1_cuts_10 ?_
  obtain ⟨x2, ex2, hF⟩ := nm_1 hF
  refine x_top ex2 ?_
  obtain ⟨rfl, rfl⟩ := ret_2 hF
  subst hρ0
  exact x_iret rfl C hP hS dX1_cuts_11
set_option maxHeartbeats 4000000 in
set_option maxRecDepth 100000 in
theorem c_X1_cuts {N : Nat} {K len : Nat → Nat} {z : Nat} {a1 : Int32} {r : Int32} {σ1 : SG} {σ : SG} {ρ : RG} (hL : Lay N K len ρ) (hz : isC N K z = true) (hF : F_X1_cuts N K len z a1 σ ρ = some (r, σ1)) : MT l Y D N ad K len yX1_cuts (Cond.code yX1_cuts cX1_cuts 3 (some .int) :: wsL_law) rm_X1_cuts [.ref (ad z), .int a1, .ref (ad 27)] σ ρ (some (.int r)) σ1 ρ := by
  refine mt_of (cc := cX1_cuts) (nL := 3) (ret := (some .int)) (by decide) (Nat.le_of_ble_eq_true rfl) ?_
  intro p e s m args below meth c ls C hnm hP hS hl
  exact w_X1_cuts_0 C rfl hL hz hF hP hS hl

/-! CutCrooked$Straight.int cuts(int, CutCrooked$Trace);  -/
theorem dX7_cuts_0 : decode cX7_cuts 0 = .ok (.aload_n 2, 1) := by decide +kernel
theorem dX7_cuts_1 : decode cX7_cuts 1 = .ok (.bipush 11, 2) := by decide +kernel
theorem dX7_cuts_3 : decode cX7_cuts 3 = .ok (.invokevirtual 7, 3) := by decide +kernel
theorem dX7_cuts_6 : decode cX7_cuts 6 = .ok (.aload_n 0, 1) := by decide +kernel
theorem dX7_cuts_7 : decode cX7_cuts 7 = .ok (.iload_n 1, 1) := by decide +kernel
theorem dX7_cuts_8 : decode cX7_cuts 8 = .ok (.iconst 3, 1) := by decide +kernel
theorem dX7_cuts_9 : decode cX7_cuts 9 = .ok (.imul, 1) := by decide +kernel
theorem dX7_cuts_10 : decode cX7_cuts 10 = .ok (.aload_n 2, 1) := by decide +kernel
theorem dX7_cuts_11 : decode cX7_cuts 11 = .ok (.invokespecial 13, 3) := by decide +kernel
theorem dX7_cuts_14 : decode cX7_cuts 14 = .ok (.ireturn, 1) := by decide +kernel
theorem hd_X7_cuts : yX7_cuts.cls = RX7 ∧ yX7_cuts.cls ≠ "java/lang/invoke/MethodHandle" ∧ yX7_cuts.cls ≠ "java/lang/invoke/VarHandle" ∧ (parseMethodDescriptor yX7_cuts.desc).map (fun d => d.parameters.length) = some 2 := by decide +kernel
abbrev rm_X7_cuts : Room := { frames := 2, cells := 0, slots := 0, locals := 43 }
def F_X7_cuts (N : Nat) (K len : Nat → Nat) (z : Nat) (a1 : Int32) (σ : SG) (ρ : RG) : Option (Int32 × SG) :=
  bn (F_X10_began (11 : Int32) σ ρ) fun σ1 =>
  nm (a1 * (3 : Int32)) fun x2 =>
  bn2 (F_X1_cuts N K len z x2 σ1 ρ) fun r3 σ3 =>
  some (r3, σ3)
set_option maxHeartbeats 4000000 in
set_option maxRecDepth 100000 in
theorem w_X7_cuts_0 {N : Nat} {K len : Nat → Nat} {z : Nat} {a1 : Int32} {p : Program} {e : Env} {s : State} {m : MethodId} {args : Array Value} {below : List Frame} {meth : Method} {c : Code} {ρ0 : RG} {r : Int32} {σ1 : SG} (C : Cx Y D N ad p s m args meth c cX7_cuts 3 (some .int) RX7 wsL_law) {σ : SG} {ρ : RG} {H : Heap} {locs : List Loc} {ls : Array Slot} (hρ0 : ρ = ρ0) (hL : Lay N K len ρ) (hz : isC N K z = true) (hF : F_X7_cuts N K len z a1 σ ρ = some (r, σ1)) (hP : WP Y D N ad K len σ ρ H) (hS : va_S (AA N ad s.heap.size) s.heap H locs) (hl : lv_has ls 3 [(0, .ref (ad z)), (1, .int a1), (2, .ref (ad 27))]) : W p l e rm_X7_cuts s m args below meth c H locs 0 0 (MQ below (QW Y D N ad K len σ1 ρ0 (AA N ad s.heap.size) (some (.int r))) args s 0 0 (AA N ad s.heap.size)) (F0 m 0 ls []) := by
  have hx := C.1.1
  have hb := C.1.2.1
  unfold F_X7_cuts at hF
  refine lv_aload_n hx hb dX7_cuts_0 rfl (lv_at hl 2 rfl) ?_
  refine lv_bipush (v := 11) hx hb dX7_cuts_1 (by decide +kernel) ?_
  obtain ⟨σ1, hq1, hF⟩ := bn_1 hF
  refine x_callV (ci := 10) rfl rfl C hP hS (c_X10_began hL hq1) (lr_27 hL) (lk_27 hL) (cwV 1 C.1.2.2.2.2 (gdV mw_1029 mw_1012 mw_1013 mw_19 mw_1014) rfl rfl rfl hd_X10_began ⟨Nat.le_of_ble_eq_true rfl, Nat.le_of_ble_eq_true rfl⟩) rfl rfl hl.1 (Nat.le_of_ble_eq_true rfl) ⟨Nat.zero_le _, Nat.zero_le _⟩ dX7_cuts_3 (fun H locs hP hS => ?_)
  refine lv_aload_n hx hb dX7_cuts_6 rfl (lv_at hl 0 rfl) ?_
  refine lv_iload_n hx hb dX7_cuts_7 rfl (lv_at hl 1 rfl) ?_
  refine lv_iconst (v := 3) hx hb dX7_cuts_8 (by decide) ?_
  refine lv_imul hx hb dX7_cuts_9 ?_
  obtain ⟨x2, ex2, hF⟩ := nm_1 hF
  refine x_top ex2 ?_
  refine lv_aload_n hx hb dX7_cuts_10 rfl (lv_at hl 2 rfl) ?_
  obtain ⟨r3, σ3, hq3, hF⟩ := bn2_1 hF
  refine x_callSU C hP hS (c_X1_cuts hL hz hq3) (isC_r hz) (isC_k hz) (va_cwSU 2 C.1.2.2.2.2 (gdSU mw_1030 mw_1017 mw_1031 mw_1008 mw_380 mw_1010) rfl rfl rfl ⟨by decide +kernel, hd_X1_cuts.2.2.2⟩ ⟨Nat.le_of_ble_eq_true rfl, Nat.le_of_ble_eq_true rfl⟩) rfl rfl hl.1 (Nat.le_of_ble_eq_true rfl) ⟨Nat.zero_le _, Nat.zero_le _⟩ dX7_cuts_11 (fun H locs hP hS => ?_)
  obtain ⟨rfl, rfl⟩ := ret_2 hF
  subst hρ0
  exact x_iret rfl C hP hS dX7_cuts_14
set_option maxHeartbeats 4000000 in
set_option maxRecDepth 100000 in
theorem c_X7_cuts {N : Nat} {K len : Nat → Nat} {z : Nat} {a1 : Int32} {r : Int32} {σ1 : SG} {σ : SG} {ρ : RG} (hL : Lay N K len ρ) (hz : isC N K z = true) (hF : F_X7_cuts N K len z a1 σ ρ = some (r, σ1)) : MT l Y D N ad K len yX7_cuts (Cond.code yX7_cuts cX7_cuts 3 (some .int) :: wsL_law) rm_X7_cuts [.ref (ad z), .int a1, .ref (ad 27)] σ ρ (some (.int r)) σ1 ρ := by
  refine mt_of (cc := cX7_cuts) (nL := 3) (ret := (some .int)) (by decide) (Nat.le_of_ble_eq_true rfl) ?_
  intro p e s m args below meth c ls C hnm hP hS hl
  exact w_X7_cuts_0 C rfl hL hz hF hP hS hl

/-! CutCrooked$Over.int cuts(int, CutCrooked$Trace);  -/
theorem dX4_cuts_0 : decode cX4_cuts 0 = .ok (.aload_n 2, 1) := by decide +kernel
theorem dX4_cuts_1 : decode cX4_cuts 1 = .ok (.bipush 51, 2) := by decide +kernel
theorem dX4_cuts_3 : decode cX4_cuts 3 = .ok (.invokevirtual 13, 3) := by decide +kernel
theorem dX4_cuts_6 : decode cX4_cuts 6 = .ok (.aload_n 0, 1) := by decide +kernel
theorem dX4_cuts_7 : decode cX4_cuts 7 = .ok (.iload_n 1, 1) := by decide +kernel
theorem dX4_cuts_8 : decode cX4_cuts 8 = .ok (.aload_n 2, 1) := by decide +kernel
theorem dX4_cuts_9 : decode cX4_cuts 9 = .ok (.invokespecial 19, 3) := by decide +kernel
theorem dX4_cuts_12 : decode cX4_cuts 12 = .ok (.aload_n 0, 1) := by decide +kernel
theorem dX4_cuts_13 : decode cX4_cuts 13 = .ok (.getfield 23, 3) := by decide +kernel
theorem dX4_cuts_16 : decode cX4_cuts 16 = .ok (.ixor, 1) := by decide +kernel
theorem dX4_cuts_17 : decode cX4_cuts 17 = .ok (.ireturn, 1) := by decide +kernel
theorem hd_X4_cuts : yX4_cuts.cls = RX4 ∧ yX4_cuts.cls ≠ "java/lang/invoke/MethodHandle" ∧ yX4_cuts.cls ≠ "java/lang/invoke/VarHandle" ∧ (parseMethodDescriptor yX4_cuts.desc).map (fun d => d.parameters.length) = some 2 := by decide +kernel
abbrev rm_X4_cuts : Room := { frames := 2, cells := 0, slots := 0, locals := 43 }
def F_X4_cuts (N : Nat) (K len : Nat → Nat) (z : Nat) (a1 : Int32) (σ : SG) (ρ : RG) : Option (Int32 × SG) :=
  bn (F_X10_began (51 : Int32) σ ρ) fun σ1 =>
  bn2 (F_X1_cuts N K len z a1 σ1 ρ) fun r2 σ2 =>
  nm (r2 ^^^ (σ2 z 0)) fun x3 =>
  some (x3, σ2)
set_option maxHeartbeats 4000000 in
set_option maxRecDepth 100000 in
theorem w_X4_cuts_0 {N : Nat} {K len : Nat → Nat} {z : Nat} {a1 : Int32} {p : Program} {e : Env} {s : State} {m : MethodId} {args : Array Value} {below : List Frame} {meth : Method} {c : Code} {ρ0 : RG} {r : Int32} {σ1 : SG} (C : Cx Y D N ad p s m args meth c cX4_cuts 3 (some .int) RX4 wsL_law) {σ : SG} {ρ : RG} {H : Heap} {locs : List Loc} {ls : Array Slot} (hρ0 : ρ = ρ0) (hL : Lay N K len ρ) (hz : isC N K z = true) (hF : F_X4_cuts N K len z a1 σ ρ = some (r, σ1)) (hP : WP Y D N ad K len σ ρ H) (hS : va_S (AA N ad s.heap.size) s.heap H locs) (hl : lv_has ls 3 [(0, .ref (ad z)), (1, .int a1), (2, .ref (ad 27))]) : W p l e rm_X4_cuts s m args below meth c H locs 0 0 (MQ below (QW Y D N ad K len σ1 ρ0 (AA N ad s.heap.size) (some (.int r))) args s 0 0 (AA N ad s.heap.size)) (F0 m 0 ls []) := by
  have hx := C.1.1
  have hb := C.1.2.1
  unfold F_X4_cuts at hF
  refine lv_aload_n hx hb dX4_cuts_0 rfl (lv_at hl 2 rfl) ?_
  refine lv_bipush (v := 51) hx hb dX4_cuts_1 (by decide +kernel) ?_
  obtain ⟨σ1, hq1, hF⟩ := bn_1 hF
  refine x_callV (ci := 10) rfl rfl C hP hS (c_X10_began hL hq1) (lr_27 hL) (lk_27 hL) (cwV 1 C.1.2.2.2.2 (gdV mw_1025 mw_1012 mw_1013 mw_19 mw_1014) rfl rfl rfl hd_X10_began ⟨Nat.le_of_ble_eq_true rfl, Nat.le_of_ble_eq_true rfl⟩) rfl rfl hl.1 (Nat.le_of_ble_eq_true rfl) ⟨Nat.zero_le _, Nat.zero_le _⟩ dX4_cuts_3 (fun H locs hP hS => ?_)
  refine lv_aload_n hx hb dX4_cuts_6 rfl (lv_at hl 0 rfl) ?_
  refine lv_iload_n hx hb dX4_cuts_7 rfl (lv_at hl 1 rfl) ?_
  refine lv_aload_n hx hb dX4_cuts_8 rfl (lv_at hl 2 rfl) ?_
  obtain ⟨r2, σ2, hq2, hF⟩ := bn2_1 hF
  refine x_callSI (x := ⟨"CutCrooked$Slant", "cuts", "(ILCutCrooked$Trace;)I"⟩) (n := 2) C hP hS (c_X1_cuts hL hz hq2) (isC_r hz) (isC_k hz) (C.2.2.2.2.2.2.2.2.2.2 _ (List.mem_of_getElem? (i := 0) rfl)) (C.2.2.2.2.2.2.2.2.2.2 _ (List.mem_of_getElem? (i := 1) rfl)) (C.2.2.2.2.2.2.2.2.2.2 _ (List.mem_of_getElem? (i := 2) rfl)) (C.2.2.2.2.2.2.2.2.2.2 _ (List.mem_of_getElem? (i := 3) rfl)) ⟨rfl, rfl⟩ (by decide +kernel) mw_1008 mw_380 mw_1010 (gdI mw_1010) List.mem_cons_self ⟨rfl, rfl, Nat.le_of_ble_eq_true rfl, Nat.le_of_ble_eq_true rfl⟩ (hd_len hd_X1_cuts.2.2.2) rfl rfl hl.1 (Nat.le_of_ble_eq_true rfl) ⟨Nat.zero_le _, Nat.zero_le _⟩ dX4_cuts_9 (fun H locs hP hS => ?_)
  refine lv_aload_n hx hb dX4_cuts_12 rfl (lv_at hl 0 rfl) ?_
  refine get_ck_0 C hP (isC_r hz) (isC_k hz) mw_1023 (Or.inr mw_1024) dX4_cuts_13 ?_
  refine lv_ixor hx hb dX4_cuts_16 ?_
  obtain ⟨x3, ex3, hF⟩ := nm_1 hF
  refine x_top ex3 ?_
  obtain ⟨rfl, rfl⟩ := ret_2 hF
  subst hρ0
  exact x_iret rfl C hP hS dX4_cuts_17
set_option maxHeartbeats 4000000 in
set_option maxRecDepth 100000 in
theorem c_X4_cuts {N : Nat} {K len : Nat → Nat} {z : Nat} {a1 : Int32} {r : Int32} {σ1 : SG} {σ : SG} {ρ : RG} (hL : Lay N K len ρ) (hz : isC N K z = true) (hF : F_X4_cuts N K len z a1 σ ρ = some (r, σ1)) : MT l Y D N ad K len yX4_cuts (Cond.code yX4_cuts cX4_cuts 3 (some .int) :: wsL_law) rm_X4_cuts [.ref (ad z), .int a1, .ref (ad 27)] σ ρ (some (.int r)) σ1 ρ := by
  refine mt_of (cc := cX4_cuts) (nL := 3) (ret := (some .int)) (by decide) (Nat.le_of_ble_eq_true rfl) ?_
  intro p e s m args below meth c ls C hnm hP hS hl
  exact w_X4_cuts_0 C rfl hL hz hF hP hS hl

/-! a virtual call: cuts -/
def F_v_cuts (N : Nat) (K len : Nat → Nat) (c : Nat) (a1 : Int32) (σ : SG) (ρ : RG) : Option (Int32 × SG) :=
  if K c = 1 then F_X1_cuts N K len c a1 σ ρ else
  if K c = 2 then F_X1_cuts N K len c a1 σ ρ else
  if K c = 4 then F_X4_cuts N K len c a1 σ ρ else
  if K c = 5 then F_X7_cuts N K len c a1 σ ρ else
  if K c = 6 then F_X1_cuts N K len c a1 σ ρ else
  if K c = 7 then F_X7_cuts N K len c a1 σ ρ else
  if K c = 9 then F_X1_cuts N K len c a1 σ ρ else
  none
set_option maxHeartbeats 4000000 in
theorem v_cuts {p : Program} {e : Env} {R : Room} {s : State} {m : MethodId} {args : Array Value} {below : List Frame} {meth : Method} {c : Code} {H : Heap} {locs : List Loc} {cells slots : Nat} {Q : State → Prop} {cc : ByteArray} {nL : Nat} {ret : Option FieldType} {own : String} {pc : Nat} {ls : Array Slot} {rest : List Value} {σ : SG} {ρ : RG} {idx b : Nat} {a1 : Int32} {r : Int32} {σ1 : SG} (C : Cx Y D N ad p s m args meth c cc nL ret own wsL_law) (hP : WP Y D N ad K len σ ρ H) (hS : va_S (AA N ad s.heap.size) s.heap H locs) (hL : Lay N K len ρ) (hc : isC N K b = true) (hF : F_v_cuts N K len b a1 σ ρ = some (r, σ1)) (hlink : Cond.methodLink own idx yX1_cuts ∈ wsL_law) (hR : 3 ≤ R.frames ∧ 65 ≤ R.locals) (hls : ls.size = nL) (hW : (rest.map fun v => v.category).sum ≤ 8) (hf : cells ≤ R.cells ∧ slots ≤ R.slots) (hdg : decode cc pc = .ok (.invokevirtual idx, 3))
    (kk : ∀ (H1 : Heap) (locs1 : List Loc), WP Y D N ad K len σ1 ρ H1 → va_S (AA N ad s.heap.size) s.heap H1 locs1 → W p l e R s m args below meth c H1 locs1 cells slots Q (F0 m (pc + 3) ls (.int r :: rest))) : W p l e R s m args below meth c H locs cells slots Q (F0 m pc ls (.ref (ad 27) :: .int a1 :: .ref (ad b) :: rest)) := by
  unfold F_v_cuts at hF
  have hr := isC_r hc
  rcases isCk_or (isC_k hc) with h | h | h | h | h | h | h
  · rw [if_pos h] at hF
    exact x_callV (ci := 1) rfl rfl C hP hS (c_X1_cuts hL hc hF) hr h (cwV 2 C.1.2.2.2.2 (gdV hlink mw_1008 mw_1009 mw_380 mw_1010) rfl rfl rfl hd_X1_cuts ⟨Nat.le_trans (Nat.le_of_ble_eq_true rfl) hR.1, Nat.le_trans (Nat.le_of_ble_eq_true rfl) hR.2⟩) rfl rfl hls hW hf hdg kk
  · rw [if_neg (by rw [h]; decide : ¬ K b = 1), if_pos h] at hF
    exact x_callU (ci := 2) rfl rfl C hP hS (c_X1_cuts hL hc hF) hr h (va_cwU 2 C.1.2.2.2.2 (gdU (x := yX1_cuts) (owner := RX1) hlink mw_1017 mw_1018 mw_1008 mw_380 mw_1010) rfl rfl rfl rfl hd_X1_cuts.2 ⟨Nat.le_trans (Nat.le_of_ble_eq_true rfl) hR.1, Nat.le_trans (Nat.le_of_ble_eq_true rfl) hR.2⟩) rfl rfl hls hW hf hdg kk
  · rw [if_neg (by rw [h]; decide : ¬ K b = 1), if_neg (by rw [h]; decide : ¬ K b = 2), if_pos h] at hF
    exact x_callU (ci := 4) rfl rfl C hP hS (c_X4_cuts hL hc hF) hr h (va_cwO 2 C.1.2.2.2.2 (gdO (x := yX1_cuts) (owner := RX1) hlink mw_1017 mw_1019 mw_1020 mw_1021 mw_374 mw_1022) rfl rfl rfl mw_1010 hd_X1_cuts.2 ⟨Nat.le_trans (Nat.le_of_ble_eq_true rfl) hR.1, Nat.le_trans (Nat.le_of_ble_eq_true rfl) hR.2⟩) rfl rfl hls hW hf hdg kk
  · rw [if_neg (by rw [h]; decide : ¬ K b = 1), if_neg (by rw [h]; decide : ¬ K b = 2), if_neg (by rw [h]; decide : ¬ K b = 4), if_pos h] at hF
    exact x_callU (ci := 5) rfl rfl C hP hS (c_X7_cuts hL hc hF) hr h (va_cwO 2 C.1.2.2.2.2 (gdO (x := yX1_cuts) (owner := RX1) hlink mw_1017 mw_1019 mw_1026 mw_1027 mw_362 mw_1028) rfl rfl rfl mw_1010 hd_X1_cuts.2 ⟨Nat.le_trans (Nat.le_of_ble_eq_true rfl) hR.1, Nat.le_trans (Nat.le_of_ble_eq_true rfl) hR.2⟩) rfl rfl hls hW hf hdg kk
  · rw [if_neg (by rw [h]; decide : ¬ K b = 1), if_neg (by rw [h]; decide : ¬ K b = 2), if_neg (by rw [h]; decide : ¬ K b = 4), if_neg (by rw [h]; decide : ¬ K b = 5), if_pos h] at hF
    exact x_callU (ci := 6) rfl rfl C hP hS (c_X1_cuts hL hc hF) hr h (va_cwU 2 C.1.2.2.2.2 (gdU (x := yX1_cuts) (owner := RX1) hlink mw_1017 mw_1032 mw_1008 mw_380 mw_1010) rfl rfl rfl rfl hd_X1_cuts.2 ⟨Nat.le_trans (Nat.le_of_ble_eq_true rfl) hR.1, Nat.le_trans (Nat.le_of_ble_eq_true rfl) hR.2⟩) rfl rfl hls hW hf hdg kk
  · rw [if_neg (by rw [h]; decide : ¬ K b = 1), if_neg (by rw [h]; decide : ¬ K b = 2), if_neg (by rw [h]; decide : ¬ K b = 4), if_neg (by rw [h]; decide : ¬ K b = 5), if_neg (by rw [h]; decide : ¬ K b = 6), if_pos h] at hF
    exact x_callU (ci := 7) rfl rfl C hP hS (c_X7_cuts hL hc hF) hr h (va_cwO 2 C.1.2.2.2.2 (gdO (x := yX1_cuts) (owner := RX1) hlink mw_1017 mw_1019 mw_1033 mw_1027 mw_362 mw_1028) rfl rfl rfl mw_1010 hd_X1_cuts.2 ⟨Nat.le_trans (Nat.le_of_ble_eq_true rfl) hR.1, Nat.le_trans (Nat.le_of_ble_eq_true rfl) hR.2⟩) rfl rfl hls hW hf hdg kk
  · rw [if_neg (by rw [h]; decide : ¬ K b = 1), if_neg (by rw [h]; decide : ¬ K b = 2), if_neg (by rw [h]; decide : ¬ K b = 4), if_neg (by rw [h]; decide : ¬ K b = 5), if_neg (by rw [h]; decide : ¬ K b = 6), if_neg (by rw [h]; decide : ¬ K b = 7), if_pos h] at hF
    exact x_callU (ci := 9) rfl rfl C hP hS (c_X1_cuts hL hc hF) hr h (va_cwU 2 C.1.2.2.2.2 (gdU (x := yX1_cuts) (owner := RX1) hlink mw_1017 mw_1034 mw_1008 mw_380 mw_1010) rfl rfl rfl rfl hd_X1_cuts.2 ⟨Nat.le_trans (Nat.le_of_ble_eq_true rfl) hR.1, Nat.le_trans (Nat.le_of_ble_eq_true rfl) hR.2⟩) rfl rfl hls hW hf hdg kk

/-! CutCrooked$Cutter.int eats(int, CutCrooked$Trace);  -/
theorem dX1_eats_0 : decode cX1_eats 0 = .ok (.aload_n 2, 1) := by decide +kernel
theorem dX1_eats_1 : decode cX1_eats 1 = .ok (.iconst 2, 1) := by decide +kernel
theorem dX1_eats_2 : decode cX1_eats 2 = .ok (.invokevirtual 25, 3) := by decide +kernel
theorem dX1_eats_5 : decode cX1_eats 5 = .ok (.aload_n 0, 1) := by decide +kernel
theorem dX1_eats_6 : decode cX1_eats 6 = .ok (.iload_n 1, 1) := by decide +kernel
theorem dX1_eats_7 : decode cX1_eats 7 = .ok (.aload_n 2, 1) := by decide +kernel
theorem dX1_eats_8 : decode cX1_eats 8 = .ok (.invokevirtual 31, 3) := by decide +kernel
theorem dX1_eats_11 : decode cX1_eats 11 = .ok (.aload_n 0, 1) := by decide +kernel
theorem dX1_eats_12 : decode cX1_eats 12 = .ok (.getfield 13, 3) := by decide +kernel
theorem dX1_eats_15 : decode cX1_eats 15 = .ok (.isub, 1) := by decide +kernel
theorem dX1_eats_16 : decode cX1_eats 16 = .ok (.ireturn, 1) := by decide +kernel
theorem hd_X1_eats : yX1_eats.cls = RX1 ∧ yX1_eats.cls ≠ "java/lang/invoke/MethodHandle" ∧ yX1_eats.cls ≠ "java/lang/invoke/VarHandle" ∧ (parseMethodDescriptor yX1_eats.desc).map (fun d => d.parameters.length) = some 2 := by decide +kernel
abbrev rm_X1_eats : Room := { frames := 3, cells := 0, slots := 0, locals := 65 }
def F_X1_eats (N : Nat) (K len : Nat → Nat) (z : Nat) (a1 : Int32) (σ : SG) (ρ : RG) : Option (Int32 × SG) :=
  bn (F_X10_began (2 : Int32) σ ρ) fun σ1 =>
  bn2 (F_v_cuts N K len z a1 σ1 ρ) fun r2 σ2 =>
  nm (r2 - (σ2 z 1)) fun x3 =>
  some (x3, σ2)
set_option maxHeartbeats 4000000 in
set_option maxRecDepth 100000 in
theorem w_X1_eats_0 {N : Nat} {K len : Nat → Nat} {z : Nat} {a1 : Int32} {p : Program} {e : Env} {s : State} {m : MethodId} {args : Array Value} {below : List Frame} {meth : Method} {c : Code} {ρ0 : RG} {r : Int32} {σ1 : SG} (C : Cx Y D N ad p s m args meth c cX1_eats 3 (some .int) RX1 wsL_law) {σ : SG} {ρ : RG} {H : Heap} {locs : List Loc} {ls : Array Slot} (hρ0 : ρ = ρ0) (hL : Lay N K len ρ) (hz : isC N K z = true) (hF : F_X1_eats N K len z a1 σ ρ = some (r, σ1)) (hP : WP Y D N ad K len σ ρ H) (hS : va_S (AA N ad s.heap.size) s.heap H locs) (hl : lv_has ls 3 [(0, .ref (ad z)), (1, .int a1), (2, .ref (ad 27))]) : W p l e rm_X1_eats s m args below meth c H locs 0 0 (MQ below (QW Y D N ad K len σ1 ρ0 (AA N ad s.heap.size) (some (.int r))) args s 0 0 (AA N ad s.heap.size)) (F0 m 0 ls []) := by
  have hx := C.1.1
  have hb := C.1.2.1
  unfold F_X1_eats at hF
  refine lv_aload_n hx hb dX1_eats_0 rfl (lv_at hl 2 rfl) ?_
  refine lv_iconst (v := 2) hx hb dX1_eats_1 (by decide) ?_
  obtain ⟨σ1, hq1, hF⟩ := bn_1 hF
  refine x_callV (ci := 10) rfl rfl C hP hS (c_X10_began hL hq1) (lr_27 hL) (lk_27 hL) (cwV 1 C.1.2.2.2.2 (gdV mw_1011 mw_1012 mw_1013 mw_19 mw_1014) rfl rfl rfl hd_X10_began ⟨Nat.le_of_ble_eq_true rfl, Nat.le_of_ble_eq_true rfl⟩) rfl rfl hl.1 (Nat.le_of_ble_eq_true rfl) ⟨Nat.zero_le _, Nat.zero_le _⟩ dX1_eats_2 (fun H locs hP hS => ?_)
  refine lv_aload_n hx hb dX1_eats_5 rfl (lv_at hl 0 rfl) ?_
  refine lv_iload_n hx hb dX1_eats_6 rfl (lv_at hl 1 rfl) ?_
  refine lv_aload_n hx hb dX1_eats_7 rfl (lv_at hl 2 rfl) ?_
  obtain ⟨r2, σ2, hq2, hF⟩ := bn2_1 hF
  refine v_cuts C hP hS hL hz hq2 mw_1039 ⟨Nat.le_of_ble_eq_true rfl, Nat.le_of_ble_eq_true rfl⟩ hl.1 (Nat.le_of_ble_eq_true rfl) ⟨Nat.zero_le _, Nat.zero_le _⟩ dX1_eats_8 (fun H locs hP hS => ?_)
  refine lv_aload_n hx hb dX1_eats_11 rfl (lv_at hl 0 rfl) ?_
  refine get_ck_1 C hP (isC_r hz) (isC_k hz) mw_389 (Or.inl rfl) dX1_eats_12 ?_
  refine lv_isub hx hb dX1_eats_15 ?_
  obtain ⟨x3, ex3, hF⟩ := nm_1 hF
  refine x_top ex3 ?_
  obtain ⟨rfl, rfl⟩ := ret_2 hF
  subst hρ0
  exact x_iret rfl C hP hS dX1_eats_16
set_option maxHeartbeats 4000000 in
set_option maxRecDepth 100000 in
theorem c_X1_eats {N : Nat} {K len : Nat → Nat} {z : Nat} {a1 : Int32} {r : Int32} {σ1 : SG} {σ : SG} {ρ : RG} (hL : Lay N K len ρ) (hz : isC N K z = true) (hF : F_X1_eats N K len z a1 σ ρ = some (r, σ1)) : MT l Y D N ad K len yX1_eats (Cond.code yX1_eats cX1_eats 3 (some .int) :: wsL_law) rm_X1_eats [.ref (ad z), .int a1, .ref (ad 27)] σ ρ (some (.int r)) σ1 ρ := by
  refine mt_of (cc := cX1_eats) (nL := 3) (ret := (some .int)) (by decide) (Nat.le_of_ble_eq_true rfl) ?_
  intro p e s m args below meth c ls C hnm hP hS hl
  exact w_X1_eats_0 C rfl hL hz hF hP hS hl

/-! CutCrooked$Slant.int eats(int, CutCrooked$Trace);  -/
theorem dX6_eats_0 : decode cX6_eats 0 = .ok (.aload_n 2, 1) := by decide +kernel
theorem dX6_eats_1 : decode cX6_eats 1 = .ok (.bipush 21, 2) := by decide +kernel
theorem dX6_eats_3 : decode cX6_eats 3 = .ok (.invokevirtual 16, 3) := by decide +kernel
theorem dX6_eats_6 : decode cX6_eats 6 = .ok (.aload_n 0, 1) := by decide +kernel
theorem dX6_eats_7 : decode cX6_eats 7 = .ok (.iload_n 1, 1) := by decide +kernel
theorem dX6_eats_8 : decode cX6_eats 8 = .ok (.aload_n 2, 1) := by decide +kernel
theorem dX6_eats_9 : decode cX6_eats 9 = .ok (.invokespecial 22, 3) := by decide +kernel
theorem dX6_eats_12 : decode cX6_eats 12 = .ok (.ineg, 1) := by decide +kernel
theorem dX6_eats_13 : decode cX6_eats 13 = .ok (.ireturn, 1) := by decide +kernel
theorem hd_X6_eats : yX6_eats.cls = RX6 ∧ yX6_eats.cls ≠ "java/lang/invoke/MethodHandle" ∧ yX6_eats.cls ≠ "java/lang/invoke/VarHandle" ∧ (parseMethodDescriptor yX6_eats.desc).map (fun d => d.parameters.length) = some 2 := by decide +kernel
abbrev rm_X6_eats : Room := { frames := 4, cells := 0, slots := 0, locals := 87 }
def F_X6_eats (N : Nat) (K len : Nat → Nat) (z : Nat) (a1 : Int32) (σ : SG) (ρ : RG) : Option (Int32 × SG) :=
  bn (F_X10_began (21 : Int32) σ ρ) fun σ1 =>
  bn2 (F_X1_eats N K len z a1 σ1 ρ) fun r2 σ2 =>
  nm (-r2) fun x3 =>
  some (x3, σ2)
set_option maxHeartbeats 4000000 in
set_option maxRecDepth 100000 in
theorem w_X6_eats_0 {N : Nat} {K len : Nat → Nat} {z : Nat} {a1 : Int32} {p : Program} {e : Env} {s : State} {m : MethodId} {args : Array Value} {below : List Frame} {meth : Method} {c : Code} {ρ0 : RG} {r : Int32} {σ1 : SG} (C : Cx Y D N ad p s m args meth c cX6_eats 3 (some .int) RX6 wsL_law) {σ : SG} {ρ : RG} {H : Heap} {locs : List Loc} {ls : Array Slot} (hρ0 : ρ = ρ0) (hL : Lay N K len ρ) (hz : isC N K z = true) (hF : F_X6_eats N K len z a1 σ ρ = some (r, σ1)) (hP : WP Y D N ad K len σ ρ H) (hS : va_S (AA N ad s.heap.size) s.heap H locs) (hl : lv_has ls 3 [(0, .ref (ad z)), (1, .int a1), (2, .ref (ad 27))]) : W p l e rm_X6_eats s m args below meth c H locs 0 0 (MQ below (QW Y D N ad K len σ1 ρ0 (AA N ad s.heap.size) (some (.int r))) args s 0 0 (AA N ad s.heap.size)) (F0 m 0 ls []) := by
  have hx := C.1.1
  have hb := C.1.2.1
  unfold F_X6_eats at hF
  refine lv_aload_n hx hb dX6_eats_0 rfl (lv_at hl 2 rfl) ?_
  refine lv_bipush (v := 21) hx hb dX6_eats_1 (by decide +kernel) ?_
  obtain ⟨σ1, hq1, hF⟩ := bn_1 hF
  refine x_callV (ci := 10) rfl rfl C hP hS (c_X10_began hL hq1) (lr_27 hL) (lk_27 hL) (cwV 1 C.1.2.2.2.2 (gdV mw_1048 mw_1012 mw_1013 mw_19 mw_1014) rfl rfl rfl hd_X10_began ⟨Nat.le_of_ble_eq_true rfl, Nat.le_of_ble_eq_true rfl⟩) rfl rfl hl.1 (Nat.le_of_ble_eq_true rfl) ⟨Nat.zero_le _, Nat.zero_le _⟩ dX6_eats_3 (fun H locs hP hS => ?_)
  refine lv_aload_n hx hb dX6_eats_6 rfl (lv_at hl 0 rfl) ?_
  refine lv_iload_n hx hb dX6_eats_7 rfl (lv_at hl 1 rfl) ?_
  refine lv_aload_n hx hb dX6_eats_8 rfl (lv_at hl 2 rfl) ?_
  obtain ⟨r2, σ2, hq2, hF⟩ := bn2_1 hF
  refine x_callSU C hP hS (c_X1_eats hL hz hq2) (isC_r hz) (isC_k hz) (va_cwSU 2 C.1.2.2.2.2 (gdSU mw_1049 mw_1042 mw_1050 mw_1036 mw_380 mw_1038) rfl rfl rfl ⟨by decide +kernel, hd_X1_eats.2.2.2⟩ ⟨Nat.le_of_ble_eq_true rfl, Nat.le_of_ble_eq_true rfl⟩) rfl rfl hl.1 (Nat.le_of_ble_eq_true rfl) ⟨Nat.zero_le _, Nat.zero_le _⟩ dX6_eats_9 (fun H locs hP hS => ?_)
  refine lv_ineg hx hb dX6_eats_12 ?_
  obtain ⟨x3, ex3, hF⟩ := nm_1 hF
  refine x_top ex3 ?_
  obtain ⟨rfl, rfl⟩ := ret_2 hF
  subst hρ0
  exact x_iret rfl C hP hS dX6_eats_13
set_option maxHeartbeats 4000000 in
set_option maxRecDepth 100000 in
theorem c_X6_eats {N : Nat} {K len : Nat → Nat} {z : Nat} {a1 : Int32} {r : Int32} {σ1 : SG} {σ : SG} {ρ : RG} (hL : Lay N K len ρ) (hz : isC N K z = true) (hF : F_X6_eats N K len z a1 σ ρ = some (r, σ1)) : MT l Y D N ad K len yX6_eats (Cond.code yX6_eats cX6_eats 3 (some .int) :: wsL_law) rm_X6_eats [.ref (ad z), .int a1, .ref (ad 27)] σ ρ (some (.int r)) σ1 ρ := by
  refine mt_of (cc := cX6_eats) (nL := 3) (ret := (some .int)) (by decide) (Nat.le_of_ble_eq_true rfl) ?_
  intro p e s m args below meth c ls C hnm hP hS hl
  exact w_X6_eats_0 C rfl hL hz hF hP hS hl

/-! CutCrooked$Told.int eats(int, CutCrooked$Trace);  -/
theorem dX9_eats_0 : decode cX9_eats 0 = .ok (.aload_n 2, 1) := by decide +kernel
theorem dX9_eats_1 : decode cX9_eats 1 = .ok (.bipush 61, 2) := by decide +kernel
theorem dX9_eats_3 : decode cX9_eats 3 = .ok (.invokevirtual 28, 3) := by decide +kernel
theorem dX9_eats_6 : decode cX9_eats 6 = .ok (.aload_n 0, 1) := by decide +kernel
theorem dX9_eats_7 : decode cX9_eats 7 = .ok (.iload_n 1, 1) := by decide +kernel
theorem dX9_eats_8 : decode cX9_eats 8 = .ok (.aload_n 2, 1) := by decide +kernel
theorem dX9_eats_9 : decode cX9_eats 9 = .ok (.invokespecial 34, 3) := by decide +kernel
theorem dX9_eats_12 : decode cX9_eats 12 = .ok (.aload_n 0, 1) := by decide +kernel
theorem dX9_eats_13 : decode cX9_eats 13 = .ok (.getfield 38, 3) := by decide +kernel
theorem dX9_eats_16 : decode cX9_eats 16 = .ok (.iadd, 1) := by decide +kernel
theorem dX9_eats_17 : decode cX9_eats 17 = .ok (.ireturn, 1) := by decide +kernel
theorem hd_X9_eats : yX9_eats.cls = RX9 ∧ yX9_eats.cls ≠ "java/lang/invoke/MethodHandle" ∧ yX9_eats.cls ≠ "java/lang/invoke/VarHandle" ∧ (parseMethodDescriptor yX9_eats.desc).map (fun d => d.parameters.length) = some 2 := by decide +kernel
abbrev rm_X9_eats : Room := { frames := 4, cells := 0, slots := 0, locals := 87 }
def F_X9_eats (N : Nat) (K len : Nat → Nat) (z : Nat) (a1 : Int32) (σ : SG) (ρ : RG) : Option (Int32 × SG) :=
  bn (F_X10_began (61 : Int32) σ ρ) fun σ1 =>
  bn2 (F_X1_eats N K len z a1 σ1 ρ) fun r2 σ2 =>
  nm (r2 + (σ2 z 1)) fun x3 =>
  some (x3, σ2)
set_option maxHeartbeats 4000000 in
set_option maxRecDepth 100000 in
theorem w_X9_eats_0 {N : Nat} {K len : Nat → Nat} {z : Nat} {a1 : Int32} {p : Program} {e : Env} {s : State} {m : MethodId} {args : Array Value} {below : List Frame} {meth : Method} {c : Code} {ρ0 : RG} {r : Int32} {σ1 : SG} (C : Cx Y D N ad p s m args meth c cX9_eats 3 (some .int) RX9 wsL_law) {σ : SG} {ρ : RG} {H : Heap} {locs : List Loc} {ls : Array Slot} (hρ0 : ρ = ρ0) (hL : Lay N K len ρ) (hz : isC N K z = true) (hF : F_X9_eats N K len z a1 σ ρ = some (r, σ1)) (hP : WP Y D N ad K len σ ρ H) (hS : va_S (AA N ad s.heap.size) s.heap H locs) (hl : lv_has ls 3 [(0, .ref (ad z)), (1, .int a1), (2, .ref (ad 27))]) : W p l e rm_X9_eats s m args below meth c H locs 0 0 (MQ below (QW Y D N ad K len σ1 ρ0 (AA N ad s.heap.size) (some (.int r))) args s 0 0 (AA N ad s.heap.size)) (F0 m 0 ls []) := by
  have hx := C.1.1
  have hb := C.1.2.1
  unfold F_X9_eats at hF
  refine lv_aload_n hx hb dX9_eats_0 rfl (lv_at hl 2 rfl) ?_
  refine lv_bipush (v := 61) hx hb dX9_eats_1 (by decide +kernel) ?_
  obtain ⟨σ1, hq1, hF⟩ := bn_1 hF
  refine x_callV (ci := 10) rfl rfl C hP hS (c_X10_began hL hq1) (lr_27 hL) (lk_27 hL) (cwV 1 C.1.2.2.2.2 (gdV mw_1059 mw_1012 mw_1013 mw_19 mw_1014) rfl rfl rfl hd_X10_began ⟨Nat.le_of_ble_eq_true rfl, Nat.le_of_ble_eq_true rfl⟩) rfl rfl hl.1 (Nat.le_of_ble_eq_true rfl) ⟨Nat.zero_le _, Nat.zero_le _⟩ dX9_eats_3 (fun H locs hP hS => ?_)
  refine lv_aload_n hx hb dX9_eats_6 rfl (lv_at hl 0 rfl) ?_
  refine lv_iload_n hx hb dX9_eats_7 rfl (lv_at hl 1 rfl) ?_
  refine lv_aload_n hx hb dX9_eats_8 rfl (lv_at hl 2 rfl) ?_
  obtain ⟨r2, σ2, hq2, hF⟩ := bn2_1 hF
  refine x_callSI (x := ⟨"CutCrooked$Follow", "eats", "(ILCutCrooked$Trace;)I"⟩) (n := 2) C hP hS (c_X1_eats hL hz hq2) (isC_r hz) (isC_k hz) (C.2.2.2.2.2.2.2.2.2.2 _ (List.mem_of_getElem? (i := 8) rfl)) (C.2.2.2.2.2.2.2.2.2.2 _ (List.mem_of_getElem? (i := 9) rfl)) (C.2.2.2.2.2.2.2.2.2.2 _ (List.mem_of_getElem? (i := 10) rfl)) (C.2.2.2.2.2.2.2.2.2.2 _ (List.mem_of_getElem? (i := 11) rfl)) ⟨rfl, rfl⟩ (by decide +kernel) mw_1036 mw_380 mw_1038 (gdI mw_1038) List.mem_cons_self ⟨rfl, rfl, Nat.le_of_ble_eq_true rfl, Nat.le_of_ble_eq_true rfl⟩ (hd_len hd_X1_eats.2.2.2) rfl rfl hl.1 (Nat.le_of_ble_eq_true rfl) ⟨Nat.zero_le _, Nat.zero_le _⟩ dX9_eats_9 (fun H locs hP hS => ?_)
  refine lv_aload_n hx hb dX9_eats_12 rfl (lv_at hl 0 rfl) ?_
  refine get_ck_1 C hP (isC_r hz) (isC_k hz) mw_1057 (Or.inr mw_1058) dX9_eats_13 ?_
  refine lv_iadd hx hb dX9_eats_16 ?_
  obtain ⟨x3, ex3, hF⟩ := nm_1 hF
  refine x_top ex3 ?_
  obtain ⟨rfl, rfl⟩ := ret_2 hF
  subst hρ0
  exact x_iret rfl C hP hS dX9_eats_17
set_option maxHeartbeats 4000000 in
set_option maxRecDepth 100000 in
theorem c_X9_eats {N : Nat} {K len : Nat → Nat} {z : Nat} {a1 : Int32} {r : Int32} {σ1 : SG} {σ : SG} {ρ : RG} (hL : Lay N K len ρ) (hz : isC N K z = true) (hF : F_X9_eats N K len z a1 σ ρ = some (r, σ1)) : MT l Y D N ad K len yX9_eats (Cond.code yX9_eats cX9_eats 3 (some .int) :: wsL_law) rm_X9_eats [.ref (ad z), .int a1, .ref (ad 27)] σ ρ (some (.int r)) σ1 ρ := by
  refine mt_of (cc := cX9_eats) (nL := 3) (ret := (some .int)) (by decide) (Nat.le_of_ble_eq_true rfl) ?_
  intro p e s m args below meth c ls C hnm hP hS hl
  exact w_X9_eats_0 C rfl hL hz hF hP hS hl

/-! a virtual call: eats -/
def F_v_eats (N : Nat) (K len : Nat → Nat) (c : Nat) (a1 : Int32) (σ : SG) (ρ : RG) : Option (Int32 × SG) :=
  if K c = 1 then F_X1_eats N K len c a1 σ ρ else
  if K c = 2 then F_X1_eats N K len c a1 σ ρ else
  if K c = 4 then F_X6_eats N K len c a1 σ ρ else
  if K c = 5 then F_X1_eats N K len c a1 σ ρ else
  if K c = 6 then F_X6_eats N K len c a1 σ ρ else
  if K c = 7 then F_X1_eats N K len c a1 σ ρ else
  if K c = 9 then F_X9_eats N K len c a1 σ ρ else
  none
set_option maxHeartbeats 4000000 in
theorem v_eats {p : Program} {e : Env} {R : Room} {s : State} {m : MethodId} {args : Array Value} {below : List Frame} {meth : Method} {c : Code} {H : Heap} {locs : List Loc} {cells slots : Nat} {Q : State → Prop} {cc : ByteArray} {nL : Nat} {ret : Option FieldType} {own : String} {pc : Nat} {ls : Array Slot} {rest : List Value} {σ : SG} {ρ : RG} {idx b : Nat} {a1 : Int32} {r : Int32} {σ1 : SG} (C : Cx Y D N ad p s m args meth c cc nL ret own wsL_law) (hP : WP Y D N ad K len σ ρ H) (hS : va_S (AA N ad s.heap.size) s.heap H locs) (hL : Lay N K len ρ) (hc : isC N K b = true) (hF : F_v_eats N K len b a1 σ ρ = some (r, σ1)) (hlink : Cond.methodLink own idx yX1_eats ∈ wsL_law) (hR : 5 ≤ R.frames ∧ 109 ≤ R.locals) (hls : ls.size = nL) (hW : (rest.map fun v => v.category).sum ≤ 8) (hf : cells ≤ R.cells ∧ slots ≤ R.slots) (hdg : decode cc pc = .ok (.invokevirtual idx, 3))
    (kk : ∀ (H1 : Heap) (locs1 : List Loc), WP Y D N ad K len σ1 ρ H1 → va_S (AA N ad s.heap.size) s.heap H1 locs1 → W p l e R s m args below meth c H1 locs1 cells slots Q (F0 m (pc + 3) ls (.int r :: rest))) : W p l e R s m args below meth c H locs cells slots Q (F0 m pc ls (.ref (ad 27) :: .int a1 :: .ref (ad b) :: rest)) := by
  unfold F_v_eats at hF
  have hr := isC_r hc
  rcases isCk_or (isC_k hc) with h | h | h | h | h | h | h
  · rw [if_pos h] at hF
    exact x_callV (ci := 1) rfl rfl C hP hS (c_X1_eats hL hc hF) hr h (cwV 2 C.1.2.2.2.2 (gdV hlink mw_1036 mw_1037 mw_380 mw_1038) rfl rfl rfl hd_X1_eats ⟨Nat.le_trans (Nat.le_of_ble_eq_true rfl) hR.1, Nat.le_trans (Nat.le_of_ble_eq_true rfl) hR.2⟩) rfl rfl hls hW hf hdg kk
  · rw [if_neg (by rw [h]; decide : ¬ K b = 1), if_pos h] at hF
    exact x_callU (ci := 2) rfl rfl C hP hS (c_X1_eats hL hc hF) hr h (va_cwU 2 C.1.2.2.2.2 (gdU (x := yX1_eats) (owner := RX1) hlink mw_1042 mw_1043 mw_1036 mw_380 mw_1038) rfl rfl rfl rfl hd_X1_eats.2 ⟨Nat.le_trans (Nat.le_of_ble_eq_true rfl) hR.1, Nat.le_trans (Nat.le_of_ble_eq_true rfl) hR.2⟩) rfl rfl hls hW hf hdg kk
  · rw [if_neg (by rw [h]; decide : ¬ K b = 1), if_neg (by rw [h]; decide : ¬ K b = 2), if_pos h] at hF
    exact x_callU (ci := 4) rfl rfl C hP hS (c_X6_eats hL hc hF) hr h (va_cwO 2 C.1.2.2.2.2 (gdO (x := yX1_eats) (owner := RX1) hlink mw_1042 mw_1044 mw_1045 mw_1046 mw_365 mw_1047) rfl rfl rfl mw_1038 hd_X1_eats.2 ⟨Nat.le_trans (Nat.le_of_ble_eq_true rfl) hR.1, Nat.le_trans (Nat.le_of_ble_eq_true rfl) hR.2⟩) rfl rfl hls hW hf hdg kk
  · rw [if_neg (by rw [h]; decide : ¬ K b = 1), if_neg (by rw [h]; decide : ¬ K b = 2), if_neg (by rw [h]; decide : ¬ K b = 4), if_pos h] at hF
    exact x_callU (ci := 5) rfl rfl C hP hS (c_X1_eats hL hc hF) hr h (va_cwU 2 C.1.2.2.2.2 (gdU (x := yX1_eats) (owner := RX1) hlink mw_1042 mw_1051 mw_1036 mw_380 mw_1038) rfl rfl rfl rfl hd_X1_eats.2 ⟨Nat.le_trans (Nat.le_of_ble_eq_true rfl) hR.1, Nat.le_trans (Nat.le_of_ble_eq_true rfl) hR.2⟩) rfl rfl hls hW hf hdg kk
  · rw [if_neg (by rw [h]; decide : ¬ K b = 1), if_neg (by rw [h]; decide : ¬ K b = 2), if_neg (by rw [h]; decide : ¬ K b = 4), if_neg (by rw [h]; decide : ¬ K b = 5), if_pos h] at hF
    exact x_callU (ci := 6) rfl rfl C hP hS (c_X6_eats hL hc hF) hr h (va_cwO 2 C.1.2.2.2.2 (gdO (x := yX1_eats) (owner := RX1) hlink mw_1042 mw_1044 mw_1052 mw_1046 mw_365 mw_1047) rfl rfl rfl mw_1038 hd_X1_eats.2 ⟨Nat.le_trans (Nat.le_of_ble_eq_true rfl) hR.1, Nat.le_trans (Nat.le_of_ble_eq_true rfl) hR.2⟩) rfl rfl hls hW hf hdg kk
  · rw [if_neg (by rw [h]; decide : ¬ K b = 1), if_neg (by rw [h]; decide : ¬ K b = 2), if_neg (by rw [h]; decide : ¬ K b = 4), if_neg (by rw [h]; decide : ¬ K b = 5), if_neg (by rw [h]; decide : ¬ K b = 6), if_pos h] at hF
    exact x_callU (ci := 7) rfl rfl C hP hS (c_X1_eats hL hc hF) hr h (va_cwU 2 C.1.2.2.2.2 (gdU (x := yX1_eats) (owner := RX1) hlink mw_1042 mw_1053 mw_1036 mw_380 mw_1038) rfl rfl rfl rfl hd_X1_eats.2 ⟨Nat.le_trans (Nat.le_of_ble_eq_true rfl) hR.1, Nat.le_trans (Nat.le_of_ble_eq_true rfl) hR.2⟩) rfl rfl hls hW hf hdg kk
  · rw [if_neg (by rw [h]; decide : ¬ K b = 1), if_neg (by rw [h]; decide : ¬ K b = 2), if_neg (by rw [h]; decide : ¬ K b = 4), if_neg (by rw [h]; decide : ¬ K b = 5), if_neg (by rw [h]; decide : ¬ K b = 6), if_neg (by rw [h]; decide : ¬ K b = 7), if_pos h] at hF
    exact x_callU (ci := 9) rfl rfl C hP hS (c_X9_eats hL hc hF) hr h (va_cwO 2 C.1.2.2.2.2 (gdO (x := yX1_eats) (owner := RX1) hlink mw_1042 mw_1044 mw_1054 mw_1055 mw_377 mw_1056) rfl rfl rfl mw_1038 hd_X1_eats.2 ⟨Nat.le_trans (Nat.le_of_ble_eq_true rfl) hR.1, Nat.le_trans (Nat.le_of_ble_eq_true rfl) hR.2⟩) rfl rfl hls hW hf hdg kk

/-! CutCrooked$Cutter.int tells(int, CutCrooked$Trace);  -/
theorem dX1_tells_0 : decode cX1_tells 0 = .ok (.aload_n 2, 1) := by decide +kernel
theorem dX1_tells_1 : decode cX1_tells 1 = .ok (.iconst 3, 1) := by decide +kernel
theorem dX1_tells_2 : decode cX1_tells 2 = .ok (.invokevirtual 25, 3) := by decide +kernel
theorem dX1_tells_5 : decode cX1_tells 5 = .ok (.aload_n 0, 1) := by decide +kernel
theorem dX1_tells_6 : decode cX1_tells 6 = .ok (.iload_n 1, 1) := by decide +kernel
theorem dX1_tells_7 : decode cX1_tells 7 = .ok (.aload_n 2, 1) := by decide +kernel
theorem dX1_tells_8 : decode cX1_tells 8 = .ok (.invokevirtual 35, 3) := by decide +kernel
theorem dX1_tells_11 : decode cX1_tells 11 = .ok (.iconst 2, 1) := by decide +kernel
theorem dX1_tells_12 : decode cX1_tells 12 = .ok (.imul, 1) := by decide +kernel
theorem dX1_tells_13 : decode cX1_tells 13 = .ok (.ireturn, 1) := by decide +kernel
theorem hd_X1_tells : yX1_tells.cls = RX1 ∧ yX1_tells.cls ≠ "java/lang/invoke/MethodHandle" ∧ yX1_tells.cls ≠ "java/lang/invoke/VarHandle" ∧ (parseMethodDescriptor yX1_tells.desc).map (fun d => d.parameters.length) = some 2 := by decide +kernel
abbrev rm_X1_tells : Room := { frames := 5, cells := 0, slots := 0, locals := 109 }
def F_X1_tells (N : Nat) (K len : Nat → Nat) (z : Nat) (a1 : Int32) (σ : SG) (ρ : RG) : Option (Int32 × SG) :=
  bn (F_X10_began (3 : Int32) σ ρ) fun σ1 =>
  bn2 (F_v_eats N K len z a1 σ1 ρ) fun r2 σ2 =>
  nm (r2 * (2 : Int32)) fun x3 =>
  some (x3, σ2)
set_option maxHeartbeats 4000000 in
set_option maxRecDepth 100000 in
theorem w_X1_tells_0 {N : Nat} {K len : Nat → Nat} {z : Nat} {a1 : Int32} {p : Program} {e : Env} {s : State} {m : MethodId} {args : Array Value} {below : List Frame} {meth : Method} {c : Code} {ρ0 : RG} {r : Int32} {σ1 : SG} (C : Cx Y D N ad p s m args meth c cX1_tells 3 (some .int) RX1 wsL_law) {σ : SG} {ρ : RG} {H : Heap} {locs : List Loc} {ls : Array Slot} (hρ0 : ρ = ρ0) (hL : Lay N K len ρ) (hz : isC N K z = true) (hF : F_X1_tells N K len z a1 σ ρ = some (r, σ1)) (hP : WP Y D N ad K len σ ρ H) (hS : va_S (AA N ad s.heap.size) s.heap H locs) (hl : lv_has ls 3 [(0, .ref (ad z)), (1, .int a1), (2, .ref (ad 27))]) : W p l e rm_X1_tells s m args below meth c H locs 0 0 (MQ below (QW Y D N ad K len σ1 ρ0 (AA N ad s.heap.size) (some (.int r))) args s 0 0 (AA N ad s.heap.size)) (F0 m 0 ls []) := by
  have hx := C.1.1
  have hb := C.1.2.1
  unfold F_X1_tells at hF
  refine lv_aload_n hx hb dX1_tells_0 rfl (lv_at hl 2 rfl) ?_
  refine lv_iconst (v := 3) hx hb dX1_tells_1 (by decide) ?_
  obtain ⟨σ1, hq1, hF⟩ := bn_1 hF
  refine x_callV (ci := 10) rfl rfl C hP hS (c_X10_began hL hq1) (lr_27 hL) (lk_27 hL) (cwV 1 C.1.2.2.2.2 (gdV mw_1011 mw_1012 mw_1013 mw_19 mw_1014) rfl rfl rfl hd_X10_began ⟨Nat.le_of_ble_eq_true rfl, Nat.le_of_ble_eq_true rfl⟩) rfl rfl hl.1 (Nat.le_of_ble_eq_true rfl) ⟨Nat.zero_le _, Nat.zero_le _⟩ dX1_tells_2 (fun H locs hP hS => ?_)
  refine lv_aload_n hx hb dX1_tells_5 rfl (lv_at hl 0 rfl) ?_
  refine lv_iload_n hx hb dX1_tells_6 rfl (lv_at hl 1 rfl) ?_
  refine lv_aload_n hx hb dX1_tells_7 rfl (lv_at hl 2 rfl) ?_
  obtain ⟨r2, σ2, hq2, hF⟩ := bn2_1 hF
  refine v_eats C hP hS hL hz hq2 mw_1064 ⟨Nat.le_of_ble_eq_true rfl, Nat.le_of_ble_eq_true rfl⟩ hl.1 (Nat.le_of_ble_eq_true rfl) ⟨Nat.zero_le _, Nat.zero_le _⟩ dX1_tells_8 (fun H locs hP hS => ?_)
  refine lv_iconst (v := 2) hx hb dX1_tells_11 (by decide) ?_
  refine lv_imul hx hb dX1_tells_12 ?_
  obtain ⟨x3, ex3, hF⟩ := nm_1 hF
  refine x_top ex3 ?_
  obtain ⟨rfl, rfl⟩ := ret_2 hF
  subst hρ0
  exact x_iret rfl C hP hS dX1_tells_13
set_option maxHeartbeats 4000000 in
set_option maxRecDepth 100000 in
theorem c_X1_tells {N : Nat} {K len : Nat → Nat} {z : Nat} {a1 : Int32} {r : Int32} {σ1 : SG} {σ : SG} {ρ : RG} (hL : Lay N K len ρ) (hz : isC N K z = true) (hF : F_X1_tells N K len z a1 σ ρ = some (r, σ1)) : MT l Y D N ad K len yX1_tells (Cond.code yX1_tells cX1_tells 3 (some .int) :: wsL_law) rm_X1_tells [.ref (ad z), .int a1, .ref (ad 27)] σ ρ (some (.int r)) σ1 ρ := by
  refine mt_of (cc := cX1_tells) (nL := 3) (ret := (some .int)) (by decide) (Nat.le_of_ble_eq_true rfl) ?_
  intro p e s m args below meth c ls C hnm hP hS hl
  exact w_X1_tells_0 C rfl hL hz hF hP hS hl

/-! CutCrooked$Follow.int tells(int, CutCrooked$Trace);  -/
theorem dX2_tells_0 : decode cX2_tells 0 = .ok (.aload_n 2, 1) := by decide +kernel
theorem dX2_tells_1 : decode cX2_tells 1 = .ok (.bipush 31, 2) := by decide +kernel
theorem dX2_tells_3 : decode cX2_tells 3 = .ok (.invokevirtual 16, 3) := by decide +kernel
theorem dX2_tells_6 : decode cX2_tells 6 = .ok (.aload_n 0, 1) := by decide +kernel
theorem dX2_tells_7 : decode cX2_tells 7 = .ok (.iload_n 1, 1) := by decide +kernel
theorem dX2_tells_8 : decode cX2_tells 8 = .ok (.aload_n 2, 1) := by decide +kernel
theorem dX2_tells_9 : decode cX2_tells 9 = .ok (.invokespecial 22, 3) := by decide +kernel
theorem dX2_tells_12 : decode cX2_tells 12 = .ok (.bipush 7, 2) := by decide +kernel
theorem dX2_tells_14 : decode cX2_tells 14 = .ok (.ixor, 1) := by decide +kernel
theorem dX2_tells_15 : decode cX2_tells 15 = .ok (.ireturn, 1) := by decide +kernel
theorem hd_X2_tells : yX2_tells.cls = RX2 ∧ yX2_tells.cls ≠ "java/lang/invoke/MethodHandle" ∧ yX2_tells.cls ≠ "java/lang/invoke/VarHandle" ∧ (parseMethodDescriptor yX2_tells.desc).map (fun d => d.parameters.length) = some 2 := by decide +kernel
abbrev rm_X2_tells : Room := { frames := 6, cells := 0, slots := 0, locals := 131 }
def F_X2_tells (N : Nat) (K len : Nat → Nat) (z : Nat) (a1 : Int32) (σ : SG) (ρ : RG) : Option (Int32 × SG) :=
  bn (F_X10_began (31 : Int32) σ ρ) fun σ1 =>
  bn2 (F_X1_tells N K len z a1 σ1 ρ) fun r2 σ2 =>
  nm (r2 ^^^ (7 : Int32)) fun x3 =>
  some (x3, σ2)
set_option maxHeartbeats 4000000 in
set_option maxRecDepth 100000 in
theorem w_X2_tells_0 {N : Nat} {K len : Nat → Nat} {z : Nat} {a1 : Int32} {p : Program} {e : Env} {s : State} {m : MethodId} {args : Array Value} {below : List Frame} {meth : Method} {c : Code} {ρ0 : RG} {r : Int32} {σ1 : SG} (C : Cx Y D N ad p s m args meth c cX2_tells 3 (some .int) RX2 wsL_law) {σ : SG} {ρ : RG} {H : Heap} {locs : List Loc} {ls : Array Slot} (hρ0 : ρ = ρ0) (hL : Lay N K len ρ) (hz : isC N K z = true) (hF : F_X2_tells N K len z a1 σ ρ = some (r, σ1)) (hP : WP Y D N ad K len σ ρ H) (hS : va_S (AA N ad s.heap.size) s.heap H locs) (hl : lv_has ls 3 [(0, .ref (ad z)), (1, .int a1), (2, .ref (ad 27))]) : W p l e rm_X2_tells s m args below meth c H locs 0 0 (MQ below (QW Y D N ad K len σ1 ρ0 (AA N ad s.heap.size) (some (.int r))) args s 0 0 (AA N ad s.heap.size)) (F0 m 0 ls []) := by
  have hx := C.1.1
  have hb := C.1.2.1
  unfold F_X2_tells at hF
  refine lv_aload_n hx hb dX2_tells_0 rfl (lv_at hl 2 rfl) ?_
  refine lv_bipush (v := 31) hx hb dX2_tells_1 (by decide +kernel) ?_
  obtain ⟨σ1, hq1, hF⟩ := bn_1 hF
  refine x_callV (ci := 10) rfl rfl C hP hS (c_X10_began hL hq1) (lr_27 hL) (lk_27 hL) (cwV 1 C.1.2.2.2.2 (gdV mw_1072 mw_1012 mw_1013 mw_19 mw_1014) rfl rfl rfl hd_X10_began ⟨Nat.le_of_ble_eq_true rfl, Nat.le_of_ble_eq_true rfl⟩) rfl rfl hl.1 (Nat.le_of_ble_eq_true rfl) ⟨Nat.zero_le _, Nat.zero_le _⟩ dX2_tells_3 (fun H locs hP hS => ?_)
  refine lv_aload_n hx hb dX2_tells_6 rfl (lv_at hl 0 rfl) ?_
  refine lv_iload_n hx hb dX2_tells_7 rfl (lv_at hl 1 rfl) ?_
  refine lv_aload_n hx hb dX2_tells_8 rfl (lv_at hl 2 rfl) ?_
  obtain ⟨r2, σ2, hq2, hF⟩ := bn2_1 hF
  refine x_callSU C hP hS (c_X1_tells hL hz hq2) (isC_r hz) (isC_k hz) (va_cwSU 2 C.1.2.2.2.2 (gdSU mw_1073 mw_1067 mw_1074 mw_1061 mw_380 mw_1063) rfl rfl rfl ⟨by decide +kernel, hd_X1_tells.2.2.2⟩ ⟨Nat.le_of_ble_eq_true rfl, Nat.le_of_ble_eq_true rfl⟩) rfl rfl hl.1 (Nat.le_of_ble_eq_true rfl) ⟨Nat.zero_le _, Nat.zero_le _⟩ dX2_tells_9 (fun H locs hP hS => ?_)
  refine lv_bipush (v := 7) hx hb dX2_tells_12 (by decide +kernel) ?_
  refine lv_ixor hx hb dX2_tells_14 ?_
  obtain ⟨x3, ex3, hF⟩ := nm_1 hF
  refine x_top ex3 ?_
  obtain ⟨rfl, rfl⟩ := ret_2 hF
  subst hρ0
  exact x_iret rfl C hP hS dX2_tells_15
set_option maxHeartbeats 4000000 in
set_option maxRecDepth 100000 in
theorem c_X2_tells {N : Nat} {K len : Nat → Nat} {z : Nat} {a1 : Int32} {r : Int32} {σ1 : SG} {σ : SG} {ρ : RG} (hL : Lay N K len ρ) (hz : isC N K z = true) (hF : F_X2_tells N K len z a1 σ ρ = some (r, σ1)) : MT l Y D N ad K len yX2_tells (Cond.code yX2_tells cX2_tells 3 (some .int) :: wsL_law) rm_X2_tells [.ref (ad z), .int a1, .ref (ad 27)] σ ρ (some (.int r)) σ1 ρ := by
  refine mt_of (cc := cX2_tells) (nL := 3) (ret := (some .int)) (by decide) (Nat.le_of_ble_eq_true rfl) ?_
  intro p e s m args below meth c ls C hnm hP hS hl
  exact w_X2_tells_0 C rfl hL hz hF hP hS hl

/-! CutCrooked$Righting.int tells(int, CutCrooked$Trace);  -/
theorem dX5_tells_0 : decode cX5_tells 0 = .ok (.aload_n 2, 1) := by decide +kernel
theorem dX5_tells_1 : decode cX5_tells 1 = .ok (.bipush 41, 2) := by decide +kernel
theorem dX5_tells_3 : decode cX5_tells 3 = .ok (.invokevirtual 13, 3) := by decide +kernel
theorem dX5_tells_6 : decode cX5_tells 6 = .ok (.aload_n 0, 1) := by decide +kernel
theorem dX5_tells_7 : decode cX5_tells 7 = .ok (.iload_n 1, 1) := by decide +kernel
theorem dX5_tells_8 : decode cX5_tells 8 = .ok (.iconst 1, 1) := by decide +kernel
theorem dX5_tells_9 : decode cX5_tells 9 = .ok (.isub, 1) := by decide +kernel
theorem dX5_tells_10 : decode cX5_tells 10 = .ok (.aload_n 2, 1) := by decide +kernel
theorem dX5_tells_11 : decode cX5_tells 11 = .ok (.invokespecial 19, 3) := by decide +kernel
theorem dX5_tells_14 : decode cX5_tells 14 = .ok (.istore_n 3, 1) := by decide +kernel
theorem dX5_tells_15 : decode cX5_tells 15 = .ok (.iload_n 3, 1) := by decide +kernel
theorem dX5_tells_16 : decode cX5_tells 16 = .ok (.aload_n 0, 1) := by decide +kernel
theorem dX5_tells_17 : decode cX5_tells 17 = .ok (.iconst 2, 1) := by decide +kernel
theorem dX5_tells_18 : decode cX5_tells 18 = .ok (.aload_n 2, 1) := by decide +kernel
theorem dX5_tells_19 : decode cX5_tells 19 = .ok (.invokevirtual 23, 3) := by decide +kernel
theorem dX5_tells_22 : decode cX5_tells 22 = .ok (.iadd, 1) := by decide +kernel
theorem dX5_tells_23 : decode cX5_tells 23 = .ok (.ireturn, 1) := by decide +kernel
theorem hd_X5_tells : yX5_tells.cls = RX5 ∧ yX5_tells.cls ≠ "java/lang/invoke/MethodHandle" ∧ yX5_tells.cls ≠ "java/lang/invoke/VarHandle" ∧ (parseMethodDescriptor yX5_tells.desc).map (fun d => d.parameters.length) = some 2 := by decide +kernel
abbrev rm_X5_tells : Room := { frames := 6, cells := 0, slots := 0, locals := 131 }
def F_X5_tells (N : Nat) (K len : Nat → Nat) (z : Nat) (a1 : Int32) (σ : SG) (ρ : RG) : Option (Int32 × SG) :=
  bn (F_X10_began (41 : Int32) σ ρ) fun σ1 =>
  nm (a1 - (1 : Int32)) fun x2 =>
  bn2 (F_X1_tells N K len z x2 σ1 ρ) fun r3 σ3 =>
  gd (K z == 5) <|
  bn2 (F_X7_cuts N K len z (2 : Int32) σ3 ρ) fun r5 σ5 =>
  nm (r3 + r5) fun x6 =>
  some (x6, σ5)
set_option maxHeartbeats 4000000 in
set_option maxRecDepth 100000 in
theorem w_X5_tells_0 {N : Nat} {K len : Nat → Nat} {z : Nat} {a1 : Int32} {p : Program} {e : Env} {s : State} {m : MethodId} {args : Array Value} {below : List Frame} {meth : Method} {c : Code} {ρ0 : RG} {r : Int32} {σ1 : SG} (C : Cx Y D N ad p s m args meth c cX5_tells 4 (some .int) RX5 wsL_law) {σ : SG} {ρ : RG} {H : Heap} {locs : List Loc} {ls : Array Slot} (hρ0 : ρ = ρ0) (hL : Lay N K len ρ) (hz : isC N K z = true) (hF : F_X5_tells N K len z a1 σ ρ = some (r, σ1)) (hP : WP Y D N ad K len σ ρ H) (hS : va_S (AA N ad s.heap.size) s.heap H locs) (hl : lv_has ls 4 [(0, .ref (ad z)), (1, .int a1), (2, .ref (ad 27))]) : W p l e rm_X5_tells s m args below meth c H locs 0 0 (MQ below (QW Y D N ad K len σ1 ρ0 (AA N ad s.heap.size) (some (.int r))) args s 0 0 (AA N ad s.heap.size)) (F0 m 0 ls []) := by
  have hx := C.1.1
  have hb := C.1.2.1
  unfold F_X5_tells at hF
  refine lv_aload_n hx hb dX5_tells_0 rfl (lv_at hl 2 rfl) ?_
  refine lv_bipush (v := 41) hx hb dX5_tells_1 (by decide +kernel) ?_
  obtain ⟨σ1, hq1, hF⟩ := bn_1 hF
  refine x_callV (ci := 10) rfl rfl C hP hS (c_X10_began hL hq1) (lr_27 hL) (lk_27 hL) (cwV 1 C.1.2.2.2.2 (gdV mw_1079 mw_1012 mw_1013 mw_19 mw_1014) rfl rfl rfl hd_X10_began ⟨Nat.le_of_ble_eq_true rfl, Nat.le_of_ble_eq_true rfl⟩) rfl rfl hl.1 (Nat.le_of_ble_eq_true rfl) ⟨Nat.zero_le _, Nat.zero_le _⟩ dX5_tells_3 (fun H locs hP hS => ?_)
  refine lv_aload_n hx hb dX5_tells_6 rfl (lv_at hl 0 rfl) ?_
  refine lv_iload_n hx hb dX5_tells_7 rfl (lv_at hl 1 rfl) ?_
  refine lv_iconst (v := 1) hx hb dX5_tells_8 (by decide) ?_
  refine lv_isub hx hb dX5_tells_9 ?_
  obtain ⟨x2, ex2, hF⟩ := nm_1 hF
  refine x_top ex2 ?_
  refine lv_aload_n hx hb dX5_tells_10 rfl (lv_at hl 2 rfl) ?_
  obtain ⟨r3, σ3, hq3, hF⟩ := bn2_1 hF
  refine x_callSI (x := ⟨"CutCrooked$Straight", "tells", "(ILCutCrooked$Trace;)I"⟩) (n := 2) C hP hS (c_X1_tells hL hz hq3) (isC_r hz) (isC_k hz) (C.2.2.2.2.2.2.2.2.2.2 _ (List.mem_of_getElem? (i := 4) rfl)) (C.2.2.2.2.2.2.2.2.2.2 _ (List.mem_of_getElem? (i := 5) rfl)) (C.2.2.2.2.2.2.2.2.2.2 _ (List.mem_of_getElem? (i := 6) rfl)) (C.2.2.2.2.2.2.2.2.2.2 _ (List.mem_of_getElem? (i := 7) rfl)) ⟨rfl, rfl⟩ (by decide +kernel) mw_1061 mw_380 mw_1063 (gdI mw_1063) List.mem_cons_self ⟨rfl, rfl, Nat.le_of_ble_eq_true rfl, Nat.le_of_ble_eq_true rfl⟩ (hd_len hd_X1_tells.2.2.2) rfl rfl hl.1 (Nat.le_of_ble_eq_true rfl) ⟨Nat.zero_le _, Nat.zero_le _⟩ dX5_tells_11 (fun H locs hP hS => ?_)
  refine lv_istore_n (lv' := [(3, .int r3), (0, .ref (ad z)), (1, .int a1), (2, .ref (ad 27))]) hx hb dX5_tells_14 rfl hl (by decide) rfl (fun ls hl => ?_)
  refine lv_iload_n hx hb dX5_tells_15 rfl (lv_at hl 0 rfl) ?_
  refine lv_aload_n hx hb dX5_tells_16 rfl (lv_at hl 1 rfl) ?_
  refine lv_iconst (v := 2) hx hb dX5_tells_17 (by decide) ?_
  refine lv_aload_n hx hb dX5_tells_18 rfl (lv_at hl 3 rfl) ?_
  obtain ⟨gk4, hF⟩ := gd_1 hF
  have gk4 := beq_iff_eq.mp gk4
  obtain ⟨r5, σ5, hq5, hF⟩ := bn2_1 hF
  refine x_callU (ci := 5) rfl rfl C hP hS (c_X7_cuts hL hz hq5) (isC_r hz) gk4 (va_cwU 2 C.1.2.2.2.2 (gdU mw_1080 mw_1081 mw_1082 mw_1027 mw_362 mw_1028) rfl rfl rfl rfl hd_X7_cuts.2 ⟨Nat.le_of_ble_eq_true rfl, Nat.le_of_ble_eq_true rfl⟩) rfl rfl hl.1 (Nat.le_of_ble_eq_true rfl) ⟨Nat.zero_le _, Nat.zero_le _⟩ dX5_tells_19 (fun H locs hP hS => ?_)
  refine lv_iadd hx hb dX5_tells_22 ?_
  obtain ⟨x6, ex6, hF⟩ := nm_1 hF
  refine x_top ex6 ?_
  obtain ⟨rfl, rfl⟩ := ret_2 hF
  subst hρ0
  exact x_iret rfl C hP hS dX5_tells_23
set_option maxHeartbeats 4000000 in
set_option maxRecDepth 100000 in
theorem c_X5_tells {N : Nat} {K len : Nat → Nat} {z : Nat} {a1 : Int32} {r : Int32} {σ1 : SG} {σ : SG} {ρ : RG} (hL : Lay N K len ρ) (hz : isC N K z = true) (hF : F_X5_tells N K len z a1 σ ρ = some (r, σ1)) : MT l Y D N ad K len yX5_tells (Cond.code yX5_tells cX5_tells 4 (some .int) :: wsL_law) rm_X5_tells [.ref (ad z), .int a1, .ref (ad 27)] σ ρ (some (.int r)) σ1 ρ := by
  refine mt_of (cc := cX5_tells) (nL := 4) (ret := (some .int)) (by decide) (Nat.le_of_ble_eq_true rfl) ?_
  intro p e s m args below meth c ls C hnm hP hS hl
  exact w_X5_tells_0 C rfl hL hz hF hP hS hl

/-! a virtual call: tells -/
def F_v_tells (N : Nat) (K len : Nat → Nat) (c : Nat) (a1 : Int32) (σ : SG) (ρ : RG) : Option (Int32 × SG) :=
  if K c = 1 then F_X1_tells N K len c a1 σ ρ else
  if K c = 2 then F_X2_tells N K len c a1 σ ρ else
  if K c = 4 then F_X1_tells N K len c a1 σ ρ else
  if K c = 5 then F_X5_tells N K len c a1 σ ρ else
  if K c = 6 then F_X1_tells N K len c a1 σ ρ else
  if K c = 7 then F_X1_tells N K len c a1 σ ρ else
  if K c = 9 then F_X2_tells N K len c a1 σ ρ else
  none
set_option maxHeartbeats 4000000 in
theorem v_tells {p : Program} {e : Env} {R : Room} {s : State} {m : MethodId} {args : Array Value} {below : List Frame} {meth : Method} {c : Code} {H : Heap} {locs : List Loc} {cells slots : Nat} {Q : State → Prop} {cc : ByteArray} {nL : Nat} {ret : Option FieldType} {own : String} {pc : Nat} {ls : Array Slot} {rest : List Value} {σ : SG} {ρ : RG} {idx b : Nat} {a1 : Int32} {r : Int32} {σ1 : SG} (C : Cx Y D N ad p s m args meth c cc nL ret own wsL_law) (hP : WP Y D N ad K len σ ρ H) (hS : va_S (AA N ad s.heap.size) s.heap H locs) (hL : Lay N K len ρ) (hc : isC N K b = true) (hF : F_v_tells N K len b a1 σ ρ = some (r, σ1)) (hlink : Cond.methodLink own idx yX1_tells ∈ wsL_law) (hR : 7 ≤ R.frames ∧ 154 ≤ R.locals) (hls : ls.size = nL) (hW : (rest.map fun v => v.category).sum ≤ 8) (hf : cells ≤ R.cells ∧ slots ≤ R.slots) (hdg : decode cc pc = .ok (.invokevirtual idx, 3))
    (kk : ∀ (H1 : Heap) (locs1 : List Loc), WP Y D N ad K len σ1 ρ H1 → va_S (AA N ad s.heap.size) s.heap H1 locs1 → W p l e R s m args below meth c H1 locs1 cells slots Q (F0 m (pc + 3) ls (.int r :: rest))) : W p l e R s m args below meth c H locs cells slots Q (F0 m pc ls (.ref (ad 27) :: .int a1 :: .ref (ad b) :: rest)) := by
  unfold F_v_tells at hF
  have hr := isC_r hc
  rcases isCk_or (isC_k hc) with h | h | h | h | h | h | h
  · rw [if_pos h] at hF
    exact x_callV (ci := 1) rfl rfl C hP hS (c_X1_tells hL hc hF) hr h (cwV 2 C.1.2.2.2.2 (gdV hlink mw_1061 mw_1062 mw_380 mw_1063) rfl rfl rfl hd_X1_tells ⟨Nat.le_trans (Nat.le_of_ble_eq_true rfl) hR.1, Nat.le_trans (Nat.le_of_ble_eq_true rfl) hR.2⟩) rfl rfl hls hW hf hdg kk
  · rw [if_neg (by rw [h]; decide : ¬ K b = 1), if_pos h] at hF
    exact x_callU (ci := 2) rfl rfl C hP hS (c_X2_tells hL hc hF) hr h (va_cwO 2 C.1.2.2.2.2 (gdO (x := yX1_tells) (owner := RX1) hlink mw_1067 mw_1068 mw_1069 mw_1070 mw_368 mw_1071) rfl rfl rfl mw_1063 hd_X1_tells.2 ⟨Nat.le_trans (Nat.le_of_ble_eq_true rfl) hR.1, Nat.le_trans (Nat.le_of_ble_eq_true rfl) hR.2⟩) rfl rfl hls hW hf hdg kk
  · rw [if_neg (by rw [h]; decide : ¬ K b = 1), if_neg (by rw [h]; decide : ¬ K b = 2), if_pos h] at hF
    exact x_callU (ci := 4) rfl rfl C hP hS (c_X1_tells hL hc hF) hr h (va_cwU 2 C.1.2.2.2.2 (gdU (x := yX1_tells) (owner := RX1) hlink mw_1067 mw_1075 mw_1061 mw_380 mw_1063) rfl rfl rfl rfl hd_X1_tells.2 ⟨Nat.le_trans (Nat.le_of_ble_eq_true rfl) hR.1, Nat.le_trans (Nat.le_of_ble_eq_true rfl) hR.2⟩) rfl rfl hls hW hf hdg kk
  · rw [if_neg (by rw [h]; decide : ¬ K b = 1), if_neg (by rw [h]; decide : ¬ K b = 2), if_neg (by rw [h]; decide : ¬ K b = 4), if_pos h] at hF
    exact x_callU (ci := 5) rfl rfl C hP hS (c_X5_tells hL hc hF) hr h (va_cwO 2 C.1.2.2.2.2 (gdO (x := yX1_tells) (owner := RX1) hlink mw_1067 mw_1068 mw_1076 mw_1077 mw_371 mw_1078) rfl rfl rfl mw_1063 hd_X1_tells.2 ⟨Nat.le_trans (Nat.le_of_ble_eq_true rfl) hR.1, Nat.le_trans (Nat.le_of_ble_eq_true rfl) hR.2⟩) rfl rfl hls hW hf hdg kk
  · rw [if_neg (by rw [h]; decide : ¬ K b = 1), if_neg (by rw [h]; decide : ¬ K b = 2), if_neg (by rw [h]; decide : ¬ K b = 4), if_neg (by rw [h]; decide : ¬ K b = 5), if_pos h] at hF
    exact x_callU (ci := 6) rfl rfl C hP hS (c_X1_tells hL hc hF) hr h (va_cwU 2 C.1.2.2.2.2 (gdU (x := yX1_tells) (owner := RX1) hlink mw_1067 mw_1083 mw_1061 mw_380 mw_1063) rfl rfl rfl rfl hd_X1_tells.2 ⟨Nat.le_trans (Nat.le_of_ble_eq_true rfl) hR.1, Nat.le_trans (Nat.le_of_ble_eq_true rfl) hR.2⟩) rfl rfl hls hW hf hdg kk
  · rw [if_neg (by rw [h]; decide : ¬ K b = 1), if_neg (by rw [h]; decide : ¬ K b = 2), if_neg (by rw [h]; decide : ¬ K b = 4), if_neg (by rw [h]; decide : ¬ K b = 5), if_neg (by rw [h]; decide : ¬ K b = 6), if_pos h] at hF
    exact x_callU (ci := 7) rfl rfl C hP hS (c_X1_tells hL hc hF) hr h (va_cwU 2 C.1.2.2.2.2 (gdU (x := yX1_tells) (owner := RX1) hlink mw_1067 mw_1084 mw_1061 mw_380 mw_1063) rfl rfl rfl rfl hd_X1_tells.2 ⟨Nat.le_trans (Nat.le_of_ble_eq_true rfl) hR.1, Nat.le_trans (Nat.le_of_ble_eq_true rfl) hR.2⟩) rfl rfl hls hW hf hdg kk
  · rw [if_neg (by rw [h]; decide : ¬ K b = 1), if_neg (by rw [h]; decide : ¬ K b = 2), if_neg (by rw [h]; decide : ¬ K b = 4), if_neg (by rw [h]; decide : ¬ K b = 5), if_neg (by rw [h]; decide : ¬ K b = 6), if_neg (by rw [h]; decide : ¬ K b = 7), if_pos h] at hF
    exact x_callU (ci := 9) rfl rfl C hP hS (c_X2_tells hL hc hF) hr h (va_cwO 2 C.1.2.2.2.2 (gdO (x := yX1_tells) (owner := RX1) hlink mw_1067 mw_1068 mw_1085 mw_1070 mw_368 mw_1071) rfl rfl rfl mw_1063 hd_X1_tells.2 ⟨Nat.le_trans (Nat.le_of_ble_eq_true rfl) hR.1, Nat.le_trans (Nat.le_of_ble_eq_true rfl) hR.2⟩) rfl rfl hls hW hf hdg kk
end GEN
