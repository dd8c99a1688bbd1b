/-! PART 060.ma: printed by wip/gen -/
section GEN
variable {l : Launch} {Y : YT} {D : va_G} {N : Nat} {ad K len : Nat → Nat}
variable {fR lR : Nat}
/-! CutCrookedModel.private static boolean in(int, int, int);  -/
theorem dX12_in_0 : decode cX12_in 0 = .ok (.iload_n 0, 1) := by decide +kernel
theorem dX12_in_1 : decode cX12_in 1 = .ok (.iload_n 1, 1) := by decide +kernel
theorem dX12_in_2 : decode cX12_in 2 = .ok (.if_icmp .lt 12, 3) := by decide +kernel
theorem dX12_in_5 : decode cX12_in 5 = .ok (.iload_n 0, 1) := by decide +kernel
theorem dX12_in_6 : decode cX12_in 6 = .ok (.iload_n 2, 1) := by decide +kernel
theorem dX12_in_7 : decode cX12_in 7 = .ok (.if_icmp .gt 7, 3) := by decide +kernel
theorem dX12_in_10 : decode cX12_in 10 = .ok (.iconst 1, 1) := by decide +kernel
theorem dX12_in_11 : decode cX12_in 11 = .ok (.goto 4, 3) := by decide +kernel
theorem dX12_in_14 : decode cX12_in 14 = .ok (.iconst 0, 1) := by decide +kernel
theorem dX12_in_15 : decode cX12_in 15 = .ok (.ireturn, 1) := by decide +kernel
theorem hd_X12_in : yX12_in.cls = RX12 ∧ yX12_in.cls ≠ "java/lang/invoke/MethodHandle" ∧ yX12_in.cls ≠ "java/lang/invoke/VarHandle" ∧ (parseMethodDescriptor yX12_in.desc).map (fun d => d.parameters.length) = some 3 := by decide +kernel
abbrev rm_X12_in : Room := { frames := 0, cells := 0, slots := 0, locals := 0 }
def F_X12_in (a1 : Int32) (a2 : Int32) (a3 : Int32) (σ : SG) (ρ : RG) : Option (Int32) :=
  if a1 < a2 then
    some (0 : Int32)
  else
    if a3 < a1 then
      some (0 : Int32)
    else
      some (1 : Int32)
set_option maxHeartbeats 4000000 in
set_option maxRecDepth 100000 in
theorem w_X12_in_0 {a1 : Int32} {a2 : Int32} {a3 : Int32} {p : Program} {e : Env} {s : State} {m : MethodId} {args : Array Value} {below : List Frame} {meth : Method} {c : Code} {σ0 : SG} {ρ0 : RG} {r : Int32} (C : Cx Y D N ad p s m args meth c cX12_in 3 (some .boolean) RX12 wsL_law) {σ : SG} {ρ : RG} {H : Heap} {locs : List Loc} {ls : Array Slot} (hσ0 : σ = σ0) (hρ0 : ρ = ρ0) (hL : Lay N K len ρ) (hF : F_X12_in a1 a2 a3 σ ρ = some r) (hP : WP Y D N ad K len σ ρ H) (hS : va_S (AA N ad s.heap.size) s.heap H locs) (hl : lv_has ls 3 [(0, .int a1), (1, .int a2), (2, .int a3)]) : W p l e rm_X12_in s m args below meth c H locs 0 0 (MQ below (QW Y D N ad K len σ0 ρ0 (AA N ad s.heap.size) (some (.int r))) args s 0 0 (AA N ad s.heap.size)) (F0 m 0 ls []) := by
  have hx := C.1.1
  have hb := C.1.2.1
  unfold F_X12_in at hF
  refine lv_iload_n hx hb dX12_in_0 rfl (lv_at hl 0 rfl) ?_
  refine lv_iload_n hx hb dX12_in_1 rfl (lv_at hl 1 rfl) ?_
  refine lv_icmp_lt (tgt := 14) hx hb dX12_in_2 (by decide) (fun c_1 => ?_) (fun c_1 => ?_) -- COND 1 by_cases c_1 : a1 < a2
  · have hF := ite_t hF c_1
    refine lv_iconst (v := 0) hx hb dX12_in_14 (by decide) ?_
    obtain rfl := ret_1 hF
    subst hσ0
    subst hρ0
    exact x_zret rfl rfl C hP hS dX12_in_15
  · have hF := ite_f hF c_1
    refine lv_iload_n hx hb dX12_in_5 rfl (lv_at hl 0 rfl) ?_
    refine lv_iload_n hx hb dX12_in_6 rfl (lv_at hl 2 rfl) ?_
    refine lv_icmp_gt (tgt := 14) hx hb dX12_in_7 (by decide) (fun c_2 => ?_) (fun c_2 => ?_) -- COND 2 by_cases c_2 : a3 < a1
    · have hF := ite_t hF c_2
      refine lv_iconst (v := 0) hx hb dX12_in_14 (by decide) ?_
      obtain rfl := ret_1 hF
      subst hσ0
      subst hρ0
      exact x_zret rfl rfl C hP hS dX12_in_15
    · have hF := ite_f hF c_2
      refine lv_iconst (v := 1) hx hb dX12_in_10 (by decide) ?_
      refine lv_goto (tgt := 15) hx hb dX12_in_11 (by decide) ?_
      obtain rfl := ret_1 hF
      subst hσ0
      subst hρ0
      exact x_zret rfl rfl C hP hS dX12_in_15
set_option maxHeartbeats 4000000 in
set_option maxRecDepth 100000 in
theorem c_X12_in {a1 : Int32} {a2 : Int32} {a3 : Int32} {r : Int32} {σ : SG} {ρ : RG} (hL : Lay N K len ρ) (hF : F_X12_in a1 a2 a3 σ ρ = some r) : MT l Y D N ad K len yX12_in (Cond.code yX12_in cX12_in 3 (some .boolean) :: wsL_law) rm_X12_in [.int a1, .int a2, .int a3] σ ρ (some (.int r)) σ ρ := by
  refine mt_of (cc := cX12_in) (nL := 3) (ret := (some .boolean)) (by decide) (Nat.le_of_ble_eq_true rfl) ?_
  intro p e s m args below meth c ls C hnm hP hS hl
  exact w_X12_in_0 C rfl rfl hL hF hP hS hl

/-! CutCrookedModel.private static int within(int, int, int);  -/
theorem dX12_within_0 : decode cX12_within 0 = .ok (.iload_n 0, 1) := by decide +kernel
theorem dX12_within_1 : decode cX12_within 1 = .ok (.iload_n 1, 1) := by decide +kernel
theorem dX12_within_2 : decode cX12_within 2 = .ok (.if_icmp .ge 7, 3) := by decide +kernel
theorem dX12_within_5 : decode cX12_within 5 = .ok (.iload_n 1, 1) := by decide +kernel
theorem dX12_within_6 : decode cX12_within 6 = .ok (.goto 13, 3) := by decide +kernel
theorem dX12_within_9 : decode cX12_within 9 = .ok (.iload_n 0, 1) := by decide +kernel
theorem dX12_within_10 : decode cX12_within 10 = .ok (.iload_n 2, 1) := by decide +kernel
theorem dX12_within_11 : decode cX12_within 11 = .ok (.if_icmp .le 7, 3) := by decide +kernel
theorem dX12_within_14 : decode cX12_within 14 = .ok (.iload_n 2, 1) := by decide +kernel
theorem dX12_within_15 : decode cX12_within 15 = .ok (.goto 4, 3) := by decide +kernel
theorem dX12_within_18 : decode cX12_within 18 = .ok (.iload_n 0, 1) := by decide +kernel
theorem dX12_within_19 : decode cX12_within 19 = .ok (.ireturn, 1) := by decide +kernel
theorem hd_X12_within : yX12_within.cls = RX12 ∧ yX12_within.cls ≠ "java/lang/invoke/MethodHandle" ∧ yX12_within.cls ≠ "java/lang/invoke/VarHandle" ∧ (parseMethodDescriptor yX12_within.desc).map (fun d => d.parameters.length) = some 3 := by decide +kernel
abbrev rm_X12_within : Room := { frames := 0, cells := 0, slots := 0, locals := 0 }
def F_X12_within (a1 : Int32) (a2 : Int32) (a3 : Int32) (σ : SG) (ρ : RG) : Option (Int32) :=
  if a2 ≤ a1 then
    if a1 ≤ a3 then
      some a1
    else
      some a3
  else
    some a2
set_option maxHeartbeats 4000000 in
set_option maxRecDepth 100000 in
theorem w_X12_within_0 {a1 : Int32} {a2 : Int32} {a3 : Int32} {p : Program} {e : Env} {s : State} {m : MethodId} {args : Array Value} {below : List Frame} {meth : Method} {c : Code} {σ0 : SG} {ρ0 : RG} {r : Int32} (C : Cx Y D N ad p s m args meth c cX12_within 3 (some .int) RX12 wsL_law) {σ : SG} {ρ : RG} {H : Heap} {locs : List Loc} {ls : Array Slot} (hσ0 : σ = σ0) (hρ0 : ρ = ρ0) (hL : Lay N K len ρ) (hF : F_X12_within a1 a2 a3 σ ρ = some r) (hP : WP Y D N ad K len σ ρ H) (hS : va_S (AA N ad s.heap.size) s.heap H locs) (hl : lv_has ls 3 [(0, .int a1), (1, .int a2), (2, .int a3)]) : W p l e rm_X12_within s m args below meth c H locs 0 0 (MQ below (QW Y D N ad K len σ0 ρ0 (AA N ad s.heap.size) (some (.int r))) args s 0 0 (AA N ad s.heap.size)) (F0 m 0 ls []) := by
  have hx := C.1.1
  have hb := C.1.2.1
  unfold F_X12_within at hF
  refine lv_iload_n hx hb dX12_within_0 rfl (lv_at hl 0 rfl) ?_
  refine lv_iload_n hx hb dX12_within_1 rfl (lv_at hl 1 rfl) ?_
  refine lv_icmp_ge (tgt := 9) hx hb dX12_within_2 (by decide) (fun c_1 => ?_) (fun c_1 => ?_) -- COND 1 by_cases c_1 : a2 ≤ a1
  · have hF := ite_t hF c_1
    refine lv_iload_n hx hb dX12_within_9 rfl (lv_at hl 0 rfl) ?_
    refine lv_iload_n hx hb dX12_within_10 rfl (lv_at hl 2 rfl) ?_
    refine lv_icmp_le (tgt := 18) hx hb dX12_within_11 (by decide) (fun c_2 => ?_) (fun c_2 => ?_) -- COND 2 by_cases c_2 : a1 ≤ a3
    · have hF := ite_t hF c_2
      refine lv_iload_n hx hb dX12_within_18 rfl (lv_at hl 0 rfl) ?_
      obtain rfl := ret_1 hF
      subst hσ0
      subst hρ0
      exact x_iret rfl C hP hS dX12_within_19
    · have hF := ite_f hF c_2
      refine lv_iload_n hx hb dX12_within_14 rfl (lv_at hl 2 rfl) ?_
      refine lv_goto (tgt := 19) hx hb dX12_within_15 (by decide) ?_
      obtain rfl := ret_1 hF
      subst hσ0
      subst hρ0
      exact x_iret rfl C hP hS dX12_within_19
  · have hF := ite_f hF c_1
    refine lv_iload_n hx hb dX12_within_5 rfl (lv_at hl 1 rfl) ?_
    refine lv_goto (tgt := 19) hx hb dX12_within_6 (by decide) ?_
    obtain rfl := ret_1 hF
    subst hσ0
    subst hρ0
    exact x_iret rfl C hP hS dX12_within_19
set_option maxHeartbeats 4000000 in
set_option maxRecDepth 100000 in
theorem c_X12_within {a1 : Int32} {a2 : Int32} {a3 : Int32} {r : Int32} {σ : SG} {ρ : RG} (hL : Lay N K len ρ) (hF : F_X12_within a1 a2 a3 σ ρ = some r) : MT l Y D N ad K len yX12_within (Cond.code yX12_within cX12_within 3 (some .int) :: wsL_law) rm_X12_within [.int a1, .int a2, .int a3] σ ρ (some (.int r)) σ ρ := by
  refine mt_of (cc := cX12_within) (nL := 3) (ret := (some .int)) (by decide) (Nat.le_of_ble_eq_true rfl) ?_
  intro p e s m args below meth c ls C hnm hP hS hl
  exact w_X12_within_0 C rfl rfl hL hF hP hS hl

/-! CutCrookedModel.private static int size(int);  -/
theorem dX12_size_0 : decode cX12_size 0 = .ok (.iload_n 0, 1) := by decide +kernel
theorem dX12_size_1 : decode cX12_size 1 = .ok (.ifCond .ge 8, 3) := by decide +kernel
theorem dX12_size_4 : decode cX12_size 4 = .ok (.iload_n 0, 1) := by decide +kernel
theorem dX12_size_5 : decode cX12_size 5 = .ok (.ineg, 1) := by decide +kernel
theorem dX12_size_6 : decode cX12_size 6 = .ok (.goto 4, 3) := by decide +kernel
theorem dX12_size_9 : decode cX12_size 9 = .ok (.iload_n 0, 1) := by decide +kernel
theorem dX12_size_10 : decode cX12_size 10 = .ok (.ireturn, 1) := by decide +kernel
theorem hd_X12_size : yX12_size.cls = RX12 ∧ yX12_size.cls ≠ "java/lang/invoke/MethodHandle" ∧ yX12_size.cls ≠ "java/lang/invoke/VarHandle" ∧ (parseMethodDescriptor yX12_size.desc).map (fun d => d.parameters.length) = some 1 := by decide +kernel
abbrev rm_X12_size : Room := { frames := 0, cells := 0, slots := 0, locals := 0 }
def F_X12_size (a1 : Int32) (σ : SG) (ρ : RG) : Option (Int32) :=
  if 0 ≤ a1 then
    some a1
  else
    nm (-a1) fun x2 =>
    some x2
set_option maxHeartbeats 4000000 in
set_option maxRecDepth 100000 in
theorem w_X12_size_0 {a1 : Int32} {p : Program} {e : Env} {s : State} {m : MethodId} {args : Array Value} {below : List Frame} {meth : Method} {c : Code} {σ0 : SG} {ρ0 : RG} {r : Int32} (C : Cx Y D N ad p s m args meth c cX12_size 1 (some .int) RX12 wsL_law) {σ : SG} {ρ : RG} {H : Heap} {locs : List Loc} {ls : Array Slot} (hσ0 : σ = σ0) (hρ0 : ρ = ρ0) (hL : Lay N K len ρ) (hF : F_X12_size a1 σ ρ = some r) (hP : WP Y D N ad K len σ ρ H) (hS : va_S (AA N ad s.heap.size) s.heap H locs) (hl : lv_has ls 1 [(0, .int a1)]) : W p l e rm_X12_size s m args below meth c H locs 0 0 (MQ below (QW Y D N ad K len σ0 ρ0 (AA N ad s.heap.size) (some (.int r))) args s 0 0 (AA N ad s.heap.size)) (F0 m 0 ls []) := by
  have hx := C.1.1
  have hb := C.1.2.1
  unfold F_X12_size at hF
  refine lv_iload_n hx hb dX12_size_0 rfl (lv_at hl 0 rfl) ?_
  refine lv_if_ge (tgt := 9) hx hb dX12_size_1 (by decide) (fun c_1 => ?_) (fun c_1 => ?_) -- COND 1 by_cases c_1 : 0 ≤ a1
  · have hF := ite_t hF c_1
    refine lv_iload_n hx hb dX12_size_9 rfl (lv_at hl 0 rfl) ?_
    obtain rfl := ret_1 hF
    subst hσ0
    subst hρ0
    exact x_iret rfl C hP hS dX12_size_10
  · have hF := ite_f hF c_1
    refine lv_iload_n hx hb dX12_size_4 rfl (lv_at hl 0 rfl) ?_
    refine lv_ineg hx hb dX12_size_5 ?_
    obtain ⟨x2, ex2, hF⟩ := nm_1 hF
    refine x_top ex2 ?_
    refine lv_goto (tgt := 10) hx hb dX12_size_6 (by decide) ?_
    obtain rfl := ret_1 hF
    subst hσ0
    subst hρ0
    exact x_iret rfl C hP hS dX12_size_10
set_option maxHeartbeats 4000000 in
set_option maxRecDepth 100000 in
theorem c_X12_size {a1 : Int32} {r : Int32} {σ : SG} {ρ : RG} (hL : Lay N K len ρ) (hF : F_X12_size a1 σ ρ = some r) : MT l Y D N ad K len yX12_size (Cond.code yX12_size cX12_size 1 (some .int) :: wsL_law) rm_X12_size [.int a1] σ ρ (some (.int r)) σ ρ := by
  refine mt_of (cc := cX12_size) (nL := 1) (ret := (some .int)) (by decide) (Nat.le_of_ble_eq_true rfl) ?_
  intro p e s m args below meth c ls C hnm hP hS hl
  exact w_X12_size_0 C rfl rfl hL hF hP hS hl

/-! CutCrookedModel.private boolean isCutter(int);  -/
theorem dX12_isCutter_0 : decode cX12_isCutter 0 = .ok (.iload_n 1, 1) := by decide +kernel
theorem dX12_isCutter_1 : decode cX12_isCutter 1 = .ok (.iconst 0, 1) := by decide +kernel
theorem dX12_isCutter_2 : decode cX12_isCutter 2 = .ok (.aload_n 0, 1) := by decide +kernel
theorem dX12_isCutter_3 : decode cX12_isCutter 3 = .ok (.getfield 9, 3) := by decide +kernel
theorem dX12_isCutter_6 : decode cX12_isCutter 6 = .ok (.bipush 11, 2) := by decide +kernel
theorem dX12_isCutter_8 : decode cX12_isCutter 8 = .ok (.iaload, 1) := by decide +kernel
theorem dX12_isCutter_9 : decode cX12_isCutter 9 = .ok (.iconst 1, 1) := by decide +kernel
theorem dX12_isCutter_10 : decode cX12_isCutter 10 = .ok (.isub, 1) := by decide +kernel
theorem dX12_isCutter_11 : decode cX12_isCutter 11 = .ok (.invokestatic 47, 3) := by decide +kernel
theorem dX12_isCutter_14 : decode cX12_isCutter 14 = .ok (.ireturn, 1) := by decide +kernel
theorem hd_X12_isCutter : yX12_isCutter.cls = RX12 ∧ yX12_isCutter.cls ≠ "java/lang/invoke/MethodHandle" ∧ yX12_isCutter.cls ≠ "java/lang/invoke/VarHandle" ∧ (parseMethodDescriptor yX12_isCutter.desc).map (fun d => d.parameters.length) = some 1 := by decide +kernel
abbrev rm_X12_isCutter : Room := { frames := 1, cells := 0, slots := 0, locals := 22 }
def F_X12_isCutter (a1 : Int32) (σ : SG) (ρ : RG) : Option (Int32) :=
  nm ((σ 55 11) - (1 : Int32)) fun x1 =>
  bn (F_X12_in a1 (0 : Int32) x1 σ ρ) fun r2 =>
  gd (isb r2) <|
  some r2
set_option maxHeartbeats 4000000 in
set_option maxRecDepth 100000 in
theorem w_X12_isCutter_0 {a1 : Int32} {p : Program} {e : Env} {s : State} {m : MethodId} {args : Array Value} {below : List Frame} {meth : Method} {c : Code} {σ0 : SG} {ρ0 : RG} {r : Int32} (C : Cx Y D N ad p s m args meth c cX12_isCutter 2 (some .boolean) RX12 wsL_law) {σ : SG} {ρ : RG} {H : Heap} {locs : List Loc} {ls : Array Slot} (hσ0 : σ = σ0) (hρ0 : ρ = ρ0) (hL : Lay N K len ρ) (hF : F_X12_isCutter a1 σ ρ = some r) (hP : WP Y D N ad K len σ ρ H) (hS : va_S (AA N ad s.heap.size) s.heap H locs) (hl : lv_has ls 2 [(0, .ref (ad 54)), (1, .int a1)]) : W p l e rm_X12_isCutter s m args below meth c H locs 0 0 (MQ below (QW Y D N ad K len σ0 ρ0 (AA N ad s.heap.size) (some (.int r))) args s 0 0 (AA N ad s.heap.size)) (F0 m 0 ls []) := by
  have hx := C.1.1
  have hb := C.1.2.1
  unfold F_X12_isCutter at hF
  refine lv_iload_n hx hb dX12_isCutter_0 rfl (lv_at hl 1 rfl) ?_
  refine lv_iconst (v := 0) hx hb dX12_isCutter_1 (by decide) ?_
  refine lv_aload_n hx hb dX12_isCutter_2 rfl (lv_at hl 0 rfl) ?_
  refine get_12_1 C hP (lr_54 hL) (lk_54 hL) inlX12 mw_81 (lf_54_1 hL) dX12_isCutter_3 ?_
  refine lv_bipush (v := 11) hx hb dX12_isCutter_6 (by decide +kernel) ?_
  refine x_iald C hP (lr_55 hL) (lk_55 hL) (ln_55 hL) (by decide +kernel) dX12_isCutter_8 ?_
  rw [cl_11]
  refine lv_iconst (v := 1) hx hb dX12_isCutter_9 (by decide) ?_
  refine lv_isub hx hb dX12_isCutter_10 ?_
  obtain ⟨x1, ex1, hF⟩ := nm_1 hF
  refine x_top ex1 ?_
  obtain ⟨r2, hq2, hF⟩ := bn_1 hF
  refine x_callS C hP hS (c_X12_in hL hq2) (va_cwS 3 C.1.2.2.2.2 (gdS mw_104 mw_105 mw_5 mw_106) rfl rfl rfl hd_X12_in.2 ⟨Nat.le_of_ble_eq_true rfl, Nat.le_of_ble_eq_true rfl⟩) rfl rfl hl.1 (Nat.le_of_ble_eq_true rfl) ⟨Nat.zero_le _, Nat.zero_le _⟩ dX12_isCutter_11 (fun H locs hP hS => ?_)
  obtain ⟨gr, hF⟩ := gd_1 hF
  obtain rfl := ret_1 hF
  subst hσ0
  subst hρ0
  exact x_zret rfl gr C hP hS dX12_isCutter_14
set_option maxHeartbeats 4000000 in
set_option maxRecDepth 100000 in
theorem c_X12_isCutter {a1 : Int32} {r : Int32} {σ : SG} {ρ : RG} (hL : Lay N K len ρ) (hF : F_X12_isCutter a1 σ ρ = some r) : MT l Y D N ad K len yX12_isCutter (Cond.code yX12_isCutter cX12_isCutter 2 (some .boolean) :: wsL_law) rm_X12_isCutter [.ref (ad 54), .int a1] σ ρ (some (.int r)) σ ρ := by
  refine mt_of (cc := cX12_isCutter) (nL := 2) (ret := (some .boolean)) (by decide) (Nat.le_of_ble_eq_true rfl) ?_
  intro p e s m args below meth c ls C hnm hP hS hl
  exact w_X12_isCutter_0 C rfl rfl hL hF hP hS hl

/-! CutCrookedModel.private void keeps();  -/
theorem dX12_keeps_0 : decode cX12_keeps 0 = .ok (.iconst 0, 1) := by decide +kernel
theorem dX12_keeps_1 : decode cX12_keeps 1 = .ok (.istore_n 1, 1) := by decide +kernel
theorem dX12_keeps_2 : decode cX12_keeps 2 = .ok (.iload_n 1, 1) := by decide +kernel
theorem dX12_keeps_3 : decode cX12_keeps 3 = .ok (.bipush 11, 2) := by decide +kernel
theorem dX12_keeps_5 : decode cX12_keeps 5 = .ok (.if_icmp .ge 21, 3) := by decide +kernel
theorem dX12_keeps_8 : decode cX12_keeps 8 = .ok (.aload_n 0, 1) := by decide +kernel
theorem dX12_keeps_9 : decode cX12_keeps 9 = .ok (.getfield 18, 3) := by decide +kernel
theorem dX12_keeps_12 : decode cX12_keeps 12 = .ok (.iload_n 1, 1) := by decide +kernel
theorem dX12_keeps_13 : decode cX12_keeps 13 = .ok (.aload_n 0, 1) := by decide +kernel
theorem dX12_keeps_14 : decode cX12_keeps 14 = .ok (.getfield 9, 3) := by decide +kernel
theorem dX12_keeps_17 : decode cX12_keeps 17 = .ok (.iload_n 1, 1) := by decide +kernel
theorem dX12_keeps_18 : decode cX12_keeps 18 = .ok (.iaload, 1) := by decide +kernel
theorem dX12_keeps_19 : decode cX12_keeps 19 = .ok (.iastore, 1) := by decide +kernel
theorem dX12_keeps_20 : decode cX12_keeps 20 = .ok (.iinc 1 1, 3) := by decide +kernel
theorem dX12_keeps_23 : decode cX12_keeps 23 = .ok (.goto (-21), 3) := by decide +kernel
theorem dX12_keeps_26 : decode cX12_keeps 26 = .ok (.return_, 1) := by decide +kernel
theorem hd_X12_keeps : yX12_keeps.cls = RX12 ∧ yX12_keeps.cls ≠ "java/lang/invoke/MethodHandle" ∧ yX12_keeps.cls ≠ "java/lang/invoke/VarHandle" ∧ (parseMethodDescriptor yX12_keeps.desc).map (fun d => d.parameters.length) = some 0 := by decide +kernel
abbrev rm_X12_keeps : Room := { frames := 0, cells := 0, slots := 0, locals := 0 }
def F_X12_keeps_2  : Nat → SG → RG → Int32 → Option (SG)
  | 0 => fun _ _ _ => none
  | n + 1 => fun σ ρ v1 =>
  if (11 : Int32) ≤ v1 then
    some σ
  else
    gd (inb v1 909) <|
    gd (inb v1 11) <|
    nm (s2 σ 57 (v1).toNatClampNeg (σ 55 (v1).toNatClampNeg)) fun σ5 =>
    nm (v1 + (1 : Int32)) fun x6 =>
    F_X12_keeps_2 n σ5 ρ x6
def F_X12_keeps  (σ : SG) (ρ : RG) : Option (SG) :=
  F_X12_keeps_2 1024 σ ρ (0 : Int32)
set_option maxHeartbeats 4000000 in
set_option maxRecDepth 100000 in
theorem w_X12_keeps_2  {p : Program} {e : Env} {s : State} {m : MethodId} {args : Array Value} {below : List Frame} {meth : Method} {c : Code} {ρ0 : RG} {σ1 : SG} (C : Cx Y D N ad p s m args meth c cX12_keeps 2 none RX12 wsL_law) : ∀ (n : Nat) (σ : SG) (ρ : RG) (v1 : Int32) (H : Heap) (locs : List Loc) (ls : Array Slot), ρ = ρ0 → Lay N K len ρ → F_X12_keeps_2 n σ ρ v1 = some σ1 → WP Y D N ad K len σ ρ H → va_S (AA N ad s.heap.size) s.heap H locs → lv_has ls 2 [(0, .ref (ad 54)), (1, .int v1)] → W p l e rm_X12_keeps s m args below meth c H locs 0 0 (MQ below (QW Y D N ad K len σ1 ρ0 (AA N ad s.heap.size) none) args s 0 0 (AA N ad s.heap.size)) (F0 m 2 ls []) := by
  have hx := C.1.1
  have hb := C.1.2.1
  intro n
  induction n with
  | zero => intro σ ρ v1 H locs ls hρ0 hL hF; cases hF
  | succ n ih =>
    intro σ ρ v1 H locs ls hρ0 hL hF hP hS hl
    unfold F_X12_keeps_2 at hF
    refine lv_iload_n hx hb dX12_keeps_2 rfl (lv_at hl 1 rfl) ?_
    refine lv_bipush (v := 11) hx hb dX12_keeps_3 (by decide +kernel) ?_
    refine lv_icmp_ge (tgt := 26) hx hb dX12_keeps_5 (by decide) (fun c_1 => ?_) (fun c_1 => ?_) -- COND 1 by_cases c_1 : (11 : Int32) ≤ v1
    · have hF := ite_t hF c_1
      obtain rfl := ret_1 hF
      subst hρ0
      exact x_vret rfl C hP hS dX12_keeps_26
    · have hF := ite_f hF c_1
      refine lv_aload_n hx hb dX12_keeps_8 rfl (lv_at hl 0 rfl) ?_
      refine get_12_3 C hP (lr_54 hL) (lk_54 hL) inlX12 mw_83 (lf_54_3 hL) dX12_keeps_9 ?_
      refine lv_iload_n hx hb dX12_keeps_12 rfl (lv_at hl 1 rfl) ?_
      refine lv_aload_n hx hb dX12_keeps_13 rfl (lv_at hl 0 rfl) ?_
      refine get_12_1 C hP (lr_54 hL) (lk_54 hL) inlX12 mw_81 (lf_54_1 hL) dX12_keeps_14 ?_
      refine lv_iload_n hx hb dX12_keeps_17 rfl (lv_at hl 1 rfl) ?_
      obtain ⟨g2, hF⟩ := gd_1 hF
      refine x_iald C hP (lr_55 hL) (lk_55 hL) (ln_55 hL) g2 dX12_keeps_18 ?_
      obtain ⟨g3, hF⟩ := gd_1 hF
      obtain ⟨σ5, eσ5, hF⟩ := nm_1 hF
      refine x_iast (σ1 := σ5) C hP hS (lr_57 hL) (lk_57 hL) (ln_57 hL) g3 eσ5 dX12_keeps_19 (fun H locs hP hS => ?_)
      obtain ⟨x6, ex6, hF⟩ := nm_1 hF
      refine lv_iinc (v := x6) (lv' := [(1, .int x6), (0, .ref (ad 54))]) hx hb dX12_keeps_20 hl (k := 1) rfl (by rw [ex6]; first | rfl | decide) (by decide) rfl (fun ls hl => ?_)
      refine lv_goto (tgt := 2) hx hb dX12_keeps_23 (by decide) ?_
      exact ih _ _ _ _ _ _ hρ0 hL hF hP hS (lv_sub hl [1, 0] rfl)
set_option maxHeartbeats 4000000 in
set_option maxRecDepth 100000 in
theorem w_X12_keeps_0  {p : Program} {e : Env} {s : State} {m : MethodId} {args : Array Value} {below : List Frame} {meth : Method} {c : Code} {ρ0 : RG} {σ1 : SG} (C : Cx Y D N ad p s m args meth c cX12_keeps 2 none RX12 wsL_law) {σ : SG} {ρ : RG} {H : Heap} {locs : List Loc} {ls : Array Slot} (hρ0 : ρ = ρ0) (hL : Lay N K len ρ) (hF : F_X12_keeps σ ρ = some σ1) (hP : WP Y D N ad K len σ ρ H) (hS : va_S (AA N ad s.heap.size) s.heap H locs) (hl : lv_has ls 2 [(0, .ref (ad 54))]) : W p l e rm_X12_keeps s m args below meth c H locs 0 0 (MQ below (QW Y D N ad K len σ1 ρ0 (AA N ad s.heap.size) none) args s 0 0 (AA N ad s.heap.size)) (F0 m 0 ls []) := by
  have hx := C.1.1
  have hb := C.1.2.1
  unfold F_X12_keeps at hF
  refine lv_iconst (v := 0) hx hb dX12_keeps_0 (by decide) ?_
  refine lv_istore_n (lv' := [(1, .int (0 : Int32)), (0, .ref (ad 54))]) hx hb dX12_keeps_1 rfl hl (by decide) rfl (fun ls hl => ?_)
  exact w_X12_keeps_2 C 1024 _ _ _ _ _ _ hρ0 hL hF hP hS (lv_sub hl [1, 0] rfl)
set_option maxHeartbeats 4000000 in
set_option maxRecDepth 100000 in
theorem c_X12_keeps  {σ1 : SG} {σ : SG} {ρ : RG} (hL : Lay N K len ρ) (hF : F_X12_keeps σ ρ = some σ1) : MT l Y D N ad K len yX12_keeps (Cond.code yX12_keeps cX12_keeps 2 none :: wsL_law) rm_X12_keeps [.ref (ad 54)] σ ρ none σ1 ρ := by
  refine mt_of (cc := cX12_keeps) (nL := 2) (ret := none) (by decide) (Nat.le_of_ble_eq_true rfl) ?_
  intro p e s m args below meth c ls C hnm hP hS hl
  exact w_X12_keeps_0 C rfl hL hF hP hS hl

/-! CutCrookedModel.private void goesBack();  -/
theorem dX12_goesBack_0 : decode cX12_goesBack 0 = .ok (.iconst 0, 1) := by decide +kernel
theorem dX12_goesBack_1 : decode cX12_goesBack 1 = .ok (.istore_n 1, 1) := by decide +kernel
theorem dX12_goesBack_2 : decode cX12_goesBack 2 = .ok (.iload_n 1, 1) := by decide +kernel
theorem dX12_goesBack_3 : decode cX12_goesBack 3 = .ok (.bipush 11, 2) := by decide +kernel
theorem dX12_goesBack_5 : decode cX12_goesBack 5 = .ok (.if_icmp .ge 21, 3) := by decide +kernel
theorem dX12_goesBack_8 : decode cX12_goesBack 8 = .ok (.aload_n 0, 1) := by decide +kernel
theorem dX12_goesBack_9 : decode cX12_goesBack 9 = .ok (.getfield 9, 3) := by decide +kernel
theorem dX12_goesBack_12 : decode cX12_goesBack 12 = .ok (.iload_n 1, 1) := by decide +kernel
theorem dX12_goesBack_13 : decode cX12_goesBack 13 = .ok (.aload_n 0, 1) := by decide +kernel
theorem dX12_goesBack_14 : decode cX12_goesBack 14 = .ok (.getfield 18, 3) := by decide +kernel
theorem dX12_goesBack_17 : decode cX12_goesBack 17 = .ok (.iload_n 1, 1) := by decide +kernel
theorem dX12_goesBack_18 : decode cX12_goesBack 18 = .ok (.iaload, 1) := by decide +kernel
theorem dX12_goesBack_19 : decode cX12_goesBack 19 = .ok (.iastore, 1) := by decide +kernel
theorem dX12_goesBack_20 : decode cX12_goesBack 20 = .ok (.iinc 1 1, 3) := by decide +kernel
theorem dX12_goesBack_23 : decode cX12_goesBack 23 = .ok (.goto (-21), 3) := by decide +kernel
theorem dX12_goesBack_26 : decode cX12_goesBack 26 = .ok (.return_, 1) := by decide +kernel
theorem hd_X12_goesBack : yX12_goesBack.cls = RX12 ∧ yX12_goesBack.cls ≠ "java/lang/invoke/MethodHandle" ∧ yX12_goesBack.cls ≠ "java/lang/invoke/VarHandle" ∧ (parseMethodDescriptor yX12_goesBack.desc).map (fun d => d.parameters.length) = some 0 := by decide +kernel
abbrev rm_X12_goesBack : Room := { frames := 0, cells := 0, slots := 0, locals := 0 }
def F_X12_goesBack_2  : Nat → SG → RG → Int32 → Option (SG)
  | 0 => fun _ _ _ => none
  | n + 1 => fun σ ρ v1 =>
  if (11 : Int32) ≤ v1 then
    some σ
  else
    gd (inb v1 11) <|
    gd (inb v1 909) <|
    nm (s2 σ 55 (v1).toNatClampNeg (σ 57 (v1).toNatClampNeg)) fun σ5 =>
    nm (v1 + (1 : Int32)) fun x6 =>
    F_X12_goesBack_2 n σ5 ρ x6
def F_X12_goesBack  (σ : SG) (ρ : RG) : Option (SG) :=
  F_X12_goesBack_2 1024 σ ρ (0 : Int32)
set_option maxHeartbeats 4000000 in
set_option maxRecDepth 100000 in
theorem w_X12_goesBack_2  {p : Program} {e : Env} {s : State} {m : MethodId} {args : Array Value} {below : List Frame} {meth : Method} {c : Code} {ρ0 : RG} {σ1 : SG} (C : Cx Y D N ad p s m args meth c cX12_goesBack 2 none RX12 wsL_law) : ∀ (n : Nat) (σ : SG) (ρ : RG) (v1 : Int32) (H : Heap) (locs : List Loc) (ls : Array Slot), ρ = ρ0 → Lay N K len ρ → F_X12_goesBack_2 n σ ρ v1 = some σ1 → WP Y D N ad K len σ ρ H → va_S (AA N ad s.heap.size) s.heap H locs → lv_has ls 2 [(0, .ref (ad 54)), (1, .int v1)] → W p l e rm_X12_goesBack s m args below meth c H locs 0 0 (MQ below (QW Y D N ad K len σ1 ρ0 (AA N ad s.heap.size) none) args s 0 0 (AA N ad s.heap.size)) (F0 m 2 ls []) := by
  have hx := C.1.1
  have hb := C.1.2.1
  intro n
  induction n with
  | zero => intro σ ρ v1 H locs ls hρ0 hL hF; cases hF
  | succ n ih =>
    intro σ ρ v1 H locs ls hρ0 hL hF hP hS hl
    unfold F_X12_goesBack_2 at hF
    refine lv_iload_n hx hb dX12_goesBack_2 rfl (lv_at hl 1 rfl) ?_
    refine lv_bipush (v := 11) hx hb dX12_goesBack_3 (by decide +kernel) ?_
    refine lv_icmp_ge (tgt := 26) hx hb dX12_goesBack_5 (by decide) (fun c_1 => ?_) (fun c_1 => ?_) -- COND 1 by_cases c_1 : (11 : Int32) ≤ v1
    · have hF := ite_t hF c_1
      obtain rfl := ret_1 hF
      subst hρ0
      exact x_vret rfl C hP hS dX12_goesBack_26
    · have hF := ite_f hF c_1
      refine lv_aload_n hx hb dX12_goesBack_8 rfl (lv_at hl 0 rfl) ?_
      refine get_12_1 C hP (lr_54 hL) (lk_54 hL) inlX12 mw_81 (lf_54_1 hL) dX12_goesBack_9 ?_
      refine lv_iload_n hx hb dX12_goesBack_12 rfl (lv_at hl 1 rfl) ?_
      refine lv_aload_n hx hb dX12_goesBack_13 rfl (lv_at hl 0 rfl) ?_
      refine get_12_3 C hP (lr_54 hL) (lk_54 hL) inlX12 mw_83 (lf_54_3 hL) dX12_goesBack_14 ?_
      refine lv_iload_n hx hb dX12_goesBack_17 rfl (lv_at hl 1 rfl) ?_
      obtain ⟨g2, hF⟩ := gd_1 hF
      refine x_iald C hP (lr_57 hL) (lk_57 hL) (ln_57 hL) g2 dX12_goesBack_18 ?_
      obtain ⟨g3, hF⟩ := gd_1 hF
      obtain ⟨σ5, eσ5, hF⟩ := nm_1 hF
      refine x_iast (σ1 := σ5) C hP hS (lr_55 hL) (lk_55 hL) (ln_55 hL) g3 eσ5 dX12_goesBack_19 (fun H locs hP hS => ?_)
      obtain ⟨x6, ex6, hF⟩ := nm_1 hF
      refine lv_iinc (v := x6) (lv' := [(1, .int x6), (0, .ref (ad 54))]) hx hb dX12_goesBack_20 hl (k := 1) rfl (by rw [ex6]; first | rfl | decide) (by decide) rfl (fun ls hl => ?_)
      refine lv_goto (tgt := 2) hx hb dX12_goesBack_23 (by decide) ?_
      exact ih _ _ _ _ _ _ hρ0 hL hF hP hS (lv_sub hl [1, 0] rfl)
set_option maxHeartbeats 4000000 in
set_option maxRecDepth 100000 in
theorem w_X12_goesBack_0  {p : Program} {e : Env} {s : State} {m : MethodId} {args : Array Value} {below : List Frame} {meth : Method} {c : Code} {ρ0 : RG} {σ1 : SG} (C : Cx Y D N ad p s m args meth c cX12_goesBack 2 none RX12 wsL_law) {σ : SG} {ρ : RG} {H : Heap} {locs : List Loc} {ls : Array Slot} (hρ0 : ρ = ρ0) (hL : Lay N K len ρ) (hF : F_X12_goesBack σ ρ = some σ1) (hP : WP Y D N ad K len σ ρ H) (hS : va_S (AA N ad s.heap.size) s.heap H locs) (hl : lv_has ls 2 [(0, .ref (ad 54))]) : W p l e rm_X12_goesBack s m args below meth c H locs 0 0 (MQ below (QW Y D N ad K len σ1 ρ0 (AA N ad s.heap.size) none) args s 0 0 (AA N ad s.heap.size)) (F0 m 0 ls []) := by
  have hx := C.1.1
  have hb := C.1.2.1
  unfold F_X12_goesBack at hF
  refine lv_iconst (v := 0) hx hb dX12_goesBack_0 (by decide) ?_
  refine lv_istore_n (lv' := [(1, .int (0 : Int32)), (0, .ref (ad 54))]) hx hb dX12_goesBack_1 rfl hl (by decide) rfl (fun ls hl => ?_)
  exact w_X12_goesBack_2 C 1024 _ _ _ _ _ _ hρ0 hL hF hP hS (lv_sub hl [1, 0] rfl)
set_option maxHeartbeats 4000000 in
set_option maxRecDepth 100000 in
theorem c_X12_goesBack  {σ1 : SG} {σ : SG} {ρ : RG} (hL : Lay N K len ρ) (hF : F_X12_goesBack σ ρ = some σ1) : MT l Y D N ad K len yX12_goesBack (Cond.code yX12_goesBack cX12_goesBack 2 none :: wsL_law) rm_X12_goesBack [.ref (ad 54)] σ ρ none σ1 ρ := by
  refine mt_of (cc := cX12_goesBack) (nL := 2) (ret := none) (by decide) (Nat.le_of_ble_eq_true rfl) ?_
  intro p e s m args below meth c ls C hnm hP hS hl
  exact w_X12_goesBack_0 C rfl hL hF hP hS hl

/-! CutCrookedModel.public int feed(int);  -/
theorem dX12_feed_0 : decode cX12_feed 0 = .ok (.iload_n 1, 1) := by decide +kernel
theorem dX12_feed_1 : decode cX12_feed 1 = .ok (.iconst 0, 1) := by decide +kernel
theorem dX12_feed_2 : decode cX12_feed 2 = .ok (.bipush 127, 2) := by decide +kernel
theorem dX12_feed_4 : decode cX12_feed 4 = .ok (.invokestatic 47, 3) := by decide +kernel
theorem dX12_feed_7 : decode cX12_feed 7 = .ok (.ifCond .ne 6, 3) := by decide +kernel
theorem dX12_feed_10 : decode cX12_feed 10 = .ok (.bipush (-2), 2) := by decide +kernel
theorem dX12_feed_12 : decode cX12_feed 12 = .ok (.ireturn, 1) := by decide +kernel
theorem dX12_feed_13 : decode cX12_feed 13 = .ok (.aload_n 0, 1) := by decide +kernel
theorem dX12_feed_14 : decode cX12_feed 14 = .ok (.getfield 9, 3) := by decide +kernel
theorem dX12_feed_17 : decode cX12_feed 17 = .ok (.bipush 15, 2) := by decide +kernel
theorem dX12_feed_19 : decode cX12_feed 19 = .ok (.iaload, 1) := by decide +kernel
theorem dX12_feed_20 : decode cX12_feed 20 = .ok (.bipush 100, 2) := by decide +kernel
theorem dX12_feed_22 : decode cX12_feed 22 = .ok (.if_icmp .ne 6, 3) := by decide +kernel
theorem dX12_feed_25 : decode cX12_feed 25 = .ok (.bipush (-4), 2) := by decide +kernel
theorem dX12_feed_27 : decode cX12_feed 27 = .ok (.ireturn, 1) := by decide +kernel
theorem dX12_feed_28 : decode cX12_feed 28 = .ok (.aload_n 0, 1) := by decide +kernel
theorem dX12_feed_29 : decode cX12_feed 29 = .ok (.getfield 9, 3) := by decide +kernel
theorem dX12_feed_32 : decode cX12_feed 32 = .ok (.bipush 94, 2) := by decide +kernel
theorem dX12_feed_34 : decode cX12_feed 34 = .ok (.aload_n 0, 1) := by decide +kernel
theorem dX12_feed_35 : decode cX12_feed 35 = .ok (.getfield 9, 3) := by decide +kernel
theorem dX12_feed_38 : decode cX12_feed 38 = .ok (.bipush 15, 2) := by decide +kernel
theorem dX12_feed_40 : decode cX12_feed 40 = .ok (.iaload, 1) := by decide +kernel
theorem dX12_feed_41 : decode cX12_feed 41 = .ok (.iadd, 1) := by decide +kernel
theorem dX12_feed_42 : decode cX12_feed 42 = .ok (.iload_n 1, 1) := by decide +kernel
theorem dX12_feed_43 : decode cX12_feed 43 = .ok (.iastore, 1) := by decide +kernel
theorem dX12_feed_44 : decode cX12_feed 44 = .ok (.aload_n 0, 1) := by decide +kernel
theorem dX12_feed_45 : decode cX12_feed 45 = .ok (.getfield 9, 3) := by decide +kernel
theorem dX12_feed_48 : decode cX12_feed 48 = .ok (.bipush 15, 2) := by decide +kernel
theorem dX12_feed_50 : decode cX12_feed 50 = .ok (.dup2, 1) := by decide +kernel
theorem dX12_feed_51 : decode cX12_feed 51 = .ok (.iaload, 1) := by decide +kernel
theorem dX12_feed_52 : decode cX12_feed 52 = .ok (.iconst 1, 1) := by decide +kernel
theorem dX12_feed_53 : decode cX12_feed 53 = .ok (.iadd, 1) := by decide +kernel
theorem dX12_feed_54 : decode cX12_feed 54 = .ok (.iastore, 1) := by decide +kernel
theorem dX12_feed_55 : decode cX12_feed 55 = .ok (.aload_n 0, 1) := by decide +kernel
theorem dX12_feed_56 : decode cX12_feed 56 = .ok (.getfield 9, 3) := by decide +kernel
theorem dX12_feed_59 : decode cX12_feed 59 = .ok (.bipush 15, 2) := by decide +kernel
theorem dX12_feed_61 : decode cX12_feed 61 = .ok (.iaload, 1) := by decide +kernel
theorem dX12_feed_62 : decode cX12_feed 62 = .ok (.ireturn, 1) := by decide +kernel
theorem hd_X12_feed : yX12_feed.cls = RX12 ∧ yX12_feed.cls ≠ "java/lang/invoke/MethodHandle" ∧ yX12_feed.cls ≠ "java/lang/invoke/VarHandle" ∧ (parseMethodDescriptor yX12_feed.desc).map (fun d => d.parameters.length) = some 1 := by decide +kernel
abbrev rm_X12_feed : Room := { frames := 1, cells := 0, slots := 0, locals := 22 }
def F_X12_feed (a1 : Int32) (σ : SG) (ρ : RG) : Option (Int32 × SG) :=
  bn (F_X12_in a1 (0 : Int32) (127 : Int32) σ ρ) fun r1 =>
  if r1 = 0 then
    some ((-2 : Int32), σ)
  else
    if (σ 55 15) = (100 : Int32) then
      some ((-4 : Int32), σ)
    else
      nm ((94 : Int32) + (σ 55 15)) fun x4 =>
      gd (inb x4 909) <|
      nm (s2 σ 55 (x4).toNatClampNeg a1) fun σ7 =>
      nm ((σ7 55 15) + (1 : Int32)) fun x8 =>
      nm (s2 σ7 55 15 x8) fun σ10 =>
      some ((σ10 55 15), σ10)
set_option maxHeartbeats 4000000 in
set_option maxRecDepth 100000 in
theorem w_X12_feed_0 {a1 : Int32} {p : Program} {e : Env} {s : State} {m : MethodId} {args : Array Value} {below : List Frame} {meth : Method} {c : Code} {ρ0 : RG} {r : Int32} {σ1 : SG} (C : Cx Y D N ad p s m args meth c cX12_feed 2 (some .int) RX12 wsL_law) {σ : SG} {ρ : RG} {H : Heap} {locs : List Loc} {ls : Array Slot} (hρ0 : ρ = ρ0) (hL : Lay N K len ρ) (hF : F_X12_feed a1 σ ρ = some (r, σ1)) (hP : WP Y D N ad K len σ ρ H) (hS : va_S (AA N ad s.heap.size) s.heap H locs) (hl : lv_has ls 2 [(0, .ref (ad 54)), (1, .int a1)]) : W p l e rm_X12_feed s m args below meth c H locs 0 0 (MQ below (QW Y D N ad K len σ1 ρ0 (AA N ad s.heap.size) (some (.int r))) args s 0 0 (AA N ad s.heap.size)) (F0 m 0 ls []) := by
  have hx := C.1.1
  have hb := C.1.2.1
  unfold F_X12_feed at hF
  refine lv_iload_n hx hb dX12_feed_0 rfl (lv_at hl 1 rfl) ?_
  refine lv_iconst (v := 0) hx hb dX12_feed_1 (by decide) ?_
  refine lv_bipush (v := 127) hx hb dX12_feed_2 (by decide +kernel) ?_
  obtain ⟨r1, hq1, hF⟩ := bn_1 hF
  refine x_callS C hP hS (c_X12_in hL hq1) (va_cwS 3 C.1.2.2.2.2 (gdS mw_104 mw_105 mw_5 mw_106) rfl rfl rfl hd_X12_in.2 ⟨Nat.le_of_ble_eq_true rfl, Nat.le_of_ble_eq_true rfl⟩) rfl rfl hl.1 (Nat.le_of_ble_eq_true rfl) ⟨Nat.zero_le _, Nat.zero_le _⟩ dX12_feed_4 (fun H locs hP hS => ?_)
  refine lv_if_ne (tgt := 13) hx hb dX12_feed_7 (by decide) (fun c_2 => ?_) (fun c_2 => ?_) -- COND 2 rcases (Decidable.em (r1 = 0)).symm with c_2 | c_2
  · have hF := ite_f hF c_2
    refine lv_aload_n hx hb dX12_feed_13 rfl (lv_at hl 0 rfl) ?_
    refine get_12_1 C hP (lr_54 hL) (lk_54 hL) inlX12 mw_81 (lf_54_1 hL) dX12_feed_14 ?_
    refine lv_bipush (v := 15) hx hb dX12_feed_17 (by decide +kernel) ?_
    refine x_iald C hP (lr_55 hL) (lk_55 hL) (ln_55 hL) (by decide +kernel) dX12_feed_19 ?_
    rw [cl_15]
    refine lv_bipush (v := 100) hx hb dX12_feed_20 (by decide +kernel) ?_
    refine lv_icmp_ne (tgt := 28) hx hb dX12_feed_22 (by decide) (fun c_3 => ?_) (fun c_3 => ?_) -- COND 3 rcases (Decidable.em ((σ 55 15) = (100 : Int32))).symm with c_3 | c_3
    · have hF := ite_f hF c_3
      refine lv_aload_n hx hb dX12_feed_28 rfl (lv_at hl 0 rfl) ?_
      refine get_12_1 C hP (lr_54 hL) (lk_54 hL) inlX12 mw_81 (lf_54_1 hL) dX12_feed_29 ?_
      refine lv_bipush (v := 94) hx hb dX12_feed_32 (by decide +kernel) ?_
      refine lv_aload_n hx hb dX12_feed_34 rfl (lv_at hl 0 rfl) ?_
      refine get_12_1 C hP (lr_54 hL) (lk_54 hL) inlX12 mw_81 (lf_54_1 hL) dX12_feed_35 ?_
      refine lv_bipush (v := 15) hx hb dX12_feed_38 (by decide +kernel) ?_
      refine x_iald C hP (lr_55 hL) (lk_55 hL) (ln_55 hL) (by decide +kernel) dX12_feed_40 ?_
      rw [cl_15]
      refine lv_iadd hx hb dX12_feed_41 ?_
      obtain ⟨x4, ex4, hF⟩ := nm_1 hF
      refine x_top ex4 ?_
      refine lv_iload_n hx hb dX12_feed_42 rfl (lv_at hl 1 rfl) ?_
      obtain ⟨g5, hF⟩ := gd_1 hF
      obtain ⟨σ7, eσ7, hF⟩ := nm_1 hF
      refine x_iast (σ1 := σ7) C hP hS (lr_55 hL) (lk_55 hL) (ln_55 hL) g5 eσ7 dX12_feed_43 (fun H locs hP hS => ?_)
      refine lv_aload_n hx hb dX12_feed_44 rfl (lv_at hl 0 rfl) ?_
      refine get_12_1 C hP (lr_54 hL) (lk_54 hL) inlX12 mw_81 (lf_54_1 hL) dX12_feed_45 ?_
      refine lv_bipush (v := 15) hx hb dX12_feed_48 (by decide +kernel) ?_
      refine lv_dup2_11 hx hb dX12_feed_50 rfl rfl ?_
      refine x_iald C hP (lr_55 hL) (lk_55 hL) (ln_55 hL) (by decide +kernel) dX12_feed_51 ?_
      rw [cl_15]
      refine lv_iconst (v := 1) hx hb dX12_feed_52 (by decide) ?_
      refine lv_iadd hx hb dX12_feed_53 ?_
      obtain ⟨x8, ex8, hF⟩ := nm_1 hF
      refine x_top ex8 ?_
      obtain ⟨σ10, eσ10, hF⟩ := nm_1 hF
      refine x_iast (σ1 := σ10) C hP hS (lr_55 hL) (lk_55 hL) (ln_55 hL) (by decide +kernel) (by rw [cl_15]; exact eσ10) dX12_feed_54 (fun H locs hP hS => ?_)
      refine lv_aload_n hx hb dX12_feed_55 rfl (lv_at hl 0 rfl) ?_
      refine get_12_1 C hP (lr_54 hL) (lk_54 hL) inlX12 mw_81 (lf_54_1 hL) dX12_feed_56 ?_
      refine lv_bipush (v := 15) hx hb dX12_feed_59 (by decide +kernel) ?_
      refine x_iald C hP (lr_55 hL) (lk_55 hL) (ln_55 hL) (by decide +kernel) dX12_feed_61 ?_
      rw [cl_15]
      obtain ⟨rfl, rfl⟩ := ret_2 hF
      subst hρ0
      exact x_iret rfl C hP hS dX12_feed_62
    · have hF := ite_t hF c_3
      refine lv_bipush (v := -4) hx hb dX12_feed_25 (by decide +kernel) ?_
      obtain ⟨rfl, rfl⟩ := ret_2 hF
      subst hρ0
      exact x_iret rfl C hP hS dX12_feed_27
  · have hF := ite_t hF c_2
    refine lv_bipush (v := -2) hx hb dX12_feed_10 (by decide +kernel) ?_
    obtain ⟨rfl, rfl⟩ := ret_2 hF
    subst hρ0
    exact x_iret rfl C hP hS dX12_feed_12
set_option maxHeartbeats 4000000 in
set_option maxRecDepth 100000 in
theorem c_X12_feed {a1 : Int32} {r : Int32} {σ1 : SG} {σ : SG} {ρ : RG} (hL : Lay N K len ρ) (hF : F_X12_feed a1 σ ρ = some (r, σ1)) : MT l Y D N ad K len yX12_feed (Cond.code yX12_feed cX12_feed 2 (some .int) :: wsL_law) rm_X12_feed [.ref (ad 54), .int a1] σ ρ (some (.int r)) σ1 ρ := by
  refine mt_of (cc := cX12_feed) (nL := 2) (ret := (some .int)) (by decide) (Nat.le_of_ble_eq_true rfl) ?_
  intro p e s m args below meth c ls C hnm hP hS hl
  exact w_X12_feed_0 C rfl hL hF hP hS hl

/-! CutCrookedModel.private int here();  -/
theorem dX12_here_0 : decode cX12_here 0 = .ok (.aload_n 0, 1) := by decide +kernel
theorem dX12_here_1 : decode cX12_here 1 = .ok (.getfield 51, 3) := by decide +kernel
theorem dX12_here_4 : decode cX12_here 4 = .ok (.aload_n 0, 1) := by decide +kernel
theorem dX12_here_5 : decode cX12_here 5 = .ok (.getfield 54, 3) := by decide +kernel
theorem dX12_here_8 : decode cX12_here 8 = .ok (.if_icmp .ge 18, 3) := by decide +kernel
theorem dX12_here_11 : decode cX12_here 11 = .ok (.aload_n 0, 1) := by decide +kernel
theorem dX12_here_12 : decode cX12_here 12 = .ok (.getfield 9, 3) := by decide +kernel
theorem dX12_here_15 : decode cX12_here 15 = .ok (.bipush 94, 2) := by decide +kernel
theorem dX12_here_17 : decode cX12_here 17 = .ok (.aload_n 0, 1) := by decide +kernel
theorem dX12_here_18 : decode cX12_here 18 = .ok (.getfield 51, 3) := by decide +kernel
theorem dX12_here_21 : decode cX12_here 21 = .ok (.iadd, 1) := by decide +kernel
theorem dX12_here_22 : decode cX12_here 22 = .ok (.iaload, 1) := by decide +kernel
theorem dX12_here_23 : decode cX12_here 23 = .ok (.goto 4, 3) := by decide +kernel
theorem dX12_here_26 : decode cX12_here 26 = .ok (.iconst (-1), 1) := by decide +kernel
theorem dX12_here_27 : decode cX12_here 27 = .ok (.ireturn, 1) := by decide +kernel
theorem hd_X12_here : yX12_here.cls = RX12 ∧ yX12_here.cls ≠ "java/lang/invoke/MethodHandle" ∧ yX12_here.cls ≠ "java/lang/invoke/VarHandle" ∧ (parseMethodDescriptor yX12_here.desc).map (fun d => d.parameters.length) = some 0 := by decide +kernel
abbrev rm_X12_here : Room := { frames := 0, cells := 0, slots := 0, locals := 0 }
def F_X12_here  (σ : SG) (ρ : RG) : Option (Int32) :=
  if (σ 54 7) ≤ (σ 54 6) then
    some (-1 : Int32)
  else
    nm ((94 : Int32) + (σ 54 6)) fun x2 =>
    gd (inb x2 909) <|
    some (σ 55 (x2).toNatClampNeg)
set_option maxHeartbeats 4000000 in
set_option maxRecDepth 100000 in
theorem w_X12_here_0  {p : Program} {e : Env} {s : State} {m : MethodId} {args : Array Value} {below : List Frame} {meth : Method} {c : Code} {σ0 : SG} {ρ0 : RG} {r : Int32} (C : Cx Y D N ad p s m args meth c cX12_here 1 (some .int) RX12 wsL_law) {σ : SG} {ρ : RG} {H : Heap} {locs : List Loc} {ls : Array Slot} (hσ0 : σ = σ0) (hρ0 : ρ = ρ0) (hL : Lay N K len ρ) (hF : F_X12_here σ ρ = some r) (hP : WP Y D N ad K len σ ρ H) (hS : va_S (AA N ad s.heap.size) s.heap H locs) (hl : lv_has ls 1 [(0, .ref (ad 54))]) : W p l e rm_X12_here s m args below meth c H locs 0 0 (MQ below (QW Y D N ad K len σ0 ρ0 (AA N ad s.heap.size) (some (.int r))) args s 0 0 (AA N ad s.heap.size)) (F0 m 0 ls []) := by
  have hx := C.1.1
  have hb := C.1.2.1
  unfold F_X12_here at hF
  refine lv_aload_n hx hb dX12_here_0 rfl (lv_at hl 0 rfl) ?_
  refine get_12_6 C hP (lr_54 hL) (lk_54 hL) inlX12 mw_295 dX12_here_1 ?_
  refine lv_aload_n hx hb dX12_here_4 rfl (lv_at hl 0 rfl) ?_
  refine get_12_7 C hP (lr_54 hL) (lk_54 hL) inlX12 mw_294 dX12_here_5 ?_
  refine lv_icmp_ge (tgt := 26) hx hb dX12_here_8 (by decide) (fun c_1 => ?_) (fun c_1 => ?_) -- COND 1 by_cases c_1 : (σ 54 7) ≤ (σ 54 6)
  · have hF := ite_t hF c_1
    refine lv_iconst (v := -1) hx hb dX12_here_26 (by decide) ?_
    obtain rfl := ret_1 hF
    subst hσ0
    subst hρ0
    exact x_iret rfl C hP hS dX12_here_27
  · have hF := ite_f hF c_1
    refine lv_aload_n hx hb dX12_here_11 rfl (lv_at hl 0 rfl) ?_
    refine get_12_1 C hP (lr_54 hL) (lk_54 hL) inlX12 mw_81 (lf_54_1 hL) dX12_here_12 ?_
    refine lv_bipush (v := 94) hx hb dX12_here_15 (by decide +kernel) ?_
    refine lv_aload_n hx hb dX12_here_17 rfl (lv_at hl 0 rfl) ?_
    refine get_12_6 C hP (lr_54 hL) (lk_54 hL) inlX12 mw_295 dX12_here_18 ?_
    refine lv_iadd hx hb dX12_here_21 ?_
    obtain ⟨x2, ex2, hF⟩ := nm_1 hF
    refine x_top ex2 ?_
    obtain ⟨g3, hF⟩ := gd_1 hF
    refine x_iald C hP (lr_55 hL) (lk_55 hL) (ln_55 hL) g3 dX12_here_22 ?_
    refine lv_goto (tgt := 27) hx hb dX12_here_23 (by decide) ?_
    obtain rfl := ret_1 hF
    subst hσ0
    subst hρ0
    exact x_iret rfl C hP hS dX12_here_27
set_option maxHeartbeats 4000000 in
set_option maxRecDepth 100000 in
theorem c_X12_here  {r : Int32} {σ : SG} {ρ : RG} (hL : Lay N K len ρ) (hF : F_X12_here σ ρ = some r) : MT l Y D N ad K len yX12_here (Cond.code yX12_here cX12_here 1 (some .int) :: wsL_law) rm_X12_here [.ref (ad 54)] σ ρ (some (.int r)) σ ρ := by
  refine mt_of (cc := cX12_here) (nL := 1) (ret := (some .int)) (by decide) (Nat.le_of_ble_eq_true rfl) ?_
  intro p e s m args below meth c ls C hnm hP hS hl
  exact w_X12_here_0 C rfl rfl hL hF hP hS hl

/-! CutCrookedModel.private void must(int);  -/
theorem dX12_must_0 : decode cX12_must 0 = .ok (.aload_n 0, 1) := by decide +kernel
theorem dX12_must_1 : decode cX12_must 1 = .ok (.aload_n 0, 1) := by decide +kernel
theorem dX12_must_2 : decode cX12_must 2 = .ok (.getfield 57, 3) := by decide +kernel
theorem dX12_must_5 : decode cX12_must 5 = .ok (.ifCond .ne 11, 3) := by decide +kernel
theorem dX12_must_8 : decode cX12_must 8 = .ok (.aload_n 0, 1) := by decide +kernel
theorem dX12_must_9 : decode cX12_must 9 = .ok (.invokevirtual 61, 3) := by decide +kernel
theorem dX12_must_12 : decode cX12_must 12 = .ok (.iload_n 1, 1) := by decide +kernel
theorem dX12_must_13 : decode cX12_must 13 = .ok (.if_icmp .eq 7, 3) := by decide +kernel
theorem dX12_must_16 : decode cX12_must 16 = .ok (.iconst 1, 1) := by decide +kernel
theorem dX12_must_17 : decode cX12_must 17 = .ok (.goto 4, 3) := by decide +kernel
theorem dX12_must_20 : decode cX12_must 20 = .ok (.iconst 0, 1) := by decide +kernel
theorem dX12_must_21 : decode cX12_must 21 = .ok (.putfield 57, 3) := by decide +kernel
theorem dX12_must_24 : decode cX12_must 24 = .ok (.aload_n 0, 1) := by decide +kernel
theorem dX12_must_25 : decode cX12_must 25 = .ok (.dup, 1) := by decide +kernel
theorem dX12_must_26 : decode cX12_must 26 = .ok (.getfield 51, 3) := by decide +kernel
theorem dX12_must_29 : decode cX12_must 29 = .ok (.aload_n 0, 1) := by decide +kernel
theorem dX12_must_30 : decode cX12_must 30 = .ok (.getfield 57, 3) := by decide +kernel
theorem dX12_must_33 : decode cX12_must 33 = .ok (.ifCond .eq 7, 3) := by decide +kernel
theorem dX12_must_36 : decode cX12_must 36 = .ok (.iconst 0, 1) := by decide +kernel
theorem dX12_must_37 : decode cX12_must 37 = .ok (.goto 4, 3) := by decide +kernel
theorem dX12_must_40 : decode cX12_must 40 = .ok (.iconst 1, 1) := by decide +kernel
theorem dX12_must_41 : decode cX12_must 41 = .ok (.iadd, 1) := by decide +kernel
theorem dX12_must_42 : decode cX12_must 42 = .ok (.putfield 51, 3) := by decide +kernel
theorem dX12_must_45 : decode cX12_must 45 = .ok (.return_, 1) := by decide +kernel
theorem hd_X12_must : yX12_must.cls = RX12 ∧ yX12_must.cls ≠ "java/lang/invoke/MethodHandle" ∧ yX12_must.cls ≠ "java/lang/invoke/VarHandle" ∧ (parseMethodDescriptor yX12_must.desc).map (fun d => d.parameters.length) = some 1 := by decide +kernel
abbrev rm_X12_must : Room := { frames := 1, cells := 0, slots := 0, locals := 20 }
def F_X12_must_21 (a1 : Int32) (σ : SG) (ρ : RG) (k1 : Int32) : Option (SG) :=
  gd (isb k1) <|
  nm (s2 σ 54 8 k1) fun σ3 =>
  if (σ3 54 8) = 0 then
    nm ((σ3 54 6) + (1 : Int32)) fun x5 =>
    nm (s2 σ3 54 6 x5) fun σ7 =>
    some σ7
  else
    nm ((σ3 54 6) + (0 : Int32)) fun x8 =>
    nm (s2 σ3 54 6 x8) fun σ10 =>
    some σ10
def F_X12_must_16 (a1 : Int32) (σ : SG) (ρ : RG) : Option (SG) :=
  F_X12_must_21 a1 σ ρ (1 : Int32)
def F_X12_must (a1 : Int32) (σ : SG) (ρ : RG) : Option (SG) :=
  if (σ 54 8) = 0 then
    bn (F_X12_here σ ρ) fun r11 =>
    if r11 = a1 then
      F_X12_must_21 a1 σ ρ (0 : Int32)
    else
      F_X12_must_16 a1 σ ρ
  else
    F_X12_must_16 a1 σ ρ
set_option maxHeartbeats 4000000 in
set_option maxRecDepth 100000 in
theorem w_X12_must_21 {a1 : Int32} {p : Program} {e : Env} {s : State} {m : MethodId} {args : Array Value} {below : List Frame} {meth : Method} {c : Code} {ρ0 : RG} {σ1 : SG} (C : Cx Y D N ad p s m args meth c cX12_must 2 none RX12 wsL_law) {σ : SG} {ρ : RG} {k1 : Int32} {H : Heap} {locs : List Loc} {ls : Array Slot} (hρ0 : ρ = ρ0) (hL : Lay N K len ρ) (hF : F_X12_must_21 a1 σ ρ k1 = some σ1) (hP : WP Y D N ad K len σ ρ H) (hS : va_S (AA N ad s.heap.size) s.heap H locs) (hl : lv_has ls 2 [(0, .ref (ad 54))]) : W p l e rm_X12_must s m args below meth c H locs 0 0 (MQ below (QW Y D N ad K len σ1 ρ0 (AA N ad s.heap.size) none) args s 0 0 (AA N ad s.heap.size)) (F0 m 21 ls [.int k1, .ref (ad 54)]) := by
  have hx := C.1.1
  have hb := C.1.2.1
  unfold F_X12_must_21 at hF
  obtain ⟨g2, hF⟩ := gd_1 hF
  obtain ⟨σ3, eσ3, hF⟩ := nm_1 hF
  refine put_12_8 g2 C hP hS (lr_54 hL) (lk_54 hL) inlX12 mw_296 eσ3 dX12_must_21 (fun H locs hP hS => ?_)
  refine lv_aload_n hx hb dX12_must_24 rfl (lv_at hl 0 rfl) ?_
  refine lv_dup hx hb dX12_must_25 rfl ?_
  refine get_12_6 C hP (lr_54 hL) (lk_54 hL) inlX12 mw_295 dX12_must_26 ?_
  refine lv_aload_n hx hb dX12_must_29 rfl (lv_at hl 0 rfl) ?_
  refine get_12_8 C hP (lr_54 hL) (lk_54 hL) inlX12 mw_296 dX12_must_30 ?_
  refine lv_if_eq (tgt := 40) hx hb dX12_must_33 (by decide) (fun c_4 => ?_) (fun c_4 => ?_) -- COND 4 by_cases c_4 : (σ3 54 8) = 0
  · have hF := ite_t hF c_4
    refine lv_iconst (v := 1) hx hb dX12_must_40 (by decide) ?_
    refine lv_iadd hx hb dX12_must_41 ?_
    obtain ⟨x5, ex5, hF⟩ := nm_1 hF
    refine x_top ex5 ?_
    obtain ⟨σ7, eσ7, hF⟩ := nm_1 hF
    refine put_12_6 C hP hS (lr_54 hL) (lk_54 hL) inlX12 mw_295 eσ7 dX12_must_42 (fun H locs hP hS => ?_)
    obtain rfl := ret_1 hF
    subst hρ0
    exact x_vret rfl C hP hS dX12_must_45
  · have hF := ite_f hF c_4
    refine lv_iconst (v := 0) hx hb dX12_must_36 (by decide) ?_
    refine lv_goto (tgt := 41) hx hb dX12_must_37 (by decide) ?_
    refine lv_iadd hx hb dX12_must_41 ?_
    obtain ⟨x8, ex8, hF⟩ := nm_1 hF
    refine x_top ex8 ?_
    obtain ⟨σ10, eσ10, hF⟩ := nm_1 hF
    refine put_12_6 C hP hS (lr_54 hL) (lk_54 hL) inlX12 mw_295 eσ10 dX12_must_42 (fun H locs hP hS => ?_)
    obtain rfl := ret_1 hF
    subst hρ0
    exact x_vret rfl C hP hS dX12_must_45
set_option maxHeartbeats 4000000 in
set_option maxRecDepth 100000 in
theorem w_X12_must_16 {a1 : Int32} {p : Program} {e : Env} {s : State} {m : MethodId} {args : Array Value} {below : List Frame} {meth : Method} {c : Code} {ρ0 : RG} {σ1 : SG} (C : Cx Y D N ad p s m args meth c cX12_must 2 none RX12 wsL_law) {σ : SG} {ρ : RG} {H : Heap} {locs : List Loc} {ls : Array Slot} (hρ0 : ρ = ρ0) (hL : Lay N K len ρ) (hF : F_X12_must_16 a1 σ ρ = some σ1) (hP : WP Y D N ad K len σ ρ H) (hS : va_S (AA N ad s.heap.size) s.heap H locs) (hl : lv_has ls 2 [(0, .ref (ad 54))]) : W p l e rm_X12_must s m args below meth c H locs 0 0 (MQ below (QW Y D N ad K len σ1 ρ0 (AA N ad s.heap.size) none) args s 0 0 (AA N ad s.heap.size)) (F0 m 16 ls [.ref (ad 54)]) := by
  have hx := C.1.1
  have hb := C.1.2.1
  unfold F_X12_must_16 at hF
  refine lv_iconst (v := 1) hx hb dX12_must_16 (by decide) ?_
  refine lv_goto (tgt := 21) hx hb dX12_must_17 (by decide) ?_
  exact w_X12_must_21 C hρ0 hL hF hP hS (lv_sub hl [0] rfl)
set_option maxHeartbeats 4000000 in
set_option maxRecDepth 100000 in
theorem w_X12_must_0 {a1 : Int32} {p : Program} {e : Env} {s : State} {m : MethodId} {args : Array Value} {below : List Frame} {meth : Method} {c : Code} {ρ0 : RG} {σ1 : SG} (C : Cx Y D N ad p s m args meth c cX12_must 2 none RX12 wsL_law) {σ : SG} {ρ : RG} {H : Heap} {locs : List Loc} {ls : Array Slot} (hρ0 : ρ = ρ0) (hL : Lay N K len ρ) (hF : F_X12_must a1 σ ρ = some σ1) (hP : WP Y D N ad K len σ ρ H) (hS : va_S (AA N ad s.heap.size) s.heap H locs) (hl : lv_has ls 2 [(0, .ref (ad 54)), (1, .int a1)]) : W p l e rm_X12_must s m args below meth c H locs 0 0 (MQ below (QW Y D N ad K len σ1 ρ0 (AA N ad s.heap.size) none) args s 0 0 (AA N ad s.heap.size)) (F0 m 0 ls []) := by
  have hx := C.1.1
  have hb := C.1.2.1
  unfold F_X12_must at hF
  refine lv_aload_n hx hb dX12_must_0 rfl (lv_at hl 0 rfl) ?_
  refine lv_aload_n hx hb dX12_must_1 rfl (lv_at hl 0 rfl) ?_
  refine get_12_8 C hP (lr_54 hL) (lk_54 hL) inlX12 mw_296 dX12_must_2 ?_
  refine lv_if_ne (tgt := 16) hx hb dX12_must_5 (by decide) (fun c_1 => ?_) (fun c_1 => ?_) -- COND 1 rcases (Decidable.em ((σ 54 8) = 0)).symm with c_1 | c_1
  · have hF := ite_f hF c_1
    exact w_X12_must_16 C hρ0 hL hF hP hS (lv_sub hl [0] rfl)
  · have hF := ite_t hF c_1
    refine lv_aload_n hx hb dX12_must_8 rfl (lv_at hl 0 rfl) ?_
    obtain ⟨r11, hq11, hF⟩ := bn_1 hF
    refine x_callV (ci := 12) rfl rfl C hP hS (c_X12_here hL hq11) (lr_54 hL) (lk_54 hL) (cwV 0 C.1.2.2.2.2 (gdV mw_302 mw_303 mw_304 mw_5 mw_305) rfl rfl rfl hd_X12_here ⟨Nat.le_of_ble_eq_true rfl, Nat.le_of_ble_eq_true rfl⟩) rfl rfl hl.1 (Nat.le_of_ble_eq_true rfl) ⟨Nat.zero_le _, Nat.zero_le _⟩ dX12_must_9 (fun H locs hP hS => ?_)
    refine lv_iload_n hx hb dX12_must_12 rfl (lv_at hl 1 rfl) ?_
    refine lv_icmp_eq (tgt := 20) hx hb dX12_must_13 (by decide) (fun c_12 => ?_) (fun c_12 => ?_) -- COND 12 by_cases c_12 : r11 = a1
    · have hF := ite_t hF c_12
      refine lv_iconst (v := 0) hx hb dX12_must_20 (by decide) ?_
      exact w_X12_must_21 C hρ0 hL hF hP hS (lv_sub hl [0] rfl)
    · have hF := ite_f hF c_12
      exact w_X12_must_16 C hρ0 hL hF hP hS (lv_sub hl [0] rfl)
set_option maxHeartbeats 4000000 in
set_option maxRecDepth 100000 in
theorem c_X12_must {a1 : Int32} {σ1 : SG} {σ : SG} {ρ : RG} (hL : Lay N K len ρ) (hF : F_X12_must a1 σ ρ = some σ1) : MT l Y D N ad K len yX12_must (Cond.code yX12_must cX12_must 2 none :: wsL_law) rm_X12_must [.ref (ad 54), .int a1] σ ρ none σ1 ρ := by
  refine mt_of (cc := cX12_must) (nL := 2) (ret := none) (by decide) (Nat.le_of_ble_eq_true rfl) ?_
  intro p e s m args below meth c ls C hnm hP hS hl
  exact w_X12_must_0 C rfl hL hF hP hS hl

/-! CutCrookedModel.private int figures();  -/
theorem dX12_figures_0 : decode cX12_figures 0 = .ok (.aload_n 0, 1) := by decide +kernel
theorem dX12_figures_1 : decode cX12_figures 1 = .ok (.aload_n 0, 1) := by decide +kernel
theorem dX12_figures_2 : decode cX12_figures 2 = .ok (.getfield 57, 3) := by decide +kernel
theorem dX12_figures_5 : decode cX12_figures 5 = .ok (.ifCond .ne 17, 3) := by decide +kernel
theorem dX12_figures_8 : decode cX12_figures 8 = .ok (.aload_n 0, 1) := by decide +kernel
theorem dX12_figures_9 : decode cX12_figures 9 = .ok (.invokevirtual 61, 3) := by decide +kernel
theorem dX12_figures_12 : decode cX12_figures 12 = .ok (.bipush 48, 2) := by decide +kernel
theorem dX12_figures_14 : decode cX12_figures 14 = .ok (.bipush 57, 2) := by decide +kernel
theorem dX12_figures_16 : decode cX12_figures 16 = .ok (.invokestatic 47, 3) := by decide +kernel
theorem dX12_figures_19 : decode cX12_figures 19 = .ok (.ifCond .ne 7, 3) := by decide +kernel
theorem dX12_figures_22 : decode cX12_figures 22 = .ok (.iconst 1, 1) := by decide +kernel
theorem dX12_figures_23 : decode cX12_figures 23 = .ok (.goto 4, 3) := by decide +kernel
theorem dX12_figures_26 : decode cX12_figures 26 = .ok (.iconst 0, 1) := by decide +kernel
theorem dX12_figures_27 : decode cX12_figures 27 = .ok (.putfield 57, 3) := by decide +kernel
theorem dX12_figures_30 : decode cX12_figures 30 = .ok (.iconst 0, 1) := by decide +kernel
theorem dX12_figures_31 : decode cX12_figures 31 = .ok (.istore_n 1, 1) := by decide +kernel
theorem dX12_figures_32 : decode cX12_figures 32 = .ok (.iconst 0, 1) := by decide +kernel
theorem dX12_figures_33 : decode cX12_figures 33 = .ok (.istore_n 2, 1) := by decide +kernel
theorem dX12_figures_34 : decode cX12_figures 34 = .ok (.iload_n 2, 1) := by decide +kernel
theorem dX12_figures_35 : decode cX12_figures 35 = .ok (.iconst 2, 1) := by decide +kernel
theorem dX12_figures_36 : decode cX12_figures 36 = .ok (.if_icmp .ge 61, 3) := by decide +kernel
theorem dX12_figures_39 : decode cX12_figures 39 = .ok (.aload_n 0, 1) := by decide +kernel
theorem dX12_figures_40 : decode cX12_figures 40 = .ok (.getfield 57, 3) := by decide +kernel
theorem dX12_figures_43 : decode cX12_figures 43 = .ok (.ifCond .ne 54, 3) := by decide +kernel
theorem dX12_figures_46 : decode cX12_figures 46 = .ok (.aload_n 0, 1) := by decide +kernel
theorem dX12_figures_47 : decode cX12_figures 47 = .ok (.invokevirtual 61, 3) := by decide +kernel
theorem dX12_figures_50 : decode cX12_figures 50 = .ok (.bipush 48, 2) := by decide +kernel
theorem dX12_figures_52 : decode cX12_figures 52 = .ok (.bipush 57, 2) := by decide +kernel
theorem dX12_figures_54 : decode cX12_figures 54 = .ok (.invokestatic 47, 3) := by decide +kernel
theorem dX12_figures_57 : decode cX12_figures 57 = .ok (.ifCond .eq 40, 3) := by decide +kernel
theorem dX12_figures_60 : decode cX12_figures 60 = .ok (.iload_n 2, 1) := by decide +kernel
theorem dX12_figures_61 : decode cX12_figures 61 = .ok (.ifCond .eq 7, 3) := by decide +kernel
theorem dX12_figures_64 : decode cX12_figures 64 = .ok (.iload_n 1, 1) := by decide +kernel
theorem dX12_figures_65 : decode cX12_figures 65 = .ok (.ifCond .le 32, 3) := by decide +kernel
theorem dX12_figures_68 : decode cX12_figures 68 = .ok (.bipush 10, 2) := by decide +kernel
theorem dX12_figures_70 : decode cX12_figures 70 = .ok (.iload_n 1, 1) := by decide +kernel
theorem dX12_figures_71 : decode cX12_figures 71 = .ok (.imul, 1) := by decide +kernel
theorem dX12_figures_72 : decode cX12_figures 72 = .ok (.aload_n 0, 1) := by decide +kernel
theorem dX12_figures_73 : decode cX12_figures 73 = .ok (.invokevirtual 61, 3) := by decide +kernel
theorem dX12_figures_76 : decode cX12_figures 76 = .ok (.iadd, 1) := by decide +kernel
theorem dX12_figures_77 : decode cX12_figures 77 = .ok (.bipush 48, 2) := by decide +kernel
theorem dX12_figures_79 : decode cX12_figures 79 = .ok (.isub, 1) := by decide +kernel
theorem dX12_figures_80 : decode cX12_figures 80 = .ok (.istore_n 1, 1) := by decide +kernel
theorem dX12_figures_81 : decode cX12_figures 81 = .ok (.aload_n 0, 1) := by decide +kernel
theorem dX12_figures_82 : decode cX12_figures 82 = .ok (.dup, 1) := by decide +kernel
theorem dX12_figures_83 : decode cX12_figures 83 = .ok (.getfield 51, 3) := by decide +kernel
theorem dX12_figures_86 : decode cX12_figures 86 = .ok (.iconst 1, 1) := by decide +kernel
theorem dX12_figures_87 : decode cX12_figures 87 = .ok (.iadd, 1) := by decide +kernel
theorem dX12_figures_88 : decode cX12_figures 88 = .ok (.putfield 51, 3) := by decide +kernel
theorem dX12_figures_91 : decode cX12_figures 91 = .ok (.iinc 2 1, 3) := by decide +kernel
theorem dX12_figures_94 : decode cX12_figures 94 = .ok (.goto (-60), 3) := by decide +kernel
theorem dX12_figures_97 : decode cX12_figures 97 = .ok (.iload_n 1, 1) := by decide +kernel
theorem dX12_figures_98 : decode cX12_figures 98 = .ok (.ireturn, 1) := by decide +kernel
theorem hd_X12_figures : yX12_figures.cls = RX12 ∧ yX12_figures.cls ≠ "java/lang/invoke/MethodHandle" ∧ yX12_figures.cls ≠ "java/lang/invoke/VarHandle" ∧ (parseMethodDescriptor yX12_figures.desc).map (fun d => d.parameters.length) = some 0 := by decide +kernel
abbrev rm_X12_figures : Room := { frames := 1, cells := 0, slots := 0, locals := 22 }
def F_X12_figures_68  (rec_34 : SG → RG → Int32 → Int32 → Option (Int32 × SG)) (σ : SG) (ρ : RG) (v1 : Int32) (v2 : Int32) : Option (Int32 × SG) :=
  nm ((10 : Int32) * v1) fun x10 =>
  bn (F_X12_here σ ρ) fun r11 =>
  nm (x10 + r11) fun x12 =>
  nm (x12 - (48 : Int32)) fun x13 =>
  nm ((σ 54 6) + (1 : Int32)) fun x14 =>
  nm (s2 σ 54 6 x14) fun σ16 =>
  nm (v2 + (1 : Int32)) fun x17 =>
  rec_34 σ16 ρ x13 x17
def F_X12_figures_34  : Nat → SG → RG → Int32 → Int32 → Option (Int32 × SG)
  | 0 => fun _ _ _ _ => none
  | n + 1 => fun σ ρ v1 v2 =>
  if (2 : Int32) ≤ v2 then
    some (v1, σ)
  else
    if (σ 54 8) = 0 then
      bn (F_X12_here σ ρ) fun r6 =>
      bn (F_X12_in r6 (48 : Int32) (57 : Int32) σ ρ) fun r7 =>
      if r7 = 0 then
        some (v1, σ)
      else
        if v2 = 0 then
          F_X12_figures_68 (F_X12_figures_34 n) σ ρ v1 v2
        else
          if v1 ≤ 0 then
            some (v1, σ)
          else
            F_X12_figures_68 (F_X12_figures_34 n) σ ρ v1 v2
    else
      some (v1, σ)
def F_X12_figures_27  (σ : SG) (ρ : RG) (k1 : Int32) : Option (Int32 × SG) :=
  gd (isb k1) <|
  nm (s2 σ 54 8 k1) fun σ3 =>
  F_X12_figures_34 1024 σ3 ρ (0 : Int32) (0 : Int32)
def F_X12_figures_22  (σ : SG) (ρ : RG) : Option (Int32 × SG) :=
  F_X12_figures_27 σ ρ (1 : Int32)
def F_X12_figures  (σ : SG) (ρ : RG) : Option (Int32 × SG) :=
  if (σ 54 8) = 0 then
    bn (F_X12_here σ ρ) fun r19 =>
    bn (F_X12_in r19 (48 : Int32) (57 : Int32) σ ρ) fun r20 =>
    if r20 = 0 then
      F_X12_figures_22 σ ρ
    else
      F_X12_figures_27 σ ρ (0 : Int32)
  else
    F_X12_figures_22 σ ρ
set_option maxHeartbeats 4000000 in
set_option maxRecDepth 100000 in
theorem w_X12_figures_68  {rec_34 : SG → RG → Int32 → Int32 → Option (Int32 × SG)} {p : Program} {e : Env} {s : State} {m : MethodId} {args : Array Value} {below : List Frame} {meth : Method} {c : Code} {ρ0 : RG} {r : Int32} {σ1 : SG} (C : Cx Y D N ad p s m args meth c cX12_figures 3 (some .int) RX12 wsL_law) (hrec_34 : ∀ (σ : SG) (ρ : RG) (v1 : Int32) (v2 : Int32) (H : Heap) (locs : List Loc) (ls : Array Slot), ρ = ρ0 → Lay N K len ρ → rec_34 σ ρ v1 v2 = some (r, σ1) → WP Y D N ad K len σ ρ H → va_S (AA N ad s.heap.size) s.heap H locs → lv_has ls 3 [(0, .ref (ad 54)), (1, .int v1), (2, .int v2)] → W p l e rm_X12_figures s m args below meth c H locs 0 0 (MQ below (QW Y D N ad K len σ1 ρ0 (AA N ad s.heap.size) (some (.int r))) args s 0 0 (AA N ad s.heap.size)) (F0 m 34 ls [])) {σ : SG} {ρ : RG} {v1 : Int32} {v2 : Int32} {H : Heap} {locs : List Loc} {ls : Array Slot} (hρ0 : ρ = ρ0) (hL : Lay N K len ρ) (hF : F_X12_figures_68 rec_34 σ ρ v1 v2 = some (r, σ1)) (hP : WP Y D N ad K len σ ρ H) (hS : va_S (AA N ad s.heap.size) s.heap H locs) (hl : lv_has ls 3 [(0, .ref (ad 54)), (1, .int v1), (2, .int v2)]) : W p l e rm_X12_figures s m args below meth c H locs 0 0 (MQ below (QW Y D N ad K len σ1 ρ0 (AA N ad s.heap.size) (some (.int r))) args s 0 0 (AA N ad s.heap.size)) (F0 m 68 ls []) := by
  have hx := C.1.1
  have hb := C.1.2.1
  unfold F_X12_figures_68 at hF
  refine lv_bipush (v := 10) hx hb dX12_figures_68 (by decide +kernel) ?_
  refine lv_iload_n hx hb dX12_figures_70 rfl (lv_at hl 1 rfl) ?_
  refine lv_imul hx hb dX12_figures_71 ?_
  obtain ⟨x10, ex10, hF⟩ := nm_1 hF
  refine x_top ex10 ?_
  refine lv_aload_n hx hb dX12_figures_72 rfl (lv_at hl 0 rfl) ?_
  obtain ⟨r11, hq11, hF⟩ := bn_1 hF
  refine x_callV (ci := 12) rfl rfl C hP hS (c_X12_here hL hq11) (lr_54 hL) (lk_54 hL) (cwV 0 C.1.2.2.2.2 (gdV mw_302 mw_303 mw_304 mw_5 mw_305) rfl rfl rfl hd_X12_here ⟨Nat.le_of_ble_eq_true rfl, Nat.le_of_ble_eq_true rfl⟩) rfl rfl hl.1 (Nat.le_of_ble_eq_true rfl) ⟨Nat.zero_le _, Nat.zero_le _⟩ dX12_figures_73 (fun H locs hP hS => ?_)
  refine lv_iadd hx hb dX12_figures_76 ?_
  obtain ⟨x12, ex12, hF⟩ := nm_1 hF
  refine x_top ex12 ?_
  refine lv_bipush (v := 48) hx hb dX12_figures_77 (by decide +kernel) ?_
  refine lv_isub hx hb dX12_figures_79 ?_
  obtain ⟨x13, ex13, hF⟩ := nm_1 hF
  refine x_top ex13 ?_
  refine lv_istore_n (lv' := [(1, .int x13), (0, .ref (ad 54)), (2, .int v2)]) hx hb dX12_figures_80 rfl hl (by decide) rfl (fun ls hl => ?_)
  refine lv_aload_n hx hb dX12_figures_81 rfl (lv_at hl 1 rfl) ?_
  refine lv_dup hx hb dX12_figures_82 rfl ?_
  refine get_12_6 C hP (lr_54 hL) (lk_54 hL) inlX12 mw_295 dX12_figures_83 ?_
  refine lv_iconst (v := 1) hx hb dX12_figures_86 (by decide) ?_
  refine lv_iadd hx hb dX12_figures_87 ?_
  obtain ⟨x14, ex14, hF⟩ := nm_1 hF
  refine x_top ex14 ?_
  obtain ⟨σ16, eσ16, hF⟩ := nm_1 hF
  refine put_12_6 C hP hS (lr_54 hL) (lk_54 hL) inlX12 mw_295 eσ16 dX12_figures_88 (fun H locs hP hS => ?_)
  obtain ⟨x17, ex17, hF⟩ := nm_1 hF
  refine lv_iinc (v := x17) (lv' := [(2, .int x17), (1, .int x13), (0, .ref (ad 54))]) hx hb dX12_figures_91 hl (k := 2) rfl (by rw [ex17]; first | rfl | decide) (by decide) rfl (fun ls hl => ?_)
  refine lv_goto (tgt := 34) hx hb dX12_figures_94 (by decide) ?_
  exact hrec_34 _ _ _ _ _ _ _ hρ0 hL hF hP hS (lv_sub hl [2, 1, 0] rfl)
set_option maxHeartbeats 4000000 in
set_option maxRecDepth 100000 in
theorem w_X12_figures_34  {p : Program} {e : Env} {s : State} {m : MethodId} {args : Array Value} {below : List Frame} {meth : Method} {c : Code} {ρ0 : RG} {r : Int32} {σ1 : SG} (C : Cx Y D N ad p s m args meth c cX12_figures 3 (some .int) RX12 wsL_law) : ∀ (n : Nat) (σ : SG) (ρ : RG) (v1 : Int32) (v2 : Int32) (H : Heap) (locs : List Loc) (ls : Array Slot), ρ = ρ0 → Lay N K len ρ → F_X12_figures_34 n σ ρ v1 v2 = some (r, σ1) → WP Y D N ad K len σ ρ H → va_S (AA N ad s.heap.size) s.heap H locs → lv_has ls 3 [(0, .ref (ad 54)), (1, .int v1), (2, .int v2)] → W p l e rm_X12_figures s m args below meth c H locs 0 0 (MQ below (QW Y D N ad K len σ1 ρ0 (AA N ad s.heap.size) (some (.int r))) args s 0 0 (AA N ad s.heap.size)) (F0 m 34 ls []) := by
  have hx := C.1.1
  have hb := C.1.2.1
  intro n
  induction n with
  | zero => intro σ ρ v1 v2 H locs ls hρ0 hL hF; cases hF
  | succ n ih =>
    intro σ ρ v1 v2 H locs ls hρ0 hL hF hP hS hl
    unfold F_X12_figures_34 at hF
    refine lv_iload_n hx hb dX12_figures_34 rfl (lv_at hl 2 rfl) ?_
    refine lv_iconst (v := 2) hx hb dX12_figures_35 (by decide) ?_
    refine lv_icmp_ge (tgt := 97) hx hb dX12_figures_36 (by decide) (fun c_4 => ?_) (fun c_4 => ?_) -- COND 4 by_cases c_4 : (2 : Int32) ≤ v2
    · have hF := ite_t hF c_4
      refine lv_iload_n hx hb dX12_figures_97 rfl (lv_at hl 1 rfl) ?_
      obtain ⟨rfl, rfl⟩ := ret_2 hF
      subst hρ0
      exact x_iret rfl C hP hS dX12_figures_98
    · have hF := ite_f hF c_4
      refine lv_aload_n hx hb dX12_figures_39 rfl (lv_at hl 0 rfl) ?_
      refine get_12_8 C hP (lr_54 hL) (lk_54 hL) inlX12 mw_296 dX12_figures_40 ?_
      refine lv_if_ne (tgt := 97) hx hb dX12_figures_43 (by decide) (fun c_5 => ?_) (fun c_5 => ?_) -- COND 5 rcases (Decidable.em ((σ 54 8) = 0)).symm with c_5 | c_5
      · have hF := ite_f hF c_5
        refine lv_iload_n hx hb dX12_figures_97 rfl (lv_at hl 1 rfl) ?_
        obtain ⟨rfl, rfl⟩ := ret_2 hF
        subst hρ0
        exact x_iret rfl C hP hS dX12_figures_98
      · have hF := ite_t hF c_5
        refine lv_aload_n hx hb dX12_figures_46 rfl (lv_at hl 0 rfl) ?_
        obtain ⟨r6, hq6, hF⟩ := bn_1 hF
        refine x_callV (ci := 12) rfl rfl C hP hS (c_X12_here hL hq6) (lr_54 hL) (lk_54 hL) (cwV 0 C.1.2.2.2.2 (gdV mw_302 mw_303 mw_304 mw_5 mw_305) rfl rfl rfl hd_X12_here ⟨Nat.le_of_ble_eq_true rfl, Nat.le_of_ble_eq_true rfl⟩) rfl rfl hl.1 (Nat.le_of_ble_eq_true rfl) ⟨Nat.zero_le _, Nat.zero_le _⟩ dX12_figures_47 (fun H locs hP hS => ?_)
        refine lv_bipush (v := 48) hx hb dX12_figures_50 (by decide +kernel) ?_
        refine lv_bipush (v := 57) hx hb dX12_figures_52 (by decide +kernel) ?_
        obtain ⟨r7, hq7, hF⟩ := bn_1 hF
        refine x_callS C hP hS (c_X12_in hL hq7) (va_cwS 3 C.1.2.2.2.2 (gdS mw_104 mw_105 mw_5 mw_106) rfl rfl rfl hd_X12_in.2 ⟨Nat.le_of_ble_eq_true rfl, Nat.le_of_ble_eq_true rfl⟩) rfl rfl hl.1 (Nat.le_of_ble_eq_true rfl) ⟨Nat.zero_le _, Nat.zero_le _⟩ dX12_figures_54 (fun H locs hP hS => ?_)
        refine lv_if_eq (tgt := 97) hx hb dX12_figures_57 (by decide) (fun c_8 => ?_) (fun c_8 => ?_) -- COND 8 by_cases c_8 : r7 = 0
        · have hF := ite_t hF c_8
          refine lv_iload_n hx hb dX12_figures_97 rfl (lv_at hl 1 rfl) ?_
          obtain ⟨rfl, rfl⟩ := ret_2 hF
          subst hρ0
          exact x_iret rfl C hP hS dX12_figures_98
        · have hF := ite_f hF c_8
          refine lv_iload_n hx hb dX12_figures_60 rfl (lv_at hl 2 rfl) ?_
          refine lv_if_eq (tgt := 68) hx hb dX12_figures_61 (by decide) (fun c_9 => ?_) (fun c_9 => ?_) -- COND 9 by_cases c_9 : v2 = 0
          · have hF := ite_t hF c_9
            exact w_X12_figures_68 C ih hρ0 hL hF hP hS (lv_sub hl [0, 1, 2] rfl)
          · have hF := ite_f hF c_9
            refine lv_iload_n hx hb dX12_figures_64 rfl (lv_at hl 1 rfl) ?_
            refine lv_if_le (tgt := 97) hx hb dX12_figures_65 (by decide) (fun c_18 => ?_) (fun c_18 => ?_) -- COND 18 by_cases c_18 : v1 ≤ 0
            · have hF := ite_t hF c_18
              refine lv_iload_n hx hb dX12_figures_97 rfl (lv_at hl 1 rfl) ?_
              obtain ⟨rfl, rfl⟩ := ret_2 hF
              subst hρ0
              exact x_iret rfl C hP hS dX12_figures_98
            · have hF := ite_f hF c_18
              exact w_X12_figures_68 C ih hρ0 hL hF hP hS (lv_sub hl [0, 1, 2] rfl)
set_option maxHeartbeats 4000000 in
set_option maxRecDepth 100000 in
theorem w_X12_figures_27  {p : Program} {e : Env} {s : State} {m : MethodId} {args : Array Value} {below : List Frame} {meth : Method} {c : Code} {ρ0 : RG} {r : Int32} {σ1 : SG} (C : Cx Y D N ad p s m args meth c cX12_figures 3 (some .int) RX12 wsL_law) {σ : SG} {ρ : RG} {k1 : Int32} {H : Heap} {locs : List Loc} {ls : Array Slot} (hρ0 : ρ = ρ0) (hL : Lay N K len ρ) (hF : F_X12_figures_27 σ ρ k1 = some (r, σ1)) (hP : WP Y D N ad K len σ ρ H) (hS : va_S (AA N ad s.heap.size) s.heap H locs) (hl : lv_has ls 3 [(0, .ref (ad 54))]) : W p l e rm_X12_figures s m args below meth c H locs 0 0 (MQ below (QW Y D N ad K len σ1 ρ0 (AA N ad s.heap.size) (some (.int r))) args s 0 0 (AA N ad s.heap.size)) (F0 m 27 ls [.int k1, .ref (ad 54)]) := by
  have hx := C.1.1
  have hb := C.1.2.1
  unfold F_X12_figures_27 at hF
  obtain ⟨g2, hF⟩ := gd_1 hF
  obtain ⟨σ3, eσ3, hF⟩ := nm_1 hF
  refine put_12_8 g2 C hP hS (lr_54 hL) (lk_54 hL) inlX12 mw_296 eσ3 dX12_figures_27 (fun H locs hP hS => ?_)
  refine lv_iconst (v := 0) hx hb dX12_figures_30 (by decide) ?_
  refine lv_istore_n (lv' := [(1, .int (0 : Int32)), (0, .ref (ad 54))]) hx hb dX12_figures_31 rfl hl (by decide) rfl (fun ls hl => ?_)
  refine lv_iconst (v := 0) hx hb dX12_figures_32 (by decide) ?_
  refine lv_istore_n (lv' := [(2, .int (0 : Int32)), (1, .int (0 : Int32)), (0, .ref (ad 54))]) hx hb dX12_figures_33 rfl hl (by decide) rfl (fun ls hl => ?_)
  exact w_X12_figures_34 C 1024 _ _ _ _ _ _ _ hρ0 hL hF hP hS (lv_sub hl [2, 1, 0] rfl)
set_option maxHeartbeats 4000000 in
set_option maxRecDepth 100000 in
theorem w_X12_figures_22  {p : Program} {e : Env} {s : State} {m : MethodId} {args : Array Value} {below : List Frame} {meth : Method} {c : Code} {ρ0 : RG} {r : Int32} {σ1 : SG} (C : Cx Y D N ad p s m args meth c cX12_figures 3 (some .int) RX12 wsL_law) {σ : SG} {ρ : RG} {H : Heap} {locs : List Loc} {ls : Array Slot} (hρ0 : ρ = ρ0) (hL : Lay N K len ρ) (hF : F_X12_figures_22 σ ρ = some (r, σ1)) (hP : WP Y D N ad K len σ ρ H) (hS : va_S (AA N ad s.heap.size) s.heap H locs) (hl : lv_has ls 3 [(0, .ref (ad 54))]) : W p l e rm_X12_figures s m args below meth c H locs 0 0 (MQ below (QW Y D N ad K len σ1 ρ0 (AA N ad s.heap.size) (some (.int r))) args s 0 0 (AA N ad s.heap.size)) (F0 m 22 ls [.ref (ad 54)]) := by
  have hx := C.1.1
  have hb := C.1.2.1
  unfold F_X12_figures_22 at hF
  refine lv_iconst (v := 1) hx hb dX12_figures_22 (by decide) ?_
  refine lv_goto (tgt := 27) hx hb dX12_figures_23 (by decide) ?_
  exact w_X12_figures_27 C hρ0 hL hF hP hS (lv_sub hl [0] rfl)
set_option maxHeartbeats 4000000 in
set_option maxRecDepth 100000 in
theorem w_X12_figures_0  {p : Program} {e : Env} {s : State} {m : MethodId} {args : Array Value} {below : List Frame} {meth : Method} {c : Code} {ρ0 : RG} {r : Int32} {σ1 : SG} (C : Cx Y D N ad p s m args meth c cX12_figures 3 (some .int) RX12 wsL_law) {σ : SG} {ρ : RG} {H : Heap} {locs : List Loc} {ls : Array Slot} (hρ0 : ρ = ρ0) (hL : Lay N K len ρ) (hF : F_X12_figures σ ρ = some (r, σ1)) (hP : WP Y D N ad K len σ ρ H) (hS : va_S (AA N ad s.heap.size) s.heap H locs) (hl : lv_has ls 3 [(0, .ref (ad 54))]) : W p l e rm_X12_figures s m args below meth c H locs 0 0 (MQ below (QW Y D N ad K len σ1 ρ0 (AA N ad s.heap.size) (some (.int r))) args s 0 0 (AA N ad s.heap.size)) (F0 m 0 ls []) := by
  have hx := C.1.1
  have hb := C.1.2.1
  unfold F_X12_figures at hF
  refine lv_aload_n hx hb dX12_figures_0 rfl (lv_at hl 0 rfl) ?_
  refine lv_aload_n hx hb dX12_figures_1 rfl (lv_at hl 0 rfl) ?_
  refine get_12_8 C hP (lr_54 hL) (lk_54 hL) inlX12 mw_296 dX12_figures_2 ?_
  refine lv_if_ne (tgt := 22) hx hb dX12_figures_5 (by decide) (fun c_1 => ?_) (fun c_1 => ?_) -- COND 1 rcases (Decidable.em ((σ 54 8) = 0)).symm with c_1 | c_1
  · have hF := ite_f hF c_1
    exact w_X12_figures_22 C hρ0 hL hF hP hS (lv_sub hl [0] rfl)
  · have hF := ite_t hF c_1
    refine lv_aload_n hx hb dX12_figures_8 rfl (lv_at hl 0 rfl) ?_
    obtain ⟨r19, hq19, hF⟩ := bn_1 hF
    refine x_callV (ci := 12) rfl rfl C hP hS (c_X12_here hL hq19) (lr_54 hL) (lk_54 hL) (cwV 0 C.1.2.2.2.2 (gdV mw_302 mw_303 mw_304 mw_5 mw_305) rfl rfl rfl hd_X12_here ⟨Nat.le_of_ble_eq_true rfl, Nat.le_of_ble_eq_true rfl⟩) rfl rfl hl.1 (Nat.le_of_ble_eq_true rfl) ⟨Nat.zero_le _, Nat.zero_le _⟩ dX12_figures_9 (fun H locs hP hS => ?_)
    refine lv_bipush (v := 48) hx hb dX12_figures_12 (by decide +kernel) ?_
    refine lv_bipush (v := 57) hx hb dX12_figures_14 (by decide +kernel) ?_
    obtain ⟨r20, hq20, hF⟩ := bn_1 hF
    refine x_callS C hP hS (c_X12_in hL hq20) (va_cwS 3 C.1.2.2.2.2 (gdS mw_104 mw_105 mw_5 mw_106) rfl rfl rfl hd_X12_in.2 ⟨Nat.le_of_ble_eq_true rfl, Nat.le_of_ble_eq_true rfl⟩) rfl rfl hl.1 (Nat.le_of_ble_eq_true rfl) ⟨Nat.zero_le _, Nat.zero_le _⟩ dX12_figures_16 (fun H locs hP hS => ?_)
    refine lv_if_ne (tgt := 26) hx hb dX12_figures_19 (by decide) (fun c_21 => ?_) (fun c_21 => ?_) -- COND 21 rcases (Decidable.em (r20 = 0)).symm with c_21 | c_21
    · have hF := ite_f hF c_21
      refine lv_iconst (v := 0) hx hb dX12_figures_26 (by decide) ?_
      exact w_X12_figures_27 C hρ0 hL hF hP hS (lv_sub hl [0] rfl)
    · have hF := ite_t hF c_21
      exact w_X12_figures_22 C hρ0 hL hF hP hS (lv_sub hl [0] rfl)
set_option maxHeartbeats 4000000 in
set_option maxRecDepth 100000 in
theorem c_X12_figures  {r : Int32} {σ1 : SG} {σ : SG} {ρ : RG} (hL : Lay N K len ρ) (hF : F_X12_figures σ ρ = some (r, σ1)) : MT l Y D N ad K len yX12_figures (Cond.code yX12_figures cX12_figures 3 (some .int) :: wsL_law) rm_X12_figures [.ref (ad 54)] σ ρ (some (.int r)) σ1 ρ := by
  refine mt_of (cc := cX12_figures) (nL := 3) (ret := (some .int)) (by decide) (Nat.le_of_ble_eq_true rfl) ?_
  intro p e s m args below meth c ls C hnm hP hS hl
  exact w_X12_figures_0 C rfl hL hF hP hS hl

/-! CutCrookedModel.private void emits(int);  -/
theorem dX12_emits_0 : decode cX12_emits 0 = .ok (.aload_n 0, 1) := by decide +kernel
theorem dX12_emits_1 : decode cX12_emits 1 = .ok (.getfield 57, 3) := by decide +kernel
theorem dX12_emits_4 : decode cX12_emits 4 = .ok (.ifCond .ne 52, 3) := by decide +kernel
theorem dX12_emits_7 : decode cX12_emits 7 = .ok (.aload_n 0, 1) := by decide +kernel
theorem dX12_emits_8 : decode cX12_emits 8 = .ok (.getfield 9, 3) := by decide +kernel
theorem dX12_emits_11 : decode cX12_emits 11 = .ok (.sipush 209, 3) := by decide +kernel
theorem dX12_emits_14 : decode cX12_emits 14 = .ok (.sipush 140, 3) := by decide +kernel
theorem dX12_emits_17 : decode cX12_emits 17 = .ok (.aload_n 0, 1) := by decide +kernel
theorem dX12_emits_18 : decode cX12_emits 18 = .ok (.getfield 78, 3) := by decide +kernel
theorem dX12_emits_21 : decode cX12_emits 21 = .ok (.imul, 1) := by decide +kernel
theorem dX12_emits_22 : decode cX12_emits 22 = .ok (.iadd, 1) := by decide +kernel
theorem dX12_emits_23 : decode cX12_emits 23 = .ok (.aload_n 0, 1) := by decide +kernel
theorem dX12_emits_24 : decode cX12_emits 24 = .ok (.getfield 9, 3) := by decide +kernel
theorem dX12_emits_27 : decode cX12_emits 27 = .ok (.sipush 204, 3) := by decide +kernel
theorem dX12_emits_30 : decode cX12_emits 30 = .ok (.aload_n 0, 1) := by decide +kernel
theorem dX12_emits_31 : decode cX12_emits 31 = .ok (.getfield 78, 3) := by decide +kernel
theorem dX12_emits_34 : decode cX12_emits 34 = .ok (.iadd, 1) := by decide +kernel
theorem dX12_emits_35 : decode cX12_emits 35 = .ok (.iaload, 1) := by decide +kernel
theorem dX12_emits_36 : decode cX12_emits 36 = .ok (.iadd, 1) := by decide +kernel
theorem dX12_emits_37 : decode cX12_emits 37 = .ok (.iload_n 1, 1) := by decide +kernel
theorem dX12_emits_38 : decode cX12_emits 38 = .ok (.iastore, 1) := by decide +kernel
theorem dX12_emits_39 : decode cX12_emits 39 = .ok (.aload_n 0, 1) := by decide +kernel
theorem dX12_emits_40 : decode cX12_emits 40 = .ok (.getfield 9, 3) := by decide +kernel
theorem dX12_emits_43 : decode cX12_emits 43 = .ok (.sipush 204, 3) := by decide +kernel
theorem dX12_emits_46 : decode cX12_emits 46 = .ok (.aload_n 0, 1) := by decide +kernel
theorem dX12_emits_47 : decode cX12_emits 47 = .ok (.getfield 78, 3) := by decide +kernel
theorem dX12_emits_50 : decode cX12_emits 50 = .ok (.iadd, 1) := by decide +kernel
theorem dX12_emits_51 : decode cX12_emits 51 = .ok (.dup2, 1) := by decide +kernel
theorem dX12_emits_52 : decode cX12_emits 52 = .ok (.iaload, 1) := by decide +kernel
theorem dX12_emits_53 : decode cX12_emits 53 = .ok (.iconst 1, 1) := by decide +kernel
theorem dX12_emits_54 : decode cX12_emits 54 = .ok (.iadd, 1) := by decide +kernel
theorem dX12_emits_55 : decode cX12_emits 55 = .ok (.iastore, 1) := by decide +kernel
theorem dX12_emits_56 : decode cX12_emits 56 = .ok (.return_, 1) := by decide +kernel
theorem hd_X12_emits : yX12_emits.cls = RX12 ∧ yX12_emits.cls ≠ "java/lang/invoke/MethodHandle" ∧ yX12_emits.cls ≠ "java/lang/invoke/VarHandle" ∧ (parseMethodDescriptor yX12_emits.desc).map (fun d => d.parameters.length) = some 1 := by decide +kernel
abbrev rm_X12_emits : Room := { frames := 0, cells := 0, slots := 0, locals := 0 }
def F_X12_emits (a1 : Int32) (σ : SG) (ρ : RG) : Option (SG) :=
  if (σ 54 8) = 0 then
    nm ((140 : Int32) * (σ 54 5)) fun x2 =>
    nm ((209 : Int32) + x2) fun x3 =>
    nm ((204 : Int32) + (σ 54 5)) fun x4 =>
    gd (inb x4 909) <|
    nm (x3 + (σ 55 (x4).toNatClampNeg)) fun x6 =>
    gd (inb x6 909) <|
    nm (s2 σ 55 (x6).toNatClampNeg a1) fun σ9 =>
    nm ((204 : Int32) + (σ9 54 5)) fun x10 =>
    gd (inb x10 909) <|
    nm ((σ9 55 (x10).toNatClampNeg) + (1 : Int32)) fun x12 =>
    gd (inb x10 909) <|
    nm (s2 σ9 55 (x10).toNatClampNeg x12) fun σ15 =>
    some σ15
  else
    some σ
set_option maxHeartbeats 4000000 in
set_option maxRecDepth 100000 in
theorem w_X12_emits_0 {a1 : Int32} {p : Program} {e : Env} {s : State} {m : MethodId} {args : Array Value} {below : List Frame} {meth : Method} {c : Code} {ρ0 : RG} {σ1 : SG} (C : Cx Y D N ad p s m args meth c cX12_emits 2 none RX12 wsL_law) {σ : SG} {ρ : RG} {H : Heap} {locs : List Loc} {ls : Array Slot} (hρ0 : ρ = ρ0) (hL : Lay N K len ρ) (hF : F_X12_emits a1 σ ρ = some σ1) (hP : WP Y D N ad K len σ ρ H) (hS : va_S (AA N ad s.heap.size) s.heap H locs) (hl : lv_has ls 2 [(0, .ref (ad 54)), (1, .int a1)]) : W p l e rm_X12_emits s m args below meth c H locs 0 0 (MQ below (QW Y D N ad K len σ1 ρ0 (AA N ad s.heap.size) none) args s 0 0 (AA N ad s.heap.size)) (F0 m 0 ls []) := by
  have hx := C.1.1
  have hb := C.1.2.1
  unfold F_X12_emits at hF
  refine lv_aload_n hx hb dX12_emits_0 rfl (lv_at hl 0 rfl) ?_
  refine get_12_8 C hP (lr_54 hL) (lk_54 hL) inlX12 mw_296 dX12_emits_1 ?_
  refine lv_if_ne (tgt := 56) hx hb dX12_emits_4 (by decide) (fun c_1 => ?_) (fun c_1 => ?_) -- COND 1 rcases (Decidable.em ((σ 54 8) = 0)).symm with c_1 | c_1
  · have hF := ite_f hF c_1
    obtain rfl := ret_1 hF
    subst hρ0
    exact x_vret rfl C hP hS dX12_emits_56
  · have hF := ite_t hF c_1
    refine lv_aload_n hx hb dX12_emits_7 rfl (lv_at hl 0 rfl) ?_
    refine get_12_1 C hP (lr_54 hL) (lk_54 hL) inlX12 mw_81 (lf_54_1 hL) dX12_emits_8 ?_
    refine lv_sipush (v := 209) hx hb dX12_emits_11 (by decide +kernel) ?_
    refine lv_sipush (v := 140) hx hb dX12_emits_14 (by decide +kernel) ?_
    refine lv_aload_n hx hb dX12_emits_17 rfl (lv_at hl 0 rfl) ?_
    refine get_12_5 C hP (lr_54 hL) (lk_54 hL) inlX12 mw_293 dX12_emits_18 ?_
    refine lv_imul hx hb dX12_emits_21 ?_
    obtain ⟨x2, ex2, hF⟩ := nm_1 hF
    refine x_top ex2 ?_
    refine lv_iadd hx hb dX12_emits_22 ?_
    obtain ⟨x3, ex3, hF⟩ := nm_1 hF
    refine x_top ex3 ?_
    refine lv_aload_n hx hb dX12_emits_23 rfl (lv_at hl 0 rfl) ?_
    refine get_12_1 C hP (lr_54 hL) (lk_54 hL) inlX12 mw_81 (lf_54_1 hL) dX12_emits_24 ?_
    refine lv_sipush (v := 204) hx hb dX12_emits_27 (by decide +kernel) ?_
    refine lv_aload_n hx hb dX12_emits_30 rfl (lv_at hl 0 rfl) ?_
    refine get_12_5 C hP (lr_54 hL) (lk_54 hL) inlX12 mw_293 dX12_emits_31 ?_
    refine lv_iadd hx hb dX12_emits_34 ?_
    obtain ⟨x4, ex4, hF⟩ := nm_1 hF
    refine x_top ex4 ?_
    obtain ⟨g5, hF⟩ := gd_1 hF
    refine x_iald C hP (lr_55 hL) (lk_55 hL) (ln_55 hL) g5 dX12_emits_35 ?_
    refine lv_iadd hx hb dX12_emits_36 ?_
    obtain ⟨x6, ex6, hF⟩ := nm_1 hF
    refine x_top ex6 ?_
    refine lv_iload_n hx hb dX12_emits_37 rfl (lv_at hl 1 rfl) ?_
    obtain ⟨g7, hF⟩ := gd_1 hF
    obtain ⟨σ9, eσ9, hF⟩ := nm_1 hF
    refine x_iast (σ1 := σ9) C hP hS (lr_55 hL) (lk_55 hL) (ln_55 hL) g7 eσ9 dX12_emits_38 (fun H locs hP hS => ?_)
    refine lv_aload_n hx hb dX12_emits_39 rfl (lv_at hl 0 rfl) ?_
    refine get_12_1 C hP (lr_54 hL) (lk_54 hL) inlX12 mw_81 (lf_54_1 hL) dX12_emits_40 ?_
    refine lv_sipush (v := 204) hx hb dX12_emits_43 (by decide +kernel) ?_
    refine lv_aload_n hx hb dX12_emits_46 rfl (lv_at hl 0 rfl) ?_
    refine get_12_5 C hP (lr_54 hL) (lk_54 hL) inlX12 mw_293 dX12_emits_47 ?_
    refine lv_iadd hx hb dX12_emits_50 ?_
    obtain ⟨x10, ex10, hF⟩ := nm_1 hF
    refine x_top ex10 ?_
    refine lv_dup2_11 hx hb dX12_emits_51 rfl rfl ?_
    obtain ⟨g11, hF⟩ := gd_1 hF
    refine x_iald C hP (lr_55 hL) (lk_55 hL) (ln_55 hL) g11 dX12_emits_52 ?_
    refine lv_iconst (v := 1) hx hb dX12_emits_53 (by decide) ?_
    refine lv_iadd hx hb dX12_emits_54 ?_
    obtain ⟨x12, ex12, hF⟩ := nm_1 hF
    refine x_top ex12 ?_
    obtain ⟨g13, hF⟩ := gd_1 hF
    obtain ⟨σ15, eσ15, hF⟩ := nm_1 hF
    refine x_iast (σ1 := σ15) C hP hS (lr_55 hL) (lk_55 hL) (ln_55 hL) g13 eσ15 dX12_emits_55 (fun H locs hP hS => ?_)
    obtain rfl := ret_1 hF
    subst hρ0
    exact x_vret rfl C hP hS dX12_emits_56
set_option maxHeartbeats 4000000 in
set_option maxRecDepth 100000 in
theorem c_X12_emits {a1 : Int32} {σ1 : SG} {σ : SG} {ρ : RG} (hL : Lay N K len ρ) (hF : F_X12_emits a1 σ ρ = some σ1) : MT l Y D N ad K len yX12_emits (Cond.code yX12_emits cX12_emits 2 none :: wsL_law) rm_X12_emits [.ref (ad 54), .int a1] σ ρ none σ1 ρ := by
  refine mt_of (cc := cX12_emits) (nL := 2) (ret := none) (by decide) (Nat.le_of_ble_eq_true rfl) ?_
  intro p e s m args below meth c ls C hnm hP hS hl
  exact w_X12_emits_0 C rfl hL hF hP hS hl

/-! CutCrookedModel.private int tellsOf(int, int);  -/
theorem dX12_tellsOf_0 : decode cX12_tellsOf 0 = .ok (.aload_n 0, 1) := by decide +kernel
theorem dX12_tellsOf_1 : decode cX12_tellsOf 1 = .ok (.getfield 9, 3) := by decide +kernel
theorem dX12_tellsOf_4 : decode cX12_tellsOf 4 = .ok (.bipush 16, 2) := by decide +kernel
theorem dX12_tellsOf_6 : decode cX12_tellsOf 6 = .ok (.iaload, 1) := by decide +kernel
theorem dX12_tellsOf_7 : decode cX12_tellsOf 7 = .ok (.iconst (-1), 1) := by decide +kernel
theorem dX12_tellsOf_8 : decode cX12_tellsOf 8 = .ok (.if_icmp .ne 7, 3) := by decide +kernel
theorem dX12_tellsOf_11 : decode cX12_tellsOf 11 = .ok (.iload_n 2, 1) := by decide +kernel
theorem dX12_tellsOf_12 : decode cX12_tellsOf 12 = .ok (.goto 17, 3) := by decide +kernel
theorem dX12_tellsOf_15 : decode cX12_tellsOf 15 = .ok (.aload_n 0, 1) := by decide +kernel
theorem dX12_tellsOf_16 : decode cX12_tellsOf 16 = .ok (.getfield 9, 3) := by decide +kernel
theorem dX12_tellsOf_19 : decode cX12_tellsOf 19 = .ok (.iload_n 1, 1) := by decide +kernel
theorem dX12_tellsOf_20 : decode cX12_tellsOf 20 = .ok (.aload_n 0, 1) := by decide +kernel
theorem dX12_tellsOf_21 : decode cX12_tellsOf 21 = .ok (.getfield 9, 3) := by decide +kernel
theorem dX12_tellsOf_24 : decode cX12_tellsOf 24 = .ok (.bipush 16, 2) := by decide +kernel
theorem dX12_tellsOf_26 : decode cX12_tellsOf 26 = .ok (.iaload, 1) := by decide +kernel
theorem dX12_tellsOf_27 : decode cX12_tellsOf 27 = .ok (.iadd, 1) := by decide +kernel
theorem dX12_tellsOf_28 : decode cX12_tellsOf 28 = .ok (.iaload, 1) := by decide +kernel
theorem dX12_tellsOf_29 : decode cX12_tellsOf 29 = .ok (.ireturn, 1) := by decide +kernel
theorem hd_X12_tellsOf : yX12_tellsOf.cls = RX12 ∧ yX12_tellsOf.cls ≠ "java/lang/invoke/MethodHandle" ∧ yX12_tellsOf.cls ≠ "java/lang/invoke/VarHandle" ∧ (parseMethodDescriptor yX12_tellsOf.desc).map (fun d => d.parameters.length) = some 2 := by decide +kernel
abbrev rm_X12_tellsOf : Room := { frames := 0, cells := 0, slots := 0, locals := 0 }
def F_X12_tellsOf (a1 : Int32) (a2 : Int32) (σ : SG) (ρ : RG) : Option (Int32) :=
  if (σ 55 16) = (-1 : Int32) then
    some a2
  else
    nm (a1 + (σ 55 16)) fun x2 =>
    gd (inb x2 909) <|
    some (σ 55 (x2).toNatClampNeg)
set_option maxHeartbeats 4000000 in
set_option maxRecDepth 100000 in
theorem w_X12_tellsOf_0 {a1 : Int32} {a2 : Int32} {p : Program} {e : Env} {s : State} {m : MethodId} {args : Array Value} {below : List Frame} {meth : Method} {c : Code} {σ0 : SG} {ρ0 : RG} {r : Int32} (C : Cx Y D N ad p s m args meth c cX12_tellsOf 3 (some .int) RX12 wsL_law) {σ : SG} {ρ : RG} {H : Heap} {locs : List Loc} {ls : Array Slot} (hσ0 : σ = σ0) (hρ0 : ρ = ρ0) (hL : Lay N K len ρ) (hF : F_X12_tellsOf a1 a2 σ ρ = some r) (hP : WP Y D N ad K len σ ρ H) (hS : va_S (AA N ad s.heap.size) s.heap H locs) (hl : lv_has ls 3 [(0, .ref (ad 54)), (1, .int a1), (2, .int a2)]) : W p l e rm_X12_tellsOf s m args below meth c H locs 0 0 (MQ below (QW Y D N ad K len σ0 ρ0 (AA N ad s.heap.size) (some (.int r))) args s 0 0 (AA N ad s.heap.size)) (F0 m 0 ls []) := by
  have hx := C.1.1
  have hb := C.1.2.1
  unfold F_X12_tellsOf at hF
  refine lv_aload_n hx hb dX12_tellsOf_0 rfl (lv_at hl 0 rfl) ?_
  refine get_12_1 C hP (lr_54 hL) (lk_54 hL) inlX12 mw_81 (lf_54_1 hL) dX12_tellsOf_1 ?_
  refine lv_bipush (v := 16) hx hb dX12_tellsOf_4 (by decide +kernel) ?_
  refine x_iald C hP (lr_55 hL) (lk_55 hL) (ln_55 hL) (by decide +kernel) dX12_tellsOf_6 ?_
  rw [cl_16]
  refine lv_iconst (v := -1) hx hb dX12_tellsOf_7 (by decide) ?_
  refine lv_icmp_ne (tgt := 15) hx hb dX12_tellsOf_8 (by decide) (fun c_1 => ?_) (fun c_1 => ?_) -- COND 1 rcases (Decidable.em ((σ 55 16) = (-1 : Int32))).symm with c_1 | c_1
  · have hF := ite_f hF c_1
    refine lv_aload_n hx hb dX12_tellsOf_15 rfl (lv_at hl 0 rfl) ?_
    refine get_12_1 C hP (lr_54 hL) (lk_54 hL) inlX12 mw_81 (lf_54_1 hL) dX12_tellsOf_16 ?_
    refine lv_iload_n hx hb dX12_tellsOf_19 rfl (lv_at hl 1 rfl) ?_
    refine lv_aload_n hx hb dX12_tellsOf_20 rfl (lv_at hl 0 rfl) ?_
    refine get_12_1 C hP (lr_54 hL) (lk_54 hL) inlX12 mw_81 (lf_54_1 hL) dX12_tellsOf_21 ?_
    refine lv_bipush (v := 16) hx hb dX12_tellsOf_24 (by decide +kernel) ?_
    refine x_iald C hP (lr_55 hL) (lk_55 hL) (ln_55 hL) (by decide +kernel) dX12_tellsOf_26 ?_
    rw [cl_16]
    refine lv_iadd hx hb dX12_tellsOf_27 ?_
    obtain ⟨x2, ex2, hF⟩ := nm_1 hF
    refine x_top ex2 ?_
    obtain ⟨g3, hF⟩ := gd_1 hF
    refine x_iald C hP (lr_55 hL) (lk_55 hL) (ln_55 hL) g3 dX12_tellsOf_28 ?_
    obtain rfl := ret_1 hF
    subst hσ0
    subst hρ0
    exact x_iret rfl C hP hS dX12_tellsOf_29
  · have hF := ite_t hF c_1
    refine lv_iload_n hx hb dX12_tellsOf_11 rfl (lv_at hl 2 rfl) ?_
    refine lv_goto (tgt := 29) hx hb dX12_tellsOf_12 (by decide) ?_
    obtain rfl := ret_1 hF
    subst hσ0
    subst hρ0
    exact x_iret rfl C hP hS dX12_tellsOf_29
set_option maxHeartbeats 4000000 in
set_option maxRecDepth 100000 in
theorem c_X12_tellsOf {a1 : Int32} {a2 : Int32} {r : Int32} {σ : SG} {ρ : RG} (hL : Lay N K len ρ) (hF : F_X12_tellsOf a1 a2 σ ρ = some r) : MT l Y D N ad K len yX12_tellsOf (Cond.code yX12_tellsOf cX12_tellsOf 3 (some .int) :: wsL_law) rm_X12_tellsOf [.ref (ad 54), .int a1, .int a2] σ ρ (some (.int r)) σ ρ := by
  refine mt_of (cc := cX12_tellsOf) (nL := 3) (ret := (some .int)) (by decide) (Nat.le_of_ble_eq_true rfl) ?_
  intro p e s m args below meth c ls C hnm hP hS hl
  exact w_X12_tellsOf_0 C rfl rfl hL hF hP hS hl

/-! CutCrookedModel.private void looks(int, int);  -/
theorem dX12_looks_0 : decode cX12_looks 0 = .ok (.aload_n 0, 1) := by decide +kernel
theorem dX12_looks_1 : decode cX12_looks 1 = .ok (.getfield 21, 3) := by decide +kernel
theorem dX12_looks_4 : decode cX12_looks 4 = .ok (.iconst 0, 1) := by decide +kernel
theorem dX12_looks_5 : decode cX12_looks 5 = .ok (.iload_n 1, 1) := by decide +kernel
theorem dX12_looks_6 : decode cX12_looks 6 = .ok (.iastore, 1) := by decide +kernel
theorem dX12_looks_7 : decode cX12_looks 7 = .ok (.aload_n 0, 1) := by decide +kernel
theorem dX12_looks_8 : decode cX12_looks 8 = .ok (.getfield 21, 3) := by decide +kernel
theorem dX12_looks_11 : decode cX12_looks 11 = .ok (.iconst 1, 1) := by decide +kernel
theorem dX12_looks_12 : decode cX12_looks 12 = .ok (.aload_n 0, 1) := by decide +kernel
theorem dX12_looks_13 : decode cX12_looks 13 = .ok (.getfield 9, 3) := by decide +kernel
theorem dX12_looks_16 : decode cX12_looks 16 = .ok (.bipush 20, 2) := by decide +kernel
theorem dX12_looks_18 : decode cX12_looks 18 = .ok (.iload_n 1, 1) := by decide +kernel
theorem dX12_looks_19 : decode cX12_looks 19 = .ok (.iadd, 1) := by decide +kernel
theorem dX12_looks_20 : decode cX12_looks 20 = .ok (.iaload, 1) := by decide +kernel
theorem dX12_looks_21 : decode cX12_looks 21 = .ok (.iastore, 1) := by decide +kernel
theorem dX12_looks_22 : decode cX12_looks 22 = .ok (.aload_n 0, 1) := by decide +kernel
theorem dX12_looks_23 : decode cX12_looks 23 = .ok (.getfield 21, 3) := by decide +kernel
theorem dX12_looks_26 : decode cX12_looks 26 = .ok (.iconst 2, 1) := by decide +kernel
theorem dX12_looks_27 : decode cX12_looks 27 = .ok (.iload_n 2, 1) := by decide +kernel
theorem dX12_looks_28 : decode cX12_looks 28 = .ok (.iastore, 1) := by decide +kernel
theorem dX12_looks_29 : decode cX12_looks 29 = .ok (.aload_n 0, 1) := by decide +kernel
theorem dX12_looks_30 : decode cX12_looks 30 = .ok (.getfield 21, 3) := by decide +kernel
theorem dX12_looks_33 : decode cX12_looks 33 = .ok (.iconst 3, 1) := by decide +kernel
theorem dX12_looks_34 : decode cX12_looks 34 = .ok (.aload_n 0, 1) := by decide +kernel
theorem dX12_looks_35 : decode cX12_looks 35 = .ok (.getfield 9, 3) := by decide +kernel
theorem dX12_looks_38 : decode cX12_looks 38 = .ok (.iconst 1, 1) := by decide +kernel
theorem dX12_looks_39 : decode cX12_looks 39 = .ok (.iaload, 1) := by decide +kernel
theorem dX12_looks_40 : decode cX12_looks 40 = .ok (.invokestatic 129, 3) := by decide +kernel
theorem dX12_looks_43 : decode cX12_looks 43 = .ok (.iastore, 1) := by decide +kernel
theorem dX12_looks_44 : decode cX12_looks 44 = .ok (.aload_n 0, 1) := by decide +kernel
theorem dX12_looks_45 : decode cX12_looks 45 = .ok (.getfield 21, 3) := by decide +kernel
theorem dX12_looks_48 : decode cX12_looks 48 = .ok (.iconst 4, 1) := by decide +kernel
theorem dX12_looks_49 : decode cX12_looks 49 = .ok (.aload_n 0, 1) := by decide +kernel
theorem dX12_looks_50 : decode cX12_looks 50 = .ok (.getfield 9, 3) := by decide +kernel
theorem dX12_looks_53 : decode cX12_looks 53 = .ok (.iconst 0, 1) := by decide +kernel
theorem dX12_looks_54 : decode cX12_looks 54 = .ok (.iaload, 1) := by decide +kernel
theorem dX12_looks_55 : decode cX12_looks 55 = .ok (.bipush 10, 2) := by decide +kernel
theorem dX12_looks_57 : decode cX12_looks 57 = .ok (.idiv, 1) := by decide +kernel
theorem dX12_looks_58 : decode cX12_looks 58 = .ok (.iastore, 1) := by decide +kernel
theorem dX12_looks_59 : decode cX12_looks 59 = .ok (.aload_n 0, 1) := by decide +kernel
theorem dX12_looks_60 : decode cX12_looks 60 = .ok (.getfield 21, 3) := by decide +kernel
theorem dX12_looks_63 : decode cX12_looks 63 = .ok (.iconst 5, 1) := by decide +kernel
theorem dX12_looks_64 : decode cX12_looks 64 = .ok (.aload_n 0, 1) := by decide +kernel
theorem dX12_looks_65 : decode cX12_looks 65 = .ok (.getfield 9, 3) := by decide +kernel
theorem dX12_looks_68 : decode cX12_looks 68 = .ok (.iconst 3, 1) := by decide +kernel
theorem dX12_looks_69 : decode cX12_looks 69 = .ok (.iaload, 1) := by decide +kernel
theorem dX12_looks_70 : decode cX12_looks 70 = .ok (.bipush 10, 2) := by decide +kernel
theorem dX12_looks_72 : decode cX12_looks 72 = .ok (.irem, 1) := by decide +kernel
theorem dX12_looks_73 : decode cX12_looks 73 = .ok (.iastore, 1) := by decide +kernel
theorem dX12_looks_74 : decode cX12_looks 74 = .ok (.aload_n 0, 1) := by decide +kernel
theorem dX12_looks_75 : decode cX12_looks 75 = .ok (.iconst 0, 1) := by decide +kernel
theorem dX12_looks_76 : decode cX12_looks 76 = .ok (.putfield 133, 3) := by decide +kernel
theorem dX12_looks_79 : decode cX12_looks 79 = .ok (.aload_n 0, 1) := by decide +kernel
theorem dX12_looks_80 : decode cX12_looks 80 = .ok (.iconst 0, 1) := by decide +kernel
theorem dX12_looks_81 : decode cX12_looks 81 = .ok (.putfield 136, 3) := by decide +kernel
theorem dX12_looks_84 : decode cX12_looks 84 = .ok (.aload_n 0, 1) := by decide +kernel
theorem dX12_looks_85 : decode cX12_looks 85 = .ok (.sipush 204, 3) := by decide +kernel
theorem dX12_looks_88 : decode cX12_looks 88 = .ok (.iconst 0, 1) := by decide +kernel
theorem dX12_looks_89 : decode cX12_looks 89 = .ok (.invokevirtual 139, 3) := by decide +kernel
theorem dX12_looks_92 : decode cX12_looks 92 = .ok (.istore_n 3, 1) := by decide +kernel
theorem dX12_looks_93 : decode cX12_looks 93 = .ok (.sipush 209, 3) := by decide +kernel
theorem dX12_looks_96 : decode cX12_looks 96 = .ok (.sipush 140, 3) := by decide +kernel
theorem dX12_looks_99 : decode cX12_looks 99 = .ok (.aload_n 0, 1) := by decide +kernel
theorem dX12_looks_100 : decode cX12_looks 100 = .ok (.getfield 9, 3) := by decide +kernel
theorem dX12_looks_103 : decode cX12_looks 103 = .ok (.bipush 16, 2) := by decide +kernel
theorem dX12_looks_105 : decode cX12_looks 105 = .ok (.iaload, 1) := by decide +kernel
theorem dX12_looks_106 : decode cX12_looks 106 = .ok (.imul, 1) := by decide +kernel
theorem dX12_looks_107 : decode cX12_looks 107 = .ok (.iadd, 1) := by decide +kernel
theorem dX12_looks_108 : decode cX12_looks 108 = .ok (.istore 4, 2) := by decide +kernel
theorem dX12_looks_110 : decode cX12_looks 110 = .ok (.iconst 0, 1) := by decide +kernel
theorem dX12_looks_111 : decode cX12_looks 111 = .ok (.istore 5, 2) := by decide +kernel
theorem dX12_looks_113 : decode cX12_looks 113 = .ok (.iload 4, 2) := by decide +kernel
theorem dX12_looks_115 : decode cX12_looks 115 = .ok (.istore 6, 2) := by decide +kernel
theorem dX12_looks_117 : decode cX12_looks 117 = .ok (.iload 6, 2) := by decide +kernel
theorem dX12_looks_119 : decode cX12_looks 119 = .ok (.iload 4, 2) := by decide +kernel
theorem dX12_looks_121 : decode cX12_looks 121 = .ok (.iload_n 3, 1) := by decide +kernel
theorem dX12_looks_122 : decode cX12_looks 122 = .ok (.iadd, 1) := by decide +kernel
theorem dX12_looks_123 : decode cX12_looks 123 = .ok (.if_icmp .ge 312, 3) := by decide +kernel
theorem dX12_looks_126 : decode cX12_looks 126 = .ok (.aload_n 0, 1) := by decide +kernel
theorem dX12_looks_127 : decode cX12_looks 127 = .ok (.getfield 9, 3) := by decide +kernel
theorem dX12_looks_130 : decode cX12_looks 130 = .ok (.iload 6, 2) := by decide +kernel
theorem dX12_looks_132 : decode cX12_looks 132 = .ok (.iaload, 1) := by decide +kernel
theorem dX12_looks_133 : decode cX12_looks 133 = .ok (.istore 7, 2) := by decide +kernel
theorem dX12_looks_135 : decode cX12_looks 135 = .ok (.iload 7, 2) := by decide +kernel
theorem dX12_looks_137 : decode cX12_looks 137 = .ok (.ifCond .lt 97, 3) := by decide +kernel
theorem dX12_looks_140 : decode cX12_looks 140 = .ok (.aload_n 0, 1) := by decide +kernel
theorem dX12_looks_141 : decode cX12_looks 141 = .ok (.getfield 21, 3) := by decide +kernel
theorem dX12_looks_144 : decode cX12_looks 144 = .ok (.iload 7, 2) := by decide +kernel
theorem dX12_looks_146 : decode cX12_looks 146 = .ok (.bipush 8, 2) := by decide +kernel
theorem dX12_looks_148 : decode cX12_looks 148 = .ok (.irem, 1) := by decide +kernel
theorem dX12_looks_149 : decode cX12_looks 149 = .ok (.iaload, 1) := by decide +kernel
theorem dX12_looks_150 : decode cX12_looks 150 = .ok (.istore 8, 2) := by decide +kernel
theorem dX12_looks_152 : decode cX12_looks 152 = .ok (.iload 7, 2) := by decide +kernel
theorem dX12_looks_154 : decode cX12_looks 154 = .ok (.bipush 8, 2) := by decide +kernel
theorem dX12_looks_156 : decode cX12_looks 156 = .ok (.idiv, 1) := by decide +kernel
theorem dX12_looks_157 : decode cX12_looks 157 = .ok (.iconst 4, 1) := by decide +kernel
theorem dX12_looks_158 : decode cX12_looks 158 = .ok (.irem, 1) := by decide +kernel
theorem dX12_looks_159 : decode cX12_looks 159 = .ok (.istore 9, 2) := by decide +kernel
theorem dX12_looks_161 : decode cX12_looks 161 = .ok (.iload 7, 2) := by decide +kernel
theorem dX12_looks_163 : decode cX12_looks 163 = .ok (.bipush 32, 2) := by decide +kernel
theorem dX12_looks_165 : decode cX12_looks 165 = .ok (.idiv, 1) := by decide +kernel
theorem dX12_looks_166 : decode cX12_looks 166 = .ok (.istore 10, 2) := by decide +kernel
theorem dX12_looks_168 : decode cX12_looks 168 = .ok (.aload_n 0, 1) := by decide +kernel
theorem dX12_looks_169 : decode cX12_looks 169 = .ok (.getfield 24, 3) := by decide +kernel
theorem dX12_looks_172 : decode cX12_looks 172 = .ok (.iload 5, 2) := by decide +kernel
theorem dX12_looks_174 : decode cX12_looks 174 = .ok (.iload 9, 2) := by decide +kernel
theorem dX12_looks_176 : decode cX12_looks 176 = .ok (.ifCond .ne 18, 3) := by decide +kernel
theorem dX12_looks_179 : decode cX12_looks 179 = .ok (.iload 8, 2) := by decide +kernel
theorem dX12_looks_181 : decode cX12_looks 181 = .ok (.iload 10, 2) := by decide +kernel
theorem dX12_looks_183 : decode cX12_looks 183 = .ok (.if_icmp .ge 7, 3) := by decide +kernel
theorem dX12_looks_186 : decode cX12_looks 186 = .ok (.iconst 1, 1) := by decide +kernel
theorem dX12_looks_187 : decode cX12_looks 187 = .ok (.goto 40, 3) := by decide +kernel
theorem dX12_looks_190 : decode cX12_looks 190 = .ok (.iconst 0, 1) := by decide +kernel
theorem dX12_looks_191 : decode cX12_looks 191 = .ok (.goto 36, 3) := by decide +kernel
theorem dX12_looks_194 : decode cX12_looks 194 = .ok (.iload 9, 2) := by decide +kernel
theorem dX12_looks_196 : decode cX12_looks 196 = .ok (.iconst 1, 1) := by decide +kernel
theorem dX12_looks_197 : decode cX12_looks 197 = .ok (.if_icmp .ne 18, 3) := by decide +kernel
theorem dX12_looks_200 : decode cX12_looks 200 = .ok (.iload 8, 2) := by decide +kernel
theorem dX12_looks_202 : decode cX12_looks 202 = .ok (.iload 10, 2) := by decide +kernel
theorem dX12_looks_204 : decode cX12_looks 204 = .ok (.if_icmp .ne 7, 3) := by decide +kernel
theorem dX12_looks_207 : decode cX12_looks 207 = .ok (.iconst 1, 1) := by decide +kernel
theorem dX12_looks_208 : decode cX12_looks 208 = .ok (.goto 19, 3) := by decide +kernel
theorem dX12_looks_211 : decode cX12_looks 211 = .ok (.iconst 0, 1) := by decide +kernel
theorem dX12_looks_212 : decode cX12_looks 212 = .ok (.goto 15, 3) := by decide +kernel
theorem dX12_looks_215 : decode cX12_looks 215 = .ok (.iload 8, 2) := by decide +kernel
theorem dX12_looks_217 : decode cX12_looks 217 = .ok (.iload 10, 2) := by decide +kernel
theorem dX12_looks_219 : decode cX12_looks 219 = .ok (.if_icmp .le 7, 3) := by decide +kernel
theorem dX12_looks_222 : decode cX12_looks 222 = .ok (.iconst 1, 1) := by decide +kernel
theorem dX12_looks_223 : decode cX12_looks 223 = .ok (.goto 4, 3) := by decide +kernel
theorem dX12_looks_226 : decode cX12_looks 226 = .ok (.iconst 0, 1) := by decide +kernel
theorem dX12_looks_227 : decode cX12_looks 227 = .ok (.bastore, 1) := by decide +kernel
theorem dX12_looks_228 : decode cX12_looks 228 = .ok (.iinc 5 1, 3) := by decide +kernel
theorem dX12_looks_231 : decode cX12_looks 231 = .ok (.goto 198, 3) := by decide +kernel
theorem dX12_looks_234 : decode cX12_looks 234 = .ok (.iload 7, 2) := by decide +kernel
theorem dX12_looks_236 : decode cX12_looks 236 = .ok (.iconst (-1), 1) := by decide +kernel
theorem dX12_looks_237 : decode cX12_looks 237 = .ok (.if_icmp .ne 32, 3) := by decide +kernel
theorem dX12_looks_240 : decode cX12_looks 240 = .ok (.aload_n 0, 1) := by decide +kernel
theorem dX12_looks_241 : decode cX12_looks 241 = .ok (.getfield 24, 3) := by decide +kernel
theorem dX12_looks_244 : decode cX12_looks 244 = .ok (.iload 5, 2) := by decide +kernel
theorem dX12_looks_246 : decode cX12_looks 246 = .ok (.iconst 1, 1) := by decide +kernel
theorem dX12_looks_247 : decode cX12_looks 247 = .ok (.isub, 1) := by decide +kernel
theorem dX12_looks_248 : decode cX12_looks 248 = .ok (.aload_n 0, 1) := by decide +kernel
theorem dX12_looks_249 : decode cX12_looks 249 = .ok (.getfield 24, 3) := by decide +kernel
theorem dX12_looks_252 : decode cX12_looks 252 = .ok (.iload 5, 2) := by decide +kernel
theorem dX12_looks_254 : decode cX12_looks 254 = .ok (.iconst 1, 1) := by decide +kernel
theorem dX12_looks_255 : decode cX12_looks 255 = .ok (.isub, 1) := by decide +kernel
theorem dX12_looks_256 : decode cX12_looks 256 = .ok (.baload, 1) := by decide +kernel
theorem dX12_looks_257 : decode cX12_looks 257 = .ok (.ifCond .ne 7, 3) := by decide +kernel
theorem dX12_looks_260 : decode cX12_looks 260 = .ok (.iconst 1, 1) := by decide +kernel
theorem dX12_looks_261 : decode cX12_looks 261 = .ok (.goto 4, 3) := by decide +kernel
theorem dX12_looks_264 : decode cX12_looks 264 = .ok (.iconst 0, 1) := by decide +kernel
theorem dX12_looks_265 : decode cX12_looks 265 = .ok (.bastore, 1) := by decide +kernel
theorem dX12_looks_266 : decode cX12_looks 266 = .ok (.goto 163, 3) := by decide +kernel
theorem dX12_looks_269 : decode cX12_looks 269 = .ok (.iload 7, 2) := by decide +kernel
theorem dX12_looks_271 : decode cX12_looks 271 = .ok (.bipush (-10), 2) := by decide +kernel
theorem dX12_looks_273 : decode cX12_looks 273 = .ok (.if_icmp .le 82, 3) := by decide +kernel
theorem dX12_looks_276 : decode cX12_looks 276 = .ok (.iinc 5 (-1), 3) := by decide +kernel
theorem dX12_looks_279 : decode cX12_looks 279 = .ok (.aload_n 0, 1) := by decide +kernel
theorem dX12_looks_280 : decode cX12_looks 280 = .ok (.getfield 24, 3) := by decide +kernel
theorem dX12_looks_283 : decode cX12_looks 283 = .ok (.iload 5, 2) := by decide +kernel
theorem dX12_looks_285 : decode cX12_looks 285 = .ok (.iconst 1, 1) := by decide +kernel
theorem dX12_looks_286 : decode cX12_looks 286 = .ok (.isub, 1) := by decide +kernel
theorem dX12_looks_287 : decode cX12_looks 287 = .ok (.iload 7, 2) := by decide +kernel
theorem dX12_looks_289 : decode cX12_looks 289 = .ok (.bipush (-2), 2) := by decide +kernel
theorem dX12_looks_291 : decode cX12_looks 291 = .ok (.if_icmp .ne 33, 3) := by decide +kernel
theorem dX12_looks_294 : decode cX12_looks 294 = .ok (.aload_n 0, 1) := by decide +kernel
theorem dX12_looks_295 : decode cX12_looks 295 = .ok (.getfield 24, 3) := by decide +kernel
theorem dX12_looks_298 : decode cX12_looks 298 = .ok (.iload 5, 2) := by decide +kernel
theorem dX12_looks_300 : decode cX12_looks 300 = .ok (.iconst 1, 1) := by decide +kernel
theorem dX12_looks_301 : decode cX12_looks 301 = .ok (.isub, 1) := by decide +kernel
theorem dX12_looks_302 : decode cX12_looks 302 = .ok (.baload, 1) := by decide +kernel
theorem dX12_looks_303 : decode cX12_looks 303 = .ok (.ifCond .eq 17, 3) := by decide +kernel
theorem dX12_looks_306 : decode cX12_looks 306 = .ok (.aload_n 0, 1) := by decide +kernel
theorem dX12_looks_307 : decode cX12_looks 307 = .ok (.getfield 24, 3) := by decide +kernel
theorem dX12_looks_310 : decode cX12_looks 310 = .ok (.iload 5, 2) := by decide +kernel
theorem dX12_looks_312 : decode cX12_looks 312 = .ok (.baload, 1) := by decide +kernel
theorem dX12_looks_313 : decode cX12_looks 313 = .ok (.ifCond .eq 7, 3) := by decide +kernel
theorem dX12_looks_316 : decode cX12_looks 316 = .ok (.iconst 1, 1) := by decide +kernel
theorem dX12_looks_317 : decode cX12_looks 317 = .ok (.goto 34, 3) := by decide +kernel
theorem dX12_looks_320 : decode cX12_looks 320 = .ok (.iconst 0, 1) := by decide +kernel
theorem dX12_looks_321 : decode cX12_looks 321 = .ok (.goto 30, 3) := by decide +kernel
theorem dX12_looks_324 : decode cX12_looks 324 = .ok (.aload_n 0, 1) := by decide +kernel
theorem dX12_looks_325 : decode cX12_looks 325 = .ok (.getfield 24, 3) := by decide +kernel
theorem dX12_looks_328 : decode cX12_looks 328 = .ok (.iload 5, 2) := by decide +kernel
theorem dX12_looks_330 : decode cX12_looks 330 = .ok (.iconst 1, 1) := by decide +kernel
theorem dX12_looks_331 : decode cX12_looks 331 = .ok (.isub, 1) := by decide +kernel
theorem dX12_looks_332 : decode cX12_looks 332 = .ok (.baload, 1) := by decide +kernel
theorem dX12_looks_333 : decode cX12_looks 333 = .ok (.ifCond .ne 13, 3) := by decide +kernel
theorem dX12_looks_336 : decode cX12_looks 336 = .ok (.aload_n 0, 1) := by decide +kernel
theorem dX12_looks_337 : decode cX12_looks 337 = .ok (.getfield 24, 3) := by decide +kernel
theorem dX12_looks_340 : decode cX12_looks 340 = .ok (.iload 5, 2) := by decide +kernel
theorem dX12_looks_342 : decode cX12_looks 342 = .ok (.baload, 1) := by decide +kernel
theorem dX12_looks_343 : decode cX12_looks 343 = .ok (.ifCond .eq 7, 3) := by decide +kernel
theorem dX12_looks_346 : decode cX12_looks 346 = .ok (.iconst 1, 1) := by decide +kernel
theorem dX12_looks_347 : decode cX12_looks 347 = .ok (.goto 4, 3) := by decide +kernel
theorem dX12_looks_350 : decode cX12_looks 350 = .ok (.iconst 0, 1) := by decide +kernel
theorem dX12_looks_351 : decode cX12_looks 351 = .ok (.bastore, 1) := by decide +kernel
theorem dX12_looks_352 : decode cX12_looks 352 = .ok (.goto 77, 3) := by decide +kernel
theorem dX12_looks_355 : decode cX12_looks 355 = .ok (.iconst 0, 1) := by decide +kernel
theorem dX12_looks_356 : decode cX12_looks 356 = .ok (.istore 5, 2) := by decide +kernel
theorem dX12_looks_358 : decode cX12_looks 358 = .ok (.aload_n 0, 1) := by decide +kernel
theorem dX12_looks_359 : decode cX12_looks 359 = .ok (.getfield 24, 3) := by decide +kernel
theorem dX12_looks_362 : decode cX12_looks 362 = .ok (.iconst 0, 1) := by decide +kernel
theorem dX12_looks_363 : decode cX12_looks 363 = .ok (.baload, 1) := by decide +kernel
theorem dX12_looks_364 : decode cX12_looks 364 = .ok (.istore 8, 2) := by decide +kernel
theorem dX12_looks_366 : decode cX12_looks 366 = .ok (.aload_n 0, 1) := by decide +kernel
theorem dX12_looks_367 : decode cX12_looks 367 = .ok (.dup, 1) := by decide +kernel
theorem dX12_looks_368 : decode cX12_looks 368 = .ok (.getfield 133, 3) := by decide +kernel
theorem dX12_looks_371 : decode cX12_looks 371 = .ok (.iload 8, 2) := by decide +kernel
theorem dX12_looks_373 : decode cX12_looks 373 = .ok (.ifCond .eq 19, 3) := by decide +kernel
theorem dX12_looks_376 : decode cX12_looks 376 = .ok (.iload 7, 2) := by decide +kernel
theorem dX12_looks_378 : decode cX12_looks 378 = .ok (.sipush (-200), 3) := by decide +kernel
theorem dX12_looks_381 : decode cX12_looks 381 = .ok (.if_icmp .le 11, 3) := by decide +kernel
theorem dX12_looks_384 : decode cX12_looks 384 = .ok (.bipush (-10), 2) := by decide +kernel
theorem dX12_looks_386 : decode cX12_looks 386 = .ok (.iload 7, 2) := by decide +kernel
theorem dX12_looks_388 : decode cX12_looks 388 = .ok (.isub, 1) := by decide +kernel
theorem dX12_looks_389 : decode cX12_looks 389 = .ok (.goto 4, 3) := by decide +kernel
theorem dX12_looks_392 : decode cX12_looks 392 = .ok (.iconst 0, 1) := by decide +kernel
theorem dX12_looks_393 : decode cX12_looks 393 = .ok (.iadd, 1) := by decide +kernel
theorem dX12_looks_394 : decode cX12_looks 394 = .ok (.putfield 133, 3) := by decide +kernel
theorem dX12_looks_397 : decode cX12_looks 397 = .ok (.aload_n 0, 1) := by decide +kernel
theorem dX12_looks_398 : decode cX12_looks 398 = .ok (.dup, 1) := by decide +kernel
theorem dX12_looks_399 : decode cX12_looks 399 = .ok (.getfield 136, 3) := by decide +kernel
theorem dX12_looks_402 : decode cX12_looks 402 = .ok (.iload 8, 2) := by decide +kernel
theorem dX12_looks_404 : decode cX12_looks 404 = .ok (.ifCond .eq 20, 3) := by decide +kernel
theorem dX12_looks_407 : decode cX12_looks 407 = .ok (.iload 7, 2) := by decide +kernel
theorem dX12_looks_409 : decode cX12_looks 409 = .ok (.sipush (-200), 3) := by decide +kernel
theorem dX12_looks_412 : decode cX12_looks 412 = .ok (.if_icmp .gt 12, 3) := by decide +kernel
theorem dX12_looks_415 : decode cX12_looks 415 = .ok (.sipush (-200), 3) := by decide +kernel
theorem dX12_looks_418 : decode cX12_looks 418 = .ok (.iload 7, 2) := by decide +kernel
theorem dX12_looks_420 : decode cX12_looks 420 = .ok (.isub, 1) := by decide +kernel
theorem dX12_looks_421 : decode cX12_looks 421 = .ok (.goto 4, 3) := by decide +kernel
theorem dX12_looks_424 : decode cX12_looks 424 = .ok (.iconst 0, 1) := by decide +kernel
theorem dX12_looks_425 : decode cX12_looks 425 = .ok (.iadd, 1) := by decide +kernel
theorem dX12_looks_426 : decode cX12_looks 426 = .ok (.putfield 136, 3) := by decide +kernel
theorem dX12_looks_429 : decode cX12_looks 429 = .ok (.iinc 6 1, 3) := by decide +kernel
theorem dX12_looks_432 : decode cX12_looks 432 = .ok (.goto (-315), 3) := by decide +kernel
theorem dX12_looks_435 : decode cX12_looks 435 = .ok (.return_, 1) := by decide +kernel
theorem hd_X12_looks : yX12_looks.cls = RX12 ∧ yX12_looks.cls ≠ "java/lang/invoke/MethodHandle" ∧ yX12_looks.cls ≠ "java/lang/invoke/VarHandle" ∧ (parseMethodDescriptor yX12_looks.desc).map (fun d => d.parameters.length) = some 2 := by decide +kernel
abbrev rm_X12_looks : Room := { frames := 1, cells := 0, slots := 0, locals := 22 }
def F_X12_looks_429 (a1 : Int32) (a2 : Int32) (rec_117 : SG → RG → Int32 → Int32 → Int32 → Int32 → Option (SG)) (σ : SG) (ρ : RG) (v3 : Int32) (v4 : Int32) (v5 : Int32) (v6 : Int32) : Option (SG) :=
  nm (v6 + (1 : Int32)) fun x39 =>
  rec_117 σ ρ v3 v4 v5 x39
def F_X12_looks_425 (a1 : Int32) (a2 : Int32) (rec_117 : SG → RG → Int32 → Int32 → Int32 → Int32 → Option (SG)) (σ : SG) (ρ : RG) (v3 : Int32) (v4 : Int32) (v5 : Int32) (v6 : Int32) (k1 : Int32) (k2 : Int32) : Option (SG) :=
  nm (k1 + k2) fun x36 =>
  nm (s2 σ 54 13 x36) fun σ38 =>
  F_X12_looks_429 a1 a2 rec_117 σ38 ρ v3 v4 v5 v6
def F_X12_looks_424 (a1 : Int32) (a2 : Int32) (rec_117 : SG → RG → Int32 → Int32 → Int32 → Int32 → Option (SG)) (σ : SG) (ρ : RG) (v3 : Int32) (v4 : Int32) (v5 : Int32) (v6 : Int32) (k1 : Int32) : Option (SG) :=
  F_X12_looks_425 a1 a2 rec_117 σ ρ v3 v4 v5 v6 k1 (0 : Int32)
def F_X12_looks_393 (a1 : Int32) (a2 : Int32) (rec_117 : SG → RG → Int32 → Int32 → Int32 → Int32 → Option (SG)) (σ : SG) (ρ : RG) (v3 : Int32) (v4 : Int32) (v5 : Int32) (v6 : Int32) (v7 : Int32) (v8 : Int32) (k1 : Int32) (k2 : Int32) : Option (SG) :=
  nm (k1 + k2) fun x32 =>
  nm (s2 σ 54 12 x32) fun σ34 =>
  if v8 = 0 then
    F_X12_looks_424 a1 a2 rec_117 σ34 ρ v3 v4 v5 v6 (σ34 54 13)
  else
    if (-200 : Int32) < v7 then
      F_X12_looks_424 a1 a2 rec_117 σ34 ρ v3 v4 v5 v6 (σ34 54 13)
    else
      nm ((-200 : Int32) - v7) fun x41 =>
      F_X12_looks_425 a1 a2 rec_117 σ34 ρ v3 v4 v5 v6 (σ34 54 13) x41
def F_X12_looks_392 (a1 : Int32) (a2 : Int32) (rec_117 : SG → RG → Int32 → Int32 → Int32 → Int32 → Option (SG)) (σ : SG) (ρ : RG) (v3 : Int32) (v4 : Int32) (v5 : Int32) (v6 : Int32) (v7 : Int32) (v8 : Int32) (k1 : Int32) : Option (SG) :=
  F_X12_looks_393 a1 a2 rec_117 σ ρ v3 v4 v5 v6 v7 v8 k1 (0 : Int32)
def F_X12_looks_351 (a1 : Int32) (a2 : Int32) (rec_117 : SG → RG → Int32 → Int32 → Int32 → Int32 → Option (SG)) (σ : SG) (ρ : RG) (v3 : Int32) (v4 : Int32) (v5 : Int32) (v6 : Int32) (k1 : Int32) (k2 : Int32) : Option (SG) :=
  gd (inb k1 64) <|
  gd (isb k2) <|
  nm (s2 σ 59 (k1).toNatClampNeg k2) fun σ52 =>
  F_X12_looks_429 a1 a2 rec_117 σ52 ρ v3 v4 v5 v6
def F_X12_looks_346 (a1 : Int32) (a2 : Int32) (rec_117 : SG → RG → Int32 → Int32 → Int32 → Int32 → Option (SG)) (σ : SG) (ρ : RG) (v3 : Int32) (v4 : Int32) (v5 : Int32) (v6 : Int32) (k1 : Int32) : Option (SG) :=
  F_X12_looks_351 a1 a2 rec_117 σ ρ v3 v4 v5 v6 k1 (1 : Int32)
def F_X12_looks_320 (a1 : Int32) (a2 : Int32) (rec_117 : SG → RG → Int32 → Int32 → Int32 → Int32 → Option (SG)) (σ : SG) (ρ : RG) (v3 : Int32) (v4 : Int32) (v5 : Int32) (v6 : Int32) (k1 : Int32) : Option (SG) :=
  F_X12_looks_351 a1 a2 rec_117 σ ρ v3 v4 v5 v6 k1 (0 : Int32)
def F_X12_looks_265 (a1 : Int32) (a2 : Int32) (rec_117 : SG → RG → Int32 → Int32 → Int32 → Int32 → Option (SG)) (σ : SG) (ρ : RG) (v3 : Int32) (v4 : Int32) (v5 : Int32) (v6 : Int32) (k1 : Int32) (k2 : Int32) : Option (SG) :=
  gd (inb k1 64) <|
  gd (isb k2) <|
  nm (s2 σ 59 (k1).toNatClampNeg k2) fun σ66 =>
  F_X12_looks_429 a1 a2 rec_117 σ66 ρ v3 v4 v5 v6
def F_X12_looks_227 (a1 : Int32) (a2 : Int32) (rec_117 : SG → RG → Int32 → Int32 → Int32 → Int32 → Option (SG)) (σ : SG) (ρ : RG) (v3 : Int32) (v4 : Int32) (v5 : Int32) (v6 : Int32) (k1 : Int32) (k2 : Int32) : Option (SG) :=
  gd (inb k1 64) <|
  gd (isb k2) <|
  nm (s2 σ 59 (k1).toNatClampNeg k2) fun σ77 =>
  nm (v5 + (1 : Int32)) fun x78 =>
  F_X12_looks_429 a1 a2 rec_117 σ77 ρ v3 v4 x78 v6
def F_X12_looks_117 (a1 : Int32) (a2 : Int32) : Nat → SG → RG → Int32 → Int32 → Int32 → Int32 → Option (SG)
  | 0 => fun _ _ _ _ _ _ => none
  | n + 1 => fun σ ρ v3 v4 v5 v6 =>
  nm (v4 + v3) fun x25 =>
  if x25 ≤ v6 then
    some σ
  else
    gd (inb v6 909) <|
    if (σ 55 (v6).toNatClampNeg) < 0 then
      if (σ 55 (v6).toNatClampNeg) = (-1 : Int32) then
        nm (v5 - (1 : Int32)) fun x60 =>
        nm (v5 - (1 : Int32)) fun x61 =>
        gd (inb x61 64) <|
        if (σ 59 (x61).toNatClampNeg) = 0 then
          F_X12_looks_265 a1 a2 (F_X12_looks_117 a1 a2 n) σ ρ v3 v4 v5 v6 x60 (1 : Int32)
        else
          F_X12_looks_265 a1 a2 (F_X12_looks_117 a1 a2 n) σ ρ v3 v4 v5 v6 x60 (0 : Int32)
      else
        if (σ 55 (v6).toNatClampNeg) ≤ (-10 : Int32) then
          if (σ 59 0) = 0 then
            F_X12_looks_392 a1 a2 (F_X12_looks_117 a1 a2 n) σ ρ v3 v4 (0 : Int32) v6 (σ 55 (v6).toNatClampNeg) (σ 59 0) (σ 54 12)
          else
            if (σ 55 (v6).toNatClampNeg) ≤ (-200 : Int32) then
              F_X12_looks_392 a1 a2 (F_X12_looks_117 a1 a2 n) σ ρ v3 v4 (0 : Int32) v6 (σ 55 (v6).toNatClampNeg) (σ 59 0) (σ 54 12)
            else
              nm ((-10 : Int32) - (σ 55 (v6).toNatClampNeg)) fun x43 =>
              F_X12_looks_393 a1 a2 (F_X12_looks_117 a1 a2 n) σ ρ v3 v4 (0 : Int32) v6 (σ 55 (v6).toNatClampNeg) (σ 59 0) (σ 54 12) x43
        else
          nm (v5 + (-1 : Int32)) fun x44 =>
          nm (x44 - (1 : Int32)) fun x45 =>
          if (σ 55 (v6).toNatClampNeg) = (-2 : Int32) then
            nm (x44 - (1 : Int32)) fun x55 =>
            gd (inb x55 64) <|
            if (σ 59 (x55).toNatClampNeg) = 0 then
              F_X12_looks_320 a1 a2 (F_X12_looks_117 a1 a2 n) σ ρ v3 v4 x44 v6 x45
            else
              gd (inb x44 64) <|
              if (σ 59 (x44).toNatClampNeg) = 0 then
                F_X12_looks_320 a1 a2 (F_X12_looks_117 a1 a2 n) σ ρ v3 v4 x44 v6 x45
              else
                F_X12_looks_351 a1 a2 (F_X12_looks_117 a1 a2 n) σ ρ v3 v4 x44 v6 x45 (1 : Int32)
          else
            nm (x44 - (1 : Int32)) fun x47 =>
            gd (inb x47 64) <|
            if (σ 59 (x47).toNatClampNeg) = 0 then
              gd (inb x44 64) <|
              if (σ 59 (x44).toNatClampNeg) = 0 then
                F_X12_looks_351 a1 a2 (F_X12_looks_117 a1 a2 n) σ ρ v3 v4 x44 v6 x45 (0 : Int32)
              else
                F_X12_looks_346 a1 a2 (F_X12_looks_117 a1 a2 n) σ ρ v3 v4 x44 v6 x45
            else
              F_X12_looks_346 a1 a2 (F_X12_looks_117 a1 a2 n) σ ρ v3 v4 x44 v6 x45
    else
      nm ((σ 55 (v6).toNatClampNeg) - (σ 55 (v6).toNatClampNeg) / (8 : Int32) * (8 : Int32)) fun x67 =>
      gd (inb x67 6) <|
      nm ((σ 55 (v6).toNatClampNeg) / (8 : Int32)) fun x69 =>
      nm (x69 - x69 / (4 : Int32) * (4 : Int32)) fun x70 =>
      nm ((σ 55 (v6).toNatClampNeg) / (32 : Int32)) fun x71 =>
      if x70 = 0 then
        if x71 ≤ (σ 58 (x67).toNatClampNeg) then
          F_X12_looks_227 a1 a2 (F_X12_looks_117 a1 a2 n) σ ρ v3 v4 v5 v6 v5 (0 : Int32)
        else
          F_X12_looks_227 a1 a2 (F_X12_looks_117 a1 a2 n) σ ρ v3 v4 v5 v6 v5 (1 : Int32)
      else
        if x70 = (1 : Int32) then
          if (σ 58 (x67).toNatClampNeg) = x71 then
            F_X12_looks_227 a1 a2 (F_X12_looks_117 a1 a2 n) σ ρ v3 v4 v5 v6 v5 (1 : Int32)
          else
            F_X12_looks_227 a1 a2 (F_X12_looks_117 a1 a2 n) σ ρ v3 v4 v5 v6 v5 (0 : Int32)
        else
          if (σ 58 (x67).toNatClampNeg) ≤ x71 then
            F_X12_looks_227 a1 a2 (F_X12_looks_117 a1 a2 n) σ ρ v3 v4 v5 v6 v5 (0 : Int32)
          else
            F_X12_looks_227 a1 a2 (F_X12_looks_117 a1 a2 n) σ ρ v3 v4 v5 v6 v5 (1 : Int32)
def F_X12_looks (a1 : Int32) (a2 : Int32) (σ : SG) (ρ : RG) : Option (SG) :=
  nm (s2 σ 58 0 a1) fun σ2 =>
  nm ((20 : Int32) + a1) fun x3 =>
  gd (inb x3 909) <|
  nm (s2 σ2 58 1 (σ2 55 (x3).toNatClampNeg)) fun σ6 =>
  nm (s2 σ6 58 2 a2) fun σ8 =>
  bn (F_X12_size (σ8 55 1) σ8 ρ) fun r9 =>
  nm (s2 σ8 58 3 r9) fun σ11 =>
  nm ((σ11 55 0) / (10 : Int32)) fun x12 =>
  nm (s2 σ11 58 4 x12) fun σ14 =>
  nm ((σ14 55 3) - (σ14 55 3) / (10 : Int32) * (10 : Int32)) fun x15 =>
  nm (s2 σ14 58 5 x15) fun σ17 =>
  nm (s2 σ17 54 12 (0 : Int32)) fun σ19 =>
  nm (s2 σ19 54 13 (0 : Int32)) fun σ21 =>
  bn (F_X12_tellsOf (204 : Int32) (0 : Int32) σ21 ρ) fun r22 =>
  nm ((140 : Int32) * (σ21 55 16)) fun x23 =>
  nm ((209 : Int32) + x23) fun x24 =>
  F_X12_looks_117 a1 a2 1024 σ21 ρ r22 x24 (0 : Int32) x24
set_option maxHeartbeats 4000000 in
set_option maxRecDepth 100000 in
theorem w_X12_looks_429 {a1 : Int32} {a2 : Int32} {rec_117 : SG → RG → Int32 → Int32 → Int32 → Int32 → Option (SG)} {p : Program} {e : Env} {s : State} {m : MethodId} {args : Array Value} {below : List Frame} {meth : Method} {c : Code} {ρ0 : RG} {σ1 : SG} (C : Cx Y D N ad p s m args meth c cX12_looks 11 none RX12 wsL_law) (hrec_117 : ∀ (σ : SG) (ρ : RG) (v3 : Int32) (v4 : Int32) (v5 : Int32) (v6 : Int32) (H : Heap) (locs : List Loc) (ls : Array Slot), ρ = ρ0 → Lay N K len ρ → rec_117 σ ρ v3 v4 v5 v6 = some σ1 → WP Y D N ad K len σ ρ H → va_S (AA N ad s.heap.size) s.heap H locs → lv_has ls 11 [(0, .ref (ad 54)), (3, .int v3), (4, .int v4), (5, .int v5), (6, .int v6)] → W p l e rm_X12_looks s m args below meth c H locs 0 0 (MQ below (QW Y D N ad K len σ1 ρ0 (AA N ad s.heap.size) none) args s 0 0 (AA N ad s.heap.size)) (F0 m 117 ls [])) {σ : SG} {ρ : RG} {v3 : Int32} {v4 : Int32} {v5 : Int32} {v6 : Int32} {H : Heap} {locs : List Loc} {ls : Array Slot} (hρ0 : ρ = ρ0) (hL : Lay N K len ρ) (hF : F_X12_looks_429 a1 a2 rec_117 σ ρ v3 v4 v5 v6 = some σ1) (hP : WP Y D N ad K len σ ρ H) (hS : va_S (AA N ad s.heap.size) s.heap H locs) (hl : lv_has ls 11 [(0, .ref (ad 54)), (3, .int v3), (4, .int v4), (5, .int v5), (6, .int v6)]) : W p l e rm_X12_looks s m args below meth c H locs 0 0 (MQ below (QW Y D N ad K len σ1 ρ0 (AA N ad s.heap.size) none) args s 0 0 (AA N ad s.heap.size)) (F0 m 429 ls []) := by
  have hx := C.1.1
  have hb := C.1.2.1
  unfold F_X12_looks_429 at hF
  obtain ⟨x39, ex39, hF⟩ := nm_1 hF
  refine lv_iinc (v := x39) (lv' := [(6, .int x39), (0, .ref (ad 54)), (3, .int v3), (4, .int v4), (5, .int v5)]) hx hb dX12_looks_429 hl (k := 4) rfl (by rw [ex39]; first | rfl | decide) (by decide) rfl (fun ls hl => ?_)
  refine lv_goto (tgt := 117) hx hb dX12_looks_432 (by decide) ?_
  exact hrec_117 _ _ _ _ _ _ _ _ _ hρ0 hL hF hP hS (lv_sub hl [1, 2, 3, 4, 0] rfl)
set_option maxHeartbeats 4000000 in
set_option maxRecDepth 100000 in
theorem w_X12_looks_425 {a1 : Int32} {a2 : Int32} {rec_117 : SG → RG → Int32 → Int32 → Int32 → Int32 → Option (SG)} {p : Program} {e : Env} {s : State} {m : MethodId} {args : Array Value} {below : List Frame} {meth : Method} {c : Code} {ρ0 : RG} {σ1 : SG} (C : Cx Y D N ad p s m args meth c cX12_looks 11 none RX12 wsL_law) (hrec_117 : ∀ (σ : SG) (ρ : RG) (v3 : Int32) (v4 : Int32) (v5 : Int32) (v6 : Int32) (H : Heap) (locs : List Loc) (ls : Array Slot), ρ = ρ0 → Lay N K len ρ → rec_117 σ ρ v3 v4 v5 v6 = some σ1 → WP Y D N ad K len σ ρ H → va_S (AA N ad s.heap.size) s.heap H locs → lv_has ls 11 [(0, .ref (ad 54)), (3, .int v3), (4, .int v4), (5, .int v5), (6, .int v6)] → W p l e rm_X12_looks s m args below meth c H locs 0 0 (MQ below (QW Y D N ad K len σ1 ρ0 (AA N ad s.heap.size) none) args s 0 0 (AA N ad s.heap.size)) (F0 m 117 ls [])) {σ : SG} {ρ : RG} {v3 : Int32} {v4 : Int32} {v5 : Int32} {v6 : Int32} {k1 : Int32} {k2 : Int32} {H : Heap} {locs : List Loc} {ls : Array Slot} (hρ0 : ρ = ρ0) (hL : Lay N K len ρ) (hF : F_X12_looks_425 a1 a2 rec_117 σ ρ v3 v4 v5 v6 k1 k2 = some σ1) (hP : WP Y D N ad K len σ ρ H) (hS : va_S (AA N ad s.heap.size) s.heap H locs) (hl : lv_has ls 11 [(0, .ref (ad 54)), (3, .int v3), (4, .int v4), (5, .int v5), (6, .int v6)]) : W p l e rm_X12_looks s m args below meth c H locs 0 0 (MQ below (QW Y D N ad K len σ1 ρ0 (AA N ad s.heap.size) none) args s 0 0 (AA N ad s.heap.size)) (F0 m 425 ls [.int k2, .int k1, .ref (ad 54)]) := by
  have hx := C.1.1
  have hb := C.1.2.1
  unfold F_X12_looks_425 at hF
  refine lv_iadd hx hb dX12_looks_425 ?_
  obtain ⟨x36, ex36, hF⟩ := nm_1 hF
  refine x_top ex36 ?_
  obtain ⟨σ38, eσ38, hF⟩ := nm_1 hF
  refine put_12_13 C hP hS (lr_54 hL) (lk_54 hL) inlX12 mw_657 eσ38 dX12_looks_426 (fun H locs hP hS => ?_)
  exact w_X12_looks_429 C hrec_117 hρ0 hL hF hP hS (lv_sub hl [0, 1, 2, 3, 4] rfl)
set_option maxHeartbeats 4000000 in
set_option maxRecDepth 100000 in
theorem w_X12_looks_424 {a1 : Int32} {a2 : Int32} {rec_117 : SG → RG → Int32 → Int32 → Int32 → Int32 → Option (SG)} {p : Program} {e : Env} {s : State} {m : MethodId} {args : Array Value} {below : List Frame} {meth : Method} {c : Code} {ρ0 : RG} {σ1 : SG} (C : Cx Y D N ad p s m args meth c cX12_looks 11 none RX12 wsL_law) (hrec_117 : ∀ (σ : SG) (ρ : RG) (v3 : Int32) (v4 : Int32) (v5 : Int32) (v6 : Int32) (H : Heap) (locs : List Loc) (ls : Array Slot), ρ = ρ0 → Lay N K len ρ → rec_117 σ ρ v3 v4 v5 v6 = some σ1 → WP Y D N ad K len σ ρ H → va_S (AA N ad s.heap.size) s.heap H locs → lv_has ls 11 [(0, .ref (ad 54)), (3, .int v3), (4, .int v4), (5, .int v5), (6, .int v6)] → W p l e rm_X12_looks s m args below meth c H locs 0 0 (MQ below (QW Y D N ad K len σ1 ρ0 (AA N ad s.heap.size) none) args s 0 0 (AA N ad s.heap.size)) (F0 m 117 ls [])) {σ : SG} {ρ : RG} {v3 : Int32} {v4 : Int32} {v5 : Int32} {v6 : Int32} {k1 : Int32} {H : Heap} {locs : List Loc} {ls : Array Slot} (hρ0 : ρ = ρ0) (hL : Lay N K len ρ) (hF : F_X12_looks_424 a1 a2 rec_117 σ ρ v3 v4 v5 v6 k1 = some σ1) (hP : WP Y D N ad K len σ ρ H) (hS : va_S (AA N ad s.heap.size) s.heap H locs) (hl : lv_has ls 11 [(0, .ref (ad 54)), (3, .int v3), (4, .int v4), (5, .int v5), (6, .int v6)]) : W p l e rm_X12_looks s m args below meth c H locs 0 0 (MQ below (QW Y D N ad K len σ1 ρ0 (AA N ad s.heap.size) none) args s 0 0 (AA N ad s.heap.size)) (F0 m 424 ls [.int k1, .ref (ad 54)]) := by
  have hx := C.1.1
  have hb := C.1.2.1
  unfold F_X12_looks_424 at hF
  refine lv_iconst (v := 0) hx hb dX12_looks_424 (by decide) ?_
  exact w_X12_looks_425 C hrec_117 hρ0 hL hF hP hS (lv_sub hl [0, 1, 2, 3, 4] rfl)
set_option maxHeartbeats 4000000 in
set_option maxRecDepth 100000 in
theorem w_X12_looks_393 {a1 : Int32} {a2 : Int32} {rec_117 : SG → RG → Int32 → Int32 → Int32 → Int32 → Option (SG)} {p : Program} {e : Env} {s : State} {m : MethodId} {args : Array Value} {below : List Frame} {meth : Method} {c : Code} {ρ0 : RG} {σ1 : SG} (C : Cx Y D N ad p s m args meth c cX12_looks 11 none RX12 wsL_law) (hrec_117 : ∀ (σ : SG) (ρ : RG) (v3 : Int32) (v4 : Int32) (v5 : Int32) (v6 : Int32) (H : Heap) (locs : List Loc) (ls : Array Slot), ρ = ρ0 → Lay N K len ρ → rec_117 σ ρ v3 v4 v5 v6 = some σ1 → WP Y D N ad K len σ ρ H → va_S (AA N ad s.heap.size) s.heap H locs → lv_has ls 11 [(0, .ref (ad 54)), (3, .int v3), (4, .int v4), (5, .int v5), (6, .int v6)] → W p l e rm_X12_looks s m args below meth c H locs 0 0 (MQ below (QW Y D N ad K len σ1 ρ0 (AA N ad s.heap.size) none) args s 0 0 (AA N ad s.heap.size)) (F0 m 117 ls [])) {σ : SG} {ρ : RG} {v3 : Int32} {v4 : Int32} {v5 : Int32} {v6 : Int32} {v7 : Int32} {v8 : Int32} {k1 : Int32} {k2 : Int32} {H : Heap} {locs : List Loc} {ls : Array Slot} (hρ0 : ρ = ρ0) (hL : Lay N K len ρ) (hF : F_X12_looks_393 a1 a2 rec_117 σ ρ v3 v4 v5 v6 v7 v8 k1 k2 = some σ1) (hP : WP Y D N ad K len σ ρ H) (hS : va_S (AA N ad s.heap.size) s.heap H locs) (hl : lv_has ls 11 [(0, .ref (ad 54)), (3, .int v3), (4, .int v4), (5, .int v5), (6, .int v6), (7, .int v7), (8, .int v8)]) : W p l e rm_X12_looks s m args below meth c H locs 0 0 (MQ below (QW Y D N ad K len σ1 ρ0 (AA N ad s.heap.size) none) args s 0 0 (AA N ad s.heap.size)) (F0 m 393 ls [.int k2, .int k1, .ref (ad 54)]) := by
  have hx := C.1.1
  have hb := C.1.2.1
  unfold F_X12_looks_393 at hF
  refine lv_iadd hx hb dX12_looks_393 ?_
  obtain ⟨x32, ex32, hF⟩ := nm_1 hF
  refine x_top ex32 ?_
  obtain ⟨σ34, eσ34, hF⟩ := nm_1 hF
  refine put_12_12 C hP hS (lr_54 hL) (lk_54 hL) inlX12 mw_656 eσ34 dX12_looks_394 (fun H locs hP hS => ?_)
  refine lv_aload_n hx hb dX12_looks_397 rfl (lv_at hl 0 rfl) ?_
  refine lv_dup hx hb dX12_looks_398 rfl ?_
  refine get_12_13 C hP (lr_54 hL) (lk_54 hL) inlX12 mw_657 dX12_looks_399 ?_
  refine lv_iload hx hb dX12_looks_402 (lv_at hl 6 rfl) ?_
  refine lv_if_eq (tgt := 424) hx hb dX12_looks_404 (by decide) (fun c_35 => ?_) (fun c_35 => ?_) -- COND 35 by_cases c_35 : v8 = 0
  · have hF := ite_t hF c_35
    exact w_X12_looks_424 C hrec_117 hρ0 hL hF hP hS (lv_sub hl [0, 1, 2, 3, 4] rfl)
  · have hF := ite_f hF c_35
    refine lv_iload hx hb dX12_looks_407 (lv_at hl 5 rfl) ?_
    refine lv_sipush (v := -200) hx hb dX12_looks_409 (by decide +kernel) ?_
    refine lv_icmp_gt (tgt := 424) hx hb dX12_looks_412 (by decide) (fun c_40 => ?_) (fun c_40 => ?_) -- COND 40 by_cases c_40 : (-200 : Int32) < v7
    · have hF := ite_t hF c_40
      exact w_X12_looks_424 C hrec_117 hρ0 hL hF hP hS (lv_sub hl [0, 1, 2, 3, 4] rfl)
    · have hF := ite_f hF c_40
      refine lv_sipush (v := -200) hx hb dX12_looks_415 (by decide +kernel) ?_
      refine lv_iload hx hb dX12_looks_418 (lv_at hl 5 rfl) ?_
      refine lv_isub hx hb dX12_looks_420 ?_
      obtain ⟨x41, ex41, hF⟩ := nm_1 hF
      refine x_top ex41 ?_
      refine lv_goto (tgt := 425) hx hb dX12_looks_421 (by decide) ?_
      exact w_X12_looks_425 C hrec_117 hρ0 hL hF hP hS (lv_sub hl [0, 1, 2, 3, 4] rfl)
set_option maxHeartbeats 4000000 in
set_option maxRecDepth 100000 in
theorem w_X12_looks_392 {a1 : Int32} {a2 : Int32} {rec_117 : SG → RG → Int32 → Int32 → Int32 → Int32 → Option (SG)} {p : Program} {e : Env} {s : State} {m : MethodId} {args : Array Value} {below : List Frame} {meth : Method} {c : Code} {ρ0 : RG} {σ1 : SG} (C : Cx Y D N ad p s m args meth c cX12_looks 11 none RX12 wsL_law) (hrec_117 : ∀ (σ : SG) (ρ : RG) (v3 : Int32) (v4 : Int32) (v5 : Int32) (v6 : Int32) (H : Heap) (locs : List Loc) (ls : Array Slot), ρ = ρ0 → Lay N K len ρ → rec_117 σ ρ v3 v4 v5 v6 = some σ1 → WP Y D N ad K len σ ρ H → va_S (AA N ad s.heap.size) s.heap H locs → lv_has ls 11 [(0, .ref (ad 54)), (3, .int v3), (4, .int v4), (5, .int v5), (6, .int v6)] → W p l e rm_X12_looks s m args below meth c H locs 0 0 (MQ below (QW Y D N ad K len σ1 ρ0 (AA N ad s.heap.size) none) args s 0 0 (AA N ad s.heap.size)) (F0 m 117 ls [])) {σ : SG} {ρ : RG} {v3 : Int32} {v4 : Int32} {v5 : Int32} {v6 : Int32} {v7 : Int32} {v8 : Int32} {k1 : Int32} {H : Heap} {locs : List Loc} {ls : Array Slot} (hρ0 : ρ = ρ0) (hL : Lay N K len ρ) (hF : F_X12_looks_392 a1 a2 rec_117 σ ρ v3 v4 v5 v6 v7 v8 k1 = some σ1) (hP : WP Y D N ad K len σ ρ H) (hS : va_S (AA N ad s.heap.size) s.heap H locs) (hl : lv_has ls 11 [(0, .ref (ad 54)), (3, .int v3), (4, .int v4), (5, .int v5), (6, .int v6), (7, .int v7), (8, .int v8)]) : W p l e rm_X12_looks s m args below meth c H locs 0 0 (MQ below (QW Y D N ad K len σ1 ρ0 (AA N ad s.heap.size) none) args s 0 0 (AA N ad s.heap.size)) (F0 m 392 ls [.int k1, .ref (ad 54)]) := by
  have hx := C.1.1
  have hb := C.1.2.1
  unfold F_X12_looks_392 at hF
  refine lv_iconst (v := 0) hx hb dX12_looks_392 (by decide) ?_
  exact w_X12_looks_393 C hrec_117 hρ0 hL hF hP hS (lv_sub hl [0, 1, 2, 3, 4, 5, 6] rfl)
set_option maxHeartbeats 4000000 in
set_option maxRecDepth 100000 in
theorem w_X12_looks_351 {a1 : Int32} {a2 : Int32} {rec_117 : SG → RG → Int32 → Int32 → Int32 → Int32 → Option (SG)} {p : Program} {e : Env} {s : State} {m : MethodId} {args : Array Value} {below : List Frame} {meth : Method} {c : Code} {ρ0 : RG} {σ1 : SG} (C : Cx Y D N ad p s m args meth c cX12_looks 11 none RX12 wsL_law) (hrec_117 : ∀ (σ : SG) (ρ : RG) (v3 : Int32) (v4 : Int32) (v5 : Int32) (v6 : Int32) (H : Heap) (locs : List Loc) (ls : Array Slot), ρ = ρ0 → Lay N K len ρ → rec_117 σ ρ v3 v4 v5 v6 = some σ1 → WP Y D N ad K len σ ρ H → va_S (AA N ad s.heap.size) s.heap H locs → lv_has ls 11 [(0, .ref (ad 54)), (3, .int v3), (4, .int v4), (5, .int v5), (6, .int v6)] → W p l e rm_X12_looks s m args below meth c H locs 0 0 (MQ below (QW Y D N ad K len σ1 ρ0 (AA N ad s.heap.size) none) args s 0 0 (AA N ad s.heap.size)) (F0 m 117 ls [])) {σ : SG} {ρ : RG} {v3 : Int32} {v4 : Int32} {v5 : Int32} {v6 : Int32} {k1 : Int32} {k2 : Int32} {H : Heap} {locs : List Loc} {ls : Array Slot} (hρ0 : ρ = ρ0) (hL : Lay N K len ρ) (hF : F_X12_looks_351 a1 a2 rec_117 σ ρ v3 v4 v5 v6 k1 k2 = some σ1) (hP : WP Y D N ad K len σ ρ H) (hS : va_S (AA N ad s.heap.size) s.heap H locs) (hl : lv_has ls 11 [(0, .ref (ad 54)), (3, .int v3), (4, .int v4), (5, .int v5), (6, .int v6)]) : W p l e rm_X12_looks s m args below meth c H locs 0 0 (MQ below (QW Y D N ad K len σ1 ρ0 (AA N ad s.heap.size) none) args s 0 0 (AA N ad s.heap.size)) (F0 m 351 ls [.int k2, .int k1, .ref (ad 59)]) := by
  have hx := C.1.1
  have hb := C.1.2.1
  unfold F_X12_looks_351 at hF
  obtain ⟨g50, hF⟩ := gd_1 hF
  obtain ⟨gz52, hF⟩ := gd_1 hF
  obtain ⟨σ52, eσ52, hF⟩ := nm_1 hF
  refine x_zast (σ1 := σ52) C hP hS (lr_59 hL) (lk_59 hL) (ln_59 hL) g50 gz52 eσ52 dX12_looks_351 (fun H locs hP hS => ?_)
  refine lv_goto (tgt := 429) hx hb dX12_looks_352 (by decide) ?_
  exact w_X12_looks_429 C hrec_117 hρ0 hL hF hP hS (lv_sub hl [0, 1, 2, 3, 4] rfl)
set_option maxHeartbeats 4000000 in
set_option maxRecDepth 100000 in
theorem w_X12_looks_346 {a1 : Int32} {a2 : Int32} {rec_117 : SG → RG → Int32 → Int32 → Int32 → Int32 → Option (SG)} {p : Program} {e : Env} {s : State} {m : MethodId} {args : Array Value} {below : List Frame} {meth : Method} {c : Code} {ρ0 : RG} {σ1 : SG} (C : Cx Y D N ad p s m args meth c cX12_looks 11 none RX12 wsL_law) (hrec_117 : ∀ (σ : SG) (ρ : RG) (v3 : Int32) (v4 : Int32) (v5 : Int32) (v6 : Int32) (H : Heap) (locs : List Loc) (ls : Array Slot), ρ = ρ0 → Lay N K len ρ → rec_117 σ ρ v3 v4 v5 v6 = some σ1 → WP Y D N ad K len σ ρ H → va_S (AA N ad s.heap.size) s.heap H locs → lv_has ls 11 [(0, .ref (ad 54)), (3, .int v3), (4, .int v4), (5, .int v5), (6, .int v6)] → W p l e rm_X12_looks s m args below meth c H locs 0 0 (MQ below (QW Y D N ad K len σ1 ρ0 (AA N ad s.heap.size) none) args s 0 0 (AA N ad s.heap.size)) (F0 m 117 ls [])) {σ : SG} {ρ : RG} {v3 : Int32} {v4 : Int32} {v5 : Int32} {v6 : Int32} {k1 : Int32} {H : Heap} {locs : List Loc} {ls : Array Slot} (hρ0 : ρ = ρ0) (hL : Lay N K len ρ) (hF : F_X12_looks_346 a1 a2 rec_117 σ ρ v3 v4 v5 v6 k1 = some σ1) (hP : WP Y D N ad K len σ ρ H) (hS : va_S (AA N ad s.heap.size) s.heap H locs) (hl : lv_has ls 11 [(0, .ref (ad 54)), (3, .int v3), (4, .int v4), (5, .int v5), (6, .int v6)]) : W p l e rm_X12_looks s m args below meth c H locs 0 0 (MQ below (QW Y D N ad K len σ1 ρ0 (AA N ad s.heap.size) none) args s 0 0 (AA N ad s.heap.size)) (F0 m 346 ls [.int k1, .ref (ad 59)]) := by
  have hx := C.1.1
  have hb := C.1.2.1
  unfold F_X12_looks_346 at hF
  refine lv_iconst (v := 1) hx hb dX12_looks_346 (by decide) ?_
  refine lv_goto (tgt := 351) hx hb dX12_looks_347 (by decide) ?_
  exact w_X12_looks_351 C hrec_117 hρ0 hL hF hP hS (lv_sub hl [0, 1, 2, 3, 4] rfl)
set_option maxHeartbeats 4000000 in
set_option maxRecDepth 100000 in
theorem w_X12_looks_320 {a1 : Int32} {a2 : Int32} {rec_117 : SG → RG → Int32 → Int32 → Int32 → Int32 → Option (SG)} {p : Program} {e : Env} {s : State} {m : MethodId} {args : Array Value} {below : List Frame} {meth : Method} {c : Code} {ρ0 : RG} {σ1 : SG} (C : Cx Y D N ad p s m args meth c cX12_looks 11 none RX12 wsL_law) (hrec_117 : ∀ (σ : SG) (ρ : RG) (v3 : Int32) (v4 : Int32) (v5 : Int32) (v6 : Int32) (H : Heap) (locs : List Loc) (ls : Array Slot), ρ = ρ0 → Lay N K len ρ → rec_117 σ ρ v3 v4 v5 v6 = some σ1 → WP Y D N ad K len σ ρ H → va_S (AA N ad s.heap.size) s.heap H locs → lv_has ls 11 [(0, .ref (ad 54)), (3, .int v3), (4, .int v4), (5, .int v5), (6, .int v6)] → W p l e rm_X12_looks s m args below meth c H locs 0 0 (MQ below (QW Y D N ad K len σ1 ρ0 (AA N ad s.heap.size) none) args s 0 0 (AA N ad s.heap.size)) (F0 m 117 ls [])) {σ : SG} {ρ : RG} {v3 : Int32} {v4 : Int32} {v5 : Int32} {v6 : Int32} {k1 : Int32} {H : Heap} {locs : List Loc} {ls : Array Slot} (hρ0 : ρ = ρ0) (hL : Lay N K len ρ) (hF : F_X12_looks_320 a1 a2 rec_117 σ ρ v3 v4 v5 v6 k1 = some σ1) (hP : WP Y D N ad K len σ ρ H) (hS : va_S (AA N ad s.heap.size) s.heap H locs) (hl : lv_has ls 11 [(0, .ref (ad 54)), (3, .int v3), (4, .int v4), (5, .int v5), (6, .int v6)]) : W p l e rm_X12_looks s m args below meth c H locs 0 0 (MQ below (QW Y D N ad K len σ1 ρ0 (AA N ad s.heap.size) none) args s 0 0 (AA N ad s.heap.size)) (F0 m 320 ls [.int k1, .ref (ad 59)]) := by
  have hx := C.1.1
  have hb := C.1.2.1
  unfold F_X12_looks_320 at hF
  refine lv_iconst (v := 0) hx hb dX12_looks_320 (by decide) ?_
  refine lv_goto (tgt := 351) hx hb dX12_looks_321 (by decide) ?_
  exact w_X12_looks_351 C hrec_117 hρ0 hL hF hP hS (lv_sub hl [0, 1, 2, 3, 4] rfl)
set_option maxHeartbeats 4000000 in
set_option maxRecDepth 100000 in
theorem w_X12_looks_265 {a1 : Int32} {a2 : Int32} {rec_117 : SG → RG → Int32 → Int32 → Int32 → Int32 → Option (SG)} {p : Program} {e : Env} {s : State} {m : MethodId} {args : Array Value} {below : List Frame} {meth : Method} {c : Code} {ρ0 : RG} {σ1 : SG} (C : Cx Y D N ad p s m args meth c cX12_looks 11 none RX12 wsL_law) (hrec_117 : ∀ (σ : SG) (ρ : RG) (v3 : Int32) (v4 : Int32) (v5 : Int32) (v6 : Int32) (H : Heap) (locs : List Loc) (ls : Array Slot), ρ = ρ0 → Lay N K len ρ → rec_117 σ ρ v3 v4 v5 v6 = some σ1 → WP Y D N ad K len σ ρ H → va_S (AA N ad s.heap.size) s.heap H locs → lv_has ls 11 [(0, .ref (ad 54)), (3, .int v3), (4, .int v4), (5, .int v5), (6, .int v6)] → W p l e rm_X12_looks s m args below meth c H locs 0 0 (MQ below (QW Y D N ad K len σ1 ρ0 (AA N ad s.heap.size) none) args s 0 0 (AA N ad s.heap.size)) (F0 m 117 ls [])) {σ : SG} {ρ : RG} {v3 : Int32} {v4 : Int32} {v5 : Int32} {v6 : Int32} {k1 : Int32} {k2 : Int32} {H : Heap} {locs : List Loc} {ls : Array Slot} (hρ0 : ρ = ρ0) (hL : Lay N K len ρ) (hF : F_X12_looks_265 a1 a2 rec_117 σ ρ v3 v4 v5 v6 k1 k2 = some σ1) (hP : WP Y D N ad K len σ ρ H) (hS : va_S (AA N ad s.heap.size) s.heap H locs) (hl : lv_has ls 11 [(0, .ref (ad 54)), (3, .int v3), (4, .int v4), (5, .int v5), (6, .int v6)]) : W p l e rm_X12_looks s m args below meth c H locs 0 0 (MQ below (QW Y D N ad K len σ1 ρ0 (AA N ad s.heap.size) none) args s 0 0 (AA N ad s.heap.size)) (F0 m 265 ls [.int k2, .int k1, .ref (ad 59)]) := by
  have hx := C.1.1
  have hb := C.1.2.1
  unfold F_X12_looks_265 at hF
  obtain ⟨g64, hF⟩ := gd_1 hF
  obtain ⟨gz66, hF⟩ := gd_1 hF
  obtain ⟨σ66, eσ66, hF⟩ := nm_1 hF
  refine x_zast (σ1 := σ66) C hP hS (lr_59 hL) (lk_59 hL) (ln_59 hL) g64 gz66 eσ66 dX12_looks_265 (fun H locs hP hS => ?_)
  refine lv_goto (tgt := 429) hx hb dX12_looks_266 (by decide) ?_
  exact w_X12_looks_429 C hrec_117 hρ0 hL hF hP hS (lv_sub hl [0, 1, 2, 3, 4] rfl)
set_option maxHeartbeats 4000000 in
set_option maxRecDepth 100000 in
theorem w_X12_looks_227 {a1 : Int32} {a2 : Int32} {rec_117 : SG → RG → Int32 → Int32 → Int32 → Int32 → Option (SG)} {p : Program} {e : Env} {s : State} {m : MethodId} {args : Array Value} {below : List Frame} {meth : Method} {c : Code} {ρ0 : RG} {σ1 : SG} (C : Cx Y D N ad p s m args meth c cX12_looks 11 none RX12 wsL_law) (hrec_117 : ∀ (σ : SG) (ρ : RG) (v3 : Int32) (v4 : Int32) (v5 : Int32) (v6 : Int32) (H : Heap) (locs : List Loc) (ls : Array Slot), ρ = ρ0 → Lay N K len ρ → rec_117 σ ρ v3 v4 v5 v6 = some σ1 → WP Y D N ad K len σ ρ H → va_S (AA N ad s.heap.size) s.heap H locs → lv_has ls 11 [(0, .ref (ad 54)), (3, .int v3), (4, .int v4), (5, .int v5), (6, .int v6)] → W p l e rm_X12_looks s m args below meth c H locs 0 0 (MQ below (QW Y D N ad K len σ1 ρ0 (AA N ad s.heap.size) none) args s 0 0 (AA N ad s.heap.size)) (F0 m 117 ls [])) {σ : SG} {ρ : RG} {v3 : Int32} {v4 : Int32} {v5 : Int32} {v6 : Int32} {k1 : Int32} {k2 : Int32} {H : Heap} {locs : List Loc} {ls : Array Slot} (hρ0 : ρ = ρ0) (hL : Lay N K len ρ) (hF : F_X12_looks_227 a1 a2 rec_117 σ ρ v3 v4 v5 v6 k1 k2 = some σ1) (hP : WP Y D N ad K len σ ρ H) (hS : va_S (AA N ad s.heap.size) s.heap H locs) (hl : lv_has ls 11 [(0, .ref (ad 54)), (3, .int v3), (4, .int v4), (5, .int v5), (6, .int v6)]) : W p l e rm_X12_looks s m args below meth c H locs 0 0 (MQ below (QW Y D N ad K len σ1 ρ0 (AA N ad s.heap.size) none) args s 0 0 (AA N ad s.heap.size)) (F0 m 227 ls [.int k2, .int k1, .ref (ad 59)]) := by
  have hx := C.1.1
  have hb := C.1.2.1
  unfold F_X12_looks_227 at hF
  obtain ⟨g75, hF⟩ := gd_1 hF
  obtain ⟨gz77, hF⟩ := gd_1 hF
  obtain ⟨σ77, eσ77, hF⟩ := nm_1 hF
  refine x_zast (σ1 := σ77) C hP hS (lr_59 hL) (lk_59 hL) (ln_59 hL) g75 gz77 eσ77 dX12_looks_227 (fun H locs hP hS => ?_)
  obtain ⟨x78, ex78, hF⟩ := nm_1 hF
  refine lv_iinc (v := x78) (lv' := [(5, .int x78), (0, .ref (ad 54)), (3, .int v3), (4, .int v4), (6, .int v6)]) hx hb dX12_looks_228 hl (k := 3) rfl (by rw [ex78]; first | rfl | decide) (by decide) rfl (fun ls hl => ?_)
  refine lv_goto (tgt := 429) hx hb dX12_looks_231 (by decide) ?_
  exact w_X12_looks_429 C hrec_117 hρ0 hL hF hP hS (lv_sub hl [1, 2, 3, 0, 4] rfl)
set_option maxHeartbeats 4000000 in
set_option maxRecDepth 100000 in
theorem w_X12_looks_117 {a1 : Int32} {a2 : Int32} {p : Program} {e : Env} {s : State} {m : MethodId} {args : Array Value} {below : List Frame} {meth : Method} {c : Code} {ρ0 : RG} {σ1 : SG} (C : Cx Y D N ad p s m args meth c cX12_looks 11 none RX12 wsL_law) : ∀ (n : Nat) (σ : SG) (ρ : RG) (v3 : Int32) (v4 : Int32) (v5 : Int32) (v6 : Int32) (H : Heap) (locs : List Loc) (ls : Array Slot), ρ = ρ0 → Lay N K len ρ → F_X12_looks_117 a1 a2 n σ ρ v3 v4 v5 v6 = some σ1 → WP Y D N ad K len σ ρ H → va_S (AA N ad s.heap.size) s.heap H locs → lv_has ls 11 [(0, .ref (ad 54)), (3, .int v3), (4, .int v4), (5, .int v5), (6, .int v6)] → W p l e rm_X12_looks s m args below meth c H locs 0 0 (MQ below (QW Y D N ad K len σ1 ρ0 (AA N ad s.heap.size) none) args s 0 0 (AA N ad s.heap.size)) (F0 m 117 ls []) := by
  have hx := C.1.1
  have hb := C.1.2.1
  intro n
  induction n with
  | zero => intro σ ρ v3 v4 v5 v6 H locs ls hρ0 hL hF; cases hF
  | succ n ih =>
    intro σ ρ v3 v4 v5 v6 H locs ls hρ0 hL hF hP hS hl
    unfold F_X12_looks_117 at hF
    refine lv_iload hx hb dX12_looks_117 (lv_at hl 4 rfl) ?_
    refine lv_iload hx hb dX12_looks_119 (lv_at hl 2 rfl) ?_
    refine lv_iload_n hx hb dX12_looks_121 rfl (lv_at hl 1 rfl) ?_
    refine lv_iadd hx hb dX12_looks_122 ?_
    obtain ⟨x25, ex25, hF⟩ := nm_1 hF
    refine x_top ex25 ?_
    refine lv_icmp_ge (tgt := 435) hx hb dX12_looks_123 (by decide) (fun c_26 => ?_) (fun c_26 => ?_) -- COND 26 by_cases c_26 : x25 ≤ v6
    · have hF := ite_t hF c_26
      obtain rfl := ret_1 hF
      subst hρ0
      exact x_vret rfl C hP hS dX12_looks_435
    · have hF := ite_f hF c_26
      refine lv_aload_n hx hb dX12_looks_126 rfl (lv_at hl 0 rfl) ?_
      refine get_12_1 C hP (lr_54 hL) (lk_54 hL) inlX12 mw_81 (lf_54_1 hL) dX12_looks_127 ?_
      refine lv_iload hx hb dX12_looks_130 (lv_at hl 4 rfl) ?_
      obtain ⟨g27, hF⟩ := gd_1 hF
      refine x_iald C hP (lr_55 hL) (lk_55 hL) (ln_55 hL) g27 dX12_looks_132 ?_
      refine lv_istore (lv' := [(7, .int (σ 55 (v6).toNatClampNeg)), (0, .ref (ad 54)), (3, .int v3), (4, .int v4), (5, .int v5), (6, .int v6)]) hx hb dX12_looks_133 hl (by decide) rfl (fun ls hl => ?_)
      refine lv_iload hx hb dX12_looks_135 (lv_at hl 0 rfl) ?_
      refine lv_if_lt (tgt := 234) hx hb dX12_looks_137 (by decide) (fun c_28 => ?_) (fun c_28 => ?_) -- COND 28 by_cases c_28 : (σ 55 (v6).toNatClampNeg) < 0
      · have hF := ite_t hF c_28
        refine lv_iload hx hb dX12_looks_234 (lv_at hl 0 rfl) ?_
        refine lv_iconst (v := -1) hx hb dX12_looks_236 (by decide) ?_
        refine lv_icmp_ne (tgt := 269) hx hb dX12_looks_237 (by decide) (fun c_29 => ?_) (fun c_29 => ?_) -- COND 29 rcases (Decidable.em ((σ 55 (v6).toNatClampNeg) = (-1 : Int32))).symm with c_29 | c_29
        · have hF := ite_f hF c_29
          refine lv_iload hx hb dX12_looks_269 (lv_at hl 0 rfl) ?_
          refine lv_bipush (v := -10) hx hb dX12_looks_271 (by decide +kernel) ?_
          refine lv_icmp_le (tgt := 355) hx hb dX12_looks_273 (by decide) (fun c_30 => ?_) (fun c_30 => ?_) -- COND 30 by_cases c_30 : (σ 55 (v6).toNatClampNeg) ≤ (-10 : Int32)
          · have hF := ite_t hF c_30
            refine lv_iconst (v := 0) hx hb dX12_looks_355 (by decide) ?_
            refine lv_istore (lv' := [(5, .int (0 : Int32)), (7, .int (σ 55 (v6).toNatClampNeg)), (0, .ref (ad 54)), (3, .int v3), (4, .int v4), (6, .int v6)]) hx hb dX12_looks_356 hl (by decide) rfl (fun ls hl => ?_)
            refine lv_aload_n hx hb dX12_looks_358 rfl (lv_at hl 2 rfl) ?_
            refine get_12_11 C hP (lr_54 hL) (lk_54 hL) inlX12 mw_85 (lf_54_11 hL) dX12_looks_359 ?_
            refine lv_iconst (v := 0) hx hb dX12_looks_362 (by decide) ?_
            refine x_zald C hP (lr_59 hL) (lk_59 hL) (ln_59 hL) (by decide +kernel) dX12_looks_363 ?_
            rw [cl_0]
            refine lv_istore (lv' := [(8, .int (σ 59 0)), (5, .int (0 : Int32)), (7, .int (σ 55 (v6).toNatClampNeg)), (0, .ref (ad 54)), (3, .int v3), (4, .int v4), (6, .int v6)]) hx hb dX12_looks_364 hl (by decide) rfl (fun ls hl => ?_)
            refine lv_aload_n hx hb dX12_looks_366 rfl (lv_at hl 3 rfl) ?_
            refine lv_dup hx hb dX12_looks_367 rfl ?_
            refine get_12_12 C hP (lr_54 hL) (lk_54 hL) inlX12 mw_656 dX12_looks_368 ?_
            refine lv_iload hx hb dX12_looks_371 (lv_at hl 0 rfl) ?_
            refine lv_if_eq (tgt := 392) hx hb dX12_looks_373 (by decide) (fun c_31 => ?_) (fun c_31 => ?_) -- COND 31 by_cases c_31 : (σ 59 0) = 0
            · have hF := ite_t hF c_31
              exact w_X12_looks_392 C ih hρ0 hL hF hP hS (lv_sub hl [3, 4, 5, 1, 6, 2, 0] rfl)
            · have hF := ite_f hF c_31
              refine lv_iload hx hb dX12_looks_376 (lv_at hl 2 rfl) ?_
              refine lv_sipush (v := -200) hx hb dX12_looks_378 (by decide +kernel) ?_
              refine lv_icmp_le (tgt := 392) hx hb dX12_looks_381 (by decide) (fun c_42 => ?_) (fun c_42 => ?_) -- COND 42 by_cases c_42 : (σ 55 (v6).toNatClampNeg) ≤ (-200 : Int32)
              · have hF := ite_t hF c_42
                exact w_X12_looks_392 C ih hρ0 hL hF hP hS (lv_sub hl [3, 4, 5, 1, 6, 2, 0] rfl)
              · have hF := ite_f hF c_42
                refine lv_bipush (v := -10) hx hb dX12_looks_384 (by decide +kernel) ?_
                refine lv_iload hx hb dX12_looks_386 (lv_at hl 2 rfl) ?_
                refine lv_isub hx hb dX12_looks_388 ?_
                obtain ⟨x43, ex43, hF⟩ := nm_1 hF
                refine x_top ex43 ?_
                refine lv_goto (tgt := 393) hx hb dX12_looks_389 (by decide) ?_
                exact w_X12_looks_393 C ih hρ0 hL hF hP hS (lv_sub hl [3, 4, 5, 1, 6, 2, 0] rfl)
          · have hF := ite_f hF c_30
            obtain ⟨x44, ex44, hF⟩ := nm_1 hF
            refine lv_iinc (v := x44) (lv' := [(5, .int x44), (7, .int (σ 55 (v6).toNatClampNeg)), (0, .ref (ad 54)), (3, .int v3), (4, .int v4), (6, .int v6)]) hx hb dX12_looks_276 hl (k := 4) rfl (by rw [ex44]; first | rfl | decide) (by decide) rfl (fun ls hl => ?_)
            refine lv_aload_n hx hb dX12_looks_279 rfl (lv_at hl 2 rfl) ?_
            refine get_12_11 C hP (lr_54 hL) (lk_54 hL) inlX12 mw_85 (lf_54_11 hL) dX12_looks_280 ?_
            refine lv_iload hx hb dX12_looks_283 (lv_at hl 0 rfl) ?_
            refine lv_iconst (v := 1) hx hb dX12_looks_285 (by decide) ?_
            refine lv_isub hx hb dX12_looks_286 ?_
            obtain ⟨x45, ex45, hF⟩ := nm_1 hF
            refine x_top ex45 ?_
            refine lv_iload hx hb dX12_looks_287 (lv_at hl 1 rfl) ?_
            refine lv_bipush (v := -2) hx hb dX12_looks_289 (by decide +kernel) ?_
            refine lv_icmp_ne (tgt := 324) hx hb dX12_looks_291 (by decide) (fun c_46 => ?_) (fun c_46 => ?_) -- COND 46 rcases (Decidable.em ((σ 55 (v6).toNatClampNeg) = (-2 : Int32))).symm with c_46 | c_46
            · have hF := ite_f hF c_46
              refine lv_aload_n hx hb dX12_looks_324 rfl (lv_at hl 2 rfl) ?_
              refine get_12_11 C hP (lr_54 hL) (lk_54 hL) inlX12 mw_85 (lf_54_11 hL) dX12_looks_325 ?_
              refine lv_iload hx hb dX12_looks_328 (lv_at hl 0 rfl) ?_
              refine lv_iconst (v := 1) hx hb dX12_looks_330 (by decide) ?_
              refine lv_isub hx hb dX12_looks_331 ?_
              obtain ⟨x47, ex47, hF⟩ := nm_1 hF
              refine x_top ex47 ?_
              obtain ⟨g48, hF⟩ := gd_1 hF
              refine x_zald C hP (lr_59 hL) (lk_59 hL) (ln_59 hL) g48 dX12_looks_332 ?_
              refine lv_if_ne (tgt := 346) hx hb dX12_looks_333 (by decide) (fun c_49 => ?_) (fun c_49 => ?_) -- COND 49 rcases (Decidable.em ((σ 59 (x47).toNatClampNeg) = 0)).symm with c_49 | c_49
              · have hF := ite_f hF c_49
                exact w_X12_looks_346 C ih hρ0 hL hF hP hS (lv_sub hl [2, 3, 4, 0, 5] rfl)
              · have hF := ite_t hF c_49
                refine lv_aload_n hx hb dX12_looks_336 rfl (lv_at hl 2 rfl) ?_
                refine get_12_11 C hP (lr_54 hL) (lk_54 hL) inlX12 mw_85 (lf_54_11 hL) dX12_looks_337 ?_
                refine lv_iload hx hb dX12_looks_340 (lv_at hl 0 rfl) ?_
                obtain ⟨g53, hF⟩ := gd_1 hF
                refine x_zald C hP (lr_59 hL) (lk_59 hL) (ln_59 hL) g53 dX12_looks_342 ?_
                refine lv_if_eq (tgt := 350) hx hb dX12_looks_343 (by decide) (fun c_54 => ?_) (fun c_54 => ?_) -- COND 54 by_cases c_54 : (σ 59 (x44).toNatClampNeg) = 0
                · have hF := ite_t hF c_54
                  refine lv_iconst (v := 0) hx hb dX12_looks_350 (by decide) ?_
                  exact w_X12_looks_351 C ih hρ0 hL hF hP hS (lv_sub hl [2, 3, 4, 0, 5] rfl)
                · have hF := ite_f hF c_54
                  exact w_X12_looks_346 C ih hρ0 hL hF hP hS (lv_sub hl [2, 3, 4, 0, 5] rfl)
            · have hF := ite_t hF c_46
              refine lv_aload_n hx hb dX12_looks_294 rfl (lv_at hl 2 rfl) ?_
              refine get_12_11 C hP (lr_54 hL) (lk_54 hL) inlX12 mw_85 (lf_54_11 hL) dX12_looks_295 ?_
              refine lv_iload hx hb dX12_looks_298 (lv_at hl 0 rfl) ?_
              refine lv_iconst (v := 1) hx hb dX12_looks_300 (by decide) ?_
              refine lv_isub hx hb dX12_looks_301 ?_
              obtain ⟨x55, ex55, hF⟩ := nm_1 hF
              refine x_top ex55 ?_
              obtain ⟨g56, hF⟩ := gd_1 hF
              refine x_zald C hP (lr_59 hL) (lk_59 hL) (ln_59 hL) g56 dX12_looks_302 ?_
              refine lv_if_eq (tgt := 320) hx hb dX12_looks_303 (by decide) (fun c_57 => ?_) (fun c_57 => ?_) -- COND 57 by_cases c_57 : (σ 59 (x55).toNatClampNeg) = 0
              · have hF := ite_t hF c_57
                exact w_X12_looks_320 C ih hρ0 hL hF hP hS (lv_sub hl [2, 3, 4, 0, 5] rfl)
              · have hF := ite_f hF c_57
                refine lv_aload_n hx hb dX12_looks_306 rfl (lv_at hl 2 rfl) ?_
                refine get_12_11 C hP (lr_54 hL) (lk_54 hL) inlX12 mw_85 (lf_54_11 hL) dX12_looks_307 ?_
                refine lv_iload hx hb dX12_looks_310 (lv_at hl 0 rfl) ?_
                obtain ⟨g58, hF⟩ := gd_1 hF
                refine x_zald C hP (lr_59 hL) (lk_59 hL) (ln_59 hL) g58 dX12_looks_312 ?_
                refine lv_if_eq (tgt := 320) hx hb dX12_looks_313 (by decide) (fun c_59 => ?_) (fun c_59 => ?_) -- COND 59 by_cases c_59 : (σ 59 (x44).toNatClampNeg) = 0
                · have hF := ite_t hF c_59
                  exact w_X12_looks_320 C ih hρ0 hL hF hP hS (lv_sub hl [2, 3, 4, 0, 5] rfl)
                · have hF := ite_f hF c_59
                  refine lv_iconst (v := 1) hx hb dX12_looks_316 (by decide) ?_
                  refine lv_goto (tgt := 351) hx hb dX12_looks_317 (by decide) ?_
                  exact w_X12_looks_351 C ih hρ0 hL hF hP hS (lv_sub hl [2, 3, 4, 0, 5] rfl)
        · have hF := ite_t hF c_29
          refine lv_aload_n hx hb dX12_looks_240 rfl (lv_at hl 1 rfl) ?_
          refine get_12_11 C hP (lr_54 hL) (lk_54 hL) inlX12 mw_85 (lf_54_11 hL) dX12_looks_241 ?_
          refine lv_iload hx hb dX12_looks_244 (lv_at hl 4 rfl) ?_
          refine lv_iconst (v := 1) hx hb dX12_looks_246 (by decide) ?_
          refine lv_isub hx hb dX12_looks_247 ?_
          obtain ⟨x60, ex60, hF⟩ := nm_1 hF
          refine x_top ex60 ?_
          refine lv_aload_n hx hb dX12_looks_248 rfl (lv_at hl 1 rfl) ?_
          refine get_12_11 C hP (lr_54 hL) (lk_54 hL) inlX12 mw_85 (lf_54_11 hL) dX12_looks_249 ?_
          refine lv_iload hx hb dX12_looks_252 (lv_at hl 4 rfl) ?_
          refine lv_iconst (v := 1) hx hb dX12_looks_254 (by decide) ?_
          refine lv_isub hx hb dX12_looks_255 ?_
          obtain ⟨x61, ex61, hF⟩ := nm_1 hF
          refine x_top ex61 ?_
          obtain ⟨g62, hF⟩ := gd_1 hF
          refine x_zald C hP (lr_59 hL) (lk_59 hL) (ln_59 hL) g62 dX12_looks_256 ?_
          refine lv_if_ne (tgt := 264) hx hb dX12_looks_257 (by decide) (fun c_63 => ?_) (fun c_63 => ?_) -- COND 63 rcases (Decidable.em ((σ 59 (x61).toNatClampNeg) = 0)).symm with c_63 | c_63
          · have hF := ite_f hF c_63
            refine lv_iconst (v := 0) hx hb dX12_looks_264 (by decide) ?_
            exact w_X12_looks_265 C ih hρ0 hL hF hP hS (lv_sub hl [1, 2, 3, 4, 5] rfl)
          · have hF := ite_t hF c_63
            refine lv_iconst (v := 1) hx hb dX12_looks_260 (by decide) ?_
            refine lv_goto (tgt := 265) hx hb dX12_looks_261 (by decide) ?_
            exact w_X12_looks_265 C ih hρ0 hL hF hP hS (lv_sub hl [1, 2, 3, 4, 5] rfl)
      · have hF := ite_f hF c_28
        refine lv_aload_n hx hb dX12_looks_140 rfl (lv_at hl 1 rfl) ?_
        refine get_12_10 C hP (lr_54 hL) (lk_54 hL) inlX12 mw_84 (lf_54_10 hL) dX12_looks_141 ?_
        refine lv_iload hx hb dX12_looks_144 (lv_at hl 0 rfl) ?_
        refine lv_bipush (v := 8) hx hb dX12_looks_146 (by decide +kernel) ?_
        refine lv_irem hx hb dX12_looks_148 (by decide) ?_
        obtain ⟨x67, ex67, hF⟩ := nm_1 hF
        refine x_top ex67 ?_
        obtain ⟨g68, hF⟩ := gd_1 hF
        refine x_iald C hP (lr_58 hL) (lk_58 hL) (ln_58 hL) g68 dX12_looks_149 ?_
        refine lv_istore (lv' := [(8, .int (σ 58 (x67).toNatClampNeg)), (7, .int (σ 55 (v6).toNatClampNeg)), (0, .ref (ad 54)), (3, .int v3), (4, .int v4), (5, .int v5), (6, .int v6)]) hx hb dX12_looks_150 hl (by decide) rfl (fun ls hl => ?_)
        refine lv_iload hx hb dX12_looks_152 (lv_at hl 1 rfl) ?_
        refine lv_bipush (v := 8) hx hb dX12_looks_154 (by decide +kernel) ?_
        refine lv_idiv hx hb dX12_looks_156 (by decide) ?_
        obtain ⟨x69, ex69, hF⟩ := nm_1 hF
        refine x_top ex69 ?_
        refine lv_iconst (v := 4) hx hb dX12_looks_157 (by decide) ?_
        refine lv_irem hx hb dX12_looks_158 (by decide) ?_
        obtain ⟨x70, ex70, hF⟩ := nm_1 hF
        refine x_top ex70 ?_
        refine lv_istore (lv' := [(9, .int x70), (8, .int (σ 58 (x67).toNatClampNeg)), (7, .int (σ 55 (v6).toNatClampNeg)), (0, .ref (ad 54)), (3, .int v3), (4, .int v4), (5, .int v5), (6, .int v6)]) hx hb dX12_looks_159 hl (by decide) rfl (fun ls hl => ?_)
        refine lv_iload hx hb dX12_looks_161 (lv_at hl 2 rfl) ?_
        refine lv_bipush (v := 32) hx hb dX12_looks_163 (by decide +kernel) ?_
        refine lv_idiv hx hb dX12_looks_165 (by decide) ?_
        obtain ⟨x71, ex71, hF⟩ := nm_1 hF
        refine x_top ex71 ?_
        refine lv_istore (lv' := [(10, .int x71), (9, .int x70), (8, .int (σ 58 (x67).toNatClampNeg)), (7, .int (σ 55 (v6).toNatClampNeg)), (0, .ref (ad 54)), (3, .int v3), (4, .int v4), (5, .int v5), (6, .int v6)]) hx hb dX12_looks_166 hl (by decide) rfl (fun ls hl => ?_)
        refine lv_aload_n hx hb dX12_looks_168 rfl (lv_at hl 4 rfl) ?_
        refine get_12_11 C hP (lr_54 hL) (lk_54 hL) inlX12 mw_85 (lf_54_11 hL) dX12_looks_169 ?_
        refine lv_iload hx hb dX12_looks_172 (lv_at hl 7 rfl) ?_
        refine lv_iload hx hb dX12_looks_174 (lv_at hl 1 rfl) ?_
        refine lv_if_ne (tgt := 194) hx hb dX12_looks_176 (by decide) (fun c_72 => ?_) (fun c_72 => ?_) -- COND 72 rcases (Decidable.em (x70 = 0)).symm with c_72 | c_72
        · have hF := ite_f hF c_72
          refine lv_iload hx hb dX12_looks_194 (lv_at hl 1 rfl) ?_
          refine lv_iconst (v := 1) hx hb dX12_looks_196 (by decide) ?_
          refine lv_icmp_ne (tgt := 215) hx hb dX12_looks_197 (by decide) (fun c_73 => ?_) (fun c_73 => ?_) -- COND 73 rcases (Decidable.em (x70 = (1 : Int32))).symm with c_73 | c_73
          · have hF := ite_f hF c_73
            refine lv_iload hx hb dX12_looks_215 (lv_at hl 2 rfl) ?_
            refine lv_iload hx hb dX12_looks_217 (lv_at hl 0 rfl) ?_
            refine lv_icmp_le (tgt := 226) hx hb dX12_looks_219 (by decide) (fun c_74 => ?_) (fun c_74 => ?_) -- COND 74 by_cases c_74 : (σ 58 (x67).toNatClampNeg) ≤ x71
            · have hF := ite_t hF c_74
              refine lv_iconst (v := 0) hx hb dX12_looks_226 (by decide) ?_
              exact w_X12_looks_227 C ih hρ0 hL hF hP hS (lv_sub hl [4, 5, 6, 7, 8] rfl)
            · have hF := ite_f hF c_74
              refine lv_iconst (v := 1) hx hb dX12_looks_222 (by decide) ?_
              refine lv_goto (tgt := 227) hx hb dX12_looks_223 (by decide) ?_
              exact w_X12_looks_227 C ih hρ0 hL hF hP hS (lv_sub hl [4, 5, 6, 7, 8] rfl)
          · have hF := ite_t hF c_73
            refine lv_iload hx hb dX12_looks_200 (lv_at hl 2 rfl) ?_
            refine lv_iload hx hb dX12_looks_202 (lv_at hl 0 rfl) ?_
            refine lv_icmp_ne (tgt := 211) hx hb dX12_looks_204 (by decide) (fun c_79 => ?_) (fun c_79 => ?_) -- COND 79 rcases (Decidable.em ((σ 58 (x67).toNatClampNeg) = x71)).symm with c_79 | c_79
            · have hF := ite_f hF c_79
              refine lv_iconst (v := 0) hx hb dX12_looks_211 (by decide) ?_
              refine lv_goto (tgt := 227) hx hb dX12_looks_212 (by decide) ?_
              exact w_X12_looks_227 C ih hρ0 hL hF hP hS (lv_sub hl [4, 5, 6, 7, 8] rfl)
            · have hF := ite_t hF c_79
              refine lv_iconst (v := 1) hx hb dX12_looks_207 (by decide) ?_
              refine lv_goto (tgt := 227) hx hb dX12_looks_208 (by decide) ?_
              exact w_X12_looks_227 C ih hρ0 hL hF hP hS (lv_sub hl [4, 5, 6, 7, 8] rfl)
        · have hF := ite_t hF c_72
          refine lv_iload hx hb dX12_looks_179 (lv_at hl 2 rfl) ?_
          refine lv_iload hx hb dX12_looks_181 (lv_at hl 0 rfl) ?_
          refine lv_icmp_ge (tgt := 190) hx hb dX12_looks_183 (by decide) (fun c_80 => ?_) (fun c_80 => ?_) -- COND 80 by_cases c_80 : x71 ≤ (σ 58 (x67).toNatClampNeg)
          · have hF := ite_t hF c_80
            refine lv_iconst (v := 0) hx hb dX12_looks_190 (by decide) ?_
            refine lv_goto (tgt := 227) hx hb dX12_looks_191 (by decide) ?_
            exact w_X12_looks_227 C ih hρ0 hL hF hP hS (lv_sub hl [4, 5, 6, 7, 8] rfl)
          · have hF := ite_f hF c_80
            refine lv_iconst (v := 1) hx hb dX12_looks_186 (by decide) ?_
            refine lv_goto (tgt := 227) hx hb dX12_looks_187 (by decide) ?_
            exact w_X12_looks_227 C ih hρ0 hL hF hP hS (lv_sub hl [4, 5, 6, 7, 8] rfl)
set_option maxHeartbeats 4000000 in
set_option maxRecDepth 100000 in
theorem w_X12_looks_0 {a1 : Int32} {a2 : Int32} {p : Program} {e : Env} {s : State} {m : MethodId} {args : Array Value} {below : List Frame} {meth : Method} {c : Code} {ρ0 : RG} {σ1 : SG} (C : Cx Y D N ad p s m args meth c cX12_looks 11 none RX12 wsL_law) {σ : SG} {ρ : RG} {H : Heap} {locs : List Loc} {ls : Array Slot} (hρ0 : ρ = ρ0) (hL : Lay N K len ρ) (hF : F_X12_looks a1 a2 σ ρ = some σ1) (hP : WP Y D N ad K len σ ρ H) (hS : va_S (AA N ad s.heap.size) s.heap H locs) (hl : lv_has ls 11 [(0, .ref (ad 54)), (1, .int a1), (2, .int a2)]) : W p l e rm_X12_looks s m args below meth c H locs 0 0 (MQ below (QW Y D N ad K len σ1 ρ0 (AA N ad s.heap.size) none) args s 0 0 (AA N ad s.heap.size)) (F0 m 0 ls []) := by
  have hx := C.1.1
  have hb := C.1.2.1
  unfold F_X12_looks at hF
  refine lv_aload_n hx hb dX12_looks_0 rfl (lv_at hl 0 rfl) ?_
  refine get_12_10 C hP (lr_54 hL) (lk_54 hL) inlX12 mw_84 (lf_54_10 hL) dX12_looks_1 ?_
  refine lv_iconst (v := 0) hx hb dX12_looks_4 (by decide) ?_
  refine lv_iload_n hx hb dX12_looks_5 rfl (lv_at hl 1 rfl) ?_
  obtain ⟨σ2, eσ2, hF⟩ := nm_1 hF
  refine x_iast (σ1 := σ2) C hP hS (lr_58 hL) (lk_58 hL) (ln_58 hL) (by decide +kernel) (by rw [cl_0]; exact eσ2) dX12_looks_6 (fun H locs hP hS => ?_)
  refine lv_aload_n hx hb dX12_looks_7 rfl (lv_at hl 0 rfl) ?_
  refine get_12_10 C hP (lr_54 hL) (lk_54 hL) inlX12 mw_84 (lf_54_10 hL) dX12_looks_8 ?_
  refine lv_iconst (v := 1) hx hb dX12_looks_11 (by decide) ?_
  refine lv_aload_n hx hb dX12_looks_12 rfl (lv_at hl 0 rfl) ?_
  refine get_12_1 C hP (lr_54 hL) (lk_54 hL) inlX12 mw_81 (lf_54_1 hL) dX12_looks_13 ?_
  refine lv_bipush (v := 20) hx hb dX12_looks_16 (by decide +kernel) ?_
  refine lv_iload_n hx hb dX12_looks_18 rfl (lv_at hl 1 rfl) ?_
  refine lv_iadd hx hb dX12_looks_19 ?_
  obtain ⟨x3, ex3, hF⟩ := nm_1 hF
  refine x_top ex3 ?_
  obtain ⟨g4, hF⟩ := gd_1 hF
  refine x_iald C hP (lr_55 hL) (lk_55 hL) (ln_55 hL) g4 dX12_looks_20 ?_
  obtain ⟨σ6, eσ6, hF⟩ := nm_1 hF
  refine x_iast (σ1 := σ6) C hP hS (lr_58 hL) (lk_58 hL) (ln_58 hL) (by decide +kernel) (by rw [cl_1]; exact eσ6) dX12_looks_21 (fun H locs hP hS => ?_)
  refine lv_aload_n hx hb dX12_looks_22 rfl (lv_at hl 0 rfl) ?_
  refine get_12_10 C hP (lr_54 hL) (lk_54 hL) inlX12 mw_84 (lf_54_10 hL) dX12_looks_23 ?_
  refine lv_iconst (v := 2) hx hb dX12_looks_26 (by decide) ?_
  refine lv_iload_n hx hb dX12_looks_27 rfl (lv_at hl 2 rfl) ?_
  obtain ⟨σ8, eσ8, hF⟩ := nm_1 hF
  refine x_iast (σ1 := σ8) C hP hS (lr_58 hL) (lk_58 hL) (ln_58 hL) (by decide +kernel) (by rw [cl_2]; exact eσ8) dX12_looks_28 (fun H locs hP hS => ?_)
  refine lv_aload_n hx hb dX12_looks_29 rfl (lv_at hl 0 rfl) ?_
  refine get_12_10 C hP (lr_54 hL) (lk_54 hL) inlX12 mw_84 (lf_54_10 hL) dX12_looks_30 ?_
  refine lv_iconst (v := 3) hx hb dX12_looks_33 (by decide) ?_
  refine lv_aload_n hx hb dX12_looks_34 rfl (lv_at hl 0 rfl) ?_
  refine get_12_1 C hP (lr_54 hL) (lk_54 hL) inlX12 mw_81 (lf_54_1 hL) dX12_looks_35 ?_
  refine lv_iconst (v := 1) hx hb dX12_looks_38 (by decide) ?_
  refine x_iald C hP (lr_55 hL) (lk_55 hL) (ln_55 hL) (by decide +kernel) dX12_looks_39 ?_
  rw [cl_1]
  obtain ⟨r9, hq9, hF⟩ := bn_1 hF
  refine x_callS C hP hS (c_X12_size hL hq9) (va_cwS 1 C.1.2.2.2.2 (gdS mw_666 mw_667 mw_5 mw_668) rfl rfl rfl hd_X12_size.2 ⟨Nat.le_of_ble_eq_true rfl, Nat.le_of_ble_eq_true rfl⟩) rfl rfl hl.1 (Nat.le_of_ble_eq_true rfl) ⟨Nat.zero_le _, Nat.zero_le _⟩ dX12_looks_40 (fun H locs hP hS => ?_)
  obtain ⟨σ11, eσ11, hF⟩ := nm_1 hF
  refine x_iast (σ1 := σ11) C hP hS (lr_58 hL) (lk_58 hL) (ln_58 hL) (by decide +kernel) (by rw [cl_3]; exact eσ11) dX12_looks_43 (fun H locs hP hS => ?_)
  refine lv_aload_n hx hb dX12_looks_44 rfl (lv_at hl 0 rfl) ?_
  refine get_12_10 C hP (lr_54 hL) (lk_54 hL) inlX12 mw_84 (lf_54_10 hL) dX12_looks_45 ?_
  refine lv_iconst (v := 4) hx hb dX12_looks_48 (by decide) ?_
  refine lv_aload_n hx hb dX12_looks_49 rfl (lv_at hl 0 rfl) ?_
  refine get_12_1 C hP (lr_54 hL) (lk_54 hL) inlX12 mw_81 (lf_54_1 hL) dX12_looks_50 ?_
  refine lv_iconst (v := 0) hx hb dX12_looks_53 (by decide) ?_
  refine x_iald C hP (lr_55 hL) (lk_55 hL) (ln_55 hL) (by decide +kernel) dX12_looks_54 ?_
  rw [cl_0]
  refine lv_bipush (v := 10) hx hb dX12_looks_55 (by decide +kernel) ?_
  refine lv_idiv hx hb dX12_looks_57 (by decide) ?_
  obtain ⟨x12, ex12, hF⟩ := nm_1 hF
  refine x_top ex12 ?_
  obtain ⟨σ14, eσ14, hF⟩ := nm_1 hF
  refine x_iast (σ1 := σ14) C hP hS (lr_58 hL) (lk_58 hL) (ln_58 hL) (by decide +kernel) (by rw [cl_4]; exact eσ14) dX12_looks_58 (fun H locs hP hS => ?_)
  refine lv_aload_n hx hb dX12_looks_59 rfl (lv_at hl 0 rfl) ?_
  refine get_12_10 C hP (lr_54 hL) (lk_54 hL) inlX12 mw_84 (lf_54_10 hL) dX12_looks_60 ?_
  refine lv_iconst (v := 5) hx hb dX12_looks_63 (by decide) ?_
  refine lv_aload_n hx hb dX12_looks_64 rfl (lv_at hl 0 rfl) ?_
  refine get_12_1 C hP (lr_54 hL) (lk_54 hL) inlX12 mw_81 (lf_54_1 hL) dX12_looks_65 ?_
  refine lv_iconst (v := 3) hx hb dX12_looks_68 (by decide) ?_
  refine x_iald C hP (lr_55 hL) (lk_55 hL) (ln_55 hL) (by decide +kernel) dX12_looks_69 ?_
  rw [cl_3]
  refine lv_bipush (v := 10) hx hb dX12_looks_70 (by decide +kernel) ?_
  refine lv_irem hx hb dX12_looks_72 (by decide) ?_
  obtain ⟨x15, ex15, hF⟩ := nm_1 hF
  refine x_top ex15 ?_
  obtain ⟨σ17, eσ17, hF⟩ := nm_1 hF
  refine x_iast (σ1 := σ17) C hP hS (lr_58 hL) (lk_58 hL) (ln_58 hL) (by decide +kernel) (by rw [cl_5]; exact eσ17) dX12_looks_73 (fun H locs hP hS => ?_)
  refine lv_aload_n hx hb dX12_looks_74 rfl (lv_at hl 0 rfl) ?_
  refine lv_iconst (v := 0) hx hb dX12_looks_75 (by decide) ?_
  obtain ⟨σ19, eσ19, hF⟩ := nm_1 hF
  refine put_12_12 C hP hS (lr_54 hL) (lk_54 hL) inlX12 mw_656 eσ19 dX12_looks_76 (fun H locs hP hS => ?_)
  refine lv_aload_n hx hb dX12_looks_79 rfl (lv_at hl 0 rfl) ?_
  refine lv_iconst (v := 0) hx hb dX12_looks_80 (by decide) ?_
  obtain ⟨σ21, eσ21, hF⟩ := nm_1 hF
  refine put_12_13 C hP hS (lr_54 hL) (lk_54 hL) inlX12 mw_657 eσ21 dX12_looks_81 (fun H locs hP hS => ?_)
  refine lv_aload_n hx hb dX12_looks_84 rfl (lv_at hl 0 rfl) ?_
  refine lv_sipush (v := 204) hx hb dX12_looks_85 (by decide +kernel) ?_
  refine lv_iconst (v := 0) hx hb dX12_looks_88 (by decide) ?_
  obtain ⟨r22, hq22, hF⟩ := bn_1 hF
  refine x_callV (ci := 12) rfl rfl C hP hS (c_X12_tellsOf hL hq22) (lr_54 hL) (lk_54 hL) (cwV 2 C.1.2.2.2.2 (gdV mw_520 mw_521 mw_522 mw_5 mw_523) rfl rfl rfl hd_X12_tellsOf ⟨Nat.le_of_ble_eq_true rfl, Nat.le_of_ble_eq_true rfl⟩) rfl rfl hl.1 (Nat.le_of_ble_eq_true rfl) ⟨Nat.zero_le _, Nat.zero_le _⟩ dX12_looks_89 (fun H locs hP hS => ?_)
  refine lv_istore_n (lv' := [(3, .int r22), (0, .ref (ad 54)), (1, .int a1), (2, .int a2)]) hx hb dX12_looks_92 rfl hl (by decide) rfl (fun ls hl => ?_)
  refine lv_sipush (v := 209) hx hb dX12_looks_93 (by decide +kernel) ?_
  refine lv_sipush (v := 140) hx hb dX12_looks_96 (by decide +kernel) ?_
  refine lv_aload_n hx hb dX12_looks_99 rfl (lv_at hl 1 rfl) ?_
  refine get_12_1 C hP (lr_54 hL) (lk_54 hL) inlX12 mw_81 (lf_54_1 hL) dX12_looks_100 ?_
  refine lv_bipush (v := 16) hx hb dX12_looks_103 (by decide +kernel) ?_
  refine x_iald C hP (lr_55 hL) (lk_55 hL) (ln_55 hL) (by decide +kernel) dX12_looks_105 ?_
  rw [cl_16]
  refine lv_imul hx hb dX12_looks_106 ?_
  obtain ⟨x23, ex23, hF⟩ := nm_1 hF
  refine x_top ex23 ?_
  refine lv_iadd hx hb dX12_looks_107 ?_
  obtain ⟨x24, ex24, hF⟩ := nm_1 hF
  refine x_top ex24 ?_
  refine lv_istore (lv' := [(4, .int x24), (3, .int r22), (0, .ref (ad 54)), (1, .int a1), (2, .int a2)]) hx hb dX12_looks_108 hl (by decide) rfl (fun ls hl => ?_)
  refine lv_iconst (v := 0) hx hb dX12_looks_110 (by decide) ?_
  refine lv_istore (lv' := [(5, .int (0 : Int32)), (4, .int x24), (3, .int r22), (0, .ref (ad 54)), (1, .int a1), (2, .int a2)]) hx hb dX12_looks_111 hl (by decide) rfl (fun ls hl => ?_)
  refine lv_iload hx hb dX12_looks_113 (lv_at hl 1 rfl) ?_
  refine lv_istore (lv' := [(6, .int x24), (5, .int (0 : Int32)), (4, .int x24), (3, .int r22), (0, .ref (ad 54)), (1, .int a1), (2, .int a2)]) hx hb dX12_looks_115 hl (by decide) rfl (fun ls hl => ?_)
  exact w_X12_looks_117 C 1024 _ _ _ _ _ _ _ _ _ hρ0 hL hF hP hS (lv_sub hl [4, 3, 2, 1, 0] rfl)
set_option maxHeartbeats 4000000 in
set_option maxRecDepth 100000 in
theorem c_X12_looks {a1 : Int32} {a2 : Int32} {σ1 : SG} {σ : SG} {ρ : RG} (hL : Lay N K len ρ) (hF : F_X12_looks a1 a2 σ ρ = some σ1) : MT l Y D N ad K len yX12_looks (Cond.code yX12_looks cX12_looks 11 none :: wsL_law) rm_X12_looks [.ref (ad 54), .int a1, .int a2] σ ρ none σ1 ρ := by
  refine mt_of (cc := cX12_looks) (nL := 11) (ret := none) (by decide) (Nat.le_of_ble_eq_true rfl) ?_
  intro p e s m args below meth c ls C hnm hP hS hl
  exact w_X12_looks_0 C rfl hL hF hP hS hl

/-! CutCrookedModel.public int cutter(int, int, int, int, int);  -/
theorem dX12_cutter_0 : decode cX12_cutter 0 = .ok (.iload_n 1, 1) := by decide +kernel
theorem dX12_cutter_1 : decode cX12_cutter 1 = .ok (.iconst 0, 1) := by decide +kernel
theorem dX12_cutter_2 : decode cX12_cutter 2 = .ok (.bipush 6, 2) := by decide +kernel
theorem dX12_cutter_4 : decode cX12_cutter 4 = .ok (.invokestatic 47, 3) := by decide +kernel
theorem dX12_cutter_7 : decode cX12_cutter 7 = .ok (.ifCond .ne 5, 3) := by decide +kernel
theorem dX12_cutter_10 : decode cX12_cutter 10 = .ok (.iconst (-1), 1) := by decide +kernel
theorem dX12_cutter_11 : decode cX12_cutter 11 = .ok (.ireturn, 1) := by decide +kernel
theorem dX12_cutter_12 : decode cX12_cutter 12 = .ok (.iload_n 2, 1) := by decide +kernel
theorem dX12_cutter_13 : decode cX12_cutter 13 = .ok (.iconst 0, 1) := by decide +kernel
theorem dX12_cutter_14 : decode cX12_cutter 14 = .ok (.bipush 9, 2) := by decide +kernel
theorem dX12_cutter_16 : decode cX12_cutter 16 = .ok (.invokestatic 47, 3) := by decide +kernel
theorem dX12_cutter_19 : decode cX12_cutter 19 = .ok (.ifCond .eq 37, 3) := by decide +kernel
theorem dX12_cutter_22 : decode cX12_cutter 22 = .ok (.iload_n 3, 1) := by decide +kernel
theorem dX12_cutter_23 : decode cX12_cutter 23 = .ok (.bipush (-9), 2) := by decide +kernel
theorem dX12_cutter_25 : decode cX12_cutter 25 = .ok (.bipush 9, 2) := by decide +kernel
theorem dX12_cutter_27 : decode cX12_cutter 27 = .ok (.invokestatic 47, 3) := by decide +kernel
theorem dX12_cutter_30 : decode cX12_cutter 30 = .ok (.ifCond .eq 26, 3) := by decide +kernel
theorem dX12_cutter_33 : decode cX12_cutter 33 = .ok (.iload 4, 2) := by decide +kernel
theorem dX12_cutter_35 : decode cX12_cutter 35 = .ok (.bipush (-9), 2) := by decide +kernel
theorem dX12_cutter_37 : decode cX12_cutter 37 = .ok (.bipush 9, 2) := by decide +kernel
theorem dX12_cutter_39 : decode cX12_cutter 39 = .ok (.invokestatic 47, 3) := by decide +kernel
theorem dX12_cutter_42 : decode cX12_cutter 42 = .ok (.ifCond .eq 14, 3) := by decide +kernel
theorem dX12_cutter_45 : decode cX12_cutter 45 = .ok (.iload 5, 2) := by decide +kernel
theorem dX12_cutter_47 : decode cX12_cutter 47 = .ok (.iconst 1, 1) := by decide +kernel
theorem dX12_cutter_48 : decode cX12_cutter 48 = .ok (.bipush 40, 2) := by decide +kernel
theorem dX12_cutter_50 : decode cX12_cutter 50 = .ok (.invokestatic 47, 3) := by decide +kernel
theorem dX12_cutter_53 : decode cX12_cutter 53 = .ok (.ifCond .ne 6, 3) := by decide +kernel
theorem dX12_cutter_56 : decode cX12_cutter 56 = .ok (.bipush (-2), 2) := by decide +kernel
theorem dX12_cutter_58 : decode cX12_cutter 58 = .ok (.ireturn, 1) := by decide +kernel
theorem dX12_cutter_59 : decode cX12_cutter 59 = .ok (.aload_n 0, 1) := by decide +kernel
theorem dX12_cutter_60 : decode cX12_cutter 60 = .ok (.getfield 9, 3) := by decide +kernel
theorem dX12_cutter_63 : decode cX12_cutter 63 = .ok (.bipush 11, 2) := by decide +kernel
theorem dX12_cutter_65 : decode cX12_cutter 65 = .ok (.iaload, 1) := by decide +kernel
theorem dX12_cutter_66 : decode cX12_cutter 66 = .ok (.bipush 6, 2) := by decide +kernel
theorem dX12_cutter_68 : decode cX12_cutter 68 = .ok (.if_icmp .ne 6, 3) := by decide +kernel
theorem dX12_cutter_71 : decode cX12_cutter 71 = .ok (.bipush (-4), 2) := by decide +kernel
theorem dX12_cutter_73 : decode cX12_cutter 73 = .ok (.ireturn, 1) := by decide +kernel
theorem dX12_cutter_74 : decode cX12_cutter 74 = .ok (.aload_n 0, 1) := by decide +kernel
theorem dX12_cutter_75 : decode cX12_cutter 75 = .ok (.getfield 9, 3) := by decide +kernel
theorem dX12_cutter_78 : decode cX12_cutter 78 = .ok (.bipush 11, 2) := by decide +kernel
theorem dX12_cutter_80 : decode cX12_cutter 80 = .ok (.iaload, 1) := by decide +kernel
theorem dX12_cutter_81 : decode cX12_cutter 81 = .ok (.istore 6, 2) := by decide +kernel
theorem dX12_cutter_83 : decode cX12_cutter 83 = .ok (.aload_n 0, 1) := by decide +kernel
theorem dX12_cutter_84 : decode cX12_cutter 84 = .ok (.getfield 9, 3) := by decide +kernel
theorem dX12_cutter_87 : decode cX12_cutter 87 = .ok (.bipush 20, 2) := by decide +kernel
theorem dX12_cutter_89 : decode cX12_cutter 89 = .ok (.iload 6, 2) := by decide +kernel
theorem dX12_cutter_91 : decode cX12_cutter 91 = .ok (.iadd, 1) := by decide +kernel
theorem dX12_cutter_92 : decode cX12_cutter 92 = .ok (.iload_n 1, 1) := by decide +kernel
theorem dX12_cutter_93 : decode cX12_cutter 93 = .ok (.iastore, 1) := by decide +kernel
theorem dX12_cutter_94 : decode cX12_cutter 94 = .ok (.aload_n 0, 1) := by decide +kernel
theorem dX12_cutter_95 : decode cX12_cutter 95 = .ok (.getfield 9, 3) := by decide +kernel
theorem dX12_cutter_98 : decode cX12_cutter 98 = .ok (.bipush 26, 2) := by decide +kernel
theorem dX12_cutter_100 : decode cX12_cutter 100 = .ok (.iload 6, 2) := by decide +kernel
theorem dX12_cutter_102 : decode cX12_cutter 102 = .ok (.iadd, 1) := by decide +kernel
theorem dX12_cutter_103 : decode cX12_cutter 103 = .ok (.iload_n 2, 1) := by decide +kernel
theorem dX12_cutter_104 : decode cX12_cutter 104 = .ok (.iastore, 1) := by decide +kernel
theorem dX12_cutter_105 : decode cX12_cutter 105 = .ok (.aload_n 0, 1) := by decide +kernel
theorem dX12_cutter_106 : decode cX12_cutter 106 = .ok (.getfield 9, 3) := by decide +kernel
theorem dX12_cutter_109 : decode cX12_cutter 109 = .ok (.bipush 32, 2) := by decide +kernel
theorem dX12_cutter_111 : decode cX12_cutter 111 = .ok (.iload 6, 2) := by decide +kernel
theorem dX12_cutter_113 : decode cX12_cutter 113 = .ok (.iadd, 1) := by decide +kernel
theorem dX12_cutter_114 : decode cX12_cutter 114 = .ok (.iload_n 3, 1) := by decide +kernel
theorem dX12_cutter_115 : decode cX12_cutter 115 = .ok (.iastore, 1) := by decide +kernel
theorem dX12_cutter_116 : decode cX12_cutter 116 = .ok (.aload_n 0, 1) := by decide +kernel
theorem dX12_cutter_117 : decode cX12_cutter 117 = .ok (.getfield 9, 3) := by decide +kernel
theorem dX12_cutter_120 : decode cX12_cutter 120 = .ok (.bipush 38, 2) := by decide +kernel
theorem dX12_cutter_122 : decode cX12_cutter 122 = .ok (.iload 6, 2) := by decide +kernel
theorem dX12_cutter_124 : decode cX12_cutter 124 = .ok (.iadd, 1) := by decide +kernel
theorem dX12_cutter_125 : decode cX12_cutter 125 = .ok (.iload 4, 2) := by decide +kernel
theorem dX12_cutter_127 : decode cX12_cutter 127 = .ok (.iastore, 1) := by decide +kernel
theorem dX12_cutter_128 : decode cX12_cutter 128 = .ok (.aload_n 0, 1) := by decide +kernel
theorem dX12_cutter_129 : decode cX12_cutter 129 = .ok (.getfield 9, 3) := by decide +kernel
theorem dX12_cutter_132 : decode cX12_cutter 132 = .ok (.bipush 44, 2) := by decide +kernel
theorem dX12_cutter_134 : decode cX12_cutter 134 = .ok (.iload 6, 2) := by decide +kernel
theorem dX12_cutter_136 : decode cX12_cutter 136 = .ok (.iadd, 1) := by decide +kernel
theorem dX12_cutter_137 : decode cX12_cutter 137 = .ok (.iload 5, 2) := by decide +kernel
theorem dX12_cutter_139 : decode cX12_cutter 139 = .ok (.iastore, 1) := by decide +kernel
theorem dX12_cutter_140 : decode cX12_cutter 140 = .ok (.aload_n 0, 1) := by decide +kernel
theorem dX12_cutter_141 : decode cX12_cutter 141 = .ok (.getfield 9, 3) := by decide +kernel
theorem dX12_cutter_144 : decode cX12_cutter 144 = .ok (.iconst 5, 1) := by decide +kernel
theorem dX12_cutter_145 : decode cX12_cutter 145 = .ok (.iload 6, 2) := by decide +kernel
theorem dX12_cutter_147 : decode cX12_cutter 147 = .ok (.iadd, 1) := by decide +kernel
theorem dX12_cutter_148 : decode cX12_cutter 148 = .ok (.iconst 0, 1) := by decide +kernel
theorem dX12_cutter_149 : decode cX12_cutter 149 = .ok (.iastore, 1) := by decide +kernel
theorem dX12_cutter_150 : decode cX12_cutter 150 = .ok (.iconst 0, 1) := by decide +kernel
theorem dX12_cutter_151 : decode cX12_cutter 151 = .ok (.istore 7, 2) := by decide +kernel
theorem dX12_cutter_153 : decode cX12_cutter 153 = .ok (.iload 7, 2) := by decide +kernel
theorem dX12_cutter_155 : decode cX12_cutter 155 = .ok (.iconst 4, 1) := by decide +kernel
theorem dX12_cutter_156 : decode cX12_cutter 156 = .ok (.if_icmp .ge 25, 3) := by decide +kernel
theorem dX12_cutter_159 : decode cX12_cutter 159 = .ok (.aload_n 0, 1) := by decide +kernel
theorem dX12_cutter_160 : decode cX12_cutter 160 = .ok (.getfield 9, 3) := by decide +kernel
theorem dX12_cutter_163 : decode cX12_cutter 163 = .ok (.bipush 50, 2) := by decide +kernel
theorem dX12_cutter_165 : decode cX12_cutter 165 = .ok (.iconst 4, 1) := by decide +kernel
theorem dX12_cutter_166 : decode cX12_cutter 166 = .ok (.iload 6, 2) := by decide +kernel
theorem dX12_cutter_168 : decode cX12_cutter 168 = .ok (.imul, 1) := by decide +kernel
theorem dX12_cutter_169 : decode cX12_cutter 169 = .ok (.iadd, 1) := by decide +kernel
theorem dX12_cutter_170 : decode cX12_cutter 170 = .ok (.iload 7, 2) := by decide +kernel
theorem dX12_cutter_172 : decode cX12_cutter 172 = .ok (.iadd, 1) := by decide +kernel
theorem dX12_cutter_173 : decode cX12_cutter 173 = .ok (.iconst 4, 1) := by decide +kernel
theorem dX12_cutter_174 : decode cX12_cutter 174 = .ok (.iastore, 1) := by decide +kernel
theorem dX12_cutter_175 : decode cX12_cutter 175 = .ok (.iinc 7 1, 3) := by decide +kernel
theorem dX12_cutter_178 : decode cX12_cutter 178 = .ok (.goto (-25), 3) := by decide +kernel
theorem dX12_cutter_181 : decode cX12_cutter 181 = .ok (.aload_n 0, 1) := by decide +kernel
theorem dX12_cutter_182 : decode cX12_cutter 182 = .ok (.getfield 9, 3) := by decide +kernel
theorem dX12_cutter_185 : decode cX12_cutter 185 = .ok (.bipush 11, 2) := by decide +kernel
theorem dX12_cutter_187 : decode cX12_cutter 187 = .ok (.dup2, 1) := by decide +kernel
theorem dX12_cutter_188 : decode cX12_cutter 188 = .ok (.iaload, 1) := by decide +kernel
theorem dX12_cutter_189 : decode cX12_cutter 189 = .ok (.iconst 1, 1) := by decide +kernel
theorem dX12_cutter_190 : decode cX12_cutter 190 = .ok (.iadd, 1) := by decide +kernel
theorem dX12_cutter_191 : decode cX12_cutter 191 = .ok (.iastore, 1) := by decide +kernel
theorem dX12_cutter_192 : decode cX12_cutter 192 = .ok (.iload 6, 2) := by decide +kernel
theorem dX12_cutter_194 : decode cX12_cutter 194 = .ok (.ireturn, 1) := by decide +kernel
theorem hd_X12_cutter : yX12_cutter.cls = RX12 ∧ yX12_cutter.cls ≠ "java/lang/invoke/MethodHandle" ∧ yX12_cutter.cls ≠ "java/lang/invoke/VarHandle" ∧ (parseMethodDescriptor yX12_cutter.desc).map (fun d => d.parameters.length) = some 5 := by decide +kernel
abbrev rm_X12_cutter : Room := { frames := 1, cells := 0, slots := 0, locals := 22 }
def F_X12_cutter_153 (a1 : Int32) (a2 : Int32) (a3 : Int32) (a4 : Int32) (a5 : Int32) : Nat → SG → RG → Int32 → Int32 → Option (Int32 × SG)
  | 0 => fun _ _ _ _ => none
  | n + 1 => fun σ ρ v6 v7 =>
  if (4 : Int32) ≤ v7 then
    nm ((σ 55 11) + (1 : Int32)) fun x37 =>
    nm (s2 σ 55 11 x37) fun σ39 =>
    some (v6, σ39)
  else
    nm ((4 : Int32) * v6) fun x40 =>
    nm ((50 : Int32) + x40) fun x41 =>
    nm (x41 + v7) fun x42 =>
    gd (inb x42 909) <|
    nm (s2 σ 55 (x42).toNatClampNeg (4 : Int32)) fun σ45 =>
    nm (v7 + (1 : Int32)) fun x46 =>
    F_X12_cutter_153 a1 a2 a3 a4 a5 n σ45 ρ v6 x46
def F_X12_cutter (a1 : Int32) (a2 : Int32) (a3 : Int32) (a4 : Int32) (a5 : Int32) (σ : SG) (ρ : RG) : Option (Int32 × SG) :=
  bn (F_X12_in a1 (0 : Int32) (6 : Int32) σ ρ) fun r1 =>
  if r1 = 0 then
    some ((-1 : Int32), σ)
  else
    bn (F_X12_in a2 (0 : Int32) (9 : Int32) σ ρ) fun r3 =>
    if r3 = 0 then
      some ((-2 : Int32), σ)
    else
      bn (F_X12_in a3 (-9 : Int32) (9 : Int32) σ ρ) fun r5 =>
      if r5 = 0 then
        some ((-2 : Int32), σ)
      else
        bn (F_X12_in a4 (-9 : Int32) (9 : Int32) σ ρ) fun r7 =>
        if r7 = 0 then
          some ((-2 : Int32), σ)
        else
          bn (F_X12_in a5 (1 : Int32) (40 : Int32) σ ρ) fun r9 =>
          if r9 = 0 then
            some ((-2 : Int32), σ)
          else
            if (σ 55 11) = (6 : Int32) then
              some ((-4 : Int32), σ)
            else
              nm ((20 : Int32) + (σ 55 11)) fun x12 =>
              gd (inb x12 909) <|
              nm (s2 σ 55 (x12).toNatClampNeg a1) fun σ15 =>
              nm ((26 : Int32) + (σ 55 11)) fun x16 =>
              gd (inb x16 909) <|
              nm (s2 σ15 55 (x16).toNatClampNeg a2) fun σ19 =>
              nm ((32 : Int32) + (σ 55 11)) fun x20 =>
              gd (inb x20 909) <|
              nm (s2 σ19 55 (x20).toNatClampNeg a3) fun σ23 =>
              nm ((38 : Int32) + (σ 55 11)) fun x24 =>
              gd (inb x24 909) <|
              nm (s2 σ23 55 (x24).toNatClampNeg a4) fun σ27 =>
              nm ((44 : Int32) + (σ 55 11)) fun x28 =>
              gd (inb x28 909) <|
              nm (s2 σ27 55 (x28).toNatClampNeg a5) fun σ31 =>
              nm ((5 : Int32) + (σ 55 11)) fun x32 =>
              gd (inb x32 909) <|
              nm (s2 σ31 55 (x32).toNatClampNeg (0 : Int32)) fun σ35 =>
              F_X12_cutter_153 a1 a2 a3 a4 a5 1024 σ35 ρ (σ 55 11) (0 : Int32)
set_option maxHeartbeats 4000000 in
set_option maxRecDepth 100000 in
theorem w_X12_cutter_153 {a1 : Int32} {a2 : Int32} {a3 : Int32} {a4 : Int32} {a5 : Int32} {p : Program} {e : Env} {s : State} {m : MethodId} {args : Array Value} {below : List Frame} {meth : Method} {c : Code} {ρ0 : RG} {r : Int32} {σ1 : SG} (C : Cx Y D N ad p s m args meth c cX12_cutter 8 (some .int) RX12 wsL_law) : ∀ (n : Nat) (σ : SG) (ρ : RG) (v6 : Int32) (v7 : Int32) (H : Heap) (locs : List Loc) (ls : Array Slot), ρ = ρ0 → Lay N K len ρ → F_X12_cutter_153 a1 a2 a3 a4 a5 n σ ρ v6 v7 = some (r, σ1) → WP Y D N ad K len σ ρ H → va_S (AA N ad s.heap.size) s.heap H locs → lv_has ls 8 [(0, .ref (ad 54)), (6, .int v6), (7, .int v7)] → W p l e rm_X12_cutter s m args below meth c H locs 0 0 (MQ below (QW Y D N ad K len σ1 ρ0 (AA N ad s.heap.size) (some (.int r))) args s 0 0 (AA N ad s.heap.size)) (F0 m 153 ls []) := by
  have hx := C.1.1
  have hb := C.1.2.1
  intro n
  induction n with
  | zero => intro σ ρ v6 v7 H locs ls hρ0 hL hF; cases hF
  | succ n ih =>
    intro σ ρ v6 v7 H locs ls hρ0 hL hF hP hS hl
    unfold F_X12_cutter_153 at hF
    refine lv_iload hx hb dX12_cutter_153 (lv_at hl 2 rfl) ?_
    refine lv_iconst (v := 4) hx hb dX12_cutter_155 (by decide) ?_
    refine lv_icmp_ge (tgt := 181) hx hb dX12_cutter_156 (by decide) (fun c_36 => ?_) (fun c_36 => ?_) -- COND 36 by_cases c_36 : (4 : Int32) ≤ v7
    · have hF := ite_t hF c_36
      refine lv_aload_n hx hb dX12_cutter_181 rfl (lv_at hl 0 rfl) ?_
      refine get_12_1 C hP (lr_54 hL) (lk_54 hL) inlX12 mw_81 (lf_54_1 hL) dX12_cutter_182 ?_
      refine lv_bipush (v := 11) hx hb dX12_cutter_185 (by decide +kernel) ?_
      refine lv_dup2_11 hx hb dX12_cutter_187 rfl rfl ?_
      refine x_iald C hP (lr_55 hL) (lk_55 hL) (ln_55 hL) (by decide +kernel) dX12_cutter_188 ?_
      rw [cl_11]
      refine lv_iconst (v := 1) hx hb dX12_cutter_189 (by decide) ?_
      refine lv_iadd hx hb dX12_cutter_190 ?_
      obtain ⟨x37, ex37, hF⟩ := nm_1 hF
      refine x_top ex37 ?_
      obtain ⟨σ39, eσ39, hF⟩ := nm_1 hF
      refine x_iast (σ1 := σ39) C hP hS (lr_55 hL) (lk_55 hL) (ln_55 hL) (by decide +kernel) (by rw [cl_11]; exact eσ39) dX12_cutter_191 (fun H locs hP hS => ?_)
      refine lv_iload hx hb dX12_cutter_192 (lv_at hl 1 rfl) ?_
      obtain ⟨rfl, rfl⟩ := ret_2 hF
      subst hρ0
      exact x_iret rfl C hP hS dX12_cutter_194
    · have hF := ite_f hF c_36
      refine lv_aload_n hx hb dX12_cutter_159 rfl (lv_at hl 0 rfl) ?_
      refine get_12_1 C hP (lr_54 hL) (lk_54 hL) inlX12 mw_81 (lf_54_1 hL) dX12_cutter_160 ?_
      refine lv_bipush (v := 50) hx hb dX12_cutter_163 (by decide +kernel) ?_
      refine lv_iconst (v := 4) hx hb dX12_cutter_165 (by decide) ?_
      refine lv_iload hx hb dX12_cutter_166 (lv_at hl 1 rfl) ?_
      refine lv_imul hx hb dX12_cutter_168 ?_
      obtain ⟨x40, ex40, hF⟩ := nm_1 hF
      refine x_top ex40 ?_
      refine lv_iadd hx hb dX12_cutter_169 ?_
      obtain ⟨x41, ex41, hF⟩ := nm_1 hF
      refine x_top ex41 ?_
      refine lv_iload hx hb dX12_cutter_170 (lv_at hl 2 rfl) ?_
      refine lv_iadd hx hb dX12_cutter_172 ?_
      obtain ⟨x42, ex42, hF⟩ := nm_1 hF
      refine x_top ex42 ?_
      refine lv_iconst (v := 4) hx hb dX12_cutter_173 (by decide) ?_
      obtain ⟨g43, hF⟩ := gd_1 hF
      obtain ⟨σ45, eσ45, hF⟩ := nm_1 hF
      refine x_iast (σ1 := σ45) C hP hS (lr_55 hL) (lk_55 hL) (ln_55 hL) g43 eσ45 dX12_cutter_174 (fun H locs hP hS => ?_)
      obtain ⟨x46, ex46, hF⟩ := nm_1 hF
      refine lv_iinc (v := x46) (lv' := [(7, .int x46), (0, .ref (ad 54)), (6, .int v6)]) hx hb dX12_cutter_175 hl (k := 2) rfl (by rw [ex46]; first | rfl | decide) (by decide) rfl (fun ls hl => ?_)
      refine lv_goto (tgt := 153) hx hb dX12_cutter_178 (by decide) ?_
      exact ih _ _ _ _ _ _ _ hρ0 hL hF hP hS (lv_sub hl [1, 2, 0] rfl)
set_option maxHeartbeats 4000000 in
set_option maxRecDepth 100000 in
theorem w_X12_cutter_0 {a1 : Int32} {a2 : Int32} {a3 : Int32} {a4 : Int32} {a5 : Int32} {p : Program} {e : Env} {s : State} {m : MethodId} {args : Array Value} {below : List Frame} {meth : Method} {c : Code} {ρ0 : RG} {r : Int32} {σ1 : SG} (C : Cx Y D N ad p s m args meth c cX12_cutter 8 (some .int) RX12 wsL_law) {σ : SG} {ρ : RG} {H : Heap} {locs : List Loc} {ls : Array Slot} (hρ0 : ρ = ρ0) (hL : Lay N K len ρ) (hF : F_X12_cutter a1 a2 a3 a4 a5 σ ρ = some (r, σ1)) (hP : WP Y D N ad K len σ ρ H) (hS : va_S (AA N ad s.heap.size) s.heap H locs) (hl : lv_has ls 8 [(0, .ref (ad 54)), (1, .int a1), (2, .int a2), (3, .int a3), (4, .int a4), (5, .int a5)]) : W p l e rm_X12_cutter s m args below meth c H locs 0 0 (MQ below (QW Y D N ad K len σ1 ρ0 (AA N ad s.heap.size) (some (.int r))) args s 0 0 (AA N ad s.heap.size)) (F0 m 0 ls []) := by
  have hx := C.1.1
  have hb := C.1.2.1
  unfold F_X12_cutter at hF
  refine lv_iload_n hx hb dX12_cutter_0 rfl (lv_at hl 1 rfl) ?_
  refine lv_iconst (v := 0) hx hb dX12_cutter_1 (by decide) ?_
  refine lv_bipush (v := 6) hx hb dX12_cutter_2 (by decide +kernel) ?_
  obtain ⟨r1, hq1, hF⟩ := bn_1 hF
  refine x_callS C hP hS (c_X12_in hL hq1) (va_cwS 3 C.1.2.2.2.2 (gdS mw_104 mw_105 mw_5 mw_106) rfl rfl rfl hd_X12_in.2 ⟨Nat.le_of_ble_eq_true rfl, Nat.le_of_ble_eq_true rfl⟩) rfl rfl hl.1 (Nat.le_of_ble_eq_true rfl) ⟨Nat.zero_le _, Nat.zero_le _⟩ dX12_cutter_4 (fun H locs hP hS => ?_)
  refine lv_if_ne (tgt := 12) hx hb dX12_cutter_7 (by decide) (fun c_2 => ?_) (fun c_2 => ?_) -- COND 2 rcases (Decidable.em (r1 = 0)).symm with c_2 | c_2
  · have hF := ite_f hF c_2
    refine lv_iload_n hx hb dX12_cutter_12 rfl (lv_at hl 2 rfl) ?_
    refine lv_iconst (v := 0) hx hb dX12_cutter_13 (by decide) ?_
    refine lv_bipush (v := 9) hx hb dX12_cutter_14 (by decide +kernel) ?_
    obtain ⟨r3, hq3, hF⟩ := bn_1 hF
    refine x_callS C hP hS (c_X12_in hL hq3) (va_cwS 3 C.1.2.2.2.2 (gdS mw_104 mw_105 mw_5 mw_106) rfl rfl rfl hd_X12_in.2 ⟨Nat.le_of_ble_eq_true rfl, Nat.le_of_ble_eq_true rfl⟩) rfl rfl hl.1 (Nat.le_of_ble_eq_true rfl) ⟨Nat.zero_le _, Nat.zero_le _⟩ dX12_cutter_16 (fun H locs hP hS => ?_)
    refine lv_if_eq (tgt := 56) hx hb dX12_cutter_19 (by decide) (fun c_4 => ?_) (fun c_4 => ?_) -- COND 4 by_cases c_4 : r3 = 0
    · have hF := ite_t hF c_4
      refine lv_bipush (v := -2) hx hb dX12_cutter_56 (by decide +kernel) ?_
      obtain ⟨rfl, rfl⟩ := ret_2 hF
      subst hρ0
      exact x_iret rfl C hP hS dX12_cutter_58
    · have hF := ite_f hF c_4
      refine lv_iload_n hx hb dX12_cutter_22 rfl (lv_at hl 3 rfl) ?_
      refine lv_bipush (v := -9) hx hb dX12_cutter_23 (by decide +kernel) ?_
      refine lv_bipush (v := 9) hx hb dX12_cutter_25 (by decide +kernel) ?_
      obtain ⟨r5, hq5, hF⟩ := bn_1 hF
      refine x_callS C hP hS (c_X12_in hL hq5) (va_cwS 3 C.1.2.2.2.2 (gdS mw_104 mw_105 mw_5 mw_106) rfl rfl rfl hd_X12_in.2 ⟨Nat.le_of_ble_eq_true rfl, Nat.le_of_ble_eq_true rfl⟩) rfl rfl hl.1 (Nat.le_of_ble_eq_true rfl) ⟨Nat.zero_le _, Nat.zero_le _⟩ dX12_cutter_27 (fun H locs hP hS => ?_)
      refine lv_if_eq (tgt := 56) hx hb dX12_cutter_30 (by decide) (fun c_6 => ?_) (fun c_6 => ?_) -- COND 6 by_cases c_6 : r5 = 0
      · have hF := ite_t hF c_6
        refine lv_bipush (v := -2) hx hb dX12_cutter_56 (by decide +kernel) ?_
        obtain ⟨rfl, rfl⟩ := ret_2 hF
        subst hρ0
        exact x_iret rfl C hP hS dX12_cutter_58
      · have hF := ite_f hF c_6
        refine lv_iload hx hb dX12_cutter_33 (lv_at hl 4 rfl) ?_
        refine lv_bipush (v := -9) hx hb dX12_cutter_35 (by decide +kernel) ?_
        refine lv_bipush (v := 9) hx hb dX12_cutter_37 (by decide +kernel) ?_
        obtain ⟨r7, hq7, hF⟩ := bn_1 hF
        refine x_callS C hP hS (c_X12_in hL hq7) (va_cwS 3 C.1.2.2.2.2 (gdS mw_104 mw_105 mw_5 mw_106) rfl rfl rfl hd_X12_in.2 ⟨Nat.le_of_ble_eq_true rfl, Nat.le_of_ble_eq_true rfl⟩) rfl rfl hl.1 (Nat.le_of_ble_eq_true rfl) ⟨Nat.zero_le _, Nat.zero_le _⟩ dX12_cutter_39 (fun H locs hP hS => ?_)
        refine lv_if_eq (tgt := 56) hx hb dX12_cutter_42 (by decide) (fun c_8 => ?_) (fun c_8 => ?_) -- COND 8 by_cases c_8 : r7 = 0
        · have hF := ite_t hF c_8
          refine lv_bipush (v := -2) hx hb dX12_cutter_56 (by decide +kernel) ?_
          obtain ⟨rfl, rfl⟩ := ret_2 hF
          subst hρ0
          exact x_iret rfl C hP hS dX12_cutter_58
        · have hF := ite_f hF c_8
          refine lv_iload hx hb dX12_cutter_45 (lv_at hl 5 rfl) ?_
          refine lv_iconst (v := 1) hx hb dX12_cutter_47 (by decide) ?_
          refine lv_bipush (v := 40) hx hb dX12_cutter_48 (by decide +kernel) ?_
          obtain ⟨r9, hq9, hF⟩ := bn_1 hF
          refine x_callS C hP hS (c_X12_in hL hq9) (va_cwS 3 C.1.2.2.2.2 (gdS mw_104 mw_105 mw_5 mw_106) rfl rfl rfl hd_X12_in.2 ⟨Nat.le_of_ble_eq_true rfl, Nat.le_of_ble_eq_true rfl⟩) rfl rfl hl.1 (Nat.le_of_ble_eq_true rfl) ⟨Nat.zero_le _, Nat.zero_le _⟩ dX12_cutter_50 (fun H locs hP hS => ?_)
          refine lv_if_ne (tgt := 59) hx hb dX12_cutter_53 (by decide) (fun c_10 => ?_) (fun c_10 => ?_) -- COND 10 rcases (Decidable.em (r9 = 0)).symm with c_10 | c_10
          · have hF := ite_f hF c_10
            refine lv_aload_n hx hb dX12_cutter_59 rfl (lv_at hl 0 rfl) ?_
            refine get_12_1 C hP (lr_54 hL) (lk_54 hL) inlX12 mw_81 (lf_54_1 hL) dX12_cutter_60 ?_
            refine lv_bipush (v := 11) hx hb dX12_cutter_63 (by decide +kernel) ?_
            refine x_iald C hP (lr_55 hL) (lk_55 hL) (ln_55 hL) (by decide +kernel) dX12_cutter_65 ?_
            rw [cl_11]
            refine lv_bipush (v := 6) hx hb dX12_cutter_66 (by decide +kernel) ?_
            refine lv_icmp_ne (tgt := 74) hx hb dX12_cutter_68 (by decide) (fun c_11 => ?_) (fun c_11 => ?_) -- COND 11 rcases (Decidable.em ((σ 55 11) = (6 : Int32))).symm with c_11 | c_11
            · have hF := ite_f hF c_11
              refine lv_aload_n hx hb dX12_cutter_74 rfl (lv_at hl 0 rfl) ?_
              refine get_12_1 C hP (lr_54 hL) (lk_54 hL) inlX12 mw_81 (lf_54_1 hL) dX12_cutter_75 ?_
              refine lv_bipush (v := 11) hx hb dX12_cutter_78 (by decide +kernel) ?_
              refine x_iald C hP (lr_55 hL) (lk_55 hL) (ln_55 hL) (by decide +kernel) dX12_cutter_80 ?_
              rw [cl_11]
              refine lv_istore (lv' := [(6, .int (σ 55 11)), (0, .ref (ad 54)), (1, .int a1), (2, .int a2), (3, .int a3), (4, .int a4), (5, .int a5)]) hx hb dX12_cutter_81 hl (by decide) rfl (fun ls hl => ?_)
              refine lv_aload_n hx hb dX12_cutter_83 rfl (lv_at hl 1 rfl) ?_
              refine get_12_1 C hP (lr_54 hL) (lk_54 hL) inlX12 mw_81 (lf_54_1 hL) dX12_cutter_84 ?_
              refine lv_bipush (v := 20) hx hb dX12_cutter_87 (by decide +kernel) ?_
              refine lv_iload hx hb dX12_cutter_89 (lv_at hl 0 rfl) ?_
              refine lv_iadd hx hb dX12_cutter_91 ?_
              obtain ⟨x12, ex12, hF⟩ := nm_1 hF
              refine x_top ex12 ?_
              refine lv_iload_n hx hb dX12_cutter_92 rfl (lv_at hl 2 rfl) ?_
              obtain ⟨g13, hF⟩ := gd_1 hF
              obtain ⟨σ15, eσ15, hF⟩ := nm_1 hF
              refine x_iast (σ1 := σ15) C hP hS (lr_55 hL) (lk_55 hL) (ln_55 hL) g13 eσ15 dX12_cutter_93 (fun H locs hP hS => ?_)
              refine lv_aload_n hx hb dX12_cutter_94 rfl (lv_at hl 1 rfl) ?_
              refine get_12_1 C hP (lr_54 hL) (lk_54 hL) inlX12 mw_81 (lf_54_1 hL) dX12_cutter_95 ?_
              refine lv_bipush (v := 26) hx hb dX12_cutter_98 (by decide +kernel) ?_
              refine lv_iload hx hb dX12_cutter_100 (lv_at hl 0 rfl) ?_
              refine lv_iadd hx hb dX12_cutter_102 ?_
              obtain ⟨x16, ex16, hF⟩ := nm_1 hF
              refine x_top ex16 ?_
              refine lv_iload_n hx hb dX12_cutter_103 rfl (lv_at hl 3 rfl) ?_
              obtain ⟨g17, hF⟩ := gd_1 hF
              obtain ⟨σ19, eσ19, hF⟩ := nm_1 hF
              refine x_iast (σ1 := σ19) C hP hS (lr_55 hL) (lk_55 hL) (ln_55 hL) g17 eσ19 dX12_cutter_104 (fun H locs hP hS => ?_)
              refine lv_aload_n hx hb dX12_cutter_105 rfl (lv_at hl 1 rfl) ?_
              refine get_12_1 C hP (lr_54 hL) (lk_54 hL) inlX12 mw_81 (lf_54_1 hL) dX12_cutter_106 ?_
              refine lv_bipush (v := 32) hx hb dX12_cutter_109 (by decide +kernel) ?_
              refine lv_iload hx hb dX12_cutter_111 (lv_at hl 0 rfl) ?_
              refine lv_iadd hx hb dX12_cutter_113 ?_
              obtain ⟨x20, ex20, hF⟩ := nm_1 hF
              refine x_top ex20 ?_
              refine lv_iload_n hx hb dX12_cutter_114 rfl (lv_at hl 4 rfl) ?_
              obtain ⟨g21, hF⟩ := gd_1 hF
              obtain ⟨σ23, eσ23, hF⟩ := nm_1 hF
              refine x_iast (σ1 := σ23) C hP hS (lr_55 hL) (lk_55 hL) (ln_55 hL) g21 eσ23 dX12_cutter_115 (fun H locs hP hS => ?_)
              refine lv_aload_n hx hb dX12_cutter_116 rfl (lv_at hl 1 rfl) ?_
              refine get_12_1 C hP (lr_54 hL) (lk_54 hL) inlX12 mw_81 (lf_54_1 hL) dX12_cutter_117 ?_
              refine lv_bipush (v := 38) hx hb dX12_cutter_120 (by decide +kernel) ?_
              refine lv_iload hx hb dX12_cutter_122 (lv_at hl 0 rfl) ?_
              refine lv_iadd hx hb dX12_cutter_124 ?_
              obtain ⟨x24, ex24, hF⟩ := nm_1 hF
              refine x_top ex24 ?_
              refine lv_iload hx hb dX12_cutter_125 (lv_at hl 5 rfl) ?_
              obtain ⟨g25, hF⟩ := gd_1 hF
              obtain ⟨σ27, eσ27, hF⟩ := nm_1 hF
              refine x_iast (σ1 := σ27) C hP hS (lr_55 hL) (lk_55 hL) (ln_55 hL) g25 eσ27 dX12_cutter_127 (fun H locs hP hS => ?_)
              refine lv_aload_n hx hb dX12_cutter_128 rfl (lv_at hl 1 rfl) ?_
              refine get_12_1 C hP (lr_54 hL) (lk_54 hL) inlX12 mw_81 (lf_54_1 hL) dX12_cutter_129 ?_
              refine lv_bipush (v := 44) hx hb dX12_cutter_132 (by decide +kernel) ?_
              refine lv_iload hx hb dX12_cutter_134 (lv_at hl 0 rfl) ?_
              refine lv_iadd hx hb dX12_cutter_136 ?_
              obtain ⟨x28, ex28, hF⟩ := nm_1 hF
              refine x_top ex28 ?_
              refine lv_iload hx hb dX12_cutter_137 (lv_at hl 6 rfl) ?_
              obtain ⟨g29, hF⟩ := gd_1 hF
              obtain ⟨σ31, eσ31, hF⟩ := nm_1 hF
              refine x_iast (σ1 := σ31) C hP hS (lr_55 hL) (lk_55 hL) (ln_55 hL) g29 eσ31 dX12_cutter_139 (fun H locs hP hS => ?_)
              refine lv_aload_n hx hb dX12_cutter_140 rfl (lv_at hl 1 rfl) ?_
              refine get_12_1 C hP (lr_54 hL) (lk_54 hL) inlX12 mw_81 (lf_54_1 hL) dX12_cutter_141 ?_
              refine lv_iconst (v := 5) hx hb dX12_cutter_144 (by decide) ?_
              refine lv_iload hx hb dX12_cutter_145 (lv_at hl 0 rfl) ?_
              refine lv_iadd hx hb dX12_cutter_147 ?_
              obtain ⟨x32, ex32, hF⟩ := nm_1 hF
              refine x_top ex32 ?_
              refine lv_iconst (v := 0) hx hb dX12_cutter_148 (by decide) ?_
              obtain ⟨g33, hF⟩ := gd_1 hF
              obtain ⟨σ35, eσ35, hF⟩ := nm_1 hF
              refine x_iast (σ1 := σ35) C hP hS (lr_55 hL) (lk_55 hL) (ln_55 hL) g33 eσ35 dX12_cutter_149 (fun H locs hP hS => ?_)
              refine lv_iconst (v := 0) hx hb dX12_cutter_150 (by decide) ?_
              refine lv_istore (lv' := [(7, .int (0 : Int32)), (6, .int (σ 55 11)), (0, .ref (ad 54)), (1, .int a1), (2, .int a2), (3, .int a3), (4, .int a4), (5, .int a5)]) hx hb dX12_cutter_151 hl (by decide) rfl (fun ls hl => ?_)
              exact w_X12_cutter_153 C 1024 _ _ _ _ _ _ _ hρ0 hL hF hP hS (lv_sub hl [2, 1, 0] rfl)
            · have hF := ite_t hF c_11
              refine lv_bipush (v := -4) hx hb dX12_cutter_71 (by decide +kernel) ?_
              obtain ⟨rfl, rfl⟩ := ret_2 hF
              subst hρ0
              exact x_iret rfl C hP hS dX12_cutter_73
          · have hF := ite_t hF c_10
            refine lv_bipush (v := -2) hx hb dX12_cutter_56 (by decide +kernel) ?_
            obtain ⟨rfl, rfl⟩ := ret_2 hF
            subst hρ0
            exact x_iret rfl C hP hS dX12_cutter_58
  · have hF := ite_t hF c_2
    refine lv_iconst (v := -1) hx hb dX12_cutter_10 (by decide) ?_
    obtain ⟨rfl, rfl⟩ := ret_2 hF
    subst hρ0
    exact x_iret rfl C hP hS dX12_cutter_11
set_option maxHeartbeats 4000000 in
set_option maxRecDepth 100000 in
theorem c_X12_cutter {a1 : Int32} {a2 : Int32} {a3 : Int32} {a4 : Int32} {a5 : Int32} {r : Int32} {σ1 : SG} {σ : SG} {ρ : RG} (hL : Lay N K len ρ) (hF : F_X12_cutter a1 a2 a3 a4 a5 σ ρ = some (r, σ1)) : MT l Y D N ad K len yX12_cutter (Cond.code yX12_cutter cX12_cutter 8 (some .int) :: wsL_law) rm_X12_cutter [.ref (ad 54), .int a1, .int a2, .int a3, .int a4, .int a5] σ ρ (some (.int r)) σ1 ρ := by
  refine mt_of (cc := cX12_cutter) (nL := 8) (ret := (some .int)) (by decide) (Nat.le_of_ble_eq_true rfl) ?_
  intro p e s m args below meth c ls C hnm hP hS hl
  exact w_X12_cutter_0 C rfl hL hF hP hS hl

/-! CutCrookedModel.public int of(int, int);  -/
theorem dX12_of_0 : decode cX12_of 0 = .ok (.aload_n 0, 1) := by decide +kernel
theorem dX12_of_1 : decode cX12_of 1 = .ok (.iload_n 1, 1) := by decide +kernel
theorem dX12_of_2 : decode cX12_of 2 = .ok (.invokevirtual 143, 3) := by decide +kernel
theorem dX12_of_5 : decode cX12_of 5 = .ok (.ifCond .eq 12, 3) := by decide +kernel
theorem dX12_of_8 : decode cX12_of 8 = .ok (.iload_n 2, 1) := by decide +kernel
theorem dX12_of_9 : decode cX12_of 9 = .ok (.iconst 0, 1) := by decide +kernel
theorem dX12_of_10 : decode cX12_of 10 = .ok (.iconst 5, 1) := by decide +kernel
theorem dX12_of_11 : decode cX12_of 11 = .ok (.invokestatic 47, 3) := by decide +kernel
theorem dX12_of_14 : decode cX12_of 14 = .ok (.ifCond .ne 7, 3) := by decide +kernel
theorem dX12_of_17 : decode cX12_of 17 = .ok (.sipush (-10001), 3) := by decide +kernel
theorem dX12_of_20 : decode cX12_of 20 = .ok (.ireturn, 1) := by decide +kernel
theorem dX12_of_21 : decode cX12_of 21 = .ok (.iload_n 2, 1) := by decide +kernel
theorem dX12_of_22 : decode cX12_of 22 = .ok (.iconst 5, 1) := by decide +kernel
theorem dX12_of_23 : decode cX12_of 23 = .ok (.if_icmp .ne 14, 3) := by decide +kernel
theorem dX12_of_26 : decode cX12_of 26 = .ok (.aload_n 0, 1) := by decide +kernel
theorem dX12_of_27 : decode cX12_of 27 = .ok (.getfield 9, 3) := by decide +kernel
theorem dX12_of_30 : decode cX12_of 30 = .ok (.iconst 5, 1) := by decide +kernel
theorem dX12_of_31 : decode cX12_of 31 = .ok (.iload_n 1, 1) := by decide +kernel
theorem dX12_of_32 : decode cX12_of 32 = .ok (.iadd, 1) := by decide +kernel
theorem dX12_of_33 : decode cX12_of 33 = .ok (.iaload, 1) := by decide +kernel
theorem dX12_of_34 : decode cX12_of 34 = .ok (.goto 17, 3) := by decide +kernel
theorem dX12_of_37 : decode cX12_of 37 = .ok (.aload_n 0, 1) := by decide +kernel
theorem dX12_of_38 : decode cX12_of 38 = .ok (.getfield 9, 3) := by decide +kernel
theorem dX12_of_41 : decode cX12_of 41 = .ok (.bipush 20, 2) := by decide +kernel
theorem dX12_of_43 : decode cX12_of 43 = .ok (.bipush 6, 2) := by decide +kernel
theorem dX12_of_45 : decode cX12_of 45 = .ok (.iload_n 2, 1) := by decide +kernel
theorem dX12_of_46 : decode cX12_of 46 = .ok (.imul, 1) := by decide +kernel
theorem dX12_of_47 : decode cX12_of 47 = .ok (.iadd, 1) := by decide +kernel
theorem dX12_of_48 : decode cX12_of 48 = .ok (.iload_n 1, 1) := by decide +kernel
theorem dX12_of_49 : decode cX12_of 49 = .ok (.iadd, 1) := by decide +kernel
theorem dX12_of_50 : decode cX12_of 50 = .ok (.iaload, 1) := by decide +kernel
theorem dX12_of_51 : decode cX12_of 51 = .ok (.ireturn, 1) := by decide +kernel
theorem hd_X12_of : yX12_of.cls = RX12 ∧ yX12_of.cls ≠ "java/lang/invoke/MethodHandle" ∧ yX12_of.cls ≠ "java/lang/invoke/VarHandle" ∧ (parseMethodDescriptor yX12_of.desc).map (fun d => d.parameters.length) = some 2 := by decide +kernel
abbrev rm_X12_of : Room := { frames := 2, cells := 0, slots := 0, locals := 43 }
def F_X12_of (a1 : Int32) (a2 : Int32) (σ : SG) (ρ : RG) : Option (Int32) :=
  bn (F_X12_isCutter a1 σ ρ) fun r1 =>
  if r1 = 0 then
    some (-10001 : Int32)
  else
    bn (F_X12_in a2 (0 : Int32) (5 : Int32) σ ρ) fun r3 =>
    if r3 = 0 then
      some (-10001 : Int32)
    else
      if a2 = (5 : Int32) then
        nm ((5 : Int32) + a1) fun x10 =>
        gd (inb x10 909) <|
        some (σ 55 (x10).toNatClampNeg)
      else
        nm ((6 : Int32) * a2) fun x6 =>
        nm ((20 : Int32) + x6) fun x7 =>
        nm (x7 + a1) fun x8 =>
        gd (inb x8 909) <|
        some (σ 55 (x8).toNatClampNeg)
set_option maxHeartbeats 4000000 in
set_option maxRecDepth 100000 in
theorem w_X12_of_0 {a1 : Int32} {a2 : Int32} {p : Program} {e : Env} {s : State} {m : MethodId} {args : Array Value} {below : List Frame} {meth : Method} {c : Code} {σ0 : SG} {ρ0 : RG} {r : Int32} (C : Cx Y D N ad p s m args meth c cX12_of 3 (some .int) RX12 wsL_law) {σ : SG} {ρ : RG} {H : Heap} {locs : List Loc} {ls : Array Slot} (hσ0 : σ = σ0) (hρ0 : ρ = ρ0) (hL : Lay N K len ρ) (hF : F_X12_of a1 a2 σ ρ = some r) (hP : WP Y D N ad K len σ ρ H) (hS : va_S (AA N ad s.heap.size) s.heap H locs) (hl : lv_has ls 3 [(0, .ref (ad 54)), (1, .int a1), (2, .int a2)]) : W p l e rm_X12_of s m args below meth c H locs 0 0 (MQ below (QW Y D N ad K len σ0 ρ0 (AA N ad s.heap.size) (some (.int r))) args s 0 0 (AA N ad s.heap.size)) (F0 m 0 ls []) := by
  have hx := C.1.1
  have hb := C.1.2.1
  unfold F_X12_of at hF
  refine lv_aload_n hx hb dX12_of_0 rfl (lv_at hl 0 rfl) ?_
  refine lv_iload_n hx hb dX12_of_1 rfl (lv_at hl 1 rfl) ?_
  obtain ⟨r1, hq1, hF⟩ := bn_1 hF
  refine x_callV (ci := 12) rfl rfl C hP hS (c_X12_isCutter hL hq1) (lr_54 hL) (lk_54 hL) (cwV 1 C.1.2.2.2.2 (gdV mw_462 mw_463 mw_464 mw_5 mw_465) rfl rfl rfl hd_X12_isCutter ⟨Nat.le_of_ble_eq_true rfl, Nat.le_of_ble_eq_true rfl⟩) rfl rfl hl.1 (Nat.le_of_ble_eq_true rfl) ⟨Nat.zero_le _, Nat.zero_le _⟩ dX12_of_2 (fun H locs hP hS => ?_)
  refine lv_if_eq (tgt := 17) hx hb dX12_of_5 (by decide) (fun c_2 => ?_) (fun c_2 => ?_) -- COND 2 by_cases c_2 : r1 = 0
  · have hF := ite_t hF c_2
    refine lv_sipush (v := -10001) hx hb dX12_of_17 (by decide +kernel) ?_
    obtain rfl := ret_1 hF
    subst hσ0
    subst hρ0
    exact x_iret rfl C hP hS dX12_of_20
  · have hF := ite_f hF c_2
    refine lv_iload_n hx hb dX12_of_8 rfl (lv_at hl 2 rfl) ?_
    refine lv_iconst (v := 0) hx hb dX12_of_9 (by decide) ?_
    refine lv_iconst (v := 5) hx hb dX12_of_10 (by decide) ?_
    obtain ⟨r3, hq3, hF⟩ := bn_1 hF
    refine x_callS C hP hS (c_X12_in hL hq3) (va_cwS 3 C.1.2.2.2.2 (gdS mw_104 mw_105 mw_5 mw_106) rfl rfl rfl hd_X12_in.2 ⟨Nat.le_of_ble_eq_true rfl, Nat.le_of_ble_eq_true rfl⟩) rfl rfl hl.1 (Nat.le_of_ble_eq_true rfl) ⟨Nat.zero_le _, Nat.zero_le _⟩ dX12_of_11 (fun H locs hP hS => ?_)
    refine lv_if_ne (tgt := 21) hx hb dX12_of_14 (by decide) (fun c_4 => ?_) (fun c_4 => ?_) -- COND 4 rcases (Decidable.em (r3 = 0)).symm with c_4 | c_4
    · have hF := ite_f hF c_4
      refine lv_iload_n hx hb dX12_of_21 rfl (lv_at hl 2 rfl) ?_
      refine lv_iconst (v := 5) hx hb dX12_of_22 (by decide) ?_
      refine lv_icmp_ne (tgt := 37) hx hb dX12_of_23 (by decide) (fun c_5 => ?_) (fun c_5 => ?_) -- COND 5 rcases (Decidable.em (a2 = (5 : Int32))).symm with c_5 | c_5
      · have hF := ite_f hF c_5
        refine lv_aload_n hx hb dX12_of_37 rfl (lv_at hl 0 rfl) ?_
        refine get_12_1 C hP (lr_54 hL) (lk_54 hL) inlX12 mw_81 (lf_54_1 hL) dX12_of_38 ?_
        refine lv_bipush (v := 20) hx hb dX12_of_41 (by decide +kernel) ?_
        refine lv_bipush (v := 6) hx hb dX12_of_43 (by decide +kernel) ?_
        refine lv_iload_n hx hb dX12_of_45 rfl (lv_at hl 2 rfl) ?_
        refine lv_imul hx hb dX12_of_46 ?_
        obtain ⟨x6, ex6, hF⟩ := nm_1 hF
        refine x_top ex6 ?_
        refine lv_iadd hx hb dX12_of_47 ?_
        obtain ⟨x7, ex7, hF⟩ := nm_1 hF
        refine x_top ex7 ?_
        refine lv_iload_n hx hb dX12_of_48 rfl (lv_at hl 1 rfl) ?_
        refine lv_iadd hx hb dX12_of_49 ?_
        obtain ⟨x8, ex8, hF⟩ := nm_1 hF
        refine x_top ex8 ?_
        obtain ⟨g9, hF⟩ := gd_1 hF
        refine x_iald C hP (lr_55 hL) (lk_55 hL) (ln_55 hL) g9 dX12_of_50 ?_
        obtain rfl := ret_1 hF
        subst hσ0
        subst hρ0
        exact x_iret rfl C hP hS dX12_of_51
      · have hF := ite_t hF c_5
        refine lv_aload_n hx hb dX12_of_26 rfl (lv_at hl 0 rfl) ?_
        refine get_12_1 C hP (lr_54 hL) (lk_54 hL) inlX12 mw_81 (lf_54_1 hL) dX12_of_27 ?_
        refine lv_iconst (v := 5) hx hb dX12_of_30 (by decide) ?_
        refine lv_iload_n hx hb dX12_of_31 rfl (lv_at hl 1 rfl) ?_
        refine lv_iadd hx hb dX12_of_32 ?_
        obtain ⟨x10, ex10, hF⟩ := nm_1 hF
        refine x_top ex10 ?_
        obtain ⟨g11, hF⟩ := gd_1 hF
        refine x_iald C hP (lr_55 hL) (lk_55 hL) (ln_55 hL) g11 dX12_of_33 ?_
        refine lv_goto (tgt := 51) hx hb dX12_of_34 (by decide) ?_
        obtain rfl := ret_1 hF
        subst hσ0
        subst hρ0
        exact x_iret rfl C hP hS dX12_of_51
    · have hF := ite_t hF c_4
      refine lv_sipush (v := -10001) hx hb dX12_of_17 (by decide +kernel) ?_
      obtain rfl := ret_1 hF
      subst hσ0
      subst hρ0
      exact x_iret rfl C hP hS dX12_of_20
set_option maxHeartbeats 4000000 in
set_option maxRecDepth 100000 in
theorem c_X12_of {a1 : Int32} {a2 : Int32} {r : Int32} {σ : SG} {ρ : RG} (hL : Lay N K len ρ) (hF : F_X12_of a1 a2 σ ρ = some r) : MT l Y D N ad K len yX12_of (Cond.code yX12_of cX12_of 3 (some .int) :: wsL_law) rm_X12_of [.ref (ad 54), .int a1, .int a2] σ ρ (some (.int r)) σ ρ := by
  refine mt_of (cc := cX12_of) (nL := 3) (ret := (some .int)) (by decide) (Nat.le_of_ble_eq_true rfl) ?_
  intro p e s m args below meth c ls C hnm hP hS hl
  exact w_X12_of_0 C rfl rfl hL hF hP hS hl

/-! CutCrookedModel.public int thick(int, int);  -/
theorem dX12_thick_0 : decode cX12_thick 0 = .ok (.aload_n 0, 1) := by decide +kernel
theorem dX12_thick_1 : decode cX12_thick 1 = .ok (.iload_n 1, 1) := by decide +kernel
theorem dX12_thick_2 : decode cX12_thick 2 = .ok (.invokevirtual 143, 3) := by decide +kernel
theorem dX12_thick_5 : decode cX12_thick 5 = .ok (.ifCond .ne 5, 3) := by decide +kernel
theorem dX12_thick_8 : decode cX12_thick 8 = .ok (.iconst (-1), 1) := by decide +kernel
theorem dX12_thick_9 : decode cX12_thick 9 = .ok (.ireturn, 1) := by decide +kernel
theorem dX12_thick_10 : decode cX12_thick 10 = .ok (.iload_n 2, 1) := by decide +kernel
theorem dX12_thick_11 : decode cX12_thick 11 = .ok (.iconst 1, 1) := by decide +kernel
theorem dX12_thick_12 : decode cX12_thick 12 = .ok (.bipush 40, 2) := by decide +kernel
theorem dX12_thick_14 : decode cX12_thick 14 = .ok (.invokestatic 47, 3) := by decide +kernel
theorem dX12_thick_17 : decode cX12_thick 17 = .ok (.ifCond .ne 6, 3) := by decide +kernel
theorem dX12_thick_20 : decode cX12_thick 20 = .ok (.bipush (-2), 2) := by decide +kernel
theorem dX12_thick_22 : decode cX12_thick 22 = .ok (.ireturn, 1) := by decide +kernel
theorem dX12_thick_23 : decode cX12_thick 23 = .ok (.aload_n 0, 1) := by decide +kernel
theorem dX12_thick_24 : decode cX12_thick 24 = .ok (.getfield 9, 3) := by decide +kernel
theorem dX12_thick_27 : decode cX12_thick 27 = .ok (.bipush 44, 2) := by decide +kernel
theorem dX12_thick_29 : decode cX12_thick 29 = .ok (.iload_n 1, 1) := by decide +kernel
theorem dX12_thick_30 : decode cX12_thick 30 = .ok (.iadd, 1) := by decide +kernel
theorem dX12_thick_31 : decode cX12_thick 31 = .ok (.iaload, 1) := by decide +kernel
theorem dX12_thick_32 : decode cX12_thick 32 = .ok (.istore_n 3, 1) := by decide +kernel
theorem dX12_thick_33 : decode cX12_thick 33 = .ok (.aload_n 0, 1) := by decide +kernel
theorem dX12_thick_34 : decode cX12_thick 34 = .ok (.getfield 9, 3) := by decide +kernel
theorem dX12_thick_37 : decode cX12_thick 37 = .ok (.bipush 44, 2) := by decide +kernel
theorem dX12_thick_39 : decode cX12_thick 39 = .ok (.iload_n 1, 1) := by decide +kernel
theorem dX12_thick_40 : decode cX12_thick 40 = .ok (.iadd, 1) := by decide +kernel
theorem dX12_thick_41 : decode cX12_thick 41 = .ok (.iload_n 2, 1) := by decide +kernel
theorem dX12_thick_42 : decode cX12_thick 42 = .ok (.iastore, 1) := by decide +kernel
theorem dX12_thick_43 : decode cX12_thick 43 = .ok (.iload_n 3, 1) := by decide +kernel
theorem dX12_thick_44 : decode cX12_thick 44 = .ok (.ireturn, 1) := by decide +kernel
theorem hd_X12_thick : yX12_thick.cls = RX12 ∧ yX12_thick.cls ≠ "java/lang/invoke/MethodHandle" ∧ yX12_thick.cls ≠ "java/lang/invoke/VarHandle" ∧ (parseMethodDescriptor yX12_thick.desc).map (fun d => d.parameters.length) = some 2 := by decide +kernel
abbrev rm_X12_thick : Room := { frames := 2, cells := 0, slots := 0, locals := 43 }
def F_X12_thick (a1 : Int32) (a2 : Int32) (σ : SG) (ρ : RG) : Option (Int32 × SG) :=
  bn (F_X12_isCutter a1 σ ρ) fun r1 =>
  if r1 = 0 then
    some ((-1 : Int32), σ)
  else
    bn (F_X12_in a2 (1 : Int32) (40 : Int32) σ ρ) fun r3 =>
    if r3 = 0 then
      some ((-2 : Int32), σ)
    else
      nm ((44 : Int32) + a1) fun x5 =>
      gd (inb x5 909) <|
      nm ((44 : Int32) + a1) fun x7 =>
      gd (inb x7 909) <|
      nm (s2 σ 55 (x7).toNatClampNeg a2) fun σ10 =>
      some ((σ 55 (x5).toNatClampNeg), σ10)
set_option maxHeartbeats 4000000 in
set_option maxRecDepth 100000 in
theorem w_X12_thick_0 {a1 : Int32} {a2 : Int32} {p : Program} {e : Env} {s : State} {m : MethodId} {args : Array Value} {below : List Frame} {meth : Method} {c : Code} {ρ0 : RG} {r : Int32} {σ1 : SG} (C : Cx Y D N ad p s m args meth c cX12_thick 4 (some .int) RX12 wsL_law) {σ : SG} {ρ : RG} {H : Heap} {locs : List Loc} {ls : Array Slot} (hρ0 : ρ = ρ0) (hL : Lay N K len ρ) (hF : F_X12_thick a1 a2 σ ρ = some (r, σ1)) (hP : WP Y D N ad K len σ ρ H) (hS : va_S (AA N ad s.heap.size) s.heap H locs) (hl : lv_has ls 4 [(0, .ref (ad 54)), (1, .int a1), (2, .int a2)]) : W p l e rm_X12_thick s m args below meth c H locs 0 0 (MQ below (QW Y D N ad K len σ1 ρ0 (AA N ad s.heap.size) (some (.int r))) args s 0 0 (AA N ad s.heap.size)) (F0 m 0 ls []) := by
  have hx := C.1.1
  have hb := C.1.2.1
  unfold F_X12_thick at hF
  refine lv_aload_n hx hb dX12_thick_0 rfl (lv_at hl 0 rfl) ?_
  refine lv_iload_n hx hb dX12_thick_1 rfl (lv_at hl 1 rfl) ?_
  obtain ⟨r1, hq1, hF⟩ := bn_1 hF
  refine x_callV (ci := 12) rfl rfl C hP hS (c_X12_isCutter hL hq1) (lr_54 hL) (lk_54 hL) (cwV 1 C.1.2.2.2.2 (gdV mw_462 mw_463 mw_464 mw_5 mw_465) rfl rfl rfl hd_X12_isCutter ⟨Nat.le_of_ble_eq_true rfl, Nat.le_of_ble_eq_true rfl⟩) rfl rfl hl.1 (Nat.le_of_ble_eq_true rfl) ⟨Nat.zero_le _, Nat.zero_le _⟩ dX12_thick_2 (fun H locs hP hS => ?_)
  refine lv_if_ne (tgt := 10) hx hb dX12_thick_5 (by decide) (fun c_2 => ?_) (fun c_2 => ?_) -- COND 2 rcases (Decidable.em (r1 = 0)).symm with c_2 | c_2
  · have hF := ite_f hF c_2
    refine lv_iload_n hx hb dX12_thick_10 rfl (lv_at hl 2 rfl) ?_
    refine lv_iconst (v := 1) hx hb dX12_thick_11 (by decide) ?_
    refine lv_bipush (v := 40) hx hb dX12_thick_12 (by decide +kernel) ?_
    obtain ⟨r3, hq3, hF⟩ := bn_1 hF
    refine x_callS C hP hS (c_X12_in hL hq3) (va_cwS 3 C.1.2.2.2.2 (gdS mw_104 mw_105 mw_5 mw_106) rfl rfl rfl hd_X12_in.2 ⟨Nat.le_of_ble_eq_true rfl, Nat.le_of_ble_eq_true rfl⟩) rfl rfl hl.1 (Nat.le_of_ble_eq_true rfl) ⟨Nat.zero_le _, Nat.zero_le _⟩ dX12_thick_14 (fun H locs hP hS => ?_)
    refine lv_if_ne (tgt := 23) hx hb dX12_thick_17 (by decide) (fun c_4 => ?_) (fun c_4 => ?_) -- COND 4 rcases (Decidable.em (r3 = 0)).symm with c_4 | c_4
    · have hF := ite_f hF c_4
      refine lv_aload_n hx hb dX12_thick_23 rfl (lv_at hl 0 rfl) ?_
      refine get_12_1 C hP (lr_54 hL) (lk_54 hL) inlX12 mw_81 (lf_54_1 hL) dX12_thick_24 ?_
      refine lv_bipush (v := 44) hx hb dX12_thick_27 (by decide +kernel) ?_
      refine lv_iload_n hx hb dX12_thick_29 rfl (lv_at hl 1 rfl) ?_
      refine lv_iadd hx hb dX12_thick_30 ?_
      obtain ⟨x5, ex5, hF⟩ := nm_1 hF
      refine x_top ex5 ?_
      obtain ⟨g6, hF⟩ := gd_1 hF
      refine x_iald C hP (lr_55 hL) (lk_55 hL) (ln_55 hL) g6 dX12_thick_31 ?_
      refine lv_istore_n (lv' := [(3, .int (σ 55 (x5).toNatClampNeg)), (0, .ref (ad 54)), (1, .int a1), (2, .int a2)]) hx hb dX12_thick_32 rfl hl (by decide) rfl (fun ls hl => ?_)
      refine lv_aload_n hx hb dX12_thick_33 rfl (lv_at hl 1 rfl) ?_
      refine get_12_1 C hP (lr_54 hL) (lk_54 hL) inlX12 mw_81 (lf_54_1 hL) dX12_thick_34 ?_
      refine lv_bipush (v := 44) hx hb dX12_thick_37 (by decide +kernel) ?_
      refine lv_iload_n hx hb dX12_thick_39 rfl (lv_at hl 2 rfl) ?_
      refine lv_iadd hx hb dX12_thick_40 ?_
      obtain ⟨x7, ex7, hF⟩ := nm_1 hF
      refine x_top ex7 ?_
      refine lv_iload_n hx hb dX12_thick_41 rfl (lv_at hl 3 rfl) ?_
      obtain ⟨g8, hF⟩ := gd_1 hF
      obtain ⟨σ10, eσ10, hF⟩ := nm_1 hF
      refine x_iast (σ1 := σ10) C hP hS (lr_55 hL) (lk_55 hL) (ln_55 hL) g8 eσ10 dX12_thick_42 (fun H locs hP hS => ?_)
      refine lv_iload_n hx hb dX12_thick_43 rfl (lv_at hl 0 rfl) ?_
      obtain ⟨rfl, rfl⟩ := ret_2 hF
      subst hρ0
      exact x_iret rfl C hP hS dX12_thick_44
    · have hF := ite_t hF c_4
      refine lv_bipush (v := -2) hx hb dX12_thick_20 (by decide +kernel) ?_
      obtain ⟨rfl, rfl⟩ := ret_2 hF
      subst hρ0
      exact x_iret rfl C hP hS dX12_thick_22
  · have hF := ite_t hF c_2
    refine lv_iconst (v := -1) hx hb dX12_thick_8 (by decide) ?_
    obtain ⟨rfl, rfl⟩ := ret_2 hF
    subst hρ0
    exact x_iret rfl C hP hS dX12_thick_9
set_option maxHeartbeats 4000000 in
set_option maxRecDepth 100000 in
theorem c_X12_thick {a1 : Int32} {a2 : Int32} {r : Int32} {σ1 : SG} {σ : SG} {ρ : RG} (hL : Lay N K len ρ) (hF : F_X12_thick a1 a2 σ ρ = some (r, σ1)) : MT l Y D N ad K len yX12_thick (Cond.code yX12_thick cX12_thick 4 (some .int) :: wsL_law) rm_X12_thick [.ref (ad 54), .int a1, .int a2] σ ρ (some (.int r)) σ1 ρ := by
  refine mt_of (cc := cX12_thick) (nL := 4) (ret := (some .int)) (by decide) (Nat.le_of_ble_eq_true rfl) ?_
  intro p e s m args below meth c ls C hnm hP hS hl
  exact w_X12_thick_0 C rfl hL hF hP hS hl

/-! CutCrookedModel.public int row(int, int, int);  -/
theorem dX12_row_0 : decode cX12_row 0 = .ok (.aload_n 0, 1) := by decide +kernel
theorem dX12_row_1 : decode cX12_row 1 = .ok (.iload_n 1, 1) := by decide +kernel
theorem dX12_row_2 : decode cX12_row 2 = .ok (.invokevirtual 143, 3) := by decide +kernel
theorem dX12_row_5 : decode cX12_row 5 = .ok (.ifCond .eq 12, 3) := by decide +kernel
theorem dX12_row_8 : decode cX12_row 8 = .ok (.iload_n 2, 1) := by decide +kernel
theorem dX12_row_9 : decode cX12_row 9 = .ok (.iconst 0, 1) := by decide +kernel
theorem dX12_row_10 : decode cX12_row 10 = .ok (.iconst 3, 1) := by decide +kernel
theorem dX12_row_11 : decode cX12_row 11 = .ok (.invokestatic 47, 3) := by decide +kernel
theorem dX12_row_14 : decode cX12_row 14 = .ok (.ifCond .ne 5, 3) := by decide +kernel
theorem dX12_row_17 : decode cX12_row 17 = .ok (.iconst (-1), 1) := by decide +kernel
theorem dX12_row_18 : decode cX12_row 18 = .ok (.ireturn, 1) := by decide +kernel
theorem dX12_row_19 : decode cX12_row 19 = .ok (.iload_n 3, 1) := by decide +kernel
theorem dX12_row_20 : decode cX12_row 20 = .ok (.iconst 0, 1) := by decide +kernel
theorem dX12_row_21 : decode cX12_row 21 = .ok (.bipush 9, 2) := by decide +kernel
theorem dX12_row_23 : decode cX12_row 23 = .ok (.invokestatic 47, 3) := by decide +kernel
theorem dX12_row_26 : decode cX12_row 26 = .ok (.ifCond .ne 6, 3) := by decide +kernel
theorem dX12_row_29 : decode cX12_row 29 = .ok (.bipush (-2), 2) := by decide +kernel
theorem dX12_row_31 : decode cX12_row 31 = .ok (.ireturn, 1) := by decide +kernel
theorem dX12_row_32 : decode cX12_row 32 = .ok (.aload_n 0, 1) := by decide +kernel
theorem dX12_row_33 : decode cX12_row 33 = .ok (.getfield 9, 3) := by decide +kernel
theorem dX12_row_36 : decode cX12_row 36 = .ok (.bipush 20, 2) := by decide +kernel
theorem dX12_row_38 : decode cX12_row 38 = .ok (.iload_n 1, 1) := by decide +kernel
theorem dX12_row_39 : decode cX12_row 39 = .ok (.iadd, 1) := by decide +kernel
theorem dX12_row_40 : decode cX12_row 40 = .ok (.iaload, 1) := by decide +kernel
theorem dX12_row_41 : decode cX12_row 41 = .ok (.bipush 6, 2) := by decide +kernel
theorem dX12_row_43 : decode cX12_row 43 = .ok (.if_icmp .eq 6, 3) := by decide +kernel
theorem dX12_row_46 : decode cX12_row 46 = .ok (.bipush (-3), 2) := by decide +kernel
theorem dX12_row_48 : decode cX12_row 48 = .ok (.ireturn, 1) := by decide +kernel
theorem dX12_row_49 : decode cX12_row 49 = .ok (.aload_n 0, 1) := by decide +kernel
theorem dX12_row_50 : decode cX12_row 50 = .ok (.getfield 9, 3) := by decide +kernel
theorem dX12_row_53 : decode cX12_row 53 = .ok (.bipush 50, 2) := by decide +kernel
theorem dX12_row_55 : decode cX12_row 55 = .ok (.iconst 4, 1) := by decide +kernel
theorem dX12_row_56 : decode cX12_row 56 = .ok (.iload_n 1, 1) := by decide +kernel
theorem dX12_row_57 : decode cX12_row 57 = .ok (.imul, 1) := by decide +kernel
theorem dX12_row_58 : decode cX12_row 58 = .ok (.iadd, 1) := by decide +kernel
theorem dX12_row_59 : decode cX12_row 59 = .ok (.iload_n 2, 1) := by decide +kernel
theorem dX12_row_60 : decode cX12_row 60 = .ok (.iadd, 1) := by decide +kernel
theorem dX12_row_61 : decode cX12_row 61 = .ok (.iaload, 1) := by decide +kernel
theorem dX12_row_62 : decode cX12_row 62 = .ok (.istore 4, 2) := by decide +kernel
theorem dX12_row_64 : decode cX12_row 64 = .ok (.aload_n 0, 1) := by decide +kernel
theorem dX12_row_65 : decode cX12_row 65 = .ok (.getfield 9, 3) := by decide +kernel
theorem dX12_row_68 : decode cX12_row 68 = .ok (.bipush 50, 2) := by decide +kernel
theorem dX12_row_70 : decode cX12_row 70 = .ok (.iconst 4, 1) := by decide +kernel
theorem dX12_row_71 : decode cX12_row 71 = .ok (.iload_n 1, 1) := by decide +kernel
theorem dX12_row_72 : decode cX12_row 72 = .ok (.imul, 1) := by decide +kernel
theorem dX12_row_73 : decode cX12_row 73 = .ok (.iadd, 1) := by decide +kernel
theorem dX12_row_74 : decode cX12_row 74 = .ok (.iload_n 2, 1) := by decide +kernel
theorem dX12_row_75 : decode cX12_row 75 = .ok (.iadd, 1) := by decide +kernel
theorem dX12_row_76 : decode cX12_row 76 = .ok (.iload_n 3, 1) := by decide +kernel
theorem dX12_row_77 : decode cX12_row 77 = .ok (.iastore, 1) := by decide +kernel
theorem dX12_row_78 : decode cX12_row 78 = .ok (.iload 4, 2) := by decide +kernel
theorem dX12_row_80 : decode cX12_row 80 = .ok (.ireturn, 1) := by decide +kernel
theorem hd_X12_row : yX12_row.cls = RX12 ∧ yX12_row.cls ≠ "java/lang/invoke/MethodHandle" ∧ yX12_row.cls ≠ "java/lang/invoke/VarHandle" ∧ (parseMethodDescriptor yX12_row.desc).map (fun d => d.parameters.length) = some 3 := by decide +kernel
abbrev rm_X12_row : Room := { frames := 2, cells := 0, slots := 0, locals := 43 }
def F_X12_row (a1 : Int32) (a2 : Int32) (a3 : Int32) (σ : SG) (ρ : RG) : Option (Int32 × SG) :=
  bn (F_X12_isCutter a1 σ ρ) fun r1 =>
  if r1 = 0 then
    some ((-1 : Int32), σ)
  else
    bn (F_X12_in a2 (0 : Int32) (3 : Int32) σ ρ) fun r3 =>
    if r3 = 0 then
      some ((-1 : Int32), σ)
    else
      bn (F_X12_in a3 (0 : Int32) (9 : Int32) σ ρ) fun r5 =>
      if r5 = 0 then
        some ((-2 : Int32), σ)
      else
        nm ((20 : Int32) + a1) fun x7 =>
        gd (inb x7 909) <|
        if (σ 55 (x7).toNatClampNeg) = (6 : Int32) then
          nm ((4 : Int32) * a1) fun x10 =>
          nm ((50 : Int32) + x10) fun x11 =>
          nm (x11 + a2) fun x12 =>
          gd (inb x12 909) <|
          nm ((4 : Int32) * a1) fun x14 =>
          nm ((50 : Int32) + x14) fun x15 =>
          nm (x15 + a2) fun x16 =>
          gd (inb x16 909) <|
          nm (s2 σ 55 (x16).toNatClampNeg a3) fun σ19 =>
          some ((σ 55 (x12).toNatClampNeg), σ19)
        else
          some ((-3 : Int32), σ)
set_option maxHeartbeats 4000000 in
set_option maxRecDepth 100000 in
theorem w_X12_row_0 {a1 : Int32} {a2 : Int32} {a3 : Int32} {p : Program} {e : Env} {s : State} {m : MethodId} {args : Array Value} {below : List Frame} {meth : Method} {c : Code} {ρ0 : RG} {r : Int32} {σ1 : SG} (C : Cx Y D N ad p s m args meth c cX12_row 5 (some .int) RX12 wsL_law) {σ : SG} {ρ : RG} {H : Heap} {locs : List Loc} {ls : Array Slot} (hρ0 : ρ = ρ0) (hL : Lay N K len ρ) (hF : F_X12_row a1 a2 a3 σ ρ = some (r, σ1)) (hP : WP Y D N ad K len σ ρ H) (hS : va_S (AA N ad s.heap.size) s.heap H locs) (hl : lv_has ls 5 [(0, .ref (ad 54)), (1, .int a1), (2, .int a2), (3, .int a3)]) : W p l e rm_X12_row s m args below meth c H locs 0 0 (MQ below (QW Y D N ad K len σ1 ρ0 (AA N ad s.heap.size) (some (.int r))) args s 0 0 (AA N ad s.heap.size)) (F0 m 0 ls []) := by
  have hx := C.1.1
  have hb := C.1.2.1
  unfold F_X12_row at hF
  refine lv_aload_n hx hb dX12_row_0 rfl (lv_at hl 0 rfl) ?_
  refine lv_iload_n hx hb dX12_row_1 rfl (lv_at hl 1 rfl) ?_
  obtain ⟨r1, hq1, hF⟩ := bn_1 hF
  refine x_callV (ci := 12) rfl rfl C hP hS (c_X12_isCutter hL hq1) (lr_54 hL) (lk_54 hL) (cwV 1 C.1.2.2.2.2 (gdV mw_462 mw_463 mw_464 mw_5 mw_465) rfl rfl rfl hd_X12_isCutter ⟨Nat.le_of_ble_eq_true rfl, Nat.le_of_ble_eq_true rfl⟩) rfl rfl hl.1 (Nat.le_of_ble_eq_true rfl) ⟨Nat.zero_le _, Nat.zero_le _⟩ dX12_row_2 (fun H locs hP hS => ?_)
  refine lv_if_eq (tgt := 17) hx hb dX12_row_5 (by decide) (fun c_2 => ?_) (fun c_2 => ?_) -- COND 2 by_cases c_2 : r1 = 0
  · have hF := ite_t hF c_2
    refine lv_iconst (v := -1) hx hb dX12_row_17 (by decide) ?_
    obtain ⟨rfl, rfl⟩ := ret_2 hF
    subst hρ0
    exact x_iret rfl C hP hS dX12_row_18
  · have hF := ite_f hF c_2
    refine lv_iload_n hx hb dX12_row_8 rfl (lv_at hl 2 rfl) ?_
    refine lv_iconst (v := 0) hx hb dX12_row_9 (by decide) ?_
    refine lv_iconst (v := 3) hx hb dX12_row_10 (by decide) ?_
    obtain ⟨r3, hq3, hF⟩ := bn_1 hF
    refine x_callS C hP hS (c_X12_in hL hq3) (va_cwS 3 C.1.2.2.2.2 (gdS mw_104 mw_105 mw_5 mw_106) rfl rfl rfl hd_X12_in.2 ⟨Nat.le_of_ble_eq_true rfl, Nat.le_of_ble_eq_true rfl⟩) rfl rfl hl.1 (Nat.le_of_ble_eq_true rfl) ⟨Nat.zero_le _, Nat.zero_le _⟩ dX12_row_11 (fun H locs hP hS => ?_)
    refine lv_if_ne (tgt := 19) hx hb dX12_row_14 (by decide) (fun c_4 => ?_) (fun c_4 => ?_) -- COND 4 rcases (Decidable.em (r3 = 0)).symm with c_4 | c_4
    · have hF := ite_f hF c_4
      refine lv_iload_n hx hb dX12_row_19 rfl (lv_at hl 3 rfl) ?_
      refine lv_iconst (v := 0) hx hb dX12_row_20 (by decide) ?_
      refine lv_bipush (v := 9) hx hb dX12_row_21 (by decide +kernel) ?_
      obtain ⟨r5, hq5, hF⟩ := bn_1 hF
      refine x_callS C hP hS (c_X12_in hL hq5) (va_cwS 3 C.1.2.2.2.2 (gdS mw_104 mw_105 mw_5 mw_106) rfl rfl rfl hd_X12_in.2 ⟨Nat.le_of_ble_eq_true rfl, Nat.le_of_ble_eq_true rfl⟩) rfl rfl hl.1 (Nat.le_of_ble_eq_true rfl) ⟨Nat.zero_le _, Nat.zero_le _⟩ dX12_row_23 (fun H locs hP hS => ?_)
      refine lv_if_ne (tgt := 32) hx hb dX12_row_26 (by decide) (fun c_6 => ?_) (fun c_6 => ?_) -- COND 6 rcases (Decidable.em (r5 = 0)).symm with c_6 | c_6
      · have hF := ite_f hF c_6
        refine lv_aload_n hx hb dX12_row_32 rfl (lv_at hl 0 rfl) ?_
        refine get_12_1 C hP (lr_54 hL) (lk_54 hL) inlX12 mw_81 (lf_54_1 hL) dX12_row_33 ?_
        refine lv_bipush (v := 20) hx hb dX12_row_36 (by decide +kernel) ?_
        refine lv_iload_n hx hb dX12_row_38 rfl (lv_at hl 1 rfl) ?_
        refine lv_iadd hx hb dX12_row_39 ?_
        obtain ⟨x7, ex7, hF⟩ := nm_1 hF
        refine x_top ex7 ?_
        obtain ⟨g8, hF⟩ := gd_1 hF
        refine x_iald C hP (lr_55 hL) (lk_55 hL) (ln_55 hL) g8 dX12_row_40 ?_
        refine lv_bipush (v := 6) hx hb dX12_row_41 (by decide +kernel) ?_
        refine lv_icmp_eq (tgt := 49) hx hb dX12_row_43 (by decide) (fun c_9 => ?_) (fun c_9 => ?_) -- COND 9 by_cases c_9 : (σ 55 (x7).toNatClampNeg) = (6 : Int32)
        · have hF := ite_t hF c_9
          refine lv_aload_n hx hb dX12_row_49 rfl (lv_at hl 0 rfl) ?_
          refine get_12_1 C hP (lr_54 hL) (lk_54 hL) inlX12 mw_81 (lf_54_1 hL) dX12_row_50 ?_
          refine lv_bipush (v := 50) hx hb dX12_row_53 (by decide +kernel) ?_
          refine lv_iconst (v := 4) hx hb dX12_row_55 (by decide) ?_
          refine lv_iload_n hx hb dX12_row_56 rfl (lv_at hl 1 rfl) ?_
          refine lv_imul hx hb dX12_row_57 ?_
          obtain ⟨x10, ex10, hF⟩ := nm_1 hF
          refine x_top ex10 ?_
          refine lv_iadd hx hb dX12_row_58 ?_
          obtain ⟨x11, ex11, hF⟩ := nm_1 hF
          refine x_top ex11 ?_
          refine lv_iload_n hx hb dX12_row_59 rfl (lv_at hl 2 rfl) ?_
          refine lv_iadd hx hb dX12_row_60 ?_
          obtain ⟨x12, ex12, hF⟩ := nm_1 hF
          refine x_top ex12 ?_
          obtain ⟨g13, hF⟩ := gd_1 hF
          refine x_iald C hP (lr_55 hL) (lk_55 hL) (ln_55 hL) g13 dX12_row_61 ?_
          refine lv_istore (lv' := [(4, .int (σ 55 (x12).toNatClampNeg)), (0, .ref (ad 54)), (1, .int a1), (2, .int a2), (3, .int a3)]) hx hb dX12_row_62 hl (by decide) rfl (fun ls hl => ?_)
          refine lv_aload_n hx hb dX12_row_64 rfl (lv_at hl 1 rfl) ?_
          refine get_12_1 C hP (lr_54 hL) (lk_54 hL) inlX12 mw_81 (lf_54_1 hL) dX12_row_65 ?_
          refine lv_bipush (v := 50) hx hb dX12_row_68 (by decide +kernel) ?_
          refine lv_iconst (v := 4) hx hb dX12_row_70 (by decide) ?_
          refine lv_iload_n hx hb dX12_row_71 rfl (lv_at hl 2 rfl) ?_
          refine lv_imul hx hb dX12_row_72 ?_
          obtain ⟨x14, ex14, hF⟩ := nm_1 hF
          refine x_top ex14 ?_
          refine lv_iadd hx hb dX12_row_73 ?_
          obtain ⟨x15, ex15, hF⟩ := nm_1 hF
          refine x_top ex15 ?_
          refine lv_iload_n hx hb dX12_row_74 rfl (lv_at hl 3 rfl) ?_
          refine lv_iadd hx hb dX12_row_75 ?_
          obtain ⟨x16, ex16, hF⟩ := nm_1 hF
          refine x_top ex16 ?_
          refine lv_iload_n hx hb dX12_row_76 rfl (lv_at hl 4 rfl) ?_
          obtain ⟨g17, hF⟩ := gd_1 hF
          obtain ⟨σ19, eσ19, hF⟩ := nm_1 hF
          refine x_iast (σ1 := σ19) C hP hS (lr_55 hL) (lk_55 hL) (ln_55 hL) g17 eσ19 dX12_row_77 (fun H locs hP hS => ?_)
          refine lv_iload hx hb dX12_row_78 (lv_at hl 0 rfl) ?_
          obtain ⟨rfl, rfl⟩ := ret_2 hF
          subst hρ0
          exact x_iret rfl C hP hS dX12_row_80
        · have hF := ite_f hF c_9
          refine lv_bipush (v := -3) hx hb dX12_row_46 (by decide +kernel) ?_
          obtain ⟨rfl, rfl⟩ := ret_2 hF
          subst hρ0
          exact x_iret rfl C hP hS dX12_row_48
      · have hF := ite_t hF c_6
        refine lv_bipush (v := -2) hx hb dX12_row_29 (by decide +kernel) ?_
        obtain ⟨rfl, rfl⟩ := ret_2 hF
        subst hρ0
        exact x_iret rfl C hP hS dX12_row_31
    · have hF := ite_t hF c_4
      refine lv_iconst (v := -1) hx hb dX12_row_17 (by decide) ?_
      obtain ⟨rfl, rfl⟩ := ret_2 hF
      subst hρ0
      exact x_iret rfl C hP hS dX12_row_18
set_option maxHeartbeats 4000000 in
set_option maxRecDepth 100000 in
theorem c_X12_row {a1 : Int32} {a2 : Int32} {a3 : Int32} {r : Int32} {σ1 : SG} {σ : SG} {ρ : RG} (hL : Lay N K len ρ) (hF : F_X12_row a1 a2 a3 σ ρ = some (r, σ1)) : MT l Y D N ad K len yX12_row (Cond.code yX12_row cX12_row 5 (some .int) :: wsL_law) rm_X12_row [.ref (ad 54), .int a1, .int a2, .int a3] σ ρ (some (.int r)) σ1 ρ := by
  refine mt_of (cc := cX12_row) (nL := 5) (ret := (some .int)) (by decide) (Nat.le_of_ble_eq_true rfl) ?_
  intro p e s m args below meth c ls C hnm hP hS hl
  exact w_X12_row_0 C rfl hL hF hP hS hl

/-! CutCrookedModel.public int loaf(int);  -/
theorem dX12_loaf_0 : decode cX12_loaf 0 = .ok (.iload_n 1, 1) := by decide +kernel
theorem dX12_loaf_1 : decode cX12_loaf 1 = .ok (.bipush 40, 2) := by decide +kernel
theorem dX12_loaf_3 : decode cX12_loaf 3 = .ok (.sipush 999, 3) := by decide +kernel
theorem dX12_loaf_6 : decode cX12_loaf 6 = .ok (.invokestatic 47, 3) := by decide +kernel
theorem dX12_loaf_9 : decode cX12_loaf 9 = .ok (.ifCond .ne 6, 3) := by decide +kernel
theorem dX12_loaf_12 : decode cX12_loaf 12 = .ok (.bipush (-2), 2) := by decide +kernel
theorem dX12_loaf_14 : decode cX12_loaf 14 = .ok (.ireturn, 1) := by decide +kernel
theorem dX12_loaf_15 : decode cX12_loaf 15 = .ok (.aload_n 0, 1) := by decide +kernel
theorem dX12_loaf_16 : decode cX12_loaf 16 = .ok (.getfield 9, 3) := by decide +kernel
theorem dX12_loaf_19 : decode cX12_loaf 19 = .ok (.bipush 17, 2) := by decide +kernel
theorem dX12_loaf_21 : decode cX12_loaf 21 = .ok (.iaload, 1) := by decide +kernel
theorem dX12_loaf_22 : decode cX12_loaf 22 = .ok (.istore_n 2, 1) := by decide +kernel
theorem dX12_loaf_23 : decode cX12_loaf 23 = .ok (.aload_n 0, 1) := by decide +kernel
theorem dX12_loaf_24 : decode cX12_loaf 24 = .ok (.getfield 9, 3) := by decide +kernel
theorem dX12_loaf_27 : decode cX12_loaf 27 = .ok (.bipush 17, 2) := by decide +kernel
theorem dX12_loaf_29 : decode cX12_loaf 29 = .ok (.iload_n 1, 1) := by decide +kernel
theorem dX12_loaf_30 : decode cX12_loaf 30 = .ok (.iastore, 1) := by decide +kernel
theorem dX12_loaf_31 : decode cX12_loaf 31 = .ok (.aload_n 0, 1) := by decide +kernel
theorem dX12_loaf_32 : decode cX12_loaf 32 = .ok (.getfield 9, 3) := by decide +kernel
theorem dX12_loaf_35 : decode cX12_loaf 35 = .ok (.iconst 0, 1) := by decide +kernel
theorem dX12_loaf_36 : decode cX12_loaf 36 = .ok (.iload_n 1, 1) := by decide +kernel
theorem dX12_loaf_37 : decode cX12_loaf 37 = .ok (.iastore, 1) := by decide +kernel
theorem dX12_loaf_38 : decode cX12_loaf 38 = .ok (.aload_n 0, 1) := by decide +kernel
theorem dX12_loaf_39 : decode cX12_loaf 39 = .ok (.getfield 9, 3) := by decide +kernel
theorem dX12_loaf_42 : decode cX12_loaf 42 = .ok (.iconst 1, 1) := by decide +kernel
theorem dX12_loaf_43 : decode cX12_loaf 43 = .ok (.iconst 0, 1) := by decide +kernel
theorem dX12_loaf_44 : decode cX12_loaf 44 = .ok (.iastore, 1) := by decide +kernel
theorem dX12_loaf_45 : decode cX12_loaf 45 = .ok (.aload_n 0, 1) := by decide +kernel
theorem dX12_loaf_46 : decode cX12_loaf 46 = .ok (.getfield 9, 3) := by decide +kernel
theorem dX12_loaf_49 : decode cX12_loaf 49 = .ok (.iconst 2, 1) := by decide +kernel
theorem dX12_loaf_50 : decode cX12_loaf 50 = .ok (.iconst 0, 1) := by decide +kernel
theorem dX12_loaf_51 : decode cX12_loaf 51 = .ok (.iastore, 1) := by decide +kernel
theorem dX12_loaf_52 : decode cX12_loaf 52 = .ok (.aload_n 0, 1) := by decide +kernel
theorem dX12_loaf_53 : decode cX12_loaf 53 = .ok (.getfield 9, 3) := by decide +kernel
theorem dX12_loaf_56 : decode cX12_loaf 56 = .ok (.iconst 3, 1) := by decide +kernel
theorem dX12_loaf_57 : decode cX12_loaf 57 = .ok (.iconst 0, 1) := by decide +kernel
theorem dX12_loaf_58 : decode cX12_loaf 58 = .ok (.iastore, 1) := by decide +kernel
theorem dX12_loaf_59 : decode cX12_loaf 59 = .ok (.aload_n 0, 1) := by decide +kernel
theorem dX12_loaf_60 : decode cX12_loaf 60 = .ok (.getfield 9, 3) := by decide +kernel
theorem dX12_loaf_63 : decode cX12_loaf 63 = .ok (.iconst 4, 1) := by decide +kernel
theorem dX12_loaf_64 : decode cX12_loaf 64 = .ok (.iconst 0, 1) := by decide +kernel
theorem dX12_loaf_65 : decode cX12_loaf 65 = .ok (.iastore, 1) := by decide +kernel
theorem dX12_loaf_66 : decode cX12_loaf 66 = .ok (.iload_n 2, 1) := by decide +kernel
theorem dX12_loaf_67 : decode cX12_loaf 67 = .ok (.ireturn, 1) := by decide +kernel
theorem hd_X12_loaf : yX12_loaf.cls = RX12 ∧ yX12_loaf.cls ≠ "java/lang/invoke/MethodHandle" ∧ yX12_loaf.cls ≠ "java/lang/invoke/VarHandle" ∧ (parseMethodDescriptor yX12_loaf.desc).map (fun d => d.parameters.length) = some 1 := by decide +kernel
abbrev rm_X12_loaf : Room := { frames := 1, cells := 0, slots := 0, locals := 22 }
def F_X12_loaf (a1 : Int32) (σ : SG) (ρ : RG) : Option (Int32 × SG) :=
  bn (F_X12_in a1 (40 : Int32) (999 : Int32) σ ρ) fun r1 =>
  if r1 = 0 then
    some ((-2 : Int32), σ)
  else
    nm (s2 σ 55 17 a1) fun σ4 =>
    nm (s2 σ4 55 0 a1) fun σ6 =>
    nm (s2 σ6 55 1 (0 : Int32)) fun σ8 =>
    nm (s2 σ8 55 2 (0 : Int32)) fun σ10 =>
    nm (s2 σ10 55 3 (0 : Int32)) fun σ12 =>
    nm (s2 σ12 55 4 (0 : Int32)) fun σ14 =>
    some ((σ 55 17), σ14)
set_option maxHeartbeats 4000000 in
set_option maxRecDepth 100000 in
theorem w_X12_loaf_0 {a1 : Int32} {p : Program} {e : Env} {s : State} {m : MethodId} {args : Array Value} {below : List Frame} {meth : Method} {c : Code} {ρ0 : RG} {r : Int32} {σ1 : SG} (C : Cx Y D N ad p s m args meth c cX12_loaf 3 (some .int) RX12 wsL_law) {σ : SG} {ρ : RG} {H : Heap} {locs : List Loc} {ls : Array Slot} (hρ0 : ρ = ρ0) (hL : Lay N K len ρ) (hF : F_X12_loaf a1 σ ρ = some (r, σ1)) (hP : WP Y D N ad K len σ ρ H) (hS : va_S (AA N ad s.heap.size) s.heap H locs) (hl : lv_has ls 3 [(0, .ref (ad 54)), (1, .int a1)]) : W p l e rm_X12_loaf s m args below meth c H locs 0 0 (MQ below (QW Y D N ad K len σ1 ρ0 (AA N ad s.heap.size) (some (.int r))) args s 0 0 (AA N ad s.heap.size)) (F0 m 0 ls []) := by
  have hx := C.1.1
  have hb := C.1.2.1
  unfold F_X12_loaf at hF
  refine lv_iload_n hx hb dX12_loaf_0 rfl (lv_at hl 1 rfl) ?_
  refine lv_bipush (v := 40) hx hb dX12_loaf_1 (by decide +kernel) ?_
  refine lv_sipush (v := 999) hx hb dX12_loaf_3 (by decide +kernel) ?_
  obtain ⟨r1, hq1, hF⟩ := bn_1 hF
  refine x_callS C hP hS (c_X12_in hL hq1) (va_cwS 3 C.1.2.2.2.2 (gdS mw_104 mw_105 mw_5 mw_106) rfl rfl rfl hd_X12_in.2 ⟨Nat.le_of_ble_eq_true rfl, Nat.le_of_ble_eq_true rfl⟩) rfl rfl hl.1 (Nat.le_of_ble_eq_true rfl) ⟨Nat.zero_le _, Nat.zero_le _⟩ dX12_loaf_6 (fun H locs hP hS => ?_)
  refine lv_if_ne (tgt := 15) hx hb dX12_loaf_9 (by decide) (fun c_2 => ?_) (fun c_2 => ?_) -- COND 2 rcases (Decidable.em (r1 = 0)).symm with c_2 | c_2
  · have hF := ite_f hF c_2
    refine lv_aload_n hx hb dX12_loaf_15 rfl (lv_at hl 0 rfl) ?_
    refine get_12_1 C hP (lr_54 hL) (lk_54 hL) inlX12 mw_81 (lf_54_1 hL) dX12_loaf_16 ?_
    refine lv_bipush (v := 17) hx hb dX12_loaf_19 (by decide +kernel) ?_
    refine x_iald C hP (lr_55 hL) (lk_55 hL) (ln_55 hL) (by decide +kernel) dX12_loaf_21 ?_
    rw [cl_17]
    refine lv_istore_n (lv' := [(2, .int (σ 55 17)), (0, .ref (ad 54)), (1, .int a1)]) hx hb dX12_loaf_22 rfl hl (by decide) rfl (fun ls hl => ?_)
    refine lv_aload_n hx hb dX12_loaf_23 rfl (lv_at hl 1 rfl) ?_
    refine get_12_1 C hP (lr_54 hL) (lk_54 hL) inlX12 mw_81 (lf_54_1 hL) dX12_loaf_24 ?_
    refine lv_bipush (v := 17) hx hb dX12_loaf_27 (by decide +kernel) ?_
    refine lv_iload_n hx hb dX12_loaf_29 rfl (lv_at hl 2 rfl) ?_
    obtain ⟨σ4, eσ4, hF⟩ := nm_1 hF
    refine x_iast (σ1 := σ4) C hP hS (lr_55 hL) (lk_55 hL) (ln_55 hL) (by decide +kernel) (by rw [cl_17]; exact eσ4) dX12_loaf_30 (fun H locs hP hS => ?_)
    refine lv_aload_n hx hb dX12_loaf_31 rfl (lv_at hl 1 rfl) ?_
    refine get_12_1 C hP (lr_54 hL) (lk_54 hL) inlX12 mw_81 (lf_54_1 hL) dX12_loaf_32 ?_
    refine lv_iconst (v := 0) hx hb dX12_loaf_35 (by decide) ?_
    refine lv_iload_n hx hb dX12_loaf_36 rfl (lv_at hl 2 rfl) ?_
    obtain ⟨σ6, eσ6, hF⟩ := nm_1 hF
    refine x_iast (σ1 := σ6) C hP hS (lr_55 hL) (lk_55 hL) (ln_55 hL) (by decide +kernel) (by rw [cl_0]; exact eσ6) dX12_loaf_37 (fun H locs hP hS => ?_)
    refine lv_aload_n hx hb dX12_loaf_38 rfl (lv_at hl 1 rfl) ?_
    refine get_12_1 C hP (lr_54 hL) (lk_54 hL) inlX12 mw_81 (lf_54_1 hL) dX12_loaf_39 ?_
    refine lv_iconst (v := 1) hx hb dX12_loaf_42 (by decide) ?_
    refine lv_iconst (v := 0) hx hb dX12_loaf_43 (by decide) ?_
    obtain ⟨σ8, eσ8, hF⟩ := nm_1 hF
    refine x_iast (σ1 := σ8) C hP hS (lr_55 hL) (lk_55 hL) (ln_55 hL) (by decide +kernel) (by rw [cl_1]; exact eσ8) dX12_loaf_44 (fun H locs hP hS => ?_)
    refine lv_aload_n hx hb dX12_loaf_45 rfl (lv_at hl 1 rfl) ?_
    refine get_12_1 C hP (lr_54 hL) (lk_54 hL) inlX12 mw_81 (lf_54_1 hL) dX12_loaf_46 ?_
    refine lv_iconst (v := 2) hx hb dX12_loaf_49 (by decide) ?_
    refine lv_iconst (v := 0) hx hb dX12_loaf_50 (by decide) ?_
    obtain ⟨σ10, eσ10, hF⟩ := nm_1 hF
    refine x_iast (σ1 := σ10) C hP hS (lr_55 hL) (lk_55 hL) (ln_55 hL) (by decide +kernel) (by rw [cl_2]; exact eσ10) dX12_loaf_51 (fun H locs hP hS => ?_)
    refine lv_aload_n hx hb dX12_loaf_52 rfl (lv_at hl 1 rfl) ?_
    refine get_12_1 C hP (lr_54 hL) (lk_54 hL) inlX12 mw_81 (lf_54_1 hL) dX12_loaf_53 ?_
    refine lv_iconst (v := 3) hx hb dX12_loaf_56 (by decide) ?_
    refine lv_iconst (v := 0) hx hb dX12_loaf_57 (by decide) ?_
    obtain ⟨σ12, eσ12, hF⟩ := nm_1 hF
    refine x_iast (σ1 := σ12) C hP hS (lr_55 hL) (lk_55 hL) (ln_55 hL) (by decide +kernel) (by rw [cl_3]; exact eσ12) dX12_loaf_58 (fun H locs hP hS => ?_)
    refine lv_aload_n hx hb dX12_loaf_59 rfl (lv_at hl 1 rfl) ?_
    refine get_12_1 C hP (lr_54 hL) (lk_54 hL) inlX12 mw_81 (lf_54_1 hL) dX12_loaf_60 ?_
    refine lv_iconst (v := 4) hx hb dX12_loaf_63 (by decide) ?_
    refine lv_iconst (v := 0) hx hb dX12_loaf_64 (by decide) ?_
    obtain ⟨σ14, eσ14, hF⟩ := nm_1 hF
    refine x_iast (σ1 := σ14) C hP hS (lr_55 hL) (lk_55 hL) (ln_55 hL) (by decide +kernel) (by rw [cl_4]; exact eσ14) dX12_loaf_65 (fun H locs hP hS => ?_)
    refine lv_iload_n hx hb dX12_loaf_66 rfl (lv_at hl 0 rfl) ?_
    obtain ⟨rfl, rfl⟩ := ret_2 hF
    subst hρ0
    exact x_iret rfl C hP hS dX12_loaf_67
  · have hF := ite_t hF c_2
    refine lv_bipush (v := -2) hx hb dX12_loaf_12 (by decide +kernel) ?_
    obtain ⟨rfl, rfl⟩ := ret_2 hF
    subst hρ0
    exact x_iret rfl C hP hS dX12_loaf_14
set_option maxHeartbeats 4000000 in
set_option maxRecDepth 100000 in
theorem c_X12_loaf {a1 : Int32} {r : Int32} {σ1 : SG} {σ : SG} {ρ : RG} (hL : Lay N K len ρ) (hF : F_X12_loaf a1 σ ρ = some (r, σ1)) : MT l Y D N ad K len yX12_loaf (Cond.code yX12_loaf cX12_loaf 3 (some .int) :: wsL_law) rm_X12_loaf [.ref (ad 54), .int a1] σ ρ (some (.int r)) σ1 ρ := by
  refine mt_of (cc := cX12_loaf) (nL := 3) (ret := (some .int)) (by decide) (Nat.le_of_ble_eq_true rfl) ?_
  intro p e s m args below meth c ls C hnm hP hS hl
  exact w_X12_loaf_0 C rfl hL hF hP hS hl

/-! CutCrookedModel.private static int corner(int, int, int, int);  -/
theorem dX12_corner_0 : decode cX12_corner 0 = .ok (.iload_n 1, 1) := by decide +kernel
theorem dX12_corner_1 : decode cX12_corner 1 = .ok (.iload_n 0, 1) := by decide +kernel
theorem dX12_corner_2 : decode cX12_corner 2 = .ok (.iconst 2, 1) := by decide +kernel
theorem dX12_corner_3 : decode cX12_corner 3 = .ok (.if_icmp .ge 7, 3) := by decide +kernel
theorem dX12_corner_6 : decode cX12_corner 6 = .ok (.iload_n 2, 1) := by decide +kernel
theorem dX12_corner_7 : decode cX12_corner 7 = .ok (.goto 5, 3) := by decide +kernel
theorem dX12_corner_10 : decode cX12_corner 10 = .ok (.iload_n 2, 1) := by decide +kernel
theorem dX12_corner_11 : decode cX12_corner 11 = .ok (.ineg, 1) := by decide +kernel
theorem dX12_corner_12 : decode cX12_corner 12 = .ok (.iadd, 1) := by decide +kernel
theorem dX12_corner_13 : decode cX12_corner 13 = .ok (.iload_n 0, 1) := by decide +kernel
theorem dX12_corner_14 : decode cX12_corner 14 = .ok (.iconst 2, 1) := by decide +kernel
theorem dX12_corner_15 : decode cX12_corner 15 = .ok (.irem, 1) := by decide +kernel
theorem dX12_corner_16 : decode cX12_corner 16 = .ok (.ifCond .ne 8, 3) := by decide +kernel
theorem dX12_corner_19 : decode cX12_corner 19 = .ok (.iload_n 3, 1) := by decide +kernel
theorem dX12_corner_20 : decode cX12_corner 20 = .ok (.ineg, 1) := by decide +kernel
theorem dX12_corner_21 : decode cX12_corner 21 = .ok (.goto 4, 3) := by decide +kernel
theorem dX12_corner_24 : decode cX12_corner 24 = .ok (.iload_n 3, 1) := by decide +kernel
theorem dX12_corner_25 : decode cX12_corner 25 = .ok (.iadd, 1) := by decide +kernel
theorem dX12_corner_26 : decode cX12_corner 26 = .ok (.ireturn, 1) := by decide +kernel
theorem hd_X12_corner : yX12_corner.cls = RX12 ∧ yX12_corner.cls ≠ "java/lang/invoke/MethodHandle" ∧ yX12_corner.cls ≠ "java/lang/invoke/VarHandle" ∧ (parseMethodDescriptor yX12_corner.desc).map (fun d => d.parameters.length) = some 4 := by decide +kernel
abbrev rm_X12_corner : Room := { frames := 0, cells := 0, slots := 0, locals := 0 }
def F_X12_corner_12 (a1 : Int32) (a2 : Int32) (a3 : Int32) (a4 : Int32) (σ : SG) (ρ : RG) (v0 : Int32) (v3 : Int32) (k0 : Int32) (k1 : Int32) : Option (Int32) :=
  nm (k0 + k1) fun x3 =>
  nm (v0 - v0 / (2 : Int32) * (2 : Int32)) fun x4 =>
  if x4 = 0 then
    nm (-v3) fun x7 =>
    nm (x3 + x7) fun x8 =>
    some x8
  else
    nm (x3 + v3) fun x6 =>
    some x6
def F_X12_corner (a1 : Int32) (a2 : Int32) (a3 : Int32) (a4 : Int32) (σ : SG) (ρ : RG) : Option (Int32) :=
  if (2 : Int32) ≤ a1 then
    nm (-a3) fun x2 =>
    F_X12_corner_12 a1 a2 a3 a4 σ ρ a1 a4 a2 x2
  else
    F_X12_corner_12 a1 a2 a3 a4 σ ρ a1 a4 a2 a3
set_option maxHeartbeats 4000000 in
set_option maxRecDepth 100000 in
theorem w_X12_corner_12 {a1 : Int32} {a2 : Int32} {a3 : Int32} {a4 : Int32} {p : Program} {e : Env} {s : State} {m : MethodId} {args : Array Value} {below : List Frame} {meth : Method} {c : Code} {σ0 : SG} {ρ0 : RG} {r : Int32} (C : Cx Y D N ad p s m args meth c cX12_corner 4 (some .int) RX12 wsL_law) {σ : SG} {ρ : RG} {v0 : Int32} {v3 : Int32} {k0 : Int32} {k1 : Int32} {H : Heap} {locs : List Loc} {ls : Array Slot} (hσ0 : σ = σ0) (hρ0 : ρ = ρ0) (hL : Lay N K len ρ) (hF : F_X12_corner_12 a1 a2 a3 a4 σ ρ v0 v3 k0 k1 = some r) (hP : WP Y D N ad K len σ ρ H) (hS : va_S (AA N ad s.heap.size) s.heap H locs) (hl : lv_has ls 4 [(0, .int v0), (3, .int v3)]) : W p l e rm_X12_corner s m args below meth c H locs 0 0 (MQ below (QW Y D N ad K len σ0 ρ0 (AA N ad s.heap.size) (some (.int r))) args s 0 0 (AA N ad s.heap.size)) (F0 m 12 ls [.int k1, .int k0]) := by
  have hx := C.1.1
  have hb := C.1.2.1
  unfold F_X12_corner_12 at hF
  refine lv_iadd hx hb dX12_corner_12 ?_
  obtain ⟨x3, ex3, hF⟩ := nm_1 hF
  refine x_top ex3 ?_
  refine lv_iload_n hx hb dX12_corner_13 rfl (lv_at hl 0 rfl) ?_
  refine lv_iconst (v := 2) hx hb dX12_corner_14 (by decide) ?_
  refine lv_irem hx hb dX12_corner_15 (by decide) ?_
  obtain ⟨x4, ex4, hF⟩ := nm_1 hF
  refine x_top ex4 ?_
  refine lv_if_ne (tgt := 24) hx hb dX12_corner_16 (by decide) (fun c_5 => ?_) (fun c_5 => ?_) -- COND 5 rcases (Decidable.em (x4 = 0)).symm with c_5 | c_5
  · have hF := ite_f hF c_5
    refine lv_iload_n hx hb dX12_corner_24 rfl (lv_at hl 1 rfl) ?_
    refine lv_iadd hx hb dX12_corner_25 ?_
    obtain ⟨x6, ex6, hF⟩ := nm_1 hF
    refine x_top ex6 ?_
    obtain rfl := ret_1 hF
    subst hσ0
    subst hρ0
    exact x_iret rfl C hP hS dX12_corner_26
  · have hF := ite_t hF c_5
    refine lv_iload_n hx hb dX12_corner_19 rfl (lv_at hl 1 rfl) ?_
    refine lv_ineg hx hb dX12_corner_20 ?_
    obtain ⟨x7, ex7, hF⟩ := nm_1 hF
    refine x_top ex7 ?_
    refine lv_goto (tgt := 25) hx hb dX12_corner_21 (by decide) ?_
    refine lv_iadd hx hb dX12_corner_25 ?_
    obtain ⟨x8, ex8, hF⟩ := nm_1 hF
    refine x_top ex8 ?_
    obtain rfl := ret_1 hF
    subst hσ0
    subst hρ0
    exact x_iret rfl C hP hS dX12_corner_26
set_option maxHeartbeats 4000000 in
set_option maxRecDepth 100000 in
theorem w_X12_corner_0 {a1 : Int32} {a2 : Int32} {a3 : Int32} {a4 : Int32} {p : Program} {e : Env} {s : State} {m : MethodId} {args : Array Value} {below : List Frame} {meth : Method} {c : Code} {σ0 : SG} {ρ0 : RG} {r : Int32} (C : Cx Y D N ad p s m args meth c cX12_corner 4 (some .int) RX12 wsL_law) {σ : SG} {ρ : RG} {H : Heap} {locs : List Loc} {ls : Array Slot} (hσ0 : σ = σ0) (hρ0 : ρ = ρ0) (hL : Lay N K len ρ) (hF : F_X12_corner a1 a2 a3 a4 σ ρ = some r) (hP : WP Y D N ad K len σ ρ H) (hS : va_S (AA N ad s.heap.size) s.heap H locs) (hl : lv_has ls 4 [(0, .int a1), (1, .int a2), (2, .int a3), (3, .int a4)]) : W p l e rm_X12_corner s m args below meth c H locs 0 0 (MQ below (QW Y D N ad K len σ0 ρ0 (AA N ad s.heap.size) (some (.int r))) args s 0 0 (AA N ad s.heap.size)) (F0 m 0 ls []) := by
  have hx := C.1.1
  have hb := C.1.2.1
  unfold F_X12_corner at hF
  refine lv_iload_n hx hb dX12_corner_0 rfl (lv_at hl 1 rfl) ?_
  refine lv_iload_n hx hb dX12_corner_1 rfl (lv_at hl 0 rfl) ?_
  refine lv_iconst (v := 2) hx hb dX12_corner_2 (by decide) ?_
  refine lv_icmp_ge (tgt := 10) hx hb dX12_corner_3 (by decide) (fun c_1 => ?_) (fun c_1 => ?_) -- COND 1 by_cases c_1 : (2 : Int32) ≤ a1
  · have hF := ite_t hF c_1
    refine lv_iload_n hx hb dX12_corner_10 rfl (lv_at hl 2 rfl) ?_
    refine lv_ineg hx hb dX12_corner_11 ?_
    obtain ⟨x2, ex2, hF⟩ := nm_1 hF
    refine x_top ex2 ?_
    exact w_X12_corner_12 C hσ0 hρ0 hL hF hP hS (lv_sub hl [0, 3] rfl)
  · have hF := ite_f hF c_1
    refine lv_iload_n hx hb dX12_corner_6 rfl (lv_at hl 2 rfl) ?_
    refine lv_goto (tgt := 12) hx hb dX12_corner_7 (by decide) ?_
    exact w_X12_corner_12 C hσ0 hρ0 hL hF hP hS (lv_sub hl [0, 3] rfl)
set_option maxHeartbeats 4000000 in
set_option maxRecDepth 100000 in
theorem c_X12_corner {a1 : Int32} {a2 : Int32} {a3 : Int32} {a4 : Int32} {r : Int32} {σ : SG} {ρ : RG} (hL : Lay N K len ρ) (hF : F_X12_corner a1 a2 a3 a4 σ ρ = some r) : MT l Y D N ad K len yX12_corner (Cond.code yX12_corner cX12_corner 4 (some .int) :: wsL_law) rm_X12_corner [.int a1, .int a2, .int a3, .int a4] σ ρ (some (.int r)) σ ρ := by
  refine mt_of (cc := cX12_corner) (nL := 4) (ret := (some .int)) (by decide) (Nat.le_of_ble_eq_true rfl) ?_
  intro p e s m args below meth c ls C hnm hP hS hl
  exact w_X12_corner_0 C rfl rfl hL hF hP hS hl

/-! CutCrookedModel.private int leastCorner();  -/
theorem dX12_leastCorner_0 : decode cX12_leastCorner 0 = .ok (.aload_n 0, 1) := by decide +kernel
theorem dX12_leastCorner_1 : decode cX12_leastCorner 1 = .ok (.getfield 9, 3) := by decide +kernel
theorem dX12_leastCorner_4 : decode cX12_leastCorner 4 = .ok (.iconst 0, 1) := by decide +kernel
theorem dX12_leastCorner_5 : decode cX12_leastCorner 5 = .ok (.iaload, 1) := by decide +kernel
theorem dX12_leastCorner_6 : decode cX12_leastCorner 6 = .ok (.aload_n 0, 1) := by decide +kernel
theorem dX12_leastCorner_7 : decode cX12_leastCorner 7 = .ok (.getfield 9, 3) := by decide +kernel
theorem dX12_leastCorner_10 : decode cX12_leastCorner 10 = .ok (.iconst 1, 1) := by decide +kernel
theorem dX12_leastCorner_11 : decode cX12_leastCorner 11 = .ok (.iaload, 1) := by decide +kernel
theorem dX12_leastCorner_12 : decode cX12_leastCorner 12 = .ok (.invokestatic 129, 3) := by decide +kernel
theorem dX12_leastCorner_15 : decode cX12_leastCorner 15 = .ok (.isub, 1) := by decide +kernel
theorem dX12_leastCorner_16 : decode cX12_leastCorner 16 = .ok (.aload_n 0, 1) := by decide +kernel
theorem dX12_leastCorner_17 : decode cX12_leastCorner 17 = .ok (.getfield 9, 3) := by decide +kernel
theorem dX12_leastCorner_20 : decode cX12_leastCorner 20 = .ok (.iconst 2, 1) := by decide +kernel
theorem dX12_leastCorner_21 : decode cX12_leastCorner 21 = .ok (.iaload, 1) := by decide +kernel
theorem dX12_leastCorner_22 : decode cX12_leastCorner 22 = .ok (.invokestatic 129, 3) := by decide +kernel
theorem dX12_leastCorner_25 : decode cX12_leastCorner 25 = .ok (.isub, 1) := by decide +kernel
theorem dX12_leastCorner_26 : decode cX12_leastCorner 26 = .ok (.ireturn, 1) := by decide +kernel
theorem hd_X12_leastCorner : yX12_leastCorner.cls = RX12 ∧ yX12_leastCorner.cls ≠ "java/lang/invoke/MethodHandle" ∧ yX12_leastCorner.cls ≠ "java/lang/invoke/VarHandle" ∧ (parseMethodDescriptor yX12_leastCorner.desc).map (fun d => d.parameters.length) = some 0 := by decide +kernel
abbrev rm_X12_leastCorner : Room := { frames := 1, cells := 0, slots := 0, locals := 20 }
def F_X12_leastCorner  (σ : SG) (ρ : RG) : Option (Int32) :=
  bn (F_X12_size (σ 55 1) σ ρ) fun r1 =>
  nm ((σ 55 0) - r1) fun x2 =>
  bn (F_X12_size (σ 55 2) σ ρ) fun r3 =>
  nm (x2 - r3) fun x4 =>
  some x4
set_option maxHeartbeats 4000000 in
set_option maxRecDepth 100000 in
theorem w_X12_leastCorner_0  {p : Program} {e : Env} {s : State} {m : MethodId} {args : Array Value} {below : List Frame} {meth : Method} {c : Code} {σ0 : SG} {ρ0 : RG} {r : Int32} (C : Cx Y D N ad p s m args meth c cX12_leastCorner 1 (some .int) RX12 wsL_law) {σ : SG} {ρ : RG} {H : Heap} {locs : List Loc} {ls : Array Slot} (hσ0 : σ = σ0) (hρ0 : ρ = ρ0) (hL : Lay N K len ρ) (hF : F_X12_leastCorner σ ρ = some r) (hP : WP Y D N ad K len σ ρ H) (hS : va_S (AA N ad s.heap.size) s.heap H locs) (hl : lv_has ls 1 [(0, .ref (ad 54))]) : W p l e rm_X12_leastCorner s m args below meth c H locs 0 0 (MQ below (QW Y D N ad K len σ0 ρ0 (AA N ad s.heap.size) (some (.int r))) args s 0 0 (AA N ad s.heap.size)) (F0 m 0 ls []) := by
  have hx := C.1.1
  have hb := C.1.2.1
  unfold F_X12_leastCorner at hF
  refine lv_aload_n hx hb dX12_leastCorner_0 rfl (lv_at hl 0 rfl) ?_
  refine get_12_1 C hP (lr_54 hL) (lk_54 hL) inlX12 mw_81 (lf_54_1 hL) dX12_leastCorner_1 ?_
  refine lv_iconst (v := 0) hx hb dX12_leastCorner_4 (by decide) ?_
  refine x_iald C hP (lr_55 hL) (lk_55 hL) (ln_55 hL) (by decide +kernel) dX12_leastCorner_5 ?_
  rw [cl_0]
  refine lv_aload_n hx hb dX12_leastCorner_6 rfl (lv_at hl 0 rfl) ?_
  refine get_12_1 C hP (lr_54 hL) (lk_54 hL) inlX12 mw_81 (lf_54_1 hL) dX12_leastCorner_7 ?_
  refine lv_iconst (v := 1) hx hb dX12_leastCorner_10 (by decide) ?_
  refine x_iald C hP (lr_55 hL) (lk_55 hL) (ln_55 hL) (by decide +kernel) dX12_leastCorner_11 ?_
  rw [cl_1]
  obtain ⟨r1, hq1, hF⟩ := bn_1 hF
  refine x_callS C hP hS (c_X12_size hL hq1) (va_cwS 1 C.1.2.2.2.2 (gdS mw_666 mw_667 mw_5 mw_668) rfl rfl rfl hd_X12_size.2 ⟨Nat.le_of_ble_eq_true rfl, Nat.le_of_ble_eq_true rfl⟩) rfl rfl hl.1 (Nat.le_of_ble_eq_true rfl) ⟨Nat.zero_le _, Nat.zero_le _⟩ dX12_leastCorner_12 (fun H locs hP hS => ?_)
  refine lv_isub hx hb dX12_leastCorner_15 ?_
  obtain ⟨x2, ex2, hF⟩ := nm_1 hF
  refine x_top ex2 ?_
  refine lv_aload_n hx hb dX12_leastCorner_16 rfl (lv_at hl 0 rfl) ?_
  refine get_12_1 C hP (lr_54 hL) (lk_54 hL) inlX12 mw_81 (lf_54_1 hL) dX12_leastCorner_17 ?_
  refine lv_iconst (v := 2) hx hb dX12_leastCorner_20 (by decide) ?_
  refine x_iald C hP (lr_55 hL) (lk_55 hL) (ln_55 hL) (by decide +kernel) dX12_leastCorner_21 ?_
  rw [cl_2]
  obtain ⟨r3, hq3, hF⟩ := bn_1 hF
  refine x_callS C hP hS (c_X12_size hL hq3) (va_cwS 1 C.1.2.2.2.2 (gdS mw_666 mw_667 mw_5 mw_668) rfl rfl rfl hd_X12_size.2 ⟨Nat.le_of_ble_eq_true rfl, Nat.le_of_ble_eq_true rfl⟩) rfl rfl hl.1 (Nat.le_of_ble_eq_true rfl) ⟨Nat.zero_le _, Nat.zero_le _⟩ dX12_leastCorner_22 (fun H locs hP hS => ?_)
  refine lv_isub hx hb dX12_leastCorner_25 ?_
  obtain ⟨x4, ex4, hF⟩ := nm_1 hF
  refine x_top ex4 ?_
  obtain rfl := ret_1 hF
  subst hσ0
  subst hρ0
  exact x_iret rfl C hP hS dX12_leastCorner_26
set_option maxHeartbeats 4000000 in
set_option maxRecDepth 100000 in
theorem c_X12_leastCorner  {r : Int32} {σ : SG} {ρ : RG} (hL : Lay N K len ρ) (hF : F_X12_leastCorner σ ρ = some r) : MT l Y D N ad K len yX12_leastCorner (Cond.code yX12_leastCorner cX12_leastCorner 1 (some .int) :: wsL_law) rm_X12_leastCorner [.ref (ad 54)] σ ρ (some (.int r)) σ ρ := by
  refine mt_of (cc := cX12_leastCorner) (nL := 1) (ret := (some .int)) (by decide) (Nat.le_of_ble_eq_true rfl) ?_
  intro p e s m args below meth c ls C hnm hP hS hl
  exact w_X12_leastCorner_0 C rfl rfl hL hF hP hS hl

/-! CutCrookedModel.public int told(int);  -/
theorem dX12_told_0 : decode cX12_told 0 = .ok (.iload_n 1, 1) := by decide +kernel
theorem dX12_told_1 : decode cX12_told 1 = .ok (.bipush 10, 2) := by decide +kernel
theorem dX12_told_3 : decode cX12_told 3 = .ok (.bipush 13, 2) := by decide +kernel
theorem dX12_told_5 : decode cX12_told 5 = .ok (.invokestatic 47, 3) := by decide +kernel
theorem dX12_told_8 : decode cX12_told 8 = .ok (.ifCond .eq 29, 3) := by decide +kernel
theorem dX12_told_11 : decode cX12_told 11 = .ok (.iload_n 1, 1) := by decide +kernel
theorem dX12_told_12 : decode cX12_told 12 = .ok (.bipush 10, 2) := by decide +kernel
theorem dX12_told_14 : decode cX12_told 14 = .ok (.isub, 1) := by decide +kernel
theorem dX12_told_15 : decode cX12_told 15 = .ok (.aload_n 0, 1) := by decide +kernel
theorem dX12_told_16 : decode cX12_told 16 = .ok (.getfield 9, 3) := by decide +kernel
theorem dX12_told_19 : decode cX12_told 19 = .ok (.iconst 0, 1) := by decide +kernel
theorem dX12_told_20 : decode cX12_told 20 = .ok (.iaload, 1) := by decide +kernel
theorem dX12_told_21 : decode cX12_told 21 = .ok (.aload_n 0, 1) := by decide +kernel
theorem dX12_told_22 : decode cX12_told 22 = .ok (.getfield 9, 3) := by decide +kernel
theorem dX12_told_25 : decode cX12_told 25 = .ok (.iconst 1, 1) := by decide +kernel
theorem dX12_told_26 : decode cX12_told 26 = .ok (.iaload, 1) := by decide +kernel
theorem dX12_told_27 : decode cX12_told 27 = .ok (.aload_n 0, 1) := by decide +kernel
theorem dX12_told_28 : decode cX12_told 28 = .ok (.getfield 9, 3) := by decide +kernel
theorem dX12_told_31 : decode cX12_told 31 = .ok (.iconst 2, 1) := by decide +kernel
theorem dX12_told_32 : decode cX12_told 32 = .ok (.iaload, 1) := by decide +kernel
theorem dX12_told_33 : decode cX12_told 33 = .ok (.invokestatic 147, 3) := by decide +kernel
theorem dX12_told_36 : decode cX12_told 36 = .ok (.ireturn, 1) := by decide +kernel
theorem dX12_told_37 : decode cX12_told 37 = .ok (.iload_n 1, 1) := by decide +kernel
theorem dX12_told_38 : decode cX12_told 38 = .ok (.tableswitch 108 0 7 #[46, 54, 61, 68, 75, 82, 89, 98], 46) := by decide +kernel
theorem dX12_told_84 : decode cX12_told 84 = .ok (.aload_n 0, 1) := by decide +kernel
theorem dX12_told_85 : decode cX12_told 85 = .ok (.getfield 9, 3) := by decide +kernel
theorem dX12_told_88 : decode cX12_told 88 = .ok (.bipush 17, 2) := by decide +kernel
theorem dX12_told_90 : decode cX12_told 90 = .ok (.iaload, 1) := by decide +kernel
theorem dX12_told_91 : decode cX12_told 91 = .ok (.ireturn, 1) := by decide +kernel
theorem dX12_told_92 : decode cX12_told 92 = .ok (.aload_n 0, 1) := by decide +kernel
theorem dX12_told_93 : decode cX12_told 93 = .ok (.getfield 9, 3) := by decide +kernel
theorem dX12_told_96 : decode cX12_told 96 = .ok (.iconst 0, 1) := by decide +kernel
theorem dX12_told_97 : decode cX12_told 97 = .ok (.iaload, 1) := by decide +kernel
theorem dX12_told_98 : decode cX12_told 98 = .ok (.ireturn, 1) := by decide +kernel
theorem dX12_told_99 : decode cX12_told 99 = .ok (.aload_n 0, 1) := by decide +kernel
theorem dX12_told_100 : decode cX12_told 100 = .ok (.getfield 9, 3) := by decide +kernel
theorem dX12_told_103 : decode cX12_told 103 = .ok (.iconst 1, 1) := by decide +kernel
theorem dX12_told_104 : decode cX12_told 104 = .ok (.iaload, 1) := by decide +kernel
theorem dX12_told_105 : decode cX12_told 105 = .ok (.ireturn, 1) := by decide +kernel
theorem dX12_told_106 : decode cX12_told 106 = .ok (.aload_n 0, 1) := by decide +kernel
theorem dX12_told_107 : decode cX12_told 107 = .ok (.getfield 9, 3) := by decide +kernel
theorem dX12_told_110 : decode cX12_told 110 = .ok (.iconst 2, 1) := by decide +kernel
theorem dX12_told_111 : decode cX12_told 111 = .ok (.iaload, 1) := by decide +kernel
theorem dX12_told_112 : decode cX12_told 112 = .ok (.ireturn, 1) := by decide +kernel
theorem dX12_told_113 : decode cX12_told 113 = .ok (.aload_n 0, 1) := by decide +kernel
theorem dX12_told_114 : decode cX12_told 114 = .ok (.getfield 9, 3) := by decide +kernel
theorem dX12_told_117 : decode cX12_told 117 = .ok (.iconst 3, 1) := by decide +kernel
theorem dX12_told_118 : decode cX12_told 118 = .ok (.iaload, 1) := by decide +kernel
theorem dX12_told_119 : decode cX12_told 119 = .ok (.ireturn, 1) := by decide +kernel
theorem dX12_told_120 : decode cX12_told 120 = .ok (.aload_n 0, 1) := by decide +kernel
theorem dX12_told_121 : decode cX12_told 121 = .ok (.getfield 9, 3) := by decide +kernel
theorem dX12_told_124 : decode cX12_told 124 = .ok (.iconst 4, 1) := by decide +kernel
theorem dX12_told_125 : decode cX12_told 125 = .ok (.iaload, 1) := by decide +kernel
theorem dX12_told_126 : decode cX12_told 126 = .ok (.ireturn, 1) := by decide +kernel
theorem dX12_told_127 : decode cX12_told 127 = .ok (.aload_n 0, 1) := by decide +kernel
theorem dX12_told_128 : decode cX12_told 128 = .ok (.sipush 194, 3) := by decide +kernel
theorem dX12_told_131 : decode cX12_told 131 = .ok (.iconst 3, 1) := by decide +kernel
theorem dX12_told_132 : decode cX12_told 132 = .ok (.invokevirtual 139, 3) := by decide +kernel
theorem dX12_told_135 : decode cX12_told 135 = .ok (.ireturn, 1) := by decide +kernel
theorem dX12_told_136 : decode cX12_told 136 = .ok (.aload_n 0, 1) := by decide +kernel
theorem dX12_told_137 : decode cX12_told 137 = .ok (.sipush 199, 3) := by decide +kernel
theorem dX12_told_140 : decode cX12_told 140 = .ok (.bipush 10, 2) := by decide +kernel
theorem dX12_told_142 : decode cX12_told 142 = .ok (.invokevirtual 139, 3) := by decide +kernel
theorem dX12_told_145 : decode cX12_told 145 = .ok (.ireturn, 1) := by decide +kernel
theorem dX12_told_146 : decode cX12_told 146 = .ok (.sipush (-10001), 3) := by decide +kernel
theorem dX12_told_149 : decode cX12_told 149 = .ok (.ireturn, 1) := by decide +kernel
theorem hd_X12_told : yX12_told.cls = RX12 ∧ yX12_told.cls ≠ "java/lang/invoke/MethodHandle" ∧ yX12_told.cls ≠ "java/lang/invoke/VarHandle" ∧ (parseMethodDescriptor yX12_told.desc).map (fun d => d.parameters.length) = some 1 := by decide +kernel
abbrev rm_X12_told : Room := { frames := 1, cells := 0, slots := 0, locals := 23 }
def F_X12_told (a1 : Int32) (σ : SG) (ρ : RG) : Option (Int32) :=
  bn (F_X12_in a1 (10 : Int32) (13 : Int32) σ ρ) fun r1 =>
  if r1 = 0 then
    if a1 = 0 then
      some (σ 55 17)
    else
      if a1 = 1 then
        some (σ 55 0)
      else
        if a1 = 2 then
          some (σ 55 1)
        else
          if a1 = 3 then
            some (σ 55 2)
          else
            if a1 = 4 then
              some (σ 55 3)
            else
              if a1 = 5 then
                some (σ 55 4)
              else
                if a1 = 6 then
                  bn (F_X12_tellsOf (194 : Int32) (3 : Int32) σ ρ) fun r4 =>
                  some r4
                else
                  if a1 = 7 then
                    bn (F_X12_tellsOf (199 : Int32) (10 : Int32) σ ρ) fun r5 =>
                    some r5
                  else
                    some (-10001 : Int32)
  else
    nm (a1 - (10 : Int32)) fun x6 =>
    bn (F_X12_corner x6 (σ 55 0) (σ 55 1) (σ 55 2) σ ρ) fun r7 =>
    some r7
set_option maxHeartbeats 4000000 in
set_option maxRecDepth 100000 in
theorem w_X12_told_0 {a1 : Int32} {p : Program} {e : Env} {s : State} {m : MethodId} {args : Array Value} {below : List Frame} {meth : Method} {c : Code} {σ0 : SG} {ρ0 : RG} {r : Int32} (C : Cx Y D N ad p s m args meth c cX12_told 2 (some .int) RX12 wsL_law) {σ : SG} {ρ : RG} {H : Heap} {locs : List Loc} {ls : Array Slot} (hσ0 : σ = σ0) (hρ0 : ρ = ρ0) (hL : Lay N K len ρ) (hF : F_X12_told a1 σ ρ = some r) (hP : WP Y D N ad K len σ ρ H) (hS : va_S (AA N ad s.heap.size) s.heap H locs) (hl : lv_has ls 2 [(0, .ref (ad 54)), (1, .int a1)]) : W p l e rm_X12_told s m args below meth c H locs 0 0 (MQ below (QW Y D N ad K len σ0 ρ0 (AA N ad s.heap.size) (some (.int r))) args s 0 0 (AA N ad s.heap.size)) (F0 m 0 ls []) := by
  have hx := C.1.1
  have hb := C.1.2.1
  unfold F_X12_told at hF
  refine lv_iload_n hx hb dX12_told_0 rfl (lv_at hl 1 rfl) ?_
  refine lv_bipush (v := 10) hx hb dX12_told_1 (by decide +kernel) ?_
  refine lv_bipush (v := 13) hx hb dX12_told_3 (by decide +kernel) ?_
  obtain ⟨r1, hq1, hF⟩ := bn_1 hF
  refine x_callS C hP hS (c_X12_in hL hq1) (va_cwS 3 C.1.2.2.2.2 (gdS mw_104 mw_105 mw_5 mw_106) rfl rfl rfl hd_X12_in.2 ⟨Nat.le_of_ble_eq_true rfl, Nat.le_of_ble_eq_true rfl⟩) rfl rfl hl.1 (Nat.le_of_ble_eq_true rfl) ⟨Nat.zero_le _, Nat.zero_le _⟩ dX12_told_5 (fun H locs hP hS => ?_)
  refine lv_if_eq (tgt := 37) hx hb dX12_told_8 (by decide) (fun c_2 => ?_) (fun c_2 => ?_) -- COND 2 by_cases c_2 : r1 = 0
  · have hF := ite_t hF c_2
    refine lv_iload_n hx hb dX12_told_37 rfl (lv_at hl 1 rfl) ?_
    by_cases cs3_0 : a1 = 0
    · have hF := ite_t hF cs3_0
      refine lv_tableIn (tgt := 84) hx hb dX12_told_38 (by rw [cs3_0]; decide) (by rw [cs3_0]; decide) (by rw [cs3_0]; rfl) (by decide) ?_
      refine lv_aload_n hx hb dX12_told_84 rfl (lv_at hl 0 rfl) ?_
      refine get_12_1 C hP (lr_54 hL) (lk_54 hL) inlX12 mw_81 (lf_54_1 hL) dX12_told_85 ?_
      refine lv_bipush (v := 17) hx hb dX12_told_88 (by decide +kernel) ?_
      refine x_iald C hP (lr_55 hL) (lk_55 hL) (ln_55 hL) (by decide +kernel) dX12_told_90 ?_
      rw [cl_17]
      obtain rfl := ret_1 hF
      subst hσ0
      subst hρ0
      exact x_iret rfl C hP hS dX12_told_91
    · have hF := ite_f hF cs3_0
      by_cases cs3_1 : a1 = 1
      · have hF := ite_t hF cs3_1
        refine lv_tableIn (tgt := 92) hx hb dX12_told_38 (by rw [cs3_1]; decide) (by rw [cs3_1]; decide) (by rw [cs3_1]; rfl) (by decide) ?_
        refine lv_aload_n hx hb dX12_told_92 rfl (lv_at hl 0 rfl) ?_
        refine get_12_1 C hP (lr_54 hL) (lk_54 hL) inlX12 mw_81 (lf_54_1 hL) dX12_told_93 ?_
        refine lv_iconst (v := 0) hx hb dX12_told_96 (by decide) ?_
        refine x_iald C hP (lr_55 hL) (lk_55 hL) (ln_55 hL) (by decide +kernel) dX12_told_97 ?_
        rw [cl_0]
        obtain rfl := ret_1 hF
        subst hσ0
        subst hρ0
        exact x_iret rfl C hP hS dX12_told_98
      · have hF := ite_f hF cs3_1
        by_cases cs3_2 : a1 = 2
        · have hF := ite_t hF cs3_2
          refine lv_tableIn (tgt := 99) hx hb dX12_told_38 (by rw [cs3_2]; decide) (by rw [cs3_2]; decide) (by rw [cs3_2]; rfl) (by decide) ?_
          refine lv_aload_n hx hb dX12_told_99 rfl (lv_at hl 0 rfl) ?_
          refine get_12_1 C hP (lr_54 hL) (lk_54 hL) inlX12 mw_81 (lf_54_1 hL) dX12_told_100 ?_
          refine lv_iconst (v := 1) hx hb dX12_told_103 (by decide) ?_
          refine x_iald C hP (lr_55 hL) (lk_55 hL) (ln_55 hL) (by decide +kernel) dX12_told_104 ?_
          rw [cl_1]
          obtain rfl := ret_1 hF
          subst hσ0
          subst hρ0
          exact x_iret rfl C hP hS dX12_told_105
        · have hF := ite_f hF cs3_2
          by_cases cs3_3 : a1 = 3
          · have hF := ite_t hF cs3_3
            refine lv_tableIn (tgt := 106) hx hb dX12_told_38 (by rw [cs3_3]; decide) (by rw [cs3_3]; decide) (by rw [cs3_3]; rfl) (by decide) ?_
            refine lv_aload_n hx hb dX12_told_106 rfl (lv_at hl 0 rfl) ?_
            refine get_12_1 C hP (lr_54 hL) (lk_54 hL) inlX12 mw_81 (lf_54_1 hL) dX12_told_107 ?_
            refine lv_iconst (v := 2) hx hb dX12_told_110 (by decide) ?_
            refine x_iald C hP (lr_55 hL) (lk_55 hL) (ln_55 hL) (by decide +kernel) dX12_told_111 ?_
            rw [cl_2]
            obtain rfl := ret_1 hF
            subst hσ0
            subst hρ0
            exact x_iret rfl C hP hS dX12_told_112
          · have hF := ite_f hF cs3_3
            by_cases cs3_4 : a1 = 4
            · have hF := ite_t hF cs3_4
              refine lv_tableIn (tgt := 113) hx hb dX12_told_38 (by rw [cs3_4]; decide) (by rw [cs3_4]; decide) (by rw [cs3_4]; rfl) (by decide) ?_
              refine lv_aload_n hx hb dX12_told_113 rfl (lv_at hl 0 rfl) ?_
              refine get_12_1 C hP (lr_54 hL) (lk_54 hL) inlX12 mw_81 (lf_54_1 hL) dX12_told_114 ?_
              refine lv_iconst (v := 3) hx hb dX12_told_117 (by decide) ?_
              refine x_iald C hP (lr_55 hL) (lk_55 hL) (ln_55 hL) (by decide +kernel) dX12_told_118 ?_
              rw [cl_3]
              obtain rfl := ret_1 hF
              subst hσ0
              subst hρ0
              exact x_iret rfl C hP hS dX12_told_119
            · have hF := ite_f hF cs3_4
              by_cases cs3_5 : a1 = 5
              · have hF := ite_t hF cs3_5
                refine lv_tableIn (tgt := 120) hx hb dX12_told_38 (by rw [cs3_5]; decide) (by rw [cs3_5]; decide) (by rw [cs3_5]; rfl) (by decide) ?_
                refine lv_aload_n hx hb dX12_told_120 rfl (lv_at hl 0 rfl) ?_
                refine get_12_1 C hP (lr_54 hL) (lk_54 hL) inlX12 mw_81 (lf_54_1 hL) dX12_told_121 ?_
                refine lv_iconst (v := 4) hx hb dX12_told_124 (by decide) ?_
                refine x_iald C hP (lr_55 hL) (lk_55 hL) (ln_55 hL) (by decide +kernel) dX12_told_125 ?_
                rw [cl_4]
                obtain rfl := ret_1 hF
                subst hσ0
                subst hρ0
                exact x_iret rfl C hP hS dX12_told_126
              · have hF := ite_f hF cs3_5
                by_cases cs3_6 : a1 = 6
                · have hF := ite_t hF cs3_6
                  refine lv_tableIn (tgt := 127) hx hb dX12_told_38 (by rw [cs3_6]; decide) (by rw [cs3_6]; decide) (by rw [cs3_6]; rfl) (by decide) ?_
                  refine lv_aload_n hx hb dX12_told_127 rfl (lv_at hl 0 rfl) ?_
                  refine lv_sipush (v := 194) hx hb dX12_told_128 (by decide +kernel) ?_
                  refine lv_iconst (v := 3) hx hb dX12_told_131 (by decide) ?_
                  obtain ⟨r4, hq4, hF⟩ := bn_1 hF
                  refine x_callV (ci := 12) rfl rfl C hP hS (c_X12_tellsOf hL hq4) (lr_54 hL) (lk_54 hL) (cwV 2 C.1.2.2.2.2 (gdV mw_520 mw_521 mw_522 mw_5 mw_523) rfl rfl rfl hd_X12_tellsOf ⟨Nat.le_of_ble_eq_true rfl, Nat.le_of_ble_eq_true rfl⟩) rfl rfl hl.1 (Nat.le_of_ble_eq_true rfl) ⟨Nat.zero_le _, Nat.zero_le _⟩ dX12_told_132 (fun H locs hP hS => ?_)
                  obtain rfl := ret_1 hF
                  subst hσ0
                  subst hρ0
                  exact x_iret rfl C hP hS dX12_told_135
                · have hF := ite_f hF cs3_6
                  by_cases cs3_7 : a1 = 7
                  · have hF := ite_t hF cs3_7
                    refine lv_tableIn (tgt := 136) hx hb dX12_told_38 (by rw [cs3_7]; decide) (by rw [cs3_7]; decide) (by rw [cs3_7]; rfl) (by decide) ?_
                    refine lv_aload_n hx hb dX12_told_136 rfl (lv_at hl 0 rfl) ?_
                    refine lv_sipush (v := 199) hx hb dX12_told_137 (by decide +kernel) ?_
                    refine lv_bipush (v := 10) hx hb dX12_told_140 (by decide +kernel) ?_
                    obtain ⟨r5, hq5, hF⟩ := bn_1 hF
                    refine x_callV (ci := 12) rfl rfl C hP hS (c_X12_tellsOf hL hq5) (lr_54 hL) (lk_54 hL) (cwV 2 C.1.2.2.2.2 (gdV mw_520 mw_521 mw_522 mw_5 mw_523) rfl rfl rfl hd_X12_tellsOf ⟨Nat.le_of_ble_eq_true rfl, Nat.le_of_ble_eq_true rfl⟩) rfl rfl hl.1 (Nat.le_of_ble_eq_true rfl) ⟨Nat.zero_le _, Nat.zero_le _⟩ dX12_told_142 (fun H locs hP hS => ?_)
                    obtain rfl := ret_1 hF
                    subst hσ0
                    subst hρ0
                    exact x_iret rfl C hP hS dX12_told_145
                  · have hF := ite_f hF cs3_7
                    refine lv_tableOut (tgt := 146) hx hb dX12_told_38 (by have q0 := ne_ti cs3_0 (by decide : (0 : Int32).toInt = 0); have q1 := ne_ti cs3_1 (by decide : (1 : Int32).toInt = 1); have q2 := ne_ti cs3_2 (by decide : (2 : Int32).toInt = 2); have q3 := ne_ti cs3_3 (by decide : (3 : Int32).toInt = 3); have q4 := ne_ti cs3_4 (by decide : (4 : Int32).toInt = 4); have q5 := ne_ti cs3_5 (by decide : (5 : Int32).toInt = 5); have q6 := ne_ti cs3_6 (by decide : (6 : Int32).toInt = 6); have q7 := ne_ti cs3_7 (by decide : (7 : Int32).toInt = 7); omega) (by decide) ?_
                    refine lv_sipush (v := -10001) hx hb dX12_told_146 (by decide +kernel) ?_
                    obtain rfl := ret_1 hF
                    subst hσ0
                    subst hρ0
                    exact x_iret rfl C hP hS dX12_told_149
  · have hF := ite_f hF c_2
    refine lv_iload_n hx hb dX12_told_11 rfl (lv_at hl 1 rfl) ?_
    refine lv_bipush (v := 10) hx hb dX12_told_12 (by decide +kernel) ?_
    refine lv_isub hx hb dX12_told_14 ?_
    obtain ⟨x6, ex6, hF⟩ := nm_1 hF
    refine x_top ex6 ?_
    refine lv_aload_n hx hb dX12_told_15 rfl (lv_at hl 0 rfl) ?_
    refine get_12_1 C hP (lr_54 hL) (lk_54 hL) inlX12 mw_81 (lf_54_1 hL) dX12_told_16 ?_
    refine lv_iconst (v := 0) hx hb dX12_told_19 (by decide) ?_
    refine x_iald C hP (lr_55 hL) (lk_55 hL) (ln_55 hL) (by decide +kernel) dX12_told_20 ?_
    rw [cl_0]
    refine lv_aload_n hx hb dX12_told_21 rfl (lv_at hl 0 rfl) ?_
    refine get_12_1 C hP (lr_54 hL) (lk_54 hL) inlX12 mw_81 (lf_54_1 hL) dX12_told_22 ?_
    refine lv_iconst (v := 1) hx hb dX12_told_25 (by decide) ?_
    refine x_iald C hP (lr_55 hL) (lk_55 hL) (ln_55 hL) (by decide +kernel) dX12_told_26 ?_
    rw [cl_1]
    refine lv_aload_n hx hb dX12_told_27 rfl (lv_at hl 0 rfl) ?_
    refine get_12_1 C hP (lr_54 hL) (lk_54 hL) inlX12 mw_81 (lf_54_1 hL) dX12_told_28 ?_
    refine lv_iconst (v := 2) hx hb dX12_told_31 (by decide) ?_
    refine x_iald C hP (lr_55 hL) (lk_55 hL) (ln_55 hL) (by decide +kernel) dX12_told_32 ?_
    rw [cl_2]
    obtain ⟨r7, hq7, hF⟩ := bn_1 hF
    refine x_callS C hP hS (c_X12_corner hL hq7) (va_cwS 4 C.1.2.2.2.2 (gdS mw_517 mw_518 mw_5 mw_519) rfl rfl rfl hd_X12_corner.2 ⟨Nat.le_of_ble_eq_true rfl, Nat.le_of_ble_eq_true rfl⟩) rfl rfl hl.1 (Nat.le_of_ble_eq_true rfl) ⟨Nat.zero_le _, Nat.zero_le _⟩ dX12_told_33 (fun H locs hP hS => ?_)
    obtain rfl := ret_1 hF
    subst hσ0
    subst hρ0
    exact x_iret rfl C hP hS dX12_told_36
set_option maxHeartbeats 4000000 in
set_option maxRecDepth 100000 in
theorem c_X12_told {a1 : Int32} {r : Int32} {σ : SG} {ρ : RG} (hL : Lay N K len ρ) (hF : F_X12_told a1 σ ρ = some r) : MT l Y D N ad K len yX12_told (Cond.code yX12_told cX12_told 2 (some .int) :: wsL_law) rm_X12_told [.ref (ad 54), .int a1] σ ρ (some (.int r)) σ ρ := by
  refine mt_of (cc := cX12_told) (nL := 2) (ret := (some .int)) (by decide) (Nat.le_of_ble_eq_true rfl) ?_
  intro p e s m args below meth c ls C hnm hP hS hl
  exact w_X12_told_0 C rfl rfl hL hF hP hS hl

/-! CutCrookedModel.private void rights();  -/
theorem dX12_rights_0 : decode cX12_rights 0 = .ok (.aload_n 0, 1) := by decide +kernel
theorem dX12_rights_1 : decode cX12_rights 1 = .ok (.invokevirtual 151, 3) := by decide +kernel
theorem dX12_rights_4 : decode cX12_rights 4 = .ok (.istore_n 1, 1) := by decide +kernel
theorem dX12_rights_5 : decode cX12_rights 5 = .ok (.aload_n 0, 1) := by decide +kernel
theorem dX12_rights_6 : decode cX12_rights 6 = .ok (.getfield 9, 3) := by decide +kernel
theorem dX12_rights_9 : decode cX12_rights 9 = .ok (.iconst 4, 1) := by decide +kernel
theorem dX12_rights_10 : decode cX12_rights 10 = .ok (.dup2, 1) := by decide +kernel
theorem dX12_rights_11 : decode cX12_rights 11 = .ok (.iaload, 1) := by decide +kernel
theorem dX12_rights_12 : decode cX12_rights 12 = .ok (.iconst 4, 1) := by decide +kernel
theorem dX12_rights_13 : decode cX12_rights 13 = .ok (.aload_n 0, 1) := by decide +kernel
theorem dX12_rights_14 : decode cX12_rights 14 = .ok (.getfield 9, 3) := by decide +kernel
theorem dX12_rights_17 : decode cX12_rights 17 = .ok (.iconst 0, 1) := by decide +kernel
theorem dX12_rights_18 : decode cX12_rights 18 = .ok (.iaload, 1) := by decide +kernel
theorem dX12_rights_19 : decode cX12_rights 19 = .ok (.iload_n 1, 1) := by decide +kernel
theorem dX12_rights_20 : decode cX12_rights 20 = .ok (.isub, 1) := by decide +kernel
theorem dX12_rights_21 : decode cX12_rights 21 = .ok (.imul, 1) := by decide +kernel
theorem dX12_rights_22 : decode cX12_rights 22 = .ok (.iadd, 1) := by decide +kernel
theorem dX12_rights_23 : decode cX12_rights 23 = .ok (.iastore, 1) := by decide +kernel
theorem dX12_rights_24 : decode cX12_rights 24 = .ok (.aload_n 0, 1) := by decide +kernel
theorem dX12_rights_25 : decode cX12_rights 25 = .ok (.getfield 9, 3) := by decide +kernel
theorem dX12_rights_28 : decode cX12_rights 28 = .ok (.iconst 0, 1) := by decide +kernel
theorem dX12_rights_29 : decode cX12_rights 29 = .ok (.iload_n 1, 1) := by decide +kernel
theorem dX12_rights_30 : decode cX12_rights 30 = .ok (.iastore, 1) := by decide +kernel
theorem dX12_rights_31 : decode cX12_rights 31 = .ok (.aload_n 0, 1) := by decide +kernel
theorem dX12_rights_32 : decode cX12_rights 32 = .ok (.getfield 9, 3) := by decide +kernel
theorem dX12_rights_35 : decode cX12_rights 35 = .ok (.iconst 1, 1) := by decide +kernel
theorem dX12_rights_36 : decode cX12_rights 36 = .ok (.iconst 0, 1) := by decide +kernel
theorem dX12_rights_37 : decode cX12_rights 37 = .ok (.iastore, 1) := by decide +kernel
theorem dX12_rights_38 : decode cX12_rights 38 = .ok (.aload_n 0, 1) := by decide +kernel
theorem dX12_rights_39 : decode cX12_rights 39 = .ok (.getfield 9, 3) := by decide +kernel
theorem dX12_rights_42 : decode cX12_rights 42 = .ok (.iconst 2, 1) := by decide +kernel
theorem dX12_rights_43 : decode cX12_rights 43 = .ok (.iconst 0, 1) := by decide +kernel
theorem dX12_rights_44 : decode cX12_rights 44 = .ok (.iastore, 1) := by decide +kernel
theorem dX12_rights_45 : decode cX12_rights 45 = .ok (.return_, 1) := by decide +kernel
theorem hd_X12_rights : yX12_rights.cls = RX12 ∧ yX12_rights.cls ≠ "java/lang/invoke/MethodHandle" ∧ yX12_rights.cls ≠ "java/lang/invoke/VarHandle" ∧ (parseMethodDescriptor yX12_rights.desc).map (fun d => d.parameters.length) = some 0 := by decide +kernel
abbrev rm_X12_rights : Room := { frames := 2, cells := 0, slots := 0, locals := 40 }
def F_X12_rights  (σ : SG) (ρ : RG) : Option (SG) :=
  bn (F_X12_leastCorner σ ρ) fun r1 =>
  nm ((σ 55 0) - r1) fun x2 =>
  nm ((4 : Int32) * x2) fun x3 =>
  nm ((σ 55 4) + x3) fun x4 =>
  nm (s2 σ 55 4 x4) fun σ6 =>
  nm (s2 σ6 55 0 r1) fun σ8 =>
  nm (s2 σ8 55 1 (0 : Int32)) fun σ10 =>
  nm (s2 σ10 55 2 (0 : Int32)) fun σ12 =>
  some σ12
set_option maxHeartbeats 4000000 in
set_option maxRecDepth 100000 in
theorem w_X12_rights_0  {p : Program} {e : Env} {s : State} {m : MethodId} {args : Array Value} {below : List Frame} {meth : Method} {c : Code} {ρ0 : RG} {σ1 : SG} (C : Cx Y D N ad p s m args meth c cX12_rights 2 none RX12 wsL_law) {σ : SG} {ρ : RG} {H : Heap} {locs : List Loc} {ls : Array Slot} (hρ0 : ρ = ρ0) (hL : Lay N K len ρ) (hF : F_X12_rights σ ρ = some σ1) (hP : WP Y D N ad K len σ ρ H) (hS : va_S (AA N ad s.heap.size) s.heap H locs) (hl : lv_has ls 2 [(0, .ref (ad 54))]) : W p l e rm_X12_rights s m args below meth c H locs 0 0 (MQ below (QW Y D N ad K len σ1 ρ0 (AA N ad s.heap.size) none) args s 0 0 (AA N ad s.heap.size)) (F0 m 0 ls []) := by
  have hx := C.1.1
  have hb := C.1.2.1
  unfold F_X12_rights at hF
  refine lv_aload_n hx hb dX12_rights_0 rfl (lv_at hl 0 rfl) ?_
  obtain ⟨r1, hq1, hF⟩ := bn_1 hF
  refine x_callV (ci := 12) rfl rfl C hP hS (c_X12_leastCorner hL hq1) (lr_54 hL) (lk_54 hL) (cwV 0 C.1.2.2.2.2 (gdV mw_673 mw_674 mw_675 mw_5 mw_676) rfl rfl rfl hd_X12_leastCorner ⟨Nat.le_of_ble_eq_true rfl, Nat.le_of_ble_eq_true rfl⟩) rfl rfl hl.1 (Nat.le_of_ble_eq_true rfl) ⟨Nat.zero_le _, Nat.zero_le _⟩ dX12_rights_1 (fun H locs hP hS => ?_)
  refine lv_istore_n (lv' := [(1, .int r1), (0, .ref (ad 54))]) hx hb dX12_rights_4 rfl hl (by decide) rfl (fun ls hl => ?_)
  refine lv_aload_n hx hb dX12_rights_5 rfl (lv_at hl 1 rfl) ?_
  refine get_12_1 C hP (lr_54 hL) (lk_54 hL) inlX12 mw_81 (lf_54_1 hL) dX12_rights_6 ?_
  refine lv_iconst (v := 4) hx hb dX12_rights_9 (by decide) ?_
  refine lv_dup2_11 hx hb dX12_rights_10 rfl rfl ?_
  refine x_iald C hP (lr_55 hL) (lk_55 hL) (ln_55 hL) (by decide +kernel) dX12_rights_11 ?_
  rw [cl_4]
  refine lv_iconst (v := 4) hx hb dX12_rights_12 (by decide) ?_
  refine lv_aload_n hx hb dX12_rights_13 rfl (lv_at hl 1 rfl) ?_
  refine get_12_1 C hP (lr_54 hL) (lk_54 hL) inlX12 mw_81 (lf_54_1 hL) dX12_rights_14 ?_
  refine lv_iconst (v := 0) hx hb dX12_rights_17 (by decide) ?_
  refine x_iald C hP (lr_55 hL) (lk_55 hL) (ln_55 hL) (by decide +kernel) dX12_rights_18 ?_
  rw [cl_0]
  refine lv_iload_n hx hb dX12_rights_19 rfl (lv_at hl 0 rfl) ?_
  refine lv_isub hx hb dX12_rights_20 ?_
  obtain ⟨x2, ex2, hF⟩ := nm_1 hF
  refine x_top ex2 ?_
  refine lv_imul hx hb dX12_rights_21 ?_
  obtain ⟨x3, ex3, hF⟩ := nm_1 hF
  refine x_top ex3 ?_
  refine lv_iadd hx hb dX12_rights_22 ?_
  obtain ⟨x4, ex4, hF⟩ := nm_1 hF
  refine x_top ex4 ?_
  obtain ⟨σ6, eσ6, hF⟩ := nm_1 hF
  refine x_iast (σ1 := σ6) C hP hS (lr_55 hL) (lk_55 hL) (ln_55 hL) (by decide +kernel) (by rw [cl_4]; exact eσ6) dX12_rights_23 (fun H locs hP hS => ?_)
  refine lv_aload_n hx hb dX12_rights_24 rfl (lv_at hl 1 rfl) ?_
  refine get_12_1 C hP (lr_54 hL) (lk_54 hL) inlX12 mw_81 (lf_54_1 hL) dX12_rights_25 ?_
  refine lv_iconst (v := 0) hx hb dX12_rights_28 (by decide) ?_
  refine lv_iload_n hx hb dX12_rights_29 rfl (lv_at hl 0 rfl) ?_
  obtain ⟨σ8, eσ8, hF⟩ := nm_1 hF
  refine x_iast (σ1 := σ8) C hP hS (lr_55 hL) (lk_55 hL) (ln_55 hL) (by decide +kernel) (by rw [cl_0]; exact eσ8) dX12_rights_30 (fun H locs hP hS => ?_)
  refine lv_aload_n hx hb dX12_rights_31 rfl (lv_at hl 1 rfl) ?_
  refine get_12_1 C hP (lr_54 hL) (lk_54 hL) inlX12 mw_81 (lf_54_1 hL) dX12_rights_32 ?_
  refine lv_iconst (v := 1) hx hb dX12_rights_35 (by decide) ?_
  refine lv_iconst (v := 0) hx hb dX12_rights_36 (by decide) ?_
  obtain ⟨σ10, eσ10, hF⟩ := nm_1 hF
  refine x_iast (σ1 := σ10) C hP hS (lr_55 hL) (lk_55 hL) (ln_55 hL) (by decide +kernel) (by rw [cl_1]; exact eσ10) dX12_rights_37 (fun H locs hP hS => ?_)
  refine lv_aload_n hx hb dX12_rights_38 rfl (lv_at hl 1 rfl) ?_
  refine get_12_1 C hP (lr_54 hL) (lk_54 hL) inlX12 mw_81 (lf_54_1 hL) dX12_rights_39 ?_
  refine lv_iconst (v := 2) hx hb dX12_rights_42 (by decide) ?_
  refine lv_iconst (v := 0) hx hb dX12_rights_43 (by decide) ?_
  obtain ⟨σ12, eσ12, hF⟩ := nm_1 hF
  refine x_iast (σ1 := σ12) C hP hS (lr_55 hL) (lk_55 hL) (ln_55 hL) (by decide +kernel) (by rw [cl_2]; exact eσ12) dX12_rights_44 (fun H locs hP hS => ?_)
  obtain rfl := ret_1 hF
  subst hρ0
  exact x_vret rfl C hP hS dX12_rights_45
set_option maxHeartbeats 4000000 in
set_option maxRecDepth 100000 in
theorem c_X12_rights  {σ1 : SG} {σ : SG} {ρ : RG} (hL : Lay N K len ρ) (hF : F_X12_rights σ ρ = some σ1) : MT l Y D N ad K len yX12_rights (Cond.code yX12_rights cX12_rights 2 none :: wsL_law) rm_X12_rights [.ref (ad 54)] σ ρ none σ1 ρ := by
  refine mt_of (cc := cX12_rights) (nL := 2) (ret := none) (by decide) (Nat.le_of_ble_eq_true rfl) ?_
  intro p e s m args below meth c ls C hnm hP hS hl
  exact w_X12_rights_0 C rfl hL hF hP hS hl

/-! CutCrookedModel.private int slant(int, int, int);  -/
theorem dX12_slant_0 : decode cX12_slant 0 = .ok (.aload_n 0, 1) := by decide +kernel
theorem dX12_slant_1 : decode cX12_slant 1 = .ok (.getfield 9, 3) := by decide +kernel
theorem dX12_slant_4 : decode cX12_slant 4 = .ok (.bipush 20, 2) := by decide +kernel
theorem dX12_slant_6 : decode cX12_slant 6 = .ok (.iload_n 1, 1) := by decide +kernel
theorem dX12_slant_7 : decode cX12_slant 7 = .ok (.iadd, 1) := by decide +kernel
theorem dX12_slant_8 : decode cX12_slant 8 = .ok (.iaload, 1) := by decide +kernel
theorem dX12_slant_9 : decode cX12_slant 9 = .ok (.tableswitch 51 1 6 #[39, 41, 47, 39, 41, 47], 39) := by decide +kernel
theorem dX12_slant_48 : decode cX12_slant 48 = .ok (.iconst 0, 1) := by decide +kernel
theorem dX12_slant_49 : decode cX12_slant 49 = .ok (.ireturn, 1) := by decide +kernel
theorem dX12_slant_50 : decode cX12_slant 50 = .ok (.iload_n 2, 1) := by decide +kernel
theorem dX12_slant_51 : decode cX12_slant 51 = .ok (.iload_n 3, 1) := by decide +kernel
theorem dX12_slant_52 : decode cX12_slant 52 = .ok (.iconst 2, 1) := by decide +kernel
theorem dX12_slant_53 : decode cX12_slant 53 = .ok (.idiv, 1) := by decide +kernel
theorem dX12_slant_54 : decode cX12_slant 54 = .ok (.iadd, 1) := by decide +kernel
theorem dX12_slant_55 : decode cX12_slant 55 = .ok (.ireturn, 1) := by decide +kernel
theorem dX12_slant_56 : decode cX12_slant 56 = .ok (.iload_n 2, 1) := by decide +kernel
theorem dX12_slant_57 : decode cX12_slant 57 = .ok (.iload_n 3, 1) := by decide +kernel
theorem dX12_slant_58 : decode cX12_slant 58 = .ok (.iadd, 1) := by decide +kernel
theorem dX12_slant_59 : decode cX12_slant 59 = .ok (.ireturn, 1) := by decide +kernel
theorem dX12_slant_60 : decode cX12_slant 60 = .ok (.iload_n 2, 1) := by decide +kernel
theorem dX12_slant_61 : decode cX12_slant 61 = .ok (.ireturn, 1) := by decide +kernel
theorem hd_X12_slant : yX12_slant.cls = RX12 ∧ yX12_slant.cls ≠ "java/lang/invoke/MethodHandle" ∧ yX12_slant.cls ≠ "java/lang/invoke/VarHandle" ∧ (parseMethodDescriptor yX12_slant.desc).map (fun d => d.parameters.length) = some 3 := by decide +kernel
abbrev rm_X12_slant : Room := { frames := 0, cells := 0, slots := 0, locals := 0 }
def F_X12_slant (a1 : Int32) (a2 : Int32) (a3 : Int32) (σ : SG) (ρ : RG) : Option (Int32) :=
  nm ((20 : Int32) + a1) fun x1 =>
  gd (inb x1 909) <|
  if (σ 55 (x1).toNatClampNeg) = 1 then
    some (0 : Int32)
  else
    if (σ 55 (x1).toNatClampNeg) = 2 then
      nm (a3 / (2 : Int32)) fun x4 =>
      nm (a2 + x4) fun x5 =>
      some x5
    else
      if (σ 55 (x1).toNatClampNeg) = 3 then
        nm (a2 + a3) fun x6 =>
        some x6
      else
        if (σ 55 (x1).toNatClampNeg) = 4 then
          some (0 : Int32)
        else
          if (σ 55 (x1).toNatClampNeg) = 5 then
            nm (a3 / (2 : Int32)) fun x7 =>
            nm (a2 + x7) fun x8 =>
            some x8
          else
            if (σ 55 (x1).toNatClampNeg) = 6 then
              nm (a2 + a3) fun x9 =>
              some x9
            else
              some a2
set_option maxHeartbeats 4000000 in
set_option maxRecDepth 100000 in
theorem w_X12_slant_0 {a1 : Int32} {a2 : Int32} {a3 : Int32} {p : Program} {e : Env} {s : State} {m : MethodId} {args : Array Value} {below : List Frame} {meth : Method} {c : Code} {σ0 : SG} {ρ0 : RG} {r : Int32} (C : Cx Y D N ad p s m args meth c cX12_slant 4 (some .int) RX12 wsL_law) {σ : SG} {ρ : RG} {H : Heap} {locs : List Loc} {ls : Array Slot} (hσ0 : σ = σ0) (hρ0 : ρ = ρ0) (hL : Lay N K len ρ) (hF : F_X12_slant a1 a2 a3 σ ρ = some r) (hP : WP Y D N ad K len σ ρ H) (hS : va_S (AA N ad s.heap.size) s.heap H locs) (hl : lv_has ls 4 [(0, .ref (ad 54)), (1, .int a1), (2, .int a2), (3, .int a3)]) : W p l e rm_X12_slant s m args below meth c H locs 0 0 (MQ below (QW Y D N ad K len σ0 ρ0 (AA N ad s.heap.size) (some (.int r))) args s 0 0 (AA N ad s.heap.size)) (F0 m 0 ls []) := by
  have hx := C.1.1
  have hb := C.1.2.1
  unfold F_X12_slant at hF
  refine lv_aload_n hx hb dX12_slant_0 rfl (lv_at hl 0 rfl) ?_
  refine get_12_1 C hP (lr_54 hL) (lk_54 hL) inlX12 mw_81 (lf_54_1 hL) dX12_slant_1 ?_
  refine lv_bipush (v := 20) hx hb dX12_slant_4 (by decide +kernel) ?_
  refine lv_iload_n hx hb dX12_slant_6 rfl (lv_at hl 1 rfl) ?_
  refine lv_iadd hx hb dX12_slant_7 ?_
  obtain ⟨x1, ex1, hF⟩ := nm_1 hF
  refine x_top ex1 ?_
  obtain ⟨g2, hF⟩ := gd_1 hF
  refine x_iald C hP (lr_55 hL) (lk_55 hL) (ln_55 hL) g2 dX12_slant_8 ?_
  by_cases cs3_0 : (σ 55 (x1).toNatClampNeg) = 1
  · have hF := ite_t hF cs3_0
    refine lv_tableIn (tgt := 48) hx hb dX12_slant_9 (by rw [cs3_0]; decide) (by rw [cs3_0]; decide) (by rw [cs3_0]; rfl) (by decide) ?_
    refine lv_iconst (v := 0) hx hb dX12_slant_48 (by decide) ?_
    obtain rfl := ret_1 hF
    subst hσ0
    subst hρ0
    exact x_iret rfl C hP hS dX12_slant_49
  · have hF := ite_f hF cs3_0
    by_cases cs3_1 : (σ 55 (x1).toNatClampNeg) = 2
    · have hF := ite_t hF cs3_1
      refine lv_tableIn (tgt := 50) hx hb dX12_slant_9 (by rw [cs3_1]; decide) (by rw [cs3_1]; decide) (by rw [cs3_1]; rfl) (by decide) ?_
      refine lv_iload_n hx hb dX12_slant_50 rfl (lv_at hl 2 rfl) ?_
      refine lv_iload_n hx hb dX12_slant_51 rfl (lv_at hl 3 rfl) ?_
      refine lv_iconst (v := 2) hx hb dX12_slant_52 (by decide) ?_
      refine lv_idiv hx hb dX12_slant_53 (by decide) ?_
      obtain ⟨x4, ex4, hF⟩ := nm_1 hF
      refine x_top ex4 ?_
      refine lv_iadd hx hb dX12_slant_54 ?_
      obtain ⟨x5, ex5, hF⟩ := nm_1 hF
      refine x_top ex5 ?_
      obtain rfl := ret_1 hF
      subst hσ0
      subst hρ0
      exact x_iret rfl C hP hS dX12_slant_55
    · have hF := ite_f hF cs3_1
      by_cases cs3_2 : (σ 55 (x1).toNatClampNeg) = 3
      · have hF := ite_t hF cs3_2
        refine lv_tableIn (tgt := 56) hx hb dX12_slant_9 (by rw [cs3_2]; decide) (by rw [cs3_2]; decide) (by rw [cs3_2]; rfl) (by decide) ?_
        refine lv_iload_n hx hb dX12_slant_56 rfl (lv_at hl 2 rfl) ?_
        refine lv_iload_n hx hb dX12_slant_57 rfl (lv_at hl 3 rfl) ?_
        refine lv_iadd hx hb dX12_slant_58 ?_
        obtain ⟨x6, ex6, hF⟩ := nm_1 hF
        refine x_top ex6 ?_
        obtain rfl := ret_1 hF
        subst hσ0
        subst hρ0
        exact x_iret rfl C hP hS dX12_slant_59
      · have hF := ite_f hF cs3_2
        by_cases cs3_3 : (σ 55 (x1).toNatClampNeg) = 4
        · have hF := ite_t hF cs3_3
          refine lv_tableIn (tgt := 48) hx hb dX12_slant_9 (by rw [cs3_3]; decide) (by rw [cs3_3]; decide) (by rw [cs3_3]; rfl) (by decide) ?_
          refine lv_iconst (v := 0) hx hb dX12_slant_48 (by decide) ?_
          obtain rfl := ret_1 hF
          subst hσ0
          subst hρ0
          exact x_iret rfl C hP hS dX12_slant_49
        · have hF := ite_f hF cs3_3
          by_cases cs3_4 : (σ 55 (x1).toNatClampNeg) = 5
          · have hF := ite_t hF cs3_4
            refine lv_tableIn (tgt := 50) hx hb dX12_slant_9 (by rw [cs3_4]; decide) (by rw [cs3_4]; decide) (by rw [cs3_4]; rfl) (by decide) ?_
            refine lv_iload_n hx hb dX12_slant_50 rfl (lv_at hl 2 rfl) ?_
            refine lv_iload_n hx hb dX12_slant_51 rfl (lv_at hl 3 rfl) ?_
            refine lv_iconst (v := 2) hx hb dX12_slant_52 (by decide) ?_
            refine lv_idiv hx hb dX12_slant_53 (by decide) ?_
            obtain ⟨x7, ex7, hF⟩ := nm_1 hF
            refine x_top ex7 ?_
            refine lv_iadd hx hb dX12_slant_54 ?_
            obtain ⟨x8, ex8, hF⟩ := nm_1 hF
            refine x_top ex8 ?_
            obtain rfl := ret_1 hF
            subst hσ0
            subst hρ0
            exact x_iret rfl C hP hS dX12_slant_55
          · have hF := ite_f hF cs3_4
            by_cases cs3_5 : (σ 55 (x1).toNatClampNeg) = 6
            · have hF := ite_t hF cs3_5
              refine lv_tableIn (tgt := 56) hx hb dX12_slant_9 (by rw [cs3_5]; decide) (by rw [cs3_5]; decide) (by rw [cs3_5]; rfl) (by decide) ?_
              refine lv_iload_n hx hb dX12_slant_56 rfl (lv_at hl 2 rfl) ?_
              refine lv_iload_n hx hb dX12_slant_57 rfl (lv_at hl 3 rfl) ?_
              refine lv_iadd hx hb dX12_slant_58 ?_
              obtain ⟨x9, ex9, hF⟩ := nm_1 hF
              refine x_top ex9 ?_
              obtain rfl := ret_1 hF
              subst hσ0
              subst hρ0
              exact x_iret rfl C hP hS dX12_slant_59
            · have hF := ite_f hF cs3_5
              refine lv_tableOut (tgt := 60) hx hb dX12_slant_9 (by have q0 := ne_ti cs3_0 (by decide : (1 : Int32).toInt = 1); have q1 := ne_ti cs3_1 (by decide : (2 : Int32).toInt = 2); have q2 := ne_ti cs3_2 (by decide : (3 : Int32).toInt = 3); have q3 := ne_ti cs3_3 (by decide : (4 : Int32).toInt = 4); have q4 := ne_ti cs3_4 (by decide : (5 : Int32).toInt = 5); have q5 := ne_ti cs3_5 (by decide : (6 : Int32).toInt = 6); omega) (by decide) ?_
              refine lv_iload_n hx hb dX12_slant_60 rfl (lv_at hl 2 rfl) ?_
              obtain rfl := ret_1 hF
              subst hσ0
              subst hρ0
              exact x_iret rfl C hP hS dX12_slant_61
set_option maxHeartbeats 4000000 in
set_option maxRecDepth 100000 in
theorem c_X12_slant {a1 : Int32} {a2 : Int32} {a3 : Int32} {r : Int32} {σ : SG} {ρ : RG} (hL : Lay N K len ρ) (hF : F_X12_slant a1 a2 a3 σ ρ = some r) : MT l Y D N ad K len yX12_slant (Cond.code yX12_slant cX12_slant 4 (some .int) :: wsL_law) rm_X12_slant [.ref (ad 54), .int a1, .int a2, .int a3] σ ρ (some (.int r)) σ ρ := by
  refine mt_of (cc := cX12_slant) (nL := 4) (ret := (some .int)) (by decide) (Nat.le_of_ble_eq_true rfl) ?_
  intro p e s m args below meth c ls C hnm hP hS hl
  exact w_X12_slant_0 C rfl rfl hL hF hP hS hl

/-! CutCrookedModel.private int half(int);  -/
theorem dX12_half_0 : decode cX12_half 0 = .ok (.aload_n 0, 1) := by decide +kernel
theorem dX12_half_1 : decode cX12_half 1 = .ok (.getfield 154, 3) := by decide +kernel
theorem dX12_half_4 : decode cX12_half 4 = .ok (.ifCond .eq 9, 3) := by decide +kernel
theorem dX12_half_7 : decode cX12_half 7 = .ok (.iload_n 1, 1) := by decide +kernel
theorem dX12_half_8 : decode cX12_half 8 = .ok (.iconst 2, 1) := by decide +kernel
theorem dX12_half_9 : decode cX12_half 9 = .ok (.idiv, 1) := by decide +kernel
theorem dX12_half_10 : decode cX12_half 10 = .ok (.goto 4, 3) := by decide +kernel
theorem dX12_half_13 : decode cX12_half 13 = .ok (.iload_n 1, 1) := by decide +kernel
theorem dX12_half_14 : decode cX12_half 14 = .ok (.ireturn, 1) := by decide +kernel
theorem hd_X12_half : yX12_half.cls = RX12 ∧ yX12_half.cls ≠ "java/lang/invoke/MethodHandle" ∧ yX12_half.cls ≠ "java/lang/invoke/VarHandle" ∧ (parseMethodDescriptor yX12_half.desc).map (fun d => d.parameters.length) = some 1 := by decide +kernel
abbrev rm_X12_half : Room := { frames := 0, cells := 0, slots := 0, locals := 0 }
def F_X12_half (a1 : Int32) (σ : SG) (ρ : RG) : Option (Int32) :=
  if (σ 54 17) = 0 then
    some a1
  else
    nm (a1 / (2 : Int32)) fun x2 =>
    some x2
set_option maxHeartbeats 4000000 in
set_option maxRecDepth 100000 in
theorem w_X12_half_0 {a1 : Int32} {p : Program} {e : Env} {s : State} {m : MethodId} {args : Array Value} {below : List Frame} {meth : Method} {c : Code} {σ0 : SG} {ρ0 : RG} {r : Int32} (C : Cx Y D N ad p s m args meth c cX12_half 2 (some .int) RX12 wsL_law) {σ : SG} {ρ : RG} {H : Heap} {locs : List Loc} {ls : Array Slot} (hσ0 : σ = σ0) (hρ0 : ρ = ρ0) (hL : Lay N K len ρ) (hF : F_X12_half a1 σ ρ = some r) (hP : WP Y D N ad K len σ ρ H) (hS : va_S (AA N ad s.heap.size) s.heap H locs) (hl : lv_has ls 2 [(0, .ref (ad 54)), (1, .int a1)]) : W p l e rm_X12_half s m args below meth c H locs 0 0 (MQ below (QW Y D N ad K len σ0 ρ0 (AA N ad s.heap.size) (some (.int r))) args s 0 0 (AA N ad s.heap.size)) (F0 m 0 ls []) := by
  have hx := C.1.1
  have hb := C.1.2.1
  unfold F_X12_half at hF
  refine lv_aload_n hx hb dX12_half_0 rfl (lv_at hl 0 rfl) ?_
  refine get_12_17 C hP (lr_54 hL) (lk_54 hL) inlX12 mw_681 dX12_half_1 ?_
  refine lv_if_eq (tgt := 13) hx hb dX12_half_4 (by decide) (fun c_1 => ?_) (fun c_1 => ?_) -- COND 1 by_cases c_1 : (σ 54 17) = 0
  · have hF := ite_t hF c_1
    refine lv_iload_n hx hb dX12_half_13 rfl (lv_at hl 1 rfl) ?_
    obtain rfl := ret_1 hF
    subst hσ0
    subst hρ0
    exact x_iret rfl C hP hS dX12_half_14
  · have hF := ite_f hF c_1
    refine lv_iload_n hx hb dX12_half_7 rfl (lv_at hl 1 rfl) ?_
    refine lv_iconst (v := 2) hx hb dX12_half_8 (by decide) ?_
    refine lv_idiv hx hb dX12_half_9 (by decide) ?_
    obtain ⟨x2, ex2, hF⟩ := nm_1 hF
    refine x_top ex2 ?_
    refine lv_goto (tgt := 14) hx hb dX12_half_10 (by decide) ?_
    obtain rfl := ret_1 hF
    subst hσ0
    subst hρ0
    exact x_iret rfl C hP hS dX12_half_14
set_option maxHeartbeats 4000000 in
set_option maxRecDepth 100000 in
theorem c_X12_half {a1 : Int32} {r : Int32} {σ : SG} {ρ : RG} (hL : Lay N K len ρ) (hF : F_X12_half a1 σ ρ = some r) : MT l Y D N ad K len yX12_half (Cond.code yX12_half cX12_half 2 (some .int) :: wsL_law) rm_X12_half [.ref (ad 54), .int a1] σ ρ (some (.int r)) σ ρ := by
  refine mt_of (cc := cX12_half) (nL := 2) (ret := (some .int)) (by decide) (Nat.le_of_ble_eq_true rfl) ?_
  intro p e s m args below meth c ls C hnm hP hS hl
  exact w_X12_half_0 C rfl rfl hL hF hP hS hl

/-! CutCrookedModel.private boolean cuts(int, int);  -/
theorem dX12_cuts_0 : decode cX12_cuts 0 = .ok (.aload_n 0, 1) := by decide +kernel
theorem dX12_cuts_1 : decode cX12_cuts 1 = .ok (.getfield 9, 3) := by decide +kernel
theorem dX12_cuts_4 : decode cX12_cuts 4 = .ok (.iconst 0, 1) := by decide +kernel
theorem dX12_cuts_5 : decode cX12_cuts 5 = .ok (.iaload, 1) := by decide +kernel
theorem dX12_cuts_6 : decode cX12_cuts 6 = .ok (.istore_n 3, 1) := by decide +kernel
theorem dX12_cuts_7 : decode cX12_cuts 7 = .ok (.aload_n 0, 1) := by decide +kernel
theorem dX12_cuts_8 : decode cX12_cuts 8 = .ok (.getfield 9, 3) := by decide +kernel
theorem dX12_cuts_11 : decode cX12_cuts 11 = .ok (.iconst 1, 1) := by decide +kernel
theorem dX12_cuts_12 : decode cX12_cuts 12 = .ok (.iaload, 1) := by decide +kernel
theorem dX12_cuts_13 : decode cX12_cuts 13 = .ok (.istore 4, 2) := by decide +kernel
theorem dX12_cuts_15 : decode cX12_cuts 15 = .ok (.aload_n 0, 1) := by decide +kernel
theorem dX12_cuts_16 : decode cX12_cuts 16 = .ok (.getfield 9, 3) := by decide +kernel
theorem dX12_cuts_19 : decode cX12_cuts 19 = .ok (.iconst 2, 1) := by decide +kernel
theorem dX12_cuts_20 : decode cX12_cuts 20 = .ok (.iaload, 1) := by decide +kernel
theorem dX12_cuts_21 : decode cX12_cuts 21 = .ok (.istore 5, 2) := by decide +kernel
theorem dX12_cuts_23 : decode cX12_cuts 23 = .ok (.aload_n 0, 1) := by decide +kernel
theorem dX12_cuts_24 : decode cX12_cuts 24 = .ok (.getfield 9, 3) := by decide +kernel
theorem dX12_cuts_27 : decode cX12_cuts 27 = .ok (.iconst 4, 1) := by decide +kernel
theorem dX12_cuts_28 : decode cX12_cuts 28 = .ok (.iaload, 1) := by decide +kernel
theorem dX12_cuts_29 : decode cX12_cuts 29 = .ok (.istore 6, 2) := by decide +kernel
theorem dX12_cuts_31 : decode cX12_cuts 31 = .ok (.aload_n 0, 1) := by decide +kernel
theorem dX12_cuts_32 : decode cX12_cuts 32 = .ok (.iload_n 1, 1) := by decide +kernel
theorem dX12_cuts_33 : decode cX12_cuts 33 = .ok (.iload_n 2, 1) := by decide +kernel
theorem dX12_cuts_34 : decode cX12_cuts 34 = .ok (.invokevirtual 157, 3) := by decide +kernel
theorem dX12_cuts_37 : decode cX12_cuts 37 = .ok (.aload_n 0, 1) := by decide +kernel
theorem dX12_cuts_38 : decode cX12_cuts 38 = .ok (.getfield 9, 3) := by decide +kernel
theorem dX12_cuts_41 : decode cX12_cuts 41 = .ok (.bipush 20, 2) := by decide +kernel
theorem dX12_cuts_43 : decode cX12_cuts 43 = .ok (.iload_n 1, 1) := by decide +kernel
theorem dX12_cuts_44 : decode cX12_cuts 44 = .ok (.iadd, 1) := by decide +kernel
theorem dX12_cuts_45 : decode cX12_cuts 45 = .ok (.iaload, 1) := by decide +kernel
theorem dX12_cuts_46 : decode cX12_cuts 46 = .ok (.iconst 4, 1) := by decide +kernel
theorem dX12_cuts_47 : decode cX12_cuts 47 = .ok (.if_icmp .ne 10, 3) := by decide +kernel
theorem dX12_cuts_50 : decode cX12_cuts 50 = .ok (.aload_n 0, 1) := by decide +kernel
theorem dX12_cuts_51 : decode cX12_cuts 51 = .ok (.invokevirtual 161, 3) := by decide +kernel
theorem dX12_cuts_54 : decode cX12_cuts 54 = .ok (.goto 29, 3) := by decide +kernel
theorem dX12_cuts_57 : decode cX12_cuts 57 = .ok (.aload_n 0, 1) := by decide +kernel
theorem dX12_cuts_58 : decode cX12_cuts 58 = .ok (.getfield 9, 3) := by decide +kernel
theorem dX12_cuts_61 : decode cX12_cuts 61 = .ok (.bipush 20, 2) := by decide +kernel
theorem dX12_cuts_63 : decode cX12_cuts 63 = .ok (.iload_n 1, 1) := by decide +kernel
theorem dX12_cuts_64 : decode cX12_cuts 64 = .ok (.iadd, 1) := by decide +kernel
theorem dX12_cuts_65 : decode cX12_cuts 65 = .ok (.iaload, 1) := by decide +kernel
theorem dX12_cuts_66 : decode cX12_cuts 66 = .ok (.iconst 5, 1) := by decide +kernel
theorem dX12_cuts_67 : decode cX12_cuts 67 = .ok (.if_icmp .ne 16, 3) := by decide +kernel
theorem dX12_cuts_70 : decode cX12_cuts 70 = .ok (.aload_n 0, 1) := by decide +kernel
theorem dX12_cuts_71 : decode cX12_cuts 71 = .ok (.getfield 9, 3) := by decide +kernel
theorem dX12_cuts_74 : decode cX12_cuts 74 = .ok (.iconst 1, 1) := by decide +kernel
theorem dX12_cuts_75 : decode cX12_cuts 75 = .ok (.aload_n 0, 1) := by decide +kernel
theorem dX12_cuts_76 : decode cX12_cuts 76 = .ok (.getfield 9, 3) := by decide +kernel
theorem dX12_cuts_79 : decode cX12_cuts 79 = .ok (.iconst 1, 1) := by decide +kernel
theorem dX12_cuts_80 : decode cX12_cuts 80 = .ok (.iaload, 1) := by decide +kernel
theorem dX12_cuts_81 : decode cX12_cuts 81 = .ok (.ineg, 1) := by decide +kernel
theorem dX12_cuts_82 : decode cX12_cuts 82 = .ok (.iastore, 1) := by decide +kernel
theorem dX12_cuts_83 : decode cX12_cuts 83 = .ok (.aload_n 0, 1) := by decide +kernel
theorem dX12_cuts_84 : decode cX12_cuts 84 = .ok (.getfield 9, 3) := by decide +kernel
theorem dX12_cuts_87 : decode cX12_cuts 87 = .ok (.iconst 0, 1) := by decide +kernel
theorem dX12_cuts_88 : decode cX12_cuts 88 = .ok (.iaload, 1) := by decide +kernel
theorem dX12_cuts_89 : decode cX12_cuts 89 = .ok (.iload_n 2, 1) := by decide +kernel
theorem dX12_cuts_90 : decode cX12_cuts 90 = .ok (.isub, 1) := by decide +kernel
theorem dX12_cuts_91 : decode cX12_cuts 91 = .ok (.istore 7, 2) := by decide +kernel
theorem dX12_cuts_93 : decode cX12_cuts 93 = .ok (.aload_n 0, 1) := by decide +kernel
theorem dX12_cuts_94 : decode cX12_cuts 94 = .ok (.getfield 9, 3) := by decide +kernel
theorem dX12_cuts_97 : decode cX12_cuts 97 = .ok (.bipush 20, 2) := by decide +kernel
theorem dX12_cuts_99 : decode cX12_cuts 99 = .ok (.iload_n 1, 1) := by decide +kernel
theorem dX12_cuts_100 : decode cX12_cuts 100 = .ok (.iadd, 1) := by decide +kernel
theorem dX12_cuts_101 : decode cX12_cuts 101 = .ok (.iaload, 1) := by decide +kernel
theorem dX12_cuts_102 : decode cX12_cuts 102 = .ok (.bipush 6, 2) := by decide +kernel
theorem dX12_cuts_104 : decode cX12_cuts 104 = .ok (.if_icmp .ne 28, 3) := by decide +kernel
theorem dX12_cuts_107 : decode cX12_cuts 107 = .ok (.aload_n 0, 1) := by decide +kernel
theorem dX12_cuts_108 : decode cX12_cuts 108 = .ok (.getfield 9, 3) := by decide +kernel
theorem dX12_cuts_111 : decode cX12_cuts 111 = .ok (.bipush 50, 2) := by decide +kernel
theorem dX12_cuts_113 : decode cX12_cuts 113 = .ok (.iconst 4, 1) := by decide +kernel
theorem dX12_cuts_114 : decode cX12_cuts 114 = .ok (.iload_n 1, 1) := by decide +kernel
theorem dX12_cuts_115 : decode cX12_cuts 115 = .ok (.imul, 1) := by decide +kernel
theorem dX12_cuts_116 : decode cX12_cuts 116 = .ok (.iadd, 1) := by decide +kernel
theorem dX12_cuts_117 : decode cX12_cuts 117 = .ok (.aload_n 0, 1) := by decide +kernel
theorem dX12_cuts_118 : decode cX12_cuts 118 = .ok (.getfield 9, 3) := by decide +kernel
theorem dX12_cuts_121 : decode cX12_cuts 121 = .ok (.iconst 3, 1) := by decide +kernel
theorem dX12_cuts_122 : decode cX12_cuts 122 = .ok (.iaload, 1) := by decide +kernel
theorem dX12_cuts_123 : decode cX12_cuts 123 = .ok (.iconst 4, 1) := by decide +kernel
theorem dX12_cuts_124 : decode cX12_cuts 124 = .ok (.irem, 1) := by decide +kernel
theorem dX12_cuts_125 : decode cX12_cuts 125 = .ok (.iadd, 1) := by decide +kernel
theorem dX12_cuts_126 : decode cX12_cuts 126 = .ok (.iaload, 1) := by decide +kernel
theorem dX12_cuts_127 : decode cX12_cuts 127 = .ok (.iconst 4, 1) := by decide +kernel
theorem dX12_cuts_128 : decode cX12_cuts 128 = .ok (.isub, 1) := by decide +kernel
theorem dX12_cuts_129 : decode cX12_cuts 129 = .ok (.goto 16, 3) := by decide +kernel
theorem dX12_cuts_132 : decode cX12_cuts 132 = .ok (.aload_n 0, 1) := by decide +kernel
theorem dX12_cuts_133 : decode cX12_cuts 133 = .ok (.aload_n 0, 1) := by decide +kernel
theorem dX12_cuts_134 : decode cX12_cuts 134 = .ok (.getfield 9, 3) := by decide +kernel
theorem dX12_cuts_137 : decode cX12_cuts 137 = .ok (.bipush 32, 2) := by decide +kernel
theorem dX12_cuts_139 : decode cX12_cuts 139 = .ok (.iload_n 1, 1) := by decide +kernel
theorem dX12_cuts_140 : decode cX12_cuts 140 = .ok (.iadd, 1) := by decide +kernel
theorem dX12_cuts_141 : decode cX12_cuts 141 = .ok (.iaload, 1) := by decide +kernel
theorem dX12_cuts_142 : decode cX12_cuts 142 = .ok (.invokevirtual 164, 3) := by decide +kernel
theorem dX12_cuts_145 : decode cX12_cuts 145 = .ok (.istore 8, 2) := by decide +kernel
theorem dX12_cuts_147 : decode cX12_cuts 147 = .ok (.aload_n 0, 1) := by decide +kernel
theorem dX12_cuts_148 : decode cX12_cuts 148 = .ok (.iload_n 1, 1) := by decide +kernel
theorem dX12_cuts_149 : decode cX12_cuts 149 = .ok (.iload 8, 2) := by decide +kernel
theorem dX12_cuts_151 : decode cX12_cuts 151 = .ok (.aload_n 0, 1) := by decide +kernel
theorem dX12_cuts_152 : decode cX12_cuts 152 = .ok (.getfield 9, 3) := by decide +kernel
theorem dX12_cuts_155 : decode cX12_cuts 155 = .ok (.iconst 1, 1) := by decide +kernel
theorem dX12_cuts_156 : decode cX12_cuts 156 = .ok (.iaload, 1) := by decide +kernel
theorem dX12_cuts_157 : decode cX12_cuts 157 = .ok (.invokevirtual 167, 3) := by decide +kernel
theorem dX12_cuts_160 : decode cX12_cuts 160 = .ok (.aload_n 0, 1) := by decide +kernel
theorem dX12_cuts_161 : decode cX12_cuts 161 = .ok (.aload_n 0, 1) := by decide +kernel
theorem dX12_cuts_162 : decode cX12_cuts 162 = .ok (.getfield 133, 3) := by decide +kernel
theorem dX12_cuts_165 : decode cX12_cuts 165 = .ok (.invokevirtual 164, 3) := by decide +kernel
theorem dX12_cuts_168 : decode cX12_cuts 168 = .ok (.iadd, 1) := by decide +kernel
theorem dX12_cuts_169 : decode cX12_cuts 169 = .ok (.bipush (-99), 2) := by decide +kernel
theorem dX12_cuts_171 : decode cX12_cuts 171 = .ok (.bipush 99, 2) := by decide +kernel
theorem dX12_cuts_173 : decode cX12_cuts 173 = .ok (.invokestatic 171, 3) := by decide +kernel
theorem dX12_cuts_176 : decode cX12_cuts 176 = .ok (.istore 9, 2) := by decide +kernel
theorem dX12_cuts_178 : decode cX12_cuts 178 = .ok (.aload_n 0, 1) := by decide +kernel
theorem dX12_cuts_179 : decode cX12_cuts 179 = .ok (.iload_n 1, 1) := by decide +kernel
theorem dX12_cuts_180 : decode cX12_cuts 180 = .ok (.aload_n 0, 1) := by decide +kernel
theorem dX12_cuts_181 : decode cX12_cuts 181 = .ok (.aload_n 0, 1) := by decide +kernel
theorem dX12_cuts_182 : decode cX12_cuts 182 = .ok (.getfield 9, 3) := by decide +kernel
theorem dX12_cuts_185 : decode cX12_cuts 185 = .ok (.bipush 38, 2) := by decide +kernel
theorem dX12_cuts_187 : decode cX12_cuts 187 = .ok (.iload_n 1, 1) := by decide +kernel
theorem dX12_cuts_188 : decode cX12_cuts 188 = .ok (.iadd, 1) := by decide +kernel
theorem dX12_cuts_189 : decode cX12_cuts 189 = .ok (.iaload, 1) := by decide +kernel
theorem dX12_cuts_190 : decode cX12_cuts 190 = .ok (.invokevirtual 164, 3) := by decide +kernel
theorem dX12_cuts_193 : decode cX12_cuts 193 = .ok (.aload_n 0, 1) := by decide +kernel
theorem dX12_cuts_194 : decode cX12_cuts 194 = .ok (.getfield 9, 3) := by decide +kernel
theorem dX12_cuts_197 : decode cX12_cuts 197 = .ok (.iconst 2, 1) := by decide +kernel
theorem dX12_cuts_198 : decode cX12_cuts 198 = .ok (.iaload, 1) := by decide +kernel
theorem dX12_cuts_199 : decode cX12_cuts 199 = .ok (.invokevirtual 167, 3) := by decide +kernel
theorem dX12_cuts_202 : decode cX12_cuts 202 = .ok (.aload_n 0, 1) := by decide +kernel
theorem dX12_cuts_203 : decode cX12_cuts 203 = .ok (.aload_n 0, 1) := by decide +kernel
theorem dX12_cuts_204 : decode cX12_cuts 204 = .ok (.getfield 136, 3) := by decide +kernel
theorem dX12_cuts_207 : decode cX12_cuts 207 = .ok (.invokevirtual 164, 3) := by decide +kernel
theorem dX12_cuts_210 : decode cX12_cuts 210 = .ok (.iadd, 1) := by decide +kernel
theorem dX12_cuts_211 : decode cX12_cuts 211 = .ok (.bipush (-99), 2) := by decide +kernel
theorem dX12_cuts_213 : decode cX12_cuts 213 = .ok (.bipush 99, 2) := by decide +kernel
theorem dX12_cuts_215 : decode cX12_cuts 215 = .ok (.invokestatic 171, 3) := by decide +kernel
theorem dX12_cuts_218 : decode cX12_cuts 218 = .ok (.istore 10, 2) := by decide +kernel
theorem dX12_cuts_220 : decode cX12_cuts 220 = .ok (.aload_n 0, 1) := by decide +kernel
theorem dX12_cuts_221 : decode cX12_cuts 221 = .ok (.getfield 174, 3) := by decide +kernel
theorem dX12_cuts_224 : decode cX12_cuts 224 = .ok (.ifCond .ne 62, 3) := by decide +kernel
theorem dX12_cuts_227 : decode cX12_cuts 227 = .ok (.iload 7, 2) := by decide +kernel
theorem dX12_cuts_229 : decode cX12_cuts 229 = .ok (.iload 9, 2) := by decide +kernel
theorem dX12_cuts_231 : decode cX12_cuts 231 = .ok (.invokestatic 129, 3) := by decide +kernel
theorem dX12_cuts_234 : decode cX12_cuts 234 = .ok (.isub, 1) := by decide +kernel
theorem dX12_cuts_235 : decode cX12_cuts 235 = .ok (.iload 10, 2) := by decide +kernel
theorem dX12_cuts_237 : decode cX12_cuts 237 = .ok (.invokestatic 129, 3) := by decide +kernel
theorem dX12_cuts_240 : decode cX12_cuts 240 = .ok (.isub, 1) := by decide +kernel
theorem dX12_cuts_241 : decode cX12_cuts 241 = .ok (.aload_n 0, 1) := by decide +kernel
theorem dX12_cuts_242 : decode cX12_cuts 242 = .ok (.sipush 199, 3) := by decide +kernel
theorem dX12_cuts_245 : decode cX12_cuts 245 = .ok (.bipush 10, 2) := by decide +kernel
theorem dX12_cuts_247 : decode cX12_cuts 247 = .ok (.invokevirtual 139, 3) := by decide +kernel
theorem dX12_cuts_250 : decode cX12_cuts 250 = .ok (.if_icmp .ge 36, 3) := by decide +kernel
theorem dX12_cuts_253 : decode cX12_cuts 253 = .ok (.aload_n 0, 1) := by decide +kernel
theorem dX12_cuts_254 : decode cX12_cuts 254 = .ok (.getfield 9, 3) := by decide +kernel
theorem dX12_cuts_257 : decode cX12_cuts 257 = .ok (.iconst 0, 1) := by decide +kernel
theorem dX12_cuts_258 : decode cX12_cuts 258 = .ok (.iload_n 3, 1) := by decide +kernel
theorem dX12_cuts_259 : decode cX12_cuts 259 = .ok (.iastore, 1) := by decide +kernel
theorem dX12_cuts_260 : decode cX12_cuts 260 = .ok (.aload_n 0, 1) := by decide +kernel
theorem dX12_cuts_261 : decode cX12_cuts 261 = .ok (.getfield 9, 3) := by decide +kernel
theorem dX12_cuts_264 : decode cX12_cuts 264 = .ok (.iconst 1, 1) := by decide +kernel
theorem dX12_cuts_265 : decode cX12_cuts 265 = .ok (.iload 4, 2) := by decide +kernel
theorem dX12_cuts_267 : decode cX12_cuts 267 = .ok (.iastore, 1) := by decide +kernel
theorem dX12_cuts_268 : decode cX12_cuts 268 = .ok (.aload_n 0, 1) := by decide +kernel
theorem dX12_cuts_269 : decode cX12_cuts 269 = .ok (.getfield 9, 3) := by decide +kernel
theorem dX12_cuts_272 : decode cX12_cuts 272 = .ok (.iconst 2, 1) := by decide +kernel
theorem dX12_cuts_273 : decode cX12_cuts 273 = .ok (.iload 5, 2) := by decide +kernel
theorem dX12_cuts_275 : decode cX12_cuts 275 = .ok (.iastore, 1) := by decide +kernel
theorem dX12_cuts_276 : decode cX12_cuts 276 = .ok (.aload_n 0, 1) := by decide +kernel
theorem dX12_cuts_277 : decode cX12_cuts 277 = .ok (.getfield 9, 3) := by decide +kernel
theorem dX12_cuts_280 : decode cX12_cuts 280 = .ok (.iconst 4, 1) := by decide +kernel
theorem dX12_cuts_281 : decode cX12_cuts 281 = .ok (.iload 6, 2) := by decide +kernel
theorem dX12_cuts_283 : decode cX12_cuts 283 = .ok (.iastore, 1) := by decide +kernel
theorem dX12_cuts_284 : decode cX12_cuts 284 = .ok (.iconst 0, 1) := by decide +kernel
theorem dX12_cuts_285 : decode cX12_cuts 285 = .ok (.ireturn, 1) := by decide +kernel
theorem dX12_cuts_286 : decode cX12_cuts 286 = .ok (.aload_n 0, 1) := by decide +kernel
theorem dX12_cuts_287 : decode cX12_cuts 287 = .ok (.iconst 0, 1) := by decide +kernel
theorem dX12_cuts_288 : decode cX12_cuts 288 = .ok (.putfield 177, 3) := by decide +kernel
theorem dX12_cuts_291 : decode cX12_cuts 291 = .ok (.aload_n 0, 1) := by decide +kernel
theorem dX12_cuts_292 : decode cX12_cuts 292 = .ok (.ldc 180, 2) := by decide +kernel
theorem dX12_cuts_294 : decode cX12_cuts 294 = .ok (.putfield 181, 3) := by decide +kernel
theorem dX12_cuts_297 : decode cX12_cuts 297 = .ok (.aload_n 0, 1) := by decide +kernel
theorem dX12_cuts_298 : decode cX12_cuts 298 = .ok (.iconst 0, 1) := by decide +kernel
theorem dX12_cuts_299 : decode cX12_cuts 299 = .ok (.putfield 184, 3) := by decide +kernel
theorem dX12_cuts_302 : decode cX12_cuts 302 = .ok (.iconst 0, 1) := by decide +kernel
theorem dX12_cuts_303 : decode cX12_cuts 303 = .ok (.istore 11, 2) := by decide +kernel
theorem dX12_cuts_305 : decode cX12_cuts 305 = .ok (.iload 11, 2) := by decide +kernel
theorem dX12_cuts_307 : decode cX12_cuts 307 = .ok (.iconst 4, 1) := by decide +kernel
theorem dX12_cuts_308 : decode cX12_cuts 308 = .ok (.if_icmp .ge 114, 3) := by decide +kernel
theorem dX12_cuts_311 : decode cX12_cuts 311 = .ok (.iload 11, 2) := by decide +kernel
theorem dX12_cuts_313 : decode cX12_cuts 313 = .ok (.aload_n 0, 1) := by decide +kernel
theorem dX12_cuts_314 : decode cX12_cuts 314 = .ok (.getfield 9, 3) := by decide +kernel
theorem dX12_cuts_317 : decode cX12_cuts 317 = .ok (.iconst 0, 1) := by decide +kernel
theorem dX12_cuts_318 : decode cX12_cuts 318 = .ok (.iaload, 1) := by decide +kernel
theorem dX12_cuts_319 : decode cX12_cuts 319 = .ok (.aload_n 0, 1) := by decide +kernel
theorem dX12_cuts_320 : decode cX12_cuts 320 = .ok (.getfield 9, 3) := by decide +kernel
theorem dX12_cuts_323 : decode cX12_cuts 323 = .ok (.iconst 1, 1) := by decide +kernel
theorem dX12_cuts_324 : decode cX12_cuts 324 = .ok (.iaload, 1) := by decide +kernel
theorem dX12_cuts_325 : decode cX12_cuts 325 = .ok (.aload_n 0, 1) := by decide +kernel
theorem dX12_cuts_326 : decode cX12_cuts 326 = .ok (.getfield 9, 3) := by decide +kernel
theorem dX12_cuts_329 : decode cX12_cuts 329 = .ok (.iconst 2, 1) := by decide +kernel
theorem dX12_cuts_330 : decode cX12_cuts 330 = .ok (.iaload, 1) := by decide +kernel
theorem dX12_cuts_331 : decode cX12_cuts 331 = .ok (.invokestatic 147, 3) := by decide +kernel
theorem dX12_cuts_334 : decode cX12_cuts 334 = .ok (.iload 11, 2) := by decide +kernel
theorem dX12_cuts_336 : decode cX12_cuts 336 = .ok (.iload 7, 2) := by decide +kernel
theorem dX12_cuts_338 : decode cX12_cuts 338 = .ok (.iload 9, 2) := by decide +kernel
theorem dX12_cuts_340 : decode cX12_cuts 340 = .ok (.iload 10, 2) := by decide +kernel
theorem dX12_cuts_342 : decode cX12_cuts 342 = .ok (.invokestatic 147, 3) := by decide +kernel
theorem dX12_cuts_345 : decode cX12_cuts 345 = .ok (.isub, 1) := by decide +kernel
theorem dX12_cuts_346 : decode cX12_cuts 346 = .ok (.istore 12, 2) := by decide +kernel
theorem dX12_cuts_348 : decode cX12_cuts 348 = .ok (.iload 12, 2) := by decide +kernel
theorem dX12_cuts_350 : decode cX12_cuts 350 = .ok (.ifCond .ge 7, 3) := by decide +kernel
theorem dX12_cuts_353 : decode cX12_cuts 353 = .ok (.iconst 0, 1) := by decide +kernel
theorem dX12_cuts_354 : decode cX12_cuts 354 = .ok (.goto 5, 3) := by decide +kernel
theorem dX12_cuts_357 : decode cX12_cuts 357 = .ok (.iload 12, 2) := by decide +kernel
theorem dX12_cuts_359 : decode cX12_cuts 359 = .ok (.istore 12, 2) := by decide +kernel
theorem dX12_cuts_361 : decode cX12_cuts 361 = .ok (.aload_n 0, 1) := by decide +kernel
theorem dX12_cuts_362 : decode cX12_cuts 362 = .ok (.dup, 1) := by decide +kernel
theorem dX12_cuts_363 : decode cX12_cuts 363 = .ok (.getfield 177, 3) := by decide +kernel
theorem dX12_cuts_366 : decode cX12_cuts 366 = .ok (.iload 12, 2) := by decide +kernel
theorem dX12_cuts_368 : decode cX12_cuts 368 = .ok (.iadd, 1) := by decide +kernel
theorem dX12_cuts_369 : decode cX12_cuts 369 = .ok (.putfield 177, 3) := by decide +kernel
theorem dX12_cuts_372 : decode cX12_cuts 372 = .ok (.aload_n 0, 1) := by decide +kernel
theorem dX12_cuts_373 : decode cX12_cuts 373 = .ok (.iload 12, 2) := by decide +kernel
theorem dX12_cuts_375 : decode cX12_cuts 375 = .ok (.aload_n 0, 1) := by decide +kernel
theorem dX12_cuts_376 : decode cX12_cuts 376 = .ok (.getfield 181, 3) := by decide +kernel
theorem dX12_cuts_379 : decode cX12_cuts 379 = .ok (.if_icmp .ge 8, 3) := by decide +kernel
theorem dX12_cuts_382 : decode cX12_cuts 382 = .ok (.iload 12, 2) := by decide +kernel
theorem dX12_cuts_384 : decode cX12_cuts 384 = .ok (.goto 7, 3) := by decide +kernel
theorem dX12_cuts_387 : decode cX12_cuts 387 = .ok (.aload_n 0, 1) := by decide +kernel
theorem dX12_cuts_388 : decode cX12_cuts 388 = .ok (.getfield 181, 3) := by decide +kernel
theorem dX12_cuts_391 : decode cX12_cuts 391 = .ok (.putfield 181, 3) := by decide +kernel
theorem dX12_cuts_394 : decode cX12_cuts 394 = .ok (.aload_n 0, 1) := by decide +kernel
theorem dX12_cuts_395 : decode cX12_cuts 395 = .ok (.iload 12, 2) := by decide +kernel
theorem dX12_cuts_397 : decode cX12_cuts 397 = .ok (.aload_n 0, 1) := by decide +kernel
theorem dX12_cuts_398 : decode cX12_cuts 398 = .ok (.getfield 184, 3) := by decide +kernel
theorem dX12_cuts_401 : decode cX12_cuts 401 = .ok (.if_icmp .le 8, 3) := by decide +kernel
theorem dX12_cuts_404 : decode cX12_cuts 404 = .ok (.iload 12, 2) := by decide +kernel
theorem dX12_cuts_406 : decode cX12_cuts 406 = .ok (.goto 7, 3) := by decide +kernel
theorem dX12_cuts_409 : decode cX12_cuts 409 = .ok (.aload_n 0, 1) := by decide +kernel
theorem dX12_cuts_410 : decode cX12_cuts 410 = .ok (.getfield 184, 3) := by decide +kernel
theorem dX12_cuts_413 : decode cX12_cuts 413 = .ok (.putfield 184, 3) := by decide +kernel
theorem dX12_cuts_416 : decode cX12_cuts 416 = .ok (.iinc 11 1, 3) := by decide +kernel
theorem dX12_cuts_419 : decode cX12_cuts 419 = .ok (.goto (-114), 3) := by decide +kernel
theorem dX12_cuts_422 : decode cX12_cuts 422 = .ok (.aload_n 0, 1) := by decide +kernel
theorem dX12_cuts_423 : decode cX12_cuts 423 = .ok (.getfield 9, 3) := by decide +kernel
theorem dX12_cuts_426 : decode cX12_cuts 426 = .ok (.iconst 0, 1) := by decide +kernel
theorem dX12_cuts_427 : decode cX12_cuts 427 = .ok (.iload 7, 2) := by decide +kernel
theorem dX12_cuts_429 : decode cX12_cuts 429 = .ok (.iastore, 1) := by decide +kernel
theorem dX12_cuts_430 : decode cX12_cuts 430 = .ok (.aload_n 0, 1) := by decide +kernel
theorem dX12_cuts_431 : decode cX12_cuts 431 = .ok (.getfield 9, 3) := by decide +kernel
theorem dX12_cuts_434 : decode cX12_cuts 434 = .ok (.iconst 1, 1) := by decide +kernel
theorem dX12_cuts_435 : decode cX12_cuts 435 = .ok (.iload 9, 2) := by decide +kernel
theorem dX12_cuts_437 : decode cX12_cuts 437 = .ok (.iastore, 1) := by decide +kernel
theorem dX12_cuts_438 : decode cX12_cuts 438 = .ok (.aload_n 0, 1) := by decide +kernel
theorem dX12_cuts_439 : decode cX12_cuts 439 = .ok (.getfield 9, 3) := by decide +kernel
theorem dX12_cuts_442 : decode cX12_cuts 442 = .ok (.iconst 2, 1) := by decide +kernel
theorem dX12_cuts_443 : decode cX12_cuts 443 = .ok (.iload 10, 2) := by decide +kernel
theorem dX12_cuts_445 : decode cX12_cuts 445 = .ok (.iastore, 1) := by decide +kernel
theorem dX12_cuts_446 : decode cX12_cuts 446 = .ok (.aload_n 0, 1) := by decide +kernel
theorem dX12_cuts_447 : decode cX12_cuts 447 = .ok (.getfield 9, 3) := by decide +kernel
theorem dX12_cuts_450 : decode cX12_cuts 450 = .ok (.iconst 5, 1) := by decide +kernel
theorem dX12_cuts_451 : decode cX12_cuts 451 = .ok (.iload_n 1, 1) := by decide +kernel
theorem dX12_cuts_452 : decode cX12_cuts 452 = .ok (.iadd, 1) := by decide +kernel
theorem dX12_cuts_453 : decode cX12_cuts 453 = .ok (.dup2, 1) := by decide +kernel
theorem dX12_cuts_454 : decode cX12_cuts 454 = .ok (.iaload, 1) := by decide +kernel
theorem dX12_cuts_455 : decode cX12_cuts 455 = .ok (.aload_n 0, 1) := by decide +kernel
theorem dX12_cuts_456 : decode cX12_cuts 456 = .ok (.getfield 177, 3) := by decide +kernel
theorem dX12_cuts_459 : decode cX12_cuts 459 = .ok (.iadd, 1) := by decide +kernel
theorem dX12_cuts_460 : decode cX12_cuts 460 = .ok (.iastore, 1) := by decide +kernel
theorem dX12_cuts_461 : decode cX12_cuts 461 = .ok (.aload_n 0, 1) := by decide +kernel
theorem dX12_cuts_462 : decode cX12_cuts 462 = .ok (.getfield 9, 3) := by decide +kernel
theorem dX12_cuts_465 : decode cX12_cuts 465 = .ok (.iconst 3, 1) := by decide +kernel
theorem dX12_cuts_466 : decode cX12_cuts 466 = .ok (.dup2, 1) := by decide +kernel
theorem dX12_cuts_467 : decode cX12_cuts 467 = .ok (.iaload, 1) := by decide +kernel
theorem dX12_cuts_468 : decode cX12_cuts 468 = .ok (.iconst 1, 1) := by decide +kernel
theorem dX12_cuts_469 : decode cX12_cuts 469 = .ok (.iadd, 1) := by decide +kernel
theorem dX12_cuts_470 : decode cX12_cuts 470 = .ok (.iastore, 1) := by decide +kernel
theorem dX12_cuts_471 : decode cX12_cuts 471 = .ok (.iconst 1, 1) := by decide +kernel
theorem dX12_cuts_472 : decode cX12_cuts 472 = .ok (.ireturn, 1) := by decide +kernel
theorem hd_X12_cuts : yX12_cuts.cls = RX12 ∧ yX12_cuts.cls ≠ "java/lang/invoke/MethodHandle" ∧ yX12_cuts.cls ≠ "java/lang/invoke/VarHandle" ∧ (parseMethodDescriptor yX12_cuts.desc).map (fun d => d.parameters.length) = some 2 := by decide +kernel
abbrev rm_X12_cuts : Room := { frames := 3, cells := 0, slots := 0, locals := 61 }
def F_X12_cuts_413 (a1 : Int32) (a2 : Int32) (rec_305 : SG → RG → Int32 → Int32 → Int32 → Int32 → Int32 → Option (Int32 × SG)) (σ : SG) (ρ : RG) (v1 : Int32) (v7 : Int32) (v9 : Int32) (v10 : Int32) (v11 : Int32) (k1 : Int32) : Option (Int32 × SG) :=
  nm (s2 σ 54 16 k1) fun σ61 =>
  nm (v11 + (1 : Int32)) fun x62 =>
  rec_305 σ61 ρ v1 v7 v9 v10 x62
def F_X12_cuts_391 (a1 : Int32) (a2 : Int32) (rec_305 : SG → RG → Int32 → Int32 → Int32 → Int32 → Int32 → Option (Int32 × SG)) (σ : SG) (ρ : RG) (v1 : Int32) (v7 : Int32) (v9 : Int32) (v10 : Int32) (v11 : Int32) (v12 : Int32) (k1 : Int32) : Option (Int32 × SG) :=
  nm (s2 σ 54 15 k1) fun σ58 =>
  if v12 ≤ (σ58 54 16) then
    F_X12_cuts_413 a1 a2 rec_305 σ58 ρ v1 v7 v9 v10 v11 (σ58 54 16)
  else
    F_X12_cuts_413 a1 a2 rec_305 σ58 ρ v1 v7 v9 v10 v11 v12
def F_X12_cuts_359 (a1 : Int32) (a2 : Int32) (rec_305 : SG → RG → Int32 → Int32 → Int32 → Int32 → Int32 → Option (Int32 × SG)) (σ : SG) (ρ : RG) (v1 : Int32) (v7 : Int32) (v9 : Int32) (v10 : Int32) (v11 : Int32) (k0 : Int32) : Option (Int32 × SG) :=
  nm ((σ 54 14) + k0) fun x53 =>
  nm (s2 σ 54 14 x53) fun σ55 =>
  if (σ55 54 15) ≤ k0 then
    F_X12_cuts_391 a1 a2 rec_305 σ55 ρ v1 v7 v9 v10 v11 k0 (σ55 54 15)
  else
    F_X12_cuts_391 a1 a2 rec_305 σ55 ρ v1 v7 v9 v10 v11 k0 k0
def F_X12_cuts_305 (a1 : Int32) (a2 : Int32) : Nat → SG → RG → Int32 → Int32 → Int32 → Int32 → Int32 → Option (Int32 × SG)
  | 0 => fun _ _ _ _ _ _ _ => none
  | n + 1 => fun σ ρ v1 v7 v9 v10 v11 =>
  if (4 : Int32) ≤ v11 then
    nm (s2 σ 55 0 v7) fun σ35 =>
    nm (s2 σ35 55 1 v9) fun σ37 =>
    nm (s2 σ37 55 2 v10) fun σ39 =>
    nm ((5 : Int32) + v1) fun x40 =>
    gd (inb x40 909) <|
    nm ((σ39 55 (x40).toNatClampNeg) + (σ39 54 14)) fun x42 =>
    gd (inb x40 909) <|
    nm (s2 σ39 55 (x40).toNatClampNeg x42) fun σ45 =>
    nm ((σ45 55 3) + (1 : Int32)) fun x46 =>
    nm (s2 σ45 55 3 x46) fun σ48 =>
    some ((1 : Int32), σ48)
  else
    bn (F_X12_corner v11 (σ 55 0) (σ 55 1) (σ 55 2) σ ρ) fun r49 =>
    bn (F_X12_corner v11 v7 v9 v10 σ ρ) fun r50 =>
    nm (r49 - r50) fun x51 =>
    if 0 ≤ x51 then
      F_X12_cuts_359 a1 a2 (F_X12_cuts_305 a1 a2 n) σ ρ v1 v7 v9 v10 v11 x51
    else
      F_X12_cuts_359 a1 a2 (F_X12_cuts_305 a1 a2 n) σ ρ v1 v7 v9 v10 v11 (0 : Int32)
def F_X12_cuts_286 (a1 : Int32) (a2 : Int32) (σ : SG) (ρ : RG) (v1 : Int32) (v7 : Int32) (v9 : Int32) (v10 : Int32) : Option (Int32 × SG) :=
  nm (s2 σ 54 14 (0 : Int32)) fun σ28 =>
  nm (s2 σ28 54 15 (1000000 : Int32)) fun σ30 =>
  nm (s2 σ30 54 16 (0 : Int32)) fun σ32 =>
  F_X12_cuts_305 a1 a2 1024 σ32 ρ v1 v7 v9 v10 (0 : Int32)
def F_X12_cuts_145 (a1 : Int32) (a2 : Int32) (σ : SG) (ρ : RG) (v1 : Int32) (v3 : Int32) (v4 : Int32) (v5 : Int32) (v6 : Int32) (v7 : Int32) (k0 : Int32) : Option (Int32 × SG) :=
  bn (F_X12_slant v1 k0 (σ 55 1) σ ρ) fun r15 =>
  bn (F_X12_half (σ 54 12) σ ρ) fun r16 =>
  nm (r15 + r16) fun x17 =>
  bn (F_X12_within x17 (-99 : Int32) (99 : Int32) σ ρ) fun r18 =>
  nm ((38 : Int32) + v1) fun x19 =>
  gd (inb x19 909) <|
  bn (F_X12_half (σ 55 (x19).toNatClampNeg) σ ρ) fun r21 =>
  bn (F_X12_slant v1 r21 (σ 55 2) σ ρ) fun r22 =>
  bn (F_X12_half (σ 54 13) σ ρ) fun r23 =>
  nm (r22 + r23) fun x24 =>
  bn (F_X12_within x24 (-99 : Int32) (99 : Int32) σ ρ) fun r25 =>
  if (σ 54 18) = 0 then
    bn (F_X12_size r18 σ ρ) fun r63 =>
    nm (v7 - r63) fun x64 =>
    bn (F_X12_size r25 σ ρ) fun r65 =>
    nm (x64 - r65) fun x66 =>
    bn (F_X12_tellsOf (199 : Int32) (10 : Int32) σ ρ) fun r67 =>
    if r67 ≤ x66 then
      F_X12_cuts_286 a1 a2 σ ρ v1 v7 r18 r25
    else
      nm (s2 σ 55 0 v3) fun σ70 =>
      nm (s2 σ70 55 1 v4) fun σ72 =>
      nm (s2 σ72 55 2 v5) fun σ74 =>
      nm (s2 σ74 55 4 v6) fun σ76 =>
      some ((0 : Int32), σ76)
  else
    F_X12_cuts_286 a1 a2 σ ρ v1 v7 r18 r25
def F_X12_cuts_83 (a1 : Int32) (a2 : Int32) (σ : SG) (ρ : RG) (v1 : Int32) (v2 : Int32) (v3 : Int32) (v4 : Int32) (v5 : Int32) (v6 : Int32) : Option (Int32 × SG) :=
  nm ((σ 55 0) - v2) fun x8 =>
  nm ((20 : Int32) + v1) fun x9 =>
  gd (inb x9 909) <|
  if (σ 55 (x9).toNatClampNeg) = (6 : Int32) then
    nm ((4 : Int32) * v1) fun x77 =>
    nm ((50 : Int32) + x77) fun x78 =>
    nm ((σ 55 3) - (σ 55 3) / (4 : Int32) * (4 : Int32)) fun x79 =>
    nm (x78 + x79) fun x80 =>
    gd (inb x80 909) <|
    nm ((σ 55 (x80).toNatClampNeg) - (4 : Int32)) fun x82 =>
    F_X12_cuts_145 a1 a2 σ ρ v1 v3 v4 v5 v6 x8 x82
  else
    nm ((32 : Int32) + v1) fun x12 =>
    gd (inb x12 909) <|
    bn (F_X12_half (σ 55 (x12).toNatClampNeg) σ ρ) fun r14 =>
    F_X12_cuts_145 a1 a2 σ ρ v1 v3 v4 v5 v6 x8 r14
def F_X12_cuts (a1 : Int32) (a2 : Int32) (σ : SG) (ρ : RG) : Option (Int32 × SG) :=
  bn (F_X12_looks a1 a2 σ ρ) fun σ1 =>
  nm ((20 : Int32) + a1) fun x2 =>
  gd (inb x2 909) <|
  if (σ1 55 (x2).toNatClampNeg) = (4 : Int32) then
    bn (F_X12_rights σ1 ρ) fun σ86 =>
    F_X12_cuts_83 a1 a2 σ86 ρ a1 a2 (σ 55 0) (σ 55 1) (σ 55 2) (σ 55 4)
  else
    nm ((20 : Int32) + a1) fun x5 =>
    gd (inb x5 909) <|
    if (σ1 55 (x5).toNatClampNeg) = (5 : Int32) then
      nm (-(σ1 55 1)) fun x83 =>
      nm (s2 σ1 55 1 x83) fun σ85 =>
      F_X12_cuts_83 a1 a2 σ85 ρ a1 a2 (σ 55 0) (σ 55 1) (σ 55 2) (σ 55 4)
    else
      F_X12_cuts_83 a1 a2 σ1 ρ a1 a2 (σ 55 0) (σ 55 1) (σ 55 2) (σ 55 4)
set_option maxHeartbeats 4000000 in
set_option maxRecDepth 100000 in
theorem w_X12_cuts_413 {a1 : Int32} {a2 : Int32} {rec_305 : SG → RG → Int32 → Int32 → Int32 → Int32 → Int32 → Option (Int32 × SG)} {p : Program} {e : Env} {s : State} {m : MethodId} {args : Array Value} {below : List Frame} {meth : Method} {c : Code} {ρ0 : RG} {r : Int32} {σ1 : SG} (C : Cx Y D N ad p s m args meth c cX12_cuts 13 (some .boolean) RX12 wsL_law) (hrec_305 : ∀ (σ : SG) (ρ : RG) (v1 : Int32) (v7 : Int32) (v9 : Int32) (v10 : Int32) (v11 : Int32) (H : Heap) (locs : List Loc) (ls : Array Slot), ρ = ρ0 → Lay N K len ρ → rec_305 σ ρ v1 v7 v9 v10 v11 = some (r, σ1) → WP Y D N ad K len σ ρ H → va_S (AA N ad s.heap.size) s.heap H locs → lv_has ls 13 [(0, .ref (ad 54)), (1, .int v1), (7, .int v7), (9, .int v9), (10, .int v10), (11, .int v11)] → W p l e rm_X12_cuts s m args below meth c H locs 0 0 (MQ below (QW Y D N ad K len σ1 ρ0 (AA N ad s.heap.size) (some (.int r))) args s 0 0 (AA N ad s.heap.size)) (F0 m 305 ls [])) {σ : SG} {ρ : RG} {v1 : Int32} {v7 : Int32} {v9 : Int32} {v10 : Int32} {v11 : Int32} {k1 : Int32} {H : Heap} {locs : List Loc} {ls : Array Slot} (hρ0 : ρ = ρ0) (hL : Lay N K len ρ) (hF : F_X12_cuts_413 a1 a2 rec_305 σ ρ v1 v7 v9 v10 v11 k1 = some (r, σ1)) (hP : WP Y D N ad K len σ ρ H) (hS : va_S (AA N ad s.heap.size) s.heap H locs) (hl : lv_has ls 13 [(0, .ref (ad 54)), (1, .int v1), (7, .int v7), (9, .int v9), (10, .int v10), (11, .int v11)]) : W p l e rm_X12_cuts s m args below meth c H locs 0 0 (MQ below (QW Y D N ad K len σ1 ρ0 (AA N ad s.heap.size) (some (.int r))) args s 0 0 (AA N ad s.heap.size)) (F0 m 413 ls [.int k1, .ref (ad 54)]) := by
  have hx := C.1.1
  have hb := C.1.2.1
  unfold F_X12_cuts_413 at hF
  obtain ⟨σ61, eσ61, hF⟩ := nm_1 hF
  refine put_12_16 C hP hS (lr_54 hL) (lk_54 hL) inlX12 mw_661 eσ61 dX12_cuts_413 (fun H locs hP hS => ?_)
  obtain ⟨x62, ex62, hF⟩ := nm_1 hF
  refine lv_iinc (v := x62) (lv' := [(11, .int x62), (0, .ref (ad 54)), (1, .int v1), (7, .int v7), (9, .int v9), (10, .int v10)]) hx hb dX12_cuts_416 hl (k := 5) rfl (by rw [ex62]; first | rfl | decide) (by decide) rfl (fun ls hl => ?_)
  refine lv_goto (tgt := 305) hx hb dX12_cuts_419 (by decide) ?_
  exact hrec_305 _ _ _ _ _ _ _ _ _ _ hρ0 hL hF hP hS (lv_sub hl [1, 2, 3, 4, 5, 0] rfl)
set_option maxHeartbeats 4000000 in
set_option maxRecDepth 100000 in
theorem w_X12_cuts_391 {a1 : Int32} {a2 : Int32} {rec_305 : SG → RG → Int32 → Int32 → Int32 → Int32 → Int32 → Option (Int32 × SG)} {p : Program} {e : Env} {s : State} {m : MethodId} {args : Array Value} {below : List Frame} {meth : Method} {c : Code} {ρ0 : RG} {r : Int32} {σ1 : SG} (C : Cx Y D N ad p s m args meth c cX12_cuts 13 (some .boolean) RX12 wsL_law) (hrec_305 : ∀ (σ : SG) (ρ : RG) (v1 : Int32) (v7 : Int32) (v9 : Int32) (v10 : Int32) (v11 : Int32) (H : Heap) (locs : List Loc) (ls : Array Slot), ρ = ρ0 → Lay N K len ρ → rec_305 σ ρ v1 v7 v9 v10 v11 = some (r, σ1) → WP Y D N ad K len σ ρ H → va_S (AA N ad s.heap.size) s.heap H locs → lv_has ls 13 [(0, .ref (ad 54)), (1, .int v1), (7, .int v7), (9, .int v9), (10, .int v10), (11, .int v11)] → W p l e rm_X12_cuts s m args below meth c H locs 0 0 (MQ below (QW Y D N ad K len σ1 ρ0 (AA N ad s.heap.size) (some (.int r))) args s 0 0 (AA N ad s.heap.size)) (F0 m 305 ls [])) {σ : SG} {ρ : RG} {v1 : Int32} {v7 : Int32} {v9 : Int32} {v10 : Int32} {v11 : Int32} {v12 : Int32} {k1 : Int32} {H : Heap} {locs : List Loc} {ls : Array Slot} (hρ0 : ρ = ρ0) (hL : Lay N K len ρ) (hF : F_X12_cuts_391 a1 a2 rec_305 σ ρ v1 v7 v9 v10 v11 v12 k1 = some (r, σ1)) (hP : WP Y D N ad K len σ ρ H) (hS : va_S (AA N ad s.heap.size) s.heap H locs) (hl : lv_has ls 13 [(0, .ref (ad 54)), (1, .int v1), (7, .int v7), (9, .int v9), (10, .int v10), (11, .int v11), (12, .int v12)]) : W p l e rm_X12_cuts s m args below meth c H locs 0 0 (MQ below (QW Y D N ad K len σ1 ρ0 (AA N ad s.heap.size) (some (.int r))) args s 0 0 (AA N ad s.heap.size)) (F0 m 391 ls [.int k1, .ref (ad 54)]) := by
  have hx := C.1.1
  have hb := C.1.2.1
  unfold F_X12_cuts_391 at hF
  obtain ⟨σ58, eσ58, hF⟩ := nm_1 hF
  refine put_12_15 C hP hS (lr_54 hL) (lk_54 hL) inlX12 mw_660 eσ58 dX12_cuts_391 (fun H locs hP hS => ?_)
  refine lv_aload_n hx hb dX12_cuts_394 rfl (lv_at hl 0 rfl) ?_
  refine lv_iload hx hb dX12_cuts_395 (lv_at hl 6 rfl) ?_
  refine lv_aload_n hx hb dX12_cuts_397 rfl (lv_at hl 0 rfl) ?_
  refine get_12_16 C hP (lr_54 hL) (lk_54 hL) inlX12 mw_661 dX12_cuts_398 ?_
  refine lv_icmp_le (tgt := 409) hx hb dX12_cuts_401 (by decide) (fun c_59 => ?_) (fun c_59 => ?_) -- COND 59 by_cases c_59 : v12 ≤ (σ58 54 16)
  · have hF := ite_t hF c_59
    refine lv_aload_n hx hb dX12_cuts_409 rfl (lv_at hl 0 rfl) ?_
    refine get_12_16 C hP (lr_54 hL) (lk_54 hL) inlX12 mw_661 dX12_cuts_410 ?_
    exact w_X12_cuts_413 C hrec_305 hρ0 hL hF hP hS (lv_sub hl [0, 1, 2, 3, 4, 5] rfl)
  · have hF := ite_f hF c_59
    refine lv_iload hx hb dX12_cuts_404 (lv_at hl 6 rfl) ?_
    refine lv_goto (tgt := 413) hx hb dX12_cuts_406 (by decide) ?_
    exact w_X12_cuts_413 C hrec_305 hρ0 hL hF hP hS (lv_sub hl [0, 1, 2, 3, 4, 5] rfl)
set_option maxHeartbeats 4000000 in
set_option maxRecDepth 100000 in
theorem w_X12_cuts_359 {a1 : Int32} {a2 : Int32} {rec_305 : SG → RG → Int32 → Int32 → Int32 → Int32 → Int32 → Option (Int32 × SG)} {p : Program} {e : Env} {s : State} {m : MethodId} {args : Array Value} {below : List Frame} {meth : Method} {c : Code} {ρ0 : RG} {r : Int32} {σ1 : SG} (C : Cx Y D N ad p s m args meth c cX12_cuts 13 (some .boolean) RX12 wsL_law) (hrec_305 : ∀ (σ : SG) (ρ : RG) (v1 : Int32) (v7 : Int32) (v9 : Int32) (v10 : Int32) (v11 : Int32) (H : Heap) (locs : List Loc) (ls : Array Slot), ρ = ρ0 → Lay N K len ρ → rec_305 σ ρ v1 v7 v9 v10 v11 = some (r, σ1) → WP Y D N ad K len σ ρ H → va_S (AA N ad s.heap.size) s.heap H locs → lv_has ls 13 [(0, .ref (ad 54)), (1, .int v1), (7, .int v7), (9, .int v9), (10, .int v10), (11, .int v11)] → W p l e rm_X12_cuts s m args below meth c H locs 0 0 (MQ below (QW Y D N ad K len σ1 ρ0 (AA N ad s.heap.size) (some (.int r))) args s 0 0 (AA N ad s.heap.size)) (F0 m 305 ls [])) {σ : SG} {ρ : RG} {v1 : Int32} {v7 : Int32} {v9 : Int32} {v10 : Int32} {v11 : Int32} {k0 : Int32} {H : Heap} {locs : List Loc} {ls : Array Slot} (hρ0 : ρ = ρ0) (hL : Lay N K len ρ) (hF : F_X12_cuts_359 a1 a2 rec_305 σ ρ v1 v7 v9 v10 v11 k0 = some (r, σ1)) (hP : WP Y D N ad K len σ ρ H) (hS : va_S (AA N ad s.heap.size) s.heap H locs) (hl : lv_has ls 13 [(0, .ref (ad 54)), (1, .int v1), (7, .int v7), (9, .int v9), (10, .int v10), (11, .int v11)]) : W p l e rm_X12_cuts s m args below meth c H locs 0 0 (MQ below (QW Y D N ad K len σ1 ρ0 (AA N ad s.heap.size) (some (.int r))) args s 0 0 (AA N ad s.heap.size)) (F0 m 359 ls [.int k0]) := by
  have hx := C.1.1
  have hb := C.1.2.1
  unfold F_X12_cuts_359 at hF
  refine lv_istore (lv' := [(12, .int k0), (0, .ref (ad 54)), (1, .int v1), (7, .int v7), (9, .int v9), (10, .int v10), (11, .int v11)]) hx hb dX12_cuts_359 hl (by decide) rfl (fun ls hl => ?_)
  refine lv_aload_n hx hb dX12_cuts_361 rfl (lv_at hl 1 rfl) ?_
  refine lv_dup hx hb dX12_cuts_362 rfl ?_
  refine get_12_14 C hP (lr_54 hL) (lk_54 hL) inlX12 mw_651 dX12_cuts_363 ?_
  refine lv_iload hx hb dX12_cuts_366 (lv_at hl 0 rfl) ?_
  refine lv_iadd hx hb dX12_cuts_368 ?_
  obtain ⟨x53, ex53, hF⟩ := nm_1 hF
  refine x_top ex53 ?_
  obtain ⟨σ55, eσ55, hF⟩ := nm_1 hF
  refine put_12_14 C hP hS (lr_54 hL) (lk_54 hL) inlX12 mw_651 eσ55 dX12_cuts_369 (fun H locs hP hS => ?_)
  refine lv_aload_n hx hb dX12_cuts_372 rfl (lv_at hl 1 rfl) ?_
  refine lv_iload hx hb dX12_cuts_373 (lv_at hl 0 rfl) ?_
  refine lv_aload_n hx hb dX12_cuts_375 rfl (lv_at hl 1 rfl) ?_
  refine get_12_15 C hP (lr_54 hL) (lk_54 hL) inlX12 mw_660 dX12_cuts_376 ?_
  refine lv_icmp_ge (tgt := 387) hx hb dX12_cuts_379 (by decide) (fun c_56 => ?_) (fun c_56 => ?_) -- COND 56 by_cases c_56 : (σ55 54 15) ≤ k0
  · have hF := ite_t hF c_56
    refine lv_aload_n hx hb dX12_cuts_387 rfl (lv_at hl 1 rfl) ?_
    refine get_12_15 C hP (lr_54 hL) (lk_54 hL) inlX12 mw_660 dX12_cuts_388 ?_
    exact w_X12_cuts_391 C hrec_305 hρ0 hL hF hP hS (lv_sub hl [1, 2, 3, 4, 5, 6, 0] rfl)
  · have hF := ite_f hF c_56
    refine lv_iload hx hb dX12_cuts_382 (lv_at hl 0 rfl) ?_
    refine lv_goto (tgt := 391) hx hb dX12_cuts_384 (by decide) ?_
    exact w_X12_cuts_391 C hrec_305 hρ0 hL hF hP hS (lv_sub hl [1, 2, 3, 4, 5, 6, 0] rfl)
set_option maxHeartbeats 4000000 in
set_option maxRecDepth 100000 in
theorem w_X12_cuts_305 {a1 : Int32} {a2 : Int32} {p : Program} {e : Env} {s : State} {m : MethodId} {args : Array Value} {below : List Frame} {meth : Method} {c : Code} {ρ0 : RG} {r : Int32} {σ1 : SG} (C : Cx Y D N ad p s m args meth c cX12_cuts 13 (some .boolean) RX12 wsL_law) : ∀ (n : Nat) (σ : SG) (ρ : RG) (v1 : Int32) (v7 : Int32) (v9 : Int32) (v10 : Int32) (v11 : Int32) (H : Heap) (locs : List Loc) (ls : Array Slot), ρ = ρ0 → Lay N K len ρ → F_X12_cuts_305 a1 a2 n σ ρ v1 v7 v9 v10 v11 = some (r, σ1) → WP Y D N ad K len σ ρ H → va_S (AA N ad s.heap.size) s.heap H locs → lv_has ls 13 [(0, .ref (ad 54)), (1, .int v1), (7, .int v7), (9, .int v9), (10, .int v10), (11, .int v11)] → W p l e rm_X12_cuts s m args below meth c H locs 0 0 (MQ below (QW Y D N ad K len σ1 ρ0 (AA N ad s.heap.size) (some (.int r))) args s 0 0 (AA N ad s.heap.size)) (F0 m 305 ls []) := by
  have hx := C.1.1
  have hb := C.1.2.1
  intro n
  induction n with
  | zero => intro σ ρ v1 v7 v9 v10 v11 H locs ls hρ0 hL hF; cases hF
  | succ n ih =>
    intro σ ρ v1 v7 v9 v10 v11 H locs ls hρ0 hL hF hP hS hl
    unfold F_X12_cuts_305 at hF
    refine lv_iload hx hb dX12_cuts_305 (lv_at hl 5 rfl) ?_
    refine lv_iconst (v := 4) hx hb dX12_cuts_307 (by decide) ?_
    refine lv_icmp_ge (tgt := 422) hx hb dX12_cuts_308 (by decide) (fun c_33 => ?_) (fun c_33 => ?_) -- COND 33 by_cases c_33 : (4 : Int32) ≤ v11
    · have hF := ite_t hF c_33
      refine lv_aload_n hx hb dX12_cuts_422 rfl (lv_at hl 0 rfl) ?_
      refine get_12_1 C hP (lr_54 hL) (lk_54 hL) inlX12 mw_81 (lf_54_1 hL) dX12_cuts_423 ?_
      refine lv_iconst (v := 0) hx hb dX12_cuts_426 (by decide) ?_
      refine lv_iload hx hb dX12_cuts_427 (lv_at hl 2 rfl) ?_
      obtain ⟨σ35, eσ35, hF⟩ := nm_1 hF
      refine x_iast (σ1 := σ35) C hP hS (lr_55 hL) (lk_55 hL) (ln_55 hL) (by decide +kernel) (by rw [cl_0]; exact eσ35) dX12_cuts_429 (fun H locs hP hS => ?_)
      refine lv_aload_n hx hb dX12_cuts_430 rfl (lv_at hl 0 rfl) ?_
      refine get_12_1 C hP (lr_54 hL) (lk_54 hL) inlX12 mw_81 (lf_54_1 hL) dX12_cuts_431 ?_
      refine lv_iconst (v := 1) hx hb dX12_cuts_434 (by decide) ?_
      refine lv_iload hx hb dX12_cuts_435 (lv_at hl 3 rfl) ?_
      obtain ⟨σ37, eσ37, hF⟩ := nm_1 hF
      refine x_iast (σ1 := σ37) C hP hS (lr_55 hL) (lk_55 hL) (ln_55 hL) (by decide +kernel) (by rw [cl_1]; exact eσ37) dX12_cuts_437 (fun H locs hP hS => ?_)
      refine lv_aload_n hx hb dX12_cuts_438 rfl (lv_at hl 0 rfl) ?_
      refine get_12_1 C hP (lr_54 hL) (lk_54 hL) inlX12 mw_81 (lf_54_1 hL) dX12_cuts_439 ?_
      refine lv_iconst (v := 2) hx hb dX12_cuts_442 (by decide) ?_
      refine lv_iload hx hb dX12_cuts_443 (lv_at hl 4 rfl) ?_
      obtain ⟨σ39, eσ39, hF⟩ := nm_1 hF
      refine x_iast (σ1 := σ39) C hP hS (lr_55 hL) (lk_55 hL) (ln_55 hL) (by decide +kernel) (by rw [cl_2]; exact eσ39) dX12_cuts_445 (fun H locs hP hS => ?_)
      refine lv_aload_n hx hb dX12_cuts_446 rfl (lv_at hl 0 rfl) ?_
      refine get_12_1 C hP (lr_54 hL) (lk_54 hL) inlX12 mw_81 (lf_54_1 hL) dX12_cuts_447 ?_
      refine lv_iconst (v := 5) hx hb dX12_cuts_450 (by decide) ?_
      refine lv_iload_n hx hb dX12_cuts_451 rfl (lv_at hl 1 rfl) ?_
      refine lv_iadd hx hb dX12_cuts_452 ?_
      obtain ⟨x40, ex40, hF⟩ := nm_1 hF
      refine x_top ex40 ?_
      refine lv_dup2_11 hx hb dX12_cuts_453 rfl rfl ?_
      obtain ⟨g41, hF⟩ := gd_1 hF
      refine x_iald C hP (lr_55 hL) (lk_55 hL) (ln_55 hL) g41 dX12_cuts_454 ?_
      refine lv_aload_n hx hb dX12_cuts_455 rfl (lv_at hl 0 rfl) ?_
      refine get_12_14 C hP (lr_54 hL) (lk_54 hL) inlX12 mw_651 dX12_cuts_456 ?_
      refine lv_iadd hx hb dX12_cuts_459 ?_
      obtain ⟨x42, ex42, hF⟩ := nm_1 hF
      refine x_top ex42 ?_
      obtain ⟨g43, hF⟩ := gd_1 hF
      obtain ⟨σ45, eσ45, hF⟩ := nm_1 hF
      refine x_iast (σ1 := σ45) C hP hS (lr_55 hL) (lk_55 hL) (ln_55 hL) g43 eσ45 dX12_cuts_460 (fun H locs hP hS => ?_)
      refine lv_aload_n hx hb dX12_cuts_461 rfl (lv_at hl 0 rfl) ?_
      refine get_12_1 C hP (lr_54 hL) (lk_54 hL) inlX12 mw_81 (lf_54_1 hL) dX12_cuts_462 ?_
      refine lv_iconst (v := 3) hx hb dX12_cuts_465 (by decide) ?_
      refine lv_dup2_11 hx hb dX12_cuts_466 rfl rfl ?_
      refine x_iald C hP (lr_55 hL) (lk_55 hL) (ln_55 hL) (by decide +kernel) dX12_cuts_467 ?_
      rw [cl_3]
      refine lv_iconst (v := 1) hx hb dX12_cuts_468 (by decide) ?_
      refine lv_iadd hx hb dX12_cuts_469 ?_
      obtain ⟨x46, ex46, hF⟩ := nm_1 hF
      refine x_top ex46 ?_
      obtain ⟨σ48, eσ48, hF⟩ := nm_1 hF
      refine x_iast (σ1 := σ48) C hP hS (lr_55 hL) (lk_55 hL) (ln_55 hL) (by decide +kernel) (by rw [cl_3]; exact eσ48) dX12_cuts_470 (fun H locs hP hS => ?_)
      refine lv_iconst (v := 1) hx hb dX12_cuts_471 (by decide) ?_
      obtain ⟨rfl, rfl⟩ := ret_2 hF
      subst hρ0
      exact x_zret rfl rfl C hP hS dX12_cuts_472
    · have hF := ite_f hF c_33
      refine lv_iload hx hb dX12_cuts_311 (lv_at hl 5 rfl) ?_
      refine lv_aload_n hx hb dX12_cuts_313 rfl (lv_at hl 0 rfl) ?_
      refine get_12_1 C hP (lr_54 hL) (lk_54 hL) inlX12 mw_81 (lf_54_1 hL) dX12_cuts_314 ?_
      refine lv_iconst (v := 0) hx hb dX12_cuts_317 (by decide) ?_
      refine x_iald C hP (lr_55 hL) (lk_55 hL) (ln_55 hL) (by decide +kernel) dX12_cuts_318 ?_
      rw [cl_0]
      refine lv_aload_n hx hb dX12_cuts_319 rfl (lv_at hl 0 rfl) ?_
      refine get_12_1 C hP (lr_54 hL) (lk_54 hL) inlX12 mw_81 (lf_54_1 hL) dX12_cuts_320 ?_
      refine lv_iconst (v := 1) hx hb dX12_cuts_323 (by decide) ?_
      refine x_iald C hP (lr_55 hL) (lk_55 hL) (ln_55 hL) (by decide +kernel) dX12_cuts_324 ?_
      rw [cl_1]
      refine lv_aload_n hx hb dX12_cuts_325 rfl (lv_at hl 0 rfl) ?_
      refine get_12_1 C hP (lr_54 hL) (lk_54 hL) inlX12 mw_81 (lf_54_1 hL) dX12_cuts_326 ?_
      refine lv_iconst (v := 2) hx hb dX12_cuts_329 (by decide) ?_
      refine x_iald C hP (lr_55 hL) (lk_55 hL) (ln_55 hL) (by decide +kernel) dX12_cuts_330 ?_
      rw [cl_2]
      obtain ⟨r49, hq49, hF⟩ := bn_1 hF
      refine x_callS C hP hS (c_X12_corner hL hq49) (va_cwS 4 C.1.2.2.2.2 (gdS mw_517 mw_518 mw_5 mw_519) rfl rfl rfl hd_X12_corner.2 ⟨Nat.le_of_ble_eq_true rfl, Nat.le_of_ble_eq_true rfl⟩) rfl rfl hl.1 (Nat.le_of_ble_eq_true rfl) ⟨Nat.zero_le _, Nat.zero_le _⟩ dX12_cuts_331 (fun H locs hP hS => ?_)
      refine lv_iload hx hb dX12_cuts_334 (lv_at hl 5 rfl) ?_
      refine lv_iload hx hb dX12_cuts_336 (lv_at hl 2 rfl) ?_
      refine lv_iload hx hb dX12_cuts_338 (lv_at hl 3 rfl) ?_
      refine lv_iload hx hb dX12_cuts_340 (lv_at hl 4 rfl) ?_
      obtain ⟨r50, hq50, hF⟩ := bn_1 hF
      refine x_callS C hP hS (c_X12_corner hL hq50) (va_cwS 4 C.1.2.2.2.2 (gdS mw_517 mw_518 mw_5 mw_519) rfl rfl rfl hd_X12_corner.2 ⟨Nat.le_of_ble_eq_true rfl, Nat.le_of_ble_eq_true rfl⟩) rfl rfl hl.1 (Nat.le_of_ble_eq_true rfl) ⟨Nat.zero_le _, Nat.zero_le _⟩ dX12_cuts_342 (fun H locs hP hS => ?_)
      refine lv_isub hx hb dX12_cuts_345 ?_
      obtain ⟨x51, ex51, hF⟩ := nm_1 hF
      refine x_top ex51 ?_
      refine lv_istore (lv' := [(12, .int x51), (0, .ref (ad 54)), (1, .int v1), (7, .int v7), (9, .int v9), (10, .int v10), (11, .int v11)]) hx hb dX12_cuts_346 hl (by decide) rfl (fun ls hl => ?_)
      refine lv_iload hx hb dX12_cuts_348 (lv_at hl 0 rfl) ?_
      refine lv_if_ge (tgt := 357) hx hb dX12_cuts_350 (by decide) (fun c_52 => ?_) (fun c_52 => ?_) -- COND 52 by_cases c_52 : 0 ≤ x51
      · have hF := ite_t hF c_52
        refine lv_iload hx hb dX12_cuts_357 (lv_at hl 0 rfl) ?_
        exact w_X12_cuts_359 C ih hρ0 hL hF hP hS (lv_sub hl [1, 2, 3, 4, 5, 6] rfl)
      · have hF := ite_f hF c_52
        refine lv_iconst (v := 0) hx hb dX12_cuts_353 (by decide) ?_
        refine lv_goto (tgt := 359) hx hb dX12_cuts_354 (by decide) ?_
        exact w_X12_cuts_359 C ih hρ0 hL hF hP hS (lv_sub hl [1, 2, 3, 4, 5, 6] rfl)
set_option maxHeartbeats 4000000 in
set_option maxRecDepth 100000 in
theorem w_X12_cuts_286 {a1 : Int32} {a2 : Int32} {p : Program} {e : Env} {s : State} {m : MethodId} {args : Array Value} {below : List Frame} {meth : Method} {c : Code} {ρ0 : RG} {r : Int32} {σ1 : SG} (C : Cx Y D N ad p s m args meth c cX12_cuts 13 (some .boolean) RX12 wsL_law) {σ : SG} {ρ : RG} {v1 : Int32} {v7 : Int32} {v9 : Int32} {v10 : Int32} {H : Heap} {locs : List Loc} {ls : Array Slot} (hρ0 : ρ = ρ0) (hL : Lay N K len ρ) (hF : F_X12_cuts_286 a1 a2 σ ρ v1 v7 v9 v10 = some (r, σ1)) (hP : WP Y D N ad K len σ ρ H) (hS : va_S (AA N ad s.heap.size) s.heap H locs) (hl : lv_has ls 13 [(0, .ref (ad 54)), (1, .int v1), (7, .int v7), (9, .int v9), (10, .int v10)]) : W p l e rm_X12_cuts s m args below meth c H locs 0 0 (MQ below (QW Y D N ad K len σ1 ρ0 (AA N ad s.heap.size) (some (.int r))) args s 0 0 (AA N ad s.heap.size)) (F0 m 286 ls []) := by
  have hx := C.1.1
  have hb := C.1.2.1
  unfold F_X12_cuts_286 at hF
  refine lv_aload_n hx hb dX12_cuts_286 rfl (lv_at hl 0 rfl) ?_
  refine lv_iconst (v := 0) hx hb dX12_cuts_287 (by decide) ?_
  obtain ⟨σ28, eσ28, hF⟩ := nm_1 hF
  refine put_12_14 C hP hS (lr_54 hL) (lk_54 hL) inlX12 mw_651 eσ28 dX12_cuts_288 (fun H locs hP hS => ?_)
  refine lv_aload_n hx hb dX12_cuts_291 rfl (lv_at hl 0 rfl) ?_
  refine lv_ldc hx hb (C.1.2.2.2.1) (C.1.2.2.2.2 _ mw_659) dX12_cuts_292 ?_
  obtain ⟨σ30, eσ30, hF⟩ := nm_1 hF
  refine put_12_15 C hP hS (lr_54 hL) (lk_54 hL) inlX12 mw_660 eσ30 dX12_cuts_294 (fun H locs hP hS => ?_)
  refine lv_aload_n hx hb dX12_cuts_297 rfl (lv_at hl 0 rfl) ?_
  refine lv_iconst (v := 0) hx hb dX12_cuts_298 (by decide) ?_
  obtain ⟨σ32, eσ32, hF⟩ := nm_1 hF
  refine put_12_16 C hP hS (lr_54 hL) (lk_54 hL) inlX12 mw_661 eσ32 dX12_cuts_299 (fun H locs hP hS => ?_)
  refine lv_iconst (v := 0) hx hb dX12_cuts_302 (by decide) ?_
  refine lv_istore (lv' := [(11, .int (0 : Int32)), (0, .ref (ad 54)), (1, .int v1), (7, .int v7), (9, .int v9), (10, .int v10)]) hx hb dX12_cuts_303 hl (by decide) rfl (fun ls hl => ?_)
  exact w_X12_cuts_305 C 1024 _ _ _ _ _ _ _ _ _ _ hρ0 hL hF hP hS (lv_sub hl [1, 2, 3, 4, 5, 0] rfl)
set_option maxHeartbeats 4000000 in
set_option maxRecDepth 100000 in
theorem w_X12_cuts_145 {a1 : Int32} {a2 : Int32} {p : Program} {e : Env} {s : State} {m : MethodId} {args : Array Value} {below : List Frame} {meth : Method} {c : Code} {ρ0 : RG} {r : Int32} {σ1 : SG} (C : Cx Y D N ad p s m args meth c cX12_cuts 13 (some .boolean) RX12 wsL_law) {σ : SG} {ρ : RG} {v1 : Int32} {v3 : Int32} {v4 : Int32} {v5 : Int32} {v6 : Int32} {v7 : Int32} {k0 : Int32} {H : Heap} {locs : List Loc} {ls : Array Slot} (hρ0 : ρ = ρ0) (hL : Lay N K len ρ) (hF : F_X12_cuts_145 a1 a2 σ ρ v1 v3 v4 v5 v6 v7 k0 = some (r, σ1)) (hP : WP Y D N ad K len σ ρ H) (hS : va_S (AA N ad s.heap.size) s.heap H locs) (hl : lv_has ls 13 [(0, .ref (ad 54)), (1, .int v1), (3, .int v3), (4, .int v4), (5, .int v5), (6, .int v6), (7, .int v7)]) : W p l e rm_X12_cuts s m args below meth c H locs 0 0 (MQ below (QW Y D N ad K len σ1 ρ0 (AA N ad s.heap.size) (some (.int r))) args s 0 0 (AA N ad s.heap.size)) (F0 m 145 ls [.int k0]) := by
  have hx := C.1.1
  have hb := C.1.2.1
  unfold F_X12_cuts_145 at hF
  refine lv_istore (lv' := [(8, .int k0), (0, .ref (ad 54)), (1, .int v1), (3, .int v3), (4, .int v4), (5, .int v5), (6, .int v6), (7, .int v7)]) hx hb dX12_cuts_145 hl (by decide) rfl (fun ls hl => ?_)
  refine lv_aload_n hx hb dX12_cuts_147 rfl (lv_at hl 1 rfl) ?_
  refine lv_iload_n hx hb dX12_cuts_148 rfl (lv_at hl 2 rfl) ?_
  refine lv_iload hx hb dX12_cuts_149 (lv_at hl 0 rfl) ?_
  refine lv_aload_n hx hb dX12_cuts_151 rfl (lv_at hl 1 rfl) ?_
  refine get_12_1 C hP (lr_54 hL) (lk_54 hL) inlX12 mw_81 (lf_54_1 hL) dX12_cuts_152 ?_
  refine lv_iconst (v := 1) hx hb dX12_cuts_155 (by decide) ?_
  refine x_iald C hP (lr_55 hL) (lk_55 hL) (ln_55 hL) (by decide +kernel) dX12_cuts_156 ?_
  rw [cl_1]
  obtain ⟨r15, hq15, hF⟩ := bn_1 hF
  refine x_callV (ci := 12) rfl rfl C hP hS (c_X12_slant hL hq15) (lr_54 hL) (lk_54 hL) (cwV 3 C.1.2.2.2.2 (gdV mw_682 mw_683 mw_684 mw_5 mw_685) rfl rfl rfl hd_X12_slant ⟨Nat.le_of_ble_eq_true rfl, Nat.le_of_ble_eq_true rfl⟩) rfl rfl hl.1 (Nat.le_of_ble_eq_true rfl) ⟨Nat.zero_le _, Nat.zero_le _⟩ dX12_cuts_157 (fun H locs hP hS => ?_)
  refine lv_aload_n hx hb dX12_cuts_160 rfl (lv_at hl 1 rfl) ?_
  refine lv_aload_n hx hb dX12_cuts_161 rfl (lv_at hl 1 rfl) ?_
  refine get_12_12 C hP (lr_54 hL) (lk_54 hL) inlX12 mw_656 dX12_cuts_162 ?_
  obtain ⟨r16, hq16, hF⟩ := bn_1 hF
  refine x_callV (ci := 12) rfl rfl C hP hS (c_X12_half hL hq16) (lr_54 hL) (lk_54 hL) (cwV 1 C.1.2.2.2.2 (gdV mw_677 mw_678 mw_679 mw_5 mw_680) rfl rfl rfl hd_X12_half ⟨Nat.le_of_ble_eq_true rfl, Nat.le_of_ble_eq_true rfl⟩) rfl rfl hl.1 (Nat.le_of_ble_eq_true rfl) ⟨Nat.zero_le _, Nat.zero_le _⟩ dX12_cuts_165 (fun H locs hP hS => ?_)
  refine lv_iadd hx hb dX12_cuts_168 ?_
  obtain ⟨x17, ex17, hF⟩ := nm_1 hF
  refine x_top ex17 ?_
  refine lv_bipush (v := -99) hx hb dX12_cuts_169 (by decide +kernel) ?_
  refine lv_bipush (v := 99) hx hb dX12_cuts_171 (by decide +kernel) ?_
  obtain ⟨r18, hq18, hF⟩ := bn_1 hF
  refine x_callS C hP hS (c_X12_within hL hq18) (va_cwS 3 C.1.2.2.2.2 (gdS mw_686 mw_687 mw_5 mw_688) rfl rfl rfl hd_X12_within.2 ⟨Nat.le_of_ble_eq_true rfl, Nat.le_of_ble_eq_true rfl⟩) rfl rfl hl.1 (Nat.le_of_ble_eq_true rfl) ⟨Nat.zero_le _, Nat.zero_le _⟩ dX12_cuts_173 (fun H locs hP hS => ?_)
  refine lv_istore (lv' := [(9, .int r18), (8, .int k0), (0, .ref (ad 54)), (1, .int v1), (3, .int v3), (4, .int v4), (5, .int v5), (6, .int v6), (7, .int v7)]) hx hb dX12_cuts_176 hl (by decide) rfl (fun ls hl => ?_)
  refine lv_aload_n hx hb dX12_cuts_178 rfl (lv_at hl 2 rfl) ?_
  refine lv_iload_n hx hb dX12_cuts_179 rfl (lv_at hl 3 rfl) ?_
  refine lv_aload_n hx hb dX12_cuts_180 rfl (lv_at hl 2 rfl) ?_
  refine lv_aload_n hx hb dX12_cuts_181 rfl (lv_at hl 2 rfl) ?_
  refine get_12_1 C hP (lr_54 hL) (lk_54 hL) inlX12 mw_81 (lf_54_1 hL) dX12_cuts_182 ?_
  refine lv_bipush (v := 38) hx hb dX12_cuts_185 (by decide +kernel) ?_
  refine lv_iload_n hx hb dX12_cuts_187 rfl (lv_at hl 3 rfl) ?_
  refine lv_iadd hx hb dX12_cuts_188 ?_
  obtain ⟨x19, ex19, hF⟩ := nm_1 hF
  refine x_top ex19 ?_
  obtain ⟨g20, hF⟩ := gd_1 hF
  refine x_iald C hP (lr_55 hL) (lk_55 hL) (ln_55 hL) g20 dX12_cuts_189 ?_
  obtain ⟨r21, hq21, hF⟩ := bn_1 hF
  refine x_callV (ci := 12) rfl rfl C hP hS (c_X12_half hL hq21) (lr_54 hL) (lk_54 hL) (cwV 1 C.1.2.2.2.2 (gdV mw_677 mw_678 mw_679 mw_5 mw_680) rfl rfl rfl hd_X12_half ⟨Nat.le_of_ble_eq_true rfl, Nat.le_of_ble_eq_true rfl⟩) rfl rfl hl.1 (Nat.le_of_ble_eq_true rfl) ⟨Nat.zero_le _, Nat.zero_le _⟩ dX12_cuts_190 (fun H locs hP hS => ?_)
  refine lv_aload_n hx hb dX12_cuts_193 rfl (lv_at hl 2 rfl) ?_
  refine get_12_1 C hP (lr_54 hL) (lk_54 hL) inlX12 mw_81 (lf_54_1 hL) dX12_cuts_194 ?_
  refine lv_iconst (v := 2) hx hb dX12_cuts_197 (by decide) ?_
  refine x_iald C hP (lr_55 hL) (lk_55 hL) (ln_55 hL) (by decide +kernel) dX12_cuts_198 ?_
  rw [cl_2]
  obtain ⟨r22, hq22, hF⟩ := bn_1 hF
  refine x_callV (ci := 12) rfl rfl C hP hS (c_X12_slant hL hq22) (lr_54 hL) (lk_54 hL) (cwV 3 C.1.2.2.2.2 (gdV mw_682 mw_683 mw_684 mw_5 mw_685) rfl rfl rfl hd_X12_slant ⟨Nat.le_of_ble_eq_true rfl, Nat.le_of_ble_eq_true rfl⟩) rfl rfl hl.1 (Nat.le_of_ble_eq_true rfl) ⟨Nat.zero_le _, Nat.zero_le _⟩ dX12_cuts_199 (fun H locs hP hS => ?_)
  refine lv_aload_n hx hb dX12_cuts_202 rfl (lv_at hl 2 rfl) ?_
  refine lv_aload_n hx hb dX12_cuts_203 rfl (lv_at hl 2 rfl) ?_
  refine get_12_13 C hP (lr_54 hL) (lk_54 hL) inlX12 mw_657 dX12_cuts_204 ?_
  obtain ⟨r23, hq23, hF⟩ := bn_1 hF
  refine x_callV (ci := 12) rfl rfl C hP hS (c_X12_half hL hq23) (lr_54 hL) (lk_54 hL) (cwV 1 C.1.2.2.2.2 (gdV mw_677 mw_678 mw_679 mw_5 mw_680) rfl rfl rfl hd_X12_half ⟨Nat.le_of_ble_eq_true rfl, Nat.le_of_ble_eq_true rfl⟩) rfl rfl hl.1 (Nat.le_of_ble_eq_true rfl) ⟨Nat.zero_le _, Nat.zero_le _⟩ dX12_cuts_207 (fun H locs hP hS => ?_)
  refine lv_iadd hx hb dX12_cuts_210 ?_
  obtain ⟨x24, ex24, hF⟩ := nm_1 hF
  refine x_top ex24 ?_
  refine lv_bipush (v := -99) hx hb dX12_cuts_211 (by decide +kernel) ?_
  refine lv_bipush (v := 99) hx hb dX12_cuts_213 (by decide +kernel) ?_
  obtain ⟨r25, hq25, hF⟩ := bn_1 hF
  refine x_callS C hP hS (c_X12_within hL hq25) (va_cwS 3 C.1.2.2.2.2 (gdS mw_686 mw_687 mw_5 mw_688) rfl rfl rfl hd_X12_within.2 ⟨Nat.le_of_ble_eq_true rfl, Nat.le_of_ble_eq_true rfl⟩) rfl rfl hl.1 (Nat.le_of_ble_eq_true rfl) ⟨Nat.zero_le _, Nat.zero_le _⟩ dX12_cuts_215 (fun H locs hP hS => ?_)
  refine lv_istore (lv' := [(10, .int r25), (9, .int r18), (8, .int k0), (0, .ref (ad 54)), (1, .int v1), (3, .int v3), (4, .int v4), (5, .int v5), (6, .int v6), (7, .int v7)]) hx hb dX12_cuts_218 hl (by decide) rfl (fun ls hl => ?_)
  refine lv_aload_n hx hb dX12_cuts_220 rfl (lv_at hl 3 rfl) ?_
  refine get_12_18 C hP (lr_54 hL) (lk_54 hL) inlX12 mw_658 dX12_cuts_221 ?_
  refine lv_if_ne (tgt := 286) hx hb dX12_cuts_224 (by decide) (fun c_26 => ?_) (fun c_26 => ?_) -- COND 26 rcases (Decidable.em ((σ 54 18) = 0)).symm with c_26 | c_26
  · have hF := ite_f hF c_26
    exact w_X12_cuts_286 C hρ0 hL hF hP hS (lv_sub hl [3, 4, 9, 1, 0] rfl)
  · have hF := ite_t hF c_26
    refine lv_iload hx hb dX12_cuts_227 (lv_at hl 9 rfl) ?_
    refine lv_iload hx hb dX12_cuts_229 (lv_at hl 1 rfl) ?_
    obtain ⟨r63, hq63, hF⟩ := bn_1 hF
    refine x_callS C hP hS (c_X12_size hL hq63) (va_cwS 1 C.1.2.2.2.2 (gdS mw_666 mw_667 mw_5 mw_668) rfl rfl rfl hd_X12_size.2 ⟨Nat.le_of_ble_eq_true rfl, Nat.le_of_ble_eq_true rfl⟩) rfl rfl hl.1 (Nat.le_of_ble_eq_true rfl) ⟨Nat.zero_le _, Nat.zero_le _⟩ dX12_cuts_231 (fun H locs hP hS => ?_)
    refine lv_isub hx hb dX12_cuts_234 ?_
    obtain ⟨x64, ex64, hF⟩ := nm_1 hF
    refine x_top ex64 ?_
    refine lv_iload hx hb dX12_cuts_235 (lv_at hl 0 rfl) ?_
    obtain ⟨r65, hq65, hF⟩ := bn_1 hF
    refine x_callS C hP hS (c_X12_size hL hq65) (va_cwS 1 C.1.2.2.2.2 (gdS mw_666 mw_667 mw_5 mw_668) rfl rfl rfl hd_X12_size.2 ⟨Nat.le_of_ble_eq_true rfl, Nat.le_of_ble_eq_true rfl⟩) rfl rfl hl.1 (Nat.le_of_ble_eq_true rfl) ⟨Nat.zero_le _, Nat.zero_le _⟩ dX12_cuts_237 (fun H locs hP hS => ?_)
    refine lv_isub hx hb dX12_cuts_240 ?_
    obtain ⟨x66, ex66, hF⟩ := nm_1 hF
    refine x_top ex66 ?_
    refine lv_aload_n hx hb dX12_cuts_241 rfl (lv_at hl 3 rfl) ?_
    refine lv_sipush (v := 199) hx hb dX12_cuts_242 (by decide +kernel) ?_
    refine lv_bipush (v := 10) hx hb dX12_cuts_245 (by decide +kernel) ?_
    obtain ⟨r67, hq67, hF⟩ := bn_1 hF
    refine x_callV (ci := 12) rfl rfl C hP hS (c_X12_tellsOf hL hq67) (lr_54 hL) (lk_54 hL) (cwV 2 C.1.2.2.2.2 (gdV mw_520 mw_521 mw_522 mw_5 mw_523) rfl rfl rfl hd_X12_tellsOf ⟨Nat.le_of_ble_eq_true rfl, Nat.le_of_ble_eq_true rfl⟩) rfl rfl hl.1 (Nat.le_of_ble_eq_true rfl) ⟨Nat.zero_le _, Nat.zero_le _⟩ dX12_cuts_247 (fun H locs hP hS => ?_)
    refine lv_icmp_ge (tgt := 286) hx hb dX12_cuts_250 (by decide) (fun c_68 => ?_) (fun c_68 => ?_) -- COND 68 by_cases c_68 : r67 ≤ x66
    · have hF := ite_t hF c_68
      exact w_X12_cuts_286 C hρ0 hL hF hP hS (lv_sub hl [3, 4, 9, 1, 0] rfl)
    · have hF := ite_f hF c_68
      refine lv_aload_n hx hb dX12_cuts_253 rfl (lv_at hl 3 rfl) ?_
      refine get_12_1 C hP (lr_54 hL) (lk_54 hL) inlX12 mw_81 (lf_54_1 hL) dX12_cuts_254 ?_
      refine lv_iconst (v := 0) hx hb dX12_cuts_257 (by decide) ?_
      refine lv_iload_n hx hb dX12_cuts_258 rfl (lv_at hl 5 rfl) ?_
      obtain ⟨σ70, eσ70, hF⟩ := nm_1 hF
      refine x_iast (σ1 := σ70) C hP hS (lr_55 hL) (lk_55 hL) (ln_55 hL) (by decide +kernel) (by rw [cl_0]; exact eσ70) dX12_cuts_259 (fun H locs hP hS => ?_)
      refine lv_aload_n hx hb dX12_cuts_260 rfl (lv_at hl 3 rfl) ?_
      refine get_12_1 C hP (lr_54 hL) (lk_54 hL) inlX12 mw_81 (lf_54_1 hL) dX12_cuts_261 ?_
      refine lv_iconst (v := 1) hx hb dX12_cuts_264 (by decide) ?_
      refine lv_iload hx hb dX12_cuts_265 (lv_at hl 6 rfl) ?_
      obtain ⟨σ72, eσ72, hF⟩ := nm_1 hF
      refine x_iast (σ1 := σ72) C hP hS (lr_55 hL) (lk_55 hL) (ln_55 hL) (by decide +kernel) (by rw [cl_1]; exact eσ72) dX12_cuts_267 (fun H locs hP hS => ?_)
      refine lv_aload_n hx hb dX12_cuts_268 rfl (lv_at hl 3 rfl) ?_
      refine get_12_1 C hP (lr_54 hL) (lk_54 hL) inlX12 mw_81 (lf_54_1 hL) dX12_cuts_269 ?_
      refine lv_iconst (v := 2) hx hb dX12_cuts_272 (by decide) ?_
      refine lv_iload hx hb dX12_cuts_273 (lv_at hl 7 rfl) ?_
      obtain ⟨σ74, eσ74, hF⟩ := nm_1 hF
      refine x_iast (σ1 := σ74) C hP hS (lr_55 hL) (lk_55 hL) (ln_55 hL) (by decide +kernel) (by rw [cl_2]; exact eσ74) dX12_cuts_275 (fun H locs hP hS => ?_)
      refine lv_aload_n hx hb dX12_cuts_276 rfl (lv_at hl 3 rfl) ?_
      refine get_12_1 C hP (lr_54 hL) (lk_54 hL) inlX12 mw_81 (lf_54_1 hL) dX12_cuts_277 ?_
      refine lv_iconst (v := 4) hx hb dX12_cuts_280 (by decide) ?_
      refine lv_iload hx hb dX12_cuts_281 (lv_at hl 8 rfl) ?_
      obtain ⟨σ76, eσ76, hF⟩ := nm_1 hF
      refine x_iast (σ1 := σ76) C hP hS (lr_55 hL) (lk_55 hL) (ln_55 hL) (by decide +kernel) (by rw [cl_4]; exact eσ76) dX12_cuts_283 (fun H locs hP hS => ?_)
      refine lv_iconst (v := 0) hx hb dX12_cuts_284 (by decide) ?_
      obtain ⟨rfl, rfl⟩ := ret_2 hF
      subst hρ0
      exact x_zret rfl rfl C hP hS dX12_cuts_285
set_option maxHeartbeats 4000000 in
set_option maxRecDepth 100000 in
theorem w_X12_cuts_83 {a1 : Int32} {a2 : Int32} {p : Program} {e : Env} {s : State} {m : MethodId} {args : Array Value} {below : List Frame} {meth : Method} {c : Code} {ρ0 : RG} {r : Int32} {σ1 : SG} (C : Cx Y D N ad p s m args meth c cX12_cuts 13 (some .boolean) RX12 wsL_law) {σ : SG} {ρ : RG} {v1 : Int32} {v2 : Int32} {v3 : Int32} {v4 : Int32} {v5 : Int32} {v6 : Int32} {H : Heap} {locs : List Loc} {ls : Array Slot} (hρ0 : ρ = ρ0) (hL : Lay N K len ρ) (hF : F_X12_cuts_83 a1 a2 σ ρ v1 v2 v3 v4 v5 v6 = some (r, σ1)) (hP : WP Y D N ad K len σ ρ H) (hS : va_S (AA N ad s.heap.size) s.heap H locs) (hl : lv_has ls 13 [(0, .ref (ad 54)), (1, .int v1), (2, .int v2), (3, .int v3), (4, .int v4), (5, .int v5), (6, .int v6)]) : W p l e rm_X12_cuts s m args below meth c H locs 0 0 (MQ below (QW Y D N ad K len σ1 ρ0 (AA N ad s.heap.size) (some (.int r))) args s 0 0 (AA N ad s.heap.size)) (F0 m 83 ls []) := by
  have hx := C.1.1
  have hb := C.1.2.1
  unfold F_X12_cuts_83 at hF
  refine lv_aload_n hx hb dX12_cuts_83 rfl (lv_at hl 0 rfl) ?_
  refine get_12_1 C hP (lr_54 hL) (lk_54 hL) inlX12 mw_81 (lf_54_1 hL) dX12_cuts_84 ?_
  refine lv_iconst (v := 0) hx hb dX12_cuts_87 (by decide) ?_
  refine x_iald C hP (lr_55 hL) (lk_55 hL) (ln_55 hL) (by decide +kernel) dX12_cuts_88 ?_
  rw [cl_0]
  refine lv_iload_n hx hb dX12_cuts_89 rfl (lv_at hl 2 rfl) ?_
  refine lv_isub hx hb dX12_cuts_90 ?_
  obtain ⟨x8, ex8, hF⟩ := nm_1 hF
  refine x_top ex8 ?_
  refine lv_istore (lv' := [(7, .int x8), (0, .ref (ad 54)), (1, .int v1), (2, .int v2), (3, .int v3), (4, .int v4), (5, .int v5), (6, .int v6)]) hx hb dX12_cuts_91 hl (by decide) rfl (fun ls hl => ?_)
  refine lv_aload_n hx hb dX12_cuts_93 rfl (lv_at hl 1 rfl) ?_
  refine get_12_1 C hP (lr_54 hL) (lk_54 hL) inlX12 mw_81 (lf_54_1 hL) dX12_cuts_94 ?_
  refine lv_bipush (v := 20) hx hb dX12_cuts_97 (by decide +kernel) ?_
  refine lv_iload_n hx hb dX12_cuts_99 rfl (lv_at hl 2 rfl) ?_
  refine lv_iadd hx hb dX12_cuts_100 ?_
  obtain ⟨x9, ex9, hF⟩ := nm_1 hF
  refine x_top ex9 ?_
  obtain ⟨g10, hF⟩ := gd_1 hF
  refine x_iald C hP (lr_55 hL) (lk_55 hL) (ln_55 hL) g10 dX12_cuts_101 ?_
  refine lv_bipush (v := 6) hx hb dX12_cuts_102 (by decide +kernel) ?_
  refine lv_icmp_ne (tgt := 132) hx hb dX12_cuts_104 (by decide) (fun c_11 => ?_) (fun c_11 => ?_) -- COND 11 rcases (Decidable.em ((σ 55 (x9).toNatClampNeg) = (6 : Int32))).symm with c_11 | c_11
  · have hF := ite_f hF c_11
    refine lv_aload_n hx hb dX12_cuts_132 rfl (lv_at hl 1 rfl) ?_
    refine lv_aload_n hx hb dX12_cuts_133 rfl (lv_at hl 1 rfl) ?_
    refine get_12_1 C hP (lr_54 hL) (lk_54 hL) inlX12 mw_81 (lf_54_1 hL) dX12_cuts_134 ?_
    refine lv_bipush (v := 32) hx hb dX12_cuts_137 (by decide +kernel) ?_
    refine lv_iload_n hx hb dX12_cuts_139 rfl (lv_at hl 2 rfl) ?_
    refine lv_iadd hx hb dX12_cuts_140 ?_
    obtain ⟨x12, ex12, hF⟩ := nm_1 hF
    refine x_top ex12 ?_
    obtain ⟨g13, hF⟩ := gd_1 hF
    refine x_iald C hP (lr_55 hL) (lk_55 hL) (ln_55 hL) g13 dX12_cuts_141 ?_
    obtain ⟨r14, hq14, hF⟩ := bn_1 hF
    refine x_callV (ci := 12) rfl rfl C hP hS (c_X12_half hL hq14) (lr_54 hL) (lk_54 hL) (cwV 1 C.1.2.2.2.2 (gdV mw_677 mw_678 mw_679 mw_5 mw_680) rfl rfl rfl hd_X12_half ⟨Nat.le_of_ble_eq_true rfl, Nat.le_of_ble_eq_true rfl⟩) rfl rfl hl.1 (Nat.le_of_ble_eq_true rfl) ⟨Nat.zero_le _, Nat.zero_le _⟩ dX12_cuts_142 (fun H locs hP hS => ?_)
    exact w_X12_cuts_145 C hρ0 hL hF hP hS (lv_sub hl [1, 2, 4, 5, 6, 7, 0] rfl)
  · have hF := ite_t hF c_11
    refine lv_aload_n hx hb dX12_cuts_107 rfl (lv_at hl 1 rfl) ?_
    refine get_12_1 C hP (lr_54 hL) (lk_54 hL) inlX12 mw_81 (lf_54_1 hL) dX12_cuts_108 ?_
    refine lv_bipush (v := 50) hx hb dX12_cuts_111 (by decide +kernel) ?_
    refine lv_iconst (v := 4) hx hb dX12_cuts_113 (by decide) ?_
    refine lv_iload_n hx hb dX12_cuts_114 rfl (lv_at hl 2 rfl) ?_
    refine lv_imul hx hb dX12_cuts_115 ?_
    obtain ⟨x77, ex77, hF⟩ := nm_1 hF
    refine x_top ex77 ?_
    refine lv_iadd hx hb dX12_cuts_116 ?_
    obtain ⟨x78, ex78, hF⟩ := nm_1 hF
    refine x_top ex78 ?_
    refine lv_aload_n hx hb dX12_cuts_117 rfl (lv_at hl 1 rfl) ?_
    refine get_12_1 C hP (lr_54 hL) (lk_54 hL) inlX12 mw_81 (lf_54_1 hL) dX12_cuts_118 ?_
    refine lv_iconst (v := 3) hx hb dX12_cuts_121 (by decide) ?_
    refine x_iald C hP (lr_55 hL) (lk_55 hL) (ln_55 hL) (by decide +kernel) dX12_cuts_122 ?_
    rw [cl_3]
    refine lv_iconst (v := 4) hx hb dX12_cuts_123 (by decide) ?_
    refine lv_irem hx hb dX12_cuts_124 (by decide) ?_
    obtain ⟨x79, ex79, hF⟩ := nm_1 hF
    refine x_top ex79 ?_
    refine lv_iadd hx hb dX12_cuts_125 ?_
    obtain ⟨x80, ex80, hF⟩ := nm_1 hF
    refine x_top ex80 ?_
    obtain ⟨g81, hF⟩ := gd_1 hF
    refine x_iald C hP (lr_55 hL) (lk_55 hL) (ln_55 hL) g81 dX12_cuts_126 ?_
    refine lv_iconst (v := 4) hx hb dX12_cuts_127 (by decide) ?_
    refine lv_isub hx hb dX12_cuts_128 ?_
    obtain ⟨x82, ex82, hF⟩ := nm_1 hF
    refine x_top ex82 ?_
    refine lv_goto (tgt := 145) hx hb dX12_cuts_129 (by decide) ?_
    exact w_X12_cuts_145 C hρ0 hL hF hP hS (lv_sub hl [1, 2, 4, 5, 6, 7, 0] rfl)
set_option maxHeartbeats 4000000 in
set_option maxRecDepth 100000 in
theorem w_X12_cuts_0 {a1 : Int32} {a2 : Int32} {p : Program} {e : Env} {s : State} {m : MethodId} {args : Array Value} {below : List Frame} {meth : Method} {c : Code} {ρ0 : RG} {r : Int32} {σ1 : SG} (C : Cx Y D N ad p s m args meth c cX12_cuts 13 (some .boolean) RX12 wsL_law) {σ : SG} {ρ : RG} {H : Heap} {locs : List Loc} {ls : Array Slot} (hρ0 : ρ = ρ0) (hL : Lay N K len ρ) (hF : F_X12_cuts a1 a2 σ ρ = some (r, σ1)) (hP : WP Y D N ad K len σ ρ H) (hS : va_S (AA N ad s.heap.size) s.heap H locs) (hl : lv_has ls 13 [(0, .ref (ad 54)), (1, .int a1), (2, .int a2)]) : W p l e rm_X12_cuts s m args below meth c H locs 0 0 (MQ below (QW Y D N ad K len σ1 ρ0 (AA N ad s.heap.size) (some (.int r))) args s 0 0 (AA N ad s.heap.size)) (F0 m 0 ls []) := by
  have hx := C.1.1
  have hb := C.1.2.1
  unfold F_X12_cuts at hF
  refine lv_aload_n hx hb dX12_cuts_0 rfl (lv_at hl 0 rfl) ?_
  refine get_12_1 C hP (lr_54 hL) (lk_54 hL) inlX12 mw_81 (lf_54_1 hL) dX12_cuts_1 ?_
  refine lv_iconst (v := 0) hx hb dX12_cuts_4 (by decide) ?_
  refine x_iald C hP (lr_55 hL) (lk_55 hL) (ln_55 hL) (by decide +kernel) dX12_cuts_5 ?_
  rw [cl_0]
  refine lv_istore_n (lv' := [(3, .int (σ 55 0)), (0, .ref (ad 54)), (1, .int a1), (2, .int a2)]) hx hb dX12_cuts_6 rfl hl (by decide) rfl (fun ls hl => ?_)
  refine lv_aload_n hx hb dX12_cuts_7 rfl (lv_at hl 1 rfl) ?_
  refine get_12_1 C hP (lr_54 hL) (lk_54 hL) inlX12 mw_81 (lf_54_1 hL) dX12_cuts_8 ?_
  refine lv_iconst (v := 1) hx hb dX12_cuts_11 (by decide) ?_
  refine x_iald C hP (lr_55 hL) (lk_55 hL) (ln_55 hL) (by decide +kernel) dX12_cuts_12 ?_
  rw [cl_1]
  refine lv_istore (lv' := [(4, .int (σ 55 1)), (3, .int (σ 55 0)), (0, .ref (ad 54)), (1, .int a1), (2, .int a2)]) hx hb dX12_cuts_13 hl (by decide) rfl (fun ls hl => ?_)
  refine lv_aload_n hx hb dX12_cuts_15 rfl (lv_at hl 2 rfl) ?_
  refine get_12_1 C hP (lr_54 hL) (lk_54 hL) inlX12 mw_81 (lf_54_1 hL) dX12_cuts_16 ?_
  refine lv_iconst (v := 2) hx hb dX12_cuts_19 (by decide) ?_
  refine x_iald C hP (lr_55 hL) (lk_55 hL) (ln_55 hL) (by decide +kernel) dX12_cuts_20 ?_
  rw [cl_2]
  refine lv_istore (lv' := [(5, .int (σ 55 2)), (4, .int (σ 55 1)), (3, .int (σ 55 0)), (0, .ref (ad 54)), (1, .int a1), (2, .int a2)]) hx hb dX12_cuts_21 hl (by decide) rfl (fun ls hl => ?_)
  refine lv_aload_n hx hb dX12_cuts_23 rfl (lv_at hl 3 rfl) ?_
  refine get_12_1 C hP (lr_54 hL) (lk_54 hL) inlX12 mw_81 (lf_54_1 hL) dX12_cuts_24 ?_
  refine lv_iconst (v := 4) hx hb dX12_cuts_27 (by decide) ?_
  refine x_iald C hP (lr_55 hL) (lk_55 hL) (ln_55 hL) (by decide +kernel) dX12_cuts_28 ?_
  rw [cl_4]
  refine lv_istore (lv' := [(6, .int (σ 55 4)), (5, .int (σ 55 2)), (4, .int (σ 55 1)), (3, .int (σ 55 0)), (0, .ref (ad 54)), (1, .int a1), (2, .int a2)]) hx hb dX12_cuts_29 hl (by decide) rfl (fun ls hl => ?_)
  refine lv_aload_n hx hb dX12_cuts_31 rfl (lv_at hl 4 rfl) ?_
  refine lv_iload_n hx hb dX12_cuts_32 rfl (lv_at hl 5 rfl) ?_
  refine lv_iload_n hx hb dX12_cuts_33 rfl (lv_at hl 6 rfl) ?_
  obtain ⟨σ1, hq1, hF⟩ := bn_1 hF
  refine x_callV (ci := 12) rfl rfl C hP hS (c_X12_looks hL hq1) (lr_54 hL) (lk_54 hL) (cwV 2 C.1.2.2.2.2 (gdV mw_662 mw_663 mw_664 mw_5 mw_665) rfl rfl rfl hd_X12_looks ⟨Nat.le_of_ble_eq_true rfl, Nat.le_of_ble_eq_true rfl⟩) rfl rfl hl.1 (Nat.le_of_ble_eq_true rfl) ⟨Nat.zero_le _, Nat.zero_le _⟩ dX12_cuts_34 (fun H locs hP hS => ?_)
  refine lv_aload_n hx hb dX12_cuts_37 rfl (lv_at hl 4 rfl) ?_
  refine get_12_1 C hP (lr_54 hL) (lk_54 hL) inlX12 mw_81 (lf_54_1 hL) dX12_cuts_38 ?_
  refine lv_bipush (v := 20) hx hb dX12_cuts_41 (by decide +kernel) ?_
  refine lv_iload_n hx hb dX12_cuts_43 rfl (lv_at hl 5 rfl) ?_
  refine lv_iadd hx hb dX12_cuts_44 ?_
  obtain ⟨x2, ex2, hF⟩ := nm_1 hF
  refine x_top ex2 ?_
  obtain ⟨g3, hF⟩ := gd_1 hF
  refine x_iald C hP (lr_55 hL) (lk_55 hL) (ln_55 hL) g3 dX12_cuts_45 ?_
  refine lv_iconst (v := 4) hx hb dX12_cuts_46 (by decide) ?_
  refine lv_icmp_ne (tgt := 57) hx hb dX12_cuts_47 (by decide) (fun c_4 => ?_) (fun c_4 => ?_) -- COND 4 rcases (Decidable.em ((σ1 55 (x2).toNatClampNeg) = (4 : Int32))).symm with c_4 | c_4
  · have hF := ite_f hF c_4
    refine lv_aload_n hx hb dX12_cuts_57 rfl (lv_at hl 4 rfl) ?_
    refine get_12_1 C hP (lr_54 hL) (lk_54 hL) inlX12 mw_81 (lf_54_1 hL) dX12_cuts_58 ?_
    refine lv_bipush (v := 20) hx hb dX12_cuts_61 (by decide +kernel) ?_
    refine lv_iload_n hx hb dX12_cuts_63 rfl (lv_at hl 5 rfl) ?_
    refine lv_iadd hx hb dX12_cuts_64 ?_
    obtain ⟨x5, ex5, hF⟩ := nm_1 hF
    refine x_top ex5 ?_
    obtain ⟨g6, hF⟩ := gd_1 hF
    refine x_iald C hP (lr_55 hL) (lk_55 hL) (ln_55 hL) g6 dX12_cuts_65 ?_
    refine lv_iconst (v := 5) hx hb dX12_cuts_66 (by decide) ?_
    refine lv_icmp_ne (tgt := 83) hx hb dX12_cuts_67 (by decide) (fun c_7 => ?_) (fun c_7 => ?_) -- COND 7 rcases (Decidable.em ((σ1 55 (x5).toNatClampNeg) = (5 : Int32))).symm with c_7 | c_7
    · have hF := ite_f hF c_7
      exact w_X12_cuts_83 C hρ0 hL hF hP hS (lv_sub hl [4, 5, 6, 3, 2, 1, 0] rfl)
    · have hF := ite_t hF c_7
      refine lv_aload_n hx hb dX12_cuts_70 rfl (lv_at hl 4 rfl) ?_
      refine get_12_1 C hP (lr_54 hL) (lk_54 hL) inlX12 mw_81 (lf_54_1 hL) dX12_cuts_71 ?_
      refine lv_iconst (v := 1) hx hb dX12_cuts_74 (by decide) ?_
      refine lv_aload_n hx hb dX12_cuts_75 rfl (lv_at hl 4 rfl) ?_
      refine get_12_1 C hP (lr_54 hL) (lk_54 hL) inlX12 mw_81 (lf_54_1 hL) dX12_cuts_76 ?_
      refine lv_iconst (v := 1) hx hb dX12_cuts_79 (by decide) ?_
      refine x_iald C hP (lr_55 hL) (lk_55 hL) (ln_55 hL) (by decide +kernel) dX12_cuts_80 ?_
      rw [cl_1]
      refine lv_ineg hx hb dX12_cuts_81 ?_
      obtain ⟨x83, ex83, hF⟩ := nm_1 hF
      refine x_top ex83 ?_
      obtain ⟨σ85, eσ85, hF⟩ := nm_1 hF
      refine x_iast (σ1 := σ85) C hP hS (lr_55 hL) (lk_55 hL) (ln_55 hL) (by decide +kernel) (by rw [cl_1]; exact eσ85) dX12_cuts_82 (fun H locs hP hS => ?_)
      exact w_X12_cuts_83 C hρ0 hL hF hP hS (lv_sub hl [4, 5, 6, 3, 2, 1, 0] rfl)
  · have hF := ite_t hF c_4
    refine lv_aload_n hx hb dX12_cuts_50 rfl (lv_at hl 4 rfl) ?_
    obtain ⟨σ86, hq86, hF⟩ := bn_1 hF
    refine x_callV (ci := 12) rfl rfl C hP hS (c_X12_rights hL hq86) (lr_54 hL) (lk_54 hL) (cwV 0 C.1.2.2.2.2 (gdV mw_669 mw_670 mw_671 mw_5 mw_672) rfl rfl rfl hd_X12_rights ⟨Nat.le_of_ble_eq_true rfl, Nat.le_of_ble_eq_true rfl⟩) rfl rfl hl.1 (Nat.le_of_ble_eq_true rfl) ⟨Nat.zero_le _, Nat.zero_le _⟩ dX12_cuts_51 (fun H locs hP hS => ?_)
    refine lv_goto (tgt := 83) hx hb dX12_cuts_54 (by decide) ?_
    exact w_X12_cuts_83 C hρ0 hL hF hP hS (lv_sub hl [4, 5, 6, 3, 2, 1, 0] rfl)
set_option maxHeartbeats 4000000 in
set_option maxRecDepth 100000 in
theorem c_X12_cuts {a1 : Int32} {a2 : Int32} {r : Int32} {σ1 : SG} {σ : SG} {ρ : RG} (hL : Lay N K len ρ) (hF : F_X12_cuts a1 a2 σ ρ = some (r, σ1)) : MT l Y D N ad K len yX12_cuts (Cond.code yX12_cuts cX12_cuts 13 (some .boolean) :: wsL_law) rm_X12_cuts [.ref (ad 54), .int a1, .int a2] σ ρ (some (.int r)) σ1 ρ := by
  refine mt_of (cc := cX12_cuts) (nL := 13) (ret := (some .boolean)) (by decide) (Nat.le_of_ble_eq_true rfl) ?_
  intro p e s m args below meth c ls C hnm hP hS hl
  exact w_X12_cuts_0 C rfl hL hF hP hS hl

/-! CutCrookedModel.private boolean isGood();  -/
theorem dX12_isGood_0 : decode cX12_isGood 0 = .ok (.aload_n 0, 1) := by decide +kernel
theorem dX12_isGood_1 : decode cX12_isGood 1 = .ok (.getfield 181, 3) := by decide +kernel
theorem dX12_isGood_4 : decode cX12_isGood 4 = .ok (.aload_n 0, 1) := by decide +kernel
theorem dX12_isGood_5 : decode cX12_isGood 5 = .ok (.sipush 194, 3) := by decide +kernel
theorem dX12_isGood_8 : decode cX12_isGood 8 = .ok (.iconst 3, 1) := by decide +kernel
theorem dX12_isGood_9 : decode cX12_isGood 9 = .ok (.invokevirtual 139, 3) := by decide +kernel
theorem dX12_isGood_12 : decode cX12_isGood 12 = .ok (.if_icmp .lt 7, 3) := by decide +kernel
theorem dX12_isGood_15 : decode cX12_isGood 15 = .ok (.iconst 1, 1) := by decide +kernel
theorem dX12_isGood_16 : decode cX12_isGood 16 = .ok (.goto 4, 3) := by decide +kernel
theorem dX12_isGood_19 : decode cX12_isGood 19 = .ok (.iconst 0, 1) := by decide +kernel
theorem dX12_isGood_20 : decode cX12_isGood 20 = .ok (.ireturn, 1) := by decide +kernel
theorem hd_X12_isGood : yX12_isGood.cls = RX12 ∧ yX12_isGood.cls ≠ "java/lang/invoke/MethodHandle" ∧ yX12_isGood.cls ≠ "java/lang/invoke/VarHandle" ∧ (parseMethodDescriptor yX12_isGood.desc).map (fun d => d.parameters.length) = some 0 := by decide +kernel
abbrev rm_X12_isGood : Room := { frames := 1, cells := 0, slots := 0, locals := 22 }
def F_X12_isGood  (σ : SG) (ρ : RG) : Option (Int32) :=
  bn (F_X12_tellsOf (194 : Int32) (3 : Int32) σ ρ) fun r1 =>
  if (σ 54 15) < r1 then
    some (0 : Int32)
  else
    some (1 : Int32)
set_option maxHeartbeats 4000000 in
set_option maxRecDepth 100000 in
theorem w_X12_isGood_0  {p : Program} {e : Env} {s : State} {m : MethodId} {args : Array Value} {below : List Frame} {meth : Method} {c : Code} {σ0 : SG} {ρ0 : RG} {r : Int32} (C : Cx Y D N ad p s m args meth c cX12_isGood 1 (some .boolean) RX12 wsL_law) {σ : SG} {ρ : RG} {H : Heap} {locs : List Loc} {ls : Array Slot} (hσ0 : σ = σ0) (hρ0 : ρ = ρ0) (hL : Lay N K len ρ) (hF : F_X12_isGood σ ρ = some r) (hP : WP Y D N ad K len σ ρ H) (hS : va_S (AA N ad s.heap.size) s.heap H locs) (hl : lv_has ls 1 [(0, .ref (ad 54))]) : W p l e rm_X12_isGood s m args below meth c H locs 0 0 (MQ below (QW Y D N ad K len σ0 ρ0 (AA N ad s.heap.size) (some (.int r))) args s 0 0 (AA N ad s.heap.size)) (F0 m 0 ls []) := by
  have hx := C.1.1
  have hb := C.1.2.1
  unfold F_X12_isGood at hF
  refine lv_aload_n hx hb dX12_isGood_0 rfl (lv_at hl 0 rfl) ?_
  refine get_12_15 C hP (lr_54 hL) (lk_54 hL) inlX12 mw_660 dX12_isGood_1 ?_
  refine lv_aload_n hx hb dX12_isGood_4 rfl (lv_at hl 0 rfl) ?_
  refine lv_sipush (v := 194) hx hb dX12_isGood_5 (by decide +kernel) ?_
  refine lv_iconst (v := 3) hx hb dX12_isGood_8 (by decide) ?_
  obtain ⟨r1, hq1, hF⟩ := bn_1 hF
  refine x_callV (ci := 12) rfl rfl C hP hS (c_X12_tellsOf hL hq1) (lr_54 hL) (lk_54 hL) (cwV 2 C.1.2.2.2.2 (gdV mw_520 mw_521 mw_522 mw_5 mw_523) rfl rfl rfl hd_X12_tellsOf ⟨Nat.le_of_ble_eq_true rfl, Nat.le_of_ble_eq_true rfl⟩) rfl rfl hl.1 (Nat.le_of_ble_eq_true rfl) ⟨Nat.zero_le _, Nat.zero_le _⟩ dX12_isGood_9 (fun H locs hP hS => ?_)
  refine lv_icmp_lt (tgt := 19) hx hb dX12_isGood_12 (by decide) (fun c_2 => ?_) (fun c_2 => ?_) -- COND 2 by_cases c_2 : (σ 54 15) < r1
  · have hF := ite_t hF c_2
    refine lv_iconst (v := 0) hx hb dX12_isGood_19 (by decide) ?_
    obtain rfl := ret_1 hF
    subst hσ0
    subst hρ0
    exact x_zret rfl rfl C hP hS dX12_isGood_20
  · have hF := ite_f hF c_2
    refine lv_iconst (v := 1) hx hb dX12_isGood_15 (by decide) ?_
    refine lv_goto (tgt := 20) hx hb dX12_isGood_16 (by decide) ?_
    obtain rfl := ret_1 hF
    subst hσ0
    subst hρ0
    exact x_zret rfl rfl C hP hS dX12_isGood_20
set_option maxHeartbeats 4000000 in
set_option maxRecDepth 100000 in
theorem c_X12_isGood  {r : Int32} {σ : SG} {ρ : RG} (hL : Lay N K len ρ) (hF : F_X12_isGood σ ρ = some r) : MT l Y D N ad K len yX12_isGood (Cond.code yX12_isGood cX12_isGood 1 (some .boolean) :: wsL_law) rm_X12_isGood [.ref (ad 54)] σ ρ (some (.int r)) σ ρ := by
  refine mt_of (cc := cX12_isGood) (nL := 1) (ret := (some .boolean)) (by decide) (Nat.le_of_ble_eq_true rfl) ?_
  intro p e s m args below meth c ls C hnm hP hS hl
  exact w_X12_isGood_0 C rfl rfl hL hF hP hS hl
end GEN
