/-! PART 10.xa: printed by wip/gen -/
section GEN
variable {l : Launch} {Y : YT} {D : va_G} {N : Nat} {ad K len : Nat → Nat}
variable {fR lR : Nat}
/-! CutCrooked.private static boolean isWithin(int, int, int);  -/
theorem dX11_isWithin_0 : decode cX11_isWithin 0 = .ok (.iload_n 0, 1) := by decide +kernel
theorem dX11_isWithin_1 : decode cX11_isWithin 1 = .ok (.iload_n 1, 1) := by decide +kernel
theorem dX11_isWithin_2 : decode cX11_isWithin 2 = .ok (.if_icmp .lt 12, 3) := by decide +kernel
theorem dX11_isWithin_5 : decode cX11_isWithin 5 = .ok (.iload_n 0, 1) := by decide +kernel
theorem dX11_isWithin_6 : decode cX11_isWithin 6 = .ok (.iload_n 2, 1) := by decide +kernel
theorem dX11_isWithin_7 : decode cX11_isWithin 7 = .ok (.if_icmp .gt 7, 3) := by decide +kernel
theorem dX11_isWithin_10 : decode cX11_isWithin 10 = .ok (.iconst 1, 1) := by decide +kernel
theorem dX11_isWithin_11 : decode cX11_isWithin 11 = .ok (.goto 4, 3) := by decide +kernel
theorem dX11_isWithin_14 : decode cX11_isWithin 14 = .ok (.iconst 0, 1) := by decide +kernel
theorem dX11_isWithin_15 : decode cX11_isWithin 15 = .ok (.ireturn, 1) := by decide +kernel
theorem hd_X11_isWithin : yX11_isWithin.cls = RX11 ∧ yX11_isWithin.cls ≠ "java/lang/invoke/MethodHandle" ∧ yX11_isWithin.cls ≠ "java/lang/invoke/VarHandle" ∧ (parseMethodDescriptor yX11_isWithin.desc).map (fun d => d.parameters.length) = some 3 := by decide +kernel
abbrev rm_X11_isWithin : Room := { frames := 0, cells := 0, slots := 0, locals := 0 }
def F_X11_isWithin (a1 : Int32) (a2 : Int32) (a3 : Int32) (σ : SG) (ρ : RG) : Option (Int32) :=
  if a1 < a2 then
    some (0 : Int32)
  else
    if a3 < a1 then
      some (0 : Int32)
    else
      some (1 : Int32)
set_option maxHeartbeats 4000000 in
set_option maxRecDepth 100000 in
theorem w_X11_isWithin_0 {a1 : Int32} {a2 : Int32} {a3 : Int32} {p : Program} {e : Env} {s : State} {m : MethodId} {args : Array Value} {below : List Frame} {meth : Method} {c : Code} {σ0 : SG} {ρ0 : RG} {r : Int32} (C : Cx Y D N ad p s m args meth c cX11_isWithin 3 (some .boolean) RX11 wsL_law) {σ : SG} {ρ : RG} {H : Heap} {locs : List Loc} {ls : Array Slot} (hσ0 : σ = σ0) (hρ0 : ρ = ρ0) (hL : Lay N K len ρ) (hF : F_X11_isWithin a1 a2 a3 σ ρ = some r) (hP : WP Y D N ad K len σ ρ H) (hS : va_S (AA N ad s.heap.size) s.heap H locs) (hl : lv_has ls 3 [(0, .int a1), (1, .int a2), (2, .int a3)]) : W p l e rm_X11_isWithin s m args below meth c H locs 0 0 (MQ below (QW Y D N ad K len σ0 ρ0 (AA N ad s.heap.size) (some (.int r))) args s 0 0 (AA N ad s.heap.size)) (F0 m 0 ls []) := by
  have hx := C.1.1
  have hb := C.1.2.1
  unfold F_X11_isWithin at hF
  refine lv_iload_n hx hb dX11_isWithin_0 rfl (lv_at hl 0 rfl) ?_
  refine lv_iload_n hx hb dX11_isWithin_1 rfl (lv_at hl 1 rfl) ?_
  refine lv_icmp_lt (tgt := 14) hx hb dX11_isWithin_2 (by decide) (fun c_1 => ?_) (fun c_1 => ?_) -- COND 1 by_cases c_1 : a1 < a2
  · have hF := ite_t hF c_1
    refine lv_iconst (v := 0) hx hb dX11_isWithin_14 (by decide) ?_
    obtain rfl := ret_1 hF
    subst hσ0
    subst hρ0
    exact x_zret rfl rfl C hP hS dX11_isWithin_15
  · have hF := ite_f hF c_1
    refine lv_iload_n hx hb dX11_isWithin_5 rfl (lv_at hl 0 rfl) ?_
    refine lv_iload_n hx hb dX11_isWithin_6 rfl (lv_at hl 2 rfl) ?_
    refine lv_icmp_gt (tgt := 14) hx hb dX11_isWithin_7 (by decide) (fun c_2 => ?_) (fun c_2 => ?_) -- COND 2 by_cases c_2 : a3 < a1
    · have hF := ite_t hF c_2
      refine lv_iconst (v := 0) hx hb dX11_isWithin_14 (by decide) ?_
      obtain rfl := ret_1 hF
      subst hσ0
      subst hρ0
      exact x_zret rfl rfl C hP hS dX11_isWithin_15
    · have hF := ite_f hF c_2
      refine lv_iconst (v := 1) hx hb dX11_isWithin_10 (by decide) ?_
      refine lv_goto (tgt := 15) hx hb dX11_isWithin_11 (by decide) ?_
      obtain rfl := ret_1 hF
      subst hσ0
      subst hρ0
      exact x_zret rfl rfl C hP hS dX11_isWithin_15
set_option maxHeartbeats 4000000 in
set_option maxRecDepth 100000 in
theorem c_X11_isWithin {a1 : Int32} {a2 : Int32} {a3 : Int32} {r : Int32} {σ : SG} {ρ : RG} (hL : Lay N K len ρ) (hF : F_X11_isWithin a1 a2 a3 σ ρ = some r) : MT l Y D N ad K len yX11_isWithin (Cond.code yX11_isWithin cX11_isWithin 3 (some .boolean) :: wsL_law) rm_X11_isWithin [.int a1, .int a2, .int a3] σ ρ (some (.int r)) σ ρ := by
  refine mt_of (cc := cX11_isWithin) (nL := 3) (ret := (some .boolean)) (by decide) (Nat.le_of_ble_eq_true rfl) ?_
  intro p e s m args below meth c ls C hnm hP hS hl
  exact w_X11_isWithin_0 C rfl rfl hL hF hP hS hl

/-! CutCrooked.private static boolean isThick(int);  -/
theorem dX11_isThick_0 : decode cX11_isThick 0 = .ok (.iload_n 0, 1) := by decide +kernel
theorem dX11_isThick_1 : decode cX11_isThick 1 = .ok (.iconst 1, 1) := by decide +kernel
theorem dX11_isThick_2 : decode cX11_isThick 2 = .ok (.bipush 40, 2) := by decide +kernel
theorem dX11_isThick_4 : decode cX11_isThick 4 = .ok (.invokestatic 56, 3) := by decide +kernel
theorem dX11_isThick_7 : decode cX11_isThick 7 = .ok (.ireturn, 1) := by decide +kernel
theorem hd_X11_isThick : yX11_isThick.cls = RX11 ∧ yX11_isThick.cls ≠ "java/lang/invoke/MethodHandle" ∧ yX11_isThick.cls ≠ "java/lang/invoke/VarHandle" ∧ (parseMethodDescriptor yX11_isThick.desc).map (fun d => d.parameters.length) = some 1 := by decide +kernel
abbrev rm_X11_isThick : Room := { frames := 1, cells := 0, slots := 0, locals := 22 }
def F_X11_isThick (a1 : Int32) (σ : SG) (ρ : RG) : Option (Int32) :=
  bn (F_X11_isWithin a1 (1 : Int32) (40 : Int32) σ ρ) fun r1 =>
  gd (isb r1) <|
  some r1
set_option maxHeartbeats 4000000 in
set_option maxRecDepth 100000 in
theorem w_X11_isThick_0 {a1 : Int32} {p : Program} {e : Env} {s : State} {m : MethodId} {args : Array Value} {below : List Frame} {meth : Method} {c : Code} {σ0 : SG} {ρ0 : RG} {r : Int32} (C : Cx Y D N ad p s m args meth c cX11_isThick 1 (some .boolean) RX11 wsL_law) {σ : SG} {ρ : RG} {H : Heap} {locs : List Loc} {ls : Array Slot} (hσ0 : σ = σ0) (hρ0 : ρ = ρ0) (hL : Lay N K len ρ) (hF : F_X11_isThick a1 σ ρ = some r) (hP : WP Y D N ad K len σ ρ H) (hS : va_S (AA N ad s.heap.size) s.heap H locs) (hl : lv_has ls 1 [(0, .int a1)]) : W p l e rm_X11_isThick s m args below meth c H locs 0 0 (MQ below (QW Y D N ad K len σ0 ρ0 (AA N ad s.heap.size) (some (.int r))) args s 0 0 (AA N ad s.heap.size)) (F0 m 0 ls []) := by
  have hx := C.1.1
  have hb := C.1.2.1
  unfold F_X11_isThick at hF
  refine lv_iload_n hx hb dX11_isThick_0 rfl (lv_at hl 0 rfl) ?_
  refine lv_iconst (v := 1) hx hb dX11_isThick_1 (by decide) ?_
  refine lv_bipush (v := 40) hx hb dX11_isThick_2 (by decide +kernel) ?_
  obtain ⟨r1, hq1, hF⟩ := bn_1 hF
  refine x_callS C hP hS (c_X11_isWithin hL hq1) (va_cwS 3 C.1.2.2.2.2 (gdS mw_97 mw_98 mw_2 mw_99) rfl rfl rfl hd_X11_isWithin.2 ⟨Nat.le_of_ble_eq_true rfl, Nat.le_of_ble_eq_true rfl⟩) rfl rfl hl.1 (Nat.le_of_ble_eq_true rfl) ⟨Nat.zero_le _, Nat.zero_le _⟩ dX11_isThick_4 (fun H locs hP hS => ?_)
  obtain ⟨gr, hF⟩ := gd_1 hF
  obtain rfl := ret_1 hF
  subst hσ0
  subst hρ0
  exact x_zret rfl gr C hP hS dX11_isThick_7
set_option maxHeartbeats 4000000 in
set_option maxRecDepth 100000 in
theorem c_X11_isThick {a1 : Int32} {r : Int32} {σ : SG} {ρ : RG} (hL : Lay N K len ρ) (hF : F_X11_isThick a1 σ ρ = some r) : MT l Y D N ad K len yX11_isThick (Cond.code yX11_isThick cX11_isThick 1 (some .boolean) :: wsL_law) rm_X11_isThick [.int a1] σ ρ (some (.int r)) σ ρ := by
  refine mt_of (cc := cX11_isThick) (nL := 1) (ret := (some .boolean)) (by decide) (Nat.le_of_ble_eq_true rfl) ?_
  intro p e s m args below meth c ls C hnm hP hS hl
  exact w_X11_isThick_0 C rfl rfl hL hF hP hS hl

/-! CutCrooked.private static boolean isSlope(int);  -/
theorem dX11_isSlope_0 : decode cX11_isSlope 0 = .ok (.iload_n 0, 1) := by decide +kernel
theorem dX11_isSlope_1 : decode cX11_isSlope 1 = .ok (.bipush (-99), 2) := by decide +kernel
theorem dX11_isSlope_3 : decode cX11_isSlope 3 = .ok (.bipush 99, 2) := by decide +kernel
theorem dX11_isSlope_5 : decode cX11_isSlope 5 = .ok (.invokestatic 56, 3) := by decide +kernel
theorem dX11_isSlope_8 : decode cX11_isSlope 8 = .ok (.ireturn, 1) := by decide +kernel
theorem hd_X11_isSlope : yX11_isSlope.cls = RX11 ∧ yX11_isSlope.cls ≠ "java/lang/invoke/MethodHandle" ∧ yX11_isSlope.cls ≠ "java/lang/invoke/VarHandle" ∧ (parseMethodDescriptor yX11_isSlope.desc).map (fun d => d.parameters.length) = some 1 := by decide +kernel
abbrev rm_X11_isSlope : Room := { frames := 1, cells := 0, slots := 0, locals := 22 }
def F_X11_isSlope (a1 : Int32) (σ : SG) (ρ : RG) : Option (Int32) :=
  bn (F_X11_isWithin a1 (-99 : Int32) (99 : Int32) σ ρ) fun r1 =>
  gd (isb r1) <|
  some r1
set_option maxHeartbeats 4000000 in
set_option maxRecDepth 100000 in
theorem w_X11_isSlope_0 {a1 : Int32} {p : Program} {e : Env} {s : State} {m : MethodId} {args : Array Value} {below : List Frame} {meth : Method} {c : Code} {σ0 : SG} {ρ0 : RG} {r : Int32} (C : Cx Y D N ad p s m args meth c cX11_isSlope 1 (some .boolean) RX11 wsL_law) {σ : SG} {ρ : RG} {H : Heap} {locs : List Loc} {ls : Array Slot} (hσ0 : σ = σ0) (hρ0 : ρ = ρ0) (hL : Lay N K len ρ) (hF : F_X11_isSlope a1 σ ρ = some r) (hP : WP Y D N ad K len σ ρ H) (hS : va_S (AA N ad s.heap.size) s.heap H locs) (hl : lv_has ls 1 [(0, .int a1)]) : W p l e rm_X11_isSlope s m args below meth c H locs 0 0 (MQ below (QW Y D N ad K len σ0 ρ0 (AA N ad s.heap.size) (some (.int r))) args s 0 0 (AA N ad s.heap.size)) (F0 m 0 ls []) := by
  have hx := C.1.1
  have hb := C.1.2.1
  unfold F_X11_isSlope at hF
  refine lv_iload_n hx hb dX11_isSlope_0 rfl (lv_at hl 0 rfl) ?_
  refine lv_bipush (v := -99) hx hb dX11_isSlope_1 (by decide +kernel) ?_
  refine lv_bipush (v := 99) hx hb dX11_isSlope_3 (by decide +kernel) ?_
  obtain ⟨r1, hq1, hF⟩ := bn_1 hF
  refine x_callS C hP hS (c_X11_isWithin hL hq1) (va_cwS 3 C.1.2.2.2.2 (gdS mw_97 mw_98 mw_2 mw_99) rfl rfl rfl hd_X11_isWithin.2 ⟨Nat.le_of_ble_eq_true rfl, Nat.le_of_ble_eq_true rfl⟩) rfl rfl hl.1 (Nat.le_of_ble_eq_true rfl) ⟨Nat.zero_le _, Nat.zero_le _⟩ dX11_isSlope_5 (fun H locs hP hS => ?_)
  obtain ⟨gr, hF⟩ := gd_1 hF
  obtain rfl := ret_1 hF
  subst hσ0
  subst hρ0
  exact x_zret rfl gr C hP hS dX11_isSlope_8
set_option maxHeartbeats 4000000 in
set_option maxRecDepth 100000 in
theorem c_X11_isSlope {a1 : Int32} {r : Int32} {σ : SG} {ρ : RG} (hL : Lay N K len ρ) (hF : F_X11_isSlope a1 σ ρ = some r) : MT l Y D N ad K len yX11_isSlope (Cond.code yX11_isSlope cX11_isSlope 1 (some .boolean) :: wsL_law) rm_X11_isSlope [.int a1] σ ρ (some (.int r)) σ ρ := by
  refine mt_of (cc := cX11_isSlope) (nL := 1) (ret := (some .boolean)) (by decide) (Nat.le_of_ble_eq_true rfl) ?_
  intro p e s m args below meth c ls C hnm hP hS hl
  exact w_X11_isSlope_0 C rfl rfl hL hF hP hS hl

/-! CutCrooked.private static int valueAt(int[], int);  -/
theorem dX11_valueAt_0 : decode cX11_valueAt 0 = .ok (.iload_n 1, 1) := by decide +kernel
theorem dX11_valueAt_1 : decode cX11_valueAt 1 = .ok (.ifCond .lt 15, 3) := by decide +kernel
theorem dX11_valueAt_4 : decode cX11_valueAt 4 = .ok (.iload_n 1, 1) := by decide +kernel
theorem dX11_valueAt_5 : decode cX11_valueAt 5 = .ok (.aload_n 0, 1) := by decide +kernel
theorem dX11_valueAt_6 : decode cX11_valueAt 6 = .ok (.arraylength, 1) := by decide +kernel
theorem dX11_valueAt_7 : decode cX11_valueAt 7 = .ok (.if_icmp .ge 9, 3) := by decide +kernel
theorem dX11_valueAt_10 : decode cX11_valueAt 10 = .ok (.aload_n 0, 1) := by decide +kernel
theorem dX11_valueAt_11 : decode cX11_valueAt 11 = .ok (.iload_n 1, 1) := by decide +kernel
theorem dX11_valueAt_12 : decode cX11_valueAt 12 = .ok (.iaload, 1) := by decide +kernel
theorem dX11_valueAt_13 : decode cX11_valueAt 13 = .ok (.goto 4, 3) := by decide +kernel
theorem dX11_valueAt_16 : decode cX11_valueAt 16 = .ok (.iconst 0, 1) := by decide +kernel
theorem dX11_valueAt_17 : decode cX11_valueAt 17 = .ok (.ireturn, 1) := by decide +kernel
theorem hd_X11_valueAt : yX11_valueAt.cls = RX11 ∧ yX11_valueAt.cls ≠ "java/lang/invoke/MethodHandle" ∧ yX11_valueAt.cls ≠ "java/lang/invoke/VarHandle" ∧ (parseMethodDescriptor yX11_valueAt.desc).map (fun d => d.parameters.length) = some 2 := by decide +kernel
abbrev rm_X11_valueAt : Room := { frames := 0, cells := 0, slots := 0, locals := 0 }
def F_X11_valueAt (q n : Nat) (a2 : Int32) (σ : SG) (ρ : RG) : Option (Int32) :=
  if a2 < 0 then
    some (0 : Int32)
  else
    if (Int32.ofNat n) ≤ a2 then
      some (0 : Int32)
    else
      gd (inb a2 n) <|
      some (σ q (a2).toNatClampNeg)
set_option maxHeartbeats 4000000 in
set_option maxRecDepth 100000 in
theorem w_X11_valueAt_0 {q n : Nat} {a2 : Int32} {p : Program} {e : Env} {s : State} {m : MethodId} {args : Array Value} {below : List Frame} {meth : Method} {c : Code} {σ0 : SG} {ρ0 : RG} {r : Int32} (C : Cx Y D N ad p s m args meth c cX11_valueAt 2 (some .int) RX11 wsL_law) {σ : SG} {ρ : RG} {H : Heap} {locs : List Loc} {ls : Array Slot} (hσ0 : σ = σ0) (hρ0 : ρ = ρ0) (hL : Lay N K len ρ) (hq : isA 14 N K len q n) (hF : F_X11_valueAt q n a2 σ ρ = some r) (hP : WP Y D N ad K len σ ρ H) (hS : va_S (AA N ad s.heap.size) s.heap H locs) (hl : lv_has ls 2 [(0, .ref (ad q)), (1, .int a2)]) : W p l e rm_X11_valueAt s m args below meth c H locs 0 0 (MQ below (QW Y D N ad K len σ0 ρ0 (AA N ad s.heap.size) (some (.int r))) args s 0 0 (AA N ad s.heap.size)) (F0 m 0 ls []) := by
  have hx := C.1.1
  have hb := C.1.2.1
  unfold F_X11_valueAt at hF
  refine lv_iload_n hx hb dX11_valueAt_0 rfl (lv_at hl 1 rfl) ?_
  refine lv_if_lt (tgt := 16) hx hb dX11_valueAt_1 (by decide) (fun c_1 => ?_) (fun c_1 => ?_) -- COND 1 by_cases c_1 : a2 < 0
  · have hF := ite_t hF c_1
    refine lv_iconst (v := 0) hx hb dX11_valueAt_16 (by decide) ?_
    obtain rfl := ret_1 hF
    subst hσ0
    subst hρ0
    exact x_iret rfl C hP hS dX11_valueAt_17
  · have hF := ite_f hF c_1
    refine lv_iload_n hx hb dX11_valueAt_4 rfl (lv_at hl 1 rfl) ?_
    refine lv_aload_n hx hb dX11_valueAt_5 rfl (lv_at hl 0 rfl) ?_
    refine x_alen (v := (Int32.ofNat n)) C hP hq.1 hq.2.1 (by decide) hq.2.2 rfl dX11_valueAt_6 ?_
    refine lv_icmp_ge (tgt := 16) hx hb dX11_valueAt_7 (by decide) (fun c_2 => ?_) (fun c_2 => ?_) -- COND 2 by_cases c_2 : (Int32.ofNat n) ≤ a2
    · have hF := ite_t hF c_2
      refine lv_iconst (v := 0) hx hb dX11_valueAt_16 (by decide) ?_
      obtain rfl := ret_1 hF
      subst hσ0
      subst hρ0
      exact x_iret rfl C hP hS dX11_valueAt_17
    · have hF := ite_f hF c_2
      refine lv_aload_n hx hb dX11_valueAt_10 rfl (lv_at hl 0 rfl) ?_
      refine lv_iload_n hx hb dX11_valueAt_11 rfl (lv_at hl 1 rfl) ?_
      obtain ⟨g3, hF⟩ := gd_1 hF
      refine x_iald C hP hq.1 hq.2.1 hq.2.2 g3 dX11_valueAt_12 ?_
      refine lv_goto (tgt := 17) hx hb dX11_valueAt_13 (by decide) ?_
      obtain rfl := ret_1 hF
      subst hσ0
      subst hρ0
      exact x_iret rfl C hP hS dX11_valueAt_17
set_option maxHeartbeats 4000000 in
set_option maxRecDepth 100000 in
theorem c_X11_valueAt {q n : Nat} {a2 : Int32} {r : Int32} {σ : SG} {ρ : RG} (hL : Lay N K len ρ) (hq : isA 14 N K len q n) (hF : F_X11_valueAt q n a2 σ ρ = some r) : MT l Y D N ad K len yX11_valueAt (Cond.code yX11_valueAt cX11_valueAt 2 (some .int) :: wsL_law) rm_X11_valueAt [.ref (ad q), .int a2] σ ρ (some (.int r)) σ ρ := by
  refine mt_of (cc := cX11_valueAt) (nL := 2) (ret := (some .int)) (by decide) (Nat.le_of_ble_eq_true rfl) ?_
  intro p e s m args below meth c ls C hnm hP hS hl
  exact w_X11_valueAt_0 C rfl rfl hL hq hF hP hS hl

/-! CutCrooked$Table.CutCrooked$Cutter cutterAt(int); 1 -/
theorem dX8_cutterAt_0 : decode cX8_cutterAt 0 = .ok (.iload_n 1, 1) := by decide +kernel
theorem dX8_cutterAt_1 : decode cX8_cutterAt 1 = .ok (.ifCond .lt 29, 3) := by decide +kernel
theorem dX8_cutterAt_4 : decode cX8_cutterAt 4 = .ok (.iload_n 1, 1) := by decide +kernel
theorem dX8_cutterAt_5 : decode cX8_cutterAt 5 = .ok (.aload_n 0, 1) := by decide +kernel
theorem dX8_cutterAt_6 : decode cX8_cutterAt 6 = .ok (.getfield 49, 3) := by decide +kernel
theorem dX8_cutterAt_9 : decode cX8_cutterAt 9 = .ok (.if_icmp .ge 21, 3) := by decide +kernel
theorem dX8_cutterAt_12 : decode cX8_cutterAt 12 = .ok (.iload_n 1, 1) := by decide +kernel
theorem dX8_cutterAt_13 : decode cX8_cutterAt 13 = .ok (.aload_n 0, 1) := by decide +kernel
theorem dX8_cutterAt_14 : decode cX8_cutterAt 14 = .ok (.getfield 11, 3) := by decide +kernel
theorem dX8_cutterAt_17 : decode cX8_cutterAt 17 = .ok (.arraylength, 1) := by decide +kernel
theorem dX8_cutterAt_18 : decode cX8_cutterAt 18 = .ok (.if_icmp .ge 12, 3) := by decide +kernel
theorem dX8_cutterAt_21 : decode cX8_cutterAt 21 = .ok (.aload_n 0, 1) := by decide +kernel
theorem dX8_cutterAt_22 : decode cX8_cutterAt 22 = .ok (.getfield 11, 3) := by decide +kernel
theorem dX8_cutterAt_25 : decode cX8_cutterAt 25 = .ok (.iload_n 1, 1) := by decide +kernel
theorem dX8_cutterAt_26 : decode cX8_cutterAt 26 = .ok (.aaload, 1) := by decide +kernel
theorem dX8_cutterAt_27 : decode cX8_cutterAt 27 = .ok (.goto 4, 3) := by decide +kernel
theorem dX8_cutterAt_30 : decode cX8_cutterAt 30 = .ok (.aconst_null, 1) := by decide +kernel
theorem dX8_cutterAt_31 : decode cX8_cutterAt 31 = .ok (.areturn, 1) := by decide +kernel
theorem hd_X8_cutterAt : yX8_cutterAt.cls = RX8 ∧ yX8_cutterAt.cls ≠ "java/lang/invoke/MethodHandle" ∧ yX8_cutterAt.cls ≠ "java/lang/invoke/VarHandle" ∧ (parseMethodDescriptor yX8_cutterAt.desc).map (fun d => d.parameters.length) = some 1 := by decide +kernel
abbrev rm_X8_cutterAt_1 : Room := { frames := 0, cells := 0, slots := 0, locals := 0 }
def F_X8_cutterAt_1 (a1 : Int32) (σ : SG) (ρ : RG) : Option (Option Nat) :=
  if a1 < 0 then
    some none
  else
    if (σ 1 1) ≤ a1 then
      some none
    else
      if (6 : Int32) ≤ a1 then
        some none
      else
        gd (inb a1 6) <|
        some (ρ 2 (a1).toNatClampNeg)
set_option maxHeartbeats 4000000 in
set_option maxRecDepth 100000 in
theorem w_X8_cutterAt_1_0 {a1 : Int32} {p : Program} {e : Env} {s : State} {m : MethodId} {args : Array Value} {below : List Frame} {meth : Method} {c : Code} {σ0 : SG} {ρ0 : RG} {r : Option Nat} (C : Cx Y D N ad p s m args meth c cX8_cutterAt 2 (some (.object "CutCrooked$Cutter")) RX8 wsL_law) {σ : SG} {ρ : RG} {H : Heap} {locs : List Loc} {ls : Array Slot} (hσ0 : σ = σ0) (hρ0 : ρ = ρ0) (hL : Lay N K len ρ) (hF : F_X8_cutterAt_1 a1 σ ρ = some r) (hP : WP Y D N ad K len σ ρ H) (hS : va_S (AA N ad s.heap.size) s.heap H locs) (hl : lv_has ls 2 [(0, .ref (ad 1)), (1, .int a1)]) : W p l e rm_X8_cutterAt_1 s m args below meth c H locs 0 0 (MQ below (QW Y D N ad K len σ0 ρ0 (AA N ad s.heap.size) (some (rf ad r))) args s 0 0 (AA N ad s.heap.size)) (F0 m 0 ls []) := by
  have hx := C.1.1
  have hb := C.1.2.1
  unfold F_X8_cutterAt_1 at hF
  refine lv_iload_n hx hb dX8_cutterAt_0 rfl (lv_at hl 1 rfl) ?_
  refine lv_if_lt (tgt := 30) hx hb dX8_cutterAt_1 (by decide) (fun c_1 => ?_) (fun c_1 => ?_) -- COND 1 by_cases c_1 : a1 < 0
  · have hF := ite_t hF c_1
    refine lv_null hx hb dX8_cutterAt_30 ?_
    obtain rfl := ret_1 hF
    subst hσ0
    subst hρ0
    exact x_aret rfl (rf_or _ _) C hP hS dX8_cutterAt_31
  · have hF := ite_f hF c_1
    refine lv_iload_n hx hb dX8_cutterAt_4 rfl (lv_at hl 1 rfl) ?_
    refine lv_aload_n hx hb dX8_cutterAt_5 rfl (lv_at hl 0 rfl) ?_
    refine get_8_1 C hP (lr_1 hL) (lk_1 hL) inlX8 mw_432 dX8_cutterAt_6 ?_
    refine lv_icmp_ge (tgt := 30) hx hb dX8_cutterAt_9 (by decide) (fun c_2 => ?_) (fun c_2 => ?_) -- COND 2 by_cases c_2 : (σ 1 1) ≤ a1
    · have hF := ite_t hF c_2
      refine lv_null hx hb dX8_cutterAt_30 ?_
      obtain rfl := ret_1 hF
      subst hσ0
      subst hρ0
      exact x_aret rfl (rf_or _ _) C hP hS dX8_cutterAt_31
    · have hF := ite_f hF c_2
      refine lv_iload_n hx hb dX8_cutterAt_12 rfl (lv_at hl 1 rfl) ?_
      refine lv_aload_n hx hb dX8_cutterAt_13 rfl (lv_at hl 0 rfl) ?_
      refine get_8_0 C hP (lr_1 hL) (lk_1 hL) inlX8 mw_39 (lf_1_0 hL) dX8_cutterAt_14 ?_
      refine x_alen (v := (6 : Int32)) C hP (lr_2 hL) (lk_2 hL) (by decide) (ln_2 hL) (by decide +kernel) dX8_cutterAt_17 ?_
      refine lv_icmp_ge (tgt := 30) hx hb dX8_cutterAt_18 (by decide) (fun c_3 => ?_) (fun c_3 => ?_) -- COND 3 by_cases c_3 : (6 : Int32) ≤ a1
      · have hF := ite_t hF c_3
        refine lv_null hx hb dX8_cutterAt_30 ?_
        obtain rfl := ret_1 hF
        subst hσ0
        subst hρ0
        exact x_aret rfl (rf_or _ _) C hP hS dX8_cutterAt_31
      · have hF := ite_f hF c_3
        refine lv_aload_n hx hb dX8_cutterAt_21 rfl (lv_at hl 0 rfl) ?_
        refine get_8_0 C hP (lr_1 hL) (lk_1 hL) inlX8 mw_39 (lf_1_0 hL) dX8_cutterAt_22 ?_
        refine lv_iload_n hx hb dX8_cutterAt_25 rfl (lv_at hl 1 rfl) ?_
        obtain ⟨g4, hF⟩ := gd_1 hF
        refine x_aald (v := rf ad (ρ 2 (a1).toNatClampNeg)) C hP (lr_2 hL) (lk_2 hL) (Or.inl ⟨rfl, rfl, rfl⟩) (ln_2 hL) g4 rfl dX8_cutterAt_26 ?_
        refine lv_goto (tgt := 31) hx hb dX8_cutterAt_27 (by decide) ?_
        obtain rfl := ret_1 hF
        subst hσ0
        subst hρ0
        exact x_aret rfl (rf_or _ _) C hP hS dX8_cutterAt_31
set_option maxHeartbeats 4000000 in
set_option maxRecDepth 100000 in
theorem c_X8_cutterAt_1 {a1 : Int32} {r : Option Nat} {σ : SG} {ρ : RG} (hL : Lay N K len ρ) (hF : F_X8_cutterAt_1 a1 σ ρ = some r) : MT l Y D N ad K len yX8_cutterAt (Cond.code yX8_cutterAt cX8_cutterAt 2 (some (.object "CutCrooked$Cutter")) :: wsL_law) rm_X8_cutterAt_1 [.ref (ad 1), .int a1] σ ρ (some (rf ad r)) σ ρ := by
  refine mt_of (cc := cX8_cutterAt) (nL := 2) (ret := (some (.object "CutCrooked$Cutter"))) (by decide) (Nat.le_of_ble_eq_true rfl) ?_
  intro p e s m args below meth c ls C hnm hP hS hl
  exact w_X8_cutterAt_1_0 C rfl rfl hL hF hP hS hl

/-! CutCrooked$Table.CutCrooked$Cutter cutterAt(int); 14 -/
abbrev rm_X8_cutterAt_14 : Room := { frames := 0, cells := 0, slots := 0, locals := 0 }
def F_X8_cutterAt_14 (a1 : Int32) (σ : SG) (ρ : RG) : Option (Option Nat) :=
  if a1 < 0 then
    some none
  else
    if (σ 14 1) ≤ a1 then
      some none
    else
      if (6 : Int32) ≤ a1 then
        some none
      else
        gd (inb a1 6) <|
        some (ρ 15 (a1).toNatClampNeg)
set_option maxHeartbeats 4000000 in
set_option maxRecDepth 100000 in
theorem w_X8_cutterAt_14_0 {a1 : Int32} {p : Program} {e : Env} {s : State} {m : MethodId} {args : Array Value} {below : List Frame} {meth : Method} {c : Code} {σ0 : SG} {ρ0 : RG} {r : Option Nat} (C : Cx Y D N ad p s m args meth c cX8_cutterAt 2 (some (.object "CutCrooked$Cutter")) RX8 wsL_law) {σ : SG} {ρ : RG} {H : Heap} {locs : List Loc} {ls : Array Slot} (hσ0 : σ = σ0) (hρ0 : ρ = ρ0) (hL : Lay N K len ρ) (hF : F_X8_cutterAt_14 a1 σ ρ = some r) (hP : WP Y D N ad K len σ ρ H) (hS : va_S (AA N ad s.heap.size) s.heap H locs) (hl : lv_has ls 2 [(0, .ref (ad 14)), (1, .int a1)]) : W p l e rm_X8_cutterAt_14 s m args below meth c H locs 0 0 (MQ below (QW Y D N ad K len σ0 ρ0 (AA N ad s.heap.size) (some (rf ad r))) args s 0 0 (AA N ad s.heap.size)) (F0 m 0 ls []) := by
  have hx := C.1.1
  have hb := C.1.2.1
  unfold F_X8_cutterAt_14 at hF
  refine lv_iload_n hx hb dX8_cutterAt_0 rfl (lv_at hl 1 rfl) ?_
  refine lv_if_lt (tgt := 30) hx hb dX8_cutterAt_1 (by decide) (fun c_1 => ?_) (fun c_1 => ?_) -- COND 1 by_cases c_1 : a1 < 0
  · have hF := ite_t hF c_1
    refine lv_null hx hb dX8_cutterAt_30 ?_
    obtain rfl := ret_1 hF
    subst hσ0
    subst hρ0
    exact x_aret rfl (rf_or _ _) C hP hS dX8_cutterAt_31
  · have hF := ite_f hF c_1
    refine lv_iload_n hx hb dX8_cutterAt_4 rfl (lv_at hl 1 rfl) ?_
    refine lv_aload_n hx hb dX8_cutterAt_5 rfl (lv_at hl 0 rfl) ?_
    refine get_8_1 C hP (lr_14 hL) (lk_14 hL) inlX8 mw_432 dX8_cutterAt_6 ?_
    refine lv_icmp_ge (tgt := 30) hx hb dX8_cutterAt_9 (by decide) (fun c_2 => ?_) (fun c_2 => ?_) -- COND 2 by_cases c_2 : (σ 14 1) ≤ a1
    · have hF := ite_t hF c_2
      refine lv_null hx hb dX8_cutterAt_30 ?_
      obtain rfl := ret_1 hF
      subst hσ0
      subst hρ0
      exact x_aret rfl (rf_or _ _) C hP hS dX8_cutterAt_31
    · have hF := ite_f hF c_2
      refine lv_iload_n hx hb dX8_cutterAt_12 rfl (lv_at hl 1 rfl) ?_
      refine lv_aload_n hx hb dX8_cutterAt_13 rfl (lv_at hl 0 rfl) ?_
      refine get_8_0 C hP (lr_14 hL) (lk_14 hL) inlX8 mw_39 (lf_14_0 hL) dX8_cutterAt_14 ?_
      refine x_alen (v := (6 : Int32)) C hP (lr_15 hL) (lk_15 hL) (by decide) (ln_15 hL) (by decide +kernel) dX8_cutterAt_17 ?_
      refine lv_icmp_ge (tgt := 30) hx hb dX8_cutterAt_18 (by decide) (fun c_3 => ?_) (fun c_3 => ?_) -- COND 3 by_cases c_3 : (6 : Int32) ≤ a1
      · have hF := ite_t hF c_3
        refine lv_null hx hb dX8_cutterAt_30 ?_
        obtain rfl := ret_1 hF
        subst hσ0
        subst hρ0
        exact x_aret rfl (rf_or _ _) C hP hS dX8_cutterAt_31
      · have hF := ite_f hF c_3
        refine lv_aload_n hx hb dX8_cutterAt_21 rfl (lv_at hl 0 rfl) ?_
        refine get_8_0 C hP (lr_14 hL) (lk_14 hL) inlX8 mw_39 (lf_14_0 hL) dX8_cutterAt_22 ?_
        refine lv_iload_n hx hb dX8_cutterAt_25 rfl (lv_at hl 1 rfl) ?_
        obtain ⟨g4, hF⟩ := gd_1 hF
        refine x_aald (v := rf ad (ρ 15 (a1).toNatClampNeg)) C hP (lr_15 hL) (lk_15 hL) (Or.inl ⟨rfl, rfl, rfl⟩) (ln_15 hL) g4 rfl dX8_cutterAt_26 ?_
        refine lv_goto (tgt := 31) hx hb dX8_cutterAt_27 (by decide) ?_
        obtain rfl := ret_1 hF
        subst hσ0
        subst hρ0
        exact x_aret rfl (rf_or _ _) C hP hS dX8_cutterAt_31
set_option maxHeartbeats 4000000 in
set_option maxRecDepth 100000 in
theorem c_X8_cutterAt_14 {a1 : Int32} {r : Option Nat} {σ : SG} {ρ : RG} (hL : Lay N K len ρ) (hF : F_X8_cutterAt_14 a1 σ ρ = some r) : MT l Y D N ad K len yX8_cutterAt (Cond.code yX8_cutterAt cX8_cutterAt 2 (some (.object "CutCrooked$Cutter")) :: wsL_law) rm_X8_cutterAt_14 [.ref (ad 14), .int a1] σ ρ (some (rf ad r)) σ ρ := by
  refine mt_of (cc := cX8_cutterAt) (nL := 2) (ret := (some (.object "CutCrooked$Cutter"))) (by decide) (Nat.le_of_ble_eq_true rfl) ?_
  intro p e s m args below meth c ls C hnm hP hS hl
  exact w_X8_cutterAt_14_0 C rfl rfl hL hF hP hS hl

/-! CutCrooked.public int see(int, int);  -/
theorem dX11_see_0 : decode cX11_see 0 = .ok (.iload_n 1, 1) := by decide +kernel
theorem dX11_see_1 : decode cX11_see 1 = .ok (.invokestatic 233, 3) := by decide +kernel
theorem dX11_see_4 : decode cX11_see 4 = .ok (.ifCond .eq 10, 3) := by decide +kernel
theorem dX11_see_7 : decode cX11_see 7 = .ok (.iload_n 2, 1) := by decide +kernel
theorem dX11_see_8 : decode cX11_see 8 = .ok (.invokestatic 233, 3) := by decide +kernel
theorem dX11_see_11 : decode cX11_see 11 = .ok (.ifCond .ne 6, 3) := by decide +kernel
theorem dX11_see_14 : decode cX11_see 14 = .ok (.bipush (-2), 2) := by decide +kernel
theorem dX11_see_16 : decode cX11_see 16 = .ok (.ireturn, 1) := by decide +kernel
theorem dX11_see_17 : decode cX11_see 17 = .ok (.aload_n 0, 1) := by decide +kernel
theorem dX11_see_18 : decode cX11_see 18 = .ok (.getfield 12, 3) := by decide +kernel
theorem dX11_see_21 : decode cX11_see 21 = .ok (.iload_n 1, 1) := by decide +kernel
theorem dX11_see_22 : decode cX11_see 22 = .ok (.putfield 236, 3) := by decide +kernel
theorem dX11_see_25 : decode cX11_see 25 = .ok (.aload_n 0, 1) := by decide +kernel
theorem dX11_see_26 : decode cX11_see 26 = .ok (.getfield 12, 3) := by decide +kernel
theorem dX11_see_29 : decode cX11_see 29 = .ok (.iload_n 2, 1) := by decide +kernel
theorem dX11_see_30 : decode cX11_see 30 = .ok (.putfield 239, 3) := by decide +kernel
theorem dX11_see_33 : decode cX11_see 33 = .ok (.iconst 1, 1) := by decide +kernel
theorem dX11_see_34 : decode cX11_see 34 = .ok (.ireturn, 1) := by decide +kernel
theorem hd_X11_see : yX11_see.cls = RX11 ∧ yX11_see.cls ≠ "java/lang/invoke/MethodHandle" ∧ yX11_see.cls ≠ "java/lang/invoke/VarHandle" ∧ (parseMethodDescriptor yX11_see.desc).map (fun d => d.parameters.length) = some 2 := by decide +kernel
abbrev rm_X11_see : Room := { frames := 2, cells := 0, slots := 0, locals := 42 }
def F_X11_see (a1 : Int32) (a2 : Int32) (σ : SG) (ρ : RG) : Option (Int32 × SG) :=
  bn (F_X11_isSlope a1 σ ρ) fun r1 =>
  if r1 = 0 then
    some ((-2 : Int32), σ)
  else
    bn (F_X11_isSlope a2 σ ρ) fun r3 =>
    if r3 = 0 then
      some ((-2 : Int32), σ)
    else
      nm (s2 σ 1 7 a1) fun σ6 =>
      nm (s2 σ6 1 8 a2) fun σ8 =>
      some ((1 : Int32), σ8)
set_option maxHeartbeats 4000000 in
set_option maxRecDepth 100000 in
theorem w_X11_see_0 {a1 : Int32} {a2 : Int32} {p : Program} {e : Env} {s : State} {m : MethodId} {args : Array Value} {below : List Frame} {meth : Method} {c : Code} {ρ0 : RG} {r : Int32} {σ1 : SG} (C : Cx Y D N ad p s m args meth c cX11_see 3 (some .int) RX11 wsL_law) {σ : SG} {ρ : RG} {H : Heap} {locs : List Loc} {ls : Array Slot} (hρ0 : ρ = ρ0) (hL : Lay N K len ρ) (hF : F_X11_see a1 a2 σ ρ = some (r, σ1)) (hP : WP Y D N ad K len σ ρ H) (hS : va_S (AA N ad s.heap.size) s.heap H locs) (hl : lv_has ls 3 [(0, .ref (ad 0)), (1, .int a1), (2, .int a2)]) : W p l e rm_X11_see s m args below meth c H locs 0 0 (MQ below (QW Y D N ad K len σ1 ρ0 (AA N ad s.heap.size) (some (.int r))) args s 0 0 (AA N ad s.heap.size)) (F0 m 0 ls []) := by
  have hx := C.1.1
  have hb := C.1.2.1
  unfold F_X11_see at hF
  refine lv_iload_n hx hb dX11_see_0 rfl (lv_at hl 1 rfl) ?_
  obtain ⟨r1, hq1, hF⟩ := bn_1 hF
  refine x_callS C hP hS (c_X11_isSlope hL hq1) (va_cwS 1 C.1.2.2.2.2 (gdS mw_901 mw_902 mw_2 mw_903) rfl rfl rfl hd_X11_isSlope.2 ⟨Nat.le_of_ble_eq_true rfl, Nat.le_of_ble_eq_true rfl⟩) rfl rfl hl.1 (Nat.le_of_ble_eq_true rfl) ⟨Nat.zero_le _, Nat.zero_le _⟩ dX11_see_1 (fun H locs hP hS => ?_)
  refine lv_if_eq (tgt := 14) hx hb dX11_see_4 (by decide) (fun c_2 => ?_) (fun c_2 => ?_) -- COND 2 by_cases c_2 : r1 = 0
  · have hF := ite_t hF c_2
    refine lv_bipush (v := -2) hx hb dX11_see_14 (by decide +kernel) ?_
    obtain ⟨rfl, rfl⟩ := ret_2 hF
    subst hρ0
    exact x_iret rfl C hP hS dX11_see_16
  · have hF := ite_f hF c_2
    refine lv_iload_n hx hb dX11_see_7 rfl (lv_at hl 2 rfl) ?_
    obtain ⟨r3, hq3, hF⟩ := bn_1 hF
    refine x_callS C hP hS (c_X11_isSlope hL hq3) (va_cwS 1 C.1.2.2.2.2 (gdS mw_901 mw_902 mw_2 mw_903) rfl rfl rfl hd_X11_isSlope.2 ⟨Nat.le_of_ble_eq_true rfl, Nat.le_of_ble_eq_true rfl⟩) rfl rfl hl.1 (Nat.le_of_ble_eq_true rfl) ⟨Nat.zero_le _, Nat.zero_le _⟩ dX11_see_8 (fun H locs hP hS => ?_)
    refine lv_if_ne (tgt := 17) hx hb dX11_see_11 (by decide) (fun c_4 => ?_) (fun c_4 => ?_) -- COND 4 rcases (Decidable.em (r3 = 0)).symm with c_4 | c_4
    · have hF := ite_f hF c_4
      refine lv_aload_n hx hb dX11_see_17 rfl (lv_at hl 0 rfl) ?_
      refine get_11_0 C hP (lr_0 hL) (lk_0 hL) inlX11 mw_15 (lf_0_0 hL) dX11_see_18 ?_
      refine lv_iload_n hx hb dX11_see_21 rfl (lv_at hl 1 rfl) ?_
      obtain ⟨σ6, eσ6, hF⟩ := nm_1 hF
      refine put_8_7 C hP hS (lr_1 hL) (lk_1 hL) inlX8 mw_899 eσ6 dX11_see_22 (fun H locs hP hS => ?_)
      refine lv_aload_n hx hb dX11_see_25 rfl (lv_at hl 0 rfl) ?_
      refine get_11_0 C hP (lr_0 hL) (lk_0 hL) inlX11 mw_15 (lf_0_0 hL) dX11_see_26 ?_
      refine lv_iload_n hx hb dX11_see_29 rfl (lv_at hl 2 rfl) ?_
      obtain ⟨σ8, eσ8, hF⟩ := nm_1 hF
      refine put_8_8 C hP hS (lr_1 hL) (lk_1 hL) inlX8 mw_900 eσ8 dX11_see_30 (fun H locs hP hS => ?_)
      refine lv_iconst (v := 1) hx hb dX11_see_33 (by decide) ?_
      obtain ⟨rfl, rfl⟩ := ret_2 hF
      subst hρ0
      exact x_iret rfl C hP hS dX11_see_34
    · have hF := ite_t hF c_4
      refine lv_bipush (v := -2) hx hb dX11_see_14 (by decide +kernel) ?_
      obtain ⟨rfl, rfl⟩ := ret_2 hF
      subst hρ0
      exact x_iret rfl C hP hS dX11_see_16
set_option maxHeartbeats 4000000 in
set_option maxRecDepth 100000 in
theorem c_X11_see {a1 : Int32} {a2 : Int32} {r : Int32} {σ1 : SG} {σ : SG} {ρ : RG} (hL : Lay N K len ρ) (hF : F_X11_see a1 a2 σ ρ = some (r, σ1)) : MT l Y D N ad K len yX11_see (Cond.code yX11_see cX11_see 3 (some .int) :: wsL_law) rm_X11_see [.ref (ad 0), .int a1, .int a2] σ ρ (some (.int r)) σ1 ρ := by
  refine mt_of (cc := cX11_see) (nL := 3) (ret := (some .int)) (by decide) (Nat.le_of_ble_eq_true rfl) ?_
  intro p e s m args below meth c ls C hnm hP hS hl
  exact w_X11_see_0 C rfl hL hF hP hS hl

/-! CutCrooked.public int week(int);  -/
theorem dX11_week_0 : decode cX11_week 0 = .ok (.iload_n 1, 1) := by decide +kernel
theorem dX11_week_1 : decode cX11_week 1 = .ok (.invokestatic 233, 3) := by decide +kernel
theorem dX11_week_4 : decode cX11_week 4 = .ok (.ifCond .ne 6, 3) := by decide +kernel
theorem dX11_week_7 : decode cX11_week 7 = .ok (.bipush (-2), 2) := by decide +kernel
theorem dX11_week_9 : decode cX11_week 9 = .ok (.ireturn, 1) := by decide +kernel
theorem dX11_week_10 : decode cX11_week 10 = .ok (.aload_n 0, 1) := by decide +kernel
theorem dX11_week_11 : decode cX11_week 11 = .ok (.getfield 12, 3) := by decide +kernel
theorem dX11_week_14 : decode cX11_week 14 = .ok (.getfield 242, 3) := by decide +kernel
theorem dX11_week_17 : decode cX11_week 17 = .ok (.aload_n 0, 1) := by decide +kernel
theorem dX11_week_18 : decode cX11_week 18 = .ok (.getfield 12, 3) := by decide +kernel
theorem dX11_week_21 : decode cX11_week 21 = .ok (.getfield 245, 3) := by decide +kernel
theorem dX11_week_24 : decode cX11_week 24 = .ok (.arraylength, 1) := by decide +kernel
theorem dX11_week_25 : decode cX11_week 25 = .ok (.if_icmp .lt 6, 3) := by decide +kernel
theorem dX11_week_28 : decode cX11_week 28 = .ok (.bipush (-4), 2) := by decide +kernel
theorem dX11_week_30 : decode cX11_week 30 = .ok (.ireturn, 1) := by decide +kernel
theorem dX11_week_31 : decode cX11_week 31 = .ok (.aload_n 0, 1) := by decide +kernel
theorem dX11_week_32 : decode cX11_week 32 = .ok (.getfield 12, 3) := by decide +kernel
theorem dX11_week_35 : decode cX11_week 35 = .ok (.getfield 245, 3) := by decide +kernel
theorem dX11_week_38 : decode cX11_week 38 = .ok (.aload_n 0, 1) := by decide +kernel
theorem dX11_week_39 : decode cX11_week 39 = .ok (.getfield 12, 3) := by decide +kernel
theorem dX11_week_42 : decode cX11_week 42 = .ok (.getfield 242, 3) := by decide +kernel
theorem dX11_week_45 : decode cX11_week 45 = .ok (.iload_n 1, 1) := by decide +kernel
theorem dX11_week_46 : decode cX11_week 46 = .ok (.iastore, 1) := by decide +kernel
theorem dX11_week_47 : decode cX11_week 47 = .ok (.aload_n 0, 1) := by decide +kernel
theorem dX11_week_48 : decode cX11_week 48 = .ok (.getfield 12, 3) := by decide +kernel
theorem dX11_week_51 : decode cX11_week 51 = .ok (.dup, 1) := by decide +kernel
theorem dX11_week_52 : decode cX11_week 52 = .ok (.getfield 242, 3) := by decide +kernel
theorem dX11_week_55 : decode cX11_week 55 = .ok (.iconst 1, 1) := by decide +kernel
theorem dX11_week_56 : decode cX11_week 56 = .ok (.iadd, 1) := by decide +kernel
theorem dX11_week_57 : decode cX11_week 57 = .ok (.putfield 242, 3) := by decide +kernel
theorem dX11_week_60 : decode cX11_week 60 = .ok (.aload_n 0, 1) := by decide +kernel
theorem dX11_week_61 : decode cX11_week 61 = .ok (.getfield 12, 3) := by decide +kernel
theorem dX11_week_64 : decode cX11_week 64 = .ok (.getfield 242, 3) := by decide +kernel
theorem dX11_week_67 : decode cX11_week 67 = .ok (.ireturn, 1) := by decide +kernel
theorem hd_X11_week : yX11_week.cls = RX11 ∧ yX11_week.cls ≠ "java/lang/invoke/MethodHandle" ∧ yX11_week.cls ≠ "java/lang/invoke/VarHandle" ∧ (parseMethodDescriptor yX11_week.desc).map (fun d => d.parameters.length) = some 1 := by decide +kernel
abbrev rm_X11_week : Room := { frames := 2, cells := 0, slots := 0, locals := 42 }
def F_X11_week (a1 : Int32) (σ : SG) (ρ : RG) : Option (Int32 × SG) :=
  bn (F_X11_isSlope a1 σ ρ) fun r1 =>
  if r1 = 0 then
    some ((-2 : Int32), σ)
  else
    if (σ 1 10) < (4 : Int32) then
      gd (inb (σ 1 10) 4) <|
      nm (s2 σ 11 ((σ 1 10)).toNatClampNeg a1) fun σ6 =>
      nm ((σ6 1 10) + (1 : Int32)) fun x7 =>
      nm (s2 σ6 1 10 x7) fun σ9 =>
      some ((σ9 1 10), σ9)
    else
      some ((-4 : Int32), σ)
set_option maxHeartbeats 4000000 in
set_option maxRecDepth 100000 in
theorem w_X11_week_0 {a1 : Int32} {p : Program} {e : Env} {s : State} {m : MethodId} {args : Array Value} {below : List Frame} {meth : Method} {c : Code} {ρ0 : RG} {r : Int32} {σ1 : SG} (C : Cx Y D N ad p s m args meth c cX11_week 2 (some .int) RX11 wsL_law) {σ : SG} {ρ : RG} {H : Heap} {locs : List Loc} {ls : Array Slot} (hρ0 : ρ = ρ0) (hL : Lay N K len ρ) (hF : F_X11_week a1 σ ρ = some (r, σ1)) (hP : WP Y D N ad K len σ ρ H) (hS : va_S (AA N ad s.heap.size) s.heap H locs) (hl : lv_has ls 2 [(0, .ref (ad 0)), (1, .int a1)]) : W p l e rm_X11_week s m args below meth c H locs 0 0 (MQ below (QW Y D N ad K len σ1 ρ0 (AA N ad s.heap.size) (some (.int r))) args s 0 0 (AA N ad s.heap.size)) (F0 m 0 ls []) := by
  have hx := C.1.1
  have hb := C.1.2.1
  unfold F_X11_week at hF
  refine lv_iload_n hx hb dX11_week_0 rfl (lv_at hl 1 rfl) ?_
  obtain ⟨r1, hq1, hF⟩ := bn_1 hF
  refine x_callS C hP hS (c_X11_isSlope hL hq1) (va_cwS 1 C.1.2.2.2.2 (gdS mw_901 mw_902 mw_2 mw_903) rfl rfl rfl hd_X11_isSlope.2 ⟨Nat.le_of_ble_eq_true rfl, Nat.le_of_ble_eq_true rfl⟩) rfl rfl hl.1 (Nat.le_of_ble_eq_true rfl) ⟨Nat.zero_le _, Nat.zero_le _⟩ dX11_week_1 (fun H locs hP hS => ?_)
  refine lv_if_ne (tgt := 10) hx hb dX11_week_4 (by decide) (fun c_2 => ?_) (fun c_2 => ?_) -- COND 2 rcases (Decidable.em (r1 = 0)).symm with c_2 | c_2
  · have hF := ite_f hF c_2
    refine lv_aload_n hx hb dX11_week_10 rfl (lv_at hl 0 rfl) ?_
    refine get_11_0 C hP (lr_0 hL) (lk_0 hL) inlX11 mw_15 (lf_0_0 hL) dX11_week_11 ?_
    refine get_8_10 C hP (lr_1 hL) (lk_1 hL) inlX8 mw_920 dX11_week_14 ?_
    refine lv_aload_n hx hb dX11_week_17 rfl (lv_at hl 0 rfl) ?_
    refine get_11_0 C hP (lr_0 hL) (lk_0 hL) inlX11 mw_15 (lf_0_0 hL) dX11_week_18 ?_
    refine get_8_9 C hP (lr_1 hL) (lk_1 hL) inlX8 mw_921 (lf_1_9 hL) dX11_week_21 ?_
    refine x_alen (v := (4 : Int32)) C hP (lr_11 hL) (lk_11 hL) (by decide) (ln_11 hL) (by decide +kernel) dX11_week_24 ?_
    refine lv_icmp_lt (tgt := 31) hx hb dX11_week_25 (by decide) (fun c_3 => ?_) (fun c_3 => ?_) -- COND 3 by_cases c_3 : (σ 1 10) < (4 : Int32)
    · have hF := ite_t hF c_3
      refine lv_aload_n hx hb dX11_week_31 rfl (lv_at hl 0 rfl) ?_
      refine get_11_0 C hP (lr_0 hL) (lk_0 hL) inlX11 mw_15 (lf_0_0 hL) dX11_week_32 ?_
      refine get_8_9 C hP (lr_1 hL) (lk_1 hL) inlX8 mw_921 (lf_1_9 hL) dX11_week_35 ?_
      refine lv_aload_n hx hb dX11_week_38 rfl (lv_at hl 0 rfl) ?_
      refine get_11_0 C hP (lr_0 hL) (lk_0 hL) inlX11 mw_15 (lf_0_0 hL) dX11_week_39 ?_
      refine get_8_10 C hP (lr_1 hL) (lk_1 hL) inlX8 mw_920 dX11_week_42 ?_
      refine lv_iload_n hx hb dX11_week_45 rfl (lv_at hl 1 rfl) ?_
      obtain ⟨g4, hF⟩ := gd_1 hF
      obtain ⟨σ6, eσ6, hF⟩ := nm_1 hF
      refine x_iast (σ1 := σ6) C hP hS (lr_11 hL) (lk_11 hL) (ln_11 hL) g4 eσ6 dX11_week_46 (fun H locs hP hS => ?_)
      refine lv_aload_n hx hb dX11_week_47 rfl (lv_at hl 0 rfl) ?_
      refine get_11_0 C hP (lr_0 hL) (lk_0 hL) inlX11 mw_15 (lf_0_0 hL) dX11_week_48 ?_
      refine lv_dup hx hb dX11_week_51 rfl ?_
      refine get_8_10 C hP (lr_1 hL) (lk_1 hL) inlX8 mw_920 dX11_week_52 ?_
      refine lv_iconst (v := 1) hx hb dX11_week_55 (by decide) ?_
      refine lv_iadd hx hb dX11_week_56 ?_
      obtain ⟨x7, ex7, hF⟩ := nm_1 hF
      refine x_top ex7 ?_
      obtain ⟨σ9, eσ9, hF⟩ := nm_1 hF
      refine put_8_10 C hP hS (lr_1 hL) (lk_1 hL) inlX8 mw_920 eσ9 dX11_week_57 (fun H locs hP hS => ?_)
      refine lv_aload_n hx hb dX11_week_60 rfl (lv_at hl 0 rfl) ?_
      refine get_11_0 C hP (lr_0 hL) (lk_0 hL) inlX11 mw_15 (lf_0_0 hL) dX11_week_61 ?_
      refine get_8_10 C hP (lr_1 hL) (lk_1 hL) inlX8 mw_920 dX11_week_64 ?_
      obtain ⟨rfl, rfl⟩ := ret_2 hF
      subst hρ0
      exact x_iret rfl C hP hS dX11_week_67
    · have hF := ite_f hF c_3
      refine lv_bipush (v := -4) hx hb dX11_week_28 (by decide +kernel) ?_
      obtain ⟨rfl, rfl⟩ := ret_2 hF
      subst hρ0
      exact x_iret rfl C hP hS dX11_week_30
  · have hF := ite_t hF c_2
    refine lv_bipush (v := -2) hx hb dX11_week_7 (by decide +kernel) ?_
    obtain ⟨rfl, rfl⟩ := ret_2 hF
    subst hρ0
    exact x_iret rfl C hP hS dX11_week_9
set_option maxHeartbeats 4000000 in
set_option maxRecDepth 100000 in
theorem c_X11_week {a1 : Int32} {r : Int32} {σ1 : SG} {σ : SG} {ρ : RG} (hL : Lay N K len ρ) (hF : F_X11_week a1 σ ρ = some (r, σ1)) : MT l Y D N ad K len yX11_week (Cond.code yX11_week cX11_week 2 (some .int) :: wsL_law) rm_X11_week [.ref (ad 0), .int a1] σ ρ (some (.int r)) σ1 ρ := by
  refine mt_of (cc := cX11_week) (nL := 2) (ret := (some .int)) (by decide) (Nat.le_of_ble_eq_true rfl) ?_
  intro p e s m args below meth c ls C hnm hP hS hl
  exact w_X11_week_0 C rfl hL hF hP hS hl

/-! CutCrooked.public int clear();  -/
theorem dX11_clear_0 : decode cX11_clear 0 = .ok (.aload_n 0, 1) := by decide +kernel
theorem dX11_clear_1 : decode cX11_clear 1 = .ok (.getfield 12, 3) := by decide +kernel
theorem dX11_clear_4 : decode cX11_clear 4 = .ok (.getfield 242, 3) := by decide +kernel
theorem dX11_clear_7 : decode cX11_clear 7 = .ok (.istore_n 1, 1) := by decide +kernel
theorem dX11_clear_8 : decode cX11_clear 8 = .ok (.aload_n 0, 1) := by decide +kernel
theorem dX11_clear_9 : decode cX11_clear 9 = .ok (.getfield 12, 3) := by decide +kernel
theorem dX11_clear_12 : decode cX11_clear 12 = .ok (.iconst 0, 1) := by decide +kernel
theorem dX11_clear_13 : decode cX11_clear 13 = .ok (.putfield 242, 3) := by decide +kernel
theorem dX11_clear_16 : decode cX11_clear 16 = .ok (.iload_n 1, 1) := by decide +kernel
theorem dX11_clear_17 : decode cX11_clear 17 = .ok (.ireturn, 1) := by decide +kernel
theorem hd_X11_clear : yX11_clear.cls = RX11 ∧ yX11_clear.cls ≠ "java/lang/invoke/MethodHandle" ∧ yX11_clear.cls ≠ "java/lang/invoke/VarHandle" ∧ (parseMethodDescriptor yX11_clear.desc).map (fun d => d.parameters.length) = some 0 := by decide +kernel
abbrev rm_X11_clear : Room := { frames := 0, cells := 0, slots := 0, locals := 0 }
def F_X11_clear  (σ : SG) (ρ : RG) : Option (Int32 × SG) :=
  nm (s2 σ 1 10 (0 : Int32)) fun σ2 =>
  some ((σ 1 10), σ2)
set_option maxHeartbeats 4000000 in
set_option maxRecDepth 100000 in
theorem w_X11_clear_0  {p : Program} {e : Env} {s : State} {m : MethodId} {args : Array Value} {below : List Frame} {meth : Method} {c : Code} {ρ0 : RG} {r : Int32} {σ1 : SG} (C : Cx Y D N ad p s m args meth c cX11_clear 2 (some .int) RX11 wsL_law) {σ : SG} {ρ : RG} {H : Heap} {locs : List Loc} {ls : Array Slot} (hρ0 : ρ = ρ0) (hL : Lay N K len ρ) (hF : F_X11_clear σ ρ = some (r, σ1)) (hP : WP Y D N ad K len σ ρ H) (hS : va_S (AA N ad s.heap.size) s.heap H locs) (hl : lv_has ls 2 [(0, .ref (ad 0))]) : W p l e rm_X11_clear s m args below meth c H locs 0 0 (MQ below (QW Y D N ad K len σ1 ρ0 (AA N ad s.heap.size) (some (.int r))) args s 0 0 (AA N ad s.heap.size)) (F0 m 0 ls []) := by
  have hx := C.1.1
  have hb := C.1.2.1
  unfold F_X11_clear at hF
  refine lv_aload_n hx hb dX11_clear_0 rfl (lv_at hl 0 rfl) ?_
  refine get_11_0 C hP (lr_0 hL) (lk_0 hL) inlX11 mw_15 (lf_0_0 hL) dX11_clear_1 ?_
  refine get_8_10 C hP (lr_1 hL) (lk_1 hL) inlX8 mw_920 dX11_clear_4 ?_
  refine lv_istore_n (lv' := [(1, .int (σ 1 10)), (0, .ref (ad 0))]) hx hb dX11_clear_7 rfl hl (by decide) rfl (fun ls hl => ?_)
  refine lv_aload_n hx hb dX11_clear_8 rfl (lv_at hl 1 rfl) ?_
  refine get_11_0 C hP (lr_0 hL) (lk_0 hL) inlX11 mw_15 (lf_0_0 hL) dX11_clear_9 ?_
  refine lv_iconst (v := 0) hx hb dX11_clear_12 (by decide) ?_
  obtain ⟨σ2, eσ2, hF⟩ := nm_1 hF
  refine put_8_10 C hP hS (lr_1 hL) (lk_1 hL) inlX8 mw_920 eσ2 dX11_clear_13 (fun H locs hP hS => ?_)
  refine lv_iload_n hx hb dX11_clear_16 rfl (lv_at hl 0 rfl) ?_
  obtain ⟨rfl, rfl⟩ := ret_2 hF
  subst hρ0
  exact x_iret rfl C hP hS dX11_clear_17
set_option maxHeartbeats 4000000 in
set_option maxRecDepth 100000 in
theorem c_X11_clear  {r : Int32} {σ1 : SG} {σ : SG} {ρ : RG} (hL : Lay N K len ρ) (hF : F_X11_clear σ ρ = some (r, σ1)) : MT l Y D N ad K len yX11_clear (Cond.code yX11_clear cX11_clear 2 (some .int) :: wsL_law) rm_X11_clear [.ref (ad 0)] σ ρ (some (.int r)) σ1 ρ := by
  refine mt_of (cc := cX11_clear) (nL := 2) (ret := (some .int)) (by decide) (Nat.le_of_ble_eq_true rfl) ?_
  intro p e s m args below meth c ls C hnm hP hS hl
  exact w_X11_clear_0 C rfl hL hF hP hS hl

/-! CutCrooked.public int count(int);  -/
theorem dX11_count_0 : decode cX11_count 0 = .ok (.iload_n 1, 1) := by decide +kernel
theorem dX11_count_1 : decode cX11_count 1 = .ok (.tableswitch 87 0 5 #[39, 47, 55, 63, 71, 79], 39) := by decide +kernel
theorem dX11_count_40 : decode cX11_count 40 = .ok (.aload_n 0, 1) := by decide +kernel
theorem dX11_count_41 : decode cX11_count 41 = .ok (.getfield 12, 3) := by decide +kernel
theorem dX11_count_44 : decode cX11_count 44 = .ok (.getfield 89, 3) := by decide +kernel
theorem dX11_count_47 : decode cX11_count 47 = .ok (.ireturn, 1) := by decide +kernel
theorem dX11_count_48 : decode cX11_count 48 = .ok (.aload_n 0, 1) := by decide +kernel
theorem dX11_count_49 : decode cX11_count 49 = .ok (.getfield 12, 3) := by decide +kernel
theorem dX11_count_52 : decode cX11_count 52 = .ok (.getfield 68, 3) := by decide +kernel
theorem dX11_count_55 : decode cX11_count 55 = .ok (.ireturn, 1) := by decide +kernel
theorem dX11_count_56 : decode cX11_count 56 = .ok (.aload_n 0, 1) := by decide +kernel
theorem dX11_count_57 : decode cX11_count 57 = .ok (.getfield 12, 3) := by decide +kernel
theorem dX11_count_60 : decode cX11_count 60 = .ok (.getfield 242, 3) := by decide +kernel
theorem dX11_count_63 : decode cX11_count 63 = .ok (.ireturn, 1) := by decide +kernel
theorem dX11_count_64 : decode cX11_count 64 = .ok (.aload_n 0, 1) := by decide +kernel
theorem dX11_count_65 : decode cX11_count 65 = .ok (.getfield 12, 3) := by decide +kernel
theorem dX11_count_68 : decode cX11_count 68 = .ok (.getfield 261, 3) := by decide +kernel
theorem dX11_count_71 : decode cX11_count 71 = .ok (.ireturn, 1) := by decide +kernel
theorem dX11_count_72 : decode cX11_count 72 = .ok (.aload_n 0, 1) := by decide +kernel
theorem dX11_count_73 : decode cX11_count 73 = .ok (.getfield 12, 3) := by decide +kernel
theorem dX11_count_76 : decode cX11_count 76 = .ok (.getfield 60, 3) := by decide +kernel
theorem dX11_count_79 : decode cX11_count 79 = .ok (.ireturn, 1) := by decide +kernel
theorem dX11_count_80 : decode cX11_count 80 = .ok (.aload_n 0, 1) := by decide +kernel
theorem dX11_count_81 : decode cX11_count 81 = .ok (.getfield 24, 3) := by decide +kernel
theorem dX11_count_84 : decode cX11_count 84 = .ok (.getfield 270, 3) := by decide +kernel
theorem dX11_count_87 : decode cX11_count 87 = .ok (.ireturn, 1) := by decide +kernel
theorem dX11_count_88 : decode cX11_count 88 = .ok (.iconst (-1), 1) := by decide +kernel
theorem dX11_count_89 : decode cX11_count 89 = .ok (.ireturn, 1) := by decide +kernel
theorem hd_X11_count : yX11_count.cls = RX11 ∧ yX11_count.cls ≠ "java/lang/invoke/MethodHandle" ∧ yX11_count.cls ≠ "java/lang/invoke/VarHandle" ∧ (parseMethodDescriptor yX11_count.desc).map (fun d => d.parameters.length) = some 1 := by decide +kernel
abbrev rm_X11_count : Room := { frames := 0, cells := 0, slots := 0, locals := 0 }
def F_X11_count (a1 : Int32) (σ : SG) (ρ : RG) : Option (Int32) :=
  if a1 = 0 then
    some (σ 1 1)
  else
    if a1 = 1 then
      some (σ 1 4)
    else
      if a1 = 2 then
        some (σ 1 10)
      else
        if a1 = 3 then
          some (σ 1 13)
        else
          if a1 = 4 then
            some (σ 1 6)
          else
            if a1 = 5 then
              some (σ 27 1)
            else
              some (-1 : Int32)
set_option maxHeartbeats 4000000 in
set_option maxRecDepth 100000 in
theorem w_X11_count_0 {a1 : Int32} {p : Program} {e : Env} {s : State} {m : MethodId} {args : Array Value} {below : List Frame} {meth : Method} {c : Code} {σ0 : SG} {ρ0 : RG} {r : Int32} (C : Cx Y D N ad p s m args meth c cX11_count 2 (some .int) RX11 wsL_law) {σ : SG} {ρ : RG} {H : Heap} {locs : List Loc} {ls : Array Slot} (hσ0 : σ = σ0) (hρ0 : ρ = ρ0) (hL : Lay N K len ρ) (hF : F_X11_count a1 σ ρ = some r) (hP : WP Y D N ad K len σ ρ H) (hS : va_S (AA N ad s.heap.size) s.heap H locs) (hl : lv_has ls 2 [(0, .ref (ad 0)), (1, .int a1)]) : W p l e rm_X11_count s m args below meth c H locs 0 0 (MQ below (QW Y D N ad K len σ0 ρ0 (AA N ad s.heap.size) (some (.int r))) args s 0 0 (AA N ad s.heap.size)) (F0 m 0 ls []) := by
  have hx := C.1.1
  have hb := C.1.2.1
  unfold F_X11_count at hF
  refine lv_iload_n hx hb dX11_count_0 rfl (lv_at hl 1 rfl) ?_
  by_cases cs1_0 : a1 = 0
  · have hF := ite_t hF cs1_0
    refine lv_tableIn (tgt := 40) hx hb dX11_count_1 (by rw [cs1_0]; decide) (by rw [cs1_0]; decide) (by rw [cs1_0]; rfl) (by decide) ?_
    refine lv_aload_n hx hb dX11_count_40 rfl (lv_at hl 0 rfl) ?_
    refine get_11_0 C hP (lr_0 hL) (lk_0 hL) inlX11 mw_15 (lf_0_0 hL) dX11_count_41 ?_
    refine get_8_1 C hP (lr_1 hL) (lk_1 hL) inlX8 mw_352 dX11_count_44 ?_
    obtain rfl := ret_1 hF
    subst hσ0
    subst hρ0
    exact x_iret rfl C hP hS dX11_count_47
  · have hF := ite_f hF cs1_0
    by_cases cs1_1 : a1 = 1
    · have hF := ite_t hF cs1_1
      refine lv_tableIn (tgt := 48) hx hb dX11_count_1 (by rw [cs1_1]; decide) (by rw [cs1_1]; decide) (by rw [cs1_1]; rfl) (by decide) ?_
      refine lv_aload_n hx hb dX11_count_48 rfl (lv_at hl 0 rfl) ?_
      refine get_11_0 C hP (lr_0 hL) (lk_0 hL) inlX11 mw_15 (lf_0_0 hL) dX11_count_49 ?_
      refine get_8_4 C hP (lr_1 hL) (lk_1 hL) inlX8 mw_111 dX11_count_52 ?_
      obtain rfl := ret_1 hF
      subst hσ0
      subst hρ0
      exact x_iret rfl C hP hS dX11_count_55
    · have hF := ite_f hF cs1_1
      by_cases cs1_2 : a1 = 2
      · have hF := ite_t hF cs1_2
        refine lv_tableIn (tgt := 56) hx hb dX11_count_1 (by rw [cs1_2]; decide) (by rw [cs1_2]; decide) (by rw [cs1_2]; rfl) (by decide) ?_
        refine lv_aload_n hx hb dX11_count_56 rfl (lv_at hl 0 rfl) ?_
        refine get_11_0 C hP (lr_0 hL) (lk_0 hL) inlX11 mw_15 (lf_0_0 hL) dX11_count_57 ?_
        refine get_8_10 C hP (lr_1 hL) (lk_1 hL) inlX8 mw_920 dX11_count_60 ?_
        obtain rfl := ret_1 hF
        subst hσ0
        subst hρ0
        exact x_iret rfl C hP hS dX11_count_63
      · have hF := ite_f hF cs1_2
        by_cases cs1_3 : a1 = 3
        · have hF := ite_t hF cs1_3
          refine lv_tableIn (tgt := 64) hx hb dX11_count_1 (by rw [cs1_3]; decide) (by rw [cs1_3]; decide) (by rw [cs1_3]; rfl) (by decide) ?_
          refine lv_aload_n hx hb dX11_count_64 rfl (lv_at hl 0 rfl) ?_
          refine get_11_0 C hP (lr_0 hL) (lk_0 hL) inlX11 mw_15 (lf_0_0 hL) dX11_count_65 ?_
          refine get_8_13 C hP (lr_1 hL) (lk_1 hL) inlX8 mw_987 dX11_count_68 ?_
          obtain rfl := ret_1 hF
          subst hσ0
          subst hρ0
          exact x_iret rfl C hP hS dX11_count_71
        · have hF := ite_f hF cs1_3
          by_cases cs1_4 : a1 = 4
          · have hF := ite_t hF cs1_4
            refine lv_tableIn (tgt := 72) hx hb dX11_count_1 (by rw [cs1_4]; decide) (by rw [cs1_4]; decide) (by rw [cs1_4]; rfl) (by decide) ?_
            refine lv_aload_n hx hb dX11_count_72 rfl (lv_at hl 0 rfl) ?_
            refine get_11_0 C hP (lr_0 hL) (lk_0 hL) inlX11 mw_15 (lf_0_0 hL) dX11_count_73 ?_
            refine get_8_6 C hP (lr_1 hL) (lk_1 hL) inlX8 mw_95 dX11_count_76 ?_
            obtain rfl := ret_1 hF
            subst hσ0
            subst hρ0
            exact x_iret rfl C hP hS dX11_count_79
          · have hF := ite_f hF cs1_4
            by_cases cs1_5 : a1 = 5
            · have hF := ite_t hF cs1_5
              refine lv_tableIn (tgt := 80) hx hb dX11_count_1 (by rw [cs1_5]; decide) (by rw [cs1_5]; decide) (by rw [cs1_5]; rfl) (by decide) ?_
              refine lv_aload_n hx hb dX11_count_80 rfl (lv_at hl 0 rfl) ?_
              refine get_11_3 C hP (lr_0 hL) (lk_0 hL) inlX11 mw_20 (lf_0_3 hL) dX11_count_81 ?_
              refine get_10_1 C hP (lr_27 hL) (lk_27 hL) inlX10 mw_1006 dX11_count_84 ?_
              obtain rfl := ret_1 hF
              subst hσ0
              subst hρ0
              exact x_iret rfl C hP hS dX11_count_87
            · have hF := ite_f hF cs1_5
              refine lv_tableOut (tgt := 88) hx hb dX11_count_1 (by have q0 := ne_ti cs1_0 (by decide : (0 : Int32).toInt = 0); have q1 := ne_ti cs1_1 (by decide : (1 : Int32).toInt = 1); have q2 := ne_ti cs1_2 (by decide : (2 : Int32).toInt = 2); have q3 := ne_ti cs1_3 (by decide : (3 : Int32).toInt = 3); have q4 := ne_ti cs1_4 (by decide : (4 : Int32).toInt = 4); have q5 := ne_ti cs1_5 (by decide : (5 : Int32).toInt = 5); omega) (by decide) ?_
              refine lv_iconst (v := -1) hx hb dX11_count_88 (by decide) ?_
              obtain rfl := ret_1 hF
              subst hσ0
              subst hρ0
              exact x_iret rfl C hP hS dX11_count_89
set_option maxHeartbeats 4000000 in
set_option maxRecDepth 100000 in
theorem c_X11_count {a1 : Int32} {r : Int32} {σ : SG} {ρ : RG} (hL : Lay N K len ρ) (hF : F_X11_count a1 σ ρ = some r) : MT l Y D N ad K len yX11_count (Cond.code yX11_count cX11_count 2 (some .int) :: wsL_law) rm_X11_count [.ref (ad 0), .int a1] σ ρ (some (.int r)) σ ρ := by
  refine mt_of (cc := cX11_count) (nL := 2) (ret := (some .int)) (by decide) (Nat.le_of_ble_eq_true rfl) ?_
  intro p e s m args below meth c ls C hnm hP hS hl
  exact w_X11_count_0 C rfl rfl hL hF hP hS hl

/-! CutCrooked.public int feed(int);  -/
theorem dX11_feed_0 : decode cX11_feed 0 = .ok (.iload_n 1, 1) := by decide +kernel
theorem dX11_feed_1 : decode cX11_feed 1 = .ok (.iconst 0, 1) := by decide +kernel
theorem dX11_feed_2 : decode cX11_feed 2 = .ok (.bipush 127, 2) := by decide +kernel
theorem dX11_feed_4 : decode cX11_feed 4 = .ok (.invokestatic 56, 3) := by decide +kernel
theorem dX11_feed_7 : decode cX11_feed 7 = .ok (.ifCond .ne 6, 3) := by decide +kernel
theorem dX11_feed_10 : decode cX11_feed 10 = .ok (.bipush (-2), 2) := by decide +kernel
theorem dX11_feed_12 : decode cX11_feed 12 = .ok (.ireturn, 1) := by decide +kernel
theorem dX11_feed_13 : decode cX11_feed 13 = .ok (.aload_n 0, 1) := by decide +kernel
theorem dX11_feed_14 : decode cX11_feed 14 = .ok (.getfield 12, 3) := by decide +kernel
theorem dX11_feed_17 : decode cX11_feed 17 = .ok (.getfield 60, 3) := by decide +kernel
theorem dX11_feed_20 : decode cX11_feed 20 = .ok (.aload_n 0, 1) := by decide +kernel
theorem dX11_feed_21 : decode cX11_feed 21 = .ok (.getfield 12, 3) := by decide +kernel
theorem dX11_feed_24 : decode cX11_feed 24 = .ok (.getfield 64, 3) := by decide +kernel
theorem dX11_feed_27 : decode cX11_feed 27 = .ok (.arraylength, 1) := by decide +kernel
theorem dX11_feed_28 : decode cX11_feed 28 = .ok (.if_icmp .lt 6, 3) := by decide +kernel
theorem dX11_feed_31 : decode cX11_feed 31 = .ok (.bipush (-4), 2) := by decide +kernel
theorem dX11_feed_33 : decode cX11_feed 33 = .ok (.ireturn, 1) := by decide +kernel
theorem dX11_feed_34 : decode cX11_feed 34 = .ok (.aload_n 0, 1) := by decide +kernel
theorem dX11_feed_35 : decode cX11_feed 35 = .ok (.getfield 12, 3) := by decide +kernel
theorem dX11_feed_38 : decode cX11_feed 38 = .ok (.getfield 64, 3) := by decide +kernel
theorem dX11_feed_41 : decode cX11_feed 41 = .ok (.aload_n 0, 1) := by decide +kernel
theorem dX11_feed_42 : decode cX11_feed 42 = .ok (.getfield 12, 3) := by decide +kernel
theorem dX11_feed_45 : decode cX11_feed 45 = .ok (.getfield 60, 3) := by decide +kernel
theorem dX11_feed_48 : decode cX11_feed 48 = .ok (.iload_n 1, 1) := by decide +kernel
theorem dX11_feed_49 : decode cX11_feed 49 = .ok (.i2b, 1) := by decide +kernel
theorem dX11_feed_50 : decode cX11_feed 50 = .ok (.bastore, 1) := by decide +kernel
theorem dX11_feed_51 : decode cX11_feed 51 = .ok (.aload_n 0, 1) := by decide +kernel
theorem dX11_feed_52 : decode cX11_feed 52 = .ok (.getfield 12, 3) := by decide +kernel
theorem dX11_feed_55 : decode cX11_feed 55 = .ok (.dup, 1) := by decide +kernel
theorem dX11_feed_56 : decode cX11_feed 56 = .ok (.getfield 60, 3) := by decide +kernel
theorem dX11_feed_59 : decode cX11_feed 59 = .ok (.iconst 1, 1) := by decide +kernel
theorem dX11_feed_60 : decode cX11_feed 60 = .ok (.iadd, 1) := by decide +kernel
theorem dX11_feed_61 : decode cX11_feed 61 = .ok (.putfield 60, 3) := by decide +kernel
theorem dX11_feed_64 : decode cX11_feed 64 = .ok (.aload_n 0, 1) := by decide +kernel
theorem dX11_feed_65 : decode cX11_feed 65 = .ok (.getfield 12, 3) := by decide +kernel
theorem dX11_feed_68 : decode cX11_feed 68 = .ok (.getfield 60, 3) := by decide +kernel
theorem dX11_feed_71 : decode cX11_feed 71 = .ok (.ireturn, 1) := by decide +kernel
theorem hd_X11_feed : yX11_feed.cls = RX11 ∧ yX11_feed.cls ≠ "java/lang/invoke/MethodHandle" ∧ yX11_feed.cls ≠ "java/lang/invoke/VarHandle" ∧ (parseMethodDescriptor yX11_feed.desc).map (fun d => d.parameters.length) = some 1 := by decide +kernel
abbrev rm_X11_feed : Room := { frames := 1, cells := 0, slots := 0, locals := 22 }
def F_X11_feed (a1 : Int32) (σ : SG) (ρ : RG) : Option (Int32 × SG) :=
  bn (F_X11_isWithin a1 (0 : Int32) (127 : Int32) σ ρ) fun r1 =>
  if r1 = 0 then
    some ((-2 : Int32), σ)
  else
    if (σ 1 6) < (100 : Int32) then
      gd (inb (σ 1 6) 100) <|
      nm (s2 σ 10 ((σ 1 6)).toNatClampNeg (vp_nar .byte (a1).toInt8.toInt32)) fun σ6 =>
      nm ((σ6 1 6) + (1 : Int32)) fun x7 =>
      nm (s2 σ6 1 6 x7) fun σ9 =>
      some ((σ9 1 6), σ9)
    else
      some ((-4 : Int32), σ)
set_option maxHeartbeats 4000000 in
set_option maxRecDepth 100000 in
theorem w_X11_feed_0 {a1 : Int32} {p : Program} {e : Env} {s : State} {m : MethodId} {args : Array Value} {below : List Frame} {meth : Method} {c : Code} {ρ0 : RG} {r : Int32} {σ1 : SG} (C : Cx Y D N ad p s m args meth c cX11_feed 2 (some .int) RX11 wsL_law) {σ : SG} {ρ : RG} {H : Heap} {locs : List Loc} {ls : Array Slot} (hρ0 : ρ = ρ0) (hL : Lay N K len ρ) (hF : F_X11_feed a1 σ ρ = some (r, σ1)) (hP : WP Y D N ad K len σ ρ H) (hS : va_S (AA N ad s.heap.size) s.heap H locs) (hl : lv_has ls 2 [(0, .ref (ad 0)), (1, .int a1)]) : W p l e rm_X11_feed s m args below meth c H locs 0 0 (MQ below (QW Y D N ad K len σ1 ρ0 (AA N ad s.heap.size) (some (.int r))) args s 0 0 (AA N ad s.heap.size)) (F0 m 0 ls []) := by
  have hx := C.1.1
  have hb := C.1.2.1
  unfold F_X11_feed at hF
  refine lv_iload_n hx hb dX11_feed_0 rfl (lv_at hl 1 rfl) ?_
  refine lv_iconst (v := 0) hx hb dX11_feed_1 (by decide) ?_
  refine lv_bipush (v := 127) hx hb dX11_feed_2 (by decide +kernel) ?_
  obtain ⟨r1, hq1, hF⟩ := bn_1 hF
  refine x_callS C hP hS (c_X11_isWithin hL hq1) (va_cwS 3 C.1.2.2.2.2 (gdS mw_97 mw_98 mw_2 mw_99) rfl rfl rfl hd_X11_isWithin.2 ⟨Nat.le_of_ble_eq_true rfl, Nat.le_of_ble_eq_true rfl⟩) rfl rfl hl.1 (Nat.le_of_ble_eq_true rfl) ⟨Nat.zero_le _, Nat.zero_le _⟩ dX11_feed_4 (fun H locs hP hS => ?_)
  refine lv_if_ne (tgt := 13) hx hb dX11_feed_7 (by decide) (fun c_2 => ?_) (fun c_2 => ?_) -- COND 2 rcases (Decidable.em (r1 = 0)).symm with c_2 | c_2
  · have hF := ite_f hF c_2
    refine lv_aload_n hx hb dX11_feed_13 rfl (lv_at hl 0 rfl) ?_
    refine get_11_0 C hP (lr_0 hL) (lk_0 hL) inlX11 mw_15 (lf_0_0 hL) dX11_feed_14 ?_
    refine get_8_6 C hP (lr_1 hL) (lk_1 hL) inlX8 mw_95 dX11_feed_17 ?_
    refine lv_aload_n hx hb dX11_feed_20 rfl (lv_at hl 0 rfl) ?_
    refine get_11_0 C hP (lr_0 hL) (lk_0 hL) inlX11 mw_15 (lf_0_0 hL) dX11_feed_21 ?_
    refine get_8_5 C hP (lr_1 hL) (lk_1 hL) inlX8 mw_96 (lf_1_5 hL) dX11_feed_24 ?_
    refine x_alen (v := (100 : Int32)) C hP (lr_10 hL) (lk_10 hL) (by decide) (ln_10 hL) (by decide +kernel) dX11_feed_27 ?_
    refine lv_icmp_lt (tgt := 34) hx hb dX11_feed_28 (by decide) (fun c_3 => ?_) (fun c_3 => ?_) -- COND 3 by_cases c_3 : (σ 1 6) < (100 : Int32)
    · have hF := ite_t hF c_3
      refine lv_aload_n hx hb dX11_feed_34 rfl (lv_at hl 0 rfl) ?_
      refine get_11_0 C hP (lr_0 hL) (lk_0 hL) inlX11 mw_15 (lf_0_0 hL) dX11_feed_35 ?_
      refine get_8_5 C hP (lr_1 hL) (lk_1 hL) inlX8 mw_96 (lf_1_5 hL) dX11_feed_38 ?_
      refine lv_aload_n hx hb dX11_feed_41 rfl (lv_at hl 0 rfl) ?_
      refine get_11_0 C hP (lr_0 hL) (lk_0 hL) inlX11 mw_15 (lf_0_0 hL) dX11_feed_42 ?_
      refine get_8_6 C hP (lr_1 hL) (lk_1 hL) inlX8 mw_95 dX11_feed_45 ?_
      refine lv_iload_n hx hb dX11_feed_48 rfl (lv_at hl 1 rfl) ?_
      refine lv_i2b (v := (a1).toInt8.toInt32) hx hb dX11_feed_49 rfl ?_
      obtain ⟨g4, hF⟩ := gd_1 hF
      obtain ⟨σ6, eσ6, hF⟩ := nm_1 hF
      refine x_bast (σ1 := σ6) C hP hS (lr_10 hL) (lk_10 hL) (ln_10 hL) g4 eσ6 dX11_feed_50 (fun H locs hP hS => ?_)
      refine lv_aload_n hx hb dX11_feed_51 rfl (lv_at hl 0 rfl) ?_
      refine get_11_0 C hP (lr_0 hL) (lk_0 hL) inlX11 mw_15 (lf_0_0 hL) dX11_feed_52 ?_
      refine lv_dup hx hb dX11_feed_55 rfl ?_
      refine get_8_6 C hP (lr_1 hL) (lk_1 hL) inlX8 mw_95 dX11_feed_56 ?_
      refine lv_iconst (v := 1) hx hb dX11_feed_59 (by decide) ?_
      refine lv_iadd hx hb dX11_feed_60 ?_
      obtain ⟨x7, ex7, hF⟩ := nm_1 hF
      refine x_top ex7 ?_
      obtain ⟨σ9, eσ9, hF⟩ := nm_1 hF
      refine put_8_6 C hP hS (lr_1 hL) (lk_1 hL) inlX8 mw_95 eσ9 dX11_feed_61 (fun H locs hP hS => ?_)
      refine lv_aload_n hx hb dX11_feed_64 rfl (lv_at hl 0 rfl) ?_
      refine get_11_0 C hP (lr_0 hL) (lk_0 hL) inlX11 mw_15 (lf_0_0 hL) dX11_feed_65 ?_
      refine get_8_6 C hP (lr_1 hL) (lk_1 hL) inlX8 mw_95 dX11_feed_68 ?_
      obtain ⟨rfl, rfl⟩ := ret_2 hF
      subst hρ0
      exact x_iret rfl C hP hS dX11_feed_71
    · have hF := ite_f hF c_3
      refine lv_bipush (v := -4) hx hb dX11_feed_31 (by decide +kernel) ?_
      obtain ⟨rfl, rfl⟩ := ret_2 hF
      subst hρ0
      exact x_iret rfl C hP hS dX11_feed_33
  · have hF := ite_t hF c_2
    refine lv_bipush (v := -2) hx hb dX11_feed_10 (by decide +kernel) ?_
    obtain ⟨rfl, rfl⟩ := ret_2 hF
    subst hρ0
    exact x_iret rfl C hP hS dX11_feed_12
set_option maxHeartbeats 4000000 in
set_option maxRecDepth 100000 in
theorem c_X11_feed {a1 : Int32} {r : Int32} {σ1 : SG} {σ : SG} {ρ : RG} (hL : Lay N K len ρ) (hF : F_X11_feed a1 σ ρ = some (r, σ1)) : MT l Y D N ad K len yX11_feed (Cond.code yX11_feed cX11_feed 2 (some .int) :: wsL_law) rm_X11_feed [.ref (ad 0), .int a1] σ ρ (some (.int r)) σ1 ρ := by
  refine mt_of (cc := cX11_feed) (nL := 2) (ret := (some .int)) (by decide) (Nat.le_of_ble_eq_true rfl) ?_
  intro p e s m args below meth c ls C hnm hP hS hl
  exact w_X11_feed_0 C rfl hL hF hP hS hl
end GEN
