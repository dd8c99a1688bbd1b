/-! PART 40.dy: printed by wip/gen -/
section GEN
variable {l : Launch} {Y : YT} {D : va_G} {N : Nat} {ad K len : Nat → Nat}
variable {fR lR : Nat}
/-! CutCrooked$Cutter.CutCrooked$Cutter(int, int, int, int, int); k1 -/
theorem dX1_init_0 : decode cX1_init 0 = .ok (.aload_n 0, 1) := by decide +kernel
theorem dX1_init_1 : decode cX1_init 1 = .ok (.invokespecial 1, 3) := by decide +kernel
theorem dX1_init_4 : decode cX1_init 4 = .ok (.aload_n 0, 1) := by decide +kernel
theorem dX1_init_5 : decode cX1_init 5 = .ok (.iload_n 1, 1) := by decide +kernel
theorem dX1_init_6 : decode cX1_init 6 = .ok (.putfield 7, 3) := by decide +kernel
theorem dX1_init_9 : decode cX1_init 9 = .ok (.aload_n 0, 1) := by decide +kernel
theorem dX1_init_10 : decode cX1_init 10 = .ok (.iload_n 2, 1) := by decide +kernel
theorem dX1_init_11 : decode cX1_init 11 = .ok (.putfield 13, 3) := by decide +kernel
theorem dX1_init_14 : decode cX1_init 14 = .ok (.aload_n 0, 1) := by decide +kernel
theorem dX1_init_15 : decode cX1_init 15 = .ok (.iload_n 3, 1) := by decide +kernel
theorem dX1_init_16 : decode cX1_init 16 = .ok (.putfield 16, 3) := by decide +kernel
theorem dX1_init_19 : decode cX1_init 19 = .ok (.aload_n 0, 1) := by decide +kernel
theorem dX1_init_20 : decode cX1_init 20 = .ok (.iload 4, 2) := by decide +kernel
theorem dX1_init_22 : decode cX1_init 22 = .ok (.putfield 19, 3) := by decide +kernel
theorem dX1_init_25 : decode cX1_init 25 = .ok (.aload_n 0, 1) := by decide +kernel
theorem dX1_init_26 : decode cX1_init 26 = .ok (.iload 5, 2) := by decide +kernel
theorem dX1_init_28 : decode cX1_init 28 = .ok (.putfield 22, 3) := by decide +kernel
theorem dX1_init_31 : decode cX1_init 31 = .ok (.return_, 1) := by decide +kernel
theorem hd_X1_init : yX1_init.cls = RX1 ∧ yX1_init.cls ≠ "java/lang/invoke/MethodHandle" ∧ yX1_init.cls ≠ "java/lang/invoke/VarHandle" ∧ (parseMethodDescriptor yX1_init.desc).map (fun d => d.parameters.length) = some 5 := by decide +kernel
abbrev rm_X1_init_k1 : Room := { frames := 1, cells := 0, slots := 0, locals := 20 }
def F_X1_init_k1 (t : Nat) (a1 : Int32) (a2 : Int32) (a3 : Int32) (a4 : Int32) (a5 : Int32) (σ : SG) (ρ : RG) : Option (SG) :=
  nm (s2 σ t 0 a1) fun σ2 =>
  nm (s2 σ2 t 1 a2) fun σ4 =>
  nm (s2 σ4 t 2 a3) fun σ6 =>
  nm (s2 σ6 t 3 a4) fun σ8 =>
  nm (s2 σ8 t 4 a5) fun σ10 =>
  some σ10
set_option maxHeartbeats 4000000 in
set_option maxRecDepth 100000 in
theorem w_X1_init_k1_0 {t : Nat} {a1 : Int32} {a2 : Int32} {a3 : Int32} {a4 : Int32} {a5 : Int32} {p : Program} {e : Env} {s : State} {m : MethodId} {args : Array Value} {below : List Frame} {meth : Method} {c : Code} {ρ0 : RG} {σ1 : SG} (C : Cx Y D N ad p s m args meth c cX1_init 6 none RX1 wsL_law) {σ : SG} {ρ : RG} {H : Heap} {locs : List Loc} {ls : Array Slot} (hρ0 : ρ = ρ0) (hL : True) (hnm : meth.name = "<init>") (ht : isO 1 N K t) (hF : F_X1_init_k1 t a1 a2 a3 a4 a5 σ ρ = some σ1) (hP : WP Y D N ad K len σ ρ H) (hS : va_S (AA N ad s.heap.size) s.heap H locs) (hl : lv_has ls 6 [(0, .ref (ad t)), (1, .int a1), (2, .int a2), (3, .int a3), (4, .int a4), (5, .int a5)]) : W p l e rm_X1_init_k1 s m args below meth c H locs 0 0 (MQ below (QW Y D N ad K len σ1 ρ0 (AA N ad s.heap.size) none) args s 0 0 (AA N ad s.heap.size)) (F0 m 0 ls []) := by
  have hx := C.1.1
  have hb := C.1.2.1
  unfold F_X1_init_k1 at hF
  refine lv_aload_n hx hb dX1_init_0 rfl (lv_at hl 0 rfl) ?_
  refine x_obj C hl.1 mw_387 mw_10 mw_11 dX1_init_1 (Nat.le_of_ble_eq_true rfl) (Nat.le_of_ble_eq_true rfl) ?_
  refine lv_aload_n hx hb dX1_init_4 rfl (lv_at hl 0 rfl) ?_
  refine lv_iload_n hx hb dX1_init_5 rfl (lv_at hl 1 rfl) ?_
  obtain ⟨σ2, eσ2, hF⟩ := nm_1 hF
  refine put_1_0 C hP hS ht.1 ht.2 inlX1 mw_388 ⟨hnm, rfl⟩ eσ2 dX1_init_6 (fun H locs hP hS => ?_)
  refine lv_aload_n hx hb dX1_init_9 rfl (lv_at hl 0 rfl) ?_
  refine lv_iload_n hx hb dX1_init_10 rfl (lv_at hl 2 rfl) ?_
  obtain ⟨σ4, eσ4, hF⟩ := nm_1 hF
  refine put_1_1 C hP hS ht.1 ht.2 inlX1 mw_389 ⟨hnm, rfl⟩ eσ4 dX1_init_11 (fun H locs hP hS => ?_)
  refine lv_aload_n hx hb dX1_init_14 rfl (lv_at hl 0 rfl) ?_
  refine lv_iload_n hx hb dX1_init_15 rfl (lv_at hl 3 rfl) ?_
  obtain ⟨σ6, eσ6, hF⟩ := nm_1 hF
  refine put_1_2 C hP hS ht.1 ht.2 inlX1 mw_390 ⟨hnm, rfl⟩ eσ6 dX1_init_16 (fun H locs hP hS => ?_)
  refine lv_aload_n hx hb dX1_init_19 rfl (lv_at hl 0 rfl) ?_
  refine lv_iload hx hb dX1_init_20 (lv_at hl 4 rfl) ?_
  obtain ⟨σ8, eσ8, hF⟩ := nm_1 hF
  refine put_1_3 C hP hS ht.1 ht.2 inlX1 mw_391 ⟨hnm, rfl⟩ eσ8 dX1_init_22 (fun H locs hP hS => ?_)
  refine lv_aload_n hx hb dX1_init_25 rfl (lv_at hl 0 rfl) ?_
  refine lv_iload hx hb dX1_init_26 (lv_at hl 5 rfl) ?_
  obtain ⟨σ10, eσ10, hF⟩ := nm_1 hF
  refine put_1_4 C hP hS ht.1 ht.2 inlX1 mw_392 eσ10 dX1_init_28 (fun H locs hP hS => ?_)
  obtain rfl := ret_1 hF
  subst hρ0
  exact x_vret rfl C hP hS dX1_init_31
set_option maxHeartbeats 4000000 in
set_option maxRecDepth 100000 in
theorem c_X1_init_k1 {t : Nat} {a1 : Int32} {a2 : Int32} {a3 : Int32} {a4 : Int32} {a5 : Int32} {σ1 : SG} {σ : SG} {ρ : RG} (hL : True) (ht : isO 1 N K t) (hF : F_X1_init_k1 t a1 a2 a3 a4 a5 σ ρ = some σ1) : MT l Y D N ad K len yX1_init (Cond.code yX1_init cX1_init 6 none :: wsL_law) rm_X1_init_k1 [.ref (ad t), .int a1, .int a2, .int a3, .int a4, .int a5] σ ρ none σ1 ρ := by
  refine mt_of (cc := cX1_init) (nL := 6) (ret := none) (by decide) (Nat.le_of_ble_eq_true rfl) ?_
  intro p e s m args below meth c ls C hnm hP hS hl
  exact w_X1_init_k1_0 C rfl hL hnm ht hF hP hS hl

/-! CutCrooked$Cutter.CutCrooked$Cutter(int, int, int, int, int); k2 -/
abbrev rm_X1_init_k2 : Room := { frames := 1, cells := 0, slots := 0, locals := 20 }
def F_X1_init_k2 (t : Nat) (a1 : Int32) (a2 : Int32) (a3 : Int32) (a4 : Int32) (a5 : Int32) (σ : SG) (ρ : RG) : Option (SG) :=
  nm (s2 σ t 0 a1) fun σ2 =>
  nm (s2 σ2 t 1 a2) fun σ4 =>
  nm (s2 σ4 t 2 a3) fun σ6 =>
  nm (s2 σ6 t 3 a4) fun σ8 =>
  nm (s2 σ8 t 4 a5) fun σ10 =>
  some σ10
set_option maxHeartbeats 4000000 in
set_option maxRecDepth 100000 in
theorem w_X1_init_k2_0 {t : Nat} {a1 : Int32} {a2 : Int32} {a3 : Int32} {a4 : Int32} {a5 : Int32} {p : Program} {e : Env} {s : State} {m : MethodId} {args : Array Value} {below : List Frame} {meth : Method} {c : Code} {ρ0 : RG} {σ1 : SG} (C : Cx Y D N ad p s m args meth c cX1_init 6 none RX1 wsL_law) {σ : SG} {ρ : RG} {H : Heap} {locs : List Loc} {ls : Array Slot} (hρ0 : ρ = ρ0) (hL : True) (hnm : meth.name = "<init>") (ht : isO 2 N K t) (hF : F_X1_init_k2 t a1 a2 a3 a4 a5 σ ρ = some σ1) (hP : WP Y D N ad K len σ ρ H) (hS : va_S (AA N ad s.heap.size) s.heap H locs) (hl : lv_has ls 6 [(0, .ref (ad t)), (1, .int a1), (2, .int a2), (3, .int a3), (4, .int a4), (5, .int a5)]) : W p l e rm_X1_init_k2 s m args below meth c H locs 0 0 (MQ below (QW Y D N ad K len σ1 ρ0 (AA N ad s.heap.size) none) args s 0 0 (AA N ad s.heap.size)) (F0 m 0 ls []) := by
  have hx := C.1.1
  have hb := C.1.2.1
  unfold F_X1_init_k2 at hF
  refine lv_aload_n hx hb dX1_init_0 rfl (lv_at hl 0 rfl) ?_
  refine x_obj C hl.1 mw_387 mw_10 mw_11 dX1_init_1 (Nat.le_of_ble_eq_true rfl) (Nat.le_of_ble_eq_true rfl) ?_
  refine lv_aload_n hx hb dX1_init_4 rfl (lv_at hl 0 rfl) ?_
  refine lv_iload_n hx hb dX1_init_5 rfl (lv_at hl 1 rfl) ?_
  obtain ⟨σ2, eσ2, hF⟩ := nm_1 hF
  refine put_2_0 C hP hS ht.1 ht.2 inlX2 mw_388 ⟨hnm, rfl⟩ eσ2 dX1_init_6 (fun H locs hP hS => ?_)
  refine lv_aload_n hx hb dX1_init_9 rfl (lv_at hl 0 rfl) ?_
  refine lv_iload_n hx hb dX1_init_10 rfl (lv_at hl 2 rfl) ?_
  obtain ⟨σ4, eσ4, hF⟩ := nm_1 hF
  refine put_2_1 C hP hS ht.1 ht.2 inlX2 mw_389 ⟨hnm, rfl⟩ eσ4 dX1_init_11 (fun H locs hP hS => ?_)
  refine lv_aload_n hx hb dX1_init_14 rfl (lv_at hl 0 rfl) ?_
  refine lv_iload_n hx hb dX1_init_15 rfl (lv_at hl 3 rfl) ?_
  obtain ⟨σ6, eσ6, hF⟩ := nm_1 hF
  refine put_2_2 C hP hS ht.1 ht.2 inlX2 mw_390 ⟨hnm, rfl⟩ eσ6 dX1_init_16 (fun H locs hP hS => ?_)
  refine lv_aload_n hx hb dX1_init_19 rfl (lv_at hl 0 rfl) ?_
  refine lv_iload hx hb dX1_init_20 (lv_at hl 4 rfl) ?_
  obtain ⟨σ8, eσ8, hF⟩ := nm_1 hF
  refine put_2_3 C hP hS ht.1 ht.2 inlX2 mw_391 ⟨hnm, rfl⟩ eσ8 dX1_init_22 (fun H locs hP hS => ?_)
  refine lv_aload_n hx hb dX1_init_25 rfl (lv_at hl 0 rfl) ?_
  refine lv_iload hx hb dX1_init_26 (lv_at hl 5 rfl) ?_
  obtain ⟨σ10, eσ10, hF⟩ := nm_1 hF
  refine put_2_4 C hP hS ht.1 ht.2 inlX2 mw_392 eσ10 dX1_init_28 (fun H locs hP hS => ?_)
  obtain rfl := ret_1 hF
  subst hρ0
  exact x_vret rfl C hP hS dX1_init_31
set_option maxHeartbeats 4000000 in
set_option maxRecDepth 100000 in
theorem c_X1_init_k2 {t : Nat} {a1 : Int32} {a2 : Int32} {a3 : Int32} {a4 : Int32} {a5 : Int32} {σ1 : SG} {σ : SG} {ρ : RG} (hL : True) (ht : isO 2 N K t) (hF : F_X1_init_k2 t a1 a2 a3 a4 a5 σ ρ = some σ1) : MT l Y D N ad K len yX1_init (Cond.code yX1_init cX1_init 6 none :: wsL_law) rm_X1_init_k2 [.ref (ad t), .int a1, .int a2, .int a3, .int a4, .int a5] σ ρ none σ1 ρ := by
  refine mt_of (cc := cX1_init) (nL := 6) (ret := none) (by decide) (Nat.le_of_ble_eq_true rfl) ?_
  intro p e s m args below meth c ls C hnm hP hS hl
  exact w_X1_init_k2_0 C rfl hL hnm ht hF hP hS hl

/-! CutCrooked$Cutter.CutCrooked$Cutter(int, int, int, int, int); k4 -/
abbrev rm_X1_init_k4 : Room := { frames := 1, cells := 0, slots := 0, locals := 20 }
def F_X1_init_k4 (t : Nat) (a1 : Int32) (a2 : Int32) (a3 : Int32) (a4 : Int32) (a5 : Int32) (σ : SG) (ρ : RG) : Option (SG) :=
  nm (s2 σ t 0 a1) fun σ2 =>
  nm (s2 σ2 t 1 a2) fun σ4 =>
  nm (s2 σ4 t 2 a3) fun σ6 =>
  nm (s2 σ6 t 3 a4) fun σ8 =>
  nm (s2 σ8 t 4 a5) fun σ10 =>
  some σ10
set_option maxHeartbeats 4000000 in
set_option maxRecDepth 100000 in
theorem w_X1_init_k4_0 {t : Nat} {a1 : Int32} {a2 : Int32} {a3 : Int32} {a4 : Int32} {a5 : Int32} {p : Program} {e : Env} {s : State} {m : MethodId} {args : Array Value} {below : List Frame} {meth : Method} {c : Code} {ρ0 : RG} {σ1 : SG} (C : Cx Y D N ad p s m args meth c cX1_init 6 none RX1 wsL_law) {σ : SG} {ρ : RG} {H : Heap} {locs : List Loc} {ls : Array Slot} (hρ0 : ρ = ρ0) (hL : True) (hnm : meth.name = "<init>") (ht : isO 4 N K t) (hF : F_X1_init_k4 t a1 a2 a3 a4 a5 σ ρ = some σ1) (hP : WP Y D N ad K len σ ρ H) (hS : va_S (AA N ad s.heap.size) s.heap H locs) (hl : lv_has ls 6 [(0, .ref (ad t)), (1, .int a1), (2, .int a2), (3, .int a3), (4, .int a4), (5, .int a5)]) : W p l e rm_X1_init_k4 s m args below meth c H locs 0 0 (MQ below (QW Y D N ad K len σ1 ρ0 (AA N ad s.heap.size) none) args s 0 0 (AA N ad s.heap.size)) (F0 m 0 ls []) := by
  have hx := C.1.1
  have hb := C.1.2.1
  unfold F_X1_init_k4 at hF
  refine lv_aload_n hx hb dX1_init_0 rfl (lv_at hl 0 rfl) ?_
  refine x_obj C hl.1 mw_387 mw_10 mw_11 dX1_init_1 (Nat.le_of_ble_eq_true rfl) (Nat.le_of_ble_eq_true rfl) ?_
  refine lv_aload_n hx hb dX1_init_4 rfl (lv_at hl 0 rfl) ?_
  refine lv_iload_n hx hb dX1_init_5 rfl (lv_at hl 1 rfl) ?_
  obtain ⟨σ2, eσ2, hF⟩ := nm_1 hF
  refine put_4_0 C hP hS ht.1 ht.2 inlX4 mw_388 ⟨hnm, rfl⟩ eσ2 dX1_init_6 (fun H locs hP hS => ?_)
  refine lv_aload_n hx hb dX1_init_9 rfl (lv_at hl 0 rfl) ?_
  refine lv_iload_n hx hb dX1_init_10 rfl (lv_at hl 2 rfl) ?_
  obtain ⟨σ4, eσ4, hF⟩ := nm_1 hF
  refine put_4_1 C hP hS ht.1 ht.2 inlX4 mw_389 ⟨hnm, rfl⟩ eσ4 dX1_init_11 (fun H locs hP hS => ?_)
  refine lv_aload_n hx hb dX1_init_14 rfl (lv_at hl 0 rfl) ?_
  refine lv_iload_n hx hb dX1_init_15 rfl (lv_at hl 3 rfl) ?_
  obtain ⟨σ6, eσ6, hF⟩ := nm_1 hF
  refine put_4_2 C hP hS ht.1 ht.2 inlX4 mw_390 ⟨hnm, rfl⟩ eσ6 dX1_init_16 (fun H locs hP hS => ?_)
  refine lv_aload_n hx hb dX1_init_19 rfl (lv_at hl 0 rfl) ?_
  refine lv_iload hx hb dX1_init_20 (lv_at hl 4 rfl) ?_
  obtain ⟨σ8, eσ8, hF⟩ := nm_1 hF
  refine put_4_3 C hP hS ht.1 ht.2 inlX4 mw_391 ⟨hnm, rfl⟩ eσ8 dX1_init_22 (fun H locs hP hS => ?_)
  refine lv_aload_n hx hb dX1_init_25 rfl (lv_at hl 0 rfl) ?_
  refine lv_iload hx hb dX1_init_26 (lv_at hl 5 rfl) ?_
  obtain ⟨σ10, eσ10, hF⟩ := nm_1 hF
  refine put_4_4 C hP hS ht.1 ht.2 inlX4 mw_392 eσ10 dX1_init_28 (fun H locs hP hS => ?_)
  obtain rfl := ret_1 hF
  subst hρ0
  exact x_vret rfl C hP hS dX1_init_31
set_option maxHeartbeats 4000000 in
set_option maxRecDepth 100000 in
theorem c_X1_init_k4 {t : Nat} {a1 : Int32} {a2 : Int32} {a3 : Int32} {a4 : Int32} {a5 : Int32} {σ1 : SG} {σ : SG} {ρ : RG} (hL : True) (ht : isO 4 N K t) (hF : F_X1_init_k4 t a1 a2 a3 a4 a5 σ ρ = some σ1) : MT l Y D N ad K len yX1_init (Cond.code yX1_init cX1_init 6 none :: wsL_law) rm_X1_init_k4 [.ref (ad t), .int a1, .int a2, .int a3, .int a4, .int a5] σ ρ none σ1 ρ := by
  refine mt_of (cc := cX1_init) (nL := 6) (ret := none) (by decide) (Nat.le_of_ble_eq_true rfl) ?_
  intro p e s m args below meth c ls C hnm hP hS hl
  exact w_X1_init_k4_0 C rfl hL hnm ht hF hP hS hl

/-! CutCrooked$Cutter.CutCrooked$Cutter(int, int, int, int, int); k5 -/
abbrev rm_X1_init_k5 : Room := { frames := 1, cells := 0, slots := 0, locals := 20 }
def F_X1_init_k5 (t : Nat) (a1 : Int32) (a2 : Int32) (a3 : Int32) (a4 : Int32) (a5 : Int32) (σ : SG) (ρ : RG) : Option (SG) :=
  nm (s2 σ t 0 a1) fun σ2 =>
  nm (s2 σ2 t 1 a2) fun σ4 =>
  nm (s2 σ4 t 2 a3) fun σ6 =>
  nm (s2 σ6 t 3 a4) fun σ8 =>
  nm (s2 σ8 t 4 a5) fun σ10 =>
  some σ10
set_option maxHeartbeats 4000000 in
set_option maxRecDepth 100000 in
theorem w_X1_init_k5_0 {t : Nat} {a1 : Int32} {a2 : Int32} {a3 : Int32} {a4 : Int32} {a5 : Int32} {p : Program} {e : Env} {s : State} {m : MethodId} {args : Array Value} {below : List Frame} {meth : Method} {c : Code} {ρ0 : RG} {σ1 : SG} (C : Cx Y D N ad p s m args meth c cX1_init 6 none RX1 wsL_law) {σ : SG} {ρ : RG} {H : Heap} {locs : List Loc} {ls : Array Slot} (hρ0 : ρ = ρ0) (hL : True) (hnm : meth.name = "<init>") (ht : isO 5 N K t) (hF : F_X1_init_k5 t a1 a2 a3 a4 a5 σ ρ = some σ1) (hP : WP Y D N ad K len σ ρ H) (hS : va_S (AA N ad s.heap.size) s.heap H locs) (hl : lv_has ls 6 [(0, .ref (ad t)), (1, .int a1), (2, .int a2), (3, .int a3), (4, .int a4), (5, .int a5)]) : W p l e rm_X1_init_k5 s m args below meth c H locs 0 0 (MQ below (QW Y D N ad K len σ1 ρ0 (AA N ad s.heap.size) none) args s 0 0 (AA N ad s.heap.size)) (F0 m 0 ls []) := by
  have hx := C.1.1
  have hb := C.1.2.1
  unfold F_X1_init_k5 at hF
  refine lv_aload_n hx hb dX1_init_0 rfl (lv_at hl 0 rfl) ?_
  refine x_obj C hl.1 mw_387 mw_10 mw_11 dX1_init_1 (Nat.le_of_ble_eq_true rfl) (Nat.le_of_ble_eq_true rfl) ?_
  refine lv_aload_n hx hb dX1_init_4 rfl (lv_at hl 0 rfl) ?_
  refine lv_iload_n hx hb dX1_init_5 rfl (lv_at hl 1 rfl) ?_
  obtain ⟨σ2, eσ2, hF⟩ := nm_1 hF
  refine put_5_0 C hP hS ht.1 ht.2 inlX5 mw_388 ⟨hnm, rfl⟩ eσ2 dX1_init_6 (fun H locs hP hS => ?_)
  refine lv_aload_n hx hb dX1_init_9 rfl (lv_at hl 0 rfl) ?_
  refine lv_iload_n hx hb dX1_init_10 rfl (lv_at hl 2 rfl) ?_
  obtain ⟨σ4, eσ4, hF⟩ := nm_1 hF
  refine put_5_1 C hP hS ht.1 ht.2 inlX5 mw_389 ⟨hnm, rfl⟩ eσ4 dX1_init_11 (fun H locs hP hS => ?_)
  refine lv_aload_n hx hb dX1_init_14 rfl (lv_at hl 0 rfl) ?_
  refine lv_iload_n hx hb dX1_init_15 rfl (lv_at hl 3 rfl) ?_
  obtain ⟨σ6, eσ6, hF⟩ := nm_1 hF
  refine put_5_2 C hP hS ht.1 ht.2 inlX5 mw_390 ⟨hnm, rfl⟩ eσ6 dX1_init_16 (fun H locs hP hS => ?_)
  refine lv_aload_n hx hb dX1_init_19 rfl (lv_at hl 0 rfl) ?_
  refine lv_iload hx hb dX1_init_20 (lv_at hl 4 rfl) ?_
  obtain ⟨σ8, eσ8, hF⟩ := nm_1 hF
  refine put_5_3 C hP hS ht.1 ht.2 inlX5 mw_391 ⟨hnm, rfl⟩ eσ8 dX1_init_22 (fun H locs hP hS => ?_)
  refine lv_aload_n hx hb dX1_init_25 rfl (lv_at hl 0 rfl) ?_
  refine lv_iload hx hb dX1_init_26 (lv_at hl 5 rfl) ?_
  obtain ⟨σ10, eσ10, hF⟩ := nm_1 hF
  refine put_5_4 C hP hS ht.1 ht.2 inlX5 mw_392 eσ10 dX1_init_28 (fun H locs hP hS => ?_)
  obtain rfl := ret_1 hF
  subst hρ0
  exact x_vret rfl C hP hS dX1_init_31
set_option maxHeartbeats 4000000 in
set_option maxRecDepth 100000 in
theorem c_X1_init_k5 {t : Nat} {a1 : Int32} {a2 : Int32} {a3 : Int32} {a4 : Int32} {a5 : Int32} {σ1 : SG} {σ : SG} {ρ : RG} (hL : True) (ht : isO 5 N K t) (hF : F_X1_init_k5 t a1 a2 a3 a4 a5 σ ρ = some σ1) : MT l Y D N ad K len yX1_init (Cond.code yX1_init cX1_init 6 none :: wsL_law) rm_X1_init_k5 [.ref (ad t), .int a1, .int a2, .int a3, .int a4, .int a5] σ ρ none σ1 ρ := by
  refine mt_of (cc := cX1_init) (nL := 6) (ret := none) (by decide) (Nat.le_of_ble_eq_true rfl) ?_
  intro p e s m args below meth c ls C hnm hP hS hl
  exact w_X1_init_k5_0 C rfl hL hnm ht hF hP hS hl

/-! CutCrooked$Cutter.CutCrooked$Cutter(int, int, int, int, int); k6 -/
abbrev rm_X1_init_k6 : Room := { frames := 1, cells := 0, slots := 0, locals := 20 }
def F_X1_init_k6 (t : Nat) (a1 : Int32) (a2 : Int32) (a3 : Int32) (a4 : Int32) (a5 : Int32) (σ : SG) (ρ : RG) : Option (SG) :=
  nm (s2 σ t 0 a1) fun σ2 =>
  nm (s2 σ2 t 1 a2) fun σ4 =>
  nm (s2 σ4 t 2 a3) fun σ6 =>
  nm (s2 σ6 t 3 a4) fun σ8 =>
  nm (s2 σ8 t 4 a5) fun σ10 =>
  some σ10
set_option maxHeartbeats 4000000 in
set_option maxRecDepth 100000 in
theorem w_X1_init_k6_0 {t : Nat} {a1 : Int32} {a2 : Int32} {a3 : Int32} {a4 : Int32} {a5 : Int32} {p : Program} {e : Env} {s : State} {m : MethodId} {args : Array Value} {below : List Frame} {meth : Method} {c : Code} {ρ0 : RG} {σ1 : SG} (C : Cx Y D N ad p s m args meth c cX1_init 6 none RX1 wsL_law) {σ : SG} {ρ : RG} {H : Heap} {locs : List Loc} {ls : Array Slot} (hρ0 : ρ = ρ0) (hL : True) (hnm : meth.name = "<init>") (ht : isO 6 N K t) (hF : F_X1_init_k6 t a1 a2 a3 a4 a5 σ ρ = some σ1) (hP : WP Y D N ad K len σ ρ H) (hS : va_S (AA N ad s.heap.size) s.heap H locs) (hl : lv_has ls 6 [(0, .ref (ad t)), (1, .int a1), (2, .int a2), (3, .int a3), (4, .int a4), (5, .int a5)]) : W p l e rm_X1_init_k6 s m args below meth c H locs 0 0 (MQ below (QW Y D N ad K len σ1 ρ0 (AA N ad s.heap.size) none) args s 0 0 (AA N ad s.heap.size)) (F0 m 0 ls []) := by
  have hx := C.1.1
  have hb := C.1.2.1
  unfold F_X1_init_k6 at hF
  refine lv_aload_n hx hb dX1_init_0 rfl (lv_at hl 0 rfl) ?_
  refine x_obj C hl.1 mw_387 mw_10 mw_11 dX1_init_1 (Nat.le_of_ble_eq_true rfl) (Nat.le_of_ble_eq_true rfl) ?_
  refine lv_aload_n hx hb dX1_init_4 rfl (lv_at hl 0 rfl) ?_
  refine lv_iload_n hx hb dX1_init_5 rfl (lv_at hl 1 rfl) ?_
  obtain ⟨σ2, eσ2, hF⟩ := nm_1 hF
  refine put_6_0 C hP hS ht.1 ht.2 inlX6 mw_388 ⟨hnm, rfl⟩ eσ2 dX1_init_6 (fun H locs hP hS => ?_)
  refine lv_aload_n hx hb dX1_init_9 rfl (lv_at hl 0 rfl) ?_
  refine lv_iload_n hx hb dX1_init_10 rfl (lv_at hl 2 rfl) ?_
  obtain ⟨σ4, eσ4, hF⟩ := nm_1 hF
  refine put_6_1 C hP hS ht.1 ht.2 inlX6 mw_389 ⟨hnm, rfl⟩ eσ4 dX1_init_11 (fun H locs hP hS => ?_)
  refine lv_aload_n hx hb dX1_init_14 rfl (lv_at hl 0 rfl) ?_
  refine lv_iload_n hx hb dX1_init_15 rfl (lv_at hl 3 rfl) ?_
  obtain ⟨σ6, eσ6, hF⟩ := nm_1 hF
  refine put_6_2 C hP hS ht.1 ht.2 inlX6 mw_390 ⟨hnm, rfl⟩ eσ6 dX1_init_16 (fun H locs hP hS => ?_)
  refine lv_aload_n hx hb dX1_init_19 rfl (lv_at hl 0 rfl) ?_
  refine lv_iload hx hb dX1_init_20 (lv_at hl 4 rfl) ?_
  obtain ⟨σ8, eσ8, hF⟩ := nm_1 hF
  refine put_6_3 C hP hS ht.1 ht.2 inlX6 mw_391 ⟨hnm, rfl⟩ eσ8 dX1_init_22 (fun H locs hP hS => ?_)
  refine lv_aload_n hx hb dX1_init_25 rfl (lv_at hl 0 rfl) ?_
  refine lv_iload hx hb dX1_init_26 (lv_at hl 5 rfl) ?_
  obtain ⟨σ10, eσ10, hF⟩ := nm_1 hF
  refine put_6_4 C hP hS ht.1 ht.2 inlX6 mw_392 eσ10 dX1_init_28 (fun H locs hP hS => ?_)
  obtain rfl := ret_1 hF
  subst hρ0
  exact x_vret rfl C hP hS dX1_init_31
set_option maxHeartbeats 4000000 in
set_option maxRecDepth 100000 in
theorem c_X1_init_k6 {t : Nat} {a1 : Int32} {a2 : Int32} {a3 : Int32} {a4 : Int32} {a5 : Int32} {σ1 : SG} {σ : SG} {ρ : RG} (hL : True) (ht : isO 6 N K t) (hF : F_X1_init_k6 t a1 a2 a3 a4 a5 σ ρ = some σ1) : MT l Y D N ad K len yX1_init (Cond.code yX1_init cX1_init 6 none :: wsL_law) rm_X1_init_k6 [.ref (ad t), .int a1, .int a2, .int a3, .int a4, .int a5] σ ρ none σ1 ρ := by
  refine mt_of (cc := cX1_init) (nL := 6) (ret := none) (by decide) (Nat.le_of_ble_eq_true rfl) ?_
  intro p e s m args below meth c ls C hnm hP hS hl
  exact w_X1_init_k6_0 C rfl hL hnm ht hF hP hS hl

/-! CutCrooked$Cutter.CutCrooked$Cutter(int, int, int, int, int); k7 -/
abbrev rm_X1_init_k7 : Room := { frames := 1, cells := 0, slots := 0, locals := 20 }
def F_X1_init_k7 (t : Nat) (a1 : Int32) (a2 : Int32) (a3 : Int32) (a4 : Int32) (a5 : Int32) (σ : SG) (ρ : RG) : Option (SG) :=
  nm (s2 σ t 0 a1) fun σ2 =>
  nm (s2 σ2 t 1 a2) fun σ4 =>
  nm (s2 σ4 t 2 a3) fun σ6 =>
  nm (s2 σ6 t 3 a4) fun σ8 =>
  nm (s2 σ8 t 4 a5) fun σ10 =>
  some σ10
set_option maxHeartbeats 4000000 in
set_option maxRecDepth 100000 in
theorem w_X1_init_k7_0 {t : Nat} {a1 : Int32} {a2 : Int32} {a3 : Int32} {a4 : Int32} {a5 : Int32} {p : Program} {e : Env} {s : State} {m : MethodId} {args : Array Value} {below : List Frame} {meth : Method} {c : Code} {ρ0 : RG} {σ1 : SG} (C : Cx Y D N ad p s m args meth c cX1_init 6 none RX1 wsL_law) {σ : SG} {ρ : RG} {H : Heap} {locs : List Loc} {ls : Array Slot} (hρ0 : ρ = ρ0) (hL : True) (hnm : meth.name = "<init>") (ht : isO 7 N K t) (hF : F_X1_init_k7 t a1 a2 a3 a4 a5 σ ρ = some σ1) (hP : WP Y D N ad K len σ ρ H) (hS : va_S (AA N ad s.heap.size) s.heap H locs) (hl : lv_has ls 6 [(0, .ref (ad t)), (1, .int a1), (2, .int a2), (3, .int a3), (4, .int a4), (5, .int a5)]) : W p l e rm_X1_init_k7 s m args below meth c H locs 0 0 (MQ below (QW Y D N ad K len σ1 ρ0 (AA N ad s.heap.size) none) args s 0 0 (AA N ad s.heap.size)) (F0 m 0 ls []) := by
  have hx := C.1.1
  have hb := C.1.2.1
  unfold F_X1_init_k7 at hF
  refine lv_aload_n hx hb dX1_init_0 rfl (lv_at hl 0 rfl) ?_
  refine x_obj C hl.1 mw_387 mw_10 mw_11 dX1_init_1 (Nat.le_of_ble_eq_true rfl) (Nat.le_of_ble_eq_true rfl) ?_
  refine lv_aload_n hx hb dX1_init_4 rfl (lv_at hl 0 rfl) ?_
  refine lv_iload_n hx hb dX1_init_5 rfl (lv_at hl 1 rfl) ?_
  obtain ⟨σ2, eσ2, hF⟩ := nm_1 hF
  refine put_7_0 C hP hS ht.1 ht.2 inlX7 mw_388 ⟨hnm, rfl⟩ eσ2 dX1_init_6 (fun H locs hP hS => ?_)
  refine lv_aload_n hx hb dX1_init_9 rfl (lv_at hl 0 rfl) ?_
  refine lv_iload_n hx hb dX1_init_10 rfl (lv_at hl 2 rfl) ?_
  obtain ⟨σ4, eσ4, hF⟩ := nm_1 hF
  refine put_7_1 C hP hS ht.1 ht.2 inlX7 mw_389 ⟨hnm, rfl⟩ eσ4 dX1_init_11 (fun H locs hP hS => ?_)
  refine lv_aload_n hx hb dX1_init_14 rfl (lv_at hl 0 rfl) ?_
  refine lv_iload_n hx hb dX1_init_15 rfl (lv_at hl 3 rfl) ?_
  obtain ⟨σ6, eσ6, hF⟩ := nm_1 hF
  refine put_7_2 C hP hS ht.1 ht.2 inlX7 mw_390 ⟨hnm, rfl⟩ eσ6 dX1_init_16 (fun H locs hP hS => ?_)
  refine lv_aload_n hx hb dX1_init_19 rfl (lv_at hl 0 rfl) ?_
  refine lv_iload hx hb dX1_init_20 (lv_at hl 4 rfl) ?_
  obtain ⟨σ8, eσ8, hF⟩ := nm_1 hF
  refine put_7_3 C hP hS ht.1 ht.2 inlX7 mw_391 ⟨hnm, rfl⟩ eσ8 dX1_init_22 (fun H locs hP hS => ?_)
  refine lv_aload_n hx hb dX1_init_25 rfl (lv_at hl 0 rfl) ?_
  refine lv_iload hx hb dX1_init_26 (lv_at hl 5 rfl) ?_
  obtain ⟨σ10, eσ10, hF⟩ := nm_1 hF
  refine put_7_4 C hP hS ht.1 ht.2 inlX7 mw_392 eσ10 dX1_init_28 (fun H locs hP hS => ?_)
  obtain rfl := ret_1 hF
  subst hρ0
  exact x_vret rfl C hP hS dX1_init_31
set_option maxHeartbeats 4000000 in
set_option maxRecDepth 100000 in
theorem c_X1_init_k7 {t : Nat} {a1 : Int32} {a2 : Int32} {a3 : Int32} {a4 : Int32} {a5 : Int32} {σ1 : SG} {σ : SG} {ρ : RG} (hL : True) (ht : isO 7 N K t) (hF : F_X1_init_k7 t a1 a2 a3 a4 a5 σ ρ = some σ1) : MT l Y D N ad K len yX1_init (Cond.code yX1_init cX1_init 6 none :: wsL_law) rm_X1_init_k7 [.ref (ad t), .int a1, .int a2, .int a3, .int a4, .int a5] σ ρ none σ1 ρ := by
  refine mt_of (cc := cX1_init) (nL := 6) (ret := none) (by decide) (Nat.le_of_ble_eq_true rfl) ?_
  intro p e s m args below meth c ls C hnm hP hS hl
  exact w_X1_init_k7_0 C rfl hL hnm ht hF hP hS hl

/-! CutCrooked$Cutter.CutCrooked$Cutter(int, int, int, int, int); k9 -/
abbrev rm_X1_init_k9 : Room := { frames := 1, cells := 0, slots := 0, locals := 20 }
def F_X1_init_k9 (t : Nat) (a1 : Int32) (a2 : Int32) (a3 : Int32) (a4 : Int32) (a5 : Int32) (σ : SG) (ρ : RG) : Option (SG) :=
  nm (s2 σ t 0 a1) fun σ2 =>
  nm (s2 σ2 t 1 a2) fun σ4 =>
  nm (s2 σ4 t 2 a3) fun σ6 =>
  nm (s2 σ6 t 3 a4) fun σ8 =>
  nm (s2 σ8 t 4 a5) fun σ10 =>
  some σ10
set_option maxHeartbeats 4000000 in
set_option maxRecDepth 100000 in
theorem w_X1_init_k9_0 {t : Nat} {a1 : Int32} {a2 : Int32} {a3 : Int32} {a4 : Int32} {a5 : Int32} {p : Program} {e : Env} {s : State} {m : MethodId} {args : Array Value} {below : List Frame} {meth : Method} {c : Code} {ρ0 : RG} {σ1 : SG} (C : Cx Y D N ad p s m args meth c cX1_init 6 none RX1 wsL_law) {σ : SG} {ρ : RG} {H : Heap} {locs : List Loc} {ls : Array Slot} (hρ0 : ρ = ρ0) (hL : True) (hnm : meth.name = "<init>") (ht : isO 9 N K t) (hF : F_X1_init_k9 t a1 a2 a3 a4 a5 σ ρ = some σ1) (hP : WP Y D N ad K len σ ρ H) (hS : va_S (AA N ad s.heap.size) s.heap H locs) (hl : lv_has ls 6 [(0, .ref (ad t)), (1, .int a1), (2, .int a2), (3, .int a3), (4, .int a4), (5, .int a5)]) : W p l e rm_X1_init_k9 s m args below meth c H locs 0 0 (MQ below (QW Y D N ad K len σ1 ρ0 (AA N ad s.heap.size) none) args s 0 0 (AA N ad s.heap.size)) (F0 m 0 ls []) := by
  have hx := C.1.1
  have hb := C.1.2.1
  unfold F_X1_init_k9 at hF
  refine lv_aload_n hx hb dX1_init_0 rfl (lv_at hl 0 rfl) ?_
  refine x_obj C hl.1 mw_387 mw_10 mw_11 dX1_init_1 (Nat.le_of_ble_eq_true rfl) (Nat.le_of_ble_eq_true rfl) ?_
  refine lv_aload_n hx hb dX1_init_4 rfl (lv_at hl 0 rfl) ?_
  refine lv_iload_n hx hb dX1_init_5 rfl (lv_at hl 1 rfl) ?_
  obtain ⟨σ2, eσ2, hF⟩ := nm_1 hF
  refine put_9_0 C hP hS ht.1 ht.2 inlX9 mw_388 ⟨hnm, rfl⟩ eσ2 dX1_init_6 (fun H locs hP hS => ?_)
  refine lv_aload_n hx hb dX1_init_9 rfl (lv_at hl 0 rfl) ?_
  refine lv_iload_n hx hb dX1_init_10 rfl (lv_at hl 2 rfl) ?_
  obtain ⟨σ4, eσ4, hF⟩ := nm_1 hF
  refine put_9_1 C hP hS ht.1 ht.2 inlX9 mw_389 ⟨hnm, rfl⟩ eσ4 dX1_init_11 (fun H locs hP hS => ?_)
  refine lv_aload_n hx hb dX1_init_14 rfl (lv_at hl 0 rfl) ?_
  refine lv_iload_n hx hb dX1_init_15 rfl (lv_at hl 3 rfl) ?_
  obtain ⟨σ6, eσ6, hF⟩ := nm_1 hF
  refine put_9_2 C hP hS ht.1 ht.2 inlX9 mw_390 ⟨hnm, rfl⟩ eσ6 dX1_init_16 (fun H locs hP hS => ?_)
  refine lv_aload_n hx hb dX1_init_19 rfl (lv_at hl 0 rfl) ?_
  refine lv_iload hx hb dX1_init_20 (lv_at hl 4 rfl) ?_
  obtain ⟨σ8, eσ8, hF⟩ := nm_1 hF
  refine put_9_3 C hP hS ht.1 ht.2 inlX9 mw_391 ⟨hnm, rfl⟩ eσ8 dX1_init_22 (fun H locs hP hS => ?_)
  refine lv_aload_n hx hb dX1_init_25 rfl (lv_at hl 0 rfl) ?_
  refine lv_iload hx hb dX1_init_26 (lv_at hl 5 rfl) ?_
  obtain ⟨σ10, eσ10, hF⟩ := nm_1 hF
  refine put_9_4 C hP hS ht.1 ht.2 inlX9 mw_392 eσ10 dX1_init_28 (fun H locs hP hS => ?_)
  obtain rfl := ret_1 hF
  subst hρ0
  exact x_vret rfl C hP hS dX1_init_31
set_option maxHeartbeats 4000000 in
set_option maxRecDepth 100000 in
theorem c_X1_init_k9 {t : Nat} {a1 : Int32} {a2 : Int32} {a3 : Int32} {a4 : Int32} {a5 : Int32} {σ1 : SG} {σ : SG} {ρ : RG} (hL : True) (ht : isO 9 N K t) (hF : F_X1_init_k9 t a1 a2 a3 a4 a5 σ ρ = some σ1) : MT l Y D N ad K len yX1_init (Cond.code yX1_init cX1_init 6 none :: wsL_law) rm_X1_init_k9 [.ref (ad t), .int a1, .int a2, .int a3, .int a4, .int a5] σ ρ none σ1 ρ := by
  refine mt_of (cc := cX1_init) (nL := 6) (ret := none) (by decide) (Nat.le_of_ble_eq_true rfl) ?_
  intro p e s m args below meth c ls C hnm hP hS hl
  exact w_X1_init_k9_0 C rfl hL hnm ht hF hP hS hl

/-! CutCrooked$Straight.CutCrooked$Straight(int, int, int, int, int); k7 -/
theorem dX7_init_0 : decode cX7_init 0 = .ok (.aload_n 0, 1) := by decide +kernel
theorem dX7_init_1 : decode cX7_init 1 = .ok (.iload_n 1, 1) := by decide +kernel
theorem dX7_init_2 : decode cX7_init 2 = .ok (.iload_n 2, 1) := by decide +kernel
theorem dX7_init_3 : decode cX7_init 3 = .ok (.iload_n 3, 1) := by decide +kernel
theorem dX7_init_4 : decode cX7_init 4 = .ok (.iload 4, 2) := by decide +kernel
theorem dX7_init_6 : decode cX7_init 6 = .ok (.iload 5, 2) := by decide +kernel
theorem dX7_init_8 : decode cX7_init 8 = .ok (.invokespecial 1, 3) := by decide +kernel
theorem dX7_init_11 : decode cX7_init 11 = .ok (.return_, 1) := by decide +kernel
theorem hd_X7_init : yX7_init.cls = RX7 ∧ yX7_init.cls ≠ "java/lang/invoke/MethodHandle" ∧ yX7_init.cls ≠ "java/lang/invoke/VarHandle" ∧ (parseMethodDescriptor yX7_init.desc).map (fun d => d.parameters.length) = some 5 := by decide +kernel
abbrev rm_X7_init_k7 : Room := { frames := 2, cells := 0, slots := 0, locals := 45 }
def F_X7_init_k7 (t : Nat) (a1 : Int32) (a2 : Int32) (a3 : Int32) (a4 : Int32) (a5 : Int32) (σ : SG) (ρ : RG) : Option (SG) :=
  bn (F_X1_init_k7 t a1 a2 a3 a4 a5 σ ρ) fun σ1 =>
  some σ1
set_option maxHeartbeats 4000000 in
set_option maxRecDepth 100000 in
theorem w_X7_init_k7_0 {t : Nat} {a1 : Int32} {a2 : Int32} {a3 : Int32} {a4 : Int32} {a5 : Int32} {p : Program} {e : Env} {s : State} {m : MethodId} {args : Array Value} {below : List Frame} {meth : Method} {c : Code} {ρ0 : RG} {σ1 : SG} (C : Cx Y D N ad p s m args meth c cX7_init 6 none RX7 wsL_law) {σ : SG} {ρ : RG} {H : Heap} {locs : List Loc} {ls : Array Slot} (hρ0 : ρ = ρ0) (hL : True) (hnm : meth.name = "<init>") (ht : isO 7 N K t) (hF : F_X7_init_k7 t a1 a2 a3 a4 a5 σ ρ = some σ1) (hP : WP Y D N ad K len σ ρ H) (hS : va_S (AA N ad s.heap.size) s.heap H locs) (hl : lv_has ls 6 [(0, .ref (ad t)), (1, .int a1), (2, .int a2), (3, .int a3), (4, .int a4), (5, .int a5)]) : W p l e rm_X7_init_k7 s m args below meth c H locs 0 0 (MQ below (QW Y D N ad K len σ1 ρ0 (AA N ad s.heap.size) none) args s 0 0 (AA N ad s.heap.size)) (F0 m 0 ls []) := by
  have hx := C.1.1
  have hb := C.1.2.1
  unfold F_X7_init_k7 at hF
  refine lv_aload_n hx hb dX7_init_0 rfl (lv_at hl 0 rfl) ?_
  refine lv_iload_n hx hb dX7_init_1 rfl (lv_at hl 1 rfl) ?_
  refine lv_iload_n hx hb dX7_init_2 rfl (lv_at hl 2 rfl) ?_
  refine lv_iload_n hx hb dX7_init_3 rfl (lv_at hl 3 rfl) ?_
  refine lv_iload hx hb dX7_init_4 (lv_at hl 4 rfl) ?_
  refine lv_iload hx hb dX7_init_6 (lv_at hl 5 rfl) ?_
  obtain ⟨σ1, hq1, hF⟩ := bn_1 hF
  refine x_callIM C hP hS (c_X1_init_k7 trivial ⟨ht.1, ht.2⟩ hq1) (cwI 5 C.1.2.2.2.2 (gdI mw_386) rfl rfl rfl (C.1.2.2.2.2 _ mw_380) (C.1.2.2.2.2 _ mw_384) (C.1.2.2.2.2 _ mw_385) rfl hd_X1_init.2 ⟨Nat.le_of_ble_eq_true rfl, Nat.le_of_ble_eq_true rfl⟩) rfl rfl hl.1 (Nat.le_of_ble_eq_true rfl) ⟨Nat.zero_le _, Nat.zero_le _⟩ dX7_init_8 (fun H locs hP hS => ?_)
  obtain rfl := ret_1 hF
  subst hρ0
  exact x_vret rfl C hP hS dX7_init_11
set_option maxHeartbeats 4000000 in
set_option maxRecDepth 100000 in
theorem c_X7_init_k7 {t : Nat} {a1 : Int32} {a2 : Int32} {a3 : Int32} {a4 : Int32} {a5 : Int32} {σ1 : SG} {σ : SG} {ρ : RG} (hL : True) (ht : isO 7 N K t) (hF : F_X7_init_k7 t a1 a2 a3 a4 a5 σ ρ = some σ1) : MT l Y D N ad K len yX7_init (Cond.code yX7_init cX7_init 6 none :: wsL_law) rm_X7_init_k7 [.ref (ad t), .int a1, .int a2, .int a3, .int a4, .int a5] σ ρ none σ1 ρ := by
  refine mt_of (cc := cX7_init) (nL := 6) (ret := none) (by decide) (Nat.le_of_ble_eq_true rfl) ?_
  intro p e s m args below meth c ls C hnm hP hS hl
  exact w_X7_init_k7_0 C rfl hL hnm ht hF hP hS hl

/-! CutCrooked$Straight.CutCrooked$Straight(int, int, int, int, int); k5 -/
abbrev rm_X7_init_k5 : Room := { frames := 2, cells := 0, slots := 0, locals := 45 }
def F_X7_init_k5 (t : Nat) (a1 : Int32) (a2 : Int32) (a3 : Int32) (a4 : Int32) (a5 : Int32) (σ : SG) (ρ : RG) : Option (SG) :=
  bn (F_X1_init_k5 t a1 a2 a3 a4 a5 σ ρ) fun σ1 =>
  some σ1
set_option maxHeartbeats 4000000 in
set_option maxRecDepth 100000 in
theorem w_X7_init_k5_0 {t : Nat} {a1 : Int32} {a2 : Int32} {a3 : Int32} {a4 : Int32} {a5 : Int32} {p : Program} {e : Env} {s : State} {m : MethodId} {args : Array Value} {below : List Frame} {meth : Method} {c : Code} {ρ0 : RG} {σ1 : SG} (C : Cx Y D N ad p s m args meth c cX7_init 6 none RX7 wsL_law) {σ : SG} {ρ : RG} {H : Heap} {locs : List Loc} {ls : Array Slot} (hρ0 : ρ = ρ0) (hL : True) (hnm : meth.name = "<init>") (ht : isO 5 N K t) (hF : F_X7_init_k5 t a1 a2 a3 a4 a5 σ ρ = some σ1) (hP : WP Y D N ad K len σ ρ H) (hS : va_S (AA N ad s.heap.size) s.heap H locs) (hl : lv_has ls 6 [(0, .ref (ad t)), (1, .int a1), (2, .int a2), (3, .int a3), (4, .int a4), (5, .int a5)]) : W p l e rm_X7_init_k5 s m args below meth c H locs 0 0 (MQ below (QW Y D N ad K len σ1 ρ0 (AA N ad s.heap.size) none) args s 0 0 (AA N ad s.heap.size)) (F0 m 0 ls []) := by
  have hx := C.1.1
  have hb := C.1.2.1
  unfold F_X7_init_k5 at hF
  refine lv_aload_n hx hb dX7_init_0 rfl (lv_at hl 0 rfl) ?_
  refine lv_iload_n hx hb dX7_init_1 rfl (lv_at hl 1 rfl) ?_
  refine lv_iload_n hx hb dX7_init_2 rfl (lv_at hl 2 rfl) ?_
  refine lv_iload_n hx hb dX7_init_3 rfl (lv_at hl 3 rfl) ?_
  refine lv_iload hx hb dX7_init_4 (lv_at hl 4 rfl) ?_
  refine lv_iload hx hb dX7_init_6 (lv_at hl 5 rfl) ?_
  obtain ⟨σ1, hq1, hF⟩ := bn_1 hF
  refine x_callIM C hP hS (c_X1_init_k5 trivial ⟨ht.1, ht.2⟩ hq1) (cwI 5 C.1.2.2.2.2 (gdI mw_386) rfl rfl rfl (C.1.2.2.2.2 _ mw_380) (C.1.2.2.2.2 _ mw_384) (C.1.2.2.2.2 _ mw_385) rfl hd_X1_init.2 ⟨Nat.le_of_ble_eq_true rfl, Nat.le_of_ble_eq_true rfl⟩) rfl rfl hl.1 (Nat.le_of_ble_eq_true rfl) ⟨Nat.zero_le _, Nat.zero_le _⟩ dX7_init_8 (fun H locs hP hS => ?_)
  obtain rfl := ret_1 hF
  subst hρ0
  exact x_vret rfl C hP hS dX7_init_11
set_option maxHeartbeats 4000000 in
set_option maxRecDepth 100000 in
theorem c_X7_init_k5 {t : Nat} {a1 : Int32} {a2 : Int32} {a3 : Int32} {a4 : Int32} {a5 : Int32} {σ1 : SG} {σ : SG} {ρ : RG} (hL : True) (ht : isO 5 N K t) (hF : F_X7_init_k5 t a1 a2 a3 a4 a5 σ ρ = some σ1) : MT l Y D N ad K len yX7_init (Cond.code yX7_init cX7_init 6 none :: wsL_law) rm_X7_init_k5 [.ref (ad t), .int a1, .int a2, .int a3, .int a4, .int a5] σ ρ none σ1 ρ := by
  refine mt_of (cc := cX7_init) (nL := 6) (ret := none) (by decide) (Nat.le_of_ble_eq_true rfl) ?_
  intro p e s m args below meth c ls C hnm hP hS hl
  exact w_X7_init_k5_0 C rfl hL hnm ht hF hP hS hl

/-! CutCrooked$Slant.CutCrooked$Slant(int, int, int, int, int); k6 -/
theorem dX6_init_0 : decode cX6_init 0 = .ok (.aload_n 0, 1) := by decide +kernel
theorem dX6_init_1 : decode cX6_init 1 = .ok (.iload_n 1, 1) := by decide +kernel
theorem dX6_init_2 : decode cX6_init 2 = .ok (.iload_n 2, 1) := by decide +kernel
theorem dX6_init_3 : decode cX6_init 3 = .ok (.iload_n 3, 1) := by decide +kernel
theorem dX6_init_4 : decode cX6_init 4 = .ok (.iload 4, 2) := by decide +kernel
theorem dX6_init_6 : decode cX6_init 6 = .ok (.iload 5, 2) := by decide +kernel
theorem dX6_init_8 : decode cX6_init 8 = .ok (.invokespecial 1, 3) := by decide +kernel
theorem dX6_init_11 : decode cX6_init 11 = .ok (.return_, 1) := by decide +kernel
theorem hd_X6_init : yX6_init.cls = RX6 ∧ yX6_init.cls ≠ "java/lang/invoke/MethodHandle" ∧ yX6_init.cls ≠ "java/lang/invoke/VarHandle" ∧ (parseMethodDescriptor yX6_init.desc).map (fun d => d.parameters.length) = some 5 := by decide +kernel
abbrev rm_X6_init_k6 : Room := { frames := 2, cells := 0, slots := 0, locals := 45 }
def F_X6_init_k6 (t : Nat) (a1 : Int32) (a2 : Int32) (a3 : Int32) (a4 : Int32) (a5 : Int32) (σ : SG) (ρ : RG) : Option (SG) :=
  bn (F_X1_init_k6 t a1 a2 a3 a4 a5 σ ρ) fun σ1 =>
  some σ1
set_option maxHeartbeats 4000000 in
set_option maxRecDepth 100000 in
theorem w_X6_init_k6_0 {t : Nat} {a1 : Int32} {a2 : Int32} {a3 : Int32} {a4 : Int32} {a5 : Int32} {p : Program} {e : Env} {s : State} {m : MethodId} {args : Array Value} {below : List Frame} {meth : Method} {c : Code} {ρ0 : RG} {σ1 : SG} (C : Cx Y D N ad p s m args meth c cX6_init 6 none RX6 wsL_law) {σ : SG} {ρ : RG} {H : Heap} {locs : List Loc} {ls : Array Slot} (hρ0 : ρ = ρ0) (hL : True) (hnm : meth.name = "<init>") (ht : isO 6 N K t) (hF : F_X6_init_k6 t a1 a2 a3 a4 a5 σ ρ = some σ1) (hP : WP Y D N ad K len σ ρ H) (hS : va_S (AA N ad s.heap.size) s.heap H locs) (hl : lv_has ls 6 [(0, .ref (ad t)), (1, .int a1), (2, .int a2), (3, .int a3), (4, .int a4), (5, .int a5)]) : W p l e rm_X6_init_k6 s m args below meth c H locs 0 0 (MQ below (QW Y D N ad K len σ1 ρ0 (AA N ad s.heap.size) none) args s 0 0 (AA N ad s.heap.size)) (F0 m 0 ls []) := by
  have hx := C.1.1
  have hb := C.1.2.1
  unfold F_X6_init_k6 at hF
  refine lv_aload_n hx hb dX6_init_0 rfl (lv_at hl 0 rfl) ?_
  refine lv_iload_n hx hb dX6_init_1 rfl (lv_at hl 1 rfl) ?_
  refine lv_iload_n hx hb dX6_init_2 rfl (lv_at hl 2 rfl) ?_
  refine lv_iload_n hx hb dX6_init_3 rfl (lv_at hl 3 rfl) ?_
  refine lv_iload hx hb dX6_init_4 (lv_at hl 4 rfl) ?_
  refine lv_iload hx hb dX6_init_6 (lv_at hl 5 rfl) ?_
  obtain ⟨σ1, hq1, hF⟩ := bn_1 hF
  refine x_callIM C hP hS (c_X1_init_k6 trivial ⟨ht.1, ht.2⟩ hq1) (cwI 5 C.1.2.2.2.2 (gdI mw_386) rfl rfl rfl (C.1.2.2.2.2 _ mw_380) (C.1.2.2.2.2 _ mw_396) (C.1.2.2.2.2 _ mw_385) rfl hd_X1_init.2 ⟨Nat.le_of_ble_eq_true rfl, Nat.le_of_ble_eq_true rfl⟩) rfl rfl hl.1 (Nat.le_of_ble_eq_true rfl) ⟨Nat.zero_le _, Nat.zero_le _⟩ dX6_init_8 (fun H locs hP hS => ?_)
  obtain rfl := ret_1 hF
  subst hρ0
  exact x_vret rfl C hP hS dX6_init_11
set_option maxHeartbeats 4000000 in
set_option maxRecDepth 100000 in
theorem c_X6_init_k6 {t : Nat} {a1 : Int32} {a2 : Int32} {a3 : Int32} {a4 : Int32} {a5 : Int32} {σ1 : SG} {σ : SG} {ρ : RG} (hL : True) (ht : isO 6 N K t) (hF : F_X6_init_k6 t a1 a2 a3 a4 a5 σ ρ = some σ1) : MT l Y D N ad K len yX6_init (Cond.code yX6_init cX6_init 6 none :: wsL_law) rm_X6_init_k6 [.ref (ad t), .int a1, .int a2, .int a3, .int a4, .int a5] σ ρ none σ1 ρ := by
  refine mt_of (cc := cX6_init) (nL := 6) (ret := none) (by decide) (Nat.le_of_ble_eq_true rfl) ?_
  intro p e s m args below meth c ls C hnm hP hS hl
  exact w_X6_init_k6_0 C rfl hL hnm ht hF hP hS hl

/-! CutCrooked$Slant.CutCrooked$Slant(int, int, int, int, int); k4 -/
abbrev rm_X6_init_k4 : Room := { frames := 2, cells := 0, slots := 0, locals := 45 }
def F_X6_init_k4 (t : Nat) (a1 : Int32) (a2 : Int32) (a3 : Int32) (a4 : Int32) (a5 : Int32) (σ : SG) (ρ : RG) : Option (SG) :=
  bn (F_X1_init_k4 t a1 a2 a3 a4 a5 σ ρ) fun σ1 =>
  some σ1
set_option maxHeartbeats 4000000 in
set_option maxRecDepth 100000 in
theorem w_X6_init_k4_0 {t : Nat} {a1 : Int32} {a2 : Int32} {a3 : Int32} {a4 : Int32} {a5 : Int32} {p : Program} {e : Env} {s : State} {m : MethodId} {args : Array Value} {below : List Frame} {meth : Method} {c : Code} {ρ0 : RG} {σ1 : SG} (C : Cx Y D N ad p s m args meth c cX6_init 6 none RX6 wsL_law) {σ : SG} {ρ : RG} {H : Heap} {locs : List Loc} {ls : Array Slot} (hρ0 : ρ = ρ0) (hL : True) (hnm : meth.name = "<init>") (ht : isO 4 N K t) (hF : F_X6_init_k4 t a1 a2 a3 a4 a5 σ ρ = some σ1) (hP : WP Y D N ad K len σ ρ H) (hS : va_S (AA N ad s.heap.size) s.heap H locs) (hl : lv_has ls 6 [(0, .ref (ad t)), (1, .int a1), (2, .int a2), (3, .int a3), (4, .int a4), (5, .int a5)]) : W p l e rm_X6_init_k4 s m args below meth c H locs 0 0 (MQ below (QW Y D N ad K len σ1 ρ0 (AA N ad s.heap.size) none) args s 0 0 (AA N ad s.heap.size)) (F0 m 0 ls []) := by
  have hx := C.1.1
  have hb := C.1.2.1
  unfold F_X6_init_k4 at hF
  refine lv_aload_n hx hb dX6_init_0 rfl (lv_at hl 0 rfl) ?_
  refine lv_iload_n hx hb dX6_init_1 rfl (lv_at hl 1 rfl) ?_
  refine lv_iload_n hx hb dX6_init_2 rfl (lv_at hl 2 rfl) ?_
  refine lv_iload_n hx hb dX6_init_3 rfl (lv_at hl 3 rfl) ?_
  refine lv_iload hx hb dX6_init_4 (lv_at hl 4 rfl) ?_
  refine lv_iload hx hb dX6_init_6 (lv_at hl 5 rfl) ?_
  obtain ⟨σ1, hq1, hF⟩ := bn_1 hF
  refine x_callIM C hP hS (c_X1_init_k4 trivial ⟨ht.1, ht.2⟩ hq1) (cwI 5 C.1.2.2.2.2 (gdI mw_386) rfl rfl rfl (C.1.2.2.2.2 _ mw_380) (C.1.2.2.2.2 _ mw_396) (C.1.2.2.2.2 _ mw_385) rfl hd_X1_init.2 ⟨Nat.le_of_ble_eq_true rfl, Nat.le_of_ble_eq_true rfl⟩) rfl rfl hl.1 (Nat.le_of_ble_eq_true rfl) ⟨Nat.zero_le _, Nat.zero_le _⟩ dX6_init_8 (fun H locs hP hS => ?_)
  obtain rfl := ret_1 hF
  subst hρ0
  exact x_vret rfl C hP hS dX6_init_11
set_option maxHeartbeats 4000000 in
set_option maxRecDepth 100000 in
theorem c_X6_init_k4 {t : Nat} {a1 : Int32} {a2 : Int32} {a3 : Int32} {a4 : Int32} {a5 : Int32} {σ1 : SG} {σ : SG} {ρ : RG} (hL : True) (ht : isO 4 N K t) (hF : F_X6_init_k4 t a1 a2 a3 a4 a5 σ ρ = some σ1) : MT l Y D N ad K len yX6_init (Cond.code yX6_init cX6_init 6 none :: wsL_law) rm_X6_init_k4 [.ref (ad t), .int a1, .int a2, .int a3, .int a4, .int a5] σ ρ none σ1 ρ := by
  refine mt_of (cc := cX6_init) (nL := 6) (ret := none) (by decide) (Nat.le_of_ble_eq_true rfl) ?_
  intro p e s m args below meth c ls C hnm hP hS hl
  exact w_X6_init_k4_0 C rfl hL hnm ht hF hP hS hl

/-! CutCrooked$Follow.CutCrooked$Follow(int, int, int, int, int); k2 -/
theorem dX2_init_0 : decode cX2_init 0 = .ok (.aload_n 0, 1) := by decide +kernel
theorem dX2_init_1 : decode cX2_init 1 = .ok (.iload_n 1, 1) := by decide +kernel
theorem dX2_init_2 : decode cX2_init 2 = .ok (.iload_n 2, 1) := by decide +kernel
theorem dX2_init_3 : decode cX2_init 3 = .ok (.iload_n 3, 1) := by decide +kernel
theorem dX2_init_4 : decode cX2_init 4 = .ok (.iload 4, 2) := by decide +kernel
theorem dX2_init_6 : decode cX2_init 6 = .ok (.iload 5, 2) := by decide +kernel
theorem dX2_init_8 : decode cX2_init 8 = .ok (.invokespecial 1, 3) := by decide +kernel
theorem dX2_init_11 : decode cX2_init 11 = .ok (.return_, 1) := by decide +kernel
theorem hd_X2_init : yX2_init.cls = RX2 ∧ yX2_init.cls ≠ "java/lang/invoke/MethodHandle" ∧ yX2_init.cls ≠ "java/lang/invoke/VarHandle" ∧ (parseMethodDescriptor yX2_init.desc).map (fun d => d.parameters.length) = some 5 := by decide +kernel
abbrev rm_X2_init_k2 : Room := { frames := 2, cells := 0, slots := 0, locals := 45 }
def F_X2_init_k2 (t : Nat) (a1 : Int32) (a2 : Int32) (a3 : Int32) (a4 : Int32) (a5 : Int32) (σ : SG) (ρ : RG) : Option (SG) :=
  bn (F_X1_init_k2 t a1 a2 a3 a4 a5 σ ρ) fun σ1 =>
  some σ1
set_option maxHeartbeats 4000000 in
set_option maxRecDepth 100000 in
theorem w_X2_init_k2_0 {t : Nat} {a1 : Int32} {a2 : Int32} {a3 : Int32} {a4 : Int32} {a5 : Int32} {p : Program} {e : Env} {s : State} {m : MethodId} {args : Array Value} {below : List Frame} {meth : Method} {c : Code} {ρ0 : RG} {σ1 : SG} (C : Cx Y D N ad p s m args meth c cX2_init 6 none RX2 wsL_law) {σ : SG} {ρ : RG} {H : Heap} {locs : List Loc} {ls : Array Slot} (hρ0 : ρ = ρ0) (hL : True) (hnm : meth.name = "<init>") (ht : isO 2 N K t) (hF : F_X2_init_k2 t a1 a2 a3 a4 a5 σ ρ = some σ1) (hP : WP Y D N ad K len σ ρ H) (hS : va_S (AA N ad s.heap.size) s.heap H locs) (hl : lv_has ls 6 [(0, .ref (ad t)), (1, .int a1), (2, .int a2), (3, .int a3), (4, .int a4), (5, .int a5)]) : W p l e rm_X2_init_k2 s m args below meth c H locs 0 0 (MQ below (QW Y D N ad K len σ1 ρ0 (AA N ad s.heap.size) none) args s 0 0 (AA N ad s.heap.size)) (F0 m 0 ls []) := by
  have hx := C.1.1
  have hb := C.1.2.1
  unfold F_X2_init_k2 at hF
  refine lv_aload_n hx hb dX2_init_0 rfl (lv_at hl 0 rfl) ?_
  refine lv_iload_n hx hb dX2_init_1 rfl (lv_at hl 1 rfl) ?_
  refine lv_iload_n hx hb dX2_init_2 rfl (lv_at hl 2 rfl) ?_
  refine lv_iload_n hx hb dX2_init_3 rfl (lv_at hl 3 rfl) ?_
  refine lv_iload hx hb dX2_init_4 (lv_at hl 4 rfl) ?_
  refine lv_iload hx hb dX2_init_6 (lv_at hl 5 rfl) ?_
  obtain ⟨σ1, hq1, hF⟩ := bn_1 hF
  refine x_callIM C hP hS (c_X1_init_k2 trivial ⟨ht.1, ht.2⟩ hq1) (cwI 5 C.1.2.2.2.2 (gdI mw_386) rfl rfl rfl (C.1.2.2.2.2 _ mw_380) (C.1.2.2.2.2 _ mw_400) (C.1.2.2.2.2 _ mw_385) rfl hd_X1_init.2 ⟨Nat.le_of_ble_eq_true rfl, Nat.le_of_ble_eq_true rfl⟩) rfl rfl hl.1 (Nat.le_of_ble_eq_true rfl) ⟨Nat.zero_le _, Nat.zero_le _⟩ dX2_init_8 (fun H locs hP hS => ?_)
  obtain rfl := ret_1 hF
  subst hρ0
  exact x_vret rfl C hP hS dX2_init_11
set_option maxHeartbeats 4000000 in
set_option maxRecDepth 100000 in
theorem c_X2_init_k2 {t : Nat} {a1 : Int32} {a2 : Int32} {a3 : Int32} {a4 : Int32} {a5 : Int32} {σ1 : SG} {σ : SG} {ρ : RG} (hL : True) (ht : isO 2 N K t) (hF : F_X2_init_k2 t a1 a2 a3 a4 a5 σ ρ = some σ1) : MT l Y D N ad K len yX2_init (Cond.code yX2_init cX2_init 6 none :: wsL_law) rm_X2_init_k2 [.ref (ad t), .int a1, .int a2, .int a3, .int a4, .int a5] σ ρ none σ1 ρ := by
  refine mt_of (cc := cX2_init) (nL := 6) (ret := none) (by decide) (Nat.le_of_ble_eq_true rfl) ?_
  intro p e s m args below meth c ls C hnm hP hS hl
  exact w_X2_init_k2_0 C rfl hL hnm ht hF hP hS hl

/-! CutCrooked$Follow.CutCrooked$Follow(int, int, int, int, int); k9 -/
abbrev rm_X2_init_k9 : Room := { frames := 2, cells := 0, slots := 0, locals := 45 }
def F_X2_init_k9 (t : Nat) (a1 : Int32) (a2 : Int32) (a3 : Int32) (a4 : Int32) (a5 : Int32) (σ : SG) (ρ : RG) : Option (SG) :=
  bn (F_X1_init_k9 t a1 a2 a3 a4 a5 σ ρ) fun σ1 =>
  some σ1
set_option maxHeartbeats 4000000 in
set_option maxRecDepth 100000 in
theorem w_X2_init_k9_0 {t : Nat} {a1 : Int32} {a2 : Int32} {a3 : Int32} {a4 : Int32} {a5 : Int32} {p : Program} {e : Env} {s : State} {m : MethodId} {args : Array Value} {below : List Frame} {meth : Method} {c : Code} {ρ0 : RG} {σ1 : SG} (C : Cx Y D N ad p s m args meth c cX2_init 6 none RX2 wsL_law) {σ : SG} {ρ : RG} {H : Heap} {locs : List Loc} {ls : Array Slot} (hρ0 : ρ = ρ0) (hL : True) (hnm : meth.name = "<init>") (ht : isO 9 N K t) (hF : F_X2_init_k9 t a1 a2 a3 a4 a5 σ ρ = some σ1) (hP : WP Y D N ad K len σ ρ H) (hS : va_S (AA N ad s.heap.size) s.heap H locs) (hl : lv_has ls 6 [(0, .ref (ad t)), (1, .int a1), (2, .int a2), (3, .int a3), (4, .int a4), (5, .int a5)]) : W p l e rm_X2_init_k9 s m args below meth c H locs 0 0 (MQ below (QW Y D N ad K len σ1 ρ0 (AA N ad s.heap.size) none) args s 0 0 (AA N ad s.heap.size)) (F0 m 0 ls []) := by
  have hx := C.1.1
  have hb := C.1.2.1
  unfold F_X2_init_k9 at hF
  refine lv_aload_n hx hb dX2_init_0 rfl (lv_at hl 0 rfl) ?_
  refine lv_iload_n hx hb dX2_init_1 rfl (lv_at hl 1 rfl) ?_
  refine lv_iload_n hx hb dX2_init_2 rfl (lv_at hl 2 rfl) ?_
  refine lv_iload_n hx hb dX2_init_3 rfl (lv_at hl 3 rfl) ?_
  refine lv_iload hx hb dX2_init_4 (lv_at hl 4 rfl) ?_
  refine lv_iload hx hb dX2_init_6 (lv_at hl 5 rfl) ?_
  obtain ⟨σ1, hq1, hF⟩ := bn_1 hF
  refine x_callIM C hP hS (c_X1_init_k9 trivial ⟨ht.1, ht.2⟩ hq1) (cwI 5 C.1.2.2.2.2 (gdI mw_386) rfl rfl rfl (C.1.2.2.2.2 _ mw_380) (C.1.2.2.2.2 _ mw_400) (C.1.2.2.2.2 _ mw_385) rfl hd_X1_init.2 ⟨Nat.le_of_ble_eq_true rfl, Nat.le_of_ble_eq_true rfl⟩) rfl rfl hl.1 (Nat.le_of_ble_eq_true rfl) ⟨Nat.zero_le _, Nat.zero_le _⟩ dX2_init_8 (fun H locs hP hS => ?_)
  obtain rfl := ret_1 hF
  subst hρ0
  exact x_vret rfl C hP hS dX2_init_11
set_option maxHeartbeats 4000000 in
set_option maxRecDepth 100000 in
theorem c_X2_init_k9 {t : Nat} {a1 : Int32} {a2 : Int32} {a3 : Int32} {a4 : Int32} {a5 : Int32} {σ1 : SG} {σ : SG} {ρ : RG} (hL : True) (ht : isO 9 N K t) (hF : F_X2_init_k9 t a1 a2 a3 a4 a5 σ ρ = some σ1) : MT l Y D N ad K len yX2_init (Cond.code yX2_init cX2_init 6 none :: wsL_law) rm_X2_init_k9 [.ref (ad t), .int a1, .int a2, .int a3, .int a4, .int a5] σ ρ none σ1 ρ := by
  refine mt_of (cc := cX2_init) (nL := 6) (ret := none) (by decide) (Nat.le_of_ble_eq_true rfl) ?_
  intro p e s m args below meth c ls C hnm hP hS hl
  exact w_X2_init_k9_0 C rfl hL hnm ht hF hP hS hl

/-! CutCrooked$Righting.CutCrooked$Righting(int, int, int, int, int); k5 -/
theorem dX5_init_0 : decode cX5_init 0 = .ok (.aload_n 0, 1) := by decide +kernel
theorem dX5_init_1 : decode cX5_init 1 = .ok (.iload_n 1, 1) := by decide +kernel
theorem dX5_init_2 : decode cX5_init 2 = .ok (.iload_n 2, 1) := by decide +kernel
theorem dX5_init_3 : decode cX5_init 3 = .ok (.iload_n 3, 1) := by decide +kernel
theorem dX5_init_4 : decode cX5_init 4 = .ok (.iload 4, 2) := by decide +kernel
theorem dX5_init_6 : decode cX5_init 6 = .ok (.iload 5, 2) := by decide +kernel
theorem dX5_init_8 : decode cX5_init 8 = .ok (.invokespecial 1, 3) := by decide +kernel
theorem dX5_init_11 : decode cX5_init 11 = .ok (.return_, 1) := by decide +kernel
theorem hd_X5_init : yX5_init.cls = RX5 ∧ yX5_init.cls ≠ "java/lang/invoke/MethodHandle" ∧ yX5_init.cls ≠ "java/lang/invoke/VarHandle" ∧ (parseMethodDescriptor yX5_init.desc).map (fun d => d.parameters.length) = some 5 := by decide +kernel
abbrev rm_X5_init_k5 : Room := { frames := 3, cells := 0, slots := 0, locals := 70 }
def F_X5_init_k5 (t : Nat) (a1 : Int32) (a2 : Int32) (a3 : Int32) (a4 : Int32) (a5 : Int32) (σ : SG) (ρ : RG) : Option (SG) :=
  bn (F_X7_init_k5 t a1 a2 a3 a4 a5 σ ρ) fun σ1 =>
  some σ1
set_option maxHeartbeats 4000000 in
set_option maxRecDepth 100000 in
theorem w_X5_init_k5_0 {t : Nat} {a1 : Int32} {a2 : Int32} {a3 : Int32} {a4 : Int32} {a5 : Int32} {p : Program} {e : Env} {s : State} {m : MethodId} {args : Array Value} {below : List Frame} {meth : Method} {c : Code} {ρ0 : RG} {σ1 : SG} (C : Cx Y D N ad p s m args meth c cX5_init 6 none RX5 wsL_law) {σ : SG} {ρ : RG} {H : Heap} {locs : List Loc} {ls : Array Slot} (hρ0 : ρ = ρ0) (hL : True) (hnm : meth.name = "<init>") (ht : isO 5 N K t) (hF : F_X5_init_k5 t a1 a2 a3 a4 a5 σ ρ = some σ1) (hP : WP Y D N ad K len σ ρ H) (hS : va_S (AA N ad s.heap.size) s.heap H locs) (hl : lv_has ls 6 [(0, .ref (ad t)), (1, .int a1), (2, .int a2), (3, .int a3), (4, .int a4), (5, .int a5)]) : W p l e rm_X5_init_k5 s m args below meth c H locs 0 0 (MQ below (QW Y D N ad K len σ1 ρ0 (AA N ad s.heap.size) none) args s 0 0 (AA N ad s.heap.size)) (F0 m 0 ls []) := by
  have hx := C.1.1
  have hb := C.1.2.1
  unfold F_X5_init_k5 at hF
  refine lv_aload_n hx hb dX5_init_0 rfl (lv_at hl 0 rfl) ?_
  refine lv_iload_n hx hb dX5_init_1 rfl (lv_at hl 1 rfl) ?_
  refine lv_iload_n hx hb dX5_init_2 rfl (lv_at hl 2 rfl) ?_
  refine lv_iload_n hx hb dX5_init_3 rfl (lv_at hl 3 rfl) ?_
  refine lv_iload hx hb dX5_init_4 (lv_at hl 4 rfl) ?_
  refine lv_iload hx hb dX5_init_6 (lv_at hl 5 rfl) ?_
  obtain ⟨σ1, hq1, hF⟩ := bn_1 hF
  refine x_callIM C hP hS (c_X7_init_k5 trivial ⟨ht.1, ht.2⟩ hq1) (cwI 5 C.1.2.2.2.2 (gdI mw_383) rfl rfl rfl (C.1.2.2.2.2 _ mw_362) (C.1.2.2.2.2 _ mw_404) (C.1.2.2.2.2 _ mw_382) rfl hd_X7_init.2 ⟨Nat.le_of_ble_eq_true rfl, Nat.le_of_ble_eq_true rfl⟩) rfl rfl hl.1 (Nat.le_of_ble_eq_true rfl) ⟨Nat.zero_le _, Nat.zero_le _⟩ dX5_init_8 (fun H locs hP hS => ?_)
  obtain rfl := ret_1 hF
  subst hρ0
  exact x_vret rfl C hP hS dX5_init_11
set_option maxHeartbeats 4000000 in
set_option maxRecDepth 100000 in
theorem c_X5_init_k5 {t : Nat} {a1 : Int32} {a2 : Int32} {a3 : Int32} {a4 : Int32} {a5 : Int32} {σ1 : SG} {σ : SG} {ρ : RG} (hL : True) (ht : isO 5 N K t) (hF : F_X5_init_k5 t a1 a2 a3 a4 a5 σ ρ = some σ1) : MT l Y D N ad K len yX5_init (Cond.code yX5_init cX5_init 6 none :: wsL_law) rm_X5_init_k5 [.ref (ad t), .int a1, .int a2, .int a3, .int a4, .int a5] σ ρ none σ1 ρ := by
  refine mt_of (cc := cX5_init) (nL := 6) (ret := none) (by decide) (Nat.le_of_ble_eq_true rfl) ?_
  intro p e s m args below meth c ls C hnm hP hS hl
  exact w_X5_init_k5_0 C rfl hL hnm ht hF hP hS hl

/-! CutCrooked$Over.CutCrooked$Over(int, int, int, int, int); k4 -/
theorem dX4_init_0 : decode cX4_init 0 = .ok (.aload_n 0, 1) := by decide +kernel
theorem dX4_init_1 : decode cX4_init 1 = .ok (.iload_n 1, 1) := by decide +kernel
theorem dX4_init_2 : decode cX4_init 2 = .ok (.iload_n 2, 1) := by decide +kernel
theorem dX4_init_3 : decode cX4_init 3 = .ok (.iload_n 3, 1) := by decide +kernel
theorem dX4_init_4 : decode cX4_init 4 = .ok (.iload 4, 2) := by decide +kernel
theorem dX4_init_6 : decode cX4_init 6 = .ok (.iload 5, 2) := by decide +kernel
theorem dX4_init_8 : decode cX4_init 8 = .ok (.invokespecial 1, 3) := by decide +kernel
theorem dX4_init_11 : decode cX4_init 11 = .ok (.return_, 1) := by decide +kernel
theorem hd_X4_init : yX4_init.cls = RX4 ∧ yX4_init.cls ≠ "java/lang/invoke/MethodHandle" ∧ yX4_init.cls ≠ "java/lang/invoke/VarHandle" ∧ (parseMethodDescriptor yX4_init.desc).map (fun d => d.parameters.length) = some 5 := by decide +kernel
abbrev rm_X4_init_k4 : Room := { frames := 3, cells := 0, slots := 0, locals := 70 }
def F_X4_init_k4 (t : Nat) (a1 : Int32) (a2 : Int32) (a3 : Int32) (a4 : Int32) (a5 : Int32) (σ : SG) (ρ : RG) : Option (SG) :=
  bn (F_X6_init_k4 t a1 a2 a3 a4 a5 σ ρ) fun σ1 =>
  some σ1
set_option maxHeartbeats 4000000 in
set_option maxRecDepth 100000 in
theorem w_X4_init_k4_0 {t : Nat} {a1 : Int32} {a2 : Int32} {a3 : Int32} {a4 : Int32} {a5 : Int32} {p : Program} {e : Env} {s : State} {m : MethodId} {args : Array Value} {below : List Frame} {meth : Method} {c : Code} {ρ0 : RG} {σ1 : SG} (C : Cx Y D N ad p s m args meth c cX4_init 6 none RX4 wsL_law) {σ : SG} {ρ : RG} {H : Heap} {locs : List Loc} {ls : Array Slot} (hρ0 : ρ = ρ0) (hL : True) (hnm : meth.name = "<init>") (ht : isO 4 N K t) (hF : F_X4_init_k4 t a1 a2 a3 a4 a5 σ ρ = some σ1) (hP : WP Y D N ad K len σ ρ H) (hS : va_S (AA N ad s.heap.size) s.heap H locs) (hl : lv_has ls 6 [(0, .ref (ad t)), (1, .int a1), (2, .int a2), (3, .int a3), (4, .int a4), (5, .int a5)]) : W p l e rm_X4_init_k4 s m args below meth c H locs 0 0 (MQ below (QW Y D N ad K len σ1 ρ0 (AA N ad s.heap.size) none) args s 0 0 (AA N ad s.heap.size)) (F0 m 0 ls []) := by
  have hx := C.1.1
  have hb := C.1.2.1
  unfold F_X4_init_k4 at hF
  refine lv_aload_n hx hb dX4_init_0 rfl (lv_at hl 0 rfl) ?_
  refine lv_iload_n hx hb dX4_init_1 rfl (lv_at hl 1 rfl) ?_
  refine lv_iload_n hx hb dX4_init_2 rfl (lv_at hl 2 rfl) ?_
  refine lv_iload_n hx hb dX4_init_3 rfl (lv_at hl 3 rfl) ?_
  refine lv_iload hx hb dX4_init_4 (lv_at hl 4 rfl) ?_
  refine lv_iload hx hb dX4_init_6 (lv_at hl 5 rfl) ?_
  obtain ⟨σ1, hq1, hF⟩ := bn_1 hF
  refine x_callIM C hP hS (c_X6_init_k4 trivial ⟨ht.1, ht.2⟩ hq1) (cwI 5 C.1.2.2.2.2 (gdI mw_395) rfl rfl rfl (C.1.2.2.2.2 _ mw_365) (C.1.2.2.2.2 _ mw_408) (C.1.2.2.2.2 _ mw_394) rfl hd_X6_init.2 ⟨Nat.le_of_ble_eq_true rfl, Nat.le_of_ble_eq_true rfl⟩) rfl rfl hl.1 (Nat.le_of_ble_eq_true rfl) ⟨Nat.zero_le _, Nat.zero_le _⟩ dX4_init_8 (fun H locs hP hS => ?_)
  obtain rfl := ret_1 hF
  subst hρ0
  exact x_vret rfl C hP hS dX4_init_11
set_option maxHeartbeats 4000000 in
set_option maxRecDepth 100000 in
theorem c_X4_init_k4 {t : Nat} {a1 : Int32} {a2 : Int32} {a3 : Int32} {a4 : Int32} {a5 : Int32} {σ1 : SG} {σ : SG} {ρ : RG} (hL : True) (ht : isO 4 N K t) (hF : F_X4_init_k4 t a1 a2 a3 a4 a5 σ ρ = some σ1) : MT l Y D N ad K len yX4_init (Cond.code yX4_init cX4_init 6 none :: wsL_law) rm_X4_init_k4 [.ref (ad t), .int a1, .int a2, .int a3, .int a4, .int a5] σ ρ none σ1 ρ := by
  refine mt_of (cc := cX4_init) (nL := 6) (ret := none) (by decide) (Nat.le_of_ble_eq_true rfl) ?_
  intro p e s m args below meth c ls C hnm hP hS hl
  exact w_X4_init_k4_0 C rfl hL hnm ht hF hP hS hl

/-! CutCrooked$Told.CutCrooked$Told(int, int, int, int, int); k9 -/
theorem dX9_init_0 : decode cX9_init 0 = .ok (.aload_n 0, 1) := by decide +kernel
theorem dX9_init_1 : decode cX9_init 1 = .ok (.iload_n 1, 1) := by decide +kernel
theorem dX9_init_2 : decode cX9_init 2 = .ok (.iload_n 2, 1) := by decide +kernel
theorem dX9_init_3 : decode cX9_init 3 = .ok (.iload_n 3, 1) := by decide +kernel
theorem dX9_init_4 : decode cX9_init 4 = .ok (.iload 4, 2) := by decide +kernel
theorem dX9_init_6 : decode cX9_init 6 = .ok (.iload 5, 2) := by decide +kernel
theorem dX9_init_8 : decode cX9_init 8 = .ok (.invokespecial 3, 3) := by decide +kernel
theorem dX9_init_11 : decode cX9_init 11 = .ok (.aload_n 0, 1) := by decide +kernel
theorem dX9_init_12 : decode cX9_init 12 = .ok (.iconst 4, 1) := by decide +kernel
theorem dX9_init_13 : decode cX9_init 13 = .ok (.newarray .int, 2) := by decide +kernel
theorem dX9_init_15 : decode cX9_init 15 = .ok (.dup, 1) := by decide +kernel
theorem dX9_init_16 : decode cX9_init 16 = .ok (.iconst 0, 1) := by decide +kernel
theorem dX9_init_17 : decode cX9_init 17 = .ok (.iconst 4, 1) := by decide +kernel
theorem dX9_init_18 : decode cX9_init 18 = .ok (.iastore, 1) := by decide +kernel
theorem dX9_init_19 : decode cX9_init 19 = .ok (.dup, 1) := by decide +kernel
theorem dX9_init_20 : decode cX9_init 20 = .ok (.iconst 1, 1) := by decide +kernel
theorem dX9_init_21 : decode cX9_init 21 = .ok (.iconst 4, 1) := by decide +kernel
theorem dX9_init_22 : decode cX9_init 22 = .ok (.iastore, 1) := by decide +kernel
theorem dX9_init_23 : decode cX9_init 23 = .ok (.dup, 1) := by decide +kernel
theorem dX9_init_24 : decode cX9_init 24 = .ok (.iconst 2, 1) := by decide +kernel
theorem dX9_init_25 : decode cX9_init 25 = .ok (.iconst 4, 1) := by decide +kernel
theorem dX9_init_26 : decode cX9_init 26 = .ok (.iastore, 1) := by decide +kernel
theorem dX9_init_27 : decode cX9_init 27 = .ok (.dup, 1) := by decide +kernel
theorem dX9_init_28 : decode cX9_init 28 = .ok (.iconst 3, 1) := by decide +kernel
theorem dX9_init_29 : decode cX9_init 29 = .ok (.iconst 4, 1) := by decide +kernel
theorem dX9_init_30 : decode cX9_init 30 = .ok (.iastore, 1) := by decide +kernel
theorem dX9_init_31 : decode cX9_init 31 = .ok (.putfield 9, 3) := by decide +kernel
theorem dX9_init_34 : decode cX9_init 34 = .ok (.return_, 1) := by decide +kernel
theorem hd_X9_init : yX9_init.cls = RX9 ∧ yX9_init.cls ≠ "java/lang/invoke/MethodHandle" ∧ yX9_init.cls ≠ "java/lang/invoke/VarHandle" ∧ (parseMethodDescriptor yX9_init.desc).map (fun d => d.parameters.length) = some 5 := by decide +kernel
abbrev rm_X9_init_k9 : Room := { frames := 3, cells := 1, slots := 4, locals := 70 }
def F_X9_init_k9 (t : Nat) (a1 : Int32) (a2 : Int32) (a3 : Int32) (a4 : Int32) (a5 : Int32) (N : Nat) (K len : Nat → Nat) (σ : SG) (ρ : RG) : Option (Unit × TT) :=
  bn (F_X2_init_k9 t a1 a2 a3 a4 a5 σ ρ) fun σ1 =>
  nm (va_up K N 14) fun K2 =>
  nm (va_up len N 4) fun L2 =>
  nm (va_up σ1 N (fun _ => 0)) fun σ2 =>
  nm (va_up ρ N (fun _ => none)) fun ρ2 =>
  nm (s2 σ2 N 0 (4 : Int32)) fun σ4 =>
  nm (s2 σ4 N 1 (4 : Int32)) fun σ6 =>
  nm (s2 σ6 N 2 (4 : Int32)) fun σ8 =>
  nm (s2 σ8 N 3 (4 : Int32)) fun σ10 =>
  nm (r2 ρ2 t 6 (some N)) fun ρ11 =>
  some ((), (N + 1), K2, L2, σ10, ρ11)
set_option maxHeartbeats 4000000 in
set_option maxRecDepth 100000 in
theorem k_X9_init_k9 {t : Nat} {a1 : Int32} {a2 : Int32} {a3 : Int32} {a4 : Int32} {a5 : Int32} {N1 : Nat} {K1 len1 : Nat → Nat} {σ σ1 : SG} {ρ ρ1 : RG} (hL : Lay N K len ρ) (hR : RC N ρ) (ht : isO 9 N K t) (hbig : 65 ≤ t) (hF : F_X9_init_k9 t a1 a2 a3 a4 a5 N K len σ ρ = some ((), N1, K1, len1, σ1, ρ1)) : N ≤ N1 ∧ Lay N1 K1 len1 ρ1 ∧ RC N1 ρ1 ∧ (∀ k t : Nat, isO k N K t → isO k N1 K1 t) := by
  unfold F_X9_init_k9 at hF
  have hN0 : 65 ≤ N := hL.1
  have hI : ∀ k t : Nat, isO k N K t → isO k N K t := fun _ _ h => h
  obtain ⟨σ1, hq1, hF⟩ := bn_1 hF
  obtain ⟨K2, eK2, hF⟩ := nm_1 hF
  obtain ⟨L2, eL2, hF⟩ := nm_1 hF
  obtain ⟨σ2, eσ2, hF⟩ := nm_1 hF
  obtain ⟨ρ2, eρ2, hF⟩ := nm_1 hF
  have hR : RC (N + 1) ρ2 := by rw [eρ2]; exact RC_new hR
  have hL : Lay (N + 1) K2 L2 ρ2 := by rw [eK2, eL2, eρ2]; exact Lay_new hL _ _
  have ht : isO 9 (N + 1) K2 t := by rw [eK2]; exact isO_new ht _
  have hn2 : isO 14 (N + 1) K2 N := by rw [eK2]; exact isO_self _ _
  have hI := fun k t (h : isO k N K t) => (show isO k _ K2 t by rw [eK2]; exact isO_new (hI k t h) _)
  obtain ⟨σ4, eσ4, hF⟩ := nm_1 hF
  obtain ⟨σ6, eσ6, hF⟩ := nm_1 hF
  obtain ⟨σ8, eσ8, hF⟩ := nm_1 hF
  obtain ⟨σ10, eσ10, hF⟩ := nm_1 hF
  obtain ⟨ρ11, eρ11, hF⟩ := nm_1 hF
  have hL : Lay (N + 1) K2 L2 ρ11 := by rw [eρ11]; exact Lay_far hL hbig
  have hR : RC (N + 1) ρ11 := by rw [eρ11]; exact RC_put hR hn2.1
  obtain ⟨-, rfl, rfl, rfl, rfl, rfl⟩ := ret_T hF
  exact ⟨by omega, hL, hR, fun k t ht => hI k t ht⟩
set_option maxHeartbeats 8000000 in
set_option maxRecDepth 100000 in
theorem c_X9_init_k9 {t : Nat} {a1 : Int32} {a2 : Int32} {a3 : Int32} {a4 : Int32} {a5 : Int32} {N1 : Nat} {K1 len1 : Nat → Nat} {σ σ1 : SG} {ρ ρ1 : RG} (hL : Lay N K len ρ) (hR : RC N ρ) (ht : isO 9 N K t) (hbig : 65 ≤ t) (hF : F_X9_init_k9 t a1 a2 a3 a4 a5 N K len σ ρ = some ((), N1, K1, len1, σ1, ρ1)) : MC l Y D N ad K len yX9_init (Cond.code yX9_init cX9_init 6 none :: wsL_law) rm_X9_init_k9 [.ref (ad t), .int a1, .int a2, .int a3, .int a4, .int a5] σ ρ (fun _ => none) N1 K1 len1 σ1 ρ1 1 4 := by
  refine mc_of (cc := cX9_init) (nL := 6) (ret := none) (by decide) (Nat.le_of_ble_eq_true rfl) ?_
  intro p e s m args below meth c ls C hnm hP hS hl
  have hx := C.1.1
  have hb := C.1.2.1
  have hl : lv_has ls 6 [(0, .ref (ad t)), (1, .int a1), (2, .int a2), (3, .int a3), (4, .int a4), (5, .int a5)] := hl
  have hEE : ∀ r, r < N → ad r = ad r := fun _ _ => rfl
  have hAA : AA N ad s.heap.size = AA N ad s.heap.size := rfl
  have hN0 : 65 ≤ N := hL.1
  unfold F_X9_init_k9 at hF
  refine lv_aload_n hx hb dX9_init_0 rfl (lv_at hl 0 rfl) ?_
  refine lv_iload_n hx hb dX9_init_1 rfl (lv_at hl 1 rfl) ?_
  refine lv_iload_n hx hb dX9_init_2 rfl (lv_at hl 2 rfl) ?_
  refine lv_iload_n hx hb dX9_init_3 rfl (lv_at hl 3 rfl) ?_
  refine lv_iload hx hb dX9_init_4 (lv_at hl 4 rfl) ?_
  refine lv_iload hx hb dX9_init_6 (lv_at hl 5 rfl) ?_
  obtain ⟨σ1, hq1, hF⟩ := bn_1 hF
  refine x_callIM C hP hS (c_X2_init_k9 trivial ⟨ht.1, ht.2⟩ hq1) (cwI 5 C.1.2.2.2.2 (gdI mw_399) rfl rfl rfl (C.1.2.2.2.2 _ mw_368) (C.1.2.2.2.2 _ mw_413) (C.1.2.2.2.2 _ mw_398) rfl hd_X2_init.2 ⟨Nat.le_of_ble_eq_true rfl, Nat.le_of_ble_eq_true rfl⟩) rfl rfl hl.1 (Nat.le_of_ble_eq_true rfl) ⟨(Nat.le_of_ble_eq_true rfl), (Nat.le_of_ble_eq_true rfl)⟩ dX9_init_8 (fun H locs hP hS => ?_)
  refine lv_aload_n hx hb dX9_init_11 rfl (lv_at hl 0 rfl) ?_
  refine lv_iconst (v := 4) hx hb dX9_init_12 (by decide) ?_
  obtain ⟨K2, eK2, hF⟩ := nm_1 hF
  obtain ⟨L2, eL2, hF⟩ := nm_1 hF
  obtain ⟨σ2, eσ2, hF⟩ := nm_1 hF
  obtain ⟨ρ2, eρ2, hF⟩ := nm_1 hF
  have hP := WP_like (K1 := K2) (len1 := L2) (σ1 := σ2) (ρ1 := ρ2) hP (fun r h => by rw [eK2, va_up_ne _ _ (Nat.ne_of_lt h)]) (fun r h => by rw [eL2, va_up_ne _ _ (Nat.ne_of_lt h)]) (fun r h => by rw [eσ2, va_up_ne _ _ (Nat.ne_of_lt h)]) (fun r h => by rw [eρ2, va_up_ne _ _ (Nat.ne_of_lt h)])
  have hR0 : RC N ρ2 := by rw [eρ2]; exact RC_row hR
  refine x_newa (atype := .int) (ty := .int) (t := 14) (y := 1) rfl (fun _ h => by cases h) rfl rfl (fun _ _ _ _ => rfl) C hP hS hR0 (by rw [eK2, va_up_self]) (by rw [eL2, va_up_self]) ⟨by rw [eσ2, va_up_self], by rw [eρ2, va_up_self]⟩ mw_27 (by decide) cl_4 (Nat.le_of_ble_eq_true rfl) (Nat.le_of_ble_eq_true rfl) (Nat.le_of_ble_eq_true rfl) dX9_init_13 (fun ad2 H hE hA C hP hS => ?_)
  rw [← hE t ht.1]
  rw [← hE t ht.1] at hl
  have hEE : ∀ r, r < N → ad2 r = ad r := fun r h => (hE r (by omega)).trans (hEE r h)
  have hAA := hA.trans hAA
  have hR : RC (N + 1) ρ2 := by rw [eρ2]; exact RC_new hR
  have hL : Lay (N + 1) K2 L2 ρ2 := by rw [eK2, eL2, eρ2]; exact Lay_new hL _ _
  have ht : isO 9 (N + 1) K2 t := by rw [eK2]; exact isO_new ht _
  have hn2 : isO 14 (N + 1) K2 N := by rw [eK2]; exact isO_self _ _
  refine lv_dup hx hb dX9_init_15 rfl ?_
  refine lv_iconst (v := 0) hx hb dX9_init_16 (by decide) ?_
  refine lv_iconst (v := 4) hx hb dX9_init_17 (by decide) ?_
  obtain ⟨σ4, eσ4, hF⟩ := nm_1 hF
  refine x_iast (σ1 := σ4) C hP hS hn2.1 hn2.2 (by rw [eL2, va_up_self]) (by decide +kernel) (by rw [cl_0]; exact eσ4) dX9_init_18 (fun H locs hP hS => ?_)
  refine lv_dup hx hb dX9_init_19 rfl ?_
  refine lv_iconst (v := 1) hx hb dX9_init_20 (by decide) ?_
  refine lv_iconst (v := 4) hx hb dX9_init_21 (by decide) ?_
  obtain ⟨σ6, eσ6, hF⟩ := nm_1 hF
  refine x_iast (σ1 := σ6) C hP hS hn2.1 hn2.2 (by rw [eL2, va_up_self]) (by decide +kernel) (by rw [cl_1]; exact eσ6) dX9_init_22 (fun H locs hP hS => ?_)
  refine lv_dup hx hb dX9_init_23 rfl ?_
  refine lv_iconst (v := 2) hx hb dX9_init_24 (by decide) ?_
  refine lv_iconst (v := 4) hx hb dX9_init_25 (by decide) ?_
  obtain ⟨σ8, eσ8, hF⟩ := nm_1 hF
  refine x_iast (σ1 := σ8) C hP hS hn2.1 hn2.2 (by rw [eL2, va_up_self]) (by decide +kernel) (by rw [cl_2]; exact eσ8) dX9_init_26 (fun H locs hP hS => ?_)
  refine lv_dup hx hb dX9_init_27 rfl ?_
  refine lv_iconst (v := 3) hx hb dX9_init_28 (by decide) ?_
  refine lv_iconst (v := 4) hx hb dX9_init_29 (by decide) ?_
  obtain ⟨σ10, eσ10, hF⟩ := nm_1 hF
  refine x_iast (σ1 := σ10) C hP hS hn2.1 hn2.2 (by rw [eL2, va_up_self]) (by decide +kernel) (by rw [cl_3]; exact eσ10) dX9_init_30 (fun H locs hP hS => ?_)
  obtain ⟨ρ11, eρ11, hF⟩ := nm_1 hF
  refine put_9_6 C hP hS ht.1 ht.2 inlX9 mw_412 ⟨hnm, rfl⟩ eρ11 dX9_init_31 (fun H locs hP hS => ?_)
  have hL : Lay (N + 1) K2 L2 ρ11 := by rw [eρ11]; exact Lay_far hL hbig
  have hR : RC (N + 1) ρ11 := by rw [eρ11]; exact RC_put hR hn2.1
  obtain ⟨-, rfl, rfl, rfl, rfl, rfl⟩ := ret_T hF
  exact x_cret rfl hEE hAA C hP hS dX9_init_34

/-! CutCrooked.private static CutCrooked$Cutter newCutter(int, int, int, int, int, int);  -/
theorem dX11_newCutter_0 : decode cX11_newCutter 0 = .ok (.iload_n 0, 1) := by decide +kernel
theorem dX11_newCutter_1 : decode cX11_newCutter 1 = .ok (.tableswitch 129 1 6 #[39, 54, 69, 84, 99, 114], 39) := by decide +kernel
theorem dX11_newCutter_40 : decode cX11_newCutter 40 = .ok (.new 296, 3) := by decide +kernel
theorem dX11_newCutter_43 : decode cX11_newCutter 43 = .ok (.dup, 1) := by decide +kernel
theorem dX11_newCutter_44 : decode cX11_newCutter 44 = .ok (.iload_n 1, 1) := by decide +kernel
theorem dX11_newCutter_45 : decode cX11_newCutter 45 = .ok (.iload_n 2, 1) := by decide +kernel
theorem dX11_newCutter_46 : decode cX11_newCutter 46 = .ok (.iload_n 3, 1) := by decide +kernel
theorem dX11_newCutter_47 : decode cX11_newCutter 47 = .ok (.iload 4, 2) := by decide +kernel
theorem dX11_newCutter_49 : decode cX11_newCutter 49 = .ok (.iload 5, 2) := by decide +kernel
theorem dX11_newCutter_51 : decode cX11_newCutter 51 = .ok (.invokespecial 298, 3) := by decide +kernel
theorem dX11_newCutter_54 : decode cX11_newCutter 54 = .ok (.areturn, 1) := by decide +kernel
theorem dX11_newCutter_55 : decode cX11_newCutter 55 = .ok (.new 301, 3) := by decide +kernel
theorem dX11_newCutter_58 : decode cX11_newCutter 58 = .ok (.dup, 1) := by decide +kernel
theorem dX11_newCutter_59 : decode cX11_newCutter 59 = .ok (.iload_n 1, 1) := by decide +kernel
theorem dX11_newCutter_60 : decode cX11_newCutter 60 = .ok (.iload_n 2, 1) := by decide +kernel
theorem dX11_newCutter_61 : decode cX11_newCutter 61 = .ok (.iload_n 3, 1) := by decide +kernel
theorem dX11_newCutter_62 : decode cX11_newCutter 62 = .ok (.iload 4, 2) := by decide +kernel
theorem dX11_newCutter_64 : decode cX11_newCutter 64 = .ok (.iload 5, 2) := by decide +kernel
theorem dX11_newCutter_66 : decode cX11_newCutter 66 = .ok (.invokespecial 303, 3) := by decide +kernel
theorem dX11_newCutter_69 : decode cX11_newCutter 69 = .ok (.areturn, 1) := by decide +kernel
theorem dX11_newCutter_70 : decode cX11_newCutter 70 = .ok (.new 304, 3) := by decide +kernel
theorem dX11_newCutter_73 : decode cX11_newCutter 73 = .ok (.dup, 1) := by decide +kernel
theorem dX11_newCutter_74 : decode cX11_newCutter 74 = .ok (.iload_n 1, 1) := by decide +kernel
theorem dX11_newCutter_75 : decode cX11_newCutter 75 = .ok (.iload_n 2, 1) := by decide +kernel
theorem dX11_newCutter_76 : decode cX11_newCutter 76 = .ok (.iload_n 3, 1) := by decide +kernel
theorem dX11_newCutter_77 : decode cX11_newCutter 77 = .ok (.iload 4, 2) := by decide +kernel
theorem dX11_newCutter_79 : decode cX11_newCutter 79 = .ok (.iload 5, 2) := by decide +kernel
theorem dX11_newCutter_81 : decode cX11_newCutter 81 = .ok (.invokespecial 306, 3) := by decide +kernel
theorem dX11_newCutter_84 : decode cX11_newCutter 84 = .ok (.areturn, 1) := by decide +kernel
theorem dX11_newCutter_85 : decode cX11_newCutter 85 = .ok (.new 307, 3) := by decide +kernel
theorem dX11_newCutter_88 : decode cX11_newCutter 88 = .ok (.dup, 1) := by decide +kernel
theorem dX11_newCutter_89 : decode cX11_newCutter 89 = .ok (.iload_n 1, 1) := by decide +kernel
theorem dX11_newCutter_90 : decode cX11_newCutter 90 = .ok (.iload_n 2, 1) := by decide +kernel
theorem dX11_newCutter_91 : decode cX11_newCutter 91 = .ok (.iload_n 3, 1) := by decide +kernel
theorem dX11_newCutter_92 : decode cX11_newCutter 92 = .ok (.iload 4, 2) := by decide +kernel
theorem dX11_newCutter_94 : decode cX11_newCutter 94 = .ok (.iload 5, 2) := by decide +kernel
theorem dX11_newCutter_96 : decode cX11_newCutter 96 = .ok (.invokespecial 309, 3) := by decide +kernel
theorem dX11_newCutter_99 : decode cX11_newCutter 99 = .ok (.areturn, 1) := by decide +kernel
theorem dX11_newCutter_100 : decode cX11_newCutter 100 = .ok (.new 310, 3) := by decide +kernel
theorem dX11_newCutter_103 : decode cX11_newCutter 103 = .ok (.dup, 1) := by decide +kernel
theorem dX11_newCutter_104 : decode cX11_newCutter 104 = .ok (.iload_n 1, 1) := by decide +kernel
theorem dX11_newCutter_105 : decode cX11_newCutter 105 = .ok (.iload_n 2, 1) := by decide +kernel
theorem dX11_newCutter_106 : decode cX11_newCutter 106 = .ok (.iload_n 3, 1) := by decide +kernel
theorem dX11_newCutter_107 : decode cX11_newCutter 107 = .ok (.iload 4, 2) := by decide +kernel
theorem dX11_newCutter_109 : decode cX11_newCutter 109 = .ok (.iload 5, 2) := by decide +kernel
theorem dX11_newCutter_111 : decode cX11_newCutter 111 = .ok (.invokespecial 312, 3) := by decide +kernel
theorem dX11_newCutter_114 : decode cX11_newCutter 114 = .ok (.areturn, 1) := by decide +kernel
theorem dX11_newCutter_115 : decode cX11_newCutter 115 = .ok (.new 125, 3) := by decide +kernel
theorem dX11_newCutter_118 : decode cX11_newCutter 118 = .ok (.dup, 1) := by decide +kernel
theorem dX11_newCutter_119 : decode cX11_newCutter 119 = .ok (.iload_n 1, 1) := by decide +kernel
theorem dX11_newCutter_120 : decode cX11_newCutter 120 = .ok (.iload_n 2, 1) := by decide +kernel
theorem dX11_newCutter_121 : decode cX11_newCutter 121 = .ok (.iload_n 3, 1) := by decide +kernel
theorem dX11_newCutter_122 : decode cX11_newCutter 122 = .ok (.iload 4, 2) := by decide +kernel
theorem dX11_newCutter_124 : decode cX11_newCutter 124 = .ok (.iload 5, 2) := by decide +kernel
theorem dX11_newCutter_126 : decode cX11_newCutter 126 = .ok (.invokespecial 313, 3) := by decide +kernel
theorem dX11_newCutter_129 : decode cX11_newCutter 129 = .ok (.areturn, 1) := by decide +kernel
theorem dX11_newCutter_130 : decode cX11_newCutter 130 = .ok (.new 105, 3) := by decide +kernel
theorem dX11_newCutter_133 : decode cX11_newCutter 133 = .ok (.dup, 1) := by decide +kernel
theorem dX11_newCutter_134 : decode cX11_newCutter 134 = .ok (.iload_n 1, 1) := by decide +kernel
theorem dX11_newCutter_135 : decode cX11_newCutter 135 = .ok (.iload_n 2, 1) := by decide +kernel
theorem dX11_newCutter_136 : decode cX11_newCutter 136 = .ok (.iload_n 3, 1) := by decide +kernel
theorem dX11_newCutter_137 : decode cX11_newCutter 137 = .ok (.iload 4, 2) := by decide +kernel
theorem dX11_newCutter_139 : decode cX11_newCutter 139 = .ok (.iload 5, 2) := by decide +kernel
theorem dX11_newCutter_141 : decode cX11_newCutter 141 = .ok (.invokespecial 314, 3) := by decide +kernel
theorem dX11_newCutter_144 : decode cX11_newCutter 144 = .ok (.areturn, 1) := by decide +kernel
theorem hd_X11_newCutter : yX11_newCutter.cls = RX11 ∧ yX11_newCutter.cls ≠ "java/lang/invoke/MethodHandle" ∧ yX11_newCutter.cls ≠ "java/lang/invoke/VarHandle" ∧ (parseMethodDescriptor yX11_newCutter.desc).map (fun d => d.parameters.length) = some 6 := by decide +kernel
abbrev rm_X11_newCutter : Room := { frames := 4, cells := 2, slots := 11, locals := 95 }
def F_X11_newCutter (a1 : Int32) (a2 : Int32) (a3 : Int32) (a4 : Int32) (a5 : Int32) (a6 : Int32) (N : Nat) (K len : Nat → Nat) (σ : SG) (ρ : RG) : Option (Nat × TT) :=
  if a1 = 1 then
    nm (va_up K N 7) fun K2 =>
    nm (va_up len N 0) fun L2 =>
    nm (va_up σ N (fun _ => 0)) fun σ2 =>
    nm (va_up ρ N (fun _ => none)) fun ρ2 =>
    bn (F_X7_init_k7 N a2 a3 a4 a5 a6 σ2 ρ2) fun σ3 =>
    some (N, (N + 1), K2, L2, σ3, ρ2)
  else
    if a1 = 2 then
      nm (va_up K N 6) fun K4 =>
      nm (va_up len N 0) fun L4 =>
      nm (va_up σ N (fun _ => 0)) fun σ4 =>
      nm (va_up ρ N (fun _ => none)) fun ρ4 =>
      bn (F_X6_init_k6 N a2 a3 a4 a5 a6 σ4 ρ4) fun σ5 =>
      some (N, (N + 1), K4, L4, σ5, ρ4)
    else
      if a1 = 3 then
        nm (va_up K N 2) fun K6 =>
        nm (va_up len N 0) fun L6 =>
        nm (va_up σ N (fun _ => 0)) fun σ6 =>
        nm (va_up ρ N (fun _ => none)) fun ρ6 =>
        bn (F_X2_init_k2 N a2 a3 a4 a5 a6 σ6 ρ6) fun σ7 =>
        some (N, (N + 1), K6, L6, σ7, ρ6)
      else
        if a1 = 4 then
          nm (va_up K N 5) fun K8 =>
          nm (va_up len N 0) fun L8 =>
          nm (va_up σ N (fun _ => 0)) fun σ8 =>
          nm (va_up ρ N (fun _ => none)) fun ρ8 =>
          bn (F_X5_init_k5 N a2 a3 a4 a5 a6 σ8 ρ8) fun σ9 =>
          some (N, (N + 1), K8, L8, σ9, ρ8)
        else
          if a1 = 5 then
            nm (va_up K N 4) fun K10 =>
            nm (va_up len N 0) fun L10 =>
            nm (va_up σ N (fun _ => 0)) fun σ10 =>
            nm (va_up ρ N (fun _ => none)) fun ρ10 =>
            bn (F_X4_init_k4 N a2 a3 a4 a5 a6 σ10 ρ10) fun σ11 =>
            some (N, (N + 1), K10, L10, σ11, ρ10)
          else
            if a1 = 6 then
              nm (va_up K N 9) fun K12 =>
              nm (va_up len N 0) fun L12 =>
              nm (va_up σ N (fun _ => 0)) fun σ12 =>
              nm (va_up ρ N (fun _ => none)) fun ρ12 =>
              bnT (F_X9_init_k9 N a2 a3 a4 a5 a6 (N + 1) K12 L12 σ12 ρ12) fun _ N13 K13 L13 σ13 ρ13 =>
              some (N, N13, K13, L13, σ13, ρ13)
            else
              nm (va_up K N 1) fun K14 =>
              nm (va_up len N 0) fun L14 =>
              nm (va_up σ N (fun _ => 0)) fun σ14 =>
              nm (va_up ρ N (fun _ => none)) fun ρ14 =>
              bn (F_X1_init_k1 N a2 a3 a4 a5 a6 σ14 ρ14) fun σ15 =>
              some (N, (N + 1), K14, L14, σ15, ρ14)
set_option maxHeartbeats 4000000 in
set_option maxRecDepth 100000 in
theorem k_X11_newCutter {a1 : Int32} {a2 : Int32} {a3 : Int32} {a4 : Int32} {a5 : Int32} {a6 : Int32} {r : Nat} {N1 : Nat} {K1 len1 : Nat → Nat} {σ σ1 : SG} {ρ ρ1 : RG} (hL : Lay N K len ρ) (hR : RC N ρ) (hF : F_X11_newCutter a1 a2 a3 a4 a5 a6 N K len σ ρ = some (r, N1, K1, len1, σ1, ρ1)) : N ≤ N1 ∧ Lay N1 K1 len1 ρ1 ∧ RC N1 ρ1 ∧ (∀ k t : Nat, isO k N K t → isO k N1 K1 t) ∧ r < N1 ∧ isCk (K1 r) = true := by
  unfold F_X11_newCutter at hF
  have hN0 : 65 ≤ N := hL.1
  have hI : ∀ k t : Nat, isO k N K t → isO k N K t := fun _ _ h => h
  by_cases cs1_0 : a1 = 1
  · have hF := ite_t hF cs1_0
    obtain ⟨K2, eK2, hF⟩ := nm_1 hF
    obtain ⟨L2, eL2, hF⟩ := nm_1 hF
    obtain ⟨σ2, eσ2, hF⟩ := nm_1 hF
    obtain ⟨ρ2, eρ2, hF⟩ := nm_1 hF
    have hR : RC (N + 1) ρ2 := by rw [eρ2]; exact RC_new hR
    have hL : Lay (N + 1) K2 L2 ρ2 := by rw [eK2, eL2, eρ2]; exact Lay_new hL _ _
    have hn2 : isO 7 (N + 1) K2 N := by rw [eK2]; exact isO_self _ _
    have hI := fun k t (h : isO k N K t) => (show isO k _ K2 t by rw [eK2]; exact isO_new (hI k t h) _)
    obtain ⟨σ3, hq3, hF⟩ := bn_1 hF
    obtain ⟨rfl, rfl, rfl, rfl, rfl, rfl⟩ := ret_T hF
    exact ⟨by omega, hL, hR, fun k t ht => hI k t ht, hn2.1, by rw [hn2.2]; rfl⟩
  · have hF := ite_f hF cs1_0
    by_cases cs1_1 : a1 = 2
    · have hF := ite_t hF cs1_1
      obtain ⟨K4, eK4, hF⟩ := nm_1 hF
      obtain ⟨L4, eL4, hF⟩ := nm_1 hF
      obtain ⟨σ4, eσ4, hF⟩ := nm_1 hF
      obtain ⟨ρ4, eρ4, hF⟩ := nm_1 hF
      have hR : RC (N + 1) ρ4 := by rw [eρ4]; exact RC_new hR
      have hL : Lay (N + 1) K4 L4 ρ4 := by rw [eK4, eL4, eρ4]; exact Lay_new hL _ _
      have hn4 : isO 6 (N + 1) K4 N := by rw [eK4]; exact isO_self _ _
      have hI := fun k t (h : isO k N K t) => (show isO k _ K4 t by rw [eK4]; exact isO_new (hI k t h) _)
      obtain ⟨σ5, hq5, hF⟩ := bn_1 hF
      obtain ⟨rfl, rfl, rfl, rfl, rfl, rfl⟩ := ret_T hF
      exact ⟨by omega, hL, hR, fun k t ht => hI k t ht, hn4.1, by rw [hn4.2]; rfl⟩
    · have hF := ite_f hF cs1_1
      by_cases cs1_2 : a1 = 3
      · have hF := ite_t hF cs1_2
        obtain ⟨K6, eK6, hF⟩ := nm_1 hF
        obtain ⟨L6, eL6, hF⟩ := nm_1 hF
        obtain ⟨σ6, eσ6, hF⟩ := nm_1 hF
        obtain ⟨ρ6, eρ6, hF⟩ := nm_1 hF
        have hR : RC (N + 1) ρ6 := by rw [eρ6]; exact RC_new hR
        have hL : Lay (N + 1) K6 L6 ρ6 := by rw [eK6, eL6, eρ6]; exact Lay_new hL _ _
        have hn6 : isO 2 (N + 1) K6 N := by rw [eK6]; exact isO_self _ _
        have hI := fun k t (h : isO k N K t) => (show isO k _ K6 t by rw [eK6]; exact isO_new (hI k t h) _)
        obtain ⟨σ7, hq7, hF⟩ := bn_1 hF
        obtain ⟨rfl, rfl, rfl, rfl, rfl, rfl⟩ := ret_T hF
        exact ⟨by omega, hL, hR, fun k t ht => hI k t ht, hn6.1, by rw [hn6.2]; rfl⟩
      · have hF := ite_f hF cs1_2
        by_cases cs1_3 : a1 = 4
        · have hF := ite_t hF cs1_3
          obtain ⟨K8, eK8, hF⟩ := nm_1 hF
          obtain ⟨L8, eL8, hF⟩ := nm_1 hF
          obtain ⟨σ8, eσ8, hF⟩ := nm_1 hF
          obtain ⟨ρ8, eρ8, hF⟩ := nm_1 hF
          have hR : RC (N + 1) ρ8 := by rw [eρ8]; exact RC_new hR
          have hL : Lay (N + 1) K8 L8 ρ8 := by rw [eK8, eL8, eρ8]; exact Lay_new hL _ _
          have hn8 : isO 5 (N + 1) K8 N := by rw [eK8]; exact isO_self _ _
          have hI := fun k t (h : isO k N K t) => (show isO k _ K8 t by rw [eK8]; exact isO_new (hI k t h) _)
          obtain ⟨σ9, hq9, hF⟩ := bn_1 hF
          obtain ⟨rfl, rfl, rfl, rfl, rfl, rfl⟩ := ret_T hF
          exact ⟨by omega, hL, hR, fun k t ht => hI k t ht, hn8.1, by rw [hn8.2]; rfl⟩
        · have hF := ite_f hF cs1_3
          by_cases cs1_4 : a1 = 5
          · have hF := ite_t hF cs1_4
            obtain ⟨K10, eK10, hF⟩ := nm_1 hF
            obtain ⟨L10, eL10, hF⟩ := nm_1 hF
            obtain ⟨σ10, eσ10, hF⟩ := nm_1 hF
            obtain ⟨ρ10, eρ10, hF⟩ := nm_1 hF
            have hR : RC (N + 1) ρ10 := by rw [eρ10]; exact RC_new hR
            have hL : Lay (N + 1) K10 L10 ρ10 := by rw [eK10, eL10, eρ10]; exact Lay_new hL _ _
            have hn10 : isO 4 (N + 1) K10 N := by rw [eK10]; exact isO_self _ _
            have hI := fun k t (h : isO k N K t) => (show isO k _ K10 t by rw [eK10]; exact isO_new (hI k t h) _)
            obtain ⟨σ11, hq11, hF⟩ := bn_1 hF
            obtain ⟨rfl, rfl, rfl, rfl, rfl, rfl⟩ := ret_T hF
            exact ⟨by omega, hL, hR, fun k t ht => hI k t ht, hn10.1, by rw [hn10.2]; rfl⟩
          · have hF := ite_f hF cs1_4
            by_cases cs1_5 : a1 = 6
            · have hF := ite_t hF cs1_5
              obtain ⟨K12, eK12, hF⟩ := nm_1 hF
              obtain ⟨L12, eL12, hF⟩ := nm_1 hF
              obtain ⟨σ12, eσ12, hF⟩ := nm_1 hF
              obtain ⟨ρ12, eρ12, hF⟩ := nm_1 hF
              have hR : RC (N + 1) ρ12 := by rw [eρ12]; exact RC_new hR
              have hL : Lay (N + 1) K12 L12 ρ12 := by rw [eK12, eL12, eρ12]; exact Lay_new hL _ _
              have hn12 : isO 9 (N + 1) K12 N := by rw [eK12]; exact isO_self _ _
              have hI := fun k t (h : isO k N K t) => (show isO k _ K12 t by rw [eK12]; exact isO_new (hI k t h) _)
              obtain ⟨u13, N13, K13, L13, σ13, ρ13, hq13, hF⟩ := bnT_1 hF
              obtain ⟨hN13, hL13, hR13, hO13⟩ := k_X9_init_k9 hL hR ⟨hn12.1, hn12.2⟩ hN0 hq13
              have hI := fun k t (h : isO k N K t) => hO13 k t (hI k t h)
              have hL := hL13
              have hR := hR13
              have hn12 : isO 9 N13 K13 N := hO13 _ _ hn12
              obtain ⟨rfl, rfl, rfl, rfl, rfl, rfl⟩ := ret_T hF
              exact ⟨by omega, hL, hR, fun k t ht => hI k t ht, hn12.1, by rw [hn12.2]; rfl⟩
            · have hF := ite_f hF cs1_5
              obtain ⟨K14, eK14, hF⟩ := nm_1 hF
              obtain ⟨L14, eL14, hF⟩ := nm_1 hF
              obtain ⟨σ14, eσ14, hF⟩ := nm_1 hF
              obtain ⟨ρ14, eρ14, hF⟩ := nm_1 hF
              have hR : RC (N + 1) ρ14 := by rw [eρ14]; exact RC_new hR
              have hL : Lay (N + 1) K14 L14 ρ14 := by rw [eK14, eL14, eρ14]; exact Lay_new hL _ _
              have hn14 : isO 1 (N + 1) K14 N := by rw [eK14]; exact isO_self _ _
              have hI := fun k t (h : isO k N K t) => (show isO k _ K14 t by rw [eK14]; exact isO_new (hI k t h) _)
              obtain ⟨σ15, hq15, hF⟩ := bn_1 hF
              obtain ⟨rfl, rfl, rfl, rfl, rfl, rfl⟩ := ret_T hF
              exact ⟨by omega, hL, hR, fun k t ht => hI k t ht, hn14.1, by rw [hn14.2]; rfl⟩
set_option maxHeartbeats 8000000 in
set_option maxRecDepth 100000 in
theorem c_X11_newCutter {a1 : Int32} {a2 : Int32} {a3 : Int32} {a4 : Int32} {a5 : Int32} {a6 : Int32} {r : Nat} {N1 : Nat} {K1 len1 : Nat → Nat} {σ σ1 : SG} {ρ ρ1 : RG} (hL : Lay N K len ρ) (hR : RC N ρ) (hF : F_X11_newCutter a1 a2 a3 a4 a5 a6 N K len σ ρ = some (r, N1, K1, len1, σ1, ρ1)) : MC l Y D N ad K len yX11_newCutter (Cond.code yX11_newCutter cX11_newCutter 6 (some (.object "CutCrooked$Cutter")) :: wsL_law) rm_X11_newCutter [.int a1, .int a2, .int a3, .int a4, .int a5, .int a6] σ ρ (fun z => some (.ref (z r))) N1 K1 len1 σ1 ρ1 2 11 := by
  refine mc_of (cc := cX11_newCutter) (nL := 6) (ret := (some (.object "CutCrooked$Cutter"))) (by decide) (Nat.le_of_ble_eq_true rfl) ?_
  intro p e s m args below meth c ls C hnm hP hS hl
  have hx := C.1.1
  have hb := C.1.2.1
  have hl : lv_has ls 6 [(0, .int a1), (1, .int a2), (2, .int a3), (3, .int a4), (4, .int a5), (5, .int a6)] := hl
  have hEE : ∀ r, r < N → ad r = ad r := fun _ _ => rfl
  have hAA : AA N ad s.heap.size = AA N ad s.heap.size := rfl
  have hN0 : 65 ≤ N := hL.1
  unfold F_X11_newCutter at hF
  refine lv_iload_n hx hb dX11_newCutter_0 rfl (lv_at hl 0 rfl) ?_
  by_cases cs1_0 : a1 = 1
  · have hF := ite_t hF cs1_0
    refine lv_tableIn (tgt := 40) hx hb dX11_newCutter_1 (by rw [cs1_0]; decide) (by rw [cs1_0]; decide) (by rw [cs1_0]; rfl) (by decide) ?_
    obtain ⟨K2, eK2, hF⟩ := nm_1 hF
    obtain ⟨L2, eL2, hF⟩ := nm_1 hF
    obtain ⟨σ2, eσ2, hF⟩ := nm_1 hF
    obtain ⟨ρ2, eρ2, hF⟩ := nm_1 hF
    have hP := WP_like (K1 := K2) (len1 := L2) (σ1 := σ2) (ρ1 := ρ2) hP (fun r h => by rw [eK2, va_up_ne _ _ (Nat.ne_of_lt h)]) (fun r h => by rw [eL2, va_up_ne _ _ (Nat.ne_of_lt h)]) (fun r h => by rw [eσ2, va_up_ne _ _ (Nat.ne_of_lt h)]) (fun r h => by rw [eρ2, va_up_ne _ _ (Nat.ne_of_lt h)])
    have hR0 : RC N ρ2 := by rw [eρ2]; exact RC_row hR
    refine x_new (ci := 7) (fs := [.int 0, .int 0, .int 0, .int 0, .int 0, .int 0]) tyX7_ok rfl rfl (fun _ => rfl) (fun j hj => by have : j < 6 := hj; revert j; decide) C hP hS hR0 (by rw [eK2, va_up_self]) ⟨by rw [eσ2, va_up_self], by rw [eρ2, va_up_self]⟩ inlX7 mw_360 mw_361 mw_362 (Nat.le_of_ble_eq_true rfl) (Nat.le_of_ble_eq_true rfl) dX11_newCutter_40 (fun ad2 H hE hA C hP hS => ?_)
    have hEE : ∀ r, r < N → ad2 r = ad r := fun r h => (hE r (by omega)).trans (hEE r h)
    have hAA := hA.trans hAA
    have hR : RC (N + 1) ρ2 := by rw [eρ2]; exact RC_new hR
    have hL : Lay (N + 1) K2 L2 ρ2 := by rw [eK2, eL2, eρ2]; exact Lay_new hL _ _
    have hn2 : isO 7 (N + 1) K2 N := by rw [eK2]; exact isO_self _ _
    refine lv_dup hx hb dX11_newCutter_43 rfl ?_
    refine lv_iload_n hx hb dX11_newCutter_44 rfl (lv_at hl 1 rfl) ?_
    refine lv_iload_n hx hb dX11_newCutter_45 rfl (lv_at hl 2 rfl) ?_
    refine lv_iload_n hx hb dX11_newCutter_46 rfl (lv_at hl 3 rfl) ?_
    refine lv_iload hx hb dX11_newCutter_47 (lv_at hl 4 rfl) ?_
    refine lv_iload hx hb dX11_newCutter_49 (lv_at hl 5 rfl) ?_
    obtain ⟨σ3, hq3, hF⟩ := bn_1 hF
    refine x_callIM C hP hS (c_X7_init_k7 trivial ⟨hn2.1, hn2.2⟩ hq3) (cwI 5 C.1.2.2.2.2 (gdI mw_383) rfl rfl rfl (C.1.2.2.2.2 _ mw_362) (C.1.2.2.2.2 _ mw_381) (C.1.2.2.2.2 _ mw_382) rfl hd_X7_init.2 ⟨Nat.le_of_ble_eq_true rfl, Nat.le_of_ble_eq_true rfl⟩) rfl rfl hl.1 (Nat.le_of_ble_eq_true rfl) ⟨(Nat.le_of_ble_eq_true rfl), (Nat.le_of_ble_eq_true rfl)⟩ dX11_newCutter_51 (fun H locs hP hS => ?_)
    obtain ⟨rfl, rfl, rfl, rfl, rfl, rfl⟩ := ret_T hF
    refine W.widen (k := 2) (n := 11) (Nat.le_of_ble_eq_true rfl) (Nat.le_of_ble_eq_true rfl) ?_
    exact x_aretC rfl hEE hAA C hP hS dX11_newCutter_54
  · have hF := ite_f hF cs1_0
    by_cases cs1_1 : a1 = 2
    · have hF := ite_t hF cs1_1
      refine lv_tableIn (tgt := 55) hx hb dX11_newCutter_1 (by rw [cs1_1]; decide) (by rw [cs1_1]; decide) (by rw [cs1_1]; rfl) (by decide) ?_
      obtain ⟨K4, eK4, hF⟩ := nm_1 hF
      obtain ⟨L4, eL4, hF⟩ := nm_1 hF
      obtain ⟨σ4, eσ4, hF⟩ := nm_1 hF
      obtain ⟨ρ4, eρ4, hF⟩ := nm_1 hF
      have hP := WP_like (K1 := K4) (len1 := L4) (σ1 := σ4) (ρ1 := ρ4) hP (fun r h => by rw [eK4, va_up_ne _ _ (Nat.ne_of_lt h)]) (fun r h => by rw [eL4, va_up_ne _ _ (Nat.ne_of_lt h)]) (fun r h => by rw [eσ4, va_up_ne _ _ (Nat.ne_of_lt h)]) (fun r h => by rw [eρ4, va_up_ne _ _ (Nat.ne_of_lt h)])
      have hR0 : RC N ρ4 := by rw [eρ4]; exact RC_row hR
      refine x_new (ci := 6) (fs := [.int 0, .int 0, .int 0, .int 0, .int 0, .int 0]) tyX6_ok rfl rfl (fun _ => rfl) (fun j hj => by have : j < 6 := hj; revert j; decide) C hP hS hR0 (by rw [eK4, va_up_self]) ⟨by rw [eσ4, va_up_self], by rw [eρ4, va_up_self]⟩ inlX6 mw_363 mw_364 mw_365 (Nat.le_of_ble_eq_true rfl) (Nat.le_of_ble_eq_true rfl) dX11_newCutter_55 (fun ad4 H hE hA C hP hS => ?_)
      have hEE : ∀ r, r < N → ad4 r = ad r := fun r h => (hE r (by omega)).trans (hEE r h)
      have hAA := hA.trans hAA
      have hR : RC (N + 1) ρ4 := by rw [eρ4]; exact RC_new hR
      have hL : Lay (N + 1) K4 L4 ρ4 := by rw [eK4, eL4, eρ4]; exact Lay_new hL _ _
      have hn4 : isO 6 (N + 1) K4 N := by rw [eK4]; exact isO_self _ _
      refine lv_dup hx hb dX11_newCutter_58 rfl ?_
      refine lv_iload_n hx hb dX11_newCutter_59 rfl (lv_at hl 1 rfl) ?_
      refine lv_iload_n hx hb dX11_newCutter_60 rfl (lv_at hl 2 rfl) ?_
      refine lv_iload_n hx hb dX11_newCutter_61 rfl (lv_at hl 3 rfl) ?_
      refine lv_iload hx hb dX11_newCutter_62 (lv_at hl 4 rfl) ?_
      refine lv_iload hx hb dX11_newCutter_64 (lv_at hl 5 rfl) ?_
      obtain ⟨σ5, hq5, hF⟩ := bn_1 hF
      refine x_callIM C hP hS (c_X6_init_k6 trivial ⟨hn4.1, hn4.2⟩ hq5) (cwI 5 C.1.2.2.2.2 (gdI mw_395) rfl rfl rfl (C.1.2.2.2.2 _ mw_365) (C.1.2.2.2.2 _ mw_393) (C.1.2.2.2.2 _ mw_394) rfl hd_X6_init.2 ⟨Nat.le_of_ble_eq_true rfl, Nat.le_of_ble_eq_true rfl⟩) rfl rfl hl.1 (Nat.le_of_ble_eq_true rfl) ⟨(Nat.le_of_ble_eq_true rfl), (Nat.le_of_ble_eq_true rfl)⟩ dX11_newCutter_66 (fun H locs hP hS => ?_)
      obtain ⟨rfl, rfl, rfl, rfl, rfl, rfl⟩ := ret_T hF
      refine W.widen (k := 2) (n := 11) (Nat.le_of_ble_eq_true rfl) (Nat.le_of_ble_eq_true rfl) ?_
      exact x_aretC rfl hEE hAA C hP hS dX11_newCutter_69
    · have hF := ite_f hF cs1_1
      by_cases cs1_2 : a1 = 3
      · have hF := ite_t hF cs1_2
        refine lv_tableIn (tgt := 70) hx hb dX11_newCutter_1 (by rw [cs1_2]; decide) (by rw [cs1_2]; decide) (by rw [cs1_2]; rfl) (by decide) ?_
        obtain ⟨K6, eK6, hF⟩ := nm_1 hF
        obtain ⟨L6, eL6, hF⟩ := nm_1 hF
        obtain ⟨σ6, eσ6, hF⟩ := nm_1 hF
        obtain ⟨ρ6, eρ6, hF⟩ := nm_1 hF
        have hP := WP_like (K1 := K6) (len1 := L6) (σ1 := σ6) (ρ1 := ρ6) hP (fun r h => by rw [eK6, va_up_ne _ _ (Nat.ne_of_lt h)]) (fun r h => by rw [eL6, va_up_ne _ _ (Nat.ne_of_lt h)]) (fun r h => by rw [eσ6, va_up_ne _ _ (Nat.ne_of_lt h)]) (fun r h => by rw [eρ6, va_up_ne _ _ (Nat.ne_of_lt h)])
        have hR0 : RC N ρ6 := by rw [eρ6]; exact RC_row hR
        refine x_new (ci := 2) (fs := [.int 0, .int 0, .int 0, .int 0, .int 0, .int 0]) tyX2_ok rfl rfl (fun _ => rfl) (fun j hj => by have : j < 6 := hj; revert j; decide) C hP hS hR0 (by rw [eK6, va_up_self]) ⟨by rw [eσ6, va_up_self], by rw [eρ6, va_up_self]⟩ inlX2 mw_366 mw_367 mw_368 (Nat.le_of_ble_eq_true rfl) (Nat.le_of_ble_eq_true rfl) dX11_newCutter_70 (fun ad6 H hE hA C hP hS => ?_)
        have hEE : ∀ r, r < N → ad6 r = ad r := fun r h => (hE r (by omega)).trans (hEE r h)
        have hAA := hA.trans hAA
        have hR : RC (N + 1) ρ6 := by rw [eρ6]; exact RC_new hR
        have hL : Lay (N + 1) K6 L6 ρ6 := by rw [eK6, eL6, eρ6]; exact Lay_new hL _ _
        have hn6 : isO 2 (N + 1) K6 N := by rw [eK6]; exact isO_self _ _
        refine lv_dup hx hb dX11_newCutter_73 rfl ?_
        refine lv_iload_n hx hb dX11_newCutter_74 rfl (lv_at hl 1 rfl) ?_
        refine lv_iload_n hx hb dX11_newCutter_75 rfl (lv_at hl 2 rfl) ?_
        refine lv_iload_n hx hb dX11_newCutter_76 rfl (lv_at hl 3 rfl) ?_
        refine lv_iload hx hb dX11_newCutter_77 (lv_at hl 4 rfl) ?_
        refine lv_iload hx hb dX11_newCutter_79 (lv_at hl 5 rfl) ?_
        obtain ⟨σ7, hq7, hF⟩ := bn_1 hF
        refine x_callIM C hP hS (c_X2_init_k2 trivial ⟨hn6.1, hn6.2⟩ hq7) (cwI 5 C.1.2.2.2.2 (gdI mw_399) rfl rfl rfl (C.1.2.2.2.2 _ mw_368) (C.1.2.2.2.2 _ mw_397) (C.1.2.2.2.2 _ mw_398) rfl hd_X2_init.2 ⟨Nat.le_of_ble_eq_true rfl, Nat.le_of_ble_eq_true rfl⟩) rfl rfl hl.1 (Nat.le_of_ble_eq_true rfl) ⟨(Nat.le_of_ble_eq_true rfl), (Nat.le_of_ble_eq_true rfl)⟩ dX11_newCutter_81 (fun H locs hP hS => ?_)
        obtain ⟨rfl, rfl, rfl, rfl, rfl, rfl⟩ := ret_T hF
        refine W.widen (k := 2) (n := 11) (Nat.le_of_ble_eq_true rfl) (Nat.le_of_ble_eq_true rfl) ?_
        exact x_aretC rfl hEE hAA C hP hS dX11_newCutter_84
      · have hF := ite_f hF cs1_2
        by_cases cs1_3 : a1 = 4
        · have hF := ite_t hF cs1_3
          refine lv_tableIn (tgt := 85) hx hb dX11_newCutter_1 (by rw [cs1_3]; decide) (by rw [cs1_3]; decide) (by rw [cs1_3]; rfl) (by decide) ?_
          obtain ⟨K8, eK8, hF⟩ := nm_1 hF
          obtain ⟨L8, eL8, hF⟩ := nm_1 hF
          obtain ⟨σ8, eσ8, hF⟩ := nm_1 hF
          obtain ⟨ρ8, eρ8, hF⟩ := nm_1 hF
          have hP := WP_like (K1 := K8) (len1 := L8) (σ1 := σ8) (ρ1 := ρ8) hP (fun r h => by rw [eK8, va_up_ne _ _ (Nat.ne_of_lt h)]) (fun r h => by rw [eL8, va_up_ne _ _ (Nat.ne_of_lt h)]) (fun r h => by rw [eσ8, va_up_ne _ _ (Nat.ne_of_lt h)]) (fun r h => by rw [eρ8, va_up_ne _ _ (Nat.ne_of_lt h)])
          have hR0 : RC N ρ8 := by rw [eρ8]; exact RC_row hR
          refine x_new (ci := 5) (fs := [.int 0, .int 0, .int 0, .int 0, .int 0, .int 0]) tyX5_ok rfl rfl (fun _ => rfl) (fun j hj => by have : j < 6 := hj; revert j; decide) C hP hS hR0 (by rw [eK8, va_up_self]) ⟨by rw [eσ8, va_up_self], by rw [eρ8, va_up_self]⟩ inlX5 mw_369 mw_370 mw_371 (Nat.le_of_ble_eq_true rfl) (Nat.le_of_ble_eq_true rfl) dX11_newCutter_85 (fun ad8 H hE hA C hP hS => ?_)
          have hEE : ∀ r, r < N → ad8 r = ad r := fun r h => (hE r (by omega)).trans (hEE r h)
          have hAA := hA.trans hAA
          have hR : RC (N + 1) ρ8 := by rw [eρ8]; exact RC_new hR
          have hL : Lay (N + 1) K8 L8 ρ8 := by rw [eK8, eL8, eρ8]; exact Lay_new hL _ _
          have hn8 : isO 5 (N + 1) K8 N := by rw [eK8]; exact isO_self _ _
          refine lv_dup hx hb dX11_newCutter_88 rfl ?_
          refine lv_iload_n hx hb dX11_newCutter_89 rfl (lv_at hl 1 rfl) ?_
          refine lv_iload_n hx hb dX11_newCutter_90 rfl (lv_at hl 2 rfl) ?_
          refine lv_iload_n hx hb dX11_newCutter_91 rfl (lv_at hl 3 rfl) ?_
          refine lv_iload hx hb dX11_newCutter_92 (lv_at hl 4 rfl) ?_
          refine lv_iload hx hb dX11_newCutter_94 (lv_at hl 5 rfl) ?_
          obtain ⟨σ9, hq9, hF⟩ := bn_1 hF
          refine x_callIM C hP hS (c_X5_init_k5 trivial ⟨hn8.1, hn8.2⟩ hq9) (cwI 5 C.1.2.2.2.2 (gdI mw_403) rfl rfl rfl (C.1.2.2.2.2 _ mw_371) (C.1.2.2.2.2 _ mw_401) (C.1.2.2.2.2 _ mw_402) rfl hd_X5_init.2 ⟨Nat.le_of_ble_eq_true rfl, Nat.le_of_ble_eq_true rfl⟩) rfl rfl hl.1 (Nat.le_of_ble_eq_true rfl) ⟨(Nat.le_of_ble_eq_true rfl), (Nat.le_of_ble_eq_true rfl)⟩ dX11_newCutter_96 (fun H locs hP hS => ?_)
          obtain ⟨rfl, rfl, rfl, rfl, rfl, rfl⟩ := ret_T hF
          refine W.widen (k := 2) (n := 11) (Nat.le_of_ble_eq_true rfl) (Nat.le_of_ble_eq_true rfl) ?_
          exact x_aretC rfl hEE hAA C hP hS dX11_newCutter_99
        · have hF := ite_f hF cs1_3
          by_cases cs1_4 : a1 = 5
          · have hF := ite_t hF cs1_4
            refine lv_tableIn (tgt := 100) hx hb dX11_newCutter_1 (by rw [cs1_4]; decide) (by rw [cs1_4]; decide) (by rw [cs1_4]; rfl) (by decide) ?_
            obtain ⟨K10, eK10, hF⟩ := nm_1 hF
            obtain ⟨L10, eL10, hF⟩ := nm_1 hF
            obtain ⟨σ10, eσ10, hF⟩ := nm_1 hF
            obtain ⟨ρ10, eρ10, hF⟩ := nm_1 hF
            have hP := WP_like (K1 := K10) (len1 := L10) (σ1 := σ10) (ρ1 := ρ10) hP (fun r h => by rw [eK10, va_up_ne _ _ (Nat.ne_of_lt h)]) (fun r h => by rw [eL10, va_up_ne _ _ (Nat.ne_of_lt h)]) (fun r h => by rw [eσ10, va_up_ne _ _ (Nat.ne_of_lt h)]) (fun r h => by rw [eρ10, va_up_ne _ _ (Nat.ne_of_lt h)])
            have hR0 : RC N ρ10 := by rw [eρ10]; exact RC_row hR
            refine x_new (ci := 4) (fs := [.int 0, .int 0, .int 0, .int 0, .int 0, .int 0]) tyX4_ok rfl rfl (fun _ => rfl) (fun j hj => by have : j < 6 := hj; revert j; decide) C hP hS hR0 (by rw [eK10, va_up_self]) ⟨by rw [eσ10, va_up_self], by rw [eρ10, va_up_self]⟩ inlX4 mw_372 mw_373 mw_374 (Nat.le_of_ble_eq_true rfl) (Nat.le_of_ble_eq_true rfl) dX11_newCutter_100 (fun ad10 H hE hA C hP hS => ?_)
            have hEE : ∀ r, r < N → ad10 r = ad r := fun r h => (hE r (by omega)).trans (hEE r h)
            have hAA := hA.trans hAA
            have hR : RC (N + 1) ρ10 := by rw [eρ10]; exact RC_new hR
            have hL : Lay (N + 1) K10 L10 ρ10 := by rw [eK10, eL10, eρ10]; exact Lay_new hL _ _
            have hn10 : isO 4 (N + 1) K10 N := by rw [eK10]; exact isO_self _ _
            refine lv_dup hx hb dX11_newCutter_103 rfl ?_
            refine lv_iload_n hx hb dX11_newCutter_104 rfl (lv_at hl 1 rfl) ?_
            refine lv_iload_n hx hb dX11_newCutter_105 rfl (lv_at hl 2 rfl) ?_
            refine lv_iload_n hx hb dX11_newCutter_106 rfl (lv_at hl 3 rfl) ?_
            refine lv_iload hx hb dX11_newCutter_107 (lv_at hl 4 rfl) ?_
            refine lv_iload hx hb dX11_newCutter_109 (lv_at hl 5 rfl) ?_
            obtain ⟨σ11, hq11, hF⟩ := bn_1 hF
            refine x_callIM C hP hS (c_X4_init_k4 trivial ⟨hn10.1, hn10.2⟩ hq11) (cwI 5 C.1.2.2.2.2 (gdI mw_407) rfl rfl rfl (C.1.2.2.2.2 _ mw_374) (C.1.2.2.2.2 _ mw_405) (C.1.2.2.2.2 _ mw_406) rfl hd_X4_init.2 ⟨Nat.le_of_ble_eq_true rfl, Nat.le_of_ble_eq_true rfl⟩) rfl rfl hl.1 (Nat.le_of_ble_eq_true rfl) ⟨(Nat.le_of_ble_eq_true rfl), (Nat.le_of_ble_eq_true rfl)⟩ dX11_newCutter_111 (fun H locs hP hS => ?_)
            obtain ⟨rfl, rfl, rfl, rfl, rfl, rfl⟩ := ret_T hF
            refine W.widen (k := 2) (n := 11) (Nat.le_of_ble_eq_true rfl) (Nat.le_of_ble_eq_true rfl) ?_
            exact x_aretC rfl hEE hAA C hP hS dX11_newCutter_114
          · have hF := ite_f hF cs1_4
            by_cases cs1_5 : a1 = 6
            · have hF := ite_t hF cs1_5
              refine lv_tableIn (tgt := 115) hx hb dX11_newCutter_1 (by rw [cs1_5]; decide) (by rw [cs1_5]; decide) (by rw [cs1_5]; rfl) (by decide) ?_
              obtain ⟨K12, eK12, hF⟩ := nm_1 hF
              obtain ⟨L12, eL12, hF⟩ := nm_1 hF
              obtain ⟨σ12, eσ12, hF⟩ := nm_1 hF
              obtain ⟨ρ12, eρ12, hF⟩ := nm_1 hF
              have hP := WP_like (K1 := K12) (len1 := L12) (σ1 := σ12) (ρ1 := ρ12) hP (fun r h => by rw [eK12, va_up_ne _ _ (Nat.ne_of_lt h)]) (fun r h => by rw [eL12, va_up_ne _ _ (Nat.ne_of_lt h)]) (fun r h => by rw [eσ12, va_up_ne _ _ (Nat.ne_of_lt h)]) (fun r h => by rw [eρ12, va_up_ne _ _ (Nat.ne_of_lt h)])
              have hR0 : RC N ρ12 := by rw [eρ12]; exact RC_row hR
              refine x_new (ci := 9) (fs := [.int 0, .int 0, .int 0, .int 0, .int 0, .int 0, .null]) tyX9_ok rfl rfl (fun _ => rfl) (fun j hj => by have : j < 7 := hj; revert j; decide) C hP hS hR0 (by rw [eK12, va_up_self]) ⟨by rw [eσ12, va_up_self], by rw [eρ12, va_up_self]⟩ inlX9 mw_375 mw_376 mw_377 (Nat.le_of_ble_eq_true rfl) (Nat.le_of_ble_eq_true rfl) dX11_newCutter_115 (fun ad12 H hE hA C hP hS => ?_)
              have hEE : ∀ r, r < N → ad12 r = ad r := fun r h => (hE r (by omega)).trans (hEE r h)
              have hAA := hA.trans hAA
              have hR : RC (N + 1) ρ12 := by rw [eρ12]; exact RC_new hR
              have hL : Lay (N + 1) K12 L12 ρ12 := by rw [eK12, eL12, eρ12]; exact Lay_new hL _ _
              have hn12 : isO 9 (N + 1) K12 N := by rw [eK12]; exact isO_self _ _
              refine lv_dup hx hb dX11_newCutter_118 rfl ?_
              refine lv_iload_n hx hb dX11_newCutter_119 rfl (lv_at hl 1 rfl) ?_
              refine lv_iload_n hx hb dX11_newCutter_120 rfl (lv_at hl 2 rfl) ?_
              refine lv_iload_n hx hb dX11_newCutter_121 rfl (lv_at hl 3 rfl) ?_
              refine lv_iload hx hb dX11_newCutter_122 (lv_at hl 4 rfl) ?_
              refine lv_iload hx hb dX11_newCutter_124 (lv_at hl 5 rfl) ?_
              obtain ⟨u13, N13, K13, L13, σ13, ρ13, hq13, hF⟩ := bnT_1 hF
              obtain ⟨hN13, hL13, hR13, hO13⟩ := k_X9_init_k9 hL hR ⟨hn12.1, hn12.2⟩ hN0 hq13
              refine x_callI (ws := (Cond.code yX9_init cX9_init 6 none :: wsL_law)) C hP hS (c_X9_init_k9 hL hR ⟨hn12.1, hn12.2⟩ hN0 hq13) (cwI 5 C.1.2.2.2.2 (gdI mw_411) rfl rfl rfl (C.1.2.2.2.2 _ mw_377) (C.1.2.2.2.2 _ mw_409) (C.1.2.2.2.2 _ mw_410) rfl hd_X9_init.2 ⟨Nat.le_of_ble_eq_true rfl, Nat.le_of_ble_eq_true rfl⟩) rfl rfl hl.1 (Nat.le_of_ble_eq_true rfl) ⟨(Nat.le_of_ble_eq_true rfl), (Nat.le_of_ble_eq_true rfl)⟩ dX11_newCutter_126 (fun ad13 H locs hE hA C hP hS => ?_)
              rw [← hE N hn12.1]
              have hEE : ∀ r, r < N → ad13 r = ad r := fun r h => (hE r (by omega)).trans (hEE r h)
              have hAA := hA.trans hAA
              have hL := hL13
              have hR := hR13
              have hn12 : isO 9 N13 K13 N := hO13 _ _ hn12
              obtain ⟨rfl, rfl, rfl, rfl, rfl, rfl⟩ := ret_T hF
              exact x_aretC rfl hEE hAA C hP hS dX11_newCutter_129
            · have hF := ite_f hF cs1_5
              refine lv_tableOut (tgt := 130) hx hb dX11_newCutter_1 (by have q0 := ne_ti cs1_0 (by decide : (1 : Int32).toInt = 1); have q1 := ne_ti cs1_1 (by decide : (2 : Int32).toInt = 2); have q2 := ne_ti cs1_2 (by decide : (3 : Int32).toInt = 3); have q3 := ne_ti cs1_3 (by decide : (4 : Int32).toInt = 4); have q4 := ne_ti cs1_4 (by decide : (5 : Int32).toInt = 5); have q5 := ne_ti cs1_5 (by decide : (6 : Int32).toInt = 6); omega) (by decide) ?_
              obtain ⟨K14, eK14, hF⟩ := nm_1 hF
              obtain ⟨L14, eL14, hF⟩ := nm_1 hF
              obtain ⟨σ14, eσ14, hF⟩ := nm_1 hF
              obtain ⟨ρ14, eρ14, hF⟩ := nm_1 hF
              have hP := WP_like (K1 := K14) (len1 := L14) (σ1 := σ14) (ρ1 := ρ14) hP (fun r h => by rw [eK14, va_up_ne _ _ (Nat.ne_of_lt h)]) (fun r h => by rw [eL14, va_up_ne _ _ (Nat.ne_of_lt h)]) (fun r h => by rw [eσ14, va_up_ne _ _ (Nat.ne_of_lt h)]) (fun r h => by rw [eρ14, va_up_ne _ _ (Nat.ne_of_lt h)])
              have hR0 : RC N ρ14 := by rw [eρ14]; exact RC_row hR
              refine x_new (ci := 1) (fs := [.int 0, .int 0, .int 0, .int 0, .int 0, .int 0]) tyX1_ok rfl rfl (fun _ => rfl) (fun j hj => by have : j < 6 := hj; revert j; decide) C hP hS hR0 (by rw [eK14, va_up_self]) ⟨by rw [eσ14, va_up_self], by rw [eρ14, va_up_self]⟩ inlX1 mw_378 mw_379 mw_380 (Nat.le_of_ble_eq_true rfl) (Nat.le_of_ble_eq_true rfl) dX11_newCutter_130 (fun ad14 H hE hA C hP hS => ?_)
              have hEE : ∀ r, r < N → ad14 r = ad r := fun r h => (hE r (by omega)).trans (hEE r h)
              have hAA := hA.trans hAA
              have hR : RC (N + 1) ρ14 := by rw [eρ14]; exact RC_new hR
              have hL : Lay (N + 1) K14 L14 ρ14 := by rw [eK14, eL14, eρ14]; exact Lay_new hL _ _
              have hn14 : isO 1 (N + 1) K14 N := by rw [eK14]; exact isO_self _ _
              refine lv_dup hx hb dX11_newCutter_133 rfl ?_
              refine lv_iload_n hx hb dX11_newCutter_134 rfl (lv_at hl 1 rfl) ?_
              refine lv_iload_n hx hb dX11_newCutter_135 rfl (lv_at hl 2 rfl) ?_
              refine lv_iload_n hx hb dX11_newCutter_136 rfl (lv_at hl 3 rfl) ?_
              refine lv_iload hx hb dX11_newCutter_137 (lv_at hl 4 rfl) ?_
              refine lv_iload hx hb dX11_newCutter_139 (lv_at hl 5 rfl) ?_
              obtain ⟨σ15, hq15, hF⟩ := bn_1 hF
              refine x_callIM C hP hS (c_X1_init_k1 trivial ⟨hn14.1, hn14.2⟩ hq15) (cwI 5 C.1.2.2.2.2 (gdI mw_386) rfl rfl rfl (C.1.2.2.2.2 _ mw_380) (C.1.2.2.2.2 _ mw_414) (C.1.2.2.2.2 _ mw_385) rfl hd_X1_init.2 ⟨Nat.le_of_ble_eq_true rfl, Nat.le_of_ble_eq_true rfl⟩) rfl rfl hl.1 (Nat.le_of_ble_eq_true rfl) ⟨(Nat.le_of_ble_eq_true rfl), (Nat.le_of_ble_eq_true rfl)⟩ dX11_newCutter_141 (fun H locs hP hS => ?_)
              obtain ⟨rfl, rfl, rfl, rfl, rfl, rfl⟩ := ret_T hF
              refine W.widen (k := 2) (n := 11) (Nat.le_of_ble_eq_true rfl) (Nat.le_of_ble_eq_true rfl) ?_
              exact x_aretC rfl hEE hAA C hP hS dX11_newCutter_144

/-! CutCrooked.public int cutter(int, int, int, int, int);  -/
theorem dX11_cutter_0 : decode cX11_cutter 0 = .ok (.iload_n 1, 1) := by decide +kernel
theorem dX11_cutter_1 : decode cX11_cutter 1 = .ok (.iconst 0, 1) := by decide +kernel
theorem dX11_cutter_2 : decode cX11_cutter 2 = .ok (.bipush 6, 2) := by decide +kernel
theorem dX11_cutter_4 : decode cX11_cutter 4 = .ok (.invokestatic 56, 3) := by decide +kernel
theorem dX11_cutter_7 : decode cX11_cutter 7 = .ok (.ifCond .ne 5, 3) := by decide +kernel
theorem dX11_cutter_10 : decode cX11_cutter 10 = .ok (.iconst (-1), 1) := by decide +kernel
theorem dX11_cutter_11 : decode cX11_cutter 11 = .ok (.ireturn, 1) := by decide +kernel
theorem dX11_cutter_12 : decode cX11_cutter 12 = .ok (.iload_n 2, 1) := by decide +kernel
theorem dX11_cutter_13 : decode cX11_cutter 13 = .ok (.iconst 0, 1) := by decide +kernel
theorem dX11_cutter_14 : decode cX11_cutter 14 = .ok (.bipush 9, 2) := by decide +kernel
theorem dX11_cutter_16 : decode cX11_cutter 16 = .ok (.invokestatic 56, 3) := by decide +kernel
theorem dX11_cutter_19 : decode cX11_cutter 19 = .ok (.ifCond .eq 34, 3) := by decide +kernel
theorem dX11_cutter_22 : decode cX11_cutter 22 = .ok (.iload_n 3, 1) := by decide +kernel
theorem dX11_cutter_23 : decode cX11_cutter 23 = .ok (.bipush (-9), 2) := by decide +kernel
theorem dX11_cutter_25 : decode cX11_cutter 25 = .ok (.bipush 9, 2) := by decide +kernel
theorem dX11_cutter_27 : decode cX11_cutter 27 = .ok (.invokestatic 56, 3) := by decide +kernel
theorem dX11_cutter_30 : decode cX11_cutter 30 = .ok (.ifCond .eq 23, 3) := by decide +kernel
theorem dX11_cutter_33 : decode cX11_cutter 33 = .ok (.iload 4, 2) := by decide +kernel
theorem dX11_cutter_35 : decode cX11_cutter 35 = .ok (.bipush (-9), 2) := by decide +kernel
theorem dX11_cutter_37 : decode cX11_cutter 37 = .ok (.bipush 9, 2) := by decide +kernel
theorem dX11_cutter_39 : decode cX11_cutter 39 = .ok (.invokestatic 56, 3) := by decide +kernel
theorem dX11_cutter_42 : decode cX11_cutter 42 = .ok (.ifCond .eq 11, 3) := by decide +kernel
theorem dX11_cutter_45 : decode cX11_cutter 45 = .ok (.iload 5, 2) := by decide +kernel
theorem dX11_cutter_47 : decode cX11_cutter 47 = .ok (.invokestatic 85, 3) := by decide +kernel
theorem dX11_cutter_50 : decode cX11_cutter 50 = .ok (.ifCond .ne 6, 3) := by decide +kernel
theorem dX11_cutter_53 : decode cX11_cutter 53 = .ok (.bipush (-2), 2) := by decide +kernel
theorem dX11_cutter_55 : decode cX11_cutter 55 = .ok (.ireturn, 1) := by decide +kernel
theorem dX11_cutter_56 : decode cX11_cutter 56 = .ok (.aload_n 0, 1) := by decide +kernel
theorem dX11_cutter_57 : decode cX11_cutter 57 = .ok (.getfield 12, 3) := by decide +kernel
theorem dX11_cutter_60 : decode cX11_cutter 60 = .ok (.getfield 89, 3) := by decide +kernel
theorem dX11_cutter_63 : decode cX11_cutter 63 = .ok (.istore 6, 2) := by decide +kernel
theorem dX11_cutter_65 : decode cX11_cutter 65 = .ok (.iload 6, 2) := by decide +kernel
theorem dX11_cutter_67 : decode cX11_cutter 67 = .ok (.aload_n 0, 1) := by decide +kernel
theorem dX11_cutter_68 : decode cX11_cutter 68 = .ok (.getfield 12, 3) := by decide +kernel
theorem dX11_cutter_71 : decode cX11_cutter 71 = .ok (.getfield 92, 3) := by decide +kernel
theorem dX11_cutter_74 : decode cX11_cutter 74 = .ok (.arraylength, 1) := by decide +kernel
theorem dX11_cutter_75 : decode cX11_cutter 75 = .ok (.if_icmp .lt 6, 3) := by decide +kernel
theorem dX11_cutter_78 : decode cX11_cutter 78 = .ok (.bipush (-4), 2) := by decide +kernel
theorem dX11_cutter_80 : decode cX11_cutter 80 = .ok (.ireturn, 1) := by decide +kernel
theorem dX11_cutter_81 : decode cX11_cutter 81 = .ok (.aload_n 0, 1) := by decide +kernel
theorem dX11_cutter_82 : decode cX11_cutter 82 = .ok (.getfield 12, 3) := by decide +kernel
theorem dX11_cutter_85 : decode cX11_cutter 85 = .ok (.getfield 92, 3) := by decide +kernel
theorem dX11_cutter_88 : decode cX11_cutter 88 = .ok (.iload 6, 2) := by decide +kernel
theorem dX11_cutter_90 : decode cX11_cutter 90 = .ok (.iload_n 1, 1) := by decide +kernel
theorem dX11_cutter_91 : decode cX11_cutter 91 = .ok (.iload 6, 2) := by decide +kernel
theorem dX11_cutter_93 : decode cX11_cutter 93 = .ok (.iload_n 2, 1) := by decide +kernel
theorem dX11_cutter_94 : decode cX11_cutter 94 = .ok (.iload_n 3, 1) := by decide +kernel
theorem dX11_cutter_95 : decode cX11_cutter 95 = .ok (.iload 4, 2) := by decide +kernel
theorem dX11_cutter_97 : decode cX11_cutter 97 = .ok (.iload 5, 2) := by decide +kernel
theorem dX11_cutter_99 : decode cX11_cutter 99 = .ok (.invokestatic 96, 3) := by decide +kernel
theorem dX11_cutter_102 : decode cX11_cutter 102 = .ok (.aastore, 1) := by decide +kernel
theorem dX11_cutter_103 : decode cX11_cutter 103 = .ok (.aload_n 0, 1) := by decide +kernel
theorem dX11_cutter_104 : decode cX11_cutter 104 = .ok (.getfield 12, 3) := by decide +kernel
theorem dX11_cutter_107 : decode cX11_cutter 107 = .ok (.dup, 1) := by decide +kernel
theorem dX11_cutter_108 : decode cX11_cutter 108 = .ok (.getfield 89, 3) := by decide +kernel
theorem dX11_cutter_111 : decode cX11_cutter 111 = .ok (.iconst 1, 1) := by decide +kernel
theorem dX11_cutter_112 : decode cX11_cutter 112 = .ok (.iadd, 1) := by decide +kernel
theorem dX11_cutter_113 : decode cX11_cutter 113 = .ok (.putfield 89, 3) := by decide +kernel
theorem dX11_cutter_116 : decode cX11_cutter 116 = .ok (.iload 6, 2) := by decide +kernel
theorem dX11_cutter_118 : decode cX11_cutter 118 = .ok (.ireturn, 1) := by decide +kernel
theorem hd_X11_cutter : yX11_cutter.cls = RX11 ∧ yX11_cutter.cls ≠ "java/lang/invoke/MethodHandle" ∧ yX11_cutter.cls ≠ "java/lang/invoke/VarHandle" ∧ (parseMethodDescriptor yX11_cutter.desc).map (fun d => d.parameters.length) = some 5 := by decide +kernel
abbrev rm_X11_cutter : Room := { frames := 5, cells := 2, slots := 11, locals := 120 }
def F_X11_cutter (a1 : Int32) (a2 : Int32) (a3 : Int32) (a4 : Int32) (a5 : Int32) (N : Nat) (K len : Nat → Nat) (σ : SG) (ρ : RG) : Option (Int32 × TT) :=
  bn (F_X11_isWithin a1 (0 : Int32) (6 : Int32) σ ρ) fun r1 =>
  if r1 = 0 then
    some ((-1 : Int32), N, K, len, σ, ρ)
  else
    bn (F_X11_isWithin a2 (0 : Int32) (9 : Int32) σ ρ) fun r3 =>
    if r3 = 0 then
      some ((-2 : Int32), N, K, len, σ, ρ)
    else
      bn (F_X11_isWithin a3 (-9 : Int32) (9 : Int32) σ ρ) fun r5 =>
      if r5 = 0 then
        some ((-2 : Int32), N, K, len, σ, ρ)
      else
        bn (F_X11_isWithin a4 (-9 : Int32) (9 : Int32) σ ρ) fun r7 =>
        if r7 = 0 then
          some ((-2 : Int32), N, K, len, σ, ρ)
        else
          bn (F_X11_isThick a5 σ ρ) fun r9 =>
          if r9 = 0 then
            some ((-2 : Int32), N, K, len, σ, ρ)
          else
            if (σ 1 1) < (6 : Int32) then
              bnT (F_X11_newCutter a1 (σ 1 1) a2 a3 a4 a5 N K len σ ρ) fun c12 N12 K12 L12 σ12 ρ12 =>
              gd (inb (σ 1 1) 6) <|
              nm (r2 ρ12 2 ((σ 1 1)).toNatClampNeg (some c12)) fun ρ14 =>
              nm ((σ12 1 1) + (1 : Int32)) fun x15 =>
              nm (s2 σ12 1 1 x15) fun σ17 =>
              some ((σ 1 1), N12, K12, L12, σ17, ρ14)
            else
              some ((-4 : Int32), N, K, len, σ, ρ)
set_option maxHeartbeats 4000000 in
set_option maxRecDepth 100000 in
theorem k_X11_cutter {a1 : Int32} {a2 : Int32} {a3 : Int32} {a4 : Int32} {a5 : Int32} {r : Int32} {N1 : Nat} {K1 len1 : Nat → Nat} {σ σ1 : SG} {ρ ρ1 : RG} (hL : Lay N K len ρ) (hR : RC N ρ) (hF : F_X11_cutter a1 a2 a3 a4 a5 N K len σ ρ = some (r, N1, K1, len1, σ1, ρ1)) : N ≤ N1 ∧ Lay N1 K1 len1 ρ1 ∧ RC N1 ρ1 ∧ (∀ k t : Nat, isO k N K t → isO k N1 K1 t) := by
  unfold F_X11_cutter at hF
  have hN0 : 65 ≤ N := hL.1
  have hI : ∀ k t : Nat, isO k N K t → isO k N K t := fun _ _ h => h
  obtain ⟨r1, hq1, hF⟩ := bn_1 hF
  rcases (Decidable.em (r1 = 0)).symm with c_2 | c_2
  · have hF := ite_f hF c_2
    obtain ⟨r3, hq3, hF⟩ := bn_1 hF
    by_cases c_4 : r3 = 0
    · have hF := ite_t hF c_4
      obtain ⟨rfl, rfl, rfl, rfl, rfl, rfl⟩ := ret_T hF
      exact ⟨by omega, hL, hR, fun k t ht => hI k t ht⟩
    · have hF := ite_f hF c_4
      obtain ⟨r5, hq5, hF⟩ := bn_1 hF
      by_cases c_6 : r5 = 0
      · have hF := ite_t hF c_6
        obtain ⟨rfl, rfl, rfl, rfl, rfl, rfl⟩ := ret_T hF
        exact ⟨by omega, hL, hR, fun k t ht => hI k t ht⟩
      · have hF := ite_f hF c_6
        obtain ⟨r7, hq7, hF⟩ := bn_1 hF
        by_cases c_8 : r7 = 0
        · have hF := ite_t hF c_8
          obtain ⟨rfl, rfl, rfl, rfl, rfl, rfl⟩ := ret_T hF
          exact ⟨by omega, hL, hR, fun k t ht => hI k t ht⟩
        · have hF := ite_f hF c_8
          obtain ⟨r9, hq9, hF⟩ := bn_1 hF
          rcases (Decidable.em (r9 = 0)).symm with c_10 | c_10
          · have hF := ite_f hF c_10
            by_cases c_11 : (σ 1 1) < (6 : Int32)
            · have hF := ite_t hF c_11
              obtain ⟨c12, N12, K12, L12, σ12, ρ12, hq12, hF⟩ := bnT_1 hF
              obtain ⟨hN12, hL12, hR12, hO12, hc12⟩ := k_X11_newCutter hL hR hq12
              have hI := fun k t (h : isO k N K t) => hO12 k t (hI k t h)
              have hL := hL12
              have hR := hR12
              obtain ⟨g13, hF⟩ := gd_1 hF
              obtain ⟨ρ14, eρ14, hF⟩ := nm_1 hF
              have hL : Lay N12 K12 L12 ρ14 := by rw [eρ14]; exact ly_row hL _ (by decide +kernel)
              have hR : RC N12 ρ14 := by rw [eρ14]; exact RC_put hR hc12.1
              obtain ⟨x15, ex15, hF⟩ := nm_1 hF
              obtain ⟨σ17, eσ17, hF⟩ := nm_1 hF
              obtain ⟨rfl, rfl, rfl, rfl, rfl, rfl⟩ := ret_T hF
              exact ⟨by omega, hL, hR, fun k t ht => hI k t ht⟩
            · have hF := ite_f hF c_11
              obtain ⟨rfl, rfl, rfl, rfl, rfl, rfl⟩ := ret_T hF
              exact ⟨by omega, hL, hR, fun k t ht => hI k t ht⟩
          · have hF := ite_t hF c_10
            obtain ⟨rfl, rfl, rfl, rfl, rfl, rfl⟩ := ret_T hF
            exact ⟨by omega, hL, hR, fun k t ht => hI k t ht⟩
  · have hF := ite_t hF c_2
    obtain ⟨rfl, rfl, rfl, rfl, rfl, rfl⟩ := ret_T hF
    exact ⟨by omega, hL, hR, fun k t ht => hI k t ht⟩
set_option maxHeartbeats 8000000 in
set_option maxRecDepth 100000 in
theorem c_X11_cutter {a1 : Int32} {a2 : Int32} {a3 : Int32} {a4 : Int32} {a5 : Int32} {r : Int32} {N1 : Nat} {K1 len1 : Nat → Nat} {σ σ1 : SG} {ρ ρ1 : RG} (hL : Lay N K len ρ) (hR : RC N ρ) (hF : F_X11_cutter a1 a2 a3 a4 a5 N K len σ ρ = some (r, N1, K1, len1, σ1, ρ1)) : MC l Y D N ad K len yX11_cutter (Cond.code yX11_cutter cX11_cutter 7 (some .int) :: wsL_law) rm_X11_cutter [.ref (ad 0), .int a1, .int a2, .int a3, .int a4, .int a5] σ ρ (fun _ => some (.int r)) N1 K1 len1 σ1 ρ1 2 11 := by
  refine mc_of (cc := cX11_cutter) (nL := 7) (ret := (some .int)) (by decide) (Nat.le_of_ble_eq_true rfl) ?_
  intro p e s m args below meth c ls C hnm hP hS hl
  have hx := C.1.1
  have hb := C.1.2.1
  have hl : lv_has ls 7 [(0, .ref (ad 0)), (1, .int a1), (2, .int a2), (3, .int a3), (4, .int a4), (5, .int a5)] := hl
  have hEE : ∀ r, r < N → ad r = ad r := fun _ _ => rfl
  have hAA : AA N ad s.heap.size = AA N ad s.heap.size := rfl
  have hN0 : 65 ≤ N := hL.1
  unfold F_X11_cutter at hF
  refine lv_iload_n hx hb dX11_cutter_0 rfl (lv_at hl 1 rfl) ?_
  refine lv_iconst (v := 0) hx hb dX11_cutter_1 (by decide) ?_
  refine lv_bipush (v := 6) hx hb dX11_cutter_2 (by decide +kernel) ?_
  obtain ⟨r1, hq1, hF⟩ := bn_1 hF
  refine x_callS C hP hS (c_X11_isWithin hL hq1) (va_cwS 3 C.1.2.2.2.2 (gdS mw_97 mw_98 mw_2 mw_99) rfl rfl rfl hd_X11_isWithin.2 ⟨Nat.le_of_ble_eq_true rfl, Nat.le_of_ble_eq_true rfl⟩) rfl rfl hl.1 (Nat.le_of_ble_eq_true rfl) ⟨Nat.zero_le _, Nat.zero_le _⟩ dX11_cutter_4 (fun H locs hP hS => ?_)
  refine lv_if_ne (tgt := 12) hx hb dX11_cutter_7 (by decide) (fun c_2 => ?_) (fun c_2 => ?_) -- COND 2 rcases (Decidable.em (r1 = 0)).symm with c_2 | c_2
  · have hF := ite_f hF c_2
    refine lv_iload_n hx hb dX11_cutter_12 rfl (lv_at hl 2 rfl) ?_
    refine lv_iconst (v := 0) hx hb dX11_cutter_13 (by decide) ?_
    refine lv_bipush (v := 9) hx hb dX11_cutter_14 (by decide +kernel) ?_
    obtain ⟨r3, hq3, hF⟩ := bn_1 hF
    refine x_callS C hP hS (c_X11_isWithin hL hq3) (va_cwS 3 C.1.2.2.2.2 (gdS mw_97 mw_98 mw_2 mw_99) rfl rfl rfl hd_X11_isWithin.2 ⟨Nat.le_of_ble_eq_true rfl, Nat.le_of_ble_eq_true rfl⟩) rfl rfl hl.1 (Nat.le_of_ble_eq_true rfl) ⟨Nat.zero_le _, Nat.zero_le _⟩ dX11_cutter_16 (fun H locs hP hS => ?_)
    refine lv_if_eq (tgt := 53) hx hb dX11_cutter_19 (by decide) (fun c_4 => ?_) (fun c_4 => ?_) -- COND 4 by_cases c_4 : r3 = 0
    · have hF := ite_t hF c_4
      refine lv_bipush (v := -2) hx hb dX11_cutter_53 (by decide +kernel) ?_
      obtain ⟨rfl, rfl, rfl, rfl, rfl, rfl⟩ := ret_T hF
      refine W.widen (k := 2) (n := 11) (Nat.le_of_ble_eq_true rfl) (Nat.le_of_ble_eq_true rfl) ?_
      exact x_iretC rfl hEE hAA C hP hS dX11_cutter_55
    · have hF := ite_f hF c_4
      refine lv_iload_n hx hb dX11_cutter_22 rfl (lv_at hl 3 rfl) ?_
      refine lv_bipush (v := -9) hx hb dX11_cutter_23 (by decide +kernel) ?_
      refine lv_bipush (v := 9) hx hb dX11_cutter_25 (by decide +kernel) ?_
      obtain ⟨r5, hq5, hF⟩ := bn_1 hF
      refine x_callS C hP hS (c_X11_isWithin hL hq5) (va_cwS 3 C.1.2.2.2.2 (gdS mw_97 mw_98 mw_2 mw_99) rfl rfl rfl hd_X11_isWithin.2 ⟨Nat.le_of_ble_eq_true rfl, Nat.le_of_ble_eq_true rfl⟩) rfl rfl hl.1 (Nat.le_of_ble_eq_true rfl) ⟨Nat.zero_le _, Nat.zero_le _⟩ dX11_cutter_27 (fun H locs hP hS => ?_)
      refine lv_if_eq (tgt := 53) hx hb dX11_cutter_30 (by decide) (fun c_6 => ?_) (fun c_6 => ?_) -- COND 6 by_cases c_6 : r5 = 0
      · have hF := ite_t hF c_6
        refine lv_bipush (v := -2) hx hb dX11_cutter_53 (by decide +kernel) ?_
        obtain ⟨rfl, rfl, rfl, rfl, rfl, rfl⟩ := ret_T hF
        refine W.widen (k := 2) (n := 11) (Nat.le_of_ble_eq_true rfl) (Nat.le_of_ble_eq_true rfl) ?_
        exact x_iretC rfl hEE hAA C hP hS dX11_cutter_55
      · have hF := ite_f hF c_6
        refine lv_iload hx hb dX11_cutter_33 (lv_at hl 4 rfl) ?_
        refine lv_bipush (v := -9) hx hb dX11_cutter_35 (by decide +kernel) ?_
        refine lv_bipush (v := 9) hx hb dX11_cutter_37 (by decide +kernel) ?_
        obtain ⟨r7, hq7, hF⟩ := bn_1 hF
        refine x_callS C hP hS (c_X11_isWithin hL hq7) (va_cwS 3 C.1.2.2.2.2 (gdS mw_97 mw_98 mw_2 mw_99) rfl rfl rfl hd_X11_isWithin.2 ⟨Nat.le_of_ble_eq_true rfl, Nat.le_of_ble_eq_true rfl⟩) rfl rfl hl.1 (Nat.le_of_ble_eq_true rfl) ⟨Nat.zero_le _, Nat.zero_le _⟩ dX11_cutter_39 (fun H locs hP hS => ?_)
        refine lv_if_eq (tgt := 53) hx hb dX11_cutter_42 (by decide) (fun c_8 => ?_) (fun c_8 => ?_) -- COND 8 by_cases c_8 : r7 = 0
        · have hF := ite_t hF c_8
          refine lv_bipush (v := -2) hx hb dX11_cutter_53 (by decide +kernel) ?_
          obtain ⟨rfl, rfl, rfl, rfl, rfl, rfl⟩ := ret_T hF
          refine W.widen (k := 2) (n := 11) (Nat.le_of_ble_eq_true rfl) (Nat.le_of_ble_eq_true rfl) ?_
          exact x_iretC rfl hEE hAA C hP hS dX11_cutter_55
        · have hF := ite_f hF c_8
          refine lv_iload hx hb dX11_cutter_45 (lv_at hl 5 rfl) ?_
          obtain ⟨r9, hq9, hF⟩ := bn_1 hF
          refine x_callS C hP hS (c_X11_isThick hL hq9) (va_cwS 1 C.1.2.2.2.2 (gdS mw_354 mw_355 mw_2 mw_356) rfl rfl rfl hd_X11_isThick.2 ⟨Nat.le_of_ble_eq_true rfl, Nat.le_of_ble_eq_true rfl⟩) rfl rfl hl.1 (Nat.le_of_ble_eq_true rfl) ⟨Nat.zero_le _, Nat.zero_le _⟩ dX11_cutter_47 (fun H locs hP hS => ?_)
          refine lv_if_ne (tgt := 56) hx hb dX11_cutter_50 (by decide) (fun c_10 => ?_) (fun c_10 => ?_) -- COND 10 rcases (Decidable.em (r9 = 0)).symm with c_10 | c_10
          · have hF := ite_f hF c_10
            refine lv_aload_n hx hb dX11_cutter_56 rfl (lv_at hl 0 rfl) ?_
            refine get_11_0 C hP (lr_0 hL) (lk_0 hL) inlX11 mw_15 (lf_0_0 hL) dX11_cutter_57 ?_
            refine get_8_1 C hP (lr_1 hL) (lk_1 hL) inlX8 mw_352 dX11_cutter_60 ?_
            refine lv_istore (lv' := [(6, .int (σ 1 1)), (0, .ref (ad 0)), (1, .int a1), (2, .int a2), (3, .int a3), (4, .int a4), (5, .int a5)]) hx hb dX11_cutter_63 hl (by decide) rfl (fun ls hl => ?_)
            refine lv_iload hx hb dX11_cutter_65 (lv_at hl 0 rfl) ?_
            refine lv_aload_n hx hb dX11_cutter_67 rfl (lv_at hl 1 rfl) ?_
            refine get_11_0 C hP (lr_0 hL) (lk_0 hL) inlX11 mw_15 (lf_0_0 hL) dX11_cutter_68 ?_
            refine get_8_0 C hP (lr_1 hL) (lk_1 hL) inlX8 mw_353 (lf_1_0 hL) dX11_cutter_71 ?_
            refine x_alen (v := (6 : Int32)) C hP (lr_2 hL) (lk_2 hL) (by decide) (ln_2 hL) (by decide +kernel) dX11_cutter_74 ?_
            refine lv_icmp_lt (tgt := 81) hx hb dX11_cutter_75 (by decide) (fun c_11 => ?_) (fun c_11 => ?_) -- COND 11 by_cases c_11 : (σ 1 1) < (6 : Int32)
            · have hF := ite_t hF c_11
              refine lv_aload_n hx hb dX11_cutter_81 rfl (lv_at hl 1 rfl) ?_
              refine get_11_0 C hP (lr_0 hL) (lk_0 hL) inlX11 mw_15 (lf_0_0 hL) dX11_cutter_82 ?_
              refine get_8_0 C hP (lr_1 hL) (lk_1 hL) inlX8 mw_353 (lf_1_0 hL) dX11_cutter_85 ?_
              refine lv_iload hx hb dX11_cutter_88 (lv_at hl 0 rfl) ?_
              refine lv_iload_n hx hb dX11_cutter_90 rfl (lv_at hl 2 rfl) ?_
              refine lv_iload hx hb dX11_cutter_91 (lv_at hl 0 rfl) ?_
              refine lv_iload_n hx hb dX11_cutter_93 rfl (lv_at hl 3 rfl) ?_
              refine lv_iload_n hx hb dX11_cutter_94 rfl (lv_at hl 4 rfl) ?_
              refine lv_iload hx hb dX11_cutter_95 (lv_at hl 5 rfl) ?_
              refine lv_iload hx hb dX11_cutter_97 (lv_at hl 6 rfl) ?_
              obtain ⟨c12, N12, K12, L12, σ12, ρ12, hq12, hF⟩ := bnT_1 hF
              obtain ⟨hN12, hL12, hR12, hO12, hc12⟩ := k_X11_newCutter hL hR hq12
              refine x_callSC (ws := (Cond.code yX11_newCutter cX11_newCutter 6 (some (.object "CutCrooked$Cutter")) :: wsL_law)) C hP hS (c_X11_newCutter hL hR hq12) (va_cwS 6 C.1.2.2.2.2 (gdS mw_357 mw_358 mw_2 mw_359) rfl rfl rfl hd_X11_newCutter.2 ⟨(Nat.le_of_ble_eq_true rfl), (Nat.le_of_ble_eq_true rfl)⟩) rfl rfl hl.1 (Nat.le_of_ble_eq_true rfl) ⟨(Nat.le_of_ble_eq_true rfl), (Nat.le_of_ble_eq_true rfl)⟩ dX11_cutter_99 (fun ad12 H locs hE hA C hP hS => ?_)
              rw [← hE 2 (lr_2 hL)]
              rw [← hE 0 (lr_0 hL)] at hl
              have hEE : ∀ r, r < N → ad12 r = ad r := fun r h => (hE r (by omega)).trans (hEE r h)
              have hAA := hA.trans hAA
              have hL := hL12
              have hR := hR12
              obtain ⟨g13, hF⟩ := gd_1 hF
              obtain ⟨ρ14, eρ14, hF⟩ := nm_1 hF
              refine x_aastC (ρ1 := ρ14) C hP hS (lr_2 hL) (lk_2 hL) (ln_2 hL) hc12.1 hc12.2 g13 eρ14 dX11_cutter_102 (fun H locs hP hS => ?_)
              have hL : Lay N12 K12 L12 ρ14 := by rw [eρ14]; exact ly_row hL _ (by decide +kernel)
              have hR : RC N12 ρ14 := by rw [eρ14]; exact RC_put hR hc12.1
              refine lv_aload_n hx hb dX11_cutter_103 rfl (lv_at hl 1 rfl) ?_
              refine get_11_0 C hP (lr_0 hL) (lk_0 hL) inlX11 mw_15 (lf_0_0 hL) dX11_cutter_104 ?_
              refine lv_dup hx hb dX11_cutter_107 rfl ?_
              refine get_8_1 C hP (lr_1 hL) (lk_1 hL) inlX8 mw_352 dX11_cutter_108 ?_
              refine lv_iconst (v := 1) hx hb dX11_cutter_111 (by decide) ?_
              refine lv_iadd hx hb dX11_cutter_112 ?_
              obtain ⟨x15, ex15, hF⟩ := nm_1 hF
              refine x_top ex15 ?_
              obtain ⟨σ17, eσ17, hF⟩ := nm_1 hF
              refine put_8_1 C hP hS (lr_1 hL) (lk_1 hL) inlX8 mw_352 eσ17 dX11_cutter_113 (fun H locs hP hS => ?_)
              refine lv_iload hx hb dX11_cutter_116 (lv_at hl 0 rfl) ?_
              obtain ⟨rfl, rfl, rfl, rfl, rfl, rfl⟩ := ret_T hF
              exact x_iretC rfl hEE hAA C hP hS dX11_cutter_118
            · have hF := ite_f hF c_11
              refine lv_bipush (v := -4) hx hb dX11_cutter_78 (by decide +kernel) ?_
              obtain ⟨rfl, rfl, rfl, rfl, rfl, rfl⟩ := ret_T hF
              refine W.widen (k := 2) (n := 11) (Nat.le_of_ble_eq_true rfl) (Nat.le_of_ble_eq_true rfl) ?_
              exact x_iretC rfl hEE hAA C hP hS dX11_cutter_80
          · have hF := ite_t hF c_10
            refine lv_bipush (v := -2) hx hb dX11_cutter_53 (by decide +kernel) ?_
            obtain ⟨rfl, rfl, rfl, rfl, rfl, rfl⟩ := ret_T hF
            refine W.widen (k := 2) (n := 11) (Nat.le_of_ble_eq_true rfl) (Nat.le_of_ble_eq_true rfl) ?_
            exact x_iretC rfl hEE hAA C hP hS dX11_cutter_55
  · have hF := ite_t hF c_2
    refine lv_iconst (v := -1) hx hb dX11_cutter_10 (by decide) ?_
    obtain ⟨rfl, rfl, rfl, rfl, rfl, rfl⟩ := ret_T hF
    refine W.widen (k := 2) (n := 11) (Nat.le_of_ble_eq_true rfl) (Nat.le_of_ble_eq_true rfl) ?_
    exact x_iretC rfl hEE hAA C hP hS dX11_cutter_11
end GEN
