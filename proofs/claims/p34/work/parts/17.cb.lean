/-! PART 17.cb: printed by wip/gen -/
section GEN
variable {l : Launch} {Y : YT} {D : va_G} {N : Nat} {ad K len : Nat → Nat}
variable {fR lR : Nat}
/-! CutCrooked.private static long partOf(long, long, int);  -/
theorem dX11_partOf_0 : decode cX11_partOf 0 = .ok (.lload_n 2, 1) := by decide +kernel
theorem dX11_partOf_1 : decode cX11_partOf 1 = .ok (.lstore 5, 2) := by decide +kernel
theorem dX11_partOf_3 : decode cX11_partOf 3 = .ok (.lload_n 0, 1) := by decide +kernel
theorem dX11_partOf_4 : decode cX11_partOf 4 = .ok (.lstore 7, 2) := by decide +kernel
theorem dX11_partOf_6 : decode cX11_partOf 6 = .ok (.iconst 0, 1) := by decide +kernel
theorem dX11_partOf_7 : decode cX11_partOf 7 = .ok (.istore 9, 2) := by decide +kernel
theorem dX11_partOf_9 : decode cX11_partOf 9 = .ok (.iload 9, 2) := by decide +kernel
theorem dX11_partOf_11 : decode cX11_partOf 11 = .ok (.sipush 128, 3) := by decide +kernel
theorem dX11_partOf_14 : decode cX11_partOf 14 = .ok (.if_icmp .ge 31, 3) := by decide +kernel
theorem dX11_partOf_17 : decode cX11_partOf 17 = .ok (.lload 7, 2) := by decide +kernel
theorem dX11_partOf_19 : decode cX11_partOf 19 = .ok (.lconst 0, 1) := by decide +kernel
theorem dX11_partOf_20 : decode cX11_partOf 20 = .ok (.lcmp, 1) := by decide +kernel
theorem dX11_partOf_21 : decode cX11_partOf 21 = .ok (.ifCond .eq 24, 3) := by decide +kernel
theorem dX11_partOf_24 : decode cX11_partOf 24 = .ok (.lload 5, 2) := by decide +kernel
theorem dX11_partOf_26 : decode cX11_partOf 26 = .ok (.lload 7, 2) := by decide +kernel
theorem dX11_partOf_28 : decode cX11_partOf 28 = .ok (.lrem, 1) := by decide +kernel
theorem dX11_partOf_29 : decode cX11_partOf 29 = .ok (.lstore 10, 2) := by decide +kernel
theorem dX11_partOf_31 : decode cX11_partOf 31 = .ok (.lload 7, 2) := by decide +kernel
theorem dX11_partOf_33 : decode cX11_partOf 33 = .ok (.lstore 5, 2) := by decide +kernel
theorem dX11_partOf_35 : decode cX11_partOf 35 = .ok (.lload 10, 2) := by decide +kernel
theorem dX11_partOf_37 : decode cX11_partOf 37 = .ok (.lstore 7, 2) := by decide +kernel
theorem dX11_partOf_39 : decode cX11_partOf 39 = .ok (.iinc 9 1, 3) := by decide +kernel
theorem dX11_partOf_42 : decode cX11_partOf 42 = .ok (.goto (-33), 3) := by decide +kernel
theorem dX11_partOf_45 : decode cX11_partOf 45 = .ok (.lload 5, 2) := by decide +kernel
theorem dX11_partOf_47 : decode cX11_partOf 47 = .ok (.lconst 0, 1) := by decide +kernel
theorem dX11_partOf_48 : decode cX11_partOf 48 = .ok (.lcmp, 1) := by decide +kernel
theorem dX11_partOf_49 : decode cX11_partOf 49 = .ok (.ifCond .ne 14, 3) := by decide +kernel
theorem dX11_partOf_52 : decode cX11_partOf 52 = .ok (.iload 4, 2) := by decide +kernel
theorem dX11_partOf_54 : decode cX11_partOf 54 = .ok (.ifCond .ne 7, 3) := by decide +kernel
theorem dX11_partOf_57 : decode cX11_partOf 57 = .ok (.lload_n 0, 1) := by decide +kernel
theorem dX11_partOf_58 : decode cX11_partOf 58 = .ok (.goto 4, 3) := by decide +kernel
theorem dX11_partOf_61 : decode cX11_partOf 61 = .ok (.lload_n 2, 1) := by decide +kernel
theorem dX11_partOf_62 : decode cX11_partOf 62 = .ok (.lreturn, 1) := by decide +kernel
theorem dX11_partOf_63 : decode cX11_partOf 63 = .ok (.iload 4, 2) := by decide +kernel
theorem dX11_partOf_65 : decode cX11_partOf 65 = .ok (.ifCond .ne 10, 3) := by decide +kernel
theorem dX11_partOf_68 : decode cX11_partOf 68 = .ok (.lload_n 0, 1) := by decide +kernel
theorem dX11_partOf_69 : decode cX11_partOf 69 = .ok (.lload 5, 2) := by decide +kernel
theorem dX11_partOf_71 : decode cX11_partOf 71 = .ok (.ldiv, 1) := by decide +kernel
theorem dX11_partOf_72 : decode cX11_partOf 72 = .ok (.goto 7, 3) := by decide +kernel
theorem dX11_partOf_75 : decode cX11_partOf 75 = .ok (.lload_n 2, 1) := by decide +kernel
theorem dX11_partOf_76 : decode cX11_partOf 76 = .ok (.lload 5, 2) := by decide +kernel
theorem dX11_partOf_78 : decode cX11_partOf 78 = .ok (.ldiv, 1) := by decide +kernel
theorem dX11_partOf_79 : decode cX11_partOf 79 = .ok (.lreturn, 1) := by decide +kernel
theorem hd_X11_partOf : yX11_partOf.cls = RX11 ∧ yX11_partOf.cls ≠ "java/lang/invoke/MethodHandle" ∧ yX11_partOf.cls ≠ "java/lang/invoke/VarHandle" ∧ (parseMethodDescriptor yX11_partOf.desc).map (fun d => d.parameters.length) = some 3 := by decide +kernel
abbrev rm_X11_partOf : Room := { frames := 0, cells := 0, slots := 0, locals := 0 }
def F_X11_partOf_45 (a1 : Int64) (a2 : Int64) (a3 : Int32) (σ : SG) (ρ : RG) (v0 : Int64) (v2 : Int64) (v4 : Int32) (v5 : Int64) : Option (Int64) :=
  nm (lg_cmp v5 (0 : Int64)) fun x2 =>
  if x2 = 0 then
    if v4 = 0 then
      some v0
    else
      some v2
  else
    if v4 = 0 then
      gd (decide (¬ v5 = 0)) <|
      nm (v0 / v5) fun x8 =>
      some x8
    else
      gd (decide (¬ v5 = 0)) <|
      nm (v2 / v5) fun x6 =>
      some x6
def F_X11_partOf_9 (a1 : Int64) (a2 : Int64) (a3 : Int32) : Nat → SG → RG → Int64 → Int64 → Int32 → Int64 → Int64 → Int32 → Option (Int64)
  | 0 => fun _ _ _ _ _ _ _ _ => none
  | n + 1 => fun σ ρ v0 v2 v4 v5 v7 v9 =>
  if (128 : Int32) ≤ v9 then
    F_X11_partOf_45 a1 a2 a3 σ ρ v0 v2 v4 v5
  else
    nm (lg_cmp v7 (0 : Int64)) fun x10 =>
    if x10 = 0 then
      F_X11_partOf_45 a1 a2 a3 σ ρ v0 v2 v4 v5
    else
      gd (decide (¬ v7 = 0)) <|
      nm (v5 - v5 / v7 * v7) fun x13 =>
      nm (v9 + (1 : Int32)) fun x14 =>
      F_X11_partOf_9 a1 a2 a3 n σ ρ v0 v2 v4 v7 x13 x14
def F_X11_partOf (a1 : Int64) (a2 : Int64) (a3 : Int32) (σ : SG) (ρ : RG) : Option (Int64) :=
  F_X11_partOf_9 a1 a2 a3 1024 σ ρ a1 a2 a3 a2 a1 (0 : Int32)
set_option maxHeartbeats 4000000 in
set_option maxRecDepth 100000 in
theorem w_X11_partOf_45 {a1 : Int64} {a2 : Int64} {a3 : Int32} {p : Program} {e : Env} {s : State} {m : MethodId} {args : Array Value} {below : List Frame} {meth : Method} {c : Code} {σ0 : SG} {ρ0 : RG} {r : Int64} (C : Cx Y D N ad p s m args meth c cX11_partOf 12 (some .long) RX11 wsL_law) {σ : SG} {ρ : RG} {v0 : Int64} {v2 : Int64} {v4 : Int32} {v5 : Int64} {H : Heap} {locs : List Loc} {ls : Array Slot} (hσ0 : σ = σ0) (hρ0 : ρ = ρ0) (hL : Lay N K len ρ) (hF : F_X11_partOf_45 a1 a2 a3 σ ρ v0 v2 v4 v5 = some r) (hP : WP Y D N ad K len σ ρ H) (hS : va_S (AA N ad s.heap.size) s.heap H locs) (hl : lv_has ls 12 [(0, .long v0), (2, .long v2), (4, .int v4), (5, .long v5)]) : W p l e rm_X11_partOf s m args below meth c H locs 0 0 (MQ below (QW Y D N ad K len σ0 ρ0 (AA N ad s.heap.size) (some (.long r))) args s 0 0 (AA N ad s.heap.size)) (F0 m 45 ls []) := by
  have hx := C.1.1
  have hb := C.1.2.1
  unfold F_X11_partOf_45 at hF
  refine lv_lload hx hb dX11_partOf_45 (lv_at hl 3 rfl) ?_
  refine lv_lconst (v := 0) hx hb dX11_partOf_47 (by decide +kernel) ?_
  refine W.lcmp hx hb dX11_partOf_48 ?_
  obtain ⟨x2, ex2, hF⟩ := nm_1 hF
  refine x_top ex2 ?_
  refine lv_if_ne (tgt := 63) hx hb dX11_partOf_49 (by decide) (fun c_3 => ?_) (fun c_3 => ?_) -- COND 3 rcases (Decidable.em (x2 = 0)).symm with c_3 | c_3
  · have hF := ite_f hF c_3
    refine lv_iload hx hb dX11_partOf_63 (lv_at hl 2 rfl) ?_
    refine lv_if_ne (tgt := 75) hx hb dX11_partOf_65 (by decide) (fun c_4 => ?_) (fun c_4 => ?_) -- COND 4 rcases (Decidable.em (v4 = 0)).symm with c_4 | c_4
    · have hF := ite_f hF c_4
      refine lv_lload_n hx hb dX11_partOf_75 rfl (lv_at hl 1 rfl) ?_
      refine lv_lload hx hb dX11_partOf_76 (lv_at hl 3 rfl) ?_
      obtain ⟨g5, hF⟩ := gd_1 hF
      refine lv_ldiv hx hb dX11_partOf_78 (of_decide_eq_true g5) ?_
      obtain ⟨x6, ex6, hF⟩ := nm_1 hF
      refine x_topl ex6 ?_
      obtain rfl := ret_1 hF
      subst hσ0
      subst hρ0
      exact x_lret rfl C hP hS dX11_partOf_79
    · have hF := ite_t hF c_4
      refine lv_lload_n hx hb dX11_partOf_68 rfl (lv_at hl 0 rfl) ?_
      refine lv_lload hx hb dX11_partOf_69 (lv_at hl 3 rfl) ?_
      obtain ⟨g7, hF⟩ := gd_1 hF
      refine lv_ldiv hx hb dX11_partOf_71 (of_decide_eq_true g7) ?_
      obtain ⟨x8, ex8, hF⟩ := nm_1 hF
      refine x_topl ex8 ?_
      refine lv_goto (tgt := 79) hx hb dX11_partOf_72 (by decide) ?_
      obtain rfl := ret_1 hF
      subst hσ0
      subst hρ0
      exact x_lret rfl C hP hS dX11_partOf_79
  · have hF := ite_t hF c_3
    refine lv_iload hx hb dX11_partOf_52 (lv_at hl 2 rfl) ?_
    refine lv_if_ne (tgt := 61) hx hb dX11_partOf_54 (by decide) (fun c_9 => ?_) (fun c_9 => ?_) -- COND 9 rcases (Decidable.em (v4 = 0)).symm with c_9 | c_9
    · have hF := ite_f hF c_9
      refine lv_lload_n hx hb dX11_partOf_61 rfl (lv_at hl 1 rfl) ?_
      obtain rfl := ret_1 hF
      subst hσ0
      subst hρ0
      exact x_lret rfl C hP hS dX11_partOf_62
    · have hF := ite_t hF c_9
      refine lv_lload_n hx hb dX11_partOf_57 rfl (lv_at hl 0 rfl) ?_
      refine lv_goto (tgt := 62) hx hb dX11_partOf_58 (by decide) ?_
      obtain rfl := ret_1 hF
      subst hσ0
      subst hρ0
      exact x_lret rfl C hP hS dX11_partOf_62
set_option maxHeartbeats 4000000 in
set_option maxRecDepth 100000 in
theorem w_X11_partOf_9 {a1 : Int64} {a2 : Int64} {a3 : Int32} {p : Program} {e : Env} {s : State} {m : MethodId} {args : Array Value} {below : List Frame} {meth : Method} {c : Code} {σ0 : SG} {ρ0 : RG} {r : Int64} (C : Cx Y D N ad p s m args meth c cX11_partOf 12 (some .long) RX11 wsL_law) : ∀ (n : Nat) (σ : SG) (ρ : RG) (v0 : Int64) (v2 : Int64) (v4 : Int32) (v5 : Int64) (v7 : Int64) (v9 : Int32) (H : Heap) (locs : List Loc) (ls : Array Slot), σ = σ0 → ρ = ρ0 → Lay N K len ρ → F_X11_partOf_9 a1 a2 a3 n σ ρ v0 v2 v4 v5 v7 v9 = some r → WP Y D N ad K len σ ρ H → va_S (AA N ad s.heap.size) s.heap H locs → lv_has ls 12 [(0, .long v0), (2, .long v2), (4, .int v4), (5, .long v5), (7, .long v7), (9, .int v9)] → W p l e rm_X11_partOf s m args below meth c H locs 0 0 (MQ below (QW Y D N ad K len σ0 ρ0 (AA N ad s.heap.size) (some (.long r))) args s 0 0 (AA N ad s.heap.size)) (F0 m 9 ls []) := by
  have hx := C.1.1
  have hb := C.1.2.1
  intro n
  induction n with
  | zero => intro σ ρ v0 v2 v4 v5 v7 v9 H locs ls hσ0 hρ0 hL hF; cases hF
  | succ n ih =>
    intro σ ρ v0 v2 v4 v5 v7 v9 H locs ls hσ0 hρ0 hL hF hP hS hl
    unfold F_X11_partOf_9 at hF
    refine lv_iload hx hb dX11_partOf_9 (lv_at hl 5 rfl) ?_
    refine lv_sipush (v := 128) hx hb dX11_partOf_11 (by decide +kernel) ?_
    refine lv_icmp_ge (tgt := 45) hx hb dX11_partOf_14 (by decide) (fun c_1 => ?_) (fun c_1 => ?_) -- COND 1 by_cases c_1 : (128 : Int32) ≤ v9
    · have hF := ite_t hF c_1
      exact w_X11_partOf_45 C hσ0 hρ0 hL hF hP hS (lv_sub hl [0, 1, 2, 3] rfl)
    · have hF := ite_f hF c_1
      refine lv_lload hx hb dX11_partOf_17 (lv_at hl 4 rfl) ?_
      refine lv_lconst (v := 0) hx hb dX11_partOf_19 (by decide +kernel) ?_
      refine W.lcmp hx hb dX11_partOf_20 ?_
      obtain ⟨x10, ex10, hF⟩ := nm_1 hF
      refine x_top ex10 ?_
      refine lv_if_eq (tgt := 45) hx hb dX11_partOf_21 (by decide) (fun c_11 => ?_) (fun c_11 => ?_) -- COND 11 by_cases c_11 : x10 = 0
      · have hF := ite_t hF c_11
        exact w_X11_partOf_45 C hσ0 hρ0 hL hF hP hS (lv_sub hl [0, 1, 2, 3] rfl)
      · have hF := ite_f hF c_11
        refine lv_lload hx hb dX11_partOf_24 (lv_at hl 3 rfl) ?_
        refine lv_lload hx hb dX11_partOf_26 (lv_at hl 4 rfl) ?_
        obtain ⟨g12, hF⟩ := gd_1 hF
        refine lv_lrem hx hb dX11_partOf_28 (of_decide_eq_true g12) ?_
        obtain ⟨x13, ex13, hF⟩ := nm_1 hF
        refine x_topl ex13 ?_
        refine lv_lstore (lv' := [(10, .long x13), (0, .long v0), (2, .long v2), (4, .int v4), (5, .long v5), (7, .long v7), (9, .int v9)]) hx hb dX11_partOf_29 hl (by decide) rfl (fun ls hl => ?_)
        refine lv_lload hx hb dX11_partOf_31 (lv_at hl 5 rfl) ?_
        refine lv_lstore (lv' := [(5, .long v7), (10, .long x13), (0, .long v0), (2, .long v2), (4, .int v4), (7, .long v7), (9, .int v9)]) hx hb dX11_partOf_33 hl (by decide) rfl (fun ls hl => ?_)
        refine lv_lload hx hb dX11_partOf_35 (lv_at hl 1 rfl) ?_
        refine lv_lstore (lv' := [(7, .long x13), (5, .long v7), (10, .long x13), (0, .long v0), (2, .long v2), (4, .int v4), (9, .int v9)]) hx hb dX11_partOf_37 hl (by decide) rfl (fun ls hl => ?_)
        obtain ⟨x14, ex14, hF⟩ := nm_1 hF
        refine lv_iinc (v := x14) (lv' := [(9, .int x14), (7, .long x13), (5, .long v7), (10, .long x13), (0, .long v0), (2, .long v2), (4, .int v4)]) hx hb dX11_partOf_39 hl (k := 6) rfl (by rw [ex14]; first | rfl | decide) (by decide) rfl (fun ls hl => ?_)
        refine lv_goto (tgt := 9) hx hb dX11_partOf_42 (by decide) ?_
        exact ih _ _ _ _ _ _ _ _ _ _ _ hσ0 hρ0 hL hF hP hS (lv_sub hl [4, 5, 6, 2, 1, 0] rfl)
set_option maxHeartbeats 4000000 in
set_option maxRecDepth 100000 in
theorem w_X11_partOf_0 {a1 : Int64} {a2 : Int64} {a3 : Int32} {p : Program} {e : Env} {s : State} {m : MethodId} {args : Array Value} {below : List Frame} {meth : Method} {c : Code} {σ0 : SG} {ρ0 : RG} {r : Int64} (C : Cx Y D N ad p s m args meth c cX11_partOf 12 (some .long) RX11 wsL_law) {σ : SG} {ρ : RG} {H : Heap} {locs : List Loc} {ls : Array Slot} (hσ0 : σ = σ0) (hρ0 : ρ = ρ0) (hL : Lay N K len ρ) (hF : F_X11_partOf a1 a2 a3 σ ρ = some r) (hP : WP Y D N ad K len σ ρ H) (hS : va_S (AA N ad s.heap.size) s.heap H locs) (hl : lv_has ls 12 [(0, .long a1), (2, .long a2), (4, .int a3)]) : W p l e rm_X11_partOf s m args below meth c H locs 0 0 (MQ below (QW Y D N ad K len σ0 ρ0 (AA N ad s.heap.size) (some (.long r))) args s 0 0 (AA N ad s.heap.size)) (F0 m 0 ls []) := by
  have hx := C.1.1
  have hb := C.1.2.1
  unfold F_X11_partOf at hF
  refine lv_lload_n hx hb dX11_partOf_0 rfl (lv_at hl 1 rfl) ?_
  refine lv_lstore (lv' := [(5, .long a2), (0, .long a1), (2, .long a2), (4, .int a3)]) hx hb dX11_partOf_1 hl (by decide) rfl (fun ls hl => ?_)
  refine lv_lload_n hx hb dX11_partOf_3 rfl (lv_at hl 1 rfl) ?_
  refine lv_lstore (lv' := [(7, .long a1), (5, .long a2), (0, .long a1), (2, .long a2), (4, .int a3)]) hx hb dX11_partOf_4 hl (by decide) rfl (fun ls hl => ?_)
  refine lv_iconst (v := 0) hx hb dX11_partOf_6 (by decide) ?_
  refine lv_istore (lv' := [(9, .int (0 : Int32)), (7, .long a1), (5, .long a2), (0, .long a1), (2, .long a2), (4, .int a3)]) hx hb dX11_partOf_7 hl (by decide) rfl (fun ls hl => ?_)
  exact w_X11_partOf_9 C 1024 _ _ _ _ _ _ _ _ _ _ _ hσ0 hρ0 hL hF hP hS (lv_sub hl [3, 4, 5, 2, 1, 0] rfl)
set_option maxHeartbeats 4000000 in
set_option maxRecDepth 100000 in
theorem c_X11_partOf {a1 : Int64} {a2 : Int64} {a3 : Int32} {r : Int64} {σ : SG} {ρ : RG} (hL : Lay N K len ρ) (hF : F_X11_partOf a1 a2 a3 σ ρ = some r) : MT l Y D N ad K len yX11_partOf (Cond.code yX11_partOf cX11_partOf 12 (some .long) :: wsL_law) rm_X11_partOf [.long a1, .long a2, .int a3] σ ρ (some (.long r)) σ ρ := by
  refine mt_of (cc := cX11_partOf) (nL := 12) (ret := (some .long)) (by decide) (Nat.le_of_ble_eq_true rfl) ?_
  intro p e s m args below meth c ls C hnm hP hS hl
  exact w_X11_partOf_0 C rfl rfl hL hF hP hS hl

/-! CutCrooked.public long mean(int);  -/
theorem dX11_mean_0 : decode cX11_mean 0 = .ok (.iload_n 1, 1) := by decide +kernel
theorem dX11_mean_1 : decode cX11_mean 1 = .ok (.iconst 0, 1) := by decide +kernel
theorem dX11_mean_2 : decode cX11_mean 2 = .ok (.iconst 1, 1) := by decide +kernel
theorem dX11_mean_3 : decode cX11_mean 3 = .ok (.invokestatic 56, 3) := by decide +kernel
theorem dX11_mean_6 : decode cX11_mean 6 = .ok (.ifCond .eq 13, 3) := by decide +kernel
theorem dX11_mean_9 : decode cX11_mean 9 = .ok (.aload_n 0, 1) := by decide +kernel
theorem dX11_mean_10 : decode cX11_mean 10 = .ok (.getfield 12, 3) := by decide +kernel
theorem dX11_mean_13 : decode cX11_mean 13 = .ok (.getfield 89, 3) := by decide +kernel
theorem dX11_mean_16 : decode cX11_mean 16 = .ok (.ifCond .ne 7, 3) := by decide +kernel
theorem dX11_mean_19 : decode cX11_mean 19 = .ok (.ldc2_w 251, 3) := by decide +kernel
theorem dX11_mean_22 : decode cX11_mean 22 = .ok (.lreturn, 1) := by decide +kernel
theorem dX11_mean_23 : decode cX11_mean 23 = .ok (.lconst 0, 1) := by decide +kernel
theorem dX11_mean_24 : decode cX11_mean 24 = .ok (.lstore_n 2, 1) := by decide +kernel
theorem dX11_mean_25 : decode cX11_mean 25 = .ok (.aload_n 0, 1) := by decide +kernel
theorem dX11_mean_26 : decode cX11_mean 26 = .ok (.invokevirtual 176, 3) := by decide +kernel
theorem dX11_mean_29 : decode cX11_mean 29 = .ok (.iconst 0, 1) := by decide +kernel
theorem dX11_mean_30 : decode cX11_mean 30 = .ok (.istore 4, 2) := by decide +kernel
theorem dX11_mean_32 : decode cX11_mean 32 = .ok (.iload 4, 2) := by decide +kernel
theorem dX11_mean_34 : decode cX11_mean 34 = .ok (.aload_n 0, 1) := by decide +kernel
theorem dX11_mean_35 : decode cX11_mean 35 = .ok (.getfield 12, 3) := by decide +kernel
theorem dX11_mean_38 : decode cX11_mean 38 = .ok (.getfield 89, 3) := by decide +kernel
theorem dX11_mean_41 : decode cX11_mean 41 = .ok (.if_icmp .ge 40, 3) := by decide +kernel
theorem dX11_mean_44 : decode cX11_mean 44 = .ok (.aload_n 0, 1) := by decide +kernel
theorem dX11_mean_45 : decode cX11_mean 45 = .ok (.iconst 0, 1) := by decide +kernel
theorem dX11_mean_46 : decode cX11_mean 46 = .ok (.aload_n 0, 1) := by decide +kernel
theorem dX11_mean_47 : decode cX11_mean 47 = .ok (.getfield 12, 3) := by decide +kernel
theorem dX11_mean_50 : decode cX11_mean 50 = .ok (.iload 4, 2) := by decide +kernel
theorem dX11_mean_52 : decode cX11_mean 52 = .ok (.invokevirtual 100, 3) := by decide +kernel
theorem dX11_mean_55 : decode cX11_mean 55 = .ok (.iconst 0, 1) := by decide +kernel
theorem dX11_mean_56 : decode cX11_mean 56 = .ok (.invokevirtual 179, 3) := by decide +kernel
theorem dX11_mean_59 : decode cX11_mean 59 = .ok (.ifCond .eq 16, 3) := by decide +kernel
theorem dX11_mean_62 : decode cX11_mean 62 = .ok (.lload_n 2, 1) := by decide +kernel
theorem dX11_mean_63 : decode cX11_mean 63 = .ok (.aload_n 0, 1) := by decide +kernel
theorem dX11_mean_64 : decode cX11_mean 64 = .ok (.getfield 37, 3) := by decide +kernel
theorem dX11_mean_67 : decode cX11_mean 67 = .ok (.iconst 1, 1) := by decide +kernel
theorem dX11_mean_68 : decode cX11_mean 68 = .ok (.aaload, 1) := by decide +kernel
theorem dX11_mean_69 : decode cX11_mean 69 = .ok (.getfield 167, 3) := by decide +kernel
theorem dX11_mean_72 : decode cX11_mean 72 = .ok (.i2l, 1) := by decide +kernel
theorem dX11_mean_73 : decode cX11_mean 73 = .ok (.ladd, 1) := by decide +kernel
theorem dX11_mean_74 : decode cX11_mean 74 = .ok (.lstore_n 2, 1) := by decide +kernel
theorem dX11_mean_75 : decode cX11_mean 75 = .ok (.iinc 4 1, 3) := by decide +kernel
theorem dX11_mean_78 : decode cX11_mean 78 = .ok (.goto (-46), 3) := by decide +kernel
theorem dX11_mean_81 : decode cX11_mean 81 = .ok (.lload_n 2, 1) := by decide +kernel
theorem dX11_mean_82 : decode cX11_mean 82 = .ok (.aload_n 0, 1) := by decide +kernel
theorem dX11_mean_83 : decode cX11_mean 83 = .ok (.getfield 12, 3) := by decide +kernel
theorem dX11_mean_86 : decode cX11_mean 86 = .ok (.getfield 89, 3) := by decide +kernel
theorem dX11_mean_89 : decode cX11_mean 89 = .ok (.i2l, 1) := by decide +kernel
theorem dX11_mean_90 : decode cX11_mean 90 = .ok (.iload_n 1, 1) := by decide +kernel
theorem dX11_mean_91 : decode cX11_mean 91 = .ok (.invokestatic 257, 3) := by decide +kernel
theorem dX11_mean_94 : decode cX11_mean 94 = .ok (.lreturn, 1) := by decide +kernel
theorem hd_X11_mean : yX11_mean.cls = RX11 ∧ yX11_mean.cls ≠ "java/lang/invoke/MethodHandle" ∧ yX11_mean.cls ≠ "java/lang/invoke/VarHandle" ∧ (parseMethodDescriptor yX11_mean.desc).map (fun d => d.parameters.length) = some 1 := by decide +kernel
abbrev rm_X11_mean : Room := { frames := 6, cells := 0, slots := 0, locals := 152 }
def F_X11_mean_75 (N : Nat) (K len : Nat → Nat) (a1 : Int32) (rec_32 : SG → RG → Int32 → Int64 → Int32 → Option (Int64 × SG)) (σ : SG) (ρ : RG) (v1 : Int32) (v2 : Int64) (v4 : Int32) : Option (Int64 × SG) :=
  nm (v4 + (1 : Int32)) fun x11 =>
  rec_32 σ ρ v1 v2 x11
def F_X11_mean_32 (N : Nat) (K len : Nat → Nat) (a1 : Int32) : Nat → SG → RG → Int32 → Int64 → Int32 → Option (Int64 × SG)
  | 0 => fun _ _ _ _ _ => none
  | n + 1 => fun σ ρ v1 v2 v4 =>
  if (σ 1 1) ≤ v4 then
    bn (F_X11_partOf v2 ((σ 1 1)).toInt64 v1 σ ρ) fun r6 =>
    some (r6, σ)
  else
    bn (F_X8_cutterAt_1 v4 σ ρ) fun o7 =>
    oc o7
     (
      bn (F_X11_tryStep_n (0 : Int32) (0 : Int32) σ ρ) fun r9 =>
      if r9 = 0 then
        F_X11_mean_75 N K len a1 (F_X11_mean_32 N K len a1 n) σ ρ v1 v2 v4
      else
        nm (v2 + ((σ 42 6)).toInt64) fun x12 =>
        F_X11_mean_75 N K len a1 (F_X11_mean_32 N K len a1 n) σ ρ v1 x12 v4)
     (fun c8 =>
      gd (isC N K c8) <|
      bn2 (F_X11_tryStep N K len (0 : Int32) c8 (0 : Int32) σ ρ) fun r13 σ13 =>
      if r13 = 0 then
        F_X11_mean_75 N K len a1 (F_X11_mean_32 N K len a1 n) σ13 ρ v1 v2 v4
      else
        nm (v2 + ((σ13 42 6)).toInt64) fun x15 =>
        F_X11_mean_75 N K len a1 (F_X11_mean_32 N K len a1 n) σ13 ρ v1 x15 v4)
def F_X11_mean (N : Nat) (K len : Nat → Nat) (a1 : Int32) (σ : SG) (ρ : RG) : Option (Int64 × SG) :=
  bn (F_X11_isWithin a1 (0 : Int32) (1 : Int32) σ ρ) fun r1 =>
  if r1 = 0 then
    some ((-9223372036854775808 : Int64), σ)
  else
    if (σ 1 1) = 0 then
      some ((-9223372036854775808 : Int64), σ)
    else
      bn (F_X11_startSteps σ ρ) fun σ4 =>
      F_X11_mean_32 N K len a1 1024 σ4 ρ a1 (0 : Int64) (0 : Int32)
set_option maxHeartbeats 4000000 in
set_option maxRecDepth 100000 in
theorem w_X11_mean_75 {N : Nat} {K len : Nat → Nat} {a1 : Int32} {rec_32 : SG → RG → Int32 → Int64 → Int32 → Option (Int64 × SG)} {p : Program} {e : Env} {s : State} {m : MethodId} {args : Array Value} {below : List Frame} {meth : Method} {c : Code} {ρ0 : RG} {r : Int64} {σ1 : SG} (C : Cx Y D N ad p s m args meth c cX11_mean 5 (some .long) RX11 wsL_law) (hrec_32 : ∀ (σ : SG) (ρ : RG) (v1 : Int32) (v2 : Int64) (v4 : Int32) (H : Heap) (locs : List Loc) (ls : Array Slot), ρ = ρ0 → Lay N K len ρ → rec_32 σ ρ v1 v2 v4 = some (r, σ1) → WP Y D N ad K len σ ρ H → va_S (AA N ad s.heap.size) s.heap H locs → lv_has ls 5 [(0, .ref (ad 0)), (1, .int v1), (2, .long v2), (4, .int v4)] → W p l e rm_X11_mean s m args below meth c H locs 0 0 (MQ below (QW Y D N ad K len σ1 ρ0 (AA N ad s.heap.size) (some (.long r))) args s 0 0 (AA N ad s.heap.size)) (F0 m 32 ls [])) {σ : SG} {ρ : RG} {v1 : Int32} {v2 : Int64} {v4 : Int32} {H : Heap} {locs : List Loc} {ls : Array Slot} (hρ0 : ρ = ρ0) (hL : Lay N K len ρ) (hF : F_X11_mean_75 N K len a1 rec_32 σ ρ v1 v2 v4 = some (r, σ1)) (hP : WP Y D N ad K len σ ρ H) (hS : va_S (AA N ad s.heap.size) s.heap H locs) (hl : lv_has ls 5 [(0, .ref (ad 0)), (1, .int v1), (2, .long v2), (4, .int v4)]) : W p l e rm_X11_mean s m args below meth c H locs 0 0 (MQ below (QW Y D N ad K len σ1 ρ0 (AA N ad s.heap.size) (some (.long r))) args s 0 0 (AA N ad s.heap.size)) (F0 m 75 ls []) := by
  have hx := C.1.1
  have hb := C.1.2.1
  unfold F_X11_mean_75 at hF
  obtain ⟨x11, ex11, hF⟩ := nm_1 hF
  refine lv_iinc (v := x11) (lv' := [(4, .int x11), (0, .ref (ad 0)), (1, .int v1), (2, .long v2)]) hx hb dX11_mean_75 hl (k := 3) rfl (by rw [ex11]; first | rfl | decide) (by decide) rfl (fun ls hl => ?_)
  refine lv_goto (tgt := 32) hx hb dX11_mean_78 (by decide) ?_
  exact hrec_32 _ _ _ _ _ _ _ _ hρ0 hL hF hP hS (lv_sub hl [1, 2, 3, 0] rfl)
set_option maxHeartbeats 4000000 in
set_option maxRecDepth 100000 in
theorem w_X11_mean_32 {N : Nat} {K len : Nat → Nat} {a1 : Int32} {p : Program} {e : Env} {s : State} {m : MethodId} {args : Array Value} {below : List Frame} {meth : Method} {c : Code} {ρ0 : RG} {r : Int64} {σ1 : SG} (C : Cx Y D N ad p s m args meth c cX11_mean 5 (some .long) RX11 wsL_law) : ∀ (n : Nat) (σ : SG) (ρ : RG) (v1 : Int32) (v2 : Int64) (v4 : Int32) (H : Heap) (locs : List Loc) (ls : Array Slot), ρ = ρ0 → Lay N K len ρ → F_X11_mean_32 N K len a1 n σ ρ v1 v2 v4 = some (r, σ1) → WP Y D N ad K len σ ρ H → va_S (AA N ad s.heap.size) s.heap H locs → lv_has ls 5 [(0, .ref (ad 0)), (1, .int v1), (2, .long v2), (4, .int v4)] → W p l e rm_X11_mean s m args below meth c H locs 0 0 (MQ below (QW Y D N ad K len σ1 ρ0 (AA N ad s.heap.size) (some (.long r))) args s 0 0 (AA N ad s.heap.size)) (F0 m 32 ls []) := by
  have hx := C.1.1
  have hb := C.1.2.1
  intro n
  induction n with
  | zero => intro σ ρ v1 v2 v4 H locs ls hρ0 hL hF; cases hF
  | succ n ih =>
    intro σ ρ v1 v2 v4 H locs ls hρ0 hL hF hP hS hl
    unfold F_X11_mean_32 at hF
    refine lv_iload hx hb dX11_mean_32 (lv_at hl 3 rfl) ?_
    refine lv_aload_n hx hb dX11_mean_34 rfl (lv_at hl 0 rfl) ?_
    refine get_11_0 C hP (lr_0 hL) (lk_0 hL) inlX11 mw_15 (lf_0_0 hL) dX11_mean_35 ?_
    refine get_8_1 C hP (lr_1 hL) (lk_1 hL) inlX8 mw_352 dX11_mean_38 ?_
    refine lv_icmp_ge (tgt := 81) hx hb dX11_mean_41 (by decide) (fun c_5 => ?_) (fun c_5 => ?_) -- COND 5 by_cases c_5 : (σ 1 1) ≤ v4
    · have hF := ite_t hF c_5
      refine lv_lload_n hx hb dX11_mean_81 rfl (lv_at hl 2 rfl) ?_
      refine lv_aload_n hx hb dX11_mean_82 rfl (lv_at hl 0 rfl) ?_
      refine get_11_0 C hP (lr_0 hL) (lk_0 hL) inlX11 mw_15 (lf_0_0 hL) dX11_mean_83 ?_
      refine get_8_1 C hP (lr_1 hL) (lk_1 hL) inlX8 mw_352 dX11_mean_86 ?_
      refine lv_i2l (v := ((σ 1 1)).toInt64) hx hb dX11_mean_89 rfl ?_
      refine lv_iload_n hx hb dX11_mean_90 rfl (lv_at hl 1 rfl) ?_
      obtain ⟨r6, hq6, hF⟩ := bn_1 hF
      refine x_callS C hP hS (c_X11_partOf hL hq6) (va_cwS 3 C.1.2.2.2.2 (gdS mw_960 mw_961 mw_2 mw_962) rfl rfl rfl hd_X11_partOf.2 ⟨Nat.le_of_ble_eq_true rfl, Nat.le_of_ble_eq_true rfl⟩) rfl rfl hl.1 (Nat.le_of_ble_eq_true rfl) ⟨Nat.zero_le _, Nat.zero_le _⟩ dX11_mean_91 (fun H locs hP hS => ?_)
      obtain ⟨rfl, rfl⟩ := ret_2 hF
      subst hρ0
      exact x_lret rfl C hP hS dX11_mean_94
    · have hF := ite_f hF c_5
      refine lv_aload_n hx hb dX11_mean_44 rfl (lv_at hl 0 rfl) ?_
      refine lv_iconst (v := 0) hx hb dX11_mean_45 (by decide) ?_
      refine lv_aload_n hx hb dX11_mean_46 rfl (lv_at hl 0 rfl) ?_
      refine get_11_0 C hP (lr_0 hL) (lk_0 hL) inlX11 mw_15 (lf_0_0 hL) dX11_mean_47 ?_
      refine lv_iload hx hb dX11_mean_50 (lv_at hl 3 rfl) ?_
      obtain ⟨o7, hq7, hF⟩ := bn_1 hF
      refine x_callV (ci := 8) rfl rfl C hP hS (c_X8_cutterAt_1 hL hq7) (lr_1 hL) (lk_1 hL) (cwV 1 C.1.2.2.2.2 (gdV mw_428 mw_429 mw_430 mw_14 mw_431) rfl rfl rfl hd_X8_cutterAt ⟨Nat.le_of_ble_eq_true rfl, Nat.le_of_ble_eq_true rfl⟩) rfl rfl hl.1 (Nat.le_of_ble_eq_true rfl) ⟨Nat.zero_le _, Nat.zero_le _⟩ dX11_mean_52 (fun H locs hP hS => ?_)
      rcases ho8 : o7 with _ | c8
      · have hF := oc_n hF ho8
        refine x_n ?_
        refine lv_iconst (v := 0) hx hb dX11_mean_55 (by decide) ?_
        obtain ⟨r9, hq9, hF⟩ := bn_1 hF
        refine x_callV (ci := 11) rfl rfl C hP hS (c_X11_tryStep_n hL hq9) (lr_0 hL) (lk_0 hL) (cwV 3 C.1.2.2.2.2 (gdV mw_724 mw_725 mw_726 mw_2 mw_727) rfl rfl rfl hd_X11_tryStep ⟨Nat.le_of_ble_eq_true rfl, Nat.le_of_ble_eq_true rfl⟩) rfl rfl hl.1 (Nat.le_of_ble_eq_true rfl) ⟨Nat.zero_le _, Nat.zero_le _⟩ dX11_mean_56 (fun H locs hP hS => ?_)
        refine lv_if_eq (tgt := 75) hx hb dX11_mean_59 (by decide) (fun c_10 => ?_) (fun c_10 => ?_) -- COND 10 by_cases c_10 : r9 = 0
        · have hF := ite_t hF c_10
          exact w_X11_mean_75 C ih hρ0 hL hF hP hS (lv_sub hl [0, 1, 2, 3] rfl)
        · have hF := ite_f hF c_10
          refine lv_lload_n hx hb dX11_mean_62 rfl (lv_at hl 2 rfl) ?_
          refine lv_aload_n hx hb dX11_mean_63 rfl (lv_at hl 0 rfl) ?_
          refine get_11_5 C hP (lr_0 hL) (lk_0 hL) inlX11 mw_26 (lf_0_5 hL) dX11_mean_64 ?_
          refine lv_iconst (v := 1) hx hb dX11_mean_67 (by decide) ?_
          refine x_aald (v := .ref (ad 42)) C hP (lr_34 hL) (lk_34 hL) (Or.inr ⟨rfl, rfl, rfl⟩) (ln_34 hL) (by decide +kernel) (by rw [cl_1, (lf_34_1 hL)]; rfl) dX11_mean_68 ?_
          refine get_3_6 C hP (lr_42 hL) (lk_42 hL) inlX3 mw_528 dX11_mean_69 ?_
          refine lv_i2l (v := ((σ 42 6)).toInt64) hx hb dX11_mean_72 rfl ?_
          refine lv_ladd hx hb dX11_mean_73 ?_
          obtain ⟨x12, ex12, hF⟩ := nm_1 hF
          refine x_topl ex12 ?_
          refine lv_lstore_n (lv' := [(2, .long x12), (0, .ref (ad 0)), (1, .int v1), (4, .int v4)]) hx hb dX11_mean_74 rfl hl (by decide) rfl (fun ls hl => ?_)
          exact w_X11_mean_75 C ih hρ0 hL hF hP hS (lv_sub hl [1, 2, 0, 3] rfl)
      · have hF := oc_s hF ho8
        refine x_s ?_
        obtain ⟨gc8, hF⟩ := gd_1 hF
        refine lv_iconst (v := 0) hx hb dX11_mean_55 (by decide) ?_
        obtain ⟨r13, σ13, hq13, hF⟩ := bn2_1 hF
        refine x_callV (ci := 11) rfl rfl C hP hS (c_X11_tryStep hL gc8 hq13) (lr_0 hL) (lk_0 hL) (cwV 3 C.1.2.2.2.2 (gdV mw_724 mw_725 mw_726 mw_2 mw_727) rfl rfl rfl hd_X11_tryStep ⟨Nat.le_of_ble_eq_true rfl, Nat.le_of_ble_eq_true rfl⟩) rfl rfl hl.1 (Nat.le_of_ble_eq_true rfl) ⟨Nat.zero_le _, Nat.zero_le _⟩ dX11_mean_56 (fun H locs hP hS => ?_)
        refine lv_if_eq (tgt := 75) hx hb dX11_mean_59 (by decide) (fun c_14 => ?_) (fun c_14 => ?_) -- COND 14 by_cases c_14 : r13 = 0
        · have hF := ite_t hF c_14
          exact w_X11_mean_75 C ih hρ0 hL hF hP hS (lv_sub hl [0, 1, 2, 3] rfl)
        · have hF := ite_f hF c_14
          refine lv_lload_n hx hb dX11_mean_62 rfl (lv_at hl 2 rfl) ?_
          refine lv_aload_n hx hb dX11_mean_63 rfl (lv_at hl 0 rfl) ?_
          refine get_11_5 C hP (lr_0 hL) (lk_0 hL) inlX11 mw_26 (lf_0_5 hL) dX11_mean_64 ?_
          refine lv_iconst (v := 1) hx hb dX11_mean_67 (by decide) ?_
          refine x_aald (v := .ref (ad 42)) C hP (lr_34 hL) (lk_34 hL) (Or.inr ⟨rfl, rfl, rfl⟩) (ln_34 hL) (by decide +kernel) (by rw [cl_1, (lf_34_1 hL)]; rfl) dX11_mean_68 ?_
          refine get_3_6 C hP (lr_42 hL) (lk_42 hL) inlX3 mw_528 dX11_mean_69 ?_
          refine lv_i2l (v := ((σ13 42 6)).toInt64) hx hb dX11_mean_72 rfl ?_
          refine lv_ladd hx hb dX11_mean_73 ?_
          obtain ⟨x15, ex15, hF⟩ := nm_1 hF
          refine x_topl ex15 ?_
          refine lv_lstore_n (lv' := [(2, .long x15), (0, .ref (ad 0)), (1, .int v1), (4, .int v4)]) hx hb dX11_mean_74 rfl hl (by decide) rfl (fun ls hl => ?_)
          exact w_X11_mean_75 C ih hρ0 hL hF hP hS (lv_sub hl [1, 2, 0, 3] rfl)
set_option maxHeartbeats 4000000 in
set_option maxRecDepth 100000 in
theorem w_X11_mean_0 {N : Nat} {K len : Nat → Nat} {a1 : Int32} {p : Program} {e : Env} {s : State} {m : MethodId} {args : Array Value} {below : List Frame} {meth : Method} {c : Code} {ρ0 : RG} {r : Int64} {σ1 : SG} (C : Cx Y D N ad p s m args meth c cX11_mean 5 (some .long) RX11 wsL_law) {σ : SG} {ρ : RG} {H : Heap} {locs : List Loc} {ls : Array Slot} (hρ0 : ρ = ρ0) (hL : Lay N K len ρ) (hF : F_X11_mean N K len a1 σ ρ = some (r, σ1)) (hP : WP Y D N ad K len σ ρ H) (hS : va_S (AA N ad s.heap.size) s.heap H locs) (hl : lv_has ls 5 [(0, .ref (ad 0)), (1, .int a1)]) : W p l e rm_X11_mean s m args below meth c H locs 0 0 (MQ below (QW Y D N ad K len σ1 ρ0 (AA N ad s.heap.size) (some (.long r))) args s 0 0 (AA N ad s.heap.size)) (F0 m 0 ls []) := by
  have hx := C.1.1
  have hb := C.1.2.1
  unfold F_X11_mean at hF
  refine lv_iload_n hx hb dX11_mean_0 rfl (lv_at hl 1 rfl) ?_
  refine lv_iconst (v := 0) hx hb dX11_mean_1 (by decide) ?_
  refine lv_iconst (v := 1) hx hb dX11_mean_2 (by decide) ?_
  obtain ⟨r1, hq1, hF⟩ := bn_1 hF
  refine x_callS C hP hS (c_X11_isWithin hL hq1) (va_cwS 3 C.1.2.2.2.2 (gdS mw_97 mw_98 mw_2 mw_99) rfl rfl rfl hd_X11_isWithin.2 ⟨Nat.le_of_ble_eq_true rfl, Nat.le_of_ble_eq_true rfl⟩) rfl rfl hl.1 (Nat.le_of_ble_eq_true rfl) ⟨Nat.zero_le _, Nat.zero_le _⟩ dX11_mean_3 (fun H locs hP hS => ?_)
  refine lv_if_eq (tgt := 19) hx hb dX11_mean_6 (by decide) (fun c_2 => ?_) (fun c_2 => ?_) -- COND 2 by_cases c_2 : r1 = 0
  · have hF := ite_t hF c_2
    refine lv_ldc2 hx hb (C.1.2.2.2.1) (C.1.2.2.2.2 _ mw_955) dX11_mean_19 ?_
    obtain ⟨rfl, rfl⟩ := ret_2 hF
    subst hρ0
    exact x_lret rfl C hP hS dX11_mean_22
  · have hF := ite_f hF c_2
    refine lv_aload_n hx hb dX11_mean_9 rfl (lv_at hl 0 rfl) ?_
    refine get_11_0 C hP (lr_0 hL) (lk_0 hL) inlX11 mw_15 (lf_0_0 hL) dX11_mean_10 ?_
    refine get_8_1 C hP (lr_1 hL) (lk_1 hL) inlX8 mw_352 dX11_mean_13 ?_
    refine lv_if_ne (tgt := 23) hx hb dX11_mean_16 (by decide) (fun c_3 => ?_) (fun c_3 => ?_) -- COND 3 rcases (Decidable.em ((σ 1 1) = 0)).symm with c_3 | c_3
    · have hF := ite_f hF c_3
      refine lv_lconst (v := 0) hx hb dX11_mean_23 (by decide +kernel) ?_
      refine lv_lstore_n (lv' := [(2, .long (0 : Int64)), (0, .ref (ad 0)), (1, .int a1)]) hx hb dX11_mean_24 rfl hl (by decide) rfl (fun ls hl => ?_)
      refine lv_aload_n hx hb dX11_mean_25 rfl (lv_at hl 1 rfl) ?_
      obtain ⟨σ4, hq4, hF⟩ := bn_1 hF
      refine x_callV (ci := 11) rfl rfl C hP hS (c_X11_startSteps hL hq4) (lr_0 hL) (lk_0 hL) (cwV 0 C.1.2.2.2.2 (gdV mw_713 mw_714 mw_715 mw_2 mw_716) rfl rfl rfl hd_X11_startSteps ⟨Nat.le_of_ble_eq_true rfl, Nat.le_of_ble_eq_true rfl⟩) rfl rfl hl.1 (Nat.le_of_ble_eq_true rfl) ⟨Nat.zero_le _, Nat.zero_le _⟩ dX11_mean_26 (fun H locs hP hS => ?_)
      refine lv_iconst (v := 0) hx hb dX11_mean_29 (by decide) ?_
      refine lv_istore (lv' := [(4, .int (0 : Int32)), (2, .long (0 : Int64)), (0, .ref (ad 0)), (1, .int a1)]) hx hb dX11_mean_30 hl (by decide) rfl (fun ls hl => ?_)
      exact w_X11_mean_32 C 1024 _ _ _ _ _ _ _ _ hρ0 hL hF hP hS (lv_sub hl [2, 3, 1, 0] rfl)
    · have hF := ite_t hF c_3
      refine lv_ldc2 hx hb (C.1.2.2.2.1) (C.1.2.2.2.2 _ mw_955) dX11_mean_19 ?_
      obtain ⟨rfl, rfl⟩ := ret_2 hF
      subst hρ0
      exact x_lret rfl C hP hS dX11_mean_22
set_option maxHeartbeats 4000000 in
set_option maxRecDepth 100000 in
theorem c_X11_mean {N : Nat} {K len : Nat → Nat} {a1 : Int32} {r : Int64} {σ1 : SG} {σ : SG} {ρ : RG} (hL : Lay N K len ρ) (hF : F_X11_mean N K len a1 σ ρ = some (r, σ1)) : MT l Y D N ad K len yX11_mean (Cond.code yX11_mean cX11_mean 5 (some .long) :: wsL_law) rm_X11_mean [.ref (ad 0), .int a1] σ ρ (some (.long r)) σ1 ρ := by
  refine mt_of (cc := cX11_mean) (nL := 5) (ret := (some .long)) (by decide) (Nat.le_of_ble_eq_true rfl) ?_
  intro p e s m args below meth c ls C hnm hP hS hl
  exact w_X11_mean_0 C rfl hL hF hP hS hl

/-! CutCrooked.private static boolean isOfKind(CutCrooked$Cutter, int);  -/
theorem dX11_isOfKind_0 : decode cX11_isOfKind 0 = .ok (.iload_n 1, 1) := by decide +kernel
theorem dX11_isOfKind_1 : decode cX11_isOfKind 1 = .ok (.tableswitch 75 0 6 #[43, 45, 50, 55, 60, 65, 70], 43) := by decide +kernel
theorem dX11_isOfKind_44 : decode cX11_isOfKind 44 = .ok (.iconst 1, 1) := by decide +kernel
theorem dX11_isOfKind_45 : decode cX11_isOfKind 45 = .ok (.ireturn, 1) := by decide +kernel
theorem dX11_isOfKind_46 : decode cX11_isOfKind 46 = .ok (.aload_n 0, 1) := by decide +kernel
theorem dX11_isOfKind_47 : decode cX11_isOfKind 47 = .ok (.instanceof 296, 3) := by decide +kernel
theorem dX11_isOfKind_50 : decode cX11_isOfKind 50 = .ok (.ireturn, 1) := by decide +kernel
theorem dX11_isOfKind_51 : decode cX11_isOfKind 51 = .ok (.aload_n 0, 1) := by decide +kernel
theorem dX11_isOfKind_52 : decode cX11_isOfKind 52 = .ok (.instanceof 301, 3) := by decide +kernel
theorem dX11_isOfKind_55 : decode cX11_isOfKind 55 = .ok (.ireturn, 1) := by decide +kernel
theorem dX11_isOfKind_56 : decode cX11_isOfKind 56 = .ok (.aload_n 0, 1) := by decide +kernel
theorem dX11_isOfKind_57 : decode cX11_isOfKind 57 = .ok (.instanceof 304, 3) := by decide +kernel
theorem dX11_isOfKind_60 : decode cX11_isOfKind 60 = .ok (.ireturn, 1) := by decide +kernel
theorem dX11_isOfKind_61 : decode cX11_isOfKind 61 = .ok (.aload_n 0, 1) := by decide +kernel
theorem dX11_isOfKind_62 : decode cX11_isOfKind 62 = .ok (.instanceof 307, 3) := by decide +kernel
theorem dX11_isOfKind_65 : decode cX11_isOfKind 65 = .ok (.ireturn, 1) := by decide +kernel
theorem dX11_isOfKind_66 : decode cX11_isOfKind 66 = .ok (.aload_n 0, 1) := by decide +kernel
theorem dX11_isOfKind_67 : decode cX11_isOfKind 67 = .ok (.instanceof 310, 3) := by decide +kernel
theorem dX11_isOfKind_70 : decode cX11_isOfKind 70 = .ok (.ireturn, 1) := by decide +kernel
theorem dX11_isOfKind_71 : decode cX11_isOfKind 71 = .ok (.aload_n 0, 1) := by decide +kernel
theorem dX11_isOfKind_72 : decode cX11_isOfKind 72 = .ok (.instanceof 125, 3) := by decide +kernel
theorem dX11_isOfKind_75 : decode cX11_isOfKind 75 = .ok (.ireturn, 1) := by decide +kernel
theorem dX11_isOfKind_76 : decode cX11_isOfKind 76 = .ok (.iconst 0, 1) := by decide +kernel
theorem dX11_isOfKind_77 : decode cX11_isOfKind 77 = .ok (.ireturn, 1) := by decide +kernel
theorem hd_X11_isOfKind : yX11_isOfKind.cls = RX11 ∧ yX11_isOfKind.cls ≠ "java/lang/invoke/MethodHandle" ∧ yX11_isOfKind.cls ≠ "java/lang/invoke/VarHandle" ∧ (parseMethodDescriptor yX11_isOfKind.desc).map (fun d => d.parameters.length) = some 2 := by decide +kernel
abbrev rm_X11_isOfKind : Room := { frames := 0, cells := 0, slots := 0, locals := 0 }
def F_X11_isOfKind (N : Nat) (K len : Nat → Nat) (z : Nat) (a2 : Int32) (σ : SG) (ρ : RG) : Option (Int32) :=
  if a2 = 0 then
    some (1 : Int32)
  else
    if a2 = 1 then
      gd (isb (io7 (K z))) <|
      some (io7 (K z))
    else
      if a2 = 2 then
        gd (isb (io6 (K z))) <|
        some (io6 (K z))
      else
        if a2 = 3 then
          gd (isb (io2 (K z))) <|
          some (io2 (K z))
        else
          if a2 = 4 then
            gd (isb (io5 (K z))) <|
            some (io5 (K z))
          else
            if a2 = 5 then
              gd (isb (io4 (K z))) <|
              some (io4 (K z))
            else
              if a2 = 6 then
                gd (isb (io9 (K z))) <|
                some (io9 (K z))
              else
                some (0 : Int32)
set_option maxHeartbeats 4000000 in
set_option maxRecDepth 100000 in
theorem w_X11_isOfKind_0 {N : Nat} {K len : Nat → Nat} {z : Nat} {a2 : Int32} {p : Program} {e : Env} {s : State} {m : MethodId} {args : Array Value} {below : List Frame} {meth : Method} {c : Code} {σ0 : SG} {ρ0 : RG} {r : Int32} (C : Cx Y D N ad p s m args meth c cX11_isOfKind 2 (some .boolean) RX11 wsL_law) {σ : SG} {ρ : RG} {H : Heap} {locs : List Loc} {ls : Array Slot} (hσ0 : σ = σ0) (hρ0 : ρ = ρ0) (hL : Lay N K len ρ) (hz : isC N K z = true) (hF : F_X11_isOfKind N K len z a2 σ ρ = some r) (hP : WP Y D N ad K len σ ρ H) (hS : va_S (AA N ad s.heap.size) s.heap H locs) (hl : lv_has ls 2 [(0, .ref (ad z)), (1, .int a2)]) : W p l e rm_X11_isOfKind s m args below meth c H locs 0 0 (MQ below (QW Y D N ad K len σ0 ρ0 (AA N ad s.heap.size) (some (.int r))) args s 0 0 (AA N ad s.heap.size)) (F0 m 0 ls []) := by
  have hx := C.1.1
  have hb := C.1.2.1
  unfold F_X11_isOfKind at hF
  refine lv_iload_n hx hb dX11_isOfKind_0 rfl (lv_at hl 1 rfl) ?_
  by_cases cs1_0 : a2 = 0
  · have hF := ite_t hF cs1_0
    refine lv_tableIn (tgt := 44) hx hb dX11_isOfKind_1 (by rw [cs1_0]; decide) (by rw [cs1_0]; decide) (by rw [cs1_0]; rfl) (by decide) ?_
    refine lv_iconst (v := 1) hx hb dX11_isOfKind_44 (by decide) ?_
    obtain rfl := ret_1 hF
    subst hσ0
    subst hρ0
    exact x_zret rfl rfl C hP hS dX11_isOfKind_45
  · have hF := ite_f hF cs1_0
    by_cases cs1_1 : a2 = 1
    · have hF := ite_t hF cs1_1
      refine lv_tableIn (tgt := 46) hx hb dX11_isOfKind_1 (by rw [cs1_1]; decide) (by rw [cs1_1]; decide) (by rw [cs1_1]; rfl) (by decide) ?_
      refine lv_aload_n hx hb dX11_isOfKind_46 rfl (lv_at hl 0 rfl) ?_
      refine x_inst7 C hP hz mw_360 dX11_isOfKind_47 ?_
      obtain ⟨gr, hF⟩ := gd_1 hF
      obtain rfl := ret_1 hF
      subst hσ0
      subst hρ0
      exact x_zret rfl gr C hP hS dX11_isOfKind_50
    · have hF := ite_f hF cs1_1
      by_cases cs1_2 : a2 = 2
      · have hF := ite_t hF cs1_2
        refine lv_tableIn (tgt := 51) hx hb dX11_isOfKind_1 (by rw [cs1_2]; decide) (by rw [cs1_2]; decide) (by rw [cs1_2]; rfl) (by decide) ?_
        refine lv_aload_n hx hb dX11_isOfKind_51 rfl (lv_at hl 0 rfl) ?_
        refine x_inst6 C hP hz mw_363 dX11_isOfKind_52 ?_
        obtain ⟨gr, hF⟩ := gd_1 hF
        obtain rfl := ret_1 hF
        subst hσ0
        subst hρ0
        exact x_zret rfl gr C hP hS dX11_isOfKind_55
      · have hF := ite_f hF cs1_2
        by_cases cs1_3 : a2 = 3
        · have hF := ite_t hF cs1_3
          refine lv_tableIn (tgt := 56) hx hb dX11_isOfKind_1 (by rw [cs1_3]; decide) (by rw [cs1_3]; decide) (by rw [cs1_3]; rfl) (by decide) ?_
          refine lv_aload_n hx hb dX11_isOfKind_56 rfl (lv_at hl 0 rfl) ?_
          refine x_inst2 C hP hz mw_366 dX11_isOfKind_57 ?_
          obtain ⟨gr, hF⟩ := gd_1 hF
          obtain rfl := ret_1 hF
          subst hσ0
          subst hρ0
          exact x_zret rfl gr C hP hS dX11_isOfKind_60
        · have hF := ite_f hF cs1_3
          by_cases cs1_4 : a2 = 4
          · have hF := ite_t hF cs1_4
            refine lv_tableIn (tgt := 61) hx hb dX11_isOfKind_1 (by rw [cs1_4]; decide) (by rw [cs1_4]; decide) (by rw [cs1_4]; rfl) (by decide) ?_
            refine lv_aload_n hx hb dX11_isOfKind_61 rfl (lv_at hl 0 rfl) ?_
            refine x_inst5 C hP hz mw_369 dX11_isOfKind_62 ?_
            obtain ⟨gr, hF⟩ := gd_1 hF
            obtain rfl := ret_1 hF
            subst hσ0
            subst hρ0
            exact x_zret rfl gr C hP hS dX11_isOfKind_65
          · have hF := ite_f hF cs1_4
            by_cases cs1_5 : a2 = 5
            · have hF := ite_t hF cs1_5
              refine lv_tableIn (tgt := 66) hx hb dX11_isOfKind_1 (by rw [cs1_5]; decide) (by rw [cs1_5]; decide) (by rw [cs1_5]; rfl) (by decide) ?_
              refine lv_aload_n hx hb dX11_isOfKind_66 rfl (lv_at hl 0 rfl) ?_
              refine x_inst4 C hP hz mw_372 dX11_isOfKind_67 ?_
              obtain ⟨gr, hF⟩ := gd_1 hF
              obtain rfl := ret_1 hF
              subst hσ0
              subst hρ0
              exact x_zret rfl gr C hP hS dX11_isOfKind_70
            · have hF := ite_f hF cs1_5
              by_cases cs1_6 : a2 = 6
              · have hF := ite_t hF cs1_6
                refine lv_tableIn (tgt := 71) hx hb dX11_isOfKind_1 (by rw [cs1_6]; decide) (by rw [cs1_6]; decide) (by rw [cs1_6]; rfl) (by decide) ?_
                refine lv_aload_n hx hb dX11_isOfKind_71 rfl (lv_at hl 0 rfl) ?_
                refine x_inst9 C hP hz mw_375 dX11_isOfKind_72 ?_
                obtain ⟨gr, hF⟩ := gd_1 hF
                obtain rfl := ret_1 hF
                subst hσ0
                subst hρ0
                exact x_zret rfl gr C hP hS dX11_isOfKind_75
              · have hF := ite_f hF cs1_6
                refine lv_tableOut (tgt := 76) hx hb dX11_isOfKind_1 (by have q0 := ne_ti cs1_0 (by decide : (0 : Int32).toInt = 0); have q1 := ne_ti cs1_1 (by decide : (1 : Int32).toInt = 1); have q2 := ne_ti cs1_2 (by decide : (2 : Int32).toInt = 2); have q3 := ne_ti cs1_3 (by decide : (3 : Int32).toInt = 3); have q4 := ne_ti cs1_4 (by decide : (4 : Int32).toInt = 4); have q5 := ne_ti cs1_5 (by decide : (5 : Int32).toInt = 5); have q6 := ne_ti cs1_6 (by decide : (6 : Int32).toInt = 6); omega) (by decide) ?_
                refine lv_iconst (v := 0) hx hb dX11_isOfKind_76 (by decide) ?_
                obtain rfl := ret_1 hF
                subst hσ0
                subst hρ0
                exact x_zret rfl rfl C hP hS dX11_isOfKind_77
set_option maxHeartbeats 4000000 in
set_option maxRecDepth 100000 in
theorem c_X11_isOfKind {N : Nat} {K len : Nat → Nat} {z : Nat} {a2 : Int32} {r : Int32} {σ : SG} {ρ : RG} (hL : Lay N K len ρ) (hz : isC N K z = true) (hF : F_X11_isOfKind N K len z a2 σ ρ = some r) : MT l Y D N ad K len yX11_isOfKind (Cond.code yX11_isOfKind cX11_isOfKind 2 (some .boolean) :: wsL_law) rm_X11_isOfKind [.ref (ad z), .int a2] σ ρ (some (.int r)) σ ρ := by
  refine mt_of (cc := cX11_isOfKind) (nL := 2) (ret := (some .boolean)) (by decide) (Nat.le_of_ble_eq_true rfl) ?_
  intro p e s m args below meth c ls C hnm hP hS hl
  exact w_X11_isOfKind_0 C rfl rfl hL hz hF hP hS hl

/-! CutCrooked.public int as(int, int);  -/
theorem dX11_as_0 : decode cX11_as 0 = .ok (.aload_n 0, 1) := by decide +kernel
theorem dX11_as_1 : decode cX11_as 1 = .ok (.getfield 12, 3) := by decide +kernel
theorem dX11_as_4 : decode cX11_as 4 = .ok (.iload_n 1, 1) := by decide +kernel
theorem dX11_as_5 : decode cX11_as 5 = .ok (.invokevirtual 100, 3) := by decide +kernel
theorem dX11_as_8 : decode cX11_as 8 = .ok (.astore_n 3, 1) := by decide +kernel
theorem dX11_as_9 : decode cX11_as 9 = .ok (.aload_n 3, 1) := by decide +kernel
theorem dX11_as_10 : decode cX11_as 10 = .ok (.ifnull 13, 3) := by decide +kernel
theorem dX11_as_13 : decode cX11_as 13 = .ok (.iload_n 2, 1) := by decide +kernel
theorem dX11_as_14 : decode cX11_as 14 = .ok (.iconst 0, 1) := by decide +kernel
theorem dX11_as_15 : decode cX11_as 15 = .ok (.bipush 6, 2) := by decide +kernel
theorem dX11_as_17 : decode cX11_as 17 = .ok (.invokestatic 56, 3) := by decide +kernel
theorem dX11_as_20 : decode cX11_as 20 = .ok (.ifCond .ne 5, 3) := by decide +kernel
theorem dX11_as_23 : decode cX11_as 23 = .ok (.iconst (-1), 1) := by decide +kernel
theorem dX11_as_24 : decode cX11_as 24 = .ok (.ireturn, 1) := by decide +kernel
theorem dX11_as_25 : decode cX11_as 25 = .ok (.aload_n 3, 1) := by decide +kernel
theorem dX11_as_26 : decode cX11_as 26 = .ok (.iload_n 2, 1) := by decide +kernel
theorem dX11_as_27 : decode cX11_as 27 = .ok (.invokestatic 286, 3) := by decide +kernel
theorem dX11_as_30 : decode cX11_as 30 = .ok (.ifCond .eq 10, 3) := by decide +kernel
theorem dX11_as_33 : decode cX11_as 33 = .ok (.aload_n 3, 1) := by decide +kernel
theorem dX11_as_34 : decode cX11_as 34 = .ok (.getfield 110, 3) := by decide +kernel
theorem dX11_as_37 : decode cX11_as 37 = .ok (.goto 5, 3) := by decide +kernel
theorem dX11_as_40 : decode cX11_as 40 = .ok (.bipush (-6), 2) := by decide +kernel
theorem dX11_as_42 : decode cX11_as 42 = .ok (.ireturn, 1) := by decide +kernel
theorem hd_X11_as : yX11_as.cls = RX11 ∧ yX11_as.cls ≠ "java/lang/invoke/MethodHandle" ∧ yX11_as.cls ≠ "java/lang/invoke/VarHandle" ∧ (parseMethodDescriptor yX11_as.desc).map (fun d => d.parameters.length) = some 2 := by decide +kernel
abbrev rm_X11_as : Room := { frames := 1, cells := 0, slots := 0, locals := 22 }
def F_X11_as (N : Nat) (K len : Nat → Nat) (a1 : Int32) (a2 : Int32) (σ : SG) (ρ : RG) : Option (Int32) :=
  bn (F_X8_cutterAt_1 a1 σ ρ) fun o1 =>
  oc o1
   (
    some (-1 : Int32))
   (fun c2 =>
    gd (isC N K c2) <|
    bn (F_X11_isWithin a2 (0 : Int32) (6 : Int32) σ ρ) fun r3 =>
    if r3 = 0 then
      some (-1 : Int32)
    else
      bn (F_X11_isOfKind N K len c2 a2 σ ρ) fun r5 =>
      if r5 = 0 then
        some (-6 : Int32)
      else
        some (σ c2 1))
set_option maxHeartbeats 4000000 in
set_option maxRecDepth 100000 in
theorem w_X11_as_0 {N : Nat} {K len : Nat → Nat} {a1 : Int32} {a2 : Int32} {p : Program} {e : Env} {s : State} {m : MethodId} {args : Array Value} {below : List Frame} {meth : Method} {c : Code} {σ0 : SG} {ρ0 : RG} {r : Int32} (C : Cx Y D N ad p s m args meth c cX11_as 4 (some .int) RX11 wsL_law) {σ : SG} {ρ : RG} {H : Heap} {locs : List Loc} {ls : Array Slot} (hσ0 : σ = σ0) (hρ0 : ρ = ρ0) (hL : Lay N K len ρ) (hF : F_X11_as N K len a1 a2 σ ρ = some r) (hP : WP Y D N ad K len σ ρ H) (hS : va_S (AA N ad s.heap.size) s.heap H locs) (hl : lv_has ls 4 [(0, .ref (ad 0)), (1, .int a1), (2, .int a2)]) : W p l e rm_X11_as s m args below meth c H locs 0 0 (MQ below (QW Y D N ad K len σ0 ρ0 (AA N ad s.heap.size) (some (.int r))) args s 0 0 (AA N ad s.heap.size)) (F0 m 0 ls []) := by
  have hx := C.1.1
  have hb := C.1.2.1
  unfold F_X11_as at hF
  refine lv_aload_n hx hb dX11_as_0 rfl (lv_at hl 0 rfl) ?_
  refine get_11_0 C hP (lr_0 hL) (lk_0 hL) inlX11 mw_15 (lf_0_0 hL) dX11_as_1 ?_
  refine lv_iload_n hx hb dX11_as_4 rfl (lv_at hl 1 rfl) ?_
  obtain ⟨o1, hq1, hF⟩ := bn_1 hF
  refine x_callV (ci := 8) rfl rfl C hP hS (c_X8_cutterAt_1 hL hq1) (lr_1 hL) (lk_1 hL) (cwV 1 C.1.2.2.2.2 (gdV mw_428 mw_429 mw_430 mw_14 mw_431) rfl rfl rfl hd_X8_cutterAt ⟨Nat.le_of_ble_eq_true rfl, Nat.le_of_ble_eq_true rfl⟩) rfl rfl hl.1 (Nat.le_of_ble_eq_true rfl) ⟨Nat.zero_le _, Nat.zero_le _⟩ dX11_as_5 (fun H locs hP hS => ?_)
  rcases ho2 : o1 with _ | c2
  · have hF := oc_n hF ho2
    refine x_n ?_
    refine lv_astore_nN (lv' := [(3, .null), (0, .ref (ad 0)), (1, .int a1), (2, .int a2)]) hx hb dX11_as_8 rfl hl (by decide) rfl (fun ls hl => ?_)
    refine lv_aload_nN hx hb dX11_as_9 rfl (lv_at hl 0 rfl) ?_
    refine lv_ifnullN (tgt := 23) hx hb dX11_as_10 (by decide) ?_
    refine lv_iconst (v := -1) hx hb dX11_as_23 (by decide) ?_
    obtain rfl := ret_1 hF
    subst hσ0
    subst hρ0
    exact x_iret rfl C hP hS dX11_as_24
  · have hF := oc_s hF ho2
    refine x_s ?_
    obtain ⟨gc2, hF⟩ := gd_1 hF
    refine lv_astore_n (lv' := [(3, .ref (ad c2)), (0, .ref (ad 0)), (1, .int a1), (2, .int a2)]) hx hb dX11_as_8 rfl hl (by decide) rfl (fun ls hl => ?_)
    refine lv_aload_n hx hb dX11_as_9 rfl (lv_at hl 0 rfl) ?_
    refine lv_ifnull hx hb dX11_as_10 ?_
    refine lv_iload_n hx hb dX11_as_13 rfl (lv_at hl 3 rfl) ?_
    refine lv_iconst (v := 0) hx hb dX11_as_14 (by decide) ?_
    refine lv_bipush (v := 6) hx hb dX11_as_15 (by decide +kernel) ?_
    obtain ⟨r3, hq3, hF⟩ := bn_1 hF
    refine x_callS C hP hS (c_X11_isWithin hL hq3) (va_cwS 3 C.1.2.2.2.2 (gdS mw_97 mw_98 mw_2 mw_99) rfl rfl rfl hd_X11_isWithin.2 ⟨Nat.le_of_ble_eq_true rfl, Nat.le_of_ble_eq_true rfl⟩) rfl rfl hl.1 (Nat.le_of_ble_eq_true rfl) ⟨Nat.zero_le _, Nat.zero_le _⟩ dX11_as_17 (fun H locs hP hS => ?_)
    refine lv_if_ne (tgt := 25) hx hb dX11_as_20 (by decide) (fun c_4 => ?_) (fun c_4 => ?_) -- COND 4 rcases (Decidable.em (r3 = 0)).symm with c_4 | c_4
    · have hF := ite_f hF c_4
      refine lv_aload_n hx hb dX11_as_25 rfl (lv_at hl 0 rfl) ?_
      refine lv_iload_n hx hb dX11_as_26 rfl (lv_at hl 3 rfl) ?_
      obtain ⟨r5, hq5, hF⟩ := bn_1 hF
      refine x_callS C hP hS (c_X11_isOfKind hL gc2 hq5) (va_cwS 2 C.1.2.2.2.2 (gdS mw_1138 mw_1139 mw_2 mw_1140) rfl rfl rfl hd_X11_isOfKind.2 ⟨Nat.le_of_ble_eq_true rfl, Nat.le_of_ble_eq_true rfl⟩) rfl rfl hl.1 (Nat.le_of_ble_eq_true rfl) ⟨Nat.zero_le _, Nat.zero_le _⟩ dX11_as_27 (fun H locs hP hS => ?_)
      refine lv_if_eq (tgt := 40) hx hb dX11_as_30 (by decide) (fun c_6 => ?_) (fun c_6 => ?_) -- COND 6 by_cases c_6 : r5 = 0
      · have hF := ite_t hF c_6
        refine lv_bipush (v := -6) hx hb dX11_as_40 (by decide +kernel) ?_
        obtain rfl := ret_1 hF
        subst hσ0
        subst hρ0
        exact x_iret rfl C hP hS dX11_as_42
      · have hF := ite_f hF c_6
        refine lv_aload_n hx hb dX11_as_33 rfl (lv_at hl 0 rfl) ?_
        refine get_ck_1 C hP (isC_r gc2) (isC_k gc2) mw_423 (Or.inl rfl) dX11_as_34 ?_
        refine lv_goto (tgt := 42) hx hb dX11_as_37 (by decide) ?_
        obtain rfl := ret_1 hF
        subst hσ0
        subst hρ0
        exact x_iret rfl C hP hS dX11_as_42
    · have hF := ite_t hF c_4
      refine lv_iconst (v := -1) hx hb dX11_as_23 (by decide) ?_
      obtain rfl := ret_1 hF
      subst hσ0
      subst hρ0
      exact x_iret rfl C hP hS dX11_as_24
set_option maxHeartbeats 4000000 in
set_option maxRecDepth 100000 in
theorem c_X11_as {N : Nat} {K len : Nat → Nat} {a1 : Int32} {a2 : Int32} {r : Int32} {σ : SG} {ρ : RG} (hL : Lay N K len ρ) (hF : F_X11_as N K len a1 a2 σ ρ = some r) : MT l Y D N ad K len yX11_as (Cond.code yX11_as cX11_as 4 (some .int) :: wsL_law) rm_X11_as [.ref (ad 0), .int a1, .int a2] σ ρ (some (.int r)) σ ρ := by
  refine mt_of (cc := cX11_as) (nL := 4) (ret := (some .int)) (by decide) (Nat.le_of_ble_eq_true rfl) ?_
  intro p e s m args below meth c ls C hnm hP hS hl
  exact w_X11_as_0 C rfl rfl hL hF hP hS hl

/-! CutCrooked.public int act(int, int, int);  -/
theorem dX11_act_0 : decode cX11_act 0 = .ok (.aload_n 0, 1) := by decide +kernel
theorem dX11_act_1 : decode cX11_act 1 = .ok (.getfield 24, 3) := by decide +kernel
theorem dX11_act_4 : decode cX11_act 4 = .ok (.iconst 0, 1) := by decide +kernel
theorem dX11_act_5 : decode cX11_act 5 = .ok (.putfield 270, 3) := by decide +kernel
theorem dX11_act_8 : decode cX11_act 8 = .ok (.aload_n 0, 1) := by decide +kernel
theorem dX11_act_9 : decode cX11_act 9 = .ok (.getfield 12, 3) := by decide +kernel
theorem dX11_act_12 : decode cX11_act 12 = .ok (.iload_n 1, 1) := by decide +kernel
theorem dX11_act_13 : decode cX11_act 13 = .ok (.invokevirtual 100, 3) := by decide +kernel
theorem dX11_act_16 : decode cX11_act 16 = .ok (.astore 4, 2) := by decide +kernel
theorem dX11_act_18 : decode cX11_act 18 = .ok (.aload 4, 2) := by decide +kernel
theorem dX11_act_20 : decode cX11_act 20 = .ok (.ifnonnull 5, 3) := by decide +kernel
theorem dX11_act_23 : decode cX11_act 23 = .ok (.iconst 0, 1) := by decide +kernel
theorem dX11_act_24 : decode cX11_act 24 = .ok (.ireturn, 1) := by decide +kernel
theorem dX11_act_25 : decode cX11_act 25 = .ok (.iload_n 2, 1) := by decide +kernel
theorem dX11_act_26 : decode cX11_act 26 = .ok (.tableswitch 59 0 2 #[26, 37, 48], 26) := by decide +kernel
theorem dX11_act_52 : decode cX11_act 52 = .ok (.aload 4, 2) := by decide +kernel
theorem dX11_act_54 : decode cX11_act 54 = .ok (.iload_n 3, 1) := by decide +kernel
theorem dX11_act_55 : decode cX11_act 55 = .ok (.aload_n 0, 1) := by decide +kernel
theorem dX11_act_56 : decode cX11_act 56 = .ok (.getfield 24, 3) := by decide +kernel
theorem dX11_act_59 : decode cX11_act 59 = .ok (.invokevirtual 273, 3) := by decide +kernel
theorem dX11_act_62 : decode cX11_act 62 = .ok (.ireturn, 1) := by decide +kernel
theorem dX11_act_63 : decode cX11_act 63 = .ok (.aload 4, 2) := by decide +kernel
theorem dX11_act_65 : decode cX11_act 65 = .ok (.iload_n 3, 1) := by decide +kernel
theorem dX11_act_66 : decode cX11_act 66 = .ok (.aload_n 0, 1) := by decide +kernel
theorem dX11_act_67 : decode cX11_act 67 = .ok (.getfield 24, 3) := by decide +kernel
theorem dX11_act_70 : decode cX11_act 70 = .ok (.invokevirtual 277, 3) := by decide +kernel
theorem dX11_act_73 : decode cX11_act 73 = .ok (.ireturn, 1) := by decide +kernel
theorem dX11_act_74 : decode cX11_act 74 = .ok (.aload 4, 2) := by decide +kernel
theorem dX11_act_76 : decode cX11_act 76 = .ok (.iload_n 3, 1) := by decide +kernel
theorem dX11_act_77 : decode cX11_act 77 = .ok (.aload_n 0, 1) := by decide +kernel
theorem dX11_act_78 : decode cX11_act 78 = .ok (.getfield 24, 3) := by decide +kernel
theorem dX11_act_81 : decode cX11_act 81 = .ok (.invokevirtual 280, 3) := by decide +kernel
theorem dX11_act_84 : decode cX11_act 84 = .ok (.ireturn, 1) := by decide +kernel
theorem dX11_act_85 : decode cX11_act 85 = .ok (.iconst 0, 1) := by decide +kernel
theorem dX11_act_86 : decode cX11_act 86 = .ok (.ireturn, 1) := by decide +kernel
theorem hd_X11_act : yX11_act.cls = RX11 ∧ yX11_act.cls ≠ "java/lang/invoke/MethodHandle" ∧ yX11_act.cls ≠ "java/lang/invoke/VarHandle" ∧ (parseMethodDescriptor yX11_act.desc).map (fun d => d.parameters.length) = some 3 := by decide +kernel
abbrev rm_X11_act : Room := { frames := 7, cells := 0, slots := 0, locals := 154 }
def F_X11_act (N : Nat) (K len : Nat → Nat) (a1 : Int32) (a2 : Int32) (a3 : Int32) (σ : SG) (ρ : RG) : Option (Int32 × SG) :=
  nm (s2 σ 27 1 (0 : Int32)) fun σ2 =>
  bn (F_X8_cutterAt_1 a1 σ2 ρ) fun o3 =>
  oc o3
   (
    some ((0 : Int32), σ2))
   (fun c4 =>
    gd (isC N K c4) <|
    if a2 = 0 then
      bn2 (F_v_cuts N K len c4 a3 σ2 ρ) fun r6 σ6 =>
      some (r6, σ6)
    else
      if a2 = 1 then
        bn2 (F_v_eats N K len c4 a3 σ2 ρ) fun r7 σ7 =>
        some (r7, σ7)
      else
        if a2 = 2 then
          bn2 (F_v_tells N K len c4 a3 σ2 ρ) fun r8 σ8 =>
          some (r8, σ8)
        else
          some ((0 : Int32), σ2))
set_option maxHeartbeats 4000000 in
set_option maxRecDepth 100000 in
theorem w_X11_act_0 {N : Nat} {K len : Nat → Nat} {a1 : Int32} {a2 : Int32} {a3 : Int32} {p : Program} {e : Env} {s : State} {m : MethodId} {args : Array Value} {below : List Frame} {meth : Method} {c : Code} {ρ0 : RG} {r : Int32} {σ1 : SG} (C : Cx Y D N ad p s m args meth c cX11_act 5 (some .int) RX11 wsL_law) {σ : SG} {ρ : RG} {H : Heap} {locs : List Loc} {ls : Array Slot} (hρ0 : ρ = ρ0) (hL : Lay N K len ρ) (hF : F_X11_act N K len a1 a2 a3 σ ρ = some (r, σ1)) (hP : WP Y D N ad K len σ ρ H) (hS : va_S (AA N ad s.heap.size) s.heap H locs) (hl : lv_has ls 5 [(0, .ref (ad 0)), (1, .int a1), (2, .int a2), (3, .int a3)]) : W p l e rm_X11_act s m args below meth c H locs 0 0 (MQ below (QW Y D N ad K len σ1 ρ0 (AA N ad s.heap.size) (some (.int r))) args s 0 0 (AA N ad s.heap.size)) (F0 m 0 ls []) := by
  have hx := C.1.1
  have hb := C.1.2.1
  unfold F_X11_act at hF
  refine lv_aload_n hx hb dX11_act_0 rfl (lv_at hl 0 rfl) ?_
  refine get_11_3 C hP (lr_0 hL) (lk_0 hL) inlX11 mw_20 (lf_0_3 hL) dX11_act_1 ?_
  refine lv_iconst (v := 0) hx hb dX11_act_4 (by decide) ?_
  obtain ⟨σ2, eσ2, hF⟩ := nm_1 hF
  refine put_10_1 C hP hS (lr_27 hL) (lk_27 hL) inlX10 mw_1006 eσ2 dX11_act_5 (fun H locs hP hS => ?_)
  refine lv_aload_n hx hb dX11_act_8 rfl (lv_at hl 0 rfl) ?_
  refine get_11_0 C hP (lr_0 hL) (lk_0 hL) inlX11 mw_15 (lf_0_0 hL) dX11_act_9 ?_
  refine lv_iload_n hx hb dX11_act_12 rfl (lv_at hl 1 rfl) ?_
  obtain ⟨o3, hq3, hF⟩ := bn_1 hF
  refine x_callV (ci := 8) rfl rfl C hP hS (c_X8_cutterAt_1 hL hq3) (lr_1 hL) (lk_1 hL) (cwV 1 C.1.2.2.2.2 (gdV mw_428 mw_429 mw_430 mw_14 mw_431) rfl rfl rfl hd_X8_cutterAt ⟨Nat.le_of_ble_eq_true rfl, Nat.le_of_ble_eq_true rfl⟩) rfl rfl hl.1 (Nat.le_of_ble_eq_true rfl) ⟨Nat.zero_le _, Nat.zero_le _⟩ dX11_act_13 (fun H locs hP hS => ?_)
  rcases ho4 : o3 with _ | c4
  · have hF := oc_n hF ho4
    refine x_n ?_
    refine lv_astoreN (lv' := [(4, .null), (0, .ref (ad 0)), (1, .int a1), (2, .int a2), (3, .int a3)]) hx hb dX11_act_16 hl (by decide) rfl (fun ls hl => ?_)
    refine lv_aloadN hx hb dX11_act_18 (lv_at hl 0 rfl) ?_
    refine lv_ifnonnullN hx hb dX11_act_20 ?_
    refine lv_iconst (v := 0) hx hb dX11_act_23 (by decide) ?_
    obtain ⟨rfl, rfl⟩ := ret_2 hF
    subst hρ0
    exact x_iret rfl C hP hS dX11_act_24
  · have hF := oc_s hF ho4
    refine x_s ?_
    obtain ⟨gc4, hF⟩ := gd_1 hF
    refine lv_astore (lv' := [(4, .ref (ad c4)), (0, .ref (ad 0)), (1, .int a1), (2, .int a2), (3, .int a3)]) hx hb dX11_act_16 hl (by decide) rfl (fun ls hl => ?_)
    refine lv_aload hx hb dX11_act_18 (lv_at hl 0 rfl) ?_
    refine lv_ifnonnull (tgt := 25) hx hb dX11_act_20 (by decide) ?_
    refine lv_iload_n hx hb dX11_act_25 rfl (lv_at hl 3 rfl) ?_
    by_cases cs5_0 : a2 = 0
    · have hF := ite_t hF cs5_0
      refine lv_tableIn (tgt := 52) hx hb dX11_act_26 (by rw [cs5_0]; decide) (by rw [cs5_0]; decide) (by rw [cs5_0]; rfl) (by decide) ?_
      refine lv_aload hx hb dX11_act_52 (lv_at hl 0 rfl) ?_
      refine lv_iload_n hx hb dX11_act_54 rfl (lv_at hl 4 rfl) ?_
      refine lv_aload_n hx hb dX11_act_55 rfl (lv_at hl 1 rfl) ?_
      refine get_11_3 C hP (lr_0 hL) (lk_0 hL) inlX11 mw_20 (lf_0_3 hL) dX11_act_56 ?_
      obtain ⟨r6, σ6, hq6, hF⟩ := bn2_1 hF
      refine v_cuts C hP hS hL gc4 hq6 mw_1007 ⟨Nat.le_of_ble_eq_true rfl, Nat.le_of_ble_eq_true rfl⟩ hl.1 (Nat.le_of_ble_eq_true rfl) ⟨Nat.zero_le _, Nat.zero_le _⟩ dX11_act_59 (fun H locs hP hS => ?_)
      obtain ⟨rfl, rfl⟩ := ret_2 hF
      subst hρ0
      exact x_iret rfl C hP hS dX11_act_62
    · have hF := ite_f hF cs5_0
      by_cases cs5_1 : a2 = 1
      · have hF := ite_t hF cs5_1
        refine lv_tableIn (tgt := 63) hx hb dX11_act_26 (by rw [cs5_1]; decide) (by rw [cs5_1]; decide) (by rw [cs5_1]; rfl) (by decide) ?_
        refine lv_aload hx hb dX11_act_63 (lv_at hl 0 rfl) ?_
        refine lv_iload_n hx hb dX11_act_65 rfl (lv_at hl 4 rfl) ?_
        refine lv_aload_n hx hb dX11_act_66 rfl (lv_at hl 1 rfl) ?_
        refine get_11_3 C hP (lr_0 hL) (lk_0 hL) inlX11 mw_20 (lf_0_3 hL) dX11_act_67 ?_
        obtain ⟨r7, σ7, hq7, hF⟩ := bn2_1 hF
        refine v_eats C hP hS hL gc4 hq7 mw_1035 ⟨Nat.le_of_ble_eq_true rfl, Nat.le_of_ble_eq_true rfl⟩ hl.1 (Nat.le_of_ble_eq_true rfl) ⟨Nat.zero_le _, Nat.zero_le _⟩ dX11_act_70 (fun H locs hP hS => ?_)
        obtain ⟨rfl, rfl⟩ := ret_2 hF
        subst hρ0
        exact x_iret rfl C hP hS dX11_act_73
      · have hF := ite_f hF cs5_1
        by_cases cs5_2 : a2 = 2
        · have hF := ite_t hF cs5_2
          refine lv_tableIn (tgt := 74) hx hb dX11_act_26 (by rw [cs5_2]; decide) (by rw [cs5_2]; decide) (by rw [cs5_2]; rfl) (by decide) ?_
          refine lv_aload hx hb dX11_act_74 (lv_at hl 0 rfl) ?_
          refine lv_iload_n hx hb dX11_act_76 rfl (lv_at hl 4 rfl) ?_
          refine lv_aload_n hx hb dX11_act_77 rfl (lv_at hl 1 rfl) ?_
          refine get_11_3 C hP (lr_0 hL) (lk_0 hL) inlX11 mw_20 (lf_0_3 hL) dX11_act_78 ?_
          obtain ⟨r8, σ8, hq8, hF⟩ := bn2_1 hF
          refine v_tells C hP hS hL gc4 hq8 mw_1060 ⟨Nat.le_of_ble_eq_true rfl, Nat.le_of_ble_eq_true rfl⟩ hl.1 (Nat.le_of_ble_eq_true rfl) ⟨Nat.zero_le _, Nat.zero_le _⟩ dX11_act_81 (fun H locs hP hS => ?_)
          obtain ⟨rfl, rfl⟩ := ret_2 hF
          subst hρ0
          exact x_iret rfl C hP hS dX11_act_84
        · have hF := ite_f hF cs5_2
          refine lv_tableOut (tgt := 85) hx hb dX11_act_26 (by have q0 := ne_ti cs5_0 (by decide : (0 : Int32).toInt = 0); have q1 := ne_ti cs5_1 (by decide : (1 : Int32).toInt = 1); have q2 := ne_ti cs5_2 (by decide : (2 : Int32).toInt = 2); omega) (by decide) ?_
          refine lv_iconst (v := 0) hx hb dX11_act_85 (by decide) ?_
          obtain ⟨rfl, rfl⟩ := ret_2 hF
          subst hρ0
          exact x_iret rfl C hP hS dX11_act_86
set_option maxHeartbeats 4000000 in
set_option maxRecDepth 100000 in
theorem c_X11_act {N : Nat} {K len : Nat → Nat} {a1 : Int32} {a2 : Int32} {a3 : Int32} {r : Int32} {σ1 : SG} {σ : SG} {ρ : RG} (hL : Lay N K len ρ) (hF : F_X11_act N K len a1 a2 a3 σ ρ = some (r, σ1)) : MT l Y D N ad K len yX11_act (Cond.code yX11_act cX11_act 5 (some .int) :: wsL_law) rm_X11_act [.ref (ad 0), .int a1, .int a2, .int a3] σ ρ (some (.int r)) σ1 ρ := by
  refine mt_of (cc := cX11_act) (nL := 5) (ret := (some .int)) (by decide) (Nat.le_of_ble_eq_true rfl) ?_
  intro p e s m args below meth c ls C hnm hP hS hl
  exact w_X11_act_0 C rfl hL hF hP hS hl

/-! CutCrooked.private void tryOrders(int, int, int); B -/
theorem dX11_tryOrders_0 : decode cX11_tryOrders 0 = .ok (.iload_n 1, 1) := by decide +kernel
theorem dX11_tryOrders_1 : decode cX11_tryOrders 1 = .ok (.aload_n 0, 1) := by decide +kernel
theorem dX11_tryOrders_2 : decode cX11_tryOrders 2 = .ok (.getfield 12, 3) := by decide +kernel
theorem dX11_tryOrders_5 : decode cX11_tryOrders 5 = .ok (.getfield 89, 3) := by decide +kernel
theorem dX11_tryOrders_8 : decode cX11_tryOrders 8 = .ok (.if_icmp .lt 29, 3) := by decide +kernel
theorem dX11_tryOrders_11 : decode cX11_tryOrders 11 = .ok (.aload_n 0, 1) := by decide +kernel
theorem dX11_tryOrders_12 : decode cX11_tryOrders 12 = .ok (.getfield 207, 3) := by decide +kernel
theorem dX11_tryOrders_15 : decode cX11_tryOrders 15 = .ok (.ifCond .eq 11, 3) := by decide +kernel
theorem dX11_tryOrders_18 : decode cX11_tryOrders 18 = .ok (.iload_n 3, 1) := by decide +kernel
theorem dX11_tryOrders_19 : decode cX11_tryOrders 19 = .ok (.aload_n 0, 1) := by decide +kernel
theorem dX11_tryOrders_20 : decode cX11_tryOrders 20 = .ok (.getfield 211, 3) := by decide +kernel
theorem dX11_tryOrders_23 : decode cX11_tryOrders 23 = .ok (.if_icmp .ge 13, 3) := by decide +kernel
theorem dX11_tryOrders_26 : decode cX11_tryOrders 26 = .ok (.aload_n 0, 1) := by decide +kernel
theorem dX11_tryOrders_27 : decode cX11_tryOrders 27 = .ok (.iload_n 3, 1) := by decide +kernel
theorem dX11_tryOrders_28 : decode cX11_tryOrders 28 = .ok (.putfield 211, 3) := by decide +kernel
theorem dX11_tryOrders_31 : decode cX11_tryOrders 31 = .ok (.aload_n 0, 1) := by decide +kernel
theorem dX11_tryOrders_32 : decode cX11_tryOrders 32 = .ok (.iload_n 1, 1) := by decide +kernel
theorem dX11_tryOrders_33 : decode cX11_tryOrders 33 = .ok (.invokevirtual 315, 3) := by decide +kernel
theorem dX11_tryOrders_36 : decode cX11_tryOrders 36 = .ok (.return_, 1) := by decide +kernel
theorem dX11_tryOrders_37 : decode cX11_tryOrders 37 = .ok (.iconst 0, 1) := by decide +kernel
theorem dX11_tryOrders_38 : decode cX11_tryOrders 38 = .ok (.istore 4, 2) := by decide +kernel
theorem dX11_tryOrders_40 : decode cX11_tryOrders 40 = .ok (.iload 4, 2) := by decide +kernel
theorem dX11_tryOrders_42 : decode cX11_tryOrders 42 = .ok (.aload_n 0, 1) := by decide +kernel
theorem dX11_tryOrders_43 : decode cX11_tryOrders 43 = .ok (.getfield 12, 3) := by decide +kernel
theorem dX11_tryOrders_46 : decode cX11_tryOrders 46 = .ok (.getfield 89, 3) := by decide +kernel
theorem dX11_tryOrders_49 : decode cX11_tryOrders 49 = .ok (.if_icmp .ge 89, 3) := by decide +kernel
theorem dX11_tryOrders_52 : decode cX11_tryOrders 52 = .ok (.iload_n 1, 1) := by decide +kernel
theorem dX11_tryOrders_53 : decode cX11_tryOrders 53 = .ok (.aload_n 0, 1) := by decide +kernel
theorem dX11_tryOrders_54 : decode cX11_tryOrders 54 = .ok (.getfield 41, 3) := by decide +kernel
theorem dX11_tryOrders_57 : decode cX11_tryOrders 57 = .ok (.arraylength, 1) := by decide +kernel
theorem dX11_tryOrders_58 : decode cX11_tryOrders 58 = .ok (.if_icmp .ge 80, 3) := by decide +kernel
theorem dX11_tryOrders_61 : decode cX11_tryOrders 61 = .ok (.iload_n 2, 1) := by decide +kernel
theorem dX11_tryOrders_62 : decode cX11_tryOrders 62 = .ok (.iload 4, 2) := by decide +kernel
theorem dX11_tryOrders_64 : decode cX11_tryOrders 64 = .ok (.ishr, 1) := by decide +kernel
theorem dX11_tryOrders_65 : decode cX11_tryOrders 65 = .ok (.iconst 1, 1) := by decide +kernel
theorem dX11_tryOrders_66 : decode cX11_tryOrders 66 = .ok (.iand, 1) := by decide +kernel
theorem dX11_tryOrders_67 : decode cX11_tryOrders 67 = .ok (.ifCond .ne 65, 3) := by decide +kernel
theorem dX11_tryOrders_70 : decode cX11_tryOrders 70 = .ok (.aload_n 0, 1) := by decide +kernel
theorem dX11_tryOrders_71 : decode cX11_tryOrders 71 = .ok (.iload_n 1, 1) := by decide +kernel
theorem dX11_tryOrders_72 : decode cX11_tryOrders 72 = .ok (.aload_n 0, 1) := by decide +kernel
theorem dX11_tryOrders_73 : decode cX11_tryOrders 73 = .ok (.getfield 12, 3) := by decide +kernel
theorem dX11_tryOrders_76 : decode cX11_tryOrders 76 = .ok (.iload 4, 2) := by decide +kernel
theorem dX11_tryOrders_78 : decode cX11_tryOrders 78 = .ok (.invokevirtual 100, 3) := by decide +kernel
theorem dX11_tryOrders_81 : decode cX11_tryOrders 81 = .ok (.iconst 0, 1) := by decide +kernel
theorem dX11_tryOrders_82 : decode cX11_tryOrders 82 = .ok (.invokevirtual 179, 3) := by decide +kernel
theorem dX11_tryOrders_85 : decode cX11_tryOrders 85 = .ok (.ifCond .eq 47, 3) := by decide +kernel
theorem dX11_tryOrders_88 : decode cX11_tryOrders 88 = .ok (.aload_n 0, 1) := by decide +kernel
theorem dX11_tryOrders_89 : decode cX11_tryOrders 89 = .ok (.getfield 41, 3) := by decide +kernel
theorem dX11_tryOrders_92 : decode cX11_tryOrders 92 = .ok (.iload_n 1, 1) := by decide +kernel
theorem dX11_tryOrders_93 : decode cX11_tryOrders 93 = .ok (.iload 4, 2) := by decide +kernel
theorem dX11_tryOrders_95 : decode cX11_tryOrders 95 = .ok (.iastore, 1) := by decide +kernel
theorem dX11_tryOrders_96 : decode cX11_tryOrders 96 = .ok (.aload_n 0, 1) := by decide +kernel
theorem dX11_tryOrders_97 : decode cX11_tryOrders 97 = .ok (.getfield 37, 3) := by decide +kernel
theorem dX11_tryOrders_100 : decode cX11_tryOrders 100 = .ok (.iload_n 1, 1) := by decide +kernel
theorem dX11_tryOrders_101 : decode cX11_tryOrders 101 = .ok (.iconst 1, 1) := by decide +kernel
theorem dX11_tryOrders_102 : decode cX11_tryOrders 102 = .ok (.iadd, 1) := by decide +kernel
theorem dX11_tryOrders_103 : decode cX11_tryOrders 103 = .ok (.aaload, 1) := by decide +kernel
theorem dX11_tryOrders_104 : decode cX11_tryOrders 104 = .ok (.astore 5, 2) := by decide +kernel
theorem dX11_tryOrders_106 : decode cX11_tryOrders 106 = .ok (.aload_n 0, 1) := by decide +kernel
theorem dX11_tryOrders_107 : decode cX11_tryOrders 107 = .ok (.iload_n 1, 1) := by decide +kernel
theorem dX11_tryOrders_108 : decode cX11_tryOrders 108 = .ok (.iconst 1, 1) := by decide +kernel
theorem dX11_tryOrders_109 : decode cX11_tryOrders 109 = .ok (.iadd, 1) := by decide +kernel
theorem dX11_tryOrders_110 : decode cX11_tryOrders 110 = .ok (.iload_n 2, 1) := by decide +kernel
theorem dX11_tryOrders_111 : decode cX11_tryOrders 111 = .ok (.iconst 1, 1) := by decide +kernel
theorem dX11_tryOrders_112 : decode cX11_tryOrders 112 = .ok (.iload 4, 2) := by decide +kernel
theorem dX11_tryOrders_114 : decode cX11_tryOrders 114 = .ok (.ishl, 1) := by decide +kernel
theorem dX11_tryOrders_115 : decode cX11_tryOrders 115 = .ok (.ior, 1) := by decide +kernel
theorem dX11_tryOrders_116 : decode cX11_tryOrders 116 = .ok (.iload_n 3, 1) := by decide +kernel
theorem dX11_tryOrders_117 : decode cX11_tryOrders 117 = .ok (.aload 5, 2) := by decide +kernel
theorem dX11_tryOrders_119 : decode cX11_tryOrders 119 = .ok (.getfield 186, 3) := by decide +kernel
theorem dX11_tryOrders_122 : decode cX11_tryOrders 122 = .ok (.iadd, 1) := by decide +kernel
theorem dX11_tryOrders_123 : decode cX11_tryOrders 123 = .ok (.aload 5, 2) := by decide +kernel
theorem dX11_tryOrders_125 : decode cX11_tryOrders 125 = .ok (.getfield 183, 3) := by decide +kernel
theorem dX11_tryOrders_128 : decode cX11_tryOrders 128 = .ok (.isub, 1) := by decide +kernel
theorem dX11_tryOrders_129 : decode cX11_tryOrders 129 = .ok (.invokevirtual 203, 3) := by decide +kernel
theorem dX11_tryOrders_132 : decode cX11_tryOrders 132 = .ok (.iinc 4 1, 3) := by decide +kernel
theorem dX11_tryOrders_135 : decode cX11_tryOrders 135 = .ok (.goto (-95), 3) := by decide +kernel
theorem dX11_tryOrders_138 : decode cX11_tryOrders 138 = .ok (.return_, 1) := by decide +kernel
theorem hd_X11_tryOrders : yX11_tryOrders.cls = RX11 ∧ yX11_tryOrders.cls ≠ "java/lang/invoke/MethodHandle" ∧ yX11_tryOrders.cls ≠ "java/lang/invoke/VarHandle" ∧ (parseMethodDescriptor yX11_tryOrders.desc).map (fun d => d.parameters.length) = some 3 := by decide +kernel
abbrev rm_X11_tryOrders_B (fR lR : Nat) : Room := { frames := 6 + fR + 1, cells := 0, slots := 0, locals := 152 + lR }
def F_X11_tryOrders_B_132 (N : Nat) (K len : Nat → Nat) (R : Int32 → Int32 → Int32 → SG → RG → Option (SG)) (a1 : Int32) (a2 : Int32) (a3 : Int32) (rec_40 : SG → RG → Int32 → Int32 → Int32 → Int32 → Option (SG)) (σ : SG) (ρ : RG) (v1 : Int32) (v2 : Int32) (v3 : Int32) (v4 : Int32) : Option (SG) :=
  nm (v4 + (1 : Int32)) fun x7 =>
  rec_40 σ ρ v1 v2 v3 x7
def F_X11_tryOrders_B_40 (N : Nat) (K len : Nat → Nat) (R : Int32 → Int32 → Int32 → SG → RG → Option (SG)) (a1 : Int32) (a2 : Int32) (a3 : Int32) : Nat → SG → RG → Int32 → Int32 → Int32 → Int32 → Option (SG)
  | 0 => fun _ _ _ _ _ _ => none
  | n + 1 => fun σ ρ v1 v2 v3 v4 =>
  if (σ 1 1) ≤ v4 then
    some σ
  else
    if (6 : Int32) ≤ v1 then
      some σ
    else
      nm (v2 >>> (v4 &&& 31)) fun x4 =>
      nm (x4 &&& (1 : Int32)) fun x5 =>
      if x5 = 0 then
        bn (F_X8_cutterAt_1 v4 σ ρ) fun o8 =>
        oc o8
         (
          bn (F_X11_tryStep_n v1 (0 : Int32) σ ρ) fun r10 =>
          if r10 = 0 then
            F_X11_tryOrders_B_132 N K len R a1 a2 a3 (F_X11_tryOrders_B_40 N K len R a1 a2 a3 n) σ ρ v1 v2 v3 v4
          else
            gd (inb v1 6) <|
            nm (s2 σ 35 (v1).toNatClampNeg v4) fun σ14 =>
            nm (v1 + (1 : Int32)) fun x15 =>
            gd (inb x15 7) <|
            oc (ρ 34 (x15).toNatClampNeg)
             (
              none)
             (fun c17 =>
              gd (isLb c17) <|
              nm (v1 + (1 : Int32)) fun x18 =>
              nm ((1 : Int32) <<< (v4 &&& 31)) fun x19 =>
              nm (v2 ||| x19) fun x20 =>
              nm (v3 + (σ14 c17 8)) fun x21 =>
              nm (x21 - (σ14 c17 7)) fun x22 =>
              bn (R x18 x20 x22 σ14 ρ) fun σ23 =>
              F_X11_tryOrders_B_132 N K len R a1 a2 a3 (F_X11_tryOrders_B_40 N K len R a1 a2 a3 n) σ23 ρ v1 v2 v3 v4))
         (fun c9 =>
          gd (isC N K c9) <|
          bn2 (F_X11_tryStep N K len v1 c9 (0 : Int32) σ ρ) fun r24 σ24 =>
          if r24 = 0 then
            F_X11_tryOrders_B_132 N K len R a1 a2 a3 (F_X11_tryOrders_B_40 N K len R a1 a2 a3 n) σ24 ρ v1 v2 v3 v4
          else
            gd (inb v1 6) <|
            nm (s2 σ24 35 (v1).toNatClampNeg v4) fun σ28 =>
            nm (v1 + (1 : Int32)) fun x29 =>
            gd (inb x29 7) <|
            oc (ρ 34 (x29).toNatClampNeg)
             (
              none)
             (fun c31 =>
              gd (isLb c31) <|
              nm (v1 + (1 : Int32)) fun x32 =>
              nm ((1 : Int32) <<< (v4 &&& 31)) fun x33 =>
              nm (v2 ||| x33) fun x34 =>
              nm (v3 + (σ28 c31 8)) fun x35 =>
              nm (x35 - (σ28 c31 7)) fun x36 =>
              bn (R x32 x34 x36 σ28 ρ) fun σ37 =>
              F_X11_tryOrders_B_132 N K len R a1 a2 a3 (F_X11_tryOrders_B_40 N K len R a1 a2 a3 n) σ37 ρ v1 v2 v3 v4))
      else
        F_X11_tryOrders_B_132 N K len R a1 a2 a3 (F_X11_tryOrders_B_40 N K len R a1 a2 a3 n) σ ρ v1 v2 v3 v4
def F_X11_tryOrders_B_26 (N : Nat) (K len : Nat → Nat) (R : Int32 → Int32 → Int32 → SG → RG → Option (SG)) (a1 : Int32) (a2 : Int32) (a3 : Int32) (σ : SG) (ρ : RG) (v1 : Int32) (v3 : Int32) : Option (SG) :=
  nm (s2 σ 0 9 v3) fun σ40 =>
  bn (F_X11_keepPath v1 σ40 ρ) fun σ41 =>
  some σ41
def F_X11_tryOrders_B (N : Nat) (K len : Nat → Nat) (R : Int32 → Int32 → Int32 → SG → RG → Option (SG)) (a1 : Int32) (a2 : Int32) (a3 : Int32) (σ : SG) (ρ : RG) : Option (SG) :=
  if a1 < (σ 1 1) then
    F_X11_tryOrders_B_40 N K len R a1 a2 a3 1024 σ ρ a1 a2 a3 (0 : Int32)
  else
    if (σ 0 8) = 0 then
      F_X11_tryOrders_B_26 N K len R a1 a2 a3 σ ρ a1 a3
    else
      if (σ 0 9) ≤ a3 then
        some σ
      else
        F_X11_tryOrders_B_26 N K len R a1 a2 a3 σ ρ a1 a3
set_option maxHeartbeats 4000000 in
set_option maxRecDepth 100000 in
theorem w_X11_tryOrders_B_132 {N : Nat} {K len : Nat → Nat} {R : Int32 → Int32 → Int32 → SG → RG → Option (SG)} {a1 : Int32} {a2 : Int32} {a3 : Int32} {rec_40 : SG → RG → Int32 → Int32 → Int32 → Int32 → Option (SG)} {p : Program} {e : Env} {s : State} {m : MethodId} {args : Array Value} {below : List Frame} {meth : Method} {c : Code} {ρ0 : RG} {σ1 : SG} (C : Cx Y D N ad p s m args meth c cX11_tryOrders 6 none RX11 wsL_law) (hrec_40 : ∀ (σ : SG) (ρ : RG) (v1 : Int32) (v2 : Int32) (v3 : Int32) (v4 : Int32) (H : Heap) (locs : List Loc) (ls : Array Slot), ρ = ρ0 → Lay N K len ρ → (∀ {a1 : Int32} {a2 : Int32} {a3 : Int32} {σ1 : SG} {σ : SG} {ρ : RG}, Lay N K len ρ → R a1 a2 a3 σ ρ = some σ1 → MT l Y D N ad K len yX11_tryOrders (Cond.code yX11_tryOrders cX11_tryOrders 6 none :: wsL_law) (rmk fR lR) [.ref (ad 0), .int a1, .int a2, .int a3] σ ρ none σ1 ρ) → rec_40 σ ρ v1 v2 v3 v4 = some σ1 → WP Y D N ad K len σ ρ H → va_S (AA N ad s.heap.size) s.heap H locs → lv_has ls 6 [(0, .ref (ad 0)), (1, .int v1), (2, .int v2), (3, .int v3), (4, .int v4)] → W p l e (rm_X11_tryOrders_B fR lR) s m args below meth c H locs 0 0 (MQ below (QW Y D N ad K len σ1 ρ0 (AA N ad s.heap.size) none) args s 0 0 (AA N ad s.heap.size)) (F0 m 40 ls [])) {σ : SG} {ρ : RG} {v1 : Int32} {v2 : Int32} {v3 : Int32} {v4 : Int32} {H : Heap} {locs : List Loc} {ls : Array Slot} (hρ0 : ρ = ρ0) (hL : Lay N K len ρ) (hRM : (∀ {a1 : Int32} {a2 : Int32} {a3 : Int32} {σ1 : SG} {σ : SG} {ρ : RG}, Lay N K len ρ → R a1 a2 a3 σ ρ = some σ1 → MT l Y D N ad K len yX11_tryOrders (Cond.code yX11_tryOrders cX11_tryOrders 6 none :: wsL_law) (rmk fR lR) [.ref (ad 0), .int a1, .int a2, .int a3] σ ρ none σ1 ρ)) (hF : F_X11_tryOrders_B_132 N K len R a1 a2 a3 rec_40 σ ρ v1 v2 v3 v4 = some σ1) (hP : WP Y D N ad K len σ ρ H) (hS : va_S (AA N ad s.heap.size) s.heap H locs) (hl : lv_has ls 6 [(0, .ref (ad 0)), (1, .int v1), (2, .int v2), (3, .int v3), (4, .int v4)]) : W p l e (rm_X11_tryOrders_B fR lR) s m args below meth c H locs 0 0 (MQ below (QW Y D N ad K len σ1 ρ0 (AA N ad s.heap.size) none) args s 0 0 (AA N ad s.heap.size)) (F0 m 132 ls []) := by
  have hx := C.1.1
  have hb := C.1.2.1
  unfold F_X11_tryOrders_B_132 at hF
  obtain ⟨x7, ex7, hF⟩ := nm_1 hF
  refine lv_iinc (v := x7) (lv' := [(4, .int x7), (0, .ref (ad 0)), (1, .int v1), (2, .int v2), (3, .int v3)]) hx hb dX11_tryOrders_132 hl (k := 4) rfl (by rw [ex7]; first | rfl | decide) (by decide) rfl (fun ls hl => ?_)
  refine lv_goto (tgt := 40) hx hb dX11_tryOrders_135 (by decide) ?_
  exact hrec_40 _ _ _ _ _ _ _ _ _ hρ0 hL hRM hF hP hS (lv_sub hl [1, 2, 3, 4, 0] rfl)
set_option maxHeartbeats 4000000 in
set_option maxRecDepth 100000 in
theorem w_X11_tryOrders_B_40 {N : Nat} {K len : Nat → Nat} {R : Int32 → Int32 → Int32 → SG → RG → Option (SG)} {a1 : Int32} {a2 : Int32} {a3 : Int32} {p : Program} {e : Env} {s : State} {m : MethodId} {args : Array Value} {below : List Frame} {meth : Method} {c : Code} {ρ0 : RG} {σ1 : SG} (C : Cx Y D N ad p s m args meth c cX11_tryOrders 6 none RX11 wsL_law) : ∀ (n : Nat) (σ : SG) (ρ : RG) (v1 : Int32) (v2 : Int32) (v3 : Int32) (v4 : Int32) (H : Heap) (locs : List Loc) (ls : Array Slot), ρ = ρ0 → Lay N K len ρ → (∀ {a1 : Int32} {a2 : Int32} {a3 : Int32} {σ1 : SG} {σ : SG} {ρ : RG}, Lay N K len ρ → R a1 a2 a3 σ ρ = some σ1 → MT l Y D N ad K len yX11_tryOrders (Cond.code yX11_tryOrders cX11_tryOrders 6 none :: wsL_law) (rmk fR lR) [.ref (ad 0), .int a1, .int a2, .int a3] σ ρ none σ1 ρ) → F_X11_tryOrders_B_40 N K len R a1 a2 a3 n σ ρ v1 v2 v3 v4 = some σ1 → WP Y D N ad K len σ ρ H → va_S (AA N ad s.heap.size) s.heap H locs → lv_has ls 6 [(0, .ref (ad 0)), (1, .int v1), (2, .int v2), (3, .int v3), (4, .int v4)] → W p l e (rm_X11_tryOrders_B fR lR) s m args below meth c H locs 0 0 (MQ below (QW Y D N ad K len σ1 ρ0 (AA N ad s.heap.size) none) args s 0 0 (AA N ad s.heap.size)) (F0 m 40 ls []) := by
  have hx := C.1.1
  have hb := C.1.2.1
  intro n
  induction n with
  | zero => intro σ ρ v1 v2 v3 v4 H locs ls hρ0 hL hRM hF; cases hF
  | succ n ih =>
    intro σ ρ v1 v2 v3 v4 H locs ls hρ0 hL hRM hF hP hS hl
    unfold F_X11_tryOrders_B_40 at hF
    refine lv_iload hx hb dX11_tryOrders_40 (lv_at hl 4 rfl) ?_
    refine lv_aload_n hx hb dX11_tryOrders_42 rfl (lv_at hl 0 rfl) ?_
    refine get_11_0 C hP (lr_0 hL) (lk_0 hL) inlX11 mw_15 (lf_0_0 hL) dX11_tryOrders_43 ?_
    refine get_8_1 C hP (lr_1 hL) (lk_1 hL) inlX8 mw_352 dX11_tryOrders_46 ?_
    refine lv_icmp_ge (tgt := 138) hx hb dX11_tryOrders_49 (by decide) (fun c_2 => ?_) (fun c_2 => ?_) -- COND 2 by_cases c_2 : (σ 1 1) ≤ v4
    · have hF := ite_t hF c_2
      obtain rfl := ret_1 hF
      subst hρ0
      exact x_vret rfl C hP hS dX11_tryOrders_138
    · have hF := ite_f hF c_2
      refine lv_iload_n hx hb dX11_tryOrders_52 rfl (lv_at hl 1 rfl) ?_
      refine lv_aload_n hx hb dX11_tryOrders_53 rfl (lv_at hl 0 rfl) ?_
      refine get_11_6 C hP (lr_0 hL) (lk_0 hL) inlX11 mw_28 (lf_0_6 hL) dX11_tryOrders_54 ?_
      refine x_alen (v := (6 : Int32)) C hP (lr_35 hL) (lk_35 hL) (by decide) (ln_35 hL) (by decide +kernel) dX11_tryOrders_57 ?_
      refine lv_icmp_ge (tgt := 138) hx hb dX11_tryOrders_58 (by decide) (fun c_3 => ?_) (fun c_3 => ?_) -- COND 3 by_cases c_3 : (6 : Int32) ≤ v1
      · have hF := ite_t hF c_3
        obtain rfl := ret_1 hF
        subst hρ0
        exact x_vret rfl C hP hS dX11_tryOrders_138
      · have hF := ite_f hF c_3
        refine lv_iload_n hx hb dX11_tryOrders_61 rfl (lv_at hl 2 rfl) ?_
        refine lv_iload hx hb dX11_tryOrders_62 (lv_at hl 4 rfl) ?_
        refine lv_ishr hx hb dX11_tryOrders_64 ?_
        obtain ⟨x4, ex4, hF⟩ := nm_1 hF
        refine x_top ex4 ?_
        refine lv_iconst (v := 1) hx hb dX11_tryOrders_65 (by decide) ?_
        refine lv_iand hx hb dX11_tryOrders_66 ?_
        obtain ⟨x5, ex5, hF⟩ := nm_1 hF
        refine x_top ex5 ?_
        refine lv_if_ne (tgt := 132) hx hb dX11_tryOrders_67 (by decide) (fun c_6 => ?_) (fun c_6 => ?_) -- COND 6 rcases (Decidable.em (x5 = 0)).symm with c_6 | c_6
        · have hF := ite_f hF c_6
          exact w_X11_tryOrders_B_132 C ih hρ0 hL hRM hF hP hS (lv_sub hl [0, 1, 2, 3, 4] rfl)
        · have hF := ite_t hF c_6
          refine lv_aload_n hx hb dX11_tryOrders_70 rfl (lv_at hl 0 rfl) ?_
          refine lv_iload_n hx hb dX11_tryOrders_71 rfl (lv_at hl 1 rfl) ?_
          refine lv_aload_n hx hb dX11_tryOrders_72 rfl (lv_at hl 0 rfl) ?_
          refine get_11_0 C hP (lr_0 hL) (lk_0 hL) inlX11 mw_15 (lf_0_0 hL) dX11_tryOrders_73 ?_
          refine lv_iload hx hb dX11_tryOrders_76 (lv_at hl 4 rfl) ?_
          obtain ⟨o8, hq8, hF⟩ := bn_1 hF
          refine x_callV (ci := 8) rfl rfl C hP hS (c_X8_cutterAt_1 hL hq8) (lr_1 hL) (lk_1 hL) (cwV 1 C.1.2.2.2.2 (gdV mw_428 mw_429 mw_430 mw_14 mw_431) rfl rfl rfl hd_X8_cutterAt ⟨by show 1 ≤ 6 + fR + 1; omega, by show 21 ≤ 152 + lR; omega⟩) rfl rfl hl.1 (Nat.le_of_ble_eq_true rfl) ⟨Nat.zero_le _, Nat.zero_le _⟩ dX11_tryOrders_78 (fun H locs hP hS => ?_)
          rcases ho9 : o8 with _ | c9
          · have hF := oc_n hF ho9
            refine x_n ?_
            refine lv_iconst (v := 0) hx hb dX11_tryOrders_81 (by decide) ?_
            obtain ⟨r10, hq10, hF⟩ := bn_1 hF
            refine x_callV (ci := 11) rfl rfl C hP hS (c_X11_tryStep_n hL hq10) (lr_0 hL) (lk_0 hL) (cwV 3 C.1.2.2.2.2 (gdV mw_724 mw_725 mw_726 mw_2 mw_727) rfl rfl rfl hd_X11_tryStep ⟨by show 1 ≤ 6 + fR + 1; omega, by show 23 ≤ 152 + lR; omega⟩) rfl rfl hl.1 (Nat.le_of_ble_eq_true rfl) ⟨Nat.zero_le _, Nat.zero_le _⟩ dX11_tryOrders_82 (fun H locs hP hS => ?_)
            refine lv_if_eq (tgt := 132) hx hb dX11_tryOrders_85 (by decide) (fun c_11 => ?_) (fun c_11 => ?_) -- COND 11 by_cases c_11 : r10 = 0
            · have hF := ite_t hF c_11
              exact w_X11_tryOrders_B_132 C ih hρ0 hL hRM hF hP hS (lv_sub hl [0, 1, 2, 3, 4] rfl)
            · have hF := ite_f hF c_11
              refine lv_aload_n hx hb dX11_tryOrders_88 rfl (lv_at hl 0 rfl) ?_
              refine get_11_6 C hP (lr_0 hL) (lk_0 hL) inlX11 mw_28 (lf_0_6 hL) dX11_tryOrders_89 ?_
              refine lv_iload_n hx hb dX11_tryOrders_92 rfl (lv_at hl 1 rfl) ?_
              refine lv_iload hx hb dX11_tryOrders_93 (lv_at hl 4 rfl) ?_
              obtain ⟨g12, hF⟩ := gd_1 hF
              obtain ⟨σ14, eσ14, hF⟩ := nm_1 hF
              refine x_iast (σ1 := σ14) C hP hS (lr_35 hL) (lk_35 hL) (ln_35 hL) g12 eσ14 dX11_tryOrders_95 (fun H locs hP hS => ?_)
              refine lv_aload_n hx hb dX11_tryOrders_96 rfl (lv_at hl 0 rfl) ?_
              refine get_11_5 C hP (lr_0 hL) (lk_0 hL) inlX11 mw_26 (lf_0_5 hL) dX11_tryOrders_97 ?_
              refine lv_iload_n hx hb dX11_tryOrders_100 rfl (lv_at hl 1 rfl) ?_
              refine lv_iconst (v := 1) hx hb dX11_tryOrders_101 (by decide) ?_
              refine lv_iadd hx hb dX11_tryOrders_102 ?_
              obtain ⟨x15, ex15, hF⟩ := nm_1 hF
              refine x_top ex15 ?_
              obtain ⟨g16, hF⟩ := gd_1 hF
              refine x_aald (v := rf ad (ρ 34 (x15).toNatClampNeg)) C hP (lr_34 hL) (lk_34 hL) (Or.inr ⟨rfl, rfl, rfl⟩) (ln_34 hL) g16 rfl dX11_tryOrders_103 ?_
              rcases ho17 : (ρ 34 (x15).toNatClampNeg) with _ | c17
              · have hF := oc_n hF ho17
                refine x_n ?_
                cases hF
              · have hF := oc_s hF ho17
                refine x_s ?_
                obtain ⟨gc17, hF⟩ := gd_1 hF
                refine lv_astore (lv' := [(5, .ref (ad c17)), (0, .ref (ad 0)), (1, .int v1), (2, .int v2), (3, .int v3), (4, .int v4)]) hx hb dX11_tryOrders_104 hl (by decide) rfl (fun ls hl => ?_)
                refine lv_aload_n hx hb dX11_tryOrders_106 rfl (lv_at hl 1 rfl) ?_
                refine lv_iload_n hx hb dX11_tryOrders_107 rfl (lv_at hl 2 rfl) ?_
                refine lv_iconst (v := 1) hx hb dX11_tryOrders_108 (by decide) ?_
                refine lv_iadd hx hb dX11_tryOrders_109 ?_
                obtain ⟨x18, ex18, hF⟩ := nm_1 hF
                refine x_top ex18 ?_
                refine lv_iload_n hx hb dX11_tryOrders_110 rfl (lv_at hl 3 rfl) ?_
                refine lv_iconst (v := 1) hx hb dX11_tryOrders_111 (by decide) ?_
                refine lv_iload hx hb dX11_tryOrders_112 (lv_at hl 5 rfl) ?_
                refine lv_ishl hx hb dX11_tryOrders_114 ?_
                obtain ⟨x19, ex19, hF⟩ := nm_1 hF
                refine x_top ex19 ?_
                refine lv_ior hx hb dX11_tryOrders_115 ?_
                obtain ⟨x20, ex20, hF⟩ := nm_1 hF
                refine x_top ex20 ?_
                refine lv_iload_n hx hb dX11_tryOrders_116 rfl (lv_at hl 4 rfl) ?_
                refine lv_aload hx hb dX11_tryOrders_117 (lv_at hl 0 rfl) ?_
                refine get_3_8 C hP (il_of hL gc17).1 (il_of hL gc17).2.1 inlX3 mw_712 dX11_tryOrders_119 ?_
                refine lv_iadd hx hb dX11_tryOrders_122 ?_
                obtain ⟨x21, ex21, hF⟩ := nm_1 hF
                refine x_top ex21 ?_
                refine lv_aload hx hb dX11_tryOrders_123 (lv_at hl 0 rfl) ?_
                refine get_3_7 C hP (il_of hL gc17).1 (il_of hL gc17).2.1 inlX3 mw_711 dX11_tryOrders_125 ?_
                refine lv_isub hx hb dX11_tryOrders_128 ?_
                obtain ⟨x22, ex22, hF⟩ := nm_1 hF
                refine x_top ex22 ?_
                obtain ⟨σ23, hq23, hF⟩ := bn_1 hF
                refine x_callV (ci := 11) rfl rfl C hP hS (hRM hL hq23) (lr_0 hL) (lk_0 hL) (cwV 3 C.1.2.2.2.2 (gdV mw_786 mw_787 mw_788 mw_2 mw_789) rfl rfl rfl hd_X11_tryOrders ⟨by show fR + 1 ≤ 6 + fR + 1; omega, by show 25 + lR ≤ 152 + lR; omega⟩) rfl rfl hl.1 (Nat.le_of_ble_eq_true rfl) ⟨Nat.zero_le _, Nat.zero_le _⟩ dX11_tryOrders_129 (fun H locs hP hS => ?_)
                exact w_X11_tryOrders_B_132 C ih hρ0 hL hRM hF hP hS (lv_sub hl [1, 2, 3, 4, 5] rfl)
          · have hF := oc_s hF ho9
            refine x_s ?_
            obtain ⟨gc9, hF⟩ := gd_1 hF
            refine lv_iconst (v := 0) hx hb dX11_tryOrders_81 (by decide) ?_
            obtain ⟨r24, σ24, hq24, hF⟩ := bn2_1 hF
            refine x_callV (ci := 11) rfl rfl C hP hS (c_X11_tryStep hL gc9 hq24) (lr_0 hL) (lk_0 hL) (cwV 3 C.1.2.2.2.2 (gdV mw_724 mw_725 mw_726 mw_2 mw_727) rfl rfl rfl hd_X11_tryStep ⟨by show 6 ≤ 6 + fR + 1; omega, by show 152 ≤ 152 + lR; omega⟩) rfl rfl hl.1 (Nat.le_of_ble_eq_true rfl) ⟨Nat.zero_le _, Nat.zero_le _⟩ dX11_tryOrders_82 (fun H locs hP hS => ?_)
            refine lv_if_eq (tgt := 132) hx hb dX11_tryOrders_85 (by decide) (fun c_25 => ?_) (fun c_25 => ?_) -- COND 25 by_cases c_25 : r24 = 0
            · have hF := ite_t hF c_25
              exact w_X11_tryOrders_B_132 C ih hρ0 hL hRM hF hP hS (lv_sub hl [0, 1, 2, 3, 4] rfl)
            · have hF := ite_f hF c_25
              refine lv_aload_n hx hb dX11_tryOrders_88 rfl (lv_at hl 0 rfl) ?_
              refine get_11_6 C hP (lr_0 hL) (lk_0 hL) inlX11 mw_28 (lf_0_6 hL) dX11_tryOrders_89 ?_
              refine lv_iload_n hx hb dX11_tryOrders_92 rfl (lv_at hl 1 rfl) ?_
              refine lv_iload hx hb dX11_tryOrders_93 (lv_at hl 4 rfl) ?_
              obtain ⟨g26, hF⟩ := gd_1 hF
              obtain ⟨σ28, eσ28, hF⟩ := nm_1 hF
              refine x_iast (σ1 := σ28) C hP hS (lr_35 hL) (lk_35 hL) (ln_35 hL) g26 eσ28 dX11_tryOrders_95 (fun H locs hP hS => ?_)
              refine lv_aload_n hx hb dX11_tryOrders_96 rfl (lv_at hl 0 rfl) ?_
              refine get_11_5 C hP (lr_0 hL) (lk_0 hL) inlX11 mw_26 (lf_0_5 hL) dX11_tryOrders_97 ?_
              refine lv_iload_n hx hb dX11_tryOrders_100 rfl (lv_at hl 1 rfl) ?_
              refine lv_iconst (v := 1) hx hb dX11_tryOrders_101 (by decide) ?_
              refine lv_iadd hx hb dX11_tryOrders_102 ?_
              obtain ⟨x29, ex29, hF⟩ := nm_1 hF
              refine x_top ex29 ?_
              obtain ⟨g30, hF⟩ := gd_1 hF
              refine x_aald (v := rf ad (ρ 34 (x29).toNatClampNeg)) C hP (lr_34 hL) (lk_34 hL) (Or.inr ⟨rfl, rfl, rfl⟩) (ln_34 hL) g30 rfl dX11_tryOrders_103 ?_
              rcases ho31 : (ρ 34 (x29).toNatClampNeg) with _ | c31
              · have hF := oc_n hF ho31
                refine x_n ?_
                cases hF
              · have hF := oc_s hF ho31
                refine x_s ?_
                obtain ⟨gc31, hF⟩ := gd_1 hF
                refine lv_astore (lv' := [(5, .ref (ad c31)), (0, .ref (ad 0)), (1, .int v1), (2, .int v2), (3, .int v3), (4, .int v4)]) hx hb dX11_tryOrders_104 hl (by decide) rfl (fun ls hl => ?_)
                refine lv_aload_n hx hb dX11_tryOrders_106 rfl (lv_at hl 1 rfl) ?_
                refine lv_iload_n hx hb dX11_tryOrders_107 rfl (lv_at hl 2 rfl) ?_
                refine lv_iconst (v := 1) hx hb dX11_tryOrders_108 (by decide) ?_
                refine lv_iadd hx hb dX11_tryOrders_109 ?_
                obtain ⟨x32, ex32, hF⟩ := nm_1 hF
                refine x_top ex32 ?_
                refine lv_iload_n hx hb dX11_tryOrders_110 rfl (lv_at hl 3 rfl) ?_
                refine lv_iconst (v := 1) hx hb dX11_tryOrders_111 (by decide) ?_
                refine lv_iload hx hb dX11_tryOrders_112 (lv_at hl 5 rfl) ?_
                refine lv_ishl hx hb dX11_tryOrders_114 ?_
                obtain ⟨x33, ex33, hF⟩ := nm_1 hF
                refine x_top ex33 ?_
                refine lv_ior hx hb dX11_tryOrders_115 ?_
                obtain ⟨x34, ex34, hF⟩ := nm_1 hF
                refine x_top ex34 ?_
                refine lv_iload_n hx hb dX11_tryOrders_116 rfl (lv_at hl 4 rfl) ?_
                refine lv_aload hx hb dX11_tryOrders_117 (lv_at hl 0 rfl) ?_
                refine get_3_8 C hP (il_of hL gc31).1 (il_of hL gc31).2.1 inlX3 mw_712 dX11_tryOrders_119 ?_
                refine lv_iadd hx hb dX11_tryOrders_122 ?_
                obtain ⟨x35, ex35, hF⟩ := nm_1 hF
                refine x_top ex35 ?_
                refine lv_aload hx hb dX11_tryOrders_123 (lv_at hl 0 rfl) ?_
                refine get_3_7 C hP (il_of hL gc31).1 (il_of hL gc31).2.1 inlX3 mw_711 dX11_tryOrders_125 ?_
                refine lv_isub hx hb dX11_tryOrders_128 ?_
                obtain ⟨x36, ex36, hF⟩ := nm_1 hF
                refine x_top ex36 ?_
                obtain ⟨σ37, hq37, hF⟩ := bn_1 hF
                refine x_callV (ci := 11) rfl rfl C hP hS (hRM hL hq37) (lr_0 hL) (lk_0 hL) (cwV 3 C.1.2.2.2.2 (gdV mw_786 mw_787 mw_788 mw_2 mw_789) rfl rfl rfl hd_X11_tryOrders ⟨by show fR + 1 ≤ 6 + fR + 1; omega, by show 25 + lR ≤ 152 + lR; omega⟩) rfl rfl hl.1 (Nat.le_of_ble_eq_true rfl) ⟨Nat.zero_le _, Nat.zero_le _⟩ dX11_tryOrders_129 (fun H locs hP hS => ?_)
                exact w_X11_tryOrders_B_132 C ih hρ0 hL hRM hF hP hS (lv_sub hl [1, 2, 3, 4, 5] rfl)
set_option maxHeartbeats 4000000 in
set_option maxRecDepth 100000 in
theorem w_X11_tryOrders_B_26 {N : Nat} {K len : Nat → Nat} {R : Int32 → Int32 → Int32 → SG → RG → Option (SG)} {a1 : Int32} {a2 : Int32} {a3 : Int32} {p : Program} {e : Env} {s : State} {m : MethodId} {args : Array Value} {below : List Frame} {meth : Method} {c : Code} {ρ0 : RG} {σ1 : SG} (C : Cx Y D N ad p s m args meth c cX11_tryOrders 6 none RX11 wsL_law) {σ : SG} {ρ : RG} {v1 : Int32} {v3 : Int32} {H : Heap} {locs : List Loc} {ls : Array Slot} (hρ0 : ρ = ρ0) (hL : Lay N K len ρ) (hRM : (∀ {a1 : Int32} {a2 : Int32} {a3 : Int32} {σ1 : SG} {σ : SG} {ρ : RG}, Lay N K len ρ → R a1 a2 a3 σ ρ = some σ1 → MT l Y D N ad K len yX11_tryOrders (Cond.code yX11_tryOrders cX11_tryOrders 6 none :: wsL_law) (rmk fR lR) [.ref (ad 0), .int a1, .int a2, .int a3] σ ρ none σ1 ρ)) (hF : F_X11_tryOrders_B_26 N K len R a1 a2 a3 σ ρ v1 v3 = some σ1) (hP : WP Y D N ad K len σ ρ H) (hS : va_S (AA N ad s.heap.size) s.heap H locs) (hl : lv_has ls 6 [(0, .ref (ad 0)), (1, .int v1), (3, .int v3)]) : W p l e (rm_X11_tryOrders_B fR lR) s m args below meth c H locs 0 0 (MQ below (QW Y D N ad K len σ1 ρ0 (AA N ad s.heap.size) none) args s 0 0 (AA N ad s.heap.size)) (F0 m 26 ls []) := by
  have hx := C.1.1
  have hb := C.1.2.1
  unfold F_X11_tryOrders_B_26 at hF
  refine lv_aload_n hx hb dX11_tryOrders_26 rfl (lv_at hl 0 rfl) ?_
  refine lv_iload_n hx hb dX11_tryOrders_27 rfl (lv_at hl 2 rfl) ?_
  obtain ⟨σ40, eσ40, hF⟩ := nm_1 hF
  refine put_11_9 C hP hS (lr_0 hL) (lk_0 hL) inlX11 mw_718 eσ40 dX11_tryOrders_28 (fun H locs hP hS => ?_)
  refine lv_aload_n hx hb dX11_tryOrders_31 rfl (lv_at hl 0 rfl) ?_
  refine lv_iload_n hx hb dX11_tryOrders_32 rfl (lv_at hl 1 rfl) ?_
  obtain ⟨σ41, hq41, hF⟩ := bn_1 hF
  refine x_callV (ci := 11) rfl rfl C hP hS (c_X11_keepPath hL hq41) (lr_0 hL) (lk_0 hL) (cwV 1 C.1.2.2.2.2 (gdV mw_790 mw_791 mw_792 mw_2 mw_793) rfl rfl rfl hd_X11_keepPath ⟨by show 1 ≤ 6 + fR + 1; omega, by show 22 ≤ 152 + lR; omega⟩) rfl rfl hl.1 (Nat.le_of_ble_eq_true rfl) ⟨Nat.zero_le _, Nat.zero_le _⟩ dX11_tryOrders_33 (fun H locs hP hS => ?_)
  obtain rfl := ret_1 hF
  subst hρ0
  exact x_vret rfl C hP hS dX11_tryOrders_36
set_option maxHeartbeats 4000000 in
set_option maxRecDepth 100000 in
theorem w_X11_tryOrders_B_0 {N : Nat} {K len : Nat → Nat} {R : Int32 → Int32 → Int32 → SG → RG → Option (SG)} {a1 : Int32} {a2 : Int32} {a3 : Int32} {p : Program} {e : Env} {s : State} {m : MethodId} {args : Array Value} {below : List Frame} {meth : Method} {c : Code} {ρ0 : RG} {σ1 : SG} (C : Cx Y D N ad p s m args meth c cX11_tryOrders 6 none RX11 wsL_law) {σ : SG} {ρ : RG} {H : Heap} {locs : List Loc} {ls : Array Slot} (hρ0 : ρ = ρ0) (hL : Lay N K len ρ) (hRM : (∀ {a1 : Int32} {a2 : Int32} {a3 : Int32} {σ1 : SG} {σ : SG} {ρ : RG}, Lay N K len ρ → R a1 a2 a3 σ ρ = some σ1 → MT l Y D N ad K len yX11_tryOrders (Cond.code yX11_tryOrders cX11_tryOrders 6 none :: wsL_law) (rmk fR lR) [.ref (ad 0), .int a1, .int a2, .int a3] σ ρ none σ1 ρ)) (hF : F_X11_tryOrders_B N K len R a1 a2 a3 σ ρ = some σ1) (hP : WP Y D N ad K len σ ρ H) (hS : va_S (AA N ad s.heap.size) s.heap H locs) (hl : lv_has ls 6 [(0, .ref (ad 0)), (1, .int a1), (2, .int a2), (3, .int a3)]) : W p l e (rm_X11_tryOrders_B fR lR) s m args below meth c H locs 0 0 (MQ below (QW Y D N ad K len σ1 ρ0 (AA N ad s.heap.size) none) args s 0 0 (AA N ad s.heap.size)) (F0 m 0 ls []) := by
  have hx := C.1.1
  have hb := C.1.2.1
  unfold F_X11_tryOrders_B at hF
  refine lv_iload_n hx hb dX11_tryOrders_0 rfl (lv_at hl 1 rfl) ?_
  refine lv_aload_n hx hb dX11_tryOrders_1 rfl (lv_at hl 0 rfl) ?_
  refine get_11_0 C hP (lr_0 hL) (lk_0 hL) inlX11 mw_15 (lf_0_0 hL) dX11_tryOrders_2 ?_
  refine get_8_1 C hP (lr_1 hL) (lk_1 hL) inlX8 mw_352 dX11_tryOrders_5 ?_
  refine lv_icmp_lt (tgt := 37) hx hb dX11_tryOrders_8 (by decide) (fun c_1 => ?_) (fun c_1 => ?_) -- COND 1 by_cases c_1 : a1 < (σ 1 1)
  · have hF := ite_t hF c_1
    refine lv_iconst (v := 0) hx hb dX11_tryOrders_37 (by decide) ?_
    refine lv_istore (lv' := [(4, .int (0 : Int32)), (0, .ref (ad 0)), (1, .int a1), (2, .int a2), (3, .int a3)]) hx hb dX11_tryOrders_38 hl (by decide) rfl (fun ls hl => ?_)
    exact w_X11_tryOrders_B_40 C 1024 _ _ _ _ _ _ _ _ _ hρ0 hL hRM hF hP hS (lv_sub hl [1, 2, 3, 4, 0] rfl)
  · have hF := ite_f hF c_1
    refine lv_aload_n hx hb dX11_tryOrders_11 rfl (lv_at hl 0 rfl) ?_
    refine get_11_8 C hP (lr_0 hL) (lk_0 hL) inlX11 mw_717 dX11_tryOrders_12 ?_
    refine lv_if_eq (tgt := 26) hx hb dX11_tryOrders_15 (by decide) (fun c_38 => ?_) (fun c_38 => ?_) -- COND 38 by_cases c_38 : (σ 0 8) = 0
    · have hF := ite_t hF c_38
      exact w_X11_tryOrders_B_26 C hρ0 hL hRM hF hP hS (lv_sub hl [0, 1, 3] rfl)
    · have hF := ite_f hF c_38
      refine lv_iload_n hx hb dX11_tryOrders_18 rfl (lv_at hl 3 rfl) ?_
      refine lv_aload_n hx hb dX11_tryOrders_19 rfl (lv_at hl 0 rfl) ?_
      refine get_11_9 C hP (lr_0 hL) (lk_0 hL) inlX11 mw_718 dX11_tryOrders_20 ?_
      refine lv_icmp_ge (tgt := 36) hx hb dX11_tryOrders_23 (by decide) (fun c_42 => ?_) (fun c_42 => ?_) -- COND 42 by_cases c_42 : (σ 0 9) ≤ a3
      · have hF := ite_t hF c_42
        obtain rfl := ret_1 hF
        subst hρ0
        exact x_vret rfl C hP hS dX11_tryOrders_36
      · have hF := ite_f hF c_42
        exact w_X11_tryOrders_B_26 C hρ0 hL hRM hF hP hS (lv_sub hl [0, 1, 3] rfl)
set_option maxHeartbeats 4000000 in
set_option maxRecDepth 100000 in
theorem c_X11_tryOrders_B {N : Nat} {K len : Nat → Nat} {R : Int32 → Int32 → Int32 → SG → RG → Option (SG)} {a1 : Int32} {a2 : Int32} {a3 : Int32} {σ1 : SG} {σ : SG} {ρ : RG} (hL : Lay N K len ρ) (hRM : (∀ {a1 : Int32} {a2 : Int32} {a3 : Int32} {σ1 : SG} {σ : SG} {ρ : RG}, Lay N K len ρ → R a1 a2 a3 σ ρ = some σ1 → MT l Y D N ad K len yX11_tryOrders (Cond.code yX11_tryOrders cX11_tryOrders 6 none :: wsL_law) (rmk fR lR) [.ref (ad 0), .int a1, .int a2, .int a3] σ ρ none σ1 ρ)) (hF : F_X11_tryOrders_B N K len R a1 a2 a3 σ ρ = some σ1) : MT l Y D N ad K len yX11_tryOrders (Cond.code yX11_tryOrders cX11_tryOrders 6 none :: wsL_law) (rm_X11_tryOrders_B fR lR) [.ref (ad 0), .int a1, .int a2, .int a3] σ ρ none σ1 ρ := by
  refine mt_of (cc := cX11_tryOrders) (nL := 6) (ret := none) (by decide) (Nat.le_of_ble_eq_true rfl) ?_
  intro p e s m args below meth c ls C hnm hP hS hl
  exact w_X11_tryOrders_B_0 C rfl hL hRM hF hP hS hl

def F_X11_tryOrders_R (N : Nat) (K len : Nat → Nat) : Nat → Int32 → Int32 → Int32 → SG → RG → Option (SG)
  | 0 => fun _ _ _ _ _ => none
  | d + 1 => fun a1 a2 a3 σ ρ => F_X11_tryOrders_B N K len (F_X11_tryOrders_R N K len d) a1 a2 a3 σ ρ
def fr_X11_tryOrders_R : Nat → Nat
  | 0 => 0
  | d + 1 => 6 + fr_X11_tryOrders_R d + 1
def lo_X11_tryOrders_R : Nat → Nat
  | 0 => 0
  | d + 1 => 152 + lo_X11_tryOrders_R d
theorem c_X11_tryOrders_R (d : Nat) : ∀ {a1 : Int32} {a2 : Int32} {a3 : Int32} {σ1 : SG} {σ : SG} {ρ : RG}, Lay N K len ρ → F_X11_tryOrders_R N K len d a1 a2 a3 σ ρ = some σ1 → MT l Y D N ad K len yX11_tryOrders (Cond.code yX11_tryOrders cX11_tryOrders 6 none :: wsL_law) (rmk (fr_X11_tryOrders_R d) (lo_X11_tryOrders_R d)) [.ref (ad 0), .int a1, .int a2, .int a3] σ ρ none σ1 ρ := by
  induction d with
  | zero => intros; contradiction
  | succ d ih =>
    intro a1 a2 a3 σ1 σ ρ hL hF
    exact c_X11_tryOrders_B (R := F_X11_tryOrders_R N K len d) (fR := fr_X11_tryOrders_R d) (lR := lo_X11_tryOrders_R d) hL ih hF
def F_X11_tryOrders (N : Nat) (K len : Nat → Nat) (a1 : Int32) (a2 : Int32) (a3 : Int32) (σ : SG) (ρ : RG) : Option (SG) := F_X11_tryOrders_R N K len 8 a1 a2 a3 σ ρ
abbrev rm_X11_tryOrders : Room := { frames := 56, cells := 0, slots := 0, locals := 1216 }
theorem rm_X11_tryOrders_eq : rmk (fr_X11_tryOrders_R 8) (lo_X11_tryOrders_R 8) = rm_X11_tryOrders := rfl
theorem c_X11_tryOrders : ∀ {a1 : Int32} {a2 : Int32} {a3 : Int32} {σ1 : SG} {σ : SG} {ρ : RG}, Lay N K len ρ → F_X11_tryOrders N K len a1 a2 a3 σ ρ = some σ1 → MT l Y D N ad K len yX11_tryOrders (Cond.code yX11_tryOrders cX11_tryOrders 6 none :: wsL_law) rm_X11_tryOrders [.ref (ad 0), .int a1, .int a2, .int a3] σ ρ none σ1 ρ := rm_X11_tryOrders_eq ▸ c_X11_tryOrders_R 8

/-! CutCrooked.public int order(int);  -/
theorem dX11_order_0 : decode cX11_order 0 = .ok (.iload_n 1, 1) := by decide +kernel
theorem dX11_order_1 : decode cX11_order 1 = .ok (.iconst (-1), 1) := by decide +kernel
theorem dX11_order_2 : decode cX11_order 2 = .ok (.iconst 4, 1) := by decide +kernel
theorem dX11_order_3 : decode cX11_order 3 = .ok (.invokestatic 56, 3) := by decide +kernel
theorem dX11_order_6 : decode cX11_order 6 = .ok (.ifCond .ne 5, 3) := by decide +kernel
theorem dX11_order_9 : decode cX11_order 9 = .ok (.iconst (-1), 1) := by decide +kernel
theorem dX11_order_10 : decode cX11_order 10 = .ok (.ireturn, 1) := by decide +kernel
theorem dX11_order_11 : decode cX11_order 11 = .ok (.aload_n 0, 1) := by decide +kernel
theorem dX11_order_12 : decode cX11_order 12 = .ok (.getfield 12, 3) := by decide +kernel
theorem dX11_order_15 : decode cX11_order 15 = .ok (.getfield 89, 3) := by decide +kernel
theorem dX11_order_18 : decode cX11_order 18 = .ok (.iconst 5, 1) := by decide +kernel
theorem dX11_order_19 : decode cX11_order 19 = .ok (.if_icmp .le 6, 3) := by decide +kernel
theorem dX11_order_22 : decode cX11_order 22 = .ok (.bipush (-9), 2) := by decide +kernel
theorem dX11_order_24 : decode cX11_order 24 = .ok (.ireturn, 1) := by decide +kernel
theorem dX11_order_25 : decode cX11_order 25 = .ok (.aload_n 0, 1) := by decide +kernel
theorem dX11_order_26 : decode cX11_order 26 = .ok (.invokevirtual 176, 3) := by decide +kernel
theorem dX11_order_29 : decode cX11_order 29 = .ok (.aload_n 0, 1) := by decide +kernel
theorem dX11_order_30 : decode cX11_order 30 = .ok (.iconst 0, 1) := by decide +kernel
theorem dX11_order_31 : decode cX11_order 31 = .ok (.iconst 0, 1) := by decide +kernel
theorem dX11_order_32 : decode cX11_order 32 = .ok (.iconst 0, 1) := by decide +kernel
theorem dX11_order_33 : decode cX11_order 33 = .ok (.invokevirtual 203, 3) := by decide +kernel
theorem dX11_order_36 : decode cX11_order 36 = .ok (.aload_n 0, 1) := by decide +kernel
theorem dX11_order_37 : decode cX11_order 37 = .ok (.getfield 207, 3) := by decide +kernel
theorem dX11_order_40 : decode cX11_order 40 = .ok (.ifCond .eq 14, 3) := by decide +kernel
theorem dX11_order_43 : decode cX11_order 43 = .ok (.iload_n 1, 1) := by decide +kernel
theorem dX11_order_44 : decode cX11_order 44 = .ok (.aload_n 0, 1) := by decide +kernel
theorem dX11_order_45 : decode cX11_order 45 = .ok (.getfield 12, 3) := by decide +kernel
theorem dX11_order_48 : decode cX11_order 48 = .ok (.getfield 89, 3) := by decide +kernel
theorem dX11_order_51 : decode cX11_order 51 = .ok (.if_icmp .lt 6, 3) := by decide +kernel
theorem dX11_order_54 : decode cX11_order 54 = .ok (.bipush (-5), 2) := by decide +kernel
theorem dX11_order_56 : decode cX11_order 56 = .ok (.ireturn, 1) := by decide +kernel
theorem dX11_order_57 : decode cX11_order 57 = .ok (.iload_n 1, 1) := by decide +kernel
theorem dX11_order_58 : decode cX11_order 58 = .ok (.ifCond .ge 10, 3) := by decide +kernel
theorem dX11_order_61 : decode cX11_order 61 = .ok (.aload_n 0, 1) := by decide +kernel
theorem dX11_order_62 : decode cX11_order 62 = .ok (.getfield 211, 3) := by decide +kernel
theorem dX11_order_65 : decode cX11_order 65 = .ok (.goto 11, 3) := by decide +kernel
theorem dX11_order_68 : decode cX11_order 68 = .ok (.aload_n 0, 1) := by decide +kernel
theorem dX11_order_69 : decode cX11_order 69 = .ok (.getfield 45, 3) := by decide +kernel
theorem dX11_order_72 : decode cX11_order 72 = .ok (.iload_n 1, 1) := by decide +kernel
theorem dX11_order_73 : decode cX11_order 73 = .ok (.invokestatic 196, 3) := by decide +kernel
theorem dX11_order_76 : decode cX11_order 76 = .ok (.ireturn, 1) := by decide +kernel
theorem hd_X11_order : yX11_order.cls = RX11 ∧ yX11_order.cls ≠ "java/lang/invoke/MethodHandle" ∧ yX11_order.cls ≠ "java/lang/invoke/VarHandle" ∧ (parseMethodDescriptor yX11_order.desc).map (fun d => d.parameters.length) = some 1 := by decide +kernel
abbrev rm_X11_order : Room := { frames := 57, cells := 0, slots := 0, locals := 1241 }
def F_X11_order (N : Nat) (K len : Nat → Nat) (a1 : Int32) (σ : SG) (ρ : RG) : Option (Int32 × SG) :=
  bn (F_X11_isWithin a1 (-1 : Int32) (4 : Int32) σ ρ) fun r1 =>
  if r1 = 0 then
    some ((-1 : Int32), σ)
  else
    if (σ 1 1) ≤ (5 : Int32) then
      bn (F_X11_startSteps σ ρ) fun σ4 =>
      bn (F_X11_tryOrders N K len (0 : Int32) (0 : Int32) (0 : Int32) σ4 ρ) fun σ5 =>
      if (σ5 0 8) = 0 then
        some ((-5 : Int32), σ5)
      else
        if a1 < (σ5 1 1) then
          if 0 ≤ a1 then
            bn (F_X11_valueAt 36 6 a1 σ5 ρ) fun r9 =>
            some (r9, σ5)
          else
            some ((σ5 0 9), σ5)
        else
          some ((-5 : Int32), σ5)
    else
      some ((-9 : Int32), σ)
set_option maxHeartbeats 4000000 in
set_option maxRecDepth 100000 in
theorem w_X11_order_0 {N : Nat} {K len : Nat → Nat} {a1 : Int32} {p : Program} {e : Env} {s : State} {m : MethodId} {args : Array Value} {below : List Frame} {meth : Method} {c : Code} {ρ0 : RG} {r : Int32} {σ1 : SG} (C : Cx Y D N ad p s m args meth c cX11_order 2 (some .int) RX11 wsL_law) {σ : SG} {ρ : RG} {H : Heap} {locs : List Loc} {ls : Array Slot} (hρ0 : ρ = ρ0) (hL : Lay N K len ρ) (hF : F_X11_order N K len a1 σ ρ = some (r, σ1)) (hP : WP Y D N ad K len σ ρ H) (hS : va_S (AA N ad s.heap.size) s.heap H locs) (hl : lv_has ls 2 [(0, .ref (ad 0)), (1, .int a1)]) : W p l e rm_X11_order s m args below meth c H locs 0 0 (MQ below (QW Y D N ad K len σ1 ρ0 (AA N ad s.heap.size) (some (.int r))) args s 0 0 (AA N ad s.heap.size)) (F0 m 0 ls []) := by
  have hx := C.1.1
  have hb := C.1.2.1
  unfold F_X11_order at hF
  refine lv_iload_n hx hb dX11_order_0 rfl (lv_at hl 1 rfl) ?_
  refine lv_iconst (v := -1) hx hb dX11_order_1 (by decide) ?_
  refine lv_iconst (v := 4) hx hb dX11_order_2 (by decide) ?_
  obtain ⟨r1, hq1, hF⟩ := bn_1 hF
  refine x_callS C hP hS (c_X11_isWithin hL hq1) (va_cwS 3 C.1.2.2.2.2 (gdS mw_97 mw_98 mw_2 mw_99) rfl rfl rfl hd_X11_isWithin.2 ⟨Nat.le_of_ble_eq_true rfl, Nat.le_of_ble_eq_true rfl⟩) rfl rfl hl.1 (Nat.le_of_ble_eq_true rfl) ⟨Nat.zero_le _, Nat.zero_le _⟩ dX11_order_3 (fun H locs hP hS => ?_)
  refine lv_if_ne (tgt := 11) hx hb dX11_order_6 (by decide) (fun c_2 => ?_) (fun c_2 => ?_) -- COND 2 rcases (Decidable.em (r1 = 0)).symm with c_2 | c_2
  · have hF := ite_f hF c_2
    refine lv_aload_n hx hb dX11_order_11 rfl (lv_at hl 0 rfl) ?_
    refine get_11_0 C hP (lr_0 hL) (lk_0 hL) inlX11 mw_15 (lf_0_0 hL) dX11_order_12 ?_
    refine get_8_1 C hP (lr_1 hL) (lk_1 hL) inlX8 mw_352 dX11_order_15 ?_
    refine lv_iconst (v := 5) hx hb dX11_order_18 (by decide) ?_
    refine lv_icmp_le (tgt := 25) hx hb dX11_order_19 (by decide) (fun c_3 => ?_) (fun c_3 => ?_) -- COND 3 by_cases c_3 : (σ 1 1) ≤ (5 : Int32)
    · have hF := ite_t hF c_3
      refine lv_aload_n hx hb dX11_order_25 rfl (lv_at hl 0 rfl) ?_
      obtain ⟨σ4, hq4, hF⟩ := bn_1 hF
      refine x_callV (ci := 11) rfl rfl C hP hS (c_X11_startSteps hL hq4) (lr_0 hL) (lk_0 hL) (cwV 0 C.1.2.2.2.2 (gdV mw_713 mw_714 mw_715 mw_2 mw_716) rfl rfl rfl hd_X11_startSteps ⟨Nat.le_of_ble_eq_true rfl, Nat.le_of_ble_eq_true rfl⟩) rfl rfl hl.1 (Nat.le_of_ble_eq_true rfl) ⟨Nat.zero_le _, Nat.zero_le _⟩ dX11_order_26 (fun H locs hP hS => ?_)
      refine lv_aload_n hx hb dX11_order_29 rfl (lv_at hl 0 rfl) ?_
      refine lv_iconst (v := 0) hx hb dX11_order_30 (by decide) ?_
      refine lv_iconst (v := 0) hx hb dX11_order_31 (by decide) ?_
      refine lv_iconst (v := 0) hx hb dX11_order_32 (by decide) ?_
      obtain ⟨σ5, hq5, hF⟩ := bn_1 hF
      refine x_callV (ci := 11) rfl rfl C hP hS (c_X11_tryOrders hL hq5) (lr_0 hL) (lk_0 hL) (cwV 3 C.1.2.2.2.2 (gdV mw_786 mw_787 mw_788 mw_2 mw_789) rfl rfl rfl hd_X11_tryOrders ⟨Nat.le_of_ble_eq_true rfl, Nat.le_of_ble_eq_true rfl⟩) rfl rfl hl.1 (Nat.le_of_ble_eq_true rfl) ⟨Nat.zero_le _, Nat.zero_le _⟩ dX11_order_33 (fun H locs hP hS => ?_)
      refine lv_aload_n hx hb dX11_order_36 rfl (lv_at hl 0 rfl) ?_
      refine get_11_8 C hP (lr_0 hL) (lk_0 hL) inlX11 mw_717 dX11_order_37 ?_
      refine lv_if_eq (tgt := 54) hx hb dX11_order_40 (by decide) (fun c_6 => ?_) (fun c_6 => ?_) -- COND 6 by_cases c_6 : (σ5 0 8) = 0
      · have hF := ite_t hF c_6
        refine lv_bipush (v := -5) hx hb dX11_order_54 (by decide +kernel) ?_
        obtain ⟨rfl, rfl⟩ := ret_2 hF
        subst hρ0
        exact x_iret rfl C hP hS dX11_order_56
      · have hF := ite_f hF c_6
        refine lv_iload_n hx hb dX11_order_43 rfl (lv_at hl 1 rfl) ?_
        refine lv_aload_n hx hb dX11_order_44 rfl (lv_at hl 0 rfl) ?_
        refine get_11_0 C hP (lr_0 hL) (lk_0 hL) inlX11 mw_15 (lf_0_0 hL) dX11_order_45 ?_
        refine get_8_1 C hP (lr_1 hL) (lk_1 hL) inlX8 mw_352 dX11_order_48 ?_
        refine lv_icmp_lt (tgt := 57) hx hb dX11_order_51 (by decide) (fun c_7 => ?_) (fun c_7 => ?_) -- COND 7 by_cases c_7 : a1 < (σ5 1 1)
        · have hF := ite_t hF c_7
          refine lv_iload_n hx hb dX11_order_57 rfl (lv_at hl 1 rfl) ?_
          refine lv_if_ge (tgt := 68) hx hb dX11_order_58 (by decide) (fun c_8 => ?_) (fun c_8 => ?_) -- COND 8 by_cases c_8 : 0 ≤ a1
          · have hF := ite_t hF c_8
            refine lv_aload_n hx hb dX11_order_68 rfl (lv_at hl 0 rfl) ?_
            refine get_11_7 C hP (lr_0 hL) (lk_0 hL) inlX11 mw_29 (lf_0_7 hL) dX11_order_69 ?_
            refine lv_iload_n hx hb dX11_order_72 rfl (lv_at hl 1 rfl) ?_
            obtain ⟨r9, hq9, hF⟩ := bn_1 hF
            refine x_callS C hP hS (c_X11_valueAt hL ⟨(lr_36 hL), (lk_36 hL), (ln_36 hL)⟩ hq9) (va_cwS 2 C.1.2.2.2.2 (gdS mw_750 mw_557 mw_2 mw_558) rfl rfl rfl hd_X11_valueAt.2 ⟨Nat.le_of_ble_eq_true rfl, Nat.le_of_ble_eq_true rfl⟩) rfl rfl hl.1 (Nat.le_of_ble_eq_true rfl) ⟨Nat.zero_le _, Nat.zero_le _⟩ dX11_order_73 (fun H locs hP hS => ?_)
            obtain ⟨rfl, rfl⟩ := ret_2 hF
            subst hρ0
            exact x_iret rfl C hP hS dX11_order_76
          · have hF := ite_f hF c_8
            refine lv_aload_n hx hb dX11_order_61 rfl (lv_at hl 0 rfl) ?_
            refine get_11_9 C hP (lr_0 hL) (lk_0 hL) inlX11 mw_718 dX11_order_62 ?_
            refine lv_goto (tgt := 76) hx hb dX11_order_65 (by decide) ?_
            obtain ⟨rfl, rfl⟩ := ret_2 hF
            subst hρ0
            exact x_iret rfl C hP hS dX11_order_76
        · have hF := ite_f hF c_7
          refine lv_bipush (v := -5) hx hb dX11_order_54 (by decide +kernel) ?_
          obtain ⟨rfl, rfl⟩ := ret_2 hF
          subst hρ0
          exact x_iret rfl C hP hS dX11_order_56
    · have hF := ite_f hF c_3
      refine lv_bipush (v := -9) hx hb dX11_order_22 (by decide +kernel) ?_
      obtain ⟨rfl, rfl⟩ := ret_2 hF
      subst hρ0
      exact x_iret rfl C hP hS dX11_order_24
  · have hF := ite_t hF c_2
    refine lv_iconst (v := -1) hx hb dX11_order_9 (by decide) ?_
    obtain ⟨rfl, rfl⟩ := ret_2 hF
    subst hρ0
    exact x_iret rfl C hP hS dX11_order_10
set_option maxHeartbeats 4000000 in
set_option maxRecDepth 100000 in
theorem c_X11_order {N : Nat} {K len : Nat → Nat} {a1 : Int32} {r : Int32} {σ1 : SG} {σ : SG} {ρ : RG} (hL : Lay N K len ρ) (hF : F_X11_order N K len a1 σ ρ = some (r, σ1)) : MT l Y D N ad K len yX11_order (Cond.code yX11_order cX11_order 2 (some .int) :: wsL_law) rm_X11_order [.ref (ad 0), .int a1] σ ρ (some (.int r)) σ1 ρ := by
  refine mt_of (cc := cX11_order) (nL := 2) (ret := (some .int)) (by decide) (Nat.le_of_ble_eq_true rfl) ?_
  intro p e s m args below meth c ls C hnm hP hS hl
  exact w_X11_order_0 C rfl hL hF hP hS hl

/-! CutCrooked.private int weekRows(int); B -/
theorem dX11_weekRows_0 : decode cX11_weekRows 0 = .ok (.iload_n 1, 1) := by decide +kernel
theorem dX11_weekRows_1 : decode cX11_weekRows 1 = .ok (.aload_n 0, 1) := by decide +kernel
theorem dX11_weekRows_2 : decode cX11_weekRows 2 = .ok (.getfield 12, 3) := by decide +kernel
theorem dX11_weekRows_5 : decode cX11_weekRows 5 = .ok (.getfield 242, 3) := by decide +kernel
theorem dX11_weekRows_8 : decode cX11_weekRows 8 = .ok (.if_icmp .lt 17, 3) := by decide +kernel
theorem dX11_weekRows_11 : decode cX11_weekRows 11 = .ok (.aload_n 0, 1) := by decide +kernel
theorem dX11_weekRows_12 : decode cX11_weekRows 12 = .ok (.getfield 207, 3) := by decide +kernel
theorem dX11_weekRows_15 : decode cX11_weekRows 15 = .ok (.ifCond .ne 8, 3) := by decide +kernel
theorem dX11_weekRows_18 : decode cX11_weekRows 18 = .ok (.aload_n 0, 1) := by decide +kernel
theorem dX11_weekRows_19 : decode cX11_weekRows 19 = .ok (.iload_n 1, 1) := by decide +kernel
theorem dX11_weekRows_20 : decode cX11_weekRows 20 = .ok (.invokevirtual 315, 3) := by decide +kernel
theorem dX11_weekRows_23 : decode cX11_weekRows 23 = .ok (.iconst 1, 1) := by decide +kernel
theorem dX11_weekRows_24 : decode cX11_weekRows 24 = .ok (.ireturn, 1) := by decide +kernel
theorem dX11_weekRows_25 : decode cX11_weekRows 25 = .ok (.iconst 0, 1) := by decide +kernel
theorem dX11_weekRows_26 : decode cX11_weekRows 26 = .ok (.istore_n 2, 1) := by decide +kernel
theorem dX11_weekRows_27 : decode cX11_weekRows 27 = .ok (.iconst 0, 1) := by decide +kernel
theorem dX11_weekRows_28 : decode cX11_weekRows 28 = .ok (.istore_n 3, 1) := by decide +kernel
theorem dX11_weekRows_29 : decode cX11_weekRows 29 = .ok (.iload_n 3, 1) := by decide +kernel
theorem dX11_weekRows_30 : decode cX11_weekRows 30 = .ok (.aload_n 0, 1) := by decide +kernel
theorem dX11_weekRows_31 : decode cX11_weekRows 31 = .ok (.getfield 12, 3) := by decide +kernel
theorem dX11_weekRows_34 : decode cX11_weekRows 34 = .ok (.getfield 89, 3) := by decide +kernel
theorem dX11_weekRows_37 : decode cX11_weekRows 37 = .ok (.if_icmp .ge 77, 3) := by decide +kernel
theorem dX11_weekRows_40 : decode cX11_weekRows 40 = .ok (.iload_n 1, 1) := by decide +kernel
theorem dX11_weekRows_41 : decode cX11_weekRows 41 = .ok (.aload_n 0, 1) := by decide +kernel
theorem dX11_weekRows_42 : decode cX11_weekRows 42 = .ok (.getfield 41, 3) := by decide +kernel
theorem dX11_weekRows_45 : decode cX11_weekRows 45 = .ok (.arraylength, 1) := by decide +kernel
theorem dX11_weekRows_46 : decode cX11_weekRows 46 = .ok (.if_icmp .ge 68, 3) := by decide +kernel
theorem dX11_weekRows_49 : decode cX11_weekRows 49 = .ok (.aload_n 0, 1) := by decide +kernel
theorem dX11_weekRows_50 : decode cX11_weekRows 50 = .ok (.iload_n 1, 1) := by decide +kernel
theorem dX11_weekRows_51 : decode cX11_weekRows 51 = .ok (.aload_n 0, 1) := by decide +kernel
theorem dX11_weekRows_52 : decode cX11_weekRows 52 = .ok (.getfield 12, 3) := by decide +kernel
theorem dX11_weekRows_55 : decode cX11_weekRows 55 = .ok (.iload_n 3, 1) := by decide +kernel
theorem dX11_weekRows_56 : decode cX11_weekRows 56 = .ok (.invokevirtual 100, 3) := by decide +kernel
theorem dX11_weekRows_59 : decode cX11_weekRows 59 = .ok (.iconst 0, 1) := by decide +kernel
theorem dX11_weekRows_60 : decode cX11_weekRows 60 = .ok (.invokevirtual 179, 3) := by decide +kernel
theorem dX11_weekRows_63 : decode cX11_weekRows 63 = .ok (.ifCond .eq 45, 3) := by decide +kernel
theorem dX11_weekRows_66 : decode cX11_weekRows 66 = .ok (.aload_n 0, 1) := by decide +kernel
theorem dX11_weekRows_67 : decode cX11_weekRows 67 = .ok (.getfield 37, 3) := by decide +kernel
theorem dX11_weekRows_70 : decode cX11_weekRows 70 = .ok (.iload_n 1, 1) := by decide +kernel
theorem dX11_weekRows_71 : decode cX11_weekRows 71 = .ok (.iconst 1, 1) := by decide +kernel
theorem dX11_weekRows_72 : decode cX11_weekRows 72 = .ok (.iadd, 1) := by decide +kernel
theorem dX11_weekRows_73 : decode cX11_weekRows 73 = .ok (.aaload, 1) := by decide +kernel
theorem dX11_weekRows_74 : decode cX11_weekRows 74 = .ok (.getfield 141, 3) := by decide +kernel
theorem dX11_weekRows_77 : decode cX11_weekRows 77 = .ok (.aload_n 0, 1) := by decide +kernel
theorem dX11_weekRows_78 : decode cX11_weekRows 78 = .ok (.getfield 12, 3) := by decide +kernel
theorem dX11_weekRows_81 : decode cX11_weekRows 81 = .ok (.getfield 245, 3) := by decide +kernel
theorem dX11_weekRows_84 : decode cX11_weekRows 84 = .ok (.iload_n 1, 1) := by decide +kernel
theorem dX11_weekRows_85 : decode cX11_weekRows 85 = .ok (.invokestatic 196, 3) := by decide +kernel
theorem dX11_weekRows_88 : decode cX11_weekRows 88 = .ok (.if_icmp .ne 20, 3) := by decide +kernel
theorem dX11_weekRows_91 : decode cX11_weekRows 91 = .ok (.aload_n 0, 1) := by decide +kernel
theorem dX11_weekRows_92 : decode cX11_weekRows 92 = .ok (.getfield 41, 3) := by decide +kernel
theorem dX11_weekRows_95 : decode cX11_weekRows 95 = .ok (.iload_n 1, 1) := by decide +kernel
theorem dX11_weekRows_96 : decode cX11_weekRows 96 = .ok (.iload_n 3, 1) := by decide +kernel
theorem dX11_weekRows_97 : decode cX11_weekRows 97 = .ok (.iastore, 1) := by decide +kernel
theorem dX11_weekRows_98 : decode cX11_weekRows 98 = .ok (.iload_n 2, 1) := by decide +kernel
theorem dX11_weekRows_99 : decode cX11_weekRows 99 = .ok (.aload_n 0, 1) := by decide +kernel
theorem dX11_weekRows_100 : decode cX11_weekRows 100 = .ok (.iload_n 1, 1) := by decide +kernel
theorem dX11_weekRows_101 : decode cX11_weekRows 101 = .ok (.iconst 1, 1) := by decide +kernel
theorem dX11_weekRows_102 : decode cX11_weekRows 102 = .ok (.iadd, 1) := by decide +kernel
theorem dX11_weekRows_103 : decode cX11_weekRows 103 = .ok (.invokevirtual 248, 3) := by decide +kernel
theorem dX11_weekRows_106 : decode cX11_weekRows 106 = .ok (.iadd, 1) := by decide +kernel
theorem dX11_weekRows_107 : decode cX11_weekRows 107 = .ok (.istore_n 2, 1) := by decide +kernel
theorem dX11_weekRows_108 : decode cX11_weekRows 108 = .ok (.iinc 3 1, 3) := by decide +kernel
theorem dX11_weekRows_111 : decode cX11_weekRows 111 = .ok (.goto (-82), 3) := by decide +kernel
theorem dX11_weekRows_114 : decode cX11_weekRows 114 = .ok (.iload_n 2, 1) := by decide +kernel
theorem dX11_weekRows_115 : decode cX11_weekRows 115 = .ok (.ireturn, 1) := by decide +kernel
theorem hd_X11_weekRows : yX11_weekRows.cls = RX11 ∧ yX11_weekRows.cls ≠ "java/lang/invoke/MethodHandle" ∧ yX11_weekRows.cls ≠ "java/lang/invoke/VarHandle" ∧ (parseMethodDescriptor yX11_weekRows.desc).map (fun d => d.parameters.length) = some 1 := by decide +kernel
abbrev rm_X11_weekRows_B (fR lR : Nat) : Room := { frames := 6 + fR + 1, cells := 0, slots := 0, locals := 152 + lR }
def F_X11_weekRows_B_108 (N : Nat) (K len : Nat → Nat) (R : Int32 → SG → RG → Option (Int32 × SG)) (a1 : Int32) (rec_29 : SG → RG → Int32 → Int32 → Int32 → Option (Int32 × SG)) (σ : SG) (ρ : RG) (v1 : Int32) (v2 : Int32) (v3 : Int32) : Option (Int32 × SG) :=
  nm (v3 + (1 : Int32)) fun x8 =>
  rec_29 σ ρ v1 v2 x8
def F_X11_weekRows_B_29 (N : Nat) (K len : Nat → Nat) (R : Int32 → SG → RG → Option (Int32 × SG)) (a1 : Int32) : Nat → SG → RG → Int32 → Int32 → Int32 → Option (Int32 × SG)
  | 0 => fun _ _ _ _ _ => none
  | n + 1 => fun σ ρ v1 v2 v3 =>
  if (σ 1 1) ≤ v3 then
    some (v2, σ)
  else
    if (6 : Int32) ≤ v1 then
      some (v2, σ)
    else
      bn (F_X8_cutterAt_1 v3 σ ρ) fun o4 =>
      oc o4
       (
        bn (F_X11_tryStep_n v1 (0 : Int32) σ ρ) fun r6 =>
        if r6 = 0 then
          F_X11_weekRows_B_108 N K len R a1 (F_X11_weekRows_B_29 N K len R a1 n) σ ρ v1 v2 v3
        else
          nm (v1 + (1 : Int32)) fun x9 =>
          gd (inb x9 7) <|
          oc (ρ 34 (x9).toNatClampNeg)
           (
            none)
           (fun c11 =>
            gd (isLb c11) <|
            bn (F_X11_valueAt 11 4 v1 σ ρ) fun r12 =>
            if (σ c11 2) = r12 then
              gd (inb v1 6) <|
              nm (s2 σ 35 (v1).toNatClampNeg v3) fun σ16 =>
              nm (v1 + (1 : Int32)) fun x17 =>
              bn2 (R x17 σ16 ρ) fun r18 σ18 =>
              nm (v2 + r18) fun x19 =>
              F_X11_weekRows_B_108 N K len R a1 (F_X11_weekRows_B_29 N K len R a1 n) σ18 ρ v1 x19 v3
            else
              F_X11_weekRows_B_108 N K len R a1 (F_X11_weekRows_B_29 N K len R a1 n) σ ρ v1 v2 v3))
       (fun c5 =>
        gd (isC N K c5) <|
        bn2 (F_X11_tryStep N K len v1 c5 (0 : Int32) σ ρ) fun r20 σ20 =>
        if r20 = 0 then
          F_X11_weekRows_B_108 N K len R a1 (F_X11_weekRows_B_29 N K len R a1 n) σ20 ρ v1 v2 v3
        else
          nm (v1 + (1 : Int32)) fun x22 =>
          gd (inb x22 7) <|
          oc (ρ 34 (x22).toNatClampNeg)
           (
            none)
           (fun c24 =>
            gd (isLb c24) <|
            bn (F_X11_valueAt 11 4 v1 σ20 ρ) fun r25 =>
            if (σ20 c24 2) = r25 then
              gd (inb v1 6) <|
              nm (s2 σ20 35 (v1).toNatClampNeg v3) fun σ29 =>
              nm (v1 + (1 : Int32)) fun x30 =>
              bn2 (R x30 σ29 ρ) fun r31 σ31 =>
              nm (v2 + r31) fun x32 =>
              F_X11_weekRows_B_108 N K len R a1 (F_X11_weekRows_B_29 N K len R a1 n) σ31 ρ v1 x32 v3
            else
              F_X11_weekRows_B_108 N K len R a1 (F_X11_weekRows_B_29 N K len R a1 n) σ20 ρ v1 v2 v3))
def F_X11_weekRows_B (N : Nat) (K len : Nat → Nat) (R : Int32 → SG → RG → Option (Int32 × SG)) (a1 : Int32) (σ : SG) (ρ : RG) : Option (Int32 × SG) :=
  if a1 < (σ 1 10) then
    F_X11_weekRows_B_29 N K len R a1 1024 σ ρ a1 (0 : Int32) (0 : Int32)
  else
    if (σ 0 8) = 0 then
      bn (F_X11_keepPath a1 σ ρ) fun σ34 =>
      some ((1 : Int32), σ34)
    else
      some ((1 : Int32), σ)
set_option maxHeartbeats 4000000 in
set_option maxRecDepth 100000 in
theorem w_X11_weekRows_B_108 {N : Nat} {K len : Nat → Nat} {R : Int32 → SG → RG → Option (Int32 × SG)} {a1 : Int32} {rec_29 : SG → RG → Int32 → Int32 → Int32 → Option (Int32 × SG)} {p : Program} {e : Env} {s : State} {m : MethodId} {args : Array Value} {below : List Frame} {meth : Method} {c : Code} {ρ0 : RG} {r : Int32} {σ1 : SG} (C : Cx Y D N ad p s m args meth c cX11_weekRows 4 (some .int) RX11 wsL_law) (hrec_29 : ∀ (σ : SG) (ρ : RG) (v1 : Int32) (v2 : Int32) (v3 : Int32) (H : Heap) (locs : List Loc) (ls : Array Slot), ρ = ρ0 → Lay N K len ρ → (∀ {a1 : Int32} {r : Int32} {σ1 : SG} {σ : SG} {ρ : RG}, Lay N K len ρ → R a1 σ ρ = some (r, σ1) → MT l Y D N ad K len yX11_weekRows (Cond.code yX11_weekRows cX11_weekRows 4 (some .int) :: wsL_law) (rmk fR lR) [.ref (ad 0), .int a1] σ ρ (some (.int r)) σ1 ρ) → rec_29 σ ρ v1 v2 v3 = some (r, σ1) → WP Y D N ad K len σ ρ H → va_S (AA N ad s.heap.size) s.heap H locs → lv_has ls 4 [(0, .ref (ad 0)), (1, .int v1), (2, .int v2), (3, .int v3)] → W p l e (rm_X11_weekRows_B fR lR) s m args below meth c H locs 0 0 (MQ below (QW Y D N ad K len σ1 ρ0 (AA N ad s.heap.size) (some (.int r))) args s 0 0 (AA N ad s.heap.size)) (F0 m 29 ls [])) {σ : SG} {ρ : RG} {v1 : Int32} {v2 : Int32} {v3 : Int32} {H : Heap} {locs : List Loc} {ls : Array Slot} (hρ0 : ρ = ρ0) (hL : Lay N K len ρ) (hRM : (∀ {a1 : Int32} {r : Int32} {σ1 : SG} {σ : SG} {ρ : RG}, Lay N K len ρ → R a1 σ ρ = some (r, σ1) → MT l Y D N ad K len yX11_weekRows (Cond.code yX11_weekRows cX11_weekRows 4 (some .int) :: wsL_law) (rmk fR lR) [.ref (ad 0), .int a1] σ ρ (some (.int r)) σ1 ρ)) (hF : F_X11_weekRows_B_108 N K len R a1 rec_29 σ ρ v1 v2 v3 = some (r, σ1)) (hP : WP Y D N ad K len σ ρ H) (hS : va_S (AA N ad s.heap.size) s.heap H locs) (hl : lv_has ls 4 [(0, .ref (ad 0)), (1, .int v1), (2, .int v2), (3, .int v3)]) : W p l e (rm_X11_weekRows_B fR lR) s m args below meth c H locs 0 0 (MQ below (QW Y D N ad K len σ1 ρ0 (AA N ad s.heap.size) (some (.int r))) args s 0 0 (AA N ad s.heap.size)) (F0 m 108 ls []) := by
  have hx := C.1.1
  have hb := C.1.2.1
  unfold F_X11_weekRows_B_108 at hF
  obtain ⟨x8, ex8, hF⟩ := nm_1 hF
  refine lv_iinc (v := x8) (lv' := [(3, .int x8), (0, .ref (ad 0)), (1, .int v1), (2, .int v2)]) hx hb dX11_weekRows_108 hl (k := 3) rfl (by rw [ex8]; first | rfl | decide) (by decide) rfl (fun ls hl => ?_)
  refine lv_goto (tgt := 29) hx hb dX11_weekRows_111 (by decide) ?_
  exact hrec_29 _ _ _ _ _ _ _ _ hρ0 hL hRM hF hP hS (lv_sub hl [1, 2, 3, 0] rfl)
set_option maxHeartbeats 4000000 in
set_option maxRecDepth 100000 in
theorem w_X11_weekRows_B_29 {N : Nat} {K len : Nat → Nat} {R : Int32 → SG → RG → Option (Int32 × SG)} {a1 : Int32} {p : Program} {e : Env} {s : State} {m : MethodId} {args : Array Value} {below : List Frame} {meth : Method} {c : Code} {ρ0 : RG} {r : Int32} {σ1 : SG} (C : Cx Y D N ad p s m args meth c cX11_weekRows 4 (some .int) RX11 wsL_law) : ∀ (n : Nat) (σ : SG) (ρ : RG) (v1 : Int32) (v2 : Int32) (v3 : Int32) (H : Heap) (locs : List Loc) (ls : Array Slot), ρ = ρ0 → Lay N K len ρ → (∀ {a1 : Int32} {r : Int32} {σ1 : SG} {σ : SG} {ρ : RG}, Lay N K len ρ → R a1 σ ρ = some (r, σ1) → MT l Y D N ad K len yX11_weekRows (Cond.code yX11_weekRows cX11_weekRows 4 (some .int) :: wsL_law) (rmk fR lR) [.ref (ad 0), .int a1] σ ρ (some (.int r)) σ1 ρ) → F_X11_weekRows_B_29 N K len R a1 n σ ρ v1 v2 v3 = some (r, σ1) → WP Y D N ad K len σ ρ H → va_S (AA N ad s.heap.size) s.heap H locs → lv_has ls 4 [(0, .ref (ad 0)), (1, .int v1), (2, .int v2), (3, .int v3)] → W p l e (rm_X11_weekRows_B fR lR) s m args below meth c H locs 0 0 (MQ below (QW Y D N ad K len σ1 ρ0 (AA N ad s.heap.size) (some (.int r))) args s 0 0 (AA N ad s.heap.size)) (F0 m 29 ls []) := by
  have hx := C.1.1
  have hb := C.1.2.1
  intro n
  induction n with
  | zero => intro σ ρ v1 v2 v3 H locs ls hρ0 hL hRM hF; cases hF
  | succ n ih =>
    intro σ ρ v1 v2 v3 H locs ls hρ0 hL hRM hF hP hS hl
    unfold F_X11_weekRows_B_29 at hF
    refine lv_iload_n hx hb dX11_weekRows_29 rfl (lv_at hl 3 rfl) ?_
    refine lv_aload_n hx hb dX11_weekRows_30 rfl (lv_at hl 0 rfl) ?_
    refine get_11_0 C hP (lr_0 hL) (lk_0 hL) inlX11 mw_15 (lf_0_0 hL) dX11_weekRows_31 ?_
    refine get_8_1 C hP (lr_1 hL) (lk_1 hL) inlX8 mw_352 dX11_weekRows_34 ?_
    refine lv_icmp_ge (tgt := 114) hx hb dX11_weekRows_37 (by decide) (fun c_2 => ?_) (fun c_2 => ?_) -- COND 2 by_cases c_2 : (σ 1 1) ≤ v3
    · have hF := ite_t hF c_2
      refine lv_iload_n hx hb dX11_weekRows_114 rfl (lv_at hl 2 rfl) ?_
      obtain ⟨rfl, rfl⟩ := ret_2 hF
      subst hρ0
      exact x_iret rfl C hP hS dX11_weekRows_115
    · have hF := ite_f hF c_2
      refine lv_iload_n hx hb dX11_weekRows_40 rfl (lv_at hl 1 rfl) ?_
      refine lv_aload_n hx hb dX11_weekRows_41 rfl (lv_at hl 0 rfl) ?_
      refine get_11_6 C hP (lr_0 hL) (lk_0 hL) inlX11 mw_28 (lf_0_6 hL) dX11_weekRows_42 ?_
      refine x_alen (v := (6 : Int32)) C hP (lr_35 hL) (lk_35 hL) (by decide) (ln_35 hL) (by decide +kernel) dX11_weekRows_45 ?_
      refine lv_icmp_ge (tgt := 114) hx hb dX11_weekRows_46 (by decide) (fun c_3 => ?_) (fun c_3 => ?_) -- COND 3 by_cases c_3 : (6 : Int32) ≤ v1
      · have hF := ite_t hF c_3
        refine lv_iload_n hx hb dX11_weekRows_114 rfl (lv_at hl 2 rfl) ?_
        obtain ⟨rfl, rfl⟩ := ret_2 hF
        subst hρ0
        exact x_iret rfl C hP hS dX11_weekRows_115
      · have hF := ite_f hF c_3
        refine lv_aload_n hx hb dX11_weekRows_49 rfl (lv_at hl 0 rfl) ?_
        refine lv_iload_n hx hb dX11_weekRows_50 rfl (lv_at hl 1 rfl) ?_
        refine lv_aload_n hx hb dX11_weekRows_51 rfl (lv_at hl 0 rfl) ?_
        refine get_11_0 C hP (lr_0 hL) (lk_0 hL) inlX11 mw_15 (lf_0_0 hL) dX11_weekRows_52 ?_
        refine lv_iload_n hx hb dX11_weekRows_55 rfl (lv_at hl 3 rfl) ?_
        obtain ⟨o4, hq4, hF⟩ := bn_1 hF
        refine x_callV (ci := 8) rfl rfl C hP hS (c_X8_cutterAt_1 hL hq4) (lr_1 hL) (lk_1 hL) (cwV 1 C.1.2.2.2.2 (gdV mw_428 mw_429 mw_430 mw_14 mw_431) rfl rfl rfl hd_X8_cutterAt ⟨by show 1 ≤ 6 + fR + 1; omega, by show 21 ≤ 152 + lR; omega⟩) rfl rfl hl.1 (Nat.le_of_ble_eq_true rfl) ⟨Nat.zero_le _, Nat.zero_le _⟩ dX11_weekRows_56 (fun H locs hP hS => ?_)
        rcases ho5 : o4 with _ | c5
        · have hF := oc_n hF ho5
          refine x_n ?_
          refine lv_iconst (v := 0) hx hb dX11_weekRows_59 (by decide) ?_
          obtain ⟨r6, hq6, hF⟩ := bn_1 hF
          refine x_callV (ci := 11) rfl rfl C hP hS (c_X11_tryStep_n hL hq6) (lr_0 hL) (lk_0 hL) (cwV 3 C.1.2.2.2.2 (gdV mw_724 mw_725 mw_726 mw_2 mw_727) rfl rfl rfl hd_X11_tryStep ⟨by show 1 ≤ 6 + fR + 1; omega, by show 23 ≤ 152 + lR; omega⟩) rfl rfl hl.1 (Nat.le_of_ble_eq_true rfl) ⟨Nat.zero_le _, Nat.zero_le _⟩ dX11_weekRows_60 (fun H locs hP hS => ?_)
          refine lv_if_eq (tgt := 108) hx hb dX11_weekRows_63 (by decide) (fun c_7 => ?_) (fun c_7 => ?_) -- COND 7 by_cases c_7 : r6 = 0
          · have hF := ite_t hF c_7
            exact w_X11_weekRows_B_108 C ih hρ0 hL hRM hF hP hS (lv_sub hl [0, 1, 2, 3] rfl)
          · have hF := ite_f hF c_7
            refine lv_aload_n hx hb dX11_weekRows_66 rfl (lv_at hl 0 rfl) ?_
            refine get_11_5 C hP (lr_0 hL) (lk_0 hL) inlX11 mw_26 (lf_0_5 hL) dX11_weekRows_67 ?_
            refine lv_iload_n hx hb dX11_weekRows_70 rfl (lv_at hl 1 rfl) ?_
            refine lv_iconst (v := 1) hx hb dX11_weekRows_71 (by decide) ?_
            refine lv_iadd hx hb dX11_weekRows_72 ?_
            obtain ⟨x9, ex9, hF⟩ := nm_1 hF
            refine x_top ex9 ?_
            obtain ⟨g10, hF⟩ := gd_1 hF
            refine x_aald (v := rf ad (ρ 34 (x9).toNatClampNeg)) C hP (lr_34 hL) (lk_34 hL) (Or.inr ⟨rfl, rfl, rfl⟩) (ln_34 hL) g10 rfl dX11_weekRows_73 ?_
            rcases ho11 : (ρ 34 (x9).toNatClampNeg) with _ | c11
            · have hF := oc_n hF ho11
              refine x_n ?_
              cases hF
            · have hF := oc_s hF ho11
              refine x_s ?_
              obtain ⟨gc11, hF⟩ := gd_1 hF
              refine get_3_2 C hP (il_of hL gc11).1 (il_of hL gc11).2.1 inlX3 mw_500 dX11_weekRows_74 ?_
              refine lv_aload_n hx hb dX11_weekRows_77 rfl (lv_at hl 0 rfl) ?_
              refine get_11_0 C hP (lr_0 hL) (lk_0 hL) inlX11 mw_15 (lf_0_0 hL) dX11_weekRows_78 ?_
              refine get_8_9 C hP (lr_1 hL) (lk_1 hL) inlX8 mw_921 (lf_1_9 hL) dX11_weekRows_81 ?_
              refine lv_iload_n hx hb dX11_weekRows_84 rfl (lv_at hl 1 rfl) ?_
              obtain ⟨r12, hq12, hF⟩ := bn_1 hF
              refine x_callS C hP hS (c_X11_valueAt hL ⟨(lr_11 hL), (lk_11 hL), (ln_11 hL)⟩ hq12) (va_cwS 2 C.1.2.2.2.2 (gdS mw_750 mw_557 mw_2 mw_558) rfl rfl rfl hd_X11_valueAt.2 ⟨by show 1 ≤ 6 + fR + 1; omega, by show 21 ≤ 152 + lR; omega⟩) rfl rfl hl.1 (Nat.le_of_ble_eq_true rfl) ⟨Nat.zero_le _, Nat.zero_le _⟩ dX11_weekRows_85 (fun H locs hP hS => ?_)
              refine lv_icmp_ne (tgt := 108) hx hb dX11_weekRows_88 (by decide) (fun c_13 => ?_) (fun c_13 => ?_) -- COND 13 rcases (Decidable.em ((σ c11 2) = r12)).symm with c_13 | c_13
              · have hF := ite_f hF c_13
                exact w_X11_weekRows_B_108 C ih hρ0 hL hRM hF hP hS (lv_sub hl [0, 1, 2, 3] rfl)
              · have hF := ite_t hF c_13
                refine lv_aload_n hx hb dX11_weekRows_91 rfl (lv_at hl 0 rfl) ?_
                refine get_11_6 C hP (lr_0 hL) (lk_0 hL) inlX11 mw_28 (lf_0_6 hL) dX11_weekRows_92 ?_
                refine lv_iload_n hx hb dX11_weekRows_95 rfl (lv_at hl 1 rfl) ?_
                refine lv_iload_n hx hb dX11_weekRows_96 rfl (lv_at hl 3 rfl) ?_
                obtain ⟨g14, hF⟩ := gd_1 hF
                obtain ⟨σ16, eσ16, hF⟩ := nm_1 hF
                refine x_iast (σ1 := σ16) C hP hS (lr_35 hL) (lk_35 hL) (ln_35 hL) g14 eσ16 dX11_weekRows_97 (fun H locs hP hS => ?_)
                refine lv_iload_n hx hb dX11_weekRows_98 rfl (lv_at hl 2 rfl) ?_
                refine lv_aload_n hx hb dX11_weekRows_99 rfl (lv_at hl 0 rfl) ?_
                refine lv_iload_n hx hb dX11_weekRows_100 rfl (lv_at hl 1 rfl) ?_
                refine lv_iconst (v := 1) hx hb dX11_weekRows_101 (by decide) ?_
                refine lv_iadd hx hb dX11_weekRows_102 ?_
                obtain ⟨x17, ex17, hF⟩ := nm_1 hF
                refine x_top ex17 ?_
                obtain ⟨r18, σ18, hq18, hF⟩ := bn2_1 hF
                refine x_callV (ci := 11) rfl rfl C hP hS (hRM hL hq18) (lr_0 hL) (lk_0 hL) (cwV 1 C.1.2.2.2.2 (gdV mw_938 mw_939 mw_940 mw_2 mw_941) rfl rfl rfl hd_X11_weekRows ⟨by show fR + 1 ≤ 6 + fR + 1; omega, by show 23 + lR ≤ 152 + lR; omega⟩) rfl rfl hl.1 (Nat.le_of_ble_eq_true rfl) ⟨Nat.zero_le _, Nat.zero_le _⟩ dX11_weekRows_103 (fun H locs hP hS => ?_)
                refine lv_iadd hx hb dX11_weekRows_106 ?_
                obtain ⟨x19, ex19, hF⟩ := nm_1 hF
                refine x_top ex19 ?_
                refine lv_istore_n (lv' := [(2, .int x19), (0, .ref (ad 0)), (1, .int v1), (3, .int v3)]) hx hb dX11_weekRows_107 rfl hl (by decide) rfl (fun ls hl => ?_)
                exact w_X11_weekRows_B_108 C ih hρ0 hL hRM hF hP hS (lv_sub hl [1, 2, 0, 3] rfl)
        · have hF := oc_s hF ho5
          refine x_s ?_
          obtain ⟨gc5, hF⟩ := gd_1 hF
          refine lv_iconst (v := 0) hx hb dX11_weekRows_59 (by decide) ?_
          obtain ⟨r20, σ20, hq20, hF⟩ := bn2_1 hF
          refine x_callV (ci := 11) rfl rfl C hP hS (c_X11_tryStep hL gc5 hq20) (lr_0 hL) (lk_0 hL) (cwV 3 C.1.2.2.2.2 (gdV mw_724 mw_725 mw_726 mw_2 mw_727) rfl rfl rfl hd_X11_tryStep ⟨by show 6 ≤ 6 + fR + 1; omega, by show 152 ≤ 152 + lR; omega⟩) rfl rfl hl.1 (Nat.le_of_ble_eq_true rfl) ⟨Nat.zero_le _, Nat.zero_le _⟩ dX11_weekRows_60 (fun H locs hP hS => ?_)
          refine lv_if_eq (tgt := 108) hx hb dX11_weekRows_63 (by decide) (fun c_21 => ?_) (fun c_21 => ?_) -- COND 21 by_cases c_21 : r20 = 0
          · have hF := ite_t hF c_21
            exact w_X11_weekRows_B_108 C ih hρ0 hL hRM hF hP hS (lv_sub hl [0, 1, 2, 3] rfl)
          · have hF := ite_f hF c_21
            refine lv_aload_n hx hb dX11_weekRows_66 rfl (lv_at hl 0 rfl) ?_
            refine get_11_5 C hP (lr_0 hL) (lk_0 hL) inlX11 mw_26 (lf_0_5 hL) dX11_weekRows_67 ?_
            refine lv_iload_n hx hb dX11_weekRows_70 rfl (lv_at hl 1 rfl) ?_
            refine lv_iconst (v := 1) hx hb dX11_weekRows_71 (by decide) ?_
            refine lv_iadd hx hb dX11_weekRows_72 ?_
            obtain ⟨x22, ex22, hF⟩ := nm_1 hF
            refine x_top ex22 ?_
            obtain ⟨g23, hF⟩ := gd_1 hF
            refine x_aald (v := rf ad (ρ 34 (x22).toNatClampNeg)) C hP (lr_34 hL) (lk_34 hL) (Or.inr ⟨rfl, rfl, rfl⟩) (ln_34 hL) g23 rfl dX11_weekRows_73 ?_
            rcases ho24 : (ρ 34 (x22).toNatClampNeg) with _ | c24
            · have hF := oc_n hF ho24
              refine x_n ?_
              cases hF
            · have hF := oc_s hF ho24
              refine x_s ?_
              obtain ⟨gc24, hF⟩ := gd_1 hF
              refine get_3_2 C hP (il_of hL gc24).1 (il_of hL gc24).2.1 inlX3 mw_500 dX11_weekRows_74 ?_
              refine lv_aload_n hx hb dX11_weekRows_77 rfl (lv_at hl 0 rfl) ?_
              refine get_11_0 C hP (lr_0 hL) (lk_0 hL) inlX11 mw_15 (lf_0_0 hL) dX11_weekRows_78 ?_
              refine get_8_9 C hP (lr_1 hL) (lk_1 hL) inlX8 mw_921 (lf_1_9 hL) dX11_weekRows_81 ?_
              refine lv_iload_n hx hb dX11_weekRows_84 rfl (lv_at hl 1 rfl) ?_
              obtain ⟨r25, hq25, hF⟩ := bn_1 hF
              refine x_callS C hP hS (c_X11_valueAt hL ⟨(lr_11 hL), (lk_11 hL), (ln_11 hL)⟩ hq25) (va_cwS 2 C.1.2.2.2.2 (gdS mw_750 mw_557 mw_2 mw_558) rfl rfl rfl hd_X11_valueAt.2 ⟨by show 1 ≤ 6 + fR + 1; omega, by show 21 ≤ 152 + lR; omega⟩) rfl rfl hl.1 (Nat.le_of_ble_eq_true rfl) ⟨Nat.zero_le _, Nat.zero_le _⟩ dX11_weekRows_85 (fun H locs hP hS => ?_)
              refine lv_icmp_ne (tgt := 108) hx hb dX11_weekRows_88 (by decide) (fun c_26 => ?_) (fun c_26 => ?_) -- COND 26 rcases (Decidable.em ((σ20 c24 2) = r25)).symm with c_26 | c_26
              · have hF := ite_f hF c_26
                exact w_X11_weekRows_B_108 C ih hρ0 hL hRM hF hP hS (lv_sub hl [0, 1, 2, 3] rfl)
              · have hF := ite_t hF c_26
                refine lv_aload_n hx hb dX11_weekRows_91 rfl (lv_at hl 0 rfl) ?_
                refine get_11_6 C hP (lr_0 hL) (lk_0 hL) inlX11 mw_28 (lf_0_6 hL) dX11_weekRows_92 ?_
                refine lv_iload_n hx hb dX11_weekRows_95 rfl (lv_at hl 1 rfl) ?_
                refine lv_iload_n hx hb dX11_weekRows_96 rfl (lv_at hl 3 rfl) ?_
                obtain ⟨g27, hF⟩ := gd_1 hF
                obtain ⟨σ29, eσ29, hF⟩ := nm_1 hF
                refine x_iast (σ1 := σ29) C hP hS (lr_35 hL) (lk_35 hL) (ln_35 hL) g27 eσ29 dX11_weekRows_97 (fun H locs hP hS => ?_)
                refine lv_iload_n hx hb dX11_weekRows_98 rfl (lv_at hl 2 rfl) ?_
                refine lv_aload_n hx hb dX11_weekRows_99 rfl (lv_at hl 0 rfl) ?_
                refine lv_iload_n hx hb dX11_weekRows_100 rfl (lv_at hl 1 rfl) ?_
                refine lv_iconst (v := 1) hx hb dX11_weekRows_101 (by decide) ?_
                refine lv_iadd hx hb dX11_weekRows_102 ?_
                obtain ⟨x30, ex30, hF⟩ := nm_1 hF
                refine x_top ex30 ?_
                obtain ⟨r31, σ31, hq31, hF⟩ := bn2_1 hF
                refine x_callV (ci := 11) rfl rfl C hP hS (hRM hL hq31) (lr_0 hL) (lk_0 hL) (cwV 1 C.1.2.2.2.2 (gdV mw_938 mw_939 mw_940 mw_2 mw_941) rfl rfl rfl hd_X11_weekRows ⟨by show fR + 1 ≤ 6 + fR + 1; omega, by show 23 + lR ≤ 152 + lR; omega⟩) rfl rfl hl.1 (Nat.le_of_ble_eq_true rfl) ⟨Nat.zero_le _, Nat.zero_le _⟩ dX11_weekRows_103 (fun H locs hP hS => ?_)
                refine lv_iadd hx hb dX11_weekRows_106 ?_
                obtain ⟨x32, ex32, hF⟩ := nm_1 hF
                refine x_top ex32 ?_
                refine lv_istore_n (lv' := [(2, .int x32), (0, .ref (ad 0)), (1, .int v1), (3, .int v3)]) hx hb dX11_weekRows_107 rfl hl (by decide) rfl (fun ls hl => ?_)
                exact w_X11_weekRows_B_108 C ih hρ0 hL hRM hF hP hS (lv_sub hl [1, 2, 0, 3] rfl)
set_option maxHeartbeats 4000000 in
set_option maxRecDepth 100000 in
theorem w_X11_weekRows_B_0 {N : Nat} {K len : Nat → Nat} {R : Int32 → SG → RG → Option (Int32 × SG)} {a1 : Int32} {p : Program} {e : Env} {s : State} {m : MethodId} {args : Array Value} {below : List Frame} {meth : Method} {c : Code} {ρ0 : RG} {r : Int32} {σ1 : SG} (C : Cx Y D N ad p s m args meth c cX11_weekRows 4 (some .int) RX11 wsL_law) {σ : SG} {ρ : RG} {H : Heap} {locs : List Loc} {ls : Array Slot} (hρ0 : ρ = ρ0) (hL : Lay N K len ρ) (hRM : (∀ {a1 : Int32} {r : Int32} {σ1 : SG} {σ : SG} {ρ : RG}, Lay N K len ρ → R a1 σ ρ = some (r, σ1) → MT l Y D N ad K len yX11_weekRows (Cond.code yX11_weekRows cX11_weekRows 4 (some .int) :: wsL_law) (rmk fR lR) [.ref (ad 0), .int a1] σ ρ (some (.int r)) σ1 ρ)) (hF : F_X11_weekRows_B N K len R a1 σ ρ = some (r, σ1)) (hP : WP Y D N ad K len σ ρ H) (hS : va_S (AA N ad s.heap.size) s.heap H locs) (hl : lv_has ls 4 [(0, .ref (ad 0)), (1, .int a1)]) : W p l e (rm_X11_weekRows_B fR lR) s m args below meth c H locs 0 0 (MQ below (QW Y D N ad K len σ1 ρ0 (AA N ad s.heap.size) (some (.int r))) args s 0 0 (AA N ad s.heap.size)) (F0 m 0 ls []) := by
  have hx := C.1.1
  have hb := C.1.2.1
  unfold F_X11_weekRows_B at hF
  refine lv_iload_n hx hb dX11_weekRows_0 rfl (lv_at hl 1 rfl) ?_
  refine lv_aload_n hx hb dX11_weekRows_1 rfl (lv_at hl 0 rfl) ?_
  refine get_11_0 C hP (lr_0 hL) (lk_0 hL) inlX11 mw_15 (lf_0_0 hL) dX11_weekRows_2 ?_
  refine get_8_10 C hP (lr_1 hL) (lk_1 hL) inlX8 mw_920 dX11_weekRows_5 ?_
  refine lv_icmp_lt (tgt := 25) hx hb dX11_weekRows_8 (by decide) (fun c_1 => ?_) (fun c_1 => ?_) -- COND 1 by_cases c_1 : a1 < (σ 1 10)
  · have hF := ite_t hF c_1
    refine lv_iconst (v := 0) hx hb dX11_weekRows_25 (by decide) ?_
    refine lv_istore_n (lv' := [(2, .int (0 : Int32)), (0, .ref (ad 0)), (1, .int a1)]) hx hb dX11_weekRows_26 rfl hl (by decide) rfl (fun ls hl => ?_)
    refine lv_iconst (v := 0) hx hb dX11_weekRows_27 (by decide) ?_
    refine lv_istore_n (lv' := [(3, .int (0 : Int32)), (2, .int (0 : Int32)), (0, .ref (ad 0)), (1, .int a1)]) hx hb dX11_weekRows_28 rfl hl (by decide) rfl (fun ls hl => ?_)
    exact w_X11_weekRows_B_29 C 1024 _ _ _ _ _ _ _ _ hρ0 hL hRM hF hP hS (lv_sub hl [2, 3, 1, 0] rfl)
  · have hF := ite_f hF c_1
    refine lv_aload_n hx hb dX11_weekRows_11 rfl (lv_at hl 0 rfl) ?_
    refine get_11_8 C hP (lr_0 hL) (lk_0 hL) inlX11 mw_717 dX11_weekRows_12 ?_
    refine lv_if_ne (tgt := 23) hx hb dX11_weekRows_15 (by decide) (fun c_33 => ?_) (fun c_33 => ?_) -- COND 33 rcases (Decidable.em ((σ 0 8) = 0)).symm with c_33 | c_33
    · have hF := ite_f hF c_33
      refine lv_iconst (v := 1) hx hb dX11_weekRows_23 (by decide) ?_
      obtain ⟨rfl, rfl⟩ := ret_2 hF
      subst hρ0
      exact x_iret rfl C hP hS dX11_weekRows_24
    · have hF := ite_t hF c_33
      refine lv_aload_n hx hb dX11_weekRows_18 rfl (lv_at hl 0 rfl) ?_
      refine lv_iload_n hx hb dX11_weekRows_19 rfl (lv_at hl 1 rfl) ?_
      obtain ⟨σ34, hq34, hF⟩ := bn_1 hF
      refine x_callV (ci := 11) rfl rfl C hP hS (c_X11_keepPath hL hq34) (lr_0 hL) (lk_0 hL) (cwV 1 C.1.2.2.2.2 (gdV mw_790 mw_791 mw_792 mw_2 mw_793) rfl rfl rfl hd_X11_keepPath ⟨by show 1 ≤ 6 + fR + 1; omega, by show 22 ≤ 152 + lR; omega⟩) rfl rfl hl.1 (Nat.le_of_ble_eq_true rfl) ⟨Nat.zero_le _, Nat.zero_le _⟩ dX11_weekRows_20 (fun H locs hP hS => ?_)
      refine lv_iconst (v := 1) hx hb dX11_weekRows_23 (by decide) ?_
      obtain ⟨rfl, rfl⟩ := ret_2 hF
      subst hρ0
      exact x_iret rfl C hP hS dX11_weekRows_24
set_option maxHeartbeats 4000000 in
set_option maxRecDepth 100000 in
theorem c_X11_weekRows_B {N : Nat} {K len : Nat → Nat} {R : Int32 → SG → RG → Option (Int32 × SG)} {a1 : Int32} {r : Int32} {σ1 : SG} {σ : SG} {ρ : RG} (hL : Lay N K len ρ) (hRM : (∀ {a1 : Int32} {r : Int32} {σ1 : SG} {σ : SG} {ρ : RG}, Lay N K len ρ → R a1 σ ρ = some (r, σ1) → MT l Y D N ad K len yX11_weekRows (Cond.code yX11_weekRows cX11_weekRows 4 (some .int) :: wsL_law) (rmk fR lR) [.ref (ad 0), .int a1] σ ρ (some (.int r)) σ1 ρ)) (hF : F_X11_weekRows_B N K len R a1 σ ρ = some (r, σ1)) : MT l Y D N ad K len yX11_weekRows (Cond.code yX11_weekRows cX11_weekRows 4 (some .int) :: wsL_law) (rm_X11_weekRows_B fR lR) [.ref (ad 0), .int a1] σ ρ (some (.int r)) σ1 ρ := by
  refine mt_of (cc := cX11_weekRows) (nL := 4) (ret := (some .int)) (by decide) (Nat.le_of_ble_eq_true rfl) ?_
  intro p e s m args below meth c ls C hnm hP hS hl
  exact w_X11_weekRows_B_0 C rfl hL hRM hF hP hS hl

def F_X11_weekRows_R (N : Nat) (K len : Nat → Nat) : Nat → Int32 → SG → RG → Option (Int32 × SG)
  | 0 => fun _ _ _ => none
  | d + 1 => fun a1 σ ρ => F_X11_weekRows_B N K len (F_X11_weekRows_R N K len d) a1 σ ρ
def fr_X11_weekRows_R : Nat → Nat
  | 0 => 0
  | d + 1 => 6 + fr_X11_weekRows_R d + 1
def lo_X11_weekRows_R : Nat → Nat
  | 0 => 0
  | d + 1 => 152 + lo_X11_weekRows_R d
theorem c_X11_weekRows_R (d : Nat) : ∀ {a1 : Int32} {r : Int32} {σ1 : SG} {σ : SG} {ρ : RG}, Lay N K len ρ → F_X11_weekRows_R N K len d a1 σ ρ = some (r, σ1) → MT l Y D N ad K len yX11_weekRows (Cond.code yX11_weekRows cX11_weekRows 4 (some .int) :: wsL_law) (rmk (fr_X11_weekRows_R d) (lo_X11_weekRows_R d)) [.ref (ad 0), .int a1] σ ρ (some (.int r)) σ1 ρ := by
  induction d with
  | zero => intros; contradiction
  | succ d ih =>
    intro a1 r σ1 σ ρ hL hF
    exact c_X11_weekRows_B (R := F_X11_weekRows_R N K len d) (fR := fr_X11_weekRows_R d) (lR := lo_X11_weekRows_R d) hL ih hF
def F_X11_weekRows (N : Nat) (K len : Nat → Nat) (a1 : Int32) (σ : SG) (ρ : RG) : Option (Int32 × SG) := F_X11_weekRows_R N K len 8 a1 σ ρ
abbrev rm_X11_weekRows : Room := { frames := 56, cells := 0, slots := 0, locals := 1216 }
theorem rm_X11_weekRows_eq : rmk (fr_X11_weekRows_R 8) (lo_X11_weekRows_R 8) = rm_X11_weekRows := rfl
theorem c_X11_weekRows : ∀ {a1 : Int32} {r : Int32} {σ1 : SG} {σ : SG} {ρ : RG}, Lay N K len ρ → F_X11_weekRows N K len a1 σ ρ = some (r, σ1) → MT l Y D N ad K len yX11_weekRows (Cond.code yX11_weekRows cX11_weekRows 4 (some .int) :: wsL_law) rm_X11_weekRows [.ref (ad 0), .int a1] σ ρ (some (.int r)) σ1 ρ := rm_X11_weekRows_eq ▸ c_X11_weekRows_R 8

/-! CutCrooked.public int rows(int);  -/
theorem dX11_rows_0 : decode cX11_rows 0 = .ok (.iload_n 1, 1) := by decide +kernel
theorem dX11_rows_1 : decode cX11_rows 1 = .ok (.iconst (-1), 1) := by decide +kernel
theorem dX11_rows_2 : decode cX11_rows 2 = .ok (.iconst 3, 1) := by decide +kernel
theorem dX11_rows_3 : decode cX11_rows 3 = .ok (.invokestatic 56, 3) := by decide +kernel
theorem dX11_rows_6 : decode cX11_rows 6 = .ok (.ifCond .ne 5, 3) := by decide +kernel
theorem dX11_rows_9 : decode cX11_rows 9 = .ok (.iconst (-1), 1) := by decide +kernel
theorem dX11_rows_10 : decode cX11_rows 10 = .ok (.ireturn, 1) := by decide +kernel
theorem dX11_rows_11 : decode cX11_rows 11 = .ok (.aload_n 0, 1) := by decide +kernel
theorem dX11_rows_12 : decode cX11_rows 12 = .ok (.invokevirtual 176, 3) := by decide +kernel
theorem dX11_rows_15 : decode cX11_rows 15 = .ok (.aload_n 0, 1) := by decide +kernel
theorem dX11_rows_16 : decode cX11_rows 16 = .ok (.iconst 0, 1) := by decide +kernel
theorem dX11_rows_17 : decode cX11_rows 17 = .ok (.invokevirtual 248, 3) := by decide +kernel
theorem dX11_rows_20 : decode cX11_rows 20 = .ok (.istore_n 2, 1) := by decide +kernel
theorem dX11_rows_21 : decode cX11_rows 21 = .ok (.iload_n 1, 1) := by decide +kernel
theorem dX11_rows_22 : decode cX11_rows 22 = .ok (.ifCond .ge 5, 3) := by decide +kernel
theorem dX11_rows_25 : decode cX11_rows 25 = .ok (.iload_n 2, 1) := by decide +kernel
theorem dX11_rows_26 : decode cX11_rows 26 = .ok (.ireturn, 1) := by decide +kernel
theorem dX11_rows_27 : decode cX11_rows 27 = .ok (.aload_n 0, 1) := by decide +kernel
theorem dX11_rows_28 : decode cX11_rows 28 = .ok (.getfield 207, 3) := by decide +kernel
theorem dX11_rows_31 : decode cX11_rows 31 = .ok (.ifCond .eq 25, 3) := by decide +kernel
theorem dX11_rows_34 : decode cX11_rows 34 = .ok (.iload_n 1, 1) := by decide +kernel
theorem dX11_rows_35 : decode cX11_rows 35 = .ok (.aload_n 0, 1) := by decide +kernel
theorem dX11_rows_36 : decode cX11_rows 36 = .ok (.getfield 12, 3) := by decide +kernel
theorem dX11_rows_39 : decode cX11_rows 39 = .ok (.getfield 242, 3) := by decide +kernel
theorem dX11_rows_42 : decode cX11_rows 42 = .ok (.if_icmp .ge 14, 3) := by decide +kernel
theorem dX11_rows_45 : decode cX11_rows 45 = .ok (.aload_n 0, 1) := by decide +kernel
theorem dX11_rows_46 : decode cX11_rows 46 = .ok (.getfield 45, 3) := by decide +kernel
theorem dX11_rows_49 : decode cX11_rows 49 = .ok (.iload_n 1, 1) := by decide +kernel
theorem dX11_rows_50 : decode cX11_rows 50 = .ok (.invokestatic 196, 3) := by decide +kernel
theorem dX11_rows_53 : decode cX11_rows 53 = .ok (.goto 5, 3) := by decide +kernel
theorem dX11_rows_56 : decode cX11_rows 56 = .ok (.bipush (-5), 2) := by decide +kernel
theorem dX11_rows_58 : decode cX11_rows 58 = .ok (.ireturn, 1) := by decide +kernel
theorem hd_X11_rows : yX11_rows.cls = RX11 ∧ yX11_rows.cls ≠ "java/lang/invoke/MethodHandle" ∧ yX11_rows.cls ≠ "java/lang/invoke/VarHandle" ∧ (parseMethodDescriptor yX11_rows.desc).map (fun d => d.parameters.length) = some 1 := by decide +kernel
abbrev rm_X11_rows : Room := { frames := 57, cells := 0, slots := 0, locals := 1239 }
def F_X11_rows (N : Nat) (K len : Nat → Nat) (a1 : Int32) (σ : SG) (ρ : RG) : Option (Int32 × SG) :=
  bn (F_X11_isWithin a1 (-1 : Int32) (3 : Int32) σ ρ) fun r1 =>
  if r1 = 0 then
    some ((-1 : Int32), σ)
  else
    bn (F_X11_startSteps σ ρ) fun σ3 =>
    bn2 (F_X11_weekRows N K len (0 : Int32) σ3 ρ) fun r4 σ4 =>
    if 0 ≤ a1 then
      if (σ4 0 8) = 0 then
        some ((-5 : Int32), σ4)
      else
        if (σ4 1 10) ≤ a1 then
          some ((-5 : Int32), σ4)
        else
          bn (F_X11_valueAt 36 6 a1 σ4 ρ) fun r8 =>
          some (r8, σ4)
    else
      some (r4, σ4)
set_option maxHeartbeats 4000000 in
set_option maxRecDepth 100000 in
theorem w_X11_rows_0 {N : Nat} {K len : Nat → Nat} {a1 : Int32} {p : Program} {e : Env} {s : State} {m : MethodId} {args : Array Value} {below : List Frame} {meth : Method} {c : Code} {ρ0 : RG} {r : Int32} {σ1 : SG} (C : Cx Y D N ad p s m args meth c cX11_rows 3 (some .int) RX11 wsL_law) {σ : SG} {ρ : RG} {H : Heap} {locs : List Loc} {ls : Array Slot} (hρ0 : ρ = ρ0) (hL : Lay N K len ρ) (hF : F_X11_rows N K len a1 σ ρ = some (r, σ1)) (hP : WP Y D N ad K len σ ρ H) (hS : va_S (AA N ad s.heap.size) s.heap H locs) (hl : lv_has ls 3 [(0, .ref (ad 0)), (1, .int a1)]) : W p l e rm_X11_rows s m args below meth c H locs 0 0 (MQ below (QW Y D N ad K len σ1 ρ0 (AA N ad s.heap.size) (some (.int r))) args s 0 0 (AA N ad s.heap.size)) (F0 m 0 ls []) := by
  have hx := C.1.1
  have hb := C.1.2.1
  unfold F_X11_rows at hF
  refine lv_iload_n hx hb dX11_rows_0 rfl (lv_at hl 1 rfl) ?_
  refine lv_iconst (v := -1) hx hb dX11_rows_1 (by decide) ?_
  refine lv_iconst (v := 3) hx hb dX11_rows_2 (by decide) ?_
  obtain ⟨r1, hq1, hF⟩ := bn_1 hF
  refine x_callS C hP hS (c_X11_isWithin hL hq1) (va_cwS 3 C.1.2.2.2.2 (gdS mw_97 mw_98 mw_2 mw_99) rfl rfl rfl hd_X11_isWithin.2 ⟨Nat.le_of_ble_eq_true rfl, Nat.le_of_ble_eq_true rfl⟩) rfl rfl hl.1 (Nat.le_of_ble_eq_true rfl) ⟨Nat.zero_le _, Nat.zero_le _⟩ dX11_rows_3 (fun H locs hP hS => ?_)
  refine lv_if_ne (tgt := 11) hx hb dX11_rows_6 (by decide) (fun c_2 => ?_) (fun c_2 => ?_) -- COND 2 rcases (Decidable.em (r1 = 0)).symm with c_2 | c_2
  · have hF := ite_f hF c_2
    refine lv_aload_n hx hb dX11_rows_11 rfl (lv_at hl 0 rfl) ?_
    obtain ⟨σ3, hq3, hF⟩ := bn_1 hF
    refine x_callV (ci := 11) rfl rfl C hP hS (c_X11_startSteps hL hq3) (lr_0 hL) (lk_0 hL) (cwV 0 C.1.2.2.2.2 (gdV mw_713 mw_714 mw_715 mw_2 mw_716) rfl rfl rfl hd_X11_startSteps ⟨Nat.le_of_ble_eq_true rfl, Nat.le_of_ble_eq_true rfl⟩) rfl rfl hl.1 (Nat.le_of_ble_eq_true rfl) ⟨Nat.zero_le _, Nat.zero_le _⟩ dX11_rows_12 (fun H locs hP hS => ?_)
    refine lv_aload_n hx hb dX11_rows_15 rfl (lv_at hl 0 rfl) ?_
    refine lv_iconst (v := 0) hx hb dX11_rows_16 (by decide) ?_
    obtain ⟨r4, σ4, hq4, hF⟩ := bn2_1 hF
    refine x_callV (ci := 11) rfl rfl C hP hS (c_X11_weekRows hL hq4) (lr_0 hL) (lk_0 hL) (cwV 1 C.1.2.2.2.2 (gdV mw_938 mw_939 mw_940 mw_2 mw_941) rfl rfl rfl hd_X11_weekRows ⟨Nat.le_of_ble_eq_true rfl, Nat.le_of_ble_eq_true rfl⟩) rfl rfl hl.1 (Nat.le_of_ble_eq_true rfl) ⟨Nat.zero_le _, Nat.zero_le _⟩ dX11_rows_17 (fun H locs hP hS => ?_)
    refine lv_istore_n (lv' := [(2, .int r4), (0, .ref (ad 0)), (1, .int a1)]) hx hb dX11_rows_20 rfl hl (by decide) rfl (fun ls hl => ?_)
    refine lv_iload_n hx hb dX11_rows_21 rfl (lv_at hl 2 rfl) ?_
    refine lv_if_ge (tgt := 27) hx hb dX11_rows_22 (by decide) (fun c_5 => ?_) (fun c_5 => ?_) -- COND 5 by_cases c_5 : 0 ≤ a1
    · have hF := ite_t hF c_5
      refine lv_aload_n hx hb dX11_rows_27 rfl (lv_at hl 1 rfl) ?_
      refine get_11_8 C hP (lr_0 hL) (lk_0 hL) inlX11 mw_717 dX11_rows_28 ?_
      refine lv_if_eq (tgt := 56) hx hb dX11_rows_31 (by decide) (fun c_6 => ?_) (fun c_6 => ?_) -- COND 6 by_cases c_6 : (σ4 0 8) = 0
      · have hF := ite_t hF c_6
        refine lv_bipush (v := -5) hx hb dX11_rows_56 (by decide +kernel) ?_
        obtain ⟨rfl, rfl⟩ := ret_2 hF
        subst hρ0
        exact x_iret rfl C hP hS dX11_rows_58
      · have hF := ite_f hF c_6
        refine lv_iload_n hx hb dX11_rows_34 rfl (lv_at hl 2 rfl) ?_
        refine lv_aload_n hx hb dX11_rows_35 rfl (lv_at hl 1 rfl) ?_
        refine get_11_0 C hP (lr_0 hL) (lk_0 hL) inlX11 mw_15 (lf_0_0 hL) dX11_rows_36 ?_
        refine get_8_10 C hP (lr_1 hL) (lk_1 hL) inlX8 mw_920 dX11_rows_39 ?_
        refine lv_icmp_ge (tgt := 56) hx hb dX11_rows_42 (by decide) (fun c_7 => ?_) (fun c_7 => ?_) -- COND 7 by_cases c_7 : (σ4 1 10) ≤ a1
        · have hF := ite_t hF c_7
          refine lv_bipush (v := -5) hx hb dX11_rows_56 (by decide +kernel) ?_
          obtain ⟨rfl, rfl⟩ := ret_2 hF
          subst hρ0
          exact x_iret rfl C hP hS dX11_rows_58
        · have hF := ite_f hF c_7
          refine lv_aload_n hx hb dX11_rows_45 rfl (lv_at hl 1 rfl) ?_
          refine get_11_7 C hP (lr_0 hL) (lk_0 hL) inlX11 mw_29 (lf_0_7 hL) dX11_rows_46 ?_
          refine lv_iload_n hx hb dX11_rows_49 rfl (lv_at hl 2 rfl) ?_
          obtain ⟨r8, hq8, hF⟩ := bn_1 hF
          refine x_callS C hP hS (c_X11_valueAt hL ⟨(lr_36 hL), (lk_36 hL), (ln_36 hL)⟩ hq8) (va_cwS 2 C.1.2.2.2.2 (gdS mw_750 mw_557 mw_2 mw_558) rfl rfl rfl hd_X11_valueAt.2 ⟨Nat.le_of_ble_eq_true rfl, Nat.le_of_ble_eq_true rfl⟩) rfl rfl hl.1 (Nat.le_of_ble_eq_true rfl) ⟨Nat.zero_le _, Nat.zero_le _⟩ dX11_rows_50 (fun H locs hP hS => ?_)
          refine lv_goto (tgt := 58) hx hb dX11_rows_53 (by decide) ?_
          obtain ⟨rfl, rfl⟩ := ret_2 hF
          subst hρ0
          exact x_iret rfl C hP hS dX11_rows_58
    · have hF := ite_f hF c_5
      refine lv_iload_n hx hb dX11_rows_25 rfl (lv_at hl 0 rfl) ?_
      obtain ⟨rfl, rfl⟩ := ret_2 hF
      subst hρ0
      exact x_iret rfl C hP hS dX11_rows_26
  · have hF := ite_t hF c_2
    refine lv_iconst (v := -1) hx hb dX11_rows_9 (by decide) ?_
    obtain ⟨rfl, rfl⟩ := ret_2 hF
    subst hρ0
    exact x_iret rfl C hP hS dX11_rows_10
set_option maxHeartbeats 4000000 in
set_option maxRecDepth 100000 in
theorem c_X11_rows {N : Nat} {K len : Nat → Nat} {a1 : Int32} {r : Int32} {σ1 : SG} {σ : SG} {ρ : RG} (hL : Lay N K len ρ) (hF : F_X11_rows N K len a1 σ ρ = some (r, σ1)) : MT l Y D N ad K len yX11_rows (Cond.code yX11_rows cX11_rows 3 (some .int) :: wsL_law) rm_X11_rows [.ref (ad 0), .int a1] σ ρ (some (.int r)) σ1 ρ := by
  refine mt_of (cc := cX11_rows) (nL := 3) (ret := (some .int)) (by decide) (Nat.le_of_ble_eq_true rfl) ?_
  intro p e s m args below meth c ls C hnm hP hS hl
  exact w_X11_rows_0 C rfl hL hF hP hS hl

/-! CutCrooked.private long goodRows(int, int); B -/
theorem dX11_goodRows_0 : decode cX11_goodRows 0 = .ok (.iload_n 1, 1) := by decide +kernel
theorem dX11_goodRows_1 : decode cX11_goodRows 1 = .ok (.iload_n 2, 1) := by decide +kernel
theorem dX11_goodRows_2 : decode cX11_goodRows 2 = .ok (.if_icmp .lt 5, 3) := by decide +kernel
theorem dX11_goodRows_5 : decode cX11_goodRows 5 = .ok (.lconst 1, 1) := by decide +kernel
theorem dX11_goodRows_6 : decode cX11_goodRows 6 = .ok (.lreturn, 1) := by decide +kernel
theorem dX11_goodRows_7 : decode cX11_goodRows 7 = .ok (.lconst 0, 1) := by decide +kernel
theorem dX11_goodRows_8 : decode cX11_goodRows 8 = .ok (.lstore_n 3, 1) := by decide +kernel
theorem dX11_goodRows_9 : decode cX11_goodRows 9 = .ok (.iconst 0, 1) := by decide +kernel
theorem dX11_goodRows_10 : decode cX11_goodRows 10 = .ok (.istore 5, 2) := by decide +kernel
theorem dX11_goodRows_12 : decode cX11_goodRows 12 = .ok (.iload 5, 2) := by decide +kernel
theorem dX11_goodRows_14 : decode cX11_goodRows 14 = .ok (.aload_n 0, 1) := by decide +kernel
theorem dX11_goodRows_15 : decode cX11_goodRows 15 = .ok (.getfield 12, 3) := by decide +kernel
theorem dX11_goodRows_18 : decode cX11_goodRows 18 = .ok (.getfield 89, 3) := by decide +kernel
theorem dX11_goodRows_21 : decode cX11_goodRows 21 = .ok (.if_icmp .ge 62, 3) := by decide +kernel
theorem dX11_goodRows_24 : decode cX11_goodRows 24 = .ok (.aload_n 0, 1) := by decide +kernel
theorem dX11_goodRows_25 : decode cX11_goodRows 25 = .ok (.iload_n 1, 1) := by decide +kernel
theorem dX11_goodRows_26 : decode cX11_goodRows 26 = .ok (.aload_n 0, 1) := by decide +kernel
theorem dX11_goodRows_27 : decode cX11_goodRows 27 = .ok (.getfield 12, 3) := by decide +kernel
theorem dX11_goodRows_30 : decode cX11_goodRows 30 = .ok (.iload 5, 2) := by decide +kernel
theorem dX11_goodRows_32 : decode cX11_goodRows 32 = .ok (.invokevirtual 100, 3) := by decide +kernel
theorem dX11_goodRows_35 : decode cX11_goodRows 35 = .ok (.iconst 0, 1) := by decide +kernel
theorem dX11_goodRows_36 : decode cX11_goodRows 36 = .ok (.invokevirtual 179, 3) := by decide +kernel
theorem dX11_goodRows_39 : decode cX11_goodRows 39 = .ok (.ifCond .eq 38, 3) := by decide +kernel
theorem dX11_goodRows_42 : decode cX11_goodRows 42 = .ok (.aload_n 0, 1) := by decide +kernel
theorem dX11_goodRows_43 : decode cX11_goodRows 43 = .ok (.getfield 37, 3) := by decide +kernel
theorem dX11_goodRows_46 : decode cX11_goodRows 46 = .ok (.iload_n 1, 1) := by decide +kernel
theorem dX11_goodRows_47 : decode cX11_goodRows 47 = .ok (.iconst 1, 1) := by decide +kernel
theorem dX11_goodRows_48 : decode cX11_goodRows 48 = .ok (.iadd, 1) := by decide +kernel
theorem dX11_goodRows_49 : decode cX11_goodRows 49 = .ok (.aaload, 1) := by decide +kernel
theorem dX11_goodRows_50 : decode cX11_goodRows 50 = .ok (.getfield 183, 3) := by decide +kernel
theorem dX11_goodRows_53 : decode cX11_goodRows 53 = .ok (.aload_n 0, 1) := by decide +kernel
theorem dX11_goodRows_54 : decode cX11_goodRows 54 = .ok (.getfield 12, 3) := by decide +kernel
theorem dX11_goodRows_57 : decode cX11_goodRows 57 = .ok (.getfield 78, 3) := by decide +kernel
theorem dX11_goodRows_60 : decode cX11_goodRows 60 = .ok (.getfield 153, 3) := by decide +kernel
theorem dX11_goodRows_63 : decode cX11_goodRows 63 = .ok (.if_icmp .lt 14, 3) := by decide +kernel
theorem dX11_goodRows_66 : decode cX11_goodRows 66 = .ok (.lload_n 3, 1) := by decide +kernel
theorem dX11_goodRows_67 : decode cX11_goodRows 67 = .ok (.aload_n 0, 1) := by decide +kernel
theorem dX11_goodRows_68 : decode cX11_goodRows 68 = .ok (.iload_n 1, 1) := by decide +kernel
theorem dX11_goodRows_69 : decode cX11_goodRows 69 = .ok (.iconst 1, 1) := by decide +kernel
theorem dX11_goodRows_70 : decode cX11_goodRows 70 = .ok (.iadd, 1) := by decide +kernel
theorem dX11_goodRows_71 : decode cX11_goodRows 71 = .ok (.iload_n 2, 1) := by decide +kernel
theorem dX11_goodRows_72 : decode cX11_goodRows 72 = .ok (.invokevirtual 253, 3) := by decide +kernel
theorem dX11_goodRows_75 : decode cX11_goodRows 75 = .ok (.ladd, 1) := by decide +kernel
theorem dX11_goodRows_76 : decode cX11_goodRows 76 = .ok (.lstore_n 3, 1) := by decide +kernel
theorem dX11_goodRows_77 : decode cX11_goodRows 77 = .ok (.iinc 5 1, 3) := by decide +kernel
theorem dX11_goodRows_80 : decode cX11_goodRows 80 = .ok (.goto (-68), 3) := by decide +kernel
theorem dX11_goodRows_83 : decode cX11_goodRows 83 = .ok (.lload_n 3, 1) := by decide +kernel
theorem dX11_goodRows_84 : decode cX11_goodRows 84 = .ok (.lreturn, 1) := by decide +kernel
theorem hd_X11_goodRows : yX11_goodRows.cls = RX11 ∧ yX11_goodRows.cls ≠ "java/lang/invoke/MethodHandle" ∧ yX11_goodRows.cls ≠ "java/lang/invoke/VarHandle" ∧ (parseMethodDescriptor yX11_goodRows.desc).map (fun d => d.parameters.length) = some 2 := by decide +kernel
abbrev rm_X11_goodRows_B (fR lR : Nat) : Room := { frames := 6 + fR + 1, cells := 0, slots := 0, locals := 152 + lR }
def F_X11_goodRows_B_77 (N : Nat) (K len : Nat → Nat) (R : Int32 → Int32 → SG → RG → Option (Int64 × SG)) (a1 : Int32) (a2 : Int32) (rec_12 : SG → RG → Int32 → Int32 → Int64 → Int32 → Option (Int64 × SG)) (σ : SG) (ρ : RG) (v1 : Int32) (v2 : Int32) (v3 : Int64) (v5 : Int32) : Option (Int64 × SG) :=
  nm (v5 + (1 : Int32)) fun x7 =>
  rec_12 σ ρ v1 v2 v3 x7
def F_X11_goodRows_B_12 (N : Nat) (K len : Nat → Nat) (R : Int32 → Int32 → SG → RG → Option (Int64 × SG)) (a1 : Int32) (a2 : Int32) : Nat → SG → RG → Int32 → Int32 → Int64 → Int32 → Option (Int64 × SG)
  | 0 => fun _ _ _ _ _ _ => none
  | n + 1 => fun σ ρ v1 v2 v3 v5 =>
  if (σ 1 1) ≤ v5 then
    some (v3, σ)
  else
    bn (F_X8_cutterAt_1 v5 σ ρ) fun o3 =>
    oc o3
     (
      bn (F_X11_tryStep_n v1 (0 : Int32) σ ρ) fun r5 =>
      if r5 = 0 then
        F_X11_goodRows_B_77 N K len R a1 a2 (F_X11_goodRows_B_12 N K len R a1 a2 n) σ ρ v1 v2 v3 v5
      else
        nm (v1 + (1 : Int32)) fun x8 =>
        gd (inb x8 7) <|
        oc (ρ 34 (x8).toNatClampNeg)
         (
          none)
         (fun c10 =>
          gd (isLb c10) <|
          if (σ c10 7) < (σ 5 0) then
            F_X11_goodRows_B_77 N K len R a1 a2 (F_X11_goodRows_B_12 N K len R a1 a2 n) σ ρ v1 v2 v3 v5
          else
            nm (v1 + (1 : Int32)) fun x12 =>
            bn2 (R x12 v2 σ ρ) fun r13 σ13 =>
            nm (v3 + r13) fun x14 =>
            F_X11_goodRows_B_77 N K len R a1 a2 (F_X11_goodRows_B_12 N K len R a1 a2 n) σ13 ρ v1 v2 x14 v5))
     (fun c4 =>
      gd (isC N K c4) <|
      bn2 (F_X11_tryStep N K len v1 c4 (0 : Int32) σ ρ) fun r15 σ15 =>
      if r15 = 0 then
        F_X11_goodRows_B_77 N K len R a1 a2 (F_X11_goodRows_B_12 N K len R a1 a2 n) σ15 ρ v1 v2 v3 v5
      else
        nm (v1 + (1 : Int32)) fun x17 =>
        gd (inb x17 7) <|
        oc (ρ 34 (x17).toNatClampNeg)
         (
          none)
         (fun c19 =>
          gd (isLb c19) <|
          if (σ15 c19 7) < (σ15 5 0) then
            F_X11_goodRows_B_77 N K len R a1 a2 (F_X11_goodRows_B_12 N K len R a1 a2 n) σ15 ρ v1 v2 v3 v5
          else
            nm (v1 + (1 : Int32)) fun x21 =>
            bn2 (R x21 v2 σ15 ρ) fun r22 σ22 =>
            nm (v3 + r22) fun x23 =>
            F_X11_goodRows_B_77 N K len R a1 a2 (F_X11_goodRows_B_12 N K len R a1 a2 n) σ22 ρ v1 v2 x23 v5))
def F_X11_goodRows_B (N : Nat) (K len : Nat → Nat) (R : Int32 → Int32 → SG → RG → Option (Int64 × SG)) (a1 : Int32) (a2 : Int32) (σ : SG) (ρ : RG) : Option (Int64 × SG) :=
  if a1 < a2 then
    F_X11_goodRows_B_12 N K len R a1 a2 1024 σ ρ a1 a2 (0 : Int64) (0 : Int32)
  else
    some ((1 : Int64), σ)
set_option maxHeartbeats 4000000 in
set_option maxRecDepth 100000 in
theorem w_X11_goodRows_B_77 {N : Nat} {K len : Nat → Nat} {R : Int32 → Int32 → SG → RG → Option (Int64 × SG)} {a1 : Int32} {a2 : Int32} {rec_12 : SG → RG → Int32 → Int32 → Int64 → Int32 → Option (Int64 × SG)} {p : Program} {e : Env} {s : State} {m : MethodId} {args : Array Value} {below : List Frame} {meth : Method} {c : Code} {ρ0 : RG} {r : Int64} {σ1 : SG} (C : Cx Y D N ad p s m args meth c cX11_goodRows 6 (some .long) RX11 wsL_law) (hrec_12 : ∀ (σ : SG) (ρ : RG) (v1 : Int32) (v2 : Int32) (v3 : Int64) (v5 : Int32) (H : Heap) (locs : List Loc) (ls : Array Slot), ρ = ρ0 → Lay N K len ρ → (∀ {a1 : Int32} {a2 : Int32} {r : Int64} {σ1 : SG} {σ : SG} {ρ : RG}, Lay N K len ρ → R a1 a2 σ ρ = some (r, σ1) → MT l Y D N ad K len yX11_goodRows (Cond.code yX11_goodRows cX11_goodRows 6 (some .long) :: wsL_law) (rmk fR lR) [.ref (ad 0), .int a1, .int a2] σ ρ (some (.long r)) σ1 ρ) → rec_12 σ ρ v1 v2 v3 v5 = some (r, σ1) → WP Y D N ad K len σ ρ H → va_S (AA N ad s.heap.size) s.heap H locs → lv_has ls 6 [(0, .ref (ad 0)), (1, .int v1), (2, .int v2), (3, .long v3), (5, .int v5)] → W p l e (rm_X11_goodRows_B fR lR) s m args below meth c H locs 0 0 (MQ below (QW Y D N ad K len σ1 ρ0 (AA N ad s.heap.size) (some (.long r))) args s 0 0 (AA N ad s.heap.size)) (F0 m 12 ls [])) {σ : SG} {ρ : RG} {v1 : Int32} {v2 : Int32} {v3 : Int64} {v5 : Int32} {H : Heap} {locs : List Loc} {ls : Array Slot} (hρ0 : ρ = ρ0) (hL : Lay N K len ρ) (hRM : (∀ {a1 : Int32} {a2 : Int32} {r : Int64} {σ1 : SG} {σ : SG} {ρ : RG}, Lay N K len ρ → R a1 a2 σ ρ = some (r, σ1) → MT l Y D N ad K len yX11_goodRows (Cond.code yX11_goodRows cX11_goodRows 6 (some .long) :: wsL_law) (rmk fR lR) [.ref (ad 0), .int a1, .int a2] σ ρ (some (.long r)) σ1 ρ)) (hF : F_X11_goodRows_B_77 N K len R a1 a2 rec_12 σ ρ v1 v2 v3 v5 = some (r, σ1)) (hP : WP Y D N ad K len σ ρ H) (hS : va_S (AA N ad s.heap.size) s.heap H locs) (hl : lv_has ls 6 [(0, .ref (ad 0)), (1, .int v1), (2, .int v2), (3, .long v3), (5, .int v5)]) : W p l e (rm_X11_goodRows_B fR lR) s m args below meth c H locs 0 0 (MQ below (QW Y D N ad K len σ1 ρ0 (AA N ad s.heap.size) (some (.long r))) args s 0 0 (AA N ad s.heap.size)) (F0 m 77 ls []) := by
  have hx := C.1.1
  have hb := C.1.2.1
  unfold F_X11_goodRows_B_77 at hF
  obtain ⟨x7, ex7, hF⟩ := nm_1 hF
  refine lv_iinc (v := x7) (lv' := [(5, .int x7), (0, .ref (ad 0)), (1, .int v1), (2, .int v2), (3, .long v3)]) hx hb dX11_goodRows_77 hl (k := 4) rfl (by rw [ex7]; first | rfl | decide) (by decide) rfl (fun ls hl => ?_)
  refine lv_goto (tgt := 12) hx hb dX11_goodRows_80 (by decide) ?_
  exact hrec_12 _ _ _ _ _ _ _ _ _ hρ0 hL hRM hF hP hS (lv_sub hl [1, 2, 3, 4, 0] rfl)
set_option maxHeartbeats 4000000 in
set_option maxRecDepth 100000 in
theorem w_X11_goodRows_B_12 {N : Nat} {K len : Nat → Nat} {R : Int32 → Int32 → SG → RG → Option (Int64 × SG)} {a1 : Int32} {a2 : Int32} {p : Program} {e : Env} {s : State} {m : MethodId} {args : Array Value} {below : List Frame} {meth : Method} {c : Code} {ρ0 : RG} {r : Int64} {σ1 : SG} (C : Cx Y D N ad p s m args meth c cX11_goodRows 6 (some .long) RX11 wsL_law) : ∀ (n : Nat) (σ : SG) (ρ : RG) (v1 : Int32) (v2 : Int32) (v3 : Int64) (v5 : Int32) (H : Heap) (locs : List Loc) (ls : Array Slot), ρ = ρ0 → Lay N K len ρ → (∀ {a1 : Int32} {a2 : Int32} {r : Int64} {σ1 : SG} {σ : SG} {ρ : RG}, Lay N K len ρ → R a1 a2 σ ρ = some (r, σ1) → MT l Y D N ad K len yX11_goodRows (Cond.code yX11_goodRows cX11_goodRows 6 (some .long) :: wsL_law) (rmk fR lR) [.ref (ad 0), .int a1, .int a2] σ ρ (some (.long r)) σ1 ρ) → F_X11_goodRows_B_12 N K len R a1 a2 n σ ρ v1 v2 v3 v5 = some (r, σ1) → WP Y D N ad K len σ ρ H → va_S (AA N ad s.heap.size) s.heap H locs → lv_has ls 6 [(0, .ref (ad 0)), (1, .int v1), (2, .int v2), (3, .long v3), (5, .int v5)] → W p l e (rm_X11_goodRows_B fR lR) s m args below meth c H locs 0 0 (MQ below (QW Y D N ad K len σ1 ρ0 (AA N ad s.heap.size) (some (.long r))) args s 0 0 (AA N ad s.heap.size)) (F0 m 12 ls []) := by
  have hx := C.1.1
  have hb := C.1.2.1
  intro n
  induction n with
  | zero => intro σ ρ v1 v2 v3 v5 H locs ls hρ0 hL hRM hF; cases hF
  | succ n ih =>
    intro σ ρ v1 v2 v3 v5 H locs ls hρ0 hL hRM hF hP hS hl
    unfold F_X11_goodRows_B_12 at hF
    refine lv_iload hx hb dX11_goodRows_12 (lv_at hl 4 rfl) ?_
    refine lv_aload_n hx hb dX11_goodRows_14 rfl (lv_at hl 0 rfl) ?_
    refine get_11_0 C hP (lr_0 hL) (lk_0 hL) inlX11 mw_15 (lf_0_0 hL) dX11_goodRows_15 ?_
    refine get_8_1 C hP (lr_1 hL) (lk_1 hL) inlX8 mw_352 dX11_goodRows_18 ?_
    refine lv_icmp_ge (tgt := 83) hx hb dX11_goodRows_21 (by decide) (fun c_2 => ?_) (fun c_2 => ?_) -- COND 2 by_cases c_2 : (σ 1 1) ≤ v5
    · have hF := ite_t hF c_2
      refine lv_lload_n hx hb dX11_goodRows_83 rfl (lv_at hl 3 rfl) ?_
      obtain ⟨rfl, rfl⟩ := ret_2 hF
      subst hρ0
      exact x_lret rfl C hP hS dX11_goodRows_84
    · have hF := ite_f hF c_2
      refine lv_aload_n hx hb dX11_goodRows_24 rfl (lv_at hl 0 rfl) ?_
      refine lv_iload_n hx hb dX11_goodRows_25 rfl (lv_at hl 1 rfl) ?_
      refine lv_aload_n hx hb dX11_goodRows_26 rfl (lv_at hl 0 rfl) ?_
      refine get_11_0 C hP (lr_0 hL) (lk_0 hL) inlX11 mw_15 (lf_0_0 hL) dX11_goodRows_27 ?_
      refine lv_iload hx hb dX11_goodRows_30 (lv_at hl 4 rfl) ?_
      obtain ⟨o3, hq3, hF⟩ := bn_1 hF
      refine x_callV (ci := 8) rfl rfl C hP hS (c_X8_cutterAt_1 hL hq3) (lr_1 hL) (lk_1 hL) (cwV 1 C.1.2.2.2.2 (gdV mw_428 mw_429 mw_430 mw_14 mw_431) rfl rfl rfl hd_X8_cutterAt ⟨by show 1 ≤ 6 + fR + 1; omega, by show 21 ≤ 152 + lR; omega⟩) rfl rfl hl.1 (Nat.le_of_ble_eq_true rfl) ⟨Nat.zero_le _, Nat.zero_le _⟩ dX11_goodRows_32 (fun H locs hP hS => ?_)
      rcases ho4 : o3 with _ | c4
      · have hF := oc_n hF ho4
        refine x_n ?_
        refine lv_iconst (v := 0) hx hb dX11_goodRows_35 (by decide) ?_
        obtain ⟨r5, hq5, hF⟩ := bn_1 hF
        refine x_callV (ci := 11) rfl rfl C hP hS (c_X11_tryStep_n hL hq5) (lr_0 hL) (lk_0 hL) (cwV 3 C.1.2.2.2.2 (gdV mw_724 mw_725 mw_726 mw_2 mw_727) rfl rfl rfl hd_X11_tryStep ⟨by show 1 ≤ 6 + fR + 1; omega, by show 23 ≤ 152 + lR; omega⟩) rfl rfl hl.1 (Nat.le_of_ble_eq_true rfl) ⟨Nat.zero_le _, Nat.zero_le _⟩ dX11_goodRows_36 (fun H locs hP hS => ?_)
        refine lv_if_eq (tgt := 77) hx hb dX11_goodRows_39 (by decide) (fun c_6 => ?_) (fun c_6 => ?_) -- COND 6 by_cases c_6 : r5 = 0
        · have hF := ite_t hF c_6
          exact w_X11_goodRows_B_77 C ih hρ0 hL hRM hF hP hS (lv_sub hl [0, 1, 2, 3, 4] rfl)
        · have hF := ite_f hF c_6
          refine lv_aload_n hx hb dX11_goodRows_42 rfl (lv_at hl 0 rfl) ?_
          refine get_11_5 C hP (lr_0 hL) (lk_0 hL) inlX11 mw_26 (lf_0_5 hL) dX11_goodRows_43 ?_
          refine lv_iload_n hx hb dX11_goodRows_46 rfl (lv_at hl 1 rfl) ?_
          refine lv_iconst (v := 1) hx hb dX11_goodRows_47 (by decide) ?_
          refine lv_iadd hx hb dX11_goodRows_48 ?_
          obtain ⟨x8, ex8, hF⟩ := nm_1 hF
          refine x_top ex8 ?_
          obtain ⟨g9, hF⟩ := gd_1 hF
          refine x_aald (v := rf ad (ρ 34 (x8).toNatClampNeg)) C hP (lr_34 hL) (lk_34 hL) (Or.inr ⟨rfl, rfl, rfl⟩) (ln_34 hL) g9 rfl dX11_goodRows_49 ?_
          rcases ho10 : (ρ 34 (x8).toNatClampNeg) with _ | c10
          · have hF := oc_n hF ho10
            refine x_n ?_
            cases hF
          · have hF := oc_s hF ho10
            refine x_s ?_
            obtain ⟨gc10, hF⟩ := gd_1 hF
            refine get_3_7 C hP (il_of hL gc10).1 (il_of hL gc10).2.1 inlX3 mw_711 dX11_goodRows_50 ?_
            refine lv_aload_n hx hb dX11_goodRows_53 rfl (lv_at hl 0 rfl) ?_
            refine get_11_0 C hP (lr_0 hL) (lk_0 hL) inlX11 mw_15 (lf_0_0 hL) dX11_goodRows_54 ?_
            refine get_8_3 C hP (lr_1 hL) (lk_1 hL) inlX8 mw_113 (lf_1_3 hL) dX11_goodRows_57 ?_
            refine get_0_0 C hP (lr_5 hL) (lk_5 hL) inlX0 mw_504 dX11_goodRows_60 ?_
            refine lv_icmp_lt (tgt := 77) hx hb dX11_goodRows_63 (by decide) (fun c_11 => ?_) (fun c_11 => ?_) -- COND 11 by_cases c_11 : (σ c10 7) < (σ 5 0)
            · have hF := ite_t hF c_11
              exact w_X11_goodRows_B_77 C ih hρ0 hL hRM hF hP hS (lv_sub hl [0, 1, 2, 3, 4] rfl)
            · have hF := ite_f hF c_11
              refine lv_lload_n hx hb dX11_goodRows_66 rfl (lv_at hl 3 rfl) ?_
              refine lv_aload_n hx hb dX11_goodRows_67 rfl (lv_at hl 0 rfl) ?_
              refine lv_iload_n hx hb dX11_goodRows_68 rfl (lv_at hl 1 rfl) ?_
              refine lv_iconst (v := 1) hx hb dX11_goodRows_69 (by decide) ?_
              refine lv_iadd hx hb dX11_goodRows_70 ?_
              obtain ⟨x12, ex12, hF⟩ := nm_1 hF
              refine x_top ex12 ?_
              refine lv_iload_n hx hb dX11_goodRows_71 rfl (lv_at hl 2 rfl) ?_
              obtain ⟨r13, σ13, hq13, hF⟩ := bn2_1 hF
              refine x_callV (ci := 11) rfl rfl C hP hS (hRM hL hq13) (lr_0 hL) (lk_0 hL) (cwV 2 C.1.2.2.2.2 (gdV mw_956 mw_957 mw_958 mw_2 mw_959) rfl rfl rfl hd_X11_goodRows ⟨by show fR + 1 ≤ 6 + fR + 1; omega, by show 25 + lR ≤ 152 + lR; omega⟩) rfl rfl hl.1 (Nat.le_of_ble_eq_true rfl) ⟨Nat.zero_le _, Nat.zero_le _⟩ dX11_goodRows_72 (fun H locs hP hS => ?_)
              refine lv_ladd hx hb dX11_goodRows_75 ?_
              obtain ⟨x14, ex14, hF⟩ := nm_1 hF
              refine x_topl ex14 ?_
              refine lv_lstore_n (lv' := [(3, .long x14), (0, .ref (ad 0)), (1, .int v1), (2, .int v2), (5, .int v5)]) hx hb dX11_goodRows_76 rfl hl (by decide) rfl (fun ls hl => ?_)
              exact w_X11_goodRows_B_77 C ih hρ0 hL hRM hF hP hS (lv_sub hl [1, 2, 3, 0, 4] rfl)
      · have hF := oc_s hF ho4
        refine x_s ?_
        obtain ⟨gc4, hF⟩ := gd_1 hF
        refine lv_iconst (v := 0) hx hb dX11_goodRows_35 (by decide) ?_
        obtain ⟨r15, σ15, hq15, hF⟩ := bn2_1 hF
        refine x_callV (ci := 11) rfl rfl C hP hS (c_X11_tryStep hL gc4 hq15) (lr_0 hL) (lk_0 hL) (cwV 3 C.1.2.2.2.2 (gdV mw_724 mw_725 mw_726 mw_2 mw_727) rfl rfl rfl hd_X11_tryStep ⟨by show 6 ≤ 6 + fR + 1; omega, by show 152 ≤ 152 + lR; omega⟩) rfl rfl hl.1 (Nat.le_of_ble_eq_true rfl) ⟨Nat.zero_le _, Nat.zero_le _⟩ dX11_goodRows_36 (fun H locs hP hS => ?_)
        refine lv_if_eq (tgt := 77) hx hb dX11_goodRows_39 (by decide) (fun c_16 => ?_) (fun c_16 => ?_) -- COND 16 by_cases c_16 : r15 = 0
        · have hF := ite_t hF c_16
          exact w_X11_goodRows_B_77 C ih hρ0 hL hRM hF hP hS (lv_sub hl [0, 1, 2, 3, 4] rfl)
        · have hF := ite_f hF c_16
          refine lv_aload_n hx hb dX11_goodRows_42 rfl (lv_at hl 0 rfl) ?_
          refine get_11_5 C hP (lr_0 hL) (lk_0 hL) inlX11 mw_26 (lf_0_5 hL) dX11_goodRows_43 ?_
          refine lv_iload_n hx hb dX11_goodRows_46 rfl (lv_at hl 1 rfl) ?_
          refine lv_iconst (v := 1) hx hb dX11_goodRows_47 (by decide) ?_
          refine lv_iadd hx hb dX11_goodRows_48 ?_
          obtain ⟨x17, ex17, hF⟩ := nm_1 hF
          refine x_top ex17 ?_
          obtain ⟨g18, hF⟩ := gd_1 hF
          refine x_aald (v := rf ad (ρ 34 (x17).toNatClampNeg)) C hP (lr_34 hL) (lk_34 hL) (Or.inr ⟨rfl, rfl, rfl⟩) (ln_34 hL) g18 rfl dX11_goodRows_49 ?_
          rcases ho19 : (ρ 34 (x17).toNatClampNeg) with _ | c19
          · have hF := oc_n hF ho19
            refine x_n ?_
            cases hF
          · have hF := oc_s hF ho19
            refine x_s ?_
            obtain ⟨gc19, hF⟩ := gd_1 hF
            refine get_3_7 C hP (il_of hL gc19).1 (il_of hL gc19).2.1 inlX3 mw_711 dX11_goodRows_50 ?_
            refine lv_aload_n hx hb dX11_goodRows_53 rfl (lv_at hl 0 rfl) ?_
            refine get_11_0 C hP (lr_0 hL) (lk_0 hL) inlX11 mw_15 (lf_0_0 hL) dX11_goodRows_54 ?_
            refine get_8_3 C hP (lr_1 hL) (lk_1 hL) inlX8 mw_113 (lf_1_3 hL) dX11_goodRows_57 ?_
            refine get_0_0 C hP (lr_5 hL) (lk_5 hL) inlX0 mw_504 dX11_goodRows_60 ?_
            refine lv_icmp_lt (tgt := 77) hx hb dX11_goodRows_63 (by decide) (fun c_20 => ?_) (fun c_20 => ?_) -- COND 20 by_cases c_20 : (σ15 c19 7) < (σ15 5 0)
            · have hF := ite_t hF c_20
              exact w_X11_goodRows_B_77 C ih hρ0 hL hRM hF hP hS (lv_sub hl [0, 1, 2, 3, 4] rfl)
            · have hF := ite_f hF c_20
              refine lv_lload_n hx hb dX11_goodRows_66 rfl (lv_at hl 3 rfl) ?_
              refine lv_aload_n hx hb dX11_goodRows_67 rfl (lv_at hl 0 rfl) ?_
              refine lv_iload_n hx hb dX11_goodRows_68 rfl (lv_at hl 1 rfl) ?_
              refine lv_iconst (v := 1) hx hb dX11_goodRows_69 (by decide) ?_
              refine lv_iadd hx hb dX11_goodRows_70 ?_
              obtain ⟨x21, ex21, hF⟩ := nm_1 hF
              refine x_top ex21 ?_
              refine lv_iload_n hx hb dX11_goodRows_71 rfl (lv_at hl 2 rfl) ?_
              obtain ⟨r22, σ22, hq22, hF⟩ := bn2_1 hF
              refine x_callV (ci := 11) rfl rfl C hP hS (hRM hL hq22) (lr_0 hL) (lk_0 hL) (cwV 2 C.1.2.2.2.2 (gdV mw_956 mw_957 mw_958 mw_2 mw_959) rfl rfl rfl hd_X11_goodRows ⟨by show fR + 1 ≤ 6 + fR + 1; omega, by show 25 + lR ≤ 152 + lR; omega⟩) rfl rfl hl.1 (Nat.le_of_ble_eq_true rfl) ⟨Nat.zero_le _, Nat.zero_le _⟩ dX11_goodRows_72 (fun H locs hP hS => ?_)
              refine lv_ladd hx hb dX11_goodRows_75 ?_
              obtain ⟨x23, ex23, hF⟩ := nm_1 hF
              refine x_topl ex23 ?_
              refine lv_lstore_n (lv' := [(3, .long x23), (0, .ref (ad 0)), (1, .int v1), (2, .int v2), (5, .int v5)]) hx hb dX11_goodRows_76 rfl hl (by decide) rfl (fun ls hl => ?_)
              exact w_X11_goodRows_B_77 C ih hρ0 hL hRM hF hP hS (lv_sub hl [1, 2, 3, 0, 4] rfl)
set_option maxHeartbeats 4000000 in
set_option maxRecDepth 100000 in
theorem w_X11_goodRows_B_0 {N : Nat} {K len : Nat → Nat} {R : Int32 → Int32 → SG → RG → Option (Int64 × SG)} {a1 : Int32} {a2 : Int32} {p : Program} {e : Env} {s : State} {m : MethodId} {args : Array Value} {below : List Frame} {meth : Method} {c : Code} {ρ0 : RG} {r : Int64} {σ1 : SG} (C : Cx Y D N ad p s m args meth c cX11_goodRows 6 (some .long) RX11 wsL_law) {σ : SG} {ρ : RG} {H : Heap} {locs : List Loc} {ls : Array Slot} (hρ0 : ρ = ρ0) (hL : Lay N K len ρ) (hRM : (∀ {a1 : Int32} {a2 : Int32} {r : Int64} {σ1 : SG} {σ : SG} {ρ : RG}, Lay N K len ρ → R a1 a2 σ ρ = some (r, σ1) → MT l Y D N ad K len yX11_goodRows (Cond.code yX11_goodRows cX11_goodRows 6 (some .long) :: wsL_law) (rmk fR lR) [.ref (ad 0), .int a1, .int a2] σ ρ (some (.long r)) σ1 ρ)) (hF : F_X11_goodRows_B N K len R a1 a2 σ ρ = some (r, σ1)) (hP : WP Y D N ad K len σ ρ H) (hS : va_S (AA N ad s.heap.size) s.heap H locs) (hl : lv_has ls 6 [(0, .ref (ad 0)), (1, .int a1), (2, .int a2)]) : W p l e (rm_X11_goodRows_B fR lR) s m args below meth c H locs 0 0 (MQ below (QW Y D N ad K len σ1 ρ0 (AA N ad s.heap.size) (some (.long r))) args s 0 0 (AA N ad s.heap.size)) (F0 m 0 ls []) := by
  have hx := C.1.1
  have hb := C.1.2.1
  unfold F_X11_goodRows_B at hF
  refine lv_iload_n hx hb dX11_goodRows_0 rfl (lv_at hl 1 rfl) ?_
  refine lv_iload_n hx hb dX11_goodRows_1 rfl (lv_at hl 2 rfl) ?_
  refine lv_icmp_lt (tgt := 7) hx hb dX11_goodRows_2 (by decide) (fun c_1 => ?_) (fun c_1 => ?_) -- COND 1 by_cases c_1 : a1 < a2
  · have hF := ite_t hF c_1
    refine lv_lconst (v := 0) hx hb dX11_goodRows_7 (by decide +kernel) ?_
    refine lv_lstore_n (lv' := [(3, .long (0 : Int64)), (0, .ref (ad 0)), (1, .int a1), (2, .int a2)]) hx hb dX11_goodRows_8 rfl hl (by decide) rfl (fun ls hl => ?_)
    refine lv_iconst (v := 0) hx hb dX11_goodRows_9 (by decide) ?_
    refine lv_istore (lv' := [(5, .int (0 : Int32)), (3, .long (0 : Int64)), (0, .ref (ad 0)), (1, .int a1), (2, .int a2)]) hx hb dX11_goodRows_10 hl (by decide) rfl (fun ls hl => ?_)
    exact w_X11_goodRows_B_12 C 1024 _ _ _ _ _ _ _ _ _ hρ0 hL hRM hF hP hS (lv_sub hl [2, 3, 4, 1, 0] rfl)
  · have hF := ite_f hF c_1
    refine lv_lconst (v := 1) hx hb dX11_goodRows_5 (by decide +kernel) ?_
    obtain ⟨rfl, rfl⟩ := ret_2 hF
    subst hρ0
    exact x_lret rfl C hP hS dX11_goodRows_6
set_option maxHeartbeats 4000000 in
set_option maxRecDepth 100000 in
theorem c_X11_goodRows_B {N : Nat} {K len : Nat → Nat} {R : Int32 → Int32 → SG → RG → Option (Int64 × SG)} {a1 : Int32} {a2 : Int32} {r : Int64} {σ1 : SG} {σ : SG} {ρ : RG} (hL : Lay N K len ρ) (hRM : (∀ {a1 : Int32} {a2 : Int32} {r : Int64} {σ1 : SG} {σ : SG} {ρ : RG}, Lay N K len ρ → R a1 a2 σ ρ = some (r, σ1) → MT l Y D N ad K len yX11_goodRows (Cond.code yX11_goodRows cX11_goodRows 6 (some .long) :: wsL_law) (rmk fR lR) [.ref (ad 0), .int a1, .int a2] σ ρ (some (.long r)) σ1 ρ)) (hF : F_X11_goodRows_B N K len R a1 a2 σ ρ = some (r, σ1)) : MT l Y D N ad K len yX11_goodRows (Cond.code yX11_goodRows cX11_goodRows 6 (some .long) :: wsL_law) (rm_X11_goodRows_B fR lR) [.ref (ad 0), .int a1, .int a2] σ ρ (some (.long r)) σ1 ρ := by
  refine mt_of (cc := cX11_goodRows) (nL := 6) (ret := (some .long)) (by decide) (Nat.le_of_ble_eq_true rfl) ?_
  intro p e s m args below meth c ls C hnm hP hS hl
  exact w_X11_goodRows_B_0 C rfl hL hRM hF hP hS hl

def F_X11_goodRows_R (N : Nat) (K len : Nat → Nat) : Nat → Int32 → Int32 → SG → RG → Option (Int64 × SG)
  | 0 => fun _ _ _ _ => none
  | d + 1 => fun a1 a2 σ ρ => F_X11_goodRows_B N K len (F_X11_goodRows_R N K len d) a1 a2 σ ρ
def fr_X11_goodRows_R : Nat → Nat
  | 0 => 0
  | d + 1 => 6 + fr_X11_goodRows_R d + 1
def lo_X11_goodRows_R : Nat → Nat
  | 0 => 0
  | d + 1 => 152 + lo_X11_goodRows_R d
theorem c_X11_goodRows_R (d : Nat) : ∀ {a1 : Int32} {a2 : Int32} {r : Int64} {σ1 : SG} {σ : SG} {ρ : RG}, Lay N K len ρ → F_X11_goodRows_R N K len d a1 a2 σ ρ = some (r, σ1) → MT l Y D N ad K len yX11_goodRows (Cond.code yX11_goodRows cX11_goodRows 6 (some .long) :: wsL_law) (rmk (fr_X11_goodRows_R d) (lo_X11_goodRows_R d)) [.ref (ad 0), .int a1, .int a2] σ ρ (some (.long r)) σ1 ρ := by
  induction d with
  | zero => intros; contradiction
  | succ d ih =>
    intro a1 a2 r σ1 σ ρ hL hF
    exact c_X11_goodRows_B (R := F_X11_goodRows_R N K len d) (fR := fr_X11_goodRows_R d) (lR := lo_X11_goodRows_R d) hL ih hF
def F_X11_goodRows (N : Nat) (K len : Nat → Nat) (a1 : Int32) (a2 : Int32) (σ : SG) (ρ : RG) : Option (Int64 × SG) := F_X11_goodRows_R N K len 6 a1 a2 σ ρ
abbrev rm_X11_goodRows : Room := { frames := 42, cells := 0, slots := 0, locals := 912 }
theorem rm_X11_goodRows_eq : rmk (fr_X11_goodRows_R 6) (lo_X11_goodRows_R 6) = rm_X11_goodRows := rfl
theorem c_X11_goodRows : ∀ {a1 : Int32} {a2 : Int32} {r : Int64} {σ1 : SG} {σ : SG} {ρ : RG}, Lay N K len ρ → F_X11_goodRows N K len a1 a2 σ ρ = some (r, σ1) → MT l Y D N ad K len yX11_goodRows (Cond.code yX11_goodRows cX11_goodRows 6 (some .long) :: wsL_law) rm_X11_goodRows [.ref (ad 0), .int a1, .int a2] σ ρ (some (.long r)) σ1 ρ := rm_X11_goodRows_eq ▸ c_X11_goodRows_R 6

/-! CutCrooked.public long odds(int, int);  -/
theorem dX11_odds_0 : decode cX11_odds 0 = .ok (.iload_n 1, 1) := by decide +kernel
theorem dX11_odds_1 : decode cX11_odds 1 = .ok (.iconst 1, 1) := by decide +kernel
theorem dX11_odds_2 : decode cX11_odds 2 = .ok (.iconst 3, 1) := by decide +kernel
theorem dX11_odds_3 : decode cX11_odds 3 = .ok (.invokestatic 56, 3) := by decide +kernel
theorem dX11_odds_6 : decode cX11_odds 6 = .ok (.ifCond .eq 22, 3) := by decide +kernel
theorem dX11_odds_9 : decode cX11_odds 9 = .ok (.iload_n 2, 1) := by decide +kernel
theorem dX11_odds_10 : decode cX11_odds 10 = .ok (.iconst 0, 1) := by decide +kernel
theorem dX11_odds_11 : decode cX11_odds 11 = .ok (.iconst 1, 1) := by decide +kernel
theorem dX11_odds_12 : decode cX11_odds 12 = .ok (.invokestatic 56, 3) := by decide +kernel
theorem dX11_odds_15 : decode cX11_odds 15 = .ok (.ifCond .eq 13, 3) := by decide +kernel
theorem dX11_odds_18 : decode cX11_odds 18 = .ok (.aload_n 0, 1) := by decide +kernel
theorem dX11_odds_19 : decode cX11_odds 19 = .ok (.getfield 12, 3) := by decide +kernel
theorem dX11_odds_22 : decode cX11_odds 22 = .ok (.getfield 89, 3) := by decide +kernel
theorem dX11_odds_25 : decode cX11_odds 25 = .ok (.ifCond .ne 7, 3) := by decide +kernel
theorem dX11_odds_28 : decode cX11_odds 28 = .ok (.ldc2_w 251, 3) := by decide +kernel
theorem dX11_odds_31 : decode cX11_odds 31 = .ok (.lreturn, 1) := by decide +kernel
theorem dX11_odds_32 : decode cX11_odds 32 = .ok (.lconst 1, 1) := by decide +kernel
theorem dX11_odds_33 : decode cX11_odds 33 = .ok (.lstore_n 3, 1) := by decide +kernel
theorem dX11_odds_34 : decode cX11_odds 34 = .ok (.iconst 0, 1) := by decide +kernel
theorem dX11_odds_35 : decode cX11_odds 35 = .ok (.istore 5, 2) := by decide +kernel
theorem dX11_odds_37 : decode cX11_odds 37 = .ok (.iload 5, 2) := by decide +kernel
theorem dX11_odds_39 : decode cX11_odds 39 = .ok (.iload_n 1, 1) := by decide +kernel
theorem dX11_odds_40 : decode cX11_odds 40 = .ok (.if_icmp .ge 20, 3) := by decide +kernel
theorem dX11_odds_43 : decode cX11_odds 43 = .ok (.lload_n 3, 1) := by decide +kernel
theorem dX11_odds_44 : decode cX11_odds 44 = .ok (.aload_n 0, 1) := by decide +kernel
theorem dX11_odds_45 : decode cX11_odds 45 = .ok (.getfield 12, 3) := by decide +kernel
theorem dX11_odds_48 : decode cX11_odds 48 = .ok (.getfield 89, 3) := by decide +kernel
theorem dX11_odds_51 : decode cX11_odds 51 = .ok (.i2l, 1) := by decide +kernel
theorem dX11_odds_52 : decode cX11_odds 52 = .ok (.lmul, 1) := by decide +kernel
theorem dX11_odds_53 : decode cX11_odds 53 = .ok (.lstore_n 3, 1) := by decide +kernel
theorem dX11_odds_54 : decode cX11_odds 54 = .ok (.iinc 5 1, 3) := by decide +kernel
theorem dX11_odds_57 : decode cX11_odds 57 = .ok (.goto (-20), 3) := by decide +kernel
theorem dX11_odds_60 : decode cX11_odds 60 = .ok (.aload_n 0, 1) := by decide +kernel
theorem dX11_odds_61 : decode cX11_odds 61 = .ok (.invokevirtual 176, 3) := by decide +kernel
theorem dX11_odds_64 : decode cX11_odds 64 = .ok (.aload_n 0, 1) := by decide +kernel
theorem dX11_odds_65 : decode cX11_odds 65 = .ok (.iconst 0, 1) := by decide +kernel
theorem dX11_odds_66 : decode cX11_odds 66 = .ok (.iload_n 1, 1) := by decide +kernel
theorem dX11_odds_67 : decode cX11_odds 67 = .ok (.invokevirtual 253, 3) := by decide +kernel
theorem dX11_odds_70 : decode cX11_odds 70 = .ok (.lload_n 3, 1) := by decide +kernel
theorem dX11_odds_71 : decode cX11_odds 71 = .ok (.iload_n 2, 1) := by decide +kernel
theorem dX11_odds_72 : decode cX11_odds 72 = .ok (.invokestatic 257, 3) := by decide +kernel
theorem dX11_odds_75 : decode cX11_odds 75 = .ok (.lreturn, 1) := by decide +kernel
theorem hd_X11_odds : yX11_odds.cls = RX11 ∧ yX11_odds.cls ≠ "java/lang/invoke/MethodHandle" ∧ yX11_odds.cls ≠ "java/lang/invoke/VarHandle" ∧ (parseMethodDescriptor yX11_odds.desc).map (fun d => d.parameters.length) = some 2 := by decide +kernel
abbrev rm_X11_odds : Room := { frames := 43, cells := 0, slots := 0, locals := 937 }
def F_X11_odds_37 (N : Nat) (K len : Nat → Nat) (a1 : Int32) (a2 : Int32) : Nat → SG → RG → Int32 → Int32 → Int64 → Int32 → Option (Int64 × SG)
  | 0 => fun _ _ _ _ _ _ => none
  | n + 1 => fun σ ρ v1 v2 v3 v5 =>
  if v1 ≤ v5 then
    bn (F_X11_startSteps σ ρ) fun σ7 =>
    bn2 (F_X11_goodRows N K len (0 : Int32) v1 σ7 ρ) fun r8 σ8 =>
    bn (F_X11_partOf r8 v3 v2 σ8 ρ) fun r9 =>
    some (r9, σ8)
  else
    nm (v3 * ((σ 1 1)).toInt64) fun x10 =>
    nm (v5 + (1 : Int32)) fun x11 =>
    F_X11_odds_37 N K len a1 a2 n σ ρ v1 v2 x10 x11
def F_X11_odds (N : Nat) (K len : Nat → Nat) (a1 : Int32) (a2 : Int32) (σ : SG) (ρ : RG) : Option (Int64 × SG) :=
  bn (F_X11_isWithin a1 (1 : Int32) (3 : Int32) σ ρ) fun r1 =>
  if r1 = 0 then
    some ((-9223372036854775808 : Int64), σ)
  else
    bn (F_X11_isWithin a2 (0 : Int32) (1 : Int32) σ ρ) fun r3 =>
    if r3 = 0 then
      some ((-9223372036854775808 : Int64), σ)
    else
      if (σ 1 1) = 0 then
        some ((-9223372036854775808 : Int64), σ)
      else
        F_X11_odds_37 N K len a1 a2 1024 σ ρ a1 a2 (1 : Int64) (0 : Int32)
set_option maxHeartbeats 4000000 in
set_option maxRecDepth 100000 in
theorem w_X11_odds_37 {N : Nat} {K len : Nat → Nat} {a1 : Int32} {a2 : Int32} {p : Program} {e : Env} {s : State} {m : MethodId} {args : Array Value} {below : List Frame} {meth : Method} {c : Code} {ρ0 : RG} {r : Int64} {σ1 : SG} (C : Cx Y D N ad p s m args meth c cX11_odds 6 (some .long) RX11 wsL_law) : ∀ (n : Nat) (σ : SG) (ρ : RG) (v1 : Int32) (v2 : Int32) (v3 : Int64) (v5 : Int32) (H : Heap) (locs : List Loc) (ls : Array Slot), ρ = ρ0 → Lay N K len ρ → F_X11_odds_37 N K len a1 a2 n σ ρ v1 v2 v3 v5 = some (r, σ1) → WP Y D N ad K len σ ρ H → va_S (AA N ad s.heap.size) s.heap H locs → lv_has ls 6 [(0, .ref (ad 0)), (1, .int v1), (2, .int v2), (3, .long v3), (5, .int v5)] → W p l e rm_X11_odds s m args below meth c H locs 0 0 (MQ below (QW Y D N ad K len σ1 ρ0 (AA N ad s.heap.size) (some (.long r))) args s 0 0 (AA N ad s.heap.size)) (F0 m 37 ls []) := by
  have hx := C.1.1
  have hb := C.1.2.1
  intro n
  induction n with
  | zero => intro σ ρ v1 v2 v3 v5 H locs ls hρ0 hL hF; cases hF
  | succ n ih =>
    intro σ ρ v1 v2 v3 v5 H locs ls hρ0 hL hF hP hS hl
    unfold F_X11_odds_37 at hF
    refine lv_iload hx hb dX11_odds_37 (lv_at hl 4 rfl) ?_
    refine lv_iload_n hx hb dX11_odds_39 rfl (lv_at hl 1 rfl) ?_
    refine lv_icmp_ge (tgt := 60) hx hb dX11_odds_40 (by decide) (fun c_6 => ?_) (fun c_6 => ?_) -- COND 6 by_cases c_6 : v1 ≤ v5
    · have hF := ite_t hF c_6
      refine lv_aload_n hx hb dX11_odds_60 rfl (lv_at hl 0 rfl) ?_
      obtain ⟨σ7, hq7, hF⟩ := bn_1 hF
      refine x_callV (ci := 11) rfl rfl C hP hS (c_X11_startSteps hL hq7) (lr_0 hL) (lk_0 hL) (cwV 0 C.1.2.2.2.2 (gdV mw_713 mw_714 mw_715 mw_2 mw_716) rfl rfl rfl hd_X11_startSteps ⟨Nat.le_of_ble_eq_true rfl, Nat.le_of_ble_eq_true rfl⟩) rfl rfl hl.1 (Nat.le_of_ble_eq_true rfl) ⟨Nat.zero_le _, Nat.zero_le _⟩ dX11_odds_61 (fun H locs hP hS => ?_)
      refine lv_aload_n hx hb dX11_odds_64 rfl (lv_at hl 0 rfl) ?_
      refine lv_iconst (v := 0) hx hb dX11_odds_65 (by decide) ?_
      refine lv_iload_n hx hb dX11_odds_66 rfl (lv_at hl 1 rfl) ?_
      obtain ⟨r8, σ8, hq8, hF⟩ := bn2_1 hF
      refine x_callV (ci := 11) rfl rfl C hP hS (c_X11_goodRows hL hq8) (lr_0 hL) (lk_0 hL) (cwV 2 C.1.2.2.2.2 (gdV mw_956 mw_957 mw_958 mw_2 mw_959) rfl rfl rfl hd_X11_goodRows ⟨Nat.le_of_ble_eq_true rfl, Nat.le_of_ble_eq_true rfl⟩) rfl rfl hl.1 (Nat.le_of_ble_eq_true rfl) ⟨Nat.zero_le _, Nat.zero_le _⟩ dX11_odds_67 (fun H locs hP hS => ?_)
      refine lv_lload_n hx hb dX11_odds_70 rfl (lv_at hl 3 rfl) ?_
      refine lv_iload_n hx hb dX11_odds_71 rfl (lv_at hl 2 rfl) ?_
      obtain ⟨r9, hq9, hF⟩ := bn_1 hF
      refine x_callS C hP hS (c_X11_partOf hL hq9) (va_cwS 3 C.1.2.2.2.2 (gdS mw_960 mw_961 mw_2 mw_962) rfl rfl rfl hd_X11_partOf.2 ⟨Nat.le_of_ble_eq_true rfl, Nat.le_of_ble_eq_true rfl⟩) rfl rfl hl.1 (Nat.le_of_ble_eq_true rfl) ⟨Nat.zero_le _, Nat.zero_le _⟩ dX11_odds_72 (fun H locs hP hS => ?_)
      obtain ⟨rfl, rfl⟩ := ret_2 hF
      subst hρ0
      exact x_lret rfl C hP hS dX11_odds_75
    · have hF := ite_f hF c_6
      refine lv_lload_n hx hb dX11_odds_43 rfl (lv_at hl 3 rfl) ?_
      refine lv_aload_n hx hb dX11_odds_44 rfl (lv_at hl 0 rfl) ?_
      refine get_11_0 C hP (lr_0 hL) (lk_0 hL) inlX11 mw_15 (lf_0_0 hL) dX11_odds_45 ?_
      refine get_8_1 C hP (lr_1 hL) (lk_1 hL) inlX8 mw_352 dX11_odds_48 ?_
      refine lv_i2l (v := ((σ 1 1)).toInt64) hx hb dX11_odds_51 rfl ?_
      refine lv_lmul hx hb dX11_odds_52 ?_
      obtain ⟨x10, ex10, hF⟩ := nm_1 hF
      refine x_topl ex10 ?_
      refine lv_lstore_n (lv' := [(3, .long x10), (0, .ref (ad 0)), (1, .int v1), (2, .int v2), (5, .int v5)]) hx hb dX11_odds_53 rfl hl (by decide) rfl (fun ls hl => ?_)
      obtain ⟨x11, ex11, hF⟩ := nm_1 hF
      refine lv_iinc (v := x11) (lv' := [(5, .int x11), (3, .long x10), (0, .ref (ad 0)), (1, .int v1), (2, .int v2)]) hx hb dX11_odds_54 hl (k := 4) rfl (by rw [ex11]; first | rfl | decide) (by decide) rfl (fun ls hl => ?_)
      refine lv_goto (tgt := 37) hx hb dX11_odds_57 (by decide) ?_
      exact ih _ _ _ _ _ _ _ _ _ hρ0 hL hF hP hS (lv_sub hl [2, 3, 4, 1, 0] rfl)
set_option maxHeartbeats 4000000 in
set_option maxRecDepth 100000 in
theorem w_X11_odds_0 {N : Nat} {K len : Nat → Nat} {a1 : Int32} {a2 : Int32} {p : Program} {e : Env} {s : State} {m : MethodId} {args : Array Value} {below : List Frame} {meth : Method} {c : Code} {ρ0 : RG} {r : Int64} {σ1 : SG} (C : Cx Y D N ad p s m args meth c cX11_odds 6 (some .long) RX11 wsL_law) {σ : SG} {ρ : RG} {H : Heap} {locs : List Loc} {ls : Array Slot} (hρ0 : ρ = ρ0) (hL : Lay N K len ρ) (hF : F_X11_odds N K len a1 a2 σ ρ = some (r, σ1)) (hP : WP Y D N ad K len σ ρ H) (hS : va_S (AA N ad s.heap.size) s.heap H locs) (hl : lv_has ls 6 [(0, .ref (ad 0)), (1, .int a1), (2, .int a2)]) : W p l e rm_X11_odds s m args below meth c H locs 0 0 (MQ below (QW Y D N ad K len σ1 ρ0 (AA N ad s.heap.size) (some (.long r))) args s 0 0 (AA N ad s.heap.size)) (F0 m 0 ls []) := by
  have hx := C.1.1
  have hb := C.1.2.1
  unfold F_X11_odds at hF
  refine lv_iload_n hx hb dX11_odds_0 rfl (lv_at hl 1 rfl) ?_
  refine lv_iconst (v := 1) hx hb dX11_odds_1 (by decide) ?_
  refine lv_iconst (v := 3) hx hb dX11_odds_2 (by decide) ?_
  obtain ⟨r1, hq1, hF⟩ := bn_1 hF
  refine x_callS C hP hS (c_X11_isWithin hL hq1) (va_cwS 3 C.1.2.2.2.2 (gdS mw_97 mw_98 mw_2 mw_99) rfl rfl rfl hd_X11_isWithin.2 ⟨Nat.le_of_ble_eq_true rfl, Nat.le_of_ble_eq_true rfl⟩) rfl rfl hl.1 (Nat.le_of_ble_eq_true rfl) ⟨Nat.zero_le _, Nat.zero_le _⟩ dX11_odds_3 (fun H locs hP hS => ?_)
  refine lv_if_eq (tgt := 28) hx hb dX11_odds_6 (by decide) (fun c_2 => ?_) (fun c_2 => ?_) -- COND 2 by_cases c_2 : r1 = 0
  · have hF := ite_t hF c_2
    refine lv_ldc2 hx hb (C.1.2.2.2.1) (C.1.2.2.2.2 _ mw_955) dX11_odds_28 ?_
    obtain ⟨rfl, rfl⟩ := ret_2 hF
    subst hρ0
    exact x_lret rfl C hP hS dX11_odds_31
  · have hF := ite_f hF c_2
    refine lv_iload_n hx hb dX11_odds_9 rfl (lv_at hl 2 rfl) ?_
    refine lv_iconst (v := 0) hx hb dX11_odds_10 (by decide) ?_
    refine lv_iconst (v := 1) hx hb dX11_odds_11 (by decide) ?_
    obtain ⟨r3, hq3, hF⟩ := bn_1 hF
    refine x_callS C hP hS (c_X11_isWithin hL hq3) (va_cwS 3 C.1.2.2.2.2 (gdS mw_97 mw_98 mw_2 mw_99) rfl rfl rfl hd_X11_isWithin.2 ⟨Nat.le_of_ble_eq_true rfl, Nat.le_of_ble_eq_true rfl⟩) rfl rfl hl.1 (Nat.le_of_ble_eq_true rfl) ⟨Nat.zero_le _, Nat.zero_le _⟩ dX11_odds_12 (fun H locs hP hS => ?_)
    refine lv_if_eq (tgt := 28) hx hb dX11_odds_15 (by decide) (fun c_4 => ?_) (fun c_4 => ?_) -- COND 4 by_cases c_4 : r3 = 0
    · have hF := ite_t hF c_4
      refine lv_ldc2 hx hb (C.1.2.2.2.1) (C.1.2.2.2.2 _ mw_955) dX11_odds_28 ?_
      obtain ⟨rfl, rfl⟩ := ret_2 hF
      subst hρ0
      exact x_lret rfl C hP hS dX11_odds_31
    · have hF := ite_f hF c_4
      refine lv_aload_n hx hb dX11_odds_18 rfl (lv_at hl 0 rfl) ?_
      refine get_11_0 C hP (lr_0 hL) (lk_0 hL) inlX11 mw_15 (lf_0_0 hL) dX11_odds_19 ?_
      refine get_8_1 C hP (lr_1 hL) (lk_1 hL) inlX8 mw_352 dX11_odds_22 ?_
      refine lv_if_ne (tgt := 32) hx hb dX11_odds_25 (by decide) (fun c_5 => ?_) (fun c_5 => ?_) -- COND 5 rcases (Decidable.em ((σ 1 1) = 0)).symm with c_5 | c_5
      · have hF := ite_f hF c_5
        refine lv_lconst (v := 1) hx hb dX11_odds_32 (by decide +kernel) ?_
        refine lv_lstore_n (lv' := [(3, .long (1 : Int64)), (0, .ref (ad 0)), (1, .int a1), (2, .int a2)]) hx hb dX11_odds_33 rfl hl (by decide) rfl (fun ls hl => ?_)
        refine lv_iconst (v := 0) hx hb dX11_odds_34 (by decide) ?_
        refine lv_istore (lv' := [(5, .int (0 : Int32)), (3, .long (1 : Int64)), (0, .ref (ad 0)), (1, .int a1), (2, .int a2)]) hx hb dX11_odds_35 hl (by decide) rfl (fun ls hl => ?_)
        exact w_X11_odds_37 C 1024 _ _ _ _ _ _ _ _ _ hρ0 hL hF hP hS (lv_sub hl [2, 3, 4, 1, 0] rfl)
      · have hF := ite_t hF c_5
        refine lv_ldc2 hx hb (C.1.2.2.2.1) (C.1.2.2.2.2 _ mw_955) dX11_odds_28 ?_
        obtain ⟨rfl, rfl⟩ := ret_2 hF
        subst hρ0
        exact x_lret rfl C hP hS dX11_odds_31
set_option maxHeartbeats 4000000 in
set_option maxRecDepth 100000 in
theorem c_X11_odds {N : Nat} {K len : Nat → Nat} {a1 : Int32} {a2 : Int32} {r : Int64} {σ1 : SG} {σ : SG} {ρ : RG} (hL : Lay N K len ρ) (hF : F_X11_odds N K len a1 a2 σ ρ = some (r, σ1)) : MT l Y D N ad K len yX11_odds (Cond.code yX11_odds cX11_odds 6 (some .long) :: wsL_law) rm_X11_odds [.ref (ad 0), .int a1, .int a2] σ ρ (some (.long r)) σ1 ρ := by
  refine mt_of (cc := cX11_odds) (nL := 6) (ret := (some .long)) (by decide) (Nat.le_of_ble_eq_true rfl) ?_
  intro p e s m args below meth c ls C hnm hP hS hl
  exact w_X11_odds_0 C rfl hL hF hP hS hl

/-! CutCrooked.private static int thickByWay(CutCrooked$Cutter, int);  -/
theorem dX11_thickByWay_0 : decode cX11_thickByWay 0 = .ok (.iload_n 1, 1) := by decide +kernel
theorem dX11_thickByWay_1 : decode cX11_thickByWay 1 = .ok (.iconst 1, 1) := by decide +kernel
theorem dX11_thickByWay_2 : decode cX11_thickByWay 2 = .ok (.if_icmp .ne 15, 3) := by decide +kernel
theorem dX11_thickByWay_5 : decode cX11_thickByWay 5 = .ok (.bipush 40, 2) := by decide +kernel
theorem dX11_thickByWay_7 : decode cX11_thickByWay 7 = .ok (.aload_n 0, 1) := by decide +kernel
theorem dX11_thickByWay_8 : decode cX11_thickByWay 8 = .ok (.getfield 119, 3) := by decide +kernel
theorem dX11_thickByWay_11 : decode cX11_thickByWay 11 = .ok (.iconst 5, 1) := by decide +kernel
theorem dX11_thickByWay_12 : decode cX11_thickByWay 12 = .ok (.iadd, 1) := by decide +kernel
theorem dX11_thickByWay_13 : decode cX11_thickByWay 13 = .ok (.invokestatic 220, 3) := by decide +kernel
theorem dX11_thickByWay_16 : decode cX11_thickByWay 16 = .ok (.ireturn, 1) := by decide +kernel
theorem dX11_thickByWay_17 : decode cX11_thickByWay 17 = .ok (.iload_n 1, 1) := by decide +kernel
theorem dX11_thickByWay_18 : decode cX11_thickByWay 18 = .ok (.iconst 2, 1) := by decide +kernel
theorem dX11_thickByWay_19 : decode cX11_thickByWay 19 = .ok (.if_icmp .ne 16, 3) := by decide +kernel
theorem dX11_thickByWay_22 : decode cX11_thickByWay 22 = .ok (.iconst 1, 1) := by decide +kernel
theorem dX11_thickByWay_23 : decode cX11_thickByWay 23 = .ok (.aload_n 0, 1) := by decide +kernel
theorem dX11_thickByWay_24 : decode cX11_thickByWay 24 = .ok (.getfield 119, 3) := by decide +kernel
theorem dX11_thickByWay_27 : decode cX11_thickByWay 27 = .ok (.iconst 5, 1) := by decide +kernel
theorem dX11_thickByWay_28 : decode cX11_thickByWay 28 = .ok (.isub, 1) := by decide +kernel
theorem dX11_thickByWay_29 : decode cX11_thickByWay 29 = .ok (.invokestatic 318, 3) := by decide +kernel
theorem dX11_thickByWay_32 : decode cX11_thickByWay 32 = .ok (.goto 7, 3) := by decide +kernel
theorem dX11_thickByWay_35 : decode cX11_thickByWay 35 = .ok (.aload_n 0, 1) := by decide +kernel
theorem dX11_thickByWay_36 : decode cX11_thickByWay 36 = .ok (.getfield 119, 3) := by decide +kernel
theorem dX11_thickByWay_39 : decode cX11_thickByWay 39 = .ok (.ireturn, 1) := by decide +kernel
theorem hd_X11_thickByWay : yX11_thickByWay.cls = RX11 ∧ yX11_thickByWay.cls ≠ "java/lang/invoke/MethodHandle" ∧ yX11_thickByWay.cls ≠ "java/lang/invoke/VarHandle" ∧ (parseMethodDescriptor yX11_thickByWay.desc).map (fun d => d.parameters.length) = some 2 := by decide +kernel
abbrev rm_X11_thickByWay : Room := { frames := 1, cells := 0, slots := 0, locals := 21 }
def F_X11_thickByWay (N : Nat) (K len : Nat → Nat) (z : Nat) (a2 : Int32) (σ : SG) (ρ : RG) : Option (Int32) :=
  if a2 = (1 : Int32) then
    nm ((σ z 4) + (5 : Int32)) fun x5 =>
    nm (if x5 < (40 : Int32) then x5 else (40 : Int32)) fun x6 =>
    some x6
  else
    if a2 = (2 : Int32) then
      nm ((σ z 4) - (5 : Int32)) fun x3 =>
      nm (if (1 : Int32) < x3 then x3 else (1 : Int32)) fun x4 =>
      some x4
    else
      some (σ z 4)
set_option maxHeartbeats 4000000 in
set_option maxRecDepth 100000 in
theorem w_X11_thickByWay_0 {N : Nat} {K len : Nat → Nat} {z : Nat} {a2 : Int32} {p : Program} {e : Env} {s : State} {m : MethodId} {args : Array Value} {below : List Frame} {meth : Method} {c : Code} {σ0 : SG} {ρ0 : RG} {r : Int32} (C : Cx Y D N ad p s m args meth c cX11_thickByWay 2 (some .int) RX11 wsL_law) {σ : SG} {ρ : RG} {H : Heap} {locs : List Loc} {ls : Array Slot} (hσ0 : σ = σ0) (hρ0 : ρ = ρ0) (hL : Lay N K len ρ) (hz : isC N K z = true) (hF : F_X11_thickByWay N K len z a2 σ ρ = some r) (hP : WP Y D N ad K len σ ρ H) (hS : va_S (AA N ad s.heap.size) s.heap H locs) (hl : lv_has ls 2 [(0, .ref (ad z)), (1, .int a2)]) : W p l e rm_X11_thickByWay s m args below meth c H locs 0 0 (MQ below (QW Y D N ad K len σ0 ρ0 (AA N ad s.heap.size) (some (.int r))) args s 0 0 (AA N ad s.heap.size)) (F0 m 0 ls []) := by
  have hx := C.1.1
  have hb := C.1.2.1
  unfold F_X11_thickByWay at hF
  refine lv_iload_n hx hb dX11_thickByWay_0 rfl (lv_at hl 1 rfl) ?_
  refine lv_iconst (v := 1) hx hb dX11_thickByWay_1 (by decide) ?_
  refine lv_icmp_ne (tgt := 17) hx hb dX11_thickByWay_2 (by decide) (fun c_1 => ?_) (fun c_1 => ?_) -- COND 1 rcases (Decidable.em (a2 = (1 : Int32))).symm with c_1 | c_1
  · have hF := ite_f hF c_1
    refine lv_iload_n hx hb dX11_thickByWay_17 rfl (lv_at hl 1 rfl) ?_
    refine lv_iconst (v := 2) hx hb dX11_thickByWay_18 (by decide) ?_
    refine lv_icmp_ne (tgt := 35) hx hb dX11_thickByWay_19 (by decide) (fun c_2 => ?_) (fun c_2 => ?_) -- COND 2 rcases (Decidable.em (a2 = (2 : Int32))).symm with c_2 | c_2
    · have hF := ite_f hF c_2
      refine lv_aload_n hx hb dX11_thickByWay_35 rfl (lv_at hl 0 rfl) ?_
      refine get_ck_4 C hP (isC_r hz) (isC_k hz) mw_426 (Or.inl rfl) dX11_thickByWay_36 ?_
      obtain rfl := ret_1 hF
      subst hσ0
      subst hρ0
      exact x_iret rfl C hP hS dX11_thickByWay_39
    · have hF := ite_t hF c_2
      refine lv_iconst (v := 1) hx hb dX11_thickByWay_22 (by decide) ?_
      refine lv_aload_n hx hb dX11_thickByWay_23 rfl (lv_at hl 0 rfl) ?_
      refine get_ck_4 C hP (isC_r hz) (isC_k hz) mw_426 (Or.inl rfl) dX11_thickByWay_24 ?_
      refine lv_iconst (v := 5) hx hb dX11_thickByWay_27 (by decide) ?_
      refine lv_isub hx hb dX11_thickByWay_28 ?_
      obtain ⟨x3, ex3, hF⟩ := nm_1 hF
      refine x_top ex3 ?_
      refine va_mmax hx hb (C.1.2.2.1.trans hl.1.symm) C.1.2.2.2.1 (C.1.2.2.2.2 _ mw_876) (C.1.2.2.2.2 _ mw_233) (C.1.2.2.2.2 _ mw_234) (C.1.2.2.2.2 _ mw_235) (Nat.le_of_ble_eq_true rfl) (Nat.le_of_ble_eq_true rfl) (Nat.zero_le _) (Nat.zero_le _) dX11_thickByWay_29 ?_
      obtain ⟨x4, ex4, hF⟩ := nm_1 hF
      refine x_top ex4 ?_
      refine lv_goto (tgt := 39) hx hb dX11_thickByWay_32 (by decide) ?_
      obtain rfl := ret_1 hF
      subst hσ0
      subst hρ0
      exact x_iret rfl C hP hS dX11_thickByWay_39
  · have hF := ite_t hF c_1
    refine lv_bipush (v := 40) hx hb dX11_thickByWay_5 (by decide +kernel) ?_
    refine lv_aload_n hx hb dX11_thickByWay_7 rfl (lv_at hl 0 rfl) ?_
    refine get_ck_4 C hP (isC_r hz) (isC_k hz) mw_426 (Or.inl rfl) dX11_thickByWay_8 ?_
    refine lv_iconst (v := 5) hx hb dX11_thickByWay_11 (by decide) ?_
    refine lv_iadd hx hb dX11_thickByWay_12 ?_
    obtain ⟨x5, ex5, hF⟩ := nm_1 hF
    refine x_top ex5 ?_
    refine va_mmin hx hb (C.1.2.2.1.trans hl.1.symm) C.1.2.2.2.1 (C.1.2.2.2.2 _ mw_860) (C.1.2.2.2.2 _ mw_237) (C.1.2.2.2.2 _ mw_234) (C.1.2.2.2.2 _ mw_238) (Nat.le_of_ble_eq_true rfl) (Nat.le_of_ble_eq_true rfl) (Nat.zero_le _) (Nat.zero_le _) dX11_thickByWay_13 ?_
    obtain ⟨x6, ex6, hF⟩ := nm_1 hF
    refine x_top ex6 ?_
    obtain rfl := ret_1 hF
    subst hσ0
    subst hρ0
    exact x_iret rfl C hP hS dX11_thickByWay_16
set_option maxHeartbeats 4000000 in
set_option maxRecDepth 100000 in
theorem c_X11_thickByWay {N : Nat} {K len : Nat → Nat} {z : Nat} {a2 : Int32} {r : Int32} {σ : SG} {ρ : RG} (hL : Lay N K len ρ) (hz : isC N K z = true) (hF : F_X11_thickByWay N K len z a2 σ ρ = some r) : MT l Y D N ad K len yX11_thickByWay (Cond.code yX11_thickByWay cX11_thickByWay 2 (some .int) :: wsL_law) rm_X11_thickByWay [.ref (ad z), .int a2] σ ρ (some (.int r)) σ ρ := by
  refine mt_of (cc := cX11_thickByWay) (nL := 2) (ret := (some .int)) (by decide) (Nat.le_of_ble_eq_true rfl) ?_
  intro p e s m args below meth c ls C hnm hP hS hl
  exact w_X11_thickByWay_0 C rfl rfl hL hz hF hP hS hl

/-! CutCrooked.private int bestOf(CutCrooked$Cutter, CutCrooked$Cutter, int, int); B -/
theorem dX11_bestOf_0 : decode cX11_bestOf 0 = .ok (.iload 4, 2) := by decide +kernel
theorem dX11_bestOf_2 : decode cX11_bestOf 2 = .ok (.ifCond .le 14, 3) := by decide +kernel
theorem dX11_bestOf_5 : decode cX11_bestOf 5 = .ok (.iload_n 3, 1) := by decide +kernel
theorem dX11_bestOf_6 : decode cX11_bestOf 6 = .ok (.iconst 1, 1) := by decide +kernel
theorem dX11_bestOf_7 : decode cX11_bestOf 7 = .ok (.iadd, 1) := by decide +kernel
theorem dX11_bestOf_8 : decode cX11_bestOf 8 = .ok (.aload_n 0, 1) := by decide +kernel
theorem dX11_bestOf_9 : decode cX11_bestOf 9 = .ok (.getfield 37, 3) := by decide +kernel
theorem dX11_bestOf_12 : decode cX11_bestOf 12 = .ok (.arraylength, 1) := by decide +kernel
theorem dX11_bestOf_13 : decode cX11_bestOf 13 = .ok (.if_icmp .lt 5, 3) := by decide +kernel
theorem dX11_bestOf_16 : decode cX11_bestOf 16 = .ok (.iconst 0, 1) := by decide +kernel
theorem dX11_bestOf_17 : decode cX11_bestOf 17 = .ok (.ireturn, 1) := by decide +kernel
theorem dX11_bestOf_18 : decode cX11_bestOf 18 = .ok (.iconst 0, 1) := by decide +kernel
theorem dX11_bestOf_19 : decode cX11_bestOf 19 = .ok (.istore 5, 2) := by decide +kernel
theorem dX11_bestOf_21 : decode cX11_bestOf 21 = .ok (.bipush (-5), 2) := by decide +kernel
theorem dX11_bestOf_23 : decode cX11_bestOf 23 = .ok (.istore 6, 2) := by decide +kernel
theorem dX11_bestOf_25 : decode cX11_bestOf 25 = .ok (.iconst 0, 1) := by decide +kernel
theorem dX11_bestOf_26 : decode cX11_bestOf 26 = .ok (.istore 7, 2) := by decide +kernel
theorem dX11_bestOf_28 : decode cX11_bestOf 28 = .ok (.iload 7, 2) := by decide +kernel
theorem dX11_bestOf_30 : decode cX11_bestOf 30 = .ok (.iconst 3, 1) := by decide +kernel
theorem dX11_bestOf_31 : decode cX11_bestOf 31 = .ok (.if_icmp .ge 73, 3) := by decide +kernel
theorem dX11_bestOf_34 : decode cX11_bestOf 34 = .ok (.aload_n 0, 1) := by decide +kernel
theorem dX11_bestOf_35 : decode cX11_bestOf 35 = .ok (.iload_n 3, 1) := by decide +kernel
theorem dX11_bestOf_36 : decode cX11_bestOf 36 = .ok (.aload_n 1, 1) := by decide +kernel
theorem dX11_bestOf_37 : decode cX11_bestOf 37 = .ok (.aload_n 1, 1) := by decide +kernel
theorem dX11_bestOf_38 : decode cX11_bestOf 38 = .ok (.iload 7, 2) := by decide +kernel
theorem dX11_bestOf_40 : decode cX11_bestOf 40 = .ok (.invokestatic 321, 3) := by decide +kernel
theorem dX11_bestOf_43 : decode cX11_bestOf 43 = .ok (.invokevirtual 179, 3) := by decide +kernel
theorem dX11_bestOf_46 : decode cX11_bestOf 46 = .ok (.ifCond .eq 52, 3) := by decide +kernel
theorem dX11_bestOf_49 : decode cX11_bestOf 49 = .ok (.aload_n 0, 1) := by decide +kernel
theorem dX11_bestOf_50 : decode cX11_bestOf 50 = .ok (.getfield 37, 3) := by decide +kernel
theorem dX11_bestOf_53 : decode cX11_bestOf 53 = .ok (.iload_n 3, 1) := by decide +kernel
theorem dX11_bestOf_54 : decode cX11_bestOf 54 = .ok (.iconst 1, 1) := by decide +kernel
theorem dX11_bestOf_55 : decode cX11_bestOf 55 = .ok (.iadd, 1) := by decide +kernel
theorem dX11_bestOf_56 : decode cX11_bestOf 56 = .ok (.aaload, 1) := by decide +kernel
theorem dX11_bestOf_57 : decode cX11_bestOf 57 = .ok (.getfield 167, 3) := by decide +kernel
theorem dX11_bestOf_60 : decode cX11_bestOf 60 = .ok (.aload_n 0, 1) := by decide +kernel
theorem dX11_bestOf_61 : decode cX11_bestOf 61 = .ok (.aload_n 2, 1) := by decide +kernel
theorem dX11_bestOf_62 : decode cX11_bestOf 62 = .ok (.aload_n 1, 1) := by decide +kernel
theorem dX11_bestOf_63 : decode cX11_bestOf 63 = .ok (.iload_n 3, 1) := by decide +kernel
theorem dX11_bestOf_64 : decode cX11_bestOf 64 = .ok (.iconst 1, 1) := by decide +kernel
theorem dX11_bestOf_65 : decode cX11_bestOf 65 = .ok (.iadd, 1) := by decide +kernel
theorem dX11_bestOf_66 : decode cX11_bestOf 66 = .ok (.iload 4, 2) := by decide +kernel
theorem dX11_bestOf_68 : decode cX11_bestOf 68 = .ok (.iconst 1, 1) := by decide +kernel
theorem dX11_bestOf_69 : decode cX11_bestOf 69 = .ok (.isub, 1) := by decide +kernel
theorem dX11_bestOf_70 : decode cX11_bestOf 70 = .ok (.invokevirtual 226, 3) := by decide +kernel
theorem dX11_bestOf_73 : decode cX11_bestOf 73 = .ok (.isub, 1) := by decide +kernel
theorem dX11_bestOf_74 : decode cX11_bestOf 74 = .ok (.istore 8, 2) := by decide +kernel
theorem dX11_bestOf_76 : decode cX11_bestOf 76 = .ok (.iload 6, 2) := by decide +kernel
theorem dX11_bestOf_78 : decode cX11_bestOf 78 = .ok (.bipush (-5), 2) := by decide +kernel
theorem dX11_bestOf_80 : decode cX11_bestOf 80 = .ok (.if_icmp .eq 10, 3) := by decide +kernel
theorem dX11_bestOf_83 : decode cX11_bestOf 83 = .ok (.iload 8, 2) := by decide +kernel
theorem dX11_bestOf_85 : decode cX11_bestOf 85 = .ok (.iload 5, 2) := by decide +kernel
theorem dX11_bestOf_87 : decode cX11_bestOf 87 = .ok (.if_icmp .le 11, 3) := by decide +kernel
theorem dX11_bestOf_90 : decode cX11_bestOf 90 = .ok (.iload 8, 2) := by decide +kernel
theorem dX11_bestOf_92 : decode cX11_bestOf 92 = .ok (.istore 5, 2) := by decide +kernel
theorem dX11_bestOf_94 : decode cX11_bestOf 94 = .ok (.iload 7, 2) := by decide +kernel
theorem dX11_bestOf_96 : decode cX11_bestOf 96 = .ok (.istore 6, 2) := by decide +kernel
theorem dX11_bestOf_98 : decode cX11_bestOf 98 = .ok (.iinc 7 1, 3) := by decide +kernel
theorem dX11_bestOf_101 : decode cX11_bestOf 101 = .ok (.goto (-73), 3) := by decide +kernel
theorem dX11_bestOf_104 : decode cX11_bestOf 104 = .ok (.iload 6, 2) := by decide +kernel
theorem dX11_bestOf_106 : decode cX11_bestOf 106 = .ok (.bipush (-5), 2) := by decide +kernel
theorem dX11_bestOf_108 : decode cX11_bestOf 108 = .ok (.if_icmp .ne 36, 3) := by decide +kernel
theorem dX11_bestOf_111 : decode cX11_bestOf 111 = .ok (.aload_n 0, 1) := by decide +kernel
theorem dX11_bestOf_112 : decode cX11_bestOf 112 = .ok (.getfield 37, 3) := by decide +kernel
theorem dX11_bestOf_115 : decode cX11_bestOf 115 = .ok (.iload_n 3, 1) := by decide +kernel
theorem dX11_bestOf_116 : decode cX11_bestOf 116 = .ok (.iconst 1, 1) := by decide +kernel
theorem dX11_bestOf_117 : decode cX11_bestOf 117 = .ok (.iadd, 1) := by decide +kernel
theorem dX11_bestOf_118 : decode cX11_bestOf 118 = .ok (.aaload, 1) := by decide +kernel
theorem dX11_bestOf_119 : decode cX11_bestOf 119 = .ok (.aload_n 0, 1) := by decide +kernel
theorem dX11_bestOf_120 : decode cX11_bestOf 120 = .ok (.getfield 37, 3) := by decide +kernel
theorem dX11_bestOf_123 : decode cX11_bestOf 123 = .ok (.iload_n 3, 1) := by decide +kernel
theorem dX11_bestOf_124 : decode cX11_bestOf 124 = .ok (.aaload, 1) := by decide +kernel
theorem dX11_bestOf_125 : decode cX11_bestOf 125 = .ok (.invokevirtual 217, 3) := by decide +kernel
theorem dX11_bestOf_128 : decode cX11_bestOf 128 = .ok (.aload_n 0, 1) := by decide +kernel
theorem dX11_bestOf_129 : decode cX11_bestOf 129 = .ok (.aload_n 2, 1) := by decide +kernel
theorem dX11_bestOf_130 : decode cX11_bestOf 130 = .ok (.aload_n 1, 1) := by decide +kernel
theorem dX11_bestOf_131 : decode cX11_bestOf 131 = .ok (.iload_n 3, 1) := by decide +kernel
theorem dX11_bestOf_132 : decode cX11_bestOf 132 = .ok (.iconst 1, 1) := by decide +kernel
theorem dX11_bestOf_133 : decode cX11_bestOf 133 = .ok (.iadd, 1) := by decide +kernel
theorem dX11_bestOf_134 : decode cX11_bestOf 134 = .ok (.iload 4, 2) := by decide +kernel
theorem dX11_bestOf_136 : decode cX11_bestOf 136 = .ok (.iconst 1, 1) := by decide +kernel
theorem dX11_bestOf_137 : decode cX11_bestOf 137 = .ok (.isub, 1) := by decide +kernel
theorem dX11_bestOf_138 : decode cX11_bestOf 138 = .ok (.invokevirtual 226, 3) := by decide +kernel
theorem dX11_bestOf_141 : decode cX11_bestOf 141 = .ok (.ineg, 1) := by decide +kernel
theorem dX11_bestOf_142 : decode cX11_bestOf 142 = .ok (.istore 5, 2) := by decide +kernel
theorem dX11_bestOf_144 : decode cX11_bestOf 144 = .ok (.iload_n 3, 1) := by decide +kernel
theorem dX11_bestOf_145 : decode cX11_bestOf 145 = .ok (.ifCond .ne 9, 3) := by decide +kernel
theorem dX11_bestOf_148 : decode cX11_bestOf 148 = .ok (.aload_n 0, 1) := by decide +kernel
theorem dX11_bestOf_149 : decode cX11_bestOf 149 = .ok (.iload 6, 2) := by decide +kernel
theorem dX11_bestOf_151 : decode cX11_bestOf 151 = .ok (.putfield 230, 3) := by decide +kernel
theorem dX11_bestOf_154 : decode cX11_bestOf 154 = .ok (.iload 5, 2) := by decide +kernel
theorem dX11_bestOf_156 : decode cX11_bestOf 156 = .ok (.ireturn, 1) := by decide +kernel
theorem hd_X11_bestOf : yX11_bestOf.cls = RX11 ∧ yX11_bestOf.cls ≠ "java/lang/invoke/MethodHandle" ∧ yX11_bestOf.cls ≠ "java/lang/invoke/VarHandle" ∧ (parseMethodDescriptor yX11_bestOf.desc).map (fun d => d.parameters.length) = some 4 := by decide +kernel
abbrev rm_X11_bestOf_B (fR lR : Nat) : Room := { frames := 6 + fR + 1, cells := 0, slots := 0, locals := 152 + lR }
def F_X11_bestOf_B_144 (N : Nat) (K len : Nat → Nat) (R : Nat → Nat → Int32 → Int32 → SG → RG → Option (Int32 × SG)) (z : Nat) (z2 : Nat) (a3 : Int32) (a4 : Int32) (σ : SG) (ρ : RG) (v3 : Int32) (v5 : Int32) (v6 : Int32) : Option (Int32 × SG) :=
  if v3 = 0 then
    nm (s2 σ 0 10 v6) fun σ8 =>
    some (v5, σ8)
  else
    some (v5, σ)
def F_X11_bestOf_B_98 (N : Nat) (K len : Nat → Nat) (R : Nat → Nat → Int32 → Int32 → SG → RG → Option (Int32 × SG)) (z : Nat) (z2 : Nat) (a3 : Int32) (a4 : Int32) (rec_28 : SG → RG → Nat → Nat → Int32 → Int32 → Int32 → Int32 → Int32 → Option (Int32 × SG)) (σ : SG) (ρ : RG) (r1 : Nat) (r2 : Nat) (v3 : Int32) (v4 : Int32) (v5 : Int32) (v6 : Int32) (v7 : Int32) : Option (Int32 × SG) :=
  gd (isC N K r1) <|
  gd (isC N K r2) <|
  nm (v7 + (1 : Int32)) fun x22 =>
  rec_28 σ ρ r1 r2 v3 v4 v5 v6 x22
def F_X11_bestOf_B_90 (N : Nat) (K len : Nat → Nat) (R : Nat → Nat → Int32 → Int32 → SG → RG → Option (Int32 × SG)) (z : Nat) (z2 : Nat) (a3 : Int32) (a4 : Int32) (rec_28 : SG → RG → Nat → Nat → Int32 → Int32 → Int32 → Int32 → Int32 → Option (Int32 × SG)) (σ : SG) (ρ : RG) (r1 : Nat) (r2 : Nat) (v3 : Int32) (v4 : Int32) (v7 : Int32) (v8 : Int32) : Option (Int32 × SG) :=
  gd (isC N K r1) <|
  gd (isC N K r2) <|
  F_X11_bestOf_B_98 N K len R z z2 a3 a4 rec_28 σ ρ r1 r2 v3 v4 v8 v7 v7
def F_X11_bestOf_B_28 (N : Nat) (K len : Nat → Nat) (R : Nat → Nat → Int32 → Int32 → SG → RG → Option (Int32 × SG)) (z : Nat) (z2 : Nat) (a3 : Int32) (a4 : Int32) : Nat → SG → RG → Nat → Nat → Int32 → Int32 → Int32 → Int32 → Int32 → Option (Int32 × SG)
  | 0 => fun _ _ _ _ _ _ _ _ _ => none
  | n + 1 => fun σ ρ r1 r2 v3 v4 v5 v6 v7 =>
  gd (isC N K r1) <|
  gd (isC N K r2) <|
  if (3 : Int32) ≤ v7 then
    if v6 = (-5 : Int32) then
      nm (v3 + (1 : Int32)) fun x9 =>
      gd (inb x9 7) <|
      oc (ρ 34 (x9).toNatClampNeg)
       (
        none)
       (fun c11 =>
        gd (isLb c11) <|
        gd (inb v3 7) <|
        oc (ρ 34 (v3).toNatClampNeg)
         (
          none)
         (fun c13 =>
          gd (isLb c13) <|
          bn (F_X3_takes c11 c13 σ ρ) fun σ14 =>
          nm (v3 + (1 : Int32)) fun x15 =>
          nm (v4 - (1 : Int32)) fun x16 =>
          bn2 (R r2 r1 x15 x16 σ14 ρ) fun r17 σ17 =>
          nm (-r17) fun x18 =>
          F_X11_bestOf_B_144 N K len R z z2 a3 a4 σ17 ρ v3 x18 v6))
    else
      F_X11_bestOf_B_144 N K len R z z2 a3 a4 σ ρ v3 v5 v6
  else
    bn (F_X11_thickByWay N K len r1 v7 σ ρ) fun r19 =>
    bn2 (F_X11_tryStep N K len v3 r1 r19 σ ρ) fun r20 σ20 =>
    if r20 = 0 then
      F_X11_bestOf_B_98 N K len R z z2 a3 a4 (F_X11_bestOf_B_28 N K len R z z2 a3 a4 n) σ20 ρ r1 r2 v3 v4 v5 v6 v7
    else
      nm (v3 + (1 : Int32)) fun x23 =>
      gd (inb x23 7) <|
      oc (ρ 34 (x23).toNatClampNeg)
       (
        none)
       (fun c25 =>
        gd (isLb c25) <|
        nm (v3 + (1 : Int32)) fun x26 =>
        nm (v4 - (1 : Int32)) fun x27 =>
        bn2 (R r2 r1 x26 x27 σ20 ρ) fun r28 σ28 =>
        nm ((σ20 c25 6) - r28) fun x29 =>
        if v6 = (-5 : Int32) then
          F_X11_bestOf_B_90 N K len R z z2 a3 a4 (F_X11_bestOf_B_28 N K len R z z2 a3 a4 n) σ28 ρ r1 r2 v3 v4 v7 x29
        else
          if x29 ≤ v5 then
            F_X11_bestOf_B_98 N K len R z z2 a3 a4 (F_X11_bestOf_B_28 N K len R z z2 a3 a4 n) σ28 ρ r1 r2 v3 v4 v5 v6 v7
          else
            F_X11_bestOf_B_90 N K len R z z2 a3 a4 (F_X11_bestOf_B_28 N K len R z z2 a3 a4 n) σ28 ρ r1 r2 v3 v4 v7 x29)
def F_X11_bestOf_B (N : Nat) (K len : Nat → Nat) (R : Nat → Nat → Int32 → Int32 → SG → RG → Option (Int32 × SG)) (z : Nat) (z2 : Nat) (a3 : Int32) (a4 : Int32) (σ : SG) (ρ : RG) : Option (Int32 × SG) :=
  if a4 ≤ 0 then
    some ((0 : Int32), σ)
  else
    nm (a3 + (1 : Int32)) fun x2 =>
    if x2 < (7 : Int32) then
      F_X11_bestOf_B_28 N K len R z z2 a3 a4 1024 σ ρ z z2 a3 a4 (0 : Int32) (-5 : Int32) (0 : Int32)
    else
      some ((0 : Int32), σ)
set_option maxHeartbeats 4000000 in
set_option maxRecDepth 100000 in
theorem w_X11_bestOf_B_144 {N : Nat} {K len : Nat → Nat} {R : Nat → Nat → Int32 → Int32 → SG → RG → Option (Int32 × SG)} {z : Nat} {z2 : Nat} {a3 : Int32} {a4 : Int32} {p : Program} {e : Env} {s : State} {m : MethodId} {args : Array Value} {below : List Frame} {meth : Method} {c : Code} {ρ0 : RG} {r : Int32} {σ1 : SG} (C : Cx Y D N ad p s m args meth c cX11_bestOf 9 (some .int) RX11 wsL_law) {σ : SG} {ρ : RG} {v3 : Int32} {v5 : Int32} {v6 : Int32} {H : Heap} {locs : List Loc} {ls : Array Slot} (hρ0 : ρ = ρ0) (hL : Lay N K len ρ) (hz : isC N K z = true) (hz2 : isC N K z2 = true) (hRM : (∀ {z : Nat} {z2 : Nat} {a3 : Int32} {a4 : Int32} {r : Int32} {σ1 : SG} {σ : SG} {ρ : RG}, Lay N K len ρ → isC N K z = true → isC N K z2 = true → R z z2 a3 a4 σ ρ = some (r, σ1) → MT l Y D N ad K len yX11_bestOf (Cond.code yX11_bestOf cX11_bestOf 9 (some .int) :: wsL_law) (rmk fR lR) [.ref (ad 0), .ref (ad z), .ref (ad z2), .int a3, .int a4] σ ρ (some (.int r)) σ1 ρ)) (hF : F_X11_bestOf_B_144 N K len R z z2 a3 a4 σ ρ v3 v5 v6 = some (r, σ1)) (hP : WP Y D N ad K len σ ρ H) (hS : va_S (AA N ad s.heap.size) s.heap H locs) (hl : lv_has ls 9 [(0, .ref (ad 0)), (3, .int v3), (5, .int v5), (6, .int v6)]) : W p l e (rm_X11_bestOf_B fR lR) s m args below meth c H locs 0 0 (MQ below (QW Y D N ad K len σ1 ρ0 (AA N ad s.heap.size) (some (.int r))) args s 0 0 (AA N ad s.heap.size)) (F0 m 144 ls []) := by
  have hx := C.1.1
  have hb := C.1.2.1
  unfold F_X11_bestOf_B_144 at hF
  refine lv_iload_n hx hb dX11_bestOf_144 rfl (lv_at hl 1 rfl) ?_
  refine lv_if_ne (tgt := 154) hx hb dX11_bestOf_145 (by decide) (fun c_6 => ?_) (fun c_6 => ?_) -- COND 6 rcases (Decidable.em (v3 = 0)).symm with c_6 | c_6
  · have hF := ite_f hF c_6
    refine lv_iload hx hb dX11_bestOf_154 (lv_at hl 2 rfl) ?_
    obtain ⟨rfl, rfl⟩ := ret_2 hF
    subst hρ0
    exact x_iret rfl C hP hS dX11_bestOf_156
  · have hF := ite_t hF c_6
    refine lv_aload_n hx hb dX11_bestOf_148 rfl (lv_at hl 0 rfl) ?_
    refine lv_iload hx hb dX11_bestOf_149 (lv_at hl 3 rfl) ?_
    obtain ⟨σ8, eσ8, hF⟩ := nm_1 hF
    refine put_11_10 C hP hS (lr_0 hL) (lk_0 hL) inlX11 mw_719 eσ8 dX11_bestOf_151 (fun H locs hP hS => ?_)
    refine lv_iload hx hb dX11_bestOf_154 (lv_at hl 2 rfl) ?_
    obtain ⟨rfl, rfl⟩ := ret_2 hF
    subst hρ0
    exact x_iret rfl C hP hS dX11_bestOf_156
set_option maxHeartbeats 4000000 in
set_option maxRecDepth 100000 in
theorem w_X11_bestOf_B_98 {N : Nat} {K len : Nat → Nat} {R : Nat → Nat → Int32 → Int32 → SG → RG → Option (Int32 × SG)} {z : Nat} {z2 : Nat} {a3 : Int32} {a4 : Int32} {rec_28 : SG → RG → Nat → Nat → Int32 → Int32 → Int32 → Int32 → Int32 → Option (Int32 × SG)} {p : Program} {e : Env} {s : State} {m : MethodId} {args : Array Value} {below : List Frame} {meth : Method} {c : Code} {ρ0 : RG} {r : Int32} {σ1 : SG} (C : Cx Y D N ad p s m args meth c cX11_bestOf 9 (some .int) RX11 wsL_law) (hrec_28 : ∀ (σ : SG) (ρ : RG) (r1 : Nat) (r2 : Nat) (v3 : Int32) (v4 : Int32) (v5 : Int32) (v6 : Int32) (v7 : Int32) (H : Heap) (locs : List Loc) (ls : Array Slot), ρ = ρ0 → Lay N K len ρ → isC N K z = true → isC N K z2 = true → (∀ {z : Nat} {z2 : Nat} {a3 : Int32} {a4 : Int32} {r : Int32} {σ1 : SG} {σ : SG} {ρ : RG}, Lay N K len ρ → isC N K z = true → isC N K z2 = true → R z z2 a3 a4 σ ρ = some (r, σ1) → MT l Y D N ad K len yX11_bestOf (Cond.code yX11_bestOf cX11_bestOf 9 (some .int) :: wsL_law) (rmk fR lR) [.ref (ad 0), .ref (ad z), .ref (ad z2), .int a3, .int a4] σ ρ (some (.int r)) σ1 ρ) → rec_28 σ ρ r1 r2 v3 v4 v5 v6 v7 = some (r, σ1) → WP Y D N ad K len σ ρ H → va_S (AA N ad s.heap.size) s.heap H locs → lv_has ls 9 [(0, .ref (ad 0)), (1, .ref (ad r1)), (2, .ref (ad r2)), (3, .int v3), (4, .int v4), (5, .int v5), (6, .int v6), (7, .int v7)] → W p l e (rm_X11_bestOf_B fR lR) s m args below meth c H locs 0 0 (MQ below (QW Y D N ad K len σ1 ρ0 (AA N ad s.heap.size) (some (.int r))) args s 0 0 (AA N ad s.heap.size)) (F0 m 28 ls [])) {σ : SG} {ρ : RG} {r1 : Nat} {r2 : Nat} {v3 : Int32} {v4 : Int32} {v5 : Int32} {v6 : Int32} {v7 : Int32} {H : Heap} {locs : List Loc} {ls : Array Slot} (hρ0 : ρ = ρ0) (hL : Lay N K len ρ) (hz : isC N K z = true) (hz2 : isC N K z2 = true) (hRM : (∀ {z : Nat} {z2 : Nat} {a3 : Int32} {a4 : Int32} {r : Int32} {σ1 : SG} {σ : SG} {ρ : RG}, Lay N K len ρ → isC N K z = true → isC N K z2 = true → R z z2 a3 a4 σ ρ = some (r, σ1) → MT l Y D N ad K len yX11_bestOf (Cond.code yX11_bestOf cX11_bestOf 9 (some .int) :: wsL_law) (rmk fR lR) [.ref (ad 0), .ref (ad z), .ref (ad z2), .int a3, .int a4] σ ρ (some (.int r)) σ1 ρ)) (hF : F_X11_bestOf_B_98 N K len R z z2 a3 a4 rec_28 σ ρ r1 r2 v3 v4 v5 v6 v7 = some (r, σ1)) (hP : WP Y D N ad K len σ ρ H) (hS : va_S (AA N ad s.heap.size) s.heap H locs) (hl : lv_has ls 9 [(0, .ref (ad 0)), (1, .ref (ad r1)), (2, .ref (ad r2)), (3, .int v3), (4, .int v4), (5, .int v5), (6, .int v6), (7, .int v7)]) : W p l e (rm_X11_bestOf_B fR lR) s m args below meth c H locs 0 0 (MQ below (QW Y D N ad K len σ1 ρ0 (AA N ad s.heap.size) (some (.int r))) args s 0 0 (AA N ad s.heap.size)) (F0 m 98 ls []) := by
  have hx := C.1.1
  have hb := C.1.2.1
  unfold F_X11_bestOf_B_98 at hF
  obtain ⟨gr1, hF⟩ := gd_1 hF
  obtain ⟨gr2, hF⟩ := gd_1 hF
  obtain ⟨x22, ex22, hF⟩ := nm_1 hF
  refine lv_iinc (v := x22) (lv' := [(7, .int x22), (0, .ref (ad 0)), (1, .ref (ad r1)), (2, .ref (ad r2)), (3, .int v3), (4, .int v4), (5, .int v5), (6, .int v6)]) hx hb dX11_bestOf_98 hl (k := 7) rfl (by rw [ex22]; first | rfl | decide) (by decide) rfl (fun ls hl => ?_)
  refine lv_goto (tgt := 28) hx hb dX11_bestOf_101 (by decide) ?_
  exact hrec_28 _ _ _ _ _ _ _ _ _ _ _ _ hρ0 hL hz hz2 hRM hF hP hS (lv_sub hl [1, 2, 3, 4, 5, 6, 7, 0] rfl)
set_option maxHeartbeats 4000000 in
set_option maxRecDepth 100000 in
theorem w_X11_bestOf_B_90 {N : Nat} {K len : Nat → Nat} {R : Nat → Nat → Int32 → Int32 → SG → RG → Option (Int32 × SG)} {z : Nat} {z2 : Nat} {a3 : Int32} {a4 : Int32} {rec_28 : SG → RG → Nat → Nat → Int32 → Int32 → Int32 → Int32 → Int32 → Option (Int32 × SG)} {p : Program} {e : Env} {s : State} {m : MethodId} {args : Array Value} {below : List Frame} {meth : Method} {c : Code} {ρ0 : RG} {r : Int32} {σ1 : SG} (C : Cx Y D N ad p s m args meth c cX11_bestOf 9 (some .int) RX11 wsL_law) (hrec_28 : ∀ (σ : SG) (ρ : RG) (r1 : Nat) (r2 : Nat) (v3 : Int32) (v4 : Int32) (v5 : Int32) (v6 : Int32) (v7 : Int32) (H : Heap) (locs : List Loc) (ls : Array Slot), ρ = ρ0 → Lay N K len ρ → isC N K z = true → isC N K z2 = true → (∀ {z : Nat} {z2 : Nat} {a3 : Int32} {a4 : Int32} {r : Int32} {σ1 : SG} {σ : SG} {ρ : RG}, Lay N K len ρ → isC N K z = true → isC N K z2 = true → R z z2 a3 a4 σ ρ = some (r, σ1) → MT l Y D N ad K len yX11_bestOf (Cond.code yX11_bestOf cX11_bestOf 9 (some .int) :: wsL_law) (rmk fR lR) [.ref (ad 0), .ref (ad z), .ref (ad z2), .int a3, .int a4] σ ρ (some (.int r)) σ1 ρ) → rec_28 σ ρ r1 r2 v3 v4 v5 v6 v7 = some (r, σ1) → WP Y D N ad K len σ ρ H → va_S (AA N ad s.heap.size) s.heap H locs → lv_has ls 9 [(0, .ref (ad 0)), (1, .ref (ad r1)), (2, .ref (ad r2)), (3, .int v3), (4, .int v4), (5, .int v5), (6, .int v6), (7, .int v7)] → W p l e (rm_X11_bestOf_B fR lR) s m args below meth c H locs 0 0 (MQ below (QW Y D N ad K len σ1 ρ0 (AA N ad s.heap.size) (some (.int r))) args s 0 0 (AA N ad s.heap.size)) (F0 m 28 ls [])) {σ : SG} {ρ : RG} {r1 : Nat} {r2 : Nat} {v3 : Int32} {v4 : Int32} {v7 : Int32} {v8 : Int32} {H : Heap} {locs : List Loc} {ls : Array Slot} (hρ0 : ρ = ρ0) (hL : Lay N K len ρ) (hz : isC N K z = true) (hz2 : isC N K z2 = true) (hRM : (∀ {z : Nat} {z2 : Nat} {a3 : Int32} {a4 : Int32} {r : Int32} {σ1 : SG} {σ : SG} {ρ : RG}, Lay N K len ρ → isC N K z = true → isC N K z2 = true → R z z2 a3 a4 σ ρ = some (r, σ1) → MT l Y D N ad K len yX11_bestOf (Cond.code yX11_bestOf cX11_bestOf 9 (some .int) :: wsL_law) (rmk fR lR) [.ref (ad 0), .ref (ad z), .ref (ad z2), .int a3, .int a4] σ ρ (some (.int r)) σ1 ρ)) (hF : F_X11_bestOf_B_90 N K len R z z2 a3 a4 rec_28 σ ρ r1 r2 v3 v4 v7 v8 = some (r, σ1)) (hP : WP Y D N ad K len σ ρ H) (hS : va_S (AA N ad s.heap.size) s.heap H locs) (hl : lv_has ls 9 [(0, .ref (ad 0)), (1, .ref (ad r1)), (2, .ref (ad r2)), (3, .int v3), (4, .int v4), (7, .int v7), (8, .int v8)]) : W p l e (rm_X11_bestOf_B fR lR) s m args below meth c H locs 0 0 (MQ below (QW Y D N ad K len σ1 ρ0 (AA N ad s.heap.size) (some (.int r))) args s 0 0 (AA N ad s.heap.size)) (F0 m 90 ls []) := by
  have hx := C.1.1
  have hb := C.1.2.1
  unfold F_X11_bestOf_B_90 at hF
  obtain ⟨gr1, hF⟩ := gd_1 hF
  obtain ⟨gr2, hF⟩ := gd_1 hF
  refine lv_iload hx hb dX11_bestOf_90 (lv_at hl 6 rfl) ?_
  refine lv_istore (lv' := [(5, .int v8), (0, .ref (ad 0)), (1, .ref (ad r1)), (2, .ref (ad r2)), (3, .int v3), (4, .int v4), (7, .int v7), (8, .int v8)]) hx hb dX11_bestOf_92 hl (by decide) rfl (fun ls hl => ?_)
  refine lv_iload hx hb dX11_bestOf_94 (lv_at hl 6 rfl) ?_
  refine lv_istore (lv' := [(6, .int v7), (5, .int v8), (0, .ref (ad 0)), (1, .ref (ad r1)), (2, .ref (ad r2)), (3, .int v3), (4, .int v4), (7, .int v7), (8, .int v8)]) hx hb dX11_bestOf_96 hl (by decide) rfl (fun ls hl => ?_)
  exact w_X11_bestOf_B_98 C hrec_28 hρ0 hL hz hz2 hRM hF hP hS (lv_sub hl [2, 3, 4, 5, 6, 1, 0, 7] rfl)
set_option maxHeartbeats 4000000 in
set_option maxRecDepth 100000 in
theorem w_X11_bestOf_B_28 {N : Nat} {K len : Nat → Nat} {R : Nat → Nat → Int32 → Int32 → SG → RG → Option (Int32 × SG)} {z : Nat} {z2 : Nat} {a3 : Int32} {a4 : Int32} {p : Program} {e : Env} {s : State} {m : MethodId} {args : Array Value} {below : List Frame} {meth : Method} {c : Code} {ρ0 : RG} {r : Int32} {σ1 : SG} (C : Cx Y D N ad p s m args meth c cX11_bestOf 9 (some .int) RX11 wsL_law) : ∀ (n : Nat) (σ : SG) (ρ : RG) (r1 : Nat) (r2 : Nat) (v3 : Int32) (v4 : Int32) (v5 : Int32) (v6 : Int32) (v7 : Int32) (H : Heap) (locs : List Loc) (ls : Array Slot), ρ = ρ0 → Lay N K len ρ → isC N K z = true → isC N K z2 = true → (∀ {z : Nat} {z2 : Nat} {a3 : Int32} {a4 : Int32} {r : Int32} {σ1 : SG} {σ : SG} {ρ : RG}, Lay N K len ρ → isC N K z = true → isC N K z2 = true → R z z2 a3 a4 σ ρ = some (r, σ1) → MT l Y D N ad K len yX11_bestOf (Cond.code yX11_bestOf cX11_bestOf 9 (some .int) :: wsL_law) (rmk fR lR) [.ref (ad 0), .ref (ad z), .ref (ad z2), .int a3, .int a4] σ ρ (some (.int r)) σ1 ρ) → F_X11_bestOf_B_28 N K len R z z2 a3 a4 n σ ρ r1 r2 v3 v4 v5 v6 v7 = some (r, σ1) → WP Y D N ad K len σ ρ H → va_S (AA N ad s.heap.size) s.heap H locs → lv_has ls 9 [(0, .ref (ad 0)), (1, .ref (ad r1)), (2, .ref (ad r2)), (3, .int v3), (4, .int v4), (5, .int v5), (6, .int v6), (7, .int v7)] → W p l e (rm_X11_bestOf_B fR lR) s m args below meth c H locs 0 0 (MQ below (QW Y D N ad K len σ1 ρ0 (AA N ad s.heap.size) (some (.int r))) args s 0 0 (AA N ad s.heap.size)) (F0 m 28 ls []) := by
  have hx := C.1.1
  have hb := C.1.2.1
  intro n
  induction n with
  | zero => intro σ ρ r1 r2 v3 v4 v5 v6 v7 H locs ls hρ0 hL hz hz2 hRM hF; cases hF
  | succ n ih =>
    intro σ ρ r1 r2 v3 v4 v5 v6 v7 H locs ls hρ0 hL hz hz2 hRM hF hP hS hl
    unfold F_X11_bestOf_B_28 at hF
    obtain ⟨gr1, hF⟩ := gd_1 hF
    obtain ⟨gr2, hF⟩ := gd_1 hF
    refine lv_iload hx hb dX11_bestOf_28 (lv_at hl 7 rfl) ?_
    refine lv_iconst (v := 3) hx hb dX11_bestOf_30 (by decide) ?_
    refine lv_icmp_ge (tgt := 104) hx hb dX11_bestOf_31 (by decide) (fun c_4 => ?_) (fun c_4 => ?_) -- COND 4 by_cases c_4 : (3 : Int32) ≤ v7
    · have hF := ite_t hF c_4
      refine lv_iload hx hb dX11_bestOf_104 (lv_at hl 6 rfl) ?_
      refine lv_bipush (v := -5) hx hb dX11_bestOf_106 (by decide +kernel) ?_
      refine lv_icmp_ne (tgt := 144) hx hb dX11_bestOf_108 (by decide) (fun c_5 => ?_) (fun c_5 => ?_) -- COND 5 rcases (Decidable.em (v6 = (-5 : Int32))).symm with c_5 | c_5
      · have hF := ite_f hF c_5
        exact w_X11_bestOf_B_144 C hρ0 hL hz hz2 hRM hF hP hS (lv_sub hl [0, 3, 5, 6] rfl)
      · have hF := ite_t hF c_5
        refine lv_aload_n hx hb dX11_bestOf_111 rfl (lv_at hl 0 rfl) ?_
        refine get_11_5 C hP (lr_0 hL) (lk_0 hL) inlX11 mw_26 (lf_0_5 hL) dX11_bestOf_112 ?_
        refine lv_iload_n hx hb dX11_bestOf_115 rfl (lv_at hl 3 rfl) ?_
        refine lv_iconst (v := 1) hx hb dX11_bestOf_116 (by decide) ?_
        refine lv_iadd hx hb dX11_bestOf_117 ?_
        obtain ⟨x9, ex9, hF⟩ := nm_1 hF
        refine x_top ex9 ?_
        obtain ⟨g10, hF⟩ := gd_1 hF
        refine x_aald (v := rf ad (ρ 34 (x9).toNatClampNeg)) C hP (lr_34 hL) (lk_34 hL) (Or.inr ⟨rfl, rfl, rfl⟩) (ln_34 hL) g10 rfl dX11_bestOf_118 ?_
        rcases ho11 : (ρ 34 (x9).toNatClampNeg) with _ | c11
        · have hF := oc_n hF ho11
          refine x_n ?_
          cases hF
        · have hF := oc_s hF ho11
          refine x_s ?_
          obtain ⟨gc11, hF⟩ := gd_1 hF
          refine lv_aload_n hx hb dX11_bestOf_119 rfl (lv_at hl 0 rfl) ?_
          refine get_11_5 C hP (lr_0 hL) (lk_0 hL) inlX11 mw_26 (lf_0_5 hL) dX11_bestOf_120 ?_
          refine lv_iload_n hx hb dX11_bestOf_123 rfl (lv_at hl 3 rfl) ?_
          obtain ⟨g12, hF⟩ := gd_1 hF
          refine x_aald (v := rf ad (ρ 34 (v3).toNatClampNeg)) C hP (lr_34 hL) (lk_34 hL) (Or.inr ⟨rfl, rfl, rfl⟩) (ln_34 hL) g12 rfl dX11_bestOf_124 ?_
          rcases ho13 : (ρ 34 (v3).toNatClampNeg) with _ | c13
          · have hF := oc_n hF ho13
            refine x_n ?_
            cases hF
          · have hF := oc_s hF ho13
            refine x_s ?_
            obtain ⟨gc13, hF⟩ := gd_1 hF
            obtain ⟨σ14, hq14, hF⟩ := bn_1 hF
            refine x_callV (ci := 3) rfl rfl C hP hS (c_X3_takes hL (il_of hL gc11) (il_of hL gc13) hq14) (il_of hL gc11).1 (il_of hL gc11).2.1 (cwV 1 C.1.2.2.2.2 (gdV mw_720 mw_721 mw_722 mw_31 mw_723) rfl rfl rfl hd_X3_takes ⟨by show 1 ≤ 6 + fR + 1; omega, by show 21 ≤ 152 + lR; omega⟩) rfl rfl hl.1 (Nat.le_of_ble_eq_true rfl) ⟨Nat.zero_le _, Nat.zero_le _⟩ dX11_bestOf_125 (fun H locs hP hS => ?_)
            refine lv_aload_n hx hb dX11_bestOf_128 rfl (lv_at hl 0 rfl) ?_
            refine lv_aload_n hx hb dX11_bestOf_129 rfl (lv_at hl 2 rfl) ?_
            refine lv_aload_n hx hb dX11_bestOf_130 rfl (lv_at hl 1 rfl) ?_
            refine lv_iload_n hx hb dX11_bestOf_131 rfl (lv_at hl 3 rfl) ?_
            refine lv_iconst (v := 1) hx hb dX11_bestOf_132 (by decide) ?_
            refine lv_iadd hx hb dX11_bestOf_133 ?_
            obtain ⟨x15, ex15, hF⟩ := nm_1 hF
            refine x_top ex15 ?_
            refine lv_iload hx hb dX11_bestOf_134 (lv_at hl 4 rfl) ?_
            refine lv_iconst (v := 1) hx hb dX11_bestOf_136 (by decide) ?_
            refine lv_isub hx hb dX11_bestOf_137 ?_
            obtain ⟨x16, ex16, hF⟩ := nm_1 hF
            refine x_top ex16 ?_
            obtain ⟨r17, σ17, hq17, hF⟩ := bn2_1 hF
            refine x_callV (ci := 11) rfl rfl C hP hS (hRM hL gr2 gr1 hq17) (lr_0 hL) (lk_0 hL) (cwV 4 C.1.2.2.2.2 (gdV mw_869 mw_870 mw_871 mw_2 mw_872) rfl rfl rfl hd_X11_bestOf ⟨by show fR + 1 ≤ 6 + fR + 1; omega, by show 28 + lR ≤ 152 + lR; omega⟩) rfl rfl hl.1 (Nat.le_of_ble_eq_true rfl) ⟨Nat.zero_le _, Nat.zero_le _⟩ dX11_bestOf_138 (fun H locs hP hS => ?_)
            refine lv_ineg hx hb dX11_bestOf_141 ?_
            obtain ⟨x18, ex18, hF⟩ := nm_1 hF
            refine x_top ex18 ?_
            refine lv_istore (lv' := [(5, .int x18), (0, .ref (ad 0)), (1, .ref (ad r1)), (2, .ref (ad r2)), (3, .int v3), (4, .int v4), (6, .int v6), (7, .int v7)]) hx hb dX11_bestOf_142 hl (by decide) rfl (fun ls hl => ?_)
            exact w_X11_bestOf_B_144 C hρ0 hL hz hz2 hRM hF hP hS (lv_sub hl [1, 4, 0, 6] rfl)
    · have hF := ite_f hF c_4
      refine lv_aload_n hx hb dX11_bestOf_34 rfl (lv_at hl 0 rfl) ?_
      refine lv_iload_n hx hb dX11_bestOf_35 rfl (lv_at hl 3 rfl) ?_
      refine lv_aload_n hx hb dX11_bestOf_36 rfl (lv_at hl 1 rfl) ?_
      refine lv_aload_n hx hb dX11_bestOf_37 rfl (lv_at hl 1 rfl) ?_
      refine lv_iload hx hb dX11_bestOf_38 (lv_at hl 7 rfl) ?_
      obtain ⟨r19, hq19, hF⟩ := bn_1 hF
      refine x_callS C hP hS (c_X11_thickByWay hL gr1 hq19) (va_cwS 2 C.1.2.2.2.2 (gdS mw_873 mw_874 mw_2 mw_875) rfl rfl rfl hd_X11_thickByWay.2 ⟨by show 2 ≤ 6 + fR + 1; omega, by show 42 ≤ 152 + lR; omega⟩) rfl rfl hl.1 (Nat.le_of_ble_eq_true rfl) ⟨Nat.zero_le _, Nat.zero_le _⟩ dX11_bestOf_40 (fun H locs hP hS => ?_)
      obtain ⟨r20, σ20, hq20, hF⟩ := bn2_1 hF
      refine x_callV (ci := 11) rfl rfl C hP hS (c_X11_tryStep hL gr1 hq20) (lr_0 hL) (lk_0 hL) (cwV 3 C.1.2.2.2.2 (gdV mw_724 mw_725 mw_726 mw_2 mw_727) rfl rfl rfl hd_X11_tryStep ⟨by show 6 ≤ 6 + fR + 1; omega, by show 152 ≤ 152 + lR; omega⟩) rfl rfl hl.1 (Nat.le_of_ble_eq_true rfl) ⟨Nat.zero_le _, Nat.zero_le _⟩ dX11_bestOf_43 (fun H locs hP hS => ?_)
      refine lv_if_eq (tgt := 98) hx hb dX11_bestOf_46 (by decide) (fun c_21 => ?_) (fun c_21 => ?_) -- COND 21 by_cases c_21 : r20 = 0
      · have hF := ite_t hF c_21
        exact w_X11_bestOf_B_98 C ih hρ0 hL hz hz2 hRM hF hP hS (lv_sub hl [0, 1, 2, 3, 4, 5, 6, 7] rfl)
      · have hF := ite_f hF c_21
        refine lv_aload_n hx hb dX11_bestOf_49 rfl (lv_at hl 0 rfl) ?_
        refine get_11_5 C hP (lr_0 hL) (lk_0 hL) inlX11 mw_26 (lf_0_5 hL) dX11_bestOf_50 ?_
        refine lv_iload_n hx hb dX11_bestOf_53 rfl (lv_at hl 3 rfl) ?_
        refine lv_iconst (v := 1) hx hb dX11_bestOf_54 (by decide) ?_
        refine lv_iadd hx hb dX11_bestOf_55 ?_
        obtain ⟨x23, ex23, hF⟩ := nm_1 hF
        refine x_top ex23 ?_
        obtain ⟨g24, hF⟩ := gd_1 hF
        refine x_aald (v := rf ad (ρ 34 (x23).toNatClampNeg)) C hP (lr_34 hL) (lk_34 hL) (Or.inr ⟨rfl, rfl, rfl⟩) (ln_34 hL) g24 rfl dX11_bestOf_56 ?_
        rcases ho25 : (ρ 34 (x23).toNatClampNeg) with _ | c25
        · have hF := oc_n hF ho25
          refine x_n ?_
          cases hF
        · have hF := oc_s hF ho25
          refine x_s ?_
          obtain ⟨gc25, hF⟩ := gd_1 hF
          refine get_3_6 C hP (il_of hL gc25).1 (il_of hL gc25).2.1 inlX3 mw_528 dX11_bestOf_57 ?_
          refine lv_aload_n hx hb dX11_bestOf_60 rfl (lv_at hl 0 rfl) ?_
          refine lv_aload_n hx hb dX11_bestOf_61 rfl (lv_at hl 2 rfl) ?_
          refine lv_aload_n hx hb dX11_bestOf_62 rfl (lv_at hl 1 rfl) ?_
          refine lv_iload_n hx hb dX11_bestOf_63 rfl (lv_at hl 3 rfl) ?_
          refine lv_iconst (v := 1) hx hb dX11_bestOf_64 (by decide) ?_
          refine lv_iadd hx hb dX11_bestOf_65 ?_
          obtain ⟨x26, ex26, hF⟩ := nm_1 hF
          refine x_top ex26 ?_
          refine lv_iload hx hb dX11_bestOf_66 (lv_at hl 4 rfl) ?_
          refine lv_iconst (v := 1) hx hb dX11_bestOf_68 (by decide) ?_
          refine lv_isub hx hb dX11_bestOf_69 ?_
          obtain ⟨x27, ex27, hF⟩ := nm_1 hF
          refine x_top ex27 ?_
          obtain ⟨r28, σ28, hq28, hF⟩ := bn2_1 hF
          refine x_callV (ci := 11) rfl rfl C hP hS (hRM hL gr2 gr1 hq28) (lr_0 hL) (lk_0 hL) (cwV 4 C.1.2.2.2.2 (gdV mw_869 mw_870 mw_871 mw_2 mw_872) rfl rfl rfl hd_X11_bestOf ⟨by show fR + 1 ≤ 6 + fR + 1; omega, by show 28 + lR ≤ 152 + lR; omega⟩) rfl rfl hl.1 (Nat.le_of_ble_eq_true rfl) ⟨Nat.zero_le _, Nat.zero_le _⟩ dX11_bestOf_70 (fun H locs hP hS => ?_)
          refine lv_isub hx hb dX11_bestOf_73 ?_
          obtain ⟨x29, ex29, hF⟩ := nm_1 hF
          refine x_top ex29 ?_
          refine lv_istore (lv' := [(8, .int x29), (0, .ref (ad 0)), (1, .ref (ad r1)), (2, .ref (ad r2)), (3, .int v3), (4, .int v4), (5, .int v5), (6, .int v6), (7, .int v7)]) hx hb dX11_bestOf_74 hl (by decide) rfl (fun ls hl => ?_)
          refine lv_iload hx hb dX11_bestOf_76 (lv_at hl 7 rfl) ?_
          refine lv_bipush (v := -5) hx hb dX11_bestOf_78 (by decide +kernel) ?_
          refine lv_icmp_eq (tgt := 90) hx hb dX11_bestOf_80 (by decide) (fun c_30 => ?_) (fun c_30 => ?_) -- COND 30 by_cases c_30 : v6 = (-5 : Int32)
          · have hF := ite_t hF c_30
            exact w_X11_bestOf_B_90 C ih hρ0 hL hz hz2 hRM hF hP hS (lv_sub hl [1, 2, 3, 4, 5, 8, 0] rfl)
          · have hF := ite_f hF c_30
            refine lv_iload hx hb dX11_bestOf_83 (lv_at hl 0 rfl) ?_
            refine lv_iload hx hb dX11_bestOf_85 (lv_at hl 6 rfl) ?_
            refine lv_icmp_le (tgt := 98) hx hb dX11_bestOf_87 (by decide) (fun c_31 => ?_) (fun c_31 => ?_) -- COND 31 by_cases c_31 : x29 ≤ v5
            · have hF := ite_t hF c_31
              exact w_X11_bestOf_B_98 C ih hρ0 hL hz hz2 hRM hF hP hS (lv_sub hl [1, 2, 3, 4, 5, 6, 7, 8] rfl)
            · have hF := ite_f hF c_31
              exact w_X11_bestOf_B_90 C ih hρ0 hL hz hz2 hRM hF hP hS (lv_sub hl [1, 2, 3, 4, 5, 8, 0] rfl)
set_option maxHeartbeats 4000000 in
set_option maxRecDepth 100000 in
theorem w_X11_bestOf_B_0 {N : Nat} {K len : Nat → Nat} {R : Nat → Nat → Int32 → Int32 → SG → RG → Option (Int32 × SG)} {z : Nat} {z2 : Nat} {a3 : Int32} {a4 : Int32} {p : Program} {e : Env} {s : State} {m : MethodId} {args : Array Value} {below : List Frame} {meth : Method} {c : Code} {ρ0 : RG} {r : Int32} {σ1 : SG} (C : Cx Y D N ad p s m args meth c cX11_bestOf 9 (some .int) RX11 wsL_law) {σ : SG} {ρ : RG} {H : Heap} {locs : List Loc} {ls : Array Slot} (hρ0 : ρ = ρ0) (hL : Lay N K len ρ) (hz : isC N K z = true) (hz2 : isC N K z2 = true) (hRM : (∀ {z : Nat} {z2 : Nat} {a3 : Int32} {a4 : Int32} {r : Int32} {σ1 : SG} {σ : SG} {ρ : RG}, Lay N K len ρ → isC N K z = true → isC N K z2 = true → R z z2 a3 a4 σ ρ = some (r, σ1) → MT l Y D N ad K len yX11_bestOf (Cond.code yX11_bestOf cX11_bestOf 9 (some .int) :: wsL_law) (rmk fR lR) [.ref (ad 0), .ref (ad z), .ref (ad z2), .int a3, .int a4] σ ρ (some (.int r)) σ1 ρ)) (hF : F_X11_bestOf_B N K len R z z2 a3 a4 σ ρ = some (r, σ1)) (hP : WP Y D N ad K len σ ρ H) (hS : va_S (AA N ad s.heap.size) s.heap H locs) (hl : lv_has ls 9 [(0, .ref (ad 0)), (1, .ref (ad z)), (2, .ref (ad z2)), (3, .int a3), (4, .int a4)]) : W p l e (rm_X11_bestOf_B fR lR) s m args below meth c H locs 0 0 (MQ below (QW Y D N ad K len σ1 ρ0 (AA N ad s.heap.size) (some (.int r))) args s 0 0 (AA N ad s.heap.size)) (F0 m 0 ls []) := by
  have hx := C.1.1
  have hb := C.1.2.1
  unfold F_X11_bestOf_B at hF
  refine lv_iload hx hb dX11_bestOf_0 (lv_at hl 4 rfl) ?_
  refine lv_if_le (tgt := 16) hx hb dX11_bestOf_2 (by decide) (fun c_1 => ?_) (fun c_1 => ?_) -- COND 1 by_cases c_1 : a4 ≤ 0
  · have hF := ite_t hF c_1
    refine lv_iconst (v := 0) hx hb dX11_bestOf_16 (by decide) ?_
    obtain ⟨rfl, rfl⟩ := ret_2 hF
    subst hρ0
    exact x_iret rfl C hP hS dX11_bestOf_17
  · have hF := ite_f hF c_1
    refine lv_iload_n hx hb dX11_bestOf_5 rfl (lv_at hl 3 rfl) ?_
    refine lv_iconst (v := 1) hx hb dX11_bestOf_6 (by decide) ?_
    refine lv_iadd hx hb dX11_bestOf_7 ?_
    obtain ⟨x2, ex2, hF⟩ := nm_1 hF
    refine x_top ex2 ?_
    refine lv_aload_n hx hb dX11_bestOf_8 rfl (lv_at hl 0 rfl) ?_
    refine get_11_5 C hP (lr_0 hL) (lk_0 hL) inlX11 mw_26 (lf_0_5 hL) dX11_bestOf_9 ?_
    refine x_alen (v := (7 : Int32)) C hP (lr_34 hL) (lk_34 hL) (by decide) (ln_34 hL) (by decide +kernel) dX11_bestOf_12 ?_
    refine lv_icmp_lt (tgt := 18) hx hb dX11_bestOf_13 (by decide) (fun c_3 => ?_) (fun c_3 => ?_) -- COND 3 by_cases c_3 : x2 < (7 : Int32)
    · have hF := ite_t hF c_3
      refine lv_iconst (v := 0) hx hb dX11_bestOf_18 (by decide) ?_
      refine lv_istore (lv' := [(5, .int (0 : Int32)), (0, .ref (ad 0)), (1, .ref (ad z)), (2, .ref (ad z2)), (3, .int a3), (4, .int a4)]) hx hb dX11_bestOf_19 hl (by decide) rfl (fun ls hl => ?_)
      refine lv_bipush (v := -5) hx hb dX11_bestOf_21 (by decide +kernel) ?_
      refine lv_istore (lv' := [(6, .int (-5 : Int32)), (5, .int (0 : Int32)), (0, .ref (ad 0)), (1, .ref (ad z)), (2, .ref (ad z2)), (3, .int a3), (4, .int a4)]) hx hb dX11_bestOf_23 hl (by decide) rfl (fun ls hl => ?_)
      refine lv_iconst (v := 0) hx hb dX11_bestOf_25 (by decide) ?_
      refine lv_istore (lv' := [(7, .int (0 : Int32)), (6, .int (-5 : Int32)), (5, .int (0 : Int32)), (0, .ref (ad 0)), (1, .ref (ad z)), (2, .ref (ad z2)), (3, .int a3), (4, .int a4)]) hx hb dX11_bestOf_26 hl (by decide) rfl (fun ls hl => ?_)
      exact w_X11_bestOf_B_28 C 1024 _ _ _ _ _ _ _ _ _ _ _ _ hρ0 hL hz hz2 hRM hF hP hS (lv_sub hl [3, 4, 5, 6, 7, 2, 1, 0] rfl)
    · have hF := ite_f hF c_3
      refine lv_iconst (v := 0) hx hb dX11_bestOf_16 (by decide) ?_
      obtain ⟨rfl, rfl⟩ := ret_2 hF
      subst hρ0
      exact x_iret rfl C hP hS dX11_bestOf_17
set_option maxHeartbeats 4000000 in
set_option maxRecDepth 100000 in
theorem c_X11_bestOf_B {N : Nat} {K len : Nat → Nat} {R : Nat → Nat → Int32 → Int32 → SG → RG → Option (Int32 × SG)} {z : Nat} {z2 : Nat} {a3 : Int32} {a4 : Int32} {r : Int32} {σ1 : SG} {σ : SG} {ρ : RG} (hL : Lay N K len ρ) (hz : isC N K z = true) (hz2 : isC N K z2 = true) (hRM : (∀ {z : Nat} {z2 : Nat} {a3 : Int32} {a4 : Int32} {r : Int32} {σ1 : SG} {σ : SG} {ρ : RG}, Lay N K len ρ → isC N K z = true → isC N K z2 = true → R z z2 a3 a4 σ ρ = some (r, σ1) → MT l Y D N ad K len yX11_bestOf (Cond.code yX11_bestOf cX11_bestOf 9 (some .int) :: wsL_law) (rmk fR lR) [.ref (ad 0), .ref (ad z), .ref (ad z2), .int a3, .int a4] σ ρ (some (.int r)) σ1 ρ)) (hF : F_X11_bestOf_B N K len R z z2 a3 a4 σ ρ = some (r, σ1)) : MT l Y D N ad K len yX11_bestOf (Cond.code yX11_bestOf cX11_bestOf 9 (some .int) :: wsL_law) (rm_X11_bestOf_B fR lR) [.ref (ad 0), .ref (ad z), .ref (ad z2), .int a3, .int a4] σ ρ (some (.int r)) σ1 ρ := by
  refine mt_of (cc := cX11_bestOf) (nL := 9) (ret := (some .int)) (by decide) (Nat.le_of_ble_eq_true rfl) ?_
  intro p e s m args below meth c ls C hnm hP hS hl
  exact w_X11_bestOf_B_0 C rfl hL hz hz2 hRM hF hP hS hl

def F_X11_bestOf_R (N : Nat) (K len : Nat → Nat) : Nat → Nat → Nat → Int32 → Int32 → SG → RG → Option (Int32 × SG)
  | 0 => fun _ _ _ _ _ _ => none
  | d + 1 => fun z z2 a3 a4 σ ρ => F_X11_bestOf_B N K len (F_X11_bestOf_R N K len d) z z2 a3 a4 σ ρ
def fr_X11_bestOf_R : Nat → Nat
  | 0 => 0
  | d + 1 => 6 + fr_X11_bestOf_R d + 1
def lo_X11_bestOf_R : Nat → Nat
  | 0 => 0
  | d + 1 => 152 + lo_X11_bestOf_R d
theorem c_X11_bestOf_R (d : Nat) : ∀ {z : Nat} {z2 : Nat} {a3 : Int32} {a4 : Int32} {r : Int32} {σ1 : SG} {σ : SG} {ρ : RG}, Lay N K len ρ → isC N K z = true → isC N K z2 = true → F_X11_bestOf_R N K len d z z2 a3 a4 σ ρ = some (r, σ1) → MT l Y D N ad K len yX11_bestOf (Cond.code yX11_bestOf cX11_bestOf 9 (some .int) :: wsL_law) (rmk (fr_X11_bestOf_R d) (lo_X11_bestOf_R d)) [.ref (ad 0), .ref (ad z), .ref (ad z2), .int a3, .int a4] σ ρ (some (.int r)) σ1 ρ := by
  induction d with
  | zero => intros; contradiction
  | succ d ih =>
    intro z z2 a3 a4 r σ1 σ ρ hL hc0 hc1 hF
    exact c_X11_bestOf_B (R := F_X11_bestOf_R N K len d) (fR := fr_X11_bestOf_R d) (lR := lo_X11_bestOf_R d) hL hc0 hc1 ih hF
def F_X11_bestOf (N : Nat) (K len : Nat → Nat) (z : Nat) (z2 : Nat) (a3 : Int32) (a4 : Int32) (σ : SG) (ρ : RG) : Option (Int32 × SG) := F_X11_bestOf_R N K len 9 z z2 a3 a4 σ ρ
abbrev rm_X11_bestOf : Room := { frames := 63, cells := 0, slots := 0, locals := 1368 }
theorem rm_X11_bestOf_eq : rmk (fr_X11_bestOf_R 9) (lo_X11_bestOf_R 9) = rm_X11_bestOf := rfl
theorem c_X11_bestOf : ∀ {z : Nat} {z2 : Nat} {a3 : Int32} {a4 : Int32} {r : Int32} {σ1 : SG} {σ : SG} {ρ : RG}, Lay N K len ρ → isC N K z = true → isC N K z2 = true → F_X11_bestOf N K len z z2 a3 a4 σ ρ = some (r, σ1) → MT l Y D N ad K len yX11_bestOf (Cond.code yX11_bestOf cX11_bestOf 9 (some .int) :: wsL_law) rm_X11_bestOf [.ref (ad 0), .ref (ad z), .ref (ad z2), .int a3, .int a4] σ ρ (some (.int r)) σ1 ρ := rm_X11_bestOf_eq ▸ c_X11_bestOf_R 9

/-! CutCrooked.public int game(int, int, int, int);  -/
theorem dX11_game_0 : decode cX11_game 0 = .ok (.aload_n 0, 1) := by decide +kernel
theorem dX11_game_1 : decode cX11_game 1 = .ok (.getfield 12, 3) := by decide +kernel
theorem dX11_game_4 : decode cX11_game 4 = .ok (.iload_n 1, 1) := by decide +kernel
theorem dX11_game_5 : decode cX11_game 5 = .ok (.invokevirtual 100, 3) := by decide +kernel
theorem dX11_game_8 : decode cX11_game 8 = .ok (.astore 5, 2) := by decide +kernel
theorem dX11_game_10 : decode cX11_game 10 = .ok (.aload_n 0, 1) := by decide +kernel
theorem dX11_game_11 : decode cX11_game 11 = .ok (.getfield 12, 3) := by decide +kernel
theorem dX11_game_14 : decode cX11_game 14 = .ok (.iload_n 2, 1) := by decide +kernel
theorem dX11_game_15 : decode cX11_game 15 = .ok (.invokevirtual 100, 3) := by decide +kernel
theorem dX11_game_18 : decode cX11_game 18 = .ok (.astore 6, 2) := by decide +kernel
theorem dX11_game_20 : decode cX11_game 20 = .ok (.aload 5, 2) := by decide +kernel
theorem dX11_game_22 : decode cX11_game 22 = .ok (.ifnull 18, 3) := by decide +kernel
theorem dX11_game_25 : decode cX11_game 25 = .ok (.aload 6, 2) := by decide +kernel
theorem dX11_game_27 : decode cX11_game 27 = .ok (.ifnull 13, 3) := by decide +kernel
theorem dX11_game_30 : decode cX11_game 30 = .ok (.iload 4, 2) := by decide +kernel
theorem dX11_game_32 : decode cX11_game 32 = .ok (.iconst 0, 1) := by decide +kernel
theorem dX11_game_33 : decode cX11_game 33 = .ok (.iconst 1, 1) := by decide +kernel
theorem dX11_game_34 : decode cX11_game 34 = .ok (.invokestatic 56, 3) := by decide +kernel
theorem dX11_game_37 : decode cX11_game 37 = .ok (.ifCond .ne 7, 3) := by decide +kernel
theorem dX11_game_40 : decode cX11_game 40 = .ok (.sipush (-10001), 3) := by decide +kernel
theorem dX11_game_43 : decode cX11_game 43 = .ok (.ireturn, 1) := by decide +kernel
theorem dX11_game_44 : decode cX11_game 44 = .ok (.iload_n 1, 1) := by decide +kernel
theorem dX11_game_45 : decode cX11_game 45 = .ok (.iload_n 2, 1) := by decide +kernel
theorem dX11_game_46 : decode cX11_game 46 = .ok (.if_icmp .eq 12, 3) := by decide +kernel
theorem dX11_game_49 : decode cX11_game 49 = .ok (.iload_n 3, 1) := by decide +kernel
theorem dX11_game_50 : decode cX11_game 50 = .ok (.iconst 1, 1) := by decide +kernel
theorem dX11_game_51 : decode cX11_game 51 = .ok (.iconst 5, 1) := by decide +kernel
theorem dX11_game_52 : decode cX11_game 52 = .ok (.invokestatic 56, 3) := by decide +kernel
theorem dX11_game_55 : decode cX11_game 55 = .ok (.ifCond .ne 7, 3) := by decide +kernel
theorem dX11_game_58 : decode cX11_game 58 = .ok (.sipush (-10002), 3) := by decide +kernel
theorem dX11_game_61 : decode cX11_game 61 = .ok (.ireturn, 1) := by decide +kernel
theorem dX11_game_62 : decode cX11_game 62 = .ok (.aload_n 0, 1) := by decide +kernel
theorem dX11_game_63 : decode cX11_game 63 = .ok (.invokevirtual 176, 3) := by decide +kernel
theorem dX11_game_66 : decode cX11_game 66 = .ok (.aload_n 0, 1) := by decide +kernel
theorem dX11_game_67 : decode cX11_game 67 = .ok (.aload 5, 2) := by decide +kernel
theorem dX11_game_69 : decode cX11_game 69 = .ok (.aload 6, 2) := by decide +kernel
theorem dX11_game_71 : decode cX11_game 71 = .ok (.iconst 0, 1) := by decide +kernel
theorem dX11_game_72 : decode cX11_game 72 = .ok (.iload_n 3, 1) := by decide +kernel
theorem dX11_game_73 : decode cX11_game 73 = .ok (.invokevirtual 226, 3) := by decide +kernel
theorem dX11_game_76 : decode cX11_game 76 = .ok (.istore 7, 2) := by decide +kernel
theorem dX11_game_78 : decode cX11_game 78 = .ok (.iload 4, 2) := by decide +kernel
theorem dX11_game_80 : decode cX11_game 80 = .ok (.ifCond .ne 8, 3) := by decide +kernel
theorem dX11_game_83 : decode cX11_game 83 = .ok (.iload 7, 2) := by decide +kernel
theorem dX11_game_85 : decode cX11_game 85 = .ok (.goto 7, 3) := by decide +kernel
theorem dX11_game_88 : decode cX11_game 88 = .ok (.aload_n 0, 1) := by decide +kernel
theorem dX11_game_89 : decode cX11_game 89 = .ok (.getfield 230, 3) := by decide +kernel
theorem dX11_game_92 : decode cX11_game 92 = .ok (.ireturn, 1) := by decide +kernel
theorem hd_X11_game : yX11_game.cls = RX11 ∧ yX11_game.cls ≠ "java/lang/invoke/MethodHandle" ∧ yX11_game.cls ≠ "java/lang/invoke/VarHandle" ∧ (parseMethodDescriptor yX11_game.desc).map (fun d => d.parameters.length) = some 4 := by decide +kernel
abbrev rm_X11_game : Room := { frames := 64, cells := 0, slots := 0, locals := 1396 }
def F_X11_game (N : Nat) (K len : Nat → Nat) (a1 : Int32) (a2 : Int32) (a3 : Int32) (a4 : Int32) (σ : SG) (ρ : RG) : Option (Int32 × SG) :=
  bn (F_X8_cutterAt_1 a1 σ ρ) fun o1 =>
  oc o1
   (
    bn (F_X8_cutterAt_1 a2 σ ρ) fun o3 =>
    oc o3
     (
      some ((-10001 : Int32), σ))
     (fun c4 =>
      gd (isC N K c4) <|
      some ((-10001 : Int32), σ)))
   (fun c2 =>
    gd (isC N K c2) <|
    bn (F_X8_cutterAt_1 a2 σ ρ) fun o5 =>
    oc o5
     (
      some ((-10001 : Int32), σ))
     (fun c6 =>
      gd (isC N K c6) <|
      bn (F_X11_isWithin a4 (0 : Int32) (1 : Int32) σ ρ) fun r7 =>
      if r7 = 0 then
        some ((-10001 : Int32), σ)
      else
        if a1 = a2 then
          some ((-10002 : Int32), σ)
        else
          bn (F_X11_isWithin a3 (1 : Int32) (5 : Int32) σ ρ) fun r10 =>
          if r10 = 0 then
            some ((-10002 : Int32), σ)
          else
            bn (F_X11_startSteps σ ρ) fun σ12 =>
            bn2 (F_X11_bestOf N K len c2 c6 (0 : Int32) a3 σ12 ρ) fun r13 σ13 =>
            if a4 = 0 then
              some (r13, σ13)
            else
              some ((σ13 0 10), σ13)))
set_option maxHeartbeats 4000000 in
set_option maxRecDepth 100000 in
theorem w_X11_game_0 {N : Nat} {K len : Nat → Nat} {a1 : Int32} {a2 : Int32} {a3 : Int32} {a4 : Int32} {p : Program} {e : Env} {s : State} {m : MethodId} {args : Array Value} {below : List Frame} {meth : Method} {c : Code} {ρ0 : RG} {r : Int32} {σ1 : SG} (C : Cx Y D N ad p s m args meth c cX11_game 8 (some .int) RX11 wsL_law) {σ : SG} {ρ : RG} {H : Heap} {locs : List Loc} {ls : Array Slot} (hρ0 : ρ = ρ0) (hL : Lay N K len ρ) (hF : F_X11_game N K len a1 a2 a3 a4 σ ρ = some (r, σ1)) (hP : WP Y D N ad K len σ ρ H) (hS : va_S (AA N ad s.heap.size) s.heap H locs) (hl : lv_has ls 8 [(0, .ref (ad 0)), (1, .int a1), (2, .int a2), (3, .int a3), (4, .int a4)]) : W p l e rm_X11_game s m args below meth c H locs 0 0 (MQ below (QW Y D N ad K len σ1 ρ0 (AA N ad s.heap.size) (some (.int r))) args s 0 0 (AA N ad s.heap.size)) (F0 m 0 ls []) := by
  have hx := C.1.1
  have hb := C.1.2.1
  unfold F_X11_game at hF
  refine lv_aload_n hx hb dX11_game_0 rfl (lv_at hl 0 rfl) ?_
  refine get_11_0 C hP (lr_0 hL) (lk_0 hL) inlX11 mw_15 (lf_0_0 hL) dX11_game_1 ?_
  refine lv_iload_n hx hb dX11_game_4 rfl (lv_at hl 1 rfl) ?_
  obtain ⟨o1, hq1, hF⟩ := bn_1 hF
  refine x_callV (ci := 8) rfl rfl C hP hS (c_X8_cutterAt_1 hL hq1) (lr_1 hL) (lk_1 hL) (cwV 1 C.1.2.2.2.2 (gdV mw_428 mw_429 mw_430 mw_14 mw_431) rfl rfl rfl hd_X8_cutterAt ⟨Nat.le_of_ble_eq_true rfl, Nat.le_of_ble_eq_true rfl⟩) rfl rfl hl.1 (Nat.le_of_ble_eq_true rfl) ⟨Nat.zero_le _, Nat.zero_le _⟩ dX11_game_5 (fun H locs hP hS => ?_)
  rcases ho2 : o1 with _ | c2
  · have hF := oc_n hF ho2
    refine x_n ?_
    refine lv_astoreN (lv' := [(5, .null), (0, .ref (ad 0)), (1, .int a1), (2, .int a2), (3, .int a3), (4, .int a4)]) hx hb dX11_game_8 hl (by decide) rfl (fun ls hl => ?_)
    refine lv_aload_n hx hb dX11_game_10 rfl (lv_at hl 1 rfl) ?_
    refine get_11_0 C hP (lr_0 hL) (lk_0 hL) inlX11 mw_15 (lf_0_0 hL) dX11_game_11 ?_
    refine lv_iload_n hx hb dX11_game_14 rfl (lv_at hl 3 rfl) ?_
    obtain ⟨o3, hq3, hF⟩ := bn_1 hF
    refine x_callV (ci := 8) rfl rfl C hP hS (c_X8_cutterAt_1 hL hq3) (lr_1 hL) (lk_1 hL) (cwV 1 C.1.2.2.2.2 (gdV mw_428 mw_429 mw_430 mw_14 mw_431) rfl rfl rfl hd_X8_cutterAt ⟨Nat.le_of_ble_eq_true rfl, Nat.le_of_ble_eq_true rfl⟩) rfl rfl hl.1 (Nat.le_of_ble_eq_true rfl) ⟨Nat.zero_le _, Nat.zero_le _⟩ dX11_game_15 (fun H locs hP hS => ?_)
    rcases ho4 : o3 with _ | c4
    · have hF := oc_n hF ho4
      refine x_n ?_
      refine lv_astoreN (lv' := [(6, .null), (5, .null), (0, .ref (ad 0)), (1, .int a1), (2, .int a2), (3, .int a3), (4, .int a4)]) hx hb dX11_game_18 hl (by decide) rfl (fun ls hl => ?_)
      refine lv_aloadN hx hb dX11_game_20 (lv_at hl 1 rfl) ?_
      refine lv_ifnullN (tgt := 40) hx hb dX11_game_22 (by decide) ?_
      refine lv_sipush (v := -10001) hx hb dX11_game_40 (by decide +kernel) ?_
      obtain ⟨rfl, rfl⟩ := ret_2 hF
      subst hρ0
      exact x_iret rfl C hP hS dX11_game_43
    · have hF := oc_s hF ho4
      refine x_s ?_
      obtain ⟨gc4, hF⟩ := gd_1 hF
      refine lv_astore (lv' := [(6, .ref (ad c4)), (5, .null), (0, .ref (ad 0)), (1, .int a1), (2, .int a2), (3, .int a3), (4, .int a4)]) hx hb dX11_game_18 hl (by decide) rfl (fun ls hl => ?_)
      refine lv_aloadN hx hb dX11_game_20 (lv_at hl 1 rfl) ?_
      refine lv_ifnullN (tgt := 40) hx hb dX11_game_22 (by decide) ?_
      refine lv_sipush (v := -10001) hx hb dX11_game_40 (by decide +kernel) ?_
      obtain ⟨rfl, rfl⟩ := ret_2 hF
      subst hρ0
      exact x_iret rfl C hP hS dX11_game_43
  · have hF := oc_s hF ho2
    refine x_s ?_
    obtain ⟨gc2, hF⟩ := gd_1 hF
    refine lv_astore (lv' := [(5, .ref (ad c2)), (0, .ref (ad 0)), (1, .int a1), (2, .int a2), (3, .int a3), (4, .int a4)]) hx hb dX11_game_8 hl (by decide) rfl (fun ls hl => ?_)
    refine lv_aload_n hx hb dX11_game_10 rfl (lv_at hl 1 rfl) ?_
    refine get_11_0 C hP (lr_0 hL) (lk_0 hL) inlX11 mw_15 (lf_0_0 hL) dX11_game_11 ?_
    refine lv_iload_n hx hb dX11_game_14 rfl (lv_at hl 3 rfl) ?_
    obtain ⟨o5, hq5, hF⟩ := bn_1 hF
    refine x_callV (ci := 8) rfl rfl C hP hS (c_X8_cutterAt_1 hL hq5) (lr_1 hL) (lk_1 hL) (cwV 1 C.1.2.2.2.2 (gdV mw_428 mw_429 mw_430 mw_14 mw_431) rfl rfl rfl hd_X8_cutterAt ⟨Nat.le_of_ble_eq_true rfl, Nat.le_of_ble_eq_true rfl⟩) rfl rfl hl.1 (Nat.le_of_ble_eq_true rfl) ⟨Nat.zero_le _, Nat.zero_le _⟩ dX11_game_15 (fun H locs hP hS => ?_)
    rcases ho6 : o5 with _ | c6
    · have hF := oc_n hF ho6
      refine x_n ?_
      refine lv_astoreN (lv' := [(6, .null), (5, .ref (ad c2)), (0, .ref (ad 0)), (1, .int a1), (2, .int a2), (3, .int a3), (4, .int a4)]) hx hb dX11_game_18 hl (by decide) rfl (fun ls hl => ?_)
      refine lv_aload hx hb dX11_game_20 (lv_at hl 1 rfl) ?_
      refine lv_ifnull hx hb dX11_game_22 ?_
      refine lv_aloadN hx hb dX11_game_25 (lv_at hl 0 rfl) ?_
      refine lv_ifnullN (tgt := 40) hx hb dX11_game_27 (by decide) ?_
      refine lv_sipush (v := -10001) hx hb dX11_game_40 (by decide +kernel) ?_
      obtain ⟨rfl, rfl⟩ := ret_2 hF
      subst hρ0
      exact x_iret rfl C hP hS dX11_game_43
    · have hF := oc_s hF ho6
      refine x_s ?_
      obtain ⟨gc6, hF⟩ := gd_1 hF
      refine lv_astore (lv' := [(6, .ref (ad c6)), (5, .ref (ad c2)), (0, .ref (ad 0)), (1, .int a1), (2, .int a2), (3, .int a3), (4, .int a4)]) hx hb dX11_game_18 hl (by decide) rfl (fun ls hl => ?_)
      refine lv_aload hx hb dX11_game_20 (lv_at hl 1 rfl) ?_
      refine lv_ifnull hx hb dX11_game_22 ?_
      refine lv_aload hx hb dX11_game_25 (lv_at hl 0 rfl) ?_
      refine lv_ifnull hx hb dX11_game_27 ?_
      refine lv_iload hx hb dX11_game_30 (lv_at hl 6 rfl) ?_
      refine lv_iconst (v := 0) hx hb dX11_game_32 (by decide) ?_
      refine lv_iconst (v := 1) hx hb dX11_game_33 (by decide) ?_
      obtain ⟨r7, hq7, hF⟩ := bn_1 hF
      refine x_callS C hP hS (c_X11_isWithin hL hq7) (va_cwS 3 C.1.2.2.2.2 (gdS mw_97 mw_98 mw_2 mw_99) rfl rfl rfl hd_X11_isWithin.2 ⟨Nat.le_of_ble_eq_true rfl, Nat.le_of_ble_eq_true rfl⟩) rfl rfl hl.1 (Nat.le_of_ble_eq_true rfl) ⟨Nat.zero_le _, Nat.zero_le _⟩ dX11_game_34 (fun H locs hP hS => ?_)
      refine lv_if_ne (tgt := 44) hx hb dX11_game_37 (by decide) (fun c_8 => ?_) (fun c_8 => ?_) -- COND 8 rcases (Decidable.em (r7 = 0)).symm with c_8 | c_8
      · have hF := ite_f hF c_8
        refine lv_iload_n hx hb dX11_game_44 rfl (lv_at hl 3 rfl) ?_
        refine lv_iload_n hx hb dX11_game_45 rfl (lv_at hl 4 rfl) ?_
        refine lv_icmp_eq (tgt := 58) hx hb dX11_game_46 (by decide) (fun c_9 => ?_) (fun c_9 => ?_) -- COND 9 by_cases c_9 : a1 = a2
        · have hF := ite_t hF c_9
          refine lv_sipush (v := -10002) hx hb dX11_game_58 (by decide +kernel) ?_
          obtain ⟨rfl, rfl⟩ := ret_2 hF
          subst hρ0
          exact x_iret rfl C hP hS dX11_game_61
        · have hF := ite_f hF c_9
          refine lv_iload_n hx hb dX11_game_49 rfl (lv_at hl 5 rfl) ?_
          refine lv_iconst (v := 1) hx hb dX11_game_50 (by decide) ?_
          refine lv_iconst (v := 5) hx hb dX11_game_51 (by decide) ?_
          obtain ⟨r10, hq10, hF⟩ := bn_1 hF
          refine x_callS C hP hS (c_X11_isWithin hL hq10) (va_cwS 3 C.1.2.2.2.2 (gdS mw_97 mw_98 mw_2 mw_99) rfl rfl rfl hd_X11_isWithin.2 ⟨Nat.le_of_ble_eq_true rfl, Nat.le_of_ble_eq_true rfl⟩) rfl rfl hl.1 (Nat.le_of_ble_eq_true rfl) ⟨Nat.zero_le _, Nat.zero_le _⟩ dX11_game_52 (fun H locs hP hS => ?_)
          refine lv_if_ne (tgt := 62) hx hb dX11_game_55 (by decide) (fun c_11 => ?_) (fun c_11 => ?_) -- COND 11 rcases (Decidable.em (r10 = 0)).symm with c_11 | c_11
          · have hF := ite_f hF c_11
            refine lv_aload_n hx hb dX11_game_62 rfl (lv_at hl 2 rfl) ?_
            obtain ⟨σ12, hq12, hF⟩ := bn_1 hF
            refine x_callV (ci := 11) rfl rfl C hP hS (c_X11_startSteps hL hq12) (lr_0 hL) (lk_0 hL) (cwV 0 C.1.2.2.2.2 (gdV mw_713 mw_714 mw_715 mw_2 mw_716) rfl rfl rfl hd_X11_startSteps ⟨Nat.le_of_ble_eq_true rfl, Nat.le_of_ble_eq_true rfl⟩) rfl rfl hl.1 (Nat.le_of_ble_eq_true rfl) ⟨Nat.zero_le _, Nat.zero_le _⟩ dX11_game_63 (fun H locs hP hS => ?_)
            refine lv_aload_n hx hb dX11_game_66 rfl (lv_at hl 2 rfl) ?_
            refine lv_aload hx hb dX11_game_67 (lv_at hl 1 rfl) ?_
            refine lv_aload hx hb dX11_game_69 (lv_at hl 0 rfl) ?_
            refine lv_iconst (v := 0) hx hb dX11_game_71 (by decide) ?_
            refine lv_iload_n hx hb dX11_game_72 rfl (lv_at hl 5 rfl) ?_
            obtain ⟨r13, σ13, hq13, hF⟩ := bn2_1 hF
            refine x_callV (ci := 11) rfl rfl C hP hS (c_X11_bestOf hL gc2 gc6 hq13) (lr_0 hL) (lk_0 hL) (cwV 4 C.1.2.2.2.2 (gdV mw_869 mw_870 mw_871 mw_2 mw_872) rfl rfl rfl hd_X11_bestOf ⟨Nat.le_of_ble_eq_true rfl, Nat.le_of_ble_eq_true rfl⟩) rfl rfl hl.1 (Nat.le_of_ble_eq_true rfl) ⟨Nat.zero_le _, Nat.zero_le _⟩ dX11_game_73 (fun H locs hP hS => ?_)
            refine lv_istore (lv' := [(7, .int r13), (6, .ref (ad c6)), (5, .ref (ad c2)), (0, .ref (ad 0)), (1, .int a1), (2, .int a2), (3, .int a3), (4, .int a4)]) hx hb dX11_game_76 hl (by decide) rfl (fun ls hl => ?_)
            refine lv_iload hx hb dX11_game_78 (lv_at hl 7 rfl) ?_
            refine lv_if_ne (tgt := 88) hx hb dX11_game_80 (by decide) (fun c_14 => ?_) (fun c_14 => ?_) -- COND 14 rcases (Decidable.em (a4 = 0)).symm with c_14 | c_14
            · have hF := ite_f hF c_14
              refine lv_aload_n hx hb dX11_game_88 rfl (lv_at hl 3 rfl) ?_
              refine get_11_10 C hP (lr_0 hL) (lk_0 hL) inlX11 mw_719 dX11_game_89 ?_
              obtain ⟨rfl, rfl⟩ := ret_2 hF
              subst hρ0
              exact x_iret rfl C hP hS dX11_game_92
            · have hF := ite_t hF c_14
              refine lv_iload hx hb dX11_game_83 (lv_at hl 0 rfl) ?_
              refine lv_goto (tgt := 92) hx hb dX11_game_85 (by decide) ?_
              obtain ⟨rfl, rfl⟩ := ret_2 hF
              subst hρ0
              exact x_iret rfl C hP hS dX11_game_92
          · have hF := ite_t hF c_11
            refine lv_sipush (v := -10002) hx hb dX11_game_58 (by decide +kernel) ?_
            obtain ⟨rfl, rfl⟩ := ret_2 hF
            subst hρ0
            exact x_iret rfl C hP hS dX11_game_61
      · have hF := ite_t hF c_8
        refine lv_sipush (v := -10001) hx hb dX11_game_40 (by decide +kernel) ?_
        obtain ⟨rfl, rfl⟩ := ret_2 hF
        subst hρ0
        exact x_iret rfl C hP hS dX11_game_43
set_option maxHeartbeats 4000000 in
set_option maxRecDepth 100000 in
theorem c_X11_game {N : Nat} {K len : Nat → Nat} {a1 : Int32} {a2 : Int32} {a3 : Int32} {a4 : Int32} {r : Int32} {σ1 : SG} {σ : SG} {ρ : RG} (hL : Lay N K len ρ) (hF : F_X11_game N K len a1 a2 a3 a4 σ ρ = some (r, σ1)) : MT l Y D N ad K len yX11_game (Cond.code yX11_game cX11_game 8 (some .int) :: wsL_law) rm_X11_game [.ref (ad 0), .int a1, .int a2, .int a3, .int a4] σ ρ (some (.int r)) σ1 ρ := by
  refine mt_of (cc := cX11_game) (nL := 8) (ret := (some .int)) (by decide) (Nat.le_of_ble_eq_true rfl) ?_
  intro p e s m args below meth c ls C hnm hP hS hl
  exact w_X11_game_0 C rfl hL hF hP hS hl
end GEN
