/-! PART 12.xc: printed by wip/gen -/
section GEN
variable {l : Launch} {Y : YT} {D : va_G} {N : Nat} {ad K len : Nat → Nat}
/-! CutCrooked.private void startSteps();  -/
theorem dX11_startSteps_0 : decode cX11_startSteps 0 = .ok (.aload_n 0, 1) := by decide +kernel
theorem dX11_startSteps_1 : decode cX11_startSteps 1 = .ok (.getfield 37, 3) := by decide +kernel
theorem dX11_startSteps_4 : decode cX11_startSteps 4 = .ok (.iconst 0, 1) := by decide +kernel
theorem dX11_startSteps_5 : decode cX11_startSteps 5 = .ok (.aaload, 1) := by decide +kernel
theorem dX11_startSteps_6 : decode cX11_startSteps 6 = .ok (.aload_n 0, 1) := by decide +kernel
theorem dX11_startSteps_7 : decode cX11_startSteps 7 = .ok (.getfield 12, 3) := by decide +kernel
theorem dX11_startSteps_10 : decode cX11_startSteps 10 = .ok (.getfield 130, 3) := by decide +kernel
theorem dX11_startSteps_13 : decode cX11_startSteps 13 = .ok (.invokevirtual 217, 3) := by decide +kernel
theorem dX11_startSteps_16 : decode cX11_startSteps 16 = .ok (.aload_n 0, 1) := by decide +kernel
theorem dX11_startSteps_17 : decode cX11_startSteps 17 = .ok (.iconst 0, 1) := by decide +kernel
theorem dX11_startSteps_18 : decode cX11_startSteps 18 = .ok (.putfield 207, 3) := by decide +kernel
theorem dX11_startSteps_21 : decode cX11_startSteps 21 = .ok (.aload_n 0, 1) := by decide +kernel
theorem dX11_startSteps_22 : decode cX11_startSteps 22 = .ok (.iconst 0, 1) := by decide +kernel
theorem dX11_startSteps_23 : decode cX11_startSteps 23 = .ok (.putfield 211, 3) := by decide +kernel
theorem dX11_startSteps_26 : decode cX11_startSteps 26 = .ok (.aload_n 0, 1) := by decide +kernel
theorem dX11_startSteps_27 : decode cX11_startSteps 27 = .ok (.bipush (-5), 2) := by decide +kernel
theorem dX11_startSteps_29 : decode cX11_startSteps 29 = .ok (.putfield 230, 3) := by decide +kernel
theorem dX11_startSteps_32 : decode cX11_startSteps 32 = .ok (.return_, 1) := by decide +kernel
theorem hd_X11_startSteps : yX11_startSteps.cls = RX11 ∧ yX11_startSteps.cls ≠ "java/lang/invoke/MethodHandle" ∧ yX11_startSteps.cls ≠ "java/lang/invoke/VarHandle" ∧ (parseMethodDescriptor yX11_startSteps.desc).map (fun d => d.parameters.length) = some 0 := by decide +kernel
abbrev rm_X11_startSteps : Room := { frames := 1, cells := 0, slots := 0, locals := 21 }
def F_X11_startSteps  (σ : SG) (ρ : RG) : Option (SG) :=
  bn (F_X3_takes 40 3 σ ρ) fun σ1 =>
  nm (s2 σ1 0 8 (0 : Int32)) fun σ3 =>
  nm (s2 σ3 0 9 (0 : Int32)) fun σ5 =>
  nm (s2 σ5 0 10 (-5 : Int32)) fun σ7 =>
  some σ7
set_option maxHeartbeats 4000000 in
set_option maxRecDepth 100000 in
theorem w_X11_startSteps_0  {p : Program} {e : Env} {s : State} {m : MethodId} {args : Array Value} {below : List Frame} {meth : Method} {c : Code} {ρ0 : RG} {σ1 : SG} (C : Cx Y D N ad p s m args meth c cX11_startSteps 1 none RX11 wsL_law) {σ : SG} {ρ : RG} {H : Heap} {locs : List Loc} {ls : Array Slot} (hρ0 : ρ = ρ0) (hL : Lay N K len ρ) (hF : F_X11_startSteps σ ρ = some σ1) (hP : WP Y D N ad K len σ ρ H) (hS : va_S (AA N ad s.heap.size) s.heap H locs) (hl : lv_has ls 1 [(0, .ref (ad 0))]) : W p l e rm_X11_startSteps s m args below meth c H locs 0 0 (MQ below (QW Y D N ad K len σ1 ρ0 (AA N ad s.heap.size) none) args s 0 0 (AA N ad s.heap.size)) (F0 m 0 ls []) := by
  have hx := C.1.1
  have hb := C.1.2.1
  unfold F_X11_startSteps at hF
  refine lv_aload_n hx hb dX11_startSteps_0 rfl (lv_at hl 0 rfl) ?_
  refine get_11_5 C hP (lr_0 hL) (lk_0 hL) inlX11 mw_26 (lf_0_5 hL) dX11_startSteps_1 ?_
  refine lv_iconst (v := 0) hx hb dX11_startSteps_4 (by decide) ?_
  refine x_aald (v := .ref (ad 40)) C hP (lr_34 hL) (lk_34 hL) (Or.inr ⟨rfl, rfl, rfl⟩) (ln_34 hL) (by decide +kernel) (by rw [cl_0, (lf_34_0 hL)]; rfl) dX11_startSteps_5 ?_
  refine lv_aload_n hx hb dX11_startSteps_6 rfl (lv_at hl 0 rfl) ?_
  refine get_11_0 C hP (lr_0 hL) (lk_0 hL) inlX11 mw_15 (lf_0_0 hL) dX11_startSteps_7 ?_
  refine get_8_2 C hP (lr_1 hL) (lk_1 hL) inlX8 mw_488 (lf_1_2 hL) dX11_startSteps_10 ?_
  obtain ⟨σ1, hq1, hF⟩ := bn_1 hF
  refine x_callV (ci := 3) rfl rfl C hP hS (c_X3_takes hL (il_40 hL) (il_3 hL) hq1) (lr_40 hL) (lk_40 hL) (cwV 1 C.1.2.2.2.2 (gdV mw_720 mw_721 mw_722 mw_31 mw_723) rfl rfl rfl hd_X3_takes ⟨Nat.le_of_ble_eq_true rfl, Nat.le_of_ble_eq_true rfl⟩) rfl rfl hl.1 (Nat.le_of_ble_eq_true rfl) ⟨Nat.zero_le _, Nat.zero_le _⟩ dX11_startSteps_13 (fun H locs hP hS => ?_)
  refine lv_aload_n hx hb dX11_startSteps_16 rfl (lv_at hl 0 rfl) ?_
  refine lv_iconst (v := 0) hx hb dX11_startSteps_17 (by decide) ?_
  obtain ⟨σ3, eσ3, hF⟩ := nm_1 hF
  refine put_11_8 rfl C hP hS (lr_0 hL) (lk_0 hL) inlX11 mw_717 eσ3 dX11_startSteps_18 (fun H locs hP hS => ?_)
  refine lv_aload_n hx hb dX11_startSteps_21 rfl (lv_at hl 0 rfl) ?_
  refine lv_iconst (v := 0) hx hb dX11_startSteps_22 (by decide) ?_
  obtain ⟨σ5, eσ5, hF⟩ := nm_1 hF
  refine put_11_9 C hP hS (lr_0 hL) (lk_0 hL) inlX11 mw_718 eσ5 dX11_startSteps_23 (fun H locs hP hS => ?_)
  refine lv_aload_n hx hb dX11_startSteps_26 rfl (lv_at hl 0 rfl) ?_
  refine lv_bipush (v := -5) hx hb dX11_startSteps_27 (by decide +kernel) ?_
  obtain ⟨σ7, eσ7, hF⟩ := nm_1 hF
  refine put_11_10 C hP hS (lr_0 hL) (lk_0 hL) inlX11 mw_719 eσ7 dX11_startSteps_29 (fun H locs hP hS => ?_)
  obtain rfl := ret_1 hF
  subst hρ0
  exact x_vret rfl C hP hS dX11_startSteps_32
set_option maxHeartbeats 4000000 in
set_option maxRecDepth 100000 in
theorem c_X11_startSteps  {σ1 : SG} {σ : SG} {ρ : RG} (hL : Lay N K len ρ) (hF : F_X11_startSteps σ ρ = some σ1) : MT l Y D N ad K len yX11_startSteps (Cond.code yX11_startSteps cX11_startSteps 1 none :: wsL_law) rm_X11_startSteps [.ref (ad 0)] σ ρ none σ1 ρ := by
  refine mt_of (cc := cX11_startSteps) (nL := 1) (ret := none) (by decide) (Nat.le_of_ble_eq_true rfl) ?_
  intro p e s m args below meth c ls C hnm hP hS hl
  exact w_X11_startSteps_0 C rfl hL hF hP hS hl

/-! CutCrooked.private void keepPath(int);  -/
theorem dX11_keepPath_0 : decode cX11_keepPath 0 = .ok (.aload_n 0, 1) := by decide +kernel
theorem dX11_keepPath_1 : decode cX11_keepPath 1 = .ok (.iconst 1, 1) := by decide +kernel
theorem dX11_keepPath_2 : decode cX11_keepPath 2 = .ok (.putfield 207, 3) := by decide +kernel
theorem dX11_keepPath_5 : decode cX11_keepPath 5 = .ok (.iconst 0, 1) := by decide +kernel
theorem dX11_keepPath_6 : decode cX11_keepPath 6 = .ok (.istore_n 2, 1) := by decide +kernel
theorem dX11_keepPath_7 : decode cX11_keepPath 7 = .ok (.iload_n 2, 1) := by decide +kernel
theorem dX11_keepPath_8 : decode cX11_keepPath 8 = .ok (.iload_n 1, 1) := by decide +kernel
theorem dX11_keepPath_9 : decode cX11_keepPath 9 = .ok (.if_icmp .ge 39, 3) := by decide +kernel
theorem dX11_keepPath_12 : decode cX11_keepPath 12 = .ok (.iload_n 2, 1) := by decide +kernel
theorem dX11_keepPath_13 : decode cX11_keepPath 13 = .ok (.aload_n 0, 1) := by decide +kernel
theorem dX11_keepPath_14 : decode cX11_keepPath 14 = .ok (.getfield 41, 3) := by decide +kernel
theorem dX11_keepPath_17 : decode cX11_keepPath 17 = .ok (.arraylength, 1) := by decide +kernel
theorem dX11_keepPath_18 : decode cX11_keepPath 18 = .ok (.if_icmp .ge 30, 3) := by decide +kernel
theorem dX11_keepPath_21 : decode cX11_keepPath 21 = .ok (.iload_n 2, 1) := by decide +kernel
theorem dX11_keepPath_22 : decode cX11_keepPath 22 = .ok (.aload_n 0, 1) := by decide +kernel
theorem dX11_keepPath_23 : decode cX11_keepPath 23 = .ok (.getfield 45, 3) := by decide +kernel
theorem dX11_keepPath_26 : decode cX11_keepPath 26 = .ok (.arraylength, 1) := by decide +kernel
theorem dX11_keepPath_27 : decode cX11_keepPath 27 = .ok (.if_icmp .ge 21, 3) := by decide +kernel
theorem dX11_keepPath_30 : decode cX11_keepPath 30 = .ok (.aload_n 0, 1) := by decide +kernel
theorem dX11_keepPath_31 : decode cX11_keepPath 31 = .ok (.getfield 45, 3) := by decide +kernel
theorem dX11_keepPath_34 : decode cX11_keepPath 34 = .ok (.iload_n 2, 1) := by decide +kernel
theorem dX11_keepPath_35 : decode cX11_keepPath 35 = .ok (.aload_n 0, 1) := by decide +kernel
theorem dX11_keepPath_36 : decode cX11_keepPath 36 = .ok (.getfield 41, 3) := by decide +kernel
theorem dX11_keepPath_39 : decode cX11_keepPath 39 = .ok (.iload_n 2, 1) := by decide +kernel
theorem dX11_keepPath_40 : decode cX11_keepPath 40 = .ok (.iaload, 1) := by decide +kernel
theorem dX11_keepPath_41 : decode cX11_keepPath 41 = .ok (.iastore, 1) := by decide +kernel
theorem dX11_keepPath_42 : decode cX11_keepPath 42 = .ok (.iinc 2 1, 3) := by decide +kernel
theorem dX11_keepPath_45 : decode cX11_keepPath 45 = .ok (.goto (-38), 3) := by decide +kernel
theorem dX11_keepPath_48 : decode cX11_keepPath 48 = .ok (.return_, 1) := by decide +kernel
theorem hd_X11_keepPath : yX11_keepPath.cls = RX11 ∧ yX11_keepPath.cls ≠ "java/lang/invoke/MethodHandle" ∧ yX11_keepPath.cls ≠ "java/lang/invoke/VarHandle" ∧ (parseMethodDescriptor yX11_keepPath.desc).map (fun d => d.parameters.length) = some 1 := by decide +kernel
abbrev rm_X11_keepPath : Room := { frames := 0, cells := 0, slots := 0, locals := 0 }
def F_X11_keepPath_7 (a1 : Int32) : Nat → SG → RG → Int32 → Int32 → Option (SG)
  | 0 => fun _ _ _ _ => none
  | n + 1 => fun σ ρ v1 v2 =>
  if v1 ≤ v2 then
    some σ
  else
    if (6 : Int32) ≤ v2 then
      some σ
    else
      if (6 : Int32) ≤ v2 then
        some σ
      else
        gd (inb v2 6) <|
        gd (inb v2 6) <|
        nm (s2 σ 36 (v2).toNatClampNeg (σ 35 (v2).toNatClampNeg)) fun σ9 =>
        nm (v2 + (1 : Int32)) fun x10 =>
        F_X11_keepPath_7 a1 n σ9 ρ v1 x10
def F_X11_keepPath (a1 : Int32) (σ : SG) (ρ : RG) : Option (SG) :=
  nm (s2 σ 0 8 (1 : Int32)) fun σ2 =>
  F_X11_keepPath_7 a1 1024 σ2 ρ a1 (0 : Int32)
set_option maxHeartbeats 4000000 in
set_option maxRecDepth 100000 in
theorem w_X11_keepPath_7 {a1 : Int32} {p : Program} {e : Env} {s : State} {m : MethodId} {args : Array Value} {below : List Frame} {meth : Method} {c : Code} {ρ0 : RG} {σ1 : SG} (C : Cx Y D N ad p s m args meth c cX11_keepPath 3 none RX11 wsL_law) : ∀ (n : Nat) (σ : SG) (ρ : RG) (v1 : Int32) (v2 : Int32) (H : Heap) (locs : List Loc) (ls : Array Slot), ρ = ρ0 → Lay N K len ρ → F_X11_keepPath_7 a1 n σ ρ v1 v2 = some σ1 → WP Y D N ad K len σ ρ H → va_S (AA N ad s.heap.size) s.heap H locs → lv_has ls 3 [(0, .ref (ad 0)), (1, .int v1), (2, .int v2)] → W p l e rm_X11_keepPath s m args below meth c H locs 0 0 (MQ below (QW Y D N ad K len σ1 ρ0 (AA N ad s.heap.size) none) args s 0 0 (AA N ad s.heap.size)) (F0 m 7 ls []) := by
  have hx := C.1.1
  have hb := C.1.2.1
  intro n
  induction n with
  | zero => intro σ ρ v1 v2 H locs ls hρ0 hL hF; cases hF
  | succ n ih =>
    intro σ ρ v1 v2 H locs ls hρ0 hL hF hP hS hl
    unfold F_X11_keepPath_7 at hF
    refine lv_iload_n hx hb dX11_keepPath_7 rfl (lv_at hl 2 rfl) ?_
    refine lv_iload_n hx hb dX11_keepPath_8 rfl (lv_at hl 1 rfl) ?_
    refine lv_icmp_ge (tgt := 48) hx hb dX11_keepPath_9 (by decide) (fun c_3 => ?_) (fun c_3 => ?_) -- COND 3 by_cases c_3 : v1 ≤ v2
    · have hF := ite_t hF c_3
      obtain rfl := ret_1 hF
      subst hρ0
      exact x_vret rfl C hP hS dX11_keepPath_48
    · have hF := ite_f hF c_3
      refine lv_iload_n hx hb dX11_keepPath_12 rfl (lv_at hl 2 rfl) ?_
      refine lv_aload_n hx hb dX11_keepPath_13 rfl (lv_at hl 0 rfl) ?_
      refine get_11_6 C hP (lr_0 hL) (lk_0 hL) inlX11 mw_28 (lf_0_6 hL) dX11_keepPath_14 ?_
      refine x_alen (v := (6 : Int32)) C hP (lr_35 hL) (lk_35 hL) (by decide) (ln_35 hL) (by decide +kernel) dX11_keepPath_17 ?_
      refine lv_icmp_ge (tgt := 48) hx hb dX11_keepPath_18 (by decide) (fun c_4 => ?_) (fun c_4 => ?_) -- COND 4 by_cases c_4 : (6 : Int32) ≤ v2
      · have hF := ite_t hF c_4
        obtain rfl := ret_1 hF
        subst hρ0
        exact x_vret rfl C hP hS dX11_keepPath_48
      · have hF := ite_f hF c_4
        refine lv_iload_n hx hb dX11_keepPath_21 rfl (lv_at hl 2 rfl) ?_
        refine lv_aload_n hx hb dX11_keepPath_22 rfl (lv_at hl 0 rfl) ?_
        refine get_11_7 C hP (lr_0 hL) (lk_0 hL) inlX11 mw_29 (lf_0_7 hL) dX11_keepPath_23 ?_
        refine x_alen (v := (6 : Int32)) C hP (lr_36 hL) (lk_36 hL) (by decide) (ln_36 hL) (by decide +kernel) dX11_keepPath_26 ?_
        refine lv_icmp_ge (tgt := 48) hx hb dX11_keepPath_27 (by decide) (fun c_5 => ?_) (fun c_5 => ?_) -- COND 5 by_cases c_5 : (6 : Int32) ≤ v2
        · have hF := ite_t hF c_5
          obtain rfl := ret_1 hF
          subst hρ0
          exact x_vret rfl C hP hS dX11_keepPath_48
        · have hF := ite_f hF c_5
          refine lv_aload_n hx hb dX11_keepPath_30 rfl (lv_at hl 0 rfl) ?_
          refine get_11_7 C hP (lr_0 hL) (lk_0 hL) inlX11 mw_29 (lf_0_7 hL) dX11_keepPath_31 ?_
          refine lv_iload_n hx hb dX11_keepPath_34 rfl (lv_at hl 2 rfl) ?_
          refine lv_aload_n hx hb dX11_keepPath_35 rfl (lv_at hl 0 rfl) ?_
          refine get_11_6 C hP (lr_0 hL) (lk_0 hL) inlX11 mw_28 (lf_0_6 hL) dX11_keepPath_36 ?_
          refine lv_iload_n hx hb dX11_keepPath_39 rfl (lv_at hl 2 rfl) ?_
          obtain ⟨g6, hF⟩ := gd_1 hF
          refine x_iald C hP (lr_35 hL) (lk_35 hL) (ln_35 hL) g6 dX11_keepPath_40 ?_
          obtain ⟨g7, hF⟩ := gd_1 hF
          obtain ⟨σ9, eσ9, hF⟩ := nm_1 hF
          refine x_iast (σ1 := σ9) C hP hS (lr_36 hL) (lk_36 hL) (ln_36 hL) g7 eσ9 dX11_keepPath_41 (fun H locs hP hS => ?_)
          obtain ⟨x10, ex10, hF⟩ := nm_1 hF
          refine lv_iinc (v := x10) (lv' := [(2, .int x10), (0, .ref (ad 0)), (1, .int v1)]) hx hb dX11_keepPath_42 hl (k := 2) rfl (by rw [ex10]; first | rfl | decide) (by decide) rfl (fun ls hl => ?_)
          refine lv_goto (tgt := 7) hx hb dX11_keepPath_45 (by decide) ?_
          exact ih _ _ _ _ _ _ _ hρ0 hL hF hP hS (lv_sub hl [1, 2, 0] rfl)
set_option maxHeartbeats 4000000 in
set_option maxRecDepth 100000 in
theorem w_X11_keepPath_0 {a1 : Int32} {p : Program} {e : Env} {s : State} {m : MethodId} {args : Array Value} {below : List Frame} {meth : Method} {c : Code} {ρ0 : RG} {σ1 : SG} (C : Cx Y D N ad p s m args meth c cX11_keepPath 3 none RX11 wsL_law) {σ : SG} {ρ : RG} {H : Heap} {locs : List Loc} {ls : Array Slot} (hρ0 : ρ = ρ0) (hL : Lay N K len ρ) (hF : F_X11_keepPath a1 σ ρ = some σ1) (hP : WP Y D N ad K len σ ρ H) (hS : va_S (AA N ad s.heap.size) s.heap H locs) (hl : lv_has ls 3 [(0, .ref (ad 0)), (1, .int a1)]) : W p l e rm_X11_keepPath s m args below meth c H locs 0 0 (MQ below (QW Y D N ad K len σ1 ρ0 (AA N ad s.heap.size) none) args s 0 0 (AA N ad s.heap.size)) (F0 m 0 ls []) := by
  have hx := C.1.1
  have hb := C.1.2.1
  unfold F_X11_keepPath at hF
  refine lv_aload_n hx hb dX11_keepPath_0 rfl (lv_at hl 0 rfl) ?_
  refine lv_iconst (v := 1) hx hb dX11_keepPath_1 (by decide) ?_
  obtain ⟨σ2, eσ2, hF⟩ := nm_1 hF
  refine put_11_8 rfl C hP hS (lr_0 hL) (lk_0 hL) inlX11 mw_717 eσ2 dX11_keepPath_2 (fun H locs hP hS => ?_)
  refine lv_iconst (v := 0) hx hb dX11_keepPath_5 (by decide) ?_
  refine lv_istore_n (lv' := [(2, .int (0 : Int32)), (0, .ref (ad 0)), (1, .int a1)]) hx hb dX11_keepPath_6 rfl hl (by decide) rfl (fun ls hl => ?_)
  exact w_X11_keepPath_7 C 1024 _ _ _ _ _ _ _ hρ0 hL hF hP hS (lv_sub hl [1, 2, 0] rfl)
set_option maxHeartbeats 4000000 in
set_option maxRecDepth 100000 in
theorem c_X11_keepPath {a1 : Int32} {σ1 : SG} {σ : SG} {ρ : RG} (hL : Lay N K len ρ) (hF : F_X11_keepPath a1 σ ρ = some σ1) : MT l Y D N ad K len yX11_keepPath (Cond.code yX11_keepPath cX11_keepPath 3 none :: wsL_law) rm_X11_keepPath [.ref (ad 0), .int a1] σ ρ none σ1 ρ := by
  refine mt_of (cc := cX11_keepPath) (nL := 3) (ret := none) (by decide) (Nat.le_of_ble_eq_true rfl) ?_
  intro p e s m args below meth c ls C hnm hP hS hl
  exact w_X11_keepPath_0 C rfl hL hF hP hS hl

/-! CutCrooked.private void goOn(int, int, boolean, int);  -/
theorem dX11_goOn_0 : decode cX11_goOn 0 = .ok (.aload_n 0, 1) := by decide +kernel
theorem dX11_goOn_1 : decode cX11_goOn 1 = .ok (.getfield 49, 3) := by decide +kernel
theorem dX11_goOn_4 : decode cX11_goOn 4 = .ok (.aload_n 0, 1) := by decide +kernel
theorem dX11_goOn_5 : decode cX11_goOn 5 = .ok (.getfield 12, 3) := by decide +kernel
theorem dX11_goOn_8 : decode cX11_goOn 8 = .ok (.getfield 130, 3) := by decide +kernel
theorem dX11_goOn_11 : decode cX11_goOn 11 = .ok (.invokevirtual 217, 3) := by decide +kernel
theorem dX11_goOn_14 : decode cX11_goOn 14 = .ok (.aload_n 0, 1) := by decide +kernel
theorem dX11_goOn_15 : decode cX11_goOn 15 = .ok (.iconst 0, 1) := by decide +kernel
theorem dX11_goOn_16 : decode cX11_goOn 16 = .ok (.putfield 193, 3) := by decide +kernel
theorem dX11_goOn_19 : decode cX11_goOn 19 = .ok (.aload_n 0, 1) := by decide +kernel
theorem dX11_goOn_20 : decode cX11_goOn 20 = .ok (.iconst 0, 1) := by decide +kernel
theorem dX11_goOn_21 : decode cX11_goOn 21 = .ok (.putfield 200, 3) := by decide +kernel
theorem dX11_goOn_24 : decode cX11_goOn 24 = .ok (.iconst 0, 1) := by decide +kernel
theorem dX11_goOn_25 : decode cX11_goOn 25 = .ok (.istore 5, 2) := by decide +kernel
theorem dX11_goOn_27 : decode cX11_goOn 27 = .ok (.iload 5, 2) := by decide +kernel
theorem dX11_goOn_29 : decode cX11_goOn 29 = .ok (.aload_n 0, 1) := by decide +kernel
theorem dX11_goOn_30 : decode cX11_goOn 30 = .ok (.getfield 53, 3) := by decide +kernel
theorem dX11_goOn_33 : decode cX11_goOn 33 = .ok (.arraylength, 1) := by decide +kernel
theorem dX11_goOn_34 : decode cX11_goOn 34 = .ok (.if_icmp .ge 17, 3) := by decide +kernel
theorem dX11_goOn_37 : decode cX11_goOn 37 = .ok (.aload_n 0, 1) := by decide +kernel
theorem dX11_goOn_38 : decode cX11_goOn 38 = .ok (.getfield 53, 3) := by decide +kernel
theorem dX11_goOn_41 : decode cX11_goOn 41 = .ok (.iload 5, 2) := by decide +kernel
theorem dX11_goOn_43 : decode cX11_goOn 43 = .ok (.iconst 0, 1) := by decide +kernel
theorem dX11_goOn_44 : decode cX11_goOn 44 = .ok (.iastore, 1) := by decide +kernel
theorem dX11_goOn_45 : decode cX11_goOn 45 = .ok (.iinc 5 1, 3) := by decide +kernel
theorem dX11_goOn_48 : decode cX11_goOn 48 = .ok (.goto (-21), 3) := by decide +kernel
theorem dX11_goOn_51 : decode cX11_goOn 51 = .ok (.iconst 0, 1) := by decide +kernel
theorem dX11_goOn_52 : decode cX11_goOn 52 = .ok (.istore 5, 2) := by decide +kernel
theorem dX11_goOn_54 : decode cX11_goOn 54 = .ok (.iload 5, 2) := by decide +kernel
theorem dX11_goOn_56 : decode cX11_goOn 56 = .ok (.iload_n 1, 1) := by decide +kernel
theorem dX11_goOn_57 : decode cX11_goOn 57 = .ok (.if_icmp .ge 195, 3) := by decide +kernel
theorem dX11_goOn_60 : decode cX11_goOn 60 = .ok (.aload_n 0, 1) := by decide +kernel
theorem dX11_goOn_61 : decode cX11_goOn 61 = .ok (.getfield 12, 3) := by decide +kernel
theorem dX11_goOn_64 : decode cX11_goOn 64 = .ok (.getfield 89, 3) := by decide +kernel
theorem dX11_goOn_67 : decode cX11_goOn 67 = .ok (.ifCond .le 185, 3) := by decide +kernel
theorem dX11_goOn_70 : decode cX11_goOn 70 = .ok (.iload 5, 2) := by decide +kernel
theorem dX11_goOn_72 : decode cX11_goOn 72 = .ok (.iload_n 2, 1) := by decide +kernel
theorem dX11_goOn_73 : decode cX11_goOn 73 = .ok (.if_icmp .ne 31, 3) := by decide +kernel
theorem dX11_goOn_76 : decode cX11_goOn 76 = .ok (.aload_n 0, 1) := by decide +kernel
theorem dX11_goOn_77 : decode cX11_goOn 77 = .ok (.getfield 49, 3) := by decide +kernel
theorem dX11_goOn_80 : decode cX11_goOn 80 = .ok (.invokevirtual 170, 3) := by decide +kernel
theorem dX11_goOn_83 : decode cX11_goOn 83 = .ok (.aload_n 0, 1) := by decide +kernel
theorem dX11_goOn_84 : decode cX11_goOn 84 = .ok (.getfield 12, 3) := by decide +kernel
theorem dX11_goOn_87 : decode cX11_goOn 87 = .ok (.getfield 78, 3) := by decide +kernel
theorem dX11_goOn_90 : decode cX11_goOn 90 = .ok (.getfield 156, 3) := by decide +kernel
theorem dX11_goOn_93 : decode cX11_goOn 93 = .ok (.if_icmp .lt 11, 3) := by decide +kernel
theorem dX11_goOn_96 : decode cX11_goOn 96 = .ok (.aload_n 0, 1) := by decide +kernel
theorem dX11_goOn_97 : decode cX11_goOn 97 = .ok (.getfield 49, 3) := by decide +kernel
theorem dX11_goOn_100 : decode cX11_goOn 100 = .ok (.invokevirtual 173, 3) := by decide +kernel
theorem dX11_goOn_103 : decode cX11_goOn 103 = .ok (.pop, 1) := by decide +kernel
theorem dX11_goOn_104 : decode cX11_goOn 104 = .ok (.iload 5, 2) := by decide +kernel
theorem dX11_goOn_106 : decode cX11_goOn 106 = .ok (.aload_n 0, 1) := by decide +kernel
theorem dX11_goOn_107 : decode cX11_goOn 107 = .ok (.getfield 12, 3) := by decide +kernel
theorem dX11_goOn_110 : decode cX11_goOn 110 = .ok (.getfield 89, 3) := by decide +kernel
theorem dX11_goOn_113 : decode cX11_goOn 113 = .ok (.irem, 1) := by decide +kernel
theorem dX11_goOn_114 : decode cX11_goOn 114 = .ok (.istore 6, 2) := by decide +kernel
theorem dX11_goOn_116 : decode cX11_goOn 116 = .ok (.aload_n 0, 1) := by decide +kernel
theorem dX11_goOn_117 : decode cX11_goOn 117 = .ok (.getfield 12, 3) := by decide +kernel
theorem dX11_goOn_120 : decode cX11_goOn 120 = .ok (.iload 6, 2) := by decide +kernel
theorem dX11_goOn_122 : decode cX11_goOn 122 = .ok (.invokevirtual 100, 3) := by decide +kernel
theorem dX11_goOn_125 : decode cX11_goOn 125 = .ok (.astore 7, 2) := by decide +kernel
theorem dX11_goOn_127 : decode cX11_goOn 127 = .ok (.aload 7, 2) := by decide +kernel
theorem dX11_goOn_129 : decode cX11_goOn 129 = .ok (.ifnull 29, 3) := by decide +kernel
theorem dX11_goOn_158 : decode cX11_goOn 158 = .ok (.return_, 1) := by decide +kernel
theorem dX11_goOn_252 : decode cX11_goOn 252 = .ok (.return_, 1) := by decide +kernel
theorem hd_X11_goOn : yX11_goOn.cls = RX11 ∧ yX11_goOn.cls ≠ "java/lang/invoke/MethodHandle" ∧ yX11_goOn.cls ≠ "java/lang/invoke/VarHandle" ∧ (parseMethodDescriptor yX11_goOn.desc).map (fun d => d.parameters.length) = some 4 := by decide +kernel
abbrev rm_X11_goOn : Room := { frames := 3, cells := 0, slots := 0, locals := 62 }
def F_X11_goOn_104 (a1 : Int32) (a2 : Int32) (a3 : Int32) (a4 : Int32) (σ : SG) (ρ : RG) (v1 : Int32) (v2 : Int32) (v3 : Int32) (v4 : Int32) (v5 : Int32) : Option (SG) :=
  gd (decide (¬ (σ 1 1) = 0)) <|
  nm (v5 - v5 / (σ 1 1) * (σ 1 1)) fun x11 =>
  bn (F_X8_cutterAt_1 x11 σ ρ) fun o12 =>
  oc o12
   (
    some σ)
   (fun c13 =>
    none /- none: some -/)
def F_X11_goOn_54 (a1 : Int32) (a2 : Int32) (a3 : Int32) (a4 : Int32) : Nat → SG → RG → Int32 → Int32 → Int32 → Int32 → Int32 → Option (SG)
  | 0 => fun _ _ _ _ _ _ _ => none
  | n + 1 => fun σ ρ v1 v2 v3 v4 v5 =>
  if v1 ≤ v5 then
    some σ
  else
    if (σ 1 1) ≤ 0 then
      some σ
    else
      if v5 = v2 then
        bn (F_X3_leastCorner 37 σ ρ) fun r14 =>
        if r14 < (σ 5 1) then
          F_X11_goOn_104 a1 a2 a3 a4 σ ρ v1 v2 v3 v4 v5
        else
          bn2 (F_X3_straighten 37 σ ρ) fun r16 σ16 =>
          F_X11_goOn_104 a1 a2 a3 a4 σ16 ρ v1 v2 v3 v4 v5
      else
        F_X11_goOn_104 a1 a2 a3 a4 σ ρ v1 v2 v3 v4 v5
def F_X11_goOn_27 (a1 : Int32) (a2 : Int32) (a3 : Int32) (a4 : Int32) : Nat → SG → RG → Int32 → Int32 → Int32 → Int32 → Int32 → Option (SG)
  | 0 => fun _ _ _ _ _ _ _ => none
  | n + 1 => fun σ ρ v1 v2 v3 v4 v5 =>
  if (6 : Int32) ≤ v5 then
    F_X11_goOn_54 a1 a2 a3 a4 1024 σ ρ v1 v2 v3 v4 (0 : Int32)
  else
    gd (inb v5 6) <|
    nm (s2 σ 39 (v5).toNatClampNeg (0 : Int32)) fun σ19 =>
    nm (v5 + (1 : Int32)) fun x20 =>
    F_X11_goOn_27 a1 a2 a3 a4 n σ19 ρ v1 v2 v3 v4 x20
def F_X11_goOn (a1 : Int32) (a2 : Int32) (a3 : Int32) (a4 : Int32) (σ : SG) (ρ : RG) : Option (SG) :=
  bn (F_X3_takes 37 3 σ ρ) fun σ1 =>
  nm (s2 σ1 0 13 (0 : Int32)) fun σ3 =>
  nm (s2 σ3 0 14 (0 : Int32)) fun σ5 =>
  F_X11_goOn_27 a1 a2 a3 a4 1024 σ5 ρ a1 a2 a3 a4 (0 : Int32)
set_option maxHeartbeats 4000000 in
set_option maxRecDepth 100000 in
theorem w_X11_goOn_104 {a1 : Int32} {a2 : Int32} {a3 : Int32} {a4 : Int32} {p : Program} {e : Env} {s : State} {m : MethodId} {args : Array Value} {below : List Frame} {meth : Method} {c : Code} {ρ0 : RG} {σ1 : SG} (C : Cx Y D N ad p s m args meth c cX11_goOn 8 none RX11 wsL_law) {σ : SG} {ρ : RG} {v1 : Int32} {v2 : Int32} {v3 : Int32} {v4 : Int32} {v5 : Int32} {H : Heap} {locs : List Loc} {ls : Array Slot} (hρ0 : ρ = ρ0) (hL : Lay N K len ρ) (hF : F_X11_goOn_104 a1 a2 a3 a4 σ ρ v1 v2 v3 v4 v5 = some σ1) (hP : WP Y D N ad K len σ ρ H) (hS : va_S (AA N ad s.heap.size) s.heap H locs) (hl : lv_has ls 8 [(0, .ref (ad 0)), (1, .int v1), (2, .int v2), (3, .int v3), (4, .int v4), (5, .int v5)]) : W p l e rm_X11_goOn s m args below meth c H locs 0 0 (MQ below (QW Y D N ad K len σ1 ρ0 (AA N ad s.heap.size) none) args s 0 0 (AA N ad s.heap.size)) (F0 m 104 ls []) := by
  have hx := C.1.1
  have hb := C.1.2.1
  unfold F_X11_goOn_104 at hF
  refine lv_iload hx hb dX11_goOn_104 (lv_at hl 5 rfl) ?_
  refine lv_aload_n hx hb dX11_goOn_106 rfl (lv_at hl 0 rfl) ?_
  refine get_11_0 C hP (lr_0 hL) (lk_0 hL) inlX11 mw_15 (lf_0_0 hL) dX11_goOn_107 ?_
  refine get_8_1 C hP (lr_1 hL) (lk_1 hL) inlX8 mw_352 dX11_goOn_110 ?_
  obtain ⟨g10, hF⟩ := gd_1 hF
  refine lv_irem hx hb dX11_goOn_113 (of_decide_eq_true g10) ?_
  obtain ⟨x11, ex11, hF⟩ := nm_1 hF
  refine x_top ex11 ?_
  refine lv_istore (lv' := [(6, .int x11), (0, .ref (ad 0)), (1, .int v1), (2, .int v2), (3, .int v3), (4, .int v4), (5, .int v5)]) hx hb dX11_goOn_114 hl (by decide) rfl (fun ls hl => ?_)
  refine lv_aload_n hx hb dX11_goOn_116 rfl (lv_at hl 1 rfl) ?_
  refine get_11_0 C hP (lr_0 hL) (lk_0 hL) inlX11 mw_15 (lf_0_0 hL) dX11_goOn_117 ?_
  refine lv_iload hx hb dX11_goOn_120 (lv_at hl 0 rfl) ?_
  obtain ⟨o12, hq12, hF⟩ := bn_1 hF
  refine x_callV (ci := 8) rfl rfl C hP hS (c_X8_cutterAt_1 hL hq12) (lr_1 hL) (lk_1 hL) (cwV 1 C.1.2.2.2.2 (gdV mw_428 mw_429 mw_430 mw_14 mw_431) rfl rfl rfl hd_X8_cutterAt ⟨Nat.le_of_ble_eq_true rfl, Nat.le_of_ble_eq_true rfl⟩) rfl rfl hl.1 (Nat.le_of_ble_eq_true rfl) ⟨Nat.zero_le _, Nat.zero_le _⟩ dX11_goOn_122 (fun H locs hP hS => ?_)
  rcases ho13 : o12 with _ | c13
  · have hF := oc_n hF ho13
    refine x_n ?_
    refine lv_astoreN (lv' := [(7, .null), (6, .int x11), (0, .ref (ad 0)), (1, .int v1), (2, .int v2), (3, .int v3), (4, .int v4), (5, .int v5)]) hx hb dX11_goOn_125 hl (by decide) rfl (fun ls hl => ?_)
    refine lv_aloadN hx hb dX11_goOn_127 (lv_at hl 0 rfl) ?_
    refine lv_ifnullN (tgt := 158) hx hb dX11_goOn_129 (by decide) ?_
    obtain rfl := ret_1 hF
    subst hρ0
    exact x_vret rfl C hP hS dX11_goOn_158
  · have hF := oc_s hF ho13
    refine x_s ?_
    cases hF
set_option maxHeartbeats 4000000 in
set_option maxRecDepth 100000 in
theorem w_X11_goOn_54 {a1 : Int32} {a2 : Int32} {a3 : Int32} {a4 : Int32} {p : Program} {e : Env} {s : State} {m : MethodId} {args : Array Value} {below : List Frame} {meth : Method} {c : Code} {ρ0 : RG} {σ1 : SG} (C : Cx Y D N ad p s m args meth c cX11_goOn 8 none RX11 wsL_law) : ∀ (n : Nat) (σ : SG) (ρ : RG) (v1 : Int32) (v2 : Int32) (v3 : Int32) (v4 : Int32) (v5 : Int32) (H : Heap) (locs : List Loc) (ls : Array Slot), ρ = ρ0 → Lay N K len ρ → F_X11_goOn_54 a1 a2 a3 a4 n σ ρ v1 v2 v3 v4 v5 = some σ1 → WP Y D N ad K len σ ρ H → va_S (AA N ad s.heap.size) s.heap H locs → lv_has ls 8 [(0, .ref (ad 0)), (1, .int v1), (2, .int v2), (3, .int v3), (4, .int v4), (5, .int v5)] → W p l e rm_X11_goOn s m args below meth c H locs 0 0 (MQ below (QW Y D N ad K len σ1 ρ0 (AA N ad s.heap.size) none) args s 0 0 (AA N ad s.heap.size)) (F0 m 54 ls []) := by
  have hx := C.1.1
  have hb := C.1.2.1
  intro n
  induction n with
  | zero => intro σ ρ v1 v2 v3 v4 v5 H locs ls hρ0 hL hF; cases hF
  | succ n ih =>
    intro σ ρ v1 v2 v3 v4 v5 H locs ls hρ0 hL hF hP hS hl
    unfold F_X11_goOn_54 at hF
    refine lv_iload hx hb dX11_goOn_54 (lv_at hl 5 rfl) ?_
    refine lv_iload_n hx hb dX11_goOn_56 rfl (lv_at hl 1 rfl) ?_
    refine lv_icmp_ge (tgt := 252) hx hb dX11_goOn_57 (by decide) (fun c_7 => ?_) (fun c_7 => ?_) -- COND 7 by_cases c_7 : v1 ≤ v5
    · have hF := ite_t hF c_7
      obtain rfl := ret_1 hF
      subst hρ0
      exact x_vret rfl C hP hS dX11_goOn_252
    · have hF := ite_f hF c_7
      refine lv_aload_n hx hb dX11_goOn_60 rfl (lv_at hl 0 rfl) ?_
      refine get_11_0 C hP (lr_0 hL) (lk_0 hL) inlX11 mw_15 (lf_0_0 hL) dX11_goOn_61 ?_
      refine get_8_1 C hP (lr_1 hL) (lk_1 hL) inlX8 mw_352 dX11_goOn_64 ?_
      refine lv_if_le (tgt := 252) hx hb dX11_goOn_67 (by decide) (fun c_8 => ?_) (fun c_8 => ?_) -- COND 8 by_cases c_8 : (σ 1 1) ≤ 0
      · have hF := ite_t hF c_8
        obtain rfl := ret_1 hF
        subst hρ0
        exact x_vret rfl C hP hS dX11_goOn_252
      · have hF := ite_f hF c_8
        refine lv_iload hx hb dX11_goOn_70 (lv_at hl 5 rfl) ?_
        refine lv_iload_n hx hb dX11_goOn_72 rfl (lv_at hl 2 rfl) ?_
        refine lv_icmp_ne (tgt := 104) hx hb dX11_goOn_73 (by decide) (fun c_9 => ?_) (fun c_9 => ?_) -- COND 9 rcases (Decidable.em (v5 = v2)).symm with c_9 | c_9
        · have hF := ite_f hF c_9
          exact w_X11_goOn_104 C hρ0 hL hF hP hS (lv_sub hl [0, 1, 2, 3, 4, 5] rfl)
        · have hF := ite_t hF c_9
          refine lv_aload_n hx hb dX11_goOn_76 rfl (lv_at hl 0 rfl) ?_
          refine get_11_11 C hP (lr_0 hL) (lk_0 hL) inlX11 mw_32 (lf_0_11 hL) dX11_goOn_77 ?_
          obtain ⟨r14, hq14, hF⟩ := bn_1 hF
          refine x_callV (ci := 3) rfl rfl C hP hS (c_X3_leastCorner hL (il_37 hL) hq14) (lr_37 hL) (lk_37 hL) (cwV 0 C.1.2.2.2.2 (gdV mw_693 mw_644 mw_645 mw_31 mw_646) rfl rfl rfl hd_X3_leastCorner ⟨Nat.le_of_ble_eq_true rfl, Nat.le_of_ble_eq_true rfl⟩) rfl rfl hl.1 (Nat.le_of_ble_eq_true rfl) ⟨Nat.zero_le _, Nat.zero_le _⟩ dX11_goOn_80 (fun H locs hP hS => ?_)
          refine lv_aload_n hx hb dX11_goOn_83 rfl (lv_at hl 0 rfl) ?_
          refine get_11_0 C hP (lr_0 hL) (lk_0 hL) inlX11 mw_15 (lf_0_0 hL) dX11_goOn_84 ?_
          refine get_8_3 C hP (lr_1 hL) (lk_1 hL) inlX8 mw_113 (lf_1_3 hL) dX11_goOn_87 ?_
          refine get_0_1 C hP (lr_5 hL) (lk_5 hL) inlX0 mw_505 dX11_goOn_90 ?_
          refine lv_icmp_lt (tgt := 104) hx hb dX11_goOn_93 (by decide) (fun c_15 => ?_) (fun c_15 => ?_) -- COND 15 by_cases c_15 : r14 < (σ 5 1)
          · have hF := ite_t hF c_15
            exact w_X11_goOn_104 C hρ0 hL hF hP hS (lv_sub hl [0, 1, 2, 3, 4, 5] rfl)
          · have hF := ite_f hF c_15
            refine lv_aload_n hx hb dX11_goOn_96 rfl (lv_at hl 0 rfl) ?_
            refine get_11_11 C hP (lr_0 hL) (lk_0 hL) inlX11 mw_32 (lf_0_11 hL) dX11_goOn_97 ?_
            obtain ⟨r16, σ16, hq16, hF⟩ := bn2_1 hF
            refine x_callV (ci := 3) rfl rfl C hP hS (c_X3_straighten hL (il_37 hL) hq16) (lr_37 hL) (lk_37 hL) (cwV 0 C.1.2.2.2.2 (gdV mw_694 mw_575 mw_576 mw_31 mw_577) rfl rfl rfl hd_X3_straighten ⟨Nat.le_of_ble_eq_true rfl, Nat.le_of_ble_eq_true rfl⟩) rfl rfl hl.1 (Nat.le_of_ble_eq_true rfl) ⟨Nat.zero_le _, Nat.zero_le _⟩ dX11_goOn_100 (fun H locs hP hS => ?_)
            refine lv_pop hx hb dX11_goOn_103 rfl ?_
            exact w_X11_goOn_104 C hρ0 hL hF hP hS (lv_sub hl [0, 1, 2, 3, 4, 5] rfl)
set_option maxHeartbeats 4000000 in
set_option maxRecDepth 100000 in
theorem w_X11_goOn_27 {a1 : Int32} {a2 : Int32} {a3 : Int32} {a4 : Int32} {p : Program} {e : Env} {s : State} {m : MethodId} {args : Array Value} {below : List Frame} {meth : Method} {c : Code} {ρ0 : RG} {σ1 : SG} (C : Cx Y D N ad p s m args meth c cX11_goOn 8 none RX11 wsL_law) : ∀ (n : Nat) (σ : SG) (ρ : RG) (v1 : Int32) (v2 : Int32) (v3 : Int32) (v4 : Int32) (v5 : Int32) (H : Heap) (locs : List Loc) (ls : Array Slot), ρ = ρ0 → Lay N K len ρ → F_X11_goOn_27 a1 a2 a3 a4 n σ ρ v1 v2 v3 v4 v5 = some σ1 → WP Y D N ad K len σ ρ H → va_S (AA N ad s.heap.size) s.heap H locs → lv_has ls 8 [(0, .ref (ad 0)), (1, .int v1), (2, .int v2), (3, .int v3), (4, .int v4), (5, .int v5)] → W p l e rm_X11_goOn s m args below meth c H locs 0 0 (MQ below (QW Y D N ad K len σ1 ρ0 (AA N ad s.heap.size) none) args s 0 0 (AA N ad s.heap.size)) (F0 m 27 ls []) := by
  have hx := C.1.1
  have hb := C.1.2.1
  intro n
  induction n with
  | zero => intro σ ρ v1 v2 v3 v4 v5 H locs ls hρ0 hL hF; cases hF
  | succ n ih =>
    intro σ ρ v1 v2 v3 v4 v5 H locs ls hρ0 hL hF hP hS hl
    unfold F_X11_goOn_27 at hF
    refine lv_iload hx hb dX11_goOn_27 (lv_at hl 5 rfl) ?_
    refine lv_aload_n hx hb dX11_goOn_29 rfl (lv_at hl 0 rfl) ?_
    refine get_11_12 C hP (lr_0 hL) (lk_0 hL) inlX11 mw_33 (lf_0_12 hL) dX11_goOn_30 ?_
    refine x_alen (v := (6 : Int32)) C hP (lr_39 hL) (lk_39 hL) (by decide) (ln_39 hL) (by decide +kernel) dX11_goOn_33 ?_
    refine lv_icmp_ge (tgt := 51) hx hb dX11_goOn_34 (by decide) (fun c_6 => ?_) (fun c_6 => ?_) -- COND 6 by_cases c_6 : (6 : Int32) ≤ v5
    · have hF := ite_t hF c_6
      refine lv_iconst (v := 0) hx hb dX11_goOn_51 (by decide) ?_
      refine lv_istore (lv' := [(5, .int (0 : Int32)), (0, .ref (ad 0)), (1, .int v1), (2, .int v2), (3, .int v3), (4, .int v4)]) hx hb dX11_goOn_52 hl (by decide) rfl (fun ls hl => ?_)
      exact w_X11_goOn_54 C 1024 _ _ _ _ _ _ _ _ _ _ hρ0 hL hF hP hS (lv_sub hl [1, 2, 3, 4, 5, 0] rfl)
    · have hF := ite_f hF c_6
      refine lv_aload_n hx hb dX11_goOn_37 rfl (lv_at hl 0 rfl) ?_
      refine get_11_12 C hP (lr_0 hL) (lk_0 hL) inlX11 mw_33 (lf_0_12 hL) dX11_goOn_38 ?_
      refine lv_iload hx hb dX11_goOn_41 (lv_at hl 5 rfl) ?_
      refine lv_iconst (v := 0) hx hb dX11_goOn_43 (by decide) ?_
      obtain ⟨g17, hF⟩ := gd_1 hF
      obtain ⟨σ19, eσ19, hF⟩ := nm_1 hF
      refine x_iast (σ1 := σ19) C hP hS (lr_39 hL) (lk_39 hL) (ln_39 hL) g17 eσ19 dX11_goOn_44 (fun H locs hP hS => ?_)
      obtain ⟨x20, ex20, hF⟩ := nm_1 hF
      refine lv_iinc (v := x20) (lv' := [(5, .int x20), (0, .ref (ad 0)), (1, .int v1), (2, .int v2), (3, .int v3), (4, .int v4)]) hx hb dX11_goOn_45 hl (k := 5) rfl (by rw [ex20]; first | rfl | decide) (by decide) rfl (fun ls hl => ?_)
      refine lv_goto (tgt := 27) hx hb dX11_goOn_48 (by decide) ?_
      exact ih _ _ _ _ _ _ _ _ _ _ hρ0 hL hF hP hS (lv_sub hl [1, 2, 3, 4, 5, 0] rfl)
set_option maxHeartbeats 4000000 in
set_option maxRecDepth 100000 in
theorem w_X11_goOn_0 {a1 : Int32} {a2 : Int32} {a3 : Int32} {a4 : Int32} {p : Program} {e : Env} {s : State} {m : MethodId} {args : Array Value} {below : List Frame} {meth : Method} {c : Code} {ρ0 : RG} {σ1 : SG} (C : Cx Y D N ad p s m args meth c cX11_goOn 8 none RX11 wsL_law) {σ : SG} {ρ : RG} {H : Heap} {locs : List Loc} {ls : Array Slot} (hρ0 : ρ = ρ0) (hL : Lay N K len ρ) (hF : F_X11_goOn a1 a2 a3 a4 σ ρ = some σ1) (hP : WP Y D N ad K len σ ρ H) (hS : va_S (AA N ad s.heap.size) s.heap H locs) (hl : lv_has ls 8 [(0, .ref (ad 0)), (1, .int a1), (2, .int a2), (3, .int a3), (4, .int a4)]) : W p l e rm_X11_goOn s m args below meth c H locs 0 0 (MQ below (QW Y D N ad K len σ1 ρ0 (AA N ad s.heap.size) none) args s 0 0 (AA N ad s.heap.size)) (F0 m 0 ls []) := by
  have hx := C.1.1
  have hb := C.1.2.1
  unfold F_X11_goOn at hF
  refine lv_aload_n hx hb dX11_goOn_0 rfl (lv_at hl 0 rfl) ?_
  refine get_11_11 C hP (lr_0 hL) (lk_0 hL) inlX11 mw_32 (lf_0_11 hL) dX11_goOn_1 ?_
  refine lv_aload_n hx hb dX11_goOn_4 rfl (lv_at hl 0 rfl) ?_
  refine get_11_0 C hP (lr_0 hL) (lk_0 hL) inlX11 mw_15 (lf_0_0 hL) dX11_goOn_5 ?_
  refine get_8_2 C hP (lr_1 hL) (lk_1 hL) inlX8 mw_488 (lf_1_2 hL) dX11_goOn_8 ?_
  obtain ⟨σ1, hq1, hF⟩ := bn_1 hF
  refine x_callV (ci := 3) rfl rfl C hP hS (c_X3_takes hL (il_37 hL) (il_3 hL) hq1) (lr_37 hL) (lk_37 hL) (cwV 1 C.1.2.2.2.2 (gdV mw_720 mw_721 mw_722 mw_31 mw_723) rfl rfl rfl hd_X3_takes ⟨Nat.le_of_ble_eq_true rfl, Nat.le_of_ble_eq_true rfl⟩) rfl rfl hl.1 (Nat.le_of_ble_eq_true rfl) ⟨Nat.zero_le _, Nat.zero_le _⟩ dX11_goOn_11 (fun H locs hP hS => ?_)
  refine lv_aload_n hx hb dX11_goOn_14 rfl (lv_at hl 0 rfl) ?_
  refine lv_iconst (v := 0) hx hb dX11_goOn_15 (by decide) ?_
  obtain ⟨σ3, eσ3, hF⟩ := nm_1 hF
  refine put_11_13 C hP hS (lr_0 hL) (lk_0 hL) inlX11 mw_744 eσ3 dX11_goOn_16 (fun H locs hP hS => ?_)
  refine lv_aload_n hx hb dX11_goOn_19 rfl (lv_at hl 0 rfl) ?_
  refine lv_iconst (v := 0) hx hb dX11_goOn_20 (by decide) ?_
  obtain ⟨σ5, eσ5, hF⟩ := nm_1 hF
  refine put_11_14 C hP hS (lr_0 hL) (lk_0 hL) inlX11 mw_749 eσ5 dX11_goOn_21 (fun H locs hP hS => ?_)
  refine lv_iconst (v := 0) hx hb dX11_goOn_24 (by decide) ?_
  refine lv_istore (lv' := [(5, .int (0 : Int32)), (0, .ref (ad 0)), (1, .int a1), (2, .int a2), (3, .int a3), (4, .int a4)]) hx hb dX11_goOn_25 hl (by decide) rfl (fun ls hl => ?_)
  exact w_X11_goOn_27 C 1024 _ _ _ _ _ _ _ _ _ _ hρ0 hL hF hP hS (lv_sub hl [1, 2, 3, 4, 5, 0] rfl)
set_option maxHeartbeats 4000000 in
set_option maxRecDepth 100000 in
theorem c_X11_goOn {a1 : Int32} {a2 : Int32} {a3 : Int32} {a4 : Int32} {σ1 : SG} {σ : SG} {ρ : RG} (hL : Lay N K len ρ) (hF : F_X11_goOn a1 a2 a3 a4 σ ρ = some σ1) : MT l Y D N ad K len yX11_goOn (Cond.code yX11_goOn cX11_goOn 8 none :: wsL_law) rm_X11_goOn [.ref (ad 0), .int a1, .int a2, .int a3, .int a4] σ ρ none σ1 ρ := by
  refine mt_of (cc := cX11_goOn) (nL := 8) (ret := none) (by decide) (Nat.le_of_ble_eq_true rfl) ?_
  intro p e s m args below meth c ls C hnm hP hS hl
  exact w_X11_goOn_0 C rfl hL hF hP hS hl

/-! CutCrooked.private void tryOrders(int, int, int);  -/
theorem dX11_tryOrders_0 : decode cX11_tryOrders 0 = .ok (.iload_n 1, 1) := by decide +kernel
theorem dX11_tryOrders_1 : decode cX11_tryOrders 1 = .ok (.aload_n 0, 1) := by decide +kernel
theorem dX11_tryOrders_2 : decode cX11_tryOrders 2 = .ok (.getfield 12, 3) := by decide +kernel
theorem dX11_tryOrders_5 : decode cX11_tryOrders 5 = .ok (.getfield 89, 3) := by decide +kernel
theorem dX11_tryOrders_8 : decode cX11_tryOrders 8 = .ok (.if_icmp .lt 29, 3) := by decide +kernel
theorem dX11_tryOrders_11 : decode cX11_tryOrders 11 = .ok (.aload_n 0, 1) := by decide +kernel
theorem dX11_tryOrders_12 : decode cX11_tryOrders 12 = .ok (.getfield 207, 3) := by decide +kernel
theorem dX11_tryOrders_15 : decode cX11_tryOrders 15 = .ok (.ifCond .eq 11, 3) := by decide +kernel
theorem dX11_tryOrders_18 : decode cX11_tryOrders 18 = .ok (.iload_n 3, 1) := by decide +kernel
theorem dX11_tryOrders_19 : decode cX11_tryOrders 19 = .ok (.aload_n 0, 1) := by decide +kernel
theorem dX11_tryOrders_20 : decode cX11_tryOrders 20 = .ok (.getfield 211, 3) := by decide +kernel
theorem dX11_tryOrders_23 : decode cX11_tryOrders 23 = .ok (.if_icmp .ge 13, 3) := by decide +kernel
theorem dX11_tryOrders_26 : decode cX11_tryOrders 26 = .ok (.aload_n 0, 1) := by decide +kernel
theorem dX11_tryOrders_27 : decode cX11_tryOrders 27 = .ok (.iload_n 3, 1) := by decide +kernel
theorem dX11_tryOrders_28 : decode cX11_tryOrders 28 = .ok (.putfield 211, 3) := by decide +kernel
theorem dX11_tryOrders_31 : decode cX11_tryOrders 31 = .ok (.aload_n 0, 1) := by decide +kernel
theorem dX11_tryOrders_32 : decode cX11_tryOrders 32 = .ok (.iload_n 1, 1) := by decide +kernel
theorem dX11_tryOrders_33 : decode cX11_tryOrders 33 = .ok (.invokevirtual 315, 3) := by decide +kernel
theorem dX11_tryOrders_36 : decode cX11_tryOrders 36 = .ok (.return_, 1) := by decide +kernel
theorem dX11_tryOrders_37 : decode cX11_tryOrders 37 = .ok (.iconst 0, 1) := by decide +kernel
theorem dX11_tryOrders_38 : decode cX11_tryOrders 38 = .ok (.istore 4, 2) := by decide +kernel
theorem dX11_tryOrders_40 : decode cX11_tryOrders 40 = .ok (.iload 4, 2) := by decide +kernel
theorem dX11_tryOrders_42 : decode cX11_tryOrders 42 = .ok (.aload_n 0, 1) := by decide +kernel
theorem dX11_tryOrders_43 : decode cX11_tryOrders 43 = .ok (.getfield 12, 3) := by decide +kernel
theorem dX11_tryOrders_46 : decode cX11_tryOrders 46 = .ok (.getfield 89, 3) := by decide +kernel
theorem dX11_tryOrders_49 : decode cX11_tryOrders 49 = .ok (.if_icmp .ge 89, 3) := by decide +kernel
theorem dX11_tryOrders_52 : decode cX11_tryOrders 52 = .ok (.iload_n 1, 1) := by decide +kernel
theorem dX11_tryOrders_53 : decode cX11_tryOrders 53 = .ok (.aload_n 0, 1) := by decide +kernel
theorem dX11_tryOrders_54 : decode cX11_tryOrders 54 = .ok (.getfield 41, 3) := by decide +kernel
theorem dX11_tryOrders_57 : decode cX11_tryOrders 57 = .ok (.arraylength, 1) := by decide +kernel
theorem dX11_tryOrders_58 : decode cX11_tryOrders 58 = .ok (.if_icmp .ge 80, 3) := by decide +kernel
theorem dX11_tryOrders_61 : decode cX11_tryOrders 61 = .ok (.iload_n 2, 1) := by decide +kernel
theorem dX11_tryOrders_62 : decode cX11_tryOrders 62 = .ok (.iload 4, 2) := by decide +kernel
theorem dX11_tryOrders_64 : decode cX11_tryOrders 64 = .ok (.ishr, 1) := by decide +kernel
theorem dX11_tryOrders_65 : decode cX11_tryOrders 65 = .ok (.iconst 1, 1) := by decide +kernel
theorem dX11_tryOrders_66 : decode cX11_tryOrders 66 = .ok (.iand, 1) := by decide +kernel
theorem dX11_tryOrders_67 : decode cX11_tryOrders 67 = .ok (.ifCond .ne 65, 3) := by decide +kernel
theorem dX11_tryOrders_70 : decode cX11_tryOrders 70 = .ok (.aload_n 0, 1) := by decide +kernel
theorem dX11_tryOrders_71 : decode cX11_tryOrders 71 = .ok (.iload_n 1, 1) := by decide +kernel
theorem dX11_tryOrders_72 : decode cX11_tryOrders 72 = .ok (.aload_n 0, 1) := by decide +kernel
theorem dX11_tryOrders_73 : decode cX11_tryOrders 73 = .ok (.getfield 12, 3) := by decide +kernel
theorem dX11_tryOrders_76 : decode cX11_tryOrders 76 = .ok (.iload 4, 2) := by decide +kernel
theorem dX11_tryOrders_78 : decode cX11_tryOrders 78 = .ok (.invokevirtual 100, 3) := by decide +kernel
theorem dX11_tryOrders_81 : decode cX11_tryOrders 81 = .ok (.iconst 0, 1) := by decide +kernel
theorem dX11_tryOrders_132 : decode cX11_tryOrders 132 = .ok (.iinc 4 1, 3) := by decide +kernel
theorem dX11_tryOrders_135 : decode cX11_tryOrders 135 = .ok (.goto (-95), 3) := by decide +kernel
theorem dX11_tryOrders_138 : decode cX11_tryOrders 138 = .ok (.return_, 1) := by decide +kernel
theorem hd_X11_tryOrders : yX11_tryOrders.cls = RX11 ∧ yX11_tryOrders.cls ≠ "java/lang/invoke/MethodHandle" ∧ yX11_tryOrders.cls ≠ "java/lang/invoke/VarHandle" ∧ (parseMethodDescriptor yX11_tryOrders.desc).map (fun d => d.parameters.length) = some 3 := by decide +kernel
abbrev rm_X11_tryOrders : Room := { frames := 1, cells := 0, slots := 0, locals := 22 }
def F_X11_tryOrders_132 (a1 : Int32) (a2 : Int32) (a3 : Int32) (rec_40 : SG → RG → Int32 → Int32 → Int32 → Int32 → Option (SG)) (σ : SG) (ρ : RG) (v1 : Int32) (v2 : Int32) (v3 : Int32) (v4 : Int32) : Option (SG) :=
  nm (v4 + (1 : Int32)) fun x7 =>
  rec_40 σ ρ v1 v2 v3 x7
def F_X11_tryOrders_40 (a1 : Int32) (a2 : Int32) (a3 : Int32) : Nat → SG → RG → Int32 → Int32 → Int32 → Int32 → Option (SG)
  | 0 => fun _ _ _ _ _ _ => none
  | n + 1 => fun σ ρ v1 v2 v3 v4 =>
  if (σ 1 1) ≤ v4 then
    some σ
  else
    if (6 : Int32) ≤ v1 then
      some σ
    else
      nm (v2 >>> (v4 &&& 31)) fun x4 =>
      nm (x4 &&& (1 : Int32)) fun x5 =>
      if x5 = 0 then
        bn (F_X8_cutterAt_1 v4 σ ρ) fun o8 =>
        oc o8
         (
          none /- none: 82: no contract 11.tryStep -/)
         (fun c9 =>
          none /- none: some -/)
      else
        F_X11_tryOrders_132 a1 a2 a3 (F_X11_tryOrders_40 a1 a2 a3 n) σ ρ v1 v2 v3 v4
def F_X11_tryOrders_26 (a1 : Int32) (a2 : Int32) (a3 : Int32) (σ : SG) (ρ : RG) (v1 : Int32) (v3 : Int32) : Option (SG) :=
  nm (s2 σ 0 9 v3) fun σ12 =>
  bn (F_X11_keepPath v1 σ12 ρ) fun σ13 =>
  some σ13
def F_X11_tryOrders (a1 : Int32) (a2 : Int32) (a3 : Int32) (σ : SG) (ρ : RG) : Option (SG) :=
  if a1 < (σ 1 1) then
    F_X11_tryOrders_40 a1 a2 a3 1024 σ ρ a1 a2 a3 (0 : Int32)
  else
    if (σ 0 8) = 0 then
      F_X11_tryOrders_26 a1 a2 a3 σ ρ a1 a3
    else
      if (σ 0 9) ≤ a3 then
        some σ
      else
        F_X11_tryOrders_26 a1 a2 a3 σ ρ a1 a3
set_option maxHeartbeats 4000000 in
set_option maxRecDepth 100000 in
theorem w_X11_tryOrders_132 {a1 : Int32} {a2 : Int32} {a3 : Int32} {rec_40 : SG → RG → Int32 → Int32 → Int32 → Int32 → Option (SG)} {p : Program} {e : Env} {s : State} {m : MethodId} {args : Array Value} {below : List Frame} {meth : Method} {c : Code} {ρ0 : RG} {σ1 : SG} (C : Cx Y D N ad p s m args meth c cX11_tryOrders 6 none RX11 wsL_law) (hrec_40 : ∀ (σ : SG) (ρ : RG) (v1 : Int32) (v2 : Int32) (v3 : Int32) (v4 : Int32) (H : Heap) (locs : List Loc) (ls : Array Slot), ρ = ρ0 → Lay N K len ρ → rec_40 σ ρ v1 v2 v3 v4 = some σ1 → WP Y D N ad K len σ ρ H → va_S (AA N ad s.heap.size) s.heap H locs → lv_has ls 6 [(0, .ref (ad 0)), (1, .int v1), (2, .int v2), (3, .int v3), (4, .int v4)] → W p l e rm_X11_tryOrders s m args below meth c H locs 0 0 (MQ below (QW Y D N ad K len σ1 ρ0 (AA N ad s.heap.size) none) args s 0 0 (AA N ad s.heap.size)) (F0 m 40 ls [])) {σ : SG} {ρ : RG} {v1 : Int32} {v2 : Int32} {v3 : Int32} {v4 : Int32} {H : Heap} {locs : List Loc} {ls : Array Slot} (hρ0 : ρ = ρ0) (hL : Lay N K len ρ) (hF : F_X11_tryOrders_132 a1 a2 a3 rec_40 σ ρ v1 v2 v3 v4 = some σ1) (hP : WP Y D N ad K len σ ρ H) (hS : va_S (AA N ad s.heap.size) s.heap H locs) (hl : lv_has ls 6 [(0, .ref (ad 0)), (1, .int v1), (2, .int v2), (3, .int v3), (4, .int v4)]) : W p l e rm_X11_tryOrders s m args below meth c H locs 0 0 (MQ below (QW Y D N ad K len σ1 ρ0 (AA N ad s.heap.size) none) args s 0 0 (AA N ad s.heap.size)) (F0 m 132 ls []) := by
  have hx := C.1.1
  have hb := C.1.2.1
  unfold F_X11_tryOrders_132 at hF
  obtain ⟨x7, ex7, hF⟩ := nm_1 hF
  refine lv_iinc (v := x7) (lv' := [(4, .int x7), (0, .ref (ad 0)), (1, .int v1), (2, .int v2), (3, .int v3)]) hx hb dX11_tryOrders_132 hl (k := 4) rfl (by rw [ex7]; first | rfl | decide) (by decide) rfl (fun ls hl => ?_)
  refine lv_goto (tgt := 40) hx hb dX11_tryOrders_135 (by decide) ?_
  exact hrec_40 _ _ _ _ _ _ _ _ _ hρ0 hL hF hP hS (lv_sub hl [1, 2, 3, 4, 0] rfl)
set_option maxHeartbeats 4000000 in
set_option maxRecDepth 100000 in
theorem w_X11_tryOrders_40 {a1 : Int32} {a2 : Int32} {a3 : Int32} {p : Program} {e : Env} {s : State} {m : MethodId} {args : Array Value} {below : List Frame} {meth : Method} {c : Code} {ρ0 : RG} {σ1 : SG} (C : Cx Y D N ad p s m args meth c cX11_tryOrders 6 none RX11 wsL_law) : ∀ (n : Nat) (σ : SG) (ρ : RG) (v1 : Int32) (v2 : Int32) (v3 : Int32) (v4 : Int32) (H : Heap) (locs : List Loc) (ls : Array Slot), ρ = ρ0 → Lay N K len ρ → F_X11_tryOrders_40 a1 a2 a3 n σ ρ v1 v2 v3 v4 = some σ1 → WP Y D N ad K len σ ρ H → va_S (AA N ad s.heap.size) s.heap H locs → lv_has ls 6 [(0, .ref (ad 0)), (1, .int v1), (2, .int v2), (3, .int v3), (4, .int v4)] → W p l e rm_X11_tryOrders s m args below meth c H locs 0 0 (MQ below (QW Y D N ad K len σ1 ρ0 (AA N ad s.heap.size) none) args s 0 0 (AA N ad s.heap.size)) (F0 m 40 ls []) := by
  have hx := C.1.1
  have hb := C.1.2.1
  intro n
  induction n with
  | zero => intro σ ρ v1 v2 v3 v4 H locs ls hρ0 hL hF; cases hF
  | succ n ih =>
    intro σ ρ v1 v2 v3 v4 H locs ls hρ0 hL hF hP hS hl
    unfold F_X11_tryOrders_40 at hF
    refine lv_iload hx hb dX11_tryOrders_40 (lv_at hl 4 rfl) ?_
    refine lv_aload_n hx hb dX11_tryOrders_42 rfl (lv_at hl 0 rfl) ?_
    refine get_11_0 C hP (lr_0 hL) (lk_0 hL) inlX11 mw_15 (lf_0_0 hL) dX11_tryOrders_43 ?_
    refine get_8_1 C hP (lr_1 hL) (lk_1 hL) inlX8 mw_352 dX11_tryOrders_46 ?_
    refine lv_icmp_ge (tgt := 138) hx hb dX11_tryOrders_49 (by decide) (fun c_2 => ?_) (fun c_2 => ?_) -- COND 2 by_cases c_2 : (σ 1 1) ≤ v4
    · have hF := ite_t hF c_2
      obtain rfl := ret_1 hF
      subst hρ0
      exact x_vret rfl C hP hS dX11_tryOrders_138
    · have hF := ite_f hF c_2
      refine lv_iload_n hx hb dX11_tryOrders_52 rfl (lv_at hl 1 rfl) ?_
      refine lv_aload_n hx hb dX11_tryOrders_53 rfl (lv_at hl 0 rfl) ?_
      refine get_11_6 C hP (lr_0 hL) (lk_0 hL) inlX11 mw_28 (lf_0_6 hL) dX11_tryOrders_54 ?_
      refine x_alen (v := (6 : Int32)) C hP (lr_35 hL) (lk_35 hL) (by decide) (ln_35 hL) (by decide +kernel) dX11_tryOrders_57 ?_
      refine lv_icmp_ge (tgt := 138) hx hb dX11_tryOrders_58 (by decide) (fun c_3 => ?_) (fun c_3 => ?_) -- COND 3 by_cases c_3 : (6 : Int32) ≤ v1
      · have hF := ite_t hF c_3
        obtain rfl := ret_1 hF
        subst hρ0
        exact x_vret rfl C hP hS dX11_tryOrders_138
      · have hF := ite_f hF c_3
        refine lv_iload_n hx hb dX11_tryOrders_61 rfl (lv_at hl 2 rfl) ?_
        refine lv_iload hx hb dX11_tryOrders_62 (lv_at hl 4 rfl) ?_
        refine lv_ishr hx hb dX11_tryOrders_64 ?_
        obtain ⟨x4, ex4, hF⟩ := nm_1 hF
        refine x_top ex4 ?_
        refine lv_iconst (v := 1) hx hb dX11_tryOrders_65 (by decide) ?_
        refine lv_iand hx hb dX11_tryOrders_66 ?_
        obtain ⟨x5, ex5, hF⟩ := nm_1 hF
        refine x_top ex5 ?_
        refine lv_if_ne (tgt := 132) hx hb dX11_tryOrders_67 (by decide) (fun c_6 => ?_) (fun c_6 => ?_) -- COND 6 rcases (Decidable.em (x5 = 0)).symm with c_6 | c_6
        · have hF := ite_f hF c_6
          exact w_X11_tryOrders_132 C ih hρ0 hL hF hP hS (lv_sub hl [0, 1, 2, 3, 4] rfl)
        · have hF := ite_t hF c_6
          refine lv_aload_n hx hb dX11_tryOrders_70 rfl (lv_at hl 0 rfl) ?_
          refine lv_iload_n hx hb dX11_tryOrders_71 rfl (lv_at hl 1 rfl) ?_
          refine lv_aload_n hx hb dX11_tryOrders_72 rfl (lv_at hl 0 rfl) ?_
          refine get_11_0 C hP (lr_0 hL) (lk_0 hL) inlX11 mw_15 (lf_0_0 hL) dX11_tryOrders_73 ?_
          refine lv_iload hx hb dX11_tryOrders_76 (lv_at hl 4 rfl) ?_
          obtain ⟨o8, hq8, hF⟩ := bn_1 hF
          refine x_callV (ci := 8) rfl rfl C hP hS (c_X8_cutterAt_1 hL hq8) (lr_1 hL) (lk_1 hL) (cwV 1 C.1.2.2.2.2 (gdV mw_428 mw_429 mw_430 mw_14 mw_431) rfl rfl rfl hd_X8_cutterAt ⟨Nat.le_of_ble_eq_true rfl, Nat.le_of_ble_eq_true rfl⟩) rfl rfl hl.1 (Nat.le_of_ble_eq_true rfl) ⟨Nat.zero_le _, Nat.zero_le _⟩ dX11_tryOrders_78 (fun H locs hP hS => ?_)
          rcases ho9 : o8 with _ | c9
          · have hF := oc_n hF ho9
            refine x_n ?_
            refine lv_iconst (v := 0) hx hb dX11_tryOrders_81 (by decide) ?_
            cases hF
          · have hF := oc_s hF ho9
            refine x_s ?_
            cases hF
set_option maxHeartbeats 4000000 in
set_option maxRecDepth 100000 in
theorem w_X11_tryOrders_26 {a1 : Int32} {a2 : Int32} {a3 : Int32} {p : Program} {e : Env} {s : State} {m : MethodId} {args : Array Value} {below : List Frame} {meth : Method} {c : Code} {ρ0 : RG} {σ1 : SG} (C : Cx Y D N ad p s m args meth c cX11_tryOrders 6 none RX11 wsL_law) {σ : SG} {ρ : RG} {v1 : Int32} {v3 : Int32} {H : Heap} {locs : List Loc} {ls : Array Slot} (hρ0 : ρ = ρ0) (hL : Lay N K len ρ) (hF : F_X11_tryOrders_26 a1 a2 a3 σ ρ v1 v3 = some σ1) (hP : WP Y D N ad K len σ ρ H) (hS : va_S (AA N ad s.heap.size) s.heap H locs) (hl : lv_has ls 6 [(0, .ref (ad 0)), (1, .int v1), (3, .int v3)]) : W p l e rm_X11_tryOrders s m args below meth c H locs 0 0 (MQ below (QW Y D N ad K len σ1 ρ0 (AA N ad s.heap.size) none) args s 0 0 (AA N ad s.heap.size)) (F0 m 26 ls []) := by
  have hx := C.1.1
  have hb := C.1.2.1
  unfold F_X11_tryOrders_26 at hF
  refine lv_aload_n hx hb dX11_tryOrders_26 rfl (lv_at hl 0 rfl) ?_
  refine lv_iload_n hx hb dX11_tryOrders_27 rfl (lv_at hl 2 rfl) ?_
  obtain ⟨σ12, eσ12, hF⟩ := nm_1 hF
  refine put_11_9 C hP hS (lr_0 hL) (lk_0 hL) inlX11 mw_718 eσ12 dX11_tryOrders_28 (fun H locs hP hS => ?_)
  refine lv_aload_n hx hb dX11_tryOrders_31 rfl (lv_at hl 0 rfl) ?_
  refine lv_iload_n hx hb dX11_tryOrders_32 rfl (lv_at hl 1 rfl) ?_
  obtain ⟨σ13, hq13, hF⟩ := bn_1 hF
  refine x_callV (ci := 11) rfl rfl C hP hS (c_X11_keepPath hL hq13) (lr_0 hL) (lk_0 hL) (cwV 1 C.1.2.2.2.2 (gdV mw_790 mw_791 mw_792 mw_2 mw_793) rfl rfl rfl hd_X11_keepPath ⟨Nat.le_of_ble_eq_true rfl, Nat.le_of_ble_eq_true rfl⟩) rfl rfl hl.1 (Nat.le_of_ble_eq_true rfl) ⟨Nat.zero_le _, Nat.zero_le _⟩ dX11_tryOrders_33 (fun H locs hP hS => ?_)
  obtain rfl := ret_1 hF
  subst hρ0
  exact x_vret rfl C hP hS dX11_tryOrders_36
set_option maxHeartbeats 4000000 in
set_option maxRecDepth 100000 in
theorem w_X11_tryOrders_0 {a1 : Int32} {a2 : Int32} {a3 : Int32} {p : Program} {e : Env} {s : State} {m : MethodId} {args : Array Value} {below : List Frame} {meth : Method} {c : Code} {ρ0 : RG} {σ1 : SG} (C : Cx Y D N ad p s m args meth c cX11_tryOrders 6 none RX11 wsL_law) {σ : SG} {ρ : RG} {H : Heap} {locs : List Loc} {ls : Array Slot} (hρ0 : ρ = ρ0) (hL : Lay N K len ρ) (hF : F_X11_tryOrders a1 a2 a3 σ ρ = some σ1) (hP : WP Y D N ad K len σ ρ H) (hS : va_S (AA N ad s.heap.size) s.heap H locs) (hl : lv_has ls 6 [(0, .ref (ad 0)), (1, .int a1), (2, .int a2), (3, .int a3)]) : W p l e rm_X11_tryOrders s m args below meth c H locs 0 0 (MQ below (QW Y D N ad K len σ1 ρ0 (AA N ad s.heap.size) none) args s 0 0 (AA N ad s.heap.size)) (F0 m 0 ls []) := by
  have hx := C.1.1
  have hb := C.1.2.1
  unfold F_X11_tryOrders at hF
  refine lv_iload_n hx hb dX11_tryOrders_0 rfl (lv_at hl 1 rfl) ?_
  refine lv_aload_n hx hb dX11_tryOrders_1 rfl (lv_at hl 0 rfl) ?_
  refine get_11_0 C hP (lr_0 hL) (lk_0 hL) inlX11 mw_15 (lf_0_0 hL) dX11_tryOrders_2 ?_
  refine get_8_1 C hP (lr_1 hL) (lk_1 hL) inlX8 mw_352 dX11_tryOrders_5 ?_
  refine lv_icmp_lt (tgt := 37) hx hb dX11_tryOrders_8 (by decide) (fun c_1 => ?_) (fun c_1 => ?_) -- COND 1 by_cases c_1 : a1 < (σ 1 1)
  · have hF := ite_t hF c_1
    refine lv_iconst (v := 0) hx hb dX11_tryOrders_37 (by decide) ?_
    refine lv_istore (lv' := [(4, .int (0 : Int32)), (0, .ref (ad 0)), (1, .int a1), (2, .int a2), (3, .int a3)]) hx hb dX11_tryOrders_38 hl (by decide) rfl (fun ls hl => ?_)
    exact w_X11_tryOrders_40 C 1024 _ _ _ _ _ _ _ _ _ hρ0 hL hF hP hS (lv_sub hl [1, 2, 3, 4, 0] rfl)
  · have hF := ite_f hF c_1
    refine lv_aload_n hx hb dX11_tryOrders_11 rfl (lv_at hl 0 rfl) ?_
    refine get_11_8 C hP (lr_0 hL) (lk_0 hL) inlX11 mw_717 dX11_tryOrders_12 ?_
    refine lv_if_eq (tgt := 26) hx hb dX11_tryOrders_15 (by decide) (fun c_10 => ?_) (fun c_10 => ?_) -- COND 10 by_cases c_10 : (σ 0 8) = 0
    · have hF := ite_t hF c_10
      exact w_X11_tryOrders_26 C hρ0 hL hF hP hS (lv_sub hl [0, 1, 3] rfl)
    · have hF := ite_f hF c_10
      refine lv_iload_n hx hb dX11_tryOrders_18 rfl (lv_at hl 3 rfl) ?_
      refine lv_aload_n hx hb dX11_tryOrders_19 rfl (lv_at hl 0 rfl) ?_
      refine get_11_9 C hP (lr_0 hL) (lk_0 hL) inlX11 mw_718 dX11_tryOrders_20 ?_
      refine lv_icmp_ge (tgt := 36) hx hb dX11_tryOrders_23 (by decide) (fun c_14 => ?_) (fun c_14 => ?_) -- COND 14 by_cases c_14 : (σ 0 9) ≤ a3
      · have hF := ite_t hF c_14
        obtain rfl := ret_1 hF
        subst hρ0
        exact x_vret rfl C hP hS dX11_tryOrders_36
      · have hF := ite_f hF c_14
        exact w_X11_tryOrders_26 C hρ0 hL hF hP hS (lv_sub hl [0, 1, 3] rfl)
set_option maxHeartbeats 4000000 in
set_option maxRecDepth 100000 in
theorem c_X11_tryOrders {a1 : Int32} {a2 : Int32} {a3 : Int32} {σ1 : SG} {σ : SG} {ρ : RG} (hL : Lay N K len ρ) (hF : F_X11_tryOrders a1 a2 a3 σ ρ = some σ1) : MT l Y D N ad K len yX11_tryOrders (Cond.code yX11_tryOrders cX11_tryOrders 6 none :: wsL_law) rm_X11_tryOrders [.ref (ad 0), .int a1, .int a2, .int a3] σ ρ none σ1 ρ := by
  refine mt_of (cc := cX11_tryOrders) (nL := 6) (ret := none) (by decide) (Nat.le_of_ble_eq_true rfl) ?_
  intro p e s m args below meth c ls C hnm hP hS hl
  exact w_X11_tryOrders_0 C rfl hL hF hP hS hl

/-! CutCrooked.private int weekRows(int);  -/
theorem dX11_weekRows_0 : decode cX11_weekRows 0 = .ok (.iload_n 1, 1) := by decide +kernel
theorem dX11_weekRows_1 : decode cX11_weekRows 1 = .ok (.aload_n 0, 1) := by decide +kernel
theorem dX11_weekRows_2 : decode cX11_weekRows 2 = .ok (.getfield 12, 3) := by decide +kernel
theorem dX11_weekRows_5 : decode cX11_weekRows 5 = .ok (.getfield 242, 3) := by decide +kernel
theorem dX11_weekRows_8 : decode cX11_weekRows 8 = .ok (.if_icmp .lt 17, 3) := by decide +kernel
theorem dX11_weekRows_11 : decode cX11_weekRows 11 = .ok (.aload_n 0, 1) := by decide +kernel
theorem dX11_weekRows_12 : decode cX11_weekRows 12 = .ok (.getfield 207, 3) := by decide +kernel
theorem dX11_weekRows_15 : decode cX11_weekRows 15 = .ok (.ifCond .ne 8, 3) := by decide +kernel
theorem dX11_weekRows_18 : decode cX11_weekRows 18 = .ok (.aload_n 0, 1) := by decide +kernel
theorem dX11_weekRows_19 : decode cX11_weekRows 19 = .ok (.iload_n 1, 1) := by decide +kernel
theorem dX11_weekRows_20 : decode cX11_weekRows 20 = .ok (.invokevirtual 315, 3) := by decide +kernel
theorem dX11_weekRows_23 : decode cX11_weekRows 23 = .ok (.iconst 1, 1) := by decide +kernel
theorem dX11_weekRows_24 : decode cX11_weekRows 24 = .ok (.ireturn, 1) := by decide +kernel
theorem dX11_weekRows_25 : decode cX11_weekRows 25 = .ok (.iconst 0, 1) := by decide +kernel
theorem dX11_weekRows_26 : decode cX11_weekRows 26 = .ok (.istore_n 2, 1) := by decide +kernel
theorem dX11_weekRows_27 : decode cX11_weekRows 27 = .ok (.iconst 0, 1) := by decide +kernel
theorem dX11_weekRows_28 : decode cX11_weekRows 28 = .ok (.istore_n 3, 1) := by decide +kernel
theorem dX11_weekRows_29 : decode cX11_weekRows 29 = .ok (.iload_n 3, 1) := by decide +kernel
theorem dX11_weekRows_30 : decode cX11_weekRows 30 = .ok (.aload_n 0, 1) := by decide +kernel
theorem dX11_weekRows_31 : decode cX11_weekRows 31 = .ok (.getfield 12, 3) := by decide +kernel
theorem dX11_weekRows_34 : decode cX11_weekRows 34 = .ok (.getfield 89, 3) := by decide +kernel
theorem dX11_weekRows_37 : decode cX11_weekRows 37 = .ok (.if_icmp .ge 77, 3) := by decide +kernel
theorem dX11_weekRows_40 : decode cX11_weekRows 40 = .ok (.iload_n 1, 1) := by decide +kernel
theorem dX11_weekRows_41 : decode cX11_weekRows 41 = .ok (.aload_n 0, 1) := by decide +kernel
theorem dX11_weekRows_42 : decode cX11_weekRows 42 = .ok (.getfield 41, 3) := by decide +kernel
theorem dX11_weekRows_45 : decode cX11_weekRows 45 = .ok (.arraylength, 1) := by decide +kernel
theorem dX11_weekRows_46 : decode cX11_weekRows 46 = .ok (.if_icmp .ge 68, 3) := by decide +kernel
theorem dX11_weekRows_49 : decode cX11_weekRows 49 = .ok (.aload_n 0, 1) := by decide +kernel
theorem dX11_weekRows_50 : decode cX11_weekRows 50 = .ok (.iload_n 1, 1) := by decide +kernel
theorem dX11_weekRows_51 : decode cX11_weekRows 51 = .ok (.aload_n 0, 1) := by decide +kernel
theorem dX11_weekRows_52 : decode cX11_weekRows 52 = .ok (.getfield 12, 3) := by decide +kernel
theorem dX11_weekRows_55 : decode cX11_weekRows 55 = .ok (.iload_n 3, 1) := by decide +kernel
theorem dX11_weekRows_56 : decode cX11_weekRows 56 = .ok (.invokevirtual 100, 3) := by decide +kernel
theorem dX11_weekRows_59 : decode cX11_weekRows 59 = .ok (.iconst 0, 1) := by decide +kernel
theorem dX11_weekRows_114 : decode cX11_weekRows 114 = .ok (.iload_n 2, 1) := by decide +kernel
theorem dX11_weekRows_115 : decode cX11_weekRows 115 = .ok (.ireturn, 1) := by decide +kernel
theorem hd_X11_weekRows : yX11_weekRows.cls = RX11 ∧ yX11_weekRows.cls ≠ "java/lang/invoke/MethodHandle" ∧ yX11_weekRows.cls ≠ "java/lang/invoke/VarHandle" ∧ (parseMethodDescriptor yX11_weekRows.desc).map (fun d => d.parameters.length) = some 1 := by decide +kernel
abbrev rm_X11_weekRows : Room := { frames := 1, cells := 0, slots := 0, locals := 22 }
def F_X11_weekRows_29 (a1 : Int32) : Nat → SG → RG → Int32 → Int32 → Int32 → Option (Int32 × SG)
  | 0 => fun _ _ _ _ _ => none
  | n + 1 => fun σ ρ v1 v2 v3 =>
  if (σ 1 1) ≤ v3 then
    some (v2, σ)
  else
    if (6 : Int32) ≤ v1 then
      some (v2, σ)
    else
      bn (F_X8_cutterAt_1 v3 σ ρ) fun o4 =>
      oc o4
       (
        none /- none: 60: no contract 11.tryStep -/)
       (fun c5 =>
        none /- none: some -/)
def F_X11_weekRows (a1 : Int32) (σ : SG) (ρ : RG) : Option (Int32 × SG) :=
  if a1 < (σ 1 10) then
    F_X11_weekRows_29 a1 1024 σ ρ a1 (0 : Int32) (0 : Int32)
  else
    if (σ 0 8) = 0 then
      bn (F_X11_keepPath a1 σ ρ) fun σ7 =>
      some ((1 : Int32), σ7)
    else
      some ((1 : Int32), σ)
set_option maxHeartbeats 4000000 in
set_option maxRecDepth 100000 in
theorem w_X11_weekRows_29 {a1 : Int32} {p : Program} {e : Env} {s : State} {m : MethodId} {args : Array Value} {below : List Frame} {meth : Method} {c : Code} {ρ0 : RG} {r : Int32} {σ1 : SG} (C : Cx Y D N ad p s m args meth c cX11_weekRows 4 (some .int) RX11 wsL_law) : ∀ (n : Nat) (σ : SG) (ρ : RG) (v1 : Int32) (v2 : Int32) (v3 : Int32) (H : Heap) (locs : List Loc) (ls : Array Slot), ρ = ρ0 → Lay N K len ρ → F_X11_weekRows_29 a1 n σ ρ v1 v2 v3 = some (r, σ1) → WP Y D N ad K len σ ρ H → va_S (AA N ad s.heap.size) s.heap H locs → lv_has ls 4 [(0, .ref (ad 0)), (1, .int v1), (2, .int v2), (3, .int v3)] → W p l e rm_X11_weekRows s m args below meth c H locs 0 0 (MQ below (QW Y D N ad K len σ1 ρ0 (AA N ad s.heap.size) (some (.int r))) args s 0 0 (AA N ad s.heap.size)) (F0 m 29 ls []) := by
  have hx := C.1.1
  have hb := C.1.2.1
  intro n
  induction n with
  | zero => intro σ ρ v1 v2 v3 H locs ls hρ0 hL hF; cases hF
  | succ n ih =>
    intro σ ρ v1 v2 v3 H locs ls hρ0 hL hF hP hS hl
    unfold F_X11_weekRows_29 at hF
    refine lv_iload_n hx hb dX11_weekRows_29 rfl (lv_at hl 3 rfl) ?_
    refine lv_aload_n hx hb dX11_weekRows_30 rfl (lv_at hl 0 rfl) ?_
    refine get_11_0 C hP (lr_0 hL) (lk_0 hL) inlX11 mw_15 (lf_0_0 hL) dX11_weekRows_31 ?_
    refine get_8_1 C hP (lr_1 hL) (lk_1 hL) inlX8 mw_352 dX11_weekRows_34 ?_
    refine lv_icmp_ge (tgt := 114) hx hb dX11_weekRows_37 (by decide) (fun c_2 => ?_) (fun c_2 => ?_) -- COND 2 by_cases c_2 : (σ 1 1) ≤ v3
    · have hF := ite_t hF c_2
      refine lv_iload_n hx hb dX11_weekRows_114 rfl (lv_at hl 2 rfl) ?_
      obtain ⟨rfl, rfl⟩ := ret_2 hF
      subst hρ0
      exact x_iret rfl C hP hS dX11_weekRows_115
    · have hF := ite_f hF c_2
      refine lv_iload_n hx hb dX11_weekRows_40 rfl (lv_at hl 1 rfl) ?_
      refine lv_aload_n hx hb dX11_weekRows_41 rfl (lv_at hl 0 rfl) ?_
      refine get_11_6 C hP (lr_0 hL) (lk_0 hL) inlX11 mw_28 (lf_0_6 hL) dX11_weekRows_42 ?_
      refine x_alen (v := (6 : Int32)) C hP (lr_35 hL) (lk_35 hL) (by decide) (ln_35 hL) (by decide +kernel) dX11_weekRows_45 ?_
      refine lv_icmp_ge (tgt := 114) hx hb dX11_weekRows_46 (by decide) (fun c_3 => ?_) (fun c_3 => ?_) -- COND 3 by_cases c_3 : (6 : Int32) ≤ v1
      · have hF := ite_t hF c_3
        refine lv_iload_n hx hb dX11_weekRows_114 rfl (lv_at hl 2 rfl) ?_
        obtain ⟨rfl, rfl⟩ := ret_2 hF
        subst hρ0
        exact x_iret rfl C hP hS dX11_weekRows_115
      · have hF := ite_f hF c_3
        refine lv_aload_n hx hb dX11_weekRows_49 rfl (lv_at hl 0 rfl) ?_
        refine lv_iload_n hx hb dX11_weekRows_50 rfl (lv_at hl 1 rfl) ?_
        refine lv_aload_n hx hb dX11_weekRows_51 rfl (lv_at hl 0 rfl) ?_
        refine get_11_0 C hP (lr_0 hL) (lk_0 hL) inlX11 mw_15 (lf_0_0 hL) dX11_weekRows_52 ?_
        refine lv_iload_n hx hb dX11_weekRows_55 rfl (lv_at hl 3 rfl) ?_
        obtain ⟨o4, hq4, hF⟩ := bn_1 hF
        refine x_callV (ci := 8) rfl rfl C hP hS (c_X8_cutterAt_1 hL hq4) (lr_1 hL) (lk_1 hL) (cwV 1 C.1.2.2.2.2 (gdV mw_428 mw_429 mw_430 mw_14 mw_431) rfl rfl rfl hd_X8_cutterAt ⟨Nat.le_of_ble_eq_true rfl, Nat.le_of_ble_eq_true rfl⟩) rfl rfl hl.1 (Nat.le_of_ble_eq_true rfl) ⟨Nat.zero_le _, Nat.zero_le _⟩ dX11_weekRows_56 (fun H locs hP hS => ?_)
        rcases ho5 : o4 with _ | c5
        · have hF := oc_n hF ho5
          refine x_n ?_
          refine lv_iconst (v := 0) hx hb dX11_weekRows_59 (by decide) ?_
          cases hF
        · have hF := oc_s hF ho5
          refine x_s ?_
          cases hF
set_option maxHeartbeats 4000000 in
set_option maxRecDepth 100000 in
theorem w_X11_weekRows_0 {a1 : Int32} {p : Program} {e : Env} {s : State} {m : MethodId} {args : Array Value} {below : List Frame} {meth : Method} {c : Code} {ρ0 : RG} {r : Int32} {σ1 : SG} (C : Cx Y D N ad p s m args meth c cX11_weekRows 4 (some .int) RX11 wsL_law) {σ : SG} {ρ : RG} {H : Heap} {locs : List Loc} {ls : Array Slot} (hρ0 : ρ = ρ0) (hL : Lay N K len ρ) (hF : F_X11_weekRows a1 σ ρ = some (r, σ1)) (hP : WP Y D N ad K len σ ρ H) (hS : va_S (AA N ad s.heap.size) s.heap H locs) (hl : lv_has ls 4 [(0, .ref (ad 0)), (1, .int a1)]) : W p l e rm_X11_weekRows s m args below meth c H locs 0 0 (MQ below (QW Y D N ad K len σ1 ρ0 (AA N ad s.heap.size) (some (.int r))) args s 0 0 (AA N ad s.heap.size)) (F0 m 0 ls []) := by
  have hx := C.1.1
  have hb := C.1.2.1
  unfold F_X11_weekRows at hF
  refine lv_iload_n hx hb dX11_weekRows_0 rfl (lv_at hl 1 rfl) ?_
  refine lv_aload_n hx hb dX11_weekRows_1 rfl (lv_at hl 0 rfl) ?_
  refine get_11_0 C hP (lr_0 hL) (lk_0 hL) inlX11 mw_15 (lf_0_0 hL) dX11_weekRows_2 ?_
  refine get_8_10 C hP (lr_1 hL) (lk_1 hL) inlX8 mw_920 dX11_weekRows_5 ?_
  refine lv_icmp_lt (tgt := 25) hx hb dX11_weekRows_8 (by decide) (fun c_1 => ?_) (fun c_1 => ?_) -- COND 1 by_cases c_1 : a1 < (σ 1 10)
  · have hF := ite_t hF c_1
    refine lv_iconst (v := 0) hx hb dX11_weekRows_25 (by decide) ?_
    refine lv_istore_n (lv' := [(2, .int (0 : Int32)), (0, .ref (ad 0)), (1, .int a1)]) hx hb dX11_weekRows_26 rfl hl (by decide) rfl (fun ls hl => ?_)
    refine lv_iconst (v := 0) hx hb dX11_weekRows_27 (by decide) ?_
    refine lv_istore_n (lv' := [(3, .int (0 : Int32)), (2, .int (0 : Int32)), (0, .ref (ad 0)), (1, .int a1)]) hx hb dX11_weekRows_28 rfl hl (by decide) rfl (fun ls hl => ?_)
    exact w_X11_weekRows_29 C 1024 _ _ _ _ _ _ _ _ hρ0 hL hF hP hS (lv_sub hl [2, 3, 1, 0] rfl)
  · have hF := ite_f hF c_1
    refine lv_aload_n hx hb dX11_weekRows_11 rfl (lv_at hl 0 rfl) ?_
    refine get_11_8 C hP (lr_0 hL) (lk_0 hL) inlX11 mw_717 dX11_weekRows_12 ?_
    refine lv_if_ne (tgt := 23) hx hb dX11_weekRows_15 (by decide) (fun c_6 => ?_) (fun c_6 => ?_) -- COND 6 rcases (Decidable.em ((σ 0 8) = 0)).symm with c_6 | c_6
    · have hF := ite_f hF c_6
      refine lv_iconst (v := 1) hx hb dX11_weekRows_23 (by decide) ?_
      obtain ⟨rfl, rfl⟩ := ret_2 hF
      subst hρ0
      exact x_iret rfl C hP hS dX11_weekRows_24
    · have hF := ite_t hF c_6
      refine lv_aload_n hx hb dX11_weekRows_18 rfl (lv_at hl 0 rfl) ?_
      refine lv_iload_n hx hb dX11_weekRows_19 rfl (lv_at hl 1 rfl) ?_
      obtain ⟨σ7, hq7, hF⟩ := bn_1 hF
      refine x_callV (ci := 11) rfl rfl C hP hS (c_X11_keepPath hL hq7) (lr_0 hL) (lk_0 hL) (cwV 1 C.1.2.2.2.2 (gdV mw_790 mw_791 mw_792 mw_2 mw_793) rfl rfl rfl hd_X11_keepPath ⟨Nat.le_of_ble_eq_true rfl, Nat.le_of_ble_eq_true rfl⟩) rfl rfl hl.1 (Nat.le_of_ble_eq_true rfl) ⟨Nat.zero_le _, Nat.zero_le _⟩ dX11_weekRows_20 (fun H locs hP hS => ?_)
      refine lv_iconst (v := 1) hx hb dX11_weekRows_23 (by decide) ?_
      obtain ⟨rfl, rfl⟩ := ret_2 hF
      subst hρ0
      exact x_iret rfl C hP hS dX11_weekRows_24
set_option maxHeartbeats 4000000 in
set_option maxRecDepth 100000 in
theorem c_X11_weekRows {a1 : Int32} {r : Int32} {σ1 : SG} {σ : SG} {ρ : RG} (hL : Lay N K len ρ) (hF : F_X11_weekRows a1 σ ρ = some (r, σ1)) : MT l Y D N ad K len yX11_weekRows (Cond.code yX11_weekRows cX11_weekRows 4 (some .int) :: wsL_law) rm_X11_weekRows [.ref (ad 0), .int a1] σ ρ (some (.int r)) σ1 ρ := by
  refine mt_of (cc := cX11_weekRows) (nL := 4) (ret := (some .int)) (by decide) (Nat.le_of_ble_eq_true rfl) ?_
  intro p e s m args below meth c ls C hnm hP hS hl
  exact w_X11_weekRows_0 C rfl hL hF hP hS hl

/-! CutCrooked.private long goodRows(int, int);  -/
theorem dX11_goodRows_0 : decode cX11_goodRows 0 = .ok (.iload_n 1, 1) := by decide +kernel
theorem dX11_goodRows_1 : decode cX11_goodRows 1 = .ok (.iload_n 2, 1) := by decide +kernel
theorem dX11_goodRows_2 : decode cX11_goodRows 2 = .ok (.if_icmp .lt 5, 3) := by decide +kernel
theorem dX11_goodRows_5 : decode cX11_goodRows 5 = .ok (.lconst 1, 1) := by decide +kernel
theorem dX11_goodRows_6 : decode cX11_goodRows 6 = .ok (.lreturn, 1) := by decide +kernel
theorem dX11_goodRows_7 : decode cX11_goodRows 7 = .ok (.lconst 0, 1) := by decide +kernel
theorem dX11_goodRows_8 : decode cX11_goodRows 8 = .ok (.lstore_n 3, 1) := by decide +kernel
theorem dX11_goodRows_9 : decode cX11_goodRows 9 = .ok (.iconst 0, 1) := by decide +kernel
theorem dX11_goodRows_10 : decode cX11_goodRows 10 = .ok (.istore 5, 2) := by decide +kernel
theorem dX11_goodRows_12 : decode cX11_goodRows 12 = .ok (.iload 5, 2) := by decide +kernel
theorem dX11_goodRows_14 : decode cX11_goodRows 14 = .ok (.aload_n 0, 1) := by decide +kernel
theorem dX11_goodRows_15 : decode cX11_goodRows 15 = .ok (.getfield 12, 3) := by decide +kernel
theorem dX11_goodRows_18 : decode cX11_goodRows 18 = .ok (.getfield 89, 3) := by decide +kernel
theorem dX11_goodRows_21 : decode cX11_goodRows 21 = .ok (.if_icmp .ge 62, 3) := by decide +kernel
theorem dX11_goodRows_24 : decode cX11_goodRows 24 = .ok (.aload_n 0, 1) := by decide +kernel
theorem dX11_goodRows_25 : decode cX11_goodRows 25 = .ok (.iload_n 1, 1) := by decide +kernel
theorem dX11_goodRows_26 : decode cX11_goodRows 26 = .ok (.aload_n 0, 1) := by decide +kernel
theorem dX11_goodRows_27 : decode cX11_goodRows 27 = .ok (.getfield 12, 3) := by decide +kernel
theorem dX11_goodRows_30 : decode cX11_goodRows 30 = .ok (.iload 5, 2) := by decide +kernel
theorem dX11_goodRows_32 : decode cX11_goodRows 32 = .ok (.invokevirtual 100, 3) := by decide +kernel
theorem dX11_goodRows_35 : decode cX11_goodRows 35 = .ok (.iconst 0, 1) := by decide +kernel
theorem dX11_goodRows_83 : decode cX11_goodRows 83 = .ok (.lload_n 3, 1) := by decide +kernel
theorem dX11_goodRows_84 : decode cX11_goodRows 84 = .ok (.lreturn, 1) := by decide +kernel
theorem hd_X11_goodRows : yX11_goodRows.cls = RX11 ∧ yX11_goodRows.cls ≠ "java/lang/invoke/MethodHandle" ∧ yX11_goodRows.cls ≠ "java/lang/invoke/VarHandle" ∧ (parseMethodDescriptor yX11_goodRows.desc).map (fun d => d.parameters.length) = some 2 := by decide +kernel
abbrev rm_X11_goodRows : Room := { frames := 1, cells := 0, slots := 0, locals := 21 }
def F_X11_goodRows_12 (a1 : Int32) (a2 : Int32) : Nat → SG → RG → Int32 → Int32 → Int64 → Int32 → Option (Int64)
  | 0 => fun _ _ _ _ _ _ => none
  | n + 1 => fun σ ρ v1 v2 v3 v5 =>
  if (σ 1 1) ≤ v5 then
    some v3
  else
    bn (F_X8_cutterAt_1 v5 σ ρ) fun o3 =>
    oc o3
     (
      none /- none: 36: no contract 11.tryStep -/)
     (fun c4 =>
      none /- none: some -/)
def F_X11_goodRows (a1 : Int32) (a2 : Int32) (σ : SG) (ρ : RG) : Option (Int64) :=
  if a1 < a2 then
    F_X11_goodRows_12 a1 a2 1024 σ ρ a1 a2 (0 : Int64) (0 : Int32)
  else
    some (1 : Int64)
set_option maxHeartbeats 4000000 in
set_option maxRecDepth 100000 in
theorem w_X11_goodRows_12 {a1 : Int32} {a2 : Int32} {p : Program} {e : Env} {s : State} {m : MethodId} {args : Array Value} {below : List Frame} {meth : Method} {c : Code} {σ0 : SG} {ρ0 : RG} {r : Int64} (C : Cx Y D N ad p s m args meth c cX11_goodRows 6 (some .long) RX11 wsL_law) : ∀ (n : Nat) (σ : SG) (ρ : RG) (v1 : Int32) (v2 : Int32) (v3 : Int64) (v5 : Int32) (H : Heap) (locs : List Loc) (ls : Array Slot), σ = σ0 → ρ = ρ0 → Lay N K len ρ → F_X11_goodRows_12 a1 a2 n σ ρ v1 v2 v3 v5 = some r → WP Y D N ad K len σ ρ H → va_S (AA N ad s.heap.size) s.heap H locs → lv_has ls 6 [(0, .ref (ad 0)), (1, .int v1), (2, .int v2), (3, .long v3), (5, .int v5)] → W p l e rm_X11_goodRows s m args below meth c H locs 0 0 (MQ below (QW Y D N ad K len σ0 ρ0 (AA N ad s.heap.size) (some (.long r))) args s 0 0 (AA N ad s.heap.size)) (F0 m 12 ls []) := by
  have hx := C.1.1
  have hb := C.1.2.1
  intro n
  induction n with
  | zero => intro σ ρ v1 v2 v3 v5 H locs ls hσ0 hρ0 hL hF; cases hF
  | succ n ih =>
    intro σ ρ v1 v2 v3 v5 H locs ls hσ0 hρ0 hL hF hP hS hl
    unfold F_X11_goodRows_12 at hF
    refine lv_iload hx hb dX11_goodRows_12 (lv_at hl 4 rfl) ?_
    refine lv_aload_n hx hb dX11_goodRows_14 rfl (lv_at hl 0 rfl) ?_
    refine get_11_0 C hP (lr_0 hL) (lk_0 hL) inlX11 mw_15 (lf_0_0 hL) dX11_goodRows_15 ?_
    refine get_8_1 C hP (lr_1 hL) (lk_1 hL) inlX8 mw_352 dX11_goodRows_18 ?_
    refine lv_icmp_ge (tgt := 83) hx hb dX11_goodRows_21 (by decide) (fun c_2 => ?_) (fun c_2 => ?_) -- COND 2 by_cases c_2 : (σ 1 1) ≤ v5
    · have hF := ite_t hF c_2
      refine lv_lload_n hx hb dX11_goodRows_83 rfl (lv_at hl 3 rfl) ?_
      obtain rfl := ret_1 hF
      subst hσ0
      subst hρ0
      exact x_lret rfl C hP hS dX11_goodRows_84
    · have hF := ite_f hF c_2
      refine lv_aload_n hx hb dX11_goodRows_24 rfl (lv_at hl 0 rfl) ?_
      refine lv_iload_n hx hb dX11_goodRows_25 rfl (lv_at hl 1 rfl) ?_
      refine lv_aload_n hx hb dX11_goodRows_26 rfl (lv_at hl 0 rfl) ?_
      refine get_11_0 C hP (lr_0 hL) (lk_0 hL) inlX11 mw_15 (lf_0_0 hL) dX11_goodRows_27 ?_
      refine lv_iload hx hb dX11_goodRows_30 (lv_at hl 4 rfl) ?_
      obtain ⟨o3, hq3, hF⟩ := bn_1 hF
      refine x_callV (ci := 8) rfl rfl C hP hS (c_X8_cutterAt_1 hL hq3) (lr_1 hL) (lk_1 hL) (cwV 1 C.1.2.2.2.2 (gdV mw_428 mw_429 mw_430 mw_14 mw_431) rfl rfl rfl hd_X8_cutterAt ⟨Nat.le_of_ble_eq_true rfl, Nat.le_of_ble_eq_true rfl⟩) rfl rfl hl.1 (Nat.le_of_ble_eq_true rfl) ⟨Nat.zero_le _, Nat.zero_le _⟩ dX11_goodRows_32 (fun H locs hP hS => ?_)
      rcases ho4 : o3 with _ | c4
      · have hF := oc_n hF ho4
        refine x_n ?_
        refine lv_iconst (v := 0) hx hb dX11_goodRows_35 (by decide) ?_
        cases hF
      · have hF := oc_s hF ho4
        refine x_s ?_
        cases hF
set_option maxHeartbeats 4000000 in
set_option maxRecDepth 100000 in
theorem w_X11_goodRows_0 {a1 : Int32} {a2 : Int32} {p : Program} {e : Env} {s : State} {m : MethodId} {args : Array Value} {below : List Frame} {meth : Method} {c : Code} {σ0 : SG} {ρ0 : RG} {r : Int64} (C : Cx Y D N ad p s m args meth c cX11_goodRows 6 (some .long) RX11 wsL_law) {σ : SG} {ρ : RG} {H : Heap} {locs : List Loc} {ls : Array Slot} (hσ0 : σ = σ0) (hρ0 : ρ = ρ0) (hL : Lay N K len ρ) (hF : F_X11_goodRows a1 a2 σ ρ = some r) (hP : WP Y D N ad K len σ ρ H) (hS : va_S (AA N ad s.heap.size) s.heap H locs) (hl : lv_has ls 6 [(0, .ref (ad 0)), (1, .int a1), (2, .int a2)]) : W p l e rm_X11_goodRows s m args below meth c H locs 0 0 (MQ below (QW Y D N ad K len σ0 ρ0 (AA N ad s.heap.size) (some (.long r))) args s 0 0 (AA N ad s.heap.size)) (F0 m 0 ls []) := by
  have hx := C.1.1
  have hb := C.1.2.1
  unfold F_X11_goodRows at hF
  refine lv_iload_n hx hb dX11_goodRows_0 rfl (lv_at hl 1 rfl) ?_
  refine lv_iload_n hx hb dX11_goodRows_1 rfl (lv_at hl 2 rfl) ?_
  refine lv_icmp_lt (tgt := 7) hx hb dX11_goodRows_2 (by decide) (fun c_1 => ?_) (fun c_1 => ?_) -- COND 1 by_cases c_1 : a1 < a2
  · have hF := ite_t hF c_1
    refine lv_lconst (v := 0) hx hb dX11_goodRows_7 (by decide +kernel) ?_
    refine lv_lstore_n (lv' := [(3, .long (0 : Int64)), (0, .ref (ad 0)), (1, .int a1), (2, .int a2)]) hx hb dX11_goodRows_8 rfl hl (by decide) rfl (fun ls hl => ?_)
    refine lv_iconst (v := 0) hx hb dX11_goodRows_9 (by decide) ?_
    refine lv_istore (lv' := [(5, .int (0 : Int32)), (3, .long (0 : Int64)), (0, .ref (ad 0)), (1, .int a1), (2, .int a2)]) hx hb dX11_goodRows_10 hl (by decide) rfl (fun ls hl => ?_)
    exact w_X11_goodRows_12 C 1024 _ _ _ _ _ _ _ _ _ hσ0 hρ0 hL hF hP hS (lv_sub hl [2, 3, 4, 1, 0] rfl)
  · have hF := ite_f hF c_1
    refine lv_lconst (v := 1) hx hb dX11_goodRows_5 (by decide +kernel) ?_
    obtain rfl := ret_1 hF
    subst hσ0
    subst hρ0
    exact x_lret rfl C hP hS dX11_goodRows_6
set_option maxHeartbeats 4000000 in
set_option maxRecDepth 100000 in
theorem c_X11_goodRows {a1 : Int32} {a2 : Int32} {r : Int64} {σ : SG} {ρ : RG} (hL : Lay N K len ρ) (hF : F_X11_goodRows a1 a2 σ ρ = some r) : MT l Y D N ad K len yX11_goodRows (Cond.code yX11_goodRows cX11_goodRows 6 (some .long) :: wsL_law) rm_X11_goodRows [.ref (ad 0), .int a1, .int a2] σ ρ (some (.long r)) σ ρ := by
  refine mt_of (cc := cX11_goodRows) (nL := 6) (ret := (some .long)) (by decide) (Nat.le_of_ble_eq_true rfl) ?_
  intro p e s m args below meth c ls C hnm hP hS hl
  exact w_X11_goodRows_0 C rfl rfl hL hF hP hS hl
end GEN
