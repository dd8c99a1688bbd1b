/-! PART 12.xc: printed by wip/gen -/
section GEN
variable {l : Launch} {Y : YT} {D : va_G} {N : Nat} {ad K len : Nat → Nat}
variable {fR lR : Nat}
/-! CutCrooked.private void startSteps();  -/
theorem dX11_startSteps_0 : decode cX11_startSteps 0 = .ok (.aload_n 0, 1) := by decide +kernel
theorem dX11_startSteps_1 : decode cX11_startSteps 1 = .ok (.getfield 37, 3) := by decide +kernel
theorem dX11_startSteps_4 : decode cX11_startSteps 4 = .ok (.iconst 0, 1) := by decide +kernel
theorem dX11_startSteps_5 : decode cX11_startSteps 5 = .ok (.aaload, 1) := by decide +kernel
theorem dX11_startSteps_6 : decode cX11_startSteps 6 = .ok (.aload_n 0, 1) := by decide +kernel
theorem dX11_startSteps_7 : decode cX11_startSteps 7 = .ok (.getfield 12, 3) := by decide +kernel
theorem dX11_startSteps_10 : decode cX11_startSteps 10 = .ok (.getfield 130, 3) := by decide +kernel
theorem dX11_startSteps_13 : decode cX11_startSteps 13 = .ok (.invokevirtual 217, 3) := by decide +kernel
theorem dX11_startSteps_16 : decode cX11_startSteps 16 = .ok (.aload_n 0, 1) := by decide +kernel
theorem dX11_startSteps_17 : decode cX11_startSteps 17 = .ok (.iconst 0, 1) := by decide +kernel
theorem dX11_startSteps_18 : decode cX11_startSteps 18 = .ok (.putfield 207, 3) := by decide +kernel
theorem dX11_startSteps_21 : decode cX11_startSteps 21 = .ok (.aload_n 0, 1) := by decide +kernel
theorem dX11_startSteps_22 : decode cX11_startSteps 22 = .ok (.iconst 0, 1) := by decide +kernel
theorem dX11_startSteps_23 : decode cX11_startSteps 23 = .ok (.putfield 211, 3) := by decide +kernel
theorem dX11_startSteps_26 : decode cX11_startSteps 26 = .ok (.aload_n 0, 1) := by decide +kernel
theorem dX11_startSteps_27 : decode cX11_startSteps 27 = .ok (.bipush (-5), 2) := by decide +kernel
theorem dX11_startSteps_29 : decode cX11_startSteps 29 = .ok (.putfield 230, 3) := by decide +kernel
theorem dX11_startSteps_32 : decode cX11_startSteps 32 = .ok (.return_, 1) := by decide +kernel
theorem hd_X11_startSteps : yX11_startSteps.cls = RX11 ∧ yX11_startSteps.cls ≠ "java/lang/invoke/MethodHandle" ∧ yX11_startSteps.cls ≠ "java/lang/invoke/VarHandle" ∧ (parseMethodDescriptor yX11_startSteps.desc).map (fun d => d.parameters.length) = some 0 := by decide +kernel
abbrev rm_X11_startSteps : Room := { frames := 1, cells := 0, slots := 0, locals := 21 }
def F_X11_startSteps  (σ : SG) (ρ : RG) : Option (SG) :=
  bn (F_X3_takes 40 3 σ ρ) fun σ1 =>
  nm (s2 σ1 0 8 (0 : Int32)) fun σ3 =>
  nm (s2 σ3 0 9 (0 : Int32)) fun σ5 =>
  nm (s2 σ5 0 10 (-5 : Int32)) fun σ7 =>
  some σ7
set_option maxHeartbeats 4000000 in
set_option maxRecDepth 100000 in
theorem w_X11_startSteps_0  {p : Program} {e : Env} {s : State} {m : MethodId} {args : Array Value} {below : List Frame} {meth : Method} {c : Code} {ρ0 : RG} {σ1 : SG} (C : Cx Y D N ad p s m args meth c cX11_startSteps 1 none RX11 wsL_law) {σ : SG} {ρ : RG} {H : Heap} {locs : List Loc} {ls : Array Slot} (hρ0 : ρ = ρ0) (hL : Lay N K len ρ) (hF : F_X11_startSteps σ ρ = some σ1) (hP : WP Y D N ad K len σ ρ H) (hS : va_S (AA N ad s.heap.size) s.heap H locs) (hl : lv_has ls 1 [(0, .ref (ad 0))]) : W p l e rm_X11_startSteps s m args below meth c H locs 0 0 (MQ below (QW Y D N ad K len σ1 ρ0 (AA N ad s.heap.size) none) args s 0 0 (AA N ad s.heap.size)) (F0 m 0 ls []) := by
  have hx := C.1.1
  have hb := C.1.2.1
  unfold F_X11_startSteps at hF
  refine lv_aload_n hx hb dX11_startSteps_0 rfl (lv_at hl 0 rfl) ?_
  refine get_11_5 C hP (lr_0 hL) (lk_0 hL) inlX11 mw_26 (lf_0_5 hL) dX11_startSteps_1 ?_
  refine lv_iconst (v := 0) hx hb dX11_startSteps_4 (by decide) ?_
  refine x_aald (v := .ref (ad 40)) C hP (lr_34 hL) (lk_34 hL) (Or.inr ⟨rfl, rfl, rfl⟩) (ln_34 hL) (by decide +kernel) (by rw [cl_0, (lf_34_0 hL)]; rfl) dX11_startSteps_5 ?_
  refine lv_aload_n hx hb dX11_startSteps_6 rfl (lv_at hl 0 rfl) ?_
  refine get_11_0 C hP (lr_0 hL) (lk_0 hL) inlX11 mw_15 (lf_0_0 hL) dX11_startSteps_7 ?_
  refine get_8_2 C hP (lr_1 hL) (lk_1 hL) inlX8 mw_488 (lf_1_2 hL) dX11_startSteps_10 ?_
  obtain ⟨σ1, hq1, hF⟩ := bn_1 hF
  refine x_callV (ci := 3) rfl rfl C hP hS (c_X3_takes hL (il_40 hL) (il_3 hL) hq1) (lr_40 hL) (lk_40 hL) (cwV 1 C.1.2.2.2.2 (gdV mw_720 mw_721 mw_722 mw_31 mw_723) rfl rfl rfl hd_X3_takes ⟨Nat.le_of_ble_eq_true rfl, Nat.le_of_ble_eq_true rfl⟩) rfl rfl hl.1 (Nat.le_of_ble_eq_true rfl) ⟨Nat.zero_le _, Nat.zero_le _⟩ dX11_startSteps_13 (fun H locs hP hS => ?_)
  refine lv_aload_n hx hb dX11_startSteps_16 rfl (lv_at hl 0 rfl) ?_
  refine lv_iconst (v := 0) hx hb dX11_startSteps_17 (by decide) ?_
  obtain ⟨σ3, eσ3, hF⟩ := nm_1 hF
  refine put_11_8 rfl C hP hS (lr_0 hL) (lk_0 hL) inlX11 mw_717 eσ3 dX11_startSteps_18 (fun H locs hP hS => ?_)
  refine lv_aload_n hx hb dX11_startSteps_21 rfl (lv_at hl 0 rfl) ?_
  refine lv_iconst (v := 0) hx hb dX11_startSteps_22 (by decide) ?_
  obtain ⟨σ5, eσ5, hF⟩ := nm_1 hF
  refine put_11_9 C hP hS (lr_0 hL) (lk_0 hL) inlX11 mw_718 eσ5 dX11_startSteps_23 (fun H locs hP hS => ?_)
  refine lv_aload_n hx hb dX11_startSteps_26 rfl (lv_at hl 0 rfl) ?_
  refine lv_bipush (v := -5) hx hb dX11_startSteps_27 (by decide +kernel) ?_
  obtain ⟨σ7, eσ7, hF⟩ := nm_1 hF
  refine put_11_10 C hP hS (lr_0 hL) (lk_0 hL) inlX11 mw_719 eσ7 dX11_startSteps_29 (fun H locs hP hS => ?_)
  obtain rfl := ret_1 hF
  subst hρ0
  exact x_vret rfl C hP hS dX11_startSteps_32
set_option maxHeartbeats 4000000 in
set_option maxRecDepth 100000 in
theorem c_X11_startSteps  {σ1 : SG} {σ : SG} {ρ : RG} (hL : Lay N K len ρ) (hF : F_X11_startSteps σ ρ = some σ1) : MT l Y D N ad K len yX11_startSteps (Cond.code yX11_startSteps cX11_startSteps 1 none :: wsL_law) rm_X11_startSteps [.ref (ad 0)] σ ρ none σ1 ρ := by
  refine mt_of (cc := cX11_startSteps) (nL := 1) (ret := none) (by decide) (Nat.le_of_ble_eq_true rfl) ?_
  intro p e s m args below meth c ls C hnm hP hS hl
  exact w_X11_startSteps_0 C rfl hL hF hP hS hl

/-! CutCrooked.private void keepPath(int);  -/
theorem dX11_keepPath_0 : decode cX11_keepPath 0 = .ok (.aload_n 0, 1) := by decide +kernel
theorem dX11_keepPath_1 : decode cX11_keepPath 1 = .ok (.iconst 1, 1) := by decide +kernel
theorem dX11_keepPath_2 : decode cX11_keepPath 2 = .ok (.putfield 207, 3) := by decide +kernel
theorem dX11_keepPath_5 : decode cX11_keepPath 5 = .ok (.iconst 0, 1) := by decide +kernel
theorem dX11_keepPath_6 : decode cX11_keepPath 6 = .ok (.istore_n 2, 1) := by decide +kernel
theorem dX11_keepPath_7 : decode cX11_keepPath 7 = .ok (.iload_n 2, 1) := by decide +kernel
theorem dX11_keepPath_8 : decode cX11_keepPath 8 = .ok (.iload_n 1, 1) := by decide +kernel
theorem dX11_keepPath_9 : decode cX11_keepPath 9 = .ok (.if_icmp .ge 39, 3) := by decide +kernel
theorem dX11_keepPath_12 : decode cX11_keepPath 12 = .ok (.iload_n 2, 1) := by decide +kernel
theorem dX11_keepPath_13 : decode cX11_keepPath 13 = .ok (.aload_n 0, 1) := by decide +kernel
theorem dX11_keepPath_14 : decode cX11_keepPath 14 = .ok (.getfield 41, 3) := by decide +kernel
theorem dX11_keepPath_17 : decode cX11_keepPath 17 = .ok (.arraylength, 1) := by decide +kernel
theorem dX11_keepPath_18 : decode cX11_keepPath 18 = .ok (.if_icmp .ge 30, 3) := by decide +kernel
theorem dX11_keepPath_21 : decode cX11_keepPath 21 = .ok (.iload_n 2, 1) := by decide +kernel
theorem dX11_keepPath_22 : decode cX11_keepPath 22 = .ok (.aload_n 0, 1) := by decide +kernel
theorem dX11_keepPath_23 : decode cX11_keepPath 23 = .ok (.getfield 45, 3) := by decide +kernel
theorem dX11_keepPath_26 : decode cX11_keepPath 26 = .ok (.arraylength, 1) := by decide +kernel
theorem dX11_keepPath_27 : decode cX11_keepPath 27 = .ok (.if_icmp .ge 21, 3) := by decide +kernel
theorem dX11_keepPath_30 : decode cX11_keepPath 30 = .ok (.aload_n 0, 1) := by decide +kernel
theorem dX11_keepPath_31 : decode cX11_keepPath 31 = .ok (.getfield 45, 3) := by decide +kernel
theorem dX11_keepPath_34 : decode cX11_keepPath 34 = .ok (.iload_n 2, 1) := by decide +kernel
theorem dX11_keepPath_35 : decode cX11_keepPath 35 = .ok (.aload_n 0, 1) := by decide +kernel
theorem dX11_keepPath_36 : decode cX11_keepPath 36 = .ok (.getfield 41, 3) := by decide +kernel
theorem dX11_keepPath_39 : decode cX11_keepPath 39 = .ok (.iload_n 2, 1) := by decide +kernel
theorem dX11_keepPath_40 : decode cX11_keepPath 40 = .ok (.iaload, 1) := by decide +kernel
theorem dX11_keepPath_41 : decode cX11_keepPath 41 = .ok (.iastore, 1) := by decide +kernel
theorem dX11_keepPath_42 : decode cX11_keepPath 42 = .ok (.iinc 2 1, 3) := by decide +kernel
theorem dX11_keepPath_45 : decode cX11_keepPath 45 = .ok (.goto (-38), 3) := by decide +kernel
theorem dX11_keepPath_48 : decode cX11_keepPath 48 = .ok (.return_, 1) := by decide +kernel
theorem hd_X11_keepPath : yX11_keepPath.cls = RX11 ∧ yX11_keepPath.cls ≠ "java/lang/invoke/MethodHandle" ∧ yX11_keepPath.cls ≠ "java/lang/invoke/VarHandle" ∧ (parseMethodDescriptor yX11_keepPath.desc).map (fun d => d.parameters.length) = some 1 := by decide +kernel
abbrev rm_X11_keepPath : Room := { frames := 0, cells := 0, slots := 0, locals := 0 }
def F_X11_keepPath_7 (a1 : Int32) : Nat → SG → RG → Int32 → Int32 → Option (SG)
  | 0 => fun _ _ _ _ => none
  | n + 1 => fun σ ρ v1 v2 =>
  if v1 ≤ v2 then
    some σ
  else
    if (6 : Int32) ≤ v2 then
      some σ
    else
      if (6 : Int32) ≤ v2 then
        some σ
      else
        gd (inb v2 6) <|
        gd (inb v2 6) <|
        nm (s2 σ 36 (v2).toNatClampNeg (σ 35 (v2).toNatClampNeg)) fun σ9 =>
        nm (v2 + (1 : Int32)) fun x10 =>
        F_X11_keepPath_7 a1 n σ9 ρ v1 x10
def F_X11_keepPath (a1 : Int32) (σ : SG) (ρ : RG) : Option (SG) :=
  nm (s2 σ 0 8 (1 : Int32)) fun σ2 =>
  F_X11_keepPath_7 a1 1024 σ2 ρ a1 (0 : Int32)
set_option maxHeartbeats 4000000 in
set_option maxRecDepth 100000 in
theorem w_X11_keepPath_7 {a1 : Int32} {p : Program} {e : Env} {s : State} {m : MethodId} {args : Array Value} {below : List Frame} {meth : Method} {c : Code} {ρ0 : RG} {σ1 : SG} (C : Cx Y D N ad p s m args meth c cX11_keepPath 3 none RX11 wsL_law) : ∀ (n : Nat) (σ : SG) (ρ : RG) (v1 : Int32) (v2 : Int32) (H : Heap) (locs : List Loc) (ls : Array Slot), ρ = ρ0 → Lay N K len ρ → F_X11_keepPath_7 a1 n σ ρ v1 v2 = some σ1 → WP Y D N ad K len σ ρ H → va_S (AA N ad s.heap.size) s.heap H locs → lv_has ls 3 [(0, .ref (ad 0)), (1, .int v1), (2, .int v2)] → W p l e rm_X11_keepPath s m args below meth c H locs 0 0 (MQ below (QW Y D N ad K len σ1 ρ0 (AA N ad s.heap.size) none) args s 0 0 (AA N ad s.heap.size)) (F0 m 7 ls []) := by
  have hx := C.1.1
  have hb := C.1.2.1
  intro n
  induction n with
  | zero => intro σ ρ v1 v2 H locs ls hρ0 hL hF; cases hF
  | succ n ih =>
    intro σ ρ v1 v2 H locs ls hρ0 hL hF hP hS hl
    unfold F_X11_keepPath_7 at hF
    refine lv_iload_n hx hb dX11_keepPath_7 rfl (lv_at hl 2 rfl) ?_
    refine lv_iload_n hx hb dX11_keepPath_8 rfl (lv_at hl 1 rfl) ?_
    refine lv_icmp_ge (tgt := 48) hx hb dX11_keepPath_9 (by decide) (fun c_3 => ?_) (fun c_3 => ?_) -- COND 3 by_cases c_3 : v1 ≤ v2
    · have hF := ite_t hF c_3
      obtain rfl := ret_1 hF
      subst hρ0
      exact x_vret rfl C hP hS dX11_keepPath_48
    · have hF := ite_f hF c_3
      refine lv_iload_n hx hb dX11_keepPath_12 rfl (lv_at hl 2 rfl) ?_
      refine lv_aload_n hx hb dX11_keepPath_13 rfl (lv_at hl 0 rfl) ?_
      refine get_11_6 C hP (lr_0 hL) (lk_0 hL) inlX11 mw_28 (lf_0_6 hL) dX11_keepPath_14 ?_
      refine x_alen (v := (6 : Int32)) C hP (lr_35 hL) (lk_35 hL) (by decide) (ln_35 hL) (by decide +kernel) dX11_keepPath_17 ?_
      refine lv_icmp_ge (tgt := 48) hx hb dX11_keepPath_18 (by decide) (fun c_4 => ?_) (fun c_4 => ?_) -- COND 4 by_cases c_4 : (6 : Int32) ≤ v2
      · have hF := ite_t hF c_4
        obtain rfl := ret_1 hF
        subst hρ0
        exact x_vret rfl C hP hS dX11_keepPath_48
      · have hF := ite_f hF c_4
        refine lv_iload_n hx hb dX11_keepPath_21 rfl (lv_at hl 2 rfl) ?_
        refine lv_aload_n hx hb dX11_keepPath_22 rfl (lv_at hl 0 rfl) ?_
        refine get_11_7 C hP (lr_0 hL) (lk_0 hL) inlX11 mw_29 (lf_0_7 hL) dX11_keepPath_23 ?_
        refine x_alen (v := (6 : Int32)) C hP (lr_36 hL) (lk_36 hL) (by decide) (ln_36 hL) (by decide +kernel) dX11_keepPath_26 ?_
        refine lv_icmp_ge (tgt := 48) hx hb dX11_keepPath_27 (by decide) (fun c_5 => ?_) (fun c_5 => ?_) -- COND 5 by_cases c_5 : (6 : Int32) ≤ v2
        · have hF := ite_t hF c_5
          obtain rfl := ret_1 hF
          subst hρ0
          exact x_vret rfl C hP hS dX11_keepPath_48
        · have hF := ite_f hF c_5
          refine lv_aload_n hx hb dX11_keepPath_30 rfl (lv_at hl 0 rfl) ?_
          refine get_11_7 C hP (lr_0 hL) (lk_0 hL) inlX11 mw_29 (lf_0_7 hL) dX11_keepPath_31 ?_
          refine lv_iload_n hx hb dX11_keepPath_34 rfl (lv_at hl 2 rfl) ?_
          refine lv_aload_n hx hb dX11_keepPath_35 rfl (lv_at hl 0 rfl) ?_
          refine get_11_6 C hP (lr_0 hL) (lk_0 hL) inlX11 mw_28 (lf_0_6 hL) dX11_keepPath_36 ?_
          refine lv_iload_n hx hb dX11_keepPath_39 rfl (lv_at hl 2 rfl) ?_
          obtain ⟨g6, hF⟩ := gd_1 hF
          refine x_iald C hP (lr_35 hL) (lk_35 hL) (ln_35 hL) g6 dX11_keepPath_40 ?_
          obtain ⟨g7, hF⟩ := gd_1 hF
          obtain ⟨σ9, eσ9, hF⟩ := nm_1 hF
          refine x_iast (σ1 := σ9) C hP hS (lr_36 hL) (lk_36 hL) (ln_36 hL) g7 eσ9 dX11_keepPath_41 (fun H locs hP hS => ?_)
          obtain ⟨x10, ex10, hF⟩ := nm_1 hF
          refine lv_iinc (v := x10) (lv' := [(2, .int x10), (0, .ref (ad 0)), (1, .int v1)]) hx hb dX11_keepPath_42 hl (k := 2) rfl (by rw [ex10]; first | rfl | decide) (by decide) rfl (fun ls hl => ?_)
          refine lv_goto (tgt := 7) hx hb dX11_keepPath_45 (by decide) ?_
          exact ih _ _ _ _ _ _ _ hρ0 hL hF hP hS (lv_sub hl [1, 2, 0] rfl)
set_option maxHeartbeats 4000000 in
set_option maxRecDepth 100000 in
theorem w_X11_keepPath_0 {a1 : Int32} {p : Program} {e : Env} {s : State} {m : MethodId} {args : Array Value} {below : List Frame} {meth : Method} {c : Code} {ρ0 : RG} {σ1 : SG} (C : Cx Y D N ad p s m args meth c cX11_keepPath 3 none RX11 wsL_law) {σ : SG} {ρ : RG} {H : Heap} {locs : List Loc} {ls : Array Slot} (hρ0 : ρ = ρ0) (hL : Lay N K len ρ) (hF : F_X11_keepPath a1 σ ρ = some σ1) (hP : WP Y D N ad K len σ ρ H) (hS : va_S (AA N ad s.heap.size) s.heap H locs) (hl : lv_has ls 3 [(0, .ref (ad 0)), (1, .int a1)]) : W p l e rm_X11_keepPath s m args below meth c H locs 0 0 (MQ below (QW Y D N ad K len σ1 ρ0 (AA N ad s.heap.size) none) args s 0 0 (AA N ad s.heap.size)) (F0 m 0 ls []) := by
  have hx := C.1.1
  have hb := C.1.2.1
  unfold F_X11_keepPath at hF
  refine lv_aload_n hx hb dX11_keepPath_0 rfl (lv_at hl 0 rfl) ?_
  refine lv_iconst (v := 1) hx hb dX11_keepPath_1 (by decide) ?_
  obtain ⟨σ2, eσ2, hF⟩ := nm_1 hF
  refine put_11_8 rfl C hP hS (lr_0 hL) (lk_0 hL) inlX11 mw_717 eσ2 dX11_keepPath_2 (fun H locs hP hS => ?_)
  refine lv_iconst (v := 0) hx hb dX11_keepPath_5 (by decide) ?_
  refine lv_istore_n (lv' := [(2, .int (0 : Int32)), (0, .ref (ad 0)), (1, .int a1)]) hx hb dX11_keepPath_6 rfl hl (by decide) rfl (fun ls hl => ?_)
  exact w_X11_keepPath_7 C 1024 _ _ _ _ _ _ _ hρ0 hL hF hP hS (lv_sub hl [1, 2, 0] rfl)
set_option maxHeartbeats 4000000 in
set_option maxRecDepth 100000 in
theorem c_X11_keepPath {a1 : Int32} {σ1 : SG} {σ : SG} {ρ : RG} (hL : Lay N K len ρ) (hF : F_X11_keepPath a1 σ ρ = some σ1) : MT l Y D N ad K len yX11_keepPath (Cond.code yX11_keepPath cX11_keepPath 3 none :: wsL_law) rm_X11_keepPath [.ref (ad 0), .int a1] σ ρ none σ1 ρ := by
  refine mt_of (cc := cX11_keepPath) (nL := 3) (ret := none) (by decide) (Nat.le_of_ble_eq_true rfl) ?_
  intro p e s m args below meth c ls C hnm hP hS hl
  exact w_X11_keepPath_0 C rfl hL hF hP hS hl

/-! CutCrooked.public int loaf(int);  -/
theorem dX11_loaf_0 : decode cX11_loaf 0 = .ok (.iload_n 1, 1) := by decide +kernel
theorem dX11_loaf_1 : decode cX11_loaf 1 = .ok (.bipush 40, 2) := by decide +kernel
theorem dX11_loaf_3 : decode cX11_loaf 3 = .ok (.sipush 999, 3) := by decide +kernel
theorem dX11_loaf_6 : decode cX11_loaf 6 = .ok (.invokestatic 56, 3) := by decide +kernel
theorem dX11_loaf_9 : decode cX11_loaf 9 = .ok (.ifCond .ne 6, 3) := by decide +kernel
theorem dX11_loaf_12 : decode cX11_loaf 12 = .ok (.bipush (-2), 2) := by decide +kernel
theorem dX11_loaf_14 : decode cX11_loaf 14 = .ok (.ireturn, 1) := by decide +kernel
theorem dX11_loaf_15 : decode cX11_loaf 15 = .ok (.aload_n 0, 1) := by decide +kernel
theorem dX11_loaf_16 : decode cX11_loaf 16 = .ok (.getfield 12, 3) := by decide +kernel
theorem dX11_loaf_19 : decode cX11_loaf 19 = .ok (.getfield 130, 3) := by decide +kernel
theorem dX11_loaf_22 : decode cX11_loaf 22 = .ok (.getfield 133, 3) := by decide +kernel
theorem dX11_loaf_25 : decode cX11_loaf 25 = .ok (.istore_n 2, 1) := by decide +kernel
theorem dX11_loaf_26 : decode cX11_loaf 26 = .ok (.aload_n 0, 1) := by decide +kernel
theorem dX11_loaf_27 : decode cX11_loaf 27 = .ok (.getfield 12, 3) := by decide +kernel
theorem dX11_loaf_30 : decode cX11_loaf 30 = .ok (.getfield 130, 3) := by decide +kernel
theorem dX11_loaf_33 : decode cX11_loaf 33 = .ok (.iload_n 1, 1) := by decide +kernel
theorem dX11_loaf_34 : decode cX11_loaf 34 = .ok (.invokevirtual 136, 3) := by decide +kernel
theorem dX11_loaf_37 : decode cX11_loaf 37 = .ok (.iload_n 2, 1) := by decide +kernel
theorem dX11_loaf_38 : decode cX11_loaf 38 = .ok (.ireturn, 1) := by decide +kernel
theorem hd_X11_loaf : yX11_loaf.cls = RX11 ∧ yX11_loaf.cls ≠ "java/lang/invoke/MethodHandle" ∧ yX11_loaf.cls ≠ "java/lang/invoke/VarHandle" ∧ (parseMethodDescriptor yX11_loaf.desc).map (fun d => d.parameters.length) = some 1 := by decide +kernel
abbrev rm_X11_loaf : Room := { frames := 1, cells := 0, slots := 0, locals := 22 }
def F_X11_loaf (a1 : Int32) (σ : SG) (ρ : RG) : Option (Int32 × SG) :=
  bn (F_X11_isWithin a1 (40 : Int32) (999 : Int32) σ ρ) fun r1 =>
  if r1 = 0 then
    some ((-2 : Int32), σ)
  else
    bn (F_X3_startsAnew 3 a1 σ ρ) fun σ3 =>
    some ((σ 3 0), σ3)
set_option maxHeartbeats 4000000 in
set_option maxRecDepth 100000 in
theorem w_X11_loaf_0 {a1 : Int32} {p : Program} {e : Env} {s : State} {m : MethodId} {args : Array Value} {below : List Frame} {meth : Method} {c : Code} {ρ0 : RG} {r : Int32} {σ1 : SG} (C : Cx Y D N ad p s m args meth c cX11_loaf 3 (some .int) RX11 wsL_law) {σ : SG} {ρ : RG} {H : Heap} {locs : List Loc} {ls : Array Slot} (hρ0 : ρ = ρ0) (hL : Lay N K len ρ) (hF : F_X11_loaf a1 σ ρ = some (r, σ1)) (hP : WP Y D N ad K len σ ρ H) (hS : va_S (AA N ad s.heap.size) s.heap H locs) (hl : lv_has ls 3 [(0, .ref (ad 0)), (1, .int a1)]) : W p l e rm_X11_loaf s m args below meth c H locs 0 0 (MQ below (QW Y D N ad K len σ1 ρ0 (AA N ad s.heap.size) (some (.int r))) args s 0 0 (AA N ad s.heap.size)) (F0 m 0 ls []) := by
  have hx := C.1.1
  have hb := C.1.2.1
  unfold F_X11_loaf at hF
  refine lv_iload_n hx hb dX11_loaf_0 rfl (lv_at hl 1 rfl) ?_
  refine lv_bipush (v := 40) hx hb dX11_loaf_1 (by decide +kernel) ?_
  refine lv_sipush (v := 999) hx hb dX11_loaf_3 (by decide +kernel) ?_
  obtain ⟨r1, hq1, hF⟩ := bn_1 hF
  refine x_callS C hP hS (c_X11_isWithin hL hq1) (va_cwS 3 C.1.2.2.2.2 (gdS mw_97 mw_98 mw_2 mw_99) rfl rfl rfl hd_X11_isWithin.2 ⟨Nat.le_of_ble_eq_true rfl, Nat.le_of_ble_eq_true rfl⟩) rfl rfl hl.1 (Nat.le_of_ble_eq_true rfl) ⟨Nat.zero_le _, Nat.zero_le _⟩ dX11_loaf_6 (fun H locs hP hS => ?_)
  refine lv_if_ne (tgt := 15) hx hb dX11_loaf_9 (by decide) (fun c_2 => ?_) (fun c_2 => ?_) -- COND 2 rcases (Decidable.em (r1 = 0)).symm with c_2 | c_2
  · have hF := ite_f hF c_2
    refine lv_aload_n hx hb dX11_loaf_15 rfl (lv_at hl 0 rfl) ?_
    refine get_11_0 C hP (lr_0 hL) (lk_0 hL) inlX11 mw_15 (lf_0_0 hL) dX11_loaf_16 ?_
    refine get_8_2 C hP (lr_1 hL) (lk_1 hL) inlX8 mw_488 (lf_1_2 hL) dX11_loaf_19 ?_
    refine get_3_0 C hP (lr_3 hL) (lk_3 hL) inlX3 mw_489 dX11_loaf_22 ?_
    refine lv_istore_n (lv' := [(2, .int (σ 3 0)), (0, .ref (ad 0)), (1, .int a1)]) hx hb dX11_loaf_25 rfl hl (by decide) rfl (fun ls hl => ?_)
    refine lv_aload_n hx hb dX11_loaf_26 rfl (lv_at hl 1 rfl) ?_
    refine get_11_0 C hP (lr_0 hL) (lk_0 hL) inlX11 mw_15 (lf_0_0 hL) dX11_loaf_27 ?_
    refine get_8_2 C hP (lr_1 hL) (lk_1 hL) inlX8 mw_488 (lf_1_2 hL) dX11_loaf_30 ?_
    refine lv_iload_n hx hb dX11_loaf_33 rfl (lv_at hl 2 rfl) ?_
    obtain ⟨σ3, hq3, hF⟩ := bn_1 hF
    refine x_callV (ci := 3) rfl rfl C hP hS (c_X3_startsAnew trivial (il_3 hL) hq3) (lr_3 hL) (lk_3 hL) (cwV 1 C.1.2.2.2.2 (gdV mw_490 mw_64 mw_65 mw_31 mw_66) rfl rfl rfl hd_X3_startsAnew ⟨Nat.le_of_ble_eq_true rfl, Nat.le_of_ble_eq_true rfl⟩) rfl rfl hl.1 (Nat.le_of_ble_eq_true rfl) ⟨Nat.zero_le _, Nat.zero_le _⟩ dX11_loaf_34 (fun H locs hP hS => ?_)
    refine lv_iload_n hx hb dX11_loaf_37 rfl (lv_at hl 0 rfl) ?_
    obtain ⟨rfl, rfl⟩ := ret_2 hF
    subst hρ0
    exact x_iret rfl C hP hS dX11_loaf_38
  · have hF := ite_t hF c_2
    refine lv_bipush (v := -2) hx hb dX11_loaf_12 (by decide +kernel) ?_
    obtain ⟨rfl, rfl⟩ := ret_2 hF
    subst hρ0
    exact x_iret rfl C hP hS dX11_loaf_14
set_option maxHeartbeats 4000000 in
set_option maxRecDepth 100000 in
theorem c_X11_loaf {a1 : Int32} {r : Int32} {σ1 : SG} {σ : SG} {ρ : RG} (hL : Lay N K len ρ) (hF : F_X11_loaf a1 σ ρ = some (r, σ1)) : MT l Y D N ad K len yX11_loaf (Cond.code yX11_loaf cX11_loaf 3 (some .int) :: wsL_law) rm_X11_loaf [.ref (ad 0), .int a1] σ ρ (some (.int r)) σ1 ρ := by
  refine mt_of (cc := cX11_loaf) (nL := 3) (ret := (some .int)) (by decide) (Nat.le_of_ble_eq_true rfl) ?_
  intro p e s m args below meth c ls C hnm hP hS hl
  exact w_X11_loaf_0 C rfl hL hF hP hS hl

/-! CutCrooked.public int told(int);  -/
theorem dX11_told_0 : decode cX11_told 0 = .ok (.iload_n 1, 1) := by decide +kernel
theorem dX11_told_1 : decode cX11_told 1 = .ok (.tableswitch 135 0 7 #[47, 58, 69, 80, 91, 102, 113, 124], 47) := by decide +kernel
theorem dX11_told_48 : decode cX11_told 48 = .ok (.aload_n 0, 1) := by decide +kernel
theorem dX11_told_49 : decode cX11_told 49 = .ok (.getfield 12, 3) := by decide +kernel
theorem dX11_told_52 : decode cX11_told 52 = .ok (.getfield 130, 3) := by decide +kernel
theorem dX11_told_55 : decode cX11_told 55 = .ok (.getfield 133, 3) := by decide +kernel
theorem dX11_told_58 : decode cX11_told 58 = .ok (.ireturn, 1) := by decide +kernel
theorem dX11_told_59 : decode cX11_told 59 = .ok (.aload_n 0, 1) := by decide +kernel
theorem dX11_told_60 : decode cX11_told 60 = .ok (.getfield 12, 3) := by decide +kernel
theorem dX11_told_63 : decode cX11_told 63 = .ok (.getfield 130, 3) := by decide +kernel
theorem dX11_told_66 : decode cX11_told 66 = .ok (.getfield 140, 3) := by decide +kernel
theorem dX11_told_69 : decode cX11_told 69 = .ok (.ireturn, 1) := by decide +kernel
theorem dX11_told_70 : decode cX11_told 70 = .ok (.aload_n 0, 1) := by decide +kernel
theorem dX11_told_71 : decode cX11_told 71 = .ok (.getfield 12, 3) := by decide +kernel
theorem dX11_told_74 : decode cX11_told 74 = .ok (.getfield 130, 3) := by decide +kernel
theorem dX11_told_77 : decode cX11_told 77 = .ok (.getfield 141, 3) := by decide +kernel
theorem dX11_told_80 : decode cX11_told 80 = .ok (.ireturn, 1) := by decide +kernel
theorem dX11_told_81 : decode cX11_told 81 = .ok (.aload_n 0, 1) := by decide +kernel
theorem dX11_told_82 : decode cX11_told 82 = .ok (.getfield 12, 3) := by decide +kernel
theorem dX11_told_85 : decode cX11_told 85 = .ok (.getfield 130, 3) := by decide +kernel
theorem dX11_told_88 : decode cX11_told 88 = .ok (.getfield 144, 3) := by decide +kernel
theorem dX11_told_91 : decode cX11_told 91 = .ok (.ireturn, 1) := by decide +kernel
theorem dX11_told_92 : decode cX11_told 92 = .ok (.aload_n 0, 1) := by decide +kernel
theorem dX11_told_93 : decode cX11_told 93 = .ok (.getfield 12, 3) := by decide +kernel
theorem dX11_told_96 : decode cX11_told 96 = .ok (.getfield 130, 3) := by decide +kernel
theorem dX11_told_99 : decode cX11_told 99 = .ok (.getfield 147, 3) := by decide +kernel
theorem dX11_told_102 : decode cX11_told 102 = .ok (.ireturn, 1) := by decide +kernel
theorem dX11_told_103 : decode cX11_told 103 = .ok (.aload_n 0, 1) := by decide +kernel
theorem dX11_told_104 : decode cX11_told 104 = .ok (.getfield 12, 3) := by decide +kernel
theorem dX11_told_107 : decode cX11_told 107 = .ok (.getfield 130, 3) := by decide +kernel
theorem dX11_told_110 : decode cX11_told 110 = .ok (.getfield 150, 3) := by decide +kernel
theorem dX11_told_113 : decode cX11_told 113 = .ok (.ireturn, 1) := by decide +kernel
theorem dX11_told_114 : decode cX11_told 114 = .ok (.aload_n 0, 1) := by decide +kernel
theorem dX11_told_115 : decode cX11_told 115 = .ok (.getfield 12, 3) := by decide +kernel
theorem dX11_told_118 : decode cX11_told 118 = .ok (.getfield 78, 3) := by decide +kernel
theorem dX11_told_121 : decode cX11_told 121 = .ok (.getfield 153, 3) := by decide +kernel
theorem dX11_told_124 : decode cX11_told 124 = .ok (.ireturn, 1) := by decide +kernel
theorem dX11_told_125 : decode cX11_told 125 = .ok (.aload_n 0, 1) := by decide +kernel
theorem dX11_told_126 : decode cX11_told 126 = .ok (.getfield 12, 3) := by decide +kernel
theorem dX11_told_129 : decode cX11_told 129 = .ok (.getfield 78, 3) := by decide +kernel
theorem dX11_told_132 : decode cX11_told 132 = .ok (.getfield 156, 3) := by decide +kernel
theorem dX11_told_135 : decode cX11_told 135 = .ok (.ireturn, 1) := by decide +kernel
theorem dX11_told_136 : decode cX11_told 136 = .ok (.iload_n 1, 1) := by decide +kernel
theorem dX11_told_137 : decode cX11_told 137 = .ok (.bipush 10, 2) := by decide +kernel
theorem dX11_told_139 : decode cX11_told 139 = .ok (.bipush 13, 2) := by decide +kernel
theorem dX11_told_141 : decode cX11_told 141 = .ok (.invokestatic 56, 3) := by decide +kernel
theorem dX11_told_144 : decode cX11_told 144 = .ok (.ifCond .ne 7, 3) := by decide +kernel
theorem dX11_told_147 : decode cX11_told 147 = .ok (.sipush (-10001), 3) := by decide +kernel
theorem dX11_told_150 : decode cX11_told 150 = .ok (.ireturn, 1) := by decide +kernel
theorem dX11_told_151 : decode cX11_told 151 = .ok (.aload_n 0, 1) := by decide +kernel
theorem dX11_told_152 : decode cX11_told 152 = .ok (.getfield 12, 3) := by decide +kernel
theorem dX11_told_155 : decode cX11_told 155 = .ok (.getfield 130, 3) := by decide +kernel
theorem dX11_told_158 : decode cX11_told 158 = .ok (.iload_n 1, 1) := by decide +kernel
theorem dX11_told_159 : decode cX11_told 159 = .ok (.bipush 10, 2) := by decide +kernel
theorem dX11_told_161 : decode cX11_told 161 = .ok (.isub, 1) := by decide +kernel
theorem dX11_told_162 : decode cX11_told 162 = .ok (.invokevirtual 159, 3) := by decide +kernel
theorem dX11_told_165 : decode cX11_told 165 = .ok (.ireturn, 1) := by decide +kernel
theorem hd_X11_told : yX11_told.cls = RX11 ∧ yX11_told.cls ≠ "java/lang/invoke/MethodHandle" ∧ yX11_told.cls ≠ "java/lang/invoke/VarHandle" ∧ (parseMethodDescriptor yX11_told.desc).map (fun d => d.parameters.length) = some 1 := by decide +kernel
abbrev rm_X11_told : Room := { frames := 2, cells := 0, slots := 0, locals := 43 }
def F_X11_told (a1 : Int32) (σ : SG) (ρ : RG) : Option (Int32) :=
  if a1 = 0 then
    some (σ 3 0)
  else
    if a1 = 1 then
      some (σ 3 1)
    else
      if a1 = 2 then
        some (σ 3 2)
      else
        if a1 = 3 then
          some (σ 3 3)
        else
          if a1 = 4 then
            some (σ 3 4)
          else
            if a1 = 5 then
              some (σ 3 5)
            else
              if a1 = 6 then
                some (σ 5 0)
              else
                if a1 = 7 then
                  some (σ 5 1)
                else
                  bn (F_X11_isWithin a1 (10 : Int32) (13 : Int32) σ ρ) fun r2 =>
                  if r2 = 0 then
                    some (-10001 : Int32)
                  else
                    nm (a1 - (10 : Int32)) fun x4 =>
                    bn (F_X3_corner 3 x4 σ ρ) fun r5 =>
                    some r5
set_option maxHeartbeats 4000000 in
set_option maxRecDepth 100000 in
theorem w_X11_told_0 {a1 : Int32} {p : Program} {e : Env} {s : State} {m : MethodId} {args : Array Value} {below : List Frame} {meth : Method} {c : Code} {σ0 : SG} {ρ0 : RG} {r : Int32} (C : Cx Y D N ad p s m args meth c cX11_told 2 (some .int) RX11 wsL_law) {σ : SG} {ρ : RG} {H : Heap} {locs : List Loc} {ls : Array Slot} (hσ0 : σ = σ0) (hρ0 : ρ = ρ0) (hL : Lay N K len ρ) (hF : F_X11_told a1 σ ρ = some r) (hP : WP Y D N ad K len σ ρ H) (hS : va_S (AA N ad s.heap.size) s.heap H locs) (hl : lv_has ls 2 [(0, .ref (ad 0)), (1, .int a1)]) : W p l e rm_X11_told s m args below meth c H locs 0 0 (MQ below (QW Y D N ad K len σ0 ρ0 (AA N ad s.heap.size) (some (.int r))) args s 0 0 (AA N ad s.heap.size)) (F0 m 0 ls []) := by
  have hx := C.1.1
  have hb := C.1.2.1
  unfold F_X11_told at hF
  refine lv_iload_n hx hb dX11_told_0 rfl (lv_at hl 1 rfl) ?_
  by_cases cs1_0 : a1 = 0
  · have hF := ite_t hF cs1_0
    refine lv_tableIn (tgt := 48) hx hb dX11_told_1 (by rw [cs1_0]; decide) (by rw [cs1_0]; decide) (by rw [cs1_0]; rfl) (by decide) ?_
    refine lv_aload_n hx hb dX11_told_48 rfl (lv_at hl 0 rfl) ?_
    refine get_11_0 C hP (lr_0 hL) (lk_0 hL) inlX11 mw_15 (lf_0_0 hL) dX11_told_49 ?_
    refine get_8_2 C hP (lr_1 hL) (lk_1 hL) inlX8 mw_488 (lf_1_2 hL) dX11_told_52 ?_
    refine get_3_0 C hP (lr_3 hL) (lk_3 hL) inlX3 mw_489 dX11_told_55 ?_
    obtain rfl := ret_1 hF
    subst hσ0
    subst hρ0
    exact x_iret rfl C hP hS dX11_told_58
  · have hF := ite_f hF cs1_0
    by_cases cs1_1 : a1 = 1
    · have hF := ite_t hF cs1_1
      refine lv_tableIn (tgt := 59) hx hb dX11_told_1 (by rw [cs1_1]; decide) (by rw [cs1_1]; decide) (by rw [cs1_1]; rfl) (by decide) ?_
      refine lv_aload_n hx hb dX11_told_59 rfl (lv_at hl 0 rfl) ?_
      refine get_11_0 C hP (lr_0 hL) (lk_0 hL) inlX11 mw_15 (lf_0_0 hL) dX11_told_60 ?_
      refine get_8_2 C hP (lr_1 hL) (lk_1 hL) inlX8 mw_488 (lf_1_2 hL) dX11_told_63 ?_
      refine get_3_1 C hP (lr_3 hL) (lk_3 hL) inlX3 mw_499 dX11_told_66 ?_
      obtain rfl := ret_1 hF
      subst hσ0
      subst hρ0
      exact x_iret rfl C hP hS dX11_told_69
    · have hF := ite_f hF cs1_1
      by_cases cs1_2 : a1 = 2
      · have hF := ite_t hF cs1_2
        refine lv_tableIn (tgt := 70) hx hb dX11_told_1 (by rw [cs1_2]; decide) (by rw [cs1_2]; decide) (by rw [cs1_2]; rfl) (by decide) ?_
        refine lv_aload_n hx hb dX11_told_70 rfl (lv_at hl 0 rfl) ?_
        refine get_11_0 C hP (lr_0 hL) (lk_0 hL) inlX11 mw_15 (lf_0_0 hL) dX11_told_71 ?_
        refine get_8_2 C hP (lr_1 hL) (lk_1 hL) inlX8 mw_488 (lf_1_2 hL) dX11_told_74 ?_
        refine get_3_2 C hP (lr_3 hL) (lk_3 hL) inlX3 mw_500 dX11_told_77 ?_
        obtain rfl := ret_1 hF
        subst hσ0
        subst hρ0
        exact x_iret rfl C hP hS dX11_told_80
      · have hF := ite_f hF cs1_2
        by_cases cs1_3 : a1 = 3
        · have hF := ite_t hF cs1_3
          refine lv_tableIn (tgt := 81) hx hb dX11_told_1 (by rw [cs1_3]; decide) (by rw [cs1_3]; decide) (by rw [cs1_3]; rfl) (by decide) ?_
          refine lv_aload_n hx hb dX11_told_81 rfl (lv_at hl 0 rfl) ?_
          refine get_11_0 C hP (lr_0 hL) (lk_0 hL) inlX11 mw_15 (lf_0_0 hL) dX11_told_82 ?_
          refine get_8_2 C hP (lr_1 hL) (lk_1 hL) inlX8 mw_488 (lf_1_2 hL) dX11_told_85 ?_
          refine get_3_3 C hP (lr_3 hL) (lk_3 hL) inlX3 mw_501 dX11_told_88 ?_
          obtain rfl := ret_1 hF
          subst hσ0
          subst hρ0
          exact x_iret rfl C hP hS dX11_told_91
        · have hF := ite_f hF cs1_3
          by_cases cs1_4 : a1 = 4
          · have hF := ite_t hF cs1_4
            refine lv_tableIn (tgt := 92) hx hb dX11_told_1 (by rw [cs1_4]; decide) (by rw [cs1_4]; decide) (by rw [cs1_4]; rfl) (by decide) ?_
            refine lv_aload_n hx hb dX11_told_92 rfl (lv_at hl 0 rfl) ?_
            refine get_11_0 C hP (lr_0 hL) (lk_0 hL) inlX11 mw_15 (lf_0_0 hL) dX11_told_93 ?_
            refine get_8_2 C hP (lr_1 hL) (lk_1 hL) inlX8 mw_488 (lf_1_2 hL) dX11_told_96 ?_
            refine get_3_4 C hP (lr_3 hL) (lk_3 hL) inlX3 mw_502 dX11_told_99 ?_
            obtain rfl := ret_1 hF
            subst hσ0
            subst hρ0
            exact x_iret rfl C hP hS dX11_told_102
          · have hF := ite_f hF cs1_4
            by_cases cs1_5 : a1 = 5
            · have hF := ite_t hF cs1_5
              refine lv_tableIn (tgt := 103) hx hb dX11_told_1 (by rw [cs1_5]; decide) (by rw [cs1_5]; decide) (by rw [cs1_5]; rfl) (by decide) ?_
              refine lv_aload_n hx hb dX11_told_103 rfl (lv_at hl 0 rfl) ?_
              refine get_11_0 C hP (lr_0 hL) (lk_0 hL) inlX11 mw_15 (lf_0_0 hL) dX11_told_104 ?_
              refine get_8_2 C hP (lr_1 hL) (lk_1 hL) inlX8 mw_488 (lf_1_2 hL) dX11_told_107 ?_
              refine get_3_5 C hP (lr_3 hL) (lk_3 hL) inlX3 mw_503 dX11_told_110 ?_
              obtain rfl := ret_1 hF
              subst hσ0
              subst hρ0
              exact x_iret rfl C hP hS dX11_told_113
            · have hF := ite_f hF cs1_5
              by_cases cs1_6 : a1 = 6
              · have hF := ite_t hF cs1_6
                refine lv_tableIn (tgt := 114) hx hb dX11_told_1 (by rw [cs1_6]; decide) (by rw [cs1_6]; decide) (by rw [cs1_6]; rfl) (by decide) ?_
                refine lv_aload_n hx hb dX11_told_114 rfl (lv_at hl 0 rfl) ?_
                refine get_11_0 C hP (lr_0 hL) (lk_0 hL) inlX11 mw_15 (lf_0_0 hL) dX11_told_115 ?_
                refine get_8_3 C hP (lr_1 hL) (lk_1 hL) inlX8 mw_113 (lf_1_3 hL) dX11_told_118 ?_
                refine get_0_0 C hP (lr_5 hL) (lk_5 hL) inlX0 mw_504 dX11_told_121 ?_
                obtain rfl := ret_1 hF
                subst hσ0
                subst hρ0
                exact x_iret rfl C hP hS dX11_told_124
              · have hF := ite_f hF cs1_6
                by_cases cs1_7 : a1 = 7
                · have hF := ite_t hF cs1_7
                  refine lv_tableIn (tgt := 125) hx hb dX11_told_1 (by rw [cs1_7]; decide) (by rw [cs1_7]; decide) (by rw [cs1_7]; rfl) (by decide) ?_
                  refine lv_aload_n hx hb dX11_told_125 rfl (lv_at hl 0 rfl) ?_
                  refine get_11_0 C hP (lr_0 hL) (lk_0 hL) inlX11 mw_15 (lf_0_0 hL) dX11_told_126 ?_
                  refine get_8_3 C hP (lr_1 hL) (lk_1 hL) inlX8 mw_113 (lf_1_3 hL) dX11_told_129 ?_
                  refine get_0_1 C hP (lr_5 hL) (lk_5 hL) inlX0 mw_505 dX11_told_132 ?_
                  obtain rfl := ret_1 hF
                  subst hσ0
                  subst hρ0
                  exact x_iret rfl C hP hS dX11_told_135
                · have hF := ite_f hF cs1_7
                  refine lv_tableOut (tgt := 136) hx hb dX11_told_1 (by have q0 := ne_ti cs1_0 (by decide : (0 : Int32).toInt = 0); have q1 := ne_ti cs1_1 (by decide : (1 : Int32).toInt = 1); have q2 := ne_ti cs1_2 (by decide : (2 : Int32).toInt = 2); have q3 := ne_ti cs1_3 (by decide : (3 : Int32).toInt = 3); have q4 := ne_ti cs1_4 (by decide : (4 : Int32).toInt = 4); have q5 := ne_ti cs1_5 (by decide : (5 : Int32).toInt = 5); have q6 := ne_ti cs1_6 (by decide : (6 : Int32).toInt = 6); have q7 := ne_ti cs1_7 (by decide : (7 : Int32).toInt = 7); omega) (by decide) ?_
                  refine lv_iload_n hx hb dX11_told_136 rfl (lv_at hl 1 rfl) ?_
                  refine lv_bipush (v := 10) hx hb dX11_told_137 (by decide +kernel) ?_
                  refine lv_bipush (v := 13) hx hb dX11_told_139 (by decide +kernel) ?_
                  obtain ⟨r2, hq2, hF⟩ := bn_1 hF
                  refine x_callS C hP hS (c_X11_isWithin hL hq2) (va_cwS 3 C.1.2.2.2.2 (gdS mw_97 mw_98 mw_2 mw_99) rfl rfl rfl hd_X11_isWithin.2 ⟨Nat.le_of_ble_eq_true rfl, Nat.le_of_ble_eq_true rfl⟩) rfl rfl hl.1 (Nat.le_of_ble_eq_true rfl) ⟨Nat.zero_le _, Nat.zero_le _⟩ dX11_told_141 (fun H locs hP hS => ?_)
                  refine lv_if_ne (tgt := 151) hx hb dX11_told_144 (by decide) (fun c_3 => ?_) (fun c_3 => ?_) -- COND 3 rcases (Decidable.em (r2 = 0)).symm with c_3 | c_3
                  · have hF := ite_f hF c_3
                    refine lv_aload_n hx hb dX11_told_151 rfl (lv_at hl 0 rfl) ?_
                    refine get_11_0 C hP (lr_0 hL) (lk_0 hL) inlX11 mw_15 (lf_0_0 hL) dX11_told_152 ?_
                    refine get_8_2 C hP (lr_1 hL) (lk_1 hL) inlX8 mw_488 (lf_1_2 hL) dX11_told_155 ?_
                    refine lv_iload_n hx hb dX11_told_158 rfl (lv_at hl 1 rfl) ?_
                    refine lv_bipush (v := 10) hx hb dX11_told_159 (by decide +kernel) ?_
                    refine lv_isub hx hb dX11_told_161 ?_
                    obtain ⟨x4, ex4, hF⟩ := nm_1 hF
                    refine x_top ex4 ?_
                    obtain ⟨r5, hq5, hF⟩ := bn_1 hF
                    refine x_callV (ci := 3) rfl rfl C hP hS (c_X3_corner hL (il_3 hL) hq5) (lr_3 hL) (lk_3 hL) (cwV 1 C.1.2.2.2.2 (gdV mw_506 mw_507 mw_508 mw_31 mw_509) rfl rfl rfl hd_X3_corner ⟨Nat.le_of_ble_eq_true rfl, Nat.le_of_ble_eq_true rfl⟩) rfl rfl hl.1 (Nat.le_of_ble_eq_true rfl) ⟨Nat.zero_le _, Nat.zero_le _⟩ dX11_told_162 (fun H locs hP hS => ?_)
                    obtain rfl := ret_1 hF
                    subst hσ0
                    subst hρ0
                    exact x_iret rfl C hP hS dX11_told_165
                  · have hF := ite_t hF c_3
                    refine lv_sipush (v := -10001) hx hb dX11_told_147 (by decide +kernel) ?_
                    obtain rfl := ret_1 hF
                    subst hσ0
                    subst hρ0
                    exact x_iret rfl C hP hS dX11_told_150
set_option maxHeartbeats 4000000 in
set_option maxRecDepth 100000 in
theorem c_X11_told {a1 : Int32} {r : Int32} {σ : SG} {ρ : RG} (hL : Lay N K len ρ) (hF : F_X11_told a1 σ ρ = some r) : MT l Y D N ad K len yX11_told (Cond.code yX11_told cX11_told 2 (some .int) :: wsL_law) rm_X11_told [.ref (ad 0), .int a1] σ ρ (some (.int r)) σ ρ := by
  refine mt_of (cc := cX11_told) (nL := 2) (ret := (some .int)) (by decide) (Nat.le_of_ble_eq_true rfl) ?_
  intro p e s m args below meth c ls C hnm hP hS hl
  exact w_X11_told_0 C rfl rfl hL hF hP hS hl

/-! CutCrooked.public int right();  -/
theorem dX11_right_0 : decode cX11_right 0 = .ok (.aload_n 0, 1) := by decide +kernel
theorem dX11_right_1 : decode cX11_right 1 = .ok (.getfield 12, 3) := by decide +kernel
theorem dX11_right_4 : decode cX11_right 4 = .ok (.getfield 130, 3) := by decide +kernel
theorem dX11_right_7 : decode cX11_right 7 = .ok (.invokevirtual 170, 3) := by decide +kernel
theorem dX11_right_10 : decode cX11_right 10 = .ok (.aload_n 0, 1) := by decide +kernel
theorem dX11_right_11 : decode cX11_right 11 = .ok (.getfield 12, 3) := by decide +kernel
theorem dX11_right_14 : decode cX11_right 14 = .ok (.getfield 78, 3) := by decide +kernel
theorem dX11_right_17 : decode cX11_right 17 = .ok (.getfield 156, 3) := by decide +kernel
theorem dX11_right_20 : decode cX11_right 20 = .ok (.if_icmp .ge 6, 3) := by decide +kernel
theorem dX11_right_23 : decode cX11_right 23 = .ok (.bipush (-3), 2) := by decide +kernel
theorem dX11_right_25 : decode cX11_right 25 = .ok (.ireturn, 1) := by decide +kernel
theorem dX11_right_26 : decode cX11_right 26 = .ok (.aload_n 0, 1) := by decide +kernel
theorem dX11_right_27 : decode cX11_right 27 = .ok (.getfield 12, 3) := by decide +kernel
theorem dX11_right_30 : decode cX11_right 30 = .ok (.getfield 130, 3) := by decide +kernel
theorem dX11_right_33 : decode cX11_right 33 = .ok (.invokevirtual 173, 3) := by decide +kernel
theorem dX11_right_36 : decode cX11_right 36 = .ok (.ireturn, 1) := by decide +kernel
theorem hd_X11_right : yX11_right.cls = RX11 ∧ yX11_right.cls ≠ "java/lang/invoke/MethodHandle" ∧ yX11_right.cls ≠ "java/lang/invoke/VarHandle" ∧ (parseMethodDescriptor yX11_right.desc).map (fun d => d.parameters.length) = some 0 := by decide +kernel
abbrev rm_X11_right : Room := { frames := 3, cells := 0, slots := 0, locals := 62 }
def F_X11_right  (σ : SG) (ρ : RG) : Option (Int32 × SG) :=
  bn (F_X3_leastCorner 3 σ ρ) fun r1 =>
  if (σ 5 1) ≤ r1 then
    bn2 (F_X3_straighten 3 σ ρ) fun r3 σ3 =>
    some (r3, σ3)
  else
    some ((-3 : Int32), σ)
set_option maxHeartbeats 4000000 in
set_option maxRecDepth 100000 in
theorem w_X11_right_0  {p : Program} {e : Env} {s : State} {m : MethodId} {args : Array Value} {below : List Frame} {meth : Method} {c : Code} {ρ0 : RG} {r : Int32} {σ1 : SG} (C : Cx Y D N ad p s m args meth c cX11_right 1 (some .int) RX11 wsL_law) {σ : SG} {ρ : RG} {H : Heap} {locs : List Loc} {ls : Array Slot} (hρ0 : ρ = ρ0) (hL : Lay N K len ρ) (hF : F_X11_right σ ρ = some (r, σ1)) (hP : WP Y D N ad K len σ ρ H) (hS : va_S (AA N ad s.heap.size) s.heap H locs) (hl : lv_has ls 1 [(0, .ref (ad 0))]) : W p l e rm_X11_right s m args below meth c H locs 0 0 (MQ below (QW Y D N ad K len σ1 ρ0 (AA N ad s.heap.size) (some (.int r))) args s 0 0 (AA N ad s.heap.size)) (F0 m 0 ls []) := by
  have hx := C.1.1
  have hb := C.1.2.1
  unfold F_X11_right at hF
  refine lv_aload_n hx hb dX11_right_0 rfl (lv_at hl 0 rfl) ?_
  refine get_11_0 C hP (lr_0 hL) (lk_0 hL) inlX11 mw_15 (lf_0_0 hL) dX11_right_1 ?_
  refine get_8_2 C hP (lr_1 hL) (lk_1 hL) inlX8 mw_488 (lf_1_2 hL) dX11_right_4 ?_
  obtain ⟨r1, hq1, hF⟩ := bn_1 hF
  refine x_callV (ci := 3) rfl rfl C hP hS (c_X3_leastCorner hL (il_3 hL) hq1) (lr_3 hL) (lk_3 hL) (cwV 0 C.1.2.2.2.2 (gdV mw_693 mw_644 mw_645 mw_31 mw_646) rfl rfl rfl hd_X3_leastCorner ⟨Nat.le_of_ble_eq_true rfl, Nat.le_of_ble_eq_true rfl⟩) rfl rfl hl.1 (Nat.le_of_ble_eq_true rfl) ⟨Nat.zero_le _, Nat.zero_le _⟩ dX11_right_7 (fun H locs hP hS => ?_)
  refine lv_aload_n hx hb dX11_right_10 rfl (lv_at hl 0 rfl) ?_
  refine get_11_0 C hP (lr_0 hL) (lk_0 hL) inlX11 mw_15 (lf_0_0 hL) dX11_right_11 ?_
  refine get_8_3 C hP (lr_1 hL) (lk_1 hL) inlX8 mw_113 (lf_1_3 hL) dX11_right_14 ?_
  refine get_0_1 C hP (lr_5 hL) (lk_5 hL) inlX0 mw_505 dX11_right_17 ?_
  refine lv_icmp_ge (tgt := 26) hx hb dX11_right_20 (by decide) (fun c_2 => ?_) (fun c_2 => ?_) -- COND 2 by_cases c_2 : (σ 5 1) ≤ r1
  · have hF := ite_t hF c_2
    refine lv_aload_n hx hb dX11_right_26 rfl (lv_at hl 0 rfl) ?_
    refine get_11_0 C hP (lr_0 hL) (lk_0 hL) inlX11 mw_15 (lf_0_0 hL) dX11_right_27 ?_
    refine get_8_2 C hP (lr_1 hL) (lk_1 hL) inlX8 mw_488 (lf_1_2 hL) dX11_right_30 ?_
    obtain ⟨r3, σ3, hq3, hF⟩ := bn2_1 hF
    refine x_callV (ci := 3) rfl rfl C hP hS (c_X3_straighten hL (il_3 hL) hq3) (lr_3 hL) (lk_3 hL) (cwV 0 C.1.2.2.2.2 (gdV mw_694 mw_575 mw_576 mw_31 mw_577) rfl rfl rfl hd_X3_straighten ⟨Nat.le_of_ble_eq_true rfl, Nat.le_of_ble_eq_true rfl⟩) rfl rfl hl.1 (Nat.le_of_ble_eq_true rfl) ⟨Nat.zero_le _, Nat.zero_le _⟩ dX11_right_33 (fun H locs hP hS => ?_)
    obtain ⟨rfl, rfl⟩ := ret_2 hF
    subst hρ0
    exact x_iret rfl C hP hS dX11_right_36
  · have hF := ite_f hF c_2
    refine lv_bipush (v := -3) hx hb dX11_right_23 (by decide +kernel) ?_
    obtain ⟨rfl, rfl⟩ := ret_2 hF
    subst hρ0
    exact x_iret rfl C hP hS dX11_right_25
set_option maxHeartbeats 4000000 in
set_option maxRecDepth 100000 in
theorem c_X11_right  {r : Int32} {σ1 : SG} {σ : SG} {ρ : RG} (hL : Lay N K len ρ) (hF : F_X11_right σ ρ = some (r, σ1)) : MT l Y D N ad K len yX11_right (Cond.code yX11_right cX11_right 1 (some .int) :: wsL_law) rm_X11_right [.ref (ad 0)] σ ρ (some (.int r)) σ1 ρ := by
  refine mt_of (cc := cX11_right) (nL := 1) (ret := (some .int)) (by decide) (Nat.le_of_ble_eq_true rfl) ?_
  intro p e s m args below meth c ls C hnm hP hS hl
  exact w_X11_right_0 C rfl hL hF hP hS hl

/-! CutCrooked.public int turn(boolean);  -/
theorem dX11_turn_0 : decode cX11_turn 0 = .ok (.iload_n 1, 1) := by decide +kernel
theorem dX11_turn_1 : decode cX11_turn 1 = .ok (.ifCond .eq 35, 3) := by decide +kernel
theorem dX11_turn_4 : decode cX11_turn 4 = .ok (.aload_n 0, 1) := by decide +kernel
theorem dX11_turn_5 : decode cX11_turn 5 = .ok (.getfield 12, 3) := by decide +kernel
theorem dX11_turn_8 : decode cX11_turn 8 = .ok (.getfield 130, 3) := by decide +kernel
theorem dX11_turn_11 : decode cX11_turn 11 = .ok (.aload_n 0, 1) := by decide +kernel
theorem dX11_turn_12 : decode cX11_turn 12 = .ok (.getfield 12, 3) := by decide +kernel
theorem dX11_turn_15 : decode cX11_turn 15 = .ok (.getfield 130, 3) := by decide +kernel
theorem dX11_turn_18 : decode cX11_turn 18 = .ok (.getfield 144, 3) := by decide +kernel
theorem dX11_turn_21 : decode cX11_turn 21 = .ok (.ineg, 1) := by decide +kernel
theorem dX11_turn_22 : decode cX11_turn 22 = .ok (.putfield 144, 3) := by decide +kernel
theorem dX11_turn_25 : decode cX11_turn 25 = .ok (.aload_n 0, 1) := by decide +kernel
theorem dX11_turn_26 : decode cX11_turn 26 = .ok (.getfield 12, 3) := by decide +kernel
theorem dX11_turn_29 : decode cX11_turn 29 = .ok (.getfield 130, 3) := by decide +kernel
theorem dX11_turn_32 : decode cX11_turn 32 = .ok (.getfield 144, 3) := by decide +kernel
theorem dX11_turn_35 : decode cX11_turn 35 = .ok (.ireturn, 1) := by decide +kernel
theorem dX11_turn_36 : decode cX11_turn 36 = .ok (.aload_n 0, 1) := by decide +kernel
theorem dX11_turn_37 : decode cX11_turn 37 = .ok (.getfield 12, 3) := by decide +kernel
theorem dX11_turn_40 : decode cX11_turn 40 = .ok (.getfield 130, 3) := by decide +kernel
theorem dX11_turn_43 : decode cX11_turn 43 = .ok (.aload_n 0, 1) := by decide +kernel
theorem dX11_turn_44 : decode cX11_turn 44 = .ok (.getfield 12, 3) := by decide +kernel
theorem dX11_turn_47 : decode cX11_turn 47 = .ok (.getfield 130, 3) := by decide +kernel
theorem dX11_turn_50 : decode cX11_turn 50 = .ok (.getfield 141, 3) := by decide +kernel
theorem dX11_turn_53 : decode cX11_turn 53 = .ok (.ineg, 1) := by decide +kernel
theorem dX11_turn_54 : decode cX11_turn 54 = .ok (.putfield 141, 3) := by decide +kernel
theorem dX11_turn_57 : decode cX11_turn 57 = .ok (.aload_n 0, 1) := by decide +kernel
theorem dX11_turn_58 : decode cX11_turn 58 = .ok (.getfield 12, 3) := by decide +kernel
theorem dX11_turn_61 : decode cX11_turn 61 = .ok (.getfield 130, 3) := by decide +kernel
theorem dX11_turn_64 : decode cX11_turn 64 = .ok (.getfield 141, 3) := by decide +kernel
theorem dX11_turn_67 : decode cX11_turn 67 = .ok (.ireturn, 1) := by decide +kernel
theorem hd_X11_turn : yX11_turn.cls = RX11 ∧ yX11_turn.cls ≠ "java/lang/invoke/MethodHandle" ∧ yX11_turn.cls ≠ "java/lang/invoke/VarHandle" ∧ (parseMethodDescriptor yX11_turn.desc).map (fun d => d.parameters.length) = some 1 := by decide +kernel
abbrev rm_X11_turn : Room := { frames := 0, cells := 0, slots := 0, locals := 0 }
def F_X11_turn (a1 : Int32) (σ : SG) (ρ : RG) : Option (Int32 × SG) :=
  if a1 = 0 then
    nm (-(σ 3 2)) fun x2 =>
    nm (s2 σ 3 2 x2) fun σ4 =>
    some ((σ4 3 2), σ4)
  else
    nm (-(σ 3 3)) fun x5 =>
    nm (s2 σ 3 3 x5) fun σ7 =>
    some ((σ7 3 3), σ7)
set_option maxHeartbeats 4000000 in
set_option maxRecDepth 100000 in
theorem w_X11_turn_0 {a1 : Int32} {p : Program} {e : Env} {s : State} {m : MethodId} {args : Array Value} {below : List Frame} {meth : Method} {c : Code} {ρ0 : RG} {r : Int32} {σ1 : SG} (C : Cx Y D N ad p s m args meth c cX11_turn 2 (some .int) RX11 wsL_law) {σ : SG} {ρ : RG} {H : Heap} {locs : List Loc} {ls : Array Slot} (hρ0 : ρ = ρ0) (hL : Lay N K len ρ) (hF : F_X11_turn a1 σ ρ = some (r, σ1)) (hP : WP Y D N ad K len σ ρ H) (hS : va_S (AA N ad s.heap.size) s.heap H locs) (hl : lv_has ls 2 [(0, .ref (ad 0)), (1, .int a1)]) : W p l e rm_X11_turn s m args below meth c H locs 0 0 (MQ below (QW Y D N ad K len σ1 ρ0 (AA N ad s.heap.size) (some (.int r))) args s 0 0 (AA N ad s.heap.size)) (F0 m 0 ls []) := by
  have hx := C.1.1
  have hb := C.1.2.1
  unfold F_X11_turn at hF
  refine lv_iload_n hx hb dX11_turn_0 rfl (lv_at hl 1 rfl) ?_
  refine lv_if_eq (tgt := 36) hx hb dX11_turn_1 (by decide) (fun c_1 => ?_) (fun c_1 => ?_) -- COND 1 by_cases c_1 : a1 = 0
  · have hF := ite_t hF c_1
    refine lv_aload_n hx hb dX11_turn_36 rfl (lv_at hl 0 rfl) ?_
    refine get_11_0 C hP (lr_0 hL) (lk_0 hL) inlX11 mw_15 (lf_0_0 hL) dX11_turn_37 ?_
    refine get_8_2 C hP (lr_1 hL) (lk_1 hL) inlX8 mw_488 (lf_1_2 hL) dX11_turn_40 ?_
    refine lv_aload_n hx hb dX11_turn_43 rfl (lv_at hl 0 rfl) ?_
    refine get_11_0 C hP (lr_0 hL) (lk_0 hL) inlX11 mw_15 (lf_0_0 hL) dX11_turn_44 ?_
    refine get_8_2 C hP (lr_1 hL) (lk_1 hL) inlX8 mw_488 (lf_1_2 hL) dX11_turn_47 ?_
    refine get_3_2 C hP (lr_3 hL) (lk_3 hL) inlX3 mw_500 dX11_turn_50 ?_
    refine lv_ineg hx hb dX11_turn_53 ?_
    obtain ⟨x2, ex2, hF⟩ := nm_1 hF
    refine x_top ex2 ?_
    obtain ⟨σ4, eσ4, hF⟩ := nm_1 hF
    refine put_3_2 C hP hS (lr_3 hL) (lk_3 hL) inlX3 mw_500 eσ4 dX11_turn_54 (fun H locs hP hS => ?_)
    refine lv_aload_n hx hb dX11_turn_57 rfl (lv_at hl 0 rfl) ?_
    refine get_11_0 C hP (lr_0 hL) (lk_0 hL) inlX11 mw_15 (lf_0_0 hL) dX11_turn_58 ?_
    refine get_8_2 C hP (lr_1 hL) (lk_1 hL) inlX8 mw_488 (lf_1_2 hL) dX11_turn_61 ?_
    refine get_3_2 C hP (lr_3 hL) (lk_3 hL) inlX3 mw_500 dX11_turn_64 ?_
    obtain ⟨rfl, rfl⟩ := ret_2 hF
    subst hρ0
    exact x_iret rfl C hP hS dX11_turn_67
  · have hF := ite_f hF c_1
    refine lv_aload_n hx hb dX11_turn_4 rfl (lv_at hl 0 rfl) ?_
    refine get_11_0 C hP (lr_0 hL) (lk_0 hL) inlX11 mw_15 (lf_0_0 hL) dX11_turn_5 ?_
    refine get_8_2 C hP (lr_1 hL) (lk_1 hL) inlX8 mw_488 (lf_1_2 hL) dX11_turn_8 ?_
    refine lv_aload_n hx hb dX11_turn_11 rfl (lv_at hl 0 rfl) ?_
    refine get_11_0 C hP (lr_0 hL) (lk_0 hL) inlX11 mw_15 (lf_0_0 hL) dX11_turn_12 ?_
    refine get_8_2 C hP (lr_1 hL) (lk_1 hL) inlX8 mw_488 (lf_1_2 hL) dX11_turn_15 ?_
    refine get_3_3 C hP (lr_3 hL) (lk_3 hL) inlX3 mw_501 dX11_turn_18 ?_
    refine lv_ineg hx hb dX11_turn_21 ?_
    obtain ⟨x5, ex5, hF⟩ := nm_1 hF
    refine x_top ex5 ?_
    obtain ⟨σ7, eσ7, hF⟩ := nm_1 hF
    refine put_3_3 C hP hS (lr_3 hL) (lk_3 hL) inlX3 mw_501 eσ7 dX11_turn_22 (fun H locs hP hS => ?_)
    refine lv_aload_n hx hb dX11_turn_25 rfl (lv_at hl 0 rfl) ?_
    refine get_11_0 C hP (lr_0 hL) (lk_0 hL) inlX11 mw_15 (lf_0_0 hL) dX11_turn_26 ?_
    refine get_8_2 C hP (lr_1 hL) (lk_1 hL) inlX8 mw_488 (lf_1_2 hL) dX11_turn_29 ?_
    refine get_3_3 C hP (lr_3 hL) (lk_3 hL) inlX3 mw_501 dX11_turn_32 ?_
    obtain ⟨rfl, rfl⟩ := ret_2 hF
    subst hρ0
    exact x_iret rfl C hP hS dX11_turn_35
set_option maxHeartbeats 4000000 in
set_option maxRecDepth 100000 in
theorem c_X11_turn {a1 : Int32} {r : Int32} {σ1 : SG} {σ : SG} {ρ : RG} (hL : Lay N K len ρ) (hF : F_X11_turn a1 σ ρ = some (r, σ1)) : MT l Y D N ad K len yX11_turn (Cond.code yX11_turn cX11_turn 2 (some .int) :: wsL_law) rm_X11_turn [.ref (ad 0), .int a1] σ ρ (some (.int r)) σ1 ρ := by
  refine mt_of (cc := cX11_turn) (nL := 2) (ret := (some .int)) (by decide) (Nat.le_of_ble_eq_true rfl) ?_
  intro p e s m args below meth c ls C hnm hP hS hl
  exact w_X11_turn_0 C rfl hL hF hP hS hl

/-! CutCrooked.public int trace(int);  -/
theorem dX11_trace_0 : decode cX11_trace 0 = .ok (.iload_n 1, 1) := by decide +kernel
theorem dX11_trace_1 : decode cX11_trace 1 = .ok (.iconst 0, 1) := by decide +kernel
theorem dX11_trace_2 : decode cX11_trace 2 = .ok (.aload_n 0, 1) := by decide +kernel
theorem dX11_trace_3 : decode cX11_trace 3 = .ok (.getfield 24, 3) := by decide +kernel
theorem dX11_trace_6 : decode cX11_trace 6 = .ok (.getfield 283, 3) := by decide +kernel
theorem dX11_trace_9 : decode cX11_trace 9 = .ok (.arraylength, 1) := by decide +kernel
theorem dX11_trace_10 : decode cX11_trace 10 = .ok (.iconst 1, 1) := by decide +kernel
theorem dX11_trace_11 : decode cX11_trace 11 = .ok (.isub, 1) := by decide +kernel
theorem dX11_trace_12 : decode cX11_trace 12 = .ok (.invokestatic 56, 3) := by decide +kernel
theorem dX11_trace_15 : decode cX11_trace 15 = .ok (.ifCond .eq 14, 3) := by decide +kernel
theorem dX11_trace_18 : decode cX11_trace 18 = .ok (.iload_n 1, 1) := by decide +kernel
theorem dX11_trace_19 : decode cX11_trace 19 = .ok (.aload_n 0, 1) := by decide +kernel
theorem dX11_trace_20 : decode cX11_trace 20 = .ok (.getfield 24, 3) := by decide +kernel
theorem dX11_trace_23 : decode cX11_trace 23 = .ok (.getfield 270, 3) := by decide +kernel
theorem dX11_trace_26 : decode cX11_trace 26 = .ok (.if_icmp .lt 5, 3) := by decide +kernel
theorem dX11_trace_29 : decode cX11_trace 29 = .ok (.iconst (-1), 1) := by decide +kernel
theorem dX11_trace_30 : decode cX11_trace 30 = .ok (.ireturn, 1) := by decide +kernel
theorem dX11_trace_31 : decode cX11_trace 31 = .ok (.aload_n 0, 1) := by decide +kernel
theorem dX11_trace_32 : decode cX11_trace 32 = .ok (.getfield 24, 3) := by decide +kernel
theorem dX11_trace_35 : decode cX11_trace 35 = .ok (.getfield 283, 3) := by decide +kernel
theorem dX11_trace_38 : decode cX11_trace 38 = .ok (.iload_n 1, 1) := by decide +kernel
theorem dX11_trace_39 : decode cX11_trace 39 = .ok (.iaload, 1) := by decide +kernel
theorem dX11_trace_40 : decode cX11_trace 40 = .ok (.ireturn, 1) := by decide +kernel
theorem hd_X11_trace : yX11_trace.cls = RX11 ∧ yX11_trace.cls ≠ "java/lang/invoke/MethodHandle" ∧ yX11_trace.cls ≠ "java/lang/invoke/VarHandle" ∧ (parseMethodDescriptor yX11_trace.desc).map (fun d => d.parameters.length) = some 1 := by decide +kernel
abbrev rm_X11_trace : Room := { frames := 1, cells := 0, slots := 0, locals := 22 }
def F_X11_trace (a1 : Int32) (σ : SG) (ρ : RG) : Option (Int32) :=
  nm ((20 : Int32) - (1 : Int32)) fun x1 =>
  bn (F_X11_isWithin a1 (0 : Int32) x1 σ ρ) fun r2 =>
  if r2 = 0 then
    some (-1 : Int32)
  else
    if a1 < (σ 27 1) then
      gd (inb a1 20) <|
      some (σ 28 (a1).toNatClampNeg)
    else
      some (-1 : Int32)
set_option maxHeartbeats 4000000 in
set_option maxRecDepth 100000 in
theorem w_X11_trace_0 {a1 : Int32} {p : Program} {e : Env} {s : State} {m : MethodId} {args : Array Value} {below : List Frame} {meth : Method} {c : Code} {σ0 : SG} {ρ0 : RG} {r : Int32} (C : Cx Y D N ad p s m args meth c cX11_trace 2 (some .int) RX11 wsL_law) {σ : SG} {ρ : RG} {H : Heap} {locs : List Loc} {ls : Array Slot} (hσ0 : σ = σ0) (hρ0 : ρ = ρ0) (hL : Lay N K len ρ) (hF : F_X11_trace a1 σ ρ = some r) (hP : WP Y D N ad K len σ ρ H) (hS : va_S (AA N ad s.heap.size) s.heap H locs) (hl : lv_has ls 2 [(0, .ref (ad 0)), (1, .int a1)]) : W p l e rm_X11_trace s m args below meth c H locs 0 0 (MQ below (QW Y D N ad K len σ0 ρ0 (AA N ad s.heap.size) (some (.int r))) args s 0 0 (AA N ad s.heap.size)) (F0 m 0 ls []) := by
  have hx := C.1.1
  have hb := C.1.2.1
  unfold F_X11_trace at hF
  refine lv_iload_n hx hb dX11_trace_0 rfl (lv_at hl 1 rfl) ?_
  refine lv_iconst (v := 0) hx hb dX11_trace_1 (by decide) ?_
  refine lv_aload_n hx hb dX11_trace_2 rfl (lv_at hl 0 rfl) ?_
  refine get_11_3 C hP (lr_0 hL) (lk_0 hL) inlX11 mw_20 (lf_0_3 hL) dX11_trace_3 ?_
  refine get_10_0 C hP (lr_27 hL) (lk_27 hL) inlX10 mw_1129 (lf_27_0 hL) dX11_trace_6 ?_
  refine x_alen (v := (20 : Int32)) C hP (lr_28 hL) (lk_28 hL) (by decide) (ln_28 hL) (by decide +kernel) dX11_trace_9 ?_
  refine lv_iconst (v := 1) hx hb dX11_trace_10 (by decide) ?_
  refine lv_isub hx hb dX11_trace_11 ?_
  obtain ⟨x1, ex1, hF⟩ := nm_1 hF
  refine x_top ex1 ?_
  obtain ⟨r2, hq2, hF⟩ := bn_1 hF
  refine x_callS C hP hS (c_X11_isWithin hL hq2) (va_cwS 3 C.1.2.2.2.2 (gdS mw_97 mw_98 mw_2 mw_99) rfl rfl rfl hd_X11_isWithin.2 ⟨Nat.le_of_ble_eq_true rfl, Nat.le_of_ble_eq_true rfl⟩) rfl rfl hl.1 (Nat.le_of_ble_eq_true rfl) ⟨Nat.zero_le _, Nat.zero_le _⟩ dX11_trace_12 (fun H locs hP hS => ?_)
  refine lv_if_eq (tgt := 29) hx hb dX11_trace_15 (by decide) (fun c_3 => ?_) (fun c_3 => ?_) -- COND 3 by_cases c_3 : r2 = 0
  · have hF := ite_t hF c_3
    refine lv_iconst (v := -1) hx hb dX11_trace_29 (by decide) ?_
    obtain rfl := ret_1 hF
    subst hσ0
    subst hρ0
    exact x_iret rfl C hP hS dX11_trace_30
  · have hF := ite_f hF c_3
    refine lv_iload_n hx hb dX11_trace_18 rfl (lv_at hl 1 rfl) ?_
    refine lv_aload_n hx hb dX11_trace_19 rfl (lv_at hl 0 rfl) ?_
    refine get_11_3 C hP (lr_0 hL) (lk_0 hL) inlX11 mw_20 (lf_0_3 hL) dX11_trace_20 ?_
    refine get_10_1 C hP (lr_27 hL) (lk_27 hL) inlX10 mw_1006 dX11_trace_23 ?_
    refine lv_icmp_lt (tgt := 31) hx hb dX11_trace_26 (by decide) (fun c_4 => ?_) (fun c_4 => ?_) -- COND 4 by_cases c_4 : a1 < (σ 27 1)
    · have hF := ite_t hF c_4
      refine lv_aload_n hx hb dX11_trace_31 rfl (lv_at hl 0 rfl) ?_
      refine get_11_3 C hP (lr_0 hL) (lk_0 hL) inlX11 mw_20 (lf_0_3 hL) dX11_trace_32 ?_
      refine get_10_0 C hP (lr_27 hL) (lk_27 hL) inlX10 mw_1129 (lf_27_0 hL) dX11_trace_35 ?_
      refine lv_iload_n hx hb dX11_trace_38 rfl (lv_at hl 1 rfl) ?_
      obtain ⟨g5, hF⟩ := gd_1 hF
      refine x_iald C hP (lr_28 hL) (lk_28 hL) (ln_28 hL) g5 dX11_trace_39 ?_
      obtain rfl := ret_1 hF
      subst hσ0
      subst hρ0
      exact x_iret rfl C hP hS dX11_trace_40
    · have hF := ite_f hF c_4
      refine lv_iconst (v := -1) hx hb dX11_trace_29 (by decide) ?_
      obtain rfl := ret_1 hF
      subst hσ0
      subst hρ0
      exact x_iret rfl C hP hS dX11_trace_30
set_option maxHeartbeats 4000000 in
set_option maxRecDepth 100000 in
theorem c_X11_trace {a1 : Int32} {r : Int32} {σ : SG} {ρ : RG} (hL : Lay N K len ρ) (hF : F_X11_trace a1 σ ρ = some r) : MT l Y D N ad K len yX11_trace (Cond.code yX11_trace cX11_trace 2 (some .int) :: wsL_law) rm_X11_trace [.ref (ad 0), .int a1] σ ρ (some (.int r)) σ ρ := by
  refine mt_of (cc := cX11_trace) (nL := 2) (ret := (some .int)) (by decide) (Nat.le_of_ble_eq_true rfl) ?_
  intro p e s m args below meth c ls C hnm hP hS hl
  exact w_X11_trace_0 C rfl rfl hL hF hP hS hl
end GEN
