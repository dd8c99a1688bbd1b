/-! PART 13.xd: printed by wip/gen -/
section GEN
variable {l : Launch} {Y : YT} {D : va_G} {N : Nat} {ad K len : Nat → Nat}
/-! CutCrooked.public int board();  -/
theorem dX11_board_0 : decode cX11_board 0 = .ok (.aload_n 0, 1) := by decide +kernel
theorem dX11_board_1 : decode cX11_board 1 = .ok (.getfield 12, 3) := by decide +kernel
theorem dX11_board_4 : decode cX11_board 4 = .ok (.getfield 68, 3) := by decide +kernel
theorem dX11_board_7 : decode cX11_board 7 = .ok (.iconst 5, 1) := by decide +kernel
theorem dX11_board_8 : decode cX11_board 8 = .ok (.if_icmp .lt 6, 3) := by decide +kernel
theorem dX11_board_11 : decode cX11_board 11 = .ok (.bipush (-4), 2) := by decide +kernel
theorem dX11_board_13 : decode cX11_board 13 = .ok (.ireturn, 1) := by decide +kernel
theorem dX11_board_14 : decode cX11_board 14 = .ok (.aload_n 0, 1) := by decide +kernel
theorem dX11_board_15 : decode cX11_board 15 = .ok (.getfield 31, 3) := by decide +kernel
theorem dX11_board_18 : decode cX11_board 18 = .ok (.aload_n 0, 1) := by decide +kernel
theorem dX11_board_19 : decode cX11_board 19 = .ok (.getfield 12, 3) := by decide +kernel
theorem dX11_board_22 : decode cX11_board 22 = .ok (.getfield 64, 3) := by decide +kernel
theorem dX11_board_25 : decode cX11_board 25 = .ok (.aload_n 0, 1) := by decide +kernel
theorem dX11_board_26 : decode cX11_board 26 = .ok (.getfield 12, 3) := by decide +kernel
theorem dX11_board_29 : decode cX11_board 29 = .ok (.getfield 60, 3) := by decide +kernel
theorem dX11_board_32 : decode cX11_board 32 = .ok (.invokevirtual 71, 3) := by decide +kernel
theorem dX11_board_35 : decode cX11_board 35 = .ok (.istore_n 1, 1) := by decide +kernel
theorem dX11_board_36 : decode cX11_board 36 = .ok (.aload_n 0, 1) := by decide +kernel
theorem dX11_board_37 : decode cX11_board 37 = .ok (.getfield 12, 3) := by decide +kernel
theorem dX11_board_40 : decode cX11_board 40 = .ok (.iconst 0, 1) := by decide +kernel
theorem dX11_board_41 : decode cX11_board 41 = .ok (.putfield 60, 3) := by decide +kernel
theorem dX11_board_44 : decode cX11_board 44 = .ok (.iload_n 1, 1) := by decide +kernel
theorem dX11_board_45 : decode cX11_board 45 = .ok (.ifCond .ne 14, 3) := by decide +kernel
theorem dX11_board_48 : decode cX11_board 48 = .ok (.bipush (-10), 2) := by decide +kernel
theorem dX11_board_50 : decode cX11_board 50 = .ok (.aload_n 0, 1) := by decide +kernel
theorem dX11_board_51 : decode cX11_board 51 = .ok (.getfield 31, 3) := by decide +kernel
theorem dX11_board_54 : decode cX11_board 54 = .ok (.getfield 75, 3) := by decide +kernel
theorem dX11_board_57 : decode cX11_board 57 = .ok (.isub, 1) := by decide +kernel
theorem dX11_board_58 : decode cX11_board 58 = .ok (.ireturn, 1) := by decide +kernel
theorem dX11_board_59 : decode cX11_board 59 = .ok (.aload_n 0, 1) := by decide +kernel
theorem dX11_board_60 : decode cX11_board 60 = .ok (.getfield 12, 3) := by decide +kernel
theorem dX11_board_63 : decode cX11_board 63 = .ok (.getfield 78, 3) := by decide +kernel
theorem dX11_board_66 : decode cX11_board 66 = .ok (.aload_n 0, 1) := by decide +kernel
theorem dX11_board_67 : decode cX11_board 67 = .ok (.getfield 31, 3) := by decide +kernel
theorem dX11_board_70 : decode cX11_board 70 = .ok (.invokevirtual 81, 3) := by decide +kernel
theorem dX11_board_73 : decode cX11_board 73 = .ok (.aload_n 0, 1) := by decide +kernel
theorem dX11_board_74 : decode cX11_board 74 = .ok (.getfield 12, 3) := by decide +kernel
theorem dX11_board_77 : decode cX11_board 77 = .ok (.dup, 1) := by decide +kernel
theorem dX11_board_78 : decode cX11_board 78 = .ok (.getfield 68, 3) := by decide +kernel
theorem dX11_board_81 : decode cX11_board 81 = .ok (.iconst 1, 1) := by decide +kernel
theorem dX11_board_82 : decode cX11_board 82 = .ok (.iadd, 1) := by decide +kernel
theorem dX11_board_83 : decode cX11_board 83 = .ok (.putfield 68, 3) := by decide +kernel
theorem dX11_board_86 : decode cX11_board 86 = .ok (.aload_n 0, 1) := by decide +kernel
theorem dX11_board_87 : decode cX11_board 87 = .ok (.getfield 12, 3) := by decide +kernel
theorem dX11_board_90 : decode cX11_board 90 = .ok (.getfield 68, 3) := by decide +kernel
theorem dX11_board_93 : decode cX11_board 93 = .ok (.iconst 1, 1) := by decide +kernel
theorem dX11_board_94 : decode cX11_board 94 = .ok (.isub, 1) := by decide +kernel
theorem dX11_board_95 : decode cX11_board 95 = .ok (.ireturn, 1) := by decide +kernel
theorem hd_X11_board : yX11_board.cls = RX11 ∧ yX11_board.cls ≠ "java/lang/invoke/MethodHandle" ∧ yX11_board.cls ≠ "java/lang/invoke/VarHandle" ∧ (parseMethodDescriptor yX11_board.desc).map (fun d => d.parameters.length) = some 0 := by decide +kernel
abbrev rm_X11_board : Room := { frames := 3, cells := 0, slots := 0, locals := 81 }
def F_X11_board  (σ : SG) (ρ : RG) : Option (Int32 × SG × RG) :=
  if (σ 1 4) < (5 : Int32) then
    bn3 (F_X0_readFrom_29 (σ 1 6) σ ρ) fun r2 σ2 ρ2 =>
    nm (s2 σ2 1 6 (0 : Int32)) fun σ4 =>
    if r2 = 0 then
      nm ((-10 : Int32) - (σ4 29 10)) fun x11 =>
      some (x11, σ4, ρ2)
    else
      bn (F_X0_takes_5_29 σ4 ρ2) fun σ6 =>
      nm ((σ6 1 4) + (1 : Int32)) fun x7 =>
      nm (s2 σ6 1 4 x7) fun σ9 =>
      nm ((σ9 1 4) - (1 : Int32)) fun x10 =>
      some (x10, σ9, ρ2)
  else
    some ((-4 : Int32), σ, ρ)
set_option maxHeartbeats 4000000 in
set_option maxRecDepth 100000 in
theorem w_X11_board_0  {p : Program} {e : Env} {s : State} {m : MethodId} {args : Array Value} {below : List Frame} {meth : Method} {c : Code} {r : Int32} {σ1 : SG} {ρ1 : RG} (C : Cx Y D N ad p s m args meth c cX11_board 2 (some .int) RX11 wsL_law) {σ : SG} {ρ : RG} {H : Heap} {locs : List Loc} {ls : Array Slot} (hL : Lay N K len ρ) (hF : F_X11_board σ ρ = some (r, σ1, ρ1)) (hP : WP Y D N ad K len σ ρ H) (hS : va_S (AA N ad s.heap.size) s.heap H locs) (hl : lv_has ls 2 [(0, .ref (ad 0))]) : W p l e rm_X11_board s m args below meth c H locs 0 0 (MQ below (QW Y D N ad K len σ1 ρ1 (AA N ad s.heap.size) (some (.int r))) args s 0 0 (AA N ad s.heap.size)) (F0 m 0 ls []) := by
  have hx := C.1.1
  have hb := C.1.2.1
  unfold F_X11_board at hF
  refine lv_aload_n hx hb dX11_board_0 rfl (lv_at hl 0 rfl) ?_
  refine get_11_0 C hP (lr_0 hL) (lk_0 hL) inlX11 mw_15 (lf_0_0 hL) dX11_board_1 ?_
  refine get_8_4 C hP (lr_1 hL) (lk_1 hL) inlX8 mw_111 dX11_board_4 ?_
  refine lv_iconst (v := 5) hx hb dX11_board_7 (by decide) ?_
  refine lv_icmp_lt (tgt := 14) hx hb dX11_board_8 (by decide) (fun c_1 => ?_) (fun c_1 => ?_) -- COND 1 by_cases c_1 : (σ 1 4) < (5 : Int32)
  · have hF := ite_t hF c_1
    refine lv_aload_n hx hb dX11_board_14 rfl (lv_at hl 0 rfl) ?_
    refine get_11_4 C hP (lr_0 hL) (lk_0 hL) inlX11 mw_24 (lf_0_4 hL) dX11_board_15 ?_
    refine lv_aload_n hx hb dX11_board_18 rfl (lv_at hl 0 rfl) ?_
    refine get_11_0 C hP (lr_0 hL) (lk_0 hL) inlX11 mw_15 (lf_0_0 hL) dX11_board_19 ?_
    refine get_8_5 C hP (lr_1 hL) (lk_1 hL) inlX8 mw_96 (lf_1_5 hL) dX11_board_22 ?_
    refine lv_aload_n hx hb dX11_board_25 rfl (lv_at hl 0 rfl) ?_
    refine get_11_0 C hP (lr_0 hL) (lk_0 hL) inlX11 mw_15 (lf_0_0 hL) dX11_board_26 ?_
    refine get_8_6 C hP (lr_1 hL) (lk_1 hL) inlX8 mw_95 dX11_board_29 ?_
    obtain ⟨r2, σ2, ρ2, hq2, hF⟩ := bn3_1 hF
    refine x_callV (ci := 0) rfl rfl C hP hS (c_X0_readFrom_29 hL hq2) (lr_29 hL) (lk_29 hL) (cwV 2 C.1.2.2.2.2 (gdV mw_114 mw_115 mw_116 mw_23 mw_117) rfl rfl rfl hd_X0_readFrom ⟨Nat.le_of_ble_eq_true rfl, Nat.le_of_ble_eq_true rfl⟩) rfl rfl hl.1 (Nat.le_of_ble_eq_true rfl) ⟨Nat.zero_le _, Nat.zero_le _⟩ dX11_board_32 (fun H locs hP hS => ?_)
    have hL : Lay N K len ρ2 := k_X0_readFrom_29 hL hq2
    refine lv_istore_n (lv' := [(1, .int r2), (0, .ref (ad 0))]) hx hb dX11_board_35 rfl hl (by decide) rfl (fun ls hl => ?_)
    refine lv_aload_n hx hb dX11_board_36 rfl (lv_at hl 1 rfl) ?_
    refine get_11_0 C hP (lr_0 hL) (lk_0 hL) inlX11 mw_15 (lf_0_0 hL) dX11_board_37 ?_
    refine lv_iconst (v := 0) hx hb dX11_board_40 (by decide) ?_
    obtain ⟨σ4, eσ4, hF⟩ := nm_1 hF
    refine put_8_6 C hP hS (lr_1 hL) (lk_1 hL) inlX8 mw_95 eσ4 dX11_board_41 (fun H locs hP hS => ?_)
    refine lv_iload_n hx hb dX11_board_44 rfl (lv_at hl 0 rfl) ?_
    refine lv_if_ne (tgt := 59) hx hb dX11_board_45 (by decide) (fun c_5 => ?_) (fun c_5 => ?_) -- COND 5 rcases (Decidable.em (r2 = 0)).symm with c_5 | c_5
    · have hF := ite_f hF c_5
      refine lv_aload_n hx hb dX11_board_59 rfl (lv_at hl 1 rfl) ?_
      refine get_11_0 C hP (lr_0 hL) (lk_0 hL) inlX11 mw_15 (lf_0_0 hL) dX11_board_60 ?_
      refine get_8_3 C hP (lr_1 hL) (lk_1 hL) inlX8 mw_113 (lf_1_3 hL) dX11_board_63 ?_
      refine lv_aload_n hx hb dX11_board_66 rfl (lv_at hl 1 rfl) ?_
      refine get_11_4 C hP (lr_0 hL) (lk_0 hL) inlX11 mw_24 (lf_0_4 hL) dX11_board_67 ?_
      obtain ⟨σ6, hq6, hF⟩ := bn_1 hF
      refine x_callV (ci := 0) rfl rfl C hP hS (c_X0_takes_5_29 hL hq6) (lr_5 hL) (lk_5 hL) (cwV 1 C.1.2.2.2.2 (gdV mw_281 mw_282 mw_283 mw_23 mw_284) rfl rfl rfl hd_X0_takes ⟨Nat.le_of_ble_eq_true rfl, Nat.le_of_ble_eq_true rfl⟩) rfl rfl hl.1 (Nat.le_of_ble_eq_true rfl) ⟨Nat.zero_le _, Nat.zero_le _⟩ dX11_board_70 (fun H locs hP hS => ?_)
      refine lv_aload_n hx hb dX11_board_73 rfl (lv_at hl 1 rfl) ?_
      refine get_11_0 C hP (lr_0 hL) (lk_0 hL) inlX11 mw_15 (lf_0_0 hL) dX11_board_74 ?_
      refine lv_dup hx hb dX11_board_77 rfl ?_
      refine get_8_4 C hP (lr_1 hL) (lk_1 hL) inlX8 mw_111 dX11_board_78 ?_
      refine lv_iconst (v := 1) hx hb dX11_board_81 (by decide) ?_
      refine lv_iadd hx hb dX11_board_82 ?_
      obtain ⟨x7, ex7, hF⟩ := nm_1 hF
      refine x_top ex7 ?_
      obtain ⟨σ9, eσ9, hF⟩ := nm_1 hF
      refine put_8_4 C hP hS (lr_1 hL) (lk_1 hL) inlX8 mw_111 eσ9 dX11_board_83 (fun H locs hP hS => ?_)
      refine lv_aload_n hx hb dX11_board_86 rfl (lv_at hl 1 rfl) ?_
      refine get_11_0 C hP (lr_0 hL) (lk_0 hL) inlX11 mw_15 (lf_0_0 hL) dX11_board_87 ?_
      refine get_8_4 C hP (lr_1 hL) (lk_1 hL) inlX8 mw_111 dX11_board_90 ?_
      refine lv_iconst (v := 1) hx hb dX11_board_93 (by decide) ?_
      refine lv_isub hx hb dX11_board_94 ?_
      obtain ⟨x10, ex10, hF⟩ := nm_1 hF
      refine x_top ex10 ?_
      obtain ⟨rfl, rfl, rfl⟩ := ret_3 hF
      exact x_iret rfl C hP hS dX11_board_95
    · have hF := ite_t hF c_5
      refine lv_bipush (v := -10) hx hb dX11_board_48 (by decide +kernel) ?_
      refine lv_aload_n hx hb dX11_board_50 rfl (lv_at hl 1 rfl) ?_
      refine get_11_4 C hP (lr_0 hL) (lk_0 hL) inlX11 mw_24 (lf_0_4 hL) dX11_board_51 ?_
      refine get_0_10 C hP (lr_29 hL) (lk_29 hL) inlX0 mw_112 dX11_board_54 ?_
      refine lv_isub hx hb dX11_board_57 ?_
      obtain ⟨x11, ex11, hF⟩ := nm_1 hF
      refine x_top ex11 ?_
      obtain ⟨rfl, rfl, rfl⟩ := ret_3 hF
      exact x_iret rfl C hP hS dX11_board_58
  · have hF := ite_f hF c_1
    refine lv_bipush (v := -4) hx hb dX11_board_11 (by decide +kernel) ?_
    obtain ⟨rfl, rfl, rfl⟩ := ret_3 hF
    exact x_iret rfl C hP hS dX11_board_13
theorem k_X11_board_0  {r : Int32} {σ1 : SG} {ρ1 : RG} {σ : SG} {ρ : RG} (hL : Lay N K len ρ) (hF : F_X11_board σ ρ = some (r, σ1, ρ1)) : Lay N K len ρ1 := by
  unfold F_X11_board at hF
  by_cases c_1 : (σ 1 4) < (5 : Int32)
  · have hF := ite_t hF c_1
    obtain ⟨r2, σ2, ρ2, hq2, hF⟩ := bn3_1 hF
    have hL : Lay N K len ρ2 := k_X0_readFrom_29 hL hq2
    obtain ⟨σ4, eσ4, hF⟩ := nm_1 hF
    rcases (Decidable.em (r2 = 0)).symm with c_5 | c_5
    · have hF := ite_f hF c_5
      obtain ⟨σ6, hq6, hF⟩ := bn_1 hF
      obtain ⟨x7, ex7, hF⟩ := nm_1 hF
      obtain ⟨σ9, eσ9, hF⟩ := nm_1 hF
      obtain ⟨x10, ex10, hF⟩ := nm_1 hF
      obtain ⟨rfl, rfl, rfl⟩ := ret_3 hF
      exact hL
    · have hF := ite_t hF c_5
      obtain ⟨x11, ex11, hF⟩ := nm_1 hF
      obtain ⟨rfl, rfl, rfl⟩ := ret_3 hF
      exact hL
  · have hF := ite_f hF c_1
    obtain ⟨rfl, rfl, rfl⟩ := ret_3 hF
    exact hL
theorem kr_X11_board_0  {r : Int32} {σ1 : SG} {ρ1 : RG} {σ : SG} {ρ : RG} (hL : Lay N K len ρ) (hR : RC N ρ) (hF : F_X11_board σ ρ = some (r, σ1, ρ1)) : RC N ρ1 := by
  unfold F_X11_board at hF
  by_cases c_1 : (σ 1 4) < (5 : Int32)
  · have hF := ite_t hF c_1
    obtain ⟨r2, σ2, ρ2, hq2, hF⟩ := bn3_1 hF
    have hR : RC N ρ2 := kr_X0_readFrom_29 hL hR hq2
    have hL : Lay N K len ρ2 := k_X0_readFrom_29 hL hq2
    obtain ⟨σ4, eσ4, hF⟩ := nm_1 hF
    rcases (Decidable.em (r2 = 0)).symm with c_5 | c_5
    · have hF := ite_f hF c_5
      obtain ⟨σ6, hq6, hF⟩ := bn_1 hF
      obtain ⟨x7, ex7, hF⟩ := nm_1 hF
      obtain ⟨σ9, eσ9, hF⟩ := nm_1 hF
      obtain ⟨x10, ex10, hF⟩ := nm_1 hF
      obtain ⟨rfl, rfl, rfl⟩ := ret_3 hF
      exact hR
    · have hF := ite_t hF c_5
      obtain ⟨x11, ex11, hF⟩ := nm_1 hF
      obtain ⟨rfl, rfl, rfl⟩ := ret_3 hF
      exact hR
  · have hF := ite_f hF c_1
    obtain ⟨rfl, rfl, rfl⟩ := ret_3 hF
    exact hR
set_option maxHeartbeats 4000000 in
set_option maxRecDepth 100000 in
theorem c_X11_board  {r : Int32} {σ1 : SG} {ρ1 : RG} {σ : SG} {ρ : RG} (hL : Lay N K len ρ) (hF : F_X11_board σ ρ = some (r, σ1, ρ1)) : MT l Y D N ad K len yX11_board (Cond.code yX11_board cX11_board 2 (some .int) :: wsL_law) rm_X11_board [.ref (ad 0)] σ ρ (some (.int r)) σ1 ρ1 := by
  refine mt_of (cc := cX11_board) (nL := 2) (ret := (some .int)) (by decide) (Nat.le_of_ble_eq_true rfl) ?_
  intro p e s m args below meth c ls C hnm hP hS hl
  exact w_X11_board_0 C hL hF hP hS hl
theorem k_X11_board  {r : Int32} {σ1 : SG} {ρ1 : RG} {σ : SG} {ρ : RG} (hL : Lay N K len ρ) (hF : F_X11_board σ ρ = some (r, σ1, ρ1)) : Lay N K len ρ1 := k_X11_board_0 hL hF
theorem kr_X11_board  {r : Int32} {σ1 : SG} {ρ1 : RG} {σ : SG} {ρ : RG} (hL : Lay N K len ρ) (hR : RC N ρ) (hF : F_X11_board σ ρ = some (r, σ1, ρ1)) : RC N ρ1 := kr_X11_board_0 hL hR hF

/-! CutCrooked.public int of(int, int);  -/
theorem dX11_of_0 : decode cX11_of 0 = .ok (.aload_n 0, 1) := by decide +kernel
theorem dX11_of_1 : decode cX11_of 1 = .ok (.getfield 12, 3) := by decide +kernel
theorem dX11_of_4 : decode cX11_of 4 = .ok (.iload_n 1, 1) := by decide +kernel
theorem dX11_of_5 : decode cX11_of 5 = .ok (.invokevirtual 100, 3) := by decide +kernel
theorem dX11_of_8 : decode cX11_of 8 = .ok (.astore_n 3, 1) := by decide +kernel
theorem dX11_of_9 : decode cX11_of 9 = .ok (.aload_n 3, 1) := by decide +kernel
theorem dX11_of_10 : decode cX11_of 10 = .ok (.ifnonnull 7, 3) := by decide +kernel
theorem dX11_of_13 : decode cX11_of 13 = .ok (.sipush (-10001), 3) := by decide +kernel
theorem dX11_of_16 : decode cX11_of 16 = .ok (.ireturn, 1) := by decide +kernel
theorem hd_X11_of : yX11_of.cls = RX11 ∧ yX11_of.cls ≠ "java/lang/invoke/MethodHandle" ∧ yX11_of.cls ≠ "java/lang/invoke/VarHandle" ∧ (parseMethodDescriptor yX11_of.desc).map (fun d => d.parameters.length) = some 2 := by decide +kernel
abbrev rm_X11_of : Room := { frames := 1, cells := 0, slots := 0, locals := 21 }
def F_X11_of (a1 : Int32) (a2 : Int32) (σ : SG) (ρ : RG) : Option (Int32) :=
  bn (F_X8_cutterAt_1 a1 σ ρ) fun o1 =>
  oc o1
   (
    some (-10001 : Int32))
   (fun c2 =>
    none /- none: some -/)
set_option maxHeartbeats 4000000 in
set_option maxRecDepth 100000 in
theorem w_X11_of_0 {a1 : Int32} {a2 : Int32} {p : Program} {e : Env} {s : State} {m : MethodId} {args : Array Value} {below : List Frame} {meth : Method} {c : Code} {σ0 : SG} {ρ0 : RG} {r : Int32} (C : Cx Y D N ad p s m args meth c cX11_of 4 (some .int) RX11 wsL_law) {σ : SG} {ρ : RG} {H : Heap} {locs : List Loc} {ls : Array Slot} (hσ0 : σ = σ0) (hρ0 : ρ = ρ0) (hL : Lay N K len ρ) (hF : F_X11_of a1 a2 σ ρ = some r) (hP : WP Y D N ad K len σ ρ H) (hS : va_S (AA N ad s.heap.size) s.heap H locs) (hl : lv_has ls 4 [(0, .ref (ad 0)), (1, .int a1), (2, .int a2)]) : W p l e rm_X11_of s m args below meth c H locs 0 0 (MQ below (QW Y D N ad K len σ0 ρ0 (AA N ad s.heap.size) (some (.int r))) args s 0 0 (AA N ad s.heap.size)) (F0 m 0 ls []) := by
  have hx := C.1.1
  have hb := C.1.2.1
  unfold F_X11_of at hF
  refine lv_aload_n hx hb dX11_of_0 rfl (lv_at hl 0 rfl) ?_
  refine get_11_0 C hP (lr_0 hL) (lk_0 hL) inlX11 mw_15 (lf_0_0 hL) dX11_of_1 ?_
  refine lv_iload_n hx hb dX11_of_4 rfl (lv_at hl 1 rfl) ?_
  obtain ⟨o1, hq1, hF⟩ := bn_1 hF
  refine x_callV (ci := 8) rfl rfl C hP hS (c_X8_cutterAt_1 hL hq1) (lr_1 hL) (lk_1 hL) (cwV 1 C.1.2.2.2.2 (gdV mw_428 mw_429 mw_430 mw_14 mw_431) rfl rfl rfl hd_X8_cutterAt ⟨Nat.le_of_ble_eq_true rfl, Nat.le_of_ble_eq_true rfl⟩) rfl rfl hl.1 (Nat.le_of_ble_eq_true rfl) ⟨Nat.zero_le _, Nat.zero_le _⟩ dX11_of_5 (fun H locs hP hS => ?_)
  rcases ho2 : o1 with _ | c2
  · have hF := oc_n hF ho2
    refine x_n ?_
    refine lv_astore_nN (lv' := [(3, .null), (0, .ref (ad 0)), (1, .int a1), (2, .int a2)]) hx hb dX11_of_8 rfl hl (by decide) rfl (fun ls hl => ?_)
    refine lv_aload_nN hx hb dX11_of_9 rfl (lv_at hl 0 rfl) ?_
    refine lv_ifnonnullN hx hb dX11_of_10 ?_
    refine lv_sipush (v := -10001) hx hb dX11_of_13 (by decide +kernel) ?_
    obtain rfl := ret_1 hF
    subst hσ0
    subst hρ0
    exact x_iret rfl C hP hS dX11_of_16
  · have hF := oc_s hF ho2
    refine x_s ?_
    cases hF
set_option maxHeartbeats 4000000 in
set_option maxRecDepth 100000 in
theorem c_X11_of {a1 : Int32} {a2 : Int32} {r : Int32} {σ : SG} {ρ : RG} (hL : Lay N K len ρ) (hF : F_X11_of a1 a2 σ ρ = some r) : MT l Y D N ad K len yX11_of (Cond.code yX11_of cX11_of 4 (some .int) :: wsL_law) rm_X11_of [.ref (ad 0), .int a1, .int a2] σ ρ (some (.int r)) σ ρ := by
  refine mt_of (cc := cX11_of) (nL := 4) (ret := (some .int)) (by decide) (Nat.le_of_ble_eq_true rfl) ?_
  intro p e s m args below meth c ls C hnm hP hS hl
  exact w_X11_of_0 C rfl rfl hL hF hP hS hl

/-! CutCrooked.public int thick(int, int);  -/
theorem dX11_thick_0 : decode cX11_thick 0 = .ok (.aload_n 0, 1) := by decide +kernel
theorem dX11_thick_1 : decode cX11_thick 1 = .ok (.getfield 12, 3) := by decide +kernel
theorem dX11_thick_4 : decode cX11_thick 4 = .ok (.iload_n 1, 1) := by decide +kernel
theorem dX11_thick_5 : decode cX11_thick 5 = .ok (.invokevirtual 100, 3) := by decide +kernel
theorem dX11_thick_8 : decode cX11_thick 8 = .ok (.astore_n 3, 1) := by decide +kernel
theorem dX11_thick_9 : decode cX11_thick 9 = .ok (.aload_n 3, 1) := by decide +kernel
theorem dX11_thick_10 : decode cX11_thick 10 = .ok (.ifnonnull 5, 3) := by decide +kernel
theorem dX11_thick_13 : decode cX11_thick 13 = .ok (.iconst (-1), 1) := by decide +kernel
theorem dX11_thick_14 : decode cX11_thick 14 = .ok (.ireturn, 1) := by decide +kernel
theorem hd_X11_thick : yX11_thick.cls = RX11 ∧ yX11_thick.cls ≠ "java/lang/invoke/MethodHandle" ∧ yX11_thick.cls ≠ "java/lang/invoke/VarHandle" ∧ (parseMethodDescriptor yX11_thick.desc).map (fun d => d.parameters.length) = some 2 := by decide +kernel
abbrev rm_X11_thick : Room := { frames := 1, cells := 0, slots := 0, locals := 21 }
def F_X11_thick (a1 : Int32) (a2 : Int32) (σ : SG) (ρ : RG) : Option (Int32) :=
  bn (F_X8_cutterAt_1 a1 σ ρ) fun o1 =>
  oc o1
   (
    some (-1 : Int32))
   (fun c2 =>
    none /- none: some -/)
set_option maxHeartbeats 4000000 in
set_option maxRecDepth 100000 in
theorem w_X11_thick_0 {a1 : Int32} {a2 : Int32} {p : Program} {e : Env} {s : State} {m : MethodId} {args : Array Value} {below : List Frame} {meth : Method} {c : Code} {σ0 : SG} {ρ0 : RG} {r : Int32} (C : Cx Y D N ad p s m args meth c cX11_thick 5 (some .int) RX11 wsL_law) {σ : SG} {ρ : RG} {H : Heap} {locs : List Loc} {ls : Array Slot} (hσ0 : σ = σ0) (hρ0 : ρ = ρ0) (hL : Lay N K len ρ) (hF : F_X11_thick a1 a2 σ ρ = some r) (hP : WP Y D N ad K len σ ρ H) (hS : va_S (AA N ad s.heap.size) s.heap H locs) (hl : lv_has ls 5 [(0, .ref (ad 0)), (1, .int a1), (2, .int a2)]) : W p l e rm_X11_thick s m args below meth c H locs 0 0 (MQ below (QW Y D N ad K len σ0 ρ0 (AA N ad s.heap.size) (some (.int r))) args s 0 0 (AA N ad s.heap.size)) (F0 m 0 ls []) := by
  have hx := C.1.1
  have hb := C.1.2.1
  unfold F_X11_thick at hF
  refine lv_aload_n hx hb dX11_thick_0 rfl (lv_at hl 0 rfl) ?_
  refine get_11_0 C hP (lr_0 hL) (lk_0 hL) inlX11 mw_15 (lf_0_0 hL) dX11_thick_1 ?_
  refine lv_iload_n hx hb dX11_thick_4 rfl (lv_at hl 1 rfl) ?_
  obtain ⟨o1, hq1, hF⟩ := bn_1 hF
  refine x_callV (ci := 8) rfl rfl C hP hS (c_X8_cutterAt_1 hL hq1) (lr_1 hL) (lk_1 hL) (cwV 1 C.1.2.2.2.2 (gdV mw_428 mw_429 mw_430 mw_14 mw_431) rfl rfl rfl hd_X8_cutterAt ⟨Nat.le_of_ble_eq_true rfl, Nat.le_of_ble_eq_true rfl⟩) rfl rfl hl.1 (Nat.le_of_ble_eq_true rfl) ⟨Nat.zero_le _, Nat.zero_le _⟩ dX11_thick_5 (fun H locs hP hS => ?_)
  rcases ho2 : o1 with _ | c2
  · have hF := oc_n hF ho2
    refine x_n ?_
    refine lv_astore_nN (lv' := [(3, .null), (0, .ref (ad 0)), (1, .int a1), (2, .int a2)]) hx hb dX11_thick_8 rfl hl (by decide) rfl (fun ls hl => ?_)
    refine lv_aload_nN hx hb dX11_thick_9 rfl (lv_at hl 0 rfl) ?_
    refine lv_ifnonnullN hx hb dX11_thick_10 ?_
    refine lv_iconst (v := -1) hx hb dX11_thick_13 (by decide) ?_
    obtain rfl := ret_1 hF
    subst hσ0
    subst hρ0
    exact x_iret rfl C hP hS dX11_thick_14
  · have hF := oc_s hF ho2
    refine x_s ?_
    cases hF
set_option maxHeartbeats 4000000 in
set_option maxRecDepth 100000 in
theorem c_X11_thick {a1 : Int32} {a2 : Int32} {r : Int32} {σ : SG} {ρ : RG} (hL : Lay N K len ρ) (hF : F_X11_thick a1 a2 σ ρ = some r) : MT l Y D N ad K len yX11_thick (Cond.code yX11_thick cX11_thick 5 (some .int) :: wsL_law) rm_X11_thick [.ref (ad 0), .int a1, .int a2] σ ρ (some (.int r)) σ ρ := by
  refine mt_of (cc := cX11_thick) (nL := 5) (ret := (some .int)) (by decide) (Nat.le_of_ble_eq_true rfl) ?_
  intro p e s m args below meth c ls C hnm hP hS hl
  exact w_X11_thick_0 C rfl rfl hL hF hP hS hl

/-! CutCrooked.public int row(int, int, int);  -/
theorem dX11_row_0 : decode cX11_row 0 = .ok (.aload_n 0, 1) := by decide +kernel
theorem dX11_row_1 : decode cX11_row 1 = .ok (.getfield 12, 3) := by decide +kernel
theorem dX11_row_4 : decode cX11_row 4 = .ok (.iload_n 1, 1) := by decide +kernel
theorem dX11_row_5 : decode cX11_row 5 = .ok (.invokevirtual 100, 3) := by decide +kernel
theorem dX11_row_8 : decode cX11_row 8 = .ok (.astore 4, 2) := by decide +kernel
theorem dX11_row_10 : decode cX11_row 10 = .ok (.aload 4, 2) := by decide +kernel
theorem dX11_row_12 : decode cX11_row 12 = .ok (.ifnull 12, 3) := by decide +kernel
theorem dX11_row_24 : decode cX11_row 24 = .ok (.iconst (-1), 1) := by decide +kernel
theorem dX11_row_25 : decode cX11_row 25 = .ok (.ireturn, 1) := by decide +kernel
theorem hd_X11_row : yX11_row.cls = RX11 ∧ yX11_row.cls ≠ "java/lang/invoke/MethodHandle" ∧ yX11_row.cls ≠ "java/lang/invoke/VarHandle" ∧ (parseMethodDescriptor yX11_row.desc).map (fun d => d.parameters.length) = some 3 := by decide +kernel
abbrev rm_X11_row : Room := { frames := 1, cells := 0, slots := 0, locals := 21 }
def F_X11_row (a1 : Int32) (a2 : Int32) (a3 : Int32) (σ : SG) (ρ : RG) : Option (Int32) :=
  bn (F_X8_cutterAt_1 a1 σ ρ) fun o1 =>
  oc o1
   (
    some (-1 : Int32))
   (fun c2 =>
    none /- none: some -/)
set_option maxHeartbeats 4000000 in
set_option maxRecDepth 100000 in
theorem w_X11_row_0 {a1 : Int32} {a2 : Int32} {a3 : Int32} {p : Program} {e : Env} {s : State} {m : MethodId} {args : Array Value} {below : List Frame} {meth : Method} {c : Code} {σ0 : SG} {ρ0 : RG} {r : Int32} (C : Cx Y D N ad p s m args meth c cX11_row 7 (some .int) RX11 wsL_law) {σ : SG} {ρ : RG} {H : Heap} {locs : List Loc} {ls : Array Slot} (hσ0 : σ = σ0) (hρ0 : ρ = ρ0) (hL : Lay N K len ρ) (hF : F_X11_row a1 a2 a3 σ ρ = some r) (hP : WP Y D N ad K len σ ρ H) (hS : va_S (AA N ad s.heap.size) s.heap H locs) (hl : lv_has ls 7 [(0, .ref (ad 0)), (1, .int a1), (2, .int a2), (3, .int a3)]) : W p l e rm_X11_row s m args below meth c H locs 0 0 (MQ below (QW Y D N ad K len σ0 ρ0 (AA N ad s.heap.size) (some (.int r))) args s 0 0 (AA N ad s.heap.size)) (F0 m 0 ls []) := by
  have hx := C.1.1
  have hb := C.1.2.1
  unfold F_X11_row at hF
  refine lv_aload_n hx hb dX11_row_0 rfl (lv_at hl 0 rfl) ?_
  refine get_11_0 C hP (lr_0 hL) (lk_0 hL) inlX11 mw_15 (lf_0_0 hL) dX11_row_1 ?_
  refine lv_iload_n hx hb dX11_row_4 rfl (lv_at hl 1 rfl) ?_
  obtain ⟨o1, hq1, hF⟩ := bn_1 hF
  refine x_callV (ci := 8) rfl rfl C hP hS (c_X8_cutterAt_1 hL hq1) (lr_1 hL) (lk_1 hL) (cwV 1 C.1.2.2.2.2 (gdV mw_428 mw_429 mw_430 mw_14 mw_431) rfl rfl rfl hd_X8_cutterAt ⟨Nat.le_of_ble_eq_true rfl, Nat.le_of_ble_eq_true rfl⟩) rfl rfl hl.1 (Nat.le_of_ble_eq_true rfl) ⟨Nat.zero_le _, Nat.zero_le _⟩ dX11_row_5 (fun H locs hP hS => ?_)
  rcases ho2 : o1 with _ | c2
  · have hF := oc_n hF ho2
    refine x_n ?_
    refine lv_astoreN (lv' := [(4, .null), (0, .ref (ad 0)), (1, .int a1), (2, .int a2), (3, .int a3)]) hx hb dX11_row_8 hl (by decide) rfl (fun ls hl => ?_)
    refine lv_aloadN hx hb dX11_row_10 (lv_at hl 0 rfl) ?_
    refine lv_ifnullN (tgt := 24) hx hb dX11_row_12 (by decide) ?_
    refine lv_iconst (v := -1) hx hb dX11_row_24 (by decide) ?_
    obtain rfl := ret_1 hF
    subst hσ0
    subst hρ0
    exact x_iret rfl C hP hS dX11_row_25
  · have hF := oc_s hF ho2
    refine x_s ?_
    cases hF
set_option maxHeartbeats 4000000 in
set_option maxRecDepth 100000 in
theorem c_X11_row {a1 : Int32} {a2 : Int32} {a3 : Int32} {r : Int32} {σ : SG} {ρ : RG} (hL : Lay N K len ρ) (hF : F_X11_row a1 a2 a3 σ ρ = some r) : MT l Y D N ad K len yX11_row (Cond.code yX11_row cX11_row 7 (some .int) :: wsL_law) rm_X11_row [.ref (ad 0), .int a1, .int a2, .int a3] σ ρ (some (.int r)) σ ρ := by
  refine mt_of (cc := cX11_row) (nL := 7) (ret := (some .int)) (by decide) (Nat.le_of_ble_eq_true rfl) ?_
  intro p e s m args below meth c ls C hnm hP hS hl
  exact w_X11_row_0 C rfl rfl hL hF hP hS hl

/-! CutCrooked.public int loaf(int);  -/
theorem dX11_loaf_0 : decode cX11_loaf 0 = .ok (.iload_n 1, 1) := by decide +kernel
theorem dX11_loaf_1 : decode cX11_loaf 1 = .ok (.bipush 40, 2) := by decide +kernel
theorem dX11_loaf_3 : decode cX11_loaf 3 = .ok (.sipush 999, 3) := by decide +kernel
theorem dX11_loaf_6 : decode cX11_loaf 6 = .ok (.invokestatic 56, 3) := by decide +kernel
theorem dX11_loaf_9 : decode cX11_loaf 9 = .ok (.ifCond .ne 6, 3) := by decide +kernel
theorem dX11_loaf_12 : decode cX11_loaf 12 = .ok (.bipush (-2), 2) := by decide +kernel
theorem dX11_loaf_14 : decode cX11_loaf 14 = .ok (.ireturn, 1) := by decide +kernel
theorem dX11_loaf_15 : decode cX11_loaf 15 = .ok (.aload_n 0, 1) := by decide +kernel
theorem dX11_loaf_16 : decode cX11_loaf 16 = .ok (.getfield 12, 3) := by decide +kernel
theorem dX11_loaf_19 : decode cX11_loaf 19 = .ok (.getfield 130, 3) := by decide +kernel
theorem dX11_loaf_22 : decode cX11_loaf 22 = .ok (.getfield 133, 3) := by decide +kernel
theorem dX11_loaf_25 : decode cX11_loaf 25 = .ok (.istore_n 2, 1) := by decide +kernel
theorem dX11_loaf_26 : decode cX11_loaf 26 = .ok (.aload_n 0, 1) := by decide +kernel
theorem dX11_loaf_27 : decode cX11_loaf 27 = .ok (.getfield 12, 3) := by decide +kernel
theorem dX11_loaf_30 : decode cX11_loaf 30 = .ok (.getfield 130, 3) := by decide +kernel
theorem dX11_loaf_33 : decode cX11_loaf 33 = .ok (.iload_n 1, 1) := by decide +kernel
theorem dX11_loaf_34 : decode cX11_loaf 34 = .ok (.invokevirtual 136, 3) := by decide +kernel
theorem dX11_loaf_37 : decode cX11_loaf 37 = .ok (.iload_n 2, 1) := by decide +kernel
theorem dX11_loaf_38 : decode cX11_loaf 38 = .ok (.ireturn, 1) := by decide +kernel
theorem hd_X11_loaf : yX11_loaf.cls = RX11 ∧ yX11_loaf.cls ≠ "java/lang/invoke/MethodHandle" ∧ yX11_loaf.cls ≠ "java/lang/invoke/VarHandle" ∧ (parseMethodDescriptor yX11_loaf.desc).map (fun d => d.parameters.length) = some 1 := by decide +kernel
abbrev rm_X11_loaf : Room := { frames := 1, cells := 0, slots := 0, locals := 22 }
def F_X11_loaf (a1 : Int32) (σ : SG) (ρ : RG) : Option (Int32 × SG) :=
  bn (F_X11_isWithin a1 (40 : Int32) (999 : Int32) σ ρ) fun r1 =>
  if r1 = 0 then
    some ((-2 : Int32), σ)
  else
    bn (F_X3_startsAnew 3 a1 σ ρ) fun σ3 =>
    some ((σ 3 0), σ3)
set_option maxHeartbeats 4000000 in
set_option maxRecDepth 100000 in
theorem w_X11_loaf_0 {a1 : Int32} {p : Program} {e : Env} {s : State} {m : MethodId} {args : Array Value} {below : List Frame} {meth : Method} {c : Code} {ρ0 : RG} {r : Int32} {σ1 : SG} (C : Cx Y D N ad p s m args meth c cX11_loaf 3 (some .int) RX11 wsL_law) {σ : SG} {ρ : RG} {H : Heap} {locs : List Loc} {ls : Array Slot} (hρ0 : ρ = ρ0) (hL : Lay N K len ρ) (hF : F_X11_loaf a1 σ ρ = some (r, σ1)) (hP : WP Y D N ad K len σ ρ H) (hS : va_S (AA N ad s.heap.size) s.heap H locs) (hl : lv_has ls 3 [(0, .ref (ad 0)), (1, .int a1)]) : W p l e rm_X11_loaf s m args below meth c H locs 0 0 (MQ below (QW Y D N ad K len σ1 ρ0 (AA N ad s.heap.size) (some (.int r))) args s 0 0 (AA N ad s.heap.size)) (F0 m 0 ls []) := by
  have hx := C.1.1
  have hb := C.1.2.1
  unfold F_X11_loaf at hF
  refine lv_iload_n hx hb dX11_loaf_0 rfl (lv_at hl 1 rfl) ?_
  refine lv_bipush (v := 40) hx hb dX11_loaf_1 (by decide +kernel) ?_
  refine lv_sipush (v := 999) hx hb dX11_loaf_3 (by decide +kernel) ?_
  obtain ⟨r1, hq1, hF⟩ := bn_1 hF
  refine x_callS C hP hS (c_X11_isWithin hL hq1) (va_cwS 3 C.1.2.2.2.2 (gdS mw_97 mw_98 mw_2 mw_99) rfl rfl rfl hd_X11_isWithin.2 ⟨Nat.le_of_ble_eq_true rfl, Nat.le_of_ble_eq_true rfl⟩) rfl rfl hl.1 (Nat.le_of_ble_eq_true rfl) ⟨Nat.zero_le _, Nat.zero_le _⟩ dX11_loaf_6 (fun H locs hP hS => ?_)
  refine lv_if_ne (tgt := 15) hx hb dX11_loaf_9 (by decide) (fun c_2 => ?_) (fun c_2 => ?_) -- COND 2 rcases (Decidable.em (r1 = 0)).symm with c_2 | c_2
  · have hF := ite_f hF c_2
    refine lv_aload_n hx hb dX11_loaf_15 rfl (lv_at hl 0 rfl) ?_
    refine get_11_0 C hP (lr_0 hL) (lk_0 hL) inlX11 mw_15 (lf_0_0 hL) dX11_loaf_16 ?_
    refine get_8_2 C hP (lr_1 hL) (lk_1 hL) inlX8 mw_488 (lf_1_2 hL) dX11_loaf_19 ?_
    refine get_3_0 C hP (lr_3 hL) (lk_3 hL) inlX3 mw_489 dX11_loaf_22 ?_
    refine lv_istore_n (lv' := [(2, .int (σ 3 0)), (0, .ref (ad 0)), (1, .int a1)]) hx hb dX11_loaf_25 rfl hl (by decide) rfl (fun ls hl => ?_)
    refine lv_aload_n hx hb dX11_loaf_26 rfl (lv_at hl 1 rfl) ?_
    refine get_11_0 C hP (lr_0 hL) (lk_0 hL) inlX11 mw_15 (lf_0_0 hL) dX11_loaf_27 ?_
    refine get_8_2 C hP (lr_1 hL) (lk_1 hL) inlX8 mw_488 (lf_1_2 hL) dX11_loaf_30 ?_
    refine lv_iload_n hx hb dX11_loaf_33 rfl (lv_at hl 2 rfl) ?_
    obtain ⟨σ3, hq3, hF⟩ := bn_1 hF
    refine x_callV (ci := 3) rfl rfl C hP hS (c_X3_startsAnew trivial (il_3 hL) hq3) (lr_3 hL) (lk_3 hL) (cwV 1 C.1.2.2.2.2 (gdV mw_490 mw_64 mw_65 mw_31 mw_66) rfl rfl rfl hd_X3_startsAnew ⟨Nat.le_of_ble_eq_true rfl, Nat.le_of_ble_eq_true rfl⟩) rfl rfl hl.1 (Nat.le_of_ble_eq_true rfl) ⟨Nat.zero_le _, Nat.zero_le _⟩ dX11_loaf_34 (fun H locs hP hS => ?_)
    refine lv_iload_n hx hb dX11_loaf_37 rfl (lv_at hl 0 rfl) ?_
    obtain ⟨rfl, rfl⟩ := ret_2 hF
    subst hρ0
    exact x_iret rfl C hP hS dX11_loaf_38
  · have hF := ite_t hF c_2
    refine lv_bipush (v := -2) hx hb dX11_loaf_12 (by decide +kernel) ?_
    obtain ⟨rfl, rfl⟩ := ret_2 hF
    subst hρ0
    exact x_iret rfl C hP hS dX11_loaf_14
set_option maxHeartbeats 4000000 in
set_option maxRecDepth 100000 in
theorem c_X11_loaf {a1 : Int32} {r : Int32} {σ1 : SG} {σ : SG} {ρ : RG} (hL : Lay N K len ρ) (hF : F_X11_loaf a1 σ ρ = some (r, σ1)) : MT l Y D N ad K len yX11_loaf (Cond.code yX11_loaf cX11_loaf 3 (some .int) :: wsL_law) rm_X11_loaf [.ref (ad 0), .int a1] σ ρ (some (.int r)) σ1 ρ := by
  refine mt_of (cc := cX11_loaf) (nL := 3) (ret := (some .int)) (by decide) (Nat.le_of_ble_eq_true rfl) ?_
  intro p e s m args below meth c ls C hnm hP hS hl
  exact w_X11_loaf_0 C rfl hL hF hP hS hl

/-! CutCrooked.public int told(int);  -/
theorem dX11_told_0 : decode cX11_told 0 = .ok (.iload_n 1, 1) := by decide +kernel
theorem dX11_told_1 : decode cX11_told 1 = .ok (.tableswitch 135 0 7 #[47, 58, 69, 80, 91, 102, 113, 124], 47) := by decide +kernel
theorem dX11_told_48 : decode cX11_told 48 = .ok (.aload_n 0, 1) := by decide +kernel
theorem dX11_told_49 : decode cX11_told 49 = .ok (.getfield 12, 3) := by decide +kernel
theorem dX11_told_52 : decode cX11_told 52 = .ok (.getfield 130, 3) := by decide +kernel
theorem dX11_told_55 : decode cX11_told 55 = .ok (.getfield 133, 3) := by decide +kernel
theorem dX11_told_58 : decode cX11_told 58 = .ok (.ireturn, 1) := by decide +kernel
theorem dX11_told_59 : decode cX11_told 59 = .ok (.aload_n 0, 1) := by decide +kernel
theorem dX11_told_60 : decode cX11_told 60 = .ok (.getfield 12, 3) := by decide +kernel
theorem dX11_told_63 : decode cX11_told 63 = .ok (.getfield 130, 3) := by decide +kernel
theorem dX11_told_66 : decode cX11_told 66 = .ok (.getfield 140, 3) := by decide +kernel
theorem dX11_told_69 : decode cX11_told 69 = .ok (.ireturn, 1) := by decide +kernel
theorem dX11_told_70 : decode cX11_told 70 = .ok (.aload_n 0, 1) := by decide +kernel
theorem dX11_told_71 : decode cX11_told 71 = .ok (.getfield 12, 3) := by decide +kernel
theorem dX11_told_74 : decode cX11_told 74 = .ok (.getfield 130, 3) := by decide +kernel
theorem dX11_told_77 : decode cX11_told 77 = .ok (.getfield 141, 3) := by decide +kernel
theorem dX11_told_80 : decode cX11_told 80 = .ok (.ireturn, 1) := by decide +kernel
theorem dX11_told_81 : decode cX11_told 81 = .ok (.aload_n 0, 1) := by decide +kernel
theorem dX11_told_82 : decode cX11_told 82 = .ok (.getfield 12, 3) := by decide +kernel
theorem dX11_told_85 : decode cX11_told 85 = .ok (.getfield 130, 3) := by decide +kernel
theorem dX11_told_88 : decode cX11_told 88 = .ok (.getfield 144, 3) := by decide +kernel
theorem dX11_told_91 : decode cX11_told 91 = .ok (.ireturn, 1) := by decide +kernel
theorem dX11_told_92 : decode cX11_told 92 = .ok (.aload_n 0, 1) := by decide +kernel
theorem dX11_told_93 : decode cX11_told 93 = .ok (.getfield 12, 3) := by decide +kernel
theorem dX11_told_96 : decode cX11_told 96 = .ok (.getfield 130, 3) := by decide +kernel
theorem dX11_told_99 : decode cX11_told 99 = .ok (.getfield 147, 3) := by decide +kernel
theorem dX11_told_102 : decode cX11_told 102 = .ok (.ireturn, 1) := by decide +kernel
theorem dX11_told_103 : decode cX11_told 103 = .ok (.aload_n 0, 1) := by decide +kernel
theorem dX11_told_104 : decode cX11_told 104 = .ok (.getfield 12, 3) := by decide +kernel
theorem dX11_told_107 : decode cX11_told 107 = .ok (.getfield 130, 3) := by decide +kernel
theorem dX11_told_110 : decode cX11_told 110 = .ok (.getfield 150, 3) := by decide +kernel
theorem dX11_told_113 : decode cX11_told 113 = .ok (.ireturn, 1) := by decide +kernel
theorem dX11_told_114 : decode cX11_told 114 = .ok (.aload_n 0, 1) := by decide +kernel
theorem dX11_told_115 : decode cX11_told 115 = .ok (.getfield 12, 3) := by decide +kernel
theorem dX11_told_118 : decode cX11_told 118 = .ok (.getfield 78, 3) := by decide +kernel
theorem dX11_told_121 : decode cX11_told 121 = .ok (.getfield 153, 3) := by decide +kernel
theorem dX11_told_124 : decode cX11_told 124 = .ok (.ireturn, 1) := by decide +kernel
theorem dX11_told_125 : decode cX11_told 125 = .ok (.aload_n 0, 1) := by decide +kernel
theorem dX11_told_126 : decode cX11_told 126 = .ok (.getfield 12, 3) := by decide +kernel
theorem dX11_told_129 : decode cX11_told 129 = .ok (.getfield 78, 3) := by decide +kernel
theorem dX11_told_132 : decode cX11_told 132 = .ok (.getfield 156, 3) := by decide +kernel
theorem dX11_told_135 : decode cX11_told 135 = .ok (.ireturn, 1) := by decide +kernel
theorem dX11_told_136 : decode cX11_told 136 = .ok (.iload_n 1, 1) := by decide +kernel
theorem dX11_told_137 : decode cX11_told 137 = .ok (.bipush 10, 2) := by decide +kernel
theorem dX11_told_139 : decode cX11_told 139 = .ok (.bipush 13, 2) := by decide +kernel
theorem dX11_told_141 : decode cX11_told 141 = .ok (.invokestatic 56, 3) := by decide +kernel
theorem dX11_told_144 : decode cX11_told 144 = .ok (.ifCond .ne 7, 3) := by decide +kernel
theorem dX11_told_147 : decode cX11_told 147 = .ok (.sipush (-10001), 3) := by decide +kernel
theorem dX11_told_150 : decode cX11_told 150 = .ok (.ireturn, 1) := by decide +kernel
theorem dX11_told_151 : decode cX11_told 151 = .ok (.aload_n 0, 1) := by decide +kernel
theorem dX11_told_152 : decode cX11_told 152 = .ok (.getfield 12, 3) := by decide +kernel
theorem dX11_told_155 : decode cX11_told 155 = .ok (.getfield 130, 3) := by decide +kernel
theorem dX11_told_158 : decode cX11_told 158 = .ok (.iload_n 1, 1) := by decide +kernel
theorem dX11_told_159 : decode cX11_told 159 = .ok (.bipush 10, 2) := by decide +kernel
theorem dX11_told_161 : decode cX11_told 161 = .ok (.isub, 1) := by decide +kernel
theorem dX11_told_162 : decode cX11_told 162 = .ok (.invokevirtual 159, 3) := by decide +kernel
theorem dX11_told_165 : decode cX11_told 165 = .ok (.ireturn, 1) := by decide +kernel
theorem hd_X11_told : yX11_told.cls = RX11 ∧ yX11_told.cls ≠ "java/lang/invoke/MethodHandle" ∧ yX11_told.cls ≠ "java/lang/invoke/VarHandle" ∧ (parseMethodDescriptor yX11_told.desc).map (fun d => d.parameters.length) = some 1 := by decide +kernel
abbrev rm_X11_told : Room := { frames := 2, cells := 0, slots := 0, locals := 43 }
def F_X11_told (a1 : Int32) (σ : SG) (ρ : RG) : Option (Int32) :=
  if a1 = 0 then
    some (σ 3 0)
  else
    if a1 = 1 then
      some (σ 3 1)
    else
      if a1 = 2 then
        some (σ 3 2)
      else
        if a1 = 3 then
          some (σ 3 3)
        else
          if a1 = 4 then
            some (σ 3 4)
          else
            if a1 = 5 then
              some (σ 3 5)
            else
              if a1 = 6 then
                some (σ 5 0)
              else
                if a1 = 7 then
                  some (σ 5 1)
                else
                  bn (F_X11_isWithin a1 (10 : Int32) (13 : Int32) σ ρ) fun r2 =>
                  if r2 = 0 then
                    some (-10001 : Int32)
                  else
                    nm (a1 - (10 : Int32)) fun x4 =>
                    bn (F_X3_corner 3 x4 σ ρ) fun r5 =>
                    some r5
set_option maxHeartbeats 4000000 in
set_option maxRecDepth 100000 in
theorem w_X11_told_0 {a1 : Int32} {p : Program} {e : Env} {s : State} {m : MethodId} {args : Array Value} {below : List Frame} {meth : Method} {c : Code} {σ0 : SG} {ρ0 : RG} {r : Int32} (C : Cx Y D N ad p s m args meth c cX11_told 2 (some .int) RX11 wsL_law) {σ : SG} {ρ : RG} {H : Heap} {locs : List Loc} {ls : Array Slot} (hσ0 : σ = σ0) (hρ0 : ρ = ρ0) (hL : Lay N K len ρ) (hF : F_X11_told a1 σ ρ = some r) (hP : WP Y D N ad K len σ ρ H) (hS : va_S (AA N ad s.heap.size) s.heap H locs) (hl : lv_has ls 2 [(0, .ref (ad 0)), (1, .int a1)]) : W p l e rm_X11_told s m args below meth c H locs 0 0 (MQ below (QW Y D N ad K len σ0 ρ0 (AA N ad s.heap.size) (some (.int r))) args s 0 0 (AA N ad s.heap.size)) (F0 m 0 ls []) := by
  have hx := C.1.1
  have hb := C.1.2.1
  unfold F_X11_told at hF
  refine lv_iload_n hx hb dX11_told_0 rfl (lv_at hl 1 rfl) ?_
  by_cases cs1_0 : a1 = 0
  · have hF := ite_t hF cs1_0
    refine lv_tableIn (tgt := 48) hx hb dX11_told_1 (by rw [cs1_0]; decide) (by rw [cs1_0]; decide) (by rw [cs1_0]; rfl) (by decide) ?_
    refine lv_aload_n hx hb dX11_told_48 rfl (lv_at hl 0 rfl) ?_
    refine get_11_0 C hP (lr_0 hL) (lk_0 hL) inlX11 mw_15 (lf_0_0 hL) dX11_told_49 ?_
    refine get_8_2 C hP (lr_1 hL) (lk_1 hL) inlX8 mw_488 (lf_1_2 hL) dX11_told_52 ?_
    refine get_3_0 C hP (lr_3 hL) (lk_3 hL) inlX3 mw_489 dX11_told_55 ?_
    obtain rfl := ret_1 hF
    subst hσ0
    subst hρ0
    exact x_iret rfl C hP hS dX11_told_58
  · have hF := ite_f hF cs1_0
    by_cases cs1_1 : a1 = 1
    · have hF := ite_t hF cs1_1
      refine lv_tableIn (tgt := 59) hx hb dX11_told_1 (by rw [cs1_1]; decide) (by rw [cs1_1]; decide) (by rw [cs1_1]; rfl) (by decide) ?_
      refine lv_aload_n hx hb dX11_told_59 rfl (lv_at hl 0 rfl) ?_
      refine get_11_0 C hP (lr_0 hL) (lk_0 hL) inlX11 mw_15 (lf_0_0 hL) dX11_told_60 ?_
      refine get_8_2 C hP (lr_1 hL) (lk_1 hL) inlX8 mw_488 (lf_1_2 hL) dX11_told_63 ?_
      refine get_3_1 C hP (lr_3 hL) (lk_3 hL) inlX3 mw_499 dX11_told_66 ?_
      obtain rfl := ret_1 hF
      subst hσ0
      subst hρ0
      exact x_iret rfl C hP hS dX11_told_69
    · have hF := ite_f hF cs1_1
      by_cases cs1_2 : a1 = 2
      · have hF := ite_t hF cs1_2
        refine lv_tableIn (tgt := 70) hx hb dX11_told_1 (by rw [cs1_2]; decide) (by rw [cs1_2]; decide) (by rw [cs1_2]; rfl) (by decide) ?_
        refine lv_aload_n hx hb dX11_told_70 rfl (lv_at hl 0 rfl) ?_
        refine get_11_0 C hP (lr_0 hL) (lk_0 hL) inlX11 mw_15 (lf_0_0 hL) dX11_told_71 ?_
        refine get_8_2 C hP (lr_1 hL) (lk_1 hL) inlX8 mw_488 (lf_1_2 hL) dX11_told_74 ?_
        refine get_3_2 C hP (lr_3 hL) (lk_3 hL) inlX3 mw_500 dX11_told_77 ?_
        obtain rfl := ret_1 hF
        subst hσ0
        subst hρ0
        exact x_iret rfl C hP hS dX11_told_80
      · have hF := ite_f hF cs1_2
        by_cases cs1_3 : a1 = 3
        · have hF := ite_t hF cs1_3
          refine lv_tableIn (tgt := 81) hx hb dX11_told_1 (by rw [cs1_3]; decide) (by rw [cs1_3]; decide) (by rw [cs1_3]; rfl) (by decide) ?_
          refine lv_aload_n hx hb dX11_told_81 rfl (lv_at hl 0 rfl) ?_
          refine get_11_0 C hP (lr_0 hL) (lk_0 hL) inlX11 mw_15 (lf_0_0 hL) dX11_told_82 ?_
          refine get_8_2 C hP (lr_1 hL) (lk_1 hL) inlX8 mw_488 (lf_1_2 hL) dX11_told_85 ?_
          refine get_3_3 C hP (lr_3 hL) (lk_3 hL) inlX3 mw_501 dX11_told_88 ?_
          obtain rfl := ret_1 hF
          subst hσ0
          subst hρ0
          exact x_iret rfl C hP hS dX11_told_91
        · have hF := ite_f hF cs1_3
          by_cases cs1_4 : a1 = 4
          · have hF := ite_t hF cs1_4
            refine lv_tableIn (tgt := 92) hx hb dX11_told_1 (by rw [cs1_4]; decide) (by rw [cs1_4]; decide) (by rw [cs1_4]; rfl) (by decide) ?_
            refine lv_aload_n hx hb dX11_told_92 rfl (lv_at hl 0 rfl) ?_
            refine get_11_0 C hP (lr_0 hL) (lk_0 hL) inlX11 mw_15 (lf_0_0 hL) dX11_told_93 ?_
            refine get_8_2 C hP (lr_1 hL) (lk_1 hL) inlX8 mw_488 (lf_1_2 hL) dX11_told_96 ?_
            refine get_3_4 C hP (lr_3 hL) (lk_3 hL) inlX3 mw_502 dX11_told_99 ?_
            obtain rfl := ret_1 hF
            subst hσ0
            subst hρ0
            exact x_iret rfl C hP hS dX11_told_102
          · have hF := ite_f hF cs1_4
            by_cases cs1_5 : a1 = 5
            · have hF := ite_t hF cs1_5
              refine lv_tableIn (tgt := 103) hx hb dX11_told_1 (by rw [cs1_5]; decide) (by rw [cs1_5]; decide) (by rw [cs1_5]; rfl) (by decide) ?_
              refine lv_aload_n hx hb dX11_told_103 rfl (lv_at hl 0 rfl) ?_
              refine get_11_0 C hP (lr_0 hL) (lk_0 hL) inlX11 mw_15 (lf_0_0 hL) dX11_told_104 ?_
              refine get_8_2 C hP (lr_1 hL) (lk_1 hL) inlX8 mw_488 (lf_1_2 hL) dX11_told_107 ?_
              refine get_3_5 C hP (lr_3 hL) (lk_3 hL) inlX3 mw_503 dX11_told_110 ?_
              obtain rfl := ret_1 hF
              subst hσ0
              subst hρ0
              exact x_iret rfl C hP hS dX11_told_113
            · have hF := ite_f hF cs1_5
              by_cases cs1_6 : a1 = 6
              · have hF := ite_t hF cs1_6
                refine lv_tableIn (tgt := 114) hx hb dX11_told_1 (by rw [cs1_6]; decide) (by rw [cs1_6]; decide) (by rw [cs1_6]; rfl) (by decide) ?_
                refine lv_aload_n hx hb dX11_told_114 rfl (lv_at hl 0 rfl) ?_
                refine get_11_0 C hP (lr_0 hL) (lk_0 hL) inlX11 mw_15 (lf_0_0 hL) dX11_told_115 ?_
                refine get_8_3 C hP (lr_1 hL) (lk_1 hL) inlX8 mw_113 (lf_1_3 hL) dX11_told_118 ?_
                refine get_0_0 C hP (lr_5 hL) (lk_5 hL) inlX0 mw_504 dX11_told_121 ?_
                obtain rfl := ret_1 hF
                subst hσ0
                subst hρ0
                exact x_iret rfl C hP hS dX11_told_124
              · have hF := ite_f hF cs1_6
                by_cases cs1_7 : a1 = 7
                · have hF := ite_t hF cs1_7
                  refine lv_tableIn (tgt := 125) hx hb dX11_told_1 (by rw [cs1_7]; decide) (by rw [cs1_7]; decide) (by rw [cs1_7]; rfl) (by decide) ?_
                  refine lv_aload_n hx hb dX11_told_125 rfl (lv_at hl 0 rfl) ?_
                  refine get_11_0 C hP (lr_0 hL) (lk_0 hL) inlX11 mw_15 (lf_0_0 hL) dX11_told_126 ?_
                  refine get_8_3 C hP (lr_1 hL) (lk_1 hL) inlX8 mw_113 (lf_1_3 hL) dX11_told_129 ?_
                  refine get_0_1 C hP (lr_5 hL) (lk_5 hL) inlX0 mw_505 dX11_told_132 ?_
                  obtain rfl := ret_1 hF
                  subst hσ0
                  subst hρ0
                  exact x_iret rfl C hP hS dX11_told_135
                · have hF := ite_f hF cs1_7
                  refine lv_tableOut (tgt := 136) hx hb dX11_told_1 (by have q0 := ne_ti cs1_0 (by decide : (0 : Int32).toInt = 0); have q1 := ne_ti cs1_1 (by decide : (1 : Int32).toInt = 1); have q2 := ne_ti cs1_2 (by decide : (2 : Int32).toInt = 2); have q3 := ne_ti cs1_3 (by decide : (3 : Int32).toInt = 3); have q4 := ne_ti cs1_4 (by decide : (4 : Int32).toInt = 4); have q5 := ne_ti cs1_5 (by decide : (5 : Int32).toInt = 5); have q6 := ne_ti cs1_6 (by decide : (6 : Int32).toInt = 6); have q7 := ne_ti cs1_7 (by decide : (7 : Int32).toInt = 7); omega) (by decide) ?_
                  refine lv_iload_n hx hb dX11_told_136 rfl (lv_at hl 1 rfl) ?_
                  refine lv_bipush (v := 10) hx hb dX11_told_137 (by decide +kernel) ?_
                  refine lv_bipush (v := 13) hx hb dX11_told_139 (by decide +kernel) ?_
                  obtain ⟨r2, hq2, hF⟩ := bn_1 hF
                  refine x_callS C hP hS (c_X11_isWithin hL hq2) (va_cwS 3 C.1.2.2.2.2 (gdS mw_97 mw_98 mw_2 mw_99) rfl rfl rfl hd_X11_isWithin.2 ⟨Nat.le_of_ble_eq_true rfl, Nat.le_of_ble_eq_true rfl⟩) rfl rfl hl.1 (Nat.le_of_ble_eq_true rfl) ⟨Nat.zero_le _, Nat.zero_le _⟩ dX11_told_141 (fun H locs hP hS => ?_)
                  refine lv_if_ne (tgt := 151) hx hb dX11_told_144 (by decide) (fun c_3 => ?_) (fun c_3 => ?_) -- COND 3 rcases (Decidable.em (r2 = 0)).symm with c_3 | c_3
                  · have hF := ite_f hF c_3
                    refine lv_aload_n hx hb dX11_told_151 rfl (lv_at hl 0 rfl) ?_
                    refine get_11_0 C hP (lr_0 hL) (lk_0 hL) inlX11 mw_15 (lf_0_0 hL) dX11_told_152 ?_
                    refine get_8_2 C hP (lr_1 hL) (lk_1 hL) inlX8 mw_488 (lf_1_2 hL) dX11_told_155 ?_
                    refine lv_iload_n hx hb dX11_told_158 rfl (lv_at hl 1 rfl) ?_
                    refine lv_bipush (v := 10) hx hb dX11_told_159 (by decide +kernel) ?_
                    refine lv_isub hx hb dX11_told_161 ?_
                    obtain ⟨x4, ex4, hF⟩ := nm_1 hF
                    refine x_top ex4 ?_
                    obtain ⟨r5, hq5, hF⟩ := bn_1 hF
                    refine x_callV (ci := 3) rfl rfl C hP hS (c_X3_corner hL (il_3 hL) hq5) (lr_3 hL) (lk_3 hL) (cwV 1 C.1.2.2.2.2 (gdV mw_506 mw_507 mw_508 mw_31 mw_509) rfl rfl rfl hd_X3_corner ⟨Nat.le_of_ble_eq_true rfl, Nat.le_of_ble_eq_true rfl⟩) rfl rfl hl.1 (Nat.le_of_ble_eq_true rfl) ⟨Nat.zero_le _, Nat.zero_le _⟩ dX11_told_162 (fun H locs hP hS => ?_)
                    obtain rfl := ret_1 hF
                    subst hσ0
                    subst hρ0
                    exact x_iret rfl C hP hS dX11_told_165
                  · have hF := ite_t hF c_3
                    refine lv_sipush (v := -10001) hx hb dX11_told_147 (by decide +kernel) ?_
                    obtain rfl := ret_1 hF
                    subst hσ0
                    subst hρ0
                    exact x_iret rfl C hP hS dX11_told_150
set_option maxHeartbeats 4000000 in
set_option maxRecDepth 100000 in
theorem c_X11_told {a1 : Int32} {r : Int32} {σ : SG} {ρ : RG} (hL : Lay N K len ρ) (hF : F_X11_told a1 σ ρ = some r) : MT l Y D N ad K len yX11_told (Cond.code yX11_told cX11_told 2 (some .int) :: wsL_law) rm_X11_told [.ref (ad 0), .int a1] σ ρ (some (.int r)) σ ρ := by
  refine mt_of (cc := cX11_told) (nL := 2) (ret := (some .int)) (by decide) (Nat.le_of_ble_eq_true rfl) ?_
  intro p e s m args below meth c ls C hnm hP hS hl
  exact w_X11_told_0 C rfl rfl hL hF hP hS hl

/-! CutCrooked.public int cut(int);  -/
theorem dX11_cut_0 : decode cX11_cut 0 = .ok (.aload_n 0, 1) := by decide +kernel
theorem dX11_cut_1 : decode cX11_cut 1 = .ok (.getfield 12, 3) := by decide +kernel
theorem dX11_cut_4 : decode cX11_cut 4 = .ok (.iload_n 1, 1) := by decide +kernel
theorem dX11_cut_5 : decode cX11_cut 5 = .ok (.invokevirtual 100, 3) := by decide +kernel
theorem dX11_cut_8 : decode cX11_cut 8 = .ok (.astore_n 2, 1) := by decide +kernel
theorem dX11_cut_9 : decode cX11_cut 9 = .ok (.aload_n 2, 1) := by decide +kernel
theorem dX11_cut_10 : decode cX11_cut 10 = .ok (.ifnonnull 5, 3) := by decide +kernel
theorem dX11_cut_13 : decode cX11_cut 13 = .ok (.iconst (-1), 1) := by decide +kernel
theorem dX11_cut_14 : decode cX11_cut 14 = .ok (.ireturn, 1) := by decide +kernel
theorem hd_X11_cut : yX11_cut.cls = RX11 ∧ yX11_cut.cls ≠ "java/lang/invoke/MethodHandle" ∧ yX11_cut.cls ≠ "java/lang/invoke/VarHandle" ∧ (parseMethodDescriptor yX11_cut.desc).map (fun d => d.parameters.length) = some 1 := by decide +kernel
abbrev rm_X11_cut : Room := { frames := 1, cells := 0, slots := 0, locals := 21 }
def F_X11_cut (a1 : Int32) (σ : SG) (ρ : RG) : Option (Int32) :=
  bn (F_X8_cutterAt_1 a1 σ ρ) fun o1 =>
  oc o1
   (
    some (-1 : Int32))
   (fun c2 =>
    none /- none: some -/)
set_option maxHeartbeats 4000000 in
set_option maxRecDepth 100000 in
theorem w_X11_cut_0 {a1 : Int32} {p : Program} {e : Env} {s : State} {m : MethodId} {args : Array Value} {below : List Frame} {meth : Method} {c : Code} {σ0 : SG} {ρ0 : RG} {r : Int32} (C : Cx Y D N ad p s m args meth c cX11_cut 3 (some .int) RX11 wsL_law) {σ : SG} {ρ : RG} {H : Heap} {locs : List Loc} {ls : Array Slot} (hσ0 : σ = σ0) (hρ0 : ρ = ρ0) (hL : Lay N K len ρ) (hF : F_X11_cut a1 σ ρ = some r) (hP : WP Y D N ad K len σ ρ H) (hS : va_S (AA N ad s.heap.size) s.heap H locs) (hl : lv_has ls 3 [(0, .ref (ad 0)), (1, .int a1)]) : W p l e rm_X11_cut s m args below meth c H locs 0 0 (MQ below (QW Y D N ad K len σ0 ρ0 (AA N ad s.heap.size) (some (.int r))) args s 0 0 (AA N ad s.heap.size)) (F0 m 0 ls []) := by
  have hx := C.1.1
  have hb := C.1.2.1
  unfold F_X11_cut at hF
  refine lv_aload_n hx hb dX11_cut_0 rfl (lv_at hl 0 rfl) ?_
  refine get_11_0 C hP (lr_0 hL) (lk_0 hL) inlX11 mw_15 (lf_0_0 hL) dX11_cut_1 ?_
  refine lv_iload_n hx hb dX11_cut_4 rfl (lv_at hl 1 rfl) ?_
  obtain ⟨o1, hq1, hF⟩ := bn_1 hF
  refine x_callV (ci := 8) rfl rfl C hP hS (c_X8_cutterAt_1 hL hq1) (lr_1 hL) (lk_1 hL) (cwV 1 C.1.2.2.2.2 (gdV mw_428 mw_429 mw_430 mw_14 mw_431) rfl rfl rfl hd_X8_cutterAt ⟨Nat.le_of_ble_eq_true rfl, Nat.le_of_ble_eq_true rfl⟩) rfl rfl hl.1 (Nat.le_of_ble_eq_true rfl) ⟨Nat.zero_le _, Nat.zero_le _⟩ dX11_cut_5 (fun H locs hP hS => ?_)
  rcases ho2 : o1 with _ | c2
  · have hF := oc_n hF ho2
    refine x_n ?_
    refine lv_astore_nN (lv' := [(2, .null), (0, .ref (ad 0)), (1, .int a1)]) hx hb dX11_cut_8 rfl hl (by decide) rfl (fun ls hl => ?_)
    refine lv_aload_nN hx hb dX11_cut_9 rfl (lv_at hl 0 rfl) ?_
    refine lv_ifnonnullN hx hb dX11_cut_10 ?_
    refine lv_iconst (v := -1) hx hb dX11_cut_13 (by decide) ?_
    obtain rfl := ret_1 hF
    subst hσ0
    subst hρ0
    exact x_iret rfl C hP hS dX11_cut_14
  · have hF := oc_s hF ho2
    refine x_s ?_
    cases hF
set_option maxHeartbeats 4000000 in
set_option maxRecDepth 100000 in
theorem c_X11_cut {a1 : Int32} {r : Int32} {σ : SG} {ρ : RG} (hL : Lay N K len ρ) (hF : F_X11_cut a1 σ ρ = some r) : MT l Y D N ad K len yX11_cut (Cond.code yX11_cut cX11_cut 3 (some .int) :: wsL_law) rm_X11_cut [.ref (ad 0), .int a1] σ ρ (some (.int r)) σ ρ := by
  refine mt_of (cc := cX11_cut) (nL := 3) (ret := (some .int)) (by decide) (Nat.le_of_ble_eq_true rfl) ?_
  intro p e s m args below meth c ls C hnm hP hS hl
  exact w_X11_cut_0 C rfl rfl hL hF hP hS hl

/-! CutCrooked.public int right();  -/
theorem dX11_right_0 : decode cX11_right 0 = .ok (.aload_n 0, 1) := by decide +kernel
theorem dX11_right_1 : decode cX11_right 1 = .ok (.getfield 12, 3) := by decide +kernel
theorem dX11_right_4 : decode cX11_right 4 = .ok (.getfield 130, 3) := by decide +kernel
theorem dX11_right_7 : decode cX11_right 7 = .ok (.invokevirtual 170, 3) := by decide +kernel
theorem dX11_right_10 : decode cX11_right 10 = .ok (.aload_n 0, 1) := by decide +kernel
theorem dX11_right_11 : decode cX11_right 11 = .ok (.getfield 12, 3) := by decide +kernel
theorem dX11_right_14 : decode cX11_right 14 = .ok (.getfield 78, 3) := by decide +kernel
theorem dX11_right_17 : decode cX11_right 17 = .ok (.getfield 156, 3) := by decide +kernel
theorem dX11_right_20 : decode cX11_right 20 = .ok (.if_icmp .ge 6, 3) := by decide +kernel
theorem dX11_right_23 : decode cX11_right 23 = .ok (.bipush (-3), 2) := by decide +kernel
theorem dX11_right_25 : decode cX11_right 25 = .ok (.ireturn, 1) := by decide +kernel
theorem dX11_right_26 : decode cX11_right 26 = .ok (.aload_n 0, 1) := by decide +kernel
theorem dX11_right_27 : decode cX11_right 27 = .ok (.getfield 12, 3) := by decide +kernel
theorem dX11_right_30 : decode cX11_right 30 = .ok (.getfield 130, 3) := by decide +kernel
theorem dX11_right_33 : decode cX11_right 33 = .ok (.invokevirtual 173, 3) := by decide +kernel
theorem dX11_right_36 : decode cX11_right 36 = .ok (.ireturn, 1) := by decide +kernel
theorem hd_X11_right : yX11_right.cls = RX11 ∧ yX11_right.cls ≠ "java/lang/invoke/MethodHandle" ∧ yX11_right.cls ≠ "java/lang/invoke/VarHandle" ∧ (parseMethodDescriptor yX11_right.desc).map (fun d => d.parameters.length) = some 0 := by decide +kernel
abbrev rm_X11_right : Room := { frames := 3, cells := 0, slots := 0, locals := 62 }
def F_X11_right  (σ : SG) (ρ : RG) : Option (Int32 × SG) :=
  bn (F_X3_leastCorner 3 σ ρ) fun r1 =>
  if (σ 5 1) ≤ r1 then
    bn2 (F_X3_straighten 3 σ ρ) fun r3 σ3 =>
    some (r3, σ3)
  else
    some ((-3 : Int32), σ)
set_option maxHeartbeats 4000000 in
set_option maxRecDepth 100000 in
theorem w_X11_right_0  {p : Program} {e : Env} {s : State} {m : MethodId} {args : Array Value} {below : List Frame} {meth : Method} {c : Code} {ρ0 : RG} {r : Int32} {σ1 : SG} (C : Cx Y D N ad p s m args meth c cX11_right 1 (some .int) RX11 wsL_law) {σ : SG} {ρ : RG} {H : Heap} {locs : List Loc} {ls : Array Slot} (hρ0 : ρ = ρ0) (hL : Lay N K len ρ) (hF : F_X11_right σ ρ = some (r, σ1)) (hP : WP Y D N ad K len σ ρ H) (hS : va_S (AA N ad s.heap.size) s.heap H locs) (hl : lv_has ls 1 [(0, .ref (ad 0))]) : W p l e rm_X11_right s m args below meth c H locs 0 0 (MQ below (QW Y D N ad K len σ1 ρ0 (AA N ad s.heap.size) (some (.int r))) args s 0 0 (AA N ad s.heap.size)) (F0 m 0 ls []) := by
  have hx := C.1.1
  have hb := C.1.2.1
  unfold F_X11_right at hF
  refine lv_aload_n hx hb dX11_right_0 rfl (lv_at hl 0 rfl) ?_
  refine get_11_0 C hP (lr_0 hL) (lk_0 hL) inlX11 mw_15 (lf_0_0 hL) dX11_right_1 ?_
  refine get_8_2 C hP (lr_1 hL) (lk_1 hL) inlX8 mw_488 (lf_1_2 hL) dX11_right_4 ?_
  obtain ⟨r1, hq1, hF⟩ := bn_1 hF
  refine x_callV (ci := 3) rfl rfl C hP hS (c_X3_leastCorner hL (il_3 hL) hq1) (lr_3 hL) (lk_3 hL) (cwV 0 C.1.2.2.2.2 (gdV mw_693 mw_644 mw_645 mw_31 mw_646) rfl rfl rfl hd_X3_leastCorner ⟨Nat.le_of_ble_eq_true rfl, Nat.le_of_ble_eq_true rfl⟩) rfl rfl hl.1 (Nat.le_of_ble_eq_true rfl) ⟨Nat.zero_le _, Nat.zero_le _⟩ dX11_right_7 (fun H locs hP hS => ?_)
  refine lv_aload_n hx hb dX11_right_10 rfl (lv_at hl 0 rfl) ?_
  refine get_11_0 C hP (lr_0 hL) (lk_0 hL) inlX11 mw_15 (lf_0_0 hL) dX11_right_11 ?_
  refine get_8_3 C hP (lr_1 hL) (lk_1 hL) inlX8 mw_113 (lf_1_3 hL) dX11_right_14 ?_
  refine get_0_1 C hP (lr_5 hL) (lk_5 hL) inlX0 mw_505 dX11_right_17 ?_
  refine lv_icmp_ge (tgt := 26) hx hb dX11_right_20 (by decide) (fun c_2 => ?_) (fun c_2 => ?_) -- COND 2 by_cases c_2 : (σ 5 1) ≤ r1
  · have hF := ite_t hF c_2
    refine lv_aload_n hx hb dX11_right_26 rfl (lv_at hl 0 rfl) ?_
    refine get_11_0 C hP (lr_0 hL) (lk_0 hL) inlX11 mw_15 (lf_0_0 hL) dX11_right_27 ?_
    refine get_8_2 C hP (lr_1 hL) (lk_1 hL) inlX8 mw_488 (lf_1_2 hL) dX11_right_30 ?_
    obtain ⟨r3, σ3, hq3, hF⟩ := bn2_1 hF
    refine x_callV (ci := 3) rfl rfl C hP hS (c_X3_straighten hL (il_3 hL) hq3) (lr_3 hL) (lk_3 hL) (cwV 0 C.1.2.2.2.2 (gdV mw_694 mw_575 mw_576 mw_31 mw_577) rfl rfl rfl hd_X3_straighten ⟨Nat.le_of_ble_eq_true rfl, Nat.le_of_ble_eq_true rfl⟩) rfl rfl hl.1 (Nat.le_of_ble_eq_true rfl) ⟨Nat.zero_le _, Nat.zero_le _⟩ dX11_right_33 (fun H locs hP hS => ?_)
    obtain ⟨rfl, rfl⟩ := ret_2 hF
    subst hρ0
    exact x_iret rfl C hP hS dX11_right_36
  · have hF := ite_f hF c_2
    refine lv_bipush (v := -3) hx hb dX11_right_23 (by decide +kernel) ?_
    obtain ⟨rfl, rfl⟩ := ret_2 hF
    subst hρ0
    exact x_iret rfl C hP hS dX11_right_25
set_option maxHeartbeats 4000000 in
set_option maxRecDepth 100000 in
theorem c_X11_right  {r : Int32} {σ1 : SG} {σ : SG} {ρ : RG} (hL : Lay N K len ρ) (hF : F_X11_right σ ρ = some (r, σ1)) : MT l Y D N ad K len yX11_right (Cond.code yX11_right cX11_right 1 (some .int) :: wsL_law) rm_X11_right [.ref (ad 0)] σ ρ (some (.int r)) σ1 ρ := by
  refine mt_of (cc := cX11_right) (nL := 1) (ret := (some .int)) (by decide) (Nat.le_of_ble_eq_true rfl) ?_
  intro p e s m args below meth c ls C hnm hP hS hl
  exact w_X11_right_0 C rfl hL hF hP hS hl

/-! CutCrooked.public int turn(boolean);  -/
theorem dX11_turn_0 : decode cX11_turn 0 = .ok (.iload_n 1, 1) := by decide +kernel
theorem dX11_turn_1 : decode cX11_turn 1 = .ok (.ifCond .eq 35, 3) := by decide +kernel
theorem dX11_turn_4 : decode cX11_turn 4 = .ok (.aload_n 0, 1) := by decide +kernel
theorem dX11_turn_5 : decode cX11_turn 5 = .ok (.getfield 12, 3) := by decide +kernel
theorem dX11_turn_8 : decode cX11_turn 8 = .ok (.getfield 130, 3) := by decide +kernel
theorem dX11_turn_11 : decode cX11_turn 11 = .ok (.aload_n 0, 1) := by decide +kernel
theorem dX11_turn_12 : decode cX11_turn 12 = .ok (.getfield 12, 3) := by decide +kernel
theorem dX11_turn_15 : decode cX11_turn 15 = .ok (.getfield 130, 3) := by decide +kernel
theorem dX11_turn_18 : decode cX11_turn 18 = .ok (.getfield 144, 3) := by decide +kernel
theorem dX11_turn_21 : decode cX11_turn 21 = .ok (.ineg, 1) := by decide +kernel
theorem dX11_turn_22 : decode cX11_turn 22 = .ok (.putfield 144, 3) := by decide +kernel
theorem dX11_turn_25 : decode cX11_turn 25 = .ok (.aload_n 0, 1) := by decide +kernel
theorem dX11_turn_26 : decode cX11_turn 26 = .ok (.getfield 12, 3) := by decide +kernel
theorem dX11_turn_29 : decode cX11_turn 29 = .ok (.getfield 130, 3) := by decide +kernel
theorem dX11_turn_32 : decode cX11_turn 32 = .ok (.getfield 144, 3) := by decide +kernel
theorem dX11_turn_35 : decode cX11_turn 35 = .ok (.ireturn, 1) := by decide +kernel
theorem dX11_turn_36 : decode cX11_turn 36 = .ok (.aload_n 0, 1) := by decide +kernel
theorem dX11_turn_37 : decode cX11_turn 37 = .ok (.getfield 12, 3) := by decide +kernel
theorem dX11_turn_40 : decode cX11_turn 40 = .ok (.getfield 130, 3) := by decide +kernel
theorem dX11_turn_43 : decode cX11_turn 43 = .ok (.aload_n 0, 1) := by decide +kernel
theorem dX11_turn_44 : decode cX11_turn 44 = .ok (.getfield 12, 3) := by decide +kernel
theorem dX11_turn_47 : decode cX11_turn 47 = .ok (.getfield 130, 3) := by decide +kernel
theorem dX11_turn_50 : decode cX11_turn 50 = .ok (.getfield 141, 3) := by decide +kernel
theorem dX11_turn_53 : decode cX11_turn 53 = .ok (.ineg, 1) := by decide +kernel
theorem dX11_turn_54 : decode cX11_turn 54 = .ok (.putfield 141, 3) := by decide +kernel
theorem dX11_turn_57 : decode cX11_turn 57 = .ok (.aload_n 0, 1) := by decide +kernel
theorem dX11_turn_58 : decode cX11_turn 58 = .ok (.getfield 12, 3) := by decide +kernel
theorem dX11_turn_61 : decode cX11_turn 61 = .ok (.getfield 130, 3) := by decide +kernel
theorem dX11_turn_64 : decode cX11_turn 64 = .ok (.getfield 141, 3) := by decide +kernel
theorem dX11_turn_67 : decode cX11_turn 67 = .ok (.ireturn, 1) := by decide +kernel
theorem hd_X11_turn : yX11_turn.cls = RX11 ∧ yX11_turn.cls ≠ "java/lang/invoke/MethodHandle" ∧ yX11_turn.cls ≠ "java/lang/invoke/VarHandle" ∧ (parseMethodDescriptor yX11_turn.desc).map (fun d => d.parameters.length) = some 1 := by decide +kernel
abbrev rm_X11_turn : Room := { frames := 0, cells := 0, slots := 0, locals := 0 }
def F_X11_turn (a1 : Int32) (σ : SG) (ρ : RG) : Option (Int32 × SG) :=
  if a1 = 0 then
    nm (-(σ 3 2)) fun x2 =>
    nm (s2 σ 3 2 x2) fun σ4 =>
    some ((σ4 3 2), σ4)
  else
    nm (-(σ 3 3)) fun x5 =>
    nm (s2 σ 3 3 x5) fun σ7 =>
    some ((σ7 3 3), σ7)
set_option maxHeartbeats 4000000 in
set_option maxRecDepth 100000 in
theorem w_X11_turn_0 {a1 : Int32} {p : Program} {e : Env} {s : State} {m : MethodId} {args : Array Value} {below : List Frame} {meth : Method} {c : Code} {ρ0 : RG} {r : Int32} {σ1 : SG} (C : Cx Y D N ad p s m args meth c cX11_turn 2 (some .int) RX11 wsL_law) {σ : SG} {ρ : RG} {H : Heap} {locs : List Loc} {ls : Array Slot} (hρ0 : ρ = ρ0) (hL : Lay N K len ρ) (hF : F_X11_turn a1 σ ρ = some (r, σ1)) (hP : WP Y D N ad K len σ ρ H) (hS : va_S (AA N ad s.heap.size) s.heap H locs) (hl : lv_has ls 2 [(0, .ref (ad 0)), (1, .int a1)]) : W p l e rm_X11_turn s m args below meth c H locs 0 0 (MQ below (QW Y D N ad K len σ1 ρ0 (AA N ad s.heap.size) (some (.int r))) args s 0 0 (AA N ad s.heap.size)) (F0 m 0 ls []) := by
  have hx := C.1.1
  have hb := C.1.2.1
  unfold F_X11_turn at hF
  refine lv_iload_n hx hb dX11_turn_0 rfl (lv_at hl 1 rfl) ?_
  refine lv_if_eq (tgt := 36) hx hb dX11_turn_1 (by decide) (fun c_1 => ?_) (fun c_1 => ?_) -- COND 1 by_cases c_1 : a1 = 0
  · have hF := ite_t hF c_1
    refine lv_aload_n hx hb dX11_turn_36 rfl (lv_at hl 0 rfl) ?_
    refine get_11_0 C hP (lr_0 hL) (lk_0 hL) inlX11 mw_15 (lf_0_0 hL) dX11_turn_37 ?_
    refine get_8_2 C hP (lr_1 hL) (lk_1 hL) inlX8 mw_488 (lf_1_2 hL) dX11_turn_40 ?_
    refine lv_aload_n hx hb dX11_turn_43 rfl (lv_at hl 0 rfl) ?_
    refine get_11_0 C hP (lr_0 hL) (lk_0 hL) inlX11 mw_15 (lf_0_0 hL) dX11_turn_44 ?_
    refine get_8_2 C hP (lr_1 hL) (lk_1 hL) inlX8 mw_488 (lf_1_2 hL) dX11_turn_47 ?_
    refine get_3_2 C hP (lr_3 hL) (lk_3 hL) inlX3 mw_500 dX11_turn_50 ?_
    refine lv_ineg hx hb dX11_turn_53 ?_
    obtain ⟨x2, ex2, hF⟩ := nm_1 hF
    refine x_top ex2 ?_
    obtain ⟨σ4, eσ4, hF⟩ := nm_1 hF
    refine put_3_2 C hP hS (lr_3 hL) (lk_3 hL) inlX3 mw_500 eσ4 dX11_turn_54 (fun H locs hP hS => ?_)
    refine lv_aload_n hx hb dX11_turn_57 rfl (lv_at hl 0 rfl) ?_
    refine get_11_0 C hP (lr_0 hL) (lk_0 hL) inlX11 mw_15 (lf_0_0 hL) dX11_turn_58 ?_
    refine get_8_2 C hP (lr_1 hL) (lk_1 hL) inlX8 mw_488 (lf_1_2 hL) dX11_turn_61 ?_
    refine get_3_2 C hP (lr_3 hL) (lk_3 hL) inlX3 mw_500 dX11_turn_64 ?_
    obtain ⟨rfl, rfl⟩ := ret_2 hF
    subst hρ0
    exact x_iret rfl C hP hS dX11_turn_67
  · have hF := ite_f hF c_1
    refine lv_aload_n hx hb dX11_turn_4 rfl (lv_at hl 0 rfl) ?_
    refine get_11_0 C hP (lr_0 hL) (lk_0 hL) inlX11 mw_15 (lf_0_0 hL) dX11_turn_5 ?_
    refine get_8_2 C hP (lr_1 hL) (lk_1 hL) inlX8 mw_488 (lf_1_2 hL) dX11_turn_8 ?_
    refine lv_aload_n hx hb dX11_turn_11 rfl (lv_at hl 0 rfl) ?_
    refine get_11_0 C hP (lr_0 hL) (lk_0 hL) inlX11 mw_15 (lf_0_0 hL) dX11_turn_12 ?_
    refine get_8_2 C hP (lr_1 hL) (lk_1 hL) inlX8 mw_488 (lf_1_2 hL) dX11_turn_15 ?_
    refine get_3_3 C hP (lr_3 hL) (lk_3 hL) inlX3 mw_501 dX11_turn_18 ?_
    refine lv_ineg hx hb dX11_turn_21 ?_
    obtain ⟨x5, ex5, hF⟩ := nm_1 hF
    refine x_top ex5 ?_
    obtain ⟨σ7, eσ7, hF⟩ := nm_1 hF
    refine put_3_3 C hP hS (lr_3 hL) (lk_3 hL) inlX3 mw_501 eσ7 dX11_turn_22 (fun H locs hP hS => ?_)
    refine lv_aload_n hx hb dX11_turn_25 rfl (lv_at hl 0 rfl) ?_
    refine get_11_0 C hP (lr_0 hL) (lk_0 hL) inlX11 mw_15 (lf_0_0 hL) dX11_turn_26 ?_
    refine get_8_2 C hP (lr_1 hL) (lk_1 hL) inlX8 mw_488 (lf_1_2 hL) dX11_turn_29 ?_
    refine get_3_3 C hP (lr_3 hL) (lk_3 hL) inlX3 mw_501 dX11_turn_32 ?_
    obtain ⟨rfl, rfl⟩ := ret_2 hF
    subst hρ0
    exact x_iret rfl C hP hS dX11_turn_35
set_option maxHeartbeats 4000000 in
set_option maxRecDepth 100000 in
theorem c_X11_turn {a1 : Int32} {r : Int32} {σ1 : SG} {σ : SG} {ρ : RG} (hL : Lay N K len ρ) (hF : F_X11_turn a1 σ ρ = some (r, σ1)) : MT l Y D N ad K len yX11_turn (Cond.code yX11_turn cX11_turn 2 (some .int) :: wsL_law) rm_X11_turn [.ref (ad 0), .int a1] σ ρ (some (.int r)) σ1 ρ := by
  refine mt_of (cc := cX11_turn) (nL := 2) (ret := (some .int)) (by decide) (Nat.le_of_ble_eq_true rfl) ?_
  intro p e s m args below meth c ls C hnm hP hS hl
  exact w_X11_turn_0 C rfl hL hF hP hS hl

/-! CutCrooked.public int would(int, int);  -/
theorem dX11_would_0 : decode cX11_would 0 = .ok (.aload_n 0, 1) := by decide +kernel
theorem dX11_would_1 : decode cX11_would 1 = .ok (.getfield 12, 3) := by decide +kernel
theorem dX11_would_4 : decode cX11_would 4 = .ok (.iload_n 1, 1) := by decide +kernel
theorem dX11_would_5 : decode cX11_would 5 = .ok (.invokevirtual 100, 3) := by decide +kernel
theorem dX11_would_8 : decode cX11_would 8 = .ok (.ifnull 13, 3) := by decide +kernel
theorem dX11_would_21 : decode cX11_would 21 = .ok (.sipush (-10001), 3) := by decide +kernel
theorem dX11_would_24 : decode cX11_would 24 = .ok (.ireturn, 1) := by decide +kernel
theorem hd_X11_would : yX11_would.cls = RX11 ∧ yX11_would.cls ≠ "java/lang/invoke/MethodHandle" ∧ yX11_would.cls ≠ "java/lang/invoke/VarHandle" ∧ (parseMethodDescriptor yX11_would.desc).map (fun d => d.parameters.length) = some 2 := by decide +kernel
abbrev rm_X11_would : Room := { frames := 1, cells := 0, slots := 0, locals := 21 }
def F_X11_would (a1 : Int32) (a2 : Int32) (σ : SG) (ρ : RG) : Option (Int32) :=
  bn (F_X8_cutterAt_1 a1 σ ρ) fun o1 =>
  oc o1
   (
    some (-10001 : Int32))
   (fun c2 =>
    none /- none: some -/)
set_option maxHeartbeats 4000000 in
set_option maxRecDepth 100000 in
theorem w_X11_would_0 {a1 : Int32} {a2 : Int32} {p : Program} {e : Env} {s : State} {m : MethodId} {args : Array Value} {below : List Frame} {meth : Method} {c : Code} {σ0 : SG} {ρ0 : RG} {r : Int32} (C : Cx Y D N ad p s m args meth c cX11_would 4 (some .int) RX11 wsL_law) {σ : SG} {ρ : RG} {H : Heap} {locs : List Loc} {ls : Array Slot} (hσ0 : σ = σ0) (hρ0 : ρ = ρ0) (hL : Lay N K len ρ) (hF : F_X11_would a1 a2 σ ρ = some r) (hP : WP Y D N ad K len σ ρ H) (hS : va_S (AA N ad s.heap.size) s.heap H locs) (hl : lv_has ls 4 [(0, .ref (ad 0)), (1, .int a1), (2, .int a2)]) : W p l e rm_X11_would s m args below meth c H locs 0 0 (MQ below (QW Y D N ad K len σ0 ρ0 (AA N ad s.heap.size) (some (.int r))) args s 0 0 (AA N ad s.heap.size)) (F0 m 0 ls []) := by
  have hx := C.1.1
  have hb := C.1.2.1
  unfold F_X11_would at hF
  refine lv_aload_n hx hb dX11_would_0 rfl (lv_at hl 0 rfl) ?_
  refine get_11_0 C hP (lr_0 hL) (lk_0 hL) inlX11 mw_15 (lf_0_0 hL) dX11_would_1 ?_
  refine lv_iload_n hx hb dX11_would_4 rfl (lv_at hl 1 rfl) ?_
  obtain ⟨o1, hq1, hF⟩ := bn_1 hF
  refine x_callV (ci := 8) rfl rfl C hP hS (c_X8_cutterAt_1 hL hq1) (lr_1 hL) (lk_1 hL) (cwV 1 C.1.2.2.2.2 (gdV mw_428 mw_429 mw_430 mw_14 mw_431) rfl rfl rfl hd_X8_cutterAt ⟨Nat.le_of_ble_eq_true rfl, Nat.le_of_ble_eq_true rfl⟩) rfl rfl hl.1 (Nat.le_of_ble_eq_true rfl) ⟨Nat.zero_le _, Nat.zero_le _⟩ dX11_would_5 (fun H locs hP hS => ?_)
  rcases ho2 : o1 with _ | c2
  · have hF := oc_n hF ho2
    refine x_n ?_
    refine lv_ifnullN (tgt := 21) hx hb dX11_would_8 (by decide) ?_
    refine lv_sipush (v := -10001) hx hb dX11_would_21 (by decide +kernel) ?_
    obtain rfl := ret_1 hF
    subst hσ0
    subst hρ0
    exact x_iret rfl C hP hS dX11_would_24
  · have hF := oc_s hF ho2
    refine x_s ?_
    cases hF
set_option maxHeartbeats 4000000 in
set_option maxRecDepth 100000 in
theorem c_X11_would {a1 : Int32} {a2 : Int32} {r : Int32} {σ : SG} {ρ : RG} (hL : Lay N K len ρ) (hF : F_X11_would a1 a2 σ ρ = some r) : MT l Y D N ad K len yX11_would (Cond.code yX11_would cX11_would 4 (some .int) :: wsL_law) rm_X11_would [.ref (ad 0), .int a1, .int a2] σ ρ (some (.int r)) σ ρ := by
  refine mt_of (cc := cX11_would) (nL := 4) (ret := (some .int)) (by decide) (Nat.le_of_ble_eq_true rfl) ?_
  intro p e s m args below meth c ls C hnm hP hS hl
  exact w_X11_would_0 C rfl rfl hL hF hP hS hl

/-! CutCrooked.public int on(int, int);  -/
theorem dX11_on_0 : decode cX11_on 0 = .ok (.aload_n 0, 1) := by decide +kernel
theorem dX11_on_1 : decode cX11_on 1 = .ok (.getfield 12, 3) := by decide +kernel
theorem dX11_on_4 : decode cX11_on 4 = .ok (.iload_n 2, 1) := by decide +kernel
theorem dX11_on_5 : decode cX11_on 5 = .ok (.bipush 10, 2) := by decide +kernel
theorem dX11_on_7 : decode cX11_on 7 = .ok (.isub, 1) := by decide +kernel
theorem dX11_on_8 : decode cX11_on 8 = .ok (.invokevirtual 100, 3) := by decide +kernel
theorem dX11_on_11 : decode cX11_on 11 = .ok (.ifnull 7, 3) := by decide +kernel
theorem dX11_on_18 : decode cX11_on 18 = .ok (.iconst 0, 1) := by decide +kernel
theorem dX11_on_19 : decode cX11_on 19 = .ok (.istore_n 3, 1) := by decide +kernel
theorem dX11_on_20 : decode cX11_on 20 = .ok (.iload_n 2, 1) := by decide +kernel
theorem dX11_on_21 : decode cX11_on 21 = .ok (.iconst 0, 1) := by decide +kernel
theorem dX11_on_22 : decode cX11_on 22 = .ok (.iconst 5, 1) := by decide +kernel
theorem dX11_on_23 : decode cX11_on 23 = .ok (.invokestatic 56, 3) := by decide +kernel
theorem dX11_on_26 : decode cX11_on 26 = .ok (.ifCond .ne 11, 3) := by decide +kernel
theorem dX11_on_29 : decode cX11_on 29 = .ok (.iload_n 3, 1) := by decide +kernel
theorem dX11_on_30 : decode cX11_on 30 = .ok (.ifCond .ne 7, 3) := by decide +kernel
theorem dX11_on_33 : decode cX11_on 33 = .ok (.sipush (-10001), 3) := by decide +kernel
theorem dX11_on_36 : decode cX11_on 36 = .ok (.ireturn, 1) := by decide +kernel
theorem dX11_on_37 : decode cX11_on 37 = .ok (.iload_n 1, 1) := by decide +kernel
theorem dX11_on_38 : decode cX11_on 38 = .ok (.iconst 0, 1) := by decide +kernel
theorem dX11_on_39 : decode cX11_on 39 = .ok (.bipush 40, 2) := by decide +kernel
theorem dX11_on_41 : decode cX11_on 41 = .ok (.invokestatic 56, 3) := by decide +kernel
theorem dX11_on_44 : decode cX11_on 44 = .ok (.ifCond .ne 7, 3) := by decide +kernel
theorem dX11_on_47 : decode cX11_on 47 = .ok (.sipush (-10002), 3) := by decide +kernel
theorem dX11_on_50 : decode cX11_on 50 = .ok (.ireturn, 1) := by decide +kernel
theorem dX11_on_51 : decode cX11_on 51 = .ok (.aload_n 0, 1) := by decide +kernel
theorem dX11_on_52 : decode cX11_on 52 = .ok (.iload_n 1, 1) := by decide +kernel
theorem dX11_on_53 : decode cX11_on 53 = .ok (.iconst (-1), 1) := by decide +kernel
theorem dX11_on_54 : decode cX11_on 54 = .ok (.iconst 0, 1) := by decide +kernel
theorem dX11_on_55 : decode cX11_on 55 = .ok (.iconst 0, 1) := by decide +kernel
theorem dX11_on_56 : decode cX11_on 56 = .ok (.invokevirtual 189, 3) := by decide +kernel
theorem dX11_on_59 : decode cX11_on 59 = .ok (.iload_n 2, 1) := by decide +kernel
theorem dX11_on_60 : decode cX11_on 60 = .ok (.tableswitch 107 0 5 #[40, 48, 56, 64, 83, 102], 40) := by decide +kernel
theorem dX11_on_100 : decode cX11_on 100 = .ok (.aload_n 0, 1) := by decide +kernel
theorem dX11_on_101 : decode cX11_on 101 = .ok (.getfield 49, 3) := by decide +kernel
theorem dX11_on_104 : decode cX11_on 104 = .ok (.getfield 140, 3) := by decide +kernel
theorem dX11_on_107 : decode cX11_on 107 = .ok (.ireturn, 1) := by decide +kernel
theorem dX11_on_108 : decode cX11_on 108 = .ok (.aload_n 0, 1) := by decide +kernel
theorem dX11_on_109 : decode cX11_on 109 = .ok (.getfield 49, 3) := by decide +kernel
theorem dX11_on_112 : decode cX11_on 112 = .ok (.getfield 141, 3) := by decide +kernel
theorem dX11_on_115 : decode cX11_on 115 = .ok (.ireturn, 1) := by decide +kernel
theorem dX11_on_116 : decode cX11_on 116 = .ok (.aload_n 0, 1) := by decide +kernel
theorem dX11_on_117 : decode cX11_on 117 = .ok (.getfield 49, 3) := by decide +kernel
theorem dX11_on_120 : decode cX11_on 120 = .ok (.getfield 144, 3) := by decide +kernel
theorem dX11_on_123 : decode cX11_on 123 = .ok (.ireturn, 1) := by decide +kernel
theorem dX11_on_124 : decode cX11_on 124 = .ok (.aload_n 0, 1) := by decide +kernel
theorem dX11_on_125 : decode cX11_on 125 = .ok (.getfield 49, 3) := by decide +kernel
theorem dX11_on_128 : decode cX11_on 128 = .ok (.getfield 150, 3) := by decide +kernel
theorem dX11_on_131 : decode cX11_on 131 = .ok (.aload_n 0, 1) := by decide +kernel
theorem dX11_on_132 : decode cX11_on 132 = .ok (.getfield 12, 3) := by decide +kernel
theorem dX11_on_135 : decode cX11_on 135 = .ok (.getfield 130, 3) := by decide +kernel
theorem dX11_on_138 : decode cX11_on 138 = .ok (.getfield 150, 3) := by decide +kernel
theorem dX11_on_141 : decode cX11_on 141 = .ok (.isub, 1) := by decide +kernel
theorem dX11_on_142 : decode cX11_on 142 = .ok (.ireturn, 1) := by decide +kernel
theorem dX11_on_143 : decode cX11_on 143 = .ok (.aload_n 0, 1) := by decide +kernel
theorem dX11_on_144 : decode cX11_on 144 = .ok (.getfield 49, 3) := by decide +kernel
theorem dX11_on_147 : decode cX11_on 147 = .ok (.getfield 147, 3) := by decide +kernel
theorem dX11_on_150 : decode cX11_on 150 = .ok (.aload_n 0, 1) := by decide +kernel
theorem dX11_on_151 : decode cX11_on 151 = .ok (.getfield 12, 3) := by decide +kernel
theorem dX11_on_154 : decode cX11_on 154 = .ok (.getfield 130, 3) := by decide +kernel
theorem dX11_on_157 : decode cX11_on 157 = .ok (.getfield 147, 3) := by decide +kernel
theorem dX11_on_160 : decode cX11_on 160 = .ok (.isub, 1) := by decide +kernel
theorem dX11_on_161 : decode cX11_on 161 = .ok (.ireturn, 1) := by decide +kernel
theorem dX11_on_162 : decode cX11_on 162 = .ok (.aload_n 0, 1) := by decide +kernel
theorem dX11_on_163 : decode cX11_on 163 = .ok (.getfield 193, 3) := by decide +kernel
theorem dX11_on_166 : decode cX11_on 166 = .ok (.ireturn, 1) := by decide +kernel
theorem dX11_on_167 : decode cX11_on 167 = .ok (.aload_n 0, 1) := by decide +kernel
theorem dX11_on_168 : decode cX11_on 168 = .ok (.getfield 53, 3) := by decide +kernel
theorem dX11_on_171 : decode cX11_on 171 = .ok (.iload_n 2, 1) := by decide +kernel
theorem dX11_on_172 : decode cX11_on 172 = .ok (.bipush 10, 2) := by decide +kernel
theorem dX11_on_174 : decode cX11_on 174 = .ok (.isub, 1) := by decide +kernel
theorem dX11_on_175 : decode cX11_on 175 = .ok (.invokestatic 196, 3) := by decide +kernel
theorem dX11_on_178 : decode cX11_on 178 = .ok (.ireturn, 1) := by decide +kernel
theorem hd_X11_on : yX11_on.cls = RX11 ∧ yX11_on.cls ≠ "java/lang/invoke/MethodHandle" ∧ yX11_on.cls ≠ "java/lang/invoke/VarHandle" ∧ (parseMethodDescriptor yX11_on.desc).map (fun d => d.parameters.length) = some 2 := by decide +kernel
abbrev rm_X11_on : Room := { frames := 4, cells := 0, slots := 0, locals := 89 }
def F_X11_on_37 (a1 : Int32) (a2 : Int32) (σ : SG) (ρ : RG) (v1 : Int32) (v2 : Int32) : Option (Int32 × SG) :=
  bn (F_X11_isWithin v1 (0 : Int32) (40 : Int32) σ ρ) fun r6 =>
  if r6 = 0 then
    some ((-10002 : Int32), σ)
  else
    bn (F_X11_goOn v1 (-1 : Int32) (0 : Int32) (0 : Int32) σ ρ) fun σ8 =>
    if v2 = 0 then
      some ((σ8 37 1), σ8)
    else
      if v2 = 1 then
        some ((σ8 37 2), σ8)
      else
        if v2 = 2 then
          some ((σ8 37 3), σ8)
        else
          if v2 = 3 then
            nm ((σ8 37 5) - (σ8 3 5)) fun x10 =>
            some (x10, σ8)
          else
            if v2 = 4 then
              nm ((σ8 37 4) - (σ8 3 4)) fun x11 =>
              some (x11, σ8)
            else
              if v2 = 5 then
                some ((σ8 0 13), σ8)
              else
                nm (v2 - (10 : Int32)) fun x12 =>
                bn (F_X11_valueAt 39 6 x12 σ8 ρ) fun r13 =>
                some (r13, σ8)
def F_X11_on_19 (a1 : Int32) (a2 : Int32) (σ : SG) (ρ : RG) (v1 : Int32) (v2 : Int32) (k0 : Int32) : Option (Int32 × SG) :=
  bn (F_X11_isWithin v2 (0 : Int32) (5 : Int32) σ ρ) fun r4 =>
  if r4 = 0 then
    if k0 = 0 then
      some ((-10001 : Int32), σ)
    else
      F_X11_on_37 a1 a2 σ ρ v1 v2
  else
    F_X11_on_37 a1 a2 σ ρ v1 v2
def F_X11_on (a1 : Int32) (a2 : Int32) (σ : SG) (ρ : RG) : Option (Int32 × SG) :=
  nm (a2 - (10 : Int32)) fun x1 =>
  bn (F_X8_cutterAt_1 x1 σ ρ) fun o2 =>
  oc o2
   (
    F_X11_on_19 a1 a2 σ ρ a1 a2 (0 : Int32))
   (fun c3 =>
    none /- none: some -/)
set_option maxHeartbeats 4000000 in
set_option maxRecDepth 100000 in
theorem w_X11_on_37 {a1 : Int32} {a2 : Int32} {p : Program} {e : Env} {s : State} {m : MethodId} {args : Array Value} {below : List Frame} {meth : Method} {c : Code} {ρ0 : RG} {r : Int32} {σ1 : SG} (C : Cx Y D N ad p s m args meth c cX11_on 4 (some .int) RX11 wsL_law) {σ : SG} {ρ : RG} {v1 : Int32} {v2 : Int32} {H : Heap} {locs : List Loc} {ls : Array Slot} (hρ0 : ρ = ρ0) (hL : Lay N K len ρ) (hF : F_X11_on_37 a1 a2 σ ρ v1 v2 = some (r, σ1)) (hP : WP Y D N ad K len σ ρ H) (hS : va_S (AA N ad s.heap.size) s.heap H locs) (hl : lv_has ls 4 [(0, .ref (ad 0)), (1, .int v1), (2, .int v2)]) : W p l e rm_X11_on s m args below meth c H locs 0 0 (MQ below (QW Y D N ad K len σ1 ρ0 (AA N ad s.heap.size) (some (.int r))) args s 0 0 (AA N ad s.heap.size)) (F0 m 37 ls []) := by
  have hx := C.1.1
  have hb := C.1.2.1
  unfold F_X11_on_37 at hF
  refine lv_iload_n hx hb dX11_on_37 rfl (lv_at hl 1 rfl) ?_
  refine lv_iconst (v := 0) hx hb dX11_on_38 (by decide) ?_
  refine lv_bipush (v := 40) hx hb dX11_on_39 (by decide +kernel) ?_
  obtain ⟨r6, hq6, hF⟩ := bn_1 hF
  refine x_callS C hP hS (c_X11_isWithin hL hq6) (va_cwS 3 C.1.2.2.2.2 (gdS mw_97 mw_98 mw_2 mw_99) rfl rfl rfl hd_X11_isWithin.2 ⟨Nat.le_of_ble_eq_true rfl, Nat.le_of_ble_eq_true rfl⟩) rfl rfl hl.1 (Nat.le_of_ble_eq_true rfl) ⟨Nat.zero_le _, Nat.zero_le _⟩ dX11_on_41 (fun H locs hP hS => ?_)
  refine lv_if_ne (tgt := 51) hx hb dX11_on_44 (by decide) (fun c_7 => ?_) (fun c_7 => ?_) -- COND 7 rcases (Decidable.em (r6 = 0)).symm with c_7 | c_7
  · have hF := ite_f hF c_7
    refine lv_aload_n hx hb dX11_on_51 rfl (lv_at hl 0 rfl) ?_
    refine lv_iload_n hx hb dX11_on_52 rfl (lv_at hl 1 rfl) ?_
    refine lv_iconst (v := -1) hx hb dX11_on_53 (by decide) ?_
    refine lv_iconst (v := 0) hx hb dX11_on_54 (by decide) ?_
    refine lv_iconst (v := 0) hx hb dX11_on_55 (by decide) ?_
    obtain ⟨σ8, hq8, hF⟩ := bn_1 hF
    refine x_callV (ci := 11) rfl rfl C hP hS (c_X11_goOn hL hq8) (lr_0 hL) (lk_0 hL) (cwV 4 C.1.2.2.2.2 (gdV mw_745 mw_746 mw_747 mw_2 mw_748) rfl rfl rfl hd_X11_goOn ⟨Nat.le_of_ble_eq_true rfl, Nat.le_of_ble_eq_true rfl⟩) rfl rfl hl.1 (Nat.le_of_ble_eq_true rfl) ⟨Nat.zero_le _, Nat.zero_le _⟩ dX11_on_56 (fun H locs hP hS => ?_)
    refine lv_iload_n hx hb dX11_on_59 rfl (lv_at hl 2 rfl) ?_
    by_cases cs9_0 : v2 = 0
    · have hF := ite_t hF cs9_0
      refine lv_tableIn (tgt := 100) hx hb dX11_on_60 (by rw [cs9_0]; decide) (by rw [cs9_0]; decide) (by rw [cs9_0]; rfl) (by decide) ?_
      refine lv_aload_n hx hb dX11_on_100 rfl (lv_at hl 0 rfl) ?_
      refine get_11_11 C hP (lr_0 hL) (lk_0 hL) inlX11 mw_32 (lf_0_11 hL) dX11_on_101 ?_
      refine get_3_1 C hP (lr_37 hL) (lk_37 hL) inlX3 mw_499 dX11_on_104 ?_
      obtain ⟨rfl, rfl⟩ := ret_2 hF
      subst hρ0
      exact x_iret rfl C hP hS dX11_on_107
    · have hF := ite_f hF cs9_0
      by_cases cs9_1 : v2 = 1
      · have hF := ite_t hF cs9_1
        refine lv_tableIn (tgt := 108) hx hb dX11_on_60 (by rw [cs9_1]; decide) (by rw [cs9_1]; decide) (by rw [cs9_1]; rfl) (by decide) ?_
        refine lv_aload_n hx hb dX11_on_108 rfl (lv_at hl 0 rfl) ?_
        refine get_11_11 C hP (lr_0 hL) (lk_0 hL) inlX11 mw_32 (lf_0_11 hL) dX11_on_109 ?_
        refine get_3_2 C hP (lr_37 hL) (lk_37 hL) inlX3 mw_500 dX11_on_112 ?_
        obtain ⟨rfl, rfl⟩ := ret_2 hF
        subst hρ0
        exact x_iret rfl C hP hS dX11_on_115
      · have hF := ite_f hF cs9_1
        by_cases cs9_2 : v2 = 2
        · have hF := ite_t hF cs9_2
          refine lv_tableIn (tgt := 116) hx hb dX11_on_60 (by rw [cs9_2]; decide) (by rw [cs9_2]; decide) (by rw [cs9_2]; rfl) (by decide) ?_
          refine lv_aload_n hx hb dX11_on_116 rfl (lv_at hl 0 rfl) ?_
          refine get_11_11 C hP (lr_0 hL) (lk_0 hL) inlX11 mw_32 (lf_0_11 hL) dX11_on_117 ?_
          refine get_3_3 C hP (lr_37 hL) (lk_37 hL) inlX3 mw_501 dX11_on_120 ?_
          obtain ⟨rfl, rfl⟩ := ret_2 hF
          subst hρ0
          exact x_iret rfl C hP hS dX11_on_123
        · have hF := ite_f hF cs9_2
          by_cases cs9_3 : v2 = 3
          · have hF := ite_t hF cs9_3
            refine lv_tableIn (tgt := 124) hx hb dX11_on_60 (by rw [cs9_3]; decide) (by rw [cs9_3]; decide) (by rw [cs9_3]; rfl) (by decide) ?_
            refine lv_aload_n hx hb dX11_on_124 rfl (lv_at hl 0 rfl) ?_
            refine get_11_11 C hP (lr_0 hL) (lk_0 hL) inlX11 mw_32 (lf_0_11 hL) dX11_on_125 ?_
            refine get_3_5 C hP (lr_37 hL) (lk_37 hL) inlX3 mw_503 dX11_on_128 ?_
            refine lv_aload_n hx hb dX11_on_131 rfl (lv_at hl 0 rfl) ?_
            refine get_11_0 C hP (lr_0 hL) (lk_0 hL) inlX11 mw_15 (lf_0_0 hL) dX11_on_132 ?_
            refine get_8_2 C hP (lr_1 hL) (lk_1 hL) inlX8 mw_488 (lf_1_2 hL) dX11_on_135 ?_
            refine get_3_5 C hP (lr_3 hL) (lk_3 hL) inlX3 mw_503 dX11_on_138 ?_
            refine lv_isub hx hb dX11_on_141 ?_
            obtain ⟨x10, ex10, hF⟩ := nm_1 hF
            refine x_top ex10 ?_
            obtain ⟨rfl, rfl⟩ := ret_2 hF
            subst hρ0
            exact x_iret rfl C hP hS dX11_on_142
          · have hF := ite_f hF cs9_3
            by_cases cs9_4 : v2 = 4
            · have hF := ite_t hF cs9_4
              refine lv_tableIn (tgt := 143) hx hb dX11_on_60 (by rw [cs9_4]; decide) (by rw [cs9_4]; decide) (by rw [cs9_4]; rfl) (by decide) ?_
              refine lv_aload_n hx hb dX11_on_143 rfl (lv_at hl 0 rfl) ?_
              refine get_11_11 C hP (lr_0 hL) (lk_0 hL) inlX11 mw_32 (lf_0_11 hL) dX11_on_144 ?_
              refine get_3_4 C hP (lr_37 hL) (lk_37 hL) inlX3 mw_502 dX11_on_147 ?_
              refine lv_aload_n hx hb dX11_on_150 rfl (lv_at hl 0 rfl) ?_
              refine get_11_0 C hP (lr_0 hL) (lk_0 hL) inlX11 mw_15 (lf_0_0 hL) dX11_on_151 ?_
              refine get_8_2 C hP (lr_1 hL) (lk_1 hL) inlX8 mw_488 (lf_1_2 hL) dX11_on_154 ?_
              refine get_3_4 C hP (lr_3 hL) (lk_3 hL) inlX3 mw_502 dX11_on_157 ?_
              refine lv_isub hx hb dX11_on_160 ?_
              obtain ⟨x11, ex11, hF⟩ := nm_1 hF
              refine x_top ex11 ?_
              obtain ⟨rfl, rfl⟩ := ret_2 hF
              subst hρ0
              exact x_iret rfl C hP hS dX11_on_161
            · have hF := ite_f hF cs9_4
              by_cases cs9_5 : v2 = 5
              · have hF := ite_t hF cs9_5
                refine lv_tableIn (tgt := 162) hx hb dX11_on_60 (by rw [cs9_5]; decide) (by rw [cs9_5]; decide) (by rw [cs9_5]; rfl) (by decide) ?_
                refine lv_aload_n hx hb dX11_on_162 rfl (lv_at hl 0 rfl) ?_
                refine get_11_13 C hP (lr_0 hL) (lk_0 hL) inlX11 mw_744 dX11_on_163 ?_
                obtain ⟨rfl, rfl⟩ := ret_2 hF
                subst hρ0
                exact x_iret rfl C hP hS dX11_on_166
              · have hF := ite_f hF cs9_5
                refine lv_tableOut (tgt := 167) hx hb dX11_on_60 (by have q0 := ne_ti cs9_0 (by decide : (0 : Int32).toInt = 0); have q1 := ne_ti cs9_1 (by decide : (1 : Int32).toInt = 1); have q2 := ne_ti cs9_2 (by decide : (2 : Int32).toInt = 2); have q3 := ne_ti cs9_3 (by decide : (3 : Int32).toInt = 3); have q4 := ne_ti cs9_4 (by decide : (4 : Int32).toInt = 4); have q5 := ne_ti cs9_5 (by decide : (5 : Int32).toInt = 5); omega) (by decide) ?_
                refine lv_aload_n hx hb dX11_on_167 rfl (lv_at hl 0 rfl) ?_
                refine get_11_12 C hP (lr_0 hL) (lk_0 hL) inlX11 mw_33 (lf_0_12 hL) dX11_on_168 ?_
                refine lv_iload_n hx hb dX11_on_171 rfl (lv_at hl 2 rfl) ?_
                refine lv_bipush (v := 10) hx hb dX11_on_172 (by decide +kernel) ?_
                refine lv_isub hx hb dX11_on_174 ?_
                obtain ⟨x12, ex12, hF⟩ := nm_1 hF
                refine x_top ex12 ?_
                obtain ⟨r13, hq13, hF⟩ := bn_1 hF
                refine x_callS C hP hS (c_X11_valueAt hL ⟨(lr_39 hL), (lk_39 hL), (ln_39 hL)⟩ hq13) (va_cwS 2 C.1.2.2.2.2 (gdS mw_750 mw_557 mw_2 mw_558) rfl rfl rfl hd_X11_valueAt.2 ⟨Nat.le_of_ble_eq_true rfl, Nat.le_of_ble_eq_true rfl⟩) rfl rfl hl.1 (Nat.le_of_ble_eq_true rfl) ⟨Nat.zero_le _, Nat.zero_le _⟩ dX11_on_175 (fun H locs hP hS => ?_)
                obtain ⟨rfl, rfl⟩ := ret_2 hF
                subst hρ0
                exact x_iret rfl C hP hS dX11_on_178
  · have hF := ite_t hF c_7
    refine lv_sipush (v := -10002) hx hb dX11_on_47 (by decide +kernel) ?_
    obtain ⟨rfl, rfl⟩ := ret_2 hF
    subst hρ0
    exact x_iret rfl C hP hS dX11_on_50
set_option maxHeartbeats 4000000 in
set_option maxRecDepth 100000 in
theorem w_X11_on_19 {a1 : Int32} {a2 : Int32} {p : Program} {e : Env} {s : State} {m : MethodId} {args : Array Value} {below : List Frame} {meth : Method} {c : Code} {ρ0 : RG} {r : Int32} {σ1 : SG} (C : Cx Y D N ad p s m args meth c cX11_on 4 (some .int) RX11 wsL_law) {σ : SG} {ρ : RG} {v1 : Int32} {v2 : Int32} {k0 : Int32} {H : Heap} {locs : List Loc} {ls : Array Slot} (hρ0 : ρ = ρ0) (hL : Lay N K len ρ) (hF : F_X11_on_19 a1 a2 σ ρ v1 v2 k0 = some (r, σ1)) (hP : WP Y D N ad K len σ ρ H) (hS : va_S (AA N ad s.heap.size) s.heap H locs) (hl : lv_has ls 4 [(0, .ref (ad 0)), (1, .int v1), (2, .int v2)]) : W p l e rm_X11_on s m args below meth c H locs 0 0 (MQ below (QW Y D N ad K len σ1 ρ0 (AA N ad s.heap.size) (some (.int r))) args s 0 0 (AA N ad s.heap.size)) (F0 m 19 ls [.int k0]) := by
  have hx := C.1.1
  have hb := C.1.2.1
  unfold F_X11_on_19 at hF
  refine lv_istore_n (lv' := [(3, .int k0), (0, .ref (ad 0)), (1, .int v1), (2, .int v2)]) hx hb dX11_on_19 rfl hl (by decide) rfl (fun ls hl => ?_)
  refine lv_iload_n hx hb dX11_on_20 rfl (lv_at hl 3 rfl) ?_
  refine lv_iconst (v := 0) hx hb dX11_on_21 (by decide) ?_
  refine lv_iconst (v := 5) hx hb dX11_on_22 (by decide) ?_
  obtain ⟨r4, hq4, hF⟩ := bn_1 hF
  refine x_callS C hP hS (c_X11_isWithin hL hq4) (va_cwS 3 C.1.2.2.2.2 (gdS mw_97 mw_98 mw_2 mw_99) rfl rfl rfl hd_X11_isWithin.2 ⟨Nat.le_of_ble_eq_true rfl, Nat.le_of_ble_eq_true rfl⟩) rfl rfl hl.1 (Nat.le_of_ble_eq_true rfl) ⟨Nat.zero_le _, Nat.zero_le _⟩ dX11_on_23 (fun H locs hP hS => ?_)
  refine lv_if_ne (tgt := 37) hx hb dX11_on_26 (by decide) (fun c_5 => ?_) (fun c_5 => ?_) -- COND 5 rcases (Decidable.em (r4 = 0)).symm with c_5 | c_5
  · have hF := ite_f hF c_5
    exact w_X11_on_37 C hρ0 hL hF hP hS (lv_sub hl [1, 2, 3] rfl)
  · have hF := ite_t hF c_5
    refine lv_iload_n hx hb dX11_on_29 rfl (lv_at hl 0 rfl) ?_
    refine lv_if_ne (tgt := 37) hx hb dX11_on_30 (by decide) (fun c_14 => ?_) (fun c_14 => ?_) -- COND 14 rcases (Decidable.em (k0 = 0)).symm with c_14 | c_14
    · have hF := ite_f hF c_14
      exact w_X11_on_37 C hρ0 hL hF hP hS (lv_sub hl [1, 2, 3] rfl)
    · have hF := ite_t hF c_14
      refine lv_sipush (v := -10001) hx hb dX11_on_33 (by decide +kernel) ?_
      obtain ⟨rfl, rfl⟩ := ret_2 hF
      subst hρ0
      exact x_iret rfl C hP hS dX11_on_36
set_option maxHeartbeats 4000000 in
set_option maxRecDepth 100000 in
theorem w_X11_on_0 {a1 : Int32} {a2 : Int32} {p : Program} {e : Env} {s : State} {m : MethodId} {args : Array Value} {below : List Frame} {meth : Method} {c : Code} {ρ0 : RG} {r : Int32} {σ1 : SG} (C : Cx Y D N ad p s m args meth c cX11_on 4 (some .int) RX11 wsL_law) {σ : SG} {ρ : RG} {H : Heap} {locs : List Loc} {ls : Array Slot} (hρ0 : ρ = ρ0) (hL : Lay N K len ρ) (hF : F_X11_on a1 a2 σ ρ = some (r, σ1)) (hP : WP Y D N ad K len σ ρ H) (hS : va_S (AA N ad s.heap.size) s.heap H locs) (hl : lv_has ls 4 [(0, .ref (ad 0)), (1, .int a1), (2, .int a2)]) : W p l e rm_X11_on s m args below meth c H locs 0 0 (MQ below (QW Y D N ad K len σ1 ρ0 (AA N ad s.heap.size) (some (.int r))) args s 0 0 (AA N ad s.heap.size)) (F0 m 0 ls []) := by
  have hx := C.1.1
  have hb := C.1.2.1
  unfold F_X11_on at hF
  refine lv_aload_n hx hb dX11_on_0 rfl (lv_at hl 0 rfl) ?_
  refine get_11_0 C hP (lr_0 hL) (lk_0 hL) inlX11 mw_15 (lf_0_0 hL) dX11_on_1 ?_
  refine lv_iload_n hx hb dX11_on_4 rfl (lv_at hl 2 rfl) ?_
  refine lv_bipush (v := 10) hx hb dX11_on_5 (by decide +kernel) ?_
  refine lv_isub hx hb dX11_on_7 ?_
  obtain ⟨x1, ex1, hF⟩ := nm_1 hF
  refine x_top ex1 ?_
  obtain ⟨o2, hq2, hF⟩ := bn_1 hF
  refine x_callV (ci := 8) rfl rfl C hP hS (c_X8_cutterAt_1 hL hq2) (lr_1 hL) (lk_1 hL) (cwV 1 C.1.2.2.2.2 (gdV mw_428 mw_429 mw_430 mw_14 mw_431) rfl rfl rfl hd_X8_cutterAt ⟨Nat.le_of_ble_eq_true rfl, Nat.le_of_ble_eq_true rfl⟩) rfl rfl hl.1 (Nat.le_of_ble_eq_true rfl) ⟨Nat.zero_le _, Nat.zero_le _⟩ dX11_on_8 (fun H locs hP hS => ?_)
  rcases ho3 : o2 with _ | c3
  · have hF := oc_n hF ho3
    refine x_n ?_
    refine lv_ifnullN (tgt := 18) hx hb dX11_on_11 (by decide) ?_
    refine lv_iconst (v := 0) hx hb dX11_on_18 (by decide) ?_
    exact w_X11_on_19 C hρ0 hL hF hP hS (lv_sub hl [0, 1, 2] rfl)
  · have hF := oc_s hF ho3
    refine x_s ?_
    cases hF
set_option maxHeartbeats 4000000 in
set_option maxRecDepth 100000 in
theorem c_X11_on {a1 : Int32} {a2 : Int32} {r : Int32} {σ1 : SG} {σ : SG} {ρ : RG} (hL : Lay N K len ρ) (hF : F_X11_on a1 a2 σ ρ = some (r, σ1)) : MT l Y D N ad K len yX11_on (Cond.code yX11_on cX11_on 4 (some .int) :: wsL_law) rm_X11_on [.ref (ad 0), .int a1, .int a2] σ ρ (some (.int r)) σ1 ρ := by
  refine mt_of (cc := cX11_on) (nL := 4) (ret := (some .int)) (by decide) (Nat.le_of_ble_eq_true rfl) ?_
  intro p e s m args below meth c ls C hnm hP hS hl
  exact w_X11_on_0 C rfl hL hF hP hS hl

/-! CutCrooked.public int toasted(int, int);  -/
theorem dX11_toasted_0 : decode cX11_toasted 0 = .ok (.iload_n 1, 1) := by decide +kernel
theorem dX11_toasted_1 : decode cX11_toasted 1 = .ok (.iconst 0, 1) := by decide +kernel
theorem dX11_toasted_2 : decode cX11_toasted 2 = .ok (.bipush 40, 2) := by decide +kernel
theorem dX11_toasted_4 : decode cX11_toasted 4 = .ok (.invokestatic 56, 3) := by decide +kernel
theorem dX11_toasted_7 : decode cX11_toasted 7 = .ok (.ifCond .eq 13, 3) := by decide +kernel
theorem dX11_toasted_10 : decode cX11_toasted 10 = .ok (.iload_n 2, 1) := by decide +kernel
theorem dX11_toasted_11 : decode cX11_toasted 11 = .ok (.iconst 0, 1) := by decide +kernel
theorem dX11_toasted_12 : decode cX11_toasted 12 = .ok (.bipush 99, 2) := by decide +kernel
theorem dX11_toasted_14 : decode cX11_toasted 14 = .ok (.invokestatic 56, 3) := by decide +kernel
theorem dX11_toasted_17 : decode cX11_toasted 17 = .ok (.ifCond .ne 6, 3) := by decide +kernel
theorem dX11_toasted_20 : decode cX11_toasted 20 = .ok (.bipush (-2), 2) := by decide +kernel
theorem dX11_toasted_22 : decode cX11_toasted 22 = .ok (.ireturn, 1) := by decide +kernel
theorem dX11_toasted_23 : decode cX11_toasted 23 = .ok (.aload_n 0, 1) := by decide +kernel
theorem dX11_toasted_24 : decode cX11_toasted 24 = .ok (.iload_n 1, 1) := by decide +kernel
theorem dX11_toasted_25 : decode cX11_toasted 25 = .ok (.iconst (-1), 1) := by decide +kernel
theorem dX11_toasted_26 : decode cX11_toasted 26 = .ok (.iconst 0, 1) := by decide +kernel
theorem dX11_toasted_27 : decode cX11_toasted 27 = .ok (.iload_n 2, 1) := by decide +kernel
theorem dX11_toasted_28 : decode cX11_toasted 28 = .ok (.invokevirtual 189, 3) := by decide +kernel
theorem dX11_toasted_31 : decode cX11_toasted 31 = .ok (.aload_n 0, 1) := by decide +kernel
theorem dX11_toasted_32 : decode cX11_toasted 32 = .ok (.getfield 200, 3) := by decide +kernel
theorem dX11_toasted_35 : decode cX11_toasted 35 = .ok (.ireturn, 1) := by decide +kernel
theorem hd_X11_toasted : yX11_toasted.cls = RX11 ∧ yX11_toasted.cls ≠ "java/lang/invoke/MethodHandle" ∧ yX11_toasted.cls ≠ "java/lang/invoke/VarHandle" ∧ (parseMethodDescriptor yX11_toasted.desc).map (fun d => d.parameters.length) = some 2 := by decide +kernel
abbrev rm_X11_toasted : Room := { frames := 4, cells := 0, slots := 0, locals := 89 }
def F_X11_toasted (a1 : Int32) (a2 : Int32) (σ : SG) (ρ : RG) : Option (Int32 × SG) :=
  bn (F_X11_isWithin a1 (0 : Int32) (40 : Int32) σ ρ) fun r1 =>
  if r1 = 0 then
    some ((-2 : Int32), σ)
  else
    bn (F_X11_isWithin a2 (0 : Int32) (99 : Int32) σ ρ) fun r3 =>
    if r3 = 0 then
      some ((-2 : Int32), σ)
    else
      bn (F_X11_goOn a1 (-1 : Int32) (0 : Int32) a2 σ ρ) fun σ5 =>
      some ((σ5 0 14), σ5)
set_option maxHeartbeats 4000000 in
set_option maxRecDepth 100000 in
theorem w_X11_toasted_0 {a1 : Int32} {a2 : Int32} {p : Program} {e : Env} {s : State} {m : MethodId} {args : Array Value} {below : List Frame} {meth : Method} {c : Code} {ρ0 : RG} {r : Int32} {σ1 : SG} (C : Cx Y D N ad p s m args meth c cX11_toasted 3 (some .int) RX11 wsL_law) {σ : SG} {ρ : RG} {H : Heap} {locs : List Loc} {ls : Array Slot} (hρ0 : ρ = ρ0) (hL : Lay N K len ρ) (hF : F_X11_toasted a1 a2 σ ρ = some (r, σ1)) (hP : WP Y D N ad K len σ ρ H) (hS : va_S (AA N ad s.heap.size) s.heap H locs) (hl : lv_has ls 3 [(0, .ref (ad 0)), (1, .int a1), (2, .int a2)]) : W p l e rm_X11_toasted s m args below meth c H locs 0 0 (MQ below (QW Y D N ad K len σ1 ρ0 (AA N ad s.heap.size) (some (.int r))) args s 0 0 (AA N ad s.heap.size)) (F0 m 0 ls []) := by
  have hx := C.1.1
  have hb := C.1.2.1
  unfold F_X11_toasted at hF
  refine lv_iload_n hx hb dX11_toasted_0 rfl (lv_at hl 1 rfl) ?_
  refine lv_iconst (v := 0) hx hb dX11_toasted_1 (by decide) ?_
  refine lv_bipush (v := 40) hx hb dX11_toasted_2 (by decide +kernel) ?_
  obtain ⟨r1, hq1, hF⟩ := bn_1 hF
  refine x_callS C hP hS (c_X11_isWithin hL hq1) (va_cwS 3 C.1.2.2.2.2 (gdS mw_97 mw_98 mw_2 mw_99) rfl rfl rfl hd_X11_isWithin.2 ⟨Nat.le_of_ble_eq_true rfl, Nat.le_of_ble_eq_true rfl⟩) rfl rfl hl.1 (Nat.le_of_ble_eq_true rfl) ⟨Nat.zero_le _, Nat.zero_le _⟩ dX11_toasted_4 (fun H locs hP hS => ?_)
  refine lv_if_eq (tgt := 20) hx hb dX11_toasted_7 (by decide) (fun c_2 => ?_) (fun c_2 => ?_) -- COND 2 by_cases c_2 : r1 = 0
  · have hF := ite_t hF c_2
    refine lv_bipush (v := -2) hx hb dX11_toasted_20 (by decide +kernel) ?_
    obtain ⟨rfl, rfl⟩ := ret_2 hF
    subst hρ0
    exact x_iret rfl C hP hS dX11_toasted_22
  · have hF := ite_f hF c_2
    refine lv_iload_n hx hb dX11_toasted_10 rfl (lv_at hl 2 rfl) ?_
    refine lv_iconst (v := 0) hx hb dX11_toasted_11 (by decide) ?_
    refine lv_bipush (v := 99) hx hb dX11_toasted_12 (by decide +kernel) ?_
    obtain ⟨r3, hq3, hF⟩ := bn_1 hF
    refine x_callS C hP hS (c_X11_isWithin hL hq3) (va_cwS 3 C.1.2.2.2.2 (gdS mw_97 mw_98 mw_2 mw_99) rfl rfl rfl hd_X11_isWithin.2 ⟨Nat.le_of_ble_eq_true rfl, Nat.le_of_ble_eq_true rfl⟩) rfl rfl hl.1 (Nat.le_of_ble_eq_true rfl) ⟨Nat.zero_le _, Nat.zero_le _⟩ dX11_toasted_14 (fun H locs hP hS => ?_)
    refine lv_if_ne (tgt := 23) hx hb dX11_toasted_17 (by decide) (fun c_4 => ?_) (fun c_4 => ?_) -- COND 4 rcases (Decidable.em (r3 = 0)).symm with c_4 | c_4
    · have hF := ite_f hF c_4
      refine lv_aload_n hx hb dX11_toasted_23 rfl (lv_at hl 0 rfl) ?_
      refine lv_iload_n hx hb dX11_toasted_24 rfl (lv_at hl 1 rfl) ?_
      refine lv_iconst (v := -1) hx hb dX11_toasted_25 (by decide) ?_
      refine lv_iconst (v := 0) hx hb dX11_toasted_26 (by decide) ?_
      refine lv_iload_n hx hb dX11_toasted_27 rfl (lv_at hl 2 rfl) ?_
      obtain ⟨σ5, hq5, hF⟩ := bn_1 hF
      refine x_callV (ci := 11) rfl rfl C hP hS (c_X11_goOn hL hq5) (lr_0 hL) (lk_0 hL) (cwV 4 C.1.2.2.2.2 (gdV mw_745 mw_746 mw_747 mw_2 mw_748) rfl rfl rfl hd_X11_goOn ⟨Nat.le_of_ble_eq_true rfl, Nat.le_of_ble_eq_true rfl⟩) rfl rfl hl.1 (Nat.le_of_ble_eq_true rfl) ⟨Nat.zero_le _, Nat.zero_le _⟩ dX11_toasted_28 (fun H locs hP hS => ?_)
      refine lv_aload_n hx hb dX11_toasted_31 rfl (lv_at hl 0 rfl) ?_
      refine get_11_14 C hP (lr_0 hL) (lk_0 hL) inlX11 mw_749 dX11_toasted_32 ?_
      obtain ⟨rfl, rfl⟩ := ret_2 hF
      subst hρ0
      exact x_iret rfl C hP hS dX11_toasted_35
    · have hF := ite_t hF c_4
      refine lv_bipush (v := -2) hx hb dX11_toasted_20 (by decide +kernel) ?_
      obtain ⟨rfl, rfl⟩ := ret_2 hF
      subst hρ0
      exact x_iret rfl C hP hS dX11_toasted_22
set_option maxHeartbeats 4000000 in
set_option maxRecDepth 100000 in
theorem c_X11_toasted {a1 : Int32} {a2 : Int32} {r : Int32} {σ1 : SG} {σ : SG} {ρ : RG} (hL : Lay N K len ρ) (hF : F_X11_toasted a1 a2 σ ρ = some (r, σ1)) : MT l Y D N ad K len yX11_toasted (Cond.code yX11_toasted cX11_toasted 3 (some .int) :: wsL_law) rm_X11_toasted [.ref (ad 0), .int a1, .int a2] σ ρ (some (.int r)) σ1 ρ := by
  refine mt_of (cc := cX11_toasted) (nL := 3) (ret := (some .int)) (by decide) (Nat.le_of_ble_eq_true rfl) ?_
  intro p e s m args below meth c ls C hnm hP hS hl
  exact w_X11_toasted_0 C rfl hL hF hP hS hl

/-! CutCrooked.public int lasts();  -/
theorem dX11_lasts_0 : decode cX11_lasts 0 = .ok (.aload_n 0, 1) := by decide +kernel
theorem dX11_lasts_1 : decode cX11_lasts 1 = .ok (.sipush 200, 3) := by decide +kernel
theorem dX11_lasts_4 : decode cX11_lasts 4 = .ok (.iconst (-1), 1) := by decide +kernel
theorem dX11_lasts_5 : decode cX11_lasts 5 = .ok (.iconst 0, 1) := by decide +kernel
theorem dX11_lasts_6 : decode cX11_lasts 6 = .ok (.iconst 0, 1) := by decide +kernel
theorem dX11_lasts_7 : decode cX11_lasts 7 = .ok (.invokevirtual 189, 3) := by decide +kernel
theorem dX11_lasts_10 : decode cX11_lasts 10 = .ok (.aload_n 0, 1) := by decide +kernel
theorem dX11_lasts_11 : decode cX11_lasts 11 = .ok (.getfield 49, 3) := by decide +kernel
theorem dX11_lasts_14 : decode cX11_lasts 14 = .ok (.getfield 147, 3) := by decide +kernel
theorem dX11_lasts_17 : decode cX11_lasts 17 = .ok (.aload_n 0, 1) := by decide +kernel
theorem dX11_lasts_18 : decode cX11_lasts 18 = .ok (.getfield 12, 3) := by decide +kernel
theorem dX11_lasts_21 : decode cX11_lasts 21 = .ok (.getfield 130, 3) := by decide +kernel
theorem dX11_lasts_24 : decode cX11_lasts 24 = .ok (.getfield 147, 3) := by decide +kernel
theorem dX11_lasts_27 : decode cX11_lasts 27 = .ok (.isub, 1) := by decide +kernel
theorem dX11_lasts_28 : decode cX11_lasts 28 = .ok (.ireturn, 1) := by decide +kernel
theorem hd_X11_lasts : yX11_lasts.cls = RX11 ∧ yX11_lasts.cls ≠ "java/lang/invoke/MethodHandle" ∧ yX11_lasts.cls ≠ "java/lang/invoke/VarHandle" ∧ (parseMethodDescriptor yX11_lasts.desc).map (fun d => d.parameters.length) = some 0 := by decide +kernel
abbrev rm_X11_lasts : Room := { frames := 4, cells := 0, slots := 0, locals := 89 }
def F_X11_lasts  (σ : SG) (ρ : RG) : Option (Int32 × SG) :=
  bn (F_X11_goOn (200 : Int32) (-1 : Int32) (0 : Int32) (0 : Int32) σ ρ) fun σ1 =>
  nm ((σ1 37 4) - (σ1 3 4)) fun x2 =>
  some (x2, σ1)
set_option maxHeartbeats 4000000 in
set_option maxRecDepth 100000 in
theorem w_X11_lasts_0  {p : Program} {e : Env} {s : State} {m : MethodId} {args : Array Value} {below : List Frame} {meth : Method} {c : Code} {ρ0 : RG} {r : Int32} {σ1 : SG} (C : Cx Y D N ad p s m args meth c cX11_lasts 1 (some .int) RX11 wsL_law) {σ : SG} {ρ : RG} {H : Heap} {locs : List Loc} {ls : Array Slot} (hρ0 : ρ = ρ0) (hL : Lay N K len ρ) (hF : F_X11_lasts σ ρ = some (r, σ1)) (hP : WP Y D N ad K len σ ρ H) (hS : va_S (AA N ad s.heap.size) s.heap H locs) (hl : lv_has ls 1 [(0, .ref (ad 0))]) : W p l e rm_X11_lasts s m args below meth c H locs 0 0 (MQ below (QW Y D N ad K len σ1 ρ0 (AA N ad s.heap.size) (some (.int r))) args s 0 0 (AA N ad s.heap.size)) (F0 m 0 ls []) := by
  have hx := C.1.1
  have hb := C.1.2.1
  unfold F_X11_lasts at hF
  refine lv_aload_n hx hb dX11_lasts_0 rfl (lv_at hl 0 rfl) ?_
  refine lv_sipush (v := 200) hx hb dX11_lasts_1 (by decide +kernel) ?_
  refine lv_iconst (v := -1) hx hb dX11_lasts_4 (by decide) ?_
  refine lv_iconst (v := 0) hx hb dX11_lasts_5 (by decide) ?_
  refine lv_iconst (v := 0) hx hb dX11_lasts_6 (by decide) ?_
  obtain ⟨σ1, hq1, hF⟩ := bn_1 hF
  refine x_callV (ci := 11) rfl rfl C hP hS (c_X11_goOn hL hq1) (lr_0 hL) (lk_0 hL) (cwV 4 C.1.2.2.2.2 (gdV mw_745 mw_746 mw_747 mw_2 mw_748) rfl rfl rfl hd_X11_goOn ⟨Nat.le_of_ble_eq_true rfl, Nat.le_of_ble_eq_true rfl⟩) rfl rfl hl.1 (Nat.le_of_ble_eq_true rfl) ⟨Nat.zero_le _, Nat.zero_le _⟩ dX11_lasts_7 (fun H locs hP hS => ?_)
  refine lv_aload_n hx hb dX11_lasts_10 rfl (lv_at hl 0 rfl) ?_
  refine get_11_11 C hP (lr_0 hL) (lk_0 hL) inlX11 mw_32 (lf_0_11 hL) dX11_lasts_11 ?_
  refine get_3_4 C hP (lr_37 hL) (lk_37 hL) inlX3 mw_502 dX11_lasts_14 ?_
  refine lv_aload_n hx hb dX11_lasts_17 rfl (lv_at hl 0 rfl) ?_
  refine get_11_0 C hP (lr_0 hL) (lk_0 hL) inlX11 mw_15 (lf_0_0 hL) dX11_lasts_18 ?_
  refine get_8_2 C hP (lr_1 hL) (lk_1 hL) inlX8 mw_488 (lf_1_2 hL) dX11_lasts_21 ?_
  refine get_3_4 C hP (lr_3 hL) (lk_3 hL) inlX3 mw_502 dX11_lasts_24 ?_
  refine lv_isub hx hb dX11_lasts_27 ?_
  obtain ⟨x2, ex2, hF⟩ := nm_1 hF
  refine x_top ex2 ?_
  obtain ⟨rfl, rfl⟩ := ret_2 hF
  subst hρ0
  exact x_iret rfl C hP hS dX11_lasts_28
set_option maxHeartbeats 4000000 in
set_option maxRecDepth 100000 in
theorem c_X11_lasts  {r : Int32} {σ1 : SG} {σ : SG} {ρ : RG} (hL : Lay N K len ρ) (hF : F_X11_lasts σ ρ = some (r, σ1)) : MT l Y D N ad K len yX11_lasts (Cond.code yX11_lasts cX11_lasts 1 (some .int) :: wsL_law) rm_X11_lasts [.ref (ad 0)] σ ρ (some (.int r)) σ1 ρ := by
  refine mt_of (cc := cX11_lasts) (nL := 1) (ret := (some .int)) (by decide) (Nat.le_of_ble_eq_true rfl) ?_
  intro p e s m args below meth c ls C hnm hP hS hl
  exact w_X11_lasts_0 C rfl hL hF hP hS hl

/-! CutCrooked.public int order(int);  -/
theorem dX11_order_0 : decode cX11_order 0 = .ok (.iload_n 1, 1) := by decide +kernel
theorem dX11_order_1 : decode cX11_order 1 = .ok (.iconst (-1), 1) := by decide +kernel
theorem dX11_order_2 : decode cX11_order 2 = .ok (.iconst 4, 1) := by decide +kernel
theorem dX11_order_3 : decode cX11_order 3 = .ok (.invokestatic 56, 3) := by decide +kernel
theorem dX11_order_6 : decode cX11_order 6 = .ok (.ifCond .ne 5, 3) := by decide +kernel
theorem dX11_order_9 : decode cX11_order 9 = .ok (.iconst (-1), 1) := by decide +kernel
theorem dX11_order_10 : decode cX11_order 10 = .ok (.ireturn, 1) := by decide +kernel
theorem dX11_order_11 : decode cX11_order 11 = .ok (.aload_n 0, 1) := by decide +kernel
theorem dX11_order_12 : decode cX11_order 12 = .ok (.getfield 12, 3) := by decide +kernel
theorem dX11_order_15 : decode cX11_order 15 = .ok (.getfield 89, 3) := by decide +kernel
theorem dX11_order_18 : decode cX11_order 18 = .ok (.iconst 5, 1) := by decide +kernel
theorem dX11_order_19 : decode cX11_order 19 = .ok (.if_icmp .le 6, 3) := by decide +kernel
theorem dX11_order_22 : decode cX11_order 22 = .ok (.bipush (-9), 2) := by decide +kernel
theorem dX11_order_24 : decode cX11_order 24 = .ok (.ireturn, 1) := by decide +kernel
theorem dX11_order_25 : decode cX11_order 25 = .ok (.aload_n 0, 1) := by decide +kernel
theorem dX11_order_26 : decode cX11_order 26 = .ok (.invokevirtual 176, 3) := by decide +kernel
theorem dX11_order_29 : decode cX11_order 29 = .ok (.aload_n 0, 1) := by decide +kernel
theorem dX11_order_30 : decode cX11_order 30 = .ok (.iconst 0, 1) := by decide +kernel
theorem dX11_order_31 : decode cX11_order 31 = .ok (.iconst 0, 1) := by decide +kernel
theorem dX11_order_32 : decode cX11_order 32 = .ok (.iconst 0, 1) := by decide +kernel
theorem dX11_order_33 : decode cX11_order 33 = .ok (.invokevirtual 203, 3) := by decide +kernel
theorem dX11_order_36 : decode cX11_order 36 = .ok (.aload_n 0, 1) := by decide +kernel
theorem dX11_order_37 : decode cX11_order 37 = .ok (.getfield 207, 3) := by decide +kernel
theorem dX11_order_40 : decode cX11_order 40 = .ok (.ifCond .eq 14, 3) := by decide +kernel
theorem dX11_order_43 : decode cX11_order 43 = .ok (.iload_n 1, 1) := by decide +kernel
theorem dX11_order_44 : decode cX11_order 44 = .ok (.aload_n 0, 1) := by decide +kernel
theorem dX11_order_45 : decode cX11_order 45 = .ok (.getfield 12, 3) := by decide +kernel
theorem dX11_order_48 : decode cX11_order 48 = .ok (.getfield 89, 3) := by decide +kernel
theorem dX11_order_51 : decode cX11_order 51 = .ok (.if_icmp .lt 6, 3) := by decide +kernel
theorem dX11_order_54 : decode cX11_order 54 = .ok (.bipush (-5), 2) := by decide +kernel
theorem dX11_order_56 : decode cX11_order 56 = .ok (.ireturn, 1) := by decide +kernel
theorem dX11_order_57 : decode cX11_order 57 = .ok (.iload_n 1, 1) := by decide +kernel
theorem dX11_order_58 : decode cX11_order 58 = .ok (.ifCond .ge 10, 3) := by decide +kernel
theorem dX11_order_61 : decode cX11_order 61 = .ok (.aload_n 0, 1) := by decide +kernel
theorem dX11_order_62 : decode cX11_order 62 = .ok (.getfield 211, 3) := by decide +kernel
theorem dX11_order_65 : decode cX11_order 65 = .ok (.goto 11, 3) := by decide +kernel
theorem dX11_order_68 : decode cX11_order 68 = .ok (.aload_n 0, 1) := by decide +kernel
theorem dX11_order_69 : decode cX11_order 69 = .ok (.getfield 45, 3) := by decide +kernel
theorem dX11_order_72 : decode cX11_order 72 = .ok (.iload_n 1, 1) := by decide +kernel
theorem dX11_order_73 : decode cX11_order 73 = .ok (.invokestatic 196, 3) := by decide +kernel
theorem dX11_order_76 : decode cX11_order 76 = .ok (.ireturn, 1) := by decide +kernel
theorem hd_X11_order : yX11_order.cls = RX11 ∧ yX11_order.cls ≠ "java/lang/invoke/MethodHandle" ∧ yX11_order.cls ≠ "java/lang/invoke/VarHandle" ∧ (parseMethodDescriptor yX11_order.desc).map (fun d => d.parameters.length) = some 1 := by decide +kernel
abbrev rm_X11_order : Room := { frames := 2, cells := 0, slots := 0, locals := 47 }
def F_X11_order (a1 : Int32) (σ : SG) (ρ : RG) : Option (Int32 × SG) :=
  bn (F_X11_isWithin a1 (-1 : Int32) (4 : Int32) σ ρ) fun r1 =>
  if r1 = 0 then
    some ((-1 : Int32), σ)
  else
    if (σ 1 1) ≤ (5 : Int32) then
      bn (F_X11_startSteps σ ρ) fun σ4 =>
      bn (F_X11_tryOrders (0 : Int32) (0 : Int32) (0 : Int32) σ4 ρ) fun σ5 =>
      if (σ5 0 8) = 0 then
        some ((-5 : Int32), σ5)
      else
        if a1 < (σ5 1 1) then
          if 0 ≤ a1 then
            bn (F_X11_valueAt 36 6 a1 σ5 ρ) fun r9 =>
            some (r9, σ5)
          else
            some ((σ5 0 9), σ5)
        else
          some ((-5 : Int32), σ5)
    else
      some ((-9 : Int32), σ)
set_option maxHeartbeats 4000000 in
set_option maxRecDepth 100000 in
theorem w_X11_order_0 {a1 : Int32} {p : Program} {e : Env} {s : State} {m : MethodId} {args : Array Value} {below : List Frame} {meth : Method} {c : Code} {ρ0 : RG} {r : Int32} {σ1 : SG} (C : Cx Y D N ad p s m args meth c cX11_order 2 (some .int) RX11 wsL_law) {σ : SG} {ρ : RG} {H : Heap} {locs : List Loc} {ls : Array Slot} (hρ0 : ρ = ρ0) (hL : Lay N K len ρ) (hF : F_X11_order a1 σ ρ = some (r, σ1)) (hP : WP Y D N ad K len σ ρ H) (hS : va_S (AA N ad s.heap.size) s.heap H locs) (hl : lv_has ls 2 [(0, .ref (ad 0)), (1, .int a1)]) : W p l e rm_X11_order s m args below meth c H locs 0 0 (MQ below (QW Y D N ad K len σ1 ρ0 (AA N ad s.heap.size) (some (.int r))) args s 0 0 (AA N ad s.heap.size)) (F0 m 0 ls []) := by
  have hx := C.1.1
  have hb := C.1.2.1
  unfold F_X11_order at hF
  refine lv_iload_n hx hb dX11_order_0 rfl (lv_at hl 1 rfl) ?_
  refine lv_iconst (v := -1) hx hb dX11_order_1 (by decide) ?_
  refine lv_iconst (v := 4) hx hb dX11_order_2 (by decide) ?_
  obtain ⟨r1, hq1, hF⟩ := bn_1 hF
  refine x_callS C hP hS (c_X11_isWithin hL hq1) (va_cwS 3 C.1.2.2.2.2 (gdS mw_97 mw_98 mw_2 mw_99) rfl rfl rfl hd_X11_isWithin.2 ⟨Nat.le_of_ble_eq_true rfl, Nat.le_of_ble_eq_true rfl⟩) rfl rfl hl.1 (Nat.le_of_ble_eq_true rfl) ⟨Nat.zero_le _, Nat.zero_le _⟩ dX11_order_3 (fun H locs hP hS => ?_)
  refine lv_if_ne (tgt := 11) hx hb dX11_order_6 (by decide) (fun c_2 => ?_) (fun c_2 => ?_) -- COND 2 rcases (Decidable.em (r1 = 0)).symm with c_2 | c_2
  · have hF := ite_f hF c_2
    refine lv_aload_n hx hb dX11_order_11 rfl (lv_at hl 0 rfl) ?_
    refine get_11_0 C hP (lr_0 hL) (lk_0 hL) inlX11 mw_15 (lf_0_0 hL) dX11_order_12 ?_
    refine get_8_1 C hP (lr_1 hL) (lk_1 hL) inlX8 mw_352 dX11_order_15 ?_
    refine lv_iconst (v := 5) hx hb dX11_order_18 (by decide) ?_
    refine lv_icmp_le (tgt := 25) hx hb dX11_order_19 (by decide) (fun c_3 => ?_) (fun c_3 => ?_) -- COND 3 by_cases c_3 : (σ 1 1) ≤ (5 : Int32)
    · have hF := ite_t hF c_3
      refine lv_aload_n hx hb dX11_order_25 rfl (lv_at hl 0 rfl) ?_
      obtain ⟨σ4, hq4, hF⟩ := bn_1 hF
      refine x_callV (ci := 11) rfl rfl C hP hS (c_X11_startSteps hL hq4) (lr_0 hL) (lk_0 hL) (cwV 0 C.1.2.2.2.2 (gdV mw_713 mw_714 mw_715 mw_2 mw_716) rfl rfl rfl hd_X11_startSteps ⟨Nat.le_of_ble_eq_true rfl, Nat.le_of_ble_eq_true rfl⟩) rfl rfl hl.1 (Nat.le_of_ble_eq_true rfl) ⟨Nat.zero_le _, Nat.zero_le _⟩ dX11_order_26 (fun H locs hP hS => ?_)
      refine lv_aload_n hx hb dX11_order_29 rfl (lv_at hl 0 rfl) ?_
      refine lv_iconst (v := 0) hx hb dX11_order_30 (by decide) ?_
      refine lv_iconst (v := 0) hx hb dX11_order_31 (by decide) ?_
      refine lv_iconst (v := 0) hx hb dX11_order_32 (by decide) ?_
      obtain ⟨σ5, hq5, hF⟩ := bn_1 hF
      refine x_callV (ci := 11) rfl rfl C hP hS (c_X11_tryOrders hL hq5) (lr_0 hL) (lk_0 hL) (cwV 3 C.1.2.2.2.2 (gdV mw_786 mw_787 mw_788 mw_2 mw_789) rfl rfl rfl hd_X11_tryOrders ⟨Nat.le_of_ble_eq_true rfl, Nat.le_of_ble_eq_true rfl⟩) rfl rfl hl.1 (Nat.le_of_ble_eq_true rfl) ⟨Nat.zero_le _, Nat.zero_le _⟩ dX11_order_33 (fun H locs hP hS => ?_)
      refine lv_aload_n hx hb dX11_order_36 rfl (lv_at hl 0 rfl) ?_
      refine get_11_8 C hP (lr_0 hL) (lk_0 hL) inlX11 mw_717 dX11_order_37 ?_
      refine lv_if_eq (tgt := 54) hx hb dX11_order_40 (by decide) (fun c_6 => ?_) (fun c_6 => ?_) -- COND 6 by_cases c_6 : (σ5 0 8) = 0
      · have hF := ite_t hF c_6
        refine lv_bipush (v := -5) hx hb dX11_order_54 (by decide +kernel) ?_
        obtain ⟨rfl, rfl⟩ := ret_2 hF
        subst hρ0
        exact x_iret rfl C hP hS dX11_order_56
      · have hF := ite_f hF c_6
        refine lv_iload_n hx hb dX11_order_43 rfl (lv_at hl 1 rfl) ?_
        refine lv_aload_n hx hb dX11_order_44 rfl (lv_at hl 0 rfl) ?_
        refine get_11_0 C hP (lr_0 hL) (lk_0 hL) inlX11 mw_15 (lf_0_0 hL) dX11_order_45 ?_
        refine get_8_1 C hP (lr_1 hL) (lk_1 hL) inlX8 mw_352 dX11_order_48 ?_
        refine lv_icmp_lt (tgt := 57) hx hb dX11_order_51 (by decide) (fun c_7 => ?_) (fun c_7 => ?_) -- COND 7 by_cases c_7 : a1 < (σ5 1 1)
        · have hF := ite_t hF c_7
          refine lv_iload_n hx hb dX11_order_57 rfl (lv_at hl 1 rfl) ?_
          refine lv_if_ge (tgt := 68) hx hb dX11_order_58 (by decide) (fun c_8 => ?_) (fun c_8 => ?_) -- COND 8 by_cases c_8 : 0 ≤ a1
          · have hF := ite_t hF c_8
            refine lv_aload_n hx hb dX11_order_68 rfl (lv_at hl 0 rfl) ?_
            refine get_11_7 C hP (lr_0 hL) (lk_0 hL) inlX11 mw_29 (lf_0_7 hL) dX11_order_69 ?_
            refine lv_iload_n hx hb dX11_order_72 rfl (lv_at hl 1 rfl) ?_
            obtain ⟨r9, hq9, hF⟩ := bn_1 hF
            refine x_callS C hP hS (c_X11_valueAt hL ⟨(lr_36 hL), (lk_36 hL), (ln_36 hL)⟩ hq9) (va_cwS 2 C.1.2.2.2.2 (gdS mw_750 mw_557 mw_2 mw_558) rfl rfl rfl hd_X11_valueAt.2 ⟨Nat.le_of_ble_eq_true rfl, Nat.le_of_ble_eq_true rfl⟩) rfl rfl hl.1 (Nat.le_of_ble_eq_true rfl) ⟨Nat.zero_le _, Nat.zero_le _⟩ dX11_order_73 (fun H locs hP hS => ?_)
            obtain ⟨rfl, rfl⟩ := ret_2 hF
            subst hρ0
            exact x_iret rfl C hP hS dX11_order_76
          · have hF := ite_f hF c_8
            refine lv_aload_n hx hb dX11_order_61 rfl (lv_at hl 0 rfl) ?_
            refine get_11_9 C hP (lr_0 hL) (lk_0 hL) inlX11 mw_718 dX11_order_62 ?_
            refine lv_goto (tgt := 76) hx hb dX11_order_65 (by decide) ?_
            obtain ⟨rfl, rfl⟩ := ret_2 hF
            subst hρ0
            exact x_iret rfl C hP hS dX11_order_76
        · have hF := ite_f hF c_7
          refine lv_bipush (v := -5) hx hb dX11_order_54 (by decide +kernel) ?_
          obtain ⟨rfl, rfl⟩ := ret_2 hF
          subst hρ0
          exact x_iret rfl C hP hS dX11_order_56
    · have hF := ite_f hF c_3
      refine lv_bipush (v := -9) hx hb dX11_order_22 (by decide +kernel) ?_
      obtain ⟨rfl, rfl⟩ := ret_2 hF
      subst hρ0
      exact x_iret rfl C hP hS dX11_order_24
  · have hF := ite_t hF c_2
    refine lv_iconst (v := -1) hx hb dX11_order_9 (by decide) ?_
    obtain ⟨rfl, rfl⟩ := ret_2 hF
    subst hρ0
    exact x_iret rfl C hP hS dX11_order_10
set_option maxHeartbeats 4000000 in
set_option maxRecDepth 100000 in
theorem c_X11_order {a1 : Int32} {r : Int32} {σ1 : SG} {σ : SG} {ρ : RG} (hL : Lay N K len ρ) (hF : F_X11_order a1 σ ρ = some (r, σ1)) : MT l Y D N ad K len yX11_order (Cond.code yX11_order cX11_order 2 (some .int) :: wsL_law) rm_X11_order [.ref (ad 0), .int a1] σ ρ (some (.int r)) σ1 ρ := by
  refine mt_of (cc := cX11_order) (nL := 2) (ret := (some .int)) (by decide) (Nat.le_of_ble_eq_true rfl) ?_
  intro p e s m args below meth c ls C hnm hP hS hl
  exact w_X11_order_0 C rfl hL hF hP hS hl

/-! CutCrooked.public int cancel();  -/
theorem dX11_cancel_0 : decode cX11_cancel 0 = .ok (.iconst 0, 1) := by decide +kernel
theorem dX11_cancel_1 : decode cX11_cancel 1 = .ok (.istore_n 1, 1) := by decide +kernel
theorem dX11_cancel_2 : decode cX11_cancel 2 = .ok (.bipush (-5), 2) := by decide +kernel
theorem dX11_cancel_4 : decode cX11_cancel 4 = .ok (.istore_n 2, 1) := by decide +kernel
theorem dX11_cancel_5 : decode cX11_cancel 5 = .ok (.aload_n 0, 1) := by decide +kernel
theorem dX11_cancel_6 : decode cX11_cancel 6 = .ok (.invokevirtual 176, 3) := by decide +kernel
theorem dX11_cancel_9 : decode cX11_cancel 9 = .ok (.iconst 0, 1) := by decide +kernel
theorem dX11_cancel_10 : decode cX11_cancel 10 = .ok (.istore_n 3, 1) := by decide +kernel
theorem dX11_cancel_11 : decode cX11_cancel 11 = .ok (.iload_n 3, 1) := by decide +kernel
theorem dX11_cancel_12 : decode cX11_cancel 12 = .ok (.aload_n 0, 1) := by decide +kernel
theorem dX11_cancel_13 : decode cX11_cancel 13 = .ok (.getfield 12, 3) := by decide +kernel
theorem dX11_cancel_16 : decode cX11_cancel 16 = .ok (.getfield 89, 3) := by decide +kernel
theorem dX11_cancel_19 : decode cX11_cancel 19 = .ok (.if_icmp .ge 105, 3) := by decide +kernel
theorem dX11_cancel_22 : decode cX11_cancel 22 = .ok (.aload_n 0, 1) := by decide +kernel
theorem dX11_cancel_23 : decode cX11_cancel 23 = .ok (.iconst 0, 1) := by decide +kernel
theorem dX11_cancel_24 : decode cX11_cancel 24 = .ok (.aload_n 0, 1) := by decide +kernel
theorem dX11_cancel_25 : decode cX11_cancel 25 = .ok (.getfield 12, 3) := by decide +kernel
theorem dX11_cancel_28 : decode cX11_cancel 28 = .ok (.iload_n 3, 1) := by decide +kernel
theorem dX11_cancel_29 : decode cX11_cancel 29 = .ok (.invokevirtual 100, 3) := by decide +kernel
theorem dX11_cancel_32 : decode cX11_cancel 32 = .ok (.iconst 0, 1) := by decide +kernel
theorem dX11_cancel_124 : decode cX11_cancel 124 = .ok (.iload_n 2, 1) := by decide +kernel
theorem dX11_cancel_125 : decode cX11_cancel 125 = .ok (.ireturn, 1) := by decide +kernel
theorem hd_X11_cancel : yX11_cancel.cls = RX11 ∧ yX11_cancel.cls ≠ "java/lang/invoke/MethodHandle" ∧ yX11_cancel.cls ≠ "java/lang/invoke/VarHandle" ∧ (parseMethodDescriptor yX11_cancel.desc).map (fun d => d.parameters.length) = some 0 := by decide +kernel
abbrev rm_X11_cancel : Room := { frames := 2, cells := 0, slots := 0, locals := 41 }
def F_X11_cancel_11  : Nat → SG → RG → Int32 → Int32 → Int32 → Option (Int32 × SG)
  | 0 => fun _ _ _ _ _ => none
  | n + 1 => fun σ ρ v1 v2 v3 =>
  if (σ 1 1) ≤ v3 then
    some (v2, σ)
  else
    bn (F_X8_cutterAt_1 v3 σ ρ) fun o3 =>
    oc o3
     (
      none /- none: 33: no contract 11.tryStep -/)
     (fun c4 =>
      none /- none: some -/)
def F_X11_cancel  (σ : SG) (ρ : RG) : Option (Int32 × SG) :=
  bn (F_X11_startSteps σ ρ) fun σ1 =>
  F_X11_cancel_11 1024 σ1 ρ (0 : Int32) (-5 : Int32) (0 : Int32)
set_option maxHeartbeats 4000000 in
set_option maxRecDepth 100000 in
theorem w_X11_cancel_11  {p : Program} {e : Env} {s : State} {m : MethodId} {args : Array Value} {below : List Frame} {meth : Method} {c : Code} {ρ0 : RG} {r : Int32} {σ1 : SG} (C : Cx Y D N ad p s m args meth c cX11_cancel 5 (some .int) RX11 wsL_law) : ∀ (n : Nat) (σ : SG) (ρ : RG) (v1 : Int32) (v2 : Int32) (v3 : Int32) (H : Heap) (locs : List Loc) (ls : Array Slot), ρ = ρ0 → Lay N K len ρ → F_X11_cancel_11 n σ ρ v1 v2 v3 = some (r, σ1) → WP Y D N ad K len σ ρ H → va_S (AA N ad s.heap.size) s.heap H locs → lv_has ls 5 [(0, .ref (ad 0)), (1, .int v1), (2, .int v2), (3, .int v3)] → W p l e rm_X11_cancel s m args below meth c H locs 0 0 (MQ below (QW Y D N ad K len σ1 ρ0 (AA N ad s.heap.size) (some (.int r))) args s 0 0 (AA N ad s.heap.size)) (F0 m 11 ls []) := by
  have hx := C.1.1
  have hb := C.1.2.1
  intro n
  induction n with
  | zero => intro σ ρ v1 v2 v3 H locs ls hρ0 hL hF; cases hF
  | succ n ih =>
    intro σ ρ v1 v2 v3 H locs ls hρ0 hL hF hP hS hl
    unfold F_X11_cancel_11 at hF
    refine lv_iload_n hx hb dX11_cancel_11 rfl (lv_at hl 3 rfl) ?_
    refine lv_aload_n hx hb dX11_cancel_12 rfl (lv_at hl 0 rfl) ?_
    refine get_11_0 C hP (lr_0 hL) (lk_0 hL) inlX11 mw_15 (lf_0_0 hL) dX11_cancel_13 ?_
    refine get_8_1 C hP (lr_1 hL) (lk_1 hL) inlX8 mw_352 dX11_cancel_16 ?_
    refine lv_icmp_ge (tgt := 124) hx hb dX11_cancel_19 (by decide) (fun c_2 => ?_) (fun c_2 => ?_) -- COND 2 by_cases c_2 : (σ 1 1) ≤ v3
    · have hF := ite_t hF c_2
      refine lv_iload_n hx hb dX11_cancel_124 rfl (lv_at hl 2 rfl) ?_
      obtain ⟨rfl, rfl⟩ := ret_2 hF
      subst hρ0
      exact x_iret rfl C hP hS dX11_cancel_125
    · have hF := ite_f hF c_2
      refine lv_aload_n hx hb dX11_cancel_22 rfl (lv_at hl 0 rfl) ?_
      refine lv_iconst (v := 0) hx hb dX11_cancel_23 (by decide) ?_
      refine lv_aload_n hx hb dX11_cancel_24 rfl (lv_at hl 0 rfl) ?_
      refine get_11_0 C hP (lr_0 hL) (lk_0 hL) inlX11 mw_15 (lf_0_0 hL) dX11_cancel_25 ?_
      refine lv_iload_n hx hb dX11_cancel_28 rfl (lv_at hl 3 rfl) ?_
      obtain ⟨o3, hq3, hF⟩ := bn_1 hF
      refine x_callV (ci := 8) rfl rfl C hP hS (c_X8_cutterAt_1 hL hq3) (lr_1 hL) (lk_1 hL) (cwV 1 C.1.2.2.2.2 (gdV mw_428 mw_429 mw_430 mw_14 mw_431) rfl rfl rfl hd_X8_cutterAt ⟨Nat.le_of_ble_eq_true rfl, Nat.le_of_ble_eq_true rfl⟩) rfl rfl hl.1 (Nat.le_of_ble_eq_true rfl) ⟨Nat.zero_le _, Nat.zero_le _⟩ dX11_cancel_29 (fun H locs hP hS => ?_)
      rcases ho4 : o3 with _ | c4
      · have hF := oc_n hF ho4
        refine x_n ?_
        refine lv_iconst (v := 0) hx hb dX11_cancel_32 (by decide) ?_
        cases hF
      · have hF := oc_s hF ho4
        refine x_s ?_
        cases hF
set_option maxHeartbeats 4000000 in
set_option maxRecDepth 100000 in
theorem w_X11_cancel_0  {p : Program} {e : Env} {s : State} {m : MethodId} {args : Array Value} {below : List Frame} {meth : Method} {c : Code} {ρ0 : RG} {r : Int32} {σ1 : SG} (C : Cx Y D N ad p s m args meth c cX11_cancel 5 (some .int) RX11 wsL_law) {σ : SG} {ρ : RG} {H : Heap} {locs : List Loc} {ls : Array Slot} (hρ0 : ρ = ρ0) (hL : Lay N K len ρ) (hF : F_X11_cancel σ ρ = some (r, σ1)) (hP : WP Y D N ad K len σ ρ H) (hS : va_S (AA N ad s.heap.size) s.heap H locs) (hl : lv_has ls 5 [(0, .ref (ad 0))]) : W p l e rm_X11_cancel s m args below meth c H locs 0 0 (MQ below (QW Y D N ad K len σ1 ρ0 (AA N ad s.heap.size) (some (.int r))) args s 0 0 (AA N ad s.heap.size)) (F0 m 0 ls []) := by
  have hx := C.1.1
  have hb := C.1.2.1
  unfold F_X11_cancel at hF
  refine lv_iconst (v := 0) hx hb dX11_cancel_0 (by decide) ?_
  refine lv_istore_n (lv' := [(1, .int (0 : Int32)), (0, .ref (ad 0))]) hx hb dX11_cancel_1 rfl hl (by decide) rfl (fun ls hl => ?_)
  refine lv_bipush (v := -5) hx hb dX11_cancel_2 (by decide +kernel) ?_
  refine lv_istore_n (lv' := [(2, .int (-5 : Int32)), (1, .int (0 : Int32)), (0, .ref (ad 0))]) hx hb dX11_cancel_4 rfl hl (by decide) rfl (fun ls hl => ?_)
  refine lv_aload_n hx hb dX11_cancel_5 rfl (lv_at hl 2 rfl) ?_
  obtain ⟨σ1, hq1, hF⟩ := bn_1 hF
  refine x_callV (ci := 11) rfl rfl C hP hS (c_X11_startSteps hL hq1) (lr_0 hL) (lk_0 hL) (cwV 0 C.1.2.2.2.2 (gdV mw_713 mw_714 mw_715 mw_2 mw_716) rfl rfl rfl hd_X11_startSteps ⟨Nat.le_of_ble_eq_true rfl, Nat.le_of_ble_eq_true rfl⟩) rfl rfl hl.1 (Nat.le_of_ble_eq_true rfl) ⟨Nat.zero_le _, Nat.zero_le _⟩ dX11_cancel_6 (fun H locs hP hS => ?_)
  refine lv_iconst (v := 0) hx hb dX11_cancel_9 (by decide) ?_
  refine lv_istore_n (lv' := [(3, .int (0 : Int32)), (2, .int (-5 : Int32)), (1, .int (0 : Int32)), (0, .ref (ad 0))]) hx hb dX11_cancel_10 rfl hl (by decide) rfl (fun ls hl => ?_)
  exact w_X11_cancel_11 C 1024 _ _ _ _ _ _ _ _ hρ0 hL hF hP hS (lv_sub hl [3, 2, 1, 0] rfl)
set_option maxHeartbeats 4000000 in
set_option maxRecDepth 100000 in
theorem c_X11_cancel  {r : Int32} {σ1 : SG} {σ : SG} {ρ : RG} (hL : Lay N K len ρ) (hF : F_X11_cancel σ ρ = some (r, σ1)) : MT l Y D N ad K len yX11_cancel (Cond.code yX11_cancel cX11_cancel 5 (some .int) :: wsL_law) rm_X11_cancel [.ref (ad 0)] σ ρ (some (.int r)) σ1 ρ := by
  refine mt_of (cc := cX11_cancel) (nL := 5) (ret := (some .int)) (by decide) (Nat.le_of_ble_eq_true rfl) ?_
  intro p e s m args below meth c ls C hnm hP hS hl
  exact w_X11_cancel_0 C rfl hL hF hP hS hl

/-! CutCrooked.public int enough(int);  -/
theorem dX11_enough_0 : decode cX11_enough 0 = .ok (.aload_n 0, 1) := by decide +kernel
theorem dX11_enough_1 : decode cX11_enough 1 = .ok (.getfield 12, 3) := by decide +kernel
theorem dX11_enough_4 : decode cX11_enough 4 = .ok (.iload_n 1, 1) := by decide +kernel
theorem dX11_enough_5 : decode cX11_enough 5 = .ok (.invokevirtual 100, 3) := by decide +kernel
theorem dX11_enough_8 : decode cX11_enough 8 = .ok (.astore_n 2, 1) := by decide +kernel
theorem dX11_enough_9 : decode cX11_enough 9 = .ok (.aload_n 2, 1) := by decide +kernel
theorem dX11_enough_10 : decode cX11_enough 10 = .ok (.ifnonnull 5, 3) := by decide +kernel
theorem dX11_enough_13 : decode cX11_enough 13 = .ok (.iconst (-1), 1) := by decide +kernel
theorem dX11_enough_14 : decode cX11_enough 14 = .ok (.ireturn, 1) := by decide +kernel
theorem hd_X11_enough : yX11_enough.cls = RX11 ∧ yX11_enough.cls ≠ "java/lang/invoke/MethodHandle" ∧ yX11_enough.cls ≠ "java/lang/invoke/VarHandle" ∧ (parseMethodDescriptor yX11_enough.desc).map (fun d => d.parameters.length) = some 1 := by decide +kernel
abbrev rm_X11_enough : Room := { frames := 1, cells := 0, slots := 0, locals := 21 }
def F_X11_enough (a1 : Int32) (σ : SG) (ρ : RG) : Option (Int32) :=
  bn (F_X8_cutterAt_1 a1 σ ρ) fun o1 =>
  oc o1
   (
    some (-1 : Int32))
   (fun c2 =>
    none /- none: some -/)
set_option maxHeartbeats 4000000 in
set_option maxRecDepth 100000 in
theorem w_X11_enough_0 {a1 : Int32} {p : Program} {e : Env} {s : State} {m : MethodId} {args : Array Value} {below : List Frame} {meth : Method} {c : Code} {σ0 : SG} {ρ0 : RG} {r : Int32} (C : Cx Y D N ad p s m args meth c cX11_enough 4 (some .int) RX11 wsL_law) {σ : SG} {ρ : RG} {H : Heap} {locs : List Loc} {ls : Array Slot} (hσ0 : σ = σ0) (hρ0 : ρ = ρ0) (hL : Lay N K len ρ) (hF : F_X11_enough a1 σ ρ = some r) (hP : WP Y D N ad K len σ ρ H) (hS : va_S (AA N ad s.heap.size) s.heap H locs) (hl : lv_has ls 4 [(0, .ref (ad 0)), (1, .int a1)]) : W p l e rm_X11_enough s m args below meth c H locs 0 0 (MQ below (QW Y D N ad K len σ0 ρ0 (AA N ad s.heap.size) (some (.int r))) args s 0 0 (AA N ad s.heap.size)) (F0 m 0 ls []) := by
  have hx := C.1.1
  have hb := C.1.2.1
  unfold F_X11_enough at hF
  refine lv_aload_n hx hb dX11_enough_0 rfl (lv_at hl 0 rfl) ?_
  refine get_11_0 C hP (lr_0 hL) (lk_0 hL) inlX11 mw_15 (lf_0_0 hL) dX11_enough_1 ?_
  refine lv_iload_n hx hb dX11_enough_4 rfl (lv_at hl 1 rfl) ?_
  obtain ⟨o1, hq1, hF⟩ := bn_1 hF
  refine x_callV (ci := 8) rfl rfl C hP hS (c_X8_cutterAt_1 hL hq1) (lr_1 hL) (lk_1 hL) (cwV 1 C.1.2.2.2.2 (gdV mw_428 mw_429 mw_430 mw_14 mw_431) rfl rfl rfl hd_X8_cutterAt ⟨Nat.le_of_ble_eq_true rfl, Nat.le_of_ble_eq_true rfl⟩) rfl rfl hl.1 (Nat.le_of_ble_eq_true rfl) ⟨Nat.zero_le _, Nat.zero_le _⟩ dX11_enough_5 (fun H locs hP hS => ?_)
  rcases ho2 : o1 with _ | c2
  · have hF := oc_n hF ho2
    refine x_n ?_
    refine lv_astore_nN (lv' := [(2, .null), (0, .ref (ad 0)), (1, .int a1)]) hx hb dX11_enough_8 rfl hl (by decide) rfl (fun ls hl => ?_)
    refine lv_aload_nN hx hb dX11_enough_9 rfl (lv_at hl 0 rfl) ?_
    refine lv_ifnonnullN hx hb dX11_enough_10 ?_
    refine lv_iconst (v := -1) hx hb dX11_enough_13 (by decide) ?_
    obtain rfl := ret_1 hF
    subst hσ0
    subst hρ0
    exact x_iret rfl C hP hS dX11_enough_14
  · have hF := oc_s hF ho2
    refine x_s ?_
    cases hF
set_option maxHeartbeats 4000000 in
set_option maxRecDepth 100000 in
theorem c_X11_enough {a1 : Int32} {r : Int32} {σ : SG} {ρ : RG} (hL : Lay N K len ρ) (hF : F_X11_enough a1 σ ρ = some r) : MT l Y D N ad K len yX11_enough (Cond.code yX11_enough cX11_enough 4 (some .int) :: wsL_law) rm_X11_enough [.ref (ad 0), .int a1] σ ρ (some (.int r)) σ ρ := by
  refine mt_of (cc := cX11_enough) (nL := 4) (ret := (some .int)) (by decide) (Nat.le_of_ble_eq_true rfl) ?_
  intro p e s m args below meth c ls C hnm hP hS hl
  exact w_X11_enough_0 C rfl rfl hL hF hP hS hl

/-! CutCrooked.public int when(int, int);  -/
theorem dX11_when_0 : decode cX11_when 0 = .ok (.iload_n 2, 1) := by decide +kernel
theorem dX11_when_1 : decode cX11_when 1 = .ok (.iconst 0, 1) := by decide +kernel
theorem dX11_when_2 : decode cX11_when 2 = .ok (.iconst 1, 1) := by decide +kernel
theorem dX11_when_3 : decode cX11_when 3 = .ok (.invokestatic 56, 3) := by decide +kernel
theorem dX11_when_6 : decode cX11_when 6 = .ok (.ifCond .ne 5, 3) := by decide +kernel
theorem dX11_when_9 : decode cX11_when 9 = .ok (.iconst (-1), 1) := by decide +kernel
theorem dX11_when_10 : decode cX11_when 10 = .ok (.ireturn, 1) := by decide +kernel
theorem dX11_when_11 : decode cX11_when 11 = .ok (.iload_n 1, 1) := by decide +kernel
theorem dX11_when_12 : decode cX11_when 12 = .ok (.iconst 1, 1) := by decide +kernel
theorem dX11_when_13 : decode cX11_when 13 = .ok (.bipush 20, 2) := by decide +kernel
theorem dX11_when_15 : decode cX11_when 15 = .ok (.invokestatic 56, 3) := by decide +kernel
theorem dX11_when_18 : decode cX11_when 18 = .ok (.ifCond .ne 6, 3) := by decide +kernel
theorem dX11_when_21 : decode cX11_when 21 = .ok (.bipush (-2), 2) := by decide +kernel
theorem dX11_when_23 : decode cX11_when 23 = .ok (.ireturn, 1) := by decide +kernel
theorem dX11_when_24 : decode cX11_when 24 = .ok (.aload_n 0, 1) := by decide +kernel
theorem dX11_when_25 : decode cX11_when 25 = .ok (.iload_n 1, 1) := by decide +kernel
theorem dX11_when_26 : decode cX11_when 26 = .ok (.iconst (-1), 1) := by decide +kernel
theorem dX11_when_27 : decode cX11_when 27 = .ok (.iconst 0, 1) := by decide +kernel
theorem dX11_when_28 : decode cX11_when 28 = .ok (.iconst 0, 1) := by decide +kernel
theorem dX11_when_29 : decode cX11_when 29 = .ok (.invokevirtual 189, 3) := by decide +kernel
theorem dX11_when_32 : decode cX11_when 32 = .ok (.aload_n 0, 1) := by decide +kernel
theorem dX11_when_33 : decode cX11_when 33 = .ok (.getfield 193, 3) := by decide +kernel
theorem dX11_when_36 : decode cX11_when 36 = .ok (.istore_n 3, 1) := by decide +kernel
theorem dX11_when_37 : decode cX11_when 37 = .ok (.bipush (-5), 2) := by decide +kernel
theorem dX11_when_39 : decode cX11_when 39 = .ok (.istore 4, 2) := by decide +kernel
theorem dX11_when_41 : decode cX11_when 41 = .ok (.iconst 0, 1) := by decide +kernel
theorem dX11_when_42 : decode cX11_when 42 = .ok (.istore 5, 2) := by decide +kernel
theorem dX11_when_44 : decode cX11_when 44 = .ok (.iload 5, 2) := by decide +kernel
theorem dX11_when_46 : decode cX11_when 46 = .ok (.iload_n 1, 1) := by decide +kernel
theorem dX11_when_47 : decode cX11_when 47 = .ok (.if_icmp .ge 35, 3) := by decide +kernel
theorem dX11_when_50 : decode cX11_when 50 = .ok (.aload_n 0, 1) := by decide +kernel
theorem dX11_when_51 : decode cX11_when 51 = .ok (.iload_n 1, 1) := by decide +kernel
theorem dX11_when_52 : decode cX11_when 52 = .ok (.iload 5, 2) := by decide +kernel
theorem dX11_when_54 : decode cX11_when 54 = .ok (.iconst 0, 1) := by decide +kernel
theorem dX11_when_55 : decode cX11_when 55 = .ok (.iconst 0, 1) := by decide +kernel
theorem dX11_when_56 : decode cX11_when 56 = .ok (.invokevirtual 189, 3) := by decide +kernel
theorem dX11_when_59 : decode cX11_when 59 = .ok (.aload_n 0, 1) := by decide +kernel
theorem dX11_when_60 : decode cX11_when 60 = .ok (.getfield 193, 3) := by decide +kernel
theorem dX11_when_63 : decode cX11_when 63 = .ok (.iload_n 3, 1) := by decide +kernel
theorem dX11_when_64 : decode cX11_when 64 = .ok (.if_icmp .le 12, 3) := by decide +kernel
theorem dX11_when_67 : decode cX11_when 67 = .ok (.aload_n 0, 1) := by decide +kernel
theorem dX11_when_68 : decode cX11_when 68 = .ok (.getfield 193, 3) := by decide +kernel
theorem dX11_when_71 : decode cX11_when 71 = .ok (.istore_n 3, 1) := by decide +kernel
theorem dX11_when_72 : decode cX11_when 72 = .ok (.iload 5, 2) := by decide +kernel
theorem dX11_when_74 : decode cX11_when 74 = .ok (.istore 4, 2) := by decide +kernel
theorem dX11_when_76 : decode cX11_when 76 = .ok (.iinc 5 1, 3) := by decide +kernel
theorem dX11_when_79 : decode cX11_when 79 = .ok (.goto (-35), 3) := by decide +kernel
theorem dX11_when_82 : decode cX11_when 82 = .ok (.iload_n 2, 1) := by decide +kernel
theorem dX11_when_83 : decode cX11_when 83 = .ok (.ifCond .eq 10, 3) := by decide +kernel
theorem dX11_when_86 : decode cX11_when 86 = .ok (.iload 4, 2) := by decide +kernel
theorem dX11_when_88 : decode cX11_when 88 = .ok (.bipush (-5), 2) := by decide +kernel
theorem dX11_when_90 : decode cX11_when 90 = .ok (.if_icmp .ne 8, 3) := by decide +kernel
theorem dX11_when_93 : decode cX11_when 93 = .ok (.iload 4, 2) := by decide +kernel
theorem dX11_when_95 : decode cX11_when 95 = .ok (.goto 4, 3) := by decide +kernel
theorem dX11_when_98 : decode cX11_when 98 = .ok (.iload_n 3, 1) := by decide +kernel
theorem dX11_when_99 : decode cX11_when 99 = .ok (.ireturn, 1) := by decide +kernel
theorem hd_X11_when : yX11_when.cls = RX11 ∧ yX11_when.cls ≠ "java/lang/invoke/MethodHandle" ∧ yX11_when.cls ≠ "java/lang/invoke/VarHandle" ∧ (parseMethodDescriptor yX11_when.desc).map (fun d => d.parameters.length) = some 2 := by decide +kernel
abbrev rm_X11_when : Room := { frames := 4, cells := 0, slots := 0, locals := 89 }
def F_X11_when_76 (a1 : Int32) (a2 : Int32) (rec_44 : SG → RG → Int32 → Int32 → Int32 → Int32 → Int32 → Option (Int32 × SG)) (σ : SG) (ρ : RG) (v1 : Int32) (v2 : Int32) (v3 : Int32) (v4 : Int32) (v5 : Int32) : Option (Int32 × SG) :=
  nm (v5 + (1 : Int32)) fun x11 =>
  rec_44 σ ρ v1 v2 v3 v4 x11
def F_X11_when_44 (a1 : Int32) (a2 : Int32) : Nat → SG → RG → Int32 → Int32 → Int32 → Int32 → Int32 → Option (Int32 × SG)
  | 0 => fun _ _ _ _ _ _ _ => none
  | n + 1 => fun σ ρ v1 v2 v3 v4 v5 =>
  if v1 ≤ v5 then
    if v2 = 0 then
      some (v4, σ)
    else
      if v4 = (-5 : Int32) then
        some (v4, σ)
      else
        some (v3, σ)
  else
    bn (F_X11_goOn v1 v5 (0 : Int32) (0 : Int32) σ ρ) fun σ9 =>
    if (σ9 0 13) ≤ v3 then
      F_X11_when_76 a1 a2 (F_X11_when_44 a1 a2 n) σ9 ρ v1 v2 v3 v4 v5
    else
      F_X11_when_76 a1 a2 (F_X11_when_44 a1 a2 n) σ9 ρ v1 v2 (σ9 0 13) v5 v5
def F_X11_when (a1 : Int32) (a2 : Int32) (σ : SG) (ρ : RG) : Option (Int32 × SG) :=
  bn (F_X11_isWithin a2 (0 : Int32) (1 : Int32) σ ρ) fun r1 =>
  if r1 = 0 then
    some ((-1 : Int32), σ)
  else
    bn (F_X11_isWithin a1 (1 : Int32) (20 : Int32) σ ρ) fun r3 =>
    if r3 = 0 then
      some ((-2 : Int32), σ)
    else
      bn (F_X11_goOn a1 (-1 : Int32) (0 : Int32) (0 : Int32) σ ρ) fun σ5 =>
      F_X11_when_44 a1 a2 1024 σ5 ρ a1 a2 (σ5 0 13) (-5 : Int32) (0 : Int32)
set_option maxHeartbeats 4000000 in
set_option maxRecDepth 100000 in
theorem w_X11_when_76 {a1 : Int32} {a2 : Int32} {rec_44 : SG → RG → Int32 → Int32 → Int32 → Int32 → Int32 → Option (Int32 × SG)} {p : Program} {e : Env} {s : State} {m : MethodId} {args : Array Value} {below : List Frame} {meth : Method} {c : Code} {ρ0 : RG} {r : Int32} {σ1 : SG} (C : Cx Y D N ad p s m args meth c cX11_when 6 (some .int) RX11 wsL_law) (hrec_44 : ∀ (σ : SG) (ρ : RG) (v1 : Int32) (v2 : Int32) (v3 : Int32) (v4 : Int32) (v5 : Int32) (H : Heap) (locs : List Loc) (ls : Array Slot), ρ = ρ0 → Lay N K len ρ → rec_44 σ ρ v1 v2 v3 v4 v5 = some (r, σ1) → WP Y D N ad K len σ ρ H → va_S (AA N ad s.heap.size) s.heap H locs → lv_has ls 6 [(0, .ref (ad 0)), (1, .int v1), (2, .int v2), (3, .int v3), (4, .int v4), (5, .int v5)] → W p l e rm_X11_when s m args below meth c H locs 0 0 (MQ below (QW Y D N ad K len σ1 ρ0 (AA N ad s.heap.size) (some (.int r))) args s 0 0 (AA N ad s.heap.size)) (F0 m 44 ls [])) {σ : SG} {ρ : RG} {v1 : Int32} {v2 : Int32} {v3 : Int32} {v4 : Int32} {v5 : Int32} {H : Heap} {locs : List Loc} {ls : Array Slot} (hρ0 : ρ = ρ0) (hL : Lay N K len ρ) (hF : F_X11_when_76 a1 a2 rec_44 σ ρ v1 v2 v3 v4 v5 = some (r, σ1)) (hP : WP Y D N ad K len σ ρ H) (hS : va_S (AA N ad s.heap.size) s.heap H locs) (hl : lv_has ls 6 [(0, .ref (ad 0)), (1, .int v1), (2, .int v2), (3, .int v3), (4, .int v4), (5, .int v5)]) : W p l e rm_X11_when s m args below meth c H locs 0 0 (MQ below (QW Y D N ad K len σ1 ρ0 (AA N ad s.heap.size) (some (.int r))) args s 0 0 (AA N ad s.heap.size)) (F0 m 76 ls []) := by
  have hx := C.1.1
  have hb := C.1.2.1
  unfold F_X11_when_76 at hF
  obtain ⟨x11, ex11, hF⟩ := nm_1 hF
  refine lv_iinc (v := x11) (lv' := [(5, .int x11), (0, .ref (ad 0)), (1, .int v1), (2, .int v2), (3, .int v3), (4, .int v4)]) hx hb dX11_when_76 hl (k := 5) rfl (by rw [ex11]; first | rfl | decide) (by decide) rfl (fun ls hl => ?_)
  refine lv_goto (tgt := 44) hx hb dX11_when_79 (by decide) ?_
  exact hrec_44 _ _ _ _ _ _ _ _ _ _ hρ0 hL hF hP hS (lv_sub hl [1, 2, 3, 4, 5, 0] rfl)
set_option maxHeartbeats 4000000 in
set_option maxRecDepth 100000 in
theorem w_X11_when_44 {a1 : Int32} {a2 : Int32} {p : Program} {e : Env} {s : State} {m : MethodId} {args : Array Value} {below : List Frame} {meth : Method} {c : Code} {ρ0 : RG} {r : Int32} {σ1 : SG} (C : Cx Y D N ad p s m args meth c cX11_when 6 (some .int) RX11 wsL_law) : ∀ (n : Nat) (σ : SG) (ρ : RG) (v1 : Int32) (v2 : Int32) (v3 : Int32) (v4 : Int32) (v5 : Int32) (H : Heap) (locs : List Loc) (ls : Array Slot), ρ = ρ0 → Lay N K len ρ → F_X11_when_44 a1 a2 n σ ρ v1 v2 v3 v4 v5 = some (r, σ1) → WP Y D N ad K len σ ρ H → va_S (AA N ad s.heap.size) s.heap H locs → lv_has ls 6 [(0, .ref (ad 0)), (1, .int v1), (2, .int v2), (3, .int v3), (4, .int v4), (5, .int v5)] → W p l e rm_X11_when s m args below meth c H locs 0 0 (MQ below (QW Y D N ad K len σ1 ρ0 (AA N ad s.heap.size) (some (.int r))) args s 0 0 (AA N ad s.heap.size)) (F0 m 44 ls []) := by
  have hx := C.1.1
  have hb := C.1.2.1
  intro n
  induction n with
  | zero => intro σ ρ v1 v2 v3 v4 v5 H locs ls hρ0 hL hF; cases hF
  | succ n ih =>
    intro σ ρ v1 v2 v3 v4 v5 H locs ls hρ0 hL hF hP hS hl
    unfold F_X11_when_44 at hF
    refine lv_iload hx hb dX11_when_44 (lv_at hl 5 rfl) ?_
    refine lv_iload_n hx hb dX11_when_46 rfl (lv_at hl 1 rfl) ?_
    refine lv_icmp_ge (tgt := 82) hx hb dX11_when_47 (by decide) (fun c_6 => ?_) (fun c_6 => ?_) -- COND 6 by_cases c_6 : v1 ≤ v5
    · have hF := ite_t hF c_6
      refine lv_iload_n hx hb dX11_when_82 rfl (lv_at hl 2 rfl) ?_
      refine lv_if_eq (tgt := 93) hx hb dX11_when_83 (by decide) (fun c_7 => ?_) (fun c_7 => ?_) -- COND 7 by_cases c_7 : v2 = 0
      · have hF := ite_t hF c_7
        refine lv_iload hx hb dX11_when_93 (lv_at hl 4 rfl) ?_
        refine lv_goto (tgt := 99) hx hb dX11_when_95 (by decide) ?_
        obtain ⟨rfl, rfl⟩ := ret_2 hF
        subst hρ0
        exact x_iret rfl C hP hS dX11_when_99
      · have hF := ite_f hF c_7
        refine lv_iload hx hb dX11_when_86 (lv_at hl 4 rfl) ?_
        refine lv_bipush (v := -5) hx hb dX11_when_88 (by decide +kernel) ?_
        refine lv_icmp_ne (tgt := 98) hx hb dX11_when_90 (by decide) (fun c_8 => ?_) (fun c_8 => ?_) -- COND 8 rcases (Decidable.em (v4 = (-5 : Int32))).symm with c_8 | c_8
        · have hF := ite_f hF c_8
          refine lv_iload_n hx hb dX11_when_98 rfl (lv_at hl 3 rfl) ?_
          obtain ⟨rfl, rfl⟩ := ret_2 hF
          subst hρ0
          exact x_iret rfl C hP hS dX11_when_99
        · have hF := ite_t hF c_8
          refine lv_iload hx hb dX11_when_93 (lv_at hl 4 rfl) ?_
          refine lv_goto (tgt := 99) hx hb dX11_when_95 (by decide) ?_
          obtain ⟨rfl, rfl⟩ := ret_2 hF
          subst hρ0
          exact x_iret rfl C hP hS dX11_when_99
    · have hF := ite_f hF c_6
      refine lv_aload_n hx hb dX11_when_50 rfl (lv_at hl 0 rfl) ?_
      refine lv_iload_n hx hb dX11_when_51 rfl (lv_at hl 1 rfl) ?_
      refine lv_iload hx hb dX11_when_52 (lv_at hl 5 rfl) ?_
      refine lv_iconst (v := 0) hx hb dX11_when_54 (by decide) ?_
      refine lv_iconst (v := 0) hx hb dX11_when_55 (by decide) ?_
      obtain ⟨σ9, hq9, hF⟩ := bn_1 hF
      refine x_callV (ci := 11) rfl rfl C hP hS (c_X11_goOn hL hq9) (lr_0 hL) (lk_0 hL) (cwV 4 C.1.2.2.2.2 (gdV mw_745 mw_746 mw_747 mw_2 mw_748) rfl rfl rfl hd_X11_goOn ⟨Nat.le_of_ble_eq_true rfl, Nat.le_of_ble_eq_true rfl⟩) rfl rfl hl.1 (Nat.le_of_ble_eq_true rfl) ⟨Nat.zero_le _, Nat.zero_le _⟩ dX11_when_56 (fun H locs hP hS => ?_)
      refine lv_aload_n hx hb dX11_when_59 rfl (lv_at hl 0 rfl) ?_
      refine get_11_13 C hP (lr_0 hL) (lk_0 hL) inlX11 mw_744 dX11_when_60 ?_
      refine lv_iload_n hx hb dX11_when_63 rfl (lv_at hl 3 rfl) ?_
      refine lv_icmp_le (tgt := 76) hx hb dX11_when_64 (by decide) (fun c_10 => ?_) (fun c_10 => ?_) -- COND 10 by_cases c_10 : (σ9 0 13) ≤ v3
      · have hF := ite_t hF c_10
        exact w_X11_when_76 C ih hρ0 hL hF hP hS (lv_sub hl [0, 1, 2, 3, 4, 5] rfl)
      · have hF := ite_f hF c_10
        refine lv_aload_n hx hb dX11_when_67 rfl (lv_at hl 0 rfl) ?_
        refine get_11_13 C hP (lr_0 hL) (lk_0 hL) inlX11 mw_744 dX11_when_68 ?_
        refine lv_istore_n (lv' := [(3, .int (σ9 0 13)), (0, .ref (ad 0)), (1, .int v1), (2, .int v2), (4, .int v4), (5, .int v5)]) hx hb dX11_when_71 rfl hl (by decide) rfl (fun ls hl => ?_)
        refine lv_iload hx hb dX11_when_72 (lv_at hl 5 rfl) ?_
        refine lv_istore (lv' := [(4, .int v5), (3, .int (σ9 0 13)), (0, .ref (ad 0)), (1, .int v1), (2, .int v2), (5, .int v5)]) hx hb dX11_when_74 hl (by decide) rfl (fun ls hl => ?_)
        exact w_X11_when_76 C ih hρ0 hL hF hP hS (lv_sub hl [2, 3, 4, 1, 0, 5] rfl)
set_option maxHeartbeats 4000000 in
set_option maxRecDepth 100000 in
theorem w_X11_when_0 {a1 : Int32} {a2 : Int32} {p : Program} {e : Env} {s : State} {m : MethodId} {args : Array Value} {below : List Frame} {meth : Method} {c : Code} {ρ0 : RG} {r : Int32} {σ1 : SG} (C : Cx Y D N ad p s m args meth c cX11_when 6 (some .int) RX11 wsL_law) {σ : SG} {ρ : RG} {H : Heap} {locs : List Loc} {ls : Array Slot} (hρ0 : ρ = ρ0) (hL : Lay N K len ρ) (hF : F_X11_when a1 a2 σ ρ = some (r, σ1)) (hP : WP Y D N ad K len σ ρ H) (hS : va_S (AA N ad s.heap.size) s.heap H locs) (hl : lv_has ls 6 [(0, .ref (ad 0)), (1, .int a1), (2, .int a2)]) : W p l e rm_X11_when s m args below meth c H locs 0 0 (MQ below (QW Y D N ad K len σ1 ρ0 (AA N ad s.heap.size) (some (.int r))) args s 0 0 (AA N ad s.heap.size)) (F0 m 0 ls []) := by
  have hx := C.1.1
  have hb := C.1.2.1
  unfold F_X11_when at hF
  refine lv_iload_n hx hb dX11_when_0 rfl (lv_at hl 2 rfl) ?_
  refine lv_iconst (v := 0) hx hb dX11_when_1 (by decide) ?_
  refine lv_iconst (v := 1) hx hb dX11_when_2 (by decide) ?_
  obtain ⟨r1, hq1, hF⟩ := bn_1 hF
  refine x_callS C hP hS (c_X11_isWithin hL hq1) (va_cwS 3 C.1.2.2.2.2 (gdS mw_97 mw_98 mw_2 mw_99) rfl rfl rfl hd_X11_isWithin.2 ⟨Nat.le_of_ble_eq_true rfl, Nat.le_of_ble_eq_true rfl⟩) rfl rfl hl.1 (Nat.le_of_ble_eq_true rfl) ⟨Nat.zero_le _, Nat.zero_le _⟩ dX11_when_3 (fun H locs hP hS => ?_)
  refine lv_if_ne (tgt := 11) hx hb dX11_when_6 (by decide) (fun c_2 => ?_) (fun c_2 => ?_) -- COND 2 rcases (Decidable.em (r1 = 0)).symm with c_2 | c_2
  · have hF := ite_f hF c_2
    refine lv_iload_n hx hb dX11_when_11 rfl (lv_at hl 1 rfl) ?_
    refine lv_iconst (v := 1) hx hb dX11_when_12 (by decide) ?_
    refine lv_bipush (v := 20) hx hb dX11_when_13 (by decide +kernel) ?_
    obtain ⟨r3, hq3, hF⟩ := bn_1 hF
    refine x_callS C hP hS (c_X11_isWithin hL hq3) (va_cwS 3 C.1.2.2.2.2 (gdS mw_97 mw_98 mw_2 mw_99) rfl rfl rfl hd_X11_isWithin.2 ⟨Nat.le_of_ble_eq_true rfl, Nat.le_of_ble_eq_true rfl⟩) rfl rfl hl.1 (Nat.le_of_ble_eq_true rfl) ⟨Nat.zero_le _, Nat.zero_le _⟩ dX11_when_15 (fun H locs hP hS => ?_)
    refine lv_if_ne (tgt := 24) hx hb dX11_when_18 (by decide) (fun c_4 => ?_) (fun c_4 => ?_) -- COND 4 rcases (Decidable.em (r3 = 0)).symm with c_4 | c_4
    · have hF := ite_f hF c_4
      refine lv_aload_n hx hb dX11_when_24 rfl (lv_at hl 0 rfl) ?_
      refine lv_iload_n hx hb dX11_when_25 rfl (lv_at hl 1 rfl) ?_
      refine lv_iconst (v := -1) hx hb dX11_when_26 (by decide) ?_
      refine lv_iconst (v := 0) hx hb dX11_when_27 (by decide) ?_
      refine lv_iconst (v := 0) hx hb dX11_when_28 (by decide) ?_
      obtain ⟨σ5, hq5, hF⟩ := bn_1 hF
      refine x_callV (ci := 11) rfl rfl C hP hS (c_X11_goOn hL hq5) (lr_0 hL) (lk_0 hL) (cwV 4 C.1.2.2.2.2 (gdV mw_745 mw_746 mw_747 mw_2 mw_748) rfl rfl rfl hd_X11_goOn ⟨Nat.le_of_ble_eq_true rfl, Nat.le_of_ble_eq_true rfl⟩) rfl rfl hl.1 (Nat.le_of_ble_eq_true rfl) ⟨Nat.zero_le _, Nat.zero_le _⟩ dX11_when_29 (fun H locs hP hS => ?_)
      refine lv_aload_n hx hb dX11_when_32 rfl (lv_at hl 0 rfl) ?_
      refine get_11_13 C hP (lr_0 hL) (lk_0 hL) inlX11 mw_744 dX11_when_33 ?_
      refine lv_istore_n (lv' := [(3, .int (σ5 0 13)), (0, .ref (ad 0)), (1, .int a1), (2, .int a2)]) hx hb dX11_when_36 rfl hl (by decide) rfl (fun ls hl => ?_)
      refine lv_bipush (v := -5) hx hb dX11_when_37 (by decide +kernel) ?_
      refine lv_istore (lv' := [(4, .int (-5 : Int32)), (3, .int (σ5 0 13)), (0, .ref (ad 0)), (1, .int a1), (2, .int a2)]) hx hb dX11_when_39 hl (by decide) rfl (fun ls hl => ?_)
      refine lv_iconst (v := 0) hx hb dX11_when_41 (by decide) ?_
      refine lv_istore (lv' := [(5, .int (0 : Int32)), (4, .int (-5 : Int32)), (3, .int (σ5 0 13)), (0, .ref (ad 0)), (1, .int a1), (2, .int a2)]) hx hb dX11_when_42 hl (by decide) rfl (fun ls hl => ?_)
      exact w_X11_when_44 C 1024 _ _ _ _ _ _ _ _ _ _ hρ0 hL hF hP hS (lv_sub hl [3, 4, 5, 2, 1, 0] rfl)
    · have hF := ite_t hF c_4
      refine lv_bipush (v := -2) hx hb dX11_when_21 (by decide +kernel) ?_
      obtain ⟨rfl, rfl⟩ := ret_2 hF
      subst hρ0
      exact x_iret rfl C hP hS dX11_when_23
  · have hF := ite_t hF c_2
    refine lv_iconst (v := -1) hx hb dX11_when_9 (by decide) ?_
    obtain ⟨rfl, rfl⟩ := ret_2 hF
    subst hρ0
    exact x_iret rfl C hP hS dX11_when_10
set_option maxHeartbeats 4000000 in
set_option maxRecDepth 100000 in
theorem c_X11_when {a1 : Int32} {a2 : Int32} {r : Int32} {σ1 : SG} {σ : SG} {ρ : RG} (hL : Lay N K len ρ) (hF : F_X11_when a1 a2 σ ρ = some (r, σ1)) : MT l Y D N ad K len yX11_when (Cond.code yX11_when cX11_when 6 (some .int) :: wsL_law) rm_X11_when [.ref (ad 0), .int a1, .int a2] σ ρ (some (.int r)) σ1 ρ := by
  refine mt_of (cc := cX11_when) (nL := 6) (ret := (some .int)) (by decide) (Nat.le_of_ble_eq_true rfl) ?_
  intro p e s m args below meth c ls C hnm hP hS hl
  exact w_X11_when_0 C rfl hL hF hP hS hl

/-! CutCrooked.public int guide(int);  -/
theorem dX11_guide_0 : decode cX11_guide 0 = .ok (.iload_n 1, 1) := by decide +kernel
theorem dX11_guide_1 : decode cX11_guide 1 = .ok (.iconst 0, 1) := by decide +kernel
theorem dX11_guide_2 : decode cX11_guide 2 = .ok (.bipush 40, 2) := by decide +kernel
theorem dX11_guide_4 : decode cX11_guide 4 = .ok (.invokestatic 56, 3) := by decide +kernel
theorem dX11_guide_7 : decode cX11_guide 7 = .ok (.ifCond .ne 7, 3) := by decide +kernel
theorem dX11_guide_10 : decode cX11_guide 10 = .ok (.sipush (-10002), 3) := by decide +kernel
theorem dX11_guide_13 : decode cX11_guide 13 = .ok (.ireturn, 1) := by decide +kernel
theorem dX11_guide_14 : decode cX11_guide 14 = .ok (.aload_n 0, 1) := by decide +kernel
theorem dX11_guide_15 : decode cX11_guide 15 = .ok (.iload_n 1, 1) := by decide +kernel
theorem dX11_guide_16 : decode cX11_guide 16 = .ok (.iconst (-1), 1) := by decide +kernel
theorem dX11_guide_17 : decode cX11_guide 17 = .ok (.iconst 0, 1) := by decide +kernel
theorem dX11_guide_18 : decode cX11_guide 18 = .ok (.iconst 0, 1) := by decide +kernel
theorem dX11_guide_19 : decode cX11_guide 19 = .ok (.invokevirtual 189, 3) := by decide +kernel
theorem dX11_guide_22 : decode cX11_guide 22 = .ok (.aload_n 0, 1) := by decide +kernel
theorem dX11_guide_23 : decode cX11_guide 23 = .ok (.getfield 193, 3) := by decide +kernel
theorem dX11_guide_26 : decode cX11_guide 26 = .ok (.istore_n 2, 1) := by decide +kernel
theorem dX11_guide_27 : decode cX11_guide 27 = .ok (.aload_n 0, 1) := by decide +kernel
theorem dX11_guide_28 : decode cX11_guide 28 = .ok (.iload_n 1, 1) := by decide +kernel
theorem dX11_guide_29 : decode cX11_guide 29 = .ok (.iconst (-1), 1) := by decide +kernel
theorem dX11_guide_30 : decode cX11_guide 30 = .ok (.iconst 1, 1) := by decide +kernel
theorem dX11_guide_31 : decode cX11_guide 31 = .ok (.iconst 0, 1) := by decide +kernel
theorem dX11_guide_32 : decode cX11_guide 32 = .ok (.invokevirtual 189, 3) := by decide +kernel
theorem dX11_guide_35 : decode cX11_guide 35 = .ok (.aload_n 0, 1) := by decide +kernel
theorem dX11_guide_36 : decode cX11_guide 36 = .ok (.getfield 193, 3) := by decide +kernel
theorem dX11_guide_39 : decode cX11_guide 39 = .ok (.iload_n 2, 1) := by decide +kernel
theorem dX11_guide_40 : decode cX11_guide 40 = .ok (.isub, 1) := by decide +kernel
theorem dX11_guide_41 : decode cX11_guide 41 = .ok (.ireturn, 1) := by decide +kernel
theorem hd_X11_guide : yX11_guide.cls = RX11 ∧ yX11_guide.cls ≠ "java/lang/invoke/MethodHandle" ∧ yX11_guide.cls ≠ "java/lang/invoke/VarHandle" ∧ (parseMethodDescriptor yX11_guide.desc).map (fun d => d.parameters.length) = some 1 := by decide +kernel
abbrev rm_X11_guide : Room := { frames := 4, cells := 0, slots := 0, locals := 89 }
def F_X11_guide (a1 : Int32) (σ : SG) (ρ : RG) : Option (Int32 × SG) :=
  bn (F_X11_isWithin a1 (0 : Int32) (40 : Int32) σ ρ) fun r1 =>
  if r1 = 0 then
    some ((-10002 : Int32), σ)
  else
    bn (F_X11_goOn a1 (-1 : Int32) (0 : Int32) (0 : Int32) σ ρ) fun σ3 =>
    bn (F_X11_goOn a1 (-1 : Int32) (1 : Int32) (0 : Int32) σ3 ρ) fun σ4 =>
    nm ((σ4 0 13) - (σ3 0 13)) fun x5 =>
    some (x5, σ4)
set_option maxHeartbeats 4000000 in
set_option maxRecDepth 100000 in
theorem w_X11_guide_0 {a1 : Int32} {p : Program} {e : Env} {s : State} {m : MethodId} {args : Array Value} {below : List Frame} {meth : Method} {c : Code} {ρ0 : RG} {r : Int32} {σ1 : SG} (C : Cx Y D N ad p s m args meth c cX11_guide 3 (some .int) RX11 wsL_law) {σ : SG} {ρ : RG} {H : Heap} {locs : List Loc} {ls : Array Slot} (hρ0 : ρ = ρ0) (hL : Lay N K len ρ) (hF : F_X11_guide a1 σ ρ = some (r, σ1)) (hP : WP Y D N ad K len σ ρ H) (hS : va_S (AA N ad s.heap.size) s.heap H locs) (hl : lv_has ls 3 [(0, .ref (ad 0)), (1, .int a1)]) : W p l e rm_X11_guide s m args below meth c H locs 0 0 (MQ below (QW Y D N ad K len σ1 ρ0 (AA N ad s.heap.size) (some (.int r))) args s 0 0 (AA N ad s.heap.size)) (F0 m 0 ls []) := by
  have hx := C.1.1
  have hb := C.1.2.1
  unfold F_X11_guide at hF
  refine lv_iload_n hx hb dX11_guide_0 rfl (lv_at hl 1 rfl) ?_
  refine lv_iconst (v := 0) hx hb dX11_guide_1 (by decide) ?_
  refine lv_bipush (v := 40) hx hb dX11_guide_2 (by decide +kernel) ?_
  obtain ⟨r1, hq1, hF⟩ := bn_1 hF
  refine x_callS C hP hS (c_X11_isWithin hL hq1) (va_cwS 3 C.1.2.2.2.2 (gdS mw_97 mw_98 mw_2 mw_99) rfl rfl rfl hd_X11_isWithin.2 ⟨Nat.le_of_ble_eq_true rfl, Nat.le_of_ble_eq_true rfl⟩) rfl rfl hl.1 (Nat.le_of_ble_eq_true rfl) ⟨Nat.zero_le _, Nat.zero_le _⟩ dX11_guide_4 (fun H locs hP hS => ?_)
  refine lv_if_ne (tgt := 14) hx hb dX11_guide_7 (by decide) (fun c_2 => ?_) (fun c_2 => ?_) -- COND 2 rcases (Decidable.em (r1 = 0)).symm with c_2 | c_2
  · have hF := ite_f hF c_2
    refine lv_aload_n hx hb dX11_guide_14 rfl (lv_at hl 0 rfl) ?_
    refine lv_iload_n hx hb dX11_guide_15 rfl (lv_at hl 1 rfl) ?_
    refine lv_iconst (v := -1) hx hb dX11_guide_16 (by decide) ?_
    refine lv_iconst (v := 0) hx hb dX11_guide_17 (by decide) ?_
    refine lv_iconst (v := 0) hx hb dX11_guide_18 (by decide) ?_
    obtain ⟨σ3, hq3, hF⟩ := bn_1 hF
    refine x_callV (ci := 11) rfl rfl C hP hS (c_X11_goOn hL hq3) (lr_0 hL) (lk_0 hL) (cwV 4 C.1.2.2.2.2 (gdV mw_745 mw_746 mw_747 mw_2 mw_748) rfl rfl rfl hd_X11_goOn ⟨Nat.le_of_ble_eq_true rfl, Nat.le_of_ble_eq_true rfl⟩) rfl rfl hl.1 (Nat.le_of_ble_eq_true rfl) ⟨Nat.zero_le _, Nat.zero_le _⟩ dX11_guide_19 (fun H locs hP hS => ?_)
    refine lv_aload_n hx hb dX11_guide_22 rfl (lv_at hl 0 rfl) ?_
    refine get_11_13 C hP (lr_0 hL) (lk_0 hL) inlX11 mw_744 dX11_guide_23 ?_
    refine lv_istore_n (lv' := [(2, .int (σ3 0 13)), (0, .ref (ad 0)), (1, .int a1)]) hx hb dX11_guide_26 rfl hl (by decide) rfl (fun ls hl => ?_)
    refine lv_aload_n hx hb dX11_guide_27 rfl (lv_at hl 1 rfl) ?_
    refine lv_iload_n hx hb dX11_guide_28 rfl (lv_at hl 2 rfl) ?_
    refine lv_iconst (v := -1) hx hb dX11_guide_29 (by decide) ?_
    refine lv_iconst (v := 1) hx hb dX11_guide_30 (by decide) ?_
    refine lv_iconst (v := 0) hx hb dX11_guide_31 (by decide) ?_
    obtain ⟨σ4, hq4, hF⟩ := bn_1 hF
    refine x_callV (ci := 11) rfl rfl C hP hS (c_X11_goOn hL hq4) (lr_0 hL) (lk_0 hL) (cwV 4 C.1.2.2.2.2 (gdV mw_745 mw_746 mw_747 mw_2 mw_748) rfl rfl rfl hd_X11_goOn ⟨Nat.le_of_ble_eq_true rfl, Nat.le_of_ble_eq_true rfl⟩) rfl rfl hl.1 (Nat.le_of_ble_eq_true rfl) ⟨Nat.zero_le _, Nat.zero_le _⟩ dX11_guide_32 (fun H locs hP hS => ?_)
    refine lv_aload_n hx hb dX11_guide_35 rfl (lv_at hl 1 rfl) ?_
    refine get_11_13 C hP (lr_0 hL) (lk_0 hL) inlX11 mw_744 dX11_guide_36 ?_
    refine lv_iload_n hx hb dX11_guide_39 rfl (lv_at hl 0 rfl) ?_
    refine lv_isub hx hb dX11_guide_40 ?_
    obtain ⟨x5, ex5, hF⟩ := nm_1 hF
    refine x_top ex5 ?_
    obtain ⟨rfl, rfl⟩ := ret_2 hF
    subst hρ0
    exact x_iret rfl C hP hS dX11_guide_41
  · have hF := ite_t hF c_2
    refine lv_sipush (v := -10002) hx hb dX11_guide_10 (by decide +kernel) ?_
    obtain ⟨rfl, rfl⟩ := ret_2 hF
    subst hρ0
    exact x_iret rfl C hP hS dX11_guide_13
set_option maxHeartbeats 4000000 in
set_option maxRecDepth 100000 in
theorem c_X11_guide {a1 : Int32} {r : Int32} {σ1 : SG} {σ : SG} {ρ : RG} (hL : Lay N K len ρ) (hF : F_X11_guide a1 σ ρ = some (r, σ1)) : MT l Y D N ad K len yX11_guide (Cond.code yX11_guide cX11_guide 3 (some .int) :: wsL_law) rm_X11_guide [.ref (ad 0), .int a1] σ ρ (some (.int r)) σ1 ρ := by
  refine mt_of (cc := cX11_guide) (nL := 3) (ret := (some .int)) (by decide) (Nat.le_of_ble_eq_true rfl) ?_
  intro p e s m args below meth c ls C hnm hP hS hl
  exact w_X11_guide_0 C rfl hL hF hP hS hl

/-! CutCrooked.public int again(int);  -/
theorem dX11_again_0 : decode cX11_again 0 = .ok (.aload_n 0, 1) := by decide +kernel
theorem dX11_again_1 : decode cX11_again 1 = .ok (.getfield 12, 3) := by decide +kernel
theorem dX11_again_4 : decode cX11_again 4 = .ok (.iload_n 1, 1) := by decide +kernel
theorem dX11_again_5 : decode cX11_again 5 = .ok (.invokevirtual 100, 3) := by decide +kernel
theorem dX11_again_8 : decode cX11_again 8 = .ok (.astore_n 2, 1) := by decide +kernel
theorem dX11_again_9 : decode cX11_again 9 = .ok (.aload_n 2, 1) := by decide +kernel
theorem dX11_again_10 : decode cX11_again 10 = .ok (.ifnonnull 5, 3) := by decide +kernel
theorem dX11_again_13 : decode cX11_again 13 = .ok (.iconst (-1), 1) := by decide +kernel
theorem dX11_again_14 : decode cX11_again 14 = .ok (.ireturn, 1) := by decide +kernel
theorem hd_X11_again : yX11_again.cls = RX11 ∧ yX11_again.cls ≠ "java/lang/invoke/MethodHandle" ∧ yX11_again.cls ≠ "java/lang/invoke/VarHandle" ∧ (parseMethodDescriptor yX11_again.desc).map (fun d => d.parameters.length) = some 1 := by decide +kernel
abbrev rm_X11_again : Room := { frames := 1, cells := 0, slots := 0, locals := 21 }
def F_X11_again (a1 : Int32) (σ : SG) (ρ : RG) : Option (Int32) :=
  bn (F_X8_cutterAt_1 a1 σ ρ) fun o1 =>
  oc o1
   (
    some (-1 : Int32))
   (fun c2 =>
    none /- none: some -/)
set_option maxHeartbeats 4000000 in
set_option maxRecDepth 100000 in
theorem w_X11_again_0 {a1 : Int32} {p : Program} {e : Env} {s : State} {m : MethodId} {args : Array Value} {below : List Frame} {meth : Method} {c : Code} {σ0 : SG} {ρ0 : RG} {r : Int32} (C : Cx Y D N ad p s m args meth c cX11_again 4 (some .int) RX11 wsL_law) {σ : SG} {ρ : RG} {H : Heap} {locs : List Loc} {ls : Array Slot} (hσ0 : σ = σ0) (hρ0 : ρ = ρ0) (hL : Lay N K len ρ) (hF : F_X11_again a1 σ ρ = some r) (hP : WP Y D N ad K len σ ρ H) (hS : va_S (AA N ad s.heap.size) s.heap H locs) (hl : lv_has ls 4 [(0, .ref (ad 0)), (1, .int a1)]) : W p l e rm_X11_again s m args below meth c H locs 0 0 (MQ below (QW Y D N ad K len σ0 ρ0 (AA N ad s.heap.size) (some (.int r))) args s 0 0 (AA N ad s.heap.size)) (F0 m 0 ls []) := by
  have hx := C.1.1
  have hb := C.1.2.1
  unfold F_X11_again at hF
  refine lv_aload_n hx hb dX11_again_0 rfl (lv_at hl 0 rfl) ?_
  refine get_11_0 C hP (lr_0 hL) (lk_0 hL) inlX11 mw_15 (lf_0_0 hL) dX11_again_1 ?_
  refine lv_iload_n hx hb dX11_again_4 rfl (lv_at hl 1 rfl) ?_
  obtain ⟨o1, hq1, hF⟩ := bn_1 hF
  refine x_callV (ci := 8) rfl rfl C hP hS (c_X8_cutterAt_1 hL hq1) (lr_1 hL) (lk_1 hL) (cwV 1 C.1.2.2.2.2 (gdV mw_428 mw_429 mw_430 mw_14 mw_431) rfl rfl rfl hd_X8_cutterAt ⟨Nat.le_of_ble_eq_true rfl, Nat.le_of_ble_eq_true rfl⟩) rfl rfl hl.1 (Nat.le_of_ble_eq_true rfl) ⟨Nat.zero_le _, Nat.zero_le _⟩ dX11_again_5 (fun H locs hP hS => ?_)
  rcases ho2 : o1 with _ | c2
  · have hF := oc_n hF ho2
    refine x_n ?_
    refine lv_astore_nN (lv' := [(2, .null), (0, .ref (ad 0)), (1, .int a1)]) hx hb dX11_again_8 rfl hl (by decide) rfl (fun ls hl => ?_)
    refine lv_aload_nN hx hb dX11_again_9 rfl (lv_at hl 0 rfl) ?_
    refine lv_ifnonnullN hx hb dX11_again_10 ?_
    refine lv_iconst (v := -1) hx hb dX11_again_13 (by decide) ?_
    obtain rfl := ret_1 hF
    subst hσ0
    subst hρ0
    exact x_iret rfl C hP hS dX11_again_14
  · have hF := oc_s hF ho2
    refine x_s ?_
    cases hF
set_option maxHeartbeats 4000000 in
set_option maxRecDepth 100000 in
theorem c_X11_again {a1 : Int32} {r : Int32} {σ : SG} {ρ : RG} (hL : Lay N K len ρ) (hF : F_X11_again a1 σ ρ = some r) : MT l Y D N ad K len yX11_again (Cond.code yX11_again cX11_again 4 (some .int) :: wsL_law) rm_X11_again [.ref (ad 0), .int a1] σ ρ (some (.int r)) σ ρ := by
  refine mt_of (cc := cX11_again) (nL := 4) (ret := (some .int)) (by decide) (Nat.le_of_ble_eq_true rfl) ?_
  intro p e s m args below meth c ls C hnm hP hS hl
  exact w_X11_again_0 C rfl rfl hL hF hP hS hl

/-! CutCrooked.public int evener(int, int);  -/
theorem dX11_evener_0 : decode cX11_evener 0 = .ok (.iload_n 2, 1) := by decide +kernel
theorem dX11_evener_1 : decode cX11_evener 1 = .ok (.iconst 0, 1) := by decide +kernel
theorem dX11_evener_2 : decode cX11_evener 2 = .ok (.iconst 1, 1) := by decide +kernel
theorem dX11_evener_3 : decode cX11_evener 3 = .ok (.invokestatic 56, 3) := by decide +kernel
theorem dX11_evener_6 : decode cX11_evener 6 = .ok (.ifCond .ne 5, 3) := by decide +kernel
theorem dX11_evener_9 : decode cX11_evener 9 = .ok (.iconst (-1), 1) := by decide +kernel
theorem dX11_evener_10 : decode cX11_evener 10 = .ok (.ireturn, 1) := by decide +kernel
theorem dX11_evener_11 : decode cX11_evener 11 = .ok (.iload_n 1, 1) := by decide +kernel
theorem dX11_evener_12 : decode cX11_evener 12 = .ok (.iconst 0, 1) := by decide +kernel
theorem dX11_evener_13 : decode cX11_evener 13 = .ok (.bipush 40, 2) := by decide +kernel
theorem dX11_evener_15 : decode cX11_evener 15 = .ok (.invokestatic 56, 3) := by decide +kernel
theorem dX11_evener_18 : decode cX11_evener 18 = .ok (.ifCond .ne 6, 3) := by decide +kernel
theorem dX11_evener_21 : decode cX11_evener 21 = .ok (.bipush (-2), 2) := by decide +kernel
theorem dX11_evener_23 : decode cX11_evener 23 = .ok (.ireturn, 1) := by decide +kernel
theorem dX11_evener_24 : decode cX11_evener 24 = .ok (.aload_n 0, 1) := by decide +kernel
theorem dX11_evener_25 : decode cX11_evener 25 = .ok (.iload_n 1, 1) := by decide +kernel
theorem dX11_evener_26 : decode cX11_evener 26 = .ok (.iconst (-1), 1) := by decide +kernel
theorem dX11_evener_27 : decode cX11_evener 27 = .ok (.iconst 0, 1) := by decide +kernel
theorem dX11_evener_28 : decode cX11_evener 28 = .ok (.iconst 0, 1) := by decide +kernel
theorem dX11_evener_29 : decode cX11_evener 29 = .ok (.invokevirtual 189, 3) := by decide +kernel
theorem dX11_evener_32 : decode cX11_evener 32 = .ok (.bipush (-5), 2) := by decide +kernel
theorem dX11_evener_34 : decode cX11_evener 34 = .ok (.istore_n 3, 1) := by decide +kernel
theorem dX11_evener_35 : decode cX11_evener 35 = .ok (.iconst 0, 1) := by decide +kernel
theorem dX11_evener_36 : decode cX11_evener 36 = .ok (.istore 4, 2) := by decide +kernel
theorem dX11_evener_38 : decode cX11_evener 38 = .ok (.iconst 0, 1) := by decide +kernel
theorem dX11_evener_39 : decode cX11_evener 39 = .ok (.istore 5, 2) := by decide +kernel
theorem dX11_evener_41 : decode cX11_evener 41 = .ok (.iconst 0, 1) := by decide +kernel
theorem dX11_evener_42 : decode cX11_evener 42 = .ok (.istore 6, 2) := by decide +kernel
theorem dX11_evener_44 : decode cX11_evener 44 = .ok (.iload 6, 2) := by decide +kernel
theorem dX11_evener_46 : decode cX11_evener 46 = .ok (.aload_n 0, 1) := by decide +kernel
theorem dX11_evener_47 : decode cX11_evener 47 = .ok (.getfield 12, 3) := by decide +kernel
theorem dX11_evener_50 : decode cX11_evener 50 = .ok (.getfield 89, 3) := by decide +kernel
theorem dX11_evener_53 : decode cX11_evener 53 = .ok (.if_icmp .ge 85, 3) := by decide +kernel
theorem dX11_evener_56 : decode cX11_evener 56 = .ok (.aload_n 0, 1) := by decide +kernel
theorem dX11_evener_57 : decode cX11_evener 57 = .ok (.getfield 12, 3) := by decide +kernel
theorem dX11_evener_60 : decode cX11_evener 60 = .ok (.iload 6, 2) := by decide +kernel
theorem dX11_evener_62 : decode cX11_evener 62 = .ok (.invokevirtual 100, 3) := by decide +kernel
theorem dX11_evener_65 : decode cX11_evener 65 = .ok (.astore 7, 2) := by decide +kernel
theorem dX11_evener_67 : decode cX11_evener 67 = .ok (.aload 7, 2) := by decide +kernel
theorem dX11_evener_69 : decode cX11_evener 69 = .ok (.ifnonnull 7, 3) := by decide +kernel
theorem dX11_evener_72 : decode cX11_evener 72 = .ok (.iconst 0, 1) := by decide +kernel
theorem dX11_evener_73 : decode cX11_evener 73 = .ok (.goto 18, 3) := by decide +kernel
theorem dX11_evener_91 : decode cX11_evener 91 = .ok (.istore 8, 2) := by decide +kernel
theorem dX11_evener_93 : decode cX11_evener 93 = .ok (.iload 6, 2) := by decide +kernel
theorem dX11_evener_95 : decode cX11_evener 95 = .ok (.ifCond .ne 8, 3) := by decide +kernel
theorem dX11_evener_98 : decode cX11_evener 98 = .ok (.iload 8, 2) := by decide +kernel
theorem dX11_evener_100 : decode cX11_evener 100 = .ok (.goto 10, 3) := by decide +kernel
theorem dX11_evener_103 : decode cX11_evener 103 = .ok (.iload 5, 2) := by decide +kernel
theorem dX11_evener_105 : decode cX11_evener 105 = .ok (.iload 8, 2) := by decide +kernel
theorem dX11_evener_107 : decode cX11_evener 107 = .ok (.invokestatic 220, 3) := by decide +kernel
theorem dX11_evener_110 : decode cX11_evener 110 = .ok (.istore 5, 2) := by decide +kernel
theorem dX11_evener_112 : decode cX11_evener 112 = .ok (.iload_n 3, 1) := by decide +kernel
theorem dX11_evener_113 : decode cX11_evener 113 = .ok (.bipush (-5), 2) := by decide +kernel
theorem dX11_evener_115 : decode cX11_evener 115 = .ok (.if_icmp .eq 10, 3) := by decide +kernel
theorem dX11_evener_118 : decode cX11_evener 118 = .ok (.iload 8, 2) := by decide +kernel
theorem dX11_evener_120 : decode cX11_evener 120 = .ok (.iload 4, 2) := by decide +kernel
theorem dX11_evener_122 : decode cX11_evener 122 = .ok (.if_icmp .le 10, 3) := by decide +kernel
theorem dX11_evener_125 : decode cX11_evener 125 = .ok (.iload 8, 2) := by decide +kernel
theorem dX11_evener_127 : decode cX11_evener 127 = .ok (.istore 4, 2) := by decide +kernel
theorem dX11_evener_129 : decode cX11_evener 129 = .ok (.iload 6, 2) := by decide +kernel
theorem dX11_evener_131 : decode cX11_evener 131 = .ok (.istore_n 3, 1) := by decide +kernel
theorem dX11_evener_132 : decode cX11_evener 132 = .ok (.iinc 6 1, 3) := by decide +kernel
theorem dX11_evener_135 : decode cX11_evener 135 = .ok (.goto (-91), 3) := by decide +kernel
theorem dX11_evener_138 : decode cX11_evener 138 = .ok (.iload_n 2, 1) := by decide +kernel
theorem dX11_evener_139 : decode cX11_evener 139 = .ok (.ifCond .eq 9, 3) := by decide +kernel
theorem dX11_evener_142 : decode cX11_evener 142 = .ok (.iload_n 3, 1) := by decide +kernel
theorem dX11_evener_143 : decode cX11_evener 143 = .ok (.bipush (-5), 2) := by decide +kernel
theorem dX11_evener_145 : decode cX11_evener 145 = .ok (.if_icmp .ne 7, 3) := by decide +kernel
theorem dX11_evener_148 : decode cX11_evener 148 = .ok (.iload_n 3, 1) := by decide +kernel
theorem dX11_evener_149 : decode cX11_evener 149 = .ok (.goto 8, 3) := by decide +kernel
theorem dX11_evener_152 : decode cX11_evener 152 = .ok (.iload 4, 2) := by decide +kernel
theorem dX11_evener_154 : decode cX11_evener 154 = .ok (.iload 5, 2) := by decide +kernel
theorem dX11_evener_156 : decode cX11_evener 156 = .ok (.isub, 1) := by decide +kernel
theorem dX11_evener_157 : decode cX11_evener 157 = .ok (.ireturn, 1) := by decide +kernel
theorem hd_X11_evener : yX11_evener.cls = RX11 ∧ yX11_evener.cls ≠ "java/lang/invoke/MethodHandle" ∧ yX11_evener.cls ≠ "java/lang/invoke/VarHandle" ∧ (parseMethodDescriptor yX11_evener.desc).map (fun d => d.parameters.length) = some 2 := by decide +kernel
abbrev rm_X11_evener : Room := { frames := 4, cells := 0, slots := 0, locals := 89 }
def F_X11_evener_132 (a1 : Int32) (a2 : Int32) (rec_44 : SG → RG → Int32 → Int32 → Int32 → Int32 → Int32 → Option (Int32 × SG)) (σ : SG) (ρ : RG) (v2 : Int32) (v3 : Int32) (v4 : Int32) (v5 : Int32) (v6 : Int32) : Option (Int32 × SG) :=
  nm (v6 + (1 : Int32)) fun x15 =>
  rec_44 σ ρ v2 v3 v4 v5 x15
def F_X11_evener_125 (a1 : Int32) (a2 : Int32) (rec_44 : SG → RG → Int32 → Int32 → Int32 → Int32 → Int32 → Option (Int32 × SG)) (σ : SG) (ρ : RG) (v2 : Int32) (v5 : Int32) (v6 : Int32) (v8 : Int32) : Option (Int32 × SG) :=
  F_X11_evener_132 a1 a2 rec_44 σ ρ v2 v6 v8 v5 v6
def F_X11_evener_110 (a1 : Int32) (a2 : Int32) (rec_44 : SG → RG → Int32 → Int32 → Int32 → Int32 → Int32 → Option (Int32 × SG)) (σ : SG) (ρ : RG) (v2 : Int32) (v3 : Int32) (v4 : Int32) (v6 : Int32) (v8 : Int32) (k0 : Int32) : Option (Int32 × SG) :=
  if v3 = (-5 : Int32) then
    F_X11_evener_125 a1 a2 rec_44 σ ρ v2 k0 v6 v8
  else
    if v8 ≤ v4 then
      F_X11_evener_132 a1 a2 rec_44 σ ρ v2 v3 v4 k0 v6
    else
      F_X11_evener_125 a1 a2 rec_44 σ ρ v2 k0 v6 v8
def F_X11_evener_91 (a1 : Int32) (a2 : Int32) (rec_44 : SG → RG → Int32 → Int32 → Int32 → Int32 → Int32 → Option (Int32 × SG)) (σ : SG) (ρ : RG) (v2 : Int32) (v3 : Int32) (v4 : Int32) (v5 : Int32) (v6 : Int32) (k0 : Int32) : Option (Int32 × SG) :=
  if v6 = 0 then
    F_X11_evener_110 a1 a2 rec_44 σ ρ v2 v3 v4 v6 k0 k0
  else
    nm (if k0 < v5 then k0 else v5) fun x13 =>
    F_X11_evener_110 a1 a2 rec_44 σ ρ v2 v3 v4 v6 k0 x13
def F_X11_evener_44 (a1 : Int32) (a2 : Int32) : Nat → SG → RG → Int32 → Int32 → Int32 → Int32 → Int32 → Option (Int32 × SG)
  | 0 => fun _ _ _ _ _ _ _ => none
  | n + 1 => fun σ ρ v2 v3 v4 v5 v6 =>
  if (σ 1 1) ≤ v6 then
    if v2 = 0 then
      some (v3, σ)
    else
      if v3 = (-5 : Int32) then
        some (v3, σ)
      else
        nm (v4 - v5) fun x9 =>
        some (x9, σ)
  else
    bn (F_X8_cutterAt_1 v6 σ ρ) fun o10 =>
    oc o10
     (
      F_X11_evener_91 a1 a2 (F_X11_evener_44 a1 a2 n) σ ρ v2 v3 v4 v5 v6 (0 : Int32))
     (fun c11 =>
      none /- none: some -/)
def F_X11_evener (a1 : Int32) (a2 : Int32) (σ : SG) (ρ : RG) : Option (Int32 × SG) :=
  bn (F_X11_isWithin a2 (0 : Int32) (1 : Int32) σ ρ) fun r1 =>
  if r1 = 0 then
    some ((-1 : Int32), σ)
  else
    bn (F_X11_isWithin a1 (0 : Int32) (40 : Int32) σ ρ) fun r3 =>
    if r3 = 0 then
      some ((-2 : Int32), σ)
    else
      bn (F_X11_goOn a1 (-1 : Int32) (0 : Int32) (0 : Int32) σ ρ) fun σ5 =>
      F_X11_evener_44 a1 a2 1024 σ5 ρ a2 (-5 : Int32) (0 : Int32) (0 : Int32) (0 : Int32)
set_option maxHeartbeats 4000000 in
set_option maxRecDepth 100000 in
theorem w_X11_evener_132 {a1 : Int32} {a2 : Int32} {rec_44 : SG → RG → Int32 → Int32 → Int32 → Int32 → Int32 → Option (Int32 × SG)} {p : Program} {e : Env} {s : State} {m : MethodId} {args : Array Value} {below : List Frame} {meth : Method} {c : Code} {ρ0 : RG} {r : Int32} {σ1 : SG} (C : Cx Y D N ad p s m args meth c cX11_evener 9 (some .int) RX11 wsL_law) (hrec_44 : ∀ (σ : SG) (ρ : RG) (v2 : Int32) (v3 : Int32) (v4 : Int32) (v5 : Int32) (v6 : Int32) (H : Heap) (locs : List Loc) (ls : Array Slot), ρ = ρ0 → Lay N K len ρ → rec_44 σ ρ v2 v3 v4 v5 v6 = some (r, σ1) → WP Y D N ad K len σ ρ H → va_S (AA N ad s.heap.size) s.heap H locs → lv_has ls 9 [(0, .ref (ad 0)), (2, .int v2), (3, .int v3), (4, .int v4), (5, .int v5), (6, .int v6)] → W p l e rm_X11_evener s m args below meth c H locs 0 0 (MQ below (QW Y D N ad K len σ1 ρ0 (AA N ad s.heap.size) (some (.int r))) args s 0 0 (AA N ad s.heap.size)) (F0 m 44 ls [])) {σ : SG} {ρ : RG} {v2 : Int32} {v3 : Int32} {v4 : Int32} {v5 : Int32} {v6 : Int32} {H : Heap} {locs : List Loc} {ls : Array Slot} (hρ0 : ρ = ρ0) (hL : Lay N K len ρ) (hF : F_X11_evener_132 a1 a2 rec_44 σ ρ v2 v3 v4 v5 v6 = some (r, σ1)) (hP : WP Y D N ad K len σ ρ H) (hS : va_S (AA N ad s.heap.size) s.heap H locs) (hl : lv_has ls 9 [(0, .ref (ad 0)), (2, .int v2), (3, .int v3), (4, .int v4), (5, .int v5), (6, .int v6)]) : W p l e rm_X11_evener s m args below meth c H locs 0 0 (MQ below (QW Y D N ad K len σ1 ρ0 (AA N ad s.heap.size) (some (.int r))) args s 0 0 (AA N ad s.heap.size)) (F0 m 132 ls []) := by
  have hx := C.1.1
  have hb := C.1.2.1
  unfold F_X11_evener_132 at hF
  obtain ⟨x15, ex15, hF⟩ := nm_1 hF
  refine lv_iinc (v := x15) (lv' := [(6, .int x15), (0, .ref (ad 0)), (2, .int v2), (3, .int v3), (4, .int v4), (5, .int v5)]) hx hb dX11_evener_132 hl (k := 5) rfl (by rw [ex15]; first | rfl | decide) (by decide) rfl (fun ls hl => ?_)
  refine lv_goto (tgt := 44) hx hb dX11_evener_135 (by decide) ?_
  exact hrec_44 _ _ _ _ _ _ _ _ _ _ hρ0 hL hF hP hS (lv_sub hl [1, 2, 3, 4, 5, 0] rfl)
set_option maxHeartbeats 4000000 in
set_option maxRecDepth 100000 in
theorem w_X11_evener_125 {a1 : Int32} {a2 : Int32} {rec_44 : SG → RG → Int32 → Int32 → Int32 → Int32 → Int32 → Option (Int32 × SG)} {p : Program} {e : Env} {s : State} {m : MethodId} {args : Array Value} {below : List Frame} {meth : Method} {c : Code} {ρ0 : RG} {r : Int32} {σ1 : SG} (C : Cx Y D N ad p s m args meth c cX11_evener 9 (some .int) RX11 wsL_law) (hrec_44 : ∀ (σ : SG) (ρ : RG) (v2 : Int32) (v3 : Int32) (v4 : Int32) (v5 : Int32) (v6 : Int32) (H : Heap) (locs : List Loc) (ls : Array Slot), ρ = ρ0 → Lay N K len ρ → rec_44 σ ρ v2 v3 v4 v5 v6 = some (r, σ1) → WP Y D N ad K len σ ρ H → va_S (AA N ad s.heap.size) s.heap H locs → lv_has ls 9 [(0, .ref (ad 0)), (2, .int v2), (3, .int v3), (4, .int v4), (5, .int v5), (6, .int v6)] → W p l e rm_X11_evener s m args below meth c H locs 0 0 (MQ below (QW Y D N ad K len σ1 ρ0 (AA N ad s.heap.size) (some (.int r))) args s 0 0 (AA N ad s.heap.size)) (F0 m 44 ls [])) {σ : SG} {ρ : RG} {v2 : Int32} {v5 : Int32} {v6 : Int32} {v8 : Int32} {H : Heap} {locs : List Loc} {ls : Array Slot} (hρ0 : ρ = ρ0) (hL : Lay N K len ρ) (hF : F_X11_evener_125 a1 a2 rec_44 σ ρ v2 v5 v6 v8 = some (r, σ1)) (hP : WP Y D N ad K len σ ρ H) (hS : va_S (AA N ad s.heap.size) s.heap H locs) (hl : lv_has ls 9 [(0, .ref (ad 0)), (2, .int v2), (5, .int v5), (6, .int v6), (8, .int v8)]) : W p l e rm_X11_evener s m args below meth c H locs 0 0 (MQ below (QW Y D N ad K len σ1 ρ0 (AA N ad s.heap.size) (some (.int r))) args s 0 0 (AA N ad s.heap.size)) (F0 m 125 ls []) := by
  have hx := C.1.1
  have hb := C.1.2.1
  unfold F_X11_evener_125 at hF
  refine lv_iload hx hb dX11_evener_125 (lv_at hl 4 rfl) ?_
  refine lv_istore (lv' := [(4, .int v8), (0, .ref (ad 0)), (2, .int v2), (5, .int v5), (6, .int v6), (8, .int v8)]) hx hb dX11_evener_127 hl (by decide) rfl (fun ls hl => ?_)
  refine lv_iload hx hb dX11_evener_129 (lv_at hl 4 rfl) ?_
  refine lv_istore_n (lv' := [(3, .int v6), (4, .int v8), (0, .ref (ad 0)), (2, .int v2), (5, .int v5), (6, .int v6), (8, .int v8)]) hx hb dX11_evener_131 rfl hl (by decide) rfl (fun ls hl => ?_)
  exact w_X11_evener_132 C hrec_44 hρ0 hL hF hP hS (lv_sub hl [2, 3, 0, 1, 4, 5] rfl)
set_option maxHeartbeats 4000000 in
set_option maxRecDepth 100000 in
theorem w_X11_evener_110 {a1 : Int32} {a2 : Int32} {rec_44 : SG → RG → Int32 → Int32 → Int32 → Int32 → Int32 → Option (Int32 × SG)} {p : Program} {e : Env} {s : State} {m : MethodId} {args : Array Value} {below : List Frame} {meth : Method} {c : Code} {ρ0 : RG} {r : Int32} {σ1 : SG} (C : Cx Y D N ad p s m args meth c cX11_evener 9 (some .int) RX11 wsL_law) (hrec_44 : ∀ (σ : SG) (ρ : RG) (v2 : Int32) (v3 : Int32) (v4 : Int32) (v5 : Int32) (v6 : Int32) (H : Heap) (locs : List Loc) (ls : Array Slot), ρ = ρ0 → Lay N K len ρ → rec_44 σ ρ v2 v3 v4 v5 v6 = some (r, σ1) → WP Y D N ad K len σ ρ H → va_S (AA N ad s.heap.size) s.heap H locs → lv_has ls 9 [(0, .ref (ad 0)), (2, .int v2), (3, .int v3), (4, .int v4), (5, .int v5), (6, .int v6)] → W p l e rm_X11_evener s m args below meth c H locs 0 0 (MQ below (QW Y D N ad K len σ1 ρ0 (AA N ad s.heap.size) (some (.int r))) args s 0 0 (AA N ad s.heap.size)) (F0 m 44 ls [])) {σ : SG} {ρ : RG} {v2 : Int32} {v3 : Int32} {v4 : Int32} {v6 : Int32} {v8 : Int32} {k0 : Int32} {H : Heap} {locs : List Loc} {ls : Array Slot} (hρ0 : ρ = ρ0) (hL : Lay N K len ρ) (hF : F_X11_evener_110 a1 a2 rec_44 σ ρ v2 v3 v4 v6 v8 k0 = some (r, σ1)) (hP : WP Y D N ad K len σ ρ H) (hS : va_S (AA N ad s.heap.size) s.heap H locs) (hl : lv_has ls 9 [(0, .ref (ad 0)), (2, .int v2), (3, .int v3), (4, .int v4), (6, .int v6), (8, .int v8)]) : W p l e rm_X11_evener s m args below meth c H locs 0 0 (MQ below (QW Y D N ad K len σ1 ρ0 (AA N ad s.heap.size) (some (.int r))) args s 0 0 (AA N ad s.heap.size)) (F0 m 110 ls [.int k0]) := by
  have hx := C.1.1
  have hb := C.1.2.1
  unfold F_X11_evener_110 at hF
  refine lv_istore (lv' := [(5, .int k0), (0, .ref (ad 0)), (2, .int v2), (3, .int v3), (4, .int v4), (6, .int v6), (8, .int v8)]) hx hb dX11_evener_110 hl (by decide) rfl (fun ls hl => ?_)
  refine lv_iload_n hx hb dX11_evener_112 rfl (lv_at hl 3 rfl) ?_
  refine lv_bipush (v := -5) hx hb dX11_evener_113 (by decide +kernel) ?_
  refine lv_icmp_eq (tgt := 125) hx hb dX11_evener_115 (by decide) (fun c_14 => ?_) (fun c_14 => ?_) -- COND 14 by_cases c_14 : v3 = (-5 : Int32)
  · have hF := ite_t hF c_14
    exact w_X11_evener_125 C hrec_44 hρ0 hL hF hP hS (lv_sub hl [1, 2, 0, 5, 6] rfl)
  · have hF := ite_f hF c_14
    refine lv_iload hx hb dX11_evener_118 (lv_at hl 6 rfl) ?_
    refine lv_iload hx hb dX11_evener_120 (lv_at hl 4 rfl) ?_
    refine lv_icmp_le (tgt := 132) hx hb dX11_evener_122 (by decide) (fun c_16 => ?_) (fun c_16 => ?_) -- COND 16 by_cases c_16 : v8 ≤ v4
    · have hF := ite_t hF c_16
      exact w_X11_evener_132 C hrec_44 hρ0 hL hF hP hS (lv_sub hl [1, 2, 3, 4, 0, 5] rfl)
    · have hF := ite_f hF c_16
      exact w_X11_evener_125 C hrec_44 hρ0 hL hF hP hS (lv_sub hl [1, 2, 0, 5, 6] rfl)
set_option maxHeartbeats 4000000 in
set_option maxRecDepth 100000 in
theorem w_X11_evener_91 {a1 : Int32} {a2 : Int32} {rec_44 : SG → RG → Int32 → Int32 → Int32 → Int32 → Int32 → Option (Int32 × SG)} {p : Program} {e : Env} {s : State} {m : MethodId} {args : Array Value} {below : List Frame} {meth : Method} {c : Code} {ρ0 : RG} {r : Int32} {σ1 : SG} (C : Cx Y D N ad p s m args meth c cX11_evener 9 (some .int) RX11 wsL_law) (hrec_44 : ∀ (σ : SG) (ρ : RG) (v2 : Int32) (v3 : Int32) (v4 : Int32) (v5 : Int32) (v6 : Int32) (H : Heap) (locs : List Loc) (ls : Array Slot), ρ = ρ0 → Lay N K len ρ → rec_44 σ ρ v2 v3 v4 v5 v6 = some (r, σ1) → WP Y D N ad K len σ ρ H → va_S (AA N ad s.heap.size) s.heap H locs → lv_has ls 9 [(0, .ref (ad 0)), (2, .int v2), (3, .int v3), (4, .int v4), (5, .int v5), (6, .int v6)] → W p l e rm_X11_evener s m args below meth c H locs 0 0 (MQ below (QW Y D N ad K len σ1 ρ0 (AA N ad s.heap.size) (some (.int r))) args s 0 0 (AA N ad s.heap.size)) (F0 m 44 ls [])) {σ : SG} {ρ : RG} {v2 : Int32} {v3 : Int32} {v4 : Int32} {v5 : Int32} {v6 : Int32} {k0 : Int32} {H : Heap} {locs : List Loc} {ls : Array Slot} (hρ0 : ρ = ρ0) (hL : Lay N K len ρ) (hF : F_X11_evener_91 a1 a2 rec_44 σ ρ v2 v3 v4 v5 v6 k0 = some (r, σ1)) (hP : WP Y D N ad K len σ ρ H) (hS : va_S (AA N ad s.heap.size) s.heap H locs) (hl : lv_has ls 9 [(0, .ref (ad 0)), (2, .int v2), (3, .int v3), (4, .int v4), (5, .int v5), (6, .int v6)]) : W p l e rm_X11_evener s m args below meth c H locs 0 0 (MQ below (QW Y D N ad K len σ1 ρ0 (AA N ad s.heap.size) (some (.int r))) args s 0 0 (AA N ad s.heap.size)) (F0 m 91 ls [.int k0]) := by
  have hx := C.1.1
  have hb := C.1.2.1
  unfold F_X11_evener_91 at hF
  refine lv_istore (lv' := [(8, .int k0), (0, .ref (ad 0)), (2, .int v2), (3, .int v3), (4, .int v4), (5, .int v5), (6, .int v6)]) hx hb dX11_evener_91 hl (by decide) rfl (fun ls hl => ?_)
  refine lv_iload hx hb dX11_evener_93 (lv_at hl 6 rfl) ?_
  refine lv_if_ne (tgt := 103) hx hb dX11_evener_95 (by decide) (fun c_12 => ?_) (fun c_12 => ?_) -- COND 12 rcases (Decidable.em (v6 = 0)).symm with c_12 | c_12
  · have hF := ite_f hF c_12
    refine lv_iload hx hb dX11_evener_103 (lv_at hl 5 rfl) ?_
    refine lv_iload hx hb dX11_evener_105 (lv_at hl 0 rfl) ?_
    refine va_mmin hx hb (C.1.2.2.1.trans hl.1.symm) C.1.2.2.2.1 (C.1.2.2.2.2 _ mw_860) (C.1.2.2.2.2 _ mw_237) (C.1.2.2.2.2 _ mw_234) (C.1.2.2.2.2 _ mw_238) (Nat.le_of_ble_eq_true rfl) (Nat.le_of_ble_eq_true rfl) (Nat.zero_le _) (Nat.zero_le _) dX11_evener_107 ?_
    obtain ⟨x13, ex13, hF⟩ := nm_1 hF
    refine x_top ex13 ?_
    exact w_X11_evener_110 C hrec_44 hρ0 hL hF hP hS (lv_sub hl [1, 2, 3, 4, 6, 0] rfl)
  · have hF := ite_t hF c_12
    refine lv_iload hx hb dX11_evener_98 (lv_at hl 0 rfl) ?_
    refine lv_goto (tgt := 110) hx hb dX11_evener_100 (by decide) ?_
    exact w_X11_evener_110 C hrec_44 hρ0 hL hF hP hS (lv_sub hl [1, 2, 3, 4, 6, 0] rfl)
set_option maxHeartbeats 4000000 in
set_option maxRecDepth 100000 in
theorem w_X11_evener_44 {a1 : Int32} {a2 : Int32} {p : Program} {e : Env} {s : State} {m : MethodId} {args : Array Value} {below : List Frame} {meth : Method} {c : Code} {ρ0 : RG} {r : Int32} {σ1 : SG} (C : Cx Y D N ad p s m args meth c cX11_evener 9 (some .int) RX11 wsL_law) : ∀ (n : Nat) (σ : SG) (ρ : RG) (v2 : Int32) (v3 : Int32) (v4 : Int32) (v5 : Int32) (v6 : Int32) (H : Heap) (locs : List Loc) (ls : Array Slot), ρ = ρ0 → Lay N K len ρ → F_X11_evener_44 a1 a2 n σ ρ v2 v3 v4 v5 v6 = some (r, σ1) → WP Y D N ad K len σ ρ H → va_S (AA N ad s.heap.size) s.heap H locs → lv_has ls 9 [(0, .ref (ad 0)), (2, .int v2), (3, .int v3), (4, .int v4), (5, .int v5), (6, .int v6)] → W p l e rm_X11_evener s m args below meth c H locs 0 0 (MQ below (QW Y D N ad K len σ1 ρ0 (AA N ad s.heap.size) (some (.int r))) args s 0 0 (AA N ad s.heap.size)) (F0 m 44 ls []) := by
  have hx := C.1.1
  have hb := C.1.2.1
  intro n
  induction n with
  | zero => intro σ ρ v2 v3 v4 v5 v6 H locs ls hρ0 hL hF; cases hF
  | succ n ih =>
    intro σ ρ v2 v3 v4 v5 v6 H locs ls hρ0 hL hF hP hS hl
    unfold F_X11_evener_44 at hF
    refine lv_iload hx hb dX11_evener_44 (lv_at hl 5 rfl) ?_
    refine lv_aload_n hx hb dX11_evener_46 rfl (lv_at hl 0 rfl) ?_
    refine get_11_0 C hP (lr_0 hL) (lk_0 hL) inlX11 mw_15 (lf_0_0 hL) dX11_evener_47 ?_
    refine get_8_1 C hP (lr_1 hL) (lk_1 hL) inlX8 mw_352 dX11_evener_50 ?_
    refine lv_icmp_ge (tgt := 138) hx hb dX11_evener_53 (by decide) (fun c_6 => ?_) (fun c_6 => ?_) -- COND 6 by_cases c_6 : (σ 1 1) ≤ v6
    · have hF := ite_t hF c_6
      refine lv_iload_n hx hb dX11_evener_138 rfl (lv_at hl 1 rfl) ?_
      refine lv_if_eq (tgt := 148) hx hb dX11_evener_139 (by decide) (fun c_7 => ?_) (fun c_7 => ?_) -- COND 7 by_cases c_7 : v2 = 0
      · have hF := ite_t hF c_7
        refine lv_iload_n hx hb dX11_evener_148 rfl (lv_at hl 2 rfl) ?_
        refine lv_goto (tgt := 157) hx hb dX11_evener_149 (by decide) ?_
        obtain ⟨rfl, rfl⟩ := ret_2 hF
        subst hρ0
        exact x_iret rfl C hP hS dX11_evener_157
      · have hF := ite_f hF c_7
        refine lv_iload_n hx hb dX11_evener_142 rfl (lv_at hl 2 rfl) ?_
        refine lv_bipush (v := -5) hx hb dX11_evener_143 (by decide +kernel) ?_
        refine lv_icmp_ne (tgt := 152) hx hb dX11_evener_145 (by decide) (fun c_8 => ?_) (fun c_8 => ?_) -- COND 8 rcases (Decidable.em (v3 = (-5 : Int32))).symm with c_8 | c_8
        · have hF := ite_f hF c_8
          refine lv_iload hx hb dX11_evener_152 (lv_at hl 3 rfl) ?_
          refine lv_iload hx hb dX11_evener_154 (lv_at hl 4 rfl) ?_
          refine lv_isub hx hb dX11_evener_156 ?_
          obtain ⟨x9, ex9, hF⟩ := nm_1 hF
          refine x_top ex9 ?_
          obtain ⟨rfl, rfl⟩ := ret_2 hF
          subst hρ0
          exact x_iret rfl C hP hS dX11_evener_157
        · have hF := ite_t hF c_8
          refine lv_iload_n hx hb dX11_evener_148 rfl (lv_at hl 2 rfl) ?_
          refine lv_goto (tgt := 157) hx hb dX11_evener_149 (by decide) ?_
          obtain ⟨rfl, rfl⟩ := ret_2 hF
          subst hρ0
          exact x_iret rfl C hP hS dX11_evener_157
    · have hF := ite_f hF c_6
      refine lv_aload_n hx hb dX11_evener_56 rfl (lv_at hl 0 rfl) ?_
      refine get_11_0 C hP (lr_0 hL) (lk_0 hL) inlX11 mw_15 (lf_0_0 hL) dX11_evener_57 ?_
      refine lv_iload hx hb dX11_evener_60 (lv_at hl 5 rfl) ?_
      obtain ⟨o10, hq10, hF⟩ := bn_1 hF
      refine x_callV (ci := 8) rfl rfl C hP hS (c_X8_cutterAt_1 hL hq10) (lr_1 hL) (lk_1 hL) (cwV 1 C.1.2.2.2.2 (gdV mw_428 mw_429 mw_430 mw_14 mw_431) rfl rfl rfl hd_X8_cutterAt ⟨Nat.le_of_ble_eq_true rfl, Nat.le_of_ble_eq_true rfl⟩) rfl rfl hl.1 (Nat.le_of_ble_eq_true rfl) ⟨Nat.zero_le _, Nat.zero_le _⟩ dX11_evener_62 (fun H locs hP hS => ?_)
      rcases ho11 : o10 with _ | c11
      · have hF := oc_n hF ho11
        refine x_n ?_
        refine lv_astoreN (lv' := [(7, .null), (0, .ref (ad 0)), (2, .int v2), (3, .int v3), (4, .int v4), (5, .int v5), (6, .int v6)]) hx hb dX11_evener_65 hl (by decide) rfl (fun ls hl => ?_)
        refine lv_aloadN hx hb dX11_evener_67 (lv_at hl 0 rfl) ?_
        refine lv_ifnonnullN hx hb dX11_evener_69 ?_
        refine lv_iconst (v := 0) hx hb dX11_evener_72 (by decide) ?_
        refine lv_goto (tgt := 91) hx hb dX11_evener_73 (by decide) ?_
        exact w_X11_evener_91 C ih hρ0 hL hF hP hS (lv_sub hl [1, 2, 3, 4, 5, 6] rfl)
      · have hF := oc_s hF ho11
        refine x_s ?_
        cases hF
set_option maxHeartbeats 4000000 in
set_option maxRecDepth 100000 in
theorem w_X11_evener_0 {a1 : Int32} {a2 : Int32} {p : Program} {e : Env} {s : State} {m : MethodId} {args : Array Value} {below : List Frame} {meth : Method} {c : Code} {ρ0 : RG} {r : Int32} {σ1 : SG} (C : Cx Y D N ad p s m args meth c cX11_evener 9 (some .int) RX11 wsL_law) {σ : SG} {ρ : RG} {H : Heap} {locs : List Loc} {ls : Array Slot} (hρ0 : ρ = ρ0) (hL : Lay N K len ρ) (hF : F_X11_evener a1 a2 σ ρ = some (r, σ1)) (hP : WP Y D N ad K len σ ρ H) (hS : va_S (AA N ad s.heap.size) s.heap H locs) (hl : lv_has ls 9 [(0, .ref (ad 0)), (1, .int a1), (2, .int a2)]) : W p l e rm_X11_evener s m args below meth c H locs 0 0 (MQ below (QW Y D N ad K len σ1 ρ0 (AA N ad s.heap.size) (some (.int r))) args s 0 0 (AA N ad s.heap.size)) (F0 m 0 ls []) := by
  have hx := C.1.1
  have hb := C.1.2.1
  unfold F_X11_evener at hF
  refine lv_iload_n hx hb dX11_evener_0 rfl (lv_at hl 2 rfl) ?_
  refine lv_iconst (v := 0) hx hb dX11_evener_1 (by decide) ?_
  refine lv_iconst (v := 1) hx hb dX11_evener_2 (by decide) ?_
  obtain ⟨r1, hq1, hF⟩ := bn_1 hF
  refine x_callS C hP hS (c_X11_isWithin hL hq1) (va_cwS 3 C.1.2.2.2.2 (gdS mw_97 mw_98 mw_2 mw_99) rfl rfl rfl hd_X11_isWithin.2 ⟨Nat.le_of_ble_eq_true rfl, Nat.le_of_ble_eq_true rfl⟩) rfl rfl hl.1 (Nat.le_of_ble_eq_true rfl) ⟨Nat.zero_le _, Nat.zero_le _⟩ dX11_evener_3 (fun H locs hP hS => ?_)
  refine lv_if_ne (tgt := 11) hx hb dX11_evener_6 (by decide) (fun c_2 => ?_) (fun c_2 => ?_) -- COND 2 rcases (Decidable.em (r1 = 0)).symm with c_2 | c_2
  · have hF := ite_f hF c_2
    refine lv_iload_n hx hb dX11_evener_11 rfl (lv_at hl 1 rfl) ?_
    refine lv_iconst (v := 0) hx hb dX11_evener_12 (by decide) ?_
    refine lv_bipush (v := 40) hx hb dX11_evener_13 (by decide +kernel) ?_
    obtain ⟨r3, hq3, hF⟩ := bn_1 hF
    refine x_callS C hP hS (c_X11_isWithin hL hq3) (va_cwS 3 C.1.2.2.2.2 (gdS mw_97 mw_98 mw_2 mw_99) rfl rfl rfl hd_X11_isWithin.2 ⟨Nat.le_of_ble_eq_true rfl, Nat.le_of_ble_eq_true rfl⟩) rfl rfl hl.1 (Nat.le_of_ble_eq_true rfl) ⟨Nat.zero_le _, Nat.zero_le _⟩ dX11_evener_15 (fun H locs hP hS => ?_)
    refine lv_if_ne (tgt := 24) hx hb dX11_evener_18 (by decide) (fun c_4 => ?_) (fun c_4 => ?_) -- COND 4 rcases (Decidable.em (r3 = 0)).symm with c_4 | c_4
    · have hF := ite_f hF c_4
      refine lv_aload_n hx hb dX11_evener_24 rfl (lv_at hl 0 rfl) ?_
      refine lv_iload_n hx hb dX11_evener_25 rfl (lv_at hl 1 rfl) ?_
      refine lv_iconst (v := -1) hx hb dX11_evener_26 (by decide) ?_
      refine lv_iconst (v := 0) hx hb dX11_evener_27 (by decide) ?_
      refine lv_iconst (v := 0) hx hb dX11_evener_28 (by decide) ?_
      obtain ⟨σ5, hq5, hF⟩ := bn_1 hF
      refine x_callV (ci := 11) rfl rfl C hP hS (c_X11_goOn hL hq5) (lr_0 hL) (lk_0 hL) (cwV 4 C.1.2.2.2.2 (gdV mw_745 mw_746 mw_747 mw_2 mw_748) rfl rfl rfl hd_X11_goOn ⟨Nat.le_of_ble_eq_true rfl, Nat.le_of_ble_eq_true rfl⟩) rfl rfl hl.1 (Nat.le_of_ble_eq_true rfl) ⟨Nat.zero_le _, Nat.zero_le _⟩ dX11_evener_29 (fun H locs hP hS => ?_)
      refine lv_bipush (v := -5) hx hb dX11_evener_32 (by decide +kernel) ?_
      refine lv_istore_n (lv' := [(3, .int (-5 : Int32)), (0, .ref (ad 0)), (1, .int a1), (2, .int a2)]) hx hb dX11_evener_34 rfl hl (by decide) rfl (fun ls hl => ?_)
      refine lv_iconst (v := 0) hx hb dX11_evener_35 (by decide) ?_
      refine lv_istore (lv' := [(4, .int (0 : Int32)), (3, .int (-5 : Int32)), (0, .ref (ad 0)), (1, .int a1), (2, .int a2)]) hx hb dX11_evener_36 hl (by decide) rfl (fun ls hl => ?_)
      refine lv_iconst (v := 0) hx hb dX11_evener_38 (by decide) ?_
      refine lv_istore (lv' := [(5, .int (0 : Int32)), (4, .int (0 : Int32)), (3, .int (-5 : Int32)), (0, .ref (ad 0)), (1, .int a1), (2, .int a2)]) hx hb dX11_evener_39 hl (by decide) rfl (fun ls hl => ?_)
      refine lv_iconst (v := 0) hx hb dX11_evener_41 (by decide) ?_
      refine lv_istore (lv' := [(6, .int (0 : Int32)), (5, .int (0 : Int32)), (4, .int (0 : Int32)), (3, .int (-5 : Int32)), (0, .ref (ad 0)), (1, .int a1), (2, .int a2)]) hx hb dX11_evener_42 hl (by decide) rfl (fun ls hl => ?_)
      exact w_X11_evener_44 C 1024 _ _ _ _ _ _ _ _ _ _ hρ0 hL hF hP hS (lv_sub hl [4, 6, 3, 2, 1, 0] rfl)
    · have hF := ite_t hF c_4
      refine lv_bipush (v := -2) hx hb dX11_evener_21 (by decide +kernel) ?_
      obtain ⟨rfl, rfl⟩ := ret_2 hF
      subst hρ0
      exact x_iret rfl C hP hS dX11_evener_23
  · have hF := ite_t hF c_2
    refine lv_iconst (v := -1) hx hb dX11_evener_9 (by decide) ?_
    obtain ⟨rfl, rfl⟩ := ret_2 hF
    subst hρ0
    exact x_iret rfl C hP hS dX11_evener_10
set_option maxHeartbeats 4000000 in
set_option maxRecDepth 100000 in
theorem c_X11_evener {a1 : Int32} {a2 : Int32} {r : Int32} {σ1 : SG} {σ : SG} {ρ : RG} (hL : Lay N K len ρ) (hF : F_X11_evener a1 a2 σ ρ = some (r, σ1)) : MT l Y D N ad K len yX11_evener (Cond.code yX11_evener cX11_evener 9 (some .int) :: wsL_law) rm_X11_evener [.ref (ad 0), .int a1, .int a2] σ ρ (some (.int r)) σ1 ρ := by
  refine mt_of (cc := cX11_evener) (nL := 9) (ret := (some .int)) (by decide) (Nat.le_of_ble_eq_true rfl) ?_
  intro p e s m args below meth c ls C hnm hP hS hl
  exact w_X11_evener_0 C rfl hL hF hP hS hl

/-! CutCrooked.public int game(int, int, int, int);  -/
theorem dX11_game_0 : decode cX11_game 0 = .ok (.aload_n 0, 1) := by decide +kernel
theorem dX11_game_1 : decode cX11_game 1 = .ok (.getfield 12, 3) := by decide +kernel
theorem dX11_game_4 : decode cX11_game 4 = .ok (.iload_n 1, 1) := by decide +kernel
theorem dX11_game_5 : decode cX11_game 5 = .ok (.invokevirtual 100, 3) := by decide +kernel
theorem dX11_game_8 : decode cX11_game 8 = .ok (.astore 5, 2) := by decide +kernel
theorem dX11_game_10 : decode cX11_game 10 = .ok (.aload_n 0, 1) := by decide +kernel
theorem dX11_game_11 : decode cX11_game 11 = .ok (.getfield 12, 3) := by decide +kernel
theorem dX11_game_14 : decode cX11_game 14 = .ok (.iload_n 2, 1) := by decide +kernel
theorem dX11_game_15 : decode cX11_game 15 = .ok (.invokevirtual 100, 3) := by decide +kernel
theorem dX11_game_18 : decode cX11_game 18 = .ok (.astore 6, 2) := by decide +kernel
theorem dX11_game_20 : decode cX11_game 20 = .ok (.aload 5, 2) := by decide +kernel
theorem dX11_game_22 : decode cX11_game 22 = .ok (.ifnull 18, 3) := by decide +kernel
theorem dX11_game_40 : decode cX11_game 40 = .ok (.sipush (-10001), 3) := by decide +kernel
theorem dX11_game_43 : decode cX11_game 43 = .ok (.ireturn, 1) := by decide +kernel
theorem hd_X11_game : yX11_game.cls = RX11 ∧ yX11_game.cls ≠ "java/lang/invoke/MethodHandle" ∧ yX11_game.cls ≠ "java/lang/invoke/VarHandle" ∧ (parseMethodDescriptor yX11_game.desc).map (fun d => d.parameters.length) = some 4 := by decide +kernel
abbrev rm_X11_game : Room := { frames := 1, cells := 0, slots := 0, locals := 21 }
def F_X11_game (a1 : Int32) (a2 : Int32) (a3 : Int32) (a4 : Int32) (σ : SG) (ρ : RG) : Option (Int32) :=
  bn (F_X8_cutterAt_1 a1 σ ρ) fun o1 =>
  oc o1
   (
    bn (F_X8_cutterAt_1 a2 σ ρ) fun o3 =>
    oc o3
     (
      some (-10001 : Int32))
     (fun c4 =>
      none /- none: some -/))
   (fun c2 =>
    none /- none: some -/)
set_option maxHeartbeats 4000000 in
set_option maxRecDepth 100000 in
theorem w_X11_game_0 {a1 : Int32} {a2 : Int32} {a3 : Int32} {a4 : Int32} {p : Program} {e : Env} {s : State} {m : MethodId} {args : Array Value} {below : List Frame} {meth : Method} {c : Code} {σ0 : SG} {ρ0 : RG} {r : Int32} (C : Cx Y D N ad p s m args meth c cX11_game 8 (some .int) RX11 wsL_law) {σ : SG} {ρ : RG} {H : Heap} {locs : List Loc} {ls : Array Slot} (hσ0 : σ = σ0) (hρ0 : ρ = ρ0) (hL : Lay N K len ρ) (hF : F_X11_game a1 a2 a3 a4 σ ρ = some r) (hP : WP Y D N ad K len σ ρ H) (hS : va_S (AA N ad s.heap.size) s.heap H locs) (hl : lv_has ls 8 [(0, .ref (ad 0)), (1, .int a1), (2, .int a2), (3, .int a3), (4, .int a4)]) : W p l e rm_X11_game s m args below meth c H locs 0 0 (MQ below (QW Y D N ad K len σ0 ρ0 (AA N ad s.heap.size) (some (.int r))) args s 0 0 (AA N ad s.heap.size)) (F0 m 0 ls []) := by
  have hx := C.1.1
  have hb := C.1.2.1
  unfold F_X11_game at hF
  refine lv_aload_n hx hb dX11_game_0 rfl (lv_at hl 0 rfl) ?_
  refine get_11_0 C hP (lr_0 hL) (lk_0 hL) inlX11 mw_15 (lf_0_0 hL) dX11_game_1 ?_
  refine lv_iload_n hx hb dX11_game_4 rfl (lv_at hl 1 rfl) ?_
  obtain ⟨o1, hq1, hF⟩ := bn_1 hF
  refine x_callV (ci := 8) rfl rfl C hP hS (c_X8_cutterAt_1 hL hq1) (lr_1 hL) (lk_1 hL) (cwV 1 C.1.2.2.2.2 (gdV mw_428 mw_429 mw_430 mw_14 mw_431) rfl rfl rfl hd_X8_cutterAt ⟨Nat.le_of_ble_eq_true rfl, Nat.le_of_ble_eq_true rfl⟩) rfl rfl hl.1 (Nat.le_of_ble_eq_true rfl) ⟨Nat.zero_le _, Nat.zero_le _⟩ dX11_game_5 (fun H locs hP hS => ?_)
  rcases ho2 : o1 with _ | c2
  · have hF := oc_n hF ho2
    refine x_n ?_
    refine lv_astoreN (lv' := [(5, .null), (0, .ref (ad 0)), (1, .int a1), (2, .int a2), (3, .int a3), (4, .int a4)]) hx hb dX11_game_8 hl (by decide) rfl (fun ls hl => ?_)
    refine lv_aload_n hx hb dX11_game_10 rfl (lv_at hl 1 rfl) ?_
    refine get_11_0 C hP (lr_0 hL) (lk_0 hL) inlX11 mw_15 (lf_0_0 hL) dX11_game_11 ?_
    refine lv_iload_n hx hb dX11_game_14 rfl (lv_at hl 3 rfl) ?_
    obtain ⟨o3, hq3, hF⟩ := bn_1 hF
    refine x_callV (ci := 8) rfl rfl C hP hS (c_X8_cutterAt_1 hL hq3) (lr_1 hL) (lk_1 hL) (cwV 1 C.1.2.2.2.2 (gdV mw_428 mw_429 mw_430 mw_14 mw_431) rfl rfl rfl hd_X8_cutterAt ⟨Nat.le_of_ble_eq_true rfl, Nat.le_of_ble_eq_true rfl⟩) rfl rfl hl.1 (Nat.le_of_ble_eq_true rfl) ⟨Nat.zero_le _, Nat.zero_le _⟩ dX11_game_15 (fun H locs hP hS => ?_)
    rcases ho4 : o3 with _ | c4
    · have hF := oc_n hF ho4
      refine x_n ?_
      refine lv_astoreN (lv' := [(6, .null), (5, .null), (0, .ref (ad 0)), (1, .int a1), (2, .int a2), (3, .int a3), (4, .int a4)]) hx hb dX11_game_18 hl (by decide) rfl (fun ls hl => ?_)
      refine lv_aloadN hx hb dX11_game_20 (lv_at hl 1 rfl) ?_
      refine lv_ifnullN (tgt := 40) hx hb dX11_game_22 (by decide) ?_
      refine lv_sipush (v := -10001) hx hb dX11_game_40 (by decide +kernel) ?_
      obtain rfl := ret_1 hF
      subst hσ0
      subst hρ0
      exact x_iret rfl C hP hS dX11_game_43
    · have hF := oc_s hF ho4
      refine x_s ?_
      cases hF
  · have hF := oc_s hF ho2
    refine x_s ?_
    cases hF
set_option maxHeartbeats 4000000 in
set_option maxRecDepth 100000 in
theorem c_X11_game {a1 : Int32} {a2 : Int32} {a3 : Int32} {a4 : Int32} {r : Int32} {σ : SG} {ρ : RG} (hL : Lay N K len ρ) (hF : F_X11_game a1 a2 a3 a4 σ ρ = some r) : MT l Y D N ad K len yX11_game (Cond.code yX11_game cX11_game 8 (some .int) :: wsL_law) rm_X11_game [.ref (ad 0), .int a1, .int a2, .int a3, .int a4] σ ρ (some (.int r)) σ ρ := by
  refine mt_of (cc := cX11_game) (nL := 8) (ret := (some .int)) (by decide) (Nat.le_of_ble_eq_true rfl) ?_
  intro p e s m args below meth c ls C hnm hP hS hl
  exact w_X11_game_0 C rfl rfl hL hF hP hS hl

/-! CutCrooked.public int cheese(int, int);  -/
theorem dX11_cheese_0 : decode cX11_cheese 0 = .ok (.aload_n 0, 1) := by decide +kernel
theorem dX11_cheese_1 : decode cX11_cheese 1 = .ok (.getfield 12, 3) := by decide +kernel
theorem dX11_cheese_4 : decode cX11_cheese 4 = .ok (.iload_n 2, 1) := by decide +kernel
theorem dX11_cheese_5 : decode cX11_cheese 5 = .ok (.bipush 10, 2) := by decide +kernel
theorem dX11_cheese_7 : decode cX11_cheese 7 = .ok (.isub, 1) := by decide +kernel
theorem dX11_cheese_8 : decode cX11_cheese 8 = .ok (.invokevirtual 100, 3) := by decide +kernel
theorem dX11_cheese_11 : decode cX11_cheese 11 = .ok (.ifnull 7, 3) := by decide +kernel
theorem dX11_cheese_18 : decode cX11_cheese 18 = .ok (.iconst 0, 1) := by decide +kernel
theorem dX11_cheese_19 : decode cX11_cheese 19 = .ok (.istore_n 3, 1) := by decide +kernel
theorem dX11_cheese_20 : decode cX11_cheese 20 = .ok (.iload_n 2, 1) := by decide +kernel
theorem dX11_cheese_21 : decode cX11_cheese 21 = .ok (.iconst 0, 1) := by decide +kernel
theorem dX11_cheese_22 : decode cX11_cheese 22 = .ok (.iconst 1, 1) := by decide +kernel
theorem dX11_cheese_23 : decode cX11_cheese 23 = .ok (.invokestatic 56, 3) := by decide +kernel
theorem dX11_cheese_26 : decode cX11_cheese 26 = .ok (.ifCond .ne 9, 3) := by decide +kernel
theorem dX11_cheese_29 : decode cX11_cheese 29 = .ok (.iload_n 3, 1) := by decide +kernel
theorem dX11_cheese_30 : decode cX11_cheese 30 = .ok (.ifCond .ne 5, 3) := by decide +kernel
theorem dX11_cheese_33 : decode cX11_cheese 33 = .ok (.iconst (-1), 1) := by decide +kernel
theorem dX11_cheese_34 : decode cX11_cheese 34 = .ok (.ireturn, 1) := by decide +kernel
theorem dX11_cheese_35 : decode cX11_cheese 35 = .ok (.iload_n 1, 1) := by decide +kernel
theorem dX11_cheese_36 : decode cX11_cheese 36 = .ok (.bipush 12, 2) := by decide +kernel
theorem dX11_cheese_38 : decode cX11_cheese 38 = .ok (.sipush 360, 3) := by decide +kernel
theorem dX11_cheese_41 : decode cX11_cheese 41 = .ok (.invokestatic 56, 3) := by decide +kernel
theorem dX11_cheese_44 : decode cX11_cheese 44 = .ok (.ifCond .ne 6, 3) := by decide +kernel
theorem dX11_cheese_47 : decode cX11_cheese 47 = .ok (.bipush (-2), 2) := by decide +kernel
theorem dX11_cheese_49 : decode cX11_cheese 49 = .ok (.ireturn, 1) := by decide +kernel
theorem dX11_cheese_50 : decode cX11_cheese 50 = .ok (.iload_n 1, 1) := by decide +kernel
theorem dX11_cheese_51 : decode cX11_cheese 51 = .ok (.istore 4, 2) := by decide +kernel
theorem dX11_cheese_53 : decode cX11_cheese 53 = .ok (.iconst 0, 1) := by decide +kernel
theorem dX11_cheese_54 : decode cX11_cheese 54 = .ok (.istore 5, 2) := by decide +kernel
theorem dX11_cheese_56 : decode cX11_cheese 56 = .ok (.iconst 0, 1) := by decide +kernel
theorem dX11_cheese_57 : decode cX11_cheese 57 = .ok (.istore 6, 2) := by decide +kernel
theorem dX11_cheese_59 : decode cX11_cheese 59 = .ok (.iconst 0, 1) := by decide +kernel
theorem dX11_cheese_60 : decode cX11_cheese 60 = .ok (.istore 7, 2) := by decide +kernel
theorem dX11_cheese_62 : decode cX11_cheese 62 = .ok (.iload 7, 2) := by decide +kernel
theorem dX11_cheese_64 : decode cX11_cheese 64 = .ok (.iload_n 1, 1) := by decide +kernel
theorem dX11_cheese_65 : decode cX11_cheese 65 = .ok (.if_icmp .ge 96, 3) := by decide +kernel
theorem dX11_cheese_68 : decode cX11_cheese 68 = .ok (.aload_n 0, 1) := by decide +kernel
theorem dX11_cheese_69 : decode cX11_cheese 69 = .ok (.getfield 12, 3) := by decide +kernel
theorem dX11_cheese_72 : decode cX11_cheese 72 = .ok (.getfield 89, 3) := by decide +kernel
theorem dX11_cheese_75 : decode cX11_cheese 75 = .ok (.ifCond .le 86, 3) := by decide +kernel
theorem dX11_cheese_78 : decode cX11_cheese 78 = .ok (.iload 7, 2) := by decide +kernel
theorem dX11_cheese_80 : decode cX11_cheese 80 = .ok (.aload_n 0, 1) := by decide +kernel
theorem dX11_cheese_81 : decode cX11_cheese 81 = .ok (.getfield 12, 3) := by decide +kernel
theorem dX11_cheese_84 : decode cX11_cheese 84 = .ok (.getfield 89, 3) := by decide +kernel
theorem dX11_cheese_87 : decode cX11_cheese 87 = .ok (.irem, 1) := by decide +kernel
theorem dX11_cheese_88 : decode cX11_cheese 88 = .ok (.istore 8, 2) := by decide +kernel
theorem dX11_cheese_90 : decode cX11_cheese 90 = .ok (.aload_n 0, 1) := by decide +kernel
theorem dX11_cheese_91 : decode cX11_cheese 91 = .ok (.getfield 12, 3) := by decide +kernel
theorem dX11_cheese_94 : decode cX11_cheese 94 = .ok (.iload 8, 2) := by decide +kernel
theorem dX11_cheese_96 : decode cX11_cheese 96 = .ok (.invokevirtual 100, 3) := by decide +kernel
theorem dX11_cheese_99 : decode cX11_cheese 99 = .ok (.astore 9, 2) := by decide +kernel
theorem dX11_cheese_101 : decode cX11_cheese 101 = .ok (.aload 9, 2) := by decide +kernel
theorem dX11_cheese_103 : decode cX11_cheese 103 = .ok (.ifnull 58, 3) := by decide +kernel
theorem dX11_cheese_161 : decode cX11_cheese 161 = .ok (.iload_n 3, 1) := by decide +kernel
theorem dX11_cheese_162 : decode cX11_cheese 162 = .ok (.ifCond .eq 6, 3) := by decide +kernel
theorem dX11_cheese_165 : decode cX11_cheese 165 = .ok (.iload 6, 2) := by decide +kernel
theorem dX11_cheese_167 : decode cX11_cheese 167 = .ok (.ireturn, 1) := by decide +kernel
theorem dX11_cheese_168 : decode cX11_cheese 168 = .ok (.iload_n 2, 1) := by decide +kernel
theorem dX11_cheese_169 : decode cX11_cheese 169 = .ok (.ifCond .ne 8, 3) := by decide +kernel
theorem dX11_cheese_172 : decode cX11_cheese 172 = .ok (.iload 5, 2) := by decide +kernel
theorem dX11_cheese_174 : decode cX11_cheese 174 = .ok (.goto 5, 3) := by decide +kernel
theorem dX11_cheese_177 : decode cX11_cheese 177 = .ok (.iload 4, 2) := by decide +kernel
theorem dX11_cheese_179 : decode cX11_cheese 179 = .ok (.ireturn, 1) := by decide +kernel
theorem hd_X11_cheese : yX11_cheese.cls = RX11 ∧ yX11_cheese.cls ≠ "java/lang/invoke/MethodHandle" ∧ yX11_cheese.cls ≠ "java/lang/invoke/VarHandle" ∧ (parseMethodDescriptor yX11_cheese.desc).map (fun d => d.parameters.length) = some 2 := by decide +kernel
abbrev rm_X11_cheese : Room := { frames := 1, cells := 0, slots := 0, locals := 22 }
def F_X11_cheese_161 (a1 : Int32) (a2 : Int32) (σ : SG) (ρ : RG) (v2 : Int32) (v3 : Int32) (v4 : Int32) (v5 : Int32) (v6 : Int32) : Option (Int32) :=
  if v3 = 0 then
    if v2 = 0 then
      some v5
    else
      some v4
  else
    some v6
def F_X11_cheese_62 (a1 : Int32) (a2 : Int32) : Nat → SG → RG → Int32 → Int32 → Int32 → Int32 → Int32 → Int32 → Int32 → Option (Int32)
  | 0 => fun _ _ _ _ _ _ _ _ _ => none
  | n + 1 => fun σ ρ v1 v2 v3 v4 v5 v6 v7 =>
  if v1 ≤ v7 then
    F_X11_cheese_161 a1 a2 σ ρ v2 v3 v4 v5 v6
  else
    if (σ 1 1) ≤ 0 then
      F_X11_cheese_161 a1 a2 σ ρ v2 v3 v4 v5 v6
    else
      gd (decide (¬ (σ 1 1) = 0)) <|
      nm (v7 - v7 / (σ 1 1) * (σ 1 1)) fun x13 =>
      bn (F_X8_cutterAt_1 x13 σ ρ) fun o14 =>
      oc o14
       (
        F_X11_cheese_161 a1 a2 σ ρ v2 v3 v4 v5 v6)
       (fun c15 =>
        none /- none: some -/)
def F_X11_cheese_35 (a1 : Int32) (a2 : Int32) (σ : SG) (ρ : RG) (v1 : Int32) (v2 : Int32) (v3 : Int32) : Option (Int32) :=
  bn (F_X11_isWithin v1 (12 : Int32) (360 : Int32) σ ρ) fun r6 =>
  if r6 = 0 then
    some (-2 : Int32)
  else
    F_X11_cheese_62 a1 a2 1024 σ ρ v1 v2 v3 v1 (0 : Int32) (0 : Int32) (0 : Int32)
def F_X11_cheese_19 (a1 : Int32) (a2 : Int32) (σ : SG) (ρ : RG) (v1 : Int32) (v2 : Int32) (k0 : Int32) : Option (Int32) :=
  bn (F_X11_isWithin v2 (0 : Int32) (1 : Int32) σ ρ) fun r4 =>
  if r4 = 0 then
    if k0 = 0 then
      some (-1 : Int32)
    else
      F_X11_cheese_35 a1 a2 σ ρ v1 v2 k0
  else
    F_X11_cheese_35 a1 a2 σ ρ v1 v2 k0
def F_X11_cheese (a1 : Int32) (a2 : Int32) (σ : SG) (ρ : RG) : Option (Int32) :=
  nm (a2 - (10 : Int32)) fun x1 =>
  bn (F_X8_cutterAt_1 x1 σ ρ) fun o2 =>
  oc o2
   (
    F_X11_cheese_19 a1 a2 σ ρ a1 a2 (0 : Int32))
   (fun c3 =>
    none /- none: some -/)
set_option maxHeartbeats 4000000 in
set_option maxRecDepth 100000 in
theorem w_X11_cheese_161 {a1 : Int32} {a2 : Int32} {p : Program} {e : Env} {s : State} {m : MethodId} {args : Array Value} {below : List Frame} {meth : Method} {c : Code} {σ0 : SG} {ρ0 : RG} {r : Int32} (C : Cx Y D N ad p s m args meth c cX11_cheese 10 (some .int) RX11 wsL_law) {σ : SG} {ρ : RG} {v2 : Int32} {v3 : Int32} {v4 : Int32} {v5 : Int32} {v6 : Int32} {H : Heap} {locs : List Loc} {ls : Array Slot} (hσ0 : σ = σ0) (hρ0 : ρ = ρ0) (hL : Lay N K len ρ) (hF : F_X11_cheese_161 a1 a2 σ ρ v2 v3 v4 v5 v6 = some r) (hP : WP Y D N ad K len σ ρ H) (hS : va_S (AA N ad s.heap.size) s.heap H locs) (hl : lv_has ls 10 [(2, .int v2), (3, .int v3), (4, .int v4), (5, .int v5), (6, .int v6)]) : W p l e rm_X11_cheese s m args below meth c H locs 0 0 (MQ below (QW Y D N ad K len σ0 ρ0 (AA N ad s.heap.size) (some (.int r))) args s 0 0 (AA N ad s.heap.size)) (F0 m 161 ls []) := by
  have hx := C.1.1
  have hb := C.1.2.1
  unfold F_X11_cheese_161 at hF
  refine lv_iload_n hx hb dX11_cheese_161 rfl (lv_at hl 1 rfl) ?_
  refine lv_if_eq (tgt := 168) hx hb dX11_cheese_162 (by decide) (fun c_9 => ?_) (fun c_9 => ?_) -- COND 9 by_cases c_9 : v3 = 0
  · have hF := ite_t hF c_9
    refine lv_iload_n hx hb dX11_cheese_168 rfl (lv_at hl 0 rfl) ?_
    refine lv_if_ne (tgt := 177) hx hb dX11_cheese_169 (by decide) (fun c_10 => ?_) (fun c_10 => ?_) -- COND 10 rcases (Decidable.em (v2 = 0)).symm with c_10 | c_10
    · have hF := ite_f hF c_10
      refine lv_iload hx hb dX11_cheese_177 (lv_at hl 2 rfl) ?_
      obtain rfl := ret_1 hF
      subst hσ0
      subst hρ0
      exact x_iret rfl C hP hS dX11_cheese_179
    · have hF := ite_t hF c_10
      refine lv_iload hx hb dX11_cheese_172 (lv_at hl 3 rfl) ?_
      refine lv_goto (tgt := 179) hx hb dX11_cheese_174 (by decide) ?_
      obtain rfl := ret_1 hF
      subst hσ0
      subst hρ0
      exact x_iret rfl C hP hS dX11_cheese_179
  · have hF := ite_f hF c_9
    refine lv_iload hx hb dX11_cheese_165 (lv_at hl 4 rfl) ?_
    obtain rfl := ret_1 hF
    subst hσ0
    subst hρ0
    exact x_iret rfl C hP hS dX11_cheese_167
set_option maxHeartbeats 4000000 in
set_option maxRecDepth 100000 in
theorem w_X11_cheese_62 {a1 : Int32} {a2 : Int32} {p : Program} {e : Env} {s : State} {m : MethodId} {args : Array Value} {below : List Frame} {meth : Method} {c : Code} {σ0 : SG} {ρ0 : RG} {r : Int32} (C : Cx Y D N ad p s m args meth c cX11_cheese 10 (some .int) RX11 wsL_law) : ∀ (n : Nat) (σ : SG) (ρ : RG) (v1 : Int32) (v2 : Int32) (v3 : Int32) (v4 : Int32) (v5 : Int32) (v6 : Int32) (v7 : Int32) (H : Heap) (locs : List Loc) (ls : Array Slot), σ = σ0 → ρ = ρ0 → Lay N K len ρ → F_X11_cheese_62 a1 a2 n σ ρ v1 v2 v3 v4 v5 v6 v7 = some r → WP Y D N ad K len σ ρ H → va_S (AA N ad s.heap.size) s.heap H locs → lv_has ls 10 [(0, .ref (ad 0)), (1, .int v1), (2, .int v2), (3, .int v3), (4, .int v4), (5, .int v5), (6, .int v6), (7, .int v7)] → W p l e rm_X11_cheese s m args below meth c H locs 0 0 (MQ below (QW Y D N ad K len σ0 ρ0 (AA N ad s.heap.size) (some (.int r))) args s 0 0 (AA N ad s.heap.size)) (F0 m 62 ls []) := by
  have hx := C.1.1
  have hb := C.1.2.1
  intro n
  induction n with
  | zero => intro σ ρ v1 v2 v3 v4 v5 v6 v7 H locs ls hσ0 hρ0 hL hF; cases hF
  | succ n ih =>
    intro σ ρ v1 v2 v3 v4 v5 v6 v7 H locs ls hσ0 hρ0 hL hF hP hS hl
    unfold F_X11_cheese_62 at hF
    refine lv_iload hx hb dX11_cheese_62 (lv_at hl 7 rfl) ?_
    refine lv_iload_n hx hb dX11_cheese_64 rfl (lv_at hl 1 rfl) ?_
    refine lv_icmp_ge (tgt := 161) hx hb dX11_cheese_65 (by decide) (fun c_8 => ?_) (fun c_8 => ?_) -- COND 8 by_cases c_8 : v1 ≤ v7
    · have hF := ite_t hF c_8
      exact w_X11_cheese_161 C hσ0 hρ0 hL hF hP hS (lv_sub hl [2, 3, 4, 5, 6] rfl)
    · have hF := ite_f hF c_8
      refine lv_aload_n hx hb dX11_cheese_68 rfl (lv_at hl 0 rfl) ?_
      refine get_11_0 C hP (lr_0 hL) (lk_0 hL) inlX11 mw_15 (lf_0_0 hL) dX11_cheese_69 ?_
      refine get_8_1 C hP (lr_1 hL) (lk_1 hL) inlX8 mw_352 dX11_cheese_72 ?_
      refine lv_if_le (tgt := 161) hx hb dX11_cheese_75 (by decide) (fun c_11 => ?_) (fun c_11 => ?_) -- COND 11 by_cases c_11 : (σ 1 1) ≤ 0
      · have hF := ite_t hF c_11
        exact w_X11_cheese_161 C hσ0 hρ0 hL hF hP hS (lv_sub hl [2, 3, 4, 5, 6] rfl)
      · have hF := ite_f hF c_11
        refine lv_iload hx hb dX11_cheese_78 (lv_at hl 7 rfl) ?_
        refine lv_aload_n hx hb dX11_cheese_80 rfl (lv_at hl 0 rfl) ?_
        refine get_11_0 C hP (lr_0 hL) (lk_0 hL) inlX11 mw_15 (lf_0_0 hL) dX11_cheese_81 ?_
        refine get_8_1 C hP (lr_1 hL) (lk_1 hL) inlX8 mw_352 dX11_cheese_84 ?_
        obtain ⟨g12, hF⟩ := gd_1 hF
        refine lv_irem hx hb dX11_cheese_87 (of_decide_eq_true g12) ?_
        obtain ⟨x13, ex13, hF⟩ := nm_1 hF
        refine x_top ex13 ?_
        refine lv_istore (lv' := [(8, .int x13), (0, .ref (ad 0)), (1, .int v1), (2, .int v2), (3, .int v3), (4, .int v4), (5, .int v5), (6, .int v6), (7, .int v7)]) hx hb dX11_cheese_88 hl (by decide) rfl (fun ls hl => ?_)
        refine lv_aload_n hx hb dX11_cheese_90 rfl (lv_at hl 1 rfl) ?_
        refine get_11_0 C hP (lr_0 hL) (lk_0 hL) inlX11 mw_15 (lf_0_0 hL) dX11_cheese_91 ?_
        refine lv_iload hx hb dX11_cheese_94 (lv_at hl 0 rfl) ?_
        obtain ⟨o14, hq14, hF⟩ := bn_1 hF
        refine x_callV (ci := 8) rfl rfl C hP hS (c_X8_cutterAt_1 hL hq14) (lr_1 hL) (lk_1 hL) (cwV 1 C.1.2.2.2.2 (gdV mw_428 mw_429 mw_430 mw_14 mw_431) rfl rfl rfl hd_X8_cutterAt ⟨Nat.le_of_ble_eq_true rfl, Nat.le_of_ble_eq_true rfl⟩) rfl rfl hl.1 (Nat.le_of_ble_eq_true rfl) ⟨Nat.zero_le _, Nat.zero_le _⟩ dX11_cheese_96 (fun H locs hP hS => ?_)
        rcases ho15 : o14 with _ | c15
        · have hF := oc_n hF ho15
          refine x_n ?_
          refine lv_astoreN (lv' := [(9, .null), (8, .int x13), (0, .ref (ad 0)), (1, .int v1), (2, .int v2), (3, .int v3), (4, .int v4), (5, .int v5), (6, .int v6), (7, .int v7)]) hx hb dX11_cheese_99 hl (by decide) rfl (fun ls hl => ?_)
          refine lv_aloadN hx hb dX11_cheese_101 (lv_at hl 0 rfl) ?_
          refine lv_ifnullN (tgt := 161) hx hb dX11_cheese_103 (by decide) ?_
          exact w_X11_cheese_161 C hσ0 hρ0 hL hF hP hS (lv_sub hl [4, 5, 6, 7, 8] rfl)
        · have hF := oc_s hF ho15
          refine x_s ?_
          cases hF
set_option maxHeartbeats 4000000 in
set_option maxRecDepth 100000 in
theorem w_X11_cheese_35 {a1 : Int32} {a2 : Int32} {p : Program} {e : Env} {s : State} {m : MethodId} {args : Array Value} {below : List Frame} {meth : Method} {c : Code} {σ0 : SG} {ρ0 : RG} {r : Int32} (C : Cx Y D N ad p s m args meth c cX11_cheese 10 (some .int) RX11 wsL_law) {σ : SG} {ρ : RG} {v1 : Int32} {v2 : Int32} {v3 : Int32} {H : Heap} {locs : List Loc} {ls : Array Slot} (hσ0 : σ = σ0) (hρ0 : ρ = ρ0) (hL : Lay N K len ρ) (hF : F_X11_cheese_35 a1 a2 σ ρ v1 v2 v3 = some r) (hP : WP Y D N ad K len σ ρ H) (hS : va_S (AA N ad s.heap.size) s.heap H locs) (hl : lv_has ls 10 [(0, .ref (ad 0)), (1, .int v1), (2, .int v2), (3, .int v3)]) : W p l e rm_X11_cheese s m args below meth c H locs 0 0 (MQ below (QW Y D N ad K len σ0 ρ0 (AA N ad s.heap.size) (some (.int r))) args s 0 0 (AA N ad s.heap.size)) (F0 m 35 ls []) := by
  have hx := C.1.1
  have hb := C.1.2.1
  unfold F_X11_cheese_35 at hF
  refine lv_iload_n hx hb dX11_cheese_35 rfl (lv_at hl 1 rfl) ?_
  refine lv_bipush (v := 12) hx hb dX11_cheese_36 (by decide +kernel) ?_
  refine lv_sipush (v := 360) hx hb dX11_cheese_38 (by decide +kernel) ?_
  obtain ⟨r6, hq6, hF⟩ := bn_1 hF
  refine x_callS C hP hS (c_X11_isWithin hL hq6) (va_cwS 3 C.1.2.2.2.2 (gdS mw_97 mw_98 mw_2 mw_99) rfl rfl rfl hd_X11_isWithin.2 ⟨Nat.le_of_ble_eq_true rfl, Nat.le_of_ble_eq_true rfl⟩) rfl rfl hl.1 (Nat.le_of_ble_eq_true rfl) ⟨Nat.zero_le _, Nat.zero_le _⟩ dX11_cheese_41 (fun H locs hP hS => ?_)
  refine lv_if_ne (tgt := 50) hx hb dX11_cheese_44 (by decide) (fun c_7 => ?_) (fun c_7 => ?_) -- COND 7 rcases (Decidable.em (r6 = 0)).symm with c_7 | c_7
  · have hF := ite_f hF c_7
    refine lv_iload_n hx hb dX11_cheese_50 rfl (lv_at hl 1 rfl) ?_
    refine lv_istore (lv' := [(4, .int v1), (0, .ref (ad 0)), (1, .int v1), (2, .int v2), (3, .int v3)]) hx hb dX11_cheese_51 hl (by decide) rfl (fun ls hl => ?_)
    refine lv_iconst (v := 0) hx hb dX11_cheese_53 (by decide) ?_
    refine lv_istore (lv' := [(5, .int (0 : Int32)), (4, .int v1), (0, .ref (ad 0)), (1, .int v1), (2, .int v2), (3, .int v3)]) hx hb dX11_cheese_54 hl (by decide) rfl (fun ls hl => ?_)
    refine lv_iconst (v := 0) hx hb dX11_cheese_56 (by decide) ?_
    refine lv_istore (lv' := [(6, .int (0 : Int32)), (5, .int (0 : Int32)), (4, .int v1), (0, .ref (ad 0)), (1, .int v1), (2, .int v2), (3, .int v3)]) hx hb dX11_cheese_57 hl (by decide) rfl (fun ls hl => ?_)
    refine lv_iconst (v := 0) hx hb dX11_cheese_59 (by decide) ?_
    refine lv_istore (lv' := [(7, .int (0 : Int32)), (6, .int (0 : Int32)), (5, .int (0 : Int32)), (4, .int v1), (0, .ref (ad 0)), (1, .int v1), (2, .int v2), (3, .int v3)]) hx hb dX11_cheese_60 hl (by decide) rfl (fun ls hl => ?_)
    exact w_X11_cheese_62 C 1024 _ _ _ _ _ _ _ _ _ _ _ _ hσ0 hρ0 hL hF hP hS (lv_sub hl [4, 5, 6, 7, 3, 2, 1, 0] rfl)
  · have hF := ite_t hF c_7
    refine lv_bipush (v := -2) hx hb dX11_cheese_47 (by decide +kernel) ?_
    obtain rfl := ret_1 hF
    subst hσ0
    subst hρ0
    exact x_iret rfl C hP hS dX11_cheese_49
set_option maxHeartbeats 4000000 in
set_option maxRecDepth 100000 in
theorem w_X11_cheese_19 {a1 : Int32} {a2 : Int32} {p : Program} {e : Env} {s : State} {m : MethodId} {args : Array Value} {below : List Frame} {meth : Method} {c : Code} {σ0 : SG} {ρ0 : RG} {r : Int32} (C : Cx Y D N ad p s m args meth c cX11_cheese 10 (some .int) RX11 wsL_law) {σ : SG} {ρ : RG} {v1 : Int32} {v2 : Int32} {k0 : Int32} {H : Heap} {locs : List Loc} {ls : Array Slot} (hσ0 : σ = σ0) (hρ0 : ρ = ρ0) (hL : Lay N K len ρ) (hF : F_X11_cheese_19 a1 a2 σ ρ v1 v2 k0 = some r) (hP : WP Y D N ad K len σ ρ H) (hS : va_S (AA N ad s.heap.size) s.heap H locs) (hl : lv_has ls 10 [(0, .ref (ad 0)), (1, .int v1), (2, .int v2)]) : W p l e rm_X11_cheese s m args below meth c H locs 0 0 (MQ below (QW Y D N ad K len σ0 ρ0 (AA N ad s.heap.size) (some (.int r))) args s 0 0 (AA N ad s.heap.size)) (F0 m 19 ls [.int k0]) := by
  have hx := C.1.1
  have hb := C.1.2.1
  unfold F_X11_cheese_19 at hF
  refine lv_istore_n (lv' := [(3, .int k0), (0, .ref (ad 0)), (1, .int v1), (2, .int v2)]) hx hb dX11_cheese_19 rfl hl (by decide) rfl (fun ls hl => ?_)
  refine lv_iload_n hx hb dX11_cheese_20 rfl (lv_at hl 3 rfl) ?_
  refine lv_iconst (v := 0) hx hb dX11_cheese_21 (by decide) ?_
  refine lv_iconst (v := 1) hx hb dX11_cheese_22 (by decide) ?_
  obtain ⟨r4, hq4, hF⟩ := bn_1 hF
  refine x_callS C hP hS (c_X11_isWithin hL hq4) (va_cwS 3 C.1.2.2.2.2 (gdS mw_97 mw_98 mw_2 mw_99) rfl rfl rfl hd_X11_isWithin.2 ⟨Nat.le_of_ble_eq_true rfl, Nat.le_of_ble_eq_true rfl⟩) rfl rfl hl.1 (Nat.le_of_ble_eq_true rfl) ⟨Nat.zero_le _, Nat.zero_le _⟩ dX11_cheese_23 (fun H locs hP hS => ?_)
  refine lv_if_ne (tgt := 35) hx hb dX11_cheese_26 (by decide) (fun c_5 => ?_) (fun c_5 => ?_) -- COND 5 rcases (Decidable.em (r4 = 0)).symm with c_5 | c_5
  · have hF := ite_f hF c_5
    exact w_X11_cheese_35 C hσ0 hρ0 hL hF hP hS (lv_sub hl [1, 2, 3, 0] rfl)
  · have hF := ite_t hF c_5
    refine lv_iload_n hx hb dX11_cheese_29 rfl (lv_at hl 0 rfl) ?_
    refine lv_if_ne (tgt := 35) hx hb dX11_cheese_30 (by decide) (fun c_16 => ?_) (fun c_16 => ?_) -- COND 16 rcases (Decidable.em (k0 = 0)).symm with c_16 | c_16
    · have hF := ite_f hF c_16
      exact w_X11_cheese_35 C hσ0 hρ0 hL hF hP hS (lv_sub hl [1, 2, 3, 0] rfl)
    · have hF := ite_t hF c_16
      refine lv_iconst (v := -1) hx hb dX11_cheese_33 (by decide) ?_
      obtain rfl := ret_1 hF
      subst hσ0
      subst hρ0
      exact x_iret rfl C hP hS dX11_cheese_34
set_option maxHeartbeats 4000000 in
set_option maxRecDepth 100000 in
theorem w_X11_cheese_0 {a1 : Int32} {a2 : Int32} {p : Program} {e : Env} {s : State} {m : MethodId} {args : Array Value} {below : List Frame} {meth : Method} {c : Code} {σ0 : SG} {ρ0 : RG} {r : Int32} (C : Cx Y D N ad p s m args meth c cX11_cheese 10 (some .int) RX11 wsL_law) {σ : SG} {ρ : RG} {H : Heap} {locs : List Loc} {ls : Array Slot} (hσ0 : σ = σ0) (hρ0 : ρ = ρ0) (hL : Lay N K len ρ) (hF : F_X11_cheese a1 a2 σ ρ = some r) (hP : WP Y D N ad K len σ ρ H) (hS : va_S (AA N ad s.heap.size) s.heap H locs) (hl : lv_has ls 10 [(0, .ref (ad 0)), (1, .int a1), (2, .int a2)]) : W p l e rm_X11_cheese s m args below meth c H locs 0 0 (MQ below (QW Y D N ad K len σ0 ρ0 (AA N ad s.heap.size) (some (.int r))) args s 0 0 (AA N ad s.heap.size)) (F0 m 0 ls []) := by
  have hx := C.1.1
  have hb := C.1.2.1
  unfold F_X11_cheese at hF
  refine lv_aload_n hx hb dX11_cheese_0 rfl (lv_at hl 0 rfl) ?_
  refine get_11_0 C hP (lr_0 hL) (lk_0 hL) inlX11 mw_15 (lf_0_0 hL) dX11_cheese_1 ?_
  refine lv_iload_n hx hb dX11_cheese_4 rfl (lv_at hl 2 rfl) ?_
  refine lv_bipush (v := 10) hx hb dX11_cheese_5 (by decide +kernel) ?_
  refine lv_isub hx hb dX11_cheese_7 ?_
  obtain ⟨x1, ex1, hF⟩ := nm_1 hF
  refine x_top ex1 ?_
  obtain ⟨o2, hq2, hF⟩ := bn_1 hF
  refine x_callV (ci := 8) rfl rfl C hP hS (c_X8_cutterAt_1 hL hq2) (lr_1 hL) (lk_1 hL) (cwV 1 C.1.2.2.2.2 (gdV mw_428 mw_429 mw_430 mw_14 mw_431) rfl rfl rfl hd_X8_cutterAt ⟨Nat.le_of_ble_eq_true rfl, Nat.le_of_ble_eq_true rfl⟩) rfl rfl hl.1 (Nat.le_of_ble_eq_true rfl) ⟨Nat.zero_le _, Nat.zero_le _⟩ dX11_cheese_8 (fun H locs hP hS => ?_)
  rcases ho3 : o2 with _ | c3
  · have hF := oc_n hF ho3
    refine x_n ?_
    refine lv_ifnullN (tgt := 18) hx hb dX11_cheese_11 (by decide) ?_
    refine lv_iconst (v := 0) hx hb dX11_cheese_18 (by decide) ?_
    exact w_X11_cheese_19 C hσ0 hρ0 hL hF hP hS (lv_sub hl [0, 1, 2] rfl)
  · have hF := oc_s hF ho3
    refine x_s ?_
    cases hF
set_option maxHeartbeats 4000000 in
set_option maxRecDepth 100000 in
theorem c_X11_cheese {a1 : Int32} {a2 : Int32} {r : Int32} {σ : SG} {ρ : RG} (hL : Lay N K len ρ) (hF : F_X11_cheese a1 a2 σ ρ = some r) : MT l Y D N ad K len yX11_cheese (Cond.code yX11_cheese cX11_cheese 10 (some .int) :: wsL_law) rm_X11_cheese [.ref (ad 0), .int a1, .int a2] σ ρ (some (.int r)) σ ρ := by
  refine mt_of (cc := cX11_cheese) (nL := 10) (ret := (some .int)) (by decide) (Nat.le_of_ble_eq_true rfl) ?_
  intro p e s m args below meth c ls C hnm hP hS hl
  exact w_X11_cheese_0 C rfl rfl hL hF hP hS hl

/-! CutCrooked.public int who();  -/
theorem dX11_who_0 : decode cX11_who 0 = .ok (.iconst 0, 1) := by decide +kernel
theorem dX11_who_1 : decode cX11_who 1 = .ok (.istore_n 1, 1) := by decide +kernel
theorem dX11_who_2 : decode cX11_who 2 = .ok (.aload_n 0, 1) := by decide +kernel
theorem dX11_who_3 : decode cX11_who 3 = .ok (.invokevirtual 176, 3) := by decide +kernel
theorem dX11_who_6 : decode cX11_who 6 = .ok (.iconst 0, 1) := by decide +kernel
theorem dX11_who_7 : decode cX11_who 7 = .ok (.istore_n 2, 1) := by decide +kernel
theorem dX11_who_8 : decode cX11_who 8 = .ok (.iload_n 2, 1) := by decide +kernel
theorem dX11_who_9 : decode cX11_who 9 = .ok (.aload_n 0, 1) := by decide +kernel
theorem dX11_who_10 : decode cX11_who 10 = .ok (.getfield 12, 3) := by decide +kernel
theorem dX11_who_13 : decode cX11_who 13 = .ok (.getfield 89, 3) := by decide +kernel
theorem dX11_who_16 : decode cX11_who 16 = .ok (.if_icmp .ge 70, 3) := by decide +kernel
theorem dX11_who_19 : decode cX11_who 19 = .ok (.aload_n 0, 1) := by decide +kernel
theorem dX11_who_20 : decode cX11_who 20 = .ok (.iconst 0, 1) := by decide +kernel
theorem dX11_who_21 : decode cX11_who 21 = .ok (.aload_n 0, 1) := by decide +kernel
theorem dX11_who_22 : decode cX11_who 22 = .ok (.getfield 12, 3) := by decide +kernel
theorem dX11_who_25 : decode cX11_who 25 = .ok (.iload_n 2, 1) := by decide +kernel
theorem dX11_who_26 : decode cX11_who 26 = .ok (.invokevirtual 100, 3) := by decide +kernel
theorem dX11_who_29 : decode cX11_who 29 = .ok (.iconst 0, 1) := by decide +kernel
theorem dX11_who_86 : decode cX11_who 86 = .ok (.iload_n 1, 1) := by decide +kernel
theorem dX11_who_87 : decode cX11_who 87 = .ok (.ireturn, 1) := by decide +kernel
theorem hd_X11_who : yX11_who.cls = RX11 ∧ yX11_who.cls ≠ "java/lang/invoke/MethodHandle" ∧ yX11_who.cls ≠ "java/lang/invoke/VarHandle" ∧ (parseMethodDescriptor yX11_who.desc).map (fun d => d.parameters.length) = some 0 := by decide +kernel
abbrev rm_X11_who : Room := { frames := 2, cells := 0, slots := 0, locals := 41 }
def F_X11_who_8  : Nat → SG → RG → Int32 → Int32 → Option (Int32 × SG)
  | 0 => fun _ _ _ _ => none
  | n + 1 => fun σ ρ v1 v2 =>
  if (σ 1 1) ≤ v2 then
    some (v1, σ)
  else
    bn (F_X8_cutterAt_1 v2 σ ρ) fun o3 =>
    oc o3
     (
      none /- none: 30: no contract 11.tryStep -/)
     (fun c4 =>
      none /- none: some -/)
def F_X11_who  (σ : SG) (ρ : RG) : Option (Int32 × SG) :=
  bn (F_X11_startSteps σ ρ) fun σ1 =>
  F_X11_who_8 1024 σ1 ρ (0 : Int32) (0 : Int32)
set_option maxHeartbeats 4000000 in
set_option maxRecDepth 100000 in
theorem w_X11_who_8  {p : Program} {e : Env} {s : State} {m : MethodId} {args : Array Value} {below : List Frame} {meth : Method} {c : Code} {ρ0 : RG} {r : Int32} {σ1 : SG} (C : Cx Y D N ad p s m args meth c cX11_who 3 (some .int) RX11 wsL_law) : ∀ (n : Nat) (σ : SG) (ρ : RG) (v1 : Int32) (v2 : Int32) (H : Heap) (locs : List Loc) (ls : Array Slot), ρ = ρ0 → Lay N K len ρ → F_X11_who_8 n σ ρ v1 v2 = some (r, σ1) → WP Y D N ad K len σ ρ H → va_S (AA N ad s.heap.size) s.heap H locs → lv_has ls 3 [(0, .ref (ad 0)), (1, .int v1), (2, .int v2)] → W p l e rm_X11_who s m args below meth c H locs 0 0 (MQ below (QW Y D N ad K len σ1 ρ0 (AA N ad s.heap.size) (some (.int r))) args s 0 0 (AA N ad s.heap.size)) (F0 m 8 ls []) := by
  have hx := C.1.1
  have hb := C.1.2.1
  intro n
  induction n with
  | zero => intro σ ρ v1 v2 H locs ls hρ0 hL hF; cases hF
  | succ n ih =>
    intro σ ρ v1 v2 H locs ls hρ0 hL hF hP hS hl
    unfold F_X11_who_8 at hF
    refine lv_iload_n hx hb dX11_who_8 rfl (lv_at hl 2 rfl) ?_
    refine lv_aload_n hx hb dX11_who_9 rfl (lv_at hl 0 rfl) ?_
    refine get_11_0 C hP (lr_0 hL) (lk_0 hL) inlX11 mw_15 (lf_0_0 hL) dX11_who_10 ?_
    refine get_8_1 C hP (lr_1 hL) (lk_1 hL) inlX8 mw_352 dX11_who_13 ?_
    refine lv_icmp_ge (tgt := 86) hx hb dX11_who_16 (by decide) (fun c_2 => ?_) (fun c_2 => ?_) -- COND 2 by_cases c_2 : (σ 1 1) ≤ v2
    · have hF := ite_t hF c_2
      refine lv_iload_n hx hb dX11_who_86 rfl (lv_at hl 1 rfl) ?_
      obtain ⟨rfl, rfl⟩ := ret_2 hF
      subst hρ0
      exact x_iret rfl C hP hS dX11_who_87
    · have hF := ite_f hF c_2
      refine lv_aload_n hx hb dX11_who_19 rfl (lv_at hl 0 rfl) ?_
      refine lv_iconst (v := 0) hx hb dX11_who_20 (by decide) ?_
      refine lv_aload_n hx hb dX11_who_21 rfl (lv_at hl 0 rfl) ?_
      refine get_11_0 C hP (lr_0 hL) (lk_0 hL) inlX11 mw_15 (lf_0_0 hL) dX11_who_22 ?_
      refine lv_iload_n hx hb dX11_who_25 rfl (lv_at hl 2 rfl) ?_
      obtain ⟨o3, hq3, hF⟩ := bn_1 hF
      refine x_callV (ci := 8) rfl rfl C hP hS (c_X8_cutterAt_1 hL hq3) (lr_1 hL) (lk_1 hL) (cwV 1 C.1.2.2.2.2 (gdV mw_428 mw_429 mw_430 mw_14 mw_431) rfl rfl rfl hd_X8_cutterAt ⟨Nat.le_of_ble_eq_true rfl, Nat.le_of_ble_eq_true rfl⟩) rfl rfl hl.1 (Nat.le_of_ble_eq_true rfl) ⟨Nat.zero_le _, Nat.zero_le _⟩ dX11_who_26 (fun H locs hP hS => ?_)
      rcases ho4 : o3 with _ | c4
      · have hF := oc_n hF ho4
        refine x_n ?_
        refine lv_iconst (v := 0) hx hb dX11_who_29 (by decide) ?_
        cases hF
      · have hF := oc_s hF ho4
        refine x_s ?_
        cases hF
set_option maxHeartbeats 4000000 in
set_option maxRecDepth 100000 in
theorem w_X11_who_0  {p : Program} {e : Env} {s : State} {m : MethodId} {args : Array Value} {below : List Frame} {meth : Method} {c : Code} {ρ0 : RG} {r : Int32} {σ1 : SG} (C : Cx Y D N ad p s m args meth c cX11_who 3 (some .int) RX11 wsL_law) {σ : SG} {ρ : RG} {H : Heap} {locs : List Loc} {ls : Array Slot} (hρ0 : ρ = ρ0) (hL : Lay N K len ρ) (hF : F_X11_who σ ρ = some (r, σ1)) (hP : WP Y D N ad K len σ ρ H) (hS : va_S (AA N ad s.heap.size) s.heap H locs) (hl : lv_has ls 3 [(0, .ref (ad 0))]) : W p l e rm_X11_who s m args below meth c H locs 0 0 (MQ below (QW Y D N ad K len σ1 ρ0 (AA N ad s.heap.size) (some (.int r))) args s 0 0 (AA N ad s.heap.size)) (F0 m 0 ls []) := by
  have hx := C.1.1
  have hb := C.1.2.1
  unfold F_X11_who at hF
  refine lv_iconst (v := 0) hx hb dX11_who_0 (by decide) ?_
  refine lv_istore_n (lv' := [(1, .int (0 : Int32)), (0, .ref (ad 0))]) hx hb dX11_who_1 rfl hl (by decide) rfl (fun ls hl => ?_)
  refine lv_aload_n hx hb dX11_who_2 rfl (lv_at hl 1 rfl) ?_
  obtain ⟨σ1, hq1, hF⟩ := bn_1 hF
  refine x_callV (ci := 11) rfl rfl C hP hS (c_X11_startSteps hL hq1) (lr_0 hL) (lk_0 hL) (cwV 0 C.1.2.2.2.2 (gdV mw_713 mw_714 mw_715 mw_2 mw_716) rfl rfl rfl hd_X11_startSteps ⟨Nat.le_of_ble_eq_true rfl, Nat.le_of_ble_eq_true rfl⟩) rfl rfl hl.1 (Nat.le_of_ble_eq_true rfl) ⟨Nat.zero_le _, Nat.zero_le _⟩ dX11_who_3 (fun H locs hP hS => ?_)
  refine lv_iconst (v := 0) hx hb dX11_who_6 (by decide) ?_
  refine lv_istore_n (lv' := [(2, .int (0 : Int32)), (1, .int (0 : Int32)), (0, .ref (ad 0))]) hx hb dX11_who_7 rfl hl (by decide) rfl (fun ls hl => ?_)
  exact w_X11_who_8 C 1024 _ _ _ _ _ _ _ hρ0 hL hF hP hS (lv_sub hl [2, 1, 0] rfl)
set_option maxHeartbeats 4000000 in
set_option maxRecDepth 100000 in
theorem c_X11_who  {r : Int32} {σ1 : SG} {σ : SG} {ρ : RG} (hL : Lay N K len ρ) (hF : F_X11_who σ ρ = some (r, σ1)) : MT l Y D N ad K len yX11_who (Cond.code yX11_who cX11_who 3 (some .int) :: wsL_law) rm_X11_who [.ref (ad 0)] σ ρ (some (.int r)) σ1 ρ := by
  refine mt_of (cc := cX11_who) (nL := 3) (ret := (some .int)) (by decide) (Nat.le_of_ble_eq_true rfl) ?_
  intro p e s m args below meth c ls C hnm hP hS hl
  exact w_X11_who_0 C rfl hL hF hP hS hl

/-! CutCrooked.public int rows(int);  -/
theorem dX11_rows_0 : decode cX11_rows 0 = .ok (.iload_n 1, 1) := by decide +kernel
theorem dX11_rows_1 : decode cX11_rows 1 = .ok (.iconst (-1), 1) := by decide +kernel
theorem dX11_rows_2 : decode cX11_rows 2 = .ok (.iconst 3, 1) := by decide +kernel
theorem dX11_rows_3 : decode cX11_rows 3 = .ok (.invokestatic 56, 3) := by decide +kernel
theorem dX11_rows_6 : decode cX11_rows 6 = .ok (.ifCond .ne 5, 3) := by decide +kernel
theorem dX11_rows_9 : decode cX11_rows 9 = .ok (.iconst (-1), 1) := by decide +kernel
theorem dX11_rows_10 : decode cX11_rows 10 = .ok (.ireturn, 1) := by decide +kernel
theorem dX11_rows_11 : decode cX11_rows 11 = .ok (.aload_n 0, 1) := by decide +kernel
theorem dX11_rows_12 : decode cX11_rows 12 = .ok (.invokevirtual 176, 3) := by decide +kernel
theorem dX11_rows_15 : decode cX11_rows 15 = .ok (.aload_n 0, 1) := by decide +kernel
theorem dX11_rows_16 : decode cX11_rows 16 = .ok (.iconst 0, 1) := by decide +kernel
theorem dX11_rows_17 : decode cX11_rows 17 = .ok (.invokevirtual 248, 3) := by decide +kernel
theorem dX11_rows_20 : decode cX11_rows 20 = .ok (.istore_n 2, 1) := by decide +kernel
theorem dX11_rows_21 : decode cX11_rows 21 = .ok (.iload_n 1, 1) := by decide +kernel
theorem dX11_rows_22 : decode cX11_rows 22 = .ok (.ifCond .ge 5, 3) := by decide +kernel
theorem dX11_rows_25 : decode cX11_rows 25 = .ok (.iload_n 2, 1) := by decide +kernel
theorem dX11_rows_26 : decode cX11_rows 26 = .ok (.ireturn, 1) := by decide +kernel
theorem dX11_rows_27 : decode cX11_rows 27 = .ok (.aload_n 0, 1) := by decide +kernel
theorem dX11_rows_28 : decode cX11_rows 28 = .ok (.getfield 207, 3) := by decide +kernel
theorem dX11_rows_31 : decode cX11_rows 31 = .ok (.ifCond .eq 25, 3) := by decide +kernel
theorem dX11_rows_34 : decode cX11_rows 34 = .ok (.iload_n 1, 1) := by decide +kernel
theorem dX11_rows_35 : decode cX11_rows 35 = .ok (.aload_n 0, 1) := by decide +kernel
theorem dX11_rows_36 : decode cX11_rows 36 = .ok (.getfield 12, 3) := by decide +kernel
theorem dX11_rows_39 : decode cX11_rows 39 = .ok (.getfield 242, 3) := by decide +kernel
theorem dX11_rows_42 : decode cX11_rows 42 = .ok (.if_icmp .ge 14, 3) := by decide +kernel
theorem dX11_rows_45 : decode cX11_rows 45 = .ok (.aload_n 0, 1) := by decide +kernel
theorem dX11_rows_46 : decode cX11_rows 46 = .ok (.getfield 45, 3) := by decide +kernel
theorem dX11_rows_49 : decode cX11_rows 49 = .ok (.iload_n 1, 1) := by decide +kernel
theorem dX11_rows_50 : decode cX11_rows 50 = .ok (.invokestatic 196, 3) := by decide +kernel
theorem dX11_rows_53 : decode cX11_rows 53 = .ok (.goto 5, 3) := by decide +kernel
theorem dX11_rows_56 : decode cX11_rows 56 = .ok (.bipush (-5), 2) := by decide +kernel
theorem dX11_rows_58 : decode cX11_rows 58 = .ok (.ireturn, 1) := by decide +kernel
theorem hd_X11_rows : yX11_rows.cls = RX11 ∧ yX11_rows.cls ≠ "java/lang/invoke/MethodHandle" ∧ yX11_rows.cls ≠ "java/lang/invoke/VarHandle" ∧ (parseMethodDescriptor yX11_rows.desc).map (fun d => d.parameters.length) = some 1 := by decide +kernel
abbrev rm_X11_rows : Room := { frames := 2, cells := 0, slots := 0, locals := 45 }
def F_X11_rows (a1 : Int32) (σ : SG) (ρ : RG) : Option (Int32 × SG) :=
  bn (F_X11_isWithin a1 (-1 : Int32) (3 : Int32) σ ρ) fun r1 =>
  if r1 = 0 then
    some ((-1 : Int32), σ)
  else
    bn (F_X11_startSteps σ ρ) fun σ3 =>
    bn2 (F_X11_weekRows (0 : Int32) σ3 ρ) fun r4 σ4 =>
    if 0 ≤ a1 then
      if (σ4 0 8) = 0 then
        some ((-5 : Int32), σ4)
      else
        if (σ4 1 10) ≤ a1 then
          some ((-5 : Int32), σ4)
        else
          bn (F_X11_valueAt 36 6 a1 σ4 ρ) fun r8 =>
          some (r8, σ4)
    else
      some (r4, σ4)
set_option maxHeartbeats 4000000 in
set_option maxRecDepth 100000 in
theorem w_X11_rows_0 {a1 : Int32} {p : Program} {e : Env} {s : State} {m : MethodId} {args : Array Value} {below : List Frame} {meth : Method} {c : Code} {ρ0 : RG} {r : Int32} {σ1 : SG} (C : Cx Y D N ad p s m args meth c cX11_rows 3 (some .int) RX11 wsL_law) {σ : SG} {ρ : RG} {H : Heap} {locs : List Loc} {ls : Array Slot} (hρ0 : ρ = ρ0) (hL : Lay N K len ρ) (hF : F_X11_rows a1 σ ρ = some (r, σ1)) (hP : WP Y D N ad K len σ ρ H) (hS : va_S (AA N ad s.heap.size) s.heap H locs) (hl : lv_has ls 3 [(0, .ref (ad 0)), (1, .int a1)]) : W p l e rm_X11_rows s m args below meth c H locs 0 0 (MQ below (QW Y D N ad K len σ1 ρ0 (AA N ad s.heap.size) (some (.int r))) args s 0 0 (AA N ad s.heap.size)) (F0 m 0 ls []) := by
  have hx := C.1.1
  have hb := C.1.2.1
  unfold F_X11_rows at hF
  refine lv_iload_n hx hb dX11_rows_0 rfl (lv_at hl 1 rfl) ?_
  refine lv_iconst (v := -1) hx hb dX11_rows_1 (by decide) ?_
  refine lv_iconst (v := 3) hx hb dX11_rows_2 (by decide) ?_
  obtain ⟨r1, hq1, hF⟩ := bn_1 hF
  refine x_callS C hP hS (c_X11_isWithin hL hq1) (va_cwS 3 C.1.2.2.2.2 (gdS mw_97 mw_98 mw_2 mw_99) rfl rfl rfl hd_X11_isWithin.2 ⟨Nat.le_of_ble_eq_true rfl, Nat.le_of_ble_eq_true rfl⟩) rfl rfl hl.1 (Nat.le_of_ble_eq_true rfl) ⟨Nat.zero_le _, Nat.zero_le _⟩ dX11_rows_3 (fun H locs hP hS => ?_)
  refine lv_if_ne (tgt := 11) hx hb dX11_rows_6 (by decide) (fun c_2 => ?_) (fun c_2 => ?_) -- COND 2 rcases (Decidable.em (r1 = 0)).symm with c_2 | c_2
  · have hF := ite_f hF c_2
    refine lv_aload_n hx hb dX11_rows_11 rfl (lv_at hl 0 rfl) ?_
    obtain ⟨σ3, hq3, hF⟩ := bn_1 hF
    refine x_callV (ci := 11) rfl rfl C hP hS (c_X11_startSteps hL hq3) (lr_0 hL) (lk_0 hL) (cwV 0 C.1.2.2.2.2 (gdV mw_713 mw_714 mw_715 mw_2 mw_716) rfl rfl rfl hd_X11_startSteps ⟨Nat.le_of_ble_eq_true rfl, Nat.le_of_ble_eq_true rfl⟩) rfl rfl hl.1 (Nat.le_of_ble_eq_true rfl) ⟨Nat.zero_le _, Nat.zero_le _⟩ dX11_rows_12 (fun H locs hP hS => ?_)
    refine lv_aload_n hx hb dX11_rows_15 rfl (lv_at hl 0 rfl) ?_
    refine lv_iconst (v := 0) hx hb dX11_rows_16 (by decide) ?_
    obtain ⟨r4, σ4, hq4, hF⟩ := bn2_1 hF
    refine x_callV (ci := 11) rfl rfl C hP hS (c_X11_weekRows hL hq4) (lr_0 hL) (lk_0 hL) (cwV 1 C.1.2.2.2.2 (gdV mw_938 mw_939 mw_940 mw_2 mw_941) rfl rfl rfl hd_X11_weekRows ⟨Nat.le_of_ble_eq_true rfl, Nat.le_of_ble_eq_true rfl⟩) rfl rfl hl.1 (Nat.le_of_ble_eq_true rfl) ⟨Nat.zero_le _, Nat.zero_le _⟩ dX11_rows_17 (fun H locs hP hS => ?_)
    refine lv_istore_n (lv' := [(2, .int r4), (0, .ref (ad 0)), (1, .int a1)]) hx hb dX11_rows_20 rfl hl (by decide) rfl (fun ls hl => ?_)
    refine lv_iload_n hx hb dX11_rows_21 rfl (lv_at hl 2 rfl) ?_
    refine lv_if_ge (tgt := 27) hx hb dX11_rows_22 (by decide) (fun c_5 => ?_) (fun c_5 => ?_) -- COND 5 by_cases c_5 : 0 ≤ a1
    · have hF := ite_t hF c_5
      refine lv_aload_n hx hb dX11_rows_27 rfl (lv_at hl 1 rfl) ?_
      refine get_11_8 C hP (lr_0 hL) (lk_0 hL) inlX11 mw_717 dX11_rows_28 ?_
      refine lv_if_eq (tgt := 56) hx hb dX11_rows_31 (by decide) (fun c_6 => ?_) (fun c_6 => ?_) -- COND 6 by_cases c_6 : (σ4 0 8) = 0
      · have hF := ite_t hF c_6
        refine lv_bipush (v := -5) hx hb dX11_rows_56 (by decide +kernel) ?_
        obtain ⟨rfl, rfl⟩ := ret_2 hF
        subst hρ0
        exact x_iret rfl C hP hS dX11_rows_58
      · have hF := ite_f hF c_6
        refine lv_iload_n hx hb dX11_rows_34 rfl (lv_at hl 2 rfl) ?_
        refine lv_aload_n hx hb dX11_rows_35 rfl (lv_at hl 1 rfl) ?_
        refine get_11_0 C hP (lr_0 hL) (lk_0 hL) inlX11 mw_15 (lf_0_0 hL) dX11_rows_36 ?_
        refine get_8_10 C hP (lr_1 hL) (lk_1 hL) inlX8 mw_920 dX11_rows_39 ?_
        refine lv_icmp_ge (tgt := 56) hx hb dX11_rows_42 (by decide) (fun c_7 => ?_) (fun c_7 => ?_) -- COND 7 by_cases c_7 : (σ4 1 10) ≤ a1
        · have hF := ite_t hF c_7
          refine lv_bipush (v := -5) hx hb dX11_rows_56 (by decide +kernel) ?_
          obtain ⟨rfl, rfl⟩ := ret_2 hF
          subst hρ0
          exact x_iret rfl C hP hS dX11_rows_58
        · have hF := ite_f hF c_7
          refine lv_aload_n hx hb dX11_rows_45 rfl (lv_at hl 1 rfl) ?_
          refine get_11_7 C hP (lr_0 hL) (lk_0 hL) inlX11 mw_29 (lf_0_7 hL) dX11_rows_46 ?_
          refine lv_iload_n hx hb dX11_rows_49 rfl (lv_at hl 2 rfl) ?_
          obtain ⟨r8, hq8, hF⟩ := bn_1 hF
          refine x_callS C hP hS (c_X11_valueAt hL ⟨(lr_36 hL), (lk_36 hL), (ln_36 hL)⟩ hq8) (va_cwS 2 C.1.2.2.2.2 (gdS mw_750 mw_557 mw_2 mw_558) rfl rfl rfl hd_X11_valueAt.2 ⟨Nat.le_of_ble_eq_true rfl, Nat.le_of_ble_eq_true rfl⟩) rfl rfl hl.1 (Nat.le_of_ble_eq_true rfl) ⟨Nat.zero_le _, Nat.zero_le _⟩ dX11_rows_50 (fun H locs hP hS => ?_)
          refine lv_goto (tgt := 58) hx hb dX11_rows_53 (by decide) ?_
          obtain ⟨rfl, rfl⟩ := ret_2 hF
          subst hρ0
          exact x_iret rfl C hP hS dX11_rows_58
    · have hF := ite_f hF c_5
      refine lv_iload_n hx hb dX11_rows_25 rfl (lv_at hl 0 rfl) ?_
      obtain ⟨rfl, rfl⟩ := ret_2 hF
      subst hρ0
      exact x_iret rfl C hP hS dX11_rows_26
  · have hF := ite_t hF c_2
    refine lv_iconst (v := -1) hx hb dX11_rows_9 (by decide) ?_
    obtain ⟨rfl, rfl⟩ := ret_2 hF
    subst hρ0
    exact x_iret rfl C hP hS dX11_rows_10
set_option maxHeartbeats 4000000 in
set_option maxRecDepth 100000 in
theorem c_X11_rows {a1 : Int32} {r : Int32} {σ1 : SG} {σ : SG} {ρ : RG} (hL : Lay N K len ρ) (hF : F_X11_rows a1 σ ρ = some (r, σ1)) : MT l Y D N ad K len yX11_rows (Cond.code yX11_rows cX11_rows 3 (some .int) :: wsL_law) rm_X11_rows [.ref (ad 0), .int a1] σ ρ (some (.int r)) σ1 ρ := by
  refine mt_of (cc := cX11_rows) (nL := 3) (ret := (some .int)) (by decide) (Nat.le_of_ble_eq_true rfl) ?_
  intro p e s m args below meth c ls C hnm hP hS hl
  exact w_X11_rows_0 C rfl hL hF hP hS hl

/-! CutCrooked.public long odds(int, int);  -/
theorem dX11_odds_0 : decode cX11_odds 0 = .ok (.iload_n 1, 1) := by decide +kernel
theorem dX11_odds_1 : decode cX11_odds 1 = .ok (.iconst 1, 1) := by decide +kernel
theorem dX11_odds_2 : decode cX11_odds 2 = .ok (.iconst 3, 1) := by decide +kernel
theorem dX11_odds_3 : decode cX11_odds 3 = .ok (.invokestatic 56, 3) := by decide +kernel
theorem dX11_odds_6 : decode cX11_odds 6 = .ok (.ifCond .eq 22, 3) := by decide +kernel
theorem dX11_odds_9 : decode cX11_odds 9 = .ok (.iload_n 2, 1) := by decide +kernel
theorem dX11_odds_10 : decode cX11_odds 10 = .ok (.iconst 0, 1) := by decide +kernel
theorem dX11_odds_11 : decode cX11_odds 11 = .ok (.iconst 1, 1) := by decide +kernel
theorem dX11_odds_12 : decode cX11_odds 12 = .ok (.invokestatic 56, 3) := by decide +kernel
theorem dX11_odds_15 : decode cX11_odds 15 = .ok (.ifCond .eq 13, 3) := by decide +kernel
theorem dX11_odds_18 : decode cX11_odds 18 = .ok (.aload_n 0, 1) := by decide +kernel
theorem dX11_odds_19 : decode cX11_odds 19 = .ok (.getfield 12, 3) := by decide +kernel
theorem dX11_odds_22 : decode cX11_odds 22 = .ok (.getfield 89, 3) := by decide +kernel
theorem dX11_odds_25 : decode cX11_odds 25 = .ok (.ifCond .ne 7, 3) := by decide +kernel
theorem dX11_odds_28 : decode cX11_odds 28 = .ok (.ldc2_w 251, 3) := by decide +kernel
theorem dX11_odds_31 : decode cX11_odds 31 = .ok (.lreturn, 1) := by decide +kernel
theorem dX11_odds_32 : decode cX11_odds 32 = .ok (.lconst 1, 1) := by decide +kernel
theorem dX11_odds_33 : decode cX11_odds 33 = .ok (.lstore_n 3, 1) := by decide +kernel
theorem dX11_odds_34 : decode cX11_odds 34 = .ok (.iconst 0, 1) := by decide +kernel
theorem dX11_odds_35 : decode cX11_odds 35 = .ok (.istore 5, 2) := by decide +kernel
theorem dX11_odds_37 : decode cX11_odds 37 = .ok (.iload 5, 2) := by decide +kernel
theorem dX11_odds_39 : decode cX11_odds 39 = .ok (.iload_n 1, 1) := by decide +kernel
theorem dX11_odds_40 : decode cX11_odds 40 = .ok (.if_icmp .ge 20, 3) := by decide +kernel
theorem dX11_odds_43 : decode cX11_odds 43 = .ok (.lload_n 3, 1) := by decide +kernel
theorem dX11_odds_44 : decode cX11_odds 44 = .ok (.aload_n 0, 1) := by decide +kernel
theorem dX11_odds_45 : decode cX11_odds 45 = .ok (.getfield 12, 3) := by decide +kernel
theorem dX11_odds_48 : decode cX11_odds 48 = .ok (.getfield 89, 3) := by decide +kernel
theorem dX11_odds_51 : decode cX11_odds 51 = .ok (.i2l, 1) := by decide +kernel
theorem dX11_odds_52 : decode cX11_odds 52 = .ok (.lmul, 1) := by decide +kernel
theorem dX11_odds_53 : decode cX11_odds 53 = .ok (.lstore_n 3, 1) := by decide +kernel
theorem dX11_odds_54 : decode cX11_odds 54 = .ok (.iinc 5 1, 3) := by decide +kernel
theorem dX11_odds_57 : decode cX11_odds 57 = .ok (.goto (-20), 3) := by decide +kernel
theorem dX11_odds_60 : decode cX11_odds 60 = .ok (.aload_n 0, 1) := by decide +kernel
theorem dX11_odds_61 : decode cX11_odds 61 = .ok (.invokevirtual 176, 3) := by decide +kernel
theorem dX11_odds_64 : decode cX11_odds 64 = .ok (.aload_n 0, 1) := by decide +kernel
theorem dX11_odds_65 : decode cX11_odds 65 = .ok (.iconst 0, 1) := by decide +kernel
theorem dX11_odds_66 : decode cX11_odds 66 = .ok (.iload_n 1, 1) := by decide +kernel
theorem dX11_odds_67 : decode cX11_odds 67 = .ok (.invokevirtual 253, 3) := by decide +kernel
theorem dX11_odds_70 : decode cX11_odds 70 = .ok (.lload_n 3, 1) := by decide +kernel
theorem dX11_odds_71 : decode cX11_odds 71 = .ok (.iload_n 2, 1) := by decide +kernel
theorem hd_X11_odds : yX11_odds.cls = RX11 ∧ yX11_odds.cls ≠ "java/lang/invoke/MethodHandle" ∧ yX11_odds.cls ≠ "java/lang/invoke/VarHandle" ∧ (parseMethodDescriptor yX11_odds.desc).map (fun d => d.parameters.length) = some 2 := by decide +kernel
abbrev rm_X11_odds : Room := { frames := 2, cells := 0, slots := 0, locals := 46 }
def F_X11_odds_37 (a1 : Int32) (a2 : Int32) : Nat → SG → RG → Int32 → Int32 → Int64 → Int32 → Option (Int64 × SG)
  | 0 => fun _ _ _ _ _ _ => none
  | n + 1 => fun σ ρ v1 v2 v3 v5 =>
  if v1 ≤ v5 then
    bn (F_X11_startSteps σ ρ) fun σ7 =>
    bn (F_X11_goodRows (0 : Int32) v1 σ7 ρ) fun r8 =>
    none /- none: 72: no contract 11.partOf -/
  else
    nm (v3 * ((σ 1 1)).toInt64) fun x9 =>
    nm (v5 + (1 : Int32)) fun x10 =>
    F_X11_odds_37 a1 a2 n σ ρ v1 v2 x9 x10
def F_X11_odds (a1 : Int32) (a2 : Int32) (σ : SG) (ρ : RG) : Option (Int64 × SG) :=
  bn (F_X11_isWithin a1 (1 : Int32) (3 : Int32) σ ρ) fun r1 =>
  if r1 = 0 then
    some ((-9223372036854775808 : Int64), σ)
  else
    bn (F_X11_isWithin a2 (0 : Int32) (1 : Int32) σ ρ) fun r3 =>
    if r3 = 0 then
      some ((-9223372036854775808 : Int64), σ)
    else
      if (σ 1 1) = 0 then
        some ((-9223372036854775808 : Int64), σ)
      else
        F_X11_odds_37 a1 a2 1024 σ ρ a1 a2 (1 : Int64) (0 : Int32)
set_option maxHeartbeats 4000000 in
set_option maxRecDepth 100000 in
theorem w_X11_odds_37 {a1 : Int32} {a2 : Int32} {p : Program} {e : Env} {s : State} {m : MethodId} {args : Array Value} {below : List Frame} {meth : Method} {c : Code} {ρ0 : RG} {r : Int64} {σ1 : SG} (C : Cx Y D N ad p s m args meth c cX11_odds 6 (some .long) RX11 wsL_law) : ∀ (n : Nat) (σ : SG) (ρ : RG) (v1 : Int32) (v2 : Int32) (v3 : Int64) (v5 : Int32) (H : Heap) (locs : List Loc) (ls : Array Slot), ρ = ρ0 → Lay N K len ρ → F_X11_odds_37 a1 a2 n σ ρ v1 v2 v3 v5 = some (r, σ1) → WP Y D N ad K len σ ρ H → va_S (AA N ad s.heap.size) s.heap H locs → lv_has ls 6 [(0, .ref (ad 0)), (1, .int v1), (2, .int v2), (3, .long v3), (5, .int v5)] → W p l e rm_X11_odds s m args below meth c H locs 0 0 (MQ below (QW Y D N ad K len σ1 ρ0 (AA N ad s.heap.size) (some (.long r))) args s 0 0 (AA N ad s.heap.size)) (F0 m 37 ls []) := by
  have hx := C.1.1
  have hb := C.1.2.1
  intro n
  induction n with
  | zero => intro σ ρ v1 v2 v3 v5 H locs ls hρ0 hL hF; cases hF
  | succ n ih =>
    intro σ ρ v1 v2 v3 v5 H locs ls hρ0 hL hF hP hS hl
    unfold F_X11_odds_37 at hF
    refine lv_iload hx hb dX11_odds_37 (lv_at hl 4 rfl) ?_
    refine lv_iload_n hx hb dX11_odds_39 rfl (lv_at hl 1 rfl) ?_
    refine lv_icmp_ge (tgt := 60) hx hb dX11_odds_40 (by decide) (fun c_6 => ?_) (fun c_6 => ?_) -- COND 6 by_cases c_6 : v1 ≤ v5
    · have hF := ite_t hF c_6
      refine lv_aload_n hx hb dX11_odds_60 rfl (lv_at hl 0 rfl) ?_
      obtain ⟨σ7, hq7, hF⟩ := bn_1 hF
      refine x_callV (ci := 11) rfl rfl C hP hS (c_X11_startSteps hL hq7) (lr_0 hL) (lk_0 hL) (cwV 0 C.1.2.2.2.2 (gdV mw_713 mw_714 mw_715 mw_2 mw_716) rfl rfl rfl hd_X11_startSteps ⟨Nat.le_of_ble_eq_true rfl, Nat.le_of_ble_eq_true rfl⟩) rfl rfl hl.1 (Nat.le_of_ble_eq_true rfl) ⟨Nat.zero_le _, Nat.zero_le _⟩ dX11_odds_61 (fun H locs hP hS => ?_)
      refine lv_aload_n hx hb dX11_odds_64 rfl (lv_at hl 0 rfl) ?_
      refine lv_iconst (v := 0) hx hb dX11_odds_65 (by decide) ?_
      refine lv_iload_n hx hb dX11_odds_66 rfl (lv_at hl 1 rfl) ?_
      obtain ⟨r8, hq8, hF⟩ := bn_1 hF
      refine x_callV (ci := 11) rfl rfl C hP hS (c_X11_goodRows hL hq8) (lr_0 hL) (lk_0 hL) (cwV 2 C.1.2.2.2.2 (gdV mw_956 mw_957 mw_958 mw_2 mw_959) rfl rfl rfl hd_X11_goodRows ⟨Nat.le_of_ble_eq_true rfl, Nat.le_of_ble_eq_true rfl⟩) rfl rfl hl.1 (Nat.le_of_ble_eq_true rfl) ⟨Nat.zero_le _, Nat.zero_le _⟩ dX11_odds_67 (fun H locs hP hS => ?_)
      refine lv_lload_n hx hb dX11_odds_70 rfl (lv_at hl 3 rfl) ?_
      refine lv_iload_n hx hb dX11_odds_71 rfl (lv_at hl 2 rfl) ?_
      cases hF
    · have hF := ite_f hF c_6
      refine lv_lload_n hx hb dX11_odds_43 rfl (lv_at hl 3 rfl) ?_
      refine lv_aload_n hx hb dX11_odds_44 rfl (lv_at hl 0 rfl) ?_
      refine get_11_0 C hP (lr_0 hL) (lk_0 hL) inlX11 mw_15 (lf_0_0 hL) dX11_odds_45 ?_
      refine get_8_1 C hP (lr_1 hL) (lk_1 hL) inlX8 mw_352 dX11_odds_48 ?_
      refine lv_i2l (v := ((σ 1 1)).toInt64) hx hb dX11_odds_51 rfl ?_
      refine lv_lmul hx hb dX11_odds_52 ?_
      obtain ⟨x9, ex9, hF⟩ := nm_1 hF
      refine x_topl ex9 ?_
      refine lv_lstore_n (lv' := [(3, .long x9), (0, .ref (ad 0)), (1, .int v1), (2, .int v2), (5, .int v5)]) hx hb dX11_odds_53 rfl hl (by decide) rfl (fun ls hl => ?_)
      obtain ⟨x10, ex10, hF⟩ := nm_1 hF
      refine lv_iinc (v := x10) (lv' := [(5, .int x10), (3, .long x9), (0, .ref (ad 0)), (1, .int v1), (2, .int v2)]) hx hb dX11_odds_54 hl (k := 4) rfl (by rw [ex10]; first | rfl | decide) (by decide) rfl (fun ls hl => ?_)
      refine lv_goto (tgt := 37) hx hb dX11_odds_57 (by decide) ?_
      exact ih _ _ _ _ _ _ _ _ _ hρ0 hL hF hP hS (lv_sub hl [2, 3, 4, 1, 0] rfl)
set_option maxHeartbeats 4000000 in
set_option maxRecDepth 100000 in
theorem w_X11_odds_0 {a1 : Int32} {a2 : Int32} {p : Program} {e : Env} {s : State} {m : MethodId} {args : Array Value} {below : List Frame} {meth : Method} {c : Code} {ρ0 : RG} {r : Int64} {σ1 : SG} (C : Cx Y D N ad p s m args meth c cX11_odds 6 (some .long) RX11 wsL_law) {σ : SG} {ρ : RG} {H : Heap} {locs : List Loc} {ls : Array Slot} (hρ0 : ρ = ρ0) (hL : Lay N K len ρ) (hF : F_X11_odds a1 a2 σ ρ = some (r, σ1)) (hP : WP Y D N ad K len σ ρ H) (hS : va_S (AA N ad s.heap.size) s.heap H locs) (hl : lv_has ls 6 [(0, .ref (ad 0)), (1, .int a1), (2, .int a2)]) : W p l e rm_X11_odds s m args below meth c H locs 0 0 (MQ below (QW Y D N ad K len σ1 ρ0 (AA N ad s.heap.size) (some (.long r))) args s 0 0 (AA N ad s.heap.size)) (F0 m 0 ls []) := by
  have hx := C.1.1
  have hb := C.1.2.1
  unfold F_X11_odds at hF
  refine lv_iload_n hx hb dX11_odds_0 rfl (lv_at hl 1 rfl) ?_
  refine lv_iconst (v := 1) hx hb dX11_odds_1 (by decide) ?_
  refine lv_iconst (v := 3) hx hb dX11_odds_2 (by decide) ?_
  obtain ⟨r1, hq1, hF⟩ := bn_1 hF
  refine x_callS C hP hS (c_X11_isWithin hL hq1) (va_cwS 3 C.1.2.2.2.2 (gdS mw_97 mw_98 mw_2 mw_99) rfl rfl rfl hd_X11_isWithin.2 ⟨Nat.le_of_ble_eq_true rfl, Nat.le_of_ble_eq_true rfl⟩) rfl rfl hl.1 (Nat.le_of_ble_eq_true rfl) ⟨Nat.zero_le _, Nat.zero_le _⟩ dX11_odds_3 (fun H locs hP hS => ?_)
  refine lv_if_eq (tgt := 28) hx hb dX11_odds_6 (by decide) (fun c_2 => ?_) (fun c_2 => ?_) -- COND 2 by_cases c_2 : r1 = 0
  · have hF := ite_t hF c_2
    refine lv_ldc2 hx hb (C.1.2.2.2.1) (C.1.2.2.2.2 _ mw_955) dX11_odds_28 ?_
    obtain ⟨rfl, rfl⟩ := ret_2 hF
    subst hρ0
    exact x_lret rfl C hP hS dX11_odds_31
  · have hF := ite_f hF c_2
    refine lv_iload_n hx hb dX11_odds_9 rfl (lv_at hl 2 rfl) ?_
    refine lv_iconst (v := 0) hx hb dX11_odds_10 (by decide) ?_
    refine lv_iconst (v := 1) hx hb dX11_odds_11 (by decide) ?_
    obtain ⟨r3, hq3, hF⟩ := bn_1 hF
    refine x_callS C hP hS (c_X11_isWithin hL hq3) (va_cwS 3 C.1.2.2.2.2 (gdS mw_97 mw_98 mw_2 mw_99) rfl rfl rfl hd_X11_isWithin.2 ⟨Nat.le_of_ble_eq_true rfl, Nat.le_of_ble_eq_true rfl⟩) rfl rfl hl.1 (Nat.le_of_ble_eq_true rfl) ⟨Nat.zero_le _, Nat.zero_le _⟩ dX11_odds_12 (fun H locs hP hS => ?_)
    refine lv_if_eq (tgt := 28) hx hb dX11_odds_15 (by decide) (fun c_4 => ?_) (fun c_4 => ?_) -- COND 4 by_cases c_4 : r3 = 0
    · have hF := ite_t hF c_4
      refine lv_ldc2 hx hb (C.1.2.2.2.1) (C.1.2.2.2.2 _ mw_955) dX11_odds_28 ?_
      obtain ⟨rfl, rfl⟩ := ret_2 hF
      subst hρ0
      exact x_lret rfl C hP hS dX11_odds_31
    · have hF := ite_f hF c_4
      refine lv_aload_n hx hb dX11_odds_18 rfl (lv_at hl 0 rfl) ?_
      refine get_11_0 C hP (lr_0 hL) (lk_0 hL) inlX11 mw_15 (lf_0_0 hL) dX11_odds_19 ?_
      refine get_8_1 C hP (lr_1 hL) (lk_1 hL) inlX8 mw_352 dX11_odds_22 ?_
      refine lv_if_ne (tgt := 32) hx hb dX11_odds_25 (by decide) (fun c_5 => ?_) (fun c_5 => ?_) -- COND 5 rcases (Decidable.em ((σ 1 1) = 0)).symm with c_5 | c_5
      · have hF := ite_f hF c_5
        refine lv_lconst (v := 1) hx hb dX11_odds_32 (by decide +kernel) ?_
        refine lv_lstore_n (lv' := [(3, .long (1 : Int64)), (0, .ref (ad 0)), (1, .int a1), (2, .int a2)]) hx hb dX11_odds_33 rfl hl (by decide) rfl (fun ls hl => ?_)
        refine lv_iconst (v := 0) hx hb dX11_odds_34 (by decide) ?_
        refine lv_istore (lv' := [(5, .int (0 : Int32)), (3, .long (1 : Int64)), (0, .ref (ad 0)), (1, .int a1), (2, .int a2)]) hx hb dX11_odds_35 hl (by decide) rfl (fun ls hl => ?_)
        exact w_X11_odds_37 C 1024 _ _ _ _ _ _ _ _ _ hρ0 hL hF hP hS (lv_sub hl [2, 3, 4, 1, 0] rfl)
      · have hF := ite_t hF c_5
        refine lv_ldc2 hx hb (C.1.2.2.2.1) (C.1.2.2.2.2 _ mw_955) dX11_odds_28 ?_
        obtain ⟨rfl, rfl⟩ := ret_2 hF
        subst hρ0
        exact x_lret rfl C hP hS dX11_odds_31
set_option maxHeartbeats 4000000 in
set_option maxRecDepth 100000 in
theorem c_X11_odds {a1 : Int32} {a2 : Int32} {r : Int64} {σ1 : SG} {σ : SG} {ρ : RG} (hL : Lay N K len ρ) (hF : F_X11_odds a1 a2 σ ρ = some (r, σ1)) : MT l Y D N ad K len yX11_odds (Cond.code yX11_odds cX11_odds 6 (some .long) :: wsL_law) rm_X11_odds [.ref (ad 0), .int a1, .int a2] σ ρ (some (.long r)) σ1 ρ := by
  refine mt_of (cc := cX11_odds) (nL := 6) (ret := (some .long)) (by decide) (Nat.le_of_ble_eq_true rfl) ?_
  intro p e s m args below meth c ls C hnm hP hS hl
  exact w_X11_odds_0 C rfl hL hF hP hS hl

/-! CutCrooked.public long mean(int);  -/
theorem dX11_mean_0 : decode cX11_mean 0 = .ok (.iload_n 1, 1) := by decide +kernel
theorem dX11_mean_1 : decode cX11_mean 1 = .ok (.iconst 0, 1) := by decide +kernel
theorem dX11_mean_2 : decode cX11_mean 2 = .ok (.iconst 1, 1) := by decide +kernel
theorem dX11_mean_3 : decode cX11_mean 3 = .ok (.invokestatic 56, 3) := by decide +kernel
theorem dX11_mean_6 : decode cX11_mean 6 = .ok (.ifCond .eq 13, 3) := by decide +kernel
theorem dX11_mean_9 : decode cX11_mean 9 = .ok (.aload_n 0, 1) := by decide +kernel
theorem dX11_mean_10 : decode cX11_mean 10 = .ok (.getfield 12, 3) := by decide +kernel
theorem dX11_mean_13 : decode cX11_mean 13 = .ok (.getfield 89, 3) := by decide +kernel
theorem dX11_mean_16 : decode cX11_mean 16 = .ok (.ifCond .ne 7, 3) := by decide +kernel
theorem dX11_mean_19 : decode cX11_mean 19 = .ok (.ldc2_w 251, 3) := by decide +kernel
theorem dX11_mean_22 : decode cX11_mean 22 = .ok (.lreturn, 1) := by decide +kernel
theorem dX11_mean_23 : decode cX11_mean 23 = .ok (.lconst 0, 1) := by decide +kernel
theorem dX11_mean_24 : decode cX11_mean 24 = .ok (.lstore_n 2, 1) := by decide +kernel
theorem dX11_mean_25 : decode cX11_mean 25 = .ok (.aload_n 0, 1) := by decide +kernel
theorem dX11_mean_26 : decode cX11_mean 26 = .ok (.invokevirtual 176, 3) := by decide +kernel
theorem dX11_mean_29 : decode cX11_mean 29 = .ok (.iconst 0, 1) := by decide +kernel
theorem dX11_mean_30 : decode cX11_mean 30 = .ok (.istore 4, 2) := by decide +kernel
theorem dX11_mean_32 : decode cX11_mean 32 = .ok (.iload 4, 2) := by decide +kernel
theorem dX11_mean_34 : decode cX11_mean 34 = .ok (.aload_n 0, 1) := by decide +kernel
theorem dX11_mean_35 : decode cX11_mean 35 = .ok (.getfield 12, 3) := by decide +kernel
theorem dX11_mean_38 : decode cX11_mean 38 = .ok (.getfield 89, 3) := by decide +kernel
theorem dX11_mean_41 : decode cX11_mean 41 = .ok (.if_icmp .ge 40, 3) := by decide +kernel
theorem dX11_mean_44 : decode cX11_mean 44 = .ok (.aload_n 0, 1) := by decide +kernel
theorem dX11_mean_45 : decode cX11_mean 45 = .ok (.iconst 0, 1) := by decide +kernel
theorem dX11_mean_46 : decode cX11_mean 46 = .ok (.aload_n 0, 1) := by decide +kernel
theorem dX11_mean_47 : decode cX11_mean 47 = .ok (.getfield 12, 3) := by decide +kernel
theorem dX11_mean_50 : decode cX11_mean 50 = .ok (.iload 4, 2) := by decide +kernel
theorem dX11_mean_52 : decode cX11_mean 52 = .ok (.invokevirtual 100, 3) := by decide +kernel
theorem dX11_mean_55 : decode cX11_mean 55 = .ok (.iconst 0, 1) := by decide +kernel
theorem dX11_mean_81 : decode cX11_mean 81 = .ok (.lload_n 2, 1) := by decide +kernel
theorem dX11_mean_82 : decode cX11_mean 82 = .ok (.aload_n 0, 1) := by decide +kernel
theorem dX11_mean_83 : decode cX11_mean 83 = .ok (.getfield 12, 3) := by decide +kernel
theorem dX11_mean_86 : decode cX11_mean 86 = .ok (.getfield 89, 3) := by decide +kernel
theorem dX11_mean_89 : decode cX11_mean 89 = .ok (.i2l, 1) := by decide +kernel
theorem dX11_mean_90 : decode cX11_mean 90 = .ok (.iload_n 1, 1) := by decide +kernel
theorem hd_X11_mean : yX11_mean.cls = RX11 ∧ yX11_mean.cls ≠ "java/lang/invoke/MethodHandle" ∧ yX11_mean.cls ≠ "java/lang/invoke/VarHandle" ∧ (parseMethodDescriptor yX11_mean.desc).map (fun d => d.parameters.length) = some 1 := by decide +kernel
abbrev rm_X11_mean : Room := { frames := 2, cells := 0, slots := 0, locals := 41 }
def F_X11_mean_32 (a1 : Int32) : Nat → SG → RG → Int32 → Int64 → Int32 → Option (Int64 × SG)
  | 0 => fun _ _ _ _ _ => none
  | n + 1 => fun σ ρ v1 v2 v4 =>
  if (σ 1 1) ≤ v4 then
    none /- none: 91: no contract 11.partOf -/
  else
    bn (F_X8_cutterAt_1 v4 σ ρ) fun o6 =>
    oc o6
     (
      none /- none: 56: no contract 11.tryStep -/)
     (fun c7 =>
      none /- none: some -/)
def F_X11_mean (a1 : Int32) (σ : SG) (ρ : RG) : Option (Int64 × SG) :=
  bn (F_X11_isWithin a1 (0 : Int32) (1 : Int32) σ ρ) fun r1 =>
  if r1 = 0 then
    some ((-9223372036854775808 : Int64), σ)
  else
    if (σ 1 1) = 0 then
      some ((-9223372036854775808 : Int64), σ)
    else
      bn (F_X11_startSteps σ ρ) fun σ4 =>
      F_X11_mean_32 a1 1024 σ4 ρ a1 (0 : Int64) (0 : Int32)
set_option maxHeartbeats 4000000 in
set_option maxRecDepth 100000 in
theorem w_X11_mean_32 {a1 : Int32} {p : Program} {e : Env} {s : State} {m : MethodId} {args : Array Value} {below : List Frame} {meth : Method} {c : Code} {ρ0 : RG} {r : Int64} {σ1 : SG} (C : Cx Y D N ad p s m args meth c cX11_mean 5 (some .long) RX11 wsL_law) : ∀ (n : Nat) (σ : SG) (ρ : RG) (v1 : Int32) (v2 : Int64) (v4 : Int32) (H : Heap) (locs : List Loc) (ls : Array Slot), ρ = ρ0 → Lay N K len ρ → F_X11_mean_32 a1 n σ ρ v1 v2 v4 = some (r, σ1) → WP Y D N ad K len σ ρ H → va_S (AA N ad s.heap.size) s.heap H locs → lv_has ls 5 [(0, .ref (ad 0)), (1, .int v1), (2, .long v2), (4, .int v4)] → W p l e rm_X11_mean s m args below meth c H locs 0 0 (MQ below (QW Y D N ad K len σ1 ρ0 (AA N ad s.heap.size) (some (.long r))) args s 0 0 (AA N ad s.heap.size)) (F0 m 32 ls []) := by
  have hx := C.1.1
  have hb := C.1.2.1
  intro n
  induction n with
  | zero => intro σ ρ v1 v2 v4 H locs ls hρ0 hL hF; cases hF
  | succ n ih =>
    intro σ ρ v1 v2 v4 H locs ls hρ0 hL hF hP hS hl
    unfold F_X11_mean_32 at hF
    refine lv_iload hx hb dX11_mean_32 (lv_at hl 3 rfl) ?_
    refine lv_aload_n hx hb dX11_mean_34 rfl (lv_at hl 0 rfl) ?_
    refine get_11_0 C hP (lr_0 hL) (lk_0 hL) inlX11 mw_15 (lf_0_0 hL) dX11_mean_35 ?_
    refine get_8_1 C hP (lr_1 hL) (lk_1 hL) inlX8 mw_352 dX11_mean_38 ?_
    refine lv_icmp_ge (tgt := 81) hx hb dX11_mean_41 (by decide) (fun c_5 => ?_) (fun c_5 => ?_) -- COND 5 by_cases c_5 : (σ 1 1) ≤ v4
    · have hF := ite_t hF c_5
      refine lv_lload_n hx hb dX11_mean_81 rfl (lv_at hl 2 rfl) ?_
      refine lv_aload_n hx hb dX11_mean_82 rfl (lv_at hl 0 rfl) ?_
      refine get_11_0 C hP (lr_0 hL) (lk_0 hL) inlX11 mw_15 (lf_0_0 hL) dX11_mean_83 ?_
      refine get_8_1 C hP (lr_1 hL) (lk_1 hL) inlX8 mw_352 dX11_mean_86 ?_
      refine lv_i2l (v := ((σ 1 1)).toInt64) hx hb dX11_mean_89 rfl ?_
      refine lv_iload_n hx hb dX11_mean_90 rfl (lv_at hl 1 rfl) ?_
      cases hF
    · have hF := ite_f hF c_5
      refine lv_aload_n hx hb dX11_mean_44 rfl (lv_at hl 0 rfl) ?_
      refine lv_iconst (v := 0) hx hb dX11_mean_45 (by decide) ?_
      refine lv_aload_n hx hb dX11_mean_46 rfl (lv_at hl 0 rfl) ?_
      refine get_11_0 C hP (lr_0 hL) (lk_0 hL) inlX11 mw_15 (lf_0_0 hL) dX11_mean_47 ?_
      refine lv_iload hx hb dX11_mean_50 (lv_at hl 3 rfl) ?_
      obtain ⟨o6, hq6, hF⟩ := bn_1 hF
      refine x_callV (ci := 8) rfl rfl C hP hS (c_X8_cutterAt_1 hL hq6) (lr_1 hL) (lk_1 hL) (cwV 1 C.1.2.2.2.2 (gdV mw_428 mw_429 mw_430 mw_14 mw_431) rfl rfl rfl hd_X8_cutterAt ⟨Nat.le_of_ble_eq_true rfl, Nat.le_of_ble_eq_true rfl⟩) rfl rfl hl.1 (Nat.le_of_ble_eq_true rfl) ⟨Nat.zero_le _, Nat.zero_le _⟩ dX11_mean_52 (fun H locs hP hS => ?_)
      rcases ho7 : o6 with _ | c7
      · have hF := oc_n hF ho7
        refine x_n ?_
        refine lv_iconst (v := 0) hx hb dX11_mean_55 (by decide) ?_
        cases hF
      · have hF := oc_s hF ho7
        refine x_s ?_
        cases hF
set_option maxHeartbeats 4000000 in
set_option maxRecDepth 100000 in
theorem w_X11_mean_0 {a1 : Int32} {p : Program} {e : Env} {s : State} {m : MethodId} {args : Array Value} {below : List Frame} {meth : Method} {c : Code} {ρ0 : RG} {r : Int64} {σ1 : SG} (C : Cx Y D N ad p s m args meth c cX11_mean 5 (some .long) RX11 wsL_law) {σ : SG} {ρ : RG} {H : Heap} {locs : List Loc} {ls : Array Slot} (hρ0 : ρ = ρ0) (hL : Lay N K len ρ) (hF : F_X11_mean a1 σ ρ = some (r, σ1)) (hP : WP Y D N ad K len σ ρ H) (hS : va_S (AA N ad s.heap.size) s.heap H locs) (hl : lv_has ls 5 [(0, .ref (ad 0)), (1, .int a1)]) : W p l e rm_X11_mean s m args below meth c H locs 0 0 (MQ below (QW Y D N ad K len σ1 ρ0 (AA N ad s.heap.size) (some (.long r))) args s 0 0 (AA N ad s.heap.size)) (F0 m 0 ls []) := by
  have hx := C.1.1
  have hb := C.1.2.1
  unfold F_X11_mean at hF
  refine lv_iload_n hx hb dX11_mean_0 rfl (lv_at hl 1 rfl) ?_
  refine lv_iconst (v := 0) hx hb dX11_mean_1 (by decide) ?_
  refine lv_iconst (v := 1) hx hb dX11_mean_2 (by decide) ?_
  obtain ⟨r1, hq1, hF⟩ := bn_1 hF
  refine x_callS C hP hS (c_X11_isWithin hL hq1) (va_cwS 3 C.1.2.2.2.2 (gdS mw_97 mw_98 mw_2 mw_99) rfl rfl rfl hd_X11_isWithin.2 ⟨Nat.le_of_ble_eq_true rfl, Nat.le_of_ble_eq_true rfl⟩) rfl rfl hl.1 (Nat.le_of_ble_eq_true rfl) ⟨Nat.zero_le _, Nat.zero_le _⟩ dX11_mean_3 (fun H locs hP hS => ?_)
  refine lv_if_eq (tgt := 19) hx hb dX11_mean_6 (by decide) (fun c_2 => ?_) (fun c_2 => ?_) -- COND 2 by_cases c_2 : r1 = 0
  · have hF := ite_t hF c_2
    refine lv_ldc2 hx hb (C.1.2.2.2.1) (C.1.2.2.2.2 _ mw_955) dX11_mean_19 ?_
    obtain ⟨rfl, rfl⟩ := ret_2 hF
    subst hρ0
    exact x_lret rfl C hP hS dX11_mean_22
  · have hF := ite_f hF c_2
    refine lv_aload_n hx hb dX11_mean_9 rfl (lv_at hl 0 rfl) ?_
    refine get_11_0 C hP (lr_0 hL) (lk_0 hL) inlX11 mw_15 (lf_0_0 hL) dX11_mean_10 ?_
    refine get_8_1 C hP (lr_1 hL) (lk_1 hL) inlX8 mw_352 dX11_mean_13 ?_
    refine lv_if_ne (tgt := 23) hx hb dX11_mean_16 (by decide) (fun c_3 => ?_) (fun c_3 => ?_) -- COND 3 rcases (Decidable.em ((σ 1 1) = 0)).symm with c_3 | c_3
    · have hF := ite_f hF c_3
      refine lv_lconst (v := 0) hx hb dX11_mean_23 (by decide +kernel) ?_
      refine lv_lstore_n (lv' := [(2, .long (0 : Int64)), (0, .ref (ad 0)), (1, .int a1)]) hx hb dX11_mean_24 rfl hl (by decide) rfl (fun ls hl => ?_)
      refine lv_aload_n hx hb dX11_mean_25 rfl (lv_at hl 1 rfl) ?_
      obtain ⟨σ4, hq4, hF⟩ := bn_1 hF
      refine x_callV (ci := 11) rfl rfl C hP hS (c_X11_startSteps hL hq4) (lr_0 hL) (lk_0 hL) (cwV 0 C.1.2.2.2.2 (gdV mw_713 mw_714 mw_715 mw_2 mw_716) rfl rfl rfl hd_X11_startSteps ⟨Nat.le_of_ble_eq_true rfl, Nat.le_of_ble_eq_true rfl⟩) rfl rfl hl.1 (Nat.le_of_ble_eq_true rfl) ⟨Nat.zero_le _, Nat.zero_le _⟩ dX11_mean_26 (fun H locs hP hS => ?_)
      refine lv_iconst (v := 0) hx hb dX11_mean_29 (by decide) ?_
      refine lv_istore (lv' := [(4, .int (0 : Int32)), (2, .long (0 : Int64)), (0, .ref (ad 0)), (1, .int a1)]) hx hb dX11_mean_30 hl (by decide) rfl (fun ls hl => ?_)
      exact w_X11_mean_32 C 1024 _ _ _ _ _ _ _ _ hρ0 hL hF hP hS (lv_sub hl [2, 3, 1, 0] rfl)
    · have hF := ite_t hF c_3
      refine lv_ldc2 hx hb (C.1.2.2.2.1) (C.1.2.2.2.2 _ mw_955) dX11_mean_19 ?_
      obtain ⟨rfl, rfl⟩ := ret_2 hF
      subst hρ0
      exact x_lret rfl C hP hS dX11_mean_22
set_option maxHeartbeats 4000000 in
set_option maxRecDepth 100000 in
theorem c_X11_mean {a1 : Int32} {r : Int64} {σ1 : SG} {σ : SG} {ρ : RG} (hL : Lay N K len ρ) (hF : F_X11_mean a1 σ ρ = some (r, σ1)) : MT l Y D N ad K len yX11_mean (Cond.code yX11_mean cX11_mean 5 (some .long) :: wsL_law) rm_X11_mean [.ref (ad 0), .int a1] σ ρ (some (.long r)) σ1 ρ := by
  refine mt_of (cc := cX11_mean) (nL := 5) (ret := (some .long)) (by decide) (Nat.le_of_ble_eq_true rfl) ?_
  intro p e s m args below meth c ls C hnm hP hS hl
  exact w_X11_mean_0 C rfl hL hF hP hS hl

/-! CutCrooked.public int book(int, int);  -/
theorem dX11_book_0 : decode cX11_book 0 = .ok (.iload_n 1, 1) := by decide +kernel
theorem dX11_book_1 : decode cX11_book 1 = .ok (.iconst (-1), 1) := by decide +kernel
theorem dX11_book_2 : decode cX11_book 2 = .ok (.if_icmp .ne 13, 3) := by decide +kernel
theorem dX11_book_5 : decode cX11_book 5 = .ok (.aload_n 0, 1) := by decide +kernel
theorem dX11_book_6 : decode cX11_book 6 = .ok (.getfield 12, 3) := by decide +kernel
theorem dX11_book_9 : decode cX11_book 9 = .ok (.iconst 0, 1) := by decide +kernel
theorem dX11_book_10 : decode cX11_book 10 = .ok (.putfield 261, 3) := by decide +kernel
theorem dX11_book_13 : decode cX11_book 13 = .ok (.iconst 0, 1) := by decide +kernel
theorem dX11_book_14 : decode cX11_book 14 = .ok (.ireturn, 1) := by decide +kernel
theorem dX11_book_15 : decode cX11_book 15 = .ok (.aload_n 0, 1) := by decide +kernel
theorem dX11_book_16 : decode cX11_book 16 = .ok (.getfield 12, 3) := by decide +kernel
theorem dX11_book_19 : decode cX11_book 19 = .ok (.iload_n 1, 1) := by decide +kernel
theorem dX11_book_20 : decode cX11_book 20 = .ok (.invokevirtual 100, 3) := by decide +kernel
theorem dX11_book_23 : decode cX11_book 23 = .ok (.ifnonnull 5, 3) := by decide +kernel
theorem dX11_book_26 : decode cX11_book 26 = .ok (.iconst (-1), 1) := by decide +kernel
theorem dX11_book_27 : decode cX11_book 27 = .ok (.ireturn, 1) := by decide +kernel
theorem hd_X11_book : yX11_book.cls = RX11 ∧ yX11_book.cls ≠ "java/lang/invoke/MethodHandle" ∧ yX11_book.cls ≠ "java/lang/invoke/VarHandle" ∧ (parseMethodDescriptor yX11_book.desc).map (fun d => d.parameters.length) = some 2 := by decide +kernel
abbrev rm_X11_book : Room := { frames := 1, cells := 0, slots := 0, locals := 21 }
def F_X11_book (a1 : Int32) (a2 : Int32) (σ : SG) (ρ : RG) : Option (Int32 × SG) :=
  if a1 = (-1 : Int32) then
    nm (s2 σ 1 13 (0 : Int32)) fun σ5 =>
    some ((0 : Int32), σ5)
  else
    bn (F_X8_cutterAt_1 a1 σ ρ) fun o2 =>
    oc o2
     (
      some ((-1 : Int32), σ))
     (fun c3 =>
      none /- none: some -/)
set_option maxHeartbeats 4000000 in
set_option maxRecDepth 100000 in
theorem w_X11_book_0 {a1 : Int32} {a2 : Int32} {p : Program} {e : Env} {s : State} {m : MethodId} {args : Array Value} {below : List Frame} {meth : Method} {c : Code} {ρ0 : RG} {r : Int32} {σ1 : SG} (C : Cx Y D N ad p s m args meth c cX11_book 4 (some .int) RX11 wsL_law) {σ : SG} {ρ : RG} {H : Heap} {locs : List Loc} {ls : Array Slot} (hρ0 : ρ = ρ0) (hL : Lay N K len ρ) (hF : F_X11_book a1 a2 σ ρ = some (r, σ1)) (hP : WP Y D N ad K len σ ρ H) (hS : va_S (AA N ad s.heap.size) s.heap H locs) (hl : lv_has ls 4 [(0, .ref (ad 0)), (1, .int a1), (2, .int a2)]) : W p l e rm_X11_book s m args below meth c H locs 0 0 (MQ below (QW Y D N ad K len σ1 ρ0 (AA N ad s.heap.size) (some (.int r))) args s 0 0 (AA N ad s.heap.size)) (F0 m 0 ls []) := by
  have hx := C.1.1
  have hb := C.1.2.1
  unfold F_X11_book at hF
  refine lv_iload_n hx hb dX11_book_0 rfl (lv_at hl 1 rfl) ?_
  refine lv_iconst (v := -1) hx hb dX11_book_1 (by decide) ?_
  refine lv_icmp_ne (tgt := 15) hx hb dX11_book_2 (by decide) (fun c_1 => ?_) (fun c_1 => ?_) -- COND 1 rcases (Decidable.em (a1 = (-1 : Int32))).symm with c_1 | c_1
  · have hF := ite_f hF c_1
    refine lv_aload_n hx hb dX11_book_15 rfl (lv_at hl 0 rfl) ?_
    refine get_11_0 C hP (lr_0 hL) (lk_0 hL) inlX11 mw_15 (lf_0_0 hL) dX11_book_16 ?_
    refine lv_iload_n hx hb dX11_book_19 rfl (lv_at hl 1 rfl) ?_
    obtain ⟨o2, hq2, hF⟩ := bn_1 hF
    refine x_callV (ci := 8) rfl rfl C hP hS (c_X8_cutterAt_1 hL hq2) (lr_1 hL) (lk_1 hL) (cwV 1 C.1.2.2.2.2 (gdV mw_428 mw_429 mw_430 mw_14 mw_431) rfl rfl rfl hd_X8_cutterAt ⟨Nat.le_of_ble_eq_true rfl, Nat.le_of_ble_eq_true rfl⟩) rfl rfl hl.1 (Nat.le_of_ble_eq_true rfl) ⟨Nat.zero_le _, Nat.zero_le _⟩ dX11_book_20 (fun H locs hP hS => ?_)
    rcases ho3 : o2 with _ | c3
    · have hF := oc_n hF ho3
      refine x_n ?_
      refine lv_ifnonnullN hx hb dX11_book_23 ?_
      refine lv_iconst (v := -1) hx hb dX11_book_26 (by decide) ?_
      obtain ⟨rfl, rfl⟩ := ret_2 hF
      subst hρ0
      exact x_iret rfl C hP hS dX11_book_27
    · have hF := oc_s hF ho3
      refine x_s ?_
      cases hF
  · have hF := ite_t hF c_1
    refine lv_aload_n hx hb dX11_book_5 rfl (lv_at hl 0 rfl) ?_
    refine get_11_0 C hP (lr_0 hL) (lk_0 hL) inlX11 mw_15 (lf_0_0 hL) dX11_book_6 ?_
    refine lv_iconst (v := 0) hx hb dX11_book_9 (by decide) ?_
    obtain ⟨σ5, eσ5, hF⟩ := nm_1 hF
    refine put_8_13 C hP hS (lr_1 hL) (lk_1 hL) inlX8 mw_987 eσ5 dX11_book_10 (fun H locs hP hS => ?_)
    refine lv_iconst (v := 0) hx hb dX11_book_13 (by decide) ?_
    obtain ⟨rfl, rfl⟩ := ret_2 hF
    subst hρ0
    exact x_iret rfl C hP hS dX11_book_14
set_option maxHeartbeats 4000000 in
set_option maxRecDepth 100000 in
theorem c_X11_book {a1 : Int32} {a2 : Int32} {r : Int32} {σ1 : SG} {σ : SG} {ρ : RG} (hL : Lay N K len ρ) (hF : F_X11_book a1 a2 σ ρ = some (r, σ1)) : MT l Y D N ad K len yX11_book (Cond.code yX11_book cX11_book 4 (some .int) :: wsL_law) rm_X11_book [.ref (ad 0), .int a1, .int a2] σ ρ (some (.int r)) σ1 ρ := by
  refine mt_of (cc := cX11_book) (nL := 4) (ret := (some .int)) (by decide) (Nat.le_of_ble_eq_true rfl) ?_
  intro p e s m args below meth c ls C hnm hP hS hl
  exact w_X11_book_0 C rfl hL hF hP hS hl

/-! CutCrooked.public int looked();  -/
theorem dX11_looked_0 : decode cX11_looked 0 = .ok (.aload_n 0, 1) := by decide +kernel
theorem dX11_looked_1 : decode cX11_looked 1 = .ok (.getfield 49, 3) := by decide +kernel
theorem dX11_looked_4 : decode cX11_looked 4 = .ok (.aload_n 0, 1) := by decide +kernel
theorem dX11_looked_5 : decode cX11_looked 5 = .ok (.getfield 12, 3) := by decide +kernel
theorem dX11_looked_8 : decode cX11_looked 8 = .ok (.getfield 130, 3) := by decide +kernel
theorem dX11_looked_11 : decode cX11_looked 11 = .ok (.invokevirtual 217, 3) := by decide +kernel
theorem dX11_looked_14 : decode cX11_looked 14 = .ok (.iconst 0, 1) := by decide +kernel
theorem dX11_looked_15 : decode cX11_looked 15 = .ok (.istore_n 1, 1) := by decide +kernel
theorem dX11_looked_16 : decode cX11_looked 16 = .ok (.iload_n 1, 1) := by decide +kernel
theorem dX11_looked_17 : decode cX11_looked 17 = .ok (.aload_n 0, 1) := by decide +kernel
theorem dX11_looked_18 : decode cX11_looked 18 = .ok (.getfield 12, 3) := by decide +kernel
theorem dX11_looked_21 : decode cX11_looked 21 = .ok (.getfield 261, 3) := by decide +kernel
theorem dX11_looked_24 : decode cX11_looked 24 = .ok (.if_icmp .ge 81, 3) := by decide +kernel
theorem dX11_looked_27 : decode cX11_looked 27 = .ok (.aload_n 0, 1) := by decide +kernel
theorem dX11_looked_28 : decode cX11_looked 28 = .ok (.getfield 12, 3) := by decide +kernel
theorem dX11_looked_31 : decode cX11_looked 31 = .ok (.aload_n 0, 1) := by decide +kernel
theorem dX11_looked_32 : decode cX11_looked 32 = .ok (.getfield 12, 3) := by decide +kernel
theorem dX11_looked_35 : decode cX11_looked 35 = .ok (.getfield 264, 3) := by decide +kernel
theorem dX11_looked_38 : decode cX11_looked 38 = .ok (.iload_n 1, 1) := by decide +kernel
theorem dX11_looked_39 : decode cX11_looked 39 = .ok (.invokestatic 196, 3) := by decide +kernel
theorem dX11_looked_42 : decode cX11_looked 42 = .ok (.invokevirtual 100, 3) := by decide +kernel
theorem dX11_looked_45 : decode cX11_looked 45 = .ok (.astore_n 2, 1) := by decide +kernel
theorem dX11_looked_46 : decode cX11_looked 46 = .ok (.aload_n 2, 1) := by decide +kernel
theorem dX11_looked_47 : decode cX11_looked 47 = .ok (.ifnull 27, 3) := by decide +kernel
theorem dX11_looked_74 : decode cX11_looked 74 = .ok (.iload_n 1, 1) := by decide +kernel
theorem dX11_looked_75 : decode cX11_looked 75 = .ok (.ireturn, 1) := by decide +kernel
theorem dX11_looked_105 : decode cX11_looked 105 = .ok (.bipush (-5), 2) := by decide +kernel
theorem dX11_looked_107 : decode cX11_looked 107 = .ok (.ireturn, 1) := by decide +kernel
theorem hd_X11_looked : yX11_looked.cls = RX11 ∧ yX11_looked.cls ≠ "java/lang/invoke/MethodHandle" ∧ yX11_looked.cls ≠ "java/lang/invoke/VarHandle" ∧ (parseMethodDescriptor yX11_looked.desc).map (fun d => d.parameters.length) = some 0 := by decide +kernel
abbrev rm_X11_looked : Room := { frames := 1, cells := 0, slots := 0, locals := 21 }
def F_X11_looked_16  : Nat → SG → RG → Int32 → Option (Int32 × SG)
  | 0 => fun _ _ _ => none
  | n + 1 => fun σ ρ v1 =>
  if (σ 1 13) ≤ v1 then
    some ((-5 : Int32), σ)
  else
    bn (F_X11_valueAt 12 8 v1 σ ρ) fun r3 =>
    bn (F_X8_cutterAt_1 r3 σ ρ) fun o4 =>
    oc o4
     (
      some (v1, σ))
     (fun c5 =>
      none /- none: some -/)
def F_X11_looked  (σ : SG) (ρ : RG) : Option (Int32 × SG) :=
  bn (F_X3_takes 37 3 σ ρ) fun σ1 =>
  F_X11_looked_16 1024 σ1 ρ (0 : Int32)
set_option maxHeartbeats 4000000 in
set_option maxRecDepth 100000 in
theorem w_X11_looked_16  {p : Program} {e : Env} {s : State} {m : MethodId} {args : Array Value} {below : List Frame} {meth : Method} {c : Code} {ρ0 : RG} {r : Int32} {σ1 : SG} (C : Cx Y D N ad p s m args meth c cX11_looked 3 (some .int) RX11 wsL_law) : ∀ (n : Nat) (σ : SG) (ρ : RG) (v1 : Int32) (H : Heap) (locs : List Loc) (ls : Array Slot), ρ = ρ0 → Lay N K len ρ → F_X11_looked_16 n σ ρ v1 = some (r, σ1) → WP Y D N ad K len σ ρ H → va_S (AA N ad s.heap.size) s.heap H locs → lv_has ls 3 [(0, .ref (ad 0)), (1, .int v1)] → W p l e rm_X11_looked s m args below meth c H locs 0 0 (MQ below (QW Y D N ad K len σ1 ρ0 (AA N ad s.heap.size) (some (.int r))) args s 0 0 (AA N ad s.heap.size)) (F0 m 16 ls []) := by
  have hx := C.1.1
  have hb := C.1.2.1
  intro n
  induction n with
  | zero => intro σ ρ v1 H locs ls hρ0 hL hF; cases hF
  | succ n ih =>
    intro σ ρ v1 H locs ls hρ0 hL hF hP hS hl
    unfold F_X11_looked_16 at hF
    refine lv_iload_n hx hb dX11_looked_16 rfl (lv_at hl 1 rfl) ?_
    refine lv_aload_n hx hb dX11_looked_17 rfl (lv_at hl 0 rfl) ?_
    refine get_11_0 C hP (lr_0 hL) (lk_0 hL) inlX11 mw_15 (lf_0_0 hL) dX11_looked_18 ?_
    refine get_8_13 C hP (lr_1 hL) (lk_1 hL) inlX8 mw_987 dX11_looked_21 ?_
    refine lv_icmp_ge (tgt := 105) hx hb dX11_looked_24 (by decide) (fun c_2 => ?_) (fun c_2 => ?_) -- COND 2 by_cases c_2 : (σ 1 13) ≤ v1
    · have hF := ite_t hF c_2
      refine lv_bipush (v := -5) hx hb dX11_looked_105 (by decide +kernel) ?_
      obtain ⟨rfl, rfl⟩ := ret_2 hF
      subst hρ0
      exact x_iret rfl C hP hS dX11_looked_107
    · have hF := ite_f hF c_2
      refine lv_aload_n hx hb dX11_looked_27 rfl (lv_at hl 0 rfl) ?_
      refine get_11_0 C hP (lr_0 hL) (lk_0 hL) inlX11 mw_15 (lf_0_0 hL) dX11_looked_28 ?_
      refine lv_aload_n hx hb dX11_looked_31 rfl (lv_at hl 0 rfl) ?_
      refine get_11_0 C hP (lr_0 hL) (lk_0 hL) inlX11 mw_15 (lf_0_0 hL) dX11_looked_32 ?_
      refine get_8_11 C hP (lr_1 hL) (lk_1 hL) inlX8 mw_988 (lf_1_11 hL) dX11_looked_35 ?_
      refine lv_iload_n hx hb dX11_looked_38 rfl (lv_at hl 1 rfl) ?_
      obtain ⟨r3, hq3, hF⟩ := bn_1 hF
      refine x_callS C hP hS (c_X11_valueAt hL ⟨(lr_12 hL), (lk_12 hL), (ln_12 hL)⟩ hq3) (va_cwS 2 C.1.2.2.2.2 (gdS mw_750 mw_557 mw_2 mw_558) rfl rfl rfl hd_X11_valueAt.2 ⟨Nat.le_of_ble_eq_true rfl, Nat.le_of_ble_eq_true rfl⟩) rfl rfl hl.1 (Nat.le_of_ble_eq_true rfl) ⟨Nat.zero_le _, Nat.zero_le _⟩ dX11_looked_39 (fun H locs hP hS => ?_)
      obtain ⟨o4, hq4, hF⟩ := bn_1 hF
      refine x_callV (ci := 8) rfl rfl C hP hS (c_X8_cutterAt_1 hL hq4) (lr_1 hL) (lk_1 hL) (cwV 1 C.1.2.2.2.2 (gdV mw_428 mw_429 mw_430 mw_14 mw_431) rfl rfl rfl hd_X8_cutterAt ⟨Nat.le_of_ble_eq_true rfl, Nat.le_of_ble_eq_true rfl⟩) rfl rfl hl.1 (Nat.le_of_ble_eq_true rfl) ⟨Nat.zero_le _, Nat.zero_le _⟩ dX11_looked_42 (fun H locs hP hS => ?_)
      rcases ho5 : o4 with _ | c5
      · have hF := oc_n hF ho5
        refine x_n ?_
        refine lv_astore_nN (lv' := [(2, .null), (0, .ref (ad 0)), (1, .int v1)]) hx hb dX11_looked_45 rfl hl (by decide) rfl (fun ls hl => ?_)
        refine lv_aload_nN hx hb dX11_looked_46 rfl (lv_at hl 0 rfl) ?_
        refine lv_ifnullN (tgt := 74) hx hb dX11_looked_47 (by decide) ?_
        refine lv_iload_n hx hb dX11_looked_74 rfl (lv_at hl 2 rfl) ?_
        obtain ⟨rfl, rfl⟩ := ret_2 hF
        subst hρ0
        exact x_iret rfl C hP hS dX11_looked_75
      · have hF := oc_s hF ho5
        refine x_s ?_
        cases hF
set_option maxHeartbeats 4000000 in
set_option maxRecDepth 100000 in
theorem w_X11_looked_0  {p : Program} {e : Env} {s : State} {m : MethodId} {args : Array Value} {below : List Frame} {meth : Method} {c : Code} {ρ0 : RG} {r : Int32} {σ1 : SG} (C : Cx Y D N ad p s m args meth c cX11_looked 3 (some .int) RX11 wsL_law) {σ : SG} {ρ : RG} {H : Heap} {locs : List Loc} {ls : Array Slot} (hρ0 : ρ = ρ0) (hL : Lay N K len ρ) (hF : F_X11_looked σ ρ = some (r, σ1)) (hP : WP Y D N ad K len σ ρ H) (hS : va_S (AA N ad s.heap.size) s.heap H locs) (hl : lv_has ls 3 [(0, .ref (ad 0))]) : W p l e rm_X11_looked s m args below meth c H locs 0 0 (MQ below (QW Y D N ad K len σ1 ρ0 (AA N ad s.heap.size) (some (.int r))) args s 0 0 (AA N ad s.heap.size)) (F0 m 0 ls []) := by
  have hx := C.1.1
  have hb := C.1.2.1
  unfold F_X11_looked at hF
  refine lv_aload_n hx hb dX11_looked_0 rfl (lv_at hl 0 rfl) ?_
  refine get_11_11 C hP (lr_0 hL) (lk_0 hL) inlX11 mw_32 (lf_0_11 hL) dX11_looked_1 ?_
  refine lv_aload_n hx hb dX11_looked_4 rfl (lv_at hl 0 rfl) ?_
  refine get_11_0 C hP (lr_0 hL) (lk_0 hL) inlX11 mw_15 (lf_0_0 hL) dX11_looked_5 ?_
  refine get_8_2 C hP (lr_1 hL) (lk_1 hL) inlX8 mw_488 (lf_1_2 hL) dX11_looked_8 ?_
  obtain ⟨σ1, hq1, hF⟩ := bn_1 hF
  refine x_callV (ci := 3) rfl rfl C hP hS (c_X3_takes hL (il_37 hL) (il_3 hL) hq1) (lr_37 hL) (lk_37 hL) (cwV 1 C.1.2.2.2.2 (gdV mw_720 mw_721 mw_722 mw_31 mw_723) rfl rfl rfl hd_X3_takes ⟨Nat.le_of_ble_eq_true rfl, Nat.le_of_ble_eq_true rfl⟩) rfl rfl hl.1 (Nat.le_of_ble_eq_true rfl) ⟨Nat.zero_le _, Nat.zero_le _⟩ dX11_looked_11 (fun H locs hP hS => ?_)
  refine lv_iconst (v := 0) hx hb dX11_looked_14 (by decide) ?_
  refine lv_istore_n (lv' := [(1, .int (0 : Int32)), (0, .ref (ad 0))]) hx hb dX11_looked_15 rfl hl (by decide) rfl (fun ls hl => ?_)
  exact w_X11_looked_16 C 1024 _ _ _ _ _ _ hρ0 hL hF hP hS (lv_sub hl [1, 0] rfl)
set_option maxHeartbeats 4000000 in
set_option maxRecDepth 100000 in
theorem c_X11_looked  {r : Int32} {σ1 : SG} {σ : SG} {ρ : RG} (hL : Lay N K len ρ) (hF : F_X11_looked σ ρ = some (r, σ1)) : MT l Y D N ad K len yX11_looked (Cond.code yX11_looked cX11_looked 3 (some .int) :: wsL_law) rm_X11_looked [.ref (ad 0)] σ ρ (some (.int r)) σ1 ρ := by
  refine mt_of (cc := cX11_looked) (nL := 3) (ret := (some .int)) (by decide) (Nat.le_of_ble_eq_true rfl) ?_
  intro p e s m args below meth c ls C hnm hP hS hl
  exact w_X11_looked_0 C rfl hL hF hP hS hl

/-! CutCrooked.public int act(int, int, int);  -/
theorem dX11_act_0 : decode cX11_act 0 = .ok (.aload_n 0, 1) := by decide +kernel
theorem dX11_act_1 : decode cX11_act 1 = .ok (.getfield 24, 3) := by decide +kernel
theorem dX11_act_4 : decode cX11_act 4 = .ok (.iconst 0, 1) := by decide +kernel
theorem dX11_act_5 : decode cX11_act 5 = .ok (.putfield 270, 3) := by decide +kernel
theorem dX11_act_8 : decode cX11_act 8 = .ok (.aload_n 0, 1) := by decide +kernel
theorem dX11_act_9 : decode cX11_act 9 = .ok (.getfield 12, 3) := by decide +kernel
theorem dX11_act_12 : decode cX11_act 12 = .ok (.iload_n 1, 1) := by decide +kernel
theorem dX11_act_13 : decode cX11_act 13 = .ok (.invokevirtual 100, 3) := by decide +kernel
theorem dX11_act_16 : decode cX11_act 16 = .ok (.astore 4, 2) := by decide +kernel
theorem dX11_act_18 : decode cX11_act 18 = .ok (.aload 4, 2) := by decide +kernel
theorem dX11_act_20 : decode cX11_act 20 = .ok (.ifnonnull 5, 3) := by decide +kernel
theorem dX11_act_23 : decode cX11_act 23 = .ok (.iconst 0, 1) := by decide +kernel
theorem dX11_act_24 : decode cX11_act 24 = .ok (.ireturn, 1) := by decide +kernel
theorem hd_X11_act : yX11_act.cls = RX11 ∧ yX11_act.cls ≠ "java/lang/invoke/MethodHandle" ∧ yX11_act.cls ≠ "java/lang/invoke/VarHandle" ∧ (parseMethodDescriptor yX11_act.desc).map (fun d => d.parameters.length) = some 3 := by decide +kernel
abbrev rm_X11_act : Room := { frames := 1, cells := 0, slots := 0, locals := 21 }
def F_X11_act (a1 : Int32) (a2 : Int32) (a3 : Int32) (σ : SG) (ρ : RG) : Option (Int32 × SG) :=
  nm (s2 σ 27 1 (0 : Int32)) fun σ2 =>
  bn (F_X8_cutterAt_1 a1 σ2 ρ) fun o3 =>
  oc o3
   (
    some ((0 : Int32), σ2))
   (fun c4 =>
    none /- none: some -/)
set_option maxHeartbeats 4000000 in
set_option maxRecDepth 100000 in
theorem w_X11_act_0 {a1 : Int32} {a2 : Int32} {a3 : Int32} {p : Program} {e : Env} {s : State} {m : MethodId} {args : Array Value} {below : List Frame} {meth : Method} {c : Code} {ρ0 : RG} {r : Int32} {σ1 : SG} (C : Cx Y D N ad p s m args meth c cX11_act 5 (some .int) RX11 wsL_law) {σ : SG} {ρ : RG} {H : Heap} {locs : List Loc} {ls : Array Slot} (hρ0 : ρ = ρ0) (hL : Lay N K len ρ) (hF : F_X11_act a1 a2 a3 σ ρ = some (r, σ1)) (hP : WP Y D N ad K len σ ρ H) (hS : va_S (AA N ad s.heap.size) s.heap H locs) (hl : lv_has ls 5 [(0, .ref (ad 0)), (1, .int a1), (2, .int a2), (3, .int a3)]) : W p l e rm_X11_act s m args below meth c H locs 0 0 (MQ below (QW Y D N ad K len σ1 ρ0 (AA N ad s.heap.size) (some (.int r))) args s 0 0 (AA N ad s.heap.size)) (F0 m 0 ls []) := by
  have hx := C.1.1
  have hb := C.1.2.1
  unfold F_X11_act at hF
  refine lv_aload_n hx hb dX11_act_0 rfl (lv_at hl 0 rfl) ?_
  refine get_11_3 C hP (lr_0 hL) (lk_0 hL) inlX11 mw_20 (lf_0_3 hL) dX11_act_1 ?_
  refine lv_iconst (v := 0) hx hb dX11_act_4 (by decide) ?_
  obtain ⟨σ2, eσ2, hF⟩ := nm_1 hF
  refine put_10_1 C hP hS (lr_27 hL) (lk_27 hL) inlX10 mw_1006 eσ2 dX11_act_5 (fun H locs hP hS => ?_)
  refine lv_aload_n hx hb dX11_act_8 rfl (lv_at hl 0 rfl) ?_
  refine get_11_0 C hP (lr_0 hL) (lk_0 hL) inlX11 mw_15 (lf_0_0 hL) dX11_act_9 ?_
  refine lv_iload_n hx hb dX11_act_12 rfl (lv_at hl 1 rfl) ?_
  obtain ⟨o3, hq3, hF⟩ := bn_1 hF
  refine x_callV (ci := 8) rfl rfl C hP hS (c_X8_cutterAt_1 hL hq3) (lr_1 hL) (lk_1 hL) (cwV 1 C.1.2.2.2.2 (gdV mw_428 mw_429 mw_430 mw_14 mw_431) rfl rfl rfl hd_X8_cutterAt ⟨Nat.le_of_ble_eq_true rfl, Nat.le_of_ble_eq_true rfl⟩) rfl rfl hl.1 (Nat.le_of_ble_eq_true rfl) ⟨Nat.zero_le _, Nat.zero_le _⟩ dX11_act_13 (fun H locs hP hS => ?_)
  rcases ho4 : o3 with _ | c4
  · have hF := oc_n hF ho4
    refine x_n ?_
    refine lv_astoreN (lv' := [(4, .null), (0, .ref (ad 0)), (1, .int a1), (2, .int a2), (3, .int a3)]) hx hb dX11_act_16 hl (by decide) rfl (fun ls hl => ?_)
    refine lv_aloadN hx hb dX11_act_18 (lv_at hl 0 rfl) ?_
    refine lv_ifnonnullN hx hb dX11_act_20 ?_
    refine lv_iconst (v := 0) hx hb dX11_act_23 (by decide) ?_
    obtain ⟨rfl, rfl⟩ := ret_2 hF
    subst hρ0
    exact x_iret rfl C hP hS dX11_act_24
  · have hF := oc_s hF ho4
    refine x_s ?_
    cases hF
set_option maxHeartbeats 4000000 in
set_option maxRecDepth 100000 in
theorem c_X11_act {a1 : Int32} {a2 : Int32} {a3 : Int32} {r : Int32} {σ1 : SG} {σ : SG} {ρ : RG} (hL : Lay N K len ρ) (hF : F_X11_act a1 a2 a3 σ ρ = some (r, σ1)) : MT l Y D N ad K len yX11_act (Cond.code yX11_act cX11_act 5 (some .int) :: wsL_law) rm_X11_act [.ref (ad 0), .int a1, .int a2, .int a3] σ ρ (some (.int r)) σ1 ρ := by
  refine mt_of (cc := cX11_act) (nL := 5) (ret := (some .int)) (by decide) (Nat.le_of_ble_eq_true rfl) ?_
  intro p e s m args below meth c ls C hnm hP hS hl
  exact w_X11_act_0 C rfl hL hF hP hS hl

/-! CutCrooked.public int trace(int);  -/
theorem dX11_trace_0 : decode cX11_trace 0 = .ok (.iload_n 1, 1) := by decide +kernel
theorem dX11_trace_1 : decode cX11_trace 1 = .ok (.iconst 0, 1) := by decide +kernel
theorem dX11_trace_2 : decode cX11_trace 2 = .ok (.aload_n 0, 1) := by decide +kernel
theorem dX11_trace_3 : decode cX11_trace 3 = .ok (.getfield 24, 3) := by decide +kernel
theorem dX11_trace_6 : decode cX11_trace 6 = .ok (.getfield 283, 3) := by decide +kernel
theorem dX11_trace_9 : decode cX11_trace 9 = .ok (.arraylength, 1) := by decide +kernel
theorem dX11_trace_10 : decode cX11_trace 10 = .ok (.iconst 1, 1) := by decide +kernel
theorem dX11_trace_11 : decode cX11_trace 11 = .ok (.isub, 1) := by decide +kernel
theorem dX11_trace_12 : decode cX11_trace 12 = .ok (.invokestatic 56, 3) := by decide +kernel
theorem dX11_trace_15 : decode cX11_trace 15 = .ok (.ifCond .eq 14, 3) := by decide +kernel
theorem dX11_trace_18 : decode cX11_trace 18 = .ok (.iload_n 1, 1) := by decide +kernel
theorem dX11_trace_19 : decode cX11_trace 19 = .ok (.aload_n 0, 1) := by decide +kernel
theorem dX11_trace_20 : decode cX11_trace 20 = .ok (.getfield 24, 3) := by decide +kernel
theorem dX11_trace_23 : decode cX11_trace 23 = .ok (.getfield 270, 3) := by decide +kernel
theorem dX11_trace_26 : decode cX11_trace 26 = .ok (.if_icmp .lt 5, 3) := by decide +kernel
theorem dX11_trace_29 : decode cX11_trace 29 = .ok (.iconst (-1), 1) := by decide +kernel
theorem dX11_trace_30 : decode cX11_trace 30 = .ok (.ireturn, 1) := by decide +kernel
theorem dX11_trace_31 : decode cX11_trace 31 = .ok (.aload_n 0, 1) := by decide +kernel
theorem dX11_trace_32 : decode cX11_trace 32 = .ok (.getfield 24, 3) := by decide +kernel
theorem dX11_trace_35 : decode cX11_trace 35 = .ok (.getfield 283, 3) := by decide +kernel
theorem dX11_trace_38 : decode cX11_trace 38 = .ok (.iload_n 1, 1) := by decide +kernel
theorem dX11_trace_39 : decode cX11_trace 39 = .ok (.iaload, 1) := by decide +kernel
theorem dX11_trace_40 : decode cX11_trace 40 = .ok (.ireturn, 1) := by decide +kernel
theorem hd_X11_trace : yX11_trace.cls = RX11 ∧ yX11_trace.cls ≠ "java/lang/invoke/MethodHandle" ∧ yX11_trace.cls ≠ "java/lang/invoke/VarHandle" ∧ (parseMethodDescriptor yX11_trace.desc).map (fun d => d.parameters.length) = some 1 := by decide +kernel
abbrev rm_X11_trace : Room := { frames := 1, cells := 0, slots := 0, locals := 22 }
def F_X11_trace (a1 : Int32) (σ : SG) (ρ : RG) : Option (Int32) :=
  nm ((20 : Int32) - (1 : Int32)) fun x1 =>
  bn (F_X11_isWithin a1 (0 : Int32) x1 σ ρ) fun r2 =>
  if r2 = 0 then
    some (-1 : Int32)
  else
    if a1 < (σ 27 1) then
      gd (inb a1 20) <|
      some (σ 28 (a1).toNatClampNeg)
    else
      some (-1 : Int32)
set_option maxHeartbeats 4000000 in
set_option maxRecDepth 100000 in
theorem w_X11_trace_0 {a1 : Int32} {p : Program} {e : Env} {s : State} {m : MethodId} {args : Array Value} {below : List Frame} {meth : Method} {c : Code} {σ0 : SG} {ρ0 : RG} {r : Int32} (C : Cx Y D N ad p s m args meth c cX11_trace 2 (some .int) RX11 wsL_law) {σ : SG} {ρ : RG} {H : Heap} {locs : List Loc} {ls : Array Slot} (hσ0 : σ = σ0) (hρ0 : ρ = ρ0) (hL : Lay N K len ρ) (hF : F_X11_trace a1 σ ρ = some r) (hP : WP Y D N ad K len σ ρ H) (hS : va_S (AA N ad s.heap.size) s.heap H locs) (hl : lv_has ls 2 [(0, .ref (ad 0)), (1, .int a1)]) : W p l e rm_X11_trace s m args below meth c H locs 0 0 (MQ below (QW Y D N ad K len σ0 ρ0 (AA N ad s.heap.size) (some (.int r))) args s 0 0 (AA N ad s.heap.size)) (F0 m 0 ls []) := by
  have hx := C.1.1
  have hb := C.1.2.1
  unfold F_X11_trace at hF
  refine lv_iload_n hx hb dX11_trace_0 rfl (lv_at hl 1 rfl) ?_
  refine lv_iconst (v := 0) hx hb dX11_trace_1 (by decide) ?_
  refine lv_aload_n hx hb dX11_trace_2 rfl (lv_at hl 0 rfl) ?_
  refine get_11_3 C hP (lr_0 hL) (lk_0 hL) inlX11 mw_20 (lf_0_3 hL) dX11_trace_3 ?_
  refine get_10_0 C hP (lr_27 hL) (lk_27 hL) inlX10 mw_1129 (lf_27_0 hL) dX11_trace_6 ?_
  refine x_alen (v := (20 : Int32)) C hP (lr_28 hL) (lk_28 hL) (by decide) (ln_28 hL) (by decide +kernel) dX11_trace_9 ?_
  refine lv_iconst (v := 1) hx hb dX11_trace_10 (by decide) ?_
  refine lv_isub hx hb dX11_trace_11 ?_
  obtain ⟨x1, ex1, hF⟩ := nm_1 hF
  refine x_top ex1 ?_
  obtain ⟨r2, hq2, hF⟩ := bn_1 hF
  refine x_callS C hP hS (c_X11_isWithin hL hq2) (va_cwS 3 C.1.2.2.2.2 (gdS mw_97 mw_98 mw_2 mw_99) rfl rfl rfl hd_X11_isWithin.2 ⟨Nat.le_of_ble_eq_true rfl, Nat.le_of_ble_eq_true rfl⟩) rfl rfl hl.1 (Nat.le_of_ble_eq_true rfl) ⟨Nat.zero_le _, Nat.zero_le _⟩ dX11_trace_12 (fun H locs hP hS => ?_)
  refine lv_if_eq (tgt := 29) hx hb dX11_trace_15 (by decide) (fun c_3 => ?_) (fun c_3 => ?_) -- COND 3 by_cases c_3 : r2 = 0
  · have hF := ite_t hF c_3
    refine lv_iconst (v := -1) hx hb dX11_trace_29 (by decide) ?_
    obtain rfl := ret_1 hF
    subst hσ0
    subst hρ0
    exact x_iret rfl C hP hS dX11_trace_30
  · have hF := ite_f hF c_3
    refine lv_iload_n hx hb dX11_trace_18 rfl (lv_at hl 1 rfl) ?_
    refine lv_aload_n hx hb dX11_trace_19 rfl (lv_at hl 0 rfl) ?_
    refine get_11_3 C hP (lr_0 hL) (lk_0 hL) inlX11 mw_20 (lf_0_3 hL) dX11_trace_20 ?_
    refine get_10_1 C hP (lr_27 hL) (lk_27 hL) inlX10 mw_1006 dX11_trace_23 ?_
    refine lv_icmp_lt (tgt := 31) hx hb dX11_trace_26 (by decide) (fun c_4 => ?_) (fun c_4 => ?_) -- COND 4 by_cases c_4 : a1 < (σ 27 1)
    · have hF := ite_t hF c_4
      refine lv_aload_n hx hb dX11_trace_31 rfl (lv_at hl 0 rfl) ?_
      refine get_11_3 C hP (lr_0 hL) (lk_0 hL) inlX11 mw_20 (lf_0_3 hL) dX11_trace_32 ?_
      refine get_10_0 C hP (lr_27 hL) (lk_27 hL) inlX10 mw_1129 (lf_27_0 hL) dX11_trace_35 ?_
      refine lv_iload_n hx hb dX11_trace_38 rfl (lv_at hl 1 rfl) ?_
      obtain ⟨g5, hF⟩ := gd_1 hF
      refine x_iald C hP (lr_28 hL) (lk_28 hL) (ln_28 hL) g5 dX11_trace_39 ?_
      obtain rfl := ret_1 hF
      subst hσ0
      subst hρ0
      exact x_iret rfl C hP hS dX11_trace_40
    · have hF := ite_f hF c_4
      refine lv_iconst (v := -1) hx hb dX11_trace_29 (by decide) ?_
      obtain rfl := ret_1 hF
      subst hσ0
      subst hρ0
      exact x_iret rfl C hP hS dX11_trace_30
set_option maxHeartbeats 4000000 in
set_option maxRecDepth 100000 in
theorem c_X11_trace {a1 : Int32} {r : Int32} {σ : SG} {ρ : RG} (hL : Lay N K len ρ) (hF : F_X11_trace a1 σ ρ = some r) : MT l Y D N ad K len yX11_trace (Cond.code yX11_trace cX11_trace 2 (some .int) :: wsL_law) rm_X11_trace [.ref (ad 0), .int a1] σ ρ (some (.int r)) σ ρ := by
  refine mt_of (cc := cX11_trace) (nL := 2) (ret := (some .int)) (by decide) (Nat.le_of_ble_eq_true rfl) ?_
  intro p e s m args below meth c ls C hnm hP hS hl
  exact w_X11_trace_0 C rfl rfl hL hF hP hS hl

/-! CutCrooked.public int as(int, int);  -/
theorem dX11_as_0 : decode cX11_as 0 = .ok (.aload_n 0, 1) := by decide +kernel
theorem dX11_as_1 : decode cX11_as 1 = .ok (.getfield 12, 3) := by decide +kernel
theorem dX11_as_4 : decode cX11_as 4 = .ok (.iload_n 1, 1) := by decide +kernel
theorem dX11_as_5 : decode cX11_as 5 = .ok (.invokevirtual 100, 3) := by decide +kernel
theorem dX11_as_8 : decode cX11_as 8 = .ok (.astore_n 3, 1) := by decide +kernel
theorem dX11_as_9 : decode cX11_as 9 = .ok (.aload_n 3, 1) := by decide +kernel
theorem dX11_as_10 : decode cX11_as 10 = .ok (.ifnull 13, 3) := by decide +kernel
theorem dX11_as_23 : decode cX11_as 23 = .ok (.iconst (-1), 1) := by decide +kernel
theorem dX11_as_24 : decode cX11_as 24 = .ok (.ireturn, 1) := by decide +kernel
theorem hd_X11_as : yX11_as.cls = RX11 ∧ yX11_as.cls ≠ "java/lang/invoke/MethodHandle" ∧ yX11_as.cls ≠ "java/lang/invoke/VarHandle" ∧ (parseMethodDescriptor yX11_as.desc).map (fun d => d.parameters.length) = some 2 := by decide +kernel
abbrev rm_X11_as : Room := { frames := 1, cells := 0, slots := 0, locals := 21 }
def F_X11_as (a1 : Int32) (a2 : Int32) (σ : SG) (ρ : RG) : Option (Int32) :=
  bn (F_X8_cutterAt_1 a1 σ ρ) fun o1 =>
  oc o1
   (
    some (-1 : Int32))
   (fun c2 =>
    none /- none: some -/)
set_option maxHeartbeats 4000000 in
set_option maxRecDepth 100000 in
theorem w_X11_as_0 {a1 : Int32} {a2 : Int32} {p : Program} {e : Env} {s : State} {m : MethodId} {args : Array Value} {below : List Frame} {meth : Method} {c : Code} {σ0 : SG} {ρ0 : RG} {r : Int32} (C : Cx Y D N ad p s m args meth c cX11_as 4 (some .int) RX11 wsL_law) {σ : SG} {ρ : RG} {H : Heap} {locs : List Loc} {ls : Array Slot} (hσ0 : σ = σ0) (hρ0 : ρ = ρ0) (hL : Lay N K len ρ) (hF : F_X11_as a1 a2 σ ρ = some r) (hP : WP Y D N ad K len σ ρ H) (hS : va_S (AA N ad s.heap.size) s.heap H locs) (hl : lv_has ls 4 [(0, .ref (ad 0)), (1, .int a1), (2, .int a2)]) : W p l e rm_X11_as s m args below meth c H locs 0 0 (MQ below (QW Y D N ad K len σ0 ρ0 (AA N ad s.heap.size) (some (.int r))) args s 0 0 (AA N ad s.heap.size)) (F0 m 0 ls []) := by
  have hx := C.1.1
  have hb := C.1.2.1
  unfold F_X11_as at hF
  refine lv_aload_n hx hb dX11_as_0 rfl (lv_at hl 0 rfl) ?_
  refine get_11_0 C hP (lr_0 hL) (lk_0 hL) inlX11 mw_15 (lf_0_0 hL) dX11_as_1 ?_
  refine lv_iload_n hx hb dX11_as_4 rfl (lv_at hl 1 rfl) ?_
  obtain ⟨o1, hq1, hF⟩ := bn_1 hF
  refine x_callV (ci := 8) rfl rfl C hP hS (c_X8_cutterAt_1 hL hq1) (lr_1 hL) (lk_1 hL) (cwV 1 C.1.2.2.2.2 (gdV mw_428 mw_429 mw_430 mw_14 mw_431) rfl rfl rfl hd_X8_cutterAt ⟨Nat.le_of_ble_eq_true rfl, Nat.le_of_ble_eq_true rfl⟩) rfl rfl hl.1 (Nat.le_of_ble_eq_true rfl) ⟨Nat.zero_le _, Nat.zero_le _⟩ dX11_as_5 (fun H locs hP hS => ?_)
  rcases ho2 : o1 with _ | c2
  · have hF := oc_n hF ho2
    refine x_n ?_
    refine lv_astore_nN (lv' := [(3, .null), (0, .ref (ad 0)), (1, .int a1), (2, .int a2)]) hx hb dX11_as_8 rfl hl (by decide) rfl (fun ls hl => ?_)
    refine lv_aload_nN hx hb dX11_as_9 rfl (lv_at hl 0 rfl) ?_
    refine lv_ifnullN (tgt := 23) hx hb dX11_as_10 (by decide) ?_
    refine lv_iconst (v := -1) hx hb dX11_as_23 (by decide) ?_
    obtain rfl := ret_1 hF
    subst hσ0
    subst hρ0
    exact x_iret rfl C hP hS dX11_as_24
  · have hF := oc_s hF ho2
    refine x_s ?_
    cases hF
set_option maxHeartbeats 4000000 in
set_option maxRecDepth 100000 in
theorem c_X11_as {a1 : Int32} {a2 : Int32} {r : Int32} {σ : SG} {ρ : RG} (hL : Lay N K len ρ) (hF : F_X11_as a1 a2 σ ρ = some r) : MT l Y D N ad K len yX11_as (Cond.code yX11_as cX11_as 4 (some .int) :: wsL_law) rm_X11_as [.ref (ad 0), .int a1, .int a2] σ ρ (some (.int r)) σ ρ := by
  refine mt_of (cc := cX11_as) (nL := 4) (ret := (some .int)) (by decide) (Nat.le_of_ble_eq_true rfl) ?_
  intro p e s m args below meth c ls C hnm hP hS hl
  exact w_X11_as_0 C rfl rfl hL hF hP hS hl

/-! CutCrooked.public int image();  -/
theorem dX11_image_0 : decode cX11_image 0 = .ok (.aload_n 0, 1) := by decide +kernel
theorem dX11_image_1 : decode cX11_image 1 = .ok (.getfield 18, 3) := by decide +kernel
theorem dX11_image_4 : decode cX11_image 4 = .ok (.aload_n 0, 1) := by decide +kernel
theorem dX11_image_5 : decode cX11_image 5 = .ok (.getfield 12, 3) := by decide +kernel
theorem dX11_image_8 : decode cX11_image 8 = .ok (.invokevirtual 290, 3) := by decide +kernel
theorem dX11_image_11 : decode cX11_image 11 = .ok (.aload_n 0, 1) := by decide +kernel
theorem dX11_image_12 : decode cX11_image 12 = .ok (.iconst 1, 1) := by decide +kernel
theorem dX11_image_13 : decode cX11_image 13 = .ok (.putfield 293, 3) := by decide +kernel
theorem dX11_image_16 : decode cX11_image 16 = .ok (.aload_n 0, 1) := by decide +kernel
theorem dX11_image_17 : decode cX11_image 17 = .ok (.getfield 12, 3) := by decide +kernel
theorem dX11_image_20 : decode cX11_image 20 = .ok (.getfield 89, 3) := by decide +kernel
theorem dX11_image_23 : decode cX11_image 23 = .ok (.ireturn, 1) := by decide +kernel
theorem hd_X11_image : yX11_image.cls = RX11 ∧ yX11_image.cls ≠ "java/lang/invoke/MethodHandle" ∧ yX11_image.cls ≠ "java/lang/invoke/VarHandle" ∧ (parseMethodDescriptor yX11_image.desc).map (fun d => d.parameters.length) = some 0 := by decide +kernel
abbrev rm_X11_image : Room := { frames := 3, cells := 0, slots := 0, locals := 104 }
def F_X11_image  (σ : SG) (ρ : RG) : Option (Int32 × SG × RG) :=
  bn2 (F_X8_takes_14_1 σ ρ) fun σ1 ρ1 =>
  nm (s2 σ1 0 2 (1 : Int32)) fun σ3 =>
  some ((σ3 1 1), σ3, ρ1)
set_option maxHeartbeats 4000000 in
set_option maxRecDepth 100000 in
theorem w_X11_image_0  {p : Program} {e : Env} {s : State} {m : MethodId} {args : Array Value} {below : List Frame} {meth : Method} {c : Code} {r : Int32} {σ1 : SG} {ρ1 : RG} (C : Cx Y D N ad p s m args meth c cX11_image 1 (some .int) RX11 wsL_law) {σ : SG} {ρ : RG} {H : Heap} {locs : List Loc} {ls : Array Slot} (hL : Lay N K len ρ) (hF : F_X11_image σ ρ = some (r, σ1, ρ1)) (hP : WP Y D N ad K len σ ρ H) (hS : va_S (AA N ad s.heap.size) s.heap H locs) (hl : lv_has ls 1 [(0, .ref (ad 0))]) : W p l e rm_X11_image s m args below meth c H locs 0 0 (MQ below (QW Y D N ad K len σ1 ρ1 (AA N ad s.heap.size) (some (.int r))) args s 0 0 (AA N ad s.heap.size)) (F0 m 0 ls []) := by
  have hx := C.1.1
  have hb := C.1.2.1
  unfold F_X11_image at hF
  refine lv_aload_n hx hb dX11_image_0 rfl (lv_at hl 0 rfl) ?_
  refine get_11_1 C hP (lr_0 hL) (lk_0 hL) inlX11 mw_16 (lf_0_1 hL) dX11_image_1 ?_
  refine lv_aload_n hx hb dX11_image_4 rfl (lv_at hl 0 rfl) ?_
  refine get_11_0 C hP (lr_0 hL) (lk_0 hL) inlX11 mw_15 (lf_0_0 hL) dX11_image_5 ?_
  obtain ⟨σ1, ρ1, hq1, hF⟩ := bn2_1 hF
  refine x_callV (ci := 8) rfl rfl C hP hS (c_X8_takes_14_1 hL hq1) (lr_14 hL) (lk_14 hL) (cwV 1 C.1.2.2.2.2 (gdV mw_1155 mw_1156 mw_1157 mw_14 mw_1158) rfl rfl rfl hd_X8_takes ⟨Nat.le_of_ble_eq_true rfl, Nat.le_of_ble_eq_true rfl⟩) rfl rfl hl.1 (Nat.le_of_ble_eq_true rfl) ⟨Nat.zero_le _, Nat.zero_le _⟩ dX11_image_8 (fun H locs hP hS => ?_)
  have hL : Lay N K len ρ1 := k_X8_takes_14_1 hL hq1
  refine lv_aload_n hx hb dX11_image_11 rfl (lv_at hl 0 rfl) ?_
  refine lv_iconst (v := 1) hx hb dX11_image_12 (by decide) ?_
  obtain ⟨σ3, eσ3, hF⟩ := nm_1 hF
  refine put_11_2 rfl C hP hS (lr_0 hL) (lk_0 hL) inlX11 mw_1154 eσ3 dX11_image_13 (fun H locs hP hS => ?_)
  refine lv_aload_n hx hb dX11_image_16 rfl (lv_at hl 0 rfl) ?_
  refine get_11_0 C hP (lr_0 hL) (lk_0 hL) inlX11 mw_15 (lf_0_0 hL) dX11_image_17 ?_
  refine get_8_1 C hP (lr_1 hL) (lk_1 hL) inlX8 mw_352 dX11_image_20 ?_
  obtain ⟨rfl, rfl, rfl⟩ := ret_3 hF
  exact x_iret rfl C hP hS dX11_image_23
theorem k_X11_image_0  {r : Int32} {σ1 : SG} {ρ1 : RG} {σ : SG} {ρ : RG} (hL : Lay N K len ρ) (hF : F_X11_image σ ρ = some (r, σ1, ρ1)) : Lay N K len ρ1 := by
  unfold F_X11_image at hF
  obtain ⟨σ1, ρ1, hq1, hF⟩ := bn2_1 hF
  have hL : Lay N K len ρ1 := k_X8_takes_14_1 hL hq1
  obtain ⟨σ3, eσ3, hF⟩ := nm_1 hF
  obtain ⟨rfl, rfl, rfl⟩ := ret_3 hF
  exact hL
theorem kr_X11_image_0  {r : Int32} {σ1 : SG} {ρ1 : RG} {σ : SG} {ρ : RG} (hL : Lay N K len ρ) (hR : RC N ρ) (hF : F_X11_image σ ρ = some (r, σ1, ρ1)) : RC N ρ1 := by
  unfold F_X11_image at hF
  obtain ⟨σ1, ρ1, hq1, hF⟩ := bn2_1 hF
  have hR : RC N ρ1 := kr_X8_takes_14_1 hL hR hq1
  have hL : Lay N K len ρ1 := k_X8_takes_14_1 hL hq1
  obtain ⟨σ3, eσ3, hF⟩ := nm_1 hF
  obtain ⟨rfl, rfl, rfl⟩ := ret_3 hF
  exact hR
set_option maxHeartbeats 4000000 in
set_option maxRecDepth 100000 in
theorem c_X11_image  {r : Int32} {σ1 : SG} {ρ1 : RG} {σ : SG} {ρ : RG} (hL : Lay N K len ρ) (hF : F_X11_image σ ρ = some (r, σ1, ρ1)) : MT l Y D N ad K len yX11_image (Cond.code yX11_image cX11_image 1 (some .int) :: wsL_law) rm_X11_image [.ref (ad 0)] σ ρ (some (.int r)) σ1 ρ1 := by
  refine mt_of (cc := cX11_image) (nL := 1) (ret := (some .int)) (by decide) (Nat.le_of_ble_eq_true rfl) ?_
  intro p e s m args below meth c ls C hnm hP hS hl
  exact w_X11_image_0 C hL hF hP hS hl
theorem k_X11_image  {r : Int32} {σ1 : SG} {ρ1 : RG} {σ : SG} {ρ : RG} (hL : Lay N K len ρ) (hF : F_X11_image σ ρ = some (r, σ1, ρ1)) : Lay N K len ρ1 := k_X11_image_0 hL hF
theorem kr_X11_image  {r : Int32} {σ1 : SG} {ρ1 : RG} {σ : SG} {ρ : RG} (hL : Lay N K len ρ) (hR : RC N ρ) (hF : F_X11_image σ ρ = some (r, σ1, ρ1)) : RC N ρ1 := kr_X11_image_0 hL hR hF

/-! CutCrooked.public int undo();  -/
theorem dX11_undo_0 : decode cX11_undo 0 = .ok (.aload_n 0, 1) := by decide +kernel
theorem dX11_undo_1 : decode cX11_undo 1 = .ok (.getfield 293, 3) := by decide +kernel
theorem dX11_undo_4 : decode cX11_undo 4 = .ok (.ifCond .ne 6, 3) := by decide +kernel
theorem dX11_undo_7 : decode cX11_undo 7 = .ok (.bipush (-3), 2) := by decide +kernel
theorem dX11_undo_9 : decode cX11_undo 9 = .ok (.ireturn, 1) := by decide +kernel
theorem dX11_undo_10 : decode cX11_undo 10 = .ok (.aload_n 0, 1) := by decide +kernel
theorem dX11_undo_11 : decode cX11_undo 11 = .ok (.getfield 12, 3) := by decide +kernel
theorem dX11_undo_14 : decode cX11_undo 14 = .ok (.aload_n 0, 1) := by decide +kernel
theorem dX11_undo_15 : decode cX11_undo 15 = .ok (.getfield 18, 3) := by decide +kernel
theorem hd_X11_undo : yX11_undo.cls = RX11 ∧ yX11_undo.cls ≠ "java/lang/invoke/MethodHandle" ∧ yX11_undo.cls ≠ "java/lang/invoke/VarHandle" ∧ (parseMethodDescriptor yX11_undo.desc).map (fun d => d.parameters.length) = some 0 := by decide +kernel
abbrev rm_X11_undo : Room := { frames := 0, cells := 0, slots := 0, locals := 0 }
def F_X11_undo  (σ : SG) (ρ : RG) : Option (Int32) :=
  if (σ 0 2) = 0 then
    some (-3 : Int32)
  else
    none /- none: 18: no variant of 8.takes -/
set_option maxHeartbeats 4000000 in
set_option maxRecDepth 100000 in
theorem w_X11_undo_0  {p : Program} {e : Env} {s : State} {m : MethodId} {args : Array Value} {below : List Frame} {meth : Method} {c : Code} {σ0 : SG} {ρ0 : RG} {r : Int32} (C : Cx Y D N ad p s m args meth c cX11_undo 1 (some .int) RX11 wsL_law) {σ : SG} {ρ : RG} {H : Heap} {locs : List Loc} {ls : Array Slot} (hσ0 : σ = σ0) (hρ0 : ρ = ρ0) (hL : Lay N K len ρ) (hF : F_X11_undo σ ρ = some r) (hP : WP Y D N ad K len σ ρ H) (hS : va_S (AA N ad s.heap.size) s.heap H locs) (hl : lv_has ls 1 [(0, .ref (ad 0))]) : W p l e rm_X11_undo s m args below meth c H locs 0 0 (MQ below (QW Y D N ad K len σ0 ρ0 (AA N ad s.heap.size) (some (.int r))) args s 0 0 (AA N ad s.heap.size)) (F0 m 0 ls []) := by
  have hx := C.1.1
  have hb := C.1.2.1
  unfold F_X11_undo at hF
  refine lv_aload_n hx hb dX11_undo_0 rfl (lv_at hl 0 rfl) ?_
  refine get_11_2 C hP (lr_0 hL) (lk_0 hL) inlX11 mw_1154 dX11_undo_1 ?_
  refine lv_if_ne (tgt := 10) hx hb dX11_undo_4 (by decide) (fun c_1 => ?_) (fun c_1 => ?_) -- COND 1 rcases (Decidable.em ((σ 0 2) = 0)).symm with c_1 | c_1
  · have hF := ite_f hF c_1
    refine lv_aload_n hx hb dX11_undo_10 rfl (lv_at hl 0 rfl) ?_
    refine get_11_0 C hP (lr_0 hL) (lk_0 hL) inlX11 mw_15 (lf_0_0 hL) dX11_undo_11 ?_
    refine lv_aload_n hx hb dX11_undo_14 rfl (lv_at hl 0 rfl) ?_
    refine get_11_1 C hP (lr_0 hL) (lk_0 hL) inlX11 mw_16 (lf_0_1 hL) dX11_undo_15 ?_
    cases hF
  · have hF := ite_t hF c_1
    refine lv_bipush (v := -3) hx hb dX11_undo_7 (by decide +kernel) ?_
    obtain rfl := ret_1 hF
    subst hσ0
    subst hρ0
    exact x_iret rfl C hP hS dX11_undo_9
set_option maxHeartbeats 4000000 in
set_option maxRecDepth 100000 in
theorem c_X11_undo  {r : Int32} {σ : SG} {ρ : RG} (hL : Lay N K len ρ) (hF : F_X11_undo σ ρ = some r) : MT l Y D N ad K len yX11_undo (Cond.code yX11_undo cX11_undo 1 (some .int) :: wsL_law) rm_X11_undo [.ref (ad 0)] σ ρ (some (.int r)) σ ρ := by
  refine mt_of (cc := cX11_undo) (nL := 1) (ret := (some .int)) (by decide) (Nat.le_of_ble_eq_true rfl) ?_
  intro p e s m args below meth c ls C hnm hP hS hl
  exact w_X11_undo_0 C rfl rfl hL hF hP hS hl
end GEN
