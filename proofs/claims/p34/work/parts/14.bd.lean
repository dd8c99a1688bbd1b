/-! PART 14.bd: printed by wip/gen -/
section GEN
variable {l : Launch} {Y : YT} {D : va_G} {N : Nat} {ad K len : Nat → Nat}
variable {fR lR : Nat}
/-! CutCrooked$Board.private static boolean isTrue(int, int[]);  -/
theorem dX0_isTrue_0 : decode cX0_isTrue 0 = .ok (.aload_n 1, 1) := by decide +kernel
theorem dX0_isTrue_1 : decode cX0_isTrue 1 = .ok (.iload_n 0, 1) := by decide +kernel
theorem dX0_isTrue_2 : decode cX0_isTrue 2 = .ok (.sipush 300, 3) := by decide +kernel
theorem dX0_isTrue_5 : decode cX0_isTrue 5 = .ok (.idiv, 1) := by decide +kernel
theorem dX0_isTrue_6 : decode cX0_isTrue 6 = .ok (.invokestatic 52, 3) := by decide +kernel
theorem dX0_isTrue_9 : decode cX0_isTrue 9 = .ok (.istore_n 2, 1) := by decide +kernel
theorem dX0_isTrue_10 : decode cX0_isTrue 10 = .ok (.iload_n 0, 1) := by decide +kernel
theorem dX0_isTrue_11 : decode cX0_isTrue 11 = .ok (.bipush 100, 2) := by decide +kernel
theorem dX0_isTrue_13 : decode cX0_isTrue 13 = .ok (.irem, 1) := by decide +kernel
theorem dX0_isTrue_14 : decode cX0_isTrue 14 = .ok (.istore_n 3, 1) := by decide +kernel
theorem dX0_isTrue_15 : decode cX0_isTrue 15 = .ok (.iload_n 0, 1) := by decide +kernel
theorem dX0_isTrue_16 : decode cX0_isTrue 16 = .ok (.bipush 100, 2) := by decide +kernel
theorem dX0_isTrue_18 : decode cX0_isTrue 18 = .ok (.idiv, 1) := by decide +kernel
theorem dX0_isTrue_19 : decode cX0_isTrue 19 = .ok (.iconst 3, 1) := by decide +kernel
theorem dX0_isTrue_20 : decode cX0_isTrue 20 = .ok (.irem, 1) := by decide +kernel
theorem dX0_isTrue_21 : decode cX0_isTrue 21 = .ok (.lookupswitch 49 #[(0, 27), (1, 38)], 27) := by decide +kernel
theorem dX0_isTrue_48 : decode cX0_isTrue 48 = .ok (.iload_n 2, 1) := by decide +kernel
theorem dX0_isTrue_49 : decode cX0_isTrue 49 = .ok (.iload_n 3, 1) := by decide +kernel
theorem dX0_isTrue_50 : decode cX0_isTrue 50 = .ok (.if_icmp .ge 7, 3) := by decide +kernel
theorem dX0_isTrue_53 : decode cX0_isTrue 53 = .ok (.iconst 1, 1) := by decide +kernel
theorem dX0_isTrue_54 : decode cX0_isTrue 54 = .ok (.goto 4, 3) := by decide +kernel
theorem dX0_isTrue_57 : decode cX0_isTrue 57 = .ok (.iconst 0, 1) := by decide +kernel
theorem dX0_isTrue_58 : decode cX0_isTrue 58 = .ok (.ireturn, 1) := by decide +kernel
theorem dX0_isTrue_59 : decode cX0_isTrue 59 = .ok (.iload_n 2, 1) := by decide +kernel
theorem dX0_isTrue_60 : decode cX0_isTrue 60 = .ok (.iload_n 3, 1) := by decide +kernel
theorem dX0_isTrue_61 : decode cX0_isTrue 61 = .ok (.if_icmp .ne 7, 3) := by decide +kernel
theorem dX0_isTrue_64 : decode cX0_isTrue 64 = .ok (.iconst 1, 1) := by decide +kernel
theorem dX0_isTrue_65 : decode cX0_isTrue 65 = .ok (.goto 4, 3) := by decide +kernel
theorem dX0_isTrue_68 : decode cX0_isTrue 68 = .ok (.iconst 0, 1) := by decide +kernel
theorem dX0_isTrue_69 : decode cX0_isTrue 69 = .ok (.ireturn, 1) := by decide +kernel
theorem dX0_isTrue_70 : decode cX0_isTrue 70 = .ok (.iload_n 2, 1) := by decide +kernel
theorem dX0_isTrue_71 : decode cX0_isTrue 71 = .ok (.iload_n 3, 1) := by decide +kernel
theorem dX0_isTrue_72 : decode cX0_isTrue 72 = .ok (.if_icmp .le 7, 3) := by decide +kernel
theorem dX0_isTrue_75 : decode cX0_isTrue 75 = .ok (.iconst 1, 1) := by decide +kernel
theorem dX0_isTrue_76 : decode cX0_isTrue 76 = .ok (.goto 4, 3) := by decide +kernel
theorem dX0_isTrue_79 : decode cX0_isTrue 79 = .ok (.iconst 0, 1) := by decide +kernel
theorem dX0_isTrue_80 : decode cX0_isTrue 80 = .ok (.ireturn, 1) := by decide +kernel
theorem hd_X0_isTrue : yX0_isTrue.cls = RX0 ∧ yX0_isTrue.cls ≠ "java/lang/invoke/MethodHandle" ∧ yX0_isTrue.cls ≠ "java/lang/invoke/VarHandle" ∧ (parseMethodDescriptor yX0_isTrue.desc).map (fun d => d.parameters.length) = some 2 := by decide +kernel
abbrev rm_X0_isTrue : Room := { frames := 1, cells := 0, slots := 0, locals := 21 }
def F_X0_isTrue (a1 : Int32) (qa qn : Nat) (σ : SG) (ρ : RG) : Option (Int32) :=
  nm (a1 / (300 : Int32)) fun x1 =>
  bn (F_X11_valueAt qa qn x1 σ ρ) fun r2 =>
  nm (a1 - a1 / (100 : Int32) * (100 : Int32)) fun x3 =>
  nm (a1 / (100 : Int32)) fun x4 =>
  nm (x4 - x4 / (3 : Int32) * (3 : Int32)) fun x5 =>
  if x5 = 0 then
    if x3 ≤ r2 then
      some (0 : Int32)
    else
      some (1 : Int32)
  else
    if x5 = 1 then
      if r2 = x3 then
        some (1 : Int32)
      else
        some (0 : Int32)
    else
      if r2 ≤ x3 then
        some (0 : Int32)
      else
        some (1 : Int32)
set_option maxHeartbeats 4000000 in
set_option maxRecDepth 100000 in
theorem w_X0_isTrue_0 {a1 : Int32} {qa qn : Nat} {p : Program} {e : Env} {s : State} {m : MethodId} {args : Array Value} {below : List Frame} {meth : Method} {c : Code} {σ0 : SG} {ρ0 : RG} {r : Int32} (C : Cx Y D N ad p s m args meth c cX0_isTrue 4 (some .boolean) RX0 wsL_law) {σ : SG} {ρ : RG} {H : Heap} {locs : List Loc} {ls : Array Slot} (hσ0 : σ = σ0) (hρ0 : ρ = ρ0) (hL : Lay N K len ρ) (hqa : isA 14 N K len qa qn) (hF : F_X0_isTrue a1 qa qn σ ρ = some r) (hP : WP Y D N ad K len σ ρ H) (hS : va_S (AA N ad s.heap.size) s.heap H locs) (hl : lv_has ls 4 [(0, .int a1), (1, .ref (ad qa))]) : W p l e rm_X0_isTrue s m args below meth c H locs 0 0 (MQ below (QW Y D N ad K len σ0 ρ0 (AA N ad s.heap.size) (some (.int r))) args s 0 0 (AA N ad s.heap.size)) (F0 m 0 ls []) := by
  have hx := C.1.1
  have hb := C.1.2.1
  unfold F_X0_isTrue at hF
  refine lv_aload_n hx hb dX0_isTrue_0 rfl (lv_at hl 1 rfl) ?_
  refine lv_iload_n hx hb dX0_isTrue_1 rfl (lv_at hl 0 rfl) ?_
  refine lv_sipush (v := 300) hx hb dX0_isTrue_2 (by decide +kernel) ?_
  refine lv_idiv hx hb dX0_isTrue_5 (by decide) ?_
  obtain ⟨x1, ex1, hF⟩ := nm_1 hF
  refine x_top ex1 ?_
  obtain ⟨r2, hq2, hF⟩ := bn_1 hF
  refine x_callSN C hP hS (c_X11_valueAt hL ⟨hqa.1, hqa.2.1, hqa.2.2⟩ hq2) ⟨va_cnB 2 C.1.2.2.2.2 (gdI mw_558) rfl rfl rfl (x_nest (own := "CutCrooked$Board") (idx := 52) (y := yX11_valueAt) (host := "CutCrooked") C (by decide +kernel)) (C.1.2.2.2.2 _ mw_2) hd_X11_valueAt.2 ⟨Nat.le_of_ble_eq_true rfl, Nat.le_of_ble_eq_true rfl⟩, (C.1.2.2.2.2 _ mw_557), trivial⟩ rfl rfl hl.1 (Nat.le_of_ble_eq_true rfl) ⟨Nat.zero_le _, Nat.zero_le _⟩ dX0_isTrue_6 (fun H locs hP hS => ?_)
  refine lv_istore_n (lv' := [(2, .int r2), (0, .int a1), (1, .ref (ad qa))]) hx hb dX0_isTrue_9 rfl hl (by decide) rfl (fun ls hl => ?_)
  refine lv_iload_n hx hb dX0_isTrue_10 rfl (lv_at hl 1 rfl) ?_
  refine lv_bipush (v := 100) hx hb dX0_isTrue_11 (by decide +kernel) ?_
  refine lv_irem hx hb dX0_isTrue_13 (by decide) ?_
  obtain ⟨x3, ex3, hF⟩ := nm_1 hF
  refine x_top ex3 ?_
  refine lv_istore_n (lv' := [(3, .int x3), (2, .int r2), (0, .int a1), (1, .ref (ad qa))]) hx hb dX0_isTrue_14 rfl hl (by decide) rfl (fun ls hl => ?_)
  refine lv_iload_n hx hb dX0_isTrue_15 rfl (lv_at hl 2 rfl) ?_
  refine lv_bipush (v := 100) hx hb dX0_isTrue_16 (by decide +kernel) ?_
  refine lv_idiv hx hb dX0_isTrue_18 (by decide) ?_
  obtain ⟨x4, ex4, hF⟩ := nm_1 hF
  refine x_top ex4 ?_
  refine lv_iconst (v := 3) hx hb dX0_isTrue_19 (by decide) ?_
  refine lv_irem hx hb dX0_isTrue_20 (by decide) ?_
  obtain ⟨x5, ex5, hF⟩ := nm_1 hF
  refine x_top ex5 ?_
  by_cases cs6_0 : x5 = 0
  · have hF := ite_t hF cs6_0
    refine lv_lookup (tgt := 48) (off := 27) hx hb dX0_isTrue_21 (by decide) (by rw [cs6_0]; decide) (by decide) ?_
    refine lv_iload_n hx hb dX0_isTrue_48 rfl (lv_at hl 1 rfl) ?_
    refine lv_iload_n hx hb dX0_isTrue_49 rfl (lv_at hl 0 rfl) ?_
    refine lv_icmp_ge (tgt := 57) hx hb dX0_isTrue_50 (by decide) (fun c_7 => ?_) (fun c_7 => ?_) -- COND 7 by_cases c_7 : x3 ≤ r2
    · have hF := ite_t hF c_7
      refine lv_iconst (v := 0) hx hb dX0_isTrue_57 (by decide) ?_
      obtain rfl := ret_1 hF
      subst hσ0
      subst hρ0
      exact x_zret rfl rfl C hP hS dX0_isTrue_58
    · have hF := ite_f hF c_7
      refine lv_iconst (v := 1) hx hb dX0_isTrue_53 (by decide) ?_
      refine lv_goto (tgt := 58) hx hb dX0_isTrue_54 (by decide) ?_
      obtain rfl := ret_1 hF
      subst hσ0
      subst hρ0
      exact x_zret rfl rfl C hP hS dX0_isTrue_58
  · have hF := ite_f hF cs6_0
    by_cases cs6_1 : x5 = 1
    · have hF := ite_t hF cs6_1
      refine lv_lookup (tgt := 59) (off := 38) hx hb dX0_isTrue_21 (by decide) (by rw [cs6_1]; decide) (by decide) ?_
      refine lv_iload_n hx hb dX0_isTrue_59 rfl (lv_at hl 1 rfl) ?_
      refine lv_iload_n hx hb dX0_isTrue_60 rfl (lv_at hl 0 rfl) ?_
      refine lv_icmp_ne (tgt := 68) hx hb dX0_isTrue_61 (by decide) (fun c_8 => ?_) (fun c_8 => ?_) -- COND 8 rcases (Decidable.em (r2 = x3)).symm with c_8 | c_8
      · have hF := ite_f hF c_8
        refine lv_iconst (v := 0) hx hb dX0_isTrue_68 (by decide) ?_
        obtain rfl := ret_1 hF
        subst hσ0
        subst hρ0
        exact x_zret rfl rfl C hP hS dX0_isTrue_69
      · have hF := ite_t hF c_8
        refine lv_iconst (v := 1) hx hb dX0_isTrue_64 (by decide) ?_
        refine lv_goto (tgt := 69) hx hb dX0_isTrue_65 (by decide) ?_
        obtain rfl := ret_1 hF
        subst hσ0
        subst hρ0
        exact x_zret rfl rfl C hP hS dX0_isTrue_69
    · have hF := ite_f hF cs6_1
      refine lv_lookup (tgt := 70) (off := 49) hx hb dX0_isTrue_21 (by decide) (by have q0 := ne_ti cs6_0 (by decide : (0 : Int32).toInt = 0); have q1 := ne_ti cs6_1 (by decide : (1 : Int32).toInt = 1); show (if (0 : Int) = x5.toInt then (27 : Int) else if (1 : Int) = x5.toInt then (38 : Int) else (49 : Int)) = _; rw [if_neg (Ne.symm q0), if_neg (Ne.symm q1)]) (by decide) ?_
      refine lv_iload_n hx hb dX0_isTrue_70 rfl (lv_at hl 1 rfl) ?_
      refine lv_iload_n hx hb dX0_isTrue_71 rfl (lv_at hl 0 rfl) ?_
      refine lv_icmp_le (tgt := 79) hx hb dX0_isTrue_72 (by decide) (fun c_9 => ?_) (fun c_9 => ?_) -- COND 9 by_cases c_9 : r2 ≤ x3
      · have hF := ite_t hF c_9
        refine lv_iconst (v := 0) hx hb dX0_isTrue_79 (by decide) ?_
        obtain rfl := ret_1 hF
        subst hσ0
        subst hρ0
        exact x_zret rfl rfl C hP hS dX0_isTrue_80
      · have hF := ite_f hF c_9
        refine lv_iconst (v := 1) hx hb dX0_isTrue_75 (by decide) ?_
        refine lv_goto (tgt := 80) hx hb dX0_isTrue_76 (by decide) ?_
        obtain rfl := ret_1 hF
        subst hσ0
        subst hρ0
        exact x_zret rfl rfl C hP hS dX0_isTrue_80
set_option maxHeartbeats 4000000 in
set_option maxRecDepth 100000 in
theorem c_X0_isTrue {a1 : Int32} {qa qn : Nat} {r : Int32} {σ : SG} {ρ : RG} (hL : Lay N K len ρ) (hqa : isA 14 N K len qa qn) (hF : F_X0_isTrue a1 qa qn σ ρ = some r) : MT l Y D N ad K len yX0_isTrue (Cond.code yX0_isTrue cX0_isTrue 4 (some .boolean) :: wsL_law) rm_X0_isTrue [.int a1, .ref (ad qa)] σ ρ (some (.int r)) σ ρ := by
  refine mt_of (cc := cX0_isTrue) (nL := 4) (ret := (some .boolean)) (by decide) (Nat.le_of_ble_eq_true rfl) ?_
  intro p e s m args below meth c ls C hnm hP hS hl
  exact w_X0_isTrue_0 C rfl rfl hL hqa hF hP hS hl

/-! CutCrooked$Board.private boolean holds(int, int, int[]);  -/
theorem dX0_holds_0 : decode cX0_holds 0 = .ok (.iconst 0, 1) := by decide +kernel
theorem dX0_holds_1 : decode cX0_holds 1 = .ok (.istore 4, 2) := by decide +kernel
theorem dX0_holds_3 : decode cX0_holds 3 = .ok (.iload_n 1, 1) := by decide +kernel
theorem dX0_holds_4 : decode cX0_holds 4 = .ok (.istore 5, 2) := by decide +kernel
theorem dX0_holds_6 : decode cX0_holds 6 = .ok (.iload 5, 2) := by decide +kernel
theorem dX0_holds_8 : decode cX0_holds 8 = .ok (.ifCond .lt 135, 3) := by decide +kernel
theorem dX0_holds_11 : decode cX0_holds 11 = .ok (.iload 5, 2) := by decide +kernel
theorem dX0_holds_13 : decode cX0_holds 13 = .ok (.iload_n 2, 1) := by decide +kernel
theorem dX0_holds_14 : decode cX0_holds 14 = .ok (.if_icmp .ge 129, 3) := by decide +kernel
theorem dX0_holds_17 : decode cX0_holds 17 = .ok (.iload 5, 2) := by decide +kernel
theorem dX0_holds_19 : decode cX0_holds 19 = .ok (.aload_n 0, 1) := by decide +kernel
theorem dX0_holds_20 : decode cX0_holds 20 = .ok (.getfield 29, 3) := by decide +kernel
theorem dX0_holds_23 : decode cX0_holds 23 = .ok (.arraylength, 1) := by decide +kernel
theorem dX0_holds_24 : decode cX0_holds 24 = .ok (.if_icmp .ge 119, 3) := by decide +kernel
theorem dX0_holds_27 : decode cX0_holds 27 = .ok (.iload 4, 2) := by decide +kernel
theorem dX0_holds_29 : decode cX0_holds 29 = .ok (.iconst 1, 1) := by decide +kernel
theorem dX0_holds_30 : decode cX0_holds 30 = .ok (.ishr, 1) := by decide +kernel
theorem dX0_holds_31 : decode cX0_holds 31 = .ok (.istore 6, 2) := by decide +kernel
theorem dX0_holds_33 : decode cX0_holds 33 = .ok (.aload_n 0, 1) := by decide +kernel
theorem dX0_holds_34 : decode cX0_holds 34 = .ok (.getfield 29, 3) := by decide +kernel
theorem dX0_holds_37 : decode cX0_holds 37 = .ok (.iload 5, 2) := by decide +kernel
theorem dX0_holds_39 : decode cX0_holds 39 = .ok (.iaload, 1) := by decide +kernel
theorem dX0_holds_40 : decode cX0_holds 40 = .ok (.iconst (-1), 1) := by decide +kernel
theorem dX0_holds_41 : decode cX0_holds 41 = .ok (.if_icmp .ne 12, 3) := by decide +kernel
theorem dX0_holds_44 : decode cX0_holds 44 = .ok (.iload 4, 2) := by decide +kernel
theorem dX0_holds_46 : decode cX0_holds 46 = .ok (.iconst 1, 1) := by decide +kernel
theorem dX0_holds_47 : decode cX0_holds 47 = .ok (.ixor, 1) := by decide +kernel
theorem dX0_holds_48 : decode cX0_holds 48 = .ok (.istore 4, 2) := by decide +kernel
theorem dX0_holds_50 : decode cX0_holds 50 = .ok (.goto 87, 3) := by decide +kernel
theorem dX0_holds_53 : decode cX0_holds 53 = .ok (.aload_n 0, 1) := by decide +kernel
theorem dX0_holds_54 : decode cX0_holds 54 = .ok (.getfield 29, 3) := by decide +kernel
theorem dX0_holds_57 : decode cX0_holds 57 = .ok (.iload 5, 2) := by decide +kernel
theorem dX0_holds_59 : decode cX0_holds 59 = .ok (.iaload, 1) := by decide +kernel
theorem dX0_holds_60 : decode cX0_holds 60 = .ok (.bipush (-2), 2) := by decide +kernel
theorem dX0_holds_62 : decode cX0_holds 62 = .ok (.if_icmp .ne 25, 3) := by decide +kernel
theorem dX0_holds_65 : decode cX0_holds 65 = .ok (.iload 4, 2) := by decide +kernel
theorem dX0_holds_67 : decode cX0_holds 67 = .ok (.iconst 1, 1) := by decide +kernel
theorem dX0_holds_68 : decode cX0_holds 68 = .ok (.iand, 1) := by decide +kernel
theorem dX0_holds_69 : decode cX0_holds 69 = .ok (.ifCond .ne 11, 3) := by decide +kernel
theorem dX0_holds_72 : decode cX0_holds 72 = .ok (.iload 6, 2) := by decide +kernel
theorem dX0_holds_74 : decode cX0_holds 74 = .ok (.bipush (-2), 2) := by decide +kernel
theorem dX0_holds_76 : decode cX0_holds 76 = .ok (.iand, 1) := by decide +kernel
theorem dX0_holds_77 : decode cX0_holds 77 = .ok (.goto 5, 3) := by decide +kernel
theorem dX0_holds_80 : decode cX0_holds 80 = .ok (.iload 6, 2) := by decide +kernel
theorem dX0_holds_82 : decode cX0_holds 82 = .ok (.istore 4, 2) := by decide +kernel
theorem dX0_holds_84 : decode cX0_holds 84 = .ok (.goto 53, 3) := by decide +kernel
theorem dX0_holds_87 : decode cX0_holds 87 = .ok (.aload_n 0, 1) := by decide +kernel
theorem dX0_holds_88 : decode cX0_holds 88 = .ok (.getfield 29, 3) := by decide +kernel
theorem dX0_holds_91 : decode cX0_holds 91 = .ok (.iload 5, 2) := by decide +kernel
theorem dX0_holds_93 : decode cX0_holds 93 = .ok (.iaload, 1) := by decide +kernel
theorem dX0_holds_94 : decode cX0_holds 94 = .ok (.bipush (-3), 2) := by decide +kernel
theorem dX0_holds_96 : decode cX0_holds 96 = .ok (.if_icmp .ne 15, 3) := by decide +kernel
theorem dX0_holds_99 : decode cX0_holds 99 = .ok (.iload 6, 2) := by decide +kernel
theorem dX0_holds_101 : decode cX0_holds 101 = .ok (.iload 4, 2) := by decide +kernel
theorem dX0_holds_103 : decode cX0_holds 103 = .ok (.iconst 1, 1) := by decide +kernel
theorem dX0_holds_104 : decode cX0_holds 104 = .ok (.iand, 1) := by decide +kernel
theorem dX0_holds_105 : decode cX0_holds 105 = .ok (.ior, 1) := by decide +kernel
theorem dX0_holds_106 : decode cX0_holds 106 = .ok (.istore 4, 2) := by decide +kernel
theorem dX0_holds_108 : decode cX0_holds 108 = .ok (.goto 29, 3) := by decide +kernel
theorem dX0_holds_111 : decode cX0_holds 111 = .ok (.iload 4, 2) := by decide +kernel
theorem dX0_holds_113 : decode cX0_holds 113 = .ok (.iconst 1, 1) := by decide +kernel
theorem dX0_holds_114 : decode cX0_holds 114 = .ok (.ishl, 1) := by decide +kernel
theorem dX0_holds_115 : decode cX0_holds 115 = .ok (.aload_n 0, 1) := by decide +kernel
theorem dX0_holds_116 : decode cX0_holds 116 = .ok (.getfield 29, 3) := by decide +kernel
theorem dX0_holds_119 : decode cX0_holds 119 = .ok (.iload 5, 2) := by decide +kernel
theorem dX0_holds_121 : decode cX0_holds 121 = .ok (.iaload, 1) := by decide +kernel
theorem dX0_holds_122 : decode cX0_holds 122 = .ok (.aload_n 3, 1) := by decide +kernel
theorem dX0_holds_123 : decode cX0_holds 123 = .ok (.invokestatic 48, 3) := by decide +kernel
theorem dX0_holds_126 : decode cX0_holds 126 = .ok (.ifCond .eq 7, 3) := by decide +kernel
theorem dX0_holds_129 : decode cX0_holds 129 = .ok (.iconst 1, 1) := by decide +kernel
theorem dX0_holds_130 : decode cX0_holds 130 = .ok (.goto 4, 3) := by decide +kernel
theorem dX0_holds_133 : decode cX0_holds 133 = .ok (.iconst 0, 1) := by decide +kernel
theorem dX0_holds_134 : decode cX0_holds 134 = .ok (.ior, 1) := by decide +kernel
theorem dX0_holds_135 : decode cX0_holds 135 = .ok (.istore 4, 2) := by decide +kernel
theorem dX0_holds_137 : decode cX0_holds 137 = .ok (.iinc 5 1, 3) := by decide +kernel
theorem dX0_holds_140 : decode cX0_holds 140 = .ok (.goto (-134), 3) := by decide +kernel
theorem dX0_holds_143 : decode cX0_holds 143 = .ok (.iload 4, 2) := by decide +kernel
theorem dX0_holds_145 : decode cX0_holds 145 = .ok (.iconst 1, 1) := by decide +kernel
theorem dX0_holds_146 : decode cX0_holds 146 = .ok (.iand, 1) := by decide +kernel
theorem dX0_holds_147 : decode cX0_holds 147 = .ok (.ifCond .eq 7, 3) := by decide +kernel
theorem dX0_holds_150 : decode cX0_holds 150 = .ok (.iconst 1, 1) := by decide +kernel
theorem dX0_holds_151 : decode cX0_holds 151 = .ok (.goto 4, 3) := by decide +kernel
theorem dX0_holds_154 : decode cX0_holds 154 = .ok (.iconst 0, 1) := by decide +kernel
theorem dX0_holds_155 : decode cX0_holds 155 = .ok (.ireturn, 1) := by decide +kernel
theorem hd_X0_holds : yX0_holds.cls = RX0 ∧ yX0_holds.cls ≠ "java/lang/invoke/MethodHandle" ∧ yX0_holds.cls ≠ "java/lang/invoke/VarHandle" ∧ (parseMethodDescriptor yX0_holds.desc).map (fun d => d.parameters.length) = some 3 := by decide +kernel
abbrev rm_X0_holds : Room := { frames := 2, cells := 0, slots := 0, locals := 44 }
def F_X0_holds_143 (a1 : Int32) (a2 : Int32) (qa qn : Nat) (σ : SG) (ρ : RG) (v4 : Int32) : Option (Int32) :=
  nm (v4 &&& (1 : Int32)) fun x2 =>
  if x2 = 0 then
    some (0 : Int32)
  else
    some (1 : Int32)
def F_X0_holds_137 (a1 : Int32) (a2 : Int32) (qa qn : Nat) (rec_6 : SG → RG → Int32 → Int32 → Int32 → Option (Int32)) (σ : SG) (ρ : RG) (v2 : Int32) (v4 : Int32) (v5 : Int32) : Option (Int32) :=
  nm (v5 + (1 : Int32)) fun x18 =>
  rec_6 σ ρ v2 v4 x18
def F_X0_holds_134 (a1 : Int32) (a2 : Int32) (qa qn : Nat) (rec_6 : SG → RG → Int32 → Int32 → Int32 → Option (Int32)) (σ : SG) (ρ : RG) (v2 : Int32) (v5 : Int32) (k0 : Int32) (k1 : Int32) : Option (Int32) :=
  nm (k0 ||| k1) fun x17 =>
  F_X0_holds_137 a1 a2 qa qn rec_6 σ ρ v2 x17 v5
def F_X0_holds_82 (a1 : Int32) (a2 : Int32) (qa qn : Nat) (rec_6 : SG → RG → Int32 → Int32 → Int32 → Option (Int32)) (σ : SG) (ρ : RG) (v2 : Int32) (v5 : Int32) (k0 : Int32) : Option (Int32) :=
  F_X0_holds_137 a1 a2 qa qn rec_6 σ ρ v2 k0 v5
def F_X0_holds_6 (a1 : Int32) (a2 : Int32) (qa qn : Nat) : Nat → SG → RG → Int32 → Int32 → Int32 → Option (Int32)
  | 0 => fun _ _ _ _ _ => none
  | n + 1 => fun σ ρ v2 v4 v5 =>
  if v5 < 0 then
    F_X0_holds_143 a1 a2 qa qn σ ρ v4
  else
    if v2 ≤ v5 then
      F_X0_holds_143 a1 a2 qa qn σ ρ v4
    else
      if (100 : Int32) ≤ v5 then
        F_X0_holds_143 a1 a2 qa qn σ ρ v4
      else
        nm (v4 >>> ((1 : Int32) &&& 31)) fun x6 =>
        gd (inb v5 100) <|
        if (σ 9 (v5).toNatClampNeg) = (-1 : Int32) then
          nm (v4 ^^^ (1 : Int32)) fun x24 =>
          F_X0_holds_137 a1 a2 qa qn (F_X0_holds_6 a1 a2 qa qn n) σ ρ v2 x24 v5
        else
          gd (inb v5 100) <|
          if (σ 9 (v5).toNatClampNeg) = (-2 : Int32) then
            nm (v4 &&& (1 : Int32)) fun x21 =>
            if x21 = 0 then
              nm (x6 &&& (-2 : Int32)) fun x23 =>
              F_X0_holds_82 a1 a2 qa qn (F_X0_holds_6 a1 a2 qa qn n) σ ρ v2 v5 x23
            else
              F_X0_holds_82 a1 a2 qa qn (F_X0_holds_6 a1 a2 qa qn n) σ ρ v2 v5 x6
          else
            gd (inb v5 100) <|
            if (σ 9 (v5).toNatClampNeg) = (-3 : Int32) then
              nm (v4 &&& (1 : Int32)) fun x19 =>
              nm (x6 ||| x19) fun x20 =>
              F_X0_holds_137 a1 a2 qa qn (F_X0_holds_6 a1 a2 qa qn n) σ ρ v2 x20 v5
            else
              nm (v4 <<< ((1 : Int32) &&& 31)) fun x13 =>
              gd (inb v5 100) <|
              bn (F_X0_isTrue (σ 9 (v5).toNatClampNeg) qa qn σ ρ) fun r15 =>
              if r15 = 0 then
                F_X0_holds_134 a1 a2 qa qn (F_X0_holds_6 a1 a2 qa qn n) σ ρ v2 v5 x13 (0 : Int32)
              else
                F_X0_holds_134 a1 a2 qa qn (F_X0_holds_6 a1 a2 qa qn n) σ ρ v2 v5 x13 (1 : Int32)
def F_X0_holds (a1 : Int32) (a2 : Int32) (qa qn : Nat) (σ : SG) (ρ : RG) : Option (Int32) :=
  F_X0_holds_6 a1 a2 qa qn 1024 σ ρ a2 (0 : Int32) a1
set_option maxHeartbeats 4000000 in
set_option maxRecDepth 100000 in
theorem w_X0_holds_143 {a1 : Int32} {a2 : Int32} {qa qn : Nat} {p : Program} {e : Env} {s : State} {m : MethodId} {args : Array Value} {below : List Frame} {meth : Method} {c : Code} {σ0 : SG} {ρ0 : RG} {r : Int32} (C : Cx Y D N ad p s m args meth c cX0_holds 7 (some .boolean) RX0 wsL_law) {σ : SG} {ρ : RG} {v4 : Int32} {H : Heap} {locs : List Loc} {ls : Array Slot} (hσ0 : σ = σ0) (hρ0 : ρ = ρ0) (hL : Lay N K len ρ) (hqa : isA 14 N K len qa qn) (hF : F_X0_holds_143 a1 a2 qa qn σ ρ v4 = some r) (hP : WP Y D N ad K len σ ρ H) (hS : va_S (AA N ad s.heap.size) s.heap H locs) (hl : lv_has ls 7 [(4, .int v4)]) : W p l e rm_X0_holds s m args below meth c H locs 0 0 (MQ below (QW Y D N ad K len σ0 ρ0 (AA N ad s.heap.size) (some (.int r))) args s 0 0 (AA N ad s.heap.size)) (F0 m 143 ls []) := by
  have hx := C.1.1
  have hb := C.1.2.1
  unfold F_X0_holds_143 at hF
  refine lv_iload hx hb dX0_holds_143 (lv_at hl 0 rfl) ?_
  refine lv_iconst (v := 1) hx hb dX0_holds_145 (by decide) ?_
  refine lv_iand hx hb dX0_holds_146 ?_
  obtain ⟨x2, ex2, hF⟩ := nm_1 hF
  refine x_top ex2 ?_
  refine lv_if_eq (tgt := 154) hx hb dX0_holds_147 (by decide) (fun c_3 => ?_) (fun c_3 => ?_) -- COND 3 by_cases c_3 : x2 = 0
  · have hF := ite_t hF c_3
    refine lv_iconst (v := 0) hx hb dX0_holds_154 (by decide) ?_
    obtain rfl := ret_1 hF
    subst hσ0
    subst hρ0
    exact x_zret rfl rfl C hP hS dX0_holds_155
  · have hF := ite_f hF c_3
    refine lv_iconst (v := 1) hx hb dX0_holds_150 (by decide) ?_
    refine lv_goto (tgt := 155) hx hb dX0_holds_151 (by decide) ?_
    obtain rfl := ret_1 hF
    subst hσ0
    subst hρ0
    exact x_zret rfl rfl C hP hS dX0_holds_155
set_option maxHeartbeats 4000000 in
set_option maxRecDepth 100000 in
theorem w_X0_holds_137 {a1 : Int32} {a2 : Int32} {qa qn : Nat} {rec_6 : SG → RG → Int32 → Int32 → Int32 → Option (Int32)} {p : Program} {e : Env} {s : State} {m : MethodId} {args : Array Value} {below : List Frame} {meth : Method} {c : Code} {σ0 : SG} {ρ0 : RG} {r : Int32} (C : Cx Y D N ad p s m args meth c cX0_holds 7 (some .boolean) RX0 wsL_law) (hrec_6 : ∀ (σ : SG) (ρ : RG) (v2 : Int32) (v4 : Int32) (v5 : Int32) (H : Heap) (locs : List Loc) (ls : Array Slot), σ = σ0 → ρ = ρ0 → Lay N K len ρ → isA 14 N K len qa qn → rec_6 σ ρ v2 v4 v5 = some r → WP Y D N ad K len σ ρ H → va_S (AA N ad s.heap.size) s.heap H locs → lv_has ls 7 [(0, .ref (ad 5)), (2, .int v2), (3, .ref (ad qa)), (4, .int v4), (5, .int v5)] → W p l e rm_X0_holds s m args below meth c H locs 0 0 (MQ below (QW Y D N ad K len σ0 ρ0 (AA N ad s.heap.size) (some (.int r))) args s 0 0 (AA N ad s.heap.size)) (F0 m 6 ls [])) {σ : SG} {ρ : RG} {v2 : Int32} {v4 : Int32} {v5 : Int32} {H : Heap} {locs : List Loc} {ls : Array Slot} (hσ0 : σ = σ0) (hρ0 : ρ = ρ0) (hL : Lay N K len ρ) (hqa : isA 14 N K len qa qn) (hF : F_X0_holds_137 a1 a2 qa qn rec_6 σ ρ v2 v4 v5 = some r) (hP : WP Y D N ad K len σ ρ H) (hS : va_S (AA N ad s.heap.size) s.heap H locs) (hl : lv_has ls 7 [(0, .ref (ad 5)), (2, .int v2), (3, .ref (ad qa)), (4, .int v4), (5, .int v5)]) : W p l e rm_X0_holds s m args below meth c H locs 0 0 (MQ below (QW Y D N ad K len σ0 ρ0 (AA N ad s.heap.size) (some (.int r))) args s 0 0 (AA N ad s.heap.size)) (F0 m 137 ls []) := by
  have hx := C.1.1
  have hb := C.1.2.1
  unfold F_X0_holds_137 at hF
  obtain ⟨x18, ex18, hF⟩ := nm_1 hF
  refine lv_iinc (v := x18) (lv' := [(5, .int x18), (0, .ref (ad 5)), (2, .int v2), (3, .ref (ad qa)), (4, .int v4)]) hx hb dX0_holds_137 hl (k := 4) rfl (by rw [ex18]; first | rfl | decide) (by decide) rfl (fun ls hl => ?_)
  refine lv_goto (tgt := 6) hx hb dX0_holds_140 (by decide) ?_
  exact hrec_6 _ _ _ _ _ _ _ _ hσ0 hρ0 hL hqa hF hP hS (lv_sub hl [1, 2, 3, 4, 0] rfl)
set_option maxHeartbeats 4000000 in
set_option maxRecDepth 100000 in
theorem w_X0_holds_134 {a1 : Int32} {a2 : Int32} {qa qn : Nat} {rec_6 : SG → RG → Int32 → Int32 → Int32 → Option (Int32)} {p : Program} {e : Env} {s : State} {m : MethodId} {args : Array Value} {below : List Frame} {meth : Method} {c : Code} {σ0 : SG} {ρ0 : RG} {r : Int32} (C : Cx Y D N ad p s m args meth c cX0_holds 7 (some .boolean) RX0 wsL_law) (hrec_6 : ∀ (σ : SG) (ρ : RG) (v2 : Int32) (v4 : Int32) (v5 : Int32) (H : Heap) (locs : List Loc) (ls : Array Slot), σ = σ0 → ρ = ρ0 → Lay N K len ρ → isA 14 N K len qa qn → rec_6 σ ρ v2 v4 v5 = some r → WP Y D N ad K len σ ρ H → va_S (AA N ad s.heap.size) s.heap H locs → lv_has ls 7 [(0, .ref (ad 5)), (2, .int v2), (3, .ref (ad qa)), (4, .int v4), (5, .int v5)] → W p l e rm_X0_holds s m args below meth c H locs 0 0 (MQ below (QW Y D N ad K len σ0 ρ0 (AA N ad s.heap.size) (some (.int r))) args s 0 0 (AA N ad s.heap.size)) (F0 m 6 ls [])) {σ : SG} {ρ : RG} {v2 : Int32} {v5 : Int32} {k0 : Int32} {k1 : Int32} {H : Heap} {locs : List Loc} {ls : Array Slot} (hσ0 : σ = σ0) (hρ0 : ρ = ρ0) (hL : Lay N K len ρ) (hqa : isA 14 N K len qa qn) (hF : F_X0_holds_134 a1 a2 qa qn rec_6 σ ρ v2 v5 k0 k1 = some r) (hP : WP Y D N ad K len σ ρ H) (hS : va_S (AA N ad s.heap.size) s.heap H locs) (hl : lv_has ls 7 [(0, .ref (ad 5)), (2, .int v2), (3, .ref (ad qa)), (5, .int v5)]) : W p l e rm_X0_holds s m args below meth c H locs 0 0 (MQ below (QW Y D N ad K len σ0 ρ0 (AA N ad s.heap.size) (some (.int r))) args s 0 0 (AA N ad s.heap.size)) (F0 m 134 ls [.int k1, .int k0]) := by
  have hx := C.1.1
  have hb := C.1.2.1
  unfold F_X0_holds_134 at hF
  refine lv_ior hx hb dX0_holds_134 ?_
  obtain ⟨x17, ex17, hF⟩ := nm_1 hF
  refine x_top ex17 ?_
  refine lv_istore (lv' := [(4, .int x17), (0, .ref (ad 5)), (2, .int v2), (3, .ref (ad qa)), (5, .int v5)]) hx hb dX0_holds_135 hl (by decide) rfl (fun ls hl => ?_)
  exact w_X0_holds_137 C hrec_6 hσ0 hρ0 hL hqa hF hP hS (lv_sub hl [1, 2, 3, 0, 4] rfl)
set_option maxHeartbeats 4000000 in
set_option maxRecDepth 100000 in
theorem w_X0_holds_82 {a1 : Int32} {a2 : Int32} {qa qn : Nat} {rec_6 : SG → RG → Int32 → Int32 → Int32 → Option (Int32)} {p : Program} {e : Env} {s : State} {m : MethodId} {args : Array Value} {below : List Frame} {meth : Method} {c : Code} {σ0 : SG} {ρ0 : RG} {r : Int32} (C : Cx Y D N ad p s m args meth c cX0_holds 7 (some .boolean) RX0 wsL_law) (hrec_6 : ∀ (σ : SG) (ρ : RG) (v2 : Int32) (v4 : Int32) (v5 : Int32) (H : Heap) (locs : List Loc) (ls : Array Slot), σ = σ0 → ρ = ρ0 → Lay N K len ρ → isA 14 N K len qa qn → rec_6 σ ρ v2 v4 v5 = some r → WP Y D N ad K len σ ρ H → va_S (AA N ad s.heap.size) s.heap H locs → lv_has ls 7 [(0, .ref (ad 5)), (2, .int v2), (3, .ref (ad qa)), (4, .int v4), (5, .int v5)] → W p l e rm_X0_holds s m args below meth c H locs 0 0 (MQ below (QW Y D N ad K len σ0 ρ0 (AA N ad s.heap.size) (some (.int r))) args s 0 0 (AA N ad s.heap.size)) (F0 m 6 ls [])) {σ : SG} {ρ : RG} {v2 : Int32} {v5 : Int32} {k0 : Int32} {H : Heap} {locs : List Loc} {ls : Array Slot} (hσ0 : σ = σ0) (hρ0 : ρ = ρ0) (hL : Lay N K len ρ) (hqa : isA 14 N K len qa qn) (hF : F_X0_holds_82 a1 a2 qa qn rec_6 σ ρ v2 v5 k0 = some r) (hP : WP Y D N ad K len σ ρ H) (hS : va_S (AA N ad s.heap.size) s.heap H locs) (hl : lv_has ls 7 [(0, .ref (ad 5)), (2, .int v2), (3, .ref (ad qa)), (5, .int v5)]) : W p l e rm_X0_holds s m args below meth c H locs 0 0 (MQ below (QW Y D N ad K len σ0 ρ0 (AA N ad s.heap.size) (some (.int r))) args s 0 0 (AA N ad s.heap.size)) (F0 m 82 ls [.int k0]) := by
  have hx := C.1.1
  have hb := C.1.2.1
  unfold F_X0_holds_82 at hF
  refine lv_istore (lv' := [(4, .int k0), (0, .ref (ad 5)), (2, .int v2), (3, .ref (ad qa)), (5, .int v5)]) hx hb dX0_holds_82 hl (by decide) rfl (fun ls hl => ?_)
  refine lv_goto (tgt := 137) hx hb dX0_holds_84 (by decide) ?_
  exact w_X0_holds_137 C hrec_6 hσ0 hρ0 hL hqa hF hP hS (lv_sub hl [1, 2, 3, 0, 4] rfl)
set_option maxHeartbeats 4000000 in
set_option maxRecDepth 100000 in
theorem w_X0_holds_6 {a1 : Int32} {a2 : Int32} {qa qn : Nat} {p : Program} {e : Env} {s : State} {m : MethodId} {args : Array Value} {below : List Frame} {meth : Method} {c : Code} {σ0 : SG} {ρ0 : RG} {r : Int32} (C : Cx Y D N ad p s m args meth c cX0_holds 7 (some .boolean) RX0 wsL_law) : ∀ (n : Nat) (σ : SG) (ρ : RG) (v2 : Int32) (v4 : Int32) (v5 : Int32) (H : Heap) (locs : List Loc) (ls : Array Slot), σ = σ0 → ρ = ρ0 → Lay N K len ρ → isA 14 N K len qa qn → F_X0_holds_6 a1 a2 qa qn n σ ρ v2 v4 v5 = some r → WP Y D N ad K len σ ρ H → va_S (AA N ad s.heap.size) s.heap H locs → lv_has ls 7 [(0, .ref (ad 5)), (2, .int v2), (3, .ref (ad qa)), (4, .int v4), (5, .int v5)] → W p l e rm_X0_holds s m args below meth c H locs 0 0 (MQ below (QW Y D N ad K len σ0 ρ0 (AA N ad s.heap.size) (some (.int r))) args s 0 0 (AA N ad s.heap.size)) (F0 m 6 ls []) := by
  have hx := C.1.1
  have hb := C.1.2.1
  intro n
  induction n with
  | zero => intro σ ρ v2 v4 v5 H locs ls hσ0 hρ0 hL hqa hF; cases hF
  | succ n ih =>
    intro σ ρ v2 v4 v5 H locs ls hσ0 hρ0 hL hqa hF hP hS hl
    unfold F_X0_holds_6 at hF
    refine lv_iload hx hb dX0_holds_6 (lv_at hl 4 rfl) ?_
    refine lv_if_lt (tgt := 143) hx hb dX0_holds_8 (by decide) (fun c_1 => ?_) (fun c_1 => ?_) -- COND 1 by_cases c_1 : v5 < 0
    · have hF := ite_t hF c_1
      exact w_X0_holds_143 C hσ0 hρ0 hL hqa hF hP hS (lv_sub hl [3] rfl)
    · have hF := ite_f hF c_1
      refine lv_iload hx hb dX0_holds_11 (lv_at hl 4 rfl) ?_
      refine lv_iload_n hx hb dX0_holds_13 rfl (lv_at hl 1 rfl) ?_
      refine lv_icmp_ge (tgt := 143) hx hb dX0_holds_14 (by decide) (fun c_4 => ?_) (fun c_4 => ?_) -- COND 4 by_cases c_4 : v2 ≤ v5
      · have hF := ite_t hF c_4
        exact w_X0_holds_143 C hσ0 hρ0 hL hqa hF hP hS (lv_sub hl [3] rfl)
      · have hF := ite_f hF c_4
        refine lv_iload hx hb dX0_holds_17 (lv_at hl 4 rfl) ?_
        refine lv_aload_n hx hb dX0_holds_19 rfl (lv_at hl 0 rfl) ?_
        refine get_0_6 C hP (lr_5 hL) (lk_5 hL) inlX0 mw_62 (lf_5_6 hL) dX0_holds_20 ?_
        refine x_alen (v := (100 : Int32)) C hP (lr_9 hL) (lk_9 hL) (by decide) (ln_9 hL) (by decide +kernel) dX0_holds_23 ?_
        refine lv_icmp_ge (tgt := 143) hx hb dX0_holds_24 (by decide) (fun c_5 => ?_) (fun c_5 => ?_) -- COND 5 by_cases c_5 : (100 : Int32) ≤ v5
        · have hF := ite_t hF c_5
          exact w_X0_holds_143 C hσ0 hρ0 hL hqa hF hP hS (lv_sub hl [3] rfl)
        · have hF := ite_f hF c_5
          refine lv_iload hx hb dX0_holds_27 (lv_at hl 3 rfl) ?_
          refine lv_iconst (v := 1) hx hb dX0_holds_29 (by decide) ?_
          refine lv_ishr hx hb dX0_holds_30 ?_
          obtain ⟨x6, ex6, hF⟩ := nm_1 hF
          refine x_top ex6 ?_
          refine lv_istore (lv' := [(6, .int x6), (0, .ref (ad 5)), (2, .int v2), (3, .ref (ad qa)), (4, .int v4), (5, .int v5)]) hx hb dX0_holds_31 hl (by decide) rfl (fun ls hl => ?_)
          refine lv_aload_n hx hb dX0_holds_33 rfl (lv_at hl 1 rfl) ?_
          refine get_0_6 C hP (lr_5 hL) (lk_5 hL) inlX0 mw_62 (lf_5_6 hL) dX0_holds_34 ?_
          refine lv_iload hx hb dX0_holds_37 (lv_at hl 5 rfl) ?_
          obtain ⟨g7, hF⟩ := gd_1 hF
          refine x_iald C hP (lr_9 hL) (lk_9 hL) (ln_9 hL) g7 dX0_holds_39 ?_
          refine lv_iconst (v := -1) hx hb dX0_holds_40 (by decide) ?_
          refine lv_icmp_ne (tgt := 53) hx hb dX0_holds_41 (by decide) (fun c_8 => ?_) (fun c_8 => ?_) -- COND 8 rcases (Decidable.em ((σ 9 (v5).toNatClampNeg) = (-1 : Int32))).symm with c_8 | c_8
          · have hF := ite_f hF c_8
            refine lv_aload_n hx hb dX0_holds_53 rfl (lv_at hl 1 rfl) ?_
            refine get_0_6 C hP (lr_5 hL) (lk_5 hL) inlX0 mw_62 (lf_5_6 hL) dX0_holds_54 ?_
            refine lv_iload hx hb dX0_holds_57 (lv_at hl 5 rfl) ?_
            obtain ⟨g9, hF⟩ := gd_1 hF
            refine x_iald C hP (lr_9 hL) (lk_9 hL) (ln_9 hL) g9 dX0_holds_59 ?_
            refine lv_bipush (v := -2) hx hb dX0_holds_60 (by decide +kernel) ?_
            refine lv_icmp_ne (tgt := 87) hx hb dX0_holds_62 (by decide) (fun c_10 => ?_) (fun c_10 => ?_) -- COND 10 rcases (Decidable.em ((σ 9 (v5).toNatClampNeg) = (-2 : Int32))).symm with c_10 | c_10
            · have hF := ite_f hF c_10
              refine lv_aload_n hx hb dX0_holds_87 rfl (lv_at hl 1 rfl) ?_
              refine get_0_6 C hP (lr_5 hL) (lk_5 hL) inlX0 mw_62 (lf_5_6 hL) dX0_holds_88 ?_
              refine lv_iload hx hb dX0_holds_91 (lv_at hl 5 rfl) ?_
              obtain ⟨g11, hF⟩ := gd_1 hF
              refine x_iald C hP (lr_9 hL) (lk_9 hL) (ln_9 hL) g11 dX0_holds_93 ?_
              refine lv_bipush (v := -3) hx hb dX0_holds_94 (by decide +kernel) ?_
              refine lv_icmp_ne (tgt := 111) hx hb dX0_holds_96 (by decide) (fun c_12 => ?_) (fun c_12 => ?_) -- COND 12 rcases (Decidable.em ((σ 9 (v5).toNatClampNeg) = (-3 : Int32))).symm with c_12 | c_12
              · have hF := ite_f hF c_12
                refine lv_iload hx hb dX0_holds_111 (lv_at hl 4 rfl) ?_
                refine lv_iconst (v := 1) hx hb dX0_holds_113 (by decide) ?_
                refine lv_ishl hx hb dX0_holds_114 ?_
                obtain ⟨x13, ex13, hF⟩ := nm_1 hF
                refine x_top ex13 ?_
                refine lv_aload_n hx hb dX0_holds_115 rfl (lv_at hl 1 rfl) ?_
                refine get_0_6 C hP (lr_5 hL) (lk_5 hL) inlX0 mw_62 (lf_5_6 hL) dX0_holds_116 ?_
                refine lv_iload hx hb dX0_holds_119 (lv_at hl 5 rfl) ?_
                obtain ⟨g14, hF⟩ := gd_1 hF
                refine x_iald C hP (lr_9 hL) (lk_9 hL) (ln_9 hL) g14 dX0_holds_121 ?_
                refine lv_aload_n hx hb dX0_holds_122 rfl (lv_at hl 3 rfl) ?_
                obtain ⟨r15, hq15, hF⟩ := bn_1 hF
                refine x_callS C hP hS (c_X0_isTrue hL ⟨hqa.1, hqa.2.1, hqa.2.2⟩ hq15) (va_cwS 2 C.1.2.2.2.2 (gdS mw_554 mw_555 mw_23 mw_556) rfl rfl rfl hd_X0_isTrue.2 ⟨Nat.le_of_ble_eq_true rfl, Nat.le_of_ble_eq_true rfl⟩) rfl rfl hl.1 (Nat.le_of_ble_eq_true rfl) ⟨Nat.zero_le _, Nat.zero_le _⟩ dX0_holds_123 (fun H locs hP hS => ?_)
                refine lv_if_eq (tgt := 133) hx hb dX0_holds_126 (by decide) (fun c_16 => ?_) (fun c_16 => ?_) -- COND 16 by_cases c_16 : r15 = 0
                · have hF := ite_t hF c_16
                  refine lv_iconst (v := 0) hx hb dX0_holds_133 (by decide) ?_
                  exact w_X0_holds_134 C ih hσ0 hρ0 hL hqa hF hP hS (lv_sub hl [1, 2, 3, 5] rfl)
                · have hF := ite_f hF c_16
                  refine lv_iconst (v := 1) hx hb dX0_holds_129 (by decide) ?_
                  refine lv_goto (tgt := 134) hx hb dX0_holds_130 (by decide) ?_
                  exact w_X0_holds_134 C ih hσ0 hρ0 hL hqa hF hP hS (lv_sub hl [1, 2, 3, 5] rfl)
              · have hF := ite_t hF c_12
                refine lv_iload hx hb dX0_holds_99 (lv_at hl 0 rfl) ?_
                refine lv_iload hx hb dX0_holds_101 (lv_at hl 4 rfl) ?_
                refine lv_iconst (v := 1) hx hb dX0_holds_103 (by decide) ?_
                refine lv_iand hx hb dX0_holds_104 ?_
                obtain ⟨x19, ex19, hF⟩ := nm_1 hF
                refine x_top ex19 ?_
                refine lv_ior hx hb dX0_holds_105 ?_
                obtain ⟨x20, ex20, hF⟩ := nm_1 hF
                refine x_top ex20 ?_
                refine lv_istore (lv' := [(4, .int x20), (6, .int x6), (0, .ref (ad 5)), (2, .int v2), (3, .ref (ad qa)), (5, .int v5)]) hx hb dX0_holds_106 hl (by decide) rfl (fun ls hl => ?_)
                refine lv_goto (tgt := 137) hx hb dX0_holds_108 (by decide) ?_
                exact w_X0_holds_137 C ih hσ0 hρ0 hL hqa hF hP hS (lv_sub hl [2, 3, 4, 0, 5] rfl)
            · have hF := ite_t hF c_10
              refine lv_iload hx hb dX0_holds_65 (lv_at hl 4 rfl) ?_
              refine lv_iconst (v := 1) hx hb dX0_holds_67 (by decide) ?_
              refine lv_iand hx hb dX0_holds_68 ?_
              obtain ⟨x21, ex21, hF⟩ := nm_1 hF
              refine x_top ex21 ?_
              refine lv_if_ne (tgt := 80) hx hb dX0_holds_69 (by decide) (fun c_22 => ?_) (fun c_22 => ?_) -- COND 22 rcases (Decidable.em (x21 = 0)).symm with c_22 | c_22
              · have hF := ite_f hF c_22
                refine lv_iload hx hb dX0_holds_80 (lv_at hl 0 rfl) ?_
                exact w_X0_holds_82 C ih hσ0 hρ0 hL hqa hF hP hS (lv_sub hl [1, 2, 3, 5] rfl)
              · have hF := ite_t hF c_22
                refine lv_iload hx hb dX0_holds_72 (lv_at hl 0 rfl) ?_
                refine lv_bipush (v := -2) hx hb dX0_holds_74 (by decide +kernel) ?_
                refine lv_iand hx hb dX0_holds_76 ?_
                obtain ⟨x23, ex23, hF⟩ := nm_1 hF
                refine x_top ex23 ?_
                refine lv_goto (tgt := 82) hx hb dX0_holds_77 (by decide) ?_
                exact w_X0_holds_82 C ih hσ0 hρ0 hL hqa hF hP hS (lv_sub hl [1, 2, 3, 5] rfl)
          · have hF := ite_t hF c_8
            refine lv_iload hx hb dX0_holds_44 (lv_at hl 4 rfl) ?_
            refine lv_iconst (v := 1) hx hb dX0_holds_46 (by decide) ?_
            refine lv_ixor hx hb dX0_holds_47 ?_
            obtain ⟨x24, ex24, hF⟩ := nm_1 hF
            refine x_top ex24 ?_
            refine lv_istore (lv' := [(4, .int x24), (6, .int x6), (0, .ref (ad 5)), (2, .int v2), (3, .ref (ad qa)), (5, .int v5)]) hx hb dX0_holds_48 hl (by decide) rfl (fun ls hl => ?_)
            refine lv_goto (tgt := 137) hx hb dX0_holds_50 (by decide) ?_
            exact w_X0_holds_137 C ih hσ0 hρ0 hL hqa hF hP hS (lv_sub hl [2, 3, 4, 0, 5] rfl)
set_option maxHeartbeats 4000000 in
set_option maxRecDepth 100000 in
theorem w_X0_holds_0 {a1 : Int32} {a2 : Int32} {qa qn : Nat} {p : Program} {e : Env} {s : State} {m : MethodId} {args : Array Value} {below : List Frame} {meth : Method} {c : Code} {σ0 : SG} {ρ0 : RG} {r : Int32} (C : Cx Y D N ad p s m args meth c cX0_holds 7 (some .boolean) RX0 wsL_law) {σ : SG} {ρ : RG} {H : Heap} {locs : List Loc} {ls : Array Slot} (hσ0 : σ = σ0) (hρ0 : ρ = ρ0) (hL : Lay N K len ρ) (hqa : isA 14 N K len qa qn) (hF : F_X0_holds a1 a2 qa qn σ ρ = some r) (hP : WP Y D N ad K len σ ρ H) (hS : va_S (AA N ad s.heap.size) s.heap H locs) (hl : lv_has ls 7 [(0, .ref (ad 5)), (1, .int a1), (2, .int a2), (3, .ref (ad qa))]) : W p l e rm_X0_holds s m args below meth c H locs 0 0 (MQ below (QW Y D N ad K len σ0 ρ0 (AA N ad s.heap.size) (some (.int r))) args s 0 0 (AA N ad s.heap.size)) (F0 m 0 ls []) := by
  have hx := C.1.1
  have hb := C.1.2.1
  unfold F_X0_holds at hF
  refine lv_iconst (v := 0) hx hb dX0_holds_0 (by decide) ?_
  refine lv_istore (lv' := [(4, .int (0 : Int32)), (0, .ref (ad 5)), (1, .int a1), (2, .int a2), (3, .ref (ad qa))]) hx hb dX0_holds_1 hl (by decide) rfl (fun ls hl => ?_)
  refine lv_iload_n hx hb dX0_holds_3 rfl (lv_at hl 2 rfl) ?_
  refine lv_istore (lv' := [(5, .int a1), (4, .int (0 : Int32)), (0, .ref (ad 5)), (1, .int a1), (2, .int a2), (3, .ref (ad qa))]) hx hb dX0_holds_4 hl (by decide) rfl (fun ls hl => ?_)
  exact w_X0_holds_6 C 1024 _ _ _ _ _ _ _ _ hσ0 hρ0 hL hqa hF hP hS (lv_sub hl [2, 4, 5, 1, 0] rfl)
set_option maxHeartbeats 4000000 in
set_option maxRecDepth 100000 in
theorem c_X0_holds {a1 : Int32} {a2 : Int32} {qa qn : Nat} {r : Int32} {σ : SG} {ρ : RG} (hL : Lay N K len ρ) (hqa : isA 14 N K len qa qn) (hF : F_X0_holds a1 a2 qa qn σ ρ = some r) : MT l Y D N ad K len yX0_holds (Cond.code yX0_holds cX0_holds 7 (some .boolean) :: wsL_law) rm_X0_holds [.ref (ad 5), .int a1, .int a2, .ref (ad qa)] σ ρ (some (.int r)) σ ρ := by
  refine mt_of (cc := cX0_holds) (nL := 7) (ret := (some .boolean)) (by decide) (Nat.le_of_ble_eq_true rfl) ?_
  intro p e s m args below meth c ls C hnm hP hS hl
  exact w_X0_holds_0 C rfl rfl hL hqa hF hP hS hl

/-! CutCrooked$Board.int added(boolean, int[], boolean);  -/
theorem dX0_added_0 : decode cX0_added 0 = .ok (.iconst 0, 1) := by decide +kernel
theorem dX0_added_1 : decode cX0_added 1 = .ok (.istore 4, 2) := by decide +kernel
theorem dX0_added_3 : decode cX0_added 3 = .ok (.iconst 0, 1) := by decide +kernel
theorem dX0_added_4 : decode cX0_added 4 = .ok (.istore 5, 2) := by decide +kernel
theorem dX0_added_6 : decode cX0_added 6 = .ok (.iconst 0, 1) := by decide +kernel
theorem dX0_added_7 : decode cX0_added 7 = .ok (.istore 6, 2) := by decide +kernel
theorem dX0_added_9 : decode cX0_added 9 = .ok (.iload 6, 2) := by decide +kernel
theorem dX0_added_11 : decode cX0_added 11 = .ok (.aload_n 0, 1) := by decide +kernel
theorem dX0_added_12 : decode cX0_added 12 = .ok (.getfield 32, 3) := by decide +kernel
theorem dX0_added_15 : decode cX0_added 15 = .ok (.if_icmp .ge 81, 3) := by decide +kernel
theorem dX0_added_18 : decode cX0_added 18 = .ok (.iload 6, 2) := by decide +kernel
theorem dX0_added_20 : decode cX0_added 20 = .ok (.bipush 10, 2) := by decide +kernel
theorem dX0_added_22 : decode cX0_added 22 = .ok (.if_icmp .ge 74, 3) := by decide +kernel
theorem dX0_added_25 : decode cX0_added 25 = .ok (.aload_n 0, 1) := by decide +kernel
theorem dX0_added_26 : decode cX0_added 26 = .ok (.getfield 18, 3) := by decide +kernel
theorem dX0_added_29 : decode cX0_added 29 = .ok (.iload 6, 2) := by decide +kernel
theorem dX0_added_31 : decode cX0_added 31 = .ok (.baload, 1) := by decide +kernel
theorem dX0_added_32 : decode cX0_added 32 = .ok (.iload_n 1, 1) := by decide +kernel
theorem dX0_added_33 : decode cX0_added 33 = .ok (.if_icmp .ne 48, 3) := by decide +kernel
theorem dX0_added_36 : decode cX0_added 36 = .ok (.aload_n 0, 1) := by decide +kernel
theorem dX0_added_37 : decode cX0_added 37 = .ok (.iload 5, 2) := by decide +kernel
theorem dX0_added_39 : decode cX0_added 39 = .ok (.aload_n 0, 1) := by decide +kernel
theorem dX0_added_40 : decode cX0_added 40 = .ok (.getfield 26, 3) := by decide +kernel
theorem dX0_added_43 : decode cX0_added 43 = .ok (.iload 6, 2) := by decide +kernel
theorem dX0_added_45 : decode cX0_added 45 = .ok (.iaload, 1) := by decide +kernel
theorem dX0_added_46 : decode cX0_added 46 = .ok (.aload_n 2, 1) := by decide +kernel
theorem dX0_added_47 : decode cX0_added 47 = .ok (.invokevirtual 44, 3) := by decide +kernel
theorem dX0_added_50 : decode cX0_added 50 = .ok (.ifCond .eq 31, 3) := by decide +kernel
theorem dX0_added_53 : decode cX0_added 53 = .ok (.iload 4, 2) := by decide +kernel
theorem dX0_added_55 : decode cX0_added 55 = .ok (.iload_n 3, 1) := by decide +kernel
theorem dX0_added_56 : decode cX0_added 56 = .ok (.ifCond .eq 15, 3) := by decide +kernel
theorem dX0_added_59 : decode cX0_added 59 = .ok (.aload_n 0, 1) := by decide +kernel
theorem dX0_added_60 : decode cX0_added 60 = .ok (.getfield 22, 3) := by decide +kernel
theorem dX0_added_63 : decode cX0_added 63 = .ok (.iload 6, 2) := by decide +kernel
theorem dX0_added_65 : decode cX0_added 65 = .ok (.iaload, 1) := by decide +kernel
theorem dX0_added_66 : decode cX0_added 66 = .ok (.iconst 2, 1) := by decide +kernel
theorem dX0_added_67 : decode cX0_added 67 = .ok (.idiv, 1) := by decide +kernel
theorem dX0_added_68 : decode cX0_added 68 = .ok (.goto 10, 3) := by decide +kernel
theorem dX0_added_71 : decode cX0_added 71 = .ok (.aload_n 0, 1) := by decide +kernel
theorem dX0_added_72 : decode cX0_added 72 = .ok (.getfield 22, 3) := by decide +kernel
theorem dX0_added_75 : decode cX0_added 75 = .ok (.iload 6, 2) := by decide +kernel
theorem dX0_added_77 : decode cX0_added 77 = .ok (.iaload, 1) := by decide +kernel
theorem dX0_added_78 : decode cX0_added 78 = .ok (.iadd, 1) := by decide +kernel
theorem dX0_added_79 : decode cX0_added 79 = .ok (.istore 4, 2) := by decide +kernel
theorem dX0_added_81 : decode cX0_added 81 = .ok (.aload_n 0, 1) := by decide +kernel
theorem dX0_added_82 : decode cX0_added 82 = .ok (.getfield 26, 3) := by decide +kernel
theorem dX0_added_85 : decode cX0_added 85 = .ok (.iload 6, 2) := by decide +kernel
theorem dX0_added_87 : decode cX0_added 87 = .ok (.iaload, 1) := by decide +kernel
theorem dX0_added_88 : decode cX0_added 88 = .ok (.istore 5, 2) := by decide +kernel
theorem dX0_added_90 : decode cX0_added 90 = .ok (.iinc 6 1, 3) := by decide +kernel
theorem dX0_added_93 : decode cX0_added 93 = .ok (.goto (-84), 3) := by decide +kernel
theorem dX0_added_96 : decode cX0_added 96 = .ok (.iload 4, 2) := by decide +kernel
theorem dX0_added_98 : decode cX0_added 98 = .ok (.ireturn, 1) := by decide +kernel
theorem hd_X0_added : yX0_added.cls = RX0 ∧ yX0_added.cls ≠ "java/lang/invoke/MethodHandle" ∧ yX0_added.cls ≠ "java/lang/invoke/VarHandle" ∧ (parseMethodDescriptor yX0_added.desc).map (fun d => d.parameters.length) = some 3 := by decide +kernel
abbrev rm_X0_added : Room := { frames := 3, cells := 0, slots := 0, locals := 70 }
def F_X0_added_81 (a1 : Int32) (qa qn : Nat) (a3 : Int32) (rec_9 : SG → RG → Int32 → Int32 → Int32 → Int32 → Int32 → Option (Int32)) (σ : SG) (ρ : RG) (v1 : Int32) (v3 : Int32) (v4 : Int32) (v6 : Int32) : Option (Int32) :=
  gd (inb v6 10) <|
  nm (v6 + (1 : Int32)) fun x6 =>
  rec_9 σ ρ v1 v3 v4 (σ 8 (v6).toNatClampNeg) x6
def F_X0_added_78 (a1 : Int32) (qa qn : Nat) (a3 : Int32) (rec_9 : SG → RG → Int32 → Int32 → Int32 → Int32 → Int32 → Option (Int32)) (σ : SG) (ρ : RG) (v1 : Int32) (v3 : Int32) (v6 : Int32) (k0 : Int32) (k1 : Int32) : Option (Int32) :=
  nm (k0 + k1) fun x12 =>
  F_X0_added_81 a1 qa qn a3 rec_9 σ ρ v1 v3 x12 v6
def F_X0_added_9 (a1 : Int32) (qa qn : Nat) (a3 : Int32) : Nat → SG → RG → Int32 → Int32 → Int32 → Int32 → Int32 → Option (Int32)
  | 0 => fun _ _ _ _ _ _ _ => none
  | n + 1 => fun σ ρ v1 v3 v4 v5 v6 =>
  if (σ 5 2) ≤ v6 then
    some v4
  else
    if (10 : Int32) ≤ v6 then
      some v4
    else
      gd (inb v6 10) <|
      if (σ 6 (v6).toNatClampNeg) = v1 then
        gd (inb v6 10) <|
        bn (F_X0_holds v5 (σ 8 (v6).toNatClampNeg) qa qn σ ρ) fun r8 =>
        if r8 = 0 then
          F_X0_added_81 a1 qa qn a3 (F_X0_added_9 a1 qa qn a3 n) σ ρ v1 v3 v4 v6
        else
          if v3 = 0 then
            gd (inb v6 10) <|
            F_X0_added_78 a1 qa qn a3 (F_X0_added_9 a1 qa qn a3 n) σ ρ v1 v3 v6 v4 (σ 7 (v6).toNatClampNeg)
          else
            gd (inb v6 10) <|
            nm ((σ 7 (v6).toNatClampNeg) / (2 : Int32)) fun x14 =>
            F_X0_added_78 a1 qa qn a3 (F_X0_added_9 a1 qa qn a3 n) σ ρ v1 v3 v6 v4 x14
      else
        F_X0_added_81 a1 qa qn a3 (F_X0_added_9 a1 qa qn a3 n) σ ρ v1 v3 v4 v6
def F_X0_added (a1 : Int32) (qa qn : Nat) (a3 : Int32) (σ : SG) (ρ : RG) : Option (Int32) :=
  F_X0_added_9 a1 qa qn a3 1024 σ ρ a1 a3 (0 : Int32) (0 : Int32) (0 : Int32)
set_option maxHeartbeats 4000000 in
set_option maxRecDepth 100000 in
theorem w_X0_added_81 {a1 : Int32} {qa qn : Nat} {a3 : Int32} {rec_9 : SG → RG → Int32 → Int32 → Int32 → Int32 → Int32 → Option (Int32)} {p : Program} {e : Env} {s : State} {m : MethodId} {args : Array Value} {below : List Frame} {meth : Method} {c : Code} {σ0 : SG} {ρ0 : RG} {r : Int32} (C : Cx Y D N ad p s m args meth c cX0_added 7 (some .int) RX0 wsL_law) (hrec_9 : ∀ (σ : SG) (ρ : RG) (v1 : Int32) (v3 : Int32) (v4 : Int32) (v5 : Int32) (v6 : Int32) (H : Heap) (locs : List Loc) (ls : Array Slot), σ = σ0 → ρ = ρ0 → Lay N K len ρ → isA 14 N K len qa qn → rec_9 σ ρ v1 v3 v4 v5 v6 = some r → WP Y D N ad K len σ ρ H → va_S (AA N ad s.heap.size) s.heap H locs → lv_has ls 7 [(0, .ref (ad 5)), (1, .int v1), (2, .ref (ad qa)), (3, .int v3), (4, .int v4), (5, .int v5), (6, .int v6)] → W p l e rm_X0_added s m args below meth c H locs 0 0 (MQ below (QW Y D N ad K len σ0 ρ0 (AA N ad s.heap.size) (some (.int r))) args s 0 0 (AA N ad s.heap.size)) (F0 m 9 ls [])) {σ : SG} {ρ : RG} {v1 : Int32} {v3 : Int32} {v4 : Int32} {v6 : Int32} {H : Heap} {locs : List Loc} {ls : Array Slot} (hσ0 : σ = σ0) (hρ0 : ρ = ρ0) (hL : Lay N K len ρ) (hqa : isA 14 N K len qa qn) (hF : F_X0_added_81 a1 qa qn a3 rec_9 σ ρ v1 v3 v4 v6 = some r) (hP : WP Y D N ad K len σ ρ H) (hS : va_S (AA N ad s.heap.size) s.heap H locs) (hl : lv_has ls 7 [(0, .ref (ad 5)), (1, .int v1), (2, .ref (ad qa)), (3, .int v3), (4, .int v4), (6, .int v6)]) : W p l e rm_X0_added s m args below meth c H locs 0 0 (MQ below (QW Y D N ad K len σ0 ρ0 (AA N ad s.heap.size) (some (.int r))) args s 0 0 (AA N ad s.heap.size)) (F0 m 81 ls []) := by
  have hx := C.1.1
  have hb := C.1.2.1
  unfold F_X0_added_81 at hF
  refine lv_aload_n hx hb dX0_added_81 rfl (lv_at hl 0 rfl) ?_
  refine get_0_5 C hP (lr_5 hL) (lk_5 hL) inlX0 mw_61 (lf_5_5 hL) dX0_added_82 ?_
  refine lv_iload hx hb dX0_added_85 (lv_at hl 5 rfl) ?_
  obtain ⟨g5, hF⟩ := gd_1 hF
  refine x_iald C hP (lr_8 hL) (lk_8 hL) (ln_8 hL) g5 dX0_added_87 ?_
  refine lv_istore (lv' := [(5, .int (σ 8 (v6).toNatClampNeg)), (0, .ref (ad 5)), (1, .int v1), (2, .ref (ad qa)), (3, .int v3), (4, .int v4), (6, .int v6)]) hx hb dX0_added_88 hl (by decide) rfl (fun ls hl => ?_)
  obtain ⟨x6, ex6, hF⟩ := nm_1 hF
  refine lv_iinc (v := x6) (lv' := [(6, .int x6), (5, .int (σ 8 (v6).toNatClampNeg)), (0, .ref (ad 5)), (1, .int v1), (2, .ref (ad qa)), (3, .int v3), (4, .int v4)]) hx hb dX0_added_90 hl (k := 6) rfl (by rw [ex6]; first | rfl | decide) (by decide) rfl (fun ls hl => ?_)
  refine lv_goto (tgt := 9) hx hb dX0_added_93 (by decide) ?_
  exact hrec_9 _ _ _ _ _ _ _ _ _ _ hσ0 hρ0 hL hqa hF hP hS (lv_sub hl [2, 3, 4, 5, 6, 1, 0] rfl)
set_option maxHeartbeats 4000000 in
set_option maxRecDepth 100000 in
theorem w_X0_added_78 {a1 : Int32} {qa qn : Nat} {a3 : Int32} {rec_9 : SG → RG → Int32 → Int32 → Int32 → Int32 → Int32 → Option (Int32)} {p : Program} {e : Env} {s : State} {m : MethodId} {args : Array Value} {below : List Frame} {meth : Method} {c : Code} {σ0 : SG} {ρ0 : RG} {r : Int32} (C : Cx Y D N ad p s m args meth c cX0_added 7 (some .int) RX0 wsL_law) (hrec_9 : ∀ (σ : SG) (ρ : RG) (v1 : Int32) (v3 : Int32) (v4 : Int32) (v5 : Int32) (v6 : Int32) (H : Heap) (locs : List Loc) (ls : Array Slot), σ = σ0 → ρ = ρ0 → Lay N K len ρ → isA 14 N K len qa qn → rec_9 σ ρ v1 v3 v4 v5 v6 = some r → WP Y D N ad K len σ ρ H → va_S (AA N ad s.heap.size) s.heap H locs → lv_has ls 7 [(0, .ref (ad 5)), (1, .int v1), (2, .ref (ad qa)), (3, .int v3), (4, .int v4), (5, .int v5), (6, .int v6)] → W p l e rm_X0_added s m args below meth c H locs 0 0 (MQ below (QW Y D N ad K len σ0 ρ0 (AA N ad s.heap.size) (some (.int r))) args s 0 0 (AA N ad s.heap.size)) (F0 m 9 ls [])) {σ : SG} {ρ : RG} {v1 : Int32} {v3 : Int32} {v6 : Int32} {k0 : Int32} {k1 : Int32} {H : Heap} {locs : List Loc} {ls : Array Slot} (hσ0 : σ = σ0) (hρ0 : ρ = ρ0) (hL : Lay N K len ρ) (hqa : isA 14 N K len qa qn) (hF : F_X0_added_78 a1 qa qn a3 rec_9 σ ρ v1 v3 v6 k0 k1 = some r) (hP : WP Y D N ad K len σ ρ H) (hS : va_S (AA N ad s.heap.size) s.heap H locs) (hl : lv_has ls 7 [(0, .ref (ad 5)), (1, .int v1), (2, .ref (ad qa)), (3, .int v3), (6, .int v6)]) : W p l e rm_X0_added s m args below meth c H locs 0 0 (MQ below (QW Y D N ad K len σ0 ρ0 (AA N ad s.heap.size) (some (.int r))) args s 0 0 (AA N ad s.heap.size)) (F0 m 78 ls [.int k1, .int k0]) := by
  have hx := C.1.1
  have hb := C.1.2.1
  unfold F_X0_added_78 at hF
  refine lv_iadd hx hb dX0_added_78 ?_
  obtain ⟨x12, ex12, hF⟩ := nm_1 hF
  refine x_top ex12 ?_
  refine lv_istore (lv' := [(4, .int x12), (0, .ref (ad 5)), (1, .int v1), (2, .ref (ad qa)), (3, .int v3), (6, .int v6)]) hx hb dX0_added_79 hl (by decide) rfl (fun ls hl => ?_)
  exact w_X0_added_81 C hrec_9 hσ0 hρ0 hL hqa hF hP hS (lv_sub hl [1, 2, 3, 4, 0, 5] rfl)
set_option maxHeartbeats 4000000 in
set_option maxRecDepth 100000 in
theorem w_X0_added_9 {a1 : Int32} {qa qn : Nat} {a3 : Int32} {p : Program} {e : Env} {s : State} {m : MethodId} {args : Array Value} {below : List Frame} {meth : Method} {c : Code} {σ0 : SG} {ρ0 : RG} {r : Int32} (C : Cx Y D N ad p s m args meth c cX0_added 7 (some .int) RX0 wsL_law) : ∀ (n : Nat) (σ : SG) (ρ : RG) (v1 : Int32) (v3 : Int32) (v4 : Int32) (v5 : Int32) (v6 : Int32) (H : Heap) (locs : List Loc) (ls : Array Slot), σ = σ0 → ρ = ρ0 → Lay N K len ρ → isA 14 N K len qa qn → F_X0_added_9 a1 qa qn a3 n σ ρ v1 v3 v4 v5 v6 = some r → WP Y D N ad K len σ ρ H → va_S (AA N ad s.heap.size) s.heap H locs → lv_has ls 7 [(0, .ref (ad 5)), (1, .int v1), (2, .ref (ad qa)), (3, .int v3), (4, .int v4), (5, .int v5), (6, .int v6)] → W p l e rm_X0_added s m args below meth c H locs 0 0 (MQ below (QW Y D N ad K len σ0 ρ0 (AA N ad s.heap.size) (some (.int r))) args s 0 0 (AA N ad s.heap.size)) (F0 m 9 ls []) := by
  have hx := C.1.1
  have hb := C.1.2.1
  intro n
  induction n with
  | zero => intro σ ρ v1 v3 v4 v5 v6 H locs ls hσ0 hρ0 hL hqa hF; cases hF
  | succ n ih =>
    intro σ ρ v1 v3 v4 v5 v6 H locs ls hσ0 hρ0 hL hqa hF hP hS hl
    unfold F_X0_added_9 at hF
    refine lv_iload hx hb dX0_added_9 (lv_at hl 6 rfl) ?_
    refine lv_aload_n hx hb dX0_added_11 rfl (lv_at hl 0 rfl) ?_
    refine get_0_2 C hP (lr_5 hL) (lk_5 hL) inlX0 mw_121 dX0_added_12 ?_
    refine lv_icmp_ge (tgt := 96) hx hb dX0_added_15 (by decide) (fun c_1 => ?_) (fun c_1 => ?_) -- COND 1 by_cases c_1 : (σ 5 2) ≤ v6
    · have hF := ite_t hF c_1
      refine lv_iload hx hb dX0_added_96 (lv_at hl 4 rfl) ?_
      obtain rfl := ret_1 hF
      subst hσ0
      subst hρ0
      exact x_iret rfl C hP hS dX0_added_98
    · have hF := ite_f hF c_1
      refine lv_iload hx hb dX0_added_18 (lv_at hl 6 rfl) ?_
      refine lv_bipush (v := 10) hx hb dX0_added_20 (by decide +kernel) ?_
      refine lv_icmp_ge (tgt := 96) hx hb dX0_added_22 (by decide) (fun c_2 => ?_) (fun c_2 => ?_) -- COND 2 by_cases c_2 : (10 : Int32) ≤ v6
      · have hF := ite_t hF c_2
        refine lv_iload hx hb dX0_added_96 (lv_at hl 4 rfl) ?_
        obtain rfl := ret_1 hF
        subst hσ0
        subst hρ0
        exact x_iret rfl C hP hS dX0_added_98
      · have hF := ite_f hF c_2
        refine lv_aload_n hx hb dX0_added_25 rfl (lv_at hl 0 rfl) ?_
        refine get_0_3 C hP (lr_5 hL) (lk_5 hL) inlX0 mw_59 (lf_5_3 hL) dX0_added_26 ?_
        refine lv_iload hx hb dX0_added_29 (lv_at hl 6 rfl) ?_
        obtain ⟨g3, hF⟩ := gd_1 hF
        refine x_zald C hP (lr_6 hL) (lk_6 hL) (ln_6 hL) g3 dX0_added_31 ?_
        refine lv_iload_n hx hb dX0_added_32 rfl (lv_at hl 1 rfl) ?_
        refine lv_icmp_ne (tgt := 81) hx hb dX0_added_33 (by decide) (fun c_4 => ?_) (fun c_4 => ?_) -- COND 4 rcases (Decidable.em ((σ 6 (v6).toNatClampNeg) = v1)).symm with c_4 | c_4
        · have hF := ite_f hF c_4
          exact w_X0_added_81 C ih hσ0 hρ0 hL hqa hF hP hS (lv_sub hl [0, 1, 2, 3, 4, 6] rfl)
        · have hF := ite_t hF c_4
          refine lv_aload_n hx hb dX0_added_36 rfl (lv_at hl 0 rfl) ?_
          refine lv_iload hx hb dX0_added_37 (lv_at hl 5 rfl) ?_
          refine lv_aload_n hx hb dX0_added_39 rfl (lv_at hl 0 rfl) ?_
          refine get_0_5 C hP (lr_5 hL) (lk_5 hL) inlX0 mw_61 (lf_5_5 hL) dX0_added_40 ?_
          refine lv_iload hx hb dX0_added_43 (lv_at hl 6 rfl) ?_
          obtain ⟨g7, hF⟩ := gd_1 hF
          refine x_iald C hP (lr_8 hL) (lk_8 hL) (ln_8 hL) g7 dX0_added_45 ?_
          refine lv_aload_n hx hb dX0_added_46 rfl (lv_at hl 2 rfl) ?_
          obtain ⟨r8, hq8, hF⟩ := bn_1 hF
          refine x_callV (ci := 0) rfl rfl C hP hS (c_X0_holds hL ⟨hqa.1, hqa.2.1, hqa.2.2⟩ hq8) (lr_5 hL) (lk_5 hL) (cwV 3 C.1.2.2.2.2 (gdV mw_550 mw_551 mw_552 mw_23 mw_553) rfl rfl rfl hd_X0_holds ⟨Nat.le_of_ble_eq_true rfl, Nat.le_of_ble_eq_true rfl⟩) rfl rfl hl.1 (Nat.le_of_ble_eq_true rfl) ⟨Nat.zero_le _, Nat.zero_le _⟩ dX0_added_47 (fun H locs hP hS => ?_)
          refine lv_if_eq (tgt := 81) hx hb dX0_added_50 (by decide) (fun c_9 => ?_) (fun c_9 => ?_) -- COND 9 by_cases c_9 : r8 = 0
          · have hF := ite_t hF c_9
            exact w_X0_added_81 C ih hσ0 hρ0 hL hqa hF hP hS (lv_sub hl [0, 1, 2, 3, 4, 6] rfl)
          · have hF := ite_f hF c_9
            refine lv_iload hx hb dX0_added_53 (lv_at hl 4 rfl) ?_
            refine lv_iload_n hx hb dX0_added_55 rfl (lv_at hl 3 rfl) ?_
            refine lv_if_eq (tgt := 71) hx hb dX0_added_56 (by decide) (fun c_10 => ?_) (fun c_10 => ?_) -- COND 10 by_cases c_10 : v3 = 0
            · have hF := ite_t hF c_10
              refine lv_aload_n hx hb dX0_added_71 rfl (lv_at hl 0 rfl) ?_
              refine get_0_4 C hP (lr_5 hL) (lk_5 hL) inlX0 mw_60 (lf_5_4 hL) dX0_added_72 ?_
              refine lv_iload hx hb dX0_added_75 (lv_at hl 6 rfl) ?_
              obtain ⟨g11, hF⟩ := gd_1 hF
              refine x_iald C hP (lr_7 hL) (lk_7 hL) (ln_7 hL) g11 dX0_added_77 ?_
              exact w_X0_added_78 C ih hσ0 hρ0 hL hqa hF hP hS (lv_sub hl [0, 1, 2, 3, 6] rfl)
            · have hF := ite_f hF c_10
              refine lv_aload_n hx hb dX0_added_59 rfl (lv_at hl 0 rfl) ?_
              refine get_0_4 C hP (lr_5 hL) (lk_5 hL) inlX0 mw_60 (lf_5_4 hL) dX0_added_60 ?_
              refine lv_iload hx hb dX0_added_63 (lv_at hl 6 rfl) ?_
              obtain ⟨g13, hF⟩ := gd_1 hF
              refine x_iald C hP (lr_7 hL) (lk_7 hL) (ln_7 hL) g13 dX0_added_65 ?_
              refine lv_iconst (v := 2) hx hb dX0_added_66 (by decide) ?_
              refine lv_idiv hx hb dX0_added_67 (by decide) ?_
              obtain ⟨x14, ex14, hF⟩ := nm_1 hF
              refine x_top ex14 ?_
              refine lv_goto (tgt := 78) hx hb dX0_added_68 (by decide) ?_
              exact w_X0_added_78 C ih hσ0 hρ0 hL hqa hF hP hS (lv_sub hl [0, 1, 2, 3, 6] rfl)
set_option maxHeartbeats 4000000 in
set_option maxRecDepth 100000 in
theorem w_X0_added_0 {a1 : Int32} {qa qn : Nat} {a3 : Int32} {p : Program} {e : Env} {s : State} {m : MethodId} {args : Array Value} {below : List Frame} {meth : Method} {c : Code} {σ0 : SG} {ρ0 : RG} {r : Int32} (C : Cx Y D N ad p s m args meth c cX0_added 7 (some .int) RX0 wsL_law) {σ : SG} {ρ : RG} {H : Heap} {locs : List Loc} {ls : Array Slot} (hσ0 : σ = σ0) (hρ0 : ρ = ρ0) (hL : Lay N K len ρ) (hqa : isA 14 N K len qa qn) (hF : F_X0_added a1 qa qn a3 σ ρ = some r) (hP : WP Y D N ad K len σ ρ H) (hS : va_S (AA N ad s.heap.size) s.heap H locs) (hl : lv_has ls 7 [(0, .ref (ad 5)), (1, .int a1), (2, .ref (ad qa)), (3, .int a3)]) : W p l e rm_X0_added s m args below meth c H locs 0 0 (MQ below (QW Y D N ad K len σ0 ρ0 (AA N ad s.heap.size) (some (.int r))) args s 0 0 (AA N ad s.heap.size)) (F0 m 0 ls []) := by
  have hx := C.1.1
  have hb := C.1.2.1
  unfold F_X0_added at hF
  refine lv_iconst (v := 0) hx hb dX0_added_0 (by decide) ?_
  refine lv_istore (lv' := [(4, .int (0 : Int32)), (0, .ref (ad 5)), (1, .int a1), (2, .ref (ad qa)), (3, .int a3)]) hx hb dX0_added_1 hl (by decide) rfl (fun ls hl => ?_)
  refine lv_iconst (v := 0) hx hb dX0_added_3 (by decide) ?_
  refine lv_istore (lv' := [(5, .int (0 : Int32)), (4, .int (0 : Int32)), (0, .ref (ad 5)), (1, .int a1), (2, .ref (ad qa)), (3, .int a3)]) hx hb dX0_added_4 hl (by decide) rfl (fun ls hl => ?_)
  refine lv_iconst (v := 0) hx hb dX0_added_6 (by decide) ?_
  refine lv_istore (lv' := [(6, .int (0 : Int32)), (5, .int (0 : Int32)), (4, .int (0 : Int32)), (0, .ref (ad 5)), (1, .int a1), (2, .ref (ad qa)), (3, .int a3)]) hx hb dX0_added_7 hl (by decide) rfl (fun ls hl => ?_)
  exact w_X0_added_9 C 1024 _ _ _ _ _ _ _ _ _ _ hσ0 hρ0 hL hqa hF hP hS (lv_sub hl [3, 4, 5, 6, 2, 1, 0] rfl)
set_option maxHeartbeats 4000000 in
set_option maxRecDepth 100000 in
theorem c_X0_added {a1 : Int32} {qa qn : Nat} {a3 : Int32} {r : Int32} {σ : SG} {ρ : RG} (hL : Lay N K len ρ) (hqa : isA 14 N K len qa qn) (hF : F_X0_added a1 qa qn a3 σ ρ = some r) : MT l Y D N ad K len yX0_added (Cond.code yX0_added cX0_added 7 (some .int) :: wsL_law) rm_X0_added [.ref (ad 5), .int a1, .ref (ad qa), .int a3] σ ρ (some (.int r)) σ ρ := by
  refine mt_of (cc := cX0_added) (nL := 7) (ret := (some .int)) (by decide) (Nat.le_of_ble_eq_true rfl) ?_
  intro p e s m args below meth c ls C hnm hP hS hl
  exact w_X0_added_0 C rfl rfl hL hqa hF hP hS hl

/-! CutCrooked$Board.private int next();  -/
theorem dX0_next_0 : decode cX0_next 0 = .ok (.aload_n 0, 1) := by decide +kernel
theorem dX0_next_1 : decode cX0_next 1 = .ok (.getfield 56, 3) := by decide +kernel
theorem dX0_next_4 : decode cX0_next 4 = .ok (.ifnull 45, 3) := by decide +kernel
theorem dX0_next_7 : decode cX0_next 7 = .ok (.aload_n 0, 1) := by decide +kernel
theorem dX0_next_8 : decode cX0_next 8 = .ok (.getfield 63, 3) := by decide +kernel
theorem dX0_next_11 : decode cX0_next 11 = .ok (.ifCond .lt 38, 3) := by decide +kernel
theorem dX0_next_14 : decode cX0_next 14 = .ok (.aload_n 0, 1) := by decide +kernel
theorem dX0_next_15 : decode cX0_next 15 = .ok (.getfield 63, 3) := by decide +kernel
theorem dX0_next_18 : decode cX0_next 18 = .ok (.aload_n 0, 1) := by decide +kernel
theorem dX0_next_19 : decode cX0_next 19 = .ok (.getfield 60, 3) := by decide +kernel
theorem dX0_next_22 : decode cX0_next 22 = .ok (.if_icmp .ge 27, 3) := by decide +kernel
theorem dX0_next_25 : decode cX0_next 25 = .ok (.aload_n 0, 1) := by decide +kernel
theorem dX0_next_26 : decode cX0_next 26 = .ok (.getfield 63, 3) := by decide +kernel
theorem dX0_next_29 : decode cX0_next 29 = .ok (.aload_n 0, 1) := by decide +kernel
theorem dX0_next_30 : decode cX0_next 30 = .ok (.getfield 56, 3) := by decide +kernel
theorem dX0_next_33 : decode cX0_next 33 = .ok (.arraylength, 1) := by decide +kernel
theorem dX0_next_34 : decode cX0_next 34 = .ok (.if_icmp .ge 15, 3) := by decide +kernel
theorem dX0_next_37 : decode cX0_next 37 = .ok (.aload_n 0, 1) := by decide +kernel
theorem dX0_next_38 : decode cX0_next 38 = .ok (.getfield 56, 3) := by decide +kernel
theorem dX0_next_41 : decode cX0_next 41 = .ok (.aload_n 0, 1) := by decide +kernel
theorem dX0_next_42 : decode cX0_next 42 = .ok (.getfield 63, 3) := by decide +kernel
theorem dX0_next_45 : decode cX0_next 45 = .ok (.baload, 1) := by decide +kernel
theorem dX0_next_46 : decode cX0_next 46 = .ok (.goto 4, 3) := by decide +kernel
theorem dX0_next_49 : decode cX0_next 49 = .ok (.iconst 0, 1) := by decide +kernel
theorem dX0_next_50 : decode cX0_next 50 = .ok (.ireturn, 1) := by decide +kernel
theorem hd_X0_next : yX0_next.cls = RX0 ∧ yX0_next.cls ≠ "java/lang/invoke/MethodHandle" ∧ yX0_next.cls ≠ "java/lang/invoke/VarHandle" ∧ (parseMethodDescriptor yX0_next.desc).map (fun d => d.parameters.length) = some 0 := by decide +kernel
abbrev rm_X0_next : Room := { frames := 0, cells := 0, slots := 0, locals := 0 }
def F_X0_next  (σ : SG) (ρ : RG) : Option (Int32) :=
  oc (ρ 29 8)
   (
    some (0 : Int32))
   (fun c1 =>
    gd (c1 == 10) <|
    if (σ 29 10) < 0 then
      some (0 : Int32)
    else
      if (σ 29 9) ≤ (σ 29 10) then
        some (0 : Int32)
      else
        oc (ρ 29 8)
         (
          none /- none: 33: not a known reference -/)
         (fun c4 =>
          gd (c4 == 10) <|
          if (100 : Int32) ≤ (σ 29 10) then
            some (0 : Int32)
          else
            oc (ρ 29 8)
             (
              none /- none: 45: not a known reference -/)
             (fun c6 =>
              gd (c6 == 10) <|
              gd (inb (σ 29 10) 100) <|
              some (σ 10 ((σ 29 10)).toNatClampNeg))))
set_option maxHeartbeats 4000000 in
set_option maxRecDepth 100000 in
theorem w_X0_next_0  {p : Program} {e : Env} {s : State} {m : MethodId} {args : Array Value} {below : List Frame} {meth : Method} {c : Code} {σ0 : SG} {ρ0 : RG} {r : Int32} (C : Cx Y D N ad p s m args meth c cX0_next 1 (some .int) RX0 wsL_law) {σ : SG} {ρ : RG} {H : Heap} {locs : List Loc} {ls : Array Slot} (hσ0 : σ = σ0) (hρ0 : ρ = ρ0) (hL : Lay N K len ρ) (hF : F_X0_next σ ρ = some r) (hP : WP Y D N ad K len σ ρ H) (hS : va_S (AA N ad s.heap.size) s.heap H locs) (hl : lv_has ls 1 [(0, .ref (ad 29))]) : W p l e rm_X0_next s m args below meth c H locs 0 0 (MQ below (QW Y D N ad K len σ0 ρ0 (AA N ad s.heap.size) (some (.int r))) args s 0 0 (AA N ad s.heap.size)) (F0 m 0 ls []) := by
  have hx := C.1.1
  have hb := C.1.2.1
  unfold F_X0_next at hF
  refine lv_aload_n hx hb dX0_next_0 rfl (lv_at hl 0 rfl) ?_
  refine geto_0_8 C hP (lr_29 hL) (lk_29 hL) inlX0 mw_118 dX0_next_1 ?_
  rcases ho1 : (ρ 29 8) with _ | c1
  · have hF := oc_n hF ho1
    refine x_n ?_
    refine lv_ifnullN (tgt := 49) hx hb dX0_next_4 (by decide) ?_
    refine lv_iconst (v := 0) hx hb dX0_next_49 (by decide) ?_
    obtain rfl := ret_1 hF
    subst hσ0
    subst hρ0
    exact x_iret rfl C hP hS dX0_next_50
  · have hF := oc_s hF ho1
    refine x_s ?_
    obtain ⟨gc, hF⟩ := gd_1 hF
    rw [show c1 = 10 from by simpa using gc]
    refine lv_ifnull hx hb dX0_next_4 ?_
    refine lv_aload_n hx hb dX0_next_7 rfl (lv_at hl 0 rfl) ?_
    refine get_0_10 C hP (lr_29 hL) (lk_29 hL) inlX0 mw_120 dX0_next_8 ?_
    refine lv_if_lt (tgt := 49) hx hb dX0_next_11 (by decide) (fun c_2 => ?_) (fun c_2 => ?_) -- COND 2 by_cases c_2 : (σ 29 10) < 0
    · have hF := ite_t hF c_2
      refine lv_iconst (v := 0) hx hb dX0_next_49 (by decide) ?_
      obtain rfl := ret_1 hF
      subst hσ0
      subst hρ0
      exact x_iret rfl C hP hS dX0_next_50
    · have hF := ite_f hF c_2
      refine lv_aload_n hx hb dX0_next_14 rfl (lv_at hl 0 rfl) ?_
      refine get_0_10 C hP (lr_29 hL) (lk_29 hL) inlX0 mw_120 dX0_next_15 ?_
      refine lv_aload_n hx hb dX0_next_18 rfl (lv_at hl 0 rfl) ?_
      refine get_0_9 C hP (lr_29 hL) (lk_29 hL) inlX0 mw_119 dX0_next_19 ?_
      refine lv_icmp_ge (tgt := 49) hx hb dX0_next_22 (by decide) (fun c_3 => ?_) (fun c_3 => ?_) -- COND 3 by_cases c_3 : (σ 29 9) ≤ (σ 29 10)
      · have hF := ite_t hF c_3
        refine lv_iconst (v := 0) hx hb dX0_next_49 (by decide) ?_
        obtain rfl := ret_1 hF
        subst hσ0
        subst hρ0
        exact x_iret rfl C hP hS dX0_next_50
      · have hF := ite_f hF c_3
        refine lv_aload_n hx hb dX0_next_25 rfl (lv_at hl 0 rfl) ?_
        refine get_0_10 C hP (lr_29 hL) (lk_29 hL) inlX0 mw_120 dX0_next_26 ?_
        refine lv_aload_n hx hb dX0_next_29 rfl (lv_at hl 0 rfl) ?_
        refine geto_0_8 C hP (lr_29 hL) (lk_29 hL) inlX0 mw_118 dX0_next_30 ?_
        rcases ho4 : (ρ 29 8) with _ | c4
        · have hF := oc_n hF ho4
          refine x_n ?_
          cases hF
        · have hF := oc_s hF ho4
          refine x_s ?_
          obtain ⟨gc, hF⟩ := gd_1 hF
          rw [show c4 = 10 from by simpa using gc]
          refine x_alen (v := (100 : Int32)) C hP (lr_10 hL) (lk_10 hL) (by decide) (ln_10 hL) (by decide +kernel) dX0_next_33 ?_
          refine lv_icmp_ge (tgt := 49) hx hb dX0_next_34 (by decide) (fun c_5 => ?_) (fun c_5 => ?_) -- COND 5 by_cases c_5 : (100 : Int32) ≤ (σ 29 10)
          · have hF := ite_t hF c_5
            refine lv_iconst (v := 0) hx hb dX0_next_49 (by decide) ?_
            obtain rfl := ret_1 hF
            subst hσ0
            subst hρ0
            exact x_iret rfl C hP hS dX0_next_50
          · have hF := ite_f hF c_5
            refine lv_aload_n hx hb dX0_next_37 rfl (lv_at hl 0 rfl) ?_
            refine geto_0_8 C hP (lr_29 hL) (lk_29 hL) inlX0 mw_118 dX0_next_38 ?_
            rcases ho6 : (ρ 29 8) with _ | c6
            · have hF := oc_n hF ho6
              refine x_n ?_
              refine lv_aload_n hx hb dX0_next_41 rfl (lv_at hl 0 rfl) ?_
              refine get_0_10 C hP (lr_29 hL) (lk_29 hL) inlX0 mw_120 dX0_next_42 ?_
              cases hF
            · have hF := oc_s hF ho6
              refine x_s ?_
              obtain ⟨gc, hF⟩ := gd_1 hF
              rw [show c6 = 10 from by simpa using gc]
              refine lv_aload_n hx hb dX0_next_41 rfl (lv_at hl 0 rfl) ?_
              refine get_0_10 C hP (lr_29 hL) (lk_29 hL) inlX0 mw_120 dX0_next_42 ?_
              obtain ⟨g7, hF⟩ := gd_1 hF
              refine x_bald C hP (lr_10 hL) (lk_10 hL) (ln_10 hL) g7 dX0_next_45 ?_
              refine lv_goto (tgt := 50) hx hb dX0_next_46 (by decide) ?_
              obtain rfl := ret_1 hF
              subst hσ0
              subst hρ0
              exact x_iret rfl C hP hS dX0_next_50
set_option maxHeartbeats 4000000 in
set_option maxRecDepth 100000 in
theorem c_X0_next  {r : Int32} {σ : SG} {ρ : RG} (hL : Lay N K len ρ) (hF : F_X0_next σ ρ = some r) : MT l Y D N ad K len yX0_next (Cond.code yX0_next cX0_next 1 (some .int) :: wsL_law) rm_X0_next [.ref (ad 29)] σ ρ (some (.int r)) σ ρ := by
  refine mt_of (cc := cX0_next) (nL := 1) (ret := (some .int)) (by decide) (Nat.le_of_ble_eq_true rfl) ?_
  intro p e s m args below meth c ls C hnm hP hS hl
  exact w_X0_next_0 C rfl rfl hL hF hP hS hl

/-! CutCrooked$Board.private static boolean isDigit(int);  -/
theorem dX0_isDigit_0 : decode cX0_isDigit 0 = .ok (.iload_n 0, 1) := by decide +kernel
theorem dX0_isDigit_1 : decode cX0_isDigit 1 = .ok (.bipush 48, 2) := by decide +kernel
theorem dX0_isDigit_3 : decode cX0_isDigit 3 = .ok (.if_icmp .lt 13, 3) := by decide +kernel
theorem dX0_isDigit_6 : decode cX0_isDigit 6 = .ok (.iload_n 0, 1) := by decide +kernel
theorem dX0_isDigit_7 : decode cX0_isDigit 7 = .ok (.bipush 57, 2) := by decide +kernel
theorem dX0_isDigit_9 : decode cX0_isDigit 9 = .ok (.if_icmp .gt 7, 3) := by decide +kernel
theorem dX0_isDigit_12 : decode cX0_isDigit 12 = .ok (.iconst 1, 1) := by decide +kernel
theorem dX0_isDigit_13 : decode cX0_isDigit 13 = .ok (.goto 4, 3) := by decide +kernel
theorem dX0_isDigit_16 : decode cX0_isDigit 16 = .ok (.iconst 0, 1) := by decide +kernel
theorem dX0_isDigit_17 : decode cX0_isDigit 17 = .ok (.ireturn, 1) := by decide +kernel
theorem hd_X0_isDigit : yX0_isDigit.cls = RX0 ∧ yX0_isDigit.cls ≠ "java/lang/invoke/MethodHandle" ∧ yX0_isDigit.cls ≠ "java/lang/invoke/VarHandle" ∧ (parseMethodDescriptor yX0_isDigit.desc).map (fun d => d.parameters.length) = some 1 := by decide +kernel
abbrev rm_X0_isDigit : Room := { frames := 0, cells := 0, slots := 0, locals := 0 }
def F_X0_isDigit (a1 : Int32) (σ : SG) (ρ : RG) : Option (Int32) :=
  if a1 < (48 : Int32) then
    some (0 : Int32)
  else
    if (57 : Int32) < a1 then
      some (0 : Int32)
    else
      some (1 : Int32)
set_option maxHeartbeats 4000000 in
set_option maxRecDepth 100000 in
theorem w_X0_isDigit_0 {a1 : Int32} {p : Program} {e : Env} {s : State} {m : MethodId} {args : Array Value} {below : List Frame} {meth : Method} {c : Code} {σ0 : SG} {ρ0 : RG} {r : Int32} (C : Cx Y D N ad p s m args meth c cX0_isDigit 1 (some .boolean) RX0 wsL_law) {σ : SG} {ρ : RG} {H : Heap} {locs : List Loc} {ls : Array Slot} (hσ0 : σ = σ0) (hρ0 : ρ = ρ0) (hL : Lay N K len ρ) (hF : F_X0_isDigit a1 σ ρ = some r) (hP : WP Y D N ad K len σ ρ H) (hS : va_S (AA N ad s.heap.size) s.heap H locs) (hl : lv_has ls 1 [(0, .int a1)]) : W p l e rm_X0_isDigit s m args below meth c H locs 0 0 (MQ below (QW Y D N ad K len σ0 ρ0 (AA N ad s.heap.size) (some (.int r))) args s 0 0 (AA N ad s.heap.size)) (F0 m 0 ls []) := by
  have hx := C.1.1
  have hb := C.1.2.1
  unfold F_X0_isDigit at hF
  refine lv_iload_n hx hb dX0_isDigit_0 rfl (lv_at hl 0 rfl) ?_
  refine lv_bipush (v := 48) hx hb dX0_isDigit_1 (by decide +kernel) ?_
  refine lv_icmp_lt (tgt := 16) hx hb dX0_isDigit_3 (by decide) (fun c_1 => ?_) (fun c_1 => ?_) -- COND 1 by_cases c_1 : a1 < (48 : Int32)
  · have hF := ite_t hF c_1
    refine lv_iconst (v := 0) hx hb dX0_isDigit_16 (by decide) ?_
    obtain rfl := ret_1 hF
    subst hσ0
    subst hρ0
    exact x_zret rfl rfl C hP hS dX0_isDigit_17
  · have hF := ite_f hF c_1
    refine lv_iload_n hx hb dX0_isDigit_6 rfl (lv_at hl 0 rfl) ?_
    refine lv_bipush (v := 57) hx hb dX0_isDigit_7 (by decide +kernel) ?_
    refine lv_icmp_gt (tgt := 16) hx hb dX0_isDigit_9 (by decide) (fun c_2 => ?_) (fun c_2 => ?_) -- COND 2 by_cases c_2 : (57 : Int32) < a1
    · have hF := ite_t hF c_2
      refine lv_iconst (v := 0) hx hb dX0_isDigit_16 (by decide) ?_
      obtain rfl := ret_1 hF
      subst hσ0
      subst hρ0
      exact x_zret rfl rfl C hP hS dX0_isDigit_17
    · have hF := ite_f hF c_2
      refine lv_iconst (v := 1) hx hb dX0_isDigit_12 (by decide) ?_
      refine lv_goto (tgt := 17) hx hb dX0_isDigit_13 (by decide) ?_
      obtain rfl := ret_1 hF
      subst hσ0
      subst hρ0
      exact x_zret rfl rfl C hP hS dX0_isDigit_17
set_option maxHeartbeats 4000000 in
set_option maxRecDepth 100000 in
theorem c_X0_isDigit {a1 : Int32} {r : Int32} {σ : SG} {ρ : RG} (hL : Lay N K len ρ) (hF : F_X0_isDigit a1 σ ρ = some r) : MT l Y D N ad K len yX0_isDigit (Cond.code yX0_isDigit cX0_isDigit 1 (some .boolean) :: wsL_law) rm_X0_isDigit [.int a1] σ ρ (some (.int r)) σ ρ := by
  refine mt_of (cc := cX0_isDigit) (nL := 1) (ret := (some .boolean)) (by decide) (Nat.le_of_ble_eq_true rfl) ?_
  intro p e s m args below meth c ls C hnm hP hS hl
  exact w_X0_isDigit_0 C rfl rfl hL hF hP hS hl

/-! CutCrooked$Board.private boolean readSign(char);  -/
theorem dX0_readSign_0 : decode cX0_readSign 0 = .ok (.aload_n 0, 1) := by decide +kernel
theorem dX0_readSign_1 : decode cX0_readSign 1 = .ok (.invokevirtual 74, 3) := by decide +kernel
theorem dX0_readSign_4 : decode cX0_readSign 4 = .ok (.iload_n 1, 1) := by decide +kernel
theorem dX0_readSign_5 : decode cX0_readSign 5 = .ok (.if_icmp .eq 5, 3) := by decide +kernel
theorem dX0_readSign_8 : decode cX0_readSign 8 = .ok (.iconst 0, 1) := by decide +kernel
theorem dX0_readSign_9 : decode cX0_readSign 9 = .ok (.ireturn, 1) := by decide +kernel
theorem dX0_readSign_10 : decode cX0_readSign 10 = .ok (.aload_n 0, 1) := by decide +kernel
theorem dX0_readSign_11 : decode cX0_readSign 11 = .ok (.dup, 1) := by decide +kernel
theorem dX0_readSign_12 : decode cX0_readSign 12 = .ok (.getfield 63, 3) := by decide +kernel
theorem dX0_readSign_15 : decode cX0_readSign 15 = .ok (.iconst 1, 1) := by decide +kernel
theorem dX0_readSign_16 : decode cX0_readSign 16 = .ok (.iadd, 1) := by decide +kernel
theorem dX0_readSign_17 : decode cX0_readSign 17 = .ok (.putfield 63, 3) := by decide +kernel
theorem dX0_readSign_20 : decode cX0_readSign 20 = .ok (.iconst 1, 1) := by decide +kernel
theorem dX0_readSign_21 : decode cX0_readSign 21 = .ok (.ireturn, 1) := by decide +kernel
theorem hd_X0_readSign : yX0_readSign.cls = RX0 ∧ yX0_readSign.cls ≠ "java/lang/invoke/MethodHandle" ∧ yX0_readSign.cls ≠ "java/lang/invoke/VarHandle" ∧ (parseMethodDescriptor yX0_readSign.desc).map (fun d => d.parameters.length) = some 1 := by decide +kernel
abbrev rm_X0_readSign : Room := { frames := 1, cells := 0, slots := 0, locals := 20 }
def F_X0_readSign (a1 : Int32) (σ : SG) (ρ : RG) : Option (Int32 × SG) :=
  bn (F_X0_next σ ρ) fun r1 =>
  if r1 = a1 then
    nm ((σ 29 10) + (1 : Int32)) fun x3 =>
    nm (s2 σ 29 10 x3) fun σ5 =>
    some ((1 : Int32), σ5)
  else
    some ((0 : Int32), σ)
set_option maxHeartbeats 4000000 in
set_option maxRecDepth 100000 in
theorem w_X0_readSign_0 {a1 : Int32} {p : Program} {e : Env} {s : State} {m : MethodId} {args : Array Value} {below : List Frame} {meth : Method} {c : Code} {ρ0 : RG} {r : Int32} {σ1 : SG} (C : Cx Y D N ad p s m args meth c cX0_readSign 2 (some .boolean) RX0 wsL_law) {σ : SG} {ρ : RG} {H : Heap} {locs : List Loc} {ls : Array Slot} (hρ0 : ρ = ρ0) (hL : Lay N K len ρ) (hF : F_X0_readSign a1 σ ρ = some (r, σ1)) (hP : WP Y D N ad K len σ ρ H) (hS : va_S (AA N ad s.heap.size) s.heap H locs) (hl : lv_has ls 2 [(0, .ref (ad 29)), (1, .int a1)]) : W p l e rm_X0_readSign s m args below meth c H locs 0 0 (MQ below (QW Y D N ad K len σ1 ρ0 (AA N ad s.heap.size) (some (.int r))) args s 0 0 (AA N ad s.heap.size)) (F0 m 0 ls []) := by
  have hx := C.1.1
  have hb := C.1.2.1
  unfold F_X0_readSign at hF
  refine lv_aload_n hx hb dX0_readSign_0 rfl (lv_at hl 0 rfl) ?_
  obtain ⟨r1, hq1, hF⟩ := bn_1 hF
  refine x_callV (ci := 0) rfl rfl C hP hS (c_X0_next hL hq1) (lr_29 hL) (lk_29 hL) (cwV 0 C.1.2.2.2.2 (gdV mw_128 mw_129 mw_130 mw_23 mw_131) rfl rfl rfl hd_X0_next ⟨Nat.le_of_ble_eq_true rfl, Nat.le_of_ble_eq_true rfl⟩) rfl rfl hl.1 (Nat.le_of_ble_eq_true rfl) ⟨Nat.zero_le _, Nat.zero_le _⟩ dX0_readSign_1 (fun H locs hP hS => ?_)
  refine lv_iload_n hx hb dX0_readSign_4 rfl (lv_at hl 1 rfl) ?_
  refine lv_icmp_eq (tgt := 10) hx hb dX0_readSign_5 (by decide) (fun c_2 => ?_) (fun c_2 => ?_) -- COND 2 by_cases c_2 : r1 = a1
  · have hF := ite_t hF c_2
    refine lv_aload_n hx hb dX0_readSign_10 rfl (lv_at hl 0 rfl) ?_
    refine lv_dup hx hb dX0_readSign_11 rfl ?_
    refine get_0_10 C hP (lr_29 hL) (lk_29 hL) inlX0 mw_120 dX0_readSign_12 ?_
    refine lv_iconst (v := 1) hx hb dX0_readSign_15 (by decide) ?_
    refine lv_iadd hx hb dX0_readSign_16 ?_
    obtain ⟨x3, ex3, hF⟩ := nm_1 hF
    refine x_top ex3 ?_
    obtain ⟨σ5, eσ5, hF⟩ := nm_1 hF
    refine put_0_10 C hP hS (lr_29 hL) (lk_29 hL) inlX0 mw_120 eσ5 dX0_readSign_17 (fun H locs hP hS => ?_)
    refine lv_iconst (v := 1) hx hb dX0_readSign_20 (by decide) ?_
    obtain ⟨rfl, rfl⟩ := ret_2 hF
    subst hρ0
    exact x_zret rfl rfl C hP hS dX0_readSign_21
  · have hF := ite_f hF c_2
    refine lv_iconst (v := 0) hx hb dX0_readSign_8 (by decide) ?_
    obtain ⟨rfl, rfl⟩ := ret_2 hF
    subst hρ0
    exact x_zret rfl rfl C hP hS dX0_readSign_9
set_option maxHeartbeats 4000000 in
set_option maxRecDepth 100000 in
theorem c_X0_readSign {a1 : Int32} {r : Int32} {σ1 : SG} {σ : SG} {ρ : RG} (hL : Lay N K len ρ) (hF : F_X0_readSign a1 σ ρ = some (r, σ1)) : MT l Y D N ad K len yX0_readSign (Cond.code yX0_readSign cX0_readSign 2 (some .boolean) :: wsL_law) rm_X0_readSign [.ref (ad 29), .int a1] σ ρ (some (.int r)) σ1 ρ := by
  refine mt_of (cc := cX0_readSign) (nL := 2) (ret := (some .boolean)) (by decide) (Nat.le_of_ble_eq_true rfl) ?_
  intro p e s m args below meth c ls C hnm hP hS hl
  exact w_X0_readSign_0 C rfl hL hF hP hS hl

/-! CutCrooked$Board.private boolean readNumber();  -/
theorem dX0_readNumber_0 : decode cX0_readNumber 0 = .ok (.aload_n 0, 1) := by decide +kernel
theorem dX0_readNumber_1 : decode cX0_readNumber 1 = .ok (.invokevirtual 74, 3) := by decide +kernel
theorem dX0_readNumber_4 : decode cX0_readNumber 4 = .ok (.invokestatic 126, 3) := by decide +kernel
theorem dX0_readNumber_7 : decode cX0_readNumber 7 = .ok (.ifCond .ne 5, 3) := by decide +kernel
theorem dX0_readNumber_10 : decode cX0_readNumber 10 = .ok (.iconst 0, 1) := by decide +kernel
theorem dX0_readNumber_11 : decode cX0_readNumber 11 = .ok (.ireturn, 1) := by decide +kernel
theorem dX0_readNumber_12 : decode cX0_readNumber 12 = .ok (.aload_n 0, 1) := by decide +kernel
theorem dX0_readNumber_13 : decode cX0_readNumber 13 = .ok (.aload_n 0, 1) := by decide +kernel
theorem dX0_readNumber_14 : decode cX0_readNumber 14 = .ok (.invokevirtual 74, 3) := by decide +kernel
theorem dX0_readNumber_17 : decode cX0_readNumber 17 = .ok (.bipush 48, 2) := by decide +kernel
theorem dX0_readNumber_19 : decode cX0_readNumber 19 = .ok (.isub, 1) := by decide +kernel
theorem dX0_readNumber_20 : decode cX0_readNumber 20 = .ok (.putfield 87, 3) := by decide +kernel
theorem dX0_readNumber_23 : decode cX0_readNumber 23 = .ok (.aload_n 0, 1) := by decide +kernel
theorem dX0_readNumber_24 : decode cX0_readNumber 24 = .ok (.dup, 1) := by decide +kernel
theorem dX0_readNumber_25 : decode cX0_readNumber 25 = .ok (.getfield 63, 3) := by decide +kernel
theorem dX0_readNumber_28 : decode cX0_readNumber 28 = .ok (.iconst 1, 1) := by decide +kernel
theorem dX0_readNumber_29 : decode cX0_readNumber 29 = .ok (.iadd, 1) := by decide +kernel
theorem dX0_readNumber_30 : decode cX0_readNumber 30 = .ok (.putfield 63, 3) := by decide +kernel
theorem dX0_readNumber_33 : decode cX0_readNumber 33 = .ok (.aload_n 0, 1) := by decide +kernel
theorem dX0_readNumber_34 : decode cX0_readNumber 34 = .ok (.getfield 87, 3) := by decide +kernel
theorem dX0_readNumber_37 : decode cX0_readNumber 37 = .ok (.ifCond .eq 42, 3) := by decide +kernel
theorem dX0_readNumber_40 : decode cX0_readNumber 40 = .ok (.aload_n 0, 1) := by decide +kernel
theorem dX0_readNumber_41 : decode cX0_readNumber 41 = .ok (.invokevirtual 74, 3) := by decide +kernel
theorem dX0_readNumber_44 : decode cX0_readNumber 44 = .ok (.invokestatic 126, 3) := by decide +kernel
theorem dX0_readNumber_47 : decode cX0_readNumber 47 = .ok (.ifCond .eq 32, 3) := by decide +kernel
theorem dX0_readNumber_50 : decode cX0_readNumber 50 = .ok (.aload_n 0, 1) := by decide +kernel
theorem dX0_readNumber_51 : decode cX0_readNumber 51 = .ok (.aload_n 0, 1) := by decide +kernel
theorem dX0_readNumber_52 : decode cX0_readNumber 52 = .ok (.getfield 87, 3) := by decide +kernel
theorem dX0_readNumber_55 : decode cX0_readNumber 55 = .ok (.bipush 10, 2) := by decide +kernel
theorem dX0_readNumber_57 : decode cX0_readNumber 57 = .ok (.imul, 1) := by decide +kernel
theorem dX0_readNumber_58 : decode cX0_readNumber 58 = .ok (.aload_n 0, 1) := by decide +kernel
theorem dX0_readNumber_59 : decode cX0_readNumber 59 = .ok (.invokevirtual 74, 3) := by decide +kernel
theorem dX0_readNumber_62 : decode cX0_readNumber 62 = .ok (.iadd, 1) := by decide +kernel
theorem dX0_readNumber_63 : decode cX0_readNumber 63 = .ok (.bipush 48, 2) := by decide +kernel
theorem dX0_readNumber_65 : decode cX0_readNumber 65 = .ok (.isub, 1) := by decide +kernel
theorem dX0_readNumber_66 : decode cX0_readNumber 66 = .ok (.putfield 87, 3) := by decide +kernel
theorem dX0_readNumber_69 : decode cX0_readNumber 69 = .ok (.aload_n 0, 1) := by decide +kernel
theorem dX0_readNumber_70 : decode cX0_readNumber 70 = .ok (.dup, 1) := by decide +kernel
theorem dX0_readNumber_71 : decode cX0_readNumber 71 = .ok (.getfield 63, 3) := by decide +kernel
theorem dX0_readNumber_74 : decode cX0_readNumber 74 = .ok (.iconst 1, 1) := by decide +kernel
theorem dX0_readNumber_75 : decode cX0_readNumber 75 = .ok (.iadd, 1) := by decide +kernel
theorem dX0_readNumber_76 : decode cX0_readNumber 76 = .ok (.putfield 63, 3) := by decide +kernel
theorem dX0_readNumber_79 : decode cX0_readNumber 79 = .ok (.iconst 1, 1) := by decide +kernel
theorem dX0_readNumber_80 : decode cX0_readNumber 80 = .ok (.ireturn, 1) := by decide +kernel
theorem hd_X0_readNumber : yX0_readNumber.cls = RX0 ∧ yX0_readNumber.cls ≠ "java/lang/invoke/MethodHandle" ∧ yX0_readNumber.cls ≠ "java/lang/invoke/VarHandle" ∧ (parseMethodDescriptor yX0_readNumber.desc).map (fun d => d.parameters.length) = some 0 := by decide +kernel
abbrev rm_X0_readNumber : Room := { frames := 1, cells := 0, slots := 0, locals := 20 }
def F_X0_readNumber  (σ : SG) (ρ : RG) : Option (Int32 × SG) :=
  bn (F_X0_next σ ρ) fun r1 =>
  bn (F_X0_isDigit r1 σ ρ) fun r2 =>
  if r2 = 0 then
    some ((0 : Int32), σ)
  else
    bn (F_X0_next σ ρ) fun r4 =>
    nm (r4 - (48 : Int32)) fun x5 =>
    nm (s2 σ 29 11 x5) fun σ7 =>
    nm ((σ7 29 10) + (1 : Int32)) fun x8 =>
    nm (s2 σ7 29 10 x8) fun σ10 =>
    if (σ10 29 11) = 0 then
      some ((1 : Int32), σ10)
    else
      bn (F_X0_next σ10 ρ) fun r12 =>
      bn (F_X0_isDigit r12 σ10 ρ) fun r13 =>
      if r13 = 0 then
        some ((1 : Int32), σ10)
      else
        nm ((σ10 29 11) * (10 : Int32)) fun x15 =>
        bn (F_X0_next σ10 ρ) fun r16 =>
        nm (x15 + r16) fun x17 =>
        nm (x17 - (48 : Int32)) fun x18 =>
        nm (s2 σ10 29 11 x18) fun σ20 =>
        nm ((σ20 29 10) + (1 : Int32)) fun x21 =>
        nm (s2 σ20 29 10 x21) fun σ23 =>
        some ((1 : Int32), σ23)
set_option maxHeartbeats 4000000 in
set_option maxRecDepth 100000 in
theorem w_X0_readNumber_0  {p : Program} {e : Env} {s : State} {m : MethodId} {args : Array Value} {below : List Frame} {meth : Method} {c : Code} {ρ0 : RG} {r : Int32} {σ1 : SG} (C : Cx Y D N ad p s m args meth c cX0_readNumber 1 (some .boolean) RX0 wsL_law) {σ : SG} {ρ : RG} {H : Heap} {locs : List Loc} {ls : Array Slot} (hρ0 : ρ = ρ0) (hL : Lay N K len ρ) (hF : F_X0_readNumber σ ρ = some (r, σ1)) (hP : WP Y D N ad K len σ ρ H) (hS : va_S (AA N ad s.heap.size) s.heap H locs) (hl : lv_has ls 1 [(0, .ref (ad 29))]) : W p l e rm_X0_readNumber s m args below meth c H locs 0 0 (MQ below (QW Y D N ad K len σ1 ρ0 (AA N ad s.heap.size) (some (.int r))) args s 0 0 (AA N ad s.heap.size)) (F0 m 0 ls []) := by
  have hx := C.1.1
  have hb := C.1.2.1
  unfold F_X0_readNumber at hF
  refine lv_aload_n hx hb dX0_readNumber_0 rfl (lv_at hl 0 rfl) ?_
  obtain ⟨r1, hq1, hF⟩ := bn_1 hF
  refine x_callV (ci := 0) rfl rfl C hP hS (c_X0_next hL hq1) (lr_29 hL) (lk_29 hL) (cwV 0 C.1.2.2.2.2 (gdV mw_128 mw_129 mw_130 mw_23 mw_131) rfl rfl rfl hd_X0_next ⟨Nat.le_of_ble_eq_true rfl, Nat.le_of_ble_eq_true rfl⟩) rfl rfl hl.1 (Nat.le_of_ble_eq_true rfl) ⟨Nat.zero_le _, Nat.zero_le _⟩ dX0_readNumber_1 (fun H locs hP hS => ?_)
  obtain ⟨r2, hq2, hF⟩ := bn_1 hF
  refine x_callS C hP hS (c_X0_isDigit hL hq2) (va_cwS 1 C.1.2.2.2.2 (gdS mw_193 mw_194 mw_23 mw_195) rfl rfl rfl hd_X0_isDigit.2 ⟨Nat.le_of_ble_eq_true rfl, Nat.le_of_ble_eq_true rfl⟩) rfl rfl hl.1 (Nat.le_of_ble_eq_true rfl) ⟨Nat.zero_le _, Nat.zero_le _⟩ dX0_readNumber_4 (fun H locs hP hS => ?_)
  refine lv_if_ne (tgt := 12) hx hb dX0_readNumber_7 (by decide) (fun c_3 => ?_) (fun c_3 => ?_) -- COND 3 rcases (Decidable.em (r2 = 0)).symm with c_3 | c_3
  · have hF := ite_f hF c_3
    refine lv_aload_n hx hb dX0_readNumber_12 rfl (lv_at hl 0 rfl) ?_
    refine lv_aload_n hx hb dX0_readNumber_13 rfl (lv_at hl 0 rfl) ?_
    obtain ⟨r4, hq4, hF⟩ := bn_1 hF
    refine x_callV (ci := 0) rfl rfl C hP hS (c_X0_next hL hq4) (lr_29 hL) (lk_29 hL) (cwV 0 C.1.2.2.2.2 (gdV mw_128 mw_129 mw_130 mw_23 mw_131) rfl rfl rfl hd_X0_next ⟨Nat.le_of_ble_eq_true rfl, Nat.le_of_ble_eq_true rfl⟩) rfl rfl hl.1 (Nat.le_of_ble_eq_true rfl) ⟨Nat.zero_le _, Nat.zero_le _⟩ dX0_readNumber_14 (fun H locs hP hS => ?_)
    refine lv_bipush (v := 48) hx hb dX0_readNumber_17 (by decide +kernel) ?_
    refine lv_isub hx hb dX0_readNumber_19 ?_
    obtain ⟨x5, ex5, hF⟩ := nm_1 hF
    refine x_top ex5 ?_
    obtain ⟨σ7, eσ7, hF⟩ := nm_1 hF
    refine put_0_11 C hP hS (lr_29 hL) (lk_29 hL) inlX0 mw_127 eσ7 dX0_readNumber_20 (fun H locs hP hS => ?_)
    refine lv_aload_n hx hb dX0_readNumber_23 rfl (lv_at hl 0 rfl) ?_
    refine lv_dup hx hb dX0_readNumber_24 rfl ?_
    refine get_0_10 C hP (lr_29 hL) (lk_29 hL) inlX0 mw_120 dX0_readNumber_25 ?_
    refine lv_iconst (v := 1) hx hb dX0_readNumber_28 (by decide) ?_
    refine lv_iadd hx hb dX0_readNumber_29 ?_
    obtain ⟨x8, ex8, hF⟩ := nm_1 hF
    refine x_top ex8 ?_
    obtain ⟨σ10, eσ10, hF⟩ := nm_1 hF
    refine put_0_10 C hP hS (lr_29 hL) (lk_29 hL) inlX0 mw_120 eσ10 dX0_readNumber_30 (fun H locs hP hS => ?_)
    refine lv_aload_n hx hb dX0_readNumber_33 rfl (lv_at hl 0 rfl) ?_
    refine get_0_11 C hP (lr_29 hL) (lk_29 hL) inlX0 mw_127 dX0_readNumber_34 ?_
    refine lv_if_eq (tgt := 79) hx hb dX0_readNumber_37 (by decide) (fun c_11 => ?_) (fun c_11 => ?_) -- COND 11 by_cases c_11 : (σ10 29 11) = 0
    · have hF := ite_t hF c_11
      refine lv_iconst (v := 1) hx hb dX0_readNumber_79 (by decide) ?_
      obtain ⟨rfl, rfl⟩ := ret_2 hF
      subst hρ0
      exact x_zret rfl rfl C hP hS dX0_readNumber_80
    · have hF := ite_f hF c_11
      refine lv_aload_n hx hb dX0_readNumber_40 rfl (lv_at hl 0 rfl) ?_
      obtain ⟨r12, hq12, hF⟩ := bn_1 hF
      refine x_callV (ci := 0) rfl rfl C hP hS (c_X0_next hL hq12) (lr_29 hL) (lk_29 hL) (cwV 0 C.1.2.2.2.2 (gdV mw_128 mw_129 mw_130 mw_23 mw_131) rfl rfl rfl hd_X0_next ⟨Nat.le_of_ble_eq_true rfl, Nat.le_of_ble_eq_true rfl⟩) rfl rfl hl.1 (Nat.le_of_ble_eq_true rfl) ⟨Nat.zero_le _, Nat.zero_le _⟩ dX0_readNumber_41 (fun H locs hP hS => ?_)
      obtain ⟨r13, hq13, hF⟩ := bn_1 hF
      refine x_callS C hP hS (c_X0_isDigit hL hq13) (va_cwS 1 C.1.2.2.2.2 (gdS mw_193 mw_194 mw_23 mw_195) rfl rfl rfl hd_X0_isDigit.2 ⟨Nat.le_of_ble_eq_true rfl, Nat.le_of_ble_eq_true rfl⟩) rfl rfl hl.1 (Nat.le_of_ble_eq_true rfl) ⟨Nat.zero_le _, Nat.zero_le _⟩ dX0_readNumber_44 (fun H locs hP hS => ?_)
      refine lv_if_eq (tgt := 79) hx hb dX0_readNumber_47 (by decide) (fun c_14 => ?_) (fun c_14 => ?_) -- COND 14 by_cases c_14 : r13 = 0
      · have hF := ite_t hF c_14
        refine lv_iconst (v := 1) hx hb dX0_readNumber_79 (by decide) ?_
        obtain ⟨rfl, rfl⟩ := ret_2 hF
        subst hρ0
        exact x_zret rfl rfl C hP hS dX0_readNumber_80
      · have hF := ite_f hF c_14
        refine lv_aload_n hx hb dX0_readNumber_50 rfl (lv_at hl 0 rfl) ?_
        refine lv_aload_n hx hb dX0_readNumber_51 rfl (lv_at hl 0 rfl) ?_
        refine get_0_11 C hP (lr_29 hL) (lk_29 hL) inlX0 mw_127 dX0_readNumber_52 ?_
        refine lv_bipush (v := 10) hx hb dX0_readNumber_55 (by decide +kernel) ?_
        refine lv_imul hx hb dX0_readNumber_57 ?_
        obtain ⟨x15, ex15, hF⟩ := nm_1 hF
        refine x_top ex15 ?_
        refine lv_aload_n hx hb dX0_readNumber_58 rfl (lv_at hl 0 rfl) ?_
        obtain ⟨r16, hq16, hF⟩ := bn_1 hF
        refine x_callV (ci := 0) rfl rfl C hP hS (c_X0_next hL hq16) (lr_29 hL) (lk_29 hL) (cwV 0 C.1.2.2.2.2 (gdV mw_128 mw_129 mw_130 mw_23 mw_131) rfl rfl rfl hd_X0_next ⟨Nat.le_of_ble_eq_true rfl, Nat.le_of_ble_eq_true rfl⟩) rfl rfl hl.1 (Nat.le_of_ble_eq_true rfl) ⟨Nat.zero_le _, Nat.zero_le _⟩ dX0_readNumber_59 (fun H locs hP hS => ?_)
        refine lv_iadd hx hb dX0_readNumber_62 ?_
        obtain ⟨x17, ex17, hF⟩ := nm_1 hF
        refine x_top ex17 ?_
        refine lv_bipush (v := 48) hx hb dX0_readNumber_63 (by decide +kernel) ?_
        refine lv_isub hx hb dX0_readNumber_65 ?_
        obtain ⟨x18, ex18, hF⟩ := nm_1 hF
        refine x_top ex18 ?_
        obtain ⟨σ20, eσ20, hF⟩ := nm_1 hF
        refine put_0_11 C hP hS (lr_29 hL) (lk_29 hL) inlX0 mw_127 eσ20 dX0_readNumber_66 (fun H locs hP hS => ?_)
        refine lv_aload_n hx hb dX0_readNumber_69 rfl (lv_at hl 0 rfl) ?_
        refine lv_dup hx hb dX0_readNumber_70 rfl ?_
        refine get_0_10 C hP (lr_29 hL) (lk_29 hL) inlX0 mw_120 dX0_readNumber_71 ?_
        refine lv_iconst (v := 1) hx hb dX0_readNumber_74 (by decide) ?_
        refine lv_iadd hx hb dX0_readNumber_75 ?_
        obtain ⟨x21, ex21, hF⟩ := nm_1 hF
        refine x_top ex21 ?_
        obtain ⟨σ23, eσ23, hF⟩ := nm_1 hF
        refine put_0_10 C hP hS (lr_29 hL) (lk_29 hL) inlX0 mw_120 eσ23 dX0_readNumber_76 (fun H locs hP hS => ?_)
        refine lv_iconst (v := 1) hx hb dX0_readNumber_79 (by decide) ?_
        obtain ⟨rfl, rfl⟩ := ret_2 hF
        subst hρ0
        exact x_zret rfl rfl C hP hS dX0_readNumber_80
  · have hF := ite_t hF c_3
    refine lv_iconst (v := 0) hx hb dX0_readNumber_10 (by decide) ?_
    obtain ⟨rfl, rfl⟩ := ret_2 hF
    subst hρ0
    exact x_zret rfl rfl C hP hS dX0_readNumber_11
set_option maxHeartbeats 4000000 in
set_option maxRecDepth 100000 in
theorem c_X0_readNumber  {r : Int32} {σ1 : SG} {σ : SG} {ρ : RG} (hL : Lay N K len ρ) (hF : F_X0_readNumber σ ρ = some (r, σ1)) : MT l Y D N ad K len yX0_readNumber (Cond.code yX0_readNumber cX0_readNumber 1 (some .boolean) :: wsL_law) rm_X0_readNumber [.ref (ad 29)] σ ρ (some (.int r)) σ1 ρ := by
  refine mt_of (cc := cX0_readNumber) (nL := 1) (ret := (some .boolean)) (by decide) (Nat.le_of_ble_eq_true rfl) ?_
  intro p e s m args below meth c ls C hnm hP hS hl
  exact w_X0_readNumber_0 C rfl hL hF hP hS hl

/-! CutCrooked$Board.private boolean put(int);  -/
theorem dX0_put_0 : decode cX0_put 0 = .ok (.aload_n 0, 1) := by decide +kernel
theorem dX0_put_1 : decode cX0_put 1 = .ok (.getfield 35, 3) := by decide +kernel
theorem dX0_put_4 : decode cX0_put 4 = .ok (.ifCond .lt 15, 3) := by decide +kernel
theorem dX0_put_7 : decode cX0_put 7 = .ok (.aload_n 0, 1) := by decide +kernel
theorem dX0_put_8 : decode cX0_put 8 = .ok (.getfield 35, 3) := by decide +kernel
theorem dX0_put_11 : decode cX0_put 11 = .ok (.aload_n 0, 1) := by decide +kernel
theorem dX0_put_12 : decode cX0_put 12 = .ok (.getfield 29, 3) := by decide +kernel
theorem dX0_put_15 : decode cX0_put 15 = .ok (.arraylength, 1) := by decide +kernel
theorem dX0_put_16 : decode cX0_put 16 = .ok (.if_icmp .lt 5, 3) := by decide +kernel
theorem dX0_put_19 : decode cX0_put 19 = .ok (.iconst 0, 1) := by decide +kernel
theorem dX0_put_20 : decode cX0_put 20 = .ok (.ireturn, 1) := by decide +kernel
theorem dX0_put_21 : decode cX0_put 21 = .ok (.aload_n 0, 1) := by decide +kernel
theorem dX0_put_22 : decode cX0_put 22 = .ok (.getfield 29, 3) := by decide +kernel
theorem dX0_put_25 : decode cX0_put 25 = .ok (.aload_n 0, 1) := by decide +kernel
theorem dX0_put_26 : decode cX0_put 26 = .ok (.getfield 35, 3) := by decide +kernel
theorem dX0_put_29 : decode cX0_put 29 = .ok (.iload_n 1, 1) := by decide +kernel
theorem dX0_put_30 : decode cX0_put 30 = .ok (.iastore, 1) := by decide +kernel
theorem dX0_put_31 : decode cX0_put 31 = .ok (.aload_n 0, 1) := by decide +kernel
theorem dX0_put_32 : decode cX0_put 32 = .ok (.dup, 1) := by decide +kernel
theorem dX0_put_33 : decode cX0_put 33 = .ok (.getfield 35, 3) := by decide +kernel
theorem dX0_put_36 : decode cX0_put 36 = .ok (.iconst 1, 1) := by decide +kernel
theorem dX0_put_37 : decode cX0_put 37 = .ok (.iadd, 1) := by decide +kernel
theorem dX0_put_38 : decode cX0_put 38 = .ok (.putfield 35, 3) := by decide +kernel
theorem dX0_put_41 : decode cX0_put 41 = .ok (.iconst 1, 1) := by decide +kernel
theorem dX0_put_42 : decode cX0_put 42 = .ok (.ireturn, 1) := by decide +kernel
theorem hd_X0_put : yX0_put.cls = RX0 ∧ yX0_put.cls ≠ "java/lang/invoke/MethodHandle" ∧ yX0_put.cls ≠ "java/lang/invoke/VarHandle" ∧ (parseMethodDescriptor yX0_put.desc).map (fun d => d.parameters.length) = some 1 := by decide +kernel
abbrev rm_X0_put : Room := { frames := 0, cells := 0, slots := 0, locals := 0 }
def F_X0_put (a1 : Int32) (σ : SG) (ρ : RG) : Option (Int32 × SG) :=
  if (σ 29 7) < 0 then
    some ((0 : Int32), σ)
  else
    if (σ 29 7) < (100 : Int32) then
      gd (inb (σ 29 7) 100) <|
      nm (s2 σ 33 ((σ 29 7)).toNatClampNeg a1) fun σ5 =>
      nm ((σ5 29 7) + (1 : Int32)) fun x6 =>
      nm (s2 σ5 29 7 x6) fun σ8 =>
      some ((1 : Int32), σ8)
    else
      some ((0 : Int32), σ)
set_option maxHeartbeats 4000000 in
set_option maxRecDepth 100000 in
theorem w_X0_put_0 {a1 : Int32} {p : Program} {e : Env} {s : State} {m : MethodId} {args : Array Value} {below : List Frame} {meth : Method} {c : Code} {ρ0 : RG} {r : Int32} {σ1 : SG} (C : Cx Y D N ad p s m args meth c cX0_put 2 (some .boolean) RX0 wsL_law) {σ : SG} {ρ : RG} {H : Heap} {locs : List Loc} {ls : Array Slot} (hρ0 : ρ = ρ0) (hL : Lay N K len ρ) (hF : F_X0_put a1 σ ρ = some (r, σ1)) (hP : WP Y D N ad K len σ ρ H) (hS : va_S (AA N ad s.heap.size) s.heap H locs) (hl : lv_has ls 2 [(0, .ref (ad 29)), (1, .int a1)]) : W p l e rm_X0_put s m args below meth c H locs 0 0 (MQ below (QW Y D N ad K len σ1 ρ0 (AA N ad s.heap.size) (some (.int r))) args s 0 0 (AA N ad s.heap.size)) (F0 m 0 ls []) := by
  have hx := C.1.1
  have hb := C.1.2.1
  unfold F_X0_put at hF
  refine lv_aload_n hx hb dX0_put_0 rfl (lv_at hl 0 rfl) ?_
  refine get_0_7 C hP (lr_29 hL) (lk_29 hL) inlX0 mw_122 dX0_put_1 ?_
  refine lv_if_lt (tgt := 19) hx hb dX0_put_4 (by decide) (fun c_1 => ?_) (fun c_1 => ?_) -- COND 1 by_cases c_1 : (σ 29 7) < 0
  · have hF := ite_t hF c_1
    refine lv_iconst (v := 0) hx hb dX0_put_19 (by decide) ?_
    obtain ⟨rfl, rfl⟩ := ret_2 hF
    subst hρ0
    exact x_zret rfl rfl C hP hS dX0_put_20
  · have hF := ite_f hF c_1
    refine lv_aload_n hx hb dX0_put_7 rfl (lv_at hl 0 rfl) ?_
    refine get_0_7 C hP (lr_29 hL) (lk_29 hL) inlX0 mw_122 dX0_put_8 ?_
    refine lv_aload_n hx hb dX0_put_11 rfl (lv_at hl 0 rfl) ?_
    refine get_0_6 C hP (lr_29 hL) (lk_29 hL) inlX0 mw_62 (lf_29_6 hL) dX0_put_12 ?_
    refine x_alen (v := (100 : Int32)) C hP (lr_33 hL) (lk_33 hL) (by decide) (ln_33 hL) (by decide +kernel) dX0_put_15 ?_
    refine lv_icmp_lt (tgt := 21) hx hb dX0_put_16 (by decide) (fun c_2 => ?_) (fun c_2 => ?_) -- COND 2 by_cases c_2 : (σ 29 7) < (100 : Int32)
    · have hF := ite_t hF c_2
      refine lv_aload_n hx hb dX0_put_21 rfl (lv_at hl 0 rfl) ?_
      refine get_0_6 C hP (lr_29 hL) (lk_29 hL) inlX0 mw_62 (lf_29_6 hL) dX0_put_22 ?_
      refine lv_aload_n hx hb dX0_put_25 rfl (lv_at hl 0 rfl) ?_
      refine get_0_7 C hP (lr_29 hL) (lk_29 hL) inlX0 mw_122 dX0_put_26 ?_
      refine lv_iload_n hx hb dX0_put_29 rfl (lv_at hl 1 rfl) ?_
      obtain ⟨g3, hF⟩ := gd_1 hF
      obtain ⟨σ5, eσ5, hF⟩ := nm_1 hF
      refine x_iast (σ1 := σ5) C hP hS (lr_33 hL) (lk_33 hL) (ln_33 hL) g3 eσ5 dX0_put_30 (fun H locs hP hS => ?_)
      refine lv_aload_n hx hb dX0_put_31 rfl (lv_at hl 0 rfl) ?_
      refine lv_dup hx hb dX0_put_32 rfl ?_
      refine get_0_7 C hP (lr_29 hL) (lk_29 hL) inlX0 mw_122 dX0_put_33 ?_
      refine lv_iconst (v := 1) hx hb dX0_put_36 (by decide) ?_
      refine lv_iadd hx hb dX0_put_37 ?_
      obtain ⟨x6, ex6, hF⟩ := nm_1 hF
      refine x_top ex6 ?_
      obtain ⟨σ8, eσ8, hF⟩ := nm_1 hF
      refine put_0_7 C hP hS (lr_29 hL) (lk_29 hL) inlX0 mw_122 eσ8 dX0_put_38 (fun H locs hP hS => ?_)
      refine lv_iconst (v := 1) hx hb dX0_put_41 (by decide) ?_
      obtain ⟨rfl, rfl⟩ := ret_2 hF
      subst hρ0
      exact x_zret rfl rfl C hP hS dX0_put_42
    · have hF := ite_f hF c_2
      refine lv_iconst (v := 0) hx hb dX0_put_19 (by decide) ?_
      obtain ⟨rfl, rfl⟩ := ret_2 hF
      subst hρ0
      exact x_zret rfl rfl C hP hS dX0_put_20
set_option maxHeartbeats 4000000 in
set_option maxRecDepth 100000 in
theorem c_X0_put {a1 : Int32} {r : Int32} {σ1 : SG} {σ : SG} {ρ : RG} (hL : Lay N K len ρ) (hF : F_X0_put a1 σ ρ = some (r, σ1)) : MT l Y D N ad K len yX0_put (Cond.code yX0_put cX0_put 2 (some .boolean) :: wsL_law) rm_X0_put [.ref (ad 29), .int a1] σ ρ (some (.int r)) σ1 ρ := by
  refine mt_of (cc := cX0_put) (nL := 2) (ret := (some .boolean)) (by decide) (Nat.le_of_ble_eq_true rfl) ?_
  intro p e s m args below meth c ls C hnm hP hS hl
  exact w_X0_put_0 C rfl hL hF hP hS hl

/-! CutCrooked$Board.private boolean readWord(java.lang.String);  -/
theorem dX0_readWord_0 : decode cX0_readWord 0 = .ok (.iconst 0, 1) := by decide +kernel
theorem dX0_readWord_1 : decode cX0_readWord 1 = .ok (.istore_n 2, 1) := by decide +kernel
theorem dX0_readWord_2 : decode cX0_readWord 2 = .ok (.iload_n 2, 1) := by decide +kernel
theorem dX0_readWord_3 : decode cX0_readWord 3 = .ok (.aload_n 1, 1) := by decide +kernel
theorem dX0_readWord_4 : decode cX0_readWord 4 = .ok (.invokevirtual 129, 3) := by decide +kernel
theorem dX0_readWord_7 : decode cX0_readWord 7 = .ok (.if_icmp .ge 23, 3) := by decide +kernel
theorem dX0_readWord_10 : decode cX0_readWord 10 = .ok (.aload_n 0, 1) := by decide +kernel
theorem dX0_readWord_11 : decode cX0_readWord 11 = .ok (.aload_n 1, 1) := by decide +kernel
theorem dX0_readWord_12 : decode cX0_readWord 12 = .ok (.iload_n 2, 1) := by decide +kernel
theorem dX0_readWord_13 : decode cX0_readWord 13 = .ok (.invokevirtual 132, 3) := by decide +kernel
theorem dX0_readWord_16 : decode cX0_readWord 16 = .ok (.invokevirtual 70, 3) := by decide +kernel
theorem dX0_readWord_19 : decode cX0_readWord 19 = .ok (.ifCond .ne 5, 3) := by decide +kernel
theorem dX0_readWord_22 : decode cX0_readWord 22 = .ok (.iconst 0, 1) := by decide +kernel
theorem dX0_readWord_23 : decode cX0_readWord 23 = .ok (.ireturn, 1) := by decide +kernel
theorem dX0_readWord_24 : decode cX0_readWord 24 = .ok (.iinc 2 1, 3) := by decide +kernel
theorem dX0_readWord_27 : decode cX0_readWord 27 = .ok (.goto (-25), 3) := by decide +kernel
theorem dX0_readWord_30 : decode cX0_readWord 30 = .ok (.iconst 1, 1) := by decide +kernel
theorem dX0_readWord_31 : decode cX0_readWord 31 = .ok (.ireturn, 1) := by decide +kernel
theorem hd_X0_readWord : yX0_readWord.cls = RX0 ∧ yX0_readWord.cls ≠ "java/lang/invoke/MethodHandle" ∧ yX0_readWord.cls ≠ "java/lang/invoke/VarHandle" ∧ (parseMethodDescriptor yX0_readWord.desc).map (fun d => d.parameters.length) = some 1 := by decide +kernel
abbrev rm_X0_readWord : Room := { frames := 4, cells := 0, slots := 0, locals := 85 }
def F_X0_readWord_2 (w : Nat) : Nat → SG → RG → Int32 → Option (Int32 × SG)
  | 0 => fun _ _ _ => none
  | n + 1 => fun σ ρ v2 =>
  bn (F_J0_length_8abf5 w σ ρ) fun r1 =>
  if r1 ≤ v2 then
    some ((1 : Int32), σ)
  else
    bn (F_J0_charAt_5068e w v2 σ ρ) fun r3 =>
    bn2 (F_X0_readSign r3 σ ρ) fun r4 σ4 =>
    if r4 = 0 then
      some ((0 : Int32), σ4)
    else
      nm (v2 + (1 : Int32)) fun x6 =>
      F_X0_readWord_2 w n σ4 ρ x6
def F_X0_readWord (w : Nat) (σ : SG) (ρ : RG) : Option (Int32 × SG) :=
  F_X0_readWord_2 w 1024 σ ρ (0 : Int32)
set_option maxHeartbeats 4000000 in
set_option maxRecDepth 100000 in
theorem w_X0_readWord_2 {w : Nat} {p : Program} {e : Env} {s : State} {m : MethodId} {args : Array Value} {below : List Frame} {meth : Method} {c : Code} {ρ0 : RG} {r : Int32} {σ1 : SG} (C : Cx Y D N ad p s m args meth c cX0_readWord 3 (some .boolean) RX0 wsL_law) : ∀ (n : Nat) (σ : SG) (ρ : RG) (v2 : Int32) (H : Heap) (locs : List Loc) (ls : Array Slot), ρ = ρ0 → Lay N K len ρ → w < 6 → F_X0_readWord_2 w n σ ρ v2 = some (r, σ1) → WP Y D N ad K len σ ρ H → va_S (AA N ad s.heap.size) s.heap H locs → lv_has ls 3 [(0, .ref (ad 29)), (1, .ref (saK Y w)), (2, .int v2)] → W p l e rm_X0_readWord s m args below meth c H locs 0 0 (MQ below (QW Y D N ad K len σ1 ρ0 (AA N ad s.heap.size) (some (.int r))) args s 0 0 (AA N ad s.heap.size)) (F0 m 2 ls []) := by
  have hx := C.1.1
  have hb := C.1.2.1
  intro n
  induction n with
  | zero => intro σ ρ v2 H locs ls hρ0 hL hw hF; cases hF
  | succ n ih =>
    intro σ ρ v2 H locs ls hρ0 hL hw hF hP hS hl
    unfold F_X0_readWord_2 at hF
    refine lv_iload_n hx hb dX0_readWord_2 rfl (lv_at hl 2 rfl) ?_
    refine lv_aload_n hx hb dX0_readWord_3 rfl (lv_at hl 1 rfl) ?_
    obtain ⟨r1, hq1, hF⟩ := bn_1 hF
    refine x_callVs hw C hP hS (c_J0_length_8abf5 hL hw hq1) (cwV 0 C.1.2.2.2.2 (gdV mw_136 mw_137 mw_138 mw_139 mw_140) rfl rfl rfl hd_J0_length_8abf5 ⟨Nat.le_of_ble_eq_true rfl, Nat.le_of_ble_eq_true rfl⟩) rfl rfl hl.1 (Nat.le_of_ble_eq_true rfl) ⟨Nat.zero_le _, Nat.zero_le _⟩ dX0_readWord_4 (fun H locs hP hS => ?_)
    refine lv_icmp_ge (tgt := 30) hx hb dX0_readWord_7 (by decide) (fun c_2 => ?_) (fun c_2 => ?_) -- COND 2 by_cases c_2 : r1 ≤ v2
    · have hF := ite_t hF c_2
      refine lv_iconst (v := 1) hx hb dX0_readWord_30 (by decide) ?_
      obtain ⟨rfl, rfl⟩ := ret_2 hF
      subst hρ0
      exact x_zret rfl rfl C hP hS dX0_readWord_31
    · have hF := ite_f hF c_2
      refine lv_aload_n hx hb dX0_readWord_10 rfl (lv_at hl 0 rfl) ?_
      refine lv_aload_n hx hb dX0_readWord_11 rfl (lv_at hl 1 rfl) ?_
      refine lv_iload_n hx hb dX0_readWord_12 rfl (lv_at hl 2 rfl) ?_
      obtain ⟨r3, hq3, hF⟩ := bn_1 hF
      refine x_callVs hw C hP hS (c_J0_charAt_5068e hL hw hq3) (cwV 1 C.1.2.2.2.2 (gdV mw_148 mw_149 mw_150 mw_139 mw_151) rfl rfl rfl hd_J0_charAt_5068e ⟨Nat.le_of_ble_eq_true rfl, Nat.le_of_ble_eq_true rfl⟩) rfl rfl hl.1 (Nat.le_of_ble_eq_true rfl) ⟨Nat.zero_le _, Nat.zero_le _⟩ dX0_readWord_13 (fun H locs hP hS => ?_)
      obtain ⟨r4, σ4, hq4, hF⟩ := bn2_1 hF
      refine x_callV (ci := 0) rfl rfl C hP hS (c_X0_readSign hL hq4) (lr_29 hL) (lk_29 hL) (cwV 1 C.1.2.2.2.2 (gdV mw_185 mw_186 mw_187 mw_23 mw_188) rfl rfl rfl hd_X0_readSign ⟨Nat.le_of_ble_eq_true rfl, Nat.le_of_ble_eq_true rfl⟩) rfl rfl hl.1 (Nat.le_of_ble_eq_true rfl) ⟨Nat.zero_le _, Nat.zero_le _⟩ dX0_readWord_16 (fun H locs hP hS => ?_)
      refine lv_if_ne (tgt := 24) hx hb dX0_readWord_19 (by decide) (fun c_5 => ?_) (fun c_5 => ?_) -- COND 5 rcases (Decidable.em (r4 = 0)).symm with c_5 | c_5
      · have hF := ite_f hF c_5
        obtain ⟨x6, ex6, hF⟩ := nm_1 hF
        refine lv_iinc (v := x6) (lv' := [(2, .int x6), (0, .ref (ad 29)), (1, .ref (saK Y w))]) hx hb dX0_readWord_24 hl (k := 2) rfl (by rw [ex6]; first | rfl | decide) (by decide) rfl (fun ls hl => ?_)
        refine lv_goto (tgt := 2) hx hb dX0_readWord_27 (by decide) ?_
        exact ih _ _ _ _ _ _ hρ0 hL hw hF hP hS (lv_sub hl [1, 2, 0] rfl)
      · have hF := ite_t hF c_5
        refine lv_iconst (v := 0) hx hb dX0_readWord_22 (by decide) ?_
        obtain ⟨rfl, rfl⟩ := ret_2 hF
        subst hρ0
        exact x_zret rfl rfl C hP hS dX0_readWord_23
set_option maxHeartbeats 4000000 in
set_option maxRecDepth 100000 in
theorem w_X0_readWord_0 {w : Nat} {p : Program} {e : Env} {s : State} {m : MethodId} {args : Array Value} {below : List Frame} {meth : Method} {c : Code} {ρ0 : RG} {r : Int32} {σ1 : SG} (C : Cx Y D N ad p s m args meth c cX0_readWord 3 (some .boolean) RX0 wsL_law) {σ : SG} {ρ : RG} {H : Heap} {locs : List Loc} {ls : Array Slot} (hρ0 : ρ = ρ0) (hL : Lay N K len ρ) (hw : w < 6) (hF : F_X0_readWord w σ ρ = some (r, σ1)) (hP : WP Y D N ad K len σ ρ H) (hS : va_S (AA N ad s.heap.size) s.heap H locs) (hl : lv_has ls 3 [(0, .ref (ad 29)), (1, .ref (saK Y w))]) : W p l e rm_X0_readWord s m args below meth c H locs 0 0 (MQ below (QW Y D N ad K len σ1 ρ0 (AA N ad s.heap.size) (some (.int r))) args s 0 0 (AA N ad s.heap.size)) (F0 m 0 ls []) := by
  have hx := C.1.1
  have hb := C.1.2.1
  unfold F_X0_readWord at hF
  refine lv_iconst (v := 0) hx hb dX0_readWord_0 (by decide) ?_
  refine lv_istore_n (lv' := [(2, .int (0 : Int32)), (0, .ref (ad 29)), (1, .ref (saK Y w))]) hx hb dX0_readWord_1 rfl hl (by decide) rfl (fun ls hl => ?_)
  exact w_X0_readWord_2 C 1024 _ _ _ _ _ _ hρ0 hL hw hF hP hS (lv_sub hl [1, 2, 0] rfl)
set_option maxHeartbeats 4000000 in
set_option maxRecDepth 100000 in
theorem c_X0_readWord {w : Nat} {r : Int32} {σ1 : SG} {σ : SG} {ρ : RG} (hL : Lay N K len ρ) (hw : w < 6) (hF : F_X0_readWord w σ ρ = some (r, σ1)) : MT l Y D N ad K len yX0_readWord (Cond.code yX0_readWord cX0_readWord 3 (some .boolean) :: wsL_law) rm_X0_readWord [.ref (ad 29), .ref (saK Y w)] σ ρ (some (.int r)) σ1 ρ := by
  refine mt_of (cc := cX0_readWord) (nL := 3) (ret := (some .boolean)) (by decide) (Nat.le_of_ble_eq_true rfl) ?_
  intro p e s m args below meth c ls C hnm hP hS hl
  exact w_X0_readWord_0 C rfl hL hw hF hP hS hl

/-! CutCrooked$Board.private boolean readTest();  -/
theorem dX0_readTest_0 : decode cX0_readTest 0 = .ok (.ldc 116, 2) := by decide +kernel
theorem dX0_readTest_2 : decode cX0_readTest 2 = .ok (.aload_n 0, 1) := by decide +kernel
theorem dX0_readTest_3 : decode cX0_readTest 3 = .ok (.invokevirtual 74, 3) := by decide +kernel
theorem dX0_readTest_6 : decode cX0_readTest 6 = .ok (.i2c, 1) := by decide +kernel
theorem dX0_readTest_7 : decode cX0_readTest 7 = .ok (.invokevirtual 118, 3) := by decide +kernel
theorem dX0_readTest_10 : decode cX0_readTest 10 = .ok (.istore_n 1, 1) := by decide +kernel
theorem dX0_readTest_11 : decode cX0_readTest 11 = .ok (.iload_n 1, 1) := by decide +kernel
theorem dX0_readTest_12 : decode cX0_readTest 12 = .ok (.ifCond .ge 5, 3) := by decide +kernel
theorem dX0_readTest_15 : decode cX0_readTest 15 = .ok (.iconst 0, 1) := by decide +kernel
theorem dX0_readTest_16 : decode cX0_readTest 16 = .ok (.ireturn, 1) := by decide +kernel
theorem dX0_readTest_17 : decode cX0_readTest 17 = .ok (.aload_n 0, 1) := by decide +kernel
theorem dX0_readTest_18 : decode cX0_readTest 18 = .ok (.dup, 1) := by decide +kernel
theorem dX0_readTest_19 : decode cX0_readTest 19 = .ok (.getfield 63, 3) := by decide +kernel
theorem dX0_readTest_22 : decode cX0_readTest 22 = .ok (.iconst 1, 1) := by decide +kernel
theorem dX0_readTest_23 : decode cX0_readTest 23 = .ok (.iadd, 1) := by decide +kernel
theorem dX0_readTest_24 : decode cX0_readTest 24 = .ok (.putfield 63, 3) := by decide +kernel
theorem dX0_readTest_27 : decode cX0_readTest 27 = .ok (.ldc 124, 2) := by decide +kernel
theorem dX0_readTest_29 : decode cX0_readTest 29 = .ok (.aload_n 0, 1) := by decide +kernel
theorem dX0_readTest_30 : decode cX0_readTest 30 = .ok (.invokevirtual 74, 3) := by decide +kernel
theorem dX0_readTest_33 : decode cX0_readTest 33 = .ok (.i2c, 1) := by decide +kernel
theorem dX0_readTest_34 : decode cX0_readTest 34 = .ok (.invokevirtual 118, 3) := by decide +kernel
theorem dX0_readTest_37 : decode cX0_readTest 37 = .ok (.istore_n 2, 1) := by decide +kernel
theorem dX0_readTest_38 : decode cX0_readTest 38 = .ok (.iload_n 2, 1) := by decide +kernel
theorem dX0_readTest_39 : decode cX0_readTest 39 = .ok (.ifCond .ge 5, 3) := by decide +kernel
theorem dX0_readTest_42 : decode cX0_readTest 42 = .ok (.iconst 0, 1) := by decide +kernel
theorem dX0_readTest_43 : decode cX0_readTest 43 = .ok (.ireturn, 1) := by decide +kernel
theorem dX0_readTest_44 : decode cX0_readTest 44 = .ok (.aload_n 0, 1) := by decide +kernel
theorem dX0_readTest_45 : decode cX0_readTest 45 = .ok (.dup, 1) := by decide +kernel
theorem dX0_readTest_46 : decode cX0_readTest 46 = .ok (.getfield 63, 3) := by decide +kernel
theorem dX0_readTest_49 : decode cX0_readTest 49 = .ok (.iconst 1, 1) := by decide +kernel
theorem dX0_readTest_50 : decode cX0_readTest 50 = .ok (.iadd, 1) := by decide +kernel
theorem dX0_readTest_51 : decode cX0_readTest 51 = .ok (.putfield 63, 3) := by decide +kernel
theorem dX0_readTest_54 : decode cX0_readTest 54 = .ok (.aload_n 0, 1) := by decide +kernel
theorem dX0_readTest_55 : decode cX0_readTest 55 = .ok (.invokevirtual 84, 3) := by decide +kernel
theorem dX0_readTest_58 : decode cX0_readTest 58 = .ok (.ifCond .eq 27, 3) := by decide +kernel
theorem dX0_readTest_61 : decode cX0_readTest 61 = .ok (.aload_n 0, 1) := by decide +kernel
theorem dX0_readTest_62 : decode cX0_readTest 62 = .ok (.iload_n 1, 1) := by decide +kernel
theorem dX0_readTest_63 : decode cX0_readTest 63 = .ok (.iconst 3, 1) := by decide +kernel
theorem dX0_readTest_64 : decode cX0_readTest 64 = .ok (.imul, 1) := by decide +kernel
theorem dX0_readTest_65 : decode cX0_readTest 65 = .ok (.iload_n 2, 1) := by decide +kernel
theorem dX0_readTest_66 : decode cX0_readTest 66 = .ok (.iadd, 1) := by decide +kernel
theorem dX0_readTest_67 : decode cX0_readTest 67 = .ok (.bipush 100, 2) := by decide +kernel
theorem dX0_readTest_69 : decode cX0_readTest 69 = .ok (.imul, 1) := by decide +kernel
theorem dX0_readTest_70 : decode cX0_readTest 70 = .ok (.aload_n 0, 1) := by decide +kernel
theorem dX0_readTest_71 : decode cX0_readTest 71 = .ok (.getfield 87, 3) := by decide +kernel
theorem dX0_readTest_74 : decode cX0_readTest 74 = .ok (.iadd, 1) := by decide +kernel
theorem dX0_readTest_75 : decode cX0_readTest 75 = .ok (.invokevirtual 107, 3) := by decide +kernel
theorem dX0_readTest_78 : decode cX0_readTest 78 = .ok (.ifCond .eq 7, 3) := by decide +kernel
theorem dX0_readTest_81 : decode cX0_readTest 81 = .ok (.iconst 1, 1) := by decide +kernel
theorem dX0_readTest_82 : decode cX0_readTest 82 = .ok (.goto 4, 3) := by decide +kernel
theorem dX0_readTest_85 : decode cX0_readTest 85 = .ok (.iconst 0, 1) := by decide +kernel
theorem dX0_readTest_86 : decode cX0_readTest 86 = .ok (.ireturn, 1) := by decide +kernel
theorem hd_X0_readTest : yX0_readTest.cls = RX0 ∧ yX0_readTest.cls ≠ "java/lang/invoke/MethodHandle" ∧ yX0_readTest.cls ≠ "java/lang/invoke/VarHandle" ∧ (parseMethodDescriptor yX0_readTest.desc).map (fun d => d.parameters.length) = some 0 := by decide +kernel
abbrev rm_X0_readTest : Room := { frames := 4, cells := 0, slots := 0, locals := 91 }
def F_X0_readTest  (σ : SG) (ρ : RG) : Option (Int32 × SG) :=
  bn (F_X0_next σ ρ) fun r1 =>
  nm ((r1).toUInt32 % 65536).toInt32 fun x2 =>
  bn (F_J0_indexOf_0f7a4 4 x2 σ ρ) fun r3 =>
  if 0 ≤ r3 then
    nm ((σ 29 10) + (1 : Int32)) fun x5 =>
    nm (s2 σ 29 10 x5) fun σ7 =>
    bn (F_X0_next σ7 ρ) fun r8 =>
    nm ((r8).toUInt32 % 65536).toInt32 fun x9 =>
    bn (F_J0_indexOf_0f7a4 5 x9 σ7 ρ) fun r10 =>
    if 0 ≤ r10 then
      nm ((σ7 29 10) + (1 : Int32)) fun x12 =>
      nm (s2 σ7 29 10 x12) fun σ14 =>
      bn2 (F_X0_readNumber σ14 ρ) fun r15 σ15 =>
      if r15 = 0 then
        some ((0 : Int32), σ15)
      else
        nm (r3 * (3 : Int32)) fun x17 =>
        nm (x17 + r10) fun x18 =>
        nm (x18 * (100 : Int32)) fun x19 =>
        nm (x19 + (σ15 29 11)) fun x20 =>
        bn2 (F_X0_put x20 σ15 ρ) fun r21 σ21 =>
        if r21 = 0 then
          some ((0 : Int32), σ21)
        else
          some ((1 : Int32), σ21)
    else
      some ((0 : Int32), σ7)
  else
    some ((0 : Int32), σ)
set_option maxHeartbeats 4000000 in
set_option maxRecDepth 100000 in
theorem w_X0_readTest_0  {p : Program} {e : Env} {s : State} {m : MethodId} {args : Array Value} {below : List Frame} {meth : Method} {c : Code} {ρ0 : RG} {r : Int32} {σ1 : SG} (C : Cx Y D N ad p s m args meth c cX0_readTest 3 (some .boolean) RX0 wsL_law) {σ : SG} {ρ : RG} {H : Heap} {locs : List Loc} {ls : Array Slot} (hρ0 : ρ = ρ0) (hL : Lay N K len ρ) (hF : F_X0_readTest σ ρ = some (r, σ1)) (hP : WP Y D N ad K len σ ρ H) (hS : va_S (AA N ad s.heap.size) s.heap H locs) (hl : lv_has ls 3 [(0, .ref (ad 29))]) : W p l e rm_X0_readTest s m args below meth c H locs 0 0 (MQ below (QW Y D N ad K len σ1 ρ0 (AA N ad s.heap.size) (some (.int r))) args s 0 0 (AA N ad s.heap.size)) (F0 m 0 ls []) := by
  have hx := C.1.1
  have hb := C.1.2.1
  unfold F_X0_readTest at hF
  refine x_ldcS (own0 := "CutCrooked$Board") (tx := "cktuls") (index := 116) (i := 4) C (by decide +kernel) dX0_readTest_0 ?_
  refine lv_aload_n hx hb dX0_readTest_2 rfl (lv_at hl 0 rfl) ?_
  obtain ⟨r1, hq1, hF⟩ := bn_1 hF
  refine x_callV (ci := 0) rfl rfl C hP hS (c_X0_next hL hq1) (lr_29 hL) (lk_29 hL) (cwV 0 C.1.2.2.2.2 (gdV mw_128 mw_129 mw_130 mw_23 mw_131) rfl rfl rfl hd_X0_next ⟨Nat.le_of_ble_eq_true rfl, Nat.le_of_ble_eq_true rfl⟩) rfl rfl hl.1 (Nat.le_of_ble_eq_true rfl) ⟨Nat.zero_le _, Nat.zero_le _⟩ dX0_readTest_3 (fun H locs hP hS => ?_)
  refine lv_i2c (v := ((r1).toUInt32 % 65536).toInt32) hx hb dX0_readTest_6 rfl ?_
  obtain ⟨x2, ex2, hF⟩ := nm_1 hF
  refine x_top ex2 ?_
  obtain ⟨r3, hq3, hF⟩ := bn_1 hF
  refine x_callVs (by decide) C hP hS (c_J0_indexOf_0f7a4 hL (by decide) hq3) (cwV 1 C.1.2.2.2.2 (gdV mw_220 mw_221 mw_222 mw_139 mw_223) rfl rfl rfl hd_J0_indexOf_0f7a4 ⟨Nat.le_of_ble_eq_true rfl, Nat.le_of_ble_eq_true rfl⟩) rfl rfl hl.1 (Nat.le_of_ble_eq_true rfl) ⟨Nat.zero_le _, Nat.zero_le _⟩ dX0_readTest_7 (fun H locs hP hS => ?_)
  refine lv_istore_n (lv' := [(1, .int r3), (0, .ref (ad 29))]) hx hb dX0_readTest_10 rfl hl (by decide) rfl (fun ls hl => ?_)
  refine lv_iload_n hx hb dX0_readTest_11 rfl (lv_at hl 0 rfl) ?_
  refine lv_if_ge (tgt := 17) hx hb dX0_readTest_12 (by decide) (fun c_4 => ?_) (fun c_4 => ?_) -- COND 4 by_cases c_4 : 0 ≤ r3
  · have hF := ite_t hF c_4
    refine lv_aload_n hx hb dX0_readTest_17 rfl (lv_at hl 1 rfl) ?_
    refine lv_dup hx hb dX0_readTest_18 rfl ?_
    refine get_0_10 C hP (lr_29 hL) (lk_29 hL) inlX0 mw_120 dX0_readTest_19 ?_
    refine lv_iconst (v := 1) hx hb dX0_readTest_22 (by decide) ?_
    refine lv_iadd hx hb dX0_readTest_23 ?_
    obtain ⟨x5, ex5, hF⟩ := nm_1 hF
    refine x_top ex5 ?_
    obtain ⟨σ7, eσ7, hF⟩ := nm_1 hF
    refine put_0_10 C hP hS (lr_29 hL) (lk_29 hL) inlX0 mw_120 eσ7 dX0_readTest_24 (fun H locs hP hS => ?_)
    refine x_ldcS (own0 := "CutCrooked$Board") (tx := "<=>") (index := 124) (i := 5) C (by decide +kernel) dX0_readTest_27 ?_
    refine lv_aload_n hx hb dX0_readTest_29 rfl (lv_at hl 1 rfl) ?_
    obtain ⟨r8, hq8, hF⟩ := bn_1 hF
    refine x_callV (ci := 0) rfl rfl C hP hS (c_X0_next hL hq8) (lr_29 hL) (lk_29 hL) (cwV 0 C.1.2.2.2.2 (gdV mw_128 mw_129 mw_130 mw_23 mw_131) rfl rfl rfl hd_X0_next ⟨Nat.le_of_ble_eq_true rfl, Nat.le_of_ble_eq_true rfl⟩) rfl rfl hl.1 (Nat.le_of_ble_eq_true rfl) ⟨Nat.zero_le _, Nat.zero_le _⟩ dX0_readTest_30 (fun H locs hP hS => ?_)
    refine lv_i2c (v := ((r8).toUInt32 % 65536).toInt32) hx hb dX0_readTest_33 rfl ?_
    obtain ⟨x9, ex9, hF⟩ := nm_1 hF
    refine x_top ex9 ?_
    obtain ⟨r10, hq10, hF⟩ := bn_1 hF
    refine x_callVs (by decide) C hP hS (c_J0_indexOf_0f7a4 hL (by decide) hq10) (cwV 1 C.1.2.2.2.2 (gdV mw_220 mw_221 mw_222 mw_139 mw_223) rfl rfl rfl hd_J0_indexOf_0f7a4 ⟨Nat.le_of_ble_eq_true rfl, Nat.le_of_ble_eq_true rfl⟩) rfl rfl hl.1 (Nat.le_of_ble_eq_true rfl) ⟨Nat.zero_le _, Nat.zero_le _⟩ dX0_readTest_34 (fun H locs hP hS => ?_)
    refine lv_istore_n (lv' := [(2, .int r10), (1, .int r3), (0, .ref (ad 29))]) hx hb dX0_readTest_37 rfl hl (by decide) rfl (fun ls hl => ?_)
    refine lv_iload_n hx hb dX0_readTest_38 rfl (lv_at hl 0 rfl) ?_
    refine lv_if_ge (tgt := 44) hx hb dX0_readTest_39 (by decide) (fun c_11 => ?_) (fun c_11 => ?_) -- COND 11 by_cases c_11 : 0 ≤ r10
    · have hF := ite_t hF c_11
      refine lv_aload_n hx hb dX0_readTest_44 rfl (lv_at hl 2 rfl) ?_
      refine lv_dup hx hb dX0_readTest_45 rfl ?_
      refine get_0_10 C hP (lr_29 hL) (lk_29 hL) inlX0 mw_120 dX0_readTest_46 ?_
      refine lv_iconst (v := 1) hx hb dX0_readTest_49 (by decide) ?_
      refine lv_iadd hx hb dX0_readTest_50 ?_
      obtain ⟨x12, ex12, hF⟩ := nm_1 hF
      refine x_top ex12 ?_
      obtain ⟨σ14, eσ14, hF⟩ := nm_1 hF
      refine put_0_10 C hP hS (lr_29 hL) (lk_29 hL) inlX0 mw_120 eσ14 dX0_readTest_51 (fun H locs hP hS => ?_)
      refine lv_aload_n hx hb dX0_readTest_54 rfl (lv_at hl 2 rfl) ?_
      obtain ⟨r15, σ15, hq15, hF⟩ := bn2_1 hF
      refine x_callV (ci := 0) rfl rfl C hP hS (c_X0_readNumber hL hq15) (lr_29 hL) (lk_29 hL) (cwV 0 C.1.2.2.2.2 (gdV mw_189 mw_190 mw_191 mw_23 mw_192) rfl rfl rfl hd_X0_readNumber ⟨Nat.le_of_ble_eq_true rfl, Nat.le_of_ble_eq_true rfl⟩) rfl rfl hl.1 (Nat.le_of_ble_eq_true rfl) ⟨Nat.zero_le _, Nat.zero_le _⟩ dX0_readTest_55 (fun H locs hP hS => ?_)
      refine lv_if_eq (tgt := 85) hx hb dX0_readTest_58 (by decide) (fun c_16 => ?_) (fun c_16 => ?_) -- COND 16 by_cases c_16 : r15 = 0
      · have hF := ite_t hF c_16
        refine lv_iconst (v := 0) hx hb dX0_readTest_85 (by decide) ?_
        obtain ⟨rfl, rfl⟩ := ret_2 hF
        subst hρ0
        exact x_zret rfl rfl C hP hS dX0_readTest_86
      · have hF := ite_f hF c_16
        refine lv_aload_n hx hb dX0_readTest_61 rfl (lv_at hl 2 rfl) ?_
        refine lv_iload_n hx hb dX0_readTest_62 rfl (lv_at hl 1 rfl) ?_
        refine lv_iconst (v := 3) hx hb dX0_readTest_63 (by decide) ?_
        refine lv_imul hx hb dX0_readTest_64 ?_
        obtain ⟨x17, ex17, hF⟩ := nm_1 hF
        refine x_top ex17 ?_
        refine lv_iload_n hx hb dX0_readTest_65 rfl (lv_at hl 0 rfl) ?_
        refine lv_iadd hx hb dX0_readTest_66 ?_
        obtain ⟨x18, ex18, hF⟩ := nm_1 hF
        refine x_top ex18 ?_
        refine lv_bipush (v := 100) hx hb dX0_readTest_67 (by decide +kernel) ?_
        refine lv_imul hx hb dX0_readTest_69 ?_
        obtain ⟨x19, ex19, hF⟩ := nm_1 hF
        refine x_top ex19 ?_
        refine lv_aload_n hx hb dX0_readTest_70 rfl (lv_at hl 2 rfl) ?_
        refine get_0_11 C hP (lr_29 hL) (lk_29 hL) inlX0 mw_127 dX0_readTest_71 ?_
        refine lv_iadd hx hb dX0_readTest_74 ?_
        obtain ⟨x20, ex20, hF⟩ := nm_1 hF
        refine x_top ex20 ?_
        obtain ⟨r21, σ21, hq21, hF⟩ := bn2_1 hF
        refine x_callV (ci := 0) rfl rfl C hP hS (c_X0_put hL hq21) (lr_29 hL) (lk_29 hL) (cwV 1 C.1.2.2.2.2 (gdV mw_207 mw_208 mw_209 mw_23 mw_210) rfl rfl rfl hd_X0_put ⟨Nat.le_of_ble_eq_true rfl, Nat.le_of_ble_eq_true rfl⟩) rfl rfl hl.1 (Nat.le_of_ble_eq_true rfl) ⟨Nat.zero_le _, Nat.zero_le _⟩ dX0_readTest_75 (fun H locs hP hS => ?_)
        refine lv_if_eq (tgt := 85) hx hb dX0_readTest_78 (by decide) (fun c_22 => ?_) (fun c_22 => ?_) -- COND 22 by_cases c_22 : r21 = 0
        · have hF := ite_t hF c_22
          refine lv_iconst (v := 0) hx hb dX0_readTest_85 (by decide) ?_
          obtain ⟨rfl, rfl⟩ := ret_2 hF
          subst hρ0
          exact x_zret rfl rfl C hP hS dX0_readTest_86
        · have hF := ite_f hF c_22
          refine lv_iconst (v := 1) hx hb dX0_readTest_81 (by decide) ?_
          refine lv_goto (tgt := 86) hx hb dX0_readTest_82 (by decide) ?_
          obtain ⟨rfl, rfl⟩ := ret_2 hF
          subst hρ0
          exact x_zret rfl rfl C hP hS dX0_readTest_86
    · have hF := ite_f hF c_11
      refine lv_iconst (v := 0) hx hb dX0_readTest_42 (by decide) ?_
      obtain ⟨rfl, rfl⟩ := ret_2 hF
      subst hρ0
      exact x_zret rfl rfl C hP hS dX0_readTest_43
  · have hF := ite_f hF c_4
    refine lv_iconst (v := 0) hx hb dX0_readTest_15 (by decide) ?_
    obtain ⟨rfl, rfl⟩ := ret_2 hF
    subst hρ0
    exact x_zret rfl rfl C hP hS dX0_readTest_16
set_option maxHeartbeats 4000000 in
set_option maxRecDepth 100000 in
theorem c_X0_readTest  {r : Int32} {σ1 : SG} {σ : SG} {ρ : RG} (hL : Lay N K len ρ) (hF : F_X0_readTest σ ρ = some (r, σ1)) : MT l Y D N ad K len yX0_readTest (Cond.code yX0_readTest cX0_readTest 3 (some .boolean) :: wsL_law) rm_X0_readTest [.ref (ad 29)] σ ρ (some (.int r)) σ1 ρ := by
  refine mt_of (cc := cX0_readTest) (nL := 3) (ret := (some .boolean)) (by decide) (Nat.le_of_ble_eq_true rfl) ?_
  intro p e s m args below meth c ls C hnm hP hS hl
  exact w_X0_readTest_0 C rfl hL hF hP hS hl

theorem hd_X0_readFactor : yX0_readFactor.cls = RX0 ∧ yX0_readFactor.cls ≠ "java/lang/invoke/MethodHandle" ∧ yX0_readFactor.cls ≠ "java/lang/invoke/VarHandle" ∧ (parseMethodDescriptor yX0_readFactor.desc).map (fun d => d.parameters.length) = some 1 := by decide +kernel

/-! CutCrooked$Board.private boolean readBoth(int); B -/
theorem dX0_readBoth_0 : decode cX0_readBoth 0 = .ok (.aload_n 0, 1) := by decide +kernel
theorem dX0_readBoth_1 : decode cX0_readBoth 1 = .ok (.iload_n 1, 1) := by decide +kernel
theorem dX0_readBoth_2 : decode cX0_readBoth 2 = .ok (.invokevirtual 110, 3) := by decide +kernel
theorem dX0_readBoth_5 : decode cX0_readBoth 5 = .ok (.ifCond .ne 5, 3) := by decide +kernel
theorem dX0_readBoth_8 : decode cX0_readBoth 8 = .ok (.iconst 0, 1) := by decide +kernel
theorem dX0_readBoth_9 : decode cX0_readBoth 9 = .ok (.ireturn, 1) := by decide +kernel
theorem dX0_readBoth_10 : decode cX0_readBoth 10 = .ok (.iconst 0, 1) := by decide +kernel
theorem dX0_readBoth_11 : decode cX0_readBoth 11 = .ok (.istore_n 2, 1) := by decide +kernel
theorem dX0_readBoth_12 : decode cX0_readBoth 12 = .ok (.iload_n 2, 1) := by decide +kernel
theorem dX0_readBoth_13 : decode cX0_readBoth 13 = .ok (.bipush 100, 2) := by decide +kernel
theorem dX0_readBoth_15 : decode cX0_readBoth 15 = .ok (.if_icmp .ge 47, 3) := by decide +kernel
theorem dX0_readBoth_18 : decode cX0_readBoth 18 = .ok (.aload_n 0, 1) := by decide +kernel
theorem dX0_readBoth_19 : decode cX0_readBoth 19 = .ok (.invokevirtual 74, 3) := by decide +kernel
theorem dX0_readBoth_22 : decode cX0_readBoth 22 = .ok (.bipush 38, 2) := by decide +kernel
theorem dX0_readBoth_24 : decode cX0_readBoth 24 = .ok (.if_icmp .ne 38, 3) := by decide +kernel
theorem dX0_readBoth_27 : decode cX0_readBoth 27 = .ok (.aload_n 0, 1) := by decide +kernel
theorem dX0_readBoth_28 : decode cX0_readBoth 28 = .ok (.dup, 1) := by decide +kernel
theorem dX0_readBoth_29 : decode cX0_readBoth 29 = .ok (.getfield 63, 3) := by decide +kernel
theorem dX0_readBoth_32 : decode cX0_readBoth 32 = .ok (.iconst 1, 1) := by decide +kernel
theorem dX0_readBoth_33 : decode cX0_readBoth 33 = .ok (.iadd, 1) := by decide +kernel
theorem dX0_readBoth_34 : decode cX0_readBoth 34 = .ok (.putfield 63, 3) := by decide +kernel
theorem dX0_readBoth_37 : decode cX0_readBoth 37 = .ok (.aload_n 0, 1) := by decide +kernel
theorem dX0_readBoth_38 : decode cX0_readBoth 38 = .ok (.iload_n 1, 1) := by decide +kernel
theorem dX0_readBoth_39 : decode cX0_readBoth 39 = .ok (.invokevirtual 110, 3) := by decide +kernel
theorem dX0_readBoth_42 : decode cX0_readBoth 42 = .ok (.ifCond .eq 12, 3) := by decide +kernel
theorem dX0_readBoth_45 : decode cX0_readBoth 45 = .ok (.aload_n 0, 1) := by decide +kernel
theorem dX0_readBoth_46 : decode cX0_readBoth 46 = .ok (.bipush (-2), 2) := by decide +kernel
theorem dX0_readBoth_48 : decode cX0_readBoth 48 = .ok (.invokevirtual 107, 3) := by decide +kernel
theorem dX0_readBoth_51 : decode cX0_readBoth 51 = .ok (.ifCond .ne 5, 3) := by decide +kernel
theorem dX0_readBoth_54 : decode cX0_readBoth 54 = .ok (.iconst 0, 1) := by decide +kernel
theorem dX0_readBoth_55 : decode cX0_readBoth 55 = .ok (.ireturn, 1) := by decide +kernel
theorem dX0_readBoth_56 : decode cX0_readBoth 56 = .ok (.iinc 2 1, 3) := by decide +kernel
theorem dX0_readBoth_59 : decode cX0_readBoth 59 = .ok (.goto (-47), 3) := by decide +kernel
theorem dX0_readBoth_62 : decode cX0_readBoth 62 = .ok (.iconst 1, 1) := by decide +kernel
theorem dX0_readBoth_63 : decode cX0_readBoth 63 = .ok (.ireturn, 1) := by decide +kernel
theorem hd_X0_readBoth : yX0_readBoth.cls = RX0 ∧ yX0_readBoth.cls ≠ "java/lang/invoke/MethodHandle" ∧ yX0_readBoth.cls ≠ "java/lang/invoke/VarHandle" ∧ (parseMethodDescriptor yX0_readBoth.desc).map (fun d => d.parameters.length) = some 1 := by decide +kernel
abbrev rm_X0_readBoth_B (fR lR : Nat) : Room := { frames := 1 + fR + 1, cells := 0, slots := 0, locals := 22 + lR }
def F_X0_readBoth_B_12 (R : Int32 → SG → RG → Option (Int32 × SG)) (a1 : Int32) : Nat → SG → RG → Int32 → Int32 → Option (Int32 × SG)
  | 0 => fun _ _ _ _ => none
  | n + 1 => fun σ ρ v1 v2 =>
  if (100 : Int32) ≤ v2 then
    some ((1 : Int32), σ)
  else
    bn (F_X0_next σ ρ) fun r4 =>
    if r4 = (38 : Int32) then
      nm ((σ 29 10) + (1 : Int32)) fun x6 =>
      nm (s2 σ 29 10 x6) fun σ8 =>
      bn2 (R v1 σ8 ρ) fun r9 σ9 =>
      if r9 = 0 then
        some ((0 : Int32), σ9)
      else
        bn2 (F_X0_put (-2 : Int32) σ9 ρ) fun r11 σ11 =>
        if r11 = 0 then
          some ((0 : Int32), σ11)
        else
          nm (v2 + (1 : Int32)) fun x13 =>
          F_X0_readBoth_B_12 R a1 n σ11 ρ v1 x13
    else
      some ((1 : Int32), σ)
def F_X0_readBoth_B (R : Int32 → SG → RG → Option (Int32 × SG)) (a1 : Int32) (σ : SG) (ρ : RG) : Option (Int32 × SG) :=
  bn2 (R a1 σ ρ) fun r1 σ1 =>
  if r1 = 0 then
    some ((0 : Int32), σ1)
  else
    F_X0_readBoth_B_12 R a1 1024 σ1 ρ a1 (0 : Int32)
set_option maxHeartbeats 4000000 in
set_option maxRecDepth 100000 in
theorem w_X0_readBoth_B_12 {R : Int32 → SG → RG → Option (Int32 × SG)} {a1 : Int32} {p : Program} {e : Env} {s : State} {m : MethodId} {args : Array Value} {below : List Frame} {meth : Method} {c : Code} {ρ0 : RG} {r : Int32} {σ1 : SG} (C : Cx Y D N ad p s m args meth c cX0_readBoth 3 (some .boolean) RX0 wsL_law) : ∀ (n : Nat) (σ : SG) (ρ : RG) (v1 : Int32) (v2 : Int32) (H : Heap) (locs : List Loc) (ls : Array Slot), ρ = ρ0 → Lay N K len ρ → (∀ {a1 : Int32} {r : Int32} {σ1 : SG} {σ : SG} {ρ : RG}, Lay N K len ρ → R a1 σ ρ = some (r, σ1) → MT l Y D N ad K len yX0_readFactor (Cond.code yX0_readFactor cX0_readFactor 3 (some .boolean) :: wsL_law) (rmk fR lR) [.ref (ad 29), .int a1] σ ρ (some (.int r)) σ1 ρ) → F_X0_readBoth_B_12 R a1 n σ ρ v1 v2 = some (r, σ1) → WP Y D N ad K len σ ρ H → va_S (AA N ad s.heap.size) s.heap H locs → lv_has ls 3 [(0, .ref (ad 29)), (1, .int v1), (2, .int v2)] → W p l e (rm_X0_readBoth_B fR lR) s m args below meth c H locs 0 0 (MQ below (QW Y D N ad K len σ1 ρ0 (AA N ad s.heap.size) (some (.int r))) args s 0 0 (AA N ad s.heap.size)) (F0 m 12 ls []) := by
  have hx := C.1.1
  have hb := C.1.2.1
  intro n
  induction n with
  | zero => intro σ ρ v1 v2 H locs ls hρ0 hL hRM hF; cases hF
  | succ n ih =>
    intro σ ρ v1 v2 H locs ls hρ0 hL hRM hF hP hS hl
    unfold F_X0_readBoth_B_12 at hF
    refine lv_iload_n hx hb dX0_readBoth_12 rfl (lv_at hl 2 rfl) ?_
    refine lv_bipush (v := 100) hx hb dX0_readBoth_13 (by decide +kernel) ?_
    refine lv_icmp_ge (tgt := 62) hx hb dX0_readBoth_15 (by decide) (fun c_3 => ?_) (fun c_3 => ?_) -- COND 3 by_cases c_3 : (100 : Int32) ≤ v2
    · have hF := ite_t hF c_3
      refine lv_iconst (v := 1) hx hb dX0_readBoth_62 (by decide) ?_
      obtain ⟨rfl, rfl⟩ := ret_2 hF
      subst hρ0
      exact x_zret rfl rfl C hP hS dX0_readBoth_63
    · have hF := ite_f hF c_3
      refine lv_aload_n hx hb dX0_readBoth_18 rfl (lv_at hl 0 rfl) ?_
      obtain ⟨r4, hq4, hF⟩ := bn_1 hF
      refine x_callV (ci := 0) rfl rfl C hP hS (c_X0_next hL hq4) (lr_29 hL) (lk_29 hL) (cwV 0 C.1.2.2.2.2 (gdV mw_128 mw_129 mw_130 mw_23 mw_131) rfl rfl rfl hd_X0_next ⟨by show 1 ≤ 1 + fR + 1; omega, by show 20 ≤ 22 + lR; omega⟩) rfl rfl hl.1 (Nat.le_of_ble_eq_true rfl) ⟨Nat.zero_le _, Nat.zero_le _⟩ dX0_readBoth_19 (fun H locs hP hS => ?_)
      refine lv_bipush (v := 38) hx hb dX0_readBoth_22 (by decide +kernel) ?_
      refine lv_icmp_ne (tgt := 62) hx hb dX0_readBoth_24 (by decide) (fun c_5 => ?_) (fun c_5 => ?_) -- COND 5 rcases (Decidable.em (r4 = (38 : Int32))).symm with c_5 | c_5
      · have hF := ite_f hF c_5
        refine lv_iconst (v := 1) hx hb dX0_readBoth_62 (by decide) ?_
        obtain ⟨rfl, rfl⟩ := ret_2 hF
        subst hρ0
        exact x_zret rfl rfl C hP hS dX0_readBoth_63
      · have hF := ite_t hF c_5
        refine lv_aload_n hx hb dX0_readBoth_27 rfl (lv_at hl 0 rfl) ?_
        refine lv_dup hx hb dX0_readBoth_28 rfl ?_
        refine get_0_10 C hP (lr_29 hL) (lk_29 hL) inlX0 mw_120 dX0_readBoth_29 ?_
        refine lv_iconst (v := 1) hx hb dX0_readBoth_32 (by decide) ?_
        refine lv_iadd hx hb dX0_readBoth_33 ?_
        obtain ⟨x6, ex6, hF⟩ := nm_1 hF
        refine x_top ex6 ?_
        obtain ⟨σ8, eσ8, hF⟩ := nm_1 hF
        refine put_0_10 C hP hS (lr_29 hL) (lk_29 hL) inlX0 mw_120 eσ8 dX0_readBoth_34 (fun H locs hP hS => ?_)
        refine lv_aload_n hx hb dX0_readBoth_37 rfl (lv_at hl 0 rfl) ?_
        refine lv_iload_n hx hb dX0_readBoth_38 rfl (lv_at hl 1 rfl) ?_
        obtain ⟨r9, σ9, hq9, hF⟩ := bn2_1 hF
        refine x_callV (ci := 0) rfl rfl C hP hS (hRM hL hq9) (lr_29 hL) (lk_29 hL) (cwV 1 C.1.2.2.2.2 (gdV mw_212 mw_213 mw_214 mw_23 mw_215) rfl rfl rfl hd_X0_readFactor ⟨by show fR + 1 ≤ 1 + fR + 1; omega, by show 22 + lR ≤ 22 + lR; omega⟩) rfl rfl hl.1 (Nat.le_of_ble_eq_true rfl) ⟨Nat.zero_le _, Nat.zero_le _⟩ dX0_readBoth_39 (fun H locs hP hS => ?_)
        refine lv_if_eq (tgt := 54) hx hb dX0_readBoth_42 (by decide) (fun c_10 => ?_) (fun c_10 => ?_) -- COND 10 by_cases c_10 : r9 = 0
        · have hF := ite_t hF c_10
          refine lv_iconst (v := 0) hx hb dX0_readBoth_54 (by decide) ?_
          obtain ⟨rfl, rfl⟩ := ret_2 hF
          subst hρ0
          exact x_zret rfl rfl C hP hS dX0_readBoth_55
        · have hF := ite_f hF c_10
          refine lv_aload_n hx hb dX0_readBoth_45 rfl (lv_at hl 0 rfl) ?_
          refine lv_bipush (v := -2) hx hb dX0_readBoth_46 (by decide +kernel) ?_
          obtain ⟨r11, σ11, hq11, hF⟩ := bn2_1 hF
          refine x_callV (ci := 0) rfl rfl C hP hS (c_X0_put hL hq11) (lr_29 hL) (lk_29 hL) (cwV 1 C.1.2.2.2.2 (gdV mw_207 mw_208 mw_209 mw_23 mw_210) rfl rfl rfl hd_X0_put ⟨by show 1 ≤ 1 + fR + 1; omega, by show 21 ≤ 22 + lR; omega⟩) rfl rfl hl.1 (Nat.le_of_ble_eq_true rfl) ⟨Nat.zero_le _, Nat.zero_le _⟩ dX0_readBoth_48 (fun H locs hP hS => ?_)
          refine lv_if_ne (tgt := 56) hx hb dX0_readBoth_51 (by decide) (fun c_12 => ?_) (fun c_12 => ?_) -- COND 12 rcases (Decidable.em (r11 = 0)).symm with c_12 | c_12
          · have hF := ite_f hF c_12
            obtain ⟨x13, ex13, hF⟩ := nm_1 hF
            refine lv_iinc (v := x13) (lv' := [(2, .int x13), (0, .ref (ad 29)), (1, .int v1)]) hx hb dX0_readBoth_56 hl (k := 2) rfl (by rw [ex13]; first | rfl | decide) (by decide) rfl (fun ls hl => ?_)
            refine lv_goto (tgt := 12) hx hb dX0_readBoth_59 (by decide) ?_
            exact ih _ _ _ _ _ _ _ hρ0 hL hRM hF hP hS (lv_sub hl [1, 2, 0] rfl)
          · have hF := ite_t hF c_12
            refine lv_iconst (v := 0) hx hb dX0_readBoth_54 (by decide) ?_
            obtain ⟨rfl, rfl⟩ := ret_2 hF
            subst hρ0
            exact x_zret rfl rfl C hP hS dX0_readBoth_55
set_option maxHeartbeats 4000000 in
set_option maxRecDepth 100000 in
theorem w_X0_readBoth_B_0 {R : Int32 → SG → RG → Option (Int32 × SG)} {a1 : Int32} {p : Program} {e : Env} {s : State} {m : MethodId} {args : Array Value} {below : List Frame} {meth : Method} {c : Code} {ρ0 : RG} {r : Int32} {σ1 : SG} (C : Cx Y D N ad p s m args meth c cX0_readBoth 3 (some .boolean) RX0 wsL_law) {σ : SG} {ρ : RG} {H : Heap} {locs : List Loc} {ls : Array Slot} (hρ0 : ρ = ρ0) (hL : Lay N K len ρ) (hRM : (∀ {a1 : Int32} {r : Int32} {σ1 : SG} {σ : SG} {ρ : RG}, Lay N K len ρ → R a1 σ ρ = some (r, σ1) → MT l Y D N ad K len yX0_readFactor (Cond.code yX0_readFactor cX0_readFactor 3 (some .boolean) :: wsL_law) (rmk fR lR) [.ref (ad 29), .int a1] σ ρ (some (.int r)) σ1 ρ)) (hF : F_X0_readBoth_B R a1 σ ρ = some (r, σ1)) (hP : WP Y D N ad K len σ ρ H) (hS : va_S (AA N ad s.heap.size) s.heap H locs) (hl : lv_has ls 3 [(0, .ref (ad 29)), (1, .int a1)]) : W p l e (rm_X0_readBoth_B fR lR) s m args below meth c H locs 0 0 (MQ below (QW Y D N ad K len σ1 ρ0 (AA N ad s.heap.size) (some (.int r))) args s 0 0 (AA N ad s.heap.size)) (F0 m 0 ls []) := by
  have hx := C.1.1
  have hb := C.1.2.1
  unfold F_X0_readBoth_B at hF
  refine lv_aload_n hx hb dX0_readBoth_0 rfl (lv_at hl 0 rfl) ?_
  refine lv_iload_n hx hb dX0_readBoth_1 rfl (lv_at hl 1 rfl) ?_
  obtain ⟨r1, σ1, hq1, hF⟩ := bn2_1 hF
  refine x_callV (ci := 0) rfl rfl C hP hS (hRM hL hq1) (lr_29 hL) (lk_29 hL) (cwV 1 C.1.2.2.2.2 (gdV mw_212 mw_213 mw_214 mw_23 mw_215) rfl rfl rfl hd_X0_readFactor ⟨by show fR + 1 ≤ 1 + fR + 1; omega, by show 22 + lR ≤ 22 + lR; omega⟩) rfl rfl hl.1 (Nat.le_of_ble_eq_true rfl) ⟨Nat.zero_le _, Nat.zero_le _⟩ dX0_readBoth_2 (fun H locs hP hS => ?_)
  refine lv_if_ne (tgt := 10) hx hb dX0_readBoth_5 (by decide) (fun c_2 => ?_) (fun c_2 => ?_) -- COND 2 rcases (Decidable.em (r1 = 0)).symm with c_2 | c_2
  · have hF := ite_f hF c_2
    refine lv_iconst (v := 0) hx hb dX0_readBoth_10 (by decide) ?_
    refine lv_istore_n (lv' := [(2, .int (0 : Int32)), (0, .ref (ad 29)), (1, .int a1)]) hx hb dX0_readBoth_11 rfl hl (by decide) rfl (fun ls hl => ?_)
    exact w_X0_readBoth_B_12 C 1024 _ _ _ _ _ _ _ hρ0 hL hRM hF hP hS (lv_sub hl [1, 2, 0] rfl)
  · have hF := ite_t hF c_2
    refine lv_iconst (v := 0) hx hb dX0_readBoth_8 (by decide) ?_
    obtain ⟨rfl, rfl⟩ := ret_2 hF
    subst hρ0
    exact x_zret rfl rfl C hP hS dX0_readBoth_9
set_option maxHeartbeats 4000000 in
set_option maxRecDepth 100000 in
theorem c_X0_readBoth_B {R : Int32 → SG → RG → Option (Int32 × SG)} {a1 : Int32} {r : Int32} {σ1 : SG} {σ : SG} {ρ : RG} (hL : Lay N K len ρ) (hRM : (∀ {a1 : Int32} {r : Int32} {σ1 : SG} {σ : SG} {ρ : RG}, Lay N K len ρ → R a1 σ ρ = some (r, σ1) → MT l Y D N ad K len yX0_readFactor (Cond.code yX0_readFactor cX0_readFactor 3 (some .boolean) :: wsL_law) (rmk fR lR) [.ref (ad 29), .int a1] σ ρ (some (.int r)) σ1 ρ)) (hF : F_X0_readBoth_B R a1 σ ρ = some (r, σ1)) : MT l Y D N ad K len yX0_readBoth (Cond.code yX0_readBoth cX0_readBoth 3 (some .boolean) :: wsL_law) (rm_X0_readBoth_B fR lR) [.ref (ad 29), .int a1] σ ρ (some (.int r)) σ1 ρ := by
  refine mt_of (cc := cX0_readBoth) (nL := 3) (ret := (some .boolean)) (by decide) (Nat.le_of_ble_eq_true rfl) ?_
  intro p e s m args below meth c ls C hnm hP hS hl
  exact w_X0_readBoth_B_0 C rfl hL hRM hF hP hS hl

/-! CutCrooked$Board.private boolean readEither(int); B -/
theorem dX0_readEither_0 : decode cX0_readEither 0 = .ok (.aload_n 0, 1) := by decide +kernel
theorem dX0_readEither_1 : decode cX0_readEither 1 = .ok (.iload_n 1, 1) := by decide +kernel
theorem dX0_readEither_2 : decode cX0_readEither 2 = .ok (.invokevirtual 104, 3) := by decide +kernel
theorem dX0_readEither_5 : decode cX0_readEither 5 = .ok (.ifCond .ne 5, 3) := by decide +kernel
theorem dX0_readEither_8 : decode cX0_readEither 8 = .ok (.iconst 0, 1) := by decide +kernel
theorem dX0_readEither_9 : decode cX0_readEither 9 = .ok (.ireturn, 1) := by decide +kernel
theorem dX0_readEither_10 : decode cX0_readEither 10 = .ok (.iconst 0, 1) := by decide +kernel
theorem dX0_readEither_11 : decode cX0_readEither 11 = .ok (.istore_n 2, 1) := by decide +kernel
theorem dX0_readEither_12 : decode cX0_readEither 12 = .ok (.iload_n 2, 1) := by decide +kernel
theorem dX0_readEither_13 : decode cX0_readEither 13 = .ok (.bipush 100, 2) := by decide +kernel
theorem dX0_readEither_15 : decode cX0_readEither 15 = .ok (.if_icmp .ge 47, 3) := by decide +kernel
theorem dX0_readEither_18 : decode cX0_readEither 18 = .ok (.aload_n 0, 1) := by decide +kernel
theorem dX0_readEither_19 : decode cX0_readEither 19 = .ok (.invokevirtual 74, 3) := by decide +kernel
theorem dX0_readEither_22 : decode cX0_readEither 22 = .ok (.bipush 124, 2) := by decide +kernel
theorem dX0_readEither_24 : decode cX0_readEither 24 = .ok (.if_icmp .ne 38, 3) := by decide +kernel
theorem dX0_readEither_27 : decode cX0_readEither 27 = .ok (.aload_n 0, 1) := by decide +kernel
theorem dX0_readEither_28 : decode cX0_readEither 28 = .ok (.dup, 1) := by decide +kernel
theorem dX0_readEither_29 : decode cX0_readEither 29 = .ok (.getfield 63, 3) := by decide +kernel
theorem dX0_readEither_32 : decode cX0_readEither 32 = .ok (.iconst 1, 1) := by decide +kernel
theorem dX0_readEither_33 : decode cX0_readEither 33 = .ok (.iadd, 1) := by decide +kernel
theorem dX0_readEither_34 : decode cX0_readEither 34 = .ok (.putfield 63, 3) := by decide +kernel
theorem dX0_readEither_37 : decode cX0_readEither 37 = .ok (.aload_n 0, 1) := by decide +kernel
theorem dX0_readEither_38 : decode cX0_readEither 38 = .ok (.iload_n 1, 1) := by decide +kernel
theorem dX0_readEither_39 : decode cX0_readEither 39 = .ok (.invokevirtual 104, 3) := by decide +kernel
theorem dX0_readEither_42 : decode cX0_readEither 42 = .ok (.ifCond .eq 12, 3) := by decide +kernel
theorem dX0_readEither_45 : decode cX0_readEither 45 = .ok (.aload_n 0, 1) := by decide +kernel
theorem dX0_readEither_46 : decode cX0_readEither 46 = .ok (.bipush (-3), 2) := by decide +kernel
theorem dX0_readEither_48 : decode cX0_readEither 48 = .ok (.invokevirtual 107, 3) := by decide +kernel
theorem dX0_readEither_51 : decode cX0_readEither 51 = .ok (.ifCond .ne 5, 3) := by decide +kernel
theorem dX0_readEither_54 : decode cX0_readEither 54 = .ok (.iconst 0, 1) := by decide +kernel
theorem dX0_readEither_55 : decode cX0_readEither 55 = .ok (.ireturn, 1) := by decide +kernel
theorem dX0_readEither_56 : decode cX0_readEither 56 = .ok (.iinc 2 1, 3) := by decide +kernel
theorem dX0_readEither_59 : decode cX0_readEither 59 = .ok (.goto (-47), 3) := by decide +kernel
theorem dX0_readEither_62 : decode cX0_readEither 62 = .ok (.iconst 1, 1) := by decide +kernel
theorem dX0_readEither_63 : decode cX0_readEither 63 = .ok (.ireturn, 1) := by decide +kernel
theorem hd_X0_readEither : yX0_readEither.cls = RX0 ∧ yX0_readEither.cls ≠ "java/lang/invoke/MethodHandle" ∧ yX0_readEither.cls ≠ "java/lang/invoke/VarHandle" ∧ (parseMethodDescriptor yX0_readEither.desc).map (fun d => d.parameters.length) = some 1 := by decide +kernel
abbrev rm_X0_readEither_B (fR lR : Nat) : Room := { frames := 2 + fR + 1, cells := 0, slots := 0, locals := 44 + lR }
def F_X0_readEither_B_12 (R : Int32 → SG → RG → Option (Int32 × SG)) (a1 : Int32) : Nat → SG → RG → Int32 → Int32 → Option (Int32 × SG)
  | 0 => fun _ _ _ _ => none
  | n + 1 => fun σ ρ v1 v2 =>
  if (100 : Int32) ≤ v2 then
    some ((1 : Int32), σ)
  else
    bn (F_X0_next σ ρ) fun r4 =>
    if r4 = (124 : Int32) then
      nm ((σ 29 10) + (1 : Int32)) fun x6 =>
      nm (s2 σ 29 10 x6) fun σ8 =>
      bn2 (F_X0_readBoth_B R v1 σ8 ρ) fun r9 σ9 =>
      if r9 = 0 then
        some ((0 : Int32), σ9)
      else
        bn2 (F_X0_put (-3 : Int32) σ9 ρ) fun r11 σ11 =>
        if r11 = 0 then
          some ((0 : Int32), σ11)
        else
          nm (v2 + (1 : Int32)) fun x13 =>
          F_X0_readEither_B_12 R a1 n σ11 ρ v1 x13
    else
      some ((1 : Int32), σ)
def F_X0_readEither_B (R : Int32 → SG → RG → Option (Int32 × SG)) (a1 : Int32) (σ : SG) (ρ : RG) : Option (Int32 × SG) :=
  bn2 (F_X0_readBoth_B R a1 σ ρ) fun r1 σ1 =>
  if r1 = 0 then
    some ((0 : Int32), σ1)
  else
    F_X0_readEither_B_12 R a1 1024 σ1 ρ a1 (0 : Int32)
set_option maxHeartbeats 4000000 in
set_option maxRecDepth 100000 in
theorem w_X0_readEither_B_12 {R : Int32 → SG → RG → Option (Int32 × SG)} {a1 : Int32} {p : Program} {e : Env} {s : State} {m : MethodId} {args : Array Value} {below : List Frame} {meth : Method} {c : Code} {ρ0 : RG} {r : Int32} {σ1 : SG} (C : Cx Y D N ad p s m args meth c cX0_readEither 3 (some .boolean) RX0 wsL_law) : ∀ (n : Nat) (σ : SG) (ρ : RG) (v1 : Int32) (v2 : Int32) (H : Heap) (locs : List Loc) (ls : Array Slot), ρ = ρ0 → Lay N K len ρ → (∀ {a1 : Int32} {r : Int32} {σ1 : SG} {σ : SG} {ρ : RG}, Lay N K len ρ → R a1 σ ρ = some (r, σ1) → MT l Y D N ad K len yX0_readFactor (Cond.code yX0_readFactor cX0_readFactor 3 (some .boolean) :: wsL_law) (rmk fR lR) [.ref (ad 29), .int a1] σ ρ (some (.int r)) σ1 ρ) → F_X0_readEither_B_12 R a1 n σ ρ v1 v2 = some (r, σ1) → WP Y D N ad K len σ ρ H → va_S (AA N ad s.heap.size) s.heap H locs → lv_has ls 3 [(0, .ref (ad 29)), (1, .int v1), (2, .int v2)] → W p l e (rm_X0_readEither_B fR lR) s m args below meth c H locs 0 0 (MQ below (QW Y D N ad K len σ1 ρ0 (AA N ad s.heap.size) (some (.int r))) args s 0 0 (AA N ad s.heap.size)) (F0 m 12 ls []) := by
  have hx := C.1.1
  have hb := C.1.2.1
  intro n
  induction n with
  | zero => intro σ ρ v1 v2 H locs ls hρ0 hL hRM hF; cases hF
  | succ n ih =>
    intro σ ρ v1 v2 H locs ls hρ0 hL hRM hF hP hS hl
    unfold F_X0_readEither_B_12 at hF
    refine lv_iload_n hx hb dX0_readEither_12 rfl (lv_at hl 2 rfl) ?_
    refine lv_bipush (v := 100) hx hb dX0_readEither_13 (by decide +kernel) ?_
    refine lv_icmp_ge (tgt := 62) hx hb dX0_readEither_15 (by decide) (fun c_3 => ?_) (fun c_3 => ?_) -- COND 3 by_cases c_3 : (100 : Int32) ≤ v2
    · have hF := ite_t hF c_3
      refine lv_iconst (v := 1) hx hb dX0_readEither_62 (by decide) ?_
      obtain ⟨rfl, rfl⟩ := ret_2 hF
      subst hρ0
      exact x_zret rfl rfl C hP hS dX0_readEither_63
    · have hF := ite_f hF c_3
      refine lv_aload_n hx hb dX0_readEither_18 rfl (lv_at hl 0 rfl) ?_
      obtain ⟨r4, hq4, hF⟩ := bn_1 hF
      refine x_callV (ci := 0) rfl rfl C hP hS (c_X0_next hL hq4) (lr_29 hL) (lk_29 hL) (cwV 0 C.1.2.2.2.2 (gdV mw_128 mw_129 mw_130 mw_23 mw_131) rfl rfl rfl hd_X0_next ⟨by show 1 ≤ 2 + fR + 1; omega, by show 20 ≤ 44 + lR; omega⟩) rfl rfl hl.1 (Nat.le_of_ble_eq_true rfl) ⟨Nat.zero_le _, Nat.zero_le _⟩ dX0_readEither_19 (fun H locs hP hS => ?_)
      refine lv_bipush (v := 124) hx hb dX0_readEither_22 (by decide +kernel) ?_
      refine lv_icmp_ne (tgt := 62) hx hb dX0_readEither_24 (by decide) (fun c_5 => ?_) (fun c_5 => ?_) -- COND 5 rcases (Decidable.em (r4 = (124 : Int32))).symm with c_5 | c_5
      · have hF := ite_f hF c_5
        refine lv_iconst (v := 1) hx hb dX0_readEither_62 (by decide) ?_
        obtain ⟨rfl, rfl⟩ := ret_2 hF
        subst hρ0
        exact x_zret rfl rfl C hP hS dX0_readEither_63
      · have hF := ite_t hF c_5
        refine lv_aload_n hx hb dX0_readEither_27 rfl (lv_at hl 0 rfl) ?_
        refine lv_dup hx hb dX0_readEither_28 rfl ?_
        refine get_0_10 C hP (lr_29 hL) (lk_29 hL) inlX0 mw_120 dX0_readEither_29 ?_
        refine lv_iconst (v := 1) hx hb dX0_readEither_32 (by decide) ?_
        refine lv_iadd hx hb dX0_readEither_33 ?_
        obtain ⟨x6, ex6, hF⟩ := nm_1 hF
        refine x_top ex6 ?_
        obtain ⟨σ8, eσ8, hF⟩ := nm_1 hF
        refine put_0_10 C hP hS (lr_29 hL) (lk_29 hL) inlX0 mw_120 eσ8 dX0_readEither_34 (fun H locs hP hS => ?_)
        refine lv_aload_n hx hb dX0_readEither_37 rfl (lv_at hl 0 rfl) ?_
        refine lv_iload_n hx hb dX0_readEither_38 rfl (lv_at hl 1 rfl) ?_
        obtain ⟨r9, σ9, hq9, hF⟩ := bn2_1 hF
        refine x_callV (ci := 0) rfl rfl C hP hS (c_X0_readBoth_B hL hRM hq9) (lr_29 hL) (lk_29 hL) (cwV 1 C.1.2.2.2.2 (gdV mw_204 mw_205 mw_206 mw_23 mw_211) rfl rfl rfl hd_X0_readBoth ⟨by show 1 + fR + 1 + 1 ≤ 2 + fR + 1; omega, by show 22 + (22 + lR) ≤ 44 + lR; omega⟩) rfl rfl hl.1 (Nat.le_of_ble_eq_true rfl) ⟨Nat.zero_le _, Nat.zero_le _⟩ dX0_readEither_39 (fun H locs hP hS => ?_)
        refine lv_if_eq (tgt := 54) hx hb dX0_readEither_42 (by decide) (fun c_10 => ?_) (fun c_10 => ?_) -- COND 10 by_cases c_10 : r9 = 0
        · have hF := ite_t hF c_10
          refine lv_iconst (v := 0) hx hb dX0_readEither_54 (by decide) ?_
          obtain ⟨rfl, rfl⟩ := ret_2 hF
          subst hρ0
          exact x_zret rfl rfl C hP hS dX0_readEither_55
        · have hF := ite_f hF c_10
          refine lv_aload_n hx hb dX0_readEither_45 rfl (lv_at hl 0 rfl) ?_
          refine lv_bipush (v := -3) hx hb dX0_readEither_46 (by decide +kernel) ?_
          obtain ⟨r11, σ11, hq11, hF⟩ := bn2_1 hF
          refine x_callV (ci := 0) rfl rfl C hP hS (c_X0_put hL hq11) (lr_29 hL) (lk_29 hL) (cwV 1 C.1.2.2.2.2 (gdV mw_207 mw_208 mw_209 mw_23 mw_210) rfl rfl rfl hd_X0_put ⟨by show 1 ≤ 2 + fR + 1; omega, by show 21 ≤ 44 + lR; omega⟩) rfl rfl hl.1 (Nat.le_of_ble_eq_true rfl) ⟨Nat.zero_le _, Nat.zero_le _⟩ dX0_readEither_48 (fun H locs hP hS => ?_)
          refine lv_if_ne (tgt := 56) hx hb dX0_readEither_51 (by decide) (fun c_12 => ?_) (fun c_12 => ?_) -- COND 12 rcases (Decidable.em (r11 = 0)).symm with c_12 | c_12
          · have hF := ite_f hF c_12
            obtain ⟨x13, ex13, hF⟩ := nm_1 hF
            refine lv_iinc (v := x13) (lv' := [(2, .int x13), (0, .ref (ad 29)), (1, .int v1)]) hx hb dX0_readEither_56 hl (k := 2) rfl (by rw [ex13]; first | rfl | decide) (by decide) rfl (fun ls hl => ?_)
            refine lv_goto (tgt := 12) hx hb dX0_readEither_59 (by decide) ?_
            exact ih _ _ _ _ _ _ _ hρ0 hL hRM hF hP hS (lv_sub hl [1, 2, 0] rfl)
          · have hF := ite_t hF c_12
            refine lv_iconst (v := 0) hx hb dX0_readEither_54 (by decide) ?_
            obtain ⟨rfl, rfl⟩ := ret_2 hF
            subst hρ0
            exact x_zret rfl rfl C hP hS dX0_readEither_55
set_option maxHeartbeats 4000000 in
set_option maxRecDepth 100000 in
theorem w_X0_readEither_B_0 {R : Int32 → SG → RG → Option (Int32 × SG)} {a1 : Int32} {p : Program} {e : Env} {s : State} {m : MethodId} {args : Array Value} {below : List Frame} {meth : Method} {c : Code} {ρ0 : RG} {r : Int32} {σ1 : SG} (C : Cx Y D N ad p s m args meth c cX0_readEither 3 (some .boolean) RX0 wsL_law) {σ : SG} {ρ : RG} {H : Heap} {locs : List Loc} {ls : Array Slot} (hρ0 : ρ = ρ0) (hL : Lay N K len ρ) (hRM : (∀ {a1 : Int32} {r : Int32} {σ1 : SG} {σ : SG} {ρ : RG}, Lay N K len ρ → R a1 σ ρ = some (r, σ1) → MT l Y D N ad K len yX0_readFactor (Cond.code yX0_readFactor cX0_readFactor 3 (some .boolean) :: wsL_law) (rmk fR lR) [.ref (ad 29), .int a1] σ ρ (some (.int r)) σ1 ρ)) (hF : F_X0_readEither_B R a1 σ ρ = some (r, σ1)) (hP : WP Y D N ad K len σ ρ H) (hS : va_S (AA N ad s.heap.size) s.heap H locs) (hl : lv_has ls 3 [(0, .ref (ad 29)), (1, .int a1)]) : W p l e (rm_X0_readEither_B fR lR) s m args below meth c H locs 0 0 (MQ below (QW Y D N ad K len σ1 ρ0 (AA N ad s.heap.size) (some (.int r))) args s 0 0 (AA N ad s.heap.size)) (F0 m 0 ls []) := by
  have hx := C.1.1
  have hb := C.1.2.1
  unfold F_X0_readEither_B at hF
  refine lv_aload_n hx hb dX0_readEither_0 rfl (lv_at hl 0 rfl) ?_
  refine lv_iload_n hx hb dX0_readEither_1 rfl (lv_at hl 1 rfl) ?_
  obtain ⟨r1, σ1, hq1, hF⟩ := bn2_1 hF
  refine x_callV (ci := 0) rfl rfl C hP hS (c_X0_readBoth_B hL hRM hq1) (lr_29 hL) (lk_29 hL) (cwV 1 C.1.2.2.2.2 (gdV mw_204 mw_205 mw_206 mw_23 mw_211) rfl rfl rfl hd_X0_readBoth ⟨by show 1 + fR + 1 + 1 ≤ 2 + fR + 1; omega, by show 22 + (22 + lR) ≤ 44 + lR; omega⟩) rfl rfl hl.1 (Nat.le_of_ble_eq_true rfl) ⟨Nat.zero_le _, Nat.zero_le _⟩ dX0_readEither_2 (fun H locs hP hS => ?_)
  refine lv_if_ne (tgt := 10) hx hb dX0_readEither_5 (by decide) (fun c_2 => ?_) (fun c_2 => ?_) -- COND 2 rcases (Decidable.em (r1 = 0)).symm with c_2 | c_2
  · have hF := ite_f hF c_2
    refine lv_iconst (v := 0) hx hb dX0_readEither_10 (by decide) ?_
    refine lv_istore_n (lv' := [(2, .int (0 : Int32)), (0, .ref (ad 29)), (1, .int a1)]) hx hb dX0_readEither_11 rfl hl (by decide) rfl (fun ls hl => ?_)
    exact w_X0_readEither_B_12 C 1024 _ _ _ _ _ _ _ hρ0 hL hRM hF hP hS (lv_sub hl [1, 2, 0] rfl)
  · have hF := ite_t hF c_2
    refine lv_iconst (v := 0) hx hb dX0_readEither_8 (by decide) ?_
    obtain ⟨rfl, rfl⟩ := ret_2 hF
    subst hρ0
    exact x_zret rfl rfl C hP hS dX0_readEither_9
set_option maxHeartbeats 4000000 in
set_option maxRecDepth 100000 in
theorem c_X0_readEither_B {R : Int32 → SG → RG → Option (Int32 × SG)} {a1 : Int32} {r : Int32} {σ1 : SG} {σ : SG} {ρ : RG} (hL : Lay N K len ρ) (hRM : (∀ {a1 : Int32} {r : Int32} {σ1 : SG} {σ : SG} {ρ : RG}, Lay N K len ρ → R a1 σ ρ = some (r, σ1) → MT l Y D N ad K len yX0_readFactor (Cond.code yX0_readFactor cX0_readFactor 3 (some .boolean) :: wsL_law) (rmk fR lR) [.ref (ad 29), .int a1] σ ρ (some (.int r)) σ1 ρ)) (hF : F_X0_readEither_B R a1 σ ρ = some (r, σ1)) : MT l Y D N ad K len yX0_readEither (Cond.code yX0_readEither cX0_readEither 3 (some .boolean) :: wsL_law) (rm_X0_readEither_B fR lR) [.ref (ad 29), .int a1] σ ρ (some (.int r)) σ1 ρ := by
  refine mt_of (cc := cX0_readEither) (nL := 3) (ret := (some .boolean)) (by decide) (Nat.le_of_ble_eq_true rfl) ?_
  intro p e s m args below meth c ls C hnm hP hS hl
  exact w_X0_readEither_B_0 C rfl hL hRM hF hP hS hl

/-! CutCrooked$Board.private boolean readFactor(int); B -/
theorem dX0_readFactor_0 : decode cX0_readFactor 0 = .ok (.aload_n 0, 1) := by decide +kernel
theorem dX0_readFactor_1 : decode cX0_readFactor 1 = .ok (.invokevirtual 74, 3) := by decide +kernel
theorem dX0_readFactor_4 : decode cX0_readFactor 4 = .ok (.istore_n 2, 1) := by decide +kernel
theorem dX0_readFactor_5 : decode cX0_readFactor 5 = .ok (.iload_n 2, 1) := by decide +kernel
theorem dX0_readFactor_6 : decode cX0_readFactor 6 = .ok (.bipush 33, 2) := by decide +kernel
theorem dX0_readFactor_8 : decode cX0_readFactor 8 = .ok (.if_icmp .eq 14, 3) := by decide +kernel
theorem dX0_readFactor_11 : decode cX0_readFactor 11 = .ok (.iload_n 2, 1) := by decide +kernel
theorem dX0_readFactor_12 : decode cX0_readFactor 12 = .ok (.bipush 40, 2) := by decide +kernel
theorem dX0_readFactor_14 : decode cX0_readFactor 14 = .ok (.if_icmp .eq 8, 3) := by decide +kernel
theorem dX0_readFactor_17 : decode cX0_readFactor 17 = .ok (.aload_n 0, 1) := by decide +kernel
theorem dX0_readFactor_18 : decode cX0_readFactor 18 = .ok (.invokevirtual 113, 3) := by decide +kernel
theorem dX0_readFactor_21 : decode cX0_readFactor 21 = .ok (.ireturn, 1) := by decide +kernel
theorem dX0_readFactor_22 : decode cX0_readFactor 22 = .ok (.iload_n 1, 1) := by decide +kernel
theorem dX0_readFactor_23 : decode cX0_readFactor 23 = .ok (.iconst 5, 1) := by decide +kernel
theorem dX0_readFactor_24 : decode cX0_readFactor 24 = .ok (.if_icmp .lt 5, 3) := by decide +kernel
theorem dX0_readFactor_27 : decode cX0_readFactor 27 = .ok (.iconst 0, 1) := by decide +kernel
theorem dX0_readFactor_28 : decode cX0_readFactor 28 = .ok (.ireturn, 1) := by decide +kernel
theorem dX0_readFactor_29 : decode cX0_readFactor 29 = .ok (.aload_n 0, 1) := by decide +kernel
theorem dX0_readFactor_30 : decode cX0_readFactor 30 = .ok (.dup, 1) := by decide +kernel
theorem dX0_readFactor_31 : decode cX0_readFactor 31 = .ok (.getfield 63, 3) := by decide +kernel
theorem dX0_readFactor_34 : decode cX0_readFactor 34 = .ok (.iconst 1, 1) := by decide +kernel
theorem dX0_readFactor_35 : decode cX0_readFactor 35 = .ok (.iadd, 1) := by decide +kernel
theorem dX0_readFactor_36 : decode cX0_readFactor 36 = .ok (.putfield 63, 3) := by decide +kernel
theorem dX0_readFactor_39 : decode cX0_readFactor 39 = .ok (.iload_n 2, 1) := by decide +kernel
theorem dX0_readFactor_40 : decode cX0_readFactor 40 = .ok (.bipush 33, 2) := by decide +kernel
theorem dX0_readFactor_42 : decode cX0_readFactor 42 = .ok (.if_icmp .ne 27, 3) := by decide +kernel
theorem dX0_readFactor_45 : decode cX0_readFactor 45 = .ok (.aload_n 0, 1) := by decide +kernel
theorem dX0_readFactor_46 : decode cX0_readFactor 46 = .ok (.iload_n 1, 1) := by decide +kernel
theorem dX0_readFactor_47 : decode cX0_readFactor 47 = .ok (.iconst 1, 1) := by decide +kernel
theorem dX0_readFactor_48 : decode cX0_readFactor 48 = .ok (.iadd, 1) := by decide +kernel
theorem dX0_readFactor_49 : decode cX0_readFactor 49 = .ok (.invokevirtual 110, 3) := by decide +kernel
theorem dX0_readFactor_52 : decode cX0_readFactor 52 = .ok (.ifCond .eq 15, 3) := by decide +kernel
theorem dX0_readFactor_55 : decode cX0_readFactor 55 = .ok (.aload_n 0, 1) := by decide +kernel
theorem dX0_readFactor_56 : decode cX0_readFactor 56 = .ok (.iconst (-1), 1) := by decide +kernel
theorem dX0_readFactor_57 : decode cX0_readFactor 57 = .ok (.invokevirtual 107, 3) := by decide +kernel
theorem dX0_readFactor_60 : decode cX0_readFactor 60 = .ok (.ifCond .eq 7, 3) := by decide +kernel
theorem dX0_readFactor_63 : decode cX0_readFactor 63 = .ok (.iconst 1, 1) := by decide +kernel
theorem dX0_readFactor_64 : decode cX0_readFactor 64 = .ok (.goto 4, 3) := by decide +kernel
theorem dX0_readFactor_67 : decode cX0_readFactor 67 = .ok (.iconst 0, 1) := by decide +kernel
theorem dX0_readFactor_68 : decode cX0_readFactor 68 = .ok (.ireturn, 1) := by decide +kernel
theorem dX0_readFactor_69 : decode cX0_readFactor 69 = .ok (.aload_n 0, 1) := by decide +kernel
theorem dX0_readFactor_70 : decode cX0_readFactor 70 = .ok (.iload_n 1, 1) := by decide +kernel
theorem dX0_readFactor_71 : decode cX0_readFactor 71 = .ok (.iconst 1, 1) := by decide +kernel
theorem dX0_readFactor_72 : decode cX0_readFactor 72 = .ok (.iadd, 1) := by decide +kernel
theorem dX0_readFactor_73 : decode cX0_readFactor 73 = .ok (.invokevirtual 100, 3) := by decide +kernel
theorem dX0_readFactor_76 : decode cX0_readFactor 76 = .ok (.ifCond .eq 16, 3) := by decide +kernel
theorem dX0_readFactor_79 : decode cX0_readFactor 79 = .ok (.aload_n 0, 1) := by decide +kernel
theorem dX0_readFactor_80 : decode cX0_readFactor 80 = .ok (.bipush 41, 2) := by decide +kernel
theorem dX0_readFactor_82 : decode cX0_readFactor 82 = .ok (.invokevirtual 70, 3) := by decide +kernel
theorem dX0_readFactor_85 : decode cX0_readFactor 85 = .ok (.ifCond .eq 7, 3) := by decide +kernel
theorem dX0_readFactor_88 : decode cX0_readFactor 88 = .ok (.iconst 1, 1) := by decide +kernel
theorem dX0_readFactor_89 : decode cX0_readFactor 89 = .ok (.goto 4, 3) := by decide +kernel
theorem dX0_readFactor_92 : decode cX0_readFactor 92 = .ok (.iconst 0, 1) := by decide +kernel
theorem dX0_readFactor_93 : decode cX0_readFactor 93 = .ok (.ireturn, 1) := by decide +kernel
abbrev rm_X0_readFactor_B (fR lR : Nat) : Room := { frames := 5 + fR + 1, cells := 0, slots := 0, locals := 113 + lR }
def F_X0_readFactor_B_22 (R : Int32 → SG → RG → Option (Int32 × SG)) (a1 : Int32) (σ : SG) (ρ : RG) (v1 : Int32) (v2 : Int32) : Option (Int32 × SG) :=
  if v1 < (5 : Int32) then
    nm ((σ 29 10) + (1 : Int32)) fun x4 =>
    nm (s2 σ 29 10 x4) fun σ6 =>
    if v2 = (33 : Int32) then
      nm (v1 + (1 : Int32)) fun x13 =>
      bn2 (R x13 σ6 ρ) fun r14 σ14 =>
      if r14 = 0 then
        some ((0 : Int32), σ14)
      else
        bn2 (F_X0_put (-1 : Int32) σ14 ρ) fun r16 σ16 =>
        if r16 = 0 then
          some ((0 : Int32), σ16)
        else
          some ((1 : Int32), σ16)
    else
      nm (v1 + (1 : Int32)) fun x8 =>
      bn2 (F_X0_readEither_B R x8 σ6 ρ) fun r9 σ9 =>
      if r9 = 0 then
        some ((0 : Int32), σ9)
      else
        bn2 (F_X0_readSign (41 : Int32) σ9 ρ) fun r11 σ11 =>
        if r11 = 0 then
          some ((0 : Int32), σ11)
        else
          some ((1 : Int32), σ11)
  else
    some ((0 : Int32), σ)
def F_X0_readFactor_B (R : Int32 → SG → RG → Option (Int32 × SG)) (a1 : Int32) (σ : SG) (ρ : RG) : Option (Int32 × SG) :=
  bn (F_X0_next σ ρ) fun r1 =>
  if r1 = (33 : Int32) then
    F_X0_readFactor_B_22 R a1 σ ρ a1 r1
  else
    if r1 = (40 : Int32) then
      F_X0_readFactor_B_22 R a1 σ ρ a1 r1
    else
      bn2 (F_X0_readTest σ ρ) fun r19 σ19 =>
      gd (isb r19) <|
      some (r19, σ19)
set_option maxHeartbeats 4000000 in
set_option maxRecDepth 100000 in
theorem w_X0_readFactor_B_22 {R : Int32 → SG → RG → Option (Int32 × SG)} {a1 : Int32} {p : Program} {e : Env} {s : State} {m : MethodId} {args : Array Value} {below : List Frame} {meth : Method} {c : Code} {ρ0 : RG} {r : Int32} {σ1 : SG} (C : Cx Y D N ad p s m args meth c cX0_readFactor 3 (some .boolean) RX0 wsL_law) {σ : SG} {ρ : RG} {v1 : Int32} {v2 : Int32} {H : Heap} {locs : List Loc} {ls : Array Slot} (hρ0 : ρ = ρ0) (hL : Lay N K len ρ) (hRM : (∀ {a1 : Int32} {r : Int32} {σ1 : SG} {σ : SG} {ρ : RG}, Lay N K len ρ → R a1 σ ρ = some (r, σ1) → MT l Y D N ad K len yX0_readFactor (Cond.code yX0_readFactor cX0_readFactor 3 (some .boolean) :: wsL_law) (rmk fR lR) [.ref (ad 29), .int a1] σ ρ (some (.int r)) σ1 ρ)) (hF : F_X0_readFactor_B_22 R a1 σ ρ v1 v2 = some (r, σ1)) (hP : WP Y D N ad K len σ ρ H) (hS : va_S (AA N ad s.heap.size) s.heap H locs) (hl : lv_has ls 3 [(0, .ref (ad 29)), (1, .int v1), (2, .int v2)]) : W p l e (rm_X0_readFactor_B fR lR) s m args below meth c H locs 0 0 (MQ below (QW Y D N ad K len σ1 ρ0 (AA N ad s.heap.size) (some (.int r))) args s 0 0 (AA N ad s.heap.size)) (F0 m 22 ls []) := by
  have hx := C.1.1
  have hb := C.1.2.1
  unfold F_X0_readFactor_B_22 at hF
  refine lv_iload_n hx hb dX0_readFactor_22 rfl (lv_at hl 1 rfl) ?_
  refine lv_iconst (v := 5) hx hb dX0_readFactor_23 (by decide) ?_
  refine lv_icmp_lt (tgt := 29) hx hb dX0_readFactor_24 (by decide) (fun c_3 => ?_) (fun c_3 => ?_) -- COND 3 by_cases c_3 : v1 < (5 : Int32)
  · have hF := ite_t hF c_3
    refine lv_aload_n hx hb dX0_readFactor_29 rfl (lv_at hl 0 rfl) ?_
    refine lv_dup hx hb dX0_readFactor_30 rfl ?_
    refine get_0_10 C hP (lr_29 hL) (lk_29 hL) inlX0 mw_120 dX0_readFactor_31 ?_
    refine lv_iconst (v := 1) hx hb dX0_readFactor_34 (by decide) ?_
    refine lv_iadd hx hb dX0_readFactor_35 ?_
    obtain ⟨x4, ex4, hF⟩ := nm_1 hF
    refine x_top ex4 ?_
    obtain ⟨σ6, eσ6, hF⟩ := nm_1 hF
    refine put_0_10 C hP hS (lr_29 hL) (lk_29 hL) inlX0 mw_120 eσ6 dX0_readFactor_36 (fun H locs hP hS => ?_)
    refine lv_iload_n hx hb dX0_readFactor_39 rfl (lv_at hl 2 rfl) ?_
    refine lv_bipush (v := 33) hx hb dX0_readFactor_40 (by decide +kernel) ?_
    refine lv_icmp_ne (tgt := 69) hx hb dX0_readFactor_42 (by decide) (fun c_7 => ?_) (fun c_7 => ?_) -- COND 7 rcases (Decidable.em (v2 = (33 : Int32))).symm with c_7 | c_7
    · have hF := ite_f hF c_7
      refine lv_aload_n hx hb dX0_readFactor_69 rfl (lv_at hl 0 rfl) ?_
      refine lv_iload_n hx hb dX0_readFactor_70 rfl (lv_at hl 1 rfl) ?_
      refine lv_iconst (v := 1) hx hb dX0_readFactor_71 (by decide) ?_
      refine lv_iadd hx hb dX0_readFactor_72 ?_
      obtain ⟨x8, ex8, hF⟩ := nm_1 hF
      refine x_top ex8 ?_
      obtain ⟨r9, σ9, hq9, hF⟩ := bn2_1 hF
      refine x_callV (ci := 0) rfl rfl C hP hS (c_X0_readEither_B hL hRM hq9) (lr_29 hL) (lk_29 hL) (cwV 1 C.1.2.2.2.2 (gdV mw_200 mw_201 mw_202 mw_23 mw_203) rfl rfl rfl hd_X0_readEither ⟨by show 2 + fR + 1 + 1 ≤ 5 + fR + 1; omega, by show 22 + (44 + lR) ≤ 113 + lR; omega⟩) rfl rfl hl.1 (Nat.le_of_ble_eq_true rfl) ⟨Nat.zero_le _, Nat.zero_le _⟩ dX0_readFactor_73 (fun H locs hP hS => ?_)
      refine lv_if_eq (tgt := 92) hx hb dX0_readFactor_76 (by decide) (fun c_10 => ?_) (fun c_10 => ?_) -- COND 10 by_cases c_10 : r9 = 0
      · have hF := ite_t hF c_10
        refine lv_iconst (v := 0) hx hb dX0_readFactor_92 (by decide) ?_
        obtain ⟨rfl, rfl⟩ := ret_2 hF
        subst hρ0
        exact x_zret rfl rfl C hP hS dX0_readFactor_93
      · have hF := ite_f hF c_10
        refine lv_aload_n hx hb dX0_readFactor_79 rfl (lv_at hl 0 rfl) ?_
        refine lv_bipush (v := 41) hx hb dX0_readFactor_80 (by decide +kernel) ?_
        obtain ⟨r11, σ11, hq11, hF⟩ := bn2_1 hF
        refine x_callV (ci := 0) rfl rfl C hP hS (c_X0_readSign hL hq11) (lr_29 hL) (lk_29 hL) (cwV 1 C.1.2.2.2.2 (gdV mw_185 mw_186 mw_187 mw_23 mw_188) rfl rfl rfl hd_X0_readSign ⟨by show 2 ≤ 5 + fR + 1; omega, by show 41 ≤ 113 + lR; omega⟩) rfl rfl hl.1 (Nat.le_of_ble_eq_true rfl) ⟨Nat.zero_le _, Nat.zero_le _⟩ dX0_readFactor_82 (fun H locs hP hS => ?_)
        refine lv_if_eq (tgt := 92) hx hb dX0_readFactor_85 (by decide) (fun c_12 => ?_) (fun c_12 => ?_) -- COND 12 by_cases c_12 : r11 = 0
        · have hF := ite_t hF c_12
          refine lv_iconst (v := 0) hx hb dX0_readFactor_92 (by decide) ?_
          obtain ⟨rfl, rfl⟩ := ret_2 hF
          subst hρ0
          exact x_zret rfl rfl C hP hS dX0_readFactor_93
        · have hF := ite_f hF c_12
          refine lv_iconst (v := 1) hx hb dX0_readFactor_88 (by decide) ?_
          refine lv_goto (tgt := 93) hx hb dX0_readFactor_89 (by decide) ?_
          obtain ⟨rfl, rfl⟩ := ret_2 hF
          subst hρ0
          exact x_zret rfl rfl C hP hS dX0_readFactor_93
    · have hF := ite_t hF c_7
      refine lv_aload_n hx hb dX0_readFactor_45 rfl (lv_at hl 0 rfl) ?_
      refine lv_iload_n hx hb dX0_readFactor_46 rfl (lv_at hl 1 rfl) ?_
      refine lv_iconst (v := 1) hx hb dX0_readFactor_47 (by decide) ?_
      refine lv_iadd hx hb dX0_readFactor_48 ?_
      obtain ⟨x13, ex13, hF⟩ := nm_1 hF
      refine x_top ex13 ?_
      obtain ⟨r14, σ14, hq14, hF⟩ := bn2_1 hF
      refine x_callV (ci := 0) rfl rfl C hP hS (hRM hL hq14) (lr_29 hL) (lk_29 hL) (cwV 1 C.1.2.2.2.2 (gdV mw_212 mw_213 mw_214 mw_23 mw_215) rfl rfl rfl hd_X0_readFactor ⟨by show fR + 1 ≤ 5 + fR + 1; omega, by show 22 + lR ≤ 113 + lR; omega⟩) rfl rfl hl.1 (Nat.le_of_ble_eq_true rfl) ⟨Nat.zero_le _, Nat.zero_le _⟩ dX0_readFactor_49 (fun H locs hP hS => ?_)
      refine lv_if_eq (tgt := 67) hx hb dX0_readFactor_52 (by decide) (fun c_15 => ?_) (fun c_15 => ?_) -- COND 15 by_cases c_15 : r14 = 0
      · have hF := ite_t hF c_15
        refine lv_iconst (v := 0) hx hb dX0_readFactor_67 (by decide) ?_
        obtain ⟨rfl, rfl⟩ := ret_2 hF
        subst hρ0
        exact x_zret rfl rfl C hP hS dX0_readFactor_68
      · have hF := ite_f hF c_15
        refine lv_aload_n hx hb dX0_readFactor_55 rfl (lv_at hl 0 rfl) ?_
        refine lv_iconst (v := -1) hx hb dX0_readFactor_56 (by decide) ?_
        obtain ⟨r16, σ16, hq16, hF⟩ := bn2_1 hF
        refine x_callV (ci := 0) rfl rfl C hP hS (c_X0_put hL hq16) (lr_29 hL) (lk_29 hL) (cwV 1 C.1.2.2.2.2 (gdV mw_207 mw_208 mw_209 mw_23 mw_210) rfl rfl rfl hd_X0_put ⟨by show 1 ≤ 5 + fR + 1; omega, by show 21 ≤ 113 + lR; omega⟩) rfl rfl hl.1 (Nat.le_of_ble_eq_true rfl) ⟨Nat.zero_le _, Nat.zero_le _⟩ dX0_readFactor_57 (fun H locs hP hS => ?_)
        refine lv_if_eq (tgt := 67) hx hb dX0_readFactor_60 (by decide) (fun c_17 => ?_) (fun c_17 => ?_) -- COND 17 by_cases c_17 : r16 = 0
        · have hF := ite_t hF c_17
          refine lv_iconst (v := 0) hx hb dX0_readFactor_67 (by decide) ?_
          obtain ⟨rfl, rfl⟩ := ret_2 hF
          subst hρ0
          exact x_zret rfl rfl C hP hS dX0_readFactor_68
        · have hF := ite_f hF c_17
          refine lv_iconst (v := 1) hx hb dX0_readFactor_63 (by decide) ?_
          refine lv_goto (tgt := 68) hx hb dX0_readFactor_64 (by decide) ?_
          obtain ⟨rfl, rfl⟩ := ret_2 hF
          subst hρ0
          exact x_zret rfl rfl C hP hS dX0_readFactor_68
  · have hF := ite_f hF c_3
    refine lv_iconst (v := 0) hx hb dX0_readFactor_27 (by decide) ?_
    obtain ⟨rfl, rfl⟩ := ret_2 hF
    subst hρ0
    exact x_zret rfl rfl C hP hS dX0_readFactor_28
set_option maxHeartbeats 4000000 in
set_option maxRecDepth 100000 in
theorem w_X0_readFactor_B_0 {R : Int32 → SG → RG → Option (Int32 × SG)} {a1 : Int32} {p : Program} {e : Env} {s : State} {m : MethodId} {args : Array Value} {below : List Frame} {meth : Method} {c : Code} {ρ0 : RG} {r : Int32} {σ1 : SG} (C : Cx Y D N ad p s m args meth c cX0_readFactor 3 (some .boolean) RX0 wsL_law) {σ : SG} {ρ : RG} {H : Heap} {locs : List Loc} {ls : Array Slot} (hρ0 : ρ = ρ0) (hL : Lay N K len ρ) (hRM : (∀ {a1 : Int32} {r : Int32} {σ1 : SG} {σ : SG} {ρ : RG}, Lay N K len ρ → R a1 σ ρ = some (r, σ1) → MT l Y D N ad K len yX0_readFactor (Cond.code yX0_readFactor cX0_readFactor 3 (some .boolean) :: wsL_law) (rmk fR lR) [.ref (ad 29), .int a1] σ ρ (some (.int r)) σ1 ρ)) (hF : F_X0_readFactor_B R a1 σ ρ = some (r, σ1)) (hP : WP Y D N ad K len σ ρ H) (hS : va_S (AA N ad s.heap.size) s.heap H locs) (hl : lv_has ls 3 [(0, .ref (ad 29)), (1, .int a1)]) : W p l e (rm_X0_readFactor_B fR lR) s m args below meth c H locs 0 0 (MQ below (QW Y D N ad K len σ1 ρ0 (AA N ad s.heap.size) (some (.int r))) args s 0 0 (AA N ad s.heap.size)) (F0 m 0 ls []) := by
  have hx := C.1.1
  have hb := C.1.2.1
  unfold F_X0_readFactor_B at hF
  refine lv_aload_n hx hb dX0_readFactor_0 rfl (lv_at hl 0 rfl) ?_
  obtain ⟨r1, hq1, hF⟩ := bn_1 hF
  refine x_callV (ci := 0) rfl rfl C hP hS (c_X0_next hL hq1) (lr_29 hL) (lk_29 hL) (cwV 0 C.1.2.2.2.2 (gdV mw_128 mw_129 mw_130 mw_23 mw_131) rfl rfl rfl hd_X0_next ⟨by show 1 ≤ 5 + fR + 1; omega, by show 20 ≤ 113 + lR; omega⟩) rfl rfl hl.1 (Nat.le_of_ble_eq_true rfl) ⟨Nat.zero_le _, Nat.zero_le _⟩ dX0_readFactor_1 (fun H locs hP hS => ?_)
  refine lv_istore_n (lv' := [(2, .int r1), (0, .ref (ad 29)), (1, .int a1)]) hx hb dX0_readFactor_4 rfl hl (by decide) rfl (fun ls hl => ?_)
  refine lv_iload_n hx hb dX0_readFactor_5 rfl (lv_at hl 0 rfl) ?_
  refine lv_bipush (v := 33) hx hb dX0_readFactor_6 (by decide +kernel) ?_
  refine lv_icmp_eq (tgt := 22) hx hb dX0_readFactor_8 (by decide) (fun c_2 => ?_) (fun c_2 => ?_) -- COND 2 by_cases c_2 : r1 = (33 : Int32)
  · have hF := ite_t hF c_2
    exact w_X0_readFactor_B_22 C hρ0 hL hRM hF hP hS (lv_sub hl [1, 2, 0] rfl)
  · have hF := ite_f hF c_2
    refine lv_iload_n hx hb dX0_readFactor_11 rfl (lv_at hl 0 rfl) ?_
    refine lv_bipush (v := 40) hx hb dX0_readFactor_12 (by decide +kernel) ?_
    refine lv_icmp_eq (tgt := 22) hx hb dX0_readFactor_14 (by decide) (fun c_18 => ?_) (fun c_18 => ?_) -- COND 18 by_cases c_18 : r1 = (40 : Int32)
    · have hF := ite_t hF c_18
      exact w_X0_readFactor_B_22 C hρ0 hL hRM hF hP hS (lv_sub hl [1, 2, 0] rfl)
    · have hF := ite_f hF c_18
      refine lv_aload_n hx hb dX0_readFactor_17 rfl (lv_at hl 1 rfl) ?_
      obtain ⟨r19, σ19, hq19, hF⟩ := bn2_1 hF
      refine x_callV (ci := 0) rfl rfl C hP hS (c_X0_readTest hL hq19) (lr_29 hL) (lk_29 hL) (cwV 0 C.1.2.2.2.2 (gdV mw_216 mw_217 mw_218 mw_23 mw_219) rfl rfl rfl hd_X0_readTest ⟨by show 5 ≤ 5 + fR + 1; omega, by show 113 ≤ 113 + lR; omega⟩) rfl rfl hl.1 (Nat.le_of_ble_eq_true rfl) ⟨Nat.zero_le _, Nat.zero_le _⟩ dX0_readFactor_18 (fun H locs hP hS => ?_)
      obtain ⟨gr, hF⟩ := gd_1 hF
      obtain ⟨rfl, rfl⟩ := ret_2 hF
      subst hρ0
      exact x_zret rfl gr C hP hS dX0_readFactor_21
set_option maxHeartbeats 4000000 in
set_option maxRecDepth 100000 in
theorem c_X0_readFactor_B {R : Int32 → SG → RG → Option (Int32 × SG)} {a1 : Int32} {r : Int32} {σ1 : SG} {σ : SG} {ρ : RG} (hL : Lay N K len ρ) (hRM : (∀ {a1 : Int32} {r : Int32} {σ1 : SG} {σ : SG} {ρ : RG}, Lay N K len ρ → R a1 σ ρ = some (r, σ1) → MT l Y D N ad K len yX0_readFactor (Cond.code yX0_readFactor cX0_readFactor 3 (some .boolean) :: wsL_law) (rmk fR lR) [.ref (ad 29), .int a1] σ ρ (some (.int r)) σ1 ρ)) (hF : F_X0_readFactor_B R a1 σ ρ = some (r, σ1)) : MT l Y D N ad K len yX0_readFactor (Cond.code yX0_readFactor cX0_readFactor 3 (some .boolean) :: wsL_law) (rm_X0_readFactor_B fR lR) [.ref (ad 29), .int a1] σ ρ (some (.int r)) σ1 ρ := by
  refine mt_of (cc := cX0_readFactor) (nL := 3) (ret := (some .boolean)) (by decide) (Nat.le_of_ble_eq_true rfl) ?_
  intro p e s m args below meth c ls C hnm hP hS hl
  exact w_X0_readFactor_B_0 C rfl hL hRM hF hP hS hl

def F_X0_readFactor_R : Nat → Int32 → SG → RG → Option (Int32 × SG)
  | 0 => fun _ _ _ => none
  | d + 1 => fun a1 σ ρ => F_X0_readFactor_B (F_X0_readFactor_R d) a1 σ ρ
def fr_X0_readFactor_R : Nat → Nat
  | 0 => 0
  | d + 1 => 5 + fr_X0_readFactor_R d + 1
def lo_X0_readFactor_R : Nat → Nat
  | 0 => 0
  | d + 1 => 113 + lo_X0_readFactor_R d
theorem c_X0_readFactor_R (d : Nat) : ∀ {a1 : Int32} {r : Int32} {σ1 : SG} {σ : SG} {ρ : RG}, Lay N K len ρ → F_X0_readFactor_R d a1 σ ρ = some (r, σ1) → MT l Y D N ad K len yX0_readFactor (Cond.code yX0_readFactor cX0_readFactor 3 (some .boolean) :: wsL_law) (rmk (fr_X0_readFactor_R d) (lo_X0_readFactor_R d)) [.ref (ad 29), .int a1] σ ρ (some (.int r)) σ1 ρ := by
  induction d with
  | zero => intros; contradiction
  | succ d ih =>
    intro a1 r σ1 σ ρ hL hF
    exact c_X0_readFactor_B (R := F_X0_readFactor_R d) (fR := fr_X0_readFactor_R d) (lR := lo_X0_readFactor_R d) hL ih hF
def F_X0_readFactor (a1 : Int32) (σ : SG) (ρ : RG) : Option (Int32 × SG) := F_X0_readFactor_R 8 a1 σ ρ
abbrev rm_X0_readFactor : Room := { frames := 48, cells := 0, slots := 0, locals := 904 }
theorem rm_X0_readFactor_eq : rmk (fr_X0_readFactor_R 8) (lo_X0_readFactor_R 8) = rm_X0_readFactor := rfl
theorem c_X0_readFactor : ∀ {a1 : Int32} {r : Int32} {σ1 : SG} {σ : SG} {ρ : RG}, Lay N K len ρ → F_X0_readFactor a1 σ ρ = some (r, σ1) → MT l Y D N ad K len yX0_readFactor (Cond.code yX0_readFactor cX0_readFactor 3 (some .boolean) :: wsL_law) rm_X0_readFactor [.ref (ad 29), .int a1] σ ρ (some (.int r)) σ1 ρ := rm_X0_readFactor_eq ▸ c_X0_readFactor_R 8

/-! CutCrooked$Board.private boolean readBoth(int);  -/
abbrev rm_X0_readBoth : Room := { frames := 49, cells := 0, slots := 0, locals := 926 }
def F_X0_readBoth_12 (a1 : Int32) : Nat → SG → RG → Int32 → Int32 → Option (Int32 × SG)
  | 0 => fun _ _ _ _ => none
  | n + 1 => fun σ ρ v1 v2 =>
  if (100 : Int32) ≤ v2 then
    some ((1 : Int32), σ)
  else
    bn (F_X0_next σ ρ) fun r4 =>
    if r4 = (38 : Int32) then
      nm ((σ 29 10) + (1 : Int32)) fun x6 =>
      nm (s2 σ 29 10 x6) fun σ8 =>
      bn2 (F_X0_readFactor v1 σ8 ρ) fun r9 σ9 =>
      if r9 = 0 then
        some ((0 : Int32), σ9)
      else
        bn2 (F_X0_put (-2 : Int32) σ9 ρ) fun r11 σ11 =>
        if r11 = 0 then
          some ((0 : Int32), σ11)
        else
          nm (v2 + (1 : Int32)) fun x13 =>
          F_X0_readBoth_12 a1 n σ11 ρ v1 x13
    else
      some ((1 : Int32), σ)
def F_X0_readBoth (a1 : Int32) (σ : SG) (ρ : RG) : Option (Int32 × SG) :=
  bn2 (F_X0_readFactor a1 σ ρ) fun r1 σ1 =>
  if r1 = 0 then
    some ((0 : Int32), σ1)
  else
    F_X0_readBoth_12 a1 1024 σ1 ρ a1 (0 : Int32)
set_option maxHeartbeats 4000000 in
set_option maxRecDepth 100000 in
theorem w_X0_readBoth_12 {a1 : Int32} {p : Program} {e : Env} {s : State} {m : MethodId} {args : Array Value} {below : List Frame} {meth : Method} {c : Code} {ρ0 : RG} {r : Int32} {σ1 : SG} (C : Cx Y D N ad p s m args meth c cX0_readBoth 3 (some .boolean) RX0 wsL_law) : ∀ (n : Nat) (σ : SG) (ρ : RG) (v1 : Int32) (v2 : Int32) (H : Heap) (locs : List Loc) (ls : Array Slot), ρ = ρ0 → Lay N K len ρ → F_X0_readBoth_12 a1 n σ ρ v1 v2 = some (r, σ1) → WP Y D N ad K len σ ρ H → va_S (AA N ad s.heap.size) s.heap H locs → lv_has ls 3 [(0, .ref (ad 29)), (1, .int v1), (2, .int v2)] → W p l e rm_X0_readBoth s m args below meth c H locs 0 0 (MQ below (QW Y D N ad K len σ1 ρ0 (AA N ad s.heap.size) (some (.int r))) args s 0 0 (AA N ad s.heap.size)) (F0 m 12 ls []) := by
  have hx := C.1.1
  have hb := C.1.2.1
  intro n
  induction n with
  | zero => intro σ ρ v1 v2 H locs ls hρ0 hL hF; cases hF
  | succ n ih =>
    intro σ ρ v1 v2 H locs ls hρ0 hL hF hP hS hl
    unfold F_X0_readBoth_12 at hF
    refine lv_iload_n hx hb dX0_readBoth_12 rfl (lv_at hl 2 rfl) ?_
    refine lv_bipush (v := 100) hx hb dX0_readBoth_13 (by decide +kernel) ?_
    refine lv_icmp_ge (tgt := 62) hx hb dX0_readBoth_15 (by decide) (fun c_3 => ?_) (fun c_3 => ?_) -- COND 3 by_cases c_3 : (100 : Int32) ≤ v2
    · have hF := ite_t hF c_3
      refine lv_iconst (v := 1) hx hb dX0_readBoth_62 (by decide) ?_
      obtain ⟨rfl, rfl⟩ := ret_2 hF
      subst hρ0
      exact x_zret rfl rfl C hP hS dX0_readBoth_63
    · have hF := ite_f hF c_3
      refine lv_aload_n hx hb dX0_readBoth_18 rfl (lv_at hl 0 rfl) ?_
      obtain ⟨r4, hq4, hF⟩ := bn_1 hF
      refine x_callV (ci := 0) rfl rfl C hP hS (c_X0_next hL hq4) (lr_29 hL) (lk_29 hL) (cwV 0 C.1.2.2.2.2 (gdV mw_128 mw_129 mw_130 mw_23 mw_131) rfl rfl rfl hd_X0_next ⟨Nat.le_of_ble_eq_true rfl, Nat.le_of_ble_eq_true rfl⟩) rfl rfl hl.1 (Nat.le_of_ble_eq_true rfl) ⟨Nat.zero_le _, Nat.zero_le _⟩ dX0_readBoth_19 (fun H locs hP hS => ?_)
      refine lv_bipush (v := 38) hx hb dX0_readBoth_22 (by decide +kernel) ?_
      refine lv_icmp_ne (tgt := 62) hx hb dX0_readBoth_24 (by decide) (fun c_5 => ?_) (fun c_5 => ?_) -- COND 5 rcases (Decidable.em (r4 = (38 : Int32))).symm with c_5 | c_5
      · have hF := ite_f hF c_5
        refine lv_iconst (v := 1) hx hb dX0_readBoth_62 (by decide) ?_
        obtain ⟨rfl, rfl⟩ := ret_2 hF
        subst hρ0
        exact x_zret rfl rfl C hP hS dX0_readBoth_63
      · have hF := ite_t hF c_5
        refine lv_aload_n hx hb dX0_readBoth_27 rfl (lv_at hl 0 rfl) ?_
        refine lv_dup hx hb dX0_readBoth_28 rfl ?_
        refine get_0_10 C hP (lr_29 hL) (lk_29 hL) inlX0 mw_120 dX0_readBoth_29 ?_
        refine lv_iconst (v := 1) hx hb dX0_readBoth_32 (by decide) ?_
        refine lv_iadd hx hb dX0_readBoth_33 ?_
        obtain ⟨x6, ex6, hF⟩ := nm_1 hF
        refine x_top ex6 ?_
        obtain ⟨σ8, eσ8, hF⟩ := nm_1 hF
        refine put_0_10 C hP hS (lr_29 hL) (lk_29 hL) inlX0 mw_120 eσ8 dX0_readBoth_34 (fun H locs hP hS => ?_)
        refine lv_aload_n hx hb dX0_readBoth_37 rfl (lv_at hl 0 rfl) ?_
        refine lv_iload_n hx hb dX0_readBoth_38 rfl (lv_at hl 1 rfl) ?_
        obtain ⟨r9, σ9, hq9, hF⟩ := bn2_1 hF
        refine x_callV (ci := 0) rfl rfl C hP hS (c_X0_readFactor hL hq9) (lr_29 hL) (lk_29 hL) (cwV 1 C.1.2.2.2.2 (gdV mw_212 mw_213 mw_214 mw_23 mw_215) rfl rfl rfl hd_X0_readFactor ⟨Nat.le_of_ble_eq_true rfl, Nat.le_of_ble_eq_true rfl⟩) rfl rfl hl.1 (Nat.le_of_ble_eq_true rfl) ⟨Nat.zero_le _, Nat.zero_le _⟩ dX0_readBoth_39 (fun H locs hP hS => ?_)
        refine lv_if_eq (tgt := 54) hx hb dX0_readBoth_42 (by decide) (fun c_10 => ?_) (fun c_10 => ?_) -- COND 10 by_cases c_10 : r9 = 0
        · have hF := ite_t hF c_10
          refine lv_iconst (v := 0) hx hb dX0_readBoth_54 (by decide) ?_
          obtain ⟨rfl, rfl⟩ := ret_2 hF
          subst hρ0
          exact x_zret rfl rfl C hP hS dX0_readBoth_55
        · have hF := ite_f hF c_10
          refine lv_aload_n hx hb dX0_readBoth_45 rfl (lv_at hl 0 rfl) ?_
          refine lv_bipush (v := -2) hx hb dX0_readBoth_46 (by decide +kernel) ?_
          obtain ⟨r11, σ11, hq11, hF⟩ := bn2_1 hF
          refine x_callV (ci := 0) rfl rfl C hP hS (c_X0_put hL hq11) (lr_29 hL) (lk_29 hL) (cwV 1 C.1.2.2.2.2 (gdV mw_207 mw_208 mw_209 mw_23 mw_210) rfl rfl rfl hd_X0_put ⟨Nat.le_of_ble_eq_true rfl, Nat.le_of_ble_eq_true rfl⟩) rfl rfl hl.1 (Nat.le_of_ble_eq_true rfl) ⟨Nat.zero_le _, Nat.zero_le _⟩ dX0_readBoth_48 (fun H locs hP hS => ?_)
          refine lv_if_ne (tgt := 56) hx hb dX0_readBoth_51 (by decide) (fun c_12 => ?_) (fun c_12 => ?_) -- COND 12 rcases (Decidable.em (r11 = 0)).symm with c_12 | c_12
          · have hF := ite_f hF c_12
            obtain ⟨x13, ex13, hF⟩ := nm_1 hF
            refine lv_iinc (v := x13) (lv' := [(2, .int x13), (0, .ref (ad 29)), (1, .int v1)]) hx hb dX0_readBoth_56 hl (k := 2) rfl (by rw [ex13]; first | rfl | decide) (by decide) rfl (fun ls hl => ?_)
            refine lv_goto (tgt := 12) hx hb dX0_readBoth_59 (by decide) ?_
            exact ih _ _ _ _ _ _ _ hρ0 hL hF hP hS (lv_sub hl [1, 2, 0] rfl)
          · have hF := ite_t hF c_12
            refine lv_iconst (v := 0) hx hb dX0_readBoth_54 (by decide) ?_
            obtain ⟨rfl, rfl⟩ := ret_2 hF
            subst hρ0
            exact x_zret rfl rfl C hP hS dX0_readBoth_55
set_option maxHeartbeats 4000000 in
set_option maxRecDepth 100000 in
theorem w_X0_readBoth_0 {a1 : Int32} {p : Program} {e : Env} {s : State} {m : MethodId} {args : Array Value} {below : List Frame} {meth : Method} {c : Code} {ρ0 : RG} {r : Int32} {σ1 : SG} (C : Cx Y D N ad p s m args meth c cX0_readBoth 3 (some .boolean) RX0 wsL_law) {σ : SG} {ρ : RG} {H : Heap} {locs : List Loc} {ls : Array Slot} (hρ0 : ρ = ρ0) (hL : Lay N K len ρ) (hF : F_X0_readBoth a1 σ ρ = some (r, σ1)) (hP : WP Y D N ad K len σ ρ H) (hS : va_S (AA N ad s.heap.size) s.heap H locs) (hl : lv_has ls 3 [(0, .ref (ad 29)), (1, .int a1)]) : W p l e rm_X0_readBoth s m args below meth c H locs 0 0 (MQ below (QW Y D N ad K len σ1 ρ0 (AA N ad s.heap.size) (some (.int r))) args s 0 0 (AA N ad s.heap.size)) (F0 m 0 ls []) := by
  have hx := C.1.1
  have hb := C.1.2.1
  unfold F_X0_readBoth at hF
  refine lv_aload_n hx hb dX0_readBoth_0 rfl (lv_at hl 0 rfl) ?_
  refine lv_iload_n hx hb dX0_readBoth_1 rfl (lv_at hl 1 rfl) ?_
  obtain ⟨r1, σ1, hq1, hF⟩ := bn2_1 hF
  refine x_callV (ci := 0) rfl rfl C hP hS (c_X0_readFactor hL hq1) (lr_29 hL) (lk_29 hL) (cwV 1 C.1.2.2.2.2 (gdV mw_212 mw_213 mw_214 mw_23 mw_215) rfl rfl rfl hd_X0_readFactor ⟨Nat.le_of_ble_eq_true rfl, Nat.le_of_ble_eq_true rfl⟩) rfl rfl hl.1 (Nat.le_of_ble_eq_true rfl) ⟨Nat.zero_le _, Nat.zero_le _⟩ dX0_readBoth_2 (fun H locs hP hS => ?_)
  refine lv_if_ne (tgt := 10) hx hb dX0_readBoth_5 (by decide) (fun c_2 => ?_) (fun c_2 => ?_) -- COND 2 rcases (Decidable.em (r1 = 0)).symm with c_2 | c_2
  · have hF := ite_f hF c_2
    refine lv_iconst (v := 0) hx hb dX0_readBoth_10 (by decide) ?_
    refine lv_istore_n (lv' := [(2, .int (0 : Int32)), (0, .ref (ad 29)), (1, .int a1)]) hx hb dX0_readBoth_11 rfl hl (by decide) rfl (fun ls hl => ?_)
    exact w_X0_readBoth_12 C 1024 _ _ _ _ _ _ _ hρ0 hL hF hP hS (lv_sub hl [1, 2, 0] rfl)
  · have hF := ite_t hF c_2
    refine lv_iconst (v := 0) hx hb dX0_readBoth_8 (by decide) ?_
    obtain ⟨rfl, rfl⟩ := ret_2 hF
    subst hρ0
    exact x_zret rfl rfl C hP hS dX0_readBoth_9
set_option maxHeartbeats 4000000 in
set_option maxRecDepth 100000 in
theorem c_X0_readBoth {a1 : Int32} {r : Int32} {σ1 : SG} {σ : SG} {ρ : RG} (hL : Lay N K len ρ) (hF : F_X0_readBoth a1 σ ρ = some (r, σ1)) : MT l Y D N ad K len yX0_readBoth (Cond.code yX0_readBoth cX0_readBoth 3 (some .boolean) :: wsL_law) rm_X0_readBoth [.ref (ad 29), .int a1] σ ρ (some (.int r)) σ1 ρ := by
  refine mt_of (cc := cX0_readBoth) (nL := 3) (ret := (some .boolean)) (by decide) (Nat.le_of_ble_eq_true rfl) ?_
  intro p e s m args below meth c ls C hnm hP hS hl
  exact w_X0_readBoth_0 C rfl hL hF hP hS hl

/-! CutCrooked$Board.private boolean readEither(int);  -/
abbrev rm_X0_readEither : Room := { frames := 50, cells := 0, slots := 0, locals := 948 }
def F_X0_readEither_12 (a1 : Int32) : Nat → SG → RG → Int32 → Int32 → Option (Int32 × SG)
  | 0 => fun _ _ _ _ => none
  | n + 1 => fun σ ρ v1 v2 =>
  if (100 : Int32) ≤ v2 then
    some ((1 : Int32), σ)
  else
    bn (F_X0_next σ ρ) fun r4 =>
    if r4 = (124 : Int32) then
      nm ((σ 29 10) + (1 : Int32)) fun x6 =>
      nm (s2 σ 29 10 x6) fun σ8 =>
      bn2 (F_X0_readBoth v1 σ8 ρ) fun r9 σ9 =>
      if r9 = 0 then
        some ((0 : Int32), σ9)
      else
        bn2 (F_X0_put (-3 : Int32) σ9 ρ) fun r11 σ11 =>
        if r11 = 0 then
          some ((0 : Int32), σ11)
        else
          nm (v2 + (1 : Int32)) fun x13 =>
          F_X0_readEither_12 a1 n σ11 ρ v1 x13
    else
      some ((1 : Int32), σ)
def F_X0_readEither (a1 : Int32) (σ : SG) (ρ : RG) : Option (Int32 × SG) :=
  bn2 (F_X0_readBoth a1 σ ρ) fun r1 σ1 =>
  if r1 = 0 then
    some ((0 : Int32), σ1)
  else
    F_X0_readEither_12 a1 1024 σ1 ρ a1 (0 : Int32)
set_option maxHeartbeats 4000000 in
set_option maxRecDepth 100000 in
theorem w_X0_readEither_12 {a1 : Int32} {p : Program} {e : Env} {s : State} {m : MethodId} {args : Array Value} {below : List Frame} {meth : Method} {c : Code} {ρ0 : RG} {r : Int32} {σ1 : SG} (C : Cx Y D N ad p s m args meth c cX0_readEither 3 (some .boolean) RX0 wsL_law) : ∀ (n : Nat) (σ : SG) (ρ : RG) (v1 : Int32) (v2 : Int32) (H : Heap) (locs : List Loc) (ls : Array Slot), ρ = ρ0 → Lay N K len ρ → F_X0_readEither_12 a1 n σ ρ v1 v2 = some (r, σ1) → WP Y D N ad K len σ ρ H → va_S (AA N ad s.heap.size) s.heap H locs → lv_has ls 3 [(0, .ref (ad 29)), (1, .int v1), (2, .int v2)] → W p l e rm_X0_readEither s m args below meth c H locs 0 0 (MQ below (QW Y D N ad K len σ1 ρ0 (AA N ad s.heap.size) (some (.int r))) args s 0 0 (AA N ad s.heap.size)) (F0 m 12 ls []) := by
  have hx := C.1.1
  have hb := C.1.2.1
  intro n
  induction n with
  | zero => intro σ ρ v1 v2 H locs ls hρ0 hL hF; cases hF
  | succ n ih =>
    intro σ ρ v1 v2 H locs ls hρ0 hL hF hP hS hl
    unfold F_X0_readEither_12 at hF
    refine lv_iload_n hx hb dX0_readEither_12 rfl (lv_at hl 2 rfl) ?_
    refine lv_bipush (v := 100) hx hb dX0_readEither_13 (by decide +kernel) ?_
    refine lv_icmp_ge (tgt := 62) hx hb dX0_readEither_15 (by decide) (fun c_3 => ?_) (fun c_3 => ?_) -- COND 3 by_cases c_3 : (100 : Int32) ≤ v2
    · have hF := ite_t hF c_3
      refine lv_iconst (v := 1) hx hb dX0_readEither_62 (by decide) ?_
      obtain ⟨rfl, rfl⟩ := ret_2 hF
      subst hρ0
      exact x_zret rfl rfl C hP hS dX0_readEither_63
    · have hF := ite_f hF c_3
      refine lv_aload_n hx hb dX0_readEither_18 rfl (lv_at hl 0 rfl) ?_
      obtain ⟨r4, hq4, hF⟩ := bn_1 hF
      refine x_callV (ci := 0) rfl rfl C hP hS (c_X0_next hL hq4) (lr_29 hL) (lk_29 hL) (cwV 0 C.1.2.2.2.2 (gdV mw_128 mw_129 mw_130 mw_23 mw_131) rfl rfl rfl hd_X0_next ⟨Nat.le_of_ble_eq_true rfl, Nat.le_of_ble_eq_true rfl⟩) rfl rfl hl.1 (Nat.le_of_ble_eq_true rfl) ⟨Nat.zero_le _, Nat.zero_le _⟩ dX0_readEither_19 (fun H locs hP hS => ?_)
      refine lv_bipush (v := 124) hx hb dX0_readEither_22 (by decide +kernel) ?_
      refine lv_icmp_ne (tgt := 62) hx hb dX0_readEither_24 (by decide) (fun c_5 => ?_) (fun c_5 => ?_) -- COND 5 rcases (Decidable.em (r4 = (124 : Int32))).symm with c_5 | c_5
      · have hF := ite_f hF c_5
        refine lv_iconst (v := 1) hx hb dX0_readEither_62 (by decide) ?_
        obtain ⟨rfl, rfl⟩ := ret_2 hF
        subst hρ0
        exact x_zret rfl rfl C hP hS dX0_readEither_63
      · have hF := ite_t hF c_5
        refine lv_aload_n hx hb dX0_readEither_27 rfl (lv_at hl 0 rfl) ?_
        refine lv_dup hx hb dX0_readEither_28 rfl ?_
        refine get_0_10 C hP (lr_29 hL) (lk_29 hL) inlX0 mw_120 dX0_readEither_29 ?_
        refine lv_iconst (v := 1) hx hb dX0_readEither_32 (by decide) ?_
        refine lv_iadd hx hb dX0_readEither_33 ?_
        obtain ⟨x6, ex6, hF⟩ := nm_1 hF
        refine x_top ex6 ?_
        obtain ⟨σ8, eσ8, hF⟩ := nm_1 hF
        refine put_0_10 C hP hS (lr_29 hL) (lk_29 hL) inlX0 mw_120 eσ8 dX0_readEither_34 (fun H locs hP hS => ?_)
        refine lv_aload_n hx hb dX0_readEither_37 rfl (lv_at hl 0 rfl) ?_
        refine lv_iload_n hx hb dX0_readEither_38 rfl (lv_at hl 1 rfl) ?_
        obtain ⟨r9, σ9, hq9, hF⟩ := bn2_1 hF
        refine x_callV (ci := 0) rfl rfl C hP hS (c_X0_readBoth hL hq9) (lr_29 hL) (lk_29 hL) (cwV 1 C.1.2.2.2.2 (gdV mw_204 mw_205 mw_206 mw_23 mw_211) rfl rfl rfl hd_X0_readBoth ⟨Nat.le_of_ble_eq_true rfl, Nat.le_of_ble_eq_true rfl⟩) rfl rfl hl.1 (Nat.le_of_ble_eq_true rfl) ⟨Nat.zero_le _, Nat.zero_le _⟩ dX0_readEither_39 (fun H locs hP hS => ?_)
        refine lv_if_eq (tgt := 54) hx hb dX0_readEither_42 (by decide) (fun c_10 => ?_) (fun c_10 => ?_) -- COND 10 by_cases c_10 : r9 = 0
        · have hF := ite_t hF c_10
          refine lv_iconst (v := 0) hx hb dX0_readEither_54 (by decide) ?_
          obtain ⟨rfl, rfl⟩ := ret_2 hF
          subst hρ0
          exact x_zret rfl rfl C hP hS dX0_readEither_55
        · have hF := ite_f hF c_10
          refine lv_aload_n hx hb dX0_readEither_45 rfl (lv_at hl 0 rfl) ?_
          refine lv_bipush (v := -3) hx hb dX0_readEither_46 (by decide +kernel) ?_
          obtain ⟨r11, σ11, hq11, hF⟩ := bn2_1 hF
          refine x_callV (ci := 0) rfl rfl C hP hS (c_X0_put hL hq11) (lr_29 hL) (lk_29 hL) (cwV 1 C.1.2.2.2.2 (gdV mw_207 mw_208 mw_209 mw_23 mw_210) rfl rfl rfl hd_X0_put ⟨Nat.le_of_ble_eq_true rfl, Nat.le_of_ble_eq_true rfl⟩) rfl rfl hl.1 (Nat.le_of_ble_eq_true rfl) ⟨Nat.zero_le _, Nat.zero_le _⟩ dX0_readEither_48 (fun H locs hP hS => ?_)
          refine lv_if_ne (tgt := 56) hx hb dX0_readEither_51 (by decide) (fun c_12 => ?_) (fun c_12 => ?_) -- COND 12 rcases (Decidable.em (r11 = 0)).symm with c_12 | c_12
          · have hF := ite_f hF c_12
            obtain ⟨x13, ex13, hF⟩ := nm_1 hF
            refine lv_iinc (v := x13) (lv' := [(2, .int x13), (0, .ref (ad 29)), (1, .int v1)]) hx hb dX0_readEither_56 hl (k := 2) rfl (by rw [ex13]; first | rfl | decide) (by decide) rfl (fun ls hl => ?_)
            refine lv_goto (tgt := 12) hx hb dX0_readEither_59 (by decide) ?_
            exact ih _ _ _ _ _ _ _ hρ0 hL hF hP hS (lv_sub hl [1, 2, 0] rfl)
          · have hF := ite_t hF c_12
            refine lv_iconst (v := 0) hx hb dX0_readEither_54 (by decide) ?_
            obtain ⟨rfl, rfl⟩ := ret_2 hF
            subst hρ0
            exact x_zret rfl rfl C hP hS dX0_readEither_55
set_option maxHeartbeats 4000000 in
set_option maxRecDepth 100000 in
theorem w_X0_readEither_0 {a1 : Int32} {p : Program} {e : Env} {s : State} {m : MethodId} {args : Array Value} {below : List Frame} {meth : Method} {c : Code} {ρ0 : RG} {r : Int32} {σ1 : SG} (C : Cx Y D N ad p s m args meth c cX0_readEither 3 (some .boolean) RX0 wsL_law) {σ : SG} {ρ : RG} {H : Heap} {locs : List Loc} {ls : Array Slot} (hρ0 : ρ = ρ0) (hL : Lay N K len ρ) (hF : F_X0_readEither a1 σ ρ = some (r, σ1)) (hP : WP Y D N ad K len σ ρ H) (hS : va_S (AA N ad s.heap.size) s.heap H locs) (hl : lv_has ls 3 [(0, .ref (ad 29)), (1, .int a1)]) : W p l e rm_X0_readEither s m args below meth c H locs 0 0 (MQ below (QW Y D N ad K len σ1 ρ0 (AA N ad s.heap.size) (some (.int r))) args s 0 0 (AA N ad s.heap.size)) (F0 m 0 ls []) := by
  have hx := C.1.1
  have hb := C.1.2.1
  unfold F_X0_readEither at hF
  refine lv_aload_n hx hb dX0_readEither_0 rfl (lv_at hl 0 rfl) ?_
  refine lv_iload_n hx hb dX0_readEither_1 rfl (lv_at hl 1 rfl) ?_
  obtain ⟨r1, σ1, hq1, hF⟩ := bn2_1 hF
  refine x_callV (ci := 0) rfl rfl C hP hS (c_X0_readBoth hL hq1) (lr_29 hL) (lk_29 hL) (cwV 1 C.1.2.2.2.2 (gdV mw_204 mw_205 mw_206 mw_23 mw_211) rfl rfl rfl hd_X0_readBoth ⟨Nat.le_of_ble_eq_true rfl, Nat.le_of_ble_eq_true rfl⟩) rfl rfl hl.1 (Nat.le_of_ble_eq_true rfl) ⟨Nat.zero_le _, Nat.zero_le _⟩ dX0_readEither_2 (fun H locs hP hS => ?_)
  refine lv_if_ne (tgt := 10) hx hb dX0_readEither_5 (by decide) (fun c_2 => ?_) (fun c_2 => ?_) -- COND 2 rcases (Decidable.em (r1 = 0)).symm with c_2 | c_2
  · have hF := ite_f hF c_2
    refine lv_iconst (v := 0) hx hb dX0_readEither_10 (by decide) ?_
    refine lv_istore_n (lv' := [(2, .int (0 : Int32)), (0, .ref (ad 29)), (1, .int a1)]) hx hb dX0_readEither_11 rfl hl (by decide) rfl (fun ls hl => ?_)
    exact w_X0_readEither_12 C 1024 _ _ _ _ _ _ _ hρ0 hL hF hP hS (lv_sub hl [1, 2, 0] rfl)
  · have hF := ite_t hF c_2
    refine lv_iconst (v := 0) hx hb dX0_readEither_8 (by decide) ?_
    obtain ⟨rfl, rfl⟩ := ret_2 hF
    subst hρ0
    exact x_zret rfl rfl C hP hS dX0_readEither_9
set_option maxHeartbeats 4000000 in
set_option maxRecDepth 100000 in
theorem c_X0_readEither {a1 : Int32} {r : Int32} {σ1 : SG} {σ : SG} {ρ : RG} (hL : Lay N K len ρ) (hF : F_X0_readEither a1 σ ρ = some (r, σ1)) : MT l Y D N ad K len yX0_readEither (Cond.code yX0_readEither cX0_readEither 3 (some .boolean) :: wsL_law) rm_X0_readEither [.ref (ad 29), .int a1] σ ρ (some (.int r)) σ1 ρ := by
  refine mt_of (cc := cX0_readEither) (nL := 3) (ret := (some .boolean)) (by decide) (Nat.le_of_ble_eq_true rfl) ?_
  intro p e s m args below meth c ls C hnm hP hS hl
  exact w_X0_readEither_0 C rfl hL hF hP hS hl

/-! CutCrooked$Board.private boolean readAdding(boolean);  -/
theorem dX0_readAdding_0 : decode cX0_readAdding 0 = .ok (.aload_n 0, 1) := by decide +kernel
theorem dX0_readAdding_1 : decode cX0_readAdding 1 = .ok (.invokevirtual 84, 3) := by decide +kernel
theorem dX0_readAdding_4 : decode cX0_readAdding 4 = .ok (.ifCond .ne 5, 3) := by decide +kernel
theorem dX0_readAdding_7 : decode cX0_readAdding 7 = .ok (.iconst 0, 1) := by decide +kernel
theorem dX0_readAdding_8 : decode cX0_readAdding 8 = .ok (.ireturn, 1) := by decide +kernel
theorem dX0_readAdding_9 : decode cX0_readAdding 9 = .ok (.aload_n 0, 1) := by decide +kernel
theorem dX0_readAdding_10 : decode cX0_readAdding 10 = .ok (.getfield 87, 3) := by decide +kernel
theorem dX0_readAdding_13 : decode cX0_readAdding 13 = .ok (.istore_n 2, 1) := by decide +kernel
theorem dX0_readAdding_14 : decode cX0_readAdding 14 = .ok (.aload_n 0, 1) := by decide +kernel
theorem dX0_readAdding_15 : decode cX0_readAdding 15 = .ok (.bipush 32, 2) := by decide +kernel
theorem dX0_readAdding_17 : decode cX0_readAdding 17 = .ok (.invokevirtual 70, 3) := by decide +kernel
theorem dX0_readAdding_20 : decode cX0_readAdding 20 = .ok (.ifCond .eq 20, 3) := by decide +kernel
theorem dX0_readAdding_23 : decode cX0_readAdding 23 = .ok (.aload_n 0, 1) := by decide +kernel
theorem dX0_readAdding_24 : decode cX0_readAdding 24 = .ok (.iconst 0, 1) := by decide +kernel
theorem dX0_readAdding_25 : decode cX0_readAdding 25 = .ok (.invokevirtual 100, 3) := by decide +kernel
theorem dX0_readAdding_28 : decode cX0_readAdding 28 = .ok (.ifCond .eq 12, 3) := by decide +kernel
theorem dX0_readAdding_31 : decode cX0_readAdding 31 = .ok (.aload_n 0, 1) := by decide +kernel
theorem dX0_readAdding_32 : decode cX0_readAdding 32 = .ok (.getfield 32, 3) := by decide +kernel
theorem dX0_readAdding_35 : decode cX0_readAdding 35 = .ok (.bipush 10, 2) := by decide +kernel
theorem dX0_readAdding_37 : decode cX0_readAdding 37 = .ok (.if_icmp .lt 5, 3) := by decide +kernel
theorem dX0_readAdding_40 : decode cX0_readAdding 40 = .ok (.iconst 0, 1) := by decide +kernel
theorem dX0_readAdding_41 : decode cX0_readAdding 41 = .ok (.ireturn, 1) := by decide +kernel
theorem dX0_readAdding_42 : decode cX0_readAdding 42 = .ok (.aload_n 0, 1) := by decide +kernel
theorem dX0_readAdding_43 : decode cX0_readAdding 43 = .ok (.getfield 18, 3) := by decide +kernel
theorem dX0_readAdding_46 : decode cX0_readAdding 46 = .ok (.aload_n 0, 1) := by decide +kernel
theorem dX0_readAdding_47 : decode cX0_readAdding 47 = .ok (.getfield 32, 3) := by decide +kernel
theorem dX0_readAdding_50 : decode cX0_readAdding 50 = .ok (.iload_n 1, 1) := by decide +kernel
theorem dX0_readAdding_51 : decode cX0_readAdding 51 = .ok (.bastore, 1) := by decide +kernel
theorem dX0_readAdding_52 : decode cX0_readAdding 52 = .ok (.aload_n 0, 1) := by decide +kernel
theorem dX0_readAdding_53 : decode cX0_readAdding 53 = .ok (.getfield 22, 3) := by decide +kernel
theorem dX0_readAdding_56 : decode cX0_readAdding 56 = .ok (.aload_n 0, 1) := by decide +kernel
theorem dX0_readAdding_57 : decode cX0_readAdding 57 = .ok (.getfield 32, 3) := by decide +kernel
theorem dX0_readAdding_60 : decode cX0_readAdding 60 = .ok (.iload_n 2, 1) := by decide +kernel
theorem dX0_readAdding_61 : decode cX0_readAdding 61 = .ok (.iastore, 1) := by decide +kernel
theorem dX0_readAdding_62 : decode cX0_readAdding 62 = .ok (.aload_n 0, 1) := by decide +kernel
theorem dX0_readAdding_63 : decode cX0_readAdding 63 = .ok (.getfield 26, 3) := by decide +kernel
theorem dX0_readAdding_66 : decode cX0_readAdding 66 = .ok (.aload_n 0, 1) := by decide +kernel
theorem dX0_readAdding_67 : decode cX0_readAdding 67 = .ok (.getfield 32, 3) := by decide +kernel
theorem dX0_readAdding_70 : decode cX0_readAdding 70 = .ok (.aload_n 0, 1) := by decide +kernel
theorem dX0_readAdding_71 : decode cX0_readAdding 71 = .ok (.getfield 35, 3) := by decide +kernel
theorem dX0_readAdding_74 : decode cX0_readAdding 74 = .ok (.iastore, 1) := by decide +kernel
theorem dX0_readAdding_75 : decode cX0_readAdding 75 = .ok (.aload_n 0, 1) := by decide +kernel
theorem dX0_readAdding_76 : decode cX0_readAdding 76 = .ok (.dup, 1) := by decide +kernel
theorem dX0_readAdding_77 : decode cX0_readAdding 77 = .ok (.getfield 32, 3) := by decide +kernel
theorem dX0_readAdding_80 : decode cX0_readAdding 80 = .ok (.iconst 1, 1) := by decide +kernel
theorem dX0_readAdding_81 : decode cX0_readAdding 81 = .ok (.iadd, 1) := by decide +kernel
theorem dX0_readAdding_82 : decode cX0_readAdding 82 = .ok (.putfield 32, 3) := by decide +kernel
theorem dX0_readAdding_85 : decode cX0_readAdding 85 = .ok (.iconst 1, 1) := by decide +kernel
theorem dX0_readAdding_86 : decode cX0_readAdding 86 = .ok (.ireturn, 1) := by decide +kernel
theorem hd_X0_readAdding : yX0_readAdding.cls = RX0 ∧ yX0_readAdding.cls ≠ "java/lang/invoke/MethodHandle" ∧ yX0_readAdding.cls ≠ "java/lang/invoke/VarHandle" ∧ (parseMethodDescriptor yX0_readAdding.desc).map (fun d => d.parameters.length) = some 1 := by decide +kernel
abbrev rm_X0_readAdding : Room := { frames := 51, cells := 0, slots := 0, locals := 970 }
def F_X0_readAdding (a1 : Int32) (σ : SG) (ρ : RG) : Option (Int32 × SG) :=
  bn2 (F_X0_readNumber σ ρ) fun r1 σ1 =>
  if r1 = 0 then
    some ((0 : Int32), σ1)
  else
    bn2 (F_X0_readSign (32 : Int32) σ1 ρ) fun r3 σ3 =>
    if r3 = 0 then
      some ((0 : Int32), σ3)
    else
      bn2 (F_X0_readEither (0 : Int32) σ3 ρ) fun r5 σ5 =>
      if r5 = 0 then
        some ((0 : Int32), σ5)
      else
        if (σ5 29 2) < (10 : Int32) then
          gd (inb (σ5 29 2) 10) <|
          gd (isb a1) <|
          nm (s2 σ5 30 ((σ5 29 2)).toNatClampNeg a1) fun σ10 =>
          gd (inb (σ10 29 2) 10) <|
          nm (s2 σ10 31 ((σ10 29 2)).toNatClampNeg (σ1 29 11)) fun σ13 =>
          gd (inb (σ13 29 2) 10) <|
          nm (s2 σ13 32 ((σ13 29 2)).toNatClampNeg (σ13 29 7)) fun σ16 =>
          nm ((σ16 29 2) + (1 : Int32)) fun x17 =>
          nm (s2 σ16 29 2 x17) fun σ19 =>
          some ((1 : Int32), σ19)
        else
          some ((0 : Int32), σ5)
set_option maxHeartbeats 4000000 in
set_option maxRecDepth 100000 in
theorem w_X0_readAdding_0 {a1 : Int32} {p : Program} {e : Env} {s : State} {m : MethodId} {args : Array Value} {below : List Frame} {meth : Method} {c : Code} {ρ0 : RG} {r : Int32} {σ1 : SG} (C : Cx Y D N ad p s m args meth c cX0_readAdding 3 (some .boolean) RX0 wsL_law) {σ : SG} {ρ : RG} {H : Heap} {locs : List Loc} {ls : Array Slot} (hρ0 : ρ = ρ0) (hL : Lay N K len ρ) (hF : F_X0_readAdding a1 σ ρ = some (r, σ1)) (hP : WP Y D N ad K len σ ρ H) (hS : va_S (AA N ad s.heap.size) s.heap H locs) (hl : lv_has ls 3 [(0, .ref (ad 29)), (1, .int a1)]) : W p l e rm_X0_readAdding s m args below meth c H locs 0 0 (MQ below (QW Y D N ad K len σ1 ρ0 (AA N ad s.heap.size) (some (.int r))) args s 0 0 (AA N ad s.heap.size)) (F0 m 0 ls []) := by
  have hx := C.1.1
  have hb := C.1.2.1
  unfold F_X0_readAdding at hF
  refine lv_aload_n hx hb dX0_readAdding_0 rfl (lv_at hl 0 rfl) ?_
  obtain ⟨r1, σ1, hq1, hF⟩ := bn2_1 hF
  refine x_callV (ci := 0) rfl rfl C hP hS (c_X0_readNumber hL hq1) (lr_29 hL) (lk_29 hL) (cwV 0 C.1.2.2.2.2 (gdV mw_189 mw_190 mw_191 mw_23 mw_192) rfl rfl rfl hd_X0_readNumber ⟨Nat.le_of_ble_eq_true rfl, Nat.le_of_ble_eq_true rfl⟩) rfl rfl hl.1 (Nat.le_of_ble_eq_true rfl) ⟨Nat.zero_le _, Nat.zero_le _⟩ dX0_readAdding_1 (fun H locs hP hS => ?_)
  refine lv_if_ne (tgt := 9) hx hb dX0_readAdding_4 (by decide) (fun c_2 => ?_) (fun c_2 => ?_) -- COND 2 rcases (Decidable.em (r1 = 0)).symm with c_2 | c_2
  · have hF := ite_f hF c_2
    refine lv_aload_n hx hb dX0_readAdding_9 rfl (lv_at hl 0 rfl) ?_
    refine get_0_11 C hP (lr_29 hL) (lk_29 hL) inlX0 mw_127 dX0_readAdding_10 ?_
    refine lv_istore_n (lv' := [(2, .int (σ1 29 11)), (0, .ref (ad 29)), (1, .int a1)]) hx hb dX0_readAdding_13 rfl hl (by decide) rfl (fun ls hl => ?_)
    refine lv_aload_n hx hb dX0_readAdding_14 rfl (lv_at hl 1 rfl) ?_
    refine lv_bipush (v := 32) hx hb dX0_readAdding_15 (by decide +kernel) ?_
    obtain ⟨r3, σ3, hq3, hF⟩ := bn2_1 hF
    refine x_callV (ci := 0) rfl rfl C hP hS (c_X0_readSign hL hq3) (lr_29 hL) (lk_29 hL) (cwV 1 C.1.2.2.2.2 (gdV mw_185 mw_186 mw_187 mw_23 mw_188) rfl rfl rfl hd_X0_readSign ⟨Nat.le_of_ble_eq_true rfl, Nat.le_of_ble_eq_true rfl⟩) rfl rfl hl.1 (Nat.le_of_ble_eq_true rfl) ⟨Nat.zero_le _, Nat.zero_le _⟩ dX0_readAdding_17 (fun H locs hP hS => ?_)
    refine lv_if_eq (tgt := 40) hx hb dX0_readAdding_20 (by decide) (fun c_4 => ?_) (fun c_4 => ?_) -- COND 4 by_cases c_4 : r3 = 0
    · have hF := ite_t hF c_4
      refine lv_iconst (v := 0) hx hb dX0_readAdding_40 (by decide) ?_
      obtain ⟨rfl, rfl⟩ := ret_2 hF
      subst hρ0
      exact x_zret rfl rfl C hP hS dX0_readAdding_41
    · have hF := ite_f hF c_4
      refine lv_aload_n hx hb dX0_readAdding_23 rfl (lv_at hl 1 rfl) ?_
      refine lv_iconst (v := 0) hx hb dX0_readAdding_24 (by decide) ?_
      obtain ⟨r5, σ5, hq5, hF⟩ := bn2_1 hF
      refine x_callV (ci := 0) rfl rfl C hP hS (c_X0_readEither hL hq5) (lr_29 hL) (lk_29 hL) (cwV 1 C.1.2.2.2.2 (gdV mw_200 mw_201 mw_202 mw_23 mw_203) rfl rfl rfl hd_X0_readEither ⟨Nat.le_of_ble_eq_true rfl, Nat.le_of_ble_eq_true rfl⟩) rfl rfl hl.1 (Nat.le_of_ble_eq_true rfl) ⟨Nat.zero_le _, Nat.zero_le _⟩ dX0_readAdding_25 (fun H locs hP hS => ?_)
      refine lv_if_eq (tgt := 40) hx hb dX0_readAdding_28 (by decide) (fun c_6 => ?_) (fun c_6 => ?_) -- COND 6 by_cases c_6 : r5 = 0
      · have hF := ite_t hF c_6
        refine lv_iconst (v := 0) hx hb dX0_readAdding_40 (by decide) ?_
        obtain ⟨rfl, rfl⟩ := ret_2 hF
        subst hρ0
        exact x_zret rfl rfl C hP hS dX0_readAdding_41
      · have hF := ite_f hF c_6
        refine lv_aload_n hx hb dX0_readAdding_31 rfl (lv_at hl 1 rfl) ?_
        refine get_0_2 C hP (lr_29 hL) (lk_29 hL) inlX0 mw_121 dX0_readAdding_32 ?_
        refine lv_bipush (v := 10) hx hb dX0_readAdding_35 (by decide +kernel) ?_
        refine lv_icmp_lt (tgt := 42) hx hb dX0_readAdding_37 (by decide) (fun c_7 => ?_) (fun c_7 => ?_) -- COND 7 by_cases c_7 : (σ5 29 2) < (10 : Int32)
        · have hF := ite_t hF c_7
          refine lv_aload_n hx hb dX0_readAdding_42 rfl (lv_at hl 1 rfl) ?_
          refine get_0_3 C hP (lr_29 hL) (lk_29 hL) inlX0 mw_59 (lf_29_3 hL) dX0_readAdding_43 ?_
          refine lv_aload_n hx hb dX0_readAdding_46 rfl (lv_at hl 1 rfl) ?_
          refine get_0_2 C hP (lr_29 hL) (lk_29 hL) inlX0 mw_121 dX0_readAdding_47 ?_
          refine lv_iload_n hx hb dX0_readAdding_50 rfl (lv_at hl 2 rfl) ?_
          obtain ⟨g8, hF⟩ := gd_1 hF
          obtain ⟨gz10, hF⟩ := gd_1 hF
          obtain ⟨σ10, eσ10, hF⟩ := nm_1 hF
          refine x_zast (σ1 := σ10) C hP hS (lr_30 hL) (lk_30 hL) (ln_30 hL) g8 gz10 eσ10 dX0_readAdding_51 (fun H locs hP hS => ?_)
          refine lv_aload_n hx hb dX0_readAdding_52 rfl (lv_at hl 1 rfl) ?_
          refine get_0_4 C hP (lr_29 hL) (lk_29 hL) inlX0 mw_60 (lf_29_4 hL) dX0_readAdding_53 ?_
          refine lv_aload_n hx hb dX0_readAdding_56 rfl (lv_at hl 1 rfl) ?_
          refine get_0_2 C hP (lr_29 hL) (lk_29 hL) inlX0 mw_121 dX0_readAdding_57 ?_
          refine lv_iload_n hx hb dX0_readAdding_60 rfl (lv_at hl 0 rfl) ?_
          obtain ⟨g11, hF⟩ := gd_1 hF
          obtain ⟨σ13, eσ13, hF⟩ := nm_1 hF
          refine x_iast (σ1 := σ13) C hP hS (lr_31 hL) (lk_31 hL) (ln_31 hL) g11 eσ13 dX0_readAdding_61 (fun H locs hP hS => ?_)
          refine lv_aload_n hx hb dX0_readAdding_62 rfl (lv_at hl 1 rfl) ?_
          refine get_0_5 C hP (lr_29 hL) (lk_29 hL) inlX0 mw_61 (lf_29_5 hL) dX0_readAdding_63 ?_
          refine lv_aload_n hx hb dX0_readAdding_66 rfl (lv_at hl 1 rfl) ?_
          refine get_0_2 C hP (lr_29 hL) (lk_29 hL) inlX0 mw_121 dX0_readAdding_67 ?_
          refine lv_aload_n hx hb dX0_readAdding_70 rfl (lv_at hl 1 rfl) ?_
          refine get_0_7 C hP (lr_29 hL) (lk_29 hL) inlX0 mw_122 dX0_readAdding_71 ?_
          obtain ⟨g14, hF⟩ := gd_1 hF
          obtain ⟨σ16, eσ16, hF⟩ := nm_1 hF
          refine x_iast (σ1 := σ16) C hP hS (lr_32 hL) (lk_32 hL) (ln_32 hL) g14 eσ16 dX0_readAdding_74 (fun H locs hP hS => ?_)
          refine lv_aload_n hx hb dX0_readAdding_75 rfl (lv_at hl 1 rfl) ?_
          refine lv_dup hx hb dX0_readAdding_76 rfl ?_
          refine get_0_2 C hP (lr_29 hL) (lk_29 hL) inlX0 mw_121 dX0_readAdding_77 ?_
          refine lv_iconst (v := 1) hx hb dX0_readAdding_80 (by decide) ?_
          refine lv_iadd hx hb dX0_readAdding_81 ?_
          obtain ⟨x17, ex17, hF⟩ := nm_1 hF
          refine x_top ex17 ?_
          obtain ⟨σ19, eσ19, hF⟩ := nm_1 hF
          refine put_0_2 C hP hS (lr_29 hL) (lk_29 hL) inlX0 mw_121 eσ19 dX0_readAdding_82 (fun H locs hP hS => ?_)
          refine lv_iconst (v := 1) hx hb dX0_readAdding_85 (by decide) ?_
          obtain ⟨rfl, rfl⟩ := ret_2 hF
          subst hρ0
          exact x_zret rfl rfl C hP hS dX0_readAdding_86
        · have hF := ite_f hF c_7
          refine lv_iconst (v := 0) hx hb dX0_readAdding_40 (by decide) ?_
          obtain ⟨rfl, rfl⟩ := ret_2 hF
          subst hρ0
          exact x_zret rfl rfl C hP hS dX0_readAdding_41
  · have hF := ite_t hF c_2
    refine lv_iconst (v := 0) hx hb dX0_readAdding_7 (by decide) ?_
    obtain ⟨rfl, rfl⟩ := ret_2 hF
    subst hρ0
    exact x_zret rfl rfl C hP hS dX0_readAdding_8
set_option maxHeartbeats 4000000 in
set_option maxRecDepth 100000 in
theorem c_X0_readAdding {a1 : Int32} {r : Int32} {σ1 : SG} {σ : SG} {ρ : RG} (hL : Lay N K len ρ) (hF : F_X0_readAdding a1 σ ρ = some (r, σ1)) : MT l Y D N ad K len yX0_readAdding (Cond.code yX0_readAdding cX0_readAdding 3 (some .boolean) :: wsL_law) rm_X0_readAdding [.ref (ad 29), .int a1] σ ρ (some (.int r)) σ1 ρ := by
  refine mt_of (cc := cX0_readAdding) (nL := 3) (ret := (some .boolean)) (by decide) (Nat.le_of_ble_eq_true rfl) ?_
  intro p e s m args below meth c ls C hnm hP hS hl
  exact w_X0_readAdding_0 C rfl hL hF hP hS hl

/-! CutCrooked$Board.private boolean readClause();  -/
theorem dX0_readClause_0 : decode cX0_readClause 0 = .ok (.aload_n 0, 1) := by decide +kernel
theorem dX0_readClause_1 : decode cX0_readClause 1 = .ok (.invokevirtual 74, 3) := by decide +kernel
theorem dX0_readClause_4 : decode cX0_readClause 4 = .ok (.lookupswitch 146 #[(101, 72), (112, 123), (115, 100), (116, 44)], 44) := by decide +kernel
theorem dX0_readClause_48 : decode cX0_readClause 48 = .ok (.aload_n 0, 1) := by decide +kernel
theorem dX0_readClause_49 : decode cX0_readClause 49 = .ok (.ldc 78, 2) := by decide +kernel
theorem dX0_readClause_51 : decode cX0_readClause 51 = .ok (.invokevirtual 80, 3) := by decide +kernel
theorem dX0_readClause_54 : decode cX0_readClause 54 = .ok (.ifCond .eq 10, 3) := by decide +kernel
theorem dX0_readClause_57 : decode cX0_readClause 57 = .ok (.aload_n 0, 1) := by decide +kernel
theorem dX0_readClause_58 : decode cX0_readClause 58 = .ok (.invokevirtual 84, 3) := by decide +kernel
theorem dX0_readClause_61 : decode cX0_readClause 61 = .ok (.ifCond .ne 5, 3) := by decide +kernel
theorem dX0_readClause_64 : decode cX0_readClause 64 = .ok (.iconst 0, 1) := by decide +kernel
theorem dX0_readClause_65 : decode cX0_readClause 65 = .ok (.ireturn, 1) := by decide +kernel
theorem dX0_readClause_66 : decode cX0_readClause 66 = .ok (.aload_n 0, 1) := by decide +kernel
theorem dX0_readClause_67 : decode cX0_readClause 67 = .ok (.aload_n 0, 1) := by decide +kernel
theorem dX0_readClause_68 : decode cX0_readClause 68 = .ok (.getfield 87, 3) := by decide +kernel
theorem dX0_readClause_71 : decode cX0_readClause 71 = .ok (.putfield 11, 3) := by decide +kernel
theorem dX0_readClause_74 : decode cX0_readClause 74 = .ok (.iconst 1, 1) := by decide +kernel
theorem dX0_readClause_75 : decode cX0_readClause 75 = .ok (.ireturn, 1) := by decide +kernel
theorem dX0_readClause_76 : decode cX0_readClause 76 = .ok (.aload_n 0, 1) := by decide +kernel
theorem dX0_readClause_77 : decode cX0_readClause 77 = .ok (.ldc 90, 2) := by decide +kernel
theorem dX0_readClause_79 : decode cX0_readClause 79 = .ok (.invokevirtual 80, 3) := by decide +kernel
theorem dX0_readClause_82 : decode cX0_readClause 82 = .ok (.ifCond .eq 10, 3) := by decide +kernel
theorem dX0_readClause_85 : decode cX0_readClause 85 = .ok (.aload_n 0, 1) := by decide +kernel
theorem dX0_readClause_86 : decode cX0_readClause 86 = .ok (.invokevirtual 84, 3) := by decide +kernel
theorem dX0_readClause_89 : decode cX0_readClause 89 = .ok (.ifCond .ne 5, 3) := by decide +kernel
theorem dX0_readClause_92 : decode cX0_readClause 92 = .ok (.iconst 0, 1) := by decide +kernel
theorem dX0_readClause_93 : decode cX0_readClause 93 = .ok (.ireturn, 1) := by decide +kernel
theorem dX0_readClause_94 : decode cX0_readClause 94 = .ok (.aload_n 0, 1) := by decide +kernel
theorem dX0_readClause_95 : decode cX0_readClause 95 = .ok (.aload_n 0, 1) := by decide +kernel
theorem dX0_readClause_96 : decode cX0_readClause 96 = .ok (.getfield 87, 3) := by decide +kernel
theorem dX0_readClause_99 : decode cX0_readClause 99 = .ok (.putfield 15, 3) := by decide +kernel
theorem dX0_readClause_102 : decode cX0_readClause 102 = .ok (.iconst 1, 1) := by decide +kernel
theorem dX0_readClause_103 : decode cX0_readClause 103 = .ok (.ireturn, 1) := by decide +kernel
theorem dX0_readClause_104 : decode cX0_readClause 104 = .ok (.aload_n 0, 1) := by decide +kernel
theorem dX0_readClause_105 : decode cX0_readClause 105 = .ok (.ldc 92, 2) := by decide +kernel
theorem dX0_readClause_107 : decode cX0_readClause 107 = .ok (.invokevirtual 80, 3) := by decide +kernel
theorem dX0_readClause_110 : decode cX0_readClause 110 = .ok (.ifCond .eq 15, 3) := by decide +kernel
theorem dX0_readClause_113 : decode cX0_readClause 113 = .ok (.aload_n 0, 1) := by decide +kernel
theorem dX0_readClause_114 : decode cX0_readClause 114 = .ok (.iconst 0, 1) := by decide +kernel
theorem dX0_readClause_115 : decode cX0_readClause 115 = .ok (.invokevirtual 94, 3) := by decide +kernel
theorem dX0_readClause_118 : decode cX0_readClause 118 = .ok (.ifCond .eq 7, 3) := by decide +kernel
theorem dX0_readClause_121 : decode cX0_readClause 121 = .ok (.iconst 1, 1) := by decide +kernel
theorem dX0_readClause_122 : decode cX0_readClause 122 = .ok (.goto 4, 3) := by decide +kernel
theorem dX0_readClause_125 : decode cX0_readClause 125 = .ok (.iconst 0, 1) := by decide +kernel
theorem dX0_readClause_126 : decode cX0_readClause 126 = .ok (.ireturn, 1) := by decide +kernel
theorem dX0_readClause_127 : decode cX0_readClause 127 = .ok (.aload_n 0, 1) := by decide +kernel
theorem dX0_readClause_128 : decode cX0_readClause 128 = .ok (.ldc 98, 2) := by decide +kernel
theorem dX0_readClause_130 : decode cX0_readClause 130 = .ok (.invokevirtual 80, 3) := by decide +kernel
theorem dX0_readClause_133 : decode cX0_readClause 133 = .ok (.ifCond .eq 15, 3) := by decide +kernel
theorem dX0_readClause_136 : decode cX0_readClause 136 = .ok (.aload_n 0, 1) := by decide +kernel
theorem dX0_readClause_137 : decode cX0_readClause 137 = .ok (.iconst 1, 1) := by decide +kernel
theorem dX0_readClause_138 : decode cX0_readClause 138 = .ok (.invokevirtual 94, 3) := by decide +kernel
theorem dX0_readClause_141 : decode cX0_readClause 141 = .ok (.ifCond .eq 7, 3) := by decide +kernel
theorem dX0_readClause_144 : decode cX0_readClause 144 = .ok (.iconst 1, 1) := by decide +kernel
theorem dX0_readClause_145 : decode cX0_readClause 145 = .ok (.goto 4, 3) := by decide +kernel
theorem dX0_readClause_148 : decode cX0_readClause 148 = .ok (.iconst 0, 1) := by decide +kernel
theorem dX0_readClause_149 : decode cX0_readClause 149 = .ok (.ireturn, 1) := by decide +kernel
theorem dX0_readClause_150 : decode cX0_readClause 150 = .ok (.iconst 0, 1) := by decide +kernel
theorem dX0_readClause_151 : decode cX0_readClause 151 = .ok (.ireturn, 1) := by decide +kernel
theorem hd_X0_readClause : yX0_readClause.cls = RX0 ∧ yX0_readClause.cls ≠ "java/lang/invoke/MethodHandle" ∧ yX0_readClause.cls ≠ "java/lang/invoke/VarHandle" ∧ (parseMethodDescriptor yX0_readClause.desc).map (fun d => d.parameters.length) = some 0 := by decide +kernel
abbrev rm_X0_readClause : Room := { frames := 52, cells := 0, slots := 0, locals := 992 }
def F_X0_readClause  (σ : SG) (ρ : RG) : Option (Int32 × SG) :=
  bn (F_X0_next σ ρ) fun r1 =>
  if r1 = 101 then
    bn2 (F_X0_readWord 1 σ ρ) fun r3 σ3 =>
    if r3 = 0 then
      some ((0 : Int32), σ3)
    else
      bn2 (F_X0_readNumber σ3 ρ) fun r5 σ5 =>
      if r5 = 0 then
        some ((0 : Int32), σ5)
      else
        nm (s2 σ5 29 1 (σ5 29 11)) fun σ8 =>
        some ((1 : Int32), σ8)
  else
    if r1 = 112 then
      bn2 (F_X0_readWord 3 σ ρ) fun r9 σ9 =>
      if r9 = 0 then
        some ((0 : Int32), σ9)
      else
        bn2 (F_X0_readAdding (1 : Int32) σ9 ρ) fun r11 σ11 =>
        if r11 = 0 then
          some ((0 : Int32), σ11)
        else
          some ((1 : Int32), σ11)
    else
      if r1 = 115 then
        bn2 (F_X0_readWord 2 σ ρ) fun r13 σ13 =>
        if r13 = 0 then
          some ((0 : Int32), σ13)
        else
          bn2 (F_X0_readAdding (0 : Int32) σ13 ρ) fun r15 σ15 =>
          if r15 = 0 then
            some ((0 : Int32), σ15)
          else
            some ((1 : Int32), σ15)
      else
        if r1 = 116 then
          bn2 (F_X0_readWord 0 σ ρ) fun r17 σ17 =>
          if r17 = 0 then
            some ((0 : Int32), σ17)
          else
            bn2 (F_X0_readNumber σ17 ρ) fun r19 σ19 =>
            if r19 = 0 then
              some ((0 : Int32), σ19)
            else
              nm (s2 σ19 29 0 (σ19 29 11)) fun σ22 =>
              some ((1 : Int32), σ22)
        else
          some ((0 : Int32), σ)
set_option maxHeartbeats 4000000 in
set_option maxRecDepth 100000 in
theorem w_X0_readClause_0  {p : Program} {e : Env} {s : State} {m : MethodId} {args : Array Value} {below : List Frame} {meth : Method} {c : Code} {ρ0 : RG} {r : Int32} {σ1 : SG} (C : Cx Y D N ad p s m args meth c cX0_readClause 1 (some .boolean) RX0 wsL_law) {σ : SG} {ρ : RG} {H : Heap} {locs : List Loc} {ls : Array Slot} (hρ0 : ρ = ρ0) (hL : Lay N K len ρ) (hF : F_X0_readClause σ ρ = some (r, σ1)) (hP : WP Y D N ad K len σ ρ H) (hS : va_S (AA N ad s.heap.size) s.heap H locs) (hl : lv_has ls 1 [(0, .ref (ad 29))]) : W p l e rm_X0_readClause s m args below meth c H locs 0 0 (MQ below (QW Y D N ad K len σ1 ρ0 (AA N ad s.heap.size) (some (.int r))) args s 0 0 (AA N ad s.heap.size)) (F0 m 0 ls []) := by
  have hx := C.1.1
  have hb := C.1.2.1
  unfold F_X0_readClause at hF
  refine lv_aload_n hx hb dX0_readClause_0 rfl (lv_at hl 0 rfl) ?_
  obtain ⟨r1, hq1, hF⟩ := bn_1 hF
  refine x_callV (ci := 0) rfl rfl C hP hS (c_X0_next hL hq1) (lr_29 hL) (lk_29 hL) (cwV 0 C.1.2.2.2.2 (gdV mw_128 mw_129 mw_130 mw_23 mw_131) rfl rfl rfl hd_X0_next ⟨Nat.le_of_ble_eq_true rfl, Nat.le_of_ble_eq_true rfl⟩) rfl rfl hl.1 (Nat.le_of_ble_eq_true rfl) ⟨Nat.zero_le _, Nat.zero_le _⟩ dX0_readClause_1 (fun H locs hP hS => ?_)
  by_cases cs2_101 : r1 = 101
  · have hF := ite_t hF cs2_101
    refine lv_lookup (tgt := 76) (off := 72) hx hb dX0_readClause_4 (by decide) (by rw [cs2_101]; decide) (by decide) ?_
    refine lv_aload_n hx hb dX0_readClause_76 rfl (lv_at hl 0 rfl) ?_
    refine x_ldcS (own0 := "CutCrooked$Board") (tx := "end ") (index := 90) (i := 1) C (by decide +kernel) dX0_readClause_77 ?_
    obtain ⟨r3, σ3, hq3, hF⟩ := bn2_1 hF
    refine x_callV (ci := 0) rfl rfl C hP hS (c_X0_readWord hL (by decide) hq3) (lr_29 hL) (lk_29 hL) (cwV 1 C.1.2.2.2.2 (gdV mw_132 mw_133 mw_134 mw_23 mw_135) rfl rfl rfl hd_X0_readWord ⟨Nat.le_of_ble_eq_true rfl, Nat.le_of_ble_eq_true rfl⟩) rfl rfl hl.1 (Nat.le_of_ble_eq_true rfl) ⟨Nat.zero_le _, Nat.zero_le _⟩ dX0_readClause_79 (fun H locs hP hS => ?_)
    refine lv_if_eq (tgt := 92) hx hb dX0_readClause_82 (by decide) (fun c_4 => ?_) (fun c_4 => ?_) -- COND 4 by_cases c_4 : r3 = 0
    · have hF := ite_t hF c_4
      refine lv_iconst (v := 0) hx hb dX0_readClause_92 (by decide) ?_
      obtain ⟨rfl, rfl⟩ := ret_2 hF
      subst hρ0
      exact x_zret rfl rfl C hP hS dX0_readClause_93
    · have hF := ite_f hF c_4
      refine lv_aload_n hx hb dX0_readClause_85 rfl (lv_at hl 0 rfl) ?_
      obtain ⟨r5, σ5, hq5, hF⟩ := bn2_1 hF
      refine x_callV (ci := 0) rfl rfl C hP hS (c_X0_readNumber hL hq5) (lr_29 hL) (lk_29 hL) (cwV 0 C.1.2.2.2.2 (gdV mw_189 mw_190 mw_191 mw_23 mw_192) rfl rfl rfl hd_X0_readNumber ⟨Nat.le_of_ble_eq_true rfl, Nat.le_of_ble_eq_true rfl⟩) rfl rfl hl.1 (Nat.le_of_ble_eq_true rfl) ⟨Nat.zero_le _, Nat.zero_le _⟩ dX0_readClause_86 (fun H locs hP hS => ?_)
      refine lv_if_ne (tgt := 94) hx hb dX0_readClause_89 (by decide) (fun c_6 => ?_) (fun c_6 => ?_) -- COND 6 rcases (Decidable.em (r5 = 0)).symm with c_6 | c_6
      · have hF := ite_f hF c_6
        refine lv_aload_n hx hb dX0_readClause_94 rfl (lv_at hl 0 rfl) ?_
        refine lv_aload_n hx hb dX0_readClause_95 rfl (lv_at hl 0 rfl) ?_
        refine get_0_11 C hP (lr_29 hL) (lk_29 hL) inlX0 mw_127 dX0_readClause_96 ?_
        obtain ⟨σ8, eσ8, hF⟩ := nm_1 hF
        refine put_0_1 C hP hS (lr_29 hL) (lk_29 hL) inlX0 mw_57 eσ8 dX0_readClause_99 (fun H locs hP hS => ?_)
        refine lv_iconst (v := 1) hx hb dX0_readClause_102 (by decide) ?_
        obtain ⟨rfl, rfl⟩ := ret_2 hF
        subst hρ0
        exact x_zret rfl rfl C hP hS dX0_readClause_103
      · have hF := ite_t hF c_6
        refine lv_iconst (v := 0) hx hb dX0_readClause_92 (by decide) ?_
        obtain ⟨rfl, rfl⟩ := ret_2 hF
        subst hρ0
        exact x_zret rfl rfl C hP hS dX0_readClause_93
  · have hF := ite_f hF cs2_101
    by_cases cs2_112 : r1 = 112
    · have hF := ite_t hF cs2_112
      refine lv_lookup (tgt := 127) (off := 123) hx hb dX0_readClause_4 (by decide) (by rw [cs2_112]; decide) (by decide) ?_
      refine lv_aload_n hx hb dX0_readClause_127 rfl (lv_at hl 0 rfl) ?_
      refine x_ldcS (own0 := "CutCrooked$Board") (tx := "pull ") (index := 98) (i := 3) C (by decide +kernel) dX0_readClause_128 ?_
      obtain ⟨r9, σ9, hq9, hF⟩ := bn2_1 hF
      refine x_callV (ci := 0) rfl rfl C hP hS (c_X0_readWord hL (by decide) hq9) (lr_29 hL) (lk_29 hL) (cwV 1 C.1.2.2.2.2 (gdV mw_132 mw_133 mw_134 mw_23 mw_135) rfl rfl rfl hd_X0_readWord ⟨Nat.le_of_ble_eq_true rfl, Nat.le_of_ble_eq_true rfl⟩) rfl rfl hl.1 (Nat.le_of_ble_eq_true rfl) ⟨Nat.zero_le _, Nat.zero_le _⟩ dX0_readClause_130 (fun H locs hP hS => ?_)
      refine lv_if_eq (tgt := 148) hx hb dX0_readClause_133 (by decide) (fun c_10 => ?_) (fun c_10 => ?_) -- COND 10 by_cases c_10 : r9 = 0
      · have hF := ite_t hF c_10
        refine lv_iconst (v := 0) hx hb dX0_readClause_148 (by decide) ?_
        obtain ⟨rfl, rfl⟩ := ret_2 hF
        subst hρ0
        exact x_zret rfl rfl C hP hS dX0_readClause_149
      · have hF := ite_f hF c_10
        refine lv_aload_n hx hb dX0_readClause_136 rfl (lv_at hl 0 rfl) ?_
        refine lv_iconst (v := 1) hx hb dX0_readClause_137 (by decide) ?_
        obtain ⟨r11, σ11, hq11, hF⟩ := bn2_1 hF
        refine x_callV (ci := 0) rfl rfl C hP hS (c_X0_readAdding hL hq11) (lr_29 hL) (lk_29 hL) (cwV 1 C.1.2.2.2.2 (gdV mw_196 mw_197 mw_198 mw_23 mw_199) rfl rfl rfl hd_X0_readAdding ⟨Nat.le_of_ble_eq_true rfl, Nat.le_of_ble_eq_true rfl⟩) rfl rfl hl.1 (Nat.le_of_ble_eq_true rfl) ⟨Nat.zero_le _, Nat.zero_le _⟩ dX0_readClause_138 (fun H locs hP hS => ?_)
        refine lv_if_eq (tgt := 148) hx hb dX0_readClause_141 (by decide) (fun c_12 => ?_) (fun c_12 => ?_) -- COND 12 by_cases c_12 : r11 = 0
        · have hF := ite_t hF c_12
          refine lv_iconst (v := 0) hx hb dX0_readClause_148 (by decide) ?_
          obtain ⟨rfl, rfl⟩ := ret_2 hF
          subst hρ0
          exact x_zret rfl rfl C hP hS dX0_readClause_149
        · have hF := ite_f hF c_12
          refine lv_iconst (v := 1) hx hb dX0_readClause_144 (by decide) ?_
          refine lv_goto (tgt := 149) hx hb dX0_readClause_145 (by decide) ?_
          obtain ⟨rfl, rfl⟩ := ret_2 hF
          subst hρ0
          exact x_zret rfl rfl C hP hS dX0_readClause_149
    · have hF := ite_f hF cs2_112
      by_cases cs2_115 : r1 = 115
      · have hF := ite_t hF cs2_115
        refine lv_lookup (tgt := 104) (off := 100) hx hb dX0_readClause_4 (by decide) (by rw [cs2_115]; decide) (by decide) ?_
        refine lv_aload_n hx hb dX0_readClause_104 rfl (lv_at hl 0 rfl) ?_
        refine x_ldcS (own0 := "CutCrooked$Board") (tx := "slip ") (index := 92) (i := 2) C (by decide +kernel) dX0_readClause_105 ?_
        obtain ⟨r13, σ13, hq13, hF⟩ := bn2_1 hF
        refine x_callV (ci := 0) rfl rfl C hP hS (c_X0_readWord hL (by decide) hq13) (lr_29 hL) (lk_29 hL) (cwV 1 C.1.2.2.2.2 (gdV mw_132 mw_133 mw_134 mw_23 mw_135) rfl rfl rfl hd_X0_readWord ⟨Nat.le_of_ble_eq_true rfl, Nat.le_of_ble_eq_true rfl⟩) rfl rfl hl.1 (Nat.le_of_ble_eq_true rfl) ⟨Nat.zero_le _, Nat.zero_le _⟩ dX0_readClause_107 (fun H locs hP hS => ?_)
        refine lv_if_eq (tgt := 125) hx hb dX0_readClause_110 (by decide) (fun c_14 => ?_) (fun c_14 => ?_) -- COND 14 by_cases c_14 : r13 = 0
        · have hF := ite_t hF c_14
          refine lv_iconst (v := 0) hx hb dX0_readClause_125 (by decide) ?_
          obtain ⟨rfl, rfl⟩ := ret_2 hF
          subst hρ0
          exact x_zret rfl rfl C hP hS dX0_readClause_126
        · have hF := ite_f hF c_14
          refine lv_aload_n hx hb dX0_readClause_113 rfl (lv_at hl 0 rfl) ?_
          refine lv_iconst (v := 0) hx hb dX0_readClause_114 (by decide) ?_
          obtain ⟨r15, σ15, hq15, hF⟩ := bn2_1 hF
          refine x_callV (ci := 0) rfl rfl C hP hS (c_X0_readAdding hL hq15) (lr_29 hL) (lk_29 hL) (cwV 1 C.1.2.2.2.2 (gdV mw_196 mw_197 mw_198 mw_23 mw_199) rfl rfl rfl hd_X0_readAdding ⟨Nat.le_of_ble_eq_true rfl, Nat.le_of_ble_eq_true rfl⟩) rfl rfl hl.1 (Nat.le_of_ble_eq_true rfl) ⟨Nat.zero_le _, Nat.zero_le _⟩ dX0_readClause_115 (fun H locs hP hS => ?_)
          refine lv_if_eq (tgt := 125) hx hb dX0_readClause_118 (by decide) (fun c_16 => ?_) (fun c_16 => ?_) -- COND 16 by_cases c_16 : r15 = 0
          · have hF := ite_t hF c_16
            refine lv_iconst (v := 0) hx hb dX0_readClause_125 (by decide) ?_
            obtain ⟨rfl, rfl⟩ := ret_2 hF
            subst hρ0
            exact x_zret rfl rfl C hP hS dX0_readClause_126
          · have hF := ite_f hF c_16
            refine lv_iconst (v := 1) hx hb dX0_readClause_121 (by decide) ?_
            refine lv_goto (tgt := 126) hx hb dX0_readClause_122 (by decide) ?_
            obtain ⟨rfl, rfl⟩ := ret_2 hF
            subst hρ0
            exact x_zret rfl rfl C hP hS dX0_readClause_126
      · have hF := ite_f hF cs2_115
        by_cases cs2_116 : r1 = 116
        · have hF := ite_t hF cs2_116
          refine lv_lookup (tgt := 48) (off := 44) hx hb dX0_readClause_4 (by decide) (by rw [cs2_116]; decide) (by decide) ?_
          refine lv_aload_n hx hb dX0_readClause_48 rfl (lv_at hl 0 rfl) ?_
          refine x_ldcS (own0 := "CutCrooked$Board") (tx := "thin ") (index := 78) (i := 0) C (by decide +kernel) dX0_readClause_49 ?_
          obtain ⟨r17, σ17, hq17, hF⟩ := bn2_1 hF
          refine x_callV (ci := 0) rfl rfl C hP hS (c_X0_readWord hL (by decide) hq17) (lr_29 hL) (lk_29 hL) (cwV 1 C.1.2.2.2.2 (gdV mw_132 mw_133 mw_134 mw_23 mw_135) rfl rfl rfl hd_X0_readWord ⟨Nat.le_of_ble_eq_true rfl, Nat.le_of_ble_eq_true rfl⟩) rfl rfl hl.1 (Nat.le_of_ble_eq_true rfl) ⟨Nat.zero_le _, Nat.zero_le _⟩ dX0_readClause_51 (fun H locs hP hS => ?_)
          refine lv_if_eq (tgt := 64) hx hb dX0_readClause_54 (by decide) (fun c_18 => ?_) (fun c_18 => ?_) -- COND 18 by_cases c_18 : r17 = 0
          · have hF := ite_t hF c_18
            refine lv_iconst (v := 0) hx hb dX0_readClause_64 (by decide) ?_
            obtain ⟨rfl, rfl⟩ := ret_2 hF
            subst hρ0
            exact x_zret rfl rfl C hP hS dX0_readClause_65
          · have hF := ite_f hF c_18
            refine lv_aload_n hx hb dX0_readClause_57 rfl (lv_at hl 0 rfl) ?_
            obtain ⟨r19, σ19, hq19, hF⟩ := bn2_1 hF
            refine x_callV (ci := 0) rfl rfl C hP hS (c_X0_readNumber hL hq19) (lr_29 hL) (lk_29 hL) (cwV 0 C.1.2.2.2.2 (gdV mw_189 mw_190 mw_191 mw_23 mw_192) rfl rfl rfl hd_X0_readNumber ⟨Nat.le_of_ble_eq_true rfl, Nat.le_of_ble_eq_true rfl⟩) rfl rfl hl.1 (Nat.le_of_ble_eq_true rfl) ⟨Nat.zero_le _, Nat.zero_le _⟩ dX0_readClause_58 (fun H locs hP hS => ?_)
            refine lv_if_ne (tgt := 66) hx hb dX0_readClause_61 (by decide) (fun c_20 => ?_) (fun c_20 => ?_) -- COND 20 rcases (Decidable.em (r19 = 0)).symm with c_20 | c_20
            · have hF := ite_f hF c_20
              refine lv_aload_n hx hb dX0_readClause_66 rfl (lv_at hl 0 rfl) ?_
              refine lv_aload_n hx hb dX0_readClause_67 rfl (lv_at hl 0 rfl) ?_
              refine get_0_11 C hP (lr_29 hL) (lk_29 hL) inlX0 mw_127 dX0_readClause_68 ?_
              obtain ⟨σ22, eσ22, hF⟩ := nm_1 hF
              refine put_0_0 C hP hS (lr_29 hL) (lk_29 hL) inlX0 mw_56 eσ22 dX0_readClause_71 (fun H locs hP hS => ?_)
              refine lv_iconst (v := 1) hx hb dX0_readClause_74 (by decide) ?_
              obtain ⟨rfl, rfl⟩ := ret_2 hF
              subst hρ0
              exact x_zret rfl rfl C hP hS dX0_readClause_75
            · have hF := ite_t hF c_20
              refine lv_iconst (v := 0) hx hb dX0_readClause_64 (by decide) ?_
              obtain ⟨rfl, rfl⟩ := ret_2 hF
              subst hρ0
              exact x_zret rfl rfl C hP hS dX0_readClause_65
        · have hF := ite_f hF cs2_116
          refine lv_lookup (tgt := 150) (off := 146) hx hb dX0_readClause_4 (by decide) (by have q101 := ne_ti cs2_101 (by decide : (101 : Int32).toInt = 101); have q112 := ne_ti cs2_112 (by decide : (112 : Int32).toInt = 112); have q115 := ne_ti cs2_115 (by decide : (115 : Int32).toInt = 115); have q116 := ne_ti cs2_116 (by decide : (116 : Int32).toInt = 116); show (if (101 : Int) = r1.toInt then (72 : Int) else if (112 : Int) = r1.toInt then (123 : Int) else if (115 : Int) = r1.toInt then (100 : Int) else if (116 : Int) = r1.toInt then (44 : Int) else (146 : Int)) = _; rw [if_neg (Ne.symm q101), if_neg (Ne.symm q112), if_neg (Ne.symm q115), if_neg (Ne.symm q116)]) (by decide) ?_
          refine lv_iconst (v := 0) hx hb dX0_readClause_150 (by decide) ?_
          obtain ⟨rfl, rfl⟩ := ret_2 hF
          subst hρ0
          exact x_zret rfl rfl C hP hS dX0_readClause_151
set_option maxHeartbeats 4000000 in
set_option maxRecDepth 100000 in
theorem c_X0_readClause  {r : Int32} {σ1 : SG} {σ : SG} {ρ : RG} (hL : Lay N K len ρ) (hF : F_X0_readClause σ ρ = some (r, σ1)) : MT l Y D N ad K len yX0_readClause (Cond.code yX0_readClause cX0_readClause 1 (some .boolean) :: wsL_law) rm_X0_readClause [.ref (ad 29)] σ ρ (some (.int r)) σ1 ρ := by
  refine mt_of (cc := cX0_readClause) (nL := 1) (ret := (some .boolean)) (by decide) (Nat.le_of_ble_eq_true rfl) ?_
  intro p e s m args below meth c ls C hnm hP hS hl
  exact w_X0_readClause_0 C rfl hL hF hP hS hl

/-! CutCrooked$Board.boolean readFrom(byte[], int);  -/
theorem dX0_readFrom_0 : decode cX0_readFrom 0 = .ok (.aload_n 0, 1) := by decide +kernel
theorem dX0_readFrom_1 : decode cX0_readFrom 1 = .ok (.aload_n 1, 1) := by decide +kernel
theorem dX0_readFrom_2 : decode cX0_readFrom 2 = .ok (.putfield 56, 3) := by decide +kernel
theorem dX0_readFrom_5 : decode cX0_readFrom 5 = .ok (.aload_n 0, 1) := by decide +kernel
theorem dX0_readFrom_6 : decode cX0_readFrom 6 = .ok (.iload_n 2, 1) := by decide +kernel
theorem dX0_readFrom_7 : decode cX0_readFrom 7 = .ok (.putfield 60, 3) := by decide +kernel
theorem dX0_readFrom_10 : decode cX0_readFrom 10 = .ok (.aload_n 0, 1) := by decide +kernel
theorem dX0_readFrom_11 : decode cX0_readFrom 11 = .ok (.iconst 0, 1) := by decide +kernel
theorem dX0_readFrom_12 : decode cX0_readFrom 12 = .ok (.putfield 63, 3) := by decide +kernel
theorem dX0_readFrom_15 : decode cX0_readFrom 15 = .ok (.aload_n 0, 1) := by decide +kernel
theorem dX0_readFrom_16 : decode cX0_readFrom 16 = .ok (.iconst 3, 1) := by decide +kernel
theorem dX0_readFrom_17 : decode cX0_readFrom 17 = .ok (.putfield 11, 3) := by decide +kernel
theorem dX0_readFrom_20 : decode cX0_readFrom 20 = .ok (.aload_n 0, 1) := by decide +kernel
theorem dX0_readFrom_21 : decode cX0_readFrom 21 = .ok (.bipush 10, 2) := by decide +kernel
theorem dX0_readFrom_23 : decode cX0_readFrom 23 = .ok (.putfield 15, 3) := by decide +kernel
theorem dX0_readFrom_26 : decode cX0_readFrom 26 = .ok (.aload_n 0, 1) := by decide +kernel
theorem dX0_readFrom_27 : decode cX0_readFrom 27 = .ok (.iconst 0, 1) := by decide +kernel
theorem dX0_readFrom_28 : decode cX0_readFrom 28 = .ok (.putfield 32, 3) := by decide +kernel
theorem dX0_readFrom_31 : decode cX0_readFrom 31 = .ok (.aload_n 0, 1) := by decide +kernel
theorem dX0_readFrom_32 : decode cX0_readFrom 32 = .ok (.iconst 0, 1) := by decide +kernel
theorem dX0_readFrom_33 : decode cX0_readFrom 33 = .ok (.putfield 35, 3) := by decide +kernel
theorem dX0_readFrom_36 : decode cX0_readFrom 36 = .ok (.iconst 0, 1) := by decide +kernel
theorem dX0_readFrom_37 : decode cX0_readFrom 37 = .ok (.istore_n 3, 1) := by decide +kernel
theorem dX0_readFrom_38 : decode cX0_readFrom 38 = .ok (.iload_n 3, 1) := by decide +kernel
theorem dX0_readFrom_39 : decode cX0_readFrom 39 = .ok (.bipush 10, 2) := by decide +kernel
theorem dX0_readFrom_41 : decode cX0_readFrom 41 = .ok (.if_icmp .ge 50, 3) := by decide +kernel
theorem dX0_readFrom_44 : decode cX0_readFrom 44 = .ok (.aload_n 0, 1) := by decide +kernel
theorem dX0_readFrom_45 : decode cX0_readFrom 45 = .ok (.invokevirtual 66, 3) := by decide +kernel
theorem dX0_readFrom_48 : decode cX0_readFrom 48 = .ok (.ifCond .ne 5, 3) := by decide +kernel
theorem dX0_readFrom_51 : decode cX0_readFrom 51 = .ok (.iconst 0, 1) := by decide +kernel
theorem dX0_readFrom_52 : decode cX0_readFrom 52 = .ok (.ireturn, 1) := by decide +kernel
theorem dX0_readFrom_53 : decode cX0_readFrom 53 = .ok (.aload_n 0, 1) := by decide +kernel
theorem dX0_readFrom_54 : decode cX0_readFrom 54 = .ok (.getfield 63, 3) := by decide +kernel
theorem dX0_readFrom_57 : decode cX0_readFrom 57 = .ok (.aload_n 0, 1) := by decide +kernel
theorem dX0_readFrom_58 : decode cX0_readFrom 58 = .ok (.getfield 60, 3) := by decide +kernel
theorem dX0_readFrom_61 : decode cX0_readFrom 61 = .ok (.if_icmp .ne 5, 3) := by decide +kernel
theorem dX0_readFrom_64 : decode cX0_readFrom 64 = .ok (.iconst 1, 1) := by decide +kernel
theorem dX0_readFrom_65 : decode cX0_readFrom 65 = .ok (.ireturn, 1) := by decide +kernel
theorem dX0_readFrom_66 : decode cX0_readFrom 66 = .ok (.iload_n 3, 1) := by decide +kernel
theorem dX0_readFrom_67 : decode cX0_readFrom 67 = .ok (.iconst 1, 1) := by decide +kernel
theorem dX0_readFrom_68 : decode cX0_readFrom 68 = .ok (.iadd, 1) := by decide +kernel
theorem dX0_readFrom_69 : decode cX0_readFrom 69 = .ok (.bipush 10, 2) := by decide +kernel
theorem dX0_readFrom_71 : decode cX0_readFrom 71 = .ok (.if_icmp .eq 12, 3) := by decide +kernel
theorem dX0_readFrom_74 : decode cX0_readFrom 74 = .ok (.aload_n 0, 1) := by decide +kernel
theorem dX0_readFrom_75 : decode cX0_readFrom 75 = .ok (.bipush 59, 2) := by decide +kernel
theorem dX0_readFrom_77 : decode cX0_readFrom 77 = .ok (.invokevirtual 70, 3) := by decide +kernel
theorem dX0_readFrom_80 : decode cX0_readFrom 80 = .ok (.ifCond .ne 5, 3) := by decide +kernel
theorem dX0_readFrom_83 : decode cX0_readFrom 83 = .ok (.iconst 0, 1) := by decide +kernel
theorem dX0_readFrom_84 : decode cX0_readFrom 84 = .ok (.ireturn, 1) := by decide +kernel
theorem dX0_readFrom_85 : decode cX0_readFrom 85 = .ok (.iinc 3 1, 3) := by decide +kernel
theorem dX0_readFrom_88 : decode cX0_readFrom 88 = .ok (.goto (-50), 3) := by decide +kernel
theorem dX0_readFrom_91 : decode cX0_readFrom 91 = .ok (.iconst 0, 1) := by decide +kernel
theorem dX0_readFrom_92 : decode cX0_readFrom 92 = .ok (.ireturn, 1) := by decide +kernel
theorem hd_X0_readFrom : yX0_readFrom.cls = RX0 ∧ yX0_readFrom.cls ≠ "java/lang/invoke/MethodHandle" ∧ yX0_readFrom.cls ≠ "java/lang/invoke/VarHandle" ∧ (parseMethodDescriptor yX0_readFrom.desc).map (fun d => d.parameters.length) = some 2 := by decide +kernel
abbrev rm_X0_readFrom : Room := { frames := 53, cells := 0, slots := 0, locals := 1012 }
def F_X0_readFrom_38 (a2 : Int32) : Nat → SG → RG → Int32 → Option (Int32 × SG × RG)
  | 0 => fun _ _ _ => none
  | n + 1 => fun σ ρ v3 =>
  if (10 : Int32) ≤ v3 then
    some ((0 : Int32), σ, ρ)
  else
    bn2 (F_X0_readClause σ ρ) fun r16 σ16 =>
    if r16 = 0 then
      some ((0 : Int32), σ16, ρ)
    else
      if (σ16 29 10) = (σ16 29 9) then
        some ((1 : Int32), σ16, ρ)
      else
        nm (v3 + (1 : Int32)) fun x19 =>
        if x19 = (10 : Int32) then
          some ((0 : Int32), σ16, ρ)
        else
          bn2 (F_X0_readSign (59 : Int32) σ16 ρ) fun r21 σ21 =>
          if r21 = 0 then
            some ((0 : Int32), σ21, ρ)
          else
            nm (v3 + (1 : Int32)) fun x23 =>
            F_X0_readFrom_38 a2 n σ21 ρ x23
def F_X0_readFrom (a2 : Int32) (σ : SG) (ρ : RG) : Option (Int32 × SG × RG) :=
  nm (r2 ρ 29 8 (some 10)) fun ρ2 =>
  nm (s2 σ 29 9 a2) fun σ4 =>
  nm (s2 σ4 29 10 (0 : Int32)) fun σ6 =>
  nm (s2 σ6 29 0 (3 : Int32)) fun σ8 =>
  nm (s2 σ8 29 1 (10 : Int32)) fun σ10 =>
  nm (s2 σ10 29 2 (0 : Int32)) fun σ12 =>
  nm (s2 σ12 29 7 (0 : Int32)) fun σ14 =>
  F_X0_readFrom_38 a2 1024 σ14 ρ2 (0 : Int32)
set_option maxHeartbeats 4000000 in
set_option maxRecDepth 100000 in
theorem w_X0_readFrom_38 {a2 : Int32} {p : Program} {e : Env} {s : State} {m : MethodId} {args : Array Value} {below : List Frame} {meth : Method} {c : Code} {r : Int32} {σ1 : SG} {ρ1 : RG} (C : Cx Y D N ad p s m args meth c cX0_readFrom 4 (some .boolean) RX0 wsL_law) : ∀ (n : Nat) (σ : SG) (ρ : RG) (v3 : Int32) (H : Heap) (locs : List Loc) (ls : Array Slot), Lay N K len ρ → F_X0_readFrom_38 a2 n σ ρ v3 = some (r, σ1, ρ1) → WP Y D N ad K len σ ρ H → va_S (AA N ad s.heap.size) s.heap H locs → lv_has ls 4 [(0, .ref (ad 29)), (3, .int v3)] → W p l e rm_X0_readFrom s m args below meth c H locs 0 0 (MQ below (QW Y D N ad K len σ1 ρ1 (AA N ad s.heap.size) (some (.int r))) args s 0 0 (AA N ad s.heap.size)) (F0 m 38 ls []) := by
  have hx := C.1.1
  have hb := C.1.2.1
  intro n
  induction n with
  | zero => intro σ ρ v3 H locs ls hL hF; cases hF
  | succ n ih =>
    intro σ ρ v3 H locs ls hL hF hP hS hl
    unfold F_X0_readFrom_38 at hF
    refine lv_iload_n hx hb dX0_readFrom_38 rfl (lv_at hl 1 rfl) ?_
    refine lv_bipush (v := 10) hx hb dX0_readFrom_39 (by decide +kernel) ?_
    refine lv_icmp_ge (tgt := 91) hx hb dX0_readFrom_41 (by decide) (fun c_15 => ?_) (fun c_15 => ?_) -- COND 15 by_cases c_15 : (10 : Int32) ≤ v3
    · have hF := ite_t hF c_15
      refine lv_iconst (v := 0) hx hb dX0_readFrom_91 (by decide) ?_
      obtain ⟨rfl, rfl, rfl⟩ := ret_3 hF
      exact x_zret rfl rfl C hP hS dX0_readFrom_92
    · have hF := ite_f hF c_15
      refine lv_aload_n hx hb dX0_readFrom_44 rfl (lv_at hl 0 rfl) ?_
      obtain ⟨r16, σ16, hq16, hF⟩ := bn2_1 hF
      refine x_callV (ci := 0) rfl rfl C hP hS (c_X0_readClause hL hq16) (lr_29 hL) (lk_29 hL) (cwV 0 C.1.2.2.2.2 (gdV mw_123 mw_124 mw_125 mw_23 mw_126) rfl rfl rfl hd_X0_readClause ⟨Nat.le_of_ble_eq_true rfl, Nat.le_of_ble_eq_true rfl⟩) rfl rfl hl.1 (Nat.le_of_ble_eq_true rfl) ⟨Nat.zero_le _, Nat.zero_le _⟩ dX0_readFrom_45 (fun H locs hP hS => ?_)
      refine lv_if_ne (tgt := 53) hx hb dX0_readFrom_48 (by decide) (fun c_17 => ?_) (fun c_17 => ?_) -- COND 17 rcases (Decidable.em (r16 = 0)).symm with c_17 | c_17
      · have hF := ite_f hF c_17
        refine lv_aload_n hx hb dX0_readFrom_53 rfl (lv_at hl 0 rfl) ?_
        refine get_0_10 C hP (lr_29 hL) (lk_29 hL) inlX0 mw_120 dX0_readFrom_54 ?_
        refine lv_aload_n hx hb dX0_readFrom_57 rfl (lv_at hl 0 rfl) ?_
        refine get_0_9 C hP (lr_29 hL) (lk_29 hL) inlX0 mw_119 dX0_readFrom_58 ?_
        refine lv_icmp_ne (tgt := 66) hx hb dX0_readFrom_61 (by decide) (fun c_18 => ?_) (fun c_18 => ?_) -- COND 18 rcases (Decidable.em ((σ16 29 10) = (σ16 29 9))).symm with c_18 | c_18
        · have hF := ite_f hF c_18
          refine lv_iload_n hx hb dX0_readFrom_66 rfl (lv_at hl 1 rfl) ?_
          refine lv_iconst (v := 1) hx hb dX0_readFrom_67 (by decide) ?_
          refine lv_iadd hx hb dX0_readFrom_68 ?_
          obtain ⟨x19, ex19, hF⟩ := nm_1 hF
          refine x_top ex19 ?_
          refine lv_bipush (v := 10) hx hb dX0_readFrom_69 (by decide +kernel) ?_
          refine lv_icmp_eq (tgt := 83) hx hb dX0_readFrom_71 (by decide) (fun c_20 => ?_) (fun c_20 => ?_) -- COND 20 by_cases c_20 : x19 = (10 : Int32)
          · have hF := ite_t hF c_20
            refine lv_iconst (v := 0) hx hb dX0_readFrom_83 (by decide) ?_
            obtain ⟨rfl, rfl, rfl⟩ := ret_3 hF
            exact x_zret rfl rfl C hP hS dX0_readFrom_84
          · have hF := ite_f hF c_20
            refine lv_aload_n hx hb dX0_readFrom_74 rfl (lv_at hl 0 rfl) ?_
            refine lv_bipush (v := 59) hx hb dX0_readFrom_75 (by decide +kernel) ?_
            obtain ⟨r21, σ21, hq21, hF⟩ := bn2_1 hF
            refine x_callV (ci := 0) rfl rfl C hP hS (c_X0_readSign hL hq21) (lr_29 hL) (lk_29 hL) (cwV 1 C.1.2.2.2.2 (gdV mw_185 mw_186 mw_187 mw_23 mw_188) rfl rfl rfl hd_X0_readSign ⟨Nat.le_of_ble_eq_true rfl, Nat.le_of_ble_eq_true rfl⟩) rfl rfl hl.1 (Nat.le_of_ble_eq_true rfl) ⟨Nat.zero_le _, Nat.zero_le _⟩ dX0_readFrom_77 (fun H locs hP hS => ?_)
            refine lv_if_ne (tgt := 85) hx hb dX0_readFrom_80 (by decide) (fun c_22 => ?_) (fun c_22 => ?_) -- COND 22 rcases (Decidable.em (r21 = 0)).symm with c_22 | c_22
            · have hF := ite_f hF c_22
              obtain ⟨x23, ex23, hF⟩ := nm_1 hF
              refine lv_iinc (v := x23) (lv' := [(3, .int x23), (0, .ref (ad 29))]) hx hb dX0_readFrom_85 hl (k := 1) rfl (by rw [ex23]; first | rfl | decide) (by decide) rfl (fun ls hl => ?_)
              refine lv_goto (tgt := 38) hx hb dX0_readFrom_88 (by decide) ?_
              exact ih _ _ _ _ _ _ hL hF hP hS (lv_sub hl [1, 0] rfl)
            · have hF := ite_t hF c_22
              refine lv_iconst (v := 0) hx hb dX0_readFrom_83 (by decide) ?_
              obtain ⟨rfl, rfl, rfl⟩ := ret_3 hF
              exact x_zret rfl rfl C hP hS dX0_readFrom_84
        · have hF := ite_t hF c_18
          refine lv_iconst (v := 1) hx hb dX0_readFrom_64 (by decide) ?_
          obtain ⟨rfl, rfl, rfl⟩ := ret_3 hF
          exact x_zret rfl rfl C hP hS dX0_readFrom_65
      · have hF := ite_t hF c_17
        refine lv_iconst (v := 0) hx hb dX0_readFrom_51 (by decide) ?_
        obtain ⟨rfl, rfl, rfl⟩ := ret_3 hF
        exact x_zret rfl rfl C hP hS dX0_readFrom_52
theorem k_X0_readFrom_38 {a2 : Int32} {r : Int32} {σ1 : SG} {ρ1 : RG} : ∀ (n : Nat) (σ : SG) (ρ : RG) (v3 : Int32), Lay N K len ρ → F_X0_readFrom_38 a2 n σ ρ v3 = some (r, σ1, ρ1) → Lay N K len ρ1 := by
  intro n
  induction n with
  | zero => intro σ ρ v3 hL hF; cases hF
  | succ n ih =>
    intro σ ρ v3 hL hF
    unfold F_X0_readFrom_38 at hF
    by_cases c_15 : (10 : Int32) ≤ v3
    · have hF := ite_t hF c_15
      obtain ⟨rfl, rfl, rfl⟩ := ret_3 hF
      exact hL
    · have hF := ite_f hF c_15
      obtain ⟨r16, σ16, hq16, hF⟩ := bn2_1 hF
      rcases (Decidable.em (r16 = 0)).symm with c_17 | c_17
      · have hF := ite_f hF c_17
        rcases (Decidable.em ((σ16 29 10) = (σ16 29 9))).symm with c_18 | c_18
        · have hF := ite_f hF c_18
          obtain ⟨x19, ex19, hF⟩ := nm_1 hF
          by_cases c_20 : x19 = (10 : Int32)
          · have hF := ite_t hF c_20
            obtain ⟨rfl, rfl, rfl⟩ := ret_3 hF
            exact hL
          · have hF := ite_f hF c_20
            obtain ⟨r21, σ21, hq21, hF⟩ := bn2_1 hF
            rcases (Decidable.em (r21 = 0)).symm with c_22 | c_22
            · have hF := ite_f hF c_22
              obtain ⟨x23, ex23, hF⟩ := nm_1 hF
              exact ih _ _ _ hL hF
            · have hF := ite_t hF c_22
              obtain ⟨rfl, rfl, rfl⟩ := ret_3 hF
              exact hL
        · have hF := ite_t hF c_18
          obtain ⟨rfl, rfl, rfl⟩ := ret_3 hF
          exact hL
      · have hF := ite_t hF c_17
        obtain ⟨rfl, rfl, rfl⟩ := ret_3 hF
        exact hL
theorem kr_X0_readFrom_38 {a2 : Int32} {r : Int32} {σ1 : SG} {ρ1 : RG} : ∀ (n : Nat) (σ : SG) (ρ : RG) (v3 : Int32), Lay N K len ρ → RC N ρ → F_X0_readFrom_38 a2 n σ ρ v3 = some (r, σ1, ρ1) → RC N ρ1 := by
  intro n
  induction n with
  | zero => intro σ ρ v3 hL hR hF; cases hF
  | succ n ih =>
    intro σ ρ v3 hL hR hF
    unfold F_X0_readFrom_38 at hF
    by_cases c_15 : (10 : Int32) ≤ v3
    · have hF := ite_t hF c_15
      obtain ⟨rfl, rfl, rfl⟩ := ret_3 hF
      exact hR
    · have hF := ite_f hF c_15
      obtain ⟨r16, σ16, hq16, hF⟩ := bn2_1 hF
      rcases (Decidable.em (r16 = 0)).symm with c_17 | c_17
      · have hF := ite_f hF c_17
        rcases (Decidable.em ((σ16 29 10) = (σ16 29 9))).symm with c_18 | c_18
        · have hF := ite_f hF c_18
          obtain ⟨x19, ex19, hF⟩ := nm_1 hF
          by_cases c_20 : x19 = (10 : Int32)
          · have hF := ite_t hF c_20
            obtain ⟨rfl, rfl, rfl⟩ := ret_3 hF
            exact hR
          · have hF := ite_f hF c_20
            obtain ⟨r21, σ21, hq21, hF⟩ := bn2_1 hF
            rcases (Decidable.em (r21 = 0)).symm with c_22 | c_22
            · have hF := ite_f hF c_22
              obtain ⟨x23, ex23, hF⟩ := nm_1 hF
              exact ih _ _ _ hL hR hF
            · have hF := ite_t hF c_22
              obtain ⟨rfl, rfl, rfl⟩ := ret_3 hF
              exact hR
        · have hF := ite_t hF c_18
          obtain ⟨rfl, rfl, rfl⟩ := ret_3 hF
          exact hR
      · have hF := ite_t hF c_17
        obtain ⟨rfl, rfl, rfl⟩ := ret_3 hF
        exact hR
set_option maxHeartbeats 4000000 in
set_option maxRecDepth 100000 in
theorem w_X0_readFrom_0 {a2 : Int32} {p : Program} {e : Env} {s : State} {m : MethodId} {args : Array Value} {below : List Frame} {meth : Method} {c : Code} {r : Int32} {σ1 : SG} {ρ1 : RG} (C : Cx Y D N ad p s m args meth c cX0_readFrom 4 (some .boolean) RX0 wsL_law) {σ : SG} {ρ : RG} {H : Heap} {locs : List Loc} {ls : Array Slot} (hL : Lay N K len ρ) (hF : F_X0_readFrom a2 σ ρ = some (r, σ1, ρ1)) (hP : WP Y D N ad K len σ ρ H) (hS : va_S (AA N ad s.heap.size) s.heap H locs) (hl : lv_has ls 4 [(0, .ref (ad 29)), (1, .ref (ad 10)), (2, .int a2)]) : W p l e rm_X0_readFrom s m args below meth c H locs 0 0 (MQ below (QW Y D N ad K len σ1 ρ1 (AA N ad s.heap.size) (some (.int r))) args s 0 0 (AA N ad s.heap.size)) (F0 m 0 ls []) := by
  have hx := C.1.1
  have hb := C.1.2.1
  unfold F_X0_readFrom at hF
  refine lv_aload_n hx hb dX0_readFrom_0 rfl (lv_at hl 0 rfl) ?_
  refine lv_aload_n hx hb dX0_readFrom_1 rfl (lv_at hl 1 rfl) ?_
  obtain ⟨ρ2, eρ2, hF⟩ := nm_1 hF
  refine put_0_8 C hP hS (lr_29 hL) (lk_29 hL) inlX0 mw_118 eρ2 dX0_readFrom_2 (fun H locs hP hS => ?_)
  have hL : Lay N K len ρ2 := eρ2 ▸ ly_put hL (some 10) (by decide +kernel)
  refine lv_aload_n hx hb dX0_readFrom_5 rfl (lv_at hl 0 rfl) ?_
  refine lv_iload_n hx hb dX0_readFrom_6 rfl (lv_at hl 2 rfl) ?_
  obtain ⟨σ4, eσ4, hF⟩ := nm_1 hF
  refine put_0_9 C hP hS (lr_29 hL) (lk_29 hL) inlX0 mw_119 eσ4 dX0_readFrom_7 (fun H locs hP hS => ?_)
  refine lv_aload_n hx hb dX0_readFrom_10 rfl (lv_at hl 0 rfl) ?_
  refine lv_iconst (v := 0) hx hb dX0_readFrom_11 (by decide) ?_
  obtain ⟨σ6, eσ6, hF⟩ := nm_1 hF
  refine put_0_10 C hP hS (lr_29 hL) (lk_29 hL) inlX0 mw_120 eσ6 dX0_readFrom_12 (fun H locs hP hS => ?_)
  refine lv_aload_n hx hb dX0_readFrom_15 rfl (lv_at hl 0 rfl) ?_
  refine lv_iconst (v := 3) hx hb dX0_readFrom_16 (by decide) ?_
  obtain ⟨σ8, eσ8, hF⟩ := nm_1 hF
  refine put_0_0 C hP hS (lr_29 hL) (lk_29 hL) inlX0 mw_56 eσ8 dX0_readFrom_17 (fun H locs hP hS => ?_)
  refine lv_aload_n hx hb dX0_readFrom_20 rfl (lv_at hl 0 rfl) ?_
  refine lv_bipush (v := 10) hx hb dX0_readFrom_21 (by decide +kernel) ?_
  obtain ⟨σ10, eσ10, hF⟩ := nm_1 hF
  refine put_0_1 C hP hS (lr_29 hL) (lk_29 hL) inlX0 mw_57 eσ10 dX0_readFrom_23 (fun H locs hP hS => ?_)
  refine lv_aload_n hx hb dX0_readFrom_26 rfl (lv_at hl 0 rfl) ?_
  refine lv_iconst (v := 0) hx hb dX0_readFrom_27 (by decide) ?_
  obtain ⟨σ12, eσ12, hF⟩ := nm_1 hF
  refine put_0_2 C hP hS (lr_29 hL) (lk_29 hL) inlX0 mw_121 eσ12 dX0_readFrom_28 (fun H locs hP hS => ?_)
  refine lv_aload_n hx hb dX0_readFrom_31 rfl (lv_at hl 0 rfl) ?_
  refine lv_iconst (v := 0) hx hb dX0_readFrom_32 (by decide) ?_
  obtain ⟨σ14, eσ14, hF⟩ := nm_1 hF
  refine put_0_7 C hP hS (lr_29 hL) (lk_29 hL) inlX0 mw_122 eσ14 dX0_readFrom_33 (fun H locs hP hS => ?_)
  refine lv_iconst (v := 0) hx hb dX0_readFrom_36 (by decide) ?_
  refine lv_istore_n (lv' := [(3, .int (0 : Int32)), (0, .ref (ad 29)), (1, .ref (ad 10)), (2, .int a2)]) hx hb dX0_readFrom_37 rfl hl (by decide) rfl (fun ls hl => ?_)
  exact w_X0_readFrom_38 C 1024 _ _ _ _ _ _ hL hF hP hS (lv_sub hl [1, 0] rfl)
theorem k_X0_readFrom_0 {a2 : Int32} {r : Int32} {σ1 : SG} {ρ1 : RG} {σ : SG} {ρ : RG} (hL : Lay N K len ρ) (hF : F_X0_readFrom a2 σ ρ = some (r, σ1, ρ1)) : Lay N K len ρ1 := by
  unfold F_X0_readFrom at hF
  obtain ⟨ρ2, eρ2, hF⟩ := nm_1 hF
  have hL : Lay N K len ρ2 := eρ2 ▸ ly_put hL (some 10) (by decide +kernel)
  obtain ⟨σ4, eσ4, hF⟩ := nm_1 hF
  obtain ⟨σ6, eσ6, hF⟩ := nm_1 hF
  obtain ⟨σ8, eσ8, hF⟩ := nm_1 hF
  obtain ⟨σ10, eσ10, hF⟩ := nm_1 hF
  obtain ⟨σ12, eσ12, hF⟩ := nm_1 hF
  obtain ⟨σ14, eσ14, hF⟩ := nm_1 hF
  exact k_X0_readFrom_38 1024 _ _ _ hL hF
theorem kr_X0_readFrom_0 {a2 : Int32} {r : Int32} {σ1 : SG} {ρ1 : RG} {σ : SG} {ρ : RG} (hL : Lay N K len ρ) (hR : RC N ρ) (hF : F_X0_readFrom a2 σ ρ = some (r, σ1, ρ1)) : RC N ρ1 := by
  unfold F_X0_readFrom at hF
  obtain ⟨ρ2, eρ2, hF⟩ := nm_1 hF
  have hR : RC N ρ2 := by rw [eρ2]; exact RC_put hR (lr_10 hL)
  have hL : Lay N K len ρ2 := eρ2 ▸ ly_put hL (some 10) (by decide +kernel)
  obtain ⟨σ4, eσ4, hF⟩ := nm_1 hF
  obtain ⟨σ6, eσ6, hF⟩ := nm_1 hF
  obtain ⟨σ8, eσ8, hF⟩ := nm_1 hF
  obtain ⟨σ10, eσ10, hF⟩ := nm_1 hF
  obtain ⟨σ12, eσ12, hF⟩ := nm_1 hF
  obtain ⟨σ14, eσ14, hF⟩ := nm_1 hF
  exact kr_X0_readFrom_38 1024 _ _ _ hL hR hF
set_option maxHeartbeats 4000000 in
set_option maxRecDepth 100000 in
theorem c_X0_readFrom {a2 : Int32} {r : Int32} {σ1 : SG} {ρ1 : RG} {σ : SG} {ρ : RG} (hL : Lay N K len ρ) (hF : F_X0_readFrom a2 σ ρ = some (r, σ1, ρ1)) : MT l Y D N ad K len yX0_readFrom (Cond.code yX0_readFrom cX0_readFrom 4 (some .boolean) :: wsL_law) rm_X0_readFrom [.ref (ad 29), .ref (ad 10), .int a2] σ ρ (some (.int r)) σ1 ρ1 := by
  refine mt_of (cc := cX0_readFrom) (nL := 4) (ret := (some .boolean)) (by decide) (Nat.le_of_ble_eq_true rfl) ?_
  intro p e s m args below meth c ls C hnm hP hS hl
  exact w_X0_readFrom_0 C hL hF hP hS hl
theorem k_X0_readFrom {a2 : Int32} {r : Int32} {σ1 : SG} {ρ1 : RG} {σ : SG} {ρ : RG} (hL : Lay N K len ρ) (hF : F_X0_readFrom a2 σ ρ = some (r, σ1, ρ1)) : Lay N K len ρ1 := k_X0_readFrom_0 hL hF
theorem kr_X0_readFrom {a2 : Int32} {r : Int32} {σ1 : SG} {ρ1 : RG} {σ : SG} {ρ : RG} (hL : Lay N K len ρ) (hR : RC N ρ) (hF : F_X0_readFrom a2 σ ρ = some (r, σ1, ρ1)) : RC N ρ1 := kr_X0_readFrom_0 hL hR hF

/-! CutCrooked.public int board();  -/
theorem dX11_board_0 : decode cX11_board 0 = .ok (.aload_n 0, 1) := by decide +kernel
theorem dX11_board_1 : decode cX11_board 1 = .ok (.getfield 12, 3) := by decide +kernel
theorem dX11_board_4 : decode cX11_board 4 = .ok (.getfield 68, 3) := by decide +kernel
theorem dX11_board_7 : decode cX11_board 7 = .ok (.iconst 5, 1) := by decide +kernel
theorem dX11_board_8 : decode cX11_board 8 = .ok (.if_icmp .lt 6, 3) := by decide +kernel
theorem dX11_board_11 : decode cX11_board 11 = .ok (.bipush (-4), 2) := by decide +kernel
theorem dX11_board_13 : decode cX11_board 13 = .ok (.ireturn, 1) := by decide +kernel
theorem dX11_board_14 : decode cX11_board 14 = .ok (.aload_n 0, 1) := by decide +kernel
theorem dX11_board_15 : decode cX11_board 15 = .ok (.getfield 31, 3) := by decide +kernel
theorem dX11_board_18 : decode cX11_board 18 = .ok (.aload_n 0, 1) := by decide +kernel
theorem dX11_board_19 : decode cX11_board 19 = .ok (.getfield 12, 3) := by decide +kernel
theorem dX11_board_22 : decode cX11_board 22 = .ok (.getfield 64, 3) := by decide +kernel
theorem dX11_board_25 : decode cX11_board 25 = .ok (.aload_n 0, 1) := by decide +kernel
theorem dX11_board_26 : decode cX11_board 26 = .ok (.getfield 12, 3) := by decide +kernel
theorem dX11_board_29 : decode cX11_board 29 = .ok (.getfield 60, 3) := by decide +kernel
theorem dX11_board_32 : decode cX11_board 32 = .ok (.invokevirtual 71, 3) := by decide +kernel
theorem dX11_board_35 : decode cX11_board 35 = .ok (.istore_n 1, 1) := by decide +kernel
theorem dX11_board_36 : decode cX11_board 36 = .ok (.aload_n 0, 1) := by decide +kernel
theorem dX11_board_37 : decode cX11_board 37 = .ok (.getfield 12, 3) := by decide +kernel
theorem dX11_board_40 : decode cX11_board 40 = .ok (.iconst 0, 1) := by decide +kernel
theorem dX11_board_41 : decode cX11_board 41 = .ok (.putfield 60, 3) := by decide +kernel
theorem dX11_board_44 : decode cX11_board 44 = .ok (.iload_n 1, 1) := by decide +kernel
theorem dX11_board_45 : decode cX11_board 45 = .ok (.ifCond .ne 14, 3) := by decide +kernel
theorem dX11_board_48 : decode cX11_board 48 = .ok (.bipush (-10), 2) := by decide +kernel
theorem dX11_board_50 : decode cX11_board 50 = .ok (.aload_n 0, 1) := by decide +kernel
theorem dX11_board_51 : decode cX11_board 51 = .ok (.getfield 31, 3) := by decide +kernel
theorem dX11_board_54 : decode cX11_board 54 = .ok (.getfield 75, 3) := by decide +kernel
theorem dX11_board_57 : decode cX11_board 57 = .ok (.isub, 1) := by decide +kernel
theorem dX11_board_58 : decode cX11_board 58 = .ok (.ireturn, 1) := by decide +kernel
theorem dX11_board_59 : decode cX11_board 59 = .ok (.aload_n 0, 1) := by decide +kernel
theorem dX11_board_60 : decode cX11_board 60 = .ok (.getfield 12, 3) := by decide +kernel
theorem dX11_board_63 : decode cX11_board 63 = .ok (.getfield 78, 3) := by decide +kernel
theorem dX11_board_66 : decode cX11_board 66 = .ok (.aload_n 0, 1) := by decide +kernel
theorem dX11_board_67 : decode cX11_board 67 = .ok (.getfield 31, 3) := by decide +kernel
theorem dX11_board_70 : decode cX11_board 70 = .ok (.invokevirtual 81, 3) := by decide +kernel
theorem dX11_board_73 : decode cX11_board 73 = .ok (.aload_n 0, 1) := by decide +kernel
theorem dX11_board_74 : decode cX11_board 74 = .ok (.getfield 12, 3) := by decide +kernel
theorem dX11_board_77 : decode cX11_board 77 = .ok (.dup, 1) := by decide +kernel
theorem dX11_board_78 : decode cX11_board 78 = .ok (.getfield 68, 3) := by decide +kernel
theorem dX11_board_81 : decode cX11_board 81 = .ok (.iconst 1, 1) := by decide +kernel
theorem dX11_board_82 : decode cX11_board 82 = .ok (.iadd, 1) := by decide +kernel
theorem dX11_board_83 : decode cX11_board 83 = .ok (.putfield 68, 3) := by decide +kernel
theorem dX11_board_86 : decode cX11_board 86 = .ok (.aload_n 0, 1) := by decide +kernel
theorem dX11_board_87 : decode cX11_board 87 = .ok (.getfield 12, 3) := by decide +kernel
theorem dX11_board_90 : decode cX11_board 90 = .ok (.getfield 68, 3) := by decide +kernel
theorem dX11_board_93 : decode cX11_board 93 = .ok (.iconst 1, 1) := by decide +kernel
theorem dX11_board_94 : decode cX11_board 94 = .ok (.isub, 1) := by decide +kernel
theorem dX11_board_95 : decode cX11_board 95 = .ok (.ireturn, 1) := by decide +kernel
theorem hd_X11_board : yX11_board.cls = RX11 ∧ yX11_board.cls ≠ "java/lang/invoke/MethodHandle" ∧ yX11_board.cls ≠ "java/lang/invoke/VarHandle" ∧ (parseMethodDescriptor yX11_board.desc).map (fun d => d.parameters.length) = some 0 := by decide +kernel
abbrev rm_X11_board : Room := { frames := 54, cells := 0, slots := 0, locals := 1035 }
def F_X11_board  (σ : SG) (ρ : RG) : Option (Int32 × SG × RG) :=
  if (σ 1 4) < (5 : Int32) then
    bn3 (F_X0_readFrom (σ 1 6) σ ρ) fun r2 σ2 ρ2 =>
    nm (s2 σ2 1 6 (0 : Int32)) fun σ4 =>
    if r2 = 0 then
      nm ((-10 : Int32) - (σ4 29 10)) fun x11 =>
      some (x11, σ4, ρ2)
    else
      bn (F_X0_takes_5_29 σ4 ρ2) fun σ6 =>
      nm ((σ6 1 4) + (1 : Int32)) fun x7 =>
      nm (s2 σ6 1 4 x7) fun σ9 =>
      nm ((σ9 1 4) - (1 : Int32)) fun x10 =>
      some (x10, σ9, ρ2)
  else
    some ((-4 : Int32), σ, ρ)
set_option maxHeartbeats 4000000 in
set_option maxRecDepth 100000 in
theorem w_X11_board_0  {p : Program} {e : Env} {s : State} {m : MethodId} {args : Array Value} {below : List Frame} {meth : Method} {c : Code} {r : Int32} {σ1 : SG} {ρ1 : RG} (C : Cx Y D N ad p s m args meth c cX11_board 2 (some .int) RX11 wsL_law) {σ : SG} {ρ : RG} {H : Heap} {locs : List Loc} {ls : Array Slot} (hL : Lay N K len ρ) (hF : F_X11_board σ ρ = some (r, σ1, ρ1)) (hP : WP Y D N ad K len σ ρ H) (hS : va_S (AA N ad s.heap.size) s.heap H locs) (hl : lv_has ls 2 [(0, .ref (ad 0))]) : W p l e rm_X11_board s m args below meth c H locs 0 0 (MQ below (QW Y D N ad K len σ1 ρ1 (AA N ad s.heap.size) (some (.int r))) args s 0 0 (AA N ad s.heap.size)) (F0 m 0 ls []) := by
  have hx := C.1.1
  have hb := C.1.2.1
  unfold F_X11_board at hF
  refine lv_aload_n hx hb dX11_board_0 rfl (lv_at hl 0 rfl) ?_
  refine get_11_0 C hP (lr_0 hL) (lk_0 hL) inlX11 mw_15 (lf_0_0 hL) dX11_board_1 ?_
  refine get_8_4 C hP (lr_1 hL) (lk_1 hL) inlX8 mw_111 dX11_board_4 ?_
  refine lv_iconst (v := 5) hx hb dX11_board_7 (by decide) ?_
  refine lv_icmp_lt (tgt := 14) hx hb dX11_board_8 (by decide) (fun c_1 => ?_) (fun c_1 => ?_) -- COND 1 by_cases c_1 : (σ 1 4) < (5 : Int32)
  · have hF := ite_t hF c_1
    refine lv_aload_n hx hb dX11_board_14 rfl (lv_at hl 0 rfl) ?_
    refine get_11_4 C hP (lr_0 hL) (lk_0 hL) inlX11 mw_24 (lf_0_4 hL) dX11_board_15 ?_
    refine lv_aload_n hx hb dX11_board_18 rfl (lv_at hl 0 rfl) ?_
    refine get_11_0 C hP (lr_0 hL) (lk_0 hL) inlX11 mw_15 (lf_0_0 hL) dX11_board_19 ?_
    refine get_8_5 C hP (lr_1 hL) (lk_1 hL) inlX8 mw_96 (lf_1_5 hL) dX11_board_22 ?_
    refine lv_aload_n hx hb dX11_board_25 rfl (lv_at hl 0 rfl) ?_
    refine get_11_0 C hP (lr_0 hL) (lk_0 hL) inlX11 mw_15 (lf_0_0 hL) dX11_board_26 ?_
    refine get_8_6 C hP (lr_1 hL) (lk_1 hL) inlX8 mw_95 dX11_board_29 ?_
    obtain ⟨r2, σ2, ρ2, hq2, hF⟩ := bn3_1 hF
    refine x_callV (ci := 0) rfl rfl C hP hS (c_X0_readFrom hL hq2) (lr_29 hL) (lk_29 hL) (cwV 2 C.1.2.2.2.2 (gdV mw_114 mw_115 mw_116 mw_23 mw_117) rfl rfl rfl hd_X0_readFrom ⟨Nat.le_of_ble_eq_true rfl, Nat.le_of_ble_eq_true rfl⟩) rfl rfl hl.1 (Nat.le_of_ble_eq_true rfl) ⟨Nat.zero_le _, Nat.zero_le _⟩ dX11_board_32 (fun H locs hP hS => ?_)
    have hL : Lay N K len ρ2 := k_X0_readFrom hL hq2
    refine lv_istore_n (lv' := [(1, .int r2), (0, .ref (ad 0))]) hx hb dX11_board_35 rfl hl (by decide) rfl (fun ls hl => ?_)
    refine lv_aload_n hx hb dX11_board_36 rfl (lv_at hl 1 rfl) ?_
    refine get_11_0 C hP (lr_0 hL) (lk_0 hL) inlX11 mw_15 (lf_0_0 hL) dX11_board_37 ?_
    refine lv_iconst (v := 0) hx hb dX11_board_40 (by decide) ?_
    obtain ⟨σ4, eσ4, hF⟩ := nm_1 hF
    refine put_8_6 C hP hS (lr_1 hL) (lk_1 hL) inlX8 mw_95 eσ4 dX11_board_41 (fun H locs hP hS => ?_)
    refine lv_iload_n hx hb dX11_board_44 rfl (lv_at hl 0 rfl) ?_
    refine lv_if_ne (tgt := 59) hx hb dX11_board_45 (by decide) (fun c_5 => ?_) (fun c_5 => ?_) -- COND 5 rcases (Decidable.em (r2 = 0)).symm with c_5 | c_5
    · have hF := ite_f hF c_5
      refine lv_aload_n hx hb dX11_board_59 rfl (lv_at hl 1 rfl) ?_
      refine get_11_0 C hP (lr_0 hL) (lk_0 hL) inlX11 mw_15 (lf_0_0 hL) dX11_board_60 ?_
      refine get_8_3 C hP (lr_1 hL) (lk_1 hL) inlX8 mw_113 (lf_1_3 hL) dX11_board_63 ?_
      refine lv_aload_n hx hb dX11_board_66 rfl (lv_at hl 1 rfl) ?_
      refine get_11_4 C hP (lr_0 hL) (lk_0 hL) inlX11 mw_24 (lf_0_4 hL) dX11_board_67 ?_
      obtain ⟨σ6, hq6, hF⟩ := bn_1 hF
      refine x_callV (ci := 0) rfl rfl C hP hS (c_X0_takes_5_29 hL hq6) (lr_5 hL) (lk_5 hL) (cwV 1 C.1.2.2.2.2 (gdV mw_281 mw_282 mw_283 mw_23 mw_284) rfl rfl rfl hd_X0_takes ⟨Nat.le_of_ble_eq_true rfl, Nat.le_of_ble_eq_true rfl⟩) rfl rfl hl.1 (Nat.le_of_ble_eq_true rfl) ⟨Nat.zero_le _, Nat.zero_le _⟩ dX11_board_70 (fun H locs hP hS => ?_)
      refine lv_aload_n hx hb dX11_board_73 rfl (lv_at hl 1 rfl) ?_
      refine get_11_0 C hP (lr_0 hL) (lk_0 hL) inlX11 mw_15 (lf_0_0 hL) dX11_board_74 ?_
      refine lv_dup hx hb dX11_board_77 rfl ?_
      refine get_8_4 C hP (lr_1 hL) (lk_1 hL) inlX8 mw_111 dX11_board_78 ?_
      refine lv_iconst (v := 1) hx hb dX11_board_81 (by decide) ?_
      refine lv_iadd hx hb dX11_board_82 ?_
      obtain ⟨x7, ex7, hF⟩ := nm_1 hF
      refine x_top ex7 ?_
      obtain ⟨σ9, eσ9, hF⟩ := nm_1 hF
      refine put_8_4 C hP hS (lr_1 hL) (lk_1 hL) inlX8 mw_111 eσ9 dX11_board_83 (fun H locs hP hS => ?_)
      refine lv_aload_n hx hb dX11_board_86 rfl (lv_at hl 1 rfl) ?_
      refine get_11_0 C hP (lr_0 hL) (lk_0 hL) inlX11 mw_15 (lf_0_0 hL) dX11_board_87 ?_
      refine get_8_4 C hP (lr_1 hL) (lk_1 hL) inlX8 mw_111 dX11_board_90 ?_
      refine lv_iconst (v := 1) hx hb dX11_board_93 (by decide) ?_
      refine lv_isub hx hb dX11_board_94 ?_
      obtain ⟨x10, ex10, hF⟩ := nm_1 hF
      refine x_top ex10 ?_
      obtain ⟨rfl, rfl, rfl⟩ := ret_3 hF
      exact x_iret rfl C hP hS dX11_board_95
    · have hF := ite_t hF c_5
      refine lv_bipush (v := -10) hx hb dX11_board_48 (by decide +kernel) ?_
      refine lv_aload_n hx hb dX11_board_50 rfl (lv_at hl 1 rfl) ?_
      refine get_11_4 C hP (lr_0 hL) (lk_0 hL) inlX11 mw_24 (lf_0_4 hL) dX11_board_51 ?_
      refine get_0_10 C hP (lr_29 hL) (lk_29 hL) inlX0 mw_112 dX11_board_54 ?_
      refine lv_isub hx hb dX11_board_57 ?_
      obtain ⟨x11, ex11, hF⟩ := nm_1 hF
      refine x_top ex11 ?_
      obtain ⟨rfl, rfl, rfl⟩ := ret_3 hF
      exact x_iret rfl C hP hS dX11_board_58
  · have hF := ite_f hF c_1
    refine lv_bipush (v := -4) hx hb dX11_board_11 (by decide +kernel) ?_
    obtain ⟨rfl, rfl, rfl⟩ := ret_3 hF
    exact x_iret rfl C hP hS dX11_board_13
theorem k_X11_board_0  {r : Int32} {σ1 : SG} {ρ1 : RG} {σ : SG} {ρ : RG} (hL : Lay N K len ρ) (hF : F_X11_board σ ρ = some (r, σ1, ρ1)) : Lay N K len ρ1 := by
  unfold F_X11_board at hF
  by_cases c_1 : (σ 1 4) < (5 : Int32)
  · have hF := ite_t hF c_1
    obtain ⟨r2, σ2, ρ2, hq2, hF⟩ := bn3_1 hF
    have hL : Lay N K len ρ2 := k_X0_readFrom hL hq2
    obtain ⟨σ4, eσ4, hF⟩ := nm_1 hF
    rcases (Decidable.em (r2 = 0)).symm with c_5 | c_5
    · have hF := ite_f hF c_5
      obtain ⟨σ6, hq6, hF⟩ := bn_1 hF
      obtain ⟨x7, ex7, hF⟩ := nm_1 hF
      obtain ⟨σ9, eσ9, hF⟩ := nm_1 hF
      obtain ⟨x10, ex10, hF⟩ := nm_1 hF
      obtain ⟨rfl, rfl, rfl⟩ := ret_3 hF
      exact hL
    · have hF := ite_t hF c_5
      obtain ⟨x11, ex11, hF⟩ := nm_1 hF
      obtain ⟨rfl, rfl, rfl⟩ := ret_3 hF
      exact hL
  · have hF := ite_f hF c_1
    obtain ⟨rfl, rfl, rfl⟩ := ret_3 hF
    exact hL
theorem kr_X11_board_0  {r : Int32} {σ1 : SG} {ρ1 : RG} {σ : SG} {ρ : RG} (hL : Lay N K len ρ) (hR : RC N ρ) (hF : F_X11_board σ ρ = some (r, σ1, ρ1)) : RC N ρ1 := by
  unfold F_X11_board at hF
  by_cases c_1 : (σ 1 4) < (5 : Int32)
  · have hF := ite_t hF c_1
    obtain ⟨r2, σ2, ρ2, hq2, hF⟩ := bn3_1 hF
    have hR : RC N ρ2 := kr_X0_readFrom hL hR hq2
    have hL : Lay N K len ρ2 := k_X0_readFrom hL hq2
    obtain ⟨σ4, eσ4, hF⟩ := nm_1 hF
    rcases (Decidable.em (r2 = 0)).symm with c_5 | c_5
    · have hF := ite_f hF c_5
      obtain ⟨σ6, hq6, hF⟩ := bn_1 hF
      obtain ⟨x7, ex7, hF⟩ := nm_1 hF
      obtain ⟨σ9, eσ9, hF⟩ := nm_1 hF
      obtain ⟨x10, ex10, hF⟩ := nm_1 hF
      obtain ⟨rfl, rfl, rfl⟩ := ret_3 hF
      exact hR
    · have hF := ite_t hF c_5
      obtain ⟨x11, ex11, hF⟩ := nm_1 hF
      obtain ⟨rfl, rfl, rfl⟩ := ret_3 hF
      exact hR
  · have hF := ite_f hF c_1
    obtain ⟨rfl, rfl, rfl⟩ := ret_3 hF
    exact hR
set_option maxHeartbeats 4000000 in
set_option maxRecDepth 100000 in
theorem c_X11_board  {r : Int32} {σ1 : SG} {ρ1 : RG} {σ : SG} {ρ : RG} (hL : Lay N K len ρ) (hF : F_X11_board σ ρ = some (r, σ1, ρ1)) : MT l Y D N ad K len yX11_board (Cond.code yX11_board cX11_board 2 (some .int) :: wsL_law) rm_X11_board [.ref (ad 0)] σ ρ (some (.int r)) σ1 ρ1 := by
  refine mt_of (cc := cX11_board) (nL := 2) (ret := (some .int)) (by decide) (Nat.le_of_ble_eq_true rfl) ?_
  intro p e s m args below meth c ls C hnm hP hS hl
  exact w_X11_board_0 C hL hF hP hS hl
theorem k_X11_board  {r : Int32} {σ1 : SG} {ρ1 : RG} {σ : SG} {ρ : RG} (hL : Lay N K len ρ) (hF : F_X11_board σ ρ = some (r, σ1, ρ1)) : Lay N K len ρ1 := k_X11_board_0 hL hF
theorem kr_X11_board  {r : Int32} {σ1 : SG} {ρ1 : RG} {σ : SG} {ρ : RG} (hL : Lay N K len ρ) (hR : RC N ρ) (hF : F_X11_board σ ρ = some (r, σ1, ρ1)) : RC N ρ1 := kr_X11_board_0 hL hR hF
end GEN
