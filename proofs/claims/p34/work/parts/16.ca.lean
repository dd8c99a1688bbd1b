/-! PART 16.ca: printed by wip/gen -/
section GEN
variable {l : Launch} {Y : YT} {D : va_G} {N : Nat} {ad K len : Nat → Nat}
variable {fR lR : Nat}
/-! CutCrooked.public int of(int, int);  -/
theorem dX11_of_0 : decode cX11_of 0 = .ok (.aload_n 0, 1) := by decide +kernel
theorem dX11_of_1 : decode cX11_of 1 = .ok (.getfield 12, 3) := by decide +kernel
theorem dX11_of_4 : decode cX11_of 4 = .ok (.iload_n 1, 1) := by decide +kernel
theorem dX11_of_5 : decode cX11_of 5 = .ok (.invokevirtual 100, 3) := by decide +kernel
theorem dX11_of_8 : decode cX11_of 8 = .ok (.astore_n 3, 1) := by decide +kernel
theorem dX11_of_9 : decode cX11_of 9 = .ok (.aload_n 3, 1) := by decide +kernel
theorem dX11_of_10 : decode cX11_of 10 = .ok (.ifnonnull 7, 3) := by decide +kernel
theorem dX11_of_13 : decode cX11_of 13 = .ok (.sipush (-10001), 3) := by decide +kernel
theorem dX11_of_16 : decode cX11_of 16 = .ok (.ireturn, 1) := by decide +kernel
theorem dX11_of_17 : decode cX11_of 17 = .ok (.iload_n 2, 1) := by decide +kernel
theorem dX11_of_18 : decode cX11_of 18 = .ok (.tableswitch 68 0 5 #[38, 43, 48, 53, 58, 63], 38) := by decide +kernel
theorem dX11_of_56 : decode cX11_of 56 = .ok (.aload_n 3, 1) := by decide +kernel
theorem dX11_of_57 : decode cX11_of 57 = .ok (.invokevirtual 104, 3) := by decide +kernel
theorem dX11_of_60 : decode cX11_of 60 = .ok (.ireturn, 1) := by decide +kernel
theorem dX11_of_61 : decode cX11_of 61 = .ok (.aload_n 3, 1) := by decide +kernel
theorem dX11_of_62 : decode cX11_of 62 = .ok (.getfield 110, 3) := by decide +kernel
theorem dX11_of_65 : decode cX11_of 65 = .ok (.ireturn, 1) := by decide +kernel
theorem dX11_of_66 : decode cX11_of 66 = .ok (.aload_n 3, 1) := by decide +kernel
theorem dX11_of_67 : decode cX11_of 67 = .ok (.getfield 113, 3) := by decide +kernel
theorem dX11_of_70 : decode cX11_of 70 = .ok (.ireturn, 1) := by decide +kernel
theorem dX11_of_71 : decode cX11_of 71 = .ok (.aload_n 3, 1) := by decide +kernel
theorem dX11_of_72 : decode cX11_of 72 = .ok (.getfield 116, 3) := by decide +kernel
theorem dX11_of_75 : decode cX11_of 75 = .ok (.ireturn, 1) := by decide +kernel
theorem dX11_of_76 : decode cX11_of 76 = .ok (.aload_n 3, 1) := by decide +kernel
theorem dX11_of_77 : decode cX11_of 77 = .ok (.getfield 119, 3) := by decide +kernel
theorem dX11_of_80 : decode cX11_of 80 = .ok (.ireturn, 1) := by decide +kernel
theorem dX11_of_81 : decode cX11_of 81 = .ok (.aload_n 3, 1) := by decide +kernel
theorem dX11_of_82 : decode cX11_of 82 = .ok (.getfield 122, 3) := by decide +kernel
theorem dX11_of_85 : decode cX11_of 85 = .ok (.ireturn, 1) := by decide +kernel
theorem dX11_of_86 : decode cX11_of 86 = .ok (.sipush (-10001), 3) := by decide +kernel
theorem dX11_of_89 : decode cX11_of 89 = .ok (.ireturn, 1) := by decide +kernel
theorem hd_X11_of : yX11_of.cls = RX11 ∧ yX11_of.cls ≠ "java/lang/invoke/MethodHandle" ∧ yX11_of.cls ≠ "java/lang/invoke/VarHandle" ∧ (parseMethodDescriptor yX11_of.desc).map (fun d => d.parameters.length) = some 2 := by decide +kernel
abbrev rm_X11_of : Room := { frames := 1, cells := 0, slots := 0, locals := 21 }
def F_X11_of (N : Nat) (K len : Nat → Nat) (a1 : Int32) (a2 : Int32) (σ : SG) (ρ : RG) : Option (Int32) :=
  bn (F_X8_cutterAt_1 a1 σ ρ) fun o1 =>
  oc o1
   (
    some (-10001 : Int32))
   (fun c2 =>
    gd (isC N K c2) <|
    if a2 = 0 then
      bn (F_v_kind N K len c2 σ ρ) fun r4 =>
      some r4
    else
      if a2 = 1 then
        some (σ c2 1)
      else
        if a2 = 2 then
          some (σ c2 2)
        else
          if a2 = 3 then
            some (σ c2 3)
          else
            if a2 = 4 then
              some (σ c2 4)
            else
              if a2 = 5 then
                some (σ c2 5)
              else
                some (-10001 : Int32))
set_option maxHeartbeats 4000000 in
set_option maxRecDepth 100000 in
theorem w_X11_of_0 {N : Nat} {K len : Nat → Nat} {a1 : Int32} {a2 : Int32} {p : Program} {e : Env} {s : State} {m : MethodId} {args : Array Value} {below : List Frame} {meth : Method} {c : Code} {σ0 : SG} {ρ0 : RG} {r : Int32} (C : Cx Y D N ad p s m args meth c cX11_of 4 (some .int) RX11 wsL_law) {σ : SG} {ρ : RG} {H : Heap} {locs : List Loc} {ls : Array Slot} (hσ0 : σ = σ0) (hρ0 : ρ = ρ0) (hL : Lay N K len ρ) (hF : F_X11_of N K len a1 a2 σ ρ = some r) (hP : WP Y D N ad K len σ ρ H) (hS : va_S (AA N ad s.heap.size) s.heap H locs) (hl : lv_has ls 4 [(0, .ref (ad 0)), (1, .int a1), (2, .int a2)]) : W p l e rm_X11_of s m args below meth c H locs 0 0 (MQ below (QW Y D N ad K len σ0 ρ0 (AA N ad s.heap.size) (some (.int r))) args s 0 0 (AA N ad s.heap.size)) (F0 m 0 ls []) := by
  have hx := C.1.1
  have hb := C.1.2.1
  unfold F_X11_of at hF
  refine lv_aload_n hx hb dX11_of_0 rfl (lv_at hl 0 rfl) ?_
  refine get_11_0 C hP (lr_0 hL) (lk_0 hL) inlX11 mw_15 (lf_0_0 hL) dX11_of_1 ?_
  refine lv_iload_n hx hb dX11_of_4 rfl (lv_at hl 1 rfl) ?_
  obtain ⟨o1, hq1, hF⟩ := bn_1 hF
  refine x_callV (ci := 8) rfl rfl C hP hS (c_X8_cutterAt_1 hL hq1) (lr_1 hL) (lk_1 hL) (cwV 1 C.1.2.2.2.2 (gdV mw_428 mw_429 mw_430 mw_14 mw_431) rfl rfl rfl hd_X8_cutterAt ⟨Nat.le_of_ble_eq_true rfl, Nat.le_of_ble_eq_true rfl⟩) rfl rfl hl.1 (Nat.le_of_ble_eq_true rfl) ⟨Nat.zero_le _, Nat.zero_le _⟩ dX11_of_5 (fun H locs hP hS => ?_)
  rcases ho2 : o1 with _ | c2
  · have hF := oc_n hF ho2
    refine x_n ?_
    refine lv_astore_nN (lv' := [(3, .null), (0, .ref (ad 0)), (1, .int a1), (2, .int a2)]) hx hb dX11_of_8 rfl hl (by decide) rfl (fun ls hl => ?_)
    refine lv_aload_nN hx hb dX11_of_9 rfl (lv_at hl 0 rfl) ?_
    refine lv_ifnonnullN hx hb dX11_of_10 ?_
    refine lv_sipush (v := -10001) hx hb dX11_of_13 (by decide +kernel) ?_
    obtain rfl := ret_1 hF
    subst hσ0
    subst hρ0
    exact x_iret rfl C hP hS dX11_of_16
  · have hF := oc_s hF ho2
    refine x_s ?_
    obtain ⟨gc2, hF⟩ := gd_1 hF
    refine lv_astore_n (lv' := [(3, .ref (ad c2)), (0, .ref (ad 0)), (1, .int a1), (2, .int a2)]) hx hb dX11_of_8 rfl hl (by decide) rfl (fun ls hl => ?_)
    refine lv_aload_n hx hb dX11_of_9 rfl (lv_at hl 0 rfl) ?_
    refine lv_ifnonnull (tgt := 17) hx hb dX11_of_10 (by decide) ?_
    refine lv_iload_n hx hb dX11_of_17 rfl (lv_at hl 3 rfl) ?_
    by_cases cs3_0 : a2 = 0
    · have hF := ite_t hF cs3_0
      refine lv_tableIn (tgt := 56) hx hb dX11_of_18 (by rw [cs3_0]; decide) (by rw [cs3_0]; decide) (by rw [cs3_0]; rfl) (by decide) ?_
      refine lv_aload_n hx hb dX11_of_56 rfl (lv_at hl 0 rfl) ?_
      obtain ⟨r4, hq4, hF⟩ := bn_1 hF
      refine v_kind C hP hS hL gc2 hq4 mw_433 ⟨Nat.le_of_ble_eq_true rfl, Nat.le_of_ble_eq_true rfl⟩ hl.1 (Nat.le_of_ble_eq_true rfl) ⟨Nat.zero_le _, Nat.zero_le _⟩ dX11_of_57 (fun H locs hP hS => ?_)
      obtain rfl := ret_1 hF
      subst hσ0
      subst hρ0
      exact x_iret rfl C hP hS dX11_of_60
    · have hF := ite_f hF cs3_0
      by_cases cs3_1 : a2 = 1
      · have hF := ite_t hF cs3_1
        refine lv_tableIn (tgt := 61) hx hb dX11_of_18 (by rw [cs3_1]; decide) (by rw [cs3_1]; decide) (by rw [cs3_1]; rfl) (by decide) ?_
        refine lv_aload_n hx hb dX11_of_61 rfl (lv_at hl 0 rfl) ?_
        refine get_ck_1 C hP (isC_r gc2) (isC_k gc2) mw_423 (Or.inl rfl) dX11_of_62 ?_
        obtain rfl := ret_1 hF
        subst hσ0
        subst hρ0
        exact x_iret rfl C hP hS dX11_of_65
      · have hF := ite_f hF cs3_1
        by_cases cs3_2 : a2 = 2
        · have hF := ite_t hF cs3_2
          refine lv_tableIn (tgt := 66) hx hb dX11_of_18 (by rw [cs3_2]; decide) (by rw [cs3_2]; decide) (by rw [cs3_2]; rfl) (by decide) ?_
          refine lv_aload_n hx hb dX11_of_66 rfl (lv_at hl 0 rfl) ?_
          refine get_ck_2 C hP (isC_r gc2) (isC_k gc2) mw_424 (Or.inl rfl) dX11_of_67 ?_
          obtain rfl := ret_1 hF
          subst hσ0
          subst hρ0
          exact x_iret rfl C hP hS dX11_of_70
        · have hF := ite_f hF cs3_2
          by_cases cs3_3 : a2 = 3
          · have hF := ite_t hF cs3_3
            refine lv_tableIn (tgt := 71) hx hb dX11_of_18 (by rw [cs3_3]; decide) (by rw [cs3_3]; decide) (by rw [cs3_3]; rfl) (by decide) ?_
            refine lv_aload_n hx hb dX11_of_71 rfl (lv_at hl 0 rfl) ?_
            refine get_ck_3 C hP (isC_r gc2) (isC_k gc2) mw_425 (Or.inl rfl) dX11_of_72 ?_
            obtain rfl := ret_1 hF
            subst hσ0
            subst hρ0
            exact x_iret rfl C hP hS dX11_of_75
          · have hF := ite_f hF cs3_3
            by_cases cs3_4 : a2 = 4
            · have hF := ite_t hF cs3_4
              refine lv_tableIn (tgt := 76) hx hb dX11_of_18 (by rw [cs3_4]; decide) (by rw [cs3_4]; decide) (by rw [cs3_4]; rfl) (by decide) ?_
              refine lv_aload_n hx hb dX11_of_76 rfl (lv_at hl 0 rfl) ?_
              refine get_ck_4 C hP (isC_r gc2) (isC_k gc2) mw_426 (Or.inl rfl) dX11_of_77 ?_
              obtain rfl := ret_1 hF
              subst hσ0
              subst hρ0
              exact x_iret rfl C hP hS dX11_of_80
            · have hF := ite_f hF cs3_4
              by_cases cs3_5 : a2 = 5
              · have hF := ite_t hF cs3_5
                refine lv_tableIn (tgt := 81) hx hb dX11_of_18 (by rw [cs3_5]; decide) (by rw [cs3_5]; decide) (by rw [cs3_5]; rfl) (by decide) ?_
                refine lv_aload_n hx hb dX11_of_81 rfl (lv_at hl 0 rfl) ?_
                refine get_ck_5 C hP (isC_r gc2) (isC_k gc2) mw_427 (Or.inl rfl) dX11_of_82 ?_
                obtain rfl := ret_1 hF
                subst hσ0
                subst hρ0
                exact x_iret rfl C hP hS dX11_of_85
              · have hF := ite_f hF cs3_5
                refine lv_tableOut (tgt := 86) hx hb dX11_of_18 (by have q0 := ne_ti cs3_0 (by decide : (0 : Int32).toInt = 0); have q1 := ne_ti cs3_1 (by decide : (1 : Int32).toInt = 1); have q2 := ne_ti cs3_2 (by decide : (2 : Int32).toInt = 2); have q3 := ne_ti cs3_3 (by decide : (3 : Int32).toInt = 3); have q4 := ne_ti cs3_4 (by decide : (4 : Int32).toInt = 4); have q5 := ne_ti cs3_5 (by decide : (5 : Int32).toInt = 5); omega) (by decide) ?_
                refine lv_sipush (v := -10001) hx hb dX11_of_86 (by decide +kernel) ?_
                obtain rfl := ret_1 hF
                subst hσ0
                subst hρ0
                exact x_iret rfl C hP hS dX11_of_89
set_option maxHeartbeats 4000000 in
set_option maxRecDepth 100000 in
theorem c_X11_of {N : Nat} {K len : Nat → Nat} {a1 : Int32} {a2 : Int32} {r : Int32} {σ : SG} {ρ : RG} (hL : Lay N K len ρ) (hF : F_X11_of N K len a1 a2 σ ρ = some r) : MT l Y D N ad K len yX11_of (Cond.code yX11_of cX11_of 4 (some .int) :: wsL_law) rm_X11_of [.ref (ad 0), .int a1, .int a2] σ ρ (some (.int r)) σ ρ := by
  refine mt_of (cc := cX11_of) (nL := 4) (ret := (some .int)) (by decide) (Nat.le_of_ble_eq_true rfl) ?_
  intro p e s m args below meth c ls C hnm hP hS hl
  exact w_X11_of_0 C rfl rfl hL hF hP hS hl

/-! CutCrooked.public int thick(int, int);  -/
theorem dX11_thick_0 : decode cX11_thick 0 = .ok (.aload_n 0, 1) := by decide +kernel
theorem dX11_thick_1 : decode cX11_thick 1 = .ok (.getfield 12, 3) := by decide +kernel
theorem dX11_thick_4 : decode cX11_thick 4 = .ok (.iload_n 1, 1) := by decide +kernel
theorem dX11_thick_5 : decode cX11_thick 5 = .ok (.invokevirtual 100, 3) := by decide +kernel
theorem dX11_thick_8 : decode cX11_thick 8 = .ok (.astore_n 3, 1) := by decide +kernel
theorem dX11_thick_9 : decode cX11_thick 9 = .ok (.aload_n 3, 1) := by decide +kernel
theorem dX11_thick_10 : decode cX11_thick 10 = .ok (.ifnonnull 5, 3) := by decide +kernel
theorem dX11_thick_13 : decode cX11_thick 13 = .ok (.iconst (-1), 1) := by decide +kernel
theorem dX11_thick_14 : decode cX11_thick 14 = .ok (.ireturn, 1) := by decide +kernel
theorem dX11_thick_15 : decode cX11_thick 15 = .ok (.iload_n 2, 1) := by decide +kernel
theorem dX11_thick_16 : decode cX11_thick 16 = .ok (.invokestatic 85, 3) := by decide +kernel
theorem dX11_thick_19 : decode cX11_thick 19 = .ok (.ifCond .ne 6, 3) := by decide +kernel
theorem dX11_thick_22 : decode cX11_thick 22 = .ok (.bipush (-2), 2) := by decide +kernel
theorem dX11_thick_24 : decode cX11_thick 24 = .ok (.ireturn, 1) := by decide +kernel
theorem dX11_thick_25 : decode cX11_thick 25 = .ok (.aload_n 3, 1) := by decide +kernel
theorem dX11_thick_26 : decode cX11_thick 26 = .ok (.getfield 119, 3) := by decide +kernel
theorem dX11_thick_29 : decode cX11_thick 29 = .ok (.istore 4, 2) := by decide +kernel
theorem dX11_thick_31 : decode cX11_thick 31 = .ok (.aload_n 3, 1) := by decide +kernel
theorem dX11_thick_32 : decode cX11_thick 32 = .ok (.iload_n 2, 1) := by decide +kernel
theorem dX11_thick_33 : decode cX11_thick 33 = .ok (.putfield 119, 3) := by decide +kernel
theorem dX11_thick_36 : decode cX11_thick 36 = .ok (.iload 4, 2) := by decide +kernel
theorem dX11_thick_38 : decode cX11_thick 38 = .ok (.ireturn, 1) := by decide +kernel
theorem hd_X11_thick : yX11_thick.cls = RX11 ∧ yX11_thick.cls ≠ "java/lang/invoke/MethodHandle" ∧ yX11_thick.cls ≠ "java/lang/invoke/VarHandle" ∧ (parseMethodDescriptor yX11_thick.desc).map (fun d => d.parameters.length) = some 2 := by decide +kernel
abbrev rm_X11_thick : Room := { frames := 2, cells := 0, slots := 0, locals := 42 }
def F_X11_thick (N : Nat) (K len : Nat → Nat) (a1 : Int32) (a2 : Int32) (σ : SG) (ρ : RG) : Option (Int32 × SG) :=
  bn (F_X8_cutterAt_1 a1 σ ρ) fun o1 =>
  oc o1
   (
    some ((-1 : Int32), σ))
   (fun c2 =>
    gd (isC N K c2) <|
    bn (F_X11_isThick a2 σ ρ) fun r3 =>
    if r3 = 0 then
      some ((-2 : Int32), σ)
    else
      nm (s2 σ c2 4 a2) fun σ5 =>
      some ((σ c2 4), σ5))
set_option maxHeartbeats 4000000 in
set_option maxRecDepth 100000 in
theorem w_X11_thick_0 {N : Nat} {K len : Nat → Nat} {a1 : Int32} {a2 : Int32} {p : Program} {e : Env} {s : State} {m : MethodId} {args : Array Value} {below : List Frame} {meth : Method} {c : Code} {ρ0 : RG} {r : Int32} {σ1 : SG} (C : Cx Y D N ad p s m args meth c cX11_thick 5 (some .int) RX11 wsL_law) {σ : SG} {ρ : RG} {H : Heap} {locs : List Loc} {ls : Array Slot} (hρ0 : ρ = ρ0) (hL : Lay N K len ρ) (hF : F_X11_thick N K len a1 a2 σ ρ = some (r, σ1)) (hP : WP Y D N ad K len σ ρ H) (hS : va_S (AA N ad s.heap.size) s.heap H locs) (hl : lv_has ls 5 [(0, .ref (ad 0)), (1, .int a1), (2, .int a2)]) : W p l e rm_X11_thick s m args below meth c H locs 0 0 (MQ below (QW Y D N ad K len σ1 ρ0 (AA N ad s.heap.size) (some (.int r))) args s 0 0 (AA N ad s.heap.size)) (F0 m 0 ls []) := by
  have hx := C.1.1
  have hb := C.1.2.1
  unfold F_X11_thick at hF
  refine lv_aload_n hx hb dX11_thick_0 rfl (lv_at hl 0 rfl) ?_
  refine get_11_0 C hP (lr_0 hL) (lk_0 hL) inlX11 mw_15 (lf_0_0 hL) dX11_thick_1 ?_
  refine lv_iload_n hx hb dX11_thick_4 rfl (lv_at hl 1 rfl) ?_
  obtain ⟨o1, hq1, hF⟩ := bn_1 hF
  refine x_callV (ci := 8) rfl rfl C hP hS (c_X8_cutterAt_1 hL hq1) (lr_1 hL) (lk_1 hL) (cwV 1 C.1.2.2.2.2 (gdV mw_428 mw_429 mw_430 mw_14 mw_431) rfl rfl rfl hd_X8_cutterAt ⟨Nat.le_of_ble_eq_true rfl, Nat.le_of_ble_eq_true rfl⟩) rfl rfl hl.1 (Nat.le_of_ble_eq_true rfl) ⟨Nat.zero_le _, Nat.zero_le _⟩ dX11_thick_5 (fun H locs hP hS => ?_)
  rcases ho2 : o1 with _ | c2
  · have hF := oc_n hF ho2
    refine x_n ?_
    refine lv_astore_nN (lv' := [(3, .null), (0, .ref (ad 0)), (1, .int a1), (2, .int a2)]) hx hb dX11_thick_8 rfl hl (by decide) rfl (fun ls hl => ?_)
    refine lv_aload_nN hx hb dX11_thick_9 rfl (lv_at hl 0 rfl) ?_
    refine lv_ifnonnullN hx hb dX11_thick_10 ?_
    refine lv_iconst (v := -1) hx hb dX11_thick_13 (by decide) ?_
    obtain ⟨rfl, rfl⟩ := ret_2 hF
    subst hρ0
    exact x_iret rfl C hP hS dX11_thick_14
  · have hF := oc_s hF ho2
    refine x_s ?_
    obtain ⟨gc2, hF⟩ := gd_1 hF
    refine lv_astore_n (lv' := [(3, .ref (ad c2)), (0, .ref (ad 0)), (1, .int a1), (2, .int a2)]) hx hb dX11_thick_8 rfl hl (by decide) rfl (fun ls hl => ?_)
    refine lv_aload_n hx hb dX11_thick_9 rfl (lv_at hl 0 rfl) ?_
    refine lv_ifnonnull (tgt := 15) hx hb dX11_thick_10 (by decide) ?_
    refine lv_iload_n hx hb dX11_thick_15 rfl (lv_at hl 3 rfl) ?_
    obtain ⟨r3, hq3, hF⟩ := bn_1 hF
    refine x_callS C hP hS (c_X11_isThick hL hq3) (va_cwS 1 C.1.2.2.2.2 (gdS mw_354 mw_355 mw_2 mw_356) rfl rfl rfl hd_X11_isThick.2 ⟨Nat.le_of_ble_eq_true rfl, Nat.le_of_ble_eq_true rfl⟩) rfl rfl hl.1 (Nat.le_of_ble_eq_true rfl) ⟨Nat.zero_le _, Nat.zero_le _⟩ dX11_thick_16 (fun H locs hP hS => ?_)
    refine lv_if_ne (tgt := 25) hx hb dX11_thick_19 (by decide) (fun c_4 => ?_) (fun c_4 => ?_) -- COND 4 rcases (Decidable.em (r3 = 0)).symm with c_4 | c_4
    · have hF := ite_f hF c_4
      refine lv_aload_n hx hb dX11_thick_25 rfl (lv_at hl 0 rfl) ?_
      refine get_ck_4 C hP (isC_r gc2) (isC_k gc2) mw_426 (Or.inl rfl) dX11_thick_26 ?_
      refine lv_istore (lv' := [(4, .int (σ c2 4)), (3, .ref (ad c2)), (0, .ref (ad 0)), (1, .int a1), (2, .int a2)]) hx hb dX11_thick_29 hl (by decide) rfl (fun ls hl => ?_)
      refine lv_aload_n hx hb dX11_thick_31 rfl (lv_at hl 1 rfl) ?_
      refine lv_iload_n hx hb dX11_thick_32 rfl (lv_at hl 4 rfl) ?_
      obtain ⟨σ5, eσ5, hF⟩ := nm_1 hF
      refine put_ck_4 C hP hS (isC_r gc2) (isC_k gc2) mw_426 eσ5 dX11_thick_33 (fun H locs hP hS => ?_)
      refine lv_iload hx hb dX11_thick_36 (lv_at hl 0 rfl) ?_
      obtain ⟨rfl, rfl⟩ := ret_2 hF
      subst hρ0
      exact x_iret rfl C hP hS dX11_thick_38
    · have hF := ite_t hF c_4
      refine lv_bipush (v := -2) hx hb dX11_thick_22 (by decide +kernel) ?_
      obtain ⟨rfl, rfl⟩ := ret_2 hF
      subst hρ0
      exact x_iret rfl C hP hS dX11_thick_24
set_option maxHeartbeats 4000000 in
set_option maxRecDepth 100000 in
theorem c_X11_thick {N : Nat} {K len : Nat → Nat} {a1 : Int32} {a2 : Int32} {r : Int32} {σ1 : SG} {σ : SG} {ρ : RG} (hL : Lay N K len ρ) (hF : F_X11_thick N K len a1 a2 σ ρ = some (r, σ1)) : MT l Y D N ad K len yX11_thick (Cond.code yX11_thick cX11_thick 5 (some .int) :: wsL_law) rm_X11_thick [.ref (ad 0), .int a1, .int a2] σ ρ (some (.int r)) σ1 ρ := by
  refine mt_of (cc := cX11_thick) (nL := 5) (ret := (some .int)) (by decide) (Nat.le_of_ble_eq_true rfl) ?_
  intro p e s m args below meth c ls C hnm hP hS hl
  exact w_X11_thick_0 C rfl hL hF hP hS hl

/-! CutCrooked.public int row(int, int, int);  -/
theorem dX11_row_0 : decode cX11_row 0 = .ok (.aload_n 0, 1) := by decide +kernel
theorem dX11_row_1 : decode cX11_row 1 = .ok (.getfield 12, 3) := by decide +kernel
theorem dX11_row_4 : decode cX11_row 4 = .ok (.iload_n 1, 1) := by decide +kernel
theorem dX11_row_5 : decode cX11_row 5 = .ok (.invokevirtual 100, 3) := by decide +kernel
theorem dX11_row_8 : decode cX11_row 8 = .ok (.astore 4, 2) := by decide +kernel
theorem dX11_row_10 : decode cX11_row 10 = .ok (.aload 4, 2) := by decide +kernel
theorem dX11_row_12 : decode cX11_row 12 = .ok (.ifnull 12, 3) := by decide +kernel
theorem dX11_row_15 : decode cX11_row 15 = .ok (.iload_n 2, 1) := by decide +kernel
theorem dX11_row_16 : decode cX11_row 16 = .ok (.iconst 0, 1) := by decide +kernel
theorem dX11_row_17 : decode cX11_row 17 = .ok (.iconst 3, 1) := by decide +kernel
theorem dX11_row_18 : decode cX11_row 18 = .ok (.invokestatic 56, 3) := by decide +kernel
theorem dX11_row_21 : decode cX11_row 21 = .ok (.ifCond .ne 5, 3) := by decide +kernel
theorem dX11_row_24 : decode cX11_row 24 = .ok (.iconst (-1), 1) := by decide +kernel
theorem dX11_row_25 : decode cX11_row 25 = .ok (.ireturn, 1) := by decide +kernel
theorem dX11_row_26 : decode cX11_row 26 = .ok (.iload_n 3, 1) := by decide +kernel
theorem dX11_row_27 : decode cX11_row 27 = .ok (.iconst 0, 1) := by decide +kernel
theorem dX11_row_28 : decode cX11_row 28 = .ok (.bipush 9, 2) := by decide +kernel
theorem dX11_row_30 : decode cX11_row 30 = .ok (.invokestatic 56, 3) := by decide +kernel
theorem dX11_row_33 : decode cX11_row 33 = .ok (.ifCond .ne 6, 3) := by decide +kernel
theorem dX11_row_36 : decode cX11_row 36 = .ok (.bipush (-2), 2) := by decide +kernel
theorem dX11_row_38 : decode cX11_row 38 = .ok (.ireturn, 1) := by decide +kernel
theorem dX11_row_39 : decode cX11_row 39 = .ok (.aload 4, 2) := by decide +kernel
theorem dX11_row_41 : decode cX11_row 41 = .ok (.instanceof 125, 3) := by decide +kernel
theorem dX11_row_44 : decode cX11_row 44 = .ok (.ifCond .ne 6, 3) := by decide +kernel
theorem dX11_row_47 : decode cX11_row 47 = .ok (.bipush (-3), 2) := by decide +kernel
theorem dX11_row_49 : decode cX11_row 49 = .ok (.ireturn, 1) := by decide +kernel
theorem dX11_row_50 : decode cX11_row 50 = .ok (.aload 4, 2) := by decide +kernel
theorem dX11_row_52 : decode cX11_row 52 = .ok (.checkcast 125, 3) := by decide +kernel
theorem dX11_row_55 : decode cX11_row 55 = .ok (.astore 5, 2) := by decide +kernel
theorem dX11_row_57 : decode cX11_row 57 = .ok (.aload 5, 2) := by decide +kernel
theorem dX11_row_59 : decode cX11_row 59 = .ok (.getfield 127, 3) := by decide +kernel
theorem dX11_row_62 : decode cX11_row 62 = .ok (.iload_n 2, 1) := by decide +kernel
theorem dX11_row_63 : decode cX11_row 63 = .ok (.iaload, 1) := by decide +kernel
theorem dX11_row_64 : decode cX11_row 64 = .ok (.istore 6, 2) := by decide +kernel
theorem dX11_row_66 : decode cX11_row 66 = .ok (.aload 5, 2) := by decide +kernel
theorem dX11_row_68 : decode cX11_row 68 = .ok (.getfield 127, 3) := by decide +kernel
theorem dX11_row_71 : decode cX11_row 71 = .ok (.iload_n 2, 1) := by decide +kernel
theorem dX11_row_72 : decode cX11_row 72 = .ok (.iload_n 3, 1) := by decide +kernel
theorem dX11_row_73 : decode cX11_row 73 = .ok (.iastore, 1) := by decide +kernel
theorem dX11_row_74 : decode cX11_row 74 = .ok (.iload 6, 2) := by decide +kernel
theorem dX11_row_76 : decode cX11_row 76 = .ok (.ireturn, 1) := by decide +kernel
theorem hd_X11_row : yX11_row.cls = RX11 ∧ yX11_row.cls ≠ "java/lang/invoke/MethodHandle" ∧ yX11_row.cls ≠ "java/lang/invoke/VarHandle" ∧ (parseMethodDescriptor yX11_row.desc).map (fun d => d.parameters.length) = some 3 := by decide +kernel
abbrev rm_X11_row : Room := { frames := 1, cells := 0, slots := 0, locals := 22 }
def F_X11_row (N : Nat) (K len : Nat → Nat) (a1 : Int32) (a2 : Int32) (a3 : Int32) (σ : SG) (ρ : RG) : Option (Int32 × SG) :=
  bn (F_X8_cutterAt_1 a1 σ ρ) fun o1 =>
  oc o1
   (
    some ((-1 : Int32), σ))
   (fun c2 =>
    gd (isC N K c2) <|
    bn (F_X11_isWithin a2 (0 : Int32) (3 : Int32) σ ρ) fun r3 =>
    if r3 = 0 then
      some ((-1 : Int32), σ)
    else
      bn (F_X11_isWithin a3 (0 : Int32) (9 : Int32) σ ρ) fun r5 =>
      if r5 = 0 then
        some ((-2 : Int32), σ)
      else
        if (io9 (K c2)) = 0 then
          some ((-3 : Int32), σ)
        else
          gd (K c2 == 9) <|
          gd (K c2 == 9) <|
          oc (ρ c2 6)
           (
            none)
           (fun c10 =>
            gd (isD N K len c10) <|
            gd (inb a2 4) <|
            gd (K c2 == 9) <|
            oc (ρ c2 6)
             (
              none)
             (fun c13 =>
              gd (isD N K len c13) <|
              gd (inb a2 4) <|
              nm (s2 σ c13 (a2).toNatClampNeg a3) fun σ16 =>
              some ((σ c10 (a2).toNatClampNeg), σ16))))
set_option maxHeartbeats 4000000 in
set_option maxRecDepth 100000 in
theorem w_X11_row_0 {N : Nat} {K len : Nat → Nat} {a1 : Int32} {a2 : Int32} {a3 : Int32} {p : Program} {e : Env} {s : State} {m : MethodId} {args : Array Value} {below : List Frame} {meth : Method} {c : Code} {ρ0 : RG} {r : Int32} {σ1 : SG} (C : Cx Y D N ad p s m args meth c cX11_row 7 (some .int) RX11 wsL_law) {σ : SG} {ρ : RG} {H : Heap} {locs : List Loc} {ls : Array Slot} (hρ0 : ρ = ρ0) (hL : Lay N K len ρ) (hF : F_X11_row N K len a1 a2 a3 σ ρ = some (r, σ1)) (hP : WP Y D N ad K len σ ρ H) (hS : va_S (AA N ad s.heap.size) s.heap H locs) (hl : lv_has ls 7 [(0, .ref (ad 0)), (1, .int a1), (2, .int a2), (3, .int a3)]) : W p l e rm_X11_row s m args below meth c H locs 0 0 (MQ below (QW Y D N ad K len σ1 ρ0 (AA N ad s.heap.size) (some (.int r))) args s 0 0 (AA N ad s.heap.size)) (F0 m 0 ls []) := by
  have hx := C.1.1
  have hb := C.1.2.1
  unfold F_X11_row at hF
  refine lv_aload_n hx hb dX11_row_0 rfl (lv_at hl 0 rfl) ?_
  refine get_11_0 C hP (lr_0 hL) (lk_0 hL) inlX11 mw_15 (lf_0_0 hL) dX11_row_1 ?_
  refine lv_iload_n hx hb dX11_row_4 rfl (lv_at hl 1 rfl) ?_
  obtain ⟨o1, hq1, hF⟩ := bn_1 hF
  refine x_callV (ci := 8) rfl rfl C hP hS (c_X8_cutterAt_1 hL hq1) (lr_1 hL) (lk_1 hL) (cwV 1 C.1.2.2.2.2 (gdV mw_428 mw_429 mw_430 mw_14 mw_431) rfl rfl rfl hd_X8_cutterAt ⟨Nat.le_of_ble_eq_true rfl, Nat.le_of_ble_eq_true rfl⟩) rfl rfl hl.1 (Nat.le_of_ble_eq_true rfl) ⟨Nat.zero_le _, Nat.zero_le _⟩ dX11_row_5 (fun H locs hP hS => ?_)
  rcases ho2 : o1 with _ | c2
  · have hF := oc_n hF ho2
    refine x_n ?_
    refine lv_astoreN (lv' := [(4, .null), (0, .ref (ad 0)), (1, .int a1), (2, .int a2), (3, .int a3)]) hx hb dX11_row_8 hl (by decide) rfl (fun ls hl => ?_)
    refine lv_aloadN hx hb dX11_row_10 (lv_at hl 0 rfl) ?_
    refine lv_ifnullN (tgt := 24) hx hb dX11_row_12 (by decide) ?_
    refine lv_iconst (v := -1) hx hb dX11_row_24 (by decide) ?_
    obtain ⟨rfl, rfl⟩ := ret_2 hF
    subst hρ0
    exact x_iret rfl C hP hS dX11_row_25
  · have hF := oc_s hF ho2
    refine x_s ?_
    obtain ⟨gc2, hF⟩ := gd_1 hF
    refine lv_astore (lv' := [(4, .ref (ad c2)), (0, .ref (ad 0)), (1, .int a1), (2, .int a2), (3, .int a3)]) hx hb dX11_row_8 hl (by decide) rfl (fun ls hl => ?_)
    refine lv_aload hx hb dX11_row_10 (lv_at hl 0 rfl) ?_
    refine lv_ifnull hx hb dX11_row_12 ?_
    refine lv_iload_n hx hb dX11_row_15 rfl (lv_at hl 3 rfl) ?_
    refine lv_iconst (v := 0) hx hb dX11_row_16 (by decide) ?_
    refine lv_iconst (v := 3) hx hb dX11_row_17 (by decide) ?_
    obtain ⟨r3, hq3, hF⟩ := bn_1 hF
    refine x_callS C hP hS (c_X11_isWithin hL hq3) (va_cwS 3 C.1.2.2.2.2 (gdS mw_97 mw_98 mw_2 mw_99) rfl rfl rfl hd_X11_isWithin.2 ⟨Nat.le_of_ble_eq_true rfl, Nat.le_of_ble_eq_true rfl⟩) rfl rfl hl.1 (Nat.le_of_ble_eq_true rfl) ⟨Nat.zero_le _, Nat.zero_le _⟩ dX11_row_18 (fun H locs hP hS => ?_)
    refine lv_if_ne (tgt := 26) hx hb dX11_row_21 (by decide) (fun c_4 => ?_) (fun c_4 => ?_) -- COND 4 rcases (Decidable.em (r3 = 0)).symm with c_4 | c_4
    · have hF := ite_f hF c_4
      refine lv_iload_n hx hb dX11_row_26 rfl (lv_at hl 4 rfl) ?_
      refine lv_iconst (v := 0) hx hb dX11_row_27 (by decide) ?_
      refine lv_bipush (v := 9) hx hb dX11_row_28 (by decide +kernel) ?_
      obtain ⟨r5, hq5, hF⟩ := bn_1 hF
      refine x_callS C hP hS (c_X11_isWithin hL hq5) (va_cwS 3 C.1.2.2.2.2 (gdS mw_97 mw_98 mw_2 mw_99) rfl rfl rfl hd_X11_isWithin.2 ⟨Nat.le_of_ble_eq_true rfl, Nat.le_of_ble_eq_true rfl⟩) rfl rfl hl.1 (Nat.le_of_ble_eq_true rfl) ⟨Nat.zero_le _, Nat.zero_le _⟩ dX11_row_30 (fun H locs hP hS => ?_)
      refine lv_if_ne (tgt := 39) hx hb dX11_row_33 (by decide) (fun c_6 => ?_) (fun c_6 => ?_) -- COND 6 rcases (Decidable.em (r5 = 0)).symm with c_6 | c_6
      · have hF := ite_f hF c_6
        refine lv_aload hx hb dX11_row_39 (lv_at hl 0 rfl) ?_
        refine x_inst9 C hP gc2 mw_375 dX11_row_41 ?_
        refine lv_if_ne (tgt := 50) hx hb dX11_row_44 (by decide) (fun c_7 => ?_) (fun c_7 => ?_) -- COND 7 rcases (Decidable.em ((io9 (K c2)) = 0)).symm with c_7 | c_7
        · have hF := ite_f hF c_7
          refine lv_aload hx hb dX11_row_50 (lv_at hl 0 rfl) ?_
          obtain ⟨gk8, hF⟩ := gd_1 hF
          have gk8 := beq_iff_eq.mp gk8
          refine x_cast9 C hP gc2 gk8 mw_375 dX11_row_52 ?_
          refine lv_astore (lv' := [(5, .ref (ad c2)), (4, .ref (ad c2)), (0, .ref (ad 0)), (1, .int a1), (2, .int a2), (3, .int a3)]) hx hb dX11_row_55 hl (by decide) rfl (fun ls hl => ?_)
          refine lv_aload hx hb dX11_row_57 (lv_at hl 0 rfl) ?_
          obtain ⟨gk9, hF⟩ := gd_1 hF
          have gk9 := beq_iff_eq.mp gk9
          refine geto_9_6 C hP (isC_r gc2) gk9 inlX9 mw_479 dX11_row_59 ?_
          rcases ho10 : (ρ c2 6) with _ | c10
          · have hF := oc_n hF ho10
            refine x_n ?_
            cases hF
          · have hF := oc_s hF ho10
            refine x_s ?_
            obtain ⟨gc10, hF⟩ := gd_1 hF
            refine lv_iload_n hx hb dX11_row_62 rfl (lv_at hl 4 rfl) ?_
            obtain ⟨g11, hF⟩ := gd_1 hF
            refine x_iald C hP (isD_r gc10) (isD_k gc10) (isD_n gc10) g11 dX11_row_63 ?_
            refine lv_istore (lv' := [(6, .int (σ c10 (a2).toNatClampNeg)), (5, .ref (ad c2)), (4, .ref (ad c2)), (0, .ref (ad 0)), (1, .int a1), (2, .int a2), (3, .int a3)]) hx hb dX11_row_64 hl (by decide) rfl (fun ls hl => ?_)
            refine lv_aload hx hb dX11_row_66 (lv_at hl 1 rfl) ?_
            obtain ⟨gk12, hF⟩ := gd_1 hF
            have gk12 := beq_iff_eq.mp gk12
            refine geto_9_6 C hP (isC_r gc2) gk12 inlX9 mw_479 dX11_row_68 ?_
            rcases ho13 : (ρ c2 6) with _ | c13
            · have hF := oc_n hF ho13
              refine x_n ?_
              cases hF
            · have hF := oc_s hF ho13
              refine x_s ?_
              obtain ⟨gc13, hF⟩ := gd_1 hF
              refine lv_iload_n hx hb dX11_row_71 rfl (lv_at hl 5 rfl) ?_
              refine lv_iload_n hx hb dX11_row_72 rfl (lv_at hl 6 rfl) ?_
              obtain ⟨g14, hF⟩ := gd_1 hF
              obtain ⟨σ16, eσ16, hF⟩ := nm_1 hF
              refine x_iast (σ1 := σ16) C hP hS (isD_r gc13) (isD_k gc13) (isD_n gc13) g14 eσ16 dX11_row_73 (fun H locs hP hS => ?_)
              refine lv_iload hx hb dX11_row_74 (lv_at hl 0 rfl) ?_
              obtain ⟨rfl, rfl⟩ := ret_2 hF
              subst hρ0
              exact x_iret rfl C hP hS dX11_row_76
        · have hF := ite_t hF c_7
          refine lv_bipush (v := -3) hx hb dX11_row_47 (by decide +kernel) ?_
          obtain ⟨rfl, rfl⟩ := ret_2 hF
          subst hρ0
          exact x_iret rfl C hP hS dX11_row_49
      · have hF := ite_t hF c_6
        refine lv_bipush (v := -2) hx hb dX11_row_36 (by decide +kernel) ?_
        obtain ⟨rfl, rfl⟩ := ret_2 hF
        subst hρ0
        exact x_iret rfl C hP hS dX11_row_38
    · have hF := ite_t hF c_4
      refine lv_iconst (v := -1) hx hb dX11_row_24 (by decide) ?_
      obtain ⟨rfl, rfl⟩ := ret_2 hF
      subst hρ0
      exact x_iret rfl C hP hS dX11_row_25
set_option maxHeartbeats 4000000 in
set_option maxRecDepth 100000 in
theorem c_X11_row {N : Nat} {K len : Nat → Nat} {a1 : Int32} {a2 : Int32} {a3 : Int32} {r : Int32} {σ1 : SG} {σ : SG} {ρ : RG} (hL : Lay N K len ρ) (hF : F_X11_row N K len a1 a2 a3 σ ρ = some (r, σ1)) : MT l Y D N ad K len yX11_row (Cond.code yX11_row cX11_row 7 (some .int) :: wsL_law) rm_X11_row [.ref (ad 0), .int a1, .int a2, .int a3] σ ρ (some (.int r)) σ1 ρ := by
  refine mt_of (cc := cX11_row) (nL := 7) (ret := (some .int)) (by decide) (Nat.le_of_ble_eq_true rfl) ?_
  intro p e s m args below meth c ls C hnm hP hS hl
  exact w_X11_row_0 C rfl hL hF hP hS hl

/-! CutCrooked.public int cut(int);  -/
theorem dX11_cut_0 : decode cX11_cut 0 = .ok (.aload_n 0, 1) := by decide +kernel
theorem dX11_cut_1 : decode cX11_cut 1 = .ok (.getfield 12, 3) := by decide +kernel
theorem dX11_cut_4 : decode cX11_cut 4 = .ok (.iload_n 1, 1) := by decide +kernel
theorem dX11_cut_5 : decode cX11_cut 5 = .ok (.invokevirtual 100, 3) := by decide +kernel
theorem dX11_cut_8 : decode cX11_cut 8 = .ok (.astore_n 2, 1) := by decide +kernel
theorem dX11_cut_9 : decode cX11_cut 9 = .ok (.aload_n 2, 1) := by decide +kernel
theorem dX11_cut_10 : decode cX11_cut 10 = .ok (.ifnonnull 5, 3) := by decide +kernel
theorem dX11_cut_13 : decode cX11_cut 13 = .ok (.iconst (-1), 1) := by decide +kernel
theorem dX11_cut_14 : decode cX11_cut 14 = .ok (.ireturn, 1) := by decide +kernel
theorem dX11_cut_15 : decode cX11_cut 15 = .ok (.aload_n 0, 1) := by decide +kernel
theorem dX11_cut_16 : decode cX11_cut 16 = .ok (.getfield 12, 3) := by decide +kernel
theorem dX11_cut_19 : decode cX11_cut 19 = .ok (.getfield 130, 3) := by decide +kernel
theorem dX11_cut_22 : decode cX11_cut 22 = .ok (.getfield 147, 3) := by decide +kernel
theorem dX11_cut_25 : decode cX11_cut 25 = .ok (.sipush 999, 3) := by decide +kernel
theorem dX11_cut_28 : decode cX11_cut 28 = .ok (.if_icmp .ge 30, 3) := by decide +kernel
theorem dX11_cut_31 : decode cX11_cut 31 = .ok (.aload_n 0, 1) := by decide +kernel
theorem dX11_cut_32 : decode cX11_cut 32 = .ok (.getfield 12, 3) := by decide +kernel
theorem dX11_cut_35 : decode cX11_cut 35 = .ok (.getfield 130, 3) := by decide +kernel
theorem dX11_cut_38 : decode cX11_cut 38 = .ok (.aload_n 2, 1) := by decide +kernel
theorem dX11_cut_39 : decode cX11_cut 39 = .ok (.aload_n 2, 1) := by decide +kernel
theorem dX11_cut_40 : decode cX11_cut 40 = .ok (.getfield 119, 3) := by decide +kernel
theorem dX11_cut_43 : decode cX11_cut 43 = .ok (.aload_n 0, 1) := by decide +kernel
theorem dX11_cut_44 : decode cX11_cut 44 = .ok (.getfield 12, 3) := by decide +kernel
theorem dX11_cut_47 : decode cX11_cut 47 = .ok (.getfield 78, 3) := by decide +kernel
theorem dX11_cut_50 : decode cX11_cut 50 = .ok (.iconst 0, 1) := by decide +kernel
theorem dX11_cut_51 : decode cX11_cut 51 = .ok (.iconst 0, 1) := by decide +kernel
theorem dX11_cut_52 : decode cX11_cut 52 = .ok (.invokevirtual 163, 3) := by decide +kernel
theorem dX11_cut_55 : decode cX11_cut 55 = .ok (.ifCond .ne 6, 3) := by decide +kernel
theorem dX11_cut_58 : decode cX11_cut 58 = .ok (.bipush (-3), 2) := by decide +kernel
theorem dX11_cut_60 : decode cX11_cut 60 = .ok (.ireturn, 1) := by decide +kernel
theorem dX11_cut_61 : decode cX11_cut 61 = .ok (.aload_n 2, 1) := by decide +kernel
theorem dX11_cut_62 : decode cX11_cut 62 = .ok (.dup, 1) := by decide +kernel
theorem dX11_cut_63 : decode cX11_cut 63 = .ok (.getfield 122, 3) := by decide +kernel
theorem dX11_cut_66 : decode cX11_cut 66 = .ok (.aload_n 0, 1) := by decide +kernel
theorem dX11_cut_67 : decode cX11_cut 67 = .ok (.getfield 12, 3) := by decide +kernel
theorem dX11_cut_70 : decode cX11_cut 70 = .ok (.getfield 130, 3) := by decide +kernel
theorem dX11_cut_73 : decode cX11_cut 73 = .ok (.getfield 167, 3) := by decide +kernel
theorem dX11_cut_76 : decode cX11_cut 76 = .ok (.iadd, 1) := by decide +kernel
theorem dX11_cut_77 : decode cX11_cut 77 = .ok (.putfield 122, 3) := by decide +kernel
theorem dX11_cut_80 : decode cX11_cut 80 = .ok (.aload_n 0, 1) := by decide +kernel
theorem dX11_cut_81 : decode cX11_cut 81 = .ok (.getfield 12, 3) := by decide +kernel
theorem dX11_cut_84 : decode cX11_cut 84 = .ok (.getfield 130, 3) := by decide +kernel
theorem dX11_cut_87 : decode cX11_cut 87 = .ok (.getfield 167, 3) := by decide +kernel
theorem dX11_cut_90 : decode cX11_cut 90 = .ok (.ireturn, 1) := by decide +kernel
theorem hd_X11_cut : yX11_cut.cls = RX11 ∧ yX11_cut.cls ≠ "java/lang/invoke/MethodHandle" ∧ yX11_cut.cls ≠ "java/lang/invoke/VarHandle" ∧ (parseMethodDescriptor yX11_cut.desc).map (fun d => d.parameters.length) = some 1 := by decide +kernel
abbrev rm_X11_cut : Room := { frames := 5, cells := 0, slots := 0, locals := 129 }
def F_X11_cut (N : Nat) (K len : Nat → Nat) (a1 : Int32) (σ : SG) (ρ : RG) : Option (Int32 × SG) :=
  bn (F_X8_cutterAt_1 a1 σ ρ) fun o1 =>
  oc o1
   (
    some ((-1 : Int32), σ))
   (fun c2 =>
    gd (isC N K c2) <|
    if (999 : Int32) ≤ (σ 3 4) then
      some ((-3 : Int32), σ)
    else
      bn2 (F_X3_tryCut N K len 3 c2 (σ c2 4) (0 : Int32) (0 : Int32) σ ρ) fun r4 σ4 =>
      if r4 = 0 then
        some ((-3 : Int32), σ4)
      else
        nm ((σ4 c2 5) + (σ4 3 6)) fun x6 =>
        nm (s2 σ4 c2 5 x6) fun σ7 =>
        some ((σ7 3 6), σ7))
set_option maxHeartbeats 4000000 in
set_option maxRecDepth 100000 in
theorem w_X11_cut_0 {N : Nat} {K len : Nat → Nat} {a1 : Int32} {p : Program} {e : Env} {s : State} {m : MethodId} {args : Array Value} {below : List Frame} {meth : Method} {c : Code} {ρ0 : RG} {r : Int32} {σ1 : SG} (C : Cx Y D N ad p s m args meth c cX11_cut 3 (some .int) RX11 wsL_law) {σ : SG} {ρ : RG} {H : Heap} {locs : List Loc} {ls : Array Slot} (hρ0 : ρ = ρ0) (hL : Lay N K len ρ) (hF : F_X11_cut N K len a1 σ ρ = some (r, σ1)) (hP : WP Y D N ad K len σ ρ H) (hS : va_S (AA N ad s.heap.size) s.heap H locs) (hl : lv_has ls 3 [(0, .ref (ad 0)), (1, .int a1)]) : W p l e rm_X11_cut s m args below meth c H locs 0 0 (MQ below (QW Y D N ad K len σ1 ρ0 (AA N ad s.heap.size) (some (.int r))) args s 0 0 (AA N ad s.heap.size)) (F0 m 0 ls []) := by
  have hx := C.1.1
  have hb := C.1.2.1
  unfold F_X11_cut at hF
  refine lv_aload_n hx hb dX11_cut_0 rfl (lv_at hl 0 rfl) ?_
  refine get_11_0 C hP (lr_0 hL) (lk_0 hL) inlX11 mw_15 (lf_0_0 hL) dX11_cut_1 ?_
  refine lv_iload_n hx hb dX11_cut_4 rfl (lv_at hl 1 rfl) ?_
  obtain ⟨o1, hq1, hF⟩ := bn_1 hF
  refine x_callV (ci := 8) rfl rfl C hP hS (c_X8_cutterAt_1 hL hq1) (lr_1 hL) (lk_1 hL) (cwV 1 C.1.2.2.2.2 (gdV mw_428 mw_429 mw_430 mw_14 mw_431) rfl rfl rfl hd_X8_cutterAt ⟨Nat.le_of_ble_eq_true rfl, Nat.le_of_ble_eq_true rfl⟩) rfl rfl hl.1 (Nat.le_of_ble_eq_true rfl) ⟨Nat.zero_le _, Nat.zero_le _⟩ dX11_cut_5 (fun H locs hP hS => ?_)
  rcases ho2 : o1 with _ | c2
  · have hF := oc_n hF ho2
    refine x_n ?_
    refine lv_astore_nN (lv' := [(2, .null), (0, .ref (ad 0)), (1, .int a1)]) hx hb dX11_cut_8 rfl hl (by decide) rfl (fun ls hl => ?_)
    refine lv_aload_nN hx hb dX11_cut_9 rfl (lv_at hl 0 rfl) ?_
    refine lv_ifnonnullN hx hb dX11_cut_10 ?_
    refine lv_iconst (v := -1) hx hb dX11_cut_13 (by decide) ?_
    obtain ⟨rfl, rfl⟩ := ret_2 hF
    subst hρ0
    exact x_iret rfl C hP hS dX11_cut_14
  · have hF := oc_s hF ho2
    refine x_s ?_
    obtain ⟨gc2, hF⟩ := gd_1 hF
    refine lv_astore_n (lv' := [(2, .ref (ad c2)), (0, .ref (ad 0)), (1, .int a1)]) hx hb dX11_cut_8 rfl hl (by decide) rfl (fun ls hl => ?_)
    refine lv_aload_n hx hb dX11_cut_9 rfl (lv_at hl 0 rfl) ?_
    refine lv_ifnonnull (tgt := 15) hx hb dX11_cut_10 (by decide) ?_
    refine lv_aload_n hx hb dX11_cut_15 rfl (lv_at hl 1 rfl) ?_
    refine get_11_0 C hP (lr_0 hL) (lk_0 hL) inlX11 mw_15 (lf_0_0 hL) dX11_cut_16 ?_
    refine get_8_2 C hP (lr_1 hL) (lk_1 hL) inlX8 mw_488 (lf_1_2 hL) dX11_cut_19 ?_
    refine get_3_4 C hP (lr_3 hL) (lk_3 hL) inlX3 mw_502 dX11_cut_22 ?_
    refine lv_sipush (v := 999) hx hb dX11_cut_25 (by decide +kernel) ?_
    refine lv_icmp_ge (tgt := 58) hx hb dX11_cut_28 (by decide) (fun c_3 => ?_) (fun c_3 => ?_) -- COND 3 by_cases c_3 : (999 : Int32) ≤ (σ 3 4)
    · have hF := ite_t hF c_3
      refine lv_bipush (v := -3) hx hb dX11_cut_58 (by decide +kernel) ?_
      obtain ⟨rfl, rfl⟩ := ret_2 hF
      subst hρ0
      exact x_iret rfl C hP hS dX11_cut_60
    · have hF := ite_f hF c_3
      refine lv_aload_n hx hb dX11_cut_31 rfl (lv_at hl 1 rfl) ?_
      refine get_11_0 C hP (lr_0 hL) (lk_0 hL) inlX11 mw_15 (lf_0_0 hL) dX11_cut_32 ?_
      refine get_8_2 C hP (lr_1 hL) (lk_1 hL) inlX8 mw_488 (lf_1_2 hL) dX11_cut_35 ?_
      refine lv_aload_n hx hb dX11_cut_38 rfl (lv_at hl 0 rfl) ?_
      refine lv_aload_n hx hb dX11_cut_39 rfl (lv_at hl 0 rfl) ?_
      refine get_ck_4 C hP (isC_r gc2) (isC_k gc2) mw_426 (Or.inl rfl) dX11_cut_40 ?_
      refine lv_aload_n hx hb dX11_cut_43 rfl (lv_at hl 1 rfl) ?_
      refine get_11_0 C hP (lr_0 hL) (lk_0 hL) inlX11 mw_15 (lf_0_0 hL) dX11_cut_44 ?_
      refine get_8_3 C hP (lr_1 hL) (lk_1 hL) inlX8 mw_113 (lf_1_3 hL) dX11_cut_47 ?_
      refine lv_iconst (v := 0) hx hb dX11_cut_50 (by decide) ?_
      refine lv_iconst (v := 0) hx hb dX11_cut_51 (by decide) ?_
      obtain ⟨r4, σ4, hq4, hF⟩ := bn2_1 hF
      refine x_callV (ci := 3) rfl rfl C hP hS (c_X3_tryCut hL (il_3 hL) gc2 hq4) (lr_3 hL) (lk_3 hL) (cwV 5 C.1.2.2.2.2 (gdV mw_529 mw_530 mw_531 mw_31 mw_532) rfl rfl rfl hd_X3_tryCut ⟨Nat.le_of_ble_eq_true rfl, Nat.le_of_ble_eq_true rfl⟩) rfl rfl hl.1 (Nat.le_of_ble_eq_true rfl) ⟨Nat.zero_le _, Nat.zero_le _⟩ dX11_cut_52 (fun H locs hP hS => ?_)
      refine lv_if_ne (tgt := 61) hx hb dX11_cut_55 (by decide) (fun c_5 => ?_) (fun c_5 => ?_) -- COND 5 rcases (Decidable.em (r4 = 0)).symm with c_5 | c_5
      · have hF := ite_f hF c_5
        refine lv_aload_n hx hb dX11_cut_61 rfl (lv_at hl 0 rfl) ?_
        refine lv_dup hx hb dX11_cut_62 rfl ?_
        refine get_ck_5 C hP (isC_r gc2) (isC_k gc2) mw_427 (Or.inl rfl) dX11_cut_63 ?_
        refine lv_aload_n hx hb dX11_cut_66 rfl (lv_at hl 1 rfl) ?_
        refine get_11_0 C hP (lr_0 hL) (lk_0 hL) inlX11 mw_15 (lf_0_0 hL) dX11_cut_67 ?_
        refine get_8_2 C hP (lr_1 hL) (lk_1 hL) inlX8 mw_488 (lf_1_2 hL) dX11_cut_70 ?_
        refine get_3_6 C hP (lr_3 hL) (lk_3 hL) inlX3 mw_528 dX11_cut_73 ?_
        refine lv_iadd hx hb dX11_cut_76 ?_
        obtain ⟨x6, ex6, hF⟩ := nm_1 hF
        refine x_top ex6 ?_
        obtain ⟨σ7, eσ7, hF⟩ := nm_1 hF
        refine put_ck_5 C hP hS (isC_r gc2) (isC_k gc2) mw_427 eσ7 dX11_cut_77 (fun H locs hP hS => ?_)
        refine lv_aload_n hx hb dX11_cut_80 rfl (lv_at hl 1 rfl) ?_
        refine get_11_0 C hP (lr_0 hL) (lk_0 hL) inlX11 mw_15 (lf_0_0 hL) dX11_cut_81 ?_
        refine get_8_2 C hP (lr_1 hL) (lk_1 hL) inlX8 mw_488 (lf_1_2 hL) dX11_cut_84 ?_
        refine get_3_6 C hP (lr_3 hL) (lk_3 hL) inlX3 mw_528 dX11_cut_87 ?_
        obtain ⟨rfl, rfl⟩ := ret_2 hF
        subst hρ0
        exact x_iret rfl C hP hS dX11_cut_90
      · have hF := ite_t hF c_5
        refine lv_bipush (v := -3) hx hb dX11_cut_58 (by decide +kernel) ?_
        obtain ⟨rfl, rfl⟩ := ret_2 hF
        subst hρ0
        exact x_iret rfl C hP hS dX11_cut_60
set_option maxHeartbeats 4000000 in
set_option maxRecDepth 100000 in
theorem c_X11_cut {N : Nat} {K len : Nat → Nat} {a1 : Int32} {r : Int32} {σ1 : SG} {σ : SG} {ρ : RG} (hL : Lay N K len ρ) (hF : F_X11_cut N K len a1 σ ρ = some (r, σ1)) : MT l Y D N ad K len yX11_cut (Cond.code yX11_cut cX11_cut 3 (some .int) :: wsL_law) rm_X11_cut [.ref (ad 0), .int a1] σ ρ (some (.int r)) σ1 ρ := by
  refine mt_of (cc := cX11_cut) (nL := 3) (ret := (some .int)) (by decide) (Nat.le_of_ble_eq_true rfl) ?_
  intro p e s m args below meth c ls C hnm hP hS hl
  exact w_X11_cut_0 C rfl hL hF hP hS hl

/-! CutCrooked.private boolean tryStep(int, CutCrooked$Cutter, int);  -/
theorem dX11_tryStep_0 : decode cX11_tryStep 0 = .ok (.aload_n 2, 1) := by decide +kernel
theorem dX11_tryStep_1 : decode cX11_tryStep 1 = .ok (.ifnull 18, 3) := by decide +kernel
theorem dX11_tryStep_4 : decode cX11_tryStep 4 = .ok (.iload_n 1, 1) := by decide +kernel
theorem dX11_tryStep_5 : decode cX11_tryStep 5 = .ok (.ifCond .lt 14, 3) := by decide +kernel
theorem dX11_tryStep_8 : decode cX11_tryStep 8 = .ok (.iload_n 1, 1) := by decide +kernel
theorem dX11_tryStep_9 : decode cX11_tryStep 9 = .ok (.iconst 1, 1) := by decide +kernel
theorem dX11_tryStep_10 : decode cX11_tryStep 10 = .ok (.iadd, 1) := by decide +kernel
theorem dX11_tryStep_11 : decode cX11_tryStep 11 = .ok (.aload_n 0, 1) := by decide +kernel
theorem dX11_tryStep_12 : decode cX11_tryStep 12 = .ok (.getfield 37, 3) := by decide +kernel
theorem dX11_tryStep_15 : decode cX11_tryStep 15 = .ok (.arraylength, 1) := by decide +kernel
theorem dX11_tryStep_16 : decode cX11_tryStep 16 = .ok (.if_icmp .lt 5, 3) := by decide +kernel
theorem dX11_tryStep_19 : decode cX11_tryStep 19 = .ok (.iconst 0, 1) := by decide +kernel
theorem dX11_tryStep_20 : decode cX11_tryStep 20 = .ok (.ireturn, 1) := by decide +kernel
theorem dX11_tryStep_21 : decode cX11_tryStep 21 = .ok (.aload_n 0, 1) := by decide +kernel
theorem dX11_tryStep_22 : decode cX11_tryStep 22 = .ok (.getfield 37, 3) := by decide +kernel
theorem dX11_tryStep_25 : decode cX11_tryStep 25 = .ok (.iload_n 1, 1) := by decide +kernel
theorem dX11_tryStep_26 : decode cX11_tryStep 26 = .ok (.iconst 1, 1) := by decide +kernel
theorem dX11_tryStep_27 : decode cX11_tryStep 27 = .ok (.iadd, 1) := by decide +kernel
theorem dX11_tryStep_28 : decode cX11_tryStep 28 = .ok (.aaload, 1) := by decide +kernel
theorem dX11_tryStep_29 : decode cX11_tryStep 29 = .ok (.aload_n 0, 1) := by decide +kernel
theorem dX11_tryStep_30 : decode cX11_tryStep 30 = .ok (.getfield 37, 3) := by decide +kernel
theorem dX11_tryStep_33 : decode cX11_tryStep 33 = .ok (.iload_n 1, 1) := by decide +kernel
theorem dX11_tryStep_34 : decode cX11_tryStep 34 = .ok (.aaload, 1) := by decide +kernel
theorem dX11_tryStep_35 : decode cX11_tryStep 35 = .ok (.invokevirtual 217, 3) := by decide +kernel
theorem dX11_tryStep_38 : decode cX11_tryStep 38 = .ok (.aload_n 0, 1) := by decide +kernel
theorem dX11_tryStep_39 : decode cX11_tryStep 39 = .ok (.getfield 37, 3) := by decide +kernel
theorem dX11_tryStep_42 : decode cX11_tryStep 42 = .ok (.iload_n 1, 1) := by decide +kernel
theorem dX11_tryStep_43 : decode cX11_tryStep 43 = .ok (.iconst 1, 1) := by decide +kernel
theorem dX11_tryStep_44 : decode cX11_tryStep 44 = .ok (.iadd, 1) := by decide +kernel
theorem dX11_tryStep_45 : decode cX11_tryStep 45 = .ok (.aaload, 1) := by decide +kernel
theorem dX11_tryStep_46 : decode cX11_tryStep 46 = .ok (.aload_n 2, 1) := by decide +kernel
theorem dX11_tryStep_47 : decode cX11_tryStep 47 = .ok (.iload_n 3, 1) := by decide +kernel
theorem dX11_tryStep_48 : decode cX11_tryStep 48 = .ok (.ifCond .ne 10, 3) := by decide +kernel
theorem dX11_tryStep_51 : decode cX11_tryStep 51 = .ok (.aload_n 2, 1) := by decide +kernel
theorem dX11_tryStep_52 : decode cX11_tryStep 52 = .ok (.getfield 119, 3) := by decide +kernel
theorem dX11_tryStep_55 : decode cX11_tryStep 55 = .ok (.goto 4, 3) := by decide +kernel
theorem dX11_tryStep_58 : decode cX11_tryStep 58 = .ok (.iload_n 3, 1) := by decide +kernel
theorem dX11_tryStep_59 : decode cX11_tryStep 59 = .ok (.aload_n 0, 1) := by decide +kernel
theorem dX11_tryStep_60 : decode cX11_tryStep 60 = .ok (.getfield 12, 3) := by decide +kernel
theorem dX11_tryStep_63 : decode cX11_tryStep 63 = .ok (.getfield 78, 3) := by decide +kernel
theorem dX11_tryStep_66 : decode cX11_tryStep 66 = .ok (.iconst 0, 1) := by decide +kernel
theorem dX11_tryStep_67 : decode cX11_tryStep 67 = .ok (.iconst 0, 1) := by decide +kernel
theorem dX11_tryStep_68 : decode cX11_tryStep 68 = .ok (.invokevirtual 163, 3) := by decide +kernel
theorem dX11_tryStep_71 : decode cX11_tryStep 71 = .ok (.ireturn, 1) := by decide +kernel
theorem hd_X11_tryStep : yX11_tryStep.cls = RX11 ∧ yX11_tryStep.cls ≠ "java/lang/invoke/MethodHandle" ∧ yX11_tryStep.cls ≠ "java/lang/invoke/VarHandle" ∧ (parseMethodDescriptor yX11_tryStep.desc).map (fun d => d.parameters.length) = some 3 := by decide +kernel
abbrev rm_X11_tryStep : Room := { frames := 5, cells := 0, slots := 0, locals := 129 }
def F_X11_tryStep_59 (N : Nat) (K len : Nat → Nat) (a1 : Int32) (z : Nat) (a3 : Int32) (σ : SG) (ρ : RG) (q0 : Nat) (q1 : Nat) (k2 : Int32) : Option (Int32 × SG) :=
  gd (isLb q0) <|
  gd (isC N K q1) <|
  bn2 (F_X3_tryCut N K len q0 q1 k2 (0 : Int32) (0 : Int32) σ ρ) fun r14 σ14 =>
  gd (isb r14) <|
  some (r14, σ14)
def F_X11_tryStep (N : Nat) (K len : Nat → Nat) (a1 : Int32) (z : Nat) (a3 : Int32) (σ : SG) (ρ : RG) : Option (Int32 × SG) :=
  if a1 < 0 then
    some ((0 : Int32), σ)
  else
    nm (a1 + (1 : Int32)) fun x2 =>
    if x2 < (7 : Int32) then
      nm (a1 + (1 : Int32)) fun x4 =>
      gd (inb x4 7) <|
      oc (ρ 34 (x4).toNatClampNeg)
       (
        none)
       (fun c6 =>
        gd (isLb c6) <|
        gd (inb a1 7) <|
        oc (ρ 34 (a1).toNatClampNeg)
         (
          none)
         (fun c8 =>
          gd (isLb c8) <|
          bn (F_X3_takes c6 c8 σ ρ) fun σ9 =>
          nm (a1 + (1 : Int32)) fun x10 =>
          gd (inb x10 7) <|
          oc (ρ 34 (x10).toNatClampNeg)
           (
            none)
           (fun c12 =>
            gd (isLb c12) <|
            if a3 = 0 then
              F_X11_tryStep_59 N K len a1 z a3 σ9 ρ c12 z (σ9 z 4)
            else
              F_X11_tryStep_59 N K len a1 z a3 σ9 ρ c12 z a3)))
    else
      some ((0 : Int32), σ)
set_option maxHeartbeats 4000000 in
set_option maxRecDepth 100000 in
theorem w_X11_tryStep_59 {N : Nat} {K len : Nat → Nat} {a1 : Int32} {z : Nat} {a3 : Int32} {p : Program} {e : Env} {s : State} {m : MethodId} {args : Array Value} {below : List Frame} {meth : Method} {c : Code} {ρ0 : RG} {r : Int32} {σ1 : SG} (C : Cx Y D N ad p s m args meth c cX11_tryStep 4 (some .boolean) RX11 wsL_law) {σ : SG} {ρ : RG} {q0 : Nat} {q1 : Nat} {k2 : Int32} {H : Heap} {locs : List Loc} {ls : Array Slot} (hρ0 : ρ = ρ0) (hL : Lay N K len ρ) (hz : isC N K z = true) (hF : F_X11_tryStep_59 N K len a1 z a3 σ ρ q0 q1 k2 = some (r, σ1)) (hP : WP Y D N ad K len σ ρ H) (hS : va_S (AA N ad s.heap.size) s.heap H locs) (hl : lv_has ls 4 [(0, .ref (ad 0))]) : W p l e rm_X11_tryStep s m args below meth c H locs 0 0 (MQ below (QW Y D N ad K len σ1 ρ0 (AA N ad s.heap.size) (some (.int r))) args s 0 0 (AA N ad s.heap.size)) (F0 m 59 ls [.int k2, .ref (ad q1), .ref (ad q0)]) := by
  have hx := C.1.1
  have hb := C.1.2.1
  unfold F_X11_tryStep_59 at hF
  obtain ⟨gq0, hF⟩ := gd_1 hF
  obtain ⟨gq1, hF⟩ := gd_1 hF
  refine lv_aload_n hx hb dX11_tryStep_59 rfl (lv_at hl 0 rfl) ?_
  refine get_11_0 C hP (lr_0 hL) (lk_0 hL) inlX11 mw_15 (lf_0_0 hL) dX11_tryStep_60 ?_
  refine get_8_3 C hP (lr_1 hL) (lk_1 hL) inlX8 mw_113 (lf_1_3 hL) dX11_tryStep_63 ?_
  refine lv_iconst (v := 0) hx hb dX11_tryStep_66 (by decide) ?_
  refine lv_iconst (v := 0) hx hb dX11_tryStep_67 (by decide) ?_
  obtain ⟨r14, σ14, hq14, hF⟩ := bn2_1 hF
  refine x_callV (ci := 3) rfl rfl C hP hS (c_X3_tryCut hL (il_of hL gq0) gq1 hq14) (il_of hL gq0).1 (il_of hL gq0).2.1 (cwV 5 C.1.2.2.2.2 (gdV mw_529 mw_530 mw_531 mw_31 mw_532) rfl rfl rfl hd_X3_tryCut ⟨Nat.le_of_ble_eq_true rfl, Nat.le_of_ble_eq_true rfl⟩) rfl rfl hl.1 (Nat.le_of_ble_eq_true rfl) ⟨Nat.zero_le _, Nat.zero_le _⟩ dX11_tryStep_68 (fun H locs hP hS => ?_)
  obtain ⟨gr, hF⟩ := gd_1 hF
  obtain ⟨rfl, rfl⟩ := ret_2 hF
  subst hρ0
  exact x_zret rfl gr C hP hS dX11_tryStep_71
set_option maxHeartbeats 4000000 in
set_option maxRecDepth 100000 in
theorem w_X11_tryStep_0 {N : Nat} {K len : Nat → Nat} {a1 : Int32} {z : Nat} {a3 : Int32} {p : Program} {e : Env} {s : State} {m : MethodId} {args : Array Value} {below : List Frame} {meth : Method} {c : Code} {ρ0 : RG} {r : Int32} {σ1 : SG} (C : Cx Y D N ad p s m args meth c cX11_tryStep 4 (some .boolean) RX11 wsL_law) {σ : SG} {ρ : RG} {H : Heap} {locs : List Loc} {ls : Array Slot} (hρ0 : ρ = ρ0) (hL : Lay N K len ρ) (hz : isC N K z = true) (hF : F_X11_tryStep N K len a1 z a3 σ ρ = some (r, σ1)) (hP : WP Y D N ad K len σ ρ H) (hS : va_S (AA N ad s.heap.size) s.heap H locs) (hl : lv_has ls 4 [(0, .ref (ad 0)), (1, .int a1), (2, .ref (ad z)), (3, .int a3)]) : W p l e rm_X11_tryStep s m args below meth c H locs 0 0 (MQ below (QW Y D N ad K len σ1 ρ0 (AA N ad s.heap.size) (some (.int r))) args s 0 0 (AA N ad s.heap.size)) (F0 m 0 ls []) := by
  have hx := C.1.1
  have hb := C.1.2.1
  unfold F_X11_tryStep at hF
  refine lv_aload_n hx hb dX11_tryStep_0 rfl (lv_at hl 2 rfl) ?_
  refine lv_ifnull hx hb dX11_tryStep_1 ?_
  refine lv_iload_n hx hb dX11_tryStep_4 rfl (lv_at hl 1 rfl) ?_
  refine lv_if_lt (tgt := 19) hx hb dX11_tryStep_5 (by decide) (fun c_1 => ?_) (fun c_1 => ?_) -- COND 1 by_cases c_1 : a1 < 0
  · have hF := ite_t hF c_1
    refine lv_iconst (v := 0) hx hb dX11_tryStep_19 (by decide) ?_
    obtain ⟨rfl, rfl⟩ := ret_2 hF
    subst hρ0
    exact x_zret rfl rfl C hP hS dX11_tryStep_20
  · have hF := ite_f hF c_1
    refine lv_iload_n hx hb dX11_tryStep_8 rfl (lv_at hl 1 rfl) ?_
    refine lv_iconst (v := 1) hx hb dX11_tryStep_9 (by decide) ?_
    refine lv_iadd hx hb dX11_tryStep_10 ?_
    obtain ⟨x2, ex2, hF⟩ := nm_1 hF
    refine x_top ex2 ?_
    refine lv_aload_n hx hb dX11_tryStep_11 rfl (lv_at hl 0 rfl) ?_
    refine get_11_5 C hP (lr_0 hL) (lk_0 hL) inlX11 mw_26 (lf_0_5 hL) dX11_tryStep_12 ?_
    refine x_alen (v := (7 : Int32)) C hP (lr_34 hL) (lk_34 hL) (by decide) (ln_34 hL) (by decide +kernel) dX11_tryStep_15 ?_
    refine lv_icmp_lt (tgt := 21) hx hb dX11_tryStep_16 (by decide) (fun c_3 => ?_) (fun c_3 => ?_) -- COND 3 by_cases c_3 : x2 < (7 : Int32)
    · have hF := ite_t hF c_3
      refine lv_aload_n hx hb dX11_tryStep_21 rfl (lv_at hl 0 rfl) ?_
      refine get_11_5 C hP (lr_0 hL) (lk_0 hL) inlX11 mw_26 (lf_0_5 hL) dX11_tryStep_22 ?_
      refine lv_iload_n hx hb dX11_tryStep_25 rfl (lv_at hl 1 rfl) ?_
      refine lv_iconst (v := 1) hx hb dX11_tryStep_26 (by decide) ?_
      refine lv_iadd hx hb dX11_tryStep_27 ?_
      obtain ⟨x4, ex4, hF⟩ := nm_1 hF
      refine x_top ex4 ?_
      obtain ⟨g5, hF⟩ := gd_1 hF
      refine x_aald (v := rf ad (ρ 34 (x4).toNatClampNeg)) C hP (lr_34 hL) (lk_34 hL) (Or.inr ⟨rfl, rfl, rfl⟩) (ln_34 hL) g5 rfl dX11_tryStep_28 ?_
      rcases ho6 : (ρ 34 (x4).toNatClampNeg) with _ | c6
      · have hF := oc_n hF ho6
        refine x_n ?_
        cases hF
      · have hF := oc_s hF ho6
        refine x_s ?_
        obtain ⟨gc6, hF⟩ := gd_1 hF
        refine lv_aload_n hx hb dX11_tryStep_29 rfl (lv_at hl 0 rfl) ?_
        refine get_11_5 C hP (lr_0 hL) (lk_0 hL) inlX11 mw_26 (lf_0_5 hL) dX11_tryStep_30 ?_
        refine lv_iload_n hx hb dX11_tryStep_33 rfl (lv_at hl 1 rfl) ?_
        obtain ⟨g7, hF⟩ := gd_1 hF
        refine x_aald (v := rf ad (ρ 34 (a1).toNatClampNeg)) C hP (lr_34 hL) (lk_34 hL) (Or.inr ⟨rfl, rfl, rfl⟩) (ln_34 hL) g7 rfl dX11_tryStep_34 ?_
        rcases ho8 : (ρ 34 (a1).toNatClampNeg) with _ | c8
        · have hF := oc_n hF ho8
          refine x_n ?_
          cases hF
        · have hF := oc_s hF ho8
          refine x_s ?_
          obtain ⟨gc8, hF⟩ := gd_1 hF
          obtain ⟨σ9, hq9, hF⟩ := bn_1 hF
          refine x_callV (ci := 3) rfl rfl C hP hS (c_X3_takes hL (il_of hL gc6) (il_of hL gc8) hq9) (il_of hL gc6).1 (il_of hL gc6).2.1 (cwV 1 C.1.2.2.2.2 (gdV mw_720 mw_721 mw_722 mw_31 mw_723) rfl rfl rfl hd_X3_takes ⟨Nat.le_of_ble_eq_true rfl, Nat.le_of_ble_eq_true rfl⟩) rfl rfl hl.1 (Nat.le_of_ble_eq_true rfl) ⟨Nat.zero_le _, Nat.zero_le _⟩ dX11_tryStep_35 (fun H locs hP hS => ?_)
          refine lv_aload_n hx hb dX11_tryStep_38 rfl (lv_at hl 0 rfl) ?_
          refine get_11_5 C hP (lr_0 hL) (lk_0 hL) inlX11 mw_26 (lf_0_5 hL) dX11_tryStep_39 ?_
          refine lv_iload_n hx hb dX11_tryStep_42 rfl (lv_at hl 1 rfl) ?_
          refine lv_iconst (v := 1) hx hb dX11_tryStep_43 (by decide) ?_
          refine lv_iadd hx hb dX11_tryStep_44 ?_
          obtain ⟨x10, ex10, hF⟩ := nm_1 hF
          refine x_top ex10 ?_
          obtain ⟨g11, hF⟩ := gd_1 hF
          refine x_aald (v := rf ad (ρ 34 (x10).toNatClampNeg)) C hP (lr_34 hL) (lk_34 hL) (Or.inr ⟨rfl, rfl, rfl⟩) (ln_34 hL) g11 rfl dX11_tryStep_45 ?_
          rcases ho12 : (ρ 34 (x10).toNatClampNeg) with _ | c12
          · have hF := oc_n hF ho12
            refine x_n ?_
            cases hF
          · have hF := oc_s hF ho12
            refine x_s ?_
            obtain ⟨gc12, hF⟩ := gd_1 hF
            refine lv_aload_n hx hb dX11_tryStep_46 rfl (lv_at hl 2 rfl) ?_
            refine lv_iload_n hx hb dX11_tryStep_47 rfl (lv_at hl 3 rfl) ?_
            refine lv_if_ne (tgt := 58) hx hb dX11_tryStep_48 (by decide) (fun c_13 => ?_) (fun c_13 => ?_) -- COND 13 rcases (Decidable.em (a3 = 0)).symm with c_13 | c_13
            · have hF := ite_f hF c_13
              refine lv_iload_n hx hb dX11_tryStep_58 rfl (lv_at hl 3 rfl) ?_
              exact w_X11_tryStep_59 C hρ0 hL hz hF hP hS (lv_sub hl [0] rfl)
            · have hF := ite_t hF c_13
              refine lv_aload_n hx hb dX11_tryStep_51 rfl (lv_at hl 2 rfl) ?_
              refine get_ck_4 C hP (isC_r hz) (isC_k hz) mw_426 (Or.inl rfl) dX11_tryStep_52 ?_
              refine lv_goto (tgt := 59) hx hb dX11_tryStep_55 (by decide) ?_
              exact w_X11_tryStep_59 C hρ0 hL hz hF hP hS (lv_sub hl [0] rfl)
    · have hF := ite_f hF c_3
      refine lv_iconst (v := 0) hx hb dX11_tryStep_19 (by decide) ?_
      obtain ⟨rfl, rfl⟩ := ret_2 hF
      subst hρ0
      exact x_zret rfl rfl C hP hS dX11_tryStep_20
set_option maxHeartbeats 4000000 in
set_option maxRecDepth 100000 in
theorem c_X11_tryStep {N : Nat} {K len : Nat → Nat} {a1 : Int32} {z : Nat} {a3 : Int32} {r : Int32} {σ1 : SG} {σ : SG} {ρ : RG} (hL : Lay N K len ρ) (hz : isC N K z = true) (hF : F_X11_tryStep N K len a1 z a3 σ ρ = some (r, σ1)) : MT l Y D N ad K len yX11_tryStep (Cond.code yX11_tryStep cX11_tryStep 4 (some .boolean) :: wsL_law) rm_X11_tryStep [.ref (ad 0), .int a1, .ref (ad z), .int a3] σ ρ (some (.int r)) σ1 ρ := by
  refine mt_of (cc := cX11_tryStep) (nL := 4) (ret := (some .boolean)) (by decide) (Nat.le_of_ble_eq_true rfl) ?_
  intro p e s m args below meth c ls C hnm hP hS hl
  exact w_X11_tryStep_0 C rfl hL hz hF hP hS hl

/-! CutCrooked.private boolean tryStep(int, CutCrooked$Cutter, int); n -/
abbrev rm_X11_tryStep_n : Room := { frames := 0, cells := 0, slots := 0, locals := 0 }
def F_X11_tryStep_n (a1 : Int32) (a3 : Int32) (σ : SG) (ρ : RG) : Option (Int32) :=
  some (0 : Int32)
set_option maxHeartbeats 4000000 in
set_option maxRecDepth 100000 in
theorem w_X11_tryStep_n_0 {a1 : Int32} {a3 : Int32} {p : Program} {e : Env} {s : State} {m : MethodId} {args : Array Value} {below : List Frame} {meth : Method} {c : Code} {σ0 : SG} {ρ0 : RG} {r : Int32} (C : Cx Y D N ad p s m args meth c cX11_tryStep 4 (some .boolean) RX11 wsL_law) {σ : SG} {ρ : RG} {H : Heap} {locs : List Loc} {ls : Array Slot} (hσ0 : σ = σ0) (hρ0 : ρ = ρ0) (hL : Lay N K len ρ) (hF : F_X11_tryStep_n a1 a3 σ ρ = some r) (hP : WP Y D N ad K len σ ρ H) (hS : va_S (AA N ad s.heap.size) s.heap H locs) (hl : lv_has ls 4 [(0, .ref (ad 0)), (1, .int a1), (2, .null), (3, .int a3)]) : W p l e rm_X11_tryStep_n s m args below meth c H locs 0 0 (MQ below (QW Y D N ad K len σ0 ρ0 (AA N ad s.heap.size) (some (.int r))) args s 0 0 (AA N ad s.heap.size)) (F0 m 0 ls []) := by
  have hx := C.1.1
  have hb := C.1.2.1
  unfold F_X11_tryStep_n at hF
  refine lv_aload_nN hx hb dX11_tryStep_0 rfl (lv_at hl 2 rfl) ?_
  refine lv_ifnullN (tgt := 19) hx hb dX11_tryStep_1 (by decide) ?_
  refine lv_iconst (v := 0) hx hb dX11_tryStep_19 (by decide) ?_
  obtain rfl := ret_1 hF
  subst hσ0
  subst hρ0
  exact x_zret rfl rfl C hP hS dX11_tryStep_20
set_option maxHeartbeats 4000000 in
set_option maxRecDepth 100000 in
theorem c_X11_tryStep_n {a1 : Int32} {a3 : Int32} {r : Int32} {σ : SG} {ρ : RG} (hL : Lay N K len ρ) (hF : F_X11_tryStep_n a1 a3 σ ρ = some r) : MT l Y D N ad K len yX11_tryStep (Cond.code yX11_tryStep cX11_tryStep 4 (some .boolean) :: wsL_law) rm_X11_tryStep_n [.ref (ad 0), .int a1, .null, .int a3] σ ρ (some (.int r)) σ ρ := by
  refine mt_of (cc := cX11_tryStep) (nL := 4) (ret := (some .boolean)) (by decide) (Nat.le_of_ble_eq_true rfl) ?_
  intro p e s m args below meth c ls C hnm hP hS hl
  exact w_X11_tryStep_n_0 C rfl rfl hL hF hP hS hl

/-! CutCrooked.public int would(int, int);  -/
theorem dX11_would_0 : decode cX11_would 0 = .ok (.aload_n 0, 1) := by decide +kernel
theorem dX11_would_1 : decode cX11_would 1 = .ok (.getfield 12, 3) := by decide +kernel
theorem dX11_would_4 : decode cX11_would 4 = .ok (.iload_n 1, 1) := by decide +kernel
theorem dX11_would_5 : decode cX11_would 5 = .ok (.invokevirtual 100, 3) := by decide +kernel
theorem dX11_would_8 : decode cX11_would 8 = .ok (.ifnull 13, 3) := by decide +kernel
theorem dX11_would_11 : decode cX11_would 11 = .ok (.iload_n 2, 1) := by decide +kernel
theorem dX11_would_12 : decode cX11_would 12 = .ok (.iconst 0, 1) := by decide +kernel
theorem dX11_would_13 : decode cX11_would 13 = .ok (.bipush 6, 2) := by decide +kernel
theorem dX11_would_15 : decode cX11_would 15 = .ok (.invokestatic 56, 3) := by decide +kernel
theorem dX11_would_18 : decode cX11_would 18 = .ok (.ifCond .ne 7, 3) := by decide +kernel
theorem dX11_would_21 : decode cX11_would 21 = .ok (.sipush (-10001), 3) := by decide +kernel
theorem dX11_would_24 : decode cX11_would 24 = .ok (.ireturn, 1) := by decide +kernel
theorem dX11_would_25 : decode cX11_would 25 = .ok (.aload_n 0, 1) := by decide +kernel
theorem dX11_would_26 : decode cX11_would 26 = .ok (.invokevirtual 176, 3) := by decide +kernel
theorem dX11_would_29 : decode cX11_would 29 = .ok (.aload_n 0, 1) := by decide +kernel
theorem dX11_would_30 : decode cX11_would 30 = .ok (.iconst 0, 1) := by decide +kernel
theorem dX11_would_31 : decode cX11_would 31 = .ok (.aload_n 0, 1) := by decide +kernel
theorem dX11_would_32 : decode cX11_would 32 = .ok (.getfield 12, 3) := by decide +kernel
theorem dX11_would_35 : decode cX11_would 35 = .ok (.iload_n 1, 1) := by decide +kernel
theorem dX11_would_36 : decode cX11_would 36 = .ok (.invokevirtual 100, 3) := by decide +kernel
theorem dX11_would_39 : decode cX11_would 39 = .ok (.iconst 0, 1) := by decide +kernel
theorem dX11_would_40 : decode cX11_would 40 = .ok (.invokevirtual 179, 3) := by decide +kernel
theorem dX11_would_43 : decode cX11_would 43 = .ok (.ifCond .ne 7, 3) := by decide +kernel
theorem dX11_would_46 : decode cX11_would 46 = .ok (.sipush (-10005), 3) := by decide +kernel
theorem dX11_would_49 : decode cX11_would 49 = .ok (.ireturn, 1) := by decide +kernel
theorem dX11_would_50 : decode cX11_would 50 = .ok (.aload_n 0, 1) := by decide +kernel
theorem dX11_would_51 : decode cX11_would 51 = .ok (.getfield 37, 3) := by decide +kernel
theorem dX11_would_54 : decode cX11_would 54 = .ok (.iconst 1, 1) := by decide +kernel
theorem dX11_would_55 : decode cX11_would 55 = .ok (.aaload, 1) := by decide +kernel
theorem dX11_would_56 : decode cX11_would 56 = .ok (.astore_n 3, 1) := by decide +kernel
theorem dX11_would_57 : decode cX11_would 57 = .ok (.iload_n 2, 1) := by decide +kernel
theorem dX11_would_58 : decode cX11_would 58 = .ok (.tableswitch 68 0 5 #[38, 43, 48, 53, 58, 63], 38) := by decide +kernel
theorem dX11_would_96 : decode cX11_would 96 = .ok (.aload_n 3, 1) := by decide +kernel
theorem dX11_would_97 : decode cX11_would 97 = .ok (.getfield 167, 3) := by decide +kernel
theorem dX11_would_100 : decode cX11_would 100 = .ok (.ireturn, 1) := by decide +kernel
theorem dX11_would_101 : decode cX11_would 101 = .ok (.aload_n 3, 1) := by decide +kernel
theorem dX11_would_102 : decode cX11_would 102 = .ok (.getfield 183, 3) := by decide +kernel
theorem dX11_would_105 : decode cX11_would 105 = .ok (.ireturn, 1) := by decide +kernel
theorem dX11_would_106 : decode cX11_would 106 = .ok (.aload_n 3, 1) := by decide +kernel
theorem dX11_would_107 : decode cX11_would 107 = .ok (.getfield 186, 3) := by decide +kernel
theorem dX11_would_110 : decode cX11_would 110 = .ok (.ireturn, 1) := by decide +kernel
theorem dX11_would_111 : decode cX11_would 111 = .ok (.aload_n 3, 1) := by decide +kernel
theorem dX11_would_112 : decode cX11_would 112 = .ok (.getfield 140, 3) := by decide +kernel
theorem dX11_would_115 : decode cX11_would 115 = .ok (.ireturn, 1) := by decide +kernel
theorem dX11_would_116 : decode cX11_would 116 = .ok (.aload_n 3, 1) := by decide +kernel
theorem dX11_would_117 : decode cX11_would 117 = .ok (.getfield 141, 3) := by decide +kernel
theorem dX11_would_120 : decode cX11_would 120 = .ok (.ireturn, 1) := by decide +kernel
theorem dX11_would_121 : decode cX11_would 121 = .ok (.aload_n 3, 1) := by decide +kernel
theorem dX11_would_122 : decode cX11_would 122 = .ok (.getfield 144, 3) := by decide +kernel
theorem dX11_would_125 : decode cX11_would 125 = .ok (.ireturn, 1) := by decide +kernel
theorem dX11_would_126 : decode cX11_would 126 = .ok (.aload_n 3, 1) := by decide +kernel
theorem dX11_would_127 : decode cX11_would 127 = .ok (.getfield 150, 3) := by decide +kernel
theorem dX11_would_130 : decode cX11_would 130 = .ok (.aload_n 0, 1) := by decide +kernel
theorem dX11_would_131 : decode cX11_would 131 = .ok (.getfield 12, 3) := by decide +kernel
theorem dX11_would_134 : decode cX11_would 134 = .ok (.getfield 130, 3) := by decide +kernel
theorem dX11_would_137 : decode cX11_would 137 = .ok (.getfield 150, 3) := by decide +kernel
theorem dX11_would_140 : decode cX11_would 140 = .ok (.isub, 1) := by decide +kernel
theorem dX11_would_141 : decode cX11_would 141 = .ok (.ireturn, 1) := by decide +kernel
theorem hd_X11_would : yX11_would.cls = RX11 ∧ yX11_would.cls ≠ "java/lang/invoke/MethodHandle" ∧ yX11_would.cls ≠ "java/lang/invoke/VarHandle" ∧ (parseMethodDescriptor yX11_would.desc).map (fun d => d.parameters.length) = some 2 := by decide +kernel
abbrev rm_X11_would : Room := { frames := 6, cells := 0, slots := 0, locals := 152 }
def F_X11_would (N : Nat) (K len : Nat → Nat) (a1 : Int32) (a2 : Int32) (σ : SG) (ρ : RG) : Option (Int32 × SG) :=
  bn (F_X8_cutterAt_1 a1 σ ρ) fun o1 =>
  oc o1
   (
    some ((-10001 : Int32), σ))
   (fun c2 =>
    gd (isC N K c2) <|
    bn (F_X11_isWithin a2 (0 : Int32) (6 : Int32) σ ρ) fun r3 =>
    if r3 = 0 then
      some ((-10001 : Int32), σ)
    else
      bn (F_X11_startSteps σ ρ) fun σ5 =>
      bn (F_X8_cutterAt_1 a1 σ5 ρ) fun o6 =>
      oc o6
       (
        bn (F_X11_tryStep_n (0 : Int32) (0 : Int32) σ5 ρ) fun r8 =>
        if r8 = 0 then
          some ((-10005 : Int32), σ5)
        else
          if a2 = 0 then
            some ((σ5 42 6), σ5)
          else
            if a2 = 1 then
              some ((σ5 42 7), σ5)
            else
              if a2 = 2 then
                some ((σ5 42 8), σ5)
              else
                if a2 = 3 then
                  some ((σ5 42 1), σ5)
                else
                  if a2 = 4 then
                    some ((σ5 42 2), σ5)
                  else
                    if a2 = 5 then
                      some ((σ5 42 3), σ5)
                    else
                      nm ((σ5 42 5) - (σ5 3 5)) fun x11 =>
                      some (x11, σ5))
       (fun c7 =>
        gd (isC N K c7) <|
        bn2 (F_X11_tryStep N K len (0 : Int32) c7 (0 : Int32) σ5 ρ) fun r12 σ12 =>
        if r12 = 0 then
          some ((-10005 : Int32), σ12)
        else
          if a2 = 0 then
            some ((σ12 42 6), σ12)
          else
            if a2 = 1 then
              some ((σ12 42 7), σ12)
            else
              if a2 = 2 then
                some ((σ12 42 8), σ12)
              else
                if a2 = 3 then
                  some ((σ12 42 1), σ12)
                else
                  if a2 = 4 then
                    some ((σ12 42 2), σ12)
                  else
                    if a2 = 5 then
                      some ((σ12 42 3), σ12)
                    else
                      nm ((σ12 42 5) - (σ12 3 5)) fun x15 =>
                      some (x15, σ12)))
set_option maxHeartbeats 4000000 in
set_option maxRecDepth 100000 in
theorem w_X11_would_0 {N : Nat} {K len : Nat → Nat} {a1 : Int32} {a2 : Int32} {p : Program} {e : Env} {s : State} {m : MethodId} {args : Array Value} {below : List Frame} {meth : Method} {c : Code} {ρ0 : RG} {r : Int32} {σ1 : SG} (C : Cx Y D N ad p s m args meth c cX11_would 4 (some .int) RX11 wsL_law) {σ : SG} {ρ : RG} {H : Heap} {locs : List Loc} {ls : Array Slot} (hρ0 : ρ = ρ0) (hL : Lay N K len ρ) (hF : F_X11_would N K len a1 a2 σ ρ = some (r, σ1)) (hP : WP Y D N ad K len σ ρ H) (hS : va_S (AA N ad s.heap.size) s.heap H locs) (hl : lv_has ls 4 [(0, .ref (ad 0)), (1, .int a1), (2, .int a2)]) : W p l e rm_X11_would s m args below meth c H locs 0 0 (MQ below (QW Y D N ad K len σ1 ρ0 (AA N ad s.heap.size) (some (.int r))) args s 0 0 (AA N ad s.heap.size)) (F0 m 0 ls []) := by
  have hx := C.1.1
  have hb := C.1.2.1
  unfold F_X11_would at hF
  refine lv_aload_n hx hb dX11_would_0 rfl (lv_at hl 0 rfl) ?_
  refine get_11_0 C hP (lr_0 hL) (lk_0 hL) inlX11 mw_15 (lf_0_0 hL) dX11_would_1 ?_
  refine lv_iload_n hx hb dX11_would_4 rfl (lv_at hl 1 rfl) ?_
  obtain ⟨o1, hq1, hF⟩ := bn_1 hF
  refine x_callV (ci := 8) rfl rfl C hP hS (c_X8_cutterAt_1 hL hq1) (lr_1 hL) (lk_1 hL) (cwV 1 C.1.2.2.2.2 (gdV mw_428 mw_429 mw_430 mw_14 mw_431) rfl rfl rfl hd_X8_cutterAt ⟨Nat.le_of_ble_eq_true rfl, Nat.le_of_ble_eq_true rfl⟩) rfl rfl hl.1 (Nat.le_of_ble_eq_true rfl) ⟨Nat.zero_le _, Nat.zero_le _⟩ dX11_would_5 (fun H locs hP hS => ?_)
  rcases ho2 : o1 with _ | c2
  · have hF := oc_n hF ho2
    refine x_n ?_
    refine lv_ifnullN (tgt := 21) hx hb dX11_would_8 (by decide) ?_
    refine lv_sipush (v := -10001) hx hb dX11_would_21 (by decide +kernel) ?_
    obtain ⟨rfl, rfl⟩ := ret_2 hF
    subst hρ0
    exact x_iret rfl C hP hS dX11_would_24
  · have hF := oc_s hF ho2
    refine x_s ?_
    obtain ⟨gc2, hF⟩ := gd_1 hF
    refine lv_ifnull hx hb dX11_would_8 ?_
    refine lv_iload_n hx hb dX11_would_11 rfl (lv_at hl 2 rfl) ?_
    refine lv_iconst (v := 0) hx hb dX11_would_12 (by decide) ?_
    refine lv_bipush (v := 6) hx hb dX11_would_13 (by decide +kernel) ?_
    obtain ⟨r3, hq3, hF⟩ := bn_1 hF
    refine x_callS C hP hS (c_X11_isWithin hL hq3) (va_cwS 3 C.1.2.2.2.2 (gdS mw_97 mw_98 mw_2 mw_99) rfl rfl rfl hd_X11_isWithin.2 ⟨Nat.le_of_ble_eq_true rfl, Nat.le_of_ble_eq_true rfl⟩) rfl rfl hl.1 (Nat.le_of_ble_eq_true rfl) ⟨Nat.zero_le _, Nat.zero_le _⟩ dX11_would_15 (fun H locs hP hS => ?_)
    refine lv_if_ne (tgt := 25) hx hb dX11_would_18 (by decide) (fun c_4 => ?_) (fun c_4 => ?_) -- COND 4 rcases (Decidable.em (r3 = 0)).symm with c_4 | c_4
    · have hF := ite_f hF c_4
      refine lv_aload_n hx hb dX11_would_25 rfl (lv_at hl 0 rfl) ?_
      obtain ⟨σ5, hq5, hF⟩ := bn_1 hF
      refine x_callV (ci := 11) rfl rfl C hP hS (c_X11_startSteps hL hq5) (lr_0 hL) (lk_0 hL) (cwV 0 C.1.2.2.2.2 (gdV mw_713 mw_714 mw_715 mw_2 mw_716) rfl rfl rfl hd_X11_startSteps ⟨Nat.le_of_ble_eq_true rfl, Nat.le_of_ble_eq_true rfl⟩) rfl rfl hl.1 (Nat.le_of_ble_eq_true rfl) ⟨Nat.zero_le _, Nat.zero_le _⟩ dX11_would_26 (fun H locs hP hS => ?_)
      refine lv_aload_n hx hb dX11_would_29 rfl (lv_at hl 0 rfl) ?_
      refine lv_iconst (v := 0) hx hb dX11_would_30 (by decide) ?_
      refine lv_aload_n hx hb dX11_would_31 rfl (lv_at hl 0 rfl) ?_
      refine get_11_0 C hP (lr_0 hL) (lk_0 hL) inlX11 mw_15 (lf_0_0 hL) dX11_would_32 ?_
      refine lv_iload_n hx hb dX11_would_35 rfl (lv_at hl 1 rfl) ?_
      obtain ⟨o6, hq6, hF⟩ := bn_1 hF
      refine x_callV (ci := 8) rfl rfl C hP hS (c_X8_cutterAt_1 hL hq6) (lr_1 hL) (lk_1 hL) (cwV 1 C.1.2.2.2.2 (gdV mw_428 mw_429 mw_430 mw_14 mw_431) rfl rfl rfl hd_X8_cutterAt ⟨Nat.le_of_ble_eq_true rfl, Nat.le_of_ble_eq_true rfl⟩) rfl rfl hl.1 (Nat.le_of_ble_eq_true rfl) ⟨Nat.zero_le _, Nat.zero_le _⟩ dX11_would_36 (fun H locs hP hS => ?_)
      rcases ho7 : o6 with _ | c7
      · have hF := oc_n hF ho7
        refine x_n ?_
        refine lv_iconst (v := 0) hx hb dX11_would_39 (by decide) ?_
        obtain ⟨r8, hq8, hF⟩ := bn_1 hF
        refine x_callV (ci := 11) rfl rfl C hP hS (c_X11_tryStep_n hL hq8) (lr_0 hL) (lk_0 hL) (cwV 3 C.1.2.2.2.2 (gdV mw_724 mw_725 mw_726 mw_2 mw_727) rfl rfl rfl hd_X11_tryStep ⟨Nat.le_of_ble_eq_true rfl, Nat.le_of_ble_eq_true rfl⟩) rfl rfl hl.1 (Nat.le_of_ble_eq_true rfl) ⟨Nat.zero_le _, Nat.zero_le _⟩ dX11_would_40 (fun H locs hP hS => ?_)
        refine lv_if_ne (tgt := 50) hx hb dX11_would_43 (by decide) (fun c_9 => ?_) (fun c_9 => ?_) -- COND 9 rcases (Decidable.em (r8 = 0)).symm with c_9 | c_9
        · have hF := ite_f hF c_9
          refine lv_aload_n hx hb dX11_would_50 rfl (lv_at hl 0 rfl) ?_
          refine get_11_5 C hP (lr_0 hL) (lk_0 hL) inlX11 mw_26 (lf_0_5 hL) dX11_would_51 ?_
          refine lv_iconst (v := 1) hx hb dX11_would_54 (by decide) ?_
          refine x_aald (v := .ref (ad 42)) C hP (lr_34 hL) (lk_34 hL) (Or.inr ⟨rfl, rfl, rfl⟩) (ln_34 hL) (by decide +kernel) (by rw [cl_1, (lf_34_1 hL)]; rfl) dX11_would_55 ?_
          refine lv_astore_n (lv' := [(3, .ref (ad 42)), (0, .ref (ad 0)), (1, .int a1), (2, .int a2)]) hx hb dX11_would_56 rfl hl (by decide) rfl (fun ls hl => ?_)
          refine lv_iload_n hx hb dX11_would_57 rfl (lv_at hl 3 rfl) ?_
          by_cases cs10_0 : a2 = 0
          · have hF := ite_t hF cs10_0
            refine lv_tableIn (tgt := 96) hx hb dX11_would_58 (by rw [cs10_0]; decide) (by rw [cs10_0]; decide) (by rw [cs10_0]; rfl) (by decide) ?_
            refine lv_aload_n hx hb dX11_would_96 rfl (lv_at hl 0 rfl) ?_
            refine get_3_6 C hP (lr_42 hL) (lk_42 hL) inlX3 mw_528 dX11_would_97 ?_
            obtain ⟨rfl, rfl⟩ := ret_2 hF
            subst hρ0
            exact x_iret rfl C hP hS dX11_would_100
          · have hF := ite_f hF cs10_0
            by_cases cs10_1 : a2 = 1
            · have hF := ite_t hF cs10_1
              refine lv_tableIn (tgt := 101) hx hb dX11_would_58 (by rw [cs10_1]; decide) (by rw [cs10_1]; decide) (by rw [cs10_1]; rfl) (by decide) ?_
              refine lv_aload_n hx hb dX11_would_101 rfl (lv_at hl 0 rfl) ?_
              refine get_3_7 C hP (lr_42 hL) (lk_42 hL) inlX3 mw_711 dX11_would_102 ?_
              obtain ⟨rfl, rfl⟩ := ret_2 hF
              subst hρ0
              exact x_iret rfl C hP hS dX11_would_105
            · have hF := ite_f hF cs10_1
              by_cases cs10_2 : a2 = 2
              · have hF := ite_t hF cs10_2
                refine lv_tableIn (tgt := 106) hx hb dX11_would_58 (by rw [cs10_2]; decide) (by rw [cs10_2]; decide) (by rw [cs10_2]; rfl) (by decide) ?_
                refine lv_aload_n hx hb dX11_would_106 rfl (lv_at hl 0 rfl) ?_
                refine get_3_8 C hP (lr_42 hL) (lk_42 hL) inlX3 mw_712 dX11_would_107 ?_
                obtain ⟨rfl, rfl⟩ := ret_2 hF
                subst hρ0
                exact x_iret rfl C hP hS dX11_would_110
              · have hF := ite_f hF cs10_2
                by_cases cs10_3 : a2 = 3
                · have hF := ite_t hF cs10_3
                  refine lv_tableIn (tgt := 111) hx hb dX11_would_58 (by rw [cs10_3]; decide) (by rw [cs10_3]; decide) (by rw [cs10_3]; rfl) (by decide) ?_
                  refine lv_aload_n hx hb dX11_would_111 rfl (lv_at hl 0 rfl) ?_
                  refine get_3_1 C hP (lr_42 hL) (lk_42 hL) inlX3 mw_499 dX11_would_112 ?_
                  obtain ⟨rfl, rfl⟩ := ret_2 hF
                  subst hρ0
                  exact x_iret rfl C hP hS dX11_would_115
                · have hF := ite_f hF cs10_3
                  by_cases cs10_4 : a2 = 4
                  · have hF := ite_t hF cs10_4
                    refine lv_tableIn (tgt := 116) hx hb dX11_would_58 (by rw [cs10_4]; decide) (by rw [cs10_4]; decide) (by rw [cs10_4]; rfl) (by decide) ?_
                    refine lv_aload_n hx hb dX11_would_116 rfl (lv_at hl 0 rfl) ?_
                    refine get_3_2 C hP (lr_42 hL) (lk_42 hL) inlX3 mw_500 dX11_would_117 ?_
                    obtain ⟨rfl, rfl⟩ := ret_2 hF
                    subst hρ0
                    exact x_iret rfl C hP hS dX11_would_120
                  · have hF := ite_f hF cs10_4
                    by_cases cs10_5 : a2 = 5
                    · have hF := ite_t hF cs10_5
                      refine lv_tableIn (tgt := 121) hx hb dX11_would_58 (by rw [cs10_5]; decide) (by rw [cs10_5]; decide) (by rw [cs10_5]; rfl) (by decide) ?_
                      refine lv_aload_n hx hb dX11_would_121 rfl (lv_at hl 0 rfl) ?_
                      refine get_3_3 C hP (lr_42 hL) (lk_42 hL) inlX3 mw_501 dX11_would_122 ?_
                      obtain ⟨rfl, rfl⟩ := ret_2 hF
                      subst hρ0
                      exact x_iret rfl C hP hS dX11_would_125
                    · have hF := ite_f hF cs10_5
                      refine lv_tableOut (tgt := 126) hx hb dX11_would_58 (by have q0 := ne_ti cs10_0 (by decide : (0 : Int32).toInt = 0); have q1 := ne_ti cs10_1 (by decide : (1 : Int32).toInt = 1); have q2 := ne_ti cs10_2 (by decide : (2 : Int32).toInt = 2); have q3 := ne_ti cs10_3 (by decide : (3 : Int32).toInt = 3); have q4 := ne_ti cs10_4 (by decide : (4 : Int32).toInt = 4); have q5 := ne_ti cs10_5 (by decide : (5 : Int32).toInt = 5); omega) (by decide) ?_
                      refine lv_aload_n hx hb dX11_would_126 rfl (lv_at hl 0 rfl) ?_
                      refine get_3_5 C hP (lr_42 hL) (lk_42 hL) inlX3 mw_503 dX11_would_127 ?_
                      refine lv_aload_n hx hb dX11_would_130 rfl (lv_at hl 1 rfl) ?_
                      refine get_11_0 C hP (lr_0 hL) (lk_0 hL) inlX11 mw_15 (lf_0_0 hL) dX11_would_131 ?_
                      refine get_8_2 C hP (lr_1 hL) (lk_1 hL) inlX8 mw_488 (lf_1_2 hL) dX11_would_134 ?_
                      refine get_3_5 C hP (lr_3 hL) (lk_3 hL) inlX3 mw_503 dX11_would_137 ?_
                      refine lv_isub hx hb dX11_would_140 ?_
                      obtain ⟨x11, ex11, hF⟩ := nm_1 hF
                      refine x_top ex11 ?_
                      obtain ⟨rfl, rfl⟩ := ret_2 hF
                      subst hρ0
                      exact x_iret rfl C hP hS dX11_would_141
        · have hF := ite_t hF c_9
          refine lv_sipush (v := -10005) hx hb dX11_would_46 (by decide +kernel) ?_
          obtain ⟨rfl, rfl⟩ := ret_2 hF
          subst hρ0
          exact x_iret rfl C hP hS dX11_would_49
      · have hF := oc_s hF ho7
        refine x_s ?_
        obtain ⟨gc7, hF⟩ := gd_1 hF
        refine lv_iconst (v := 0) hx hb dX11_would_39 (by decide) ?_
        obtain ⟨r12, σ12, hq12, hF⟩ := bn2_1 hF
        refine x_callV (ci := 11) rfl rfl C hP hS (c_X11_tryStep hL gc7 hq12) (lr_0 hL) (lk_0 hL) (cwV 3 C.1.2.2.2.2 (gdV mw_724 mw_725 mw_726 mw_2 mw_727) rfl rfl rfl hd_X11_tryStep ⟨Nat.le_of_ble_eq_true rfl, Nat.le_of_ble_eq_true rfl⟩) rfl rfl hl.1 (Nat.le_of_ble_eq_true rfl) ⟨Nat.zero_le _, Nat.zero_le _⟩ dX11_would_40 (fun H locs hP hS => ?_)
        refine lv_if_ne (tgt := 50) hx hb dX11_would_43 (by decide) (fun c_13 => ?_) (fun c_13 => ?_) -- COND 13 rcases (Decidable.em (r12 = 0)).symm with c_13 | c_13
        · have hF := ite_f hF c_13
          refine lv_aload_n hx hb dX11_would_50 rfl (lv_at hl 0 rfl) ?_
          refine get_11_5 C hP (lr_0 hL) (lk_0 hL) inlX11 mw_26 (lf_0_5 hL) dX11_would_51 ?_
          refine lv_iconst (v := 1) hx hb dX11_would_54 (by decide) ?_
          refine x_aald (v := .ref (ad 42)) C hP (lr_34 hL) (lk_34 hL) (Or.inr ⟨rfl, rfl, rfl⟩) (ln_34 hL) (by decide +kernel) (by rw [cl_1, (lf_34_1 hL)]; rfl) dX11_would_55 ?_
          refine lv_astore_n (lv' := [(3, .ref (ad 42)), (0, .ref (ad 0)), (1, .int a1), (2, .int a2)]) hx hb dX11_would_56 rfl hl (by decide) rfl (fun ls hl => ?_)
          refine lv_iload_n hx hb dX11_would_57 rfl (lv_at hl 3 rfl) ?_
          by_cases cs14_0 : a2 = 0
          · have hF := ite_t hF cs14_0
            refine lv_tableIn (tgt := 96) hx hb dX11_would_58 (by rw [cs14_0]; decide) (by rw [cs14_0]; decide) (by rw [cs14_0]; rfl) (by decide) ?_
            refine lv_aload_n hx hb dX11_would_96 rfl (lv_at hl 0 rfl) ?_
            refine get_3_6 C hP (lr_42 hL) (lk_42 hL) inlX3 mw_528 dX11_would_97 ?_
            obtain ⟨rfl, rfl⟩ := ret_2 hF
            subst hρ0
            exact x_iret rfl C hP hS dX11_would_100
          · have hF := ite_f hF cs14_0
            by_cases cs14_1 : a2 = 1
            · have hF := ite_t hF cs14_1
              refine lv_tableIn (tgt := 101) hx hb dX11_would_58 (by rw [cs14_1]; decide) (by rw [cs14_1]; decide) (by rw [cs14_1]; rfl) (by decide) ?_
              refine lv_aload_n hx hb dX11_would_101 rfl (lv_at hl 0 rfl) ?_
              refine get_3_7 C hP (lr_42 hL) (lk_42 hL) inlX3 mw_711 dX11_would_102 ?_
              obtain ⟨rfl, rfl⟩ := ret_2 hF
              subst hρ0
              exact x_iret rfl C hP hS dX11_would_105
            · have hF := ite_f hF cs14_1
              by_cases cs14_2 : a2 = 2
              · have hF := ite_t hF cs14_2
                refine lv_tableIn (tgt := 106) hx hb dX11_would_58 (by rw [cs14_2]; decide) (by rw [cs14_2]; decide) (by rw [cs14_2]; rfl) (by decide) ?_
                refine lv_aload_n hx hb dX11_would_106 rfl (lv_at hl 0 rfl) ?_
                refine get_3_8 C hP (lr_42 hL) (lk_42 hL) inlX3 mw_712 dX11_would_107 ?_
                obtain ⟨rfl, rfl⟩ := ret_2 hF
                subst hρ0
                exact x_iret rfl C hP hS dX11_would_110
              · have hF := ite_f hF cs14_2
                by_cases cs14_3 : a2 = 3
                · have hF := ite_t hF cs14_3
                  refine lv_tableIn (tgt := 111) hx hb dX11_would_58 (by rw [cs14_3]; decide) (by rw [cs14_3]; decide) (by rw [cs14_3]; rfl) (by decide) ?_
                  refine lv_aload_n hx hb dX11_would_111 rfl (lv_at hl 0 rfl) ?_
                  refine get_3_1 C hP (lr_42 hL) (lk_42 hL) inlX3 mw_499 dX11_would_112 ?_
                  obtain ⟨rfl, rfl⟩ := ret_2 hF
                  subst hρ0
                  exact x_iret rfl C hP hS dX11_would_115
                · have hF := ite_f hF cs14_3
                  by_cases cs14_4 : a2 = 4
                  · have hF := ite_t hF cs14_4
                    refine lv_tableIn (tgt := 116) hx hb dX11_would_58 (by rw [cs14_4]; decide) (by rw [cs14_4]; decide) (by rw [cs14_4]; rfl) (by decide) ?_
                    refine lv_aload_n hx hb dX11_would_116 rfl (lv_at hl 0 rfl) ?_
                    refine get_3_2 C hP (lr_42 hL) (lk_42 hL) inlX3 mw_500 dX11_would_117 ?_
                    obtain ⟨rfl, rfl⟩ := ret_2 hF
                    subst hρ0
                    exact x_iret rfl C hP hS dX11_would_120
                  · have hF := ite_f hF cs14_4
                    by_cases cs14_5 : a2 = 5
                    · have hF := ite_t hF cs14_5
                      refine lv_tableIn (tgt := 121) hx hb dX11_would_58 (by rw [cs14_5]; decide) (by rw [cs14_5]; decide) (by rw [cs14_5]; rfl) (by decide) ?_
                      refine lv_aload_n hx hb dX11_would_121 rfl (lv_at hl 0 rfl) ?_
                      refine get_3_3 C hP (lr_42 hL) (lk_42 hL) inlX3 mw_501 dX11_would_122 ?_
                      obtain ⟨rfl, rfl⟩ := ret_2 hF
                      subst hρ0
                      exact x_iret rfl C hP hS dX11_would_125
                    · have hF := ite_f hF cs14_5
                      refine lv_tableOut (tgt := 126) hx hb dX11_would_58 (by have q0 := ne_ti cs14_0 (by decide : (0 : Int32).toInt = 0); have q1 := ne_ti cs14_1 (by decide : (1 : Int32).toInt = 1); have q2 := ne_ti cs14_2 (by decide : (2 : Int32).toInt = 2); have q3 := ne_ti cs14_3 (by decide : (3 : Int32).toInt = 3); have q4 := ne_ti cs14_4 (by decide : (4 : Int32).toInt = 4); have q5 := ne_ti cs14_5 (by decide : (5 : Int32).toInt = 5); omega) (by decide) ?_
                      refine lv_aload_n hx hb dX11_would_126 rfl (lv_at hl 0 rfl) ?_
                      refine get_3_5 C hP (lr_42 hL) (lk_42 hL) inlX3 mw_503 dX11_would_127 ?_
                      refine lv_aload_n hx hb dX11_would_130 rfl (lv_at hl 1 rfl) ?_
                      refine get_11_0 C hP (lr_0 hL) (lk_0 hL) inlX11 mw_15 (lf_0_0 hL) dX11_would_131 ?_
                      refine get_8_2 C hP (lr_1 hL) (lk_1 hL) inlX8 mw_488 (lf_1_2 hL) dX11_would_134 ?_
                      refine get_3_5 C hP (lr_3 hL) (lk_3 hL) inlX3 mw_503 dX11_would_137 ?_
                      refine lv_isub hx hb dX11_would_140 ?_
                      obtain ⟨x15, ex15, hF⟩ := nm_1 hF
                      refine x_top ex15 ?_
                      obtain ⟨rfl, rfl⟩ := ret_2 hF
                      subst hρ0
                      exact x_iret rfl C hP hS dX11_would_141
        · have hF := ite_t hF c_13
          refine lv_sipush (v := -10005) hx hb dX11_would_46 (by decide +kernel) ?_
          obtain ⟨rfl, rfl⟩ := ret_2 hF
          subst hρ0
          exact x_iret rfl C hP hS dX11_would_49
    · have hF := ite_t hF c_4
      refine lv_sipush (v := -10001) hx hb dX11_would_21 (by decide +kernel) ?_
      obtain ⟨rfl, rfl⟩ := ret_2 hF
      subst hρ0
      exact x_iret rfl C hP hS dX11_would_24
set_option maxHeartbeats 4000000 in
set_option maxRecDepth 100000 in
theorem c_X11_would {N : Nat} {K len : Nat → Nat} {a1 : Int32} {a2 : Int32} {r : Int32} {σ1 : SG} {σ : SG} {ρ : RG} (hL : Lay N K len ρ) (hF : F_X11_would N K len a1 a2 σ ρ = some (r, σ1)) : MT l Y D N ad K len yX11_would (Cond.code yX11_would cX11_would 4 (some .int) :: wsL_law) rm_X11_would [.ref (ad 0), .int a1, .int a2] σ ρ (some (.int r)) σ1 ρ := by
  refine mt_of (cc := cX11_would) (nL := 4) (ret := (some .int)) (by decide) (Nat.le_of_ble_eq_true rfl) ?_
  intro p e s m args below meth c ls C hnm hP hS hl
  exact w_X11_would_0 C rfl hL hF hP hS hl

/-! CutCrooked.private void goOn(int, int, boolean, int);  -/
theorem dX11_goOn_0 : decode cX11_goOn 0 = .ok (.aload_n 0, 1) := by decide +kernel
theorem dX11_goOn_1 : decode cX11_goOn 1 = .ok (.getfield 49, 3) := by decide +kernel
theorem dX11_goOn_4 : decode cX11_goOn 4 = .ok (.aload_n 0, 1) := by decide +kernel
theorem dX11_goOn_5 : decode cX11_goOn 5 = .ok (.getfield 12, 3) := by decide +kernel
theorem dX11_goOn_8 : decode cX11_goOn 8 = .ok (.getfield 130, 3) := by decide +kernel
theorem dX11_goOn_11 : decode cX11_goOn 11 = .ok (.invokevirtual 217, 3) := by decide +kernel
theorem dX11_goOn_14 : decode cX11_goOn 14 = .ok (.aload_n 0, 1) := by decide +kernel
theorem dX11_goOn_15 : decode cX11_goOn 15 = .ok (.iconst 0, 1) := by decide +kernel
theorem dX11_goOn_16 : decode cX11_goOn 16 = .ok (.putfield 193, 3) := by decide +kernel
theorem dX11_goOn_19 : decode cX11_goOn 19 = .ok (.aload_n 0, 1) := by decide +kernel
theorem dX11_goOn_20 : decode cX11_goOn 20 = .ok (.iconst 0, 1) := by decide +kernel
theorem dX11_goOn_21 : decode cX11_goOn 21 = .ok (.putfield 200, 3) := by decide +kernel
theorem dX11_goOn_24 : decode cX11_goOn 24 = .ok (.iconst 0, 1) := by decide +kernel
theorem dX11_goOn_25 : decode cX11_goOn 25 = .ok (.istore 5, 2) := by decide +kernel
theorem dX11_goOn_27 : decode cX11_goOn 27 = .ok (.iload 5, 2) := by decide +kernel
theorem dX11_goOn_29 : decode cX11_goOn 29 = .ok (.aload_n 0, 1) := by decide +kernel
theorem dX11_goOn_30 : decode cX11_goOn 30 = .ok (.getfield 53, 3) := by decide +kernel
theorem dX11_goOn_33 : decode cX11_goOn 33 = .ok (.arraylength, 1) := by decide +kernel
theorem dX11_goOn_34 : decode cX11_goOn 34 = .ok (.if_icmp .ge 17, 3) := by decide +kernel
theorem dX11_goOn_37 : decode cX11_goOn 37 = .ok (.aload_n 0, 1) := by decide +kernel
theorem dX11_goOn_38 : decode cX11_goOn 38 = .ok (.getfield 53, 3) := by decide +kernel
theorem dX11_goOn_41 : decode cX11_goOn 41 = .ok (.iload 5, 2) := by decide +kernel
theorem dX11_goOn_43 : decode cX11_goOn 43 = .ok (.iconst 0, 1) := by decide +kernel
theorem dX11_goOn_44 : decode cX11_goOn 44 = .ok (.iastore, 1) := by decide +kernel
theorem dX11_goOn_45 : decode cX11_goOn 45 = .ok (.iinc 5 1, 3) := by decide +kernel
theorem dX11_goOn_48 : decode cX11_goOn 48 = .ok (.goto (-21), 3) := by decide +kernel
theorem dX11_goOn_51 : decode cX11_goOn 51 = .ok (.iconst 0, 1) := by decide +kernel
theorem dX11_goOn_52 : decode cX11_goOn 52 = .ok (.istore 5, 2) := by decide +kernel
theorem dX11_goOn_54 : decode cX11_goOn 54 = .ok (.iload 5, 2) := by decide +kernel
theorem dX11_goOn_56 : decode cX11_goOn 56 = .ok (.iload_n 1, 1) := by decide +kernel
theorem dX11_goOn_57 : decode cX11_goOn 57 = .ok (.if_icmp .ge 195, 3) := by decide +kernel
theorem dX11_goOn_60 : decode cX11_goOn 60 = .ok (.aload_n 0, 1) := by decide +kernel
theorem dX11_goOn_61 : decode cX11_goOn 61 = .ok (.getfield 12, 3) := by decide +kernel
theorem dX11_goOn_64 : decode cX11_goOn 64 = .ok (.getfield 89, 3) := by decide +kernel
theorem dX11_goOn_67 : decode cX11_goOn 67 = .ok (.ifCond .le 185, 3) := by decide +kernel
theorem dX11_goOn_70 : decode cX11_goOn 70 = .ok (.iload 5, 2) := by decide +kernel
theorem dX11_goOn_72 : decode cX11_goOn 72 = .ok (.iload_n 2, 1) := by decide +kernel
theorem dX11_goOn_73 : decode cX11_goOn 73 = .ok (.if_icmp .ne 31, 3) := by decide +kernel
theorem dX11_goOn_76 : decode cX11_goOn 76 = .ok (.aload_n 0, 1) := by decide +kernel
theorem dX11_goOn_77 : decode cX11_goOn 77 = .ok (.getfield 49, 3) := by decide +kernel
theorem dX11_goOn_80 : decode cX11_goOn 80 = .ok (.invokevirtual 170, 3) := by decide +kernel
theorem dX11_goOn_83 : decode cX11_goOn 83 = .ok (.aload_n 0, 1) := by decide +kernel
theorem dX11_goOn_84 : decode cX11_goOn 84 = .ok (.getfield 12, 3) := by decide +kernel
theorem dX11_goOn_87 : decode cX11_goOn 87 = .ok (.getfield 78, 3) := by decide +kernel
theorem dX11_goOn_90 : decode cX11_goOn 90 = .ok (.getfield 156, 3) := by decide +kernel
theorem dX11_goOn_93 : decode cX11_goOn 93 = .ok (.if_icmp .lt 11, 3) := by decide +kernel
theorem dX11_goOn_96 : decode cX11_goOn 96 = .ok (.aload_n 0, 1) := by decide +kernel
theorem dX11_goOn_97 : decode cX11_goOn 97 = .ok (.getfield 49, 3) := by decide +kernel
theorem dX11_goOn_100 : decode cX11_goOn 100 = .ok (.invokevirtual 173, 3) := by decide +kernel
theorem dX11_goOn_103 : decode cX11_goOn 103 = .ok (.pop, 1) := by decide +kernel
theorem dX11_goOn_104 : decode cX11_goOn 104 = .ok (.iload 5, 2) := by decide +kernel
theorem dX11_goOn_106 : decode cX11_goOn 106 = .ok (.aload_n 0, 1) := by decide +kernel
theorem dX11_goOn_107 : decode cX11_goOn 107 = .ok (.getfield 12, 3) := by decide +kernel
theorem dX11_goOn_110 : decode cX11_goOn 110 = .ok (.getfield 89, 3) := by decide +kernel
theorem dX11_goOn_113 : decode cX11_goOn 113 = .ok (.irem, 1) := by decide +kernel
theorem dX11_goOn_114 : decode cX11_goOn 114 = .ok (.istore 6, 2) := by decide +kernel
theorem dX11_goOn_116 : decode cX11_goOn 116 = .ok (.aload_n 0, 1) := by decide +kernel
theorem dX11_goOn_117 : decode cX11_goOn 117 = .ok (.getfield 12, 3) := by decide +kernel
theorem dX11_goOn_120 : decode cX11_goOn 120 = .ok (.iload 6, 2) := by decide +kernel
theorem dX11_goOn_122 : decode cX11_goOn 122 = .ok (.invokevirtual 100, 3) := by decide +kernel
theorem dX11_goOn_125 : decode cX11_goOn 125 = .ok (.astore 7, 2) := by decide +kernel
theorem dX11_goOn_127 : decode cX11_goOn 127 = .ok (.aload 7, 2) := by decide +kernel
theorem dX11_goOn_129 : decode cX11_goOn 129 = .ok (.ifnull 29, 3) := by decide +kernel
theorem dX11_goOn_132 : decode cX11_goOn 132 = .ok (.aload_n 0, 1) := by decide +kernel
theorem dX11_goOn_133 : decode cX11_goOn 133 = .ok (.getfield 49, 3) := by decide +kernel
theorem dX11_goOn_136 : decode cX11_goOn 136 = .ok (.aload 7, 2) := by decide +kernel
theorem dX11_goOn_138 : decode cX11_goOn 138 = .ok (.aload 7, 2) := by decide +kernel
theorem dX11_goOn_140 : decode cX11_goOn 140 = .ok (.getfield 119, 3) := by decide +kernel
theorem dX11_goOn_143 : decode cX11_goOn 143 = .ok (.aload_n 0, 1) := by decide +kernel
theorem dX11_goOn_144 : decode cX11_goOn 144 = .ok (.getfield 12, 3) := by decide +kernel
theorem dX11_goOn_147 : decode cX11_goOn 147 = .ok (.getfield 78, 3) := by decide +kernel
theorem dX11_goOn_150 : decode cX11_goOn 150 = .ok (.iload_n 3, 1) := by decide +kernel
theorem dX11_goOn_151 : decode cX11_goOn 151 = .ok (.iconst 0, 1) := by decide +kernel
theorem dX11_goOn_152 : decode cX11_goOn 152 = .ok (.invokevirtual 163, 3) := by decide +kernel
theorem dX11_goOn_155 : decode cX11_goOn 155 = .ok (.ifCond .ne 4, 3) := by decide +kernel
theorem dX11_goOn_158 : decode cX11_goOn 158 = .ok (.return_, 1) := by decide +kernel
theorem dX11_goOn_159 : decode cX11_goOn 159 = .ok (.iload 6, 2) := by decide +kernel
theorem dX11_goOn_161 : decode cX11_goOn 161 = .ok (.aload_n 0, 1) := by decide +kernel
theorem dX11_goOn_162 : decode cX11_goOn 162 = .ok (.getfield 53, 3) := by decide +kernel
theorem dX11_goOn_165 : decode cX11_goOn 165 = .ok (.arraylength, 1) := by decide +kernel
theorem dX11_goOn_166 : decode cX11_goOn 166 = .ok (.if_icmp .ge 20, 3) := by decide +kernel
theorem dX11_goOn_169 : decode cX11_goOn 169 = .ok (.aload_n 0, 1) := by decide +kernel
theorem dX11_goOn_170 : decode cX11_goOn 170 = .ok (.getfield 53, 3) := by decide +kernel
theorem dX11_goOn_173 : decode cX11_goOn 173 = .ok (.iload 6, 2) := by decide +kernel
theorem dX11_goOn_175 : decode cX11_goOn 175 = .ok (.dup2, 1) := by decide +kernel
theorem dX11_goOn_176 : decode cX11_goOn 176 = .ok (.iaload, 1) := by decide +kernel
theorem dX11_goOn_177 : decode cX11_goOn 177 = .ok (.aload_n 0, 1) := by decide +kernel
theorem dX11_goOn_178 : decode cX11_goOn 178 = .ok (.getfield 49, 3) := by decide +kernel
theorem dX11_goOn_181 : decode cX11_goOn 181 = .ok (.getfield 167, 3) := by decide +kernel
theorem dX11_goOn_184 : decode cX11_goOn 184 = .ok (.iadd, 1) := by decide +kernel
theorem dX11_goOn_185 : decode cX11_goOn 185 = .ok (.iastore, 1) := by decide +kernel
theorem dX11_goOn_186 : decode cX11_goOn 186 = .ok (.aload_n 0, 1) := by decide +kernel
theorem dX11_goOn_187 : decode cX11_goOn 187 = .ok (.dup, 1) := by decide +kernel
theorem dX11_goOn_188 : decode cX11_goOn 188 = .ok (.getfield 193, 3) := by decide +kernel
theorem dX11_goOn_191 : decode cX11_goOn 191 = .ok (.aload_n 0, 1) := by decide +kernel
theorem dX11_goOn_192 : decode cX11_goOn 192 = .ok (.getfield 49, 3) := by decide +kernel
theorem dX11_goOn_195 : decode cX11_goOn 195 = .ok (.getfield 183, 3) := by decide +kernel
theorem dX11_goOn_198 : decode cX11_goOn 198 = .ok (.aload_n 0, 1) := by decide +kernel
theorem dX11_goOn_199 : decode cX11_goOn 199 = .ok (.getfield 12, 3) := by decide +kernel
theorem dX11_goOn_202 : decode cX11_goOn 202 = .ok (.getfield 78, 3) := by decide +kernel
theorem dX11_goOn_205 : decode cX11_goOn 205 = .ok (.getfield 153, 3) := by decide +kernel
theorem dX11_goOn_208 : decode cX11_goOn 208 = .ok (.if_icmp .lt 7, 3) := by decide +kernel
theorem dX11_goOn_211 : decode cX11_goOn 211 = .ok (.iconst 1, 1) := by decide +kernel
theorem dX11_goOn_212 : decode cX11_goOn 212 = .ok (.goto 4, 3) := by decide +kernel
theorem dX11_goOn_215 : decode cX11_goOn 215 = .ok (.iconst 0, 1) := by decide +kernel
theorem dX11_goOn_216 : decode cX11_goOn 216 = .ok (.iadd, 1) := by decide +kernel
theorem dX11_goOn_217 : decode cX11_goOn 217 = .ok (.putfield 193, 3) := by decide +kernel
theorem dX11_goOn_220 : decode cX11_goOn 220 = .ok (.aload_n 0, 1) := by decide +kernel
theorem dX11_goOn_221 : decode cX11_goOn 221 = .ok (.dup, 1) := by decide +kernel
theorem dX11_goOn_222 : decode cX11_goOn 222 = .ok (.getfield 200, 3) := by decide +kernel
theorem dX11_goOn_225 : decode cX11_goOn 225 = .ok (.aload_n 0, 1) := by decide +kernel
theorem dX11_goOn_226 : decode cX11_goOn 226 = .ok (.getfield 49, 3) := by decide +kernel
theorem dX11_goOn_229 : decode cX11_goOn 229 = .ok (.getfield 186, 3) := by decide +kernel
theorem dX11_goOn_232 : decode cX11_goOn 232 = .ok (.iload 4, 2) := by decide +kernel
theorem dX11_goOn_234 : decode cX11_goOn 234 = .ok (.if_icmp .gt 7, 3) := by decide +kernel
theorem dX11_goOn_237 : decode cX11_goOn 237 = .ok (.iconst 1, 1) := by decide +kernel
theorem dX11_goOn_238 : decode cX11_goOn 238 = .ok (.goto 4, 3) := by decide +kernel
theorem dX11_goOn_241 : decode cX11_goOn 241 = .ok (.iconst 0, 1) := by decide +kernel
theorem dX11_goOn_242 : decode cX11_goOn 242 = .ok (.iadd, 1) := by decide +kernel
theorem dX11_goOn_243 : decode cX11_goOn 243 = .ok (.putfield 200, 3) := by decide +kernel
theorem dX11_goOn_246 : decode cX11_goOn 246 = .ok (.iinc 5 1, 3) := by decide +kernel
theorem dX11_goOn_249 : decode cX11_goOn 249 = .ok (.goto (-195), 3) := by decide +kernel
theorem dX11_goOn_252 : decode cX11_goOn 252 = .ok (.return_, 1) := by decide +kernel
theorem hd_X11_goOn : yX11_goOn.cls = RX11 ∧ yX11_goOn.cls ≠ "java/lang/invoke/MethodHandle" ∧ yX11_goOn.cls ≠ "java/lang/invoke/VarHandle" ∧ (parseMethodDescriptor yX11_goOn.desc).map (fun d => d.parameters.length) = some 4 := by decide +kernel
abbrev rm_X11_goOn : Room := { frames := 5, cells := 0, slots := 0, locals := 129 }
def F_X11_goOn_242 (N : Nat) (K len : Nat → Nat) (a1 : Int32) (a2 : Int32) (a3 : Int32) (a4 : Int32) (rec_54 : SG → RG → Int32 → Int32 → Int32 → Int32 → Int32 → Option (SG)) (σ : SG) (ρ : RG) (v1 : Int32) (v2 : Int32) (v3 : Int32) (v4 : Int32) (v5 : Int32) (k1 : Int32) (k2 : Int32) : Option (SG) :=
  nm (k1 + k2) fun x22 =>
  nm (s2 σ 0 14 x22) fun σ24 =>
  nm (v5 + (1 : Int32)) fun x25 =>
  rec_54 σ24 ρ v1 v2 v3 v4 x25
def F_X11_goOn_216 (N : Nat) (K len : Nat → Nat) (a1 : Int32) (a2 : Int32) (a3 : Int32) (a4 : Int32) (rec_54 : SG → RG → Int32 → Int32 → Int32 → Int32 → Int32 → Option (SG)) (σ : SG) (ρ : RG) (v1 : Int32) (v2 : Int32) (v3 : Int32) (v4 : Int32) (v5 : Int32) (k1 : Int32) (k2 : Int32) : Option (SG) :=
  nm (k1 + k2) fun x18 =>
  nm (s2 σ 0 13 x18) fun σ20 =>
  if v4 < (σ20 37 8) then
    F_X11_goOn_242 N K len a1 a2 a3 a4 rec_54 σ20 ρ v1 v2 v3 v4 v5 (σ20 0 14) (0 : Int32)
  else
    F_X11_goOn_242 N K len a1 a2 a3 a4 rec_54 σ20 ρ v1 v2 v3 v4 v5 (σ20 0 14) (1 : Int32)
def F_X11_goOn_186 (N : Nat) (K len : Nat → Nat) (a1 : Int32) (a2 : Int32) (a3 : Int32) (a4 : Int32) (rec_54 : SG → RG → Int32 → Int32 → Int32 → Int32 → Int32 → Option (SG)) (σ : SG) (ρ : RG) (v1 : Int32) (v2 : Int32) (v3 : Int32) (v4 : Int32) (v5 : Int32) : Option (SG) :=
  if (σ 37 7) < (σ 5 0) then
    F_X11_goOn_216 N K len a1 a2 a3 a4 rec_54 σ ρ v1 v2 v3 v4 v5 (σ 0 13) (0 : Int32)
  else
    F_X11_goOn_216 N K len a1 a2 a3 a4 rec_54 σ ρ v1 v2 v3 v4 v5 (σ 0 13) (1 : Int32)
def F_X11_goOn_104 (N : Nat) (K len : Nat → Nat) (a1 : Int32) (a2 : Int32) (a3 : Int32) (a4 : Int32) (rec_54 : SG → RG → Int32 → Int32 → Int32 → Int32 → Int32 → Option (SG)) (σ : SG) (ρ : RG) (v1 : Int32) (v2 : Int32) (v3 : Int32) (v4 : Int32) (v5 : Int32) : Option (SG) :=
  gd (decide (¬ (σ 1 1) = 0)) <|
  nm (v5 - v5 / (σ 1 1) * (σ 1 1)) fun x11 =>
  bn (F_X8_cutterAt_1 x11 σ ρ) fun o12 =>
  oc o12
   (
    some σ)
   (fun c13 =>
    gd (isC N K c13) <|
    bn2 (F_X3_tryCut N K len 37 c13 (σ c13 4) v3 (0 : Int32) σ ρ) fun r14 σ14 =>
    if r14 = 0 then
      some σ14
    else
      if (6 : Int32) ≤ x11 then
        F_X11_goOn_186 N K len a1 a2 a3 a4 rec_54 σ14 ρ v1 v2 v3 v4 v5
      else
        gd (inb x11 6) <|
        nm ((σ14 39 (x11).toNatClampNeg) + (σ14 37 6)) fun x27 =>
        gd (inb x11 6) <|
        nm (s2 σ14 39 (x11).toNatClampNeg x27) fun σ30 =>
        F_X11_goOn_186 N K len a1 a2 a3 a4 rec_54 σ30 ρ v1 v2 v3 v4 v5)
def F_X11_goOn_54 (N : Nat) (K len : Nat → Nat) (a1 : Int32) (a2 : Int32) (a3 : Int32) (a4 : Int32) : Nat → SG → RG → Int32 → Int32 → Int32 → Int32 → Int32 → Option (SG)
  | 0 => fun _ _ _ _ _ _ _ => none
  | n + 1 => fun σ ρ v1 v2 v3 v4 v5 =>
  if v1 ≤ v5 then
    some σ
  else
    if (σ 1 1) ≤ 0 then
      some σ
    else
      if v5 = v2 then
        bn (F_X3_leastCorner 37 σ ρ) fun r31 =>
        if r31 < (σ 5 1) then
          F_X11_goOn_104 N K len a1 a2 a3 a4 (F_X11_goOn_54 N K len a1 a2 a3 a4 n) σ ρ v1 v2 v3 v4 v5
        else
          bn2 (F_X3_straighten 37 σ ρ) fun r33 σ33 =>
          F_X11_goOn_104 N K len a1 a2 a3 a4 (F_X11_goOn_54 N K len a1 a2 a3 a4 n) σ33 ρ v1 v2 v3 v4 v5
      else
        F_X11_goOn_104 N K len a1 a2 a3 a4 (F_X11_goOn_54 N K len a1 a2 a3 a4 n) σ ρ v1 v2 v3 v4 v5
def F_X11_goOn_27 (N : Nat) (K len : Nat → Nat) (a1 : Int32) (a2 : Int32) (a3 : Int32) (a4 : Int32) : Nat → SG → RG → Int32 → Int32 → Int32 → Int32 → Int32 → Option (SG)
  | 0 => fun _ _ _ _ _ _ _ => none
  | n + 1 => fun σ ρ v1 v2 v3 v4 v5 =>
  if (6 : Int32) ≤ v5 then
    F_X11_goOn_54 N K len a1 a2 a3 a4 1024 σ ρ v1 v2 v3 v4 (0 : Int32)
  else
    gd (inb v5 6) <|
    nm (s2 σ 39 (v5).toNatClampNeg (0 : Int32)) fun σ36 =>
    nm (v5 + (1 : Int32)) fun x37 =>
    F_X11_goOn_27 N K len a1 a2 a3 a4 n σ36 ρ v1 v2 v3 v4 x37
def F_X11_goOn (N : Nat) (K len : Nat → Nat) (a1 : Int32) (a2 : Int32) (a3 : Int32) (a4 : Int32) (σ : SG) (ρ : RG) : Option (SG) :=
  bn (F_X3_takes 37 3 σ ρ) fun σ1 =>
  nm (s2 σ1 0 13 (0 : Int32)) fun σ3 =>
  nm (s2 σ3 0 14 (0 : Int32)) fun σ5 =>
  F_X11_goOn_27 N K len a1 a2 a3 a4 1024 σ5 ρ a1 a2 a3 a4 (0 : Int32)
set_option maxHeartbeats 4000000 in
set_option maxRecDepth 100000 in
theorem w_X11_goOn_242 {N : Nat} {K len : Nat → Nat} {a1 : Int32} {a2 : Int32} {a3 : Int32} {a4 : Int32} {rec_54 : SG → RG → Int32 → Int32 → Int32 → Int32 → Int32 → Option (SG)} {p : Program} {e : Env} {s : State} {m : MethodId} {args : Array Value} {below : List Frame} {meth : Method} {c : Code} {ρ0 : RG} {σ1 : SG} (C : Cx Y D N ad p s m args meth c cX11_goOn 8 none RX11 wsL_law) (hrec_54 : ∀ (σ : SG) (ρ : RG) (v1 : Int32) (v2 : Int32) (v3 : Int32) (v4 : Int32) (v5 : Int32) (H : Heap) (locs : List Loc) (ls : Array Slot), ρ = ρ0 → Lay N K len ρ → rec_54 σ ρ v1 v2 v3 v4 v5 = some σ1 → WP Y D N ad K len σ ρ H → va_S (AA N ad s.heap.size) s.heap H locs → lv_has ls 8 [(0, .ref (ad 0)), (1, .int v1), (2, .int v2), (3, .int v3), (4, .int v4), (5, .int v5)] → W p l e rm_X11_goOn s m args below meth c H locs 0 0 (MQ below (QW Y D N ad K len σ1 ρ0 (AA N ad s.heap.size) none) args s 0 0 (AA N ad s.heap.size)) (F0 m 54 ls [])) {σ : SG} {ρ : RG} {v1 : Int32} {v2 : Int32} {v3 : Int32} {v4 : Int32} {v5 : Int32} {k1 : Int32} {k2 : Int32} {H : Heap} {locs : List Loc} {ls : Array Slot} (hρ0 : ρ = ρ0) (hL : Lay N K len ρ) (hF : F_X11_goOn_242 N K len a1 a2 a3 a4 rec_54 σ ρ v1 v2 v3 v4 v5 k1 k2 = some σ1) (hP : WP Y D N ad K len σ ρ H) (hS : va_S (AA N ad s.heap.size) s.heap H locs) (hl : lv_has ls 8 [(0, .ref (ad 0)), (1, .int v1), (2, .int v2), (3, .int v3), (4, .int v4), (5, .int v5)]) : W p l e rm_X11_goOn s m args below meth c H locs 0 0 (MQ below (QW Y D N ad K len σ1 ρ0 (AA N ad s.heap.size) none) args s 0 0 (AA N ad s.heap.size)) (F0 m 242 ls [.int k2, .int k1, .ref (ad 0)]) := by
  have hx := C.1.1
  have hb := C.1.2.1
  unfold F_X11_goOn_242 at hF
  refine lv_iadd hx hb dX11_goOn_242 ?_
  obtain ⟨x22, ex22, hF⟩ := nm_1 hF
  refine x_top ex22 ?_
  obtain ⟨σ24, eσ24, hF⟩ := nm_1 hF
  refine put_11_14 C hP hS (lr_0 hL) (lk_0 hL) inlX11 mw_749 eσ24 dX11_goOn_243 (fun H locs hP hS => ?_)
  obtain ⟨x25, ex25, hF⟩ := nm_1 hF
  refine lv_iinc (v := x25) (lv' := [(5, .int x25), (0, .ref (ad 0)), (1, .int v1), (2, .int v2), (3, .int v3), (4, .int v4)]) hx hb dX11_goOn_246 hl (k := 5) rfl (by rw [ex25]; first | rfl | decide) (by decide) rfl (fun ls hl => ?_)
  refine lv_goto (tgt := 54) hx hb dX11_goOn_249 (by decide) ?_
  exact hrec_54 _ _ _ _ _ _ _ _ _ _ hρ0 hL hF hP hS (lv_sub hl [1, 2, 3, 4, 5, 0] rfl)
set_option maxHeartbeats 4000000 in
set_option maxRecDepth 100000 in
theorem w_X11_goOn_216 {N : Nat} {K len : Nat → Nat} {a1 : Int32} {a2 : Int32} {a3 : Int32} {a4 : Int32} {rec_54 : SG → RG → Int32 → Int32 → Int32 → Int32 → Int32 → Option (SG)} {p : Program} {e : Env} {s : State} {m : MethodId} {args : Array Value} {below : List Frame} {meth : Method} {c : Code} {ρ0 : RG} {σ1 : SG} (C : Cx Y D N ad p s m args meth c cX11_goOn 8 none RX11 wsL_law) (hrec_54 : ∀ (σ : SG) (ρ : RG) (v1 : Int32) (v2 : Int32) (v3 : Int32) (v4 : Int32) (v5 : Int32) (H : Heap) (locs : List Loc) (ls : Array Slot), ρ = ρ0 → Lay N K len ρ → rec_54 σ ρ v1 v2 v3 v4 v5 = some σ1 → WP Y D N ad K len σ ρ H → va_S (AA N ad s.heap.size) s.heap H locs → lv_has ls 8 [(0, .ref (ad 0)), (1, .int v1), (2, .int v2), (3, .int v3), (4, .int v4), (5, .int v5)] → W p l e rm_X11_goOn s m args below meth c H locs 0 0 (MQ below (QW Y D N ad K len σ1 ρ0 (AA N ad s.heap.size) none) args s 0 0 (AA N ad s.heap.size)) (F0 m 54 ls [])) {σ : SG} {ρ : RG} {v1 : Int32} {v2 : Int32} {v3 : Int32} {v4 : Int32} {v5 : Int32} {k1 : Int32} {k2 : Int32} {H : Heap} {locs : List Loc} {ls : Array Slot} (hρ0 : ρ = ρ0) (hL : Lay N K len ρ) (hF : F_X11_goOn_216 N K len a1 a2 a3 a4 rec_54 σ ρ v1 v2 v3 v4 v5 k1 k2 = some σ1) (hP : WP Y D N ad K len σ ρ H) (hS : va_S (AA N ad s.heap.size) s.heap H locs) (hl : lv_has ls 8 [(0, .ref (ad 0)), (1, .int v1), (2, .int v2), (3, .int v3), (4, .int v4), (5, .int v5)]) : W p l e rm_X11_goOn s m args below meth c H locs 0 0 (MQ below (QW Y D N ad K len σ1 ρ0 (AA N ad s.heap.size) none) args s 0 0 (AA N ad s.heap.size)) (F0 m 216 ls [.int k2, .int k1, .ref (ad 0)]) := by
  have hx := C.1.1
  have hb := C.1.2.1
  unfold F_X11_goOn_216 at hF
  refine lv_iadd hx hb dX11_goOn_216 ?_
  obtain ⟨x18, ex18, hF⟩ := nm_1 hF
  refine x_top ex18 ?_
  obtain ⟨σ20, eσ20, hF⟩ := nm_1 hF
  refine put_11_13 C hP hS (lr_0 hL) (lk_0 hL) inlX11 mw_744 eσ20 dX11_goOn_217 (fun H locs hP hS => ?_)
  refine lv_aload_n hx hb dX11_goOn_220 rfl (lv_at hl 0 rfl) ?_
  refine lv_dup hx hb dX11_goOn_221 rfl ?_
  refine get_11_14 C hP (lr_0 hL) (lk_0 hL) inlX11 mw_749 dX11_goOn_222 ?_
  refine lv_aload_n hx hb dX11_goOn_225 rfl (lv_at hl 0 rfl) ?_
  refine get_11_11 C hP (lr_0 hL) (lk_0 hL) inlX11 mw_32 (lf_0_11 hL) dX11_goOn_226 ?_
  refine get_3_8 C hP (lr_37 hL) (lk_37 hL) inlX3 mw_712 dX11_goOn_229 ?_
  refine lv_iload hx hb dX11_goOn_232 (lv_at hl 4 rfl) ?_
  refine lv_icmp_gt (tgt := 241) hx hb dX11_goOn_234 (by decide) (fun c_21 => ?_) (fun c_21 => ?_) -- COND 21 by_cases c_21 : v4 < (σ20 37 8)
  · have hF := ite_t hF c_21
    refine lv_iconst (v := 0) hx hb dX11_goOn_241 (by decide) ?_
    exact w_X11_goOn_242 C hrec_54 hρ0 hL hF hP hS (lv_sub hl [0, 1, 2, 3, 4, 5] rfl)
  · have hF := ite_f hF c_21
    refine lv_iconst (v := 1) hx hb dX11_goOn_237 (by decide) ?_
    refine lv_goto (tgt := 242) hx hb dX11_goOn_238 (by decide) ?_
    exact w_X11_goOn_242 C hrec_54 hρ0 hL hF hP hS (lv_sub hl [0, 1, 2, 3, 4, 5] rfl)
set_option maxHeartbeats 4000000 in
set_option maxRecDepth 100000 in
theorem w_X11_goOn_186 {N : Nat} {K len : Nat → Nat} {a1 : Int32} {a2 : Int32} {a3 : Int32} {a4 : Int32} {rec_54 : SG → RG → Int32 → Int32 → Int32 → Int32 → Int32 → Option (SG)} {p : Program} {e : Env} {s : State} {m : MethodId} {args : Array Value} {below : List Frame} {meth : Method} {c : Code} {ρ0 : RG} {σ1 : SG} (C : Cx Y D N ad p s m args meth c cX11_goOn 8 none RX11 wsL_law) (hrec_54 : ∀ (σ : SG) (ρ : RG) (v1 : Int32) (v2 : Int32) (v3 : Int32) (v4 : Int32) (v5 : Int32) (H : Heap) (locs : List Loc) (ls : Array Slot), ρ = ρ0 → Lay N K len ρ → rec_54 σ ρ v1 v2 v3 v4 v5 = some σ1 → WP Y D N ad K len σ ρ H → va_S (AA N ad s.heap.size) s.heap H locs → lv_has ls 8 [(0, .ref (ad 0)), (1, .int v1), (2, .int v2), (3, .int v3), (4, .int v4), (5, .int v5)] → W p l e rm_X11_goOn s m args below meth c H locs 0 0 (MQ below (QW Y D N ad K len σ1 ρ0 (AA N ad s.heap.size) none) args s 0 0 (AA N ad s.heap.size)) (F0 m 54 ls [])) {σ : SG} {ρ : RG} {v1 : Int32} {v2 : Int32} {v3 : Int32} {v4 : Int32} {v5 : Int32} {H : Heap} {locs : List Loc} {ls : Array Slot} (hρ0 : ρ = ρ0) (hL : Lay N K len ρ) (hF : F_X11_goOn_186 N K len a1 a2 a3 a4 rec_54 σ ρ v1 v2 v3 v4 v5 = some σ1) (hP : WP Y D N ad K len σ ρ H) (hS : va_S (AA N ad s.heap.size) s.heap H locs) (hl : lv_has ls 8 [(0, .ref (ad 0)), (1, .int v1), (2, .int v2), (3, .int v3), (4, .int v4), (5, .int v5)]) : W p l e rm_X11_goOn s m args below meth c H locs 0 0 (MQ below (QW Y D N ad K len σ1 ρ0 (AA N ad s.heap.size) none) args s 0 0 (AA N ad s.heap.size)) (F0 m 186 ls []) := by
  have hx := C.1.1
  have hb := C.1.2.1
  unfold F_X11_goOn_186 at hF
  refine lv_aload_n hx hb dX11_goOn_186 rfl (lv_at hl 0 rfl) ?_
  refine lv_dup hx hb dX11_goOn_187 rfl ?_
  refine get_11_13 C hP (lr_0 hL) (lk_0 hL) inlX11 mw_744 dX11_goOn_188 ?_
  refine lv_aload_n hx hb dX11_goOn_191 rfl (lv_at hl 0 rfl) ?_
  refine get_11_11 C hP (lr_0 hL) (lk_0 hL) inlX11 mw_32 (lf_0_11 hL) dX11_goOn_192 ?_
  refine get_3_7 C hP (lr_37 hL) (lk_37 hL) inlX3 mw_711 dX11_goOn_195 ?_
  refine lv_aload_n hx hb dX11_goOn_198 rfl (lv_at hl 0 rfl) ?_
  refine get_11_0 C hP (lr_0 hL) (lk_0 hL) inlX11 mw_15 (lf_0_0 hL) dX11_goOn_199 ?_
  refine get_8_3 C hP (lr_1 hL) (lk_1 hL) inlX8 mw_113 (lf_1_3 hL) dX11_goOn_202 ?_
  refine get_0_0 C hP (lr_5 hL) (lk_5 hL) inlX0 mw_504 dX11_goOn_205 ?_
  refine lv_icmp_lt (tgt := 215) hx hb dX11_goOn_208 (by decide) (fun c_17 => ?_) (fun c_17 => ?_) -- COND 17 by_cases c_17 : (σ 37 7) < (σ 5 0)
  · have hF := ite_t hF c_17
    refine lv_iconst (v := 0) hx hb dX11_goOn_215 (by decide) ?_
    exact w_X11_goOn_216 C hrec_54 hρ0 hL hF hP hS (lv_sub hl [0, 1, 2, 3, 4, 5] rfl)
  · have hF := ite_f hF c_17
    refine lv_iconst (v := 1) hx hb dX11_goOn_211 (by decide) ?_
    refine lv_goto (tgt := 216) hx hb dX11_goOn_212 (by decide) ?_
    exact w_X11_goOn_216 C hrec_54 hρ0 hL hF hP hS (lv_sub hl [0, 1, 2, 3, 4, 5] rfl)
set_option maxHeartbeats 4000000 in
set_option maxRecDepth 100000 in
theorem w_X11_goOn_104 {N : Nat} {K len : Nat → Nat} {a1 : Int32} {a2 : Int32} {a3 : Int32} {a4 : Int32} {rec_54 : SG → RG → Int32 → Int32 → Int32 → Int32 → Int32 → Option (SG)} {p : Program} {e : Env} {s : State} {m : MethodId} {args : Array Value} {below : List Frame} {meth : Method} {c : Code} {ρ0 : RG} {σ1 : SG} (C : Cx Y D N ad p s m args meth c cX11_goOn 8 none RX11 wsL_law) (hrec_54 : ∀ (σ : SG) (ρ : RG) (v1 : Int32) (v2 : Int32) (v3 : Int32) (v4 : Int32) (v5 : Int32) (H : Heap) (locs : List Loc) (ls : Array Slot), ρ = ρ0 → Lay N K len ρ → rec_54 σ ρ v1 v2 v3 v4 v5 = some σ1 → WP Y D N ad K len σ ρ H → va_S (AA N ad s.heap.size) s.heap H locs → lv_has ls 8 [(0, .ref (ad 0)), (1, .int v1), (2, .int v2), (3, .int v3), (4, .int v4), (5, .int v5)] → W p l e rm_X11_goOn s m args below meth c H locs 0 0 (MQ below (QW Y D N ad K len σ1 ρ0 (AA N ad s.heap.size) none) args s 0 0 (AA N ad s.heap.size)) (F0 m 54 ls [])) {σ : SG} {ρ : RG} {v1 : Int32} {v2 : Int32} {v3 : Int32} {v4 : Int32} {v5 : Int32} {H : Heap} {locs : List Loc} {ls : Array Slot} (hρ0 : ρ = ρ0) (hL : Lay N K len ρ) (hF : F_X11_goOn_104 N K len a1 a2 a3 a4 rec_54 σ ρ v1 v2 v3 v4 v5 = some σ1) (hP : WP Y D N ad K len σ ρ H) (hS : va_S (AA N ad s.heap.size) s.heap H locs) (hl : lv_has ls 8 [(0, .ref (ad 0)), (1, .int v1), (2, .int v2), (3, .int v3), (4, .int v4), (5, .int v5)]) : W p l e rm_X11_goOn s m args below meth c H locs 0 0 (MQ below (QW Y D N ad K len σ1 ρ0 (AA N ad s.heap.size) none) args s 0 0 (AA N ad s.heap.size)) (F0 m 104 ls []) := by
  have hx := C.1.1
  have hb := C.1.2.1
  unfold F_X11_goOn_104 at hF
  refine lv_iload hx hb dX11_goOn_104 (lv_at hl 5 rfl) ?_
  refine lv_aload_n hx hb dX11_goOn_106 rfl (lv_at hl 0 rfl) ?_
  refine get_11_0 C hP (lr_0 hL) (lk_0 hL) inlX11 mw_15 (lf_0_0 hL) dX11_goOn_107 ?_
  refine get_8_1 C hP (lr_1 hL) (lk_1 hL) inlX8 mw_352 dX11_goOn_110 ?_
  obtain ⟨g10, hF⟩ := gd_1 hF
  refine lv_irem hx hb dX11_goOn_113 (of_decide_eq_true g10) ?_
  obtain ⟨x11, ex11, hF⟩ := nm_1 hF
  refine x_top ex11 ?_
  refine lv_istore (lv' := [(6, .int x11), (0, .ref (ad 0)), (1, .int v1), (2, .int v2), (3, .int v3), (4, .int v4), (5, .int v5)]) hx hb dX11_goOn_114 hl (by decide) rfl (fun ls hl => ?_)
  refine lv_aload_n hx hb dX11_goOn_116 rfl (lv_at hl 1 rfl) ?_
  refine get_11_0 C hP (lr_0 hL) (lk_0 hL) inlX11 mw_15 (lf_0_0 hL) dX11_goOn_117 ?_
  refine lv_iload hx hb dX11_goOn_120 (lv_at hl 0 rfl) ?_
  obtain ⟨o12, hq12, hF⟩ := bn_1 hF
  refine x_callV (ci := 8) rfl rfl C hP hS (c_X8_cutterAt_1 hL hq12) (lr_1 hL) (lk_1 hL) (cwV 1 C.1.2.2.2.2 (gdV mw_428 mw_429 mw_430 mw_14 mw_431) rfl rfl rfl hd_X8_cutterAt ⟨Nat.le_of_ble_eq_true rfl, Nat.le_of_ble_eq_true rfl⟩) rfl rfl hl.1 (Nat.le_of_ble_eq_true rfl) ⟨Nat.zero_le _, Nat.zero_le _⟩ dX11_goOn_122 (fun H locs hP hS => ?_)
  rcases ho13 : o12 with _ | c13
  · have hF := oc_n hF ho13
    refine x_n ?_
    refine lv_astoreN (lv' := [(7, .null), (6, .int x11), (0, .ref (ad 0)), (1, .int v1), (2, .int v2), (3, .int v3), (4, .int v4), (5, .int v5)]) hx hb dX11_goOn_125 hl (by decide) rfl (fun ls hl => ?_)
    refine lv_aloadN hx hb dX11_goOn_127 (lv_at hl 0 rfl) ?_
    refine lv_ifnullN (tgt := 158) hx hb dX11_goOn_129 (by decide) ?_
    obtain rfl := ret_1 hF
    subst hρ0
    exact x_vret rfl C hP hS dX11_goOn_158
  · have hF := oc_s hF ho13
    refine x_s ?_
    obtain ⟨gc13, hF⟩ := gd_1 hF
    refine lv_astore (lv' := [(7, .ref (ad c13)), (6, .int x11), (0, .ref (ad 0)), (1, .int v1), (2, .int v2), (3, .int v3), (4, .int v4), (5, .int v5)]) hx hb dX11_goOn_125 hl (by decide) rfl (fun ls hl => ?_)
    refine lv_aload hx hb dX11_goOn_127 (lv_at hl 0 rfl) ?_
    refine lv_ifnull hx hb dX11_goOn_129 ?_
    refine lv_aload_n hx hb dX11_goOn_132 rfl (lv_at hl 2 rfl) ?_
    refine get_11_11 C hP (lr_0 hL) (lk_0 hL) inlX11 mw_32 (lf_0_11 hL) dX11_goOn_133 ?_
    refine lv_aload hx hb dX11_goOn_136 (lv_at hl 0 rfl) ?_
    refine lv_aload hx hb dX11_goOn_138 (lv_at hl 0 rfl) ?_
    refine get_ck_4 C hP (isC_r gc13) (isC_k gc13) mw_426 (Or.inl rfl) dX11_goOn_140 ?_
    refine lv_aload_n hx hb dX11_goOn_143 rfl (lv_at hl 2 rfl) ?_
    refine get_11_0 C hP (lr_0 hL) (lk_0 hL) inlX11 mw_15 (lf_0_0 hL) dX11_goOn_144 ?_
    refine get_8_3 C hP (lr_1 hL) (lk_1 hL) inlX8 mw_113 (lf_1_3 hL) dX11_goOn_147 ?_
    refine lv_iload_n hx hb dX11_goOn_150 rfl (lv_at hl 5 rfl) ?_
    refine lv_iconst (v := 0) hx hb dX11_goOn_151 (by decide) ?_
    obtain ⟨r14, σ14, hq14, hF⟩ := bn2_1 hF
    refine x_callV (ci := 3) rfl rfl C hP hS (c_X3_tryCut hL (il_37 hL) gc13 hq14) (lr_37 hL) (lk_37 hL) (cwV 5 C.1.2.2.2.2 (gdV mw_529 mw_530 mw_531 mw_31 mw_532) rfl rfl rfl hd_X3_tryCut ⟨Nat.le_of_ble_eq_true rfl, Nat.le_of_ble_eq_true rfl⟩) rfl rfl hl.1 (Nat.le_of_ble_eq_true rfl) ⟨Nat.zero_le _, Nat.zero_le _⟩ dX11_goOn_152 (fun H locs hP hS => ?_)
    refine lv_if_ne (tgt := 159) hx hb dX11_goOn_155 (by decide) (fun c_15 => ?_) (fun c_15 => ?_) -- COND 15 rcases (Decidable.em (r14 = 0)).symm with c_15 | c_15
    · have hF := ite_f hF c_15
      refine lv_iload hx hb dX11_goOn_159 (lv_at hl 1 rfl) ?_
      refine lv_aload_n hx hb dX11_goOn_161 rfl (lv_at hl 2 rfl) ?_
      refine get_11_12 C hP (lr_0 hL) (lk_0 hL) inlX11 mw_33 (lf_0_12 hL) dX11_goOn_162 ?_
      refine x_alen (v := (6 : Int32)) C hP (lr_39 hL) (lk_39 hL) (by decide) (ln_39 hL) (by decide +kernel) dX11_goOn_165 ?_
      refine lv_icmp_ge (tgt := 186) hx hb dX11_goOn_166 (by decide) (fun c_16 => ?_) (fun c_16 => ?_) -- COND 16 by_cases c_16 : (6 : Int32) ≤ x11
      · have hF := ite_t hF c_16
        exact w_X11_goOn_186 C hrec_54 hρ0 hL hF hP hS (lv_sub hl [2, 3, 4, 5, 6, 7] rfl)
      · have hF := ite_f hF c_16
        refine lv_aload_n hx hb dX11_goOn_169 rfl (lv_at hl 2 rfl) ?_
        refine get_11_12 C hP (lr_0 hL) (lk_0 hL) inlX11 mw_33 (lf_0_12 hL) dX11_goOn_170 ?_
        refine lv_iload hx hb dX11_goOn_173 (lv_at hl 1 rfl) ?_
        refine lv_dup2_11 hx hb dX11_goOn_175 rfl rfl ?_
        obtain ⟨g26, hF⟩ := gd_1 hF
        refine x_iald C hP (lr_39 hL) (lk_39 hL) (ln_39 hL) g26 dX11_goOn_176 ?_
        refine lv_aload_n hx hb dX11_goOn_177 rfl (lv_at hl 2 rfl) ?_
        refine get_11_11 C hP (lr_0 hL) (lk_0 hL) inlX11 mw_32 (lf_0_11 hL) dX11_goOn_178 ?_
        refine get_3_6 C hP (lr_37 hL) (lk_37 hL) inlX3 mw_528 dX11_goOn_181 ?_
        refine lv_iadd hx hb dX11_goOn_184 ?_
        obtain ⟨x27, ex27, hF⟩ := nm_1 hF
        refine x_top ex27 ?_
        obtain ⟨g28, hF⟩ := gd_1 hF
        obtain ⟨σ30, eσ30, hF⟩ := nm_1 hF
        refine x_iast (σ1 := σ30) C hP hS (lr_39 hL) (lk_39 hL) (ln_39 hL) g28 eσ30 dX11_goOn_185 (fun H locs hP hS => ?_)
        exact w_X11_goOn_186 C hrec_54 hρ0 hL hF hP hS (lv_sub hl [2, 3, 4, 5, 6, 7] rfl)
    · have hF := ite_t hF c_15
      obtain rfl := ret_1 hF
      subst hρ0
      exact x_vret rfl C hP hS dX11_goOn_158
set_option maxHeartbeats 4000000 in
set_option maxRecDepth 100000 in
theorem w_X11_goOn_54 {N : Nat} {K len : Nat → Nat} {a1 : Int32} {a2 : Int32} {a3 : Int32} {a4 : Int32} {p : Program} {e : Env} {s : State} {m : MethodId} {args : Array Value} {below : List Frame} {meth : Method} {c : Code} {ρ0 : RG} {σ1 : SG} (C : Cx Y D N ad p s m args meth c cX11_goOn 8 none RX11 wsL_law) : ∀ (n : Nat) (σ : SG) (ρ : RG) (v1 : Int32) (v2 : Int32) (v3 : Int32) (v4 : Int32) (v5 : Int32) (H : Heap) (locs : List Loc) (ls : Array Slot), ρ = ρ0 → Lay N K len ρ → F_X11_goOn_54 N K len a1 a2 a3 a4 n σ ρ v1 v2 v3 v4 v5 = some σ1 → WP Y D N ad K len σ ρ H → va_S (AA N ad s.heap.size) s.heap H locs → lv_has ls 8 [(0, .ref (ad 0)), (1, .int v1), (2, .int v2), (3, .int v3), (4, .int v4), (5, .int v5)] → W p l e rm_X11_goOn s m args below meth c H locs 0 0 (MQ below (QW Y D N ad K len σ1 ρ0 (AA N ad s.heap.size) none) args s 0 0 (AA N ad s.heap.size)) (F0 m 54 ls []) := by
  have hx := C.1.1
  have hb := C.1.2.1
  intro n
  induction n with
  | zero => intro σ ρ v1 v2 v3 v4 v5 H locs ls hρ0 hL hF; cases hF
  | succ n ih =>
    intro σ ρ v1 v2 v3 v4 v5 H locs ls hρ0 hL hF hP hS hl
    unfold F_X11_goOn_54 at hF
    refine lv_iload hx hb dX11_goOn_54 (lv_at hl 5 rfl) ?_
    refine lv_iload_n hx hb dX11_goOn_56 rfl (lv_at hl 1 rfl) ?_
    refine lv_icmp_ge (tgt := 252) hx hb dX11_goOn_57 (by decide) (fun c_7 => ?_) (fun c_7 => ?_) -- COND 7 by_cases c_7 : v1 ≤ v5
    · have hF := ite_t hF c_7
      obtain rfl := ret_1 hF
      subst hρ0
      exact x_vret rfl C hP hS dX11_goOn_252
    · have hF := ite_f hF c_7
      refine lv_aload_n hx hb dX11_goOn_60 rfl (lv_at hl 0 rfl) ?_
      refine get_11_0 C hP (lr_0 hL) (lk_0 hL) inlX11 mw_15 (lf_0_0 hL) dX11_goOn_61 ?_
      refine get_8_1 C hP (lr_1 hL) (lk_1 hL) inlX8 mw_352 dX11_goOn_64 ?_
      refine lv_if_le (tgt := 252) hx hb dX11_goOn_67 (by decide) (fun c_8 => ?_) (fun c_8 => ?_) -- COND 8 by_cases c_8 : (σ 1 1) ≤ 0
      · have hF := ite_t hF c_8
        obtain rfl := ret_1 hF
        subst hρ0
        exact x_vret rfl C hP hS dX11_goOn_252
      · have hF := ite_f hF c_8
        refine lv_iload hx hb dX11_goOn_70 (lv_at hl 5 rfl) ?_
        refine lv_iload_n hx hb dX11_goOn_72 rfl (lv_at hl 2 rfl) ?_
        refine lv_icmp_ne (tgt := 104) hx hb dX11_goOn_73 (by decide) (fun c_9 => ?_) (fun c_9 => ?_) -- COND 9 rcases (Decidable.em (v5 = v2)).symm with c_9 | c_9
        · have hF := ite_f hF c_9
          exact w_X11_goOn_104 C ih hρ0 hL hF hP hS (lv_sub hl [0, 1, 2, 3, 4, 5] rfl)
        · have hF := ite_t hF c_9
          refine lv_aload_n hx hb dX11_goOn_76 rfl (lv_at hl 0 rfl) ?_
          refine get_11_11 C hP (lr_0 hL) (lk_0 hL) inlX11 mw_32 (lf_0_11 hL) dX11_goOn_77 ?_
          obtain ⟨r31, hq31, hF⟩ := bn_1 hF
          refine x_callV (ci := 3) rfl rfl C hP hS (c_X3_leastCorner hL (il_37 hL) hq31) (lr_37 hL) (lk_37 hL) (cwV 0 C.1.2.2.2.2 (gdV mw_693 mw_644 mw_645 mw_31 mw_646) rfl rfl rfl hd_X3_leastCorner ⟨Nat.le_of_ble_eq_true rfl, Nat.le_of_ble_eq_true rfl⟩) rfl rfl hl.1 (Nat.le_of_ble_eq_true rfl) ⟨Nat.zero_le _, Nat.zero_le _⟩ dX11_goOn_80 (fun H locs hP hS => ?_)
          refine lv_aload_n hx hb dX11_goOn_83 rfl (lv_at hl 0 rfl) ?_
          refine get_11_0 C hP (lr_0 hL) (lk_0 hL) inlX11 mw_15 (lf_0_0 hL) dX11_goOn_84 ?_
          refine get_8_3 C hP (lr_1 hL) (lk_1 hL) inlX8 mw_113 (lf_1_3 hL) dX11_goOn_87 ?_
          refine get_0_1 C hP (lr_5 hL) (lk_5 hL) inlX0 mw_505 dX11_goOn_90 ?_
          refine lv_icmp_lt (tgt := 104) hx hb dX11_goOn_93 (by decide) (fun c_32 => ?_) (fun c_32 => ?_) -- COND 32 by_cases c_32 : r31 < (σ 5 1)
          · have hF := ite_t hF c_32
            exact w_X11_goOn_104 C ih hρ0 hL hF hP hS (lv_sub hl [0, 1, 2, 3, 4, 5] rfl)
          · have hF := ite_f hF c_32
            refine lv_aload_n hx hb dX11_goOn_96 rfl (lv_at hl 0 rfl) ?_
            refine get_11_11 C hP (lr_0 hL) (lk_0 hL) inlX11 mw_32 (lf_0_11 hL) dX11_goOn_97 ?_
            obtain ⟨r33, σ33, hq33, hF⟩ := bn2_1 hF
            refine x_callV (ci := 3) rfl rfl C hP hS (c_X3_straighten hL (il_37 hL) hq33) (lr_37 hL) (lk_37 hL) (cwV 0 C.1.2.2.2.2 (gdV mw_694 mw_575 mw_576 mw_31 mw_577) rfl rfl rfl hd_X3_straighten ⟨Nat.le_of_ble_eq_true rfl, Nat.le_of_ble_eq_true rfl⟩) rfl rfl hl.1 (Nat.le_of_ble_eq_true rfl) ⟨Nat.zero_le _, Nat.zero_le _⟩ dX11_goOn_100 (fun H locs hP hS => ?_)
            refine lv_pop hx hb dX11_goOn_103 rfl ?_
            exact w_X11_goOn_104 C ih hρ0 hL hF hP hS (lv_sub hl [0, 1, 2, 3, 4, 5] rfl)
set_option maxHeartbeats 4000000 in
set_option maxRecDepth 100000 in
theorem w_X11_goOn_27 {N : Nat} {K len : Nat → Nat} {a1 : Int32} {a2 : Int32} {a3 : Int32} {a4 : Int32} {p : Program} {e : Env} {s : State} {m : MethodId} {args : Array Value} {below : List Frame} {meth : Method} {c : Code} {ρ0 : RG} {σ1 : SG} (C : Cx Y D N ad p s m args meth c cX11_goOn 8 none RX11 wsL_law) : ∀ (n : Nat) (σ : SG) (ρ : RG) (v1 : Int32) (v2 : Int32) (v3 : Int32) (v4 : Int32) (v5 : Int32) (H : Heap) (locs : List Loc) (ls : Array Slot), ρ = ρ0 → Lay N K len ρ → F_X11_goOn_27 N K len a1 a2 a3 a4 n σ ρ v1 v2 v3 v4 v5 = some σ1 → WP Y D N ad K len σ ρ H → va_S (AA N ad s.heap.size) s.heap H locs → lv_has ls 8 [(0, .ref (ad 0)), (1, .int v1), (2, .int v2), (3, .int v3), (4, .int v4), (5, .int v5)] → W p l e rm_X11_goOn s m args below meth c H locs 0 0 (MQ below (QW Y D N ad K len σ1 ρ0 (AA N ad s.heap.size) none) args s 0 0 (AA N ad s.heap.size)) (F0 m 27 ls []) := by
  have hx := C.1.1
  have hb := C.1.2.1
  intro n
  induction n with
  | zero => intro σ ρ v1 v2 v3 v4 v5 H locs ls hρ0 hL hF; cases hF
  | succ n ih =>
    intro σ ρ v1 v2 v3 v4 v5 H locs ls hρ0 hL hF hP hS hl
    unfold F_X11_goOn_27 at hF
    refine lv_iload hx hb dX11_goOn_27 (lv_at hl 5 rfl) ?_
    refine lv_aload_n hx hb dX11_goOn_29 rfl (lv_at hl 0 rfl) ?_
    refine get_11_12 C hP (lr_0 hL) (lk_0 hL) inlX11 mw_33 (lf_0_12 hL) dX11_goOn_30 ?_
    refine x_alen (v := (6 : Int32)) C hP (lr_39 hL) (lk_39 hL) (by decide) (ln_39 hL) (by decide +kernel) dX11_goOn_33 ?_
    refine lv_icmp_ge (tgt := 51) hx hb dX11_goOn_34 (by decide) (fun c_6 => ?_) (fun c_6 => ?_) -- COND 6 by_cases c_6 : (6 : Int32) ≤ v5
    · have hF := ite_t hF c_6
      refine lv_iconst (v := 0) hx hb dX11_goOn_51 (by decide) ?_
      refine lv_istore (lv' := [(5, .int (0 : Int32)), (0, .ref (ad 0)), (1, .int v1), (2, .int v2), (3, .int v3), (4, .int v4)]) hx hb dX11_goOn_52 hl (by decide) rfl (fun ls hl => ?_)
      exact w_X11_goOn_54 C 1024 _ _ _ _ _ _ _ _ _ _ hρ0 hL hF hP hS (lv_sub hl [1, 2, 3, 4, 5, 0] rfl)
    · have hF := ite_f hF c_6
      refine lv_aload_n hx hb dX11_goOn_37 rfl (lv_at hl 0 rfl) ?_
      refine get_11_12 C hP (lr_0 hL) (lk_0 hL) inlX11 mw_33 (lf_0_12 hL) dX11_goOn_38 ?_
      refine lv_iload hx hb dX11_goOn_41 (lv_at hl 5 rfl) ?_
      refine lv_iconst (v := 0) hx hb dX11_goOn_43 (by decide) ?_
      obtain ⟨g34, hF⟩ := gd_1 hF
      obtain ⟨σ36, eσ36, hF⟩ := nm_1 hF
      refine x_iast (σ1 := σ36) C hP hS (lr_39 hL) (lk_39 hL) (ln_39 hL) g34 eσ36 dX11_goOn_44 (fun H locs hP hS => ?_)
      obtain ⟨x37, ex37, hF⟩ := nm_1 hF
      refine lv_iinc (v := x37) (lv' := [(5, .int x37), (0, .ref (ad 0)), (1, .int v1), (2, .int v2), (3, .int v3), (4, .int v4)]) hx hb dX11_goOn_45 hl (k := 5) rfl (by rw [ex37]; first | rfl | decide) (by decide) rfl (fun ls hl => ?_)
      refine lv_goto (tgt := 27) hx hb dX11_goOn_48 (by decide) ?_
      exact ih _ _ _ _ _ _ _ _ _ _ hρ0 hL hF hP hS (lv_sub hl [1, 2, 3, 4, 5, 0] rfl)
set_option maxHeartbeats 4000000 in
set_option maxRecDepth 100000 in
theorem w_X11_goOn_0 {N : Nat} {K len : Nat → Nat} {a1 : Int32} {a2 : Int32} {a3 : Int32} {a4 : Int32} {p : Program} {e : Env} {s : State} {m : MethodId} {args : Array Value} {below : List Frame} {meth : Method} {c : Code} {ρ0 : RG} {σ1 : SG} (C : Cx Y D N ad p s m args meth c cX11_goOn 8 none RX11 wsL_law) {σ : SG} {ρ : RG} {H : Heap} {locs : List Loc} {ls : Array Slot} (hρ0 : ρ = ρ0) (hL : Lay N K len ρ) (hF : F_X11_goOn N K len a1 a2 a3 a4 σ ρ = some σ1) (hP : WP Y D N ad K len σ ρ H) (hS : va_S (AA N ad s.heap.size) s.heap H locs) (hl : lv_has ls 8 [(0, .ref (ad 0)), (1, .int a1), (2, .int a2), (3, .int a3), (4, .int a4)]) : W p l e rm_X11_goOn s m args below meth c H locs 0 0 (MQ below (QW Y D N ad K len σ1 ρ0 (AA N ad s.heap.size) none) args s 0 0 (AA N ad s.heap.size)) (F0 m 0 ls []) := by
  have hx := C.1.1
  have hb := C.1.2.1
  unfold F_X11_goOn at hF
  refine lv_aload_n hx hb dX11_goOn_0 rfl (lv_at hl 0 rfl) ?_
  refine get_11_11 C hP (lr_0 hL) (lk_0 hL) inlX11 mw_32 (lf_0_11 hL) dX11_goOn_1 ?_
  refine lv_aload_n hx hb dX11_goOn_4 rfl (lv_at hl 0 rfl) ?_
  refine get_11_0 C hP (lr_0 hL) (lk_0 hL) inlX11 mw_15 (lf_0_0 hL) dX11_goOn_5 ?_
  refine get_8_2 C hP (lr_1 hL) (lk_1 hL) inlX8 mw_488 (lf_1_2 hL) dX11_goOn_8 ?_
  obtain ⟨σ1, hq1, hF⟩ := bn_1 hF
  refine x_callV (ci := 3) rfl rfl C hP hS (c_X3_takes hL (il_37 hL) (il_3 hL) hq1) (lr_37 hL) (lk_37 hL) (cwV 1 C.1.2.2.2.2 (gdV mw_720 mw_721 mw_722 mw_31 mw_723) rfl rfl rfl hd_X3_takes ⟨Nat.le_of_ble_eq_true rfl, Nat.le_of_ble_eq_true rfl⟩) rfl rfl hl.1 (Nat.le_of_ble_eq_true rfl) ⟨Nat.zero_le _, Nat.zero_le _⟩ dX11_goOn_11 (fun H locs hP hS => ?_)
  refine lv_aload_n hx hb dX11_goOn_14 rfl (lv_at hl 0 rfl) ?_
  refine lv_iconst (v := 0) hx hb dX11_goOn_15 (by decide) ?_
  obtain ⟨σ3, eσ3, hF⟩ := nm_1 hF
  refine put_11_13 C hP hS (lr_0 hL) (lk_0 hL) inlX11 mw_744 eσ3 dX11_goOn_16 (fun H locs hP hS => ?_)
  refine lv_aload_n hx hb dX11_goOn_19 rfl (lv_at hl 0 rfl) ?_
  refine lv_iconst (v := 0) hx hb dX11_goOn_20 (by decide) ?_
  obtain ⟨σ5, eσ5, hF⟩ := nm_1 hF
  refine put_11_14 C hP hS (lr_0 hL) (lk_0 hL) inlX11 mw_749 eσ5 dX11_goOn_21 (fun H locs hP hS => ?_)
  refine lv_iconst (v := 0) hx hb dX11_goOn_24 (by decide) ?_
  refine lv_istore (lv' := [(5, .int (0 : Int32)), (0, .ref (ad 0)), (1, .int a1), (2, .int a2), (3, .int a3), (4, .int a4)]) hx hb dX11_goOn_25 hl (by decide) rfl (fun ls hl => ?_)
  exact w_X11_goOn_27 C 1024 _ _ _ _ _ _ _ _ _ _ hρ0 hL hF hP hS (lv_sub hl [1, 2, 3, 4, 5, 0] rfl)
set_option maxHeartbeats 4000000 in
set_option maxRecDepth 100000 in
theorem c_X11_goOn {N : Nat} {K len : Nat → Nat} {a1 : Int32} {a2 : Int32} {a3 : Int32} {a4 : Int32} {σ1 : SG} {σ : SG} {ρ : RG} (hL : Lay N K len ρ) (hF : F_X11_goOn N K len a1 a2 a3 a4 σ ρ = some σ1) : MT l Y D N ad K len yX11_goOn (Cond.code yX11_goOn cX11_goOn 8 none :: wsL_law) rm_X11_goOn [.ref (ad 0), .int a1, .int a2, .int a3, .int a4] σ ρ none σ1 ρ := by
  refine mt_of (cc := cX11_goOn) (nL := 8) (ret := none) (by decide) (Nat.le_of_ble_eq_true rfl) ?_
  intro p e s m args below meth c ls C hnm hP hS hl
  exact w_X11_goOn_0 C rfl hL hF hP hS hl

/-! CutCrooked.public int on(int, int);  -/
theorem dX11_on_0 : decode cX11_on 0 = .ok (.aload_n 0, 1) := by decide +kernel
theorem dX11_on_1 : decode cX11_on 1 = .ok (.getfield 12, 3) := by decide +kernel
theorem dX11_on_4 : decode cX11_on 4 = .ok (.iload_n 2, 1) := by decide +kernel
theorem dX11_on_5 : decode cX11_on 5 = .ok (.bipush 10, 2) := by decide +kernel
theorem dX11_on_7 : decode cX11_on 7 = .ok (.isub, 1) := by decide +kernel
theorem dX11_on_8 : decode cX11_on 8 = .ok (.invokevirtual 100, 3) := by decide +kernel
theorem dX11_on_11 : decode cX11_on 11 = .ok (.ifnull 7, 3) := by decide +kernel
theorem dX11_on_14 : decode cX11_on 14 = .ok (.iconst 1, 1) := by decide +kernel
theorem dX11_on_15 : decode cX11_on 15 = .ok (.goto 4, 3) := by decide +kernel
theorem dX11_on_18 : decode cX11_on 18 = .ok (.iconst 0, 1) := by decide +kernel
theorem dX11_on_19 : decode cX11_on 19 = .ok (.istore_n 3, 1) := by decide +kernel
theorem dX11_on_20 : decode cX11_on 20 = .ok (.iload_n 2, 1) := by decide +kernel
theorem dX11_on_21 : decode cX11_on 21 = .ok (.iconst 0, 1) := by decide +kernel
theorem dX11_on_22 : decode cX11_on 22 = .ok (.iconst 5, 1) := by decide +kernel
theorem dX11_on_23 : decode cX11_on 23 = .ok (.invokestatic 56, 3) := by decide +kernel
theorem dX11_on_26 : decode cX11_on 26 = .ok (.ifCond .ne 11, 3) := by decide +kernel
theorem dX11_on_29 : decode cX11_on 29 = .ok (.iload_n 3, 1) := by decide +kernel
theorem dX11_on_30 : decode cX11_on 30 = .ok (.ifCond .ne 7, 3) := by decide +kernel
theorem dX11_on_33 : decode cX11_on 33 = .ok (.sipush (-10001), 3) := by decide +kernel
theorem dX11_on_36 : decode cX11_on 36 = .ok (.ireturn, 1) := by decide +kernel
theorem dX11_on_37 : decode cX11_on 37 = .ok (.iload_n 1, 1) := by decide +kernel
theorem dX11_on_38 : decode cX11_on 38 = .ok (.iconst 0, 1) := by decide +kernel
theorem dX11_on_39 : decode cX11_on 39 = .ok (.bipush 40, 2) := by decide +kernel
theorem dX11_on_41 : decode cX11_on 41 = .ok (.invokestatic 56, 3) := by decide +kernel
theorem dX11_on_44 : decode cX11_on 44 = .ok (.ifCond .ne 7, 3) := by decide +kernel
theorem dX11_on_47 : decode cX11_on 47 = .ok (.sipush (-10002), 3) := by decide +kernel
theorem dX11_on_50 : decode cX11_on 50 = .ok (.ireturn, 1) := by decide +kernel
theorem dX11_on_51 : decode cX11_on 51 = .ok (.aload_n 0, 1) := by decide +kernel
theorem dX11_on_52 : decode cX11_on 52 = .ok (.iload_n 1, 1) := by decide +kernel
theorem dX11_on_53 : decode cX11_on 53 = .ok (.iconst (-1), 1) := by decide +kernel
theorem dX11_on_54 : decode cX11_on 54 = .ok (.iconst 0, 1) := by decide +kernel
theorem dX11_on_55 : decode cX11_on 55 = .ok (.iconst 0, 1) := by decide +kernel
theorem dX11_on_56 : decode cX11_on 56 = .ok (.invokevirtual 189, 3) := by decide +kernel
theorem dX11_on_59 : decode cX11_on 59 = .ok (.iload_n 2, 1) := by decide +kernel
theorem dX11_on_60 : decode cX11_on 60 = .ok (.tableswitch 107 0 5 #[40, 48, 56, 64, 83, 102], 40) := by decide +kernel
theorem dX11_on_100 : decode cX11_on 100 = .ok (.aload_n 0, 1) := by decide +kernel
theorem dX11_on_101 : decode cX11_on 101 = .ok (.getfield 49, 3) := by decide +kernel
theorem dX11_on_104 : decode cX11_on 104 = .ok (.getfield 140, 3) := by decide +kernel
theorem dX11_on_107 : decode cX11_on 107 = .ok (.ireturn, 1) := by decide +kernel
theorem dX11_on_108 : decode cX11_on 108 = .ok (.aload_n 0, 1) := by decide +kernel
theorem dX11_on_109 : decode cX11_on 109 = .ok (.getfield 49, 3) := by decide +kernel
theorem dX11_on_112 : decode cX11_on 112 = .ok (.getfield 141, 3) := by decide +kernel
theorem dX11_on_115 : decode cX11_on 115 = .ok (.ireturn, 1) := by decide +kernel
theorem dX11_on_116 : decode cX11_on 116 = .ok (.aload_n 0, 1) := by decide +kernel
theorem dX11_on_117 : decode cX11_on 117 = .ok (.getfield 49, 3) := by decide +kernel
theorem dX11_on_120 : decode cX11_on 120 = .ok (.getfield 144, 3) := by decide +kernel
theorem dX11_on_123 : decode cX11_on 123 = .ok (.ireturn, 1) := by decide +kernel
theorem dX11_on_124 : decode cX11_on 124 = .ok (.aload_n 0, 1) := by decide +kernel
theorem dX11_on_125 : decode cX11_on 125 = .ok (.getfield 49, 3) := by decide +kernel
theorem dX11_on_128 : decode cX11_on 128 = .ok (.getfield 150, 3) := by decide +kernel
theorem dX11_on_131 : decode cX11_on 131 = .ok (.aload_n 0, 1) := by decide +kernel
theorem dX11_on_132 : decode cX11_on 132 = .ok (.getfield 12, 3) := by decide +kernel
theorem dX11_on_135 : decode cX11_on 135 = .ok (.getfield 130, 3) := by decide +kernel
theorem dX11_on_138 : decode cX11_on 138 = .ok (.getfield 150, 3) := by decide +kernel
theorem dX11_on_141 : decode cX11_on 141 = .ok (.isub, 1) := by decide +kernel
theorem dX11_on_142 : decode cX11_on 142 = .ok (.ireturn, 1) := by decide +kernel
theorem dX11_on_143 : decode cX11_on 143 = .ok (.aload_n 0, 1) := by decide +kernel
theorem dX11_on_144 : decode cX11_on 144 = .ok (.getfield 49, 3) := by decide +kernel
theorem dX11_on_147 : decode cX11_on 147 = .ok (.getfield 147, 3) := by decide +kernel
theorem dX11_on_150 : decode cX11_on 150 = .ok (.aload_n 0, 1) := by decide +kernel
theorem dX11_on_151 : decode cX11_on 151 = .ok (.getfield 12, 3) := by decide +kernel
theorem dX11_on_154 : decode cX11_on 154 = .ok (.getfield 130, 3) := by decide +kernel
theorem dX11_on_157 : decode cX11_on 157 = .ok (.getfield 147, 3) := by decide +kernel
theorem dX11_on_160 : decode cX11_on 160 = .ok (.isub, 1) := by decide +kernel
theorem dX11_on_161 : decode cX11_on 161 = .ok (.ireturn, 1) := by decide +kernel
theorem dX11_on_162 : decode cX11_on 162 = .ok (.aload_n 0, 1) := by decide +kernel
theorem dX11_on_163 : decode cX11_on 163 = .ok (.getfield 193, 3) := by decide +kernel
theorem dX11_on_166 : decode cX11_on 166 = .ok (.ireturn, 1) := by decide +kernel
theorem dX11_on_167 : decode cX11_on 167 = .ok (.aload_n 0, 1) := by decide +kernel
theorem dX11_on_168 : decode cX11_on 168 = .ok (.getfield 53, 3) := by decide +kernel
theorem dX11_on_171 : decode cX11_on 171 = .ok (.iload_n 2, 1) := by decide +kernel
theorem dX11_on_172 : decode cX11_on 172 = .ok (.bipush 10, 2) := by decide +kernel
theorem dX11_on_174 : decode cX11_on 174 = .ok (.isub, 1) := by decide +kernel
theorem dX11_on_175 : decode cX11_on 175 = .ok (.invokestatic 196, 3) := by decide +kernel
theorem dX11_on_178 : decode cX11_on 178 = .ok (.ireturn, 1) := by decide +kernel
theorem hd_X11_on : yX11_on.cls = RX11 ∧ yX11_on.cls ≠ "java/lang/invoke/MethodHandle" ∧ yX11_on.cls ≠ "java/lang/invoke/VarHandle" ∧ (parseMethodDescriptor yX11_on.desc).map (fun d => d.parameters.length) = some 2 := by decide +kernel
abbrev rm_X11_on : Room := { frames := 6, cells := 0, slots := 0, locals := 156 }
def F_X11_on_37 (N : Nat) (K len : Nat → Nat) (a1 : Int32) (a2 : Int32) (σ : SG) (ρ : RG) (v1 : Int32) (v2 : Int32) : Option (Int32 × SG) :=
  bn (F_X11_isWithin v1 (0 : Int32) (40 : Int32) σ ρ) fun r6 =>
  if r6 = 0 then
    some ((-10002 : Int32), σ)
  else
    bn (F_X11_goOn N K len v1 (-1 : Int32) (0 : Int32) (0 : Int32) σ ρ) fun σ8 =>
    if v2 = 0 then
      some ((σ8 37 1), σ8)
    else
      if v2 = 1 then
        some ((σ8 37 2), σ8)
      else
        if v2 = 2 then
          some ((σ8 37 3), σ8)
        else
          if v2 = 3 then
            nm ((σ8 37 5) - (σ8 3 5)) fun x10 =>
            some (x10, σ8)
          else
            if v2 = 4 then
              nm ((σ8 37 4) - (σ8 3 4)) fun x11 =>
              some (x11, σ8)
            else
              if v2 = 5 then
                some ((σ8 0 13), σ8)
              else
                nm (v2 - (10 : Int32)) fun x12 =>
                bn (F_X11_valueAt 39 6 x12 σ8 ρ) fun r13 =>
                some (r13, σ8)
def F_X11_on_19 (N : Nat) (K len : Nat → Nat) (a1 : Int32) (a2 : Int32) (σ : SG) (ρ : RG) (v1 : Int32) (v2 : Int32) (k0 : Int32) : Option (Int32 × SG) :=
  bn (F_X11_isWithin v2 (0 : Int32) (5 : Int32) σ ρ) fun r4 =>
  if r4 = 0 then
    if k0 = 0 then
      some ((-10001 : Int32), σ)
    else
      F_X11_on_37 N K len a1 a2 σ ρ v1 v2
  else
    F_X11_on_37 N K len a1 a2 σ ρ v1 v2
def F_X11_on (N : Nat) (K len : Nat → Nat) (a1 : Int32) (a2 : Int32) (σ : SG) (ρ : RG) : Option (Int32 × SG) :=
  nm (a2 - (10 : Int32)) fun x1 =>
  bn (F_X8_cutterAt_1 x1 σ ρ) fun o2 =>
  oc o2
   (
    F_X11_on_19 N K len a1 a2 σ ρ a1 a2 (0 : Int32))
   (fun c3 =>
    gd (isC N K c3) <|
    F_X11_on_19 N K len a1 a2 σ ρ a1 a2 (1 : Int32))
set_option maxHeartbeats 4000000 in
set_option maxRecDepth 100000 in
theorem w_X11_on_37 {N : Nat} {K len : Nat → Nat} {a1 : Int32} {a2 : Int32} {p : Program} {e : Env} {s : State} {m : MethodId} {args : Array Value} {below : List Frame} {meth : Method} {c : Code} {ρ0 : RG} {r : Int32} {σ1 : SG} (C : Cx Y D N ad p s m args meth c cX11_on 4 (some .int) RX11 wsL_law) {σ : SG} {ρ : RG} {v1 : Int32} {v2 : Int32} {H : Heap} {locs : List Loc} {ls : Array Slot} (hρ0 : ρ = ρ0) (hL : Lay N K len ρ) (hF : F_X11_on_37 N K len a1 a2 σ ρ v1 v2 = some (r, σ1)) (hP : WP Y D N ad K len σ ρ H) (hS : va_S (AA N ad s.heap.size) s.heap H locs) (hl : lv_has ls 4 [(0, .ref (ad 0)), (1, .int v1), (2, .int v2)]) : W p l e rm_X11_on s m args below meth c H locs 0 0 (MQ below (QW Y D N ad K len σ1 ρ0 (AA N ad s.heap.size) (some (.int r))) args s 0 0 (AA N ad s.heap.size)) (F0 m 37 ls []) := by
  have hx := C.1.1
  have hb := C.1.2.1
  unfold F_X11_on_37 at hF
  refine lv_iload_n hx hb dX11_on_37 rfl (lv_at hl 1 rfl) ?_
  refine lv_iconst (v := 0) hx hb dX11_on_38 (by decide) ?_
  refine lv_bipush (v := 40) hx hb dX11_on_39 (by decide +kernel) ?_
  obtain ⟨r6, hq6, hF⟩ := bn_1 hF
  refine x_callS C hP hS (c_X11_isWithin hL hq6) (va_cwS 3 C.1.2.2.2.2 (gdS mw_97 mw_98 mw_2 mw_99) rfl rfl rfl hd_X11_isWithin.2 ⟨Nat.le_of_ble_eq_true rfl, Nat.le_of_ble_eq_true rfl⟩) rfl rfl hl.1 (Nat.le_of_ble_eq_true rfl) ⟨Nat.zero_le _, Nat.zero_le _⟩ dX11_on_41 (fun H locs hP hS => ?_)
  refine lv_if_ne (tgt := 51) hx hb dX11_on_44 (by decide) (fun c_7 => ?_) (fun c_7 => ?_) -- COND 7 rcases (Decidable.em (r6 = 0)).symm with c_7 | c_7
  · have hF := ite_f hF c_7
    refine lv_aload_n hx hb dX11_on_51 rfl (lv_at hl 0 rfl) ?_
    refine lv_iload_n hx hb dX11_on_52 rfl (lv_at hl 1 rfl) ?_
    refine lv_iconst (v := -1) hx hb dX11_on_53 (by decide) ?_
    refine lv_iconst (v := 0) hx hb dX11_on_54 (by decide) ?_
    refine lv_iconst (v := 0) hx hb dX11_on_55 (by decide) ?_
    obtain ⟨σ8, hq8, hF⟩ := bn_1 hF
    refine x_callV (ci := 11) rfl rfl C hP hS (c_X11_goOn hL hq8) (lr_0 hL) (lk_0 hL) (cwV 4 C.1.2.2.2.2 (gdV mw_745 mw_746 mw_747 mw_2 mw_748) rfl rfl rfl hd_X11_goOn ⟨Nat.le_of_ble_eq_true rfl, Nat.le_of_ble_eq_true rfl⟩) rfl rfl hl.1 (Nat.le_of_ble_eq_true rfl) ⟨Nat.zero_le _, Nat.zero_le _⟩ dX11_on_56 (fun H locs hP hS => ?_)
    refine lv_iload_n hx hb dX11_on_59 rfl (lv_at hl 2 rfl) ?_
    by_cases cs9_0 : v2 = 0
    · have hF := ite_t hF cs9_0
      refine lv_tableIn (tgt := 100) hx hb dX11_on_60 (by rw [cs9_0]; decide) (by rw [cs9_0]; decide) (by rw [cs9_0]; rfl) (by decide) ?_
      refine lv_aload_n hx hb dX11_on_100 rfl (lv_at hl 0 rfl) ?_
      refine get_11_11 C hP (lr_0 hL) (lk_0 hL) inlX11 mw_32 (lf_0_11 hL) dX11_on_101 ?_
      refine get_3_1 C hP (lr_37 hL) (lk_37 hL) inlX3 mw_499 dX11_on_104 ?_
      obtain ⟨rfl, rfl⟩ := ret_2 hF
      subst hρ0
      exact x_iret rfl C hP hS dX11_on_107
    · have hF := ite_f hF cs9_0
      by_cases cs9_1 : v2 = 1
      · have hF := ite_t hF cs9_1
        refine lv_tableIn (tgt := 108) hx hb dX11_on_60 (by rw [cs9_1]; decide) (by rw [cs9_1]; decide) (by rw [cs9_1]; rfl) (by decide) ?_
        refine lv_aload_n hx hb dX11_on_108 rfl (lv_at hl 0 rfl) ?_
        refine get_11_11 C hP (lr_0 hL) (lk_0 hL) inlX11 mw_32 (lf_0_11 hL) dX11_on_109 ?_
        refine get_3_2 C hP (lr_37 hL) (lk_37 hL) inlX3 mw_500 dX11_on_112 ?_
        obtain ⟨rfl, rfl⟩ := ret_2 hF
        subst hρ0
        exact x_iret rfl C hP hS dX11_on_115
      · have hF := ite_f hF cs9_1
        by_cases cs9_2 : v2 = 2
        · have hF := ite_t hF cs9_2
          refine lv_tableIn (tgt := 116) hx hb dX11_on_60 (by rw [cs9_2]; decide) (by rw [cs9_2]; decide) (by rw [cs9_2]; rfl) (by decide) ?_
          refine lv_aload_n hx hb dX11_on_116 rfl (lv_at hl 0 rfl) ?_
          refine get_11_11 C hP (lr_0 hL) (lk_0 hL) inlX11 mw_32 (lf_0_11 hL) dX11_on_117 ?_
          refine get_3_3 C hP (lr_37 hL) (lk_37 hL) inlX3 mw_501 dX11_on_120 ?_
          obtain ⟨rfl, rfl⟩ := ret_2 hF
          subst hρ0
          exact x_iret rfl C hP hS dX11_on_123
        · have hF := ite_f hF cs9_2
          by_cases cs9_3 : v2 = 3
          · have hF := ite_t hF cs9_3
            refine lv_tableIn (tgt := 124) hx hb dX11_on_60 (by rw [cs9_3]; decide) (by rw [cs9_3]; decide) (by rw [cs9_3]; rfl) (by decide) ?_
            refine lv_aload_n hx hb dX11_on_124 rfl (lv_at hl 0 rfl) ?_
            refine get_11_11 C hP (lr_0 hL) (lk_0 hL) inlX11 mw_32 (lf_0_11 hL) dX11_on_125 ?_
            refine get_3_5 C hP (lr_37 hL) (lk_37 hL) inlX3 mw_503 dX11_on_128 ?_
            refine lv_aload_n hx hb dX11_on_131 rfl (lv_at hl 0 rfl) ?_
            refine get_11_0 C hP (lr_0 hL) (lk_0 hL) inlX11 mw_15 (lf_0_0 hL) dX11_on_132 ?_
            refine get_8_2 C hP (lr_1 hL) (lk_1 hL) inlX8 mw_488 (lf_1_2 hL) dX11_on_135 ?_
            refine get_3_5 C hP (lr_3 hL) (lk_3 hL) inlX3 mw_503 dX11_on_138 ?_
            refine lv_isub hx hb dX11_on_141 ?_
            obtain ⟨x10, ex10, hF⟩ := nm_1 hF
            refine x_top ex10 ?_
            obtain ⟨rfl, rfl⟩ := ret_2 hF
            subst hρ0
            exact x_iret rfl C hP hS dX11_on_142
          · have hF := ite_f hF cs9_3
            by_cases cs9_4 : v2 = 4
            · have hF := ite_t hF cs9_4
              refine lv_tableIn (tgt := 143) hx hb dX11_on_60 (by rw [cs9_4]; decide) (by rw [cs9_4]; decide) (by rw [cs9_4]; rfl) (by decide) ?_
              refine lv_aload_n hx hb dX11_on_143 rfl (lv_at hl 0 rfl) ?_
              refine get_11_11 C hP (lr_0 hL) (lk_0 hL) inlX11 mw_32 (lf_0_11 hL) dX11_on_144 ?_
              refine get_3_4 C hP (lr_37 hL) (lk_37 hL) inlX3 mw_502 dX11_on_147 ?_
              refine lv_aload_n hx hb dX11_on_150 rfl (lv_at hl 0 rfl) ?_
              refine get_11_0 C hP (lr_0 hL) (lk_0 hL) inlX11 mw_15 (lf_0_0 hL) dX11_on_151 ?_
              refine get_8_2 C hP (lr_1 hL) (lk_1 hL) inlX8 mw_488 (lf_1_2 hL) dX11_on_154 ?_
              refine get_3_4 C hP (lr_3 hL) (lk_3 hL) inlX3 mw_502 dX11_on_157 ?_
              refine lv_isub hx hb dX11_on_160 ?_
              obtain ⟨x11, ex11, hF⟩ := nm_1 hF
              refine x_top ex11 ?_
              obtain ⟨rfl, rfl⟩ := ret_2 hF
              subst hρ0
              exact x_iret rfl C hP hS dX11_on_161
            · have hF := ite_f hF cs9_4
              by_cases cs9_5 : v2 = 5
              · have hF := ite_t hF cs9_5
                refine lv_tableIn (tgt := 162) hx hb dX11_on_60 (by rw [cs9_5]; decide) (by rw [cs9_5]; decide) (by rw [cs9_5]; rfl) (by decide) ?_
                refine lv_aload_n hx hb dX11_on_162 rfl (lv_at hl 0 rfl) ?_
                refine get_11_13 C hP (lr_0 hL) (lk_0 hL) inlX11 mw_744 dX11_on_163 ?_
                obtain ⟨rfl, rfl⟩ := ret_2 hF
                subst hρ0
                exact x_iret rfl C hP hS dX11_on_166
              · have hF := ite_f hF cs9_5
                refine lv_tableOut (tgt := 167) hx hb dX11_on_60 (by have q0 := ne_ti cs9_0 (by decide : (0 : Int32).toInt = 0); have q1 := ne_ti cs9_1 (by decide : (1 : Int32).toInt = 1); have q2 := ne_ti cs9_2 (by decide : (2 : Int32).toInt = 2); have q3 := ne_ti cs9_3 (by decide : (3 : Int32).toInt = 3); have q4 := ne_ti cs9_4 (by decide : (4 : Int32).toInt = 4); have q5 := ne_ti cs9_5 (by decide : (5 : Int32).toInt = 5); omega) (by decide) ?_
                refine lv_aload_n hx hb dX11_on_167 rfl (lv_at hl 0 rfl) ?_
                refine get_11_12 C hP (lr_0 hL) (lk_0 hL) inlX11 mw_33 (lf_0_12 hL) dX11_on_168 ?_
                refine lv_iload_n hx hb dX11_on_171 rfl (lv_at hl 2 rfl) ?_
                refine lv_bipush (v := 10) hx hb dX11_on_172 (by decide +kernel) ?_
                refine lv_isub hx hb dX11_on_174 ?_
                obtain ⟨x12, ex12, hF⟩ := nm_1 hF
                refine x_top ex12 ?_
                obtain ⟨r13, hq13, hF⟩ := bn_1 hF
                refine x_callS C hP hS (c_X11_valueAt hL ⟨(lr_39 hL), (lk_39 hL), (ln_39 hL)⟩ hq13) (va_cwS 2 C.1.2.2.2.2 (gdS mw_750 mw_557 mw_2 mw_558) rfl rfl rfl hd_X11_valueAt.2 ⟨Nat.le_of_ble_eq_true rfl, Nat.le_of_ble_eq_true rfl⟩) rfl rfl hl.1 (Nat.le_of_ble_eq_true rfl) ⟨Nat.zero_le _, Nat.zero_le _⟩ dX11_on_175 (fun H locs hP hS => ?_)
                obtain ⟨rfl, rfl⟩ := ret_2 hF
                subst hρ0
                exact x_iret rfl C hP hS dX11_on_178
  · have hF := ite_t hF c_7
    refine lv_sipush (v := -10002) hx hb dX11_on_47 (by decide +kernel) ?_
    obtain ⟨rfl, rfl⟩ := ret_2 hF
    subst hρ0
    exact x_iret rfl C hP hS dX11_on_50
set_option maxHeartbeats 4000000 in
set_option maxRecDepth 100000 in
theorem w_X11_on_19 {N : Nat} {K len : Nat → Nat} {a1 : Int32} {a2 : Int32} {p : Program} {e : Env} {s : State} {m : MethodId} {args : Array Value} {below : List Frame} {meth : Method} {c : Code} {ρ0 : RG} {r : Int32} {σ1 : SG} (C : Cx Y D N ad p s m args meth c cX11_on 4 (some .int) RX11 wsL_law) {σ : SG} {ρ : RG} {v1 : Int32} {v2 : Int32} {k0 : Int32} {H : Heap} {locs : List Loc} {ls : Array Slot} (hρ0 : ρ = ρ0) (hL : Lay N K len ρ) (hF : F_X11_on_19 N K len a1 a2 σ ρ v1 v2 k0 = some (r, σ1)) (hP : WP Y D N ad K len σ ρ H) (hS : va_S (AA N ad s.heap.size) s.heap H locs) (hl : lv_has ls 4 [(0, .ref (ad 0)), (1, .int v1), (2, .int v2)]) : W p l e rm_X11_on s m args below meth c H locs 0 0 (MQ below (QW Y D N ad K len σ1 ρ0 (AA N ad s.heap.size) (some (.int r))) args s 0 0 (AA N ad s.heap.size)) (F0 m 19 ls [.int k0]) := by
  have hx := C.1.1
  have hb := C.1.2.1
  unfold F_X11_on_19 at hF
  refine lv_istore_n (lv' := [(3, .int k0), (0, .ref (ad 0)), (1, .int v1), (2, .int v2)]) hx hb dX11_on_19 rfl hl (by decide) rfl (fun ls hl => ?_)
  refine lv_iload_n hx hb dX11_on_20 rfl (lv_at hl 3 rfl) ?_
  refine lv_iconst (v := 0) hx hb dX11_on_21 (by decide) ?_
  refine lv_iconst (v := 5) hx hb dX11_on_22 (by decide) ?_
  obtain ⟨r4, hq4, hF⟩ := bn_1 hF
  refine x_callS C hP hS (c_X11_isWithin hL hq4) (va_cwS 3 C.1.2.2.2.2 (gdS mw_97 mw_98 mw_2 mw_99) rfl rfl rfl hd_X11_isWithin.2 ⟨Nat.le_of_ble_eq_true rfl, Nat.le_of_ble_eq_true rfl⟩) rfl rfl hl.1 (Nat.le_of_ble_eq_true rfl) ⟨Nat.zero_le _, Nat.zero_le _⟩ dX11_on_23 (fun H locs hP hS => ?_)
  refine lv_if_ne (tgt := 37) hx hb dX11_on_26 (by decide) (fun c_5 => ?_) (fun c_5 => ?_) -- COND 5 rcases (Decidable.em (r4 = 0)).symm with c_5 | c_5
  · have hF := ite_f hF c_5
    exact w_X11_on_37 C hρ0 hL hF hP hS (lv_sub hl [1, 2, 3] rfl)
  · have hF := ite_t hF c_5
    refine lv_iload_n hx hb dX11_on_29 rfl (lv_at hl 0 rfl) ?_
    refine lv_if_ne (tgt := 37) hx hb dX11_on_30 (by decide) (fun c_14 => ?_) (fun c_14 => ?_) -- COND 14 rcases (Decidable.em (k0 = 0)).symm with c_14 | c_14
    · have hF := ite_f hF c_14
      exact w_X11_on_37 C hρ0 hL hF hP hS (lv_sub hl [1, 2, 3] rfl)
    · have hF := ite_t hF c_14
      refine lv_sipush (v := -10001) hx hb dX11_on_33 (by decide +kernel) ?_
      obtain ⟨rfl, rfl⟩ := ret_2 hF
      subst hρ0
      exact x_iret rfl C hP hS dX11_on_36
set_option maxHeartbeats 4000000 in
set_option maxRecDepth 100000 in
theorem w_X11_on_0 {N : Nat} {K len : Nat → Nat} {a1 : Int32} {a2 : Int32} {p : Program} {e : Env} {s : State} {m : MethodId} {args : Array Value} {below : List Frame} {meth : Method} {c : Code} {ρ0 : RG} {r : Int32} {σ1 : SG} (C : Cx Y D N ad p s m args meth c cX11_on 4 (some .int) RX11 wsL_law) {σ : SG} {ρ : RG} {H : Heap} {locs : List Loc} {ls : Array Slot} (hρ0 : ρ = ρ0) (hL : Lay N K len ρ) (hF : F_X11_on N K len a1 a2 σ ρ = some (r, σ1)) (hP : WP Y D N ad K len σ ρ H) (hS : va_S (AA N ad s.heap.size) s.heap H locs) (hl : lv_has ls 4 [(0, .ref (ad 0)), (1, .int a1), (2, .int a2)]) : W p l e rm_X11_on s m args below meth c H locs 0 0 (MQ below (QW Y D N ad K len σ1 ρ0 (AA N ad s.heap.size) (some (.int r))) args s 0 0 (AA N ad s.heap.size)) (F0 m 0 ls []) := by
  have hx := C.1.1
  have hb := C.1.2.1
  unfold F_X11_on at hF
  refine lv_aload_n hx hb dX11_on_0 rfl (lv_at hl 0 rfl) ?_
  refine get_11_0 C hP (lr_0 hL) (lk_0 hL) inlX11 mw_15 (lf_0_0 hL) dX11_on_1 ?_
  refine lv_iload_n hx hb dX11_on_4 rfl (lv_at hl 2 rfl) ?_
  refine lv_bipush (v := 10) hx hb dX11_on_5 (by decide +kernel) ?_
  refine lv_isub hx hb dX11_on_7 ?_
  obtain ⟨x1, ex1, hF⟩ := nm_1 hF
  refine x_top ex1 ?_
  obtain ⟨o2, hq2, hF⟩ := bn_1 hF
  refine x_callV (ci := 8) rfl rfl C hP hS (c_X8_cutterAt_1 hL hq2) (lr_1 hL) (lk_1 hL) (cwV 1 C.1.2.2.2.2 (gdV mw_428 mw_429 mw_430 mw_14 mw_431) rfl rfl rfl hd_X8_cutterAt ⟨Nat.le_of_ble_eq_true rfl, Nat.le_of_ble_eq_true rfl⟩) rfl rfl hl.1 (Nat.le_of_ble_eq_true rfl) ⟨Nat.zero_le _, Nat.zero_le _⟩ dX11_on_8 (fun H locs hP hS => ?_)
  rcases ho3 : o2 with _ | c3
  · have hF := oc_n hF ho3
    refine x_n ?_
    refine lv_ifnullN (tgt := 18) hx hb dX11_on_11 (by decide) ?_
    refine lv_iconst (v := 0) hx hb dX11_on_18 (by decide) ?_
    exact w_X11_on_19 C hρ0 hL hF hP hS (lv_sub hl [0, 1, 2] rfl)
  · have hF := oc_s hF ho3
    refine x_s ?_
    obtain ⟨gc3, hF⟩ := gd_1 hF
    refine lv_ifnull hx hb dX11_on_11 ?_
    refine lv_iconst (v := 1) hx hb dX11_on_14 (by decide) ?_
    refine lv_goto (tgt := 19) hx hb dX11_on_15 (by decide) ?_
    exact w_X11_on_19 C hρ0 hL hF hP hS (lv_sub hl [0, 1, 2] rfl)
set_option maxHeartbeats 4000000 in
set_option maxRecDepth 100000 in
theorem c_X11_on {N : Nat} {K len : Nat → Nat} {a1 : Int32} {a2 : Int32} {r : Int32} {σ1 : SG} {σ : SG} {ρ : RG} (hL : Lay N K len ρ) (hF : F_X11_on N K len a1 a2 σ ρ = some (r, σ1)) : MT l Y D N ad K len yX11_on (Cond.code yX11_on cX11_on 4 (some .int) :: wsL_law) rm_X11_on [.ref (ad 0), .int a1, .int a2] σ ρ (some (.int r)) σ1 ρ := by
  refine mt_of (cc := cX11_on) (nL := 4) (ret := (some .int)) (by decide) (Nat.le_of_ble_eq_true rfl) ?_
  intro p e s m args below meth c ls C hnm hP hS hl
  exact w_X11_on_0 C rfl hL hF hP hS hl

/-! CutCrooked.public int toasted(int, int);  -/
theorem dX11_toasted_0 : decode cX11_toasted 0 = .ok (.iload_n 1, 1) := by decide +kernel
theorem dX11_toasted_1 : decode cX11_toasted 1 = .ok (.iconst 0, 1) := by decide +kernel
theorem dX11_toasted_2 : decode cX11_toasted 2 = .ok (.bipush 40, 2) := by decide +kernel
theorem dX11_toasted_4 : decode cX11_toasted 4 = .ok (.invokestatic 56, 3) := by decide +kernel
theorem dX11_toasted_7 : decode cX11_toasted 7 = .ok (.ifCond .eq 13, 3) := by decide +kernel
theorem dX11_toasted_10 : decode cX11_toasted 10 = .ok (.iload_n 2, 1) := by decide +kernel
theorem dX11_toasted_11 : decode cX11_toasted 11 = .ok (.iconst 0, 1) := by decide +kernel
theorem dX11_toasted_12 : decode cX11_toasted 12 = .ok (.bipush 99, 2) := by decide +kernel
theorem dX11_toasted_14 : decode cX11_toasted 14 = .ok (.invokestatic 56, 3) := by decide +kernel
theorem dX11_toasted_17 : decode cX11_toasted 17 = .ok (.ifCond .ne 6, 3) := by decide +kernel
theorem dX11_toasted_20 : decode cX11_toasted 20 = .ok (.bipush (-2), 2) := by decide +kernel
theorem dX11_toasted_22 : decode cX11_toasted 22 = .ok (.ireturn, 1) := by decide +kernel
theorem dX11_toasted_23 : decode cX11_toasted 23 = .ok (.aload_n 0, 1) := by decide +kernel
theorem dX11_toasted_24 : decode cX11_toasted 24 = .ok (.iload_n 1, 1) := by decide +kernel
theorem dX11_toasted_25 : decode cX11_toasted 25 = .ok (.iconst (-1), 1) := by decide +kernel
theorem dX11_toasted_26 : decode cX11_toasted 26 = .ok (.iconst 0, 1) := by decide +kernel
theorem dX11_toasted_27 : decode cX11_toasted 27 = .ok (.iload_n 2, 1) := by decide +kernel
theorem dX11_toasted_28 : decode cX11_toasted 28 = .ok (.invokevirtual 189, 3) := by decide +kernel
theorem dX11_toasted_31 : decode cX11_toasted 31 = .ok (.aload_n 0, 1) := by decide +kernel
theorem dX11_toasted_32 : decode cX11_toasted 32 = .ok (.getfield 200, 3) := by decide +kernel
theorem dX11_toasted_35 : decode cX11_toasted 35 = .ok (.ireturn, 1) := by decide +kernel
theorem hd_X11_toasted : yX11_toasted.cls = RX11 ∧ yX11_toasted.cls ≠ "java/lang/invoke/MethodHandle" ∧ yX11_toasted.cls ≠ "java/lang/invoke/VarHandle" ∧ (parseMethodDescriptor yX11_toasted.desc).map (fun d => d.parameters.length) = some 2 := by decide +kernel
abbrev rm_X11_toasted : Room := { frames := 6, cells := 0, slots := 0, locals := 156 }
def F_X11_toasted (N : Nat) (K len : Nat → Nat) (a1 : Int32) (a2 : Int32) (σ : SG) (ρ : RG) : Option (Int32 × SG) :=
  bn (F_X11_isWithin a1 (0 : Int32) (40 : Int32) σ ρ) fun r1 =>
  if r1 = 0 then
    some ((-2 : Int32), σ)
  else
    bn (F_X11_isWithin a2 (0 : Int32) (99 : Int32) σ ρ) fun r3 =>
    if r3 = 0 then
      some ((-2 : Int32), σ)
    else
      bn (F_X11_goOn N K len a1 (-1 : Int32) (0 : Int32) a2 σ ρ) fun σ5 =>
      some ((σ5 0 14), σ5)
set_option maxHeartbeats 4000000 in
set_option maxRecDepth 100000 in
theorem w_X11_toasted_0 {N : Nat} {K len : Nat → Nat} {a1 : Int32} {a2 : Int32} {p : Program} {e : Env} {s : State} {m : MethodId} {args : Array Value} {below : List Frame} {meth : Method} {c : Code} {ρ0 : RG} {r : Int32} {σ1 : SG} (C : Cx Y D N ad p s m args meth c cX11_toasted 3 (some .int) RX11 wsL_law) {σ : SG} {ρ : RG} {H : Heap} {locs : List Loc} {ls : Array Slot} (hρ0 : ρ = ρ0) (hL : Lay N K len ρ) (hF : F_X11_toasted N K len a1 a2 σ ρ = some (r, σ1)) (hP : WP Y D N ad K len σ ρ H) (hS : va_S (AA N ad s.heap.size) s.heap H locs) (hl : lv_has ls 3 [(0, .ref (ad 0)), (1, .int a1), (2, .int a2)]) : W p l e rm_X11_toasted s m args below meth c H locs 0 0 (MQ below (QW Y D N ad K len σ1 ρ0 (AA N ad s.heap.size) (some (.int r))) args s 0 0 (AA N ad s.heap.size)) (F0 m 0 ls []) := by
  have hx := C.1.1
  have hb := C.1.2.1
  unfold F_X11_toasted at hF
  refine lv_iload_n hx hb dX11_toasted_0 rfl (lv_at hl 1 rfl) ?_
  refine lv_iconst (v := 0) hx hb dX11_toasted_1 (by decide) ?_
  refine lv_bipush (v := 40) hx hb dX11_toasted_2 (by decide +kernel) ?_
  obtain ⟨r1, hq1, hF⟩ := bn_1 hF
  refine x_callS C hP hS (c_X11_isWithin hL hq1) (va_cwS 3 C.1.2.2.2.2 (gdS mw_97 mw_98 mw_2 mw_99) rfl rfl rfl hd_X11_isWithin.2 ⟨Nat.le_of_ble_eq_true rfl, Nat.le_of_ble_eq_true rfl⟩) rfl rfl hl.1 (Nat.le_of_ble_eq_true rfl) ⟨Nat.zero_le _, Nat.zero_le _⟩ dX11_toasted_4 (fun H locs hP hS => ?_)
  refine lv_if_eq (tgt := 20) hx hb dX11_toasted_7 (by decide) (fun c_2 => ?_) (fun c_2 => ?_) -- COND 2 by_cases c_2 : r1 = 0
  · have hF := ite_t hF c_2
    refine lv_bipush (v := -2) hx hb dX11_toasted_20 (by decide +kernel) ?_
    obtain ⟨rfl, rfl⟩ := ret_2 hF
    subst hρ0
    exact x_iret rfl C hP hS dX11_toasted_22
  · have hF := ite_f hF c_2
    refine lv_iload_n hx hb dX11_toasted_10 rfl (lv_at hl 2 rfl) ?_
    refine lv_iconst (v := 0) hx hb dX11_toasted_11 (by decide) ?_
    refine lv_bipush (v := 99) hx hb dX11_toasted_12 (by decide +kernel) ?_
    obtain ⟨r3, hq3, hF⟩ := bn_1 hF
    refine x_callS C hP hS (c_X11_isWithin hL hq3) (va_cwS 3 C.1.2.2.2.2 (gdS mw_97 mw_98 mw_2 mw_99) rfl rfl rfl hd_X11_isWithin.2 ⟨Nat.le_of_ble_eq_true rfl, Nat.le_of_ble_eq_true rfl⟩) rfl rfl hl.1 (Nat.le_of_ble_eq_true rfl) ⟨Nat.zero_le _, Nat.zero_le _⟩ dX11_toasted_14 (fun H locs hP hS => ?_)
    refine lv_if_ne (tgt := 23) hx hb dX11_toasted_17 (by decide) (fun c_4 => ?_) (fun c_4 => ?_) -- COND 4 rcases (Decidable.em (r3 = 0)).symm with c_4 | c_4
    · have hF := ite_f hF c_4
      refine lv_aload_n hx hb dX11_toasted_23 rfl (lv_at hl 0 rfl) ?_
      refine lv_iload_n hx hb dX11_toasted_24 rfl (lv_at hl 1 rfl) ?_
      refine lv_iconst (v := -1) hx hb dX11_toasted_25 (by decide) ?_
      refine lv_iconst (v := 0) hx hb dX11_toasted_26 (by decide) ?_
      refine lv_iload_n hx hb dX11_toasted_27 rfl (lv_at hl 2 rfl) ?_
      obtain ⟨σ5, hq5, hF⟩ := bn_1 hF
      refine x_callV (ci := 11) rfl rfl C hP hS (c_X11_goOn hL hq5) (lr_0 hL) (lk_0 hL) (cwV 4 C.1.2.2.2.2 (gdV mw_745 mw_746 mw_747 mw_2 mw_748) rfl rfl rfl hd_X11_goOn ⟨Nat.le_of_ble_eq_true rfl, Nat.le_of_ble_eq_true rfl⟩) rfl rfl hl.1 (Nat.le_of_ble_eq_true rfl) ⟨Nat.zero_le _, Nat.zero_le _⟩ dX11_toasted_28 (fun H locs hP hS => ?_)
      refine lv_aload_n hx hb dX11_toasted_31 rfl (lv_at hl 0 rfl) ?_
      refine get_11_14 C hP (lr_0 hL) (lk_0 hL) inlX11 mw_749 dX11_toasted_32 ?_
      obtain ⟨rfl, rfl⟩ := ret_2 hF
      subst hρ0
      exact x_iret rfl C hP hS dX11_toasted_35
    · have hF := ite_t hF c_4
      refine lv_bipush (v := -2) hx hb dX11_toasted_20 (by decide +kernel) ?_
      obtain ⟨rfl, rfl⟩ := ret_2 hF
      subst hρ0
      exact x_iret rfl C hP hS dX11_toasted_22
set_option maxHeartbeats 4000000 in
set_option maxRecDepth 100000 in
theorem c_X11_toasted {N : Nat} {K len : Nat → Nat} {a1 : Int32} {a2 : Int32} {r : Int32} {σ1 : SG} {σ : SG} {ρ : RG} (hL : Lay N K len ρ) (hF : F_X11_toasted N K len a1 a2 σ ρ = some (r, σ1)) : MT l Y D N ad K len yX11_toasted (Cond.code yX11_toasted cX11_toasted 3 (some .int) :: wsL_law) rm_X11_toasted [.ref (ad 0), .int a1, .int a2] σ ρ (some (.int r)) σ1 ρ := by
  refine mt_of (cc := cX11_toasted) (nL := 3) (ret := (some .int)) (by decide) (Nat.le_of_ble_eq_true rfl) ?_
  intro p e s m args below meth c ls C hnm hP hS hl
  exact w_X11_toasted_0 C rfl hL hF hP hS hl

/-! CutCrooked.public int lasts();  -/
theorem dX11_lasts_0 : decode cX11_lasts 0 = .ok (.aload_n 0, 1) := by decide +kernel
theorem dX11_lasts_1 : decode cX11_lasts 1 = .ok (.sipush 200, 3) := by decide +kernel
theorem dX11_lasts_4 : decode cX11_lasts 4 = .ok (.iconst (-1), 1) := by decide +kernel
theorem dX11_lasts_5 : decode cX11_lasts 5 = .ok (.iconst 0, 1) := by decide +kernel
theorem dX11_lasts_6 : decode cX11_lasts 6 = .ok (.iconst 0, 1) := by decide +kernel
theorem dX11_lasts_7 : decode cX11_lasts 7 = .ok (.invokevirtual 189, 3) := by decide +kernel
theorem dX11_lasts_10 : decode cX11_lasts 10 = .ok (.aload_n 0, 1) := by decide +kernel
theorem dX11_lasts_11 : decode cX11_lasts 11 = .ok (.getfield 49, 3) := by decide +kernel
theorem dX11_lasts_14 : decode cX11_lasts 14 = .ok (.getfield 147, 3) := by decide +kernel
theorem dX11_lasts_17 : decode cX11_lasts 17 = .ok (.aload_n 0, 1) := by decide +kernel
theorem dX11_lasts_18 : decode cX11_lasts 18 = .ok (.getfield 12, 3) := by decide +kernel
theorem dX11_lasts_21 : decode cX11_lasts 21 = .ok (.getfield 130, 3) := by decide +kernel
theorem dX11_lasts_24 : decode cX11_lasts 24 = .ok (.getfield 147, 3) := by decide +kernel
theorem dX11_lasts_27 : decode cX11_lasts 27 = .ok (.isub, 1) := by decide +kernel
theorem dX11_lasts_28 : decode cX11_lasts 28 = .ok (.ireturn, 1) := by decide +kernel
theorem hd_X11_lasts : yX11_lasts.cls = RX11 ∧ yX11_lasts.cls ≠ "java/lang/invoke/MethodHandle" ∧ yX11_lasts.cls ≠ "java/lang/invoke/VarHandle" ∧ (parseMethodDescriptor yX11_lasts.desc).map (fun d => d.parameters.length) = some 0 := by decide +kernel
abbrev rm_X11_lasts : Room := { frames := 6, cells := 0, slots := 0, locals := 156 }
def F_X11_lasts (N : Nat) (K len : Nat → Nat) (σ : SG) (ρ : RG) : Option (Int32 × SG) :=
  bn (F_X11_goOn N K len (200 : Int32) (-1 : Int32) (0 : Int32) (0 : Int32) σ ρ) fun σ1 =>
  nm ((σ1 37 4) - (σ1 3 4)) fun x2 =>
  some (x2, σ1)
set_option maxHeartbeats 4000000 in
set_option maxRecDepth 100000 in
theorem w_X11_lasts_0 {N : Nat} {K len : Nat → Nat} {p : Program} {e : Env} {s : State} {m : MethodId} {args : Array Value} {below : List Frame} {meth : Method} {c : Code} {ρ0 : RG} {r : Int32} {σ1 : SG} (C : Cx Y D N ad p s m args meth c cX11_lasts 1 (some .int) RX11 wsL_law) {σ : SG} {ρ : RG} {H : Heap} {locs : List Loc} {ls : Array Slot} (hρ0 : ρ = ρ0) (hL : Lay N K len ρ) (hF : F_X11_lasts N K len σ ρ = some (r, σ1)) (hP : WP Y D N ad K len σ ρ H) (hS : va_S (AA N ad s.heap.size) s.heap H locs) (hl : lv_has ls 1 [(0, .ref (ad 0))]) : W p l e rm_X11_lasts s m args below meth c H locs 0 0 (MQ below (QW Y D N ad K len σ1 ρ0 (AA N ad s.heap.size) (some (.int r))) args s 0 0 (AA N ad s.heap.size)) (F0 m 0 ls []) := by
  have hx := C.1.1
  have hb := C.1.2.1
  unfold F_X11_lasts at hF
  refine lv_aload_n hx hb dX11_lasts_0 rfl (lv_at hl 0 rfl) ?_
  refine lv_sipush (v := 200) hx hb dX11_lasts_1 (by decide +kernel) ?_
  refine lv_iconst (v := -1) hx hb dX11_lasts_4 (by decide) ?_
  refine lv_iconst (v := 0) hx hb dX11_lasts_5 (by decide) ?_
  refine lv_iconst (v := 0) hx hb dX11_lasts_6 (by decide) ?_
  obtain ⟨σ1, hq1, hF⟩ := bn_1 hF
  refine x_callV (ci := 11) rfl rfl C hP hS (c_X11_goOn hL hq1) (lr_0 hL) (lk_0 hL) (cwV 4 C.1.2.2.2.2 (gdV mw_745 mw_746 mw_747 mw_2 mw_748) rfl rfl rfl hd_X11_goOn ⟨Nat.le_of_ble_eq_true rfl, Nat.le_of_ble_eq_true rfl⟩) rfl rfl hl.1 (Nat.le_of_ble_eq_true rfl) ⟨Nat.zero_le _, Nat.zero_le _⟩ dX11_lasts_7 (fun H locs hP hS => ?_)
  refine lv_aload_n hx hb dX11_lasts_10 rfl (lv_at hl 0 rfl) ?_
  refine get_11_11 C hP (lr_0 hL) (lk_0 hL) inlX11 mw_32 (lf_0_11 hL) dX11_lasts_11 ?_
  refine get_3_4 C hP (lr_37 hL) (lk_37 hL) inlX3 mw_502 dX11_lasts_14 ?_
  refine lv_aload_n hx hb dX11_lasts_17 rfl (lv_at hl 0 rfl) ?_
  refine get_11_0 C hP (lr_0 hL) (lk_0 hL) inlX11 mw_15 (lf_0_0 hL) dX11_lasts_18 ?_
  refine get_8_2 C hP (lr_1 hL) (lk_1 hL) inlX8 mw_488 (lf_1_2 hL) dX11_lasts_21 ?_
  refine get_3_4 C hP (lr_3 hL) (lk_3 hL) inlX3 mw_502 dX11_lasts_24 ?_
  refine lv_isub hx hb dX11_lasts_27 ?_
  obtain ⟨x2, ex2, hF⟩ := nm_1 hF
  refine x_top ex2 ?_
  obtain ⟨rfl, rfl⟩ := ret_2 hF
  subst hρ0
  exact x_iret rfl C hP hS dX11_lasts_28
set_option maxHeartbeats 4000000 in
set_option maxRecDepth 100000 in
theorem c_X11_lasts {N : Nat} {K len : Nat → Nat} {r : Int32} {σ1 : SG} {σ : SG} {ρ : RG} (hL : Lay N K len ρ) (hF : F_X11_lasts N K len σ ρ = some (r, σ1)) : MT l Y D N ad K len yX11_lasts (Cond.code yX11_lasts cX11_lasts 1 (some .int) :: wsL_law) rm_X11_lasts [.ref (ad 0)] σ ρ (some (.int r)) σ1 ρ := by
  refine mt_of (cc := cX11_lasts) (nL := 1) (ret := (some .int)) (by decide) (Nat.le_of_ble_eq_true rfl) ?_
  intro p e s m args below meth c ls C hnm hP hS hl
  exact w_X11_lasts_0 C rfl hL hF hP hS hl

/-! CutCrooked.public int cancel();  -/
theorem dX11_cancel_0 : decode cX11_cancel 0 = .ok (.iconst 0, 1) := by decide +kernel
theorem dX11_cancel_1 : decode cX11_cancel 1 = .ok (.istore_n 1, 1) := by decide +kernel
theorem dX11_cancel_2 : decode cX11_cancel 2 = .ok (.bipush (-5), 2) := by decide +kernel
theorem dX11_cancel_4 : decode cX11_cancel 4 = .ok (.istore_n 2, 1) := by decide +kernel
theorem dX11_cancel_5 : decode cX11_cancel 5 = .ok (.aload_n 0, 1) := by decide +kernel
theorem dX11_cancel_6 : decode cX11_cancel 6 = .ok (.invokevirtual 176, 3) := by decide +kernel
theorem dX11_cancel_9 : decode cX11_cancel 9 = .ok (.iconst 0, 1) := by decide +kernel
theorem dX11_cancel_10 : decode cX11_cancel 10 = .ok (.istore_n 3, 1) := by decide +kernel
theorem dX11_cancel_11 : decode cX11_cancel 11 = .ok (.iload_n 3, 1) := by decide +kernel
theorem dX11_cancel_12 : decode cX11_cancel 12 = .ok (.aload_n 0, 1) := by decide +kernel
theorem dX11_cancel_13 : decode cX11_cancel 13 = .ok (.getfield 12, 3) := by decide +kernel
theorem dX11_cancel_16 : decode cX11_cancel 16 = .ok (.getfield 89, 3) := by decide +kernel
theorem dX11_cancel_19 : decode cX11_cancel 19 = .ok (.if_icmp .ge 105, 3) := by decide +kernel
theorem dX11_cancel_22 : decode cX11_cancel 22 = .ok (.aload_n 0, 1) := by decide +kernel
theorem dX11_cancel_23 : decode cX11_cancel 23 = .ok (.iconst 0, 1) := by decide +kernel
theorem dX11_cancel_24 : decode cX11_cancel 24 = .ok (.aload_n 0, 1) := by decide +kernel
theorem dX11_cancel_25 : decode cX11_cancel 25 = .ok (.getfield 12, 3) := by decide +kernel
theorem dX11_cancel_28 : decode cX11_cancel 28 = .ok (.iload_n 3, 1) := by decide +kernel
theorem dX11_cancel_29 : decode cX11_cancel 29 = .ok (.invokevirtual 100, 3) := by decide +kernel
theorem dX11_cancel_32 : decode cX11_cancel 32 = .ok (.iconst 0, 1) := by decide +kernel
theorem dX11_cancel_33 : decode cX11_cancel 33 = .ok (.invokevirtual 179, 3) := by decide +kernel
theorem dX11_cancel_36 : decode cX11_cancel 36 = .ok (.ifCond .ne 6, 3) := by decide +kernel
theorem dX11_cancel_39 : decode cX11_cancel 39 = .ok (.goto 79, 3) := by decide +kernel
theorem dX11_cancel_42 : decode cX11_cancel 42 = .ok (.iconst 0, 1) := by decide +kernel
theorem dX11_cancel_43 : decode cX11_cancel 43 = .ok (.istore 4, 2) := by decide +kernel
theorem dX11_cancel_45 : decode cX11_cancel 45 = .ok (.iload 4, 2) := by decide +kernel
theorem dX11_cancel_47 : decode cX11_cancel 47 = .ok (.aload_n 0, 1) := by decide +kernel
theorem dX11_cancel_48 : decode cX11_cancel 48 = .ok (.getfield 12, 3) := by decide +kernel
theorem dX11_cancel_51 : decode cX11_cancel 51 = .ok (.getfield 89, 3) := by decide +kernel
theorem dX11_cancel_54 : decode cX11_cancel 54 = .ok (.if_icmp .ge 64, 3) := by decide +kernel
theorem dX11_cancel_57 : decode cX11_cancel 57 = .ok (.aload_n 0, 1) := by decide +kernel
theorem dX11_cancel_58 : decode cX11_cancel 58 = .ok (.iconst 1, 1) := by decide +kernel
theorem dX11_cancel_59 : decode cX11_cancel 59 = .ok (.aload_n 0, 1) := by decide +kernel
theorem dX11_cancel_60 : decode cX11_cancel 60 = .ok (.getfield 12, 3) := by decide +kernel
theorem dX11_cancel_63 : decode cX11_cancel 63 = .ok (.iload 4, 2) := by decide +kernel
theorem dX11_cancel_65 : decode cX11_cancel 65 = .ok (.invokevirtual 100, 3) := by decide +kernel
theorem dX11_cancel_68 : decode cX11_cancel 68 = .ok (.iconst 0, 1) := by decide +kernel
theorem dX11_cancel_69 : decode cX11_cancel 69 = .ok (.invokevirtual 179, 3) := by decide +kernel
theorem dX11_cancel_72 : decode cX11_cancel 72 = .ok (.ifCond .eq 40, 3) := by decide +kernel
theorem dX11_cancel_75 : decode cX11_cancel 75 = .ok (.iload_n 2, 1) := by decide +kernel
theorem dX11_cancel_76 : decode cX11_cancel 76 = .ok (.bipush (-5), 2) := by decide +kernel
theorem dX11_cancel_78 : decode cX11_cancel 78 = .ok (.if_icmp .eq 16, 3) := by decide +kernel
theorem dX11_cancel_81 : decode cX11_cancel 81 = .ok (.aload_n 0, 1) := by decide +kernel
theorem dX11_cancel_82 : decode cX11_cancel 82 = .ok (.getfield 37, 3) := by decide +kernel
theorem dX11_cancel_85 : decode cX11_cancel 85 = .ok (.iconst 2, 1) := by decide +kernel
theorem dX11_cancel_86 : decode cX11_cancel 86 = .ok (.aaload, 1) := by decide +kernel
theorem dX11_cancel_87 : decode cX11_cancel 87 = .ok (.invokevirtual 214, 3) := by decide +kernel
theorem dX11_cancel_90 : decode cX11_cancel 90 = .ok (.iload_n 1, 1) := by decide +kernel
theorem dX11_cancel_91 : decode cX11_cancel 91 = .ok (.if_icmp .ge 21, 3) := by decide +kernel
theorem dX11_cancel_94 : decode cX11_cancel 94 = .ok (.aload_n 0, 1) := by decide +kernel
theorem dX11_cancel_95 : decode cX11_cancel 95 = .ok (.getfield 37, 3) := by decide +kernel
theorem dX11_cancel_98 : decode cX11_cancel 98 = .ok (.iconst 2, 1) := by decide +kernel
theorem dX11_cancel_99 : decode cX11_cancel 99 = .ok (.aaload, 1) := by decide +kernel
theorem dX11_cancel_100 : decode cX11_cancel 100 = .ok (.invokevirtual 214, 3) := by decide +kernel
theorem dX11_cancel_103 : decode cX11_cancel 103 = .ok (.istore_n 1, 1) := by decide +kernel
theorem dX11_cancel_104 : decode cX11_cancel 104 = .ok (.bipush 10, 2) := by decide +kernel
theorem dX11_cancel_106 : decode cX11_cancel 106 = .ok (.iload_n 3, 1) := by decide +kernel
theorem dX11_cancel_107 : decode cX11_cancel 107 = .ok (.imul, 1) := by decide +kernel
theorem dX11_cancel_108 : decode cX11_cancel 108 = .ok (.iload 4, 2) := by decide +kernel
theorem dX11_cancel_110 : decode cX11_cancel 110 = .ok (.iadd, 1) := by decide +kernel
theorem dX11_cancel_111 : decode cX11_cancel 111 = .ok (.istore_n 2, 1) := by decide +kernel
theorem dX11_cancel_112 : decode cX11_cancel 112 = .ok (.iinc 4 1, 3) := by decide +kernel
theorem dX11_cancel_115 : decode cX11_cancel 115 = .ok (.goto (-70), 3) := by decide +kernel
theorem dX11_cancel_118 : decode cX11_cancel 118 = .ok (.iinc 3 1, 3) := by decide +kernel
theorem dX11_cancel_121 : decode cX11_cancel 121 = .ok (.goto (-110), 3) := by decide +kernel
theorem dX11_cancel_124 : decode cX11_cancel 124 = .ok (.iload_n 2, 1) := by decide +kernel
theorem dX11_cancel_125 : decode cX11_cancel 125 = .ok (.ireturn, 1) := by decide +kernel
theorem hd_X11_cancel : yX11_cancel.cls = RX11 ∧ yX11_cancel.cls ≠ "java/lang/invoke/MethodHandle" ∧ yX11_cancel.cls ≠ "java/lang/invoke/VarHandle" ∧ (parseMethodDescriptor yX11_cancel.desc).map (fun d => d.parameters.length) = some 0 := by decide +kernel
abbrev rm_X11_cancel : Room := { frames := 6, cells := 0, slots := 0, locals := 152 }
def F_X11_cancel_118 (N : Nat) (K len : Nat → Nat) (rec_11 : SG → RG → Int32 → Int32 → Int32 → Option (Int32 × SG)) (σ : SG) (ρ : RG) (v1 : Int32) (v2 : Int32) (v3 : Int32) : Option (Int32 × SG) :=
  nm (v3 + (1 : Int32)) fun x8 =>
  rec_11 σ ρ v1 v2 x8
def F_X11_cancel_112 (N : Nat) (K len : Nat → Nat) (rec_45 : SG → RG → Int32 → Int32 → Int32 → Int32 → Option (Int32 × SG)) (σ : SG) (ρ : RG) (v1 : Int32) (v2 : Int32) (v3 : Int32) (v4 : Int32) : Option (Int32 × SG) :=
  nm (v4 + (1 : Int32)) fun x13 =>
  rec_45 σ ρ v1 v2 v3 x13
def F_X11_cancel_94 (N : Nat) (K len : Nat → Nat) (rec_45 : SG → RG → Int32 → Int32 → Int32 → Int32 → Option (Int32 × SG)) (σ : SG) (ρ : RG) (v3 : Int32) (v4 : Int32) : Option (Int32 × SG) :=
  bn (F_X3_slope 44 σ ρ) fun r15 =>
  nm ((10 : Int32) * v3) fun x16 =>
  nm (x16 + v4) fun x17 =>
  F_X11_cancel_112 N K len rec_45 σ ρ r15 x17 v3 v4
def F_X11_cancel_45 (N : Nat) (K len : Nat → Nat) (rec_11 : SG → RG → Int32 → Int32 → Int32 → Option (Int32 × SG)) : Nat → SG → RG → Int32 → Int32 → Int32 → Int32 → Option (Int32 × SG)
  | 0 => fun _ _ _ _ _ _ => none
  | n + 1 => fun σ ρ v1 v2 v3 v4 =>
  if (σ 1 1) ≤ v4 then
    F_X11_cancel_118 N K len rec_11 σ ρ v1 v2 v3
  else
    bn (F_X8_cutterAt_1 v4 σ ρ) fun o9 =>
    oc o9
     (
      bn (F_X11_tryStep_n (1 : Int32) (0 : Int32) σ ρ) fun r11 =>
      if r11 = 0 then
        F_X11_cancel_112 N K len (F_X11_cancel_45 N K len rec_11 n) σ ρ v1 v2 v3 v4
      else
        if v2 = (-5 : Int32) then
          F_X11_cancel_94 N K len (F_X11_cancel_45 N K len rec_11 n) σ ρ v3 v4
        else
          bn (F_X3_slope 44 σ ρ) fun r18 =>
          if v1 ≤ r18 then
            F_X11_cancel_112 N K len (F_X11_cancel_45 N K len rec_11 n) σ ρ v1 v2 v3 v4
          else
            F_X11_cancel_94 N K len (F_X11_cancel_45 N K len rec_11 n) σ ρ v3 v4)
     (fun c10 =>
      gd (isC N K c10) <|
      bn2 (F_X11_tryStep N K len (1 : Int32) c10 (0 : Int32) σ ρ) fun r20 σ20 =>
      if r20 = 0 then
        F_X11_cancel_112 N K len (F_X11_cancel_45 N K len rec_11 n) σ20 ρ v1 v2 v3 v4
      else
        if v2 = (-5 : Int32) then
          F_X11_cancel_94 N K len (F_X11_cancel_45 N K len rec_11 n) σ20 ρ v3 v4
        else
          bn (F_X3_slope 44 σ20 ρ) fun r23 =>
          if v1 ≤ r23 then
            F_X11_cancel_112 N K len (F_X11_cancel_45 N K len rec_11 n) σ20 ρ v1 v2 v3 v4
          else
            F_X11_cancel_94 N K len (F_X11_cancel_45 N K len rec_11 n) σ20 ρ v3 v4)
def F_X11_cancel_11 (N : Nat) (K len : Nat → Nat) : Nat → SG → RG → Int32 → Int32 → Int32 → Option (Int32 × SG)
  | 0 => fun _ _ _ _ _ => none
  | n + 1 => fun σ ρ v1 v2 v3 =>
  if (σ 1 1) ≤ v3 then
    some (v2, σ)
  else
    bn (F_X8_cutterAt_1 v3 σ ρ) fun o3 =>
    oc o3
     (
      bn (F_X11_tryStep_n (0 : Int32) (0 : Int32) σ ρ) fun r5 =>
      if r5 = 0 then
        F_X11_cancel_118 N K len (F_X11_cancel_11 N K len n) σ ρ v1 v2 v3
      else
        F_X11_cancel_45 N K len (F_X11_cancel_11 N K len n) 1024 σ ρ v1 v2 v3 (0 : Int32))
     (fun c4 =>
      gd (isC N K c4) <|
      bn2 (F_X11_tryStep N K len (0 : Int32) c4 (0 : Int32) σ ρ) fun r25 σ25 =>
      if r25 = 0 then
        F_X11_cancel_118 N K len (F_X11_cancel_11 N K len n) σ25 ρ v1 v2 v3
      else
        F_X11_cancel_45 N K len (F_X11_cancel_11 N K len n) 1024 σ25 ρ v1 v2 v3 (0 : Int32))
def F_X11_cancel (N : Nat) (K len : Nat → Nat) (σ : SG) (ρ : RG) : Option (Int32 × SG) :=
  bn (F_X11_startSteps σ ρ) fun σ1 =>
  F_X11_cancel_11 N K len 1024 σ1 ρ (0 : Int32) (-5 : Int32) (0 : Int32)
set_option maxHeartbeats 4000000 in
set_option maxRecDepth 100000 in
theorem w_X11_cancel_118 {N : Nat} {K len : Nat → Nat} {rec_11 : SG → RG → Int32 → Int32 → Int32 → Option (Int32 × SG)} {p : Program} {e : Env} {s : State} {m : MethodId} {args : Array Value} {below : List Frame} {meth : Method} {c : Code} {ρ0 : RG} {r : Int32} {σ1 : SG} (C : Cx Y D N ad p s m args meth c cX11_cancel 5 (some .int) RX11 wsL_law) (hrec_11 : ∀ (σ : SG) (ρ : RG) (v1 : Int32) (v2 : Int32) (v3 : Int32) (H : Heap) (locs : List Loc) (ls : Array Slot), ρ = ρ0 → Lay N K len ρ → rec_11 σ ρ v1 v2 v3 = some (r, σ1) → WP Y D N ad K len σ ρ H → va_S (AA N ad s.heap.size) s.heap H locs → lv_has ls 5 [(0, .ref (ad 0)), (1, .int v1), (2, .int v2), (3, .int v3)] → W p l e rm_X11_cancel s m args below meth c H locs 0 0 (MQ below (QW Y D N ad K len σ1 ρ0 (AA N ad s.heap.size) (some (.int r))) args s 0 0 (AA N ad s.heap.size)) (F0 m 11 ls [])) {σ : SG} {ρ : RG} {v1 : Int32} {v2 : Int32} {v3 : Int32} {H : Heap} {locs : List Loc} {ls : Array Slot} (hρ0 : ρ = ρ0) (hL : Lay N K len ρ) (hF : F_X11_cancel_118 N K len rec_11 σ ρ v1 v2 v3 = some (r, σ1)) (hP : WP Y D N ad K len σ ρ H) (hS : va_S (AA N ad s.heap.size) s.heap H locs) (hl : lv_has ls 5 [(0, .ref (ad 0)), (1, .int v1), (2, .int v2), (3, .int v3)]) : W p l e rm_X11_cancel s m args below meth c H locs 0 0 (MQ below (QW Y D N ad K len σ1 ρ0 (AA N ad s.heap.size) (some (.int r))) args s 0 0 (AA N ad s.heap.size)) (F0 m 118 ls []) := by
  have hx := C.1.1
  have hb := C.1.2.1
  unfold F_X11_cancel_118 at hF
  obtain ⟨x8, ex8, hF⟩ := nm_1 hF
  refine lv_iinc (v := x8) (lv' := [(3, .int x8), (0, .ref (ad 0)), (1, .int v1), (2, .int v2)]) hx hb dX11_cancel_118 hl (k := 3) rfl (by rw [ex8]; first | rfl | decide) (by decide) rfl (fun ls hl => ?_)
  refine lv_goto (tgt := 11) hx hb dX11_cancel_121 (by decide) ?_
  exact hrec_11 _ _ _ _ _ _ _ _ hρ0 hL hF hP hS (lv_sub hl [1, 2, 3, 0] rfl)
set_option maxHeartbeats 4000000 in
set_option maxRecDepth 100000 in
theorem w_X11_cancel_112 {N : Nat} {K len : Nat → Nat} {rec_45 : SG → RG → Int32 → Int32 → Int32 → Int32 → Option (Int32 × SG)} {p : Program} {e : Env} {s : State} {m : MethodId} {args : Array Value} {below : List Frame} {meth : Method} {c : Code} {ρ0 : RG} {r : Int32} {σ1 : SG} (C : Cx Y D N ad p s m args meth c cX11_cancel 5 (some .int) RX11 wsL_law) (hrec_45 : ∀ (σ : SG) (ρ : RG) (v1 : Int32) (v2 : Int32) (v3 : Int32) (v4 : Int32) (H : Heap) (locs : List Loc) (ls : Array Slot), ρ = ρ0 → Lay N K len ρ → rec_45 σ ρ v1 v2 v3 v4 = some (r, σ1) → WP Y D N ad K len σ ρ H → va_S (AA N ad s.heap.size) s.heap H locs → lv_has ls 5 [(0, .ref (ad 0)), (1, .int v1), (2, .int v2), (3, .int v3), (4, .int v4)] → W p l e rm_X11_cancel s m args below meth c H locs 0 0 (MQ below (QW Y D N ad K len σ1 ρ0 (AA N ad s.heap.size) (some (.int r))) args s 0 0 (AA N ad s.heap.size)) (F0 m 45 ls [])) {σ : SG} {ρ : RG} {v1 : Int32} {v2 : Int32} {v3 : Int32} {v4 : Int32} {H : Heap} {locs : List Loc} {ls : Array Slot} (hρ0 : ρ = ρ0) (hL : Lay N K len ρ) (hF : F_X11_cancel_112 N K len rec_45 σ ρ v1 v2 v3 v4 = some (r, σ1)) (hP : WP Y D N ad K len σ ρ H) (hS : va_S (AA N ad s.heap.size) s.heap H locs) (hl : lv_has ls 5 [(0, .ref (ad 0)), (1, .int v1), (2, .int v2), (3, .int v3), (4, .int v4)]) : W p l e rm_X11_cancel s m args below meth c H locs 0 0 (MQ below (QW Y D N ad K len σ1 ρ0 (AA N ad s.heap.size) (some (.int r))) args s 0 0 (AA N ad s.heap.size)) (F0 m 112 ls []) := by
  have hx := C.1.1
  have hb := C.1.2.1
  unfold F_X11_cancel_112 at hF
  obtain ⟨x13, ex13, hF⟩ := nm_1 hF
  refine lv_iinc (v := x13) (lv' := [(4, .int x13), (0, .ref (ad 0)), (1, .int v1), (2, .int v2), (3, .int v3)]) hx hb dX11_cancel_112 hl (k := 4) rfl (by rw [ex13]; first | rfl | decide) (by decide) rfl (fun ls hl => ?_)
  refine lv_goto (tgt := 45) hx hb dX11_cancel_115 (by decide) ?_
  exact hrec_45 _ _ _ _ _ _ _ _ _ hρ0 hL hF hP hS (lv_sub hl [1, 2, 3, 4, 0] rfl)
set_option maxHeartbeats 4000000 in
set_option maxRecDepth 100000 in
theorem w_X11_cancel_94 {N : Nat} {K len : Nat → Nat} {rec_45 : SG → RG → Int32 → Int32 → Int32 → Int32 → Option (Int32 × SG)} {p : Program} {e : Env} {s : State} {m : MethodId} {args : Array Value} {below : List Frame} {meth : Method} {c : Code} {ρ0 : RG} {r : Int32} {σ1 : SG} (C : Cx Y D N ad p s m args meth c cX11_cancel 5 (some .int) RX11 wsL_law) (hrec_45 : ∀ (σ : SG) (ρ : RG) (v1 : Int32) (v2 : Int32) (v3 : Int32) (v4 : Int32) (H : Heap) (locs : List Loc) (ls : Array Slot), ρ = ρ0 → Lay N K len ρ → rec_45 σ ρ v1 v2 v3 v4 = some (r, σ1) → WP Y D N ad K len σ ρ H → va_S (AA N ad s.heap.size) s.heap H locs → lv_has ls 5 [(0, .ref (ad 0)), (1, .int v1), (2, .int v2), (3, .int v3), (4, .int v4)] → W p l e rm_X11_cancel s m args below meth c H locs 0 0 (MQ below (QW Y D N ad K len σ1 ρ0 (AA N ad s.heap.size) (some (.int r))) args s 0 0 (AA N ad s.heap.size)) (F0 m 45 ls [])) {σ : SG} {ρ : RG} {v3 : Int32} {v4 : Int32} {H : Heap} {locs : List Loc} {ls : Array Slot} (hρ0 : ρ = ρ0) (hL : Lay N K len ρ) (hF : F_X11_cancel_94 N K len rec_45 σ ρ v3 v4 = some (r, σ1)) (hP : WP Y D N ad K len σ ρ H) (hS : va_S (AA N ad s.heap.size) s.heap H locs) (hl : lv_has ls 5 [(0, .ref (ad 0)), (3, .int v3), (4, .int v4)]) : W p l e rm_X11_cancel s m args below meth c H locs 0 0 (MQ below (QW Y D N ad K len σ1 ρ0 (AA N ad s.heap.size) (some (.int r))) args s 0 0 (AA N ad s.heap.size)) (F0 m 94 ls []) := by
  have hx := C.1.1
  have hb := C.1.2.1
  unfold F_X11_cancel_94 at hF
  refine lv_aload_n hx hb dX11_cancel_94 rfl (lv_at hl 0 rfl) ?_
  refine get_11_5 C hP (lr_0 hL) (lk_0 hL) inlX11 mw_26 (lf_0_5 hL) dX11_cancel_95 ?_
  refine lv_iconst (v := 2) hx hb dX11_cancel_98 (by decide) ?_
  refine x_aald (v := .ref (ad 44)) C hP (lr_34 hL) (lk_34 hL) (Or.inr ⟨rfl, rfl, rfl⟩) (ln_34 hL) (by decide +kernel) (by rw [cl_2, (lf_34_2 hL)]; rfl) dX11_cancel_99 ?_
  obtain ⟨r15, hq15, hF⟩ := bn_1 hF
  refine x_callV (ci := 3) rfl rfl C hP hS (c_X3_slope hL (il_44 hL) hq15) (lr_44 hL) (lk_44 hL) (cwV 0 C.1.2.2.2.2 (gdV mw_815 mw_579 mw_580 mw_31 mw_581) rfl rfl rfl hd_X3_slope ⟨Nat.le_of_ble_eq_true rfl, Nat.le_of_ble_eq_true rfl⟩) rfl rfl hl.1 (Nat.le_of_ble_eq_true rfl) ⟨Nat.zero_le _, Nat.zero_le _⟩ dX11_cancel_100 (fun H locs hP hS => ?_)
  refine lv_istore_n (lv' := [(1, .int r15), (0, .ref (ad 0)), (3, .int v3), (4, .int v4)]) hx hb dX11_cancel_103 rfl hl (by decide) rfl (fun ls hl => ?_)
  refine lv_bipush (v := 10) hx hb dX11_cancel_104 (by decide +kernel) ?_
  refine lv_iload_n hx hb dX11_cancel_106 rfl (lv_at hl 2 rfl) ?_
  refine lv_imul hx hb dX11_cancel_107 ?_
  obtain ⟨x16, ex16, hF⟩ := nm_1 hF
  refine x_top ex16 ?_
  refine lv_iload hx hb dX11_cancel_108 (lv_at hl 3 rfl) ?_
  refine lv_iadd hx hb dX11_cancel_110 ?_
  obtain ⟨x17, ex17, hF⟩ := nm_1 hF
  refine x_top ex17 ?_
  refine lv_istore_n (lv' := [(2, .int x17), (1, .int r15), (0, .ref (ad 0)), (3, .int v3), (4, .int v4)]) hx hb dX11_cancel_111 rfl hl (by decide) rfl (fun ls hl => ?_)
  exact w_X11_cancel_112 C hrec_45 hρ0 hL hF hP hS (lv_sub hl [2, 1, 0, 3, 4] rfl)
set_option maxHeartbeats 4000000 in
set_option maxRecDepth 100000 in
theorem w_X11_cancel_45 {N : Nat} {K len : Nat → Nat} {rec_11 : SG → RG → Int32 → Int32 → Int32 → Option (Int32 × SG)} {p : Program} {e : Env} {s : State} {m : MethodId} {args : Array Value} {below : List Frame} {meth : Method} {c : Code} {ρ0 : RG} {r : Int32} {σ1 : SG} (C : Cx Y D N ad p s m args meth c cX11_cancel 5 (some .int) RX11 wsL_law) (hrec_11 : ∀ (σ : SG) (ρ : RG) (v1 : Int32) (v2 : Int32) (v3 : Int32) (H : Heap) (locs : List Loc) (ls : Array Slot), ρ = ρ0 → Lay N K len ρ → rec_11 σ ρ v1 v2 v3 = some (r, σ1) → WP Y D N ad K len σ ρ H → va_S (AA N ad s.heap.size) s.heap H locs → lv_has ls 5 [(0, .ref (ad 0)), (1, .int v1), (2, .int v2), (3, .int v3)] → W p l e rm_X11_cancel s m args below meth c H locs 0 0 (MQ below (QW Y D N ad K len σ1 ρ0 (AA N ad s.heap.size) (some (.int r))) args s 0 0 (AA N ad s.heap.size)) (F0 m 11 ls [])) : ∀ (n : Nat) (σ : SG) (ρ : RG) (v1 : Int32) (v2 : Int32) (v3 : Int32) (v4 : Int32) (H : Heap) (locs : List Loc) (ls : Array Slot), ρ = ρ0 → Lay N K len ρ → F_X11_cancel_45 N K len rec_11 n σ ρ v1 v2 v3 v4 = some (r, σ1) → WP Y D N ad K len σ ρ H → va_S (AA N ad s.heap.size) s.heap H locs → lv_has ls 5 [(0, .ref (ad 0)), (1, .int v1), (2, .int v2), (3, .int v3), (4, .int v4)] → W p l e rm_X11_cancel s m args below meth c H locs 0 0 (MQ below (QW Y D N ad K len σ1 ρ0 (AA N ad s.heap.size) (some (.int r))) args s 0 0 (AA N ad s.heap.size)) (F0 m 45 ls []) := by
  have hx := C.1.1
  have hb := C.1.2.1
  intro n
  induction n with
  | zero => intro σ ρ v1 v2 v3 v4 H locs ls hρ0 hL hF; cases hF
  | succ n ih =>
    intro σ ρ v1 v2 v3 v4 H locs ls hρ0 hL hF hP hS hl
    unfold F_X11_cancel_45 at hF
    refine lv_iload hx hb dX11_cancel_45 (lv_at hl 4 rfl) ?_
    refine lv_aload_n hx hb dX11_cancel_47 rfl (lv_at hl 0 rfl) ?_
    refine get_11_0 C hP (lr_0 hL) (lk_0 hL) inlX11 mw_15 (lf_0_0 hL) dX11_cancel_48 ?_
    refine get_8_1 C hP (lr_1 hL) (lk_1 hL) inlX8 mw_352 dX11_cancel_51 ?_
    refine lv_icmp_ge (tgt := 118) hx hb dX11_cancel_54 (by decide) (fun c_7 => ?_) (fun c_7 => ?_) -- COND 7 by_cases c_7 : (σ 1 1) ≤ v4
    · have hF := ite_t hF c_7
      exact w_X11_cancel_118 C hrec_11 hρ0 hL hF hP hS (lv_sub hl [0, 1, 2, 3] rfl)
    · have hF := ite_f hF c_7
      refine lv_aload_n hx hb dX11_cancel_57 rfl (lv_at hl 0 rfl) ?_
      refine lv_iconst (v := 1) hx hb dX11_cancel_58 (by decide) ?_
      refine lv_aload_n hx hb dX11_cancel_59 rfl (lv_at hl 0 rfl) ?_
      refine get_11_0 C hP (lr_0 hL) (lk_0 hL) inlX11 mw_15 (lf_0_0 hL) dX11_cancel_60 ?_
      refine lv_iload hx hb dX11_cancel_63 (lv_at hl 4 rfl) ?_
      obtain ⟨o9, hq9, hF⟩ := bn_1 hF
      refine x_callV (ci := 8) rfl rfl C hP hS (c_X8_cutterAt_1 hL hq9) (lr_1 hL) (lk_1 hL) (cwV 1 C.1.2.2.2.2 (gdV mw_428 mw_429 mw_430 mw_14 mw_431) rfl rfl rfl hd_X8_cutterAt ⟨Nat.le_of_ble_eq_true rfl, Nat.le_of_ble_eq_true rfl⟩) rfl rfl hl.1 (Nat.le_of_ble_eq_true rfl) ⟨Nat.zero_le _, Nat.zero_le _⟩ dX11_cancel_65 (fun H locs hP hS => ?_)
      rcases ho10 : o9 with _ | c10
      · have hF := oc_n hF ho10
        refine x_n ?_
        refine lv_iconst (v := 0) hx hb dX11_cancel_68 (by decide) ?_
        obtain ⟨r11, hq11, hF⟩ := bn_1 hF
        refine x_callV (ci := 11) rfl rfl C hP hS (c_X11_tryStep_n hL hq11) (lr_0 hL) (lk_0 hL) (cwV 3 C.1.2.2.2.2 (gdV mw_724 mw_725 mw_726 mw_2 mw_727) rfl rfl rfl hd_X11_tryStep ⟨Nat.le_of_ble_eq_true rfl, Nat.le_of_ble_eq_true rfl⟩) rfl rfl hl.1 (Nat.le_of_ble_eq_true rfl) ⟨Nat.zero_le _, Nat.zero_le _⟩ dX11_cancel_69 (fun H locs hP hS => ?_)
        refine lv_if_eq (tgt := 112) hx hb dX11_cancel_72 (by decide) (fun c_12 => ?_) (fun c_12 => ?_) -- COND 12 by_cases c_12 : r11 = 0
        · have hF := ite_t hF c_12
          exact w_X11_cancel_112 C ih hρ0 hL hF hP hS (lv_sub hl [0, 1, 2, 3, 4] rfl)
        · have hF := ite_f hF c_12
          refine lv_iload_n hx hb dX11_cancel_75 rfl (lv_at hl 2 rfl) ?_
          refine lv_bipush (v := -5) hx hb dX11_cancel_76 (by decide +kernel) ?_
          refine lv_icmp_eq (tgt := 94) hx hb dX11_cancel_78 (by decide) (fun c_14 => ?_) (fun c_14 => ?_) -- COND 14 by_cases c_14 : v2 = (-5 : Int32)
          · have hF := ite_t hF c_14
            exact w_X11_cancel_94 C ih hρ0 hL hF hP hS (lv_sub hl [0, 3, 4] rfl)
          · have hF := ite_f hF c_14
            refine lv_aload_n hx hb dX11_cancel_81 rfl (lv_at hl 0 rfl) ?_
            refine get_11_5 C hP (lr_0 hL) (lk_0 hL) inlX11 mw_26 (lf_0_5 hL) dX11_cancel_82 ?_
            refine lv_iconst (v := 2) hx hb dX11_cancel_85 (by decide) ?_
            refine x_aald (v := .ref (ad 44)) C hP (lr_34 hL) (lk_34 hL) (Or.inr ⟨rfl, rfl, rfl⟩) (ln_34 hL) (by decide +kernel) (by rw [cl_2, (lf_34_2 hL)]; rfl) dX11_cancel_86 ?_
            obtain ⟨r18, hq18, hF⟩ := bn_1 hF
            refine x_callV (ci := 3) rfl rfl C hP hS (c_X3_slope hL (il_44 hL) hq18) (lr_44 hL) (lk_44 hL) (cwV 0 C.1.2.2.2.2 (gdV mw_815 mw_579 mw_580 mw_31 mw_581) rfl rfl rfl hd_X3_slope ⟨Nat.le_of_ble_eq_true rfl, Nat.le_of_ble_eq_true rfl⟩) rfl rfl hl.1 (Nat.le_of_ble_eq_true rfl) ⟨Nat.zero_le _, Nat.zero_le _⟩ dX11_cancel_87 (fun H locs hP hS => ?_)
            refine lv_iload_n hx hb dX11_cancel_90 rfl (lv_at hl 1 rfl) ?_
            refine lv_icmp_ge (tgt := 112) hx hb dX11_cancel_91 (by decide) (fun c_19 => ?_) (fun c_19 => ?_) -- COND 19 by_cases c_19 : v1 ≤ r18
            · have hF := ite_t hF c_19
              exact w_X11_cancel_112 C ih hρ0 hL hF hP hS (lv_sub hl [0, 1, 2, 3, 4] rfl)
            · have hF := ite_f hF c_19
              exact w_X11_cancel_94 C ih hρ0 hL hF hP hS (lv_sub hl [0, 3, 4] rfl)
      · have hF := oc_s hF ho10
        refine x_s ?_
        obtain ⟨gc10, hF⟩ := gd_1 hF
        refine lv_iconst (v := 0) hx hb dX11_cancel_68 (by decide) ?_
        obtain ⟨r20, σ20, hq20, hF⟩ := bn2_1 hF
        refine x_callV (ci := 11) rfl rfl C hP hS (c_X11_tryStep hL gc10 hq20) (lr_0 hL) (lk_0 hL) (cwV 3 C.1.2.2.2.2 (gdV mw_724 mw_725 mw_726 mw_2 mw_727) rfl rfl rfl hd_X11_tryStep ⟨Nat.le_of_ble_eq_true rfl, Nat.le_of_ble_eq_true rfl⟩) rfl rfl hl.1 (Nat.le_of_ble_eq_true rfl) ⟨Nat.zero_le _, Nat.zero_le _⟩ dX11_cancel_69 (fun H locs hP hS => ?_)
        refine lv_if_eq (tgt := 112) hx hb dX11_cancel_72 (by decide) (fun c_21 => ?_) (fun c_21 => ?_) -- COND 21 by_cases c_21 : r20 = 0
        · have hF := ite_t hF c_21
          exact w_X11_cancel_112 C ih hρ0 hL hF hP hS (lv_sub hl [0, 1, 2, 3, 4] rfl)
        · have hF := ite_f hF c_21
          refine lv_iload_n hx hb dX11_cancel_75 rfl (lv_at hl 2 rfl) ?_
          refine lv_bipush (v := -5) hx hb dX11_cancel_76 (by decide +kernel) ?_
          refine lv_icmp_eq (tgt := 94) hx hb dX11_cancel_78 (by decide) (fun c_22 => ?_) (fun c_22 => ?_) -- COND 22 by_cases c_22 : v2 = (-5 : Int32)
          · have hF := ite_t hF c_22
            exact w_X11_cancel_94 C ih hρ0 hL hF hP hS (lv_sub hl [0, 3, 4] rfl)
          · have hF := ite_f hF c_22
            refine lv_aload_n hx hb dX11_cancel_81 rfl (lv_at hl 0 rfl) ?_
            refine get_11_5 C hP (lr_0 hL) (lk_0 hL) inlX11 mw_26 (lf_0_5 hL) dX11_cancel_82 ?_
            refine lv_iconst (v := 2) hx hb dX11_cancel_85 (by decide) ?_
            refine x_aald (v := .ref (ad 44)) C hP (lr_34 hL) (lk_34 hL) (Or.inr ⟨rfl, rfl, rfl⟩) (ln_34 hL) (by decide +kernel) (by rw [cl_2, (lf_34_2 hL)]; rfl) dX11_cancel_86 ?_
            obtain ⟨r23, hq23, hF⟩ := bn_1 hF
            refine x_callV (ci := 3) rfl rfl C hP hS (c_X3_slope hL (il_44 hL) hq23) (lr_44 hL) (lk_44 hL) (cwV 0 C.1.2.2.2.2 (gdV mw_815 mw_579 mw_580 mw_31 mw_581) rfl rfl rfl hd_X3_slope ⟨Nat.le_of_ble_eq_true rfl, Nat.le_of_ble_eq_true rfl⟩) rfl rfl hl.1 (Nat.le_of_ble_eq_true rfl) ⟨Nat.zero_le _, Nat.zero_le _⟩ dX11_cancel_87 (fun H locs hP hS => ?_)
            refine lv_iload_n hx hb dX11_cancel_90 rfl (lv_at hl 1 rfl) ?_
            refine lv_icmp_ge (tgt := 112) hx hb dX11_cancel_91 (by decide) (fun c_24 => ?_) (fun c_24 => ?_) -- COND 24 by_cases c_24 : v1 ≤ r23
            · have hF := ite_t hF c_24
              exact w_X11_cancel_112 C ih hρ0 hL hF hP hS (lv_sub hl [0, 1, 2, 3, 4] rfl)
            · have hF := ite_f hF c_24
              exact w_X11_cancel_94 C ih hρ0 hL hF hP hS (lv_sub hl [0, 3, 4] rfl)
set_option maxHeartbeats 4000000 in
set_option maxRecDepth 100000 in
theorem w_X11_cancel_11 {N : Nat} {K len : Nat → Nat} {p : Program} {e : Env} {s : State} {m : MethodId} {args : Array Value} {below : List Frame} {meth : Method} {c : Code} {ρ0 : RG} {r : Int32} {σ1 : SG} (C : Cx Y D N ad p s m args meth c cX11_cancel 5 (some .int) RX11 wsL_law) : ∀ (n : Nat) (σ : SG) (ρ : RG) (v1 : Int32) (v2 : Int32) (v3 : Int32) (H : Heap) (locs : List Loc) (ls : Array Slot), ρ = ρ0 → Lay N K len ρ → F_X11_cancel_11 N K len n σ ρ v1 v2 v3 = some (r, σ1) → WP Y D N ad K len σ ρ H → va_S (AA N ad s.heap.size) s.heap H locs → lv_has ls 5 [(0, .ref (ad 0)), (1, .int v1), (2, .int v2), (3, .int v3)] → W p l e rm_X11_cancel s m args below meth c H locs 0 0 (MQ below (QW Y D N ad K len σ1 ρ0 (AA N ad s.heap.size) (some (.int r))) args s 0 0 (AA N ad s.heap.size)) (F0 m 11 ls []) := by
  have hx := C.1.1
  have hb := C.1.2.1
  intro n
  induction n with
  | zero => intro σ ρ v1 v2 v3 H locs ls hρ0 hL hF; cases hF
  | succ n ih =>
    intro σ ρ v1 v2 v3 H locs ls hρ0 hL hF hP hS hl
    unfold F_X11_cancel_11 at hF
    refine lv_iload_n hx hb dX11_cancel_11 rfl (lv_at hl 3 rfl) ?_
    refine lv_aload_n hx hb dX11_cancel_12 rfl (lv_at hl 0 rfl) ?_
    refine get_11_0 C hP (lr_0 hL) (lk_0 hL) inlX11 mw_15 (lf_0_0 hL) dX11_cancel_13 ?_
    refine get_8_1 C hP (lr_1 hL) (lk_1 hL) inlX8 mw_352 dX11_cancel_16 ?_
    refine lv_icmp_ge (tgt := 124) hx hb dX11_cancel_19 (by decide) (fun c_2 => ?_) (fun c_2 => ?_) -- COND 2 by_cases c_2 : (σ 1 1) ≤ v3
    · have hF := ite_t hF c_2
      refine lv_iload_n hx hb dX11_cancel_124 rfl (lv_at hl 2 rfl) ?_
      obtain ⟨rfl, rfl⟩ := ret_2 hF
      subst hρ0
      exact x_iret rfl C hP hS dX11_cancel_125
    · have hF := ite_f hF c_2
      refine lv_aload_n hx hb dX11_cancel_22 rfl (lv_at hl 0 rfl) ?_
      refine lv_iconst (v := 0) hx hb dX11_cancel_23 (by decide) ?_
      refine lv_aload_n hx hb dX11_cancel_24 rfl (lv_at hl 0 rfl) ?_
      refine get_11_0 C hP (lr_0 hL) (lk_0 hL) inlX11 mw_15 (lf_0_0 hL) dX11_cancel_25 ?_
      refine lv_iload_n hx hb dX11_cancel_28 rfl (lv_at hl 3 rfl) ?_
      obtain ⟨o3, hq3, hF⟩ := bn_1 hF
      refine x_callV (ci := 8) rfl rfl C hP hS (c_X8_cutterAt_1 hL hq3) (lr_1 hL) (lk_1 hL) (cwV 1 C.1.2.2.2.2 (gdV mw_428 mw_429 mw_430 mw_14 mw_431) rfl rfl rfl hd_X8_cutterAt ⟨Nat.le_of_ble_eq_true rfl, Nat.le_of_ble_eq_true rfl⟩) rfl rfl hl.1 (Nat.le_of_ble_eq_true rfl) ⟨Nat.zero_le _, Nat.zero_le _⟩ dX11_cancel_29 (fun H locs hP hS => ?_)
      rcases ho4 : o3 with _ | c4
      · have hF := oc_n hF ho4
        refine x_n ?_
        refine lv_iconst (v := 0) hx hb dX11_cancel_32 (by decide) ?_
        obtain ⟨r5, hq5, hF⟩ := bn_1 hF
        refine x_callV (ci := 11) rfl rfl C hP hS (c_X11_tryStep_n hL hq5) (lr_0 hL) (lk_0 hL) (cwV 3 C.1.2.2.2.2 (gdV mw_724 mw_725 mw_726 mw_2 mw_727) rfl rfl rfl hd_X11_tryStep ⟨Nat.le_of_ble_eq_true rfl, Nat.le_of_ble_eq_true rfl⟩) rfl rfl hl.1 (Nat.le_of_ble_eq_true rfl) ⟨Nat.zero_le _, Nat.zero_le _⟩ dX11_cancel_33 (fun H locs hP hS => ?_)
        refine lv_if_ne (tgt := 42) hx hb dX11_cancel_36 (by decide) (fun c_6 => ?_) (fun c_6 => ?_) -- COND 6 rcases (Decidable.em (r5 = 0)).symm with c_6 | c_6
        · have hF := ite_f hF c_6
          refine lv_iconst (v := 0) hx hb dX11_cancel_42 (by decide) ?_
          refine lv_istore (lv' := [(4, .int (0 : Int32)), (0, .ref (ad 0)), (1, .int v1), (2, .int v2), (3, .int v3)]) hx hb dX11_cancel_43 hl (by decide) rfl (fun ls hl => ?_)
          exact w_X11_cancel_45 C ih 1024 _ _ _ _ _ _ _ _ _ hρ0 hL hF hP hS (lv_sub hl [1, 2, 3, 4, 0] rfl)
        · have hF := ite_t hF c_6
          refine lv_goto (tgt := 118) hx hb dX11_cancel_39 (by decide) ?_
          exact w_X11_cancel_118 C ih hρ0 hL hF hP hS (lv_sub hl [0, 1, 2, 3] rfl)
      · have hF := oc_s hF ho4
        refine x_s ?_
        obtain ⟨gc4, hF⟩ := gd_1 hF
        refine lv_iconst (v := 0) hx hb dX11_cancel_32 (by decide) ?_
        obtain ⟨r25, σ25, hq25, hF⟩ := bn2_1 hF
        refine x_callV (ci := 11) rfl rfl C hP hS (c_X11_tryStep hL gc4 hq25) (lr_0 hL) (lk_0 hL) (cwV 3 C.1.2.2.2.2 (gdV mw_724 mw_725 mw_726 mw_2 mw_727) rfl rfl rfl hd_X11_tryStep ⟨Nat.le_of_ble_eq_true rfl, Nat.le_of_ble_eq_true rfl⟩) rfl rfl hl.1 (Nat.le_of_ble_eq_true rfl) ⟨Nat.zero_le _, Nat.zero_le _⟩ dX11_cancel_33 (fun H locs hP hS => ?_)
        refine lv_if_ne (tgt := 42) hx hb dX11_cancel_36 (by decide) (fun c_26 => ?_) (fun c_26 => ?_) -- COND 26 rcases (Decidable.em (r25 = 0)).symm with c_26 | c_26
        · have hF := ite_f hF c_26
          refine lv_iconst (v := 0) hx hb dX11_cancel_42 (by decide) ?_
          refine lv_istore (lv' := [(4, .int (0 : Int32)), (0, .ref (ad 0)), (1, .int v1), (2, .int v2), (3, .int v3)]) hx hb dX11_cancel_43 hl (by decide) rfl (fun ls hl => ?_)
          exact w_X11_cancel_45 C ih 1024 _ _ _ _ _ _ _ _ _ hρ0 hL hF hP hS (lv_sub hl [1, 2, 3, 4, 0] rfl)
        · have hF := ite_t hF c_26
          refine lv_goto (tgt := 118) hx hb dX11_cancel_39 (by decide) ?_
          exact w_X11_cancel_118 C ih hρ0 hL hF hP hS (lv_sub hl [0, 1, 2, 3] rfl)
set_option maxHeartbeats 4000000 in
set_option maxRecDepth 100000 in
theorem w_X11_cancel_0 {N : Nat} {K len : Nat → Nat} {p : Program} {e : Env} {s : State} {m : MethodId} {args : Array Value} {below : List Frame} {meth : Method} {c : Code} {ρ0 : RG} {r : Int32} {σ1 : SG} (C : Cx Y D N ad p s m args meth c cX11_cancel 5 (some .int) RX11 wsL_law) {σ : SG} {ρ : RG} {H : Heap} {locs : List Loc} {ls : Array Slot} (hρ0 : ρ = ρ0) (hL : Lay N K len ρ) (hF : F_X11_cancel N K len σ ρ = some (r, σ1)) (hP : WP Y D N ad K len σ ρ H) (hS : va_S (AA N ad s.heap.size) s.heap H locs) (hl : lv_has ls 5 [(0, .ref (ad 0))]) : W p l e rm_X11_cancel s m args below meth c H locs 0 0 (MQ below (QW Y D N ad K len σ1 ρ0 (AA N ad s.heap.size) (some (.int r))) args s 0 0 (AA N ad s.heap.size)) (F0 m 0 ls []) := by
  have hx := C.1.1
  have hb := C.1.2.1
  unfold F_X11_cancel at hF
  refine lv_iconst (v := 0) hx hb dX11_cancel_0 (by decide) ?_
  refine lv_istore_n (lv' := [(1, .int (0 : Int32)), (0, .ref (ad 0))]) hx hb dX11_cancel_1 rfl hl (by decide) rfl (fun ls hl => ?_)
  refine lv_bipush (v := -5) hx hb dX11_cancel_2 (by decide +kernel) ?_
  refine lv_istore_n (lv' := [(2, .int (-5 : Int32)), (1, .int (0 : Int32)), (0, .ref (ad 0))]) hx hb dX11_cancel_4 rfl hl (by decide) rfl (fun ls hl => ?_)
  refine lv_aload_n hx hb dX11_cancel_5 rfl (lv_at hl 2 rfl) ?_
  obtain ⟨σ1, hq1, hF⟩ := bn_1 hF
  refine x_callV (ci := 11) rfl rfl C hP hS (c_X11_startSteps hL hq1) (lr_0 hL) (lk_0 hL) (cwV 0 C.1.2.2.2.2 (gdV mw_713 mw_714 mw_715 mw_2 mw_716) rfl rfl rfl hd_X11_startSteps ⟨Nat.le_of_ble_eq_true rfl, Nat.le_of_ble_eq_true rfl⟩) rfl rfl hl.1 (Nat.le_of_ble_eq_true rfl) ⟨Nat.zero_le _, Nat.zero_le _⟩ dX11_cancel_6 (fun H locs hP hS => ?_)
  refine lv_iconst (v := 0) hx hb dX11_cancel_9 (by decide) ?_
  refine lv_istore_n (lv' := [(3, .int (0 : Int32)), (2, .int (-5 : Int32)), (1, .int (0 : Int32)), (0, .ref (ad 0))]) hx hb dX11_cancel_10 rfl hl (by decide) rfl (fun ls hl => ?_)
  exact w_X11_cancel_11 C 1024 _ _ _ _ _ _ _ _ hρ0 hL hF hP hS (lv_sub hl [3, 2, 1, 0] rfl)
set_option maxHeartbeats 4000000 in
set_option maxRecDepth 100000 in
theorem c_X11_cancel {N : Nat} {K len : Nat → Nat} {r : Int32} {σ1 : SG} {σ : SG} {ρ : RG} (hL : Lay N K len ρ) (hF : F_X11_cancel N K len σ ρ = some (r, σ1)) : MT l Y D N ad K len yX11_cancel (Cond.code yX11_cancel cX11_cancel 5 (some .int) :: wsL_law) rm_X11_cancel [.ref (ad 0)] σ ρ (some (.int r)) σ1 ρ := by
  refine mt_of (cc := cX11_cancel) (nL := 5) (ret := (some .int)) (by decide) (Nat.le_of_ble_eq_true rfl) ?_
  intro p e s m args below meth c ls C hnm hP hS hl
  exact w_X11_cancel_0 C rfl hL hF hP hS hl

/-! CutCrooked.public int enough(int);  -/
theorem dX11_enough_0 : decode cX11_enough 0 = .ok (.aload_n 0, 1) := by decide +kernel
theorem dX11_enough_1 : decode cX11_enough 1 = .ok (.getfield 12, 3) := by decide +kernel
theorem dX11_enough_4 : decode cX11_enough 4 = .ok (.iload_n 1, 1) := by decide +kernel
theorem dX11_enough_5 : decode cX11_enough 5 = .ok (.invokevirtual 100, 3) := by decide +kernel
theorem dX11_enough_8 : decode cX11_enough 8 = .ok (.astore_n 2, 1) := by decide +kernel
theorem dX11_enough_9 : decode cX11_enough 9 = .ok (.aload_n 2, 1) := by decide +kernel
theorem dX11_enough_10 : decode cX11_enough 10 = .ok (.ifnonnull 5, 3) := by decide +kernel
theorem dX11_enough_13 : decode cX11_enough 13 = .ok (.iconst (-1), 1) := by decide +kernel
theorem dX11_enough_14 : decode cX11_enough 14 = .ok (.ireturn, 1) := by decide +kernel
theorem dX11_enough_15 : decode cX11_enough 15 = .ok (.aload_n 0, 1) := by decide +kernel
theorem dX11_enough_16 : decode cX11_enough 16 = .ok (.invokevirtual 176, 3) := by decide +kernel
theorem dX11_enough_19 : decode cX11_enough 19 = .ok (.iconst 1, 1) := by decide +kernel
theorem dX11_enough_20 : decode cX11_enough 20 = .ok (.istore_n 3, 1) := by decide +kernel
theorem dX11_enough_21 : decode cX11_enough 21 = .ok (.iload_n 3, 1) := by decide +kernel
theorem dX11_enough_22 : decode cX11_enough 22 = .ok (.bipush 40, 2) := by decide +kernel
theorem dX11_enough_24 : decode cX11_enough 24 = .ok (.if_icmp .gt 43, 3) := by decide +kernel
theorem dX11_enough_27 : decode cX11_enough 27 = .ok (.aload_n 0, 1) := by decide +kernel
theorem dX11_enough_28 : decode cX11_enough 28 = .ok (.iconst 0, 1) := by decide +kernel
theorem dX11_enough_29 : decode cX11_enough 29 = .ok (.aload_n 2, 1) := by decide +kernel
theorem dX11_enough_30 : decode cX11_enough 30 = .ok (.iload_n 3, 1) := by decide +kernel
theorem dX11_enough_31 : decode cX11_enough 31 = .ok (.invokevirtual 179, 3) := by decide +kernel
theorem dX11_enough_34 : decode cX11_enough 34 = .ok (.ifCond .eq 27, 3) := by decide +kernel
theorem dX11_enough_37 : decode cX11_enough 37 = .ok (.aload_n 0, 1) := by decide +kernel
theorem dX11_enough_38 : decode cX11_enough 38 = .ok (.getfield 37, 3) := by decide +kernel
theorem dX11_enough_41 : decode cX11_enough 41 = .ok (.iconst 1, 1) := by decide +kernel
theorem dX11_enough_42 : decode cX11_enough 42 = .ok (.aaload, 1) := by decide +kernel
theorem dX11_enough_43 : decode cX11_enough 43 = .ok (.getfield 183, 3) := by decide +kernel
theorem dX11_enough_46 : decode cX11_enough 46 = .ok (.aload_n 0, 1) := by decide +kernel
theorem dX11_enough_47 : decode cX11_enough 47 = .ok (.getfield 12, 3) := by decide +kernel
theorem dX11_enough_50 : decode cX11_enough 50 = .ok (.getfield 78, 3) := by decide +kernel
theorem dX11_enough_53 : decode cX11_enough 53 = .ok (.getfield 153, 3) := by decide +kernel
theorem dX11_enough_56 : decode cX11_enough 56 = .ok (.if_icmp .lt 5, 3) := by decide +kernel
theorem dX11_enough_59 : decode cX11_enough 59 = .ok (.iload_n 3, 1) := by decide +kernel
theorem dX11_enough_60 : decode cX11_enough 60 = .ok (.ireturn, 1) := by decide +kernel
theorem dX11_enough_61 : decode cX11_enough 61 = .ok (.iinc 3 1, 3) := by decide +kernel
theorem dX11_enough_64 : decode cX11_enough 64 = .ok (.goto (-43), 3) := by decide +kernel
theorem dX11_enough_67 : decode cX11_enough 67 = .ok (.bipush (-5), 2) := by decide +kernel
theorem dX11_enough_69 : decode cX11_enough 69 = .ok (.ireturn, 1) := by decide +kernel
theorem hd_X11_enough : yX11_enough.cls = RX11 ∧ yX11_enough.cls ≠ "java/lang/invoke/MethodHandle" ∧ yX11_enough.cls ≠ "java/lang/invoke/VarHandle" ∧ (parseMethodDescriptor yX11_enough.desc).map (fun d => d.parameters.length) = some 1 := by decide +kernel
abbrev rm_X11_enough : Room := { frames := 6, cells := 0, slots := 0, locals := 152 }
def F_X11_enough_61 (N : Nat) (K len : Nat → Nat) (a1 : Int32) (rec_21 : SG → RG → Nat → Int32 → Option (Int32 × SG)) (σ : SG) (ρ : RG) (r2 : Nat) (v3 : Int32) : Option (Int32 × SG) :=
  gd (isC N K r2) <|
  nm (v3 + (1 : Int32)) fun x7 =>
  rec_21 σ ρ r2 x7
def F_X11_enough_21 (N : Nat) (K len : Nat → Nat) (a1 : Int32) : Nat → SG → RG → Nat → Int32 → Option (Int32 × SG)
  | 0 => fun _ _ _ _ => none
  | n + 1 => fun σ ρ r2 v3 =>
  gd (isC N K r2) <|
  if (40 : Int32) < v3 then
    some ((-5 : Int32), σ)
  else
    bn2 (F_X11_tryStep N K len (0 : Int32) r2 v3 σ ρ) fun r5 σ5 =>
    if r5 = 0 then
      F_X11_enough_61 N K len a1 (F_X11_enough_21 N K len a1 n) σ5 ρ r2 v3
    else
      if (σ5 42 7) < (σ5 5 0) then
        F_X11_enough_61 N K len a1 (F_X11_enough_21 N K len a1 n) σ5 ρ r2 v3
      else
        some (v3, σ5)
def F_X11_enough (N : Nat) (K len : Nat → Nat) (a1 : Int32) (σ : SG) (ρ : RG) : Option (Int32 × SG) :=
  bn (F_X8_cutterAt_1 a1 σ ρ) fun o1 =>
  oc o1
   (
    some ((-1 : Int32), σ))
   (fun c2 =>
    gd (isC N K c2) <|
    bn (F_X11_startSteps σ ρ) fun σ3 =>
    F_X11_enough_21 N K len a1 1024 σ3 ρ c2 (1 : Int32))
set_option maxHeartbeats 4000000 in
set_option maxRecDepth 100000 in
theorem w_X11_enough_61 {N : Nat} {K len : Nat → Nat} {a1 : Int32} {rec_21 : SG → RG → Nat → Int32 → Option (Int32 × SG)} {p : Program} {e : Env} {s : State} {m : MethodId} {args : Array Value} {below : List Frame} {meth : Method} {c : Code} {ρ0 : RG} {r : Int32} {σ1 : SG} (C : Cx Y D N ad p s m args meth c cX11_enough 4 (some .int) RX11 wsL_law) (hrec_21 : ∀ (σ : SG) (ρ : RG) (r2 : Nat) (v3 : Int32) (H : Heap) (locs : List Loc) (ls : Array Slot), ρ = ρ0 → Lay N K len ρ → rec_21 σ ρ r2 v3 = some (r, σ1) → WP Y D N ad K len σ ρ H → va_S (AA N ad s.heap.size) s.heap H locs → lv_has ls 4 [(0, .ref (ad 0)), (2, .ref (ad r2)), (3, .int v3)] → W p l e rm_X11_enough s m args below meth c H locs 0 0 (MQ below (QW Y D N ad K len σ1 ρ0 (AA N ad s.heap.size) (some (.int r))) args s 0 0 (AA N ad s.heap.size)) (F0 m 21 ls [])) {σ : SG} {ρ : RG} {r2 : Nat} {v3 : Int32} {H : Heap} {locs : List Loc} {ls : Array Slot} (hρ0 : ρ = ρ0) (hL : Lay N K len ρ) (hF : F_X11_enough_61 N K len a1 rec_21 σ ρ r2 v3 = some (r, σ1)) (hP : WP Y D N ad K len σ ρ H) (hS : va_S (AA N ad s.heap.size) s.heap H locs) (hl : lv_has ls 4 [(0, .ref (ad 0)), (2, .ref (ad r2)), (3, .int v3)]) : W p l e rm_X11_enough s m args below meth c H locs 0 0 (MQ below (QW Y D N ad K len σ1 ρ0 (AA N ad s.heap.size) (some (.int r))) args s 0 0 (AA N ad s.heap.size)) (F0 m 61 ls []) := by
  have hx := C.1.1
  have hb := C.1.2.1
  unfold F_X11_enough_61 at hF
  obtain ⟨gr2, hF⟩ := gd_1 hF
  obtain ⟨x7, ex7, hF⟩ := nm_1 hF
  refine lv_iinc (v := x7) (lv' := [(3, .int x7), (0, .ref (ad 0)), (2, .ref (ad r2))]) hx hb dX11_enough_61 hl (k := 2) rfl (by rw [ex7]; first | rfl | decide) (by decide) rfl (fun ls hl => ?_)
  refine lv_goto (tgt := 21) hx hb dX11_enough_64 (by decide) ?_
  exact hrec_21 _ _ _ _ _ _ _ hρ0 hL hF hP hS (lv_sub hl [1, 2, 0] rfl)
set_option maxHeartbeats 4000000 in
set_option maxRecDepth 100000 in
theorem w_X11_enough_21 {N : Nat} {K len : Nat → Nat} {a1 : Int32} {p : Program} {e : Env} {s : State} {m : MethodId} {args : Array Value} {below : List Frame} {meth : Method} {c : Code} {ρ0 : RG} {r : Int32} {σ1 : SG} (C : Cx Y D N ad p s m args meth c cX11_enough 4 (some .int) RX11 wsL_law) : ∀ (n : Nat) (σ : SG) (ρ : RG) (r2 : Nat) (v3 : Int32) (H : Heap) (locs : List Loc) (ls : Array Slot), ρ = ρ0 → Lay N K len ρ → F_X11_enough_21 N K len a1 n σ ρ r2 v3 = some (r, σ1) → WP Y D N ad K len σ ρ H → va_S (AA N ad s.heap.size) s.heap H locs → lv_has ls 4 [(0, .ref (ad 0)), (2, .ref (ad r2)), (3, .int v3)] → W p l e rm_X11_enough s m args below meth c H locs 0 0 (MQ below (QW Y D N ad K len σ1 ρ0 (AA N ad s.heap.size) (some (.int r))) args s 0 0 (AA N ad s.heap.size)) (F0 m 21 ls []) := by
  have hx := C.1.1
  have hb := C.1.2.1
  intro n
  induction n with
  | zero => intro σ ρ r2 v3 H locs ls hρ0 hL hF; cases hF
  | succ n ih =>
    intro σ ρ r2 v3 H locs ls hρ0 hL hF hP hS hl
    unfold F_X11_enough_21 at hF
    obtain ⟨gr2, hF⟩ := gd_1 hF
    refine lv_iload_n hx hb dX11_enough_21 rfl (lv_at hl 2 rfl) ?_
    refine lv_bipush (v := 40) hx hb dX11_enough_22 (by decide +kernel) ?_
    refine lv_icmp_gt (tgt := 67) hx hb dX11_enough_24 (by decide) (fun c_4 => ?_) (fun c_4 => ?_) -- COND 4 by_cases c_4 : (40 : Int32) < v3
    · have hF := ite_t hF c_4
      refine lv_bipush (v := -5) hx hb dX11_enough_67 (by decide +kernel) ?_
      obtain ⟨rfl, rfl⟩ := ret_2 hF
      subst hρ0
      exact x_iret rfl C hP hS dX11_enough_69
    · have hF := ite_f hF c_4
      refine lv_aload_n hx hb dX11_enough_27 rfl (lv_at hl 0 rfl) ?_
      refine lv_iconst (v := 0) hx hb dX11_enough_28 (by decide) ?_
      refine lv_aload_n hx hb dX11_enough_29 rfl (lv_at hl 1 rfl) ?_
      refine lv_iload_n hx hb dX11_enough_30 rfl (lv_at hl 2 rfl) ?_
      obtain ⟨r5, σ5, hq5, hF⟩ := bn2_1 hF
      refine x_callV (ci := 11) rfl rfl C hP hS (c_X11_tryStep hL gr2 hq5) (lr_0 hL) (lk_0 hL) (cwV 3 C.1.2.2.2.2 (gdV mw_724 mw_725 mw_726 mw_2 mw_727) rfl rfl rfl hd_X11_tryStep ⟨Nat.le_of_ble_eq_true rfl, Nat.le_of_ble_eq_true rfl⟩) rfl rfl hl.1 (Nat.le_of_ble_eq_true rfl) ⟨Nat.zero_le _, Nat.zero_le _⟩ dX11_enough_31 (fun H locs hP hS => ?_)
      refine lv_if_eq (tgt := 61) hx hb dX11_enough_34 (by decide) (fun c_6 => ?_) (fun c_6 => ?_) -- COND 6 by_cases c_6 : r5 = 0
      · have hF := ite_t hF c_6
        exact w_X11_enough_61 C ih hρ0 hL hF hP hS (lv_sub hl [0, 1, 2] rfl)
      · have hF := ite_f hF c_6
        refine lv_aload_n hx hb dX11_enough_37 rfl (lv_at hl 0 rfl) ?_
        refine get_11_5 C hP (lr_0 hL) (lk_0 hL) inlX11 mw_26 (lf_0_5 hL) dX11_enough_38 ?_
        refine lv_iconst (v := 1) hx hb dX11_enough_41 (by decide) ?_
        refine x_aald (v := .ref (ad 42)) C hP (lr_34 hL) (lk_34 hL) (Or.inr ⟨rfl, rfl, rfl⟩) (ln_34 hL) (by decide +kernel) (by rw [cl_1, (lf_34_1 hL)]; rfl) dX11_enough_42 ?_
        refine get_3_7 C hP (lr_42 hL) (lk_42 hL) inlX3 mw_711 dX11_enough_43 ?_
        refine lv_aload_n hx hb dX11_enough_46 rfl (lv_at hl 0 rfl) ?_
        refine get_11_0 C hP (lr_0 hL) (lk_0 hL) inlX11 mw_15 (lf_0_0 hL) dX11_enough_47 ?_
        refine get_8_3 C hP (lr_1 hL) (lk_1 hL) inlX8 mw_113 (lf_1_3 hL) dX11_enough_50 ?_
        refine get_0_0 C hP (lr_5 hL) (lk_5 hL) inlX0 mw_504 dX11_enough_53 ?_
        refine lv_icmp_lt (tgt := 61) hx hb dX11_enough_56 (by decide) (fun c_8 => ?_) (fun c_8 => ?_) -- COND 8 by_cases c_8 : (σ5 42 7) < (σ5 5 0)
        · have hF := ite_t hF c_8
          exact w_X11_enough_61 C ih hρ0 hL hF hP hS (lv_sub hl [0, 1, 2] rfl)
        · have hF := ite_f hF c_8
          refine lv_iload_n hx hb dX11_enough_59 rfl (lv_at hl 2 rfl) ?_
          obtain ⟨rfl, rfl⟩ := ret_2 hF
          subst hρ0
          exact x_iret rfl C hP hS dX11_enough_60
set_option maxHeartbeats 4000000 in
set_option maxRecDepth 100000 in
theorem w_X11_enough_0 {N : Nat} {K len : Nat → Nat} {a1 : Int32} {p : Program} {e : Env} {s : State} {m : MethodId} {args : Array Value} {below : List Frame} {meth : Method} {c : Code} {ρ0 : RG} {r : Int32} {σ1 : SG} (C : Cx Y D N ad p s m args meth c cX11_enough 4 (some .int) RX11 wsL_law) {σ : SG} {ρ : RG} {H : Heap} {locs : List Loc} {ls : Array Slot} (hρ0 : ρ = ρ0) (hL : Lay N K len ρ) (hF : F_X11_enough N K len a1 σ ρ = some (r, σ1)) (hP : WP Y D N ad K len σ ρ H) (hS : va_S (AA N ad s.heap.size) s.heap H locs) (hl : lv_has ls 4 [(0, .ref (ad 0)), (1, .int a1)]) : W p l e rm_X11_enough s m args below meth c H locs 0 0 (MQ below (QW Y D N ad K len σ1 ρ0 (AA N ad s.heap.size) (some (.int r))) args s 0 0 (AA N ad s.heap.size)) (F0 m 0 ls []) := by
  have hx := C.1.1
  have hb := C.1.2.1
  unfold F_X11_enough at hF
  refine lv_aload_n hx hb dX11_enough_0 rfl (lv_at hl 0 rfl) ?_
  refine get_11_0 C hP (lr_0 hL) (lk_0 hL) inlX11 mw_15 (lf_0_0 hL) dX11_enough_1 ?_
  refine lv_iload_n hx hb dX11_enough_4 rfl (lv_at hl 1 rfl) ?_
  obtain ⟨o1, hq1, hF⟩ := bn_1 hF
  refine x_callV (ci := 8) rfl rfl C hP hS (c_X8_cutterAt_1 hL hq1) (lr_1 hL) (lk_1 hL) (cwV 1 C.1.2.2.2.2 (gdV mw_428 mw_429 mw_430 mw_14 mw_431) rfl rfl rfl hd_X8_cutterAt ⟨Nat.le_of_ble_eq_true rfl, Nat.le_of_ble_eq_true rfl⟩) rfl rfl hl.1 (Nat.le_of_ble_eq_true rfl) ⟨Nat.zero_le _, Nat.zero_le _⟩ dX11_enough_5 (fun H locs hP hS => ?_)
  rcases ho2 : o1 with _ | c2
  · have hF := oc_n hF ho2
    refine x_n ?_
    refine lv_astore_nN (lv' := [(2, .null), (0, .ref (ad 0)), (1, .int a1)]) hx hb dX11_enough_8 rfl hl (by decide) rfl (fun ls hl => ?_)
    refine lv_aload_nN hx hb dX11_enough_9 rfl (lv_at hl 0 rfl) ?_
    refine lv_ifnonnullN hx hb dX11_enough_10 ?_
    refine lv_iconst (v := -1) hx hb dX11_enough_13 (by decide) ?_
    obtain ⟨rfl, rfl⟩ := ret_2 hF
    subst hρ0
    exact x_iret rfl C hP hS dX11_enough_14
  · have hF := oc_s hF ho2
    refine x_s ?_
    obtain ⟨gc2, hF⟩ := gd_1 hF
    refine lv_astore_n (lv' := [(2, .ref (ad c2)), (0, .ref (ad 0)), (1, .int a1)]) hx hb dX11_enough_8 rfl hl (by decide) rfl (fun ls hl => ?_)
    refine lv_aload_n hx hb dX11_enough_9 rfl (lv_at hl 0 rfl) ?_
    refine lv_ifnonnull (tgt := 15) hx hb dX11_enough_10 (by decide) ?_
    refine lv_aload_n hx hb dX11_enough_15 rfl (lv_at hl 1 rfl) ?_
    obtain ⟨σ3, hq3, hF⟩ := bn_1 hF
    refine x_callV (ci := 11) rfl rfl C hP hS (c_X11_startSteps hL hq3) (lr_0 hL) (lk_0 hL) (cwV 0 C.1.2.2.2.2 (gdV mw_713 mw_714 mw_715 mw_2 mw_716) rfl rfl rfl hd_X11_startSteps ⟨Nat.le_of_ble_eq_true rfl, Nat.le_of_ble_eq_true rfl⟩) rfl rfl hl.1 (Nat.le_of_ble_eq_true rfl) ⟨Nat.zero_le _, Nat.zero_le _⟩ dX11_enough_16 (fun H locs hP hS => ?_)
    refine lv_iconst (v := 1) hx hb dX11_enough_19 (by decide) ?_
    refine lv_istore_n (lv' := [(3, .int (1 : Int32)), (2, .ref (ad c2)), (0, .ref (ad 0)), (1, .int a1)]) hx hb dX11_enough_20 rfl hl (by decide) rfl (fun ls hl => ?_)
    exact w_X11_enough_21 C 1024 _ _ _ _ _ _ _ hρ0 hL hF hP hS (lv_sub hl [2, 1, 0] rfl)
set_option maxHeartbeats 4000000 in
set_option maxRecDepth 100000 in
theorem c_X11_enough {N : Nat} {K len : Nat → Nat} {a1 : Int32} {r : Int32} {σ1 : SG} {σ : SG} {ρ : RG} (hL : Lay N K len ρ) (hF : F_X11_enough N K len a1 σ ρ = some (r, σ1)) : MT l Y D N ad K len yX11_enough (Cond.code yX11_enough cX11_enough 4 (some .int) :: wsL_law) rm_X11_enough [.ref (ad 0), .int a1] σ ρ (some (.int r)) σ1 ρ := by
  refine mt_of (cc := cX11_enough) (nL := 4) (ret := (some .int)) (by decide) (Nat.le_of_ble_eq_true rfl) ?_
  intro p e s m args below meth c ls C hnm hP hS hl
  exact w_X11_enough_0 C rfl hL hF hP hS hl

/-! CutCrooked.public int when(int, int);  -/
theorem dX11_when_0 : decode cX11_when 0 = .ok (.iload_n 2, 1) := by decide +kernel
theorem dX11_when_1 : decode cX11_when 1 = .ok (.iconst 0, 1) := by decide +kernel
theorem dX11_when_2 : decode cX11_when 2 = .ok (.iconst 1, 1) := by decide +kernel
theorem dX11_when_3 : decode cX11_when 3 = .ok (.invokestatic 56, 3) := by decide +kernel
theorem dX11_when_6 : decode cX11_when 6 = .ok (.ifCond .ne 5, 3) := by decide +kernel
theorem dX11_when_9 : decode cX11_when 9 = .ok (.iconst (-1), 1) := by decide +kernel
theorem dX11_when_10 : decode cX11_when 10 = .ok (.ireturn, 1) := by decide +kernel
theorem dX11_when_11 : decode cX11_when 11 = .ok (.iload_n 1, 1) := by decide +kernel
theorem dX11_when_12 : decode cX11_when 12 = .ok (.iconst 1, 1) := by decide +kernel
theorem dX11_when_13 : decode cX11_when 13 = .ok (.bipush 20, 2) := by decide +kernel
theorem dX11_when_15 : decode cX11_when 15 = .ok (.invokestatic 56, 3) := by decide +kernel
theorem dX11_when_18 : decode cX11_when 18 = .ok (.ifCond .ne 6, 3) := by decide +kernel
theorem dX11_when_21 : decode cX11_when 21 = .ok (.bipush (-2), 2) := by decide +kernel
theorem dX11_when_23 : decode cX11_when 23 = .ok (.ireturn, 1) := by decide +kernel
theorem dX11_when_24 : decode cX11_when 24 = .ok (.aload_n 0, 1) := by decide +kernel
theorem dX11_when_25 : decode cX11_when 25 = .ok (.iload_n 1, 1) := by decide +kernel
theorem dX11_when_26 : decode cX11_when 26 = .ok (.iconst (-1), 1) := by decide +kernel
theorem dX11_when_27 : decode cX11_when 27 = .ok (.iconst 0, 1) := by decide +kernel
theorem dX11_when_28 : decode cX11_when 28 = .ok (.iconst 0, 1) := by decide +kernel
theorem dX11_when_29 : decode cX11_when 29 = .ok (.invokevirtual 189, 3) := by decide +kernel
theorem dX11_when_32 : decode cX11_when 32 = .ok (.aload_n 0, 1) := by decide +kernel
theorem dX11_when_33 : decode cX11_when 33 = .ok (.getfield 193, 3) := by decide +kernel
theorem dX11_when_36 : decode cX11_when 36 = .ok (.istore_n 3, 1) := by decide +kernel
theorem dX11_when_37 : decode cX11_when 37 = .ok (.bipush (-5), 2) := by decide +kernel
theorem dX11_when_39 : decode cX11_when 39 = .ok (.istore 4, 2) := by decide +kernel
theorem dX11_when_41 : decode cX11_when 41 = .ok (.iconst 0, 1) := by decide +kernel
theorem dX11_when_42 : decode cX11_when 42 = .ok (.istore 5, 2) := by decide +kernel
theorem dX11_when_44 : decode cX11_when 44 = .ok (.iload 5, 2) := by decide +kernel
theorem dX11_when_46 : decode cX11_when 46 = .ok (.iload_n 1, 1) := by decide +kernel
theorem dX11_when_47 : decode cX11_when 47 = .ok (.if_icmp .ge 35, 3) := by decide +kernel
theorem dX11_when_50 : decode cX11_when 50 = .ok (.aload_n 0, 1) := by decide +kernel
theorem dX11_when_51 : decode cX11_when 51 = .ok (.iload_n 1, 1) := by decide +kernel
theorem dX11_when_52 : decode cX11_when 52 = .ok (.iload 5, 2) := by decide +kernel
theorem dX11_when_54 : decode cX11_when 54 = .ok (.iconst 0, 1) := by decide +kernel
theorem dX11_when_55 : decode cX11_when 55 = .ok (.iconst 0, 1) := by decide +kernel
theorem dX11_when_56 : decode cX11_when 56 = .ok (.invokevirtual 189, 3) := by decide +kernel
theorem dX11_when_59 : decode cX11_when 59 = .ok (.aload_n 0, 1) := by decide +kernel
theorem dX11_when_60 : decode cX11_when 60 = .ok (.getfield 193, 3) := by decide +kernel
theorem dX11_when_63 : decode cX11_when 63 = .ok (.iload_n 3, 1) := by decide +kernel
theorem dX11_when_64 : decode cX11_when 64 = .ok (.if_icmp .le 12, 3) := by decide +kernel
theorem dX11_when_67 : decode cX11_when 67 = .ok (.aload_n 0, 1) := by decide +kernel
theorem dX11_when_68 : decode cX11_when 68 = .ok (.getfield 193, 3) := by decide +kernel
theorem dX11_when_71 : decode cX11_when 71 = .ok (.istore_n 3, 1) := by decide +kernel
theorem dX11_when_72 : decode cX11_when 72 = .ok (.iload 5, 2) := by decide +kernel
theorem dX11_when_74 : decode cX11_when 74 = .ok (.istore 4, 2) := by decide +kernel
theorem dX11_when_76 : decode cX11_when 76 = .ok (.iinc 5 1, 3) := by decide +kernel
theorem dX11_when_79 : decode cX11_when 79 = .ok (.goto (-35), 3) := by decide +kernel
theorem dX11_when_82 : decode cX11_when 82 = .ok (.iload_n 2, 1) := by decide +kernel
theorem dX11_when_83 : decode cX11_when 83 = .ok (.ifCond .eq 10, 3) := by decide +kernel
theorem dX11_when_86 : decode cX11_when 86 = .ok (.iload 4, 2) := by decide +kernel
theorem dX11_when_88 : decode cX11_when 88 = .ok (.bipush (-5), 2) := by decide +kernel
theorem dX11_when_90 : decode cX11_when 90 = .ok (.if_icmp .ne 8, 3) := by decide +kernel
theorem dX11_when_93 : decode cX11_when 93 = .ok (.iload 4, 2) := by decide +kernel
theorem dX11_when_95 : decode cX11_when 95 = .ok (.goto 4, 3) := by decide +kernel
theorem dX11_when_98 : decode cX11_when 98 = .ok (.iload_n 3, 1) := by decide +kernel
theorem dX11_when_99 : decode cX11_when 99 = .ok (.ireturn, 1) := by decide +kernel
theorem hd_X11_when : yX11_when.cls = RX11 ∧ yX11_when.cls ≠ "java/lang/invoke/MethodHandle" ∧ yX11_when.cls ≠ "java/lang/invoke/VarHandle" ∧ (parseMethodDescriptor yX11_when.desc).map (fun d => d.parameters.length) = some 2 := by decide +kernel
abbrev rm_X11_when : Room := { frames := 6, cells := 0, slots := 0, locals := 156 }
def F_X11_when_76 (N : Nat) (K len : Nat → Nat) (a1 : Int32) (a2 : Int32) (rec_44 : SG → RG → Int32 → Int32 → Int32 → Int32 → Int32 → Option (Int32 × SG)) (σ : SG) (ρ : RG) (v1 : Int32) (v2 : Int32) (v3 : Int32) (v4 : Int32) (v5 : Int32) : Option (Int32 × SG) :=
  nm (v5 + (1 : Int32)) fun x11 =>
  rec_44 σ ρ v1 v2 v3 v4 x11
def F_X11_when_44 (N : Nat) (K len : Nat → Nat) (a1 : Int32) (a2 : Int32) : Nat → SG → RG → Int32 → Int32 → Int32 → Int32 → Int32 → Option (Int32 × SG)
  | 0 => fun _ _ _ _ _ _ _ => none
  | n + 1 => fun σ ρ v1 v2 v3 v4 v5 =>
  if v1 ≤ v5 then
    if v2 = 0 then
      some (v4, σ)
    else
      if v4 = (-5 : Int32) then
        some (v4, σ)
      else
        some (v3, σ)
  else
    bn (F_X11_goOn N K len v1 v5 (0 : Int32) (0 : Int32) σ ρ) fun σ9 =>
    if (σ9 0 13) ≤ v3 then
      F_X11_when_76 N K len a1 a2 (F_X11_when_44 N K len a1 a2 n) σ9 ρ v1 v2 v3 v4 v5
    else
      F_X11_when_76 N K len a1 a2 (F_X11_when_44 N K len a1 a2 n) σ9 ρ v1 v2 (σ9 0 13) v5 v5
def F_X11_when (N : Nat) (K len : Nat → Nat) (a1 : Int32) (a2 : Int32) (σ : SG) (ρ : RG) : Option (Int32 × SG) :=
  bn (F_X11_isWithin a2 (0 : Int32) (1 : Int32) σ ρ) fun r1 =>
  if r1 = 0 then
    some ((-1 : Int32), σ)
  else
    bn (F_X11_isWithin a1 (1 : Int32) (20 : Int32) σ ρ) fun r3 =>
    if r3 = 0 then
      some ((-2 : Int32), σ)
    else
      bn (F_X11_goOn N K len a1 (-1 : Int32) (0 : Int32) (0 : Int32) σ ρ) fun σ5 =>
      F_X11_when_44 N K len a1 a2 1024 σ5 ρ a1 a2 (σ5 0 13) (-5 : Int32) (0 : Int32)
set_option maxHeartbeats 4000000 in
set_option maxRecDepth 100000 in
theorem w_X11_when_76 {N : Nat} {K len : Nat → Nat} {a1 : Int32} {a2 : Int32} {rec_44 : SG → RG → Int32 → Int32 → Int32 → Int32 → Int32 → Option (Int32 × SG)} {p : Program} {e : Env} {s : State} {m : MethodId} {args : Array Value} {below : List Frame} {meth : Method} {c : Code} {ρ0 : RG} {r : Int32} {σ1 : SG} (C : Cx Y D N ad p s m args meth c cX11_when 6 (some .int) RX11 wsL_law) (hrec_44 : ∀ (σ : SG) (ρ : RG) (v1 : Int32) (v2 : Int32) (v3 : Int32) (v4 : Int32) (v5 : Int32) (H : Heap) (locs : List Loc) (ls : Array Slot), ρ = ρ0 → Lay N K len ρ → rec_44 σ ρ v1 v2 v3 v4 v5 = some (r, σ1) → WP Y D N ad K len σ ρ H → va_S (AA N ad s.heap.size) s.heap H locs → lv_has ls 6 [(0, .ref (ad 0)), (1, .int v1), (2, .int v2), (3, .int v3), (4, .int v4), (5, .int v5)] → W p l e rm_X11_when s m args below meth c H locs 0 0 (MQ below (QW Y D N ad K len σ1 ρ0 (AA N ad s.heap.size) (some (.int r))) args s 0 0 (AA N ad s.heap.size)) (F0 m 44 ls [])) {σ : SG} {ρ : RG} {v1 : Int32} {v2 : Int32} {v3 : Int32} {v4 : Int32} {v5 : Int32} {H : Heap} {locs : List Loc} {ls : Array Slot} (hρ0 : ρ = ρ0) (hL : Lay N K len ρ) (hF : F_X11_when_76 N K len a1 a2 rec_44 σ ρ v1 v2 v3 v4 v5 = some (r, σ1)) (hP : WP Y D N ad K len σ ρ H) (hS : va_S (AA N ad s.heap.size) s.heap H locs) (hl : lv_has ls 6 [(0, .ref (ad 0)), (1, .int v1), (2, .int v2), (3, .int v3), (4, .int v4), (5, .int v5)]) : W p l e rm_X11_when s m args below meth c H locs 0 0 (MQ below (QW Y D N ad K len σ1 ρ0 (AA N ad s.heap.size) (some (.int r))) args s 0 0 (AA N ad s.heap.size)) (F0 m 76 ls []) := by
  have hx := C.1.1
  have hb := C.1.2.1
  unfold F_X11_when_76 at hF
  obtain ⟨x11, ex11, hF⟩ := nm_1 hF
  refine lv_iinc (v := x11) (lv' := [(5, .int x11), (0, .ref (ad 0)), (1, .int v1), (2, .int v2), (3, .int v3), (4, .int v4)]) hx hb dX11_when_76 hl (k := 5) rfl (by rw [ex11]; first | rfl | decide) (by decide) rfl (fun ls hl => ?_)
  refine lv_goto (tgt := 44) hx hb dX11_when_79 (by decide) ?_
  exact hrec_44 _ _ _ _ _ _ _ _ _ _ hρ0 hL hF hP hS (lv_sub hl [1, 2, 3, 4, 5, 0] rfl)
set_option maxHeartbeats 4000000 in
set_option maxRecDepth 100000 in
theorem w_X11_when_44 {N : Nat} {K len : Nat → Nat} {a1 : Int32} {a2 : Int32} {p : Program} {e : Env} {s : State} {m : MethodId} {args : Array Value} {below : List Frame} {meth : Method} {c : Code} {ρ0 : RG} {r : Int32} {σ1 : SG} (C : Cx Y D N ad p s m args meth c cX11_when 6 (some .int) RX11 wsL_law) : ∀ (n : Nat) (σ : SG) (ρ : RG) (v1 : Int32) (v2 : Int32) (v3 : Int32) (v4 : Int32) (v5 : Int32) (H : Heap) (locs : List Loc) (ls : Array Slot), ρ = ρ0 → Lay N K len ρ → F_X11_when_44 N K len a1 a2 n σ ρ v1 v2 v3 v4 v5 = some (r, σ1) → WP Y D N ad K len σ ρ H → va_S (AA N ad s.heap.size) s.heap H locs → lv_has ls 6 [(0, .ref (ad 0)), (1, .int v1), (2, .int v2), (3, .int v3), (4, .int v4), (5, .int v5)] → W p l e rm_X11_when s m args below meth c H locs 0 0 (MQ below (QW Y D N ad K len σ1 ρ0 (AA N ad s.heap.size) (some (.int r))) args s 0 0 (AA N ad s.heap.size)) (F0 m 44 ls []) := by
  have hx := C.1.1
  have hb := C.1.2.1
  intro n
  induction n with
  | zero => intro σ ρ v1 v2 v3 v4 v5 H locs ls hρ0 hL hF; cases hF
  | succ n ih =>
    intro σ ρ v1 v2 v3 v4 v5 H locs ls hρ0 hL hF hP hS hl
    unfold F_X11_when_44 at hF
    refine lv_iload hx hb dX11_when_44 (lv_at hl 5 rfl) ?_
    refine lv_iload_n hx hb dX11_when_46 rfl (lv_at hl 1 rfl) ?_
    refine lv_icmp_ge (tgt := 82) hx hb dX11_when_47 (by decide) (fun c_6 => ?_) (fun c_6 => ?_) -- COND 6 by_cases c_6 : v1 ≤ v5
    · have hF := ite_t hF c_6
      refine lv_iload_n hx hb dX11_when_82 rfl (lv_at hl 2 rfl) ?_
      refine lv_if_eq (tgt := 93) hx hb dX11_when_83 (by decide) (fun c_7 => ?_) (fun c_7 => ?_) -- COND 7 by_cases c_7 : v2 = 0
      · have hF := ite_t hF c_7
        refine lv_iload hx hb dX11_when_93 (lv_at hl 4 rfl) ?_
        refine lv_goto (tgt := 99) hx hb dX11_when_95 (by decide) ?_
        obtain ⟨rfl, rfl⟩ := ret_2 hF
        subst hρ0
        exact x_iret rfl C hP hS dX11_when_99
      · have hF := ite_f hF c_7
        refine lv_iload hx hb dX11_when_86 (lv_at hl 4 rfl) ?_
        refine lv_bipush (v := -5) hx hb dX11_when_88 (by decide +kernel) ?_
        refine lv_icmp_ne (tgt := 98) hx hb dX11_when_90 (by decide) (fun c_8 => ?_) (fun c_8 => ?_) -- COND 8 rcases (Decidable.em (v4 = (-5 : Int32))).symm with c_8 | c_8
        · have hF := ite_f hF c_8
          refine lv_iload_n hx hb dX11_when_98 rfl (lv_at hl 3 rfl) ?_
          obtain ⟨rfl, rfl⟩ := ret_2 hF
          subst hρ0
          exact x_iret rfl C hP hS dX11_when_99
        · have hF := ite_t hF c_8
          refine lv_iload hx hb dX11_when_93 (lv_at hl 4 rfl) ?_
          refine lv_goto (tgt := 99) hx hb dX11_when_95 (by decide) ?_
          obtain ⟨rfl, rfl⟩ := ret_2 hF
          subst hρ0
          exact x_iret rfl C hP hS dX11_when_99
    · have hF := ite_f hF c_6
      refine lv_aload_n hx hb dX11_when_50 rfl (lv_at hl 0 rfl) ?_
      refine lv_iload_n hx hb dX11_when_51 rfl (lv_at hl 1 rfl) ?_
      refine lv_iload hx hb dX11_when_52 (lv_at hl 5 rfl) ?_
      refine lv_iconst (v := 0) hx hb dX11_when_54 (by decide) ?_
      refine lv_iconst (v := 0) hx hb dX11_when_55 (by decide) ?_
      obtain ⟨σ9, hq9, hF⟩ := bn_1 hF
      refine x_callV (ci := 11) rfl rfl C hP hS (c_X11_goOn hL hq9) (lr_0 hL) (lk_0 hL) (cwV 4 C.1.2.2.2.2 (gdV mw_745 mw_746 mw_747 mw_2 mw_748) rfl rfl rfl hd_X11_goOn ⟨Nat.le_of_ble_eq_true rfl, Nat.le_of_ble_eq_true rfl⟩) rfl rfl hl.1 (Nat.le_of_ble_eq_true rfl) ⟨Nat.zero_le _, Nat.zero_le _⟩ dX11_when_56 (fun H locs hP hS => ?_)
      refine lv_aload_n hx hb dX11_when_59 rfl (lv_at hl 0 rfl) ?_
      refine get_11_13 C hP (lr_0 hL) (lk_0 hL) inlX11 mw_744 dX11_when_60 ?_
      refine lv_iload_n hx hb dX11_when_63 rfl (lv_at hl 3 rfl) ?_
      refine lv_icmp_le (tgt := 76) hx hb dX11_when_64 (by decide) (fun c_10 => ?_) (fun c_10 => ?_) -- COND 10 by_cases c_10 : (σ9 0 13) ≤ v3
      · have hF := ite_t hF c_10
        exact w_X11_when_76 C ih hρ0 hL hF hP hS (lv_sub hl [0, 1, 2, 3, 4, 5] rfl)
      · have hF := ite_f hF c_10
        refine lv_aload_n hx hb dX11_when_67 rfl (lv_at hl 0 rfl) ?_
        refine get_11_13 C hP (lr_0 hL) (lk_0 hL) inlX11 mw_744 dX11_when_68 ?_
        refine lv_istore_n (lv' := [(3, .int (σ9 0 13)), (0, .ref (ad 0)), (1, .int v1), (2, .int v2), (4, .int v4), (5, .int v5)]) hx hb dX11_when_71 rfl hl (by decide) rfl (fun ls hl => ?_)
        refine lv_iload hx hb dX11_when_72 (lv_at hl 5 rfl) ?_
        refine lv_istore (lv' := [(4, .int v5), (3, .int (σ9 0 13)), (0, .ref (ad 0)), (1, .int v1), (2, .int v2), (5, .int v5)]) hx hb dX11_when_74 hl (by decide) rfl (fun ls hl => ?_)
        exact w_X11_when_76 C ih hρ0 hL hF hP hS (lv_sub hl [2, 3, 4, 1, 0, 5] rfl)
set_option maxHeartbeats 4000000 in
set_option maxRecDepth 100000 in
theorem w_X11_when_0 {N : Nat} {K len : Nat → Nat} {a1 : Int32} {a2 : Int32} {p : Program} {e : Env} {s : State} {m : MethodId} {args : Array Value} {below : List Frame} {meth : Method} {c : Code} {ρ0 : RG} {r : Int32} {σ1 : SG} (C : Cx Y D N ad p s m args meth c cX11_when 6 (some .int) RX11 wsL_law) {σ : SG} {ρ : RG} {H : Heap} {locs : List Loc} {ls : Array Slot} (hρ0 : ρ = ρ0) (hL : Lay N K len ρ) (hF : F_X11_when N K len a1 a2 σ ρ = some (r, σ1)) (hP : WP Y D N ad K len σ ρ H) (hS : va_S (AA N ad s.heap.size) s.heap H locs) (hl : lv_has ls 6 [(0, .ref (ad 0)), (1, .int a1), (2, .int a2)]) : W p l e rm_X11_when s m args below meth c H locs 0 0 (MQ below (QW Y D N ad K len σ1 ρ0 (AA N ad s.heap.size) (some (.int r))) args s 0 0 (AA N ad s.heap.size)) (F0 m 0 ls []) := by
  have hx := C.1.1
  have hb := C.1.2.1
  unfold F_X11_when at hF
  refine lv_iload_n hx hb dX11_when_0 rfl (lv_at hl 2 rfl) ?_
  refine lv_iconst (v := 0) hx hb dX11_when_1 (by decide) ?_
  refine lv_iconst (v := 1) hx hb dX11_when_2 (by decide) ?_
  obtain ⟨r1, hq1, hF⟩ := bn_1 hF
  refine x_callS C hP hS (c_X11_isWithin hL hq1) (va_cwS 3 C.1.2.2.2.2 (gdS mw_97 mw_98 mw_2 mw_99) rfl rfl rfl hd_X11_isWithin.2 ⟨Nat.le_of_ble_eq_true rfl, Nat.le_of_ble_eq_true rfl⟩) rfl rfl hl.1 (Nat.le_of_ble_eq_true rfl) ⟨Nat.zero_le _, Nat.zero_le _⟩ dX11_when_3 (fun H locs hP hS => ?_)
  refine lv_if_ne (tgt := 11) hx hb dX11_when_6 (by decide) (fun c_2 => ?_) (fun c_2 => ?_) -- COND 2 rcases (Decidable.em (r1 = 0)).symm with c_2 | c_2
  · have hF := ite_f hF c_2
    refine lv_iload_n hx hb dX11_when_11 rfl (lv_at hl 1 rfl) ?_
    refine lv_iconst (v := 1) hx hb dX11_when_12 (by decide) ?_
    refine lv_bipush (v := 20) hx hb dX11_when_13 (by decide +kernel) ?_
    obtain ⟨r3, hq3, hF⟩ := bn_1 hF
    refine x_callS C hP hS (c_X11_isWithin hL hq3) (va_cwS 3 C.1.2.2.2.2 (gdS mw_97 mw_98 mw_2 mw_99) rfl rfl rfl hd_X11_isWithin.2 ⟨Nat.le_of_ble_eq_true rfl, Nat.le_of_ble_eq_true rfl⟩) rfl rfl hl.1 (Nat.le_of_ble_eq_true rfl) ⟨Nat.zero_le _, Nat.zero_le _⟩ dX11_when_15 (fun H locs hP hS => ?_)
    refine lv_if_ne (tgt := 24) hx hb dX11_when_18 (by decide) (fun c_4 => ?_) (fun c_4 => ?_) -- COND 4 rcases (Decidable.em (r3 = 0)).symm with c_4 | c_4
    · have hF := ite_f hF c_4
      refine lv_aload_n hx hb dX11_when_24 rfl (lv_at hl 0 rfl) ?_
      refine lv_iload_n hx hb dX11_when_25 rfl (lv_at hl 1 rfl) ?_
      refine lv_iconst (v := -1) hx hb dX11_when_26 (by decide) ?_
      refine lv_iconst (v := 0) hx hb dX11_when_27 (by decide) ?_
      refine lv_iconst (v := 0) hx hb dX11_when_28 (by decide) ?_
      obtain ⟨σ5, hq5, hF⟩ := bn_1 hF
      refine x_callV (ci := 11) rfl rfl C hP hS (c_X11_goOn hL hq5) (lr_0 hL) (lk_0 hL) (cwV 4 C.1.2.2.2.2 (gdV mw_745 mw_746 mw_747 mw_2 mw_748) rfl rfl rfl hd_X11_goOn ⟨Nat.le_of_ble_eq_true rfl, Nat.le_of_ble_eq_true rfl⟩) rfl rfl hl.1 (Nat.le_of_ble_eq_true rfl) ⟨Nat.zero_le _, Nat.zero_le _⟩ dX11_when_29 (fun H locs hP hS => ?_)
      refine lv_aload_n hx hb dX11_when_32 rfl (lv_at hl 0 rfl) ?_
      refine get_11_13 C hP (lr_0 hL) (lk_0 hL) inlX11 mw_744 dX11_when_33 ?_
      refine lv_istore_n (lv' := [(3, .int (σ5 0 13)), (0, .ref (ad 0)), (1, .int a1), (2, .int a2)]) hx hb dX11_when_36 rfl hl (by decide) rfl (fun ls hl => ?_)
      refine lv_bipush (v := -5) hx hb dX11_when_37 (by decide +kernel) ?_
      refine lv_istore (lv' := [(4, .int (-5 : Int32)), (3, .int (σ5 0 13)), (0, .ref (ad 0)), (1, .int a1), (2, .int a2)]) hx hb dX11_when_39 hl (by decide) rfl (fun ls hl => ?_)
      refine lv_iconst (v := 0) hx hb dX11_when_41 (by decide) ?_
      refine lv_istore (lv' := [(5, .int (0 : Int32)), (4, .int (-5 : Int32)), (3, .int (σ5 0 13)), (0, .ref (ad 0)), (1, .int a1), (2, .int a2)]) hx hb dX11_when_42 hl (by decide) rfl (fun ls hl => ?_)
      exact w_X11_when_44 C 1024 _ _ _ _ _ _ _ _ _ _ hρ0 hL hF hP hS (lv_sub hl [3, 4, 5, 2, 1, 0] rfl)
    · have hF := ite_t hF c_4
      refine lv_bipush (v := -2) hx hb dX11_when_21 (by decide +kernel) ?_
      obtain ⟨rfl, rfl⟩ := ret_2 hF
      subst hρ0
      exact x_iret rfl C hP hS dX11_when_23
  · have hF := ite_t hF c_2
    refine lv_iconst (v := -1) hx hb dX11_when_9 (by decide) ?_
    obtain ⟨rfl, rfl⟩ := ret_2 hF
    subst hρ0
    exact x_iret rfl C hP hS dX11_when_10
set_option maxHeartbeats 4000000 in
set_option maxRecDepth 100000 in
theorem c_X11_when {N : Nat} {K len : Nat → Nat} {a1 : Int32} {a2 : Int32} {r : Int32} {σ1 : SG} {σ : SG} {ρ : RG} (hL : Lay N K len ρ) (hF : F_X11_when N K len a1 a2 σ ρ = some (r, σ1)) : MT l Y D N ad K len yX11_when (Cond.code yX11_when cX11_when 6 (some .int) :: wsL_law) rm_X11_when [.ref (ad 0), .int a1, .int a2] σ ρ (some (.int r)) σ1 ρ := by
  refine mt_of (cc := cX11_when) (nL := 6) (ret := (some .int)) (by decide) (Nat.le_of_ble_eq_true rfl) ?_
  intro p e s m args below meth c ls C hnm hP hS hl
  exact w_X11_when_0 C rfl hL hF hP hS hl

/-! CutCrooked.public int guide(int);  -/
theorem dX11_guide_0 : decode cX11_guide 0 = .ok (.iload_n 1, 1) := by decide +kernel
theorem dX11_guide_1 : decode cX11_guide 1 = .ok (.iconst 0, 1) := by decide +kernel
theorem dX11_guide_2 : decode cX11_guide 2 = .ok (.bipush 40, 2) := by decide +kernel
theorem dX11_guide_4 : decode cX11_guide 4 = .ok (.invokestatic 56, 3) := by decide +kernel
theorem dX11_guide_7 : decode cX11_guide 7 = .ok (.ifCond .ne 7, 3) := by decide +kernel
theorem dX11_guide_10 : decode cX11_guide 10 = .ok (.sipush (-10002), 3) := by decide +kernel
theorem dX11_guide_13 : decode cX11_guide 13 = .ok (.ireturn, 1) := by decide +kernel
theorem dX11_guide_14 : decode cX11_guide 14 = .ok (.aload_n 0, 1) := by decide +kernel
theorem dX11_guide_15 : decode cX11_guide 15 = .ok (.iload_n 1, 1) := by decide +kernel
theorem dX11_guide_16 : decode cX11_guide 16 = .ok (.iconst (-1), 1) := by decide +kernel
theorem dX11_guide_17 : decode cX11_guide 17 = .ok (.iconst 0, 1) := by decide +kernel
theorem dX11_guide_18 : decode cX11_guide 18 = .ok (.iconst 0, 1) := by decide +kernel
theorem dX11_guide_19 : decode cX11_guide 19 = .ok (.invokevirtual 189, 3) := by decide +kernel
theorem dX11_guide_22 : decode cX11_guide 22 = .ok (.aload_n 0, 1) := by decide +kernel
theorem dX11_guide_23 : decode cX11_guide 23 = .ok (.getfield 193, 3) := by decide +kernel
theorem dX11_guide_26 : decode cX11_guide 26 = .ok (.istore_n 2, 1) := by decide +kernel
theorem dX11_guide_27 : decode cX11_guide 27 = .ok (.aload_n 0, 1) := by decide +kernel
theorem dX11_guide_28 : decode cX11_guide 28 = .ok (.iload_n 1, 1) := by decide +kernel
theorem dX11_guide_29 : decode cX11_guide 29 = .ok (.iconst (-1), 1) := by decide +kernel
theorem dX11_guide_30 : decode cX11_guide 30 = .ok (.iconst 1, 1) := by decide +kernel
theorem dX11_guide_31 : decode cX11_guide 31 = .ok (.iconst 0, 1) := by decide +kernel
theorem dX11_guide_32 : decode cX11_guide 32 = .ok (.invokevirtual 189, 3) := by decide +kernel
theorem dX11_guide_35 : decode cX11_guide 35 = .ok (.aload_n 0, 1) := by decide +kernel
theorem dX11_guide_36 : decode cX11_guide 36 = .ok (.getfield 193, 3) := by decide +kernel
theorem dX11_guide_39 : decode cX11_guide 39 = .ok (.iload_n 2, 1) := by decide +kernel
theorem dX11_guide_40 : decode cX11_guide 40 = .ok (.isub, 1) := by decide +kernel
theorem dX11_guide_41 : decode cX11_guide 41 = .ok (.ireturn, 1) := by decide +kernel
theorem hd_X11_guide : yX11_guide.cls = RX11 ∧ yX11_guide.cls ≠ "java/lang/invoke/MethodHandle" ∧ yX11_guide.cls ≠ "java/lang/invoke/VarHandle" ∧ (parseMethodDescriptor yX11_guide.desc).map (fun d => d.parameters.length) = some 1 := by decide +kernel
abbrev rm_X11_guide : Room := { frames := 6, cells := 0, slots := 0, locals := 156 }
def F_X11_guide (N : Nat) (K len : Nat → Nat) (a1 : Int32) (σ : SG) (ρ : RG) : Option (Int32 × SG) :=
  bn (F_X11_isWithin a1 (0 : Int32) (40 : Int32) σ ρ) fun r1 =>
  if r1 = 0 then
    some ((-10002 : Int32), σ)
  else
    bn (F_X11_goOn N K len a1 (-1 : Int32) (0 : Int32) (0 : Int32) σ ρ) fun σ3 =>
    bn (F_X11_goOn N K len a1 (-1 : Int32) (1 : Int32) (0 : Int32) σ3 ρ) fun σ4 =>
    nm ((σ4 0 13) - (σ3 0 13)) fun x5 =>
    some (x5, σ4)
set_option maxHeartbeats 4000000 in
set_option maxRecDepth 100000 in
theorem w_X11_guide_0 {N : Nat} {K len : Nat → Nat} {a1 : Int32} {p : Program} {e : Env} {s : State} {m : MethodId} {args : Array Value} {below : List Frame} {meth : Method} {c : Code} {ρ0 : RG} {r : Int32} {σ1 : SG} (C : Cx Y D N ad p s m args meth c cX11_guide 3 (some .int) RX11 wsL_law) {σ : SG} {ρ : RG} {H : Heap} {locs : List Loc} {ls : Array Slot} (hρ0 : ρ = ρ0) (hL : Lay N K len ρ) (hF : F_X11_guide N K len a1 σ ρ = some (r, σ1)) (hP : WP Y D N ad K len σ ρ H) (hS : va_S (AA N ad s.heap.size) s.heap H locs) (hl : lv_has ls 3 [(0, .ref (ad 0)), (1, .int a1)]) : W p l e rm_X11_guide s m args below meth c H locs 0 0 (MQ below (QW Y D N ad K len σ1 ρ0 (AA N ad s.heap.size) (some (.int r))) args s 0 0 (AA N ad s.heap.size)) (F0 m 0 ls []) := by
  have hx := C.1.1
  have hb := C.1.2.1
  unfold F_X11_guide at hF
  refine lv_iload_n hx hb dX11_guide_0 rfl (lv_at hl 1 rfl) ?_
  refine lv_iconst (v := 0) hx hb dX11_guide_1 (by decide) ?_
  refine lv_bipush (v := 40) hx hb dX11_guide_2 (by decide +kernel) ?_
  obtain ⟨r1, hq1, hF⟩ := bn_1 hF
  refine x_callS C hP hS (c_X11_isWithin hL hq1) (va_cwS 3 C.1.2.2.2.2 (gdS mw_97 mw_98 mw_2 mw_99) rfl rfl rfl hd_X11_isWithin.2 ⟨Nat.le_of_ble_eq_true rfl, Nat.le_of_ble_eq_true rfl⟩) rfl rfl hl.1 (Nat.le_of_ble_eq_true rfl) ⟨Nat.zero_le _, Nat.zero_le _⟩ dX11_guide_4 (fun H locs hP hS => ?_)
  refine lv_if_ne (tgt := 14) hx hb dX11_guide_7 (by decide) (fun c_2 => ?_) (fun c_2 => ?_) -- COND 2 rcases (Decidable.em (r1 = 0)).symm with c_2 | c_2
  · have hF := ite_f hF c_2
    refine lv_aload_n hx hb dX11_guide_14 rfl (lv_at hl 0 rfl) ?_
    refine lv_iload_n hx hb dX11_guide_15 rfl (lv_at hl 1 rfl) ?_
    refine lv_iconst (v := -1) hx hb dX11_guide_16 (by decide) ?_
    refine lv_iconst (v := 0) hx hb dX11_guide_17 (by decide) ?_
    refine lv_iconst (v := 0) hx hb dX11_guide_18 (by decide) ?_
    obtain ⟨σ3, hq3, hF⟩ := bn_1 hF
    refine x_callV (ci := 11) rfl rfl C hP hS (c_X11_goOn hL hq3) (lr_0 hL) (lk_0 hL) (cwV 4 C.1.2.2.2.2 (gdV mw_745 mw_746 mw_747 mw_2 mw_748) rfl rfl rfl hd_X11_goOn ⟨Nat.le_of_ble_eq_true rfl, Nat.le_of_ble_eq_true rfl⟩) rfl rfl hl.1 (Nat.le_of_ble_eq_true rfl) ⟨Nat.zero_le _, Nat.zero_le _⟩ dX11_guide_19 (fun H locs hP hS => ?_)
    refine lv_aload_n hx hb dX11_guide_22 rfl (lv_at hl 0 rfl) ?_
    refine get_11_13 C hP (lr_0 hL) (lk_0 hL) inlX11 mw_744 dX11_guide_23 ?_
    refine lv_istore_n (lv' := [(2, .int (σ3 0 13)), (0, .ref (ad 0)), (1, .int a1)]) hx hb dX11_guide_26 rfl hl (by decide) rfl (fun ls hl => ?_)
    refine lv_aload_n hx hb dX11_guide_27 rfl (lv_at hl 1 rfl) ?_
    refine lv_iload_n hx hb dX11_guide_28 rfl (lv_at hl 2 rfl) ?_
    refine lv_iconst (v := -1) hx hb dX11_guide_29 (by decide) ?_
    refine lv_iconst (v := 1) hx hb dX11_guide_30 (by decide) ?_
    refine lv_iconst (v := 0) hx hb dX11_guide_31 (by decide) ?_
    obtain ⟨σ4, hq4, hF⟩ := bn_1 hF
    refine x_callV (ci := 11) rfl rfl C hP hS (c_X11_goOn hL hq4) (lr_0 hL) (lk_0 hL) (cwV 4 C.1.2.2.2.2 (gdV mw_745 mw_746 mw_747 mw_2 mw_748) rfl rfl rfl hd_X11_goOn ⟨Nat.le_of_ble_eq_true rfl, Nat.le_of_ble_eq_true rfl⟩) rfl rfl hl.1 (Nat.le_of_ble_eq_true rfl) ⟨Nat.zero_le _, Nat.zero_le _⟩ dX11_guide_32 (fun H locs hP hS => ?_)
    refine lv_aload_n hx hb dX11_guide_35 rfl (lv_at hl 1 rfl) ?_
    refine get_11_13 C hP (lr_0 hL) (lk_0 hL) inlX11 mw_744 dX11_guide_36 ?_
    refine lv_iload_n hx hb dX11_guide_39 rfl (lv_at hl 0 rfl) ?_
    refine lv_isub hx hb dX11_guide_40 ?_
    obtain ⟨x5, ex5, hF⟩ := nm_1 hF
    refine x_top ex5 ?_
    obtain ⟨rfl, rfl⟩ := ret_2 hF
    subst hρ0
    exact x_iret rfl C hP hS dX11_guide_41
  · have hF := ite_t hF c_2
    refine lv_sipush (v := -10002) hx hb dX11_guide_10 (by decide +kernel) ?_
    obtain ⟨rfl, rfl⟩ := ret_2 hF
    subst hρ0
    exact x_iret rfl C hP hS dX11_guide_13
set_option maxHeartbeats 4000000 in
set_option maxRecDepth 100000 in
theorem c_X11_guide {N : Nat} {K len : Nat → Nat} {a1 : Int32} {r : Int32} {σ1 : SG} {σ : SG} {ρ : RG} (hL : Lay N K len ρ) (hF : F_X11_guide N K len a1 σ ρ = some (r, σ1)) : MT l Y D N ad K len yX11_guide (Cond.code yX11_guide cX11_guide 3 (some .int) :: wsL_law) rm_X11_guide [.ref (ad 0), .int a1] σ ρ (some (.int r)) σ1 ρ := by
  refine mt_of (cc := cX11_guide) (nL := 3) (ret := (some .int)) (by decide) (Nat.le_of_ble_eq_true rfl) ?_
  intro p e s m args below meth c ls C hnm hP hS hl
  exact w_X11_guide_0 C rfl hL hF hP hS hl

/-! CutCrooked.public int again(int);  -/
theorem dX11_again_0 : decode cX11_again 0 = .ok (.aload_n 0, 1) := by decide +kernel
theorem dX11_again_1 : decode cX11_again 1 = .ok (.getfield 12, 3) := by decide +kernel
theorem dX11_again_4 : decode cX11_again 4 = .ok (.iload_n 1, 1) := by decide +kernel
theorem dX11_again_5 : decode cX11_again 5 = .ok (.invokevirtual 100, 3) := by decide +kernel
theorem dX11_again_8 : decode cX11_again 8 = .ok (.astore_n 2, 1) := by decide +kernel
theorem dX11_again_9 : decode cX11_again 9 = .ok (.aload_n 2, 1) := by decide +kernel
theorem dX11_again_10 : decode cX11_again 10 = .ok (.ifnonnull 5, 3) := by decide +kernel
theorem dX11_again_13 : decode cX11_again 13 = .ok (.iconst (-1), 1) := by decide +kernel
theorem dX11_again_14 : decode cX11_again 14 = .ok (.ireturn, 1) := by decide +kernel
theorem dX11_again_15 : decode cX11_again 15 = .ok (.aload_n 0, 1) := by decide +kernel
theorem dX11_again_16 : decode cX11_again 16 = .ok (.getfield 49, 3) := by decide +kernel
theorem dX11_again_19 : decode cX11_again 19 = .ok (.aload_n 0, 1) := by decide +kernel
theorem dX11_again_20 : decode cX11_again 20 = .ok (.getfield 12, 3) := by decide +kernel
theorem dX11_again_23 : decode cX11_again 23 = .ok (.getfield 130, 3) := by decide +kernel
theorem dX11_again_26 : decode cX11_again 26 = .ok (.invokevirtual 217, 3) := by decide +kernel
theorem dX11_again_29 : decode cX11_again 29 = .ok (.iconst 1, 1) := by decide +kernel
theorem dX11_again_30 : decode cX11_again 30 = .ok (.istore_n 3, 1) := by decide +kernel
theorem dX11_again_31 : decode cX11_again 31 = .ok (.iload_n 3, 1) := by decide +kernel
theorem dX11_again_32 : decode cX11_again 32 = .ok (.bipush 20, 2) := by decide +kernel
theorem dX11_again_34 : decode cX11_again 34 = .ok (.if_icmp .gt 90, 3) := by decide +kernel
theorem dX11_again_37 : decode cX11_again 37 = .ok (.aload_n 0, 1) := by decide +kernel
theorem dX11_again_38 : decode cX11_again 38 = .ok (.getfield 49, 3) := by decide +kernel
theorem dX11_again_41 : decode cX11_again 41 = .ok (.aload_n 2, 1) := by decide +kernel
theorem dX11_again_42 : decode cX11_again 42 = .ok (.aload_n 2, 1) := by decide +kernel
theorem dX11_again_43 : decode cX11_again 43 = .ok (.getfield 119, 3) := by decide +kernel
theorem dX11_again_46 : decode cX11_again 46 = .ok (.aload_n 0, 1) := by decide +kernel
theorem dX11_again_47 : decode cX11_again 47 = .ok (.getfield 12, 3) := by decide +kernel
theorem dX11_again_50 : decode cX11_again 50 = .ok (.getfield 78, 3) := by decide +kernel
theorem dX11_again_53 : decode cX11_again 53 = .ok (.iconst 0, 1) := by decide +kernel
theorem dX11_again_54 : decode cX11_again 54 = .ok (.iconst 1, 1) := by decide +kernel
theorem dX11_again_55 : decode cX11_again 55 = .ok (.invokevirtual 163, 3) := by decide +kernel
theorem dX11_again_58 : decode cX11_again 58 = .ok (.pop, 1) := by decide +kernel
theorem dX11_again_59 : decode cX11_again 59 = .ok (.aload_n 0, 1) := by decide +kernel
theorem dX11_again_60 : decode cX11_again 60 = .ok (.getfield 49, 3) := by decide +kernel
theorem dX11_again_63 : decode cX11_again 63 = .ok (.aload_n 0, 1) := by decide +kernel
theorem dX11_again_64 : decode cX11_again 64 = .ok (.getfield 12, 3) := by decide +kernel
theorem dX11_again_67 : decode cX11_again 67 = .ok (.getfield 130, 3) := by decide +kernel
theorem dX11_again_70 : decode cX11_again 70 = .ok (.getfield 140, 3) := by decide +kernel
theorem dX11_again_73 : decode cX11_again 73 = .ok (.putfield 140, 3) := by decide +kernel
theorem dX11_again_76 : decode cX11_again 76 = .ok (.aload_n 0, 1) := by decide +kernel
theorem dX11_again_77 : decode cX11_again 77 = .ok (.getfield 49, 3) := by decide +kernel
theorem dX11_again_80 : decode cX11_again 80 = .ok (.getfield 141, 3) := by decide +kernel
theorem dX11_again_83 : decode cX11_again 83 = .ok (.aload_n 0, 1) := by decide +kernel
theorem dX11_again_84 : decode cX11_again 84 = .ok (.getfield 12, 3) := by decide +kernel
theorem dX11_again_87 : decode cX11_again 87 = .ok (.getfield 130, 3) := by decide +kernel
theorem dX11_again_90 : decode cX11_again 90 = .ok (.getfield 141, 3) := by decide +kernel
theorem dX11_again_93 : decode cX11_again 93 = .ok (.if_icmp .ne 25, 3) := by decide +kernel
theorem dX11_again_96 : decode cX11_again 96 = .ok (.aload_n 0, 1) := by decide +kernel
theorem dX11_again_97 : decode cX11_again 97 = .ok (.getfield 49, 3) := by decide +kernel
theorem dX11_again_100 : decode cX11_again 100 = .ok (.getfield 144, 3) := by decide +kernel
theorem dX11_again_103 : decode cX11_again 103 = .ok (.aload_n 0, 1) := by decide +kernel
theorem dX11_again_104 : decode cX11_again 104 = .ok (.getfield 12, 3) := by decide +kernel
theorem dX11_again_107 : decode cX11_again 107 = .ok (.getfield 130, 3) := by decide +kernel
theorem dX11_again_110 : decode cX11_again 110 = .ok (.getfield 144, 3) := by decide +kernel
theorem dX11_again_113 : decode cX11_again 113 = .ok (.if_icmp .ne 5, 3) := by decide +kernel
theorem dX11_again_116 : decode cX11_again 116 = .ok (.iload_n 3, 1) := by decide +kernel
theorem dX11_again_117 : decode cX11_again 117 = .ok (.ireturn, 1) := by decide +kernel
theorem dX11_again_118 : decode cX11_again 118 = .ok (.iinc 3 1, 3) := by decide +kernel
theorem dX11_again_121 : decode cX11_again 121 = .ok (.goto (-90), 3) := by decide +kernel
theorem dX11_again_124 : decode cX11_again 124 = .ok (.bipush (-5), 2) := by decide +kernel
theorem dX11_again_126 : decode cX11_again 126 = .ok (.ireturn, 1) := by decide +kernel
theorem hd_X11_again : yX11_again.cls = RX11 ∧ yX11_again.cls ≠ "java/lang/invoke/MethodHandle" ∧ yX11_again.cls ≠ "java/lang/invoke/VarHandle" ∧ (parseMethodDescriptor yX11_again.desc).map (fun d => d.parameters.length) = some 1 := by decide +kernel
abbrev rm_X11_again : Room := { frames := 5, cells := 0, slots := 0, locals := 129 }
def F_X11_again_118 (N : Nat) (K len : Nat → Nat) (a1 : Int32) (rec_31 : SG → RG → Nat → Int32 → Option (Int32 × SG)) (σ : SG) (ρ : RG) (r2 : Nat) (v3 : Int32) : Option (Int32 × SG) :=
  gd (isC N K r2) <|
  nm (v3 + (1 : Int32)) fun x9 =>
  rec_31 σ ρ r2 x9
def F_X11_again_31 (N : Nat) (K len : Nat → Nat) (a1 : Int32) : Nat → SG → RG → Nat → Int32 → Option (Int32 × SG)
  | 0 => fun _ _ _ _ => none
  | n + 1 => fun σ ρ r2 v3 =>
  gd (isC N K r2) <|
  if (20 : Int32) < v3 then
    some ((-5 : Int32), σ)
  else
    bn2 (F_X3_tryCut N K len 37 r2 (σ r2 4) (0 : Int32) (1 : Int32) σ ρ) fun r5 σ5 =>
    nm (s2 σ5 37 1 (σ5 3 1)) fun σ7 =>
    if (σ7 37 2) = (σ7 3 2) then
      if (σ7 37 3) = (σ7 3 3) then
        some (v3, σ7)
      else
        F_X11_again_118 N K len a1 (F_X11_again_31 N K len a1 n) σ7 ρ r2 v3
    else
      F_X11_again_118 N K len a1 (F_X11_again_31 N K len a1 n) σ7 ρ r2 v3
def F_X11_again (N : Nat) (K len : Nat → Nat) (a1 : Int32) (σ : SG) (ρ : RG) : Option (Int32 × SG) :=
  bn (F_X8_cutterAt_1 a1 σ ρ) fun o1 =>
  oc o1
   (
    some ((-1 : Int32), σ))
   (fun c2 =>
    gd (isC N K c2) <|
    bn (F_X3_takes 37 3 σ ρ) fun σ3 =>
    F_X11_again_31 N K len a1 1024 σ3 ρ c2 (1 : Int32))
set_option maxHeartbeats 4000000 in
set_option maxRecDepth 100000 in
theorem w_X11_again_118 {N : Nat} {K len : Nat → Nat} {a1 : Int32} {rec_31 : SG → RG → Nat → Int32 → Option (Int32 × SG)} {p : Program} {e : Env} {s : State} {m : MethodId} {args : Array Value} {below : List Frame} {meth : Method} {c : Code} {ρ0 : RG} {r : Int32} {σ1 : SG} (C : Cx Y D N ad p s m args meth c cX11_again 4 (some .int) RX11 wsL_law) (hrec_31 : ∀ (σ : SG) (ρ : RG) (r2 : Nat) (v3 : Int32) (H : Heap) (locs : List Loc) (ls : Array Slot), ρ = ρ0 → Lay N K len ρ → rec_31 σ ρ r2 v3 = some (r, σ1) → WP Y D N ad K len σ ρ H → va_S (AA N ad s.heap.size) s.heap H locs → lv_has ls 4 [(0, .ref (ad 0)), (2, .ref (ad r2)), (3, .int v3)] → W p l e rm_X11_again s m args below meth c H locs 0 0 (MQ below (QW Y D N ad K len σ1 ρ0 (AA N ad s.heap.size) (some (.int r))) args s 0 0 (AA N ad s.heap.size)) (F0 m 31 ls [])) {σ : SG} {ρ : RG} {r2 : Nat} {v3 : Int32} {H : Heap} {locs : List Loc} {ls : Array Slot} (hρ0 : ρ = ρ0) (hL : Lay N K len ρ) (hF : F_X11_again_118 N K len a1 rec_31 σ ρ r2 v3 = some (r, σ1)) (hP : WP Y D N ad K len σ ρ H) (hS : va_S (AA N ad s.heap.size) s.heap H locs) (hl : lv_has ls 4 [(0, .ref (ad 0)), (2, .ref (ad r2)), (3, .int v3)]) : W p l e rm_X11_again s m args below meth c H locs 0 0 (MQ below (QW Y D N ad K len σ1 ρ0 (AA N ad s.heap.size) (some (.int r))) args s 0 0 (AA N ad s.heap.size)) (F0 m 118 ls []) := by
  have hx := C.1.1
  have hb := C.1.2.1
  unfold F_X11_again_118 at hF
  obtain ⟨gr2, hF⟩ := gd_1 hF
  obtain ⟨x9, ex9, hF⟩ := nm_1 hF
  refine lv_iinc (v := x9) (lv' := [(3, .int x9), (0, .ref (ad 0)), (2, .ref (ad r2))]) hx hb dX11_again_118 hl (k := 2) rfl (by rw [ex9]; first | rfl | decide) (by decide) rfl (fun ls hl => ?_)
  refine lv_goto (tgt := 31) hx hb dX11_again_121 (by decide) ?_
  exact hrec_31 _ _ _ _ _ _ _ hρ0 hL hF hP hS (lv_sub hl [1, 2, 0] rfl)
set_option maxHeartbeats 4000000 in
set_option maxRecDepth 100000 in
theorem w_X11_again_31 {N : Nat} {K len : Nat → Nat} {a1 : Int32} {p : Program} {e : Env} {s : State} {m : MethodId} {args : Array Value} {below : List Frame} {meth : Method} {c : Code} {ρ0 : RG} {r : Int32} {σ1 : SG} (C : Cx Y D N ad p s m args meth c cX11_again 4 (some .int) RX11 wsL_law) : ∀ (n : Nat) (σ : SG) (ρ : RG) (r2 : Nat) (v3 : Int32) (H : Heap) (locs : List Loc) (ls : Array Slot), ρ = ρ0 → Lay N K len ρ → F_X11_again_31 N K len a1 n σ ρ r2 v3 = some (r, σ1) → WP Y D N ad K len σ ρ H → va_S (AA N ad s.heap.size) s.heap H locs → lv_has ls 4 [(0, .ref (ad 0)), (2, .ref (ad r2)), (3, .int v3)] → W p l e rm_X11_again s m args below meth c H locs 0 0 (MQ below (QW Y D N ad K len σ1 ρ0 (AA N ad s.heap.size) (some (.int r))) args s 0 0 (AA N ad s.heap.size)) (F0 m 31 ls []) := by
  have hx := C.1.1
  have hb := C.1.2.1
  intro n
  induction n with
  | zero => intro σ ρ r2 v3 H locs ls hρ0 hL hF; cases hF
  | succ n ih =>
    intro σ ρ r2 v3 H locs ls hρ0 hL hF hP hS hl
    unfold F_X11_again_31 at hF
    obtain ⟨gr2, hF⟩ := gd_1 hF
    refine lv_iload_n hx hb dX11_again_31 rfl (lv_at hl 2 rfl) ?_
    refine lv_bipush (v := 20) hx hb dX11_again_32 (by decide +kernel) ?_
    refine lv_icmp_gt (tgt := 124) hx hb dX11_again_34 (by decide) (fun c_4 => ?_) (fun c_4 => ?_) -- COND 4 by_cases c_4 : (20 : Int32) < v3
    · have hF := ite_t hF c_4
      refine lv_bipush (v := -5) hx hb dX11_again_124 (by decide +kernel) ?_
      obtain ⟨rfl, rfl⟩ := ret_2 hF
      subst hρ0
      exact x_iret rfl C hP hS dX11_again_126
    · have hF := ite_f hF c_4
      refine lv_aload_n hx hb dX11_again_37 rfl (lv_at hl 0 rfl) ?_
      refine get_11_11 C hP (lr_0 hL) (lk_0 hL) inlX11 mw_32 (lf_0_11 hL) dX11_again_38 ?_
      refine lv_aload_n hx hb dX11_again_41 rfl (lv_at hl 1 rfl) ?_
      refine lv_aload_n hx hb dX11_again_42 rfl (lv_at hl 1 rfl) ?_
      refine get_ck_4 C hP (isC_r gr2) (isC_k gr2) mw_426 (Or.inl rfl) dX11_again_43 ?_
      refine lv_aload_n hx hb dX11_again_46 rfl (lv_at hl 0 rfl) ?_
      refine get_11_0 C hP (lr_0 hL) (lk_0 hL) inlX11 mw_15 (lf_0_0 hL) dX11_again_47 ?_
      refine get_8_3 C hP (lr_1 hL) (lk_1 hL) inlX8 mw_113 (lf_1_3 hL) dX11_again_50 ?_
      refine lv_iconst (v := 0) hx hb dX11_again_53 (by decide) ?_
      refine lv_iconst (v := 1) hx hb dX11_again_54 (by decide) ?_
      obtain ⟨r5, σ5, hq5, hF⟩ := bn2_1 hF
      refine x_callV (ci := 3) rfl rfl C hP hS (c_X3_tryCut hL (il_37 hL) gr2 hq5) (lr_37 hL) (lk_37 hL) (cwV 5 C.1.2.2.2.2 (gdV mw_529 mw_530 mw_531 mw_31 mw_532) rfl rfl rfl hd_X3_tryCut ⟨Nat.le_of_ble_eq_true rfl, Nat.le_of_ble_eq_true rfl⟩) rfl rfl hl.1 (Nat.le_of_ble_eq_true rfl) ⟨Nat.zero_le _, Nat.zero_le _⟩ dX11_again_55 (fun H locs hP hS => ?_)
      refine lv_pop hx hb dX11_again_58 rfl ?_
      refine lv_aload_n hx hb dX11_again_59 rfl (lv_at hl 0 rfl) ?_
      refine get_11_11 C hP (lr_0 hL) (lk_0 hL) inlX11 mw_32 (lf_0_11 hL) dX11_again_60 ?_
      refine lv_aload_n hx hb dX11_again_63 rfl (lv_at hl 0 rfl) ?_
      refine get_11_0 C hP (lr_0 hL) (lk_0 hL) inlX11 mw_15 (lf_0_0 hL) dX11_again_64 ?_
      refine get_8_2 C hP (lr_1 hL) (lk_1 hL) inlX8 mw_488 (lf_1_2 hL) dX11_again_67 ?_
      refine get_3_1 C hP (lr_3 hL) (lk_3 hL) inlX3 mw_499 dX11_again_70 ?_
      obtain ⟨σ7, eσ7, hF⟩ := nm_1 hF
      refine put_3_1 C hP hS (lr_37 hL) (lk_37 hL) inlX3 mw_499 eσ7 dX11_again_73 (fun H locs hP hS => ?_)
      refine lv_aload_n hx hb dX11_again_76 rfl (lv_at hl 0 rfl) ?_
      refine get_11_11 C hP (lr_0 hL) (lk_0 hL) inlX11 mw_32 (lf_0_11 hL) dX11_again_77 ?_
      refine get_3_2 C hP (lr_37 hL) (lk_37 hL) inlX3 mw_500 dX11_again_80 ?_
      refine lv_aload_n hx hb dX11_again_83 rfl (lv_at hl 0 rfl) ?_
      refine get_11_0 C hP (lr_0 hL) (lk_0 hL) inlX11 mw_15 (lf_0_0 hL) dX11_again_84 ?_
      refine get_8_2 C hP (lr_1 hL) (lk_1 hL) inlX8 mw_488 (lf_1_2 hL) dX11_again_87 ?_
      refine get_3_2 C hP (lr_3 hL) (lk_3 hL) inlX3 mw_500 dX11_again_90 ?_
      refine lv_icmp_ne (tgt := 118) hx hb dX11_again_93 (by decide) (fun c_8 => ?_) (fun c_8 => ?_) -- COND 8 rcases (Decidable.em ((σ7 37 2) = (σ7 3 2))).symm with c_8 | c_8
      · have hF := ite_f hF c_8
        exact w_X11_again_118 C ih hρ0 hL hF hP hS (lv_sub hl [0, 1, 2] rfl)
      · have hF := ite_t hF c_8
        refine lv_aload_n hx hb dX11_again_96 rfl (lv_at hl 0 rfl) ?_
        refine get_11_11 C hP (lr_0 hL) (lk_0 hL) inlX11 mw_32 (lf_0_11 hL) dX11_again_97 ?_
        refine get_3_3 C hP (lr_37 hL) (lk_37 hL) inlX3 mw_501 dX11_again_100 ?_
        refine lv_aload_n hx hb dX11_again_103 rfl (lv_at hl 0 rfl) ?_
        refine get_11_0 C hP (lr_0 hL) (lk_0 hL) inlX11 mw_15 (lf_0_0 hL) dX11_again_104 ?_
        refine get_8_2 C hP (lr_1 hL) (lk_1 hL) inlX8 mw_488 (lf_1_2 hL) dX11_again_107 ?_
        refine get_3_3 C hP (lr_3 hL) (lk_3 hL) inlX3 mw_501 dX11_again_110 ?_
        refine lv_icmp_ne (tgt := 118) hx hb dX11_again_113 (by decide) (fun c_10 => ?_) (fun c_10 => ?_) -- COND 10 rcases (Decidable.em ((σ7 37 3) = (σ7 3 3))).symm with c_10 | c_10
        · have hF := ite_f hF c_10
          exact w_X11_again_118 C ih hρ0 hL hF hP hS (lv_sub hl [0, 1, 2] rfl)
        · have hF := ite_t hF c_10
          refine lv_iload_n hx hb dX11_again_116 rfl (lv_at hl 2 rfl) ?_
          obtain ⟨rfl, rfl⟩ := ret_2 hF
          subst hρ0
          exact x_iret rfl C hP hS dX11_again_117
set_option maxHeartbeats 4000000 in
set_option maxRecDepth 100000 in
theorem w_X11_again_0 {N : Nat} {K len : Nat → Nat} {a1 : Int32} {p : Program} {e : Env} {s : State} {m : MethodId} {args : Array Value} {below : List Frame} {meth : Method} {c : Code} {ρ0 : RG} {r : Int32} {σ1 : SG} (C : Cx Y D N ad p s m args meth c cX11_again 4 (some .int) RX11 wsL_law) {σ : SG} {ρ : RG} {H : Heap} {locs : List Loc} {ls : Array Slot} (hρ0 : ρ = ρ0) (hL : Lay N K len ρ) (hF : F_X11_again N K len a1 σ ρ = some (r, σ1)) (hP : WP Y D N ad K len σ ρ H) (hS : va_S (AA N ad s.heap.size) s.heap H locs) (hl : lv_has ls 4 [(0, .ref (ad 0)), (1, .int a1)]) : W p l e rm_X11_again s m args below meth c H locs 0 0 (MQ below (QW Y D N ad K len σ1 ρ0 (AA N ad s.heap.size) (some (.int r))) args s 0 0 (AA N ad s.heap.size)) (F0 m 0 ls []) := by
  have hx := C.1.1
  have hb := C.1.2.1
  unfold F_X11_again at hF
  refine lv_aload_n hx hb dX11_again_0 rfl (lv_at hl 0 rfl) ?_
  refine get_11_0 C hP (lr_0 hL) (lk_0 hL) inlX11 mw_15 (lf_0_0 hL) dX11_again_1 ?_
  refine lv_iload_n hx hb dX11_again_4 rfl (lv_at hl 1 rfl) ?_
  obtain ⟨o1, hq1, hF⟩ := bn_1 hF
  refine x_callV (ci := 8) rfl rfl C hP hS (c_X8_cutterAt_1 hL hq1) (lr_1 hL) (lk_1 hL) (cwV 1 C.1.2.2.2.2 (gdV mw_428 mw_429 mw_430 mw_14 mw_431) rfl rfl rfl hd_X8_cutterAt ⟨Nat.le_of_ble_eq_true rfl, Nat.le_of_ble_eq_true rfl⟩) rfl rfl hl.1 (Nat.le_of_ble_eq_true rfl) ⟨Nat.zero_le _, Nat.zero_le _⟩ dX11_again_5 (fun H locs hP hS => ?_)
  rcases ho2 : o1 with _ | c2
  · have hF := oc_n hF ho2
    refine x_n ?_
    refine lv_astore_nN (lv' := [(2, .null), (0, .ref (ad 0)), (1, .int a1)]) hx hb dX11_again_8 rfl hl (by decide) rfl (fun ls hl => ?_)
    refine lv_aload_nN hx hb dX11_again_9 rfl (lv_at hl 0 rfl) ?_
    refine lv_ifnonnullN hx hb dX11_again_10 ?_
    refine lv_iconst (v := -1) hx hb dX11_again_13 (by decide) ?_
    obtain ⟨rfl, rfl⟩ := ret_2 hF
    subst hρ0
    exact x_iret rfl C hP hS dX11_again_14
  · have hF := oc_s hF ho2
    refine x_s ?_
    obtain ⟨gc2, hF⟩ := gd_1 hF
    refine lv_astore_n (lv' := [(2, .ref (ad c2)), (0, .ref (ad 0)), (1, .int a1)]) hx hb dX11_again_8 rfl hl (by decide) rfl (fun ls hl => ?_)
    refine lv_aload_n hx hb dX11_again_9 rfl (lv_at hl 0 rfl) ?_
    refine lv_ifnonnull (tgt := 15) hx hb dX11_again_10 (by decide) ?_
    refine lv_aload_n hx hb dX11_again_15 rfl (lv_at hl 1 rfl) ?_
    refine get_11_11 C hP (lr_0 hL) (lk_0 hL) inlX11 mw_32 (lf_0_11 hL) dX11_again_16 ?_
    refine lv_aload_n hx hb dX11_again_19 rfl (lv_at hl 1 rfl) ?_
    refine get_11_0 C hP (lr_0 hL) (lk_0 hL) inlX11 mw_15 (lf_0_0 hL) dX11_again_20 ?_
    refine get_8_2 C hP (lr_1 hL) (lk_1 hL) inlX8 mw_488 (lf_1_2 hL) dX11_again_23 ?_
    obtain ⟨σ3, hq3, hF⟩ := bn_1 hF
    refine x_callV (ci := 3) rfl rfl C hP hS (c_X3_takes hL (il_37 hL) (il_3 hL) hq3) (lr_37 hL) (lk_37 hL) (cwV 1 C.1.2.2.2.2 (gdV mw_720 mw_721 mw_722 mw_31 mw_723) rfl rfl rfl hd_X3_takes ⟨Nat.le_of_ble_eq_true rfl, Nat.le_of_ble_eq_true rfl⟩) rfl rfl hl.1 (Nat.le_of_ble_eq_true rfl) ⟨Nat.zero_le _, Nat.zero_le _⟩ dX11_again_26 (fun H locs hP hS => ?_)
    refine lv_iconst (v := 1) hx hb dX11_again_29 (by decide) ?_
    refine lv_istore_n (lv' := [(3, .int (1 : Int32)), (2, .ref (ad c2)), (0, .ref (ad 0)), (1, .int a1)]) hx hb dX11_again_30 rfl hl (by decide) rfl (fun ls hl => ?_)
    exact w_X11_again_31 C 1024 _ _ _ _ _ _ _ hρ0 hL hF hP hS (lv_sub hl [2, 1, 0] rfl)
set_option maxHeartbeats 4000000 in
set_option maxRecDepth 100000 in
theorem c_X11_again {N : Nat} {K len : Nat → Nat} {a1 : Int32} {r : Int32} {σ1 : SG} {σ : SG} {ρ : RG} (hL : Lay N K len ρ) (hF : F_X11_again N K len a1 σ ρ = some (r, σ1)) : MT l Y D N ad K len yX11_again (Cond.code yX11_again cX11_again 4 (some .int) :: wsL_law) rm_X11_again [.ref (ad 0), .int a1] σ ρ (some (.int r)) σ1 ρ := by
  refine mt_of (cc := cX11_again) (nL := 4) (ret := (some .int)) (by decide) (Nat.le_of_ble_eq_true rfl) ?_
  intro p e s m args below meth c ls C hnm hP hS hl
  exact w_X11_again_0 C rfl hL hF hP hS hl

/-! CutCrooked.public int evener(int, int);  -/
theorem dX11_evener_0 : decode cX11_evener 0 = .ok (.iload_n 2, 1) := by decide +kernel
theorem dX11_evener_1 : decode cX11_evener 1 = .ok (.iconst 0, 1) := by decide +kernel
theorem dX11_evener_2 : decode cX11_evener 2 = .ok (.iconst 1, 1) := by decide +kernel
theorem dX11_evener_3 : decode cX11_evener 3 = .ok (.invokestatic 56, 3) := by decide +kernel
theorem dX11_evener_6 : decode cX11_evener 6 = .ok (.ifCond .ne 5, 3) := by decide +kernel
theorem dX11_evener_9 : decode cX11_evener 9 = .ok (.iconst (-1), 1) := by decide +kernel
theorem dX11_evener_10 : decode cX11_evener 10 = .ok (.ireturn, 1) := by decide +kernel
theorem dX11_evener_11 : decode cX11_evener 11 = .ok (.iload_n 1, 1) := by decide +kernel
theorem dX11_evener_12 : decode cX11_evener 12 = .ok (.iconst 0, 1) := by decide +kernel
theorem dX11_evener_13 : decode cX11_evener 13 = .ok (.bipush 40, 2) := by decide +kernel
theorem dX11_evener_15 : decode cX11_evener 15 = .ok (.invokestatic 56, 3) := by decide +kernel
theorem dX11_evener_18 : decode cX11_evener 18 = .ok (.ifCond .ne 6, 3) := by decide +kernel
theorem dX11_evener_21 : decode cX11_evener 21 = .ok (.bipush (-2), 2) := by decide +kernel
theorem dX11_evener_23 : decode cX11_evener 23 = .ok (.ireturn, 1) := by decide +kernel
theorem dX11_evener_24 : decode cX11_evener 24 = .ok (.aload_n 0, 1) := by decide +kernel
theorem dX11_evener_25 : decode cX11_evener 25 = .ok (.iload_n 1, 1) := by decide +kernel
theorem dX11_evener_26 : decode cX11_evener 26 = .ok (.iconst (-1), 1) := by decide +kernel
theorem dX11_evener_27 : decode cX11_evener 27 = .ok (.iconst 0, 1) := by decide +kernel
theorem dX11_evener_28 : decode cX11_evener 28 = .ok (.iconst 0, 1) := by decide +kernel
theorem dX11_evener_29 : decode cX11_evener 29 = .ok (.invokevirtual 189, 3) := by decide +kernel
theorem dX11_evener_32 : decode cX11_evener 32 = .ok (.bipush (-5), 2) := by decide +kernel
theorem dX11_evener_34 : decode cX11_evener 34 = .ok (.istore_n 3, 1) := by decide +kernel
theorem dX11_evener_35 : decode cX11_evener 35 = .ok (.iconst 0, 1) := by decide +kernel
theorem dX11_evener_36 : decode cX11_evener 36 = .ok (.istore 4, 2) := by decide +kernel
theorem dX11_evener_38 : decode cX11_evener 38 = .ok (.iconst 0, 1) := by decide +kernel
theorem dX11_evener_39 : decode cX11_evener 39 = .ok (.istore 5, 2) := by decide +kernel
theorem dX11_evener_41 : decode cX11_evener 41 = .ok (.iconst 0, 1) := by decide +kernel
theorem dX11_evener_42 : decode cX11_evener 42 = .ok (.istore 6, 2) := by decide +kernel
theorem dX11_evener_44 : decode cX11_evener 44 = .ok (.iload 6, 2) := by decide +kernel
theorem dX11_evener_46 : decode cX11_evener 46 = .ok (.aload_n 0, 1) := by decide +kernel
theorem dX11_evener_47 : decode cX11_evener 47 = .ok (.getfield 12, 3) := by decide +kernel
theorem dX11_evener_50 : decode cX11_evener 50 = .ok (.getfield 89, 3) := by decide +kernel
theorem dX11_evener_53 : decode cX11_evener 53 = .ok (.if_icmp .ge 85, 3) := by decide +kernel
theorem dX11_evener_56 : decode cX11_evener 56 = .ok (.aload_n 0, 1) := by decide +kernel
theorem dX11_evener_57 : decode cX11_evener 57 = .ok (.getfield 12, 3) := by decide +kernel
theorem dX11_evener_60 : decode cX11_evener 60 = .ok (.iload 6, 2) := by decide +kernel
theorem dX11_evener_62 : decode cX11_evener 62 = .ok (.invokevirtual 100, 3) := by decide +kernel
theorem dX11_evener_65 : decode cX11_evener 65 = .ok (.astore 7, 2) := by decide +kernel
theorem dX11_evener_67 : decode cX11_evener 67 = .ok (.aload 7, 2) := by decide +kernel
theorem dX11_evener_69 : decode cX11_evener 69 = .ok (.ifnonnull 7, 3) := by decide +kernel
theorem dX11_evener_72 : decode cX11_evener 72 = .ok (.iconst 0, 1) := by decide +kernel
theorem dX11_evener_73 : decode cX11_evener 73 = .ok (.goto 18, 3) := by decide +kernel
theorem dX11_evener_76 : decode cX11_evener 76 = .ok (.aload 7, 2) := by decide +kernel
theorem dX11_evener_78 : decode cX11_evener 78 = .ok (.getfield 122, 3) := by decide +kernel
theorem dX11_evener_81 : decode cX11_evener 81 = .ok (.aload_n 0, 1) := by decide +kernel
theorem dX11_evener_82 : decode cX11_evener 82 = .ok (.getfield 53, 3) := by decide +kernel
theorem dX11_evener_85 : decode cX11_evener 85 = .ok (.iload 6, 2) := by decide +kernel
theorem dX11_evener_87 : decode cX11_evener 87 = .ok (.invokestatic 196, 3) := by decide +kernel
theorem dX11_evener_90 : decode cX11_evener 90 = .ok (.iadd, 1) := by decide +kernel
theorem dX11_evener_91 : decode cX11_evener 91 = .ok (.istore 8, 2) := by decide +kernel
theorem dX11_evener_93 : decode cX11_evener 93 = .ok (.iload 6, 2) := by decide +kernel
theorem dX11_evener_95 : decode cX11_evener 95 = .ok (.ifCond .ne 8, 3) := by decide +kernel
theorem dX11_evener_98 : decode cX11_evener 98 = .ok (.iload 8, 2) := by decide +kernel
theorem dX11_evener_100 : decode cX11_evener 100 = .ok (.goto 10, 3) := by decide +kernel
theorem dX11_evener_103 : decode cX11_evener 103 = .ok (.iload 5, 2) := by decide +kernel
theorem dX11_evener_105 : decode cX11_evener 105 = .ok (.iload 8, 2) := by decide +kernel
theorem dX11_evener_107 : decode cX11_evener 107 = .ok (.invokestatic 220, 3) := by decide +kernel
theorem dX11_evener_110 : decode cX11_evener 110 = .ok (.istore 5, 2) := by decide +kernel
theorem dX11_evener_112 : decode cX11_evener 112 = .ok (.iload_n 3, 1) := by decide +kernel
theorem dX11_evener_113 : decode cX11_evener 113 = .ok (.bipush (-5), 2) := by decide +kernel
theorem dX11_evener_115 : decode cX11_evener 115 = .ok (.if_icmp .eq 10, 3) := by decide +kernel
theorem dX11_evener_118 : decode cX11_evener 118 = .ok (.iload 8, 2) := by decide +kernel
theorem dX11_evener_120 : decode cX11_evener 120 = .ok (.iload 4, 2) := by decide +kernel
theorem dX11_evener_122 : decode cX11_evener 122 = .ok (.if_icmp .le 10, 3) := by decide +kernel
theorem dX11_evener_125 : decode cX11_evener 125 = .ok (.iload 8, 2) := by decide +kernel
theorem dX11_evener_127 : decode cX11_evener 127 = .ok (.istore 4, 2) := by decide +kernel
theorem dX11_evener_129 : decode cX11_evener 129 = .ok (.iload 6, 2) := by decide +kernel
theorem dX11_evener_131 : decode cX11_evener 131 = .ok (.istore_n 3, 1) := by decide +kernel
theorem dX11_evener_132 : decode cX11_evener 132 = .ok (.iinc 6 1, 3) := by decide +kernel
theorem dX11_evener_135 : decode cX11_evener 135 = .ok (.goto (-91), 3) := by decide +kernel
theorem dX11_evener_138 : decode cX11_evener 138 = .ok (.iload_n 2, 1) := by decide +kernel
theorem dX11_evener_139 : decode cX11_evener 139 = .ok (.ifCond .eq 9, 3) := by decide +kernel
theorem dX11_evener_142 : decode cX11_evener 142 = .ok (.iload_n 3, 1) := by decide +kernel
theorem dX11_evener_143 : decode cX11_evener 143 = .ok (.bipush (-5), 2) := by decide +kernel
theorem dX11_evener_145 : decode cX11_evener 145 = .ok (.if_icmp .ne 7, 3) := by decide +kernel
theorem dX11_evener_148 : decode cX11_evener 148 = .ok (.iload_n 3, 1) := by decide +kernel
theorem dX11_evener_149 : decode cX11_evener 149 = .ok (.goto 8, 3) := by decide +kernel
theorem dX11_evener_152 : decode cX11_evener 152 = .ok (.iload 4, 2) := by decide +kernel
theorem dX11_evener_154 : decode cX11_evener 154 = .ok (.iload 5, 2) := by decide +kernel
theorem dX11_evener_156 : decode cX11_evener 156 = .ok (.isub, 1) := by decide +kernel
theorem dX11_evener_157 : decode cX11_evener 157 = .ok (.ireturn, 1) := by decide +kernel
theorem hd_X11_evener : yX11_evener.cls = RX11 ∧ yX11_evener.cls ≠ "java/lang/invoke/MethodHandle" ∧ yX11_evener.cls ≠ "java/lang/invoke/VarHandle" ∧ (parseMethodDescriptor yX11_evener.desc).map (fun d => d.parameters.length) = some 2 := by decide +kernel
abbrev rm_X11_evener : Room := { frames := 6, cells := 0, slots := 0, locals := 156 }
def F_X11_evener_132 (N : Nat) (K len : Nat → Nat) (a1 : Int32) (a2 : Int32) (rec_44 : SG → RG → Int32 → Int32 → Int32 → Int32 → Int32 → Option (Int32 × SG)) (σ : SG) (ρ : RG) (v2 : Int32) (v3 : Int32) (v4 : Int32) (v5 : Int32) (v6 : Int32) : Option (Int32 × SG) :=
  nm (v6 + (1 : Int32)) fun x15 =>
  rec_44 σ ρ v2 v3 v4 v5 x15
def F_X11_evener_125 (N : Nat) (K len : Nat → Nat) (a1 : Int32) (a2 : Int32) (rec_44 : SG → RG → Int32 → Int32 → Int32 → Int32 → Int32 → Option (Int32 × SG)) (σ : SG) (ρ : RG) (v2 : Int32) (v5 : Int32) (v6 : Int32) (v8 : Int32) : Option (Int32 × SG) :=
  F_X11_evener_132 N K len a1 a2 rec_44 σ ρ v2 v6 v8 v5 v6
def F_X11_evener_110 (N : Nat) (K len : Nat → Nat) (a1 : Int32) (a2 : Int32) (rec_44 : SG → RG → Int32 → Int32 → Int32 → Int32 → Int32 → Option (Int32 × SG)) (σ : SG) (ρ : RG) (v2 : Int32) (v3 : Int32) (v4 : Int32) (v6 : Int32) (v8 : Int32) (k0 : Int32) : Option (Int32 × SG) :=
  if v3 = (-5 : Int32) then
    F_X11_evener_125 N K len a1 a2 rec_44 σ ρ v2 k0 v6 v8
  else
    if v8 ≤ v4 then
      F_X11_evener_132 N K len a1 a2 rec_44 σ ρ v2 v3 v4 k0 v6
    else
      F_X11_evener_125 N K len a1 a2 rec_44 σ ρ v2 k0 v6 v8
def F_X11_evener_91 (N : Nat) (K len : Nat → Nat) (a1 : Int32) (a2 : Int32) (rec_44 : SG → RG → Int32 → Int32 → Int32 → Int32 → Int32 → Option (Int32 × SG)) (σ : SG) (ρ : RG) (v2 : Int32) (v3 : Int32) (v4 : Int32) (v5 : Int32) (v6 : Int32) (k0 : Int32) : Option (Int32 × SG) :=
  if v6 = 0 then
    F_X11_evener_110 N K len a1 a2 rec_44 σ ρ v2 v3 v4 v6 k0 k0
  else
    nm (if k0 < v5 then k0 else v5) fun x13 =>
    F_X11_evener_110 N K len a1 a2 rec_44 σ ρ v2 v3 v4 v6 k0 x13
def F_X11_evener_44 (N : Nat) (K len : Nat → Nat) (a1 : Int32) (a2 : Int32) : Nat → SG → RG → Int32 → Int32 → Int32 → Int32 → Int32 → Option (Int32 × SG)
  | 0 => fun _ _ _ _ _ _ _ => none
  | n + 1 => fun σ ρ v2 v3 v4 v5 v6 =>
  if (σ 1 1) ≤ v6 then
    if v2 = 0 then
      some (v3, σ)
    else
      if v3 = (-5 : Int32) then
        some (v3, σ)
      else
        nm (v4 - v5) fun x9 =>
        some (x9, σ)
  else
    bn (F_X8_cutterAt_1 v6 σ ρ) fun o10 =>
    oc o10
     (
      F_X11_evener_91 N K len a1 a2 (F_X11_evener_44 N K len a1 a2 n) σ ρ v2 v3 v4 v5 v6 (0 : Int32))
     (fun c11 =>
      gd (isC N K c11) <|
      bn (F_X11_valueAt 39 6 v6 σ ρ) fun r17 =>
      nm ((σ c11 5) + r17) fun x18 =>
      F_X11_evener_91 N K len a1 a2 (F_X11_evener_44 N K len a1 a2 n) σ ρ v2 v3 v4 v5 v6 x18)
def F_X11_evener (N : Nat) (K len : Nat → Nat) (a1 : Int32) (a2 : Int32) (σ : SG) (ρ : RG) : Option (Int32 × SG) :=
  bn (F_X11_isWithin a2 (0 : Int32) (1 : Int32) σ ρ) fun r1 =>
  if r1 = 0 then
    some ((-1 : Int32), σ)
  else
    bn (F_X11_isWithin a1 (0 : Int32) (40 : Int32) σ ρ) fun r3 =>
    if r3 = 0 then
      some ((-2 : Int32), σ)
    else
      bn (F_X11_goOn N K len a1 (-1 : Int32) (0 : Int32) (0 : Int32) σ ρ) fun σ5 =>
      F_X11_evener_44 N K len a1 a2 1024 σ5 ρ a2 (-5 : Int32) (0 : Int32) (0 : Int32) (0 : Int32)
set_option maxHeartbeats 4000000 in
set_option maxRecDepth 100000 in
theorem w_X11_evener_132 {N : Nat} {K len : Nat → Nat} {a1 : Int32} {a2 : Int32} {rec_44 : SG → RG → Int32 → Int32 → Int32 → Int32 → Int32 → Option (Int32 × SG)} {p : Program} {e : Env} {s : State} {m : MethodId} {args : Array Value} {below : List Frame} {meth : Method} {c : Code} {ρ0 : RG} {r : Int32} {σ1 : SG} (C : Cx Y D N ad p s m args meth c cX11_evener 9 (some .int) RX11 wsL_law) (hrec_44 : ∀ (σ : SG) (ρ : RG) (v2 : Int32) (v3 : Int32) (v4 : Int32) (v5 : Int32) (v6 : Int32) (H : Heap) (locs : List Loc) (ls : Array Slot), ρ = ρ0 → Lay N K len ρ → rec_44 σ ρ v2 v3 v4 v5 v6 = some (r, σ1) → WP Y D N ad K len σ ρ H → va_S (AA N ad s.heap.size) s.heap H locs → lv_has ls 9 [(0, .ref (ad 0)), (2, .int v2), (3, .int v3), (4, .int v4), (5, .int v5), (6, .int v6)] → W p l e rm_X11_evener s m args below meth c H locs 0 0 (MQ below (QW Y D N ad K len σ1 ρ0 (AA N ad s.heap.size) (some (.int r))) args s 0 0 (AA N ad s.heap.size)) (F0 m 44 ls [])) {σ : SG} {ρ : RG} {v2 : Int32} {v3 : Int32} {v4 : Int32} {v5 : Int32} {v6 : Int32} {H : Heap} {locs : List Loc} {ls : Array Slot} (hρ0 : ρ = ρ0) (hL : Lay N K len ρ) (hF : F_X11_evener_132 N K len a1 a2 rec_44 σ ρ v2 v3 v4 v5 v6 = some (r, σ1)) (hP : WP Y D N ad K len σ ρ H) (hS : va_S (AA N ad s.heap.size) s.heap H locs) (hl : lv_has ls 9 [(0, .ref (ad 0)), (2, .int v2), (3, .int v3), (4, .int v4), (5, .int v5), (6, .int v6)]) : W p l e rm_X11_evener s m args below meth c H locs 0 0 (MQ below (QW Y D N ad K len σ1 ρ0 (AA N ad s.heap.size) (some (.int r))) args s 0 0 (AA N ad s.heap.size)) (F0 m 132 ls []) := by
  have hx := C.1.1
  have hb := C.1.2.1
  unfold F_X11_evener_132 at hF
  obtain ⟨x15, ex15, hF⟩ := nm_1 hF
  refine lv_iinc (v := x15) (lv' := [(6, .int x15), (0, .ref (ad 0)), (2, .int v2), (3, .int v3), (4, .int v4), (5, .int v5)]) hx hb dX11_evener_132 hl (k := 5) rfl (by rw [ex15]; first | rfl | decide) (by decide) rfl (fun ls hl => ?_)
  refine lv_goto (tgt := 44) hx hb dX11_evener_135 (by decide) ?_
  exact hrec_44 _ _ _ _ _ _ _ _ _ _ hρ0 hL hF hP hS (lv_sub hl [1, 2, 3, 4, 5, 0] rfl)
set_option maxHeartbeats 4000000 in
set_option maxRecDepth 100000 in
theorem w_X11_evener_125 {N : Nat} {K len : Nat → Nat} {a1 : Int32} {a2 : Int32} {rec_44 : SG → RG → Int32 → Int32 → Int32 → Int32 → Int32 → Option (Int32 × SG)} {p : Program} {e : Env} {s : State} {m : MethodId} {args : Array Value} {below : List Frame} {meth : Method} {c : Code} {ρ0 : RG} {r : Int32} {σ1 : SG} (C : Cx Y D N ad p s m args meth c cX11_evener 9 (some .int) RX11 wsL_law) (hrec_44 : ∀ (σ : SG) (ρ : RG) (v2 : Int32) (v3 : Int32) (v4 : Int32) (v5 : Int32) (v6 : Int32) (H : Heap) (locs : List Loc) (ls : Array Slot), ρ = ρ0 → Lay N K len ρ → rec_44 σ ρ v2 v3 v4 v5 v6 = some (r, σ1) → WP Y D N ad K len σ ρ H → va_S (AA N ad s.heap.size) s.heap H locs → lv_has ls 9 [(0, .ref (ad 0)), (2, .int v2), (3, .int v3), (4, .int v4), (5, .int v5), (6, .int v6)] → W p l e rm_X11_evener s m args below meth c H locs 0 0 (MQ below (QW Y D N ad K len σ1 ρ0 (AA N ad s.heap.size) (some (.int r))) args s 0 0 (AA N ad s.heap.size)) (F0 m 44 ls [])) {σ : SG} {ρ : RG} {v2 : Int32} {v5 : Int32} {v6 : Int32} {v8 : Int32} {H : Heap} {locs : List Loc} {ls : Array Slot} (hρ0 : ρ = ρ0) (hL : Lay N K len ρ) (hF : F_X11_evener_125 N K len a1 a2 rec_44 σ ρ v2 v5 v6 v8 = some (r, σ1)) (hP : WP Y D N ad K len σ ρ H) (hS : va_S (AA N ad s.heap.size) s.heap H locs) (hl : lv_has ls 9 [(0, .ref (ad 0)), (2, .int v2), (5, .int v5), (6, .int v6), (8, .int v8)]) : W p l e rm_X11_evener s m args below meth c H locs 0 0 (MQ below (QW Y D N ad K len σ1 ρ0 (AA N ad s.heap.size) (some (.int r))) args s 0 0 (AA N ad s.heap.size)) (F0 m 125 ls []) := by
  have hx := C.1.1
  have hb := C.1.2.1
  unfold F_X11_evener_125 at hF
  refine lv_iload hx hb dX11_evener_125 (lv_at hl 4 rfl) ?_
  refine lv_istore (lv' := [(4, .int v8), (0, .ref (ad 0)), (2, .int v2), (5, .int v5), (6, .int v6), (8, .int v8)]) hx hb dX11_evener_127 hl (by decide) rfl (fun ls hl => ?_)
  refine lv_iload hx hb dX11_evener_129 (lv_at hl 4 rfl) ?_
  refine lv_istore_n (lv' := [(3, .int v6), (4, .int v8), (0, .ref (ad 0)), (2, .int v2), (5, .int v5), (6, .int v6), (8, .int v8)]) hx hb dX11_evener_131 rfl hl (by decide) rfl (fun ls hl => ?_)
  exact w_X11_evener_132 C hrec_44 hρ0 hL hF hP hS (lv_sub hl [2, 3, 0, 1, 4, 5] rfl)
set_option maxHeartbeats 4000000 in
set_option maxRecDepth 100000 in
theorem w_X11_evener_110 {N : Nat} {K len : Nat → Nat} {a1 : Int32} {a2 : Int32} {rec_44 : SG → RG → Int32 → Int32 → Int32 → Int32 → Int32 → Option (Int32 × SG)} {p : Program} {e : Env} {s : State} {m : MethodId} {args : Array Value} {below : List Frame} {meth : Method} {c : Code} {ρ0 : RG} {r : Int32} {σ1 : SG} (C : Cx Y D N ad p s m args meth c cX11_evener 9 (some .int) RX11 wsL_law) (hrec_44 : ∀ (σ : SG) (ρ : RG) (v2 : Int32) (v3 : Int32) (v4 : Int32) (v5 : Int32) (v6 : Int32) (H : Heap) (locs : List Loc) (ls : Array Slot), ρ = ρ0 → Lay N K len ρ → rec_44 σ ρ v2 v3 v4 v5 v6 = some (r, σ1) → WP Y D N ad K len σ ρ H → va_S (AA N ad s.heap.size) s.heap H locs → lv_has ls 9 [(0, .ref (ad 0)), (2, .int v2), (3, .int v3), (4, .int v4), (5, .int v5), (6, .int v6)] → W p l e rm_X11_evener s m args below meth c H locs 0 0 (MQ below (QW Y D N ad K len σ1 ρ0 (AA N ad s.heap.size) (some (.int r))) args s 0 0 (AA N ad s.heap.size)) (F0 m 44 ls [])) {σ : SG} {ρ : RG} {v2 : Int32} {v3 : Int32} {v4 : Int32} {v6 : Int32} {v8 : Int32} {k0 : Int32} {H : Heap} {locs : List Loc} {ls : Array Slot} (hρ0 : ρ = ρ0) (hL : Lay N K len ρ) (hF : F_X11_evener_110 N K len a1 a2 rec_44 σ ρ v2 v3 v4 v6 v8 k0 = some (r, σ1)) (hP : WP Y D N ad K len σ ρ H) (hS : va_S (AA N ad s.heap.size) s.heap H locs) (hl : lv_has ls 9 [(0, .ref (ad 0)), (2, .int v2), (3, .int v3), (4, .int v4), (6, .int v6), (8, .int v8)]) : W p l e rm_X11_evener s m args below meth c H locs 0 0 (MQ below (QW Y D N ad K len σ1 ρ0 (AA N ad s.heap.size) (some (.int r))) args s 0 0 (AA N ad s.heap.size)) (F0 m 110 ls [.int k0]) := by
  have hx := C.1.1
  have hb := C.1.2.1
  unfold F_X11_evener_110 at hF
  refine lv_istore (lv' := [(5, .int k0), (0, .ref (ad 0)), (2, .int v2), (3, .int v3), (4, .int v4), (6, .int v6), (8, .int v8)]) hx hb dX11_evener_110 hl (by decide) rfl (fun ls hl => ?_)
  refine lv_iload_n hx hb dX11_evener_112 rfl (lv_at hl 3 rfl) ?_
  refine lv_bipush (v := -5) hx hb dX11_evener_113 (by decide +kernel) ?_
  refine lv_icmp_eq (tgt := 125) hx hb dX11_evener_115 (by decide) (fun c_14 => ?_) (fun c_14 => ?_) -- COND 14 by_cases c_14 : v3 = (-5 : Int32)
  · have hF := ite_t hF c_14
    exact w_X11_evener_125 C hrec_44 hρ0 hL hF hP hS (lv_sub hl [1, 2, 0, 5, 6] rfl)
  · have hF := ite_f hF c_14
    refine lv_iload hx hb dX11_evener_118 (lv_at hl 6 rfl) ?_
    refine lv_iload hx hb dX11_evener_120 (lv_at hl 4 rfl) ?_
    refine lv_icmp_le (tgt := 132) hx hb dX11_evener_122 (by decide) (fun c_16 => ?_) (fun c_16 => ?_) -- COND 16 by_cases c_16 : v8 ≤ v4
    · have hF := ite_t hF c_16
      exact w_X11_evener_132 C hrec_44 hρ0 hL hF hP hS (lv_sub hl [1, 2, 3, 4, 0, 5] rfl)
    · have hF := ite_f hF c_16
      exact w_X11_evener_125 C hrec_44 hρ0 hL hF hP hS (lv_sub hl [1, 2, 0, 5, 6] rfl)
set_option maxHeartbeats 4000000 in
set_option maxRecDepth 100000 in
theorem w_X11_evener_91 {N : Nat} {K len : Nat → Nat} {a1 : Int32} {a2 : Int32} {rec_44 : SG → RG → Int32 → Int32 → Int32 → Int32 → Int32 → Option (Int32 × SG)} {p : Program} {e : Env} {s : State} {m : MethodId} {args : Array Value} {below : List Frame} {meth : Method} {c : Code} {ρ0 : RG} {r : Int32} {σ1 : SG} (C : Cx Y D N ad p s m args meth c cX11_evener 9 (some .int) RX11 wsL_law) (hrec_44 : ∀ (σ : SG) (ρ : RG) (v2 : Int32) (v3 : Int32) (v4 : Int32) (v5 : Int32) (v6 : Int32) (H : Heap) (locs : List Loc) (ls : Array Slot), ρ = ρ0 → Lay N K len ρ → rec_44 σ ρ v2 v3 v4 v5 v6 = some (r, σ1) → WP Y D N ad K len σ ρ H → va_S (AA N ad s.heap.size) s.heap H locs → lv_has ls 9 [(0, .ref (ad 0)), (2, .int v2), (3, .int v3), (4, .int v4), (5, .int v5), (6, .int v6)] → W p l e rm_X11_evener s m args below meth c H locs 0 0 (MQ below (QW Y D N ad K len σ1 ρ0 (AA N ad s.heap.size) (some (.int r))) args s 0 0 (AA N ad s.heap.size)) (F0 m 44 ls [])) {σ : SG} {ρ : RG} {v2 : Int32} {v3 : Int32} {v4 : Int32} {v5 : Int32} {v6 : Int32} {k0 : Int32} {H : Heap} {locs : List Loc} {ls : Array Slot} (hρ0 : ρ = ρ0) (hL : Lay N K len ρ) (hF : F_X11_evener_91 N K len a1 a2 rec_44 σ ρ v2 v3 v4 v5 v6 k0 = some (r, σ1)) (hP : WP Y D N ad K len σ ρ H) (hS : va_S (AA N ad s.heap.size) s.heap H locs) (hl : lv_has ls 9 [(0, .ref (ad 0)), (2, .int v2), (3, .int v3), (4, .int v4), (5, .int v5), (6, .int v6)]) : W p l e rm_X11_evener s m args below meth c H locs 0 0 (MQ below (QW Y D N ad K len σ1 ρ0 (AA N ad s.heap.size) (some (.int r))) args s 0 0 (AA N ad s.heap.size)) (F0 m 91 ls [.int k0]) := by
  have hx := C.1.1
  have hb := C.1.2.1
  unfold F_X11_evener_91 at hF
  refine lv_istore (lv' := [(8, .int k0), (0, .ref (ad 0)), (2, .int v2), (3, .int v3), (4, .int v4), (5, .int v5), (6, .int v6)]) hx hb dX11_evener_91 hl (by decide) rfl (fun ls hl => ?_)
  refine lv_iload hx hb dX11_evener_93 (lv_at hl 6 rfl) ?_
  refine lv_if_ne (tgt := 103) hx hb dX11_evener_95 (by decide) (fun c_12 => ?_) (fun c_12 => ?_) -- COND 12 rcases (Decidable.em (v6 = 0)).symm with c_12 | c_12
  · have hF := ite_f hF c_12
    refine lv_iload hx hb dX11_evener_103 (lv_at hl 5 rfl) ?_
    refine lv_iload hx hb dX11_evener_105 (lv_at hl 0 rfl) ?_
    refine va_mmin hx hb (C.1.2.2.1.trans hl.1.symm) C.1.2.2.2.1 (C.1.2.2.2.2 _ mw_860) (C.1.2.2.2.2 _ mw_237) (C.1.2.2.2.2 _ mw_234) (C.1.2.2.2.2 _ mw_238) (Nat.le_of_ble_eq_true rfl) (Nat.le_of_ble_eq_true rfl) (Nat.zero_le _) (Nat.zero_le _) dX11_evener_107 ?_
    obtain ⟨x13, ex13, hF⟩ := nm_1 hF
    refine x_top ex13 ?_
    exact w_X11_evener_110 C hrec_44 hρ0 hL hF hP hS (lv_sub hl [1, 2, 3, 4, 6, 0] rfl)
  · have hF := ite_t hF c_12
    refine lv_iload hx hb dX11_evener_98 (lv_at hl 0 rfl) ?_
    refine lv_goto (tgt := 110) hx hb dX11_evener_100 (by decide) ?_
    exact w_X11_evener_110 C hrec_44 hρ0 hL hF hP hS (lv_sub hl [1, 2, 3, 4, 6, 0] rfl)
set_option maxHeartbeats 4000000 in
set_option maxRecDepth 100000 in
theorem w_X11_evener_44 {N : Nat} {K len : Nat → Nat} {a1 : Int32} {a2 : Int32} {p : Program} {e : Env} {s : State} {m : MethodId} {args : Array Value} {below : List Frame} {meth : Method} {c : Code} {ρ0 : RG} {r : Int32} {σ1 : SG} (C : Cx Y D N ad p s m args meth c cX11_evener 9 (some .int) RX11 wsL_law) : ∀ (n : Nat) (σ : SG) (ρ : RG) (v2 : Int32) (v3 : Int32) (v4 : Int32) (v5 : Int32) (v6 : Int32) (H : Heap) (locs : List Loc) (ls : Array Slot), ρ = ρ0 → Lay N K len ρ → F_X11_evener_44 N K len a1 a2 n σ ρ v2 v3 v4 v5 v6 = some (r, σ1) → WP Y D N ad K len σ ρ H → va_S (AA N ad s.heap.size) s.heap H locs → lv_has ls 9 [(0, .ref (ad 0)), (2, .int v2), (3, .int v3), (4, .int v4), (5, .int v5), (6, .int v6)] → W p l e rm_X11_evener s m args below meth c H locs 0 0 (MQ below (QW Y D N ad K len σ1 ρ0 (AA N ad s.heap.size) (some (.int r))) args s 0 0 (AA N ad s.heap.size)) (F0 m 44 ls []) := by
  have hx := C.1.1
  have hb := C.1.2.1
  intro n
  induction n with
  | zero => intro σ ρ v2 v3 v4 v5 v6 H locs ls hρ0 hL hF; cases hF
  | succ n ih =>
    intro σ ρ v2 v3 v4 v5 v6 H locs ls hρ0 hL hF hP hS hl
    unfold F_X11_evener_44 at hF
    refine lv_iload hx hb dX11_evener_44 (lv_at hl 5 rfl) ?_
    refine lv_aload_n hx hb dX11_evener_46 rfl (lv_at hl 0 rfl) ?_
    refine get_11_0 C hP (lr_0 hL) (lk_0 hL) inlX11 mw_15 (lf_0_0 hL) dX11_evener_47 ?_
    refine get_8_1 C hP (lr_1 hL) (lk_1 hL) inlX8 mw_352 dX11_evener_50 ?_
    refine lv_icmp_ge (tgt := 138) hx hb dX11_evener_53 (by decide) (fun c_6 => ?_) (fun c_6 => ?_) -- COND 6 by_cases c_6 : (σ 1 1) ≤ v6
    · have hF := ite_t hF c_6
      refine lv_iload_n hx hb dX11_evener_138 rfl (lv_at hl 1 rfl) ?_
      refine lv_if_eq (tgt := 148) hx hb dX11_evener_139 (by decide) (fun c_7 => ?_) (fun c_7 => ?_) -- COND 7 by_cases c_7 : v2 = 0
      · have hF := ite_t hF c_7
        refine lv_iload_n hx hb dX11_evener_148 rfl (lv_at hl 2 rfl) ?_
        refine lv_goto (tgt := 157) hx hb dX11_evener_149 (by decide) ?_
        obtain ⟨rfl, rfl⟩ := ret_2 hF
        subst hρ0
        exact x_iret rfl C hP hS dX11_evener_157
      · have hF := ite_f hF c_7
        refine lv_iload_n hx hb dX11_evener_142 rfl (lv_at hl 2 rfl) ?_
        refine lv_bipush (v := -5) hx hb dX11_evener_143 (by decide +kernel) ?_
        refine lv_icmp_ne (tgt := 152) hx hb dX11_evener_145 (by decide) (fun c_8 => ?_) (fun c_8 => ?_) -- COND 8 rcases (Decidable.em (v3 = (-5 : Int32))).symm with c_8 | c_8
        · have hF := ite_f hF c_8
          refine lv_iload hx hb dX11_evener_152 (lv_at hl 3 rfl) ?_
          refine lv_iload hx hb dX11_evener_154 (lv_at hl 4 rfl) ?_
          refine lv_isub hx hb dX11_evener_156 ?_
          obtain ⟨x9, ex9, hF⟩ := nm_1 hF
          refine x_top ex9 ?_
          obtain ⟨rfl, rfl⟩ := ret_2 hF
          subst hρ0
          exact x_iret rfl C hP hS dX11_evener_157
        · have hF := ite_t hF c_8
          refine lv_iload_n hx hb dX11_evener_148 rfl (lv_at hl 2 rfl) ?_
          refine lv_goto (tgt := 157) hx hb dX11_evener_149 (by decide) ?_
          obtain ⟨rfl, rfl⟩ := ret_2 hF
          subst hρ0
          exact x_iret rfl C hP hS dX11_evener_157
    · have hF := ite_f hF c_6
      refine lv_aload_n hx hb dX11_evener_56 rfl (lv_at hl 0 rfl) ?_
      refine get_11_0 C hP (lr_0 hL) (lk_0 hL) inlX11 mw_15 (lf_0_0 hL) dX11_evener_57 ?_
      refine lv_iload hx hb dX11_evener_60 (lv_at hl 5 rfl) ?_
      obtain ⟨o10, hq10, hF⟩ := bn_1 hF
      refine x_callV (ci := 8) rfl rfl C hP hS (c_X8_cutterAt_1 hL hq10) (lr_1 hL) (lk_1 hL) (cwV 1 C.1.2.2.2.2 (gdV mw_428 mw_429 mw_430 mw_14 mw_431) rfl rfl rfl hd_X8_cutterAt ⟨Nat.le_of_ble_eq_true rfl, Nat.le_of_ble_eq_true rfl⟩) rfl rfl hl.1 (Nat.le_of_ble_eq_true rfl) ⟨Nat.zero_le _, Nat.zero_le _⟩ dX11_evener_62 (fun H locs hP hS => ?_)
      rcases ho11 : o10 with _ | c11
      · have hF := oc_n hF ho11
        refine x_n ?_
        refine lv_astoreN (lv' := [(7, .null), (0, .ref (ad 0)), (2, .int v2), (3, .int v3), (4, .int v4), (5, .int v5), (6, .int v6)]) hx hb dX11_evener_65 hl (by decide) rfl (fun ls hl => ?_)
        refine lv_aloadN hx hb dX11_evener_67 (lv_at hl 0 rfl) ?_
        refine lv_ifnonnullN hx hb dX11_evener_69 ?_
        refine lv_iconst (v := 0) hx hb dX11_evener_72 (by decide) ?_
        refine lv_goto (tgt := 91) hx hb dX11_evener_73 (by decide) ?_
        exact w_X11_evener_91 C ih hρ0 hL hF hP hS (lv_sub hl [1, 2, 3, 4, 5, 6] rfl)
      · have hF := oc_s hF ho11
        refine x_s ?_
        obtain ⟨gc11, hF⟩ := gd_1 hF
        refine lv_astore (lv' := [(7, .ref (ad c11)), (0, .ref (ad 0)), (2, .int v2), (3, .int v3), (4, .int v4), (5, .int v5), (6, .int v6)]) hx hb dX11_evener_65 hl (by decide) rfl (fun ls hl => ?_)
        refine lv_aload hx hb dX11_evener_67 (lv_at hl 0 rfl) ?_
        refine lv_ifnonnull (tgt := 76) hx hb dX11_evener_69 (by decide) ?_
        refine lv_aload hx hb dX11_evener_76 (lv_at hl 0 rfl) ?_
        refine get_ck_5 C hP (isC_r gc11) (isC_k gc11) mw_427 (Or.inl rfl) dX11_evener_78 ?_
        refine lv_aload_n hx hb dX11_evener_81 rfl (lv_at hl 1 rfl) ?_
        refine get_11_12 C hP (lr_0 hL) (lk_0 hL) inlX11 mw_33 (lf_0_12 hL) dX11_evener_82 ?_
        refine lv_iload hx hb dX11_evener_85 (lv_at hl 6 rfl) ?_
        obtain ⟨r17, hq17, hF⟩ := bn_1 hF
        refine x_callS C hP hS (c_X11_valueAt hL ⟨(lr_39 hL), (lk_39 hL), (ln_39 hL)⟩ hq17) (va_cwS 2 C.1.2.2.2.2 (gdS mw_750 mw_557 mw_2 mw_558) rfl rfl rfl hd_X11_valueAt.2 ⟨Nat.le_of_ble_eq_true rfl, Nat.le_of_ble_eq_true rfl⟩) rfl rfl hl.1 (Nat.le_of_ble_eq_true rfl) ⟨Nat.zero_le _, Nat.zero_le _⟩ dX11_evener_87 (fun H locs hP hS => ?_)
        refine lv_iadd hx hb dX11_evener_90 ?_
        obtain ⟨x18, ex18, hF⟩ := nm_1 hF
        refine x_top ex18 ?_
        exact w_X11_evener_91 C ih hρ0 hL hF hP hS (lv_sub hl [1, 2, 3, 4, 5, 6] rfl)
set_option maxHeartbeats 4000000 in
set_option maxRecDepth 100000 in
theorem w_X11_evener_0 {N : Nat} {K len : Nat → Nat} {a1 : Int32} {a2 : Int32} {p : Program} {e : Env} {s : State} {m : MethodId} {args : Array Value} {below : List Frame} {meth : Method} {c : Code} {ρ0 : RG} {r : Int32} {σ1 : SG} (C : Cx Y D N ad p s m args meth c cX11_evener 9 (some .int) RX11 wsL_law) {σ : SG} {ρ : RG} {H : Heap} {locs : List Loc} {ls : Array Slot} (hρ0 : ρ = ρ0) (hL : Lay N K len ρ) (hF : F_X11_evener N K len a1 a2 σ ρ = some (r, σ1)) (hP : WP Y D N ad K len σ ρ H) (hS : va_S (AA N ad s.heap.size) s.heap H locs) (hl : lv_has ls 9 [(0, .ref (ad 0)), (1, .int a1), (2, .int a2)]) : W p l e rm_X11_evener s m args below meth c H locs 0 0 (MQ below (QW Y D N ad K len σ1 ρ0 (AA N ad s.heap.size) (some (.int r))) args s 0 0 (AA N ad s.heap.size)) (F0 m 0 ls []) := by
  have hx := C.1.1
  have hb := C.1.2.1
  unfold F_X11_evener at hF
  refine lv_iload_n hx hb dX11_evener_0 rfl (lv_at hl 2 rfl) ?_
  refine lv_iconst (v := 0) hx hb dX11_evener_1 (by decide) ?_
  refine lv_iconst (v := 1) hx hb dX11_evener_2 (by decide) ?_
  obtain ⟨r1, hq1, hF⟩ := bn_1 hF
  refine x_callS C hP hS (c_X11_isWithin hL hq1) (va_cwS 3 C.1.2.2.2.2 (gdS mw_97 mw_98 mw_2 mw_99) rfl rfl rfl hd_X11_isWithin.2 ⟨Nat.le_of_ble_eq_true rfl, Nat.le_of_ble_eq_true rfl⟩) rfl rfl hl.1 (Nat.le_of_ble_eq_true rfl) ⟨Nat.zero_le _, Nat.zero_le _⟩ dX11_evener_3 (fun H locs hP hS => ?_)
  refine lv_if_ne (tgt := 11) hx hb dX11_evener_6 (by decide) (fun c_2 => ?_) (fun c_2 => ?_) -- COND 2 rcases (Decidable.em (r1 = 0)).symm with c_2 | c_2
  · have hF := ite_f hF c_2
    refine lv_iload_n hx hb dX11_evener_11 rfl (lv_at hl 1 rfl) ?_
    refine lv_iconst (v := 0) hx hb dX11_evener_12 (by decide) ?_
    refine lv_bipush (v := 40) hx hb dX11_evener_13 (by decide +kernel) ?_
    obtain ⟨r3, hq3, hF⟩ := bn_1 hF
    refine x_callS C hP hS (c_X11_isWithin hL hq3) (va_cwS 3 C.1.2.2.2.2 (gdS mw_97 mw_98 mw_2 mw_99) rfl rfl rfl hd_X11_isWithin.2 ⟨Nat.le_of_ble_eq_true rfl, Nat.le_of_ble_eq_true rfl⟩) rfl rfl hl.1 (Nat.le_of_ble_eq_true rfl) ⟨Nat.zero_le _, Nat.zero_le _⟩ dX11_evener_15 (fun H locs hP hS => ?_)
    refine lv_if_ne (tgt := 24) hx hb dX11_evener_18 (by decide) (fun c_4 => ?_) (fun c_4 => ?_) -- COND 4 rcases (Decidable.em (r3 = 0)).symm with c_4 | c_4
    · have hF := ite_f hF c_4
      refine lv_aload_n hx hb dX11_evener_24 rfl (lv_at hl 0 rfl) ?_
      refine lv_iload_n hx hb dX11_evener_25 rfl (lv_at hl 1 rfl) ?_
      refine lv_iconst (v := -1) hx hb dX11_evener_26 (by decide) ?_
      refine lv_iconst (v := 0) hx hb dX11_evener_27 (by decide) ?_
      refine lv_iconst (v := 0) hx hb dX11_evener_28 (by decide) ?_
      obtain ⟨σ5, hq5, hF⟩ := bn_1 hF
      refine x_callV (ci := 11) rfl rfl C hP hS (c_X11_goOn hL hq5) (lr_0 hL) (lk_0 hL) (cwV 4 C.1.2.2.2.2 (gdV mw_745 mw_746 mw_747 mw_2 mw_748) rfl rfl rfl hd_X11_goOn ⟨Nat.le_of_ble_eq_true rfl, Nat.le_of_ble_eq_true rfl⟩) rfl rfl hl.1 (Nat.le_of_ble_eq_true rfl) ⟨Nat.zero_le _, Nat.zero_le _⟩ dX11_evener_29 (fun H locs hP hS => ?_)
      refine lv_bipush (v := -5) hx hb dX11_evener_32 (by decide +kernel) ?_
      refine lv_istore_n (lv' := [(3, .int (-5 : Int32)), (0, .ref (ad 0)), (1, .int a1), (2, .int a2)]) hx hb dX11_evener_34 rfl hl (by decide) rfl (fun ls hl => ?_)
      refine lv_iconst (v := 0) hx hb dX11_evener_35 (by decide) ?_
      refine lv_istore (lv' := [(4, .int (0 : Int32)), (3, .int (-5 : Int32)), (0, .ref (ad 0)), (1, .int a1), (2, .int a2)]) hx hb dX11_evener_36 hl (by decide) rfl (fun ls hl => ?_)
      refine lv_iconst (v := 0) hx hb dX11_evener_38 (by decide) ?_
      refine lv_istore (lv' := [(5, .int (0 : Int32)), (4, .int (0 : Int32)), (3, .int (-5 : Int32)), (0, .ref (ad 0)), (1, .int a1), (2, .int a2)]) hx hb dX11_evener_39 hl (by decide) rfl (fun ls hl => ?_)
      refine lv_iconst (v := 0) hx hb dX11_evener_41 (by decide) ?_
      refine lv_istore (lv' := [(6, .int (0 : Int32)), (5, .int (0 : Int32)), (4, .int (0 : Int32)), (3, .int (-5 : Int32)), (0, .ref (ad 0)), (1, .int a1), (2, .int a2)]) hx hb dX11_evener_42 hl (by decide) rfl (fun ls hl => ?_)
      exact w_X11_evener_44 C 1024 _ _ _ _ _ _ _ _ _ _ hρ0 hL hF hP hS (lv_sub hl [4, 6, 3, 2, 1, 0] rfl)
    · have hF := ite_t hF c_4
      refine lv_bipush (v := -2) hx hb dX11_evener_21 (by decide +kernel) ?_
      obtain ⟨rfl, rfl⟩ := ret_2 hF
      subst hρ0
      exact x_iret rfl C hP hS dX11_evener_23
  · have hF := ite_t hF c_2
    refine lv_iconst (v := -1) hx hb dX11_evener_9 (by decide) ?_
    obtain ⟨rfl, rfl⟩ := ret_2 hF
    subst hρ0
    exact x_iret rfl C hP hS dX11_evener_10
set_option maxHeartbeats 4000000 in
set_option maxRecDepth 100000 in
theorem c_X11_evener {N : Nat} {K len : Nat → Nat} {a1 : Int32} {a2 : Int32} {r : Int32} {σ1 : SG} {σ : SG} {ρ : RG} (hL : Lay N K len ρ) (hF : F_X11_evener N K len a1 a2 σ ρ = some (r, σ1)) : MT l Y D N ad K len yX11_evener (Cond.code yX11_evener cX11_evener 9 (some .int) :: wsL_law) rm_X11_evener [.ref (ad 0), .int a1, .int a2] σ ρ (some (.int r)) σ1 ρ := by
  refine mt_of (cc := cX11_evener) (nL := 9) (ret := (some .int)) (by decide) (Nat.le_of_ble_eq_true rfl) ?_
  intro p e s m args below meth c ls C hnm hP hS hl
  exact w_X11_evener_0 C rfl hL hF hP hS hl

/-! CutCrooked.public int cheese(int, int);  -/
theorem dX11_cheese_0 : decode cX11_cheese 0 = .ok (.aload_n 0, 1) := by decide +kernel
theorem dX11_cheese_1 : decode cX11_cheese 1 = .ok (.getfield 12, 3) := by decide +kernel
theorem dX11_cheese_4 : decode cX11_cheese 4 = .ok (.iload_n 2, 1) := by decide +kernel
theorem dX11_cheese_5 : decode cX11_cheese 5 = .ok (.bipush 10, 2) := by decide +kernel
theorem dX11_cheese_7 : decode cX11_cheese 7 = .ok (.isub, 1) := by decide +kernel
theorem dX11_cheese_8 : decode cX11_cheese 8 = .ok (.invokevirtual 100, 3) := by decide +kernel
theorem dX11_cheese_11 : decode cX11_cheese 11 = .ok (.ifnull 7, 3) := by decide +kernel
theorem dX11_cheese_14 : decode cX11_cheese 14 = .ok (.iconst 1, 1) := by decide +kernel
theorem dX11_cheese_15 : decode cX11_cheese 15 = .ok (.goto 4, 3) := by decide +kernel
theorem dX11_cheese_18 : decode cX11_cheese 18 = .ok (.iconst 0, 1) := by decide +kernel
theorem dX11_cheese_19 : decode cX11_cheese 19 = .ok (.istore_n 3, 1) := by decide +kernel
theorem dX11_cheese_20 : decode cX11_cheese 20 = .ok (.iload_n 2, 1) := by decide +kernel
theorem dX11_cheese_21 : decode cX11_cheese 21 = .ok (.iconst 0, 1) := by decide +kernel
theorem dX11_cheese_22 : decode cX11_cheese 22 = .ok (.iconst 1, 1) := by decide +kernel
theorem dX11_cheese_23 : decode cX11_cheese 23 = .ok (.invokestatic 56, 3) := by decide +kernel
theorem dX11_cheese_26 : decode cX11_cheese 26 = .ok (.ifCond .ne 9, 3) := by decide +kernel
theorem dX11_cheese_29 : decode cX11_cheese 29 = .ok (.iload_n 3, 1) := by decide +kernel
theorem dX11_cheese_30 : decode cX11_cheese 30 = .ok (.ifCond .ne 5, 3) := by decide +kernel
theorem dX11_cheese_33 : decode cX11_cheese 33 = .ok (.iconst (-1), 1) := by decide +kernel
theorem dX11_cheese_34 : decode cX11_cheese 34 = .ok (.ireturn, 1) := by decide +kernel
theorem dX11_cheese_35 : decode cX11_cheese 35 = .ok (.iload_n 1, 1) := by decide +kernel
theorem dX11_cheese_36 : decode cX11_cheese 36 = .ok (.bipush 12, 2) := by decide +kernel
theorem dX11_cheese_38 : decode cX11_cheese 38 = .ok (.sipush 360, 3) := by decide +kernel
theorem dX11_cheese_41 : decode cX11_cheese 41 = .ok (.invokestatic 56, 3) := by decide +kernel
theorem dX11_cheese_44 : decode cX11_cheese 44 = .ok (.ifCond .ne 6, 3) := by decide +kernel
theorem dX11_cheese_47 : decode cX11_cheese 47 = .ok (.bipush (-2), 2) := by decide +kernel
theorem dX11_cheese_49 : decode cX11_cheese 49 = .ok (.ireturn, 1) := by decide +kernel
theorem dX11_cheese_50 : decode cX11_cheese 50 = .ok (.iload_n 1, 1) := by decide +kernel
theorem dX11_cheese_51 : decode cX11_cheese 51 = .ok (.istore 4, 2) := by decide +kernel
theorem dX11_cheese_53 : decode cX11_cheese 53 = .ok (.iconst 0, 1) := by decide +kernel
theorem dX11_cheese_54 : decode cX11_cheese 54 = .ok (.istore 5, 2) := by decide +kernel
theorem dX11_cheese_56 : decode cX11_cheese 56 = .ok (.iconst 0, 1) := by decide +kernel
theorem dX11_cheese_57 : decode cX11_cheese 57 = .ok (.istore 6, 2) := by decide +kernel
theorem dX11_cheese_59 : decode cX11_cheese 59 = .ok (.iconst 0, 1) := by decide +kernel
theorem dX11_cheese_60 : decode cX11_cheese 60 = .ok (.istore 7, 2) := by decide +kernel
theorem dX11_cheese_62 : decode cX11_cheese 62 = .ok (.iload 7, 2) := by decide +kernel
theorem dX11_cheese_64 : decode cX11_cheese 64 = .ok (.iload_n 1, 1) := by decide +kernel
theorem dX11_cheese_65 : decode cX11_cheese 65 = .ok (.if_icmp .ge 96, 3) := by decide +kernel
theorem dX11_cheese_68 : decode cX11_cheese 68 = .ok (.aload_n 0, 1) := by decide +kernel
theorem dX11_cheese_69 : decode cX11_cheese 69 = .ok (.getfield 12, 3) := by decide +kernel
theorem dX11_cheese_72 : decode cX11_cheese 72 = .ok (.getfield 89, 3) := by decide +kernel
theorem dX11_cheese_75 : decode cX11_cheese 75 = .ok (.ifCond .le 86, 3) := by decide +kernel
theorem dX11_cheese_78 : decode cX11_cheese 78 = .ok (.iload 7, 2) := by decide +kernel
theorem dX11_cheese_80 : decode cX11_cheese 80 = .ok (.aload_n 0, 1) := by decide +kernel
theorem dX11_cheese_81 : decode cX11_cheese 81 = .ok (.getfield 12, 3) := by decide +kernel
theorem dX11_cheese_84 : decode cX11_cheese 84 = .ok (.getfield 89, 3) := by decide +kernel
theorem dX11_cheese_87 : decode cX11_cheese 87 = .ok (.irem, 1) := by decide +kernel
theorem dX11_cheese_88 : decode cX11_cheese 88 = .ok (.istore 8, 2) := by decide +kernel
theorem dX11_cheese_90 : decode cX11_cheese 90 = .ok (.aload_n 0, 1) := by decide +kernel
theorem dX11_cheese_91 : decode cX11_cheese 91 = .ok (.getfield 12, 3) := by decide +kernel
theorem dX11_cheese_94 : decode cX11_cheese 94 = .ok (.iload 8, 2) := by decide +kernel
theorem dX11_cheese_96 : decode cX11_cheese 96 = .ok (.invokevirtual 100, 3) := by decide +kernel
theorem dX11_cheese_99 : decode cX11_cheese 99 = .ok (.astore 9, 2) := by decide +kernel
theorem dX11_cheese_101 : decode cX11_cheese 101 = .ok (.aload 9, 2) := by decide +kernel
theorem dX11_cheese_103 : decode cX11_cheese 103 = .ok (.ifnull 58, 3) := by decide +kernel
theorem dX11_cheese_106 : decode cX11_cheese 106 = .ok (.aload 9, 2) := by decide +kernel
theorem dX11_cheese_108 : decode cX11_cheese 108 = .ok (.getfield 119, 3) := by decide +kernel
theorem dX11_cheese_111 : decode cX11_cheese 111 = .ok (.iload 4, 2) := by decide +kernel
theorem dX11_cheese_113 : decode cX11_cheese 113 = .ok (.if_icmp .le 6, 3) := by decide +kernel
theorem dX11_cheese_116 : decode cX11_cheese 116 = .ok (.goto 45, 3) := by decide +kernel
theorem dX11_cheese_119 : decode cX11_cheese 119 = .ok (.iload 4, 2) := by decide +kernel
theorem dX11_cheese_121 : decode cX11_cheese 121 = .ok (.aload 9, 2) := by decide +kernel
theorem dX11_cheese_123 : decode cX11_cheese 123 = .ok (.getfield 119, 3) := by decide +kernel
theorem dX11_cheese_126 : decode cX11_cheese 126 = .ok (.isub, 1) := by decide +kernel
theorem dX11_cheese_127 : decode cX11_cheese 127 = .ok (.istore 4, 2) := by decide +kernel
theorem dX11_cheese_129 : decode cX11_cheese 129 = .ok (.iinc 5 1, 3) := by decide +kernel
theorem dX11_cheese_132 : decode cX11_cheese 132 = .ok (.iload 6, 2) := by decide +kernel
theorem dX11_cheese_134 : decode cX11_cheese 134 = .ok (.iload 8, 2) := by decide +kernel
theorem dX11_cheese_136 : decode cX11_cheese 136 = .ok (.iload_n 2, 1) := by decide +kernel
theorem dX11_cheese_137 : decode cX11_cheese 137 = .ok (.bipush 10, 2) := by decide +kernel
theorem dX11_cheese_139 : decode cX11_cheese 139 = .ok (.isub, 1) := by decide +kernel
theorem dX11_cheese_140 : decode cX11_cheese 140 = .ok (.if_icmp .ne 11, 3) := by decide +kernel
theorem dX11_cheese_143 : decode cX11_cheese 143 = .ok (.aload 9, 2) := by decide +kernel
theorem dX11_cheese_145 : decode cX11_cheese 145 = .ok (.getfield 119, 3) := by decide +kernel
theorem dX11_cheese_148 : decode cX11_cheese 148 = .ok (.goto 4, 3) := by decide +kernel
theorem dX11_cheese_151 : decode cX11_cheese 151 = .ok (.iconst 0, 1) := by decide +kernel
theorem dX11_cheese_152 : decode cX11_cheese 152 = .ok (.iadd, 1) := by decide +kernel
theorem dX11_cheese_153 : decode cX11_cheese 153 = .ok (.istore 6, 2) := by decide +kernel
theorem dX11_cheese_155 : decode cX11_cheese 155 = .ok (.iinc 7 1, 3) := by decide +kernel
theorem dX11_cheese_158 : decode cX11_cheese 158 = .ok (.goto (-96), 3) := by decide +kernel
theorem dX11_cheese_161 : decode cX11_cheese 161 = .ok (.iload_n 3, 1) := by decide +kernel
theorem dX11_cheese_162 : decode cX11_cheese 162 = .ok (.ifCond .eq 6, 3) := by decide +kernel
theorem dX11_cheese_165 : decode cX11_cheese 165 = .ok (.iload 6, 2) := by decide +kernel
theorem dX11_cheese_167 : decode cX11_cheese 167 = .ok (.ireturn, 1) := by decide +kernel
theorem dX11_cheese_168 : decode cX11_cheese 168 = .ok (.iload_n 2, 1) := by decide +kernel
theorem dX11_cheese_169 : decode cX11_cheese 169 = .ok (.ifCond .ne 8, 3) := by decide +kernel
theorem dX11_cheese_172 : decode cX11_cheese 172 = .ok (.iload 5, 2) := by decide +kernel
theorem dX11_cheese_174 : decode cX11_cheese 174 = .ok (.goto 5, 3) := by decide +kernel
theorem dX11_cheese_177 : decode cX11_cheese 177 = .ok (.iload 4, 2) := by decide +kernel
theorem dX11_cheese_179 : decode cX11_cheese 179 = .ok (.ireturn, 1) := by decide +kernel
theorem hd_X11_cheese : yX11_cheese.cls = RX11 ∧ yX11_cheese.cls ≠ "java/lang/invoke/MethodHandle" ∧ yX11_cheese.cls ≠ "java/lang/invoke/VarHandle" ∧ (parseMethodDescriptor yX11_cheese.desc).map (fun d => d.parameters.length) = some 2 := by decide +kernel
abbrev rm_X11_cheese : Room := { frames := 1, cells := 0, slots := 0, locals := 22 }
def F_X11_cheese_161 (N : Nat) (K len : Nat → Nat) (a1 : Int32) (a2 : Int32) (σ : SG) (ρ : RG) (v2 : Int32) (v3 : Int32) (v4 : Int32) (v5 : Int32) (v6 : Int32) : Option (Int32) :=
  if v3 = 0 then
    if v2 = 0 then
      some v5
    else
      some v4
  else
    some v6
def F_X11_cheese_152 (N : Nat) (K len : Nat → Nat) (a1 : Int32) (a2 : Int32) (rec_62 : SG → RG → Int32 → Int32 → Int32 → Int32 → Int32 → Int32 → Int32 → Option (Int32)) (σ : SG) (ρ : RG) (v1 : Int32) (v2 : Int32) (v3 : Int32) (v4 : Int32) (v5 : Int32) (v7 : Int32) (k0 : Int32) (k1 : Int32) : Option (Int32) :=
  nm (k0 + k1) fun x21 =>
  nm (v7 + (1 : Int32)) fun x22 =>
  rec_62 σ ρ v1 v2 v3 v4 v5 x21 x22
def F_X11_cheese_62 (N : Nat) (K len : Nat → Nat) (a1 : Int32) (a2 : Int32) : Nat → SG → RG → Int32 → Int32 → Int32 → Int32 → Int32 → Int32 → Int32 → Option (Int32)
  | 0 => fun _ _ _ _ _ _ _ _ _ => none
  | n + 1 => fun σ ρ v1 v2 v3 v4 v5 v6 v7 =>
  if v1 ≤ v7 then
    F_X11_cheese_161 N K len a1 a2 σ ρ v2 v3 v4 v5 v6
  else
    if (σ 1 1) ≤ 0 then
      F_X11_cheese_161 N K len a1 a2 σ ρ v2 v3 v4 v5 v6
    else
      gd (decide (¬ (σ 1 1) = 0)) <|
      nm (v7 - v7 / (σ 1 1) * (σ 1 1)) fun x13 =>
      bn (F_X8_cutterAt_1 x13 σ ρ) fun o14 =>
      oc o14
       (
        F_X11_cheese_161 N K len a1 a2 σ ρ v2 v3 v4 v5 v6)
       (fun c15 =>
        gd (isC N K c15) <|
        if (σ c15 4) ≤ v4 then
          nm (v4 - (σ c15 4)) fun x17 =>
          nm (v5 + (1 : Int32)) fun x18 =>
          nm (v2 - (10 : Int32)) fun x19 =>
          if x13 = x19 then
            F_X11_cheese_152 N K len a1 a2 (F_X11_cheese_62 N K len a1 a2 n) σ ρ v1 v2 v3 x17 x18 v7 v6 (σ c15 4)
          else
            F_X11_cheese_152 N K len a1 a2 (F_X11_cheese_62 N K len a1 a2 n) σ ρ v1 v2 v3 x17 x18 v7 v6 (0 : Int32)
        else
          F_X11_cheese_161 N K len a1 a2 σ ρ v2 v3 v4 v5 v6)
def F_X11_cheese_35 (N : Nat) (K len : Nat → Nat) (a1 : Int32) (a2 : Int32) (σ : SG) (ρ : RG) (v1 : Int32) (v2 : Int32) (v3 : Int32) : Option (Int32) :=
  bn (F_X11_isWithin v1 (12 : Int32) (360 : Int32) σ ρ) fun r6 =>
  if r6 = 0 then
    some (-2 : Int32)
  else
    F_X11_cheese_62 N K len a1 a2 1024 σ ρ v1 v2 v3 v1 (0 : Int32) (0 : Int32) (0 : Int32)
def F_X11_cheese_19 (N : Nat) (K len : Nat → Nat) (a1 : Int32) (a2 : Int32) (σ : SG) (ρ : RG) (v1 : Int32) (v2 : Int32) (k0 : Int32) : Option (Int32) :=
  bn (F_X11_isWithin v2 (0 : Int32) (1 : Int32) σ ρ) fun r4 =>
  if r4 = 0 then
    if k0 = 0 then
      some (-1 : Int32)
    else
      F_X11_cheese_35 N K len a1 a2 σ ρ v1 v2 k0
  else
    F_X11_cheese_35 N K len a1 a2 σ ρ v1 v2 k0
def F_X11_cheese (N : Nat) (K len : Nat → Nat) (a1 : Int32) (a2 : Int32) (σ : SG) (ρ : RG) : Option (Int32) :=
  nm (a2 - (10 : Int32)) fun x1 =>
  bn (F_X8_cutterAt_1 x1 σ ρ) fun o2 =>
  oc o2
   (
    F_X11_cheese_19 N K len a1 a2 σ ρ a1 a2 (0 : Int32))
   (fun c3 =>
    gd (isC N K c3) <|
    F_X11_cheese_19 N K len a1 a2 σ ρ a1 a2 (1 : Int32))
set_option maxHeartbeats 4000000 in
set_option maxRecDepth 100000 in
theorem w_X11_cheese_161 {N : Nat} {K len : Nat → Nat} {a1 : Int32} {a2 : Int32} {p : Program} {e : Env} {s : State} {m : MethodId} {args : Array Value} {below : List Frame} {meth : Method} {c : Code} {σ0 : SG} {ρ0 : RG} {r : Int32} (C : Cx Y D N ad p s m args meth c cX11_cheese 10 (some .int) RX11 wsL_law) {σ : SG} {ρ : RG} {v2 : Int32} {v3 : Int32} {v4 : Int32} {v5 : Int32} {v6 : Int32} {H : Heap} {locs : List Loc} {ls : Array Slot} (hσ0 : σ = σ0) (hρ0 : ρ = ρ0) (hL : Lay N K len ρ) (hF : F_X11_cheese_161 N K len a1 a2 σ ρ v2 v3 v4 v5 v6 = some r) (hP : WP Y D N ad K len σ ρ H) (hS : va_S (AA N ad s.heap.size) s.heap H locs) (hl : lv_has ls 10 [(2, .int v2), (3, .int v3), (4, .int v4), (5, .int v5), (6, .int v6)]) : W p l e rm_X11_cheese s m args below meth c H locs 0 0 (MQ below (QW Y D N ad K len σ0 ρ0 (AA N ad s.heap.size) (some (.int r))) args s 0 0 (AA N ad s.heap.size)) (F0 m 161 ls []) := by
  have hx := C.1.1
  have hb := C.1.2.1
  unfold F_X11_cheese_161 at hF
  refine lv_iload_n hx hb dX11_cheese_161 rfl (lv_at hl 1 rfl) ?_
  refine lv_if_eq (tgt := 168) hx hb dX11_cheese_162 (by decide) (fun c_9 => ?_) (fun c_9 => ?_) -- COND 9 by_cases c_9 : v3 = 0
  · have hF := ite_t hF c_9
    refine lv_iload_n hx hb dX11_cheese_168 rfl (lv_at hl 0 rfl) ?_
    refine lv_if_ne (tgt := 177) hx hb dX11_cheese_169 (by decide) (fun c_10 => ?_) (fun c_10 => ?_) -- COND 10 rcases (Decidable.em (v2 = 0)).symm with c_10 | c_10
    · have hF := ite_f hF c_10
      refine lv_iload hx hb dX11_cheese_177 (lv_at hl 2 rfl) ?_
      obtain rfl := ret_1 hF
      subst hσ0
      subst hρ0
      exact x_iret rfl C hP hS dX11_cheese_179
    · have hF := ite_t hF c_10
      refine lv_iload hx hb dX11_cheese_172 (lv_at hl 3 rfl) ?_
      refine lv_goto (tgt := 179) hx hb dX11_cheese_174 (by decide) ?_
      obtain rfl := ret_1 hF
      subst hσ0
      subst hρ0
      exact x_iret rfl C hP hS dX11_cheese_179
  · have hF := ite_f hF c_9
    refine lv_iload hx hb dX11_cheese_165 (lv_at hl 4 rfl) ?_
    obtain rfl := ret_1 hF
    subst hσ0
    subst hρ0
    exact x_iret rfl C hP hS dX11_cheese_167
set_option maxHeartbeats 4000000 in
set_option maxRecDepth 100000 in
theorem w_X11_cheese_152 {N : Nat} {K len : Nat → Nat} {a1 : Int32} {a2 : Int32} {rec_62 : SG → RG → Int32 → Int32 → Int32 → Int32 → Int32 → Int32 → Int32 → Option (Int32)} {p : Program} {e : Env} {s : State} {m : MethodId} {args : Array Value} {below : List Frame} {meth : Method} {c : Code} {σ0 : SG} {ρ0 : RG} {r : Int32} (C : Cx Y D N ad p s m args meth c cX11_cheese 10 (some .int) RX11 wsL_law) (hrec_62 : ∀ (σ : SG) (ρ : RG) (v1 : Int32) (v2 : Int32) (v3 : Int32) (v4 : Int32) (v5 : Int32) (v6 : Int32) (v7 : Int32) (H : Heap) (locs : List Loc) (ls : Array Slot), σ = σ0 → ρ = ρ0 → Lay N K len ρ → rec_62 σ ρ v1 v2 v3 v4 v5 v6 v7 = some r → WP Y D N ad K len σ ρ H → va_S (AA N ad s.heap.size) s.heap H locs → lv_has ls 10 [(0, .ref (ad 0)), (1, .int v1), (2, .int v2), (3, .int v3), (4, .int v4), (5, .int v5), (6, .int v6), (7, .int v7)] → W p l e rm_X11_cheese s m args below meth c H locs 0 0 (MQ below (QW Y D N ad K len σ0 ρ0 (AA N ad s.heap.size) (some (.int r))) args s 0 0 (AA N ad s.heap.size)) (F0 m 62 ls [])) {σ : SG} {ρ : RG} {v1 : Int32} {v2 : Int32} {v3 : Int32} {v4 : Int32} {v5 : Int32} {v7 : Int32} {k0 : Int32} {k1 : Int32} {H : Heap} {locs : List Loc} {ls : Array Slot} (hσ0 : σ = σ0) (hρ0 : ρ = ρ0) (hL : Lay N K len ρ) (hF : F_X11_cheese_152 N K len a1 a2 rec_62 σ ρ v1 v2 v3 v4 v5 v7 k0 k1 = some r) (hP : WP Y D N ad K len σ ρ H) (hS : va_S (AA N ad s.heap.size) s.heap H locs) (hl : lv_has ls 10 [(0, .ref (ad 0)), (1, .int v1), (2, .int v2), (3, .int v3), (4, .int v4), (5, .int v5), (7, .int v7)]) : W p l e rm_X11_cheese s m args below meth c H locs 0 0 (MQ below (QW Y D N ad K len σ0 ρ0 (AA N ad s.heap.size) (some (.int r))) args s 0 0 (AA N ad s.heap.size)) (F0 m 152 ls [.int k1, .int k0]) := by
  have hx := C.1.1
  have hb := C.1.2.1
  unfold F_X11_cheese_152 at hF
  refine lv_iadd hx hb dX11_cheese_152 ?_
  obtain ⟨x21, ex21, hF⟩ := nm_1 hF
  refine x_top ex21 ?_
  refine lv_istore (lv' := [(6, .int x21), (0, .ref (ad 0)), (1, .int v1), (2, .int v2), (3, .int v3), (4, .int v4), (5, .int v5), (7, .int v7)]) hx hb dX11_cheese_153 hl (by decide) rfl (fun ls hl => ?_)
  obtain ⟨x22, ex22, hF⟩ := nm_1 hF
  refine lv_iinc (v := x22) (lv' := [(7, .int x22), (6, .int x21), (0, .ref (ad 0)), (1, .int v1), (2, .int v2), (3, .int v3), (4, .int v4), (5, .int v5)]) hx hb dX11_cheese_155 hl (k := 7) rfl (by rw [ex22]; first | rfl | decide) (by decide) rfl (fun ls hl => ?_)
  refine lv_goto (tgt := 62) hx hb dX11_cheese_158 (by decide) ?_
  exact hrec_62 _ _ _ _ _ _ _ _ _ _ _ _ hσ0 hρ0 hL hF hP hS (lv_sub hl [2, 3, 4, 5, 6, 7, 1, 0] rfl)
set_option maxHeartbeats 4000000 in
set_option maxRecDepth 100000 in
theorem w_X11_cheese_62 {N : Nat} {K len : Nat → Nat} {a1 : Int32} {a2 : Int32} {p : Program} {e : Env} {s : State} {m : MethodId} {args : Array Value} {below : List Frame} {meth : Method} {c : Code} {σ0 : SG} {ρ0 : RG} {r : Int32} (C : Cx Y D N ad p s m args meth c cX11_cheese 10 (some .int) RX11 wsL_law) : ∀ (n : Nat) (σ : SG) (ρ : RG) (v1 : Int32) (v2 : Int32) (v3 : Int32) (v4 : Int32) (v5 : Int32) (v6 : Int32) (v7 : Int32) (H : Heap) (locs : List Loc) (ls : Array Slot), σ = σ0 → ρ = ρ0 → Lay N K len ρ → F_X11_cheese_62 N K len a1 a2 n σ ρ v1 v2 v3 v4 v5 v6 v7 = some r → WP Y D N ad K len σ ρ H → va_S (AA N ad s.heap.size) s.heap H locs → lv_has ls 10 [(0, .ref (ad 0)), (1, .int v1), (2, .int v2), (3, .int v3), (4, .int v4), (5, .int v5), (6, .int v6), (7, .int v7)] → W p l e rm_X11_cheese s m args below meth c H locs 0 0 (MQ below (QW Y D N ad K len σ0 ρ0 (AA N ad s.heap.size) (some (.int r))) args s 0 0 (AA N ad s.heap.size)) (F0 m 62 ls []) := by
  have hx := C.1.1
  have hb := C.1.2.1
  intro n
  induction n with
  | zero => intro σ ρ v1 v2 v3 v4 v5 v6 v7 H locs ls hσ0 hρ0 hL hF; cases hF
  | succ n ih =>
    intro σ ρ v1 v2 v3 v4 v5 v6 v7 H locs ls hσ0 hρ0 hL hF hP hS hl
    unfold F_X11_cheese_62 at hF
    refine lv_iload hx hb dX11_cheese_62 (lv_at hl 7 rfl) ?_
    refine lv_iload_n hx hb dX11_cheese_64 rfl (lv_at hl 1 rfl) ?_
    refine lv_icmp_ge (tgt := 161) hx hb dX11_cheese_65 (by decide) (fun c_8 => ?_) (fun c_8 => ?_) -- COND 8 by_cases c_8 : v1 ≤ v7
    · have hF := ite_t hF c_8
      exact w_X11_cheese_161 C hσ0 hρ0 hL hF hP hS (lv_sub hl [2, 3, 4, 5, 6] rfl)
    · have hF := ite_f hF c_8
      refine lv_aload_n hx hb dX11_cheese_68 rfl (lv_at hl 0 rfl) ?_
      refine get_11_0 C hP (lr_0 hL) (lk_0 hL) inlX11 mw_15 (lf_0_0 hL) dX11_cheese_69 ?_
      refine get_8_1 C hP (lr_1 hL) (lk_1 hL) inlX8 mw_352 dX11_cheese_72 ?_
      refine lv_if_le (tgt := 161) hx hb dX11_cheese_75 (by decide) (fun c_11 => ?_) (fun c_11 => ?_) -- COND 11 by_cases c_11 : (σ 1 1) ≤ 0
      · have hF := ite_t hF c_11
        exact w_X11_cheese_161 C hσ0 hρ0 hL hF hP hS (lv_sub hl [2, 3, 4, 5, 6] rfl)
      · have hF := ite_f hF c_11
        refine lv_iload hx hb dX11_cheese_78 (lv_at hl 7 rfl) ?_
        refine lv_aload_n hx hb dX11_cheese_80 rfl (lv_at hl 0 rfl) ?_
        refine get_11_0 C hP (lr_0 hL) (lk_0 hL) inlX11 mw_15 (lf_0_0 hL) dX11_cheese_81 ?_
        refine get_8_1 C hP (lr_1 hL) (lk_1 hL) inlX8 mw_352 dX11_cheese_84 ?_
        obtain ⟨g12, hF⟩ := gd_1 hF
        refine lv_irem hx hb dX11_cheese_87 (of_decide_eq_true g12) ?_
        obtain ⟨x13, ex13, hF⟩ := nm_1 hF
        refine x_top ex13 ?_
        refine lv_istore (lv' := [(8, .int x13), (0, .ref (ad 0)), (1, .int v1), (2, .int v2), (3, .int v3), (4, .int v4), (5, .int v5), (6, .int v6), (7, .int v7)]) hx hb dX11_cheese_88 hl (by decide) rfl (fun ls hl => ?_)
        refine lv_aload_n hx hb dX11_cheese_90 rfl (lv_at hl 1 rfl) ?_
        refine get_11_0 C hP (lr_0 hL) (lk_0 hL) inlX11 mw_15 (lf_0_0 hL) dX11_cheese_91 ?_
        refine lv_iload hx hb dX11_cheese_94 (lv_at hl 0 rfl) ?_
        obtain ⟨o14, hq14, hF⟩ := bn_1 hF
        refine x_callV (ci := 8) rfl rfl C hP hS (c_X8_cutterAt_1 hL hq14) (lr_1 hL) (lk_1 hL) (cwV 1 C.1.2.2.2.2 (gdV mw_428 mw_429 mw_430 mw_14 mw_431) rfl rfl rfl hd_X8_cutterAt ⟨Nat.le_of_ble_eq_true rfl, Nat.le_of_ble_eq_true rfl⟩) rfl rfl hl.1 (Nat.le_of_ble_eq_true rfl) ⟨Nat.zero_le _, Nat.zero_le _⟩ dX11_cheese_96 (fun H locs hP hS => ?_)
        rcases ho15 : o14 with _ | c15
        · have hF := oc_n hF ho15
          refine x_n ?_
          refine lv_astoreN (lv' := [(9, .null), (8, .int x13), (0, .ref (ad 0)), (1, .int v1), (2, .int v2), (3, .int v3), (4, .int v4), (5, .int v5), (6, .int v6), (7, .int v7)]) hx hb dX11_cheese_99 hl (by decide) rfl (fun ls hl => ?_)
          refine lv_aloadN hx hb dX11_cheese_101 (lv_at hl 0 rfl) ?_
          refine lv_ifnullN (tgt := 161) hx hb dX11_cheese_103 (by decide) ?_
          exact w_X11_cheese_161 C hσ0 hρ0 hL hF hP hS (lv_sub hl [4, 5, 6, 7, 8] rfl)
        · have hF := oc_s hF ho15
          refine x_s ?_
          obtain ⟨gc15, hF⟩ := gd_1 hF
          refine lv_astore (lv' := [(9, .ref (ad c15)), (8, .int x13), (0, .ref (ad 0)), (1, .int v1), (2, .int v2), (3, .int v3), (4, .int v4), (5, .int v5), (6, .int v6), (7, .int v7)]) hx hb dX11_cheese_99 hl (by decide) rfl (fun ls hl => ?_)
          refine lv_aload hx hb dX11_cheese_101 (lv_at hl 0 rfl) ?_
          refine lv_ifnull hx hb dX11_cheese_103 ?_
          refine lv_aload hx hb dX11_cheese_106 (lv_at hl 0 rfl) ?_
          refine get_ck_4 C hP (isC_r gc15) (isC_k gc15) mw_426 (Or.inl rfl) dX11_cheese_108 ?_
          refine lv_iload hx hb dX11_cheese_111 (lv_at hl 6 rfl) ?_
          refine lv_icmp_le (tgt := 119) hx hb dX11_cheese_113 (by decide) (fun c_16 => ?_) (fun c_16 => ?_) -- COND 16 by_cases c_16 : (σ c15 4) ≤ v4
          · have hF := ite_t hF c_16
            refine lv_iload hx hb dX11_cheese_119 (lv_at hl 6 rfl) ?_
            refine lv_aload hx hb dX11_cheese_121 (lv_at hl 0 rfl) ?_
            refine get_ck_4 C hP (isC_r gc15) (isC_k gc15) mw_426 (Or.inl rfl) dX11_cheese_123 ?_
            refine lv_isub hx hb dX11_cheese_126 ?_
            obtain ⟨x17, ex17, hF⟩ := nm_1 hF
            refine x_top ex17 ?_
            refine lv_istore (lv' := [(4, .int x17), (9, .ref (ad c15)), (8, .int x13), (0, .ref (ad 0)), (1, .int v1), (2, .int v2), (3, .int v3), (5, .int v5), (6, .int v6), (7, .int v7)]) hx hb dX11_cheese_127 hl (by decide) rfl (fun ls hl => ?_)
            obtain ⟨x18, ex18, hF⟩ := nm_1 hF
            refine lv_iinc (v := x18) (lv' := [(5, .int x18), (4, .int x17), (9, .ref (ad c15)), (8, .int x13), (0, .ref (ad 0)), (1, .int v1), (2, .int v2), (3, .int v3), (6, .int v6), (7, .int v7)]) hx hb dX11_cheese_129 hl (k := 7) rfl (by rw [ex18]; first | rfl | decide) (by decide) rfl (fun ls hl => ?_)
            refine lv_iload hx hb dX11_cheese_132 (lv_at hl 8 rfl) ?_
            refine lv_iload hx hb dX11_cheese_134 (lv_at hl 3 rfl) ?_
            refine lv_iload_n hx hb dX11_cheese_136 rfl (lv_at hl 6 rfl) ?_
            refine lv_bipush (v := 10) hx hb dX11_cheese_137 (by decide +kernel) ?_
            refine lv_isub hx hb dX11_cheese_139 ?_
            obtain ⟨x19, ex19, hF⟩ := nm_1 hF
            refine x_top ex19 ?_
            refine lv_icmp_ne (tgt := 151) hx hb dX11_cheese_140 (by decide) (fun c_20 => ?_) (fun c_20 => ?_) -- COND 20 rcases (Decidable.em (x13 = x19)).symm with c_20 | c_20
            · have hF := ite_f hF c_20
              refine lv_iconst (v := 0) hx hb dX11_cheese_151 (by decide) ?_
              exact w_X11_cheese_152 C ih hσ0 hρ0 hL hF hP hS (lv_sub hl [4, 5, 6, 7, 1, 0, 9] rfl)
            · have hF := ite_t hF c_20
              refine lv_aload hx hb dX11_cheese_143 (lv_at hl 2 rfl) ?_
              refine get_ck_4 C hP (isC_r gc15) (isC_k gc15) mw_426 (Or.inl rfl) dX11_cheese_145 ?_
              refine lv_goto (tgt := 152) hx hb dX11_cheese_148 (by decide) ?_
              exact w_X11_cheese_152 C ih hσ0 hρ0 hL hF hP hS (lv_sub hl [4, 5, 6, 7, 1, 0, 9] rfl)
          · have hF := ite_f hF c_16
            refine lv_goto (tgt := 161) hx hb dX11_cheese_116 (by decide) ?_
            exact w_X11_cheese_161 C hσ0 hρ0 hL hF hP hS (lv_sub hl [4, 5, 6, 7, 8] rfl)
set_option maxHeartbeats 4000000 in
set_option maxRecDepth 100000 in
theorem w_X11_cheese_35 {N : Nat} {K len : Nat → Nat} {a1 : Int32} {a2 : Int32} {p : Program} {e : Env} {s : State} {m : MethodId} {args : Array Value} {below : List Frame} {meth : Method} {c : Code} {σ0 : SG} {ρ0 : RG} {r : Int32} (C : Cx Y D N ad p s m args meth c cX11_cheese 10 (some .int) RX11 wsL_law) {σ : SG} {ρ : RG} {v1 : Int32} {v2 : Int32} {v3 : Int32} {H : Heap} {locs : List Loc} {ls : Array Slot} (hσ0 : σ = σ0) (hρ0 : ρ = ρ0) (hL : Lay N K len ρ) (hF : F_X11_cheese_35 N K len a1 a2 σ ρ v1 v2 v3 = some r) (hP : WP Y D N ad K len σ ρ H) (hS : va_S (AA N ad s.heap.size) s.heap H locs) (hl : lv_has ls 10 [(0, .ref (ad 0)), (1, .int v1), (2, .int v2), (3, .int v3)]) : W p l e rm_X11_cheese s m args below meth c H locs 0 0 (MQ below (QW Y D N ad K len σ0 ρ0 (AA N ad s.heap.size) (some (.int r))) args s 0 0 (AA N ad s.heap.size)) (F0 m 35 ls []) := by
  have hx := C.1.1
  have hb := C.1.2.1
  unfold F_X11_cheese_35 at hF
  refine lv_iload_n hx hb dX11_cheese_35 rfl (lv_at hl 1 rfl) ?_
  refine lv_bipush (v := 12) hx hb dX11_cheese_36 (by decide +kernel) ?_
  refine lv_sipush (v := 360) hx hb dX11_cheese_38 (by decide +kernel) ?_
  obtain ⟨r6, hq6, hF⟩ := bn_1 hF
  refine x_callS C hP hS (c_X11_isWithin hL hq6) (va_cwS 3 C.1.2.2.2.2 (gdS mw_97 mw_98 mw_2 mw_99) rfl rfl rfl hd_X11_isWithin.2 ⟨Nat.le_of_ble_eq_true rfl, Nat.le_of_ble_eq_true rfl⟩) rfl rfl hl.1 (Nat.le_of_ble_eq_true rfl) ⟨Nat.zero_le _, Nat.zero_le _⟩ dX11_cheese_41 (fun H locs hP hS => ?_)
  refine lv_if_ne (tgt := 50) hx hb dX11_cheese_44 (by decide) (fun c_7 => ?_) (fun c_7 => ?_) -- COND 7 rcases (Decidable.em (r6 = 0)).symm with c_7 | c_7
  · have hF := ite_f hF c_7
    refine lv_iload_n hx hb dX11_cheese_50 rfl (lv_at hl 1 rfl) ?_
    refine lv_istore (lv' := [(4, .int v1), (0, .ref (ad 0)), (1, .int v1), (2, .int v2), (3, .int v3)]) hx hb dX11_cheese_51 hl (by decide) rfl (fun ls hl => ?_)
    refine lv_iconst (v := 0) hx hb dX11_cheese_53 (by decide) ?_
    refine lv_istore (lv' := [(5, .int (0 : Int32)), (4, .int v1), (0, .ref (ad 0)), (1, .int v1), (2, .int v2), (3, .int v3)]) hx hb dX11_cheese_54 hl (by decide) rfl (fun ls hl => ?_)
    refine lv_iconst (v := 0) hx hb dX11_cheese_56 (by decide) ?_
    refine lv_istore (lv' := [(6, .int (0 : Int32)), (5, .int (0 : Int32)), (4, .int v1), (0, .ref (ad 0)), (1, .int v1), (2, .int v2), (3, .int v3)]) hx hb dX11_cheese_57 hl (by decide) rfl (fun ls hl => ?_)
    refine lv_iconst (v := 0) hx hb dX11_cheese_59 (by decide) ?_
    refine lv_istore (lv' := [(7, .int (0 : Int32)), (6, .int (0 : Int32)), (5, .int (0 : Int32)), (4, .int v1), (0, .ref (ad 0)), (1, .int v1), (2, .int v2), (3, .int v3)]) hx hb dX11_cheese_60 hl (by decide) rfl (fun ls hl => ?_)
    exact w_X11_cheese_62 C 1024 _ _ _ _ _ _ _ _ _ _ _ _ hσ0 hρ0 hL hF hP hS (lv_sub hl [4, 5, 6, 7, 3, 2, 1, 0] rfl)
  · have hF := ite_t hF c_7
    refine lv_bipush (v := -2) hx hb dX11_cheese_47 (by decide +kernel) ?_
    obtain rfl := ret_1 hF
    subst hσ0
    subst hρ0
    exact x_iret rfl C hP hS dX11_cheese_49
set_option maxHeartbeats 4000000 in
set_option maxRecDepth 100000 in
theorem w_X11_cheese_19 {N : Nat} {K len : Nat → Nat} {a1 : Int32} {a2 : Int32} {p : Program} {e : Env} {s : State} {m : MethodId} {args : Array Value} {below : List Frame} {meth : Method} {c : Code} {σ0 : SG} {ρ0 : RG} {r : Int32} (C : Cx Y D N ad p s m args meth c cX11_cheese 10 (some .int) RX11 wsL_law) {σ : SG} {ρ : RG} {v1 : Int32} {v2 : Int32} {k0 : Int32} {H : Heap} {locs : List Loc} {ls : Array Slot} (hσ0 : σ = σ0) (hρ0 : ρ = ρ0) (hL : Lay N K len ρ) (hF : F_X11_cheese_19 N K len a1 a2 σ ρ v1 v2 k0 = some r) (hP : WP Y D N ad K len σ ρ H) (hS : va_S (AA N ad s.heap.size) s.heap H locs) (hl : lv_has ls 10 [(0, .ref (ad 0)), (1, .int v1), (2, .int v2)]) : W p l e rm_X11_cheese s m args below meth c H locs 0 0 (MQ below (QW Y D N ad K len σ0 ρ0 (AA N ad s.heap.size) (some (.int r))) args s 0 0 (AA N ad s.heap.size)) (F0 m 19 ls [.int k0]) := by
  have hx := C.1.1
  have hb := C.1.2.1
  unfold F_X11_cheese_19 at hF
  refine lv_istore_n (lv' := [(3, .int k0), (0, .ref (ad 0)), (1, .int v1), (2, .int v2)]) hx hb dX11_cheese_19 rfl hl (by decide) rfl (fun ls hl => ?_)
  refine lv_iload_n hx hb dX11_cheese_20 rfl (lv_at hl 3 rfl) ?_
  refine lv_iconst (v := 0) hx hb dX11_cheese_21 (by decide) ?_
  refine lv_iconst (v := 1) hx hb dX11_cheese_22 (by decide) ?_
  obtain ⟨r4, hq4, hF⟩ := bn_1 hF
  refine x_callS C hP hS (c_X11_isWithin hL hq4) (va_cwS 3 C.1.2.2.2.2 (gdS mw_97 mw_98 mw_2 mw_99) rfl rfl rfl hd_X11_isWithin.2 ⟨Nat.le_of_ble_eq_true rfl, Nat.le_of_ble_eq_true rfl⟩) rfl rfl hl.1 (Nat.le_of_ble_eq_true rfl) ⟨Nat.zero_le _, Nat.zero_le _⟩ dX11_cheese_23 (fun H locs hP hS => ?_)
  refine lv_if_ne (tgt := 35) hx hb dX11_cheese_26 (by decide) (fun c_5 => ?_) (fun c_5 => ?_) -- COND 5 rcases (Decidable.em (r4 = 0)).symm with c_5 | c_5
  · have hF := ite_f hF c_5
    exact w_X11_cheese_35 C hσ0 hρ0 hL hF hP hS (lv_sub hl [1, 2, 3, 0] rfl)
  · have hF := ite_t hF c_5
    refine lv_iload_n hx hb dX11_cheese_29 rfl (lv_at hl 0 rfl) ?_
    refine lv_if_ne (tgt := 35) hx hb dX11_cheese_30 (by decide) (fun c_23 => ?_) (fun c_23 => ?_) -- COND 23 rcases (Decidable.em (k0 = 0)).symm with c_23 | c_23
    · have hF := ite_f hF c_23
      exact w_X11_cheese_35 C hσ0 hρ0 hL hF hP hS (lv_sub hl [1, 2, 3, 0] rfl)
    · have hF := ite_t hF c_23
      refine lv_iconst (v := -1) hx hb dX11_cheese_33 (by decide) ?_
      obtain rfl := ret_1 hF
      subst hσ0
      subst hρ0
      exact x_iret rfl C hP hS dX11_cheese_34
set_option maxHeartbeats 4000000 in
set_option maxRecDepth 100000 in
theorem w_X11_cheese_0 {N : Nat} {K len : Nat → Nat} {a1 : Int32} {a2 : Int32} {p : Program} {e : Env} {s : State} {m : MethodId} {args : Array Value} {below : List Frame} {meth : Method} {c : Code} {σ0 : SG} {ρ0 : RG} {r : Int32} (C : Cx Y D N ad p s m args meth c cX11_cheese 10 (some .int) RX11 wsL_law) {σ : SG} {ρ : RG} {H : Heap} {locs : List Loc} {ls : Array Slot} (hσ0 : σ = σ0) (hρ0 : ρ = ρ0) (hL : Lay N K len ρ) (hF : F_X11_cheese N K len a1 a2 σ ρ = some r) (hP : WP Y D N ad K len σ ρ H) (hS : va_S (AA N ad s.heap.size) s.heap H locs) (hl : lv_has ls 10 [(0, .ref (ad 0)), (1, .int a1), (2, .int a2)]) : W p l e rm_X11_cheese s m args below meth c H locs 0 0 (MQ below (QW Y D N ad K len σ0 ρ0 (AA N ad s.heap.size) (some (.int r))) args s 0 0 (AA N ad s.heap.size)) (F0 m 0 ls []) := by
  have hx := C.1.1
  have hb := C.1.2.1
  unfold F_X11_cheese at hF
  refine lv_aload_n hx hb dX11_cheese_0 rfl (lv_at hl 0 rfl) ?_
  refine get_11_0 C hP (lr_0 hL) (lk_0 hL) inlX11 mw_15 (lf_0_0 hL) dX11_cheese_1 ?_
  refine lv_iload_n hx hb dX11_cheese_4 rfl (lv_at hl 2 rfl) ?_
  refine lv_bipush (v := 10) hx hb dX11_cheese_5 (by decide +kernel) ?_
  refine lv_isub hx hb dX11_cheese_7 ?_
  obtain ⟨x1, ex1, hF⟩ := nm_1 hF
  refine x_top ex1 ?_
  obtain ⟨o2, hq2, hF⟩ := bn_1 hF
  refine x_callV (ci := 8) rfl rfl C hP hS (c_X8_cutterAt_1 hL hq2) (lr_1 hL) (lk_1 hL) (cwV 1 C.1.2.2.2.2 (gdV mw_428 mw_429 mw_430 mw_14 mw_431) rfl rfl rfl hd_X8_cutterAt ⟨Nat.le_of_ble_eq_true rfl, Nat.le_of_ble_eq_true rfl⟩) rfl rfl hl.1 (Nat.le_of_ble_eq_true rfl) ⟨Nat.zero_le _, Nat.zero_le _⟩ dX11_cheese_8 (fun H locs hP hS => ?_)
  rcases ho3 : o2 with _ | c3
  · have hF := oc_n hF ho3
    refine x_n ?_
    refine lv_ifnullN (tgt := 18) hx hb dX11_cheese_11 (by decide) ?_
    refine lv_iconst (v := 0) hx hb dX11_cheese_18 (by decide) ?_
    exact w_X11_cheese_19 C hσ0 hρ0 hL hF hP hS (lv_sub hl [0, 1, 2] rfl)
  · have hF := oc_s hF ho3
    refine x_s ?_
    obtain ⟨gc3, hF⟩ := gd_1 hF
    refine lv_ifnull hx hb dX11_cheese_11 ?_
    refine lv_iconst (v := 1) hx hb dX11_cheese_14 (by decide) ?_
    refine lv_goto (tgt := 19) hx hb dX11_cheese_15 (by decide) ?_
    exact w_X11_cheese_19 C hσ0 hρ0 hL hF hP hS (lv_sub hl [0, 1, 2] rfl)
set_option maxHeartbeats 4000000 in
set_option maxRecDepth 100000 in
theorem c_X11_cheese {N : Nat} {K len : Nat → Nat} {a1 : Int32} {a2 : Int32} {r : Int32} {σ : SG} {ρ : RG} (hL : Lay N K len ρ) (hF : F_X11_cheese N K len a1 a2 σ ρ = some r) : MT l Y D N ad K len yX11_cheese (Cond.code yX11_cheese cX11_cheese 10 (some .int) :: wsL_law) rm_X11_cheese [.ref (ad 0), .int a1, .int a2] σ ρ (some (.int r)) σ ρ := by
  refine mt_of (cc := cX11_cheese) (nL := 10) (ret := (some .int)) (by decide) (Nat.le_of_ble_eq_true rfl) ?_
  intro p e s m args below meth c ls C hnm hP hS hl
  exact w_X11_cheese_0 C rfl rfl hL hF hP hS hl

/-! CutCrooked.public int who();  -/
theorem dX11_who_0 : decode cX11_who 0 = .ok (.iconst 0, 1) := by decide +kernel
theorem dX11_who_1 : decode cX11_who 1 = .ok (.istore_n 1, 1) := by decide +kernel
theorem dX11_who_2 : decode cX11_who 2 = .ok (.aload_n 0, 1) := by decide +kernel
theorem dX11_who_3 : decode cX11_who 3 = .ok (.invokevirtual 176, 3) := by decide +kernel
theorem dX11_who_6 : decode cX11_who 6 = .ok (.iconst 0, 1) := by decide +kernel
theorem dX11_who_7 : decode cX11_who 7 = .ok (.istore_n 2, 1) := by decide +kernel
theorem dX11_who_8 : decode cX11_who 8 = .ok (.iload_n 2, 1) := by decide +kernel
theorem dX11_who_9 : decode cX11_who 9 = .ok (.aload_n 0, 1) := by decide +kernel
theorem dX11_who_10 : decode cX11_who 10 = .ok (.getfield 12, 3) := by decide +kernel
theorem dX11_who_13 : decode cX11_who 13 = .ok (.getfield 89, 3) := by decide +kernel
theorem dX11_who_16 : decode cX11_who 16 = .ok (.if_icmp .ge 70, 3) := by decide +kernel
theorem dX11_who_19 : decode cX11_who 19 = .ok (.aload_n 0, 1) := by decide +kernel
theorem dX11_who_20 : decode cX11_who 20 = .ok (.iconst 0, 1) := by decide +kernel
theorem dX11_who_21 : decode cX11_who 21 = .ok (.aload_n 0, 1) := by decide +kernel
theorem dX11_who_22 : decode cX11_who 22 = .ok (.getfield 12, 3) := by decide +kernel
theorem dX11_who_25 : decode cX11_who 25 = .ok (.iload_n 2, 1) := by decide +kernel
theorem dX11_who_26 : decode cX11_who 26 = .ok (.invokevirtual 100, 3) := by decide +kernel
theorem dX11_who_29 : decode cX11_who 29 = .ok (.iconst 0, 1) := by decide +kernel
theorem dX11_who_30 : decode cX11_who 30 = .ok (.invokevirtual 179, 3) := by decide +kernel
theorem dX11_who_33 : decode cX11_who 33 = .ok (.ifCond .eq 47, 3) := by decide +kernel
theorem dX11_who_36 : decode cX11_who 36 = .ok (.aload_n 0, 1) := by decide +kernel
theorem dX11_who_37 : decode cX11_who 37 = .ok (.getfield 37, 3) := by decide +kernel
theorem dX11_who_40 : decode cX11_who 40 = .ok (.iconst 1, 1) := by decide +kernel
theorem dX11_who_41 : decode cX11_who 41 = .ok (.aaload, 1) := by decide +kernel
theorem dX11_who_42 : decode cX11_who 42 = .ok (.getfield 141, 3) := by decide +kernel
theorem dX11_who_45 : decode cX11_who 45 = .ok (.aload_n 0, 1) := by decide +kernel
theorem dX11_who_46 : decode cX11_who 46 = .ok (.getfield 12, 3) := by decide +kernel
theorem dX11_who_49 : decode cX11_who 49 = .ok (.getfield 236, 3) := by decide +kernel
theorem dX11_who_52 : decode cX11_who 52 = .ok (.if_icmp .ne 28, 3) := by decide +kernel
theorem dX11_who_55 : decode cX11_who 55 = .ok (.aload_n 0, 1) := by decide +kernel
theorem dX11_who_56 : decode cX11_who 56 = .ok (.getfield 37, 3) := by decide +kernel
theorem dX11_who_59 : decode cX11_who 59 = .ok (.iconst 1, 1) := by decide +kernel
theorem dX11_who_60 : decode cX11_who 60 = .ok (.aaload, 1) := by decide +kernel
theorem dX11_who_61 : decode cX11_who 61 = .ok (.getfield 144, 3) := by decide +kernel
theorem dX11_who_64 : decode cX11_who 64 = .ok (.aload_n 0, 1) := by decide +kernel
theorem dX11_who_65 : decode cX11_who 65 = .ok (.getfield 12, 3) := by decide +kernel
theorem dX11_who_68 : decode cX11_who 68 = .ok (.getfield 239, 3) := by decide +kernel
theorem dX11_who_71 : decode cX11_who 71 = .ok (.if_icmp .ne 9, 3) := by decide +kernel
theorem dX11_who_74 : decode cX11_who 74 = .ok (.iload_n 1, 1) := by decide +kernel
theorem dX11_who_75 : decode cX11_who 75 = .ok (.iconst 1, 1) := by decide +kernel
theorem dX11_who_76 : decode cX11_who 76 = .ok (.iload_n 2, 1) := by decide +kernel
theorem dX11_who_77 : decode cX11_who 77 = .ok (.ishl, 1) := by decide +kernel
theorem dX11_who_78 : decode cX11_who 78 = .ok (.ior, 1) := by decide +kernel
theorem dX11_who_79 : decode cX11_who 79 = .ok (.istore_n 1, 1) := by decide +kernel
theorem dX11_who_80 : decode cX11_who 80 = .ok (.iinc 2 1, 3) := by decide +kernel
theorem dX11_who_83 : decode cX11_who 83 = .ok (.goto (-75), 3) := by decide +kernel
theorem dX11_who_86 : decode cX11_who 86 = .ok (.iload_n 1, 1) := by decide +kernel
theorem dX11_who_87 : decode cX11_who 87 = .ok (.ireturn, 1) := by decide +kernel
theorem hd_X11_who : yX11_who.cls = RX11 ∧ yX11_who.cls ≠ "java/lang/invoke/MethodHandle" ∧ yX11_who.cls ≠ "java/lang/invoke/VarHandle" ∧ (parseMethodDescriptor yX11_who.desc).map (fun d => d.parameters.length) = some 0 := by decide +kernel
abbrev rm_X11_who : Room := { frames := 6, cells := 0, slots := 0, locals := 152 }
def F_X11_who_80 (N : Nat) (K len : Nat → Nat) (rec_8 : SG → RG → Int32 → Int32 → Option (Int32 × SG)) (σ : SG) (ρ : RG) (v1 : Int32) (v2 : Int32) : Option (Int32 × SG) :=
  nm (v2 + (1 : Int32)) fun x7 =>
  rec_8 σ ρ v1 x7
def F_X11_who_8 (N : Nat) (K len : Nat → Nat) : Nat → SG → RG → Int32 → Int32 → Option (Int32 × SG)
  | 0 => fun _ _ _ _ => none
  | n + 1 => fun σ ρ v1 v2 =>
  if (σ 1 1) ≤ v2 then
    some (v1, σ)
  else
    bn (F_X8_cutterAt_1 v2 σ ρ) fun o3 =>
    oc o3
     (
      bn (F_X11_tryStep_n (0 : Int32) (0 : Int32) σ ρ) fun r5 =>
      if r5 = 0 then
        F_X11_who_80 N K len (F_X11_who_8 N K len n) σ ρ v1 v2
      else
        if (σ 42 2) = (σ 1 7) then
          if (σ 42 3) = (σ 1 8) then
            nm ((1 : Int32) <<< (v2 &&& 31)) fun x10 =>
            nm (v1 ||| x10) fun x11 =>
            F_X11_who_80 N K len (F_X11_who_8 N K len n) σ ρ x11 v2
          else
            F_X11_who_80 N K len (F_X11_who_8 N K len n) σ ρ v1 v2
        else
          F_X11_who_80 N K len (F_X11_who_8 N K len n) σ ρ v1 v2)
     (fun c4 =>
      gd (isC N K c4) <|
      bn2 (F_X11_tryStep N K len (0 : Int32) c4 (0 : Int32) σ ρ) fun r12 σ12 =>
      if r12 = 0 then
        F_X11_who_80 N K len (F_X11_who_8 N K len n) σ12 ρ v1 v2
      else
        if (σ12 42 2) = (σ12 1 7) then
          if (σ12 42 3) = (σ12 1 8) then
            nm ((1 : Int32) <<< (v2 &&& 31)) fun x16 =>
            nm (v1 ||| x16) fun x17 =>
            F_X11_who_80 N K len (F_X11_who_8 N K len n) σ12 ρ x17 v2
          else
            F_X11_who_80 N K len (F_X11_who_8 N K len n) σ12 ρ v1 v2
        else
          F_X11_who_80 N K len (F_X11_who_8 N K len n) σ12 ρ v1 v2)
def F_X11_who (N : Nat) (K len : Nat → Nat) (σ : SG) (ρ : RG) : Option (Int32 × SG) :=
  bn (F_X11_startSteps σ ρ) fun σ1 =>
  F_X11_who_8 N K len 1024 σ1 ρ (0 : Int32) (0 : Int32)
set_option maxHeartbeats 4000000 in
set_option maxRecDepth 100000 in
theorem w_X11_who_80 {N : Nat} {K len : Nat → Nat} {rec_8 : SG → RG → Int32 → Int32 → Option (Int32 × SG)} {p : Program} {e : Env} {s : State} {m : MethodId} {args : Array Value} {below : List Frame} {meth : Method} {c : Code} {ρ0 : RG} {r : Int32} {σ1 : SG} (C : Cx Y D N ad p s m args meth c cX11_who 3 (some .int) RX11 wsL_law) (hrec_8 : ∀ (σ : SG) (ρ : RG) (v1 : Int32) (v2 : Int32) (H : Heap) (locs : List Loc) (ls : Array Slot), ρ = ρ0 → Lay N K len ρ → rec_8 σ ρ v1 v2 = some (r, σ1) → WP Y D N ad K len σ ρ H → va_S (AA N ad s.heap.size) s.heap H locs → lv_has ls 3 [(0, .ref (ad 0)), (1, .int v1), (2, .int v2)] → W p l e rm_X11_who s m args below meth c H locs 0 0 (MQ below (QW Y D N ad K len σ1 ρ0 (AA N ad s.heap.size) (some (.int r))) args s 0 0 (AA N ad s.heap.size)) (F0 m 8 ls [])) {σ : SG} {ρ : RG} {v1 : Int32} {v2 : Int32} {H : Heap} {locs : List Loc} {ls : Array Slot} (hρ0 : ρ = ρ0) (hL : Lay N K len ρ) (hF : F_X11_who_80 N K len rec_8 σ ρ v1 v2 = some (r, σ1)) (hP : WP Y D N ad K len σ ρ H) (hS : va_S (AA N ad s.heap.size) s.heap H locs) (hl : lv_has ls 3 [(0, .ref (ad 0)), (1, .int v1), (2, .int v2)]) : W p l e rm_X11_who s m args below meth c H locs 0 0 (MQ below (QW Y D N ad K len σ1 ρ0 (AA N ad s.heap.size) (some (.int r))) args s 0 0 (AA N ad s.heap.size)) (F0 m 80 ls []) := by
  have hx := C.1.1
  have hb := C.1.2.1
  unfold F_X11_who_80 at hF
  obtain ⟨x7, ex7, hF⟩ := nm_1 hF
  refine lv_iinc (v := x7) (lv' := [(2, .int x7), (0, .ref (ad 0)), (1, .int v1)]) hx hb dX11_who_80 hl (k := 2) rfl (by rw [ex7]; first | rfl | decide) (by decide) rfl (fun ls hl => ?_)
  refine lv_goto (tgt := 8) hx hb dX11_who_83 (by decide) ?_
  exact hrec_8 _ _ _ _ _ _ _ hρ0 hL hF hP hS (lv_sub hl [1, 2, 0] rfl)
set_option maxHeartbeats 4000000 in
set_option maxRecDepth 100000 in
theorem w_X11_who_8 {N : Nat} {K len : Nat → Nat} {p : Program} {e : Env} {s : State} {m : MethodId} {args : Array Value} {below : List Frame} {meth : Method} {c : Code} {ρ0 : RG} {r : Int32} {σ1 : SG} (C : Cx Y D N ad p s m args meth c cX11_who 3 (some .int) RX11 wsL_law) : ∀ (n : Nat) (σ : SG) (ρ : RG) (v1 : Int32) (v2 : Int32) (H : Heap) (locs : List Loc) (ls : Array Slot), ρ = ρ0 → Lay N K len ρ → F_X11_who_8 N K len n σ ρ v1 v2 = some (r, σ1) → WP Y D N ad K len σ ρ H → va_S (AA N ad s.heap.size) s.heap H locs → lv_has ls 3 [(0, .ref (ad 0)), (1, .int v1), (2, .int v2)] → W p l e rm_X11_who s m args below meth c H locs 0 0 (MQ below (QW Y D N ad K len σ1 ρ0 (AA N ad s.heap.size) (some (.int r))) args s 0 0 (AA N ad s.heap.size)) (F0 m 8 ls []) := by
  have hx := C.1.1
  have hb := C.1.2.1
  intro n
  induction n with
  | zero => intro σ ρ v1 v2 H locs ls hρ0 hL hF; cases hF
  | succ n ih =>
    intro σ ρ v1 v2 H locs ls hρ0 hL hF hP hS hl
    unfold F_X11_who_8 at hF
    refine lv_iload_n hx hb dX11_who_8 rfl (lv_at hl 2 rfl) ?_
    refine lv_aload_n hx hb dX11_who_9 rfl (lv_at hl 0 rfl) ?_
    refine get_11_0 C hP (lr_0 hL) (lk_0 hL) inlX11 mw_15 (lf_0_0 hL) dX11_who_10 ?_
    refine get_8_1 C hP (lr_1 hL) (lk_1 hL) inlX8 mw_352 dX11_who_13 ?_
    refine lv_icmp_ge (tgt := 86) hx hb dX11_who_16 (by decide) (fun c_2 => ?_) (fun c_2 => ?_) -- COND 2 by_cases c_2 : (σ 1 1) ≤ v2
    · have hF := ite_t hF c_2
      refine lv_iload_n hx hb dX11_who_86 rfl (lv_at hl 1 rfl) ?_
      obtain ⟨rfl, rfl⟩ := ret_2 hF
      subst hρ0
      exact x_iret rfl C hP hS dX11_who_87
    · have hF := ite_f hF c_2
      refine lv_aload_n hx hb dX11_who_19 rfl (lv_at hl 0 rfl) ?_
      refine lv_iconst (v := 0) hx hb dX11_who_20 (by decide) ?_
      refine lv_aload_n hx hb dX11_who_21 rfl (lv_at hl 0 rfl) ?_
      refine get_11_0 C hP (lr_0 hL) (lk_0 hL) inlX11 mw_15 (lf_0_0 hL) dX11_who_22 ?_
      refine lv_iload_n hx hb dX11_who_25 rfl (lv_at hl 2 rfl) ?_
      obtain ⟨o3, hq3, hF⟩ := bn_1 hF
      refine x_callV (ci := 8) rfl rfl C hP hS (c_X8_cutterAt_1 hL hq3) (lr_1 hL) (lk_1 hL) (cwV 1 C.1.2.2.2.2 (gdV mw_428 mw_429 mw_430 mw_14 mw_431) rfl rfl rfl hd_X8_cutterAt ⟨Nat.le_of_ble_eq_true rfl, Nat.le_of_ble_eq_true rfl⟩) rfl rfl hl.1 (Nat.le_of_ble_eq_true rfl) ⟨Nat.zero_le _, Nat.zero_le _⟩ dX11_who_26 (fun H locs hP hS => ?_)
      rcases ho4 : o3 with _ | c4
      · have hF := oc_n hF ho4
        refine x_n ?_
        refine lv_iconst (v := 0) hx hb dX11_who_29 (by decide) ?_
        obtain ⟨r5, hq5, hF⟩ := bn_1 hF
        refine x_callV (ci := 11) rfl rfl C hP hS (c_X11_tryStep_n hL hq5) (lr_0 hL) (lk_0 hL) (cwV 3 C.1.2.2.2.2 (gdV mw_724 mw_725 mw_726 mw_2 mw_727) rfl rfl rfl hd_X11_tryStep ⟨Nat.le_of_ble_eq_true rfl, Nat.le_of_ble_eq_true rfl⟩) rfl rfl hl.1 (Nat.le_of_ble_eq_true rfl) ⟨Nat.zero_le _, Nat.zero_le _⟩ dX11_who_30 (fun H locs hP hS => ?_)
        refine lv_if_eq (tgt := 80) hx hb dX11_who_33 (by decide) (fun c_6 => ?_) (fun c_6 => ?_) -- COND 6 by_cases c_6 : r5 = 0
        · have hF := ite_t hF c_6
          exact w_X11_who_80 C ih hρ0 hL hF hP hS (lv_sub hl [0, 1, 2] rfl)
        · have hF := ite_f hF c_6
          refine lv_aload_n hx hb dX11_who_36 rfl (lv_at hl 0 rfl) ?_
          refine get_11_5 C hP (lr_0 hL) (lk_0 hL) inlX11 mw_26 (lf_0_5 hL) dX11_who_37 ?_
          refine lv_iconst (v := 1) hx hb dX11_who_40 (by decide) ?_
          refine x_aald (v := .ref (ad 42)) C hP (lr_34 hL) (lk_34 hL) (Or.inr ⟨rfl, rfl, rfl⟩) (ln_34 hL) (by decide +kernel) (by rw [cl_1, (lf_34_1 hL)]; rfl) dX11_who_41 ?_
          refine get_3_2 C hP (lr_42 hL) (lk_42 hL) inlX3 mw_500 dX11_who_42 ?_
          refine lv_aload_n hx hb dX11_who_45 rfl (lv_at hl 0 rfl) ?_
          refine get_11_0 C hP (lr_0 hL) (lk_0 hL) inlX11 mw_15 (lf_0_0 hL) dX11_who_46 ?_
          refine get_8_7 C hP (lr_1 hL) (lk_1 hL) inlX8 mw_899 dX11_who_49 ?_
          refine lv_icmp_ne (tgt := 80) hx hb dX11_who_52 (by decide) (fun c_8 => ?_) (fun c_8 => ?_) -- COND 8 rcases (Decidable.em ((σ 42 2) = (σ 1 7))).symm with c_8 | c_8
          · have hF := ite_f hF c_8
            exact w_X11_who_80 C ih hρ0 hL hF hP hS (lv_sub hl [0, 1, 2] rfl)
          · have hF := ite_t hF c_8
            refine lv_aload_n hx hb dX11_who_55 rfl (lv_at hl 0 rfl) ?_
            refine get_11_5 C hP (lr_0 hL) (lk_0 hL) inlX11 mw_26 (lf_0_5 hL) dX11_who_56 ?_
            refine lv_iconst (v := 1) hx hb dX11_who_59 (by decide) ?_
            refine x_aald (v := .ref (ad 42)) C hP (lr_34 hL) (lk_34 hL) (Or.inr ⟨rfl, rfl, rfl⟩) (ln_34 hL) (by decide +kernel) (by rw [cl_1, (lf_34_1 hL)]; rfl) dX11_who_60 ?_
            refine get_3_3 C hP (lr_42 hL) (lk_42 hL) inlX3 mw_501 dX11_who_61 ?_
            refine lv_aload_n hx hb dX11_who_64 rfl (lv_at hl 0 rfl) ?_
            refine get_11_0 C hP (lr_0 hL) (lk_0 hL) inlX11 mw_15 (lf_0_0 hL) dX11_who_65 ?_
            refine get_8_8 C hP (lr_1 hL) (lk_1 hL) inlX8 mw_900 dX11_who_68 ?_
            refine lv_icmp_ne (tgt := 80) hx hb dX11_who_71 (by decide) (fun c_9 => ?_) (fun c_9 => ?_) -- COND 9 rcases (Decidable.em ((σ 42 3) = (σ 1 8))).symm with c_9 | c_9
            · have hF := ite_f hF c_9
              exact w_X11_who_80 C ih hρ0 hL hF hP hS (lv_sub hl [0, 1, 2] rfl)
            · have hF := ite_t hF c_9
              refine lv_iload_n hx hb dX11_who_74 rfl (lv_at hl 1 rfl) ?_
              refine lv_iconst (v := 1) hx hb dX11_who_75 (by decide) ?_
              refine lv_iload_n hx hb dX11_who_76 rfl (lv_at hl 2 rfl) ?_
              refine lv_ishl hx hb dX11_who_77 ?_
              obtain ⟨x10, ex10, hF⟩ := nm_1 hF
              refine x_top ex10 ?_
              refine lv_ior hx hb dX11_who_78 ?_
              obtain ⟨x11, ex11, hF⟩ := nm_1 hF
              refine x_top ex11 ?_
              refine lv_istore_n (lv' := [(1, .int x11), (0, .ref (ad 0)), (2, .int v2)]) hx hb dX11_who_79 rfl hl (by decide) rfl (fun ls hl => ?_)
              exact w_X11_who_80 C ih hρ0 hL hF hP hS (lv_sub hl [1, 0, 2] rfl)
      · have hF := oc_s hF ho4
        refine x_s ?_
        obtain ⟨gc4, hF⟩ := gd_1 hF
        refine lv_iconst (v := 0) hx hb dX11_who_29 (by decide) ?_
        obtain ⟨r12, σ12, hq12, hF⟩ := bn2_1 hF
        refine x_callV (ci := 11) rfl rfl C hP hS (c_X11_tryStep hL gc4 hq12) (lr_0 hL) (lk_0 hL) (cwV 3 C.1.2.2.2.2 (gdV mw_724 mw_725 mw_726 mw_2 mw_727) rfl rfl rfl hd_X11_tryStep ⟨Nat.le_of_ble_eq_true rfl, Nat.le_of_ble_eq_true rfl⟩) rfl rfl hl.1 (Nat.le_of_ble_eq_true rfl) ⟨Nat.zero_le _, Nat.zero_le _⟩ dX11_who_30 (fun H locs hP hS => ?_)
        refine lv_if_eq (tgt := 80) hx hb dX11_who_33 (by decide) (fun c_13 => ?_) (fun c_13 => ?_) -- COND 13 by_cases c_13 : r12 = 0
        · have hF := ite_t hF c_13
          exact w_X11_who_80 C ih hρ0 hL hF hP hS (lv_sub hl [0, 1, 2] rfl)
        · have hF := ite_f hF c_13
          refine lv_aload_n hx hb dX11_who_36 rfl (lv_at hl 0 rfl) ?_
          refine get_11_5 C hP (lr_0 hL) (lk_0 hL) inlX11 mw_26 (lf_0_5 hL) dX11_who_37 ?_
          refine lv_iconst (v := 1) hx hb dX11_who_40 (by decide) ?_
          refine x_aald (v := .ref (ad 42)) C hP (lr_34 hL) (lk_34 hL) (Or.inr ⟨rfl, rfl, rfl⟩) (ln_34 hL) (by decide +kernel) (by rw [cl_1, (lf_34_1 hL)]; rfl) dX11_who_41 ?_
          refine get_3_2 C hP (lr_42 hL) (lk_42 hL) inlX3 mw_500 dX11_who_42 ?_
          refine lv_aload_n hx hb dX11_who_45 rfl (lv_at hl 0 rfl) ?_
          refine get_11_0 C hP (lr_0 hL) (lk_0 hL) inlX11 mw_15 (lf_0_0 hL) dX11_who_46 ?_
          refine get_8_7 C hP (lr_1 hL) (lk_1 hL) inlX8 mw_899 dX11_who_49 ?_
          refine lv_icmp_ne (tgt := 80) hx hb dX11_who_52 (by decide) (fun c_14 => ?_) (fun c_14 => ?_) -- COND 14 rcases (Decidable.em ((σ12 42 2) = (σ12 1 7))).symm with c_14 | c_14
          · have hF := ite_f hF c_14
            exact w_X11_who_80 C ih hρ0 hL hF hP hS (lv_sub hl [0, 1, 2] rfl)
          · have hF := ite_t hF c_14
            refine lv_aload_n hx hb dX11_who_55 rfl (lv_at hl 0 rfl) ?_
            refine get_11_5 C hP (lr_0 hL) (lk_0 hL) inlX11 mw_26 (lf_0_5 hL) dX11_who_56 ?_
            refine lv_iconst (v := 1) hx hb dX11_who_59 (by decide) ?_
            refine x_aald (v := .ref (ad 42)) C hP (lr_34 hL) (lk_34 hL) (Or.inr ⟨rfl, rfl, rfl⟩) (ln_34 hL) (by decide +kernel) (by rw [cl_1, (lf_34_1 hL)]; rfl) dX11_who_60 ?_
            refine get_3_3 C hP (lr_42 hL) (lk_42 hL) inlX3 mw_501 dX11_who_61 ?_
            refine lv_aload_n hx hb dX11_who_64 rfl (lv_at hl 0 rfl) ?_
            refine get_11_0 C hP (lr_0 hL) (lk_0 hL) inlX11 mw_15 (lf_0_0 hL) dX11_who_65 ?_
            refine get_8_8 C hP (lr_1 hL) (lk_1 hL) inlX8 mw_900 dX11_who_68 ?_
            refine lv_icmp_ne (tgt := 80) hx hb dX11_who_71 (by decide) (fun c_15 => ?_) (fun c_15 => ?_) -- COND 15 rcases (Decidable.em ((σ12 42 3) = (σ12 1 8))).symm with c_15 | c_15
            · have hF := ite_f hF c_15
              exact w_X11_who_80 C ih hρ0 hL hF hP hS (lv_sub hl [0, 1, 2] rfl)
            · have hF := ite_t hF c_15
              refine lv_iload_n hx hb dX11_who_74 rfl (lv_at hl 1 rfl) ?_
              refine lv_iconst (v := 1) hx hb dX11_who_75 (by decide) ?_
              refine lv_iload_n hx hb dX11_who_76 rfl (lv_at hl 2 rfl) ?_
              refine lv_ishl hx hb dX11_who_77 ?_
              obtain ⟨x16, ex16, hF⟩ := nm_1 hF
              refine x_top ex16 ?_
              refine lv_ior hx hb dX11_who_78 ?_
              obtain ⟨x17, ex17, hF⟩ := nm_1 hF
              refine x_top ex17 ?_
              refine lv_istore_n (lv' := [(1, .int x17), (0, .ref (ad 0)), (2, .int v2)]) hx hb dX11_who_79 rfl hl (by decide) rfl (fun ls hl => ?_)
              exact w_X11_who_80 C ih hρ0 hL hF hP hS (lv_sub hl [1, 0, 2] rfl)
set_option maxHeartbeats 4000000 in
set_option maxRecDepth 100000 in
theorem w_X11_who_0 {N : Nat} {K len : Nat → Nat} {p : Program} {e : Env} {s : State} {m : MethodId} {args : Array Value} {below : List Frame} {meth : Method} {c : Code} {ρ0 : RG} {r : Int32} {σ1 : SG} (C : Cx Y D N ad p s m args meth c cX11_who 3 (some .int) RX11 wsL_law) {σ : SG} {ρ : RG} {H : Heap} {locs : List Loc} {ls : Array Slot} (hρ0 : ρ = ρ0) (hL : Lay N K len ρ) (hF : F_X11_who N K len σ ρ = some (r, σ1)) (hP : WP Y D N ad K len σ ρ H) (hS : va_S (AA N ad s.heap.size) s.heap H locs) (hl : lv_has ls 3 [(0, .ref (ad 0))]) : W p l e rm_X11_who s m args below meth c H locs 0 0 (MQ below (QW Y D N ad K len σ1 ρ0 (AA N ad s.heap.size) (some (.int r))) args s 0 0 (AA N ad s.heap.size)) (F0 m 0 ls []) := by
  have hx := C.1.1
  have hb := C.1.2.1
  unfold F_X11_who at hF
  refine lv_iconst (v := 0) hx hb dX11_who_0 (by decide) ?_
  refine lv_istore_n (lv' := [(1, .int (0 : Int32)), (0, .ref (ad 0))]) hx hb dX11_who_1 rfl hl (by decide) rfl (fun ls hl => ?_)
  refine lv_aload_n hx hb dX11_who_2 rfl (lv_at hl 1 rfl) ?_
  obtain ⟨σ1, hq1, hF⟩ := bn_1 hF
  refine x_callV (ci := 11) rfl rfl C hP hS (c_X11_startSteps hL hq1) (lr_0 hL) (lk_0 hL) (cwV 0 C.1.2.2.2.2 (gdV mw_713 mw_714 mw_715 mw_2 mw_716) rfl rfl rfl hd_X11_startSteps ⟨Nat.le_of_ble_eq_true rfl, Nat.le_of_ble_eq_true rfl⟩) rfl rfl hl.1 (Nat.le_of_ble_eq_true rfl) ⟨Nat.zero_le _, Nat.zero_le _⟩ dX11_who_3 (fun H locs hP hS => ?_)
  refine lv_iconst (v := 0) hx hb dX11_who_6 (by decide) ?_
  refine lv_istore_n (lv' := [(2, .int (0 : Int32)), (1, .int (0 : Int32)), (0, .ref (ad 0))]) hx hb dX11_who_7 rfl hl (by decide) rfl (fun ls hl => ?_)
  exact w_X11_who_8 C 1024 _ _ _ _ _ _ _ hρ0 hL hF hP hS (lv_sub hl [2, 1, 0] rfl)
set_option maxHeartbeats 4000000 in
set_option maxRecDepth 100000 in
theorem c_X11_who {N : Nat} {K len : Nat → Nat} {r : Int32} {σ1 : SG} {σ : SG} {ρ : RG} (hL : Lay N K len ρ) (hF : F_X11_who N K len σ ρ = some (r, σ1)) : MT l Y D N ad K len yX11_who (Cond.code yX11_who cX11_who 3 (some .int) :: wsL_law) rm_X11_who [.ref (ad 0)] σ ρ (some (.int r)) σ1 ρ := by
  refine mt_of (cc := cX11_who) (nL := 3) (ret := (some .int)) (by decide) (Nat.le_of_ble_eq_true rfl) ?_
  intro p e s m args below meth c ls C hnm hP hS hl
  exact w_X11_who_0 C rfl hL hF hP hS hl

/-! CutCrooked.public int book(int, int);  -/
theorem dX11_book_0 : decode cX11_book 0 = .ok (.iload_n 1, 1) := by decide +kernel
theorem dX11_book_1 : decode cX11_book 1 = .ok (.iconst (-1), 1) := by decide +kernel
theorem dX11_book_2 : decode cX11_book 2 = .ok (.if_icmp .ne 13, 3) := by decide +kernel
theorem dX11_book_5 : decode cX11_book 5 = .ok (.aload_n 0, 1) := by decide +kernel
theorem dX11_book_6 : decode cX11_book 6 = .ok (.getfield 12, 3) := by decide +kernel
theorem dX11_book_9 : decode cX11_book 9 = .ok (.iconst 0, 1) := by decide +kernel
theorem dX11_book_10 : decode cX11_book 10 = .ok (.putfield 261, 3) := by decide +kernel
theorem dX11_book_13 : decode cX11_book 13 = .ok (.iconst 0, 1) := by decide +kernel
theorem dX11_book_14 : decode cX11_book 14 = .ok (.ireturn, 1) := by decide +kernel
theorem dX11_book_15 : decode cX11_book 15 = .ok (.aload_n 0, 1) := by decide +kernel
theorem dX11_book_16 : decode cX11_book 16 = .ok (.getfield 12, 3) := by decide +kernel
theorem dX11_book_19 : decode cX11_book 19 = .ok (.iload_n 1, 1) := by decide +kernel
theorem dX11_book_20 : decode cX11_book 20 = .ok (.invokevirtual 100, 3) := by decide +kernel
theorem dX11_book_23 : decode cX11_book 23 = .ok (.ifnonnull 5, 3) := by decide +kernel
theorem dX11_book_26 : decode cX11_book 26 = .ok (.iconst (-1), 1) := by decide +kernel
theorem dX11_book_27 : decode cX11_book 27 = .ok (.ireturn, 1) := by decide +kernel
theorem dX11_book_28 : decode cX11_book 28 = .ok (.iload_n 2, 1) := by decide +kernel
theorem dX11_book_29 : decode cX11_book 29 = .ok (.iconst 0, 1) := by decide +kernel
theorem dX11_book_30 : decode cX11_book 30 = .ok (.sipush 999, 3) := by decide +kernel
theorem dX11_book_33 : decode cX11_book 33 = .ok (.invokestatic 56, 3) := by decide +kernel
theorem dX11_book_36 : decode cX11_book 36 = .ok (.ifCond .ne 6, 3) := by decide +kernel
theorem dX11_book_39 : decode cX11_book 39 = .ok (.bipush (-2), 2) := by decide +kernel
theorem dX11_book_41 : decode cX11_book 41 = .ok (.ireturn, 1) := by decide +kernel
theorem dX11_book_42 : decode cX11_book 42 = .ok (.aload_n 0, 1) := by decide +kernel
theorem dX11_book_43 : decode cX11_book 43 = .ok (.getfield 12, 3) := by decide +kernel
theorem dX11_book_46 : decode cX11_book 46 = .ok (.getfield 261, 3) := by decide +kernel
theorem dX11_book_49 : decode cX11_book 49 = .ok (.istore_n 3, 1) := by decide +kernel
theorem dX11_book_50 : decode cX11_book 50 = .ok (.iload_n 3, 1) := by decide +kernel
theorem dX11_book_51 : decode cX11_book 51 = .ok (.aload_n 0, 1) := by decide +kernel
theorem dX11_book_52 : decode cX11_book 52 = .ok (.getfield 12, 3) := by decide +kernel
theorem dX11_book_55 : decode cX11_book 55 = .ok (.getfield 264, 3) := by decide +kernel
theorem dX11_book_58 : decode cX11_book 58 = .ok (.arraylength, 1) := by decide +kernel
theorem dX11_book_59 : decode cX11_book 59 = .ok (.if_icmp .ge 15, 3) := by decide +kernel
theorem dX11_book_62 : decode cX11_book 62 = .ok (.iload_n 3, 1) := by decide +kernel
theorem dX11_book_63 : decode cX11_book 63 = .ok (.aload_n 0, 1) := by decide +kernel
theorem dX11_book_64 : decode cX11_book 64 = .ok (.getfield 12, 3) := by decide +kernel
theorem dX11_book_67 : decode cX11_book 67 = .ok (.getfield 267, 3) := by decide +kernel
theorem dX11_book_70 : decode cX11_book 70 = .ok (.arraylength, 1) := by decide +kernel
theorem dX11_book_71 : decode cX11_book 71 = .ok (.if_icmp .lt 6, 3) := by decide +kernel
theorem dX11_book_74 : decode cX11_book 74 = .ok (.bipush (-4), 2) := by decide +kernel
theorem dX11_book_76 : decode cX11_book 76 = .ok (.ireturn, 1) := by decide +kernel
theorem dX11_book_77 : decode cX11_book 77 = .ok (.aload_n 0, 1) := by decide +kernel
theorem dX11_book_78 : decode cX11_book 78 = .ok (.getfield 12, 3) := by decide +kernel
theorem dX11_book_81 : decode cX11_book 81 = .ok (.getfield 264, 3) := by decide +kernel
theorem dX11_book_84 : decode cX11_book 84 = .ok (.iload_n 3, 1) := by decide +kernel
theorem dX11_book_85 : decode cX11_book 85 = .ok (.iload_n 1, 1) := by decide +kernel
theorem dX11_book_86 : decode cX11_book 86 = .ok (.iastore, 1) := by decide +kernel
theorem dX11_book_87 : decode cX11_book 87 = .ok (.aload_n 0, 1) := by decide +kernel
theorem dX11_book_88 : decode cX11_book 88 = .ok (.getfield 12, 3) := by decide +kernel
theorem dX11_book_91 : decode cX11_book 91 = .ok (.getfield 267, 3) := by decide +kernel
theorem dX11_book_94 : decode cX11_book 94 = .ok (.iload_n 3, 1) := by decide +kernel
theorem dX11_book_95 : decode cX11_book 95 = .ok (.iload_n 2, 1) := by decide +kernel
theorem dX11_book_96 : decode cX11_book 96 = .ok (.iastore, 1) := by decide +kernel
theorem dX11_book_97 : decode cX11_book 97 = .ok (.aload_n 0, 1) := by decide +kernel
theorem dX11_book_98 : decode cX11_book 98 = .ok (.getfield 12, 3) := by decide +kernel
theorem dX11_book_101 : decode cX11_book 101 = .ok (.dup, 1) := by decide +kernel
theorem dX11_book_102 : decode cX11_book 102 = .ok (.getfield 261, 3) := by decide +kernel
theorem dX11_book_105 : decode cX11_book 105 = .ok (.iconst 1, 1) := by decide +kernel
theorem dX11_book_106 : decode cX11_book 106 = .ok (.iadd, 1) := by decide +kernel
theorem dX11_book_107 : decode cX11_book 107 = .ok (.putfield 261, 3) := by decide +kernel
theorem dX11_book_110 : decode cX11_book 110 = .ok (.aload_n 0, 1) := by decide +kernel
theorem dX11_book_111 : decode cX11_book 111 = .ok (.getfield 12, 3) := by decide +kernel
theorem dX11_book_114 : decode cX11_book 114 = .ok (.getfield 261, 3) := by decide +kernel
theorem dX11_book_117 : decode cX11_book 117 = .ok (.ireturn, 1) := by decide +kernel
theorem hd_X11_book : yX11_book.cls = RX11 ∧ yX11_book.cls ≠ "java/lang/invoke/MethodHandle" ∧ yX11_book.cls ≠ "java/lang/invoke/VarHandle" ∧ (parseMethodDescriptor yX11_book.desc).map (fun d => d.parameters.length) = some 2 := by decide +kernel
abbrev rm_X11_book : Room := { frames := 1, cells := 0, slots := 0, locals := 22 }
def F_X11_book (N : Nat) (K len : Nat → Nat) (a1 : Int32) (a2 : Int32) (σ : SG) (ρ : RG) : Option (Int32 × SG) :=
  if a1 = (-1 : Int32) then
    nm (s2 σ 1 13 (0 : Int32)) fun σ18 =>
    some ((0 : Int32), σ18)
  else
    bn (F_X8_cutterAt_1 a1 σ ρ) fun o2 =>
    oc o2
     (
      some ((-1 : Int32), σ))
     (fun c3 =>
      gd (isC N K c3) <|
      bn (F_X11_isWithin a2 (0 : Int32) (999 : Int32) σ ρ) fun r4 =>
      if r4 = 0 then
        some ((-2 : Int32), σ)
      else
        if (8 : Int32) ≤ (σ 1 13) then
          some ((-4 : Int32), σ)
        else
          if (σ 1 13) < (8 : Int32) then
            gd (inb (σ 1 13) 8) <|
            nm (s2 σ 12 ((σ 1 13)).toNatClampNeg a1) fun σ10 =>
            gd (inb (σ 1 13) 8) <|
            nm (s2 σ10 13 ((σ 1 13)).toNatClampNeg a2) fun σ13 =>
            nm ((σ13 1 13) + (1 : Int32)) fun x14 =>
            nm (s2 σ13 1 13 x14) fun σ16 =>
            some ((σ16 1 13), σ16)
          else
            some ((-4 : Int32), σ))
set_option maxHeartbeats 4000000 in
set_option maxRecDepth 100000 in
theorem w_X11_book_0 {N : Nat} {K len : Nat → Nat} {a1 : Int32} {a2 : Int32} {p : Program} {e : Env} {s : State} {m : MethodId} {args : Array Value} {below : List Frame} {meth : Method} {c : Code} {ρ0 : RG} {r : Int32} {σ1 : SG} (C : Cx Y D N ad p s m args meth c cX11_book 4 (some .int) RX11 wsL_law) {σ : SG} {ρ : RG} {H : Heap} {locs : List Loc} {ls : Array Slot} (hρ0 : ρ = ρ0) (hL : Lay N K len ρ) (hF : F_X11_book N K len a1 a2 σ ρ = some (r, σ1)) (hP : WP Y D N ad K len σ ρ H) (hS : va_S (AA N ad s.heap.size) s.heap H locs) (hl : lv_has ls 4 [(0, .ref (ad 0)), (1, .int a1), (2, .int a2)]) : W p l e rm_X11_book s m args below meth c H locs 0 0 (MQ below (QW Y D N ad K len σ1 ρ0 (AA N ad s.heap.size) (some (.int r))) args s 0 0 (AA N ad s.heap.size)) (F0 m 0 ls []) := by
  have hx := C.1.1
  have hb := C.1.2.1
  unfold F_X11_book at hF
  refine lv_iload_n hx hb dX11_book_0 rfl (lv_at hl 1 rfl) ?_
  refine lv_iconst (v := -1) hx hb dX11_book_1 (by decide) ?_
  refine lv_icmp_ne (tgt := 15) hx hb dX11_book_2 (by decide) (fun c_1 => ?_) (fun c_1 => ?_) -- COND 1 rcases (Decidable.em (a1 = (-1 : Int32))).symm with c_1 | c_1
  · have hF := ite_f hF c_1
    refine lv_aload_n hx hb dX11_book_15 rfl (lv_at hl 0 rfl) ?_
    refine get_11_0 C hP (lr_0 hL) (lk_0 hL) inlX11 mw_15 (lf_0_0 hL) dX11_book_16 ?_
    refine lv_iload_n hx hb dX11_book_19 rfl (lv_at hl 1 rfl) ?_
    obtain ⟨o2, hq2, hF⟩ := bn_1 hF
    refine x_callV (ci := 8) rfl rfl C hP hS (c_X8_cutterAt_1 hL hq2) (lr_1 hL) (lk_1 hL) (cwV 1 C.1.2.2.2.2 (gdV mw_428 mw_429 mw_430 mw_14 mw_431) rfl rfl rfl hd_X8_cutterAt ⟨Nat.le_of_ble_eq_true rfl, Nat.le_of_ble_eq_true rfl⟩) rfl rfl hl.1 (Nat.le_of_ble_eq_true rfl) ⟨Nat.zero_le _, Nat.zero_le _⟩ dX11_book_20 (fun H locs hP hS => ?_)
    rcases ho3 : o2 with _ | c3
    · have hF := oc_n hF ho3
      refine x_n ?_
      refine lv_ifnonnullN hx hb dX11_book_23 ?_
      refine lv_iconst (v := -1) hx hb dX11_book_26 (by decide) ?_
      obtain ⟨rfl, rfl⟩ := ret_2 hF
      subst hρ0
      exact x_iret rfl C hP hS dX11_book_27
    · have hF := oc_s hF ho3
      refine x_s ?_
      obtain ⟨gc3, hF⟩ := gd_1 hF
      refine lv_ifnonnull (tgt := 28) hx hb dX11_book_23 (by decide) ?_
      refine lv_iload_n hx hb dX11_book_28 rfl (lv_at hl 2 rfl) ?_
      refine lv_iconst (v := 0) hx hb dX11_book_29 (by decide) ?_
      refine lv_sipush (v := 999) hx hb dX11_book_30 (by decide +kernel) ?_
      obtain ⟨r4, hq4, hF⟩ := bn_1 hF
      refine x_callS C hP hS (c_X11_isWithin hL hq4) (va_cwS 3 C.1.2.2.2.2 (gdS mw_97 mw_98 mw_2 mw_99) rfl rfl rfl hd_X11_isWithin.2 ⟨Nat.le_of_ble_eq_true rfl, Nat.le_of_ble_eq_true rfl⟩) rfl rfl hl.1 (Nat.le_of_ble_eq_true rfl) ⟨Nat.zero_le _, Nat.zero_le _⟩ dX11_book_33 (fun H locs hP hS => ?_)
      refine lv_if_ne (tgt := 42) hx hb dX11_book_36 (by decide) (fun c_5 => ?_) (fun c_5 => ?_) -- COND 5 rcases (Decidable.em (r4 = 0)).symm with c_5 | c_5
      · have hF := ite_f hF c_5
        refine lv_aload_n hx hb dX11_book_42 rfl (lv_at hl 0 rfl) ?_
        refine get_11_0 C hP (lr_0 hL) (lk_0 hL) inlX11 mw_15 (lf_0_0 hL) dX11_book_43 ?_
        refine get_8_13 C hP (lr_1 hL) (lk_1 hL) inlX8 mw_987 dX11_book_46 ?_
        refine lv_istore_n (lv' := [(3, .int (σ 1 13)), (0, .ref (ad 0)), (1, .int a1), (2, .int a2)]) hx hb dX11_book_49 rfl hl (by decide) rfl (fun ls hl => ?_)
        refine lv_iload_n hx hb dX11_book_50 rfl (lv_at hl 0 rfl) ?_
        refine lv_aload_n hx hb dX11_book_51 rfl (lv_at hl 1 rfl) ?_
        refine get_11_0 C hP (lr_0 hL) (lk_0 hL) inlX11 mw_15 (lf_0_0 hL) dX11_book_52 ?_
        refine get_8_11 C hP (lr_1 hL) (lk_1 hL) inlX8 mw_988 (lf_1_11 hL) dX11_book_55 ?_
        refine x_alen (v := (8 : Int32)) C hP (lr_12 hL) (lk_12 hL) (by decide) (ln_12 hL) (by decide +kernel) dX11_book_58 ?_
        refine lv_icmp_ge (tgt := 74) hx hb dX11_book_59 (by decide) (fun c_6 => ?_) (fun c_6 => ?_) -- COND 6 by_cases c_6 : (8 : Int32) ≤ (σ 1 13)
        · have hF := ite_t hF c_6
          refine lv_bipush (v := -4) hx hb dX11_book_74 (by decide +kernel) ?_
          obtain ⟨rfl, rfl⟩ := ret_2 hF
          subst hρ0
          exact x_iret rfl C hP hS dX11_book_76
        · have hF := ite_f hF c_6
          refine lv_iload_n hx hb dX11_book_62 rfl (lv_at hl 0 rfl) ?_
          refine lv_aload_n hx hb dX11_book_63 rfl (lv_at hl 1 rfl) ?_
          refine get_11_0 C hP (lr_0 hL) (lk_0 hL) inlX11 mw_15 (lf_0_0 hL) dX11_book_64 ?_
          refine get_8_12 C hP (lr_1 hL) (lk_1 hL) inlX8 mw_989 (lf_1_12 hL) dX11_book_67 ?_
          refine x_alen (v := (8 : Int32)) C hP (lr_13 hL) (lk_13 hL) (by decide) (ln_13 hL) (by decide +kernel) dX11_book_70 ?_
          refine lv_icmp_lt (tgt := 77) hx hb dX11_book_71 (by decide) (fun c_7 => ?_) (fun c_7 => ?_) -- COND 7 by_cases c_7 : (σ 1 13) < (8 : Int32)
          · have hF := ite_t hF c_7
            refine lv_aload_n hx hb dX11_book_77 rfl (lv_at hl 1 rfl) ?_
            refine get_11_0 C hP (lr_0 hL) (lk_0 hL) inlX11 mw_15 (lf_0_0 hL) dX11_book_78 ?_
            refine get_8_11 C hP (lr_1 hL) (lk_1 hL) inlX8 mw_988 (lf_1_11 hL) dX11_book_81 ?_
            refine lv_iload_n hx hb dX11_book_84 rfl (lv_at hl 0 rfl) ?_
            refine lv_iload_n hx hb dX11_book_85 rfl (lv_at hl 2 rfl) ?_
            obtain ⟨g8, hF⟩ := gd_1 hF
            obtain ⟨σ10, eσ10, hF⟩ := nm_1 hF
            refine x_iast (σ1 := σ10) C hP hS (lr_12 hL) (lk_12 hL) (ln_12 hL) g8 eσ10 dX11_book_86 (fun H locs hP hS => ?_)
            refine lv_aload_n hx hb dX11_book_87 rfl (lv_at hl 1 rfl) ?_
            refine get_11_0 C hP (lr_0 hL) (lk_0 hL) inlX11 mw_15 (lf_0_0 hL) dX11_book_88 ?_
            refine get_8_12 C hP (lr_1 hL) (lk_1 hL) inlX8 mw_989 (lf_1_12 hL) dX11_book_91 ?_
            refine lv_iload_n hx hb dX11_book_94 rfl (lv_at hl 0 rfl) ?_
            refine lv_iload_n hx hb dX11_book_95 rfl (lv_at hl 3 rfl) ?_
            obtain ⟨g11, hF⟩ := gd_1 hF
            obtain ⟨σ13, eσ13, hF⟩ := nm_1 hF
            refine x_iast (σ1 := σ13) C hP hS (lr_13 hL) (lk_13 hL) (ln_13 hL) g11 eσ13 dX11_book_96 (fun H locs hP hS => ?_)
            refine lv_aload_n hx hb dX11_book_97 rfl (lv_at hl 1 rfl) ?_
            refine get_11_0 C hP (lr_0 hL) (lk_0 hL) inlX11 mw_15 (lf_0_0 hL) dX11_book_98 ?_
            refine lv_dup hx hb dX11_book_101 rfl ?_
            refine get_8_13 C hP (lr_1 hL) (lk_1 hL) inlX8 mw_987 dX11_book_102 ?_
            refine lv_iconst (v := 1) hx hb dX11_book_105 (by decide) ?_
            refine lv_iadd hx hb dX11_book_106 ?_
            obtain ⟨x14, ex14, hF⟩ := nm_1 hF
            refine x_top ex14 ?_
            obtain ⟨σ16, eσ16, hF⟩ := nm_1 hF
            refine put_8_13 C hP hS (lr_1 hL) (lk_1 hL) inlX8 mw_987 eσ16 dX11_book_107 (fun H locs hP hS => ?_)
            refine lv_aload_n hx hb dX11_book_110 rfl (lv_at hl 1 rfl) ?_
            refine get_11_0 C hP (lr_0 hL) (lk_0 hL) inlX11 mw_15 (lf_0_0 hL) dX11_book_111 ?_
            refine get_8_13 C hP (lr_1 hL) (lk_1 hL) inlX8 mw_987 dX11_book_114 ?_
            obtain ⟨rfl, rfl⟩ := ret_2 hF
            subst hρ0
            exact x_iret rfl C hP hS dX11_book_117
          · have hF := ite_f hF c_7
            refine lv_bipush (v := -4) hx hb dX11_book_74 (by decide +kernel) ?_
            obtain ⟨rfl, rfl⟩ := ret_2 hF
            subst hρ0
            exact x_iret rfl C hP hS dX11_book_76
      · have hF := ite_t hF c_5
        refine lv_bipush (v := -2) hx hb dX11_book_39 (by decide +kernel) ?_
        obtain ⟨rfl, rfl⟩ := ret_2 hF
        subst hρ0
        exact x_iret rfl C hP hS dX11_book_41
  · have hF := ite_t hF c_1
    refine lv_aload_n hx hb dX11_book_5 rfl (lv_at hl 0 rfl) ?_
    refine get_11_0 C hP (lr_0 hL) (lk_0 hL) inlX11 mw_15 (lf_0_0 hL) dX11_book_6 ?_
    refine lv_iconst (v := 0) hx hb dX11_book_9 (by decide) ?_
    obtain ⟨σ18, eσ18, hF⟩ := nm_1 hF
    refine put_8_13 C hP hS (lr_1 hL) (lk_1 hL) inlX8 mw_987 eσ18 dX11_book_10 (fun H locs hP hS => ?_)
    refine lv_iconst (v := 0) hx hb dX11_book_13 (by decide) ?_
    obtain ⟨rfl, rfl⟩ := ret_2 hF
    subst hρ0
    exact x_iret rfl C hP hS dX11_book_14
set_option maxHeartbeats 4000000 in
set_option maxRecDepth 100000 in
theorem c_X11_book {N : Nat} {K len : Nat → Nat} {a1 : Int32} {a2 : Int32} {r : Int32} {σ1 : SG} {σ : SG} {ρ : RG} (hL : Lay N K len ρ) (hF : F_X11_book N K len a1 a2 σ ρ = some (r, σ1)) : MT l Y D N ad K len yX11_book (Cond.code yX11_book cX11_book 4 (some .int) :: wsL_law) rm_X11_book [.ref (ad 0), .int a1, .int a2] σ ρ (some (.int r)) σ1 ρ := by
  refine mt_of (cc := cX11_book) (nL := 4) (ret := (some .int)) (by decide) (Nat.le_of_ble_eq_true rfl) ?_
  intro p e s m args below meth c ls C hnm hP hS hl
  exact w_X11_book_0 C rfl hL hF hP hS hl

/-! CutCrooked.public int looked();  -/
theorem dX11_looked_0 : decode cX11_looked 0 = .ok (.aload_n 0, 1) := by decide +kernel
theorem dX11_looked_1 : decode cX11_looked 1 = .ok (.getfield 49, 3) := by decide +kernel
theorem dX11_looked_4 : decode cX11_looked 4 = .ok (.aload_n 0, 1) := by decide +kernel
theorem dX11_looked_5 : decode cX11_looked 5 = .ok (.getfield 12, 3) := by decide +kernel
theorem dX11_looked_8 : decode cX11_looked 8 = .ok (.getfield 130, 3) := by decide +kernel
theorem dX11_looked_11 : decode cX11_looked 11 = .ok (.invokevirtual 217, 3) := by decide +kernel
theorem dX11_looked_14 : decode cX11_looked 14 = .ok (.iconst 0, 1) := by decide +kernel
theorem dX11_looked_15 : decode cX11_looked 15 = .ok (.istore_n 1, 1) := by decide +kernel
theorem dX11_looked_16 : decode cX11_looked 16 = .ok (.iload_n 1, 1) := by decide +kernel
theorem dX11_looked_17 : decode cX11_looked 17 = .ok (.aload_n 0, 1) := by decide +kernel
theorem dX11_looked_18 : decode cX11_looked 18 = .ok (.getfield 12, 3) := by decide +kernel
theorem dX11_looked_21 : decode cX11_looked 21 = .ok (.getfield 261, 3) := by decide +kernel
theorem dX11_looked_24 : decode cX11_looked 24 = .ok (.if_icmp .ge 81, 3) := by decide +kernel
theorem dX11_looked_27 : decode cX11_looked 27 = .ok (.aload_n 0, 1) := by decide +kernel
theorem dX11_looked_28 : decode cX11_looked 28 = .ok (.getfield 12, 3) := by decide +kernel
theorem dX11_looked_31 : decode cX11_looked 31 = .ok (.aload_n 0, 1) := by decide +kernel
theorem dX11_looked_32 : decode cX11_looked 32 = .ok (.getfield 12, 3) := by decide +kernel
theorem dX11_looked_35 : decode cX11_looked 35 = .ok (.getfield 264, 3) := by decide +kernel
theorem dX11_looked_38 : decode cX11_looked 38 = .ok (.iload_n 1, 1) := by decide +kernel
theorem dX11_looked_39 : decode cX11_looked 39 = .ok (.invokestatic 196, 3) := by decide +kernel
theorem dX11_looked_42 : decode cX11_looked 42 = .ok (.invokevirtual 100, 3) := by decide +kernel
theorem dX11_looked_45 : decode cX11_looked 45 = .ok (.astore_n 2, 1) := by decide +kernel
theorem dX11_looked_46 : decode cX11_looked 46 = .ok (.aload_n 2, 1) := by decide +kernel
theorem dX11_looked_47 : decode cX11_looked 47 = .ok (.ifnull 27, 3) := by decide +kernel
theorem dX11_looked_50 : decode cX11_looked 50 = .ok (.aload_n 0, 1) := by decide +kernel
theorem dX11_looked_51 : decode cX11_looked 51 = .ok (.getfield 49, 3) := by decide +kernel
theorem dX11_looked_54 : decode cX11_looked 54 = .ok (.aload_n 2, 1) := by decide +kernel
theorem dX11_looked_55 : decode cX11_looked 55 = .ok (.aload_n 2, 1) := by decide +kernel
theorem dX11_looked_56 : decode cX11_looked 56 = .ok (.getfield 119, 3) := by decide +kernel
theorem dX11_looked_59 : decode cX11_looked 59 = .ok (.aload_n 0, 1) := by decide +kernel
theorem dX11_looked_60 : decode cX11_looked 60 = .ok (.getfield 12, 3) := by decide +kernel
theorem dX11_looked_63 : decode cX11_looked 63 = .ok (.getfield 78, 3) := by decide +kernel
theorem dX11_looked_66 : decode cX11_looked 66 = .ok (.iconst 0, 1) := by decide +kernel
theorem dX11_looked_67 : decode cX11_looked 67 = .ok (.iconst 0, 1) := by decide +kernel
theorem dX11_looked_68 : decode cX11_looked 68 = .ok (.invokevirtual 163, 3) := by decide +kernel
theorem dX11_looked_71 : decode cX11_looked 71 = .ok (.ifCond .ne 5, 3) := by decide +kernel
theorem dX11_looked_74 : decode cX11_looked 74 = .ok (.iload_n 1, 1) := by decide +kernel
theorem dX11_looked_75 : decode cX11_looked 75 = .ok (.ireturn, 1) := by decide +kernel
theorem dX11_looked_76 : decode cX11_looked 76 = .ok (.aload_n 0, 1) := by decide +kernel
theorem dX11_looked_77 : decode cX11_looked 77 = .ok (.getfield 49, 3) := by decide +kernel
theorem dX11_looked_80 : decode cX11_looked 80 = .ok (.getfield 183, 3) := by decide +kernel
theorem dX11_looked_83 : decode cX11_looked 83 = .ok (.aload_n 0, 1) := by decide +kernel
theorem dX11_looked_84 : decode cX11_looked 84 = .ok (.getfield 12, 3) := by decide +kernel
theorem dX11_looked_87 : decode cX11_looked 87 = .ok (.getfield 267, 3) := by decide +kernel
theorem dX11_looked_90 : decode cX11_looked 90 = .ok (.iload_n 1, 1) := by decide +kernel
theorem dX11_looked_91 : decode cX11_looked 91 = .ok (.invokestatic 196, 3) := by decide +kernel
theorem dX11_looked_94 : decode cX11_looked 94 = .ok (.if_icmp .eq 5, 3) := by decide +kernel
theorem dX11_looked_97 : decode cX11_looked 97 = .ok (.iload_n 1, 1) := by decide +kernel
theorem dX11_looked_98 : decode cX11_looked 98 = .ok (.ireturn, 1) := by decide +kernel
theorem dX11_looked_99 : decode cX11_looked 99 = .ok (.iinc 1 1, 3) := by decide +kernel
theorem dX11_looked_102 : decode cX11_looked 102 = .ok (.goto (-86), 3) := by decide +kernel
theorem dX11_looked_105 : decode cX11_looked 105 = .ok (.bipush (-5), 2) := by decide +kernel
theorem dX11_looked_107 : decode cX11_looked 107 = .ok (.ireturn, 1) := by decide +kernel
theorem hd_X11_looked : yX11_looked.cls = RX11 ∧ yX11_looked.cls ≠ "java/lang/invoke/MethodHandle" ∧ yX11_looked.cls ≠ "java/lang/invoke/VarHandle" ∧ (parseMethodDescriptor yX11_looked.desc).map (fun d => d.parameters.length) = some 0 := by decide +kernel
abbrev rm_X11_looked : Room := { frames := 5, cells := 0, slots := 0, locals := 129 }
def F_X11_looked_16 (N : Nat) (K len : Nat → Nat) : Nat → SG → RG → Int32 → Option (Int32 × SG)
  | 0 => fun _ _ _ => none
  | n + 1 => fun σ ρ v1 =>
  if (σ 1 13) ≤ v1 then
    some ((-5 : Int32), σ)
  else
    bn (F_X11_valueAt 12 8 v1 σ ρ) fun r3 =>
    bn (F_X8_cutterAt_1 r3 σ ρ) fun o4 =>
    oc o4
     (
      some (v1, σ))
     (fun c5 =>
      gd (isC N K c5) <|
      bn2 (F_X3_tryCut N K len 37 c5 (σ c5 4) (0 : Int32) (0 : Int32) σ ρ) fun r6 σ6 =>
      if r6 = 0 then
        some (v1, σ6)
      else
        bn (F_X11_valueAt 13 8 v1 σ6 ρ) fun r8 =>
        if (σ6 37 7) = r8 then
          nm (v1 + (1 : Int32)) fun x10 =>
          F_X11_looked_16 N K len n σ6 ρ x10
        else
          some (v1, σ6))
def F_X11_looked (N : Nat) (K len : Nat → Nat) (σ : SG) (ρ : RG) : Option (Int32 × SG) :=
  bn (F_X3_takes 37 3 σ ρ) fun σ1 =>
  F_X11_looked_16 N K len 1024 σ1 ρ (0 : Int32)
set_option maxHeartbeats 4000000 in
set_option maxRecDepth 100000 in
theorem w_X11_looked_16 {N : Nat} {K len : Nat → Nat} {p : Program} {e : Env} {s : State} {m : MethodId} {args : Array Value} {below : List Frame} {meth : Method} {c : Code} {ρ0 : RG} {r : Int32} {σ1 : SG} (C : Cx Y D N ad p s m args meth c cX11_looked 3 (some .int) RX11 wsL_law) : ∀ (n : Nat) (σ : SG) (ρ : RG) (v1 : Int32) (H : Heap) (locs : List Loc) (ls : Array Slot), ρ = ρ0 → Lay N K len ρ → F_X11_looked_16 N K len n σ ρ v1 = some (r, σ1) → WP Y D N ad K len σ ρ H → va_S (AA N ad s.heap.size) s.heap H locs → lv_has ls 3 [(0, .ref (ad 0)), (1, .int v1)] → W p l e rm_X11_looked s m args below meth c H locs 0 0 (MQ below (QW Y D N ad K len σ1 ρ0 (AA N ad s.heap.size) (some (.int r))) args s 0 0 (AA N ad s.heap.size)) (F0 m 16 ls []) := by
  have hx := C.1.1
  have hb := C.1.2.1
  intro n
  induction n with
  | zero => intro σ ρ v1 H locs ls hρ0 hL hF; cases hF
  | succ n ih =>
    intro σ ρ v1 H locs ls hρ0 hL hF hP hS hl
    unfold F_X11_looked_16 at hF
    refine lv_iload_n hx hb dX11_looked_16 rfl (lv_at hl 1 rfl) ?_
    refine lv_aload_n hx hb dX11_looked_17 rfl (lv_at hl 0 rfl) ?_
    refine get_11_0 C hP (lr_0 hL) (lk_0 hL) inlX11 mw_15 (lf_0_0 hL) dX11_looked_18 ?_
    refine get_8_13 C hP (lr_1 hL) (lk_1 hL) inlX8 mw_987 dX11_looked_21 ?_
    refine lv_icmp_ge (tgt := 105) hx hb dX11_looked_24 (by decide) (fun c_2 => ?_) (fun c_2 => ?_) -- COND 2 by_cases c_2 : (σ 1 13) ≤ v1
    · have hF := ite_t hF c_2
      refine lv_bipush (v := -5) hx hb dX11_looked_105 (by decide +kernel) ?_
      obtain ⟨rfl, rfl⟩ := ret_2 hF
      subst hρ0
      exact x_iret rfl C hP hS dX11_looked_107
    · have hF := ite_f hF c_2
      refine lv_aload_n hx hb dX11_looked_27 rfl (lv_at hl 0 rfl) ?_
      refine get_11_0 C hP (lr_0 hL) (lk_0 hL) inlX11 mw_15 (lf_0_0 hL) dX11_looked_28 ?_
      refine lv_aload_n hx hb dX11_looked_31 rfl (lv_at hl 0 rfl) ?_
      refine get_11_0 C hP (lr_0 hL) (lk_0 hL) inlX11 mw_15 (lf_0_0 hL) dX11_looked_32 ?_
      refine get_8_11 C hP (lr_1 hL) (lk_1 hL) inlX8 mw_988 (lf_1_11 hL) dX11_looked_35 ?_
      refine lv_iload_n hx hb dX11_looked_38 rfl (lv_at hl 1 rfl) ?_
      obtain ⟨r3, hq3, hF⟩ := bn_1 hF
      refine x_callS C hP hS (c_X11_valueAt hL ⟨(lr_12 hL), (lk_12 hL), (ln_12 hL)⟩ hq3) (va_cwS 2 C.1.2.2.2.2 (gdS mw_750 mw_557 mw_2 mw_558) rfl rfl rfl hd_X11_valueAt.2 ⟨Nat.le_of_ble_eq_true rfl, Nat.le_of_ble_eq_true rfl⟩) rfl rfl hl.1 (Nat.le_of_ble_eq_true rfl) ⟨Nat.zero_le _, Nat.zero_le _⟩ dX11_looked_39 (fun H locs hP hS => ?_)
      obtain ⟨o4, hq4, hF⟩ := bn_1 hF
      refine x_callV (ci := 8) rfl rfl C hP hS (c_X8_cutterAt_1 hL hq4) (lr_1 hL) (lk_1 hL) (cwV 1 C.1.2.2.2.2 (gdV mw_428 mw_429 mw_430 mw_14 mw_431) rfl rfl rfl hd_X8_cutterAt ⟨Nat.le_of_ble_eq_true rfl, Nat.le_of_ble_eq_true rfl⟩) rfl rfl hl.1 (Nat.le_of_ble_eq_true rfl) ⟨Nat.zero_le _, Nat.zero_le _⟩ dX11_looked_42 (fun H locs hP hS => ?_)
      rcases ho5 : o4 with _ | c5
      · have hF := oc_n hF ho5
        refine x_n ?_
        refine lv_astore_nN (lv' := [(2, .null), (0, .ref (ad 0)), (1, .int v1)]) hx hb dX11_looked_45 rfl hl (by decide) rfl (fun ls hl => ?_)
        refine lv_aload_nN hx hb dX11_looked_46 rfl (lv_at hl 0 rfl) ?_
        refine lv_ifnullN (tgt := 74) hx hb dX11_looked_47 (by decide) ?_
        refine lv_iload_n hx hb dX11_looked_74 rfl (lv_at hl 2 rfl) ?_
        obtain ⟨rfl, rfl⟩ := ret_2 hF
        subst hρ0
        exact x_iret rfl C hP hS dX11_looked_75
      · have hF := oc_s hF ho5
        refine x_s ?_
        obtain ⟨gc5, hF⟩ := gd_1 hF
        refine lv_astore_n (lv' := [(2, .ref (ad c5)), (0, .ref (ad 0)), (1, .int v1)]) hx hb dX11_looked_45 rfl hl (by decide) rfl (fun ls hl => ?_)
        refine lv_aload_n hx hb dX11_looked_46 rfl (lv_at hl 0 rfl) ?_
        refine lv_ifnull hx hb dX11_looked_47 ?_
        refine lv_aload_n hx hb dX11_looked_50 rfl (lv_at hl 1 rfl) ?_
        refine get_11_11 C hP (lr_0 hL) (lk_0 hL) inlX11 mw_32 (lf_0_11 hL) dX11_looked_51 ?_
        refine lv_aload_n hx hb dX11_looked_54 rfl (lv_at hl 0 rfl) ?_
        refine lv_aload_n hx hb dX11_looked_55 rfl (lv_at hl 0 rfl) ?_
        refine get_ck_4 C hP (isC_r gc5) (isC_k gc5) mw_426 (Or.inl rfl) dX11_looked_56 ?_
        refine lv_aload_n hx hb dX11_looked_59 rfl (lv_at hl 1 rfl) ?_
        refine get_11_0 C hP (lr_0 hL) (lk_0 hL) inlX11 mw_15 (lf_0_0 hL) dX11_looked_60 ?_
        refine get_8_3 C hP (lr_1 hL) (lk_1 hL) inlX8 mw_113 (lf_1_3 hL) dX11_looked_63 ?_
        refine lv_iconst (v := 0) hx hb dX11_looked_66 (by decide) ?_
        refine lv_iconst (v := 0) hx hb dX11_looked_67 (by decide) ?_
        obtain ⟨r6, σ6, hq6, hF⟩ := bn2_1 hF
        refine x_callV (ci := 3) rfl rfl C hP hS (c_X3_tryCut hL (il_37 hL) gc5 hq6) (lr_37 hL) (lk_37 hL) (cwV 5 C.1.2.2.2.2 (gdV mw_529 mw_530 mw_531 mw_31 mw_532) rfl rfl rfl hd_X3_tryCut ⟨Nat.le_of_ble_eq_true rfl, Nat.le_of_ble_eq_true rfl⟩) rfl rfl hl.1 (Nat.le_of_ble_eq_true rfl) ⟨Nat.zero_le _, Nat.zero_le _⟩ dX11_looked_68 (fun H locs hP hS => ?_)
        refine lv_if_ne (tgt := 76) hx hb dX11_looked_71 (by decide) (fun c_7 => ?_) (fun c_7 => ?_) -- COND 7 rcases (Decidable.em (r6 = 0)).symm with c_7 | c_7
        · have hF := ite_f hF c_7
          refine lv_aload_n hx hb dX11_looked_76 rfl (lv_at hl 1 rfl) ?_
          refine get_11_11 C hP (lr_0 hL) (lk_0 hL) inlX11 mw_32 (lf_0_11 hL) dX11_looked_77 ?_
          refine get_3_7 C hP (lr_37 hL) (lk_37 hL) inlX3 mw_711 dX11_looked_80 ?_
          refine lv_aload_n hx hb dX11_looked_83 rfl (lv_at hl 1 rfl) ?_
          refine get_11_0 C hP (lr_0 hL) (lk_0 hL) inlX11 mw_15 (lf_0_0 hL) dX11_looked_84 ?_
          refine get_8_12 C hP (lr_1 hL) (lk_1 hL) inlX8 mw_989 (lf_1_12 hL) dX11_looked_87 ?_
          refine lv_iload_n hx hb dX11_looked_90 rfl (lv_at hl 2 rfl) ?_
          obtain ⟨r8, hq8, hF⟩ := bn_1 hF
          refine x_callS C hP hS (c_X11_valueAt hL ⟨(lr_13 hL), (lk_13 hL), (ln_13 hL)⟩ hq8) (va_cwS 2 C.1.2.2.2.2 (gdS mw_750 mw_557 mw_2 mw_558) rfl rfl rfl hd_X11_valueAt.2 ⟨Nat.le_of_ble_eq_true rfl, Nat.le_of_ble_eq_true rfl⟩) rfl rfl hl.1 (Nat.le_of_ble_eq_true rfl) ⟨Nat.zero_le _, Nat.zero_le _⟩ dX11_looked_91 (fun H locs hP hS => ?_)
          refine lv_icmp_eq (tgt := 99) hx hb dX11_looked_94 (by decide) (fun c_9 => ?_) (fun c_9 => ?_) -- COND 9 by_cases c_9 : (σ6 37 7) = r8
          · have hF := ite_t hF c_9
            obtain ⟨x10, ex10, hF⟩ := nm_1 hF
            refine lv_iinc (v := x10) (lv' := [(1, .int x10), (2, .ref (ad c5)), (0, .ref (ad 0))]) hx hb dX11_looked_99 hl (k := 2) rfl (by rw [ex10]; first | rfl | decide) (by decide) rfl (fun ls hl => ?_)
            refine lv_goto (tgt := 16) hx hb dX11_looked_102 (by decide) ?_
            exact ih _ _ _ _ _ _ hρ0 hL hF hP hS (lv_sub hl [2, 0] rfl)
          · have hF := ite_f hF c_9
            refine lv_iload_n hx hb dX11_looked_97 rfl (lv_at hl 2 rfl) ?_
            obtain ⟨rfl, rfl⟩ := ret_2 hF
            subst hρ0
            exact x_iret rfl C hP hS dX11_looked_98
        · have hF := ite_t hF c_7
          refine lv_iload_n hx hb dX11_looked_74 rfl (lv_at hl 2 rfl) ?_
          obtain ⟨rfl, rfl⟩ := ret_2 hF
          subst hρ0
          exact x_iret rfl C hP hS dX11_looked_75
set_option maxHeartbeats 4000000 in
set_option maxRecDepth 100000 in
theorem w_X11_looked_0 {N : Nat} {K len : Nat → Nat} {p : Program} {e : Env} {s : State} {m : MethodId} {args : Array Value} {below : List Frame} {meth : Method} {c : Code} {ρ0 : RG} {r : Int32} {σ1 : SG} (C : Cx Y D N ad p s m args meth c cX11_looked 3 (some .int) RX11 wsL_law) {σ : SG} {ρ : RG} {H : Heap} {locs : List Loc} {ls : Array Slot} (hρ0 : ρ = ρ0) (hL : Lay N K len ρ) (hF : F_X11_looked N K len σ ρ = some (r, σ1)) (hP : WP Y D N ad K len σ ρ H) (hS : va_S (AA N ad s.heap.size) s.heap H locs) (hl : lv_has ls 3 [(0, .ref (ad 0))]) : W p l e rm_X11_looked s m args below meth c H locs 0 0 (MQ below (QW Y D N ad K len σ1 ρ0 (AA N ad s.heap.size) (some (.int r))) args s 0 0 (AA N ad s.heap.size)) (F0 m 0 ls []) := by
  have hx := C.1.1
  have hb := C.1.2.1
  unfold F_X11_looked at hF
  refine lv_aload_n hx hb dX11_looked_0 rfl (lv_at hl 0 rfl) ?_
  refine get_11_11 C hP (lr_0 hL) (lk_0 hL) inlX11 mw_32 (lf_0_11 hL) dX11_looked_1 ?_
  refine lv_aload_n hx hb dX11_looked_4 rfl (lv_at hl 0 rfl) ?_
  refine get_11_0 C hP (lr_0 hL) (lk_0 hL) inlX11 mw_15 (lf_0_0 hL) dX11_looked_5 ?_
  refine get_8_2 C hP (lr_1 hL) (lk_1 hL) inlX8 mw_488 (lf_1_2 hL) dX11_looked_8 ?_
  obtain ⟨σ1, hq1, hF⟩ := bn_1 hF
  refine x_callV (ci := 3) rfl rfl C hP hS (c_X3_takes hL (il_37 hL) (il_3 hL) hq1) (lr_37 hL) (lk_37 hL) (cwV 1 C.1.2.2.2.2 (gdV mw_720 mw_721 mw_722 mw_31 mw_723) rfl rfl rfl hd_X3_takes ⟨Nat.le_of_ble_eq_true rfl, Nat.le_of_ble_eq_true rfl⟩) rfl rfl hl.1 (Nat.le_of_ble_eq_true rfl) ⟨Nat.zero_le _, Nat.zero_le _⟩ dX11_looked_11 (fun H locs hP hS => ?_)
  refine lv_iconst (v := 0) hx hb dX11_looked_14 (by decide) ?_
  refine lv_istore_n (lv' := [(1, .int (0 : Int32)), (0, .ref (ad 0))]) hx hb dX11_looked_15 rfl hl (by decide) rfl (fun ls hl => ?_)
  exact w_X11_looked_16 C 1024 _ _ _ _ _ _ hρ0 hL hF hP hS (lv_sub hl [1, 0] rfl)
set_option maxHeartbeats 4000000 in
set_option maxRecDepth 100000 in
theorem c_X11_looked {N : Nat} {K len : Nat → Nat} {r : Int32} {σ1 : SG} {σ : SG} {ρ : RG} (hL : Lay N K len ρ) (hF : F_X11_looked N K len σ ρ = some (r, σ1)) : MT l Y D N ad K len yX11_looked (Cond.code yX11_looked cX11_looked 3 (some .int) :: wsL_law) rm_X11_looked [.ref (ad 0)] σ ρ (some (.int r)) σ1 ρ := by
  refine mt_of (cc := cX11_looked) (nL := 3) (ret := (some .int)) (by decide) (Nat.le_of_ble_eq_true rfl) ?_
  intro p e s m args below meth c ls C hnm hP hS hl
  exact w_X11_looked_0 C rfl hL hF hP hS hl
end GEN
