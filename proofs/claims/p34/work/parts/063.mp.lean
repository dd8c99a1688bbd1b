/-! PART 063.mp: printed by wip/gen -/
section GEN
variable {l : Launch} {Y : YT} {D : va_G} {N : Nat} {ad K len : Nat → Nat}
variable {fR lR : Nat}
/-! CutCrookedModel.private void spells(java.lang.String);  -/
theorem dX12_spells_0 : decode cX12_spells 0 = .ok (.iconst 0, 1) := by decide +kernel
theorem dX12_spells_1 : decode cX12_spells 1 = .ok (.istore_n 2, 1) := by decide +kernel
theorem dX12_spells_2 : decode cX12_spells 2 = .ok (.iload_n 2, 1) := by decide +kernel
theorem dX12_spells_3 : decode cX12_spells 3 = .ok (.aload_n 1, 1) := by decide +kernel
theorem dX12_spells_4 : decode cX12_spells 4 = .ok (.invokevirtual 65, 3) := by decide +kernel
theorem dX12_spells_7 : decode cX12_spells 7 = .ok (.if_icmp .ge 18, 3) := by decide +kernel
theorem dX12_spells_10 : decode cX12_spells 10 = .ok (.aload_n 0, 1) := by decide +kernel
theorem dX12_spells_11 : decode cX12_spells 11 = .ok (.aload_n 1, 1) := by decide +kernel
theorem dX12_spells_12 : decode cX12_spells 12 = .ok (.iload_n 2, 1) := by decide +kernel
theorem dX12_spells_13 : decode cX12_spells 13 = .ok (.invokevirtual 70, 3) := by decide +kernel
theorem dX12_spells_16 : decode cX12_spells 16 = .ok (.invokevirtual 74, 3) := by decide +kernel
theorem dX12_spells_19 : decode cX12_spells 19 = .ok (.iinc 2 1, 3) := by decide +kernel
theorem dX12_spells_22 : decode cX12_spells 22 = .ok (.goto (-20), 3) := by decide +kernel
theorem dX12_spells_25 : decode cX12_spells 25 = .ok (.return_, 1) := by decide +kernel
theorem hd_X12_spells : yX12_spells.cls = RX12 ∧ yX12_spells.cls ≠ "java/lang/invoke/MethodHandle" ∧ yX12_spells.cls ≠ "java/lang/invoke/VarHandle" ∧ (parseMethodDescriptor yX12_spells.desc).map (fun d => d.parameters.length) = some 1 := by decide +kernel
abbrev rm_X12_spells : Room := { frames := 4, cells := 0, slots := 0, locals := 85 }
def F_X12_spells_2 (w : Nat) : Nat → SG → RG → Int32 → Option (SG)
  | 0 => fun _ _ _ => none
  | n + 1 => fun σ ρ v2 =>
  bn (F_J0_length_8abf5 w σ ρ) fun r1 =>
  if r1 ≤ v2 then
    some σ
  else
    bn (F_J0_charAt_5068e w v2 σ ρ) fun r3 =>
    bn (F_X12_must r3 σ ρ) fun σ4 =>
    nm (v2 + (1 : Int32)) fun x5 =>
    F_X12_spells_2 w n σ4 ρ x5
def F_X12_spells (w : Nat) (σ : SG) (ρ : RG) : Option (SG) :=
  F_X12_spells_2 w 1024 σ ρ (0 : Int32)
set_option maxHeartbeats 4000000 in
set_option maxRecDepth 100000 in
theorem w_X12_spells_2 {w : Nat} {p : Program} {e : Env} {s : State} {m : MethodId} {args : Array Value} {below : List Frame} {meth : Method} {c : Code} {ρ0 : RG} {σ1 : SG} (C : Cx Y D N ad p s m args meth c cX12_spells 3 none RX12 wsL_law) : ∀ (n : Nat) (σ : SG) (ρ : RG) (v2 : Int32) (H : Heap) (locs : List Loc) (ls : Array Slot), ρ = ρ0 → Lay N K len ρ → w < 6 → F_X12_spells_2 w n σ ρ v2 = some σ1 → WP Y D N ad K len σ ρ H → va_S (AA N ad s.heap.size) s.heap H locs → lv_has ls 3 [(0, .ref (ad 54)), (1, .ref (saK Y w)), (2, .int v2)] → W p l e rm_X12_spells s m args below meth c H locs 0 0 (MQ below (QW Y D N ad K len σ1 ρ0 (AA N ad s.heap.size) none) args s 0 0 (AA N ad s.heap.size)) (F0 m 2 ls []) := by
  have hx := C.1.1
  have hb := C.1.2.1
  intro n
  induction n with
  | zero => intro σ ρ v2 H locs ls hρ0 hL hw hF; cases hF
  | succ n ih =>
    intro σ ρ v2 H locs ls hρ0 hL hw hF hP hS hl
    unfold F_X12_spells_2 at hF
    refine lv_iload_n hx hb dX12_spells_2 rfl (lv_at hl 2 rfl) ?_
    refine lv_aload_n hx hb dX12_spells_3 rfl (lv_at hl 1 rfl) ?_
    obtain ⟨r1, hq1, hF⟩ := bn_1 hF
    refine x_callVs hw C hP hS (c_J0_length_8abf5 hL hw hq1) (cwV 0 C.1.2.2.2.2 (gdV mw_314 mw_137 mw_138 mw_139 mw_140) rfl rfl rfl hd_J0_length_8abf5 ⟨Nat.le_of_ble_eq_true rfl, Nat.le_of_ble_eq_true rfl⟩) rfl rfl hl.1 (Nat.le_of_ble_eq_true rfl) ⟨Nat.zero_le _, Nat.zero_le _⟩ dX12_spells_4 (fun H locs hP hS => ?_)
    refine lv_icmp_ge (tgt := 25) hx hb dX12_spells_7 (by decide) (fun c_2 => ?_) (fun c_2 => ?_) -- COND 2 by_cases c_2 : r1 ≤ v2
    · have hF := ite_t hF c_2
      obtain rfl := ret_1 hF
      subst hρ0
      exact x_vret rfl C hP hS dX12_spells_25
    · have hF := ite_f hF c_2
      refine lv_aload_n hx hb dX12_spells_10 rfl (lv_at hl 0 rfl) ?_
      refine lv_aload_n hx hb dX12_spells_11 rfl (lv_at hl 1 rfl) ?_
      refine lv_iload_n hx hb dX12_spells_12 rfl (lv_at hl 2 rfl) ?_
      obtain ⟨r3, hq3, hF⟩ := bn_1 hF
      refine x_callVs hw C hP hS (c_J0_charAt_5068e hL hw hq3) (cwV 1 C.1.2.2.2.2 (gdV mw_315 mw_149 mw_150 mw_139 mw_151) rfl rfl rfl hd_J0_charAt_5068e ⟨Nat.le_of_ble_eq_true rfl, Nat.le_of_ble_eq_true rfl⟩) rfl rfl hl.1 (Nat.le_of_ble_eq_true rfl) ⟨Nat.zero_le _, Nat.zero_le _⟩ dX12_spells_13 (fun H locs hP hS => ?_)
      obtain ⟨σ4, hq4, hF⟩ := bn_1 hF
      refine x_callV (ci := 12) rfl rfl C hP hS (c_X12_must hL hq4) (lr_54 hL) (lk_54 hL) (cwV 1 C.1.2.2.2.2 (gdV mw_316 mw_317 mw_318 mw_5 mw_319) rfl rfl rfl hd_X12_must ⟨Nat.le_of_ble_eq_true rfl, Nat.le_of_ble_eq_true rfl⟩) rfl rfl hl.1 (Nat.le_of_ble_eq_true rfl) ⟨Nat.zero_le _, Nat.zero_le _⟩ dX12_spells_16 (fun H locs hP hS => ?_)
      obtain ⟨x5, ex5, hF⟩ := nm_1 hF
      refine lv_iinc (v := x5) (lv' := [(2, .int x5), (0, .ref (ad 54)), (1, .ref (saK Y w))]) hx hb dX12_spells_19 hl (k := 2) rfl (by rw [ex5]; first | rfl | decide) (by decide) rfl (fun ls hl => ?_)
      refine lv_goto (tgt := 2) hx hb dX12_spells_22 (by decide) ?_
      exact ih _ _ _ _ _ _ hρ0 hL hw hF hP hS (lv_sub hl [1, 2, 0] rfl)
set_option maxHeartbeats 4000000 in
set_option maxRecDepth 100000 in
theorem w_X12_spells_0 {w : Nat} {p : Program} {e : Env} {s : State} {m : MethodId} {args : Array Value} {below : List Frame} {meth : Method} {c : Code} {ρ0 : RG} {σ1 : SG} (C : Cx Y D N ad p s m args meth c cX12_spells 3 none RX12 wsL_law) {σ : SG} {ρ : RG} {H : Heap} {locs : List Loc} {ls : Array Slot} (hρ0 : ρ = ρ0) (hL : Lay N K len ρ) (hw : w < 6) (hF : F_X12_spells w σ ρ = some σ1) (hP : WP Y D N ad K len σ ρ H) (hS : va_S (AA N ad s.heap.size) s.heap H locs) (hl : lv_has ls 3 [(0, .ref (ad 54)), (1, .ref (saK Y w))]) : W p l e rm_X12_spells s m args below meth c H locs 0 0 (MQ below (QW Y D N ad K len σ1 ρ0 (AA N ad s.heap.size) none) args s 0 0 (AA N ad s.heap.size)) (F0 m 0 ls []) := by
  have hx := C.1.1
  have hb := C.1.2.1
  unfold F_X12_spells at hF
  refine lv_iconst (v := 0) hx hb dX12_spells_0 (by decide) ?_
  refine lv_istore_n (lv' := [(2, .int (0 : Int32)), (0, .ref (ad 54)), (1, .ref (saK Y w))]) hx hb dX12_spells_1 rfl hl (by decide) rfl (fun ls hl => ?_)
  exact w_X12_spells_2 C 1024 _ _ _ _ _ _ hρ0 hL hw hF hP hS (lv_sub hl [1, 2, 0] rfl)
set_option maxHeartbeats 4000000 in
set_option maxRecDepth 100000 in
theorem c_X12_spells {w : Nat} {σ1 : SG} {σ : SG} {ρ : RG} (hL : Lay N K len ρ) (hw : w < 6) (hF : F_X12_spells w σ ρ = some σ1) : MT l Y D N ad K len yX12_spells (Cond.code yX12_spells cX12_spells 3 none :: wsL_law) rm_X12_spells [.ref (ad 54), .ref (saK Y w)] σ ρ none σ1 ρ := by
  refine mt_of (cc := cX12_spells) (nL := 3) (ret := none) (by decide) (Nat.le_of_ble_eq_true rfl) ?_
  intro p e s m args below meth c ls C hnm hP hS hl
  exact w_X12_spells_0 C rfl hL hw hF hP hS hl

/-! CutCrookedModel.private int among(java.lang.String);  -/
theorem dX12_among_0 : decode cX12_among 0 = .ok (.iconst 0, 1) := by decide +kernel
theorem dX12_among_1 : decode cX12_among 1 = .ok (.istore_n 2, 1) := by decide +kernel
theorem dX12_among_2 : decode cX12_among 2 = .ok (.iload_n 2, 1) := by decide +kernel
theorem dX12_among_3 : decode cX12_among 3 = .ok (.aload_n 1, 1) := by decide +kernel
theorem dX12_among_4 : decode cX12_among 4 = .ok (.invokevirtual 65, 3) := by decide +kernel
theorem dX12_among_7 : decode cX12_among 7 = .ok (.if_icmp .ge 33, 3) := by decide +kernel
theorem dX12_among_10 : decode cX12_among 10 = .ok (.aload_n 0, 1) := by decide +kernel
theorem dX12_among_11 : decode cX12_among 11 = .ok (.invokevirtual 61, 3) := by decide +kernel
theorem dX12_among_14 : decode cX12_among 14 = .ok (.aload_n 1, 1) := by decide +kernel
theorem dX12_among_15 : decode cX12_among 15 = .ok (.iload_n 2, 1) := by decide +kernel
theorem dX12_among_16 : decode cX12_among 16 = .ok (.invokevirtual 70, 3) := by decide +kernel
theorem dX12_among_19 : decode cX12_among 19 = .ok (.if_icmp .ne 15, 3) := by decide +kernel
theorem dX12_among_22 : decode cX12_among 22 = .ok (.aload_n 0, 1) := by decide +kernel
theorem dX12_among_23 : decode cX12_among 23 = .ok (.dup, 1) := by decide +kernel
theorem dX12_among_24 : decode cX12_among 24 = .ok (.getfield 51, 3) := by decide +kernel
theorem dX12_among_27 : decode cX12_among 27 = .ok (.iconst 1, 1) := by decide +kernel
theorem dX12_among_28 : decode cX12_among 28 = .ok (.iadd, 1) := by decide +kernel
theorem dX12_among_29 : decode cX12_among 29 = .ok (.putfield 51, 3) := by decide +kernel
theorem dX12_among_32 : decode cX12_among 32 = .ok (.iload_n 2, 1) := by decide +kernel
theorem dX12_among_33 : decode cX12_among 33 = .ok (.ireturn, 1) := by decide +kernel
theorem dX12_among_34 : decode cX12_among 34 = .ok (.iinc 2 1, 3) := by decide +kernel
theorem dX12_among_37 : decode cX12_among 37 = .ok (.goto (-35), 3) := by decide +kernel
theorem dX12_among_40 : decode cX12_among 40 = .ok (.iconst (-1), 1) := by decide +kernel
theorem dX12_among_41 : decode cX12_among 41 = .ok (.ireturn, 1) := by decide +kernel
theorem hd_X12_among : yX12_among.cls = RX12 ∧ yX12_among.cls ≠ "java/lang/invoke/MethodHandle" ∧ yX12_among.cls ≠ "java/lang/invoke/VarHandle" ∧ (parseMethodDescriptor yX12_among.desc).map (fun d => d.parameters.length) = some 1 := by decide +kernel
abbrev rm_X12_among : Room := { frames := 4, cells := 0, slots := 0, locals := 85 }
def F_X12_among_2 (w : Nat) : Nat → SG → RG → Int32 → Option (Int32 × SG)
  | 0 => fun _ _ _ => none
  | n + 1 => fun σ ρ v2 =>
  bn (F_J0_length_8abf5 w σ ρ) fun r1 =>
  if r1 ≤ v2 then
    some ((-1 : Int32), σ)
  else
    bn (F_X12_here σ ρ) fun r3 =>
    bn (F_J0_charAt_5068e w v2 σ ρ) fun r4 =>
    if r3 = r4 then
      nm ((σ 54 6) + (1 : Int32)) fun x7 =>
      nm (s2 σ 54 6 x7) fun σ9 =>
      some (v2, σ9)
    else
      nm (v2 + (1 : Int32)) fun x6 =>
      F_X12_among_2 w n σ ρ x6
def F_X12_among (w : Nat) (σ : SG) (ρ : RG) : Option (Int32 × SG) :=
  F_X12_among_2 w 1024 σ ρ (0 : Int32)
set_option maxHeartbeats 4000000 in
set_option maxRecDepth 100000 in
theorem w_X12_among_2 {w : Nat} {p : Program} {e : Env} {s : State} {m : MethodId} {args : Array Value} {below : List Frame} {meth : Method} {c : Code} {ρ0 : RG} {r : Int32} {σ1 : SG} (C : Cx Y D N ad p s m args meth c cX12_among 3 (some .int) RX12 wsL_law) : ∀ (n : Nat) (σ : SG) (ρ : RG) (v2 : Int32) (H : Heap) (locs : List Loc) (ls : Array Slot), ρ = ρ0 → Lay N K len ρ → w < 6 → F_X12_among_2 w n σ ρ v2 = some (r, σ1) → WP Y D N ad K len σ ρ H → va_S (AA N ad s.heap.size) s.heap H locs → lv_has ls 3 [(0, .ref (ad 54)), (1, .ref (saK Y w)), (2, .int v2)] → W p l e rm_X12_among s m args below meth c H locs 0 0 (MQ below (QW Y D N ad K len σ1 ρ0 (AA N ad s.heap.size) (some (.int r))) args s 0 0 (AA N ad s.heap.size)) (F0 m 2 ls []) := by
  have hx := C.1.1
  have hb := C.1.2.1
  intro n
  induction n with
  | zero => intro σ ρ v2 H locs ls hρ0 hL hw hF; cases hF
  | succ n ih =>
    intro σ ρ v2 H locs ls hρ0 hL hw hF hP hS hl
    unfold F_X12_among_2 at hF
    refine lv_iload_n hx hb dX12_among_2 rfl (lv_at hl 2 rfl) ?_
    refine lv_aload_n hx hb dX12_among_3 rfl (lv_at hl 1 rfl) ?_
    obtain ⟨r1, hq1, hF⟩ := bn_1 hF
    refine x_callVs hw C hP hS (c_J0_length_8abf5 hL hw hq1) (cwV 0 C.1.2.2.2.2 (gdV mw_314 mw_137 mw_138 mw_139 mw_140) rfl rfl rfl hd_J0_length_8abf5 ⟨Nat.le_of_ble_eq_true rfl, Nat.le_of_ble_eq_true rfl⟩) rfl rfl hl.1 (Nat.le_of_ble_eq_true rfl) ⟨Nat.zero_le _, Nat.zero_le _⟩ dX12_among_4 (fun H locs hP hS => ?_)
    refine lv_icmp_ge (tgt := 40) hx hb dX12_among_7 (by decide) (fun c_2 => ?_) (fun c_2 => ?_) -- COND 2 by_cases c_2 : r1 ≤ v2
    · have hF := ite_t hF c_2
      refine lv_iconst (v := -1) hx hb dX12_among_40 (by decide) ?_
      obtain ⟨rfl, rfl⟩ := ret_2 hF
      subst hρ0
      exact x_iret rfl C hP hS dX12_among_41
    · have hF := ite_f hF c_2
      refine lv_aload_n hx hb dX12_among_10 rfl (lv_at hl 0 rfl) ?_
      obtain ⟨r3, hq3, hF⟩ := bn_1 hF
      refine x_callV (ci := 12) rfl rfl C hP hS (c_X12_here hL hq3) (lr_54 hL) (lk_54 hL) (cwV 0 C.1.2.2.2.2 (gdV mw_302 mw_303 mw_304 mw_5 mw_305) rfl rfl rfl hd_X12_here ⟨Nat.le_of_ble_eq_true rfl, Nat.le_of_ble_eq_true rfl⟩) rfl rfl hl.1 (Nat.le_of_ble_eq_true rfl) ⟨Nat.zero_le _, Nat.zero_le _⟩ dX12_among_11 (fun H locs hP hS => ?_)
      refine lv_aload_n hx hb dX12_among_14 rfl (lv_at hl 1 rfl) ?_
      refine lv_iload_n hx hb dX12_among_15 rfl (lv_at hl 2 rfl) ?_
      obtain ⟨r4, hq4, hF⟩ := bn_1 hF
      refine x_callVs hw C hP hS (c_J0_charAt_5068e hL hw hq4) (cwV 1 C.1.2.2.2.2 (gdV mw_315 mw_149 mw_150 mw_139 mw_151) rfl rfl rfl hd_J0_charAt_5068e ⟨Nat.le_of_ble_eq_true rfl, Nat.le_of_ble_eq_true rfl⟩) rfl rfl hl.1 (Nat.le_of_ble_eq_true rfl) ⟨Nat.zero_le _, Nat.zero_le _⟩ dX12_among_16 (fun H locs hP hS => ?_)
      refine lv_icmp_ne (tgt := 34) hx hb dX12_among_19 (by decide) (fun c_5 => ?_) (fun c_5 => ?_) -- COND 5 rcases (Decidable.em (r3 = r4)).symm with c_5 | c_5
      · have hF := ite_f hF c_5
        obtain ⟨x6, ex6, hF⟩ := nm_1 hF
        refine lv_iinc (v := x6) (lv' := [(2, .int x6), (0, .ref (ad 54)), (1, .ref (saK Y w))]) hx hb dX12_among_34 hl (k := 2) rfl (by rw [ex6]; first | rfl | decide) (by decide) rfl (fun ls hl => ?_)
        refine lv_goto (tgt := 2) hx hb dX12_among_37 (by decide) ?_
        exact ih _ _ _ _ _ _ hρ0 hL hw hF hP hS (lv_sub hl [1, 2, 0] rfl)
      · have hF := ite_t hF c_5
        refine lv_aload_n hx hb dX12_among_22 rfl (lv_at hl 0 rfl) ?_
        refine lv_dup hx hb dX12_among_23 rfl ?_
        refine get_12_6 C hP (lr_54 hL) (lk_54 hL) inlX12 mw_295 dX12_among_24 ?_
        refine lv_iconst (v := 1) hx hb dX12_among_27 (by decide) ?_
        refine lv_iadd hx hb dX12_among_28 ?_
        obtain ⟨x7, ex7, hF⟩ := nm_1 hF
        refine x_top ex7 ?_
        obtain ⟨σ9, eσ9, hF⟩ := nm_1 hF
        refine put_12_6 C hP hS (lr_54 hL) (lk_54 hL) inlX12 mw_295 eσ9 dX12_among_29 (fun H locs hP hS => ?_)
        refine lv_iload_n hx hb dX12_among_32 rfl (lv_at hl 2 rfl) ?_
        obtain ⟨rfl, rfl⟩ := ret_2 hF
        subst hρ0
        exact x_iret rfl C hP hS dX12_among_33
set_option maxHeartbeats 4000000 in
set_option maxRecDepth 100000 in
theorem w_X12_among_0 {w : Nat} {p : Program} {e : Env} {s : State} {m : MethodId} {args : Array Value} {below : List Frame} {meth : Method} {c : Code} {ρ0 : RG} {r : Int32} {σ1 : SG} (C : Cx Y D N ad p s m args meth c cX12_among 3 (some .int) RX12 wsL_law) {σ : SG} {ρ : RG} {H : Heap} {locs : List Loc} {ls : Array Slot} (hρ0 : ρ = ρ0) (hL : Lay N K len ρ) (hw : w < 6) (hF : F_X12_among w σ ρ = some (r, σ1)) (hP : WP Y D N ad K len σ ρ H) (hS : va_S (AA N ad s.heap.size) s.heap H locs) (hl : lv_has ls 3 [(0, .ref (ad 54)), (1, .ref (saK Y w))]) : W p l e rm_X12_among s m args below meth c H locs 0 0 (MQ below (QW Y D N ad K len σ1 ρ0 (AA N ad s.heap.size) (some (.int r))) args s 0 0 (AA N ad s.heap.size)) (F0 m 0 ls []) := by
  have hx := C.1.1
  have hb := C.1.2.1
  unfold F_X12_among at hF
  refine lv_iconst (v := 0) hx hb dX12_among_0 (by decide) ?_
  refine lv_istore_n (lv' := [(2, .int (0 : Int32)), (0, .ref (ad 54)), (1, .ref (saK Y w))]) hx hb dX12_among_1 rfl hl (by decide) rfl (fun ls hl => ?_)
  exact w_X12_among_2 C 1024 _ _ _ _ _ _ hρ0 hL hw hF hP hS (lv_sub hl [1, 2, 0] rfl)
set_option maxHeartbeats 4000000 in
set_option maxRecDepth 100000 in
theorem c_X12_among {w : Nat} {r : Int32} {σ1 : SG} {σ : SG} {ρ : RG} (hL : Lay N K len ρ) (hw : w < 6) (hF : F_X12_among w σ ρ = some (r, σ1)) : MT l Y D N ad K len yX12_among (Cond.code yX12_among cX12_among 3 (some .int) :: wsL_law) rm_X12_among [.ref (ad 54), .ref (saK Y w)] σ ρ (some (.int r)) σ1 ρ := by
  refine mt_of (cc := cX12_among) (nL := 3) (ret := (some .int)) (by decide) (Nat.le_of_ble_eq_true rfl) ?_
  intro p e s m args below meth c ls C hnm hP hS hl
  exact w_X12_among_0 C rfl hL hw hF hP hS hl

theorem hd_X12_factor : yX12_factor.cls = RX12 ∧ yX12_factor.cls ≠ "java/lang/invoke/MethodHandle" ∧ yX12_factor.cls ≠ "java/lang/invoke/VarHandle" ∧ (parseMethodDescriptor yX12_factor.desc).map (fun d => d.parameters.length) = some 0 := by decide +kernel

/-! CutCrookedModel.private void every(); B -/
theorem dX12_every_0 : decode cX12_every 0 = .ok (.aload_n 0, 1) := by decide +kernel
theorem dX12_every_1 : decode cX12_every 1 = .ok (.invokevirtual 84, 3) := by decide +kernel
theorem dX12_every_4 : decode cX12_every 4 = .ok (.aload_n 0, 1) := by decide +kernel
theorem dX12_every_5 : decode cX12_every 5 = .ok (.getfield 57, 3) := by decide +kernel
theorem dX12_every_8 : decode cX12_every 8 = .ok (.ifCond .ne 35, 3) := by decide +kernel
theorem dX12_every_11 : decode cX12_every 11 = .ok (.aload_n 0, 1) := by decide +kernel
theorem dX12_every_12 : decode cX12_every 12 = .ok (.invokevirtual 61, 3) := by decide +kernel
theorem dX12_every_15 : decode cX12_every 15 = .ok (.bipush 38, 2) := by decide +kernel
theorem dX12_every_17 : decode cX12_every 17 = .ok (.if_icmp .ne 26, 3) := by decide +kernel
theorem dX12_every_20 : decode cX12_every 20 = .ok (.aload_n 0, 1) := by decide +kernel
theorem dX12_every_21 : decode cX12_every 21 = .ok (.dup, 1) := by decide +kernel
theorem dX12_every_22 : decode cX12_every 22 = .ok (.getfield 51, 3) := by decide +kernel
theorem dX12_every_25 : decode cX12_every 25 = .ok (.iconst 1, 1) := by decide +kernel
theorem dX12_every_26 : decode cX12_every 26 = .ok (.iadd, 1) := by decide +kernel
theorem dX12_every_27 : decode cX12_every 27 = .ok (.putfield 51, 3) := by decide +kernel
theorem dX12_every_30 : decode cX12_every 30 = .ok (.aload_n 0, 1) := by decide +kernel
theorem dX12_every_31 : decode cX12_every 31 = .ok (.invokevirtual 84, 3) := by decide +kernel
theorem dX12_every_34 : decode cX12_every 34 = .ok (.aload_n 0, 1) := by decide +kernel
theorem dX12_every_35 : decode cX12_every 35 = .ok (.bipush (-2), 2) := by decide +kernel
theorem dX12_every_37 : decode cX12_every 37 = .ok (.invokevirtual 87, 3) := by decide +kernel
theorem dX12_every_40 : decode cX12_every 40 = .ok (.goto (-36), 3) := by decide +kernel
theorem dX12_every_43 : decode cX12_every 43 = .ok (.return_, 1) := by decide +kernel
theorem hd_X12_every : yX12_every.cls = RX12 ∧ yX12_every.cls ≠ "java/lang/invoke/MethodHandle" ∧ yX12_every.cls ≠ "java/lang/invoke/VarHandle" ∧ (parseMethodDescriptor yX12_every.desc).map (fun d => d.parameters.length) = some 0 := by decide +kernel
abbrev rm_X12_every_B (fR lR : Nat) : Room := { frames := 1 + fR + 1, cells := 0, slots := 0, locals := 24 + lR }
def F_X12_every_B_4 (R : SG → RG → Option (SG)) : Nat → SG → RG → Option (SG)
  | 0 => fun _ _ => none
  | n + 1 => fun σ ρ =>
  if (σ 54 8) = 0 then
    bn (F_X12_here σ ρ) fun r3 =>
    if r3 = (38 : Int32) then
      nm ((σ 54 6) + (1 : Int32)) fun x5 =>
      nm (s2 σ 54 6 x5) fun σ7 =>
      bn (R σ7 ρ) fun σ8 =>
      bn (F_X12_emits (-2 : Int32) σ8 ρ) fun σ9 =>
      F_X12_every_B_4 R n σ9 ρ
    else
      some σ
  else
    some σ
def F_X12_every_B (R : SG → RG → Option (SG)) (σ : SG) (ρ : RG) : Option (SG) :=
  bn (R σ ρ) fun σ1 =>
  F_X12_every_B_4 R 1024 σ1 ρ
set_option maxHeartbeats 4000000 in
set_option maxRecDepth 100000 in
theorem w_X12_every_B_4 {R : SG → RG → Option (SG)} {p : Program} {e : Env} {s : State} {m : MethodId} {args : Array Value} {below : List Frame} {meth : Method} {c : Code} {ρ0 : RG} {σ1 : SG} (C : Cx Y D N ad p s m args meth c cX12_every 1 none RX12 wsL_law) : ∀ (n : Nat) (σ : SG) (ρ : RG) (H : Heap) (locs : List Loc) (ls : Array Slot), ρ = ρ0 → Lay N K len ρ → (∀ {σ1 : SG} {σ : SG} {ρ : RG}, Lay N K len ρ → R σ ρ = some σ1 → MT l Y D N ad K len yX12_factor (Cond.code yX12_factor cX12_factor 5 none :: wsL_law) (rmk fR lR) [.ref (ad 54)] σ ρ none σ1 ρ) → F_X12_every_B_4 R n σ ρ = some σ1 → WP Y D N ad K len σ ρ H → va_S (AA N ad s.heap.size) s.heap H locs → lv_has ls 1 [(0, .ref (ad 54))] → W p l e (rm_X12_every_B fR lR) s m args below meth c H locs 0 0 (MQ below (QW Y D N ad K len σ1 ρ0 (AA N ad s.heap.size) none) args s 0 0 (AA N ad s.heap.size)) (F0 m 4 ls []) := by
  have hx := C.1.1
  have hb := C.1.2.1
  intro n
  induction n with
  | zero => intro σ ρ H locs ls hρ0 hL hRM hF; cases hF
  | succ n ih =>
    intro σ ρ H locs ls hρ0 hL hRM hF hP hS hl
    unfold F_X12_every_B_4 at hF
    refine lv_aload_n hx hb dX12_every_4 rfl (lv_at hl 0 rfl) ?_
    refine get_12_8 C hP (lr_54 hL) (lk_54 hL) inlX12 mw_296 dX12_every_5 ?_
    refine lv_if_ne (tgt := 43) hx hb dX12_every_8 (by decide) (fun c_2 => ?_) (fun c_2 => ?_) -- COND 2 rcases (Decidable.em ((σ 54 8) = 0)).symm with c_2 | c_2
    · have hF := ite_f hF c_2
      obtain rfl := ret_1 hF
      subst hρ0
      exact x_vret rfl C hP hS dX12_every_43
    · have hF := ite_t hF c_2
      refine lv_aload_n hx hb dX12_every_11 rfl (lv_at hl 0 rfl) ?_
      obtain ⟨r3, hq3, hF⟩ := bn_1 hF
      refine x_callV (ci := 12) rfl rfl C hP hS (c_X12_here hL hq3) (lr_54 hL) (lk_54 hL) (cwV 0 C.1.2.2.2.2 (gdV mw_302 mw_303 mw_304 mw_5 mw_305) rfl rfl rfl hd_X12_here ⟨by show 1 ≤ 1 + fR + 1; omega, by show 20 ≤ 24 + lR; omega⟩) rfl rfl hl.1 (Nat.le_of_ble_eq_true rfl) ⟨Nat.zero_le _, Nat.zero_le _⟩ dX12_every_12 (fun H locs hP hS => ?_)
      refine lv_bipush (v := 38) hx hb dX12_every_15 (by decide +kernel) ?_
      refine lv_icmp_ne (tgt := 43) hx hb dX12_every_17 (by decide) (fun c_4 => ?_) (fun c_4 => ?_) -- COND 4 rcases (Decidable.em (r3 = (38 : Int32))).symm with c_4 | c_4
      · have hF := ite_f hF c_4
        obtain rfl := ret_1 hF
        subst hρ0
        exact x_vret rfl C hP hS dX12_every_43
      · have hF := ite_t hF c_4
        refine lv_aload_n hx hb dX12_every_20 rfl (lv_at hl 0 rfl) ?_
        refine lv_dup hx hb dX12_every_21 rfl ?_
        refine get_12_6 C hP (lr_54 hL) (lk_54 hL) inlX12 mw_295 dX12_every_22 ?_
        refine lv_iconst (v := 1) hx hb dX12_every_25 (by decide) ?_
        refine lv_iadd hx hb dX12_every_26 ?_
        obtain ⟨x5, ex5, hF⟩ := nm_1 hF
        refine x_top ex5 ?_
        obtain ⟨σ7, eσ7, hF⟩ := nm_1 hF
        refine put_12_6 C hP hS (lr_54 hL) (lk_54 hL) inlX12 mw_295 eσ7 dX12_every_27 (fun H locs hP hS => ?_)
        refine lv_aload_n hx hb dX12_every_30 rfl (lv_at hl 0 rfl) ?_
        obtain ⟨σ8, hq8, hF⟩ := bn_1 hF
        refine x_callV (ci := 12) rfl rfl C hP hS (hRM hL hq8) (lr_54 hL) (lk_54 hL) (cwV 0 C.1.2.2.2.2 (gdV mw_340 mw_341 mw_342 mw_5 mw_343) rfl rfl rfl hd_X12_factor ⟨by show fR + 1 ≤ 1 + fR + 1; omega, by show 24 + lR ≤ 24 + lR; omega⟩) rfl rfl hl.1 (Nat.le_of_ble_eq_true rfl) ⟨Nat.zero_le _, Nat.zero_le _⟩ dX12_every_31 (fun H locs hP hS => ?_)
        refine lv_aload_n hx hb dX12_every_34 rfl (lv_at hl 0 rfl) ?_
        refine lv_bipush (v := -2) hx hb dX12_every_35 (by decide +kernel) ?_
        obtain ⟨σ9, hq9, hF⟩ := bn_1 hF
        refine x_callV (ci := 12) rfl rfl C hP hS (c_X12_emits hL hq9) (lr_54 hL) (lk_54 hL) (cwV 1 C.1.2.2.2.2 (gdV mw_335 mw_336 mw_337 mw_5 mw_338) rfl rfl rfl hd_X12_emits ⟨by show 1 ≤ 1 + fR + 1; omega, by show 21 ≤ 24 + lR; omega⟩) rfl rfl hl.1 (Nat.le_of_ble_eq_true rfl) ⟨Nat.zero_le _, Nat.zero_le _⟩ dX12_every_37 (fun H locs hP hS => ?_)
        refine lv_goto (tgt := 4) hx hb dX12_every_40 (by decide) ?_
        exact ih _ _ _ _ _ hρ0 hL hRM hF hP hS (lv_sub hl [0] rfl)
set_option maxHeartbeats 4000000 in
set_option maxRecDepth 100000 in
theorem w_X12_every_B_0 {R : SG → RG → Option (SG)} {p : Program} {e : Env} {s : State} {m : MethodId} {args : Array Value} {below : List Frame} {meth : Method} {c : Code} {ρ0 : RG} {σ1 : SG} (C : Cx Y D N ad p s m args meth c cX12_every 1 none RX12 wsL_law) {σ : SG} {ρ : RG} {H : Heap} {locs : List Loc} {ls : Array Slot} (hρ0 : ρ = ρ0) (hL : Lay N K len ρ) (hRM : (∀ {σ1 : SG} {σ : SG} {ρ : RG}, Lay N K len ρ → R σ ρ = some σ1 → MT l Y D N ad K len yX12_factor (Cond.code yX12_factor cX12_factor 5 none :: wsL_law) (rmk fR lR) [.ref (ad 54)] σ ρ none σ1 ρ)) (hF : F_X12_every_B R σ ρ = some σ1) (hP : WP Y D N ad K len σ ρ H) (hS : va_S (AA N ad s.heap.size) s.heap H locs) (hl : lv_has ls 1 [(0, .ref (ad 54))]) : W p l e (rm_X12_every_B fR lR) s m args below meth c H locs 0 0 (MQ below (QW Y D N ad K len σ1 ρ0 (AA N ad s.heap.size) none) args s 0 0 (AA N ad s.heap.size)) (F0 m 0 ls []) := by
  have hx := C.1.1
  have hb := C.1.2.1
  unfold F_X12_every_B at hF
  refine lv_aload_n hx hb dX12_every_0 rfl (lv_at hl 0 rfl) ?_
  obtain ⟨σ1, hq1, hF⟩ := bn_1 hF
  refine x_callV (ci := 12) rfl rfl C hP hS (hRM hL hq1) (lr_54 hL) (lk_54 hL) (cwV 0 C.1.2.2.2.2 (gdV mw_340 mw_341 mw_342 mw_5 mw_343) rfl rfl rfl hd_X12_factor ⟨by show fR + 1 ≤ 1 + fR + 1; omega, by show 24 + lR ≤ 24 + lR; omega⟩) rfl rfl hl.1 (Nat.le_of_ble_eq_true rfl) ⟨Nat.zero_le _, Nat.zero_le _⟩ dX12_every_1 (fun H locs hP hS => ?_)
  exact w_X12_every_B_4 C 1024 _ _ _ _ _ hρ0 hL hRM hF hP hS (lv_sub hl [0] rfl)
set_option maxHeartbeats 4000000 in
set_option maxRecDepth 100000 in
theorem c_X12_every_B {R : SG → RG → Option (SG)} {σ1 : SG} {σ : SG} {ρ : RG} (hL : Lay N K len ρ) (hRM : (∀ {σ1 : SG} {σ : SG} {ρ : RG}, Lay N K len ρ → R σ ρ = some σ1 → MT l Y D N ad K len yX12_factor (Cond.code yX12_factor cX12_factor 5 none :: wsL_law) (rmk fR lR) [.ref (ad 54)] σ ρ none σ1 ρ)) (hF : F_X12_every_B R σ ρ = some σ1) : MT l Y D N ad K len yX12_every (Cond.code yX12_every cX12_every 1 none :: wsL_law) (rm_X12_every_B fR lR) [.ref (ad 54)] σ ρ none σ1 ρ := by
  refine mt_of (cc := cX12_every) (nL := 1) (ret := none) (by decide) (Nat.le_of_ble_eq_true rfl) ?_
  intro p e s m args below meth c ls C hnm hP hS hl
  exact w_X12_every_B_0 C rfl hL hRM hF hP hS hl

/-! CutCrookedModel.private void some(); B -/
theorem dX12_some_0 : decode cX12_some 0 = .ok (.aload_n 0, 1) := by decide +kernel
theorem dX12_some_1 : decode cX12_some 1 = .ok (.invokevirtual 104, 3) := by decide +kernel
theorem dX12_some_4 : decode cX12_some 4 = .ok (.aload_n 0, 1) := by decide +kernel
theorem dX12_some_5 : decode cX12_some 5 = .ok (.getfield 57, 3) := by decide +kernel
theorem dX12_some_8 : decode cX12_some 8 = .ok (.ifCond .ne 35, 3) := by decide +kernel
theorem dX12_some_11 : decode cX12_some 11 = .ok (.aload_n 0, 1) := by decide +kernel
theorem dX12_some_12 : decode cX12_some 12 = .ok (.invokevirtual 61, 3) := by decide +kernel
theorem dX12_some_15 : decode cX12_some 15 = .ok (.bipush 124, 2) := by decide +kernel
theorem dX12_some_17 : decode cX12_some 17 = .ok (.if_icmp .ne 26, 3) := by decide +kernel
theorem dX12_some_20 : decode cX12_some 20 = .ok (.aload_n 0, 1) := by decide +kernel
theorem dX12_some_21 : decode cX12_some 21 = .ok (.dup, 1) := by decide +kernel
theorem dX12_some_22 : decode cX12_some 22 = .ok (.getfield 51, 3) := by decide +kernel
theorem dX12_some_25 : decode cX12_some 25 = .ok (.iconst 1, 1) := by decide +kernel
theorem dX12_some_26 : decode cX12_some 26 = .ok (.iadd, 1) := by decide +kernel
theorem dX12_some_27 : decode cX12_some 27 = .ok (.putfield 51, 3) := by decide +kernel
theorem dX12_some_30 : decode cX12_some 30 = .ok (.aload_n 0, 1) := by decide +kernel
theorem dX12_some_31 : decode cX12_some 31 = .ok (.invokevirtual 104, 3) := by decide +kernel
theorem dX12_some_34 : decode cX12_some 34 = .ok (.aload_n 0, 1) := by decide +kernel
theorem dX12_some_35 : decode cX12_some 35 = .ok (.bipush (-3), 2) := by decide +kernel
theorem dX12_some_37 : decode cX12_some 37 = .ok (.invokevirtual 87, 3) := by decide +kernel
theorem dX12_some_40 : decode cX12_some 40 = .ok (.goto (-36), 3) := by decide +kernel
theorem dX12_some_43 : decode cX12_some 43 = .ok (.return_, 1) := by decide +kernel
theorem hd_X12_some : yX12_some.cls = RX12 ∧ yX12_some.cls ≠ "java/lang/invoke/MethodHandle" ∧ yX12_some.cls ≠ "java/lang/invoke/VarHandle" ∧ (parseMethodDescriptor yX12_some.desc).map (fun d => d.parameters.length) = some 0 := by decide +kernel
abbrev rm_X12_some_B (fR lR : Nat) : Room := { frames := 2 + fR + 1, cells := 0, slots := 0, locals := 44 + lR }
def F_X12_some_B_4 (R : SG → RG → Option (SG)) : Nat → SG → RG → Option (SG)
  | 0 => fun _ _ => none
  | n + 1 => fun σ ρ =>
  if (σ 54 8) = 0 then
    bn (F_X12_here σ ρ) fun r3 =>
    if r3 = (124 : Int32) then
      nm ((σ 54 6) + (1 : Int32)) fun x5 =>
      nm (s2 σ 54 6 x5) fun σ7 =>
      bn (F_X12_every_B R σ7 ρ) fun σ8 =>
      bn (F_X12_emits (-3 : Int32) σ8 ρ) fun σ9 =>
      F_X12_some_B_4 R n σ9 ρ
    else
      some σ
  else
    some σ
def F_X12_some_B (R : SG → RG → Option (SG)) (σ : SG) (ρ : RG) : Option (SG) :=
  bn (F_X12_every_B R σ ρ) fun σ1 =>
  F_X12_some_B_4 R 1024 σ1 ρ
set_option maxHeartbeats 4000000 in
set_option maxRecDepth 100000 in
theorem w_X12_some_B_4 {R : SG → RG → Option (SG)} {p : Program} {e : Env} {s : State} {m : MethodId} {args : Array Value} {below : List Frame} {meth : Method} {c : Code} {ρ0 : RG} {σ1 : SG} (C : Cx Y D N ad p s m args meth c cX12_some 1 none RX12 wsL_law) : ∀ (n : Nat) (σ : SG) (ρ : RG) (H : Heap) (locs : List Loc) (ls : Array Slot), ρ = ρ0 → Lay N K len ρ → (∀ {σ1 : SG} {σ : SG} {ρ : RG}, Lay N K len ρ → R σ ρ = some σ1 → MT l Y D N ad K len yX12_factor (Cond.code yX12_factor cX12_factor 5 none :: wsL_law) (rmk fR lR) [.ref (ad 54)] σ ρ none σ1 ρ) → F_X12_some_B_4 R n σ ρ = some σ1 → WP Y D N ad K len σ ρ H → va_S (AA N ad s.heap.size) s.heap H locs → lv_has ls 1 [(0, .ref (ad 54))] → W p l e (rm_X12_some_B fR lR) s m args below meth c H locs 0 0 (MQ below (QW Y D N ad K len σ1 ρ0 (AA N ad s.heap.size) none) args s 0 0 (AA N ad s.heap.size)) (F0 m 4 ls []) := by
  have hx := C.1.1
  have hb := C.1.2.1
  intro n
  induction n with
  | zero => intro σ ρ H locs ls hρ0 hL hRM hF; cases hF
  | succ n ih =>
    intro σ ρ H locs ls hρ0 hL hRM hF hP hS hl
    unfold F_X12_some_B_4 at hF
    refine lv_aload_n hx hb dX12_some_4 rfl (lv_at hl 0 rfl) ?_
    refine get_12_8 C hP (lr_54 hL) (lk_54 hL) inlX12 mw_296 dX12_some_5 ?_
    refine lv_if_ne (tgt := 43) hx hb dX12_some_8 (by decide) (fun c_2 => ?_) (fun c_2 => ?_) -- COND 2 rcases (Decidable.em ((σ 54 8) = 0)).symm with c_2 | c_2
    · have hF := ite_f hF c_2
      obtain rfl := ret_1 hF
      subst hρ0
      exact x_vret rfl C hP hS dX12_some_43
    · have hF := ite_t hF c_2
      refine lv_aload_n hx hb dX12_some_11 rfl (lv_at hl 0 rfl) ?_
      obtain ⟨r3, hq3, hF⟩ := bn_1 hF
      refine x_callV (ci := 12) rfl rfl C hP hS (c_X12_here hL hq3) (lr_54 hL) (lk_54 hL) (cwV 0 C.1.2.2.2.2 (gdV mw_302 mw_303 mw_304 mw_5 mw_305) rfl rfl rfl hd_X12_here ⟨by show 1 ≤ 2 + fR + 1; omega, by show 20 ≤ 44 + lR; omega⟩) rfl rfl hl.1 (Nat.le_of_ble_eq_true rfl) ⟨Nat.zero_le _, Nat.zero_le _⟩ dX12_some_12 (fun H locs hP hS => ?_)
      refine lv_bipush (v := 124) hx hb dX12_some_15 (by decide +kernel) ?_
      refine lv_icmp_ne (tgt := 43) hx hb dX12_some_17 (by decide) (fun c_4 => ?_) (fun c_4 => ?_) -- COND 4 rcases (Decidable.em (r3 = (124 : Int32))).symm with c_4 | c_4
      · have hF := ite_f hF c_4
        obtain rfl := ret_1 hF
        subst hρ0
        exact x_vret rfl C hP hS dX12_some_43
      · have hF := ite_t hF c_4
        refine lv_aload_n hx hb dX12_some_20 rfl (lv_at hl 0 rfl) ?_
        refine lv_dup hx hb dX12_some_21 rfl ?_
        refine get_12_6 C hP (lr_54 hL) (lk_54 hL) inlX12 mw_295 dX12_some_22 ?_
        refine lv_iconst (v := 1) hx hb dX12_some_25 (by decide) ?_
        refine lv_iadd hx hb dX12_some_26 ?_
        obtain ⟨x5, ex5, hF⟩ := nm_1 hF
        refine x_top ex5 ?_
        obtain ⟨σ7, eσ7, hF⟩ := nm_1 hF
        refine put_12_6 C hP hS (lr_54 hL) (lk_54 hL) inlX12 mw_295 eσ7 dX12_some_27 (fun H locs hP hS => ?_)
        refine lv_aload_n hx hb dX12_some_30 rfl (lv_at hl 0 rfl) ?_
        obtain ⟨σ8, hq8, hF⟩ := bn_1 hF
        refine x_callV (ci := 12) rfl rfl C hP hS (c_X12_every_B hL hRM hq8) (lr_54 hL) (lk_54 hL) (cwV 0 C.1.2.2.2.2 (gdV mw_332 mw_333 mw_334 mw_5 mw_339) rfl rfl rfl hd_X12_every ⟨by show 1 + fR + 1 + 1 ≤ 2 + fR + 1; omega, by show 20 + (24 + lR) ≤ 44 + lR; omega⟩) rfl rfl hl.1 (Nat.le_of_ble_eq_true rfl) ⟨Nat.zero_le _, Nat.zero_le _⟩ dX12_some_31 (fun H locs hP hS => ?_)
        refine lv_aload_n hx hb dX12_some_34 rfl (lv_at hl 0 rfl) ?_
        refine lv_bipush (v := -3) hx hb dX12_some_35 (by decide +kernel) ?_
        obtain ⟨σ9, hq9, hF⟩ := bn_1 hF
        refine x_callV (ci := 12) rfl rfl C hP hS (c_X12_emits hL hq9) (lr_54 hL) (lk_54 hL) (cwV 1 C.1.2.2.2.2 (gdV mw_335 mw_336 mw_337 mw_5 mw_338) rfl rfl rfl hd_X12_emits ⟨by show 1 ≤ 2 + fR + 1; omega, by show 21 ≤ 44 + lR; omega⟩) rfl rfl hl.1 (Nat.le_of_ble_eq_true rfl) ⟨Nat.zero_le _, Nat.zero_le _⟩ dX12_some_37 (fun H locs hP hS => ?_)
        refine lv_goto (tgt := 4) hx hb dX12_some_40 (by decide) ?_
        exact ih _ _ _ _ _ hρ0 hL hRM hF hP hS (lv_sub hl [0] rfl)
set_option maxHeartbeats 4000000 in
set_option maxRecDepth 100000 in
theorem w_X12_some_B_0 {R : SG → RG → Option (SG)} {p : Program} {e : Env} {s : State} {m : MethodId} {args : Array Value} {below : List Frame} {meth : Method} {c : Code} {ρ0 : RG} {σ1 : SG} (C : Cx Y D N ad p s m args meth c cX12_some 1 none RX12 wsL_law) {σ : SG} {ρ : RG} {H : Heap} {locs : List Loc} {ls : Array Slot} (hρ0 : ρ = ρ0) (hL : Lay N K len ρ) (hRM : (∀ {σ1 : SG} {σ : SG} {ρ : RG}, Lay N K len ρ → R σ ρ = some σ1 → MT l Y D N ad K len yX12_factor (Cond.code yX12_factor cX12_factor 5 none :: wsL_law) (rmk fR lR) [.ref (ad 54)] σ ρ none σ1 ρ)) (hF : F_X12_some_B R σ ρ = some σ1) (hP : WP Y D N ad K len σ ρ H) (hS : va_S (AA N ad s.heap.size) s.heap H locs) (hl : lv_has ls 1 [(0, .ref (ad 54))]) : W p l e (rm_X12_some_B fR lR) s m args below meth c H locs 0 0 (MQ below (QW Y D N ad K len σ1 ρ0 (AA N ad s.heap.size) none) args s 0 0 (AA N ad s.heap.size)) (F0 m 0 ls []) := by
  have hx := C.1.1
  have hb := C.1.2.1
  unfold F_X12_some_B at hF
  refine lv_aload_n hx hb dX12_some_0 rfl (lv_at hl 0 rfl) ?_
  obtain ⟨σ1, hq1, hF⟩ := bn_1 hF
  refine x_callV (ci := 12) rfl rfl C hP hS (c_X12_every_B hL hRM hq1) (lr_54 hL) (lk_54 hL) (cwV 0 C.1.2.2.2.2 (gdV mw_332 mw_333 mw_334 mw_5 mw_339) rfl rfl rfl hd_X12_every ⟨by show 1 + fR + 1 + 1 ≤ 2 + fR + 1; omega, by show 20 + (24 + lR) ≤ 44 + lR; omega⟩) rfl rfl hl.1 (Nat.le_of_ble_eq_true rfl) ⟨Nat.zero_le _, Nat.zero_le _⟩ dX12_some_1 (fun H locs hP hS => ?_)
  exact w_X12_some_B_4 C 1024 _ _ _ _ _ hρ0 hL hRM hF hP hS (lv_sub hl [0] rfl)
set_option maxHeartbeats 4000000 in
set_option maxRecDepth 100000 in
theorem c_X12_some_B {R : SG → RG → Option (SG)} {σ1 : SG} {σ : SG} {ρ : RG} (hL : Lay N K len ρ) (hRM : (∀ {σ1 : SG} {σ : SG} {ρ : RG}, Lay N K len ρ → R σ ρ = some σ1 → MT l Y D N ad K len yX12_factor (Cond.code yX12_factor cX12_factor 5 none :: wsL_law) (rmk fR lR) [.ref (ad 54)] σ ρ none σ1 ρ)) (hF : F_X12_some_B R σ ρ = some σ1) : MT l Y D N ad K len yX12_some (Cond.code yX12_some cX12_some 1 none :: wsL_law) (rm_X12_some_B fR lR) [.ref (ad 54)] σ ρ none σ1 ρ := by
  refine mt_of (cc := cX12_some) (nL := 1) (ret := none) (by decide) (Nat.le_of_ble_eq_true rfl) ?_
  intro p e s m args below meth c ls C hnm hP hS hl
  exact w_X12_some_B_0 C rfl hL hRM hF hP hS hl

/-! CutCrookedModel.private void factor(); B -/
theorem dX12_factor_0 : decode cX12_factor 0 = .ok (.aload_n 0, 1) := by decide +kernel
theorem dX12_factor_1 : decode cX12_factor 1 = .ok (.getfield 57, 3) := by decide +kernel
theorem dX12_factor_4 : decode cX12_factor 4 = .ok (.ifCond .eq 4, 3) := by decide +kernel
theorem dX12_factor_7 : decode cX12_factor 7 = .ok (.return_, 1) := by decide +kernel
theorem dX12_factor_8 : decode cX12_factor 8 = .ok (.aload_n 0, 1) := by decide +kernel
theorem dX12_factor_9 : decode cX12_factor 9 = .ok (.invokevirtual 61, 3) := by decide +kernel
theorem dX12_factor_12 : decode cX12_factor 12 = .ok (.istore_n 1, 1) := by decide +kernel
theorem dX12_factor_13 : decode cX12_factor 13 = .ok (.iload_n 1, 1) := by decide +kernel
theorem dX12_factor_14 : decode cX12_factor 14 = .ok (.bipush 33, 2) := by decide +kernel
theorem dX12_factor_16 : decode cX12_factor 16 = .ok (.if_icmp .eq 9, 3) := by decide +kernel
theorem dX12_factor_19 : decode cX12_factor 19 = .ok (.iload_n 1, 1) := by decide +kernel
theorem dX12_factor_20 : decode cX12_factor 20 = .ok (.bipush 40, 2) := by decide +kernel
theorem dX12_factor_22 : decode cX12_factor 22 = .ok (.if_icmp .ne 90, 3) := by decide +kernel
theorem dX12_factor_25 : decode cX12_factor 25 = .ok (.aload_n 0, 1) := by decide +kernel
theorem dX12_factor_26 : decode cX12_factor 26 = .ok (.aload_n 0, 1) := by decide +kernel
theorem dX12_factor_27 : decode cX12_factor 27 = .ok (.getfield 81, 3) := by decide +kernel
theorem dX12_factor_30 : decode cX12_factor 30 = .ok (.iconst 5, 1) := by decide +kernel
theorem dX12_factor_31 : decode cX12_factor 31 = .ok (.if_icmp .ne 7, 3) := by decide +kernel
theorem dX12_factor_34 : decode cX12_factor 34 = .ok (.iconst 1, 1) := by decide +kernel
theorem dX12_factor_35 : decode cX12_factor 35 = .ok (.goto 4, 3) := by decide +kernel
theorem dX12_factor_38 : decode cX12_factor 38 = .ok (.iconst 0, 1) := by decide +kernel
theorem dX12_factor_39 : decode cX12_factor 39 = .ok (.putfield 57, 3) := by decide +kernel
theorem dX12_factor_42 : decode cX12_factor 42 = .ok (.aload_n 0, 1) := by decide +kernel
theorem dX12_factor_43 : decode cX12_factor 43 = .ok (.dup, 1) := by decide +kernel
theorem dX12_factor_44 : decode cX12_factor 44 = .ok (.getfield 81, 3) := by decide +kernel
theorem dX12_factor_47 : decode cX12_factor 47 = .ok (.iconst 1, 1) := by decide +kernel
theorem dX12_factor_48 : decode cX12_factor 48 = .ok (.iadd, 1) := by decide +kernel
theorem dX12_factor_49 : decode cX12_factor 49 = .ok (.putfield 81, 3) := by decide +kernel
theorem dX12_factor_52 : decode cX12_factor 52 = .ok (.aload_n 0, 1) := by decide +kernel
theorem dX12_factor_53 : decode cX12_factor 53 = .ok (.dup, 1) := by decide +kernel
theorem dX12_factor_54 : decode cX12_factor 54 = .ok (.getfield 51, 3) := by decide +kernel
theorem dX12_factor_57 : decode cX12_factor 57 = .ok (.aload_n 0, 1) := by decide +kernel
theorem dX12_factor_58 : decode cX12_factor 58 = .ok (.getfield 57, 3) := by decide +kernel
theorem dX12_factor_61 : decode cX12_factor 61 = .ok (.ifCond .eq 7, 3) := by decide +kernel
theorem dX12_factor_64 : decode cX12_factor 64 = .ok (.iconst 0, 1) := by decide +kernel
theorem dX12_factor_65 : decode cX12_factor 65 = .ok (.goto 4, 3) := by decide +kernel
theorem dX12_factor_68 : decode cX12_factor 68 = .ok (.iconst 1, 1) := by decide +kernel
theorem dX12_factor_69 : decode cX12_factor 69 = .ok (.iadd, 1) := by decide +kernel
theorem dX12_factor_70 : decode cX12_factor 70 = .ok (.putfield 51, 3) := by decide +kernel
theorem dX12_factor_73 : decode cX12_factor 73 = .ok (.iload_n 1, 1) := by decide +kernel
theorem dX12_factor_74 : decode cX12_factor 74 = .ok (.bipush 33, 2) := by decide +kernel
theorem dX12_factor_76 : decode cX12_factor 76 = .ok (.if_icmp .ne 15, 3) := by decide +kernel
theorem dX12_factor_79 : decode cX12_factor 79 = .ok (.aload_n 0, 1) := by decide +kernel
theorem dX12_factor_80 : decode cX12_factor 80 = .ok (.invokevirtual 84, 3) := by decide +kernel
theorem dX12_factor_83 : decode cX12_factor 83 = .ok (.aload_n 0, 1) := by decide +kernel
theorem dX12_factor_84 : decode cX12_factor 84 = .ok (.iconst (-1), 1) := by decide +kernel
theorem dX12_factor_85 : decode cX12_factor 85 = .ok (.invokevirtual 87, 3) := by decide +kernel
theorem dX12_factor_88 : decode cX12_factor 88 = .ok (.goto 13, 3) := by decide +kernel
theorem dX12_factor_91 : decode cX12_factor 91 = .ok (.aload_n 0, 1) := by decide +kernel
theorem dX12_factor_92 : decode cX12_factor 92 = .ok (.invokevirtual 90, 3) := by decide +kernel
theorem dX12_factor_95 : decode cX12_factor 95 = .ok (.aload_n 0, 1) := by decide +kernel
theorem dX12_factor_96 : decode cX12_factor 96 = .ok (.bipush 41, 2) := by decide +kernel
theorem dX12_factor_98 : decode cX12_factor 98 = .ok (.invokevirtual 74, 3) := by decide +kernel
theorem dX12_factor_101 : decode cX12_factor 101 = .ok (.aload_n 0, 1) := by decide +kernel
theorem dX12_factor_102 : decode cX12_factor 102 = .ok (.dup, 1) := by decide +kernel
theorem dX12_factor_103 : decode cX12_factor 103 = .ok (.getfield 81, 3) := by decide +kernel
theorem dX12_factor_106 : decode cX12_factor 106 = .ok (.iconst 1, 1) := by decide +kernel
theorem dX12_factor_107 : decode cX12_factor 107 = .ok (.isub, 1) := by decide +kernel
theorem dX12_factor_108 : decode cX12_factor 108 = .ok (.putfield 81, 3) := by decide +kernel
theorem dX12_factor_111 : decode cX12_factor 111 = .ok (.return_, 1) := by decide +kernel
theorem dX12_factor_112 : decode cX12_factor 112 = .ok (.aload_n 0, 1) := by decide +kernel
theorem dX12_factor_113 : decode cX12_factor 113 = .ok (.ldc 93, 2) := by decide +kernel
theorem dX12_factor_115 : decode cX12_factor 115 = .ok (.invokevirtual 95, 3) := by decide +kernel
theorem dX12_factor_118 : decode cX12_factor 118 = .ok (.istore_n 2, 1) := by decide +kernel
theorem dX12_factor_119 : decode cX12_factor 119 = .ok (.aload_n 0, 1) := by decide +kernel
theorem dX12_factor_120 : decode cX12_factor 120 = .ok (.iload_n 2, 1) := by decide +kernel
theorem dX12_factor_121 : decode cX12_factor 121 = .ok (.iconst (-1), 1) := by decide +kernel
theorem dX12_factor_122 : decode cX12_factor 122 = .ok (.if_icmp .ne 7, 3) := by decide +kernel
theorem dX12_factor_125 : decode cX12_factor 125 = .ok (.iconst 1, 1) := by decide +kernel
theorem dX12_factor_126 : decode cX12_factor 126 = .ok (.goto 4, 3) := by decide +kernel
theorem dX12_factor_129 : decode cX12_factor 129 = .ok (.iconst 0, 1) := by decide +kernel
theorem dX12_factor_130 : decode cX12_factor 130 = .ok (.putfield 57, 3) := by decide +kernel
theorem dX12_factor_133 : decode cX12_factor 133 = .ok (.aload_n 0, 1) := by decide +kernel
theorem dX12_factor_134 : decode cX12_factor 134 = .ok (.getfield 57, 3) := by decide +kernel
theorem dX12_factor_137 : decode cX12_factor 137 = .ok (.ifCond .eq 7, 3) := by decide +kernel
theorem dX12_factor_140 : decode cX12_factor 140 = .ok (.iconst 0, 1) := by decide +kernel
theorem dX12_factor_141 : decode cX12_factor 141 = .ok (.goto 9, 3) := by decide +kernel
theorem dX12_factor_144 : decode cX12_factor 144 = .ok (.aload_n 0, 1) := by decide +kernel
theorem dX12_factor_145 : decode cX12_factor 145 = .ok (.ldc 99, 2) := by decide +kernel
theorem dX12_factor_147 : decode cX12_factor 147 = .ok (.invokevirtual 95, 3) := by decide +kernel
theorem dX12_factor_150 : decode cX12_factor 150 = .ok (.istore_n 3, 1) := by decide +kernel
theorem dX12_factor_151 : decode cX12_factor 151 = .ok (.aload_n 0, 1) := by decide +kernel
theorem dX12_factor_152 : decode cX12_factor 152 = .ok (.aload_n 0, 1) := by decide +kernel
theorem dX12_factor_153 : decode cX12_factor 153 = .ok (.getfield 57, 3) := by decide +kernel
theorem dX12_factor_156 : decode cX12_factor 156 = .ok (.ifCond .ne 8, 3) := by decide +kernel
theorem dX12_factor_159 : decode cX12_factor 159 = .ok (.iload_n 3, 1) := by decide +kernel
theorem dX12_factor_160 : decode cX12_factor 160 = .ok (.iconst (-1), 1) := by decide +kernel
theorem dX12_factor_161 : decode cX12_factor 161 = .ok (.if_icmp .ne 7, 3) := by decide +kernel
theorem dX12_factor_164 : decode cX12_factor 164 = .ok (.iconst 1, 1) := by decide +kernel
theorem dX12_factor_165 : decode cX12_factor 165 = .ok (.goto 4, 3) := by decide +kernel
theorem dX12_factor_168 : decode cX12_factor 168 = .ok (.iconst 0, 1) := by decide +kernel
theorem dX12_factor_169 : decode cX12_factor 169 = .ok (.putfield 57, 3) := by decide +kernel
theorem dX12_factor_172 : decode cX12_factor 172 = .ok (.aload_n 0, 1) := by decide +kernel
theorem dX12_factor_173 : decode cX12_factor 173 = .ok (.invokevirtual 101, 3) := by decide +kernel
theorem dX12_factor_176 : decode cX12_factor 176 = .ok (.istore 4, 2) := by decide +kernel
theorem dX12_factor_178 : decode cX12_factor 178 = .ok (.aload_n 0, 1) := by decide +kernel
theorem dX12_factor_179 : decode cX12_factor 179 = .ok (.iload_n 2, 1) := by decide +kernel
theorem dX12_factor_180 : decode cX12_factor 180 = .ok (.bipush 8, 2) := by decide +kernel
theorem dX12_factor_182 : decode cX12_factor 182 = .ok (.iload_n 3, 1) := by decide +kernel
theorem dX12_factor_183 : decode cX12_factor 183 = .ok (.imul, 1) := by decide +kernel
theorem dX12_factor_184 : decode cX12_factor 184 = .ok (.iadd, 1) := by decide +kernel
theorem dX12_factor_185 : decode cX12_factor 185 = .ok (.bipush 32, 2) := by decide +kernel
theorem dX12_factor_187 : decode cX12_factor 187 = .ok (.iload 4, 2) := by decide +kernel
theorem dX12_factor_189 : decode cX12_factor 189 = .ok (.imul, 1) := by decide +kernel
theorem dX12_factor_190 : decode cX12_factor 190 = .ok (.iadd, 1) := by decide +kernel
theorem dX12_factor_191 : decode cX12_factor 191 = .ok (.invokevirtual 87, 3) := by decide +kernel
theorem dX12_factor_194 : decode cX12_factor 194 = .ok (.return_, 1) := by decide +kernel
abbrev rm_X12_factor_B (fR lR : Nat) : Room := { frames := 5 + fR + 1, cells := 0, slots := 0, locals := 107 + lR }
def F_X12_factor_B_101 (R : SG → RG → Option (SG)) (σ : SG) (ρ : RG) : Option (SG) :=
  nm ((σ 54 9) - (1 : Int32)) fun x17 =>
  nm (s2 σ 54 9 x17) fun σ19 =>
  some σ19
def F_X12_factor_B_69 (R : SG → RG → Option (SG)) (σ : SG) (ρ : RG) (v1 : Int32) (k1 : Int32) (k2 : Int32) : Option (SG) :=
  nm (k1 + k2) fun x11 =>
  nm (s2 σ 54 6 x11) fun σ13 =>
  if v1 = (33 : Int32) then
    bn (R σ13 ρ) fun σ20 =>
    bn (F_X12_emits (-1 : Int32) σ20 ρ) fun σ21 =>
    F_X12_factor_B_101 R σ21 ρ
  else
    bn (F_X12_some_B R σ13 ρ) fun σ15 =>
    bn (F_X12_must (41 : Int32) σ15 ρ) fun σ16 =>
    F_X12_factor_B_101 R σ16 ρ
def F_X12_factor_B_39 (R : SG → RG → Option (SG)) (σ : SG) (ρ : RG) (v1 : Int32) (k1 : Int32) : Option (SG) :=
  gd (isb k1) <|
  nm (s2 σ 54 8 k1) fun σ6 =>
  nm ((σ6 54 9) + (1 : Int32)) fun x7 =>
  nm (s2 σ6 54 9 x7) fun σ9 =>
  if (σ9 54 8) = 0 then
    F_X12_factor_B_69 R σ9 ρ v1 (σ9 54 6) (1 : Int32)
  else
    F_X12_factor_B_69 R σ9 ρ v1 (σ9 54 6) (0 : Int32)
def F_X12_factor_B_25 (R : SG → RG → Option (SG)) (σ : SG) (ρ : RG) (v1 : Int32) : Option (SG) :=
  if (σ 54 9) = (5 : Int32) then
    F_X12_factor_B_39 R σ ρ v1 (1 : Int32)
  else
    F_X12_factor_B_39 R σ ρ v1 (0 : Int32)
def F_X12_factor_B_169 (R : SG → RG → Option (SG)) (σ : SG) (ρ : RG) (v2 : Int32) (v3 : Int32) (k1 : Int32) : Option (SG) :=
  gd (isb k1) <|
  nm (s2 σ 54 8 k1) fun σ31 =>
  bn2 (F_X12_figures σ31 ρ) fun r32 σ32 =>
  nm ((8 : Int32) * v3) fun x33 =>
  nm (v2 + x33) fun x34 =>
  nm ((32 : Int32) * r32) fun x35 =>
  nm (x34 + x35) fun x36 =>
  bn (F_X12_emits x36 σ32 ρ) fun σ37 =>
  some σ37
def F_X12_factor_B_164 (R : SG → RG → Option (SG)) (σ : SG) (ρ : RG) (v2 : Int32) (v3 : Int32) : Option (SG) :=
  F_X12_factor_B_169 R σ ρ v2 v3 (1 : Int32)
def F_X12_factor_B_150 (R : SG → RG → Option (SG)) (σ : SG) (ρ : RG) (v2 : Int32) (k0 : Int32) : Option (SG) :=
  if (σ 54 8) = 0 then
    if k0 = (-1 : Int32) then
      F_X12_factor_B_164 R σ ρ v2 k0
    else
      F_X12_factor_B_169 R σ ρ v2 k0 (0 : Int32)
  else
    F_X12_factor_B_164 R σ ρ v2 k0
def F_X12_factor_B_130 (R : SG → RG → Option (SG)) (σ : SG) (ρ : RG) (v2 : Int32) (k1 : Int32) : Option (SG) :=
  gd (isb k1) <|
  nm (s2 σ 54 8 k1) fun σ26 =>
  if (σ26 54 8) = 0 then
    bn2 (F_X12_among 5 σ26 ρ) fun r28 σ28 =>
    F_X12_factor_B_150 R σ28 ρ v2 r28
  else
    F_X12_factor_B_150 R σ26 ρ v2 (0 : Int32)
def F_X12_factor_B (R : SG → RG → Option (SG)) (σ : SG) (ρ : RG) : Option (SG) :=
  if (σ 54 8) = 0 then
    bn (F_X12_here σ ρ) fun r2 =>
    if r2 = (33 : Int32) then
      F_X12_factor_B_25 R σ ρ r2
    else
      if r2 = (40 : Int32) then
        F_X12_factor_B_25 R σ ρ r2
      else
        bn2 (F_X12_among 4 σ ρ) fun r23 σ23 =>
        if r23 = (-1 : Int32) then
          F_X12_factor_B_130 R σ23 ρ r23 (1 : Int32)
        else
          F_X12_factor_B_130 R σ23 ρ r23 (0 : Int32)
  else
    some σ
set_option maxHeartbeats 4000000 in
set_option maxRecDepth 100000 in
theorem w_X12_factor_B_101 {R : SG → RG → Option (SG)} {p : Program} {e : Env} {s : State} {m : MethodId} {args : Array Value} {below : List Frame} {meth : Method} {c : Code} {ρ0 : RG} {σ1 : SG} (C : Cx Y D N ad p s m args meth c cX12_factor 5 none RX12 wsL_law) {σ : SG} {ρ : RG} {H : Heap} {locs : List Loc} {ls : Array Slot} (hρ0 : ρ = ρ0) (hL : Lay N K len ρ) (hRM : (∀ {σ1 : SG} {σ : SG} {ρ : RG}, Lay N K len ρ → R σ ρ = some σ1 → MT l Y D N ad K len yX12_factor (Cond.code yX12_factor cX12_factor 5 none :: wsL_law) (rmk fR lR) [.ref (ad 54)] σ ρ none σ1 ρ)) (hF : F_X12_factor_B_101 R σ ρ = some σ1) (hP : WP Y D N ad K len σ ρ H) (hS : va_S (AA N ad s.heap.size) s.heap H locs) (hl : lv_has ls 5 [(0, .ref (ad 54))]) : W p l e (rm_X12_factor_B fR lR) s m args below meth c H locs 0 0 (MQ below (QW Y D N ad K len σ1 ρ0 (AA N ad s.heap.size) none) args s 0 0 (AA N ad s.heap.size)) (F0 m 101 ls []) := by
  have hx := C.1.1
  have hb := C.1.2.1
  unfold F_X12_factor_B_101 at hF
  refine lv_aload_n hx hb dX12_factor_101 rfl (lv_at hl 0 rfl) ?_
  refine lv_dup hx hb dX12_factor_102 rfl ?_
  refine get_12_9 C hP (lr_54 hL) (lk_54 hL) inlX12 mw_297 dX12_factor_103 ?_
  refine lv_iconst (v := 1) hx hb dX12_factor_106 (by decide) ?_
  refine lv_isub hx hb dX12_factor_107 ?_
  obtain ⟨x17, ex17, hF⟩ := nm_1 hF
  refine x_top ex17 ?_
  obtain ⟨σ19, eσ19, hF⟩ := nm_1 hF
  refine put_12_9 C hP hS (lr_54 hL) (lk_54 hL) inlX12 mw_297 eσ19 dX12_factor_108 (fun H locs hP hS => ?_)
  obtain rfl := ret_1 hF
  subst hρ0
  exact x_vret rfl C hP hS dX12_factor_111
set_option maxHeartbeats 4000000 in
set_option maxRecDepth 100000 in
theorem w_X12_factor_B_69 {R : SG → RG → Option (SG)} {p : Program} {e : Env} {s : State} {m : MethodId} {args : Array Value} {below : List Frame} {meth : Method} {c : Code} {ρ0 : RG} {σ1 : SG} (C : Cx Y D N ad p s m args meth c cX12_factor 5 none RX12 wsL_law) {σ : SG} {ρ : RG} {v1 : Int32} {k1 : Int32} {k2 : Int32} {H : Heap} {locs : List Loc} {ls : Array Slot} (hρ0 : ρ = ρ0) (hL : Lay N K len ρ) (hRM : (∀ {σ1 : SG} {σ : SG} {ρ : RG}, Lay N K len ρ → R σ ρ = some σ1 → MT l Y D N ad K len yX12_factor (Cond.code yX12_factor cX12_factor 5 none :: wsL_law) (rmk fR lR) [.ref (ad 54)] σ ρ none σ1 ρ)) (hF : F_X12_factor_B_69 R σ ρ v1 k1 k2 = some σ1) (hP : WP Y D N ad K len σ ρ H) (hS : va_S (AA N ad s.heap.size) s.heap H locs) (hl : lv_has ls 5 [(0, .ref (ad 54)), (1, .int v1)]) : W p l e (rm_X12_factor_B fR lR) s m args below meth c H locs 0 0 (MQ below (QW Y D N ad K len σ1 ρ0 (AA N ad s.heap.size) none) args s 0 0 (AA N ad s.heap.size)) (F0 m 69 ls [.int k2, .int k1, .ref (ad 54)]) := by
  have hx := C.1.1
  have hb := C.1.2.1
  unfold F_X12_factor_B_69 at hF
  refine lv_iadd hx hb dX12_factor_69 ?_
  obtain ⟨x11, ex11, hF⟩ := nm_1 hF
  refine x_top ex11 ?_
  obtain ⟨σ13, eσ13, hF⟩ := nm_1 hF
  refine put_12_6 C hP hS (lr_54 hL) (lk_54 hL) inlX12 mw_295 eσ13 dX12_factor_70 (fun H locs hP hS => ?_)
  refine lv_iload_n hx hb dX12_factor_73 rfl (lv_at hl 1 rfl) ?_
  refine lv_bipush (v := 33) hx hb dX12_factor_74 (by decide +kernel) ?_
  refine lv_icmp_ne (tgt := 91) hx hb dX12_factor_76 (by decide) (fun c_14 => ?_) (fun c_14 => ?_) -- COND 14 rcases (Decidable.em (v1 = (33 : Int32))).symm with c_14 | c_14
  · have hF := ite_f hF c_14
    refine lv_aload_n hx hb dX12_factor_91 rfl (lv_at hl 0 rfl) ?_
    obtain ⟨σ15, hq15, hF⟩ := bn_1 hF
    refine x_callV (ci := 12) rfl rfl C hP hS (c_X12_some_B hL hRM hq15) (lr_54 hL) (lk_54 hL) (cwV 0 C.1.2.2.2.2 (gdV mw_328 mw_329 mw_330 mw_5 mw_331) rfl rfl rfl hd_X12_some ⟨by show 2 + fR + 1 + 1 ≤ 5 + fR + 1; omega, by show 20 + (44 + lR) ≤ 107 + lR; omega⟩) rfl rfl hl.1 (Nat.le_of_ble_eq_true rfl) ⟨Nat.zero_le _, Nat.zero_le _⟩ dX12_factor_92 (fun H locs hP hS => ?_)
    refine lv_aload_n hx hb dX12_factor_95 rfl (lv_at hl 0 rfl) ?_
    refine lv_bipush (v := 41) hx hb dX12_factor_96 (by decide +kernel) ?_
    obtain ⟨σ16, hq16, hF⟩ := bn_1 hF
    refine x_callV (ci := 12) rfl rfl C hP hS (c_X12_must hL hq16) (lr_54 hL) (lk_54 hL) (cwV 1 C.1.2.2.2.2 (gdV mw_316 mw_317 mw_318 mw_5 mw_319) rfl rfl rfl hd_X12_must ⟨by show 2 ≤ 5 + fR + 1; omega, by show 41 ≤ 107 + lR; omega⟩) rfl rfl hl.1 (Nat.le_of_ble_eq_true rfl) ⟨Nat.zero_le _, Nat.zero_le _⟩ dX12_factor_98 (fun H locs hP hS => ?_)
    exact w_X12_factor_B_101 C hρ0 hL hRM hF hP hS (lv_sub hl [0] rfl)
  · have hF := ite_t hF c_14
    refine lv_aload_n hx hb dX12_factor_79 rfl (lv_at hl 0 rfl) ?_
    obtain ⟨σ20, hq20, hF⟩ := bn_1 hF
    refine x_callV (ci := 12) rfl rfl C hP hS (hRM hL hq20) (lr_54 hL) (lk_54 hL) (cwV 0 C.1.2.2.2.2 (gdV mw_340 mw_341 mw_342 mw_5 mw_343) rfl rfl rfl hd_X12_factor ⟨by show fR + 1 ≤ 5 + fR + 1; omega, by show 24 + lR ≤ 107 + lR; omega⟩) rfl rfl hl.1 (Nat.le_of_ble_eq_true rfl) ⟨Nat.zero_le _, Nat.zero_le _⟩ dX12_factor_80 (fun H locs hP hS => ?_)
    refine lv_aload_n hx hb dX12_factor_83 rfl (lv_at hl 0 rfl) ?_
    refine lv_iconst (v := -1) hx hb dX12_factor_84 (by decide) ?_
    obtain ⟨σ21, hq21, hF⟩ := bn_1 hF
    refine x_callV (ci := 12) rfl rfl C hP hS (c_X12_emits hL hq21) (lr_54 hL) (lk_54 hL) (cwV 1 C.1.2.2.2.2 (gdV mw_335 mw_336 mw_337 mw_5 mw_338) rfl rfl rfl hd_X12_emits ⟨by show 1 ≤ 5 + fR + 1; omega, by show 21 ≤ 107 + lR; omega⟩) rfl rfl hl.1 (Nat.le_of_ble_eq_true rfl) ⟨Nat.zero_le _, Nat.zero_le _⟩ dX12_factor_85 (fun H locs hP hS => ?_)
    refine lv_goto (tgt := 101) hx hb dX12_factor_88 (by decide) ?_
    exact w_X12_factor_B_101 C hρ0 hL hRM hF hP hS (lv_sub hl [0] rfl)
set_option maxHeartbeats 4000000 in
set_option maxRecDepth 100000 in
theorem w_X12_factor_B_39 {R : SG → RG → Option (SG)} {p : Program} {e : Env} {s : State} {m : MethodId} {args : Array Value} {below : List Frame} {meth : Method} {c : Code} {ρ0 : RG} {σ1 : SG} (C : Cx Y D N ad p s m args meth c cX12_factor 5 none RX12 wsL_law) {σ : SG} {ρ : RG} {v1 : Int32} {k1 : Int32} {H : Heap} {locs : List Loc} {ls : Array Slot} (hρ0 : ρ = ρ0) (hL : Lay N K len ρ) (hRM : (∀ {σ1 : SG} {σ : SG} {ρ : RG}, Lay N K len ρ → R σ ρ = some σ1 → MT l Y D N ad K len yX12_factor (Cond.code yX12_factor cX12_factor 5 none :: wsL_law) (rmk fR lR) [.ref (ad 54)] σ ρ none σ1 ρ)) (hF : F_X12_factor_B_39 R σ ρ v1 k1 = some σ1) (hP : WP Y D N ad K len σ ρ H) (hS : va_S (AA N ad s.heap.size) s.heap H locs) (hl : lv_has ls 5 [(0, .ref (ad 54)), (1, .int v1)]) : W p l e (rm_X12_factor_B fR lR) s m args below meth c H locs 0 0 (MQ below (QW Y D N ad K len σ1 ρ0 (AA N ad s.heap.size) none) args s 0 0 (AA N ad s.heap.size)) (F0 m 39 ls [.int k1, .ref (ad 54)]) := by
  have hx := C.1.1
  have hb := C.1.2.1
  unfold F_X12_factor_B_39 at hF
  obtain ⟨g5, hF⟩ := gd_1 hF
  obtain ⟨σ6, eσ6, hF⟩ := nm_1 hF
  refine put_12_8 g5 C hP hS (lr_54 hL) (lk_54 hL) inlX12 mw_296 eσ6 dX12_factor_39 (fun H locs hP hS => ?_)
  refine lv_aload_n hx hb dX12_factor_42 rfl (lv_at hl 0 rfl) ?_
  refine lv_dup hx hb dX12_factor_43 rfl ?_
  refine get_12_9 C hP (lr_54 hL) (lk_54 hL) inlX12 mw_297 dX12_factor_44 ?_
  refine lv_iconst (v := 1) hx hb dX12_factor_47 (by decide) ?_
  refine lv_iadd hx hb dX12_factor_48 ?_
  obtain ⟨x7, ex7, hF⟩ := nm_1 hF
  refine x_top ex7 ?_
  obtain ⟨σ9, eσ9, hF⟩ := nm_1 hF
  refine put_12_9 C hP hS (lr_54 hL) (lk_54 hL) inlX12 mw_297 eσ9 dX12_factor_49 (fun H locs hP hS => ?_)
  refine lv_aload_n hx hb dX12_factor_52 rfl (lv_at hl 0 rfl) ?_
  refine lv_dup hx hb dX12_factor_53 rfl ?_
  refine get_12_6 C hP (lr_54 hL) (lk_54 hL) inlX12 mw_295 dX12_factor_54 ?_
  refine lv_aload_n hx hb dX12_factor_57 rfl (lv_at hl 0 rfl) ?_
  refine get_12_8 C hP (lr_54 hL) (lk_54 hL) inlX12 mw_296 dX12_factor_58 ?_
  refine lv_if_eq (tgt := 68) hx hb dX12_factor_61 (by decide) (fun c_10 => ?_) (fun c_10 => ?_) -- COND 10 by_cases c_10 : (σ9 54 8) = 0
  · have hF := ite_t hF c_10
    refine lv_iconst (v := 1) hx hb dX12_factor_68 (by decide) ?_
    exact w_X12_factor_B_69 C hρ0 hL hRM hF hP hS (lv_sub hl [0, 1] rfl)
  · have hF := ite_f hF c_10
    refine lv_iconst (v := 0) hx hb dX12_factor_64 (by decide) ?_
    refine lv_goto (tgt := 69) hx hb dX12_factor_65 (by decide) ?_
    exact w_X12_factor_B_69 C hρ0 hL hRM hF hP hS (lv_sub hl [0, 1] rfl)
set_option maxHeartbeats 4000000 in
set_option maxRecDepth 100000 in
theorem w_X12_factor_B_25 {R : SG → RG → Option (SG)} {p : Program} {e : Env} {s : State} {m : MethodId} {args : Array Value} {below : List Frame} {meth : Method} {c : Code} {ρ0 : RG} {σ1 : SG} (C : Cx Y D N ad p s m args meth c cX12_factor 5 none RX12 wsL_law) {σ : SG} {ρ : RG} {v1 : Int32} {H : Heap} {locs : List Loc} {ls : Array Slot} (hρ0 : ρ = ρ0) (hL : Lay N K len ρ) (hRM : (∀ {σ1 : SG} {σ : SG} {ρ : RG}, Lay N K len ρ → R σ ρ = some σ1 → MT l Y D N ad K len yX12_factor (Cond.code yX12_factor cX12_factor 5 none :: wsL_law) (rmk fR lR) [.ref (ad 54)] σ ρ none σ1 ρ)) (hF : F_X12_factor_B_25 R σ ρ v1 = some σ1) (hP : WP Y D N ad K len σ ρ H) (hS : va_S (AA N ad s.heap.size) s.heap H locs) (hl : lv_has ls 5 [(0, .ref (ad 54)), (1, .int v1)]) : W p l e (rm_X12_factor_B fR lR) s m args below meth c H locs 0 0 (MQ below (QW Y D N ad K len σ1 ρ0 (AA N ad s.heap.size) none) args s 0 0 (AA N ad s.heap.size)) (F0 m 25 ls []) := by
  have hx := C.1.1
  have hb := C.1.2.1
  unfold F_X12_factor_B_25 at hF
  refine lv_aload_n hx hb dX12_factor_25 rfl (lv_at hl 0 rfl) ?_
  refine lv_aload_n hx hb dX12_factor_26 rfl (lv_at hl 0 rfl) ?_
  refine get_12_9 C hP (lr_54 hL) (lk_54 hL) inlX12 mw_297 dX12_factor_27 ?_
  refine lv_iconst (v := 5) hx hb dX12_factor_30 (by decide) ?_
  refine lv_icmp_ne (tgt := 38) hx hb dX12_factor_31 (by decide) (fun c_4 => ?_) (fun c_4 => ?_) -- COND 4 rcases (Decidable.em ((σ 54 9) = (5 : Int32))).symm with c_4 | c_4
  · have hF := ite_f hF c_4
    refine lv_iconst (v := 0) hx hb dX12_factor_38 (by decide) ?_
    exact w_X12_factor_B_39 C hρ0 hL hRM hF hP hS (lv_sub hl [0, 1] rfl)
  · have hF := ite_t hF c_4
    refine lv_iconst (v := 1) hx hb dX12_factor_34 (by decide) ?_
    refine lv_goto (tgt := 39) hx hb dX12_factor_35 (by decide) ?_
    exact w_X12_factor_B_39 C hρ0 hL hRM hF hP hS (lv_sub hl [0, 1] rfl)
set_option maxHeartbeats 4000000 in
set_option maxRecDepth 100000 in
theorem w_X12_factor_B_169 {R : SG → RG → Option (SG)} {p : Program} {e : Env} {s : State} {m : MethodId} {args : Array Value} {below : List Frame} {meth : Method} {c : Code} {ρ0 : RG} {σ1 : SG} (C : Cx Y D N ad p s m args meth c cX12_factor 5 none RX12 wsL_law) {σ : SG} {ρ : RG} {v2 : Int32} {v3 : Int32} {k1 : Int32} {H : Heap} {locs : List Loc} {ls : Array Slot} (hρ0 : ρ = ρ0) (hL : Lay N K len ρ) (hRM : (∀ {σ1 : SG} {σ : SG} {ρ : RG}, Lay N K len ρ → R σ ρ = some σ1 → MT l Y D N ad K len yX12_factor (Cond.code yX12_factor cX12_factor 5 none :: wsL_law) (rmk fR lR) [.ref (ad 54)] σ ρ none σ1 ρ)) (hF : F_X12_factor_B_169 R σ ρ v2 v3 k1 = some σ1) (hP : WP Y D N ad K len σ ρ H) (hS : va_S (AA N ad s.heap.size) s.heap H locs) (hl : lv_has ls 5 [(0, .ref (ad 54)), (2, .int v2), (3, .int v3)]) : W p l e (rm_X12_factor_B fR lR) s m args below meth c H locs 0 0 (MQ below (QW Y D N ad K len σ1 ρ0 (AA N ad s.heap.size) none) args s 0 0 (AA N ad s.heap.size)) (F0 m 169 ls [.int k1, .ref (ad 54)]) := by
  have hx := C.1.1
  have hb := C.1.2.1
  unfold F_X12_factor_B_169 at hF
  obtain ⟨g30, hF⟩ := gd_1 hF
  obtain ⟨σ31, eσ31, hF⟩ := nm_1 hF
  refine put_12_8 g30 C hP hS (lr_54 hL) (lk_54 hL) inlX12 mw_296 eσ31 dX12_factor_169 (fun H locs hP hS => ?_)
  refine lv_aload_n hx hb dX12_factor_172 rfl (lv_at hl 0 rfl) ?_
  obtain ⟨r32, σ32, hq32, hF⟩ := bn2_1 hF
  refine x_callV (ci := 12) rfl rfl C hP hS (c_X12_figures hL hq32) (lr_54 hL) (lk_54 hL) (cwV 0 C.1.2.2.2.2 (gdV mw_320 mw_321 mw_322 mw_5 mw_323) rfl rfl rfl hd_X12_figures ⟨by show 2 ≤ 5 + fR + 1; omega, by show 44 ≤ 107 + lR; omega⟩) rfl rfl hl.1 (Nat.le_of_ble_eq_true rfl) ⟨Nat.zero_le _, Nat.zero_le _⟩ dX12_factor_173 (fun H locs hP hS => ?_)
  refine lv_istore (lv' := [(4, .int r32), (0, .ref (ad 54)), (2, .int v2), (3, .int v3)]) hx hb dX12_factor_176 hl (by decide) rfl (fun ls hl => ?_)
  refine lv_aload_n hx hb dX12_factor_178 rfl (lv_at hl 1 rfl) ?_
  refine lv_iload_n hx hb dX12_factor_179 rfl (lv_at hl 2 rfl) ?_
  refine lv_bipush (v := 8) hx hb dX12_factor_180 (by decide +kernel) ?_
  refine lv_iload_n hx hb dX12_factor_182 rfl (lv_at hl 3 rfl) ?_
  refine lv_imul hx hb dX12_factor_183 ?_
  obtain ⟨x33, ex33, hF⟩ := nm_1 hF
  refine x_top ex33 ?_
  refine lv_iadd hx hb dX12_factor_184 ?_
  obtain ⟨x34, ex34, hF⟩ := nm_1 hF
  refine x_top ex34 ?_
  refine lv_bipush (v := 32) hx hb dX12_factor_185 (by decide +kernel) ?_
  refine lv_iload hx hb dX12_factor_187 (lv_at hl 0 rfl) ?_
  refine lv_imul hx hb dX12_factor_189 ?_
  obtain ⟨x35, ex35, hF⟩ := nm_1 hF
  refine x_top ex35 ?_
  refine lv_iadd hx hb dX12_factor_190 ?_
  obtain ⟨x36, ex36, hF⟩ := nm_1 hF
  refine x_top ex36 ?_
  obtain ⟨σ37, hq37, hF⟩ := bn_1 hF
  refine x_callV (ci := 12) rfl rfl C hP hS (c_X12_emits hL hq37) (lr_54 hL) (lk_54 hL) (cwV 1 C.1.2.2.2.2 (gdV mw_335 mw_336 mw_337 mw_5 mw_338) rfl rfl rfl hd_X12_emits ⟨by show 1 ≤ 5 + fR + 1; omega, by show 21 ≤ 107 + lR; omega⟩) rfl rfl hl.1 (Nat.le_of_ble_eq_true rfl) ⟨Nat.zero_le _, Nat.zero_le _⟩ dX12_factor_191 (fun H locs hP hS => ?_)
  obtain rfl := ret_1 hF
  subst hρ0
  exact x_vret rfl C hP hS dX12_factor_194
set_option maxHeartbeats 4000000 in
set_option maxRecDepth 100000 in
theorem w_X12_factor_B_164 {R : SG → RG → Option (SG)} {p : Program} {e : Env} {s : State} {m : MethodId} {args : Array Value} {below : List Frame} {meth : Method} {c : Code} {ρ0 : RG} {σ1 : SG} (C : Cx Y D N ad p s m args meth c cX12_factor 5 none RX12 wsL_law) {σ : SG} {ρ : RG} {v2 : Int32} {v3 : Int32} {H : Heap} {locs : List Loc} {ls : Array Slot} (hρ0 : ρ = ρ0) (hL : Lay N K len ρ) (hRM : (∀ {σ1 : SG} {σ : SG} {ρ : RG}, Lay N K len ρ → R σ ρ = some σ1 → MT l Y D N ad K len yX12_factor (Cond.code yX12_factor cX12_factor 5 none :: wsL_law) (rmk fR lR) [.ref (ad 54)] σ ρ none σ1 ρ)) (hF : F_X12_factor_B_164 R σ ρ v2 v3 = some σ1) (hP : WP Y D N ad K len σ ρ H) (hS : va_S (AA N ad s.heap.size) s.heap H locs) (hl : lv_has ls 5 [(0, .ref (ad 54)), (2, .int v2), (3, .int v3)]) : W p l e (rm_X12_factor_B fR lR) s m args below meth c H locs 0 0 (MQ below (QW Y D N ad K len σ1 ρ0 (AA N ad s.heap.size) none) args s 0 0 (AA N ad s.heap.size)) (F0 m 164 ls [.ref (ad 54)]) := by
  have hx := C.1.1
  have hb := C.1.2.1
  unfold F_X12_factor_B_164 at hF
  refine lv_iconst (v := 1) hx hb dX12_factor_164 (by decide) ?_
  refine lv_goto (tgt := 169) hx hb dX12_factor_165 (by decide) ?_
  exact w_X12_factor_B_169 C hρ0 hL hRM hF hP hS (lv_sub hl [0, 1, 2] rfl)
set_option maxHeartbeats 4000000 in
set_option maxRecDepth 100000 in
theorem w_X12_factor_B_150 {R : SG → RG → Option (SG)} {p : Program} {e : Env} {s : State} {m : MethodId} {args : Array Value} {below : List Frame} {meth : Method} {c : Code} {ρ0 : RG} {σ1 : SG} (C : Cx Y D N ad p s m args meth c cX12_factor 5 none RX12 wsL_law) {σ : SG} {ρ : RG} {v2 : Int32} {k0 : Int32} {H : Heap} {locs : List Loc} {ls : Array Slot} (hρ0 : ρ = ρ0) (hL : Lay N K len ρ) (hRM : (∀ {σ1 : SG} {σ : SG} {ρ : RG}, Lay N K len ρ → R σ ρ = some σ1 → MT l Y D N ad K len yX12_factor (Cond.code yX12_factor cX12_factor 5 none :: wsL_law) (rmk fR lR) [.ref (ad 54)] σ ρ none σ1 ρ)) (hF : F_X12_factor_B_150 R σ ρ v2 k0 = some σ1) (hP : WP Y D N ad K len σ ρ H) (hS : va_S (AA N ad s.heap.size) s.heap H locs) (hl : lv_has ls 5 [(0, .ref (ad 54)), (2, .int v2)]) : W p l e (rm_X12_factor_B fR lR) s m args below meth c H locs 0 0 (MQ below (QW Y D N ad K len σ1 ρ0 (AA N ad s.heap.size) none) args s 0 0 (AA N ad s.heap.size)) (F0 m 150 ls [.int k0]) := by
  have hx := C.1.1
  have hb := C.1.2.1
  unfold F_X12_factor_B_150 at hF
  refine lv_istore_n (lv' := [(3, .int k0), (0, .ref (ad 54)), (2, .int v2)]) hx hb dX12_factor_150 rfl hl (by decide) rfl (fun ls hl => ?_)
  refine lv_aload_n hx hb dX12_factor_151 rfl (lv_at hl 1 rfl) ?_
  refine lv_aload_n hx hb dX12_factor_152 rfl (lv_at hl 1 rfl) ?_
  refine get_12_8 C hP (lr_54 hL) (lk_54 hL) inlX12 mw_296 dX12_factor_153 ?_
  refine lv_if_ne (tgt := 164) hx hb dX12_factor_156 (by decide) (fun c_29 => ?_) (fun c_29 => ?_) -- COND 29 rcases (Decidable.em ((σ 54 8) = 0)).symm with c_29 | c_29
  · have hF := ite_f hF c_29
    exact w_X12_factor_B_164 C hρ0 hL hRM hF hP hS (lv_sub hl [1, 2, 0] rfl)
  · have hF := ite_t hF c_29
    refine lv_iload_n hx hb dX12_factor_159 rfl (lv_at hl 0 rfl) ?_
    refine lv_iconst (v := -1) hx hb dX12_factor_160 (by decide) ?_
    refine lv_icmp_ne (tgt := 168) hx hb dX12_factor_161 (by decide) (fun c_38 => ?_) (fun c_38 => ?_) -- COND 38 rcases (Decidable.em (k0 = (-1 : Int32))).symm with c_38 | c_38
    · have hF := ite_f hF c_38
      refine lv_iconst (v := 0) hx hb dX12_factor_168 (by decide) ?_
      exact w_X12_factor_B_169 C hρ0 hL hRM hF hP hS (lv_sub hl [1, 2, 0] rfl)
    · have hF := ite_t hF c_38
      exact w_X12_factor_B_164 C hρ0 hL hRM hF hP hS (lv_sub hl [1, 2, 0] rfl)
set_option maxHeartbeats 4000000 in
set_option maxRecDepth 100000 in
theorem w_X12_factor_B_130 {R : SG → RG → Option (SG)} {p : Program} {e : Env} {s : State} {m : MethodId} {args : Array Value} {below : List Frame} {meth : Method} {c : Code} {ρ0 : RG} {σ1 : SG} (C : Cx Y D N ad p s m args meth c cX12_factor 5 none RX12 wsL_law) {σ : SG} {ρ : RG} {v2 : Int32} {k1 : Int32} {H : Heap} {locs : List Loc} {ls : Array Slot} (hρ0 : ρ = ρ0) (hL : Lay N K len ρ) (hRM : (∀ {σ1 : SG} {σ : SG} {ρ : RG}, Lay N K len ρ → R σ ρ = some σ1 → MT l Y D N ad K len yX12_factor (Cond.code yX12_factor cX12_factor 5 none :: wsL_law) (rmk fR lR) [.ref (ad 54)] σ ρ none σ1 ρ)) (hF : F_X12_factor_B_130 R σ ρ v2 k1 = some σ1) (hP : WP Y D N ad K len σ ρ H) (hS : va_S (AA N ad s.heap.size) s.heap H locs) (hl : lv_has ls 5 [(0, .ref (ad 54)), (2, .int v2)]) : W p l e (rm_X12_factor_B fR lR) s m args below meth c H locs 0 0 (MQ below (QW Y D N ad K len σ1 ρ0 (AA N ad s.heap.size) none) args s 0 0 (AA N ad s.heap.size)) (F0 m 130 ls [.int k1, .ref (ad 54)]) := by
  have hx := C.1.1
  have hb := C.1.2.1
  unfold F_X12_factor_B_130 at hF
  obtain ⟨g25, hF⟩ := gd_1 hF
  obtain ⟨σ26, eσ26, hF⟩ := nm_1 hF
  refine put_12_8 g25 C hP hS (lr_54 hL) (lk_54 hL) inlX12 mw_296 eσ26 dX12_factor_130 (fun H locs hP hS => ?_)
  refine lv_aload_n hx hb dX12_factor_133 rfl (lv_at hl 0 rfl) ?_
  refine get_12_8 C hP (lr_54 hL) (lk_54 hL) inlX12 mw_296 dX12_factor_134 ?_
  refine lv_if_eq (tgt := 144) hx hb dX12_factor_137 (by decide) (fun c_27 => ?_) (fun c_27 => ?_) -- COND 27 by_cases c_27 : (σ26 54 8) = 0
  · have hF := ite_t hF c_27
    refine lv_aload_n hx hb dX12_factor_144 rfl (lv_at hl 0 rfl) ?_
    refine x_ldcS (own0 := "CutCrookedModel") (tx := "<=>") (index := 99) (i := 5) C (by decide +kernel) dX12_factor_145 ?_
    obtain ⟨r28, σ28, hq28, hF⟩ := bn2_1 hF
    refine x_callV (ci := 12) rfl rfl C hP hS (c_X12_among hL (by decide) hq28) (lr_54 hL) (lk_54 hL) (cwV 1 C.1.2.2.2.2 (gdV mw_344 mw_345 mw_346 mw_5 mw_347) rfl rfl rfl hd_X12_among ⟨by show 5 ≤ 5 + fR + 1; omega, by show 107 ≤ 107 + lR; omega⟩) rfl rfl hl.1 (Nat.le_of_ble_eq_true rfl) ⟨Nat.zero_le _, Nat.zero_le _⟩ dX12_factor_147 (fun H locs hP hS => ?_)
    exact w_X12_factor_B_150 C hρ0 hL hRM hF hP hS (lv_sub hl [0, 1] rfl)
  · have hF := ite_f hF c_27
    refine lv_iconst (v := 0) hx hb dX12_factor_140 (by decide) ?_
    refine lv_goto (tgt := 150) hx hb dX12_factor_141 (by decide) ?_
    exact w_X12_factor_B_150 C hρ0 hL hRM hF hP hS (lv_sub hl [0, 1] rfl)
set_option maxHeartbeats 4000000 in
set_option maxRecDepth 100000 in
theorem w_X12_factor_B_0 {R : SG → RG → Option (SG)} {p : Program} {e : Env} {s : State} {m : MethodId} {args : Array Value} {below : List Frame} {meth : Method} {c : Code} {ρ0 : RG} {σ1 : SG} (C : Cx Y D N ad p s m args meth c cX12_factor 5 none RX12 wsL_law) {σ : SG} {ρ : RG} {H : Heap} {locs : List Loc} {ls : Array Slot} (hρ0 : ρ = ρ0) (hL : Lay N K len ρ) (hRM : (∀ {σ1 : SG} {σ : SG} {ρ : RG}, Lay N K len ρ → R σ ρ = some σ1 → MT l Y D N ad K len yX12_factor (Cond.code yX12_factor cX12_factor 5 none :: wsL_law) (rmk fR lR) [.ref (ad 54)] σ ρ none σ1 ρ)) (hF : F_X12_factor_B R σ ρ = some σ1) (hP : WP Y D N ad K len σ ρ H) (hS : va_S (AA N ad s.heap.size) s.heap H locs) (hl : lv_has ls 5 [(0, .ref (ad 54))]) : W p l e (rm_X12_factor_B fR lR) s m args below meth c H locs 0 0 (MQ below (QW Y D N ad K len σ1 ρ0 (AA N ad s.heap.size) none) args s 0 0 (AA N ad s.heap.size)) (F0 m 0 ls []) := by
  have hx := C.1.1
  have hb := C.1.2.1
  unfold F_X12_factor_B at hF
  refine lv_aload_n hx hb dX12_factor_0 rfl (lv_at hl 0 rfl) ?_
  refine get_12_8 C hP (lr_54 hL) (lk_54 hL) inlX12 mw_296 dX12_factor_1 ?_
  refine lv_if_eq (tgt := 8) hx hb dX12_factor_4 (by decide) (fun c_1 => ?_) (fun c_1 => ?_) -- COND 1 by_cases c_1 : (σ 54 8) = 0
  · have hF := ite_t hF c_1
    refine lv_aload_n hx hb dX12_factor_8 rfl (lv_at hl 0 rfl) ?_
    obtain ⟨r2, hq2, hF⟩ := bn_1 hF
    refine x_callV (ci := 12) rfl rfl C hP hS (c_X12_here hL hq2) (lr_54 hL) (lk_54 hL) (cwV 0 C.1.2.2.2.2 (gdV mw_302 mw_303 mw_304 mw_5 mw_305) rfl rfl rfl hd_X12_here ⟨by show 1 ≤ 5 + fR + 1; omega, by show 20 ≤ 107 + lR; omega⟩) rfl rfl hl.1 (Nat.le_of_ble_eq_true rfl) ⟨Nat.zero_le _, Nat.zero_le _⟩ dX12_factor_9 (fun H locs hP hS => ?_)
    refine lv_istore_n (lv' := [(1, .int r2), (0, .ref (ad 54))]) hx hb dX12_factor_12 rfl hl (by decide) rfl (fun ls hl => ?_)
    refine lv_iload_n hx hb dX12_factor_13 rfl (lv_at hl 0 rfl) ?_
    refine lv_bipush (v := 33) hx hb dX12_factor_14 (by decide +kernel) ?_
    refine lv_icmp_eq (tgt := 25) hx hb dX12_factor_16 (by decide) (fun c_3 => ?_) (fun c_3 => ?_) -- COND 3 by_cases c_3 : r2 = (33 : Int32)
    · have hF := ite_t hF c_3
      exact w_X12_factor_B_25 C hρ0 hL hRM hF hP hS (lv_sub hl [1, 0] rfl)
    · have hF := ite_f hF c_3
      refine lv_iload_n hx hb dX12_factor_19 rfl (lv_at hl 0 rfl) ?_
      refine lv_bipush (v := 40) hx hb dX12_factor_20 (by decide +kernel) ?_
      refine lv_icmp_ne (tgt := 112) hx hb dX12_factor_22 (by decide) (fun c_22 => ?_) (fun c_22 => ?_) -- COND 22 rcases (Decidable.em (r2 = (40 : Int32))).symm with c_22 | c_22
      · have hF := ite_f hF c_22
        refine lv_aload_n hx hb dX12_factor_112 rfl (lv_at hl 1 rfl) ?_
        refine x_ldcS (own0 := "CutCrookedModel") (tx := "cktuls") (index := 93) (i := 4) C (by decide +kernel) dX12_factor_113 ?_
        obtain ⟨r23, σ23, hq23, hF⟩ := bn2_1 hF
        refine x_callV (ci := 12) rfl rfl C hP hS (c_X12_among hL (by decide) hq23) (lr_54 hL) (lk_54 hL) (cwV 1 C.1.2.2.2.2 (gdV mw_344 mw_345 mw_346 mw_5 mw_347) rfl rfl rfl hd_X12_among ⟨by show 5 ≤ 5 + fR + 1; omega, by show 107 ≤ 107 + lR; omega⟩) rfl rfl hl.1 (Nat.le_of_ble_eq_true rfl) ⟨Nat.zero_le _, Nat.zero_le _⟩ dX12_factor_115 (fun H locs hP hS => ?_)
        refine lv_istore_n (lv' := [(2, .int r23), (1, .int r2), (0, .ref (ad 54))]) hx hb dX12_factor_118 rfl hl (by decide) rfl (fun ls hl => ?_)
        refine lv_aload_n hx hb dX12_factor_119 rfl (lv_at hl 2 rfl) ?_
        refine lv_iload_n hx hb dX12_factor_120 rfl (lv_at hl 0 rfl) ?_
        refine lv_iconst (v := -1) hx hb dX12_factor_121 (by decide) ?_
        refine lv_icmp_ne (tgt := 129) hx hb dX12_factor_122 (by decide) (fun c_24 => ?_) (fun c_24 => ?_) -- COND 24 rcases (Decidable.em (r23 = (-1 : Int32))).symm with c_24 | c_24
        · have hF := ite_f hF c_24
          refine lv_iconst (v := 0) hx hb dX12_factor_129 (by decide) ?_
          exact w_X12_factor_B_130 C hρ0 hL hRM hF hP hS (lv_sub hl [2, 0] rfl)
        · have hF := ite_t hF c_24
          refine lv_iconst (v := 1) hx hb dX12_factor_125 (by decide) ?_
          refine lv_goto (tgt := 130) hx hb dX12_factor_126 (by decide) ?_
          exact w_X12_factor_B_130 C hρ0 hL hRM hF hP hS (lv_sub hl [2, 0] rfl)
      · have hF := ite_t hF c_22
        exact w_X12_factor_B_25 C hρ0 hL hRM hF hP hS (lv_sub hl [1, 0] rfl)
  · have hF := ite_f hF c_1
    obtain rfl := ret_1 hF
    subst hρ0
    exact x_vret rfl C hP hS dX12_factor_7
set_option maxHeartbeats 4000000 in
set_option maxRecDepth 100000 in
theorem c_X12_factor_B {R : SG → RG → Option (SG)} {σ1 : SG} {σ : SG} {ρ : RG} (hL : Lay N K len ρ) (hRM : (∀ {σ1 : SG} {σ : SG} {ρ : RG}, Lay N K len ρ → R σ ρ = some σ1 → MT l Y D N ad K len yX12_factor (Cond.code yX12_factor cX12_factor 5 none :: wsL_law) (rmk fR lR) [.ref (ad 54)] σ ρ none σ1 ρ)) (hF : F_X12_factor_B R σ ρ = some σ1) : MT l Y D N ad K len yX12_factor (Cond.code yX12_factor cX12_factor 5 none :: wsL_law) (rm_X12_factor_B fR lR) [.ref (ad 54)] σ ρ none σ1 ρ := by
  refine mt_of (cc := cX12_factor) (nL := 5) (ret := none) (by decide) (Nat.le_of_ble_eq_true rfl) ?_
  intro p e s m args below meth c ls C hnm hP hS hl
  exact w_X12_factor_B_0 C rfl hL hRM hF hP hS hl

def F_X12_factor_R : Nat → SG → RG → Option (SG)
  | 0 => fun  _ _ => none
  | d + 1 => fun σ ρ => F_X12_factor_B (F_X12_factor_R d) σ ρ
def fr_X12_factor_R : Nat → Nat
  | 0 => 0
  | d + 1 => 5 + fr_X12_factor_R d + 1
def lo_X12_factor_R : Nat → Nat
  | 0 => 0
  | d + 1 => 107 + lo_X12_factor_R d
theorem c_X12_factor_R (d : Nat) : ∀ {σ1 : SG} {σ : SG} {ρ : RG}, Lay N K len ρ → F_X12_factor_R d σ ρ = some σ1 → MT l Y D N ad K len yX12_factor (Cond.code yX12_factor cX12_factor 5 none :: wsL_law) (rmk (fr_X12_factor_R d) (lo_X12_factor_R d)) [.ref (ad 54)] σ ρ none σ1 ρ := by
  induction d with
  | zero => intros; contradiction
  | succ d ih =>
    intro σ1 σ ρ hL hF
    exact c_X12_factor_B (R := F_X12_factor_R d) (fR := fr_X12_factor_R d) (lR := lo_X12_factor_R d) hL ih hF
def F_X12_factor (σ : SG) (ρ : RG) : Option (SG) := F_X12_factor_R 8 σ ρ
abbrev rm_X12_factor : Room := { frames := 48, cells := 0, slots := 0, locals := 856 }
theorem rm_X12_factor_eq : rmk (fr_X12_factor_R 8) (lo_X12_factor_R 8) = rm_X12_factor := rfl
theorem c_X12_factor : ∀ {σ1 : SG} {σ : SG} {ρ : RG}, Lay N K len ρ → F_X12_factor σ ρ = some σ1 → MT l Y D N ad K len yX12_factor (Cond.code yX12_factor cX12_factor 5 none :: wsL_law) rm_X12_factor [.ref (ad 54)] σ ρ none σ1 ρ := rm_X12_factor_eq ▸ c_X12_factor_R 8

/-! CutCrookedModel.private void every();  -/
abbrev rm_X12_every : Room := { frames := 49, cells := 0, slots := 0, locals := 880 }
def F_X12_every_4  : Nat → SG → RG → Option (SG)
  | 0 => fun _ _ => none
  | n + 1 => fun σ ρ =>
  if (σ 54 8) = 0 then
    bn (F_X12_here σ ρ) fun r3 =>
    if r3 = (38 : Int32) then
      nm ((σ 54 6) + (1 : Int32)) fun x5 =>
      nm (s2 σ 54 6 x5) fun σ7 =>
      bn (F_X12_factor σ7 ρ) fun σ8 =>
      bn (F_X12_emits (-2 : Int32) σ8 ρ) fun σ9 =>
      F_X12_every_4 n σ9 ρ
    else
      some σ
  else
    some σ
def F_X12_every  (σ : SG) (ρ : RG) : Option (SG) :=
  bn (F_X12_factor σ ρ) fun σ1 =>
  F_X12_every_4 1024 σ1 ρ
set_option maxHeartbeats 4000000 in
set_option maxRecDepth 100000 in
theorem w_X12_every_4  {p : Program} {e : Env} {s : State} {m : MethodId} {args : Array Value} {below : List Frame} {meth : Method} {c : Code} {ρ0 : RG} {σ1 : SG} (C : Cx Y D N ad p s m args meth c cX12_every 1 none RX12 wsL_law) : ∀ (n : Nat) (σ : SG) (ρ : RG) (H : Heap) (locs : List Loc) (ls : Array Slot), ρ = ρ0 → Lay N K len ρ → F_X12_every_4 n σ ρ = some σ1 → WP Y D N ad K len σ ρ H → va_S (AA N ad s.heap.size) s.heap H locs → lv_has ls 1 [(0, .ref (ad 54))] → W p l e rm_X12_every s m args below meth c H locs 0 0 (MQ below (QW Y D N ad K len σ1 ρ0 (AA N ad s.heap.size) none) args s 0 0 (AA N ad s.heap.size)) (F0 m 4 ls []) := by
  have hx := C.1.1
  have hb := C.1.2.1
  intro n
  induction n with
  | zero => intro σ ρ H locs ls hρ0 hL hF; cases hF
  | succ n ih =>
    intro σ ρ H locs ls hρ0 hL hF hP hS hl
    unfold F_X12_every_4 at hF
    refine lv_aload_n hx hb dX12_every_4 rfl (lv_at hl 0 rfl) ?_
    refine get_12_8 C hP (lr_54 hL) (lk_54 hL) inlX12 mw_296 dX12_every_5 ?_
    refine lv_if_ne (tgt := 43) hx hb dX12_every_8 (by decide) (fun c_2 => ?_) (fun c_2 => ?_) -- COND 2 rcases (Decidable.em ((σ 54 8) = 0)).symm with c_2 | c_2
    · have hF := ite_f hF c_2
      obtain rfl := ret_1 hF
      subst hρ0
      exact x_vret rfl C hP hS dX12_every_43
    · have hF := ite_t hF c_2
      refine lv_aload_n hx hb dX12_every_11 rfl (lv_at hl 0 rfl) ?_
      obtain ⟨r3, hq3, hF⟩ := bn_1 hF
      refine x_callV (ci := 12) rfl rfl C hP hS (c_X12_here hL hq3) (lr_54 hL) (lk_54 hL) (cwV 0 C.1.2.2.2.2 (gdV mw_302 mw_303 mw_304 mw_5 mw_305) rfl rfl rfl hd_X12_here ⟨Nat.le_of_ble_eq_true rfl, Nat.le_of_ble_eq_true rfl⟩) rfl rfl hl.1 (Nat.le_of_ble_eq_true rfl) ⟨Nat.zero_le _, Nat.zero_le _⟩ dX12_every_12 (fun H locs hP hS => ?_)
      refine lv_bipush (v := 38) hx hb dX12_every_15 (by decide +kernel) ?_
      refine lv_icmp_ne (tgt := 43) hx hb dX12_every_17 (by decide) (fun c_4 => ?_) (fun c_4 => ?_) -- COND 4 rcases (Decidable.em (r3 = (38 : Int32))).symm with c_4 | c_4
      · have hF := ite_f hF c_4
        obtain rfl := ret_1 hF
        subst hρ0
        exact x_vret rfl C hP hS dX12_every_43
      · have hF := ite_t hF c_4
        refine lv_aload_n hx hb dX12_every_20 rfl (lv_at hl 0 rfl) ?_
        refine lv_dup hx hb dX12_every_21 rfl ?_
        refine get_12_6 C hP (lr_54 hL) (lk_54 hL) inlX12 mw_295 dX12_every_22 ?_
        refine lv_iconst (v := 1) hx hb dX12_every_25 (by decide) ?_
        refine lv_iadd hx hb dX12_every_26 ?_
        obtain ⟨x5, ex5, hF⟩ := nm_1 hF
        refine x_top ex5 ?_
        obtain ⟨σ7, eσ7, hF⟩ := nm_1 hF
        refine put_12_6 C hP hS (lr_54 hL) (lk_54 hL) inlX12 mw_295 eσ7 dX12_every_27 (fun H locs hP hS => ?_)
        refine lv_aload_n hx hb dX12_every_30 rfl (lv_at hl 0 rfl) ?_
        obtain ⟨σ8, hq8, hF⟩ := bn_1 hF
        refine x_callV (ci := 12) rfl rfl C hP hS (c_X12_factor hL hq8) (lr_54 hL) (lk_54 hL) (cwV 0 C.1.2.2.2.2 (gdV mw_340 mw_341 mw_342 mw_5 mw_343) rfl rfl rfl hd_X12_factor ⟨Nat.le_of_ble_eq_true rfl, Nat.le_of_ble_eq_true rfl⟩) rfl rfl hl.1 (Nat.le_of_ble_eq_true rfl) ⟨Nat.zero_le _, Nat.zero_le _⟩ dX12_every_31 (fun H locs hP hS => ?_)
        refine lv_aload_n hx hb dX12_every_34 rfl (lv_at hl 0 rfl) ?_
        refine lv_bipush (v := -2) hx hb dX12_every_35 (by decide +kernel) ?_
        obtain ⟨σ9, hq9, hF⟩ := bn_1 hF
        refine x_callV (ci := 12) rfl rfl C hP hS (c_X12_emits hL hq9) (lr_54 hL) (lk_54 hL) (cwV 1 C.1.2.2.2.2 (gdV mw_335 mw_336 mw_337 mw_5 mw_338) rfl rfl rfl hd_X12_emits ⟨Nat.le_of_ble_eq_true rfl, Nat.le_of_ble_eq_true rfl⟩) rfl rfl hl.1 (Nat.le_of_ble_eq_true rfl) ⟨Nat.zero_le _, Nat.zero_le _⟩ dX12_every_37 (fun H locs hP hS => ?_)
        refine lv_goto (tgt := 4) hx hb dX12_every_40 (by decide) ?_
        exact ih _ _ _ _ _ hρ0 hL hF hP hS (lv_sub hl [0] rfl)
set_option maxHeartbeats 4000000 in
set_option maxRecDepth 100000 in
theorem w_X12_every_0  {p : Program} {e : Env} {s : State} {m : MethodId} {args : Array Value} {below : List Frame} {meth : Method} {c : Code} {ρ0 : RG} {σ1 : SG} (C : Cx Y D N ad p s m args meth c cX12_every 1 none RX12 wsL_law) {σ : SG} {ρ : RG} {H : Heap} {locs : List Loc} {ls : Array Slot} (hρ0 : ρ = ρ0) (hL : Lay N K len ρ) (hF : F_X12_every σ ρ = some σ1) (hP : WP Y D N ad K len σ ρ H) (hS : va_S (AA N ad s.heap.size) s.heap H locs) (hl : lv_has ls 1 [(0, .ref (ad 54))]) : W p l e rm_X12_every s m args below meth c H locs 0 0 (MQ below (QW Y D N ad K len σ1 ρ0 (AA N ad s.heap.size) none) args s 0 0 (AA N ad s.heap.size)) (F0 m 0 ls []) := by
  have hx := C.1.1
  have hb := C.1.2.1
  unfold F_X12_every at hF
  refine lv_aload_n hx hb dX12_every_0 rfl (lv_at hl 0 rfl) ?_
  obtain ⟨σ1, hq1, hF⟩ := bn_1 hF
  refine x_callV (ci := 12) rfl rfl C hP hS (c_X12_factor hL hq1) (lr_54 hL) (lk_54 hL) (cwV 0 C.1.2.2.2.2 (gdV mw_340 mw_341 mw_342 mw_5 mw_343) rfl rfl rfl hd_X12_factor ⟨Nat.le_of_ble_eq_true rfl, Nat.le_of_ble_eq_true rfl⟩) rfl rfl hl.1 (Nat.le_of_ble_eq_true rfl) ⟨Nat.zero_le _, Nat.zero_le _⟩ dX12_every_1 (fun H locs hP hS => ?_)
  exact w_X12_every_4 C 1024 _ _ _ _ _ hρ0 hL hF hP hS (lv_sub hl [0] rfl)
set_option maxHeartbeats 4000000 in
set_option maxRecDepth 100000 in
theorem c_X12_every  {σ1 : SG} {σ : SG} {ρ : RG} (hL : Lay N K len ρ) (hF : F_X12_every σ ρ = some σ1) : MT l Y D N ad K len yX12_every (Cond.code yX12_every cX12_every 1 none :: wsL_law) rm_X12_every [.ref (ad 54)] σ ρ none σ1 ρ := by
  refine mt_of (cc := cX12_every) (nL := 1) (ret := none) (by decide) (Nat.le_of_ble_eq_true rfl) ?_
  intro p e s m args below meth c ls C hnm hP hS hl
  exact w_X12_every_0 C rfl hL hF hP hS hl

/-! CutCrookedModel.private void some();  -/
abbrev rm_X12_some : Room := { frames := 50, cells := 0, slots := 0, locals := 900 }
def F_X12_some_4  : Nat → SG → RG → Option (SG)
  | 0 => fun _ _ => none
  | n + 1 => fun σ ρ =>
  if (σ 54 8) = 0 then
    bn (F_X12_here σ ρ) fun r3 =>
    if r3 = (124 : Int32) then
      nm ((σ 54 6) + (1 : Int32)) fun x5 =>
      nm (s2 σ 54 6 x5) fun σ7 =>
      bn (F_X12_every σ7 ρ) fun σ8 =>
      bn (F_X12_emits (-3 : Int32) σ8 ρ) fun σ9 =>
      F_X12_some_4 n σ9 ρ
    else
      some σ
  else
    some σ
def F_X12_some  (σ : SG) (ρ : RG) : Option (SG) :=
  bn (F_X12_every σ ρ) fun σ1 =>
  F_X12_some_4 1024 σ1 ρ
set_option maxHeartbeats 4000000 in
set_option maxRecDepth 100000 in
theorem w_X12_some_4  {p : Program} {e : Env} {s : State} {m : MethodId} {args : Array Value} {below : List Frame} {meth : Method} {c : Code} {ρ0 : RG} {σ1 : SG} (C : Cx Y D N ad p s m args meth c cX12_some 1 none RX12 wsL_law) : ∀ (n : Nat) (σ : SG) (ρ : RG) (H : Heap) (locs : List Loc) (ls : Array Slot), ρ = ρ0 → Lay N K len ρ → F_X12_some_4 n σ ρ = some σ1 → WP Y D N ad K len σ ρ H → va_S (AA N ad s.heap.size) s.heap H locs → lv_has ls 1 [(0, .ref (ad 54))] → W p l e rm_X12_some s m args below meth c H locs 0 0 (MQ below (QW Y D N ad K len σ1 ρ0 (AA N ad s.heap.size) none) args s 0 0 (AA N ad s.heap.size)) (F0 m 4 ls []) := by
  have hx := C.1.1
  have hb := C.1.2.1
  intro n
  induction n with
  | zero => intro σ ρ H locs ls hρ0 hL hF; cases hF
  | succ n ih =>
    intro σ ρ H locs ls hρ0 hL hF hP hS hl
    unfold F_X12_some_4 at hF
    refine lv_aload_n hx hb dX12_some_4 rfl (lv_at hl 0 rfl) ?_
    refine get_12_8 C hP (lr_54 hL) (lk_54 hL) inlX12 mw_296 dX12_some_5 ?_
    refine lv_if_ne (tgt := 43) hx hb dX12_some_8 (by decide) (fun c_2 => ?_) (fun c_2 => ?_) -- COND 2 rcases (Decidable.em ((σ 54 8) = 0)).symm with c_2 | c_2
    · have hF := ite_f hF c_2
      obtain rfl := ret_1 hF
      subst hρ0
      exact x_vret rfl C hP hS dX12_some_43
    · have hF := ite_t hF c_2
      refine lv_aload_n hx hb dX12_some_11 rfl (lv_at hl 0 rfl) ?_
      obtain ⟨r3, hq3, hF⟩ := bn_1 hF
      refine x_callV (ci := 12) rfl rfl C hP hS (c_X12_here hL hq3) (lr_54 hL) (lk_54 hL) (cwV 0 C.1.2.2.2.2 (gdV mw_302 mw_303 mw_304 mw_5 mw_305) rfl rfl rfl hd_X12_here ⟨Nat.le_of_ble_eq_true rfl, Nat.le_of_ble_eq_true rfl⟩) rfl rfl hl.1 (Nat.le_of_ble_eq_true rfl) ⟨Nat.zero_le _, Nat.zero_le _⟩ dX12_some_12 (fun H locs hP hS => ?_)
      refine lv_bipush (v := 124) hx hb dX12_some_15 (by decide +kernel) ?_
      refine lv_icmp_ne (tgt := 43) hx hb dX12_some_17 (by decide) (fun c_4 => ?_) (fun c_4 => ?_) -- COND 4 rcases (Decidable.em (r3 = (124 : Int32))).symm with c_4 | c_4
      · have hF := ite_f hF c_4
        obtain rfl := ret_1 hF
        subst hρ0
        exact x_vret rfl C hP hS dX12_some_43
      · have hF := ite_t hF c_4
        refine lv_aload_n hx hb dX12_some_20 rfl (lv_at hl 0 rfl) ?_
        refine lv_dup hx hb dX12_some_21 rfl ?_
        refine get_12_6 C hP (lr_54 hL) (lk_54 hL) inlX12 mw_295 dX12_some_22 ?_
        refine lv_iconst (v := 1) hx hb dX12_some_25 (by decide) ?_
        refine lv_iadd hx hb dX12_some_26 ?_
        obtain ⟨x5, ex5, hF⟩ := nm_1 hF
        refine x_top ex5 ?_
        obtain ⟨σ7, eσ7, hF⟩ := nm_1 hF
        refine put_12_6 C hP hS (lr_54 hL) (lk_54 hL) inlX12 mw_295 eσ7 dX12_some_27 (fun H locs hP hS => ?_)
        refine lv_aload_n hx hb dX12_some_30 rfl (lv_at hl 0 rfl) ?_
        obtain ⟨σ8, hq8, hF⟩ := bn_1 hF
        refine x_callV (ci := 12) rfl rfl C hP hS (c_X12_every hL hq8) (lr_54 hL) (lk_54 hL) (cwV 0 C.1.2.2.2.2 (gdV mw_332 mw_333 mw_334 mw_5 mw_339) rfl rfl rfl hd_X12_every ⟨Nat.le_of_ble_eq_true rfl, Nat.le_of_ble_eq_true rfl⟩) rfl rfl hl.1 (Nat.le_of_ble_eq_true rfl) ⟨Nat.zero_le _, Nat.zero_le _⟩ dX12_some_31 (fun H locs hP hS => ?_)
        refine lv_aload_n hx hb dX12_some_34 rfl (lv_at hl 0 rfl) ?_
        refine lv_bipush (v := -3) hx hb dX12_some_35 (by decide +kernel) ?_
        obtain ⟨σ9, hq9, hF⟩ := bn_1 hF
        refine x_callV (ci := 12) rfl rfl C hP hS (c_X12_emits hL hq9) (lr_54 hL) (lk_54 hL) (cwV 1 C.1.2.2.2.2 (gdV mw_335 mw_336 mw_337 mw_5 mw_338) rfl rfl rfl hd_X12_emits ⟨Nat.le_of_ble_eq_true rfl, Nat.le_of_ble_eq_true rfl⟩) rfl rfl hl.1 (Nat.le_of_ble_eq_true rfl) ⟨Nat.zero_le _, Nat.zero_le _⟩ dX12_some_37 (fun H locs hP hS => ?_)
        refine lv_goto (tgt := 4) hx hb dX12_some_40 (by decide) ?_
        exact ih _ _ _ _ _ hρ0 hL hF hP hS (lv_sub hl [0] rfl)
set_option maxHeartbeats 4000000 in
set_option maxRecDepth 100000 in
theorem w_X12_some_0  {p : Program} {e : Env} {s : State} {m : MethodId} {args : Array Value} {below : List Frame} {meth : Method} {c : Code} {ρ0 : RG} {σ1 : SG} (C : Cx Y D N ad p s m args meth c cX12_some 1 none RX12 wsL_law) {σ : SG} {ρ : RG} {H : Heap} {locs : List Loc} {ls : Array Slot} (hρ0 : ρ = ρ0) (hL : Lay N K len ρ) (hF : F_X12_some σ ρ = some σ1) (hP : WP Y D N ad K len σ ρ H) (hS : va_S (AA N ad s.heap.size) s.heap H locs) (hl : lv_has ls 1 [(0, .ref (ad 54))]) : W p l e rm_X12_some s m args below meth c H locs 0 0 (MQ below (QW Y D N ad K len σ1 ρ0 (AA N ad s.heap.size) none) args s 0 0 (AA N ad s.heap.size)) (F0 m 0 ls []) := by
  have hx := C.1.1
  have hb := C.1.2.1
  unfold F_X12_some at hF
  refine lv_aload_n hx hb dX12_some_0 rfl (lv_at hl 0 rfl) ?_
  obtain ⟨σ1, hq1, hF⟩ := bn_1 hF
  refine x_callV (ci := 12) rfl rfl C hP hS (c_X12_every hL hq1) (lr_54 hL) (lk_54 hL) (cwV 0 C.1.2.2.2.2 (gdV mw_332 mw_333 mw_334 mw_5 mw_339) rfl rfl rfl hd_X12_every ⟨Nat.le_of_ble_eq_true rfl, Nat.le_of_ble_eq_true rfl⟩) rfl rfl hl.1 (Nat.le_of_ble_eq_true rfl) ⟨Nat.zero_le _, Nat.zero_le _⟩ dX12_some_1 (fun H locs hP hS => ?_)
  exact w_X12_some_4 C 1024 _ _ _ _ _ hρ0 hL hF hP hS (lv_sub hl [0] rfl)
set_option maxHeartbeats 4000000 in
set_option maxRecDepth 100000 in
theorem c_X12_some  {σ1 : SG} {σ : SG} {ρ : RG} (hL : Lay N K len ρ) (hF : F_X12_some σ ρ = some σ1) : MT l Y D N ad K len yX12_some (Cond.code yX12_some cX12_some 1 none :: wsL_law) rm_X12_some [.ref (ad 54)] σ ρ none σ1 ρ := by
  refine mt_of (cc := cX12_some) (nL := 1) (ret := none) (by decide) (Nat.le_of_ble_eq_true rfl) ?_
  intro p e s m args below meth c ls C hnm hP hS hl
  exact w_X12_some_0 C rfl hL hF hP hS hl

/-! CutCrookedModel.private void much(int, java.lang.String);  -/
theorem dX12_much_0 : decode cX12_much 0 = .ok (.aload_n 0, 1) := by decide +kernel
theorem dX12_much_1 : decode cX12_much 1 = .ok (.aload_n 2, 1) := by decide +kernel
theorem dX12_much_2 : decode cX12_much 2 = .ok (.invokevirtual 107, 3) := by decide +kernel
theorem dX12_much_5 : decode cX12_much 5 = .ok (.aload_n 0, 1) := by decide +kernel
theorem dX12_much_6 : decode cX12_much 6 = .ok (.invokevirtual 101, 3) := by decide +kernel
theorem dX12_much_9 : decode cX12_much 9 = .ok (.istore_n 3, 1) := by decide +kernel
theorem dX12_much_10 : decode cX12_much 10 = .ok (.aload_n 0, 1) := by decide +kernel
theorem dX12_much_11 : decode cX12_much 11 = .ok (.bipush 32, 2) := by decide +kernel
theorem dX12_much_13 : decode cX12_much 13 = .ok (.invokevirtual 74, 3) := by decide +kernel
theorem dX12_much_16 : decode cX12_much 16 = .ok (.aload_n 0, 1) := by decide +kernel
theorem dX12_much_17 : decode cX12_much 17 = .ok (.invokevirtual 90, 3) := by decide +kernel
theorem dX12_much_20 : decode cX12_much 20 = .ok (.aload_n 0, 1) := by decide +kernel
theorem dX12_much_21 : decode cX12_much 21 = .ok (.iload_n 1, 1) := by decide +kernel
theorem dX12_much_22 : decode cX12_much 22 = .ok (.iload_n 3, 1) := by decide +kernel
theorem dX12_much_23 : decode cX12_much 23 = .ok (.isub, 1) := by decide +kernel
theorem dX12_much_24 : decode cX12_much 24 = .ok (.invokevirtual 87, 3) := by decide +kernel
theorem dX12_much_27 : decode cX12_much 27 = .ok (.return_, 1) := by decide +kernel
theorem hd_X12_much : yX12_much.cls = RX12 ∧ yX12_much.cls ≠ "java/lang/invoke/MethodHandle" ∧ yX12_much.cls ≠ "java/lang/invoke/VarHandle" ∧ (parseMethodDescriptor yX12_much.desc).map (fun d => d.parameters.length) = some 2 := by decide +kernel
abbrev rm_X12_much : Room := { frames := 51, cells := 0, slots := 0, locals := 920 }
def F_X12_much (a1 : Int32) (w : Nat) (σ : SG) (ρ : RG) : Option (SG) :=
  bn (F_X12_spells w σ ρ) fun σ1 =>
  bn2 (F_X12_figures σ1 ρ) fun r2 σ2 =>
  bn (F_X12_must (32 : Int32) σ2 ρ) fun σ3 =>
  bn (F_X12_some σ3 ρ) fun σ4 =>
  nm (a1 - r2) fun x5 =>
  bn (F_X12_emits x5 σ4 ρ) fun σ6 =>
  some σ6
set_option maxHeartbeats 4000000 in
set_option maxRecDepth 100000 in
theorem w_X12_much_0 {a1 : Int32} {w : Nat} {p : Program} {e : Env} {s : State} {m : MethodId} {args : Array Value} {below : List Frame} {meth : Method} {c : Code} {ρ0 : RG} {σ1 : SG} (C : Cx Y D N ad p s m args meth c cX12_much 4 none RX12 wsL_law) {σ : SG} {ρ : RG} {H : Heap} {locs : List Loc} {ls : Array Slot} (hρ0 : ρ = ρ0) (hL : Lay N K len ρ) (hw : w < 6) (hF : F_X12_much a1 w σ ρ = some σ1) (hP : WP Y D N ad K len σ ρ H) (hS : va_S (AA N ad s.heap.size) s.heap H locs) (hl : lv_has ls 4 [(0, .ref (ad 54)), (1, .int a1), (2, .ref (saK Y w))]) : W p l e rm_X12_much s m args below meth c H locs 0 0 (MQ below (QW Y D N ad K len σ1 ρ0 (AA N ad s.heap.size) none) args s 0 0 (AA N ad s.heap.size)) (F0 m 0 ls []) := by
  have hx := C.1.1
  have hb := C.1.2.1
  unfold F_X12_much at hF
  refine lv_aload_n hx hb dX12_much_0 rfl (lv_at hl 0 rfl) ?_
  refine lv_aload_n hx hb dX12_much_1 rfl (lv_at hl 2 rfl) ?_
  obtain ⟨σ1, hq1, hF⟩ := bn_1 hF
  refine x_callV (ci := 12) rfl rfl C hP hS (c_X12_spells hL hw hq1) (lr_54 hL) (lk_54 hL) (cwV 1 C.1.2.2.2.2 (gdV mw_310 mw_311 mw_312 mw_5 mw_313) rfl rfl rfl hd_X12_spells ⟨Nat.le_of_ble_eq_true rfl, Nat.le_of_ble_eq_true rfl⟩) rfl rfl hl.1 (Nat.le_of_ble_eq_true rfl) ⟨Nat.zero_le _, Nat.zero_le _⟩ dX12_much_2 (fun H locs hP hS => ?_)
  refine lv_aload_n hx hb dX12_much_5 rfl (lv_at hl 0 rfl) ?_
  obtain ⟨r2, σ2, hq2, hF⟩ := bn2_1 hF
  refine x_callV (ci := 12) rfl rfl C hP hS (c_X12_figures hL hq2) (lr_54 hL) (lk_54 hL) (cwV 0 C.1.2.2.2.2 (gdV mw_320 mw_321 mw_322 mw_5 mw_323) rfl rfl rfl hd_X12_figures ⟨Nat.le_of_ble_eq_true rfl, Nat.le_of_ble_eq_true rfl⟩) rfl rfl hl.1 (Nat.le_of_ble_eq_true rfl) ⟨Nat.zero_le _, Nat.zero_le _⟩ dX12_much_6 (fun H locs hP hS => ?_)
  refine lv_istore_n (lv' := [(3, .int r2), (0, .ref (ad 54)), (1, .int a1), (2, .ref (saK Y w))]) hx hb dX12_much_9 rfl hl (by decide) rfl (fun ls hl => ?_)
  refine lv_aload_n hx hb dX12_much_10 rfl (lv_at hl 1 rfl) ?_
  refine lv_bipush (v := 32) hx hb dX12_much_11 (by decide +kernel) ?_
  obtain ⟨σ3, hq3, hF⟩ := bn_1 hF
  refine x_callV (ci := 12) rfl rfl C hP hS (c_X12_must hL hq3) (lr_54 hL) (lk_54 hL) (cwV 1 C.1.2.2.2.2 (gdV mw_316 mw_317 mw_318 mw_5 mw_319) rfl rfl rfl hd_X12_must ⟨Nat.le_of_ble_eq_true rfl, Nat.le_of_ble_eq_true rfl⟩) rfl rfl hl.1 (Nat.le_of_ble_eq_true rfl) ⟨Nat.zero_le _, Nat.zero_le _⟩ dX12_much_13 (fun H locs hP hS => ?_)
  refine lv_aload_n hx hb dX12_much_16 rfl (lv_at hl 1 rfl) ?_
  obtain ⟨σ4, hq4, hF⟩ := bn_1 hF
  refine x_callV (ci := 12) rfl rfl C hP hS (c_X12_some hL hq4) (lr_54 hL) (lk_54 hL) (cwV 0 C.1.2.2.2.2 (gdV mw_328 mw_329 mw_330 mw_5 mw_331) rfl rfl rfl hd_X12_some ⟨Nat.le_of_ble_eq_true rfl, Nat.le_of_ble_eq_true rfl⟩) rfl rfl hl.1 (Nat.le_of_ble_eq_true rfl) ⟨Nat.zero_le _, Nat.zero_le _⟩ dX12_much_17 (fun H locs hP hS => ?_)
  refine lv_aload_n hx hb dX12_much_20 rfl (lv_at hl 1 rfl) ?_
  refine lv_iload_n hx hb dX12_much_21 rfl (lv_at hl 2 rfl) ?_
  refine lv_iload_n hx hb dX12_much_22 rfl (lv_at hl 0 rfl) ?_
  refine lv_isub hx hb dX12_much_23 ?_
  obtain ⟨x5, ex5, hF⟩ := nm_1 hF
  refine x_top ex5 ?_
  obtain ⟨σ6, hq6, hF⟩ := bn_1 hF
  refine x_callV (ci := 12) rfl rfl C hP hS (c_X12_emits hL hq6) (lr_54 hL) (lk_54 hL) (cwV 1 C.1.2.2.2.2 (gdV mw_335 mw_336 mw_337 mw_5 mw_338) rfl rfl rfl hd_X12_emits ⟨Nat.le_of_ble_eq_true rfl, Nat.le_of_ble_eq_true rfl⟩) rfl rfl hl.1 (Nat.le_of_ble_eq_true rfl) ⟨Nat.zero_le _, Nat.zero_le _⟩ dX12_much_24 (fun H locs hP hS => ?_)
  obtain rfl := ret_1 hF
  subst hρ0
  exact x_vret rfl C hP hS dX12_much_27
set_option maxHeartbeats 4000000 in
set_option maxRecDepth 100000 in
theorem c_X12_much {a1 : Int32} {w : Nat} {σ1 : SG} {σ : SG} {ρ : RG} (hL : Lay N K len ρ) (hw : w < 6) (hF : F_X12_much a1 w σ ρ = some σ1) : MT l Y D N ad K len yX12_much (Cond.code yX12_much cX12_much 4 none :: wsL_law) rm_X12_much [.ref (ad 54), .int a1, .ref (saK Y w)] σ ρ none σ1 ρ := by
  refine mt_of (cc := cX12_much) (nL := 4) (ret := none) (by decide) (Nat.le_of_ble_eq_true rfl) ?_
  intro p e s m args below meth c ls C hnm hP hS hl
  exact w_X12_much_0 C rfl hL hw hF hP hS hl

/-! CutCrookedModel.private void tellsHere(int, java.lang.String);  -/
theorem dX12_tellsHere_0 : decode cX12_tellsHere 0 = .ok (.aload_n 0, 1) := by decide +kernel
theorem dX12_tellsHere_1 : decode cX12_tellsHere 1 = .ok (.aload_n 2, 1) := by decide +kernel
theorem dX12_tellsHere_2 : decode cX12_tellsHere 2 = .ok (.invokevirtual 107, 3) := by decide +kernel
theorem dX12_tellsHere_5 : decode cX12_tellsHere 5 = .ok (.aload_n 0, 1) := by decide +kernel
theorem dX12_tellsHere_6 : decode cX12_tellsHere 6 = .ok (.invokevirtual 101, 3) := by decide +kernel
theorem dX12_tellsHere_9 : decode cX12_tellsHere 9 = .ok (.istore_n 3, 1) := by decide +kernel
theorem dX12_tellsHere_10 : decode cX12_tellsHere 10 = .ok (.aload_n 0, 1) := by decide +kernel
theorem dX12_tellsHere_11 : decode cX12_tellsHere 11 = .ok (.getfield 57, 3) := by decide +kernel
theorem dX12_tellsHere_14 : decode cX12_tellsHere 14 = .ok (.ifCond .ne 15, 3) := by decide +kernel
theorem dX12_tellsHere_17 : decode cX12_tellsHere 17 = .ok (.aload_n 0, 1) := by decide +kernel
theorem dX12_tellsHere_18 : decode cX12_tellsHere 18 = .ok (.getfield 9, 3) := by decide +kernel
theorem dX12_tellsHere_21 : decode cX12_tellsHere 21 = .ok (.iload_n 1, 1) := by decide +kernel
theorem dX12_tellsHere_22 : decode cX12_tellsHere 22 = .ok (.aload_n 0, 1) := by decide +kernel
theorem dX12_tellsHere_23 : decode cX12_tellsHere 23 = .ok (.getfield 78, 3) := by decide +kernel
theorem dX12_tellsHere_26 : decode cX12_tellsHere 26 = .ok (.iadd, 1) := by decide +kernel
theorem dX12_tellsHere_27 : decode cX12_tellsHere 27 = .ok (.iload_n 3, 1) := by decide +kernel
theorem dX12_tellsHere_28 : decode cX12_tellsHere 28 = .ok (.iastore, 1) := by decide +kernel
theorem dX12_tellsHere_29 : decode cX12_tellsHere 29 = .ok (.return_, 1) := by decide +kernel
theorem hd_X12_tellsHere : yX12_tellsHere.cls = RX12 ∧ yX12_tellsHere.cls ≠ "java/lang/invoke/MethodHandle" ∧ yX12_tellsHere.cls ≠ "java/lang/invoke/VarHandle" ∧ (parseMethodDescriptor yX12_tellsHere.desc).map (fun d => d.parameters.length) = some 2 := by decide +kernel
abbrev rm_X12_tellsHere : Room := { frames := 5, cells := 0, slots := 0, locals := 107 }
def F_X12_tellsHere (a1 : Int32) (w : Nat) (σ : SG) (ρ : RG) : Option (SG) :=
  bn (F_X12_spells w σ ρ) fun σ1 =>
  bn2 (F_X12_figures σ1 ρ) fun r2 σ2 =>
  if (σ2 54 8) = 0 then
    nm (a1 + (σ2 54 5)) fun x4 =>
    gd (inb x4 909) <|
    nm (s2 σ2 55 (x4).toNatClampNeg r2) fun σ7 =>
    some σ7
  else
    some σ2
set_option maxHeartbeats 4000000 in
set_option maxRecDepth 100000 in
theorem w_X12_tellsHere_0 {a1 : Int32} {w : Nat} {p : Program} {e : Env} {s : State} {m : MethodId} {args : Array Value} {below : List Frame} {meth : Method} {c : Code} {ρ0 : RG} {σ1 : SG} (C : Cx Y D N ad p s m args meth c cX12_tellsHere 4 none RX12 wsL_law) {σ : SG} {ρ : RG} {H : Heap} {locs : List Loc} {ls : Array Slot} (hρ0 : ρ = ρ0) (hL : Lay N K len ρ) (hw : w < 6) (hF : F_X12_tellsHere a1 w σ ρ = some σ1) (hP : WP Y D N ad K len σ ρ H) (hS : va_S (AA N ad s.heap.size) s.heap H locs) (hl : lv_has ls 4 [(0, .ref (ad 54)), (1, .int a1), (2, .ref (saK Y w))]) : W p l e rm_X12_tellsHere s m args below meth c H locs 0 0 (MQ below (QW Y D N ad K len σ1 ρ0 (AA N ad s.heap.size) none) args s 0 0 (AA N ad s.heap.size)) (F0 m 0 ls []) := by
  have hx := C.1.1
  have hb := C.1.2.1
  unfold F_X12_tellsHere at hF
  refine lv_aload_n hx hb dX12_tellsHere_0 rfl (lv_at hl 0 rfl) ?_
  refine lv_aload_n hx hb dX12_tellsHere_1 rfl (lv_at hl 2 rfl) ?_
  obtain ⟨σ1, hq1, hF⟩ := bn_1 hF
  refine x_callV (ci := 12) rfl rfl C hP hS (c_X12_spells hL hw hq1) (lr_54 hL) (lk_54 hL) (cwV 1 C.1.2.2.2.2 (gdV mw_310 mw_311 mw_312 mw_5 mw_313) rfl rfl rfl hd_X12_spells ⟨Nat.le_of_ble_eq_true rfl, Nat.le_of_ble_eq_true rfl⟩) rfl rfl hl.1 (Nat.le_of_ble_eq_true rfl) ⟨Nat.zero_le _, Nat.zero_le _⟩ dX12_tellsHere_2 (fun H locs hP hS => ?_)
  refine lv_aload_n hx hb dX12_tellsHere_5 rfl (lv_at hl 0 rfl) ?_
  obtain ⟨r2, σ2, hq2, hF⟩ := bn2_1 hF
  refine x_callV (ci := 12) rfl rfl C hP hS (c_X12_figures hL hq2) (lr_54 hL) (lk_54 hL) (cwV 0 C.1.2.2.2.2 (gdV mw_320 mw_321 mw_322 mw_5 mw_323) rfl rfl rfl hd_X12_figures ⟨Nat.le_of_ble_eq_true rfl, Nat.le_of_ble_eq_true rfl⟩) rfl rfl hl.1 (Nat.le_of_ble_eq_true rfl) ⟨Nat.zero_le _, Nat.zero_le _⟩ dX12_tellsHere_6 (fun H locs hP hS => ?_)
  refine lv_istore_n (lv' := [(3, .int r2), (0, .ref (ad 54)), (1, .int a1), (2, .ref (saK Y w))]) hx hb dX12_tellsHere_9 rfl hl (by decide) rfl (fun ls hl => ?_)
  refine lv_aload_n hx hb dX12_tellsHere_10 rfl (lv_at hl 1 rfl) ?_
  refine get_12_8 C hP (lr_54 hL) (lk_54 hL) inlX12 mw_296 dX12_tellsHere_11 ?_
  refine lv_if_ne (tgt := 29) hx hb dX12_tellsHere_14 (by decide) (fun c_3 => ?_) (fun c_3 => ?_) -- COND 3 rcases (Decidable.em ((σ2 54 8) = 0)).symm with c_3 | c_3
  · have hF := ite_f hF c_3
    obtain rfl := ret_1 hF
    subst hρ0
    exact x_vret rfl C hP hS dX12_tellsHere_29
  · have hF := ite_t hF c_3
    refine lv_aload_n hx hb dX12_tellsHere_17 rfl (lv_at hl 1 rfl) ?_
    refine get_12_1 C hP (lr_54 hL) (lk_54 hL) inlX12 mw_81 (lf_54_1 hL) dX12_tellsHere_18 ?_
    refine lv_iload_n hx hb dX12_tellsHere_21 rfl (lv_at hl 2 rfl) ?_
    refine lv_aload_n hx hb dX12_tellsHere_22 rfl (lv_at hl 1 rfl) ?_
    refine get_12_5 C hP (lr_54 hL) (lk_54 hL) inlX12 mw_293 dX12_tellsHere_23 ?_
    refine lv_iadd hx hb dX12_tellsHere_26 ?_
    obtain ⟨x4, ex4, hF⟩ := nm_1 hF
    refine x_top ex4 ?_
    refine lv_iload_n hx hb dX12_tellsHere_27 rfl (lv_at hl 0 rfl) ?_
    obtain ⟨g5, hF⟩ := gd_1 hF
    obtain ⟨σ7, eσ7, hF⟩ := nm_1 hF
    refine x_iast (σ1 := σ7) C hP hS (lr_55 hL) (lk_55 hL) (ln_55 hL) g5 eσ7 dX12_tellsHere_28 (fun H locs hP hS => ?_)
    obtain rfl := ret_1 hF
    subst hρ0
    exact x_vret rfl C hP hS dX12_tellsHere_29
set_option maxHeartbeats 4000000 in
set_option maxRecDepth 100000 in
theorem c_X12_tellsHere {a1 : Int32} {w : Nat} {σ1 : SG} {σ : SG} {ρ : RG} (hL : Lay N K len ρ) (hw : w < 6) (hF : F_X12_tellsHere a1 w σ ρ = some σ1) : MT l Y D N ad K len yX12_tellsHere (Cond.code yX12_tellsHere cX12_tellsHere 4 none :: wsL_law) rm_X12_tellsHere [.ref (ad 54), .int a1, .ref (saK Y w)] σ ρ none σ1 ρ := by
  refine mt_of (cc := cX12_tellsHere) (nL := 4) (ret := none) (by decide) (Nat.le_of_ble_eq_true rfl) ?_
  intro p e s m args below meth c ls C hnm hP hS hl
  exact w_X12_tellsHere_0 C rfl hL hw hF hP hS hl

/-! CutCrookedModel.private void clauseHere();  -/
theorem dX12_clauseHere_0 : decode cX12_clauseHere 0 = .ok (.aload_n 0, 1) := by decide +kernel
theorem dX12_clauseHere_1 : decode cX12_clauseHere 1 = .ok (.invokevirtual 61, 3) := by decide +kernel
theorem dX12_clauseHere_4 : decode cX12_clauseHere 4 = .ok (.lookupswitch 91 #[(101, 56), (112, 79), (115, 68), (116, 44)], 44) := by decide +kernel
theorem dX12_clauseHere_48 : decode cX12_clauseHere 48 = .ok (.aload_n 0, 1) := by decide +kernel
theorem dX12_clauseHere_49 : decode cX12_clauseHere 49 = .ok (.sipush 194, 3) := by decide +kernel
theorem dX12_clauseHere_52 : decode cX12_clauseHere 52 = .ok (.ldc 111, 2) := by decide +kernel
theorem dX12_clauseHere_54 : decode cX12_clauseHere 54 = .ok (.invokevirtual 113, 3) := by decide +kernel
theorem dX12_clauseHere_57 : decode cX12_clauseHere 57 = .ok (.goto 43, 3) := by decide +kernel
theorem dX12_clauseHere_60 : decode cX12_clauseHere 60 = .ok (.aload_n 0, 1) := by decide +kernel
theorem dX12_clauseHere_61 : decode cX12_clauseHere 61 = .ok (.sipush 199, 3) := by decide +kernel
theorem dX12_clauseHere_64 : decode cX12_clauseHere 64 = .ok (.ldc 117, 2) := by decide +kernel
theorem dX12_clauseHere_66 : decode cX12_clauseHere 66 = .ok (.invokevirtual 113, 3) := by decide +kernel
theorem dX12_clauseHere_69 : decode cX12_clauseHere 69 = .ok (.goto 31, 3) := by decide +kernel
theorem dX12_clauseHere_72 : decode cX12_clauseHere 72 = .ok (.aload_n 0, 1) := by decide +kernel
theorem dX12_clauseHere_73 : decode cX12_clauseHere 73 = .ok (.bipush (-10), 2) := by decide +kernel
theorem dX12_clauseHere_75 : decode cX12_clauseHere 75 = .ok (.ldc 119, 2) := by decide +kernel
theorem dX12_clauseHere_77 : decode cX12_clauseHere 77 = .ok (.invokevirtual 121, 3) := by decide +kernel
theorem dX12_clauseHere_80 : decode cX12_clauseHere 80 = .ok (.goto 20, 3) := by decide +kernel
theorem dX12_clauseHere_83 : decode cX12_clauseHere 83 = .ok (.aload_n 0, 1) := by decide +kernel
theorem dX12_clauseHere_84 : decode cX12_clauseHere 84 = .ok (.sipush (-200), 3) := by decide +kernel
theorem dX12_clauseHere_87 : decode cX12_clauseHere 87 = .ok (.ldc 124, 2) := by decide +kernel
theorem dX12_clauseHere_89 : decode cX12_clauseHere 89 = .ok (.invokevirtual 121, 3) := by decide +kernel
theorem dX12_clauseHere_92 : decode cX12_clauseHere 92 = .ok (.goto 8, 3) := by decide +kernel
theorem dX12_clauseHere_95 : decode cX12_clauseHere 95 = .ok (.aload_n 0, 1) := by decide +kernel
theorem dX12_clauseHere_96 : decode cX12_clauseHere 96 = .ok (.iconst 1, 1) := by decide +kernel
theorem dX12_clauseHere_97 : decode cX12_clauseHere 97 = .ok (.putfield 57, 3) := by decide +kernel
theorem dX12_clauseHere_100 : decode cX12_clauseHere 100 = .ok (.return_, 1) := by decide +kernel
theorem hd_X12_clauseHere : yX12_clauseHere.cls = RX12 ∧ yX12_clauseHere.cls ≠ "java/lang/invoke/MethodHandle" ∧ yX12_clauseHere.cls ≠ "java/lang/invoke/VarHandle" ∧ (parseMethodDescriptor yX12_clauseHere.desc).map (fun d => d.parameters.length) = some 0 := by decide +kernel
abbrev rm_X12_clauseHere : Room := { frames := 52, cells := 0, slots := 0, locals := 943 }
def F_X12_clauseHere  (σ : SG) (ρ : RG) : Option (SG) :=
  bn (F_X12_here σ ρ) fun r1 =>
  if r1 = 101 then
    bn (F_X12_tellsHere (199 : Int32) 1 σ ρ) fun σ3 =>
    some σ3
  else
    if r1 = 112 then
      bn (F_X12_much (-200 : Int32) 3 σ ρ) fun σ4 =>
      some σ4
    else
      if r1 = 115 then
        bn (F_X12_much (-10 : Int32) 2 σ ρ) fun σ5 =>
        some σ5
      else
        if r1 = 116 then
          bn (F_X12_tellsHere (194 : Int32) 0 σ ρ) fun σ6 =>
          some σ6
        else
          nm (s2 σ 54 8 (1 : Int32)) fun σ8 =>
          some σ8
set_option maxHeartbeats 4000000 in
set_option maxRecDepth 100000 in
theorem w_X12_clauseHere_0  {p : Program} {e : Env} {s : State} {m : MethodId} {args : Array Value} {below : List Frame} {meth : Method} {c : Code} {ρ0 : RG} {σ1 : SG} (C : Cx Y D N ad p s m args meth c cX12_clauseHere 1 none RX12 wsL_law) {σ : SG} {ρ : RG} {H : Heap} {locs : List Loc} {ls : Array Slot} (hρ0 : ρ = ρ0) (hL : Lay N K len ρ) (hF : F_X12_clauseHere σ ρ = some σ1) (hP : WP Y D N ad K len σ ρ H) (hS : va_S (AA N ad s.heap.size) s.heap H locs) (hl : lv_has ls 1 [(0, .ref (ad 54))]) : W p l e rm_X12_clauseHere s m args below meth c H locs 0 0 (MQ below (QW Y D N ad K len σ1 ρ0 (AA N ad s.heap.size) none) args s 0 0 (AA N ad s.heap.size)) (F0 m 0 ls []) := by
  have hx := C.1.1
  have hb := C.1.2.1
  unfold F_X12_clauseHere at hF
  refine lv_aload_n hx hb dX12_clauseHere_0 rfl (lv_at hl 0 rfl) ?_
  obtain ⟨r1, hq1, hF⟩ := bn_1 hF
  refine x_callV (ci := 12) rfl rfl C hP hS (c_X12_here hL hq1) (lr_54 hL) (lk_54 hL) (cwV 0 C.1.2.2.2.2 (gdV mw_302 mw_303 mw_304 mw_5 mw_305) rfl rfl rfl hd_X12_here ⟨Nat.le_of_ble_eq_true rfl, Nat.le_of_ble_eq_true rfl⟩) rfl rfl hl.1 (Nat.le_of_ble_eq_true rfl) ⟨Nat.zero_le _, Nat.zero_le _⟩ dX12_clauseHere_1 (fun H locs hP hS => ?_)
  by_cases cs2_101 : r1 = 101
  · have hF := ite_t hF cs2_101
    refine lv_lookup (tgt := 60) (off := 56) hx hb dX12_clauseHere_4 (by decide) (by rw [cs2_101]; decide) (by decide) ?_
    refine lv_aload_n hx hb dX12_clauseHere_60 rfl (lv_at hl 0 rfl) ?_
    refine lv_sipush (v := 199) hx hb dX12_clauseHere_61 (by decide +kernel) ?_
    refine x_ldcS (own0 := "CutCrookedModel") (tx := "end ") (index := 117) (i := 1) C (by decide +kernel) dX12_clauseHere_64 ?_
    obtain ⟨σ3, hq3, hF⟩ := bn_1 hF
    refine x_callV (ci := 12) rfl rfl C hP hS (c_X12_tellsHere hL (by decide) hq3) (lr_54 hL) (lk_54 hL) (cwV 2 C.1.2.2.2.2 (gdV mw_306 mw_307 mw_308 mw_5 mw_309) rfl rfl rfl hd_X12_tellsHere ⟨Nat.le_of_ble_eq_true rfl, Nat.le_of_ble_eq_true rfl⟩) rfl rfl hl.1 (Nat.le_of_ble_eq_true rfl) ⟨Nat.zero_le _, Nat.zero_le _⟩ dX12_clauseHere_66 (fun H locs hP hS => ?_)
    refine lv_goto (tgt := 100) hx hb dX12_clauseHere_69 (by decide) ?_
    obtain rfl := ret_1 hF
    subst hρ0
    exact x_vret rfl C hP hS dX12_clauseHere_100
  · have hF := ite_f hF cs2_101
    by_cases cs2_112 : r1 = 112
    · have hF := ite_t hF cs2_112
      refine lv_lookup (tgt := 83) (off := 79) hx hb dX12_clauseHere_4 (by decide) (by rw [cs2_112]; decide) (by decide) ?_
      refine lv_aload_n hx hb dX12_clauseHere_83 rfl (lv_at hl 0 rfl) ?_
      refine lv_sipush (v := -200) hx hb dX12_clauseHere_84 (by decide +kernel) ?_
      refine x_ldcS (own0 := "CutCrookedModel") (tx := "pull ") (index := 124) (i := 3) C (by decide +kernel) dX12_clauseHere_87 ?_
      obtain ⟨σ4, hq4, hF⟩ := bn_1 hF
      refine x_callV (ci := 12) rfl rfl C hP hS (c_X12_much hL (by decide) hq4) (lr_54 hL) (lk_54 hL) (cwV 2 C.1.2.2.2.2 (gdV mw_324 mw_325 mw_326 mw_5 mw_327) rfl rfl rfl hd_X12_much ⟨Nat.le_of_ble_eq_true rfl, Nat.le_of_ble_eq_true rfl⟩) rfl rfl hl.1 (Nat.le_of_ble_eq_true rfl) ⟨Nat.zero_le _, Nat.zero_le _⟩ dX12_clauseHere_89 (fun H locs hP hS => ?_)
      refine lv_goto (tgt := 100) hx hb dX12_clauseHere_92 (by decide) ?_
      obtain rfl := ret_1 hF
      subst hρ0
      exact x_vret rfl C hP hS dX12_clauseHere_100
    · have hF := ite_f hF cs2_112
      by_cases cs2_115 : r1 = 115
      · have hF := ite_t hF cs2_115
        refine lv_lookup (tgt := 72) (off := 68) hx hb dX12_clauseHere_4 (by decide) (by rw [cs2_115]; decide) (by decide) ?_
        refine lv_aload_n hx hb dX12_clauseHere_72 rfl (lv_at hl 0 rfl) ?_
        refine lv_bipush (v := -10) hx hb dX12_clauseHere_73 (by decide +kernel) ?_
        refine x_ldcS (own0 := "CutCrookedModel") (tx := "slip ") (index := 119) (i := 2) C (by decide +kernel) dX12_clauseHere_75 ?_
        obtain ⟨σ5, hq5, hF⟩ := bn_1 hF
        refine x_callV (ci := 12) rfl rfl C hP hS (c_X12_much hL (by decide) hq5) (lr_54 hL) (lk_54 hL) (cwV 2 C.1.2.2.2.2 (gdV mw_324 mw_325 mw_326 mw_5 mw_327) rfl rfl rfl hd_X12_much ⟨Nat.le_of_ble_eq_true rfl, Nat.le_of_ble_eq_true rfl⟩) rfl rfl hl.1 (Nat.le_of_ble_eq_true rfl) ⟨Nat.zero_le _, Nat.zero_le _⟩ dX12_clauseHere_77 (fun H locs hP hS => ?_)
        refine lv_goto (tgt := 100) hx hb dX12_clauseHere_80 (by decide) ?_
        obtain rfl := ret_1 hF
        subst hρ0
        exact x_vret rfl C hP hS dX12_clauseHere_100
      · have hF := ite_f hF cs2_115
        by_cases cs2_116 : r1 = 116
        · have hF := ite_t hF cs2_116
          refine lv_lookup (tgt := 48) (off := 44) hx hb dX12_clauseHere_4 (by decide) (by rw [cs2_116]; decide) (by decide) ?_
          refine lv_aload_n hx hb dX12_clauseHere_48 rfl (lv_at hl 0 rfl) ?_
          refine lv_sipush (v := 194) hx hb dX12_clauseHere_49 (by decide +kernel) ?_
          refine x_ldcS (own0 := "CutCrookedModel") (tx := "thin ") (index := 111) (i := 0) C (by decide +kernel) dX12_clauseHere_52 ?_
          obtain ⟨σ6, hq6, hF⟩ := bn_1 hF
          refine x_callV (ci := 12) rfl rfl C hP hS (c_X12_tellsHere hL (by decide) hq6) (lr_54 hL) (lk_54 hL) (cwV 2 C.1.2.2.2.2 (gdV mw_306 mw_307 mw_308 mw_5 mw_309) rfl rfl rfl hd_X12_tellsHere ⟨Nat.le_of_ble_eq_true rfl, Nat.le_of_ble_eq_true rfl⟩) rfl rfl hl.1 (Nat.le_of_ble_eq_true rfl) ⟨Nat.zero_le _, Nat.zero_le _⟩ dX12_clauseHere_54 (fun H locs hP hS => ?_)
          refine lv_goto (tgt := 100) hx hb dX12_clauseHere_57 (by decide) ?_
          obtain rfl := ret_1 hF
          subst hρ0
          exact x_vret rfl C hP hS dX12_clauseHere_100
        · have hF := ite_f hF cs2_116
          refine lv_lookup (tgt := 95) (off := 91) hx hb dX12_clauseHere_4 (by decide) (by have q101 := ne_ti cs2_101 (by decide : (101 : Int32).toInt = 101); have q112 := ne_ti cs2_112 (by decide : (112 : Int32).toInt = 112); have q115 := ne_ti cs2_115 (by decide : (115 : Int32).toInt = 115); have q116 := ne_ti cs2_116 (by decide : (116 : Int32).toInt = 116); show (if (101 : Int) = r1.toInt then (56 : Int) else if (112 : Int) = r1.toInt then (79 : Int) else if (115 : Int) = r1.toInt then (68 : Int) else if (116 : Int) = r1.toInt then (44 : Int) else (91 : Int)) = _; rw [if_neg (Ne.symm q101), if_neg (Ne.symm q112), if_neg (Ne.symm q115), if_neg (Ne.symm q116)]) (by decide) ?_
          refine lv_aload_n hx hb dX12_clauseHere_95 rfl (lv_at hl 0 rfl) ?_
          refine lv_iconst (v := 1) hx hb dX12_clauseHere_96 (by decide) ?_
          obtain ⟨σ8, eσ8, hF⟩ := nm_1 hF
          refine put_12_8 rfl C hP hS (lr_54 hL) (lk_54 hL) inlX12 mw_296 eσ8 dX12_clauseHere_97 (fun H locs hP hS => ?_)
          obtain rfl := ret_1 hF
          subst hρ0
          exact x_vret rfl C hP hS dX12_clauseHere_100
set_option maxHeartbeats 4000000 in
set_option maxRecDepth 100000 in
theorem c_X12_clauseHere  {σ1 : SG} {σ : SG} {ρ : RG} (hL : Lay N K len ρ) (hF : F_X12_clauseHere σ ρ = some σ1) : MT l Y D N ad K len yX12_clauseHere (Cond.code yX12_clauseHere cX12_clauseHere 1 none :: wsL_law) rm_X12_clauseHere [.ref (ad 54)] σ ρ none σ1 ρ := by
  refine mt_of (cc := cX12_clauseHere) (nL := 1) (ret := none) (by decide) (Nat.le_of_ble_eq_true rfl) ?_
  intro p e s m args below meth c ls C hnm hP hS hl
  exact w_X12_clauseHere_0 C rfl hL hF hP hS hl

/-! CutCrookedModel.public int board();  -/
theorem dX12_board_0 : decode cX12_board 0 = .ok (.aload_n 0, 1) := by decide +kernel
theorem dX12_board_1 : decode cX12_board 1 = .ok (.getfield 9, 3) := by decide +kernel
theorem dX12_board_4 : decode cX12_board 4 = .ok (.bipush 12, 2) := by decide +kernel
theorem dX12_board_6 : decode cX12_board 6 = .ok (.iaload, 1) := by decide +kernel
theorem dX12_board_7 : decode cX12_board 7 = .ok (.iconst 5, 1) := by decide +kernel
theorem dX12_board_8 : decode cX12_board 8 = .ok (.if_icmp .ne 6, 3) := by decide +kernel
theorem dX12_board_11 : decode cX12_board 11 = .ok (.bipush (-4), 2) := by decide +kernel
theorem dX12_board_13 : decode cX12_board 13 = .ok (.ireturn, 1) := by decide +kernel
theorem dX12_board_14 : decode cX12_board 14 = .ok (.aload_n 0, 1) := by decide +kernel
theorem dX12_board_15 : decode cX12_board 15 = .ok (.aload_n 0, 1) := by decide +kernel
theorem dX12_board_16 : decode cX12_board 16 = .ok (.getfield 9, 3) := by decide +kernel
theorem dX12_board_19 : decode cX12_board 19 = .ok (.bipush 12, 2) := by decide +kernel
theorem dX12_board_21 : decode cX12_board 21 = .ok (.iaload, 1) := by decide +kernel
theorem dX12_board_22 : decode cX12_board 22 = .ok (.putfield 78, 3) := by decide +kernel
theorem dX12_board_25 : decode cX12_board 25 = .ok (.aload_n 0, 1) := by decide +kernel
theorem dX12_board_26 : decode cX12_board 26 = .ok (.aload_n 0, 1) := by decide +kernel
theorem dX12_board_27 : decode cX12_board 27 = .ok (.getfield 9, 3) := by decide +kernel
theorem dX12_board_30 : decode cX12_board 30 = .ok (.bipush 15, 2) := by decide +kernel
theorem dX12_board_32 : decode cX12_board 32 = .ok (.iaload, 1) := by decide +kernel
theorem dX12_board_33 : decode cX12_board 33 = .ok (.putfield 54, 3) := by decide +kernel
theorem dX12_board_36 : decode cX12_board 36 = .ok (.aload_n 0, 1) := by decide +kernel
theorem dX12_board_37 : decode cX12_board 37 = .ok (.getfield 9, 3) := by decide +kernel
theorem dX12_board_40 : decode cX12_board 40 = .ok (.bipush 15, 2) := by decide +kernel
theorem dX12_board_42 : decode cX12_board 42 = .ok (.iconst 0, 1) := by decide +kernel
theorem dX12_board_43 : decode cX12_board 43 = .ok (.iastore, 1) := by decide +kernel
theorem dX12_board_44 : decode cX12_board 44 = .ok (.aload_n 0, 1) := by decide +kernel
theorem dX12_board_45 : decode cX12_board 45 = .ok (.getfield 9, 3) := by decide +kernel
theorem dX12_board_48 : decode cX12_board 48 = .ok (.sipush 194, 3) := by decide +kernel
theorem dX12_board_51 : decode cX12_board 51 = .ok (.aload_n 0, 1) := by decide +kernel
theorem dX12_board_52 : decode cX12_board 52 = .ok (.getfield 78, 3) := by decide +kernel
theorem dX12_board_55 : decode cX12_board 55 = .ok (.iadd, 1) := by decide +kernel
theorem dX12_board_56 : decode cX12_board 56 = .ok (.iconst 3, 1) := by decide +kernel
theorem dX12_board_57 : decode cX12_board 57 = .ok (.iastore, 1) := by decide +kernel
theorem dX12_board_58 : decode cX12_board 58 = .ok (.aload_n 0, 1) := by decide +kernel
theorem dX12_board_59 : decode cX12_board 59 = .ok (.getfield 9, 3) := by decide +kernel
theorem dX12_board_62 : decode cX12_board 62 = .ok (.sipush 199, 3) := by decide +kernel
theorem dX12_board_65 : decode cX12_board 65 = .ok (.aload_n 0, 1) := by decide +kernel
theorem dX12_board_66 : decode cX12_board 66 = .ok (.getfield 78, 3) := by decide +kernel
theorem dX12_board_69 : decode cX12_board 69 = .ok (.iadd, 1) := by decide +kernel
theorem dX12_board_70 : decode cX12_board 70 = .ok (.bipush 10, 2) := by decide +kernel
theorem dX12_board_72 : decode cX12_board 72 = .ok (.iastore, 1) := by decide +kernel
theorem dX12_board_73 : decode cX12_board 73 = .ok (.aload_n 0, 1) := by decide +kernel
theorem dX12_board_74 : decode cX12_board 74 = .ok (.getfield 9, 3) := by decide +kernel
theorem dX12_board_77 : decode cX12_board 77 = .ok (.sipush 204, 3) := by decide +kernel
theorem dX12_board_80 : decode cX12_board 80 = .ok (.aload_n 0, 1) := by decide +kernel
theorem dX12_board_81 : decode cX12_board 81 = .ok (.getfield 78, 3) := by decide +kernel
theorem dX12_board_84 : decode cX12_board 84 = .ok (.iadd, 1) := by decide +kernel
theorem dX12_board_85 : decode cX12_board 85 = .ok (.iconst 0, 1) := by decide +kernel
theorem dX12_board_86 : decode cX12_board 86 = .ok (.iastore, 1) := by decide +kernel
theorem dX12_board_87 : decode cX12_board 87 = .ok (.aload_n 0, 1) := by decide +kernel
theorem dX12_board_88 : decode cX12_board 88 = .ok (.iconst 0, 1) := by decide +kernel
theorem dX12_board_89 : decode cX12_board 89 = .ok (.putfield 51, 3) := by decide +kernel
theorem dX12_board_92 : decode cX12_board 92 = .ok (.aload_n 0, 1) := by decide +kernel
theorem dX12_board_93 : decode cX12_board 93 = .ok (.iconst 0, 1) := by decide +kernel
theorem dX12_board_94 : decode cX12_board 94 = .ok (.putfield 57, 3) := by decide +kernel
theorem dX12_board_97 : decode cX12_board 97 = .ok (.aload_n 0, 1) := by decide +kernel
theorem dX12_board_98 : decode cX12_board 98 = .ok (.iconst 0, 1) := by decide +kernel
theorem dX12_board_99 : decode cX12_board 99 = .ok (.putfield 81, 3) := by decide +kernel
theorem dX12_board_102 : decode cX12_board 102 = .ok (.iconst 1, 1) := by decide +kernel
theorem dX12_board_103 : decode cX12_board 103 = .ok (.istore_n 1, 1) := by decide +kernel
theorem dX12_board_104 : decode cX12_board 104 = .ok (.aload_n 0, 1) := by decide +kernel
theorem dX12_board_105 : decode cX12_board 105 = .ok (.invokevirtual 126, 3) := by decide +kernel
theorem dX12_board_108 : decode cX12_board 108 = .ok (.aload_n 0, 1) := by decide +kernel
theorem dX12_board_109 : decode cX12_board 109 = .ok (.getfield 57, 3) := by decide +kernel
theorem dX12_board_112 : decode cX12_board 112 = .ok (.ifCond .ne 38, 3) := by decide +kernel
theorem dX12_board_115 : decode cX12_board 115 = .ok (.iload_n 1, 1) := by decide +kernel
theorem dX12_board_116 : decode cX12_board 116 = .ok (.bipush 10, 2) := by decide +kernel
theorem dX12_board_118 : decode cX12_board 118 = .ok (.if_icmp .ge 32, 3) := by decide +kernel
theorem dX12_board_121 : decode cX12_board 121 = .ok (.aload_n 0, 1) := by decide +kernel
theorem dX12_board_122 : decode cX12_board 122 = .ok (.invokevirtual 61, 3) := by decide +kernel
theorem dX12_board_125 : decode cX12_board 125 = .ok (.bipush 59, 2) := by decide +kernel
theorem dX12_board_127 : decode cX12_board 127 = .ok (.if_icmp .ne 23, 3) := by decide +kernel
theorem dX12_board_130 : decode cX12_board 130 = .ok (.aload_n 0, 1) := by decide +kernel
theorem dX12_board_131 : decode cX12_board 131 = .ok (.dup, 1) := by decide +kernel
theorem dX12_board_132 : decode cX12_board 132 = .ok (.getfield 51, 3) := by decide +kernel
theorem dX12_board_135 : decode cX12_board 135 = .ok (.iconst 1, 1) := by decide +kernel
theorem dX12_board_136 : decode cX12_board 136 = .ok (.iadd, 1) := by decide +kernel
theorem dX12_board_137 : decode cX12_board 137 = .ok (.putfield 51, 3) := by decide +kernel
theorem dX12_board_140 : decode cX12_board 140 = .ok (.aload_n 0, 1) := by decide +kernel
theorem dX12_board_141 : decode cX12_board 141 = .ok (.invokevirtual 126, 3) := by decide +kernel
theorem dX12_board_144 : decode cX12_board 144 = .ok (.iinc 1 1, 3) := by decide +kernel
theorem dX12_board_147 : decode cX12_board 147 = .ok (.goto (-39), 3) := by decide +kernel
theorem dX12_board_150 : decode cX12_board 150 = .ok (.aload_n 0, 1) := by decide +kernel
theorem dX12_board_151 : decode cX12_board 151 = .ok (.getfield 57, 3) := by decide +kernel
theorem dX12_board_154 : decode cX12_board 154 = .ok (.ifCond .ne 14, 3) := by decide +kernel
theorem dX12_board_157 : decode cX12_board 157 = .ok (.aload_n 0, 1) := by decide +kernel
theorem dX12_board_158 : decode cX12_board 158 = .ok (.getfield 51, 3) := by decide +kernel
theorem dX12_board_161 : decode cX12_board 161 = .ok (.aload_n 0, 1) := by decide +kernel
theorem dX12_board_162 : decode cX12_board 162 = .ok (.getfield 54, 3) := by decide +kernel
theorem dX12_board_165 : decode cX12_board 165 = .ok (.if_icmp .eq 11, 3) := by decide +kernel
theorem dX12_board_168 : decode cX12_board 168 = .ok (.bipush (-10), 2) := by decide +kernel
theorem dX12_board_170 : decode cX12_board 170 = .ok (.aload_n 0, 1) := by decide +kernel
theorem dX12_board_171 : decode cX12_board 171 = .ok (.getfield 51, 3) := by decide +kernel
theorem dX12_board_174 : decode cX12_board 174 = .ok (.isub, 1) := by decide +kernel
theorem dX12_board_175 : decode cX12_board 175 = .ok (.ireturn, 1) := by decide +kernel
theorem dX12_board_176 : decode cX12_board 176 = .ok (.aload_n 0, 1) := by decide +kernel
theorem dX12_board_177 : decode cX12_board 177 = .ok (.getfield 9, 3) := by decide +kernel
theorem dX12_board_180 : decode cX12_board 180 = .ok (.bipush 12, 2) := by decide +kernel
theorem dX12_board_182 : decode cX12_board 182 = .ok (.dup2, 1) := by decide +kernel
theorem dX12_board_183 : decode cX12_board 183 = .ok (.iaload, 1) := by decide +kernel
theorem dX12_board_184 : decode cX12_board 184 = .ok (.iconst 1, 1) := by decide +kernel
theorem dX12_board_185 : decode cX12_board 185 = .ok (.iadd, 1) := by decide +kernel
theorem dX12_board_186 : decode cX12_board 186 = .ok (.iastore, 1) := by decide +kernel
theorem dX12_board_187 : decode cX12_board 187 = .ok (.aload_n 0, 1) := by decide +kernel
theorem dX12_board_188 : decode cX12_board 188 = .ok (.getfield 9, 3) := by decide +kernel
theorem dX12_board_191 : decode cX12_board 191 = .ok (.bipush 16, 2) := by decide +kernel
theorem dX12_board_193 : decode cX12_board 193 = .ok (.aload_n 0, 1) := by decide +kernel
theorem dX12_board_194 : decode cX12_board 194 = .ok (.getfield 78, 3) := by decide +kernel
theorem dX12_board_197 : decode cX12_board 197 = .ok (.iastore, 1) := by decide +kernel
theorem dX12_board_198 : decode cX12_board 198 = .ok (.aload_n 0, 1) := by decide +kernel
theorem dX12_board_199 : decode cX12_board 199 = .ok (.getfield 78, 3) := by decide +kernel
theorem dX12_board_202 : decode cX12_board 202 = .ok (.ireturn, 1) := by decide +kernel
theorem hd_X12_board : yX12_board.cls = RX12 ∧ yX12_board.cls ≠ "java/lang/invoke/MethodHandle" ∧ yX12_board.cls ≠ "java/lang/invoke/VarHandle" ∧ (parseMethodDescriptor yX12_board.desc).map (fun d => d.parameters.length) = some 0 := by decide +kernel
abbrev rm_X12_board : Room := { frames := 53, cells := 0, slots := 0, locals := 963 }
def F_X12_board_150  (σ : SG) (ρ : RG) : Option (Int32 × SG) :=
  if (σ 54 8) = 0 then
    if (σ 54 6) = (σ 54 7) then
      nm ((σ 55 12) + (1 : Int32)) fun x31 =>
      nm (s2 σ 55 12 x31) fun σ33 =>
      nm (s2 σ33 55 16 (σ33 54 5)) fun σ35 =>
      some ((σ35 54 5), σ35)
    else
      nm ((-10 : Int32) - (σ 54 6)) fun x36 =>
      some (x36, σ)
  else
    nm ((-10 : Int32) - (σ 54 6)) fun x29 =>
    some (x29, σ)
def F_X12_board_108  : Nat → SG → RG → Int32 → Option (Int32 × SG)
  | 0 => fun _ _ _ => none
  | n + 1 => fun σ ρ v1 =>
  if (σ 54 8) = 0 then
    if (10 : Int32) ≤ v1 then
      F_X12_board_150 σ ρ
    else
      bn (F_X12_here σ ρ) fun r38 =>
      if r38 = (59 : Int32) then
        nm ((σ 54 6) + (1 : Int32)) fun x40 =>
        nm (s2 σ 54 6 x40) fun σ42 =>
        bn (F_X12_clauseHere σ42 ρ) fun σ43 =>
        nm (v1 + (1 : Int32)) fun x44 =>
        F_X12_board_108 n σ43 ρ x44
      else
        F_X12_board_150 σ ρ
  else
    F_X12_board_150 σ ρ
def F_X12_board  (σ : SG) (ρ : RG) : Option (Int32 × SG) :=
  if (σ 55 12) = (5 : Int32) then
    some ((-4 : Int32), σ)
  else
    nm (s2 σ 54 5 (σ 55 12)) fun σ3 =>
    nm (s2 σ3 54 7 (σ3 55 15)) fun σ5 =>
    nm (s2 σ5 55 15 (0 : Int32)) fun σ7 =>
    nm ((194 : Int32) + (σ7 54 5)) fun x8 =>
    gd (inb x8 909) <|
    nm (s2 σ7 55 (x8).toNatClampNeg (3 : Int32)) fun σ11 =>
    nm ((199 : Int32) + (σ11 54 5)) fun x12 =>
    gd (inb x12 909) <|
    nm (s2 σ11 55 (x12).toNatClampNeg (10 : Int32)) fun σ15 =>
    nm ((204 : Int32) + (σ15 54 5)) fun x16 =>
    gd (inb x16 909) <|
    nm (s2 σ15 55 (x16).toNatClampNeg (0 : Int32)) fun σ19 =>
    nm (s2 σ19 54 6 (0 : Int32)) fun σ21 =>
    nm (s2 σ21 54 8 (0 : Int32)) fun σ23 =>
    nm (s2 σ23 54 9 (0 : Int32)) fun σ25 =>
    bn (F_X12_clauseHere σ25 ρ) fun σ26 =>
    F_X12_board_108 1024 σ26 ρ (1 : Int32)
set_option maxHeartbeats 4000000 in
set_option maxRecDepth 100000 in
theorem w_X12_board_150  {p : Program} {e : Env} {s : State} {m : MethodId} {args : Array Value} {below : List Frame} {meth : Method} {c : Code} {ρ0 : RG} {r : Int32} {σ1 : SG} (C : Cx Y D N ad p s m args meth c cX12_board 2 (some .int) RX12 wsL_law) {σ : SG} {ρ : RG} {H : Heap} {locs : List Loc} {ls : Array Slot} (hρ0 : ρ = ρ0) (hL : Lay N K len ρ) (hF : F_X12_board_150 σ ρ = some (r, σ1)) (hP : WP Y D N ad K len σ ρ H) (hS : va_S (AA N ad s.heap.size) s.heap H locs) (hl : lv_has ls 2 [(0, .ref (ad 54))]) : W p l e rm_X12_board s m args below meth c H locs 0 0 (MQ below (QW Y D N ad K len σ1 ρ0 (AA N ad s.heap.size) (some (.int r))) args s 0 0 (AA N ad s.heap.size)) (F0 m 150 ls []) := by
  have hx := C.1.1
  have hb := C.1.2.1
  unfold F_X12_board_150 at hF
  refine lv_aload_n hx hb dX12_board_150 rfl (lv_at hl 0 rfl) ?_
  refine get_12_8 C hP (lr_54 hL) (lk_54 hL) inlX12 mw_296 dX12_board_151 ?_
  refine lv_if_ne (tgt := 168) hx hb dX12_board_154 (by decide) (fun c_28 => ?_) (fun c_28 => ?_) -- COND 28 rcases (Decidable.em ((σ 54 8) = 0)).symm with c_28 | c_28
  · have hF := ite_f hF c_28
    refine lv_bipush (v := -10) hx hb dX12_board_168 (by decide +kernel) ?_
    refine lv_aload_n hx hb dX12_board_170 rfl (lv_at hl 0 rfl) ?_
    refine get_12_6 C hP (lr_54 hL) (lk_54 hL) inlX12 mw_295 dX12_board_171 ?_
    refine lv_isub hx hb dX12_board_174 ?_
    obtain ⟨x29, ex29, hF⟩ := nm_1 hF
    refine x_top ex29 ?_
    obtain ⟨rfl, rfl⟩ := ret_2 hF
    subst hρ0
    exact x_iret rfl C hP hS dX12_board_175
  · have hF := ite_t hF c_28
    refine lv_aload_n hx hb dX12_board_157 rfl (lv_at hl 0 rfl) ?_
    refine get_12_6 C hP (lr_54 hL) (lk_54 hL) inlX12 mw_295 dX12_board_158 ?_
    refine lv_aload_n hx hb dX12_board_161 rfl (lv_at hl 0 rfl) ?_
    refine get_12_7 C hP (lr_54 hL) (lk_54 hL) inlX12 mw_294 dX12_board_162 ?_
    refine lv_icmp_eq (tgt := 176) hx hb dX12_board_165 (by decide) (fun c_30 => ?_) (fun c_30 => ?_) -- COND 30 by_cases c_30 : (σ 54 6) = (σ 54 7)
    · have hF := ite_t hF c_30
      refine lv_aload_n hx hb dX12_board_176 rfl (lv_at hl 0 rfl) ?_
      refine get_12_1 C hP (lr_54 hL) (lk_54 hL) inlX12 mw_81 (lf_54_1 hL) dX12_board_177 ?_
      refine lv_bipush (v := 12) hx hb dX12_board_180 (by decide +kernel) ?_
      refine lv_dup2_11 hx hb dX12_board_182 rfl rfl ?_
      refine x_iald C hP (lr_55 hL) (lk_55 hL) (ln_55 hL) (by decide +kernel) dX12_board_183 ?_
      rw [cl_12]
      refine lv_iconst (v := 1) hx hb dX12_board_184 (by decide) ?_
      refine lv_iadd hx hb dX12_board_185 ?_
      obtain ⟨x31, ex31, hF⟩ := nm_1 hF
      refine x_top ex31 ?_
      obtain ⟨σ33, eσ33, hF⟩ := nm_1 hF
      refine x_iast (σ1 := σ33) C hP hS (lr_55 hL) (lk_55 hL) (ln_55 hL) (by decide +kernel) (by rw [cl_12]; exact eσ33) dX12_board_186 (fun H locs hP hS => ?_)
      refine lv_aload_n hx hb dX12_board_187 rfl (lv_at hl 0 rfl) ?_
      refine get_12_1 C hP (lr_54 hL) (lk_54 hL) inlX12 mw_81 (lf_54_1 hL) dX12_board_188 ?_
      refine lv_bipush (v := 16) hx hb dX12_board_191 (by decide +kernel) ?_
      refine lv_aload_n hx hb dX12_board_193 rfl (lv_at hl 0 rfl) ?_
      refine get_12_5 C hP (lr_54 hL) (lk_54 hL) inlX12 mw_293 dX12_board_194 ?_
      obtain ⟨σ35, eσ35, hF⟩ := nm_1 hF
      refine x_iast (σ1 := σ35) C hP hS (lr_55 hL) (lk_55 hL) (ln_55 hL) (by decide +kernel) (by rw [cl_16]; exact eσ35) dX12_board_197 (fun H locs hP hS => ?_)
      refine lv_aload_n hx hb dX12_board_198 rfl (lv_at hl 0 rfl) ?_
      refine get_12_5 C hP (lr_54 hL) (lk_54 hL) inlX12 mw_293 dX12_board_199 ?_
      obtain ⟨rfl, rfl⟩ := ret_2 hF
      subst hρ0
      exact x_iret rfl C hP hS dX12_board_202
    · have hF := ite_f hF c_30
      refine lv_bipush (v := -10) hx hb dX12_board_168 (by decide +kernel) ?_
      refine lv_aload_n hx hb dX12_board_170 rfl (lv_at hl 0 rfl) ?_
      refine get_12_6 C hP (lr_54 hL) (lk_54 hL) inlX12 mw_295 dX12_board_171 ?_
      refine lv_isub hx hb dX12_board_174 ?_
      obtain ⟨x36, ex36, hF⟩ := nm_1 hF
      refine x_top ex36 ?_
      obtain ⟨rfl, rfl⟩ := ret_2 hF
      subst hρ0
      exact x_iret rfl C hP hS dX12_board_175
set_option maxHeartbeats 4000000 in
set_option maxRecDepth 100000 in
theorem w_X12_board_108  {p : Program} {e : Env} {s : State} {m : MethodId} {args : Array Value} {below : List Frame} {meth : Method} {c : Code} {ρ0 : RG} {r : Int32} {σ1 : SG} (C : Cx Y D N ad p s m args meth c cX12_board 2 (some .int) RX12 wsL_law) : ∀ (n : Nat) (σ : SG) (ρ : RG) (v1 : Int32) (H : Heap) (locs : List Loc) (ls : Array Slot), ρ = ρ0 → Lay N K len ρ → F_X12_board_108 n σ ρ v1 = some (r, σ1) → WP Y D N ad K len σ ρ H → va_S (AA N ad s.heap.size) s.heap H locs → lv_has ls 2 [(0, .ref (ad 54)), (1, .int v1)] → W p l e rm_X12_board s m args below meth c H locs 0 0 (MQ below (QW Y D N ad K len σ1 ρ0 (AA N ad s.heap.size) (some (.int r))) args s 0 0 (AA N ad s.heap.size)) (F0 m 108 ls []) := by
  have hx := C.1.1
  have hb := C.1.2.1
  intro n
  induction n with
  | zero => intro σ ρ v1 H locs ls hρ0 hL hF; cases hF
  | succ n ih =>
    intro σ ρ v1 H locs ls hρ0 hL hF hP hS hl
    unfold F_X12_board_108 at hF
    refine lv_aload_n hx hb dX12_board_108 rfl (lv_at hl 0 rfl) ?_
    refine get_12_8 C hP (lr_54 hL) (lk_54 hL) inlX12 mw_296 dX12_board_109 ?_
    refine lv_if_ne (tgt := 150) hx hb dX12_board_112 (by decide) (fun c_27 => ?_) (fun c_27 => ?_) -- COND 27 rcases (Decidable.em ((σ 54 8) = 0)).symm with c_27 | c_27
    · have hF := ite_f hF c_27
      exact w_X12_board_150 C hρ0 hL hF hP hS (lv_sub hl [0] rfl)
    · have hF := ite_t hF c_27
      refine lv_iload_n hx hb dX12_board_115 rfl (lv_at hl 1 rfl) ?_
      refine lv_bipush (v := 10) hx hb dX12_board_116 (by decide +kernel) ?_
      refine lv_icmp_ge (tgt := 150) hx hb dX12_board_118 (by decide) (fun c_37 => ?_) (fun c_37 => ?_) -- COND 37 by_cases c_37 : (10 : Int32) ≤ v1
      · have hF := ite_t hF c_37
        exact w_X12_board_150 C hρ0 hL hF hP hS (lv_sub hl [0] rfl)
      · have hF := ite_f hF c_37
        refine lv_aload_n hx hb dX12_board_121 rfl (lv_at hl 0 rfl) ?_
        obtain ⟨r38, hq38, hF⟩ := bn_1 hF
        refine x_callV (ci := 12) rfl rfl C hP hS (c_X12_here hL hq38) (lr_54 hL) (lk_54 hL) (cwV 0 C.1.2.2.2.2 (gdV mw_302 mw_303 mw_304 mw_5 mw_305) rfl rfl rfl hd_X12_here ⟨Nat.le_of_ble_eq_true rfl, Nat.le_of_ble_eq_true rfl⟩) rfl rfl hl.1 (Nat.le_of_ble_eq_true rfl) ⟨Nat.zero_le _, Nat.zero_le _⟩ dX12_board_122 (fun H locs hP hS => ?_)
        refine lv_bipush (v := 59) hx hb dX12_board_125 (by decide +kernel) ?_
        refine lv_icmp_ne (tgt := 150) hx hb dX12_board_127 (by decide) (fun c_39 => ?_) (fun c_39 => ?_) -- COND 39 rcases (Decidable.em (r38 = (59 : Int32))).symm with c_39 | c_39
        · have hF := ite_f hF c_39
          exact w_X12_board_150 C hρ0 hL hF hP hS (lv_sub hl [0] rfl)
        · have hF := ite_t hF c_39
          refine lv_aload_n hx hb dX12_board_130 rfl (lv_at hl 0 rfl) ?_
          refine lv_dup hx hb dX12_board_131 rfl ?_
          refine get_12_6 C hP (lr_54 hL) (lk_54 hL) inlX12 mw_295 dX12_board_132 ?_
          refine lv_iconst (v := 1) hx hb dX12_board_135 (by decide) ?_
          refine lv_iadd hx hb dX12_board_136 ?_
          obtain ⟨x40, ex40, hF⟩ := nm_1 hF
          refine x_top ex40 ?_
          obtain ⟨σ42, eσ42, hF⟩ := nm_1 hF
          refine put_12_6 C hP hS (lr_54 hL) (lk_54 hL) inlX12 mw_295 eσ42 dX12_board_137 (fun H locs hP hS => ?_)
          refine lv_aload_n hx hb dX12_board_140 rfl (lv_at hl 0 rfl) ?_
          obtain ⟨σ43, hq43, hF⟩ := bn_1 hF
          refine x_callV (ci := 12) rfl rfl C hP hS (c_X12_clauseHere hL hq43) (lr_54 hL) (lk_54 hL) (cwV 0 C.1.2.2.2.2 (gdV mw_298 mw_299 mw_300 mw_5 mw_301) rfl rfl rfl hd_X12_clauseHere ⟨Nat.le_of_ble_eq_true rfl, Nat.le_of_ble_eq_true rfl⟩) rfl rfl hl.1 (Nat.le_of_ble_eq_true rfl) ⟨Nat.zero_le _, Nat.zero_le _⟩ dX12_board_141 (fun H locs hP hS => ?_)
          obtain ⟨x44, ex44, hF⟩ := nm_1 hF
          refine lv_iinc (v := x44) (lv' := [(1, .int x44), (0, .ref (ad 54))]) hx hb dX12_board_144 hl (k := 1) rfl (by rw [ex44]; first | rfl | decide) (by decide) rfl (fun ls hl => ?_)
          refine lv_goto (tgt := 108) hx hb dX12_board_147 (by decide) ?_
          exact ih _ _ _ _ _ _ hρ0 hL hF hP hS (lv_sub hl [1, 0] rfl)
set_option maxHeartbeats 4000000 in
set_option maxRecDepth 100000 in
theorem w_X12_board_0  {p : Program} {e : Env} {s : State} {m : MethodId} {args : Array Value} {below : List Frame} {meth : Method} {c : Code} {ρ0 : RG} {r : Int32} {σ1 : SG} (C : Cx Y D N ad p s m args meth c cX12_board 2 (some .int) RX12 wsL_law) {σ : SG} {ρ : RG} {H : Heap} {locs : List Loc} {ls : Array Slot} (hρ0 : ρ = ρ0) (hL : Lay N K len ρ) (hF : F_X12_board σ ρ = some (r, σ1)) (hP : WP Y D N ad K len σ ρ H) (hS : va_S (AA N ad s.heap.size) s.heap H locs) (hl : lv_has ls 2 [(0, .ref (ad 54))]) : W p l e rm_X12_board s m args below meth c H locs 0 0 (MQ below (QW Y D N ad K len σ1 ρ0 (AA N ad s.heap.size) (some (.int r))) args s 0 0 (AA N ad s.heap.size)) (F0 m 0 ls []) := by
  have hx := C.1.1
  have hb := C.1.2.1
  unfold F_X12_board at hF
  refine lv_aload_n hx hb dX12_board_0 rfl (lv_at hl 0 rfl) ?_
  refine get_12_1 C hP (lr_54 hL) (lk_54 hL) inlX12 mw_81 (lf_54_1 hL) dX12_board_1 ?_
  refine lv_bipush (v := 12) hx hb dX12_board_4 (by decide +kernel) ?_
  refine x_iald C hP (lr_55 hL) (lk_55 hL) (ln_55 hL) (by decide +kernel) dX12_board_6 ?_
  rw [cl_12]
  refine lv_iconst (v := 5) hx hb dX12_board_7 (by decide) ?_
  refine lv_icmp_ne (tgt := 14) hx hb dX12_board_8 (by decide) (fun c_1 => ?_) (fun c_1 => ?_) -- COND 1 rcases (Decidable.em ((σ 55 12) = (5 : Int32))).symm with c_1 | c_1
  · have hF := ite_f hF c_1
    refine lv_aload_n hx hb dX12_board_14 rfl (lv_at hl 0 rfl) ?_
    refine lv_aload_n hx hb dX12_board_15 rfl (lv_at hl 0 rfl) ?_
    refine get_12_1 C hP (lr_54 hL) (lk_54 hL) inlX12 mw_81 (lf_54_1 hL) dX12_board_16 ?_
    refine lv_bipush (v := 12) hx hb dX12_board_19 (by decide +kernel) ?_
    refine x_iald C hP (lr_55 hL) (lk_55 hL) (ln_55 hL) (by decide +kernel) dX12_board_21 ?_
    rw [cl_12]
    obtain ⟨σ3, eσ3, hF⟩ := nm_1 hF
    refine put_12_5 C hP hS (lr_54 hL) (lk_54 hL) inlX12 mw_293 eσ3 dX12_board_22 (fun H locs hP hS => ?_)
    refine lv_aload_n hx hb dX12_board_25 rfl (lv_at hl 0 rfl) ?_
    refine lv_aload_n hx hb dX12_board_26 rfl (lv_at hl 0 rfl) ?_
    refine get_12_1 C hP (lr_54 hL) (lk_54 hL) inlX12 mw_81 (lf_54_1 hL) dX12_board_27 ?_
    refine lv_bipush (v := 15) hx hb dX12_board_30 (by decide +kernel) ?_
    refine x_iald C hP (lr_55 hL) (lk_55 hL) (ln_55 hL) (by decide +kernel) dX12_board_32 ?_
    rw [cl_15]
    obtain ⟨σ5, eσ5, hF⟩ := nm_1 hF
    refine put_12_7 C hP hS (lr_54 hL) (lk_54 hL) inlX12 mw_294 eσ5 dX12_board_33 (fun H locs hP hS => ?_)
    refine lv_aload_n hx hb dX12_board_36 rfl (lv_at hl 0 rfl) ?_
    refine get_12_1 C hP (lr_54 hL) (lk_54 hL) inlX12 mw_81 (lf_54_1 hL) dX12_board_37 ?_
    refine lv_bipush (v := 15) hx hb dX12_board_40 (by decide +kernel) ?_
    refine lv_iconst (v := 0) hx hb dX12_board_42 (by decide) ?_
    obtain ⟨σ7, eσ7, hF⟩ := nm_1 hF
    refine x_iast (σ1 := σ7) C hP hS (lr_55 hL) (lk_55 hL) (ln_55 hL) (by decide +kernel) (by rw [cl_15]; exact eσ7) dX12_board_43 (fun H locs hP hS => ?_)
    refine lv_aload_n hx hb dX12_board_44 rfl (lv_at hl 0 rfl) ?_
    refine get_12_1 C hP (lr_54 hL) (lk_54 hL) inlX12 mw_81 (lf_54_1 hL) dX12_board_45 ?_
    refine lv_sipush (v := 194) hx hb dX12_board_48 (by decide +kernel) ?_
    refine lv_aload_n hx hb dX12_board_51 rfl (lv_at hl 0 rfl) ?_
    refine get_12_5 C hP (lr_54 hL) (lk_54 hL) inlX12 mw_293 dX12_board_52 ?_
    refine lv_iadd hx hb dX12_board_55 ?_
    obtain ⟨x8, ex8, hF⟩ := nm_1 hF
    refine x_top ex8 ?_
    refine lv_iconst (v := 3) hx hb dX12_board_56 (by decide) ?_
    obtain ⟨g9, hF⟩ := gd_1 hF
    obtain ⟨σ11, eσ11, hF⟩ := nm_1 hF
    refine x_iast (σ1 := σ11) C hP hS (lr_55 hL) (lk_55 hL) (ln_55 hL) g9 eσ11 dX12_board_57 (fun H locs hP hS => ?_)
    refine lv_aload_n hx hb dX12_board_58 rfl (lv_at hl 0 rfl) ?_
    refine get_12_1 C hP (lr_54 hL) (lk_54 hL) inlX12 mw_81 (lf_54_1 hL) dX12_board_59 ?_
    refine lv_sipush (v := 199) hx hb dX12_board_62 (by decide +kernel) ?_
    refine lv_aload_n hx hb dX12_board_65 rfl (lv_at hl 0 rfl) ?_
    refine get_12_5 C hP (lr_54 hL) (lk_54 hL) inlX12 mw_293 dX12_board_66 ?_
    refine lv_iadd hx hb dX12_board_69 ?_
    obtain ⟨x12, ex12, hF⟩ := nm_1 hF
    refine x_top ex12 ?_
    refine lv_bipush (v := 10) hx hb dX12_board_70 (by decide +kernel) ?_
    obtain ⟨g13, hF⟩ := gd_1 hF
    obtain ⟨σ15, eσ15, hF⟩ := nm_1 hF
    refine x_iast (σ1 := σ15) C hP hS (lr_55 hL) (lk_55 hL) (ln_55 hL) g13 eσ15 dX12_board_72 (fun H locs hP hS => ?_)
    refine lv_aload_n hx hb dX12_board_73 rfl (lv_at hl 0 rfl) ?_
    refine get_12_1 C hP (lr_54 hL) (lk_54 hL) inlX12 mw_81 (lf_54_1 hL) dX12_board_74 ?_
    refine lv_sipush (v := 204) hx hb dX12_board_77 (by decide +kernel) ?_
    refine lv_aload_n hx hb dX12_board_80 rfl (lv_at hl 0 rfl) ?_
    refine get_12_5 C hP (lr_54 hL) (lk_54 hL) inlX12 mw_293 dX12_board_81 ?_
    refine lv_iadd hx hb dX12_board_84 ?_
    obtain ⟨x16, ex16, hF⟩ := nm_1 hF
    refine x_top ex16 ?_
    refine lv_iconst (v := 0) hx hb dX12_board_85 (by decide) ?_
    obtain ⟨g17, hF⟩ := gd_1 hF
    obtain ⟨σ19, eσ19, hF⟩ := nm_1 hF
    refine x_iast (σ1 := σ19) C hP hS (lr_55 hL) (lk_55 hL) (ln_55 hL) g17 eσ19 dX12_board_86 (fun H locs hP hS => ?_)
    refine lv_aload_n hx hb dX12_board_87 rfl (lv_at hl 0 rfl) ?_
    refine lv_iconst (v := 0) hx hb dX12_board_88 (by decide) ?_
    obtain ⟨σ21, eσ21, hF⟩ := nm_1 hF
    refine put_12_6 C hP hS (lr_54 hL) (lk_54 hL) inlX12 mw_295 eσ21 dX12_board_89 (fun H locs hP hS => ?_)
    refine lv_aload_n hx hb dX12_board_92 rfl (lv_at hl 0 rfl) ?_
    refine lv_iconst (v := 0) hx hb dX12_board_93 (by decide) ?_
    obtain ⟨σ23, eσ23, hF⟩ := nm_1 hF
    refine put_12_8 rfl C hP hS (lr_54 hL) (lk_54 hL) inlX12 mw_296 eσ23 dX12_board_94 (fun H locs hP hS => ?_)
    refine lv_aload_n hx hb dX12_board_97 rfl (lv_at hl 0 rfl) ?_
    refine lv_iconst (v := 0) hx hb dX12_board_98 (by decide) ?_
    obtain ⟨σ25, eσ25, hF⟩ := nm_1 hF
    refine put_12_9 C hP hS (lr_54 hL) (lk_54 hL) inlX12 mw_297 eσ25 dX12_board_99 (fun H locs hP hS => ?_)
    refine lv_iconst (v := 1) hx hb dX12_board_102 (by decide) ?_
    refine lv_istore_n (lv' := [(1, .int (1 : Int32)), (0, .ref (ad 54))]) hx hb dX12_board_103 rfl hl (by decide) rfl (fun ls hl => ?_)
    refine lv_aload_n hx hb dX12_board_104 rfl (lv_at hl 1 rfl) ?_
    obtain ⟨σ26, hq26, hF⟩ := bn_1 hF
    refine x_callV (ci := 12) rfl rfl C hP hS (c_X12_clauseHere hL hq26) (lr_54 hL) (lk_54 hL) (cwV 0 C.1.2.2.2.2 (gdV mw_298 mw_299 mw_300 mw_5 mw_301) rfl rfl rfl hd_X12_clauseHere ⟨Nat.le_of_ble_eq_true rfl, Nat.le_of_ble_eq_true rfl⟩) rfl rfl hl.1 (Nat.le_of_ble_eq_true rfl) ⟨Nat.zero_le _, Nat.zero_le _⟩ dX12_board_105 (fun H locs hP hS => ?_)
    exact w_X12_board_108 C 1024 _ _ _ _ _ _ hρ0 hL hF hP hS (lv_sub hl [1, 0] rfl)
  · have hF := ite_t hF c_1
    refine lv_bipush (v := -4) hx hb dX12_board_11 (by decide +kernel) ?_
    obtain ⟨rfl, rfl⟩ := ret_2 hF
    subst hρ0
    exact x_iret rfl C hP hS dX12_board_13
set_option maxHeartbeats 4000000 in
set_option maxRecDepth 100000 in
theorem c_X12_board  {r : Int32} {σ1 : SG} {σ : SG} {ρ : RG} (hL : Lay N K len ρ) (hF : F_X12_board σ ρ = some (r, σ1)) : MT l Y D N ad K len yX12_board (Cond.code yX12_board cX12_board 2 (some .int) :: wsL_law) rm_X12_board [.ref (ad 54)] σ ρ (some (.int r)) σ1 ρ := by
  refine mt_of (cc := cX12_board) (nL := 2) (ret := (some .int)) (by decide) (Nat.le_of_ble_eq_true rfl) ?_
  intro p e s m args below meth c ls C hnm hP hS hl
  exact w_X12_board_0 C rfl hL hF hP hS hl
end GEN
