/-! PART 30.ct: printed by wip/gen -/
section GEN
variable {l : Launch} {Y : YT} {D : va_G} {N : Nat} {ad K len : Nat → Nat}
variable {fR lR : Nat}
/-! CutCrooked$Loaf.private CutCrooked$Loaf(); 3 -/
theorem dX3_init_0 : decode cX3_init 0 = .ok (.aload_n 0, 1) := by decide +kernel
theorem dX3_init_1 : decode cX3_init 1 = .ok (.invokespecial 3, 3) := by decide +kernel
theorem dX3_init_4 : decode cX3_init 4 = .ok (.aload_n 0, 1) := by decide +kernel
theorem dX3_init_5 : decode cX3_init 5 = .ok (.bipush 6, 2) := by decide +kernel
theorem dX3_init_7 : decode cX3_init 7 = .ok (.newarray .int, 2) := by decide +kernel
theorem dX3_init_9 : decode cX3_init 9 = .ok (.putfield 9, 3) := by decide +kernel
theorem dX3_init_12 : decode cX3_init 12 = .ok (.return_, 1) := by decide +kernel
theorem hd_X3_init : yX3_init.cls = RX3 ∧ yX3_init.cls ≠ "java/lang/invoke/MethodHandle" ∧ yX3_init.cls ≠ "java/lang/invoke/VarHandle" ∧ (parseMethodDescriptor yX3_init.desc).map (fun d => d.parameters.length) = some 0 := by decide +kernel
abbrev rm_X3_init_3 : Room := { frames := 1, cells := 1, slots := 6, locals := 20 }
def F_X3_init_3  (σ : SG) (ρ : RG) : Option (SG × RG) :=
  nm (r2 ρ 3 9 (some 4)) fun ρ2 =>
  some (σ, ρ2)
set_option maxHeartbeats 4000000 in
set_option maxRecDepth 100000 in
theorem k_X3_init_3  {σ σ1 : SG} {ρ ρ1 : RG} (hR : RC 4 ρ) (hB : BL 4 σ ρ) (hF : F_X3_init_3 σ ρ = some (σ1, ρ1)) : RC 5 ρ1 ∧ BL 5 σ1 ρ1 ∧ (∀ r, r < 3 → ρ1 r = ρ r) ∧ ∀ q ∈ ([(3, 9, 4)] : List (Nat × Nat × Nat)), ρ1 q.1 q.2.1 = some q.2.2 := by
  unfold F_X3_init_3 at hF
  have hU : ∀ r, r < 3 → ρ r = ρ r := fun _ _ => rfl
  have hR : RC 5 ρ := RC_grow hR (hB 4 (Nat.le_refl _)).2
  have hB : BL 5 σ ρ := BL_grow hB
  obtain ⟨ρ2, eρ2, hF⟩ := nm_1 hF
  have hR : RC 5 ρ2 := by rw [eρ2]; exact RC_put hR (by decide)
  have hB : BL 5 σ ρ2 := by rw [eρ2]; exact BL_r2 hB (by decide)
  have hU : ∀ r, r < 3 → ρ2 r = ρ r := fun r h => (congrFun eρ2 r).trans ((r2_ne r (by omega)).trans (hU r h))
  have kf_3_9 : ρ2 3 9 = some 4 := by rw [eρ2, r2_at, if_pos rfl, if_pos rfl]
  obtain ⟨rfl, rfl⟩ := ret_2 hF
  refine ⟨hR, hB, hU, fun q hq => ?_⟩
  simp only [List.mem_cons, List.not_mem_nil, or_false] at hq
  rcases hq with rfl
  · exact kf_3_9
set_option maxHeartbeats 8000000 in
set_option maxRecDepth 100000 in
theorem c_X3_init_3  {σ σ1 : SG} {ρ ρ1 : RG} (hKL : LK K len) (hR : RC 4 ρ) (hB : BL 4 σ ρ) (hF : F_X3_init_3 σ ρ = some (σ1, ρ1)) : MC l Y D 4 ad K len yX3_init (Cond.code yX3_init cX3_init 1 none :: wsL_law) rm_X3_init_3 [.ref (ad 3)] σ ρ (fun _ => none) 5 K len σ1 ρ1 1 6 := by
  refine mc_of (cc := cX3_init) (nL := 1) (ret := none) (by decide) (Nat.le_of_ble_eq_true rfl) ?_
  intro p e s m args below meth c ls C hnm hP hS hl
  have hx := C.1.1
  have hb := C.1.2.1
  have hl : lv_has ls 1 [(0, .ref (ad 3))] := hl
  have hEE : ∀ r, r < 4 → ad r = ad r := fun _ _ => rfl
  have hAA : AA 4 ad s.heap.size = AA 4 ad s.heap.size := rfl
  have hU : ∀ r, r < 3 → ρ r = ρ r := fun _ _ => rfl
  unfold F_X3_init_3 at hF
  refine lv_aload_n hx hb dX3_init_0 rfl (lv_at hl 0 rfl) ?_
  refine x_obj C hl.1 mw_51 mw_10 mw_11 dX3_init_1 (Nat.le_of_ble_eq_true rfl) (Nat.le_of_ble_eq_true rfl) ?_
  refine lv_aload_n hx hb dX3_init_4 rfl (lv_at hl 0 rfl) ?_
  refine lv_bipush (v := 6) hx hb dX3_init_5 (by decide +kernel) ?_
  refine x_newa (atype := .int) (ty := .int) (t := 14) (y := 1) rfl (fun _ h => by cases h) rfl rfl (fun _ _ _ _ => rfl) C hP hS hR (kk_4 hKL) (kn_4 hKL) (hB 4 (Nat.le_refl _)) mw_27 (by decide) cl_6 (Nat.le_of_ble_eq_true rfl) (Nat.le_of_ble_eq_true rfl) (Nat.le_of_ble_eq_true rfl) dX3_init_7 (fun ad1 H hE hA C hP hS => ?_)
  rw [← hE 3 (by decide)]
  rw [← hE 3 (by decide)] at hl
  have hEE : ∀ r, r < 4 → ad1 r = ad r := fun r h => (hE r (by omega)).trans (hEE r h)
  have hAA := hA.trans hAA
  have C : Cx Y D 5 ad1 p s m args meth c cX3_init 1 none RX3 wsL_law := C
  have hP : WP Y D 5 ad1 K len σ ρ _ := hP
  have hS : va_S (AA 5 ad1 s.heap.size) s.heap _ _ := hS
  have hR : RC 5 ρ := RC_grow hR (hB 4 (Nat.le_refl _)).2
  have hB : BL 5 σ ρ := BL_grow hB
  obtain ⟨ρ2, eρ2, hF⟩ := nm_1 hF
  refine put_3_9 C hP hS (by decide) (kk_3 hKL) inlX3 mw_52 ⟨hnm, rfl⟩ eρ2 dX3_init_9 (fun H locs hP hS => ?_)
  have hR : RC 5 ρ2 := by rw [eρ2]; exact RC_put hR (by decide)
  have hB : BL 5 σ ρ2 := by rw [eρ2]; exact BL_r2 hB (by decide)
  have hU : ∀ r, r < 3 → ρ2 r = ρ r := fun r h => (congrFun eρ2 r).trans ((r2_ne r (by omega)).trans (hU r h))
  have kf_3_9 : ρ2 3 9 = some 4 := by rw [eρ2, r2_at, if_pos rfl, if_pos rfl]
  obtain ⟨rfl, rfl⟩ := ret_2 hF
  exact x_cret rfl hEE hAA C hP hS dX3_init_12

/-! CutCrooked$Loaf.private CutCrooked$Loaf(); 16 -/
abbrev rm_X3_init_16 : Room := { frames := 1, cells := 1, slots := 6, locals := 20 }
def F_X3_init_16  (σ : SG) (ρ : RG) : Option (SG × RG) :=
  nm (r2 ρ 16 9 (some 17)) fun ρ2 =>
  some (σ, ρ2)
set_option maxHeartbeats 4000000 in
set_option maxRecDepth 100000 in
theorem k_X3_init_16  {σ σ1 : SG} {ρ ρ1 : RG} (hR : RC 17 ρ) (hB : BL 17 σ ρ) (hF : F_X3_init_16 σ ρ = some (σ1, ρ1)) : RC 18 ρ1 ∧ BL 18 σ1 ρ1 ∧ (∀ r, r < 16 → ρ1 r = ρ r) ∧ ∀ q ∈ ([(16, 9, 17)] : List (Nat × Nat × Nat)), ρ1 q.1 q.2.1 = some q.2.2 := by
  unfold F_X3_init_16 at hF
  have hU : ∀ r, r < 16 → ρ r = ρ r := fun _ _ => rfl
  have hR : RC 18 ρ := RC_grow hR (hB 17 (Nat.le_refl _)).2
  have hB : BL 18 σ ρ := BL_grow hB
  obtain ⟨ρ2, eρ2, hF⟩ := nm_1 hF
  have hR : RC 18 ρ2 := by rw [eρ2]; exact RC_put hR (by decide)
  have hB : BL 18 σ ρ2 := by rw [eρ2]; exact BL_r2 hB (by decide)
  have hU : ∀ r, r < 16 → ρ2 r = ρ r := fun r h => (congrFun eρ2 r).trans ((r2_ne r (by omega)).trans (hU r h))
  have kf_16_9 : ρ2 16 9 = some 17 := by rw [eρ2, r2_at, if_pos rfl, if_pos rfl]
  obtain ⟨rfl, rfl⟩ := ret_2 hF
  refine ⟨hR, hB, hU, fun q hq => ?_⟩
  simp only [List.mem_cons, List.not_mem_nil, or_false] at hq
  rcases hq with rfl
  · exact kf_16_9
set_option maxHeartbeats 8000000 in
set_option maxRecDepth 100000 in
theorem c_X3_init_16  {σ σ1 : SG} {ρ ρ1 : RG} (hKL : LK K len) (hR : RC 17 ρ) (hB : BL 17 σ ρ) (hF : F_X3_init_16 σ ρ = some (σ1, ρ1)) : MC l Y D 17 ad K len yX3_init (Cond.code yX3_init cX3_init 1 none :: wsL_law) rm_X3_init_16 [.ref (ad 16)] σ ρ (fun _ => none) 18 K len σ1 ρ1 1 6 := by
  refine mc_of (cc := cX3_init) (nL := 1) (ret := none) (by decide) (Nat.le_of_ble_eq_true rfl) ?_
  intro p e s m args below meth c ls C hnm hP hS hl
  have hx := C.1.1
  have hb := C.1.2.1
  have hl : lv_has ls 1 [(0, .ref (ad 16))] := hl
  have hEE : ∀ r, r < 17 → ad r = ad r := fun _ _ => rfl
  have hAA : AA 17 ad s.heap.size = AA 17 ad s.heap.size := rfl
  have hU : ∀ r, r < 16 → ρ r = ρ r := fun _ _ => rfl
  unfold F_X3_init_16 at hF
  refine lv_aload_n hx hb dX3_init_0 rfl (lv_at hl 0 rfl) ?_
  refine x_obj C hl.1 mw_51 mw_10 mw_11 dX3_init_1 (Nat.le_of_ble_eq_true rfl) (Nat.le_of_ble_eq_true rfl) ?_
  refine lv_aload_n hx hb dX3_init_4 rfl (lv_at hl 0 rfl) ?_
  refine lv_bipush (v := 6) hx hb dX3_init_5 (by decide +kernel) ?_
  refine x_newa (atype := .int) (ty := .int) (t := 14) (y := 1) rfl (fun _ h => by cases h) rfl rfl (fun _ _ _ _ => rfl) C hP hS hR (kk_17 hKL) (kn_17 hKL) (hB 17 (Nat.le_refl _)) mw_27 (by decide) cl_6 (Nat.le_of_ble_eq_true rfl) (Nat.le_of_ble_eq_true rfl) (Nat.le_of_ble_eq_true rfl) dX3_init_7 (fun ad1 H hE hA C hP hS => ?_)
  rw [← hE 16 (by decide)]
  rw [← hE 16 (by decide)] at hl
  have hEE : ∀ r, r < 17 → ad1 r = ad r := fun r h => (hE r (by omega)).trans (hEE r h)
  have hAA := hA.trans hAA
  have C : Cx Y D 18 ad1 p s m args meth c cX3_init 1 none RX3 wsL_law := C
  have hP : WP Y D 18 ad1 K len σ ρ _ := hP
  have hS : va_S (AA 18 ad1 s.heap.size) s.heap _ _ := hS
  have hR : RC 18 ρ := RC_grow hR (hB 17 (Nat.le_refl _)).2
  have hB : BL 18 σ ρ := BL_grow hB
  obtain ⟨ρ2, eρ2, hF⟩ := nm_1 hF
  refine put_3_9 C hP hS (by decide) (kk_16 hKL) inlX3 mw_52 ⟨hnm, rfl⟩ eρ2 dX3_init_9 (fun H locs hP hS => ?_)
  have hR : RC 18 ρ2 := by rw [eρ2]; exact RC_put hR (by decide)
  have hB : BL 18 σ ρ2 := by rw [eρ2]; exact BL_r2 hB (by decide)
  have hU : ∀ r, r < 16 → ρ2 r = ρ r := fun r h => (congrFun eρ2 r).trans ((r2_ne r (by omega)).trans (hU r h))
  have kf_16_9 : ρ2 16 9 = some 17 := by rw [eρ2, r2_at, if_pos rfl, if_pos rfl]
  obtain ⟨rfl, rfl⟩ := ret_2 hF
  exact x_cret rfl hEE hAA C hP hS dX3_init_12

/-! CutCrooked$Loaf.private CutCrooked$Loaf(); 37 -/
abbrev rm_X3_init_37 : Room := { frames := 1, cells := 1, slots := 6, locals := 20 }
def F_X3_init_37  (σ : SG) (ρ : RG) : Option (SG × RG) :=
  nm (r2 ρ 37 9 (some 38)) fun ρ2 =>
  some (σ, ρ2)
set_option maxHeartbeats 4000000 in
set_option maxRecDepth 100000 in
theorem k_X3_init_37  {σ σ1 : SG} {ρ ρ1 : RG} (hR : RC 38 ρ) (hB : BL 38 σ ρ) (hF : F_X3_init_37 σ ρ = some (σ1, ρ1)) : RC 39 ρ1 ∧ BL 39 σ1 ρ1 ∧ (∀ r, r < 37 → ρ1 r = ρ r) ∧ ∀ q ∈ ([(37, 9, 38)] : List (Nat × Nat × Nat)), ρ1 q.1 q.2.1 = some q.2.2 := by
  unfold F_X3_init_37 at hF
  have hU : ∀ r, r < 37 → ρ r = ρ r := fun _ _ => rfl
  have hR : RC 39 ρ := RC_grow hR (hB 38 (Nat.le_refl _)).2
  have hB : BL 39 σ ρ := BL_grow hB
  obtain ⟨ρ2, eρ2, hF⟩ := nm_1 hF
  have hR : RC 39 ρ2 := by rw [eρ2]; exact RC_put hR (by decide)
  have hB : BL 39 σ ρ2 := by rw [eρ2]; exact BL_r2 hB (by decide)
  have hU : ∀ r, r < 37 → ρ2 r = ρ r := fun r h => (congrFun eρ2 r).trans ((r2_ne r (by omega)).trans (hU r h))
  have kf_37_9 : ρ2 37 9 = some 38 := by rw [eρ2, r2_at, if_pos rfl, if_pos rfl]
  obtain ⟨rfl, rfl⟩ := ret_2 hF
  refine ⟨hR, hB, hU, fun q hq => ?_⟩
  simp only [List.mem_cons, List.not_mem_nil, or_false] at hq
  rcases hq with rfl
  · exact kf_37_9
set_option maxHeartbeats 8000000 in
set_option maxRecDepth 100000 in
theorem c_X3_init_37  {σ σ1 : SG} {ρ ρ1 : RG} (hKL : LK K len) (hR : RC 38 ρ) (hB : BL 38 σ ρ) (hF : F_X3_init_37 σ ρ = some (σ1, ρ1)) : MC l Y D 38 ad K len yX3_init (Cond.code yX3_init cX3_init 1 none :: wsL_law) rm_X3_init_37 [.ref (ad 37)] σ ρ (fun _ => none) 39 K len σ1 ρ1 1 6 := by
  refine mc_of (cc := cX3_init) (nL := 1) (ret := none) (by decide) (Nat.le_of_ble_eq_true rfl) ?_
  intro p e s m args below meth c ls C hnm hP hS hl
  have hx := C.1.1
  have hb := C.1.2.1
  have hl : lv_has ls 1 [(0, .ref (ad 37))] := hl
  have hEE : ∀ r, r < 38 → ad r = ad r := fun _ _ => rfl
  have hAA : AA 38 ad s.heap.size = AA 38 ad s.heap.size := rfl
  have hU : ∀ r, r < 37 → ρ r = ρ r := fun _ _ => rfl
  unfold F_X3_init_37 at hF
  refine lv_aload_n hx hb dX3_init_0 rfl (lv_at hl 0 rfl) ?_
  refine x_obj C hl.1 mw_51 mw_10 mw_11 dX3_init_1 (Nat.le_of_ble_eq_true rfl) (Nat.le_of_ble_eq_true rfl) ?_
  refine lv_aload_n hx hb dX3_init_4 rfl (lv_at hl 0 rfl) ?_
  refine lv_bipush (v := 6) hx hb dX3_init_5 (by decide +kernel) ?_
  refine x_newa (atype := .int) (ty := .int) (t := 14) (y := 1) rfl (fun _ h => by cases h) rfl rfl (fun _ _ _ _ => rfl) C hP hS hR (kk_38 hKL) (kn_38 hKL) (hB 38 (Nat.le_refl _)) mw_27 (by decide) cl_6 (Nat.le_of_ble_eq_true rfl) (Nat.le_of_ble_eq_true rfl) (Nat.le_of_ble_eq_true rfl) dX3_init_7 (fun ad1 H hE hA C hP hS => ?_)
  rw [← hE 37 (by decide)]
  rw [← hE 37 (by decide)] at hl
  have hEE : ∀ r, r < 38 → ad1 r = ad r := fun r h => (hE r (by omega)).trans (hEE r h)
  have hAA := hA.trans hAA
  have C : Cx Y D 39 ad1 p s m args meth c cX3_init 1 none RX3 wsL_law := C
  have hP : WP Y D 39 ad1 K len σ ρ _ := hP
  have hS : va_S (AA 39 ad1 s.heap.size) s.heap _ _ := hS
  have hR : RC 39 ρ := RC_grow hR (hB 38 (Nat.le_refl _)).2
  have hB : BL 39 σ ρ := BL_grow hB
  obtain ⟨ρ2, eρ2, hF⟩ := nm_1 hF
  refine put_3_9 C hP hS (by decide) (kk_37 hKL) inlX3 mw_52 ⟨hnm, rfl⟩ eρ2 dX3_init_9 (fun H locs hP hS => ?_)
  have hR : RC 39 ρ2 := by rw [eρ2]; exact RC_put hR (by decide)
  have hB : BL 39 σ ρ2 := by rw [eρ2]; exact BL_r2 hB (by decide)
  have hU : ∀ r, r < 37 → ρ2 r = ρ r := fun r h => (congrFun eρ2 r).trans ((r2_ne r (by omega)).trans (hU r h))
  have kf_37_9 : ρ2 37 9 = some 38 := by rw [eρ2, r2_at, if_pos rfl, if_pos rfl]
  obtain ⟨rfl, rfl⟩ := ret_2 hF
  exact x_cret rfl hEE hAA C hP hS dX3_init_12

/-! CutCrooked$Loaf.private CutCrooked$Loaf(); 40 -/
abbrev rm_X3_init_40 : Room := { frames := 1, cells := 1, slots := 6, locals := 20 }
def F_X3_init_40  (σ : SG) (ρ : RG) : Option (SG × RG) :=
  nm (r2 ρ 40 9 (some 41)) fun ρ2 =>
  some (σ, ρ2)
set_option maxHeartbeats 4000000 in
set_option maxRecDepth 100000 in
theorem k_X3_init_40  {σ σ1 : SG} {ρ ρ1 : RG} (hR : RC 41 ρ) (hB : BL 41 σ ρ) (hF : F_X3_init_40 σ ρ = some (σ1, ρ1)) : RC 42 ρ1 ∧ BL 42 σ1 ρ1 ∧ (∀ r, r < 40 → ρ1 r = ρ r) ∧ ∀ q ∈ ([(40, 9, 41)] : List (Nat × Nat × Nat)), ρ1 q.1 q.2.1 = some q.2.2 := by
  unfold F_X3_init_40 at hF
  have hU : ∀ r, r < 40 → ρ r = ρ r := fun _ _ => rfl
  have hR : RC 42 ρ := RC_grow hR (hB 41 (Nat.le_refl _)).2
  have hB : BL 42 σ ρ := BL_grow hB
  obtain ⟨ρ2, eρ2, hF⟩ := nm_1 hF
  have hR : RC 42 ρ2 := by rw [eρ2]; exact RC_put hR (by decide)
  have hB : BL 42 σ ρ2 := by rw [eρ2]; exact BL_r2 hB (by decide)
  have hU : ∀ r, r < 40 → ρ2 r = ρ r := fun r h => (congrFun eρ2 r).trans ((r2_ne r (by omega)).trans (hU r h))
  have kf_40_9 : ρ2 40 9 = some 41 := by rw [eρ2, r2_at, if_pos rfl, if_pos rfl]
  obtain ⟨rfl, rfl⟩ := ret_2 hF
  refine ⟨hR, hB, hU, fun q hq => ?_⟩
  simp only [List.mem_cons, List.not_mem_nil, or_false] at hq
  rcases hq with rfl
  · exact kf_40_9
set_option maxHeartbeats 8000000 in
set_option maxRecDepth 100000 in
theorem c_X3_init_40  {σ σ1 : SG} {ρ ρ1 : RG} (hKL : LK K len) (hR : RC 41 ρ) (hB : BL 41 σ ρ) (hF : F_X3_init_40 σ ρ = some (σ1, ρ1)) : MC l Y D 41 ad K len yX3_init (Cond.code yX3_init cX3_init 1 none :: wsL_law) rm_X3_init_40 [.ref (ad 40)] σ ρ (fun _ => none) 42 K len σ1 ρ1 1 6 := by
  refine mc_of (cc := cX3_init) (nL := 1) (ret := none) (by decide) (Nat.le_of_ble_eq_true rfl) ?_
  intro p e s m args below meth c ls C hnm hP hS hl
  have hx := C.1.1
  have hb := C.1.2.1
  have hl : lv_has ls 1 [(0, .ref (ad 40))] := hl
  have hEE : ∀ r, r < 41 → ad r = ad r := fun _ _ => rfl
  have hAA : AA 41 ad s.heap.size = AA 41 ad s.heap.size := rfl
  have hU : ∀ r, r < 40 → ρ r = ρ r := fun _ _ => rfl
  unfold F_X3_init_40 at hF
  refine lv_aload_n hx hb dX3_init_0 rfl (lv_at hl 0 rfl) ?_
  refine x_obj C hl.1 mw_51 mw_10 mw_11 dX3_init_1 (Nat.le_of_ble_eq_true rfl) (Nat.le_of_ble_eq_true rfl) ?_
  refine lv_aload_n hx hb dX3_init_4 rfl (lv_at hl 0 rfl) ?_
  refine lv_bipush (v := 6) hx hb dX3_init_5 (by decide +kernel) ?_
  refine x_newa (atype := .int) (ty := .int) (t := 14) (y := 1) rfl (fun _ h => by cases h) rfl rfl (fun _ _ _ _ => rfl) C hP hS hR (kk_41 hKL) (kn_41 hKL) (hB 41 (Nat.le_refl _)) mw_27 (by decide) cl_6 (Nat.le_of_ble_eq_true rfl) (Nat.le_of_ble_eq_true rfl) (Nat.le_of_ble_eq_true rfl) dX3_init_7 (fun ad1 H hE hA C hP hS => ?_)
  rw [← hE 40 (by decide)]
  rw [← hE 40 (by decide)] at hl
  have hEE : ∀ r, r < 41 → ad1 r = ad r := fun r h => (hE r (by omega)).trans (hEE r h)
  have hAA := hA.trans hAA
  have C : Cx Y D 42 ad1 p s m args meth c cX3_init 1 none RX3 wsL_law := C
  have hP : WP Y D 42 ad1 K len σ ρ _ := hP
  have hS : va_S (AA 42 ad1 s.heap.size) s.heap _ _ := hS
  have hR : RC 42 ρ := RC_grow hR (hB 41 (Nat.le_refl _)).2
  have hB : BL 42 σ ρ := BL_grow hB
  obtain ⟨ρ2, eρ2, hF⟩ := nm_1 hF
  refine put_3_9 C hP hS (by decide) (kk_40 hKL) inlX3 mw_52 ⟨hnm, rfl⟩ eρ2 dX3_init_9 (fun H locs hP hS => ?_)
  have hR : RC 42 ρ2 := by rw [eρ2]; exact RC_put hR (by decide)
  have hB : BL 42 σ ρ2 := by rw [eρ2]; exact BL_r2 hB (by decide)
  have hU : ∀ r, r < 40 → ρ2 r = ρ r := fun r h => (congrFun eρ2 r).trans ((r2_ne r (by omega)).trans (hU r h))
  have kf_40_9 : ρ2 40 9 = some 41 := by rw [eρ2, r2_at, if_pos rfl, if_pos rfl]
  obtain ⟨rfl, rfl⟩ := ret_2 hF
  exact x_cret rfl hEE hAA C hP hS dX3_init_12

/-! CutCrooked$Loaf.private CutCrooked$Loaf(); 42 -/
abbrev rm_X3_init_42 : Room := { frames := 1, cells := 1, slots := 6, locals := 20 }
def F_X3_init_42  (σ : SG) (ρ : RG) : Option (SG × RG) :=
  nm (r2 ρ 42 9 (some 43)) fun ρ2 =>
  some (σ, ρ2)
set_option maxHeartbeats 4000000 in
set_option maxRecDepth 100000 in
theorem k_X3_init_42  {σ σ1 : SG} {ρ ρ1 : RG} (hR : RC 43 ρ) (hB : BL 43 σ ρ) (hF : F_X3_init_42 σ ρ = some (σ1, ρ1)) : RC 44 ρ1 ∧ BL 44 σ1 ρ1 ∧ (∀ r, r < 42 → ρ1 r = ρ r) ∧ ∀ q ∈ ([(42, 9, 43)] : List (Nat × Nat × Nat)), ρ1 q.1 q.2.1 = some q.2.2 := by
  unfold F_X3_init_42 at hF
  have hU : ∀ r, r < 42 → ρ r = ρ r := fun _ _ => rfl
  have hR : RC 44 ρ := RC_grow hR (hB 43 (Nat.le_refl _)).2
  have hB : BL 44 σ ρ := BL_grow hB
  obtain ⟨ρ2, eρ2, hF⟩ := nm_1 hF
  have hR : RC 44 ρ2 := by rw [eρ2]; exact RC_put hR (by decide)
  have hB : BL 44 σ ρ2 := by rw [eρ2]; exact BL_r2 hB (by decide)
  have hU : ∀ r, r < 42 → ρ2 r = ρ r := fun r h => (congrFun eρ2 r).trans ((r2_ne r (by omega)).trans (hU r h))
  have kf_42_9 : ρ2 42 9 = some 43 := by rw [eρ2, r2_at, if_pos rfl, if_pos rfl]
  obtain ⟨rfl, rfl⟩ := ret_2 hF
  refine ⟨hR, hB, hU, fun q hq => ?_⟩
  simp only [List.mem_cons, List.not_mem_nil, or_false] at hq
  rcases hq with rfl
  · exact kf_42_9
set_option maxHeartbeats 8000000 in
set_option maxRecDepth 100000 in
theorem c_X3_init_42  {σ σ1 : SG} {ρ ρ1 : RG} (hKL : LK K len) (hR : RC 43 ρ) (hB : BL 43 σ ρ) (hF : F_X3_init_42 σ ρ = some (σ1, ρ1)) : MC l Y D 43 ad K len yX3_init (Cond.code yX3_init cX3_init 1 none :: wsL_law) rm_X3_init_42 [.ref (ad 42)] σ ρ (fun _ => none) 44 K len σ1 ρ1 1 6 := by
  refine mc_of (cc := cX3_init) (nL := 1) (ret := none) (by decide) (Nat.le_of_ble_eq_true rfl) ?_
  intro p e s m args below meth c ls C hnm hP hS hl
  have hx := C.1.1
  have hb := C.1.2.1
  have hl : lv_has ls 1 [(0, .ref (ad 42))] := hl
  have hEE : ∀ r, r < 43 → ad r = ad r := fun _ _ => rfl
  have hAA : AA 43 ad s.heap.size = AA 43 ad s.heap.size := rfl
  have hU : ∀ r, r < 42 → ρ r = ρ r := fun _ _ => rfl
  unfold F_X3_init_42 at hF
  refine lv_aload_n hx hb dX3_init_0 rfl (lv_at hl 0 rfl) ?_
  refine x_obj C hl.1 mw_51 mw_10 mw_11 dX3_init_1 (Nat.le_of_ble_eq_true rfl) (Nat.le_of_ble_eq_true rfl) ?_
  refine lv_aload_n hx hb dX3_init_4 rfl (lv_at hl 0 rfl) ?_
  refine lv_bipush (v := 6) hx hb dX3_init_5 (by decide +kernel) ?_
  refine x_newa (atype := .int) (ty := .int) (t := 14) (y := 1) rfl (fun _ h => by cases h) rfl rfl (fun _ _ _ _ => rfl) C hP hS hR (kk_43 hKL) (kn_43 hKL) (hB 43 (Nat.le_refl _)) mw_27 (by decide) cl_6 (Nat.le_of_ble_eq_true rfl) (Nat.le_of_ble_eq_true rfl) (Nat.le_of_ble_eq_true rfl) dX3_init_7 (fun ad1 H hE hA C hP hS => ?_)
  rw [← hE 42 (by decide)]
  rw [← hE 42 (by decide)] at hl
  have hEE : ∀ r, r < 43 → ad1 r = ad r := fun r h => (hE r (by omega)).trans (hEE r h)
  have hAA := hA.trans hAA
  have C : Cx Y D 44 ad1 p s m args meth c cX3_init 1 none RX3 wsL_law := C
  have hP : WP Y D 44 ad1 K len σ ρ _ := hP
  have hS : va_S (AA 44 ad1 s.heap.size) s.heap _ _ := hS
  have hR : RC 44 ρ := RC_grow hR (hB 43 (Nat.le_refl _)).2
  have hB : BL 44 σ ρ := BL_grow hB
  obtain ⟨ρ2, eρ2, hF⟩ := nm_1 hF
  refine put_3_9 C hP hS (by decide) (kk_42 hKL) inlX3 mw_52 ⟨hnm, rfl⟩ eρ2 dX3_init_9 (fun H locs hP hS => ?_)
  have hR : RC 44 ρ2 := by rw [eρ2]; exact RC_put hR (by decide)
  have hB : BL 44 σ ρ2 := by rw [eρ2]; exact BL_r2 hB (by decide)
  have hU : ∀ r, r < 42 → ρ2 r = ρ r := fun r h => (congrFun eρ2 r).trans ((r2_ne r (by omega)).trans (hU r h))
  have kf_42_9 : ρ2 42 9 = some 43 := by rw [eρ2, r2_at, if_pos rfl, if_pos rfl]
  obtain ⟨rfl, rfl⟩ := ret_2 hF
  exact x_cret rfl hEE hAA C hP hS dX3_init_12

/-! CutCrooked$Loaf.private CutCrooked$Loaf(); 44 -/
abbrev rm_X3_init_44 : Room := { frames := 1, cells := 1, slots := 6, locals := 20 }
def F_X3_init_44  (σ : SG) (ρ : RG) : Option (SG × RG) :=
  nm (r2 ρ 44 9 (some 45)) fun ρ2 =>
  some (σ, ρ2)
set_option maxHeartbeats 4000000 in
set_option maxRecDepth 100000 in
theorem k_X3_init_44  {σ σ1 : SG} {ρ ρ1 : RG} (hR : RC 45 ρ) (hB : BL 45 σ ρ) (hF : F_X3_init_44 σ ρ = some (σ1, ρ1)) : RC 46 ρ1 ∧ BL 46 σ1 ρ1 ∧ (∀ r, r < 44 → ρ1 r = ρ r) ∧ ∀ q ∈ ([(44, 9, 45)] : List (Nat × Nat × Nat)), ρ1 q.1 q.2.1 = some q.2.2 := by
  unfold F_X3_init_44 at hF
  have hU : ∀ r, r < 44 → ρ r = ρ r := fun _ _ => rfl
  have hR : RC 46 ρ := RC_grow hR (hB 45 (Nat.le_refl _)).2
  have hB : BL 46 σ ρ := BL_grow hB
  obtain ⟨ρ2, eρ2, hF⟩ := nm_1 hF
  have hR : RC 46 ρ2 := by rw [eρ2]; exact RC_put hR (by decide)
  have hB : BL 46 σ ρ2 := by rw [eρ2]; exact BL_r2 hB (by decide)
  have hU : ∀ r, r < 44 → ρ2 r = ρ r := fun r h => (congrFun eρ2 r).trans ((r2_ne r (by omega)).trans (hU r h))
  have kf_44_9 : ρ2 44 9 = some 45 := by rw [eρ2, r2_at, if_pos rfl, if_pos rfl]
  obtain ⟨rfl, rfl⟩ := ret_2 hF
  refine ⟨hR, hB, hU, fun q hq => ?_⟩
  simp only [List.mem_cons, List.not_mem_nil, or_false] at hq
  rcases hq with rfl
  · exact kf_44_9
set_option maxHeartbeats 8000000 in
set_option maxRecDepth 100000 in
theorem c_X3_init_44  {σ σ1 : SG} {ρ ρ1 : RG} (hKL : LK K len) (hR : RC 45 ρ) (hB : BL 45 σ ρ) (hF : F_X3_init_44 σ ρ = some (σ1, ρ1)) : MC l Y D 45 ad K len yX3_init (Cond.code yX3_init cX3_init 1 none :: wsL_law) rm_X3_init_44 [.ref (ad 44)] σ ρ (fun _ => none) 46 K len σ1 ρ1 1 6 := by
  refine mc_of (cc := cX3_init) (nL := 1) (ret := none) (by decide) (Nat.le_of_ble_eq_true rfl) ?_
  intro p e s m args below meth c ls C hnm hP hS hl
  have hx := C.1.1
  have hb := C.1.2.1
  have hl : lv_has ls 1 [(0, .ref (ad 44))] := hl
  have hEE : ∀ r, r < 45 → ad r = ad r := fun _ _ => rfl
  have hAA : AA 45 ad s.heap.size = AA 45 ad s.heap.size := rfl
  have hU : ∀ r, r < 44 → ρ r = ρ r := fun _ _ => rfl
  unfold F_X3_init_44 at hF
  refine lv_aload_n hx hb dX3_init_0 rfl (lv_at hl 0 rfl) ?_
  refine x_obj C hl.1 mw_51 mw_10 mw_11 dX3_init_1 (Nat.le_of_ble_eq_true rfl) (Nat.le_of_ble_eq_true rfl) ?_
  refine lv_aload_n hx hb dX3_init_4 rfl (lv_at hl 0 rfl) ?_
  refine lv_bipush (v := 6) hx hb dX3_init_5 (by decide +kernel) ?_
  refine x_newa (atype := .int) (ty := .int) (t := 14) (y := 1) rfl (fun _ h => by cases h) rfl rfl (fun _ _ _ _ => rfl) C hP hS hR (kk_45 hKL) (kn_45 hKL) (hB 45 (Nat.le_refl _)) mw_27 (by decide) cl_6 (Nat.le_of_ble_eq_true rfl) (Nat.le_of_ble_eq_true rfl) (Nat.le_of_ble_eq_true rfl) dX3_init_7 (fun ad1 H hE hA C hP hS => ?_)
  rw [← hE 44 (by decide)]
  rw [← hE 44 (by decide)] at hl
  have hEE : ∀ r, r < 45 → ad1 r = ad r := fun r h => (hE r (by omega)).trans (hEE r h)
  have hAA := hA.trans hAA
  have C : Cx Y D 46 ad1 p s m args meth c cX3_init 1 none RX3 wsL_law := C
  have hP : WP Y D 46 ad1 K len σ ρ _ := hP
  have hS : va_S (AA 46 ad1 s.heap.size) s.heap _ _ := hS
  have hR : RC 46 ρ := RC_grow hR (hB 45 (Nat.le_refl _)).2
  have hB : BL 46 σ ρ := BL_grow hB
  obtain ⟨ρ2, eρ2, hF⟩ := nm_1 hF
  refine put_3_9 C hP hS (by decide) (kk_44 hKL) inlX3 mw_52 ⟨hnm, rfl⟩ eρ2 dX3_init_9 (fun H locs hP hS => ?_)
  have hR : RC 46 ρ2 := by rw [eρ2]; exact RC_put hR (by decide)
  have hB : BL 46 σ ρ2 := by rw [eρ2]; exact BL_r2 hB (by decide)
  have hU : ∀ r, r < 44 → ρ2 r = ρ r := fun r h => (congrFun eρ2 r).trans ((r2_ne r (by omega)).trans (hU r h))
  have kf_44_9 : ρ2 44 9 = some 45 := by rw [eρ2, r2_at, if_pos rfl, if_pos rfl]
  obtain ⟨rfl, rfl⟩ := ret_2 hF
  exact x_cret rfl hEE hAA C hP hS dX3_init_12

/-! CutCrooked$Loaf.private CutCrooked$Loaf(); 46 -/
abbrev rm_X3_init_46 : Room := { frames := 1, cells := 1, slots := 6, locals := 20 }
def F_X3_init_46  (σ : SG) (ρ : RG) : Option (SG × RG) :=
  nm (r2 ρ 46 9 (some 47)) fun ρ2 =>
  some (σ, ρ2)
set_option maxHeartbeats 4000000 in
set_option maxRecDepth 100000 in
theorem k_X3_init_46  {σ σ1 : SG} {ρ ρ1 : RG} (hR : RC 47 ρ) (hB : BL 47 σ ρ) (hF : F_X3_init_46 σ ρ = some (σ1, ρ1)) : RC 48 ρ1 ∧ BL 48 σ1 ρ1 ∧ (∀ r, r < 46 → ρ1 r = ρ r) ∧ ∀ q ∈ ([(46, 9, 47)] : List (Nat × Nat × Nat)), ρ1 q.1 q.2.1 = some q.2.2 := by
  unfold F_X3_init_46 at hF
  have hU : ∀ r, r < 46 → ρ r = ρ r := fun _ _ => rfl
  have hR : RC 48 ρ := RC_grow hR (hB 47 (Nat.le_refl _)).2
  have hB : BL 48 σ ρ := BL_grow hB
  obtain ⟨ρ2, eρ2, hF⟩ := nm_1 hF
  have hR : RC 48 ρ2 := by rw [eρ2]; exact RC_put hR (by decide)
  have hB : BL 48 σ ρ2 := by rw [eρ2]; exact BL_r2 hB (by decide)
  have hU : ∀ r, r < 46 → ρ2 r = ρ r := fun r h => (congrFun eρ2 r).trans ((r2_ne r (by omega)).trans (hU r h))
  have kf_46_9 : ρ2 46 9 = some 47 := by rw [eρ2, r2_at, if_pos rfl, if_pos rfl]
  obtain ⟨rfl, rfl⟩ := ret_2 hF
  refine ⟨hR, hB, hU, fun q hq => ?_⟩
  simp only [List.mem_cons, List.not_mem_nil, or_false] at hq
  rcases hq with rfl
  · exact kf_46_9
set_option maxHeartbeats 8000000 in
set_option maxRecDepth 100000 in
theorem c_X3_init_46  {σ σ1 : SG} {ρ ρ1 : RG} (hKL : LK K len) (hR : RC 47 ρ) (hB : BL 47 σ ρ) (hF : F_X3_init_46 σ ρ = some (σ1, ρ1)) : MC l Y D 47 ad K len yX3_init (Cond.code yX3_init cX3_init 1 none :: wsL_law) rm_X3_init_46 [.ref (ad 46)] σ ρ (fun _ => none) 48 K len σ1 ρ1 1 6 := by
  refine mc_of (cc := cX3_init) (nL := 1) (ret := none) (by decide) (Nat.le_of_ble_eq_true rfl) ?_
  intro p e s m args below meth c ls C hnm hP hS hl
  have hx := C.1.1
  have hb := C.1.2.1
  have hl : lv_has ls 1 [(0, .ref (ad 46))] := hl
  have hEE : ∀ r, r < 47 → ad r = ad r := fun _ _ => rfl
  have hAA : AA 47 ad s.heap.size = AA 47 ad s.heap.size := rfl
  have hU : ∀ r, r < 46 → ρ r = ρ r := fun _ _ => rfl
  unfold F_X3_init_46 at hF
  refine lv_aload_n hx hb dX3_init_0 rfl (lv_at hl 0 rfl) ?_
  refine x_obj C hl.1 mw_51 mw_10 mw_11 dX3_init_1 (Nat.le_of_ble_eq_true rfl) (Nat.le_of_ble_eq_true rfl) ?_
  refine lv_aload_n hx hb dX3_init_4 rfl (lv_at hl 0 rfl) ?_
  refine lv_bipush (v := 6) hx hb dX3_init_5 (by decide +kernel) ?_
  refine x_newa (atype := .int) (ty := .int) (t := 14) (y := 1) rfl (fun _ h => by cases h) rfl rfl (fun _ _ _ _ => rfl) C hP hS hR (kk_47 hKL) (kn_47 hKL) (hB 47 (Nat.le_refl _)) mw_27 (by decide) cl_6 (Nat.le_of_ble_eq_true rfl) (Nat.le_of_ble_eq_true rfl) (Nat.le_of_ble_eq_true rfl) dX3_init_7 (fun ad1 H hE hA C hP hS => ?_)
  rw [← hE 46 (by decide)]
  rw [← hE 46 (by decide)] at hl
  have hEE : ∀ r, r < 47 → ad1 r = ad r := fun r h => (hE r (by omega)).trans (hEE r h)
  have hAA := hA.trans hAA
  have C : Cx Y D 48 ad1 p s m args meth c cX3_init 1 none RX3 wsL_law := C
  have hP : WP Y D 48 ad1 K len σ ρ _ := hP
  have hS : va_S (AA 48 ad1 s.heap.size) s.heap _ _ := hS
  have hR : RC 48 ρ := RC_grow hR (hB 47 (Nat.le_refl _)).2
  have hB : BL 48 σ ρ := BL_grow hB
  obtain ⟨ρ2, eρ2, hF⟩ := nm_1 hF
  refine put_3_9 C hP hS (by decide) (kk_46 hKL) inlX3 mw_52 ⟨hnm, rfl⟩ eρ2 dX3_init_9 (fun H locs hP hS => ?_)
  have hR : RC 48 ρ2 := by rw [eρ2]; exact RC_put hR (by decide)
  have hB : BL 48 σ ρ2 := by rw [eρ2]; exact BL_r2 hB (by decide)
  have hU : ∀ r, r < 46 → ρ2 r = ρ r := fun r h => (congrFun eρ2 r).trans ((r2_ne r (by omega)).trans (hU r h))
  have kf_46_9 : ρ2 46 9 = some 47 := by rw [eρ2, r2_at, if_pos rfl, if_pos rfl]
  obtain ⟨rfl, rfl⟩ := ret_2 hF
  exact x_cret rfl hEE hAA C hP hS dX3_init_12

/-! CutCrooked$Loaf.private CutCrooked$Loaf(); 48 -/
abbrev rm_X3_init_48 : Room := { frames := 1, cells := 1, slots := 6, locals := 20 }
def F_X3_init_48  (σ : SG) (ρ : RG) : Option (SG × RG) :=
  nm (r2 ρ 48 9 (some 49)) fun ρ2 =>
  some (σ, ρ2)
set_option maxHeartbeats 4000000 in
set_option maxRecDepth 100000 in
theorem k_X3_init_48  {σ σ1 : SG} {ρ ρ1 : RG} (hR : RC 49 ρ) (hB : BL 49 σ ρ) (hF : F_X3_init_48 σ ρ = some (σ1, ρ1)) : RC 50 ρ1 ∧ BL 50 σ1 ρ1 ∧ (∀ r, r < 48 → ρ1 r = ρ r) ∧ ∀ q ∈ ([(48, 9, 49)] : List (Nat × Nat × Nat)), ρ1 q.1 q.2.1 = some q.2.2 := by
  unfold F_X3_init_48 at hF
  have hU : ∀ r, r < 48 → ρ r = ρ r := fun _ _ => rfl
  have hR : RC 50 ρ := RC_grow hR (hB 49 (Nat.le_refl _)).2
  have hB : BL 50 σ ρ := BL_grow hB
  obtain ⟨ρ2, eρ2, hF⟩ := nm_1 hF
  have hR : RC 50 ρ2 := by rw [eρ2]; exact RC_put hR (by decide)
  have hB : BL 50 σ ρ2 := by rw [eρ2]; exact BL_r2 hB (by decide)
  have hU : ∀ r, r < 48 → ρ2 r = ρ r := fun r h => (congrFun eρ2 r).trans ((r2_ne r (by omega)).trans (hU r h))
  have kf_48_9 : ρ2 48 9 = some 49 := by rw [eρ2, r2_at, if_pos rfl, if_pos rfl]
  obtain ⟨rfl, rfl⟩ := ret_2 hF
  refine ⟨hR, hB, hU, fun q hq => ?_⟩
  simp only [List.mem_cons, List.not_mem_nil, or_false] at hq
  rcases hq with rfl
  · exact kf_48_9
set_option maxHeartbeats 8000000 in
set_option maxRecDepth 100000 in
theorem c_X3_init_48  {σ σ1 : SG} {ρ ρ1 : RG} (hKL : LK K len) (hR : RC 49 ρ) (hB : BL 49 σ ρ) (hF : F_X3_init_48 σ ρ = some (σ1, ρ1)) : MC l Y D 49 ad K len yX3_init (Cond.code yX3_init cX3_init 1 none :: wsL_law) rm_X3_init_48 [.ref (ad 48)] σ ρ (fun _ => none) 50 K len σ1 ρ1 1 6 := by
  refine mc_of (cc := cX3_init) (nL := 1) (ret := none) (by decide) (Nat.le_of_ble_eq_true rfl) ?_
  intro p e s m args below meth c ls C hnm hP hS hl
  have hx := C.1.1
  have hb := C.1.2.1
  have hl : lv_has ls 1 [(0, .ref (ad 48))] := hl
  have hEE : ∀ r, r < 49 → ad r = ad r := fun _ _ => rfl
  have hAA : AA 49 ad s.heap.size = AA 49 ad s.heap.size := rfl
  have hU : ∀ r, r < 48 → ρ r = ρ r := fun _ _ => rfl
  unfold F_X3_init_48 at hF
  refine lv_aload_n hx hb dX3_init_0 rfl (lv_at hl 0 rfl) ?_
  refine x_obj C hl.1 mw_51 mw_10 mw_11 dX3_init_1 (Nat.le_of_ble_eq_true rfl) (Nat.le_of_ble_eq_true rfl) ?_
  refine lv_aload_n hx hb dX3_init_4 rfl (lv_at hl 0 rfl) ?_
  refine lv_bipush (v := 6) hx hb dX3_init_5 (by decide +kernel) ?_
  refine x_newa (atype := .int) (ty := .int) (t := 14) (y := 1) rfl (fun _ h => by cases h) rfl rfl (fun _ _ _ _ => rfl) C hP hS hR (kk_49 hKL) (kn_49 hKL) (hB 49 (Nat.le_refl _)) mw_27 (by decide) cl_6 (Nat.le_of_ble_eq_true rfl) (Nat.le_of_ble_eq_true rfl) (Nat.le_of_ble_eq_true rfl) dX3_init_7 (fun ad1 H hE hA C hP hS => ?_)
  rw [← hE 48 (by decide)]
  rw [← hE 48 (by decide)] at hl
  have hEE : ∀ r, r < 49 → ad1 r = ad r := fun r h => (hE r (by omega)).trans (hEE r h)
  have hAA := hA.trans hAA
  have C : Cx Y D 50 ad1 p s m args meth c cX3_init 1 none RX3 wsL_law := C
  have hP : WP Y D 50 ad1 K len σ ρ _ := hP
  have hS : va_S (AA 50 ad1 s.heap.size) s.heap _ _ := hS
  have hR : RC 50 ρ := RC_grow hR (hB 49 (Nat.le_refl _)).2
  have hB : BL 50 σ ρ := BL_grow hB
  obtain ⟨ρ2, eρ2, hF⟩ := nm_1 hF
  refine put_3_9 C hP hS (by decide) (kk_48 hKL) inlX3 mw_52 ⟨hnm, rfl⟩ eρ2 dX3_init_9 (fun H locs hP hS => ?_)
  have hR : RC 50 ρ2 := by rw [eρ2]; exact RC_put hR (by decide)
  have hB : BL 50 σ ρ2 := by rw [eρ2]; exact BL_r2 hB (by decide)
  have hU : ∀ r, r < 48 → ρ2 r = ρ r := fun r h => (congrFun eρ2 r).trans ((r2_ne r (by omega)).trans (hU r h))
  have kf_48_9 : ρ2 48 9 = some 49 := by rw [eρ2, r2_at, if_pos rfl, if_pos rfl]
  obtain ⟨rfl, rfl⟩ := ret_2 hF
  exact x_cret rfl hEE hAA C hP hS dX3_init_12

/-! CutCrooked$Loaf.private CutCrooked$Loaf(); 50 -/
abbrev rm_X3_init_50 : Room := { frames := 1, cells := 1, slots := 6, locals := 20 }
def F_X3_init_50  (σ : SG) (ρ : RG) : Option (SG × RG) :=
  nm (r2 ρ 50 9 (some 51)) fun ρ2 =>
  some (σ, ρ2)
set_option maxHeartbeats 4000000 in
set_option maxRecDepth 100000 in
theorem k_X3_init_50  {σ σ1 : SG} {ρ ρ1 : RG} (hR : RC 51 ρ) (hB : BL 51 σ ρ) (hF : F_X3_init_50 σ ρ = some (σ1, ρ1)) : RC 52 ρ1 ∧ BL 52 σ1 ρ1 ∧ (∀ r, r < 50 → ρ1 r = ρ r) ∧ ∀ q ∈ ([(50, 9, 51)] : List (Nat × Nat × Nat)), ρ1 q.1 q.2.1 = some q.2.2 := by
  unfold F_X3_init_50 at hF
  have hU : ∀ r, r < 50 → ρ r = ρ r := fun _ _ => rfl
  have hR : RC 52 ρ := RC_grow hR (hB 51 (Nat.le_refl _)).2
  have hB : BL 52 σ ρ := BL_grow hB
  obtain ⟨ρ2, eρ2, hF⟩ := nm_1 hF
  have hR : RC 52 ρ2 := by rw [eρ2]; exact RC_put hR (by decide)
  have hB : BL 52 σ ρ2 := by rw [eρ2]; exact BL_r2 hB (by decide)
  have hU : ∀ r, r < 50 → ρ2 r = ρ r := fun r h => (congrFun eρ2 r).trans ((r2_ne r (by omega)).trans (hU r h))
  have kf_50_9 : ρ2 50 9 = some 51 := by rw [eρ2, r2_at, if_pos rfl, if_pos rfl]
  obtain ⟨rfl, rfl⟩ := ret_2 hF
  refine ⟨hR, hB, hU, fun q hq => ?_⟩
  simp only [List.mem_cons, List.not_mem_nil, or_false] at hq
  rcases hq with rfl
  · exact kf_50_9
set_option maxHeartbeats 8000000 in
set_option maxRecDepth 100000 in
theorem c_X3_init_50  {σ σ1 : SG} {ρ ρ1 : RG} (hKL : LK K len) (hR : RC 51 ρ) (hB : BL 51 σ ρ) (hF : F_X3_init_50 σ ρ = some (σ1, ρ1)) : MC l Y D 51 ad K len yX3_init (Cond.code yX3_init cX3_init 1 none :: wsL_law) rm_X3_init_50 [.ref (ad 50)] σ ρ (fun _ => none) 52 K len σ1 ρ1 1 6 := by
  refine mc_of (cc := cX3_init) (nL := 1) (ret := none) (by decide) (Nat.le_of_ble_eq_true rfl) ?_
  intro p e s m args below meth c ls C hnm hP hS hl
  have hx := C.1.1
  have hb := C.1.2.1
  have hl : lv_has ls 1 [(0, .ref (ad 50))] := hl
  have hEE : ∀ r, r < 51 → ad r = ad r := fun _ _ => rfl
  have hAA : AA 51 ad s.heap.size = AA 51 ad s.heap.size := rfl
  have hU : ∀ r, r < 50 → ρ r = ρ r := fun _ _ => rfl
  unfold F_X3_init_50 at hF
  refine lv_aload_n hx hb dX3_init_0 rfl (lv_at hl 0 rfl) ?_
  refine x_obj C hl.1 mw_51 mw_10 mw_11 dX3_init_1 (Nat.le_of_ble_eq_true rfl) (Nat.le_of_ble_eq_true rfl) ?_
  refine lv_aload_n hx hb dX3_init_4 rfl (lv_at hl 0 rfl) ?_
  refine lv_bipush (v := 6) hx hb dX3_init_5 (by decide +kernel) ?_
  refine x_newa (atype := .int) (ty := .int) (t := 14) (y := 1) rfl (fun _ h => by cases h) rfl rfl (fun _ _ _ _ => rfl) C hP hS hR (kk_51 hKL) (kn_51 hKL) (hB 51 (Nat.le_refl _)) mw_27 (by decide) cl_6 (Nat.le_of_ble_eq_true rfl) (Nat.le_of_ble_eq_true rfl) (Nat.le_of_ble_eq_true rfl) dX3_init_7 (fun ad1 H hE hA C hP hS => ?_)
  rw [← hE 50 (by decide)]
  rw [← hE 50 (by decide)] at hl
  have hEE : ∀ r, r < 51 → ad1 r = ad r := fun r h => (hE r (by omega)).trans (hEE r h)
  have hAA := hA.trans hAA
  have C : Cx Y D 52 ad1 p s m args meth c cX3_init 1 none RX3 wsL_law := C
  have hP : WP Y D 52 ad1 K len σ ρ _ := hP
  have hS : va_S (AA 52 ad1 s.heap.size) s.heap _ _ := hS
  have hR : RC 52 ρ := RC_grow hR (hB 51 (Nat.le_refl _)).2
  have hB : BL 52 σ ρ := BL_grow hB
  obtain ⟨ρ2, eρ2, hF⟩ := nm_1 hF
  refine put_3_9 C hP hS (by decide) (kk_50 hKL) inlX3 mw_52 ⟨hnm, rfl⟩ eρ2 dX3_init_9 (fun H locs hP hS => ?_)
  have hR : RC 52 ρ2 := by rw [eρ2]; exact RC_put hR (by decide)
  have hB : BL 52 σ ρ2 := by rw [eρ2]; exact BL_r2 hB (by decide)
  have hU : ∀ r, r < 50 → ρ2 r = ρ r := fun r h => (congrFun eρ2 r).trans ((r2_ne r (by omega)).trans (hU r h))
  have kf_50_9 : ρ2 50 9 = some 51 := by rw [eρ2, r2_at, if_pos rfl, if_pos rfl]
  obtain ⟨rfl, rfl⟩ := ret_2 hF
  exact x_cret rfl hEE hAA C hP hS dX3_init_12

/-! CutCrooked$Loaf.private CutCrooked$Loaf(); 52 -/
abbrev rm_X3_init_52 : Room := { frames := 1, cells := 1, slots := 6, locals := 20 }
def F_X3_init_52  (σ : SG) (ρ : RG) : Option (SG × RG) :=
  nm (r2 ρ 52 9 (some 53)) fun ρ2 =>
  some (σ, ρ2)
set_option maxHeartbeats 4000000 in
set_option maxRecDepth 100000 in
theorem k_X3_init_52  {σ σ1 : SG} {ρ ρ1 : RG} (hR : RC 53 ρ) (hB : BL 53 σ ρ) (hF : F_X3_init_52 σ ρ = some (σ1, ρ1)) : RC 54 ρ1 ∧ BL 54 σ1 ρ1 ∧ (∀ r, r < 52 → ρ1 r = ρ r) ∧ ∀ q ∈ ([(52, 9, 53)] : List (Nat × Nat × Nat)), ρ1 q.1 q.2.1 = some q.2.2 := by
  unfold F_X3_init_52 at hF
  have hU : ∀ r, r < 52 → ρ r = ρ r := fun _ _ => rfl
  have hR : RC 54 ρ := RC_grow hR (hB 53 (Nat.le_refl _)).2
  have hB : BL 54 σ ρ := BL_grow hB
  obtain ⟨ρ2, eρ2, hF⟩ := nm_1 hF
  have hR : RC 54 ρ2 := by rw [eρ2]; exact RC_put hR (by decide)
  have hB : BL 54 σ ρ2 := by rw [eρ2]; exact BL_r2 hB (by decide)
  have hU : ∀ r, r < 52 → ρ2 r = ρ r := fun r h => (congrFun eρ2 r).trans ((r2_ne r (by omega)).trans (hU r h))
  have kf_52_9 : ρ2 52 9 = some 53 := by rw [eρ2, r2_at, if_pos rfl, if_pos rfl]
  obtain ⟨rfl, rfl⟩ := ret_2 hF
  refine ⟨hR, hB, hU, fun q hq => ?_⟩
  simp only [List.mem_cons, List.not_mem_nil, or_false] at hq
  rcases hq with rfl
  · exact kf_52_9
set_option maxHeartbeats 8000000 in
set_option maxRecDepth 100000 in
theorem c_X3_init_52  {σ σ1 : SG} {ρ ρ1 : RG} (hKL : LK K len) (hR : RC 53 ρ) (hB : BL 53 σ ρ) (hF : F_X3_init_52 σ ρ = some (σ1, ρ1)) : MC l Y D 53 ad K len yX3_init (Cond.code yX3_init cX3_init 1 none :: wsL_law) rm_X3_init_52 [.ref (ad 52)] σ ρ (fun _ => none) 54 K len σ1 ρ1 1 6 := by
  refine mc_of (cc := cX3_init) (nL := 1) (ret := none) (by decide) (Nat.le_of_ble_eq_true rfl) ?_
  intro p e s m args below meth c ls C hnm hP hS hl
  have hx := C.1.1
  have hb := C.1.2.1
  have hl : lv_has ls 1 [(0, .ref (ad 52))] := hl
  have hEE : ∀ r, r < 53 → ad r = ad r := fun _ _ => rfl
  have hAA : AA 53 ad s.heap.size = AA 53 ad s.heap.size := rfl
  have hU : ∀ r, r < 52 → ρ r = ρ r := fun _ _ => rfl
  unfold F_X3_init_52 at hF
  refine lv_aload_n hx hb dX3_init_0 rfl (lv_at hl 0 rfl) ?_
  refine x_obj C hl.1 mw_51 mw_10 mw_11 dX3_init_1 (Nat.le_of_ble_eq_true rfl) (Nat.le_of_ble_eq_true rfl) ?_
  refine lv_aload_n hx hb dX3_init_4 rfl (lv_at hl 0 rfl) ?_
  refine lv_bipush (v := 6) hx hb dX3_init_5 (by decide +kernel) ?_
  refine x_newa (atype := .int) (ty := .int) (t := 14) (y := 1) rfl (fun _ h => by cases h) rfl rfl (fun _ _ _ _ => rfl) C hP hS hR (kk_53 hKL) (kn_53 hKL) (hB 53 (Nat.le_refl _)) mw_27 (by decide) cl_6 (Nat.le_of_ble_eq_true rfl) (Nat.le_of_ble_eq_true rfl) (Nat.le_of_ble_eq_true rfl) dX3_init_7 (fun ad1 H hE hA C hP hS => ?_)
  rw [← hE 52 (by decide)]
  rw [← hE 52 (by decide)] at hl
  have hEE : ∀ r, r < 53 → ad1 r = ad r := fun r h => (hE r (by omega)).trans (hEE r h)
  have hAA := hA.trans hAA
  have C : Cx Y D 54 ad1 p s m args meth c cX3_init 1 none RX3 wsL_law := C
  have hP : WP Y D 54 ad1 K len σ ρ _ := hP
  have hS : va_S (AA 54 ad1 s.heap.size) s.heap _ _ := hS
  have hR : RC 54 ρ := RC_grow hR (hB 53 (Nat.le_refl _)).2
  have hB : BL 54 σ ρ := BL_grow hB
  obtain ⟨ρ2, eρ2, hF⟩ := nm_1 hF
  refine put_3_9 C hP hS (by decide) (kk_52 hKL) inlX3 mw_52 ⟨hnm, rfl⟩ eρ2 dX3_init_9 (fun H locs hP hS => ?_)
  have hR : RC 54 ρ2 := by rw [eρ2]; exact RC_put hR (by decide)
  have hB : BL 54 σ ρ2 := by rw [eρ2]; exact BL_r2 hB (by decide)
  have hU : ∀ r, r < 52 → ρ2 r = ρ r := fun r h => (congrFun eρ2 r).trans ((r2_ne r (by omega)).trans (hU r h))
  have kf_52_9 : ρ2 52 9 = some 53 := by rw [eρ2, r2_at, if_pos rfl, if_pos rfl]
  obtain ⟨rfl, rfl⟩ := ret_2 hF
  exact x_cret rfl hEE hAA C hP hS dX3_init_12

/-! CutCrooked$Board.private CutCrooked$Board(); 5 -/
theorem dX0_init_0 : decode cX0_init 0 = .ok (.aload_n 0, 1) := by decide +kernel
theorem dX0_init_1 : decode cX0_init 1 = .ok (.invokespecial 3, 3) := by decide +kernel
theorem dX0_init_4 : decode cX0_init 4 = .ok (.aload_n 0, 1) := by decide +kernel
theorem dX0_init_5 : decode cX0_init 5 = .ok (.iconst 3, 1) := by decide +kernel
theorem dX0_init_6 : decode cX0_init 6 = .ok (.putfield 11, 3) := by decide +kernel
theorem dX0_init_9 : decode cX0_init 9 = .ok (.aload_n 0, 1) := by decide +kernel
theorem dX0_init_10 : decode cX0_init 10 = .ok (.bipush 10, 2) := by decide +kernel
theorem dX0_init_12 : decode cX0_init 12 = .ok (.putfield 15, 3) := by decide +kernel
theorem dX0_init_15 : decode cX0_init 15 = .ok (.aload_n 0, 1) := by decide +kernel
theorem dX0_init_16 : decode cX0_init 16 = .ok (.bipush 10, 2) := by decide +kernel
theorem dX0_init_18 : decode cX0_init 18 = .ok (.newarray .boolean, 2) := by decide +kernel
theorem dX0_init_20 : decode cX0_init 20 = .ok (.putfield 18, 3) := by decide +kernel
theorem dX0_init_23 : decode cX0_init 23 = .ok (.aload_n 0, 1) := by decide +kernel
theorem dX0_init_24 : decode cX0_init 24 = .ok (.bipush 10, 2) := by decide +kernel
theorem dX0_init_26 : decode cX0_init 26 = .ok (.newarray .int, 2) := by decide +kernel
theorem dX0_init_28 : decode cX0_init 28 = .ok (.putfield 22, 3) := by decide +kernel
theorem dX0_init_31 : decode cX0_init 31 = .ok (.aload_n 0, 1) := by decide +kernel
theorem dX0_init_32 : decode cX0_init 32 = .ok (.bipush 10, 2) := by decide +kernel
theorem dX0_init_34 : decode cX0_init 34 = .ok (.newarray .int, 2) := by decide +kernel
theorem dX0_init_36 : decode cX0_init 36 = .ok (.putfield 26, 3) := by decide +kernel
theorem dX0_init_39 : decode cX0_init 39 = .ok (.aload_n 0, 1) := by decide +kernel
theorem dX0_init_40 : decode cX0_init 40 = .ok (.bipush 100, 2) := by decide +kernel
theorem dX0_init_42 : decode cX0_init 42 = .ok (.newarray .int, 2) := by decide +kernel
theorem dX0_init_44 : decode cX0_init 44 = .ok (.putfield 29, 3) := by decide +kernel
theorem dX0_init_47 : decode cX0_init 47 = .ok (.return_, 1) := by decide +kernel
theorem hd_X0_init : yX0_init.cls = RX0 ∧ yX0_init.cls ≠ "java/lang/invoke/MethodHandle" ∧ yX0_init.cls ≠ "java/lang/invoke/VarHandle" ∧ (parseMethodDescriptor yX0_init.desc).map (fun d => d.parameters.length) = some 0 := by decide +kernel
abbrev rm_X0_init_5 : Room := { frames := 1, cells := 4, slots := 130, locals := 20 }
def F_X0_init_5  (σ : SG) (ρ : RG) : Option (SG × RG) :=
  nm (s2 σ 5 0 (3 : Int32)) fun σ1 =>
  nm (s2 σ1 5 1 (10 : Int32)) fun σ2 =>
  nm (r2 ρ 5 3 (some 6)) fun ρ4 =>
  nm (r2 ρ4 5 4 (some 7)) fun ρ6 =>
  nm (r2 ρ6 5 5 (some 8)) fun ρ8 =>
  nm (r2 ρ8 5 6 (some 9)) fun ρ10 =>
  some (σ2, ρ10)
set_option maxHeartbeats 4000000 in
set_option maxRecDepth 100000 in
theorem k_X0_init_5  {σ σ1 : SG} {ρ ρ1 : RG} (hR : RC 6 ρ) (hB : BL 6 σ ρ) (hF : F_X0_init_5 σ ρ = some (σ1, ρ1)) : RC 10 ρ1 ∧ BL 10 σ1 ρ1 ∧ (∀ r, r < 5 → ρ1 r = ρ r) ∧ ∀ q ∈ ([(5, 3, 6), (5, 4, 7), (5, 5, 8), (5, 6, 9)] : List (Nat × Nat × Nat)), ρ1 q.1 q.2.1 = some q.2.2 := by
  unfold F_X0_init_5 at hF
  have hU : ∀ r, r < 5 → ρ r = ρ r := fun _ _ => rfl
  obtain ⟨σ1, eσ1, hF⟩ := nm_1 hF
  have hB : BL 6 σ1 ρ := by rw [eσ1]; exact BL_s2 hB (by decide)
  obtain ⟨σ2, eσ2, hF⟩ := nm_1 hF
  have hB : BL 6 σ2 ρ := by rw [eσ2]; exact BL_s2 hB (by decide)
  have hR : RC 7 ρ := RC_grow hR (hB 6 (Nat.le_refl _)).2
  have hB : BL 7 σ2 ρ := BL_grow hB
  obtain ⟨ρ4, eρ4, hF⟩ := nm_1 hF
  have hR : RC 7 ρ4 := by rw [eρ4]; exact RC_put hR (by decide)
  have hB : BL 7 σ2 ρ4 := by rw [eρ4]; exact BL_r2 hB (by decide)
  have hU : ∀ r, r < 5 → ρ4 r = ρ r := fun r h => (congrFun eρ4 r).trans ((r2_ne r (by omega)).trans (hU r h))
  have kf_5_3 : ρ4 5 3 = some 6 := by rw [eρ4, r2_at, if_pos rfl, if_pos rfl]
  have hR : RC 8 ρ4 := RC_grow hR (hB 7 (Nat.le_refl _)).2
  have hB : BL 8 σ2 ρ4 := BL_grow hB
  obtain ⟨ρ6, eρ6, hF⟩ := nm_1 hF
  have hR : RC 8 ρ6 := by rw [eρ6]; exact RC_put hR (by decide)
  have hB : BL 8 σ2 ρ6 := by rw [eρ6]; exact BL_r2 hB (by decide)
  have hU : ∀ r, r < 5 → ρ6 r = ρ r := fun r h => (congrFun eρ6 r).trans ((r2_ne r (by omega)).trans (hU r h))
  have kf_5_3 : ρ6 5 3 = some 6 := by rw [eρ6, r2_at, if_pos rfl, if_neg (by decide)]; exact kf_5_3
  have kf_5_4 : ρ6 5 4 = some 7 := by rw [eρ6, r2_at, if_pos rfl, if_pos rfl]
  have hR : RC 9 ρ6 := RC_grow hR (hB 8 (Nat.le_refl _)).2
  have hB : BL 9 σ2 ρ6 := BL_grow hB
  obtain ⟨ρ8, eρ8, hF⟩ := nm_1 hF
  have hR : RC 9 ρ8 := by rw [eρ8]; exact RC_put hR (by decide)
  have hB : BL 9 σ2 ρ8 := by rw [eρ8]; exact BL_r2 hB (by decide)
  have hU : ∀ r, r < 5 → ρ8 r = ρ r := fun r h => (congrFun eρ8 r).trans ((r2_ne r (by omega)).trans (hU r h))
  have kf_5_3 : ρ8 5 3 = some 6 := by rw [eρ8, r2_at, if_pos rfl, if_neg (by decide)]; exact kf_5_3
  have kf_5_4 : ρ8 5 4 = some 7 := by rw [eρ8, r2_at, if_pos rfl, if_neg (by decide)]; exact kf_5_4
  have kf_5_5 : ρ8 5 5 = some 8 := by rw [eρ8, r2_at, if_pos rfl, if_pos rfl]
  have hR : RC 10 ρ8 := RC_grow hR (hB 9 (Nat.le_refl _)).2
  have hB : BL 10 σ2 ρ8 := BL_grow hB
  obtain ⟨ρ10, eρ10, hF⟩ := nm_1 hF
  have hR : RC 10 ρ10 := by rw [eρ10]; exact RC_put hR (by decide)
  have hB : BL 10 σ2 ρ10 := by rw [eρ10]; exact BL_r2 hB (by decide)
  have hU : ∀ r, r < 5 → ρ10 r = ρ r := fun r h => (congrFun eρ10 r).trans ((r2_ne r (by omega)).trans (hU r h))
  have kf_5_3 : ρ10 5 3 = some 6 := by rw [eρ10, r2_at, if_pos rfl, if_neg (by decide)]; exact kf_5_3
  have kf_5_4 : ρ10 5 4 = some 7 := by rw [eρ10, r2_at, if_pos rfl, if_neg (by decide)]; exact kf_5_4
  have kf_5_5 : ρ10 5 5 = some 8 := by rw [eρ10, r2_at, if_pos rfl, if_neg (by decide)]; exact kf_5_5
  have kf_5_6 : ρ10 5 6 = some 9 := by rw [eρ10, r2_at, if_pos rfl, if_pos rfl]
  obtain ⟨rfl, rfl⟩ := ret_2 hF
  refine ⟨hR, hB, hU, fun q hq => ?_⟩
  simp only [List.mem_cons, List.not_mem_nil, or_false] at hq
  rcases hq with rfl | rfl | rfl | rfl
  · exact kf_5_3
  · exact kf_5_4
  · exact kf_5_5
  · exact kf_5_6
set_option maxHeartbeats 8000000 in
set_option maxRecDepth 100000 in
theorem c_X0_init_5  {σ σ1 : SG} {ρ ρ1 : RG} (hKL : LK K len) (hR : RC 6 ρ) (hB : BL 6 σ ρ) (hF : F_X0_init_5 σ ρ = some (σ1, ρ1)) : MC l Y D 6 ad K len yX0_init (Cond.code yX0_init cX0_init 1 none :: wsL_law) rm_X0_init_5 [.ref (ad 5)] σ ρ (fun _ => none) 10 K len σ1 ρ1 4 130 := by
  refine mc_of (cc := cX0_init) (nL := 1) (ret := none) (by decide) (Nat.le_of_ble_eq_true rfl) ?_
  intro p e s m args below meth c ls C hnm hP hS hl
  have hx := C.1.1
  have hb := C.1.2.1
  have hl : lv_has ls 1 [(0, .ref (ad 5))] := hl
  have hEE : ∀ r, r < 6 → ad r = ad r := fun _ _ => rfl
  have hAA : AA 6 ad s.heap.size = AA 6 ad s.heap.size := rfl
  have hU : ∀ r, r < 5 → ρ r = ρ r := fun _ _ => rfl
  unfold F_X0_init_5 at hF
  refine lv_aload_n hx hb dX0_init_0 rfl (lv_at hl 0 rfl) ?_
  refine x_obj C hl.1 mw_55 mw_10 mw_11 dX0_init_1 (Nat.le_of_ble_eq_true rfl) (Nat.le_of_ble_eq_true rfl) ?_
  refine lv_aload_n hx hb dX0_init_4 rfl (lv_at hl 0 rfl) ?_
  refine lv_iconst (v := 3) hx hb dX0_init_5 (by decide) ?_
  obtain ⟨σ1, eσ1, hF⟩ := nm_1 hF
  refine put_0_0 C hP hS (by decide) (kk_5 hKL) inlX0 mw_56 eσ1 dX0_init_6 (fun H locs hP hS => ?_)
  have hB : BL 6 σ1 ρ := by rw [eσ1]; exact BL_s2 hB (by decide)
  refine lv_aload_n hx hb dX0_init_9 rfl (lv_at hl 0 rfl) ?_
  refine lv_bipush (v := 10) hx hb dX0_init_10 (by decide +kernel) ?_
  obtain ⟨σ2, eσ2, hF⟩ := nm_1 hF
  refine put_0_1 C hP hS (by decide) (kk_5 hKL) inlX0 mw_57 eσ2 dX0_init_12 (fun H locs hP hS => ?_)
  have hB : BL 6 σ2 ρ := by rw [eσ2]; exact BL_s2 hB (by decide)
  refine lv_aload_n hx hb dX0_init_15 rfl (lv_at hl 0 rfl) ?_
  refine lv_bipush (v := 10) hx hb dX0_init_16 (by decide +kernel) ?_
  refine x_newa (atype := .boolean) (ty := .boolean) (t := 15) (y := 2) rfl (fun _ h => by cases h) rfl rfl (fun _ _ _ _ => rfl) C hP hS hR (kk_6 hKL) (kn_6 hKL) (hB 6 (Nat.le_refl _)) mw_58 (by decide) cl_10 (Nat.le_of_ble_eq_true rfl) (Nat.le_of_ble_eq_true rfl) (Nat.le_of_ble_eq_true rfl) dX0_init_18 (fun ad3 H hE hA C hP hS => ?_)
  rw [← hE 5 (by decide)]
  rw [← hE 5 (by decide)] at hl
  have hEE : ∀ r, r < 6 → ad3 r = ad r := fun r h => (hE r (by omega)).trans (hEE r h)
  have hAA := hA.trans hAA
  have C : Cx Y D 7 ad3 p s m args meth c cX0_init 1 none RX0 wsL_law := C
  have hP : WP Y D 7 ad3 K len σ2 ρ _ := hP
  have hS : va_S (AA 7 ad3 s.heap.size) s.heap _ _ := hS
  have hR : RC 7 ρ := RC_grow hR (hB 6 (Nat.le_refl _)).2
  have hB : BL 7 σ2 ρ := BL_grow hB
  obtain ⟨ρ4, eρ4, hF⟩ := nm_1 hF
  refine put_0_3 C hP hS (by decide) (kk_5 hKL) inlX0 mw_59 ⟨hnm, rfl⟩ eρ4 dX0_init_20 (fun H locs hP hS => ?_)
  have hR : RC 7 ρ4 := by rw [eρ4]; exact RC_put hR (by decide)
  have hB : BL 7 σ2 ρ4 := by rw [eρ4]; exact BL_r2 hB (by decide)
  have hU : ∀ r, r < 5 → ρ4 r = ρ r := fun r h => (congrFun eρ4 r).trans ((r2_ne r (by omega)).trans (hU r h))
  have kf_5_3 : ρ4 5 3 = some 6 := by rw [eρ4, r2_at, if_pos rfl, if_pos rfl]
  refine lv_aload_n hx hb dX0_init_23 rfl (lv_at hl 0 rfl) ?_
  refine lv_bipush (v := 10) hx hb dX0_init_24 (by decide +kernel) ?_
  refine x_newa (atype := .int) (ty := .int) (t := 14) (y := 1) rfl (fun _ h => by cases h) rfl rfl (fun _ _ _ _ => rfl) C hP hS hR (kk_7 hKL) (kn_7 hKL) (hB 7 (Nat.le_refl _)) mw_27 (by decide) cl_10 (Nat.le_of_ble_eq_true rfl) (Nat.le_of_ble_eq_true rfl) (Nat.le_of_ble_eq_true rfl) dX0_init_26 (fun ad5 H hE hA C hP hS => ?_)
  rw [← hE 5 (by decide)]
  rw [← hE 5 (by decide)] at hl
  have hEE : ∀ r, r < 6 → ad5 r = ad r := fun r h => (hE r (by omega)).trans (hEE r h)
  have hAA := hA.trans hAA
  have C : Cx Y D 8 ad5 p s m args meth c cX0_init 1 none RX0 wsL_law := C
  have hP : WP Y D 8 ad5 K len σ2 ρ4 _ := hP
  have hS : va_S (AA 8 ad5 s.heap.size) s.heap _ _ := hS
  have hR : RC 8 ρ4 := RC_grow hR (hB 7 (Nat.le_refl _)).2
  have hB : BL 8 σ2 ρ4 := BL_grow hB
  obtain ⟨ρ6, eρ6, hF⟩ := nm_1 hF
  refine put_0_4 C hP hS (by decide) (kk_5 hKL) inlX0 mw_60 ⟨hnm, rfl⟩ eρ6 dX0_init_28 (fun H locs hP hS => ?_)
  have hR : RC 8 ρ6 := by rw [eρ6]; exact RC_put hR (by decide)
  have hB : BL 8 σ2 ρ6 := by rw [eρ6]; exact BL_r2 hB (by decide)
  have hU : ∀ r, r < 5 → ρ6 r = ρ r := fun r h => (congrFun eρ6 r).trans ((r2_ne r (by omega)).trans (hU r h))
  have kf_5_3 : ρ6 5 3 = some 6 := by rw [eρ6, r2_at, if_pos rfl, if_neg (by decide)]; exact kf_5_3
  have kf_5_4 : ρ6 5 4 = some 7 := by rw [eρ6, r2_at, if_pos rfl, if_pos rfl]
  refine lv_aload_n hx hb dX0_init_31 rfl (lv_at hl 0 rfl) ?_
  refine lv_bipush (v := 10) hx hb dX0_init_32 (by decide +kernel) ?_
  refine x_newa (atype := .int) (ty := .int) (t := 14) (y := 1) rfl (fun _ h => by cases h) rfl rfl (fun _ _ _ _ => rfl) C hP hS hR (kk_8 hKL) (kn_8 hKL) (hB 8 (Nat.le_refl _)) mw_27 (by decide) cl_10 (Nat.le_of_ble_eq_true rfl) (Nat.le_of_ble_eq_true rfl) (Nat.le_of_ble_eq_true rfl) dX0_init_34 (fun ad7 H hE hA C hP hS => ?_)
  rw [← hE 5 (by decide)]
  rw [← hE 5 (by decide)] at hl
  have hEE : ∀ r, r < 6 → ad7 r = ad r := fun r h => (hE r (by omega)).trans (hEE r h)
  have hAA := hA.trans hAA
  have C : Cx Y D 9 ad7 p s m args meth c cX0_init 1 none RX0 wsL_law := C
  have hP : WP Y D 9 ad7 K len σ2 ρ6 _ := hP
  have hS : va_S (AA 9 ad7 s.heap.size) s.heap _ _ := hS
  have hR : RC 9 ρ6 := RC_grow hR (hB 8 (Nat.le_refl _)).2
  have hB : BL 9 σ2 ρ6 := BL_grow hB
  obtain ⟨ρ8, eρ8, hF⟩ := nm_1 hF
  refine put_0_5 C hP hS (by decide) (kk_5 hKL) inlX0 mw_61 ⟨hnm, rfl⟩ eρ8 dX0_init_36 (fun H locs hP hS => ?_)
  have hR : RC 9 ρ8 := by rw [eρ8]; exact RC_put hR (by decide)
  have hB : BL 9 σ2 ρ8 := by rw [eρ8]; exact BL_r2 hB (by decide)
  have hU : ∀ r, r < 5 → ρ8 r = ρ r := fun r h => (congrFun eρ8 r).trans ((r2_ne r (by omega)).trans (hU r h))
  have kf_5_3 : ρ8 5 3 = some 6 := by rw [eρ8, r2_at, if_pos rfl, if_neg (by decide)]; exact kf_5_3
  have kf_5_4 : ρ8 5 4 = some 7 := by rw [eρ8, r2_at, if_pos rfl, if_neg (by decide)]; exact kf_5_4
  have kf_5_5 : ρ8 5 5 = some 8 := by rw [eρ8, r2_at, if_pos rfl, if_pos rfl]
  refine lv_aload_n hx hb dX0_init_39 rfl (lv_at hl 0 rfl) ?_
  refine lv_bipush (v := 100) hx hb dX0_init_40 (by decide +kernel) ?_
  refine x_newa (atype := .int) (ty := .int) (t := 14) (y := 1) rfl (fun _ h => by cases h) rfl rfl (fun _ _ _ _ => rfl) C hP hS hR (kk_9 hKL) (kn_9 hKL) (hB 9 (Nat.le_refl _)) mw_27 (by decide) cl_100 (Nat.le_of_ble_eq_true rfl) (Nat.le_of_ble_eq_true rfl) (Nat.le_of_ble_eq_true rfl) dX0_init_42 (fun ad9 H hE hA C hP hS => ?_)
  rw [← hE 5 (by decide)]
  rw [← hE 5 (by decide)] at hl
  have hEE : ∀ r, r < 6 → ad9 r = ad r := fun r h => (hE r (by omega)).trans (hEE r h)
  have hAA := hA.trans hAA
  have C : Cx Y D 10 ad9 p s m args meth c cX0_init 1 none RX0 wsL_law := C
  have hP : WP Y D 10 ad9 K len σ2 ρ8 _ := hP
  have hS : va_S (AA 10 ad9 s.heap.size) s.heap _ _ := hS
  have hR : RC 10 ρ8 := RC_grow hR (hB 9 (Nat.le_refl _)).2
  have hB : BL 10 σ2 ρ8 := BL_grow hB
  obtain ⟨ρ10, eρ10, hF⟩ := nm_1 hF
  refine put_0_6 C hP hS (by decide) (kk_5 hKL) inlX0 mw_62 ⟨hnm, rfl⟩ eρ10 dX0_init_44 (fun H locs hP hS => ?_)
  have hR : RC 10 ρ10 := by rw [eρ10]; exact RC_put hR (by decide)
  have hB : BL 10 σ2 ρ10 := by rw [eρ10]; exact BL_r2 hB (by decide)
  have hU : ∀ r, r < 5 → ρ10 r = ρ r := fun r h => (congrFun eρ10 r).trans ((r2_ne r (by omega)).trans (hU r h))
  have kf_5_3 : ρ10 5 3 = some 6 := by rw [eρ10, r2_at, if_pos rfl, if_neg (by decide)]; exact kf_5_3
  have kf_5_4 : ρ10 5 4 = some 7 := by rw [eρ10, r2_at, if_pos rfl, if_neg (by decide)]; exact kf_5_4
  have kf_5_5 : ρ10 5 5 = some 8 := by rw [eρ10, r2_at, if_pos rfl, if_neg (by decide)]; exact kf_5_5
  have kf_5_6 : ρ10 5 6 = some 9 := by rw [eρ10, r2_at, if_pos rfl, if_pos rfl]
  obtain ⟨rfl, rfl⟩ := ret_2 hF
  exact x_cret rfl hEE hAA C hP hS dX0_init_47

/-! CutCrooked$Board.private CutCrooked$Board(); 18 -/
abbrev rm_X0_init_18 : Room := { frames := 1, cells := 4, slots := 130, locals := 20 }
def F_X0_init_18  (σ : SG) (ρ : RG) : Option (SG × RG) :=
  nm (s2 σ 18 0 (3 : Int32)) fun σ1 =>
  nm (s2 σ1 18 1 (10 : Int32)) fun σ2 =>
  nm (r2 ρ 18 3 (some 19)) fun ρ4 =>
  nm (r2 ρ4 18 4 (some 20)) fun ρ6 =>
  nm (r2 ρ6 18 5 (some 21)) fun ρ8 =>
  nm (r2 ρ8 18 6 (some 22)) fun ρ10 =>
  some (σ2, ρ10)
set_option maxHeartbeats 4000000 in
set_option maxRecDepth 100000 in
theorem k_X0_init_18  {σ σ1 : SG} {ρ ρ1 : RG} (hR : RC 19 ρ) (hB : BL 19 σ ρ) (hF : F_X0_init_18 σ ρ = some (σ1, ρ1)) : RC 23 ρ1 ∧ BL 23 σ1 ρ1 ∧ (∀ r, r < 18 → ρ1 r = ρ r) ∧ ∀ q ∈ ([(18, 3, 19), (18, 4, 20), (18, 5, 21), (18, 6, 22)] : List (Nat × Nat × Nat)), ρ1 q.1 q.2.1 = some q.2.2 := by
  unfold F_X0_init_18 at hF
  have hU : ∀ r, r < 18 → ρ r = ρ r := fun _ _ => rfl
  obtain ⟨σ1, eσ1, hF⟩ := nm_1 hF
  have hB : BL 19 σ1 ρ := by rw [eσ1]; exact BL_s2 hB (by decide)
  obtain ⟨σ2, eσ2, hF⟩ := nm_1 hF
  have hB : BL 19 σ2 ρ := by rw [eσ2]; exact BL_s2 hB (by decide)
  have hR : RC 20 ρ := RC_grow hR (hB 19 (Nat.le_refl _)).2
  have hB : BL 20 σ2 ρ := BL_grow hB
  obtain ⟨ρ4, eρ4, hF⟩ := nm_1 hF
  have hR : RC 20 ρ4 := by rw [eρ4]; exact RC_put hR (by decide)
  have hB : BL 20 σ2 ρ4 := by rw [eρ4]; exact BL_r2 hB (by decide)
  have hU : ∀ r, r < 18 → ρ4 r = ρ r := fun r h => (congrFun eρ4 r).trans ((r2_ne r (by omega)).trans (hU r h))
  have kf_18_3 : ρ4 18 3 = some 19 := by rw [eρ4, r2_at, if_pos rfl, if_pos rfl]
  have hR : RC 21 ρ4 := RC_grow hR (hB 20 (Nat.le_refl _)).2
  have hB : BL 21 σ2 ρ4 := BL_grow hB
  obtain ⟨ρ6, eρ6, hF⟩ := nm_1 hF
  have hR : RC 21 ρ6 := by rw [eρ6]; exact RC_put hR (by decide)
  have hB : BL 21 σ2 ρ6 := by rw [eρ6]; exact BL_r2 hB (by decide)
  have hU : ∀ r, r < 18 → ρ6 r = ρ r := fun r h => (congrFun eρ6 r).trans ((r2_ne r (by omega)).trans (hU r h))
  have kf_18_3 : ρ6 18 3 = some 19 := by rw [eρ6, r2_at, if_pos rfl, if_neg (by decide)]; exact kf_18_3
  have kf_18_4 : ρ6 18 4 = some 20 := by rw [eρ6, r2_at, if_pos rfl, if_pos rfl]
  have hR : RC 22 ρ6 := RC_grow hR (hB 21 (Nat.le_refl _)).2
  have hB : BL 22 σ2 ρ6 := BL_grow hB
  obtain ⟨ρ8, eρ8, hF⟩ := nm_1 hF
  have hR : RC 22 ρ8 := by rw [eρ8]; exact RC_put hR (by decide)
  have hB : BL 22 σ2 ρ8 := by rw [eρ8]; exact BL_r2 hB (by decide)
  have hU : ∀ r, r < 18 → ρ8 r = ρ r := fun r h => (congrFun eρ8 r).trans ((r2_ne r (by omega)).trans (hU r h))
  have kf_18_3 : ρ8 18 3 = some 19 := by rw [eρ8, r2_at, if_pos rfl, if_neg (by decide)]; exact kf_18_3
  have kf_18_4 : ρ8 18 4 = some 20 := by rw [eρ8, r2_at, if_pos rfl, if_neg (by decide)]; exact kf_18_4
  have kf_18_5 : ρ8 18 5 = some 21 := by rw [eρ8, r2_at, if_pos rfl, if_pos rfl]
  have hR : RC 23 ρ8 := RC_grow hR (hB 22 (Nat.le_refl _)).2
  have hB : BL 23 σ2 ρ8 := BL_grow hB
  obtain ⟨ρ10, eρ10, hF⟩ := nm_1 hF
  have hR : RC 23 ρ10 := by rw [eρ10]; exact RC_put hR (by decide)
  have hB : BL 23 σ2 ρ10 := by rw [eρ10]; exact BL_r2 hB (by decide)
  have hU : ∀ r, r < 18 → ρ10 r = ρ r := fun r h => (congrFun eρ10 r).trans ((r2_ne r (by omega)).trans (hU r h))
  have kf_18_3 : ρ10 18 3 = some 19 := by rw [eρ10, r2_at, if_pos rfl, if_neg (by decide)]; exact kf_18_3
  have kf_18_4 : ρ10 18 4 = some 20 := by rw [eρ10, r2_at, if_pos rfl, if_neg (by decide)]; exact kf_18_4
  have kf_18_5 : ρ10 18 5 = some 21 := by rw [eρ10, r2_at, if_pos rfl, if_neg (by decide)]; exact kf_18_5
  have kf_18_6 : ρ10 18 6 = some 22 := by rw [eρ10, r2_at, if_pos rfl, if_pos rfl]
  obtain ⟨rfl, rfl⟩ := ret_2 hF
  refine ⟨hR, hB, hU, fun q hq => ?_⟩
  simp only [List.mem_cons, List.not_mem_nil, or_false] at hq
  rcases hq with rfl | rfl | rfl | rfl
  · exact kf_18_3
  · exact kf_18_4
  · exact kf_18_5
  · exact kf_18_6
set_option maxHeartbeats 8000000 in
set_option maxRecDepth 100000 in
theorem c_X0_init_18  {σ σ1 : SG} {ρ ρ1 : RG} (hKL : LK K len) (hR : RC 19 ρ) (hB : BL 19 σ ρ) (hF : F_X0_init_18 σ ρ = some (σ1, ρ1)) : MC l Y D 19 ad K len yX0_init (Cond.code yX0_init cX0_init 1 none :: wsL_law) rm_X0_init_18 [.ref (ad 18)] σ ρ (fun _ => none) 23 K len σ1 ρ1 4 130 := by
  refine mc_of (cc := cX0_init) (nL := 1) (ret := none) (by decide) (Nat.le_of_ble_eq_true rfl) ?_
  intro p e s m args below meth c ls C hnm hP hS hl
  have hx := C.1.1
  have hb := C.1.2.1
  have hl : lv_has ls 1 [(0, .ref (ad 18))] := hl
  have hEE : ∀ r, r < 19 → ad r = ad r := fun _ _ => rfl
  have hAA : AA 19 ad s.heap.size = AA 19 ad s.heap.size := rfl
  have hU : ∀ r, r < 18 → ρ r = ρ r := fun _ _ => rfl
  unfold F_X0_init_18 at hF
  refine lv_aload_n hx hb dX0_init_0 rfl (lv_at hl 0 rfl) ?_
  refine x_obj C hl.1 mw_55 mw_10 mw_11 dX0_init_1 (Nat.le_of_ble_eq_true rfl) (Nat.le_of_ble_eq_true rfl) ?_
  refine lv_aload_n hx hb dX0_init_4 rfl (lv_at hl 0 rfl) ?_
  refine lv_iconst (v := 3) hx hb dX0_init_5 (by decide) ?_
  obtain ⟨σ1, eσ1, hF⟩ := nm_1 hF
  refine put_0_0 C hP hS (by decide) (kk_18 hKL) inlX0 mw_56 eσ1 dX0_init_6 (fun H locs hP hS => ?_)
  have hB : BL 19 σ1 ρ := by rw [eσ1]; exact BL_s2 hB (by decide)
  refine lv_aload_n hx hb dX0_init_9 rfl (lv_at hl 0 rfl) ?_
  refine lv_bipush (v := 10) hx hb dX0_init_10 (by decide +kernel) ?_
  obtain ⟨σ2, eσ2, hF⟩ := nm_1 hF
  refine put_0_1 C hP hS (by decide) (kk_18 hKL) inlX0 mw_57 eσ2 dX0_init_12 (fun H locs hP hS => ?_)
  have hB : BL 19 σ2 ρ := by rw [eσ2]; exact BL_s2 hB (by decide)
  refine lv_aload_n hx hb dX0_init_15 rfl (lv_at hl 0 rfl) ?_
  refine lv_bipush (v := 10) hx hb dX0_init_16 (by decide +kernel) ?_
  refine x_newa (atype := .boolean) (ty := .boolean) (t := 15) (y := 2) rfl (fun _ h => by cases h) rfl rfl (fun _ _ _ _ => rfl) C hP hS hR (kk_19 hKL) (kn_19 hKL) (hB 19 (Nat.le_refl _)) mw_58 (by decide) cl_10 (Nat.le_of_ble_eq_true rfl) (Nat.le_of_ble_eq_true rfl) (Nat.le_of_ble_eq_true rfl) dX0_init_18 (fun ad3 H hE hA C hP hS => ?_)
  rw [← hE 18 (by decide)]
  rw [← hE 18 (by decide)] at hl
  have hEE : ∀ r, r < 19 → ad3 r = ad r := fun r h => (hE r (by omega)).trans (hEE r h)
  have hAA := hA.trans hAA
  have C : Cx Y D 20 ad3 p s m args meth c cX0_init 1 none RX0 wsL_law := C
  have hP : WP Y D 20 ad3 K len σ2 ρ _ := hP
  have hS : va_S (AA 20 ad3 s.heap.size) s.heap _ _ := hS
  have hR : RC 20 ρ := RC_grow hR (hB 19 (Nat.le_refl _)).2
  have hB : BL 20 σ2 ρ := BL_grow hB
  obtain ⟨ρ4, eρ4, hF⟩ := nm_1 hF
  refine put_0_3 C hP hS (by decide) (kk_18 hKL) inlX0 mw_59 ⟨hnm, rfl⟩ eρ4 dX0_init_20 (fun H locs hP hS => ?_)
  have hR : RC 20 ρ4 := by rw [eρ4]; exact RC_put hR (by decide)
  have hB : BL 20 σ2 ρ4 := by rw [eρ4]; exact BL_r2 hB (by decide)
  have hU : ∀ r, r < 18 → ρ4 r = ρ r := fun r h => (congrFun eρ4 r).trans ((r2_ne r (by omega)).trans (hU r h))
  have kf_18_3 : ρ4 18 3 = some 19 := by rw [eρ4, r2_at, if_pos rfl, if_pos rfl]
  refine lv_aload_n hx hb dX0_init_23 rfl (lv_at hl 0 rfl) ?_
  refine lv_bipush (v := 10) hx hb dX0_init_24 (by decide +kernel) ?_
  refine x_newa (atype := .int) (ty := .int) (t := 14) (y := 1) rfl (fun _ h => by cases h) rfl rfl (fun _ _ _ _ => rfl) C hP hS hR (kk_20 hKL) (kn_20 hKL) (hB 20 (Nat.le_refl _)) mw_27 (by decide) cl_10 (Nat.le_of_ble_eq_true rfl) (Nat.le_of_ble_eq_true rfl) (Nat.le_of_ble_eq_true rfl) dX0_init_26 (fun ad5 H hE hA C hP hS => ?_)
  rw [← hE 18 (by decide)]
  rw [← hE 18 (by decide)] at hl
  have hEE : ∀ r, r < 19 → ad5 r = ad r := fun r h => (hE r (by omega)).trans (hEE r h)
  have hAA := hA.trans hAA
  have C : Cx Y D 21 ad5 p s m args meth c cX0_init 1 none RX0 wsL_law := C
  have hP : WP Y D 21 ad5 K len σ2 ρ4 _ := hP
  have hS : va_S (AA 21 ad5 s.heap.size) s.heap _ _ := hS
  have hR : RC 21 ρ4 := RC_grow hR (hB 20 (Nat.le_refl _)).2
  have hB : BL 21 σ2 ρ4 := BL_grow hB
  obtain ⟨ρ6, eρ6, hF⟩ := nm_1 hF
  refine put_0_4 C hP hS (by decide) (kk_18 hKL) inlX0 mw_60 ⟨hnm, rfl⟩ eρ6 dX0_init_28 (fun H locs hP hS => ?_)
  have hR : RC 21 ρ6 := by rw [eρ6]; exact RC_put hR (by decide)
  have hB : BL 21 σ2 ρ6 := by rw [eρ6]; exact BL_r2 hB (by decide)
  have hU : ∀ r, r < 18 → ρ6 r = ρ r := fun r h => (congrFun eρ6 r).trans ((r2_ne r (by omega)).trans (hU r h))
  have kf_18_3 : ρ6 18 3 = some 19 := by rw [eρ6, r2_at, if_pos rfl, if_neg (by decide)]; exact kf_18_3
  have kf_18_4 : ρ6 18 4 = some 20 := by rw [eρ6, r2_at, if_pos rfl, if_pos rfl]
  refine lv_aload_n hx hb dX0_init_31 rfl (lv_at hl 0 rfl) ?_
  refine lv_bipush (v := 10) hx hb dX0_init_32 (by decide +kernel) ?_
  refine x_newa (atype := .int) (ty := .int) (t := 14) (y := 1) rfl (fun _ h => by cases h) rfl rfl (fun _ _ _ _ => rfl) C hP hS hR (kk_21 hKL) (kn_21 hKL) (hB 21 (Nat.le_refl _)) mw_27 (by decide) cl_10 (Nat.le_of_ble_eq_true rfl) (Nat.le_of_ble_eq_true rfl) (Nat.le_of_ble_eq_true rfl) dX0_init_34 (fun ad7 H hE hA C hP hS => ?_)
  rw [← hE 18 (by decide)]
  rw [← hE 18 (by decide)] at hl
  have hEE : ∀ r, r < 19 → ad7 r = ad r := fun r h => (hE r (by omega)).trans (hEE r h)
  have hAA := hA.trans hAA
  have C : Cx Y D 22 ad7 p s m args meth c cX0_init 1 none RX0 wsL_law := C
  have hP : WP Y D 22 ad7 K len σ2 ρ6 _ := hP
  have hS : va_S (AA 22 ad7 s.heap.size) s.heap _ _ := hS
  have hR : RC 22 ρ6 := RC_grow hR (hB 21 (Nat.le_refl _)).2
  have hB : BL 22 σ2 ρ6 := BL_grow hB
  obtain ⟨ρ8, eρ8, hF⟩ := nm_1 hF
  refine put_0_5 C hP hS (by decide) (kk_18 hKL) inlX0 mw_61 ⟨hnm, rfl⟩ eρ8 dX0_init_36 (fun H locs hP hS => ?_)
  have hR : RC 22 ρ8 := by rw [eρ8]; exact RC_put hR (by decide)
  have hB : BL 22 σ2 ρ8 := by rw [eρ8]; exact BL_r2 hB (by decide)
  have hU : ∀ r, r < 18 → ρ8 r = ρ r := fun r h => (congrFun eρ8 r).trans ((r2_ne r (by omega)).trans (hU r h))
  have kf_18_3 : ρ8 18 3 = some 19 := by rw [eρ8, r2_at, if_pos rfl, if_neg (by decide)]; exact kf_18_3
  have kf_18_4 : ρ8 18 4 = some 20 := by rw [eρ8, r2_at, if_pos rfl, if_neg (by decide)]; exact kf_18_4
  have kf_18_5 : ρ8 18 5 = some 21 := by rw [eρ8, r2_at, if_pos rfl, if_pos rfl]
  refine lv_aload_n hx hb dX0_init_39 rfl (lv_at hl 0 rfl) ?_
  refine lv_bipush (v := 100) hx hb dX0_init_40 (by decide +kernel) ?_
  refine x_newa (atype := .int) (ty := .int) (t := 14) (y := 1) rfl (fun _ h => by cases h) rfl rfl (fun _ _ _ _ => rfl) C hP hS hR (kk_22 hKL) (kn_22 hKL) (hB 22 (Nat.le_refl _)) mw_27 (by decide) cl_100 (Nat.le_of_ble_eq_true rfl) (Nat.le_of_ble_eq_true rfl) (Nat.le_of_ble_eq_true rfl) dX0_init_42 (fun ad9 H hE hA C hP hS => ?_)
  rw [← hE 18 (by decide)]
  rw [← hE 18 (by decide)] at hl
  have hEE : ∀ r, r < 19 → ad9 r = ad r := fun r h => (hE r (by omega)).trans (hEE r h)
  have hAA := hA.trans hAA
  have C : Cx Y D 23 ad9 p s m args meth c cX0_init 1 none RX0 wsL_law := C
  have hP : WP Y D 23 ad9 K len σ2 ρ8 _ := hP
  have hS : va_S (AA 23 ad9 s.heap.size) s.heap _ _ := hS
  have hR : RC 23 ρ8 := RC_grow hR (hB 22 (Nat.le_refl _)).2
  have hB : BL 23 σ2 ρ8 := BL_grow hB
  obtain ⟨ρ10, eρ10, hF⟩ := nm_1 hF
  refine put_0_6 C hP hS (by decide) (kk_18 hKL) inlX0 mw_62 ⟨hnm, rfl⟩ eρ10 dX0_init_44 (fun H locs hP hS => ?_)
  have hR : RC 23 ρ10 := by rw [eρ10]; exact RC_put hR (by decide)
  have hB : BL 23 σ2 ρ10 := by rw [eρ10]; exact BL_r2 hB (by decide)
  have hU : ∀ r, r < 18 → ρ10 r = ρ r := fun r h => (congrFun eρ10 r).trans ((r2_ne r (by omega)).trans (hU r h))
  have kf_18_3 : ρ10 18 3 = some 19 := by rw [eρ10, r2_at, if_pos rfl, if_neg (by decide)]; exact kf_18_3
  have kf_18_4 : ρ10 18 4 = some 20 := by rw [eρ10, r2_at, if_pos rfl, if_neg (by decide)]; exact kf_18_4
  have kf_18_5 : ρ10 18 5 = some 21 := by rw [eρ10, r2_at, if_pos rfl, if_neg (by decide)]; exact kf_18_5
  have kf_18_6 : ρ10 18 6 = some 22 := by rw [eρ10, r2_at, if_pos rfl, if_pos rfl]
  obtain ⟨rfl, rfl⟩ := ret_2 hF
  exact x_cret rfl hEE hAA C hP hS dX0_init_47

/-! CutCrooked$Board.private CutCrooked$Board(); 29 -/
abbrev rm_X0_init_29 : Room := { frames := 1, cells := 4, slots := 130, locals := 20 }
def F_X0_init_29  (σ : SG) (ρ : RG) : Option (SG × RG) :=
  nm (s2 σ 29 0 (3 : Int32)) fun σ1 =>
  nm (s2 σ1 29 1 (10 : Int32)) fun σ2 =>
  nm (r2 ρ 29 3 (some 30)) fun ρ4 =>
  nm (r2 ρ4 29 4 (some 31)) fun ρ6 =>
  nm (r2 ρ6 29 5 (some 32)) fun ρ8 =>
  nm (r2 ρ8 29 6 (some 33)) fun ρ10 =>
  some (σ2, ρ10)
set_option maxHeartbeats 4000000 in
set_option maxRecDepth 100000 in
theorem k_X0_init_29  {σ σ1 : SG} {ρ ρ1 : RG} (hR : RC 30 ρ) (hB : BL 30 σ ρ) (hF : F_X0_init_29 σ ρ = some (σ1, ρ1)) : RC 34 ρ1 ∧ BL 34 σ1 ρ1 ∧ (∀ r, r < 29 → ρ1 r = ρ r) ∧ ∀ q ∈ ([(29, 3, 30), (29, 4, 31), (29, 5, 32), (29, 6, 33)] : List (Nat × Nat × Nat)), ρ1 q.1 q.2.1 = some q.2.2 := by
  unfold F_X0_init_29 at hF
  have hU : ∀ r, r < 29 → ρ r = ρ r := fun _ _ => rfl
  obtain ⟨σ1, eσ1, hF⟩ := nm_1 hF
  have hB : BL 30 σ1 ρ := by rw [eσ1]; exact BL_s2 hB (by decide)
  obtain ⟨σ2, eσ2, hF⟩ := nm_1 hF
  have hB : BL 30 σ2 ρ := by rw [eσ2]; exact BL_s2 hB (by decide)
  have hR : RC 31 ρ := RC_grow hR (hB 30 (Nat.le_refl _)).2
  have hB : BL 31 σ2 ρ := BL_grow hB
  obtain ⟨ρ4, eρ4, hF⟩ := nm_1 hF
  have hR : RC 31 ρ4 := by rw [eρ4]; exact RC_put hR (by decide)
  have hB : BL 31 σ2 ρ4 := by rw [eρ4]; exact BL_r2 hB (by decide)
  have hU : ∀ r, r < 29 → ρ4 r = ρ r := fun r h => (congrFun eρ4 r).trans ((r2_ne r (by omega)).trans (hU r h))
  have kf_29_3 : ρ4 29 3 = some 30 := by rw [eρ4, r2_at, if_pos rfl, if_pos rfl]
  have hR : RC 32 ρ4 := RC_grow hR (hB 31 (Nat.le_refl _)).2
  have hB : BL 32 σ2 ρ4 := BL_grow hB
  obtain ⟨ρ6, eρ6, hF⟩ := nm_1 hF
  have hR : RC 32 ρ6 := by rw [eρ6]; exact RC_put hR (by decide)
  have hB : BL 32 σ2 ρ6 := by rw [eρ6]; exact BL_r2 hB (by decide)
  have hU : ∀ r, r < 29 → ρ6 r = ρ r := fun r h => (congrFun eρ6 r).trans ((r2_ne r (by omega)).trans (hU r h))
  have kf_29_3 : ρ6 29 3 = some 30 := by rw [eρ6, r2_at, if_pos rfl, if_neg (by decide)]; exact kf_29_3
  have kf_29_4 : ρ6 29 4 = some 31 := by rw [eρ6, r2_at, if_pos rfl, if_pos rfl]
  have hR : RC 33 ρ6 := RC_grow hR (hB 32 (Nat.le_refl _)).2
  have hB : BL 33 σ2 ρ6 := BL_grow hB
  obtain ⟨ρ8, eρ8, hF⟩ := nm_1 hF
  have hR : RC 33 ρ8 := by rw [eρ8]; exact RC_put hR (by decide)
  have hB : BL 33 σ2 ρ8 := by rw [eρ8]; exact BL_r2 hB (by decide)
  have hU : ∀ r, r < 29 → ρ8 r = ρ r := fun r h => (congrFun eρ8 r).trans ((r2_ne r (by omega)).trans (hU r h))
  have kf_29_3 : ρ8 29 3 = some 30 := by rw [eρ8, r2_at, if_pos rfl, if_neg (by decide)]; exact kf_29_3
  have kf_29_4 : ρ8 29 4 = some 31 := by rw [eρ8, r2_at, if_pos rfl, if_neg (by decide)]; exact kf_29_4
  have kf_29_5 : ρ8 29 5 = some 32 := by rw [eρ8, r2_at, if_pos rfl, if_pos rfl]
  have hR : RC 34 ρ8 := RC_grow hR (hB 33 (Nat.le_refl _)).2
  have hB : BL 34 σ2 ρ8 := BL_grow hB
  obtain ⟨ρ10, eρ10, hF⟩ := nm_1 hF
  have hR : RC 34 ρ10 := by rw [eρ10]; exact RC_put hR (by decide)
  have hB : BL 34 σ2 ρ10 := by rw [eρ10]; exact BL_r2 hB (by decide)
  have hU : ∀ r, r < 29 → ρ10 r = ρ r := fun r h => (congrFun eρ10 r).trans ((r2_ne r (by omega)).trans (hU r h))
  have kf_29_3 : ρ10 29 3 = some 30 := by rw [eρ10, r2_at, if_pos rfl, if_neg (by decide)]; exact kf_29_3
  have kf_29_4 : ρ10 29 4 = some 31 := by rw [eρ10, r2_at, if_pos rfl, if_neg (by decide)]; exact kf_29_4
  have kf_29_5 : ρ10 29 5 = some 32 := by rw [eρ10, r2_at, if_pos rfl, if_neg (by decide)]; exact kf_29_5
  have kf_29_6 : ρ10 29 6 = some 33 := by rw [eρ10, r2_at, if_pos rfl, if_pos rfl]
  obtain ⟨rfl, rfl⟩ := ret_2 hF
  refine ⟨hR, hB, hU, fun q hq => ?_⟩
  simp only [List.mem_cons, List.not_mem_nil, or_false] at hq
  rcases hq with rfl | rfl | rfl | rfl
  · exact kf_29_3
  · exact kf_29_4
  · exact kf_29_5
  · exact kf_29_6
set_option maxHeartbeats 8000000 in
set_option maxRecDepth 100000 in
theorem c_X0_init_29  {σ σ1 : SG} {ρ ρ1 : RG} (hKL : LK K len) (hR : RC 30 ρ) (hB : BL 30 σ ρ) (hF : F_X0_init_29 σ ρ = some (σ1, ρ1)) : MC l Y D 30 ad K len yX0_init (Cond.code yX0_init cX0_init 1 none :: wsL_law) rm_X0_init_29 [.ref (ad 29)] σ ρ (fun _ => none) 34 K len σ1 ρ1 4 130 := by
  refine mc_of (cc := cX0_init) (nL := 1) (ret := none) (by decide) (Nat.le_of_ble_eq_true rfl) ?_
  intro p e s m args below meth c ls C hnm hP hS hl
  have hx := C.1.1
  have hb := C.1.2.1
  have hl : lv_has ls 1 [(0, .ref (ad 29))] := hl
  have hEE : ∀ r, r < 30 → ad r = ad r := fun _ _ => rfl
  have hAA : AA 30 ad s.heap.size = AA 30 ad s.heap.size := rfl
  have hU : ∀ r, r < 29 → ρ r = ρ r := fun _ _ => rfl
  unfold F_X0_init_29 at hF
  refine lv_aload_n hx hb dX0_init_0 rfl (lv_at hl 0 rfl) ?_
  refine x_obj C hl.1 mw_55 mw_10 mw_11 dX0_init_1 (Nat.le_of_ble_eq_true rfl) (Nat.le_of_ble_eq_true rfl) ?_
  refine lv_aload_n hx hb dX0_init_4 rfl (lv_at hl 0 rfl) ?_
  refine lv_iconst (v := 3) hx hb dX0_init_5 (by decide) ?_
  obtain ⟨σ1, eσ1, hF⟩ := nm_1 hF
  refine put_0_0 C hP hS (by decide) (kk_29 hKL) inlX0 mw_56 eσ1 dX0_init_6 (fun H locs hP hS => ?_)
  have hB : BL 30 σ1 ρ := by rw [eσ1]; exact BL_s2 hB (by decide)
  refine lv_aload_n hx hb dX0_init_9 rfl (lv_at hl 0 rfl) ?_
  refine lv_bipush (v := 10) hx hb dX0_init_10 (by decide +kernel) ?_
  obtain ⟨σ2, eσ2, hF⟩ := nm_1 hF
  refine put_0_1 C hP hS (by decide) (kk_29 hKL) inlX0 mw_57 eσ2 dX0_init_12 (fun H locs hP hS => ?_)
  have hB : BL 30 σ2 ρ := by rw [eσ2]; exact BL_s2 hB (by decide)
  refine lv_aload_n hx hb dX0_init_15 rfl (lv_at hl 0 rfl) ?_
  refine lv_bipush (v := 10) hx hb dX0_init_16 (by decide +kernel) ?_
  refine x_newa (atype := .boolean) (ty := .boolean) (t := 15) (y := 2) rfl (fun _ h => by cases h) rfl rfl (fun _ _ _ _ => rfl) C hP hS hR (kk_30 hKL) (kn_30 hKL) (hB 30 (Nat.le_refl _)) mw_58 (by decide) cl_10 (Nat.le_of_ble_eq_true rfl) (Nat.le_of_ble_eq_true rfl) (Nat.le_of_ble_eq_true rfl) dX0_init_18 (fun ad3 H hE hA C hP hS => ?_)
  rw [← hE 29 (by decide)]
  rw [← hE 29 (by decide)] at hl
  have hEE : ∀ r, r < 30 → ad3 r = ad r := fun r h => (hE r (by omega)).trans (hEE r h)
  have hAA := hA.trans hAA
  have C : Cx Y D 31 ad3 p s m args meth c cX0_init 1 none RX0 wsL_law := C
  have hP : WP Y D 31 ad3 K len σ2 ρ _ := hP
  have hS : va_S (AA 31 ad3 s.heap.size) s.heap _ _ := hS
  have hR : RC 31 ρ := RC_grow hR (hB 30 (Nat.le_refl _)).2
  have hB : BL 31 σ2 ρ := BL_grow hB
  obtain ⟨ρ4, eρ4, hF⟩ := nm_1 hF
  refine put_0_3 C hP hS (by decide) (kk_29 hKL) inlX0 mw_59 ⟨hnm, rfl⟩ eρ4 dX0_init_20 (fun H locs hP hS => ?_)
  have hR : RC 31 ρ4 := by rw [eρ4]; exact RC_put hR (by decide)
  have hB : BL 31 σ2 ρ4 := by rw [eρ4]; exact BL_r2 hB (by decide)
  have hU : ∀ r, r < 29 → ρ4 r = ρ r := fun r h => (congrFun eρ4 r).trans ((r2_ne r (by omega)).trans (hU r h))
  have kf_29_3 : ρ4 29 3 = some 30 := by rw [eρ4, r2_at, if_pos rfl, if_pos rfl]
  refine lv_aload_n hx hb dX0_init_23 rfl (lv_at hl 0 rfl) ?_
  refine lv_bipush (v := 10) hx hb dX0_init_24 (by decide +kernel) ?_
  refine x_newa (atype := .int) (ty := .int) (t := 14) (y := 1) rfl (fun _ h => by cases h) rfl rfl (fun _ _ _ _ => rfl) C hP hS hR (kk_31 hKL) (kn_31 hKL) (hB 31 (Nat.le_refl _)) mw_27 (by decide) cl_10 (Nat.le_of_ble_eq_true rfl) (Nat.le_of_ble_eq_true rfl) (Nat.le_of_ble_eq_true rfl) dX0_init_26 (fun ad5 H hE hA C hP hS => ?_)
  rw [← hE 29 (by decide)]
  rw [← hE 29 (by decide)] at hl
  have hEE : ∀ r, r < 30 → ad5 r = ad r := fun r h => (hE r (by omega)).trans (hEE r h)
  have hAA := hA.trans hAA
  have C : Cx Y D 32 ad5 p s m args meth c cX0_init 1 none RX0 wsL_law := C
  have hP : WP Y D 32 ad5 K len σ2 ρ4 _ := hP
  have hS : va_S (AA 32 ad5 s.heap.size) s.heap _ _ := hS
  have hR : RC 32 ρ4 := RC_grow hR (hB 31 (Nat.le_refl _)).2
  have hB : BL 32 σ2 ρ4 := BL_grow hB
  obtain ⟨ρ6, eρ6, hF⟩ := nm_1 hF
  refine put_0_4 C hP hS (by decide) (kk_29 hKL) inlX0 mw_60 ⟨hnm, rfl⟩ eρ6 dX0_init_28 (fun H locs hP hS => ?_)
  have hR : RC 32 ρ6 := by rw [eρ6]; exact RC_put hR (by decide)
  have hB : BL 32 σ2 ρ6 := by rw [eρ6]; exact BL_r2 hB (by decide)
  have hU : ∀ r, r < 29 → ρ6 r = ρ r := fun r h => (congrFun eρ6 r).trans ((r2_ne r (by omega)).trans (hU r h))
  have kf_29_3 : ρ6 29 3 = some 30 := by rw [eρ6, r2_at, if_pos rfl, if_neg (by decide)]; exact kf_29_3
  have kf_29_4 : ρ6 29 4 = some 31 := by rw [eρ6, r2_at, if_pos rfl, if_pos rfl]
  refine lv_aload_n hx hb dX0_init_31 rfl (lv_at hl 0 rfl) ?_
  refine lv_bipush (v := 10) hx hb dX0_init_32 (by decide +kernel) ?_
  refine x_newa (atype := .int) (ty := .int) (t := 14) (y := 1) rfl (fun _ h => by cases h) rfl rfl (fun _ _ _ _ => rfl) C hP hS hR (kk_32 hKL) (kn_32 hKL) (hB 32 (Nat.le_refl _)) mw_27 (by decide) cl_10 (Nat.le_of_ble_eq_true rfl) (Nat.le_of_ble_eq_true rfl) (Nat.le_of_ble_eq_true rfl) dX0_init_34 (fun ad7 H hE hA C hP hS => ?_)
  rw [← hE 29 (by decide)]
  rw [← hE 29 (by decide)] at hl
  have hEE : ∀ r, r < 30 → ad7 r = ad r := fun r h => (hE r (by omega)).trans (hEE r h)
  have hAA := hA.trans hAA
  have C : Cx Y D 33 ad7 p s m args meth c cX0_init 1 none RX0 wsL_law := C
  have hP : WP Y D 33 ad7 K len σ2 ρ6 _ := hP
  have hS : va_S (AA 33 ad7 s.heap.size) s.heap _ _ := hS
  have hR : RC 33 ρ6 := RC_grow hR (hB 32 (Nat.le_refl _)).2
  have hB : BL 33 σ2 ρ6 := BL_grow hB
  obtain ⟨ρ8, eρ8, hF⟩ := nm_1 hF
  refine put_0_5 C hP hS (by decide) (kk_29 hKL) inlX0 mw_61 ⟨hnm, rfl⟩ eρ8 dX0_init_36 (fun H locs hP hS => ?_)
  have hR : RC 33 ρ8 := by rw [eρ8]; exact RC_put hR (by decide)
  have hB : BL 33 σ2 ρ8 := by rw [eρ8]; exact BL_r2 hB (by decide)
  have hU : ∀ r, r < 29 → ρ8 r = ρ r := fun r h => (congrFun eρ8 r).trans ((r2_ne r (by omega)).trans (hU r h))
  have kf_29_3 : ρ8 29 3 = some 30 := by rw [eρ8, r2_at, if_pos rfl, if_neg (by decide)]; exact kf_29_3
  have kf_29_4 : ρ8 29 4 = some 31 := by rw [eρ8, r2_at, if_pos rfl, if_neg (by decide)]; exact kf_29_4
  have kf_29_5 : ρ8 29 5 = some 32 := by rw [eρ8, r2_at, if_pos rfl, if_pos rfl]
  refine lv_aload_n hx hb dX0_init_39 rfl (lv_at hl 0 rfl) ?_
  refine lv_bipush (v := 100) hx hb dX0_init_40 (by decide +kernel) ?_
  refine x_newa (atype := .int) (ty := .int) (t := 14) (y := 1) rfl (fun _ h => by cases h) rfl rfl (fun _ _ _ _ => rfl) C hP hS hR (kk_33 hKL) (kn_33 hKL) (hB 33 (Nat.le_refl _)) mw_27 (by decide) cl_100 (Nat.le_of_ble_eq_true rfl) (Nat.le_of_ble_eq_true rfl) (Nat.le_of_ble_eq_true rfl) dX0_init_42 (fun ad9 H hE hA C hP hS => ?_)
  rw [← hE 29 (by decide)]
  rw [← hE 29 (by decide)] at hl
  have hEE : ∀ r, r < 30 → ad9 r = ad r := fun r h => (hE r (by omega)).trans (hEE r h)
  have hAA := hA.trans hAA
  have C : Cx Y D 34 ad9 p s m args meth c cX0_init 1 none RX0 wsL_law := C
  have hP : WP Y D 34 ad9 K len σ2 ρ8 _ := hP
  have hS : va_S (AA 34 ad9 s.heap.size) s.heap _ _ := hS
  have hR : RC 34 ρ8 := RC_grow hR (hB 33 (Nat.le_refl _)).2
  have hB : BL 34 σ2 ρ8 := BL_grow hB
  obtain ⟨ρ10, eρ10, hF⟩ := nm_1 hF
  refine put_0_6 C hP hS (by decide) (kk_29 hKL) inlX0 mw_62 ⟨hnm, rfl⟩ eρ10 dX0_init_44 (fun H locs hP hS => ?_)
  have hR : RC 34 ρ10 := by rw [eρ10]; exact RC_put hR (by decide)
  have hB : BL 34 σ2 ρ10 := by rw [eρ10]; exact BL_r2 hB (by decide)
  have hU : ∀ r, r < 29 → ρ10 r = ρ r := fun r h => (congrFun eρ10 r).trans ((r2_ne r (by omega)).trans (hU r h))
  have kf_29_3 : ρ10 29 3 = some 30 := by rw [eρ10, r2_at, if_pos rfl, if_neg (by decide)]; exact kf_29_3
  have kf_29_4 : ρ10 29 4 = some 31 := by rw [eρ10, r2_at, if_pos rfl, if_neg (by decide)]; exact kf_29_4
  have kf_29_5 : ρ10 29 5 = some 32 := by rw [eρ10, r2_at, if_pos rfl, if_neg (by decide)]; exact kf_29_5
  have kf_29_6 : ρ10 29 6 = some 33 := by rw [eρ10, r2_at, if_pos rfl, if_pos rfl]
  obtain ⟨rfl, rfl⟩ := ret_2 hF
  exact x_cret rfl hEE hAA C hP hS dX0_init_47

/-! CutCrooked$Table.CutCrooked$Table(); 1 -/
theorem dX8_init_0 : decode cX8_init 0 = .ok (.aload_n 0, 1) := by decide +kernel
theorem dX8_init_1 : decode cX8_init 1 = .ok (.invokespecial 3, 3) := by decide +kernel
theorem dX8_init_4 : decode cX8_init 4 = .ok (.aload_n 0, 1) := by decide +kernel
theorem dX8_init_5 : decode cX8_init 5 = .ok (.bipush 6, 2) := by decide +kernel
theorem dX8_init_7 : decode cX8_init 7 = .ok (.anewarray 9, 3) := by decide +kernel
theorem dX8_init_10 : decode cX8_init 10 = .ok (.putfield 11, 3) := by decide +kernel
theorem dX8_init_13 : decode cX8_init 13 = .ok (.aload_n 0, 1) := by decide +kernel
theorem dX8_init_14 : decode cX8_init 14 = .ok (.new 17, 3) := by decide +kernel
theorem dX8_init_17 : decode cX8_init 17 = .ok (.dup, 1) := by decide +kernel
theorem dX8_init_18 : decode cX8_init 18 = .ok (.invokespecial 19, 3) := by decide +kernel
theorem dX8_init_21 : decode cX8_init 21 = .ok (.putfield 20, 3) := by decide +kernel
theorem dX8_init_24 : decode cX8_init 24 = .ok (.aload_n 0, 1) := by decide +kernel
theorem dX8_init_25 : decode cX8_init 25 = .ok (.new 24, 3) := by decide +kernel
theorem dX8_init_28 : decode cX8_init 28 = .ok (.dup, 1) := by decide +kernel
theorem dX8_init_29 : decode cX8_init 29 = .ok (.invokespecial 26, 3) := by decide +kernel
theorem dX8_init_32 : decode cX8_init 32 = .ok (.putfield 27, 3) := by decide +kernel
theorem dX8_init_35 : decode cX8_init 35 = .ok (.aload_n 0, 1) := by decide +kernel
theorem dX8_init_36 : decode cX8_init 36 = .ok (.bipush 100, 2) := by decide +kernel
theorem dX8_init_38 : decode cX8_init 38 = .ok (.newarray .byte, 2) := by decide +kernel
theorem dX8_init_40 : decode cX8_init 40 = .ok (.putfield 31, 3) := by decide +kernel
theorem dX8_init_43 : decode cX8_init 43 = .ok (.aload_n 0, 1) := by decide +kernel
theorem dX8_init_44 : decode cX8_init 44 = .ok (.iconst 4, 1) := by decide +kernel
theorem dX8_init_45 : decode cX8_init 45 = .ok (.newarray .int, 2) := by decide +kernel
theorem dX8_init_47 : decode cX8_init 47 = .ok (.putfield 35, 3) := by decide +kernel
theorem dX8_init_50 : decode cX8_init 50 = .ok (.aload_n 0, 1) := by decide +kernel
theorem dX8_init_51 : decode cX8_init 51 = .ok (.bipush 8, 2) := by decide +kernel
theorem dX8_init_53 : decode cX8_init 53 = .ok (.newarray .int, 2) := by decide +kernel
theorem dX8_init_55 : decode cX8_init 55 = .ok (.putfield 39, 3) := by decide +kernel
theorem dX8_init_58 : decode cX8_init 58 = .ok (.aload_n 0, 1) := by decide +kernel
theorem dX8_init_59 : decode cX8_init 59 = .ok (.bipush 8, 2) := by decide +kernel
theorem dX8_init_61 : decode cX8_init 61 = .ok (.newarray .int, 2) := by decide +kernel
theorem dX8_init_63 : decode cX8_init 63 = .ok (.putfield 42, 3) := by decide +kernel
theorem dX8_init_66 : decode cX8_init 66 = .ok (.aload_n 0, 1) := by decide +kernel
theorem dX8_init_67 : decode cX8_init 67 = .ok (.getfield 20, 3) := by decide +kernel
theorem dX8_init_70 : decode cX8_init 70 = .ok (.sipush 300, 3) := by decide +kernel
theorem dX8_init_73 : decode cX8_init 73 = .ok (.invokevirtual 45, 3) := by decide +kernel
theorem dX8_init_76 : decode cX8_init 76 = .ok (.return_, 1) := by decide +kernel
theorem hd_X8_init : yX8_init.cls = RX8 ∧ yX8_init.cls ≠ "java/lang/invoke/MethodHandle" ∧ yX8_init.cls ≠ "java/lang/invoke/VarHandle" ∧ (parseMethodDescriptor yX8_init.desc).map (fun d => d.parameters.length) = some 0 := by decide +kernel
abbrev rm_X8_init_1 : Room := { frames := 2, cells := 12, slots := 284, locals := 40 }
def F_X8_init_1  (σ : SG) (ρ : RG) : Option (SG × RG) :=
  nm (r2 ρ 1 0 (some 2)) fun ρ2 =>
  bn2 (F_X3_init_3 σ ρ2) fun σ4 ρ4 =>
  nm (r2 ρ4 1 2 (some 3)) fun ρ5 =>
  bn2 (F_X0_init_5 σ4 ρ5) fun σ7 ρ7 =>
  nm (r2 ρ7 1 3 (some 5)) fun ρ8 =>
  nm (r2 ρ8 1 5 (some 10)) fun ρ10 =>
  nm (r2 ρ10 1 9 (some 11)) fun ρ12 =>
  nm (r2 ρ12 1 11 (some 12)) fun ρ14 =>
  nm (r2 ρ14 1 12 (some 13)) fun ρ16 =>
  bn (F_X3_startsAnew 3 (300 : Int32) σ7 ρ16) fun σ17 =>
  some (σ17, ρ16)
set_option maxHeartbeats 4000000 in
set_option maxRecDepth 100000 in
theorem k_X8_init_1  {σ σ1 : SG} {ρ ρ1 : RG} (hR : RC 2 ρ) (hB : BL 2 σ ρ) (hF : F_X8_init_1 σ ρ = some (σ1, ρ1)) : RC 14 ρ1 ∧ BL 14 σ1 ρ1 ∧ (∀ r, r < 1 → ρ1 r = ρ r) ∧ ∀ q ∈ ([(1, 0, 2), (1, 2, 3), (1, 3, 5), (1, 5, 10), (1, 9, 11), (1, 11, 12), (1, 12, 13)] : List (Nat × Nat × Nat)), ρ1 q.1 q.2.1 = some q.2.2 := by
  unfold F_X8_init_1 at hF
  have hU : ∀ r, r < 1 → ρ r = ρ r := fun _ _ => rfl
  have hR : RC 3 ρ := RC_grow hR (hB 2 (Nat.le_refl _)).2
  have hB : BL 3 σ ρ := BL_grow hB
  obtain ⟨ρ2, eρ2, hF⟩ := nm_1 hF
  have hR : RC 3 ρ2 := by rw [eρ2]; exact RC_put hR (by decide)
  have hB : BL 3 σ ρ2 := by rw [eρ2]; exact BL_r2 hB (by decide)
  have hU : ∀ r, r < 1 → ρ2 r = ρ r := fun r h => (congrFun eρ2 r).trans ((r2_ne r (by omega)).trans (hU r h))
  have kf_1_0 : ρ2 1 0 = some 2 := by rw [eρ2, r2_at, if_pos rfl, if_pos rfl]
  have hR : RC 4 ρ2 := RC_grow hR (hB 3 (Nat.le_refl _)).2
  have hB : BL 4 σ ρ2 := BL_grow hB
  obtain ⟨σ4, ρ4, hq4, hF⟩ := bn2_1 hF
  obtain ⟨hR, hB, hU4, hkn⟩ := k_X3_init_3 hR hB hq4
  have hU : ∀ r, r < 1 → ρ4 r = ρ r := fun r h => (hU4 r (by omega)).trans (hU r h)
  have kf_1_0 : ρ4 1 0 = some 2 := by rw [hU4 1 (by decide)]; exact kf_1_0
  have kf_3_9 : ρ4 3 9 = some 4 := hkn (3, 9, 4) (by decide)
  obtain ⟨ρ5, eρ5, hF⟩ := nm_1 hF
  have hR : RC 5 ρ5 := by rw [eρ5]; exact RC_put hR (by decide)
  have hB : BL 5 σ4 ρ5 := by rw [eρ5]; exact BL_r2 hB (by decide)
  have hU : ∀ r, r < 1 → ρ5 r = ρ r := fun r h => (congrFun eρ5 r).trans ((r2_ne r (by omega)).trans (hU r h))
  have kf_1_0 : ρ5 1 0 = some 2 := by rw [eρ5, r2_at, if_pos rfl, if_neg (by decide)]; exact kf_1_0
  have kf_3_9 : ρ5 3 9 = some 4 := by rw [eρ5, r2_at, if_neg (by decide)]; exact kf_3_9
  have kf_1_2 : ρ5 1 2 = some 3 := by rw [eρ5, r2_at, if_pos rfl, if_pos rfl]
  have hR : RC 6 ρ5 := RC_grow hR (hB 5 (Nat.le_refl _)).2
  have hB : BL 6 σ4 ρ5 := BL_grow hB
  obtain ⟨σ7, ρ7, hq7, hF⟩ := bn2_1 hF
  obtain ⟨hR, hB, hU7, hkn⟩ := k_X0_init_5 hR hB hq7
  have hU : ∀ r, r < 1 → ρ7 r = ρ r := fun r h => (hU7 r (by omega)).trans (hU r h)
  have kf_1_0 : ρ7 1 0 = some 2 := by rw [hU7 1 (by decide)]; exact kf_1_0
  have kf_3_9 : ρ7 3 9 = some 4 := by rw [hU7 3 (by decide)]; exact kf_3_9
  have kf_1_2 : ρ7 1 2 = some 3 := by rw [hU7 1 (by decide)]; exact kf_1_2
  have kf_5_3 : ρ7 5 3 = some 6 := hkn (5, 3, 6) (by decide)
  have kf_5_4 : ρ7 5 4 = some 7 := hkn (5, 4, 7) (by decide)
  have kf_5_5 : ρ7 5 5 = some 8 := hkn (5, 5, 8) (by decide)
  have kf_5_6 : ρ7 5 6 = some 9 := hkn (5, 6, 9) (by decide)
  obtain ⟨ρ8, eρ8, hF⟩ := nm_1 hF
  have hR : RC 10 ρ8 := by rw [eρ8]; exact RC_put hR (by decide)
  have hB : BL 10 σ7 ρ8 := by rw [eρ8]; exact BL_r2 hB (by decide)
  have hU : ∀ r, r < 1 → ρ8 r = ρ r := fun r h => (congrFun eρ8 r).trans ((r2_ne r (by omega)).trans (hU r h))
  have kf_1_0 : ρ8 1 0 = some 2 := by rw [eρ8, r2_at, if_pos rfl, if_neg (by decide)]; exact kf_1_0
  have kf_3_9 : ρ8 3 9 = some 4 := by rw [eρ8, r2_at, if_neg (by decide)]; exact kf_3_9
  have kf_1_2 : ρ8 1 2 = some 3 := by rw [eρ8, r2_at, if_pos rfl, if_neg (by decide)]; exact kf_1_2
  have kf_5_3 : ρ8 5 3 = some 6 := by rw [eρ8, r2_at, if_neg (by decide)]; exact kf_5_3
  have kf_5_4 : ρ8 5 4 = some 7 := by rw [eρ8, r2_at, if_neg (by decide)]; exact kf_5_4
  have kf_5_5 : ρ8 5 5 = some 8 := by rw [eρ8, r2_at, if_neg (by decide)]; exact kf_5_5
  have kf_5_6 : ρ8 5 6 = some 9 := by rw [eρ8, r2_at, if_neg (by decide)]; exact kf_5_6
  have kf_1_3 : ρ8 1 3 = some 5 := by rw [eρ8, r2_at, if_pos rfl, if_pos rfl]
  have hR : RC 11 ρ8 := RC_grow hR (hB 10 (Nat.le_refl _)).2
  have hB : BL 11 σ7 ρ8 := BL_grow hB
  obtain ⟨ρ10, eρ10, hF⟩ := nm_1 hF
  have hR : RC 11 ρ10 := by rw [eρ10]; exact RC_put hR (by decide)
  have hB : BL 11 σ7 ρ10 := by rw [eρ10]; exact BL_r2 hB (by decide)
  have hU : ∀ r, r < 1 → ρ10 r = ρ r := fun r h => (congrFun eρ10 r).trans ((r2_ne r (by omega)).trans (hU r h))
  have kf_1_0 : ρ10 1 0 = some 2 := by rw [eρ10, r2_at, if_pos rfl, if_neg (by decide)]; exact kf_1_0
  have kf_3_9 : ρ10 3 9 = some 4 := by rw [eρ10, r2_at, if_neg (by decide)]; exact kf_3_9
  have kf_1_2 : ρ10 1 2 = some 3 := by rw [eρ10, r2_at, if_pos rfl, if_neg (by decide)]; exact kf_1_2
  have kf_5_3 : ρ10 5 3 = some 6 := by rw [eρ10, r2_at, if_neg (by decide)]; exact kf_5_3
  have kf_5_4 : ρ10 5 4 = some 7 := by rw [eρ10, r2_at, if_neg (by decide)]; exact kf_5_4
  have kf_5_5 : ρ10 5 5 = some 8 := by rw [eρ10, r2_at, if_neg (by decide)]; exact kf_5_5
  have kf_5_6 : ρ10 5 6 = some 9 := by rw [eρ10, r2_at, if_neg (by decide)]; exact kf_5_6
  have kf_1_3 : ρ10 1 3 = some 5 := by rw [eρ10, r2_at, if_pos rfl, if_neg (by decide)]; exact kf_1_3
  have kf_1_5 : ρ10 1 5 = some 10 := by rw [eρ10, r2_at, if_pos rfl, if_pos rfl]
  have hR : RC 12 ρ10 := RC_grow hR (hB 11 (Nat.le_refl _)).2
  have hB : BL 12 σ7 ρ10 := BL_grow hB
  obtain ⟨ρ12, eρ12, hF⟩ := nm_1 hF
  have hR : RC 12 ρ12 := by rw [eρ12]; exact RC_put hR (by decide)
  have hB : BL 12 σ7 ρ12 := by rw [eρ12]; exact BL_r2 hB (by decide)
  have hU : ∀ r, r < 1 → ρ12 r = ρ r := fun r h => (congrFun eρ12 r).trans ((r2_ne r (by omega)).trans (hU r h))
  have kf_1_0 : ρ12 1 0 = some 2 := by rw [eρ12, r2_at, if_pos rfl, if_neg (by decide)]; exact kf_1_0
  have kf_3_9 : ρ12 3 9 = some 4 := by rw [eρ12, r2_at, if_neg (by decide)]; exact kf_3_9
  have kf_1_2 : ρ12 1 2 = some 3 := by rw [eρ12, r2_at, if_pos rfl, if_neg (by decide)]; exact kf_1_2
  have kf_5_3 : ρ12 5 3 = some 6 := by rw [eρ12, r2_at, if_neg (by decide)]; exact kf_5_3
  have kf_5_4 : ρ12 5 4 = some 7 := by rw [eρ12, r2_at, if_neg (by decide)]; exact kf_5_4
  have kf_5_5 : ρ12 5 5 = some 8 := by rw [eρ12, r2_at, if_neg (by decide)]; exact kf_5_5
  have kf_5_6 : ρ12 5 6 = some 9 := by rw [eρ12, r2_at, if_neg (by decide)]; exact kf_5_6
  have kf_1_3 : ρ12 1 3 = some 5 := by rw [eρ12, r2_at, if_pos rfl, if_neg (by decide)]; exact kf_1_3
  have kf_1_5 : ρ12 1 5 = some 10 := by rw [eρ12, r2_at, if_pos rfl, if_neg (by decide)]; exact kf_1_5
  have kf_1_9 : ρ12 1 9 = some 11 := by rw [eρ12, r2_at, if_pos rfl, if_pos rfl]
  have hR : RC 13 ρ12 := RC_grow hR (hB 12 (Nat.le_refl _)).2
  have hB : BL 13 σ7 ρ12 := BL_grow hB
  obtain ⟨ρ14, eρ14, hF⟩ := nm_1 hF
  have hR : RC 13 ρ14 := by rw [eρ14]; exact RC_put hR (by decide)
  have hB : BL 13 σ7 ρ14 := by rw [eρ14]; exact BL_r2 hB (by decide)
  have hU : ∀ r, r < 1 → ρ14 r = ρ r := fun r h => (congrFun eρ14 r).trans ((r2_ne r (by omega)).trans (hU r h))
  have kf_1_0 : ρ14 1 0 = some 2 := by rw [eρ14, r2_at, if_pos rfl, if_neg (by decide)]; exact kf_1_0
  have kf_3_9 : ρ14 3 9 = some 4 := by rw [eρ14, r2_at, if_neg (by decide)]; exact kf_3_9
  have kf_1_2 : ρ14 1 2 = some 3 := by rw [eρ14, r2_at, if_pos rfl, if_neg (by decide)]; exact kf_1_2
  have kf_5_3 : ρ14 5 3 = some 6 := by rw [eρ14, r2_at, if_neg (by decide)]; exact kf_5_3
  have kf_5_4 : ρ14 5 4 = some 7 := by rw [eρ14, r2_at, if_neg (by decide)]; exact kf_5_4
  have kf_5_5 : ρ14 5 5 = some 8 := by rw [eρ14, r2_at, if_neg (by decide)]; exact kf_5_5
  have kf_5_6 : ρ14 5 6 = some 9 := by rw [eρ14, r2_at, if_neg (by decide)]; exact kf_5_6
  have kf_1_3 : ρ14 1 3 = some 5 := by rw [eρ14, r2_at, if_pos rfl, if_neg (by decide)]; exact kf_1_3
  have kf_1_5 : ρ14 1 5 = some 10 := by rw [eρ14, r2_at, if_pos rfl, if_neg (by decide)]; exact kf_1_5
  have kf_1_9 : ρ14 1 9 = some 11 := by rw [eρ14, r2_at, if_pos rfl, if_neg (by decide)]; exact kf_1_9
  have kf_1_11 : ρ14 1 11 = some 12 := by rw [eρ14, r2_at, if_pos rfl, if_pos rfl]
  have hR : RC 14 ρ14 := RC_grow hR (hB 13 (Nat.le_refl _)).2
  have hB : BL 14 σ7 ρ14 := BL_grow hB
  obtain ⟨ρ16, eρ16, hF⟩ := nm_1 hF
  have hR : RC 14 ρ16 := by rw [eρ16]; exact RC_put hR (by decide)
  have hB : BL 14 σ7 ρ16 := by rw [eρ16]; exact BL_r2 hB (by decide)
  have hU : ∀ r, r < 1 → ρ16 r = ρ r := fun r h => (congrFun eρ16 r).trans ((r2_ne r (by omega)).trans (hU r h))
  have kf_1_0 : ρ16 1 0 = some 2 := by rw [eρ16, r2_at, if_pos rfl, if_neg (by decide)]; exact kf_1_0
  have kf_3_9 : ρ16 3 9 = some 4 := by rw [eρ16, r2_at, if_neg (by decide)]; exact kf_3_9
  have kf_1_2 : ρ16 1 2 = some 3 := by rw [eρ16, r2_at, if_pos rfl, if_neg (by decide)]; exact kf_1_2
  have kf_5_3 : ρ16 5 3 = some 6 := by rw [eρ16, r2_at, if_neg (by decide)]; exact kf_5_3
  have kf_5_4 : ρ16 5 4 = some 7 := by rw [eρ16, r2_at, if_neg (by decide)]; exact kf_5_4
  have kf_5_5 : ρ16 5 5 = some 8 := by rw [eρ16, r2_at, if_neg (by decide)]; exact kf_5_5
  have kf_5_6 : ρ16 5 6 = some 9 := by rw [eρ16, r2_at, if_neg (by decide)]; exact kf_5_6
  have kf_1_3 : ρ16 1 3 = some 5 := by rw [eρ16, r2_at, if_pos rfl, if_neg (by decide)]; exact kf_1_3
  have kf_1_5 : ρ16 1 5 = some 10 := by rw [eρ16, r2_at, if_pos rfl, if_neg (by decide)]; exact kf_1_5
  have kf_1_9 : ρ16 1 9 = some 11 := by rw [eρ16, r2_at, if_pos rfl, if_neg (by decide)]; exact kf_1_9
  have kf_1_11 : ρ16 1 11 = some 12 := by rw [eρ16, r2_at, if_pos rfl, if_neg (by decide)]; exact kf_1_11
  have kf_1_12 : ρ16 1 12 = some 13 := by rw [eρ16, r2_at, if_pos rfl, if_pos rfl]
  obtain ⟨σ17, hq17, hF⟩ := bn_1 hF
  have hB : BL 14 σ17 ρ16 := starts_BL hB (by decide) hq17
  obtain ⟨rfl, rfl⟩ := ret_2 hF
  refine ⟨hR, hB, hU, fun q hq => ?_⟩
  simp only [List.mem_cons, List.not_mem_nil, or_false] at hq
  rcases hq with rfl | rfl | rfl | rfl | rfl | rfl | rfl
  · exact kf_1_0
  · exact kf_1_2
  · exact kf_1_3
  · exact kf_1_5
  · exact kf_1_9
  · exact kf_1_11
  · exact kf_1_12
set_option maxHeartbeats 8000000 in
set_option maxRecDepth 100000 in
theorem c_X8_init_1  {σ σ1 : SG} {ρ ρ1 : RG} (hKL : LK K len) (hR : RC 2 ρ) (hB : BL 2 σ ρ) (hF : F_X8_init_1 σ ρ = some (σ1, ρ1)) : MC l Y D 2 ad K len yX8_init (Cond.code yX8_init cX8_init 1 none :: wsL_law) rm_X8_init_1 [.ref (ad 1)] σ ρ (fun _ => none) 14 K len σ1 ρ1 12 284 := by
  refine mc_of (cc := cX8_init) (nL := 1) (ret := none) (by decide) (Nat.le_of_ble_eq_true rfl) ?_
  intro p e s m args below meth c ls C hnm hP hS hl
  have hx := C.1.1
  have hb := C.1.2.1
  have hl : lv_has ls 1 [(0, .ref (ad 1))] := hl
  have hEE : ∀ r, r < 2 → ad r = ad r := fun _ _ => rfl
  have hAA : AA 2 ad s.heap.size = AA 2 ad s.heap.size := rfl
  have hU : ∀ r, r < 1 → ρ r = ρ r := fun _ _ => rfl
  unfold F_X8_init_1 at hF
  refine lv_aload_n hx hb dX8_init_0 rfl (lv_at hl 0 rfl) ?_
  refine x_obj C hl.1 mw_37 mw_10 mw_11 dX8_init_1 (Nat.le_of_ble_eq_true rfl) (Nat.le_of_ble_eq_true rfl) ?_
  refine lv_aload_n hx hb dX8_init_4 rfl (lv_at hl 0 rfl) ?_
  refine lv_bipush (v := 6) hx hb dX8_init_5 (by decide +kernel) ?_
  refine x_newq (t := 16) (y := 3) (Cn := "CutCrooked$Cutter") rfl (fun _ _ _ _ => rfl) C C.2.2.2.2.2.1.2.2.2.1 hP hS hR (kk_2 hKL) (kn_2 hKL) (hB 2 (Nat.le_refl _)) mw_38 (by decide) cl_6 (Nat.le_of_ble_eq_true rfl) (Nat.le_of_ble_eq_true rfl) (Nat.le_of_ble_eq_true rfl) dX8_init_7 (fun ad1 H hE hA C hP hS => ?_)
  rw [← hE 1 (by decide)]
  rw [← hE 1 (by decide)] at hl
  have hEE : ∀ r, r < 2 → ad1 r = ad r := fun r h => (hE r (by omega)).trans (hEE r h)
  have hAA := hA.trans hAA
  have C : Cx Y D 3 ad1 p s m args meth c cX8_init 1 none RX8 wsL_law := C
  have hP : WP Y D 3 ad1 K len σ ρ _ := hP
  have hS : va_S (AA 3 ad1 s.heap.size) s.heap _ _ := hS
  have hR : RC 3 ρ := RC_grow hR (hB 2 (Nat.le_refl _)).2
  have hB : BL 3 σ ρ := BL_grow hB
  obtain ⟨ρ2, eρ2, hF⟩ := nm_1 hF
  refine put_8_0 C hP hS (by decide) (kk_1 hKL) inlX8 mw_39 ⟨hnm, rfl⟩ eρ2 dX8_init_10 (fun H locs hP hS => ?_)
  have hR : RC 3 ρ2 := by rw [eρ2]; exact RC_put hR (by decide)
  have hB : BL 3 σ ρ2 := by rw [eρ2]; exact BL_r2 hB (by decide)
  have hU : ∀ r, r < 1 → ρ2 r = ρ r := fun r h => (congrFun eρ2 r).trans ((r2_ne r (by omega)).trans (hU r h))
  have kf_1_0 : ρ2 1 0 = some 2 := by rw [eρ2, r2_at, if_pos rfl, if_pos rfl]
  refine lv_aload_n hx hb dX8_init_13 rfl (lv_at hl 0 rfl) ?_
  refine x_new (ci := 3) (fs := [.int 0, .int 0, .int 0, .int 0, .int 0, .int 0, .int 0, .int 0, .int 0, .null]) tyX3_ok rfl rfl (fun _ => rfl) (fun j hj => by have : j < 10 := hj; revert j; decide) C hP hS hR (kk_3 hKL) (hB 3 (Nat.le_refl _)) inlX3 mw_40 mw_30 mw_31 (Nat.le_of_ble_eq_true rfl) (Nat.le_of_ble_eq_true rfl) dX8_init_14 (fun ad3 H hE hA C hP hS => ?_)
  rw [← hE 1 (by decide)]
  rw [← hE 1 (by decide)] at hl
  have hEE : ∀ r, r < 2 → ad3 r = ad r := fun r h => (hE r (by omega)).trans (hEE r h)
  have hAA := hA.trans hAA
  have C : Cx Y D 4 ad3 p s m args meth c cX8_init 1 none RX8 wsL_law := C
  have hP : WP Y D 4 ad3 K len σ ρ2 _ := hP
  have hS : va_S (AA 4 ad3 s.heap.size) s.heap _ _ := hS
  have hR : RC 4 ρ2 := RC_grow hR (hB 3 (Nat.le_refl _)).2
  have hB : BL 4 σ ρ2 := BL_grow hB
  refine lv_dup hx hb dX8_init_17 rfl ?_
  obtain ⟨σ4, ρ4, hq4, hF⟩ := bn2_1 hF
  refine x_callIN (ws := (Cond.code yX3_init cX3_init 1 none :: wsL_law)) C hP hS (c_X3_init_3 hKL hR hB hq4) ⟨va_cnB 0 C.1.2.2.2.2 (gdI mw_50) rfl rfl rfl (x_nest (own := "CutCrooked$Table") (idx := 19) (y := yX3_init) (host := "CutCrooked") C (by decide +kernel)) (C.1.2.2.2.2 _ mw_31) hd_X3_init.2 ⟨Nat.le_of_ble_eq_true rfl, Nat.le_of_ble_eq_true rfl⟩, rfl, (C.1.2.2.2.2 _ mw_49)⟩ rfl rfl hl.1 (Nat.le_of_ble_eq_true rfl) ⟨(Nat.le_of_ble_eq_true rfl), (Nat.le_of_ble_eq_true rfl)⟩ dX8_init_18 (fun ad4 H locs hE hA C hP hS => ?_)
  obtain ⟨hR, hB, hU4, hkn⟩ := k_X3_init_3 hR hB hq4
  rw [← hE 1 (by decide)]
  rw [← hE 3 (by decide)]
  rw [← hE 1 (by decide)] at hl
  have hEE : ∀ r, r < 2 → ad4 r = ad r := fun r h => (hE r (by omega)).trans (hEE r h)
  have hAA := hA.trans hAA
  have C : Cx Y D 5 ad4 p s m args meth c cX8_init 1 none RX8 wsL_law := C
  have hP : WP Y D 5 ad4 K len σ4 ρ4 _ := hP
  have hS : va_S (AA 5 ad4 s.heap.size) s.heap _ _ := hS
  have hU : ∀ r, r < 1 → ρ4 r = ρ r := fun r h => (hU4 r (by omega)).trans (hU r h)
  have kf_1_0 : ρ4 1 0 = some 2 := by rw [hU4 1 (by decide)]; exact kf_1_0
  have kf_3_9 : ρ4 3 9 = some 4 := hkn (3, 9, 4) (by decide)
  obtain ⟨ρ5, eρ5, hF⟩ := nm_1 hF
  refine put_8_2 C hP hS (by decide) (kk_1 hKL) inlX8 mw_41 ⟨hnm, rfl⟩ eρ5 dX8_init_21 (fun H locs hP hS => ?_)
  have hR : RC 5 ρ5 := by rw [eρ5]; exact RC_put hR (by decide)
  have hB : BL 5 σ4 ρ5 := by rw [eρ5]; exact BL_r2 hB (by decide)
  have hU : ∀ r, r < 1 → ρ5 r = ρ r := fun r h => (congrFun eρ5 r).trans ((r2_ne r (by omega)).trans (hU r h))
  have kf_1_0 : ρ5 1 0 = some 2 := by rw [eρ5, r2_at, if_pos rfl, if_neg (by decide)]; exact kf_1_0
  have kf_3_9 : ρ5 3 9 = some 4 := by rw [eρ5, r2_at, if_neg (by decide)]; exact kf_3_9
  have kf_1_2 : ρ5 1 2 = some 3 := by rw [eρ5, r2_at, if_pos rfl, if_pos rfl]
  refine lv_aload_n hx hb dX8_init_24 rfl (lv_at hl 0 rfl) ?_
  refine x_new (ci := 0) (fs := [.int 0, .int 0, .int 0, .null, .null, .null, .null, .int 0, .null, .int 0, .int 0, .int 0]) tyX0_ok rfl rfl (fun _ => rfl) (fun j hj => by have : j < 12 := hj; revert j; decide) C hP hS hR (kk_5 hKL) (hB 5 (Nat.le_refl _)) inlX0 mw_42 mw_22 mw_23 (Nat.le_of_ble_eq_true rfl) (Nat.le_of_ble_eq_true rfl) dX8_init_25 (fun ad6 H hE hA C hP hS => ?_)
  rw [← hE 1 (by decide)]
  rw [← hE 1 (by decide)] at hl
  have hEE : ∀ r, r < 2 → ad6 r = ad r := fun r h => (hE r (by omega)).trans (hEE r h)
  have hAA := hA.trans hAA
  have C : Cx Y D 6 ad6 p s m args meth c cX8_init 1 none RX8 wsL_law := C
  have hP : WP Y D 6 ad6 K len σ4 ρ5 _ := hP
  have hS : va_S (AA 6 ad6 s.heap.size) s.heap _ _ := hS
  have hR : RC 6 ρ5 := RC_grow hR (hB 5 (Nat.le_refl _)).2
  have hB : BL 6 σ4 ρ5 := BL_grow hB
  refine lv_dup hx hb dX8_init_28 rfl ?_
  obtain ⟨σ7, ρ7, hq7, hF⟩ := bn2_1 hF
  refine x_callIN (ws := (Cond.code yX0_init cX0_init 1 none :: wsL_law)) C hP hS (c_X0_init_5 hKL hR hB hq7) ⟨va_cnB 0 C.1.2.2.2.2 (gdI mw_54) rfl rfl rfl (x_nest (own := "CutCrooked$Table") (idx := 26) (y := yX0_init) (host := "CutCrooked") C (by decide +kernel)) (C.1.2.2.2.2 _ mw_23) hd_X0_init.2 ⟨Nat.le_of_ble_eq_true rfl, Nat.le_of_ble_eq_true rfl⟩, rfl, (C.1.2.2.2.2 _ mw_53)⟩ rfl rfl hl.1 (Nat.le_of_ble_eq_true rfl) ⟨(Nat.le_of_ble_eq_true rfl), (Nat.le_of_ble_eq_true rfl)⟩ dX8_init_29 (fun ad7 H locs hE hA C hP hS => ?_)
  obtain ⟨hR, hB, hU7, hkn⟩ := k_X0_init_5 hR hB hq7
  rw [← hE 1 (by decide)]
  rw [← hE 5 (by decide)]
  rw [← hE 1 (by decide)] at hl
  have hEE : ∀ r, r < 2 → ad7 r = ad r := fun r h => (hE r (by omega)).trans (hEE r h)
  have hAA := hA.trans hAA
  have C : Cx Y D 10 ad7 p s m args meth c cX8_init 1 none RX8 wsL_law := C
  have hP : WP Y D 10 ad7 K len σ7 ρ7 _ := hP
  have hS : va_S (AA 10 ad7 s.heap.size) s.heap _ _ := hS
  have hU : ∀ r, r < 1 → ρ7 r = ρ r := fun r h => (hU7 r (by omega)).trans (hU r h)
  have kf_1_0 : ρ7 1 0 = some 2 := by rw [hU7 1 (by decide)]; exact kf_1_0
  have kf_3_9 : ρ7 3 9 = some 4 := by rw [hU7 3 (by decide)]; exact kf_3_9
  have kf_1_2 : ρ7 1 2 = some 3 := by rw [hU7 1 (by decide)]; exact kf_1_2
  have kf_5_3 : ρ7 5 3 = some 6 := hkn (5, 3, 6) (by decide)
  have kf_5_4 : ρ7 5 4 = some 7 := hkn (5, 4, 7) (by decide)
  have kf_5_5 : ρ7 5 5 = some 8 := hkn (5, 5, 8) (by decide)
  have kf_5_6 : ρ7 5 6 = some 9 := hkn (5, 6, 9) (by decide)
  obtain ⟨ρ8, eρ8, hF⟩ := nm_1 hF
  refine put_8_3 C hP hS (by decide) (kk_1 hKL) inlX8 mw_43 ⟨hnm, rfl⟩ eρ8 dX8_init_32 (fun H locs hP hS => ?_)
  have hR : RC 10 ρ8 := by rw [eρ8]; exact RC_put hR (by decide)
  have hB : BL 10 σ7 ρ8 := by rw [eρ8]; exact BL_r2 hB (by decide)
  have hU : ∀ r, r < 1 → ρ8 r = ρ r := fun r h => (congrFun eρ8 r).trans ((r2_ne r (by omega)).trans (hU r h))
  have kf_1_0 : ρ8 1 0 = some 2 := by rw [eρ8, r2_at, if_pos rfl, if_neg (by decide)]; exact kf_1_0
  have kf_3_9 : ρ8 3 9 = some 4 := by rw [eρ8, r2_at, if_neg (by decide)]; exact kf_3_9
  have kf_1_2 : ρ8 1 2 = some 3 := by rw [eρ8, r2_at, if_pos rfl, if_neg (by decide)]; exact kf_1_2
  have kf_5_3 : ρ8 5 3 = some 6 := by rw [eρ8, r2_at, if_neg (by decide)]; exact kf_5_3
  have kf_5_4 : ρ8 5 4 = some 7 := by rw [eρ8, r2_at, if_neg (by decide)]; exact kf_5_4
  have kf_5_5 : ρ8 5 5 = some 8 := by rw [eρ8, r2_at, if_neg (by decide)]; exact kf_5_5
  have kf_5_6 : ρ8 5 6 = some 9 := by rw [eρ8, r2_at, if_neg (by decide)]; exact kf_5_6
  have kf_1_3 : ρ8 1 3 = some 5 := by rw [eρ8, r2_at, if_pos rfl, if_pos rfl]
  refine lv_aload_n hx hb dX8_init_35 rfl (lv_at hl 0 rfl) ?_
  refine lv_bipush (v := 100) hx hb dX8_init_36 (by decide +kernel) ?_
  refine x_newa (atype := .byte) (ty := .byte) (t := 13) (y := 0) rfl (fun _ h => by cases h) rfl rfl (fun _ _ _ _ => rfl) C hP hS hR (kk_10 hKL) (kn_10 hKL) (hB 10 (Nat.le_refl _)) mw_44 (by decide) cl_100 (Nat.le_of_ble_eq_true rfl) (Nat.le_of_ble_eq_true rfl) (Nat.le_of_ble_eq_true rfl) dX8_init_38 (fun ad9 H hE hA C hP hS => ?_)
  rw [← hE 1 (by decide)]
  rw [← hE 1 (by decide)] at hl
  have hEE : ∀ r, r < 2 → ad9 r = ad r := fun r h => (hE r (by omega)).trans (hEE r h)
  have hAA := hA.trans hAA
  have C : Cx Y D 11 ad9 p s m args meth c cX8_init 1 none RX8 wsL_law := C
  have hP : WP Y D 11 ad9 K len σ7 ρ8 _ := hP
  have hS : va_S (AA 11 ad9 s.heap.size) s.heap _ _ := hS
  have hR : RC 11 ρ8 := RC_grow hR (hB 10 (Nat.le_refl _)).2
  have hB : BL 11 σ7 ρ8 := BL_grow hB
  obtain ⟨ρ10, eρ10, hF⟩ := nm_1 hF
  refine put_8_5 C hP hS (by decide) (kk_1 hKL) inlX8 mw_45 ⟨hnm, rfl⟩ eρ10 dX8_init_40 (fun H locs hP hS => ?_)
  have hR : RC 11 ρ10 := by rw [eρ10]; exact RC_put hR (by decide)
  have hB : BL 11 σ7 ρ10 := by rw [eρ10]; exact BL_r2 hB (by decide)
  have hU : ∀ r, r < 1 → ρ10 r = ρ r := fun r h => (congrFun eρ10 r).trans ((r2_ne r (by omega)).trans (hU r h))
  have kf_1_0 : ρ10 1 0 = some 2 := by rw [eρ10, r2_at, if_pos rfl, if_neg (by decide)]; exact kf_1_0
  have kf_3_9 : ρ10 3 9 = some 4 := by rw [eρ10, r2_at, if_neg (by decide)]; exact kf_3_9
  have kf_1_2 : ρ10 1 2 = some 3 := by rw [eρ10, r2_at, if_pos rfl, if_neg (by decide)]; exact kf_1_2
  have kf_5_3 : ρ10 5 3 = some 6 := by rw [eρ10, r2_at, if_neg (by decide)]; exact kf_5_3
  have kf_5_4 : ρ10 5 4 = some 7 := by rw [eρ10, r2_at, if_neg (by decide)]; exact kf_5_4
  have kf_5_5 : ρ10 5 5 = some 8 := by rw [eρ10, r2_at, if_neg (by decide)]; exact kf_5_5
  have kf_5_6 : ρ10 5 6 = some 9 := by rw [eρ10, r2_at, if_neg (by decide)]; exact kf_5_6
  have kf_1_3 : ρ10 1 3 = some 5 := by rw [eρ10, r2_at, if_pos rfl, if_neg (by decide)]; exact kf_1_3
  have kf_1_5 : ρ10 1 5 = some 10 := by rw [eρ10, r2_at, if_pos rfl, if_pos rfl]
  refine lv_aload_n hx hb dX8_init_43 rfl (lv_at hl 0 rfl) ?_
  refine lv_iconst (v := 4) hx hb dX8_init_44 (by decide) ?_
  refine x_newa (atype := .int) (ty := .int) (t := 14) (y := 1) rfl (fun _ h => by cases h) rfl rfl (fun _ _ _ _ => rfl) C hP hS hR (kk_11 hKL) (kn_11 hKL) (hB 11 (Nat.le_refl _)) mw_27 (by decide) cl_4 (Nat.le_of_ble_eq_true rfl) (Nat.le_of_ble_eq_true rfl) (Nat.le_of_ble_eq_true rfl) dX8_init_45 (fun ad11 H hE hA C hP hS => ?_)
  rw [← hE 1 (by decide)]
  rw [← hE 1 (by decide)] at hl
  have hEE : ∀ r, r < 2 → ad11 r = ad r := fun r h => (hE r (by omega)).trans (hEE r h)
  have hAA := hA.trans hAA
  have C : Cx Y D 12 ad11 p s m args meth c cX8_init 1 none RX8 wsL_law := C
  have hP : WP Y D 12 ad11 K len σ7 ρ10 _ := hP
  have hS : va_S (AA 12 ad11 s.heap.size) s.heap _ _ := hS
  have hR : RC 12 ρ10 := RC_grow hR (hB 11 (Nat.le_refl _)).2
  have hB : BL 12 σ7 ρ10 := BL_grow hB
  obtain ⟨ρ12, eρ12, hF⟩ := nm_1 hF
  refine put_8_9 C hP hS (by decide) (kk_1 hKL) inlX8 mw_46 ⟨hnm, rfl⟩ eρ12 dX8_init_47 (fun H locs hP hS => ?_)
  have hR : RC 12 ρ12 := by rw [eρ12]; exact RC_put hR (by decide)
  have hB : BL 12 σ7 ρ12 := by rw [eρ12]; exact BL_r2 hB (by decide)
  have hU : ∀ r, r < 1 → ρ12 r = ρ r := fun r h => (congrFun eρ12 r).trans ((r2_ne r (by omega)).trans (hU r h))
  have kf_1_0 : ρ12 1 0 = some 2 := by rw [eρ12, r2_at, if_pos rfl, if_neg (by decide)]; exact kf_1_0
  have kf_3_9 : ρ12 3 9 = some 4 := by rw [eρ12, r2_at, if_neg (by decide)]; exact kf_3_9
  have kf_1_2 : ρ12 1 2 = some 3 := by rw [eρ12, r2_at, if_pos rfl, if_neg (by decide)]; exact kf_1_2
  have kf_5_3 : ρ12 5 3 = some 6 := by rw [eρ12, r2_at, if_neg (by decide)]; exact kf_5_3
  have kf_5_4 : ρ12 5 4 = some 7 := by rw [eρ12, r2_at, if_neg (by decide)]; exact kf_5_4
  have kf_5_5 : ρ12 5 5 = some 8 := by rw [eρ12, r2_at, if_neg (by decide)]; exact kf_5_5
  have kf_5_6 : ρ12 5 6 = some 9 := by rw [eρ12, r2_at, if_neg (by decide)]; exact kf_5_6
  have kf_1_3 : ρ12 1 3 = some 5 := by rw [eρ12, r2_at, if_pos rfl, if_neg (by decide)]; exact kf_1_3
  have kf_1_5 : ρ12 1 5 = some 10 := by rw [eρ12, r2_at, if_pos rfl, if_neg (by decide)]; exact kf_1_5
  have kf_1_9 : ρ12 1 9 = some 11 := by rw [eρ12, r2_at, if_pos rfl, if_pos rfl]
  refine lv_aload_n hx hb dX8_init_50 rfl (lv_at hl 0 rfl) ?_
  refine lv_bipush (v := 8) hx hb dX8_init_51 (by decide +kernel) ?_
  refine x_newa (atype := .int) (ty := .int) (t := 14) (y := 1) rfl (fun _ h => by cases h) rfl rfl (fun _ _ _ _ => rfl) C hP hS hR (kk_12 hKL) (kn_12 hKL) (hB 12 (Nat.le_refl _)) mw_27 (by decide) cl_8 (Nat.le_of_ble_eq_true rfl) (Nat.le_of_ble_eq_true rfl) (Nat.le_of_ble_eq_true rfl) dX8_init_53 (fun ad13 H hE hA C hP hS => ?_)
  rw [← hE 1 (by decide)]
  rw [← hE 1 (by decide)] at hl
  have hEE : ∀ r, r < 2 → ad13 r = ad r := fun r h => (hE r (by omega)).trans (hEE r h)
  have hAA := hA.trans hAA
  have C : Cx Y D 13 ad13 p s m args meth c cX8_init 1 none RX8 wsL_law := C
  have hP : WP Y D 13 ad13 K len σ7 ρ12 _ := hP
  have hS : va_S (AA 13 ad13 s.heap.size) s.heap _ _ := hS
  have hR : RC 13 ρ12 := RC_grow hR (hB 12 (Nat.le_refl _)).2
  have hB : BL 13 σ7 ρ12 := BL_grow hB
  obtain ⟨ρ14, eρ14, hF⟩ := nm_1 hF
  refine put_8_11 C hP hS (by decide) (kk_1 hKL) inlX8 mw_47 ⟨hnm, rfl⟩ eρ14 dX8_init_55 (fun H locs hP hS => ?_)
  have hR : RC 13 ρ14 := by rw [eρ14]; exact RC_put hR (by decide)
  have hB : BL 13 σ7 ρ14 := by rw [eρ14]; exact BL_r2 hB (by decide)
  have hU : ∀ r, r < 1 → ρ14 r = ρ r := fun r h => (congrFun eρ14 r).trans ((r2_ne r (by omega)).trans (hU r h))
  have kf_1_0 : ρ14 1 0 = some 2 := by rw [eρ14, r2_at, if_pos rfl, if_neg (by decide)]; exact kf_1_0
  have kf_3_9 : ρ14 3 9 = some 4 := by rw [eρ14, r2_at, if_neg (by decide)]; exact kf_3_9
  have kf_1_2 : ρ14 1 2 = some 3 := by rw [eρ14, r2_at, if_pos rfl, if_neg (by decide)]; exact kf_1_2
  have kf_5_3 : ρ14 5 3 = some 6 := by rw [eρ14, r2_at, if_neg (by decide)]; exact kf_5_3
  have kf_5_4 : ρ14 5 4 = some 7 := by rw [eρ14, r2_at, if_neg (by decide)]; exact kf_5_4
  have kf_5_5 : ρ14 5 5 = some 8 := by rw [eρ14, r2_at, if_neg (by decide)]; exact kf_5_5
  have kf_5_6 : ρ14 5 6 = some 9 := by rw [eρ14, r2_at, if_neg (by decide)]; exact kf_5_6
  have kf_1_3 : ρ14 1 3 = some 5 := by rw [eρ14, r2_at, if_pos rfl, if_neg (by decide)]; exact kf_1_3
  have kf_1_5 : ρ14 1 5 = some 10 := by rw [eρ14, r2_at, if_pos rfl, if_neg (by decide)]; exact kf_1_5
  have kf_1_9 : ρ14 1 9 = some 11 := by rw [eρ14, r2_at, if_pos rfl, if_neg (by decide)]; exact kf_1_9
  have kf_1_11 : ρ14 1 11 = some 12 := by rw [eρ14, r2_at, if_pos rfl, if_pos rfl]
  refine lv_aload_n hx hb dX8_init_58 rfl (lv_at hl 0 rfl) ?_
  refine lv_bipush (v := 8) hx hb dX8_init_59 (by decide +kernel) ?_
  refine x_newa (atype := .int) (ty := .int) (t := 14) (y := 1) rfl (fun _ h => by cases h) rfl rfl (fun _ _ _ _ => rfl) C hP hS hR (kk_13 hKL) (kn_13 hKL) (hB 13 (Nat.le_refl _)) mw_27 (by decide) cl_8 (Nat.le_of_ble_eq_true rfl) (Nat.le_of_ble_eq_true rfl) (Nat.le_of_ble_eq_true rfl) dX8_init_61 (fun ad15 H hE hA C hP hS => ?_)
  rw [← hE 1 (by decide)]
  rw [← hE 1 (by decide)] at hl
  have hEE : ∀ r, r < 2 → ad15 r = ad r := fun r h => (hE r (by omega)).trans (hEE r h)
  have hAA := hA.trans hAA
  have C : Cx Y D 14 ad15 p s m args meth c cX8_init 1 none RX8 wsL_law := C
  have hP : WP Y D 14 ad15 K len σ7 ρ14 _ := hP
  have hS : va_S (AA 14 ad15 s.heap.size) s.heap _ _ := hS
  have hR : RC 14 ρ14 := RC_grow hR (hB 13 (Nat.le_refl _)).2
  have hB : BL 14 σ7 ρ14 := BL_grow hB
  obtain ⟨ρ16, eρ16, hF⟩ := nm_1 hF
  refine put_8_12 C hP hS (by decide) (kk_1 hKL) inlX8 mw_48 ⟨hnm, rfl⟩ eρ16 dX8_init_63 (fun H locs hP hS => ?_)
  have hR : RC 14 ρ16 := by rw [eρ16]; exact RC_put hR (by decide)
  have hB : BL 14 σ7 ρ16 := by rw [eρ16]; exact BL_r2 hB (by decide)
  have hU : ∀ r, r < 1 → ρ16 r = ρ r := fun r h => (congrFun eρ16 r).trans ((r2_ne r (by omega)).trans (hU r h))
  have kf_1_0 : ρ16 1 0 = some 2 := by rw [eρ16, r2_at, if_pos rfl, if_neg (by decide)]; exact kf_1_0
  have kf_3_9 : ρ16 3 9 = some 4 := by rw [eρ16, r2_at, if_neg (by decide)]; exact kf_3_9
  have kf_1_2 : ρ16 1 2 = some 3 := by rw [eρ16, r2_at, if_pos rfl, if_neg (by decide)]; exact kf_1_2
  have kf_5_3 : ρ16 5 3 = some 6 := by rw [eρ16, r2_at, if_neg (by decide)]; exact kf_5_3
  have kf_5_4 : ρ16 5 4 = some 7 := by rw [eρ16, r2_at, if_neg (by decide)]; exact kf_5_4
  have kf_5_5 : ρ16 5 5 = some 8 := by rw [eρ16, r2_at, if_neg (by decide)]; exact kf_5_5
  have kf_5_6 : ρ16 5 6 = some 9 := by rw [eρ16, r2_at, if_neg (by decide)]; exact kf_5_6
  have kf_1_3 : ρ16 1 3 = some 5 := by rw [eρ16, r2_at, if_pos rfl, if_neg (by decide)]; exact kf_1_3
  have kf_1_5 : ρ16 1 5 = some 10 := by rw [eρ16, r2_at, if_pos rfl, if_neg (by decide)]; exact kf_1_5
  have kf_1_9 : ρ16 1 9 = some 11 := by rw [eρ16, r2_at, if_pos rfl, if_neg (by decide)]; exact kf_1_9
  have kf_1_11 : ρ16 1 11 = some 12 := by rw [eρ16, r2_at, if_pos rfl, if_neg (by decide)]; exact kf_1_11
  have kf_1_12 : ρ16 1 12 = some 13 := by rw [eρ16, r2_at, if_pos rfl, if_pos rfl]
  refine lv_aload_n hx hb dX8_init_66 rfl (lv_at hl 0 rfl) ?_
  refine get_8_2 C hP (by decide) (kk_1 hKL) inlX8 mw_41 kf_1_2 dX8_init_67 ?_
  refine lv_sipush (v := 300) hx hb dX8_init_70 (by decide +kernel) ?_
  obtain ⟨σ17, hq17, hF⟩ := bn_1 hF
  refine x_callV (ci := 3) rfl rfl C hP hS (c_X3_startsAnew trivial ⟨by decide, kk_3 hKL, by decide, kk_4 hKL, kn_4 hKL, kf_3_9⟩ hq17) (by decide) (kk_3 hKL) (cwV 1 C.1.2.2.2.2 (gdV mw_63 mw_64 mw_65 mw_31 mw_66) rfl rfl rfl hd_X3_startsAnew ⟨Nat.le_of_ble_eq_true rfl, Nat.le_of_ble_eq_true rfl⟩) rfl rfl hl.1 (Nat.le_of_ble_eq_true rfl) ⟨Nat.le_of_ble_eq_true rfl, Nat.le_of_ble_eq_true rfl⟩ dX8_init_73 (fun H locs hP hS => ?_)
  have hB : BL 14 σ17 ρ16 := starts_BL hB (by decide) hq17
  obtain ⟨rfl, rfl⟩ := ret_2 hF
  exact x_cret rfl hEE hAA C hP hS dX8_init_76

/-! CutCrooked$Table.CutCrooked$Table(); 14 -/
abbrev rm_X8_init_14 : Room := { frames := 2, cells := 12, slots := 284, locals := 40 }
def F_X8_init_14  (σ : SG) (ρ : RG) : Option (SG × RG) :=
  nm (r2 ρ 14 0 (some 15)) fun ρ2 =>
  bn2 (F_X3_init_16 σ ρ2) fun σ4 ρ4 =>
  nm (r2 ρ4 14 2 (some 16)) fun ρ5 =>
  bn2 (F_X0_init_18 σ4 ρ5) fun σ7 ρ7 =>
  nm (r2 ρ7 14 3 (some 18)) fun ρ8 =>
  nm (r2 ρ8 14 5 (some 23)) fun ρ10 =>
  nm (r2 ρ10 14 9 (some 24)) fun ρ12 =>
  nm (r2 ρ12 14 11 (some 25)) fun ρ14 =>
  nm (r2 ρ14 14 12 (some 26)) fun ρ16 =>
  bn (F_X3_startsAnew 16 (300 : Int32) σ7 ρ16) fun σ17 =>
  some (σ17, ρ16)
set_option maxHeartbeats 4000000 in
set_option maxRecDepth 100000 in
theorem k_X8_init_14  {σ σ1 : SG} {ρ ρ1 : RG} (hR : RC 15 ρ) (hB : BL 15 σ ρ) (hF : F_X8_init_14 σ ρ = some (σ1, ρ1)) : RC 27 ρ1 ∧ BL 27 σ1 ρ1 ∧ (∀ r, r < 14 → ρ1 r = ρ r) ∧ ∀ q ∈ ([(14, 0, 15), (14, 2, 16), (14, 3, 18), (14, 5, 23), (14, 9, 24), (14, 11, 25), (14, 12, 26)] : List (Nat × Nat × Nat)), ρ1 q.1 q.2.1 = some q.2.2 := by
  unfold F_X8_init_14 at hF
  have hU : ∀ r, r < 14 → ρ r = ρ r := fun _ _ => rfl
  have hR : RC 16 ρ := RC_grow hR (hB 15 (Nat.le_refl _)).2
  have hB : BL 16 σ ρ := BL_grow hB
  obtain ⟨ρ2, eρ2, hF⟩ := nm_1 hF
  have hR : RC 16 ρ2 := by rw [eρ2]; exact RC_put hR (by decide)
  have hB : BL 16 σ ρ2 := by rw [eρ2]; exact BL_r2 hB (by decide)
  have hU : ∀ r, r < 14 → ρ2 r = ρ r := fun r h => (congrFun eρ2 r).trans ((r2_ne r (by omega)).trans (hU r h))
  have kf_14_0 : ρ2 14 0 = some 15 := by rw [eρ2, r2_at, if_pos rfl, if_pos rfl]
  have hR : RC 17 ρ2 := RC_grow hR (hB 16 (Nat.le_refl _)).2
  have hB : BL 17 σ ρ2 := BL_grow hB
  obtain ⟨σ4, ρ4, hq4, hF⟩ := bn2_1 hF
  obtain ⟨hR, hB, hU4, hkn⟩ := k_X3_init_16 hR hB hq4
  have hU : ∀ r, r < 14 → ρ4 r = ρ r := fun r h => (hU4 r (by omega)).trans (hU r h)
  have kf_14_0 : ρ4 14 0 = some 15 := by rw [hU4 14 (by decide)]; exact kf_14_0
  have kf_16_9 : ρ4 16 9 = some 17 := hkn (16, 9, 17) (by decide)
  obtain ⟨ρ5, eρ5, hF⟩ := nm_1 hF
  have hR : RC 18 ρ5 := by rw [eρ5]; exact RC_put hR (by decide)
  have hB : BL 18 σ4 ρ5 := by rw [eρ5]; exact BL_r2 hB (by decide)
  have hU : ∀ r, r < 14 → ρ5 r = ρ r := fun r h => (congrFun eρ5 r).trans ((r2_ne r (by omega)).trans (hU r h))
  have kf_14_0 : ρ5 14 0 = some 15 := by rw [eρ5, r2_at, if_pos rfl, if_neg (by decide)]; exact kf_14_0
  have kf_16_9 : ρ5 16 9 = some 17 := by rw [eρ5, r2_at, if_neg (by decide)]; exact kf_16_9
  have kf_14_2 : ρ5 14 2 = some 16 := by rw [eρ5, r2_at, if_pos rfl, if_pos rfl]
  have hR : RC 19 ρ5 := RC_grow hR (hB 18 (Nat.le_refl _)).2
  have hB : BL 19 σ4 ρ5 := BL_grow hB
  obtain ⟨σ7, ρ7, hq7, hF⟩ := bn2_1 hF
  obtain ⟨hR, hB, hU7, hkn⟩ := k_X0_init_18 hR hB hq7
  have hU : ∀ r, r < 14 → ρ7 r = ρ r := fun r h => (hU7 r (by omega)).trans (hU r h)
  have kf_14_0 : ρ7 14 0 = some 15 := by rw [hU7 14 (by decide)]; exact kf_14_0
  have kf_16_9 : ρ7 16 9 = some 17 := by rw [hU7 16 (by decide)]; exact kf_16_9
  have kf_14_2 : ρ7 14 2 = some 16 := by rw [hU7 14 (by decide)]; exact kf_14_2
  have kf_18_3 : ρ7 18 3 = some 19 := hkn (18, 3, 19) (by decide)
  have kf_18_4 : ρ7 18 4 = some 20 := hkn (18, 4, 20) (by decide)
  have kf_18_5 : ρ7 18 5 = some 21 := hkn (18, 5, 21) (by decide)
  have kf_18_6 : ρ7 18 6 = some 22 := hkn (18, 6, 22) (by decide)
  obtain ⟨ρ8, eρ8, hF⟩ := nm_1 hF
  have hR : RC 23 ρ8 := by rw [eρ8]; exact RC_put hR (by decide)
  have hB : BL 23 σ7 ρ8 := by rw [eρ8]; exact BL_r2 hB (by decide)
  have hU : ∀ r, r < 14 → ρ8 r = ρ r := fun r h => (congrFun eρ8 r).trans ((r2_ne r (by omega)).trans (hU r h))
  have kf_14_0 : ρ8 14 0 = some 15 := by rw [eρ8, r2_at, if_pos rfl, if_neg (by decide)]; exact kf_14_0
  have kf_16_9 : ρ8 16 9 = some 17 := by rw [eρ8, r2_at, if_neg (by decide)]; exact kf_16_9
  have kf_14_2 : ρ8 14 2 = some 16 := by rw [eρ8, r2_at, if_pos rfl, if_neg (by decide)]; exact kf_14_2
  have kf_18_3 : ρ8 18 3 = some 19 := by rw [eρ8, r2_at, if_neg (by decide)]; exact kf_18_3
  have kf_18_4 : ρ8 18 4 = some 20 := by rw [eρ8, r2_at, if_neg (by decide)]; exact kf_18_4
  have kf_18_5 : ρ8 18 5 = some 21 := by rw [eρ8, r2_at, if_neg (by decide)]; exact kf_18_5
  have kf_18_6 : ρ8 18 6 = some 22 := by rw [eρ8, r2_at, if_neg (by decide)]; exact kf_18_6
  have kf_14_3 : ρ8 14 3 = some 18 := by rw [eρ8, r2_at, if_pos rfl, if_pos rfl]
  have hR : RC 24 ρ8 := RC_grow hR (hB 23 (Nat.le_refl _)).2
  have hB : BL 24 σ7 ρ8 := BL_grow hB
  obtain ⟨ρ10, eρ10, hF⟩ := nm_1 hF
  have hR : RC 24 ρ10 := by rw [eρ10]; exact RC_put hR (by decide)
  have hB : BL 24 σ7 ρ10 := by rw [eρ10]; exact BL_r2 hB (by decide)
  have hU : ∀ r, r < 14 → ρ10 r = ρ r := fun r h => (congrFun eρ10 r).trans ((r2_ne r (by omega)).trans (hU r h))
  have kf_14_0 : ρ10 14 0 = some 15 := by rw [eρ10, r2_at, if_pos rfl, if_neg (by decide)]; exact kf_14_0
  have kf_16_9 : ρ10 16 9 = some 17 := by rw [eρ10, r2_at, if_neg (by decide)]; exact kf_16_9
  have kf_14_2 : ρ10 14 2 = some 16 := by rw [eρ10, r2_at, if_pos rfl, if_neg (by decide)]; exact kf_14_2
  have kf_18_3 : ρ10 18 3 = some 19 := by rw [eρ10, r2_at, if_neg (by decide)]; exact kf_18_3
  have kf_18_4 : ρ10 18 4 = some 20 := by rw [eρ10, r2_at, if_neg (by decide)]; exact kf_18_4
  have kf_18_5 : ρ10 18 5 = some 21 := by rw [eρ10, r2_at, if_neg (by decide)]; exact kf_18_5
  have kf_18_6 : ρ10 18 6 = some 22 := by rw [eρ10, r2_at, if_neg (by decide)]; exact kf_18_6
  have kf_14_3 : ρ10 14 3 = some 18 := by rw [eρ10, r2_at, if_pos rfl, if_neg (by decide)]; exact kf_14_3
  have kf_14_5 : ρ10 14 5 = some 23 := by rw [eρ10, r2_at, if_pos rfl, if_pos rfl]
  have hR : RC 25 ρ10 := RC_grow hR (hB 24 (Nat.le_refl _)).2
  have hB : BL 25 σ7 ρ10 := BL_grow hB
  obtain ⟨ρ12, eρ12, hF⟩ := nm_1 hF
  have hR : RC 25 ρ12 := by rw [eρ12]; exact RC_put hR (by decide)
  have hB : BL 25 σ7 ρ12 := by rw [eρ12]; exact BL_r2 hB (by decide)
  have hU : ∀ r, r < 14 → ρ12 r = ρ r := fun r h => (congrFun eρ12 r).trans ((r2_ne r (by omega)).trans (hU r h))
  have kf_14_0 : ρ12 14 0 = some 15 := by rw [eρ12, r2_at, if_pos rfl, if_neg (by decide)]; exact kf_14_0
  have kf_16_9 : ρ12 16 9 = some 17 := by rw [eρ12, r2_at, if_neg (by decide)]; exact kf_16_9
  have kf_14_2 : ρ12 14 2 = some 16 := by rw [eρ12, r2_at, if_pos rfl, if_neg (by decide)]; exact kf_14_2
  have kf_18_3 : ρ12 18 3 = some 19 := by rw [eρ12, r2_at, if_neg (by decide)]; exact kf_18_3
  have kf_18_4 : ρ12 18 4 = some 20 := by rw [eρ12, r2_at, if_neg (by decide)]; exact kf_18_4
  have kf_18_5 : ρ12 18 5 = some 21 := by rw [eρ12, r2_at, if_neg (by decide)]; exact kf_18_5
  have kf_18_6 : ρ12 18 6 = some 22 := by rw [eρ12, r2_at, if_neg (by decide)]; exact kf_18_6
  have kf_14_3 : ρ12 14 3 = some 18 := by rw [eρ12, r2_at, if_pos rfl, if_neg (by decide)]; exact kf_14_3
  have kf_14_5 : ρ12 14 5 = some 23 := by rw [eρ12, r2_at, if_pos rfl, if_neg (by decide)]; exact kf_14_5
  have kf_14_9 : ρ12 14 9 = some 24 := by rw [eρ12, r2_at, if_pos rfl, if_pos rfl]
  have hR : RC 26 ρ12 := RC_grow hR (hB 25 (Nat.le_refl _)).2
  have hB : BL 26 σ7 ρ12 := BL_grow hB
  obtain ⟨ρ14, eρ14, hF⟩ := nm_1 hF
  have hR : RC 26 ρ14 := by rw [eρ14]; exact RC_put hR (by decide)
  have hB : BL 26 σ7 ρ14 := by rw [eρ14]; exact BL_r2 hB (by decide)
  have hU : ∀ r, r < 14 → ρ14 r = ρ r := fun r h => (congrFun eρ14 r).trans ((r2_ne r (by omega)).trans (hU r h))
  have kf_14_0 : ρ14 14 0 = some 15 := by rw [eρ14, r2_at, if_pos rfl, if_neg (by decide)]; exact kf_14_0
  have kf_16_9 : ρ14 16 9 = some 17 := by rw [eρ14, r2_at, if_neg (by decide)]; exact kf_16_9
  have kf_14_2 : ρ14 14 2 = some 16 := by rw [eρ14, r2_at, if_pos rfl, if_neg (by decide)]; exact kf_14_2
  have kf_18_3 : ρ14 18 3 = some 19 := by rw [eρ14, r2_at, if_neg (by decide)]; exact kf_18_3
  have kf_18_4 : ρ14 18 4 = some 20 := by rw [eρ14, r2_at, if_neg (by decide)]; exact kf_18_4
  have kf_18_5 : ρ14 18 5 = some 21 := by rw [eρ14, r2_at, if_neg (by decide)]; exact kf_18_5
  have kf_18_6 : ρ14 18 6 = some 22 := by rw [eρ14, r2_at, if_neg (by decide)]; exact kf_18_6
  have kf_14_3 : ρ14 14 3 = some 18 := by rw [eρ14, r2_at, if_pos rfl, if_neg (by decide)]; exact kf_14_3
  have kf_14_5 : ρ14 14 5 = some 23 := by rw [eρ14, r2_at, if_pos rfl, if_neg (by decide)]; exact kf_14_5
  have kf_14_9 : ρ14 14 9 = some 24 := by rw [eρ14, r2_at, if_pos rfl, if_neg (by decide)]; exact kf_14_9
  have kf_14_11 : ρ14 14 11 = some 25 := by rw [eρ14, r2_at, if_pos rfl, if_pos rfl]
  have hR : RC 27 ρ14 := RC_grow hR (hB 26 (Nat.le_refl _)).2
  have hB : BL 27 σ7 ρ14 := BL_grow hB
  obtain ⟨ρ16, eρ16, hF⟩ := nm_1 hF
  have hR : RC 27 ρ16 := by rw [eρ16]; exact RC_put hR (by decide)
  have hB : BL 27 σ7 ρ16 := by rw [eρ16]; exact BL_r2 hB (by decide)
  have hU : ∀ r, r < 14 → ρ16 r = ρ r := fun r h => (congrFun eρ16 r).trans ((r2_ne r (by omega)).trans (hU r h))
  have kf_14_0 : ρ16 14 0 = some 15 := by rw [eρ16, r2_at, if_pos rfl, if_neg (by decide)]; exact kf_14_0
  have kf_16_9 : ρ16 16 9 = some 17 := by rw [eρ16, r2_at, if_neg (by decide)]; exact kf_16_9
  have kf_14_2 : ρ16 14 2 = some 16 := by rw [eρ16, r2_at, if_pos rfl, if_neg (by decide)]; exact kf_14_2
  have kf_18_3 : ρ16 18 3 = some 19 := by rw [eρ16, r2_at, if_neg (by decide)]; exact kf_18_3
  have kf_18_4 : ρ16 18 4 = some 20 := by rw [eρ16, r2_at, if_neg (by decide)]; exact kf_18_4
  have kf_18_5 : ρ16 18 5 = some 21 := by rw [eρ16, r2_at, if_neg (by decide)]; exact kf_18_5
  have kf_18_6 : ρ16 18 6 = some 22 := by rw [eρ16, r2_at, if_neg (by decide)]; exact kf_18_6
  have kf_14_3 : ρ16 14 3 = some 18 := by rw [eρ16, r2_at, if_pos rfl, if_neg (by decide)]; exact kf_14_3
  have kf_14_5 : ρ16 14 5 = some 23 := by rw [eρ16, r2_at, if_pos rfl, if_neg (by decide)]; exact kf_14_5
  have kf_14_9 : ρ16 14 9 = some 24 := by rw [eρ16, r2_at, if_pos rfl, if_neg (by decide)]; exact kf_14_9
  have kf_14_11 : ρ16 14 11 = some 25 := by rw [eρ16, r2_at, if_pos rfl, if_neg (by decide)]; exact kf_14_11
  have kf_14_12 : ρ16 14 12 = some 26 := by rw [eρ16, r2_at, if_pos rfl, if_pos rfl]
  obtain ⟨σ17, hq17, hF⟩ := bn_1 hF
  have hB : BL 27 σ17 ρ16 := starts_BL hB (by decide) hq17
  obtain ⟨rfl, rfl⟩ := ret_2 hF
  refine ⟨hR, hB, hU, fun q hq => ?_⟩
  simp only [List.mem_cons, List.not_mem_nil, or_false] at hq
  rcases hq with rfl | rfl | rfl | rfl | rfl | rfl | rfl
  · exact kf_14_0
  · exact kf_14_2
  · exact kf_14_3
  · exact kf_14_5
  · exact kf_14_9
  · exact kf_14_11
  · exact kf_14_12
set_option maxHeartbeats 8000000 in
set_option maxRecDepth 100000 in
theorem c_X8_init_14  {σ σ1 : SG} {ρ ρ1 : RG} (hKL : LK K len) (hR : RC 15 ρ) (hB : BL 15 σ ρ) (hF : F_X8_init_14 σ ρ = some (σ1, ρ1)) : MC l Y D 15 ad K len yX8_init (Cond.code yX8_init cX8_init 1 none :: wsL_law) rm_X8_init_14 [.ref (ad 14)] σ ρ (fun _ => none) 27 K len σ1 ρ1 12 284 := by
  refine mc_of (cc := cX8_init) (nL := 1) (ret := none) (by decide) (Nat.le_of_ble_eq_true rfl) ?_
  intro p e s m args below meth c ls C hnm hP hS hl
  have hx := C.1.1
  have hb := C.1.2.1
  have hl : lv_has ls 1 [(0, .ref (ad 14))] := hl
  have hEE : ∀ r, r < 15 → ad r = ad r := fun _ _ => rfl
  have hAA : AA 15 ad s.heap.size = AA 15 ad s.heap.size := rfl
  have hU : ∀ r, r < 14 → ρ r = ρ r := fun _ _ => rfl
  unfold F_X8_init_14 at hF
  refine lv_aload_n hx hb dX8_init_0 rfl (lv_at hl 0 rfl) ?_
  refine x_obj C hl.1 mw_37 mw_10 mw_11 dX8_init_1 (Nat.le_of_ble_eq_true rfl) (Nat.le_of_ble_eq_true rfl) ?_
  refine lv_aload_n hx hb dX8_init_4 rfl (lv_at hl 0 rfl) ?_
  refine lv_bipush (v := 6) hx hb dX8_init_5 (by decide +kernel) ?_
  refine x_newq (t := 16) (y := 3) (Cn := "CutCrooked$Cutter") rfl (fun _ _ _ _ => rfl) C C.2.2.2.2.2.1.2.2.2.1 hP hS hR (kk_15 hKL) (kn_15 hKL) (hB 15 (Nat.le_refl _)) mw_38 (by decide) cl_6 (Nat.le_of_ble_eq_true rfl) (Nat.le_of_ble_eq_true rfl) (Nat.le_of_ble_eq_true rfl) dX8_init_7 (fun ad1 H hE hA C hP hS => ?_)
  rw [← hE 14 (by decide)]
  rw [← hE 14 (by decide)] at hl
  have hEE : ∀ r, r < 15 → ad1 r = ad r := fun r h => (hE r (by omega)).trans (hEE r h)
  have hAA := hA.trans hAA
  have C : Cx Y D 16 ad1 p s m args meth c cX8_init 1 none RX8 wsL_law := C
  have hP : WP Y D 16 ad1 K len σ ρ _ := hP
  have hS : va_S (AA 16 ad1 s.heap.size) s.heap _ _ := hS
  have hR : RC 16 ρ := RC_grow hR (hB 15 (Nat.le_refl _)).2
  have hB : BL 16 σ ρ := BL_grow hB
  obtain ⟨ρ2, eρ2, hF⟩ := nm_1 hF
  refine put_8_0 C hP hS (by decide) (kk_14 hKL) inlX8 mw_39 ⟨hnm, rfl⟩ eρ2 dX8_init_10 (fun H locs hP hS => ?_)
  have hR : RC 16 ρ2 := by rw [eρ2]; exact RC_put hR (by decide)
  have hB : BL 16 σ ρ2 := by rw [eρ2]; exact BL_r2 hB (by decide)
  have hU : ∀ r, r < 14 → ρ2 r = ρ r := fun r h => (congrFun eρ2 r).trans ((r2_ne r (by omega)).trans (hU r h))
  have kf_14_0 : ρ2 14 0 = some 15 := by rw [eρ2, r2_at, if_pos rfl, if_pos rfl]
  refine lv_aload_n hx hb dX8_init_13 rfl (lv_at hl 0 rfl) ?_
  refine x_new (ci := 3) (fs := [.int 0, .int 0, .int 0, .int 0, .int 0, .int 0, .int 0, .int 0, .int 0, .null]) tyX3_ok rfl rfl (fun _ => rfl) (fun j hj => by have : j < 10 := hj; revert j; decide) C hP hS hR (kk_16 hKL) (hB 16 (Nat.le_refl _)) inlX3 mw_40 mw_30 mw_31 (Nat.le_of_ble_eq_true rfl) (Nat.le_of_ble_eq_true rfl) dX8_init_14 (fun ad3 H hE hA C hP hS => ?_)
  rw [← hE 14 (by decide)]
  rw [← hE 14 (by decide)] at hl
  have hEE : ∀ r, r < 15 → ad3 r = ad r := fun r h => (hE r (by omega)).trans (hEE r h)
  have hAA := hA.trans hAA
  have C : Cx Y D 17 ad3 p s m args meth c cX8_init 1 none RX8 wsL_law := C
  have hP : WP Y D 17 ad3 K len σ ρ2 _ := hP
  have hS : va_S (AA 17 ad3 s.heap.size) s.heap _ _ := hS
  have hR : RC 17 ρ2 := RC_grow hR (hB 16 (Nat.le_refl _)).2
  have hB : BL 17 σ ρ2 := BL_grow hB
  refine lv_dup hx hb dX8_init_17 rfl ?_
  obtain ⟨σ4, ρ4, hq4, hF⟩ := bn2_1 hF
  refine x_callIN (ws := (Cond.code yX3_init cX3_init 1 none :: wsL_law)) C hP hS (c_X3_init_16 hKL hR hB hq4) ⟨va_cnB 0 C.1.2.2.2.2 (gdI mw_50) rfl rfl rfl (x_nest (own := "CutCrooked$Table") (idx := 19) (y := yX3_init) (host := "CutCrooked") C (by decide +kernel)) (C.1.2.2.2.2 _ mw_31) hd_X3_init.2 ⟨Nat.le_of_ble_eq_true rfl, Nat.le_of_ble_eq_true rfl⟩, rfl, (C.1.2.2.2.2 _ mw_49)⟩ rfl rfl hl.1 (Nat.le_of_ble_eq_true rfl) ⟨(Nat.le_of_ble_eq_true rfl), (Nat.le_of_ble_eq_true rfl)⟩ dX8_init_18 (fun ad4 H locs hE hA C hP hS => ?_)
  obtain ⟨hR, hB, hU4, hkn⟩ := k_X3_init_16 hR hB hq4
  rw [← hE 14 (by decide)]
  rw [← hE 16 (by decide)]
  rw [← hE 14 (by decide)] at hl
  have hEE : ∀ r, r < 15 → ad4 r = ad r := fun r h => (hE r (by omega)).trans (hEE r h)
  have hAA := hA.trans hAA
  have C : Cx Y D 18 ad4 p s m args meth c cX8_init 1 none RX8 wsL_law := C
  have hP : WP Y D 18 ad4 K len σ4 ρ4 _ := hP
  have hS : va_S (AA 18 ad4 s.heap.size) s.heap _ _ := hS
  have hU : ∀ r, r < 14 → ρ4 r = ρ r := fun r h => (hU4 r (by omega)).trans (hU r h)
  have kf_14_0 : ρ4 14 0 = some 15 := by rw [hU4 14 (by decide)]; exact kf_14_0
  have kf_16_9 : ρ4 16 9 = some 17 := hkn (16, 9, 17) (by decide)
  obtain ⟨ρ5, eρ5, hF⟩ := nm_1 hF
  refine put_8_2 C hP hS (by decide) (kk_14 hKL) inlX8 mw_41 ⟨hnm, rfl⟩ eρ5 dX8_init_21 (fun H locs hP hS => ?_)
  have hR : RC 18 ρ5 := by rw [eρ5]; exact RC_put hR (by decide)
  have hB : BL 18 σ4 ρ5 := by rw [eρ5]; exact BL_r2 hB (by decide)
  have hU : ∀ r, r < 14 → ρ5 r = ρ r := fun r h => (congrFun eρ5 r).trans ((r2_ne r (by omega)).trans (hU r h))
  have kf_14_0 : ρ5 14 0 = some 15 := by rw [eρ5, r2_at, if_pos rfl, if_neg (by decide)]; exact kf_14_0
  have kf_16_9 : ρ5 16 9 = some 17 := by rw [eρ5, r2_at, if_neg (by decide)]; exact kf_16_9
  have kf_14_2 : ρ5 14 2 = some 16 := by rw [eρ5, r2_at, if_pos rfl, if_pos rfl]
  refine lv_aload_n hx hb dX8_init_24 rfl (lv_at hl 0 rfl) ?_
  refine x_new (ci := 0) (fs := [.int 0, .int 0, .int 0, .null, .null, .null, .null, .int 0, .null, .int 0, .int 0, .int 0]) tyX0_ok rfl rfl (fun _ => rfl) (fun j hj => by have : j < 12 := hj; revert j; decide) C hP hS hR (kk_18 hKL) (hB 18 (Nat.le_refl _)) inlX0 mw_42 mw_22 mw_23 (Nat.le_of_ble_eq_true rfl) (Nat.le_of_ble_eq_true rfl) dX8_init_25 (fun ad6 H hE hA C hP hS => ?_)
  rw [← hE 14 (by decide)]
  rw [← hE 14 (by decide)] at hl
  have hEE : ∀ r, r < 15 → ad6 r = ad r := fun r h => (hE r (by omega)).trans (hEE r h)
  have hAA := hA.trans hAA
  have C : Cx Y D 19 ad6 p s m args meth c cX8_init 1 none RX8 wsL_law := C
  have hP : WP Y D 19 ad6 K len σ4 ρ5 _ := hP
  have hS : va_S (AA 19 ad6 s.heap.size) s.heap _ _ := hS
  have hR : RC 19 ρ5 := RC_grow hR (hB 18 (Nat.le_refl _)).2
  have hB : BL 19 σ4 ρ5 := BL_grow hB
  refine lv_dup hx hb dX8_init_28 rfl ?_
  obtain ⟨σ7, ρ7, hq7, hF⟩ := bn2_1 hF
  refine x_callIN (ws := (Cond.code yX0_init cX0_init 1 none :: wsL_law)) C hP hS (c_X0_init_18 hKL hR hB hq7) ⟨va_cnB 0 C.1.2.2.2.2 (gdI mw_54) rfl rfl rfl (x_nest (own := "CutCrooked$Table") (idx := 26) (y := yX0_init) (host := "CutCrooked") C (by decide +kernel)) (C.1.2.2.2.2 _ mw_23) hd_X0_init.2 ⟨Nat.le_of_ble_eq_true rfl, Nat.le_of_ble_eq_true rfl⟩, rfl, (C.1.2.2.2.2 _ mw_53)⟩ rfl rfl hl.1 (Nat.le_of_ble_eq_true rfl) ⟨(Nat.le_of_ble_eq_true rfl), (Nat.le_of_ble_eq_true rfl)⟩ dX8_init_29 (fun ad7 H locs hE hA C hP hS => ?_)
  obtain ⟨hR, hB, hU7, hkn⟩ := k_X0_init_18 hR hB hq7
  rw [← hE 14 (by decide)]
  rw [← hE 18 (by decide)]
  rw [← hE 14 (by decide)] at hl
  have hEE : ∀ r, r < 15 → ad7 r = ad r := fun r h => (hE r (by omega)).trans (hEE r h)
  have hAA := hA.trans hAA
  have C : Cx Y D 23 ad7 p s m args meth c cX8_init 1 none RX8 wsL_law := C
  have hP : WP Y D 23 ad7 K len σ7 ρ7 _ := hP
  have hS : va_S (AA 23 ad7 s.heap.size) s.heap _ _ := hS
  have hU : ∀ r, r < 14 → ρ7 r = ρ r := fun r h => (hU7 r (by omega)).trans (hU r h)
  have kf_14_0 : ρ7 14 0 = some 15 := by rw [hU7 14 (by decide)]; exact kf_14_0
  have kf_16_9 : ρ7 16 9 = some 17 := by rw [hU7 16 (by decide)]; exact kf_16_9
  have kf_14_2 : ρ7 14 2 = some 16 := by rw [hU7 14 (by decide)]; exact kf_14_2
  have kf_18_3 : ρ7 18 3 = some 19 := hkn (18, 3, 19) (by decide)
  have kf_18_4 : ρ7 18 4 = some 20 := hkn (18, 4, 20) (by decide)
  have kf_18_5 : ρ7 18 5 = some 21 := hkn (18, 5, 21) (by decide)
  have kf_18_6 : ρ7 18 6 = some 22 := hkn (18, 6, 22) (by decide)
  obtain ⟨ρ8, eρ8, hF⟩ := nm_1 hF
  refine put_8_3 C hP hS (by decide) (kk_14 hKL) inlX8 mw_43 ⟨hnm, rfl⟩ eρ8 dX8_init_32 (fun H locs hP hS => ?_)
  have hR : RC 23 ρ8 := by rw [eρ8]; exact RC_put hR (by decide)
  have hB : BL 23 σ7 ρ8 := by rw [eρ8]; exact BL_r2 hB (by decide)
  have hU : ∀ r, r < 14 → ρ8 r = ρ r := fun r h => (congrFun eρ8 r).trans ((r2_ne r (by omega)).trans (hU r h))
  have kf_14_0 : ρ8 14 0 = some 15 := by rw [eρ8, r2_at, if_pos rfl, if_neg (by decide)]; exact kf_14_0
  have kf_16_9 : ρ8 16 9 = some 17 := by rw [eρ8, r2_at, if_neg (by decide)]; exact kf_16_9
  have kf_14_2 : ρ8 14 2 = some 16 := by rw [eρ8, r2_at, if_pos rfl, if_neg (by decide)]; exact kf_14_2
  have kf_18_3 : ρ8 18 3 = some 19 := by rw [eρ8, r2_at, if_neg (by decide)]; exact kf_18_3
  have kf_18_4 : ρ8 18 4 = some 20 := by rw [eρ8, r2_at, if_neg (by decide)]; exact kf_18_4
  have kf_18_5 : ρ8 18 5 = some 21 := by rw [eρ8, r2_at, if_neg (by decide)]; exact kf_18_5
  have kf_18_6 : ρ8 18 6 = some 22 := by rw [eρ8, r2_at, if_neg (by decide)]; exact kf_18_6
  have kf_14_3 : ρ8 14 3 = some 18 := by rw [eρ8, r2_at, if_pos rfl, if_pos rfl]
  refine lv_aload_n hx hb dX8_init_35 rfl (lv_at hl 0 rfl) ?_
  refine lv_bipush (v := 100) hx hb dX8_init_36 (by decide +kernel) ?_
  refine x_newa (atype := .byte) (ty := .byte) (t := 13) (y := 0) rfl (fun _ h => by cases h) rfl rfl (fun _ _ _ _ => rfl) C hP hS hR (kk_23 hKL) (kn_23 hKL) (hB 23 (Nat.le_refl _)) mw_44 (by decide) cl_100 (Nat.le_of_ble_eq_true rfl) (Nat.le_of_ble_eq_true rfl) (Nat.le_of_ble_eq_true rfl) dX8_init_38 (fun ad9 H hE hA C hP hS => ?_)
  rw [← hE 14 (by decide)]
  rw [← hE 14 (by decide)] at hl
  have hEE : ∀ r, r < 15 → ad9 r = ad r := fun r h => (hE r (by omega)).trans (hEE r h)
  have hAA := hA.trans hAA
  have C : Cx Y D 24 ad9 p s m args meth c cX8_init 1 none RX8 wsL_law := C
  have hP : WP Y D 24 ad9 K len σ7 ρ8 _ := hP
  have hS : va_S (AA 24 ad9 s.heap.size) s.heap _ _ := hS
  have hR : RC 24 ρ8 := RC_grow hR (hB 23 (Nat.le_refl _)).2
  have hB : BL 24 σ7 ρ8 := BL_grow hB
  obtain ⟨ρ10, eρ10, hF⟩ := nm_1 hF
  refine put_8_5 C hP hS (by decide) (kk_14 hKL) inlX8 mw_45 ⟨hnm, rfl⟩ eρ10 dX8_init_40 (fun H locs hP hS => ?_)
  have hR : RC 24 ρ10 := by rw [eρ10]; exact RC_put hR (by decide)
  have hB : BL 24 σ7 ρ10 := by rw [eρ10]; exact BL_r2 hB (by decide)
  have hU : ∀ r, r < 14 → ρ10 r = ρ r := fun r h => (congrFun eρ10 r).trans ((r2_ne r (by omega)).trans (hU r h))
  have kf_14_0 : ρ10 14 0 = some 15 := by rw [eρ10, r2_at, if_pos rfl, if_neg (by decide)]; exact kf_14_0
  have kf_16_9 : ρ10 16 9 = some 17 := by rw [eρ10, r2_at, if_neg (by decide)]; exact kf_16_9
  have kf_14_2 : ρ10 14 2 = some 16 := by rw [eρ10, r2_at, if_pos rfl, if_neg (by decide)]; exact kf_14_2
  have kf_18_3 : ρ10 18 3 = some 19 := by rw [eρ10, r2_at, if_neg (by decide)]; exact kf_18_3
  have kf_18_4 : ρ10 18 4 = some 20 := by rw [eρ10, r2_at, if_neg (by decide)]; exact kf_18_4
  have kf_18_5 : ρ10 18 5 = some 21 := by rw [eρ10, r2_at, if_neg (by decide)]; exact kf_18_5
  have kf_18_6 : ρ10 18 6 = some 22 := by rw [eρ10, r2_at, if_neg (by decide)]; exact kf_18_6
  have kf_14_3 : ρ10 14 3 = some 18 := by rw [eρ10, r2_at, if_pos rfl, if_neg (by decide)]; exact kf_14_3
  have kf_14_5 : ρ10 14 5 = some 23 := by rw [eρ10, r2_at, if_pos rfl, if_pos rfl]
  refine lv_aload_n hx hb dX8_init_43 rfl (lv_at hl 0 rfl) ?_
  refine lv_iconst (v := 4) hx hb dX8_init_44 (by decide) ?_
  refine x_newa (atype := .int) (ty := .int) (t := 14) (y := 1) rfl (fun _ h => by cases h) rfl rfl (fun _ _ _ _ => rfl) C hP hS hR (kk_24 hKL) (kn_24 hKL) (hB 24 (Nat.le_refl _)) mw_27 (by decide) cl_4 (Nat.le_of_ble_eq_true rfl) (Nat.le_of_ble_eq_true rfl) (Nat.le_of_ble_eq_true rfl) dX8_init_45 (fun ad11 H hE hA C hP hS => ?_)
  rw [← hE 14 (by decide)]
  rw [← hE 14 (by decide)] at hl
  have hEE : ∀ r, r < 15 → ad11 r = ad r := fun r h => (hE r (by omega)).trans (hEE r h)
  have hAA := hA.trans hAA
  have C : Cx Y D 25 ad11 p s m args meth c cX8_init 1 none RX8 wsL_law := C
  have hP : WP Y D 25 ad11 K len σ7 ρ10 _ := hP
  have hS : va_S (AA 25 ad11 s.heap.size) s.heap _ _ := hS
  have hR : RC 25 ρ10 := RC_grow hR (hB 24 (Nat.le_refl _)).2
  have hB : BL 25 σ7 ρ10 := BL_grow hB
  obtain ⟨ρ12, eρ12, hF⟩ := nm_1 hF
  refine put_8_9 C hP hS (by decide) (kk_14 hKL) inlX8 mw_46 ⟨hnm, rfl⟩ eρ12 dX8_init_47 (fun H locs hP hS => ?_)
  have hR : RC 25 ρ12 := by rw [eρ12]; exact RC_put hR (by decide)
  have hB : BL 25 σ7 ρ12 := by rw [eρ12]; exact BL_r2 hB (by decide)
  have hU : ∀ r, r < 14 → ρ12 r = ρ r := fun r h => (congrFun eρ12 r).trans ((r2_ne r (by omega)).trans (hU r h))
  have kf_14_0 : ρ12 14 0 = some 15 := by rw [eρ12, r2_at, if_pos rfl, if_neg (by decide)]; exact kf_14_0
  have kf_16_9 : ρ12 16 9 = some 17 := by rw [eρ12, r2_at, if_neg (by decide)]; exact kf_16_9
  have kf_14_2 : ρ12 14 2 = some 16 := by rw [eρ12, r2_at, if_pos rfl, if_neg (by decide)]; exact kf_14_2
  have kf_18_3 : ρ12 18 3 = some 19 := by rw [eρ12, r2_at, if_neg (by decide)]; exact kf_18_3
  have kf_18_4 : ρ12 18 4 = some 20 := by rw [eρ12, r2_at, if_neg (by decide)]; exact kf_18_4
  have kf_18_5 : ρ12 18 5 = some 21 := by rw [eρ12, r2_at, if_neg (by decide)]; exact kf_18_5
  have kf_18_6 : ρ12 18 6 = some 22 := by rw [eρ12, r2_at, if_neg (by decide)]; exact kf_18_6
  have kf_14_3 : ρ12 14 3 = some 18 := by rw [eρ12, r2_at, if_pos rfl, if_neg (by decide)]; exact kf_14_3
  have kf_14_5 : ρ12 14 5 = some 23 := by rw [eρ12, r2_at, if_pos rfl, if_neg (by decide)]; exact kf_14_5
  have kf_14_9 : ρ12 14 9 = some 24 := by rw [eρ12, r2_at, if_pos rfl, if_pos rfl]
  refine lv_aload_n hx hb dX8_init_50 rfl (lv_at hl 0 rfl) ?_
  refine lv_bipush (v := 8) hx hb dX8_init_51 (by decide +kernel) ?_
  refine x_newa (atype := .int) (ty := .int) (t := 14) (y := 1) rfl (fun _ h => by cases h) rfl rfl (fun _ _ _ _ => rfl) C hP hS hR (kk_25 hKL) (kn_25 hKL) (hB 25 (Nat.le_refl _)) mw_27 (by decide) cl_8 (Nat.le_of_ble_eq_true rfl) (Nat.le_of_ble_eq_true rfl) (Nat.le_of_ble_eq_true rfl) dX8_init_53 (fun ad13 H hE hA C hP hS => ?_)
  rw [← hE 14 (by decide)]
  rw [← hE 14 (by decide)] at hl
  have hEE : ∀ r, r < 15 → ad13 r = ad r := fun r h => (hE r (by omega)).trans (hEE r h)
  have hAA := hA.trans hAA
  have C : Cx Y D 26 ad13 p s m args meth c cX8_init 1 none RX8 wsL_law := C
  have hP : WP Y D 26 ad13 K len σ7 ρ12 _ := hP
  have hS : va_S (AA 26 ad13 s.heap.size) s.heap _ _ := hS
  have hR : RC 26 ρ12 := RC_grow hR (hB 25 (Nat.le_refl _)).2
  have hB : BL 26 σ7 ρ12 := BL_grow hB
  obtain ⟨ρ14, eρ14, hF⟩ := nm_1 hF
  refine put_8_11 C hP hS (by decide) (kk_14 hKL) inlX8 mw_47 ⟨hnm, rfl⟩ eρ14 dX8_init_55 (fun H locs hP hS => ?_)
  have hR : RC 26 ρ14 := by rw [eρ14]; exact RC_put hR (by decide)
  have hB : BL 26 σ7 ρ14 := by rw [eρ14]; exact BL_r2 hB (by decide)
  have hU : ∀ r, r < 14 → ρ14 r = ρ r := fun r h => (congrFun eρ14 r).trans ((r2_ne r (by omega)).trans (hU r h))
  have kf_14_0 : ρ14 14 0 = some 15 := by rw [eρ14, r2_at, if_pos rfl, if_neg (by decide)]; exact kf_14_0
  have kf_16_9 : ρ14 16 9 = some 17 := by rw [eρ14, r2_at, if_neg (by decide)]; exact kf_16_9
  have kf_14_2 : ρ14 14 2 = some 16 := by rw [eρ14, r2_at, if_pos rfl, if_neg (by decide)]; exact kf_14_2
  have kf_18_3 : ρ14 18 3 = some 19 := by rw [eρ14, r2_at, if_neg (by decide)]; exact kf_18_3
  have kf_18_4 : ρ14 18 4 = some 20 := by rw [eρ14, r2_at, if_neg (by decide)]; exact kf_18_4
  have kf_18_5 : ρ14 18 5 = some 21 := by rw [eρ14, r2_at, if_neg (by decide)]; exact kf_18_5
  have kf_18_6 : ρ14 18 6 = some 22 := by rw [eρ14, r2_at, if_neg (by decide)]; exact kf_18_6
  have kf_14_3 : ρ14 14 3 = some 18 := by rw [eρ14, r2_at, if_pos rfl, if_neg (by decide)]; exact kf_14_3
  have kf_14_5 : ρ14 14 5 = some 23 := by rw [eρ14, r2_at, if_pos rfl, if_neg (by decide)]; exact kf_14_5
  have kf_14_9 : ρ14 14 9 = some 24 := by rw [eρ14, r2_at, if_pos rfl, if_neg (by decide)]; exact kf_14_9
  have kf_14_11 : ρ14 14 11 = some 25 := by rw [eρ14, r2_at, if_pos rfl, if_pos rfl]
  refine lv_aload_n hx hb dX8_init_58 rfl (lv_at hl 0 rfl) ?_
  refine lv_bipush (v := 8) hx hb dX8_init_59 (by decide +kernel) ?_
  refine x_newa (atype := .int) (ty := .int) (t := 14) (y := 1) rfl (fun _ h => by cases h) rfl rfl (fun _ _ _ _ => rfl) C hP hS hR (kk_26 hKL) (kn_26 hKL) (hB 26 (Nat.le_refl _)) mw_27 (by decide) cl_8 (Nat.le_of_ble_eq_true rfl) (Nat.le_of_ble_eq_true rfl) (Nat.le_of_ble_eq_true rfl) dX8_init_61 (fun ad15 H hE hA C hP hS => ?_)
  rw [← hE 14 (by decide)]
  rw [← hE 14 (by decide)] at hl
  have hEE : ∀ r, r < 15 → ad15 r = ad r := fun r h => (hE r (by omega)).trans (hEE r h)
  have hAA := hA.trans hAA
  have C : Cx Y D 27 ad15 p s m args meth c cX8_init 1 none RX8 wsL_law := C
  have hP : WP Y D 27 ad15 K len σ7 ρ14 _ := hP
  have hS : va_S (AA 27 ad15 s.heap.size) s.heap _ _ := hS
  have hR : RC 27 ρ14 := RC_grow hR (hB 26 (Nat.le_refl _)).2
  have hB : BL 27 σ7 ρ14 := BL_grow hB
  obtain ⟨ρ16, eρ16, hF⟩ := nm_1 hF
  refine put_8_12 C hP hS (by decide) (kk_14 hKL) inlX8 mw_48 ⟨hnm, rfl⟩ eρ16 dX8_init_63 (fun H locs hP hS => ?_)
  have hR : RC 27 ρ16 := by rw [eρ16]; exact RC_put hR (by decide)
  have hB : BL 27 σ7 ρ16 := by rw [eρ16]; exact BL_r2 hB (by decide)
  have hU : ∀ r, r < 14 → ρ16 r = ρ r := fun r h => (congrFun eρ16 r).trans ((r2_ne r (by omega)).trans (hU r h))
  have kf_14_0 : ρ16 14 0 = some 15 := by rw [eρ16, r2_at, if_pos rfl, if_neg (by decide)]; exact kf_14_0
  have kf_16_9 : ρ16 16 9 = some 17 := by rw [eρ16, r2_at, if_neg (by decide)]; exact kf_16_9
  have kf_14_2 : ρ16 14 2 = some 16 := by rw [eρ16, r2_at, if_pos rfl, if_neg (by decide)]; exact kf_14_2
  have kf_18_3 : ρ16 18 3 = some 19 := by rw [eρ16, r2_at, if_neg (by decide)]; exact kf_18_3
  have kf_18_4 : ρ16 18 4 = some 20 := by rw [eρ16, r2_at, if_neg (by decide)]; exact kf_18_4
  have kf_18_5 : ρ16 18 5 = some 21 := by rw [eρ16, r2_at, if_neg (by decide)]; exact kf_18_5
  have kf_18_6 : ρ16 18 6 = some 22 := by rw [eρ16, r2_at, if_neg (by decide)]; exact kf_18_6
  have kf_14_3 : ρ16 14 3 = some 18 := by rw [eρ16, r2_at, if_pos rfl, if_neg (by decide)]; exact kf_14_3
  have kf_14_5 : ρ16 14 5 = some 23 := by rw [eρ16, r2_at, if_pos rfl, if_neg (by decide)]; exact kf_14_5
  have kf_14_9 : ρ16 14 9 = some 24 := by rw [eρ16, r2_at, if_pos rfl, if_neg (by decide)]; exact kf_14_9
  have kf_14_11 : ρ16 14 11 = some 25 := by rw [eρ16, r2_at, if_pos rfl, if_neg (by decide)]; exact kf_14_11
  have kf_14_12 : ρ16 14 12 = some 26 := by rw [eρ16, r2_at, if_pos rfl, if_pos rfl]
  refine lv_aload_n hx hb dX8_init_66 rfl (lv_at hl 0 rfl) ?_
  refine get_8_2 C hP (by decide) (kk_14 hKL) inlX8 mw_41 kf_14_2 dX8_init_67 ?_
  refine lv_sipush (v := 300) hx hb dX8_init_70 (by decide +kernel) ?_
  obtain ⟨σ17, hq17, hF⟩ := bn_1 hF
  refine x_callV (ci := 3) rfl rfl C hP hS (c_X3_startsAnew trivial ⟨by decide, kk_16 hKL, by decide, kk_17 hKL, kn_17 hKL, kf_16_9⟩ hq17) (by decide) (kk_16 hKL) (cwV 1 C.1.2.2.2.2 (gdV mw_63 mw_64 mw_65 mw_31 mw_66) rfl rfl rfl hd_X3_startsAnew ⟨Nat.le_of_ble_eq_true rfl, Nat.le_of_ble_eq_true rfl⟩) rfl rfl hl.1 (Nat.le_of_ble_eq_true rfl) ⟨Nat.le_of_ble_eq_true rfl, Nat.le_of_ble_eq_true rfl⟩ dX8_init_73 (fun H locs hP hS => ?_)
  have hB : BL 27 σ17 ρ16 := starts_BL hB (by decide) hq17
  obtain ⟨rfl, rfl⟩ := ret_2 hF
  exact x_cret rfl hEE hAA C hP hS dX8_init_76

/-! CutCrooked$Trace.private CutCrooked$Trace(); 27 -/
theorem dX10_init_0 : decode cX10_init 0 = .ok (.aload_n 0, 1) := by decide +kernel
theorem dX10_init_1 : decode cX10_init 1 = .ok (.invokespecial 3, 3) := by decide +kernel
theorem dX10_init_4 : decode cX10_init 4 = .ok (.aload_n 0, 1) := by decide +kernel
theorem dX10_init_5 : decode cX10_init 5 = .ok (.bipush 20, 2) := by decide +kernel
theorem dX10_init_7 : decode cX10_init 7 = .ok (.newarray .int, 2) := by decide +kernel
theorem dX10_init_9 : decode cX10_init 9 = .ok (.putfield 9, 3) := by decide +kernel
theorem dX10_init_12 : decode cX10_init 12 = .ok (.return_, 1) := by decide +kernel
theorem hd_X10_init : yX10_init.cls = RX10 ∧ yX10_init.cls ≠ "java/lang/invoke/MethodHandle" ∧ yX10_init.cls ≠ "java/lang/invoke/VarHandle" ∧ (parseMethodDescriptor yX10_init.desc).map (fun d => d.parameters.length) = some 0 := by decide +kernel
abbrev rm_X10_init_27 : Room := { frames := 1, cells := 1, slots := 20, locals := 20 }
def F_X10_init_27  (σ : SG) (ρ : RG) : Option (SG × RG) :=
  nm (r2 ρ 27 0 (some 28)) fun ρ2 =>
  some (σ, ρ2)
set_option maxHeartbeats 4000000 in
set_option maxRecDepth 100000 in
theorem k_X10_init_27  {σ σ1 : SG} {ρ ρ1 : RG} (hR : RC 28 ρ) (hB : BL 28 σ ρ) (hF : F_X10_init_27 σ ρ = some (σ1, ρ1)) : RC 29 ρ1 ∧ BL 29 σ1 ρ1 ∧ (∀ r, r < 27 → ρ1 r = ρ r) ∧ ∀ q ∈ ([(27, 0, 28)] : List (Nat × Nat × Nat)), ρ1 q.1 q.2.1 = some q.2.2 := by
  unfold F_X10_init_27 at hF
  have hU : ∀ r, r < 27 → ρ r = ρ r := fun _ _ => rfl
  have hR : RC 29 ρ := RC_grow hR (hB 28 (Nat.le_refl _)).2
  have hB : BL 29 σ ρ := BL_grow hB
  obtain ⟨ρ2, eρ2, hF⟩ := nm_1 hF
  have hR : RC 29 ρ2 := by rw [eρ2]; exact RC_put hR (by decide)
  have hB : BL 29 σ ρ2 := by rw [eρ2]; exact BL_r2 hB (by decide)
  have hU : ∀ r, r < 27 → ρ2 r = ρ r := fun r h => (congrFun eρ2 r).trans ((r2_ne r (by omega)).trans (hU r h))
  have kf_27_0 : ρ2 27 0 = some 28 := by rw [eρ2, r2_at, if_pos rfl, if_pos rfl]
  obtain ⟨rfl, rfl⟩ := ret_2 hF
  refine ⟨hR, hB, hU, fun q hq => ?_⟩
  simp only [List.mem_cons, List.not_mem_nil, or_false] at hq
  rcases hq with rfl
  · exact kf_27_0
set_option maxHeartbeats 8000000 in
set_option maxRecDepth 100000 in
theorem c_X10_init_27  {σ σ1 : SG} {ρ ρ1 : RG} (hKL : LK K len) (hR : RC 28 ρ) (hB : BL 28 σ ρ) (hF : F_X10_init_27 σ ρ = some (σ1, ρ1)) : MC l Y D 28 ad K len yX10_init (Cond.code yX10_init cX10_init 1 none :: wsL_law) rm_X10_init_27 [.ref (ad 27)] σ ρ (fun _ => none) 29 K len σ1 ρ1 1 20 := by
  refine mc_of (cc := cX10_init) (nL := 1) (ret := none) (by decide) (Nat.le_of_ble_eq_true rfl) ?_
  intro p e s m args below meth c ls C hnm hP hS hl
  have hx := C.1.1
  have hb := C.1.2.1
  have hl : lv_has ls 1 [(0, .ref (ad 27))] := hl
  have hEE : ∀ r, r < 28 → ad r = ad r := fun _ _ => rfl
  have hAA : AA 28 ad s.heap.size = AA 28 ad s.heap.size := rfl
  have hU : ∀ r, r < 27 → ρ r = ρ r := fun _ _ => rfl
  unfold F_X10_init_27 at hF
  refine lv_aload_n hx hb dX10_init_0 rfl (lv_at hl 0 rfl) ?_
  refine x_obj C hl.1 mw_75 mw_10 mw_11 dX10_init_1 (Nat.le_of_ble_eq_true rfl) (Nat.le_of_ble_eq_true rfl) ?_
  refine lv_aload_n hx hb dX10_init_4 rfl (lv_at hl 0 rfl) ?_
  refine lv_bipush (v := 20) hx hb dX10_init_5 (by decide +kernel) ?_
  refine x_newa (atype := .int) (ty := .int) (t := 14) (y := 1) rfl (fun _ h => by cases h) rfl rfl (fun _ _ _ _ => rfl) C hP hS hR (kk_28 hKL) (kn_28 hKL) (hB 28 (Nat.le_refl _)) mw_27 (by decide) cl_20 (Nat.le_of_ble_eq_true rfl) (Nat.le_of_ble_eq_true rfl) (Nat.le_of_ble_eq_true rfl) dX10_init_7 (fun ad1 H hE hA C hP hS => ?_)
  rw [← hE 27 (by decide)]
  rw [← hE 27 (by decide)] at hl
  have hEE : ∀ r, r < 28 → ad1 r = ad r := fun r h => (hE r (by omega)).trans (hEE r h)
  have hAA := hA.trans hAA
  have C : Cx Y D 29 ad1 p s m args meth c cX10_init 1 none RX10 wsL_law := C
  have hP : WP Y D 29 ad1 K len σ ρ _ := hP
  have hS : va_S (AA 29 ad1 s.heap.size) s.heap _ _ := hS
  have hR : RC 29 ρ := RC_grow hR (hB 28 (Nat.le_refl _)).2
  have hB : BL 29 σ ρ := BL_grow hB
  obtain ⟨ρ2, eρ2, hF⟩ := nm_1 hF
  refine put_10_0 C hP hS (by decide) (kk_27 hKL) inlX10 mw_76 ⟨hnm, rfl⟩ eρ2 dX10_init_9 (fun H locs hP hS => ?_)
  have hR : RC 29 ρ2 := by rw [eρ2]; exact RC_put hR (by decide)
  have hB : BL 29 σ ρ2 := by rw [eρ2]; exact BL_r2 hB (by decide)
  have hU : ∀ r, r < 27 → ρ2 r = ρ r := fun r h => (congrFun eρ2 r).trans ((r2_ne r (by omega)).trans (hU r h))
  have kf_27_0 : ρ2 27 0 = some 28 := by rw [eρ2, r2_at, if_pos rfl, if_pos rfl]
  obtain ⟨rfl, rfl⟩ := ret_2 hF
  exact x_cret rfl hEE hAA C hP hS dX10_init_12

/-! CutCrooked.public CutCrooked(); 0 -/
theorem dX11_init_0 : decode cX11_init 0 = .ok (.aload_n 0, 1) := by decide +kernel
theorem dX11_init_1 : decode cX11_init 1 = .ok (.invokespecial 3, 3) := by decide +kernel
theorem dX11_init_4 : decode cX11_init 4 = .ok (.aload_n 0, 1) := by decide +kernel
theorem dX11_init_5 : decode cX11_init 5 = .ok (.new 9, 3) := by decide +kernel
theorem dX11_init_8 : decode cX11_init 8 = .ok (.dup, 1) := by decide +kernel
theorem dX11_init_9 : decode cX11_init 9 = .ok (.invokespecial 11, 3) := by decide +kernel
theorem dX11_init_12 : decode cX11_init 12 = .ok (.putfield 12, 3) := by decide +kernel
theorem dX11_init_15 : decode cX11_init 15 = .ok (.aload_n 0, 1) := by decide +kernel
theorem dX11_init_16 : decode cX11_init 16 = .ok (.new 9, 3) := by decide +kernel
theorem dX11_init_19 : decode cX11_init 19 = .ok (.dup, 1) := by decide +kernel
theorem dX11_init_20 : decode cX11_init 20 = .ok (.invokespecial 11, 3) := by decide +kernel
theorem dX11_init_23 : decode cX11_init 23 = .ok (.putfield 18, 3) := by decide +kernel
theorem dX11_init_26 : decode cX11_init 26 = .ok (.aload_n 0, 1) := by decide +kernel
theorem dX11_init_27 : decode cX11_init 27 = .ok (.new 21, 3) := by decide +kernel
theorem dX11_init_30 : decode cX11_init 30 = .ok (.dup, 1) := by decide +kernel
theorem dX11_init_31 : decode cX11_init 31 = .ok (.invokespecial 23, 3) := by decide +kernel
theorem dX11_init_34 : decode cX11_init 34 = .ok (.putfield 24, 3) := by decide +kernel
theorem dX11_init_37 : decode cX11_init 37 = .ok (.aload_n 0, 1) := by decide +kernel
theorem dX11_init_38 : decode cX11_init 38 = .ok (.new 28, 3) := by decide +kernel
theorem dX11_init_41 : decode cX11_init 41 = .ok (.dup, 1) := by decide +kernel
theorem dX11_init_42 : decode cX11_init 42 = .ok (.invokespecial 30, 3) := by decide +kernel
theorem dX11_init_45 : decode cX11_init 45 = .ok (.putfield 31, 3) := by decide +kernel
theorem dX11_init_48 : decode cX11_init 48 = .ok (.aload_n 0, 1) := by decide +kernel
theorem dX11_init_49 : decode cX11_init 49 = .ok (.bipush 7, 2) := by decide +kernel
theorem dX11_init_51 : decode cX11_init 51 = .ok (.anewarray 35, 3) := by decide +kernel
theorem dX11_init_54 : decode cX11_init 54 = .ok (.putfield 37, 3) := by decide +kernel
theorem dX11_init_57 : decode cX11_init 57 = .ok (.aload_n 0, 1) := by decide +kernel
theorem dX11_init_58 : decode cX11_init 58 = .ok (.bipush 6, 2) := by decide +kernel
theorem dX11_init_60 : decode cX11_init 60 = .ok (.newarray .int, 2) := by decide +kernel
theorem dX11_init_62 : decode cX11_init 62 = .ok (.putfield 41, 3) := by decide +kernel
theorem dX11_init_65 : decode cX11_init 65 = .ok (.aload_n 0, 1) := by decide +kernel
theorem dX11_init_66 : decode cX11_init 66 = .ok (.bipush 6, 2) := by decide +kernel
theorem dX11_init_68 : decode cX11_init 68 = .ok (.newarray .int, 2) := by decide +kernel
theorem dX11_init_70 : decode cX11_init 70 = .ok (.putfield 45, 3) := by decide +kernel
theorem dX11_init_73 : decode cX11_init 73 = .ok (.aload_n 0, 1) := by decide +kernel
theorem dX11_init_74 : decode cX11_init 74 = .ok (.new 35, 3) := by decide +kernel
theorem dX11_init_77 : decode cX11_init 77 = .ok (.dup, 1) := by decide +kernel
theorem dX11_init_78 : decode cX11_init 78 = .ok (.invokespecial 48, 3) := by decide +kernel
theorem dX11_init_81 : decode cX11_init 81 = .ok (.putfield 49, 3) := by decide +kernel
theorem dX11_init_84 : decode cX11_init 84 = .ok (.aload_n 0, 1) := by decide +kernel
theorem dX11_init_85 : decode cX11_init 85 = .ok (.bipush 6, 2) := by decide +kernel
theorem dX11_init_87 : decode cX11_init 87 = .ok (.newarray .int, 2) := by decide +kernel
theorem dX11_init_89 : decode cX11_init 89 = .ok (.putfield 53, 3) := by decide +kernel
theorem dX11_init_92 : decode cX11_init 92 = .ok (.iconst 0, 1) := by decide +kernel
theorem dX11_init_93 : decode cX11_init 93 = .ok (.istore_n 1, 1) := by decide +kernel
theorem dX11_init_94 : decode cX11_init 94 = .ok (.iload_n 1, 1) := by decide +kernel
theorem dX11_init_95 : decode cX11_init 95 = .ok (.aload_n 0, 1) := by decide +kernel
theorem dX11_init_96 : decode cX11_init 96 = .ok (.getfield 37, 3) := by decide +kernel
theorem dX11_init_99 : decode cX11_init 99 = .ok (.arraylength, 1) := by decide +kernel
theorem dX11_init_100 : decode cX11_init 100 = .ok (.if_icmp .ge 22, 3) := by decide +kernel
theorem dX11_init_103 : decode cX11_init 103 = .ok (.aload_n 0, 1) := by decide +kernel
theorem dX11_init_104 : decode cX11_init 104 = .ok (.getfield 37, 3) := by decide +kernel
theorem dX11_init_107 : decode cX11_init 107 = .ok (.iload_n 1, 1) := by decide +kernel
theorem dX11_init_108 : decode cX11_init 108 = .ok (.new 35, 3) := by decide +kernel
theorem dX11_init_111 : decode cX11_init 111 = .ok (.dup, 1) := by decide +kernel
theorem dX11_init_112 : decode cX11_init 112 = .ok (.invokespecial 48, 3) := by decide +kernel
theorem dX11_init_115 : decode cX11_init 115 = .ok (.aastore, 1) := by decide +kernel
theorem dX11_init_116 : decode cX11_init 116 = .ok (.iinc 1 1, 3) := by decide +kernel
theorem dX11_init_119 : decode cX11_init 119 = .ok (.goto (-25), 3) := by decide +kernel
theorem dX11_init_122 : decode cX11_init 122 = .ok (.return_, 1) := by decide +kernel
theorem hd_X11_init : yX11_init.cls = RX11 ∧ yX11_init.cls ≠ "java/lang/invoke/MethodHandle" ∧ yX11_init.cls ≠ "java/lang/invoke/VarHandle" ∧ (parseMethodDescriptor yX11_init.desc).map (fun d => d.parameters.length) = some 0 := by decide +kernel
abbrev rm_X11_init_0 : Room := { frames := 3, cells := 53, slots := 913, locals := 60 }
def F_X11_init_0  (σ : SG) (ρ : RG) : Option (SG × RG) :=
  bn2 (F_X8_init_1 σ ρ) fun σ2 ρ2 =>
  nm (r2 ρ2 0 0 (some 1)) fun ρ3 =>
  bn2 (F_X8_init_14 σ2 ρ3) fun σ5 ρ5 =>
  nm (r2 ρ5 0 1 (some 14)) fun ρ6 =>
  bn2 (F_X10_init_27 σ5 ρ6) fun σ8 ρ8 =>
  nm (r2 ρ8 0 3 (some 27)) fun ρ9 =>
  bn2 (F_X0_init_29 σ8 ρ9) fun σ11 ρ11 =>
  nm (r2 ρ11 0 4 (some 29)) fun ρ12 =>
  nm (r2 ρ12 0 5 (some 34)) fun ρ14 =>
  nm (r2 ρ14 0 6 (some 35)) fun ρ16 =>
  nm (r2 ρ16 0 7 (some 36)) fun ρ18 =>
  bn2 (F_X3_init_37 σ11 ρ18) fun σ20 ρ20 =>
  nm (r2 ρ20 0 11 (some 37)) fun ρ21 =>
  nm (r2 ρ21 0 12 (some 39)) fun ρ23 =>
  bn2 (F_X3_init_40 σ20 ρ23) fun σ26 ρ26 =>
  nm (r2 ρ26 34 0 (some 40)) fun ρ27 =>
  bn2 (F_X3_init_42 σ26 ρ27) fun σ30 ρ30 =>
  nm (r2 ρ30 34 1 (some 42)) fun ρ31 =>
  bn2 (F_X3_init_44 σ30 ρ31) fun σ34 ρ34 =>
  nm (r2 ρ34 34 2 (some 44)) fun ρ35 =>
  bn2 (F_X3_init_46 σ34 ρ35) fun σ38 ρ38 =>
  nm (r2 ρ38 34 3 (some 46)) fun ρ39 =>
  bn2 (F_X3_init_48 σ38 ρ39) fun σ42 ρ42 =>
  nm (r2 ρ42 34 4 (some 48)) fun ρ43 =>
  bn2 (F_X3_init_50 σ42 ρ43) fun σ46 ρ46 =>
  nm (r2 ρ46 34 5 (some 50)) fun ρ47 =>
  bn2 (F_X3_init_52 σ46 ρ47) fun σ50 ρ50 =>
  nm (r2 ρ50 34 6 (some 52)) fun ρ51 =>
  some (σ50, ρ51)
set_option maxHeartbeats 4000000 in
set_option maxRecDepth 100000 in
theorem k_X11_init_0  {σ σ1 : SG} {ρ ρ1 : RG} (hR : RC 1 ρ) (hB : BL 1 σ ρ) (hF : F_X11_init_0 σ ρ = some (σ1, ρ1)) : RC 54 ρ1 ∧ BL 54 σ1 ρ1 ∧ (∀ r, r < 0 → ρ1 r = ρ r) ∧ ∀ q ∈ ([(0, 0, 1), (0, 1, 14), (0, 3, 27), (0, 4, 29), (0, 5, 34), (0, 6, 35), (0, 7, 36), (0, 11, 37), (0, 12, 39)] : List (Nat × Nat × Nat)), ρ1 q.1 q.2.1 = some q.2.2 := by
  unfold F_X11_init_0 at hF
  have hU : ∀ r, r < 0 → ρ r = ρ r := fun _ _ => rfl
  have hR : RC 2 ρ := RC_grow hR (hB 1 (Nat.le_refl _)).2
  have hB : BL 2 σ ρ := BL_grow hB
  obtain ⟨σ2, ρ2, hq2, hF⟩ := bn2_1 hF
  obtain ⟨hR, hB, hU2, hkn⟩ := k_X8_init_1 hR hB hq2
  have hU : ∀ r, r < 0 → ρ2 r = ρ r := fun r h => (hU2 r (by omega)).trans (hU r h)
  have kf_1_0 : ρ2 1 0 = some 2 := hkn (1, 0, 2) (by decide)
  have kf_1_2 : ρ2 1 2 = some 3 := hkn (1, 2, 3) (by decide)
  have kf_1_3 : ρ2 1 3 = some 5 := hkn (1, 3, 5) (by decide)
  have kf_1_5 : ρ2 1 5 = some 10 := hkn (1, 5, 10) (by decide)
  have kf_1_9 : ρ2 1 9 = some 11 := hkn (1, 9, 11) (by decide)
  have kf_1_11 : ρ2 1 11 = some 12 := hkn (1, 11, 12) (by decide)
  have kf_1_12 : ρ2 1 12 = some 13 := hkn (1, 12, 13) (by decide)
  obtain ⟨ρ3, eρ3, hF⟩ := nm_1 hF
  have hR : RC 14 ρ3 := by rw [eρ3]; exact RC_put hR (by decide)
  have hB : BL 14 σ2 ρ3 := by rw [eρ3]; exact BL_r2 hB (by decide)
  have hU : ∀ r, r < 0 → ρ3 r = ρ r := fun r h => (congrFun eρ3 r).trans ((r2_ne r (by omega)).trans (hU r h))
  have kf_1_0 : ρ3 1 0 = some 2 := by rw [eρ3, r2_at, if_neg (by decide)]; exact kf_1_0
  have kf_1_2 : ρ3 1 2 = some 3 := by rw [eρ3, r2_at, if_neg (by decide)]; exact kf_1_2
  have kf_1_3 : ρ3 1 3 = some 5 := by rw [eρ3, r2_at, if_neg (by decide)]; exact kf_1_3
  have kf_1_5 : ρ3 1 5 = some 10 := by rw [eρ3, r2_at, if_neg (by decide)]; exact kf_1_5
  have kf_1_9 : ρ3 1 9 = some 11 := by rw [eρ3, r2_at, if_neg (by decide)]; exact kf_1_9
  have kf_1_11 : ρ3 1 11 = some 12 := by rw [eρ3, r2_at, if_neg (by decide)]; exact kf_1_11
  have kf_1_12 : ρ3 1 12 = some 13 := by rw [eρ3, r2_at, if_neg (by decide)]; exact kf_1_12
  have kf_0_0 : ρ3 0 0 = some 1 := by rw [eρ3, r2_at, if_pos rfl, if_pos rfl]
  have hR : RC 15 ρ3 := RC_grow hR (hB 14 (Nat.le_refl _)).2
  have hB : BL 15 σ2 ρ3 := BL_grow hB
  obtain ⟨σ5, ρ5, hq5, hF⟩ := bn2_1 hF
  obtain ⟨hR, hB, hU5, hkn⟩ := k_X8_init_14 hR hB hq5
  have hU : ∀ r, r < 0 → ρ5 r = ρ r := fun r h => (hU5 r (by omega)).trans (hU r h)
  have kf_1_0 : ρ5 1 0 = some 2 := by rw [hU5 1 (by decide)]; exact kf_1_0
  have kf_1_2 : ρ5 1 2 = some 3 := by rw [hU5 1 (by decide)]; exact kf_1_2
  have kf_1_3 : ρ5 1 3 = some 5 := by rw [hU5 1 (by decide)]; exact kf_1_3
  have kf_1_5 : ρ5 1 5 = some 10 := by rw [hU5 1 (by decide)]; exact kf_1_5
  have kf_1_9 : ρ5 1 9 = some 11 := by rw [hU5 1 (by decide)]; exact kf_1_9
  have kf_1_11 : ρ5 1 11 = some 12 := by rw [hU5 1 (by decide)]; exact kf_1_11
  have kf_1_12 : ρ5 1 12 = some 13 := by rw [hU5 1 (by decide)]; exact kf_1_12
  have kf_0_0 : ρ5 0 0 = some 1 := by rw [hU5 0 (by decide)]; exact kf_0_0
  have kf_14_0 : ρ5 14 0 = some 15 := hkn (14, 0, 15) (by decide)
  have kf_14_2 : ρ5 14 2 = some 16 := hkn (14, 2, 16) (by decide)
  have kf_14_3 : ρ5 14 3 = some 18 := hkn (14, 3, 18) (by decide)
  have kf_14_5 : ρ5 14 5 = some 23 := hkn (14, 5, 23) (by decide)
  have kf_14_9 : ρ5 14 9 = some 24 := hkn (14, 9, 24) (by decide)
  have kf_14_11 : ρ5 14 11 = some 25 := hkn (14, 11, 25) (by decide)
  have kf_14_12 : ρ5 14 12 = some 26 := hkn (14, 12, 26) (by decide)
  obtain ⟨ρ6, eρ6, hF⟩ := nm_1 hF
  have hR : RC 27 ρ6 := by rw [eρ6]; exact RC_put hR (by decide)
  have hB : BL 27 σ5 ρ6 := by rw [eρ6]; exact BL_r2 hB (by decide)
  have hU : ∀ r, r < 0 → ρ6 r = ρ r := fun r h => (congrFun eρ6 r).trans ((r2_ne r (by omega)).trans (hU r h))
  have kf_1_0 : ρ6 1 0 = some 2 := by rw [eρ6, r2_at, if_neg (by decide)]; exact kf_1_0
  have kf_1_2 : ρ6 1 2 = some 3 := by rw [eρ6, r2_at, if_neg (by decide)]; exact kf_1_2
  have kf_1_3 : ρ6 1 3 = some 5 := by rw [eρ6, r2_at, if_neg (by decide)]; exact kf_1_3
  have kf_1_5 : ρ6 1 5 = some 10 := by rw [eρ6, r2_at, if_neg (by decide)]; exact kf_1_5
  have kf_1_9 : ρ6 1 9 = some 11 := by rw [eρ6, r2_at, if_neg (by decide)]; exact kf_1_9
  have kf_1_11 : ρ6 1 11 = some 12 := by rw [eρ6, r2_at, if_neg (by decide)]; exact kf_1_11
  have kf_1_12 : ρ6 1 12 = some 13 := by rw [eρ6, r2_at, if_neg (by decide)]; exact kf_1_12
  have kf_0_0 : ρ6 0 0 = some 1 := by rw [eρ6, r2_at, if_pos rfl, if_neg (by decide)]; exact kf_0_0
  have kf_14_0 : ρ6 14 0 = some 15 := by rw [eρ6, r2_at, if_neg (by decide)]; exact kf_14_0
  have kf_14_2 : ρ6 14 2 = some 16 := by rw [eρ6, r2_at, if_neg (by decide)]; exact kf_14_2
  have kf_14_3 : ρ6 14 3 = some 18 := by rw [eρ6, r2_at, if_neg (by decide)]; exact kf_14_3
  have kf_14_5 : ρ6 14 5 = some 23 := by rw [eρ6, r2_at, if_neg (by decide)]; exact kf_14_5
  have kf_14_9 : ρ6 14 9 = some 24 := by rw [eρ6, r2_at, if_neg (by decide)]; exact kf_14_9
  have kf_14_11 : ρ6 14 11 = some 25 := by rw [eρ6, r2_at, if_neg (by decide)]; exact kf_14_11
  have kf_14_12 : ρ6 14 12 = some 26 := by rw [eρ6, r2_at, if_neg (by decide)]; exact kf_14_12
  have kf_0_1 : ρ6 0 1 = some 14 := by rw [eρ6, r2_at, if_pos rfl, if_pos rfl]
  have hR : RC 28 ρ6 := RC_grow hR (hB 27 (Nat.le_refl _)).2
  have hB : BL 28 σ5 ρ6 := BL_grow hB
  obtain ⟨σ8, ρ8, hq8, hF⟩ := bn2_1 hF
  obtain ⟨hR, hB, hU8, hkn⟩ := k_X10_init_27 hR hB hq8
  have hU : ∀ r, r < 0 → ρ8 r = ρ r := fun r h => (hU8 r (by omega)).trans (hU r h)
  have kf_1_0 : ρ8 1 0 = some 2 := by rw [hU8 1 (by decide)]; exact kf_1_0
  have kf_1_2 : ρ8 1 2 = some 3 := by rw [hU8 1 (by decide)]; exact kf_1_2
  have kf_1_3 : ρ8 1 3 = some 5 := by rw [hU8 1 (by decide)]; exact kf_1_3
  have kf_1_5 : ρ8 1 5 = some 10 := by rw [hU8 1 (by decide)]; exact kf_1_5
  have kf_1_9 : ρ8 1 9 = some 11 := by rw [hU8 1 (by decide)]; exact kf_1_9
  have kf_1_11 : ρ8 1 11 = some 12 := by rw [hU8 1 (by decide)]; exact kf_1_11
  have kf_1_12 : ρ8 1 12 = some 13 := by rw [hU8 1 (by decide)]; exact kf_1_12
  have kf_0_0 : ρ8 0 0 = some 1 := by rw [hU8 0 (by decide)]; exact kf_0_0
  have kf_14_0 : ρ8 14 0 = some 15 := by rw [hU8 14 (by decide)]; exact kf_14_0
  have kf_14_2 : ρ8 14 2 = some 16 := by rw [hU8 14 (by decide)]; exact kf_14_2
  have kf_14_3 : ρ8 14 3 = some 18 := by rw [hU8 14 (by decide)]; exact kf_14_3
  have kf_14_5 : ρ8 14 5 = some 23 := by rw [hU8 14 (by decide)]; exact kf_14_5
  have kf_14_9 : ρ8 14 9 = some 24 := by rw [hU8 14 (by decide)]; exact kf_14_9
  have kf_14_11 : ρ8 14 11 = some 25 := by rw [hU8 14 (by decide)]; exact kf_14_11
  have kf_14_12 : ρ8 14 12 = some 26 := by rw [hU8 14 (by decide)]; exact kf_14_12
  have kf_0_1 : ρ8 0 1 = some 14 := by rw [hU8 0 (by decide)]; exact kf_0_1
  have kf_27_0 : ρ8 27 0 = some 28 := hkn (27, 0, 28) (by decide)
  obtain ⟨ρ9, eρ9, hF⟩ := nm_1 hF
  have hR : RC 29 ρ9 := by rw [eρ9]; exact RC_put hR (by decide)
  have hB : BL 29 σ8 ρ9 := by rw [eρ9]; exact BL_r2 hB (by decide)
  have hU : ∀ r, r < 0 → ρ9 r = ρ r := fun r h => (congrFun eρ9 r).trans ((r2_ne r (by omega)).trans (hU r h))
  have kf_1_0 : ρ9 1 0 = some 2 := by rw [eρ9, r2_at, if_neg (by decide)]; exact kf_1_0
  have kf_1_2 : ρ9 1 2 = some 3 := by rw [eρ9, r2_at, if_neg (by decide)]; exact kf_1_2
  have kf_1_3 : ρ9 1 3 = some 5 := by rw [eρ9, r2_at, if_neg (by decide)]; exact kf_1_3
  have kf_1_5 : ρ9 1 5 = some 10 := by rw [eρ9, r2_at, if_neg (by decide)]; exact kf_1_5
  have kf_1_9 : ρ9 1 9 = some 11 := by rw [eρ9, r2_at, if_neg (by decide)]; exact kf_1_9
  have kf_1_11 : ρ9 1 11 = some 12 := by rw [eρ9, r2_at, if_neg (by decide)]; exact kf_1_11
  have kf_1_12 : ρ9 1 12 = some 13 := by rw [eρ9, r2_at, if_neg (by decide)]; exact kf_1_12
  have kf_0_0 : ρ9 0 0 = some 1 := by rw [eρ9, r2_at, if_pos rfl, if_neg (by decide)]; exact kf_0_0
  have kf_14_0 : ρ9 14 0 = some 15 := by rw [eρ9, r2_at, if_neg (by decide)]; exact kf_14_0
  have kf_14_2 : ρ9 14 2 = some 16 := by rw [eρ9, r2_at, if_neg (by decide)]; exact kf_14_2
  have kf_14_3 : ρ9 14 3 = some 18 := by rw [eρ9, r2_at, if_neg (by decide)]; exact kf_14_3
  have kf_14_5 : ρ9 14 5 = some 23 := by rw [eρ9, r2_at, if_neg (by decide)]; exact kf_14_5
  have kf_14_9 : ρ9 14 9 = some 24 := by rw [eρ9, r2_at, if_neg (by decide)]; exact kf_14_9
  have kf_14_11 : ρ9 14 11 = some 25 := by rw [eρ9, r2_at, if_neg (by decide)]; exact kf_14_11
  have kf_14_12 : ρ9 14 12 = some 26 := by rw [eρ9, r2_at, if_neg (by decide)]; exact kf_14_12
  have kf_0_1 : ρ9 0 1 = some 14 := by rw [eρ9, r2_at, if_pos rfl, if_neg (by decide)]; exact kf_0_1
  have kf_27_0 : ρ9 27 0 = some 28 := by rw [eρ9, r2_at, if_neg (by decide)]; exact kf_27_0
  have kf_0_3 : ρ9 0 3 = some 27 := by rw [eρ9, r2_at, if_pos rfl, if_pos rfl]
  have hR : RC 30 ρ9 := RC_grow hR (hB 29 (Nat.le_refl _)).2
  have hB : BL 30 σ8 ρ9 := BL_grow hB
  obtain ⟨σ11, ρ11, hq11, hF⟩ := bn2_1 hF
  obtain ⟨hR, hB, hU11, hkn⟩ := k_X0_init_29 hR hB hq11
  have hU : ∀ r, r < 0 → ρ11 r = ρ r := fun r h => (hU11 r (by omega)).trans (hU r h)
  have kf_1_0 : ρ11 1 0 = some 2 := by rw [hU11 1 (by decide)]; exact kf_1_0
  have kf_1_2 : ρ11 1 2 = some 3 := by rw [hU11 1 (by decide)]; exact kf_1_2
  have kf_1_3 : ρ11 1 3 = some 5 := by rw [hU11 1 (by decide)]; exact kf_1_3
  have kf_1_5 : ρ11 1 5 = some 10 := by rw [hU11 1 (by decide)]; exact kf_1_5
  have kf_1_9 : ρ11 1 9 = some 11 := by rw [hU11 1 (by decide)]; exact kf_1_9
  have kf_1_11 : ρ11 1 11 = some 12 := by rw [hU11 1 (by decide)]; exact kf_1_11
  have kf_1_12 : ρ11 1 12 = some 13 := by rw [hU11 1 (by decide)]; exact kf_1_12
  have kf_0_0 : ρ11 0 0 = some 1 := by rw [hU11 0 (by decide)]; exact kf_0_0
  have kf_14_0 : ρ11 14 0 = some 15 := by rw [hU11 14 (by decide)]; exact kf_14_0
  have kf_14_2 : ρ11 14 2 = some 16 := by rw [hU11 14 (by decide)]; exact kf_14_2
  have kf_14_3 : ρ11 14 3 = some 18 := by rw [hU11 14 (by decide)]; exact kf_14_3
  have kf_14_5 : ρ11 14 5 = some 23 := by rw [hU11 14 (by decide)]; exact kf_14_5
  have kf_14_9 : ρ11 14 9 = some 24 := by rw [hU11 14 (by decide)]; exact kf_14_9
  have kf_14_11 : ρ11 14 11 = some 25 := by rw [hU11 14 (by decide)]; exact kf_14_11
  have kf_14_12 : ρ11 14 12 = some 26 := by rw [hU11 14 (by decide)]; exact kf_14_12
  have kf_0_1 : ρ11 0 1 = some 14 := by rw [hU11 0 (by decide)]; exact kf_0_1
  have kf_27_0 : ρ11 27 0 = some 28 := by rw [hU11 27 (by decide)]; exact kf_27_0
  have kf_0_3 : ρ11 0 3 = some 27 := by rw [hU11 0 (by decide)]; exact kf_0_3
  have kf_29_3 : ρ11 29 3 = some 30 := hkn (29, 3, 30) (by decide)
  have kf_29_4 : ρ11 29 4 = some 31 := hkn (29, 4, 31) (by decide)
  have kf_29_5 : ρ11 29 5 = some 32 := hkn (29, 5, 32) (by decide)
  have kf_29_6 : ρ11 29 6 = some 33 := hkn (29, 6, 33) (by decide)
  obtain ⟨ρ12, eρ12, hF⟩ := nm_1 hF
  have hR : RC 34 ρ12 := by rw [eρ12]; exact RC_put hR (by decide)
  have hB : BL 34 σ11 ρ12 := by rw [eρ12]; exact BL_r2 hB (by decide)
  have hU : ∀ r, r < 0 → ρ12 r = ρ r := fun r h => (congrFun eρ12 r).trans ((r2_ne r (by omega)).trans (hU r h))
  have kf_1_0 : ρ12 1 0 = some 2 := by rw [eρ12, r2_at, if_neg (by decide)]; exact kf_1_0
  have kf_1_2 : ρ12 1 2 = some 3 := by rw [eρ12, r2_at, if_neg (by decide)]; exact kf_1_2
  have kf_1_3 : ρ12 1 3 = some 5 := by rw [eρ12, r2_at, if_neg (by decide)]; exact kf_1_3
  have kf_1_5 : ρ12 1 5 = some 10 := by rw [eρ12, r2_at, if_neg (by decide)]; exact kf_1_5
  have kf_1_9 : ρ12 1 9 = some 11 := by rw [eρ12, r2_at, if_neg (by decide)]; exact kf_1_9
  have kf_1_11 : ρ12 1 11 = some 12 := by rw [eρ12, r2_at, if_neg (by decide)]; exact kf_1_11
  have kf_1_12 : ρ12 1 12 = some 13 := by rw [eρ12, r2_at, if_neg (by decide)]; exact kf_1_12
  have kf_0_0 : ρ12 0 0 = some 1 := by rw [eρ12, r2_at, if_pos rfl, if_neg (by decide)]; exact kf_0_0
  have kf_14_0 : ρ12 14 0 = some 15 := by rw [eρ12, r2_at, if_neg (by decide)]; exact kf_14_0
  have kf_14_2 : ρ12 14 2 = some 16 := by rw [eρ12, r2_at, if_neg (by decide)]; exact kf_14_2
  have kf_14_3 : ρ12 14 3 = some 18 := by rw [eρ12, r2_at, if_neg (by decide)]; exact kf_14_3
  have kf_14_5 : ρ12 14 5 = some 23 := by rw [eρ12, r2_at, if_neg (by decide)]; exact kf_14_5
  have kf_14_9 : ρ12 14 9 = some 24 := by rw [eρ12, r2_at, if_neg (by decide)]; exact kf_14_9
  have kf_14_11 : ρ12 14 11 = some 25 := by rw [eρ12, r2_at, if_neg (by decide)]; exact kf_14_11
  have kf_14_12 : ρ12 14 12 = some 26 := by rw [eρ12, r2_at, if_neg (by decide)]; exact kf_14_12
  have kf_0_1 : ρ12 0 1 = some 14 := by rw [eρ12, r2_at, if_pos rfl, if_neg (by decide)]; exact kf_0_1
  have kf_27_0 : ρ12 27 0 = some 28 := by rw [eρ12, r2_at, if_neg (by decide)]; exact kf_27_0
  have kf_0_3 : ρ12 0 3 = some 27 := by rw [eρ12, r2_at, if_pos rfl, if_neg (by decide)]; exact kf_0_3
  have kf_29_3 : ρ12 29 3 = some 30 := by rw [eρ12, r2_at, if_neg (by decide)]; exact kf_29_3
  have kf_29_4 : ρ12 29 4 = some 31 := by rw [eρ12, r2_at, if_neg (by decide)]; exact kf_29_4
  have kf_29_5 : ρ12 29 5 = some 32 := by rw [eρ12, r2_at, if_neg (by decide)]; exact kf_29_5
  have kf_29_6 : ρ12 29 6 = some 33 := by rw [eρ12, r2_at, if_neg (by decide)]; exact kf_29_6
  have kf_0_4 : ρ12 0 4 = some 29 := by rw [eρ12, r2_at, if_pos rfl, if_pos rfl]
  have hR : RC 35 ρ12 := RC_grow hR (hB 34 (Nat.le_refl _)).2
  have hB : BL 35 σ11 ρ12 := BL_grow hB
  obtain ⟨ρ14, eρ14, hF⟩ := nm_1 hF
  have hR : RC 35 ρ14 := by rw [eρ14]; exact RC_put hR (by decide)
  have hB : BL 35 σ11 ρ14 := by rw [eρ14]; exact BL_r2 hB (by decide)
  have hU : ∀ r, r < 0 → ρ14 r = ρ r := fun r h => (congrFun eρ14 r).trans ((r2_ne r (by omega)).trans (hU r h))
  have kf_1_0 : ρ14 1 0 = some 2 := by rw [eρ14, r2_at, if_neg (by decide)]; exact kf_1_0
  have kf_1_2 : ρ14 1 2 = some 3 := by rw [eρ14, r2_at, if_neg (by decide)]; exact kf_1_2
  have kf_1_3 : ρ14 1 3 = some 5 := by rw [eρ14, r2_at, if_neg (by decide)]; exact kf_1_3
  have kf_1_5 : ρ14 1 5 = some 10 := by rw [eρ14, r2_at, if_neg (by decide)]; exact kf_1_5
  have kf_1_9 : ρ14 1 9 = some 11 := by rw [eρ14, r2_at, if_neg (by decide)]; exact kf_1_9
  have kf_1_11 : ρ14 1 11 = some 12 := by rw [eρ14, r2_at, if_neg (by decide)]; exact kf_1_11
  have kf_1_12 : ρ14 1 12 = some 13 := by rw [eρ14, r2_at, if_neg (by decide)]; exact kf_1_12
  have kf_0_0 : ρ14 0 0 = some 1 := by rw [eρ14, r2_at, if_pos rfl, if_neg (by decide)]; exact kf_0_0
  have kf_14_0 : ρ14 14 0 = some 15 := by rw [eρ14, r2_at, if_neg (by decide)]; exact kf_14_0
  have kf_14_2 : ρ14 14 2 = some 16 := by rw [eρ14, r2_at, if_neg (by decide)]; exact kf_14_2
  have kf_14_3 : ρ14 14 3 = some 18 := by rw [eρ14, r2_at, if_neg (by decide)]; exact kf_14_3
  have kf_14_5 : ρ14 14 5 = some 23 := by rw [eρ14, r2_at, if_neg (by decide)]; exact kf_14_5
  have kf_14_9 : ρ14 14 9 = some 24 := by rw [eρ14, r2_at, if_neg (by decide)]; exact kf_14_9
  have kf_14_11 : ρ14 14 11 = some 25 := by rw [eρ14, r2_at, if_neg (by decide)]; exact kf_14_11
  have kf_14_12 : ρ14 14 12 = some 26 := by rw [eρ14, r2_at, if_neg (by decide)]; exact kf_14_12
  have kf_0_1 : ρ14 0 1 = some 14 := by rw [eρ14, r2_at, if_pos rfl, if_neg (by decide)]; exact kf_0_1
  have kf_27_0 : ρ14 27 0 = some 28 := by rw [eρ14, r2_at, if_neg (by decide)]; exact kf_27_0
  have kf_0_3 : ρ14 0 3 = some 27 := by rw [eρ14, r2_at, if_pos rfl, if_neg (by decide)]; exact kf_0_3
  have kf_29_3 : ρ14 29 3 = some 30 := by rw [eρ14, r2_at, if_neg (by decide)]; exact kf_29_3
  have kf_29_4 : ρ14 29 4 = some 31 := by rw [eρ14, r2_at, if_neg (by decide)]; exact kf_29_4
  have kf_29_5 : ρ14 29 5 = some 32 := by rw [eρ14, r2_at, if_neg (by decide)]; exact kf_29_5
  have kf_29_6 : ρ14 29 6 = some 33 := by rw [eρ14, r2_at, if_neg (by decide)]; exact kf_29_6
  have kf_0_4 : ρ14 0 4 = some 29 := by rw [eρ14, r2_at, if_pos rfl, if_neg (by decide)]; exact kf_0_4
  have kf_0_5 : ρ14 0 5 = some 34 := by rw [eρ14, r2_at, if_pos rfl, if_pos rfl]
  have hR : RC 36 ρ14 := RC_grow hR (hB 35 (Nat.le_refl _)).2
  have hB : BL 36 σ11 ρ14 := BL_grow hB
  obtain ⟨ρ16, eρ16, hF⟩ := nm_1 hF
  have hR : RC 36 ρ16 := by rw [eρ16]; exact RC_put hR (by decide)
  have hB : BL 36 σ11 ρ16 := by rw [eρ16]; exact BL_r2 hB (by decide)
  have hU : ∀ r, r < 0 → ρ16 r = ρ r := fun r h => (congrFun eρ16 r).trans ((r2_ne r (by omega)).trans (hU r h))
  have kf_1_0 : ρ16 1 0 = some 2 := by rw [eρ16, r2_at, if_neg (by decide)]; exact kf_1_0
  have kf_1_2 : ρ16 1 2 = some 3 := by rw [eρ16, r2_at, if_neg (by decide)]; exact kf_1_2
  have kf_1_3 : ρ16 1 3 = some 5 := by rw [eρ16, r2_at, if_neg (by decide)]; exact kf_1_3
  have kf_1_5 : ρ16 1 5 = some 10 := by rw [eρ16, r2_at, if_neg (by decide)]; exact kf_1_5
  have kf_1_9 : ρ16 1 9 = some 11 := by rw [eρ16, r2_at, if_neg (by decide)]; exact kf_1_9
  have kf_1_11 : ρ16 1 11 = some 12 := by rw [eρ16, r2_at, if_neg (by decide)]; exact kf_1_11
  have kf_1_12 : ρ16 1 12 = some 13 := by rw [eρ16, r2_at, if_neg (by decide)]; exact kf_1_12
  have kf_0_0 : ρ16 0 0 = some 1 := by rw [eρ16, r2_at, if_pos rfl, if_neg (by decide)]; exact kf_0_0
  have kf_14_0 : ρ16 14 0 = some 15 := by rw [eρ16, r2_at, if_neg (by decide)]; exact kf_14_0
  have kf_14_2 : ρ16 14 2 = some 16 := by rw [eρ16, r2_at, if_neg (by decide)]; exact kf_14_2
  have kf_14_3 : ρ16 14 3 = some 18 := by rw [eρ16, r2_at, if_neg (by decide)]; exact kf_14_3
  have kf_14_5 : ρ16 14 5 = some 23 := by rw [eρ16, r2_at, if_neg (by decide)]; exact kf_14_5
  have kf_14_9 : ρ16 14 9 = some 24 := by rw [eρ16, r2_at, if_neg (by decide)]; exact kf_14_9
  have kf_14_11 : ρ16 14 11 = some 25 := by rw [eρ16, r2_at, if_neg (by decide)]; exact kf_14_11
  have kf_14_12 : ρ16 14 12 = some 26 := by rw [eρ16, r2_at, if_neg (by decide)]; exact kf_14_12
  have kf_0_1 : ρ16 0 1 = some 14 := by rw [eρ16, r2_at, if_pos rfl, if_neg (by decide)]; exact kf_0_1
  have kf_27_0 : ρ16 27 0 = some 28 := by rw [eρ16, r2_at, if_neg (by decide)]; exact kf_27_0
  have kf_0_3 : ρ16 0 3 = some 27 := by rw [eρ16, r2_at, if_pos rfl, if_neg (by decide)]; exact kf_0_3
  have kf_29_3 : ρ16 29 3 = some 30 := by rw [eρ16, r2_at, if_neg (by decide)]; exact kf_29_3
  have kf_29_4 : ρ16 29 4 = some 31 := by rw [eρ16, r2_at, if_neg (by decide)]; exact kf_29_4
  have kf_29_5 : ρ16 29 5 = some 32 := by rw [eρ16, r2_at, if_neg (by decide)]; exact kf_29_5
  have kf_29_6 : ρ16 29 6 = some 33 := by rw [eρ16, r2_at, if_neg (by decide)]; exact kf_29_6
  have kf_0_4 : ρ16 0 4 = some 29 := by rw [eρ16, r2_at, if_pos rfl, if_neg (by decide)]; exact kf_0_4
  have kf_0_5 : ρ16 0 5 = some 34 := by rw [eρ16, r2_at, if_pos rfl, if_neg (by decide)]; exact kf_0_5
  have kf_0_6 : ρ16 0 6 = some 35 := by rw [eρ16, r2_at, if_pos rfl, if_pos rfl]
  have hR : RC 37 ρ16 := RC_grow hR (hB 36 (Nat.le_refl _)).2
  have hB : BL 37 σ11 ρ16 := BL_grow hB
  obtain ⟨ρ18, eρ18, hF⟩ := nm_1 hF
  have hR : RC 37 ρ18 := by rw [eρ18]; exact RC_put hR (by decide)
  have hB : BL 37 σ11 ρ18 := by rw [eρ18]; exact BL_r2 hB (by decide)
  have hU : ∀ r, r < 0 → ρ18 r = ρ r := fun r h => (congrFun eρ18 r).trans ((r2_ne r (by omega)).trans (hU r h))
  have kf_1_0 : ρ18 1 0 = some 2 := by rw [eρ18, r2_at, if_neg (by decide)]; exact kf_1_0
  have kf_1_2 : ρ18 1 2 = some 3 := by rw [eρ18, r2_at, if_neg (by decide)]; exact kf_1_2
  have kf_1_3 : ρ18 1 3 = some 5 := by rw [eρ18, r2_at, if_neg (by decide)]; exact kf_1_3
  have kf_1_5 : ρ18 1 5 = some 10 := by rw [eρ18, r2_at, if_neg (by decide)]; exact kf_1_5
  have kf_1_9 : ρ18 1 9 = some 11 := by rw [eρ18, r2_at, if_neg (by decide)]; exact kf_1_9
  have kf_1_11 : ρ18 1 11 = some 12 := by rw [eρ18, r2_at, if_neg (by decide)]; exact kf_1_11
  have kf_1_12 : ρ18 1 12 = some 13 := by rw [eρ18, r2_at, if_neg (by decide)]; exact kf_1_12
  have kf_0_0 : ρ18 0 0 = some 1 := by rw [eρ18, r2_at, if_pos rfl, if_neg (by decide)]; exact kf_0_0
  have kf_14_0 : ρ18 14 0 = some 15 := by rw [eρ18, r2_at, if_neg (by decide)]; exact kf_14_0
  have kf_14_2 : ρ18 14 2 = some 16 := by rw [eρ18, r2_at, if_neg (by decide)]; exact kf_14_2
  have kf_14_3 : ρ18 14 3 = some 18 := by rw [eρ18, r2_at, if_neg (by decide)]; exact kf_14_3
  have kf_14_5 : ρ18 14 5 = some 23 := by rw [eρ18, r2_at, if_neg (by decide)]; exact kf_14_5
  have kf_14_9 : ρ18 14 9 = some 24 := by rw [eρ18, r2_at, if_neg (by decide)]; exact kf_14_9
  have kf_14_11 : ρ18 14 11 = some 25 := by rw [eρ18, r2_at, if_neg (by decide)]; exact kf_14_11
  have kf_14_12 : ρ18 14 12 = some 26 := by rw [eρ18, r2_at, if_neg (by decide)]; exact kf_14_12
  have kf_0_1 : ρ18 0 1 = some 14 := by rw [eρ18, r2_at, if_pos rfl, if_neg (by decide)]; exact kf_0_1
  have kf_27_0 : ρ18 27 0 = some 28 := by rw [eρ18, r2_at, if_neg (by decide)]; exact kf_27_0
  have kf_0_3 : ρ18 0 3 = some 27 := by rw [eρ18, r2_at, if_pos rfl, if_neg (by decide)]; exact kf_0_3
  have kf_29_3 : ρ18 29 3 = some 30 := by rw [eρ18, r2_at, if_neg (by decide)]; exact kf_29_3
  have kf_29_4 : ρ18 29 4 = some 31 := by rw [eρ18, r2_at, if_neg (by decide)]; exact kf_29_4
  have kf_29_5 : ρ18 29 5 = some 32 := by rw [eρ18, r2_at, if_neg (by decide)]; exact kf_29_5
  have kf_29_6 : ρ18 29 6 = some 33 := by rw [eρ18, r2_at, if_neg (by decide)]; exact kf_29_6
  have kf_0_4 : ρ18 0 4 = some 29 := by rw [eρ18, r2_at, if_pos rfl, if_neg (by decide)]; exact kf_0_4
  have kf_0_5 : ρ18 0 5 = some 34 := by rw [eρ18, r2_at, if_pos rfl, if_neg (by decide)]; exact kf_0_5
  have kf_0_6 : ρ18 0 6 = some 35 := by rw [eρ18, r2_at, if_pos rfl, if_neg (by decide)]; exact kf_0_6
  have kf_0_7 : ρ18 0 7 = some 36 := by rw [eρ18, r2_at, if_pos rfl, if_pos rfl]
  have hR : RC 38 ρ18 := RC_grow hR (hB 37 (Nat.le_refl _)).2
  have hB : BL 38 σ11 ρ18 := BL_grow hB
  obtain ⟨σ20, ρ20, hq20, hF⟩ := bn2_1 hF
  obtain ⟨hR, hB, hU20, hkn⟩ := k_X3_init_37 hR hB hq20
  have hU : ∀ r, r < 0 → ρ20 r = ρ r := fun r h => (hU20 r (by omega)).trans (hU r h)
  have kf_1_0 : ρ20 1 0 = some 2 := by rw [hU20 1 (by decide)]; exact kf_1_0
  have kf_1_2 : ρ20 1 2 = some 3 := by rw [hU20 1 (by decide)]; exact kf_1_2
  have kf_1_3 : ρ20 1 3 = some 5 := by rw [hU20 1 (by decide)]; exact kf_1_3
  have kf_1_5 : ρ20 1 5 = some 10 := by rw [hU20 1 (by decide)]; exact kf_1_5
  have kf_1_9 : ρ20 1 9 = some 11 := by rw [hU20 1 (by decide)]; exact kf_1_9
  have kf_1_11 : ρ20 1 11 = some 12 := by rw [hU20 1 (by decide)]; exact kf_1_11
  have kf_1_12 : ρ20 1 12 = some 13 := by rw [hU20 1 (by decide)]; exact kf_1_12
  have kf_0_0 : ρ20 0 0 = some 1 := by rw [hU20 0 (by decide)]; exact kf_0_0
  have kf_14_0 : ρ20 14 0 = some 15 := by rw [hU20 14 (by decide)]; exact kf_14_0
  have kf_14_2 : ρ20 14 2 = some 16 := by rw [hU20 14 (by decide)]; exact kf_14_2
  have kf_14_3 : ρ20 14 3 = some 18 := by rw [hU20 14 (by decide)]; exact kf_14_3
  have kf_14_5 : ρ20 14 5 = some 23 := by rw [hU20 14 (by decide)]; exact kf_14_5
  have kf_14_9 : ρ20 14 9 = some 24 := by rw [hU20 14 (by decide)]; exact kf_14_9
  have kf_14_11 : ρ20 14 11 = some 25 := by rw [hU20 14 (by decide)]; exact kf_14_11
  have kf_14_12 : ρ20 14 12 = some 26 := by rw [hU20 14 (by decide)]; exact kf_14_12
  have kf_0_1 : ρ20 0 1 = some 14 := by rw [hU20 0 (by decide)]; exact kf_0_1
  have kf_27_0 : ρ20 27 0 = some 28 := by rw [hU20 27 (by decide)]; exact kf_27_0
  have kf_0_3 : ρ20 0 3 = some 27 := by rw [hU20 0 (by decide)]; exact kf_0_3
  have kf_29_3 : ρ20 29 3 = some 30 := by rw [hU20 29 (by decide)]; exact kf_29_3
  have kf_29_4 : ρ20 29 4 = some 31 := by rw [hU20 29 (by decide)]; exact kf_29_4
  have kf_29_5 : ρ20 29 5 = some 32 := by rw [hU20 29 (by decide)]; exact kf_29_5
  have kf_29_6 : ρ20 29 6 = some 33 := by rw [hU20 29 (by decide)]; exact kf_29_6
  have kf_0_4 : ρ20 0 4 = some 29 := by rw [hU20 0 (by decide)]; exact kf_0_4
  have kf_0_5 : ρ20 0 5 = some 34 := by rw [hU20 0 (by decide)]; exact kf_0_5
  have kf_0_6 : ρ20 0 6 = some 35 := by rw [hU20 0 (by decide)]; exact kf_0_6
  have kf_0_7 : ρ20 0 7 = some 36 := by rw [hU20 0 (by decide)]; exact kf_0_7
  have kf_37_9 : ρ20 37 9 = some 38 := hkn (37, 9, 38) (by decide)
  obtain ⟨ρ21, eρ21, hF⟩ := nm_1 hF
  have hR : RC 39 ρ21 := by rw [eρ21]; exact RC_put hR (by decide)
  have hB : BL 39 σ20 ρ21 := by rw [eρ21]; exact BL_r2 hB (by decide)
  have hU : ∀ r, r < 0 → ρ21 r = ρ r := fun r h => (congrFun eρ21 r).trans ((r2_ne r (by omega)).trans (hU r h))
  have kf_1_0 : ρ21 1 0 = some 2 := by rw [eρ21, r2_at, if_neg (by decide)]; exact kf_1_0
  have kf_1_2 : ρ21 1 2 = some 3 := by rw [eρ21, r2_at, if_neg (by decide)]; exact kf_1_2
  have kf_1_3 : ρ21 1 3 = some 5 := by rw [eρ21, r2_at, if_neg (by decide)]; exact kf_1_3
  have kf_1_5 : ρ21 1 5 = some 10 := by rw [eρ21, r2_at, if_neg (by decide)]; exact kf_1_5
  have kf_1_9 : ρ21 1 9 = some 11 := by rw [eρ21, r2_at, if_neg (by decide)]; exact kf_1_9
  have kf_1_11 : ρ21 1 11 = some 12 := by rw [eρ21, r2_at, if_neg (by decide)]; exact kf_1_11
  have kf_1_12 : ρ21 1 12 = some 13 := by rw [eρ21, r2_at, if_neg (by decide)]; exact kf_1_12
  have kf_0_0 : ρ21 0 0 = some 1 := by rw [eρ21, r2_at, if_pos rfl, if_neg (by decide)]; exact kf_0_0
  have kf_14_0 : ρ21 14 0 = some 15 := by rw [eρ21, r2_at, if_neg (by decide)]; exact kf_14_0
  have kf_14_2 : ρ21 14 2 = some 16 := by rw [eρ21, r2_at, if_neg (by decide)]; exact kf_14_2
  have kf_14_3 : ρ21 14 3 = some 18 := by rw [eρ21, r2_at, if_neg (by decide)]; exact kf_14_3
  have kf_14_5 : ρ21 14 5 = some 23 := by rw [eρ21, r2_at, if_neg (by decide)]; exact kf_14_5
  have kf_14_9 : ρ21 14 9 = some 24 := by rw [eρ21, r2_at, if_neg (by decide)]; exact kf_14_9
  have kf_14_11 : ρ21 14 11 = some 25 := by rw [eρ21, r2_at, if_neg (by decide)]; exact kf_14_11
  have kf_14_12 : ρ21 14 12 = some 26 := by rw [eρ21, r2_at, if_neg (by decide)]; exact kf_14_12
  have kf_0_1 : ρ21 0 1 = some 14 := by rw [eρ21, r2_at, if_pos rfl, if_neg (by decide)]; exact kf_0_1
  have kf_27_0 : ρ21 27 0 = some 28 := by rw [eρ21, r2_at, if_neg (by decide)]; exact kf_27_0
  have kf_0_3 : ρ21 0 3 = some 27 := by rw [eρ21, r2_at, if_pos rfl, if_neg (by decide)]; exact kf_0_3
  have kf_29_3 : ρ21 29 3 = some 30 := by rw [eρ21, r2_at, if_neg (by decide)]; exact kf_29_3
  have kf_29_4 : ρ21 29 4 = some 31 := by rw [eρ21, r2_at, if_neg (by decide)]; exact kf_29_4
  have kf_29_5 : ρ21 29 5 = some 32 := by rw [eρ21, r2_at, if_neg (by decide)]; exact kf_29_5
  have kf_29_6 : ρ21 29 6 = some 33 := by rw [eρ21, r2_at, if_neg (by decide)]; exact kf_29_6
  have kf_0_4 : ρ21 0 4 = some 29 := by rw [eρ21, r2_at, if_pos rfl, if_neg (by decide)]; exact kf_0_4
  have kf_0_5 : ρ21 0 5 = some 34 := by rw [eρ21, r2_at, if_pos rfl, if_neg (by decide)]; exact kf_0_5
  have kf_0_6 : ρ21 0 6 = some 35 := by rw [eρ21, r2_at, if_pos rfl, if_neg (by decide)]; exact kf_0_6
  have kf_0_7 : ρ21 0 7 = some 36 := by rw [eρ21, r2_at, if_pos rfl, if_neg (by decide)]; exact kf_0_7
  have kf_37_9 : ρ21 37 9 = some 38 := by rw [eρ21, r2_at, if_neg (by decide)]; exact kf_37_9
  have kf_0_11 : ρ21 0 11 = some 37 := by rw [eρ21, r2_at, if_pos rfl, if_pos rfl]
  have hR : RC 40 ρ21 := RC_grow hR (hB 39 (Nat.le_refl _)).2
  have hB : BL 40 σ20 ρ21 := BL_grow hB
  obtain ⟨ρ23, eρ23, hF⟩ := nm_1 hF
  have hR : RC 40 ρ23 := by rw [eρ23]; exact RC_put hR (by decide)
  have hB : BL 40 σ20 ρ23 := by rw [eρ23]; exact BL_r2 hB (by decide)
  have hU : ∀ r, r < 0 → ρ23 r = ρ r := fun r h => (congrFun eρ23 r).trans ((r2_ne r (by omega)).trans (hU r h))
  have kf_1_0 : ρ23 1 0 = some 2 := by rw [eρ23, r2_at, if_neg (by decide)]; exact kf_1_0
  have kf_1_2 : ρ23 1 2 = some 3 := by rw [eρ23, r2_at, if_neg (by decide)]; exact kf_1_2
  have kf_1_3 : ρ23 1 3 = some 5 := by rw [eρ23, r2_at, if_neg (by decide)]; exact kf_1_3
  have kf_1_5 : ρ23 1 5 = some 10 := by rw [eρ23, r2_at, if_neg (by decide)]; exact kf_1_5
  have kf_1_9 : ρ23 1 9 = some 11 := by rw [eρ23, r2_at, if_neg (by decide)]; exact kf_1_9
  have kf_1_11 : ρ23 1 11 = some 12 := by rw [eρ23, r2_at, if_neg (by decide)]; exact kf_1_11
  have kf_1_12 : ρ23 1 12 = some 13 := by rw [eρ23, r2_at, if_neg (by decide)]; exact kf_1_12
  have kf_0_0 : ρ23 0 0 = some 1 := by rw [eρ23, r2_at, if_pos rfl, if_neg (by decide)]; exact kf_0_0
  have kf_14_0 : ρ23 14 0 = some 15 := by rw [eρ23, r2_at, if_neg (by decide)]; exact kf_14_0
  have kf_14_2 : ρ23 14 2 = some 16 := by rw [eρ23, r2_at, if_neg (by decide)]; exact kf_14_2
  have kf_14_3 : ρ23 14 3 = some 18 := by rw [eρ23, r2_at, if_neg (by decide)]; exact kf_14_3
  have kf_14_5 : ρ23 14 5 = some 23 := by rw [eρ23, r2_at, if_neg (by decide)]; exact kf_14_5
  have kf_14_9 : ρ23 14 9 = some 24 := by rw [eρ23, r2_at, if_neg (by decide)]; exact kf_14_9
  have kf_14_11 : ρ23 14 11 = some 25 := by rw [eρ23, r2_at, if_neg (by decide)]; exact kf_14_11
  have kf_14_12 : ρ23 14 12 = some 26 := by rw [eρ23, r2_at, if_neg (by decide)]; exact kf_14_12
  have kf_0_1 : ρ23 0 1 = some 14 := by rw [eρ23, r2_at, if_pos rfl, if_neg (by decide)]; exact kf_0_1
  have kf_27_0 : ρ23 27 0 = some 28 := by rw [eρ23, r2_at, if_neg (by decide)]; exact kf_27_0
  have kf_0_3 : ρ23 0 3 = some 27 := by rw [eρ23, r2_at, if_pos rfl, if_neg (by decide)]; exact kf_0_3
  have kf_29_3 : ρ23 29 3 = some 30 := by rw [eρ23, r2_at, if_neg (by decide)]; exact kf_29_3
  have kf_29_4 : ρ23 29 4 = some 31 := by rw [eρ23, r2_at, if_neg (by decide)]; exact kf_29_4
  have kf_29_5 : ρ23 29 5 = some 32 := by rw [eρ23, r2_at, if_neg (by decide)]; exact kf_29_5
  have kf_29_6 : ρ23 29 6 = some 33 := by rw [eρ23, r2_at, if_neg (by decide)]; exact kf_29_6
  have kf_0_4 : ρ23 0 4 = some 29 := by rw [eρ23, r2_at, if_pos rfl, if_neg (by decide)]; exact kf_0_4
  have kf_0_5 : ρ23 0 5 = some 34 := by rw [eρ23, r2_at, if_pos rfl, if_neg (by decide)]; exact kf_0_5
  have kf_0_6 : ρ23 0 6 = some 35 := by rw [eρ23, r2_at, if_pos rfl, if_neg (by decide)]; exact kf_0_6
  have kf_0_7 : ρ23 0 7 = some 36 := by rw [eρ23, r2_at, if_pos rfl, if_neg (by decide)]; exact kf_0_7
  have kf_37_9 : ρ23 37 9 = some 38 := by rw [eρ23, r2_at, if_neg (by decide)]; exact kf_37_9
  have kf_0_11 : ρ23 0 11 = some 37 := by rw [eρ23, r2_at, if_pos rfl, if_neg (by decide)]; exact kf_0_11
  have kf_0_12 : ρ23 0 12 = some 39 := by rw [eρ23, r2_at, if_pos rfl, if_pos rfl]
  have hR : RC 41 ρ23 := RC_grow hR (hB 40 (Nat.le_refl _)).2
  have hB : BL 41 σ20 ρ23 := BL_grow hB
  obtain ⟨σ26, ρ26, hq26, hF⟩ := bn2_1 hF
  obtain ⟨hR, hB, hU26, hkn⟩ := k_X3_init_40 hR hB hq26
  have hU : ∀ r, r < 0 → ρ26 r = ρ r := fun r h => (hU26 r (by omega)).trans (hU r h)
  have kf_1_0 : ρ26 1 0 = some 2 := by rw [hU26 1 (by decide)]; exact kf_1_0
  have kf_1_2 : ρ26 1 2 = some 3 := by rw [hU26 1 (by decide)]; exact kf_1_2
  have kf_1_3 : ρ26 1 3 = some 5 := by rw [hU26 1 (by decide)]; exact kf_1_3
  have kf_1_5 : ρ26 1 5 = some 10 := by rw [hU26 1 (by decide)]; exact kf_1_5
  have kf_1_9 : ρ26 1 9 = some 11 := by rw [hU26 1 (by decide)]; exact kf_1_9
  have kf_1_11 : ρ26 1 11 = some 12 := by rw [hU26 1 (by decide)]; exact kf_1_11
  have kf_1_12 : ρ26 1 12 = some 13 := by rw [hU26 1 (by decide)]; exact kf_1_12
  have kf_0_0 : ρ26 0 0 = some 1 := by rw [hU26 0 (by decide)]; exact kf_0_0
  have kf_14_0 : ρ26 14 0 = some 15 := by rw [hU26 14 (by decide)]; exact kf_14_0
  have kf_14_2 : ρ26 14 2 = some 16 := by rw [hU26 14 (by decide)]; exact kf_14_2
  have kf_14_3 : ρ26 14 3 = some 18 := by rw [hU26 14 (by decide)]; exact kf_14_3
  have kf_14_5 : ρ26 14 5 = some 23 := by rw [hU26 14 (by decide)]; exact kf_14_5
  have kf_14_9 : ρ26 14 9 = some 24 := by rw [hU26 14 (by decide)]; exact kf_14_9
  have kf_14_11 : ρ26 14 11 = some 25 := by rw [hU26 14 (by decide)]; exact kf_14_11
  have kf_14_12 : ρ26 14 12 = some 26 := by rw [hU26 14 (by decide)]; exact kf_14_12
  have kf_0_1 : ρ26 0 1 = some 14 := by rw [hU26 0 (by decide)]; exact kf_0_1
  have kf_27_0 : ρ26 27 0 = some 28 := by rw [hU26 27 (by decide)]; exact kf_27_0
  have kf_0_3 : ρ26 0 3 = some 27 := by rw [hU26 0 (by decide)]; exact kf_0_3
  have kf_29_3 : ρ26 29 3 = some 30 := by rw [hU26 29 (by decide)]; exact kf_29_3
  have kf_29_4 : ρ26 29 4 = some 31 := by rw [hU26 29 (by decide)]; exact kf_29_4
  have kf_29_5 : ρ26 29 5 = some 32 := by rw [hU26 29 (by decide)]; exact kf_29_5
  have kf_29_6 : ρ26 29 6 = some 33 := by rw [hU26 29 (by decide)]; exact kf_29_6
  have kf_0_4 : ρ26 0 4 = some 29 := by rw [hU26 0 (by decide)]; exact kf_0_4
  have kf_0_5 : ρ26 0 5 = some 34 := by rw [hU26 0 (by decide)]; exact kf_0_5
  have kf_0_6 : ρ26 0 6 = some 35 := by rw [hU26 0 (by decide)]; exact kf_0_6
  have kf_0_7 : ρ26 0 7 = some 36 := by rw [hU26 0 (by decide)]; exact kf_0_7
  have kf_37_9 : ρ26 37 9 = some 38 := by rw [hU26 37 (by decide)]; exact kf_37_9
  have kf_0_11 : ρ26 0 11 = some 37 := by rw [hU26 0 (by decide)]; exact kf_0_11
  have kf_0_12 : ρ26 0 12 = some 39 := by rw [hU26 0 (by decide)]; exact kf_0_12
  have kf_40_9 : ρ26 40 9 = some 41 := hkn (40, 9, 41) (by decide)
  obtain ⟨ρ27, eρ27, hF⟩ := nm_1 hF
  have hR : RC 42 ρ27 := by rw [eρ27]; exact RC_put hR (by decide)
  have hB : BL 42 σ26 ρ27 := by rw [eρ27]; exact BL_r2 hB (by decide)
  have hU : ∀ r, r < 0 → ρ27 r = ρ r := fun r h => (congrFun eρ27 r).trans ((r2_ne r (by omega)).trans (hU r h))
  have kf_1_0 : ρ27 1 0 = some 2 := by rw [eρ27, r2_at, if_neg (by decide)]; exact kf_1_0
  have kf_1_2 : ρ27 1 2 = some 3 := by rw [eρ27, r2_at, if_neg (by decide)]; exact kf_1_2
  have kf_1_3 : ρ27 1 3 = some 5 := by rw [eρ27, r2_at, if_neg (by decide)]; exact kf_1_3
  have kf_1_5 : ρ27 1 5 = some 10 := by rw [eρ27, r2_at, if_neg (by decide)]; exact kf_1_5
  have kf_1_9 : ρ27 1 9 = some 11 := by rw [eρ27, r2_at, if_neg (by decide)]; exact kf_1_9
  have kf_1_11 : ρ27 1 11 = some 12 := by rw [eρ27, r2_at, if_neg (by decide)]; exact kf_1_11
  have kf_1_12 : ρ27 1 12 = some 13 := by rw [eρ27, r2_at, if_neg (by decide)]; exact kf_1_12
  have kf_0_0 : ρ27 0 0 = some 1 := by rw [eρ27, r2_at, if_neg (by decide)]; exact kf_0_0
  have kf_14_0 : ρ27 14 0 = some 15 := by rw [eρ27, r2_at, if_neg (by decide)]; exact kf_14_0
  have kf_14_2 : ρ27 14 2 = some 16 := by rw [eρ27, r2_at, if_neg (by decide)]; exact kf_14_2
  have kf_14_3 : ρ27 14 3 = some 18 := by rw [eρ27, r2_at, if_neg (by decide)]; exact kf_14_3
  have kf_14_5 : ρ27 14 5 = some 23 := by rw [eρ27, r2_at, if_neg (by decide)]; exact kf_14_5
  have kf_14_9 : ρ27 14 9 = some 24 := by rw [eρ27, r2_at, if_neg (by decide)]; exact kf_14_9
  have kf_14_11 : ρ27 14 11 = some 25 := by rw [eρ27, r2_at, if_neg (by decide)]; exact kf_14_11
  have kf_14_12 : ρ27 14 12 = some 26 := by rw [eρ27, r2_at, if_neg (by decide)]; exact kf_14_12
  have kf_0_1 : ρ27 0 1 = some 14 := by rw [eρ27, r2_at, if_neg (by decide)]; exact kf_0_1
  have kf_27_0 : ρ27 27 0 = some 28 := by rw [eρ27, r2_at, if_neg (by decide)]; exact kf_27_0
  have kf_0_3 : ρ27 0 3 = some 27 := by rw [eρ27, r2_at, if_neg (by decide)]; exact kf_0_3
  have kf_29_3 : ρ27 29 3 = some 30 := by rw [eρ27, r2_at, if_neg (by decide)]; exact kf_29_3
  have kf_29_4 : ρ27 29 4 = some 31 := by rw [eρ27, r2_at, if_neg (by decide)]; exact kf_29_4
  have kf_29_5 : ρ27 29 5 = some 32 := by rw [eρ27, r2_at, if_neg (by decide)]; exact kf_29_5
  have kf_29_6 : ρ27 29 6 = some 33 := by rw [eρ27, r2_at, if_neg (by decide)]; exact kf_29_6
  have kf_0_4 : ρ27 0 4 = some 29 := by rw [eρ27, r2_at, if_neg (by decide)]; exact kf_0_4
  have kf_0_5 : ρ27 0 5 = some 34 := by rw [eρ27, r2_at, if_neg (by decide)]; exact kf_0_5
  have kf_0_6 : ρ27 0 6 = some 35 := by rw [eρ27, r2_at, if_neg (by decide)]; exact kf_0_6
  have kf_0_7 : ρ27 0 7 = some 36 := by rw [eρ27, r2_at, if_neg (by decide)]; exact kf_0_7
  have kf_37_9 : ρ27 37 9 = some 38 := by rw [eρ27, r2_at, if_neg (by decide)]; exact kf_37_9
  have kf_0_11 : ρ27 0 11 = some 37 := by rw [eρ27, r2_at, if_neg (by decide)]; exact kf_0_11
  have kf_0_12 : ρ27 0 12 = some 39 := by rw [eρ27, r2_at, if_neg (by decide)]; exact kf_0_12
  have kf_40_9 : ρ27 40 9 = some 41 := by rw [eρ27, r2_at, if_neg (by decide)]; exact kf_40_9
  have kf_34_0 : ρ27 34 0 = some 40 := by rw [eρ27, r2_at, if_pos rfl, if_pos rfl]
  have hR : RC 43 ρ27 := RC_grow hR (hB 42 (Nat.le_refl _)).2
  have hB : BL 43 σ26 ρ27 := BL_grow hB
  obtain ⟨σ30, ρ30, hq30, hF⟩ := bn2_1 hF
  obtain ⟨hR, hB, hU30, hkn⟩ := k_X3_init_42 hR hB hq30
  have hU : ∀ r, r < 0 → ρ30 r = ρ r := fun r h => (hU30 r (by omega)).trans (hU r h)
  have kf_1_0 : ρ30 1 0 = some 2 := by rw [hU30 1 (by decide)]; exact kf_1_0
  have kf_1_2 : ρ30 1 2 = some 3 := by rw [hU30 1 (by decide)]; exact kf_1_2
  have kf_1_3 : ρ30 1 3 = some 5 := by rw [hU30 1 (by decide)]; exact kf_1_3
  have kf_1_5 : ρ30 1 5 = some 10 := by rw [hU30 1 (by decide)]; exact kf_1_5
  have kf_1_9 : ρ30 1 9 = some 11 := by rw [hU30 1 (by decide)]; exact kf_1_9
  have kf_1_11 : ρ30 1 11 = some 12 := by rw [hU30 1 (by decide)]; exact kf_1_11
  have kf_1_12 : ρ30 1 12 = some 13 := by rw [hU30 1 (by decide)]; exact kf_1_12
  have kf_0_0 : ρ30 0 0 = some 1 := by rw [hU30 0 (by decide)]; exact kf_0_0
  have kf_14_0 : ρ30 14 0 = some 15 := by rw [hU30 14 (by decide)]; exact kf_14_0
  have kf_14_2 : ρ30 14 2 = some 16 := by rw [hU30 14 (by decide)]; exact kf_14_2
  have kf_14_3 : ρ30 14 3 = some 18 := by rw [hU30 14 (by decide)]; exact kf_14_3
  have kf_14_5 : ρ30 14 5 = some 23 := by rw [hU30 14 (by decide)]; exact kf_14_5
  have kf_14_9 : ρ30 14 9 = some 24 := by rw [hU30 14 (by decide)]; exact kf_14_9
  have kf_14_11 : ρ30 14 11 = some 25 := by rw [hU30 14 (by decide)]; exact kf_14_11
  have kf_14_12 : ρ30 14 12 = some 26 := by rw [hU30 14 (by decide)]; exact kf_14_12
  have kf_0_1 : ρ30 0 1 = some 14 := by rw [hU30 0 (by decide)]; exact kf_0_1
  have kf_27_0 : ρ30 27 0 = some 28 := by rw [hU30 27 (by decide)]; exact kf_27_0
  have kf_0_3 : ρ30 0 3 = some 27 := by rw [hU30 0 (by decide)]; exact kf_0_3
  have kf_29_3 : ρ30 29 3 = some 30 := by rw [hU30 29 (by decide)]; exact kf_29_3
  have kf_29_4 : ρ30 29 4 = some 31 := by rw [hU30 29 (by decide)]; exact kf_29_4
  have kf_29_5 : ρ30 29 5 = some 32 := by rw [hU30 29 (by decide)]; exact kf_29_5
  have kf_29_6 : ρ30 29 6 = some 33 := by rw [hU30 29 (by decide)]; exact kf_29_6
  have kf_0_4 : ρ30 0 4 = some 29 := by rw [hU30 0 (by decide)]; exact kf_0_4
  have kf_0_5 : ρ30 0 5 = some 34 := by rw [hU30 0 (by decide)]; exact kf_0_5
  have kf_0_6 : ρ30 0 6 = some 35 := by rw [hU30 0 (by decide)]; exact kf_0_6
  have kf_0_7 : ρ30 0 7 = some 36 := by rw [hU30 0 (by decide)]; exact kf_0_7
  have kf_37_9 : ρ30 37 9 = some 38 := by rw [hU30 37 (by decide)]; exact kf_37_9
  have kf_0_11 : ρ30 0 11 = some 37 := by rw [hU30 0 (by decide)]; exact kf_0_11
  have kf_0_12 : ρ30 0 12 = some 39 := by rw [hU30 0 (by decide)]; exact kf_0_12
  have kf_40_9 : ρ30 40 9 = some 41 := by rw [hU30 40 (by decide)]; exact kf_40_9
  have kf_34_0 : ρ30 34 0 = some 40 := by rw [hU30 34 (by decide)]; exact kf_34_0
  have kf_42_9 : ρ30 42 9 = some 43 := hkn (42, 9, 43) (by decide)
  obtain ⟨ρ31, eρ31, hF⟩ := nm_1 hF
  have hR : RC 44 ρ31 := by rw [eρ31]; exact RC_put hR (by decide)
  have hB : BL 44 σ30 ρ31 := by rw [eρ31]; exact BL_r2 hB (by decide)
  have hU : ∀ r, r < 0 → ρ31 r = ρ r := fun r h => (congrFun eρ31 r).trans ((r2_ne r (by omega)).trans (hU r h))
  have kf_1_0 : ρ31 1 0 = some 2 := by rw [eρ31, r2_at, if_neg (by decide)]; exact kf_1_0
  have kf_1_2 : ρ31 1 2 = some 3 := by rw [eρ31, r2_at, if_neg (by decide)]; exact kf_1_2
  have kf_1_3 : ρ31 1 3 = some 5 := by rw [eρ31, r2_at, if_neg (by decide)]; exact kf_1_3
  have kf_1_5 : ρ31 1 5 = some 10 := by rw [eρ31, r2_at, if_neg (by decide)]; exact kf_1_5
  have kf_1_9 : ρ31 1 9 = some 11 := by rw [eρ31, r2_at, if_neg (by decide)]; exact kf_1_9
  have kf_1_11 : ρ31 1 11 = some 12 := by rw [eρ31, r2_at, if_neg (by decide)]; exact kf_1_11
  have kf_1_12 : ρ31 1 12 = some 13 := by rw [eρ31, r2_at, if_neg (by decide)]; exact kf_1_12
  have kf_0_0 : ρ31 0 0 = some 1 := by rw [eρ31, r2_at, if_neg (by decide)]; exact kf_0_0
  have kf_14_0 : ρ31 14 0 = some 15 := by rw [eρ31, r2_at, if_neg (by decide)]; exact kf_14_0
  have kf_14_2 : ρ31 14 2 = some 16 := by rw [eρ31, r2_at, if_neg (by decide)]; exact kf_14_2
  have kf_14_3 : ρ31 14 3 = some 18 := by rw [eρ31, r2_at, if_neg (by decide)]; exact kf_14_3
  have kf_14_5 : ρ31 14 5 = some 23 := by rw [eρ31, r2_at, if_neg (by decide)]; exact kf_14_5
  have kf_14_9 : ρ31 14 9 = some 24 := by rw [eρ31, r2_at, if_neg (by decide)]; exact kf_14_9
  have kf_14_11 : ρ31 14 11 = some 25 := by rw [eρ31, r2_at, if_neg (by decide)]; exact kf_14_11
  have kf_14_12 : ρ31 14 12 = some 26 := by rw [eρ31, r2_at, if_neg (by decide)]; exact kf_14_12
  have kf_0_1 : ρ31 0 1 = some 14 := by rw [eρ31, r2_at, if_neg (by decide)]; exact kf_0_1
  have kf_27_0 : ρ31 27 0 = some 28 := by rw [eρ31, r2_at, if_neg (by decide)]; exact kf_27_0
  have kf_0_3 : ρ31 0 3 = some 27 := by rw [eρ31, r2_at, if_neg (by decide)]; exact kf_0_3
  have kf_29_3 : ρ31 29 3 = some 30 := by rw [eρ31, r2_at, if_neg (by decide)]; exact kf_29_3
  have kf_29_4 : ρ31 29 4 = some 31 := by rw [eρ31, r2_at, if_neg (by decide)]; exact kf_29_4
  have kf_29_5 : ρ31 29 5 = some 32 := by rw [eρ31, r2_at, if_neg (by decide)]; exact kf_29_5
  have kf_29_6 : ρ31 29 6 = some 33 := by rw [eρ31, r2_at, if_neg (by decide)]; exact kf_29_6
  have kf_0_4 : ρ31 0 4 = some 29 := by rw [eρ31, r2_at, if_neg (by decide)]; exact kf_0_4
  have kf_0_5 : ρ31 0 5 = some 34 := by rw [eρ31, r2_at, if_neg (by decide)]; exact kf_0_5
  have kf_0_6 : ρ31 0 6 = some 35 := by rw [eρ31, r2_at, if_neg (by decide)]; exact kf_0_6
  have kf_0_7 : ρ31 0 7 = some 36 := by rw [eρ31, r2_at, if_neg (by decide)]; exact kf_0_7
  have kf_37_9 : ρ31 37 9 = some 38 := by rw [eρ31, r2_at, if_neg (by decide)]; exact kf_37_9
  have kf_0_11 : ρ31 0 11 = some 37 := by rw [eρ31, r2_at, if_neg (by decide)]; exact kf_0_11
  have kf_0_12 : ρ31 0 12 = some 39 := by rw [eρ31, r2_at, if_neg (by decide)]; exact kf_0_12
  have kf_40_9 : ρ31 40 9 = some 41 := by rw [eρ31, r2_at, if_neg (by decide)]; exact kf_40_9
  have kf_34_0 : ρ31 34 0 = some 40 := by rw [eρ31, r2_at, if_pos rfl, if_neg (by decide)]; exact kf_34_0
  have kf_42_9 : ρ31 42 9 = some 43 := by rw [eρ31, r2_at, if_neg (by decide)]; exact kf_42_9
  have kf_34_1 : ρ31 34 1 = some 42 := by rw [eρ31, r2_at, if_pos rfl, if_pos rfl]
  have hR : RC 45 ρ31 := RC_grow hR (hB 44 (Nat.le_refl _)).2
  have hB : BL 45 σ30 ρ31 := BL_grow hB
  obtain ⟨σ34, ρ34, hq34, hF⟩ := bn2_1 hF
  obtain ⟨hR, hB, hU34, hkn⟩ := k_X3_init_44 hR hB hq34
  have hU : ∀ r, r < 0 → ρ34 r = ρ r := fun r h => (hU34 r (by omega)).trans (hU r h)
  have kf_1_0 : ρ34 1 0 = some 2 := by rw [hU34 1 (by decide)]; exact kf_1_0
  have kf_1_2 : ρ34 1 2 = some 3 := by rw [hU34 1 (by decide)]; exact kf_1_2
  have kf_1_3 : ρ34 1 3 = some 5 := by rw [hU34 1 (by decide)]; exact kf_1_3
  have kf_1_5 : ρ34 1 5 = some 10 := by rw [hU34 1 (by decide)]; exact kf_1_5
  have kf_1_9 : ρ34 1 9 = some 11 := by rw [hU34 1 (by decide)]; exact kf_1_9
  have kf_1_11 : ρ34 1 11 = some 12 := by rw [hU34 1 (by decide)]; exact kf_1_11
  have kf_1_12 : ρ34 1 12 = some 13 := by rw [hU34 1 (by decide)]; exact kf_1_12
  have kf_0_0 : ρ34 0 0 = some 1 := by rw [hU34 0 (by decide)]; exact kf_0_0
  have kf_14_0 : ρ34 14 0 = some 15 := by rw [hU34 14 (by decide)]; exact kf_14_0
  have kf_14_2 : ρ34 14 2 = some 16 := by rw [hU34 14 (by decide)]; exact kf_14_2
  have kf_14_3 : ρ34 14 3 = some 18 := by rw [hU34 14 (by decide)]; exact kf_14_3
  have kf_14_5 : ρ34 14 5 = some 23 := by rw [hU34 14 (by decide)]; exact kf_14_5
  have kf_14_9 : ρ34 14 9 = some 24 := by rw [hU34 14 (by decide)]; exact kf_14_9
  have kf_14_11 : ρ34 14 11 = some 25 := by rw [hU34 14 (by decide)]; exact kf_14_11
  have kf_14_12 : ρ34 14 12 = some 26 := by rw [hU34 14 (by decide)]; exact kf_14_12
  have kf_0_1 : ρ34 0 1 = some 14 := by rw [hU34 0 (by decide)]; exact kf_0_1
  have kf_27_0 : ρ34 27 0 = some 28 := by rw [hU34 27 (by decide)]; exact kf_27_0
  have kf_0_3 : ρ34 0 3 = some 27 := by rw [hU34 0 (by decide)]; exact kf_0_3
  have kf_29_3 : ρ34 29 3 = some 30 := by rw [hU34 29 (by decide)]; exact kf_29_3
  have kf_29_4 : ρ34 29 4 = some 31 := by rw [hU34 29 (by decide)]; exact kf_29_4
  have kf_29_5 : ρ34 29 5 = some 32 := by rw [hU34 29 (by decide)]; exact kf_29_5
  have kf_29_6 : ρ34 29 6 = some 33 := by rw [hU34 29 (by decide)]; exact kf_29_6
  have kf_0_4 : ρ34 0 4 = some 29 := by rw [hU34 0 (by decide)]; exact kf_0_4
  have kf_0_5 : ρ34 0 5 = some 34 := by rw [hU34 0 (by decide)]; exact kf_0_5
  have kf_0_6 : ρ34 0 6 = some 35 := by rw [hU34 0 (by decide)]; exact kf_0_6
  have kf_0_7 : ρ34 0 7 = some 36 := by rw [hU34 0 (by decide)]; exact kf_0_7
  have kf_37_9 : ρ34 37 9 = some 38 := by rw [hU34 37 (by decide)]; exact kf_37_9
  have kf_0_11 : ρ34 0 11 = some 37 := by rw [hU34 0 (by decide)]; exact kf_0_11
  have kf_0_12 : ρ34 0 12 = some 39 := by rw [hU34 0 (by decide)]; exact kf_0_12
  have kf_40_9 : ρ34 40 9 = some 41 := by rw [hU34 40 (by decide)]; exact kf_40_9
  have kf_34_0 : ρ34 34 0 = some 40 := by rw [hU34 34 (by decide)]; exact kf_34_0
  have kf_42_9 : ρ34 42 9 = some 43 := by rw [hU34 42 (by decide)]; exact kf_42_9
  have kf_34_1 : ρ34 34 1 = some 42 := by rw [hU34 34 (by decide)]; exact kf_34_1
  have kf_44_9 : ρ34 44 9 = some 45 := hkn (44, 9, 45) (by decide)
  obtain ⟨ρ35, eρ35, hF⟩ := nm_1 hF
  have hR : RC 46 ρ35 := by rw [eρ35]; exact RC_put hR (by decide)
  have hB : BL 46 σ34 ρ35 := by rw [eρ35]; exact BL_r2 hB (by decide)
  have hU : ∀ r, r < 0 → ρ35 r = ρ r := fun r h => (congrFun eρ35 r).trans ((r2_ne r (by omega)).trans (hU r h))
  have kf_1_0 : ρ35 1 0 = some 2 := by rw [eρ35, r2_at, if_neg (by decide)]; exact kf_1_0
  have kf_1_2 : ρ35 1 2 = some 3 := by rw [eρ35, r2_at, if_neg (by decide)]; exact kf_1_2
  have kf_1_3 : ρ35 1 3 = some 5 := by rw [eρ35, r2_at, if_neg (by decide)]; exact kf_1_3
  have kf_1_5 : ρ35 1 5 = some 10 := by rw [eρ35, r2_at, if_neg (by decide)]; exact kf_1_5
  have kf_1_9 : ρ35 1 9 = some 11 := by rw [eρ35, r2_at, if_neg (by decide)]; exact kf_1_9
  have kf_1_11 : ρ35 1 11 = some 12 := by rw [eρ35, r2_at, if_neg (by decide)]; exact kf_1_11
  have kf_1_12 : ρ35 1 12 = some 13 := by rw [eρ35, r2_at, if_neg (by decide)]; exact kf_1_12
  have kf_0_0 : ρ35 0 0 = some 1 := by rw [eρ35, r2_at, if_neg (by decide)]; exact kf_0_0
  have kf_14_0 : ρ35 14 0 = some 15 := by rw [eρ35, r2_at, if_neg (by decide)]; exact kf_14_0
  have kf_14_2 : ρ35 14 2 = some 16 := by rw [eρ35, r2_at, if_neg (by decide)]; exact kf_14_2
  have kf_14_3 : ρ35 14 3 = some 18 := by rw [eρ35, r2_at, if_neg (by decide)]; exact kf_14_3
  have kf_14_5 : ρ35 14 5 = some 23 := by rw [eρ35, r2_at, if_neg (by decide)]; exact kf_14_5
  have kf_14_9 : ρ35 14 9 = some 24 := by rw [eρ35, r2_at, if_neg (by decide)]; exact kf_14_9
  have kf_14_11 : ρ35 14 11 = some 25 := by rw [eρ35, r2_at, if_neg (by decide)]; exact kf_14_11
  have kf_14_12 : ρ35 14 12 = some 26 := by rw [eρ35, r2_at, if_neg (by decide)]; exact kf_14_12
  have kf_0_1 : ρ35 0 1 = some 14 := by rw [eρ35, r2_at, if_neg (by decide)]; exact kf_0_1
  have kf_27_0 : ρ35 27 0 = some 28 := by rw [eρ35, r2_at, if_neg (by decide)]; exact kf_27_0
  have kf_0_3 : ρ35 0 3 = some 27 := by rw [eρ35, r2_at, if_neg (by decide)]; exact kf_0_3
  have kf_29_3 : ρ35 29 3 = some 30 := by rw [eρ35, r2_at, if_neg (by decide)]; exact kf_29_3
  have kf_29_4 : ρ35 29 4 = some 31 := by rw [eρ35, r2_at, if_neg (by decide)]; exact kf_29_4
  have kf_29_5 : ρ35 29 5 = some 32 := by rw [eρ35, r2_at, if_neg (by decide)]; exact kf_29_5
  have kf_29_6 : ρ35 29 6 = some 33 := by rw [eρ35, r2_at, if_neg (by decide)]; exact kf_29_6
  have kf_0_4 : ρ35 0 4 = some 29 := by rw [eρ35, r2_at, if_neg (by decide)]; exact kf_0_4
  have kf_0_5 : ρ35 0 5 = some 34 := by rw [eρ35, r2_at, if_neg (by decide)]; exact kf_0_5
  have kf_0_6 : ρ35 0 6 = some 35 := by rw [eρ35, r2_at, if_neg (by decide)]; exact kf_0_6
  have kf_0_7 : ρ35 0 7 = some 36 := by rw [eρ35, r2_at, if_neg (by decide)]; exact kf_0_7
  have kf_37_9 : ρ35 37 9 = some 38 := by rw [eρ35, r2_at, if_neg (by decide)]; exact kf_37_9
  have kf_0_11 : ρ35 0 11 = some 37 := by rw [eρ35, r2_at, if_neg (by decide)]; exact kf_0_11
  have kf_0_12 : ρ35 0 12 = some 39 := by rw [eρ35, r2_at, if_neg (by decide)]; exact kf_0_12
  have kf_40_9 : ρ35 40 9 = some 41 := by rw [eρ35, r2_at, if_neg (by decide)]; exact kf_40_9
  have kf_34_0 : ρ35 34 0 = some 40 := by rw [eρ35, r2_at, if_pos rfl, if_neg (by decide)]; exact kf_34_0
  have kf_42_9 : ρ35 42 9 = some 43 := by rw [eρ35, r2_at, if_neg (by decide)]; exact kf_42_9
  have kf_34_1 : ρ35 34 1 = some 42 := by rw [eρ35, r2_at, if_pos rfl, if_neg (by decide)]; exact kf_34_1
  have kf_44_9 : ρ35 44 9 = some 45 := by rw [eρ35, r2_at, if_neg (by decide)]; exact kf_44_9
  have kf_34_2 : ρ35 34 2 = some 44 := by rw [eρ35, r2_at, if_pos rfl, if_pos rfl]
  have hR : RC 47 ρ35 := RC_grow hR (hB 46 (Nat.le_refl _)).2
  have hB : BL 47 σ34 ρ35 := BL_grow hB
  obtain ⟨σ38, ρ38, hq38, hF⟩ := bn2_1 hF
  obtain ⟨hR, hB, hU38, hkn⟩ := k_X3_init_46 hR hB hq38
  have hU : ∀ r, r < 0 → ρ38 r = ρ r := fun r h => (hU38 r (by omega)).trans (hU r h)
  have kf_1_0 : ρ38 1 0 = some 2 := by rw [hU38 1 (by decide)]; exact kf_1_0
  have kf_1_2 : ρ38 1 2 = some 3 := by rw [hU38 1 (by decide)]; exact kf_1_2
  have kf_1_3 : ρ38 1 3 = some 5 := by rw [hU38 1 (by decide)]; exact kf_1_3
  have kf_1_5 : ρ38 1 5 = some 10 := by rw [hU38 1 (by decide)]; exact kf_1_5
  have kf_1_9 : ρ38 1 9 = some 11 := by rw [hU38 1 (by decide)]; exact kf_1_9
  have kf_1_11 : ρ38 1 11 = some 12 := by rw [hU38 1 (by decide)]; exact kf_1_11
  have kf_1_12 : ρ38 1 12 = some 13 := by rw [hU38 1 (by decide)]; exact kf_1_12
  have kf_0_0 : ρ38 0 0 = some 1 := by rw [hU38 0 (by decide)]; exact kf_0_0
  have kf_14_0 : ρ38 14 0 = some 15 := by rw [hU38 14 (by decide)]; exact kf_14_0
  have kf_14_2 : ρ38 14 2 = some 16 := by rw [hU38 14 (by decide)]; exact kf_14_2
  have kf_14_3 : ρ38 14 3 = some 18 := by rw [hU38 14 (by decide)]; exact kf_14_3
  have kf_14_5 : ρ38 14 5 = some 23 := by rw [hU38 14 (by decide)]; exact kf_14_5
  have kf_14_9 : ρ38 14 9 = some 24 := by rw [hU38 14 (by decide)]; exact kf_14_9
  have kf_14_11 : ρ38 14 11 = some 25 := by rw [hU38 14 (by decide)]; exact kf_14_11
  have kf_14_12 : ρ38 14 12 = some 26 := by rw [hU38 14 (by decide)]; exact kf_14_12
  have kf_0_1 : ρ38 0 1 = some 14 := by rw [hU38 0 (by decide)]; exact kf_0_1
  have kf_27_0 : ρ38 27 0 = some 28 := by rw [hU38 27 (by decide)]; exact kf_27_0
  have kf_0_3 : ρ38 0 3 = some 27 := by rw [hU38 0 (by decide)]; exact kf_0_3
  have kf_29_3 : ρ38 29 3 = some 30 := by rw [hU38 29 (by decide)]; exact kf_29_3
  have kf_29_4 : ρ38 29 4 = some 31 := by rw [hU38 29 (by decide)]; exact kf_29_4
  have kf_29_5 : ρ38 29 5 = some 32 := by rw [hU38 29 (by decide)]; exact kf_29_5
  have kf_29_6 : ρ38 29 6 = some 33 := by rw [hU38 29 (by decide)]; exact kf_29_6
  have kf_0_4 : ρ38 0 4 = some 29 := by rw [hU38 0 (by decide)]; exact kf_0_4
  have kf_0_5 : ρ38 0 5 = some 34 := by rw [hU38 0 (by decide)]; exact kf_0_5
  have kf_0_6 : ρ38 0 6 = some 35 := by rw [hU38 0 (by decide)]; exact kf_0_6
  have kf_0_7 : ρ38 0 7 = some 36 := by rw [hU38 0 (by decide)]; exact kf_0_7
  have kf_37_9 : ρ38 37 9 = some 38 := by rw [hU38 37 (by decide)]; exact kf_37_9
  have kf_0_11 : ρ38 0 11 = some 37 := by rw [hU38 0 (by decide)]; exact kf_0_11
  have kf_0_12 : ρ38 0 12 = some 39 := by rw [hU38 0 (by decide)]; exact kf_0_12
  have kf_40_9 : ρ38 40 9 = some 41 := by rw [hU38 40 (by decide)]; exact kf_40_9
  have kf_34_0 : ρ38 34 0 = some 40 := by rw [hU38 34 (by decide)]; exact kf_34_0
  have kf_42_9 : ρ38 42 9 = some 43 := by rw [hU38 42 (by decide)]; exact kf_42_9
  have kf_34_1 : ρ38 34 1 = some 42 := by rw [hU38 34 (by decide)]; exact kf_34_1
  have kf_44_9 : ρ38 44 9 = some 45 := by rw [hU38 44 (by decide)]; exact kf_44_9
  have kf_34_2 : ρ38 34 2 = some 44 := by rw [hU38 34 (by decide)]; exact kf_34_2
  have kf_46_9 : ρ38 46 9 = some 47 := hkn (46, 9, 47) (by decide)
  obtain ⟨ρ39, eρ39, hF⟩ := nm_1 hF
  have hR : RC 48 ρ39 := by rw [eρ39]; exact RC_put hR (by decide)
  have hB : BL 48 σ38 ρ39 := by rw [eρ39]; exact BL_r2 hB (by decide)
  have hU : ∀ r, r < 0 → ρ39 r = ρ r := fun r h => (congrFun eρ39 r).trans ((r2_ne r (by omega)).trans (hU r h))
  have kf_1_0 : ρ39 1 0 = some 2 := by rw [eρ39, r2_at, if_neg (by decide)]; exact kf_1_0
  have kf_1_2 : ρ39 1 2 = some 3 := by rw [eρ39, r2_at, if_neg (by decide)]; exact kf_1_2
  have kf_1_3 : ρ39 1 3 = some 5 := by rw [eρ39, r2_at, if_neg (by decide)]; exact kf_1_3
  have kf_1_5 : ρ39 1 5 = some 10 := by rw [eρ39, r2_at, if_neg (by decide)]; exact kf_1_5
  have kf_1_9 : ρ39 1 9 = some 11 := by rw [eρ39, r2_at, if_neg (by decide)]; exact kf_1_9
  have kf_1_11 : ρ39 1 11 = some 12 := by rw [eρ39, r2_at, if_neg (by decide)]; exact kf_1_11
  have kf_1_12 : ρ39 1 12 = some 13 := by rw [eρ39, r2_at, if_neg (by decide)]; exact kf_1_12
  have kf_0_0 : ρ39 0 0 = some 1 := by rw [eρ39, r2_at, if_neg (by decide)]; exact kf_0_0
  have kf_14_0 : ρ39 14 0 = some 15 := by rw [eρ39, r2_at, if_neg (by decide)]; exact kf_14_0
  have kf_14_2 : ρ39 14 2 = some 16 := by rw [eρ39, r2_at, if_neg (by decide)]; exact kf_14_2
  have kf_14_3 : ρ39 14 3 = some 18 := by rw [eρ39, r2_at, if_neg (by decide)]; exact kf_14_3
  have kf_14_5 : ρ39 14 5 = some 23 := by rw [eρ39, r2_at, if_neg (by decide)]; exact kf_14_5
  have kf_14_9 : ρ39 14 9 = some 24 := by rw [eρ39, r2_at, if_neg (by decide)]; exact kf_14_9
  have kf_14_11 : ρ39 14 11 = some 25 := by rw [eρ39, r2_at, if_neg (by decide)]; exact kf_14_11
  have kf_14_12 : ρ39 14 12 = some 26 := by rw [eρ39, r2_at, if_neg (by decide)]; exact kf_14_12
  have kf_0_1 : ρ39 0 1 = some 14 := by rw [eρ39, r2_at, if_neg (by decide)]; exact kf_0_1
  have kf_27_0 : ρ39 27 0 = some 28 := by rw [eρ39, r2_at, if_neg (by decide)]; exact kf_27_0
  have kf_0_3 : ρ39 0 3 = some 27 := by rw [eρ39, r2_at, if_neg (by decide)]; exact kf_0_3
  have kf_29_3 : ρ39 29 3 = some 30 := by rw [eρ39, r2_at, if_neg (by decide)]; exact kf_29_3
  have kf_29_4 : ρ39 29 4 = some 31 := by rw [eρ39, r2_at, if_neg (by decide)]; exact kf_29_4
  have kf_29_5 : ρ39 29 5 = some 32 := by rw [eρ39, r2_at, if_neg (by decide)]; exact kf_29_5
  have kf_29_6 : ρ39 29 6 = some 33 := by rw [eρ39, r2_at, if_neg (by decide)]; exact kf_29_6
  have kf_0_4 : ρ39 0 4 = some 29 := by rw [eρ39, r2_at, if_neg (by decide)]; exact kf_0_4
  have kf_0_5 : ρ39 0 5 = some 34 := by rw [eρ39, r2_at, if_neg (by decide)]; exact kf_0_5
  have kf_0_6 : ρ39 0 6 = some 35 := by rw [eρ39, r2_at, if_neg (by decide)]; exact kf_0_6
  have kf_0_7 : ρ39 0 7 = some 36 := by rw [eρ39, r2_at, if_neg (by decide)]; exact kf_0_7
  have kf_37_9 : ρ39 37 9 = some 38 := by rw [eρ39, r2_at, if_neg (by decide)]; exact kf_37_9
  have kf_0_11 : ρ39 0 11 = some 37 := by rw [eρ39, r2_at, if_neg (by decide)]; exact kf_0_11
  have kf_0_12 : ρ39 0 12 = some 39 := by rw [eρ39, r2_at, if_neg (by decide)]; exact kf_0_12
  have kf_40_9 : ρ39 40 9 = some 41 := by rw [eρ39, r2_at, if_neg (by decide)]; exact kf_40_9
  have kf_34_0 : ρ39 34 0 = some 40 := by rw [eρ39, r2_at, if_pos rfl, if_neg (by decide)]; exact kf_34_0
  have kf_42_9 : ρ39 42 9 = some 43 := by rw [eρ39, r2_at, if_neg (by decide)]; exact kf_42_9
  have kf_34_1 : ρ39 34 1 = some 42 := by rw [eρ39, r2_at, if_pos rfl, if_neg (by decide)]; exact kf_34_1
  have kf_44_9 : ρ39 44 9 = some 45 := by rw [eρ39, r2_at, if_neg (by decide)]; exact kf_44_9
  have kf_34_2 : ρ39 34 2 = some 44 := by rw [eρ39, r2_at, if_pos rfl, if_neg (by decide)]; exact kf_34_2
  have kf_46_9 : ρ39 46 9 = some 47 := by rw [eρ39, r2_at, if_neg (by decide)]; exact kf_46_9
  have kf_34_3 : ρ39 34 3 = some 46 := by rw [eρ39, r2_at, if_pos rfl, if_pos rfl]
  have hR : RC 49 ρ39 := RC_grow hR (hB 48 (Nat.le_refl _)).2
  have hB : BL 49 σ38 ρ39 := BL_grow hB
  obtain ⟨σ42, ρ42, hq42, hF⟩ := bn2_1 hF
  obtain ⟨hR, hB, hU42, hkn⟩ := k_X3_init_48 hR hB hq42
  have hU : ∀ r, r < 0 → ρ42 r = ρ r := fun r h => (hU42 r (by omega)).trans (hU r h)
  have kf_1_0 : ρ42 1 0 = some 2 := by rw [hU42 1 (by decide)]; exact kf_1_0
  have kf_1_2 : ρ42 1 2 = some 3 := by rw [hU42 1 (by decide)]; exact kf_1_2
  have kf_1_3 : ρ42 1 3 = some 5 := by rw [hU42 1 (by decide)]; exact kf_1_3
  have kf_1_5 : ρ42 1 5 = some 10 := by rw [hU42 1 (by decide)]; exact kf_1_5
  have kf_1_9 : ρ42 1 9 = some 11 := by rw [hU42 1 (by decide)]; exact kf_1_9
  have kf_1_11 : ρ42 1 11 = some 12 := by rw [hU42 1 (by decide)]; exact kf_1_11
  have kf_1_12 : ρ42 1 12 = some 13 := by rw [hU42 1 (by decide)]; exact kf_1_12
  have kf_0_0 : ρ42 0 0 = some 1 := by rw [hU42 0 (by decide)]; exact kf_0_0
  have kf_14_0 : ρ42 14 0 = some 15 := by rw [hU42 14 (by decide)]; exact kf_14_0
  have kf_14_2 : ρ42 14 2 = some 16 := by rw [hU42 14 (by decide)]; exact kf_14_2
  have kf_14_3 : ρ42 14 3 = some 18 := by rw [hU42 14 (by decide)]; exact kf_14_3
  have kf_14_5 : ρ42 14 5 = some 23 := by rw [hU42 14 (by decide)]; exact kf_14_5
  have kf_14_9 : ρ42 14 9 = some 24 := by rw [hU42 14 (by decide)]; exact kf_14_9
  have kf_14_11 : ρ42 14 11 = some 25 := by rw [hU42 14 (by decide)]; exact kf_14_11
  have kf_14_12 : ρ42 14 12 = some 26 := by rw [hU42 14 (by decide)]; exact kf_14_12
  have kf_0_1 : ρ42 0 1 = some 14 := by rw [hU42 0 (by decide)]; exact kf_0_1
  have kf_27_0 : ρ42 27 0 = some 28 := by rw [hU42 27 (by decide)]; exact kf_27_0
  have kf_0_3 : ρ42 0 3 = some 27 := by rw [hU42 0 (by decide)]; exact kf_0_3
  have kf_29_3 : ρ42 29 3 = some 30 := by rw [hU42 29 (by decide)]; exact kf_29_3
  have kf_29_4 : ρ42 29 4 = some 31 := by rw [hU42 29 (by decide)]; exact kf_29_4
  have kf_29_5 : ρ42 29 5 = some 32 := by rw [hU42 29 (by decide)]; exact kf_29_5
  have kf_29_6 : ρ42 29 6 = some 33 := by rw [hU42 29 (by decide)]; exact kf_29_6
  have kf_0_4 : ρ42 0 4 = some 29 := by rw [hU42 0 (by decide)]; exact kf_0_4
  have kf_0_5 : ρ42 0 5 = some 34 := by rw [hU42 0 (by decide)]; exact kf_0_5
  have kf_0_6 : ρ42 0 6 = some 35 := by rw [hU42 0 (by decide)]; exact kf_0_6
  have kf_0_7 : ρ42 0 7 = some 36 := by rw [hU42 0 (by decide)]; exact kf_0_7
  have kf_37_9 : ρ42 37 9 = some 38 := by rw [hU42 37 (by decide)]; exact kf_37_9
  have kf_0_11 : ρ42 0 11 = some 37 := by rw [hU42 0 (by decide)]; exact kf_0_11
  have kf_0_12 : ρ42 0 12 = some 39 := by rw [hU42 0 (by decide)]; exact kf_0_12
  have kf_40_9 : ρ42 40 9 = some 41 := by rw [hU42 40 (by decide)]; exact kf_40_9
  have kf_34_0 : ρ42 34 0 = some 40 := by rw [hU42 34 (by decide)]; exact kf_34_0
  have kf_42_9 : ρ42 42 9 = some 43 := by rw [hU42 42 (by decide)]; exact kf_42_9
  have kf_34_1 : ρ42 34 1 = some 42 := by rw [hU42 34 (by decide)]; exact kf_34_1
  have kf_44_9 : ρ42 44 9 = some 45 := by rw [hU42 44 (by decide)]; exact kf_44_9
  have kf_34_2 : ρ42 34 2 = some 44 := by rw [hU42 34 (by decide)]; exact kf_34_2
  have kf_46_9 : ρ42 46 9 = some 47 := by rw [hU42 46 (by decide)]; exact kf_46_9
  have kf_34_3 : ρ42 34 3 = some 46 := by rw [hU42 34 (by decide)]; exact kf_34_3
  have kf_48_9 : ρ42 48 9 = some 49 := hkn (48, 9, 49) (by decide)
  obtain ⟨ρ43, eρ43, hF⟩ := nm_1 hF
  have hR : RC 50 ρ43 := by rw [eρ43]; exact RC_put hR (by decide)
  have hB : BL 50 σ42 ρ43 := by rw [eρ43]; exact BL_r2 hB (by decide)
  have hU : ∀ r, r < 0 → ρ43 r = ρ r := fun r h => (congrFun eρ43 r).trans ((r2_ne r (by omega)).trans (hU r h))
  have kf_1_0 : ρ43 1 0 = some 2 := by rw [eρ43, r2_at, if_neg (by decide)]; exact kf_1_0
  have kf_1_2 : ρ43 1 2 = some 3 := by rw [eρ43, r2_at, if_neg (by decide)]; exact kf_1_2
  have kf_1_3 : ρ43 1 3 = some 5 := by rw [eρ43, r2_at, if_neg (by decide)]; exact kf_1_3
  have kf_1_5 : ρ43 1 5 = some 10 := by rw [eρ43, r2_at, if_neg (by decide)]; exact kf_1_5
  have kf_1_9 : ρ43 1 9 = some 11 := by rw [eρ43, r2_at, if_neg (by decide)]; exact kf_1_9
  have kf_1_11 : ρ43 1 11 = some 12 := by rw [eρ43, r2_at, if_neg (by decide)]; exact kf_1_11
  have kf_1_12 : ρ43 1 12 = some 13 := by rw [eρ43, r2_at, if_neg (by decide)]; exact kf_1_12
  have kf_0_0 : ρ43 0 0 = some 1 := by rw [eρ43, r2_at, if_neg (by decide)]; exact kf_0_0
  have kf_14_0 : ρ43 14 0 = some 15 := by rw [eρ43, r2_at, if_neg (by decide)]; exact kf_14_0
  have kf_14_2 : ρ43 14 2 = some 16 := by rw [eρ43, r2_at, if_neg (by decide)]; exact kf_14_2
  have kf_14_3 : ρ43 14 3 = some 18 := by rw [eρ43, r2_at, if_neg (by decide)]; exact kf_14_3
  have kf_14_5 : ρ43 14 5 = some 23 := by rw [eρ43, r2_at, if_neg (by decide)]; exact kf_14_5
  have kf_14_9 : ρ43 14 9 = some 24 := by rw [eρ43, r2_at, if_neg (by decide)]; exact kf_14_9
  have kf_14_11 : ρ43 14 11 = some 25 := by rw [eρ43, r2_at, if_neg (by decide)]; exact kf_14_11
  have kf_14_12 : ρ43 14 12 = some 26 := by rw [eρ43, r2_at, if_neg (by decide)]; exact kf_14_12
  have kf_0_1 : ρ43 0 1 = some 14 := by rw [eρ43, r2_at, if_neg (by decide)]; exact kf_0_1
  have kf_27_0 : ρ43 27 0 = some 28 := by rw [eρ43, r2_at, if_neg (by decide)]; exact kf_27_0
  have kf_0_3 : ρ43 0 3 = some 27 := by rw [eρ43, r2_at, if_neg (by decide)]; exact kf_0_3
  have kf_29_3 : ρ43 29 3 = some 30 := by rw [eρ43, r2_at, if_neg (by decide)]; exact kf_29_3
  have kf_29_4 : ρ43 29 4 = some 31 := by rw [eρ43, r2_at, if_neg (by decide)]; exact kf_29_4
  have kf_29_5 : ρ43 29 5 = some 32 := by rw [eρ43, r2_at, if_neg (by decide)]; exact kf_29_5
  have kf_29_6 : ρ43 29 6 = some 33 := by rw [eρ43, r2_at, if_neg (by decide)]; exact kf_29_6
  have kf_0_4 : ρ43 0 4 = some 29 := by rw [eρ43, r2_at, if_neg (by decide)]; exact kf_0_4
  have kf_0_5 : ρ43 0 5 = some 34 := by rw [eρ43, r2_at, if_neg (by decide)]; exact kf_0_5
  have kf_0_6 : ρ43 0 6 = some 35 := by rw [eρ43, r2_at, if_neg (by decide)]; exact kf_0_6
  have kf_0_7 : ρ43 0 7 = some 36 := by rw [eρ43, r2_at, if_neg (by decide)]; exact kf_0_7
  have kf_37_9 : ρ43 37 9 = some 38 := by rw [eρ43, r2_at, if_neg (by decide)]; exact kf_37_9
  have kf_0_11 : ρ43 0 11 = some 37 := by rw [eρ43, r2_at, if_neg (by decide)]; exact kf_0_11
  have kf_0_12 : ρ43 0 12 = some 39 := by rw [eρ43, r2_at, if_neg (by decide)]; exact kf_0_12
  have kf_40_9 : ρ43 40 9 = some 41 := by rw [eρ43, r2_at, if_neg (by decide)]; exact kf_40_9
  have kf_34_0 : ρ43 34 0 = some 40 := by rw [eρ43, r2_at, if_pos rfl, if_neg (by decide)]; exact kf_34_0
  have kf_42_9 : ρ43 42 9 = some 43 := by rw [eρ43, r2_at, if_neg (by decide)]; exact kf_42_9
  have kf_34_1 : ρ43 34 1 = some 42 := by rw [eρ43, r2_at, if_pos rfl, if_neg (by decide)]; exact kf_34_1
  have kf_44_9 : ρ43 44 9 = some 45 := by rw [eρ43, r2_at, if_neg (by decide)]; exact kf_44_9
  have kf_34_2 : ρ43 34 2 = some 44 := by rw [eρ43, r2_at, if_pos rfl, if_neg (by decide)]; exact kf_34_2
  have kf_46_9 : ρ43 46 9 = some 47 := by rw [eρ43, r2_at, if_neg (by decide)]; exact kf_46_9
  have kf_34_3 : ρ43 34 3 = some 46 := by rw [eρ43, r2_at, if_pos rfl, if_neg (by decide)]; exact kf_34_3
  have kf_48_9 : ρ43 48 9 = some 49 := by rw [eρ43, r2_at, if_neg (by decide)]; exact kf_48_9
  have kf_34_4 : ρ43 34 4 = some 48 := by rw [eρ43, r2_at, if_pos rfl, if_pos rfl]
  have hR : RC 51 ρ43 := RC_grow hR (hB 50 (Nat.le_refl _)).2
  have hB : BL 51 σ42 ρ43 := BL_grow hB
  obtain ⟨σ46, ρ46, hq46, hF⟩ := bn2_1 hF
  obtain ⟨hR, hB, hU46, hkn⟩ := k_X3_init_50 hR hB hq46
  have hU : ∀ r, r < 0 → ρ46 r = ρ r := fun r h => (hU46 r (by omega)).trans (hU r h)
  have kf_1_0 : ρ46 1 0 = some 2 := by rw [hU46 1 (by decide)]; exact kf_1_0
  have kf_1_2 : ρ46 1 2 = some 3 := by rw [hU46 1 (by decide)]; exact kf_1_2
  have kf_1_3 : ρ46 1 3 = some 5 := by rw [hU46 1 (by decide)]; exact kf_1_3
  have kf_1_5 : ρ46 1 5 = some 10 := by rw [hU46 1 (by decide)]; exact kf_1_5
  have kf_1_9 : ρ46 1 9 = some 11 := by rw [hU46 1 (by decide)]; exact kf_1_9
  have kf_1_11 : ρ46 1 11 = some 12 := by rw [hU46 1 (by decide)]; exact kf_1_11
  have kf_1_12 : ρ46 1 12 = some 13 := by rw [hU46 1 (by decide)]; exact kf_1_12
  have kf_0_0 : ρ46 0 0 = some 1 := by rw [hU46 0 (by decide)]; exact kf_0_0
  have kf_14_0 : ρ46 14 0 = some 15 := by rw [hU46 14 (by decide)]; exact kf_14_0
  have kf_14_2 : ρ46 14 2 = some 16 := by rw [hU46 14 (by decide)]; exact kf_14_2
  have kf_14_3 : ρ46 14 3 = some 18 := by rw [hU46 14 (by decide)]; exact kf_14_3
  have kf_14_5 : ρ46 14 5 = some 23 := by rw [hU46 14 (by decide)]; exact kf_14_5
  have kf_14_9 : ρ46 14 9 = some 24 := by rw [hU46 14 (by decide)]; exact kf_14_9
  have kf_14_11 : ρ46 14 11 = some 25 := by rw [hU46 14 (by decide)]; exact kf_14_11
  have kf_14_12 : ρ46 14 12 = some 26 := by rw [hU46 14 (by decide)]; exact kf_14_12
  have kf_0_1 : ρ46 0 1 = some 14 := by rw [hU46 0 (by decide)]; exact kf_0_1
  have kf_27_0 : ρ46 27 0 = some 28 := by rw [hU46 27 (by decide)]; exact kf_27_0
  have kf_0_3 : ρ46 0 3 = some 27 := by rw [hU46 0 (by decide)]; exact kf_0_3
  have kf_29_3 : ρ46 29 3 = some 30 := by rw [hU46 29 (by decide)]; exact kf_29_3
  have kf_29_4 : ρ46 29 4 = some 31 := by rw [hU46 29 (by decide)]; exact kf_29_4
  have kf_29_5 : ρ46 29 5 = some 32 := by rw [hU46 29 (by decide)]; exact kf_29_5
  have kf_29_6 : ρ46 29 6 = some 33 := by rw [hU46 29 (by decide)]; exact kf_29_6
  have kf_0_4 : ρ46 0 4 = some 29 := by rw [hU46 0 (by decide)]; exact kf_0_4
  have kf_0_5 : ρ46 0 5 = some 34 := by rw [hU46 0 (by decide)]; exact kf_0_5
  have kf_0_6 : ρ46 0 6 = some 35 := by rw [hU46 0 (by decide)]; exact kf_0_6
  have kf_0_7 : ρ46 0 7 = some 36 := by rw [hU46 0 (by decide)]; exact kf_0_7
  have kf_37_9 : ρ46 37 9 = some 38 := by rw [hU46 37 (by decide)]; exact kf_37_9
  have kf_0_11 : ρ46 0 11 = some 37 := by rw [hU46 0 (by decide)]; exact kf_0_11
  have kf_0_12 : ρ46 0 12 = some 39 := by rw [hU46 0 (by decide)]; exact kf_0_12
  have kf_40_9 : ρ46 40 9 = some 41 := by rw [hU46 40 (by decide)]; exact kf_40_9
  have kf_34_0 : ρ46 34 0 = some 40 := by rw [hU46 34 (by decide)]; exact kf_34_0
  have kf_42_9 : ρ46 42 9 = some 43 := by rw [hU46 42 (by decide)]; exact kf_42_9
  have kf_34_1 : ρ46 34 1 = some 42 := by rw [hU46 34 (by decide)]; exact kf_34_1
  have kf_44_9 : ρ46 44 9 = some 45 := by rw [hU46 44 (by decide)]; exact kf_44_9
  have kf_34_2 : ρ46 34 2 = some 44 := by rw [hU46 34 (by decide)]; exact kf_34_2
  have kf_46_9 : ρ46 46 9 = some 47 := by rw [hU46 46 (by decide)]; exact kf_46_9
  have kf_34_3 : ρ46 34 3 = some 46 := by rw [hU46 34 (by decide)]; exact kf_34_3
  have kf_48_9 : ρ46 48 9 = some 49 := by rw [hU46 48 (by decide)]; exact kf_48_9
  have kf_34_4 : ρ46 34 4 = some 48 := by rw [hU46 34 (by decide)]; exact kf_34_4
  have kf_50_9 : ρ46 50 9 = some 51 := hkn (50, 9, 51) (by decide)
  obtain ⟨ρ47, eρ47, hF⟩ := nm_1 hF
  have hR : RC 52 ρ47 := by rw [eρ47]; exact RC_put hR (by decide)
  have hB : BL 52 σ46 ρ47 := by rw [eρ47]; exact BL_r2 hB (by decide)
  have hU : ∀ r, r < 0 → ρ47 r = ρ r := fun r h => (congrFun eρ47 r).trans ((r2_ne r (by omega)).trans (hU r h))
  have kf_1_0 : ρ47 1 0 = some 2 := by rw [eρ47, r2_at, if_neg (by decide)]; exact kf_1_0
  have kf_1_2 : ρ47 1 2 = some 3 := by rw [eρ47, r2_at, if_neg (by decide)]; exact kf_1_2
  have kf_1_3 : ρ47 1 3 = some 5 := by rw [eρ47, r2_at, if_neg (by decide)]; exact kf_1_3
  have kf_1_5 : ρ47 1 5 = some 10 := by rw [eρ47, r2_at, if_neg (by decide)]; exact kf_1_5
  have kf_1_9 : ρ47 1 9 = some 11 := by rw [eρ47, r2_at, if_neg (by decide)]; exact kf_1_9
  have kf_1_11 : ρ47 1 11 = some 12 := by rw [eρ47, r2_at, if_neg (by decide)]; exact kf_1_11
  have kf_1_12 : ρ47 1 12 = some 13 := by rw [eρ47, r2_at, if_neg (by decide)]; exact kf_1_12
  have kf_0_0 : ρ47 0 0 = some 1 := by rw [eρ47, r2_at, if_neg (by decide)]; exact kf_0_0
  have kf_14_0 : ρ47 14 0 = some 15 := by rw [eρ47, r2_at, if_neg (by decide)]; exact kf_14_0
  have kf_14_2 : ρ47 14 2 = some 16 := by rw [eρ47, r2_at, if_neg (by decide)]; exact kf_14_2
  have kf_14_3 : ρ47 14 3 = some 18 := by rw [eρ47, r2_at, if_neg (by decide)]; exact kf_14_3
  have kf_14_5 : ρ47 14 5 = some 23 := by rw [eρ47, r2_at, if_neg (by decide)]; exact kf_14_5
  have kf_14_9 : ρ47 14 9 = some 24 := by rw [eρ47, r2_at, if_neg (by decide)]; exact kf_14_9
  have kf_14_11 : ρ47 14 11 = some 25 := by rw [eρ47, r2_at, if_neg (by decide)]; exact kf_14_11
  have kf_14_12 : ρ47 14 12 = some 26 := by rw [eρ47, r2_at, if_neg (by decide)]; exact kf_14_12
  have kf_0_1 : ρ47 0 1 = some 14 := by rw [eρ47, r2_at, if_neg (by decide)]; exact kf_0_1
  have kf_27_0 : ρ47 27 0 = some 28 := by rw [eρ47, r2_at, if_neg (by decide)]; exact kf_27_0
  have kf_0_3 : ρ47 0 3 = some 27 := by rw [eρ47, r2_at, if_neg (by decide)]; exact kf_0_3
  have kf_29_3 : ρ47 29 3 = some 30 := by rw [eρ47, r2_at, if_neg (by decide)]; exact kf_29_3
  have kf_29_4 : ρ47 29 4 = some 31 := by rw [eρ47, r2_at, if_neg (by decide)]; exact kf_29_4
  have kf_29_5 : ρ47 29 5 = some 32 := by rw [eρ47, r2_at, if_neg (by decide)]; exact kf_29_5
  have kf_29_6 : ρ47 29 6 = some 33 := by rw [eρ47, r2_at, if_neg (by decide)]; exact kf_29_6
  have kf_0_4 : ρ47 0 4 = some 29 := by rw [eρ47, r2_at, if_neg (by decide)]; exact kf_0_4
  have kf_0_5 : ρ47 0 5 = some 34 := by rw [eρ47, r2_at, if_neg (by decide)]; exact kf_0_5
  have kf_0_6 : ρ47 0 6 = some 35 := by rw [eρ47, r2_at, if_neg (by decide)]; exact kf_0_6
  have kf_0_7 : ρ47 0 7 = some 36 := by rw [eρ47, r2_at, if_neg (by decide)]; exact kf_0_7
  have kf_37_9 : ρ47 37 9 = some 38 := by rw [eρ47, r2_at, if_neg (by decide)]; exact kf_37_9
  have kf_0_11 : ρ47 0 11 = some 37 := by rw [eρ47, r2_at, if_neg (by decide)]; exact kf_0_11
  have kf_0_12 : ρ47 0 12 = some 39 := by rw [eρ47, r2_at, if_neg (by decide)]; exact kf_0_12
  have kf_40_9 : ρ47 40 9 = some 41 := by rw [eρ47, r2_at, if_neg (by decide)]; exact kf_40_9
  have kf_34_0 : ρ47 34 0 = some 40 := by rw [eρ47, r2_at, if_pos rfl, if_neg (by decide)]; exact kf_34_0
  have kf_42_9 : ρ47 42 9 = some 43 := by rw [eρ47, r2_at, if_neg (by decide)]; exact kf_42_9
  have kf_34_1 : ρ47 34 1 = some 42 := by rw [eρ47, r2_at, if_pos rfl, if_neg (by decide)]; exact kf_34_1
  have kf_44_9 : ρ47 44 9 = some 45 := by rw [eρ47, r2_at, if_neg (by decide)]; exact kf_44_9
  have kf_34_2 : ρ47 34 2 = some 44 := by rw [eρ47, r2_at, if_pos rfl, if_neg (by decide)]; exact kf_34_2
  have kf_46_9 : ρ47 46 9 = some 47 := by rw [eρ47, r2_at, if_neg (by decide)]; exact kf_46_9
  have kf_34_3 : ρ47 34 3 = some 46 := by rw [eρ47, r2_at, if_pos rfl, if_neg (by decide)]; exact kf_34_3
  have kf_48_9 : ρ47 48 9 = some 49 := by rw [eρ47, r2_at, if_neg (by decide)]; exact kf_48_9
  have kf_34_4 : ρ47 34 4 = some 48 := by rw [eρ47, r2_at, if_pos rfl, if_neg (by decide)]; exact kf_34_4
  have kf_50_9 : ρ47 50 9 = some 51 := by rw [eρ47, r2_at, if_neg (by decide)]; exact kf_50_9
  have kf_34_5 : ρ47 34 5 = some 50 := by rw [eρ47, r2_at, if_pos rfl, if_pos rfl]
  have hR : RC 53 ρ47 := RC_grow hR (hB 52 (Nat.le_refl _)).2
  have hB : BL 53 σ46 ρ47 := BL_grow hB
  obtain ⟨σ50, ρ50, hq50, hF⟩ := bn2_1 hF
  obtain ⟨hR, hB, hU50, hkn⟩ := k_X3_init_52 hR hB hq50
  have hU : ∀ r, r < 0 → ρ50 r = ρ r := fun r h => (hU50 r (by omega)).trans (hU r h)
  have kf_1_0 : ρ50 1 0 = some 2 := by rw [hU50 1 (by decide)]; exact kf_1_0
  have kf_1_2 : ρ50 1 2 = some 3 := by rw [hU50 1 (by decide)]; exact kf_1_2
  have kf_1_3 : ρ50 1 3 = some 5 := by rw [hU50 1 (by decide)]; exact kf_1_3
  have kf_1_5 : ρ50 1 5 = some 10 := by rw [hU50 1 (by decide)]; exact kf_1_5
  have kf_1_9 : ρ50 1 9 = some 11 := by rw [hU50 1 (by decide)]; exact kf_1_9
  have kf_1_11 : ρ50 1 11 = some 12 := by rw [hU50 1 (by decide)]; exact kf_1_11
  have kf_1_12 : ρ50 1 12 = some 13 := by rw [hU50 1 (by decide)]; exact kf_1_12
  have kf_0_0 : ρ50 0 0 = some 1 := by rw [hU50 0 (by decide)]; exact kf_0_0
  have kf_14_0 : ρ50 14 0 = some 15 := by rw [hU50 14 (by decide)]; exact kf_14_0
  have kf_14_2 : ρ50 14 2 = some 16 := by rw [hU50 14 (by decide)]; exact kf_14_2
  have kf_14_3 : ρ50 14 3 = some 18 := by rw [hU50 14 (by decide)]; exact kf_14_3
  have kf_14_5 : ρ50 14 5 = some 23 := by rw [hU50 14 (by decide)]; exact kf_14_5
  have kf_14_9 : ρ50 14 9 = some 24 := by rw [hU50 14 (by decide)]; exact kf_14_9
  have kf_14_11 : ρ50 14 11 = some 25 := by rw [hU50 14 (by decide)]; exact kf_14_11
  have kf_14_12 : ρ50 14 12 = some 26 := by rw [hU50 14 (by decide)]; exact kf_14_12
  have kf_0_1 : ρ50 0 1 = some 14 := by rw [hU50 0 (by decide)]; exact kf_0_1
  have kf_27_0 : ρ50 27 0 = some 28 := by rw [hU50 27 (by decide)]; exact kf_27_0
  have kf_0_3 : ρ50 0 3 = some 27 := by rw [hU50 0 (by decide)]; exact kf_0_3
  have kf_29_3 : ρ50 29 3 = some 30 := by rw [hU50 29 (by decide)]; exact kf_29_3
  have kf_29_4 : ρ50 29 4 = some 31 := by rw [hU50 29 (by decide)]; exact kf_29_4
  have kf_29_5 : ρ50 29 5 = some 32 := by rw [hU50 29 (by decide)]; exact kf_29_5
  have kf_29_6 : ρ50 29 6 = some 33 := by rw [hU50 29 (by decide)]; exact kf_29_6
  have kf_0_4 : ρ50 0 4 = some 29 := by rw [hU50 0 (by decide)]; exact kf_0_4
  have kf_0_5 : ρ50 0 5 = some 34 := by rw [hU50 0 (by decide)]; exact kf_0_5
  have kf_0_6 : ρ50 0 6 = some 35 := by rw [hU50 0 (by decide)]; exact kf_0_6
  have kf_0_7 : ρ50 0 7 = some 36 := by rw [hU50 0 (by decide)]; exact kf_0_7
  have kf_37_9 : ρ50 37 9 = some 38 := by rw [hU50 37 (by decide)]; exact kf_37_9
  have kf_0_11 : ρ50 0 11 = some 37 := by rw [hU50 0 (by decide)]; exact kf_0_11
  have kf_0_12 : ρ50 0 12 = some 39 := by rw [hU50 0 (by decide)]; exact kf_0_12
  have kf_40_9 : ρ50 40 9 = some 41 := by rw [hU50 40 (by decide)]; exact kf_40_9
  have kf_34_0 : ρ50 34 0 = some 40 := by rw [hU50 34 (by decide)]; exact kf_34_0
  have kf_42_9 : ρ50 42 9 = some 43 := by rw [hU50 42 (by decide)]; exact kf_42_9
  have kf_34_1 : ρ50 34 1 = some 42 := by rw [hU50 34 (by decide)]; exact kf_34_1
  have kf_44_9 : ρ50 44 9 = some 45 := by rw [hU50 44 (by decide)]; exact kf_44_9
  have kf_34_2 : ρ50 34 2 = some 44 := by rw [hU50 34 (by decide)]; exact kf_34_2
  have kf_46_9 : ρ50 46 9 = some 47 := by rw [hU50 46 (by decide)]; exact kf_46_9
  have kf_34_3 : ρ50 34 3 = some 46 := by rw [hU50 34 (by decide)]; exact kf_34_3
  have kf_48_9 : ρ50 48 9 = some 49 := by rw [hU50 48 (by decide)]; exact kf_48_9
  have kf_34_4 : ρ50 34 4 = some 48 := by rw [hU50 34 (by decide)]; exact kf_34_4
  have kf_50_9 : ρ50 50 9 = some 51 := by rw [hU50 50 (by decide)]; exact kf_50_9
  have kf_34_5 : ρ50 34 5 = some 50 := by rw [hU50 34 (by decide)]; exact kf_34_5
  have kf_52_9 : ρ50 52 9 = some 53 := hkn (52, 9, 53) (by decide)
  obtain ⟨ρ51, eρ51, hF⟩ := nm_1 hF
  have hR : RC 54 ρ51 := by rw [eρ51]; exact RC_put hR (by decide)
  have hB : BL 54 σ50 ρ51 := by rw [eρ51]; exact BL_r2 hB (by decide)
  have hU : ∀ r, r < 0 → ρ51 r = ρ r := fun r h => (congrFun eρ51 r).trans ((r2_ne r (by omega)).trans (hU r h))
  have kf_1_0 : ρ51 1 0 = some 2 := by rw [eρ51, r2_at, if_neg (by decide)]; exact kf_1_0
  have kf_1_2 : ρ51 1 2 = some 3 := by rw [eρ51, r2_at, if_neg (by decide)]; exact kf_1_2
  have kf_1_3 : ρ51 1 3 = some 5 := by rw [eρ51, r2_at, if_neg (by decide)]; exact kf_1_3
  have kf_1_5 : ρ51 1 5 = some 10 := by rw [eρ51, r2_at, if_neg (by decide)]; exact kf_1_5
  have kf_1_9 : ρ51 1 9 = some 11 := by rw [eρ51, r2_at, if_neg (by decide)]; exact kf_1_9
  have kf_1_11 : ρ51 1 11 = some 12 := by rw [eρ51, r2_at, if_neg (by decide)]; exact kf_1_11
  have kf_1_12 : ρ51 1 12 = some 13 := by rw [eρ51, r2_at, if_neg (by decide)]; exact kf_1_12
  have kf_0_0 : ρ51 0 0 = some 1 := by rw [eρ51, r2_at, if_neg (by decide)]; exact kf_0_0
  have kf_14_0 : ρ51 14 0 = some 15 := by rw [eρ51, r2_at, if_neg (by decide)]; exact kf_14_0
  have kf_14_2 : ρ51 14 2 = some 16 := by rw [eρ51, r2_at, if_neg (by decide)]; exact kf_14_2
  have kf_14_3 : ρ51 14 3 = some 18 := by rw [eρ51, r2_at, if_neg (by decide)]; exact kf_14_3
  have kf_14_5 : ρ51 14 5 = some 23 := by rw [eρ51, r2_at, if_neg (by decide)]; exact kf_14_5
  have kf_14_9 : ρ51 14 9 = some 24 := by rw [eρ51, r2_at, if_neg (by decide)]; exact kf_14_9
  have kf_14_11 : ρ51 14 11 = some 25 := by rw [eρ51, r2_at, if_neg (by decide)]; exact kf_14_11
  have kf_14_12 : ρ51 14 12 = some 26 := by rw [eρ51, r2_at, if_neg (by decide)]; exact kf_14_12
  have kf_0_1 : ρ51 0 1 = some 14 := by rw [eρ51, r2_at, if_neg (by decide)]; exact kf_0_1
  have kf_27_0 : ρ51 27 0 = some 28 := by rw [eρ51, r2_at, if_neg (by decide)]; exact kf_27_0
  have kf_0_3 : ρ51 0 3 = some 27 := by rw [eρ51, r2_at, if_neg (by decide)]; exact kf_0_3
  have kf_29_3 : ρ51 29 3 = some 30 := by rw [eρ51, r2_at, if_neg (by decide)]; exact kf_29_3
  have kf_29_4 : ρ51 29 4 = some 31 := by rw [eρ51, r2_at, if_neg (by decide)]; exact kf_29_4
  have kf_29_5 : ρ51 29 5 = some 32 := by rw [eρ51, r2_at, if_neg (by decide)]; exact kf_29_5
  have kf_29_6 : ρ51 29 6 = some 33 := by rw [eρ51, r2_at, if_neg (by decide)]; exact kf_29_6
  have kf_0_4 : ρ51 0 4 = some 29 := by rw [eρ51, r2_at, if_neg (by decide)]; exact kf_0_4
  have kf_0_5 : ρ51 0 5 = some 34 := by rw [eρ51, r2_at, if_neg (by decide)]; exact kf_0_5
  have kf_0_6 : ρ51 0 6 = some 35 := by rw [eρ51, r2_at, if_neg (by decide)]; exact kf_0_6
  have kf_0_7 : ρ51 0 7 = some 36 := by rw [eρ51, r2_at, if_neg (by decide)]; exact kf_0_7
  have kf_37_9 : ρ51 37 9 = some 38 := by rw [eρ51, r2_at, if_neg (by decide)]; exact kf_37_9
  have kf_0_11 : ρ51 0 11 = some 37 := by rw [eρ51, r2_at, if_neg (by decide)]; exact kf_0_11
  have kf_0_12 : ρ51 0 12 = some 39 := by rw [eρ51, r2_at, if_neg (by decide)]; exact kf_0_12
  have kf_40_9 : ρ51 40 9 = some 41 := by rw [eρ51, r2_at, if_neg (by decide)]; exact kf_40_9
  have kf_34_0 : ρ51 34 0 = some 40 := by rw [eρ51, r2_at, if_pos rfl, if_neg (by decide)]; exact kf_34_0
  have kf_42_9 : ρ51 42 9 = some 43 := by rw [eρ51, r2_at, if_neg (by decide)]; exact kf_42_9
  have kf_34_1 : ρ51 34 1 = some 42 := by rw [eρ51, r2_at, if_pos rfl, if_neg (by decide)]; exact kf_34_1
  have kf_44_9 : ρ51 44 9 = some 45 := by rw [eρ51, r2_at, if_neg (by decide)]; exact kf_44_9
  have kf_34_2 : ρ51 34 2 = some 44 := by rw [eρ51, r2_at, if_pos rfl, if_neg (by decide)]; exact kf_34_2
  have kf_46_9 : ρ51 46 9 = some 47 := by rw [eρ51, r2_at, if_neg (by decide)]; exact kf_46_9
  have kf_34_3 : ρ51 34 3 = some 46 := by rw [eρ51, r2_at, if_pos rfl, if_neg (by decide)]; exact kf_34_3
  have kf_48_9 : ρ51 48 9 = some 49 := by rw [eρ51, r2_at, if_neg (by decide)]; exact kf_48_9
  have kf_34_4 : ρ51 34 4 = some 48 := by rw [eρ51, r2_at, if_pos rfl, if_neg (by decide)]; exact kf_34_4
  have kf_50_9 : ρ51 50 9 = some 51 := by rw [eρ51, r2_at, if_neg (by decide)]; exact kf_50_9
  have kf_34_5 : ρ51 34 5 = some 50 := by rw [eρ51, r2_at, if_pos rfl, if_neg (by decide)]; exact kf_34_5
  have kf_52_9 : ρ51 52 9 = some 53 := by rw [eρ51, r2_at, if_neg (by decide)]; exact kf_52_9
  have kf_34_6 : ρ51 34 6 = some 52 := by rw [eρ51, r2_at, if_pos rfl, if_pos rfl]
  obtain ⟨rfl, rfl⟩ := ret_2 hF
  refine ⟨hR, hB, hU, fun q hq => ?_⟩
  simp only [List.mem_cons, List.not_mem_nil, or_false] at hq
  rcases hq with rfl | rfl | rfl | rfl | rfl | rfl | rfl | rfl | rfl
  · exact kf_0_0
  · exact kf_0_1
  · exact kf_0_3
  · exact kf_0_4
  · exact kf_0_5
  · exact kf_0_6
  · exact kf_0_7
  · exact kf_0_11
  · exact kf_0_12
set_option maxHeartbeats 8000000 in
set_option maxRecDepth 100000 in
theorem c_X11_init_0  {σ σ1 : SG} {ρ ρ1 : RG} (hKL : LK K len) (hR : RC 1 ρ) (hB : BL 1 σ ρ) (hF : F_X11_init_0 σ ρ = some (σ1, ρ1)) : MC l Y D 1 ad K len yX11_init (Cond.code yX11_init cX11_init 2 none :: wsL_law) rm_X11_init_0 [.ref (ad 0)] σ ρ (fun _ => none) 54 K len σ1 ρ1 53 913 := by
  refine mc_of (cc := cX11_init) (nL := 2) (ret := none) (by decide) (Nat.le_of_ble_eq_true rfl) ?_
  intro p e s m args below meth c ls C hnm hP hS hl
  have hx := C.1.1
  have hb := C.1.2.1
  have hl : lv_has ls 2 [(0, .ref (ad 0))] := hl
  have hEE : ∀ r, r < 1 → ad r = ad r := fun _ _ => rfl
  have hAA : AA 1 ad s.heap.size = AA 1 ad s.heap.size := rfl
  have hU : ∀ r, r < 0 → ρ r = ρ r := fun _ _ => rfl
  unfold F_X11_init_0 at hF
  refine lv_aload_n hx hb dX11_init_0 rfl (lv_at hl 0 rfl) ?_
  refine x_obj C hl.1 mw_9 mw_10 mw_11 dX11_init_1 (Nat.le_of_ble_eq_true rfl) (Nat.le_of_ble_eq_true rfl) ?_
  refine lv_aload_n hx hb dX11_init_4 rfl (lv_at hl 0 rfl) ?_
  refine x_new (ci := 8) (fs := [.null, .int 0, .null, .null, .int 0, .null, .int 0, .int 0, .int 0, .null, .int 0, .null, .null, .int 0]) tyX8_ok rfl rfl (fun _ => rfl) (fun j hj => by have : j < 14 := hj; revert j; decide) C hP hS hR (kk_1 hKL) (hB 1 (Nat.le_refl _)) inlX8 mw_12 mw_13 mw_14 (Nat.le_of_ble_eq_true rfl) (Nat.le_of_ble_eq_true rfl) dX11_init_5 (fun ad1 H hE hA C hP hS => ?_)
  rw [← hE 0 (by decide)]
  rw [← hE 0 (by decide)] at hl
  have hEE : ∀ r, r < 1 → ad1 r = ad r := fun r h => (hE r (by omega)).trans (hEE r h)
  have hAA := hA.trans hAA
  have C : Cx Y D 2 ad1 p s m args meth c cX11_init 2 none RX11 wsL_law := C
  have hP : WP Y D 2 ad1 K len σ ρ _ := hP
  have hS : va_S (AA 2 ad1 s.heap.size) s.heap _ _ := hS
  have hR : RC 2 ρ := RC_grow hR (hB 1 (Nat.le_refl _)).2
  have hB : BL 2 σ ρ := BL_grow hB
  refine lv_dup hx hb dX11_init_8 rfl ?_
  obtain ⟨σ2, ρ2, hq2, hF⟩ := bn2_1 hF
  refine x_callI (ws := (Cond.code yX8_init cX8_init 1 none :: wsL_law)) C hP hS (c_X8_init_1 hKL hR hB hq2) (cwI 0 C.1.2.2.2.2 (gdI mw_36) rfl rfl rfl (C.1.2.2.2.2 _ mw_14) (C.1.2.2.2.2 _ mw_34) (C.1.2.2.2.2 _ mw_35) rfl hd_X8_init.2 ⟨Nat.le_of_ble_eq_true rfl, Nat.le_of_ble_eq_true rfl⟩) rfl rfl hl.1 (Nat.le_of_ble_eq_true rfl) ⟨(Nat.le_of_ble_eq_true rfl), (Nat.le_of_ble_eq_true rfl)⟩ dX11_init_9 (fun ad2 H locs hE hA C hP hS => ?_)
  obtain ⟨hR, hB, hU2, hkn⟩ := k_X8_init_1 hR hB hq2
  rw [← hE 0 (by decide)]
  rw [← hE 1 (by decide)]
  rw [← hE 0 (by decide)] at hl
  have hEE : ∀ r, r < 1 → ad2 r = ad r := fun r h => (hE r (by omega)).trans (hEE r h)
  have hAA := hA.trans hAA
  have C : Cx Y D 14 ad2 p s m args meth c cX11_init 2 none RX11 wsL_law := C
  have hP : WP Y D 14 ad2 K len σ2 ρ2 _ := hP
  have hS : va_S (AA 14 ad2 s.heap.size) s.heap _ _ := hS
  have hU : ∀ r, r < 0 → ρ2 r = ρ r := fun r h => (hU2 r (by omega)).trans (hU r h)
  have kf_1_0 : ρ2 1 0 = some 2 := hkn (1, 0, 2) (by decide)
  have kf_1_2 : ρ2 1 2 = some 3 := hkn (1, 2, 3) (by decide)
  have kf_1_3 : ρ2 1 3 = some 5 := hkn (1, 3, 5) (by decide)
  have kf_1_5 : ρ2 1 5 = some 10 := hkn (1, 5, 10) (by decide)
  have kf_1_9 : ρ2 1 9 = some 11 := hkn (1, 9, 11) (by decide)
  have kf_1_11 : ρ2 1 11 = some 12 := hkn (1, 11, 12) (by decide)
  have kf_1_12 : ρ2 1 12 = some 13 := hkn (1, 12, 13) (by decide)
  obtain ⟨ρ3, eρ3, hF⟩ := nm_1 hF
  refine put_11_0 C hP hS (by decide) (kk_0 hKL) inlX11 mw_15 ⟨hnm, rfl⟩ eρ3 dX11_init_12 (fun H locs hP hS => ?_)
  have hR : RC 14 ρ3 := by rw [eρ3]; exact RC_put hR (by decide)
  have hB : BL 14 σ2 ρ3 := by rw [eρ3]; exact BL_r2 hB (by decide)
  have hU : ∀ r, r < 0 → ρ3 r = ρ r := fun r h => (congrFun eρ3 r).trans ((r2_ne r (by omega)).trans (hU r h))
  have kf_1_0 : ρ3 1 0 = some 2 := by rw [eρ3, r2_at, if_neg (by decide)]; exact kf_1_0
  have kf_1_2 : ρ3 1 2 = some 3 := by rw [eρ3, r2_at, if_neg (by decide)]; exact kf_1_2
  have kf_1_3 : ρ3 1 3 = some 5 := by rw [eρ3, r2_at, if_neg (by decide)]; exact kf_1_3
  have kf_1_5 : ρ3 1 5 = some 10 := by rw [eρ3, r2_at, if_neg (by decide)]; exact kf_1_5
  have kf_1_9 : ρ3 1 9 = some 11 := by rw [eρ3, r2_at, if_neg (by decide)]; exact kf_1_9
  have kf_1_11 : ρ3 1 11 = some 12 := by rw [eρ3, r2_at, if_neg (by decide)]; exact kf_1_11
  have kf_1_12 : ρ3 1 12 = some 13 := by rw [eρ3, r2_at, if_neg (by decide)]; exact kf_1_12
  have kf_0_0 : ρ3 0 0 = some 1 := by rw [eρ3, r2_at, if_pos rfl, if_pos rfl]
  refine lv_aload_n hx hb dX11_init_15 rfl (lv_at hl 0 rfl) ?_
  refine x_new (ci := 8) (fs := [.null, .int 0, .null, .null, .int 0, .null, .int 0, .int 0, .int 0, .null, .int 0, .null, .null, .int 0]) tyX8_ok rfl rfl (fun _ => rfl) (fun j hj => by have : j < 14 := hj; revert j; decide) C hP hS hR (kk_14 hKL) (hB 14 (Nat.le_refl _)) inlX8 mw_12 mw_13 mw_14 (Nat.le_of_ble_eq_true rfl) (Nat.le_of_ble_eq_true rfl) dX11_init_16 (fun ad4 H hE hA C hP hS => ?_)
  rw [← hE 0 (by decide)]
  rw [← hE 0 (by decide)] at hl
  have hEE : ∀ r, r < 1 → ad4 r = ad r := fun r h => (hE r (by omega)).trans (hEE r h)
  have hAA := hA.trans hAA
  have C : Cx Y D 15 ad4 p s m args meth c cX11_init 2 none RX11 wsL_law := C
  have hP : WP Y D 15 ad4 K len σ2 ρ3 _ := hP
  have hS : va_S (AA 15 ad4 s.heap.size) s.heap _ _ := hS
  have hR : RC 15 ρ3 := RC_grow hR (hB 14 (Nat.le_refl _)).2
  have hB : BL 15 σ2 ρ3 := BL_grow hB
  refine lv_dup hx hb dX11_init_19 rfl ?_
  obtain ⟨σ5, ρ5, hq5, hF⟩ := bn2_1 hF
  refine x_callI (ws := (Cond.code yX8_init cX8_init 1 none :: wsL_law)) C hP hS (c_X8_init_14 hKL hR hB hq5) (cwI 0 C.1.2.2.2.2 (gdI mw_36) rfl rfl rfl (C.1.2.2.2.2 _ mw_14) (C.1.2.2.2.2 _ mw_34) (C.1.2.2.2.2 _ mw_35) rfl hd_X8_init.2 ⟨Nat.le_of_ble_eq_true rfl, Nat.le_of_ble_eq_true rfl⟩) rfl rfl hl.1 (Nat.le_of_ble_eq_true rfl) ⟨(Nat.le_of_ble_eq_true rfl), (Nat.le_of_ble_eq_true rfl)⟩ dX11_init_20 (fun ad5 H locs hE hA C hP hS => ?_)
  obtain ⟨hR, hB, hU5, hkn⟩ := k_X8_init_14 hR hB hq5
  rw [← hE 0 (by decide)]
  rw [← hE 14 (by decide)]
  rw [← hE 0 (by decide)] at hl
  have hEE : ∀ r, r < 1 → ad5 r = ad r := fun r h => (hE r (by omega)).trans (hEE r h)
  have hAA := hA.trans hAA
  have C : Cx Y D 27 ad5 p s m args meth c cX11_init 2 none RX11 wsL_law := C
  have hP : WP Y D 27 ad5 K len σ5 ρ5 _ := hP
  have hS : va_S (AA 27 ad5 s.heap.size) s.heap _ _ := hS
  have hU : ∀ r, r < 0 → ρ5 r = ρ r := fun r h => (hU5 r (by omega)).trans (hU r h)
  have kf_1_0 : ρ5 1 0 = some 2 := by rw [hU5 1 (by decide)]; exact kf_1_0
  have kf_1_2 : ρ5 1 2 = some 3 := by rw [hU5 1 (by decide)]; exact kf_1_2
  have kf_1_3 : ρ5 1 3 = some 5 := by rw [hU5 1 (by decide)]; exact kf_1_3
  have kf_1_5 : ρ5 1 5 = some 10 := by rw [hU5 1 (by decide)]; exact kf_1_5
  have kf_1_9 : ρ5 1 9 = some 11 := by rw [hU5 1 (by decide)]; exact kf_1_9
  have kf_1_11 : ρ5 1 11 = some 12 := by rw [hU5 1 (by decide)]; exact kf_1_11
  have kf_1_12 : ρ5 1 12 = some 13 := by rw [hU5 1 (by decide)]; exact kf_1_12
  have kf_0_0 : ρ5 0 0 = some 1 := by rw [hU5 0 (by decide)]; exact kf_0_0
  have kf_14_0 : ρ5 14 0 = some 15 := hkn (14, 0, 15) (by decide)
  have kf_14_2 : ρ5 14 2 = some 16 := hkn (14, 2, 16) (by decide)
  have kf_14_3 : ρ5 14 3 = some 18 := hkn (14, 3, 18) (by decide)
  have kf_14_5 : ρ5 14 5 = some 23 := hkn (14, 5, 23) (by decide)
  have kf_14_9 : ρ5 14 9 = some 24 := hkn (14, 9, 24) (by decide)
  have kf_14_11 : ρ5 14 11 = some 25 := hkn (14, 11, 25) (by decide)
  have kf_14_12 : ρ5 14 12 = some 26 := hkn (14, 12, 26) (by decide)
  obtain ⟨ρ6, eρ6, hF⟩ := nm_1 hF
  refine put_11_1 C hP hS (by decide) (kk_0 hKL) inlX11 mw_16 ⟨hnm, rfl⟩ eρ6 dX11_init_23 (fun H locs hP hS => ?_)
  have hR : RC 27 ρ6 := by rw [eρ6]; exact RC_put hR (by decide)
  have hB : BL 27 σ5 ρ6 := by rw [eρ6]; exact BL_r2 hB (by decide)
  have hU : ∀ r, r < 0 → ρ6 r = ρ r := fun r h => (congrFun eρ6 r).trans ((r2_ne r (by omega)).trans (hU r h))
  have kf_1_0 : ρ6 1 0 = some 2 := by rw [eρ6, r2_at, if_neg (by decide)]; exact kf_1_0
  have kf_1_2 : ρ6 1 2 = some 3 := by rw [eρ6, r2_at, if_neg (by decide)]; exact kf_1_2
  have kf_1_3 : ρ6 1 3 = some 5 := by rw [eρ6, r2_at, if_neg (by decide)]; exact kf_1_3
  have kf_1_5 : ρ6 1 5 = some 10 := by rw [eρ6, r2_at, if_neg (by decide)]; exact kf_1_5
  have kf_1_9 : ρ6 1 9 = some 11 := by rw [eρ6, r2_at, if_neg (by decide)]; exact kf_1_9
  have kf_1_11 : ρ6 1 11 = some 12 := by rw [eρ6, r2_at, if_neg (by decide)]; exact kf_1_11
  have kf_1_12 : ρ6 1 12 = some 13 := by rw [eρ6, r2_at, if_neg (by decide)]; exact kf_1_12
  have kf_0_0 : ρ6 0 0 = some 1 := by rw [eρ6, r2_at, if_pos rfl, if_neg (by decide)]; exact kf_0_0
  have kf_14_0 : ρ6 14 0 = some 15 := by rw [eρ6, r2_at, if_neg (by decide)]; exact kf_14_0
  have kf_14_2 : ρ6 14 2 = some 16 := by rw [eρ6, r2_at, if_neg (by decide)]; exact kf_14_2
  have kf_14_3 : ρ6 14 3 = some 18 := by rw [eρ6, r2_at, if_neg (by decide)]; exact kf_14_3
  have kf_14_5 : ρ6 14 5 = some 23 := by rw [eρ6, r2_at, if_neg (by decide)]; exact kf_14_5
  have kf_14_9 : ρ6 14 9 = some 24 := by rw [eρ6, r2_at, if_neg (by decide)]; exact kf_14_9
  have kf_14_11 : ρ6 14 11 = some 25 := by rw [eρ6, r2_at, if_neg (by decide)]; exact kf_14_11
  have kf_14_12 : ρ6 14 12 = some 26 := by rw [eρ6, r2_at, if_neg (by decide)]; exact kf_14_12
  have kf_0_1 : ρ6 0 1 = some 14 := by rw [eρ6, r2_at, if_pos rfl, if_pos rfl]
  refine lv_aload_n hx hb dX11_init_26 rfl (lv_at hl 0 rfl) ?_
  refine x_new (ci := 10) (fs := [.null, .int 0]) tyX10_ok rfl rfl (fun _ => rfl) (fun j hj => by have : j < 2 := hj; revert j; decide) C hP hS hR (kk_27 hKL) (hB 27 (Nat.le_refl _)) inlX10 mw_17 mw_18 mw_19 (Nat.le_of_ble_eq_true rfl) (Nat.le_of_ble_eq_true rfl) dX11_init_27 (fun ad7 H hE hA C hP hS => ?_)
  rw [← hE 0 (by decide)]
  rw [← hE 0 (by decide)] at hl
  have hEE : ∀ r, r < 1 → ad7 r = ad r := fun r h => (hE r (by omega)).trans (hEE r h)
  have hAA := hA.trans hAA
  have C : Cx Y D 28 ad7 p s m args meth c cX11_init 2 none RX11 wsL_law := C
  have hP : WP Y D 28 ad7 K len σ5 ρ6 _ := hP
  have hS : va_S (AA 28 ad7 s.heap.size) s.heap _ _ := hS
  have hR : RC 28 ρ6 := RC_grow hR (hB 27 (Nat.le_refl _)).2
  have hB : BL 28 σ5 ρ6 := BL_grow hB
  refine lv_dup hx hb dX11_init_30 rfl ?_
  obtain ⟨σ8, ρ8, hq8, hF⟩ := bn2_1 hF
  refine x_callIN (ws := (Cond.code yX10_init cX10_init 1 none :: wsL_law)) C hP hS (c_X10_init_27 hKL hR hB hq8) ⟨va_cnB 0 C.1.2.2.2.2 (gdI mw_74) rfl rfl rfl (x_nest (own := "CutCrooked") (idx := 23) (y := yX10_init) (host := "CutCrooked") C (by decide +kernel)) (C.1.2.2.2.2 _ mw_19) hd_X10_init.2 ⟨Nat.le_of_ble_eq_true rfl, Nat.le_of_ble_eq_true rfl⟩, rfl, (C.1.2.2.2.2 _ mw_73)⟩ rfl rfl hl.1 (Nat.le_of_ble_eq_true rfl) ⟨(Nat.le_of_ble_eq_true rfl), (Nat.le_of_ble_eq_true rfl)⟩ dX11_init_31 (fun ad8 H locs hE hA C hP hS => ?_)
  obtain ⟨hR, hB, hU8, hkn⟩ := k_X10_init_27 hR hB hq8
  rw [← hE 0 (by decide)]
  rw [← hE 27 (by decide)]
  rw [← hE 0 (by decide)] at hl
  have hEE : ∀ r, r < 1 → ad8 r = ad r := fun r h => (hE r (by omega)).trans (hEE r h)
  have hAA := hA.trans hAA
  have C : Cx Y D 29 ad8 p s m args meth c cX11_init 2 none RX11 wsL_law := C
  have hP : WP Y D 29 ad8 K len σ8 ρ8 _ := hP
  have hS : va_S (AA 29 ad8 s.heap.size) s.heap _ _ := hS
  have hU : ∀ r, r < 0 → ρ8 r = ρ r := fun r h => (hU8 r (by omega)).trans (hU r h)
  have kf_1_0 : ρ8 1 0 = some 2 := by rw [hU8 1 (by decide)]; exact kf_1_0
  have kf_1_2 : ρ8 1 2 = some 3 := by rw [hU8 1 (by decide)]; exact kf_1_2
  have kf_1_3 : ρ8 1 3 = some 5 := by rw [hU8 1 (by decide)]; exact kf_1_3
  have kf_1_5 : ρ8 1 5 = some 10 := by rw [hU8 1 (by decide)]; exact kf_1_5
  have kf_1_9 : ρ8 1 9 = some 11 := by rw [hU8 1 (by decide)]; exact kf_1_9
  have kf_1_11 : ρ8 1 11 = some 12 := by rw [hU8 1 (by decide)]; exact kf_1_11
  have kf_1_12 : ρ8 1 12 = some 13 := by rw [hU8 1 (by decide)]; exact kf_1_12
  have kf_0_0 : ρ8 0 0 = some 1 := by rw [hU8 0 (by decide)]; exact kf_0_0
  have kf_14_0 : ρ8 14 0 = some 15 := by rw [hU8 14 (by decide)]; exact kf_14_0
  have kf_14_2 : ρ8 14 2 = some 16 := by rw [hU8 14 (by decide)]; exact kf_14_2
  have kf_14_3 : ρ8 14 3 = some 18 := by rw [hU8 14 (by decide)]; exact kf_14_3
  have kf_14_5 : ρ8 14 5 = some 23 := by rw [hU8 14 (by decide)]; exact kf_14_5
  have kf_14_9 : ρ8 14 9 = some 24 := by rw [hU8 14 (by decide)]; exact kf_14_9
  have kf_14_11 : ρ8 14 11 = some 25 := by rw [hU8 14 (by decide)]; exact kf_14_11
  have kf_14_12 : ρ8 14 12 = some 26 := by rw [hU8 14 (by decide)]; exact kf_14_12
  have kf_0_1 : ρ8 0 1 = some 14 := by rw [hU8 0 (by decide)]; exact kf_0_1
  have kf_27_0 : ρ8 27 0 = some 28 := hkn (27, 0, 28) (by decide)
  obtain ⟨ρ9, eρ9, hF⟩ := nm_1 hF
  refine put_11_3 C hP hS (by decide) (kk_0 hKL) inlX11 mw_20 ⟨hnm, rfl⟩ eρ9 dX11_init_34 (fun H locs hP hS => ?_)
  have hR : RC 29 ρ9 := by rw [eρ9]; exact RC_put hR (by decide)
  have hB : BL 29 σ8 ρ9 := by rw [eρ9]; exact BL_r2 hB (by decide)
  have hU : ∀ r, r < 0 → ρ9 r = ρ r := fun r h => (congrFun eρ9 r).trans ((r2_ne r (by omega)).trans (hU r h))
  have kf_1_0 : ρ9 1 0 = some 2 := by rw [eρ9, r2_at, if_neg (by decide)]; exact kf_1_0
  have kf_1_2 : ρ9 1 2 = some 3 := by rw [eρ9, r2_at, if_neg (by decide)]; exact kf_1_2
  have kf_1_3 : ρ9 1 3 = some 5 := by rw [eρ9, r2_at, if_neg (by decide)]; exact kf_1_3
  have kf_1_5 : ρ9 1 5 = some 10 := by rw [eρ9, r2_at, if_neg (by decide)]; exact kf_1_5
  have kf_1_9 : ρ9 1 9 = some 11 := by rw [eρ9, r2_at, if_neg (by decide)]; exact kf_1_9
  have kf_1_11 : ρ9 1 11 = some 12 := by rw [eρ9, r2_at, if_neg (by decide)]; exact kf_1_11
  have kf_1_12 : ρ9 1 12 = some 13 := by rw [eρ9, r2_at, if_neg (by decide)]; exact kf_1_12
  have kf_0_0 : ρ9 0 0 = some 1 := by rw [eρ9, r2_at, if_pos rfl, if_neg (by decide)]; exact kf_0_0
  have kf_14_0 : ρ9 14 0 = some 15 := by rw [eρ9, r2_at, if_neg (by decide)]; exact kf_14_0
  have kf_14_2 : ρ9 14 2 = some 16 := by rw [eρ9, r2_at, if_neg (by decide)]; exact kf_14_2
  have kf_14_3 : ρ9 14 3 = some 18 := by rw [eρ9, r2_at, if_neg (by decide)]; exact kf_14_3
  have kf_14_5 : ρ9 14 5 = some 23 := by rw [eρ9, r2_at, if_neg (by decide)]; exact kf_14_5
  have kf_14_9 : ρ9 14 9 = some 24 := by rw [eρ9, r2_at, if_neg (by decide)]; exact kf_14_9
  have kf_14_11 : ρ9 14 11 = some 25 := by rw [eρ9, r2_at, if_neg (by decide)]; exact kf_14_11
  have kf_14_12 : ρ9 14 12 = some 26 := by rw [eρ9, r2_at, if_neg (by decide)]; exact kf_14_12
  have kf_0_1 : ρ9 0 1 = some 14 := by rw [eρ9, r2_at, if_pos rfl, if_neg (by decide)]; exact kf_0_1
  have kf_27_0 : ρ9 27 0 = some 28 := by rw [eρ9, r2_at, if_neg (by decide)]; exact kf_27_0
  have kf_0_3 : ρ9 0 3 = some 27 := by rw [eρ9, r2_at, if_pos rfl, if_pos rfl]
  refine lv_aload_n hx hb dX11_init_37 rfl (lv_at hl 0 rfl) ?_
  refine x_new (ci := 0) (fs := [.int 0, .int 0, .int 0, .null, .null, .null, .null, .int 0, .null, .int 0, .int 0, .int 0]) tyX0_ok rfl rfl (fun _ => rfl) (fun j hj => by have : j < 12 := hj; revert j; decide) C hP hS hR (kk_29 hKL) (hB 29 (Nat.le_refl _)) inlX0 mw_21 mw_22 mw_23 (Nat.le_of_ble_eq_true rfl) (Nat.le_of_ble_eq_true rfl) dX11_init_38 (fun ad10 H hE hA C hP hS => ?_)
  rw [← hE 0 (by decide)]
  rw [← hE 0 (by decide)] at hl
  have hEE : ∀ r, r < 1 → ad10 r = ad r := fun r h => (hE r (by omega)).trans (hEE r h)
  have hAA := hA.trans hAA
  have C : Cx Y D 30 ad10 p s m args meth c cX11_init 2 none RX11 wsL_law := C
  have hP : WP Y D 30 ad10 K len σ8 ρ9 _ := hP
  have hS : va_S (AA 30 ad10 s.heap.size) s.heap _ _ := hS
  have hR : RC 30 ρ9 := RC_grow hR (hB 29 (Nat.le_refl _)).2
  have hB : BL 30 σ8 ρ9 := BL_grow hB
  refine lv_dup hx hb dX11_init_41 rfl ?_
  obtain ⟨σ11, ρ11, hq11, hF⟩ := bn2_1 hF
  refine x_callIN (ws := (Cond.code yX0_init cX0_init 1 none :: wsL_law)) C hP hS (c_X0_init_29 hKL hR hB hq11) ⟨va_cnB 0 C.1.2.2.2.2 (gdI mw_54) rfl rfl rfl (x_nest (own := "CutCrooked") (idx := 30) (y := yX0_init) (host := "CutCrooked") C (by decide +kernel)) (C.1.2.2.2.2 _ mw_23) hd_X0_init.2 ⟨Nat.le_of_ble_eq_true rfl, Nat.le_of_ble_eq_true rfl⟩, rfl, (C.1.2.2.2.2 _ mw_53)⟩ rfl rfl hl.1 (Nat.le_of_ble_eq_true rfl) ⟨(Nat.le_of_ble_eq_true rfl), (Nat.le_of_ble_eq_true rfl)⟩ dX11_init_42 (fun ad11 H locs hE hA C hP hS => ?_)
  obtain ⟨hR, hB, hU11, hkn⟩ := k_X0_init_29 hR hB hq11
  rw [← hE 0 (by decide)]
  rw [← hE 29 (by decide)]
  rw [← hE 0 (by decide)] at hl
  have hEE : ∀ r, r < 1 → ad11 r = ad r := fun r h => (hE r (by omega)).trans (hEE r h)
  have hAA := hA.trans hAA
  have C : Cx Y D 34 ad11 p s m args meth c cX11_init 2 none RX11 wsL_law := C
  have hP : WP Y D 34 ad11 K len σ11 ρ11 _ := hP
  have hS : va_S (AA 34 ad11 s.heap.size) s.heap _ _ := hS
  have hU : ∀ r, r < 0 → ρ11 r = ρ r := fun r h => (hU11 r (by omega)).trans (hU r h)
  have kf_1_0 : ρ11 1 0 = some 2 := by rw [hU11 1 (by decide)]; exact kf_1_0
  have kf_1_2 : ρ11 1 2 = some 3 := by rw [hU11 1 (by decide)]; exact kf_1_2
  have kf_1_3 : ρ11 1 3 = some 5 := by rw [hU11 1 (by decide)]; exact kf_1_3
  have kf_1_5 : ρ11 1 5 = some 10 := by rw [hU11 1 (by decide)]; exact kf_1_5
  have kf_1_9 : ρ11 1 9 = some 11 := by rw [hU11 1 (by decide)]; exact kf_1_9
  have kf_1_11 : ρ11 1 11 = some 12 := by rw [hU11 1 (by decide)]; exact kf_1_11
  have kf_1_12 : ρ11 1 12 = some 13 := by rw [hU11 1 (by decide)]; exact kf_1_12
  have kf_0_0 : ρ11 0 0 = some 1 := by rw [hU11 0 (by decide)]; exact kf_0_0
  have kf_14_0 : ρ11 14 0 = some 15 := by rw [hU11 14 (by decide)]; exact kf_14_0
  have kf_14_2 : ρ11 14 2 = some 16 := by rw [hU11 14 (by decide)]; exact kf_14_2
  have kf_14_3 : ρ11 14 3 = some 18 := by rw [hU11 14 (by decide)]; exact kf_14_3
  have kf_14_5 : ρ11 14 5 = some 23 := by rw [hU11 14 (by decide)]; exact kf_14_5
  have kf_14_9 : ρ11 14 9 = some 24 := by rw [hU11 14 (by decide)]; exact kf_14_9
  have kf_14_11 : ρ11 14 11 = some 25 := by rw [hU11 14 (by decide)]; exact kf_14_11
  have kf_14_12 : ρ11 14 12 = some 26 := by rw [hU11 14 (by decide)]; exact kf_14_12
  have kf_0_1 : ρ11 0 1 = some 14 := by rw [hU11 0 (by decide)]; exact kf_0_1
  have kf_27_0 : ρ11 27 0 = some 28 := by rw [hU11 27 (by decide)]; exact kf_27_0
  have kf_0_3 : ρ11 0 3 = some 27 := by rw [hU11 0 (by decide)]; exact kf_0_3
  have kf_29_3 : ρ11 29 3 = some 30 := hkn (29, 3, 30) (by decide)
  have kf_29_4 : ρ11 29 4 = some 31 := hkn (29, 4, 31) (by decide)
  have kf_29_5 : ρ11 29 5 = some 32 := hkn (29, 5, 32) (by decide)
  have kf_29_6 : ρ11 29 6 = some 33 := hkn (29, 6, 33) (by decide)
  obtain ⟨ρ12, eρ12, hF⟩ := nm_1 hF
  refine put_11_4 C hP hS (by decide) (kk_0 hKL) inlX11 mw_24 ⟨hnm, rfl⟩ eρ12 dX11_init_45 (fun H locs hP hS => ?_)
  have hR : RC 34 ρ12 := by rw [eρ12]; exact RC_put hR (by decide)
  have hB : BL 34 σ11 ρ12 := by rw [eρ12]; exact BL_r2 hB (by decide)
  have hU : ∀ r, r < 0 → ρ12 r = ρ r := fun r h => (congrFun eρ12 r).trans ((r2_ne r (by omega)).trans (hU r h))
  have kf_1_0 : ρ12 1 0 = some 2 := by rw [eρ12, r2_at, if_neg (by decide)]; exact kf_1_0
  have kf_1_2 : ρ12 1 2 = some 3 := by rw [eρ12, r2_at, if_neg (by decide)]; exact kf_1_2
  have kf_1_3 : ρ12 1 3 = some 5 := by rw [eρ12, r2_at, if_neg (by decide)]; exact kf_1_3
  have kf_1_5 : ρ12 1 5 = some 10 := by rw [eρ12, r2_at, if_neg (by decide)]; exact kf_1_5
  have kf_1_9 : ρ12 1 9 = some 11 := by rw [eρ12, r2_at, if_neg (by decide)]; exact kf_1_9
  have kf_1_11 : ρ12 1 11 = some 12 := by rw [eρ12, r2_at, if_neg (by decide)]; exact kf_1_11
  have kf_1_12 : ρ12 1 12 = some 13 := by rw [eρ12, r2_at, if_neg (by decide)]; exact kf_1_12
  have kf_0_0 : ρ12 0 0 = some 1 := by rw [eρ12, r2_at, if_pos rfl, if_neg (by decide)]; exact kf_0_0
  have kf_14_0 : ρ12 14 0 = some 15 := by rw [eρ12, r2_at, if_neg (by decide)]; exact kf_14_0
  have kf_14_2 : ρ12 14 2 = some 16 := by rw [eρ12, r2_at, if_neg (by decide)]; exact kf_14_2
  have kf_14_3 : ρ12 14 3 = some 18 := by rw [eρ12, r2_at, if_neg (by decide)]; exact kf_14_3
  have kf_14_5 : ρ12 14 5 = some 23 := by rw [eρ12, r2_at, if_neg (by decide)]; exact kf_14_5
  have kf_14_9 : ρ12 14 9 = some 24 := by rw [eρ12, r2_at, if_neg (by decide)]; exact kf_14_9
  have kf_14_11 : ρ12 14 11 = some 25 := by rw [eρ12, r2_at, if_neg (by decide)]; exact kf_14_11
  have kf_14_12 : ρ12 14 12 = some 26 := by rw [eρ12, r2_at, if_neg (by decide)]; exact kf_14_12
  have kf_0_1 : ρ12 0 1 = some 14 := by rw [eρ12, r2_at, if_pos rfl, if_neg (by decide)]; exact kf_0_1
  have kf_27_0 : ρ12 27 0 = some 28 := by rw [eρ12, r2_at, if_neg (by decide)]; exact kf_27_0
  have kf_0_3 : ρ12 0 3 = some 27 := by rw [eρ12, r2_at, if_pos rfl, if_neg (by decide)]; exact kf_0_3
  have kf_29_3 : ρ12 29 3 = some 30 := by rw [eρ12, r2_at, if_neg (by decide)]; exact kf_29_3
  have kf_29_4 : ρ12 29 4 = some 31 := by rw [eρ12, r2_at, if_neg (by decide)]; exact kf_29_4
  have kf_29_5 : ρ12 29 5 = some 32 := by rw [eρ12, r2_at, if_neg (by decide)]; exact kf_29_5
  have kf_29_6 : ρ12 29 6 = some 33 := by rw [eρ12, r2_at, if_neg (by decide)]; exact kf_29_6
  have kf_0_4 : ρ12 0 4 = some 29 := by rw [eρ12, r2_at, if_pos rfl, if_pos rfl]
  refine lv_aload_n hx hb dX11_init_48 rfl (lv_at hl 0 rfl) ?_
  refine lv_bipush (v := 7) hx hb dX11_init_49 (by decide +kernel) ?_
  refine x_newq (t := 17) (y := 4) (Cn := "CutCrooked$Loaf") rfl (fun _ _ _ _ => rfl) C C.2.2.2.2.2.1.2.2.2.2 hP hS hR (kk_34 hKL) (kn_34 hKL) (hB 34 (Nat.le_refl _)) mw_25 (by decide) cl_7 (Nat.le_of_ble_eq_true rfl) (Nat.le_of_ble_eq_true rfl) (Nat.le_of_ble_eq_true rfl) dX11_init_51 (fun ad13 H hE hA C hP hS => ?_)
  rw [← hE 0 (by decide)]
  rw [← hE 0 (by decide)] at hl
  have hEE : ∀ r, r < 1 → ad13 r = ad r := fun r h => (hE r (by omega)).trans (hEE r h)
  have hAA := hA.trans hAA
  have C : Cx Y D 35 ad13 p s m args meth c cX11_init 2 none RX11 wsL_law := C
  have hP : WP Y D 35 ad13 K len σ11 ρ12 _ := hP
  have hS : va_S (AA 35 ad13 s.heap.size) s.heap _ _ := hS
  have hR : RC 35 ρ12 := RC_grow hR (hB 34 (Nat.le_refl _)).2
  have hB : BL 35 σ11 ρ12 := BL_grow hB
  obtain ⟨ρ14, eρ14, hF⟩ := nm_1 hF
  refine put_11_5 C hP hS (by decide) (kk_0 hKL) inlX11 mw_26 ⟨hnm, rfl⟩ eρ14 dX11_init_54 (fun H locs hP hS => ?_)
  have hR : RC 35 ρ14 := by rw [eρ14]; exact RC_put hR (by decide)
  have hB : BL 35 σ11 ρ14 := by rw [eρ14]; exact BL_r2 hB (by decide)
  have hU : ∀ r, r < 0 → ρ14 r = ρ r := fun r h => (congrFun eρ14 r).trans ((r2_ne r (by omega)).trans (hU r h))
  have kf_1_0 : ρ14 1 0 = some 2 := by rw [eρ14, r2_at, if_neg (by decide)]; exact kf_1_0
  have kf_1_2 : ρ14 1 2 = some 3 := by rw [eρ14, r2_at, if_neg (by decide)]; exact kf_1_2
  have kf_1_3 : ρ14 1 3 = some 5 := by rw [eρ14, r2_at, if_neg (by decide)]; exact kf_1_3
  have kf_1_5 : ρ14 1 5 = some 10 := by rw [eρ14, r2_at, if_neg (by decide)]; exact kf_1_5
  have kf_1_9 : ρ14 1 9 = some 11 := by rw [eρ14, r2_at, if_neg (by decide)]; exact kf_1_9
  have kf_1_11 : ρ14 1 11 = some 12 := by rw [eρ14, r2_at, if_neg (by decide)]; exact kf_1_11
  have kf_1_12 : ρ14 1 12 = some 13 := by rw [eρ14, r2_at, if_neg (by decide)]; exact kf_1_12
  have kf_0_0 : ρ14 0 0 = some 1 := by rw [eρ14, r2_at, if_pos rfl, if_neg (by decide)]; exact kf_0_0
  have kf_14_0 : ρ14 14 0 = some 15 := by rw [eρ14, r2_at, if_neg (by decide)]; exact kf_14_0
  have kf_14_2 : ρ14 14 2 = some 16 := by rw [eρ14, r2_at, if_neg (by decide)]; exact kf_14_2
  have kf_14_3 : ρ14 14 3 = some 18 := by rw [eρ14, r2_at, if_neg (by decide)]; exact kf_14_3
  have kf_14_5 : ρ14 14 5 = some 23 := by rw [eρ14, r2_at, if_neg (by decide)]; exact kf_14_5
  have kf_14_9 : ρ14 14 9 = some 24 := by rw [eρ14, r2_at, if_neg (by decide)]; exact kf_14_9
  have kf_14_11 : ρ14 14 11 = some 25 := by rw [eρ14, r2_at, if_neg (by decide)]; exact kf_14_11
  have kf_14_12 : ρ14 14 12 = some 26 := by rw [eρ14, r2_at, if_neg (by decide)]; exact kf_14_12
  have kf_0_1 : ρ14 0 1 = some 14 := by rw [eρ14, r2_at, if_pos rfl, if_neg (by decide)]; exact kf_0_1
  have kf_27_0 : ρ14 27 0 = some 28 := by rw [eρ14, r2_at, if_neg (by decide)]; exact kf_27_0
  have kf_0_3 : ρ14 0 3 = some 27 := by rw [eρ14, r2_at, if_pos rfl, if_neg (by decide)]; exact kf_0_3
  have kf_29_3 : ρ14 29 3 = some 30 := by rw [eρ14, r2_at, if_neg (by decide)]; exact kf_29_3
  have kf_29_4 : ρ14 29 4 = some 31 := by rw [eρ14, r2_at, if_neg (by decide)]; exact kf_29_4
  have kf_29_5 : ρ14 29 5 = some 32 := by rw [eρ14, r2_at, if_neg (by decide)]; exact kf_29_5
  have kf_29_6 : ρ14 29 6 = some 33 := by rw [eρ14, r2_at, if_neg (by decide)]; exact kf_29_6
  have kf_0_4 : ρ14 0 4 = some 29 := by rw [eρ14, r2_at, if_pos rfl, if_neg (by decide)]; exact kf_0_4
  have kf_0_5 : ρ14 0 5 = some 34 := by rw [eρ14, r2_at, if_pos rfl, if_pos rfl]
  refine lv_aload_n hx hb dX11_init_57 rfl (lv_at hl 0 rfl) ?_
  refine lv_bipush (v := 6) hx hb dX11_init_58 (by decide +kernel) ?_
  refine x_newa (atype := .int) (ty := .int) (t := 14) (y := 1) rfl (fun _ h => by cases h) rfl rfl (fun _ _ _ _ => rfl) C hP hS hR (kk_35 hKL) (kn_35 hKL) (hB 35 (Nat.le_refl _)) mw_27 (by decide) cl_6 (Nat.le_of_ble_eq_true rfl) (Nat.le_of_ble_eq_true rfl) (Nat.le_of_ble_eq_true rfl) dX11_init_60 (fun ad15 H hE hA C hP hS => ?_)
  rw [← hE 0 (by decide)]
  rw [← hE 0 (by decide)] at hl
  have hEE : ∀ r, r < 1 → ad15 r = ad r := fun r h => (hE r (by omega)).trans (hEE r h)
  have hAA := hA.trans hAA
  have C : Cx Y D 36 ad15 p s m args meth c cX11_init 2 none RX11 wsL_law := C
  have hP : WP Y D 36 ad15 K len σ11 ρ14 _ := hP
  have hS : va_S (AA 36 ad15 s.heap.size) s.heap _ _ := hS
  have hR : RC 36 ρ14 := RC_grow hR (hB 35 (Nat.le_refl _)).2
  have hB : BL 36 σ11 ρ14 := BL_grow hB
  obtain ⟨ρ16, eρ16, hF⟩ := nm_1 hF
  refine put_11_6 C hP hS (by decide) (kk_0 hKL) inlX11 mw_28 ⟨hnm, rfl⟩ eρ16 dX11_init_62 (fun H locs hP hS => ?_)
  have hR : RC 36 ρ16 := by rw [eρ16]; exact RC_put hR (by decide)
  have hB : BL 36 σ11 ρ16 := by rw [eρ16]; exact BL_r2 hB (by decide)
  have hU : ∀ r, r < 0 → ρ16 r = ρ r := fun r h => (congrFun eρ16 r).trans ((r2_ne r (by omega)).trans (hU r h))
  have kf_1_0 : ρ16 1 0 = some 2 := by rw [eρ16, r2_at, if_neg (by decide)]; exact kf_1_0
  have kf_1_2 : ρ16 1 2 = some 3 := by rw [eρ16, r2_at, if_neg (by decide)]; exact kf_1_2
  have kf_1_3 : ρ16 1 3 = some 5 := by rw [eρ16, r2_at, if_neg (by decide)]; exact kf_1_3
  have kf_1_5 : ρ16 1 5 = some 10 := by rw [eρ16, r2_at, if_neg (by decide)]; exact kf_1_5
  have kf_1_9 : ρ16 1 9 = some 11 := by rw [eρ16, r2_at, if_neg (by decide)]; exact kf_1_9
  have kf_1_11 : ρ16 1 11 = some 12 := by rw [eρ16, r2_at, if_neg (by decide)]; exact kf_1_11
  have kf_1_12 : ρ16 1 12 = some 13 := by rw [eρ16, r2_at, if_neg (by decide)]; exact kf_1_12
  have kf_0_0 : ρ16 0 0 = some 1 := by rw [eρ16, r2_at, if_pos rfl, if_neg (by decide)]; exact kf_0_0
  have kf_14_0 : ρ16 14 0 = some 15 := by rw [eρ16, r2_at, if_neg (by decide)]; exact kf_14_0
  have kf_14_2 : ρ16 14 2 = some 16 := by rw [eρ16, r2_at, if_neg (by decide)]; exact kf_14_2
  have kf_14_3 : ρ16 14 3 = some 18 := by rw [eρ16, r2_at, if_neg (by decide)]; exact kf_14_3
  have kf_14_5 : ρ16 14 5 = some 23 := by rw [eρ16, r2_at, if_neg (by decide)]; exact kf_14_5
  have kf_14_9 : ρ16 14 9 = some 24 := by rw [eρ16, r2_at, if_neg (by decide)]; exact kf_14_9
  have kf_14_11 : ρ16 14 11 = some 25 := by rw [eρ16, r2_at, if_neg (by decide)]; exact kf_14_11
  have kf_14_12 : ρ16 14 12 = some 26 := by rw [eρ16, r2_at, if_neg (by decide)]; exact kf_14_12
  have kf_0_1 : ρ16 0 1 = some 14 := by rw [eρ16, r2_at, if_pos rfl, if_neg (by decide)]; exact kf_0_1
  have kf_27_0 : ρ16 27 0 = some 28 := by rw [eρ16, r2_at, if_neg (by decide)]; exact kf_27_0
  have kf_0_3 : ρ16 0 3 = some 27 := by rw [eρ16, r2_at, if_pos rfl, if_neg (by decide)]; exact kf_0_3
  have kf_29_3 : ρ16 29 3 = some 30 := by rw [eρ16, r2_at, if_neg (by decide)]; exact kf_29_3
  have kf_29_4 : ρ16 29 4 = some 31 := by rw [eρ16, r2_at, if_neg (by decide)]; exact kf_29_4
  have kf_29_5 : ρ16 29 5 = some 32 := by rw [eρ16, r2_at, if_neg (by decide)]; exact kf_29_5
  have kf_29_6 : ρ16 29 6 = some 33 := by rw [eρ16, r2_at, if_neg (by decide)]; exact kf_29_6
  have kf_0_4 : ρ16 0 4 = some 29 := by rw [eρ16, r2_at, if_pos rfl, if_neg (by decide)]; exact kf_0_4
  have kf_0_5 : ρ16 0 5 = some 34 := by rw [eρ16, r2_at, if_pos rfl, if_neg (by decide)]; exact kf_0_5
  have kf_0_6 : ρ16 0 6 = some 35 := by rw [eρ16, r2_at, if_pos rfl, if_pos rfl]
  refine lv_aload_n hx hb dX11_init_65 rfl (lv_at hl 0 rfl) ?_
  refine lv_bipush (v := 6) hx hb dX11_init_66 (by decide +kernel) ?_
  refine x_newa (atype := .int) (ty := .int) (t := 14) (y := 1) rfl (fun _ h => by cases h) rfl rfl (fun _ _ _ _ => rfl) C hP hS hR (kk_36 hKL) (kn_36 hKL) (hB 36 (Nat.le_refl _)) mw_27 (by decide) cl_6 (Nat.le_of_ble_eq_true rfl) (Nat.le_of_ble_eq_true rfl) (Nat.le_of_ble_eq_true rfl) dX11_init_68 (fun ad17 H hE hA C hP hS => ?_)
  rw [← hE 0 (by decide)]
  rw [← hE 0 (by decide)] at hl
  have hEE : ∀ r, r < 1 → ad17 r = ad r := fun r h => (hE r (by omega)).trans (hEE r h)
  have hAA := hA.trans hAA
  have C : Cx Y D 37 ad17 p s m args meth c cX11_init 2 none RX11 wsL_law := C
  have hP : WP Y D 37 ad17 K len σ11 ρ16 _ := hP
  have hS : va_S (AA 37 ad17 s.heap.size) s.heap _ _ := hS
  have hR : RC 37 ρ16 := RC_grow hR (hB 36 (Nat.le_refl _)).2
  have hB : BL 37 σ11 ρ16 := BL_grow hB
  obtain ⟨ρ18, eρ18, hF⟩ := nm_1 hF
  refine put_11_7 C hP hS (by decide) (kk_0 hKL) inlX11 mw_29 ⟨hnm, rfl⟩ eρ18 dX11_init_70 (fun H locs hP hS => ?_)
  have hR : RC 37 ρ18 := by rw [eρ18]; exact RC_put hR (by decide)
  have hB : BL 37 σ11 ρ18 := by rw [eρ18]; exact BL_r2 hB (by decide)
  have hU : ∀ r, r < 0 → ρ18 r = ρ r := fun r h => (congrFun eρ18 r).trans ((r2_ne r (by omega)).trans (hU r h))
  have kf_1_0 : ρ18 1 0 = some 2 := by rw [eρ18, r2_at, if_neg (by decide)]; exact kf_1_0
  have kf_1_2 : ρ18 1 2 = some 3 := by rw [eρ18, r2_at, if_neg (by decide)]; exact kf_1_2
  have kf_1_3 : ρ18 1 3 = some 5 := by rw [eρ18, r2_at, if_neg (by decide)]; exact kf_1_3
  have kf_1_5 : ρ18 1 5 = some 10 := by rw [eρ18, r2_at, if_neg (by decide)]; exact kf_1_5
  have kf_1_9 : ρ18 1 9 = some 11 := by rw [eρ18, r2_at, if_neg (by decide)]; exact kf_1_9
  have kf_1_11 : ρ18 1 11 = some 12 := by rw [eρ18, r2_at, if_neg (by decide)]; exact kf_1_11
  have kf_1_12 : ρ18 1 12 = some 13 := by rw [eρ18, r2_at, if_neg (by decide)]; exact kf_1_12
  have kf_0_0 : ρ18 0 0 = some 1 := by rw [eρ18, r2_at, if_pos rfl, if_neg (by decide)]; exact kf_0_0
  have kf_14_0 : ρ18 14 0 = some 15 := by rw [eρ18, r2_at, if_neg (by decide)]; exact kf_14_0
  have kf_14_2 : ρ18 14 2 = some 16 := by rw [eρ18, r2_at, if_neg (by decide)]; exact kf_14_2
  have kf_14_3 : ρ18 14 3 = some 18 := by rw [eρ18, r2_at, if_neg (by decide)]; exact kf_14_3
  have kf_14_5 : ρ18 14 5 = some 23 := by rw [eρ18, r2_at, if_neg (by decide)]; exact kf_14_5
  have kf_14_9 : ρ18 14 9 = some 24 := by rw [eρ18, r2_at, if_neg (by decide)]; exact kf_14_9
  have kf_14_11 : ρ18 14 11 = some 25 := by rw [eρ18, r2_at, if_neg (by decide)]; exact kf_14_11
  have kf_14_12 : ρ18 14 12 = some 26 := by rw [eρ18, r2_at, if_neg (by decide)]; exact kf_14_12
  have kf_0_1 : ρ18 0 1 = some 14 := by rw [eρ18, r2_at, if_pos rfl, if_neg (by decide)]; exact kf_0_1
  have kf_27_0 : ρ18 27 0 = some 28 := by rw [eρ18, r2_at, if_neg (by decide)]; exact kf_27_0
  have kf_0_3 : ρ18 0 3 = some 27 := by rw [eρ18, r2_at, if_pos rfl, if_neg (by decide)]; exact kf_0_3
  have kf_29_3 : ρ18 29 3 = some 30 := by rw [eρ18, r2_at, if_neg (by decide)]; exact kf_29_3
  have kf_29_4 : ρ18 29 4 = some 31 := by rw [eρ18, r2_at, if_neg (by decide)]; exact kf_29_4
  have kf_29_5 : ρ18 29 5 = some 32 := by rw [eρ18, r2_at, if_neg (by decide)]; exact kf_29_5
  have kf_29_6 : ρ18 29 6 = some 33 := by rw [eρ18, r2_at, if_neg (by decide)]; exact kf_29_6
  have kf_0_4 : ρ18 0 4 = some 29 := by rw [eρ18, r2_at, if_pos rfl, if_neg (by decide)]; exact kf_0_4
  have kf_0_5 : ρ18 0 5 = some 34 := by rw [eρ18, r2_at, if_pos rfl, if_neg (by decide)]; exact kf_0_5
  have kf_0_6 : ρ18 0 6 = some 35 := by rw [eρ18, r2_at, if_pos rfl, if_neg (by decide)]; exact kf_0_6
  have kf_0_7 : ρ18 0 7 = some 36 := by rw [eρ18, r2_at, if_pos rfl, if_pos rfl]
  refine lv_aload_n hx hb dX11_init_73 rfl (lv_at hl 0 rfl) ?_
  refine x_new (ci := 3) (fs := [.int 0, .int 0, .int 0, .int 0, .int 0, .int 0, .int 0, .int 0, .int 0, .null]) tyX3_ok rfl rfl (fun _ => rfl) (fun j hj => by have : j < 10 := hj; revert j; decide) C hP hS hR (kk_37 hKL) (hB 37 (Nat.le_refl _)) inlX3 mw_25 mw_30 mw_31 (Nat.le_of_ble_eq_true rfl) (Nat.le_of_ble_eq_true rfl) dX11_init_74 (fun ad19 H hE hA C hP hS => ?_)
  rw [← hE 0 (by decide)]
  rw [← hE 0 (by decide)] at hl
  have hEE : ∀ r, r < 1 → ad19 r = ad r := fun r h => (hE r (by omega)).trans (hEE r h)
  have hAA := hA.trans hAA
  have C : Cx Y D 38 ad19 p s m args meth c cX11_init 2 none RX11 wsL_law := C
  have hP : WP Y D 38 ad19 K len σ11 ρ18 _ := hP
  have hS : va_S (AA 38 ad19 s.heap.size) s.heap _ _ := hS
  have hR : RC 38 ρ18 := RC_grow hR (hB 37 (Nat.le_refl _)).2
  have hB : BL 38 σ11 ρ18 := BL_grow hB
  refine lv_dup hx hb dX11_init_77 rfl ?_
  obtain ⟨σ20, ρ20, hq20, hF⟩ := bn2_1 hF
  refine x_callIN (ws := (Cond.code yX3_init cX3_init 1 none :: wsL_law)) C hP hS (c_X3_init_37 hKL hR hB hq20) ⟨va_cnB 0 C.1.2.2.2.2 (gdI mw_50) rfl rfl rfl (x_nest (own := "CutCrooked") (idx := 48) (y := yX3_init) (host := "CutCrooked") C (by decide +kernel)) (C.1.2.2.2.2 _ mw_31) hd_X3_init.2 ⟨Nat.le_of_ble_eq_true rfl, Nat.le_of_ble_eq_true rfl⟩, rfl, (C.1.2.2.2.2 _ mw_49)⟩ rfl rfl hl.1 (Nat.le_of_ble_eq_true rfl) ⟨(Nat.le_of_ble_eq_true rfl), (Nat.le_of_ble_eq_true rfl)⟩ dX11_init_78 (fun ad20 H locs hE hA C hP hS => ?_)
  obtain ⟨hR, hB, hU20, hkn⟩ := k_X3_init_37 hR hB hq20
  rw [← hE 0 (by decide)]
  rw [← hE 37 (by decide)]
  rw [← hE 0 (by decide)] at hl
  have hEE : ∀ r, r < 1 → ad20 r = ad r := fun r h => (hE r (by omega)).trans (hEE r h)
  have hAA := hA.trans hAA
  have C : Cx Y D 39 ad20 p s m args meth c cX11_init 2 none RX11 wsL_law := C
  have hP : WP Y D 39 ad20 K len σ20 ρ20 _ := hP
  have hS : va_S (AA 39 ad20 s.heap.size) s.heap _ _ := hS
  have hU : ∀ r, r < 0 → ρ20 r = ρ r := fun r h => (hU20 r (by omega)).trans (hU r h)
  have kf_1_0 : ρ20 1 0 = some 2 := by rw [hU20 1 (by decide)]; exact kf_1_0
  have kf_1_2 : ρ20 1 2 = some 3 := by rw [hU20 1 (by decide)]; exact kf_1_2
  have kf_1_3 : ρ20 1 3 = some 5 := by rw [hU20 1 (by decide)]; exact kf_1_3
  have kf_1_5 : ρ20 1 5 = some 10 := by rw [hU20 1 (by decide)]; exact kf_1_5
  have kf_1_9 : ρ20 1 9 = some 11 := by rw [hU20 1 (by decide)]; exact kf_1_9
  have kf_1_11 : ρ20 1 11 = some 12 := by rw [hU20 1 (by decide)]; exact kf_1_11
  have kf_1_12 : ρ20 1 12 = some 13 := by rw [hU20 1 (by decide)]; exact kf_1_12
  have kf_0_0 : ρ20 0 0 = some 1 := by rw [hU20 0 (by decide)]; exact kf_0_0
  have kf_14_0 : ρ20 14 0 = some 15 := by rw [hU20 14 (by decide)]; exact kf_14_0
  have kf_14_2 : ρ20 14 2 = some 16 := by rw [hU20 14 (by decide)]; exact kf_14_2
  have kf_14_3 : ρ20 14 3 = some 18 := by rw [hU20 14 (by decide)]; exact kf_14_3
  have kf_14_5 : ρ20 14 5 = some 23 := by rw [hU20 14 (by decide)]; exact kf_14_5
  have kf_14_9 : ρ20 14 9 = some 24 := by rw [hU20 14 (by decide)]; exact kf_14_9
  have kf_14_11 : ρ20 14 11 = some 25 := by rw [hU20 14 (by decide)]; exact kf_14_11
  have kf_14_12 : ρ20 14 12 = some 26 := by rw [hU20 14 (by decide)]; exact kf_14_12
  have kf_0_1 : ρ20 0 1 = some 14 := by rw [hU20 0 (by decide)]; exact kf_0_1
  have kf_27_0 : ρ20 27 0 = some 28 := by rw [hU20 27 (by decide)]; exact kf_27_0
  have kf_0_3 : ρ20 0 3 = some 27 := by rw [hU20 0 (by decide)]; exact kf_0_3
  have kf_29_3 : ρ20 29 3 = some 30 := by rw [hU20 29 (by decide)]; exact kf_29_3
  have kf_29_4 : ρ20 29 4 = some 31 := by rw [hU20 29 (by decide)]; exact kf_29_4
  have kf_29_5 : ρ20 29 5 = some 32 := by rw [hU20 29 (by decide)]; exact kf_29_5
  have kf_29_6 : ρ20 29 6 = some 33 := by rw [hU20 29 (by decide)]; exact kf_29_6
  have kf_0_4 : ρ20 0 4 = some 29 := by rw [hU20 0 (by decide)]; exact kf_0_4
  have kf_0_5 : ρ20 0 5 = some 34 := by rw [hU20 0 (by decide)]; exact kf_0_5
  have kf_0_6 : ρ20 0 6 = some 35 := by rw [hU20 0 (by decide)]; exact kf_0_6
  have kf_0_7 : ρ20 0 7 = some 36 := by rw [hU20 0 (by decide)]; exact kf_0_7
  have kf_37_9 : ρ20 37 9 = some 38 := hkn (37, 9, 38) (by decide)
  obtain ⟨ρ21, eρ21, hF⟩ := nm_1 hF
  refine put_11_11 C hP hS (by decide) (kk_0 hKL) inlX11 mw_32 ⟨hnm, rfl⟩ eρ21 dX11_init_81 (fun H locs hP hS => ?_)
  have hR : RC 39 ρ21 := by rw [eρ21]; exact RC_put hR (by decide)
  have hB : BL 39 σ20 ρ21 := by rw [eρ21]; exact BL_r2 hB (by decide)
  have hU : ∀ r, r < 0 → ρ21 r = ρ r := fun r h => (congrFun eρ21 r).trans ((r2_ne r (by omega)).trans (hU r h))
  have kf_1_0 : ρ21 1 0 = some 2 := by rw [eρ21, r2_at, if_neg (by decide)]; exact kf_1_0
  have kf_1_2 : ρ21 1 2 = some 3 := by rw [eρ21, r2_at, if_neg (by decide)]; exact kf_1_2
  have kf_1_3 : ρ21 1 3 = some 5 := by rw [eρ21, r2_at, if_neg (by decide)]; exact kf_1_3
  have kf_1_5 : ρ21 1 5 = some 10 := by rw [eρ21, r2_at, if_neg (by decide)]; exact kf_1_5
  have kf_1_9 : ρ21 1 9 = some 11 := by rw [eρ21, r2_at, if_neg (by decide)]; exact kf_1_9
  have kf_1_11 : ρ21 1 11 = some 12 := by rw [eρ21, r2_at, if_neg (by decide)]; exact kf_1_11
  have kf_1_12 : ρ21 1 12 = some 13 := by rw [eρ21, r2_at, if_neg (by decide)]; exact kf_1_12
  have kf_0_0 : ρ21 0 0 = some 1 := by rw [eρ21, r2_at, if_pos rfl, if_neg (by decide)]; exact kf_0_0
  have kf_14_0 : ρ21 14 0 = some 15 := by rw [eρ21, r2_at, if_neg (by decide)]; exact kf_14_0
  have kf_14_2 : ρ21 14 2 = some 16 := by rw [eρ21, r2_at, if_neg (by decide)]; exact kf_14_2
  have kf_14_3 : ρ21 14 3 = some 18 := by rw [eρ21, r2_at, if_neg (by decide)]; exact kf_14_3
  have kf_14_5 : ρ21 14 5 = some 23 := by rw [eρ21, r2_at, if_neg (by decide)]; exact kf_14_5
  have kf_14_9 : ρ21 14 9 = some 24 := by rw [eρ21, r2_at, if_neg (by decide)]; exact kf_14_9
  have kf_14_11 : ρ21 14 11 = some 25 := by rw [eρ21, r2_at, if_neg (by decide)]; exact kf_14_11
  have kf_14_12 : ρ21 14 12 = some 26 := by rw [eρ21, r2_at, if_neg (by decide)]; exact kf_14_12
  have kf_0_1 : ρ21 0 1 = some 14 := by rw [eρ21, r2_at, if_pos rfl, if_neg (by decide)]; exact kf_0_1
  have kf_27_0 : ρ21 27 0 = some 28 := by rw [eρ21, r2_at, if_neg (by decide)]; exact kf_27_0
  have kf_0_3 : ρ21 0 3 = some 27 := by rw [eρ21, r2_at, if_pos rfl, if_neg (by decide)]; exact kf_0_3
  have kf_29_3 : ρ21 29 3 = some 30 := by rw [eρ21, r2_at, if_neg (by decide)]; exact kf_29_3
  have kf_29_4 : ρ21 29 4 = some 31 := by rw [eρ21, r2_at, if_neg (by decide)]; exact kf_29_4
  have kf_29_5 : ρ21 29 5 = some 32 := by rw [eρ21, r2_at, if_neg (by decide)]; exact kf_29_5
  have kf_29_6 : ρ21 29 6 = some 33 := by rw [eρ21, r2_at, if_neg (by decide)]; exact kf_29_6
  have kf_0_4 : ρ21 0 4 = some 29 := by rw [eρ21, r2_at, if_pos rfl, if_neg (by decide)]; exact kf_0_4
  have kf_0_5 : ρ21 0 5 = some 34 := by rw [eρ21, r2_at, if_pos rfl, if_neg (by decide)]; exact kf_0_5
  have kf_0_6 : ρ21 0 6 = some 35 := by rw [eρ21, r2_at, if_pos rfl, if_neg (by decide)]; exact kf_0_6
  have kf_0_7 : ρ21 0 7 = some 36 := by rw [eρ21, r2_at, if_pos rfl, if_neg (by decide)]; exact kf_0_7
  have kf_37_9 : ρ21 37 9 = some 38 := by rw [eρ21, r2_at, if_neg (by decide)]; exact kf_37_9
  have kf_0_11 : ρ21 0 11 = some 37 := by rw [eρ21, r2_at, if_pos rfl, if_pos rfl]
  refine lv_aload_n hx hb dX11_init_84 rfl (lv_at hl 0 rfl) ?_
  refine lv_bipush (v := 6) hx hb dX11_init_85 (by decide +kernel) ?_
  refine x_newa (atype := .int) (ty := .int) (t := 14) (y := 1) rfl (fun _ h => by cases h) rfl rfl (fun _ _ _ _ => rfl) C hP hS hR (kk_39 hKL) (kn_39 hKL) (hB 39 (Nat.le_refl _)) mw_27 (by decide) cl_6 (Nat.le_of_ble_eq_true rfl) (Nat.le_of_ble_eq_true rfl) (Nat.le_of_ble_eq_true rfl) dX11_init_87 (fun ad22 H hE hA C hP hS => ?_)
  rw [← hE 0 (by decide)]
  rw [← hE 0 (by decide)] at hl
  have hEE : ∀ r, r < 1 → ad22 r = ad r := fun r h => (hE r (by omega)).trans (hEE r h)
  have hAA := hA.trans hAA
  have C : Cx Y D 40 ad22 p s m args meth c cX11_init 2 none RX11 wsL_law := C
  have hP : WP Y D 40 ad22 K len σ20 ρ21 _ := hP
  have hS : va_S (AA 40 ad22 s.heap.size) s.heap _ _ := hS
  have hR : RC 40 ρ21 := RC_grow hR (hB 39 (Nat.le_refl _)).2
  have hB : BL 40 σ20 ρ21 := BL_grow hB
  obtain ⟨ρ23, eρ23, hF⟩ := nm_1 hF
  refine put_11_12 C hP hS (by decide) (kk_0 hKL) inlX11 mw_33 ⟨hnm, rfl⟩ eρ23 dX11_init_89 (fun H locs hP hS => ?_)
  have hR : RC 40 ρ23 := by rw [eρ23]; exact RC_put hR (by decide)
  have hB : BL 40 σ20 ρ23 := by rw [eρ23]; exact BL_r2 hB (by decide)
  have hU : ∀ r, r < 0 → ρ23 r = ρ r := fun r h => (congrFun eρ23 r).trans ((r2_ne r (by omega)).trans (hU r h))
  have kf_1_0 : ρ23 1 0 = some 2 := by rw [eρ23, r2_at, if_neg (by decide)]; exact kf_1_0
  have kf_1_2 : ρ23 1 2 = some 3 := by rw [eρ23, r2_at, if_neg (by decide)]; exact kf_1_2
  have kf_1_3 : ρ23 1 3 = some 5 := by rw [eρ23, r2_at, if_neg (by decide)]; exact kf_1_3
  have kf_1_5 : ρ23 1 5 = some 10 := by rw [eρ23, r2_at, if_neg (by decide)]; exact kf_1_5
  have kf_1_9 : ρ23 1 9 = some 11 := by rw [eρ23, r2_at, if_neg (by decide)]; exact kf_1_9
  have kf_1_11 : ρ23 1 11 = some 12 := by rw [eρ23, r2_at, if_neg (by decide)]; exact kf_1_11
  have kf_1_12 : ρ23 1 12 = some 13 := by rw [eρ23, r2_at, if_neg (by decide)]; exact kf_1_12
  have kf_0_0 : ρ23 0 0 = some 1 := by rw [eρ23, r2_at, if_pos rfl, if_neg (by decide)]; exact kf_0_0
  have kf_14_0 : ρ23 14 0 = some 15 := by rw [eρ23, r2_at, if_neg (by decide)]; exact kf_14_0
  have kf_14_2 : ρ23 14 2 = some 16 := by rw [eρ23, r2_at, if_neg (by decide)]; exact kf_14_2
  have kf_14_3 : ρ23 14 3 = some 18 := by rw [eρ23, r2_at, if_neg (by decide)]; exact kf_14_3
  have kf_14_5 : ρ23 14 5 = some 23 := by rw [eρ23, r2_at, if_neg (by decide)]; exact kf_14_5
  have kf_14_9 : ρ23 14 9 = some 24 := by rw [eρ23, r2_at, if_neg (by decide)]; exact kf_14_9
  have kf_14_11 : ρ23 14 11 = some 25 := by rw [eρ23, r2_at, if_neg (by decide)]; exact kf_14_11
  have kf_14_12 : ρ23 14 12 = some 26 := by rw [eρ23, r2_at, if_neg (by decide)]; exact kf_14_12
  have kf_0_1 : ρ23 0 1 = some 14 := by rw [eρ23, r2_at, if_pos rfl, if_neg (by decide)]; exact kf_0_1
  have kf_27_0 : ρ23 27 0 = some 28 := by rw [eρ23, r2_at, if_neg (by decide)]; exact kf_27_0
  have kf_0_3 : ρ23 0 3 = some 27 := by rw [eρ23, r2_at, if_pos rfl, if_neg (by decide)]; exact kf_0_3
  have kf_29_3 : ρ23 29 3 = some 30 := by rw [eρ23, r2_at, if_neg (by decide)]; exact kf_29_3
  have kf_29_4 : ρ23 29 4 = some 31 := by rw [eρ23, r2_at, if_neg (by decide)]; exact kf_29_4
  have kf_29_5 : ρ23 29 5 = some 32 := by rw [eρ23, r2_at, if_neg (by decide)]; exact kf_29_5
  have kf_29_6 : ρ23 29 6 = some 33 := by rw [eρ23, r2_at, if_neg (by decide)]; exact kf_29_6
  have kf_0_4 : ρ23 0 4 = some 29 := by rw [eρ23, r2_at, if_pos rfl, if_neg (by decide)]; exact kf_0_4
  have kf_0_5 : ρ23 0 5 = some 34 := by rw [eρ23, r2_at, if_pos rfl, if_neg (by decide)]; exact kf_0_5
  have kf_0_6 : ρ23 0 6 = some 35 := by rw [eρ23, r2_at, if_pos rfl, if_neg (by decide)]; exact kf_0_6
  have kf_0_7 : ρ23 0 7 = some 36 := by rw [eρ23, r2_at, if_pos rfl, if_neg (by decide)]; exact kf_0_7
  have kf_37_9 : ρ23 37 9 = some 38 := by rw [eρ23, r2_at, if_neg (by decide)]; exact kf_37_9
  have kf_0_11 : ρ23 0 11 = some 37 := by rw [eρ23, r2_at, if_pos rfl, if_neg (by decide)]; exact kf_0_11
  have kf_0_12 : ρ23 0 12 = some 39 := by rw [eρ23, r2_at, if_pos rfl, if_pos rfl]
  refine lv_iconst (v := 0) hx hb dX11_init_92 (by decide) ?_
  refine lv_istore_n (lv' := [(1, .int (0 : Int32)), (0, .ref (ad22 0))]) hx hb dX11_init_93 rfl hl (by decide) rfl (fun ls hl => ?_)
  refine lv_iload_n hx hb dX11_init_94 rfl (lv_at hl 0 rfl) ?_
  refine lv_aload_n hx hb dX11_init_95 rfl (lv_at hl 1 rfl) ?_
  refine get_11_5 C hP (by decide) (kk_0 hKL) inlX11 mw_26 kf_0_5 dX11_init_96 ?_
  refine x_alen (v := (7 : Int32)) C hP (by decide) (kk_34 hKL) (by decide) (kn_34 hKL) (by decide +kernel) dX11_init_99 ?_
  refine lv_icmp_ge (tgt := 122) hx hb dX11_init_100 (by decide) (fun c_24 => absurd c_24 (by decide)) (fun c_24 => ?_)
  refine lv_aload_n hx hb dX11_init_103 rfl (lv_at hl 1 rfl) ?_
  refine get_11_5 C hP (by decide) (kk_0 hKL) inlX11 mw_26 kf_0_5 dX11_init_104 ?_
  refine lv_iload_n hx hb dX11_init_107 rfl (lv_at hl 0 rfl) ?_
  refine x_new (ci := 3) (fs := [.int 0, .int 0, .int 0, .int 0, .int 0, .int 0, .int 0, .int 0, .int 0, .null]) tyX3_ok rfl rfl (fun _ => rfl) (fun j hj => by have : j < 10 := hj; revert j; decide) C hP hS hR (kk_40 hKL) (hB 40 (Nat.le_refl _)) inlX3 mw_25 mw_30 mw_31 (Nat.le_of_ble_eq_true rfl) (Nat.le_of_ble_eq_true rfl) dX11_init_108 (fun ad25 H hE hA C hP hS => ?_)
  rw [← hE 34 (by decide)]
  rw [← hE 0 (by decide)] at hl
  have hEE : ∀ r, r < 1 → ad25 r = ad r := fun r h => (hE r (by omega)).trans (hEE r h)
  have hAA := hA.trans hAA
  have C : Cx Y D 41 ad25 p s m args meth c cX11_init 2 none RX11 wsL_law := C
  have hP : WP Y D 41 ad25 K len σ20 ρ23 _ := hP
  have hS : va_S (AA 41 ad25 s.heap.size) s.heap _ _ := hS
  have hR : RC 41 ρ23 := RC_grow hR (hB 40 (Nat.le_refl _)).2
  have hB : BL 41 σ20 ρ23 := BL_grow hB
  refine lv_dup hx hb dX11_init_111 rfl ?_
  obtain ⟨σ26, ρ26, hq26, hF⟩ := bn2_1 hF
  refine x_callIN (ws := (Cond.code yX3_init cX3_init 1 none :: wsL_law)) C hP hS (c_X3_init_40 hKL hR hB hq26) ⟨va_cnB 0 C.1.2.2.2.2 (gdI mw_50) rfl rfl rfl (x_nest (own := "CutCrooked") (idx := 48) (y := yX3_init) (host := "CutCrooked") C (by decide +kernel)) (C.1.2.2.2.2 _ mw_31) hd_X3_init.2 ⟨Nat.le_of_ble_eq_true rfl, Nat.le_of_ble_eq_true rfl⟩, rfl, (C.1.2.2.2.2 _ mw_49)⟩ rfl rfl hl.1 (Nat.le_of_ble_eq_true rfl) ⟨(Nat.le_of_ble_eq_true rfl), (Nat.le_of_ble_eq_true rfl)⟩ dX11_init_112 (fun ad26 H locs hE hA C hP hS => ?_)
  obtain ⟨hR, hB, hU26, hkn⟩ := k_X3_init_40 hR hB hq26
  rw [← hE 34 (by decide)]
  rw [← hE 40 (by decide)]
  rw [← hE 0 (by decide)] at hl
  have hEE : ∀ r, r < 1 → ad26 r = ad r := fun r h => (hE r (by omega)).trans (hEE r h)
  have hAA := hA.trans hAA
  have C : Cx Y D 42 ad26 p s m args meth c cX11_init 2 none RX11 wsL_law := C
  have hP : WP Y D 42 ad26 K len σ26 ρ26 _ := hP
  have hS : va_S (AA 42 ad26 s.heap.size) s.heap _ _ := hS
  have hU : ∀ r, r < 0 → ρ26 r = ρ r := fun r h => (hU26 r (by omega)).trans (hU r h)
  have kf_1_0 : ρ26 1 0 = some 2 := by rw [hU26 1 (by decide)]; exact kf_1_0
  have kf_1_2 : ρ26 1 2 = some 3 := by rw [hU26 1 (by decide)]; exact kf_1_2
  have kf_1_3 : ρ26 1 3 = some 5 := by rw [hU26 1 (by decide)]; exact kf_1_3
  have kf_1_5 : ρ26 1 5 = some 10 := by rw [hU26 1 (by decide)]; exact kf_1_5
  have kf_1_9 : ρ26 1 9 = some 11 := by rw [hU26 1 (by decide)]; exact kf_1_9
  have kf_1_11 : ρ26 1 11 = some 12 := by rw [hU26 1 (by decide)]; exact kf_1_11
  have kf_1_12 : ρ26 1 12 = some 13 := by rw [hU26 1 (by decide)]; exact kf_1_12
  have kf_0_0 : ρ26 0 0 = some 1 := by rw [hU26 0 (by decide)]; exact kf_0_0
  have kf_14_0 : ρ26 14 0 = some 15 := by rw [hU26 14 (by decide)]; exact kf_14_0
  have kf_14_2 : ρ26 14 2 = some 16 := by rw [hU26 14 (by decide)]; exact kf_14_2
  have kf_14_3 : ρ26 14 3 = some 18 := by rw [hU26 14 (by decide)]; exact kf_14_3
  have kf_14_5 : ρ26 14 5 = some 23 := by rw [hU26 14 (by decide)]; exact kf_14_5
  have kf_14_9 : ρ26 14 9 = some 24 := by rw [hU26 14 (by decide)]; exact kf_14_9
  have kf_14_11 : ρ26 14 11 = some 25 := by rw [hU26 14 (by decide)]; exact kf_14_11
  have kf_14_12 : ρ26 14 12 = some 26 := by rw [hU26 14 (by decide)]; exact kf_14_12
  have kf_0_1 : ρ26 0 1 = some 14 := by rw [hU26 0 (by decide)]; exact kf_0_1
  have kf_27_0 : ρ26 27 0 = some 28 := by rw [hU26 27 (by decide)]; exact kf_27_0
  have kf_0_3 : ρ26 0 3 = some 27 := by rw [hU26 0 (by decide)]; exact kf_0_3
  have kf_29_3 : ρ26 29 3 = some 30 := by rw [hU26 29 (by decide)]; exact kf_29_3
  have kf_29_4 : ρ26 29 4 = some 31 := by rw [hU26 29 (by decide)]; exact kf_29_4
  have kf_29_5 : ρ26 29 5 = some 32 := by rw [hU26 29 (by decide)]; exact kf_29_5
  have kf_29_6 : ρ26 29 6 = some 33 := by rw [hU26 29 (by decide)]; exact kf_29_6
  have kf_0_4 : ρ26 0 4 = some 29 := by rw [hU26 0 (by decide)]; exact kf_0_4
  have kf_0_5 : ρ26 0 5 = some 34 := by rw [hU26 0 (by decide)]; exact kf_0_5
  have kf_0_6 : ρ26 0 6 = some 35 := by rw [hU26 0 (by decide)]; exact kf_0_6
  have kf_0_7 : ρ26 0 7 = some 36 := by rw [hU26 0 (by decide)]; exact kf_0_7
  have kf_37_9 : ρ26 37 9 = some 38 := by rw [hU26 37 (by decide)]; exact kf_37_9
  have kf_0_11 : ρ26 0 11 = some 37 := by rw [hU26 0 (by decide)]; exact kf_0_11
  have kf_0_12 : ρ26 0 12 = some 39 := by rw [hU26 0 (by decide)]; exact kf_0_12
  have kf_40_9 : ρ26 40 9 = some 41 := hkn (40, 9, 41) (by decide)
  obtain ⟨ρ27, eρ27, hF⟩ := nm_1 hF
  refine x_aastL (ρ1 := ρ27) C hP hS (by decide) (kk_34 hKL) (kn_34 hKL) (by decide) (kk_40 hKL) (by decide +kernel) (by rw [cl_0]; exact eρ27) dX11_init_115 (fun H locs hP hS => ?_)
  have hR : RC 42 ρ27 := by rw [eρ27]; exact RC_put hR (by decide)
  have hB : BL 42 σ26 ρ27 := by rw [eρ27]; exact BL_r2 hB (by decide)
  have hU : ∀ r, r < 0 → ρ27 r = ρ r := fun r h => (congrFun eρ27 r).trans ((r2_ne r (by omega)).trans (hU r h))
  have kf_1_0 : ρ27 1 0 = some 2 := by rw [eρ27, r2_at, if_neg (by decide)]; exact kf_1_0
  have kf_1_2 : ρ27 1 2 = some 3 := by rw [eρ27, r2_at, if_neg (by decide)]; exact kf_1_2
  have kf_1_3 : ρ27 1 3 = some 5 := by rw [eρ27, r2_at, if_neg (by decide)]; exact kf_1_3
  have kf_1_5 : ρ27 1 5 = some 10 := by rw [eρ27, r2_at, if_neg (by decide)]; exact kf_1_5
  have kf_1_9 : ρ27 1 9 = some 11 := by rw [eρ27, r2_at, if_neg (by decide)]; exact kf_1_9
  have kf_1_11 : ρ27 1 11 = some 12 := by rw [eρ27, r2_at, if_neg (by decide)]; exact kf_1_11
  have kf_1_12 : ρ27 1 12 = some 13 := by rw [eρ27, r2_at, if_neg (by decide)]; exact kf_1_12
  have kf_0_0 : ρ27 0 0 = some 1 := by rw [eρ27, r2_at, if_neg (by decide)]; exact kf_0_0
  have kf_14_0 : ρ27 14 0 = some 15 := by rw [eρ27, r2_at, if_neg (by decide)]; exact kf_14_0
  have kf_14_2 : ρ27 14 2 = some 16 := by rw [eρ27, r2_at, if_neg (by decide)]; exact kf_14_2
  have kf_14_3 : ρ27 14 3 = some 18 := by rw [eρ27, r2_at, if_neg (by decide)]; exact kf_14_3
  have kf_14_5 : ρ27 14 5 = some 23 := by rw [eρ27, r2_at, if_neg (by decide)]; exact kf_14_5
  have kf_14_9 : ρ27 14 9 = some 24 := by rw [eρ27, r2_at, if_neg (by decide)]; exact kf_14_9
  have kf_14_11 : ρ27 14 11 = some 25 := by rw [eρ27, r2_at, if_neg (by decide)]; exact kf_14_11
  have kf_14_12 : ρ27 14 12 = some 26 := by rw [eρ27, r2_at, if_neg (by decide)]; exact kf_14_12
  have kf_0_1 : ρ27 0 1 = some 14 := by rw [eρ27, r2_at, if_neg (by decide)]; exact kf_0_1
  have kf_27_0 : ρ27 27 0 = some 28 := by rw [eρ27, r2_at, if_neg (by decide)]; exact kf_27_0
  have kf_0_3 : ρ27 0 3 = some 27 := by rw [eρ27, r2_at, if_neg (by decide)]; exact kf_0_3
  have kf_29_3 : ρ27 29 3 = some 30 := by rw [eρ27, r2_at, if_neg (by decide)]; exact kf_29_3
  have kf_29_4 : ρ27 29 4 = some 31 := by rw [eρ27, r2_at, if_neg (by decide)]; exact kf_29_4
  have kf_29_5 : ρ27 29 5 = some 32 := by rw [eρ27, r2_at, if_neg (by decide)]; exact kf_29_5
  have kf_29_6 : ρ27 29 6 = some 33 := by rw [eρ27, r2_at, if_neg (by decide)]; exact kf_29_6
  have kf_0_4 : ρ27 0 4 = some 29 := by rw [eρ27, r2_at, if_neg (by decide)]; exact kf_0_4
  have kf_0_5 : ρ27 0 5 = some 34 := by rw [eρ27, r2_at, if_neg (by decide)]; exact kf_0_5
  have kf_0_6 : ρ27 0 6 = some 35 := by rw [eρ27, r2_at, if_neg (by decide)]; exact kf_0_6
  have kf_0_7 : ρ27 0 7 = some 36 := by rw [eρ27, r2_at, if_neg (by decide)]; exact kf_0_7
  have kf_37_9 : ρ27 37 9 = some 38 := by rw [eρ27, r2_at, if_neg (by decide)]; exact kf_37_9
  have kf_0_11 : ρ27 0 11 = some 37 := by rw [eρ27, r2_at, if_neg (by decide)]; exact kf_0_11
  have kf_0_12 : ρ27 0 12 = some 39 := by rw [eρ27, r2_at, if_neg (by decide)]; exact kf_0_12
  have kf_40_9 : ρ27 40 9 = some 41 := by rw [eρ27, r2_at, if_neg (by decide)]; exact kf_40_9
  have kf_34_0 : ρ27 34 0 = some 40 := by rw [eρ27, r2_at, if_pos rfl, if_pos rfl]
  refine lv_iinc (v := 1) (lv' := [(1, .int (1 : Int32)), (0, .ref (ad26 0))]) hx hb dX11_init_116 hl (k := 0) rfl (by decide) (by decide) rfl (fun ls hl => ?_)
  refine lv_goto (tgt := 94) hx hb dX11_init_119 (by decide) ?_
  refine lv_iload_n hx hb dX11_init_94 rfl (lv_at hl 0 rfl) ?_
  refine lv_aload_n hx hb dX11_init_95 rfl (lv_at hl 1 rfl) ?_
  refine get_11_5 C hP (by decide) (kk_0 hKL) inlX11 mw_26 kf_0_5 dX11_init_96 ?_
  refine x_alen (v := (7 : Int32)) C hP (by decide) (kk_34 hKL) (by decide) (kn_34 hKL) (by decide +kernel) dX11_init_99 ?_
  refine lv_icmp_ge (tgt := 122) hx hb dX11_init_100 (by decide) (fun c_28 => absurd c_28 (by decide)) (fun c_28 => ?_)
  refine lv_aload_n hx hb dX11_init_103 rfl (lv_at hl 1 rfl) ?_
  refine get_11_5 C hP (by decide) (kk_0 hKL) inlX11 mw_26 kf_0_5 dX11_init_104 ?_
  refine lv_iload_n hx hb dX11_init_107 rfl (lv_at hl 0 rfl) ?_
  refine x_new (ci := 3) (fs := [.int 0, .int 0, .int 0, .int 0, .int 0, .int 0, .int 0, .int 0, .int 0, .null]) tyX3_ok rfl rfl (fun _ => rfl) (fun j hj => by have : j < 10 := hj; revert j; decide) C hP hS hR (kk_42 hKL) (hB 42 (Nat.le_refl _)) inlX3 mw_25 mw_30 mw_31 (Nat.le_of_ble_eq_true rfl) (Nat.le_of_ble_eq_true rfl) dX11_init_108 (fun ad29 H hE hA C hP hS => ?_)
  rw [← hE 34 (by decide)]
  rw [← hE 0 (by decide)] at hl
  have hEE : ∀ r, r < 1 → ad29 r = ad r := fun r h => (hE r (by omega)).trans (hEE r h)
  have hAA := hA.trans hAA
  have C : Cx Y D 43 ad29 p s m args meth c cX11_init 2 none RX11 wsL_law := C
  have hP : WP Y D 43 ad29 K len σ26 ρ27 _ := hP
  have hS : va_S (AA 43 ad29 s.heap.size) s.heap _ _ := hS
  have hR : RC 43 ρ27 := RC_grow hR (hB 42 (Nat.le_refl _)).2
  have hB : BL 43 σ26 ρ27 := BL_grow hB
  refine lv_dup hx hb dX11_init_111 rfl ?_
  obtain ⟨σ30, ρ30, hq30, hF⟩ := bn2_1 hF
  refine x_callIN (ws := (Cond.code yX3_init cX3_init 1 none :: wsL_law)) C hP hS (c_X3_init_42 hKL hR hB hq30) ⟨va_cnB 0 C.1.2.2.2.2 (gdI mw_50) rfl rfl rfl (x_nest (own := "CutCrooked") (idx := 48) (y := yX3_init) (host := "CutCrooked") C (by decide +kernel)) (C.1.2.2.2.2 _ mw_31) hd_X3_init.2 ⟨Nat.le_of_ble_eq_true rfl, Nat.le_of_ble_eq_true rfl⟩, rfl, (C.1.2.2.2.2 _ mw_49)⟩ rfl rfl hl.1 (Nat.le_of_ble_eq_true rfl) ⟨(Nat.le_of_ble_eq_true rfl), (Nat.le_of_ble_eq_true rfl)⟩ dX11_init_112 (fun ad30 H locs hE hA C hP hS => ?_)
  obtain ⟨hR, hB, hU30, hkn⟩ := k_X3_init_42 hR hB hq30
  rw [← hE 34 (by decide)]
  rw [← hE 42 (by decide)]
  rw [← hE 0 (by decide)] at hl
  have hEE : ∀ r, r < 1 → ad30 r = ad r := fun r h => (hE r (by omega)).trans (hEE r h)
  have hAA := hA.trans hAA
  have C : Cx Y D 44 ad30 p s m args meth c cX11_init 2 none RX11 wsL_law := C
  have hP : WP Y D 44 ad30 K len σ30 ρ30 _ := hP
  have hS : va_S (AA 44 ad30 s.heap.size) s.heap _ _ := hS
  have hU : ∀ r, r < 0 → ρ30 r = ρ r := fun r h => (hU30 r (by omega)).trans (hU r h)
  have kf_1_0 : ρ30 1 0 = some 2 := by rw [hU30 1 (by decide)]; exact kf_1_0
  have kf_1_2 : ρ30 1 2 = some 3 := by rw [hU30 1 (by decide)]; exact kf_1_2
  have kf_1_3 : ρ30 1 3 = some 5 := by rw [hU30 1 (by decide)]; exact kf_1_3
  have kf_1_5 : ρ30 1 5 = some 10 := by rw [hU30 1 (by decide)]; exact kf_1_5
  have kf_1_9 : ρ30 1 9 = some 11 := by rw [hU30 1 (by decide)]; exact kf_1_9
  have kf_1_11 : ρ30 1 11 = some 12 := by rw [hU30 1 (by decide)]; exact kf_1_11
  have kf_1_12 : ρ30 1 12 = some 13 := by rw [hU30 1 (by decide)]; exact kf_1_12
  have kf_0_0 : ρ30 0 0 = some 1 := by rw [hU30 0 (by decide)]; exact kf_0_0
  have kf_14_0 : ρ30 14 0 = some 15 := by rw [hU30 14 (by decide)]; exact kf_14_0
  have kf_14_2 : ρ30 14 2 = some 16 := by rw [hU30 14 (by decide)]; exact kf_14_2
  have kf_14_3 : ρ30 14 3 = some 18 := by rw [hU30 14 (by decide)]; exact kf_14_3
  have kf_14_5 : ρ30 14 5 = some 23 := by rw [hU30 14 (by decide)]; exact kf_14_5
  have kf_14_9 : ρ30 14 9 = some 24 := by rw [hU30 14 (by decide)]; exact kf_14_9
  have kf_14_11 : ρ30 14 11 = some 25 := by rw [hU30 14 (by decide)]; exact kf_14_11
  have kf_14_12 : ρ30 14 12 = some 26 := by rw [hU30 14 (by decide)]; exact kf_14_12
  have kf_0_1 : ρ30 0 1 = some 14 := by rw [hU30 0 (by decide)]; exact kf_0_1
  have kf_27_0 : ρ30 27 0 = some 28 := by rw [hU30 27 (by decide)]; exact kf_27_0
  have kf_0_3 : ρ30 0 3 = some 27 := by rw [hU30 0 (by decide)]; exact kf_0_3
  have kf_29_3 : ρ30 29 3 = some 30 := by rw [hU30 29 (by decide)]; exact kf_29_3
  have kf_29_4 : ρ30 29 4 = some 31 := by rw [hU30 29 (by decide)]; exact kf_29_4
  have kf_29_5 : ρ30 29 5 = some 32 := by rw [hU30 29 (by decide)]; exact kf_29_5
  have kf_29_6 : ρ30 29 6 = some 33 := by rw [hU30 29 (by decide)]; exact kf_29_6
  have kf_0_4 : ρ30 0 4 = some 29 := by rw [hU30 0 (by decide)]; exact kf_0_4
  have kf_0_5 : ρ30 0 5 = some 34 := by rw [hU30 0 (by decide)]; exact kf_0_5
  have kf_0_6 : ρ30 0 6 = some 35 := by rw [hU30 0 (by decide)]; exact kf_0_6
  have kf_0_7 : ρ30 0 7 = some 36 := by rw [hU30 0 (by decide)]; exact kf_0_7
  have kf_37_9 : ρ30 37 9 = some 38 := by rw [hU30 37 (by decide)]; exact kf_37_9
  have kf_0_11 : ρ30 0 11 = some 37 := by rw [hU30 0 (by decide)]; exact kf_0_11
  have kf_0_12 : ρ30 0 12 = some 39 := by rw [hU30 0 (by decide)]; exact kf_0_12
  have kf_40_9 : ρ30 40 9 = some 41 := by rw [hU30 40 (by decide)]; exact kf_40_9
  have kf_34_0 : ρ30 34 0 = some 40 := by rw [hU30 34 (by decide)]; exact kf_34_0
  have kf_42_9 : ρ30 42 9 = some 43 := hkn (42, 9, 43) (by decide)
  obtain ⟨ρ31, eρ31, hF⟩ := nm_1 hF
  refine x_aastL (ρ1 := ρ31) C hP hS (by decide) (kk_34 hKL) (kn_34 hKL) (by decide) (kk_42 hKL) (by decide +kernel) (by rw [cl_1]; exact eρ31) dX11_init_115 (fun H locs hP hS => ?_)
  have hR : RC 44 ρ31 := by rw [eρ31]; exact RC_put hR (by decide)
  have hB : BL 44 σ30 ρ31 := by rw [eρ31]; exact BL_r2 hB (by decide)
  have hU : ∀ r, r < 0 → ρ31 r = ρ r := fun r h => (congrFun eρ31 r).trans ((r2_ne r (by omega)).trans (hU r h))
  have kf_1_0 : ρ31 1 0 = some 2 := by rw [eρ31, r2_at, if_neg (by decide)]; exact kf_1_0
  have kf_1_2 : ρ31 1 2 = some 3 := by rw [eρ31, r2_at, if_neg (by decide)]; exact kf_1_2
  have kf_1_3 : ρ31 1 3 = some 5 := by rw [eρ31, r2_at, if_neg (by decide)]; exact kf_1_3
  have kf_1_5 : ρ31 1 5 = some 10 := by rw [eρ31, r2_at, if_neg (by decide)]; exact kf_1_5
  have kf_1_9 : ρ31 1 9 = some 11 := by rw [eρ31, r2_at, if_neg (by decide)]; exact kf_1_9
  have kf_1_11 : ρ31 1 11 = some 12 := by rw [eρ31, r2_at, if_neg (by decide)]; exact kf_1_11
  have kf_1_12 : ρ31 1 12 = some 13 := by rw [eρ31, r2_at, if_neg (by decide)]; exact kf_1_12
  have kf_0_0 : ρ31 0 0 = some 1 := by rw [eρ31, r2_at, if_neg (by decide)]; exact kf_0_0
  have kf_14_0 : ρ31 14 0 = some 15 := by rw [eρ31, r2_at, if_neg (by decide)]; exact kf_14_0
  have kf_14_2 : ρ31 14 2 = some 16 := by rw [eρ31, r2_at, if_neg (by decide)]; exact kf_14_2
  have kf_14_3 : ρ31 14 3 = some 18 := by rw [eρ31, r2_at, if_neg (by decide)]; exact kf_14_3
  have kf_14_5 : ρ31 14 5 = some 23 := by rw [eρ31, r2_at, if_neg (by decide)]; exact kf_14_5
  have kf_14_9 : ρ31 14 9 = some 24 := by rw [eρ31, r2_at, if_neg (by decide)]; exact kf_14_9
  have kf_14_11 : ρ31 14 11 = some 25 := by rw [eρ31, r2_at, if_neg (by decide)]; exact kf_14_11
  have kf_14_12 : ρ31 14 12 = some 26 := by rw [eρ31, r2_at, if_neg (by decide)]; exact kf_14_12
  have kf_0_1 : ρ31 0 1 = some 14 := by rw [eρ31, r2_at, if_neg (by decide)]; exact kf_0_1
  have kf_27_0 : ρ31 27 0 = some 28 := by rw [eρ31, r2_at, if_neg (by decide)]; exact kf_27_0
  have kf_0_3 : ρ31 0 3 = some 27 := by rw [eρ31, r2_at, if_neg (by decide)]; exact kf_0_3
  have kf_29_3 : ρ31 29 3 = some 30 := by rw [eρ31, r2_at, if_neg (by decide)]; exact kf_29_3
  have kf_29_4 : ρ31 29 4 = some 31 := by rw [eρ31, r2_at, if_neg (by decide)]; exact kf_29_4
  have kf_29_5 : ρ31 29 5 = some 32 := by rw [eρ31, r2_at, if_neg (by decide)]; exact kf_29_5
  have kf_29_6 : ρ31 29 6 = some 33 := by rw [eρ31, r2_at, if_neg (by decide)]; exact kf_29_6
  have kf_0_4 : ρ31 0 4 = some 29 := by rw [eρ31, r2_at, if_neg (by decide)]; exact kf_0_4
  have kf_0_5 : ρ31 0 5 = some 34 := by rw [eρ31, r2_at, if_neg (by decide)]; exact kf_0_5
  have kf_0_6 : ρ31 0 6 = some 35 := by rw [eρ31, r2_at, if_neg (by decide)]; exact kf_0_6
  have kf_0_7 : ρ31 0 7 = some 36 := by rw [eρ31, r2_at, if_neg (by decide)]; exact kf_0_7
  have kf_37_9 : ρ31 37 9 = some 38 := by rw [eρ31, r2_at, if_neg (by decide)]; exact kf_37_9
  have kf_0_11 : ρ31 0 11 = some 37 := by rw [eρ31, r2_at, if_neg (by decide)]; exact kf_0_11
  have kf_0_12 : ρ31 0 12 = some 39 := by rw [eρ31, r2_at, if_neg (by decide)]; exact kf_0_12
  have kf_40_9 : ρ31 40 9 = some 41 := by rw [eρ31, r2_at, if_neg (by decide)]; exact kf_40_9
  have kf_34_0 : ρ31 34 0 = some 40 := by rw [eρ31, r2_at, if_pos rfl, if_neg (by decide)]; exact kf_34_0
  have kf_42_9 : ρ31 42 9 = some 43 := by rw [eρ31, r2_at, if_neg (by decide)]; exact kf_42_9
  have kf_34_1 : ρ31 34 1 = some 42 := by rw [eρ31, r2_at, if_pos rfl, if_pos rfl]
  refine lv_iinc (v := 2) (lv' := [(1, .int (2 : Int32)), (0, .ref (ad30 0))]) hx hb dX11_init_116 hl (k := 0) rfl (by decide) (by decide) rfl (fun ls hl => ?_)
  refine lv_goto (tgt := 94) hx hb dX11_init_119 (by decide) ?_
  refine lv_iload_n hx hb dX11_init_94 rfl (lv_at hl 0 rfl) ?_
  refine lv_aload_n hx hb dX11_init_95 rfl (lv_at hl 1 rfl) ?_
  refine get_11_5 C hP (by decide) (kk_0 hKL) inlX11 mw_26 kf_0_5 dX11_init_96 ?_
  refine x_alen (v := (7 : Int32)) C hP (by decide) (kk_34 hKL) (by decide) (kn_34 hKL) (by decide +kernel) dX11_init_99 ?_
  refine lv_icmp_ge (tgt := 122) hx hb dX11_init_100 (by decide) (fun c_32 => absurd c_32 (by decide)) (fun c_32 => ?_)
  refine lv_aload_n hx hb dX11_init_103 rfl (lv_at hl 1 rfl) ?_
  refine get_11_5 C hP (by decide) (kk_0 hKL) inlX11 mw_26 kf_0_5 dX11_init_104 ?_
  refine lv_iload_n hx hb dX11_init_107 rfl (lv_at hl 0 rfl) ?_
  refine x_new (ci := 3) (fs := [.int 0, .int 0, .int 0, .int 0, .int 0, .int 0, .int 0, .int 0, .int 0, .null]) tyX3_ok rfl rfl (fun _ => rfl) (fun j hj => by have : j < 10 := hj; revert j; decide) C hP hS hR (kk_44 hKL) (hB 44 (Nat.le_refl _)) inlX3 mw_25 mw_30 mw_31 (Nat.le_of_ble_eq_true rfl) (Nat.le_of_ble_eq_true rfl) dX11_init_108 (fun ad33 H hE hA C hP hS => ?_)
  rw [← hE 34 (by decide)]
  rw [← hE 0 (by decide)] at hl
  have hEE : ∀ r, r < 1 → ad33 r = ad r := fun r h => (hE r (by omega)).trans (hEE r h)
  have hAA := hA.trans hAA
  have C : Cx Y D 45 ad33 p s m args meth c cX11_init 2 none RX11 wsL_law := C
  have hP : WP Y D 45 ad33 K len σ30 ρ31 _ := hP
  have hS : va_S (AA 45 ad33 s.heap.size) s.heap _ _ := hS
  have hR : RC 45 ρ31 := RC_grow hR (hB 44 (Nat.le_refl _)).2
  have hB : BL 45 σ30 ρ31 := BL_grow hB
  refine lv_dup hx hb dX11_init_111 rfl ?_
  obtain ⟨σ34, ρ34, hq34, hF⟩ := bn2_1 hF
  refine x_callIN (ws := (Cond.code yX3_init cX3_init 1 none :: wsL_law)) C hP hS (c_X3_init_44 hKL hR hB hq34) ⟨va_cnB 0 C.1.2.2.2.2 (gdI mw_50) rfl rfl rfl (x_nest (own := "CutCrooked") (idx := 48) (y := yX3_init) (host := "CutCrooked") C (by decide +kernel)) (C.1.2.2.2.2 _ mw_31) hd_X3_init.2 ⟨Nat.le_of_ble_eq_true rfl, Nat.le_of_ble_eq_true rfl⟩, rfl, (C.1.2.2.2.2 _ mw_49)⟩ rfl rfl hl.1 (Nat.le_of_ble_eq_true rfl) ⟨(Nat.le_of_ble_eq_true rfl), (Nat.le_of_ble_eq_true rfl)⟩ dX11_init_112 (fun ad34 H locs hE hA C hP hS => ?_)
  obtain ⟨hR, hB, hU34, hkn⟩ := k_X3_init_44 hR hB hq34
  rw [← hE 34 (by decide)]
  rw [← hE 44 (by decide)]
  rw [← hE 0 (by decide)] at hl
  have hEE : ∀ r, r < 1 → ad34 r = ad r := fun r h => (hE r (by omega)).trans (hEE r h)
  have hAA := hA.trans hAA
  have C : Cx Y D 46 ad34 p s m args meth c cX11_init 2 none RX11 wsL_law := C
  have hP : WP Y D 46 ad34 K len σ34 ρ34 _ := hP
  have hS : va_S (AA 46 ad34 s.heap.size) s.heap _ _ := hS
  have hU : ∀ r, r < 0 → ρ34 r = ρ r := fun r h => (hU34 r (by omega)).trans (hU r h)
  have kf_1_0 : ρ34 1 0 = some 2 := by rw [hU34 1 (by decide)]; exact kf_1_0
  have kf_1_2 : ρ34 1 2 = some 3 := by rw [hU34 1 (by decide)]; exact kf_1_2
  have kf_1_3 : ρ34 1 3 = some 5 := by rw [hU34 1 (by decide)]; exact kf_1_3
  have kf_1_5 : ρ34 1 5 = some 10 := by rw [hU34 1 (by decide)]; exact kf_1_5
  have kf_1_9 : ρ34 1 9 = some 11 := by rw [hU34 1 (by decide)]; exact kf_1_9
  have kf_1_11 : ρ34 1 11 = some 12 := by rw [hU34 1 (by decide)]; exact kf_1_11
  have kf_1_12 : ρ34 1 12 = some 13 := by rw [hU34 1 (by decide)]; exact kf_1_12
  have kf_0_0 : ρ34 0 0 = some 1 := by rw [hU34 0 (by decide)]; exact kf_0_0
  have kf_14_0 : ρ34 14 0 = some 15 := by rw [hU34 14 (by decide)]; exact kf_14_0
  have kf_14_2 : ρ34 14 2 = some 16 := by rw [hU34 14 (by decide)]; exact kf_14_2
  have kf_14_3 : ρ34 14 3 = some 18 := by rw [hU34 14 (by decide)]; exact kf_14_3
  have kf_14_5 : ρ34 14 5 = some 23 := by rw [hU34 14 (by decide)]; exact kf_14_5
  have kf_14_9 : ρ34 14 9 = some 24 := by rw [hU34 14 (by decide)]; exact kf_14_9
  have kf_14_11 : ρ34 14 11 = some 25 := by rw [hU34 14 (by decide)]; exact kf_14_11
  have kf_14_12 : ρ34 14 12 = some 26 := by rw [hU34 14 (by decide)]; exact kf_14_12
  have kf_0_1 : ρ34 0 1 = some 14 := by rw [hU34 0 (by decide)]; exact kf_0_1
  have kf_27_0 : ρ34 27 0 = some 28 := by rw [hU34 27 (by decide)]; exact kf_27_0
  have kf_0_3 : ρ34 0 3 = some 27 := by rw [hU34 0 (by decide)]; exact kf_0_3
  have kf_29_3 : ρ34 29 3 = some 30 := by rw [hU34 29 (by decide)]; exact kf_29_3
  have kf_29_4 : ρ34 29 4 = some 31 := by rw [hU34 29 (by decide)]; exact kf_29_4
  have kf_29_5 : ρ34 29 5 = some 32 := by rw [hU34 29 (by decide)]; exact kf_29_5
  have kf_29_6 : ρ34 29 6 = some 33 := by rw [hU34 29 (by decide)]; exact kf_29_6
  have kf_0_4 : ρ34 0 4 = some 29 := by rw [hU34 0 (by decide)]; exact kf_0_4
  have kf_0_5 : ρ34 0 5 = some 34 := by rw [hU34 0 (by decide)]; exact kf_0_5
  have kf_0_6 : ρ34 0 6 = some 35 := by rw [hU34 0 (by decide)]; exact kf_0_6
  have kf_0_7 : ρ34 0 7 = some 36 := by rw [hU34 0 (by decide)]; exact kf_0_7
  have kf_37_9 : ρ34 37 9 = some 38 := by rw [hU34 37 (by decide)]; exact kf_37_9
  have kf_0_11 : ρ34 0 11 = some 37 := by rw [hU34 0 (by decide)]; exact kf_0_11
  have kf_0_12 : ρ34 0 12 = some 39 := by rw [hU34 0 (by decide)]; exact kf_0_12
  have kf_40_9 : ρ34 40 9 = some 41 := by rw [hU34 40 (by decide)]; exact kf_40_9
  have kf_34_0 : ρ34 34 0 = some 40 := by rw [hU34 34 (by decide)]; exact kf_34_0
  have kf_42_9 : ρ34 42 9 = some 43 := by rw [hU34 42 (by decide)]; exact kf_42_9
  have kf_34_1 : ρ34 34 1 = some 42 := by rw [hU34 34 (by decide)]; exact kf_34_1
  have kf_44_9 : ρ34 44 9 = some 45 := hkn (44, 9, 45) (by decide)
  obtain ⟨ρ35, eρ35, hF⟩ := nm_1 hF
  refine x_aastL (ρ1 := ρ35) C hP hS (by decide) (kk_34 hKL) (kn_34 hKL) (by decide) (kk_44 hKL) (by decide +kernel) (by rw [cl_2]; exact eρ35) dX11_init_115 (fun H locs hP hS => ?_)
  have hR : RC 46 ρ35 := by rw [eρ35]; exact RC_put hR (by decide)
  have hB : BL 46 σ34 ρ35 := by rw [eρ35]; exact BL_r2 hB (by decide)
  have hU : ∀ r, r < 0 → ρ35 r = ρ r := fun r h => (congrFun eρ35 r).trans ((r2_ne r (by omega)).trans (hU r h))
  have kf_1_0 : ρ35 1 0 = some 2 := by rw [eρ35, r2_at, if_neg (by decide)]; exact kf_1_0
  have kf_1_2 : ρ35 1 2 = some 3 := by rw [eρ35, r2_at, if_neg (by decide)]; exact kf_1_2
  have kf_1_3 : ρ35 1 3 = some 5 := by rw [eρ35, r2_at, if_neg (by decide)]; exact kf_1_3
  have kf_1_5 : ρ35 1 5 = some 10 := by rw [eρ35, r2_at, if_neg (by decide)]; exact kf_1_5
  have kf_1_9 : ρ35 1 9 = some 11 := by rw [eρ35, r2_at, if_neg (by decide)]; exact kf_1_9
  have kf_1_11 : ρ35 1 11 = some 12 := by rw [eρ35, r2_at, if_neg (by decide)]; exact kf_1_11
  have kf_1_12 : ρ35 1 12 = some 13 := by rw [eρ35, r2_at, if_neg (by decide)]; exact kf_1_12
  have kf_0_0 : ρ35 0 0 = some 1 := by rw [eρ35, r2_at, if_neg (by decide)]; exact kf_0_0
  have kf_14_0 : ρ35 14 0 = some 15 := by rw [eρ35, r2_at, if_neg (by decide)]; exact kf_14_0
  have kf_14_2 : ρ35 14 2 = some 16 := by rw [eρ35, r2_at, if_neg (by decide)]; exact kf_14_2
  have kf_14_3 : ρ35 14 3 = some 18 := by rw [eρ35, r2_at, if_neg (by decide)]; exact kf_14_3
  have kf_14_5 : ρ35 14 5 = some 23 := by rw [eρ35, r2_at, if_neg (by decide)]; exact kf_14_5
  have kf_14_9 : ρ35 14 9 = some 24 := by rw [eρ35, r2_at, if_neg (by decide)]; exact kf_14_9
  have kf_14_11 : ρ35 14 11 = some 25 := by rw [eρ35, r2_at, if_neg (by decide)]; exact kf_14_11
  have kf_14_12 : ρ35 14 12 = some 26 := by rw [eρ35, r2_at, if_neg (by decide)]; exact kf_14_12
  have kf_0_1 : ρ35 0 1 = some 14 := by rw [eρ35, r2_at, if_neg (by decide)]; exact kf_0_1
  have kf_27_0 : ρ35 27 0 = some 28 := by rw [eρ35, r2_at, if_neg (by decide)]; exact kf_27_0
  have kf_0_3 : ρ35 0 3 = some 27 := by rw [eρ35, r2_at, if_neg (by decide)]; exact kf_0_3
  have kf_29_3 : ρ35 29 3 = some 30 := by rw [eρ35, r2_at, if_neg (by decide)]; exact kf_29_3
  have kf_29_4 : ρ35 29 4 = some 31 := by rw [eρ35, r2_at, if_neg (by decide)]; exact kf_29_4
  have kf_29_5 : ρ35 29 5 = some 32 := by rw [eρ35, r2_at, if_neg (by decide)]; exact kf_29_5
  have kf_29_6 : ρ35 29 6 = some 33 := by rw [eρ35, r2_at, if_neg (by decide)]; exact kf_29_6
  have kf_0_4 : ρ35 0 4 = some 29 := by rw [eρ35, r2_at, if_neg (by decide)]; exact kf_0_4
  have kf_0_5 : ρ35 0 5 = some 34 := by rw [eρ35, r2_at, if_neg (by decide)]; exact kf_0_5
  have kf_0_6 : ρ35 0 6 = some 35 := by rw [eρ35, r2_at, if_neg (by decide)]; exact kf_0_6
  have kf_0_7 : ρ35 0 7 = some 36 := by rw [eρ35, r2_at, if_neg (by decide)]; exact kf_0_7
  have kf_37_9 : ρ35 37 9 = some 38 := by rw [eρ35, r2_at, if_neg (by decide)]; exact kf_37_9
  have kf_0_11 : ρ35 0 11 = some 37 := by rw [eρ35, r2_at, if_neg (by decide)]; exact kf_0_11
  have kf_0_12 : ρ35 0 12 = some 39 := by rw [eρ35, r2_at, if_neg (by decide)]; exact kf_0_12
  have kf_40_9 : ρ35 40 9 = some 41 := by rw [eρ35, r2_at, if_neg (by decide)]; exact kf_40_9
  have kf_34_0 : ρ35 34 0 = some 40 := by rw [eρ35, r2_at, if_pos rfl, if_neg (by decide)]; exact kf_34_0
  have kf_42_9 : ρ35 42 9 = some 43 := by rw [eρ35, r2_at, if_neg (by decide)]; exact kf_42_9
  have kf_34_1 : ρ35 34 1 = some 42 := by rw [eρ35, r2_at, if_pos rfl, if_neg (by decide)]; exact kf_34_1
  have kf_44_9 : ρ35 44 9 = some 45 := by rw [eρ35, r2_at, if_neg (by decide)]; exact kf_44_9
  have kf_34_2 : ρ35 34 2 = some 44 := by rw [eρ35, r2_at, if_pos rfl, if_pos rfl]
  refine lv_iinc (v := 3) (lv' := [(1, .int (3 : Int32)), (0, .ref (ad34 0))]) hx hb dX11_init_116 hl (k := 0) rfl (by decide) (by decide) rfl (fun ls hl => ?_)
  refine lv_goto (tgt := 94) hx hb dX11_init_119 (by decide) ?_
  refine lv_iload_n hx hb dX11_init_94 rfl (lv_at hl 0 rfl) ?_
  refine lv_aload_n hx hb dX11_init_95 rfl (lv_at hl 1 rfl) ?_
  refine get_11_5 C hP (by decide) (kk_0 hKL) inlX11 mw_26 kf_0_5 dX11_init_96 ?_
  refine x_alen (v := (7 : Int32)) C hP (by decide) (kk_34 hKL) (by decide) (kn_34 hKL) (by decide +kernel) dX11_init_99 ?_
  refine lv_icmp_ge (tgt := 122) hx hb dX11_init_100 (by decide) (fun c_36 => absurd c_36 (by decide)) (fun c_36 => ?_)
  refine lv_aload_n hx hb dX11_init_103 rfl (lv_at hl 1 rfl) ?_
  refine get_11_5 C hP (by decide) (kk_0 hKL) inlX11 mw_26 kf_0_5 dX11_init_104 ?_
  refine lv_iload_n hx hb dX11_init_107 rfl (lv_at hl 0 rfl) ?_
  refine x_new (ci := 3) (fs := [.int 0, .int 0, .int 0, .int 0, .int 0, .int 0, .int 0, .int 0, .int 0, .null]) tyX3_ok rfl rfl (fun _ => rfl) (fun j hj => by have : j < 10 := hj; revert j; decide) C hP hS hR (kk_46 hKL) (hB 46 (Nat.le_refl _)) inlX3 mw_25 mw_30 mw_31 (Nat.le_of_ble_eq_true rfl) (Nat.le_of_ble_eq_true rfl) dX11_init_108 (fun ad37 H hE hA C hP hS => ?_)
  rw [← hE 34 (by decide)]
  rw [← hE 0 (by decide)] at hl
  have hEE : ∀ r, r < 1 → ad37 r = ad r := fun r h => (hE r (by omega)).trans (hEE r h)
  have hAA := hA.trans hAA
  have C : Cx Y D 47 ad37 p s m args meth c cX11_init 2 none RX11 wsL_law := C
  have hP : WP Y D 47 ad37 K len σ34 ρ35 _ := hP
  have hS : va_S (AA 47 ad37 s.heap.size) s.heap _ _ := hS
  have hR : RC 47 ρ35 := RC_grow hR (hB 46 (Nat.le_refl _)).2
  have hB : BL 47 σ34 ρ35 := BL_grow hB
  refine lv_dup hx hb dX11_init_111 rfl ?_
  obtain ⟨σ38, ρ38, hq38, hF⟩ := bn2_1 hF
  refine x_callIN (ws := (Cond.code yX3_init cX3_init 1 none :: wsL_law)) C hP hS (c_X3_init_46 hKL hR hB hq38) ⟨va_cnB 0 C.1.2.2.2.2 (gdI mw_50) rfl rfl rfl (x_nest (own := "CutCrooked") (idx := 48) (y := yX3_init) (host := "CutCrooked") C (by decide +kernel)) (C.1.2.2.2.2 _ mw_31) hd_X3_init.2 ⟨Nat.le_of_ble_eq_true rfl, Nat.le_of_ble_eq_true rfl⟩, rfl, (C.1.2.2.2.2 _ mw_49)⟩ rfl rfl hl.1 (Nat.le_of_ble_eq_true rfl) ⟨(Nat.le_of_ble_eq_true rfl), (Nat.le_of_ble_eq_true rfl)⟩ dX11_init_112 (fun ad38 H locs hE hA C hP hS => ?_)
  obtain ⟨hR, hB, hU38, hkn⟩ := k_X3_init_46 hR hB hq38
  rw [← hE 34 (by decide)]
  rw [← hE 46 (by decide)]
  rw [← hE 0 (by decide)] at hl
  have hEE : ∀ r, r < 1 → ad38 r = ad r := fun r h => (hE r (by omega)).trans (hEE r h)
  have hAA := hA.trans hAA
  have C : Cx Y D 48 ad38 p s m args meth c cX11_init 2 none RX11 wsL_law := C
  have hP : WP Y D 48 ad38 K len σ38 ρ38 _ := hP
  have hS : va_S (AA 48 ad38 s.heap.size) s.heap _ _ := hS
  have hU : ∀ r, r < 0 → ρ38 r = ρ r := fun r h => (hU38 r (by omega)).trans (hU r h)
  have kf_1_0 : ρ38 1 0 = some 2 := by rw [hU38 1 (by decide)]; exact kf_1_0
  have kf_1_2 : ρ38 1 2 = some 3 := by rw [hU38 1 (by decide)]; exact kf_1_2
  have kf_1_3 : ρ38 1 3 = some 5 := by rw [hU38 1 (by decide)]; exact kf_1_3
  have kf_1_5 : ρ38 1 5 = some 10 := by rw [hU38 1 (by decide)]; exact kf_1_5
  have kf_1_9 : ρ38 1 9 = some 11 := by rw [hU38 1 (by decide)]; exact kf_1_9
  have kf_1_11 : ρ38 1 11 = some 12 := by rw [hU38 1 (by decide)]; exact kf_1_11
  have kf_1_12 : ρ38 1 12 = some 13 := by rw [hU38 1 (by decide)]; exact kf_1_12
  have kf_0_0 : ρ38 0 0 = some 1 := by rw [hU38 0 (by decide)]; exact kf_0_0
  have kf_14_0 : ρ38 14 0 = some 15 := by rw [hU38 14 (by decide)]; exact kf_14_0
  have kf_14_2 : ρ38 14 2 = some 16 := by rw [hU38 14 (by decide)]; exact kf_14_2
  have kf_14_3 : ρ38 14 3 = some 18 := by rw [hU38 14 (by decide)]; exact kf_14_3
  have kf_14_5 : ρ38 14 5 = some 23 := by rw [hU38 14 (by decide)]; exact kf_14_5
  have kf_14_9 : ρ38 14 9 = some 24 := by rw [hU38 14 (by decide)]; exact kf_14_9
  have kf_14_11 : ρ38 14 11 = some 25 := by rw [hU38 14 (by decide)]; exact kf_14_11
  have kf_14_12 : ρ38 14 12 = some 26 := by rw [hU38 14 (by decide)]; exact kf_14_12
  have kf_0_1 : ρ38 0 1 = some 14 := by rw [hU38 0 (by decide)]; exact kf_0_1
  have kf_27_0 : ρ38 27 0 = some 28 := by rw [hU38 27 (by decide)]; exact kf_27_0
  have kf_0_3 : ρ38 0 3 = some 27 := by rw [hU38 0 (by decide)]; exact kf_0_3
  have kf_29_3 : ρ38 29 3 = some 30 := by rw [hU38 29 (by decide)]; exact kf_29_3
  have kf_29_4 : ρ38 29 4 = some 31 := by rw [hU38 29 (by decide)]; exact kf_29_4
  have kf_29_5 : ρ38 29 5 = some 32 := by rw [hU38 29 (by decide)]; exact kf_29_5
  have kf_29_6 : ρ38 29 6 = some 33 := by rw [hU38 29 (by decide)]; exact kf_29_6
  have kf_0_4 : ρ38 0 4 = some 29 := by rw [hU38 0 (by decide)]; exact kf_0_4
  have kf_0_5 : ρ38 0 5 = some 34 := by rw [hU38 0 (by decide)]; exact kf_0_5
  have kf_0_6 : ρ38 0 6 = some 35 := by rw [hU38 0 (by decide)]; exact kf_0_6
  have kf_0_7 : ρ38 0 7 = some 36 := by rw [hU38 0 (by decide)]; exact kf_0_7
  have kf_37_9 : ρ38 37 9 = some 38 := by rw [hU38 37 (by decide)]; exact kf_37_9
  have kf_0_11 : ρ38 0 11 = some 37 := by rw [hU38 0 (by decide)]; exact kf_0_11
  have kf_0_12 : ρ38 0 12 = some 39 := by rw [hU38 0 (by decide)]; exact kf_0_12
  have kf_40_9 : ρ38 40 9 = some 41 := by rw [hU38 40 (by decide)]; exact kf_40_9
  have kf_34_0 : ρ38 34 0 = some 40 := by rw [hU38 34 (by decide)]; exact kf_34_0
  have kf_42_9 : ρ38 42 9 = some 43 := by rw [hU38 42 (by decide)]; exact kf_42_9
  have kf_34_1 : ρ38 34 1 = some 42 := by rw [hU38 34 (by decide)]; exact kf_34_1
  have kf_44_9 : ρ38 44 9 = some 45 := by rw [hU38 44 (by decide)]; exact kf_44_9
  have kf_34_2 : ρ38 34 2 = some 44 := by rw [hU38 34 (by decide)]; exact kf_34_2
  have kf_46_9 : ρ38 46 9 = some 47 := hkn (46, 9, 47) (by decide)
  obtain ⟨ρ39, eρ39, hF⟩ := nm_1 hF
  refine x_aastL (ρ1 := ρ39) C hP hS (by decide) (kk_34 hKL) (kn_34 hKL) (by decide) (kk_46 hKL) (by decide +kernel) (by rw [cl_3]; exact eρ39) dX11_init_115 (fun H locs hP hS => ?_)
  have hR : RC 48 ρ39 := by rw [eρ39]; exact RC_put hR (by decide)
  have hB : BL 48 σ38 ρ39 := by rw [eρ39]; exact BL_r2 hB (by decide)
  have hU : ∀ r, r < 0 → ρ39 r = ρ r := fun r h => (congrFun eρ39 r).trans ((r2_ne r (by omega)).trans (hU r h))
  have kf_1_0 : ρ39 1 0 = some 2 := by rw [eρ39, r2_at, if_neg (by decide)]; exact kf_1_0
  have kf_1_2 : ρ39 1 2 = some 3 := by rw [eρ39, r2_at, if_neg (by decide)]; exact kf_1_2
  have kf_1_3 : ρ39 1 3 = some 5 := by rw [eρ39, r2_at, if_neg (by decide)]; exact kf_1_3
  have kf_1_5 : ρ39 1 5 = some 10 := by rw [eρ39, r2_at, if_neg (by decide)]; exact kf_1_5
  have kf_1_9 : ρ39 1 9 = some 11 := by rw [eρ39, r2_at, if_neg (by decide)]; exact kf_1_9
  have kf_1_11 : ρ39 1 11 = some 12 := by rw [eρ39, r2_at, if_neg (by decide)]; exact kf_1_11
  have kf_1_12 : ρ39 1 12 = some 13 := by rw [eρ39, r2_at, if_neg (by decide)]; exact kf_1_12
  have kf_0_0 : ρ39 0 0 = some 1 := by rw [eρ39, r2_at, if_neg (by decide)]; exact kf_0_0
  have kf_14_0 : ρ39 14 0 = some 15 := by rw [eρ39, r2_at, if_neg (by decide)]; exact kf_14_0
  have kf_14_2 : ρ39 14 2 = some 16 := by rw [eρ39, r2_at, if_neg (by decide)]; exact kf_14_2
  have kf_14_3 : ρ39 14 3 = some 18 := by rw [eρ39, r2_at, if_neg (by decide)]; exact kf_14_3
  have kf_14_5 : ρ39 14 5 = some 23 := by rw [eρ39, r2_at, if_neg (by decide)]; exact kf_14_5
  have kf_14_9 : ρ39 14 9 = some 24 := by rw [eρ39, r2_at, if_neg (by decide)]; exact kf_14_9
  have kf_14_11 : ρ39 14 11 = some 25 := by rw [eρ39, r2_at, if_neg (by decide)]; exact kf_14_11
  have kf_14_12 : ρ39 14 12 = some 26 := by rw [eρ39, r2_at, if_neg (by decide)]; exact kf_14_12
  have kf_0_1 : ρ39 0 1 = some 14 := by rw [eρ39, r2_at, if_neg (by decide)]; exact kf_0_1
  have kf_27_0 : ρ39 27 0 = some 28 := by rw [eρ39, r2_at, if_neg (by decide)]; exact kf_27_0
  have kf_0_3 : ρ39 0 3 = some 27 := by rw [eρ39, r2_at, if_neg (by decide)]; exact kf_0_3
  have kf_29_3 : ρ39 29 3 = some 30 := by rw [eρ39, r2_at, if_neg (by decide)]; exact kf_29_3
  have kf_29_4 : ρ39 29 4 = some 31 := by rw [eρ39, r2_at, if_neg (by decide)]; exact kf_29_4
  have kf_29_5 : ρ39 29 5 = some 32 := by rw [eρ39, r2_at, if_neg (by decide)]; exact kf_29_5
  have kf_29_6 : ρ39 29 6 = some 33 := by rw [eρ39, r2_at, if_neg (by decide)]; exact kf_29_6
  have kf_0_4 : ρ39 0 4 = some 29 := by rw [eρ39, r2_at, if_neg (by decide)]; exact kf_0_4
  have kf_0_5 : ρ39 0 5 = some 34 := by rw [eρ39, r2_at, if_neg (by decide)]; exact kf_0_5
  have kf_0_6 : ρ39 0 6 = some 35 := by rw [eρ39, r2_at, if_neg (by decide)]; exact kf_0_6
  have kf_0_7 : ρ39 0 7 = some 36 := by rw [eρ39, r2_at, if_neg (by decide)]; exact kf_0_7
  have kf_37_9 : ρ39 37 9 = some 38 := by rw [eρ39, r2_at, if_neg (by decide)]; exact kf_37_9
  have kf_0_11 : ρ39 0 11 = some 37 := by rw [eρ39, r2_at, if_neg (by decide)]; exact kf_0_11
  have kf_0_12 : ρ39 0 12 = some 39 := by rw [eρ39, r2_at, if_neg (by decide)]; exact kf_0_12
  have kf_40_9 : ρ39 40 9 = some 41 := by rw [eρ39, r2_at, if_neg (by decide)]; exact kf_40_9
  have kf_34_0 : ρ39 34 0 = some 40 := by rw [eρ39, r2_at, if_pos rfl, if_neg (by decide)]; exact kf_34_0
  have kf_42_9 : ρ39 42 9 = some 43 := by rw [eρ39, r2_at, if_neg (by decide)]; exact kf_42_9
  have kf_34_1 : ρ39 34 1 = some 42 := by rw [eρ39, r2_at, if_pos rfl, if_neg (by decide)]; exact kf_34_1
  have kf_44_9 : ρ39 44 9 = some 45 := by rw [eρ39, r2_at, if_neg (by decide)]; exact kf_44_9
  have kf_34_2 : ρ39 34 2 = some 44 := by rw [eρ39, r2_at, if_pos rfl, if_neg (by decide)]; exact kf_34_2
  have kf_46_9 : ρ39 46 9 = some 47 := by rw [eρ39, r2_at, if_neg (by decide)]; exact kf_46_9
  have kf_34_3 : ρ39 34 3 = some 46 := by rw [eρ39, r2_at, if_pos rfl, if_pos rfl]
  refine lv_iinc (v := 4) (lv' := [(1, .int (4 : Int32)), (0, .ref (ad38 0))]) hx hb dX11_init_116 hl (k := 0) rfl (by decide) (by decide) rfl (fun ls hl => ?_)
  refine lv_goto (tgt := 94) hx hb dX11_init_119 (by decide) ?_
  refine lv_iload_n hx hb dX11_init_94 rfl (lv_at hl 0 rfl) ?_
  refine lv_aload_n hx hb dX11_init_95 rfl (lv_at hl 1 rfl) ?_
  refine get_11_5 C hP (by decide) (kk_0 hKL) inlX11 mw_26 kf_0_5 dX11_init_96 ?_
  refine x_alen (v := (7 : Int32)) C hP (by decide) (kk_34 hKL) (by decide) (kn_34 hKL) (by decide +kernel) dX11_init_99 ?_
  refine lv_icmp_ge (tgt := 122) hx hb dX11_init_100 (by decide) (fun c_40 => absurd c_40 (by decide)) (fun c_40 => ?_)
  refine lv_aload_n hx hb dX11_init_103 rfl (lv_at hl 1 rfl) ?_
  refine get_11_5 C hP (by decide) (kk_0 hKL) inlX11 mw_26 kf_0_5 dX11_init_104 ?_
  refine lv_iload_n hx hb dX11_init_107 rfl (lv_at hl 0 rfl) ?_
  refine x_new (ci := 3) (fs := [.int 0, .int 0, .int 0, .int 0, .int 0, .int 0, .int 0, .int 0, .int 0, .null]) tyX3_ok rfl rfl (fun _ => rfl) (fun j hj => by have : j < 10 := hj; revert j; decide) C hP hS hR (kk_48 hKL) (hB 48 (Nat.le_refl _)) inlX3 mw_25 mw_30 mw_31 (Nat.le_of_ble_eq_true rfl) (Nat.le_of_ble_eq_true rfl) dX11_init_108 (fun ad41 H hE hA C hP hS => ?_)
  rw [← hE 34 (by decide)]
  rw [← hE 0 (by decide)] at hl
  have hEE : ∀ r, r < 1 → ad41 r = ad r := fun r h => (hE r (by omega)).trans (hEE r h)
  have hAA := hA.trans hAA
  have C : Cx Y D 49 ad41 p s m args meth c cX11_init 2 none RX11 wsL_law := C
  have hP : WP Y D 49 ad41 K len σ38 ρ39 _ := hP
  have hS : va_S (AA 49 ad41 s.heap.size) s.heap _ _ := hS
  have hR : RC 49 ρ39 := RC_grow hR (hB 48 (Nat.le_refl _)).2
  have hB : BL 49 σ38 ρ39 := BL_grow hB
  refine lv_dup hx hb dX11_init_111 rfl ?_
  obtain ⟨σ42, ρ42, hq42, hF⟩ := bn2_1 hF
  refine x_callIN (ws := (Cond.code yX3_init cX3_init 1 none :: wsL_law)) C hP hS (c_X3_init_48 hKL hR hB hq42) ⟨va_cnB 0 C.1.2.2.2.2 (gdI mw_50) rfl rfl rfl (x_nest (own := "CutCrooked") (idx := 48) (y := yX3_init) (host := "CutCrooked") C (by decide +kernel)) (C.1.2.2.2.2 _ mw_31) hd_X3_init.2 ⟨Nat.le_of_ble_eq_true rfl, Nat.le_of_ble_eq_true rfl⟩, rfl, (C.1.2.2.2.2 _ mw_49)⟩ rfl rfl hl.1 (Nat.le_of_ble_eq_true rfl) ⟨(Nat.le_of_ble_eq_true rfl), (Nat.le_of_ble_eq_true rfl)⟩ dX11_init_112 (fun ad42 H locs hE hA C hP hS => ?_)
  obtain ⟨hR, hB, hU42, hkn⟩ := k_X3_init_48 hR hB hq42
  rw [← hE 34 (by decide)]
  rw [← hE 48 (by decide)]
  rw [← hE 0 (by decide)] at hl
  have hEE : ∀ r, r < 1 → ad42 r = ad r := fun r h => (hE r (by omega)).trans (hEE r h)
  have hAA := hA.trans hAA
  have C : Cx Y D 50 ad42 p s m args meth c cX11_init 2 none RX11 wsL_law := C
  have hP : WP Y D 50 ad42 K len σ42 ρ42 _ := hP
  have hS : va_S (AA 50 ad42 s.heap.size) s.heap _ _ := hS
  have hU : ∀ r, r < 0 → ρ42 r = ρ r := fun r h => (hU42 r (by omega)).trans (hU r h)
  have kf_1_0 : ρ42 1 0 = some 2 := by rw [hU42 1 (by decide)]; exact kf_1_0
  have kf_1_2 : ρ42 1 2 = some 3 := by rw [hU42 1 (by decide)]; exact kf_1_2
  have kf_1_3 : ρ42 1 3 = some 5 := by rw [hU42 1 (by decide)]; exact kf_1_3
  have kf_1_5 : ρ42 1 5 = some 10 := by rw [hU42 1 (by decide)]; exact kf_1_5
  have kf_1_9 : ρ42 1 9 = some 11 := by rw [hU42 1 (by decide)]; exact kf_1_9
  have kf_1_11 : ρ42 1 11 = some 12 := by rw [hU42 1 (by decide)]; exact kf_1_11
  have kf_1_12 : ρ42 1 12 = some 13 := by rw [hU42 1 (by decide)]; exact kf_1_12
  have kf_0_0 : ρ42 0 0 = some 1 := by rw [hU42 0 (by decide)]; exact kf_0_0
  have kf_14_0 : ρ42 14 0 = some 15 := by rw [hU42 14 (by decide)]; exact kf_14_0
  have kf_14_2 : ρ42 14 2 = some 16 := by rw [hU42 14 (by decide)]; exact kf_14_2
  have kf_14_3 : ρ42 14 3 = some 18 := by rw [hU42 14 (by decide)]; exact kf_14_3
  have kf_14_5 : ρ42 14 5 = some 23 := by rw [hU42 14 (by decide)]; exact kf_14_5
  have kf_14_9 : ρ42 14 9 = some 24 := by rw [hU42 14 (by decide)]; exact kf_14_9
  have kf_14_11 : ρ42 14 11 = some 25 := by rw [hU42 14 (by decide)]; exact kf_14_11
  have kf_14_12 : ρ42 14 12 = some 26 := by rw [hU42 14 (by decide)]; exact kf_14_12
  have kf_0_1 : ρ42 0 1 = some 14 := by rw [hU42 0 (by decide)]; exact kf_0_1
  have kf_27_0 : ρ42 27 0 = some 28 := by rw [hU42 27 (by decide)]; exact kf_27_0
  have kf_0_3 : ρ42 0 3 = some 27 := by rw [hU42 0 (by decide)]; exact kf_0_3
  have kf_29_3 : ρ42 29 3 = some 30 := by rw [hU42 29 (by decide)]; exact kf_29_3
  have kf_29_4 : ρ42 29 4 = some 31 := by rw [hU42 29 (by decide)]; exact kf_29_4
  have kf_29_5 : ρ42 29 5 = some 32 := by rw [hU42 29 (by decide)]; exact kf_29_5
  have kf_29_6 : ρ42 29 6 = some 33 := by rw [hU42 29 (by decide)]; exact kf_29_6
  have kf_0_4 : ρ42 0 4 = some 29 := by rw [hU42 0 (by decide)]; exact kf_0_4
  have kf_0_5 : ρ42 0 5 = some 34 := by rw [hU42 0 (by decide)]; exact kf_0_5
  have kf_0_6 : ρ42 0 6 = some 35 := by rw [hU42 0 (by decide)]; exact kf_0_6
  have kf_0_7 : ρ42 0 7 = some 36 := by rw [hU42 0 (by decide)]; exact kf_0_7
  have kf_37_9 : ρ42 37 9 = some 38 := by rw [hU42 37 (by decide)]; exact kf_37_9
  have kf_0_11 : ρ42 0 11 = some 37 := by rw [hU42 0 (by decide)]; exact kf_0_11
  have kf_0_12 : ρ42 0 12 = some 39 := by rw [hU42 0 (by decide)]; exact kf_0_12
  have kf_40_9 : ρ42 40 9 = some 41 := by rw [hU42 40 (by decide)]; exact kf_40_9
  have kf_34_0 : ρ42 34 0 = some 40 := by rw [hU42 34 (by decide)]; exact kf_34_0
  have kf_42_9 : ρ42 42 9 = some 43 := by rw [hU42 42 (by decide)]; exact kf_42_9
  have kf_34_1 : ρ42 34 1 = some 42 := by rw [hU42 34 (by decide)]; exact kf_34_1
  have kf_44_9 : ρ42 44 9 = some 45 := by rw [hU42 44 (by decide)]; exact kf_44_9
  have kf_34_2 : ρ42 34 2 = some 44 := by rw [hU42 34 (by decide)]; exact kf_34_2
  have kf_46_9 : ρ42 46 9 = some 47 := by rw [hU42 46 (by decide)]; exact kf_46_9
  have kf_34_3 : ρ42 34 3 = some 46 := by rw [hU42 34 (by decide)]; exact kf_34_3
  have kf_48_9 : ρ42 48 9 = some 49 := hkn (48, 9, 49) (by decide)
  obtain ⟨ρ43, eρ43, hF⟩ := nm_1 hF
  refine x_aastL (ρ1 := ρ43) C hP hS (by decide) (kk_34 hKL) (kn_34 hKL) (by decide) (kk_48 hKL) (by decide +kernel) (by rw [cl_4]; exact eρ43) dX11_init_115 (fun H locs hP hS => ?_)
  have hR : RC 50 ρ43 := by rw [eρ43]; exact RC_put hR (by decide)
  have hB : BL 50 σ42 ρ43 := by rw [eρ43]; exact BL_r2 hB (by decide)
  have hU : ∀ r, r < 0 → ρ43 r = ρ r := fun r h => (congrFun eρ43 r).trans ((r2_ne r (by omega)).trans (hU r h))
  have kf_1_0 : ρ43 1 0 = some 2 := by rw [eρ43, r2_at, if_neg (by decide)]; exact kf_1_0
  have kf_1_2 : ρ43 1 2 = some 3 := by rw [eρ43, r2_at, if_neg (by decide)]; exact kf_1_2
  have kf_1_3 : ρ43 1 3 = some 5 := by rw [eρ43, r2_at, if_neg (by decide)]; exact kf_1_3
  have kf_1_5 : ρ43 1 5 = some 10 := by rw [eρ43, r2_at, if_neg (by decide)]; exact kf_1_5
  have kf_1_9 : ρ43 1 9 = some 11 := by rw [eρ43, r2_at, if_neg (by decide)]; exact kf_1_9
  have kf_1_11 : ρ43 1 11 = some 12 := by rw [eρ43, r2_at, if_neg (by decide)]; exact kf_1_11
  have kf_1_12 : ρ43 1 12 = some 13 := by rw [eρ43, r2_at, if_neg (by decide)]; exact kf_1_12
  have kf_0_0 : ρ43 0 0 = some 1 := by rw [eρ43, r2_at, if_neg (by decide)]; exact kf_0_0
  have kf_14_0 : ρ43 14 0 = some 15 := by rw [eρ43, r2_at, if_neg (by decide)]; exact kf_14_0
  have kf_14_2 : ρ43 14 2 = some 16 := by rw [eρ43, r2_at, if_neg (by decide)]; exact kf_14_2
  have kf_14_3 : ρ43 14 3 = some 18 := by rw [eρ43, r2_at, if_neg (by decide)]; exact kf_14_3
  have kf_14_5 : ρ43 14 5 = some 23 := by rw [eρ43, r2_at, if_neg (by decide)]; exact kf_14_5
  have kf_14_9 : ρ43 14 9 = some 24 := by rw [eρ43, r2_at, if_neg (by decide)]; exact kf_14_9
  have kf_14_11 : ρ43 14 11 = some 25 := by rw [eρ43, r2_at, if_neg (by decide)]; exact kf_14_11
  have kf_14_12 : ρ43 14 12 = some 26 := by rw [eρ43, r2_at, if_neg (by decide)]; exact kf_14_12
  have kf_0_1 : ρ43 0 1 = some 14 := by rw [eρ43, r2_at, if_neg (by decide)]; exact kf_0_1
  have kf_27_0 : ρ43 27 0 = some 28 := by rw [eρ43, r2_at, if_neg (by decide)]; exact kf_27_0
  have kf_0_3 : ρ43 0 3 = some 27 := by rw [eρ43, r2_at, if_neg (by decide)]; exact kf_0_3
  have kf_29_3 : ρ43 29 3 = some 30 := by rw [eρ43, r2_at, if_neg (by decide)]; exact kf_29_3
  have kf_29_4 : ρ43 29 4 = some 31 := by rw [eρ43, r2_at, if_neg (by decide)]; exact kf_29_4
  have kf_29_5 : ρ43 29 5 = some 32 := by rw [eρ43, r2_at, if_neg (by decide)]; exact kf_29_5
  have kf_29_6 : ρ43 29 6 = some 33 := by rw [eρ43, r2_at, if_neg (by decide)]; exact kf_29_6
  have kf_0_4 : ρ43 0 4 = some 29 := by rw [eρ43, r2_at, if_neg (by decide)]; exact kf_0_4
  have kf_0_5 : ρ43 0 5 = some 34 := by rw [eρ43, r2_at, if_neg (by decide)]; exact kf_0_5
  have kf_0_6 : ρ43 0 6 = some 35 := by rw [eρ43, r2_at, if_neg (by decide)]; exact kf_0_6
  have kf_0_7 : ρ43 0 7 = some 36 := by rw [eρ43, r2_at, if_neg (by decide)]; exact kf_0_7
  have kf_37_9 : ρ43 37 9 = some 38 := by rw [eρ43, r2_at, if_neg (by decide)]; exact kf_37_9
  have kf_0_11 : ρ43 0 11 = some 37 := by rw [eρ43, r2_at, if_neg (by decide)]; exact kf_0_11
  have kf_0_12 : ρ43 0 12 = some 39 := by rw [eρ43, r2_at, if_neg (by decide)]; exact kf_0_12
  have kf_40_9 : ρ43 40 9 = some 41 := by rw [eρ43, r2_at, if_neg (by decide)]; exact kf_40_9
  have kf_34_0 : ρ43 34 0 = some 40 := by rw [eρ43, r2_at, if_pos rfl, if_neg (by decide)]; exact kf_34_0
  have kf_42_9 : ρ43 42 9 = some 43 := by rw [eρ43, r2_at, if_neg (by decide)]; exact kf_42_9
  have kf_34_1 : ρ43 34 1 = some 42 := by rw [eρ43, r2_at, if_pos rfl, if_neg (by decide)]; exact kf_34_1
  have kf_44_9 : ρ43 44 9 = some 45 := by rw [eρ43, r2_at, if_neg (by decide)]; exact kf_44_9
  have kf_34_2 : ρ43 34 2 = some 44 := by rw [eρ43, r2_at, if_pos rfl, if_neg (by decide)]; exact kf_34_2
  have kf_46_9 : ρ43 46 9 = some 47 := by rw [eρ43, r2_at, if_neg (by decide)]; exact kf_46_9
  have kf_34_3 : ρ43 34 3 = some 46 := by rw [eρ43, r2_at, if_pos rfl, if_neg (by decide)]; exact kf_34_3
  have kf_48_9 : ρ43 48 9 = some 49 := by rw [eρ43, r2_at, if_neg (by decide)]; exact kf_48_9
  have kf_34_4 : ρ43 34 4 = some 48 := by rw [eρ43, r2_at, if_pos rfl, if_pos rfl]
  refine lv_iinc (v := 5) (lv' := [(1, .int (5 : Int32)), (0, .ref (ad42 0))]) hx hb dX11_init_116 hl (k := 0) rfl (by decide) (by decide) rfl (fun ls hl => ?_)
  refine lv_goto (tgt := 94) hx hb dX11_init_119 (by decide) ?_
  refine lv_iload_n hx hb dX11_init_94 rfl (lv_at hl 0 rfl) ?_
  refine lv_aload_n hx hb dX11_init_95 rfl (lv_at hl 1 rfl) ?_
  refine get_11_5 C hP (by decide) (kk_0 hKL) inlX11 mw_26 kf_0_5 dX11_init_96 ?_
  refine x_alen (v := (7 : Int32)) C hP (by decide) (kk_34 hKL) (by decide) (kn_34 hKL) (by decide +kernel) dX11_init_99 ?_
  refine lv_icmp_ge (tgt := 122) hx hb dX11_init_100 (by decide) (fun c_44 => absurd c_44 (by decide)) (fun c_44 => ?_)
  refine lv_aload_n hx hb dX11_init_103 rfl (lv_at hl 1 rfl) ?_
  refine get_11_5 C hP (by decide) (kk_0 hKL) inlX11 mw_26 kf_0_5 dX11_init_104 ?_
  refine lv_iload_n hx hb dX11_init_107 rfl (lv_at hl 0 rfl) ?_
  refine x_new (ci := 3) (fs := [.int 0, .int 0, .int 0, .int 0, .int 0, .int 0, .int 0, .int 0, .int 0, .null]) tyX3_ok rfl rfl (fun _ => rfl) (fun j hj => by have : j < 10 := hj; revert j; decide) C hP hS hR (kk_50 hKL) (hB 50 (Nat.le_refl _)) inlX3 mw_25 mw_30 mw_31 (Nat.le_of_ble_eq_true rfl) (Nat.le_of_ble_eq_true rfl) dX11_init_108 (fun ad45 H hE hA C hP hS => ?_)
  rw [← hE 34 (by decide)]
  rw [← hE 0 (by decide)] at hl
  have hEE : ∀ r, r < 1 → ad45 r = ad r := fun r h => (hE r (by omega)).trans (hEE r h)
  have hAA := hA.trans hAA
  have C : Cx Y D 51 ad45 p s m args meth c cX11_init 2 none RX11 wsL_law := C
  have hP : WP Y D 51 ad45 K len σ42 ρ43 _ := hP
  have hS : va_S (AA 51 ad45 s.heap.size) s.heap _ _ := hS
  have hR : RC 51 ρ43 := RC_grow hR (hB 50 (Nat.le_refl _)).2
  have hB : BL 51 σ42 ρ43 := BL_grow hB
  refine lv_dup hx hb dX11_init_111 rfl ?_
  obtain ⟨σ46, ρ46, hq46, hF⟩ := bn2_1 hF
  refine x_callIN (ws := (Cond.code yX3_init cX3_init 1 none :: wsL_law)) C hP hS (c_X3_init_50 hKL hR hB hq46) ⟨va_cnB 0 C.1.2.2.2.2 (gdI mw_50) rfl rfl rfl (x_nest (own := "CutCrooked") (idx := 48) (y := yX3_init) (host := "CutCrooked") C (by decide +kernel)) (C.1.2.2.2.2 _ mw_31) hd_X3_init.2 ⟨Nat.le_of_ble_eq_true rfl, Nat.le_of_ble_eq_true rfl⟩, rfl, (C.1.2.2.2.2 _ mw_49)⟩ rfl rfl hl.1 (Nat.le_of_ble_eq_true rfl) ⟨(Nat.le_of_ble_eq_true rfl), (Nat.le_of_ble_eq_true rfl)⟩ dX11_init_112 (fun ad46 H locs hE hA C hP hS => ?_)
  obtain ⟨hR, hB, hU46, hkn⟩ := k_X3_init_50 hR hB hq46
  rw [← hE 34 (by decide)]
  rw [← hE 50 (by decide)]
  rw [← hE 0 (by decide)] at hl
  have hEE : ∀ r, r < 1 → ad46 r = ad r := fun r h => (hE r (by omega)).trans (hEE r h)
  have hAA := hA.trans hAA
  have C : Cx Y D 52 ad46 p s m args meth c cX11_init 2 none RX11 wsL_law := C
  have hP : WP Y D 52 ad46 K len σ46 ρ46 _ := hP
  have hS : va_S (AA 52 ad46 s.heap.size) s.heap _ _ := hS
  have hU : ∀ r, r < 0 → ρ46 r = ρ r := fun r h => (hU46 r (by omega)).trans (hU r h)
  have kf_1_0 : ρ46 1 0 = some 2 := by rw [hU46 1 (by decide)]; exact kf_1_0
  have kf_1_2 : ρ46 1 2 = some 3 := by rw [hU46 1 (by decide)]; exact kf_1_2
  have kf_1_3 : ρ46 1 3 = some 5 := by rw [hU46 1 (by decide)]; exact kf_1_3
  have kf_1_5 : ρ46 1 5 = some 10 := by rw [hU46 1 (by decide)]; exact kf_1_5
  have kf_1_9 : ρ46 1 9 = some 11 := by rw [hU46 1 (by decide)]; exact kf_1_9
  have kf_1_11 : ρ46 1 11 = some 12 := by rw [hU46 1 (by decide)]; exact kf_1_11
  have kf_1_12 : ρ46 1 12 = some 13 := by rw [hU46 1 (by decide)]; exact kf_1_12
  have kf_0_0 : ρ46 0 0 = some 1 := by rw [hU46 0 (by decide)]; exact kf_0_0
  have kf_14_0 : ρ46 14 0 = some 15 := by rw [hU46 14 (by decide)]; exact kf_14_0
  have kf_14_2 : ρ46 14 2 = some 16 := by rw [hU46 14 (by decide)]; exact kf_14_2
  have kf_14_3 : ρ46 14 3 = some 18 := by rw [hU46 14 (by decide)]; exact kf_14_3
  have kf_14_5 : ρ46 14 5 = some 23 := by rw [hU46 14 (by decide)]; exact kf_14_5
  have kf_14_9 : ρ46 14 9 = some 24 := by rw [hU46 14 (by decide)]; exact kf_14_9
  have kf_14_11 : ρ46 14 11 = some 25 := by rw [hU46 14 (by decide)]; exact kf_14_11
  have kf_14_12 : ρ46 14 12 = some 26 := by rw [hU46 14 (by decide)]; exact kf_14_12
  have kf_0_1 : ρ46 0 1 = some 14 := by rw [hU46 0 (by decide)]; exact kf_0_1
  have kf_27_0 : ρ46 27 0 = some 28 := by rw [hU46 27 (by decide)]; exact kf_27_0
  have kf_0_3 : ρ46 0 3 = some 27 := by rw [hU46 0 (by decide)]; exact kf_0_3
  have kf_29_3 : ρ46 29 3 = some 30 := by rw [hU46 29 (by decide)]; exact kf_29_3
  have kf_29_4 : ρ46 29 4 = some 31 := by rw [hU46 29 (by decide)]; exact kf_29_4
  have kf_29_5 : ρ46 29 5 = some 32 := by rw [hU46 29 (by decide)]; exact kf_29_5
  have kf_29_6 : ρ46 29 6 = some 33 := by rw [hU46 29 (by decide)]; exact kf_29_6
  have kf_0_4 : ρ46 0 4 = some 29 := by rw [hU46 0 (by decide)]; exact kf_0_4
  have kf_0_5 : ρ46 0 5 = some 34 := by rw [hU46 0 (by decide)]; exact kf_0_5
  have kf_0_6 : ρ46 0 6 = some 35 := by rw [hU46 0 (by decide)]; exact kf_0_6
  have kf_0_7 : ρ46 0 7 = some 36 := by rw [hU46 0 (by decide)]; exact kf_0_7
  have kf_37_9 : ρ46 37 9 = some 38 := by rw [hU46 37 (by decide)]; exact kf_37_9
  have kf_0_11 : ρ46 0 11 = some 37 := by rw [hU46 0 (by decide)]; exact kf_0_11
  have kf_0_12 : ρ46 0 12 = some 39 := by rw [hU46 0 (by decide)]; exact kf_0_12
  have kf_40_9 : ρ46 40 9 = some 41 := by rw [hU46 40 (by decide)]; exact kf_40_9
  have kf_34_0 : ρ46 34 0 = some 40 := by rw [hU46 34 (by decide)]; exact kf_34_0
  have kf_42_9 : ρ46 42 9 = some 43 := by rw [hU46 42 (by decide)]; exact kf_42_9
  have kf_34_1 : ρ46 34 1 = some 42 := by rw [hU46 34 (by decide)]; exact kf_34_1
  have kf_44_9 : ρ46 44 9 = some 45 := by rw [hU46 44 (by decide)]; exact kf_44_9
  have kf_34_2 : ρ46 34 2 = some 44 := by rw [hU46 34 (by decide)]; exact kf_34_2
  have kf_46_9 : ρ46 46 9 = some 47 := by rw [hU46 46 (by decide)]; exact kf_46_9
  have kf_34_3 : ρ46 34 3 = some 46 := by rw [hU46 34 (by decide)]; exact kf_34_3
  have kf_48_9 : ρ46 48 9 = some 49 := by rw [hU46 48 (by decide)]; exact kf_48_9
  have kf_34_4 : ρ46 34 4 = some 48 := by rw [hU46 34 (by decide)]; exact kf_34_4
  have kf_50_9 : ρ46 50 9 = some 51 := hkn (50, 9, 51) (by decide)
  obtain ⟨ρ47, eρ47, hF⟩ := nm_1 hF
  refine x_aastL (ρ1 := ρ47) C hP hS (by decide) (kk_34 hKL) (kn_34 hKL) (by decide) (kk_50 hKL) (by decide +kernel) (by rw [cl_5]; exact eρ47) dX11_init_115 (fun H locs hP hS => ?_)
  have hR : RC 52 ρ47 := by rw [eρ47]; exact RC_put hR (by decide)
  have hB : BL 52 σ46 ρ47 := by rw [eρ47]; exact BL_r2 hB (by decide)
  have hU : ∀ r, r < 0 → ρ47 r = ρ r := fun r h => (congrFun eρ47 r).trans ((r2_ne r (by omega)).trans (hU r h))
  have kf_1_0 : ρ47 1 0 = some 2 := by rw [eρ47, r2_at, if_neg (by decide)]; exact kf_1_0
  have kf_1_2 : ρ47 1 2 = some 3 := by rw [eρ47, r2_at, if_neg (by decide)]; exact kf_1_2
  have kf_1_3 : ρ47 1 3 = some 5 := by rw [eρ47, r2_at, if_neg (by decide)]; exact kf_1_3
  have kf_1_5 : ρ47 1 5 = some 10 := by rw [eρ47, r2_at, if_neg (by decide)]; exact kf_1_5
  have kf_1_9 : ρ47 1 9 = some 11 := by rw [eρ47, r2_at, if_neg (by decide)]; exact kf_1_9
  have kf_1_11 : ρ47 1 11 = some 12 := by rw [eρ47, r2_at, if_neg (by decide)]; exact kf_1_11
  have kf_1_12 : ρ47 1 12 = some 13 := by rw [eρ47, r2_at, if_neg (by decide)]; exact kf_1_12
  have kf_0_0 : ρ47 0 0 = some 1 := by rw [eρ47, r2_at, if_neg (by decide)]; exact kf_0_0
  have kf_14_0 : ρ47 14 0 = some 15 := by rw [eρ47, r2_at, if_neg (by decide)]; exact kf_14_0
  have kf_14_2 : ρ47 14 2 = some 16 := by rw [eρ47, r2_at, if_neg (by decide)]; exact kf_14_2
  have kf_14_3 : ρ47 14 3 = some 18 := by rw [eρ47, r2_at, if_neg (by decide)]; exact kf_14_3
  have kf_14_5 : ρ47 14 5 = some 23 := by rw [eρ47, r2_at, if_neg (by decide)]; exact kf_14_5
  have kf_14_9 : ρ47 14 9 = some 24 := by rw [eρ47, r2_at, if_neg (by decide)]; exact kf_14_9
  have kf_14_11 : ρ47 14 11 = some 25 := by rw [eρ47, r2_at, if_neg (by decide)]; exact kf_14_11
  have kf_14_12 : ρ47 14 12 = some 26 := by rw [eρ47, r2_at, if_neg (by decide)]; exact kf_14_12
  have kf_0_1 : ρ47 0 1 = some 14 := by rw [eρ47, r2_at, if_neg (by decide)]; exact kf_0_1
  have kf_27_0 : ρ47 27 0 = some 28 := by rw [eρ47, r2_at, if_neg (by decide)]; exact kf_27_0
  have kf_0_3 : ρ47 0 3 = some 27 := by rw [eρ47, r2_at, if_neg (by decide)]; exact kf_0_3
  have kf_29_3 : ρ47 29 3 = some 30 := by rw [eρ47, r2_at, if_neg (by decide)]; exact kf_29_3
  have kf_29_4 : ρ47 29 4 = some 31 := by rw [eρ47, r2_at, if_neg (by decide)]; exact kf_29_4
  have kf_29_5 : ρ47 29 5 = some 32 := by rw [eρ47, r2_at, if_neg (by decide)]; exact kf_29_5
  have kf_29_6 : ρ47 29 6 = some 33 := by rw [eρ47, r2_at, if_neg (by decide)]; exact kf_29_6
  have kf_0_4 : ρ47 0 4 = some 29 := by rw [eρ47, r2_at, if_neg (by decide)]; exact kf_0_4
  have kf_0_5 : ρ47 0 5 = some 34 := by rw [eρ47, r2_at, if_neg (by decide)]; exact kf_0_5
  have kf_0_6 : ρ47 0 6 = some 35 := by rw [eρ47, r2_at, if_neg (by decide)]; exact kf_0_6
  have kf_0_7 : ρ47 0 7 = some 36 := by rw [eρ47, r2_at, if_neg (by decide)]; exact kf_0_7
  have kf_37_9 : ρ47 37 9 = some 38 := by rw [eρ47, r2_at, if_neg (by decide)]; exact kf_37_9
  have kf_0_11 : ρ47 0 11 = some 37 := by rw [eρ47, r2_at, if_neg (by decide)]; exact kf_0_11
  have kf_0_12 : ρ47 0 12 = some 39 := by rw [eρ47, r2_at, if_neg (by decide)]; exact kf_0_12
  have kf_40_9 : ρ47 40 9 = some 41 := by rw [eρ47, r2_at, if_neg (by decide)]; exact kf_40_9
  have kf_34_0 : ρ47 34 0 = some 40 := by rw [eρ47, r2_at, if_pos rfl, if_neg (by decide)]; exact kf_34_0
  have kf_42_9 : ρ47 42 9 = some 43 := by rw [eρ47, r2_at, if_neg (by decide)]; exact kf_42_9
  have kf_34_1 : ρ47 34 1 = some 42 := by rw [eρ47, r2_at, if_pos rfl, if_neg (by decide)]; exact kf_34_1
  have kf_44_9 : ρ47 44 9 = some 45 := by rw [eρ47, r2_at, if_neg (by decide)]; exact kf_44_9
  have kf_34_2 : ρ47 34 2 = some 44 := by rw [eρ47, r2_at, if_pos rfl, if_neg (by decide)]; exact kf_34_2
  have kf_46_9 : ρ47 46 9 = some 47 := by rw [eρ47, r2_at, if_neg (by decide)]; exact kf_46_9
  have kf_34_3 : ρ47 34 3 = some 46 := by rw [eρ47, r2_at, if_pos rfl, if_neg (by decide)]; exact kf_34_3
  have kf_48_9 : ρ47 48 9 = some 49 := by rw [eρ47, r2_at, if_neg (by decide)]; exact kf_48_9
  have kf_34_4 : ρ47 34 4 = some 48 := by rw [eρ47, r2_at, if_pos rfl, if_neg (by decide)]; exact kf_34_4
  have kf_50_9 : ρ47 50 9 = some 51 := by rw [eρ47, r2_at, if_neg (by decide)]; exact kf_50_9
  have kf_34_5 : ρ47 34 5 = some 50 := by rw [eρ47, r2_at, if_pos rfl, if_pos rfl]
  refine lv_iinc (v := 6) (lv' := [(1, .int (6 : Int32)), (0, .ref (ad46 0))]) hx hb dX11_init_116 hl (k := 0) rfl (by decide) (by decide) rfl (fun ls hl => ?_)
  refine lv_goto (tgt := 94) hx hb dX11_init_119 (by decide) ?_
  refine lv_iload_n hx hb dX11_init_94 rfl (lv_at hl 0 rfl) ?_
  refine lv_aload_n hx hb dX11_init_95 rfl (lv_at hl 1 rfl) ?_
  refine get_11_5 C hP (by decide) (kk_0 hKL) inlX11 mw_26 kf_0_5 dX11_init_96 ?_
  refine x_alen (v := (7 : Int32)) C hP (by decide) (kk_34 hKL) (by decide) (kn_34 hKL) (by decide +kernel) dX11_init_99 ?_
  refine lv_icmp_ge (tgt := 122) hx hb dX11_init_100 (by decide) (fun c_48 => absurd c_48 (by decide)) (fun c_48 => ?_)
  refine lv_aload_n hx hb dX11_init_103 rfl (lv_at hl 1 rfl) ?_
  refine get_11_5 C hP (by decide) (kk_0 hKL) inlX11 mw_26 kf_0_5 dX11_init_104 ?_
  refine lv_iload_n hx hb dX11_init_107 rfl (lv_at hl 0 rfl) ?_
  refine x_new (ci := 3) (fs := [.int 0, .int 0, .int 0, .int 0, .int 0, .int 0, .int 0, .int 0, .int 0, .null]) tyX3_ok rfl rfl (fun _ => rfl) (fun j hj => by have : j < 10 := hj; revert j; decide) C hP hS hR (kk_52 hKL) (hB 52 (Nat.le_refl _)) inlX3 mw_25 mw_30 mw_31 (Nat.le_of_ble_eq_true rfl) (Nat.le_of_ble_eq_true rfl) dX11_init_108 (fun ad49 H hE hA C hP hS => ?_)
  rw [← hE 34 (by decide)]
  rw [← hE 0 (by decide)] at hl
  have hEE : ∀ r, r < 1 → ad49 r = ad r := fun r h => (hE r (by omega)).trans (hEE r h)
  have hAA := hA.trans hAA
  have C : Cx Y D 53 ad49 p s m args meth c cX11_init 2 none RX11 wsL_law := C
  have hP : WP Y D 53 ad49 K len σ46 ρ47 _ := hP
  have hS : va_S (AA 53 ad49 s.heap.size) s.heap _ _ := hS
  have hR : RC 53 ρ47 := RC_grow hR (hB 52 (Nat.le_refl _)).2
  have hB : BL 53 σ46 ρ47 := BL_grow hB
  refine lv_dup hx hb dX11_init_111 rfl ?_
  obtain ⟨σ50, ρ50, hq50, hF⟩ := bn2_1 hF
  refine x_callIN (ws := (Cond.code yX3_init cX3_init 1 none :: wsL_law)) C hP hS (c_X3_init_52 hKL hR hB hq50) ⟨va_cnB 0 C.1.2.2.2.2 (gdI mw_50) rfl rfl rfl (x_nest (own := "CutCrooked") (idx := 48) (y := yX3_init) (host := "CutCrooked") C (by decide +kernel)) (C.1.2.2.2.2 _ mw_31) hd_X3_init.2 ⟨Nat.le_of_ble_eq_true rfl, Nat.le_of_ble_eq_true rfl⟩, rfl, (C.1.2.2.2.2 _ mw_49)⟩ rfl rfl hl.1 (Nat.le_of_ble_eq_true rfl) ⟨(Nat.le_of_ble_eq_true rfl), (Nat.le_of_ble_eq_true rfl)⟩ dX11_init_112 (fun ad50 H locs hE hA C hP hS => ?_)
  obtain ⟨hR, hB, hU50, hkn⟩ := k_X3_init_52 hR hB hq50
  rw [← hE 34 (by decide)]
  rw [← hE 52 (by decide)]
  rw [← hE 0 (by decide)] at hl
  have hEE : ∀ r, r < 1 → ad50 r = ad r := fun r h => (hE r (by omega)).trans (hEE r h)
  have hAA := hA.trans hAA
  have C : Cx Y D 54 ad50 p s m args meth c cX11_init 2 none RX11 wsL_law := C
  have hP : WP Y D 54 ad50 K len σ50 ρ50 _ := hP
  have hS : va_S (AA 54 ad50 s.heap.size) s.heap _ _ := hS
  have hU : ∀ r, r < 0 → ρ50 r = ρ r := fun r h => (hU50 r (by omega)).trans (hU r h)
  have kf_1_0 : ρ50 1 0 = some 2 := by rw [hU50 1 (by decide)]; exact kf_1_0
  have kf_1_2 : ρ50 1 2 = some 3 := by rw [hU50 1 (by decide)]; exact kf_1_2
  have kf_1_3 : ρ50 1 3 = some 5 := by rw [hU50 1 (by decide)]; exact kf_1_3
  have kf_1_5 : ρ50 1 5 = some 10 := by rw [hU50 1 (by decide)]; exact kf_1_5
  have kf_1_9 : ρ50 1 9 = some 11 := by rw [hU50 1 (by decide)]; exact kf_1_9
  have kf_1_11 : ρ50 1 11 = some 12 := by rw [hU50 1 (by decide)]; exact kf_1_11
  have kf_1_12 : ρ50 1 12 = some 13 := by rw [hU50 1 (by decide)]; exact kf_1_12
  have kf_0_0 : ρ50 0 0 = some 1 := by rw [hU50 0 (by decide)]; exact kf_0_0
  have kf_14_0 : ρ50 14 0 = some 15 := by rw [hU50 14 (by decide)]; exact kf_14_0
  have kf_14_2 : ρ50 14 2 = some 16 := by rw [hU50 14 (by decide)]; exact kf_14_2
  have kf_14_3 : ρ50 14 3 = some 18 := by rw [hU50 14 (by decide)]; exact kf_14_3
  have kf_14_5 : ρ50 14 5 = some 23 := by rw [hU50 14 (by decide)]; exact kf_14_5
  have kf_14_9 : ρ50 14 9 = some 24 := by rw [hU50 14 (by decide)]; exact kf_14_9
  have kf_14_11 : ρ50 14 11 = some 25 := by rw [hU50 14 (by decide)]; exact kf_14_11
  have kf_14_12 : ρ50 14 12 = some 26 := by rw [hU50 14 (by decide)]; exact kf_14_12
  have kf_0_1 : ρ50 0 1 = some 14 := by rw [hU50 0 (by decide)]; exact kf_0_1
  have kf_27_0 : ρ50 27 0 = some 28 := by rw [hU50 27 (by decide)]; exact kf_27_0
  have kf_0_3 : ρ50 0 3 = some 27 := by rw [hU50 0 (by decide)]; exact kf_0_3
  have kf_29_3 : ρ50 29 3 = some 30 := by rw [hU50 29 (by decide)]; exact kf_29_3
  have kf_29_4 : ρ50 29 4 = some 31 := by rw [hU50 29 (by decide)]; exact kf_29_4
  have kf_29_5 : ρ50 29 5 = some 32 := by rw [hU50 29 (by decide)]; exact kf_29_5
  have kf_29_6 : ρ50 29 6 = some 33 := by rw [hU50 29 (by decide)]; exact kf_29_6
  have kf_0_4 : ρ50 0 4 = some 29 := by rw [hU50 0 (by decide)]; exact kf_0_4
  have kf_0_5 : ρ50 0 5 = some 34 := by rw [hU50 0 (by decide)]; exact kf_0_5
  have kf_0_6 : ρ50 0 6 = some 35 := by rw [hU50 0 (by decide)]; exact kf_0_6
  have kf_0_7 : ρ50 0 7 = some 36 := by rw [hU50 0 (by decide)]; exact kf_0_7
  have kf_37_9 : ρ50 37 9 = some 38 := by rw [hU50 37 (by decide)]; exact kf_37_9
  have kf_0_11 : ρ50 0 11 = some 37 := by rw [hU50 0 (by decide)]; exact kf_0_11
  have kf_0_12 : ρ50 0 12 = some 39 := by rw [hU50 0 (by decide)]; exact kf_0_12
  have kf_40_9 : ρ50 40 9 = some 41 := by rw [hU50 40 (by decide)]; exact kf_40_9
  have kf_34_0 : ρ50 34 0 = some 40 := by rw [hU50 34 (by decide)]; exact kf_34_0
  have kf_42_9 : ρ50 42 9 = some 43 := by rw [hU50 42 (by decide)]; exact kf_42_9
  have kf_34_1 : ρ50 34 1 = some 42 := by rw [hU50 34 (by decide)]; exact kf_34_1
  have kf_44_9 : ρ50 44 9 = some 45 := by rw [hU50 44 (by decide)]; exact kf_44_9
  have kf_34_2 : ρ50 34 2 = some 44 := by rw [hU50 34 (by decide)]; exact kf_34_2
  have kf_46_9 : ρ50 46 9 = some 47 := by rw [hU50 46 (by decide)]; exact kf_46_9
  have kf_34_3 : ρ50 34 3 = some 46 := by rw [hU50 34 (by decide)]; exact kf_34_3
  have kf_48_9 : ρ50 48 9 = some 49 := by rw [hU50 48 (by decide)]; exact kf_48_9
  have kf_34_4 : ρ50 34 4 = some 48 := by rw [hU50 34 (by decide)]; exact kf_34_4
  have kf_50_9 : ρ50 50 9 = some 51 := by rw [hU50 50 (by decide)]; exact kf_50_9
  have kf_34_5 : ρ50 34 5 = some 50 := by rw [hU50 34 (by decide)]; exact kf_34_5
  have kf_52_9 : ρ50 52 9 = some 53 := hkn (52, 9, 53) (by decide)
  obtain ⟨ρ51, eρ51, hF⟩ := nm_1 hF
  refine x_aastL (ρ1 := ρ51) C hP hS (by decide) (kk_34 hKL) (kn_34 hKL) (by decide) (kk_52 hKL) (by decide +kernel) (by rw [cl_6]; exact eρ51) dX11_init_115 (fun H locs hP hS => ?_)
  have hR : RC 54 ρ51 := by rw [eρ51]; exact RC_put hR (by decide)
  have hB : BL 54 σ50 ρ51 := by rw [eρ51]; exact BL_r2 hB (by decide)
  have hU : ∀ r, r < 0 → ρ51 r = ρ r := fun r h => (congrFun eρ51 r).trans ((r2_ne r (by omega)).trans (hU r h))
  have kf_1_0 : ρ51 1 0 = some 2 := by rw [eρ51, r2_at, if_neg (by decide)]; exact kf_1_0
  have kf_1_2 : ρ51 1 2 = some 3 := by rw [eρ51, r2_at, if_neg (by decide)]; exact kf_1_2
  have kf_1_3 : ρ51 1 3 = some 5 := by rw [eρ51, r2_at, if_neg (by decide)]; exact kf_1_3
  have kf_1_5 : ρ51 1 5 = some 10 := by rw [eρ51, r2_at, if_neg (by decide)]; exact kf_1_5
  have kf_1_9 : ρ51 1 9 = some 11 := by rw [eρ51, r2_at, if_neg (by decide)]; exact kf_1_9
  have kf_1_11 : ρ51 1 11 = some 12 := by rw [eρ51, r2_at, if_neg (by decide)]; exact kf_1_11
  have kf_1_12 : ρ51 1 12 = some 13 := by rw [eρ51, r2_at, if_neg (by decide)]; exact kf_1_12
  have kf_0_0 : ρ51 0 0 = some 1 := by rw [eρ51, r2_at, if_neg (by decide)]; exact kf_0_0
  have kf_14_0 : ρ51 14 0 = some 15 := by rw [eρ51, r2_at, if_neg (by decide)]; exact kf_14_0
  have kf_14_2 : ρ51 14 2 = some 16 := by rw [eρ51, r2_at, if_neg (by decide)]; exact kf_14_2
  have kf_14_3 : ρ51 14 3 = some 18 := by rw [eρ51, r2_at, if_neg (by decide)]; exact kf_14_3
  have kf_14_5 : ρ51 14 5 = some 23 := by rw [eρ51, r2_at, if_neg (by decide)]; exact kf_14_5
  have kf_14_9 : ρ51 14 9 = some 24 := by rw [eρ51, r2_at, if_neg (by decide)]; exact kf_14_9
  have kf_14_11 : ρ51 14 11 = some 25 := by rw [eρ51, r2_at, if_neg (by decide)]; exact kf_14_11
  have kf_14_12 : ρ51 14 12 = some 26 := by rw [eρ51, r2_at, if_neg (by decide)]; exact kf_14_12
  have kf_0_1 : ρ51 0 1 = some 14 := by rw [eρ51, r2_at, if_neg (by decide)]; exact kf_0_1
  have kf_27_0 : ρ51 27 0 = some 28 := by rw [eρ51, r2_at, if_neg (by decide)]; exact kf_27_0
  have kf_0_3 : ρ51 0 3 = some 27 := by rw [eρ51, r2_at, if_neg (by decide)]; exact kf_0_3
  have kf_29_3 : ρ51 29 3 = some 30 := by rw [eρ51, r2_at, if_neg (by decide)]; exact kf_29_3
  have kf_29_4 : ρ51 29 4 = some 31 := by rw [eρ51, r2_at, if_neg (by decide)]; exact kf_29_4
  have kf_29_5 : ρ51 29 5 = some 32 := by rw [eρ51, r2_at, if_neg (by decide)]; exact kf_29_5
  have kf_29_6 : ρ51 29 6 = some 33 := by rw [eρ51, r2_at, if_neg (by decide)]; exact kf_29_6
  have kf_0_4 : ρ51 0 4 = some 29 := by rw [eρ51, r2_at, if_neg (by decide)]; exact kf_0_4
  have kf_0_5 : ρ51 0 5 = some 34 := by rw [eρ51, r2_at, if_neg (by decide)]; exact kf_0_5
  have kf_0_6 : ρ51 0 6 = some 35 := by rw [eρ51, r2_at, if_neg (by decide)]; exact kf_0_6
  have kf_0_7 : ρ51 0 7 = some 36 := by rw [eρ51, r2_at, if_neg (by decide)]; exact kf_0_7
  have kf_37_9 : ρ51 37 9 = some 38 := by rw [eρ51, r2_at, if_neg (by decide)]; exact kf_37_9
  have kf_0_11 : ρ51 0 11 = some 37 := by rw [eρ51, r2_at, if_neg (by decide)]; exact kf_0_11
  have kf_0_12 : ρ51 0 12 = some 39 := by rw [eρ51, r2_at, if_neg (by decide)]; exact kf_0_12
  have kf_40_9 : ρ51 40 9 = some 41 := by rw [eρ51, r2_at, if_neg (by decide)]; exact kf_40_9
  have kf_34_0 : ρ51 34 0 = some 40 := by rw [eρ51, r2_at, if_pos rfl, if_neg (by decide)]; exact kf_34_0
  have kf_42_9 : ρ51 42 9 = some 43 := by rw [eρ51, r2_at, if_neg (by decide)]; exact kf_42_9
  have kf_34_1 : ρ51 34 1 = some 42 := by rw [eρ51, r2_at, if_pos rfl, if_neg (by decide)]; exact kf_34_1
  have kf_44_9 : ρ51 44 9 = some 45 := by rw [eρ51, r2_at, if_neg (by decide)]; exact kf_44_9
  have kf_34_2 : ρ51 34 2 = some 44 := by rw [eρ51, r2_at, if_pos rfl, if_neg (by decide)]; exact kf_34_2
  have kf_46_9 : ρ51 46 9 = some 47 := by rw [eρ51, r2_at, if_neg (by decide)]; exact kf_46_9
  have kf_34_3 : ρ51 34 3 = some 46 := by rw [eρ51, r2_at, if_pos rfl, if_neg (by decide)]; exact kf_34_3
  have kf_48_9 : ρ51 48 9 = some 49 := by rw [eρ51, r2_at, if_neg (by decide)]; exact kf_48_9
  have kf_34_4 : ρ51 34 4 = some 48 := by rw [eρ51, r2_at, if_pos rfl, if_neg (by decide)]; exact kf_34_4
  have kf_50_9 : ρ51 50 9 = some 51 := by rw [eρ51, r2_at, if_neg (by decide)]; exact kf_50_9
  have kf_34_5 : ρ51 34 5 = some 50 := by rw [eρ51, r2_at, if_pos rfl, if_neg (by decide)]; exact kf_34_5
  have kf_52_9 : ρ51 52 9 = some 53 := by rw [eρ51, r2_at, if_neg (by decide)]; exact kf_52_9
  have kf_34_6 : ρ51 34 6 = some 52 := by rw [eρ51, r2_at, if_pos rfl, if_pos rfl]
  refine lv_iinc (v := 7) (lv' := [(1, .int (7 : Int32)), (0, .ref (ad50 0))]) hx hb dX11_init_116 hl (k := 0) rfl (by decide) (by decide) rfl (fun ls hl => ?_)
  refine lv_goto (tgt := 94) hx hb dX11_init_119 (by decide) ?_
  refine lv_iload_n hx hb dX11_init_94 rfl (lv_at hl 0 rfl) ?_
  refine lv_aload_n hx hb dX11_init_95 rfl (lv_at hl 1 rfl) ?_
  refine get_11_5 C hP (by decide) (kk_0 hKL) inlX11 mw_26 kf_0_5 dX11_init_96 ?_
  refine x_alen (v := (7 : Int32)) C hP (by decide) (kk_34 hKL) (by decide) (kn_34 hKL) (by decide +kernel) dX11_init_99 ?_
  refine lv_icmp_ge (tgt := 122) hx hb dX11_init_100 (by decide) (fun c_52 => ?_) (fun c_52 => absurd (by decide) c_52)
  obtain ⟨rfl, rfl⟩ := ret_2 hF
  exact x_cret rfl hEE hAA C hP hS dX11_init_122

/-! CutCrookedModel.public CutCrookedModel(); 54 -/
theorem dX12_init_0 : decode cX12_init 0 = .ok (.aload_n 0, 1) := by decide +kernel
theorem dX12_init_1 : decode cX12_init 1 = .ok (.invokespecial 3, 3) := by decide +kernel
theorem dX12_init_4 : decode cX12_init 4 = .ok (.aload_n 0, 1) := by decide +kernel
theorem dX12_init_5 : decode cX12_init 5 = .ok (.sipush 909, 3) := by decide +kernel
theorem dX12_init_8 : decode cX12_init 8 = .ok (.newarray .int, 2) := by decide +kernel
theorem dX12_init_10 : decode cX12_init 10 = .ok (.putfield 9, 3) := by decide +kernel
theorem dX12_init_13 : decode cX12_init 13 = .ok (.aload_n 0, 1) := by decide +kernel
theorem dX12_init_14 : decode cX12_init 14 = .ok (.sipush 909, 3) := by decide +kernel
theorem dX12_init_17 : decode cX12_init 17 = .ok (.newarray .int, 2) := by decide +kernel
theorem dX12_init_19 : decode cX12_init 19 = .ok (.putfield 15, 3) := by decide +kernel
theorem dX12_init_22 : decode cX12_init 22 = .ok (.aload_n 0, 1) := by decide +kernel
theorem dX12_init_23 : decode cX12_init 23 = .ok (.bipush 11, 2) := by decide +kernel
theorem dX12_init_25 : decode cX12_init 25 = .ok (.newarray .int, 2) := by decide +kernel
theorem dX12_init_27 : decode cX12_init 27 = .ok (.putfield 18, 3) := by decide +kernel
theorem dX12_init_30 : decode cX12_init 30 = .ok (.aload_n 0, 1) := by decide +kernel
theorem dX12_init_31 : decode cX12_init 31 = .ok (.bipush 6, 2) := by decide +kernel
theorem dX12_init_33 : decode cX12_init 33 = .ok (.newarray .int, 2) := by decide +kernel
theorem dX12_init_35 : decode cX12_init 35 = .ok (.putfield 21, 3) := by decide +kernel
theorem dX12_init_38 : decode cX12_init 38 = .ok (.aload_n 0, 1) := by decide +kernel
theorem dX12_init_39 : decode cX12_init 39 = .ok (.bipush 64, 2) := by decide +kernel
theorem dX12_init_41 : decode cX12_init 41 = .ok (.newarray .boolean, 2) := by decide +kernel
theorem dX12_init_43 : decode cX12_init 43 = .ok (.putfield 24, 3) := by decide +kernel
theorem dX12_init_46 : decode cX12_init 46 = .ok (.aload_n 0, 1) := by decide +kernel
theorem dX12_init_47 : decode cX12_init 47 = .ok (.bipush 66, 2) := by decide +kernel
theorem dX12_init_49 : decode cX12_init 49 = .ok (.newarray .int, 2) := by decide +kernel
theorem dX12_init_51 : decode cX12_init 51 = .ok (.putfield 28, 3) := by decide +kernel
theorem dX12_init_54 : decode cX12_init 54 = .ok (.aload_n 0, 1) := by decide +kernel
theorem dX12_init_55 : decode cX12_init 55 = .ok (.iconst 5, 1) := by decide +kernel
theorem dX12_init_56 : decode cX12_init 56 = .ok (.newarray .int, 2) := by decide +kernel
theorem dX12_init_58 : decode cX12_init 58 = .ok (.putfield 31, 3) := by decide +kernel
theorem dX12_init_61 : decode cX12_init 61 = .ok (.aload_n 0, 1) := by decide +kernel
theorem dX12_init_62 : decode cX12_init 62 = .ok (.iconst 5, 1) := by decide +kernel
theorem dX12_init_63 : decode cX12_init 63 = .ok (.newarray .int, 2) := by decide +kernel
theorem dX12_init_65 : decode cX12_init 65 = .ok (.putfield 34, 3) := by decide +kernel
theorem dX12_init_68 : decode cX12_init 68 = .ok (.aload_n 0, 1) := by decide +kernel
theorem dX12_init_69 : decode cX12_init 69 = .ok (.bipush 6, 2) := by decide +kernel
theorem dX12_init_71 : decode cX12_init 71 = .ok (.newarray .int, 2) := by decide +kernel
theorem dX12_init_73 : decode cX12_init 73 = .ok (.putfield 37, 3) := by decide +kernel
theorem dX12_init_76 : decode cX12_init 76 = .ok (.aload_n 0, 1) := by decide +kernel
theorem dX12_init_77 : decode cX12_init 77 = .ok (.bipush 20, 2) := by decide +kernel
theorem dX12_init_79 : decode cX12_init 79 = .ok (.newarray .int, 2) := by decide +kernel
theorem dX12_init_81 : decode cX12_init 81 = .ok (.putfield 40, 3) := by decide +kernel
theorem dX12_init_84 : decode cX12_init 84 = .ok (.aload_n 0, 1) := by decide +kernel
theorem dX12_init_85 : decode cX12_init 85 = .ok (.getfield 9, 3) := by decide +kernel
theorem dX12_init_88 : decode cX12_init 88 = .ok (.bipush 16, 2) := by decide +kernel
theorem dX12_init_90 : decode cX12_init 90 = .ok (.iconst (-1), 1) := by decide +kernel
theorem dX12_init_91 : decode cX12_init 91 = .ok (.iastore, 1) := by decide +kernel
theorem dX12_init_92 : decode cX12_init 92 = .ok (.aload_n 0, 1) := by decide +kernel
theorem dX12_init_93 : decode cX12_init 93 = .ok (.getfield 9, 3) := by decide +kernel
theorem dX12_init_96 : decode cX12_init 96 = .ok (.bipush 17, 2) := by decide +kernel
theorem dX12_init_98 : decode cX12_init 98 = .ok (.sipush 300, 3) := by decide +kernel
theorem dX12_init_101 : decode cX12_init 101 = .ok (.iastore, 1) := by decide +kernel
theorem dX12_init_102 : decode cX12_init 102 = .ok (.aload_n 0, 1) := by decide +kernel
theorem dX12_init_103 : decode cX12_init 103 = .ok (.getfield 9, 3) := by decide +kernel
theorem dX12_init_106 : decode cX12_init 106 = .ok (.iconst 0, 1) := by decide +kernel
theorem dX12_init_107 : decode cX12_init 107 = .ok (.sipush 300, 3) := by decide +kernel
theorem dX12_init_110 : decode cX12_init 110 = .ok (.iastore, 1) := by decide +kernel
theorem dX12_init_111 : decode cX12_init 111 = .ok (.return_, 1) := by decide +kernel
theorem hd_X12_init : yX12_init.cls = RX12 ∧ yX12_init.cls ≠ "java/lang/invoke/MethodHandle" ∧ yX12_init.cls ≠ "java/lang/invoke/VarHandle" ∧ (parseMethodDescriptor yX12_init.desc).map (fun d => d.parameters.length) = some 0 := by decide +kernel
abbrev rm_X12_init_54 : Room := { frames := 1, cells := 10, slots := 2001, locals := 20 }
def F_X12_init_54  (σ : SG) (ρ : RG) : Option (SG × RG) :=
  nm (r2 ρ 54 1 (some 55)) fun ρ2 =>
  nm (r2 ρ2 54 2 (some 56)) fun ρ4 =>
  nm (r2 ρ4 54 3 (some 57)) fun ρ6 =>
  nm (r2 ρ6 54 10 (some 58)) fun ρ8 =>
  nm (r2 ρ8 54 11 (some 59)) fun ρ10 =>
  nm (r2 ρ10 54 22 (some 60)) fun ρ12 =>
  nm (r2 ρ12 54 23 (some 61)) fun ρ14 =>
  nm (r2 ρ14 54 24 (some 62)) fun ρ16 =>
  nm (r2 ρ16 54 27 (some 63)) fun ρ18 =>
  nm (r2 ρ18 54 29 (some 64)) fun ρ20 =>
  nm (s2 σ 55 16 (-1 : Int32)) fun σ21 =>
  nm (s2 σ21 55 17 (300 : Int32)) fun σ22 =>
  nm (s2 σ22 55 0 (300 : Int32)) fun σ23 =>
  some (σ23, ρ20)
set_option maxHeartbeats 4000000 in
set_option maxRecDepth 100000 in
theorem k_X12_init_54  {σ σ1 : SG} {ρ ρ1 : RG} (hR : RC 55 ρ) (hB : BL 55 σ ρ) (hF : F_X12_init_54 σ ρ = some (σ1, ρ1)) : RC 65 ρ1 ∧ BL 65 σ1 ρ1 ∧ (∀ r, r < 54 → ρ1 r = ρ r) ∧ ∀ q ∈ ([(54, 1, 55), (54, 2, 56), (54, 3, 57), (54, 10, 58), (54, 11, 59), (54, 22, 60), (54, 23, 61), (54, 24, 62), (54, 27, 63), (54, 29, 64)] : List (Nat × Nat × Nat)), ρ1 q.1 q.2.1 = some q.2.2 := by
  unfold F_X12_init_54 at hF
  have hU : ∀ r, r < 54 → ρ r = ρ r := fun _ _ => rfl
  have hR : RC 56 ρ := RC_grow hR (hB 55 (Nat.le_refl _)).2
  have hB : BL 56 σ ρ := BL_grow hB
  obtain ⟨ρ2, eρ2, hF⟩ := nm_1 hF
  have hR : RC 56 ρ2 := by rw [eρ2]; exact RC_put hR (by decide)
  have hB : BL 56 σ ρ2 := by rw [eρ2]; exact BL_r2 hB (by decide)
  have hU : ∀ r, r < 54 → ρ2 r = ρ r := fun r h => (congrFun eρ2 r).trans ((r2_ne r (by omega)).trans (hU r h))
  have kf_54_1 : ρ2 54 1 = some 55 := by rw [eρ2, r2_at, if_pos rfl, if_pos rfl]
  have hR : RC 57 ρ2 := RC_grow hR (hB 56 (Nat.le_refl _)).2
  have hB : BL 57 σ ρ2 := BL_grow hB
  obtain ⟨ρ4, eρ4, hF⟩ := nm_1 hF
  have hR : RC 57 ρ4 := by rw [eρ4]; exact RC_put hR (by decide)
  have hB : BL 57 σ ρ4 := by rw [eρ4]; exact BL_r2 hB (by decide)
  have hU : ∀ r, r < 54 → ρ4 r = ρ r := fun r h => (congrFun eρ4 r).trans ((r2_ne r (by omega)).trans (hU r h))
  have kf_54_1 : ρ4 54 1 = some 55 := by rw [eρ4, r2_at, if_pos rfl, if_neg (by decide)]; exact kf_54_1
  have kf_54_2 : ρ4 54 2 = some 56 := by rw [eρ4, r2_at, if_pos rfl, if_pos rfl]
  have hR : RC 58 ρ4 := RC_grow hR (hB 57 (Nat.le_refl _)).2
  have hB : BL 58 σ ρ4 := BL_grow hB
  obtain ⟨ρ6, eρ6, hF⟩ := nm_1 hF
  have hR : RC 58 ρ6 := by rw [eρ6]; exact RC_put hR (by decide)
  have hB : BL 58 σ ρ6 := by rw [eρ6]; exact BL_r2 hB (by decide)
  have hU : ∀ r, r < 54 → ρ6 r = ρ r := fun r h => (congrFun eρ6 r).trans ((r2_ne r (by omega)).trans (hU r h))
  have kf_54_1 : ρ6 54 1 = some 55 := by rw [eρ6, r2_at, if_pos rfl, if_neg (by decide)]; exact kf_54_1
  have kf_54_2 : ρ6 54 2 = some 56 := by rw [eρ6, r2_at, if_pos rfl, if_neg (by decide)]; exact kf_54_2
  have kf_54_3 : ρ6 54 3 = some 57 := by rw [eρ6, r2_at, if_pos rfl, if_pos rfl]
  have hR : RC 59 ρ6 := RC_grow hR (hB 58 (Nat.le_refl _)).2
  have hB : BL 59 σ ρ6 := BL_grow hB
  obtain ⟨ρ8, eρ8, hF⟩ := nm_1 hF
  have hR : RC 59 ρ8 := by rw [eρ8]; exact RC_put hR (by decide)
  have hB : BL 59 σ ρ8 := by rw [eρ8]; exact BL_r2 hB (by decide)
  have hU : ∀ r, r < 54 → ρ8 r = ρ r := fun r h => (congrFun eρ8 r).trans ((r2_ne r (by omega)).trans (hU r h))
  have kf_54_1 : ρ8 54 1 = some 55 := by rw [eρ8, r2_at, if_pos rfl, if_neg (by decide)]; exact kf_54_1
  have kf_54_2 : ρ8 54 2 = some 56 := by rw [eρ8, r2_at, if_pos rfl, if_neg (by decide)]; exact kf_54_2
  have kf_54_3 : ρ8 54 3 = some 57 := by rw [eρ8, r2_at, if_pos rfl, if_neg (by decide)]; exact kf_54_3
  have kf_54_10 : ρ8 54 10 = some 58 := by rw [eρ8, r2_at, if_pos rfl, if_pos rfl]
  have hR : RC 60 ρ8 := RC_grow hR (hB 59 (Nat.le_refl _)).2
  have hB : BL 60 σ ρ8 := BL_grow hB
  obtain ⟨ρ10, eρ10, hF⟩ := nm_1 hF
  have hR : RC 60 ρ10 := by rw [eρ10]; exact RC_put hR (by decide)
  have hB : BL 60 σ ρ10 := by rw [eρ10]; exact BL_r2 hB (by decide)
  have hU : ∀ r, r < 54 → ρ10 r = ρ r := fun r h => (congrFun eρ10 r).trans ((r2_ne r (by omega)).trans (hU r h))
  have kf_54_1 : ρ10 54 1 = some 55 := by rw [eρ10, r2_at, if_pos rfl, if_neg (by decide)]; exact kf_54_1
  have kf_54_2 : ρ10 54 2 = some 56 := by rw [eρ10, r2_at, if_pos rfl, if_neg (by decide)]; exact kf_54_2
  have kf_54_3 : ρ10 54 3 = some 57 := by rw [eρ10, r2_at, if_pos rfl, if_neg (by decide)]; exact kf_54_3
  have kf_54_10 : ρ10 54 10 = some 58 := by rw [eρ10, r2_at, if_pos rfl, if_neg (by decide)]; exact kf_54_10
  have kf_54_11 : ρ10 54 11 = some 59 := by rw [eρ10, r2_at, if_pos rfl, if_pos rfl]
  have hR : RC 61 ρ10 := RC_grow hR (hB 60 (Nat.le_refl _)).2
  have hB : BL 61 σ ρ10 := BL_grow hB
  obtain ⟨ρ12, eρ12, hF⟩ := nm_1 hF
  have hR : RC 61 ρ12 := by rw [eρ12]; exact RC_put hR (by decide)
  have hB : BL 61 σ ρ12 := by rw [eρ12]; exact BL_r2 hB (by decide)
  have hU : ∀ r, r < 54 → ρ12 r = ρ r := fun r h => (congrFun eρ12 r).trans ((r2_ne r (by omega)).trans (hU r h))
  have kf_54_1 : ρ12 54 1 = some 55 := by rw [eρ12, r2_at, if_pos rfl, if_neg (by decide)]; exact kf_54_1
  have kf_54_2 : ρ12 54 2 = some 56 := by rw [eρ12, r2_at, if_pos rfl, if_neg (by decide)]; exact kf_54_2
  have kf_54_3 : ρ12 54 3 = some 57 := by rw [eρ12, r2_at, if_pos rfl, if_neg (by decide)]; exact kf_54_3
  have kf_54_10 : ρ12 54 10 = some 58 := by rw [eρ12, r2_at, if_pos rfl, if_neg (by decide)]; exact kf_54_10
  have kf_54_11 : ρ12 54 11 = some 59 := by rw [eρ12, r2_at, if_pos rfl, if_neg (by decide)]; exact kf_54_11
  have kf_54_22 : ρ12 54 22 = some 60 := by rw [eρ12, r2_at, if_pos rfl, if_pos rfl]
  have hR : RC 62 ρ12 := RC_grow hR (hB 61 (Nat.le_refl _)).2
  have hB : BL 62 σ ρ12 := BL_grow hB
  obtain ⟨ρ14, eρ14, hF⟩ := nm_1 hF
  have hR : RC 62 ρ14 := by rw [eρ14]; exact RC_put hR (by decide)
  have hB : BL 62 σ ρ14 := by rw [eρ14]; exact BL_r2 hB (by decide)
  have hU : ∀ r, r < 54 → ρ14 r = ρ r := fun r h => (congrFun eρ14 r).trans ((r2_ne r (by omega)).trans (hU r h))
  have kf_54_1 : ρ14 54 1 = some 55 := by rw [eρ14, r2_at, if_pos rfl, if_neg (by decide)]; exact kf_54_1
  have kf_54_2 : ρ14 54 2 = some 56 := by rw [eρ14, r2_at, if_pos rfl, if_neg (by decide)]; exact kf_54_2
  have kf_54_3 : ρ14 54 3 = some 57 := by rw [eρ14, r2_at, if_pos rfl, if_neg (by decide)]; exact kf_54_3
  have kf_54_10 : ρ14 54 10 = some 58 := by rw [eρ14, r2_at, if_pos rfl, if_neg (by decide)]; exact kf_54_10
  have kf_54_11 : ρ14 54 11 = some 59 := by rw [eρ14, r2_at, if_pos rfl, if_neg (by decide)]; exact kf_54_11
  have kf_54_22 : ρ14 54 22 = some 60 := by rw [eρ14, r2_at, if_pos rfl, if_neg (by decide)]; exact kf_54_22
  have kf_54_23 : ρ14 54 23 = some 61 := by rw [eρ14, r2_at, if_pos rfl, if_pos rfl]
  have hR : RC 63 ρ14 := RC_grow hR (hB 62 (Nat.le_refl _)).2
  have hB : BL 63 σ ρ14 := BL_grow hB
  obtain ⟨ρ16, eρ16, hF⟩ := nm_1 hF
  have hR : RC 63 ρ16 := by rw [eρ16]; exact RC_put hR (by decide)
  have hB : BL 63 σ ρ16 := by rw [eρ16]; exact BL_r2 hB (by decide)
  have hU : ∀ r, r < 54 → ρ16 r = ρ r := fun r h => (congrFun eρ16 r).trans ((r2_ne r (by omega)).trans (hU r h))
  have kf_54_1 : ρ16 54 1 = some 55 := by rw [eρ16, r2_at, if_pos rfl, if_neg (by decide)]; exact kf_54_1
  have kf_54_2 : ρ16 54 2 = some 56 := by rw [eρ16, r2_at, if_pos rfl, if_neg (by decide)]; exact kf_54_2
  have kf_54_3 : ρ16 54 3 = some 57 := by rw [eρ16, r2_at, if_pos rfl, if_neg (by decide)]; exact kf_54_3
  have kf_54_10 : ρ16 54 10 = some 58 := by rw [eρ16, r2_at, if_pos rfl, if_neg (by decide)]; exact kf_54_10
  have kf_54_11 : ρ16 54 11 = some 59 := by rw [eρ16, r2_at, if_pos rfl, if_neg (by decide)]; exact kf_54_11
  have kf_54_22 : ρ16 54 22 = some 60 := by rw [eρ16, r2_at, if_pos rfl, if_neg (by decide)]; exact kf_54_22
  have kf_54_23 : ρ16 54 23 = some 61 := by rw [eρ16, r2_at, if_pos rfl, if_neg (by decide)]; exact kf_54_23
  have kf_54_24 : ρ16 54 24 = some 62 := by rw [eρ16, r2_at, if_pos rfl, if_pos rfl]
  have hR : RC 64 ρ16 := RC_grow hR (hB 63 (Nat.le_refl _)).2
  have hB : BL 64 σ ρ16 := BL_grow hB
  obtain ⟨ρ18, eρ18, hF⟩ := nm_1 hF
  have hR : RC 64 ρ18 := by rw [eρ18]; exact RC_put hR (by decide)
  have hB : BL 64 σ ρ18 := by rw [eρ18]; exact BL_r2 hB (by decide)
  have hU : ∀ r, r < 54 → ρ18 r = ρ r := fun r h => (congrFun eρ18 r).trans ((r2_ne r (by omega)).trans (hU r h))
  have kf_54_1 : ρ18 54 1 = some 55 := by rw [eρ18, r2_at, if_pos rfl, if_neg (by decide)]; exact kf_54_1
  have kf_54_2 : ρ18 54 2 = some 56 := by rw [eρ18, r2_at, if_pos rfl, if_neg (by decide)]; exact kf_54_2
  have kf_54_3 : ρ18 54 3 = some 57 := by rw [eρ18, r2_at, if_pos rfl, if_neg (by decide)]; exact kf_54_3
  have kf_54_10 : ρ18 54 10 = some 58 := by rw [eρ18, r2_at, if_pos rfl, if_neg (by decide)]; exact kf_54_10
  have kf_54_11 : ρ18 54 11 = some 59 := by rw [eρ18, r2_at, if_pos rfl, if_neg (by decide)]; exact kf_54_11
  have kf_54_22 : ρ18 54 22 = some 60 := by rw [eρ18, r2_at, if_pos rfl, if_neg (by decide)]; exact kf_54_22
  have kf_54_23 : ρ18 54 23 = some 61 := by rw [eρ18, r2_at, if_pos rfl, if_neg (by decide)]; exact kf_54_23
  have kf_54_24 : ρ18 54 24 = some 62 := by rw [eρ18, r2_at, if_pos rfl, if_neg (by decide)]; exact kf_54_24
  have kf_54_27 : ρ18 54 27 = some 63 := by rw [eρ18, r2_at, if_pos rfl, if_pos rfl]
  have hR : RC 65 ρ18 := RC_grow hR (hB 64 (Nat.le_refl _)).2
  have hB : BL 65 σ ρ18 := BL_grow hB
  obtain ⟨ρ20, eρ20, hF⟩ := nm_1 hF
  have hR : RC 65 ρ20 := by rw [eρ20]; exact RC_put hR (by decide)
  have hB : BL 65 σ ρ20 := by rw [eρ20]; exact BL_r2 hB (by decide)
  have hU : ∀ r, r < 54 → ρ20 r = ρ r := fun r h => (congrFun eρ20 r).trans ((r2_ne r (by omega)).trans (hU r h))
  have kf_54_1 : ρ20 54 1 = some 55 := by rw [eρ20, r2_at, if_pos rfl, if_neg (by decide)]; exact kf_54_1
  have kf_54_2 : ρ20 54 2 = some 56 := by rw [eρ20, r2_at, if_pos rfl, if_neg (by decide)]; exact kf_54_2
  have kf_54_3 : ρ20 54 3 = some 57 := by rw [eρ20, r2_at, if_pos rfl, if_neg (by decide)]; exact kf_54_3
  have kf_54_10 : ρ20 54 10 = some 58 := by rw [eρ20, r2_at, if_pos rfl, if_neg (by decide)]; exact kf_54_10
  have kf_54_11 : ρ20 54 11 = some 59 := by rw [eρ20, r2_at, if_pos rfl, if_neg (by decide)]; exact kf_54_11
  have kf_54_22 : ρ20 54 22 = some 60 := by rw [eρ20, r2_at, if_pos rfl, if_neg (by decide)]; exact kf_54_22
  have kf_54_23 : ρ20 54 23 = some 61 := by rw [eρ20, r2_at, if_pos rfl, if_neg (by decide)]; exact kf_54_23
  have kf_54_24 : ρ20 54 24 = some 62 := by rw [eρ20, r2_at, if_pos rfl, if_neg (by decide)]; exact kf_54_24
  have kf_54_27 : ρ20 54 27 = some 63 := by rw [eρ20, r2_at, if_pos rfl, if_neg (by decide)]; exact kf_54_27
  have kf_54_29 : ρ20 54 29 = some 64 := by rw [eρ20, r2_at, if_pos rfl, if_pos rfl]
  obtain ⟨σ21, eσ21, hF⟩ := nm_1 hF
  have hB : BL 65 σ21 ρ20 := by rw [eσ21]; exact BL_s2 hB (by decide)
  obtain ⟨σ22, eσ22, hF⟩ := nm_1 hF
  have hB : BL 65 σ22 ρ20 := by rw [eσ22]; exact BL_s2 hB (by decide)
  obtain ⟨σ23, eσ23, hF⟩ := nm_1 hF
  have hB : BL 65 σ23 ρ20 := by rw [eσ23]; exact BL_s2 hB (by decide)
  obtain ⟨rfl, rfl⟩ := ret_2 hF
  refine ⟨hR, hB, hU, fun q hq => ?_⟩
  simp only [List.mem_cons, List.not_mem_nil, or_false] at hq
  rcases hq with rfl | rfl | rfl | rfl | rfl | rfl | rfl | rfl | rfl | rfl
  · exact kf_54_1
  · exact kf_54_2
  · exact kf_54_3
  · exact kf_54_10
  · exact kf_54_11
  · exact kf_54_22
  · exact kf_54_23
  · exact kf_54_24
  · exact kf_54_27
  · exact kf_54_29
set_option maxHeartbeats 8000000 in
set_option maxRecDepth 100000 in
theorem c_X12_init_54  {σ σ1 : SG} {ρ ρ1 : RG} (hKL : LK K len) (hR : RC 55 ρ) (hB : BL 55 σ ρ) (hF : F_X12_init_54 σ ρ = some (σ1, ρ1)) : MC l Y D 55 ad K len yX12_init (Cond.code yX12_init cX12_init 1 none :: wsL_law) rm_X12_init_54 [.ref (ad 54)] σ ρ (fun _ => none) 65 K len σ1 ρ1 10 2001 := by
  refine mc_of (cc := cX12_init) (nL := 1) (ret := none) (by decide) (Nat.le_of_ble_eq_true rfl) ?_
  intro p e s m args below meth c ls C hnm hP hS hl
  have hx := C.1.1
  have hb := C.1.2.1
  have hl : lv_has ls 1 [(0, .ref (ad 54))] := hl
  have hEE : ∀ r, r < 55 → ad r = ad r := fun _ _ => rfl
  have hAA : AA 55 ad s.heap.size = AA 55 ad s.heap.size := rfl
  have hU : ∀ r, r < 54 → ρ r = ρ r := fun _ _ => rfl
  unfold F_X12_init_54 at hF
  refine lv_aload_n hx hb dX12_init_0 rfl (lv_at hl 0 rfl) ?_
  refine x_obj C hl.1 mw_80 mw_10 mw_11 dX12_init_1 (Nat.le_of_ble_eq_true rfl) (Nat.le_of_ble_eq_true rfl) ?_
  refine lv_aload_n hx hb dX12_init_4 rfl (lv_at hl 0 rfl) ?_
  refine lv_sipush (v := 909) hx hb dX12_init_5 (by decide +kernel) ?_
  refine x_newa (atype := .int) (ty := .int) (t := 14) (y := 1) rfl (fun _ h => by cases h) rfl rfl (fun _ _ _ _ => rfl) C hP hS hR (kk_55 hKL) (kn_55 hKL) (hB 55 (Nat.le_refl _)) mw_27 (by decide) cl_909 (Nat.le_of_ble_eq_true rfl) (Nat.le_of_ble_eq_true rfl) (Nat.le_of_ble_eq_true rfl) dX12_init_8 (fun ad1 H hE hA C hP hS => ?_)
  rw [← hE 54 (by decide)]
  rw [← hE 54 (by decide)] at hl
  have hEE : ∀ r, r < 55 → ad1 r = ad r := fun r h => (hE r (by omega)).trans (hEE r h)
  have hAA := hA.trans hAA
  have C : Cx Y D 56 ad1 p s m args meth c cX12_init 1 none RX12 wsL_law := C
  have hP : WP Y D 56 ad1 K len σ ρ _ := hP
  have hS : va_S (AA 56 ad1 s.heap.size) s.heap _ _ := hS
  have hR : RC 56 ρ := RC_grow hR (hB 55 (Nat.le_refl _)).2
  have hB : BL 56 σ ρ := BL_grow hB
  obtain ⟨ρ2, eρ2, hF⟩ := nm_1 hF
  refine put_12_1 C hP hS (by decide) (kk_54 hKL) inlX12 mw_81 ⟨hnm, rfl⟩ eρ2 dX12_init_10 (fun H locs hP hS => ?_)
  have hR : RC 56 ρ2 := by rw [eρ2]; exact RC_put hR (by decide)
  have hB : BL 56 σ ρ2 := by rw [eρ2]; exact BL_r2 hB (by decide)
  have hU : ∀ r, r < 54 → ρ2 r = ρ r := fun r h => (congrFun eρ2 r).trans ((r2_ne r (by omega)).trans (hU r h))
  have kf_54_1 : ρ2 54 1 = some 55 := by rw [eρ2, r2_at, if_pos rfl, if_pos rfl]
  refine lv_aload_n hx hb dX12_init_13 rfl (lv_at hl 0 rfl) ?_
  refine lv_sipush (v := 909) hx hb dX12_init_14 (by decide +kernel) ?_
  refine x_newa (atype := .int) (ty := .int) (t := 14) (y := 1) rfl (fun _ h => by cases h) rfl rfl (fun _ _ _ _ => rfl) C hP hS hR (kk_56 hKL) (kn_56 hKL) (hB 56 (Nat.le_refl _)) mw_27 (by decide) cl_909 (Nat.le_of_ble_eq_true rfl) (Nat.le_of_ble_eq_true rfl) (Nat.le_of_ble_eq_true rfl) dX12_init_17 (fun ad3 H hE hA C hP hS => ?_)
  rw [← hE 54 (by decide)]
  rw [← hE 54 (by decide)] at hl
  have hEE : ∀ r, r < 55 → ad3 r = ad r := fun r h => (hE r (by omega)).trans (hEE r h)
  have hAA := hA.trans hAA
  have C : Cx Y D 57 ad3 p s m args meth c cX12_init 1 none RX12 wsL_law := C
  have hP : WP Y D 57 ad3 K len σ ρ2 _ := hP
  have hS : va_S (AA 57 ad3 s.heap.size) s.heap _ _ := hS
  have hR : RC 57 ρ2 := RC_grow hR (hB 56 (Nat.le_refl _)).2
  have hB : BL 57 σ ρ2 := BL_grow hB
  obtain ⟨ρ4, eρ4, hF⟩ := nm_1 hF
  refine put_12_2 C hP hS (by decide) (kk_54 hKL) inlX12 mw_82 ⟨hnm, rfl⟩ eρ4 dX12_init_19 (fun H locs hP hS => ?_)
  have hR : RC 57 ρ4 := by rw [eρ4]; exact RC_put hR (by decide)
  have hB : BL 57 σ ρ4 := by rw [eρ4]; exact BL_r2 hB (by decide)
  have hU : ∀ r, r < 54 → ρ4 r = ρ r := fun r h => (congrFun eρ4 r).trans ((r2_ne r (by omega)).trans (hU r h))
  have kf_54_1 : ρ4 54 1 = some 55 := by rw [eρ4, r2_at, if_pos rfl, if_neg (by decide)]; exact kf_54_1
  have kf_54_2 : ρ4 54 2 = some 56 := by rw [eρ4, r2_at, if_pos rfl, if_pos rfl]
  refine lv_aload_n hx hb dX12_init_22 rfl (lv_at hl 0 rfl) ?_
  refine lv_bipush (v := 11) hx hb dX12_init_23 (by decide +kernel) ?_
  refine x_newa (atype := .int) (ty := .int) (t := 14) (y := 1) rfl (fun _ h => by cases h) rfl rfl (fun _ _ _ _ => rfl) C hP hS hR (kk_57 hKL) (kn_57 hKL) (hB 57 (Nat.le_refl _)) mw_27 (by decide) cl_11 (Nat.le_of_ble_eq_true rfl) (Nat.le_of_ble_eq_true rfl) (Nat.le_of_ble_eq_true rfl) dX12_init_25 (fun ad5 H hE hA C hP hS => ?_)
  rw [← hE 54 (by decide)]
  rw [← hE 54 (by decide)] at hl
  have hEE : ∀ r, r < 55 → ad5 r = ad r := fun r h => (hE r (by omega)).trans (hEE r h)
  have hAA := hA.trans hAA
  have C : Cx Y D 58 ad5 p s m args meth c cX12_init 1 none RX12 wsL_law := C
  have hP : WP Y D 58 ad5 K len σ ρ4 _ := hP
  have hS : va_S (AA 58 ad5 s.heap.size) s.heap _ _ := hS
  have hR : RC 58 ρ4 := RC_grow hR (hB 57 (Nat.le_refl _)).2
  have hB : BL 58 σ ρ4 := BL_grow hB
  obtain ⟨ρ6, eρ6, hF⟩ := nm_1 hF
  refine put_12_3 C hP hS (by decide) (kk_54 hKL) inlX12 mw_83 ⟨hnm, rfl⟩ eρ6 dX12_init_27 (fun H locs hP hS => ?_)
  have hR : RC 58 ρ6 := by rw [eρ6]; exact RC_put hR (by decide)
  have hB : BL 58 σ ρ6 := by rw [eρ6]; exact BL_r2 hB (by decide)
  have hU : ∀ r, r < 54 → ρ6 r = ρ r := fun r h => (congrFun eρ6 r).trans ((r2_ne r (by omega)).trans (hU r h))
  have kf_54_1 : ρ6 54 1 = some 55 := by rw [eρ6, r2_at, if_pos rfl, if_neg (by decide)]; exact kf_54_1
  have kf_54_2 : ρ6 54 2 = some 56 := by rw [eρ6, r2_at, if_pos rfl, if_neg (by decide)]; exact kf_54_2
  have kf_54_3 : ρ6 54 3 = some 57 := by rw [eρ6, r2_at, if_pos rfl, if_pos rfl]
  refine lv_aload_n hx hb dX12_init_30 rfl (lv_at hl 0 rfl) ?_
  refine lv_bipush (v := 6) hx hb dX12_init_31 (by decide +kernel) ?_
  refine x_newa (atype := .int) (ty := .int) (t := 14) (y := 1) rfl (fun _ h => by cases h) rfl rfl (fun _ _ _ _ => rfl) C hP hS hR (kk_58 hKL) (kn_58 hKL) (hB 58 (Nat.le_refl _)) mw_27 (by decide) cl_6 (Nat.le_of_ble_eq_true rfl) (Nat.le_of_ble_eq_true rfl) (Nat.le_of_ble_eq_true rfl) dX12_init_33 (fun ad7 H hE hA C hP hS => ?_)
  rw [← hE 54 (by decide)]
  rw [← hE 54 (by decide)] at hl
  have hEE : ∀ r, r < 55 → ad7 r = ad r := fun r h => (hE r (by omega)).trans (hEE r h)
  have hAA := hA.trans hAA
  have C : Cx Y D 59 ad7 p s m args meth c cX12_init 1 none RX12 wsL_law := C
  have hP : WP Y D 59 ad7 K len σ ρ6 _ := hP
  have hS : va_S (AA 59 ad7 s.heap.size) s.heap _ _ := hS
  have hR : RC 59 ρ6 := RC_grow hR (hB 58 (Nat.le_refl _)).2
  have hB : BL 59 σ ρ6 := BL_grow hB
  obtain ⟨ρ8, eρ8, hF⟩ := nm_1 hF
  refine put_12_10 C hP hS (by decide) (kk_54 hKL) inlX12 mw_84 ⟨hnm, rfl⟩ eρ8 dX12_init_35 (fun H locs hP hS => ?_)
  have hR : RC 59 ρ8 := by rw [eρ8]; exact RC_put hR (by decide)
  have hB : BL 59 σ ρ8 := by rw [eρ8]; exact BL_r2 hB (by decide)
  have hU : ∀ r, r < 54 → ρ8 r = ρ r := fun r h => (congrFun eρ8 r).trans ((r2_ne r (by omega)).trans (hU r h))
  have kf_54_1 : ρ8 54 1 = some 55 := by rw [eρ8, r2_at, if_pos rfl, if_neg (by decide)]; exact kf_54_1
  have kf_54_2 : ρ8 54 2 = some 56 := by rw [eρ8, r2_at, if_pos rfl, if_neg (by decide)]; exact kf_54_2
  have kf_54_3 : ρ8 54 3 = some 57 := by rw [eρ8, r2_at, if_pos rfl, if_neg (by decide)]; exact kf_54_3
  have kf_54_10 : ρ8 54 10 = some 58 := by rw [eρ8, r2_at, if_pos rfl, if_pos rfl]
  refine lv_aload_n hx hb dX12_init_38 rfl (lv_at hl 0 rfl) ?_
  refine lv_bipush (v := 64) hx hb dX12_init_39 (by decide +kernel) ?_
  refine x_newa (atype := .boolean) (ty := .boolean) (t := 15) (y := 2) rfl (fun _ h => by cases h) rfl rfl (fun _ _ _ _ => rfl) C hP hS hR (kk_59 hKL) (kn_59 hKL) (hB 59 (Nat.le_refl _)) mw_58 (by decide) cl_64 (Nat.le_of_ble_eq_true rfl) (Nat.le_of_ble_eq_true rfl) (Nat.le_of_ble_eq_true rfl) dX12_init_41 (fun ad9 H hE hA C hP hS => ?_)
  rw [← hE 54 (by decide)]
  rw [← hE 54 (by decide)] at hl
  have hEE : ∀ r, r < 55 → ad9 r = ad r := fun r h => (hE r (by omega)).trans (hEE r h)
  have hAA := hA.trans hAA
  have C : Cx Y D 60 ad9 p s m args meth c cX12_init 1 none RX12 wsL_law := C
  have hP : WP Y D 60 ad9 K len σ ρ8 _ := hP
  have hS : va_S (AA 60 ad9 s.heap.size) s.heap _ _ := hS
  have hR : RC 60 ρ8 := RC_grow hR (hB 59 (Nat.le_refl _)).2
  have hB : BL 60 σ ρ8 := BL_grow hB
  obtain ⟨ρ10, eρ10, hF⟩ := nm_1 hF
  refine put_12_11 C hP hS (by decide) (kk_54 hKL) inlX12 mw_85 ⟨hnm, rfl⟩ eρ10 dX12_init_43 (fun H locs hP hS => ?_)
  have hR : RC 60 ρ10 := by rw [eρ10]; exact RC_put hR (by decide)
  have hB : BL 60 σ ρ10 := by rw [eρ10]; exact BL_r2 hB (by decide)
  have hU : ∀ r, r < 54 → ρ10 r = ρ r := fun r h => (congrFun eρ10 r).trans ((r2_ne r (by omega)).trans (hU r h))
  have kf_54_1 : ρ10 54 1 = some 55 := by rw [eρ10, r2_at, if_pos rfl, if_neg (by decide)]; exact kf_54_1
  have kf_54_2 : ρ10 54 2 = some 56 := by rw [eρ10, r2_at, if_pos rfl, if_neg (by decide)]; exact kf_54_2
  have kf_54_3 : ρ10 54 3 = some 57 := by rw [eρ10, r2_at, if_pos rfl, if_neg (by decide)]; exact kf_54_3
  have kf_54_10 : ρ10 54 10 = some 58 := by rw [eρ10, r2_at, if_pos rfl, if_neg (by decide)]; exact kf_54_10
  have kf_54_11 : ρ10 54 11 = some 59 := by rw [eρ10, r2_at, if_pos rfl, if_pos rfl]
  refine lv_aload_n hx hb dX12_init_46 rfl (lv_at hl 0 rfl) ?_
  refine lv_bipush (v := 66) hx hb dX12_init_47 (by decide +kernel) ?_
  refine x_newa (atype := .int) (ty := .int) (t := 14) (y := 1) rfl (fun _ h => by cases h) rfl rfl (fun _ _ _ _ => rfl) C hP hS hR (kk_60 hKL) (kn_60 hKL) (hB 60 (Nat.le_refl _)) mw_27 (by decide) cl_66 (Nat.le_of_ble_eq_true rfl) (Nat.le_of_ble_eq_true rfl) (Nat.le_of_ble_eq_true rfl) dX12_init_49 (fun ad11 H hE hA C hP hS => ?_)
  rw [← hE 54 (by decide)]
  rw [← hE 54 (by decide)] at hl
  have hEE : ∀ r, r < 55 → ad11 r = ad r := fun r h => (hE r (by omega)).trans (hEE r h)
  have hAA := hA.trans hAA
  have C : Cx Y D 61 ad11 p s m args meth c cX12_init 1 none RX12 wsL_law := C
  have hP : WP Y D 61 ad11 K len σ ρ10 _ := hP
  have hS : va_S (AA 61 ad11 s.heap.size) s.heap _ _ := hS
  have hR : RC 61 ρ10 := RC_grow hR (hB 60 (Nat.le_refl _)).2
  have hB : BL 61 σ ρ10 := BL_grow hB
  obtain ⟨ρ12, eρ12, hF⟩ := nm_1 hF
  refine put_12_22 C hP hS (by decide) (kk_54 hKL) inlX12 mw_86 ⟨hnm, rfl⟩ eρ12 dX12_init_51 (fun H locs hP hS => ?_)
  have hR : RC 61 ρ12 := by rw [eρ12]; exact RC_put hR (by decide)
  have hB : BL 61 σ ρ12 := by rw [eρ12]; exact BL_r2 hB (by decide)
  have hU : ∀ r, r < 54 → ρ12 r = ρ r := fun r h => (congrFun eρ12 r).trans ((r2_ne r (by omega)).trans (hU r h))
  have kf_54_1 : ρ12 54 1 = some 55 := by rw [eρ12, r2_at, if_pos rfl, if_neg (by decide)]; exact kf_54_1
  have kf_54_2 : ρ12 54 2 = some 56 := by rw [eρ12, r2_at, if_pos rfl, if_neg (by decide)]; exact kf_54_2
  have kf_54_3 : ρ12 54 3 = some 57 := by rw [eρ12, r2_at, if_pos rfl, if_neg (by decide)]; exact kf_54_3
  have kf_54_10 : ρ12 54 10 = some 58 := by rw [eρ12, r2_at, if_pos rfl, if_neg (by decide)]; exact kf_54_10
  have kf_54_11 : ρ12 54 11 = some 59 := by rw [eρ12, r2_at, if_pos rfl, if_neg (by decide)]; exact kf_54_11
  have kf_54_22 : ρ12 54 22 = some 60 := by rw [eρ12, r2_at, if_pos rfl, if_pos rfl]
  refine lv_aload_n hx hb dX12_init_54 rfl (lv_at hl 0 rfl) ?_
  refine lv_iconst (v := 5) hx hb dX12_init_55 (by decide) ?_
  refine x_newa (atype := .int) (ty := .int) (t := 14) (y := 1) rfl (fun _ h => by cases h) rfl rfl (fun _ _ _ _ => rfl) C hP hS hR (kk_61 hKL) (kn_61 hKL) (hB 61 (Nat.le_refl _)) mw_27 (by decide) cl_5 (Nat.le_of_ble_eq_true rfl) (Nat.le_of_ble_eq_true rfl) (Nat.le_of_ble_eq_true rfl) dX12_init_56 (fun ad13 H hE hA C hP hS => ?_)
  rw [← hE 54 (by decide)]
  rw [← hE 54 (by decide)] at hl
  have hEE : ∀ r, r < 55 → ad13 r = ad r := fun r h => (hE r (by omega)).trans (hEE r h)
  have hAA := hA.trans hAA
  have C : Cx Y D 62 ad13 p s m args meth c cX12_init 1 none RX12 wsL_law := C
  have hP : WP Y D 62 ad13 K len σ ρ12 _ := hP
  have hS : va_S (AA 62 ad13 s.heap.size) s.heap _ _ := hS
  have hR : RC 62 ρ12 := RC_grow hR (hB 61 (Nat.le_refl _)).2
  have hB : BL 62 σ ρ12 := BL_grow hB
  obtain ⟨ρ14, eρ14, hF⟩ := nm_1 hF
  refine put_12_23 C hP hS (by decide) (kk_54 hKL) inlX12 mw_87 ⟨hnm, rfl⟩ eρ14 dX12_init_58 (fun H locs hP hS => ?_)
  have hR : RC 62 ρ14 := by rw [eρ14]; exact RC_put hR (by decide)
  have hB : BL 62 σ ρ14 := by rw [eρ14]; exact BL_r2 hB (by decide)
  have hU : ∀ r, r < 54 → ρ14 r = ρ r := fun r h => (congrFun eρ14 r).trans ((r2_ne r (by omega)).trans (hU r h))
  have kf_54_1 : ρ14 54 1 = some 55 := by rw [eρ14, r2_at, if_pos rfl, if_neg (by decide)]; exact kf_54_1
  have kf_54_2 : ρ14 54 2 = some 56 := by rw [eρ14, r2_at, if_pos rfl, if_neg (by decide)]; exact kf_54_2
  have kf_54_3 : ρ14 54 3 = some 57 := by rw [eρ14, r2_at, if_pos rfl, if_neg (by decide)]; exact kf_54_3
  have kf_54_10 : ρ14 54 10 = some 58 := by rw [eρ14, r2_at, if_pos rfl, if_neg (by decide)]; exact kf_54_10
  have kf_54_11 : ρ14 54 11 = some 59 := by rw [eρ14, r2_at, if_pos rfl, if_neg (by decide)]; exact kf_54_11
  have kf_54_22 : ρ14 54 22 = some 60 := by rw [eρ14, r2_at, if_pos rfl, if_neg (by decide)]; exact kf_54_22
  have kf_54_23 : ρ14 54 23 = some 61 := by rw [eρ14, r2_at, if_pos rfl, if_pos rfl]
  refine lv_aload_n hx hb dX12_init_61 rfl (lv_at hl 0 rfl) ?_
  refine lv_iconst (v := 5) hx hb dX12_init_62 (by decide) ?_
  refine x_newa (atype := .int) (ty := .int) (t := 14) (y := 1) rfl (fun _ h => by cases h) rfl rfl (fun _ _ _ _ => rfl) C hP hS hR (kk_62 hKL) (kn_62 hKL) (hB 62 (Nat.le_refl _)) mw_27 (by decide) cl_5 (Nat.le_of_ble_eq_true rfl) (Nat.le_of_ble_eq_true rfl) (Nat.le_of_ble_eq_true rfl) dX12_init_63 (fun ad15 H hE hA C hP hS => ?_)
  rw [← hE 54 (by decide)]
  rw [← hE 54 (by decide)] at hl
  have hEE : ∀ r, r < 55 → ad15 r = ad r := fun r h => (hE r (by omega)).trans (hEE r h)
  have hAA := hA.trans hAA
  have C : Cx Y D 63 ad15 p s m args meth c cX12_init 1 none RX12 wsL_law := C
  have hP : WP Y D 63 ad15 K len σ ρ14 _ := hP
  have hS : va_S (AA 63 ad15 s.heap.size) s.heap _ _ := hS
  have hR : RC 63 ρ14 := RC_grow hR (hB 62 (Nat.le_refl _)).2
  have hB : BL 63 σ ρ14 := BL_grow hB
  obtain ⟨ρ16, eρ16, hF⟩ := nm_1 hF
  refine put_12_24 C hP hS (by decide) (kk_54 hKL) inlX12 mw_88 ⟨hnm, rfl⟩ eρ16 dX12_init_65 (fun H locs hP hS => ?_)
  have hR : RC 63 ρ16 := by rw [eρ16]; exact RC_put hR (by decide)
  have hB : BL 63 σ ρ16 := by rw [eρ16]; exact BL_r2 hB (by decide)
  have hU : ∀ r, r < 54 → ρ16 r = ρ r := fun r h => (congrFun eρ16 r).trans ((r2_ne r (by omega)).trans (hU r h))
  have kf_54_1 : ρ16 54 1 = some 55 := by rw [eρ16, r2_at, if_pos rfl, if_neg (by decide)]; exact kf_54_1
  have kf_54_2 : ρ16 54 2 = some 56 := by rw [eρ16, r2_at, if_pos rfl, if_neg (by decide)]; exact kf_54_2
  have kf_54_3 : ρ16 54 3 = some 57 := by rw [eρ16, r2_at, if_pos rfl, if_neg (by decide)]; exact kf_54_3
  have kf_54_10 : ρ16 54 10 = some 58 := by rw [eρ16, r2_at, if_pos rfl, if_neg (by decide)]; exact kf_54_10
  have kf_54_11 : ρ16 54 11 = some 59 := by rw [eρ16, r2_at, if_pos rfl, if_neg (by decide)]; exact kf_54_11
  have kf_54_22 : ρ16 54 22 = some 60 := by rw [eρ16, r2_at, if_pos rfl, if_neg (by decide)]; exact kf_54_22
  have kf_54_23 : ρ16 54 23 = some 61 := by rw [eρ16, r2_at, if_pos rfl, if_neg (by decide)]; exact kf_54_23
  have kf_54_24 : ρ16 54 24 = some 62 := by rw [eρ16, r2_at, if_pos rfl, if_pos rfl]
  refine lv_aload_n hx hb dX12_init_68 rfl (lv_at hl 0 rfl) ?_
  refine lv_bipush (v := 6) hx hb dX12_init_69 (by decide +kernel) ?_
  refine x_newa (atype := .int) (ty := .int) (t := 14) (y := 1) rfl (fun _ h => by cases h) rfl rfl (fun _ _ _ _ => rfl) C hP hS hR (kk_63 hKL) (kn_63 hKL) (hB 63 (Nat.le_refl _)) mw_27 (by decide) cl_6 (Nat.le_of_ble_eq_true rfl) (Nat.le_of_ble_eq_true rfl) (Nat.le_of_ble_eq_true rfl) dX12_init_71 (fun ad17 H hE hA C hP hS => ?_)
  rw [← hE 54 (by decide)]
  rw [← hE 54 (by decide)] at hl
  have hEE : ∀ r, r < 55 → ad17 r = ad r := fun r h => (hE r (by omega)).trans (hEE r h)
  have hAA := hA.trans hAA
  have C : Cx Y D 64 ad17 p s m args meth c cX12_init 1 none RX12 wsL_law := C
  have hP : WP Y D 64 ad17 K len σ ρ16 _ := hP
  have hS : va_S (AA 64 ad17 s.heap.size) s.heap _ _ := hS
  have hR : RC 64 ρ16 := RC_grow hR (hB 63 (Nat.le_refl _)).2
  have hB : BL 64 σ ρ16 := BL_grow hB
  obtain ⟨ρ18, eρ18, hF⟩ := nm_1 hF
  refine put_12_27 C hP hS (by decide) (kk_54 hKL) inlX12 mw_89 ⟨hnm, rfl⟩ eρ18 dX12_init_73 (fun H locs hP hS => ?_)
  have hR : RC 64 ρ18 := by rw [eρ18]; exact RC_put hR (by decide)
  have hB : BL 64 σ ρ18 := by rw [eρ18]; exact BL_r2 hB (by decide)
  have hU : ∀ r, r < 54 → ρ18 r = ρ r := fun r h => (congrFun eρ18 r).trans ((r2_ne r (by omega)).trans (hU r h))
  have kf_54_1 : ρ18 54 1 = some 55 := by rw [eρ18, r2_at, if_pos rfl, if_neg (by decide)]; exact kf_54_1
  have kf_54_2 : ρ18 54 2 = some 56 := by rw [eρ18, r2_at, if_pos rfl, if_neg (by decide)]; exact kf_54_2
  have kf_54_3 : ρ18 54 3 = some 57 := by rw [eρ18, r2_at, if_pos rfl, if_neg (by decide)]; exact kf_54_3
  have kf_54_10 : ρ18 54 10 = some 58 := by rw [eρ18, r2_at, if_pos rfl, if_neg (by decide)]; exact kf_54_10
  have kf_54_11 : ρ18 54 11 = some 59 := by rw [eρ18, r2_at, if_pos rfl, if_neg (by decide)]; exact kf_54_11
  have kf_54_22 : ρ18 54 22 = some 60 := by rw [eρ18, r2_at, if_pos rfl, if_neg (by decide)]; exact kf_54_22
  have kf_54_23 : ρ18 54 23 = some 61 := by rw [eρ18, r2_at, if_pos rfl, if_neg (by decide)]; exact kf_54_23
  have kf_54_24 : ρ18 54 24 = some 62 := by rw [eρ18, r2_at, if_pos rfl, if_neg (by decide)]; exact kf_54_24
  have kf_54_27 : ρ18 54 27 = some 63 := by rw [eρ18, r2_at, if_pos rfl, if_pos rfl]
  refine lv_aload_n hx hb dX12_init_76 rfl (lv_at hl 0 rfl) ?_
  refine lv_bipush (v := 20) hx hb dX12_init_77 (by decide +kernel) ?_
  refine x_newa (atype := .int) (ty := .int) (t := 14) (y := 1) rfl (fun _ h => by cases h) rfl rfl (fun _ _ _ _ => rfl) C hP hS hR (kk_64 hKL) (kn_64 hKL) (hB 64 (Nat.le_refl _)) mw_27 (by decide) cl_20 (Nat.le_of_ble_eq_true rfl) (Nat.le_of_ble_eq_true rfl) (Nat.le_of_ble_eq_true rfl) dX12_init_79 (fun ad19 H hE hA C hP hS => ?_)
  rw [← hE 54 (by decide)]
  rw [← hE 54 (by decide)] at hl
  have hEE : ∀ r, r < 55 → ad19 r = ad r := fun r h => (hE r (by omega)).trans (hEE r h)
  have hAA := hA.trans hAA
  have C : Cx Y D 65 ad19 p s m args meth c cX12_init 1 none RX12 wsL_law := C
  have hP : WP Y D 65 ad19 K len σ ρ18 _ := hP
  have hS : va_S (AA 65 ad19 s.heap.size) s.heap _ _ := hS
  have hR : RC 65 ρ18 := RC_grow hR (hB 64 (Nat.le_refl _)).2
  have hB : BL 65 σ ρ18 := BL_grow hB
  obtain ⟨ρ20, eρ20, hF⟩ := nm_1 hF
  refine put_12_29 C hP hS (by decide) (kk_54 hKL) inlX12 mw_90 ⟨hnm, rfl⟩ eρ20 dX12_init_81 (fun H locs hP hS => ?_)
  have hR : RC 65 ρ20 := by rw [eρ20]; exact RC_put hR (by decide)
  have hB : BL 65 σ ρ20 := by rw [eρ20]; exact BL_r2 hB (by decide)
  have hU : ∀ r, r < 54 → ρ20 r = ρ r := fun r h => (congrFun eρ20 r).trans ((r2_ne r (by omega)).trans (hU r h))
  have kf_54_1 : ρ20 54 1 = some 55 := by rw [eρ20, r2_at, if_pos rfl, if_neg (by decide)]; exact kf_54_1
  have kf_54_2 : ρ20 54 2 = some 56 := by rw [eρ20, r2_at, if_pos rfl, if_neg (by decide)]; exact kf_54_2
  have kf_54_3 : ρ20 54 3 = some 57 := by rw [eρ20, r2_at, if_pos rfl, if_neg (by decide)]; exact kf_54_3
  have kf_54_10 : ρ20 54 10 = some 58 := by rw [eρ20, r2_at, if_pos rfl, if_neg (by decide)]; exact kf_54_10
  have kf_54_11 : ρ20 54 11 = some 59 := by rw [eρ20, r2_at, if_pos rfl, if_neg (by decide)]; exact kf_54_11
  have kf_54_22 : ρ20 54 22 = some 60 := by rw [eρ20, r2_at, if_pos rfl, if_neg (by decide)]; exact kf_54_22
  have kf_54_23 : ρ20 54 23 = some 61 := by rw [eρ20, r2_at, if_pos rfl, if_neg (by decide)]; exact kf_54_23
  have kf_54_24 : ρ20 54 24 = some 62 := by rw [eρ20, r2_at, if_pos rfl, if_neg (by decide)]; exact kf_54_24
  have kf_54_27 : ρ20 54 27 = some 63 := by rw [eρ20, r2_at, if_pos rfl, if_neg (by decide)]; exact kf_54_27
  have kf_54_29 : ρ20 54 29 = some 64 := by rw [eρ20, r2_at, if_pos rfl, if_pos rfl]
  refine lv_aload_n hx hb dX12_init_84 rfl (lv_at hl 0 rfl) ?_
  refine get_12_1 C hP (by decide) (kk_54 hKL) inlX12 mw_81 kf_54_1 dX12_init_85 ?_
  refine lv_bipush (v := 16) hx hb dX12_init_88 (by decide +kernel) ?_
  refine lv_iconst (v := -1) hx hb dX12_init_90 (by decide) ?_
  obtain ⟨σ21, eσ21, hF⟩ := nm_1 hF
  refine x_iast (σ1 := σ21) C hP hS (by decide) (kk_55 hKL) (kn_55 hKL) (by decide +kernel) (by rw [cl_16]; exact eσ21) dX12_init_91 (fun H locs hP hS => ?_)
  have hB : BL 65 σ21 ρ20 := by rw [eσ21]; exact BL_s2 hB (by decide)
  refine lv_aload_n hx hb dX12_init_92 rfl (lv_at hl 0 rfl) ?_
  refine get_12_1 C hP (by decide) (kk_54 hKL) inlX12 mw_81 kf_54_1 dX12_init_93 ?_
  refine lv_bipush (v := 17) hx hb dX12_init_96 (by decide +kernel) ?_
  refine lv_sipush (v := 300) hx hb dX12_init_98 (by decide +kernel) ?_
  obtain ⟨σ22, eσ22, hF⟩ := nm_1 hF
  refine x_iast (σ1 := σ22) C hP hS (by decide) (kk_55 hKL) (kn_55 hKL) (by decide +kernel) (by rw [cl_17]; exact eσ22) dX12_init_101 (fun H locs hP hS => ?_)
  have hB : BL 65 σ22 ρ20 := by rw [eσ22]; exact BL_s2 hB (by decide)
  refine lv_aload_n hx hb dX12_init_102 rfl (lv_at hl 0 rfl) ?_
  refine get_12_1 C hP (by decide) (kk_54 hKL) inlX12 mw_81 kf_54_1 dX12_init_103 ?_
  refine lv_iconst (v := 0) hx hb dX12_init_106 (by decide) ?_
  refine lv_sipush (v := 300) hx hb dX12_init_107 (by decide +kernel) ?_
  obtain ⟨σ23, eσ23, hF⟩ := nm_1 hF
  refine x_iast (σ1 := σ23) C hP hS (by decide) (kk_55 hKL) (kn_55 hKL) (by decide +kernel) (by rw [cl_0]; exact eσ23) dX12_init_110 (fun H locs hP hS => ?_)
  have hB : BL 65 σ23 ρ20 := by rw [eσ23]; exact BL_s2 hB (by decide)
  obtain ⟨rfl, rfl⟩ := ret_2 hF
  exact x_cret rfl hEE hAA C hP hS dX12_init_111
end GEN
