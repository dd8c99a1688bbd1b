/-! PART 62.start: printed by wip/gen -/
section GEN
variable {l : Launch} {Y : YT} {D : va_G} {N : Nat} {ad K len : Nat → Nat}
theorem dL_law_0 : decode cL_law 0 = .ok (.new 7, 3) := by decide +kernel
theorem dL_law_3 : decode cL_law 3 = .ok (.dup, 1) := by decide +kernel
theorem dL_law_4 : decode cL_law 4 = .ok (.invokespecial 9, 3) := by decide +kernel
theorem dL_law_7 : decode cL_law 7 = .ok (.astore_n 1, 1) := by decide +kernel
theorem dL_law_8 : decode cL_law 8 = .ok (.new 10, 3) := by decide +kernel
theorem dL_law_11 : decode cL_law 11 = .ok (.dup, 1) := by decide +kernel
theorem dL_law_12 : decode cL_law 12 = .ok (.invokespecial 12, 3) := by decide +kernel
theorem dL_law_15 : decode cL_law 15 = .ok (.astore_n 2, 1) := by decide +kernel
theorem dL_law_16 : decode cL_law 16 = .ok (.iconst 0, 1) := by decide +kernel
theorem dL_law_17 : decode cL_law 17 = .ok (.istore_n 3, 1) := by decide +kernel
theorem nwM_in : ∀ q ∈ nwM, Cond.methodLinkNest q.1 q.2.1 q.2.2.1 q.2.2.2 ∈ lw_tbl := by decide +kernel
theorem nwC_in : ∀ q ∈ nwC, Cond.castable q.1 q.2 ∈ lw_tbl := by decide +kernel
theorem nwN_in : ∀ q ∈ nwN, Cond.not (Cond.castable q.1 q.2) ∈ flatC (Jvm.Cond.and given_1 narrow_1) := by decide +kernel
theorem nwO_in : Cond.arrayOver (.object "CutCrooked$Cutter") ∈ lw_tbl ∧ Cond.arrayOver (.object "CutCrooked$Loaf") ∈ lw_tbl := by decide +kernel
theorem NZ_at {b : Nat} {s : State} (hts : ∀ w ∈ lw_tbl, w.before #[Value.ref b] s = true) (hgv : (Jvm.Cond.and given_1 narrow_1).before #[Value.ref b] s = true) : NZ s :=
  ⟨fun q hq => va_Nw.of rfl (hts _ (nwM_in q hq)), fun q hq => va_Nw.of rfl (hts _ (nwC_in q hq)), fun q hq => va_Nc.of (flat_of_before _ hgv _ (nwN_in q hq)), va_AO.of (hts _ nwO_in.1), va_AO.of (hts _ nwO_in.2)⟩
theorem arr_at {s : State} {A : Array Value} {ty : FieldType} (h : (Cond.arrayClass ty).before A s = true) (hne : ∀ C : String, ty ≠ .object C) : ∃ cA : ClassId, ArrOfT s cA ty ∧ va_RA s cA ty := by
  obtain ⟨c, k, comp, h1, h2, h3⟩ := Cond.arrayClass_spec h
  refine ⟨c, fun n z => ⟨fun k h => (by cases h), k, h2, comp, h3⟩, ?_⟩
  cases ty <;> first | exact absurd rfl (hne _) | exact h1
theorem arq_at {s : State} {C : String} (h : va_AO C s) : ∃ cA : ClassId, ArrOfT s cA (.object C) ∧ va_RA s cA (.object C) := by
  obtain ⟨comp, c, k, h1, h2, h3, h4, h5⟩ := Cond.arrayOver_spec h
  exact ⟨c, fun n z => ⟨fun k h => (by cases h), k, h3, comp, h4⟩, k, comp, h3, h4, h1, h5⟩
def kS : List Nat := [78, 90, 92, 98, 116, 124]
def kM : List Nat := [111, 117, 119, 124, 93, 99]
def tmS (i : Nat) : Term := Term.string "CutCrooked$Board" (kS.getD i 0)
def tmM (i : Nat) : Term := Term.string "CutCrookedModel" (kM.getD i 0)
theorem st_ex : ∀ i, i < 6 → Cond.exactly (tmS i) "java/lang/String" ∈ flatC (Jvm.Cond.and given_1 narrow_1) := by decide +kernel
theorem st_co : ∀ i, i < 6 → Cond.eq (.field (tmS i) "java/lang/String" "coder" "B") (.int 0) ∈ flatC (Jvm.Cond.and given_1 narrow_1) := by decide +kernel
theorem st_ar : ∀ i, i < 6 → Cond.arrayOf (.field (tmS i) "java/lang/String" "value" "[B") .byte ∈ flatC (Jvm.Cond.and given_1 narrow_1) := by decide +kernel
theorem st_le : ∀ i, i < 6 → Cond.eq (.length (.field (tmS i) "java/lang/String" "value" "[B")) (.int (Int32.ofNat (sLen.getD i 0))) ∈ flatC (Jvm.Cond.and given_1 narrow_1) := by decide +kernel
theorem st_el : ∀ i, i < 6 → ∀ j, j < sLen.getD i 0 → Cond.eq (.elem (.field (tmS i) "java/lang/String" "value" "[B") (.int (Int32.ofNat j))) (.int ((sByt.getD i []).getD j 0)) ∈ flatC (Jvm.Cond.and given_1 narrow_1) := by decide +kernel
theorem st_ne : ∀ i, i < 6 → ∀ j, j < 6 → i ≠ j → Cond.not (Cond.eq (tmS i) (tmS j)) ∈ flatC (Jvm.Cond.and given_1 narrow_1) ∨ Cond.not (Cond.eq (tmS j) (tmS i)) ∈ flatC (Jvm.Cond.and given_1 narrow_1) := by decide +kernel
theorem st_eq : ∀ i, i < 6 → Cond.eq (tmS i) (tmM i) ∈ flatC (Jvm.Cond.and given_1 narrow_1) := by decide +kernel
theorem st_rf : ∀ q ∈ scL, Cond.stringRef q.1 q.2.1 q.2.2.1 ∈ lw_tbl := by decide +kernel
theorem st_tm : ∀ q ∈ scL, q.2.2.2 < 6 ∧ (Term.string q.1 q.2.1 = tmS q.2.2.2 ∨ Term.string q.1 q.2.1 = tmM q.2.2.2) := by
  intro q hq
  simp only [scL, List.mem_cons, List.not_mem_nil, or_false] at hq
  rcases hq with rfl | rfl | rfl | rfl | rfl | rfl | rfl | rfl | rfl | rfl | rfl | rfl <;> first | exact ⟨by decide, Or.inl rfl⟩ | exact ⟨by decide, Or.inr rfl⟩
theorem st_stat : Cond.laysStatic "java/lang/String" "COMPACT_STRINGS" "Z" ∈ lw_tbl ∧ Cond.initialized "java/lang/String" ∈ lw_tbl ∧ Cond.laysStatic "jdk/internal/util/Preconditions" "SIOOBE_FORMATTER" "Ljava/util/function/BiFunction;" ∈ lw_tbl ∧ Cond.initialized "jdk/internal/util/Preconditions" ∈ lw_tbl := by decide +kernel
theorem st_val : Cond.eq (.static "java/lang/String" "COMPACT_STRINGS" "Z") (.int 1) ∈ flatC (Jvm.Cond.and given_1 narrow_1) ∧ Cond.isRef (.static "jdk/internal/util/Preconditions" "SIOOBE_FORMATTER" "Ljava/util/function/BiFunction;") ∈ flatC (Jvm.Cond.and given_1 narrow_1) := by decide +kernel
theorem st_W : ∀ w ∈ nwW, w ∈ lw_tbl := by decide +kernel
theorem st_eqR {args : Array Value} {s : State} {t u : Term} {a : Nat} (h : (Cond.eq t u).before args s = true) (ht : t.eval args s none [] s = some (.ref a)) : u.eval args s none [] s = some (.ref a) := by
  cases hv : u.eval args s none [] s with
  | none => simp [Cond.before, Cond.holds, Cond.value, ht, hv] at h
  | some w =>
    simp only [Cond.before, Cond.holds, Cond.value, ht, hv] at h
    cases w <;> simp_all
theorem SZ_at {b : Nat} {s : State} (hts : ∀ w ∈ lw_tbl, w.before #[Value.ref b] s = true) (hgv : (Jvm.Cond.and given_1 narrow_1).before #[Value.ref b] s = true) : ∃ fK fV : Nat → Nat, ∀ Y : YT, saK Y = fK → saV Y = fV → SZ Y 0 (fun _ => 0) s := by
  have hf := flat_of_before _ hgv
  have hA : ∀ a : Nat, a < s.heap.size → ¬ AA 0 (fun _ => 0) s.heap.size a := by
    rintro a ha (⟨r, hr, -⟩ | h)
    · exact absurd hr (Nat.not_lt_zero _)
    · omega
  obtain ⟨fK, fV, h1, h2⟩ := vk_Sof (args := #[Value.ref b]) (s := s) (N := 6) (tm := tmS) (len := sLen) (byt := sByt) (A := AA 0 (fun _ => 0) s.heap.size) (by decide) (fun i hi => hf _ (st_ex i hi)) (fun i hi => hf _ (st_co i hi)) (fun i hi => hf _ (st_ar i hi)) (fun i hi => hf _ (st_le i hi)) (fun i hi j hj => hf _ (st_el i hi j hj)) (fun i j hi hj hij => (st_ne i hi j hj hij).imp (hf _) (hf _)) hA
  refine ⟨fK, fV, fun Y e1 e2 => ?_⟩
  unfold SZ
  rw [e1, e2]
  refine ⟨h1, fun q hq => ?_, va_Zof (hts _ st_stat.1) (hts _ st_stat.2.1) (va_eqt (hf _ st_val.1)) hA, va_Zqof (hts _ st_stat.2.2.1) (hts _ st_stat.2.2.2) (hf _ st_val.2) hA, fun w hw => va_Nw.of (Bool.and_eq_true_iff.mp (nwW_ok w hw)).1 (hts _ (st_W w hw))⟩
  obtain ⟨hi, ht⟩ := st_tm q hq
  refine vk_R.of (hts _ (st_rf q hq)) ?_
  rcases ht with ht | ht <;> rw [ht]
  · exact h2 _ hi
  · exact st_eqR (hf _ (st_eq _ hi)) (h2 _ hi)
set_option maxRecDepth 100000 in
theorem K_at {b : Nat} {s : State} (fK fV : Nat → Nat) (hts : ∀ w ∈ wsL_law, w.before #[Value.ref b] s = true) (hZ : NZ s) : ∃ (Y : YT) (D : va_G), va_K D vwCl (tysY Y) s ∧ saK Y = fK ∧ saV Y = fV := by
  obtain ⟨c0, i0, k0⟩ := u_known (C := RX0) (T := TX0) (N := 12) (n := 12) hts inlX0 (hts _ mw_22)
  obtain ⟨c1, i1, k1⟩ := u_known (C := RX1) (T := TX1) (N := 6) (n := 6) hts inlX1 (hts _ mw_379)
  obtain ⟨c2, i2, k2⟩ := u_known (C := RX2) (T := TX2) (N := 6) (n := 6) hts inlX2 (hts _ mw_367)
  obtain ⟨c3, i3, k3⟩ := u_known (C := RX3) (T := TX3) (N := 10) (n := 10) hts inlX3 (hts _ mw_30)
  obtain ⟨c4, i4, k4⟩ := u_known (C := RX4) (T := TX4) (N := 6) (n := 6) hts inlX4 (hts _ mw_373)
  obtain ⟨c5, i5, k5⟩ := u_known (C := RX5) (T := TX5) (N := 6) (n := 6) hts inlX5 (hts _ mw_370)
  obtain ⟨c6, i6, k6⟩ := u_known (C := RX6) (T := TX6) (N := 6) (n := 6) hts inlX6 (hts _ mw_364)
  obtain ⟨c7, i7, k7⟩ := u_known (C := RX7) (T := TX7) (N := 6) (n := 6) hts inlX7 (hts _ mw_361)
  obtain ⟨c8, i8, k8⟩ := u_known (C := RX8) (T := TX8) (N := 14) (n := 14) hts inlX8 (hts _ mw_13)
  obtain ⟨c9, i9, k9⟩ := u_known (C := RX9) (T := TX9) (N := 7) (n := 7) hts inlX9 (hts _ mw_376)
  obtain ⟨c10, i10, k10⟩ := u_known (C := RX10) (T := TX10) (N := 2) (n := 2) hts inlX10 (hts _ mw_18)
  obtain ⟨c11, i11, k11⟩ := u_known (C := RX11) (T := TX11) (N := 15) (n := 15) hts inlX11 (hts _ mw_1)
  obtain ⟨c12, i12, k12⟩ := u_known (C := RX12) (T := TX12) (N := 34) (n := 34) hts inlX12 (hts _ mw_4)
  obtain ⟨yb, ab⟩ := arr_at (ty := .byte) (hts _ mw_44) (fun _ h => by cases h)
  obtain ⟨yi, ai⟩ := arr_at (ty := .int) (hts _ mw_27) (fun _ h => by cases h)
  obtain ⟨yz, az⟩ := arr_at (ty := .boolean) (hts _ mw_58) (fun _ h => by cases h)
  obtain ⟨yc, ac⟩ := arq_at hZ.2.2.2.1
  obtain ⟨yl, al⟩ := arq_at hZ.2.2.2.2
  refine ⟨(yb, yi, yz, yc, yl, fK, fV), (fun k => if k = 0 then c0 else if k = 1 then c1 else if k = 2 then c2 else if k = 3 then c3 else if k = 4 then c4 else if k = 5 then c5 else if k = 6 then c6 else if k = 7 then c7 else if k = 8 then c8 else if k = 9 then c9 else if k = 10 then c10 else if k = 11 then c11 else c12, fun k => if k = 0 then i0 else if k = 1 then i1 else if k = 2 then i2 else if k = 3 then i3 else if k = 4 then i4 else if k = 5 then i5 else if k = 6 then i6 else if k = 7 then i7 else if k = 8 then i8 else if k = 9 then i9 else if k = 10 then i10 else if k = 11 then i11 else i12), ⟨?_, ?_⟩, rfl, rfl⟩
  · intro k q hq
    match k, hq with
    | 0, hq => cases hq; exact k0
    | 1, hq => cases hq; exact k1
    | 2, hq => cases hq; exact k2
    | 3, hq => cases hq; exact k3
    | 4, hq => cases hq; exact k4
    | 5, hq => cases hq; exact k5
    | 6, hq => cases hq; exact k6
    | 7, hq => cases hq; exact k7
    | 8, hq => cases hq; exact k8
    | 9, hq => cases hq; exact k9
    | 10, hq => cases hq; exact k10
    | 11, hq => cases hq; exact k11
    | 12, hq => cases hq; exact k12
    | k + 13, hq => simp [vwCl] at hq
  · intro k q hq
    match k, hq with
    | 0, hq => cases hq; exact ab
    | 1, hq => cases hq; exact ai
    | 2, hq => cases hq; exact az
    | 3, hq => cases hq; exact ac
    | 4, hq => cases hq; exact al
    | k + 5, hq => simp [tysY] at hq
def z0 : SG := fun _ _ => 0
def n0 : RG := fun _ _ => none
def ini1 : SG × RG := (F_X11_init_0 z0 n0).getD (z0, n0)
theorem ini1_eq : F_X11_init_0 z0 n0 = some (ini1.1, ini1.2) := rfl
def ini2 : SG × RG := (F_X12_init_54 ini1.1 ini1.2).getD (z0, n0)
theorem ini2_eq : F_X12_init_54 ini1.1 ini1.2 = some (ini2.1, ini2.2) := rfl
theorem LK0 : LK kind0 len0 := fun _ _ => ⟨rfl, rfl⟩
theorem BL0 : BL 1 z0 n0 := fun _ _ => ⟨rfl, rfl⟩
theorem RC0 : RC 1 n0 := fun _ _ _ _ h => by cases h
set_option maxRecDepth 100000 in
theorem ini_refs : ∀ q ∈ refsL, ini2.2 q.1 q.2.1 = some q.2.2 := by decide +kernel
theorem ini_Lay : Lay 65 kind0 len0 ini2.2 := ⟨Nat.le_refl _, fun _ _ => ⟨rfl, rfl⟩, ini_refs⟩
theorem ini1_k : RC 54 ini1.2 ∧ BL 54 ini1.1 ini1.2 := ⟨(k_X11_init_0 RC0 BL0 ini1_eq).1, (k_X11_init_0 RC0 BL0 ini1_eq).2.1⟩
theorem ini1_R : RC 55 ini1.2 := RC_grow ini1_k.1 (ini1_k.2 54 (Nat.le_refl _)).2
theorem ini1_B : BL 55 ini1.1 ini1.2 := BL_grow ini1_k.2
theorem ini2_k : RC 65 ini2.2 ∧ BL 65 ini2.1 ini2.2 := ⟨(k_X12_init_54 ini1_R ini1_B ini2_eq).1, (k_X12_init_54 ini1_R ini1_B ini2_eq).2.1⟩
set_option maxHeartbeats 8000000 in
set_option maxRecDepth 100000 in
theorem law_start {p : Program} {e : Env} {s : State} {m : MethodId} {below : List Frame} {meth : Method} {c : Code} {b L : Nat} {xs : Nat → Int32} (C0 : lw_At p s m meth c b L xs) (n : Nat) (hn1 : 14 * n ≤ 590000) (hn2 : 90 * n ≤ 6900000) (hF : F_L_18 xs L n 65 kind0 len0 ini2.1 ini2.2 0 = some ()) : W p l e room_1 s m #[Value.ref b] below meth c s.heap [] 0 0 (lw_Z below #[Value.ref b] s) (entryFrame m ([Value.ref b] : List Value).toArray 4) := by
  obtain ⟨hx, hb, hr, hml, hown, hts, hX, hbl, hlocks, hgv⟩ := id C0
  have htw : ∀ w ∈ wsL_law, w.before #[Value.ref b] s = true := fun w h => hts w (wsL_law_in w h)
  have hZ := NZ_at hts hgv
  obtain ⟨fK, fV, hSS⟩ := SZ_at hts hgv
  obtain ⟨Y, D, hK, e1, e2⟩ := K_at fK fV htw hZ
  have hSZ := hSS Y e1 e2
  have C : Cx Y D 0 (fun _ => 0) p s m #[Value.ref b] meth c cL_law 4 ret RL wsL_law := ⟨⟨hx, hb, hml, hown, htw⟩, hr, hlocks, hK, fun i j hi => absurd hi (Nat.not_lt_zero _), hZ, hSZ⟩
  have hP : WP Y D 0 (fun _ => 0) kind0 len0 z0 n0 s.heap := fun k q h => by simp [wl] at h
  have hS : va_S (AA 0 (fun _ => 0) s.heap.size) s.heap s.heap [] := va_S.rf
  have hAQ : AA 0 (fun _ => 0) s.heap.size = (fun q => s.heap.size ≤ q) := by
    funext q
    apply propext
    constructor
    · rintro (⟨r, hr, -⟩ | h)
      · exact absurd hr (Nat.not_lt_zero _)
      · exact h
    · exact Or.inr
  have hl := lv_entry ([.ref b]) (n := 4) (Nat.le_of_ble_eq_true rfl)
  rw [lg_entry_eq]
  generalize (lg_sl ([.ref b]) ++ List.replicate (4 - (lg_sl ([.ref b])).length) Slot.unset).toArray = ls at hl ⊢
  have hl : lv_has ls 4 [(0, .ref b)] := hl
  refine x_new (ci := 11) (fs := [.null, .null, .int 0, .null, .null, .null, .null, .null, .int 0, .int 0, .int 0, .null, .null, .int 0, .int 0]) tyX11_ok rfl rfl (fun _ => rfl) (fun j hj => by have : j < 15 := hj; revert j; decide) C hP hS (fun _ _ _ _ h => by cases h) rfl ⟨rfl, rfl⟩ inlX11 mw_0 mw_1 mw_2 (Nat.le_of_ble_eq_true rfl) (Nat.le_of_ble_eq_true rfl) dL_law_0 (fun ad1 H hE hA C hP hS => ?_)
  have hAQ := hA.trans hAQ
  have C : Cx Y D 1 ad1 p s m #[Value.ref b] meth c cL_law 4 ret RL wsL_law := C
  have hP : WP Y D 1 ad1 kind0 len0 z0 n0 H := hP
  have hS : va_S (AA 1 ad1 s.heap.size) s.heap H [] := hS
  refine lv_dup hx hb dL_law_3 rfl ?_
  refine x_callI (ws := (Cond.code yX11_init cX11_init 2 none :: wsL_law)) C hP hS (c_X11_init_0 LK0 RC0 BL0 ini1_eq) (cwI 0 C.1.2.2.2.2 (gdI mw_8) rfl rfl rfl (C.1.2.2.2.2 _ mw_2) (C.1.2.2.2.2 _ mw_6) (C.1.2.2.2.2 _ mw_7) rfl hd_X11_init.2 ⟨(Nat.le_of_ble_eq_true rfl), (Nat.le_of_ble_eq_true rfl)⟩) rfl rfl hl.1 (Nat.le_of_ble_eq_true rfl) ⟨(Nat.le_of_ble_eq_true rfl), (Nat.le_of_ble_eq_true rfl)⟩ dL_law_4 (fun ad2 H locs hE hA C hP hS => ?_)
  have hAQ := hA.trans hAQ
  rw [← hE 0 (by decide)]
  refine lv_astore_n (lv' := [(1, .ref (ad2 0)), (0, .ref b)]) hx hb dL_law_7 rfl hl (by decide) rfl (fun ls hl => ?_)
  refine x_new (ci := 12) (fs := [.int 0, .null, .null, .null, .int 0, .int 0, .int 0, .int 0, .int 0, .int 0, .null, .null, .int 0, .int 0, .int 0, .int 0, .int 0, .int 0, .int 0, .int 0, .int 0, .int 0, .null, .null, .null, .int 0, .int 0, .null, .int 0, .null, .int 0, .int 0, .int 0, .int 0]) tyX12_ok rfl rfl (fun _ => rfl) (fun j hj => by have : j < 34 := hj; revert j; decide) C hP hS ini1_k.1 rfl (ini1_k.2 54 (Nat.le_refl _)) inlX12 mw_3 mw_4 mw_5 (Nat.le_of_ble_eq_true rfl) (Nat.le_of_ble_eq_true rfl) dL_law_8 (fun ad3 H hE hA C hP hS => ?_)
  have hAQ := hA.trans hAQ
  rw [← hE 0 (by decide)] at hl
  have C : Cx Y D 55 ad3 p s m #[Value.ref b] meth c cL_law 4 ret RL wsL_law := C
  have hP : WP Y D 55 ad3 kind0 len0 ini1.1 ini1.2 H := hP
  have hS : va_S (AA 55 ad3 s.heap.size) s.heap H _ := hS
  refine lv_dup hx hb dL_law_11 rfl ?_
  refine x_callI (ws := (Cond.code yX12_init cX12_init 1 none :: wsL_law)) C hP hS (c_X12_init_54 LK0 ini1_R ini1_B ini2_eq) (cwI 0 C.1.2.2.2.2 (gdI mw_79) rfl rfl rfl (C.1.2.2.2.2 _ mw_5) (C.1.2.2.2.2 _ mw_77) (C.1.2.2.2.2 _ mw_78) rfl hd_X12_init.2 ⟨(Nat.le_of_ble_eq_true rfl), (Nat.le_of_ble_eq_true rfl)⟩) rfl rfl hl.1 (Nat.le_of_ble_eq_true rfl) ⟨(Nat.le_of_ble_eq_true rfl), (Nat.le_of_ble_eq_true rfl)⟩ dL_law_12 (fun ad4 H locs hE hA C hP hS => ?_)
  have hAQ := hA.trans hAQ
  rw [← hE 0 (by decide)] at hl
  rw [← hE 54 (by decide)]
  refine lv_astore_n (lv' := [(2, .ref (ad4 54)), (1, .ref (ad4 0)), (0, .ref b)]) hx hb dL_law_15 rfl hl (by decide) rfl (fun ls hl => ?_)
  refine lv_iconst (v := 0) hx hb dL_law_16 (by decide) ?_
  refine lv_istore_n (lv' := [(3, .int 0), (2, .ref (ad4 54)), (1, .ref (ad4 0)), (0, .ref b)]) hx hb dL_law_17 rfl hl (by decide) rfl (fun ls hl => ?_)
  refine W.widen (k := 100) (n := 6000) (Nat.le_of_ble_eq_true rfl) (Nat.le_of_ble_eq_true rfl) ?_
  exact wl_18 hX hbl n 65 ad4 kind0 len0 ini2.1 ini2.2 0 _ _ 100 6000 ls (by omega) (by omega) (by omega) (by omega) hF ini_Lay ini2_k.1 C hP hS hAQ (lv_sub hl [3, 2, 1, 0] rfl)
end GEN
