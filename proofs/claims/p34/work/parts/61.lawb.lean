/-! PART 61.lawb: printed by wip/gen -/
section GEN
variable {l : Launch} {Y : YT} {D : va_G} {N : Nat} {ad K len : Nat → Nat}
def F_L_18 (xs : Nat → Int32) (L : Nat) : Nat → Nat → (Nat → Nat) → (Nat → Nat) → SG → RG → Int32 → Option Unit
  | 0 => fun _ _ _ _ _ _ => none
  | n + 1 => fun N K len σ ρ v3 =>
  nm (Int32.ofNat L - (6 : Int32)) fun x1 =>
  if x1 < v3 then some () else
  gd (inb v3 L) <|
  nm (xs v3.toNatClampNeg &&& (63 : Int32)) fun x2 =>
  if x2 = 0 then F_L_204 xs L (F_L_18 xs L n) N K len σ ρ v3 else
  if x2 = 1 then F_L_227 xs L (F_L_18 xs L n) N K len σ ρ v3 else
  if x2 = 2 then F_L_240 xs L (F_L_18 xs L n) N K len σ ρ v3 else
  if x2 = 3 then F_L_303 xs L (F_L_18 xs L n) N K len σ ρ v3 else
  if x2 = 4 then F_L_336 xs L (F_L_18 xs L n) N K len σ ρ v3 else
  if x2 = 5 then F_L_369 xs L (F_L_18 xs L n) N K len σ ρ v3 else
  if x2 = 6 then F_L_412 xs L (F_L_18 xs L n) N K len σ ρ v3 else
  if x2 = 7 then F_L_435 xs L (F_L_18 xs L n) N K len σ ρ v3 else
  if x2 = 8 then F_L_458 xs L (F_L_18 xs L n) N K len σ ρ v3 else
  if x2 = 9 then F_L_481 xs L (F_L_18 xs L n) N K len σ ρ v3 else
  if x2 = 10 then F_L_494 xs L (F_L_18 xs L n) N K len σ ρ v3 else
  if x2 = 11 then F_L_533 xs L (F_L_18 xs L n) N K len σ ρ v3 else
  if x2 = 12 then F_L_566 xs L (F_L_18 xs L n) N K len σ ρ v3 else
  if x2 = 13 then F_L_599 xs L (F_L_18 xs L n) N K len σ ρ v3 else
  if x2 = 14 then F_L_632 xs L (F_L_18 xs L n) N K len σ ρ v3 else
  if x2 = 15 then F_L_645 xs L (F_L_18 xs L n) N K len σ ρ v3 else
  if x2 = 16 then F_L_668 xs L (F_L_18 xs L n) N K len σ ρ v3 else
  if x2 = 17 then F_L_681 xs L (F_L_18 xs L n) N K len σ ρ v3 else
  if x2 = 18 then F_L_704 xs L (F_L_18 xs L n) N K len σ ρ v3 else
  if x2 = 19 then F_L_737 xs L (F_L_18 xs L n) N K len σ ρ v3 else
  if x2 = 20 then F_L_760 xs L (F_L_18 xs L n) N K len σ ρ v3 else
  if x2 = 21 then F_L_783 xs L (F_L_18 xs L n) N K len σ ρ v3 else
  if x2 = 22 then F_L_816 xs L (F_L_18 xs L n) N K len σ ρ v3 else
  if x2 = 23 then F_L_869 xs L (F_L_18 xs L n) N K len σ ρ v3 else
  if x2 = 24 then F_L_902 xs L (F_L_18 xs L n) N K len σ ρ v3 else
  if x2 = 25 then F_L_935 xs L (F_L_18 xs L n) N K len σ ρ v3 else
  if x2 = 26 then F_L_948 xs L (F_L_18 xs L n) N K len σ ρ v3 else
  if x2 = 27 then F_L_971 xs L (F_L_18 xs L n) N K len σ ρ v3 else
  if x2 = 28 then F_L_984 xs L (F_L_18 xs L n) N K len σ ρ v3 else
  if x2 = 29 then F_L_1007 xs L (F_L_18 xs L n) N K len σ ρ v3 else
  if x2 = 30 then F_L_1040 xs L (F_L_18 xs L n) N K len σ ρ v3 else
  if x2 = 31 then F_L_1063 xs L (F_L_18 xs L n) N K len σ ρ v3 else
  if x2 = 32 then F_L_1096 xs L (F_L_18 xs L n) N K len σ ρ v3 else
  if x2 = 33 then F_L_1109 xs L (F_L_18 xs L n) N K len σ ρ v3 else
  if x2 = 34 then F_L_1152 xs L (F_L_18 xs L n) N K len σ ρ v3 else
  if x2 = 35 then F_L_1175 xs L (F_L_18 xs L n) N K len σ ρ v3 else
  if x2 = 36 then F_L_1208 xs L (F_L_18 xs L n) N K len σ ρ v3 else
  if x2 = 37 then F_L_1221 xs L (F_L_18 xs L n) N K len σ ρ v3 else
  if x2 = 38 then F_L_1234 xs L (F_L_18 xs L n) N K len σ ρ v3 else
  nm (v3 + (6 : Int32)) fun x3 =>
  F_L_18 xs L n N K len σ ρ x3
set_option maxHeartbeats 8000000 in
set_option maxRecDepth 100000 in
theorem wl_18 {p : Program} {e : Env} {s : State} {m : MethodId} {below : List Frame} {meth : Method} {c : Code} {b L : Nat} {xs : Nat → Int32} (hX : va_X b L xs s s.heap) (hbl : b < s.heap.size) : ∀ (n : Nat) (N : Nat) (ad K len : Nat → Nat) (σ : SG) (ρ : RG) (v3 : Int32) (H : Heap) (locs : List Loc) (cells slots : Nat) (ls : Array Slot), cells ≤ 599000 - 14 * n → slots ≤ 7301250 - 90 * n → 14 * n ≤ 590000 → 90 * n ≤ 7292250 → F_L_18 xs L n N K len σ ρ v3 = some () → Lay N K len ρ → RC N ρ → Cx Y D N ad p s m #[Value.ref b] meth c cL_law 4 ret RL wsL_law → WP Y D N ad K len σ ρ H → va_S (AA N ad s.heap.size) s.heap H locs → AA N ad s.heap.size = (fun q => s.heap.size ≤ q) → lv_has ls 4 [(0, .ref b), (1, .ref (ad 0)), (2, .ref (ad 54)), (3, .int v3)] → W p l e room_1 s m #[Value.ref b] below meth c H locs cells slots (lw_Z below #[Value.ref b] s) (F0 m 18 ls []) := by
  intro n
  induction n with
  | zero => intro N ad K len σ ρ v3 H locs cells slots ls hcc hss hn1 hn2 hF; cases hF
  | succ n ih =>
    intro N ad K len σ ρ v3 H locs cells slots ls hcc hss hn1 hn2 hF hL hR C hP hS hAQ hl
    have hx := C.1.1
    have hb := C.1.2.1
    have hbA : ¬ AA N ad s.heap.size b := by rw [hAQ]; exact Nat.not_le.mpr hbl
    unfold F_L_18 at hF
    refine lv_iload_n hx hb dL_law_18 rfl (lv_at hl 3 rfl) ?_
    refine lv_aload_n hx hb dL_law_19 rfl (lv_at hl 0 rfl) ?_
    refine va_slen hx hb hX hbl hbA hS dL_law_20 ?_
    refine lv_bipush (v := 6) hx hb dL_law_21 (by decide +kernel) ?_
    refine lv_isub hx hb dL_law_23 ?_
    obtain ⟨x1, ex1, hF⟩ := nm_1 hF
    refine x_top ex1 ?_
    refine lv_icmp_gt (tgt := 1263) hx hb dL_law_24 (by decide) (fun c_1 => ?_) (fun c_1 => ?_)
    · have hF := ite_t hF c_1
      refine lv_iconst (v := 1) hx hb dL_law_1263 (by decide) ?_
      refine W.widen (k := 600000) (n := 7302250) (by omega) (by omega) ?_
      refine va_forget (fun q hq => ?_) ?_
      · have h9 := hS.2.2 q hq
        rw [hAQ] at h9
        exact h9
      · exact lw_ret hx hb C.2.1 C.2.2.1 dL_law_1264
    · have hF := ite_f hF c_1
      obtain ⟨g1, hF⟩ := gd_1 hF
      refine lv_aload_n hx hb dL_law_27 rfl (lv_at hl 0 rfl) ?_
      refine lv_iload_n hx hb dL_law_28 rfl (lv_at hl 3 rfl) ?_
      refine va_sld hx hb hX hbl hbA hS (inb_in g1) dL_law_29 ?_
      refine lv_bipush (v := 63) hx hb dL_law_30 (by decide +kernel) ?_
      refine lv_iand hx hb dL_law_32 ?_
      obtain ⟨x2, ex2, hF⟩ := nm_1 hF
      refine x_top ex2 ?_
      have hrec := fun (N : Nat) (ad K len : Nat → Nat) (σ : SG) (ρ : RG) (v3 : Int32) (H : Heap) (locs : List Loc) (cells slots : Nat) (ls : Array Slot) (h1 : cells ≤ 599000 - 14 * n) (h2 : slots ≤ 7301250 - 90 * n) => ih N ad K len σ ρ v3 H locs cells slots ls h1 h2 (by omega) (by omega)
      by_cases cs_0 : x2 = 0
      · have hF := ite_t hF cs_0
        refine lv_tableIn (tgt := 204) hx hb dL_law_33 (by rw [cs_0]; decide) (by rw [cs_0]; decide) (by rw [cs_0]; rfl) (by decide) ?_
        exact wl_204 hX hbl hrec (by omega) (by omega) (by omega) (by omega) hF hL hR C hP hS hAQ hl
      have hF := ite_f hF cs_0
      by_cases cs_1 : x2 = 1
      · have hF := ite_t hF cs_1
        refine lv_tableIn (tgt := 227) hx hb dL_law_33 (by rw [cs_1]; decide) (by rw [cs_1]; decide) (by rw [cs_1]; rfl) (by decide) ?_
        exact wl_227 hX hbl hrec (by omega) (by omega) (by omega) (by omega) hF hL hR C hP hS hAQ hl
      have hF := ite_f hF cs_1
      by_cases cs_2 : x2 = 2
      · have hF := ite_t hF cs_2
        refine lv_tableIn (tgt := 240) hx hb dL_law_33 (by rw [cs_2]; decide) (by rw [cs_2]; decide) (by rw [cs_2]; rfl) (by decide) ?_
        exact wl_240 hX hbl hrec (by omega) (by omega) (by omega) (by omega) hF hL hR C hP hS hAQ hl
      have hF := ite_f hF cs_2
      by_cases cs_3 : x2 = 3
      · have hF := ite_t hF cs_3
        refine lv_tableIn (tgt := 303) hx hb dL_law_33 (by rw [cs_3]; decide) (by rw [cs_3]; decide) (by rw [cs_3]; rfl) (by decide) ?_
        exact wl_303 hX hbl hrec (by omega) (by omega) (by omega) (by omega) hF hL hR C hP hS hAQ hl
      have hF := ite_f hF cs_3
      by_cases cs_4 : x2 = 4
      · have hF := ite_t hF cs_4
        refine lv_tableIn (tgt := 336) hx hb dL_law_33 (by rw [cs_4]; decide) (by rw [cs_4]; decide) (by rw [cs_4]; rfl) (by decide) ?_
        exact wl_336 hX hbl hrec (by omega) (by omega) (by omega) (by omega) hF hL hR C hP hS hAQ hl
      have hF := ite_f hF cs_4
      by_cases cs_5 : x2 = 5
      · have hF := ite_t hF cs_5
        refine lv_tableIn (tgt := 369) hx hb dL_law_33 (by rw [cs_5]; decide) (by rw [cs_5]; decide) (by rw [cs_5]; rfl) (by decide) ?_
        exact wl_369 hX hbl hrec (by omega) (by omega) (by omega) (by omega) hF hL hR C hP hS hAQ hl
      have hF := ite_f hF cs_5
      by_cases cs_6 : x2 = 6
      · have hF := ite_t hF cs_6
        refine lv_tableIn (tgt := 412) hx hb dL_law_33 (by rw [cs_6]; decide) (by rw [cs_6]; decide) (by rw [cs_6]; rfl) (by decide) ?_
        exact wl_412 hX hbl hrec (by omega) (by omega) (by omega) (by omega) hF hL hR C hP hS hAQ hl
      have hF := ite_f hF cs_6
      by_cases cs_7 : x2 = 7
      · have hF := ite_t hF cs_7
        refine lv_tableIn (tgt := 435) hx hb dL_law_33 (by rw [cs_7]; decide) (by rw [cs_7]; decide) (by rw [cs_7]; rfl) (by decide) ?_
        exact wl_435 hX hbl hrec (by omega) (by omega) (by omega) (by omega) hF hL hR C hP hS hAQ hl
      have hF := ite_f hF cs_7
      by_cases cs_8 : x2 = 8
      · have hF := ite_t hF cs_8
        refine lv_tableIn (tgt := 458) hx hb dL_law_33 (by rw [cs_8]; decide) (by rw [cs_8]; decide) (by rw [cs_8]; rfl) (by decide) ?_
        exact wl_458 hX hbl hrec (by omega) (by omega) (by omega) (by omega) hF hL hR C hP hS hAQ hl
      have hF := ite_f hF cs_8
      by_cases cs_9 : x2 = 9
      · have hF := ite_t hF cs_9
        refine lv_tableIn (tgt := 481) hx hb dL_law_33 (by rw [cs_9]; decide) (by rw [cs_9]; decide) (by rw [cs_9]; rfl) (by decide) ?_
        exact wl_481 hX hbl hrec (by omega) (by omega) (by omega) (by omega) hF hL hR C hP hS hAQ hl
      have hF := ite_f hF cs_9
      by_cases cs_10 : x2 = 10
      · have hF := ite_t hF cs_10
        refine lv_tableIn (tgt := 494) hx hb dL_law_33 (by rw [cs_10]; decide) (by rw [cs_10]; decide) (by rw [cs_10]; rfl) (by decide) ?_
        exact wl_494 hX hbl hrec (by omega) (by omega) (by omega) (by omega) hF hL hR C hP hS hAQ hl
      have hF := ite_f hF cs_10
      by_cases cs_11 : x2 = 11
      · have hF := ite_t hF cs_11
        refine lv_tableIn (tgt := 533) hx hb dL_law_33 (by rw [cs_11]; decide) (by rw [cs_11]; decide) (by rw [cs_11]; rfl) (by decide) ?_
        exact wl_533 hX hbl hrec (by omega) (by omega) (by omega) (by omega) hF hL hR C hP hS hAQ hl
      have hF := ite_f hF cs_11
      by_cases cs_12 : x2 = 12
      · have hF := ite_t hF cs_12
        refine lv_tableIn (tgt := 566) hx hb dL_law_33 (by rw [cs_12]; decide) (by rw [cs_12]; decide) (by rw [cs_12]; rfl) (by decide) ?_
        exact wl_566 hX hbl hrec (by omega) (by omega) (by omega) (by omega) hF hL hR C hP hS hAQ hl
      have hF := ite_f hF cs_12
      by_cases cs_13 : x2 = 13
      · have hF := ite_t hF cs_13
        refine lv_tableIn (tgt := 599) hx hb dL_law_33 (by rw [cs_13]; decide) (by rw [cs_13]; decide) (by rw [cs_13]; rfl) (by decide) ?_
        exact wl_599 hX hbl hrec (by omega) (by omega) (by omega) (by omega) hF hL hR C hP hS hAQ hl
      have hF := ite_f hF cs_13
      by_cases cs_14 : x2 = 14
      · have hF := ite_t hF cs_14
        refine lv_tableIn (tgt := 632) hx hb dL_law_33 (by rw [cs_14]; decide) (by rw [cs_14]; decide) (by rw [cs_14]; rfl) (by decide) ?_
        exact wl_632 hX hbl hrec (by omega) (by omega) (by omega) (by omega) hF hL hR C hP hS hAQ hl
      have hF := ite_f hF cs_14
      by_cases cs_15 : x2 = 15
      · have hF := ite_t hF cs_15
        refine lv_tableIn (tgt := 645) hx hb dL_law_33 (by rw [cs_15]; decide) (by rw [cs_15]; decide) (by rw [cs_15]; rfl) (by decide) ?_
        exact wl_645 hX hbl hrec (by omega) (by omega) (by omega) (by omega) hF hL hR C hP hS hAQ hl
      have hF := ite_f hF cs_15
      by_cases cs_16 : x2 = 16
      · have hF := ite_t hF cs_16
        refine lv_tableIn (tgt := 668) hx hb dL_law_33 (by rw [cs_16]; decide) (by rw [cs_16]; decide) (by rw [cs_16]; rfl) (by decide) ?_
        exact wl_668 hX hbl hrec (by omega) (by omega) (by omega) (by omega) hF hL hR C hP hS hAQ hl
      have hF := ite_f hF cs_16
      by_cases cs_17 : x2 = 17
      · have hF := ite_t hF cs_17
        refine lv_tableIn (tgt := 681) hx hb dL_law_33 (by rw [cs_17]; decide) (by rw [cs_17]; decide) (by rw [cs_17]; rfl) (by decide) ?_
        exact wl_681 hX hbl hrec (by omega) (by omega) (by omega) (by omega) hF hL hR C hP hS hAQ hl
      have hF := ite_f hF cs_17
      by_cases cs_18 : x2 = 18
      · have hF := ite_t hF cs_18
        refine lv_tableIn (tgt := 704) hx hb dL_law_33 (by rw [cs_18]; decide) (by rw [cs_18]; decide) (by rw [cs_18]; rfl) (by decide) ?_
        exact wl_704 hX hbl hrec (by omega) (by omega) (by omega) (by omega) hF hL hR C hP hS hAQ hl
      have hF := ite_f hF cs_18
      by_cases cs_19 : x2 = 19
      · have hF := ite_t hF cs_19
        refine lv_tableIn (tgt := 737) hx hb dL_law_33 (by rw [cs_19]; decide) (by rw [cs_19]; decide) (by rw [cs_19]; rfl) (by decide) ?_
        exact wl_737 hX hbl hrec (by omega) (by omega) (by omega) (by omega) hF hL hR C hP hS hAQ hl
      have hF := ite_f hF cs_19
      by_cases cs_20 : x2 = 20
      · have hF := ite_t hF cs_20
        refine lv_tableIn (tgt := 760) hx hb dL_law_33 (by rw [cs_20]; decide) (by rw [cs_20]; decide) (by rw [cs_20]; rfl) (by decide) ?_
        exact wl_760 hX hbl hrec (by omega) (by omega) (by omega) (by omega) hF hL hR C hP hS hAQ hl
      have hF := ite_f hF cs_20
      by_cases cs_21 : x2 = 21
      · have hF := ite_t hF cs_21
        refine lv_tableIn (tgt := 783) hx hb dL_law_33 (by rw [cs_21]; decide) (by rw [cs_21]; decide) (by rw [cs_21]; rfl) (by decide) ?_
        exact wl_783 hX hbl hrec (by omega) (by omega) (by omega) (by omega) hF hL hR C hP hS hAQ hl
      have hF := ite_f hF cs_21
      by_cases cs_22 : x2 = 22
      · have hF := ite_t hF cs_22
        refine lv_tableIn (tgt := 816) hx hb dL_law_33 (by rw [cs_22]; decide) (by rw [cs_22]; decide) (by rw [cs_22]; rfl) (by decide) ?_
        exact wl_816 hX hbl hrec (by omega) (by omega) (by omega) (by omega) hF hL hR C hP hS hAQ hl
      have hF := ite_f hF cs_22
      by_cases cs_23 : x2 = 23
      · have hF := ite_t hF cs_23
        refine lv_tableIn (tgt := 869) hx hb dL_law_33 (by rw [cs_23]; decide) (by rw [cs_23]; decide) (by rw [cs_23]; rfl) (by decide) ?_
        exact wl_869 hX hbl hrec (by omega) (by omega) (by omega) (by omega) hF hL hR C hP hS hAQ hl
      have hF := ite_f hF cs_23
      by_cases cs_24 : x2 = 24
      · have hF := ite_t hF cs_24
        refine lv_tableIn (tgt := 902) hx hb dL_law_33 (by rw [cs_24]; decide) (by rw [cs_24]; decide) (by rw [cs_24]; rfl) (by decide) ?_
        exact wl_902 hX hbl hrec (by omega) (by omega) (by omega) (by omega) hF hL hR C hP hS hAQ hl
      have hF := ite_f hF cs_24
      by_cases cs_25 : x2 = 25
      · have hF := ite_t hF cs_25
        refine lv_tableIn (tgt := 935) hx hb dL_law_33 (by rw [cs_25]; decide) (by rw [cs_25]; decide) (by rw [cs_25]; rfl) (by decide) ?_
        exact wl_935 hX hbl hrec (by omega) (by omega) (by omega) (by omega) hF hL hR C hP hS hAQ hl
      have hF := ite_f hF cs_25
      by_cases cs_26 : x2 = 26
      · have hF := ite_t hF cs_26
        refine lv_tableIn (tgt := 948) hx hb dL_law_33 (by rw [cs_26]; decide) (by rw [cs_26]; decide) (by rw [cs_26]; rfl) (by decide) ?_
        exact wl_948 hX hbl hrec (by omega) (by omega) (by omega) (by omega) hF hL hR C hP hS hAQ hl
      have hF := ite_f hF cs_26
      by_cases cs_27 : x2 = 27
      · have hF := ite_t hF cs_27
        refine lv_tableIn (tgt := 971) hx hb dL_law_33 (by rw [cs_27]; decide) (by rw [cs_27]; decide) (by rw [cs_27]; rfl) (by decide) ?_
        exact wl_971 hX hbl hrec (by omega) (by omega) (by omega) (by omega) hF hL hR C hP hS hAQ hl
      have hF := ite_f hF cs_27
      by_cases cs_28 : x2 = 28
      · have hF := ite_t hF cs_28
        refine lv_tableIn (tgt := 984) hx hb dL_law_33 (by rw [cs_28]; decide) (by rw [cs_28]; decide) (by rw [cs_28]; rfl) (by decide) ?_
        exact wl_984 hX hbl hrec (by omega) (by omega) (by omega) (by omega) hF hL hR C hP hS hAQ hl
      have hF := ite_f hF cs_28
      by_cases cs_29 : x2 = 29
      · have hF := ite_t hF cs_29
        refine lv_tableIn (tgt := 1007) hx hb dL_law_33 (by rw [cs_29]; decide) (by rw [cs_29]; decide) (by rw [cs_29]; rfl) (by decide) ?_
        exact wl_1007 hX hbl hrec (by omega) (by omega) (by omega) (by omega) hF hL hR C hP hS hAQ hl
      have hF := ite_f hF cs_29
      by_cases cs_30 : x2 = 30
      · have hF := ite_t hF cs_30
        refine lv_tableIn (tgt := 1040) hx hb dL_law_33 (by rw [cs_30]; decide) (by rw [cs_30]; decide) (by rw [cs_30]; rfl) (by decide) ?_
        exact wl_1040 hX hbl hrec (by omega) (by omega) (by omega) (by omega) hF hL hR C hP hS hAQ hl
      have hF := ite_f hF cs_30
      by_cases cs_31 : x2 = 31
      · have hF := ite_t hF cs_31
        refine lv_tableIn (tgt := 1063) hx hb dL_law_33 (by rw [cs_31]; decide) (by rw [cs_31]; decide) (by rw [cs_31]; rfl) (by decide) ?_
        exact wl_1063 hX hbl hrec (by omega) (by omega) (by omega) (by omega) hF hL hR C hP hS hAQ hl
      have hF := ite_f hF cs_31
      by_cases cs_32 : x2 = 32
      · have hF := ite_t hF cs_32
        refine lv_tableIn (tgt := 1096) hx hb dL_law_33 (by rw [cs_32]; decide) (by rw [cs_32]; decide) (by rw [cs_32]; rfl) (by decide) ?_
        exact wl_1096 hX hbl hrec (by omega) (by omega) (by omega) (by omega) hF hL hR C hP hS hAQ hl
      have hF := ite_f hF cs_32
      by_cases cs_33 : x2 = 33
      · have hF := ite_t hF cs_33
        refine lv_tableIn (tgt := 1109) hx hb dL_law_33 (by rw [cs_33]; decide) (by rw [cs_33]; decide) (by rw [cs_33]; rfl) (by decide) ?_
        exact wl_1109 hX hbl hrec (by omega) (by omega) (by omega) (by omega) hF hL hR C hP hS hAQ hl
      have hF := ite_f hF cs_33
      by_cases cs_34 : x2 = 34
      · have hF := ite_t hF cs_34
        refine lv_tableIn (tgt := 1152) hx hb dL_law_33 (by rw [cs_34]; decide) (by rw [cs_34]; decide) (by rw [cs_34]; rfl) (by decide) ?_
        exact wl_1152 hX hbl hrec (by omega) (by omega) (by omega) (by omega) hF hL hR C hP hS hAQ hl
      have hF := ite_f hF cs_34
      by_cases cs_35 : x2 = 35
      · have hF := ite_t hF cs_35
        refine lv_tableIn (tgt := 1175) hx hb dL_law_33 (by rw [cs_35]; decide) (by rw [cs_35]; decide) (by rw [cs_35]; rfl) (by decide) ?_
        exact wl_1175 hX hbl hrec (by omega) (by omega) (by omega) (by omega) hF hL hR C hP hS hAQ hl
      have hF := ite_f hF cs_35
      by_cases cs_36 : x2 = 36
      · have hF := ite_t hF cs_36
        refine lv_tableIn (tgt := 1208) hx hb dL_law_33 (by rw [cs_36]; decide) (by rw [cs_36]; decide) (by rw [cs_36]; rfl) (by decide) ?_
        exact wl_1208 hX hbl hrec (by omega) (by omega) (by omega) (by omega) hF hL hR C hP hS hAQ hl
      have hF := ite_f hF cs_36
      by_cases cs_37 : x2 = 37
      · have hF := ite_t hF cs_37
        refine lv_tableIn (tgt := 1221) hx hb dL_law_33 (by rw [cs_37]; decide) (by rw [cs_37]; decide) (by rw [cs_37]; rfl) (by decide) ?_
        exact wl_1221 hX hbl hrec (by omega) (by omega) (by omega) (by omega) hF hL hR C hP hS hAQ hl
      have hF := ite_f hF cs_37
      by_cases cs_38 : x2 = 38
      · have hF := ite_t hF cs_38
        refine lv_tableIn (tgt := 1234) hx hb dL_law_33 (by rw [cs_38]; decide) (by rw [cs_38]; decide) (by rw [cs_38]; rfl) (by decide) ?_
        exact wl_1234 hX hbl hrec (by omega) (by omega) (by omega) (by omega) hF hL hR C hP hS hAQ hl
      have hF := ite_f hF cs_38
      refine lv_tableOut (tgt := 1257) hx hb dL_law_33 (by have q0 := ne_ti cs_0 (by decide : (0 : Int32).toInt = 0); have q1 := ne_ti cs_1 (by decide : (1 : Int32).toInt = 1); have q2 := ne_ti cs_2 (by decide : (2 : Int32).toInt = 2); have q3 := ne_ti cs_3 (by decide : (3 : Int32).toInt = 3); have q4 := ne_ti cs_4 (by decide : (4 : Int32).toInt = 4); have q5 := ne_ti cs_5 (by decide : (5 : Int32).toInt = 5); have q6 := ne_ti cs_6 (by decide : (6 : Int32).toInt = 6); have q7 := ne_ti cs_7 (by decide : (7 : Int32).toInt = 7); have q8 := ne_ti cs_8 (by decide : (8 : Int32).toInt = 8); have q9 := ne_ti cs_9 (by decide : (9 : Int32).toInt = 9); have q10 := ne_ti cs_10 (by decide : (10 : Int32).toInt = 10); have q11 := ne_ti cs_11 (by decide : (11 : Int32).toInt = 11); have q12 := ne_ti cs_12 (by decide : (12 : Int32).toInt = 12); have q13 := ne_ti cs_13 (by decide : (13 : Int32).toInt = 13); have q14 := ne_ti cs_14 (by decide : (14 : Int32).toInt = 14); have q15 := ne_ti cs_15 (by decide : (15 : Int32).toInt = 15); have q16 := ne_ti cs_16 (by decide : (16 : Int32).toInt = 16); have q17 := ne_ti cs_17 (by decide : (17 : Int32).toInt = 17); have q18 := ne_ti cs_18 (by decide : (18 : Int32).toInt = 18); have q19 := ne_ti cs_19 (by decide : (19 : Int32).toInt = 19); have q20 := ne_ti cs_20 (by decide : (20 : Int32).toInt = 20); have q21 := ne_ti cs_21 (by decide : (21 : Int32).toInt = 21); have q22 := ne_ti cs_22 (by decide : (22 : Int32).toInt = 22); have q23 := ne_ti cs_23 (by decide : (23 : Int32).toInt = 23); have q24 := ne_ti cs_24 (by decide : (24 : Int32).toInt = 24); have q25 := ne_ti cs_25 (by decide : (25 : Int32).toInt = 25); have q26 := ne_ti cs_26 (by decide : (26 : Int32).toInt = 26); have q27 := ne_ti cs_27 (by decide : (27 : Int32).toInt = 27); have q28 := ne_ti cs_28 (by decide : (28 : Int32).toInt = 28); have q29 := ne_ti cs_29 (by decide : (29 : Int32).toInt = 29); have q30 := ne_ti cs_30 (by decide : (30 : Int32).toInt = 30); have q31 := ne_ti cs_31 (by decide : (31 : Int32).toInt = 31); have q32 := ne_ti cs_32 (by decide : (32 : Int32).toInt = 32); have q33 := ne_ti cs_33 (by decide : (33 : Int32).toInt = 33); have q34 := ne_ti cs_34 (by decide : (34 : Int32).toInt = 34); have q35 := ne_ti cs_35 (by decide : (35 : Int32).toInt = 35); have q36 := ne_ti cs_36 (by decide : (36 : Int32).toInt = 36); have q37 := ne_ti cs_37 (by decide : (37 : Int32).toInt = 37); have q38 := ne_ti cs_38 (by decide : (38 : Int32).toInt = 38); omega) (by decide) ?_
      obtain ⟨x3, ex3, hF⟩ := nm_1 hF
      refine lv_iinc (v := x3) (lv' := [(3, .int x3), (0, .ref b), (1, .ref (ad 0)), (2, .ref (ad 54))]) hx hb dL_law_1257 hl (k := 3) rfl (by rw [ex3]; rfl) (by decide) rfl (fun ls hl => ?_)
      refine lv_goto (tgt := 18) hx hb dL_law_1260 (by decide) ?_
      exact hrec _ _ _ _ _ _ _ _ _ _ _ _ (by omega) (by omega) hF hL hR C hP hS hAQ (lv_sub hl [1, 2, 3, 0] rfl)
end GEN
