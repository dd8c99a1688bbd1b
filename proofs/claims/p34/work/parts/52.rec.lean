/-! PART 52.rec: printed by wip/gen -/
section GEN
variable {l : Launch} {Y : YT} {D : va_G} {N : Nat} {ad K len : Nat → Nat}
variable {fR lR : Nat}
/-! CutCrookedModel.private void ordersFrom(int, int, int); B -/
theorem dX12_ordersFrom_0 : decode cX12_ordersFrom 0 = .ok (.iload_n 1, 1) := by decide +kernel
theorem dX12_ordersFrom_1 : decode cX12_ordersFrom 1 = .ok (.aload_n 0, 1) := by decide +kernel
theorem dX12_ordersFrom_2 : decode cX12_ordersFrom 2 = .ok (.getfield 9, 3) := by decide +kernel
theorem dX12_ordersFrom_5 : decode cX12_ordersFrom 5 = .ok (.bipush 11, 2) := by decide +kernel
theorem dX12_ordersFrom_7 : decode cX12_ordersFrom 7 = .ok (.iaload, 1) := by decide +kernel
theorem dX12_ordersFrom_8 : decode cX12_ordersFrom 8 = .ok (.if_icmp .ne 46, 3) := by decide +kernel
theorem dX12_ordersFrom_11 : decode cX12_ordersFrom 11 = .ok (.iload_n 3, 1) := by decide +kernel
theorem dX12_ordersFrom_12 : decode cX12_ordersFrom 12 = .ok (.aload_n 0, 1) := by decide +kernel
theorem dX12_ordersFrom_13 : decode cX12_ordersFrom 13 = .ok (.getfield 214, 3) := by decide +kernel
theorem dX12_ordersFrom_16 : decode cX12_ordersFrom 16 = .ok (.if_icmp .ge 37, 3) := by decide +kernel
theorem dX12_ordersFrom_19 : decode cX12_ordersFrom 19 = .ok (.aload_n 0, 1) := by decide +kernel
theorem dX12_ordersFrom_20 : decode cX12_ordersFrom 20 = .ok (.iload_n 3, 1) := by decide +kernel
theorem dX12_ordersFrom_21 : decode cX12_ordersFrom 21 = .ok (.putfield 214, 3) := by decide +kernel
theorem dX12_ordersFrom_24 : decode cX12_ordersFrom 24 = .ok (.iconst 0, 1) := by decide +kernel
theorem dX12_ordersFrom_25 : decode cX12_ordersFrom 25 = .ok (.istore 4, 2) := by decide +kernel
theorem dX12_ordersFrom_27 : decode cX12_ordersFrom 27 = .ok (.iload 4, 2) := by decide +kernel
theorem dX12_ordersFrom_29 : decode cX12_ordersFrom 29 = .ok (.iload_n 1, 1) := by decide +kernel
theorem dX12_ordersFrom_30 : decode cX12_ordersFrom 30 = .ok (.if_icmp .ge 23, 3) := by decide +kernel
theorem dX12_ordersFrom_33 : decode cX12_ordersFrom 33 = .ok (.aload_n 0, 1) := by decide +kernel
theorem dX12_ordersFrom_34 : decode cX12_ordersFrom 34 = .ok (.getfield 34, 3) := by decide +kernel
theorem dX12_ordersFrom_37 : decode cX12_ordersFrom 37 = .ok (.iload 4, 2) := by decide +kernel
theorem dX12_ordersFrom_39 : decode cX12_ordersFrom 39 = .ok (.aload_n 0, 1) := by decide +kernel
theorem dX12_ordersFrom_40 : decode cX12_ordersFrom 40 = .ok (.getfield 31, 3) := by decide +kernel
theorem dX12_ordersFrom_43 : decode cX12_ordersFrom 43 = .ok (.iload 4, 2) := by decide +kernel
theorem dX12_ordersFrom_45 : decode cX12_ordersFrom 45 = .ok (.iaload, 1) := by decide +kernel
theorem dX12_ordersFrom_46 : decode cX12_ordersFrom 46 = .ok (.iastore, 1) := by decide +kernel
theorem dX12_ordersFrom_47 : decode cX12_ordersFrom 47 = .ok (.iinc 4 1, 3) := by decide +kernel
theorem dX12_ordersFrom_50 : decode cX12_ordersFrom 50 = .ok (.goto (-23), 3) := by decide +kernel
theorem dX12_ordersFrom_53 : decode cX12_ordersFrom 53 = .ok (.return_, 1) := by decide +kernel
theorem dX12_ordersFrom_54 : decode cX12_ordersFrom 54 = .ok (.aload_n 0, 1) := by decide +kernel
theorem dX12_ordersFrom_55 : decode cX12_ordersFrom 55 = .ok (.iload_n 1, 1) := by decide +kernel
theorem dX12_ordersFrom_56 : decode cX12_ordersFrom 56 = .ok (.invokevirtual 217, 3) := by decide +kernel
theorem dX12_ordersFrom_59 : decode cX12_ordersFrom 59 = .ok (.iconst 0, 1) := by decide +kernel
theorem dX12_ordersFrom_60 : decode cX12_ordersFrom 60 = .ok (.istore 4, 2) := by decide +kernel
theorem dX12_ordersFrom_62 : decode cX12_ordersFrom 62 = .ok (.iload 4, 2) := by decide +kernel
theorem dX12_ordersFrom_64 : decode cX12_ordersFrom 64 = .ok (.aload_n 0, 1) := by decide +kernel
theorem dX12_ordersFrom_65 : decode cX12_ordersFrom 65 = .ok (.getfield 9, 3) := by decide +kernel
theorem dX12_ordersFrom_68 : decode cX12_ordersFrom 68 = .ok (.bipush 11, 2) := by decide +kernel
theorem dX12_ordersFrom_70 : decode cX12_ordersFrom 70 = .ok (.iaload, 1) := by decide +kernel
theorem dX12_ordersFrom_71 : decode cX12_ordersFrom 71 = .ok (.if_icmp .ge 74, 3) := by decide +kernel
theorem dX12_ordersFrom_74 : decode cX12_ordersFrom 74 = .ok (.iload_n 2, 1) := by decide +kernel
theorem dX12_ordersFrom_75 : decode cX12_ordersFrom 75 = .ok (.iload 4, 2) := by decide +kernel
theorem dX12_ordersFrom_77 : decode cX12_ordersFrom 77 = .ok (.ishr, 1) := by decide +kernel
theorem dX12_ordersFrom_78 : decode cX12_ordersFrom 78 = .ok (.iconst 1, 1) := by decide +kernel
theorem dX12_ordersFrom_79 : decode cX12_ordersFrom 79 = .ok (.iand, 1) := by decide +kernel
theorem dX12_ordersFrom_80 : decode cX12_ordersFrom 80 = .ok (.ifCond .ne 54, 3) := by decide +kernel
theorem dX12_ordersFrom_83 : decode cX12_ordersFrom 83 = .ok (.aload_n 0, 1) := by decide +kernel
theorem dX12_ordersFrom_84 : decode cX12_ordersFrom 84 = .ok (.iload 4, 2) := by decide +kernel
theorem dX12_ordersFrom_86 : decode cX12_ordersFrom 86 = .ok (.aload_n 0, 1) := by decide +kernel
theorem dX12_ordersFrom_87 : decode cX12_ordersFrom 87 = .ok (.getfield 9, 3) := by decide +kernel
theorem dX12_ordersFrom_90 : decode cX12_ordersFrom 90 = .ok (.bipush 44, 2) := by decide +kernel
theorem dX12_ordersFrom_92 : decode cX12_ordersFrom 92 = .ok (.iload 4, 2) := by decide +kernel
theorem dX12_ordersFrom_94 : decode cX12_ordersFrom 94 = .ok (.iadd, 1) := by decide +kernel
theorem dX12_ordersFrom_95 : decode cX12_ordersFrom 95 = .ok (.iaload, 1) := by decide +kernel
theorem dX12_ordersFrom_96 : decode cX12_ordersFrom 96 = .ok (.invokevirtual 187, 3) := by decide +kernel
theorem dX12_ordersFrom_99 : decode cX12_ordersFrom 99 = .ok (.ifCond .eq 35, 3) := by decide +kernel
theorem dX12_ordersFrom_102 : decode cX12_ordersFrom 102 = .ok (.aload_n 0, 1) := by decide +kernel
theorem dX12_ordersFrom_103 : decode cX12_ordersFrom 103 = .ok (.getfield 31, 3) := by decide +kernel
theorem dX12_ordersFrom_106 : decode cX12_ordersFrom 106 = .ok (.iload_n 1, 1) := by decide +kernel
theorem dX12_ordersFrom_107 : decode cX12_ordersFrom 107 = .ok (.iload 4, 2) := by decide +kernel
theorem dX12_ordersFrom_109 : decode cX12_ordersFrom 109 = .ok (.iastore, 1) := by decide +kernel
theorem dX12_ordersFrom_110 : decode cX12_ordersFrom 110 = .ok (.aload_n 0, 1) := by decide +kernel
theorem dX12_ordersFrom_111 : decode cX12_ordersFrom 111 = .ok (.iload_n 1, 1) := by decide +kernel
theorem dX12_ordersFrom_112 : decode cX12_ordersFrom 112 = .ok (.iconst 1, 1) := by decide +kernel
theorem dX12_ordersFrom_113 : decode cX12_ordersFrom 113 = .ok (.iadd, 1) := by decide +kernel
theorem dX12_ordersFrom_114 : decode cX12_ordersFrom 114 = .ok (.iload_n 2, 1) := by decide +kernel
theorem dX12_ordersFrom_115 : decode cX12_ordersFrom 115 = .ok (.iconst 1, 1) := by decide +kernel
theorem dX12_ordersFrom_116 : decode cX12_ordersFrom 116 = .ok (.iload 4, 2) := by decide +kernel
theorem dX12_ordersFrom_118 : decode cX12_ordersFrom 118 = .ok (.ishl, 1) := by decide +kernel
theorem dX12_ordersFrom_119 : decode cX12_ordersFrom 119 = .ok (.ior, 1) := by decide +kernel
theorem dX12_ordersFrom_120 : decode cX12_ordersFrom 120 = .ok (.iload_n 3, 1) := by decide +kernel
theorem dX12_ordersFrom_121 : decode cX12_ordersFrom 121 = .ok (.aload_n 0, 1) := by decide +kernel
theorem dX12_ordersFrom_122 : decode cX12_ordersFrom 122 = .ok (.getfield 184, 3) := by decide +kernel
theorem dX12_ordersFrom_125 : decode cX12_ordersFrom 125 = .ok (.iadd, 1) := by decide +kernel
theorem dX12_ordersFrom_126 : decode cX12_ordersFrom 126 = .ok (.aload_n 0, 1) := by decide +kernel
theorem dX12_ordersFrom_127 : decode cX12_ordersFrom 127 = .ok (.getfield 181, 3) := by decide +kernel
theorem dX12_ordersFrom_130 : decode cX12_ordersFrom 130 = .ok (.isub, 1) := by decide +kernel
theorem dX12_ordersFrom_131 : decode cX12_ordersFrom 131 = .ok (.invokevirtual 220, 3) := by decide +kernel
theorem dX12_ordersFrom_134 : decode cX12_ordersFrom 134 = .ok (.aload_n 0, 1) := by decide +kernel
theorem dX12_ordersFrom_135 : decode cX12_ordersFrom 135 = .ok (.iload_n 1, 1) := by decide +kernel
theorem dX12_ordersFrom_136 : decode cX12_ordersFrom 136 = .ok (.invokevirtual 223, 3) := by decide +kernel
theorem dX12_ordersFrom_139 : decode cX12_ordersFrom 139 = .ok (.iinc 4 1, 3) := by decide +kernel
theorem dX12_ordersFrom_142 : decode cX12_ordersFrom 142 = .ok (.goto (-80), 3) := by decide +kernel
theorem dX12_ordersFrom_145 : decode cX12_ordersFrom 145 = .ok (.return_, 1) := by decide +kernel
theorem hd_X12_ordersFrom : yX12_ordersFrom.cls = RX12 ∧ yX12_ordersFrom.cls ≠ "java/lang/invoke/MethodHandle" ∧ yX12_ordersFrom.cls ≠ "java/lang/invoke/VarHandle" ∧ (parseMethodDescriptor yX12_ordersFrom.desc).map (fun d => d.parameters.length) = some 3 := by decide +kernel
abbrev rm_X12_ordersFrom_B (fR lR : Nat) : Room := { frames := 4 + fR + 1, cells := 0, slots := 0, locals := 93 + lR }
def F_X12_ordersFrom_B_134 (R : Int32 → Int32 → Int32 → SG → RG → Option (SG)) (a1 : Int32) (a2 : Int32) (a3 : Int32) (rec_62 : SG → RG → Int32 → Int32 → Int32 → Int32 → Option (SG)) (σ : SG) (ρ : RG) (v1 : Int32) (v2 : Int32) (v3 : Int32) (v4 : Int32) : Option (SG) :=
  bn (F_X12_standsBack v1 σ ρ) fun σ7 =>
  nm (v4 + (1 : Int32)) fun x8 =>
  rec_62 σ7 ρ v1 v2 v3 x8
def F_X12_ordersFrom_B_62 (R : Int32 → Int32 → Int32 → SG → RG → Option (SG)) (a1 : Int32) (a2 : Int32) (a3 : Int32) : Nat → SG → RG → Int32 → Int32 → Int32 → Int32 → Option (SG)
  | 0 => fun _ _ _ _ _ _ => none
  | n + 1 => fun σ ρ v1 v2 v3 v4 =>
  if (σ 55 11) ≤ v4 then
    some σ
  else
    nm (v2 >>> (v4 &&& 31)) fun x4 =>
    nm (x4 &&& (1 : Int32)) fun x5 =>
    if x5 = 0 then
      nm ((44 : Int32) + v4) fun x9 =>
      gd (inb x9 909) <|
      bn2 (F_X12_cuts v4 (σ 55 (x9).toNatClampNeg) σ ρ) fun r11 σ11 =>
      if r11 = 0 then
        F_X12_ordersFrom_B_134 R a1 a2 a3 (F_X12_ordersFrom_B_62 R a1 a2 a3 n) σ11 ρ v1 v2 v3 v4
      else
        gd (inb v1 5) <|
        nm (s2 σ11 61 (v1).toNatClampNeg v4) fun σ15 =>
        nm (v1 + (1 : Int32)) fun x16 =>
        nm ((1 : Int32) <<< (v4 &&& 31)) fun x17 =>
        nm (v2 ||| x17) fun x18 =>
        nm (v3 + (σ15 54 16)) fun x19 =>
        nm (x19 - (σ15 54 15)) fun x20 =>
        bn (R x16 x18 x20 σ15 ρ) fun σ21 =>
        F_X12_ordersFrom_B_134 R a1 a2 a3 (F_X12_ordersFrom_B_62 R a1 a2 a3 n) σ21 ρ v1 v2 v3 v4
    else
      F_X12_ordersFrom_B_134 R a1 a2 a3 (F_X12_ordersFrom_B_62 R a1 a2 a3 n) σ ρ v1 v2 v3 v4
def F_X12_ordersFrom_B_27 (R : Int32 → Int32 → Int32 → SG → RG → Option (SG)) (a1 : Int32) (a2 : Int32) (a3 : Int32) : Nat → SG → RG → Int32 → Int32 → Option (SG)
  | 0 => fun _ _ _ _ => none
  | n + 1 => fun σ ρ v1 v4 =>
  if v1 ≤ v4 then
    some σ
  else
    gd (inb v4 5) <|
    gd (inb v4 5) <|
    nm (s2 σ 62 (v4).toNatClampNeg (σ 61 (v4).toNatClampNeg)) fun σ29 =>
    nm (v4 + (1 : Int32)) fun x30 =>
    F_X12_ordersFrom_B_27 R a1 a2 a3 n σ29 ρ v1 x30
def F_X12_ordersFrom_B (R : Int32 → Int32 → Int32 → SG → RG → Option (SG)) (a1 : Int32) (a2 : Int32) (a3 : Int32) (σ : SG) (ρ : RG) : Option (SG) :=
  if a1 = (σ 55 11) then
    if (σ 54 25) ≤ a3 then
      some σ
    else
      nm (s2 σ 54 25 a3) fun σ24 =>
      F_X12_ordersFrom_B_27 R a1 a2 a3 1024 σ24 ρ a1 (0 : Int32)
  else
    bn (F_X12_stands a1 σ ρ) fun σ2 =>
    F_X12_ordersFrom_B_62 R a1 a2 a3 1024 σ2 ρ a1 a2 a3 (0 : Int32)
set_option maxHeartbeats 4000000 in
set_option maxRecDepth 100000 in
theorem w_X12_ordersFrom_B_134 {R : Int32 → Int32 → Int32 → SG → RG → Option (SG)} {a1 : Int32} {a2 : Int32} {a3 : Int32} {rec_62 : SG → RG → Int32 → Int32 → Int32 → Int32 → Option (SG)} {p : Program} {e : Env} {s : State} {m : MethodId} {args : Array Value} {below : List Frame} {meth : Method} {c : Code} {ρ0 : RG} {σ1 : SG} (C : Cx Y D N ad p s m args meth c cX12_ordersFrom 5 none RX12 wsL_law) (hrec_62 : ∀ (σ : SG) (ρ : RG) (v1 : Int32) (v2 : Int32) (v3 : Int32) (v4 : Int32) (H : Heap) (locs : List Loc) (ls : Array Slot), ρ = ρ0 → Lay N K len ρ → (∀ {a1 : Int32} {a2 : Int32} {a3 : Int32} {σ1 : SG} {σ : SG} {ρ : RG}, Lay N K len ρ → R a1 a2 a3 σ ρ = some σ1 → MT l Y D N ad K len yX12_ordersFrom (Cond.code yX12_ordersFrom cX12_ordersFrom 5 none :: wsL_law) (rmk fR lR) [.ref (ad 54), .int a1, .int a2, .int a3] σ ρ none σ1 ρ) → rec_62 σ ρ v1 v2 v3 v4 = some σ1 → WP Y D N ad K len σ ρ H → va_S (AA N ad s.heap.size) s.heap H locs → lv_has ls 5 [(0, .ref (ad 54)), (1, .int v1), (2, .int v2), (3, .int v3), (4, .int v4)] → W p l e (rm_X12_ordersFrom_B fR lR) s m args below meth c H locs 0 0 (MQ below (QW Y D N ad K len σ1 ρ0 (AA N ad s.heap.size) none) args s 0 0 (AA N ad s.heap.size)) (F0 m 62 ls [])) {σ : SG} {ρ : RG} {v1 : Int32} {v2 : Int32} {v3 : Int32} {v4 : Int32} {H : Heap} {locs : List Loc} {ls : Array Slot} (hρ0 : ρ = ρ0) (hL : Lay N K len ρ) (hRM : (∀ {a1 : Int32} {a2 : Int32} {a3 : Int32} {σ1 : SG} {σ : SG} {ρ : RG}, Lay N K len ρ → R a1 a2 a3 σ ρ = some σ1 → MT l Y D N ad K len yX12_ordersFrom (Cond.code yX12_ordersFrom cX12_ordersFrom 5 none :: wsL_law) (rmk fR lR) [.ref (ad 54), .int a1, .int a2, .int a3] σ ρ none σ1 ρ)) (hF : F_X12_ordersFrom_B_134 R a1 a2 a3 rec_62 σ ρ v1 v2 v3 v4 = some σ1) (hP : WP Y D N ad K len σ ρ H) (hS : va_S (AA N ad s.heap.size) s.heap H locs) (hl : lv_has ls 5 [(0, .ref (ad 54)), (1, .int v1), (2, .int v2), (3, .int v3), (4, .int v4)]) : W p l e (rm_X12_ordersFrom_B fR lR) s m args below meth c H locs 0 0 (MQ below (QW Y D N ad K len σ1 ρ0 (AA N ad s.heap.size) none) args s 0 0 (AA N ad s.heap.size)) (F0 m 134 ls []) := by
  have hx := C.1.1
  have hb := C.1.2.1
  unfold F_X12_ordersFrom_B_134 at hF
  refine lv_aload_n hx hb dX12_ordersFrom_134 rfl (lv_at hl 0 rfl) ?_
  refine lv_iload_n hx hb dX12_ordersFrom_135 rfl (lv_at hl 1 rfl) ?_
  obtain ⟨σ7, hq7, hF⟩ := bn_1 hF
  refine x_callV (ci := 12) rfl rfl C hP hS (c_X12_standsBack hL hq7) (lr_54 hL) (lk_54 hL) (cwV 1 C.1.2.2.2.2 (gdV mw_807 mw_808 mw_809 mw_5 mw_810) rfl rfl rfl hd_X12_standsBack ⟨by show 1 ≤ 4 + fR + 1; omega, by show 22 ≤ 93 + lR; omega⟩) rfl rfl hl.1 (Nat.le_of_ble_eq_true rfl) ⟨Nat.zero_le _, Nat.zero_le _⟩ dX12_ordersFrom_136 (fun H locs hP hS => ?_)
  obtain ⟨x8, ex8, hF⟩ := nm_1 hF
  refine lv_iinc (v := x8) (lv' := [(4, .int x8), (0, .ref (ad 54)), (1, .int v1), (2, .int v2), (3, .int v3)]) hx hb dX12_ordersFrom_139 hl (k := 4) rfl (by rw [ex8]; first | rfl | decide) (by decide) rfl (fun ls hl => ?_)
  refine lv_goto (tgt := 62) hx hb dX12_ordersFrom_142 (by decide) ?_
  exact hrec_62 _ _ _ _ _ _ _ _ _ hρ0 hL hRM hF hP hS (lv_sub hl [1, 2, 3, 4, 0] rfl)
set_option maxHeartbeats 4000000 in
set_option maxRecDepth 100000 in
theorem w_X12_ordersFrom_B_62 {R : Int32 → Int32 → Int32 → SG → RG → Option (SG)} {a1 : Int32} {a2 : Int32} {a3 : Int32} {p : Program} {e : Env} {s : State} {m : MethodId} {args : Array Value} {below : List Frame} {meth : Method} {c : Code} {ρ0 : RG} {σ1 : SG} (C : Cx Y D N ad p s m args meth c cX12_ordersFrom 5 none RX12 wsL_law) : ∀ (n : Nat) (σ : SG) (ρ : RG) (v1 : Int32) (v2 : Int32) (v3 : Int32) (v4 : Int32) (H : Heap) (locs : List Loc) (ls : Array Slot), ρ = ρ0 → Lay N K len ρ → (∀ {a1 : Int32} {a2 : Int32} {a3 : Int32} {σ1 : SG} {σ : SG} {ρ : RG}, Lay N K len ρ → R a1 a2 a3 σ ρ = some σ1 → MT l Y D N ad K len yX12_ordersFrom (Cond.code yX12_ordersFrom cX12_ordersFrom 5 none :: wsL_law) (rmk fR lR) [.ref (ad 54), .int a1, .int a2, .int a3] σ ρ none σ1 ρ) → F_X12_ordersFrom_B_62 R a1 a2 a3 n σ ρ v1 v2 v3 v4 = some σ1 → WP Y D N ad K len σ ρ H → va_S (AA N ad s.heap.size) s.heap H locs → lv_has ls 5 [(0, .ref (ad 54)), (1, .int v1), (2, .int v2), (3, .int v3), (4, .int v4)] → W p l e (rm_X12_ordersFrom_B fR lR) s m args below meth c H locs 0 0 (MQ below (QW Y D N ad K len σ1 ρ0 (AA N ad s.heap.size) none) args s 0 0 (AA N ad s.heap.size)) (F0 m 62 ls []) := by
  have hx := C.1.1
  have hb := C.1.2.1
  intro n
  induction n with
  | zero => intro σ ρ v1 v2 v3 v4 H locs ls hρ0 hL hRM hF; cases hF
  | succ n ih =>
    intro σ ρ v1 v2 v3 v4 H locs ls hρ0 hL hRM hF hP hS hl
    unfold F_X12_ordersFrom_B_62 at hF
    refine lv_iload hx hb dX12_ordersFrom_62 (lv_at hl 4 rfl) ?_
    refine lv_aload_n hx hb dX12_ordersFrom_64 rfl (lv_at hl 0 rfl) ?_
    refine get_12_1 C hP (lr_54 hL) (lk_54 hL) inlX12 mw_81 (lf_54_1 hL) dX12_ordersFrom_65 ?_
    refine lv_bipush (v := 11) hx hb dX12_ordersFrom_68 (by decide +kernel) ?_
    refine x_iald C hP (lr_55 hL) (lk_55 hL) (ln_55 hL) (by decide +kernel) dX12_ordersFrom_70 ?_
    rw [cl_11]
    refine lv_icmp_ge (tgt := 145) hx hb dX12_ordersFrom_71 (by decide) (fun c_3 => ?_) (fun c_3 => ?_) -- COND 3 by_cases c_3 : (σ 55 11) ≤ v4
    · have hF := ite_t hF c_3
      obtain rfl := ret_1 hF
      subst hρ0
      exact x_vret rfl C hP hS dX12_ordersFrom_145
    · have hF := ite_f hF c_3
      refine lv_iload_n hx hb dX12_ordersFrom_74 rfl (lv_at hl 2 rfl) ?_
      refine lv_iload hx hb dX12_ordersFrom_75 (lv_at hl 4 rfl) ?_
      refine lv_ishr hx hb dX12_ordersFrom_77 ?_
      obtain ⟨x4, ex4, hF⟩ := nm_1 hF
      refine x_top ex4 ?_
      refine lv_iconst (v := 1) hx hb dX12_ordersFrom_78 (by decide) ?_
      refine lv_iand hx hb dX12_ordersFrom_79 ?_
      obtain ⟨x5, ex5, hF⟩ := nm_1 hF
      refine x_top ex5 ?_
      refine lv_if_ne (tgt := 134) hx hb dX12_ordersFrom_80 (by decide) (fun c_6 => ?_) (fun c_6 => ?_) -- COND 6 rcases (Decidable.em (x5 = 0)).symm with c_6 | c_6
      · have hF := ite_f hF c_6
        exact w_X12_ordersFrom_B_134 C ih hρ0 hL hRM hF hP hS (lv_sub hl [0, 1, 2, 3, 4] rfl)
      · have hF := ite_t hF c_6
        refine lv_aload_n hx hb dX12_ordersFrom_83 rfl (lv_at hl 0 rfl) ?_
        refine lv_iload hx hb dX12_ordersFrom_84 (lv_at hl 4 rfl) ?_
        refine lv_aload_n hx hb dX12_ordersFrom_86 rfl (lv_at hl 0 rfl) ?_
        refine get_12_1 C hP (lr_54 hL) (lk_54 hL) inlX12 mw_81 (lf_54_1 hL) dX12_ordersFrom_87 ?_
        refine lv_bipush (v := 44) hx hb dX12_ordersFrom_90 (by decide +kernel) ?_
        refine lv_iload hx hb dX12_ordersFrom_92 (lv_at hl 4 rfl) ?_
        refine lv_iadd hx hb dX12_ordersFrom_94 ?_
        obtain ⟨x9, ex9, hF⟩ := nm_1 hF
        refine x_top ex9 ?_
        obtain ⟨g10, hF⟩ := gd_1 hF
        refine x_iald C hP (lr_55 hL) (lk_55 hL) (ln_55 hL) g10 dX12_ordersFrom_95 ?_
        obtain ⟨r11, σ11, hq11, hF⟩ := bn2_1 hF
        refine x_callV (ci := 12) rfl rfl C hP hS (c_X12_cuts hL hq11) (lr_54 hL) (lk_54 hL) (cwV 2 C.1.2.2.2.2 (gdV mw_652 mw_653 mw_654 mw_5 mw_655) rfl rfl rfl hd_X12_cuts ⟨by show 4 ≤ 4 + fR + 1; omega, by show 93 ≤ 93 + lR; omega⟩) rfl rfl hl.1 (Nat.le_of_ble_eq_true rfl) ⟨Nat.zero_le _, Nat.zero_le _⟩ dX12_ordersFrom_96 (fun H locs hP hS => ?_)
        refine lv_if_eq (tgt := 134) hx hb dX12_ordersFrom_99 (by decide) (fun c_12 => ?_) (fun c_12 => ?_) -- COND 12 by_cases c_12 : r11 = 0
        · have hF := ite_t hF c_12
          exact w_X12_ordersFrom_B_134 C ih hρ0 hL hRM hF hP hS (lv_sub hl [0, 1, 2, 3, 4] rfl)
        · have hF := ite_f hF c_12
          refine lv_aload_n hx hb dX12_ordersFrom_102 rfl (lv_at hl 0 rfl) ?_
          refine get_12_23 C hP (lr_54 hL) (lk_54 hL) inlX12 mw_87 (lf_54_23 hL) dX12_ordersFrom_103 ?_
          refine lv_iload_n hx hb dX12_ordersFrom_106 rfl (lv_at hl 1 rfl) ?_
          refine lv_iload hx hb dX12_ordersFrom_107 (lv_at hl 4 rfl) ?_
          obtain ⟨g13, hF⟩ := gd_1 hF
          obtain ⟨σ15, eσ15, hF⟩ := nm_1 hF
          refine x_iast (σ1 := σ15) C hP hS (lr_61 hL) (lk_61 hL) (ln_61 hL) g13 eσ15 dX12_ordersFrom_109 (fun H locs hP hS => ?_)
          refine lv_aload_n hx hb dX12_ordersFrom_110 rfl (lv_at hl 0 rfl) ?_
          refine lv_iload_n hx hb dX12_ordersFrom_111 rfl (lv_at hl 1 rfl) ?_
          refine lv_iconst (v := 1) hx hb dX12_ordersFrom_112 (by decide) ?_
          refine lv_iadd hx hb dX12_ordersFrom_113 ?_
          obtain ⟨x16, ex16, hF⟩ := nm_1 hF
          refine x_top ex16 ?_
          refine lv_iload_n hx hb dX12_ordersFrom_114 rfl (lv_at hl 2 rfl) ?_
          refine lv_iconst (v := 1) hx hb dX12_ordersFrom_115 (by decide) ?_
          refine lv_iload hx hb dX12_ordersFrom_116 (lv_at hl 4 rfl) ?_
          refine lv_ishl hx hb dX12_ordersFrom_118 ?_
          obtain ⟨x17, ex17, hF⟩ := nm_1 hF
          refine x_top ex17 ?_
          refine lv_ior hx hb dX12_ordersFrom_119 ?_
          obtain ⟨x18, ex18, hF⟩ := nm_1 hF
          refine x_top ex18 ?_
          refine lv_iload_n hx hb dX12_ordersFrom_120 rfl (lv_at hl 3 rfl) ?_
          refine lv_aload_n hx hb dX12_ordersFrom_121 rfl (lv_at hl 0 rfl) ?_
          refine get_12_16 C hP (lr_54 hL) (lk_54 hL) inlX12 mw_661 dX12_ordersFrom_122 ?_
          refine lv_iadd hx hb dX12_ordersFrom_125 ?_
          obtain ⟨x19, ex19, hF⟩ := nm_1 hF
          refine x_top ex19 ?_
          refine lv_aload_n hx hb dX12_ordersFrom_126 rfl (lv_at hl 0 rfl) ?_
          refine get_12_15 C hP (lr_54 hL) (lk_54 hL) inlX12 mw_660 dX12_ordersFrom_127 ?_
          refine lv_isub hx hb dX12_ordersFrom_130 ?_
          obtain ⟨x20, ex20, hF⟩ := nm_1 hF
          refine x_top ex20 ?_
          obtain ⟨σ21, hq21, hF⟩ := bn_1 hF
          refine x_callV (ci := 12) rfl rfl C hP hS (hRM hL hq21) (lr_54 hL) (lk_54 hL) (cwV 3 C.1.2.2.2.2 (gdV mw_799 mw_800 mw_801 mw_5 mw_802) rfl rfl rfl hd_X12_ordersFrom ⟨by show fR + 1 ≤ 4 + fR + 1; omega, by show 24 + lR ≤ 93 + lR; omega⟩) rfl rfl hl.1 (Nat.le_of_ble_eq_true rfl) ⟨Nat.zero_le _, Nat.zero_le _⟩ dX12_ordersFrom_131 (fun H locs hP hS => ?_)
          exact w_X12_ordersFrom_B_134 C ih hρ0 hL hRM hF hP hS (lv_sub hl [0, 1, 2, 3, 4] rfl)
set_option maxHeartbeats 4000000 in
set_option maxRecDepth 100000 in
theorem w_X12_ordersFrom_B_27 {R : Int32 → Int32 → Int32 → SG → RG → Option (SG)} {a1 : Int32} {a2 : Int32} {a3 : Int32} {p : Program} {e : Env} {s : State} {m : MethodId} {args : Array Value} {below : List Frame} {meth : Method} {c : Code} {ρ0 : RG} {σ1 : SG} (C : Cx Y D N ad p s m args meth c cX12_ordersFrom 5 none RX12 wsL_law) : ∀ (n : Nat) (σ : SG) (ρ : RG) (v1 : Int32) (v4 : Int32) (H : Heap) (locs : List Loc) (ls : Array Slot), ρ = ρ0 → Lay N K len ρ → (∀ {a1 : Int32} {a2 : Int32} {a3 : Int32} {σ1 : SG} {σ : SG} {ρ : RG}, Lay N K len ρ → R a1 a2 a3 σ ρ = some σ1 → MT l Y D N ad K len yX12_ordersFrom (Cond.code yX12_ordersFrom cX12_ordersFrom 5 none :: wsL_law) (rmk fR lR) [.ref (ad 54), .int a1, .int a2, .int a3] σ ρ none σ1 ρ) → F_X12_ordersFrom_B_27 R a1 a2 a3 n σ ρ v1 v4 = some σ1 → WP Y D N ad K len σ ρ H → va_S (AA N ad s.heap.size) s.heap H locs → lv_has ls 5 [(0, .ref (ad 54)), (1, .int v1), (4, .int v4)] → W p l e (rm_X12_ordersFrom_B fR lR) s m args below meth c H locs 0 0 (MQ below (QW Y D N ad K len σ1 ρ0 (AA N ad s.heap.size) none) args s 0 0 (AA N ad s.heap.size)) (F0 m 27 ls []) := by
  have hx := C.1.1
  have hb := C.1.2.1
  intro n
  induction n with
  | zero => intro σ ρ v1 v4 H locs ls hρ0 hL hRM hF; cases hF
  | succ n ih =>
    intro σ ρ v1 v4 H locs ls hρ0 hL hRM hF hP hS hl
    unfold F_X12_ordersFrom_B_27 at hF
    refine lv_iload hx hb dX12_ordersFrom_27 (lv_at hl 2 rfl) ?_
    refine lv_iload_n hx hb dX12_ordersFrom_29 rfl (lv_at hl 1 rfl) ?_
    refine lv_icmp_ge (tgt := 53) hx hb dX12_ordersFrom_30 (by decide) (fun c_25 => ?_) (fun c_25 => ?_) -- COND 25 by_cases c_25 : v1 ≤ v4
    · have hF := ite_t hF c_25
      obtain rfl := ret_1 hF
      subst hρ0
      exact x_vret rfl C hP hS dX12_ordersFrom_53
    · have hF := ite_f hF c_25
      refine lv_aload_n hx hb dX12_ordersFrom_33 rfl (lv_at hl 0 rfl) ?_
      refine get_12_24 C hP (lr_54 hL) (lk_54 hL) inlX12 mw_88 (lf_54_24 hL) dX12_ordersFrom_34 ?_
      refine lv_iload hx hb dX12_ordersFrom_37 (lv_at hl 2 rfl) ?_
      refine lv_aload_n hx hb dX12_ordersFrom_39 rfl (lv_at hl 0 rfl) ?_
      refine get_12_23 C hP (lr_54 hL) (lk_54 hL) inlX12 mw_87 (lf_54_23 hL) dX12_ordersFrom_40 ?_
      refine lv_iload hx hb dX12_ordersFrom_43 (lv_at hl 2 rfl) ?_
      obtain ⟨g26, hF⟩ := gd_1 hF
      refine x_iald C hP (lr_61 hL) (lk_61 hL) (ln_61 hL) g26 dX12_ordersFrom_45 ?_
      obtain ⟨g27, hF⟩ := gd_1 hF
      obtain ⟨σ29, eσ29, hF⟩ := nm_1 hF
      refine x_iast (σ1 := σ29) C hP hS (lr_62 hL) (lk_62 hL) (ln_62 hL) g27 eσ29 dX12_ordersFrom_46 (fun H locs hP hS => ?_)
      obtain ⟨x30, ex30, hF⟩ := nm_1 hF
      refine lv_iinc (v := x30) (lv' := [(4, .int x30), (0, .ref (ad 54)), (1, .int v1)]) hx hb dX12_ordersFrom_47 hl (k := 2) rfl (by rw [ex30]; first | rfl | decide) (by decide) rfl (fun ls hl => ?_)
      refine lv_goto (tgt := 27) hx hb dX12_ordersFrom_50 (by decide) ?_
      exact ih _ _ _ _ _ _ _ hρ0 hL hRM hF hP hS (lv_sub hl [1, 2, 0] rfl)
set_option maxHeartbeats 4000000 in
set_option maxRecDepth 100000 in
theorem w_X12_ordersFrom_B_0 {R : Int32 → Int32 → Int32 → SG → RG → Option (SG)} {a1 : Int32} {a2 : Int32} {a3 : Int32} {p : Program} {e : Env} {s : State} {m : MethodId} {args : Array Value} {below : List Frame} {meth : Method} {c : Code} {ρ0 : RG} {σ1 : SG} (C : Cx Y D N ad p s m args meth c cX12_ordersFrom 5 none RX12 wsL_law) {σ : SG} {ρ : RG} {H : Heap} {locs : List Loc} {ls : Array Slot} (hρ0 : ρ = ρ0) (hL : Lay N K len ρ) (hRM : (∀ {a1 : Int32} {a2 : Int32} {a3 : Int32} {σ1 : SG} {σ : SG} {ρ : RG}, Lay N K len ρ → R a1 a2 a3 σ ρ = some σ1 → MT l Y D N ad K len yX12_ordersFrom (Cond.code yX12_ordersFrom cX12_ordersFrom 5 none :: wsL_law) (rmk fR lR) [.ref (ad 54), .int a1, .int a2, .int a3] σ ρ none σ1 ρ)) (hF : F_X12_ordersFrom_B R a1 a2 a3 σ ρ = some σ1) (hP : WP Y D N ad K len σ ρ H) (hS : va_S (AA N ad s.heap.size) s.heap H locs) (hl : lv_has ls 5 [(0, .ref (ad 54)), (1, .int a1), (2, .int a2), (3, .int a3)]) : W p l e (rm_X12_ordersFrom_B fR lR) s m args below meth c H locs 0 0 (MQ below (QW Y D N ad K len σ1 ρ0 (AA N ad s.heap.size) none) args s 0 0 (AA N ad s.heap.size)) (F0 m 0 ls []) := by
  have hx := C.1.1
  have hb := C.1.2.1
  unfold F_X12_ordersFrom_B at hF
  refine lv_iload_n hx hb dX12_ordersFrom_0 rfl (lv_at hl 1 rfl) ?_
  refine lv_aload_n hx hb dX12_ordersFrom_1 rfl (lv_at hl 0 rfl) ?_
  refine get_12_1 C hP (lr_54 hL) (lk_54 hL) inlX12 mw_81 (lf_54_1 hL) dX12_ordersFrom_2 ?_
  refine lv_bipush (v := 11) hx hb dX12_ordersFrom_5 (by decide +kernel) ?_
  refine x_iald C hP (lr_55 hL) (lk_55 hL) (ln_55 hL) (by decide +kernel) dX12_ordersFrom_7 ?_
  rw [cl_11]
  refine lv_icmp_ne (tgt := 54) hx hb dX12_ordersFrom_8 (by decide) (fun c_1 => ?_) (fun c_1 => ?_) -- COND 1 rcases (Decidable.em (a1 = (σ 55 11))).symm with c_1 | c_1
  · have hF := ite_f hF c_1
    refine lv_aload_n hx hb dX12_ordersFrom_54 rfl (lv_at hl 0 rfl) ?_
    refine lv_iload_n hx hb dX12_ordersFrom_55 rfl (lv_at hl 1 rfl) ?_
    obtain ⟨σ2, hq2, hF⟩ := bn_1 hF
    refine x_callV (ci := 12) rfl rfl C hP hS (c_X12_stands hL hq2) (lr_54 hL) (lk_54 hL) (cwV 1 C.1.2.2.2.2 (gdV mw_803 mw_804 mw_805 mw_5 mw_806) rfl rfl rfl hd_X12_stands ⟨by show 1 ≤ 4 + fR + 1; omega, by show 22 ≤ 93 + lR; omega⟩) rfl rfl hl.1 (Nat.le_of_ble_eq_true rfl) ⟨Nat.zero_le _, Nat.zero_le _⟩ dX12_ordersFrom_56 (fun H locs hP hS => ?_)
    refine lv_iconst (v := 0) hx hb dX12_ordersFrom_59 (by decide) ?_
    refine lv_istore (lv' := [(4, .int (0 : Int32)), (0, .ref (ad 54)), (1, .int a1), (2, .int a2), (3, .int a3)]) hx hb dX12_ordersFrom_60 hl (by decide) rfl (fun ls hl => ?_)
    exact w_X12_ordersFrom_B_62 C 1024 _ _ _ _ _ _ _ _ _ hρ0 hL hRM hF hP hS (lv_sub hl [1, 2, 3, 4, 0] rfl)
  · have hF := ite_t hF c_1
    refine lv_iload_n hx hb dX12_ordersFrom_11 rfl (lv_at hl 3 rfl) ?_
    refine lv_aload_n hx hb dX12_ordersFrom_12 rfl (lv_at hl 0 rfl) ?_
    refine get_12_25 C hP (lr_54 hL) (lk_54 hL) inlX12 mw_798 dX12_ordersFrom_13 ?_
    refine lv_icmp_ge (tgt := 53) hx hb dX12_ordersFrom_16 (by decide) (fun c_22 => ?_) (fun c_22 => ?_) -- COND 22 by_cases c_22 : (σ 54 25) ≤ a3
    · have hF := ite_t hF c_22
      obtain rfl := ret_1 hF
      subst hρ0
      exact x_vret rfl C hP hS dX12_ordersFrom_53
    · have hF := ite_f hF c_22
      refine lv_aload_n hx hb dX12_ordersFrom_19 rfl (lv_at hl 0 rfl) ?_
      refine lv_iload_n hx hb dX12_ordersFrom_20 rfl (lv_at hl 3 rfl) ?_
      obtain ⟨σ24, eσ24, hF⟩ := nm_1 hF
      refine put_12_25 C hP hS (lr_54 hL) (lk_54 hL) inlX12 mw_798 eσ24 dX12_ordersFrom_21 (fun H locs hP hS => ?_)
      refine lv_iconst (v := 0) hx hb dX12_ordersFrom_24 (by decide) ?_
      refine lv_istore (lv' := [(4, .int (0 : Int32)), (0, .ref (ad 54)), (1, .int a1), (2, .int a2), (3, .int a3)]) hx hb dX12_ordersFrom_25 hl (by decide) rfl (fun ls hl => ?_)
      exact w_X12_ordersFrom_B_27 C 1024 _ _ _ _ _ _ _ hρ0 hL hRM hF hP hS (lv_sub hl [1, 2, 0] rfl)
set_option maxHeartbeats 4000000 in
set_option maxRecDepth 100000 in
theorem c_X12_ordersFrom_B {R : Int32 → Int32 → Int32 → SG → RG → Option (SG)} {a1 : Int32} {a2 : Int32} {a3 : Int32} {σ1 : SG} {σ : SG} {ρ : RG} (hL : Lay N K len ρ) (hRM : (∀ {a1 : Int32} {a2 : Int32} {a3 : Int32} {σ1 : SG} {σ : SG} {ρ : RG}, Lay N K len ρ → R a1 a2 a3 σ ρ = some σ1 → MT l Y D N ad K len yX12_ordersFrom (Cond.code yX12_ordersFrom cX12_ordersFrom 5 none :: wsL_law) (rmk fR lR) [.ref (ad 54), .int a1, .int a2, .int a3] σ ρ none σ1 ρ)) (hF : F_X12_ordersFrom_B R a1 a2 a3 σ ρ = some σ1) : MT l Y D N ad K len yX12_ordersFrom (Cond.code yX12_ordersFrom cX12_ordersFrom 5 none :: wsL_law) (rm_X12_ordersFrom_B fR lR) [.ref (ad 54), .int a1, .int a2, .int a3] σ ρ none σ1 ρ := by
  refine mt_of (cc := cX12_ordersFrom) (nL := 5) (ret := none) (by decide) (Nat.le_of_ble_eq_true rfl) ?_
  intro p e s m args below meth c ls C hnm hP hS hl
  exact w_X12_ordersFrom_B_0 C rfl hL hRM hF hP hS hl

def F_X12_ordersFrom_R : Nat → Int32 → Int32 → Int32 → SG → RG → Option (SG)
  | 0 => fun _ _ _ _ _ => none
  | d + 1 => fun a1 a2 a3 σ ρ => F_X12_ordersFrom_B (F_X12_ordersFrom_R d) a1 a2 a3 σ ρ
def fr_X12_ordersFrom_R : Nat → Nat
  | 0 => 0
  | d + 1 => 4 + fr_X12_ordersFrom_R d + 1
def lo_X12_ordersFrom_R : Nat → Nat
  | 0 => 0
  | d + 1 => 93 + lo_X12_ordersFrom_R d
theorem c_X12_ordersFrom_R (d : Nat) : ∀ {a1 : Int32} {a2 : Int32} {a3 : Int32} {σ1 : SG} {σ : SG} {ρ : RG}, Lay N K len ρ → F_X12_ordersFrom_R d a1 a2 a3 σ ρ = some σ1 → MT l Y D N ad K len yX12_ordersFrom (Cond.code yX12_ordersFrom cX12_ordersFrom 5 none :: wsL_law) (rmk (fr_X12_ordersFrom_R d) (lo_X12_ordersFrom_R d)) [.ref (ad 54), .int a1, .int a2, .int a3] σ ρ none σ1 ρ := by
  induction d with
  | zero => intros; contradiction
  | succ d ih =>
    intro a1 a2 a3 σ1 σ ρ hL hF
    exact c_X12_ordersFrom_B (R := F_X12_ordersFrom_R d) (fR := fr_X12_ordersFrom_R d) (lR := lo_X12_ordersFrom_R d) hL ih hF
def F_X12_ordersFrom (a1 : Int32) (a2 : Int32) (a3 : Int32) (σ : SG) (ρ : RG) : Option (SG) := F_X12_ordersFrom_R 7 a1 a2 a3 σ ρ
abbrev rm_X12_ordersFrom : Room := { frames := 35, cells := 0, slots := 0, locals := 651 }
theorem rm_X12_ordersFrom_eq : rmk (fr_X12_ordersFrom_R 7) (lo_X12_ordersFrom_R 7) = rm_X12_ordersFrom := rfl
theorem c_X12_ordersFrom : ∀ {a1 : Int32} {a2 : Int32} {a3 : Int32} {σ1 : SG} {σ : SG} {ρ : RG}, Lay N K len ρ → F_X12_ordersFrom a1 a2 a3 σ ρ = some σ1 → MT l Y D N ad K len yX12_ordersFrom (Cond.code yX12_ordersFrom cX12_ordersFrom 5 none :: wsL_law) rm_X12_ordersFrom [.ref (ad 54), .int a1, .int a2, .int a3] σ ρ none σ1 ρ := rm_X12_ordersFrom_eq ▸ c_X12_ordersFrom_R 7

/-! CutCrookedModel.public int order(int);  -/
theorem dX12_order_0 : decode cX12_order 0 = .ok (.iload_n 1, 1) := by decide +kernel
theorem dX12_order_1 : decode cX12_order 1 = .ok (.iconst (-1), 1) := by decide +kernel
theorem dX12_order_2 : decode cX12_order 2 = .ok (.iconst 4, 1) := by decide +kernel
theorem dX12_order_3 : decode cX12_order 3 = .ok (.invokestatic 47, 3) := by decide +kernel
theorem dX12_order_6 : decode cX12_order 6 = .ok (.ifCond .ne 5, 3) := by decide +kernel
theorem dX12_order_9 : decode cX12_order 9 = .ok (.iconst (-1), 1) := by decide +kernel
theorem dX12_order_10 : decode cX12_order 10 = .ok (.ireturn, 1) := by decide +kernel
theorem dX12_order_11 : decode cX12_order 11 = .ok (.aload_n 0, 1) := by decide +kernel
theorem dX12_order_12 : decode cX12_order 12 = .ok (.getfield 9, 3) := by decide +kernel
theorem dX12_order_15 : decode cX12_order 15 = .ok (.bipush 11, 2) := by decide +kernel
theorem dX12_order_17 : decode cX12_order 17 = .ok (.iaload, 1) := by decide +kernel
theorem dX12_order_18 : decode cX12_order 18 = .ok (.iconst 5, 1) := by decide +kernel
theorem dX12_order_19 : decode cX12_order 19 = .ok (.if_icmp .le 6, 3) := by decide +kernel
theorem dX12_order_22 : decode cX12_order 22 = .ok (.bipush (-9), 2) := by decide +kernel
theorem dX12_order_24 : decode cX12_order 24 = .ok (.ireturn, 1) := by decide +kernel
theorem dX12_order_25 : decode cX12_order 25 = .ok (.iconst 0, 1) := by decide +kernel
theorem dX12_order_26 : decode cX12_order 26 = .ok (.istore_n 2, 1) := by decide +kernel
theorem dX12_order_27 : decode cX12_order 27 = .ok (.iload_n 2, 1) := by decide +kernel
theorem dX12_order_28 : decode cX12_order 28 = .ok (.iconst 5, 1) := by decide +kernel
theorem dX12_order_29 : decode cX12_order 29 = .ok (.if_icmp .ge 17, 3) := by decide +kernel
theorem dX12_order_32 : decode cX12_order 32 = .ok (.aload_n 0, 1) := by decide +kernel
theorem dX12_order_33 : decode cX12_order 33 = .ok (.getfield 34, 3) := by decide +kernel
theorem dX12_order_36 : decode cX12_order 36 = .ok (.iload_n 2, 1) := by decide +kernel
theorem dX12_order_37 : decode cX12_order 37 = .ok (.bipush (-5), 2) := by decide +kernel
theorem dX12_order_39 : decode cX12_order 39 = .ok (.iastore, 1) := by decide +kernel
theorem dX12_order_40 : decode cX12_order 40 = .ok (.iinc 2 1, 3) := by decide +kernel
theorem dX12_order_43 : decode cX12_order 43 = .ok (.goto (-16), 3) := by decide +kernel
theorem dX12_order_46 : decode cX12_order 46 = .ok (.aload_n 0, 1) := by decide +kernel
theorem dX12_order_47 : decode cX12_order 47 = .ok (.ldc 180, 2) := by decide +kernel
theorem dX12_order_49 : decode cX12_order 49 = .ok (.putfield 214, 3) := by decide +kernel
theorem dX12_order_52 : decode cX12_order 52 = .ok (.aload_n 0, 1) := by decide +kernel
theorem dX12_order_53 : decode cX12_order 53 = .ok (.iconst 0, 1) := by decide +kernel
theorem dX12_order_54 : decode cX12_order 54 = .ok (.iconst 0, 1) := by decide +kernel
theorem dX12_order_55 : decode cX12_order 55 = .ok (.iconst 0, 1) := by decide +kernel
theorem dX12_order_56 : decode cX12_order 56 = .ok (.invokevirtual 220, 3) := by decide +kernel
theorem dX12_order_59 : decode cX12_order 59 = .ok (.iload_n 1, 1) := by decide +kernel
theorem dX12_order_60 : decode cX12_order 60 = .ok (.ifCond .lt 12, 3) := by decide +kernel
theorem dX12_order_63 : decode cX12_order 63 = .ok (.aload_n 0, 1) := by decide +kernel
theorem dX12_order_64 : decode cX12_order 64 = .ok (.getfield 34, 3) := by decide +kernel
theorem dX12_order_67 : decode cX12_order 67 = .ok (.iload_n 1, 1) := by decide +kernel
theorem dX12_order_68 : decode cX12_order 68 = .ok (.iaload, 1) := by decide +kernel
theorem dX12_order_69 : decode cX12_order 69 = .ok (.goto 21, 3) := by decide +kernel
theorem dX12_order_72 : decode cX12_order 72 = .ok (.aload_n 0, 1) := by decide +kernel
theorem dX12_order_73 : decode cX12_order 73 = .ok (.getfield 214, 3) := by decide +kernel
theorem dX12_order_76 : decode cX12_order 76 = .ok (.ldc 180, 2) := by decide +kernel
theorem dX12_order_78 : decode cX12_order 78 = .ok (.if_icmp .ne 8, 3) := by decide +kernel
theorem dX12_order_81 : decode cX12_order 81 = .ok (.bipush (-5), 2) := by decide +kernel
theorem dX12_order_83 : decode cX12_order 83 = .ok (.goto 7, 3) := by decide +kernel
theorem dX12_order_86 : decode cX12_order 86 = .ok (.aload_n 0, 1) := by decide +kernel
theorem dX12_order_87 : decode cX12_order 87 = .ok (.getfield 214, 3) := by decide +kernel
theorem dX12_order_90 : decode cX12_order 90 = .ok (.ireturn, 1) := by decide +kernel
theorem hd_X12_order : yX12_order.cls = RX12 ∧ yX12_order.cls ≠ "java/lang/invoke/MethodHandle" ∧ yX12_order.cls ≠ "java/lang/invoke/VarHandle" ∧ (parseMethodDescriptor yX12_order.desc).map (fun d => d.parameters.length) = some 1 := by decide +kernel
abbrev rm_X12_order : Room := { frames := 36, cells := 0, slots := 0, locals := 675 }
def F_X12_order_27 (a1 : Int32) : Nat → SG → RG → Int32 → Int32 → Option (Int32 × SG)
  | 0 => fun _ _ _ _ => none
  | n + 1 => fun σ ρ v1 v2 =>
  if (5 : Int32) ≤ v2 then
    nm (s2 σ 54 25 (1000000 : Int32)) fun σ6 =>
    bn (F_X12_ordersFrom (0 : Int32) (0 : Int32) (0 : Int32) σ6 ρ) fun σ7 =>
    if v1 < 0 then
      if (σ7 54 25) = (1000000 : Int32) then
        some ((-5 : Int32), σ7)
      else
        some ((σ7 54 25), σ7)
    else
      gd (inb v1 5) <|
      some ((σ7 62 (v1).toNatClampNeg), σ7)
  else
    gd (inb v2 5) <|
    nm (s2 σ 62 (v2).toNatClampNeg (-5 : Int32)) fun σ13 =>
    nm (v2 + (1 : Int32)) fun x14 =>
    F_X12_order_27 a1 n σ13 ρ v1 x14
def F_X12_order (a1 : Int32) (σ : SG) (ρ : RG) : Option (Int32 × SG) :=
  bn (F_X12_in a1 (-1 : Int32) (4 : Int32) σ ρ) fun r1 =>
  if r1 = 0 then
    some ((-1 : Int32), σ)
  else
    if (σ 55 11) ≤ (5 : Int32) then
      F_X12_order_27 a1 1024 σ ρ a1 (0 : Int32)
    else
      some ((-9 : Int32), σ)
set_option maxHeartbeats 4000000 in
set_option maxRecDepth 100000 in
theorem w_X12_order_27 {a1 : Int32} {p : Program} {e : Env} {s : State} {m : MethodId} {args : Array Value} {below : List Frame} {meth : Method} {c : Code} {ρ0 : RG} {r : Int32} {σ1 : SG} (C : Cx Y D N ad p s m args meth c cX12_order 3 (some .int) RX12 wsL_law) : ∀ (n : Nat) (σ : SG) (ρ : RG) (v1 : Int32) (v2 : Int32) (H : Heap) (locs : List Loc) (ls : Array Slot), ρ = ρ0 → Lay N K len ρ → F_X12_order_27 a1 n σ ρ v1 v2 = some (r, σ1) → WP Y D N ad K len σ ρ H → va_S (AA N ad s.heap.size) s.heap H locs → lv_has ls 3 [(0, .ref (ad 54)), (1, .int v1), (2, .int v2)] → W p l e rm_X12_order s m args below meth c H locs 0 0 (MQ below (QW Y D N ad K len σ1 ρ0 (AA N ad s.heap.size) (some (.int r))) args s 0 0 (AA N ad s.heap.size)) (F0 m 27 ls []) := by
  have hx := C.1.1
  have hb := C.1.2.1
  intro n
  induction n with
  | zero => intro σ ρ v1 v2 H locs ls hρ0 hL hF; cases hF
  | succ n ih =>
    intro σ ρ v1 v2 H locs ls hρ0 hL hF hP hS hl
    unfold F_X12_order_27 at hF
    refine lv_iload_n hx hb dX12_order_27 rfl (lv_at hl 2 rfl) ?_
    refine lv_iconst (v := 5) hx hb dX12_order_28 (by decide) ?_
    refine lv_icmp_ge (tgt := 46) hx hb dX12_order_29 (by decide) (fun c_4 => ?_) (fun c_4 => ?_) -- COND 4 by_cases c_4 : (5 : Int32) ≤ v2
    · have hF := ite_t hF c_4
      refine lv_aload_n hx hb dX12_order_46 rfl (lv_at hl 0 rfl) ?_
      refine lv_ldc hx hb (C.1.2.2.2.1) (C.1.2.2.2.2 _ mw_659) dX12_order_47 ?_
      obtain ⟨σ6, eσ6, hF⟩ := nm_1 hF
      refine put_12_25 C hP hS (lr_54 hL) (lk_54 hL) inlX12 mw_798 eσ6 dX12_order_49 (fun H locs hP hS => ?_)
      refine lv_aload_n hx hb dX12_order_52 rfl (lv_at hl 0 rfl) ?_
      refine lv_iconst (v := 0) hx hb dX12_order_53 (by decide) ?_
      refine lv_iconst (v := 0) hx hb dX12_order_54 (by decide) ?_
      refine lv_iconst (v := 0) hx hb dX12_order_55 (by decide) ?_
      obtain ⟨σ7, hq7, hF⟩ := bn_1 hF
      refine x_callV (ci := 12) rfl rfl C hP hS (c_X12_ordersFrom hL hq7) (lr_54 hL) (lk_54 hL) (cwV 3 C.1.2.2.2.2 (gdV mw_799 mw_800 mw_801 mw_5 mw_802) rfl rfl rfl hd_X12_ordersFrom ⟨Nat.le_of_ble_eq_true rfl, Nat.le_of_ble_eq_true rfl⟩) rfl rfl hl.1 (Nat.le_of_ble_eq_true rfl) ⟨Nat.zero_le _, Nat.zero_le _⟩ dX12_order_56 (fun H locs hP hS => ?_)
      refine lv_iload_n hx hb dX12_order_59 rfl (lv_at hl 1 rfl) ?_
      refine lv_if_lt (tgt := 72) hx hb dX12_order_60 (by decide) (fun c_8 => ?_) (fun c_8 => ?_) -- COND 8 by_cases c_8 : v1 < 0
      · have hF := ite_t hF c_8
        refine lv_aload_n hx hb dX12_order_72 rfl (lv_at hl 0 rfl) ?_
        refine get_12_25 C hP (lr_54 hL) (lk_54 hL) inlX12 mw_798 dX12_order_73 ?_
        refine lv_ldc hx hb (C.1.2.2.2.1) (C.1.2.2.2.2 _ mw_659) dX12_order_76 ?_
        refine lv_icmp_ne (tgt := 86) hx hb dX12_order_78 (by decide) (fun c_9 => ?_) (fun c_9 => ?_) -- COND 9 rcases (Decidable.em ((σ7 54 25) = (1000000 : Int32))).symm with c_9 | c_9
        · have hF := ite_f hF c_9
          refine lv_aload_n hx hb dX12_order_86 rfl (lv_at hl 0 rfl) ?_
          refine get_12_25 C hP (lr_54 hL) (lk_54 hL) inlX12 mw_798 dX12_order_87 ?_
          obtain ⟨rfl, rfl⟩ := ret_2 hF
          subst hρ0
          exact x_iret rfl C hP hS dX12_order_90
        · have hF := ite_t hF c_9
          refine lv_bipush (v := -5) hx hb dX12_order_81 (by decide +kernel) ?_
          refine lv_goto (tgt := 90) hx hb dX12_order_83 (by decide) ?_
          obtain ⟨rfl, rfl⟩ := ret_2 hF
          subst hρ0
          exact x_iret rfl C hP hS dX12_order_90
      · have hF := ite_f hF c_8
        refine lv_aload_n hx hb dX12_order_63 rfl (lv_at hl 0 rfl) ?_
        refine get_12_24 C hP (lr_54 hL) (lk_54 hL) inlX12 mw_88 (lf_54_24 hL) dX12_order_64 ?_
        refine lv_iload_n hx hb dX12_order_67 rfl (lv_at hl 1 rfl) ?_
        obtain ⟨g10, hF⟩ := gd_1 hF
        refine x_iald C hP (lr_62 hL) (lk_62 hL) (ln_62 hL) g10 dX12_order_68 ?_
        refine lv_goto (tgt := 90) hx hb dX12_order_69 (by decide) ?_
        obtain ⟨rfl, rfl⟩ := ret_2 hF
        subst hρ0
        exact x_iret rfl C hP hS dX12_order_90
    · have hF := ite_f hF c_4
      refine lv_aload_n hx hb dX12_order_32 rfl (lv_at hl 0 rfl) ?_
      refine get_12_24 C hP (lr_54 hL) (lk_54 hL) inlX12 mw_88 (lf_54_24 hL) dX12_order_33 ?_
      refine lv_iload_n hx hb dX12_order_36 rfl (lv_at hl 2 rfl) ?_
      refine lv_bipush (v := -5) hx hb dX12_order_37 (by decide +kernel) ?_
      obtain ⟨g11, hF⟩ := gd_1 hF
      obtain ⟨σ13, eσ13, hF⟩ := nm_1 hF
      refine x_iast (σ1 := σ13) C hP hS (lr_62 hL) (lk_62 hL) (ln_62 hL) g11 eσ13 dX12_order_39 (fun H locs hP hS => ?_)
      obtain ⟨x14, ex14, hF⟩ := nm_1 hF
      refine lv_iinc (v := x14) (lv' := [(2, .int x14), (0, .ref (ad 54)), (1, .int v1)]) hx hb dX12_order_40 hl (k := 2) rfl (by rw [ex14]; first | rfl | decide) (by decide) rfl (fun ls hl => ?_)
      refine lv_goto (tgt := 27) hx hb dX12_order_43 (by decide) ?_
      exact ih _ _ _ _ _ _ _ hρ0 hL hF hP hS (lv_sub hl [1, 2, 0] rfl)
set_option maxHeartbeats 4000000 in
set_option maxRecDepth 100000 in
theorem w_X12_order_0 {a1 : Int32} {p : Program} {e : Env} {s : State} {m : MethodId} {args : Array Value} {below : List Frame} {meth : Method} {c : Code} {ρ0 : RG} {r : Int32} {σ1 : SG} (C : Cx Y D N ad p s m args meth c cX12_order 3 (some .int) RX12 wsL_law) {σ : SG} {ρ : RG} {H : Heap} {locs : List Loc} {ls : Array Slot} (hρ0 : ρ = ρ0) (hL : Lay N K len ρ) (hF : F_X12_order a1 σ ρ = some (r, σ1)) (hP : WP Y D N ad K len σ ρ H) (hS : va_S (AA N ad s.heap.size) s.heap H locs) (hl : lv_has ls 3 [(0, .ref (ad 54)), (1, .int a1)]) : W p l e rm_X12_order s m args below meth c H locs 0 0 (MQ below (QW Y D N ad K len σ1 ρ0 (AA N ad s.heap.size) (some (.int r))) args s 0 0 (AA N ad s.heap.size)) (F0 m 0 ls []) := by
  have hx := C.1.1
  have hb := C.1.2.1
  unfold F_X12_order at hF
  refine lv_iload_n hx hb dX12_order_0 rfl (lv_at hl 1 rfl) ?_
  refine lv_iconst (v := -1) hx hb dX12_order_1 (by decide) ?_
  refine lv_iconst (v := 4) hx hb dX12_order_2 (by decide) ?_
  obtain ⟨r1, hq1, hF⟩ := bn_1 hF
  refine x_callS C hP hS (c_X12_in hL hq1) (va_cwS 3 C.1.2.2.2.2 (gdS mw_104 mw_105 mw_5 mw_106) rfl rfl rfl hd_X12_in.2 ⟨Nat.le_of_ble_eq_true rfl, Nat.le_of_ble_eq_true rfl⟩) rfl rfl hl.1 (Nat.le_of_ble_eq_true rfl) ⟨Nat.zero_le _, Nat.zero_le _⟩ dX12_order_3 (fun H locs hP hS => ?_)
  refine lv_if_ne (tgt := 11) hx hb dX12_order_6 (by decide) (fun c_2 => ?_) (fun c_2 => ?_) -- COND 2 rcases (Decidable.em (r1 = 0)).symm with c_2 | c_2
  · have hF := ite_f hF c_2
    refine lv_aload_n hx hb dX12_order_11 rfl (lv_at hl 0 rfl) ?_
    refine get_12_1 C hP (lr_54 hL) (lk_54 hL) inlX12 mw_81 (lf_54_1 hL) dX12_order_12 ?_
    refine lv_bipush (v := 11) hx hb dX12_order_15 (by decide +kernel) ?_
    refine x_iald C hP (lr_55 hL) (lk_55 hL) (ln_55 hL) (by decide +kernel) dX12_order_17 ?_
    rw [cl_11]
    refine lv_iconst (v := 5) hx hb dX12_order_18 (by decide) ?_
    refine lv_icmp_le (tgt := 25) hx hb dX12_order_19 (by decide) (fun c_3 => ?_) (fun c_3 => ?_) -- COND 3 by_cases c_3 : (σ 55 11) ≤ (5 : Int32)
    · have hF := ite_t hF c_3
      refine lv_iconst (v := 0) hx hb dX12_order_25 (by decide) ?_
      refine lv_istore_n (lv' := [(2, .int (0 : Int32)), (0, .ref (ad 54)), (1, .int a1)]) hx hb dX12_order_26 rfl hl (by decide) rfl (fun ls hl => ?_)
      exact w_X12_order_27 C 1024 _ _ _ _ _ _ _ hρ0 hL hF hP hS (lv_sub hl [1, 2, 0] rfl)
    · have hF := ite_f hF c_3
      refine lv_bipush (v := -9) hx hb dX12_order_22 (by decide +kernel) ?_
      obtain ⟨rfl, rfl⟩ := ret_2 hF
      subst hρ0
      exact x_iret rfl C hP hS dX12_order_24
  · have hF := ite_t hF c_2
    refine lv_iconst (v := -1) hx hb dX12_order_9 (by decide) ?_
    obtain ⟨rfl, rfl⟩ := ret_2 hF
    subst hρ0
    exact x_iret rfl C hP hS dX12_order_10
set_option maxHeartbeats 4000000 in
set_option maxRecDepth 100000 in
theorem c_X12_order {a1 : Int32} {r : Int32} {σ1 : SG} {σ : SG} {ρ : RG} (hL : Lay N K len ρ) (hF : F_X12_order a1 σ ρ = some (r, σ1)) : MT l Y D N ad K len yX12_order (Cond.code yX12_order cX12_order 3 (some .int) :: wsL_law) rm_X12_order [.ref (ad 54), .int a1] σ ρ (some (.int r)) σ1 ρ := by
  refine mt_of (cc := cX12_order) (nL := 3) (ret := (some .int)) (by decide) (Nat.le_of_ble_eq_true rfl) ?_
  intro p e s m args below meth c ls C hnm hP hS hl
  exact w_X12_order_0 C rfl hL hF hP hS hl

/-! CutCrookedModel.private int gameFor(int, int, int, int); B -/
theorem dX12_gameFor_0 : decode cX12_gameFor 0 = .ok (.iload_n 3, 1) := by decide +kernel
theorem dX12_gameFor_1 : decode cX12_gameFor 1 = .ok (.iload 4, 2) := by decide +kernel
theorem dX12_gameFor_3 : decode cX12_gameFor 3 = .ok (.if_icmp .ne 5, 3) := by decide +kernel
theorem dX12_gameFor_6 : decode cX12_gameFor 6 = .ok (.iconst 0, 1) := by decide +kernel
theorem dX12_gameFor_7 : decode cX12_gameFor 7 = .ok (.ireturn, 1) := by decide +kernel
theorem dX12_gameFor_8 : decode cX12_gameFor 8 = .ok (.aload_n 0, 1) := by decide +kernel
theorem dX12_gameFor_9 : decode cX12_gameFor 9 = .ok (.iload_n 3, 1) := by decide +kernel
theorem dX12_gameFor_10 : decode cX12_gameFor 10 = .ok (.invokevirtual 217, 3) := by decide +kernel
theorem dX12_gameFor_13 : decode cX12_gameFor 13 = .ok (.ldc 229, 2) := by decide +kernel
theorem dX12_gameFor_15 : decode cX12_gameFor 15 = .ok (.istore 5, 2) := by decide +kernel
theorem dX12_gameFor_17 : decode cX12_gameFor 17 = .ok (.bipush (-5), 2) := by decide +kernel
theorem dX12_gameFor_19 : decode cX12_gameFor 19 = .ok (.istore 6, 2) := by decide +kernel
theorem dX12_gameFor_21 : decode cX12_gameFor 21 = .ok (.iconst 0, 1) := by decide +kernel
theorem dX12_gameFor_22 : decode cX12_gameFor 22 = .ok (.istore 7, 2) := by decide +kernel
theorem dX12_gameFor_24 : decode cX12_gameFor 24 = .ok (.iload 7, 2) := by decide +kernel
theorem dX12_gameFor_26 : decode cX12_gameFor 26 = .ok (.iconst 3, 1) := by decide +kernel
theorem dX12_gameFor_27 : decode cX12_gameFor 27 = .ok (.if_icmp .ge 117, 3) := by decide +kernel
theorem dX12_gameFor_30 : decode cX12_gameFor 30 = .ok (.aload_n 0, 1) := by decide +kernel
theorem dX12_gameFor_31 : decode cX12_gameFor 31 = .ok (.getfield 9, 3) := by decide +kernel
theorem dX12_gameFor_34 : decode cX12_gameFor 34 = .ok (.bipush 44, 2) := by decide +kernel
theorem dX12_gameFor_36 : decode cX12_gameFor 36 = .ok (.iload_n 1, 1) := by decide +kernel
theorem dX12_gameFor_37 : decode cX12_gameFor 37 = .ok (.iadd, 1) := by decide +kernel
theorem dX12_gameFor_38 : decode cX12_gameFor 38 = .ok (.iaload, 1) := by decide +kernel
theorem dX12_gameFor_39 : decode cX12_gameFor 39 = .ok (.iload 7, 2) := by decide +kernel
theorem dX12_gameFor_41 : decode cX12_gameFor 41 = .ok (.ifCond .ne 7, 3) := by decide +kernel
theorem dX12_gameFor_44 : decode cX12_gameFor 44 = .ok (.iconst 0, 1) := by decide +kernel
theorem dX12_gameFor_45 : decode cX12_gameFor 45 = .ok (.goto 15, 3) := by decide +kernel
theorem dX12_gameFor_48 : decode cX12_gameFor 48 = .ok (.iload 7, 2) := by decide +kernel
theorem dX12_gameFor_50 : decode cX12_gameFor 50 = .ok (.iconst 1, 1) := by decide +kernel
theorem dX12_gameFor_51 : decode cX12_gameFor 51 = .ok (.if_icmp .ne 7, 3) := by decide +kernel
theorem dX12_gameFor_54 : decode cX12_gameFor 54 = .ok (.iconst 5, 1) := by decide +kernel
theorem dX12_gameFor_55 : decode cX12_gameFor 55 = .ok (.goto 5, 3) := by decide +kernel
theorem dX12_gameFor_58 : decode cX12_gameFor 58 = .ok (.bipush (-5), 2) := by decide +kernel
theorem dX12_gameFor_60 : decode cX12_gameFor 60 = .ok (.iadd, 1) := by decide +kernel
theorem dX12_gameFor_61 : decode cX12_gameFor 61 = .ok (.iconst 1, 1) := by decide +kernel
theorem dX12_gameFor_62 : decode cX12_gameFor 62 = .ok (.bipush 40, 2) := by decide +kernel
theorem dX12_gameFor_64 : decode cX12_gameFor 64 = .ok (.invokestatic 171, 3) := by decide +kernel
theorem dX12_gameFor_67 : decode cX12_gameFor 67 = .ok (.istore 8, 2) := by decide +kernel
theorem dX12_gameFor_69 : decode cX12_gameFor 69 = .ok (.aload_n 0, 1) := by decide +kernel
theorem dX12_gameFor_70 : decode cX12_gameFor 70 = .ok (.iload_n 1, 1) := by decide +kernel
theorem dX12_gameFor_71 : decode cX12_gameFor 71 = .ok (.iload 8, 2) := by decide +kernel
theorem dX12_gameFor_73 : decode cX12_gameFor 73 = .ok (.invokevirtual 187, 3) := by decide +kernel
theorem dX12_gameFor_76 : decode cX12_gameFor 76 = .ok (.ifCond .eq 57, 3) := by decide +kernel
theorem dX12_gameFor_79 : decode cX12_gameFor 79 = .ok (.aload_n 0, 1) := by decide +kernel
theorem dX12_gameFor_80 : decode cX12_gameFor 80 = .ok (.getfield 177, 3) := by decide +kernel
theorem dX12_gameFor_83 : decode cX12_gameFor 83 = .ok (.istore 9, 2) := by decide +kernel
theorem dX12_gameFor_85 : decode cX12_gameFor 85 = .ok (.iload 9, 2) := by decide +kernel
theorem dX12_gameFor_87 : decode cX12_gameFor 87 = .ok (.aload_n 0, 1) := by decide +kernel
theorem dX12_gameFor_88 : decode cX12_gameFor 88 = .ok (.iload_n 2, 1) := by decide +kernel
theorem dX12_gameFor_89 : decode cX12_gameFor 89 = .ok (.iload_n 1, 1) := by decide +kernel
theorem dX12_gameFor_90 : decode cX12_gameFor 90 = .ok (.iload_n 3, 1) := by decide +kernel
theorem dX12_gameFor_91 : decode cX12_gameFor 91 = .ok (.iconst 1, 1) := by decide +kernel
theorem dX12_gameFor_92 : decode cX12_gameFor 92 = .ok (.iadd, 1) := by decide +kernel
theorem dX12_gameFor_93 : decode cX12_gameFor 93 = .ok (.iload 4, 2) := by decide +kernel
theorem dX12_gameFor_95 : decode cX12_gameFor 95 = .ok (.invokevirtual 230, 3) := by decide +kernel
theorem dX12_gameFor_98 : decode cX12_gameFor 98 = .ok (.isub, 1) := by decide +kernel
theorem dX12_gameFor_99 : decode cX12_gameFor 99 = .ok (.istore 9, 2) := by decide +kernel
theorem dX12_gameFor_101 : decode cX12_gameFor 101 = .ok (.iload 9, 2) := by decide +kernel
theorem dX12_gameFor_103 : decode cX12_gameFor 103 = .ok (.iload 5, 2) := by decide +kernel
theorem dX12_gameFor_105 : decode cX12_gameFor 105 = .ok (.if_icmp .le 8, 3) := by decide +kernel
theorem dX12_gameFor_108 : decode cX12_gameFor 108 = .ok (.iload 7, 2) := by decide +kernel
theorem dX12_gameFor_110 : decode cX12_gameFor 110 = .ok (.goto 5, 3) := by decide +kernel
theorem dX12_gameFor_113 : decode cX12_gameFor 113 = .ok (.iload 6, 2) := by decide +kernel
theorem dX12_gameFor_115 : decode cX12_gameFor 115 = .ok (.istore 6, 2) := by decide +kernel
theorem dX12_gameFor_117 : decode cX12_gameFor 117 = .ok (.iload 9, 2) := by decide +kernel
theorem dX12_gameFor_119 : decode cX12_gameFor 119 = .ok (.iload 5, 2) := by decide +kernel
theorem dX12_gameFor_121 : decode cX12_gameFor 121 = .ok (.if_icmp .le 8, 3) := by decide +kernel
theorem dX12_gameFor_124 : decode cX12_gameFor 124 = .ok (.iload 9, 2) := by decide +kernel
theorem dX12_gameFor_126 : decode cX12_gameFor 126 = .ok (.goto 5, 3) := by decide +kernel
theorem dX12_gameFor_129 : decode cX12_gameFor 129 = .ok (.iload 5, 2) := by decide +kernel
theorem dX12_gameFor_131 : decode cX12_gameFor 131 = .ok (.istore 5, 2) := by decide +kernel
theorem dX12_gameFor_133 : decode cX12_gameFor 133 = .ok (.aload_n 0, 1) := by decide +kernel
theorem dX12_gameFor_134 : decode cX12_gameFor 134 = .ok (.iload_n 3, 1) := by decide +kernel
theorem dX12_gameFor_135 : decode cX12_gameFor 135 = .ok (.invokevirtual 223, 3) := by decide +kernel
theorem dX12_gameFor_138 : decode cX12_gameFor 138 = .ok (.iinc 7 1, 3) := by decide +kernel
theorem dX12_gameFor_141 : decode cX12_gameFor 141 = .ok (.goto (-117), 3) := by decide +kernel
theorem dX12_gameFor_144 : decode cX12_gameFor 144 = .ok (.iload 6, 2) := by decide +kernel
theorem dX12_gameFor_146 : decode cX12_gameFor 146 = .ok (.bipush (-5), 2) := by decide +kernel
theorem dX12_gameFor_148 : decode cX12_gameFor 148 = .ok (.if_icmp .ne 18, 3) := by decide +kernel
theorem dX12_gameFor_151 : decode cX12_gameFor 151 = .ok (.aload_n 0, 1) := by decide +kernel
theorem dX12_gameFor_152 : decode cX12_gameFor 152 = .ok (.iload_n 2, 1) := by decide +kernel
theorem dX12_gameFor_153 : decode cX12_gameFor 153 = .ok (.iload_n 1, 1) := by decide +kernel
theorem dX12_gameFor_154 : decode cX12_gameFor 154 = .ok (.iload_n 3, 1) := by decide +kernel
theorem dX12_gameFor_155 : decode cX12_gameFor 155 = .ok (.iconst 1, 1) := by decide +kernel
theorem dX12_gameFor_156 : decode cX12_gameFor 156 = .ok (.iadd, 1) := by decide +kernel
theorem dX12_gameFor_157 : decode cX12_gameFor 157 = .ok (.iload 4, 2) := by decide +kernel
theorem dX12_gameFor_159 : decode cX12_gameFor 159 = .ok (.invokevirtual 230, 3) := by decide +kernel
theorem dX12_gameFor_162 : decode cX12_gameFor 162 = .ok (.ineg, 1) := by decide +kernel
theorem dX12_gameFor_163 : decode cX12_gameFor 163 = .ok (.goto 5, 3) := by decide +kernel
theorem dX12_gameFor_166 : decode cX12_gameFor 166 = .ok (.iload 5, 2) := by decide +kernel
theorem dX12_gameFor_168 : decode cX12_gameFor 168 = .ok (.istore 7, 2) := by decide +kernel
theorem dX12_gameFor_170 : decode cX12_gameFor 170 = .ok (.aload_n 0, 1) := by decide +kernel
theorem dX12_gameFor_171 : decode cX12_gameFor 171 = .ok (.iload 6, 2) := by decide +kernel
theorem dX12_gameFor_173 : decode cX12_gameFor 173 = .ok (.putfield 233, 3) := by decide +kernel
theorem dX12_gameFor_176 : decode cX12_gameFor 176 = .ok (.iload 7, 2) := by decide +kernel
theorem dX12_gameFor_178 : decode cX12_gameFor 178 = .ok (.ireturn, 1) := by decide +kernel
theorem hd_X12_gameFor : yX12_gameFor.cls = RX12 ∧ yX12_gameFor.cls ≠ "java/lang/invoke/MethodHandle" ∧ yX12_gameFor.cls ≠ "java/lang/invoke/VarHandle" ∧ (parseMethodDescriptor yX12_gameFor.desc).map (fun d => d.parameters.length) = some 4 := by decide +kernel
abbrev rm_X12_gameFor_B (fR lR : Nat) : Room := { frames := 4 + fR + 1, cells := 0, slots := 0, locals := 93 + lR }
def F_X12_gameFor_B_133 (R : Int32 → Int32 → Int32 → Int32 → SG → RG → Option (Int32 × SG)) (a1 : Int32) (a2 : Int32) (a3 : Int32) (a4 : Int32) (rec_24 : SG → RG → Int32 → Int32 → Int32 → Int32 → Int32 → Int32 → Int32 → Option (Int32 × SG)) (σ : SG) (ρ : RG) (v1 : Int32) (v2 : Int32) (v3 : Int32) (v4 : Int32) (v5 : Int32) (v6 : Int32) (v7 : Int32) : Option (Int32 × SG) :=
  bn (F_X12_standsBack v3 σ ρ) fun σ20 =>
  nm (v7 + (1 : Int32)) fun x21 =>
  rec_24 σ20 ρ v1 v2 v3 v4 v5 v6 x21
def F_X12_gameFor_B_131 (R : Int32 → Int32 → Int32 → Int32 → SG → RG → Option (Int32 × SG)) (a1 : Int32) (a2 : Int32) (a3 : Int32) (a4 : Int32) (rec_24 : SG → RG → Int32 → Int32 → Int32 → Int32 → Int32 → Int32 → Int32 → Option (Int32 × SG)) (σ : SG) (ρ : RG) (v1 : Int32) (v2 : Int32) (v3 : Int32) (v4 : Int32) (v6 : Int32) (v7 : Int32) (k0 : Int32) : Option (Int32 × SG) :=
  F_X12_gameFor_B_133 R a1 a2 a3 a4 rec_24 σ ρ v1 v2 v3 v4 k0 v6 v7
def F_X12_gameFor_B_115 (R : Int32 → Int32 → Int32 → Int32 → SG → RG → Option (Int32 × SG)) (a1 : Int32) (a2 : Int32) (a3 : Int32) (a4 : Int32) (rec_24 : SG → RG → Int32 → Int32 → Int32 → Int32 → Int32 → Int32 → Int32 → Option (Int32 × SG)) (σ : SG) (ρ : RG) (v1 : Int32) (v2 : Int32) (v3 : Int32) (v4 : Int32) (v5 : Int32) (v7 : Int32) (v9 : Int32) (k0 : Int32) : Option (Int32 × SG) :=
  if v9 ≤ v5 then
    F_X12_gameFor_B_131 R a1 a2 a3 a4 rec_24 σ ρ v1 v2 v3 v4 k0 v7 v5
  else
    F_X12_gameFor_B_131 R a1 a2 a3 a4 rec_24 σ ρ v1 v2 v3 v4 k0 v7 v9
def F_X12_gameFor_B_60 (R : Int32 → Int32 → Int32 → Int32 → SG → RG → Option (Int32 × SG)) (a1 : Int32) (a2 : Int32) (a3 : Int32) (a4 : Int32) (rec_24 : SG → RG → Int32 → Int32 → Int32 → Int32 → Int32 → Int32 → Int32 → Option (Int32 × SG)) (σ : SG) (ρ : RG) (v1 : Int32) (v2 : Int32) (v3 : Int32) (v4 : Int32) (v5 : Int32) (v6 : Int32) (v7 : Int32) (k0 : Int32) (k1 : Int32) : Option (Int32 × SG) :=
  nm (k0 + k1) fun x16 =>
  bn (F_X12_within x16 (1 : Int32) (40 : Int32) σ ρ) fun r17 =>
  bn2 (F_X12_cuts v1 r17 σ ρ) fun r18 σ18 =>
  if r18 = 0 then
    F_X12_gameFor_B_133 R a1 a2 a3 a4 rec_24 σ18 ρ v1 v2 v3 v4 v5 v6 v7
  else
    nm (v3 + (1 : Int32)) fun x22 =>
    bn2 (R v2 v1 x22 v4 σ18 ρ) fun r23 σ23 =>
    nm ((σ18 54 14) - r23) fun x24 =>
    if x24 ≤ v5 then
      F_X12_gameFor_B_115 R a1 a2 a3 a4 rec_24 σ23 ρ v1 v2 v3 v4 v5 v7 x24 v6
    else
      F_X12_gameFor_B_115 R a1 a2 a3 a4 rec_24 σ23 ρ v1 v2 v3 v4 v5 v7 x24 v7
def F_X12_gameFor_B_24 (R : Int32 → Int32 → Int32 → Int32 → SG → RG → Option (Int32 × SG)) (a1 : Int32) (a2 : Int32) (a3 : Int32) (a4 : Int32) : Nat → SG → RG → Int32 → Int32 → Int32 → Int32 → Int32 → Int32 → Int32 → Option (Int32 × SG)
  | 0 => fun _ _ _ _ _ _ _ _ _ => none
  | n + 1 => fun σ ρ v1 v2 v3 v4 v5 v6 v7 =>
  if (3 : Int32) ≤ v7 then
    if v6 = (-5 : Int32) then
      nm (v3 + (1 : Int32)) fun x7 =>
      bn2 (R v2 v1 x7 v4 σ ρ) fun r8 σ8 =>
      nm (-r8) fun x9 =>
      nm (s2 σ8 54 26 v6) fun σ11 =>
      some (x9, σ11)
    else
      nm (s2 σ 54 26 v6) fun σ6 =>
      some (v5, σ6)
  else
    nm ((44 : Int32) + v1) fun x12 =>
    gd (inb x12 909) <|
    if v7 = 0 then
      F_X12_gameFor_B_60 R a1 a2 a3 a4 (F_X12_gameFor_B_24 R a1 a2 a3 a4 n) σ ρ v1 v2 v3 v4 v5 v6 v7 (σ 55 (x12).toNatClampNeg) (0 : Int32)
    else
      if v7 = (1 : Int32) then
        F_X12_gameFor_B_60 R a1 a2 a3 a4 (F_X12_gameFor_B_24 R a1 a2 a3 a4 n) σ ρ v1 v2 v3 v4 v5 v6 v7 (σ 55 (x12).toNatClampNeg) (5 : Int32)
      else
        F_X12_gameFor_B_60 R a1 a2 a3 a4 (F_X12_gameFor_B_24 R a1 a2 a3 a4 n) σ ρ v1 v2 v3 v4 v5 v6 v7 (σ 55 (x12).toNatClampNeg) (-5 : Int32)
def F_X12_gameFor_B (R : Int32 → Int32 → Int32 → Int32 → SG → RG → Option (Int32 × SG)) (a1 : Int32) (a2 : Int32) (a3 : Int32) (a4 : Int32) (σ : SG) (ρ : RG) : Option (Int32 × SG) :=
  if a3 = a4 then
    some ((0 : Int32), σ)
  else
    bn (F_X12_stands a3 σ ρ) fun σ2 =>
    F_X12_gameFor_B_24 R a1 a2 a3 a4 1024 σ2 ρ a1 a2 a3 a4 (-1000000 : Int32) (-5 : Int32) (0 : Int32)
set_option maxHeartbeats 4000000 in
set_option maxRecDepth 100000 in
theorem w_X12_gameFor_B_133 {R : Int32 → Int32 → Int32 → Int32 → SG → RG → Option (Int32 × SG)} {a1 : Int32} {a2 : Int32} {a3 : Int32} {a4 : Int32} {rec_24 : SG → RG → Int32 → Int32 → Int32 → Int32 → Int32 → Int32 → Int32 → Option (Int32 × SG)} {p : Program} {e : Env} {s : State} {m : MethodId} {args : Array Value} {below : List Frame} {meth : Method} {c : Code} {ρ0 : RG} {r : Int32} {σ1 : SG} (C : Cx Y D N ad p s m args meth c cX12_gameFor 10 (some .int) RX12 wsL_law) (hrec_24 : ∀ (σ : SG) (ρ : RG) (v1 : Int32) (v2 : Int32) (v3 : Int32) (v4 : Int32) (v5 : Int32) (v6 : Int32) (v7 : Int32) (H : Heap) (locs : List Loc) (ls : Array Slot), ρ = ρ0 → Lay N K len ρ → (∀ {a1 : Int32} {a2 : Int32} {a3 : Int32} {a4 : Int32} {r : Int32} {σ1 : SG} {σ : SG} {ρ : RG}, Lay N K len ρ → R a1 a2 a3 a4 σ ρ = some (r, σ1) → MT l Y D N ad K len yX12_gameFor (Cond.code yX12_gameFor cX12_gameFor 10 (some .int) :: wsL_law) (rmk fR lR) [.ref (ad 54), .int a1, .int a2, .int a3, .int a4] σ ρ (some (.int r)) σ1 ρ) → rec_24 σ ρ v1 v2 v3 v4 v5 v6 v7 = some (r, σ1) → WP Y D N ad K len σ ρ H → va_S (AA N ad s.heap.size) s.heap H locs → lv_has ls 10 [(0, .ref (ad 54)), (1, .int v1), (2, .int v2), (3, .int v3), (4, .int v4), (5, .int v5), (6, .int v6), (7, .int v7)] → W p l e (rm_X12_gameFor_B fR lR) s m args below meth c H locs 0 0 (MQ below (QW Y D N ad K len σ1 ρ0 (AA N ad s.heap.size) (some (.int r))) args s 0 0 (AA N ad s.heap.size)) (F0 m 24 ls [])) {σ : SG} {ρ : RG} {v1 : Int32} {v2 : Int32} {v3 : Int32} {v4 : Int32} {v5 : Int32} {v6 : Int32} {v7 : Int32} {H : Heap} {locs : List Loc} {ls : Array Slot} (hρ0 : ρ = ρ0) (hL : Lay N K len ρ) (hRM : (∀ {a1 : Int32} {a2 : Int32} {a3 : Int32} {a4 : Int32} {r : Int32} {σ1 : SG} {σ : SG} {ρ : RG}, Lay N K len ρ → R a1 a2 a3 a4 σ ρ = some (r, σ1) → MT l Y D N ad K len yX12_gameFor (Cond.code yX12_gameFor cX12_gameFor 10 (some .int) :: wsL_law) (rmk fR lR) [.ref (ad 54), .int a1, .int a2, .int a3, .int a4] σ ρ (some (.int r)) σ1 ρ)) (hF : F_X12_gameFor_B_133 R a1 a2 a3 a4 rec_24 σ ρ v1 v2 v3 v4 v5 v6 v7 = some (r, σ1)) (hP : WP Y D N ad K len σ ρ H) (hS : va_S (AA N ad s.heap.size) s.heap H locs) (hl : lv_has ls 10 [(0, .ref (ad 54)), (1, .int v1), (2, .int v2), (3, .int v3), (4, .int v4), (5, .int v5), (6, .int v6), (7, .int v7)]) : W p l e (rm_X12_gameFor_B fR lR) s m args below meth c H locs 0 0 (MQ below (QW Y D N ad K len σ1 ρ0 (AA N ad s.heap.size) (some (.int r))) args s 0 0 (AA N ad s.heap.size)) (F0 m 133 ls []) := by
  have hx := C.1.1
  have hb := C.1.2.1
  unfold F_X12_gameFor_B_133 at hF
  refine lv_aload_n hx hb dX12_gameFor_133 rfl (lv_at hl 0 rfl) ?_
  refine lv_iload_n hx hb dX12_gameFor_134 rfl (lv_at hl 3 rfl) ?_
  obtain ⟨σ20, hq20, hF⟩ := bn_1 hF
  refine x_callV (ci := 12) rfl rfl C hP hS (c_X12_standsBack hL hq20) (lr_54 hL) (lk_54 hL) (cwV 1 C.1.2.2.2.2 (gdV mw_807 mw_808 mw_809 mw_5 mw_810) rfl rfl rfl hd_X12_standsBack ⟨by show 1 ≤ 4 + fR + 1; omega, by show 22 ≤ 93 + lR; omega⟩) rfl rfl hl.1 (Nat.le_of_ble_eq_true rfl) ⟨Nat.zero_le _, Nat.zero_le _⟩ dX12_gameFor_135 (fun H locs hP hS => ?_)
  obtain ⟨x21, ex21, hF⟩ := nm_1 hF
  refine lv_iinc (v := x21) (lv' := [(7, .int x21), (0, .ref (ad 54)), (1, .int v1), (2, .int v2), (3, .int v3), (4, .int v4), (5, .int v5), (6, .int v6)]) hx hb dX12_gameFor_138 hl (k := 7) rfl (by rw [ex21]; first | rfl | decide) (by decide) rfl (fun ls hl => ?_)
  refine lv_goto (tgt := 24) hx hb dX12_gameFor_141 (by decide) ?_
  exact hrec_24 _ _ _ _ _ _ _ _ _ _ _ _ hρ0 hL hRM hF hP hS (lv_sub hl [1, 2, 3, 4, 5, 6, 7, 0] rfl)
set_option maxHeartbeats 4000000 in
set_option maxRecDepth 100000 in
theorem w_X12_gameFor_B_131 {R : Int32 → Int32 → Int32 → Int32 → SG → RG → Option (Int32 × SG)} {a1 : Int32} {a2 : Int32} {a3 : Int32} {a4 : Int32} {rec_24 : SG → RG → Int32 → Int32 → Int32 → Int32 → Int32 → Int32 → Int32 → Option (Int32 × SG)} {p : Program} {e : Env} {s : State} {m : MethodId} {args : Array Value} {below : List Frame} {meth : Method} {c : Code} {ρ0 : RG} {r : Int32} {σ1 : SG} (C : Cx Y D N ad p s m args meth c cX12_gameFor 10 (some .int) RX12 wsL_law) (hrec_24 : ∀ (σ : SG) (ρ : RG) (v1 : Int32) (v2 : Int32) (v3 : Int32) (v4 : Int32) (v5 : Int32) (v6 : Int32) (v7 : Int32) (H : Heap) (locs : List Loc) (ls : Array Slot), ρ = ρ0 → Lay N K len ρ → (∀ {a1 : Int32} {a2 : Int32} {a3 : Int32} {a4 : Int32} {r : Int32} {σ1 : SG} {σ : SG} {ρ : RG}, Lay N K len ρ → R a1 a2 a3 a4 σ ρ = some (r, σ1) → MT l Y D N ad K len yX12_gameFor (Cond.code yX12_gameFor cX12_gameFor 10 (some .int) :: wsL_law) (rmk fR lR) [.ref (ad 54), .int a1, .int a2, .int a3, .int a4] σ ρ (some (.int r)) σ1 ρ) → rec_24 σ ρ v1 v2 v3 v4 v5 v6 v7 = some (r, σ1) → WP Y D N ad K len σ ρ H → va_S (AA N ad s.heap.size) s.heap H locs → lv_has ls 10 [(0, .ref (ad 54)), (1, .int v1), (2, .int v2), (3, .int v3), (4, .int v4), (5, .int v5), (6, .int v6), (7, .int v7)] → W p l e (rm_X12_gameFor_B fR lR) s m args below meth c H locs 0 0 (MQ below (QW Y D N ad K len σ1 ρ0 (AA N ad s.heap.size) (some (.int r))) args s 0 0 (AA N ad s.heap.size)) (F0 m 24 ls [])) {σ : SG} {ρ : RG} {v1 : Int32} {v2 : Int32} {v3 : Int32} {v4 : Int32} {v6 : Int32} {v7 : Int32} {k0 : Int32} {H : Heap} {locs : List Loc} {ls : Array Slot} (hρ0 : ρ = ρ0) (hL : Lay N K len ρ) (hRM : (∀ {a1 : Int32} {a2 : Int32} {a3 : Int32} {a4 : Int32} {r : Int32} {σ1 : SG} {σ : SG} {ρ : RG}, Lay N K len ρ → R a1 a2 a3 a4 σ ρ = some (r, σ1) → MT l Y D N ad K len yX12_gameFor (Cond.code yX12_gameFor cX12_gameFor 10 (some .int) :: wsL_law) (rmk fR lR) [.ref (ad 54), .int a1, .int a2, .int a3, .int a4] σ ρ (some (.int r)) σ1 ρ)) (hF : F_X12_gameFor_B_131 R a1 a2 a3 a4 rec_24 σ ρ v1 v2 v3 v4 v6 v7 k0 = some (r, σ1)) (hP : WP Y D N ad K len σ ρ H) (hS : va_S (AA N ad s.heap.size) s.heap H locs) (hl : lv_has ls 10 [(0, .ref (ad 54)), (1, .int v1), (2, .int v2), (3, .int v3), (4, .int v4), (6, .int v6), (7, .int v7)]) : W p l e (rm_X12_gameFor_B fR lR) s m args below meth c H locs 0 0 (MQ below (QW Y D N ad K len σ1 ρ0 (AA N ad s.heap.size) (some (.int r))) args s 0 0 (AA N ad s.heap.size)) (F0 m 131 ls [.int k0]) := by
  have hx := C.1.1
  have hb := C.1.2.1
  unfold F_X12_gameFor_B_131 at hF
  refine lv_istore (lv' := [(5, .int k0), (0, .ref (ad 54)), (1, .int v1), (2, .int v2), (3, .int v3), (4, .int v4), (6, .int v6), (7, .int v7)]) hx hb dX12_gameFor_131 hl (by decide) rfl (fun ls hl => ?_)
  exact w_X12_gameFor_B_133 C hrec_24 hρ0 hL hRM hF hP hS (lv_sub hl [1, 2, 3, 4, 5, 0, 6, 7] rfl)
set_option maxHeartbeats 4000000 in
set_option maxRecDepth 100000 in
theorem w_X12_gameFor_B_115 {R : Int32 → Int32 → Int32 → Int32 → SG → RG → Option (Int32 × SG)} {a1 : Int32} {a2 : Int32} {a3 : Int32} {a4 : Int32} {rec_24 : SG → RG → Int32 → Int32 → Int32 → Int32 → Int32 → Int32 → Int32 → Option (Int32 × SG)} {p : Program} {e : Env} {s : State} {m : MethodId} {args : Array Value} {below : List Frame} {meth : Method} {c : Code} {ρ0 : RG} {r : Int32} {σ1 : SG} (C : Cx Y D N ad p s m args meth c cX12_gameFor 10 (some .int) RX12 wsL_law) (hrec_24 : ∀ (σ : SG) (ρ : RG) (v1 : Int32) (v2 : Int32) (v3 : Int32) (v4 : Int32) (v5 : Int32) (v6 : Int32) (v7 : Int32) (H : Heap) (locs : List Loc) (ls : Array Slot), ρ = ρ0 → Lay N K len ρ → (∀ {a1 : Int32} {a2 : Int32} {a3 : Int32} {a4 : Int32} {r : Int32} {σ1 : SG} {σ : SG} {ρ : RG}, Lay N K len ρ → R a1 a2 a3 a4 σ ρ = some (r, σ1) → MT l Y D N ad K len yX12_gameFor (Cond.code yX12_gameFor cX12_gameFor 10 (some .int) :: wsL_law) (rmk fR lR) [.ref (ad 54), .int a1, .int a2, .int a3, .int a4] σ ρ (some (.int r)) σ1 ρ) → rec_24 σ ρ v1 v2 v3 v4 v5 v6 v7 = some (r, σ1) → WP Y D N ad K len σ ρ H → va_S (AA N ad s.heap.size) s.heap H locs → lv_has ls 10 [(0, .ref (ad 54)), (1, .int v1), (2, .int v2), (3, .int v3), (4, .int v4), (5, .int v5), (6, .int v6), (7, .int v7)] → W p l e (rm_X12_gameFor_B fR lR) s m args below meth c H locs 0 0 (MQ below (QW Y D N ad K len σ1 ρ0 (AA N ad s.heap.size) (some (.int r))) args s 0 0 (AA N ad s.heap.size)) (F0 m 24 ls [])) {σ : SG} {ρ : RG} {v1 : Int32} {v2 : Int32} {v3 : Int32} {v4 : Int32} {v5 : Int32} {v7 : Int32} {v9 : Int32} {k0 : Int32} {H : Heap} {locs : List Loc} {ls : Array Slot} (hρ0 : ρ = ρ0) (hL : Lay N K len ρ) (hRM : (∀ {a1 : Int32} {a2 : Int32} {a3 : Int32} {a4 : Int32} {r : Int32} {σ1 : SG} {σ : SG} {ρ : RG}, Lay N K len ρ → R a1 a2 a3 a4 σ ρ = some (r, σ1) → MT l Y D N ad K len yX12_gameFor (Cond.code yX12_gameFor cX12_gameFor 10 (some .int) :: wsL_law) (rmk fR lR) [.ref (ad 54), .int a1, .int a2, .int a3, .int a4] σ ρ (some (.int r)) σ1 ρ)) (hF : F_X12_gameFor_B_115 R a1 a2 a3 a4 rec_24 σ ρ v1 v2 v3 v4 v5 v7 v9 k0 = some (r, σ1)) (hP : WP Y D N ad K len σ ρ H) (hS : va_S (AA N ad s.heap.size) s.heap H locs) (hl : lv_has ls 10 [(0, .ref (ad 54)), (1, .int v1), (2, .int v2), (3, .int v3), (4, .int v4), (5, .int v5), (7, .int v7), (9, .int v9)]) : W p l e (rm_X12_gameFor_B fR lR) s m args below meth c H locs 0 0 (MQ below (QW Y D N ad K len σ1 ρ0 (AA N ad s.heap.size) (some (.int r))) args s 0 0 (AA N ad s.heap.size)) (F0 m 115 ls [.int k0]) := by
  have hx := C.1.1
  have hb := C.1.2.1
  unfold F_X12_gameFor_B_115 at hF
  refine lv_istore (lv' := [(6, .int k0), (0, .ref (ad 54)), (1, .int v1), (2, .int v2), (3, .int v3), (4, .int v4), (5, .int v5), (7, .int v7), (9, .int v9)]) hx hb dX12_gameFor_115 hl (by decide) rfl (fun ls hl => ?_)
  refine lv_iload hx hb dX12_gameFor_117 (lv_at hl 8 rfl) ?_
  refine lv_iload hx hb dX12_gameFor_119 (lv_at hl 6 rfl) ?_
  refine lv_icmp_le (tgt := 129) hx hb dX12_gameFor_121 (by decide) (fun c_26 => ?_) (fun c_26 => ?_) -- COND 26 by_cases c_26 : v9 ≤ v5
  · have hF := ite_t hF c_26
    refine lv_iload hx hb dX12_gameFor_129 (lv_at hl 6 rfl) ?_
    exact w_X12_gameFor_B_131 C hrec_24 hρ0 hL hRM hF hP hS (lv_sub hl [1, 2, 3, 4, 5, 0, 7] rfl)
  · have hF := ite_f hF c_26
    refine lv_iload hx hb dX12_gameFor_124 (lv_at hl 8 rfl) ?_
    refine lv_goto (tgt := 131) hx hb dX12_gameFor_126 (by decide) ?_
    exact w_X12_gameFor_B_131 C hrec_24 hρ0 hL hRM hF hP hS (lv_sub hl [1, 2, 3, 4, 5, 0, 7] rfl)
set_option maxHeartbeats 4000000 in
set_option maxRecDepth 100000 in
theorem w_X12_gameFor_B_60 {R : Int32 → Int32 → Int32 → Int32 → SG → RG → Option (Int32 × SG)} {a1 : Int32} {a2 : Int32} {a3 : Int32} {a4 : Int32} {rec_24 : SG → RG → Int32 → Int32 → Int32 → Int32 → Int32 → Int32 → Int32 → Option (Int32 × SG)} {p : Program} {e : Env} {s : State} {m : MethodId} {args : Array Value} {below : List Frame} {meth : Method} {c : Code} {ρ0 : RG} {r : Int32} {σ1 : SG} (C : Cx Y D N ad p s m args meth c cX12_gameFor 10 (some .int) RX12 wsL_law) (hrec_24 : ∀ (σ : SG) (ρ : RG) (v1 : Int32) (v2 : Int32) (v3 : Int32) (v4 : Int32) (v5 : Int32) (v6 : Int32) (v7 : Int32) (H : Heap) (locs : List Loc) (ls : Array Slot), ρ = ρ0 → Lay N K len ρ → (∀ {a1 : Int32} {a2 : Int32} {a3 : Int32} {a4 : Int32} {r : Int32} {σ1 : SG} {σ : SG} {ρ : RG}, Lay N K len ρ → R a1 a2 a3 a4 σ ρ = some (r, σ1) → MT l Y D N ad K len yX12_gameFor (Cond.code yX12_gameFor cX12_gameFor 10 (some .int) :: wsL_law) (rmk fR lR) [.ref (ad 54), .int a1, .int a2, .int a3, .int a4] σ ρ (some (.int r)) σ1 ρ) → rec_24 σ ρ v1 v2 v3 v4 v5 v6 v7 = some (r, σ1) → WP Y D N ad K len σ ρ H → va_S (AA N ad s.heap.size) s.heap H locs → lv_has ls 10 [(0, .ref (ad 54)), (1, .int v1), (2, .int v2), (3, .int v3), (4, .int v4), (5, .int v5), (6, .int v6), (7, .int v7)] → W p l e (rm_X12_gameFor_B fR lR) s m args below meth c H locs 0 0 (MQ below (QW Y D N ad K len σ1 ρ0 (AA N ad s.heap.size) (some (.int r))) args s 0 0 (AA N ad s.heap.size)) (F0 m 24 ls [])) {σ : SG} {ρ : RG} {v1 : Int32} {v2 : Int32} {v3 : Int32} {v4 : Int32} {v5 : Int32} {v6 : Int32} {v7 : Int32} {k0 : Int32} {k1 : Int32} {H : Heap} {locs : List Loc} {ls : Array Slot} (hρ0 : ρ = ρ0) (hL : Lay N K len ρ) (hRM : (∀ {a1 : Int32} {a2 : Int32} {a3 : Int32} {a4 : Int32} {r : Int32} {σ1 : SG} {σ : SG} {ρ : RG}, Lay N K len ρ → R a1 a2 a3 a4 σ ρ = some (r, σ1) → MT l Y D N ad K len yX12_gameFor (Cond.code yX12_gameFor cX12_gameFor 10 (some .int) :: wsL_law) (rmk fR lR) [.ref (ad 54), .int a1, .int a2, .int a3, .int a4] σ ρ (some (.int r)) σ1 ρ)) (hF : F_X12_gameFor_B_60 R a1 a2 a3 a4 rec_24 σ ρ v1 v2 v3 v4 v5 v6 v7 k0 k1 = some (r, σ1)) (hP : WP Y D N ad K len σ ρ H) (hS : va_S (AA N ad s.heap.size) s.heap H locs) (hl : lv_has ls 10 [(0, .ref (ad 54)), (1, .int v1), (2, .int v2), (3, .int v3), (4, .int v4), (5, .int v5), (6, .int v6), (7, .int v7)]) : W p l e (rm_X12_gameFor_B fR lR) s m args below meth c H locs 0 0 (MQ below (QW Y D N ad K len σ1 ρ0 (AA N ad s.heap.size) (some (.int r))) args s 0 0 (AA N ad s.heap.size)) (F0 m 60 ls [.int k1, .int k0]) := by
  have hx := C.1.1
  have hb := C.1.2.1
  unfold F_X12_gameFor_B_60 at hF
  refine lv_iadd hx hb dX12_gameFor_60 ?_
  obtain ⟨x16, ex16, hF⟩ := nm_1 hF
  refine x_top ex16 ?_
  refine lv_iconst (v := 1) hx hb dX12_gameFor_61 (by decide) ?_
  refine lv_bipush (v := 40) hx hb dX12_gameFor_62 (by decide +kernel) ?_
  obtain ⟨r17, hq17, hF⟩ := bn_1 hF
  refine x_callS C hP hS (c_X12_within hL hq17) (va_cwS 3 C.1.2.2.2.2 (gdS mw_686 mw_687 mw_5 mw_688) rfl rfl rfl hd_X12_within.2 ⟨by show 1 ≤ 4 + fR + 1; omega, by show 22 ≤ 93 + lR; omega⟩) rfl rfl hl.1 (Nat.le_of_ble_eq_true rfl) ⟨Nat.zero_le _, Nat.zero_le _⟩ dX12_gameFor_64 (fun H locs hP hS => ?_)
  refine lv_istore (lv' := [(8, .int r17), (0, .ref (ad 54)), (1, .int v1), (2, .int v2), (3, .int v3), (4, .int v4), (5, .int v5), (6, .int v6), (7, .int v7)]) hx hb dX12_gameFor_67 hl (by decide) rfl (fun ls hl => ?_)
  refine lv_aload_n hx hb dX12_gameFor_69 rfl (lv_at hl 1 rfl) ?_
  refine lv_iload_n hx hb dX12_gameFor_70 rfl (lv_at hl 2 rfl) ?_
  refine lv_iload hx hb dX12_gameFor_71 (lv_at hl 0 rfl) ?_
  obtain ⟨r18, σ18, hq18, hF⟩ := bn2_1 hF
  refine x_callV (ci := 12) rfl rfl C hP hS (c_X12_cuts hL hq18) (lr_54 hL) (lk_54 hL) (cwV 2 C.1.2.2.2.2 (gdV mw_652 mw_653 mw_654 mw_5 mw_655) rfl rfl rfl hd_X12_cuts ⟨by show 4 ≤ 4 + fR + 1; omega, by show 93 ≤ 93 + lR; omega⟩) rfl rfl hl.1 (Nat.le_of_ble_eq_true rfl) ⟨Nat.zero_le _, Nat.zero_le _⟩ dX12_gameFor_73 (fun H locs hP hS => ?_)
  refine lv_if_eq (tgt := 133) hx hb dX12_gameFor_76 (by decide) (fun c_19 => ?_) (fun c_19 => ?_) -- COND 19 by_cases c_19 : r18 = 0
  · have hF := ite_t hF c_19
    exact w_X12_gameFor_B_133 C hrec_24 hρ0 hL hRM hF hP hS (lv_sub hl [1, 2, 3, 4, 5, 6, 7, 8] rfl)
  · have hF := ite_f hF c_19
    refine lv_aload_n hx hb dX12_gameFor_79 rfl (lv_at hl 1 rfl) ?_
    refine get_12_14 C hP (lr_54 hL) (lk_54 hL) inlX12 mw_651 dX12_gameFor_80 ?_
    refine lv_istore (lv' := [(9, .int (σ18 54 14)), (8, .int r17), (0, .ref (ad 54)), (1, .int v1), (2, .int v2), (3, .int v3), (4, .int v4), (5, .int v5), (6, .int v6), (7, .int v7)]) hx hb dX12_gameFor_83 hl (by decide) rfl (fun ls hl => ?_)
    refine lv_iload hx hb dX12_gameFor_85 (lv_at hl 0 rfl) ?_
    refine lv_aload_n hx hb dX12_gameFor_87 rfl (lv_at hl 2 rfl) ?_
    refine lv_iload_n hx hb dX12_gameFor_88 rfl (lv_at hl 4 rfl) ?_
    refine lv_iload_n hx hb dX12_gameFor_89 rfl (lv_at hl 3 rfl) ?_
    refine lv_iload_n hx hb dX12_gameFor_90 rfl (lv_at hl 5 rfl) ?_
    refine lv_iconst (v := 1) hx hb dX12_gameFor_91 (by decide) ?_
    refine lv_iadd hx hb dX12_gameFor_92 ?_
    obtain ⟨x22, ex22, hF⟩ := nm_1 hF
    refine x_top ex22 ?_
    refine lv_iload hx hb dX12_gameFor_93 (lv_at hl 6 rfl) ?_
    obtain ⟨r23, σ23, hq23, hF⟩ := bn2_1 hF
    refine x_callV (ci := 12) rfl rfl C hP hS (hRM hL hq23) (lr_54 hL) (lk_54 hL) (cwV 4 C.1.2.2.2.2 (gdV mw_882 mw_883 mw_884 mw_5 mw_885) rfl rfl rfl hd_X12_gameFor ⟨by show fR + 1 ≤ 4 + fR + 1; omega, by show 29 + lR ≤ 93 + lR; omega⟩) rfl rfl hl.1 (Nat.le_of_ble_eq_true rfl) ⟨Nat.zero_le _, Nat.zero_le _⟩ dX12_gameFor_95 (fun H locs hP hS => ?_)
    refine lv_isub hx hb dX12_gameFor_98 ?_
    obtain ⟨x24, ex24, hF⟩ := nm_1 hF
    refine x_top ex24 ?_
    refine lv_istore (lv' := [(9, .int x24), (8, .int r17), (0, .ref (ad 54)), (1, .int v1), (2, .int v2), (3, .int v3), (4, .int v4), (5, .int v5), (6, .int v6), (7, .int v7)]) hx hb dX12_gameFor_99 hl (by decide) rfl (fun ls hl => ?_)
    refine lv_iload hx hb dX12_gameFor_101 (lv_at hl 0 rfl) ?_
    refine lv_iload hx hb dX12_gameFor_103 (lv_at hl 7 rfl) ?_
    refine lv_icmp_le (tgt := 113) hx hb dX12_gameFor_105 (by decide) (fun c_25 => ?_) (fun c_25 => ?_) -- COND 25 by_cases c_25 : x24 ≤ v5
    · have hF := ite_t hF c_25
      refine lv_iload hx hb dX12_gameFor_113 (lv_at hl 8 rfl) ?_
      exact w_X12_gameFor_B_115 C hrec_24 hρ0 hL hRM hF hP hS (lv_sub hl [2, 3, 4, 5, 6, 7, 9, 0] rfl)
    · have hF := ite_f hF c_25
      refine lv_iload hx hb dX12_gameFor_108 (lv_at hl 9 rfl) ?_
      refine lv_goto (tgt := 115) hx hb dX12_gameFor_110 (by decide) ?_
      exact w_X12_gameFor_B_115 C hrec_24 hρ0 hL hRM hF hP hS (lv_sub hl [2, 3, 4, 5, 6, 7, 9, 0] rfl)
set_option maxHeartbeats 4000000 in
set_option maxRecDepth 100000 in
theorem w_X12_gameFor_B_24 {R : Int32 → Int32 → Int32 → Int32 → SG → RG → Option (Int32 × SG)} {a1 : Int32} {a2 : Int32} {a3 : Int32} {a4 : Int32} {p : Program} {e : Env} {s : State} {m : MethodId} {args : Array Value} {below : List Frame} {meth : Method} {c : Code} {ρ0 : RG} {r : Int32} {σ1 : SG} (C : Cx Y D N ad p s m args meth c cX12_gameFor 10 (some .int) RX12 wsL_law) : ∀ (n : Nat) (σ : SG) (ρ : RG) (v1 : Int32) (v2 : Int32) (v3 : Int32) (v4 : Int32) (v5 : Int32) (v6 : Int32) (v7 : Int32) (H : Heap) (locs : List Loc) (ls : Array Slot), ρ = ρ0 → Lay N K len ρ → (∀ {a1 : Int32} {a2 : Int32} {a3 : Int32} {a4 : Int32} {r : Int32} {σ1 : SG} {σ : SG} {ρ : RG}, Lay N K len ρ → R a1 a2 a3 a4 σ ρ = some (r, σ1) → MT l Y D N ad K len yX12_gameFor (Cond.code yX12_gameFor cX12_gameFor 10 (some .int) :: wsL_law) (rmk fR lR) [.ref (ad 54), .int a1, .int a2, .int a3, .int a4] σ ρ (some (.int r)) σ1 ρ) → F_X12_gameFor_B_24 R a1 a2 a3 a4 n σ ρ v1 v2 v3 v4 v5 v6 v7 = some (r, σ1) → WP Y D N ad K len σ ρ H → va_S (AA N ad s.heap.size) s.heap H locs → lv_has ls 10 [(0, .ref (ad 54)), (1, .int v1), (2, .int v2), (3, .int v3), (4, .int v4), (5, .int v5), (6, .int v6), (7, .int v7)] → W p l e (rm_X12_gameFor_B fR lR) s m args below meth c H locs 0 0 (MQ below (QW Y D N ad K len σ1 ρ0 (AA N ad s.heap.size) (some (.int r))) args s 0 0 (AA N ad s.heap.size)) (F0 m 24 ls []) := by
  have hx := C.1.1
  have hb := C.1.2.1
  intro n
  induction n with
  | zero => intro σ ρ v1 v2 v3 v4 v5 v6 v7 H locs ls hρ0 hL hRM hF; cases hF
  | succ n ih =>
    intro σ ρ v1 v2 v3 v4 v5 v6 v7 H locs ls hρ0 hL hRM hF hP hS hl
    unfold F_X12_gameFor_B_24 at hF
    refine lv_iload hx hb dX12_gameFor_24 (lv_at hl 7 rfl) ?_
    refine lv_iconst (v := 3) hx hb dX12_gameFor_26 (by decide) ?_
    refine lv_icmp_ge (tgt := 144) hx hb dX12_gameFor_27 (by decide) (fun c_3 => ?_) (fun c_3 => ?_) -- COND 3 by_cases c_3 : (3 : Int32) ≤ v7
    · have hF := ite_t hF c_3
      refine lv_iload hx hb dX12_gameFor_144 (lv_at hl 6 rfl) ?_
      refine lv_bipush (v := -5) hx hb dX12_gameFor_146 (by decide +kernel) ?_
      refine lv_icmp_ne (tgt := 166) hx hb dX12_gameFor_148 (by decide) (fun c_4 => ?_) (fun c_4 => ?_) -- COND 4 rcases (Decidable.em (v6 = (-5 : Int32))).symm with c_4 | c_4
      · have hF := ite_f hF c_4
        refine lv_iload hx hb dX12_gameFor_166 (lv_at hl 5 rfl) ?_
        refine lv_istore (lv' := [(7, .int v5), (0, .ref (ad 54)), (1, .int v1), (2, .int v2), (3, .int v3), (4, .int v4), (5, .int v5), (6, .int v6)]) hx hb dX12_gameFor_168 hl (by decide) rfl (fun ls hl => ?_)
        refine lv_aload_n hx hb dX12_gameFor_170 rfl (lv_at hl 1 rfl) ?_
        refine lv_iload hx hb dX12_gameFor_171 (lv_at hl 7 rfl) ?_
        obtain ⟨σ6, eσ6, hF⟩ := nm_1 hF
        refine put_12_26 C hP hS (lr_54 hL) (lk_54 hL) inlX12 mw_881 eσ6 dX12_gameFor_173 (fun H locs hP hS => ?_)
        refine lv_iload hx hb dX12_gameFor_176 (lv_at hl 0 rfl) ?_
        obtain ⟨rfl, rfl⟩ := ret_2 hF
        subst hρ0
        exact x_iret rfl C hP hS dX12_gameFor_178
      · have hF := ite_t hF c_4
        refine lv_aload_n hx hb dX12_gameFor_151 rfl (lv_at hl 0 rfl) ?_
        refine lv_iload_n hx hb dX12_gameFor_152 rfl (lv_at hl 2 rfl) ?_
        refine lv_iload_n hx hb dX12_gameFor_153 rfl (lv_at hl 1 rfl) ?_
        refine lv_iload_n hx hb dX12_gameFor_154 rfl (lv_at hl 3 rfl) ?_
        refine lv_iconst (v := 1) hx hb dX12_gameFor_155 (by decide) ?_
        refine lv_iadd hx hb dX12_gameFor_156 ?_
        obtain ⟨x7, ex7, hF⟩ := nm_1 hF
        refine x_top ex7 ?_
        refine lv_iload hx hb dX12_gameFor_157 (lv_at hl 4 rfl) ?_
        obtain ⟨r8, σ8, hq8, hF⟩ := bn2_1 hF
        refine x_callV (ci := 12) rfl rfl C hP hS (hRM hL hq8) (lr_54 hL) (lk_54 hL) (cwV 4 C.1.2.2.2.2 (gdV mw_882 mw_883 mw_884 mw_5 mw_885) rfl rfl rfl hd_X12_gameFor ⟨by show fR + 1 ≤ 4 + fR + 1; omega, by show 29 + lR ≤ 93 + lR; omega⟩) rfl rfl hl.1 (Nat.le_of_ble_eq_true rfl) ⟨Nat.zero_le _, Nat.zero_le _⟩ dX12_gameFor_159 (fun H locs hP hS => ?_)
        refine lv_ineg hx hb dX12_gameFor_162 ?_
        obtain ⟨x9, ex9, hF⟩ := nm_1 hF
        refine x_top ex9 ?_
        refine lv_goto (tgt := 168) hx hb dX12_gameFor_163 (by decide) ?_
        refine lv_istore (lv' := [(7, .int x9), (0, .ref (ad 54)), (1, .int v1), (2, .int v2), (3, .int v3), (4, .int v4), (5, .int v5), (6, .int v6)]) hx hb dX12_gameFor_168 hl (by decide) rfl (fun ls hl => ?_)
        refine lv_aload_n hx hb dX12_gameFor_170 rfl (lv_at hl 1 rfl) ?_
        refine lv_iload hx hb dX12_gameFor_171 (lv_at hl 7 rfl) ?_
        obtain ⟨σ11, eσ11, hF⟩ := nm_1 hF
        refine put_12_26 C hP hS (lr_54 hL) (lk_54 hL) inlX12 mw_881 eσ11 dX12_gameFor_173 (fun H locs hP hS => ?_)
        refine lv_iload hx hb dX12_gameFor_176 (lv_at hl 0 rfl) ?_
        obtain ⟨rfl, rfl⟩ := ret_2 hF
        subst hρ0
        exact x_iret rfl C hP hS dX12_gameFor_178
    · have hF := ite_f hF c_3
      refine lv_aload_n hx hb dX12_gameFor_30 rfl (lv_at hl 0 rfl) ?_
      refine get_12_1 C hP (lr_54 hL) (lk_54 hL) inlX12 mw_81 (lf_54_1 hL) dX12_gameFor_31 ?_
      refine lv_bipush (v := 44) hx hb dX12_gameFor_34 (by decide +kernel) ?_
      refine lv_iload_n hx hb dX12_gameFor_36 rfl (lv_at hl 1 rfl) ?_
      refine lv_iadd hx hb dX12_gameFor_37 ?_
      obtain ⟨x12, ex12, hF⟩ := nm_1 hF
      refine x_top ex12 ?_
      obtain ⟨g13, hF⟩ := gd_1 hF
      refine x_iald C hP (lr_55 hL) (lk_55 hL) (ln_55 hL) g13 dX12_gameFor_38 ?_
      refine lv_iload hx hb dX12_gameFor_39 (lv_at hl 7 rfl) ?_
      refine lv_if_ne (tgt := 48) hx hb dX12_gameFor_41 (by decide) (fun c_14 => ?_) (fun c_14 => ?_) -- COND 14 rcases (Decidable.em (v7 = 0)).symm with c_14 | c_14
      · have hF := ite_f hF c_14
        refine lv_iload hx hb dX12_gameFor_48 (lv_at hl 7 rfl) ?_
        refine lv_iconst (v := 1) hx hb dX12_gameFor_50 (by decide) ?_
        refine lv_icmp_ne (tgt := 58) hx hb dX12_gameFor_51 (by decide) (fun c_15 => ?_) (fun c_15 => ?_) -- COND 15 rcases (Decidable.em (v7 = (1 : Int32))).symm with c_15 | c_15
        · have hF := ite_f hF c_15
          refine lv_bipush (v := -5) hx hb dX12_gameFor_58 (by decide +kernel) ?_
          exact w_X12_gameFor_B_60 C ih hρ0 hL hRM hF hP hS (lv_sub hl [0, 1, 2, 3, 4, 5, 6, 7] rfl)
        · have hF := ite_t hF c_15
          refine lv_iconst (v := 5) hx hb dX12_gameFor_54 (by decide) ?_
          refine lv_goto (tgt := 60) hx hb dX12_gameFor_55 (by decide) ?_
          exact w_X12_gameFor_B_60 C ih hρ0 hL hRM hF hP hS (lv_sub hl [0, 1, 2, 3, 4, 5, 6, 7] rfl)
      · have hF := ite_t hF c_14
        refine lv_iconst (v := 0) hx hb dX12_gameFor_44 (by decide) ?_
        refine lv_goto (tgt := 60) hx hb dX12_gameFor_45 (by decide) ?_
        exact w_X12_gameFor_B_60 C ih hρ0 hL hRM hF hP hS (lv_sub hl [0, 1, 2, 3, 4, 5, 6, 7] rfl)
set_option maxHeartbeats 4000000 in
set_option maxRecDepth 100000 in
theorem w_X12_gameFor_B_0 {R : Int32 → Int32 → Int32 → Int32 → SG → RG → Option (Int32 × SG)} {a1 : Int32} {a2 : Int32} {a3 : Int32} {a4 : Int32} {p : Program} {e : Env} {s : State} {m : MethodId} {args : Array Value} {below : List Frame} {meth : Method} {c : Code} {ρ0 : RG} {r : Int32} {σ1 : SG} (C : Cx Y D N ad p s m args meth c cX12_gameFor 10 (some .int) RX12 wsL_law) {σ : SG} {ρ : RG} {H : Heap} {locs : List Loc} {ls : Array Slot} (hρ0 : ρ = ρ0) (hL : Lay N K len ρ) (hRM : (∀ {a1 : Int32} {a2 : Int32} {a3 : Int32} {a4 : Int32} {r : Int32} {σ1 : SG} {σ : SG} {ρ : RG}, Lay N K len ρ → R a1 a2 a3 a4 σ ρ = some (r, σ1) → MT l Y D N ad K len yX12_gameFor (Cond.code yX12_gameFor cX12_gameFor 10 (some .int) :: wsL_law) (rmk fR lR) [.ref (ad 54), .int a1, .int a2, .int a3, .int a4] σ ρ (some (.int r)) σ1 ρ)) (hF : F_X12_gameFor_B R a1 a2 a3 a4 σ ρ = some (r, σ1)) (hP : WP Y D N ad K len σ ρ H) (hS : va_S (AA N ad s.heap.size) s.heap H locs) (hl : lv_has ls 10 [(0, .ref (ad 54)), (1, .int a1), (2, .int a2), (3, .int a3), (4, .int a4)]) : W p l e (rm_X12_gameFor_B fR lR) s m args below meth c H locs 0 0 (MQ below (QW Y D N ad K len σ1 ρ0 (AA N ad s.heap.size) (some (.int r))) args s 0 0 (AA N ad s.heap.size)) (F0 m 0 ls []) := by
  have hx := C.1.1
  have hb := C.1.2.1
  unfold F_X12_gameFor_B at hF
  refine lv_iload_n hx hb dX12_gameFor_0 rfl (lv_at hl 3 rfl) ?_
  refine lv_iload hx hb dX12_gameFor_1 (lv_at hl 4 rfl) ?_
  refine lv_icmp_ne (tgt := 8) hx hb dX12_gameFor_3 (by decide) (fun c_1 => ?_) (fun c_1 => ?_) -- COND 1 rcases (Decidable.em (a3 = a4)).symm with c_1 | c_1
  · have hF := ite_f hF c_1
    refine lv_aload_n hx hb dX12_gameFor_8 rfl (lv_at hl 0 rfl) ?_
    refine lv_iload_n hx hb dX12_gameFor_9 rfl (lv_at hl 3 rfl) ?_
    obtain ⟨σ2, hq2, hF⟩ := bn_1 hF
    refine x_callV (ci := 12) rfl rfl C hP hS (c_X12_stands hL hq2) (lr_54 hL) (lk_54 hL) (cwV 1 C.1.2.2.2.2 (gdV mw_803 mw_804 mw_805 mw_5 mw_806) rfl rfl rfl hd_X12_stands ⟨by show 1 ≤ 4 + fR + 1; omega, by show 22 ≤ 93 + lR; omega⟩) rfl rfl hl.1 (Nat.le_of_ble_eq_true rfl) ⟨Nat.zero_le _, Nat.zero_le _⟩ dX12_gameFor_10 (fun H locs hP hS => ?_)
    refine lv_ldc hx hb (C.1.2.2.2.1) (C.1.2.2.2.2 _ mw_886) dX12_gameFor_13 ?_
    refine lv_istore (lv' := [(5, .int (-1000000 : Int32)), (0, .ref (ad 54)), (1, .int a1), (2, .int a2), (3, .int a3), (4, .int a4)]) hx hb dX12_gameFor_15 hl (by decide) rfl (fun ls hl => ?_)
    refine lv_bipush (v := -5) hx hb dX12_gameFor_17 (by decide +kernel) ?_
    refine lv_istore (lv' := [(6, .int (-5 : Int32)), (5, .int (-1000000 : Int32)), (0, .ref (ad 54)), (1, .int a1), (2, .int a2), (3, .int a3), (4, .int a4)]) hx hb dX12_gameFor_19 hl (by decide) rfl (fun ls hl => ?_)
    refine lv_iconst (v := 0) hx hb dX12_gameFor_21 (by decide) ?_
    refine lv_istore (lv' := [(7, .int (0 : Int32)), (6, .int (-5 : Int32)), (5, .int (-1000000 : Int32)), (0, .ref (ad 54)), (1, .int a1), (2, .int a2), (3, .int a3), (4, .int a4)]) hx hb dX12_gameFor_22 hl (by decide) rfl (fun ls hl => ?_)
    exact w_X12_gameFor_B_24 C 1024 _ _ _ _ _ _ _ _ _ _ _ _ hρ0 hL hRM hF hP hS (lv_sub hl [3, 4, 5, 6, 7, 2, 1, 0] rfl)
  · have hF := ite_t hF c_1
    refine lv_iconst (v := 0) hx hb dX12_gameFor_6 (by decide) ?_
    obtain ⟨rfl, rfl⟩ := ret_2 hF
    subst hρ0
    exact x_iret rfl C hP hS dX12_gameFor_7
set_option maxHeartbeats 4000000 in
set_option maxRecDepth 100000 in
theorem c_X12_gameFor_B {R : Int32 → Int32 → Int32 → Int32 → SG → RG → Option (Int32 × SG)} {a1 : Int32} {a2 : Int32} {a3 : Int32} {a4 : Int32} {r : Int32} {σ1 : SG} {σ : SG} {ρ : RG} (hL : Lay N K len ρ) (hRM : (∀ {a1 : Int32} {a2 : Int32} {a3 : Int32} {a4 : Int32} {r : Int32} {σ1 : SG} {σ : SG} {ρ : RG}, Lay N K len ρ → R a1 a2 a3 a4 σ ρ = some (r, σ1) → MT l Y D N ad K len yX12_gameFor (Cond.code yX12_gameFor cX12_gameFor 10 (some .int) :: wsL_law) (rmk fR lR) [.ref (ad 54), .int a1, .int a2, .int a3, .int a4] σ ρ (some (.int r)) σ1 ρ)) (hF : F_X12_gameFor_B R a1 a2 a3 a4 σ ρ = some (r, σ1)) : MT l Y D N ad K len yX12_gameFor (Cond.code yX12_gameFor cX12_gameFor 10 (some .int) :: wsL_law) (rm_X12_gameFor_B fR lR) [.ref (ad 54), .int a1, .int a2, .int a3, .int a4] σ ρ (some (.int r)) σ1 ρ := by
  refine mt_of (cc := cX12_gameFor) (nL := 10) (ret := (some .int)) (by decide) (Nat.le_of_ble_eq_true rfl) ?_
  intro p e s m args below meth c ls C hnm hP hS hl
  exact w_X12_gameFor_B_0 C rfl hL hRM hF hP hS hl

def F_X12_gameFor_R : Nat → Int32 → Int32 → Int32 → Int32 → SG → RG → Option (Int32 × SG)
  | 0 => fun _ _ _ _ _ _ => none
  | d + 1 => fun a1 a2 a3 a4 σ ρ => F_X12_gameFor_B (F_X12_gameFor_R d) a1 a2 a3 a4 σ ρ
def fr_X12_gameFor_R : Nat → Nat
  | 0 => 0
  | d + 1 => 4 + fr_X12_gameFor_R d + 1
def lo_X12_gameFor_R : Nat → Nat
  | 0 => 0
  | d + 1 => 93 + lo_X12_gameFor_R d
theorem c_X12_gameFor_R (d : Nat) : ∀ {a1 : Int32} {a2 : Int32} {a3 : Int32} {a4 : Int32} {r : Int32} {σ1 : SG} {σ : SG} {ρ : RG}, Lay N K len ρ → F_X12_gameFor_R d a1 a2 a3 a4 σ ρ = some (r, σ1) → MT l Y D N ad K len yX12_gameFor (Cond.code yX12_gameFor cX12_gameFor 10 (some .int) :: wsL_law) (rmk (fr_X12_gameFor_R d) (lo_X12_gameFor_R d)) [.ref (ad 54), .int a1, .int a2, .int a3, .int a4] σ ρ (some (.int r)) σ1 ρ := by
  induction d with
  | zero => intros; contradiction
  | succ d ih =>
    intro a1 a2 a3 a4 r σ1 σ ρ hL hF
    exact c_X12_gameFor_B (R := F_X12_gameFor_R d) (fR := fr_X12_gameFor_R d) (lR := lo_X12_gameFor_R d) hL ih hF
def F_X12_gameFor (a1 : Int32) (a2 : Int32) (a3 : Int32) (a4 : Int32) (σ : SG) (ρ : RG) : Option (Int32 × SG) := F_X12_gameFor_R 7 a1 a2 a3 a4 σ ρ
abbrev rm_X12_gameFor : Room := { frames := 35, cells := 0, slots := 0, locals := 651 }
theorem rm_X12_gameFor_eq : rmk (fr_X12_gameFor_R 7) (lo_X12_gameFor_R 7) = rm_X12_gameFor := rfl
theorem c_X12_gameFor : ∀ {a1 : Int32} {a2 : Int32} {a3 : Int32} {a4 : Int32} {r : Int32} {σ1 : SG} {σ : SG} {ρ : RG}, Lay N K len ρ → F_X12_gameFor a1 a2 a3 a4 σ ρ = some (r, σ1) → MT l Y D N ad K len yX12_gameFor (Cond.code yX12_gameFor cX12_gameFor 10 (some .int) :: wsL_law) rm_X12_gameFor [.ref (ad 54), .int a1, .int a2, .int a3, .int a4] σ ρ (some (.int r)) σ1 ρ := rm_X12_gameFor_eq ▸ c_X12_gameFor_R 7

/-! CutCrookedModel.public int game(int, int, int, int);  -/
theorem dX12_game_0 : decode cX12_game 0 = .ok (.aload_n 0, 1) := by decide +kernel
theorem dX12_game_1 : decode cX12_game 1 = .ok (.iload_n 1, 1) := by decide +kernel
theorem dX12_game_2 : decode cX12_game 2 = .ok (.invokevirtual 143, 3) := by decide +kernel
theorem dX12_game_5 : decode cX12_game 5 = .ok (.ifCond .eq 21, 3) := by decide +kernel
theorem dX12_game_8 : decode cX12_game 8 = .ok (.aload_n 0, 1) := by decide +kernel
theorem dX12_game_9 : decode cX12_game 9 = .ok (.iload_n 2, 1) := by decide +kernel
theorem dX12_game_10 : decode cX12_game 10 = .ok (.invokevirtual 143, 3) := by decide +kernel
theorem dX12_game_13 : decode cX12_game 13 = .ok (.ifCond .eq 13, 3) := by decide +kernel
theorem dX12_game_16 : decode cX12_game 16 = .ok (.iload 4, 2) := by decide +kernel
theorem dX12_game_18 : decode cX12_game 18 = .ok (.iconst 0, 1) := by decide +kernel
theorem dX12_game_19 : decode cX12_game 19 = .ok (.iconst 1, 1) := by decide +kernel
theorem dX12_game_20 : decode cX12_game 20 = .ok (.invokestatic 47, 3) := by decide +kernel
theorem dX12_game_23 : decode cX12_game 23 = .ok (.ifCond .ne 7, 3) := by decide +kernel
theorem dX12_game_26 : decode cX12_game 26 = .ok (.sipush (-10001), 3) := by decide +kernel
theorem dX12_game_29 : decode cX12_game 29 = .ok (.ireturn, 1) := by decide +kernel
theorem dX12_game_30 : decode cX12_game 30 = .ok (.iload_n 1, 1) := by decide +kernel
theorem dX12_game_31 : decode cX12_game 31 = .ok (.iload_n 2, 1) := by decide +kernel
theorem dX12_game_32 : decode cX12_game 32 = .ok (.if_icmp .eq 12, 3) := by decide +kernel
theorem dX12_game_35 : decode cX12_game 35 = .ok (.iload_n 3, 1) := by decide +kernel
theorem dX12_game_36 : decode cX12_game 36 = .ok (.iconst 1, 1) := by decide +kernel
theorem dX12_game_37 : decode cX12_game 37 = .ok (.iconst 5, 1) := by decide +kernel
theorem dX12_game_38 : decode cX12_game 38 = .ok (.invokestatic 47, 3) := by decide +kernel
theorem dX12_game_41 : decode cX12_game 41 = .ok (.ifCond .ne 7, 3) := by decide +kernel
theorem dX12_game_44 : decode cX12_game 44 = .ok (.sipush (-10002), 3) := by decide +kernel
theorem dX12_game_47 : decode cX12_game 47 = .ok (.ireturn, 1) := by decide +kernel
theorem dX12_game_48 : decode cX12_game 48 = .ok (.aload_n 0, 1) := by decide +kernel
theorem dX12_game_49 : decode cX12_game 49 = .ok (.iload_n 1, 1) := by decide +kernel
theorem dX12_game_50 : decode cX12_game 50 = .ok (.iload_n 2, 1) := by decide +kernel
theorem dX12_game_51 : decode cX12_game 51 = .ok (.iconst 0, 1) := by decide +kernel
theorem dX12_game_52 : decode cX12_game 52 = .ok (.iload_n 3, 1) := by decide +kernel
theorem dX12_game_53 : decode cX12_game 53 = .ok (.invokevirtual 230, 3) := by decide +kernel
theorem dX12_game_56 : decode cX12_game 56 = .ok (.istore 5, 2) := by decide +kernel
theorem dX12_game_58 : decode cX12_game 58 = .ok (.iload 4, 2) := by decide +kernel
theorem dX12_game_60 : decode cX12_game 60 = .ok (.ifCond .ne 8, 3) := by decide +kernel
theorem dX12_game_63 : decode cX12_game 63 = .ok (.iload 5, 2) := by decide +kernel
theorem dX12_game_65 : decode cX12_game 65 = .ok (.goto 7, 3) := by decide +kernel
theorem dX12_game_68 : decode cX12_game 68 = .ok (.aload_n 0, 1) := by decide +kernel
theorem dX12_game_69 : decode cX12_game 69 = .ok (.getfield 233, 3) := by decide +kernel
theorem dX12_game_72 : decode cX12_game 72 = .ok (.ireturn, 1) := by decide +kernel
theorem hd_X12_game : yX12_game.cls = RX12 ∧ yX12_game.cls ≠ "java/lang/invoke/MethodHandle" ∧ yX12_game.cls ≠ "java/lang/invoke/VarHandle" ∧ (parseMethodDescriptor yX12_game.desc).map (fun d => d.parameters.length) = some 4 := by decide +kernel
abbrev rm_X12_game : Room := { frames := 36, cells := 0, slots := 0, locals := 680 }
def F_X12_game (a1 : Int32) (a2 : Int32) (a3 : Int32) (a4 : Int32) (σ : SG) (ρ : RG) : Option (Int32 × SG) :=
  bn (F_X12_isCutter a1 σ ρ) fun r1 =>
  if r1 = 0 then
    some ((-10001 : Int32), σ)
  else
    bn (F_X12_isCutter a2 σ ρ) fun r3 =>
    if r3 = 0 then
      some ((-10001 : Int32), σ)
    else
      bn (F_X12_in a4 (0 : Int32) (1 : Int32) σ ρ) fun r5 =>
      if r5 = 0 then
        some ((-10001 : Int32), σ)
      else
        if a1 = a2 then
          some ((-10002 : Int32), σ)
        else
          bn (F_X12_in a3 (1 : Int32) (5 : Int32) σ ρ) fun r8 =>
          if r8 = 0 then
            some ((-10002 : Int32), σ)
          else
            bn2 (F_X12_gameFor a1 a2 (0 : Int32) a3 σ ρ) fun r10 σ10 =>
            if a4 = 0 then
              some (r10, σ10)
            else
              some ((σ10 54 26), σ10)
set_option maxHeartbeats 4000000 in
set_option maxRecDepth 100000 in
theorem w_X12_game_0 {a1 : Int32} {a2 : Int32} {a3 : Int32} {a4 : Int32} {p : Program} {e : Env} {s : State} {m : MethodId} {args : Array Value} {below : List Frame} {meth : Method} {c : Code} {ρ0 : RG} {r : Int32} {σ1 : SG} (C : Cx Y D N ad p s m args meth c cX12_game 6 (some .int) RX12 wsL_law) {σ : SG} {ρ : RG} {H : Heap} {locs : List Loc} {ls : Array Slot} (hρ0 : ρ = ρ0) (hL : Lay N K len ρ) (hF : F_X12_game a1 a2 a3 a4 σ ρ = some (r, σ1)) (hP : WP Y D N ad K len σ ρ H) (hS : va_S (AA N ad s.heap.size) s.heap H locs) (hl : lv_has ls 6 [(0, .ref (ad 54)), (1, .int a1), (2, .int a2), (3, .int a3), (4, .int a4)]) : W p l e rm_X12_game s m args below meth c H locs 0 0 (MQ below (QW Y D N ad K len σ1 ρ0 (AA N ad s.heap.size) (some (.int r))) args s 0 0 (AA N ad s.heap.size)) (F0 m 0 ls []) := by
  have hx := C.1.1
  have hb := C.1.2.1
  unfold F_X12_game at hF
  refine lv_aload_n hx hb dX12_game_0 rfl (lv_at hl 0 rfl) ?_
  refine lv_iload_n hx hb dX12_game_1 rfl (lv_at hl 1 rfl) ?_
  obtain ⟨r1, hq1, hF⟩ := bn_1 hF
  refine x_callV (ci := 12) rfl rfl C hP hS (c_X12_isCutter hL hq1) (lr_54 hL) (lk_54 hL) (cwV 1 C.1.2.2.2.2 (gdV mw_462 mw_463 mw_464 mw_5 mw_465) rfl rfl rfl hd_X12_isCutter ⟨Nat.le_of_ble_eq_true rfl, Nat.le_of_ble_eq_true rfl⟩) rfl rfl hl.1 (Nat.le_of_ble_eq_true rfl) ⟨Nat.zero_le _, Nat.zero_le _⟩ dX12_game_2 (fun H locs hP hS => ?_)
  refine lv_if_eq (tgt := 26) hx hb dX12_game_5 (by decide) (fun c_2 => ?_) (fun c_2 => ?_) -- COND 2 by_cases c_2 : r1 = 0
  · have hF := ite_t hF c_2
    refine lv_sipush (v := -10001) hx hb dX12_game_26 (by decide +kernel) ?_
    obtain ⟨rfl, rfl⟩ := ret_2 hF
    subst hρ0
    exact x_iret rfl C hP hS dX12_game_29
  · have hF := ite_f hF c_2
    refine lv_aload_n hx hb dX12_game_8 rfl (lv_at hl 0 rfl) ?_
    refine lv_iload_n hx hb dX12_game_9 rfl (lv_at hl 2 rfl) ?_
    obtain ⟨r3, hq3, hF⟩ := bn_1 hF
    refine x_callV (ci := 12) rfl rfl C hP hS (c_X12_isCutter hL hq3) (lr_54 hL) (lk_54 hL) (cwV 1 C.1.2.2.2.2 (gdV mw_462 mw_463 mw_464 mw_5 mw_465) rfl rfl rfl hd_X12_isCutter ⟨Nat.le_of_ble_eq_true rfl, Nat.le_of_ble_eq_true rfl⟩) rfl rfl hl.1 (Nat.le_of_ble_eq_true rfl) ⟨Nat.zero_le _, Nat.zero_le _⟩ dX12_game_10 (fun H locs hP hS => ?_)
    refine lv_if_eq (tgt := 26) hx hb dX12_game_13 (by decide) (fun c_4 => ?_) (fun c_4 => ?_) -- COND 4 by_cases c_4 : r3 = 0
    · have hF := ite_t hF c_4
      refine lv_sipush (v := -10001) hx hb dX12_game_26 (by decide +kernel) ?_
      obtain ⟨rfl, rfl⟩ := ret_2 hF
      subst hρ0
      exact x_iret rfl C hP hS dX12_game_29
    · have hF := ite_f hF c_4
      refine lv_iload hx hb dX12_game_16 (lv_at hl 4 rfl) ?_
      refine lv_iconst (v := 0) hx hb dX12_game_18 (by decide) ?_
      refine lv_iconst (v := 1) hx hb dX12_game_19 (by decide) ?_
      obtain ⟨r5, hq5, hF⟩ := bn_1 hF
      refine x_callS C hP hS (c_X12_in hL hq5) (va_cwS 3 C.1.2.2.2.2 (gdS mw_104 mw_105 mw_5 mw_106) rfl rfl rfl hd_X12_in.2 ⟨Nat.le_of_ble_eq_true rfl, Nat.le_of_ble_eq_true rfl⟩) rfl rfl hl.1 (Nat.le_of_ble_eq_true rfl) ⟨Nat.zero_le _, Nat.zero_le _⟩ dX12_game_20 (fun H locs hP hS => ?_)
      refine lv_if_ne (tgt := 30) hx hb dX12_game_23 (by decide) (fun c_6 => ?_) (fun c_6 => ?_) -- COND 6 rcases (Decidable.em (r5 = 0)).symm with c_6 | c_6
      · have hF := ite_f hF c_6
        refine lv_iload_n hx hb dX12_game_30 rfl (lv_at hl 1 rfl) ?_
        refine lv_iload_n hx hb dX12_game_31 rfl (lv_at hl 2 rfl) ?_
        refine lv_icmp_eq (tgt := 44) hx hb dX12_game_32 (by decide) (fun c_7 => ?_) (fun c_7 => ?_) -- COND 7 by_cases c_7 : a1 = a2
        · have hF := ite_t hF c_7
          refine lv_sipush (v := -10002) hx hb dX12_game_44 (by decide +kernel) ?_
          obtain ⟨rfl, rfl⟩ := ret_2 hF
          subst hρ0
          exact x_iret rfl C hP hS dX12_game_47
        · have hF := ite_f hF c_7
          refine lv_iload_n hx hb dX12_game_35 rfl (lv_at hl 3 rfl) ?_
          refine lv_iconst (v := 1) hx hb dX12_game_36 (by decide) ?_
          refine lv_iconst (v := 5) hx hb dX12_game_37 (by decide) ?_
          obtain ⟨r8, hq8, hF⟩ := bn_1 hF
          refine x_callS C hP hS (c_X12_in hL hq8) (va_cwS 3 C.1.2.2.2.2 (gdS mw_104 mw_105 mw_5 mw_106) rfl rfl rfl hd_X12_in.2 ⟨Nat.le_of_ble_eq_true rfl, Nat.le_of_ble_eq_true rfl⟩) rfl rfl hl.1 (Nat.le_of_ble_eq_true rfl) ⟨Nat.zero_le _, Nat.zero_le _⟩ dX12_game_38 (fun H locs hP hS => ?_)
          refine lv_if_ne (tgt := 48) hx hb dX12_game_41 (by decide) (fun c_9 => ?_) (fun c_9 => ?_) -- COND 9 rcases (Decidable.em (r8 = 0)).symm with c_9 | c_9
          · have hF := ite_f hF c_9
            refine lv_aload_n hx hb dX12_game_48 rfl (lv_at hl 0 rfl) ?_
            refine lv_iload_n hx hb dX12_game_49 rfl (lv_at hl 1 rfl) ?_
            refine lv_iload_n hx hb dX12_game_50 rfl (lv_at hl 2 rfl) ?_
            refine lv_iconst (v := 0) hx hb dX12_game_51 (by decide) ?_
            refine lv_iload_n hx hb dX12_game_52 rfl (lv_at hl 3 rfl) ?_
            obtain ⟨r10, σ10, hq10, hF⟩ := bn2_1 hF
            refine x_callV (ci := 12) rfl rfl C hP hS (c_X12_gameFor hL hq10) (lr_54 hL) (lk_54 hL) (cwV 4 C.1.2.2.2.2 (gdV mw_882 mw_883 mw_884 mw_5 mw_885) rfl rfl rfl hd_X12_gameFor ⟨Nat.le_of_ble_eq_true rfl, Nat.le_of_ble_eq_true rfl⟩) rfl rfl hl.1 (Nat.le_of_ble_eq_true rfl) ⟨Nat.zero_le _, Nat.zero_le _⟩ dX12_game_53 (fun H locs hP hS => ?_)
            refine lv_istore (lv' := [(5, .int r10), (0, .ref (ad 54)), (1, .int a1), (2, .int a2), (3, .int a3), (4, .int a4)]) hx hb dX12_game_56 hl (by decide) rfl (fun ls hl => ?_)
            refine lv_iload hx hb dX12_game_58 (lv_at hl 5 rfl) ?_
            refine lv_if_ne (tgt := 68) hx hb dX12_game_60 (by decide) (fun c_11 => ?_) (fun c_11 => ?_) -- COND 11 rcases (Decidable.em (a4 = 0)).symm with c_11 | c_11
            · have hF := ite_f hF c_11
              refine lv_aload_n hx hb dX12_game_68 rfl (lv_at hl 1 rfl) ?_
              refine get_12_26 C hP (lr_54 hL) (lk_54 hL) inlX12 mw_881 dX12_game_69 ?_
              obtain ⟨rfl, rfl⟩ := ret_2 hF
              subst hρ0
              exact x_iret rfl C hP hS dX12_game_72
            · have hF := ite_t hF c_11
              refine lv_iload hx hb dX12_game_63 (lv_at hl 0 rfl) ?_
              refine lv_goto (tgt := 72) hx hb dX12_game_65 (by decide) ?_
              obtain ⟨rfl, rfl⟩ := ret_2 hF
              subst hρ0
              exact x_iret rfl C hP hS dX12_game_72
          · have hF := ite_t hF c_9
            refine lv_sipush (v := -10002) hx hb dX12_game_44 (by decide +kernel) ?_
            obtain ⟨rfl, rfl⟩ := ret_2 hF
            subst hρ0
            exact x_iret rfl C hP hS dX12_game_47
      · have hF := ite_t hF c_6
        refine lv_sipush (v := -10001) hx hb dX12_game_26 (by decide +kernel) ?_
        obtain ⟨rfl, rfl⟩ := ret_2 hF
        subst hρ0
        exact x_iret rfl C hP hS dX12_game_29
set_option maxHeartbeats 4000000 in
set_option maxRecDepth 100000 in
theorem c_X12_game {a1 : Int32} {a2 : Int32} {a3 : Int32} {a4 : Int32} {r : Int32} {σ1 : SG} {σ : SG} {ρ : RG} (hL : Lay N K len ρ) (hF : F_X12_game a1 a2 a3 a4 σ ρ = some (r, σ1)) : MT l Y D N ad K len yX12_game (Cond.code yX12_game cX12_game 6 (some .int) :: wsL_law) rm_X12_game [.ref (ad 54), .int a1, .int a2, .int a3, .int a4] σ ρ (some (.int r)) σ1 ρ := by
  refine mt_of (cc := cX12_game) (nL := 6) (ret := (some .int)) (by decide) (Nat.le_of_ble_eq_true rfl) ?_
  intro p e s m args below meth c ls C hnm hP hS hl
  exact w_X12_game_0 C rfl hL hF hP hS hl

/-! CutCrookedModel.private void rowsFrom(int); B -/
theorem dX12_rowsFrom_0 : decode cX12_rowsFrom 0 = .ok (.iload_n 1, 1) := by decide +kernel
theorem dX12_rowsFrom_1 : decode cX12_rowsFrom 1 = .ok (.aload_n 0, 1) := by decide +kernel
theorem dX12_rowsFrom_2 : decode cX12_rowsFrom 2 = .ok (.getfield 9, 3) := by decide +kernel
theorem dX12_rowsFrom_5 : decode cX12_rowsFrom 5 = .ok (.bipush 13, 2) := by decide +kernel
theorem dX12_rowsFrom_7 : decode cX12_rowsFrom 7 = .ok (.iaload, 1) := by decide +kernel
theorem dX12_rowsFrom_8 : decode cX12_rowsFrom 8 = .ok (.if_icmp .ne 46, 3) := by decide +kernel
theorem dX12_rowsFrom_11 : decode cX12_rowsFrom 11 = .ok (.iconst 0, 1) := by decide +kernel
theorem dX12_rowsFrom_12 : decode cX12_rowsFrom 12 = .ok (.istore_n 2, 1) := by decide +kernel
theorem dX12_rowsFrom_13 : decode cX12_rowsFrom 13 = .ok (.iload_n 2, 1) := by decide +kernel
theorem dX12_rowsFrom_14 : decode cX12_rowsFrom 14 = .ok (.iload_n 1, 1) := by decide +kernel
theorem dX12_rowsFrom_15 : decode cX12_rowsFrom 15 = .ok (.if_icmp .ge 28, 3) := by decide +kernel
theorem dX12_rowsFrom_18 : decode cX12_rowsFrom 18 = .ok (.aload_n 0, 1) := by decide +kernel
theorem dX12_rowsFrom_19 : decode cX12_rowsFrom 19 = .ok (.getfield 236, 3) := by decide +kernel
theorem dX12_rowsFrom_22 : decode cX12_rowsFrom 22 = .ok (.ifCond .ne 21, 3) := by decide +kernel
theorem dX12_rowsFrom_25 : decode cX12_rowsFrom 25 = .ok (.aload_n 0, 1) := by decide +kernel
theorem dX12_rowsFrom_26 : decode cX12_rowsFrom 26 = .ok (.getfield 34, 3) := by decide +kernel
theorem dX12_rowsFrom_29 : decode cX12_rowsFrom 29 = .ok (.iload_n 2, 1) := by decide +kernel
theorem dX12_rowsFrom_30 : decode cX12_rowsFrom 30 = .ok (.aload_n 0, 1) := by decide +kernel
theorem dX12_rowsFrom_31 : decode cX12_rowsFrom 31 = .ok (.getfield 31, 3) := by decide +kernel
theorem dX12_rowsFrom_34 : decode cX12_rowsFrom 34 = .ok (.iload_n 2, 1) := by decide +kernel
theorem dX12_rowsFrom_35 : decode cX12_rowsFrom 35 = .ok (.iaload, 1) := by decide +kernel
theorem dX12_rowsFrom_36 : decode cX12_rowsFrom 36 = .ok (.iastore, 1) := by decide +kernel
theorem dX12_rowsFrom_37 : decode cX12_rowsFrom 37 = .ok (.iinc 2 1, 3) := by decide +kernel
theorem dX12_rowsFrom_40 : decode cX12_rowsFrom 40 = .ok (.goto (-27), 3) := by decide +kernel
theorem dX12_rowsFrom_43 : decode cX12_rowsFrom 43 = .ok (.aload_n 0, 1) := by decide +kernel
theorem dX12_rowsFrom_44 : decode cX12_rowsFrom 44 = .ok (.dup, 1) := by decide +kernel
theorem dX12_rowsFrom_45 : decode cX12_rowsFrom 45 = .ok (.getfield 236, 3) := by decide +kernel
theorem dX12_rowsFrom_48 : decode cX12_rowsFrom 48 = .ok (.iconst 1, 1) := by decide +kernel
theorem dX12_rowsFrom_49 : decode cX12_rowsFrom 49 = .ok (.iadd, 1) := by decide +kernel
theorem dX12_rowsFrom_50 : decode cX12_rowsFrom 50 = .ok (.putfield 236, 3) := by decide +kernel
theorem dX12_rowsFrom_53 : decode cX12_rowsFrom 53 = .ok (.return_, 1) := by decide +kernel
theorem dX12_rowsFrom_54 : decode cX12_rowsFrom 54 = .ok (.aload_n 0, 1) := by decide +kernel
theorem dX12_rowsFrom_55 : decode cX12_rowsFrom 55 = .ok (.iload_n 1, 1) := by decide +kernel
theorem dX12_rowsFrom_56 : decode cX12_rowsFrom 56 = .ok (.invokevirtual 217, 3) := by decide +kernel
theorem dX12_rowsFrom_59 : decode cX12_rowsFrom 59 = .ok (.iconst 0, 1) := by decide +kernel
theorem dX12_rowsFrom_60 : decode cX12_rowsFrom 60 = .ok (.istore_n 2, 1) := by decide +kernel
theorem dX12_rowsFrom_61 : decode cX12_rowsFrom 61 = .ok (.iload_n 2, 1) := by decide +kernel
theorem dX12_rowsFrom_62 : decode cX12_rowsFrom 62 = .ok (.aload_n 0, 1) := by decide +kernel
theorem dX12_rowsFrom_63 : decode cX12_rowsFrom 63 = .ok (.getfield 9, 3) := by decide +kernel
theorem dX12_rowsFrom_66 : decode cX12_rowsFrom 66 = .ok (.bipush 11, 2) := by decide +kernel
theorem dX12_rowsFrom_68 : decode cX12_rowsFrom 68 = .ok (.iaload, 1) := by decide +kernel
theorem dX12_rowsFrom_69 : decode cX12_rowsFrom 69 = .ok (.if_icmp .ge 63, 3) := by decide +kernel
theorem dX12_rowsFrom_72 : decode cX12_rowsFrom 72 = .ok (.aload_n 0, 1) := by decide +kernel
theorem dX12_rowsFrom_73 : decode cX12_rowsFrom 73 = .ok (.iload_n 2, 1) := by decide +kernel
theorem dX12_rowsFrom_74 : decode cX12_rowsFrom 74 = .ok (.aload_n 0, 1) := by decide +kernel
theorem dX12_rowsFrom_75 : decode cX12_rowsFrom 75 = .ok (.getfield 9, 3) := by decide +kernel
theorem dX12_rowsFrom_78 : decode cX12_rowsFrom 78 = .ok (.bipush 44, 2) := by decide +kernel
theorem dX12_rowsFrom_80 : decode cX12_rowsFrom 80 = .ok (.iload_n 2, 1) := by decide +kernel
theorem dX12_rowsFrom_81 : decode cX12_rowsFrom 81 = .ok (.iadd, 1) := by decide +kernel
theorem dX12_rowsFrom_82 : decode cX12_rowsFrom 82 = .ok (.iaload, 1) := by decide +kernel
theorem dX12_rowsFrom_83 : decode cX12_rowsFrom 83 = .ok (.invokevirtual 187, 3) := by decide +kernel
theorem dX12_rowsFrom_86 : decode cX12_rowsFrom 86 = .ok (.ifCond .eq 35, 3) := by decide +kernel
theorem dX12_rowsFrom_89 : decode cX12_rowsFrom 89 = .ok (.aload_n 0, 1) := by decide +kernel
theorem dX12_rowsFrom_90 : decode cX12_rowsFrom 90 = .ok (.getfield 9, 3) := by decide +kernel
theorem dX12_rowsFrom_93 : decode cX12_rowsFrom 93 = .ok (.iconst 1, 1) := by decide +kernel
theorem dX12_rowsFrom_94 : decode cX12_rowsFrom 94 = .ok (.iaload, 1) := by decide +kernel
theorem dX12_rowsFrom_95 : decode cX12_rowsFrom 95 = .ok (.aload_n 0, 1) := by decide +kernel
theorem dX12_rowsFrom_96 : decode cX12_rowsFrom 96 = .ok (.getfield 9, 3) := by decide +kernel
theorem dX12_rowsFrom_99 : decode cX12_rowsFrom 99 = .ok (.bipush 74, 2) := by decide +kernel
theorem dX12_rowsFrom_101 : decode cX12_rowsFrom 101 = .ok (.iload_n 1, 1) := by decide +kernel
theorem dX12_rowsFrom_102 : decode cX12_rowsFrom 102 = .ok (.iadd, 1) := by decide +kernel
theorem dX12_rowsFrom_103 : decode cX12_rowsFrom 103 = .ok (.iaload, 1) := by decide +kernel
theorem dX12_rowsFrom_104 : decode cX12_rowsFrom 104 = .ok (.if_icmp .ne 17, 3) := by decide +kernel
theorem dX12_rowsFrom_107 : decode cX12_rowsFrom 107 = .ok (.aload_n 0, 1) := by decide +kernel
theorem dX12_rowsFrom_108 : decode cX12_rowsFrom 108 = .ok (.getfield 31, 3) := by decide +kernel
theorem dX12_rowsFrom_111 : decode cX12_rowsFrom 111 = .ok (.iload_n 1, 1) := by decide +kernel
theorem dX12_rowsFrom_112 : decode cX12_rowsFrom 112 = .ok (.iload_n 2, 1) := by decide +kernel
theorem dX12_rowsFrom_113 : decode cX12_rowsFrom 113 = .ok (.iastore, 1) := by decide +kernel
theorem dX12_rowsFrom_114 : decode cX12_rowsFrom 114 = .ok (.aload_n 0, 1) := by decide +kernel
theorem dX12_rowsFrom_115 : decode cX12_rowsFrom 115 = .ok (.iload_n 1, 1) := by decide +kernel
theorem dX12_rowsFrom_116 : decode cX12_rowsFrom 116 = .ok (.iconst 1, 1) := by decide +kernel
theorem dX12_rowsFrom_117 : decode cX12_rowsFrom 117 = .ok (.iadd, 1) := by decide +kernel
theorem dX12_rowsFrom_118 : decode cX12_rowsFrom 118 = .ok (.invokevirtual 239, 3) := by decide +kernel
theorem dX12_rowsFrom_121 : decode cX12_rowsFrom 121 = .ok (.aload_n 0, 1) := by decide +kernel
theorem dX12_rowsFrom_122 : decode cX12_rowsFrom 122 = .ok (.iload_n 1, 1) := by decide +kernel
theorem dX12_rowsFrom_123 : decode cX12_rowsFrom 123 = .ok (.invokevirtual 223, 3) := by decide +kernel
theorem dX12_rowsFrom_126 : decode cX12_rowsFrom 126 = .ok (.iinc 2 1, 3) := by decide +kernel
theorem dX12_rowsFrom_129 : decode cX12_rowsFrom 129 = .ok (.goto (-68), 3) := by decide +kernel
theorem dX12_rowsFrom_132 : decode cX12_rowsFrom 132 = .ok (.return_, 1) := by decide +kernel
theorem hd_X12_rowsFrom : yX12_rowsFrom.cls = RX12 ∧ yX12_rowsFrom.cls ≠ "java/lang/invoke/MethodHandle" ∧ yX12_rowsFrom.cls ≠ "java/lang/invoke/VarHandle" ∧ (parseMethodDescriptor yX12_rowsFrom.desc).map (fun d => d.parameters.length) = some 1 := by decide +kernel
abbrev rm_X12_rowsFrom_B (fR lR : Nat) : Room := { frames := 4 + fR + 1, cells := 0, slots := 0, locals := 93 + lR }
def F_X12_rowsFrom_B_121 (R : Int32 → SG → RG → Option (SG)) (a1 : Int32) (rec_61 : SG → RG → Int32 → Int32 → Option (SG)) (σ : SG) (ρ : RG) (v1 : Int32) (v2 : Int32) : Option (SG) :=
  bn (F_X12_standsBack v1 σ ρ) fun σ8 =>
  nm (v2 + (1 : Int32)) fun x9 =>
  rec_61 σ8 ρ v1 x9
def F_X12_rowsFrom_B_61 (R : Int32 → SG → RG → Option (SG)) (a1 : Int32) : Nat → SG → RG → Int32 → Int32 → Option (SG)
  | 0 => fun _ _ _ _ => none
  | n + 1 => fun σ ρ v1 v2 =>
  if (σ 55 11) ≤ v2 then
    some σ
  else
    nm ((44 : Int32) + v2) fun x4 =>
    gd (inb x4 909) <|
    bn2 (F_X12_cuts v2 (σ 55 (x4).toNatClampNeg) σ ρ) fun r6 σ6 =>
    if r6 = 0 then
      F_X12_rowsFrom_B_121 R a1 (F_X12_rowsFrom_B_61 R a1 n) σ6 ρ v1 v2
    else
      nm ((74 : Int32) + v1) fun x10 =>
      gd (inb x10 909) <|
      if (σ6 55 1) = (σ6 55 (x10).toNatClampNeg) then
        gd (inb v1 5) <|
        nm (s2 σ6 61 (v1).toNatClampNeg v2) fun σ15 =>
        nm (v1 + (1 : Int32)) fun x16 =>
        bn (R x16 σ15 ρ) fun σ17 =>
        F_X12_rowsFrom_B_121 R a1 (F_X12_rowsFrom_B_61 R a1 n) σ17 ρ v1 v2
      else
        F_X12_rowsFrom_B_121 R a1 (F_X12_rowsFrom_B_61 R a1 n) σ6 ρ v1 v2
def F_X12_rowsFrom_B_43 (R : Int32 → SG → RG → Option (SG)) (a1 : Int32) (σ : SG) (ρ : RG) : Option (SG) :=
  nm ((σ 54 28) + (1 : Int32)) fun x19 =>
  nm (s2 σ 54 28 x19) fun σ21 =>
  some σ21
def F_X12_rowsFrom_B_13 (R : Int32 → SG → RG → Option (SG)) (a1 : Int32) : Nat → SG → RG → Int32 → Int32 → Option (SG)
  | 0 => fun _ _ _ _ => none
  | n + 1 => fun σ ρ v1 v2 =>
  if v1 ≤ v2 then
    F_X12_rowsFrom_B_43 R a1 σ ρ
  else
    if (σ 54 28) = 0 then
      gd (inb v2 5) <|
      gd (inb v2 5) <|
      nm (s2 σ 62 (v2).toNatClampNeg (σ 61 (v2).toNatClampNeg)) fun σ26 =>
      nm (v2 + (1 : Int32)) fun x27 =>
      F_X12_rowsFrom_B_13 R a1 n σ26 ρ v1 x27
    else
      F_X12_rowsFrom_B_43 R a1 σ ρ
def F_X12_rowsFrom_B (R : Int32 → SG → RG → Option (SG)) (a1 : Int32) (σ : SG) (ρ : RG) : Option (SG) :=
  if a1 = (σ 55 13) then
    F_X12_rowsFrom_B_13 R a1 1024 σ ρ a1 (0 : Int32)
  else
    bn (F_X12_stands a1 σ ρ) fun σ2 =>
    F_X12_rowsFrom_B_61 R a1 1024 σ2 ρ a1 (0 : Int32)
set_option maxHeartbeats 4000000 in
set_option maxRecDepth 100000 in
theorem w_X12_rowsFrom_B_121 {R : Int32 → SG → RG → Option (SG)} {a1 : Int32} {rec_61 : SG → RG → Int32 → Int32 → Option (SG)} {p : Program} {e : Env} {s : State} {m : MethodId} {args : Array Value} {below : List Frame} {meth : Method} {c : Code} {ρ0 : RG} {σ1 : SG} (C : Cx Y D N ad p s m args meth c cX12_rowsFrom 3 none RX12 wsL_law) (hrec_61 : ∀ (σ : SG) (ρ : RG) (v1 : Int32) (v2 : Int32) (H : Heap) (locs : List Loc) (ls : Array Slot), ρ = ρ0 → Lay N K len ρ → (∀ {a1 : Int32} {σ1 : SG} {σ : SG} {ρ : RG}, Lay N K len ρ → R a1 σ ρ = some σ1 → MT l Y D N ad K len yX12_rowsFrom (Cond.code yX12_rowsFrom cX12_rowsFrom 3 none :: wsL_law) (rmk fR lR) [.ref (ad 54), .int a1] σ ρ none σ1 ρ) → rec_61 σ ρ v1 v2 = some σ1 → WP Y D N ad K len σ ρ H → va_S (AA N ad s.heap.size) s.heap H locs → lv_has ls 3 [(0, .ref (ad 54)), (1, .int v1), (2, .int v2)] → W p l e (rm_X12_rowsFrom_B fR lR) s m args below meth c H locs 0 0 (MQ below (QW Y D N ad K len σ1 ρ0 (AA N ad s.heap.size) none) args s 0 0 (AA N ad s.heap.size)) (F0 m 61 ls [])) {σ : SG} {ρ : RG} {v1 : Int32} {v2 : Int32} {H : Heap} {locs : List Loc} {ls : Array Slot} (hρ0 : ρ = ρ0) (hL : Lay N K len ρ) (hRM : (∀ {a1 : Int32} {σ1 : SG} {σ : SG} {ρ : RG}, Lay N K len ρ → R a1 σ ρ = some σ1 → MT l Y D N ad K len yX12_rowsFrom (Cond.code yX12_rowsFrom cX12_rowsFrom 3 none :: wsL_law) (rmk fR lR) [.ref (ad 54), .int a1] σ ρ none σ1 ρ)) (hF : F_X12_rowsFrom_B_121 R a1 rec_61 σ ρ v1 v2 = some σ1) (hP : WP Y D N ad K len σ ρ H) (hS : va_S (AA N ad s.heap.size) s.heap H locs) (hl : lv_has ls 3 [(0, .ref (ad 54)), (1, .int v1), (2, .int v2)]) : W p l e (rm_X12_rowsFrom_B fR lR) s m args below meth c H locs 0 0 (MQ below (QW Y D N ad K len σ1 ρ0 (AA N ad s.heap.size) none) args s 0 0 (AA N ad s.heap.size)) (F0 m 121 ls []) := by
  have hx := C.1.1
  have hb := C.1.2.1
  unfold F_X12_rowsFrom_B_121 at hF
  refine lv_aload_n hx hb dX12_rowsFrom_121 rfl (lv_at hl 0 rfl) ?_
  refine lv_iload_n hx hb dX12_rowsFrom_122 rfl (lv_at hl 1 rfl) ?_
  obtain ⟨σ8, hq8, hF⟩ := bn_1 hF
  refine x_callV (ci := 12) rfl rfl C hP hS (c_X12_standsBack hL hq8) (lr_54 hL) (lk_54 hL) (cwV 1 C.1.2.2.2.2 (gdV mw_807 mw_808 mw_809 mw_5 mw_810) rfl rfl rfl hd_X12_standsBack ⟨by show 1 ≤ 4 + fR + 1; omega, by show 22 ≤ 93 + lR; omega⟩) rfl rfl hl.1 (Nat.le_of_ble_eq_true rfl) ⟨Nat.zero_le _, Nat.zero_le _⟩ dX12_rowsFrom_123 (fun H locs hP hS => ?_)
  obtain ⟨x9, ex9, hF⟩ := nm_1 hF
  refine lv_iinc (v := x9) (lv' := [(2, .int x9), (0, .ref (ad 54)), (1, .int v1)]) hx hb dX12_rowsFrom_126 hl (k := 2) rfl (by rw [ex9]; first | rfl | decide) (by decide) rfl (fun ls hl => ?_)
  refine lv_goto (tgt := 61) hx hb dX12_rowsFrom_129 (by decide) ?_
  exact hrec_61 _ _ _ _ _ _ _ hρ0 hL hRM hF hP hS (lv_sub hl [1, 2, 0] rfl)
set_option maxHeartbeats 4000000 in
set_option maxRecDepth 100000 in
theorem w_X12_rowsFrom_B_61 {R : Int32 → SG → RG → Option (SG)} {a1 : Int32} {p : Program} {e : Env} {s : State} {m : MethodId} {args : Array Value} {below : List Frame} {meth : Method} {c : Code} {ρ0 : RG} {σ1 : SG} (C : Cx Y D N ad p s m args meth c cX12_rowsFrom 3 none RX12 wsL_law) : ∀ (n : Nat) (σ : SG) (ρ : RG) (v1 : Int32) (v2 : Int32) (H : Heap) (locs : List Loc) (ls : Array Slot), ρ = ρ0 → Lay N K len ρ → (∀ {a1 : Int32} {σ1 : SG} {σ : SG} {ρ : RG}, Lay N K len ρ → R a1 σ ρ = some σ1 → MT l Y D N ad K len yX12_rowsFrom (Cond.code yX12_rowsFrom cX12_rowsFrom 3 none :: wsL_law) (rmk fR lR) [.ref (ad 54), .int a1] σ ρ none σ1 ρ) → F_X12_rowsFrom_B_61 R a1 n σ ρ v1 v2 = some σ1 → WP Y D N ad K len σ ρ H → va_S (AA N ad s.heap.size) s.heap H locs → lv_has ls 3 [(0, .ref (ad 54)), (1, .int v1), (2, .int v2)] → W p l e (rm_X12_rowsFrom_B fR lR) s m args below meth c H locs 0 0 (MQ below (QW Y D N ad K len σ1 ρ0 (AA N ad s.heap.size) none) args s 0 0 (AA N ad s.heap.size)) (F0 m 61 ls []) := by
  have hx := C.1.1
  have hb := C.1.2.1
  intro n
  induction n with
  | zero => intro σ ρ v1 v2 H locs ls hρ0 hL hRM hF; cases hF
  | succ n ih =>
    intro σ ρ v1 v2 H locs ls hρ0 hL hRM hF hP hS hl
    unfold F_X12_rowsFrom_B_61 at hF
    refine lv_iload_n hx hb dX12_rowsFrom_61 rfl (lv_at hl 2 rfl) ?_
    refine lv_aload_n hx hb dX12_rowsFrom_62 rfl (lv_at hl 0 rfl) ?_
    refine get_12_1 C hP (lr_54 hL) (lk_54 hL) inlX12 mw_81 (lf_54_1 hL) dX12_rowsFrom_63 ?_
    refine lv_bipush (v := 11) hx hb dX12_rowsFrom_66 (by decide +kernel) ?_
    refine x_iald C hP (lr_55 hL) (lk_55 hL) (ln_55 hL) (by decide +kernel) dX12_rowsFrom_68 ?_
    rw [cl_11]
    refine lv_icmp_ge (tgt := 132) hx hb dX12_rowsFrom_69 (by decide) (fun c_3 => ?_) (fun c_3 => ?_) -- COND 3 by_cases c_3 : (σ 55 11) ≤ v2
    · have hF := ite_t hF c_3
      obtain rfl := ret_1 hF
      subst hρ0
      exact x_vret rfl C hP hS dX12_rowsFrom_132
    · have hF := ite_f hF c_3
      refine lv_aload_n hx hb dX12_rowsFrom_72 rfl (lv_at hl 0 rfl) ?_
      refine lv_iload_n hx hb dX12_rowsFrom_73 rfl (lv_at hl 2 rfl) ?_
      refine lv_aload_n hx hb dX12_rowsFrom_74 rfl (lv_at hl 0 rfl) ?_
      refine get_12_1 C hP (lr_54 hL) (lk_54 hL) inlX12 mw_81 (lf_54_1 hL) dX12_rowsFrom_75 ?_
      refine lv_bipush (v := 44) hx hb dX12_rowsFrom_78 (by decide +kernel) ?_
      refine lv_iload_n hx hb dX12_rowsFrom_80 rfl (lv_at hl 2 rfl) ?_
      refine lv_iadd hx hb dX12_rowsFrom_81 ?_
      obtain ⟨x4, ex4, hF⟩ := nm_1 hF
      refine x_top ex4 ?_
      obtain ⟨g5, hF⟩ := gd_1 hF
      refine x_iald C hP (lr_55 hL) (lk_55 hL) (ln_55 hL) g5 dX12_rowsFrom_82 ?_
      obtain ⟨r6, σ6, hq6, hF⟩ := bn2_1 hF
      refine x_callV (ci := 12) rfl rfl C hP hS (c_X12_cuts hL hq6) (lr_54 hL) (lk_54 hL) (cwV 2 C.1.2.2.2.2 (gdV mw_652 mw_653 mw_654 mw_5 mw_655) rfl rfl rfl hd_X12_cuts ⟨by show 4 ≤ 4 + fR + 1; omega, by show 93 ≤ 93 + lR; omega⟩) rfl rfl hl.1 (Nat.le_of_ble_eq_true rfl) ⟨Nat.zero_le _, Nat.zero_le _⟩ dX12_rowsFrom_83 (fun H locs hP hS => ?_)
      refine lv_if_eq (tgt := 121) hx hb dX12_rowsFrom_86 (by decide) (fun c_7 => ?_) (fun c_7 => ?_) -- COND 7 by_cases c_7 : r6 = 0
      · have hF := ite_t hF c_7
        exact w_X12_rowsFrom_B_121 C ih hρ0 hL hRM hF hP hS (lv_sub hl [0, 1, 2] rfl)
      · have hF := ite_f hF c_7
        refine lv_aload_n hx hb dX12_rowsFrom_89 rfl (lv_at hl 0 rfl) ?_
        refine get_12_1 C hP (lr_54 hL) (lk_54 hL) inlX12 mw_81 (lf_54_1 hL) dX12_rowsFrom_90 ?_
        refine lv_iconst (v := 1) hx hb dX12_rowsFrom_93 (by decide) ?_
        refine x_iald C hP (lr_55 hL) (lk_55 hL) (ln_55 hL) (by decide +kernel) dX12_rowsFrom_94 ?_
        rw [cl_1]
        refine lv_aload_n hx hb dX12_rowsFrom_95 rfl (lv_at hl 0 rfl) ?_
        refine get_12_1 C hP (lr_54 hL) (lk_54 hL) inlX12 mw_81 (lf_54_1 hL) dX12_rowsFrom_96 ?_
        refine lv_bipush (v := 74) hx hb dX12_rowsFrom_99 (by decide +kernel) ?_
        refine lv_iload_n hx hb dX12_rowsFrom_101 rfl (lv_at hl 1 rfl) ?_
        refine lv_iadd hx hb dX12_rowsFrom_102 ?_
        obtain ⟨x10, ex10, hF⟩ := nm_1 hF
        refine x_top ex10 ?_
        obtain ⟨g11, hF⟩ := gd_1 hF
        refine x_iald C hP (lr_55 hL) (lk_55 hL) (ln_55 hL) g11 dX12_rowsFrom_103 ?_
        refine lv_icmp_ne (tgt := 121) hx hb dX12_rowsFrom_104 (by decide) (fun c_12 => ?_) (fun c_12 => ?_) -- COND 12 rcases (Decidable.em ((σ6 55 1) = (σ6 55 (x10).toNatClampNeg))).symm with c_12 | c_12
        · have hF := ite_f hF c_12
          exact w_X12_rowsFrom_B_121 C ih hρ0 hL hRM hF hP hS (lv_sub hl [0, 1, 2] rfl)
        · have hF := ite_t hF c_12
          refine lv_aload_n hx hb dX12_rowsFrom_107 rfl (lv_at hl 0 rfl) ?_
          refine get_12_23 C hP (lr_54 hL) (lk_54 hL) inlX12 mw_87 (lf_54_23 hL) dX12_rowsFrom_108 ?_
          refine lv_iload_n hx hb dX12_rowsFrom_111 rfl (lv_at hl 1 rfl) ?_
          refine lv_iload_n hx hb dX12_rowsFrom_112 rfl (lv_at hl 2 rfl) ?_
          obtain ⟨g13, hF⟩ := gd_1 hF
          obtain ⟨σ15, eσ15, hF⟩ := nm_1 hF
          refine x_iast (σ1 := σ15) C hP hS (lr_61 hL) (lk_61 hL) (ln_61 hL) g13 eσ15 dX12_rowsFrom_113 (fun H locs hP hS => ?_)
          refine lv_aload_n hx hb dX12_rowsFrom_114 rfl (lv_at hl 0 rfl) ?_
          refine lv_iload_n hx hb dX12_rowsFrom_115 rfl (lv_at hl 1 rfl) ?_
          refine lv_iconst (v := 1) hx hb dX12_rowsFrom_116 (by decide) ?_
          refine lv_iadd hx hb dX12_rowsFrom_117 ?_
          obtain ⟨x16, ex16, hF⟩ := nm_1 hF
          refine x_top ex16 ?_
          obtain ⟨σ17, hq17, hF⟩ := bn_1 hF
          refine x_callV (ci := 12) rfl rfl C hP hS (hRM hL hq17) (lr_54 hL) (lk_54 hL) (cwV 1 C.1.2.2.2.2 (gdV mw_947 mw_948 mw_949 mw_5 mw_950) rfl rfl rfl hd_X12_rowsFrom ⟨by show fR + 1 ≤ 4 + fR + 1; omega, by show 22 + lR ≤ 93 + lR; omega⟩) rfl rfl hl.1 (Nat.le_of_ble_eq_true rfl) ⟨Nat.zero_le _, Nat.zero_le _⟩ dX12_rowsFrom_118 (fun H locs hP hS => ?_)
          exact w_X12_rowsFrom_B_121 C ih hρ0 hL hRM hF hP hS (lv_sub hl [0, 1, 2] rfl)
set_option maxHeartbeats 4000000 in
set_option maxRecDepth 100000 in
theorem w_X12_rowsFrom_B_43 {R : Int32 → SG → RG → Option (SG)} {a1 : Int32} {p : Program} {e : Env} {s : State} {m : MethodId} {args : Array Value} {below : List Frame} {meth : Method} {c : Code} {ρ0 : RG} {σ1 : SG} (C : Cx Y D N ad p s m args meth c cX12_rowsFrom 3 none RX12 wsL_law) {σ : SG} {ρ : RG} {H : Heap} {locs : List Loc} {ls : Array Slot} (hρ0 : ρ = ρ0) (hL : Lay N K len ρ) (hRM : (∀ {a1 : Int32} {σ1 : SG} {σ : SG} {ρ : RG}, Lay N K len ρ → R a1 σ ρ = some σ1 → MT l Y D N ad K len yX12_rowsFrom (Cond.code yX12_rowsFrom cX12_rowsFrom 3 none :: wsL_law) (rmk fR lR) [.ref (ad 54), .int a1] σ ρ none σ1 ρ)) (hF : F_X12_rowsFrom_B_43 R a1 σ ρ = some σ1) (hP : WP Y D N ad K len σ ρ H) (hS : va_S (AA N ad s.heap.size) s.heap H locs) (hl : lv_has ls 3 [(0, .ref (ad 54))]) : W p l e (rm_X12_rowsFrom_B fR lR) s m args below meth c H locs 0 0 (MQ below (QW Y D N ad K len σ1 ρ0 (AA N ad s.heap.size) none) args s 0 0 (AA N ad s.heap.size)) (F0 m 43 ls []) := by
  have hx := C.1.1
  have hb := C.1.2.1
  unfold F_X12_rowsFrom_B_43 at hF
  refine lv_aload_n hx hb dX12_rowsFrom_43 rfl (lv_at hl 0 rfl) ?_
  refine lv_dup hx hb dX12_rowsFrom_44 rfl ?_
  refine get_12_28 C hP (lr_54 hL) (lk_54 hL) inlX12 mw_946 dX12_rowsFrom_45 ?_
  refine lv_iconst (v := 1) hx hb dX12_rowsFrom_48 (by decide) ?_
  refine lv_iadd hx hb dX12_rowsFrom_49 ?_
  obtain ⟨x19, ex19, hF⟩ := nm_1 hF
  refine x_top ex19 ?_
  obtain ⟨σ21, eσ21, hF⟩ := nm_1 hF
  refine put_12_28 C hP hS (lr_54 hL) (lk_54 hL) inlX12 mw_946 eσ21 dX12_rowsFrom_50 (fun H locs hP hS => ?_)
  obtain rfl := ret_1 hF
  subst hρ0
  exact x_vret rfl C hP hS dX12_rowsFrom_53
set_option maxHeartbeats 4000000 in
set_option maxRecDepth 100000 in
theorem w_X12_rowsFrom_B_13 {R : Int32 → SG → RG → Option (SG)} {a1 : Int32} {p : Program} {e : Env} {s : State} {m : MethodId} {args : Array Value} {below : List Frame} {meth : Method} {c : Code} {ρ0 : RG} {σ1 : SG} (C : Cx Y D N ad p s m args meth c cX12_rowsFrom 3 none RX12 wsL_law) : ∀ (n : Nat) (σ : SG) (ρ : RG) (v1 : Int32) (v2 : Int32) (H : Heap) (locs : List Loc) (ls : Array Slot), ρ = ρ0 → Lay N K len ρ → (∀ {a1 : Int32} {σ1 : SG} {σ : SG} {ρ : RG}, Lay N K len ρ → R a1 σ ρ = some σ1 → MT l Y D N ad K len yX12_rowsFrom (Cond.code yX12_rowsFrom cX12_rowsFrom 3 none :: wsL_law) (rmk fR lR) [.ref (ad 54), .int a1] σ ρ none σ1 ρ) → F_X12_rowsFrom_B_13 R a1 n σ ρ v1 v2 = some σ1 → WP Y D N ad K len σ ρ H → va_S (AA N ad s.heap.size) s.heap H locs → lv_has ls 3 [(0, .ref (ad 54)), (1, .int v1), (2, .int v2)] → W p l e (rm_X12_rowsFrom_B fR lR) s m args below meth c H locs 0 0 (MQ below (QW Y D N ad K len σ1 ρ0 (AA N ad s.heap.size) none) args s 0 0 (AA N ad s.heap.size)) (F0 m 13 ls []) := by
  have hx := C.1.1
  have hb := C.1.2.1
  intro n
  induction n with
  | zero => intro σ ρ v1 v2 H locs ls hρ0 hL hRM hF; cases hF
  | succ n ih =>
    intro σ ρ v1 v2 H locs ls hρ0 hL hRM hF hP hS hl
    unfold F_X12_rowsFrom_B_13 at hF
    refine lv_iload_n hx hb dX12_rowsFrom_13 rfl (lv_at hl 2 rfl) ?_
    refine lv_iload_n hx hb dX12_rowsFrom_14 rfl (lv_at hl 1 rfl) ?_
    refine lv_icmp_ge (tgt := 43) hx hb dX12_rowsFrom_15 (by decide) (fun c_18 => ?_) (fun c_18 => ?_) -- COND 18 by_cases c_18 : v1 ≤ v2
    · have hF := ite_t hF c_18
      exact w_X12_rowsFrom_B_43 C hρ0 hL hRM hF hP hS (lv_sub hl [0] rfl)
    · have hF := ite_f hF c_18
      refine lv_aload_n hx hb dX12_rowsFrom_18 rfl (lv_at hl 0 rfl) ?_
      refine get_12_28 C hP (lr_54 hL) (lk_54 hL) inlX12 mw_946 dX12_rowsFrom_19 ?_
      refine lv_if_ne (tgt := 43) hx hb dX12_rowsFrom_22 (by decide) (fun c_22 => ?_) (fun c_22 => ?_) -- COND 22 rcases (Decidable.em ((σ 54 28) = 0)).symm with c_22 | c_22
      · have hF := ite_f hF c_22
        exact w_X12_rowsFrom_B_43 C hρ0 hL hRM hF hP hS (lv_sub hl [0] rfl)
      · have hF := ite_t hF c_22
        refine lv_aload_n hx hb dX12_rowsFrom_25 rfl (lv_at hl 0 rfl) ?_
        refine get_12_24 C hP (lr_54 hL) (lk_54 hL) inlX12 mw_88 (lf_54_24 hL) dX12_rowsFrom_26 ?_
        refine lv_iload_n hx hb dX12_rowsFrom_29 rfl (lv_at hl 2 rfl) ?_
        refine lv_aload_n hx hb dX12_rowsFrom_30 rfl (lv_at hl 0 rfl) ?_
        refine get_12_23 C hP (lr_54 hL) (lk_54 hL) inlX12 mw_87 (lf_54_23 hL) dX12_rowsFrom_31 ?_
        refine lv_iload_n hx hb dX12_rowsFrom_34 rfl (lv_at hl 2 rfl) ?_
        obtain ⟨g23, hF⟩ := gd_1 hF
        refine x_iald C hP (lr_61 hL) (lk_61 hL) (ln_61 hL) g23 dX12_rowsFrom_35 ?_
        obtain ⟨g24, hF⟩ := gd_1 hF
        obtain ⟨σ26, eσ26, hF⟩ := nm_1 hF
        refine x_iast (σ1 := σ26) C hP hS (lr_62 hL) (lk_62 hL) (ln_62 hL) g24 eσ26 dX12_rowsFrom_36 (fun H locs hP hS => ?_)
        obtain ⟨x27, ex27, hF⟩ := nm_1 hF
        refine lv_iinc (v := x27) (lv' := [(2, .int x27), (0, .ref (ad 54)), (1, .int v1)]) hx hb dX12_rowsFrom_37 hl (k := 2) rfl (by rw [ex27]; first | rfl | decide) (by decide) rfl (fun ls hl => ?_)
        refine lv_goto (tgt := 13) hx hb dX12_rowsFrom_40 (by decide) ?_
        exact ih _ _ _ _ _ _ _ hρ0 hL hRM hF hP hS (lv_sub hl [1, 2, 0] rfl)
set_option maxHeartbeats 4000000 in
set_option maxRecDepth 100000 in
theorem w_X12_rowsFrom_B_0 {R : Int32 → SG → RG → Option (SG)} {a1 : Int32} {p : Program} {e : Env} {s : State} {m : MethodId} {args : Array Value} {below : List Frame} {meth : Method} {c : Code} {ρ0 : RG} {σ1 : SG} (C : Cx Y D N ad p s m args meth c cX12_rowsFrom 3 none RX12 wsL_law) {σ : SG} {ρ : RG} {H : Heap} {locs : List Loc} {ls : Array Slot} (hρ0 : ρ = ρ0) (hL : Lay N K len ρ) (hRM : (∀ {a1 : Int32} {σ1 : SG} {σ : SG} {ρ : RG}, Lay N K len ρ → R a1 σ ρ = some σ1 → MT l Y D N ad K len yX12_rowsFrom (Cond.code yX12_rowsFrom cX12_rowsFrom 3 none :: wsL_law) (rmk fR lR) [.ref (ad 54), .int a1] σ ρ none σ1 ρ)) (hF : F_X12_rowsFrom_B R a1 σ ρ = some σ1) (hP : WP Y D N ad K len σ ρ H) (hS : va_S (AA N ad s.heap.size) s.heap H locs) (hl : lv_has ls 3 [(0, .ref (ad 54)), (1, .int a1)]) : W p l e (rm_X12_rowsFrom_B fR lR) s m args below meth c H locs 0 0 (MQ below (QW Y D N ad K len σ1 ρ0 (AA N ad s.heap.size) none) args s 0 0 (AA N ad s.heap.size)) (F0 m 0 ls []) := by
  have hx := C.1.1
  have hb := C.1.2.1
  unfold F_X12_rowsFrom_B at hF
  refine lv_iload_n hx hb dX12_rowsFrom_0 rfl (lv_at hl 1 rfl) ?_
  refine lv_aload_n hx hb dX12_rowsFrom_1 rfl (lv_at hl 0 rfl) ?_
  refine get_12_1 C hP (lr_54 hL) (lk_54 hL) inlX12 mw_81 (lf_54_1 hL) dX12_rowsFrom_2 ?_
  refine lv_bipush (v := 13) hx hb dX12_rowsFrom_5 (by decide +kernel) ?_
  refine x_iald C hP (lr_55 hL) (lk_55 hL) (ln_55 hL) (by decide +kernel) dX12_rowsFrom_7 ?_
  rw [cl_13]
  refine lv_icmp_ne (tgt := 54) hx hb dX12_rowsFrom_8 (by decide) (fun c_1 => ?_) (fun c_1 => ?_) -- COND 1 rcases (Decidable.em (a1 = (σ 55 13))).symm with c_1 | c_1
  · have hF := ite_f hF c_1
    refine lv_aload_n hx hb dX12_rowsFrom_54 rfl (lv_at hl 0 rfl) ?_
    refine lv_iload_n hx hb dX12_rowsFrom_55 rfl (lv_at hl 1 rfl) ?_
    obtain ⟨σ2, hq2, hF⟩ := bn_1 hF
    refine x_callV (ci := 12) rfl rfl C hP hS (c_X12_stands hL hq2) (lr_54 hL) (lk_54 hL) (cwV 1 C.1.2.2.2.2 (gdV mw_803 mw_804 mw_805 mw_5 mw_806) rfl rfl rfl hd_X12_stands ⟨by show 1 ≤ 4 + fR + 1; omega, by show 22 ≤ 93 + lR; omega⟩) rfl rfl hl.1 (Nat.le_of_ble_eq_true rfl) ⟨Nat.zero_le _, Nat.zero_le _⟩ dX12_rowsFrom_56 (fun H locs hP hS => ?_)
    refine lv_iconst (v := 0) hx hb dX12_rowsFrom_59 (by decide) ?_
    refine lv_istore_n (lv' := [(2, .int (0 : Int32)), (0, .ref (ad 54)), (1, .int a1)]) hx hb dX12_rowsFrom_60 rfl hl (by decide) rfl (fun ls hl => ?_)
    exact w_X12_rowsFrom_B_61 C 1024 _ _ _ _ _ _ _ hρ0 hL hRM hF hP hS (lv_sub hl [1, 2, 0] rfl)
  · have hF := ite_t hF c_1
    refine lv_iconst (v := 0) hx hb dX12_rowsFrom_11 (by decide) ?_
    refine lv_istore_n (lv' := [(2, .int (0 : Int32)), (0, .ref (ad 54)), (1, .int a1)]) hx hb dX12_rowsFrom_12 rfl hl (by decide) rfl (fun ls hl => ?_)
    exact w_X12_rowsFrom_B_13 C 1024 _ _ _ _ _ _ _ hρ0 hL hRM hF hP hS (lv_sub hl [1, 2, 0] rfl)
set_option maxHeartbeats 4000000 in
set_option maxRecDepth 100000 in
theorem c_X12_rowsFrom_B {R : Int32 → SG → RG → Option (SG)} {a1 : Int32} {σ1 : SG} {σ : SG} {ρ : RG} (hL : Lay N K len ρ) (hRM : (∀ {a1 : Int32} {σ1 : SG} {σ : SG} {ρ : RG}, Lay N K len ρ → R a1 σ ρ = some σ1 → MT l Y D N ad K len yX12_rowsFrom (Cond.code yX12_rowsFrom cX12_rowsFrom 3 none :: wsL_law) (rmk fR lR) [.ref (ad 54), .int a1] σ ρ none σ1 ρ)) (hF : F_X12_rowsFrom_B R a1 σ ρ = some σ1) : MT l Y D N ad K len yX12_rowsFrom (Cond.code yX12_rowsFrom cX12_rowsFrom 3 none :: wsL_law) (rm_X12_rowsFrom_B fR lR) [.ref (ad 54), .int a1] σ ρ none σ1 ρ := by
  refine mt_of (cc := cX12_rowsFrom) (nL := 3) (ret := none) (by decide) (Nat.le_of_ble_eq_true rfl) ?_
  intro p e s m args below meth c ls C hnm hP hS hl
  exact w_X12_rowsFrom_B_0 C rfl hL hRM hF hP hS hl

def F_X12_rowsFrom_R : Nat → Int32 → SG → RG → Option (SG)
  | 0 => fun _ _ _ => none
  | d + 1 => fun a1 σ ρ => F_X12_rowsFrom_B (F_X12_rowsFrom_R d) a1 σ ρ
def fr_X12_rowsFrom_R : Nat → Nat
  | 0 => 0
  | d + 1 => 4 + fr_X12_rowsFrom_R d + 1
def lo_X12_rowsFrom_R : Nat → Nat
  | 0 => 0
  | d + 1 => 93 + lo_X12_rowsFrom_R d
theorem c_X12_rowsFrom_R (d : Nat) : ∀ {a1 : Int32} {σ1 : SG} {σ : SG} {ρ : RG}, Lay N K len ρ → F_X12_rowsFrom_R d a1 σ ρ = some σ1 → MT l Y D N ad K len yX12_rowsFrom (Cond.code yX12_rowsFrom cX12_rowsFrom 3 none :: wsL_law) (rmk (fr_X12_rowsFrom_R d) (lo_X12_rowsFrom_R d)) [.ref (ad 54), .int a1] σ ρ none σ1 ρ := by
  induction d with
  | zero => intros; contradiction
  | succ d ih =>
    intro a1 σ1 σ ρ hL hF
    exact c_X12_rowsFrom_B (R := F_X12_rowsFrom_R d) (fR := fr_X12_rowsFrom_R d) (lR := lo_X12_rowsFrom_R d) hL ih hF
def F_X12_rowsFrom (a1 : Int32) (σ : SG) (ρ : RG) : Option (SG) := F_X12_rowsFrom_R 6 a1 σ ρ
abbrev rm_X12_rowsFrom : Room := { frames := 30, cells := 0, slots := 0, locals := 558 }
theorem rm_X12_rowsFrom_eq : rmk (fr_X12_rowsFrom_R 6) (lo_X12_rowsFrom_R 6) = rm_X12_rowsFrom := rfl
theorem c_X12_rowsFrom : ∀ {a1 : Int32} {σ1 : SG} {σ : SG} {ρ : RG}, Lay N K len ρ → F_X12_rowsFrom a1 σ ρ = some σ1 → MT l Y D N ad K len yX12_rowsFrom (Cond.code yX12_rowsFrom cX12_rowsFrom 3 none :: wsL_law) rm_X12_rowsFrom [.ref (ad 54), .int a1] σ ρ none σ1 ρ := rm_X12_rowsFrom_eq ▸ c_X12_rowsFrom_R 6

/-! CutCrookedModel.public int rows(int);  -/
theorem dX12_rows_0 : decode cX12_rows 0 = .ok (.iload_n 1, 1) := by decide +kernel
theorem dX12_rows_1 : decode cX12_rows 1 = .ok (.iconst (-1), 1) := by decide +kernel
theorem dX12_rows_2 : decode cX12_rows 2 = .ok (.iconst 3, 1) := by decide +kernel
theorem dX12_rows_3 : decode cX12_rows 3 = .ok (.invokestatic 47, 3) := by decide +kernel
theorem dX12_rows_6 : decode cX12_rows 6 = .ok (.ifCond .ne 5, 3) := by decide +kernel
theorem dX12_rows_9 : decode cX12_rows 9 = .ok (.iconst (-1), 1) := by decide +kernel
theorem dX12_rows_10 : decode cX12_rows 10 = .ok (.ireturn, 1) := by decide +kernel
theorem dX12_rows_11 : decode cX12_rows 11 = .ok (.iconst 0, 1) := by decide +kernel
theorem dX12_rows_12 : decode cX12_rows 12 = .ok (.istore_n 2, 1) := by decide +kernel
theorem dX12_rows_13 : decode cX12_rows 13 = .ok (.iload_n 2, 1) := by decide +kernel
theorem dX12_rows_14 : decode cX12_rows 14 = .ok (.iconst 5, 1) := by decide +kernel
theorem dX12_rows_15 : decode cX12_rows 15 = .ok (.if_icmp .ge 17, 3) := by decide +kernel
theorem dX12_rows_18 : decode cX12_rows 18 = .ok (.aload_n 0, 1) := by decide +kernel
theorem dX12_rows_19 : decode cX12_rows 19 = .ok (.getfield 34, 3) := by decide +kernel
theorem dX12_rows_22 : decode cX12_rows 22 = .ok (.iload_n 2, 1) := by decide +kernel
theorem dX12_rows_23 : decode cX12_rows 23 = .ok (.bipush (-5), 2) := by decide +kernel
theorem dX12_rows_25 : decode cX12_rows 25 = .ok (.iastore, 1) := by decide +kernel
theorem dX12_rows_26 : decode cX12_rows 26 = .ok (.iinc 2 1, 3) := by decide +kernel
theorem dX12_rows_29 : decode cX12_rows 29 = .ok (.goto (-16), 3) := by decide +kernel
theorem dX12_rows_32 : decode cX12_rows 32 = .ok (.aload_n 0, 1) := by decide +kernel
theorem dX12_rows_33 : decode cX12_rows 33 = .ok (.iconst 0, 1) := by decide +kernel
theorem dX12_rows_34 : decode cX12_rows 34 = .ok (.putfield 236, 3) := by decide +kernel
theorem dX12_rows_37 : decode cX12_rows 37 = .ok (.aload_n 0, 1) := by decide +kernel
theorem dX12_rows_38 : decode cX12_rows 38 = .ok (.iconst 0, 1) := by decide +kernel
theorem dX12_rows_39 : decode cX12_rows 39 = .ok (.invokevirtual 239, 3) := by decide +kernel
theorem dX12_rows_42 : decode cX12_rows 42 = .ok (.iload_n 1, 1) := by decide +kernel
theorem dX12_rows_43 : decode cX12_rows 43 = .ok (.iconst (-1), 1) := by decide +kernel
theorem dX12_rows_44 : decode cX12_rows 44 = .ok (.if_icmp .ne 10, 3) := by decide +kernel
theorem dX12_rows_47 : decode cX12_rows 47 = .ok (.aload_n 0, 1) := by decide +kernel
theorem dX12_rows_48 : decode cX12_rows 48 = .ok (.getfield 236, 3) := by decide +kernel
theorem dX12_rows_51 : decode cX12_rows 51 = .ok (.goto 9, 3) := by decide +kernel
theorem dX12_rows_54 : decode cX12_rows 54 = .ok (.aload_n 0, 1) := by decide +kernel
theorem dX12_rows_55 : decode cX12_rows 55 = .ok (.getfield 34, 3) := by decide +kernel
theorem dX12_rows_58 : decode cX12_rows 58 = .ok (.iload_n 1, 1) := by decide +kernel
theorem dX12_rows_59 : decode cX12_rows 59 = .ok (.iaload, 1) := by decide +kernel
theorem dX12_rows_60 : decode cX12_rows 60 = .ok (.ireturn, 1) := by decide +kernel
theorem hd_X12_rows : yX12_rows.cls = RX12 ∧ yX12_rows.cls ≠ "java/lang/invoke/MethodHandle" ∧ yX12_rows.cls ≠ "java/lang/invoke/VarHandle" ∧ (parseMethodDescriptor yX12_rows.desc).map (fun d => d.parameters.length) = some 1 := by decide +kernel
abbrev rm_X12_rows : Room := { frames := 31, cells := 0, slots := 0, locals := 580 }
def F_X12_rows_13 (a1 : Int32) : Nat → SG → RG → Int32 → Int32 → Option (Int32 × SG)
  | 0 => fun _ _ _ _ => none
  | n + 1 => fun σ ρ v1 v2 =>
  if (5 : Int32) ≤ v2 then
    nm (s2 σ 54 28 (0 : Int32)) fun σ5 =>
    bn (F_X12_rowsFrom (0 : Int32) σ5 ρ) fun σ6 =>
    if v1 = (-1 : Int32) then
      some ((σ6 54 28), σ6)
    else
      gd (inb v1 5) <|
      some ((σ6 62 (v1).toNatClampNeg), σ6)
  else
    gd (inb v2 5) <|
    nm (s2 σ 62 (v2).toNatClampNeg (-5 : Int32)) fun σ11 =>
    nm (v2 + (1 : Int32)) fun x12 =>
    F_X12_rows_13 a1 n σ11 ρ v1 x12
def F_X12_rows (a1 : Int32) (σ : SG) (ρ : RG) : Option (Int32 × SG) :=
  bn (F_X12_in a1 (-1 : Int32) (3 : Int32) σ ρ) fun r1 =>
  if r1 = 0 then
    some ((-1 : Int32), σ)
  else
    F_X12_rows_13 a1 1024 σ ρ a1 (0 : Int32)
set_option maxHeartbeats 4000000 in
set_option maxRecDepth 100000 in
theorem w_X12_rows_13 {a1 : Int32} {p : Program} {e : Env} {s : State} {m : MethodId} {args : Array Value} {below : List Frame} {meth : Method} {c : Code} {ρ0 : RG} {r : Int32} {σ1 : SG} (C : Cx Y D N ad p s m args meth c cX12_rows 3 (some .int) RX12 wsL_law) : ∀ (n : Nat) (σ : SG) (ρ : RG) (v1 : Int32) (v2 : Int32) (H : Heap) (locs : List Loc) (ls : Array Slot), ρ = ρ0 → Lay N K len ρ → F_X12_rows_13 a1 n σ ρ v1 v2 = some (r, σ1) → WP Y D N ad K len σ ρ H → va_S (AA N ad s.heap.size) s.heap H locs → lv_has ls 3 [(0, .ref (ad 54)), (1, .int v1), (2, .int v2)] → W p l e rm_X12_rows s m args below meth c H locs 0 0 (MQ below (QW Y D N ad K len σ1 ρ0 (AA N ad s.heap.size) (some (.int r))) args s 0 0 (AA N ad s.heap.size)) (F0 m 13 ls []) := by
  have hx := C.1.1
  have hb := C.1.2.1
  intro n
  induction n with
  | zero => intro σ ρ v1 v2 H locs ls hρ0 hL hF; cases hF
  | succ n ih =>
    intro σ ρ v1 v2 H locs ls hρ0 hL hF hP hS hl
    unfold F_X12_rows_13 at hF
    refine lv_iload_n hx hb dX12_rows_13 rfl (lv_at hl 2 rfl) ?_
    refine lv_iconst (v := 5) hx hb dX12_rows_14 (by decide) ?_
    refine lv_icmp_ge (tgt := 32) hx hb dX12_rows_15 (by decide) (fun c_3 => ?_) (fun c_3 => ?_) -- COND 3 by_cases c_3 : (5 : Int32) ≤ v2
    · have hF := ite_t hF c_3
      refine lv_aload_n hx hb dX12_rows_32 rfl (lv_at hl 0 rfl) ?_
      refine lv_iconst (v := 0) hx hb dX12_rows_33 (by decide) ?_
      obtain ⟨σ5, eσ5, hF⟩ := nm_1 hF
      refine put_12_28 C hP hS (lr_54 hL) (lk_54 hL) inlX12 mw_946 eσ5 dX12_rows_34 (fun H locs hP hS => ?_)
      refine lv_aload_n hx hb dX12_rows_37 rfl (lv_at hl 0 rfl) ?_
      refine lv_iconst (v := 0) hx hb dX12_rows_38 (by decide) ?_
      obtain ⟨σ6, hq6, hF⟩ := bn_1 hF
      refine x_callV (ci := 12) rfl rfl C hP hS (c_X12_rowsFrom hL hq6) (lr_54 hL) (lk_54 hL) (cwV 1 C.1.2.2.2.2 (gdV mw_947 mw_948 mw_949 mw_5 mw_950) rfl rfl rfl hd_X12_rowsFrom ⟨Nat.le_of_ble_eq_true rfl, Nat.le_of_ble_eq_true rfl⟩) rfl rfl hl.1 (Nat.le_of_ble_eq_true rfl) ⟨Nat.zero_le _, Nat.zero_le _⟩ dX12_rows_39 (fun H locs hP hS => ?_)
      refine lv_iload_n hx hb dX12_rows_42 rfl (lv_at hl 1 rfl) ?_
      refine lv_iconst (v := -1) hx hb dX12_rows_43 (by decide) ?_
      refine lv_icmp_ne (tgt := 54) hx hb dX12_rows_44 (by decide) (fun c_7 => ?_) (fun c_7 => ?_) -- COND 7 rcases (Decidable.em (v1 = (-1 : Int32))).symm with c_7 | c_7
      · have hF := ite_f hF c_7
        refine lv_aload_n hx hb dX12_rows_54 rfl (lv_at hl 0 rfl) ?_
        refine get_12_24 C hP (lr_54 hL) (lk_54 hL) inlX12 mw_88 (lf_54_24 hL) dX12_rows_55 ?_
        refine lv_iload_n hx hb dX12_rows_58 rfl (lv_at hl 1 rfl) ?_
        obtain ⟨g8, hF⟩ := gd_1 hF
        refine x_iald C hP (lr_62 hL) (lk_62 hL) (ln_62 hL) g8 dX12_rows_59 ?_
        obtain ⟨rfl, rfl⟩ := ret_2 hF
        subst hρ0
        exact x_iret rfl C hP hS dX12_rows_60
      · have hF := ite_t hF c_7
        refine lv_aload_n hx hb dX12_rows_47 rfl (lv_at hl 0 rfl) ?_
        refine get_12_28 C hP (lr_54 hL) (lk_54 hL) inlX12 mw_946 dX12_rows_48 ?_
        refine lv_goto (tgt := 60) hx hb dX12_rows_51 (by decide) ?_
        obtain ⟨rfl, rfl⟩ := ret_2 hF
        subst hρ0
        exact x_iret rfl C hP hS dX12_rows_60
    · have hF := ite_f hF c_3
      refine lv_aload_n hx hb dX12_rows_18 rfl (lv_at hl 0 rfl) ?_
      refine get_12_24 C hP (lr_54 hL) (lk_54 hL) inlX12 mw_88 (lf_54_24 hL) dX12_rows_19 ?_
      refine lv_iload_n hx hb dX12_rows_22 rfl (lv_at hl 2 rfl) ?_
      refine lv_bipush (v := -5) hx hb dX12_rows_23 (by decide +kernel) ?_
      obtain ⟨g9, hF⟩ := gd_1 hF
      obtain ⟨σ11, eσ11, hF⟩ := nm_1 hF
      refine x_iast (σ1 := σ11) C hP hS (lr_62 hL) (lk_62 hL) (ln_62 hL) g9 eσ11 dX12_rows_25 (fun H locs hP hS => ?_)
      obtain ⟨x12, ex12, hF⟩ := nm_1 hF
      refine lv_iinc (v := x12) (lv' := [(2, .int x12), (0, .ref (ad 54)), (1, .int v1)]) hx hb dX12_rows_26 hl (k := 2) rfl (by rw [ex12]; first | rfl | decide) (by decide) rfl (fun ls hl => ?_)
      refine lv_goto (tgt := 13) hx hb dX12_rows_29 (by decide) ?_
      exact ih _ _ _ _ _ _ _ hρ0 hL hF hP hS (lv_sub hl [1, 2, 0] rfl)
set_option maxHeartbeats 4000000 in
set_option maxRecDepth 100000 in
theorem w_X12_rows_0 {a1 : Int32} {p : Program} {e : Env} {s : State} {m : MethodId} {args : Array Value} {below : List Frame} {meth : Method} {c : Code} {ρ0 : RG} {r : Int32} {σ1 : SG} (C : Cx Y D N ad p s m args meth c cX12_rows 3 (some .int) RX12 wsL_law) {σ : SG} {ρ : RG} {H : Heap} {locs : List Loc} {ls : Array Slot} (hρ0 : ρ = ρ0) (hL : Lay N K len ρ) (hF : F_X12_rows a1 σ ρ = some (r, σ1)) (hP : WP Y D N ad K len σ ρ H) (hS : va_S (AA N ad s.heap.size) s.heap H locs) (hl : lv_has ls 3 [(0, .ref (ad 54)), (1, .int a1)]) : W p l e rm_X12_rows s m args below meth c H locs 0 0 (MQ below (QW Y D N ad K len σ1 ρ0 (AA N ad s.heap.size) (some (.int r))) args s 0 0 (AA N ad s.heap.size)) (F0 m 0 ls []) := by
  have hx := C.1.1
  have hb := C.1.2.1
  unfold F_X12_rows at hF
  refine lv_iload_n hx hb dX12_rows_0 rfl (lv_at hl 1 rfl) ?_
  refine lv_iconst (v := -1) hx hb dX12_rows_1 (by decide) ?_
  refine lv_iconst (v := 3) hx hb dX12_rows_2 (by decide) ?_
  obtain ⟨r1, hq1, hF⟩ := bn_1 hF
  refine x_callS C hP hS (c_X12_in hL hq1) (va_cwS 3 C.1.2.2.2.2 (gdS mw_104 mw_105 mw_5 mw_106) rfl rfl rfl hd_X12_in.2 ⟨Nat.le_of_ble_eq_true rfl, Nat.le_of_ble_eq_true rfl⟩) rfl rfl hl.1 (Nat.le_of_ble_eq_true rfl) ⟨Nat.zero_le _, Nat.zero_le _⟩ dX12_rows_3 (fun H locs hP hS => ?_)
  refine lv_if_ne (tgt := 11) hx hb dX12_rows_6 (by decide) (fun c_2 => ?_) (fun c_2 => ?_) -- COND 2 rcases (Decidable.em (r1 = 0)).symm with c_2 | c_2
  · have hF := ite_f hF c_2
    refine lv_iconst (v := 0) hx hb dX12_rows_11 (by decide) ?_
    refine lv_istore_n (lv' := [(2, .int (0 : Int32)), (0, .ref (ad 54)), (1, .int a1)]) hx hb dX12_rows_12 rfl hl (by decide) rfl (fun ls hl => ?_)
    exact w_X12_rows_13 C 1024 _ _ _ _ _ _ _ hρ0 hL hF hP hS (lv_sub hl [1, 2, 0] rfl)
  · have hF := ite_t hF c_2
    refine lv_iconst (v := -1) hx hb dX12_rows_9 (by decide) ?_
    obtain ⟨rfl, rfl⟩ := ret_2 hF
    subst hρ0
    exact x_iret rfl C hP hS dX12_rows_10
set_option maxHeartbeats 4000000 in
set_option maxRecDepth 100000 in
theorem c_X12_rows {a1 : Int32} {r : Int32} {σ1 : SG} {σ : SG} {ρ : RG} (hL : Lay N K len ρ) (hF : F_X12_rows a1 σ ρ = some (r, σ1)) : MT l Y D N ad K len yX12_rows (Cond.code yX12_rows cX12_rows 3 (some .int) :: wsL_law) rm_X12_rows [.ref (ad 54), .int a1] σ ρ (some (.int r)) σ1 ρ := by
  refine mt_of (cc := cX12_rows) (nL := 3) (ret := (some .int)) (by decide) (Nat.le_of_ble_eq_true rfl) ?_
  intro p e s m args below meth c ls C hnm hP hS hl
  exact w_X12_rows_0 C rfl hL hF hP hS hl

/-! CutCrookedModel.private long goodRows(int, int); B -/
theorem dX12_goodRows_0 : decode cX12_goodRows 0 = .ok (.iload_n 1, 1) := by decide +kernel
theorem dX12_goodRows_1 : decode cX12_goodRows 1 = .ok (.iload_n 2, 1) := by decide +kernel
theorem dX12_goodRows_2 : decode cX12_goodRows 2 = .ok (.if_icmp .ne 5, 3) := by decide +kernel
theorem dX12_goodRows_5 : decode cX12_goodRows 5 = .ok (.lconst 1, 1) := by decide +kernel
theorem dX12_goodRows_6 : decode cX12_goodRows 6 = .ok (.lreturn, 1) := by decide +kernel
theorem dX12_goodRows_7 : decode cX12_goodRows 7 = .ok (.aload_n 0, 1) := by decide +kernel
theorem dX12_goodRows_8 : decode cX12_goodRows 8 = .ok (.iload_n 1, 1) := by decide +kernel
theorem dX12_goodRows_9 : decode cX12_goodRows 9 = .ok (.invokevirtual 217, 3) := by decide +kernel
theorem dX12_goodRows_12 : decode cX12_goodRows 12 = .ok (.lconst 0, 1) := by decide +kernel
theorem dX12_goodRows_13 : decode cX12_goodRows 13 = .ok (.lstore_n 3, 1) := by decide +kernel
theorem dX12_goodRows_14 : decode cX12_goodRows 14 = .ok (.iconst 0, 1) := by decide +kernel
theorem dX12_goodRows_15 : decode cX12_goodRows 15 = .ok (.istore 5, 2) := by decide +kernel
theorem dX12_goodRows_17 : decode cX12_goodRows 17 = .ok (.iload 5, 2) := by decide +kernel
theorem dX12_goodRows_19 : decode cX12_goodRows 19 = .ok (.aload_n 0, 1) := by decide +kernel
theorem dX12_goodRows_20 : decode cX12_goodRows 20 = .ok (.getfield 9, 3) := by decide +kernel
theorem dX12_goodRows_23 : decode cX12_goodRows 23 = .ok (.bipush 11, 2) := by decide +kernel
theorem dX12_goodRows_25 : decode cX12_goodRows 25 = .ok (.iaload, 1) := by decide +kernel
theorem dX12_goodRows_26 : decode cX12_goodRows 26 = .ok (.if_icmp .ge 51, 3) := by decide +kernel
theorem dX12_goodRows_29 : decode cX12_goodRows 29 = .ok (.aload_n 0, 1) := by decide +kernel
theorem dX12_goodRows_30 : decode cX12_goodRows 30 = .ok (.iload 5, 2) := by decide +kernel
theorem dX12_goodRows_32 : decode cX12_goodRows 32 = .ok (.aload_n 0, 1) := by decide +kernel
theorem dX12_goodRows_33 : decode cX12_goodRows 33 = .ok (.getfield 9, 3) := by decide +kernel
theorem dX12_goodRows_36 : decode cX12_goodRows 36 = .ok (.bipush 44, 2) := by decide +kernel
theorem dX12_goodRows_38 : decode cX12_goodRows 38 = .ok (.iload 5, 2) := by decide +kernel
theorem dX12_goodRows_40 : decode cX12_goodRows 40 = .ok (.iadd, 1) := by decide +kernel
theorem dX12_goodRows_41 : decode cX12_goodRows 41 = .ok (.iaload, 1) := by decide +kernel
theorem dX12_goodRows_42 : decode cX12_goodRows 42 = .ok (.invokevirtual 187, 3) := by decide +kernel
theorem dX12_goodRows_45 : decode cX12_goodRows 45 = .ok (.ifCond .eq 21, 3) := by decide +kernel
theorem dX12_goodRows_48 : decode cX12_goodRows 48 = .ok (.aload_n 0, 1) := by decide +kernel
theorem dX12_goodRows_49 : decode cX12_goodRows 49 = .ok (.invokevirtual 206, 3) := by decide +kernel
theorem dX12_goodRows_52 : decode cX12_goodRows 52 = .ok (.ifCond .eq 14, 3) := by decide +kernel
theorem dX12_goodRows_55 : decode cX12_goodRows 55 = .ok (.lload_n 3, 1) := by decide +kernel
theorem dX12_goodRows_56 : decode cX12_goodRows 56 = .ok (.aload_n 0, 1) := by decide +kernel
theorem dX12_goodRows_57 : decode cX12_goodRows 57 = .ok (.iload_n 1, 1) := by decide +kernel
theorem dX12_goodRows_58 : decode cX12_goodRows 58 = .ok (.iconst 1, 1) := by decide +kernel
theorem dX12_goodRows_59 : decode cX12_goodRows 59 = .ok (.iadd, 1) := by decide +kernel
theorem dX12_goodRows_60 : decode cX12_goodRows 60 = .ok (.iload_n 2, 1) := by decide +kernel
theorem dX12_goodRows_61 : decode cX12_goodRows 61 = .ok (.invokevirtual 242, 3) := by decide +kernel
theorem dX12_goodRows_64 : decode cX12_goodRows 64 = .ok (.ladd, 1) := by decide +kernel
theorem dX12_goodRows_65 : decode cX12_goodRows 65 = .ok (.lstore_n 3, 1) := by decide +kernel
theorem dX12_goodRows_66 : decode cX12_goodRows 66 = .ok (.aload_n 0, 1) := by decide +kernel
theorem dX12_goodRows_67 : decode cX12_goodRows 67 = .ok (.iload_n 1, 1) := by decide +kernel
theorem dX12_goodRows_68 : decode cX12_goodRows 68 = .ok (.invokevirtual 223, 3) := by decide +kernel
theorem dX12_goodRows_71 : decode cX12_goodRows 71 = .ok (.iinc 5 1, 3) := by decide +kernel
theorem dX12_goodRows_74 : decode cX12_goodRows 74 = .ok (.goto (-57), 3) := by decide +kernel
theorem dX12_goodRows_77 : decode cX12_goodRows 77 = .ok (.lload_n 3, 1) := by decide +kernel
theorem dX12_goodRows_78 : decode cX12_goodRows 78 = .ok (.lreturn, 1) := by decide +kernel
theorem hd_X12_goodRows : yX12_goodRows.cls = RX12 ∧ yX12_goodRows.cls ≠ "java/lang/invoke/MethodHandle" ∧ yX12_goodRows.cls ≠ "java/lang/invoke/VarHandle" ∧ (parseMethodDescriptor yX12_goodRows.desc).map (fun d => d.parameters.length) = some 2 := by decide +kernel
abbrev rm_X12_goodRows_B (fR lR : Nat) : Room := { frames := 4 + fR + 1, cells := 0, slots := 0, locals := 93 + lR }
def F_X12_goodRows_B_66 (R : Int32 → Int32 → SG → RG → Option (Int64 × SG)) (a1 : Int32) (a2 : Int32) (rec_17 : SG → RG → Int32 → Int32 → Int64 → Int32 → Option (Int64 × SG)) (σ : SG) (ρ : RG) (v1 : Int32) (v2 : Int32) (v3 : Int64) (v5 : Int32) : Option (Int64 × SG) :=
  bn (F_X12_standsBack v1 σ ρ) fun σ8 =>
  nm (v5 + (1 : Int32)) fun x9 =>
  rec_17 σ8 ρ v1 v2 v3 x9
def F_X12_goodRows_B_17 (R : Int32 → Int32 → SG → RG → Option (Int64 × SG)) (a1 : Int32) (a2 : Int32) : Nat → SG → RG → Int32 → Int32 → Int64 → Int32 → Option (Int64 × SG)
  | 0 => fun _ _ _ _ _ _ => none
  | n + 1 => fun σ ρ v1 v2 v3 v5 =>
  if (σ 55 11) ≤ v5 then
    some (v3, σ)
  else
    nm ((44 : Int32) + v5) fun x4 =>
    gd (inb x4 909) <|
    bn2 (F_X12_cuts v5 (σ 55 (x4).toNatClampNeg) σ ρ) fun r6 σ6 =>
    if r6 = 0 then
      F_X12_goodRows_B_66 R a1 a2 (F_X12_goodRows_B_17 R a1 a2 n) σ6 ρ v1 v2 v3 v5
    else
      bn (F_X12_isGood σ6 ρ) fun r10 =>
      if r10 = 0 then
        F_X12_goodRows_B_66 R a1 a2 (F_X12_goodRows_B_17 R a1 a2 n) σ6 ρ v1 v2 v3 v5
      else
        nm (v1 + (1 : Int32)) fun x12 =>
        bn2 (R x12 v2 σ6 ρ) fun r13 σ13 =>
        nm (v3 + r13) fun x14 =>
        F_X12_goodRows_B_66 R a1 a2 (F_X12_goodRows_B_17 R a1 a2 n) σ13 ρ v1 v2 x14 v5
def F_X12_goodRows_B (R : Int32 → Int32 → SG → RG → Option (Int64 × SG)) (a1 : Int32) (a2 : Int32) (σ : SG) (ρ : RG) : Option (Int64 × SG) :=
  if a1 = a2 then
    some ((1 : Int64), σ)
  else
    bn (F_X12_stands a1 σ ρ) fun σ2 =>
    F_X12_goodRows_B_17 R a1 a2 1024 σ2 ρ a1 a2 (0 : Int64) (0 : Int32)
set_option maxHeartbeats 4000000 in
set_option maxRecDepth 100000 in
theorem w_X12_goodRows_B_66 {R : Int32 → Int32 → SG → RG → Option (Int64 × SG)} {a1 : Int32} {a2 : Int32} {rec_17 : SG → RG → Int32 → Int32 → Int64 → Int32 → Option (Int64 × SG)} {p : Program} {e : Env} {s : State} {m : MethodId} {args : Array Value} {below : List Frame} {meth : Method} {c : Code} {ρ0 : RG} {r : Int64} {σ1 : SG} (C : Cx Y D N ad p s m args meth c cX12_goodRows 6 (some .long) RX12 wsL_law) (hrec_17 : ∀ (σ : SG) (ρ : RG) (v1 : Int32) (v2 : Int32) (v3 : Int64) (v5 : Int32) (H : Heap) (locs : List Loc) (ls : Array Slot), ρ = ρ0 → Lay N K len ρ → (∀ {a1 : Int32} {a2 : Int32} {r : Int64} {σ1 : SG} {σ : SG} {ρ : RG}, Lay N K len ρ → R a1 a2 σ ρ = some (r, σ1) → MT l Y D N ad K len yX12_goodRows (Cond.code yX12_goodRows cX12_goodRows 6 (some .long) :: wsL_law) (rmk fR lR) [.ref (ad 54), .int a1, .int a2] σ ρ (some (.long r)) σ1 ρ) → rec_17 σ ρ v1 v2 v3 v5 = some (r, σ1) → WP Y D N ad K len σ ρ H → va_S (AA N ad s.heap.size) s.heap H locs → lv_has ls 6 [(0, .ref (ad 54)), (1, .int v1), (2, .int v2), (3, .long v3), (5, .int v5)] → W p l e (rm_X12_goodRows_B fR lR) s m args below meth c H locs 0 0 (MQ below (QW Y D N ad K len σ1 ρ0 (AA N ad s.heap.size) (some (.long r))) args s 0 0 (AA N ad s.heap.size)) (F0 m 17 ls [])) {σ : SG} {ρ : RG} {v1 : Int32} {v2 : Int32} {v3 : Int64} {v5 : Int32} {H : Heap} {locs : List Loc} {ls : Array Slot} (hρ0 : ρ = ρ0) (hL : Lay N K len ρ) (hRM : (∀ {a1 : Int32} {a2 : Int32} {r : Int64} {σ1 : SG} {σ : SG} {ρ : RG}, Lay N K len ρ → R a1 a2 σ ρ = some (r, σ1) → MT l Y D N ad K len yX12_goodRows (Cond.code yX12_goodRows cX12_goodRows 6 (some .long) :: wsL_law) (rmk fR lR) [.ref (ad 54), .int a1, .int a2] σ ρ (some (.long r)) σ1 ρ)) (hF : F_X12_goodRows_B_66 R a1 a2 rec_17 σ ρ v1 v2 v3 v5 = some (r, σ1)) (hP : WP Y D N ad K len σ ρ H) (hS : va_S (AA N ad s.heap.size) s.heap H locs) (hl : lv_has ls 6 [(0, .ref (ad 54)), (1, .int v1), (2, .int v2), (3, .long v3), (5, .int v5)]) : W p l e (rm_X12_goodRows_B fR lR) s m args below meth c H locs 0 0 (MQ below (QW Y D N ad K len σ1 ρ0 (AA N ad s.heap.size) (some (.long r))) args s 0 0 (AA N ad s.heap.size)) (F0 m 66 ls []) := by
  have hx := C.1.1
  have hb := C.1.2.1
  unfold F_X12_goodRows_B_66 at hF
  refine lv_aload_n hx hb dX12_goodRows_66 rfl (lv_at hl 0 rfl) ?_
  refine lv_iload_n hx hb dX12_goodRows_67 rfl (lv_at hl 1 rfl) ?_
  obtain ⟨σ8, hq8, hF⟩ := bn_1 hF
  refine x_callV (ci := 12) rfl rfl C hP hS (c_X12_standsBack hL hq8) (lr_54 hL) (lk_54 hL) (cwV 1 C.1.2.2.2.2 (gdV mw_807 mw_808 mw_809 mw_5 mw_810) rfl rfl rfl hd_X12_standsBack ⟨by show 1 ≤ 4 + fR + 1; omega, by show 22 ≤ 93 + lR; omega⟩) rfl rfl hl.1 (Nat.le_of_ble_eq_true rfl) ⟨Nat.zero_le _, Nat.zero_le _⟩ dX12_goodRows_68 (fun H locs hP hS => ?_)
  obtain ⟨x9, ex9, hF⟩ := nm_1 hF
  refine lv_iinc (v := x9) (lv' := [(5, .int x9), (0, .ref (ad 54)), (1, .int v1), (2, .int v2), (3, .long v3)]) hx hb dX12_goodRows_71 hl (k := 4) rfl (by rw [ex9]; first | rfl | decide) (by decide) rfl (fun ls hl => ?_)
  refine lv_goto (tgt := 17) hx hb dX12_goodRows_74 (by decide) ?_
  exact hrec_17 _ _ _ _ _ _ _ _ _ hρ0 hL hRM hF hP hS (lv_sub hl [1, 2, 3, 4, 0] rfl)
set_option maxHeartbeats 4000000 in
set_option maxRecDepth 100000 in
theorem w_X12_goodRows_B_17 {R : Int32 → Int32 → SG → RG → Option (Int64 × SG)} {a1 : Int32} {a2 : Int32} {p : Program} {e : Env} {s : State} {m : MethodId} {args : Array Value} {below : List Frame} {meth : Method} {c : Code} {ρ0 : RG} {r : Int64} {σ1 : SG} (C : Cx Y D N ad p s m args meth c cX12_goodRows 6 (some .long) RX12 wsL_law) : ∀ (n : Nat) (σ : SG) (ρ : RG) (v1 : Int32) (v2 : Int32) (v3 : Int64) (v5 : Int32) (H : Heap) (locs : List Loc) (ls : Array Slot), ρ = ρ0 → Lay N K len ρ → (∀ {a1 : Int32} {a2 : Int32} {r : Int64} {σ1 : SG} {σ : SG} {ρ : RG}, Lay N K len ρ → R a1 a2 σ ρ = some (r, σ1) → MT l Y D N ad K len yX12_goodRows (Cond.code yX12_goodRows cX12_goodRows 6 (some .long) :: wsL_law) (rmk fR lR) [.ref (ad 54), .int a1, .int a2] σ ρ (some (.long r)) σ1 ρ) → F_X12_goodRows_B_17 R a1 a2 n σ ρ v1 v2 v3 v5 = some (r, σ1) → WP Y D N ad K len σ ρ H → va_S (AA N ad s.heap.size) s.heap H locs → lv_has ls 6 [(0, .ref (ad 54)), (1, .int v1), (2, .int v2), (3, .long v3), (5, .int v5)] → W p l e (rm_X12_goodRows_B fR lR) s m args below meth c H locs 0 0 (MQ below (QW Y D N ad K len σ1 ρ0 (AA N ad s.heap.size) (some (.long r))) args s 0 0 (AA N ad s.heap.size)) (F0 m 17 ls []) := by
  have hx := C.1.1
  have hb := C.1.2.1
  intro n
  induction n with
  | zero => intro σ ρ v1 v2 v3 v5 H locs ls hρ0 hL hRM hF; cases hF
  | succ n ih =>
    intro σ ρ v1 v2 v3 v5 H locs ls hρ0 hL hRM hF hP hS hl
    unfold F_X12_goodRows_B_17 at hF
    refine lv_iload hx hb dX12_goodRows_17 (lv_at hl 4 rfl) ?_
    refine lv_aload_n hx hb dX12_goodRows_19 rfl (lv_at hl 0 rfl) ?_
    refine get_12_1 C hP (lr_54 hL) (lk_54 hL) inlX12 mw_81 (lf_54_1 hL) dX12_goodRows_20 ?_
    refine lv_bipush (v := 11) hx hb dX12_goodRows_23 (by decide +kernel) ?_
    refine x_iald C hP (lr_55 hL) (lk_55 hL) (ln_55 hL) (by decide +kernel) dX12_goodRows_25 ?_
    rw [cl_11]
    refine lv_icmp_ge (tgt := 77) hx hb dX12_goodRows_26 (by decide) (fun c_3 => ?_) (fun c_3 => ?_) -- COND 3 by_cases c_3 : (σ 55 11) ≤ v5
    · have hF := ite_t hF c_3
      refine lv_lload_n hx hb dX12_goodRows_77 rfl (lv_at hl 3 rfl) ?_
      obtain ⟨rfl, rfl⟩ := ret_2 hF
      subst hρ0
      exact x_lret rfl C hP hS dX12_goodRows_78
    · have hF := ite_f hF c_3
      refine lv_aload_n hx hb dX12_goodRows_29 rfl (lv_at hl 0 rfl) ?_
      refine lv_iload hx hb dX12_goodRows_30 (lv_at hl 4 rfl) ?_
      refine lv_aload_n hx hb dX12_goodRows_32 rfl (lv_at hl 0 rfl) ?_
      refine get_12_1 C hP (lr_54 hL) (lk_54 hL) inlX12 mw_81 (lf_54_1 hL) dX12_goodRows_33 ?_
      refine lv_bipush (v := 44) hx hb dX12_goodRows_36 (by decide +kernel) ?_
      refine lv_iload hx hb dX12_goodRows_38 (lv_at hl 4 rfl) ?_
      refine lv_iadd hx hb dX12_goodRows_40 ?_
      obtain ⟨x4, ex4, hF⟩ := nm_1 hF
      refine x_top ex4 ?_
      obtain ⟨g5, hF⟩ := gd_1 hF
      refine x_iald C hP (lr_55 hL) (lk_55 hL) (ln_55 hL) g5 dX12_goodRows_41 ?_
      obtain ⟨r6, σ6, hq6, hF⟩ := bn2_1 hF
      refine x_callV (ci := 12) rfl rfl C hP hS (c_X12_cuts hL hq6) (lr_54 hL) (lk_54 hL) (cwV 2 C.1.2.2.2.2 (gdV mw_652 mw_653 mw_654 mw_5 mw_655) rfl rfl rfl hd_X12_cuts ⟨by show 4 ≤ 4 + fR + 1; omega, by show 93 ≤ 93 + lR; omega⟩) rfl rfl hl.1 (Nat.le_of_ble_eq_true rfl) ⟨Nat.zero_le _, Nat.zero_le _⟩ dX12_goodRows_42 (fun H locs hP hS => ?_)
      refine lv_if_eq (tgt := 66) hx hb dX12_goodRows_45 (by decide) (fun c_7 => ?_) (fun c_7 => ?_) -- COND 7 by_cases c_7 : r6 = 0
      · have hF := ite_t hF c_7
        exact w_X12_goodRows_B_66 C ih hρ0 hL hRM hF hP hS (lv_sub hl [0, 1, 2, 3, 4] rfl)
      · have hF := ite_f hF c_7
        refine lv_aload_n hx hb dX12_goodRows_48 rfl (lv_at hl 0 rfl) ?_
        obtain ⟨r10, hq10, hF⟩ := bn_1 hF
        refine x_callV (ci := 12) rfl rfl C hP hS (c_X12_isGood hL hq10) (lr_54 hL) (lk_54 hL) (cwV 0 C.1.2.2.2.2 (gdV mw_762 mw_763 mw_764 mw_5 mw_765) rfl rfl rfl hd_X12_isGood ⟨by show 2 ≤ 4 + fR + 1; omega, by show 42 ≤ 93 + lR; omega⟩) rfl rfl hl.1 (Nat.le_of_ble_eq_true rfl) ⟨Nat.zero_le _, Nat.zero_le _⟩ dX12_goodRows_49 (fun H locs hP hS => ?_)
        refine lv_if_eq (tgt := 66) hx hb dX12_goodRows_52 (by decide) (fun c_11 => ?_) (fun c_11 => ?_) -- COND 11 by_cases c_11 : r10 = 0
        · have hF := ite_t hF c_11
          exact w_X12_goodRows_B_66 C ih hρ0 hL hRM hF hP hS (lv_sub hl [0, 1, 2, 3, 4] rfl)
        · have hF := ite_f hF c_11
          refine lv_lload_n hx hb dX12_goodRows_55 rfl (lv_at hl 3 rfl) ?_
          refine lv_aload_n hx hb dX12_goodRows_56 rfl (lv_at hl 0 rfl) ?_
          refine lv_iload_n hx hb dX12_goodRows_57 rfl (lv_at hl 1 rfl) ?_
          refine lv_iconst (v := 1) hx hb dX12_goodRows_58 (by decide) ?_
          refine lv_iadd hx hb dX12_goodRows_59 ?_
          obtain ⟨x12, ex12, hF⟩ := nm_1 hF
          refine x_top ex12 ?_
          refine lv_iload_n hx hb dX12_goodRows_60 rfl (lv_at hl 2 rfl) ?_
          obtain ⟨r13, σ13, hq13, hF⟩ := bn2_1 hF
          refine x_callV (ci := 12) rfl rfl C hP hS (hRM hL hq13) (lr_54 hL) (lk_54 hL) (cwV 2 C.1.2.2.2.2 (gdV mw_968 mw_969 mw_970 mw_5 mw_971) rfl rfl rfl hd_X12_goodRows ⟨by show fR + 1 ≤ 4 + fR + 1; omega, by show 25 + lR ≤ 93 + lR; omega⟩) rfl rfl hl.1 (Nat.le_of_ble_eq_true rfl) ⟨Nat.zero_le _, Nat.zero_le _⟩ dX12_goodRows_61 (fun H locs hP hS => ?_)
          refine lv_ladd hx hb dX12_goodRows_64 ?_
          obtain ⟨x14, ex14, hF⟩ := nm_1 hF
          refine x_topl ex14 ?_
          refine lv_lstore_n (lv' := [(3, .long x14), (0, .ref (ad 54)), (1, .int v1), (2, .int v2), (5, .int v5)]) hx hb dX12_goodRows_65 rfl hl (by decide) rfl (fun ls hl => ?_)
          exact w_X12_goodRows_B_66 C ih hρ0 hL hRM hF hP hS (lv_sub hl [1, 2, 3, 0, 4] rfl)
set_option maxHeartbeats 4000000 in
set_option maxRecDepth 100000 in
theorem w_X12_goodRows_B_0 {R : Int32 → Int32 → SG → RG → Option (Int64 × SG)} {a1 : Int32} {a2 : Int32} {p : Program} {e : Env} {s : State} {m : MethodId} {args : Array Value} {below : List Frame} {meth : Method} {c : Code} {ρ0 : RG} {r : Int64} {σ1 : SG} (C : Cx Y D N ad p s m args meth c cX12_goodRows 6 (some .long) RX12 wsL_law) {σ : SG} {ρ : RG} {H : Heap} {locs : List Loc} {ls : Array Slot} (hρ0 : ρ = ρ0) (hL : Lay N K len ρ) (hRM : (∀ {a1 : Int32} {a2 : Int32} {r : Int64} {σ1 : SG} {σ : SG} {ρ : RG}, Lay N K len ρ → R a1 a2 σ ρ = some (r, σ1) → MT l Y D N ad K len yX12_goodRows (Cond.code yX12_goodRows cX12_goodRows 6 (some .long) :: wsL_law) (rmk fR lR) [.ref (ad 54), .int a1, .int a2] σ ρ (some (.long r)) σ1 ρ)) (hF : F_X12_goodRows_B R a1 a2 σ ρ = some (r, σ1)) (hP : WP Y D N ad K len σ ρ H) (hS : va_S (AA N ad s.heap.size) s.heap H locs) (hl : lv_has ls 6 [(0, .ref (ad 54)), (1, .int a1), (2, .int a2)]) : W p l e (rm_X12_goodRows_B fR lR) s m args below meth c H locs 0 0 (MQ below (QW Y D N ad K len σ1 ρ0 (AA N ad s.heap.size) (some (.long r))) args s 0 0 (AA N ad s.heap.size)) (F0 m 0 ls []) := by
  have hx := C.1.1
  have hb := C.1.2.1
  unfold F_X12_goodRows_B at hF
  refine lv_iload_n hx hb dX12_goodRows_0 rfl (lv_at hl 1 rfl) ?_
  refine lv_iload_n hx hb dX12_goodRows_1 rfl (lv_at hl 2 rfl) ?_
  refine lv_icmp_ne (tgt := 7) hx hb dX12_goodRows_2 (by decide) (fun c_1 => ?_) (fun c_1 => ?_) -- COND 1 rcases (Decidable.em (a1 = a2)).symm with c_1 | c_1
  · have hF := ite_f hF c_1
    refine lv_aload_n hx hb dX12_goodRows_7 rfl (lv_at hl 0 rfl) ?_
    refine lv_iload_n hx hb dX12_goodRows_8 rfl (lv_at hl 1 rfl) ?_
    obtain ⟨σ2, hq2, hF⟩ := bn_1 hF
    refine x_callV (ci := 12) rfl rfl C hP hS (c_X12_stands hL hq2) (lr_54 hL) (lk_54 hL) (cwV 1 C.1.2.2.2.2 (gdV mw_803 mw_804 mw_805 mw_5 mw_806) rfl rfl rfl hd_X12_stands ⟨by show 1 ≤ 4 + fR + 1; omega, by show 22 ≤ 93 + lR; omega⟩) rfl rfl hl.1 (Nat.le_of_ble_eq_true rfl) ⟨Nat.zero_le _, Nat.zero_le _⟩ dX12_goodRows_9 (fun H locs hP hS => ?_)
    refine lv_lconst (v := 0) hx hb dX12_goodRows_12 (by decide +kernel) ?_
    refine lv_lstore_n (lv' := [(3, .long (0 : Int64)), (0, .ref (ad 54)), (1, .int a1), (2, .int a2)]) hx hb dX12_goodRows_13 rfl hl (by decide) rfl (fun ls hl => ?_)
    refine lv_iconst (v := 0) hx hb dX12_goodRows_14 (by decide) ?_
    refine lv_istore (lv' := [(5, .int (0 : Int32)), (3, .long (0 : Int64)), (0, .ref (ad 54)), (1, .int a1), (2, .int a2)]) hx hb dX12_goodRows_15 hl (by decide) rfl (fun ls hl => ?_)
    exact w_X12_goodRows_B_17 C 1024 _ _ _ _ _ _ _ _ _ hρ0 hL hRM hF hP hS (lv_sub hl [2, 3, 4, 1, 0] rfl)
  · have hF := ite_t hF c_1
    refine lv_lconst (v := 1) hx hb dX12_goodRows_5 (by decide +kernel) ?_
    obtain ⟨rfl, rfl⟩ := ret_2 hF
    subst hρ0
    exact x_lret rfl C hP hS dX12_goodRows_6
set_option maxHeartbeats 4000000 in
set_option maxRecDepth 100000 in
theorem c_X12_goodRows_B {R : Int32 → Int32 → SG → RG → Option (Int64 × SG)} {a1 : Int32} {a2 : Int32} {r : Int64} {σ1 : SG} {σ : SG} {ρ : RG} (hL : Lay N K len ρ) (hRM : (∀ {a1 : Int32} {a2 : Int32} {r : Int64} {σ1 : SG} {σ : SG} {ρ : RG}, Lay N K len ρ → R a1 a2 σ ρ = some (r, σ1) → MT l Y D N ad K len yX12_goodRows (Cond.code yX12_goodRows cX12_goodRows 6 (some .long) :: wsL_law) (rmk fR lR) [.ref (ad 54), .int a1, .int a2] σ ρ (some (.long r)) σ1 ρ)) (hF : F_X12_goodRows_B R a1 a2 σ ρ = some (r, σ1)) : MT l Y D N ad K len yX12_goodRows (Cond.code yX12_goodRows cX12_goodRows 6 (some .long) :: wsL_law) (rm_X12_goodRows_B fR lR) [.ref (ad 54), .int a1, .int a2] σ ρ (some (.long r)) σ1 ρ := by
  refine mt_of (cc := cX12_goodRows) (nL := 6) (ret := (some .long)) (by decide) (Nat.le_of_ble_eq_true rfl) ?_
  intro p e s m args below meth c ls C hnm hP hS hl
  exact w_X12_goodRows_B_0 C rfl hL hRM hF hP hS hl

def F_X12_goodRows_R : Nat → Int32 → Int32 → SG → RG → Option (Int64 × SG)
  | 0 => fun _ _ _ _ => none
  | d + 1 => fun a1 a2 σ ρ => F_X12_goodRows_B (F_X12_goodRows_R d) a1 a2 σ ρ
def fr_X12_goodRows_R : Nat → Nat
  | 0 => 0
  | d + 1 => 4 + fr_X12_goodRows_R d + 1
def lo_X12_goodRows_R : Nat → Nat
  | 0 => 0
  | d + 1 => 93 + lo_X12_goodRows_R d
theorem c_X12_goodRows_R (d : Nat) : ∀ {a1 : Int32} {a2 : Int32} {r : Int64} {σ1 : SG} {σ : SG} {ρ : RG}, Lay N K len ρ → F_X12_goodRows_R d a1 a2 σ ρ = some (r, σ1) → MT l Y D N ad K len yX12_goodRows (Cond.code yX12_goodRows cX12_goodRows 6 (some .long) :: wsL_law) (rmk (fr_X12_goodRows_R d) (lo_X12_goodRows_R d)) [.ref (ad 54), .int a1, .int a2] σ ρ (some (.long r)) σ1 ρ := by
  induction d with
  | zero => intros; contradiction
  | succ d ih =>
    intro a1 a2 r σ1 σ ρ hL hF
    exact c_X12_goodRows_B (R := F_X12_goodRows_R d) (fR := fr_X12_goodRows_R d) (lR := lo_X12_goodRows_R d) hL ih hF
def F_X12_goodRows (a1 : Int32) (a2 : Int32) (σ : SG) (ρ : RG) : Option (Int64 × SG) := F_X12_goodRows_R 5 a1 a2 σ ρ
abbrev rm_X12_goodRows : Room := { frames := 25, cells := 0, slots := 0, locals := 465 }
theorem rm_X12_goodRows_eq : rmk (fr_X12_goodRows_R 5) (lo_X12_goodRows_R 5) = rm_X12_goodRows := rfl
theorem c_X12_goodRows : ∀ {a1 : Int32} {a2 : Int32} {r : Int64} {σ1 : SG} {σ : SG} {ρ : RG}, Lay N K len ρ → F_X12_goodRows a1 a2 σ ρ = some (r, σ1) → MT l Y D N ad K len yX12_goodRows (Cond.code yX12_goodRows cX12_goodRows 6 (some .long) :: wsL_law) rm_X12_goodRows [.ref (ad 54), .int a1, .int a2] σ ρ (some (.long r)) σ1 ρ := rm_X12_goodRows_eq ▸ c_X12_goodRows_R 5

/-! CutCrookedModel.public long odds(int, int);  -/
theorem dX12_odds_0 : decode cX12_odds 0 = .ok (.iload_n 1, 1) := by decide +kernel
theorem dX12_odds_1 : decode cX12_odds 1 = .ok (.iconst 1, 1) := by decide +kernel
theorem dX12_odds_2 : decode cX12_odds 2 = .ok (.iconst 3, 1) := by decide +kernel
theorem dX12_odds_3 : decode cX12_odds 3 = .ok (.invokestatic 47, 3) := by decide +kernel
theorem dX12_odds_6 : decode cX12_odds 6 = .ok (.ifCond .eq 22, 3) := by decide +kernel
theorem dX12_odds_9 : decode cX12_odds 9 = .ok (.iload_n 2, 1) := by decide +kernel
theorem dX12_odds_10 : decode cX12_odds 10 = .ok (.iconst 0, 1) := by decide +kernel
theorem dX12_odds_11 : decode cX12_odds 11 = .ok (.iconst 1, 1) := by decide +kernel
theorem dX12_odds_12 : decode cX12_odds 12 = .ok (.invokestatic 47, 3) := by decide +kernel
theorem dX12_odds_15 : decode cX12_odds 15 = .ok (.ifCond .eq 13, 3) := by decide +kernel
theorem dX12_odds_18 : decode cX12_odds 18 = .ok (.aload_n 0, 1) := by decide +kernel
theorem dX12_odds_19 : decode cX12_odds 19 = .ok (.getfield 9, 3) := by decide +kernel
theorem dX12_odds_22 : decode cX12_odds 22 = .ok (.bipush 11, 2) := by decide +kernel
theorem dX12_odds_24 : decode cX12_odds 24 = .ok (.iaload, 1) := by decide +kernel
theorem dX12_odds_25 : decode cX12_odds 25 = .ok (.ifCond .ne 7, 3) := by decide +kernel
theorem dX12_odds_28 : decode cX12_odds 28 = .ok (.ldc2_w 246, 3) := by decide +kernel
theorem dX12_odds_31 : decode cX12_odds 31 = .ok (.lreturn, 1) := by decide +kernel
theorem dX12_odds_32 : decode cX12_odds 32 = .ok (.lconst 1, 1) := by decide +kernel
theorem dX12_odds_33 : decode cX12_odds 33 = .ok (.lstore_n 3, 1) := by decide +kernel
theorem dX12_odds_34 : decode cX12_odds 34 = .ok (.iconst 0, 1) := by decide +kernel
theorem dX12_odds_35 : decode cX12_odds 35 = .ok (.istore 5, 2) := by decide +kernel
theorem dX12_odds_37 : decode cX12_odds 37 = .ok (.iload 5, 2) := by decide +kernel
theorem dX12_odds_39 : decode cX12_odds 39 = .ok (.iload_n 1, 1) := by decide +kernel
theorem dX12_odds_40 : decode cX12_odds 40 = .ok (.if_icmp .ge 20, 3) := by decide +kernel
theorem dX12_odds_43 : decode cX12_odds 43 = .ok (.lload_n 3, 1) := by decide +kernel
theorem dX12_odds_44 : decode cX12_odds 44 = .ok (.aload_n 0, 1) := by decide +kernel
theorem dX12_odds_45 : decode cX12_odds 45 = .ok (.getfield 9, 3) := by decide +kernel
theorem dX12_odds_48 : decode cX12_odds 48 = .ok (.bipush 11, 2) := by decide +kernel
theorem dX12_odds_50 : decode cX12_odds 50 = .ok (.iaload, 1) := by decide +kernel
theorem dX12_odds_51 : decode cX12_odds 51 = .ok (.i2l, 1) := by decide +kernel
theorem dX12_odds_52 : decode cX12_odds 52 = .ok (.lmul, 1) := by decide +kernel
theorem dX12_odds_53 : decode cX12_odds 53 = .ok (.lstore_n 3, 1) := by decide +kernel
theorem dX12_odds_54 : decode cX12_odds 54 = .ok (.iinc 5 1, 3) := by decide +kernel
theorem dX12_odds_57 : decode cX12_odds 57 = .ok (.goto (-20), 3) := by decide +kernel
theorem dX12_odds_60 : decode cX12_odds 60 = .ok (.aload_n 0, 1) := by decide +kernel
theorem dX12_odds_61 : decode cX12_odds 61 = .ok (.iconst 0, 1) := by decide +kernel
theorem dX12_odds_62 : decode cX12_odds 62 = .ok (.iload_n 1, 1) := by decide +kernel
theorem dX12_odds_63 : decode cX12_odds 63 = .ok (.invokevirtual 242, 3) := by decide +kernel
theorem dX12_odds_66 : decode cX12_odds 66 = .ok (.lload_n 3, 1) := by decide +kernel
theorem dX12_odds_67 : decode cX12_odds 67 = .ok (.iload_n 2, 1) := by decide +kernel
theorem dX12_odds_68 : decode cX12_odds 68 = .ok (.invokestatic 248, 3) := by decide +kernel
theorem dX12_odds_71 : decode cX12_odds 71 = .ok (.lreturn, 1) := by decide +kernel
theorem hd_X12_odds : yX12_odds.cls = RX12 ∧ yX12_odds.cls ≠ "java/lang/invoke/MethodHandle" ∧ yX12_odds.cls ≠ "java/lang/invoke/VarHandle" ∧ (parseMethodDescriptor yX12_odds.desc).map (fun d => d.parameters.length) = some 2 := by decide +kernel
abbrev rm_X12_odds : Room := { frames := 26, cells := 0, slots := 0, locals := 490 }
def F_X12_odds_37 (a1 : Int32) (a2 : Int32) : Nat → SG → RG → Int32 → Int32 → Int64 → Int32 → Option (Int64 × SG)
  | 0 => fun _ _ _ _ _ _ => none
  | n + 1 => fun σ ρ v1 v2 v3 v5 =>
  if v1 ≤ v5 then
    bn2 (F_X12_goodRows (0 : Int32) v1 σ ρ) fun r7 σ7 =>
    bn (F_X12_lowest r7 v3 v2 σ7 ρ) fun r8 =>
    some (r8, σ7)
  else
    nm (v3 * ((σ 55 11)).toInt64) fun x9 =>
    nm (v5 + (1 : Int32)) fun x10 =>
    F_X12_odds_37 a1 a2 n σ ρ v1 v2 x9 x10
def F_X12_odds (a1 : Int32) (a2 : Int32) (σ : SG) (ρ : RG) : Option (Int64 × SG) :=
  bn (F_X12_in a1 (1 : Int32) (3 : Int32) σ ρ) fun r1 =>
  if r1 = 0 then
    some ((-9223372036854775808 : Int64), σ)
  else
    bn (F_X12_in a2 (0 : Int32) (1 : Int32) σ ρ) fun r3 =>
    if r3 = 0 then
      some ((-9223372036854775808 : Int64), σ)
    else
      if (σ 55 11) = 0 then
        some ((-9223372036854775808 : Int64), σ)
      else
        F_X12_odds_37 a1 a2 1024 σ ρ a1 a2 (1 : Int64) (0 : Int32)
set_option maxHeartbeats 4000000 in
set_option maxRecDepth 100000 in
theorem w_X12_odds_37 {a1 : Int32} {a2 : Int32} {p : Program} {e : Env} {s : State} {m : MethodId} {args : Array Value} {below : List Frame} {meth : Method} {c : Code} {ρ0 : RG} {r : Int64} {σ1 : SG} (C : Cx Y D N ad p s m args meth c cX12_odds 6 (some .long) RX12 wsL_law) : ∀ (n : Nat) (σ : SG) (ρ : RG) (v1 : Int32) (v2 : Int32) (v3 : Int64) (v5 : Int32) (H : Heap) (locs : List Loc) (ls : Array Slot), ρ = ρ0 → Lay N K len ρ → F_X12_odds_37 a1 a2 n σ ρ v1 v2 v3 v5 = some (r, σ1) → WP Y D N ad K len σ ρ H → va_S (AA N ad s.heap.size) s.heap H locs → lv_has ls 6 [(0, .ref (ad 54)), (1, .int v1), (2, .int v2), (3, .long v3), (5, .int v5)] → W p l e rm_X12_odds s m args below meth c H locs 0 0 (MQ below (QW Y D N ad K len σ1 ρ0 (AA N ad s.heap.size) (some (.long r))) args s 0 0 (AA N ad s.heap.size)) (F0 m 37 ls []) := by
  have hx := C.1.1
  have hb := C.1.2.1
  intro n
  induction n with
  | zero => intro σ ρ v1 v2 v3 v5 H locs ls hρ0 hL hF; cases hF
  | succ n ih =>
    intro σ ρ v1 v2 v3 v5 H locs ls hρ0 hL hF hP hS hl
    unfold F_X12_odds_37 at hF
    refine lv_iload hx hb dX12_odds_37 (lv_at hl 4 rfl) ?_
    refine lv_iload_n hx hb dX12_odds_39 rfl (lv_at hl 1 rfl) ?_
    refine lv_icmp_ge (tgt := 60) hx hb dX12_odds_40 (by decide) (fun c_6 => ?_) (fun c_6 => ?_) -- COND 6 by_cases c_6 : v1 ≤ v5
    · have hF := ite_t hF c_6
      refine lv_aload_n hx hb dX12_odds_60 rfl (lv_at hl 0 rfl) ?_
      refine lv_iconst (v := 0) hx hb dX12_odds_61 (by decide) ?_
      refine lv_iload_n hx hb dX12_odds_62 rfl (lv_at hl 1 rfl) ?_
      obtain ⟨r7, σ7, hq7, hF⟩ := bn2_1 hF
      refine x_callV (ci := 12) rfl rfl C hP hS (c_X12_goodRows hL hq7) (lr_54 hL) (lk_54 hL) (cwV 2 C.1.2.2.2.2 (gdV mw_968 mw_969 mw_970 mw_5 mw_971) rfl rfl rfl hd_X12_goodRows ⟨Nat.le_of_ble_eq_true rfl, Nat.le_of_ble_eq_true rfl⟩) rfl rfl hl.1 (Nat.le_of_ble_eq_true rfl) ⟨Nat.zero_le _, Nat.zero_le _⟩ dX12_odds_63 (fun H locs hP hS => ?_)
      refine lv_lload_n hx hb dX12_odds_66 rfl (lv_at hl 3 rfl) ?_
      refine lv_iload_n hx hb dX12_odds_67 rfl (lv_at hl 2 rfl) ?_
      obtain ⟨r8, hq8, hF⟩ := bn_1 hF
      refine x_callS C hP hS (c_X12_lowest hL hq8) (va_cwS 3 C.1.2.2.2.2 (gdS mw_972 mw_973 mw_5 mw_974) rfl rfl rfl hd_X12_lowest.2 ⟨Nat.le_of_ble_eq_true rfl, Nat.le_of_ble_eq_true rfl⟩) rfl rfl hl.1 (Nat.le_of_ble_eq_true rfl) ⟨Nat.zero_le _, Nat.zero_le _⟩ dX12_odds_68 (fun H locs hP hS => ?_)
      obtain ⟨rfl, rfl⟩ := ret_2 hF
      subst hρ0
      exact x_lret rfl C hP hS dX12_odds_71
    · have hF := ite_f hF c_6
      refine lv_lload_n hx hb dX12_odds_43 rfl (lv_at hl 3 rfl) ?_
      refine lv_aload_n hx hb dX12_odds_44 rfl (lv_at hl 0 rfl) ?_
      refine get_12_1 C hP (lr_54 hL) (lk_54 hL) inlX12 mw_81 (lf_54_1 hL) dX12_odds_45 ?_
      refine lv_bipush (v := 11) hx hb dX12_odds_48 (by decide +kernel) ?_
      refine x_iald C hP (lr_55 hL) (lk_55 hL) (ln_55 hL) (by decide +kernel) dX12_odds_50 ?_
      rw [cl_11]
      refine lv_i2l (v := ((σ 55 11)).toInt64) hx hb dX12_odds_51 rfl ?_
      refine lv_lmul hx hb dX12_odds_52 ?_
      obtain ⟨x9, ex9, hF⟩ := nm_1 hF
      refine x_topl ex9 ?_
      refine lv_lstore_n (lv' := [(3, .long x9), (0, .ref (ad 54)), (1, .int v1), (2, .int v2), (5, .int v5)]) hx hb dX12_odds_53 rfl hl (by decide) rfl (fun ls hl => ?_)
      obtain ⟨x10, ex10, hF⟩ := nm_1 hF
      refine lv_iinc (v := x10) (lv' := [(5, .int x10), (3, .long x9), (0, .ref (ad 54)), (1, .int v1), (2, .int v2)]) hx hb dX12_odds_54 hl (k := 4) rfl (by rw [ex10]; first | rfl | decide) (by decide) rfl (fun ls hl => ?_)
      refine lv_goto (tgt := 37) hx hb dX12_odds_57 (by decide) ?_
      exact ih _ _ _ _ _ _ _ _ _ hρ0 hL hF hP hS (lv_sub hl [2, 3, 4, 1, 0] rfl)
set_option maxHeartbeats 4000000 in
set_option maxRecDepth 100000 in
theorem w_X12_odds_0 {a1 : Int32} {a2 : Int32} {p : Program} {e : Env} {s : State} {m : MethodId} {args : Array Value} {below : List Frame} {meth : Method} {c : Code} {ρ0 : RG} {r : Int64} {σ1 : SG} (C : Cx Y D N ad p s m args meth c cX12_odds 6 (some .long) RX12 wsL_law) {σ : SG} {ρ : RG} {H : Heap} {locs : List Loc} {ls : Array Slot} (hρ0 : ρ = ρ0) (hL : Lay N K len ρ) (hF : F_X12_odds a1 a2 σ ρ = some (r, σ1)) (hP : WP Y D N ad K len σ ρ H) (hS : va_S (AA N ad s.heap.size) s.heap H locs) (hl : lv_has ls 6 [(0, .ref (ad 54)), (1, .int a1), (2, .int a2)]) : W p l e rm_X12_odds s m args below meth c H locs 0 0 (MQ below (QW Y D N ad K len σ1 ρ0 (AA N ad s.heap.size) (some (.long r))) args s 0 0 (AA N ad s.heap.size)) (F0 m 0 ls []) := by
  have hx := C.1.1
  have hb := C.1.2.1
  unfold F_X12_odds at hF
  refine lv_iload_n hx hb dX12_odds_0 rfl (lv_at hl 1 rfl) ?_
  refine lv_iconst (v := 1) hx hb dX12_odds_1 (by decide) ?_
  refine lv_iconst (v := 3) hx hb dX12_odds_2 (by decide) ?_
  obtain ⟨r1, hq1, hF⟩ := bn_1 hF
  refine x_callS C hP hS (c_X12_in hL hq1) (va_cwS 3 C.1.2.2.2.2 (gdS mw_104 mw_105 mw_5 mw_106) rfl rfl rfl hd_X12_in.2 ⟨Nat.le_of_ble_eq_true rfl, Nat.le_of_ble_eq_true rfl⟩) rfl rfl hl.1 (Nat.le_of_ble_eq_true rfl) ⟨Nat.zero_le _, Nat.zero_le _⟩ dX12_odds_3 (fun H locs hP hS => ?_)
  refine lv_if_eq (tgt := 28) hx hb dX12_odds_6 (by decide) (fun c_2 => ?_) (fun c_2 => ?_) -- COND 2 by_cases c_2 : r1 = 0
  · have hF := ite_t hF c_2
    refine lv_ldc2 hx hb (C.1.2.2.2.1) (C.1.2.2.2.2 _ mw_967) dX12_odds_28 ?_
    obtain ⟨rfl, rfl⟩ := ret_2 hF
    subst hρ0
    exact x_lret rfl C hP hS dX12_odds_31
  · have hF := ite_f hF c_2
    refine lv_iload_n hx hb dX12_odds_9 rfl (lv_at hl 2 rfl) ?_
    refine lv_iconst (v := 0) hx hb dX12_odds_10 (by decide) ?_
    refine lv_iconst (v := 1) hx hb dX12_odds_11 (by decide) ?_
    obtain ⟨r3, hq3, hF⟩ := bn_1 hF
    refine x_callS C hP hS (c_X12_in hL hq3) (va_cwS 3 C.1.2.2.2.2 (gdS mw_104 mw_105 mw_5 mw_106) rfl rfl rfl hd_X12_in.2 ⟨Nat.le_of_ble_eq_true rfl, Nat.le_of_ble_eq_true rfl⟩) rfl rfl hl.1 (Nat.le_of_ble_eq_true rfl) ⟨Nat.zero_le _, Nat.zero_le _⟩ dX12_odds_12 (fun H locs hP hS => ?_)
    refine lv_if_eq (tgt := 28) hx hb dX12_odds_15 (by decide) (fun c_4 => ?_) (fun c_4 => ?_) -- COND 4 by_cases c_4 : r3 = 0
    · have hF := ite_t hF c_4
      refine lv_ldc2 hx hb (C.1.2.2.2.1) (C.1.2.2.2.2 _ mw_967) dX12_odds_28 ?_
      obtain ⟨rfl, rfl⟩ := ret_2 hF
      subst hρ0
      exact x_lret rfl C hP hS dX12_odds_31
    · have hF := ite_f hF c_4
      refine lv_aload_n hx hb dX12_odds_18 rfl (lv_at hl 0 rfl) ?_
      refine get_12_1 C hP (lr_54 hL) (lk_54 hL) inlX12 mw_81 (lf_54_1 hL) dX12_odds_19 ?_
      refine lv_bipush (v := 11) hx hb dX12_odds_22 (by decide +kernel) ?_
      refine x_iald C hP (lr_55 hL) (lk_55 hL) (ln_55 hL) (by decide +kernel) dX12_odds_24 ?_
      rw [cl_11]
      refine lv_if_ne (tgt := 32) hx hb dX12_odds_25 (by decide) (fun c_5 => ?_) (fun c_5 => ?_) -- COND 5 rcases (Decidable.em ((σ 55 11) = 0)).symm with c_5 | c_5
      · have hF := ite_f hF c_5
        refine lv_lconst (v := 1) hx hb dX12_odds_32 (by decide +kernel) ?_
        refine lv_lstore_n (lv' := [(3, .long (1 : Int64)), (0, .ref (ad 54)), (1, .int a1), (2, .int a2)]) hx hb dX12_odds_33 rfl hl (by decide) rfl (fun ls hl => ?_)
        refine lv_iconst (v := 0) hx hb dX12_odds_34 (by decide) ?_
        refine lv_istore (lv' := [(5, .int (0 : Int32)), (3, .long (1 : Int64)), (0, .ref (ad 54)), (1, .int a1), (2, .int a2)]) hx hb dX12_odds_35 hl (by decide) rfl (fun ls hl => ?_)
        exact w_X12_odds_37 C 1024 _ _ _ _ _ _ _ _ _ hρ0 hL hF hP hS (lv_sub hl [2, 3, 4, 1, 0] rfl)
      · have hF := ite_t hF c_5
        refine lv_ldc2 hx hb (C.1.2.2.2.1) (C.1.2.2.2.2 _ mw_967) dX12_odds_28 ?_
        obtain ⟨rfl, rfl⟩ := ret_2 hF
        subst hρ0
        exact x_lret rfl C hP hS dX12_odds_31
set_option maxHeartbeats 4000000 in
set_option maxRecDepth 100000 in
theorem c_X12_odds {a1 : Int32} {a2 : Int32} {r : Int64} {σ1 : SG} {σ : SG} {ρ : RG} (hL : Lay N K len ρ) (hF : F_X12_odds a1 a2 σ ρ = some (r, σ1)) : MT l Y D N ad K len yX12_odds (Cond.code yX12_odds cX12_odds 6 (some .long) :: wsL_law) rm_X12_odds [.ref (ad 54), .int a1, .int a2] σ ρ (some (.long r)) σ1 ρ := by
  refine mt_of (cc := cX12_odds) (nL := 6) (ret := (some .long)) (by decide) (Nat.le_of_ble_eq_true rfl) ?_
  intro p e s m args below meth c ls C hnm hP hS hl
  exact w_X12_odds_0 C rfl hL hF hP hS hl
end GEN
