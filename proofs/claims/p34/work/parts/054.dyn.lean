/-! PART 054.dyn: cutters of any kind; casts; inherited and super calls; texts (printed by wip/gen/dynrows.py) -/
def isC (N : Nat) (K : Nat → Nat) (c : Nat) : Bool := Nat.blt c N && isCk (K c)
theorem isC_r {N : Nat} {K : Nat → Nat} {c : Nat} (h : isC N K c = true) : c < N := Nat.blt_eq.mp (Bool.and_eq_true_iff.mp h).1
theorem isC_k {N : Nat} {K : Nat → Nat} {c : Nat} (h : isC N K c = true) : isCk (K c) = true := (Bool.and_eq_true_iff.mp h).2
def isD (N : Nat) (K len : Nat → Nat) (d : Nat) : Bool := Nat.blt d N && (K d == 14) && (len d == 4)
theorem isD_r {N : Nat} {K len : Nat → Nat} {d : Nat} (h : isD N K len d = true) : d < N := Nat.blt_eq.mp (Bool.and_eq_true_iff.mp (Bool.and_eq_true_iff.mp h).1).1
theorem isD_k {N : Nat} {K len : Nat → Nat} {d : Nat} (h : isD N K len d = true) : K d = 14 := beq_iff_eq.mp (Bool.and_eq_true_iff.mp (Bool.and_eq_true_iff.mp h).1).2
theorem isD_n {N : Nat} {K len : Nat → Nat} {d : Nat} (h : isD N K len d = true) : len d = 4 := beq_iff_eq.mp (Bool.and_eq_true_iff.mp h).2
def isLb (i : Nat) : Bool := i == 3 || i == 16 || i == 37 || i == 40 || i == 42 || i == 44 || i == 46 || i == 48 || i == 50 || i == 52
theorem il_of {N : Nat} {K len : Nat → Nat} {ρ : RG} (h : Lay N K len ρ) {i : Nat} (g : isLb i = true) : isL N K len ρ i := by
  simp only [isLb, Bool.or_eq_true, beq_iff_eq] at g
  rcases g with (((((((((rfl | rfl) | rfl) | rfl) | rfl) | rfl) | rfl) | rfl) | rfl) | rfl)
  · exact il_3 h
  · exact il_16 h
  · exact il_37 h
  · exact il_40 h
  · exact il_42 h
  · exact il_44 h
  · exact il_46 h
  · exact il_48 h
  · exact il_50 h
  · exact il_52 h
def io2 (k : Nat) : Int32 := if k = 2 ∨ k = 9 then 1 else 0
theorem io2_01 (k : Nat) : isb (io2 k) = true := by unfold io2; split <;> rfl
def io4 (k : Nat) : Int32 := if k = 4 then 1 else 0
theorem io4_01 (k : Nat) : isb (io4 k) = true := by unfold io4; split <;> rfl
def io5 (k : Nat) : Int32 := if k = 5 then 1 else 0
theorem io5_01 (k : Nat) : isb (io5 k) = true := by unfold io5; split <;> rfl
def io6 (k : Nat) : Int32 := if k = 4 ∨ k = 6 then 1 else 0
theorem io6_01 (k : Nat) : isb (io6 k) = true := by unfold io6; split <;> rfl
def io7 (k : Nat) : Int32 := if k = 5 ∨ k = 7 then 1 else 0
theorem io7_01 (k : Nat) : isb (io7 k) = true := by unfold io7; split <;> rfl
def io9 (k : Nat) : Int32 := if k = 9 then 1 else 0
theorem io9_01 (k : Nat) : isb (io9 k) = true := by unfold io9; split <;> rfl
def iscr (v : Int32) : Bool := (v.toUInt32 % 65536).toInt32 == v
theorem iscr_n {v : Int32} (h : iscr v = true) : narrow .char (.int v) = .int v := by
  have h1 := beq_iff_eq.mp h
  exact congrArg Value.int (show v.toUInt32.toUInt16.toUInt32.toInt32 = v by rw [show v.toUInt32.toUInt16.toUInt32 = v.toUInt32 % 65536 from UInt32.toUInt32_toUInt16 _]; exact h1)
theorem va_sub2 {V : Vm} {a b : ClassId} {k : Class} (h : V.classes[a]? = some k) (hs : k.super = some b) : V.isSubclass a b = true := by
  have h0 : 0 < V.classes.size := Nat.lt_of_le_of_lt (Nat.zero_le _) (Array.getElem?_eq_some_iff.mp h).1
  unfold Vm.isSubclass
  obtain ⟨n, hn⟩ : ∃ n, V.classes.size = n + 1 := ⟨V.classes.size - 1, by omega⟩
  rw [hn]
  simp [Vm.isSubclassAux, h, hs]
abbrev rmk (f l : Nat) : Room := { frames := f, cells := 0, slots := 0, locals := l }
theorem hd_len {d : String} {n : Nat} (h : (parseMethodDescriptor d).map (fun q => q.parameters.length) = some n) : ∀ sig, parseMethodDescriptor d = some sig → n = sig.parameters.length := fun sig e => by
  rw [e] at h
  exact (Option.some.inj h).symm
theorem gdSU {own : String} {idx n : Nat} {y : MethodName} {cc : ByteArray} {ret : Option FieldType} (h1 : Cond.methodLink own idx y ∈ wsL_law) (h2 : Cond.sameMethod y.cls y.cls y.name y.desc ∈ wsL_law) (h3 : Cond.superclass own y.cls ∈ wsL_law) (h4 : Cond.instanceMethod y ∈ wsL_law) (h6 : Cond.initialized y.cls ∈ wsL_law) (h5 : Cond.code y cc n ret ∈ wsL_law) : GoodIn wsL_law (va_wsSU own idx y (Cond.code y cc n ret :: wsL_law)) := by
  intro w h
  unfold va_wsSU at h
  refine gd_all w ?_
  simp only [List.mem_append, List.mem_cons, List.not_mem_nil, or_false] at h
  rcases h with (rfl | rfl | rfl | rfl | rfl) | rfl | h
  · exact h1
  · exact h2
  · exact h3
  · exact h4
  · exact h6
  · exact h5
  · exact h
section DYN
variable {Y : YT} {D : va_G} {N : Nat} {ad K len : Nat → Nat} {p : Program} {l : Launch} {e : Env} {R : Room} {s : State} {m : MethodId} {args : Array Value} {below : List Frame} {meth : Method} {c : Code} {H : Heap} {locs : List Loc} {cells slots : Nat} {Q : State → Prop}
variable {cc : ByteArray} {nL : Nat} {ret : Option FieldType} {own : String} {Ts : List Cond} {pc : Nat} {ls : Array Slot} {rest : List Value} {σ σ1 : SG} {ρ ρ1 : RG}
theorem x_inst2 {r index : Nat} (C : Cx Y D N ad p s m args meth c cc nL ret own wsL_law) (hP : WP Y D N ad K len σ ρ H) (hc : isC N K r = true) (hlink : Cond.classLink own index RX2 ∈ wsL_law) (hdg : decode cc pc = .ok (.instanceof index, 3)) (kk : W p l e R s m args below meth c H locs cells slots Q (F0 m (pc + 3) ls (.int (io2 (K r)) :: rest))) : W p l e R s m args below meth c H locs cells slots Q (F0 m pc ls (.ref (ad r) :: rest)) := by
  have hr := isC_r hc
  rcases isCk_or (isC_k hc) with h | h | h | h | h | h | h
  · have e : io2 (K r) = 0 := by rw [h]; rfl
    rw [e] at kk
    exact va_instNo C.1.1 C.1.2.1 C.1.2.2.2.1 (C.1.2.2.2.2 _ hlink) (C.2.2.2.2.2.1.2.2.1 ("CutCrooked$Cutter", "CutCrooked$Follow") (by decide +kernel)) (va_recv C.2.2.2.1 hP (q := (RX1, TX1, 6)) (ci := 1) rfl (show (wl N ad (cf Y ad K len σ ρ))[r]? = some (ad r, .inr (1, flds ad 1 (σ r) (ρ r))) by rw [cf_at hr h]; rfl)) hdg kk
  · have e : io2 (K r) = 1 := by rw [h]; rfl
    rw [e] at kk
    exact va_instE C.1.1 C.1.2.1 C.1.2.2.2.1 (C.1.2.2.2.2 _ hlink) (va_recv C.2.2.2.1 hP (q := (RX2, TX2, 6)) (ci := 2) rfl (show (wl N ad (cf Y ad K len σ ρ))[r]? = some (ad r, .inr (2, flds ad 2 (σ r) (ρ r))) by rw [cf_at hr h]; rfl)) hdg kk
  · have e : io2 (K r) = 0 := by rw [h]; rfl
    rw [e] at kk
    exact va_instNo C.1.1 C.1.2.1 C.1.2.2.2.1 (C.1.2.2.2.2 _ hlink) (C.2.2.2.2.2.1.2.2.1 ("CutCrooked$Over", "CutCrooked$Follow") (by decide +kernel)) (va_recv C.2.2.2.1 hP (q := (RX4, TX4, 6)) (ci := 4) rfl (show (wl N ad (cf Y ad K len σ ρ))[r]? = some (ad r, .inr (4, flds ad 4 (σ r) (ρ r))) by rw [cf_at hr h]; rfl)) hdg kk
  · have e : io2 (K r) = 0 := by rw [h]; rfl
    rw [e] at kk
    exact va_instNo C.1.1 C.1.2.1 C.1.2.2.2.1 (C.1.2.2.2.2 _ hlink) (C.2.2.2.2.2.1.2.2.1 ("CutCrooked$Righting", "CutCrooked$Follow") (by decide +kernel)) (va_recv C.2.2.2.1 hP (q := (RX5, TX5, 6)) (ci := 5) rfl (show (wl N ad (cf Y ad K len σ ρ))[r]? = some (ad r, .inr (5, flds ad 5 (σ r) (ρ r))) by rw [cf_at hr h]; rfl)) hdg kk
  · have e : io2 (K r) = 0 := by rw [h]; rfl
    rw [e] at kk
    exact va_instNo C.1.1 C.1.2.1 C.1.2.2.2.1 (C.1.2.2.2.2 _ hlink) (C.2.2.2.2.2.1.2.2.1 ("CutCrooked$Slant", "CutCrooked$Follow") (by decide +kernel)) (va_recv C.2.2.2.1 hP (q := (RX6, TX6, 6)) (ci := 6) rfl (show (wl N ad (cf Y ad K len σ ρ))[r]? = some (ad r, .inr (6, flds ad 6 (σ r) (ρ r))) by rw [cf_at hr h]; rfl)) hdg kk
  · have e : io2 (K r) = 0 := by rw [h]; rfl
    rw [e] at kk
    exact va_instNo C.1.1 C.1.2.1 C.1.2.2.2.1 (C.1.2.2.2.2 _ hlink) (C.2.2.2.2.2.1.2.2.1 ("CutCrooked$Straight", "CutCrooked$Follow") (by decide +kernel)) (va_recv C.2.2.2.1 hP (q := (RX7, TX7, 6)) (ci := 7) rfl (show (wl N ad (cf Y ad K len σ ρ))[r]? = some (ad r, .inr (7, flds ad 7 (σ r) (ρ r))) by rw [cf_at hr h]; rfl)) hdg kk
  · have e : io2 (K r) = 1 := by rw [h]; rfl
    rw [e] at kk
    exact va_instY C.1.1 C.1.2.1 C.1.2.2.2.1 (C.1.2.2.2.2 _ hlink) (C.2.2.2.2.2.1.2.1 ("CutCrooked$Told", "CutCrooked$Follow") (by decide +kernel)) (va_recv C.2.2.2.1 hP (q := (RX9, TX9, 7)) (ci := 9) rfl (show (wl N ad (cf Y ad K len σ ρ))[r]? = some (ad r, .inr (9, flds ad 9 (σ r) (ρ r))) by rw [cf_at hr h]; rfl)) hdg kk
theorem x_inst4 {r index : Nat} (C : Cx Y D N ad p s m args meth c cc nL ret own wsL_law) (hP : WP Y D N ad K len σ ρ H) (hc : isC N K r = true) (hlink : Cond.classLink own index RX4 ∈ wsL_law) (hdg : decode cc pc = .ok (.instanceof index, 3)) (kk : W p l e R s m args below meth c H locs cells slots Q (F0 m (pc + 3) ls (.int (io4 (K r)) :: rest))) : W p l e R s m args below meth c H locs cells slots Q (F0 m pc ls (.ref (ad r) :: rest)) := by
  have hr := isC_r hc
  rcases isCk_or (isC_k hc) with h | h | h | h | h | h | h
  · have e : io4 (K r) = 0 := by rw [h]; rfl
    rw [e] at kk
    exact va_instNo C.1.1 C.1.2.1 C.1.2.2.2.1 (C.1.2.2.2.2 _ hlink) (C.2.2.2.2.2.1.2.2.1 ("CutCrooked$Cutter", "CutCrooked$Over") (by decide +kernel)) (va_recv C.2.2.2.1 hP (q := (RX1, TX1, 6)) (ci := 1) rfl (show (wl N ad (cf Y ad K len σ ρ))[r]? = some (ad r, .inr (1, flds ad 1 (σ r) (ρ r))) by rw [cf_at hr h]; rfl)) hdg kk
  · have e : io4 (K r) = 0 := by rw [h]; rfl
    rw [e] at kk
    exact va_instNo C.1.1 C.1.2.1 C.1.2.2.2.1 (C.1.2.2.2.2 _ hlink) (C.2.2.2.2.2.1.2.2.1 ("CutCrooked$Follow", "CutCrooked$Over") (by decide +kernel)) (va_recv C.2.2.2.1 hP (q := (RX2, TX2, 6)) (ci := 2) rfl (show (wl N ad (cf Y ad K len σ ρ))[r]? = some (ad r, .inr (2, flds ad 2 (σ r) (ρ r))) by rw [cf_at hr h]; rfl)) hdg kk
  · have e : io4 (K r) = 1 := by rw [h]; rfl
    rw [e] at kk
    exact va_instE C.1.1 C.1.2.1 C.1.2.2.2.1 (C.1.2.2.2.2 _ hlink) (va_recv C.2.2.2.1 hP (q := (RX4, TX4, 6)) (ci := 4) rfl (show (wl N ad (cf Y ad K len σ ρ))[r]? = some (ad r, .inr (4, flds ad 4 (σ r) (ρ r))) by rw [cf_at hr h]; rfl)) hdg kk
  · have e : io4 (K r) = 0 := by rw [h]; rfl
    rw [e] at kk
    exact va_instNo C.1.1 C.1.2.1 C.1.2.2.2.1 (C.1.2.2.2.2 _ hlink) (C.2.2.2.2.2.1.2.2.1 ("CutCrooked$Righting", "CutCrooked$Over") (by decide +kernel)) (va_recv C.2.2.2.1 hP (q := (RX5, TX5, 6)) (ci := 5) rfl (show (wl N ad (cf Y ad K len σ ρ))[r]? = some (ad r, .inr (5, flds ad 5 (σ r) (ρ r))) by rw [cf_at hr h]; rfl)) hdg kk
  · have e : io4 (K r) = 0 := by rw [h]; rfl
    rw [e] at kk
    exact va_instNo C.1.1 C.1.2.1 C.1.2.2.2.1 (C.1.2.2.2.2 _ hlink) (C.2.2.2.2.2.1.2.2.1 ("CutCrooked$Slant", "CutCrooked$Over") (by decide +kernel)) (va_recv C.2.2.2.1 hP (q := (RX6, TX6, 6)) (ci := 6) rfl (show (wl N ad (cf Y ad K len σ ρ))[r]? = some (ad r, .inr (6, flds ad 6 (σ r) (ρ r))) by rw [cf_at hr h]; rfl)) hdg kk
  · have e : io4 (K r) = 0 := by rw [h]; rfl
    rw [e] at kk
    exact va_instNo C.1.1 C.1.2.1 C.1.2.2.2.1 (C.1.2.2.2.2 _ hlink) (C.2.2.2.2.2.1.2.2.1 ("CutCrooked$Straight", "CutCrooked$Over") (by decide +kernel)) (va_recv C.2.2.2.1 hP (q := (RX7, TX7, 6)) (ci := 7) rfl (show (wl N ad (cf Y ad K len σ ρ))[r]? = some (ad r, .inr (7, flds ad 7 (σ r) (ρ r))) by rw [cf_at hr h]; rfl)) hdg kk
  · have e : io4 (K r) = 0 := by rw [h]; rfl
    rw [e] at kk
    exact va_instNo C.1.1 C.1.2.1 C.1.2.2.2.1 (C.1.2.2.2.2 _ hlink) (C.2.2.2.2.2.1.2.2.1 ("CutCrooked$Told", "CutCrooked$Over") (by decide +kernel)) (va_recv C.2.2.2.1 hP (q := (RX9, TX9, 7)) (ci := 9) rfl (show (wl N ad (cf Y ad K len σ ρ))[r]? = some (ad r, .inr (9, flds ad 9 (σ r) (ρ r))) by rw [cf_at hr h]; rfl)) hdg kk
theorem x_inst5 {r index : Nat} (C : Cx Y D N ad p s m args meth c cc nL ret own wsL_law) (hP : WP Y D N ad K len σ ρ H) (hc : isC N K r = true) (hlink : Cond.classLink own index RX5 ∈ wsL_law) (hdg : decode cc pc = .ok (.instanceof index, 3)) (kk : W p l e R s m args below meth c H locs cells slots Q (F0 m (pc + 3) ls (.int (io5 (K r)) :: rest))) : W p l e R s m args below meth c H locs cells slots Q (F0 m pc ls (.ref (ad r) :: rest)) := by
  have hr := isC_r hc
  rcases isCk_or (isC_k hc) with h | h | h | h | h | h | h
  · have e : io5 (K r) = 0 := by rw [h]; rfl
    rw [e] at kk
    exact va_instNo C.1.1 C.1.2.1 C.1.2.2.2.1 (C.1.2.2.2.2 _ hlink) (C.2.2.2.2.2.1.2.2.1 ("CutCrooked$Cutter", "CutCrooked$Righting") (by decide +kernel)) (va_recv C.2.2.2.1 hP (q := (RX1, TX1, 6)) (ci := 1) rfl (show (wl N ad (cf Y ad K len σ ρ))[r]? = some (ad r, .inr (1, flds ad 1 (σ r) (ρ r))) by rw [cf_at hr h]; rfl)) hdg kk
  · have e : io5 (K r) = 0 := by rw [h]; rfl
    rw [e] at kk
    exact va_instNo C.1.1 C.1.2.1 C.1.2.2.2.1 (C.1.2.2.2.2 _ hlink) (C.2.2.2.2.2.1.2.2.1 ("CutCrooked$Follow", "CutCrooked$Righting") (by decide +kernel)) (va_recv C.2.2.2.1 hP (q := (RX2, TX2, 6)) (ci := 2) rfl (show (wl N ad (cf Y ad K len σ ρ))[r]? = some (ad r, .inr (2, flds ad 2 (σ r) (ρ r))) by rw [cf_at hr h]; rfl)) hdg kk
  · have e : io5 (K r) = 0 := by rw [h]; rfl
    rw [e] at kk
    exact va_instNo C.1.1 C.1.2.1 C.1.2.2.2.1 (C.1.2.2.2.2 _ hlink) (C.2.2.2.2.2.1.2.2.1 ("CutCrooked$Over", "CutCrooked$Righting") (by decide +kernel)) (va_recv C.2.2.2.1 hP (q := (RX4, TX4, 6)) (ci := 4) rfl (show (wl N ad (cf Y ad K len σ ρ))[r]? = some (ad r, .inr (4, flds ad 4 (σ r) (ρ r))) by rw [cf_at hr h]; rfl)) hdg kk
  · have e : io5 (K r) = 1 := by rw [h]; rfl
    rw [e] at kk
    exact va_instE C.1.1 C.1.2.1 C.1.2.2.2.1 (C.1.2.2.2.2 _ hlink) (va_recv C.2.2.2.1 hP (q := (RX5, TX5, 6)) (ci := 5) rfl (show (wl N ad (cf Y ad K len σ ρ))[r]? = some (ad r, .inr (5, flds ad 5 (σ r) (ρ r))) by rw [cf_at hr h]; rfl)) hdg kk
  · have e : io5 (K r) = 0 := by rw [h]; rfl
    rw [e] at kk
    exact va_instNo C.1.1 C.1.2.1 C.1.2.2.2.1 (C.1.2.2.2.2 _ hlink) (C.2.2.2.2.2.1.2.2.1 ("CutCrooked$Slant", "CutCrooked$Righting") (by decide +kernel)) (va_recv C.2.2.2.1 hP (q := (RX6, TX6, 6)) (ci := 6) rfl (show (wl N ad (cf Y ad K len σ ρ))[r]? = some (ad r, .inr (6, flds ad 6 (σ r) (ρ r))) by rw [cf_at hr h]; rfl)) hdg kk
  · have e : io5 (K r) = 0 := by rw [h]; rfl
    rw [e] at kk
    exact va_instNo C.1.1 C.1.2.1 C.1.2.2.2.1 (C.1.2.2.2.2 _ hlink) (C.2.2.2.2.2.1.2.2.1 ("CutCrooked$Straight", "CutCrooked$Righting") (by decide +kernel)) (va_recv C.2.2.2.1 hP (q := (RX7, TX7, 6)) (ci := 7) rfl (show (wl N ad (cf Y ad K len σ ρ))[r]? = some (ad r, .inr (7, flds ad 7 (σ r) (ρ r))) by rw [cf_at hr h]; rfl)) hdg kk
  · have e : io5 (K r) = 0 := by rw [h]; rfl
    rw [e] at kk
    exact va_instNo C.1.1 C.1.2.1 C.1.2.2.2.1 (C.1.2.2.2.2 _ hlink) (C.2.2.2.2.2.1.2.2.1 ("CutCrooked$Told", "CutCrooked$Righting") (by decide +kernel)) (va_recv C.2.2.2.1 hP (q := (RX9, TX9, 7)) (ci := 9) rfl (show (wl N ad (cf Y ad K len σ ρ))[r]? = some (ad r, .inr (9, flds ad 9 (σ r) (ρ r))) by rw [cf_at hr h]; rfl)) hdg kk
theorem x_inst6 {r index : Nat} (C : Cx Y D N ad p s m args meth c cc nL ret own wsL_law) (hP : WP Y D N ad K len σ ρ H) (hc : isC N K r = true) (hlink : Cond.classLink own index RX6 ∈ wsL_law) (hdg : decode cc pc = .ok (.instanceof index, 3)) (kk : W p l e R s m args below meth c H locs cells slots Q (F0 m (pc + 3) ls (.int (io6 (K r)) :: rest))) : W p l e R s m args below meth c H locs cells slots Q (F0 m pc ls (.ref (ad r) :: rest)) := by
  have hr := isC_r hc
  rcases isCk_or (isC_k hc) with h | h | h | h | h | h | h
  · have e : io6 (K r) = 0 := by rw [h]; rfl
    rw [e] at kk
    exact va_instNo C.1.1 C.1.2.1 C.1.2.2.2.1 (C.1.2.2.2.2 _ hlink) (C.2.2.2.2.2.1.2.2.1 ("CutCrooked$Cutter", "CutCrooked$Slant") (by decide +kernel)) (va_recv C.2.2.2.1 hP (q := (RX1, TX1, 6)) (ci := 1) rfl (show (wl N ad (cf Y ad K len σ ρ))[r]? = some (ad r, .inr (1, flds ad 1 (σ r) (ρ r))) by rw [cf_at hr h]; rfl)) hdg kk
  · have e : io6 (K r) = 0 := by rw [h]; rfl
    rw [e] at kk
    exact va_instNo C.1.1 C.1.2.1 C.1.2.2.2.1 (C.1.2.2.2.2 _ hlink) (C.2.2.2.2.2.1.2.2.1 ("CutCrooked$Follow", "CutCrooked$Slant") (by decide +kernel)) (va_recv C.2.2.2.1 hP (q := (RX2, TX2, 6)) (ci := 2) rfl (show (wl N ad (cf Y ad K len σ ρ))[r]? = some (ad r, .inr (2, flds ad 2 (σ r) (ρ r))) by rw [cf_at hr h]; rfl)) hdg kk
  · have e : io6 (K r) = 1 := by rw [h]; rfl
    rw [e] at kk
    exact va_instY C.1.1 C.1.2.1 C.1.2.2.2.1 (C.1.2.2.2.2 _ hlink) (C.2.2.2.2.2.1.2.1 ("CutCrooked$Over", "CutCrooked$Slant") (by decide +kernel)) (va_recv C.2.2.2.1 hP (q := (RX4, TX4, 6)) (ci := 4) rfl (show (wl N ad (cf Y ad K len σ ρ))[r]? = some (ad r, .inr (4, flds ad 4 (σ r) (ρ r))) by rw [cf_at hr h]; rfl)) hdg kk
  · have e : io6 (K r) = 0 := by rw [h]; rfl
    rw [e] at kk
    exact va_instNo C.1.1 C.1.2.1 C.1.2.2.2.1 (C.1.2.2.2.2 _ hlink) (C.2.2.2.2.2.1.2.2.1 ("CutCrooked$Righting", "CutCrooked$Slant") (by decide +kernel)) (va_recv C.2.2.2.1 hP (q := (RX5, TX5, 6)) (ci := 5) rfl (show (wl N ad (cf Y ad K len σ ρ))[r]? = some (ad r, .inr (5, flds ad 5 (σ r) (ρ r))) by rw [cf_at hr h]; rfl)) hdg kk
  · have e : io6 (K r) = 1 := by rw [h]; rfl
    rw [e] at kk
    exact va_instE C.1.1 C.1.2.1 C.1.2.2.2.1 (C.1.2.2.2.2 _ hlink) (va_recv C.2.2.2.1 hP (q := (RX6, TX6, 6)) (ci := 6) rfl (show (wl N ad (cf Y ad K len σ ρ))[r]? = some (ad r, .inr (6, flds ad 6 (σ r) (ρ r))) by rw [cf_at hr h]; rfl)) hdg kk
  · have e : io6 (K r) = 0 := by rw [h]; rfl
    rw [e] at kk
    exact va_instNo C.1.1 C.1.2.1 C.1.2.2.2.1 (C.1.2.2.2.2 _ hlink) (C.2.2.2.2.2.1.2.2.1 ("CutCrooked$Straight", "CutCrooked$Slant") (by decide +kernel)) (va_recv C.2.2.2.1 hP (q := (RX7, TX7, 6)) (ci := 7) rfl (show (wl N ad (cf Y ad K len σ ρ))[r]? = some (ad r, .inr (7, flds ad 7 (σ r) (ρ r))) by rw [cf_at hr h]; rfl)) hdg kk
  · have e : io6 (K r) = 0 := by rw [h]; rfl
    rw [e] at kk
    exact va_instNo C.1.1 C.1.2.1 C.1.2.2.2.1 (C.1.2.2.2.2 _ hlink) (C.2.2.2.2.2.1.2.2.1 ("CutCrooked$Told", "CutCrooked$Slant") (by decide +kernel)) (va_recv C.2.2.2.1 hP (q := (RX9, TX9, 7)) (ci := 9) rfl (show (wl N ad (cf Y ad K len σ ρ))[r]? = some (ad r, .inr (9, flds ad 9 (σ r) (ρ r))) by rw [cf_at hr h]; rfl)) hdg kk
theorem x_inst7 {r index : Nat} (C : Cx Y D N ad p s m args meth c cc nL ret own wsL_law) (hP : WP Y D N ad K len σ ρ H) (hc : isC N K r = true) (hlink : Cond.classLink own index RX7 ∈ wsL_law) (hdg : decode cc pc = .ok (.instanceof index, 3)) (kk : W p l e R s m args below meth c H locs cells slots Q (F0 m (pc + 3) ls (.int (io7 (K r)) :: rest))) : W p l e R s m args below meth c H locs cells slots Q (F0 m pc ls (.ref (ad r) :: rest)) := by
  have hr := isC_r hc
  rcases isCk_or (isC_k hc) with h | h | h | h | h | h | h
  · have e : io7 (K r) = 0 := by rw [h]; rfl
    rw [e] at kk
    exact va_instNo C.1.1 C.1.2.1 C.1.2.2.2.1 (C.1.2.2.2.2 _ hlink) (C.2.2.2.2.2.1.2.2.1 ("CutCrooked$Cutter", "CutCrooked$Straight") (by decide +kernel)) (va_recv C.2.2.2.1 hP (q := (RX1, TX1, 6)) (ci := 1) rfl (show (wl N ad (cf Y ad K len σ ρ))[r]? = some (ad r, .inr (1, flds ad 1 (σ r) (ρ r))) by rw [cf_at hr h]; rfl)) hdg kk
  · have e : io7 (K r) = 0 := by rw [h]; rfl
    rw [e] at kk
    exact va_instNo C.1.1 C.1.2.1 C.1.2.2.2.1 (C.1.2.2.2.2 _ hlink) (C.2.2.2.2.2.1.2.2.1 ("CutCrooked$Follow", "CutCrooked$Straight") (by decide +kernel)) (va_recv C.2.2.2.1 hP (q := (RX2, TX2, 6)) (ci := 2) rfl (show (wl N ad (cf Y ad K len σ ρ))[r]? = some (ad r, .inr (2, flds ad 2 (σ r) (ρ r))) by rw [cf_at hr h]; rfl)) hdg kk
  · have e : io7 (K r) = 0 := by rw [h]; rfl
    rw [e] at kk
    exact va_instNo C.1.1 C.1.2.1 C.1.2.2.2.1 (C.1.2.2.2.2 _ hlink) (C.2.2.2.2.2.1.2.2.1 ("CutCrooked$Over", "CutCrooked$Straight") (by decide +kernel)) (va_recv C.2.2.2.1 hP (q := (RX4, TX4, 6)) (ci := 4) rfl (show (wl N ad (cf Y ad K len σ ρ))[r]? = some (ad r, .inr (4, flds ad 4 (σ r) (ρ r))) by rw [cf_at hr h]; rfl)) hdg kk
  · have e : io7 (K r) = 1 := by rw [h]; rfl
    rw [e] at kk
    exact va_instY C.1.1 C.1.2.1 C.1.2.2.2.1 (C.1.2.2.2.2 _ hlink) (C.2.2.2.2.2.1.2.1 ("CutCrooked$Righting", "CutCrooked$Straight") (by decide +kernel)) (va_recv C.2.2.2.1 hP (q := (RX5, TX5, 6)) (ci := 5) rfl (show (wl N ad (cf Y ad K len σ ρ))[r]? = some (ad r, .inr (5, flds ad 5 (σ r) (ρ r))) by rw [cf_at hr h]; rfl)) hdg kk
  · have e : io7 (K r) = 0 := by rw [h]; rfl
    rw [e] at kk
    exact va_instNo C.1.1 C.1.2.1 C.1.2.2.2.1 (C.1.2.2.2.2 _ hlink) (C.2.2.2.2.2.1.2.2.1 ("CutCrooked$Slant", "CutCrooked$Straight") (by decide +kernel)) (va_recv C.2.2.2.1 hP (q := (RX6, TX6, 6)) (ci := 6) rfl (show (wl N ad (cf Y ad K len σ ρ))[r]? = some (ad r, .inr (6, flds ad 6 (σ r) (ρ r))) by rw [cf_at hr h]; rfl)) hdg kk
  · have e : io7 (K r) = 1 := by rw [h]; rfl
    rw [e] at kk
    exact va_instE C.1.1 C.1.2.1 C.1.2.2.2.1 (C.1.2.2.2.2 _ hlink) (va_recv C.2.2.2.1 hP (q := (RX7, TX7, 6)) (ci := 7) rfl (show (wl N ad (cf Y ad K len σ ρ))[r]? = some (ad r, .inr (7, flds ad 7 (σ r) (ρ r))) by rw [cf_at hr h]; rfl)) hdg kk
  · have e : io7 (K r) = 0 := by rw [h]; rfl
    rw [e] at kk
    exact va_instNo C.1.1 C.1.2.1 C.1.2.2.2.1 (C.1.2.2.2.2 _ hlink) (C.2.2.2.2.2.1.2.2.1 ("CutCrooked$Told", "CutCrooked$Straight") (by decide +kernel)) (va_recv C.2.2.2.1 hP (q := (RX9, TX9, 7)) (ci := 9) rfl (show (wl N ad (cf Y ad K len σ ρ))[r]? = some (ad r, .inr (9, flds ad 9 (σ r) (ρ r))) by rw [cf_at hr h]; rfl)) hdg kk
theorem x_inst9 {r index : Nat} (C : Cx Y D N ad p s m args meth c cc nL ret own wsL_law) (hP : WP Y D N ad K len σ ρ H) (hc : isC N K r = true) (hlink : Cond.classLink own index RX9 ∈ wsL_law) (hdg : decode cc pc = .ok (.instanceof index, 3)) (kk : W p l e R s m args below meth c H locs cells slots Q (F0 m (pc + 3) ls (.int (io9 (K r)) :: rest))) : W p l e R s m args below meth c H locs cells slots Q (F0 m pc ls (.ref (ad r) :: rest)) := by
  have hr := isC_r hc
  rcases isCk_or (isC_k hc) with h | h | h | h | h | h | h
  · have e : io9 (K r) = 0 := by rw [h]; rfl
    rw [e] at kk
    exact va_instNo C.1.1 C.1.2.1 C.1.2.2.2.1 (C.1.2.2.2.2 _ hlink) (C.2.2.2.2.2.1.2.2.1 ("CutCrooked$Cutter", "CutCrooked$Told") (by decide +kernel)) (va_recv C.2.2.2.1 hP (q := (RX1, TX1, 6)) (ci := 1) rfl (show (wl N ad (cf Y ad K len σ ρ))[r]? = some (ad r, .inr (1, flds ad 1 (σ r) (ρ r))) by rw [cf_at hr h]; rfl)) hdg kk
  · have e : io9 (K r) = 0 := by rw [h]; rfl
    rw [e] at kk
    exact va_instNo C.1.1 C.1.2.1 C.1.2.2.2.1 (C.1.2.2.2.2 _ hlink) (C.2.2.2.2.2.1.2.2.1 ("CutCrooked$Follow", "CutCrooked$Told") (by decide +kernel)) (va_recv C.2.2.2.1 hP (q := (RX2, TX2, 6)) (ci := 2) rfl (show (wl N ad (cf Y ad K len σ ρ))[r]? = some (ad r, .inr (2, flds ad 2 (σ r) (ρ r))) by rw [cf_at hr h]; rfl)) hdg kk
  · have e : io9 (K r) = 0 := by rw [h]; rfl
    rw [e] at kk
    exact va_instNo C.1.1 C.1.2.1 C.1.2.2.2.1 (C.1.2.2.2.2 _ hlink) (C.2.2.2.2.2.1.2.2.1 ("CutCrooked$Over", "CutCrooked$Told") (by decide +kernel)) (va_recv C.2.2.2.1 hP (q := (RX4, TX4, 6)) (ci := 4) rfl (show (wl N ad (cf Y ad K len σ ρ))[r]? = some (ad r, .inr (4, flds ad 4 (σ r) (ρ r))) by rw [cf_at hr h]; rfl)) hdg kk
  · have e : io9 (K r) = 0 := by rw [h]; rfl
    rw [e] at kk
    exact va_instNo C.1.1 C.1.2.1 C.1.2.2.2.1 (C.1.2.2.2.2 _ hlink) (C.2.2.2.2.2.1.2.2.1 ("CutCrooked$Righting", "CutCrooked$Told") (by decide +kernel)) (va_recv C.2.2.2.1 hP (q := (RX5, TX5, 6)) (ci := 5) rfl (show (wl N ad (cf Y ad K len σ ρ))[r]? = some (ad r, .inr (5, flds ad 5 (σ r) (ρ r))) by rw [cf_at hr h]; rfl)) hdg kk
  · have e : io9 (K r) = 0 := by rw [h]; rfl
    rw [e] at kk
    exact va_instNo C.1.1 C.1.2.1 C.1.2.2.2.1 (C.1.2.2.2.2 _ hlink) (C.2.2.2.2.2.1.2.2.1 ("CutCrooked$Slant", "CutCrooked$Told") (by decide +kernel)) (va_recv C.2.2.2.1 hP (q := (RX6, TX6, 6)) (ci := 6) rfl (show (wl N ad (cf Y ad K len σ ρ))[r]? = some (ad r, .inr (6, flds ad 6 (σ r) (ρ r))) by rw [cf_at hr h]; rfl)) hdg kk
  · have e : io9 (K r) = 0 := by rw [h]; rfl
    rw [e] at kk
    exact va_instNo C.1.1 C.1.2.1 C.1.2.2.2.1 (C.1.2.2.2.2 _ hlink) (C.2.2.2.2.2.1.2.2.1 ("CutCrooked$Straight", "CutCrooked$Told") (by decide +kernel)) (va_recv C.2.2.2.1 hP (q := (RX7, TX7, 6)) (ci := 7) rfl (show (wl N ad (cf Y ad K len σ ρ))[r]? = some (ad r, .inr (7, flds ad 7 (σ r) (ρ r))) by rw [cf_at hr h]; rfl)) hdg kk
  · have e : io9 (K r) = 1 := by rw [h]; rfl
    rw [e] at kk
    exact va_instE C.1.1 C.1.2.1 C.1.2.2.2.1 (C.1.2.2.2.2 _ hlink) (va_recv C.2.2.2.1 hP (q := (RX9, TX9, 7)) (ci := 9) rfl (show (wl N ad (cf Y ad K len σ ρ))[r]? = some (ad r, .inr (9, flds ad 9 (σ r) (ρ r))) by rw [cf_at hr h]; rfl)) hdg kk
theorem x_cast9 {r index : Nat} (C : Cx Y D N ad p s m args meth c cc nL ret own wsL_law) (hP : WP Y D N ad K len σ ρ H) (hc : isC N K r = true) (h : K r = 9) (hlink : Cond.classLink own index RX9 ∈ wsL_law) (hdg : decode cc pc = .ok (.checkcast index, 3)) (kk : W p l e R s m args below meth c H locs cells slots Q (F0 m (pc + 3) ls (.ref (ad r) :: rest))) : W p l e R s m args below meth c H locs cells slots Q (F0 m pc ls (.ref (ad r) :: rest)) := by
  have hr := isC_r hc
  exact va_castE C.1.1 C.1.2.1 C.1.2.2.2.1 (C.1.2.2.2.2 _ hlink) (va_recv C.2.2.2.1 hP (q := (RX9, TX9, 7)) (ci := 9) rfl (show (wl N ad (cf Y ad K len σ ρ))[r]? = some (ad r, .inr (9, flds ad 9 (σ r) (ρ r))) by rw [cf_at hr h]; rfl)) hdg kk
theorem get_ck_0 {r index : Nat} {ref : String} (C : Cx Y D N ad p s m args meth c cc nL ret own wsL_law) (hP : WP Y D N ad K len σ ρ H) (hr : r < N) (hk : isCk (K r) = true) (hlink : Cond.fieldLink own index ref "number" "I" ∈ wsL_law) (hsame : ref = RX1 ∨ Cond.sameField ref RX1 "number" "I" ∈ wsL_law) (hdg : decode cc pc = .ok (.getfield index, 3)) (kk : W p l e R s m args below meth c H locs cells slots Q (F0 m (pc + 3) ls (.int (σ r 0) :: rest))) : W p l e R s m args below meth c H locs cells slots Q (F0 m pc ls (.ref (ad r) :: rest)) := by
  have hsm : ∀ x, s.fieldFound? RX1 "number" "I" = some x → s.fieldFound? ref "number" "I" = some x := fun x h => hsame.elim (fun e => e ▸ h) (fun q => u_same (C.1.2.2.2.2 _ q) x h)
  rcases isCk_or hk with h | h | h | h | h | h | h
  · exact x_get (ci := 1) (k := 0) rfl rfl (by decide) rfl C hP hr h inlX1 hlink hsm hdg kk
  · exact x_get (ci := 2) (k := 0) rfl rfl (by decide) rfl C hP hr h inlX2 hlink hsm hdg kk
  · exact x_get (ci := 4) (k := 0) rfl rfl (by decide) rfl C hP hr h inlX4 hlink hsm hdg kk
  · exact x_get (ci := 5) (k := 0) rfl rfl (by decide) rfl C hP hr h inlX5 hlink hsm hdg kk
  · exact x_get (ci := 6) (k := 0) rfl rfl (by decide) rfl C hP hr h inlX6 hlink hsm hdg kk
  · exact x_get (ci := 7) (k := 0) rfl rfl (by decide) rfl C hP hr h inlX7 hlink hsm hdg kk
  · exact x_get (ci := 9) (k := 0) rfl rfl (by decide) rfl C hP hr h inlX9 hlink hsm hdg kk
theorem get_ck_1 {r index : Nat} {ref : String} (C : Cx Y D N ad p s m args meth c cc nL ret own wsL_law) (hP : WP Y D N ad K len σ ρ H) (hr : r < N) (hk : isCk (K r) = true) (hlink : Cond.fieldLink own index ref "v" "I" ∈ wsL_law) (hsame : ref = RX1 ∨ Cond.sameField ref RX1 "v" "I" ∈ wsL_law) (hdg : decode cc pc = .ok (.getfield index, 3)) (kk : W p l e R s m args below meth c H locs cells slots Q (F0 m (pc + 3) ls (.int (σ r 1) :: rest))) : W p l e R s m args below meth c H locs cells slots Q (F0 m pc ls (.ref (ad r) :: rest)) := by
  have hsm : ∀ x, s.fieldFound? RX1 "v" "I" = some x → s.fieldFound? ref "v" "I" = some x := fun x h => hsame.elim (fun e => e ▸ h) (fun q => u_same (C.1.2.2.2.2 _ q) x h)
  rcases isCk_or hk with h | h | h | h | h | h | h
  · exact x_get (ci := 1) (k := 1) rfl rfl (by decide) rfl C hP hr h inlX1 hlink hsm hdg kk
  · exact x_get (ci := 2) (k := 1) rfl rfl (by decide) rfl C hP hr h inlX2 hlink hsm hdg kk
  · exact x_get (ci := 4) (k := 1) rfl rfl (by decide) rfl C hP hr h inlX4 hlink hsm hdg kk
  · exact x_get (ci := 5) (k := 1) rfl rfl (by decide) rfl C hP hr h inlX5 hlink hsm hdg kk
  · exact x_get (ci := 6) (k := 1) rfl rfl (by decide) rfl C hP hr h inlX6 hlink hsm hdg kk
  · exact x_get (ci := 7) (k := 1) rfl rfl (by decide) rfl C hP hr h inlX7 hlink hsm hdg kk
  · exact x_get (ci := 9) (k := 1) rfl rfl (by decide) rfl C hP hr h inlX9 hlink hsm hdg kk
theorem get_ck_2 {r index : Nat} {ref : String} (C : Cx Y D N ad p s m args meth c cc nL ret own wsL_law) (hP : WP Y D N ad K len σ ρ H) (hr : r < N) (hk : isCk (K r) = true) (hlink : Cond.fieldLink own index ref "u" "I" ∈ wsL_law) (hsame : ref = RX1 ∨ Cond.sameField ref RX1 "u" "I" ∈ wsL_law) (hdg : decode cc pc = .ok (.getfield index, 3)) (kk : W p l e R s m args below meth c H locs cells slots Q (F0 m (pc + 3) ls (.int (σ r 2) :: rest))) : W p l e R s m args below meth c H locs cells slots Q (F0 m pc ls (.ref (ad r) :: rest)) := by
  have hsm : ∀ x, s.fieldFound? RX1 "u" "I" = some x → s.fieldFound? ref "u" "I" = some x := fun x h => hsame.elim (fun e => e ▸ h) (fun q => u_same (C.1.2.2.2.2 _ q) x h)
  rcases isCk_or hk with h | h | h | h | h | h | h
  · exact x_get (ci := 1) (k := 2) rfl rfl (by decide) rfl C hP hr h inlX1 hlink hsm hdg kk
  · exact x_get (ci := 2) (k := 2) rfl rfl (by decide) rfl C hP hr h inlX2 hlink hsm hdg kk
  · exact x_get (ci := 4) (k := 2) rfl rfl (by decide) rfl C hP hr h inlX4 hlink hsm hdg kk
  · exact x_get (ci := 5) (k := 2) rfl rfl (by decide) rfl C hP hr h inlX5 hlink hsm hdg kk
  · exact x_get (ci := 6) (k := 2) rfl rfl (by decide) rfl C hP hr h inlX6 hlink hsm hdg kk
  · exact x_get (ci := 7) (k := 2) rfl rfl (by decide) rfl C hP hr h inlX7 hlink hsm hdg kk
  · exact x_get (ci := 9) (k := 2) rfl rfl (by decide) rfl C hP hr h inlX9 hlink hsm hdg kk
theorem get_ck_3 {r index : Nat} {ref : String} (C : Cx Y D N ad p s m args meth c cc nL ret own wsL_law) (hP : WP Y D N ad K len σ ρ H) (hr : r < N) (hk : isCk (K r) = true) (hlink : Cond.fieldLink own index ref "s" "I" ∈ wsL_law) (hsame : ref = RX1 ∨ Cond.sameField ref RX1 "s" "I" ∈ wsL_law) (hdg : decode cc pc = .ok (.getfield index, 3)) (kk : W p l e R s m args below meth c H locs cells slots Q (F0 m (pc + 3) ls (.int (σ r 3) :: rest))) : W p l e R s m args below meth c H locs cells slots Q (F0 m pc ls (.ref (ad r) :: rest)) := by
  have hsm : ∀ x, s.fieldFound? RX1 "s" "I" = some x → s.fieldFound? ref "s" "I" = some x := fun x h => hsame.elim (fun e => e ▸ h) (fun q => u_same (C.1.2.2.2.2 _ q) x h)
  rcases isCk_or hk with h | h | h | h | h | h | h
  · exact x_get (ci := 1) (k := 3) rfl rfl (by decide) rfl C hP hr h inlX1 hlink hsm hdg kk
  · exact x_get (ci := 2) (k := 3) rfl rfl (by decide) rfl C hP hr h inlX2 hlink hsm hdg kk
  · exact x_get (ci := 4) (k := 3) rfl rfl (by decide) rfl C hP hr h inlX4 hlink hsm hdg kk
  · exact x_get (ci := 5) (k := 3) rfl rfl (by decide) rfl C hP hr h inlX5 hlink hsm hdg kk
  · exact x_get (ci := 6) (k := 3) rfl rfl (by decide) rfl C hP hr h inlX6 hlink hsm hdg kk
  · exact x_get (ci := 7) (k := 3) rfl rfl (by decide) rfl C hP hr h inlX7 hlink hsm hdg kk
  · exact x_get (ci := 9) (k := 3) rfl rfl (by decide) rfl C hP hr h inlX9 hlink hsm hdg kk
theorem get_ck_4 {r index : Nat} {ref : String} (C : Cx Y D N ad p s m args meth c cc nL ret own wsL_law) (hP : WP Y D N ad K len σ ρ H) (hr : r < N) (hk : isCk (K r) = true) (hlink : Cond.fieldLink own index ref "thickness" "I" ∈ wsL_law) (hsame : ref = RX1 ∨ Cond.sameField ref RX1 "thickness" "I" ∈ wsL_law) (hdg : decode cc pc = .ok (.getfield index, 3)) (kk : W p l e R s m args below meth c H locs cells slots Q (F0 m (pc + 3) ls (.int (σ r 4) :: rest))) : W p l e R s m args below meth c H locs cells slots Q (F0 m pc ls (.ref (ad r) :: rest)) := by
  have hsm : ∀ x, s.fieldFound? RX1 "thickness" "I" = some x → s.fieldFound? ref "thickness" "I" = some x := fun x h => hsame.elim (fun e => e ▸ h) (fun q => u_same (C.1.2.2.2.2 _ q) x h)
  rcases isCk_or hk with h | h | h | h | h | h | h
  · exact x_get (ci := 1) (k := 4) rfl rfl (by decide) rfl C hP hr h inlX1 hlink hsm hdg kk
  · exact x_get (ci := 2) (k := 4) rfl rfl (by decide) rfl C hP hr h inlX2 hlink hsm hdg kk
  · exact x_get (ci := 4) (k := 4) rfl rfl (by decide) rfl C hP hr h inlX4 hlink hsm hdg kk
  · exact x_get (ci := 5) (k := 4) rfl rfl (by decide) rfl C hP hr h inlX5 hlink hsm hdg kk
  · exact x_get (ci := 6) (k := 4) rfl rfl (by decide) rfl C hP hr h inlX6 hlink hsm hdg kk
  · exact x_get (ci := 7) (k := 4) rfl rfl (by decide) rfl C hP hr h inlX7 hlink hsm hdg kk
  · exact x_get (ci := 9) (k := 4) rfl rfl (by decide) rfl C hP hr h inlX9 hlink hsm hdg kk
theorem get_ck_5 {r index : Nat} {ref : String} (C : Cx Y D N ad p s m args meth c cc nL ret own wsL_law) (hP : WP Y D N ad K len σ ρ H) (hr : r < N) (hk : isCk (K r) = true) (hlink : Cond.fieldLink own index ref "eaten" "I" ∈ wsL_law) (hsame : ref = RX1 ∨ Cond.sameField ref RX1 "eaten" "I" ∈ wsL_law) (hdg : decode cc pc = .ok (.getfield index, 3)) (kk : W p l e R s m args below meth c H locs cells slots Q (F0 m (pc + 3) ls (.int (σ r 5) :: rest))) : W p l e R s m args below meth c H locs cells slots Q (F0 m pc ls (.ref (ad r) :: rest)) := by
  have hsm : ∀ x, s.fieldFound? RX1 "eaten" "I" = some x → s.fieldFound? ref "eaten" "I" = some x := fun x h => hsame.elim (fun e => e ▸ h) (fun q => u_same (C.1.2.2.2.2 _ q) x h)
  rcases isCk_or hk with h | h | h | h | h | h | h
  · exact x_get (ci := 1) (k := 5) rfl rfl (by decide) rfl C hP hr h inlX1 hlink hsm hdg kk
  · exact x_get (ci := 2) (k := 5) rfl rfl (by decide) rfl C hP hr h inlX2 hlink hsm hdg kk
  · exact x_get (ci := 4) (k := 5) rfl rfl (by decide) rfl C hP hr h inlX4 hlink hsm hdg kk
  · exact x_get (ci := 5) (k := 5) rfl rfl (by decide) rfl C hP hr h inlX5 hlink hsm hdg kk
  · exact x_get (ci := 6) (k := 5) rfl rfl (by decide) rfl C hP hr h inlX6 hlink hsm hdg kk
  · exact x_get (ci := 7) (k := 5) rfl rfl (by decide) rfl C hP hr h inlX7 hlink hsm hdg kk
  · exact x_get (ci := 9) (k := 5) rfl rfl (by decide) rfl C hP hr h inlX9 hlink hsm hdg kk
theorem put_ck_4 {r index : Nat} {v : Int32} (C : Cx Y D N ad p s m args meth c cc nL ret own wsL_law) (hP : WP Y D N ad K len σ ρ H) (hS : va_S (AA N ad s.heap.size) s.heap H locs) (hr : r < N) (hk : isCk (K r) = true) (hlink : Cond.fieldLink own index RX1 "thickness" "I" ∈ wsL_law) (e1 : σ1 = s2 σ r 4 v) (hdg : decode cc pc = .ok (.putfield index, 3)) (kk : ∀ (H1 : Heap) (locs1 : List Loc), WP Y D N ad K len σ1 ρ H1 → va_S (AA N ad s.heap.size) s.heap H1 locs1 → W p l e R s m args below meth c H1 locs1 cells slots Q (F0 m (pc + 3) ls rest)) : W p l e R s m args below meth c H locs cells slots Q (F0 m pc ls (.int v :: .ref (ad r) :: rest)) := by
  rcases isCk_or hk with h | h | h | h | h | h | h
  · exact x_put (ci := 1) (k := 4) (v := .int v) (ty := .int) tyX1_ok nmX1 rfl rfl (by decide) rfl (Nat.le_of_ble_eq_true rfl) (by rw [e1, s2_eq]; rfl) (fun q h => by rw [e1]; exact s2_ne q h) (fun _ _ => rfl) C hP hS hr h inlX1 hlink (fun _ h => h) (Or.inl rfl) rfl rfl hdg kk
  · exact x_put (ci := 2) (k := 4) (v := .int v) (ty := .int) tyX2_ok nmX2 rfl rfl (by decide) rfl (Nat.le_of_ble_eq_true rfl) (by rw [e1, s2_eq]; rfl) (fun q h => by rw [e1]; exact s2_ne q h) (fun _ _ => rfl) C hP hS hr h inlX2 hlink (fun _ h => h) (Or.inl rfl) rfl rfl hdg kk
  · exact x_put (ci := 4) (k := 4) (v := .int v) (ty := .int) tyX4_ok nmX4 rfl rfl (by decide) rfl (Nat.le_of_ble_eq_true rfl) (by rw [e1, s2_eq]; rfl) (fun q h => by rw [e1]; exact s2_ne q h) (fun _ _ => rfl) C hP hS hr h inlX4 hlink (fun _ h => h) (Or.inl rfl) rfl rfl hdg kk
  · exact x_put (ci := 5) (k := 4) (v := .int v) (ty := .int) tyX5_ok nmX5 rfl rfl (by decide) rfl (Nat.le_of_ble_eq_true rfl) (by rw [e1, s2_eq]; rfl) (fun q h => by rw [e1]; exact s2_ne q h) (fun _ _ => rfl) C hP hS hr h inlX5 hlink (fun _ h => h) (Or.inl rfl) rfl rfl hdg kk
  · exact x_put (ci := 6) (k := 4) (v := .int v) (ty := .int) tyX6_ok nmX6 rfl rfl (by decide) rfl (Nat.le_of_ble_eq_true rfl) (by rw [e1, s2_eq]; rfl) (fun q h => by rw [e1]; exact s2_ne q h) (fun _ _ => rfl) C hP hS hr h inlX6 hlink (fun _ h => h) (Or.inl rfl) rfl rfl hdg kk
  · exact x_put (ci := 7) (k := 4) (v := .int v) (ty := .int) tyX7_ok nmX7 rfl rfl (by decide) rfl (Nat.le_of_ble_eq_true rfl) (by rw [e1, s2_eq]; rfl) (fun q h => by rw [e1]; exact s2_ne q h) (fun _ _ => rfl) C hP hS hr h inlX7 hlink (fun _ h => h) (Or.inl rfl) rfl rfl hdg kk
  · exact x_put (ci := 9) (k := 4) (v := .int v) (ty := .int) tyX9_ok nmX9 rfl rfl (by decide) rfl (Nat.le_of_ble_eq_true rfl) (by rw [e1, s2_eq]; rfl) (fun q h => by rw [e1]; exact s2_ne q h) (fun _ _ => rfl) C hP hS hr h inlX9 hlink (fun _ h => h) (Or.inl rfl) rfl rfl hdg kk
theorem put_ck_5 {r index : Nat} {v : Int32} (C : Cx Y D N ad p s m args meth c cc nL ret own wsL_law) (hP : WP Y D N ad K len σ ρ H) (hS : va_S (AA N ad s.heap.size) s.heap H locs) (hr : r < N) (hk : isCk (K r) = true) (hlink : Cond.fieldLink own index RX1 "eaten" "I" ∈ wsL_law) (e1 : σ1 = s2 σ r 5 v) (hdg : decode cc pc = .ok (.putfield index, 3)) (kk : ∀ (H1 : Heap) (locs1 : List Loc), WP Y D N ad K len σ1 ρ H1 → va_S (AA N ad s.heap.size) s.heap H1 locs1 → W p l e R s m args below meth c H1 locs1 cells slots Q (F0 m (pc + 3) ls rest)) : W p l e R s m args below meth c H locs cells slots Q (F0 m pc ls (.int v :: .ref (ad r) :: rest)) := by
  rcases isCk_or hk with h | h | h | h | h | h | h
  · exact x_put (ci := 1) (k := 5) (v := .int v) (ty := .int) tyX1_ok nmX1 rfl rfl (by decide) rfl (Nat.le_of_ble_eq_true rfl) (by rw [e1, s2_eq]; rfl) (fun q h => by rw [e1]; exact s2_ne q h) (fun _ _ => rfl) C hP hS hr h inlX1 hlink (fun _ h => h) (Or.inl rfl) rfl rfl hdg kk
  · exact x_put (ci := 2) (k := 5) (v := .int v) (ty := .int) tyX2_ok nmX2 rfl rfl (by decide) rfl (Nat.le_of_ble_eq_true rfl) (by rw [e1, s2_eq]; rfl) (fun q h => by rw [e1]; exact s2_ne q h) (fun _ _ => rfl) C hP hS hr h inlX2 hlink (fun _ h => h) (Or.inl rfl) rfl rfl hdg kk
  · exact x_put (ci := 4) (k := 5) (v := .int v) (ty := .int) tyX4_ok nmX4 rfl rfl (by decide) rfl (Nat.le_of_ble_eq_true rfl) (by rw [e1, s2_eq]; rfl) (fun q h => by rw [e1]; exact s2_ne q h) (fun _ _ => rfl) C hP hS hr h inlX4 hlink (fun _ h => h) (Or.inl rfl) rfl rfl hdg kk
  · exact x_put (ci := 5) (k := 5) (v := .int v) (ty := .int) tyX5_ok nmX5 rfl rfl (by decide) rfl (Nat.le_of_ble_eq_true rfl) (by rw [e1, s2_eq]; rfl) (fun q h => by rw [e1]; exact s2_ne q h) (fun _ _ => rfl) C hP hS hr h inlX5 hlink (fun _ h => h) (Or.inl rfl) rfl rfl hdg kk
  · exact x_put (ci := 6) (k := 5) (v := .int v) (ty := .int) tyX6_ok nmX6 rfl rfl (by decide) rfl (Nat.le_of_ble_eq_true rfl) (by rw [e1, s2_eq]; rfl) (fun q h => by rw [e1]; exact s2_ne q h) (fun _ _ => rfl) C hP hS hr h inlX6 hlink (fun _ h => h) (Or.inl rfl) rfl rfl hdg kk
  · exact x_put (ci := 7) (k := 5) (v := .int v) (ty := .int) tyX7_ok nmX7 rfl rfl (by decide) rfl (Nat.le_of_ble_eq_true rfl) (by rw [e1, s2_eq]; rfl) (fun q h => by rw [e1]; exact s2_ne q h) (fun _ _ => rfl) C hP hS hr h inlX7 hlink (fun _ h => h) (Or.inl rfl) rfl rfl hdg kk
  · exact x_put (ci := 9) (k := 5) (v := .int v) (ty := .int) tyX9_ok nmX9 rfl rfl (by decide) rfl (Nat.le_of_ble_eq_true rfl) (by rw [e1, s2_eq]; rfl) (fun q h => by rw [e1]; exact s2_ne q h) (fun _ _ => rfl) C hP hS hr h inlX9 hlink (fun _ h => h) (Or.inl rfl) rfl rfl hdg kk
theorem x_callU {x : MethodName} {y : MethodName} {ws : List Cond} {rm : Room} {bytes : ByteArray} {maxL n index : Nat} {rt : Option FieldType} {av : List Value} {res : Option Value} {st0 : List Value} {b ci : Nat} {Cn owner : String} {T : u_T} {Nf : Nat} (hc : vwCl[ci]? = some (Cn, T, Nf)) (h13 : Nat.blt ci 13 = true) (C : Cx Y D N ad p s m args meth c cc nL ret own Ts) (hP : WP Y D N ad K len σ ρ H) (hS : va_S (AA N ad s.heap.size) s.heap H locs) (hM : MT l Y D N ad K len y ws rm (.ref (ad b) :: av) σ ρ res σ1 ρ1)
    (hr : b < N) (hk : K b = ci) (cw : va_CU R s args own Cn owner index x y bytes maxL rt ws rm 0 0 n) (hn : av.length = n) (hst : st0 = av.reverse ++ .ref (ad b) :: rest) (hls : ls.size = nL) (hW : (rest.map fun v => v.category).sum ≤ 8) (hf : cells ≤ R.cells ∧ slots ≤ R.slots) (hdg : decode cc pc = .ok (.invokevirtual index, 3))
    (kk : ∀ (H1 : Heap) (locs1 : List Loc), WP Y D N ad K len σ1 ρ1 H1 → va_S (AA N ad s.heap.size) s.heap H1 locs1 → W p l e R s m args below meth c H1 locs1 cells slots Q (F0 m (pc + 3) ls (res.toList ++ rest))) : W p l e R s m args below meth c H locs cells slots Q (F0 m pc ls st0) := by
  have he : (wl N ad (cf Y ad K len σ ρ))[b]? = some (ad b, .inr (ci, flds ad ci (σ b) (ρ b))) := by
    rw [cf_at hr hk]
    unfold cel
    rw [h13]
    rfl
  exact x_go (y := y) (rm := rm) C hS (va_runU (g := F0 m pc ls st0) C.1 (hM H.size) cw ⟨PW_blind, va_recv C.2.2.2.1 hP hc he, x_pre C hP hS⟩ rfl hn hls hst (lv_room hW) hdg hf) kk
theorem x_callVs {y : MethodName} {ws : List Cond} {rm : Room} {bytes : ByteArray} {maxL n index : Nat} {rt : Option FieldType} {av : List Value} {res : Option Value} {st0 : List Value} {i : Nat} (hi : i < 6) (C : Cx Y D N ad p s m args meth c cc nL ret own Ts) (hP : WP Y D N ad K len σ ρ H) (hS : va_S (AA N ad s.heap.size) s.heap H locs) (hM : MT l Y D N ad K len y ws rm (.ref (saK Y i) :: av) σ ρ res σ1 ρ1)
    (cw : CallW R s args own RJ0 index y bytes maxL rt ws rm 0 0 n) (hn : av.length = n) (hst : st0 = av.reverse ++ .ref (saK Y i) :: rest) (hls : ls.size = nL) (hW : (rest.map fun v => v.category).sum ≤ 8) (hf : cells ≤ R.cells ∧ slots ≤ R.slots) (hdg : decode cc pc = .ok (.invokevirtual index, 3))
    (kk : ∀ (H1 : Heap) (locs1 : List Loc), WP Y D N ad K len σ1 ρ1 H1 → va_S (AA N ad s.heap.size) s.heap H1 locs1 → W p l e R s m args below meth c H1 locs1 cells slots Q (F0 m (pc + 3) ls (res.toList ++ rest))) : W p l e R s m args below meth c H locs cells slots Q (F0 m pc ls st0) :=
  x_go (y := y) (rm := rm) C hS (va_runV (g := F0 m pc ls st0) C.1 (hM H.size) cw ⟨PW_blind, vk_recv C.2.2.2.2.2.2.1 hi hS, x_pre C hP hS⟩ rfl hn hls hst (lv_room hW) hdg hf) kk
theorem x_callSN {y : MethodName} {ws : List Cond} {rm : Room} {bytes : ByteArray} {maxL n index : Nat} {rt : Option FieldType} {av : List Value} {res : Option Value} {st0 : List Value} {host : String} (C : Cx Y D N ad p s m args meth c cc nL ret own Ts) (hP : WP Y D N ad K len σ ρ H) (hS : va_S (AA N ad s.heap.size) s.heap H locs) (hM : MT l Y D N ad K len y ws rm av σ ρ res σ1 ρ1)
    (cw : va_CN R s args own index y host bytes maxL rt ws rm 0 0 n ∧ (Cond.static y).before args s = true ∧ True) (hn : av.length = n) (hst : st0 = av.reverse ++ rest) (hls : ls.size = nL) (hW : (rest.map fun v => v.category).sum ≤ 8) (hf : cells ≤ R.cells ∧ slots ≤ R.slots) (hdg : decode cc pc = .ok (.invokestatic index, 3))
    (kk : ∀ (H1 : Heap) (locs1 : List Loc), WP Y D N ad K len σ1 ρ1 H1 → va_S (AA N ad s.heap.size) s.heap H1 locs1 → W p l e R s m args below meth c H1 locs1 cells slots Q (F0 m (pc + 3) ls (res.toList ++ rest))) : W p l e R s m args below meth c H locs cells slots Q (F0 m pc ls st0) :=
  x_go (y := y) (rm := rm) C hS (va_runSN (g := F0 m pc ls st0) C.1 (hM H.size) cw ⟨PW_blind, x_pre C hP hS⟩ rfl hn hls hst (lv_room hW) hdg hf) kk
theorem ck_at {r : Nat} (C : Cx Y D N ad p s m args meth c cc nL ret own Ts) (hP : WP Y D N ad K len σ ρ H) (hr : r < N) (hk : isCk (K r) = true) : ∃ (C0 : String) (cC : ClassId), ClassAt s C0 cC ∧ ∃ cell : Cell, H[ad r]? = some cell ∧ cell.vm.isStatics = false ∧ s.vm.findClass C0 = some cell.cls := by
  rcases isCk_or hk with h | h | h | h | h | h | h
  · exact ⟨RX1, D.1 1, (C.2.2.2.1.1 1 (RX1, TX1, 6) rfl).2, va_recv C.2.2.2.1 hP (q := (RX1, TX1, 6)) (ci := 1) rfl (show (wl N ad (cf Y ad K len σ ρ))[r]? = some (ad r, .inr (1, flds ad 1 (σ r) (ρ r))) by rw [cf_at hr h]; rfl)⟩
  · exact ⟨RX2, D.1 2, (C.2.2.2.1.1 2 (RX2, TX2, 6) rfl).2, va_recv C.2.2.2.1 hP (q := (RX2, TX2, 6)) (ci := 2) rfl (show (wl N ad (cf Y ad K len σ ρ))[r]? = some (ad r, .inr (2, flds ad 2 (σ r) (ρ r))) by rw [cf_at hr h]; rfl)⟩
  · exact ⟨RX4, D.1 4, (C.2.2.2.1.1 4 (RX4, TX4, 6) rfl).2, va_recv C.2.2.2.1 hP (q := (RX4, TX4, 6)) (ci := 4) rfl (show (wl N ad (cf Y ad K len σ ρ))[r]? = some (ad r, .inr (4, flds ad 4 (σ r) (ρ r))) by rw [cf_at hr h]; rfl)⟩
  · exact ⟨RX5, D.1 5, (C.2.2.2.1.1 5 (RX5, TX5, 6) rfl).2, va_recv C.2.2.2.1 hP (q := (RX5, TX5, 6)) (ci := 5) rfl (show (wl N ad (cf Y ad K len σ ρ))[r]? = some (ad r, .inr (5, flds ad 5 (σ r) (ρ r))) by rw [cf_at hr h]; rfl)⟩
  · exact ⟨RX6, D.1 6, (C.2.2.2.1.1 6 (RX6, TX6, 6) rfl).2, va_recv C.2.2.2.1 hP (q := (RX6, TX6, 6)) (ci := 6) rfl (show (wl N ad (cf Y ad K len σ ρ))[r]? = some (ad r, .inr (6, flds ad 6 (σ r) (ρ r))) by rw [cf_at hr h]; rfl)⟩
  · exact ⟨RX7, D.1 7, (C.2.2.2.1.1 7 (RX7, TX7, 6) rfl).2, va_recv C.2.2.2.1 hP (q := (RX7, TX7, 6)) (ci := 7) rfl (show (wl N ad (cf Y ad K len σ ρ))[r]? = some (ad r, .inr (7, flds ad 7 (σ r) (ρ r))) by rw [cf_at hr h]; rfl)⟩
  · exact ⟨RX9, D.1 9, (C.2.2.2.1.1 9 (RX9, TX9, 7) rfl).2, va_recv C.2.2.2.1 hP (q := (RX9, TX9, 7)) (ci := 9) rfl (show (wl N ad (cf Y ad K len σ ρ))[r]? = some (ad r, .inr (9, flds ad 9 (σ r) (ρ r))) by rw [cf_at hr h]; rfl)⟩
theorem x_callSU {y : MethodName} {ws : List Cond} {rm : Room} {bytes : ByteArray} {maxL n index : Nat} {rt : Option FieldType} {av : List Value} {res : Option Value} {st0 : List Value} {b : Nat} (C : Cx Y D N ad p s m args meth c cc nL ret own Ts) (hP : WP Y D N ad K len σ ρ H) (hS : va_S (AA N ad s.heap.size) s.heap H locs) (hM : MT l Y D N ad K len y ws rm (.ref (ad b) :: av) σ ρ res σ1 ρ1)
    (hr : b < N) (hk : isCk (K b) = true) (cw : va_CS R s args own index y bytes maxL rt ws rm 0 0 n) (hn : av.length = n) (hst : st0 = av.reverse ++ .ref (ad b) :: rest) (hls : ls.size = nL) (hW : (rest.map fun v => v.category).sum ≤ 8) (hf : cells ≤ R.cells ∧ slots ≤ R.slots) (hdg : decode cc pc = .ok (.invokespecial index, 3))
    (kk : ∀ (H1 : Heap) (locs1 : List Loc), WP Y D N ad K len σ1 ρ1 H1 → va_S (AA N ad s.heap.size) s.heap H1 locs1 → W p l e R s m args below meth c H1 locs1 cells slots Q (F0 m (pc + 3) ls (res.toList ++ rest))) : W p l e R s m args below meth c H locs cells slots Q (F0 m pc ls st0) := by
  obtain ⟨C0, cC, h1, h2⟩ := ck_at C hP hr hk
  exact x_go (y := y) (rm := rm) C hS (va_runSU (g := F0 m pc ls st0) h1 C.1 (hM H.size) cw ⟨PW_blind, h2, x_pre C hP hS⟩ rfl hn hls hst (lv_room hW) hdg hf) kk
/-- a super call whose body stands in a class further up -/
theorem x_callSI {x : MethodName} {y : MethodName} {ws : List Cond} {rm : Room} {bytes : ByteArray} {maxL n index : Nat} {rt : Option FieldType} {av : List Value} {res : Option Value} {st0 : List Value} {b : Nat} (C : Cx Y D N ad p s m args meth c cc nL ret own Ts) (hP : WP Y D N ad K len σ ρ H) (hS : va_S (AA N ad s.heap.size) s.heap H locs) (hM : MT l Y D N ad K len y ws rm (.ref (ad b) :: av) σ ρ res σ1 ρ1)
    (hr : b < N) (hk : isCk (K b) = true) (w1 : va_Nw (.methodLink own index x) s) (w2 : va_Nw (.sameMethod x.cls y.cls x.name x.desc) s) (w3 : va_Nw (.superclass own x.cls) s) (w4 : va_Nw (.superclass x.cls y.cls) s) (hxy : x.name = y.name ∧ x.desc = y.desc) (hno : y.name ≠ "<init>") (hin : Cond.instanceMethod y ∈ Ts) (hini : Cond.initialized y.cls ∈ Ts) (hcd : Cond.code y bytes maxL rt ∈ Ts) (hG : GoodIn Ts ws) (hwc : Cond.code y bytes maxL rt ∈ ws)
    (hrm : rm.cells = 0 ∧ rm.slots = 0 ∧ rm.frames + 1 ≤ R.frames ∧ 8 + (maxL + 11) + rm.locals ≤ R.locals) (hlen : ∀ sig, parseMethodDescriptor y.desc = some sig → n = sig.parameters.length) (hn : av.length = n) (hst : st0 = av.reverse ++ .ref (ad b) :: rest) (hls : ls.size = nL) (hW : (rest.map fun v => v.category).sum ≤ 8) (hf : cells ≤ R.cells ∧ slots ≤ R.slots) (hdg : decode cc pc = .ok (.invokespecial index, 3))
    (kk : ∀ (H1 : Heap) (locs1 : List Loc), WP Y D N ad K len σ1 ρ1 H1 → va_S (AA N ad s.heap.size) s.heap H1 locs1 → W p l e R s m args below meth c H1 locs1 cells slots Q (F0 m (pc + 3) ls (res.toList ++ rest))) : W p l e R s m args below meth c H locs cells slots Q (F0 m pc ls st0) := by
  obtain ⟨C0, cC, hat, hrecv⟩ := ck_at C hP hr hk
  refine x_go (y := y) (rm := rm) (a := (Value.ref (ad b) :: av).toArray) C hS ?_ kk
  obtain ⟨hx, hb, hml, ho, hts⟩ := C.1
  have hcode := hts _ hcd
  have hK : Back l R p e below s args y 3 8 (PreOf R 0 0 (va_Pc (.ref (ad b) :: av) (PW Y D N ad K len σ ρ H.size))) (PostOf (QW Y D N ad K len σ1 ρ1 (AA N ad H.size) res) 0 0 (AA N ad H.size)) := back_of (bytes := bytes) (maxL := maxL) (ret := rt) (hM H.size) PW_blind hrm.1 hrm.2.1 hrm.2.2.1 hrm.2.2.2 (pay_in hts hG) hwc (fun a' U hW => word_at hW (Or.inl (by first | rfl | simp [Cond.onTables, Cond.keeps, Cond.steady])) (hts _ hini))
  obtain ⟨cellB, hcB, hoB, hclB⟩ := hrecv
  obtain ⟨hfc, kB, hkB, -⟩ := hat
  cases hfc.symm.trans hclB
  have hPc := x_pre (av := .ref (ad b) :: av) C hP hS
  intro T hT X
  obtain ⟨mk, methM, hnamed, hmethM, hstM, habM⟩ := Cond.instanceMethod_spec (hts _ hin)
  obtain ⟨methM', cM, hmethM', -, -, -, -, -, -, hsigM⟩ := Cond.code_spec hnamed hcode
  cases hmethM.symm.trans hmethM'
  obtain ⟨ps, dk, kp, hps, hdk, hkp, hsuper, -, -, hnid⟩ := Cond.superclass_spec ho (va_Nw.use (A := args) rfl w3)
  obtain ⟨ps2, dk2, kp2, hps2, hdk2, hkp2, hsuper2, -, -, hnid2⟩ := Cond.superclass_spec hps (va_Nw.use (A := args) rfl w4)
  have hn2 : s.methodNamed? ⟨y.cls, x.name, x.desc⟩ = some mk := by rw [hxy.1, hxy.2]; exact hnamed
  have hpm : ps2 = mk.cls := Option.some.inj (hps2.symm.trans (findClass_of_methodNamed hnamed))
  have hsub : s.vm.isSubclass ps mk.cls = true := by
    rw [← hpm]
    exact va_sub2 hdk2 hsuper2
  obtain ⟨vm₁, X₁, hstep₁⟩ := X.invokespecialUp hx ho (va_Nw.use (A := args) rfl w1) (va_Nw.use (A := args) rfl w2) hn2 hmethM hstM habM (by rw [hxy.1]; exact hno) hdk hnid hps hsuper hsub (a := ad b) (cell := cellB) (by rw [hT]; exact hcB)
    (fun z h => by rw [h] at hoB; cases hoB) hkB (g := F0 m pc ls st0) rfl (argsL := av) (rest := rest) (hn.trans (hlen _ hsigM)) hst (by rw [hb]; exact hdg)
  obtain ⟨v, B, X', hpost, hsteps⟩ := hK m meth c ⟨T.setVm vm₁, locs, cells, slots⟩ { F0 m pc ls st0 with stack := rest } (.invokespecial index) mk (Value.ref (ad b) :: av).toArray X₁ rfl (hls.trans hml.symm) (by rw [hb]; exact hdg) (lv_room hW) (X₁.named hnamed) ⟨hf.1, hf.2, hPc (T.setVm vm₁) hT X₁.warmed⟩
  obtain ⟨U', l2, c2, s2⟩ := B
  obtain ⟨g', mk', t, L, e1, e2, hq, h1, hL, h2, h3⟩ := hpost
  dsimp only [Pt.U, Pt.locs, Pt.cells, Pt.slots] at X' e1 e2 h1 h2 h3 hsteps
  subst h1; subst h2; subst h3
  exact ⟨v, (T.setVm vm₁).calling g' mk' (Value.ref (ad b) :: av).toArray, t, U', L, hT, X', hL, e1, e2, hq, fun target h => hstep₁ _ (by rw [doInvoke_state]; exact hsteps.trans h)⟩
theorem x_ldcS {own0 tx : String} {index i : Nat} (C : Cx Y D N ad p s m args meth c cc nL ret own0 Ts) (hm : (own0, index, tx, i) ∈ scL) (hdg : decode cc pc = .ok (.ldc index, 2)) (kk : W p l e R s m args below meth c H locs cells slots Q (F0 m (pc + 2) ls (.ref (saK Y i) :: rest))) : W p l e R s m args below meth c H locs cells slots Q (F0 m pc ls rest) :=
  va_ldcS C.1.1 C.1.2.1 C.1.2.2.2.1 (C.2.2.2.2.2.2.2.1 (own0, index, tx, i) hm) hdg kk
theorem x_gstr {index i : Nat} (hi : i < 6) (C : Cx Y D N ad p s m args meth c cc nL ret own wsL_law) (hS : va_S (AA N ad s.heap.size) s.heap H locs) (hlink : Cond.fieldLink own index RJ0 "value" "[B" ∈ wsL_law) (hdg : decode cc pc = .ok (.getfield index, 3)) (kk : W p l e R s m args below meth c H locs cells slots Q (F0 m (pc + 3) ls (.ref (saV Y i) :: rest))) : W p l e R s m args below meth c H locs cells slots Q (F0 m pc ls (.ref (saK Y i) :: rest)) :=
  vk_getf C.1.1 C.1.2.1 (C.2.2.2.2.2.2.1.1 i hi).2.2.1 hS C.1.2.2.2.1 (C.1.2.2.2.2 _ hlink) (fun _ h => h) hdg kk
theorem x_gcod {index i : Nat} (hi : i < 6) (C : Cx Y D N ad p s m args meth c cc nL ret own wsL_law) (hS : va_S (AA N ad s.heap.size) s.heap H locs) (hlink : Cond.fieldLink own index RJ0 "coder" "B" ∈ wsL_law) (hdg : decode cc pc = .ok (.getfield index, 3)) (kk : W p l e R s m args below meth c H locs cells slots Q (F0 m (pc + 3) ls (.int 0 :: rest))) : W p l e R s m args below meth c H locs cells slots Q (F0 m pc ls (.ref (saK Y i) :: rest)) :=
  vk_getf C.1.1 C.1.2.1 (C.2.2.2.2.2.2.1.1 i hi).2.1 hS C.1.2.2.2.1 (C.1.2.2.2.2 _ hlink) (fun _ h => h) hdg kk
theorem x_slen {i : Nat} (hi : i < 6) (C : Cx Y D N ad p s m args meth c cc nL ret own Ts) (hS : va_S (AA N ad s.heap.size) s.heap H locs) (hdg : decode cc pc = .ok (.arraylength, 1)) (kk : W p l e R s m args below meth c H locs cells slots Q (F0 m (pc + 1) ls (.int (Int32.ofNat (sLen.getD i 0)) :: rest))) : W p l e R s m args below meth c H locs cells slots Q (F0 m pc ls (.ref (saV Y i) :: rest)) :=
  va_tlen C.1.1 C.1.2.1 (C.2.2.2.2.2.2.1.1 i hi).2.2.2 hS rfl hdg kk
theorem x_sbald {i : Nat} {j : Int32} (hi : i < 6) (C : Cx Y D N ad p s m args meth c cc nL ret own Ts) (hS : va_S (AA N ad s.heap.size) s.heap H locs) (hj : inb j (sLen.getD i 0) = true) (hdg : decode cc pc = .ok (.baload, 1)) (kk : W p l e R s m args below meth c H locs cells slots Q (F0 m (pc + 1) ls (.int ((sByt.getD i []).getD j.toNatClampNeg 0) :: rest))) : W p l e R s m args below meth c H locs cells slots Q (F0 m pc ls (.int j :: .ref (saV Y i) :: rest)) :=
  va_tb C.1.1 C.1.2.1 (C.2.2.2.2.2.2.1.1 i hi).2.2.2 hS (inb_in hj) rfl hdg kk
theorem x_comp {index : Nat} (C : Cx Y D N ad p s m args meth c cc nL ret own wsL_law) (hS : va_S (AA N ad s.heap.size) s.heap H locs) (hlink : Cond.fieldLink own index "java/lang/String" "COMPACT_STRINGS" "Z" ∈ wsL_law) (hdg : decode cc pc = .ok (.getstatic index, 3)) (kk : W p l e R s m args below meth c H locs cells slots Q (F0 m (pc + 3) ls (.int 1 :: rest))) : W p l e R s m args below meth c H locs cells slots Q (F0 m pc ls rest) :=
  va_gets C.1.1 C.1.2.1 C.2.2.2.2.2.2.2.2.1 hS C.1.2.2.2.1 (C.1.2.2.2.2 _ hlink) (fun _ h => h) hdg kk
theorem x_form {index : Nat} (C : Cx Y D N ad p s m args meth c cc nL ret own wsL_law) (hS : va_S (AA N ad s.heap.size) s.heap H locs) (hlink : Cond.fieldLink own index "jdk/internal/util/Preconditions" "SIOOBE_FORMATTER" "Ljava/util/function/BiFunction;" ∈ wsL_law) (hdg : decode cc pc = .ok (.getstatic index, 3)) (k1 : W p l e R s m args below meth c H locs cells slots Q (F0 m (pc + 3) ls (.null :: rest))) (k2 : ∀ t : Nat, W p l e R s m args below meth c H locs cells slots Q (F0 m (pc + 3) ls (.ref t :: rest))) : W p l e R s m args below meth c H locs cells slots Q (F0 m pc ls rest) := by
  rcases C.2.2.2.2.2.2.2.2.2.1 with h | ⟨t, h⟩
  · exact va_gets C.1.1 C.1.2.1 h hS C.1.2.2.2.1 (C.1.2.2.2.2 _ hlink) (fun _ h => h) hdg k1
  · exact va_gets C.1.1 C.1.2.1 h hS C.1.2.2.2.1 (C.1.2.2.2.2 _ hlink) (fun _ h => h) hdg (k2 t)
theorem x_nret {v : Int32} {ty : FieldType} (hret : ret = some ty) (hn : narrow ty (.int v) = .int v) (C : Cx Y D N ad p s m args meth c cc nL ret own Ts) (hP : WP Y D N ad K len σ ρ H) (hS : va_S (AA N ad s.heap.size) s.heap H locs) (hdg : decode cc pc = .ok (.ireturn, 1)) : W p l e R s m args below meth c H locs cells slots (MQ below (QW Y D N ad K len σ ρ (AA N ad s.heap.size) (some (.int v))) args s cells slots (AA N ad s.heap.size)) (F0 m pc ls [.int v]) := by
  obtain ⟨⟨hx, hb, hml, hown, hts⟩, hrt, hlocks, hK, hI, -⟩ := C
  subst hret
  exact W.zret hx hb hrt hn (fun t ht hW => ⟨⟨rfl, by rw [ht]; exact hP, va_K.moved hW.alike hK⟩, hS.F ht⟩) hS.2.2 hdg hlocks
end DYN
