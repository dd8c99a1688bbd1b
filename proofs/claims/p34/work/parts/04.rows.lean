/-! PART rows: an instruction a row, over the world by ids -/
section ROWS
variable {Y : YT} {D : va_G} {N : Nat} {ad K len : Nat → Nat} {p : Program} {l : Launch} {e : Env} {R : Room} {s : State} {m : MethodId} {args : Array Value} {below : List Frame} {meth : Method} {c : Code} {H : Heap} {locs : List Loc} {cells slots : Nat} {Q : State → Prop}
variable {cc : ByteArray} {nL : Nat} {ret : Option FieldType} {own : String} {Ts : List Cond} {pc : Nat} {ls : Array Slot} {rest : List Value} {σ σ1 : Nat → Nat → Int32} {ρ ρ1 : Nat → Nat → Option Nat}
theorem x_top {x v : Int32} (e1 : v = x) (k : W p l e R s m args below meth c H locs cells slots Q (F0 m pc ls (.int v :: rest))) : W p l e R s m args below meth c H locs cells slots Q (F0 m pc ls (.int x :: rest)) := e1 ▸ k
theorem x_topl {x v : Int64} (e1 : v = x) (k : W p l e R s m args below meth c H locs cells slots Q (F0 m pc ls (.long v :: rest))) : W p l e R s m args below meth c H locs cells slots Q (F0 m pc ls (.long x :: rest)) := e1 ▸ k
theorem x_get {r ci k index : Nat} {Cn ref : String} {T : u_T} {Nf : Nat} {v : Value} (hc : vwCl[ci]? = some (Cn, T, Nf)) (h13 : Nat.blt ci 13 = true) (hkk : k < Nf) (hv : (flds ad ci (σ r) (ρ r))[k]? = some v)
    (C : Cx Y D N ad p s m args meth c cc nL ret own Ts) (hP : WP Y D N ad K len σ ρ H) (hr : r < N) (hk : K r = ci) (hin : ∀ w ∈ u_ws Cn T Nf, w ∈ Ts) (hlink : Cond.fieldLink own index ref (T k).2.1 (T k).2.2.1 ∈ Ts) (hsame : ∀ x, s.fieldFound? (T k).1 (T k).2.1 (T k).2.2.1 = some x → s.fieldFound? ref (T k).2.1 (T k).2.2.1 = some x) (hdg : decode cc pc = .ok (.getfield index, 3))
    (kk : W p l e R s m args below meth c H locs cells slots Q (F0 m (pc + 3) ls (v :: rest))) : W p l e R s m args below meth c H locs cells slots Q (F0 m pc ls (.ref (ad r) :: rest)) := by
  obtain ⟨⟨hx, hb, hml, hown, hts⟩, -, -, hK, -⟩ := C
  refine va_get (ws := wl N ad (cf Y ad K len σ ρ)) hx hb hts hin hown hK hP r (fs := flds ad ci (σ r) (ρ r)) ?_ hc k hkk (hts _ hlink) hsame hv hdg kk
  rw [cf_at hr hk]
  unfold cel
  rw [h13]
  rfl
theorem x_put {r ci k index : Nat} {Cn ref : String} {T : u_T} {Nf : Nat} {v : Value} {ty0 : Nat → FieldType} {ty : FieldType} (hty : ∀ k, k < Nf → parseFieldDescriptor (T k).2.2.1 = some (ty0 k)) (hnm : ∀ a, a < Nf → ∀ b, b < Nf → a ≠ b → (T a).2.1 ≠ (T b).2.1) (hc : vwCl[ci]? = some (Cn, T, Nf)) (h13 : Nat.blt ci 13 = true) (hkk : k < Nf) (hd : parseFieldDescriptor (T k).2.2.1 = some ty) (hl : k < (flds ad ci (σ r) (ρ r)).length) (hset : flds ad ci (σ1 r) (ρ1 r) = (flds ad ci (σ r) (ρ r)).set k v) (h1 : ∀ q, q ≠ r → σ1 q = σ q) (h2 : ∀ q, q ≠ r → ρ1 q = ρ q)
    (C : Cx Y D N ad p s m args meth c cc nL ret own Ts) (hP : WP Y D N ad K len σ ρ H) (hS : va_S (AA N ad s.heap.size) s.heap H locs) (hr : r < N) (hk : K r = ci) (hin : ∀ w ∈ u_ws Cn T Nf, w ∈ Ts) (hlink : Cond.fieldLink own index ref (T k).2.1 (T k).2.2.1 ∈ Ts) (hsame : ∀ x, s.fieldFound? (T k).1 (T k).2.1 (T k).2.2.1 = some x → s.fieldFound? ref (T k).2.1 (T k).2.2.1 = some x)
    (hff : (T k).2.2.2 = false ∨ ((T k).2.2.2 = true ∧ meth.name = "<init>" ∧ (T k).1 = own)) (hn : narrow ty v = v) (hfit : fits ty v = true) (hdg : decode cc pc = .ok (.putfield index, 3))
    (kk : ∀ (H1 : Heap) (locs1 : List Loc), WP Y D N ad K len σ1 ρ1 H1 → va_S (AA N ad s.heap.size) s.heap H1 locs1 → W p l e R s m args below meth c H1 locs1 cells slots Q (F0 m (pc + 3) ls rest)) : W p l e R s m args below meth c H locs cells slots Q (F0 m pc ls (v :: .ref (ad r) :: rest)) := by
  obtain ⟨⟨hx, hb, hml, hown, hts⟩, -, -, hK, hI, -⟩ := C
  have he : (wl N ad (cf Y ad K len σ ρ))[r]? = some (ad r, .inr (ci, flds ad ci (σ r) (ρ r))) := by
    rw [cf_at hr hk]
    unfold cel
    rw [h13]
    rfl
  have hcel : cel Y ad (K r) (len r) (σ1 r) (ρ1 r) = .inr (ci, (flds ad ci (σ r) (ρ r)).set k v) := by
    rw [hk]
    unfold cel
    rw [h13, ← hset]
    rfl
  rcases hff with hf | ⟨hf, hin2, hdecl⟩
  · exact va_put (ws := wl N ad (cf Y ad K len σ ρ)) hx hb hts hin ty0 hty hnm hown hK hP (WD hI) hS r he hc k hkk (hts _ hlink) hsame hf hd hn hfit hl hdg (fun H1 locs1 hP1 _ hS1 => kk H1 locs1 (WP_set hr hP1 hcel h1 h2) hS1)
  · exact va_putF (ws := wl N ad (cf Y ad K len σ ρ)) hx hb hts hin ty0 hty hnm hown hK hP (WD hI) hS r he hc k hkk (hts _ hlink) hsame hf hin2 hdecl hd hn hfit hl hdg (fun H1 locs1 hP1 _ hS1 => kk H1 locs1 (WP_set hr hP1 hcel h1 h2) hS1)
theorem x_iald {r n : Nat} {i : Int32} (C : Cx Y D N ad p s m args meth c cc nL ret own Ts) (hP : WP Y D N ad K len σ ρ H) (hr : r < N) (hk : K r = 14) (hn : len r = n) (hin : inb i n = true) (hdg : decode cc pc = .ok (.iaload, 1))
    (kk : W p l e R s m args below meth c H locs cells slots Q (F0 m (pc + 1) ls (.int (σ r i.toNatClampNeg) :: rest))) : W p l e R s m args below meth c H locs cells slots Q (F0 m pc ls (.int i :: .ref (ad r) :: rest)) := by
  obtain ⟨⟨hx, hb, hml, hown, hts⟩, -, -, hK, -⟩ := C
  exact va_iald (ws := wl N ad (cf Y ad K len σ ρ)) (cA := Y.2.1) (n := n) (f := σ r) hx hb hK hP r 1 (by rw [cf_at hr hk, hn]; rfl) rfl (inb_in hin) hdg kk
theorem x_bald {r n : Nat} {i : Int32} (C : Cx Y D N ad p s m args meth c cc nL ret own Ts) (hP : WP Y D N ad K len σ ρ H) (hr : r < N) (hk : K r = 13) (hn : len r = n) (hin : inb i n = true) (hdg : decode cc pc = .ok (.baload, 1))
    (kk : W p l e R s m args below meth c H locs cells slots Q (F0 m (pc + 1) ls (.int (σ r i.toNatClampNeg) :: rest))) : W p l e R s m args below meth c H locs cells slots Q (F0 m pc ls (.int i :: .ref (ad r) :: rest)) := by
  obtain ⟨⟨hx, hb, hml, hown, hts⟩, -, -, hK, -⟩ := C
  exact va_bald (ws := wl N ad (cf Y ad K len σ ρ)) (cA := Y.1) (n := n) (f := σ r) hx hb hK hP r 0 (by rw [cf_at hr hk, hn]; rfl) rfl (inb_in hin) hdg kk
theorem x_zald {r n : Nat} {i : Int32} (C : Cx Y D N ad p s m args meth c cc nL ret own Ts) (hP : WP Y D N ad K len σ ρ H) (hr : r < N) (hk : K r = 15) (hn : len r = n) (hin : inb i n = true) (hdg : decode cc pc = .ok (.baload, 1))
    (kk : W p l e R s m args below meth c H locs cells slots Q (F0 m (pc + 1) ls (.int (σ r i.toNatClampNeg) :: rest))) : W p l e R s m args below meth c H locs cells slots Q (F0 m pc ls (.int i :: .ref (ad r) :: rest)) := by
  obtain ⟨⟨hx, hb, hml, hown, hts⟩, -, -, hK, -⟩ := C
  exact va_zald (ws := wl N ad (cf Y ad K len σ ρ)) (cA := Y.2.2.1) (n := n) (f := σ r) hx hb hK hP r 2 (by rw [cf_at hr hk, hn]; rfl) rfl (inb_in hin) hdg kk
theorem x_iast {r n : Nat} {i x : Int32} (C : Cx Y D N ad p s m args meth c cc nL ret own Ts) (hP : WP Y D N ad K len σ ρ H) (hS : va_S (AA N ad s.heap.size) s.heap H locs) (hr : r < N) (hk : K r = 14) (hn : len r = n) (hin : inb i n = true) (e1 : σ1 = s2 σ r i.toNatClampNeg x) (hdg : decode cc pc = .ok (.iastore, 1))
    (kk : ∀ (H1 : Heap) (locs1 : List Loc), WP Y D N ad K len σ1 ρ H1 → va_S (AA N ad s.heap.size) s.heap H1 locs1 → W p l e R s m args below meth c H1 locs1 cells slots Q (F0 m (pc + 1) ls rest)) : W p l e R s m args below meth c H locs cells slots Q (F0 m pc ls (.int x :: .int i :: .ref (ad r) :: rest)) := by
  obtain ⟨⟨hx, hb, hml, hown, hts⟩, -, -, hK, hI, -⟩ := C
  subst e1
  exact va_iast (ws := wl N ad (cf Y ad K len σ ρ)) (cA := Y.2.1) (n := n) (f := σ r) hx hb hK hP (WD hI) hS r 1 (by rw [cf_at hr hk, hn]; rfl) rfl (inb_in hin) hdg
    (fun H1 locs1 hP1 _ hS1 => kk H1 locs1 (WP_set hr hP1 (by rw [hk, hn, s2_eq]; rfl) s2_ne (fun _ _ => rfl)) hS1)
theorem x_zast {r n : Nat} {i x : Int32} (C : Cx Y D N ad p s m args meth c cc nL ret own Ts) (hP : WP Y D N ad K len σ ρ H) (hS : va_S (AA N ad s.heap.size) s.heap H locs) (hr : r < N) (hk : K r = 15) (hn : len r = n) (hin : inb i n = true) (hb01 : isb x = true) (e1 : σ1 = s2 σ r i.toNatClampNeg x) (hdg : decode cc pc = .ok (.bastore, 1))
    (kk : ∀ (H1 : Heap) (locs1 : List Loc), WP Y D N ad K len σ1 ρ H1 → va_S (AA N ad s.heap.size) s.heap H1 locs1 → W p l e R s m args below meth c H1 locs1 cells slots Q (F0 m (pc + 1) ls rest)) : W p l e R s m args below meth c H locs cells slots Q (F0 m pc ls (.int x :: .int i :: .ref (ad r) :: rest)) := by
  obtain ⟨⟨hx, hb, hml, hown, hts⟩, -, -, hK, hI, -⟩ := C
  subst e1
  have hz : vp_nar .boolean x = x := by rcases isb_01 hb01 with rfl | rfl <;> rfl
  refine va_zast (ws := wl N ad (cf Y ad K len σ ρ)) (cA := Y.2.2.1) (n := n) (f := σ r) hx hb hK hP (WD hI) hS r 2 (by rw [cf_at hr hk, hn]; rfl) rfl (inb_in hin) hdg ?_
  rw [hz]
  exact (fun H1 locs1 hP1 _ hS1 => kk H1 locs1 (WP_set hr hP1 (by rw [hk, hn, s2_eq]; rfl) s2_ne (fun _ _ => rfl)) hS1)
theorem x_bast {r n : Nat} {i x : Int32} (C : Cx Y D N ad p s m args meth c cc nL ret own Ts) (hP : WP Y D N ad K len σ ρ H) (hS : va_S (AA N ad s.heap.size) s.heap H locs) (hr : r < N) (hk : K r = 13) (hn : len r = n) (hin : inb i n = true) (e1 : σ1 = s2 σ r i.toNatClampNeg (vp_nar .byte x)) (hdg : decode cc pc = .ok (.bastore, 1))
    (kk : ∀ (H1 : Heap) (locs1 : List Loc), WP Y D N ad K len σ1 ρ H1 → va_S (AA N ad s.heap.size) s.heap H1 locs1 → W p l e R s m args below meth c H1 locs1 cells slots Q (F0 m (pc + 1) ls rest)) : W p l e R s m args below meth c H locs cells slots Q (F0 m pc ls (.int x :: .int i :: .ref (ad r) :: rest)) := by
  obtain ⟨⟨hx, hb, hml, hown, hts⟩, -, -, hK, hI, -⟩ := C
  subst e1
  exact va_bast (ws := wl N ad (cf Y ad K len σ ρ)) (cA := Y.1) (n := n) (f := σ r) hx hb hK hP (WD hI) hS r 0 (by rw [cf_at hr hk, hn]; rfl) rfl (inb_in hin) hdg
    (fun H1 locs1 hP1 _ hS1 => kk H1 locs1 (WP_set hr hP1 (by rw [hk, hn, s2_eq]; rfl) s2_ne (fun _ _ => rfl)) hS1)
theorem x_aald {r n t : Nat} {cA : ClassId} {Cn : String} {i : Int32} {v : Value} (C : Cx Y D N ad p s m args meth c cc nL ret own Ts) (hP : WP Y D N ad K len σ ρ H) (hr : r < N) (hk : K r = t) (ht : (t = 16 ∧ cA = Y.2.2.2.1 ∧ Cn = "CutCrooked$Cutter") ∨ (t = 17 ∧ cA = Y.2.2.2.2.1 ∧ Cn = "CutCrooked$Loaf")) (hn : len r = n) (hin : inb i n = true) (hv : rf ad (ρ r i.toNatClampNeg) = v) (hdg : decode cc pc = .ok (.aaload, 1))
    (kk : W p l e R s m args below meth c H locs cells slots Q (F0 m (pc + 1) ls (v :: rest))) : W p l e R s m args below meth c H locs cells slots Q (F0 m pc ls (.int i :: .ref (ad r) :: rest)) := by
  obtain ⟨⟨hx, hb, hml, hown, hts⟩, -, -, hK, -⟩ := C
  subst hv
  rcases ht with ⟨rfl, rfl, rfl⟩ | ⟨rfl, rfl, rfl⟩
  · exact va_aldq (ws := wl N ad (cf Y ad K len σ ρ)) (cA := Y.2.2.2.1) (n := n) (f := fun j => (ρ r j).map ad) hx hb hK hP r 3 (by rw [cf_at hr hk, hn]; rfl) rfl (inb_in hin) hdg kk
  · exact va_aldq (ws := wl N ad (cf Y ad K len σ ρ)) (cA := Y.2.2.2.2.1) (n := n) (f := fun j => (ρ r j).map ad) hx hb hK hP r 4 (by rw [cf_at hr hk, hn]; rfl) rfl (inb_in hin) hdg kk
theorem x_alen {r n t : Nat} {v : Int32} (C : Cx Y D N ad p s m args meth c cc nL ret own Ts) (hP : WP Y D N ad K len σ ρ H) (hr : r < N) (hk : K r = t) (ht : Nat.blt t 13 = false) (hn : len r = n) (hv : Int32.ofNat n = v) (hdg : decode cc pc = .ok (.arraylength, 1))
    (kk : W p l e R s m args below meth c H locs cells slots Q (F0 m (pc + 1) ls (.int v :: rest))) : W p l e R s m args below meth c H locs cells slots Q (F0 m pc ls (.ref (ad r) :: rest)) := by
  obtain ⟨⟨hx, hb, hml, hown, hts⟩, -, -, hK, -⟩ := C
  subst hv
  have ht2 : t = 13 ∨ t = 14 ∨ t = 15 ∨ t = 16 ∨ 17 ≤ t := by
    have : ¬ t < 13 := fun h => by rw [Nat.blt_eq.mpr h] at ht; cases ht
    omega
  rcases ht2 with rfl | rfl | rfl | rfl | h17
  · exact va_alen (ws := wl N ad (cf Y ad K len σ ρ)) (x := (n, .inl (σ r))) hx hb hK hP r 0 (by rw [cf_at hr hk, hn]; rfl) rfl rfl hdg kk
  · exact va_alen (ws := wl N ad (cf Y ad K len σ ρ)) (x := (n, .inl (σ r))) hx hb hK hP r 1 (by rw [cf_at hr hk, hn]; rfl) rfl rfl hdg kk
  · exact va_alen (ws := wl N ad (cf Y ad K len σ ρ)) (x := (n, .inl (σ r))) hx hb hK hP r 2 (by rw [cf_at hr hk, hn]; rfl) rfl rfl hdg kk
  · exact va_alen (ws := wl N ad (cf Y ad K len σ ρ)) (x := (n, .inr (.inr (.inr (.inr (fun j => (ρ r j).map ad)))))) hx hb hK hP r 3 (by rw [cf_at hr hk, hn]; rfl) rfl rfl hdg kk
  · refine va_alen (ws := wl N ad (cf Y ad K len σ ρ)) (x := (n, .inr (.inr (.inr (.inr (fun j => (ρ r j).map ad)))))) hx hb hK hP r 4 ?_ rfl rfl hdg kk
    rw [cf_at hr hk, hn]
    obtain ⟨z, rfl⟩ : ∃ z, t = z + 17 := ⟨t - 17, by omega⟩
    unfold cel
    rw [ht]
    rfl
/-- an outcome's world, for a caller -/
theorem x_go {y : MethodName} {rm : Room} {σ' : Nat → Nat → Int32} {ρ' : Nat → Nat → Option Nat} {res : Option Value} {st0 : List Value} (C : Cx Y D N ad p s m args meth c cc nL ret own Ts) (hS : va_S (AA N ad s.heap.size) s.heap H locs) {a : Array Value}
    (hr : va_Run p l e R s m args below meth c H locs cells slots 0 0 (F0 m pc ls st0) rest (QW Y D N ad K len σ' ρ' (AA N ad H.size) res a) (AA N ad H.size))
    (kk : ∀ (H1 : Heap) (locs1 : List Loc), WP Y D N ad K len σ' ρ' H1 → va_S (AA N ad s.heap.size) s.heap H1 locs1 → W p l e R s m args below meth c H1 locs1 cells slots Q (F0 m (pc + 3) ls (res.toList ++ rest))) : W p l e R s m args below meth c H locs cells slots Q (F0 m pc ls st0) := by
  intro T hT X
  obtain ⟨v, st₀, t, T', L, h0, X', hL, e1, e2, ⟨⟨hv, hw, hk1⟩, hz, hk⟩, st⟩ := hr T hT X
  cases hv
  rw [h0] at hz hk
  have hA : ∀ q, AA N ad H.size q → AA N ad s.heap.size q := AA_mono hS.1
  obtain ⟨t2, a1, b1⟩ := kk T'.heap (locs ++ L) (by rw [e1]; exact hw)
    ⟨Nat.le_trans hS.1 (by rw [e1]; exact hz), fun q h1 h2 => by rw [e1, hk q (Nat.lt_of_lt_of_le h1 hS.1) (fun z => h2 (hA q z))]; exact hS.2.1 q h1 h2, fun q hq => by
      rcases List.mem_append.mp hq with h | h
      · exact hS.2.2 q h
      · exact hA _ (hL q h)⟩ T' rfl X'
  exact ⟨t2, st t2 a1, b1⟩
theorem x_pre {av : List Value} (C : Cx Y D N ad p s m args meth c cc nL ret own Ts) (hP : WP Y D N ad K len σ ρ H) (hS : va_S (AA N ad s.heap.size) s.heap H locs) : ∀ U : State, U.heap = H → s.WarmedH U.vm → va_Pc av (PW Y D N ad K len σ ρ H.size) av.toArray U := fun U hU hW =>
  ⟨rfl, by rw [hU], by rw [hU]; exact hP, va_K.moved hW.alike C.2.2.2.1, C.2.2.2.2.1, NZ_warm hW C.2.2.2.2.2.1, SZ_go C.2.2.2.2.2.2 (hU.symm ▸ hS) hW⟩
theorem x_callS {y : MethodName} {ws : List Cond} {rm : Room} {bytes : ByteArray} {maxL n index : Nat} {rt : Option FieldType} {av : List Value} {res : Option Value} {st0 : List Value} (C : Cx Y D N ad p s m args meth c cc nL ret own Ts) (hP : WP Y D N ad K len σ ρ H) (hS : va_S (AA N ad s.heap.size) s.heap H locs) (hM : MT l Y D N ad K len y ws rm av σ ρ res σ1 ρ1)
    (cw : CallB R s args own index y bytes maxL rt ws rm 0 0 n ∧ (Cond.static y).before args s = true) (hn : av.length = n) (hst : st0 = av.reverse ++ rest) (hls : ls.size = nL) (hW : (rest.map fun v => v.category).sum ≤ 8) (hf : cells ≤ R.cells ∧ slots ≤ R.slots) (hdg : decode cc pc = .ok (.invokestatic index, 3))
    (kk : ∀ (H1 : Heap) (locs1 : List Loc), WP Y D N ad K len σ1 ρ1 H1 → va_S (AA N ad s.heap.size) s.heap H1 locs1 → W p l e R s m args below meth c H1 locs1 cells slots Q (F0 m (pc + 3) ls (res.toList ++ rest))) : W p l e R s m args below meth c H locs cells slots Q (F0 m pc ls st0) :=
  x_go (y := y) (rm := rm) C hS (va_runS (g := F0 m pc ls st0) C.1 (hM H.size) cw ⟨PW_blind, x_pre C hP hS⟩ rfl hn hls hst (lv_room hW) hdg hf) kk
theorem x_callV {y : MethodName} {ws : List Cond} {rm : Room} {bytes : ByteArray} {maxL n index : Nat} {rt : Option FieldType} {av : List Value} {res : Option Value} {st0 : List Value} {b ci : Nat} {Cn : String} {T : u_T} {Nf : Nat} (hc : vwCl[ci]? = some (Cn, T, Nf)) (h13 : Nat.blt ci 13 = true) (C : Cx Y D N ad p s m args meth c cc nL ret own Ts) (hP : WP Y D N ad K len σ ρ H) (hS : va_S (AA N ad s.heap.size) s.heap H locs) (hM : MT l Y D N ad K len y ws rm (.ref (ad b) :: av) σ ρ res σ1 ρ1)
    (hr : b < N) (hk : K b = ci) (cw : CallW R s args own Cn index y bytes maxL rt ws rm 0 0 n) (hn : av.length = n) (hst : st0 = av.reverse ++ .ref (ad b) :: rest) (hls : ls.size = nL) (hW : (rest.map fun v => v.category).sum ≤ 8) (hf : cells ≤ R.cells ∧ slots ≤ R.slots) (hdg : decode cc pc = .ok (.invokevirtual index, 3))
    (kk : ∀ (H1 : Heap) (locs1 : List Loc), WP Y D N ad K len σ1 ρ1 H1 → va_S (AA N ad s.heap.size) s.heap H1 locs1 → W p l e R s m args below meth c H1 locs1 cells slots Q (F0 m (pc + 3) ls (res.toList ++ rest))) : W p l e R s m args below meth c H locs cells slots Q (F0 m pc ls st0) := by
  have he : (wl N ad (cf Y ad K len σ ρ))[b]? = some (ad b, .inr (ci, flds ad ci (σ b) (ρ b))) := by
    rw [cf_at hr hk]
    unfold cel
    rw [h13]
    rfl
  exact x_go (y := y) (rm := rm) C hS (va_runV (g := F0 m pc ls st0) C.1 (hM H.size) cw ⟨PW_blind, va_recv C.2.2.2.1 hP hc he, x_pre C hP hS⟩ rfl hn hls hst (lv_room hW) hdg hf) kk
theorem x_iret {v : Int32} (hret : ret = some .int) (C : Cx Y D N ad p s m args meth c cc nL ret own Ts) (hP : WP Y D N ad K len σ ρ H) (hS : va_S (AA N ad s.heap.size) s.heap H locs) (hdg : decode cc pc = .ok (.ireturn, 1)) : W p l e R s m args below meth c H locs cells slots (MQ below (QW Y D N ad K len σ ρ (AA N ad s.heap.size) (some (.int v))) args s cells slots (AA N ad s.heap.size)) (F0 m pc ls [.int v]) := by
  obtain ⟨⟨hx, hb, hml, hown, hts⟩, hrt, hlocks, hK, hI, -⟩ := C
  subst hret
  exact W.iret hx hb hrt (fun t ht hW => ⟨⟨rfl, by rw [ht]; exact hP, va_K.moved hW.alike hK⟩, hS.F ht⟩) hS.2.2 hdg hlocks
theorem x_zret {v : Int32} (hret : ret = some .boolean) (h01 : isb v = true) (C : Cx Y D N ad p s m args meth c cc nL ret own Ts) (hP : WP Y D N ad K len σ ρ H) (hS : va_S (AA N ad s.heap.size) s.heap H locs) (hdg : decode cc pc = .ok (.ireturn, 1)) : W p l e R s m args below meth c H locs cells slots (MQ below (QW Y D N ad K len σ ρ (AA N ad s.heap.size) (some (.int v))) args s cells slots (AA N ad s.heap.size)) (F0 m pc ls [.int v]) := by
  obtain ⟨⟨hx, hb, hml, hown, hts⟩, hrt, hlocks, hK, hI, -⟩ := C
  subst hret
  exact W.zret hx hb hrt (by rcases isb_01 h01 with rfl | rfl <;> rfl) (fun t ht hW => ⟨⟨rfl, by rw [ht]; exact hP, va_K.moved hW.alike hK⟩, hS.F ht⟩) hS.2.2 hdg hlocks
theorem x_lret {v : Int64} (hret : ret = some .long) (C : Cx Y D N ad p s m args meth c cc nL ret own Ts) (hP : WP Y D N ad K len σ ρ H) (hS : va_S (AA N ad s.heap.size) s.heap H locs) (hdg : decode cc pc = .ok (.lreturn, 1)) : W p l e R s m args below meth c H locs cells slots (MQ below (QW Y D N ad K len σ ρ (AA N ad s.heap.size) (some (.long v))) args s cells slots (AA N ad s.heap.size)) (F0 m pc ls [.long v]) := by
  obtain ⟨⟨hx, hb, hml, hown, hts⟩, hrt, hlocks, hK, hI, -⟩ := C
  subst hret
  exact W.lret hx hb hrt (fun t ht hW => ⟨⟨rfl, by rw [ht]; exact hP, va_K.moved hW.alike hK⟩, hS.F ht⟩) hS.2.2 hdg hlocks
theorem x_vret (hret : ret = none) (C : Cx Y D N ad p s m args meth c cc nL ret own Ts) (hP : WP Y D N ad K len σ ρ H) (hS : va_S (AA N ad s.heap.size) s.heap H locs) (hdg : decode cc pc = .ok (.return_, 1)) : W p l e R s m args below meth c H locs cells slots (MQ below (QW Y D N ad K len σ ρ (AA N ad s.heap.size) none) args s cells slots (AA N ad s.heap.size)) (F0 m pc ls []) := by
  obtain ⟨⟨hx, hb, hml, hown, hts⟩, hrt, hlocks, hK, hI, -⟩ := C
  subst hret
  exact W.vret hx hb hrt (fun t ht hW => ⟨⟨rfl, by rw [ht]; exact hP, va_K.moved hW.alike hK⟩, hS.F ht⟩) hS.2.2 hdg hlocks
theorem x_aret {v : Value} {cn : String} (hret : ret = some (.object cn)) (hv : v = .null ∨ ∃ a, v = .ref a) (C : Cx Y D N ad p s m args meth c cc nL ret own Ts) (hP : WP Y D N ad K len σ ρ H) (hS : va_S (AA N ad s.heap.size) s.heap H locs) (hdg : decode cc pc = .ok (.areturn, 1)) : W p l e R s m args below meth c H locs cells slots (MQ below (QW Y D N ad K len σ ρ (AA N ad s.heap.size) (some v)) args s cells slots (AA N ad s.heap.size)) (F0 m pc ls [v]) := by
  obtain ⟨⟨hx, hb, hml, hown, hts⟩, hrt, hlocks, hK, hI, -⟩ := C
  subst hret
  exact W.aret hx hb hrt (Or.inl ⟨_, rfl⟩) hv (fun t ht hW => ⟨⟨rfl, by rw [ht]; exact hP, va_K.moved hW.alike hK⟩, hS.F ht⟩) hS.2.2 hdg hlocks
end ROWS
theorem mt_of {l : Launch} {Y : YT} {D : va_G} {N : Nat} {ad K len : Nat → Nat} {y : MethodName} {rm : Room} {av : List Value} {σ σ1 : Nat → Nat → Int32} {ρ ρ1 : Nat → Nat → Option Nat} {res : Option Value} {cc : ByteArray} {nL : Nat} {ret : Option FieldType} (hy : plainName y.cls = true) (hL : (lg_sl av).length ≤ nL)
    (body : ∀ (p : Program) (e : Env) (s : State) (m : MethodId) (args : Array Value) (below : List Frame) (meth : Method) (c : Code) (ls : Array Slot), Cx Y D N ad p s m args meth c cc nL ret y.cls wsL_law → meth.name = y.name → WP Y D N ad K len σ ρ s.heap → va_S (AA N ad s.heap.size) s.heap s.heap [] → lv_has ls nL (lv_args 0 av) →
      W p l e rm s m args below meth c s.heap [] 0 0 (MQ below (QW Y D N ad K len σ1 ρ1 (AA N ad s.heap.size) res) args s 0 0 (AA N ad s.heap.size)) (F0 m 0 ls [])) : MT l Y D N ad K len y (Cond.code y cc nL ret :: wsL_law) rm av σ ρ res σ1 ρ1 := by
  intro sz
  refine Met.ofW (cc := cc) (maxL := nL) (ret := ret) hy rfl ?_
  intro p e s m args below meth c s₁ B hml hv
  obtain ⟨rfl, hsz, hP, hK, hI, hZ⟩ := hv
  have hts := atoms_spec (ws := Cond.code y cc nL ret :: wsL_law) B.pre
  have hown : s.vm.findClass y.cls = some m.cls := findClass_of_methodNamed B.named
  have hin : meth.name = y.name := (name_of_methodNamed B.named B.method).1
  subst hsz
  have hl := lv_entry av (n := nL) hL
  rw [lg_entry_eq]
  exact body p e s m _ below meth c _ ⟨⟨B.exec, B.bytes, hml, hown, fun w h => hts w (List.mem_cons_of_mem _ h)⟩, B.returns, B.notSynchronized, hK, hI, hZ⟩ hin hP va_S.rf hl
