/-! PART alloc: making objects and arrays; calls of constructors. The kinds and lengths of ids not made yet stand in K and len already -/
def RC (N : Nat) (ρ : RG) : Prop := ∀ r k i : Nat, r < N → ρ r k = some i → i < N
def BL (N : Nat) (σ : SG) (ρ : RG) : Prop := ∀ r : Nat, N ≤ r → σ r = (fun _ => 0) ∧ ρ r = (fun _ => none)
theorem RC_grow {N : Nat} {ρ : RG} (h : RC N ρ) (hρ : ρ N = fun _ => none) : RC (N + 1) ρ := by
  intro r k i hr hi
  rcases Nat.lt_or_ge r N with q | q
  · exact Nat.lt_succ_of_lt (h r k i q hi)
  · rw [show r = N by omega, hρ] at hi; cases hi
theorem RC_put {N : Nat} {ρ : RG} (h : RC N ρ) {r k t : Nat} (ht : t < N) : RC N (r2 ρ r k (some t)) := by
  intro a b i ha hi
  rw [r2_at] at hi
  by_cases h1 : a = r
  · by_cases h2 : b = k
    · rw [if_pos h1, if_pos h2] at hi; cases hi; exact ht
    · rw [if_pos h1, if_neg h2] at hi; exact h r b i (h1 ▸ ha) hi
  · rw [if_neg h1] at hi; exact h a b i ha hi
theorem RC_putn {N : Nat} {ρ : RG} (h : RC N ρ) {r k : Nat} : RC N (r2 ρ r k none) := by
  intro a b i ha hi
  rw [r2_at] at hi
  by_cases h1 : a = r
  · by_cases h2 : b = k
    · rw [if_pos h1, if_pos h2] at hi; cases hi
    · rw [if_pos h1, if_neg h2] at hi; exact h r b i (h1 ▸ ha) hi
  · rw [if_neg h1] at hi; exact h a b i ha hi
theorem BL_grow {N : Nat} {σ : SG} {ρ : RG} (h : BL N σ ρ) : BL (N + 1) σ ρ := fun r hr => h r (by omega)
theorem BL_s2 {N : Nat} {σ : SG} {ρ : RG} (h : BL N σ ρ) {r k : Nat} {v : Int32} (hr : r < N) : BL N (s2 σ r k v) ρ := fun a ha => ⟨by rw [s2_ne a (by omega)]; exact (h a ha).1, (h a ha).2⟩
theorem BL_r2 {N : Nat} {σ : SG} {ρ : RG} (h : BL N σ ρ) {r k : Nat} {v : Option Nat} (hr : r < N) : BL N σ (r2 ρ r k v) := fun a ha => ⟨(h a ha).1, by rw [r2_ne a (by omega)]; exact (h a ha).2⟩
theorem flds_congr {ad ad1 : Nat → Nat} {k : Nat} {g : Nat → Int32} {x : Nat → Option Nat} (h : ∀ j, rf ad (x j) = rf ad1 (x j)) : flds ad k g x = flds ad1 k g x := by
  unfold flds
  split <;> simp only [h]
theorem cel_congr {Y : YT} {ad ad1 : Nat → Nat} {k n : Nat} {g : Nat → Int32} {x : Nat → Option Nat} (h : ∀ j, (x j).map ad = (x j).map ad1) : cel Y ad k n g x = cel Y ad1 k n g x := by
  unfold cel
  rw [flds_congr (ad := ad) (ad1 := ad1) (fun j => by unfold rf; rw [h j]), show (fun j => (x j).map ad) = (fun j => (x j).map ad1) from funext h]
theorem WP_grow {Y : YT} {D : va_G} {N : Nat} {ad K len : Nat → Nat} {σ : SG} {ρ : RG} {H : Heap} {q : Nat} {e : va_E} (hR : RC N ρ) (hP : va_P D vwCl (wl N ad (cf Y ad K len σ ρ) ++ [(q, e)]) H) (he : e = cel Y (va_up ad N q) (K N) (len N) (σ N) (ρ N)) : WP Y D (N + 1) (va_up ad N q) K len σ ρ H := by
  rw [wl_push] at hP
  have e1 : wl (N + 1) (va_up ad N q) (va_up (cf Y ad K len σ ρ) N e) = wl (N + 1) (va_up ad N q) (cf Y (va_up ad N q) K len σ ρ) := by
    unfold wl
    apply List.map_congr_left
    intro r hr
    have hr : r < N + 1 := List.mem_range.mp hr
    congr 1
    rcases Nat.lt_or_ge r N with h | h
    · rw [va_up_ne _ _ (Nat.ne_of_lt h)]
      unfold cf
      refine cel_congr (fun j => ?_)
      cases hx : ρ r j with
      | none => rfl
      | some i =>
        have := hR r j i h hx
        show some (ad i) = some (va_up ad N q i)
        rw [va_up_ne _ _ (Nat.ne_of_lt this)]
    · have h2 : r = N := by omega
      subst h2
      rw [va_up_self, he]
      rfl
  rw [e1] at hP
  exact hP
theorem ne_new {Y : YT} {D : va_G} {N : Nat} {ad : Nat → Nat} {f : Nat → va_E} {q sz : Nat} {e : va_E} (hD : va_D (AA N ad sz) (wl N ad f ++ [(q, e)])) : (∀ r, r < N → ad r ≠ q) ∧ sz ≤ q := by
  have hlen : (wl N ad f).length = N := by simp [wl]
  have hq : (wl N ad f ++ [(q, e)])[N]? = some (q, e) := by rw [List.getElem?_append_right (by omega), hlen, Nat.sub_self]; rfl
  have h1 : ∀ r, r < N → ad r ≠ q := by
    intro r hr h
    have hr' : (wl N ad f ++ [(q, e)])[r]? = some (ad r, f r) := by rw [List.getElem?_append_left (by omega)]; exact wl_at hr
    have := hD.1 r N _ _ hr' hq h
    omega
  refine ⟨h1, ?_⟩
  rcases hD.2 N _ hq with ⟨r, hr, h⟩ | h
  · exact absurd h (h1 r hr)
  · exact h
theorem inj_grow {N : Nat} {ad : Nat → Nat} {q : Nat} (hI : inj N ad) (h : ∀ r, r < N → ad r ≠ q) : inj (N + 1) (va_up ad N q) := by
  intro i j hi hj e
  rcases Nat.lt_or_ge i N with a | a
  · rw [va_up_ne _ _ (Nat.ne_of_lt a)] at e
    rcases Nat.lt_or_ge j N with b | b
    · rw [va_up_ne _ _ (Nat.ne_of_lt b)] at e; exact hI i j a b e
    · rw [show j = N by omega, va_up_self] at e; exact absurd e (h i a)
  · rw [show i = N by omega, va_up_self] at e
    rcases Nat.lt_or_ge j N with b | b
    · rw [va_up_ne _ _ (Nat.ne_of_lt b)] at e; exact absurd e.symm (h j b)
    · omega
theorem AA_grow {N : Nat} {ad : Nat → Nat} {q sz : Nat} (h : sz ≤ q) : AA (N + 1) (va_up ad N q) sz = AA N ad sz := by
  funext z
  apply propext
  constructor
  · rintro (⟨r, hr, e⟩ | e)
    · rcases Nat.lt_or_ge r N with a | a
      · rw [va_up_ne _ _ (Nat.ne_of_lt a)] at e; exact Or.inl ⟨r, a, e⟩
      · rw [show r = N by omega, va_up_self] at e; exact Or.inr (e ▸ h)
    · exact Or.inr e
  · rintro (⟨r, hr, e⟩ | e)
    · exact Or.inl ⟨r, by omega, by rw [va_up_ne _ _ (Nat.ne_of_lt hr)]; exact e⟩
    · exact Or.inr e
theorem Lay_new {N : Nat} {K len : Nat → Nat} {ρ : RG} (h : Lay N K len ρ) (k n : Nat) : Lay (N + 1) (va_up K N k) (va_up len N n) (va_up ρ N (fun _ => none)) := by
  have hN := h.1
  refine ⟨by omega, fun r hr => ?_, fun q hq => ?_⟩
  · have e : r ≠ N := by omega
    rw [va_up_ne _ _ e, va_up_ne _ _ e]
    exact h.2.1 r hr
  · have hq1 : ∀ q ∈ refsL, q.1 < 65 := by decide +kernel
    have e : q.1 ≠ N := by have := hq1 q hq; omega
    rw [va_up_ne _ _ e]
    exact h.2.2 q hq
theorem Lay_far {N : Nat} {K len : Nat → Nat} {ρ : RG} (h : Lay N K len ρ) {t k : Nat} {v : Option Nat} (ht : 65 ≤ t) : Lay N K len (r2 ρ t k v) := by
  refine ⟨h.1, h.2.1, fun q hq => ?_⟩
  have hq1 : ∀ q ∈ refsL, q.1 < 65 := by decide +kernel
  rw [r2_ne q.1 (by have := hq1 q hq; omega)]
  exact h.2.2 q hq
theorem RC_new {N : Nat} {ρ : RG} (h : RC N ρ) : RC (N + 1) (va_up ρ N (fun _ => none)) := by
  intro r k i hr hi
  by_cases e : r = N
  · subst e; rw [va_up_self] at hi; cases hi
  · rw [va_up_ne _ _ e] at hi
    exact Nat.lt_succ_of_lt (h r k i (by omega) hi)
theorem RC_row {N : Nat} {ρ : RG} (h : RC N ρ) : RC N (va_up ρ N (fun _ => none)) := by
  intro r k i hr hi
  rw [va_up_ne _ _ (Nat.ne_of_lt hr)] at hi
  exact h r k i hr hi
def isO (k N : Nat) (K : Nat → Nat) (t : Nat) : Prop := t < N ∧ K t = k
theorem isO_new {k N : Nat} {K : Nat → Nat} {t : Nat} (h : isO k N K t) (z : Nat) : isO k (N + 1) (va_up K N z) t := ⟨Nat.lt_succ_of_lt h.1, by rw [va_up_ne _ _ (Nat.ne_of_lt h.1)]; exact h.2⟩
theorem isO_self {N : Nat} (K : Nat → Nat) (z : Nat) : isO z (N + 1) (va_up K N z) N := ⟨Nat.lt_succ_self N, va_up_self _ _ _⟩
/-- the kinds of cutters -/
def isCk (k : Nat) : Bool := k == 1 || k == 2 || k == 4 || k == 5 || k == 6 || k == 7 || k == 9
theorem isCk_or {k : Nat} (h : isCk k = true) : k = 1 ∨ k = 2 ∨ k = 4 ∨ k = 5 ∨ k = 6 ∨ k = 7 ∨ k = 9 := by
  simp only [isCk, Bool.or_eq_true, beq_iff_eq] at h
  omega
abbrev TT : Type := Nat × (Nat → Nat) × (Nat → Nat) × SG × RG
def bnT {α γ : Type} (o : Option (α × TT)) (f : α → Nat → (Nat → Nat) → (Nat → Nat) → SG → RG → Option γ) : Option γ := o.bind (fun q => f q.1 q.2.1 q.2.2.1 q.2.2.2.1 q.2.2.2.2.1 q.2.2.2.2.2)
theorem bnT_1 {α γ : Type} {o : Option (α × TT)} {f : α → Nat → (Nat → Nat) → (Nat → Nat) → SG → RG → Option γ} {y : γ} (h : bnT o f = some y) : ∃ a N K len σ ρ, o = some (a, N, K, len, σ, ρ) ∧ f a N K len σ ρ = some y := by
  cases o with
  | none => cases h
  | some x => exact ⟨x.1, x.2.1, x.2.2.1, x.2.2.2.1, x.2.2.2.2.1, x.2.2.2.2.2, rfl, h⟩
theorem ret_T {α : Type} {a a' : α} {N N' : Nat} {K K' len len' : Nat → Nat} {σ σ' : SG} {ρ ρ' : RG} (h : some (a, N, K, len, σ, ρ) = some (a', N', K', len', σ', ρ')) : a' = a ∧ N' = N ∧ K' = K ∧ len' = len ∧ σ' = σ ∧ ρ' = ρ := by cases h; exact ⟨rfl, rfl, rfl, rfl, rfl, rfl⟩
/-- a constructor's end -/
def QC (Y : YT) (D : va_G) (N : Nat) (ad : Nat → Nat) (N1 : Nat) (K1 len1 : Nat → Nat) (σ1 : SG) (ρ1 : RG) (sz : Nat) (res : (Nat → Nat) → Option Value) : Array Value → State → Outcome → State → Prop := fun _ st oc t => (∃ ad1 : Nat → Nat, (∀ r, r < N → ad1 r = ad r) ∧ AA N1 ad1 sz = AA N ad sz ∧ oc = .returned (res ad1) ∧ WP Y D N1 ad1 K1 len1 σ1 ρ1 t.heap ∧ va_K D vwCl (tysY Y) t ∧ inj N1 ad1) ∧ va_F (AA N ad sz) st t
def MC (l : Launch) (Y : YT) (D : va_G) (N : Nat) (ad K len : Nat → Nat) (y : MethodName) (ws : List Cond) (rm : Room) (av : List Value) (σ : SG) (ρ : RG) (res : (Nat → Nat) → Option Value) (N1 : Nat) (K1 len1 : Nat → Nat) (σ1 : SG) (ρ1 : RG) (mc ms : Nat) : Prop :=
  ∀ sz : Nat, Met l y ws rm (va_Pc av (PW Y D N ad K len σ ρ sz)) (QC Y D N ad N1 K1 len1 σ1 ρ1 sz res) mc ms (AA N ad sz)
section ALLOC
variable {Y : YT} {D : va_G} {N : Nat} {ad K len : Nat → Nat} {p : Program} {l : Launch} {e : Env} {R : Room} {s : State} {m : MethodId} {args : Array Value} {below : List Frame} {meth : Method} {c : Code} {H : Heap} {locs : List Loc} {cells slots : Nat} {Q : State → Prop}
variable {cc : ByteArray} {nL : Nat} {ret : Option FieldType} {own : String} {Ts : List Cond} {pc : Nat} {ls : Array Slot} {rest : List Value} {σ σ1 : SG} {ρ ρ1 : RG}
theorem x_new {ci index Nf : Nat} {Cn : String} {T : u_T} {fs : List Value} {ty : Nat → FieldType} (hty : ∀ k, k < Nf → parseFieldDescriptor (T k).2.2.1 = some (ty k)) (hc : vwCl[ci]? = some (Cn, T, Nf)) (h13 : Nat.blt ci 13 = true) (hfs0 : ∀ z : Nat → Nat, flds z ci (fun _ => 0) (fun _ => none) = fs) (hfs : ∀ j, j < Nf → defaultValue (ty j) = vp_V fs j)
    (C : Cx Y D N ad p s m args meth c cc nL ret own Ts) (hP : WP Y D N ad K len σ ρ H) (hS : va_S (AA N ad s.heap.size) s.heap H locs) (hR : RC N ρ) (hk : K N = ci) (hB : σ N = (fun _ => 0) ∧ ρ N = (fun _ => none)) (hin : ∀ w ∈ u_ws Cn T Nf, w ∈ Ts) (hcl : Cond.classLink own index Cn ∈ Ts) (hinst : Cond.instantiable Cn Nf ∈ Ts) (hini : Cond.initialized Cn ∈ Ts) (hcells : cells + 1 ≤ R.cells) (hslots : slots + Nf ≤ R.slots) (hdg : decode cc pc = .ok (.new index, 3))
    (kk : ∀ (ad1 : Nat → Nat) (H1 : Heap), (∀ r, r < N → ad1 r = ad r) → AA (N + 1) ad1 s.heap.size = AA N ad s.heap.size → Cx Y D (N + 1) ad1 p s m args meth c cc nL ret own Ts → WP Y D (N + 1) ad1 K len σ ρ H1 → va_S (AA (N + 1) ad1 s.heap.size) s.heap H1 locs → W p l e R s m args below meth c H1 locs (cells + 1) (slots + Nf) Q (F0 m (pc + 3) ls (.ref (ad1 N) :: rest))) : W p l e R s m args below meth c H locs cells slots Q (F0 m pc ls rest) := by
  obtain ⟨⟨hx, hb, hml, hown, hts⟩, hr1, hr2, hK, hI, hZ⟩ := C
  refine va_new (ws := wl N ad (cf Y ad K len σ ρ)) hx hb hts hin ty hty hown (hts _ hcl) (hts _ hinst) (hts _ hini) hK hP (WD hI) hS AA_new hc hfs hcells hslots hdg (fun q H1 hP1 hD1 hS1 => ?_)
  obtain ⟨hq, hsz⟩ := ne_new (Y := Y) (D := D) hD1
  have hk1 := kk (va_up ad N q) H1 (fun r h => va_up_ne _ _ (Nat.ne_of_lt h)) (AA_grow hsz) ⟨⟨hx, hb, hml, hown, hts⟩, hr1, hr2, hK, inj_grow hI hq, hZ.1, SZ_AA hZ.2 (AA_grow hsz)⟩
    (WP_grow hR hP1 (by rw [hk, hB.1, hB.2]; unfold cel; rw [h13, ← hfs0 (va_up ad N q)]; rfl)) (by rw [AA_grow hsz]; exact hS1)
  rw [va_up_self] at hk1
  exact hk1
theorem x_newa {n : Nat} {nn : Int32} {atype : ArrayType} {ty : FieldType} {t y : Nat} {cB : ClassId} (hyt : (tysY Y)[y]? = some (cB, ty)) (hne : ∀ (C : String), ty ≠ .object C) (htt : newarray.typeOf atype = ty) (hdef : defaultValue ty = .int 0) (hcel : ∀ (z : Nat → Nat) (n' : Nat) (g : Nat → Int32) (h : Nat → Option Nat), cel Y z t n' g h = .inl (cB, n', .inl g))
    (C : Cx Y D N ad p s m args meth c cc nL ret own Ts) (hP : WP Y D N ad K len σ ρ H) (hS : va_S (AA N ad s.heap.size) s.heap H locs) (hR : RC N ρ) (hk : K N = t) (hlen : len N = n) (hB : σ N = (fun _ => 0) ∧ ρ N = (fun _ => none)) (harr : Cond.arrayClass (newarray.typeOf atype) ∈ Ts) (hn0 : ¬ nn < 0) (hn : nn.toNatClampNeg = n) (hbytes : n * componentBytes ty ≤ 536870912) (hcells : cells + 1 ≤ R.cells) (hslots : slots + n ≤ R.slots) (hdg : decode cc pc = .ok (.newarray atype, 2))
    (kk : ∀ (ad1 : Nat → Nat) (H1 : Heap), (∀ r, r < N → ad1 r = ad r) → AA (N + 1) ad1 s.heap.size = AA N ad s.heap.size → Cx Y D (N + 1) ad1 p s m args meth c cc nL ret own Ts → WP Y D (N + 1) ad1 K len σ ρ H1 → va_S (AA (N + 1) ad1 s.heap.size) s.heap H1 locs → W p l e R s m args below meth c H1 locs (cells + 1) (slots + n) Q (F0 m (pc + 2) ls (.ref (ad1 N) :: rest))) : W p l e R s m args below meth c H locs cells slots Q (F0 m pc ls (.int nn :: rest)) := by
  obtain ⟨⟨hx, hb, hml, hown, hts⟩, hr1, hr2, hK, hI, hZ⟩ := C
  refine va_newa (ws := wl N ad (cf Y ad K len σ ρ)) (a0 := (n, .inl (fun _ => 0))) hx hb (hts _ harr) htt hK hP (WD hI) hS AA_new (fun cA => by rw [vp_cell_i, hdef]) hn0 hn hbytes hcells hslots hdg (fun q cA H1 hK1 hP1 hD1 hS1 => ?_)
  obtain ⟨hq, hsz⟩ := ne_new (Y := Y) (D := D) hD1
  have hcA : cA = cB := by
    have h1 := (hK.2 y _ hyt).2
    have h2 := (hK1.2 (tysY Y).length (cA, ty) (by rw [List.getElem?_append_right (Nat.le_refl _), Nat.sub_self]; rfl)).2
    have g1 : s.vm.findClass ("[" ++ ty.toString) = some cB := by
      cases ty <;> first | exact absurd rfl (hne _) | exact h1
    have g2 : s.vm.findClass ("[" ++ ty.toString) = some cA := by
      cases ty <;> first | exact absurd rfl (hne _) | exact h2
    exact Option.some.inj (g2.symm.trans g1)
  subst hcA
  have hk1 := kk (va_up ad N q) H1 (fun r h => va_up_ne _ _ (Nat.ne_of_lt h)) (AA_grow hsz) ⟨⟨hx, hb, hml, hown, hts⟩, hr1, hr2, hK, inj_grow hI hq, hZ.1, SZ_AA hZ.2 (AA_grow hsz)⟩
    (WP_grow hR hP1 (by rw [hk, hlen, hB.1, hcel])) (by rw [AA_grow hsz]; exact hS1)
  rw [va_up_self] at hk1
  exact hk1
theorem x_newq {index n t y : Nat} {nn : Int32} {Cn : String} {cB : ClassId} (hyt : (tysY Y)[y]? = some (cB, .object Cn)) (hcel : ∀ (z : Nat → Nat) (n' : Nat) (g : Nat → Int32) (h : Nat → Option Nat), cel Y z t n' g h = .inl (cB, n', .inr (.inr (.inr (.inr (fun j => (h j).map z))))))
    (C : Cx Y D N ad p s m args meth c cc nL ret own Ts) (hover : va_AO Cn s) (hP : WP Y D N ad K len σ ρ H) (hS : va_S (AA N ad s.heap.size) s.heap H locs) (hR : RC N ρ) (hk : K N = t) (hlen : len N = n) (hB : σ N = (fun _ => 0) ∧ ρ N = (fun _ => none)) (hcl : Cond.classLink own index Cn ∈ Ts) (hn0 : ¬ nn < 0) (hn : nn.toNatClampNeg = n) (hbytes : n * 4 ≤ 536870912) (hcells : cells + 1 ≤ R.cells) (hslots : slots + n ≤ R.slots) (hdg : decode cc pc = .ok (.anewarray index, 3))
    (kk : ∀ (ad1 : Nat → Nat) (H1 : Heap), (∀ r, r < N → ad1 r = ad r) → AA (N + 1) ad1 s.heap.size = AA N ad s.heap.size → Cx Y D (N + 1) ad1 p s m args meth c cc nL ret own Ts → WP Y D (N + 1) ad1 K len σ ρ H1 → va_S (AA (N + 1) ad1 s.heap.size) s.heap H1 locs → W p l e R s m args below meth c H1 locs (cells + 1) (slots + n) Q (F0 m (pc + 3) ls (.ref (ad1 N) :: rest))) : W p l e R s m args below meth c H locs cells slots Q (F0 m pc ls (.int nn :: rest)) := by
  obtain ⟨⟨hx, hb, hml, hown, hts⟩, hr1, hr2, hK, hI, hZ⟩ := C
  refine va_newq (ws := wl N ad (cf Y ad K len σ ρ)) hx hb hown (hts _ hcl) hover hK hP (WD hI) hS AA_new hn0 hn hbytes hcells hslots hdg (fun q cA H1 hK1 hP1 hD1 hS1 => ?_)
  obtain ⟨hq, hsz⟩ := ne_new (Y := Y) (D := D) hD1
  have hcA : cA = cB := by
    have h1 := (hK.2 y _ hyt).2
    have h2 := (hK1.2 (tysY Y).length (cA, .object Cn) (by rw [List.getElem?_append_right (Nat.le_refl _), Nat.sub_self]; rfl)).2
    obtain ⟨_, _, _, _, _, g1⟩ := h1
    obtain ⟨_, _, _, _, _, g2⟩ := h2
    exact Option.some.inj (g2.symm.trans g1)
  subst hcA
  have hk1 := kk (va_up ad N q) H1 (fun r h => va_up_ne _ _ (Nat.ne_of_lt h)) (AA_grow hsz) ⟨⟨hx, hb, hml, hown, hts⟩, hr1, hr2, hK, inj_grow hI hq, hZ.1, SZ_AA hZ.2 (AA_grow hsz)⟩
    (WP_grow hR hP1 (by rw [hk, hlen, hB.2, hcel]; rfl)) (by rw [AA_grow hsz]; exact hS1)
  rw [va_up_self] at hk1
  exact hk1
/-- a constructor's end, for a caller -/
theorem x_goC {N1 mc ms : Nat} {K1 len1 : Nat → Nat} {res : (Nat → Nat) → Option Value} {st0 : List Value} (C : Cx Y D N ad p s m args meth c cc nL ret own Ts) (hS : va_S (AA N ad s.heap.size) s.heap H locs) {a : Array Value}
    (hr : va_Run p l e R s m args below meth c H locs cells slots mc ms (F0 m pc ls st0) rest (QC Y D N ad N1 K1 len1 σ1 ρ1 H.size res a) (AA N ad H.size))
    (kk : ∀ (ad1 : Nat → Nat) (H1 : Heap) (locs1 : List Loc), (∀ r, r < N → ad1 r = ad r) → AA N1 ad1 s.heap.size = AA N ad s.heap.size → Cx Y D N1 ad1 p s m args meth c cc nL ret own Ts → WP Y D N1 ad1 K1 len1 σ1 ρ1 H1 → va_S (AA N1 ad1 s.heap.size) s.heap H1 locs1 → W p l e R s m args below meth c H1 locs1 (cells + mc) (slots + ms) Q (F0 m (pc + 3) ls ((res ad1).toList ++ rest))) : W p l e R s m args below meth c H locs cells slots Q (F0 m pc ls st0) := by
  intro T hT X
  obtain ⟨v, st₀, t, T', L, h0, X', hL, e1, e2, ⟨⟨ad1, hE, hAA, hv, hw, hk1, hI1⟩, hz, hk⟩, st⟩ := hr T hT X
  cases hv
  rw [h0] at hz hk
  have hA : ∀ q, AA N ad H.size q → AA N ad s.heap.size q := AA_mono hS.1
  have hAA1 : AA N1 ad1 s.heap.size = AA N ad s.heap.size := by
    funext q
    apply propext
    have hq := congrFun hAA q
    constructor
    · rintro (h | h)
      · have : AA N ad H.size q := by rw [← hq]; exact Or.inl h
        exact hA q this
      · exact Or.inr h
    · rintro (⟨r, h1, h2⟩ | h)
      · have : AA N1 ad1 H.size q := by rw [hq]; exact Or.inl ⟨r, h1, h2⟩
        exact AA_mono hS.1 q this
      · exact Or.inr h
  obtain ⟨⟨hx, hb, hml, hown, hts⟩, hr1, hr2, hK, hI, hZ⟩ := C
  obtain ⟨t2, a1, b1⟩ := kk ad1 T'.heap (locs ++ L) hE hAA1 ⟨⟨hx, hb, hml, hown, hts⟩, hr1, hr2, hK, hI1, hZ.1, SZ_AA hZ.2 hAA1⟩ (by rw [e1]; exact hw)
    (by
      rw [hAA1]
      exact ⟨Nat.le_trans hS.1 (by rw [e1]; exact hz), fun q h1 h2 => by rw [e1, hk q (Nat.lt_of_lt_of_le h1 hS.1) (fun z => h2 (hA q z))]; exact hS.2.1 q h1 h2, fun q hq => by
        rcases List.mem_append.mp hq with h | h
        · exact hS.2.2 q h
        · exact hA _ (hL q h)⟩) T' rfl X'
  exact ⟨t2, st t2 a1, b1⟩
theorem x_callI {N1 mc ms : Nat} {K1 len1 : Nat → Nat} {y : MethodName} {ws : List Cond} {rm : Room} {bytes : ByteArray} {maxL n index b : Nat} {av : List Value} {st0 : List Value} (C : Cx Y D N ad p s m args meth c cc nL ret own Ts) (hP : WP Y D N ad K len σ ρ H) (hS : va_S (AA N ad s.heap.size) s.heap H locs) (hM : MC l Y D N ad K len y ws rm (.ref (ad b) :: av) σ ρ (fun _ => none) N1 K1 len1 σ1 ρ1 mc ms)
    (cw : CallB R s args own index y bytes maxL none ws rm mc ms n ∧ y.name = "<init>" ∧ (Cond.instanceMethod y).before args s = true) (hn : av.length = n) (hst : st0 = av.reverse ++ .ref (ad b) :: rest) (hls : ls.size = nL) (hW : (rest.map fun v => v.category).sum ≤ 8) (hf : cells + mc ≤ R.cells ∧ slots + ms ≤ R.slots) (hdg : decode cc pc = .ok (.invokespecial index, 3))
    (kk : ∀ (ad1 : Nat → Nat) (H1 : Heap) (locs1 : List Loc), (∀ r, r < N → ad1 r = ad r) → AA N1 ad1 s.heap.size = AA N ad s.heap.size → Cx Y D N1 ad1 p s m args meth c cc nL ret own Ts → WP Y D N1 ad1 K1 len1 σ1 ρ1 H1 → va_S (AA N1 ad1 s.heap.size) s.heap H1 locs1 → W p l e R s m args below meth c H1 locs1 (cells + mc) (slots + ms) Q (F0 m (pc + 3) ls rest)) : W p l e R s m args below meth c H locs cells slots Q (F0 m pc ls st0) :=
  x_goC C hS (va_runI (g := F0 m pc ls st0) C.1 (hM H.size) cw ⟨PW_blind, x_pre C hP hS⟩ rfl hn hls hst (lv_room hW) hdg hf) kk
theorem x_callIN {N1 mc ms : Nat} {K1 len1 : Nat → Nat} {y : MethodName} {ws : List Cond} {rm : Room} {bytes : ByteArray} {maxL n index b : Nat} {host : String} {av : List Value} {st0 : List Value} (C : Cx Y D N ad p s m args meth c cc nL ret own Ts) (hP : WP Y D N ad K len σ ρ H) (hS : va_S (AA N ad s.heap.size) s.heap H locs) (hM : MC l Y D N ad K len y ws rm (.ref (ad b) :: av) σ ρ (fun _ => none) N1 K1 len1 σ1 ρ1 mc ms)
    (cw : va_CN R s args own index y host bytes maxL none ws rm mc ms n ∧ y.name = "<init>" ∧ (Cond.instanceMethod y).before args s = true) (hn : av.length = n) (hst : st0 = av.reverse ++ .ref (ad b) :: rest) (hls : ls.size = nL) (hW : (rest.map fun v => v.category).sum ≤ 8) (hf : cells + mc ≤ R.cells ∧ slots + ms ≤ R.slots) (hdg : decode cc pc = .ok (.invokespecial index, 3))
    (kk : ∀ (ad1 : Nat → Nat) (H1 : Heap) (locs1 : List Loc), (∀ r, r < N → ad1 r = ad r) → AA N1 ad1 s.heap.size = AA N ad s.heap.size → Cx Y D N1 ad1 p s m args meth c cc nL ret own Ts → WP Y D N1 ad1 K1 len1 σ1 ρ1 H1 → va_S (AA N1 ad1 s.heap.size) s.heap H1 locs1 → W p l e R s m args below meth c H1 locs1 (cells + mc) (slots + ms) Q (F0 m (pc + 3) ls rest)) : W p l e R s m args below meth c H locs cells slots Q (F0 m pc ls st0) :=
  x_goC C hS (va_runIN (g := F0 m pc ls st0) C.1 (hM H.size) cw ⟨PW_blind, x_pre C hP hS⟩ rfl hn hls hst (lv_room hW) hdg hf) kk
theorem x_aastC {r n t : Nat} {i : Int32} (C : Cx Y D N ad p s m args meth c cc nL ret own Ts) (hP : WP Y D N ad K len σ ρ H) (hS : va_S (AA N ad s.heap.size) s.heap H locs) (hr : r < N) (hk : K r = 16) (hn : len r = n) (ht : t < N) (hkt : isCk (K t) = true) (hin : inb i n = true) (e1 : ρ1 = r2 ρ r i.toNatClampNeg (some t)) (hdg : decode cc pc = .ok (.aastore, 1))
    (kk : ∀ (H1 : Heap) (locs1 : List Loc), WP Y D N ad K len σ ρ1 H1 → va_S (AA N ad s.heap.size) s.heap H1 locs1 → W p l e R s m args below meth c H1 locs1 cells slots Q (F0 m (pc + 1) ls rest)) : W p l e R s m args below meth c H locs cells slots Q (F0 m pc ls (.ref (ad t) :: .int i :: .ref (ad r) :: rest)) := by
  have hf : (fun j => (va_up (ρ r) i.toNatClampNeg (some t) j).map ad) = va_up (fun j => (ρ r j).map ad) i.toNatClampNeg (some (ad t)) := by
    funext j
    by_cases h : j = i.toNatClampNeg
    · rw [h, va_up_self, va_up_self]; rfl
    · rw [va_up_ne _ _ h, va_up_ne _ _ h]
  have hcel : cel Y ad (K r) (len r) (σ r) (r2 ρ r i.toNatClampNeg (some t) r) = .inl (Y.2.2.2.1, n, .inr (.inr (.inr (.inr (va_up (fun j => (ρ r j).map ad) i.toNatClampNeg (some (ad t))))))) := by
    rw [hk, hn, r2_eq]
    show Sum.inl (Y.2.2.2.1, n, _) = _
    rw [← hf]
  obtain ⟨⟨hx, hb, hml, hown, hts⟩, -, -, hK, hI, hZ⟩ := C
  subst e1
  have go : ∀ (q : vw_C) (ci : Nat) (vs : List Value), (wl N ad (cf Y ad K len σ ρ))[t]? = some (ad t, .inr (ci, vs)) → vwCl[ci]? = some q → va_Nw (.castable q.1 "CutCrooked$Cutter") s → W p l e R s m args below meth c H locs cells slots Q (F0 m pc ls (.ref (ad t) :: .int i :: .ref (ad r) :: rest)) := fun q ci vs h1 h2 h3 =>
    va_astqO (ws := wl N ad (cf Y ad K len σ ρ)) (cA := Y.2.2.2.1) (E := "CutCrooked$Cutter") (r := q) (n := n) (f := fun j => (ρ r j).map ad) (vs := vs) hx hb hK hP (WD hI) hS r 3 t ci (by rw [cf_at hr hk, hn]; rfl) rfl h3 h1 h2 (inb_in hin) hdg
      (fun H1 locs1 hP1 _ hS1 => kk H1 locs1 (WP_set hr hP1 hcel (fun _ _ => rfl) r2_ne) hS1)
  rcases isCk_or hkt with h | h | h | h | h | h | h
  · exact va_astq (ws := wl N ad (cf Y ad K len σ ρ)) (cA := Y.2.2.2.1) (r := (RX1, TX1, 6)) (n := n) (f := fun j => (ρ r j).map ad) (vs := flds ad 1 (σ t) (ρ t)) hx hb hK hP (WD hI) hS r 3 t 1 (by rw [cf_at hr hk, hn]; rfl) rfl (by rw [cf_at ht h]; rfl) rfl (inb_in hin) hdg
      (fun H1 locs1 hP1 _ hS1 => kk H1 locs1 (WP_set hr hP1 hcel (fun _ _ => rfl) r2_ne) hS1)
  · exact go (RX2, TX2, 6) 2 (flds ad 2 (σ t) (ρ t)) (by rw [cf_at ht h]; rfl) rfl (hZ.1.2.1 ("CutCrooked$Follow", "CutCrooked$Cutter") (by decide +kernel))
  · exact go (RX4, TX4, 6) 4 (flds ad 4 (σ t) (ρ t)) (by rw [cf_at ht h]; rfl) rfl (hZ.1.2.1 ("CutCrooked$Over", "CutCrooked$Cutter") (by decide +kernel))
  · exact go (RX5, TX5, 6) 5 (flds ad 5 (σ t) (ρ t)) (by rw [cf_at ht h]; rfl) rfl (hZ.1.2.1 ("CutCrooked$Righting", "CutCrooked$Cutter") (by decide +kernel))
  · exact go (RX6, TX6, 6) 6 (flds ad 6 (σ t) (ρ t)) (by rw [cf_at ht h]; rfl) rfl (hZ.1.2.1 ("CutCrooked$Slant", "CutCrooked$Cutter") (by decide +kernel))
  · exact go (RX7, TX7, 6) 7 (flds ad 7 (σ t) (ρ t)) (by rw [cf_at ht h]; rfl) rfl (hZ.1.2.1 ("CutCrooked$Straight", "CutCrooked$Cutter") (by decide +kernel))
  · exact go (RX9, TX9, 7) 9 (flds ad 9 (σ t) (ρ t)) (by rw [cf_at ht h]; rfl) rfl (hZ.1.2.1 ("CutCrooked$Told", "CutCrooked$Cutter") (by decide +kernel))
theorem x_cret {N0 : Nat} {ad0 : Nat → Nat} (hret : ret = none) (hE : ∀ r, r < N0 → ad r = ad0 r) (hAA : AA N ad s.heap.size = AA N0 ad0 s.heap.size) (C : Cx Y D N ad p s m args meth c cc nL ret own Ts) (hP : WP Y D N ad K len σ ρ H) (hS : va_S (AA N ad s.heap.size) s.heap H locs) (hdg : decode cc pc = .ok (.return_, 1)) : W p l e R s m args below meth c H locs cells slots (MQ below (QC Y D N0 ad0 N K len σ ρ s.heap.size (fun _ => none)) args s cells slots (AA N0 ad0 s.heap.size)) (F0 m pc ls []) := by
  obtain ⟨⟨hx, hb, hml, hown, hts⟩, hrt, hlocks, hK, hI, hZ⟩ := C
  subst hret
  rw [hAA] at hS
  exact W.vret hx hb hrt (fun t ht hW => ⟨⟨ad, hE, hAA, rfl, by rw [ht]; exact hP, va_K.moved hW.alike hK, hI⟩, hS.F ht⟩) hS.2.2 hdg hlocks
theorem x_aretC {N0 : Nat} {ad0 : Nat → Nat} {t : Nat} {cn : String} (hret : ret = some (.object cn)) (hE : ∀ r, r < N0 → ad r = ad0 r) (hAA : AA N ad s.heap.size = AA N0 ad0 s.heap.size) (C : Cx Y D N ad p s m args meth c cc nL ret own Ts) (hP : WP Y D N ad K len σ ρ H) (hS : va_S (AA N ad s.heap.size) s.heap H locs) (hdg : decode cc pc = .ok (.areturn, 1)) : W p l e R s m args below meth c H locs cells slots (MQ below (QC Y D N0 ad0 N K len σ ρ s.heap.size (fun z => some (.ref (z t)))) args s cells slots (AA N0 ad0 s.heap.size)) (F0 m pc ls [.ref (ad t)]) := by
  obtain ⟨⟨hx, hb, hml, hown, hts⟩, hrt, hlocks, hK, hI, hZ⟩ := C
  subst hret
  rw [hAA] at hS
  exact W.aret hx hb hrt (Or.inl ⟨_, rfl⟩) (Or.inr ⟨_, rfl⟩) (fun q ht hW => ⟨⟨ad, hE, hAA, rfl, by rw [ht]; exact hP, va_K.moved hW.alike hK, hI⟩, hS.F ht⟩) hS.2.2 hdg hlocks
theorem x_iretC {N0 : Nat} {ad0 : Nat → Nat} {v : Int32} (hret : ret = some .int) (hE : ∀ r, r < N0 → ad r = ad0 r) (hAA : AA N ad s.heap.size = AA N0 ad0 s.heap.size) (C : Cx Y D N ad p s m args meth c cc nL ret own Ts) (hP : WP Y D N ad K len σ ρ H) (hS : va_S (AA N ad s.heap.size) s.heap H locs) (hdg : decode cc pc = .ok (.ireturn, 1)) : W p l e R s m args below meth c H locs cells slots (MQ below (QC Y D N0 ad0 N K len σ ρ s.heap.size (fun _ => some (.int v))) args s cells slots (AA N0 ad0 s.heap.size)) (F0 m pc ls [.int v]) := by
  obtain ⟨⟨hx, hb, hml, hown, hts⟩, hrt, hlocks, hK, hI, hZ⟩ := C
  subst hret
  rw [hAA] at hS
  exact W.iret hx hb hrt (fun q ht hW => ⟨⟨ad, hE, hAA, rfl, by rw [ht]; exact hP, va_K.moved hW.alike hK, hI⟩, hS.F ht⟩) hS.2.2 hdg hlocks
/-- the state of ids not made yet may be thought as one likes -/
theorem WP_like {K1 len1 : Nat → Nat} (h : WP Y D N ad K len σ ρ H) (hk : ∀ r, r < N → K1 r = K r) (hl : ∀ r, r < N → len1 r = len r) (hs : ∀ r, r < N → σ1 r = σ r) (hr : ∀ r, r < N → ρ1 r = ρ r) : WP Y D N ad K1 len1 σ1 ρ1 H := by
  have e1 : wl N ad (cf Y ad K len σ ρ) = wl N ad (cf Y ad K1 len1 σ1 ρ1) := by
    unfold wl
    apply List.map_congr_left
    intro r hr'
    have hr' : r < N := List.mem_range.mp hr'
    unfold cf
    rw [hk r hr', hl r hr', hs r hr', hr r hr']
  unfold WP at h ⊢
  rw [← e1]
  exact h
theorem x_callIM {y : MethodName} {ws : List Cond} {rm : Room} {bytes : ByteArray} {maxL n index b : Nat} {av : List Value} {st0 : List Value} (C : Cx Y D N ad p s m args meth c cc nL ret own Ts) (hP : WP Y D N ad K len σ ρ H) (hS : va_S (AA N ad s.heap.size) s.heap H locs) (hM : MT l Y D N ad K len y ws rm (.ref (ad b) :: av) σ ρ none σ1 ρ1)
    (cw : CallB R s args own index y bytes maxL none ws rm 0 0 n ∧ y.name = "<init>" ∧ (Cond.instanceMethod y).before args s = true) (hn : av.length = n) (hst : st0 = av.reverse ++ .ref (ad b) :: rest) (hls : ls.size = nL) (hW : (rest.map fun v => v.category).sum ≤ 8) (hf : cells ≤ R.cells ∧ slots ≤ R.slots) (hdg : decode cc pc = .ok (.invokespecial index, 3))
    (kk : ∀ (H1 : Heap) (locs1 : List Loc), WP Y D N ad K len σ1 ρ1 H1 → va_S (AA N ad s.heap.size) s.heap H1 locs1 → W p l e R s m args below meth c H1 locs1 cells slots Q (F0 m (pc + 3) ls rest)) : W p l e R s m args below meth c H locs cells slots Q (F0 m pc ls st0) :=
  x_go (y := y) (rm := rm) C hS (va_runI (g := F0 m pc ls st0) C.1 (hM H.size) cw ⟨PW_blind, x_pre C hP hS⟩ rfl hn hls hst (lv_room hW) hdg hf) kk
theorem x_callSC {N1 mc ms : Nat} {K1 len1 : Nat → Nat} {y : MethodName} {ws : List Cond} {rm : Room} {bytes : ByteArray} {maxL n index : Nat} {rt : Option FieldType} {av : List Value} {res : (Nat → Nat) → Option Value} {st0 : List Value} (C : Cx Y D N ad p s m args meth c cc nL ret own Ts) (hP : WP Y D N ad K len σ ρ H) (hS : va_S (AA N ad s.heap.size) s.heap H locs) (hM : MC l Y D N ad K len y ws rm av σ ρ res N1 K1 len1 σ1 ρ1 mc ms)
    (cw : CallB R s args own index y bytes maxL rt ws rm mc ms n ∧ (Cond.static y).before args s = true) (hn : av.length = n) (hst : st0 = av.reverse ++ rest) (hls : ls.size = nL) (hW : (rest.map fun v => v.category).sum ≤ 8) (hf : cells + mc ≤ R.cells ∧ slots + ms ≤ R.slots) (hdg : decode cc pc = .ok (.invokestatic index, 3))
    (kk : ∀ (ad1 : Nat → Nat) (H1 : Heap) (locs1 : List Loc), (∀ r, r < N → ad1 r = ad r) → AA N1 ad1 s.heap.size = AA N ad s.heap.size → Cx Y D N1 ad1 p s m args meth c cc nL ret own Ts → WP Y D N1 ad1 K1 len1 σ1 ρ1 H1 → va_S (AA N1 ad1 s.heap.size) s.heap H1 locs1 → W p l e R s m args below meth c H1 locs1 (cells + mc) (slots + ms) Q (F0 m (pc + 3) ls ((res ad1).toList ++ rest))) : W p l e R s m args below meth c H locs cells slots Q (F0 m pc ls st0) :=
  x_goC C hS (va_runS (g := F0 m pc ls st0) C.1 (hM H.size) cw ⟨PW_blind, x_pre C hP hS⟩ rfl hn hls hst (lv_room hW) hdg hf) kk
theorem x_callVC {N1 mc ms : Nat} {K1 len1 : Nat → Nat} {y : MethodName} {ws : List Cond} {rm : Room} {bytes : ByteArray} {maxL n index : Nat} {rt : Option FieldType} {av : List Value} {res : (Nat → Nat) → Option Value} {st0 : List Value} {b ci : Nat} {Cn : String} {T : u_T} {Nf : Nat} (hc : vwCl[ci]? = some (Cn, T, Nf)) (h13 : Nat.blt ci 13 = true) (C : Cx Y D N ad p s m args meth c cc nL ret own Ts) (hP : WP Y D N ad K len σ ρ H) (hS : va_S (AA N ad s.heap.size) s.heap H locs) (hM : MC l Y D N ad K len y ws rm (.ref (ad b) :: av) σ ρ res N1 K1 len1 σ1 ρ1 mc ms)
    (hr : b < N) (hk : K b = ci) (cw : CallW R s args own Cn index y bytes maxL rt ws rm mc ms n) (hn : av.length = n) (hst : st0 = av.reverse ++ .ref (ad b) :: rest) (hls : ls.size = nL) (hW : (rest.map fun v => v.category).sum ≤ 8) (hf : cells + mc ≤ R.cells ∧ slots + ms ≤ R.slots) (hdg : decode cc pc = .ok (.invokevirtual index, 3))
    (kk : ∀ (ad1 : Nat → Nat) (H1 : Heap) (locs1 : List Loc), (∀ r, r < N → ad1 r = ad r) → AA N1 ad1 s.heap.size = AA N ad s.heap.size → Cx Y D N1 ad1 p s m args meth c cc nL ret own Ts → WP Y D N1 ad1 K1 len1 σ1 ρ1 H1 → va_S (AA N1 ad1 s.heap.size) s.heap H1 locs1 → W p l e R s m args below meth c H1 locs1 (cells + mc) (slots + ms) Q (F0 m (pc + 3) ls ((res ad1).toList ++ rest))) : W p l e R s m args below meth c H locs cells slots Q (F0 m pc ls st0) := by
  have he : (wl N ad (cf Y ad K len σ ρ))[b]? = some (ad b, .inr (ci, flds ad ci (σ b) (ρ b))) := by
    rw [cf_at hr hk]
    unfold cel
    rw [h13]
    rfl
  exact x_goC C hS (va_runV (g := F0 m pc ls st0) C.1 (hM H.size) cw ⟨PW_blind, va_recv C.2.2.2.1 hP hc he, x_pre C hP hS⟩ rfl hn hls hst (lv_room hW) hdg hf) kk
theorem x_nest {own : String} {idx : Nat} {y : MethodName} {host : String} (C : Cx Y D N ad p s m args meth c cc nL ret own Ts) (h : (own, idx, y, host) ∈ nwM) : va_Nw (.methodLinkNest own idx y host) s := C.2.2.2.2.2.1.1 _ h
theorem x_obj {index : Nat} {own : String} (C : Cx Y D N ad p s m args meth c cc nL ret own Ts) (hls : ls.size = nL) (w1 : Cond.methodLink own index objectInit ∈ Ts) (w2 : Cond.instanceMethod objectInit ∈ Ts) (w3 : Cond.code objectInit ⟨#[0xb1]⟩ 1 none ∈ Ts) {a : Nat} (hdg : decode cc pc = .ok (.invokespecial index, 3)) (hfr : 1 ≤ R.frames) (hlo : (rest.map fun v => v.category).sum + 12 ≤ R.locals)
    (kk : W p l e R s m args below meth c H locs cells slots Q (F0 m (pc + 3) ls rest)) : W p l e R s m args below meth c H locs cells slots Q (F0 m pc ls (.ref a :: rest)) := by
  obtain ⟨⟨hx, hb, hml, hown, hts⟩, hrt, hlocks, hK, hI, hZ⟩ := C
  refine W.objInit hx hb hown (hts _ w1) (hts _ w2) (hts _ w3) rfl (by rw [hml]; exact hls) rfl hdg hfr ?_ kk
  have h0 : 2 * (F0 m pc ls (Value.ref a :: rest)).monitorRoom = 0 := rfl
  omega
end ALLOC
theorem mc_of {l : Launch} {Y : YT} {D : va_G} {N : Nat} {ad K len : Nat → Nat} {y : MethodName} {rm : Room} {av : List Value} {σ σ1 : SG} {ρ ρ1 : RG} {res : (Nat → Nat) → Option Value} {cc : ByteArray} {nL : Nat} {ret : Option FieldType} {N1 mc ms : Nat} {K1 len1 : Nat → Nat} (hy : plainName y.cls = true) (hL : (lg_sl av).length ≤ nL)
    (body : ∀ (p : Program) (e : Env) (s : State) (m : MethodId) (args : Array Value) (below : List Frame) (meth : Method) (c : Code) (ls : Array Slot), Cx Y D N ad p s m args meth c cc nL ret y.cls wsL_law → meth.name = y.name → WP Y D N ad K len σ ρ s.heap → va_S (AA N ad s.heap.size) s.heap s.heap [] → lv_has ls nL (lv_args 0 av) →
      W p l e rm s m args below meth c s.heap [] 0 0 (MQ below (QC Y D N ad N1 K1 len1 σ1 ρ1 s.heap.size res) args s mc ms (AA N ad s.heap.size)) (F0 m 0 ls [])) : MC l Y D N ad K len y (Cond.code y cc nL ret :: wsL_law) rm av σ ρ res N1 K1 len1 σ1 ρ1 mc ms := by
  intro sz
  refine Met.ofW (cc := cc) (maxL := nL) (ret := ret) hy rfl ?_
  intro p e s m args below meth c s₁ B hml hv
  obtain ⟨rfl, hsz, hP, hK, hI, hZ⟩ := hv
  have hts := atoms_spec (ws := Cond.code y cc nL ret :: wsL_law) B.pre
  have hown : s.vm.findClass y.cls = some m.cls := findClass_of_methodNamed B.named
  have hin : meth.name = y.name := (name_of_methodNamed B.named B.method).1
  subst hsz
  have hl := lv_entry av (n := nL) hL
  rw [lg_entry_eq]
  exact body p e s m _ below meth c _ ⟨⟨B.exec, B.bytes, hml, hown, fun w h => hts w (List.mem_cons_of_mem _ h)⟩, B.returns, B.notSynchronized, hK, hI, hZ⟩ hin hP va_S.rf hl
