/-! PART base: the world by ids: id r has the address ad r, the kind K r, the ints σ r, the references (ids) ρ r, the length len r -/
def inb (i : Int32) (n : Nat) : Bool := decide (0 ≤ i.toInt ∧ i.toInt < (n : Int))
theorem inb_in {i : Int32} {n : Nat} (h : inb i n = true) : vp_in i n := vp_in_iff.mpr (of_decide_eq_true h)
theorem in_inb {i : Int32} {n : Nat} (h : vp_in i n) : inb i n = true := decide_eq_true (vp_in_iff.mp h)
def isb (v : Int32) : Bool := v == 0 || v == 1
theorem isb_01 {v : Int32} (h : isb v = true) : v = 0 ∨ v = 1 := by
  unfold isb at h
  simpa using h
def gd {α : Type} (b : Bool) (x : Option α) : Option α := bif b then x else none
theorem gd_1 {α : Type} {b : Bool} {x : Option α} {y : α} (h : gd b x = some y) : b = true ∧ x = some y := by
  cases b
  · cases h
  · exact ⟨rfl, h⟩
def nm {α β : Type} (v : α) (f : α → β) : β := f v
theorem nm_1 {α β : Type} {v : α} {f : α → Option β} {y : β} (h : nm v f = some y) : ∃ x, x = v ∧ f x = some y := ⟨v, rfl, h⟩
def bn {α β : Type} (o : Option α) (f : α → Option β) : Option β := o.bind f
theorem bn_1 {α β : Type} {o : Option α} {f : α → Option β} {y : β} (h : bn o f = some y) : ∃ x, o = some x ∧ f x = some y := by
  cases o with
  | none => cases h
  | some x => exact ⟨x, rfl, h⟩
def bn2 {α β γ : Type} (o : Option (α × β)) (f : α → β → Option γ) : Option γ := o.bind (fun q => f q.1 q.2)
theorem bn2_1 {α β γ : Type} {o : Option (α × β)} {f : α → β → Option γ} {y : γ} (h : bn2 o f = some y) : ∃ a b, o = some (a, b) ∧ f a b = some y := by
  cases o with
  | none => cases h
  | some x => exact ⟨x.1, x.2, rfl, h⟩
def oc {β : Type} (x : Option Nat) (a : Option β) (f : Nat → Option β) : Option β := match x with
  | none => a
  | some i => f i
theorem oc_n {β : Type} {x : Option Nat} {a : Option β} {f : Nat → Option β} {y : β} (h : oc x a f = some y) (hx : x = none) : a = some y := by subst hx; exact h
theorem oc_s {β : Type} {x : Option Nat} {a : Option β} {f : Nat → Option β} {y : β} (h : oc x a f = some y) {i : Nat} (hx : x = some i) : f i = some y := by subst hx; exact h
theorem ite_t {α : Type} {c : Prop} {inst : Decidable c} {a b : Option α} {y : α} (h : (@ite _ c inst a b) = some y) (hc : c) : a = some y := by rwa [if_pos hc] at h
theorem ite_f {α : Type} {c : Prop} {inst : Decidable c} {a b : Option α} {y : α} (h : (@ite _ c inst a b) = some y) (hc : ¬ c) : b = some y := by rwa [if_neg hc] at h
theorem ret_1 {α : Type} {a b : α} (h : some a = some b) : b = a := (Option.some.inj h).symm
theorem ret_2 {α β : Type} {a c : α} {b d : β} (h : some (a, b) = some (c, d)) : c = a ∧ d = b := by cases h; exact ⟨rfl, rfl⟩
/-- a switch's values -/
theorem sw_out {x : Int32} {lo hi : Int} (h : ∀ k : Int, lo ≤ k → k ≤ hi → x ≠ Int32.ofInt k) : x.toInt < lo ∨ hi < x.toInt := by
  by_cases h1 : x.toInt < lo
  · exact Or.inl h1
  · by_cases h2 : hi < x.toInt
    · exact Or.inr h2
    · exact absurd (Int32.ofInt_toInt x).symm (h x.toInt (by omega) (by omega))
/-- the list of cells of N ids -/
def wl (N : Nat) (ad : Nat → Nat) (f : Nat → va_E) : va_W := (List.range N).map (fun r => (ad r, f r))
theorem wl_at {N : Nat} {ad : Nat → Nat} {f : Nat → va_E} {r : Nat} (h : r < N) : (wl N ad f)[r]? = some (ad r, f r) := by
  simp [wl, h]
theorem wl_lt {N : Nat} {ad : Nat → Nat} {f : Nat → va_E} {r : Nat} {q : Nat × va_E} (h : (wl N ad f)[r]? = some q) : r < N ∧ q = (ad r, f r) := by
  have h1 : r < N := by
    have := (List.getElem?_eq_some_iff.mp h).1
    simpa [wl] using this
  rw [wl_at h1] at h
  exact ⟨h1, (Option.some.inj h).symm⟩
theorem wl_set {N : Nat} {ad : Nat → Nat} {f : Nat → va_E} {r : Nat} {e : va_E} (hr : r < N) : (wl N ad f).set r (ad r, e) = wl N ad (va_up f r e) := by
  apply List.ext_getElem?
  intro i
  rw [List.getElem?_set]
  by_cases hi : i < N
  · rw [wl_at hi]
    by_cases h : r = i
    · subst h
      rw [if_pos rfl, if_pos (by simpa [wl] using hi), wl_at hi, va_up_self]
    · rw [if_neg h, wl_at hi, va_up_ne _ _ (fun q => h q.symm)]
  · have h1 : ∀ g : Nat → va_E, (wl N ad g)[i]? = none := fun g => by
      rw [List.getElem?_eq_none_iff]
      simpa [wl] using hi
    rw [h1, h1, if_neg (fun q : r = i => hi (q ▸ hr))]
theorem wl_push {N : Nat} {ad : Nat → Nat} {f : Nat → va_E} {q : Nat} {e : va_E} : wl N ad f ++ [(q, e)] = wl (N + 1) (va_up ad N q) (va_up f N e) := by
  unfold wl
  rw [List.range_succ, List.map_append]
  congr 1
  · apply List.map_congr_left
    intro a ha
    have h : a < N := List.mem_range.mp ha
    rw [va_up_ne _ _ (Nat.ne_of_lt h), va_up_ne _ _ (Nat.ne_of_lt h)]
  · simp [va_up_self]
def AA (N : Nat) (ad : Nat → Nat) (sz : Nat) : Nat → Prop := fun q => (∃ r, r < N ∧ ad r = q) ∨ sz ≤ q
theorem AA_new {N : Nat} {ad : Nat → Nat} {sz : Nat} : ∀ q : Nat, sz ≤ q → AA N ad sz q := fun _ h => Or.inr h
theorem AA_mono {N : Nat} {ad : Nat → Nat} {a b : Nat} (h : a ≤ b) (q : Nat) (hq : AA N ad b q) : AA N ad a q := hq.elim Or.inl (fun x => Or.inr (Nat.le_trans h x))
def inj (N : Nat) (ad : Nat → Nat) : Prop := ∀ i j : Nat, i < N → j < N → ad i = ad j → i = j
theorem WD {N : Nat} {ad : Nat → Nat} {f : Nat → va_E} {sz : Nat} (hI : inj N ad) : va_D (AA N ad sz) (wl N ad f) := by
  refine ⟨fun i j p q hi hj e => ?_, fun k q hk => ?_⟩
  · obtain ⟨a1, rfl⟩ := wl_lt hi
    obtain ⟨a2, rfl⟩ := wl_lt hj
    exact hI i j a1 a2 e
  · obtain ⟨a1, rfl⟩ := wl_lt hk
    exact Or.inl ⟨k, a1, rfl⟩
def rf (ad : Nat → Nat) (x : Option Nat) : Value := va_rf (x.map ad)
def fC (g : Nat → Int32) : List Value := [.int (g 0), .int (g 1), .int (g 2), .int (g 3), .int (g 4), .int (g 5)]
def flds (ad : Nat → Nat) (k : Nat) (g : Nat → Int32) (h : Nat → Option Nat) : List Value := match k with
  | 0 => [.int (g 0), .int (g 1), .int (g 2), rf ad (h 3), rf ad (h 4), rf ad (h 5), rf ad (h 6), .int (g 7), rf ad (h 8), .int (g 9), .int (g 10), .int (g 11)]
  | 1 => fC g
  | 2 => fC g
  | 3 => [.int (g 0), .int (g 1), .int (g 2), .int (g 3), .int (g 4), .int (g 5), .int (g 6), .int (g 7), .int (g 8), rf ad (h 9)]
  | 4 => fC g
  | 5 => fC g
  | 6 => fC g
  | 7 => fC g
  | 8 => [rf ad (h 0), .int (g 1), rf ad (h 2), rf ad (h 3), .int (g 4), rf ad (h 5), .int (g 6), .int (g 7), .int (g 8), rf ad (h 9), .int (g 10), rf ad (h 11), rf ad (h 12), .int (g 13)]
  | 9 => [.int (g 0), .int (g 1), .int (g 2), .int (g 3), .int (g 4), .int (g 5), rf ad (h 6)]
  | 10 => [rf ad (h 0), .int (g 1)]
  | 11 => [rf ad (h 0), rf ad (h 1), .int (g 2), rf ad (h 3), rf ad (h 4), rf ad (h 5), rf ad (h 6), rf ad (h 7), .int (g 8), .int (g 9), .int (g 10), rf ad (h 11), rf ad (h 12), .int (g 13), .int (g 14)]
  | _ => [.int (g 0), rf ad (h 1), rf ad (h 2), rf ad (h 3), .int (g 4), .int (g 5), .int (g 6), .int (g 7), .int (g 8), .int (g 9), rf ad (h 10), rf ad (h 11), .int (g 12), .int (g 13), .int (g 14), .int (g 15), .int (g 16), .int (g 17), .int (g 18), .int (g 19), .int (g 20), .int (g 21), rf ad (h 22), rf ad (h 23), rf ad (h 24), .int (g 25), .int (g 26), rf ad (h 27), .int (g 28), rf ad (h 29), .int (g 30), .int (g 31), .int (g 32), .int (g 33)]
abbrev YT : Type := ClassId × ClassId × ClassId × ClassId × ClassId × (Nat → Nat) × (Nat → Nat)
def tysY (Y : YT) : List (ClassId × FieldType) := [(Y.1, .byte), (Y.2.1, .int), (Y.2.2.1, .boolean), (Y.2.2.2.1, .object "CutCrooked$Cutter"), (Y.2.2.2.2.1, .object "CutCrooked$Loaf")]
def cel (Y : YT) (ad : Nat → Nat) (k n : Nat) (g : Nat → Int32) (h : Nat → Option Nat) : va_E :=
  bif Nat.blt k 13 then .inr (k, flds ad k g h) else match k with
  | 13 => .inl (Y.1, n, .inl g)
  | 14 => .inl (Y.2.1, n, .inl g)
  | 15 => .inl (Y.2.2.1, n, .inl g)
  | 16 => .inl (Y.2.2.2.1, n, .inr (.inr (.inr (.inr (fun j => (h j).map ad)))))
  | _ => .inl (Y.2.2.2.2.1, n, .inr (.inr (.inr (.inr (fun j => (h j).map ad)))))
def cf (Y : YT) (ad : Nat → Nat) (K : Nat → Nat) (len : Nat → Nat) (σ : Nat → Nat → Int32) (ρ : Nat → Nat → Option Nat) : Nat → va_E := fun r => cel Y ad (K r) (len r) (σ r) (ρ r)
def WP (Y : YT) (D : va_G) (N : Nat) (ad K len : Nat → Nat) (σ : Nat → Nat → Int32) (ρ : Nat → Nat → Option Nat) (H : Heap) : Prop := va_P D vwCl (wl N ad (cf Y ad K len σ ρ)) H
def s2 (σ : Nat → Nat → Int32) (r k : Nat) (v : Int32) : Nat → Nat → Int32 := va_up σ r (upd (σ r) k v)
theorem s2_at (σ : Nat → Nat → Int32) (r k : Nat) (v : Int32) (a b : Nat) : s2 σ r k v a b = if a = r then (if b = k then v else σ r b) else σ a b := by
  unfold s2 va_up upd
  by_cases h : a = r <;> simp [h]
def r2 (ρ : Nat → Nat → Option Nat) (r k : Nat) (v : Option Nat) : Nat → Nat → Option Nat := va_up ρ r (va_up (ρ r) k v)
theorem r2_at (ρ : Nat → Nat → Option Nat) (r k : Nat) (v : Option Nat) (a b : Nat) : r2 ρ r k v a b = if a = r then (if b = k then v else ρ r b) else ρ a b := by
  unfold r2 va_up
  by_cases h : a = r <;> simp [h]
theorem cf_at {Y : YT} {N : Nat} {ad K len : Nat → Nat} {σ : Nat → Nat → Int32} {ρ : Nat → Nat → Option Nat} {r k : Nat} (hr : r < N) (hk : K r = k) : (wl N ad (cf Y ad K len σ ρ))[r]? = some (ad r, cel Y ad k (len r) (σ r) (ρ r)) := by
  rw [wl_at hr]
  unfold cf
  rw [hk]
theorem WP_set {Y : YT} {D : va_G} {N : Nat} {ad K len : Nat → Nat} {σ σ1 : Nat → Nat → Int32} {ρ ρ1 : Nat → Nat → Option Nat} {H : Heap} {r : Nat} {e : va_E} (hr : r < N) (h : va_P D vwCl ((wl N ad (cf Y ad K len σ ρ)).set r (ad r, e)) H) (he : cel Y ad (K r) (len r) (σ1 r) (ρ1 r) = e) (h1 : ∀ q, q ≠ r → σ1 q = σ q) (h2 : ∀ q, q ≠ r → ρ1 q = ρ q) : WP Y D N ad K len σ1 ρ1 H := by
  rw [wl_set hr] at h
  have e1 : va_up (cf Y ad K len σ ρ) r e = cf Y ad K len σ1 ρ1 := by
    funext q
    by_cases hq : q = r
    · subst hq
      rw [va_up_self]
      exact he.symm
    · rw [va_up_ne _ _ hq]
      unfold cf
      rw [h1 q hq, h2 q hq]
  rw [e1] at h
  exact h
theorem s2_ne {σ : Nat → Nat → Int32} {r k : Nat} {v : Int32} (q : Nat) (h : q ≠ r) : s2 σ r k v q = σ q := va_up_ne _ _ h
theorem s2_eq {σ : Nat → Nat → Int32} {r k : Nat} {v : Int32} : s2 σ r k v r = upd (σ r) k v := va_up_self _ _ _
theorem r2_ne {ρ : Nat → Nat → Option Nat} {r k : Nat} {v : Option Nat} (q : Nat) (h : q ≠ r) : r2 ρ r k v q = ρ q := va_up_ne _ _ h
theorem r2_eq {ρ : Nat → Nat → Option Nat} {r k : Nat} {v : Option Nat} : r2 ρ r k v r = va_up (ρ r) k v := va_up_self _ _ _
/-- what the tables say of nest mates, casts and arrays of references: it stays -/
def nwM : List (String × Nat × MethodName × String) := [("CutCrooked", 23, yX10_init, "CutCrooked"), ("CutCrooked", 30, yX0_init, "CutCrooked"), ("CutCrooked", 48, yX3_init, "CutCrooked"), ("CutCrooked$Board", 52, yX11_valueAt, "CutCrooked"), ("CutCrooked$Cutter", 42, yX11_newCutter, "CutCrooked"), ("CutCrooked$Table", 19, yX3_init, "CutCrooked"), ("CutCrooked$Table", 26, yX0_init, "CutCrooked"), ("CutCrooked$Told", 24, yX11_valueAt, "CutCrooked")]
def nwC : List (String × String) := [("CutCrooked$Follow", "CutCrooked$Cutter"), ("CutCrooked$Over", "CutCrooked$Cutter"), ("CutCrooked$Over", "CutCrooked$Slant"), ("CutCrooked$Righting", "CutCrooked$Cutter"), ("CutCrooked$Righting", "CutCrooked$Straight"), ("CutCrooked$Slant", "CutCrooked$Cutter"), ("CutCrooked$Straight", "CutCrooked$Cutter"), ("CutCrooked$Told", "CutCrooked$Cutter"), ("CutCrooked$Told", "CutCrooked$Follow")]
def nwN : List (String × String) := [("CutCrooked$Cutter", "CutCrooked$Follow"), ("CutCrooked$Cutter", "CutCrooked$Over"), ("CutCrooked$Cutter", "CutCrooked$Righting"), ("CutCrooked$Cutter", "CutCrooked$Slant"), ("CutCrooked$Cutter", "CutCrooked$Straight"), ("CutCrooked$Cutter", "CutCrooked$Told"), ("CutCrooked$Follow", "CutCrooked$Over"), ("CutCrooked$Follow", "CutCrooked$Righting"), ("CutCrooked$Follow", "CutCrooked$Slant"), ("CutCrooked$Follow", "CutCrooked$Straight"), ("CutCrooked$Follow", "CutCrooked$Told"), ("CutCrooked$Over", "CutCrooked$Follow"), ("CutCrooked$Over", "CutCrooked$Righting"), ("CutCrooked$Over", "CutCrooked$Straight"), ("CutCrooked$Over", "CutCrooked$Told"), ("CutCrooked$Righting", "CutCrooked$Follow"), ("CutCrooked$Righting", "CutCrooked$Over"), ("CutCrooked$Righting", "CutCrooked$Slant"), ("CutCrooked$Righting", "CutCrooked$Told"), ("CutCrooked$Slant", "CutCrooked$Follow"), ("CutCrooked$Slant", "CutCrooked$Over"), ("CutCrooked$Slant", "CutCrooked$Righting"), ("CutCrooked$Slant", "CutCrooked$Straight"), ("CutCrooked$Slant", "CutCrooked$Told"), ("CutCrooked$Straight", "CutCrooked$Follow"), ("CutCrooked$Straight", "CutCrooked$Over"), ("CutCrooked$Straight", "CutCrooked$Righting"), ("CutCrooked$Straight", "CutCrooked$Slant"), ("CutCrooked$Straight", "CutCrooked$Told"), ("CutCrooked$Told", "CutCrooked$Over"), ("CutCrooked$Told", "CutCrooked$Righting"), ("CutCrooked$Told", "CutCrooked$Slant"), ("CutCrooked$Told", "CutCrooked$Straight")]
def NZ (U : State) : Prop := (∀ q ∈ nwM, va_Nw (.methodLinkNest q.1 q.2.1 q.2.2.1 q.2.2.2) U) ∧ (∀ q ∈ nwC, va_Nw (.castable q.1 q.2) U) ∧ (∀ q ∈ nwN, va_Nc q.1 q.2 U) ∧ va_AO "CutCrooked$Cutter" U ∧ va_AO "CutCrooked$Loaf" U
theorem NZ_warm {s U : State} (hW : s.WarmedH U.vm) (h : NZ s) : NZ U :=
  ⟨fun q hq => va_Nw.warmM hW (h.1 q hq), fun q hq => va_Nw.warmC hW (h.2.1 q hq), fun q hq => va_Nc.moved hW.alike (h.2.2.1 q hq), va_AO.moved hW.alike h.2.2.2.1, va_AO.moved hW.alike h.2.2.2.2⟩
theorem NZ_same {s U : State} (hv : s.vm = U.vm) (h : NZ s) : NZ U := by
  have hA : s.vm.Alike U.vm := hv ▸ Vm.Alike.refl s.vm
  exact ⟨fun q hq => va_Nw.same rfl hv (h.1 q hq), fun q hq => va_Nw.same rfl hv (h.2.1 q hq), fun q hq => va_Nc.moved hA (h.2.2.1 q hq), va_AO.moved hA h.2.2.2.1, va_AO.moved hA h.2.2.2.2⟩
/-- the six texts: "thin ", "end ", "slip ", "pull ", "cktuls", "<=>" -/
def sLen : List Nat := [5, 4, 5, 5, 6, 3]
def sByt : List (List Int32) := [[116, 104, 105, 110, 32], [101, 110, 100, 32], [115, 108, 105, 112, 32], [112, 117, 108, 108, 32], [99, 107, 116, 117, 108, 115], [60, 61, 62]]
def scL : List (String × Nat × String × Nat) := [("CutCrooked$Board", 78, "thin ", 0), ("CutCrooked$Board", 90, "end ", 1), ("CutCrooked$Board", 92, "slip ", 2), ("CutCrooked$Board", 98, "pull ", 3), ("CutCrooked$Board", 116, "cktuls", 4), ("CutCrooked$Board", 124, "<=>", 5), ("CutCrookedModel", 111, "thin ", 0), ("CutCrookedModel", 117, "end ", 1), ("CutCrookedModel", 119, "slip ", 2), ("CutCrookedModel", 124, "pull ", 3), ("CutCrookedModel", 93, "cktuls", 4), ("CutCrookedModel", 99, "<=>", 5)]
abbrev saK (Y : YT) : Nat → Nat := Y.2.2.2.2.2.1
abbrev saV (Y : YT) : Nat → Nat := Y.2.2.2.2.2.2
/-- super calls whose body stands in a class further up -/
def nwW : List Cond := [.methodLink "CutCrooked$Over" 19 ⟨"CutCrooked$Slant", "cuts", "(ILCutCrooked$Trace;)I"⟩, .sameMethod "CutCrooked$Slant" "CutCrooked$Cutter" "cuts" "(ILCutCrooked$Trace;)I", .superclass "CutCrooked$Over" "CutCrooked$Slant", .superclass "CutCrooked$Slant" "CutCrooked$Cutter", .methodLink "CutCrooked$Righting" 19 ⟨"CutCrooked$Straight", "tells", "(ILCutCrooked$Trace;)I"⟩, .sameMethod "CutCrooked$Straight" "CutCrooked$Cutter" "tells" "(ILCutCrooked$Trace;)I", .superclass "CutCrooked$Righting" "CutCrooked$Straight", .superclass "CutCrooked$Straight" "CutCrooked$Cutter", .methodLink "CutCrooked$Told" 34 ⟨"CutCrooked$Follow", "eats", "(ILCutCrooked$Trace;)I"⟩, .sameMethod "CutCrooked$Follow" "CutCrooked$Cutter" "eats" "(ILCutCrooked$Trace;)I", .superclass "CutCrooked$Told" "CutCrooked$Follow", .superclass "CutCrooked$Follow" "CutCrooked$Cutter"]
theorem nwW_ok : ∀ w ∈ nwW, (w.onTables && w.keeps) = true := by
  intro w h
  simp only [nwW, List.mem_cons, List.not_mem_nil, or_false] at h
  rcases h with rfl | rfl | rfl | rfl | rfl | rfl | rfl | rfl | rfl | rfl | rfl | rfl <;> rfl
/-- the texts' constants, and String's one static that is read -/
def SZ (Y : YT) (N : Nat) (ad : Nat → Nat) (U : State) : Prop := vk_S 6 sLen sByt (saK Y) (saV Y) (AA N ad U.heap.size) U U.heap ∧ (∀ q ∈ scL, vk_R q.1 q.2.1 q.2.2.1 (saK Y q.2.2.2) U) ∧ va_Z "java/lang/String" "COMPACT_STRINGS" "Z" (.int 1) (AA N ad U.heap.size) U U.heap ∧ va_Zq "jdk/internal/util/Preconditions" "SIOOBE_FORMATTER" "Ljava/util/function/BiFunction;" (AA N ad U.heap.size) U U.heap ∧ ∀ w ∈ nwW, va_Nw w U
theorem SZ_go {Y : YT} {N : Nat} {ad : Nat → Nat} {s U : State} {locs : List Loc} (h : SZ Y N ad s) (hS : va_S (AA N ad s.heap.size) s.heap U.heap locs) (hW : s.WarmedH U.vm) : SZ Y N ad U := by
  have hA : ∀ q, AA N ad U.heap.size q → AA N ad s.heap.size q := AA_mono hS.1
  exact ⟨((h.1.moved hW.alike).kept hS.2.1).narrow hA, fun q hq => (h.2.1 q hq).warm hW, ((h.2.2.1.moved hW.alike).kept hS.2.1).narrow hA, ((h.2.2.2.1.moved hW.alike).kept hS.2.1).narrow hA, fun w hw => word_at hW (Or.inl (nwW_ok w hw)) (h.2.2.2.2 w hw)⟩
theorem SZ_AA {Y : YT} {N N1 : Nat} {ad ad1 : Nat → Nat} {s : State} (h : SZ Y N ad s) (hA : AA N1 ad1 s.heap.size = AA N ad s.heap.size) : SZ Y N1 ad1 s := by
  unfold SZ at h ⊢
  rw [hA]
  exact h
theorem SZ_same {Y : YT} {N : Nat} {ad : Nat → Nat} {s U : State} (hv : U.vm = s.vm) (hh : U.heap = s.heap) (h : SZ Y N ad s) : SZ Y N ad U := by
  have hA : s.vm.Alike U.vm := hv ▸ Vm.Alike.refl s.vm
  unfold SZ at h ⊢
  rw [hh]
  exact ⟨h.1.moved hA, fun q hq => (h.2.1 q hq).same hv, h.2.2.1.moved hA, h.2.2.2.1.moved hA, fun w hw => va_Nw.same (Bool.and_eq_true_iff.mp (nwW_ok w hw)).1 hv.symm (h.2.2.2.2 w hw)⟩
/-- what holds at each instruction of a method -/
def Cx (Y : YT) (D : va_G) (N : Nat) (ad : Nat → Nat) (p : Program) (s : State) (m : MethodId) (args : Array Value) (meth : Method) (c : Code) (cc : ByteArray) (nL : Nat) (ret : Option FieldType) (own : String) (Ts : List Cond) : Prop :=
  (p.tables.exec = Jvm.exec ∧ c.code = cc ∧ c.maxLocals = nL ∧ s.vm.findClass own = some m.cls ∧ ∀ w ∈ Ts, w.before args s = true) ∧ meth.sig.returnType = ret ∧ meth.locks = false ∧ va_K D vwCl (tysY Y) s ∧ inj N ad ∧ NZ s ∧ SZ Y N ad s
def PW (Y : YT) (D : va_G) (N : Nat) (ad K len : Nat → Nat) (σ : Nat → Nat → Int32) (ρ : Nat → Nat → Option Nat) (sz : Nat) (U : State) : Prop := U.heap.size = sz ∧ WP Y D N ad K len σ ρ U.heap ∧ va_K D vwCl (tysY Y) U ∧ inj N ad ∧ NZ U ∧ SZ Y N ad U
def QW (Y : YT) (D : va_G) (N : Nat) (ad K len : Nat → Nat) (σ : Nat → Nat → Int32) (ρ : Nat → Nat → Option Nat) (A : Nat → Prop) (res : Option Value) : Array Value → State → Outcome → State → Prop := fun _ st oc t => (oc = .returned res ∧ WP Y D N ad K len σ ρ t.heap ∧ va_K D vwCl (tysY Y) t) ∧ va_F A st t
def MT (l : Launch) (Y : YT) (D : va_G) (N : Nat) (ad K len : Nat → Nat) (y : MethodName) (ws : List Cond) (rm : Room) (av : List Value) (σ : Nat → Nat → Int32) (ρ : Nat → Nat → Option Nat) (res : Option Value) (σ1 : Nat → Nat → Int32) (ρ1 : Nat → Nat → Option Nat) : Prop :=
  ∀ sz : Nat, Met l y ws rm (va_Pc av (PW Y D N ad K len σ ρ sz)) (QW Y D N ad K len σ1 ρ1 (AA N ad sz) res) 0 0 (AA N ad sz)
theorem PW_blind {Y : YT} {D : va_G} {N : Nat} {ad K len : Nat → Nat} {σ : Nat → Nat → Int32} {ρ : Nat → Nat → Option Nat} {sz : Nat} {av : List Value} : FrameBlind (va_Pc av (PW Y D N ad K len σ ρ sz)) := by
  intro a U g mk h
  obtain ⟨q0, q1, q2, q3, q4, q5⟩ := h
  exact ⟨q0, q1, q2, va_K.moved (u := U) (U := U.calling g mk a) (Vm.Alike.refl U.vm) q3, q4, NZ_same (s := U) (U := U.calling g mk a) rfl q5.1, SZ_same (s := U) (U := U.calling g mk a) rfl rfl q5.2⟩
