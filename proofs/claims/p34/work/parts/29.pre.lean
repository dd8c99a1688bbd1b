theorem starts_BL {N t : Nat} {a : Int32} {σ σ1 : SG} {ρ : RG} (hB : BL N σ ρ) (ht : t < N) (h : F_X3_startsAnew t a σ ρ = some σ1) : BL N σ1 ρ := by
  simp only [F_X3_startsAnew, nm, Option.some.injEq] at h
  subst h
  exact BL_s2 (BL_s2 (BL_s2 (BL_s2 (BL_s2 (BL_s2 hB ht) ht) ht) ht) ht) ht
