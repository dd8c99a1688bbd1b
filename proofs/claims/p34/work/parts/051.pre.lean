/-! PART pre: the layout by name; rows of copies and nulls -/
theorem lr_0 {N : Nat} {K len : Nat → Nat} {ρ : RG} (h : Lay N K len ρ) : 0 < N := ly_r h 0 rfl
theorem lk_0 {N : Nat} {K len : Nat → Nat} {ρ : RG} (h : Lay N K len ρ) : K 0 = 11 := ly_k h 0 rfl
theorem lr_1 {N : Nat} {K len : Nat → Nat} {ρ : RG} (h : Lay N K len ρ) : 1 < N := ly_r h 1 rfl
theorem lk_1 {N : Nat} {K len : Nat → Nat} {ρ : RG} (h : Lay N K len ρ) : K 1 = 8 := ly_k h 1 rfl
theorem lr_2 {N : Nat} {K len : Nat → Nat} {ρ : RG} (h : Lay N K len ρ) : 2 < N := ly_r h 2 rfl
theorem lk_2 {N : Nat} {K len : Nat → Nat} {ρ : RG} (h : Lay N K len ρ) : K 2 = 16 := ly_k h 2 rfl
theorem ln_2 {N : Nat} {K len : Nat → Nat} {ρ : RG} (h : Lay N K len ρ) : len 2 = 6 := ly_n h 2 rfl
theorem lr_3 {N : Nat} {K len : Nat → Nat} {ρ : RG} (h : Lay N K len ρ) : 3 < N := ly_r h 3 rfl
theorem lk_3 {N : Nat} {K len : Nat → Nat} {ρ : RG} (h : Lay N K len ρ) : K 3 = 3 := ly_k h 3 rfl
theorem lr_4 {N : Nat} {K len : Nat → Nat} {ρ : RG} (h : Lay N K len ρ) : 4 < N := ly_r h 4 rfl
theorem lk_4 {N : Nat} {K len : Nat → Nat} {ρ : RG} (h : Lay N K len ρ) : K 4 = 14 := ly_k h 4 rfl
theorem ln_4 {N : Nat} {K len : Nat → Nat} {ρ : RG} (h : Lay N K len ρ) : len 4 = 6 := ly_n h 4 rfl
theorem lr_5 {N : Nat} {K len : Nat → Nat} {ρ : RG} (h : Lay N K len ρ) : 5 < N := ly_r h 5 rfl
theorem lk_5 {N : Nat} {K len : Nat → Nat} {ρ : RG} (h : Lay N K len ρ) : K 5 = 0 := ly_k h 5 rfl
theorem lr_6 {N : Nat} {K len : Nat → Nat} {ρ : RG} (h : Lay N K len ρ) : 6 < N := ly_r h 6 rfl
theorem lk_6 {N : Nat} {K len : Nat → Nat} {ρ : RG} (h : Lay N K len ρ) : K 6 = 15 := ly_k h 6 rfl
theorem ln_6 {N : Nat} {K len : Nat → Nat} {ρ : RG} (h : Lay N K len ρ) : len 6 = 10 := ly_n h 6 rfl
theorem lr_7 {N : Nat} {K len : Nat → Nat} {ρ : RG} (h : Lay N K len ρ) : 7 < N := ly_r h 7 rfl
theorem lk_7 {N : Nat} {K len : Nat → Nat} {ρ : RG} (h : Lay N K len ρ) : K 7 = 14 := ly_k h 7 rfl
theorem ln_7 {N : Nat} {K len : Nat → Nat} {ρ : RG} (h : Lay N K len ρ) : len 7 = 10 := ly_n h 7 rfl
theorem lr_8 {N : Nat} {K len : Nat → Nat} {ρ : RG} (h : Lay N K len ρ) : 8 < N := ly_r h 8 rfl
theorem lk_8 {N : Nat} {K len : Nat → Nat} {ρ : RG} (h : Lay N K len ρ) : K 8 = 14 := ly_k h 8 rfl
theorem ln_8 {N : Nat} {K len : Nat → Nat} {ρ : RG} (h : Lay N K len ρ) : len 8 = 10 := ly_n h 8 rfl
theorem lr_9 {N : Nat} {K len : Nat → Nat} {ρ : RG} (h : Lay N K len ρ) : 9 < N := ly_r h 9 rfl
theorem lk_9 {N : Nat} {K len : Nat → Nat} {ρ : RG} (h : Lay N K len ρ) : K 9 = 14 := ly_k h 9 rfl
theorem ln_9 {N : Nat} {K len : Nat → Nat} {ρ : RG} (h : Lay N K len ρ) : len 9 = 100 := ly_n h 9 rfl
theorem lr_10 {N : Nat} {K len : Nat → Nat} {ρ : RG} (h : Lay N K len ρ) : 10 < N := ly_r h 10 rfl
theorem lk_10 {N : Nat} {K len : Nat → Nat} {ρ : RG} (h : Lay N K len ρ) : K 10 = 13 := ly_k h 10 rfl
theorem ln_10 {N : Nat} {K len : Nat → Nat} {ρ : RG} (h : Lay N K len ρ) : len 10 = 100 := ly_n h 10 rfl
theorem lr_11 {N : Nat} {K len : Nat → Nat} {ρ : RG} (h : Lay N K len ρ) : 11 < N := ly_r h 11 rfl
theorem lk_11 {N : Nat} {K len : Nat → Nat} {ρ : RG} (h : Lay N K len ρ) : K 11 = 14 := ly_k h 11 rfl
theorem ln_11 {N : Nat} {K len : Nat → Nat} {ρ : RG} (h : Lay N K len ρ) : len 11 = 4 := ly_n h 11 rfl
theorem lr_12 {N : Nat} {K len : Nat → Nat} {ρ : RG} (h : Lay N K len ρ) : 12 < N := ly_r h 12 rfl
theorem lk_12 {N : Nat} {K len : Nat → Nat} {ρ : RG} (h : Lay N K len ρ) : K 12 = 14 := ly_k h 12 rfl
theorem ln_12 {N : Nat} {K len : Nat → Nat} {ρ : RG} (h : Lay N K len ρ) : len 12 = 8 := ly_n h 12 rfl
theorem lr_13 {N : Nat} {K len : Nat → Nat} {ρ : RG} (h : Lay N K len ρ) : 13 < N := ly_r h 13 rfl
theorem lk_13 {N : Nat} {K len : Nat → Nat} {ρ : RG} (h : Lay N K len ρ) : K 13 = 14 := ly_k h 13 rfl
theorem ln_13 {N : Nat} {K len : Nat → Nat} {ρ : RG} (h : Lay N K len ρ) : len 13 = 8 := ly_n h 13 rfl
theorem lr_14 {N : Nat} {K len : Nat → Nat} {ρ : RG} (h : Lay N K len ρ) : 14 < N := ly_r h 14 rfl
theorem lk_14 {N : Nat} {K len : Nat → Nat} {ρ : RG} (h : Lay N K len ρ) : K 14 = 8 := ly_k h 14 rfl
theorem lr_15 {N : Nat} {K len : Nat → Nat} {ρ : RG} (h : Lay N K len ρ) : 15 < N := ly_r h 15 rfl
theorem lk_15 {N : Nat} {K len : Nat → Nat} {ρ : RG} (h : Lay N K len ρ) : K 15 = 16 := ly_k h 15 rfl
theorem ln_15 {N : Nat} {K len : Nat → Nat} {ρ : RG} (h : Lay N K len ρ) : len 15 = 6 := ly_n h 15 rfl
theorem lr_16 {N : Nat} {K len : Nat → Nat} {ρ : RG} (h : Lay N K len ρ) : 16 < N := ly_r h 16 rfl
theorem lk_16 {N : Nat} {K len : Nat → Nat} {ρ : RG} (h : Lay N K len ρ) : K 16 = 3 := ly_k h 16 rfl
theorem lr_17 {N : Nat} {K len : Nat → Nat} {ρ : RG} (h : Lay N K len ρ) : 17 < N := ly_r h 17 rfl
theorem lk_17 {N : Nat} {K len : Nat → Nat} {ρ : RG} (h : Lay N K len ρ) : K 17 = 14 := ly_k h 17 rfl
theorem ln_17 {N : Nat} {K len : Nat → Nat} {ρ : RG} (h : Lay N K len ρ) : len 17 = 6 := ly_n h 17 rfl
theorem lr_18 {N : Nat} {K len : Nat → Nat} {ρ : RG} (h : Lay N K len ρ) : 18 < N := ly_r h 18 rfl
theorem lk_18 {N : Nat} {K len : Nat → Nat} {ρ : RG} (h : Lay N K len ρ) : K 18 = 0 := ly_k h 18 rfl
theorem lr_19 {N : Nat} {K len : Nat → Nat} {ρ : RG} (h : Lay N K len ρ) : 19 < N := ly_r h 19 rfl
theorem lk_19 {N : Nat} {K len : Nat → Nat} {ρ : RG} (h : Lay N K len ρ) : K 19 = 15 := ly_k h 19 rfl
theorem ln_19 {N : Nat} {K len : Nat → Nat} {ρ : RG} (h : Lay N K len ρ) : len 19 = 10 := ly_n h 19 rfl
theorem lr_20 {N : Nat} {K len : Nat → Nat} {ρ : RG} (h : Lay N K len ρ) : 20 < N := ly_r h 20 rfl
theorem lk_20 {N : Nat} {K len : Nat → Nat} {ρ : RG} (h : Lay N K len ρ) : K 20 = 14 := ly_k h 20 rfl
theorem ln_20 {N : Nat} {K len : Nat → Nat} {ρ : RG} (h : Lay N K len ρ) : len 20 = 10 := ly_n h 20 rfl
theorem lr_21 {N : Nat} {K len : Nat → Nat} {ρ : RG} (h : Lay N K len ρ) : 21 < N := ly_r h 21 rfl
theorem lk_21 {N : Nat} {K len : Nat → Nat} {ρ : RG} (h : Lay N K len ρ) : K 21 = 14 := ly_k h 21 rfl
theorem ln_21 {N : Nat} {K len : Nat → Nat} {ρ : RG} (h : Lay N K len ρ) : len 21 = 10 := ly_n h 21 rfl
theorem lr_22 {N : Nat} {K len : Nat → Nat} {ρ : RG} (h : Lay N K len ρ) : 22 < N := ly_r h 22 rfl
theorem lk_22 {N : Nat} {K len : Nat → Nat} {ρ : RG} (h : Lay N K len ρ) : K 22 = 14 := ly_k h 22 rfl
theorem ln_22 {N : Nat} {K len : Nat → Nat} {ρ : RG} (h : Lay N K len ρ) : len 22 = 100 := ly_n h 22 rfl
theorem lr_23 {N : Nat} {K len : Nat → Nat} {ρ : RG} (h : Lay N K len ρ) : 23 < N := ly_r h 23 rfl
theorem lk_23 {N : Nat} {K len : Nat → Nat} {ρ : RG} (h : Lay N K len ρ) : K 23 = 13 := ly_k h 23 rfl
theorem ln_23 {N : Nat} {K len : Nat → Nat} {ρ : RG} (h : Lay N K len ρ) : len 23 = 100 := ly_n h 23 rfl
theorem lr_24 {N : Nat} {K len : Nat → Nat} {ρ : RG} (h : Lay N K len ρ) : 24 < N := ly_r h 24 rfl
theorem lk_24 {N : Nat} {K len : Nat → Nat} {ρ : RG} (h : Lay N K len ρ) : K 24 = 14 := ly_k h 24 rfl
theorem ln_24 {N : Nat} {K len : Nat → Nat} {ρ : RG} (h : Lay N K len ρ) : len 24 = 4 := ly_n h 24 rfl
theorem lr_25 {N : Nat} {K len : Nat → Nat} {ρ : RG} (h : Lay N K len ρ) : 25 < N := ly_r h 25 rfl
theorem lk_25 {N : Nat} {K len : Nat → Nat} {ρ : RG} (h : Lay N K len ρ) : K 25 = 14 := ly_k h 25 rfl
theorem ln_25 {N : Nat} {K len : Nat → Nat} {ρ : RG} (h : Lay N K len ρ) : len 25 = 8 := ly_n h 25 rfl
theorem lr_26 {N : Nat} {K len : Nat → Nat} {ρ : RG} (h : Lay N K len ρ) : 26 < N := ly_r h 26 rfl
theorem lk_26 {N : Nat} {K len : Nat → Nat} {ρ : RG} (h : Lay N K len ρ) : K 26 = 14 := ly_k h 26 rfl
theorem ln_26 {N : Nat} {K len : Nat → Nat} {ρ : RG} (h : Lay N K len ρ) : len 26 = 8 := ly_n h 26 rfl
theorem lr_27 {N : Nat} {K len : Nat → Nat} {ρ : RG} (h : Lay N K len ρ) : 27 < N := ly_r h 27 rfl
theorem lk_27 {N : Nat} {K len : Nat → Nat} {ρ : RG} (h : Lay N K len ρ) : K 27 = 10 := ly_k h 27 rfl
theorem lr_28 {N : Nat} {K len : Nat → Nat} {ρ : RG} (h : Lay N K len ρ) : 28 < N := ly_r h 28 rfl
theorem lk_28 {N : Nat} {K len : Nat → Nat} {ρ : RG} (h : Lay N K len ρ) : K 28 = 14 := ly_k h 28 rfl
theorem ln_28 {N : Nat} {K len : Nat → Nat} {ρ : RG} (h : Lay N K len ρ) : len 28 = 20 := ly_n h 28 rfl
theorem lr_29 {N : Nat} {K len : Nat → Nat} {ρ : RG} (h : Lay N K len ρ) : 29 < N := ly_r h 29 rfl
theorem lk_29 {N : Nat} {K len : Nat → Nat} {ρ : RG} (h : Lay N K len ρ) : K 29 = 0 := ly_k h 29 rfl
theorem lr_30 {N : Nat} {K len : Nat → Nat} {ρ : RG} (h : Lay N K len ρ) : 30 < N := ly_r h 30 rfl
theorem lk_30 {N : Nat} {K len : Nat → Nat} {ρ : RG} (h : Lay N K len ρ) : K 30 = 15 := ly_k h 30 rfl
theorem ln_30 {N : Nat} {K len : Nat → Nat} {ρ : RG} (h : Lay N K len ρ) : len 30 = 10 := ly_n h 30 rfl
theorem lr_31 {N : Nat} {K len : Nat → Nat} {ρ : RG} (h : Lay N K len ρ) : 31 < N := ly_r h 31 rfl
theorem lk_31 {N : Nat} {K len : Nat → Nat} {ρ : RG} (h : Lay N K len ρ) : K 31 = 14 := ly_k h 31 rfl
theorem ln_31 {N : Nat} {K len : Nat → Nat} {ρ : RG} (h : Lay N K len ρ) : len 31 = 10 := ly_n h 31 rfl
theorem lr_32 {N : Nat} {K len : Nat → Nat} {ρ : RG} (h : Lay N K len ρ) : 32 < N := ly_r h 32 rfl
theorem lk_32 {N : Nat} {K len : Nat → Nat} {ρ : RG} (h : Lay N K len ρ) : K 32 = 14 := ly_k h 32 rfl
theorem ln_32 {N : Nat} {K len : Nat → Nat} {ρ : RG} (h : Lay N K len ρ) : len 32 = 10 := ly_n h 32 rfl
theorem lr_33 {N : Nat} {K len : Nat → Nat} {ρ : RG} (h : Lay N K len ρ) : 33 < N := ly_r h 33 rfl
theorem lk_33 {N : Nat} {K len : Nat → Nat} {ρ : RG} (h : Lay N K len ρ) : K 33 = 14 := ly_k h 33 rfl
theorem ln_33 {N : Nat} {K len : Nat → Nat} {ρ : RG} (h : Lay N K len ρ) : len 33 = 100 := ly_n h 33 rfl
theorem lr_34 {N : Nat} {K len : Nat → Nat} {ρ : RG} (h : Lay N K len ρ) : 34 < N := ly_r h 34 rfl
theorem lk_34 {N : Nat} {K len : Nat → Nat} {ρ : RG} (h : Lay N K len ρ) : K 34 = 17 := ly_k h 34 rfl
theorem ln_34 {N : Nat} {K len : Nat → Nat} {ρ : RG} (h : Lay N K len ρ) : len 34 = 7 := ly_n h 34 rfl
theorem lr_35 {N : Nat} {K len : Nat → Nat} {ρ : RG} (h : Lay N K len ρ) : 35 < N := ly_r h 35 rfl
theorem lk_35 {N : Nat} {K len : Nat → Nat} {ρ : RG} (h : Lay N K len ρ) : K 35 = 14 := ly_k h 35 rfl
theorem ln_35 {N : Nat} {K len : Nat → Nat} {ρ : RG} (h : Lay N K len ρ) : len 35 = 6 := ly_n h 35 rfl
theorem lr_36 {N : Nat} {K len : Nat → Nat} {ρ : RG} (h : Lay N K len ρ) : 36 < N := ly_r h 36 rfl
theorem lk_36 {N : Nat} {K len : Nat → Nat} {ρ : RG} (h : Lay N K len ρ) : K 36 = 14 := ly_k h 36 rfl
theorem ln_36 {N : Nat} {K len : Nat → Nat} {ρ : RG} (h : Lay N K len ρ) : len 36 = 6 := ly_n h 36 rfl
theorem lr_37 {N : Nat} {K len : Nat → Nat} {ρ : RG} (h : Lay N K len ρ) : 37 < N := ly_r h 37 rfl
theorem lk_37 {N : Nat} {K len : Nat → Nat} {ρ : RG} (h : Lay N K len ρ) : K 37 = 3 := ly_k h 37 rfl
theorem lr_38 {N : Nat} {K len : Nat → Nat} {ρ : RG} (h : Lay N K len ρ) : 38 < N := ly_r h 38 rfl
theorem lk_38 {N : Nat} {K len : Nat → Nat} {ρ : RG} (h : Lay N K len ρ) : K 38 = 14 := ly_k h 38 rfl
theorem ln_38 {N : Nat} {K len : Nat → Nat} {ρ : RG} (h : Lay N K len ρ) : len 38 = 6 := ly_n h 38 rfl
theorem lr_39 {N : Nat} {K len : Nat → Nat} {ρ : RG} (h : Lay N K len ρ) : 39 < N := ly_r h 39 rfl
theorem lk_39 {N : Nat} {K len : Nat → Nat} {ρ : RG} (h : Lay N K len ρ) : K 39 = 14 := ly_k h 39 rfl
theorem ln_39 {N : Nat} {K len : Nat → Nat} {ρ : RG} (h : Lay N K len ρ) : len 39 = 6 := ly_n h 39 rfl
theorem lr_40 {N : Nat} {K len : Nat → Nat} {ρ : RG} (h : Lay N K len ρ) : 40 < N := ly_r h 40 rfl
theorem lk_40 {N : Nat} {K len : Nat → Nat} {ρ : RG} (h : Lay N K len ρ) : K 40 = 3 := ly_k h 40 rfl
theorem lr_41 {N : Nat} {K len : Nat → Nat} {ρ : RG} (h : Lay N K len ρ) : 41 < N := ly_r h 41 rfl
theorem lk_41 {N : Nat} {K len : Nat → Nat} {ρ : RG} (h : Lay N K len ρ) : K 41 = 14 := ly_k h 41 rfl
theorem ln_41 {N : Nat} {K len : Nat → Nat} {ρ : RG} (h : Lay N K len ρ) : len 41 = 6 := ly_n h 41 rfl
theorem lr_42 {N : Nat} {K len : Nat → Nat} {ρ : RG} (h : Lay N K len ρ) : 42 < N := ly_r h 42 rfl
theorem lk_42 {N : Nat} {K len : Nat → Nat} {ρ : RG} (h : Lay N K len ρ) : K 42 = 3 := ly_k h 42 rfl
theorem lr_43 {N : Nat} {K len : Nat → Nat} {ρ : RG} (h : Lay N K len ρ) : 43 < N := ly_r h 43 rfl
theorem lk_43 {N : Nat} {K len : Nat → Nat} {ρ : RG} (h : Lay N K len ρ) : K 43 = 14 := ly_k h 43 rfl
theorem ln_43 {N : Nat} {K len : Nat → Nat} {ρ : RG} (h : Lay N K len ρ) : len 43 = 6 := ly_n h 43 rfl
theorem lr_44 {N : Nat} {K len : Nat → Nat} {ρ : RG} (h : Lay N K len ρ) : 44 < N := ly_r h 44 rfl
theorem lk_44 {N : Nat} {K len : Nat → Nat} {ρ : RG} (h : Lay N K len ρ) : K 44 = 3 := ly_k h 44 rfl
theorem lr_45 {N : Nat} {K len : Nat → Nat} {ρ : RG} (h : Lay N K len ρ) : 45 < N := ly_r h 45 rfl
theorem lk_45 {N : Nat} {K len : Nat → Nat} {ρ : RG} (h : Lay N K len ρ) : K 45 = 14 := ly_k h 45 rfl
theorem ln_45 {N : Nat} {K len : Nat → Nat} {ρ : RG} (h : Lay N K len ρ) : len 45 = 6 := ly_n h 45 rfl
theorem lr_46 {N : Nat} {K len : Nat → Nat} {ρ : RG} (h : Lay N K len ρ) : 46 < N := ly_r h 46 rfl
theorem lk_46 {N : Nat} {K len : Nat → Nat} {ρ : RG} (h : Lay N K len ρ) : K 46 = 3 := ly_k h 46 rfl
theorem lr_47 {N : Nat} {K len : Nat → Nat} {ρ : RG} (h : Lay N K len ρ) : 47 < N := ly_r h 47 rfl
theorem lk_47 {N : Nat} {K len : Nat → Nat} {ρ : RG} (h : Lay N K len ρ) : K 47 = 14 := ly_k h 47 rfl
theorem ln_47 {N : Nat} {K len : Nat → Nat} {ρ : RG} (h : Lay N K len ρ) : len 47 = 6 := ly_n h 47 rfl
theorem lr_48 {N : Nat} {K len : Nat → Nat} {ρ : RG} (h : Lay N K len ρ) : 48 < N := ly_r h 48 rfl
theorem lk_48 {N : Nat} {K len : Nat → Nat} {ρ : RG} (h : Lay N K len ρ) : K 48 = 3 := ly_k h 48 rfl
theorem lr_49 {N : Nat} {K len : Nat → Nat} {ρ : RG} (h : Lay N K len ρ) : 49 < N := ly_r h 49 rfl
theorem lk_49 {N : Nat} {K len : Nat → Nat} {ρ : RG} (h : Lay N K len ρ) : K 49 = 14 := ly_k h 49 rfl
theorem ln_49 {N : Nat} {K len : Nat → Nat} {ρ : RG} (h : Lay N K len ρ) : len 49 = 6 := ly_n h 49 rfl
theorem lr_50 {N : Nat} {K len : Nat → Nat} {ρ : RG} (h : Lay N K len ρ) : 50 < N := ly_r h 50 rfl
theorem lk_50 {N : Nat} {K len : Nat → Nat} {ρ : RG} (h : Lay N K len ρ) : K 50 = 3 := ly_k h 50 rfl
theorem lr_51 {N : Nat} {K len : Nat → Nat} {ρ : RG} (h : Lay N K len ρ) : 51 < N := ly_r h 51 rfl
theorem lk_51 {N : Nat} {K len : Nat → Nat} {ρ : RG} (h : Lay N K len ρ) : K 51 = 14 := ly_k h 51 rfl
theorem ln_51 {N : Nat} {K len : Nat → Nat} {ρ : RG} (h : Lay N K len ρ) : len 51 = 6 := ly_n h 51 rfl
theorem lr_52 {N : Nat} {K len : Nat → Nat} {ρ : RG} (h : Lay N K len ρ) : 52 < N := ly_r h 52 rfl
theorem lk_52 {N : Nat} {K len : Nat → Nat} {ρ : RG} (h : Lay N K len ρ) : K 52 = 3 := ly_k h 52 rfl
theorem lr_53 {N : Nat} {K len : Nat → Nat} {ρ : RG} (h : Lay N K len ρ) : 53 < N := ly_r h 53 rfl
theorem lk_53 {N : Nat} {K len : Nat → Nat} {ρ : RG} (h : Lay N K len ρ) : K 53 = 14 := ly_k h 53 rfl
theorem ln_53 {N : Nat} {K len : Nat → Nat} {ρ : RG} (h : Lay N K len ρ) : len 53 = 6 := ly_n h 53 rfl
theorem lr_54 {N : Nat} {K len : Nat → Nat} {ρ : RG} (h : Lay N K len ρ) : 54 < N := ly_r h 54 rfl
theorem lk_54 {N : Nat} {K len : Nat → Nat} {ρ : RG} (h : Lay N K len ρ) : K 54 = 12 := ly_k h 54 rfl
theorem lr_55 {N : Nat} {K len : Nat → Nat} {ρ : RG} (h : Lay N K len ρ) : 55 < N := ly_r h 55 rfl
theorem lk_55 {N : Nat} {K len : Nat → Nat} {ρ : RG} (h : Lay N K len ρ) : K 55 = 14 := ly_k h 55 rfl
theorem ln_55 {N : Nat} {K len : Nat → Nat} {ρ : RG} (h : Lay N K len ρ) : len 55 = 909 := ly_n h 55 rfl
theorem lr_56 {N : Nat} {K len : Nat → Nat} {ρ : RG} (h : Lay N K len ρ) : 56 < N := ly_r h 56 rfl
theorem lk_56 {N : Nat} {K len : Nat → Nat} {ρ : RG} (h : Lay N K len ρ) : K 56 = 14 := ly_k h 56 rfl
theorem ln_56 {N : Nat} {K len : Nat → Nat} {ρ : RG} (h : Lay N K len ρ) : len 56 = 909 := ly_n h 56 rfl
theorem lr_57 {N : Nat} {K len : Nat → Nat} {ρ : RG} (h : Lay N K len ρ) : 57 < N := ly_r h 57 rfl
theorem lk_57 {N : Nat} {K len : Nat → Nat} {ρ : RG} (h : Lay N K len ρ) : K 57 = 14 := ly_k h 57 rfl
theorem ln_57 {N : Nat} {K len : Nat → Nat} {ρ : RG} (h : Lay N K len ρ) : len 57 = 11 := ly_n h 57 rfl
theorem lr_58 {N : Nat} {K len : Nat → Nat} {ρ : RG} (h : Lay N K len ρ) : 58 < N := ly_r h 58 rfl
theorem lk_58 {N : Nat} {K len : Nat → Nat} {ρ : RG} (h : Lay N K len ρ) : K 58 = 14 := ly_k h 58 rfl
theorem ln_58 {N : Nat} {K len : Nat → Nat} {ρ : RG} (h : Lay N K len ρ) : len 58 = 6 := ly_n h 58 rfl
theorem lr_59 {N : Nat} {K len : Nat → Nat} {ρ : RG} (h : Lay N K len ρ) : 59 < N := ly_r h 59 rfl
theorem lk_59 {N : Nat} {K len : Nat → Nat} {ρ : RG} (h : Lay N K len ρ) : K 59 = 15 := ly_k h 59 rfl
theorem ln_59 {N : Nat} {K len : Nat → Nat} {ρ : RG} (h : Lay N K len ρ) : len 59 = 64 := ly_n h 59 rfl
theorem lr_60 {N : Nat} {K len : Nat → Nat} {ρ : RG} (h : Lay N K len ρ) : 60 < N := ly_r h 60 rfl
theorem lk_60 {N : Nat} {K len : Nat → Nat} {ρ : RG} (h : Lay N K len ρ) : K 60 = 14 := ly_k h 60 rfl
theorem ln_60 {N : Nat} {K len : Nat → Nat} {ρ : RG} (h : Lay N K len ρ) : len 60 = 66 := ly_n h 60 rfl
theorem lr_61 {N : Nat} {K len : Nat → Nat} {ρ : RG} (h : Lay N K len ρ) : 61 < N := ly_r h 61 rfl
theorem lk_61 {N : Nat} {K len : Nat → Nat} {ρ : RG} (h : Lay N K len ρ) : K 61 = 14 := ly_k h 61 rfl
theorem ln_61 {N : Nat} {K len : Nat → Nat} {ρ : RG} (h : Lay N K len ρ) : len 61 = 5 := ly_n h 61 rfl
theorem lr_62 {N : Nat} {K len : Nat → Nat} {ρ : RG} (h : Lay N K len ρ) : 62 < N := ly_r h 62 rfl
theorem lk_62 {N : Nat} {K len : Nat → Nat} {ρ : RG} (h : Lay N K len ρ) : K 62 = 14 := ly_k h 62 rfl
theorem ln_62 {N : Nat} {K len : Nat → Nat} {ρ : RG} (h : Lay N K len ρ) : len 62 = 5 := ly_n h 62 rfl
theorem lr_63 {N : Nat} {K len : Nat → Nat} {ρ : RG} (h : Lay N K len ρ) : 63 < N := ly_r h 63 rfl
theorem lk_63 {N : Nat} {K len : Nat → Nat} {ρ : RG} (h : Lay N K len ρ) : K 63 = 14 := ly_k h 63 rfl
theorem ln_63 {N : Nat} {K len : Nat → Nat} {ρ : RG} (h : Lay N K len ρ) : len 63 = 6 := ly_n h 63 rfl
theorem lr_64 {N : Nat} {K len : Nat → Nat} {ρ : RG} (h : Lay N K len ρ) : 64 < N := ly_r h 64 rfl
theorem lk_64 {N : Nat} {K len : Nat → Nat} {ρ : RG} (h : Lay N K len ρ) : K 64 = 14 := ly_k h 64 rfl
theorem ln_64 {N : Nat} {K len : Nat → Nat} {ρ : RG} (h : Lay N K len ρ) : len 64 = 20 := ly_n h 64 rfl
def LK (K len : Nat → Nat) : Prop := ∀ r, r < 65 → K r = kind0 r ∧ len r = len0 r
theorem kk_0 {K len : Nat → Nat} (h : LK K len) : K 0 = 11 := (h 0 (by decide)).1
theorem kk_1 {K len : Nat → Nat} (h : LK K len) : K 1 = 8 := (h 1 (by decide)).1
theorem kk_2 {K len : Nat → Nat} (h : LK K len) : K 2 = 16 := (h 2 (by decide)).1
theorem kn_2 {K len : Nat → Nat} (h : LK K len) : len 2 = 6 := (h 2 (by decide)).2
theorem kk_3 {K len : Nat → Nat} (h : LK K len) : K 3 = 3 := (h 3 (by decide)).1
theorem kk_4 {K len : Nat → Nat} (h : LK K len) : K 4 = 14 := (h 4 (by decide)).1
theorem kn_4 {K len : Nat → Nat} (h : LK K len) : len 4 = 6 := (h 4 (by decide)).2
theorem kk_5 {K len : Nat → Nat} (h : LK K len) : K 5 = 0 := (h 5 (by decide)).1
theorem kk_6 {K len : Nat → Nat} (h : LK K len) : K 6 = 15 := (h 6 (by decide)).1
theorem kn_6 {K len : Nat → Nat} (h : LK K len) : len 6 = 10 := (h 6 (by decide)).2
theorem kk_7 {K len : Nat → Nat} (h : LK K len) : K 7 = 14 := (h 7 (by decide)).1
theorem kn_7 {K len : Nat → Nat} (h : LK K len) : len 7 = 10 := (h 7 (by decide)).2
theorem kk_8 {K len : Nat → Nat} (h : LK K len) : K 8 = 14 := (h 8 (by decide)).1
theorem kn_8 {K len : Nat → Nat} (h : LK K len) : len 8 = 10 := (h 8 (by decide)).2
theorem kk_9 {K len : Nat → Nat} (h : LK K len) : K 9 = 14 := (h 9 (by decide)).1
theorem kn_9 {K len : Nat → Nat} (h : LK K len) : len 9 = 100 := (h 9 (by decide)).2
theorem kk_10 {K len : Nat → Nat} (h : LK K len) : K 10 = 13 := (h 10 (by decide)).1
theorem kn_10 {K len : Nat → Nat} (h : LK K len) : len 10 = 100 := (h 10 (by decide)).2
theorem kk_11 {K len : Nat → Nat} (h : LK K len) : K 11 = 14 := (h 11 (by decide)).1
theorem kn_11 {K len : Nat → Nat} (h : LK K len) : len 11 = 4 := (h 11 (by decide)).2
theorem kk_12 {K len : Nat → Nat} (h : LK K len) : K 12 = 14 := (h 12 (by decide)).1
theorem kn_12 {K len : Nat → Nat} (h : LK K len) : len 12 = 8 := (h 12 (by decide)).2
theorem kk_13 {K len : Nat → Nat} (h : LK K len) : K 13 = 14 := (h 13 (by decide)).1
theorem kn_13 {K len : Nat → Nat} (h : LK K len) : len 13 = 8 := (h 13 (by decide)).2
theorem kk_14 {K len : Nat → Nat} (h : LK K len) : K 14 = 8 := (h 14 (by decide)).1
theorem kk_15 {K len : Nat → Nat} (h : LK K len) : K 15 = 16 := (h 15 (by decide)).1
theorem kn_15 {K len : Nat → Nat} (h : LK K len) : len 15 = 6 := (h 15 (by decide)).2
theorem kk_16 {K len : Nat → Nat} (h : LK K len) : K 16 = 3 := (h 16 (by decide)).1
theorem kk_17 {K len : Nat → Nat} (h : LK K len) : K 17 = 14 := (h 17 (by decide)).1
theorem kn_17 {K len : Nat → Nat} (h : LK K len) : len 17 = 6 := (h 17 (by decide)).2
theorem kk_18 {K len : Nat → Nat} (h : LK K len) : K 18 = 0 := (h 18 (by decide)).1
theorem kk_19 {K len : Nat → Nat} (h : LK K len) : K 19 = 15 := (h 19 (by decide)).1
theorem kn_19 {K len : Nat → Nat} (h : LK K len) : len 19 = 10 := (h 19 (by decide)).2
theorem kk_20 {K len : Nat → Nat} (h : LK K len) : K 20 = 14 := (h 20 (by decide)).1
theorem kn_20 {K len : Nat → Nat} (h : LK K len) : len 20 = 10 := (h 20 (by decide)).2
theorem kk_21 {K len : Nat → Nat} (h : LK K len) : K 21 = 14 := (h 21 (by decide)).1
theorem kn_21 {K len : Nat → Nat} (h : LK K len) : len 21 = 10 := (h 21 (by decide)).2
theorem kk_22 {K len : Nat → Nat} (h : LK K len) : K 22 = 14 := (h 22 (by decide)).1
theorem kn_22 {K len : Nat → Nat} (h : LK K len) : len 22 = 100 := (h 22 (by decide)).2
theorem kk_23 {K len : Nat → Nat} (h : LK K len) : K 23 = 13 := (h 23 (by decide)).1
theorem kn_23 {K len : Nat → Nat} (h : LK K len) : len 23 = 100 := (h 23 (by decide)).2
theorem kk_24 {K len : Nat → Nat} (h : LK K len) : K 24 = 14 := (h 24 (by decide)).1
theorem kn_24 {K len : Nat → Nat} (h : LK K len) : len 24 = 4 := (h 24 (by decide)).2
theorem kk_25 {K len : Nat → Nat} (h : LK K len) : K 25 = 14 := (h 25 (by decide)).1
theorem kn_25 {K len : Nat → Nat} (h : LK K len) : len 25 = 8 := (h 25 (by decide)).2
theorem kk_26 {K len : Nat → Nat} (h : LK K len) : K 26 = 14 := (h 26 (by decide)).1
theorem kn_26 {K len : Nat → Nat} (h : LK K len) : len 26 = 8 := (h 26 (by decide)).2
theorem kk_27 {K len : Nat → Nat} (h : LK K len) : K 27 = 10 := (h 27 (by decide)).1
theorem kk_28 {K len : Nat → Nat} (h : LK K len) : K 28 = 14 := (h 28 (by decide)).1
theorem kn_28 {K len : Nat → Nat} (h : LK K len) : len 28 = 20 := (h 28 (by decide)).2
theorem kk_29 {K len : Nat → Nat} (h : LK K len) : K 29 = 0 := (h 29 (by decide)).1
theorem kk_30 {K len : Nat → Nat} (h : LK K len) : K 30 = 15 := (h 30 (by decide)).1
theorem kn_30 {K len : Nat → Nat} (h : LK K len) : len 30 = 10 := (h 30 (by decide)).2
theorem kk_31 {K len : Nat → Nat} (h : LK K len) : K 31 = 14 := (h 31 (by decide)).1
theorem kn_31 {K len : Nat → Nat} (h : LK K len) : len 31 = 10 := (h 31 (by decide)).2
theorem kk_32 {K len : Nat → Nat} (h : LK K len) : K 32 = 14 := (h 32 (by decide)).1
theorem kn_32 {K len : Nat → Nat} (h : LK K len) : len 32 = 10 := (h 32 (by decide)).2
theorem kk_33 {K len : Nat → Nat} (h : LK K len) : K 33 = 14 := (h 33 (by decide)).1
theorem kn_33 {K len : Nat → Nat} (h : LK K len) : len 33 = 100 := (h 33 (by decide)).2
theorem kk_34 {K len : Nat → Nat} (h : LK K len) : K 34 = 17 := (h 34 (by decide)).1
theorem kn_34 {K len : Nat → Nat} (h : LK K len) : len 34 = 7 := (h 34 (by decide)).2
theorem kk_35 {K len : Nat → Nat} (h : LK K len) : K 35 = 14 := (h 35 (by decide)).1
theorem kn_35 {K len : Nat → Nat} (h : LK K len) : len 35 = 6 := (h 35 (by decide)).2
theorem kk_36 {K len : Nat → Nat} (h : LK K len) : K 36 = 14 := (h 36 (by decide)).1
theorem kn_36 {K len : Nat → Nat} (h : LK K len) : len 36 = 6 := (h 36 (by decide)).2
theorem kk_37 {K len : Nat → Nat} (h : LK K len) : K 37 = 3 := (h 37 (by decide)).1
theorem kk_38 {K len : Nat → Nat} (h : LK K len) : K 38 = 14 := (h 38 (by decide)).1
theorem kn_38 {K len : Nat → Nat} (h : LK K len) : len 38 = 6 := (h 38 (by decide)).2
theorem kk_39 {K len : Nat → Nat} (h : LK K len) : K 39 = 14 := (h 39 (by decide)).1
theorem kn_39 {K len : Nat → Nat} (h : LK K len) : len 39 = 6 := (h 39 (by decide)).2
theorem kk_40 {K len : Nat → Nat} (h : LK K len) : K 40 = 3 := (h 40 (by decide)).1
theorem kk_41 {K len : Nat → Nat} (h : LK K len) : K 41 = 14 := (h 41 (by decide)).1
theorem kn_41 {K len : Nat → Nat} (h : LK K len) : len 41 = 6 := (h 41 (by decide)).2
theorem kk_42 {K len : Nat → Nat} (h : LK K len) : K 42 = 3 := (h 42 (by decide)).1
theorem kk_43 {K len : Nat → Nat} (h : LK K len) : K 43 = 14 := (h 43 (by decide)).1
theorem kn_43 {K len : Nat → Nat} (h : LK K len) : len 43 = 6 := (h 43 (by decide)).2
theorem kk_44 {K len : Nat → Nat} (h : LK K len) : K 44 = 3 := (h 44 (by decide)).1
theorem kk_45 {K len : Nat → Nat} (h : LK K len) : K 45 = 14 := (h 45 (by decide)).1
theorem kn_45 {K len : Nat → Nat} (h : LK K len) : len 45 = 6 := (h 45 (by decide)).2
theorem kk_46 {K len : Nat → Nat} (h : LK K len) : K 46 = 3 := (h 46 (by decide)).1
theorem kk_47 {K len : Nat → Nat} (h : LK K len) : K 47 = 14 := (h 47 (by decide)).1
theorem kn_47 {K len : Nat → Nat} (h : LK K len) : len 47 = 6 := (h 47 (by decide)).2
theorem kk_48 {K len : Nat → Nat} (h : LK K len) : K 48 = 3 := (h 48 (by decide)).1
theorem kk_49 {K len : Nat → Nat} (h : LK K len) : K 49 = 14 := (h 49 (by decide)).1
theorem kn_49 {K len : Nat → Nat} (h : LK K len) : len 49 = 6 := (h 49 (by decide)).2
theorem kk_50 {K len : Nat → Nat} (h : LK K len) : K 50 = 3 := (h 50 (by decide)).1
theorem kk_51 {K len : Nat → Nat} (h : LK K len) : K 51 = 14 := (h 51 (by decide)).1
theorem kn_51 {K len : Nat → Nat} (h : LK K len) : len 51 = 6 := (h 51 (by decide)).2
theorem kk_52 {K len : Nat → Nat} (h : LK K len) : K 52 = 3 := (h 52 (by decide)).1
theorem kk_53 {K len : Nat → Nat} (h : LK K len) : K 53 = 14 := (h 53 (by decide)).1
theorem kn_53 {K len : Nat → Nat} (h : LK K len) : len 53 = 6 := (h 53 (by decide)).2
theorem kk_54 {K len : Nat → Nat} (h : LK K len) : K 54 = 12 := (h 54 (by decide)).1
theorem kk_55 {K len : Nat → Nat} (h : LK K len) : K 55 = 14 := (h 55 (by decide)).1
theorem kn_55 {K len : Nat → Nat} (h : LK K len) : len 55 = 909 := (h 55 (by decide)).2
theorem kk_56 {K len : Nat → Nat} (h : LK K len) : K 56 = 14 := (h 56 (by decide)).1
theorem kn_56 {K len : Nat → Nat} (h : LK K len) : len 56 = 909 := (h 56 (by decide)).2
theorem kk_57 {K len : Nat → Nat} (h : LK K len) : K 57 = 14 := (h 57 (by decide)).1
theorem kn_57 {K len : Nat → Nat} (h : LK K len) : len 57 = 11 := (h 57 (by decide)).2
theorem kk_58 {K len : Nat → Nat} (h : LK K len) : K 58 = 14 := (h 58 (by decide)).1
theorem kn_58 {K len : Nat → Nat} (h : LK K len) : len 58 = 6 := (h 58 (by decide)).2
theorem kk_59 {K len : Nat → Nat} (h : LK K len) : K 59 = 15 := (h 59 (by decide)).1
theorem kn_59 {K len : Nat → Nat} (h : LK K len) : len 59 = 64 := (h 59 (by decide)).2
theorem kk_60 {K len : Nat → Nat} (h : LK K len) : K 60 = 14 := (h 60 (by decide)).1
theorem kn_60 {K len : Nat → Nat} (h : LK K len) : len 60 = 66 := (h 60 (by decide)).2
theorem kk_61 {K len : Nat → Nat} (h : LK K len) : K 61 = 14 := (h 61 (by decide)).1
theorem kn_61 {K len : Nat → Nat} (h : LK K len) : len 61 = 5 := (h 61 (by decide)).2
theorem kk_62 {K len : Nat → Nat} (h : LK K len) : K 62 = 14 := (h 62 (by decide)).1
theorem kn_62 {K len : Nat → Nat} (h : LK K len) : len 62 = 5 := (h 62 (by decide)).2
theorem kk_63 {K len : Nat → Nat} (h : LK K len) : K 63 = 14 := (h 63 (by decide)).1
theorem kn_63 {K len : Nat → Nat} (h : LK K len) : len 63 = 6 := (h 63 (by decide)).2
theorem kk_64 {K len : Nat → Nat} (h : LK K len) : K 64 = 14 := (h 64 (by decide)).1
theorem kn_64 {K len : Nat → Nat} (h : LK K len) : len 64 = 20 := (h 64 (by decide)).2
theorem lf_0_0 {N : Nat} {K len : Nat → Nat} {ρ : RG} (h : Lay N K len ρ) : ρ 0 0 = some 1 := ly_f h 0 0 1 (by decide +kernel)
theorem lf_0_1 {N : Nat} {K len : Nat → Nat} {ρ : RG} (h : Lay N K len ρ) : ρ 0 1 = some 14 := ly_f h 0 1 14 (by decide +kernel)
theorem lf_0_3 {N : Nat} {K len : Nat → Nat} {ρ : RG} (h : Lay N K len ρ) : ρ 0 3 = some 27 := ly_f h 0 3 27 (by decide +kernel)
theorem lf_0_4 {N : Nat} {K len : Nat → Nat} {ρ : RG} (h : Lay N K len ρ) : ρ 0 4 = some 29 := ly_f h 0 4 29 (by decide +kernel)
theorem lf_0_5 {N : Nat} {K len : Nat → Nat} {ρ : RG} (h : Lay N K len ρ) : ρ 0 5 = some 34 := ly_f h 0 5 34 (by decide +kernel)
theorem lf_0_6 {N : Nat} {K len : Nat → Nat} {ρ : RG} (h : Lay N K len ρ) : ρ 0 6 = some 35 := ly_f h 0 6 35 (by decide +kernel)
theorem lf_0_7 {N : Nat} {K len : Nat → Nat} {ρ : RG} (h : Lay N K len ρ) : ρ 0 7 = some 36 := ly_f h 0 7 36 (by decide +kernel)
theorem lf_0_11 {N : Nat} {K len : Nat → Nat} {ρ : RG} (h : Lay N K len ρ) : ρ 0 11 = some 37 := ly_f h 0 11 37 (by decide +kernel)
theorem lf_0_12 {N : Nat} {K len : Nat → Nat} {ρ : RG} (h : Lay N K len ρ) : ρ 0 12 = some 39 := ly_f h 0 12 39 (by decide +kernel)
theorem lf_1_0 {N : Nat} {K len : Nat → Nat} {ρ : RG} (h : Lay N K len ρ) : ρ 1 0 = some 2 := ly_f h 1 0 2 (by decide +kernel)
theorem lf_1_2 {N : Nat} {K len : Nat → Nat} {ρ : RG} (h : Lay N K len ρ) : ρ 1 2 = some 3 := ly_f h 1 2 3 (by decide +kernel)
theorem lf_1_3 {N : Nat} {K len : Nat → Nat} {ρ : RG} (h : Lay N K len ρ) : ρ 1 3 = some 5 := ly_f h 1 3 5 (by decide +kernel)
theorem lf_1_5 {N : Nat} {K len : Nat → Nat} {ρ : RG} (h : Lay N K len ρ) : ρ 1 5 = some 10 := ly_f h 1 5 10 (by decide +kernel)
theorem lf_1_9 {N : Nat} {K len : Nat → Nat} {ρ : RG} (h : Lay N K len ρ) : ρ 1 9 = some 11 := ly_f h 1 9 11 (by decide +kernel)
theorem lf_1_11 {N : Nat} {K len : Nat → Nat} {ρ : RG} (h : Lay N K len ρ) : ρ 1 11 = some 12 := ly_f h 1 11 12 (by decide +kernel)
theorem lf_1_12 {N : Nat} {K len : Nat → Nat} {ρ : RG} (h : Lay N K len ρ) : ρ 1 12 = some 13 := ly_f h 1 12 13 (by decide +kernel)
theorem lf_3_9 {N : Nat} {K len : Nat → Nat} {ρ : RG} (h : Lay N K len ρ) : ρ 3 9 = some 4 := ly_f h 3 9 4 (by decide +kernel)
theorem lf_5_3 {N : Nat} {K len : Nat → Nat} {ρ : RG} (h : Lay N K len ρ) : ρ 5 3 = some 6 := ly_f h 5 3 6 (by decide +kernel)
theorem lf_5_4 {N : Nat} {K len : Nat → Nat} {ρ : RG} (h : Lay N K len ρ) : ρ 5 4 = some 7 := ly_f h 5 4 7 (by decide +kernel)
theorem lf_5_5 {N : Nat} {K len : Nat → Nat} {ρ : RG} (h : Lay N K len ρ) : ρ 5 5 = some 8 := ly_f h 5 5 8 (by decide +kernel)
theorem lf_5_6 {N : Nat} {K len : Nat → Nat} {ρ : RG} (h : Lay N K len ρ) : ρ 5 6 = some 9 := ly_f h 5 6 9 (by decide +kernel)
theorem lf_14_0 {N : Nat} {K len : Nat → Nat} {ρ : RG} (h : Lay N K len ρ) : ρ 14 0 = some 15 := ly_f h 14 0 15 (by decide +kernel)
theorem lf_14_2 {N : Nat} {K len : Nat → Nat} {ρ : RG} (h : Lay N K len ρ) : ρ 14 2 = some 16 := ly_f h 14 2 16 (by decide +kernel)
theorem lf_14_3 {N : Nat} {K len : Nat → Nat} {ρ : RG} (h : Lay N K len ρ) : ρ 14 3 = some 18 := ly_f h 14 3 18 (by decide +kernel)
theorem lf_14_5 {N : Nat} {K len : Nat → Nat} {ρ : RG} (h : Lay N K len ρ) : ρ 14 5 = some 23 := ly_f h 14 5 23 (by decide +kernel)
theorem lf_14_9 {N : Nat} {K len : Nat → Nat} {ρ : RG} (h : Lay N K len ρ) : ρ 14 9 = some 24 := ly_f h 14 9 24 (by decide +kernel)
theorem lf_14_11 {N : Nat} {K len : Nat → Nat} {ρ : RG} (h : Lay N K len ρ) : ρ 14 11 = some 25 := ly_f h 14 11 25 (by decide +kernel)
theorem lf_14_12 {N : Nat} {K len : Nat → Nat} {ρ : RG} (h : Lay N K len ρ) : ρ 14 12 = some 26 := ly_f h 14 12 26 (by decide +kernel)
theorem lf_16_9 {N : Nat} {K len : Nat → Nat} {ρ : RG} (h : Lay N K len ρ) : ρ 16 9 = some 17 := ly_f h 16 9 17 (by decide +kernel)
theorem lf_18_3 {N : Nat} {K len : Nat → Nat} {ρ : RG} (h : Lay N K len ρ) : ρ 18 3 = some 19 := ly_f h 18 3 19 (by decide +kernel)
theorem lf_18_4 {N : Nat} {K len : Nat → Nat} {ρ : RG} (h : Lay N K len ρ) : ρ 18 4 = some 20 := ly_f h 18 4 20 (by decide +kernel)
theorem lf_18_5 {N : Nat} {K len : Nat → Nat} {ρ : RG} (h : Lay N K len ρ) : ρ 18 5 = some 21 := ly_f h 18 5 21 (by decide +kernel)
theorem lf_18_6 {N : Nat} {K len : Nat → Nat} {ρ : RG} (h : Lay N K len ρ) : ρ 18 6 = some 22 := ly_f h 18 6 22 (by decide +kernel)
theorem lf_27_0 {N : Nat} {K len : Nat → Nat} {ρ : RG} (h : Lay N K len ρ) : ρ 27 0 = some 28 := ly_f h 27 0 28 (by decide +kernel)
theorem lf_29_3 {N : Nat} {K len : Nat → Nat} {ρ : RG} (h : Lay N K len ρ) : ρ 29 3 = some 30 := ly_f h 29 3 30 (by decide +kernel)
theorem lf_29_4 {N : Nat} {K len : Nat → Nat} {ρ : RG} (h : Lay N K len ρ) : ρ 29 4 = some 31 := ly_f h 29 4 31 (by decide +kernel)
theorem lf_29_5 {N : Nat} {K len : Nat → Nat} {ρ : RG} (h : Lay N K len ρ) : ρ 29 5 = some 32 := ly_f h 29 5 32 (by decide +kernel)
theorem lf_29_6 {N : Nat} {K len : Nat → Nat} {ρ : RG} (h : Lay N K len ρ) : ρ 29 6 = some 33 := ly_f h 29 6 33 (by decide +kernel)
theorem lf_34_0 {N : Nat} {K len : Nat → Nat} {ρ : RG} (h : Lay N K len ρ) : ρ 34 0 = some 40 := ly_f h 34 0 40 (by decide +kernel)
theorem lf_34_1 {N : Nat} {K len : Nat → Nat} {ρ : RG} (h : Lay N K len ρ) : ρ 34 1 = some 42 := ly_f h 34 1 42 (by decide +kernel)
theorem lf_34_2 {N : Nat} {K len : Nat → Nat} {ρ : RG} (h : Lay N K len ρ) : ρ 34 2 = some 44 := ly_f h 34 2 44 (by decide +kernel)
theorem lf_34_3 {N : Nat} {K len : Nat → Nat} {ρ : RG} (h : Lay N K len ρ) : ρ 34 3 = some 46 := ly_f h 34 3 46 (by decide +kernel)
theorem lf_34_4 {N : Nat} {K len : Nat → Nat} {ρ : RG} (h : Lay N K len ρ) : ρ 34 4 = some 48 := ly_f h 34 4 48 (by decide +kernel)
theorem lf_34_5 {N : Nat} {K len : Nat → Nat} {ρ : RG} (h : Lay N K len ρ) : ρ 34 5 = some 50 := ly_f h 34 5 50 (by decide +kernel)
theorem lf_34_6 {N : Nat} {K len : Nat → Nat} {ρ : RG} (h : Lay N K len ρ) : ρ 34 6 = some 52 := ly_f h 34 6 52 (by decide +kernel)
theorem lf_37_9 {N : Nat} {K len : Nat → Nat} {ρ : RG} (h : Lay N K len ρ) : ρ 37 9 = some 38 := ly_f h 37 9 38 (by decide +kernel)
theorem lf_40_9 {N : Nat} {K len : Nat → Nat} {ρ : RG} (h : Lay N K len ρ) : ρ 40 9 = some 41 := ly_f h 40 9 41 (by decide +kernel)
theorem lf_42_9 {N : Nat} {K len : Nat → Nat} {ρ : RG} (h : Lay N K len ρ) : ρ 42 9 = some 43 := ly_f h 42 9 43 (by decide +kernel)
theorem lf_44_9 {N : Nat} {K len : Nat → Nat} {ρ : RG} (h : Lay N K len ρ) : ρ 44 9 = some 45 := ly_f h 44 9 45 (by decide +kernel)
theorem lf_46_9 {N : Nat} {K len : Nat → Nat} {ρ : RG} (h : Lay N K len ρ) : ρ 46 9 = some 47 := ly_f h 46 9 47 (by decide +kernel)
theorem lf_48_9 {N : Nat} {K len : Nat → Nat} {ρ : RG} (h : Lay N K len ρ) : ρ 48 9 = some 49 := ly_f h 48 9 49 (by decide +kernel)
theorem lf_50_9 {N : Nat} {K len : Nat → Nat} {ρ : RG} (h : Lay N K len ρ) : ρ 50 9 = some 51 := ly_f h 50 9 51 (by decide +kernel)
theorem lf_52_9 {N : Nat} {K len : Nat → Nat} {ρ : RG} (h : Lay N K len ρ) : ρ 52 9 = some 53 := ly_f h 52 9 53 (by decide +kernel)
theorem lf_54_1 {N : Nat} {K len : Nat → Nat} {ρ : RG} (h : Lay N K len ρ) : ρ 54 1 = some 55 := ly_f h 54 1 55 (by decide +kernel)
theorem lf_54_2 {N : Nat} {K len : Nat → Nat} {ρ : RG} (h : Lay N K len ρ) : ρ 54 2 = some 56 := ly_f h 54 2 56 (by decide +kernel)
theorem lf_54_3 {N : Nat} {K len : Nat → Nat} {ρ : RG} (h : Lay N K len ρ) : ρ 54 3 = some 57 := ly_f h 54 3 57 (by decide +kernel)
theorem lf_54_10 {N : Nat} {K len : Nat → Nat} {ρ : RG} (h : Lay N K len ρ) : ρ 54 10 = some 58 := ly_f h 54 10 58 (by decide +kernel)
theorem lf_54_11 {N : Nat} {K len : Nat → Nat} {ρ : RG} (h : Lay N K len ρ) : ρ 54 11 = some 59 := ly_f h 54 11 59 (by decide +kernel)
theorem lf_54_22 {N : Nat} {K len : Nat → Nat} {ρ : RG} (h : Lay N K len ρ) : ρ 54 22 = some 60 := ly_f h 54 22 60 (by decide +kernel)
theorem lf_54_23 {N : Nat} {K len : Nat → Nat} {ρ : RG} (h : Lay N K len ρ) : ρ 54 23 = some 61 := ly_f h 54 23 61 (by decide +kernel)
theorem lf_54_24 {N : Nat} {K len : Nat → Nat} {ρ : RG} (h : Lay N K len ρ) : ρ 54 24 = some 62 := ly_f h 54 24 62 (by decide +kernel)
theorem lf_54_27 {N : Nat} {K len : Nat → Nat} {ρ : RG} (h : Lay N K len ρ) : ρ 54 27 = some 63 := ly_f h 54 27 63 (by decide +kernel)
theorem lf_54_29 {N : Nat} {K len : Nat → Nat} {ρ : RG} (h : Lay N K len ρ) : ρ 54 29 = some 64 := ly_f h 54 29 64 (by decide +kernel)
/-- a loaf's id: its measures lie behind it -/
def isL (N : Nat) (K len : Nat → Nat) (ρ : RG) (i : Nat) : Prop := i < N ∧ K i = 3 ∧ i + 1 < N ∧ K (i + 1) = 14 ∧ len (i + 1) = 6 ∧ ρ i 9 = some (i + 1)
def isA (t : Nat) (N : Nat) (K len : Nat → Nat) (a n : Nat) : Prop := a < N ∧ K a = t ∧ len a = n
theorem il_3 {N : Nat} {K len : Nat → Nat} {ρ : RG} (h : Lay N K len ρ) : isL N K len ρ 3 := ⟨lr_3 h, lk_3 h, lr_4 h, lk_4 h, ln_4 h, lf_3_9 h⟩
theorem il_16 {N : Nat} {K len : Nat → Nat} {ρ : RG} (h : Lay N K len ρ) : isL N K len ρ 16 := ⟨lr_16 h, lk_16 h, lr_17 h, lk_17 h, ln_17 h, lf_16_9 h⟩
theorem il_37 {N : Nat} {K len : Nat → Nat} {ρ : RG} (h : Lay N K len ρ) : isL N K len ρ 37 := ⟨lr_37 h, lk_37 h, lr_38 h, lk_38 h, ln_38 h, lf_37_9 h⟩
theorem il_40 {N : Nat} {K len : Nat → Nat} {ρ : RG} (h : Lay N K len ρ) : isL N K len ρ 40 := ⟨lr_40 h, lk_40 h, lr_41 h, lk_41 h, ln_41 h, lf_40_9 h⟩
theorem il_42 {N : Nat} {K len : Nat → Nat} {ρ : RG} (h : Lay N K len ρ) : isL N K len ρ 42 := ⟨lr_42 h, lk_42 h, lr_43 h, lk_43 h, ln_43 h, lf_42_9 h⟩
theorem il_44 {N : Nat} {K len : Nat → Nat} {ρ : RG} (h : Lay N K len ρ) : isL N K len ρ 44 := ⟨lr_44 h, lk_44 h, lr_45 h, lk_45 h, ln_45 h, lf_44_9 h⟩
theorem il_46 {N : Nat} {K len : Nat → Nat} {ρ : RG} (h : Lay N K len ρ) : isL N K len ρ 46 := ⟨lr_46 h, lk_46 h, lr_47 h, lk_47 h, ln_47 h, lf_46_9 h⟩
theorem il_48 {N : Nat} {K len : Nat → Nat} {ρ : RG} (h : Lay N K len ρ) : isL N K len ρ 48 := ⟨lr_48 h, lk_48 h, lr_49 h, lk_49 h, ln_49 h, lf_48_9 h⟩
theorem il_50 {N : Nat} {K len : Nat → Nat} {ρ : RG} (h : Lay N K len ρ) : isL N K len ρ 50 := ⟨lr_50 h, lk_50 h, lr_51 h, lk_51 h, ln_51 h, lf_50_9 h⟩
theorem il_52 {N : Nat} {K len : Nat → Nat} {ρ : RG} (h : Lay N K len ρ) : isL N K len ρ 52 := ⟨lr_52 h, lk_52 h, lr_53 h, lk_53 h, ln_53 h, lf_52_9 h⟩
theorem cl_0 : (0 : Int32).toNatClampNeg = 0 := by decide +kernel
theorem cl_1 : (1 : Int32).toNatClampNeg = 1 := by decide +kernel
theorem cl_2 : (2 : Int32).toNatClampNeg = 2 := by decide +kernel
theorem cl_3 : (3 : Int32).toNatClampNeg = 3 := by decide +kernel
theorem cl_4 : (4 : Int32).toNatClampNeg = 4 := by decide +kernel
theorem cl_5 : (5 : Int32).toNatClampNeg = 5 := by decide +kernel
theorem cl_6 : (6 : Int32).toNatClampNeg = 6 := by decide +kernel
theorem cl_7 : (7 : Int32).toNatClampNeg = 7 := by decide +kernel
theorem cl_8 : (8 : Int32).toNatClampNeg = 8 := by decide +kernel
theorem cl_9 : (9 : Int32).toNatClampNeg = 9 := by decide +kernel
theorem cl_10 : (10 : Int32).toNatClampNeg = 10 := by decide +kernel
theorem cl_11 : (11 : Int32).toNatClampNeg = 11 := by decide +kernel
theorem cl_12 : (12 : Int32).toNatClampNeg = 12 := by decide +kernel
theorem cl_13 : (13 : Int32).toNatClampNeg = 13 := by decide +kernel
theorem cl_14 : (14 : Int32).toNatClampNeg = 14 := by decide +kernel
theorem cl_15 : (15 : Int32).toNatClampNeg = 15 := by decide +kernel
theorem cl_16 : (16 : Int32).toNatClampNeg = 16 := by decide +kernel
theorem cl_17 : (17 : Int32).toNatClampNeg = 17 := by decide +kernel
theorem cl_18 : (18 : Int32).toNatClampNeg = 18 := by decide +kernel
theorem cl_19 : (19 : Int32).toNatClampNeg = 19 := by decide +kernel
theorem cl_20 : (20 : Int32).toNatClampNeg = 20 := by decide +kernel
theorem cl_21 : (21 : Int32).toNatClampNeg = 21 := by decide +kernel
theorem cl_22 : (22 : Int32).toNatClampNeg = 22 := by decide +kernel
theorem cl_23 : (23 : Int32).toNatClampNeg = 23 := by decide +kernel
theorem cl_24 : (24 : Int32).toNatClampNeg = 24 := by decide +kernel
theorem cl_25 : (25 : Int32).toNatClampNeg = 25 := by decide +kernel
theorem cl_26 : (26 : Int32).toNatClampNeg = 26 := by decide +kernel
theorem cl_27 : (27 : Int32).toNatClampNeg = 27 := by decide +kernel
theorem cl_28 : (28 : Int32).toNatClampNeg = 28 := by decide +kernel
theorem cl_29 : (29 : Int32).toNatClampNeg = 29 := by decide +kernel
theorem cl_30 : (30 : Int32).toNatClampNeg = 30 := by decide +kernel
theorem cl_31 : (31 : Int32).toNatClampNeg = 31 := by decide +kernel
theorem cl_32 : (32 : Int32).toNatClampNeg = 32 := by decide +kernel
theorem cl_33 : (33 : Int32).toNatClampNeg = 33 := by decide +kernel
theorem cl_34 : (34 : Int32).toNatClampNeg = 34 := by decide +kernel
theorem cl_35 : (35 : Int32).toNatClampNeg = 35 := by decide +kernel
theorem cl_36 : (36 : Int32).toNatClampNeg = 36 := by decide +kernel
theorem cl_37 : (37 : Int32).toNatClampNeg = 37 := by decide +kernel
theorem cl_38 : (38 : Int32).toNatClampNeg = 38 := by decide +kernel
theorem cl_39 : (39 : Int32).toNatClampNeg = 39 := by decide +kernel
theorem cl_40 : (40 : Int32).toNatClampNeg = 40 := by decide +kernel
theorem cl_42 : (42 : Int32).toNatClampNeg = 42 := by decide +kernel
theorem cl_44 : (44 : Int32).toNatClampNeg = 44 := by decide +kernel
theorem cl_47 : (47 : Int32).toNatClampNeg = 47 := by decide +kernel
theorem cl_48 : (48 : Int32).toNatClampNeg = 48 := by decide +kernel
theorem cl_50 : (50 : Int32).toNatClampNeg = 50 := by decide +kernel
theorem cl_60 : (60 : Int32).toNatClampNeg = 60 := by decide +kernel
theorem cl_62 : (62 : Int32).toNatClampNeg = 62 := by decide +kernel
theorem cl_64 : (64 : Int32).toNatClampNeg = 64 := by decide +kernel
theorem cl_66 : (66 : Int32).toNatClampNeg = 66 := by decide +kernel
theorem cl_74 : (74 : Int32).toNatClampNeg = 74 := by decide +kernel
theorem cl_78 : (78 : Int32).toNatClampNeg = 78 := by decide +kernel
theorem cl_86 : (86 : Int32).toNatClampNeg = 86 := by decide +kernel
theorem cl_94 : (94 : Int32).toNatClampNeg = 94 := by decide +kernel
theorem cl_99 : (99 : Int32).toNatClampNeg = 99 := by decide +kernel
theorem cl_100 : (100 : Int32).toNatClampNeg = 100 := by decide +kernel
theorem cl_194 : (194 : Int32).toNatClampNeg = 194 := by decide +kernel
theorem cl_199 : (199 : Int32).toNatClampNeg = 199 := by decide +kernel
theorem cl_204 : (204 : Int32).toNatClampNeg = 204 := by decide +kernel
theorem cl_209 : (209 : Int32).toNatClampNeg = 209 := by decide +kernel
theorem cl_909 : (909 : Int32).toNatClampNeg = 909 := by decide +kernel
theorem rf_or (ad : Nat → Nat) (x : Option Nat) : rf ad x = .null ∨ ∃ a, rf ad x = .ref a := by
  cases x with
  | none => exact Or.inl rfl
  | some i => exact Or.inr ⟨_, rfl⟩
theorem ret_3 {α β γ : Type} {a a' : α} {b b' : β} {c c' : γ} (h : some (a, b, c) = some (a', b', c')) : a' = a ∧ b' = b ∧ c' = c := by cases h; exact ⟨rfl, rfl, rfl⟩
def bn3 {α β γ δ : Type} (o : Option (α × β × γ)) (f : α → β → γ → Option δ) : Option δ := o.bind (fun q => f q.1 q.2.1 q.2.2)
theorem bn3_1 {α β γ δ : Type} {o : Option (α × β × γ)} {f : α → β → γ → Option δ} {y : δ} (h : bn3 o f = some y) : ∃ a b c, o = some (a, b, c) ∧ f a b c = some y := by
  cases o with
  | none => cases h
  | some x => exact ⟨x.1, x.2.1, x.2.2, rfl, h⟩
def isB (v : Int32) : Bool := v.toInt8.toInt32 == v
def cpy (σ : SG) (a b k : Nat) : SG := va_up σ b (va_cpy (σ a) (σ b) 0 0 k)
theorem cpy_at (σ : SG) (a b k r j : Nat) : cpy σ a b k r j = if r = b then (if j < k then σ a j else σ b j) else σ r j := by
  unfold cpy va_up va_cpy
  by_cases h : r = b
  · subst h
    by_cases h2 : j < k <;> simp [h2]
  · simp [h]
theorem isb_fits {v : Int32} (h : isb v = true) : fits .boolean (.int v) = true := by rcases isb_01 h with rfl | rfl <;> rfl
theorem isB_fits {v : Int32} (h : isB v = true) : fits .byte (.int v) = true := by
  have e : v.toInt8.toInt32 = v := by simpa [isB] using h
  rw [← e]
  exact pk_fb v
section COPY
variable {Y : YT} {D : va_G} {N : Nat} {ad K len : Nat → Nat} {p : Program} {l : Launch} {e : Env} {R : Room} {s : State} {m : MethodId} {args : Array Value} {below : List Frame} {meth : Method} {c : Code} {H : Heap} {locs : List Loc} {cells slots : Nat} {Q : State → Prop}
variable {cc : ByteArray} {nL : Nat} {ret : Option FieldType} {own : String} {Ts : List Cond} {pc : Nat} {ls : Array Slot} {rest : List Value} {σ σ1 : SG} {ρ ρ1 : RG}
theorem x_n (k : W p l e R s m args below meth c H locs cells slots Q (F0 m pc ls (.null :: rest))) : W p l e R s m args below meth c H locs cells slots Q (F0 m pc ls (rf ad none :: rest)) := k
theorem x_s {i : Nat} (k : W p l e R s m args below meth c H locs cells slots Q (F0 m pc ls (.ref (ad i) :: rest))) : W p l e R s m args below meth c H locs cells slots Q (F0 m pc ls (rf ad (some i) :: rest)) := k
theorem x_aastN {r n : Nat} {i : Int32} (C : Cx Y D N ad p s m args meth c cc nL ret own Ts) (hP : WP Y D N ad K len σ ρ H) (hS : va_S (AA N ad s.heap.size) s.heap H locs) (hr : r < N) (hk : K r = 16) (hn : len r = n) (hin : inb i n = true) (e1 : ρ1 = r2 ρ r i.toNatClampNeg none) (hdg : decode cc pc = .ok (.aastore, 1))
    (kk : ∀ (H1 : Heap) (locs1 : List Loc), WP Y D N ad K len σ ρ1 H1 → va_S (AA N ad s.heap.size) s.heap H1 locs1 → W p l e R s m args below meth c H1 locs1 cells slots Q (F0 m (pc + 1) ls rest)) : W p l e R s m args below meth c H locs cells slots Q (F0 m pc ls (.null :: .int i :: .ref (ad r) :: rest)) := by
  obtain ⟨⟨hx, hb, hml, hown, hts⟩, -, -, hK, hI, -⟩ := C
  subst e1
  refine va_astqN (ws := wl N ad (cf Y ad K len σ ρ)) (cA := Y.2.2.2.1) (C := "CutCrooked$Cutter") (n := n) (f := fun j => (ρ r j).map ad) hx hb hK hP (WD hI) hS r 3 (by rw [cf_at hr hk, hn]; rfl) rfl (inb_in hin) hdg
    (fun H1 locs1 hP1 _ hS1 => kk H1 locs1 (WP_set hr hP1 ?_ (fun _ _ => rfl) r2_ne) hS1)
  rw [hk, hn, r2_eq]
  have hf : (fun j => (va_up (ρ r) i.toNatClampNeg none j).map ad) = va_up (fun j => (ρ r j).map ad) i.toNatClampNeg none := by
    funext j
    by_cases h : j = i.toNatClampNeg
    · rw [h, va_up_self, va_up_self]; rfl
    · rw [va_up_ne _ _ h, va_up_ne _ _ h]
  show Sum.inl (Y.2.2.2.1, n, _) = _
  rw [← hf]
theorem x_aastL {r n t : Nat} {i : Int32} (C : Cx Y D N ad p s m args meth c cc nL ret own Ts) (hP : WP Y D N ad K len σ ρ H) (hS : va_S (AA N ad s.heap.size) s.heap H locs) (hr : r < N) (hk : K r = 17) (hn : len r = n) (ht : t < N) (hkt : K t = 3) (hin : inb i n = true) (e1 : ρ1 = r2 ρ r i.toNatClampNeg (some t)) (hdg : decode cc pc = .ok (.aastore, 1))
    (kk : ∀ (H1 : Heap) (locs1 : List Loc), WP Y D N ad K len σ ρ1 H1 → va_S (AA N ad s.heap.size) s.heap H1 locs1 → W p l e R s m args below meth c H1 locs1 cells slots Q (F0 m (pc + 1) ls rest)) : W p l e R s m args below meth c H locs cells slots Q (F0 m pc ls (.ref (ad t) :: .int i :: .ref (ad r) :: rest)) := by
  obtain ⟨⟨hx, hb, hml, hown, hts⟩, -, -, hK, hI, -⟩ := C
  subst e1
  refine va_astq (ws := wl N ad (cf Y ad K len σ ρ)) (cA := Y.2.2.2.2.1) (r := (RX3, TX3, 10)) (n := n) (f := fun j => (ρ r j).map ad) (vs := flds ad 3 (σ t) (ρ t)) hx hb hK hP (WD hI) hS r 4 t 3 (by rw [cf_at hr hk, hn]; rfl) rfl (by rw [cf_at ht hkt]; rfl) rfl (inb_in hin) hdg
    (fun H1 locs1 hP1 _ hS1 => kk H1 locs1 (WP_set hr hP1 ?_ (fun _ _ => rfl) r2_ne) hS1)
  rw [hk, hn, r2_eq]
  have hf : (fun j => (va_up (ρ r) i.toNatClampNeg (some t) j).map ad) = va_up (fun j => (ρ r j).map ad) i.toNatClampNeg (some (ad t)) := by
    funext j
    by_cases h : j = i.toNatClampNeg
    · rw [h, va_up_self, va_up_self]; rfl
    · rw [va_up_ne _ _ h, va_up_ne _ _ h]
  show Sum.inl (Y.2.2.2.2.1, n, _) = _
  rw [← hf]
theorem x_copyG {t ty1 : Nat} {ty : FieldType} {cA : ClassId} {a b na nb n : Nat} {nn : Int32} {index : Nat} (ht1 : (tysY Y)[ty1]? = some (cA, ty)) (hprim : refKind ty = false) (hc : ∀ (z : Nat) (g : Nat → Int32) (h : Nat → Option Nat), cel Y ad t z g h = .inl (cA, z, .inl g)) (hfit : ∀ i, i < n → fits ty (.int (σ a i)) = true)
    (C : Cx Y D N ad p s m args meth c cc nL ret own Ts) (hP : WP Y D N ad K len σ ρ H) (hS : va_S (AA N ad s.heap.size) s.heap H locs) (hls : ls.size = nL) (ra : a < N) (rb : b < N) (ka : K a = t) (kb : K b = t) (ha : len a = na) (hb' : len b = nb) (hn : nn.toNatClampNeg = n) (h3 : ¬ nn < 0) (h4 : n ≤ na) (h5 : n ≤ nb) (e1 : σ1 = cpy σ a b n)
    (w1 : Cond.methodLink own index arraycopyName ∈ Ts) (w2 : Cond.native arraycopyName ∈ Ts) (w3 : Cond.static arraycopyName ∈ Ts) (w4 : Cond.initialized "java/lang/System" ∈ Ts) (hfr : 1 ≤ R.frames) (hlo : (rest.map fun v => v.category).sum + (nativeFrameWords "java/lang/System" "arraycopy" 5 + 11) ≤ R.locals) (hdg : decode cc pc = .ok (.invokestatic index, 3))
    (kk : ∀ (H1 : Heap) (locs1 : List Loc), WP Y D N ad K len σ1 ρ H1 → va_S (AA N ad s.heap.size) s.heap H1 locs1 → W p l e R s m args below meth c H1 locs1 cells slots Q (F0 m (pc + 3) ls rest)) : W p l e R s m args below meth c H locs cells slots Q (F0 m pc ls (.int nn :: .int 0 :: .ref (ad b) :: .int 0 :: .ref (ad a) :: rest)) := by
  obtain ⟨⟨hx, hb, hml, hown, hts⟩, -, -, hK, hI, -⟩ := C
  subst e1
  refine va_copyi (ws := wl N ad (cf Y ad K len σ ρ)) hx hb (hml.trans hls.symm) hown (hts _ w1) (hts _ w2) (hts _ w3) (hts _ w4) hK hP (WD hI) hS a b ty1 ty1 (n0 := na) (n1 := nb) (f := σ a) (g := σ b) (by rw [cf_at ra ka, hc, ha]) (by rw [cf_at rb kb, hc, hb']) ht1 ht1 hprim (by decide) (by decide) h3 (by rw [cl_0, hn]; omega) (by rw [cl_0, hn]; omega) (fun i hi => by rw [cl_0, Nat.zero_add]; exact hfit i (by rw [hn] at hi; exact hi)) hfr hlo hdg
    (fun H1 locs1 hP1 _ hS1 => kk H1 locs1 (WP_set rb hP1 ?_ (fun q h => va_up_ne _ _ h) (fun _ _ => rfl)) hS1)
  rw [kb, hc, hb', hn, cl_0]
  unfold cpy
  rw [va_up_self]
theorem x_copyI {a b na nb n : Nat} {nn : Int32} {index : Nat} (C : Cx Y D N ad p s m args meth c cc nL ret own Ts) (hP : WP Y D N ad K len σ ρ H) (hS : va_S (AA N ad s.heap.size) s.heap H locs) (hls : ls.size = nL) (ra : a < N) (rb : b < N) (ka : K a = 14) (kb : K b = 14) (ha : len a = na) (hb' : len b = nb) (hn : nn.toNatClampNeg = n) (h3 : ¬ nn < 0) (h4 : n ≤ na) (h5 : n ≤ nb) (e1 : σ1 = cpy σ a b n)
    (w1 : Cond.methodLink own index arraycopyName ∈ Ts) (w2 : Cond.native arraycopyName ∈ Ts) (w3 : Cond.static arraycopyName ∈ Ts) (w4 : Cond.initialized "java/lang/System" ∈ Ts) (hfr : 1 ≤ R.frames) (hlo : (rest.map fun v => v.category).sum + (nativeFrameWords "java/lang/System" "arraycopy" 5 + 11) ≤ R.locals) (hdg : decode cc pc = .ok (.invokestatic index, 3))
    (kk : ∀ (H1 : Heap) (locs1 : List Loc), WP Y D N ad K len σ1 ρ H1 → va_S (AA N ad s.heap.size) s.heap H1 locs1 → W p l e R s m args below meth c H1 locs1 cells slots Q (F0 m (pc + 3) ls rest)) : W p l e R s m args below meth c H locs cells slots Q (F0 m pc ls (.int nn :: .int 0 :: .ref (ad b) :: .int 0 :: .ref (ad a) :: rest)) :=
  x_copyG (t := 14) (ty1 := 1) (ty := .int) (cA := Y.2.1) rfl rfl (fun _ _ _ => rfl) (fun _ _ => rfl) C hP hS hls ra rb ka kb ha hb' hn h3 h4 h5 e1 w1 w2 w3 w4 hfr hlo hdg kk
theorem x_copyZ {a b na nb n : Nat} {nn : Int32} {index : Nat} (C : Cx Y D N ad p s m args meth c cc nL ret own Ts) (hP : WP Y D N ad K len σ ρ H) (hS : va_S (AA N ad s.heap.size) s.heap H locs) (hls : ls.size = nL) (ra : a < N) (rb : b < N) (ka : K a = 15) (kb : K b = 15) (ha : len a = na) (hb' : len b = nb) (hn : nn.toNatClampNeg = n) (h3 : ¬ nn < 0) (h4 : n ≤ na) (h5 : n ≤ nb) (hz : (List.range n).all (fun i => isb (σ a i)) = true) (e1 : σ1 = cpy σ a b n)
    (w1 : Cond.methodLink own index arraycopyName ∈ Ts) (w2 : Cond.native arraycopyName ∈ Ts) (w3 : Cond.static arraycopyName ∈ Ts) (w4 : Cond.initialized "java/lang/System" ∈ Ts) (hfr : 1 ≤ R.frames) (hlo : (rest.map fun v => v.category).sum + (nativeFrameWords "java/lang/System" "arraycopy" 5 + 11) ≤ R.locals) (hdg : decode cc pc = .ok (.invokestatic index, 3))
    (kk : ∀ (H1 : Heap) (locs1 : List Loc), WP Y D N ad K len σ1 ρ H1 → va_S (AA N ad s.heap.size) s.heap H1 locs1 → W p l e R s m args below meth c H1 locs1 cells slots Q (F0 m (pc + 3) ls rest)) : W p l e R s m args below meth c H locs cells slots Q (F0 m pc ls (.int nn :: .int 0 :: .ref (ad b) :: .int 0 :: .ref (ad a) :: rest)) :=
  x_copyG (t := 15) (ty1 := 2) (ty := .boolean) (cA := Y.2.2.1) rfl rfl (fun _ _ _ => rfl) (fun i hi => isb_fits (List.all_eq_true.mp hz i (List.mem_range.mpr hi))) C hP hS hls ra rb ka kb ha hb' hn h3 h4 h5 e1 w1 w2 w3 w4 hfr hlo hdg kk
theorem x_copyB {a b na nb n : Nat} {nn : Int32} {index : Nat} (C : Cx Y D N ad p s m args meth c cc nL ret own Ts) (hP : WP Y D N ad K len σ ρ H) (hS : va_S (AA N ad s.heap.size) s.heap H locs) (hls : ls.size = nL) (ra : a < N) (rb : b < N) (ka : K a = 13) (kb : K b = 13) (ha : len a = na) (hb' : len b = nb) (hn : nn.toNatClampNeg = n) (h3 : ¬ nn < 0) (h4 : n ≤ na) (h5 : n ≤ nb) (hz : (List.range n).all (fun i => isB (σ a i)) = true) (e1 : σ1 = cpy σ a b n)
    (w1 : Cond.methodLink own index arraycopyName ∈ Ts) (w2 : Cond.native arraycopyName ∈ Ts) (w3 : Cond.static arraycopyName ∈ Ts) (w4 : Cond.initialized "java/lang/System" ∈ Ts) (hfr : 1 ≤ R.frames) (hlo : (rest.map fun v => v.category).sum + (nativeFrameWords "java/lang/System" "arraycopy" 5 + 11) ≤ R.locals) (hdg : decode cc pc = .ok (.invokestatic index, 3))
    (kk : ∀ (H1 : Heap) (locs1 : List Loc), WP Y D N ad K len σ1 ρ H1 → va_S (AA N ad s.heap.size) s.heap H1 locs1 → W p l e R s m args below meth c H1 locs1 cells slots Q (F0 m (pc + 3) ls rest)) : W p l e R s m args below meth c H locs cells slots Q (F0 m pc ls (.int nn :: .int 0 :: .ref (ad b) :: .int 0 :: .ref (ad a) :: rest)) :=
  x_copyG (t := 13) (ty1 := 0) (ty := .byte) (cA := Y.1) rfl rfl (fun _ _ _ => rfl) (fun i hi => isB_fits (List.all_eq_true.mp hz i (List.mem_range.mpr hi))) C hP hS hls ra rb ka kb ha hb' hn h3 h4 h5 e1 w1 w2 w3 w4 hfr hlo hdg kk
end COPY
