section ST8
variable {L : sxL} {st : List sxV} {T : sxT} {σ : sxS} {K : Option sxV → sxT → sxS → Prop} {a b c d e f g : Int} {o p q r1 r2 : Nat} {l0 l1 l2 l3 l4 l5 l6 l7 l8 l9 l10 l11 : Option sxV}
theorem s277_0 : Rn 277 0 [some (vR o), l1] st T σ K ↔ Rn 277 1 [some (vR o), l1] (vR o :: st) T σ K := R_aload_n (n := 0) (by decide +kernel) rfl
theorem s277_1 : Rn 277 1 L st T σ K ↔ Rn 277 4 L (vJ 1103515245 :: st) T σ K := R_ldc2 (idx := 355) (v := 1103515245) (by decide +kernel) (by decide +kernel) (by decide) rfl
theorem s277_4 : Rn 277 4 [some (vR o), l1] st T σ K ↔ Rn 277 5 [some (vR o), l1] (vR o :: st) T σ K := R_aload_n (n := 0) (by decide +kernel) rfl
theorem s277_5 : Rn 277 5 L (vR o :: st) T σ K ↔ sx_kd T o = 9 ∧ Rn 277 8 L (vI (σ o 5) :: st) T σ K := R_getI (idx := 26) (ci := 9) (k := 5) (by decide +kernel) (by decide +kernel) (Or.inl rfl)
theorem s277_8 : Rn 277 8 L (vI a :: st) T σ K ↔ Rn 277 9 L (vJ a :: st) T σ K := R_i2l (by decide +kernel)
theorem s277_9 : Rn 277 9 L (vJ b :: vJ a :: st) T σ K ↔ inJ (a * b) ∧ Rn 277 10 L (vJ (a * b) :: st) T σ K := R_lmul (by decide +kernel)
theorem s277_10 : Rn 277 10 L st T σ K ↔ Rn 277 13 L (vJ 12345 :: st) T σ K := R_ldc2 (idx := 357) (v := 12345) (by decide +kernel) (by decide +kernel) (by decide) rfl
theorem s277_13 : Rn 277 13 L (vJ b :: vJ a :: st) T σ K ↔ inJ (a + b) ∧ Rn 277 14 L (vJ (a + b) :: st) T σ K := R_ladd (by decide +kernel)
theorem s277_14 : Rn 277 14 L st T σ K ↔ Rn 277 17 L (vJ 2147483648 :: st) T σ K := R_ldc2 (idx := 359) (v := 2147483648) (by decide +kernel) (by decide +kernel) (by decide) rfl
theorem s277_17 : Rn 277 17 L (vJ b :: vJ a :: st) T σ K ↔ 0 < b ∧ inJ (a.tmod b) ∧ Rn 277 18 L (vJ (a.tmod b) :: st) T σ K := R_lrem (by decide +kernel)
theorem s277_18 : Rn 277 18 L (vJ a :: st) T σ K ↔ inI a ∧ Rn 277 19 L (vI a :: st) T σ K := R_l2i (by decide +kernel)
theorem s277_19 : Rn 277 19 L (vI a :: vR o :: st) T σ K ↔ sx_kd T o = 9 ∧ Rn 277 22 L st T (sx_up σ o 5 a) K := R_putI (idx := 26) (ci := 9) (k := 5) (by decide +kernel) (by decide +kernel) rfl rfl
theorem s277_22 : Rn 277 22 [some (vR o), l1] st T σ K ↔ Rn 277 23 [some (vR o), l1] (vR o :: st) T σ K := R_aload_n (n := 0) (by decide +kernel) rfl
theorem s277_23 : Rn 277 23 L (vR o :: st) T σ K ↔ sx_kd T o = 9 ∧ Rn 277 26 L (vI (σ o 5) :: st) T σ K := R_getI (idx := 26) (ci := 9) (k := 5) (by decide +kernel) (by decide +kernel) (Or.inl rfl)
theorem s277_26 : Rn 277 26 L st T σ K ↔ Rn 277 28 L (vI 64 :: st) T σ K := R_bipush (n := 64) (by decide +kernel) (by decide +kernel)
theorem s277_28 : Rn 277 28 L (vI b :: vI a :: st) T σ K ↔ 0 < b ∧ inI (a.tdiv b) ∧ Rn 277 29 L (vI (a.tdiv b) :: st) T σ K := R_idiv (by decide +kernel)
theorem s277_29 : Rn 277 29 [l0, some (vI a)] st T σ K ↔ Rn 277 30 [l0, some (vI a)] (vI a :: st) T σ K := R_iload_n (n := 1) (by decide +kernel) rfl
theorem s277_30 : Rn 277 30 L (vI b :: vI a :: st) T σ K ↔ 0 < b ∧ inI (a.tmod b) ∧ Rn 277 31 L (vI (a.tmod b) :: st) T σ K := R_irem (by decide +kernel)
theorem s277_31 : Rn 277 31 L [vI a] T σ K ↔ K (some (vI a)) T σ := R_ret (by decide +kernel) (by decide +kernel)
theorem s278_0 : Rn 278 0 [some (vR o), l1] st T σ K ↔ Rn 278 1 [some (vR o), l1] (vR o :: st) T σ K := R_aload_n (n := 0) (by decide +kernel) rfl
theorem s278_1 : Rn 278 1 L (vR o :: st) T σ K ↔ sx_kd T o = 9 ∧ Rn 278 4 L (vI (σ o 4) :: st) T σ K := R_getI (idx := 22) (ci := 9) (k := 4) (by decide +kernel) (by decide +kernel) (Or.inl rfl)
theorem s278_4 : Rn 278 4 L (vI a :: st) T σ K ↔ (a ≠ 0 → Rn 278 13 L st T σ K) ∧ (a = 0 → Rn 278 7 L st T σ K) := R_if_ne (off := 9) (by decide +kernel) (by decide)
theorem s278_7 : Rn 278 7 [some (vR o), l1] st T σ K ↔ Rn 278 8 [some (vR o), l1] (vR o :: st) T σ K := R_aload_n (n := 0) (by decide +kernel) rfl
theorem s278_8 : Rn 278 8 L st T σ K ↔ Rn 278 9 L (vI 4 :: st) T σ K := R_iconst (n := 4) (by decide +kernel) (by decide)
theorem s278_9 : Rn 278 9 L (vI a :: vR o :: st) T σ K ↔ (sx_kd T o = 9 ∧ st.length ≤ 4) ∧ Rn 172 0 [some (vR o), some (vI a)] [] T σ (fun r T' σ' => Rn 278 12 L (sx_push r st) T' σ' K) := R_V (cm := 172) (n := 1) (idx := 146) (ci := 9) (mx := 2) (vs := [vI a]) (by decide +kernel) (by decide +kernel) rfl (by decide +kernel) rfl (by decide +kernel) (by decide +kernel)
theorem s278_12 : Rn 278 12 L [vI a] T σ K ↔ (a = 0 ∨ a = 1) ∧ K (some (vI a)) T σ := R_retZ (by decide +kernel) (by decide +kernel)
theorem s278_13 : Rn 278 13 [some (vR o), l1] st T σ K ↔ Rn 278 14 [some (vR o), l1] (vR o :: st) T σ K := R_aload_n (n := 0) (by decide +kernel) rfl
theorem s278_14 : Rn 278 14 L (vR o :: st) T σ K ↔ Rn 278 15 L (vR o :: vR o :: st) T σ K := R_dup (v := vR o) (by decide +kernel) rfl
theorem s278_15 : Rn 278 15 L (vR o :: st) T σ K ↔ sx_kd T o = 9 ∧ Rn 278 18 L (vI (σ o 4) :: st) T σ K := R_getI (idx := 22) (ci := 9) (k := 4) (by decide +kernel) (by decide +kernel) (Or.inl rfl)
theorem s278_18 : Rn 278 18 L st T σ K ↔ Rn 278 19 L (vI 1 :: st) T σ K := R_iconst (n := 1) (by decide +kernel) (by decide)
theorem s278_19 : Rn 278 19 L (vI b :: vI a :: st) T σ K ↔ inI (a - b) ∧ Rn 278 20 L (vI (a - b) :: st) T σ K := R_isub (by decide +kernel)
theorem s278_20 : Rn 278 20 L (vI a :: vR o :: st) T σ K ↔ sx_kd T o = 9 ∧ Rn 278 23 L st T (sx_up σ o 4 a) K := R_putI (idx := 22) (ci := 9) (k := 4) (by decide +kernel) (by decide +kernel) rfl rfl
theorem s278_23 : Rn 278 23 L st T σ K ↔ Rn 278 24 L (vI 0 :: st) T σ K := R_iconst (n := 0) (by decide +kernel) (by decide)
theorem s278_24 : Rn 278 24 [l0, l1] (vI a :: st) T σ K ↔ Rn 278 25 [l0, some (vI a)] st T σ K := R_istore_n (n := 1) (by decide +kernel) rfl
theorem s278_25 : Rn 278 25 [l0, some (vI a)] st T σ K ↔ Rn 278 26 [l0, some (vI a)] (vI a :: st) T σ K := R_iload_n (n := 1) (by decide +kernel) rfl
theorem s278_26 : Rn 278 26 L st T σ K ↔ Rn 278 29 L (vI 481 :: st) T σ K := R_sipush (n := 481) (by decide +kernel) (by decide +kernel)
theorem s278_29 : Rn 278 29 L (vI b :: vI a :: st) T σ K ↔ (b ≤ a → Rn 278 59 L st T σ K) ∧ (a < b → Rn 278 32 L st T σ K) := R_icmp_ge (off := 30) (by decide +kernel) (by decide)
theorem s278_32 : Rn 278 32 [some (vR o), l1] st T σ K ↔ Rn 278 33 [some (vR o), l1] (vR o :: st) T σ K := R_aload_n (n := 0) (by decide +kernel) rfl
theorem s278_33 : Rn 278 33 L (vR o :: st) T σ K ↔ sx_kd T o = 9 ∧ ∃ t, sx_rf T o 0 = some t ∧ Rn 278 36 L (vR t :: st) T σ K := R_getR (idx := 7) (ci := 9) (k := 0) (by decide +kernel) (by decide +kernel) rfl
theorem s278_36 : Rn 278 36 [l0, some (vI a)] st T σ K ↔ Rn 278 37 [l0, some (vI a)] (vI a :: st) T σ K := R_iload_n (n := 1) (by decide +kernel) rfl
theorem s278_37 : Rn 278 37 [some (vR o), l1] st T σ K ↔ Rn 278 38 [some (vR o), l1] (vR o :: st) T σ K := R_aload_n (n := 0) (by decide +kernel) rfl
theorem s278_38 : Rn 278 38 L (vR o :: st) T σ K ↔ sx_kd T o = 9 ∧ ∃ t, sx_rf T o 1 = some t ∧ Rn 278 41 L (vR t :: st) T σ K := R_getR (idx := 13) (ci := 9) (k := 1) (by decide +kernel) (by decide +kernel) rfl
theorem s278_41 : Rn 278 41 L st T σ K ↔ Rn 278 44 L (vI 481 :: st) T σ K := R_sipush (n := 481) (by decide +kernel) (by decide +kernel)
theorem s278_44 : Rn 278 44 [some (vR o), l1] st T σ K ↔ Rn 278 45 [some (vR o), l1] (vR o :: st) T σ K := R_aload_n (n := 0) (by decide +kernel) rfl
theorem s278_45 : Rn 278 45 L (vR o :: st) T σ K ↔ sx_kd T o = 9 ∧ Rn 278 48 L (vI (σ o 4) :: st) T σ K := R_getI (idx := 22) (ci := 9) (k := 4) (by decide +kernel) (by decide +kernel) (Or.inl rfl)
theorem s278_48 : Rn 278 48 L (vI b :: vI a :: st) T σ K ↔ inI (a * b) ∧ Rn 278 49 L (vI (a * b) :: st) T σ K := R_imul (by decide +kernel)
theorem s278_49 : Rn 278 49 [l0, some (vI a)] st T σ K ↔ Rn 278 50 [l0, some (vI a)] (vI a :: st) T σ K := R_iload_n (n := 1) (by decide +kernel) rfl
theorem s278_50 : Rn 278 50 L (vI b :: vI a :: st) T σ K ↔ inI (a + b) ∧ Rn 278 51 L (vI (a + b) :: st) T σ K := R_iadd (by decide +kernel)
theorem s278_51 : Rn 278 51 L (vI a :: vR o :: st) T σ K ↔ (sx_kd T o = 20 ∧ 0 ≤ a ∧ a < sx_ln T o) ∧ Rn 278 52 L (vI (σ o a) :: st) T σ K := R_iald (by decide +kernel) (by decide)
theorem s278_52 : Rn 278 52 L (vI b :: vI a :: vR o :: st) T σ K ↔ (sx_kd T o = 20 ∧ 0 ≤ a ∧ a < sx_ln T o) ∧ Rn 278 53 L st T (sx_up σ o a b) K := R_iast (by decide +kernel)
theorem s278_53 : Rn 278 53 [l0, some (vI a)] st T σ K ↔ inI (a + 1) ∧ Rn 278 56 [l0, some (vI (a + 1))] st T σ K := R_iinc (n := 1) (d := 1) (by decide +kernel) rfl
theorem s278_56 : Rn 278 56 L st T σ K ↔ Rn 278 25 L st T σ K := R_goto (off := -31) (by decide +kernel) (by decide)
theorem s278_59 : Rn 278 59 L st T σ K ↔ Rn 278 60 L (vI 1 :: st) T σ K := R_iconst (n := 1) (by decide +kernel) (by decide)
theorem s278_60 : Rn 278 60 L [vI a] T σ K ↔ (a = 0 ∨ a = 1) ∧ K (some (vI a)) T σ := R_retZ (by decide +kernel) (by decide +kernel)
theorem s279_0 : Rn 279 0 [l0, some (vI a)] st T σ K ↔ Rn 279 1 [l0, some (vI a)] (vI a :: st) T σ K := R_iload_n (n := 1) (by decide +kernel) rfl
theorem s279_1 : Rn 279 1 L (vI a :: st) T σ K ↔ (0 ≤ a → Rn 279 10 L st T σ K) ∧ (a < 0 → Rn 279 4 L st T σ K) := R_if_ge (off := 9) (by decide +kernel) (by decide)
theorem s279_4 : Rn 279 4 [some (vR o), l1] st T σ K ↔ Rn 279 5 [some (vR o), l1] (vR o :: st) T σ K := R_aload_n (n := 0) (by decide +kernel) rfl
theorem s279_5 : Rn 279 5 L st T σ K ↔ Rn 279 6 L (vI 5 :: st) T σ K := R_iconst (n := 5) (by decide +kernel) (by decide)
theorem s279_6 : Rn 279 6 L (vI a :: vR o :: st) T σ K ↔ (sx_kd T o = 9 ∧ st.length ≤ 4) ∧ Rn 172 0 [some (vR o), some (vI a)] [] T σ (fun r T' σ' => Rn 279 9 L (sx_push r st) T' σ' K) := R_V (cm := 172) (n := 1) (idx := 146) (ci := 9) (mx := 2) (vs := [vI a]) (by decide +kernel) (by decide +kernel) rfl (by decide +kernel) rfl (by decide +kernel) (by decide +kernel)
theorem s279_9 : Rn 279 9 L [vI a] T σ K ↔ (a = 0 ∨ a = 1) ∧ K (some (vI a)) T σ := R_retZ (by decide +kernel) (by decide +kernel)
theorem s279_10 : Rn 279 10 [some (vR o), l1] st T σ K ↔ Rn 279 11 [some (vR o), l1] (vR o :: st) T σ K := R_aload_n (n := 0) (by decide +kernel) rfl
theorem s279_11 : Rn 279 11 [l0, some (vI a)] st T σ K ↔ Rn 279 12 [l0, some (vI a)] (vI a :: st) T σ K := R_iload_n (n := 1) (by decide +kernel) rfl
theorem s279_12 : Rn 279 12 L (vI a :: vR o :: st) T σ K ↔ sx_kd T o = 9 ∧ Rn 279 15 L st T (sx_up σ o 5 a) K := R_putI (idx := 26) (ci := 9) (k := 5) (by decide +kernel) (by decide +kernel) rfl rfl
theorem s279_15 : Rn 279 15 L st T σ K ↔ Rn 279 16 L (vI 1 :: st) T σ K := R_iconst (n := 1) (by decide +kernel) (by decide)
theorem s279_16 : Rn 279 16 L [vI a] T σ K ↔ (a = 0 ∨ a = 1) ∧ K (some (vI a)) T σ := R_retZ (by decide +kernel) (by decide +kernel)
theorem s280_0 : Rn 280 0 [some (vR o), l1, l2] st T σ K ↔ Rn 280 1 [some (vR o), l1, l2] (vR o :: st) T σ K := R_aload_n (n := 0) (by decide +kernel) rfl
theorem s280_1 : Rn 280 1 L (vR o :: st) T σ K ↔ sx_kd T o = 9 ∧ Rn 280 4 L (vI (σ o 6) :: st) T σ K := R_getI (idx := 29) (ci := 9) (k := 6) (by decide +kernel) (by decide +kernel) (Or.inr rfl)
theorem s280_4 : Rn 280 4 L (vI a :: st) T σ K ↔ (a ≠ 0 → Rn 280 9 L st T σ K) ∧ (a = 0 → Rn 280 7 L st T σ K) := R_if_ne (off := 5) (by decide +kernel) (by decide)
theorem s280_7 : Rn 280 7 L st T σ K ↔ Rn 280 8 L (vI (-1) :: st) T σ K := R_iconst (n := -1) (by decide +kernel) (by decide)
theorem s280_8 : Rn 280 8 L [vI a] T σ K ↔ K (some (vI a)) T σ := R_ret (by decide +kernel) (by decide +kernel)
theorem s280_9 : Rn 280 9 [some (vR o), l1, l2] st T σ K ↔ Rn 280 10 [some (vR o), l1, l2] (vR o :: st) T σ K := R_aload_n (n := 0) (by decide +kernel) rfl
theorem s280_10 : Rn 280 10 L st T σ K ↔ Rn 280 11 L (vI 0 :: st) T σ K := R_iconst (n := 0) (by decide +kernel) (by decide)
theorem s280_11 : Rn 280 11 L (vI a :: vR o :: st) T σ K ↔ sx_kd T o = 9 ∧ Rn 280 14 L st T (sx_up σ o 41 a) K := R_putI (idx := 135) (ci := 9) (k := 41) (by decide +kernel) (by decide +kernel) rfl rfl
theorem s280_14 : Rn 280 14 [some (vR o), l1, l2] st T σ K ↔ Rn 280 15 [some (vR o), l1, l2] (vR o :: st) T σ K := R_aload_n (n := 0) (by decide +kernel) rfl
theorem s280_15 : Rn 280 15 [some (vR o), l1, l2] st T σ K ↔ Rn 280 16 [some (vR o), l1, l2] (vR o :: st) T σ K := R_aload_n (n := 0) (by decide +kernel) rfl
theorem s280_16 : Rn 280 16 L (vR o :: st) T σ K ↔ sx_kd T o = 9 ∧ ∃ t, sx_rf T o 0 = some t ∧ Rn 280 19 L (vR t :: st) T σ K := R_getR (idx := 7) (ci := 9) (k := 0) (by decide +kernel) (by decide +kernel) rfl
theorem s280_19 : Rn 280 19 L st T σ K ↔ Rn 280 22 L (vI 480 :: st) T σ K := R_sipush (n := 480) (by decide +kernel) (by decide +kernel)
theorem s280_22 : Rn 280 22 L (vI a :: vR o :: st) T σ K ↔ (sx_kd T o = 20 ∧ 0 ≤ a ∧ a < sx_ln T o) ∧ Rn 280 23 L (vI (σ o a) :: st) T σ K := R_iald (by decide +kernel) (by decide)
theorem s280_23 : Rn 280 23 L (vI a :: vR o :: st) T σ K ↔ (sx_kd T o = 9 ∧ st.length ≤ 4) ∧ Rn 281 0 [some (vR o), some (vI a)] [] T σ (fun r T' σ' => Rn 280 26 L (sx_push r st) T' σ' K) := R_V (cm := 281) (n := 1) (idx := 370) (ci := 9) (mx := 2) (vs := [vI a]) (by decide +kernel) (by decide +kernel) rfl (by decide +kernel) rfl (by decide +kernel) (by decide +kernel)
theorem s280_26 : Rn 280 26 [some (vR o), l1, l2] st T σ K ↔ Rn 280 27 [some (vR o), l1, l2] (vR o :: st) T σ K := R_aload_n (n := 0) (by decide +kernel) rfl
theorem s280_27 : Rn 280 27 [some (vR o), l1, l2] st T σ K ↔ Rn 280 28 [some (vR o), l1, l2] (vR o :: st) T σ K := R_aload_n (n := 0) (by decide +kernel) rfl
theorem s280_28 : Rn 280 28 L (vR o :: st) T σ K ↔ (sx_kd T o = 9 ∧ st.length ≤ 4) ∧ Rn 202 0 [some (vR o), none, none] [] T σ (fun r T' σ' => Rn 280 31 L (sx_push r st) T' σ' K) := R_V (cm := 202) (n := 0) (idx := 248) (ci := 9) (mx := 3) (vs := []) (by decide +kernel) (by decide +kernel) rfl (by decide +kernel) rfl (by decide +kernel) (by decide +kernel)
theorem s280_31 : Rn 280 31 L (vI a :: vR o :: st) T σ K ↔ (sx_kd T o = 9 ∧ st.length ≤ 4) ∧ Rn 281 0 [some (vR o), some (vI a)] [] T σ (fun r T' σ' => Rn 280 34 L (sx_push r st) T' σ' K) := R_V (cm := 281) (n := 1) (idx := 370) (ci := 9) (mx := 2) (vs := [vI a]) (by decide +kernel) (by decide +kernel) rfl (by decide +kernel) rfl (by decide +kernel) (by decide +kernel)
theorem s280_34 : Rn 280 34 L st T σ K ↔ Rn 280 35 L (vI 0 :: st) T σ K := R_iconst (n := 0) (by decide +kernel) (by decide)
theorem s280_35 : Rn 280 35 [l0, l1, l2] (vI a :: st) T σ K ↔ Rn 280 36 [l0, some (vI a), l2] st T σ K := R_istore_n (n := 1) (by decide +kernel) rfl
theorem s280_36 : Rn 280 36 [l0, some (vI a), l2] st T σ K ↔ Rn 280 37 [l0, some (vI a), l2] (vI a :: st) T σ K := R_iload_n (n := 1) (by decide +kernel) rfl
theorem s280_37 : Rn 280 37 L st T σ K ↔ Rn 280 39 L (vI 40 :: st) T σ K := R_bipush (n := 40) (by decide +kernel) (by decide +kernel)
theorem s280_39 : Rn 280 39 L (vI b :: vI a :: st) T σ K ↔ (b ≤ a → Rn 280 154 L st T σ K) ∧ (a < b → Rn 280 42 L st T σ K) := R_icmp_ge (off := 115) (by decide +kernel) (by decide)
theorem s280_42 : Rn 280 42 [some (vR o), l1, l2] st T σ K ↔ Rn 280 43 [some (vR o), l1, l2] (vR o :: st) T σ K := R_aload_n (n := 0) (by decide +kernel) rfl
theorem s280_43 : Rn 280 43 L (vR o :: st) T σ K ↔ sx_kd T o = 9 ∧ ∃ t, sx_rf T o 0 = some t ∧ Rn 280 46 L (vR t :: st) T σ K := R_getR (idx := 7) (ci := 9) (k := 0) (by decide +kernel) (by decide +kernel) rfl
theorem s280_46 : Rn 280 46 L st T σ K ↔ Rn 280 47 L (vI 0 :: st) T σ K := R_iconst (n := 0) (by decide +kernel) (by decide)
theorem s280_47 : Rn 280 47 [l0, some (vI a), l2] st T σ K ↔ Rn 280 48 [l0, some (vI a), l2] (vI a :: st) T σ K := R_iload_n (n := 1) (by decide +kernel) rfl
theorem s280_48 : Rn 280 48 L (vI b :: vI a :: st) T σ K ↔ inI (a + b) ∧ Rn 280 49 L (vI (a + b) :: st) T σ K := R_iadd (by decide +kernel)
theorem s280_49 : Rn 280 49 L (vI a :: vR o :: st) T σ K ↔ (sx_kd T o = 20 ∧ 0 ≤ a ∧ a < sx_ln T o) ∧ Rn 280 50 L (vI (σ o a) :: st) T σ K := R_iald (by decide +kernel) (by decide)
theorem s280_50 : Rn 280 50 L (vI a :: st) T σ K ↔ (a ≠ 0 → Rn 280 56 L st T σ K) ∧ (a = 0 → Rn 280 53 L st T σ K) := R_if_ne (off := 6) (by decide +kernel) (by decide)
theorem s280_53 : Rn 280 53 L st T σ K ↔ Rn 280 148 L st T σ K := R_goto (off := 95) (by decide +kernel) (by decide)
theorem s280_56 : Rn 280 56 [some (vR o), l1, l2] st T σ K ↔ Rn 280 57 [some (vR o), l1, l2] (vR o :: st) T σ K := R_aload_n (n := 0) (by decide +kernel) rfl
theorem s280_57 : Rn 280 57 [l0, some (vI a), l2] st T σ K ↔ Rn 280 58 [l0, some (vI a), l2] (vI a :: st) T σ K := R_iload_n (n := 1) (by decide +kernel) rfl
theorem s280_58 : Rn 280 58 L (vI a :: vR o :: st) T σ K ↔ (sx_kd T o = 9 ∧ st.length ≤ 4) ∧ Rn 281 0 [some (vR o), some (vI a)] [] T σ (fun r T' σ' => Rn 280 61 L (sx_push r st) T' σ' K) := R_V (cm := 281) (n := 1) (idx := 370) (ci := 9) (mx := 2) (vs := [vI a]) (by decide +kernel) (by decide +kernel) rfl (by decide +kernel) rfl (by decide +kernel) (by decide +kernel)
theorem s280_61 : Rn 280 61 [some (vR o), l1, l2] st T σ K ↔ Rn 280 62 [some (vR o), l1, l2] (vR o :: st) T σ K := R_aload_n (n := 0) (by decide +kernel) rfl
theorem s280_62 : Rn 280 62 [some (vR o), l1, l2] st T σ K ↔ Rn 280 63 [some (vR o), l1, l2] (vR o :: st) T σ K := R_aload_n (n := 0) (by decide +kernel) rfl
theorem s280_63 : Rn 280 63 L (vR o :: st) T σ K ↔ sx_kd T o = 9 ∧ ∃ t, sx_rf T o 0 = some t ∧ Rn 280 66 L (vR t :: st) T σ K := R_getR (idx := 7) (ci := 9) (k := 0) (by decide +kernel) (by decide +kernel) rfl
theorem s280_66 : Rn 280 66 L st T σ K ↔ Rn 280 68 L (vI 40 :: st) T σ K := R_bipush (n := 40) (by decide +kernel) (by decide +kernel)
theorem s280_68 : Rn 280 68 [l0, some (vI a), l2] st T σ K ↔ Rn 280 69 [l0, some (vI a), l2] (vI a :: st) T σ K := R_iload_n (n := 1) (by decide +kernel) rfl
theorem s280_69 : Rn 280 69 L (vI b :: vI a :: st) T σ K ↔ inI (a + b) ∧ Rn 280 70 L (vI (a + b) :: st) T σ K := R_iadd (by decide +kernel)
theorem s280_70 : Rn 280 70 L (vI a :: vR o :: st) T σ K ↔ (sx_kd T o = 20 ∧ 0 ≤ a ∧ a < sx_ln T o) ∧ Rn 280 71 L (vI (σ o a) :: st) T σ K := R_iald (by decide +kernel) (by decide)
theorem s280_71 : Rn 280 71 L (vI a :: vR o :: st) T σ K ↔ (sx_kd T o = 9 ∧ st.length ≤ 4) ∧ Rn 281 0 [some (vR o), some (vI a)] [] T σ (fun r T' σ' => Rn 280 74 L (sx_push r st) T' σ' K) := R_V (cm := 281) (n := 1) (idx := 370) (ci := 9) (mx := 2) (vs := [vI a]) (by decide +kernel) (by decide +kernel) rfl (by decide +kernel) rfl (by decide +kernel) (by decide +kernel)
theorem s280_74 : Rn 280 74 [some (vR o), l1, l2] st T σ K ↔ Rn 280 75 [some (vR o), l1, l2] (vR o :: st) T σ K := R_aload_n (n := 0) (by decide +kernel) rfl
theorem s280_75 : Rn 280 75 [some (vR o), l1, l2] st T σ K ↔ Rn 280 76 [some (vR o), l1, l2] (vR o :: st) T σ K := R_aload_n (n := 0) (by decide +kernel) rfl
theorem s280_76 : Rn 280 76 L (vR o :: st) T σ K ↔ sx_kd T o = 9 ∧ ∃ t, sx_rf T o 0 = some t ∧ Rn 280 79 L (vR t :: st) T σ K := R_getR (idx := 7) (ci := 9) (k := 0) (by decide +kernel) (by decide +kernel) rfl
theorem s280_79 : Rn 280 79 L st T σ K ↔ Rn 280 81 L (vI 80 :: st) T σ K := R_bipush (n := 80) (by decide +kernel) (by decide +kernel)
theorem s280_81 : Rn 280 81 [l0, some (vI a), l2] st T σ K ↔ Rn 280 82 [l0, some (vI a), l2] (vI a :: st) T σ K := R_iload_n (n := 1) (by decide +kernel) rfl
theorem s280_82 : Rn 280 82 L (vI b :: vI a :: st) T σ K ↔ inI (a + b) ∧ Rn 280 83 L (vI (a + b) :: st) T σ K := R_iadd (by decide +kernel)
theorem s280_83 : Rn 280 83 L (vI a :: vR o :: st) T σ K ↔ (sx_kd T o = 20 ∧ 0 ≤ a ∧ a < sx_ln T o) ∧ Rn 280 84 L (vI (σ o a) :: st) T σ K := R_iald (by decide +kernel) (by decide)
theorem s280_84 : Rn 280 84 L (vI a :: vR o :: st) T σ K ↔ (sx_kd T o = 9 ∧ st.length ≤ 4) ∧ Rn 281 0 [some (vR o), some (vI a)] [] T σ (fun r T' σ' => Rn 280 87 L (sx_push r st) T' σ' K) := R_V (cm := 281) (n := 1) (idx := 370) (ci := 9) (mx := 2) (vs := [vI a]) (by decide +kernel) (by decide +kernel) rfl (by decide +kernel) rfl (by decide +kernel) (by decide +kernel)
theorem s280_87 : Rn 280 87 [some (vR o), l1, l2] st T σ K ↔ Rn 280 88 [some (vR o), l1, l2] (vR o :: st) T σ K := R_aload_n (n := 0) (by decide +kernel) rfl
theorem s280_88 : Rn 280 88 [some (vR o), l1, l2] st T σ K ↔ Rn 280 89 [some (vR o), l1, l2] (vR o :: st) T σ K := R_aload_n (n := 0) (by decide +kernel) rfl
theorem s280_89 : Rn 280 89 L (vR o :: st) T σ K ↔ sx_kd T o = 9 ∧ ∃ t, sx_rf T o 0 = some t ∧ Rn 280 92 L (vR t :: st) T σ K := R_getR (idx := 7) (ci := 9) (k := 0) (by decide +kernel) (by decide +kernel) rfl
theorem s280_92 : Rn 280 92 L st T σ K ↔ Rn 280 94 L (vI 120 :: st) T σ K := R_bipush (n := 120) (by decide +kernel) (by decide +kernel)
theorem s280_94 : Rn 280 94 [l0, some (vI a), l2] st T σ K ↔ Rn 280 95 [l0, some (vI a), l2] (vI a :: st) T σ K := R_iload_n (n := 1) (by decide +kernel) rfl
theorem s280_95 : Rn 280 95 L (vI b :: vI a :: st) T σ K ↔ inI (a + b) ∧ Rn 280 96 L (vI (a + b) :: st) T σ K := R_iadd (by decide +kernel)
theorem s280_96 : Rn 280 96 L (vI a :: vR o :: st) T σ K ↔ (sx_kd T o = 20 ∧ 0 ≤ a ∧ a < sx_ln T o) ∧ Rn 280 97 L (vI (σ o a) :: st) T σ K := R_iald (by decide +kernel) (by decide)
theorem s280_97 : Rn 280 97 L (vI a :: vR o :: st) T σ K ↔ (sx_kd T o = 9 ∧ st.length ≤ 4) ∧ Rn 281 0 [some (vR o), some (vI a)] [] T σ (fun r T' σ' => Rn 280 100 L (sx_push r st) T' σ' K) := R_V (cm := 281) (n := 1) (idx := 370) (ci := 9) (mx := 2) (vs := [vI a]) (by decide +kernel) (by decide +kernel) rfl (by decide +kernel) rfl (by decide +kernel) (by decide +kernel)
theorem s280_100 : Rn 280 100 [some (vR o), l1, l2] st T σ K ↔ Rn 280 101 [some (vR o), l1, l2] (vR o :: st) T σ K := R_aload_n (n := 0) (by decide +kernel) rfl
theorem s280_101 : Rn 280 101 [some (vR o), l1, l2] st T σ K ↔ Rn 280 102 [some (vR o), l1, l2] (vR o :: st) T σ K := R_aload_n (n := 0) (by decide +kernel) rfl
theorem s280_102 : Rn 280 102 L (vR o :: st) T σ K ↔ sx_kd T o = 9 ∧ ∃ t, sx_rf T o 0 = some t ∧ Rn 280 105 L (vR t :: st) T σ K := R_getR (idx := 7) (ci := 9) (k := 0) (by decide +kernel) (by decide +kernel) rfl
theorem s280_105 : Rn 280 105 L st T σ K ↔ Rn 280 108 L (vI 160 :: st) T σ K := R_sipush (n := 160) (by decide +kernel) (by decide +kernel)
theorem s280_108 : Rn 280 108 [l0, some (vI a), l2] st T σ K ↔ Rn 280 109 [l0, some (vI a), l2] (vI a :: st) T σ K := R_iload_n (n := 1) (by decide +kernel) rfl
theorem s280_109 : Rn 280 109 L (vI b :: vI a :: st) T σ K ↔ inI (a + b) ∧ Rn 280 110 L (vI (a + b) :: st) T σ K := R_iadd (by decide +kernel)
theorem s280_110 : Rn 280 110 L (vI a :: vR o :: st) T σ K ↔ (sx_kd T o = 20 ∧ 0 ≤ a ∧ a < sx_ln T o) ∧ Rn 280 111 L (vI (σ o a) :: st) T σ K := R_iald (by decide +kernel) (by decide)
theorem s280_111 : Rn 280 111 L (vI a :: vR o :: st) T σ K ↔ (sx_kd T o = 9 ∧ st.length ≤ 4) ∧ Rn 281 0 [some (vR o), some (vI a)] [] T σ (fun r T' σ' => Rn 280 114 L (sx_push r st) T' σ' K) := R_V (cm := 281) (n := 1) (idx := 370) (ci := 9) (mx := 2) (vs := [vI a]) (by decide +kernel) (by decide +kernel) rfl (by decide +kernel) rfl (by decide +kernel) (by decide +kernel)
theorem s280_114 : Rn 280 114 [some (vR o), l1, l2] st T σ K ↔ Rn 280 115 [some (vR o), l1, l2] (vR o :: st) T σ K := R_aload_n (n := 0) (by decide +kernel) rfl
theorem s280_115 : Rn 280 115 [some (vR o), l1, l2] st T σ K ↔ Rn 280 116 [some (vR o), l1, l2] (vR o :: st) T σ K := R_aload_n (n := 0) (by decide +kernel) rfl
theorem s280_116 : Rn 280 116 L (vR o :: st) T σ K ↔ sx_kd T o = 9 ∧ ∃ t, sx_rf T o 0 = some t ∧ Rn 280 119 L (vR t :: st) T σ K := R_getR (idx := 7) (ci := 9) (k := 0) (by decide +kernel) (by decide +kernel) rfl
theorem s280_119 : Rn 280 119 L st T σ K ↔ Rn 280 122 L (vI 200 :: st) T σ K := R_sipush (n := 200) (by decide +kernel) (by decide +kernel)
theorem s280_122 : Rn 280 122 [l0, some (vI a), l2] st T σ K ↔ Rn 280 123 [l0, some (vI a), l2] (vI a :: st) T σ K := R_iload_n (n := 1) (by decide +kernel) rfl
theorem s280_123 : Rn 280 123 L (vI b :: vI a :: st) T σ K ↔ inI (a + b) ∧ Rn 280 124 L (vI (a + b) :: st) T σ K := R_iadd (by decide +kernel)
theorem s280_124 : Rn 280 124 L (vI a :: vR o :: st) T σ K ↔ (sx_kd T o = 20 ∧ 0 ≤ a ∧ a < sx_ln T o) ∧ Rn 280 125 L (vI (σ o a) :: st) T σ K := R_iald (by decide +kernel) (by decide)
theorem s280_125 : Rn 280 125 L st T σ K ↔ Rn 280 126 L (vI (-1) :: st) T σ K := R_iconst (n := -1) (by decide +kernel) (by decide)
theorem s280_126 : Rn 280 126 L (vI b :: vI a :: st) T σ K ↔ (a ≠ b → Rn 280 135 L st T σ K) ∧ (a = b → Rn 280 129 L st T σ K) := R_icmp_ne (off := 9) (by decide +kernel) (by decide)
theorem s280_129 : Rn 280 129 L st T σ K ↔ Rn 280 132 L (vI 255 :: st) T σ K := R_sipush (n := 255) (by decide +kernel) (by decide +kernel)
theorem s280_132 : Rn 280 132 L st T σ K ↔ Rn 280 145 L st T σ K := R_goto (off := 13) (by decide +kernel) (by decide)
theorem s280_135 : Rn 280 135 [some (vR o), l1, l2] st T σ K ↔ Rn 280 136 [some (vR o), l1, l2] (vR o :: st) T σ K := R_aload_n (n := 0) (by decide +kernel) rfl
theorem s280_136 : Rn 280 136 L (vR o :: st) T σ K ↔ sx_kd T o = 9 ∧ ∃ t, sx_rf T o 0 = some t ∧ Rn 280 139 L (vR t :: st) T σ K := R_getR (idx := 7) (ci := 9) (k := 0) (by decide +kernel) (by decide +kernel) rfl
theorem s280_139 : Rn 280 139 L st T σ K ↔ Rn 280 142 L (vI 200 :: st) T σ K := R_sipush (n := 200) (by decide +kernel) (by decide +kernel)
theorem s280_142 : Rn 280 142 [l0, some (vI a), l2] st T σ K ↔ Rn 280 143 [l0, some (vI a), l2] (vI a :: st) T σ K := R_iload_n (n := 1) (by decide +kernel) rfl
theorem s280_143 : Rn 280 143 L (vI b :: vI a :: st) T σ K ↔ inI (a + b) ∧ Rn 280 144 L (vI (a + b) :: st) T σ K := R_iadd (by decide +kernel)
theorem s280_144 : Rn 280 144 L (vI a :: vR o :: st) T σ K ↔ (sx_kd T o = 20 ∧ 0 ≤ a ∧ a < sx_ln T o) ∧ Rn 280 145 L (vI (σ o a) :: st) T σ K := R_iald (by decide +kernel) (by decide)
theorem s280_145 : Rn 280 145 L (vI a :: vR o :: st) T σ K ↔ (sx_kd T o = 9 ∧ st.length ≤ 4) ∧ Rn 281 0 [some (vR o), some (vI a)] [] T σ (fun r T' σ' => Rn 280 148 L (sx_push r st) T' σ' K) := R_V (cm := 281) (n := 1) (idx := 370) (ci := 9) (mx := 2) (vs := [vI a]) (by decide +kernel) (by decide +kernel) rfl (by decide +kernel) rfl (by decide +kernel) (by decide +kernel)
theorem s280_148 : Rn 280 148 [l0, some (vI a), l2] st T σ K ↔ inI (a + 1) ∧ Rn 280 151 [l0, some (vI (a + 1)), l2] st T σ K := R_iinc (n := 1) (d := 1) (by decide +kernel) rfl
theorem s280_151 : Rn 280 151 L st T σ K ↔ Rn 280 36 L st T σ K := R_goto (off := -115) (by decide +kernel) (by decide)
theorem s280_154 : Rn 280 154 L st T σ K ↔ Rn 280 157 L (vI 149 :: st) T σ K := R_sipush (n := 149) (by decide +kernel) (by decide +kernel)
theorem s280_157 : Rn 280 157 [l0, l1, l2] (vI a :: st) T σ K ↔ Rn 280 158 [l0, some (vI a), l2] st T σ K := R_istore_n (n := 1) (by decide +kernel) rfl
theorem s280_158 : Rn 280 158 L st T σ K ↔ Rn 280 159 L (vI 0 :: st) T σ K := R_iconst (n := 0) (by decide +kernel) (by decide)
theorem s280_159 : Rn 280 159 [l0, l1, l2] (vI a :: st) T σ K ↔ Rn 280 160 [l0, l1, some (vI a)] st T σ K := R_istore_n (n := 2) (by decide +kernel) rfl
theorem s280_160 : Rn 280 160 [l0, l1, some (vI a)] st T σ K ↔ Rn 280 161 [l0, l1, some (vI a)] (vI a :: st) T σ K := R_iload_n (n := 2) (by decide +kernel) rfl
theorem s280_161 : Rn 280 161 [some (vR o), l1, l2] st T σ K ↔ Rn 280 162 [some (vR o), l1, l2] (vR o :: st) T σ K := R_aload_n (n := 0) (by decide +kernel) rfl
theorem s280_162 : Rn 280 162 L (vR o :: st) T σ K ↔ sx_kd T o = 9 ∧ Rn 280 165 L (vI (σ o 41) :: st) T σ K := R_getI (idx := 135) (ci := 9) (k := 41) (by decide +kernel) (by decide +kernel) (Or.inl rfl)
theorem s280_165 : Rn 280 165 L (vI b :: vI a :: st) T σ K ↔ (b ≤ a → Rn 280 189 L st T σ K) ∧ (a < b → Rn 280 168 L st T σ K) := R_icmp_ge (off := 24) (by decide +kernel) (by decide)
theorem s280_168 : Rn 280 168 L st T σ K ↔ Rn 280 169 L (vI 3 :: st) T σ K := R_iconst (n := 3) (by decide +kernel) (by decide)
theorem s280_169 : Rn 280 169 [l0, some (vI a), l2] st T σ K ↔ Rn 280 170 [l0, some (vI a), l2] (vI a :: st) T σ K := R_iload_n (n := 1) (by decide +kernel) rfl
theorem s280_170 : Rn 280 170 L (vI b :: vI a :: st) T σ K ↔ inI (a * b) ∧ Rn 280 171 L (vI (a * b) :: st) T σ K := R_imul (by decide +kernel)
theorem s280_171 : Rn 280 171 [some (vR o), l1, l2] st T σ K ↔ Rn 280 172 [some (vR o), l1, l2] (vR o :: st) T σ K := R_aload_n (n := 0) (by decide +kernel) rfl
theorem s280_172 : Rn 280 172 L (vR o :: st) T σ K ↔ sx_kd T o = 9 ∧ ∃ t, sx_rf T o 40 = some t ∧ Rn 280 175 L (vR t :: st) T σ K := R_getR (idx := 132) (ci := 9) (k := 40) (by decide +kernel) (by decide +kernel) rfl
theorem s280_175 : Rn 280 175 [l0, l1, some (vI a)] st T σ K ↔ Rn 280 176 [l0, l1, some (vI a)] (vI a :: st) T σ K := R_iload_n (n := 2) (by decide +kernel) rfl
theorem s280_176 : Rn 280 176 L (vI a :: vR o :: st) T σ K ↔ (sx_kd T o = 20 ∧ 0 ≤ a ∧ a < sx_ln T o) ∧ Rn 280 177 L (vI (σ o a) :: st) T σ K := R_iald (by decide +kernel) (by decide)
theorem s280_177 : Rn 280 177 L (vI b :: vI a :: st) T σ K ↔ inI (a + b) ∧ Rn 280 178 L (vI (a + b) :: st) T σ K := R_iadd (by decide +kernel)
theorem s280_178 : Rn 280 178 L st T σ K ↔ Rn 280 181 L (vI 251 :: st) T σ K := R_sipush (n := 251) (by decide +kernel) (by decide +kernel)
theorem s280_181 : Rn 280 181 L (vI b :: vI a :: st) T σ K ↔ 0 < b ∧ inI (a.tmod b) ∧ Rn 280 182 L (vI (a.tmod b) :: st) T σ K := R_irem (by decide +kernel)
theorem s280_182 : Rn 280 182 [l0, l1, l2] (vI a :: st) T σ K ↔ Rn 280 183 [l0, some (vI a), l2] st T σ K := R_istore_n (n := 1) (by decide +kernel) rfl
theorem s280_183 : Rn 280 183 [l0, l1, some (vI a)] st T σ K ↔ inI (a + 1) ∧ Rn 280 186 [l0, l1, some (vI (a + 1))] st T σ K := R_iinc (n := 2) (d := 1) (by decide +kernel) rfl
theorem s280_186 : Rn 280 186 L st T σ K ↔ Rn 280 160 L st T σ K := R_goto (off := -26) (by decide +kernel) (by decide)
theorem s280_189 : Rn 280 189 [some (vR o), l1, l2] st T σ K ↔ Rn 280 190 [some (vR o), l1, l2] (vR o :: st) T σ K := R_aload_n (n := 0) (by decide +kernel) rfl
theorem s280_190 : Rn 280 190 [l0, some (vI a), l2] st T σ K ↔ Rn 280 191 [l0, some (vI a), l2] (vI a :: st) T σ K := R_iload_n (n := 1) (by decide +kernel) rfl
theorem s280_191 : Rn 280 191 L (vI a :: vR o :: st) T σ K ↔ (sx_kd T o = 9 ∧ st.length ≤ 4) ∧ Rn 281 0 [some (vR o), some (vI a)] [] T σ (fun r T' σ' => Rn 280 194 L (sx_push r st) T' σ' K) := R_V (cm := 281) (n := 1) (idx := 370) (ci := 9) (mx := 2) (vs := [vI a]) (by decide +kernel) (by decide +kernel) rfl (by decide +kernel) rfl (by decide +kernel) (by decide +kernel)
theorem s280_194 : Rn 280 194 [some (vR o), l1, l2] st T σ K ↔ Rn 280 195 [some (vR o), l1, l2] (vR o :: st) T σ K := R_aload_n (n := 0) (by decide +kernel) rfl
theorem s280_195 : Rn 280 195 L (vR o :: st) T σ K ↔ sx_kd T o = 9 ∧ Rn 280 198 L (vI (σ o 41) :: st) T σ K := R_getI (idx := 135) (ci := 9) (k := 41) (by decide +kernel) (by decide +kernel) (Or.inl rfl)
theorem s280_198 : Rn 280 198 L [vI a] T σ K ↔ K (some (vI a)) T σ := R_ret (by decide +kernel) (by decide +kernel)
theorem s281_0 : Rn 281 0 [some (vR o), l1] st T σ K ↔ Rn 281 1 [some (vR o), l1] (vR o :: st) T σ K := R_aload_n (n := 0) (by decide +kernel) rfl
theorem s281_1 : Rn 281 1 L (vR o :: st) T σ K ↔ sx_kd T o = 9 ∧ ∃ t, sx_rf T o 40 = some t ∧ Rn 281 4 L (vR t :: st) T σ K := R_getR (idx := 132) (ci := 9) (k := 40) (by decide +kernel) (by decide +kernel) rfl
theorem s281_4 : Rn 281 4 [some (vR o), l1] st T σ K ↔ Rn 281 5 [some (vR o), l1] (vR o :: st) T σ K := R_aload_n (n := 0) (by decide +kernel) rfl
theorem s281_5 : Rn 281 5 L (vR o :: st) T σ K ↔ sx_kd T o = 9 ∧ Rn 281 8 L (vI (σ o 41) :: st) T σ K := R_getI (idx := 135) (ci := 9) (k := 41) (by decide +kernel) (by decide +kernel) (Or.inl rfl)
theorem s281_8 : Rn 281 8 [l0, some (vI a)] st T σ K ↔ Rn 281 9 [l0, some (vI a)] (vI a :: st) T σ K := R_iload_n (n := 1) (by decide +kernel) rfl
theorem s281_9 : Rn 281 9 L (vI b :: vI a :: vR o :: st) T σ K ↔ (sx_kd T o = 20 ∧ 0 ≤ a ∧ a < sx_ln T o) ∧ Rn 281 10 L st T (sx_up σ o a b) K := R_iast (by decide +kernel)
theorem s281_10 : Rn 281 10 [some (vR o), l1] st T σ K ↔ Rn 281 11 [some (vR o), l1] (vR o :: st) T σ K := R_aload_n (n := 0) (by decide +kernel) rfl
theorem s281_11 : Rn 281 11 L (vR o :: st) T σ K ↔ Rn 281 12 L (vR o :: vR o :: st) T σ K := R_dup (v := vR o) (by decide +kernel) rfl
theorem s281_12 : Rn 281 12 L (vR o :: st) T σ K ↔ sx_kd T o = 9 ∧ Rn 281 15 L (vI (σ o 41) :: st) T σ K := R_getI (idx := 135) (ci := 9) (k := 41) (by decide +kernel) (by decide +kernel) (Or.inl rfl)
theorem s281_15 : Rn 281 15 L st T σ K ↔ Rn 281 16 L (vI 1 :: st) T σ K := R_iconst (n := 1) (by decide +kernel) (by decide)
theorem s281_16 : Rn 281 16 L (vI b :: vI a :: st) T σ K ↔ inI (a + b) ∧ Rn 281 17 L (vI (a + b) :: st) T σ K := R_iadd (by decide +kernel)
theorem s281_17 : Rn 281 17 L (vI a :: vR o :: st) T σ K ↔ sx_kd T o = 9 ∧ Rn 281 20 L st T (sx_up σ o 41 a) K := R_putI (idx := 135) (ci := 9) (k := 41) (by decide +kernel) (by decide +kernel) rfl rfl
theorem s281_20 : Rn 281 20 L [] T σ K ↔ K none T σ := R_retV (by decide +kernel) (by decide +kernel)
theorem s282_0 : Rn 282 0 [l0, some (vI a)] st T σ K ↔ Rn 282 1 [l0, some (vI a)] (vI a :: st) T σ K := R_iload_n (n := 1) (by decide +kernel) rfl
theorem s282_1 : Rn 282 1 L st T σ K ↔ Rn 282 2 L (vI 0 :: st) T σ K := R_iconst (n := 0) (by decide +kernel) (by decide)
theorem s282_2 : Rn 282 2 [some (vR o), l1] st T σ K ↔ Rn 282 3 [some (vR o), l1] (vR o :: st) T σ K := R_aload_n (n := 0) (by decide +kernel) rfl
theorem s282_3 : Rn 282 3 L (vR o :: st) T σ K ↔ sx_kd T o = 9 ∧ Rn 282 6 L (vI (σ o 41) :: st) T σ K := R_getI (idx := 135) (ci := 9) (k := 41) (by decide +kernel) (by decide +kernel) (Or.inl rfl)
theorem s282_6 : Rn 282 6 L st T σ K ↔ Rn 282 7 L (vI 1 :: st) T σ K := R_iconst (n := 1) (by decide +kernel) (by decide)
theorem s282_7 : Rn 282 7 L (vI b :: vI a :: st) T σ K ↔ inI (a - b) ∧ Rn 282 8 L (vI (a - b) :: st) T σ K := R_isub (by decide +kernel)
theorem s282_8 : Rn 282 8 L (vI c :: vI b :: vI a :: st) T σ K ↔ st.length ≤ 4 ∧ Rn 185 0 [some (vI a), some (vI b), some (vI c)] [] T σ (fun r T' σ' => Rn 282 11 L (sx_push r st) T' σ' K) := R_S (cm := 185) (n := 3) (idx := 189) (mx := 3) (vs := [vI a, vI b, vI c]) (by decide +kernel) (Or.inl (by decide +kernel)) rfl (by decide +kernel) rfl (by decide +kernel)
theorem s282_11 : Rn 282 11 L (vI a :: st) T σ K ↔ (a = 0 → Rn 282 23 L st T σ K) ∧ (a ≠ 0 → Rn 282 14 L st T σ K) := R_if_eq (off := 12) (by decide +kernel) (by decide)
theorem s282_14 : Rn 282 14 [some (vR o), l1] st T σ K ↔ Rn 282 15 [some (vR o), l1] (vR o :: st) T σ K := R_aload_n (n := 0) (by decide +kernel) rfl
theorem s282_15 : Rn 282 15 L (vR o :: st) T σ K ↔ sx_kd T o = 9 ∧ ∃ t, sx_rf T o 40 = some t ∧ Rn 282 18 L (vR t :: st) T σ K := R_getR (idx := 132) (ci := 9) (k := 40) (by decide +kernel) (by decide +kernel) rfl
theorem s282_18 : Rn 282 18 [l0, some (vI a)] st T σ K ↔ Rn 282 19 [l0, some (vI a)] (vI a :: st) T σ K := R_iload_n (n := 1) (by decide +kernel) rfl
theorem s282_19 : Rn 282 19 L (vI a :: vR o :: st) T σ K ↔ (sx_kd T o = 20 ∧ 0 ≤ a ∧ a < sx_ln T o) ∧ Rn 282 20 L (vI (σ o a) :: st) T σ K := R_iald (by decide +kernel) (by decide)
theorem s282_20 : Rn 282 20 L st T σ K ↔ Rn 282 24 L st T σ K := R_goto (off := 4) (by decide +kernel) (by decide)
theorem s282_23 : Rn 282 23 L st T σ K ↔ Rn 282 24 L (vI (-1) :: st) T σ K := R_iconst (n := -1) (by decide +kernel) (by decide)
theorem s282_24 : Rn 282 24 L [vI a] T σ K ↔ K (some (vI a)) T σ := R_ret (by decide +kernel) (by decide +kernel)
theorem s283_0 : Rn 283 0 [some (vR o), l1, l2, l3] st T σ K ↔ Rn 283 1 [some (vR o), l1, l2, l3] (vR o :: st) T σ K := R_aload_n (n := 0) (by decide +kernel) rfl
theorem s283_1 : Rn 283 1 L (vR o :: st) T σ K ↔ (sx_kd T o = 9 ∧ st.length ≤ 4) ∧ Rn 174 0 [some (vR o), none] [] T σ (fun r T' σ' => Rn 283 4 L (sx_push r st) T' σ' K) := R_V (cm := 174) (n := 0) (idx := 199) (ci := 9) (mx := 2) (vs := []) (by decide +kernel) (by decide +kernel) rfl (by decide +kernel) rfl (by decide +kernel) (by decide +kernel)
theorem s283_4 : Rn 283 4 [l0, l1, l2, l3] (vI a :: st) T σ K ↔ Rn 283 5 [l0, some (vI a), l2, l3] st T σ K := R_istore_n (n := 1) (by decide +kernel) rfl
theorem s283_5 : Rn 283 5 [some (vR o), l1, l2, l3] st T σ K ↔ Rn 283 6 [some (vR o), l1, l2, l3] (vR o :: st) T σ K := R_aload_n (n := 0) (by decide +kernel) rfl
theorem s283_6 : Rn 283 6 L (vR o :: st) T σ K ↔ sx_kd T o = 9 ∧ Rn 283 9 L (vI (σ o 6) :: st) T σ K := R_getI (idx := 29) (ci := 9) (k := 6) (by decide +kernel) (by decide +kernel) (Or.inr rfl)
theorem s283_9 : Rn 283 9 L (vI a :: st) T σ K ↔ (a = 0 → Rn 283 53 L st T σ K) ∧ (a ≠ 0 → Rn 283 12 L st T σ K) := R_if_eq (off := 44) (by decide +kernel) (by decide)
theorem s283_12 : Rn 283 12 [l0, some (vI a), l2, l3] st T σ K ↔ Rn 283 13 [l0, some (vI a), l2, l3] (vI a :: st) T σ K := R_iload_n (n := 1) (by decide +kernel) rfl
theorem s283_13 : Rn 283 13 L st T σ K ↔ Rn 283 14 L (vI 3 :: st) T σ K := R_iconst (n := 3) (by decide +kernel) (by decide)
theorem s283_14 : Rn 283 14 L (vI b :: vI a :: st) T σ K ↔ (a < b → Rn 283 53 L st T σ K) ∧ (b ≤ a → Rn 283 17 L st T σ K) := R_icmp_lt (off := 39) (by decide +kernel) (by decide)
theorem s283_17 : Rn 283 17 [some (vR o), l1, l2, l3] st T σ K ↔ Rn 283 18 [some (vR o), l1, l2, l3] (vR o :: st) T σ K := R_aload_n (n := 0) (by decide +kernel) rfl
theorem s283_18 : Rn 283 18 L (vR o :: st) T σ K ↔ sx_kd T o = 9 ∧ ∃ t, sx_rf T o 7 = some t ∧ Rn 283 21 L (vR t :: st) T σ K := R_getR (idx := 33) (ci := 9) (k := 7) (by decide +kernel) (by decide +kernel) rfl
theorem s283_21 : Rn 283 21 L st T σ K ↔ Rn 283 22 L (vI 0 :: st) T σ K := R_iconst (n := 0) (by decide +kernel) (by decide)
theorem s283_22 : Rn 283 22 L (vI a :: vR o :: st) T σ K ↔ (sx_kd T o = 20 ∧ 0 ≤ a ∧ a < sx_ln T o) ∧ Rn 283 23 L (vI (σ o a) :: st) T σ K := R_iald (by decide +kernel) (by decide)
theorem s283_23 : Rn 283 23 L st T σ K ↔ Rn 283 24 L (vI 2 :: st) T σ K := R_iconst (n := 2) (by decide +kernel) (by decide)
theorem s283_24 : Rn 283 24 L (vI b :: vI a :: st) T σ K ↔ (b < a → Rn 283 53 L st T σ K) ∧ (a ≤ b → Rn 283 27 L st T σ K) := R_icmp_gt (off := 29) (by decide +kernel) (by decide)
theorem s283_27 : Rn 283 27 [some (vR o), l1, l2, l3] st T σ K ↔ Rn 283 28 [some (vR o), l1, l2, l3] (vR o :: st) T σ K := R_aload_n (n := 0) (by decide +kernel) rfl
theorem s283_28 : Rn 283 28 L (vR o :: st) T σ K ↔ sx_kd T o = 9 ∧ ∃ t, sx_rf T o 7 = some t ∧ Rn 283 31 L (vR t :: st) T σ K := R_getR (idx := 33) (ci := 9) (k := 7) (by decide +kernel) (by decide +kernel) rfl
theorem s283_31 : Rn 283 31 L st T σ K ↔ Rn 283 32 L (vI 1 :: st) T σ K := R_iconst (n := 1) (by decide +kernel) (by decide)
theorem s283_32 : Rn 283 32 L (vI a :: vR o :: st) T σ K ↔ (sx_kd T o = 20 ∧ 0 ≤ a ∧ a < sx_ln T o) ∧ Rn 283 33 L (vI (σ o a) :: st) T σ K := R_iald (by decide +kernel) (by decide)
theorem s283_33 : Rn 283 33 L st T σ K ↔ Rn 283 35 L (vI 40 :: st) T σ K := R_bipush (n := 40) (by decide +kernel) (by decide +kernel)
theorem s283_35 : Rn 283 35 L (vI b :: vI a :: st) T σ K ↔ (b < a → Rn 283 53 L st T σ K) ∧ (a ≤ b → Rn 283 38 L st T σ K) := R_icmp_gt (off := 18) (by decide +kernel) (by decide)
theorem s283_38 : Rn 283 38 [l0, some (vI a), l2, l3] st T σ K ↔ Rn 283 39 [l0, some (vI a), l2, l3] (vI a :: st) T σ K := R_iload_n (n := 1) (by decide +kernel) rfl
theorem s283_39 : Rn 283 39 L st T σ K ↔ Rn 283 40 L (vI 3 :: st) T σ K := R_iconst (n := 3) (by decide +kernel) (by decide)
theorem s283_40 : Rn 283 40 L st T σ K ↔ Rn 283 42 L (vI 6 :: st) T σ K := R_bipush (n := 6) (by decide +kernel) (by decide +kernel)
theorem s283_42 : Rn 283 42 [some (vR o), l1, l2, l3] st T σ K ↔ Rn 283 43 [some (vR o), l1, l2, l3] (vR o :: st) T σ K := R_aload_n (n := 0) (by decide +kernel) rfl
theorem s283_43 : Rn 283 43 L (vR o :: st) T σ K ↔ sx_kd T o = 9 ∧ ∃ t, sx_rf T o 7 = some t ∧ Rn 283 46 L (vR t :: st) T σ K := R_getR (idx := 33) (ci := 9) (k := 7) (by decide +kernel) (by decide +kernel) rfl
theorem s283_46 : Rn 283 46 L st T σ K ↔ Rn 283 47 L (vI 1 :: st) T σ K := R_iconst (n := 1) (by decide +kernel) (by decide)
theorem s283_47 : Rn 283 47 L (vI a :: vR o :: st) T σ K ↔ (sx_kd T o = 20 ∧ 0 ≤ a ∧ a < sx_ln T o) ∧ Rn 283 48 L (vI (σ o a) :: st) T σ K := R_iald (by decide +kernel) (by decide)
theorem s283_48 : Rn 283 48 L (vI b :: vI a :: st) T σ K ↔ inI (a * b) ∧ Rn 283 49 L (vI (a * b) :: st) T σ K := R_imul (by decide +kernel)
theorem s283_49 : Rn 283 49 L (vI b :: vI a :: st) T σ K ↔ inI (a + b) ∧ Rn 283 50 L (vI (a + b) :: st) T σ K := R_iadd (by decide +kernel)
theorem s283_50 : Rn 283 50 L (vI b :: vI a :: st) T σ K ↔ (a = b → Rn 283 59 L st T σ K) ∧ (a ≠ b → Rn 283 53 L st T σ K) := R_icmp_eq (off := 9) (by decide +kernel) (by decide)
theorem s283_53 : Rn 283 53 [some (vR o), l1, l2, l3] st T σ K ↔ Rn 283 54 [some (vR o), l1, l2, l3] (vR o :: st) T σ K := R_aload_n (n := 0) (by decide +kernel) rfl
theorem s283_54 : Rn 283 54 L st T σ K ↔ Rn 283 55 L (vI 5 :: st) T σ K := R_iconst (n := 5) (by decide +kernel) (by decide)
theorem s283_55 : Rn 283 55 L (vI a :: vR o :: st) T σ K ↔ (sx_kd T o = 9 ∧ st.length ≤ 4) ∧ Rn 172 0 [some (vR o), some (vI a)] [] T σ (fun r T' σ' => Rn 283 58 L (sx_push r st) T' σ' K) := R_V (cm := 172) (n := 1) (idx := 146) (ci := 9) (mx := 2) (vs := [vI a]) (by decide +kernel) (by decide +kernel) rfl (by decide +kernel) rfl (by decide +kernel) (by decide +kernel)
theorem s283_58 : Rn 283 58 L [vI a] T σ K ↔ (a = 0 ∨ a = 1) ∧ K (some (vI a)) T σ := R_retZ (by decide +kernel) (by decide +kernel)
theorem s283_59 : Rn 283 59 L st T σ K ↔ Rn 283 62 L (vI 149 :: st) T σ K := R_sipush (n := 149) (by decide +kernel) (by decide +kernel)
theorem s283_62 : Rn 283 62 [l0, l1, l2, l3] (vI a :: st) T σ K ↔ Rn 283 63 [l0, l1, some (vI a), l3] st T σ K := R_istore_n (n := 2) (by decide +kernel) rfl
theorem s283_63 : Rn 283 63 L st T σ K ↔ Rn 283 64 L (vI 0 :: st) T σ K := R_iconst (n := 0) (by decide +kernel) (by decide)
theorem s283_64 : Rn 283 64 [l0, l1, l2, l3] (vI a :: st) T σ K ↔ Rn 283 65 [l0, l1, l2, some (vI a)] st T σ K := R_istore_n (n := 3) (by decide +kernel) rfl
theorem s283_65 : Rn 283 65 [l0, l1, l2, some (vI a)] st T σ K ↔ Rn 283 66 [l0, l1, l2, some (vI a)] (vI a :: st) T σ K := R_iload_n (n := 3) (by decide +kernel) rfl
theorem s283_66 : Rn 283 66 [l0, some (vI a), l2, l3] st T σ K ↔ Rn 283 67 [l0, some (vI a), l2, l3] (vI a :: st) T σ K := R_iload_n (n := 1) (by decide +kernel) rfl
theorem s283_67 : Rn 283 67 L st T σ K ↔ Rn 283 68 L (vI 1 :: st) T σ K := R_iconst (n := 1) (by decide +kernel) (by decide)
theorem s283_68 : Rn 283 68 L (vI b :: vI a :: st) T σ K ↔ inI (a - b) ∧ Rn 283 69 L (vI (a - b) :: st) T σ K := R_isub (by decide +kernel)
theorem s283_69 : Rn 283 69 L (vI b :: vI a :: st) T σ K ↔ (b ≤ a → Rn 283 93 L st T σ K) ∧ (a < b → Rn 283 72 L st T σ K) := R_icmp_ge (off := 24) (by decide +kernel) (by decide)
theorem s283_72 : Rn 283 72 L st T σ K ↔ Rn 283 73 L (vI 3 :: st) T σ K := R_iconst (n := 3) (by decide +kernel) (by decide)
theorem s283_73 : Rn 283 73 [l0, l1, some (vI a), l3] st T σ K ↔ Rn 283 74 [l0, l1, some (vI a), l3] (vI a :: st) T σ K := R_iload_n (n := 2) (by decide +kernel) rfl
theorem s283_74 : Rn 283 74 L (vI b :: vI a :: st) T σ K ↔ inI (a * b) ∧ Rn 283 75 L (vI (a * b) :: st) T σ K := R_imul (by decide +kernel)
theorem s283_75 : Rn 283 75 [some (vR o), l1, l2, l3] st T σ K ↔ Rn 283 76 [some (vR o), l1, l2, l3] (vR o :: st) T σ K := R_aload_n (n := 0) (by decide +kernel) rfl
theorem s283_76 : Rn 283 76 L (vR o :: st) T σ K ↔ sx_kd T o = 9 ∧ ∃ t, sx_rf T o 7 = some t ∧ Rn 283 79 L (vR t :: st) T σ K := R_getR (idx := 33) (ci := 9) (k := 7) (by decide +kernel) (by decide +kernel) rfl
theorem s283_79 : Rn 283 79 [l0, l1, l2, some (vI a)] st T σ K ↔ Rn 283 80 [l0, l1, l2, some (vI a)] (vI a :: st) T σ K := R_iload_n (n := 3) (by decide +kernel) rfl
theorem s283_80 : Rn 283 80 L (vI a :: vR o :: st) T σ K ↔ (sx_kd T o = 20 ∧ 0 ≤ a ∧ a < sx_ln T o) ∧ Rn 283 81 L (vI (σ o a) :: st) T σ K := R_iald (by decide +kernel) (by decide)
theorem s283_81 : Rn 283 81 L (vI b :: vI a :: st) T σ K ↔ inI (a + b) ∧ Rn 283 82 L (vI (a + b) :: st) T σ K := R_iadd (by decide +kernel)
theorem s283_82 : Rn 283 82 L st T σ K ↔ Rn 283 85 L (vI 251 :: st) T σ K := R_sipush (n := 251) (by decide +kernel) (by decide +kernel)
theorem s283_85 : Rn 283 85 L (vI b :: vI a :: st) T σ K ↔ 0 < b ∧ inI (a.tmod b) ∧ Rn 283 86 L (vI (a.tmod b) :: st) T σ K := R_irem (by decide +kernel)
theorem s283_86 : Rn 283 86 [l0, l1, l2, l3] (vI a :: st) T σ K ↔ Rn 283 87 [l0, l1, some (vI a), l3] st T σ K := R_istore_n (n := 2) (by decide +kernel) rfl
theorem s283_87 : Rn 283 87 [l0, l1, l2, some (vI a)] st T σ K ↔ inI (a + 1) ∧ Rn 283 90 [l0, l1, l2, some (vI (a + 1))] st T σ K := R_iinc (n := 3) (d := 1) (by decide +kernel) rfl
theorem s283_90 : Rn 283 90 L st T σ K ↔ Rn 283 65 L st T σ K := R_goto (off := -25) (by decide +kernel) (by decide)
theorem s283_93 : Rn 283 93 [some (vR o), l1, l2, l3] st T σ K ↔ Rn 283 94 [some (vR o), l1, l2, l3] (vR o :: st) T σ K := R_aload_n (n := 0) (by decide +kernel) rfl
theorem s283_94 : Rn 283 94 L (vR o :: st) T σ K ↔ sx_kd T o = 9 ∧ ∃ t, sx_rf T o 7 = some t ∧ Rn 283 97 L (vR t :: st) T σ K := R_getR (idx := 33) (ci := 9) (k := 7) (by decide +kernel) (by decide +kernel) rfl
theorem s283_97 : Rn 283 97 [l0, some (vI a), l2, l3] st T σ K ↔ Rn 283 98 [l0, some (vI a), l2, l3] (vI a :: st) T σ K := R_iload_n (n := 1) (by decide +kernel) rfl
theorem s283_98 : Rn 283 98 L st T σ K ↔ Rn 283 99 L (vI 1 :: st) T σ K := R_iconst (n := 1) (by decide +kernel) (by decide)
theorem s283_99 : Rn 283 99 L (vI b :: vI a :: st) T σ K ↔ inI (a - b) ∧ Rn 283 100 L (vI (a - b) :: st) T σ K := R_isub (by decide +kernel)
theorem s283_100 : Rn 283 100 L (vI a :: vR o :: st) T σ K ↔ (sx_kd T o = 20 ∧ 0 ≤ a ∧ a < sx_ln T o) ∧ Rn 283 101 L (vI (σ o a) :: st) T σ K := R_iald (by decide +kernel) (by decide)
theorem s283_101 : Rn 283 101 [l0, l1, some (vI a), l3] st T σ K ↔ Rn 283 102 [l0, l1, some (vI a), l3] (vI a :: st) T σ K := R_iload_n (n := 2) (by decide +kernel) rfl
theorem s283_102 : Rn 283 102 L (vI b :: vI a :: st) T σ K ↔ (a = b → Rn 283 111 L st T σ K) ∧ (a ≠ b → Rn 283 105 L st T σ K) := R_icmp_eq (off := 9) (by decide +kernel) (by decide)
theorem s283_105 : Rn 283 105 [some (vR o), l1, l2, l3] st T σ K ↔ Rn 283 106 [some (vR o), l1, l2, l3] (vR o :: st) T σ K := R_aload_n (n := 0) (by decide +kernel) rfl
theorem s283_106 : Rn 283 106 L st T σ K ↔ Rn 283 107 L (vI 5 :: st) T σ K := R_iconst (n := 5) (by decide +kernel) (by decide)
theorem s283_107 : Rn 283 107 L (vI a :: vR o :: st) T σ K ↔ (sx_kd T o = 9 ∧ st.length ≤ 4) ∧ Rn 172 0 [some (vR o), some (vI a)] [] T σ (fun r T' σ' => Rn 283 110 L (sx_push r st) T' σ' K) := R_V (cm := 172) (n := 1) (idx := 146) (ci := 9) (mx := 2) (vs := [vI a]) (by decide +kernel) (by decide +kernel) rfl (by decide +kernel) rfl (by decide +kernel) (by decide +kernel)
theorem s283_110 : Rn 283 110 L [vI a] T σ K ↔ (a = 0 ∨ a = 1) ∧ K (some (vI a)) T σ := R_retZ (by decide +kernel) (by decide +kernel)
theorem s283_111 : Rn 283 111 [some (vR o), l1, l2, l3] st T σ K ↔ Rn 283 112 [some (vR o), l1, l2, l3] (vR o :: st) T σ K := R_aload_n (n := 0) (by decide +kernel) rfl
theorem s283_112 : Rn 283 112 L (vR o :: st) T σ K ↔ (sx_kd T o = 9 ∧ st.length ≤ 4) ∧ Rn 253 0 [some (vR o), none] [] T σ (fun r T' σ' => Rn 283 115 L (sx_push r st) T' σ' K) := R_V (cm := 253) (n := 0) (idx := 322) (ci := 9) (mx := 2) (vs := []) (by decide +kernel) (by decide +kernel) rfl (by decide +kernel) rfl (by decide +kernel) (by decide +kernel)
theorem s283_115 : Rn 283 115 [some (vR o), l1, l2, l3] st T σ K ↔ Rn 283 116 [some (vR o), l1, l2, l3] (vR o :: st) T σ K := R_aload_n (n := 0) (by decide +kernel) rfl
theorem s283_116 : Rn 283 116 [some (vR o), l1, l2, l3] st T σ K ↔ Rn 283 117 [some (vR o), l1, l2, l3] (vR o :: st) T σ K := R_aload_n (n := 0) (by decide +kernel) rfl
theorem s283_117 : Rn 283 117 L (vR o :: st) T σ K ↔ sx_kd T o = 9 ∧ ∃ t, sx_rf T o 7 = some t ∧ Rn 283 120 L (vR t :: st) T σ K := R_getR (idx := 33) (ci := 9) (k := 7) (by decide +kernel) (by decide +kernel) rfl
theorem s283_120 : Rn 283 120 L st T σ K ↔ Rn 283 121 L (vI 1 :: st) T σ K := R_iconst (n := 1) (by decide +kernel) (by decide)
theorem s283_121 : Rn 283 121 L (vI a :: vR o :: st) T σ K ↔ (sx_kd T o = 20 ∧ 0 ≤ a ∧ a < sx_ln T o) ∧ Rn 283 122 L (vI (σ o a) :: st) T σ K := R_iald (by decide +kernel) (by decide)
theorem s283_122 : Rn 283 122 L (vI a :: vR o :: st) T σ K ↔ (sx_kd T o = 9 ∧ st.length ≤ 4) ∧ Rn 284 0 [some (vR o), some (vI a), none, none, none, none] [] T σ (fun r T' σ' => Rn 283 125 L (sx_push r st) T' σ' K) := R_V (cm := 284) (n := 1) (idx := 373) (ci := 9) (mx := 6) (vs := [vI a]) (by decide +kernel) (by decide +kernel) rfl (by decide +kernel) rfl (by decide +kernel) (by decide +kernel)
theorem s283_125 : Rn 283 125 L (vI a :: st) T σ K ↔ (a = 0 → Rn 283 135 L st T σ K) ∧ (a ≠ 0 → Rn 283 128 L st T σ K) := R_if_eq (off := 10) (by decide +kernel) (by decide)
theorem s283_128 : Rn 283 128 [some (vR o), l1, l2, l3] st T σ K ↔ Rn 283 129 [some (vR o), l1, l2, l3] (vR o :: st) T σ K := R_aload_n (n := 0) (by decide +kernel) rfl
theorem s283_129 : Rn 283 129 L (vR o :: st) T σ K ↔ (sx_kd T o = 9 ∧ st.length ≤ 4) ∧ Rn 285 0 [some (vR o), none, none, none, none] [] T σ (fun r T' σ' => Rn 283 132 L (sx_push r st) T' σ' K) := R_V (cm := 285) (n := 0) (idx := 376) (ci := 9) (mx := 5) (vs := []) (by decide +kernel) (by decide +kernel) rfl (by decide +kernel) rfl (by decide +kernel) (by decide +kernel)
theorem s283_132 : Rn 283 132 L (vI a :: st) T σ K ↔ (a ≠ 0 → Rn 283 145 L st T σ K) ∧ (a = 0 → Rn 283 135 L st T σ K) := R_if_ne (off := 13) (by decide +kernel) (by decide)
theorem s283_135 : Rn 283 135 [some (vR o), l1, l2, l3] st T σ K ↔ Rn 283 136 [some (vR o), l1, l2, l3] (vR o :: st) T σ K := R_aload_n (n := 0) (by decide +kernel) rfl
theorem s283_136 : Rn 283 136 L (vR o :: st) T σ K ↔ (sx_kd T o = 9 ∧ st.length ≤ 4) ∧ Rn 258 0 [some (vR o), none] [] T σ (fun r T' σ' => Rn 283 139 L (sx_push r st) T' σ' K) := R_V (cm := 258) (n := 0) (idx := 331) (ci := 9) (mx := 2) (vs := []) (by decide +kernel) (by decide +kernel) rfl (by decide +kernel) rfl (by decide +kernel) (by decide +kernel)
theorem s283_139 : Rn 283 139 [some (vR o), l1, l2, l3] st T σ K ↔ Rn 283 140 [some (vR o), l1, l2, l3] (vR o :: st) T σ K := R_aload_n (n := 0) (by decide +kernel) rfl
theorem s283_140 : Rn 283 140 L st T σ K ↔ Rn 283 141 L (vI 5 :: st) T σ K := R_iconst (n := 5) (by decide +kernel) (by decide)
theorem s283_141 : Rn 283 141 L (vI a :: vR o :: st) T σ K ↔ (sx_kd T o = 9 ∧ st.length ≤ 4) ∧ Rn 172 0 [some (vR o), some (vI a)] [] T σ (fun r T' σ' => Rn 283 144 L (sx_push r st) T' σ' K) := R_V (cm := 172) (n := 1) (idx := 146) (ci := 9) (mx := 2) (vs := [vI a]) (by decide +kernel) (by decide +kernel) rfl (by decide +kernel) rfl (by decide +kernel) (by decide +kernel)
theorem s283_144 : Rn 283 144 L [vI a] T σ K ↔ (a = 0 ∨ a = 1) ∧ K (some (vI a)) T σ := R_retZ (by decide +kernel) (by decide +kernel)
theorem s283_145 : Rn 283 145 [some (vR o), l1, l2, l3] st T σ K ↔ Rn 283 146 [some (vR o), l1, l2, l3] (vR o :: st) T σ K := R_aload_n (n := 0) (by decide +kernel) rfl
theorem s283_146 : Rn 283 146 L st T σ K ↔ Rn 283 147 L (vI 0 :: st) T σ K := R_iconst (n := 0) (by decide +kernel) (by decide)
theorem s283_147 : Rn 283 147 L (vI a :: vR o :: st) T σ K ↔ sx_kd T o = 9 ∧ Rn 283 150 L st T (sx_up σ o 4 a) K := R_putI (idx := 22) (ci := 9) (k := 4) (by decide +kernel) (by decide +kernel) rfl rfl
theorem s283_150 : Rn 283 150 L st T σ K ↔ Rn 283 151 L (vI 1 :: st) T σ K := R_iconst (n := 1) (by decide +kernel) (by decide)
theorem s283_151 : Rn 283 151 L [vI a] T σ K ↔ (a = 0 ∨ a = 1) ∧ K (some (vI a)) T σ := R_retZ (by decide +kernel) (by decide +kernel)
theorem s284_0 : Rn 284 0 L st T σ K ↔ Rn 284 1 L (vI (-1) :: st) T σ K := R_iconst (n := -1) (by decide +kernel) (by decide)
theorem s284_1 : Rn 284 1 [l0, l1, l2, l3, l4, l5] (vI a :: st) T σ K ↔ Rn 284 2 [l0, l1, some (vI a), l3, l4, l5] st T σ K := R_istore_n (n := 2) (by decide +kernel) rfl
theorem s284_2 : Rn 284 2 L st T σ K ↔ Rn 284 3 L (vI 0 :: st) T σ K := R_iconst (n := 0) (by decide +kernel) (by decide)
theorem s284_3 : Rn 284 3 [l0, l1, l2, l3, l4, l5] (vI a :: st) T σ K ↔ Rn 284 4 [l0, l1, l2, some (vI a), l4, l5] st T σ K := R_istore_n (n := 3) (by decide +kernel) rfl
theorem s284_4 : Rn 284 4 [l0, l1, l2, some (vI a), l4, l5] st T σ K ↔ Rn 284 5 [l0, l1, l2, some (vI a), l4, l5] (vI a :: st) T σ K := R_iload_n (n := 3) (by decide +kernel) rfl
theorem s284_5 : Rn 284 5 L st T σ K ↔ Rn 284 8 L (vI 481 :: st) T σ K := R_sipush (n := 481) (by decide +kernel) (by decide +kernel)
theorem s284_8 : Rn 284 8 L (vI b :: vI a :: st) T σ K ↔ (b ≤ a → Rn 284 24 L st T σ K) ∧ (a < b → Rn 284 11 L st T σ K) := R_icmp_ge (off := 16) (by decide +kernel) (by decide)
theorem s284_11 : Rn 284 11 [some (vR o), l1, l2, l3, l4, l5] st T σ K ↔ Rn 284 12 [some (vR o), l1, l2, l3, l4, l5] (vR o :: st) T σ K := R_aload_n (n := 0) (by decide +kernel) rfl
theorem s284_12 : Rn 284 12 L (vR o :: st) T σ K ↔ sx_kd T o = 9 ∧ ∃ t, sx_rf T o 0 = some t ∧ Rn 284 15 L (vR t :: st) T σ K := R_getR (idx := 7) (ci := 9) (k := 0) (by decide +kernel) (by decide +kernel) rfl
theorem s284_15 : Rn 284 15 [l0, l1, l2, some (vI a), l4, l5] st T σ K ↔ Rn 284 16 [l0, l1, l2, some (vI a), l4, l5] (vI a :: st) T σ K := R_iload_n (n := 3) (by decide +kernel) rfl
theorem s284_16 : Rn 284 16 L st T σ K ↔ Rn 284 17 L (vI 0 :: st) T σ K := R_iconst (n := 0) (by decide +kernel) (by decide)
theorem s284_17 : Rn 284 17 L (vI b :: vI a :: vR o :: st) T σ K ↔ (sx_kd T o = 20 ∧ 0 ≤ a ∧ a < sx_ln T o) ∧ Rn 284 18 L st T (sx_up σ o a b) K := R_iast (by decide +kernel)
theorem s284_18 : Rn 284 18 [l0, l1, l2, some (vI a), l4, l5] st T σ K ↔ inI (a + 1) ∧ Rn 284 21 [l0, l1, l2, some (vI (a + 1)), l4, l5] st T σ K := R_iinc (n := 3) (d := 1) (by decide +kernel) rfl
theorem s284_21 : Rn 284 21 L st T σ K ↔ Rn 284 4 L st T σ K := R_goto (off := -17) (by decide +kernel) (by decide)
theorem s284_24 : Rn 284 24 [some (vR o), l1, l2, l3, l4, l5] st T σ K ↔ Rn 284 25 [some (vR o), l1, l2, l3, l4, l5] (vR o :: st) T σ K := R_aload_n (n := 0) (by decide +kernel) rfl
theorem s284_25 : Rn 284 25 L (vR o :: st) T σ K ↔ sx_kd T o = 9 ∧ ∃ t, sx_rf T o 0 = some t ∧ Rn 284 28 L (vR t :: st) T σ K := R_getR (idx := 7) (ci := 9) (k := 0) (by decide +kernel) (by decide +kernel) rfl
theorem s284_28 : Rn 284 28 L st T σ K ↔ Rn 284 31 L (vI 480 :: st) T σ K := R_sipush (n := 480) (by decide +kernel) (by decide +kernel)
theorem s284_31 : Rn 284 31 [some (vR o), l1, l2, l3, l4, l5] st T σ K ↔ Rn 284 32 [some (vR o), l1, l2, l3, l4, l5] (vR o :: st) T σ K := R_aload_n (n := 0) (by decide +kernel) rfl
theorem s284_32 : Rn 284 32 L (vR o :: st) T σ K ↔ sx_kd T o = 9 ∧ ∃ t, sx_rf T o 7 = some t ∧ Rn 284 35 L (vR t :: st) T σ K := R_getR (idx := 33) (ci := 9) (k := 7) (by decide +kernel) (by decide +kernel) rfl
theorem s284_35 : Rn 284 35 L st T σ K ↔ Rn 284 36 L (vI 0 :: st) T σ K := R_iconst (n := 0) (by decide +kernel) (by decide)
theorem s284_36 : Rn 284 36 L (vI a :: vR o :: st) T σ K ↔ (sx_kd T o = 20 ∧ 0 ≤ a ∧ a < sx_ln T o) ∧ Rn 284 37 L (vI (σ o a) :: st) T σ K := R_iald (by decide +kernel) (by decide)
theorem s284_37 : Rn 284 37 L (vI b :: vI a :: vR o :: st) T σ K ↔ (sx_kd T o = 20 ∧ 0 ≤ a ∧ a < sx_ln T o) ∧ Rn 284 38 L st T (sx_up σ o a b) K := R_iast (by decide +kernel)
theorem s284_38 : Rn 284 38 L st T σ K ↔ Rn 284 39 L (vI 0 :: st) T σ K := R_iconst (n := 0) (by decide +kernel) (by decide)
theorem s284_39 : Rn 284 39 [l0, l1, l2, l3, l4, l5] (vI a :: st) T σ K ↔ Rn 284 40 [l0, l1, l2, some (vI a), l4, l5] st T σ K := R_istore_n (n := 3) (by decide +kernel) rfl
theorem s284_40 : Rn 284 40 [l0, l1, l2, some (vI a), l4, l5] st T σ K ↔ Rn 284 41 [l0, l1, l2, some (vI a), l4, l5] (vI a :: st) T σ K := R_iload_n (n := 3) (by decide +kernel) rfl
theorem s284_41 : Rn 284 41 [l0, some (vI a), l2, l3, l4, l5] st T σ K ↔ Rn 284 42 [l0, some (vI a), l2, l3, l4, l5] (vI a :: st) T σ K := R_iload_n (n := 1) (by decide +kernel) rfl
theorem s284_42 : Rn 284 42 L (vI b :: vI a :: st) T σ K ↔ (b ≤ a → Rn 284 261 L st T σ K) ∧ (a < b → Rn 284 45 L st T σ K) := R_icmp_ge (off := 219) (by decide +kernel) (by decide)
theorem s284_45 : Rn 284 45 L st T σ K ↔ Rn 284 46 L (vI 2 :: st) T σ K := R_iconst (n := 2) (by decide +kernel) (by decide)
theorem s284_46 : Rn 284 46 L st T σ K ↔ Rn 284 48 L (vI 6 :: st) T σ K := R_bipush (n := 6) (by decide +kernel) (by decide +kernel)
theorem s284_48 : Rn 284 48 [l0, l1, l2, some (vI a), l4, l5] st T σ K ↔ Rn 284 49 [l0, l1, l2, some (vI a), l4, l5] (vI a :: st) T σ K := R_iload_n (n := 3) (by decide +kernel) rfl
theorem s284_49 : Rn 284 49 L (vI b :: vI a :: st) T σ K ↔ inI (a * b) ∧ Rn 284 50 L (vI (a * b) :: st) T σ K := R_imul (by decide +kernel)
theorem s284_50 : Rn 284 50 L (vI b :: vI a :: st) T σ K ↔ inI (a + b) ∧ Rn 284 51 L (vI (a + b) :: st) T σ K := R_iadd (by decide +kernel)
theorem s284_51 : Rn 284 51 [l0, l1, l2, l3, l4, l5] (vI a :: st) T σ K ↔ Rn 284 53 [l0, l1, l2, l3, some (vI a), l5] st T σ K := R_istore (n := 4) (by decide +kernel) rfl
theorem s284_53 : Rn 284 53 [some (vR o), l1, l2, l3, l4, l5] st T σ K ↔ Rn 284 54 [some (vR o), l1, l2, l3, l4, l5] (vR o :: st) T σ K := R_aload_n (n := 0) (by decide +kernel) rfl
theorem s284_54 : Rn 284 54 L (vR o :: st) T σ K ↔ sx_kd T o = 9 ∧ ∃ t, sx_rf T o 7 = some t ∧ Rn 284 57 L (vR t :: st) T σ K := R_getR (idx := 33) (ci := 9) (k := 7) (by decide +kernel) (by decide +kernel) rfl
theorem s284_57 : Rn 284 57 [l0, l1, l2, l3, some (vI a), l5] st T σ K ↔ Rn 284 59 [l0, l1, l2, l3, some (vI a), l5] (vI a :: st) T σ K := R_iload (n := 4) (by decide +kernel) rfl
theorem s284_59 : Rn 284 59 L (vI a :: vR o :: st) T σ K ↔ (sx_kd T o = 20 ∧ 0 ≤ a ∧ a < sx_ln T o) ∧ Rn 284 60 L (vI (σ o a) :: st) T σ K := R_iald (by decide +kernel) (by decide)
theorem s284_60 : Rn 284 60 [l0, l1, l2, l3, l4, l5] (vI a :: st) T σ K ↔ Rn 284 62 [l0, l1, l2, l3, l4, some (vI a)] st T σ K := R_istore (n := 5) (by decide +kernel) rfl
theorem s284_62 : Rn 284 62 [l0, l1, l2, l3, l4, some (vI a)] st T σ K ↔ Rn 284 64 [l0, l1, l2, l3, l4, some (vI a)] (vI a :: st) T σ K := R_iload (n := 5) (by decide +kernel) rfl
theorem s284_64 : Rn 284 64 [l0, l1, some (vI a), l3, l4, l5] st T σ K ↔ Rn 284 65 [l0, l1, some (vI a), l3, l4, l5] (vI a :: st) T σ K := R_iload_n (n := 2) (by decide +kernel) rfl
theorem s284_65 : Rn 284 65 L st T σ K ↔ Rn 284 66 L (vI 1 :: st) T σ K := R_iconst (n := 1) (by decide +kernel) (by decide)
theorem s284_66 : Rn 284 66 L (vI b :: vI a :: st) T σ K ↔ inI (a + b) ∧ Rn 284 67 L (vI (a + b) :: st) T σ K := R_iadd (by decide +kernel)
theorem s284_67 : Rn 284 67 L st T σ K ↔ Rn 284 69 L (vI 39 :: st) T σ K := R_bipush (n := 39) (by decide +kernel) (by decide +kernel)
theorem s284_69 : Rn 284 69 L (vI c :: vI b :: vI a :: st) T σ K ↔ st.length ≤ 4 ∧ Rn 185 0 [some (vI a), some (vI b), some (vI c)] [] T σ (fun r T' σ' => Rn 284 72 L (sx_push r st) T' σ' K) := R_S (cm := 185) (n := 3) (idx := 189) (mx := 3) (vs := [vI a, vI b, vI c]) (by decide +kernel) (Or.inl (by decide +kernel)) rfl (by decide +kernel) rfl (by decide +kernel)
theorem s284_72 : Rn 284 72 L (vI a :: st) T σ K ↔ (a = 0 → Rn 284 124 L st T σ K) ∧ (a ≠ 0 → Rn 284 75 L st T σ K) := R_if_eq (off := 52) (by decide +kernel) (by decide)
theorem s284_75 : Rn 284 75 [some (vR o), l1, l2, l3, l4, l5] st T σ K ↔ Rn 284 76 [some (vR o), l1, l2, l3, l4, l5] (vR o :: st) T σ K := R_aload_n (n := 0) (by decide +kernel) rfl
theorem s284_76 : Rn 284 76 [some (vR o), l1, l2, l3, l4, l5] st T σ K ↔ Rn 284 77 [some (vR o), l1, l2, l3, l4, l5] (vR o :: st) T σ K := R_aload_n (n := 0) (by decide +kernel) rfl
theorem s284_77 : Rn 284 77 L (vR o :: st) T σ K ↔ sx_kd T o = 9 ∧ ∃ t, sx_rf T o 7 = some t ∧ Rn 284 80 L (vR t :: st) T σ K := R_getR (idx := 33) (ci := 9) (k := 7) (by decide +kernel) (by decide +kernel) rfl
theorem s284_80 : Rn 284 80 [l0, l1, l2, l3, some (vI a), l5] st T σ K ↔ Rn 284 82 [l0, l1, l2, l3, some (vI a), l5] (vI a :: st) T σ K := R_iload (n := 4) (by decide +kernel) rfl
theorem s284_82 : Rn 284 82 L st T σ K ↔ Rn 284 83 L (vI 1 :: st) T σ K := R_iconst (n := 1) (by decide +kernel) (by decide)
theorem s284_83 : Rn 284 83 L (vI b :: vI a :: st) T σ K ↔ inI (a + b) ∧ Rn 284 84 L (vI (a + b) :: st) T σ K := R_iadd (by decide +kernel)
theorem s284_84 : Rn 284 84 L (vI a :: vR o :: st) T σ K ↔ (sx_kd T o = 20 ∧ 0 ≤ a ∧ a < sx_ln T o) ∧ Rn 284 85 L (vI (σ o a) :: st) T σ K := R_iald (by decide +kernel) (by decide)
theorem s284_85 : Rn 284 85 [some (vR o), l1, l2, l3, l4, l5] st T σ K ↔ Rn 284 86 [some (vR o), l1, l2, l3, l4, l5] (vR o :: st) T σ K := R_aload_n (n := 0) (by decide +kernel) rfl
theorem s284_86 : Rn 284 86 L (vR o :: st) T σ K ↔ sx_kd T o = 9 ∧ ∃ t, sx_rf T o 7 = some t ∧ Rn 284 89 L (vR t :: st) T σ K := R_getR (idx := 33) (ci := 9) (k := 7) (by decide +kernel) (by decide +kernel) rfl
theorem s284_89 : Rn 284 89 [l0, l1, l2, l3, some (vI a), l5] st T σ K ↔ Rn 284 91 [l0, l1, l2, l3, some (vI a), l5] (vI a :: st) T σ K := R_iload (n := 4) (by decide +kernel) rfl
theorem s284_91 : Rn 284 91 L st T σ K ↔ Rn 284 92 L (vI 2 :: st) T σ K := R_iconst (n := 2) (by decide +kernel) (by decide)
theorem s284_92 : Rn 284 92 L (vI b :: vI a :: st) T σ K ↔ inI (a + b) ∧ Rn 284 93 L (vI (a + b) :: st) T σ K := R_iadd (by decide +kernel)
theorem s284_93 : Rn 284 93 L (vI a :: vR o :: st) T σ K ↔ (sx_kd T o = 20 ∧ 0 ≤ a ∧ a < sx_ln T o) ∧ Rn 284 94 L (vI (σ o a) :: st) T σ K := R_iald (by decide +kernel) (by decide)
theorem s284_94 : Rn 284 94 [some (vR o), l1, l2, l3, l4, l5] st T σ K ↔ Rn 284 95 [some (vR o), l1, l2, l3, l4, l5] (vR o :: st) T σ K := R_aload_n (n := 0) (by decide +kernel) rfl
theorem s284_95 : Rn 284 95 L (vR o :: st) T σ K ↔ sx_kd T o = 9 ∧ ∃ t, sx_rf T o 7 = some t ∧ Rn 284 98 L (vR t :: st) T σ K := R_getR (idx := 33) (ci := 9) (k := 7) (by decide +kernel) (by decide +kernel) rfl
theorem s284_98 : Rn 284 98 [l0, l1, l2, l3, some (vI a), l5] st T σ K ↔ Rn 284 100 [l0, l1, l2, l3, some (vI a), l5] (vI a :: st) T σ K := R_iload (n := 4) (by decide +kernel) rfl
theorem s284_100 : Rn 284 100 L st T σ K ↔ Rn 284 101 L (vI 3 :: st) T σ K := R_iconst (n := 3) (by decide +kernel) (by decide)
theorem s284_101 : Rn 284 101 L (vI b :: vI a :: st) T σ K ↔ inI (a + b) ∧ Rn 284 102 L (vI (a + b) :: st) T σ K := R_iadd (by decide +kernel)
theorem s284_102 : Rn 284 102 L (vI a :: vR o :: st) T σ K ↔ (sx_kd T o = 20 ∧ 0 ≤ a ∧ a < sx_ln T o) ∧ Rn 284 103 L (vI (σ o a) :: st) T σ K := R_iald (by decide +kernel) (by decide)
theorem s284_103 : Rn 284 103 L (vI c :: vI b :: vI a :: vR o :: st) T σ K ↔ (sx_kd T o = 9 ∧ st.length ≤ 4) ∧ Rn 213 0 [some (vR o), some (vI a), some (vI b), some (vI c), none] [] T σ (fun r T' σ' => Rn 284 106 L (sx_push r st) T' σ' K) := R_V (cm := 213) (n := 3) (idx := 269) (ci := 9) (mx := 5) (vs := [vI a, vI b, vI c]) (by decide +kernel) (by decide +kernel) rfl (by decide +kernel) rfl (by decide +kernel) (by decide +kernel)
theorem s284_106 : Rn 284 106 L st T σ K ↔ Rn 284 107 L (vI (-1) :: st) T σ K := R_iconst (n := -1) (by decide +kernel) (by decide)
theorem s284_107 : Rn 284 107 L (vI b :: vI a :: st) T σ K ↔ (a ≠ b → Rn 284 124 L st T σ K) ∧ (a = b → Rn 284 110 L st T σ K) := R_icmp_ne (off := 17) (by decide +kernel) (by decide)
theorem s284_110 : Rn 284 110 [some (vR o), l1, l2, l3, l4, l5] st T σ K ↔ Rn 284 111 [some (vR o), l1, l2, l3, l4, l5] (vR o :: st) T σ K := R_aload_n (n := 0) (by decide +kernel) rfl
theorem s284_111 : Rn 284 111 L (vR o :: st) T σ K ↔ sx_kd T o = 9 ∧ ∃ t, sx_rf T o 7 = some t ∧ Rn 284 114 L (vR t :: st) T σ K := R_getR (idx := 33) (ci := 9) (k := 7) (by decide +kernel) (by decide +kernel) rfl
theorem s284_114 : Rn 284 114 [l0, l1, l2, l3, some (vI a), l5] st T σ K ↔ Rn 284 116 [l0, l1, l2, l3, some (vI a), l5] (vI a :: st) T σ K := R_iload (n := 4) (by decide +kernel) rfl
theorem s284_116 : Rn 284 116 L st T σ K ↔ Rn 284 117 L (vI 4 :: st) T σ K := R_iconst (n := 4) (by decide +kernel) (by decide)
theorem s284_117 : Rn 284 117 L (vI b :: vI a :: st) T σ K ↔ inI (a + b) ∧ Rn 284 118 L (vI (a + b) :: st) T σ K := R_iadd (by decide +kernel)
theorem s284_118 : Rn 284 118 L (vI a :: vR o :: st) T σ K ↔ (sx_kd T o = 20 ∧ 0 ≤ a ∧ a < sx_ln T o) ∧ Rn 284 119 L (vI (σ o a) :: st) T σ K := R_iald (by decide +kernel) (by decide)
theorem s284_119 : Rn 284 119 L st T σ K ↔ Rn 284 121 L (vI 10 :: st) T σ K := R_bipush (n := 10) (by decide +kernel) (by decide +kernel)
theorem s284_121 : Rn 284 121 L (vI b :: vI a :: st) T σ K ↔ (a ≤ b → Rn 284 126 L st T σ K) ∧ (b < a → Rn 284 124 L st T σ K) := R_icmp_le (off := 5) (by decide +kernel) (by decide)
theorem s284_124 : Rn 284 124 L st T σ K ↔ Rn 284 125 L (vI 0 :: st) T σ K := R_iconst (n := 0) (by decide +kernel) (by decide)
theorem s284_125 : Rn 284 125 L [vI a] T σ K ↔ (a = 0 ∨ a = 1) ∧ K (some (vI a)) T σ := R_retZ (by decide +kernel) (by decide +kernel)
theorem s284_126 : Rn 284 126 [l0, l1, l2, l3, l4, some (vI a)] st T σ K ↔ Rn 284 128 [l0, l1, l2, l3, l4, some (vI a)] (vI a :: st) T σ K := R_iload (n := 5) (by decide +kernel) rfl
theorem s284_128 : Rn 284 128 [l0, l1, l2, l3, l4, l5] (vI a :: st) T σ K ↔ Rn 284 129 [l0, l1, some (vI a), l3, l4, l5] st T σ K := R_istore_n (n := 2) (by decide +kernel) rfl
theorem s284_129 : Rn 284 129 [some (vR o), l1, l2, l3, l4, l5] st T σ K ↔ Rn 284 130 [some (vR o), l1, l2, l3, l4, l5] (vR o :: st) T σ K := R_aload_n (n := 0) (by decide +kernel) rfl
theorem s284_130 : Rn 284 130 L (vR o :: st) T σ K ↔ sx_kd T o = 9 ∧ ∃ t, sx_rf T o 0 = some t ∧ Rn 284 133 L (vR t :: st) T σ K := R_getR (idx := 7) (ci := 9) (k := 0) (by decide +kernel) (by decide +kernel) rfl
theorem s284_133 : Rn 284 133 L st T σ K ↔ Rn 284 134 L (vI 0 :: st) T σ K := R_iconst (n := 0) (by decide +kernel) (by decide)
theorem s284_134 : Rn 284 134 [l0, l1, l2, l3, l4, some (vI a)] st T σ K ↔ Rn 284 136 [l0, l1, l2, l3, l4, some (vI a)] (vI a :: st) T σ K := R_iload (n := 5) (by decide +kernel) rfl
theorem s284_136 : Rn 284 136 L (vI b :: vI a :: st) T σ K ↔ inI (a + b) ∧ Rn 284 137 L (vI (a + b) :: st) T σ K := R_iadd (by decide +kernel)
theorem s284_137 : Rn 284 137 L st T σ K ↔ Rn 284 138 L (vI 1 :: st) T σ K := R_iconst (n := 1) (by decide +kernel) (by decide)
theorem s284_138 : Rn 284 138 L (vI b :: vI a :: vR o :: st) T σ K ↔ (sx_kd T o = 20 ∧ 0 ≤ a ∧ a < sx_ln T o) ∧ Rn 284 139 L st T (sx_up σ o a b) K := R_iast (by decide +kernel)
theorem s284_139 : Rn 284 139 [some (vR o), l1, l2, l3, l4, l5] st T σ K ↔ Rn 284 140 [some (vR o), l1, l2, l3, l4, l5] (vR o :: st) T σ K := R_aload_n (n := 0) (by decide +kernel) rfl
theorem s284_140 : Rn 284 140 L (vR o :: st) T σ K ↔ sx_kd T o = 9 ∧ ∃ t, sx_rf T o 0 = some t ∧ Rn 284 143 L (vR t :: st) T σ K := R_getR (idx := 7) (ci := 9) (k := 0) (by decide +kernel) (by decide +kernel) rfl
theorem s284_143 : Rn 284 143 L st T σ K ↔ Rn 284 145 L (vI 40 :: st) T σ K := R_bipush (n := 40) (by decide +kernel) (by decide +kernel)
theorem s284_145 : Rn 284 145 [l0, l1, l2, l3, l4, some (vI a)] st T σ K ↔ Rn 284 147 [l0, l1, l2, l3, l4, some (vI a)] (vI a :: st) T σ K := R_iload (n := 5) (by decide +kernel) rfl
theorem s284_147 : Rn 284 147 L (vI b :: vI a :: st) T σ K ↔ inI (a + b) ∧ Rn 284 148 L (vI (a + b) :: st) T σ K := R_iadd (by decide +kernel)
theorem s284_148 : Rn 284 148 [some (vR o), l1, l2, l3, l4, l5] st T σ K ↔ Rn 284 149 [some (vR o), l1, l2, l3, l4, l5] (vR o :: st) T σ K := R_aload_n (n := 0) (by decide +kernel) rfl
theorem s284_149 : Rn 284 149 L (vR o :: st) T σ K ↔ sx_kd T o = 9 ∧ ∃ t, sx_rf T o 7 = some t ∧ Rn 284 152 L (vR t :: st) T σ K := R_getR (idx := 33) (ci := 9) (k := 7) (by decide +kernel) (by decide +kernel) rfl
theorem s284_152 : Rn 284 152 [l0, l1, l2, l3, some (vI a), l5] st T σ K ↔ Rn 284 154 [l0, l1, l2, l3, some (vI a), l5] (vI a :: st) T σ K := R_iload (n := 4) (by decide +kernel) rfl
theorem s284_154 : Rn 284 154 L st T σ K ↔ Rn 284 155 L (vI 1 :: st) T σ K := R_iconst (n := 1) (by decide +kernel) (by decide)
theorem s284_155 : Rn 284 155 L (vI b :: vI a :: st) T σ K ↔ inI (a + b) ∧ Rn 284 156 L (vI (a + b) :: st) T σ K := R_iadd (by decide +kernel)
theorem s284_156 : Rn 284 156 L (vI a :: vR o :: st) T σ K ↔ (sx_kd T o = 20 ∧ 0 ≤ a ∧ a < sx_ln T o) ∧ Rn 284 157 L (vI (σ o a) :: st) T σ K := R_iald (by decide +kernel) (by decide)
theorem s284_157 : Rn 284 157 L (vI b :: vI a :: vR o :: st) T σ K ↔ (sx_kd T o = 20 ∧ 0 ≤ a ∧ a < sx_ln T o) ∧ Rn 284 158 L st T (sx_up σ o a b) K := R_iast (by decide +kernel)
theorem s284_158 : Rn 284 158 [some (vR o), l1, l2, l3, l4, l5] st T σ K ↔ Rn 284 159 [some (vR o), l1, l2, l3, l4, l5] (vR o :: st) T σ K := R_aload_n (n := 0) (by decide +kernel) rfl
theorem s284_159 : Rn 284 159 L (vR o :: st) T σ K ↔ sx_kd T o = 9 ∧ ∃ t, sx_rf T o 0 = some t ∧ Rn 284 162 L (vR t :: st) T σ K := R_getR (idx := 7) (ci := 9) (k := 0) (by decide +kernel) (by decide +kernel) rfl
theorem s284_162 : Rn 284 162 L st T σ K ↔ Rn 284 164 L (vI 80 :: st) T σ K := R_bipush (n := 80) (by decide +kernel) (by decide +kernel)
theorem s284_164 : Rn 284 164 [l0, l1, l2, l3, l4, some (vI a)] st T σ K ↔ Rn 284 166 [l0, l1, l2, l3, l4, some (vI a)] (vI a :: st) T σ K := R_iload (n := 5) (by decide +kernel) rfl
theorem s284_166 : Rn 284 166 L (vI b :: vI a :: st) T σ K ↔ inI (a + b) ∧ Rn 284 167 L (vI (a + b) :: st) T σ K := R_iadd (by decide +kernel)
theorem s284_167 : Rn 284 167 [some (vR o), l1, l2, l3, l4, l5] st T σ K ↔ Rn 284 168 [some (vR o), l1, l2, l3, l4, l5] (vR o :: st) T σ K := R_aload_n (n := 0) (by decide +kernel) rfl
theorem s284_168 : Rn 284 168 L (vR o :: st) T σ K ↔ sx_kd T o = 9 ∧ ∃ t, sx_rf T o 7 = some t ∧ Rn 284 171 L (vR t :: st) T σ K := R_getR (idx := 33) (ci := 9) (k := 7) (by decide +kernel) (by decide +kernel) rfl
theorem s284_171 : Rn 284 171 [l0, l1, l2, l3, some (vI a), l5] st T σ K ↔ Rn 284 173 [l0, l1, l2, l3, some (vI a), l5] (vI a :: st) T σ K := R_iload (n := 4) (by decide +kernel) rfl
theorem s284_173 : Rn 284 173 L st T σ K ↔ Rn 284 174 L (vI 2 :: st) T σ K := R_iconst (n := 2) (by decide +kernel) (by decide)
theorem s284_174 : Rn 284 174 L (vI b :: vI a :: st) T σ K ↔ inI (a + b) ∧ Rn 284 175 L (vI (a + b) :: st) T σ K := R_iadd (by decide +kernel)
theorem s284_175 : Rn 284 175 L (vI a :: vR o :: st) T σ K ↔ (sx_kd T o = 20 ∧ 0 ≤ a ∧ a < sx_ln T o) ∧ Rn 284 176 L (vI (σ o a) :: st) T σ K := R_iald (by decide +kernel) (by decide)
theorem s284_176 : Rn 284 176 L (vI b :: vI a :: vR o :: st) T σ K ↔ (sx_kd T o = 20 ∧ 0 ≤ a ∧ a < sx_ln T o) ∧ Rn 284 177 L st T (sx_up σ o a b) K := R_iast (by decide +kernel)
theorem s284_177 : Rn 284 177 [some (vR o), l1, l2, l3, l4, l5] st T σ K ↔ Rn 284 178 [some (vR o), l1, l2, l3, l4, l5] (vR o :: st) T σ K := R_aload_n (n := 0) (by decide +kernel) rfl
theorem s284_178 : Rn 284 178 L (vR o :: st) T σ K ↔ sx_kd T o = 9 ∧ ∃ t, sx_rf T o 0 = some t ∧ Rn 284 181 L (vR t :: st) T σ K := R_getR (idx := 7) (ci := 9) (k := 0) (by decide +kernel) (by decide +kernel) rfl
theorem s284_181 : Rn 284 181 L st T σ K ↔ Rn 284 183 L (vI 120 :: st) T σ K := R_bipush (n := 120) (by decide +kernel) (by decide +kernel)
theorem s284_183 : Rn 284 183 [l0, l1, l2, l3, l4, some (vI a)] st T σ K ↔ Rn 284 185 [l0, l1, l2, l3, l4, some (vI a)] (vI a :: st) T σ K := R_iload (n := 5) (by decide +kernel) rfl
theorem s284_185 : Rn 284 185 L (vI b :: vI a :: st) T σ K ↔ inI (a + b) ∧ Rn 284 186 L (vI (a + b) :: st) T σ K := R_iadd (by decide +kernel)
theorem s284_186 : Rn 284 186 [some (vR o), l1, l2, l3, l4, l5] st T σ K ↔ Rn 284 187 [some (vR o), l1, l2, l3, l4, l5] (vR o :: st) T σ K := R_aload_n (n := 0) (by decide +kernel) rfl
theorem s284_187 : Rn 284 187 L (vR o :: st) T σ K ↔ sx_kd T o = 9 ∧ ∃ t, sx_rf T o 7 = some t ∧ Rn 284 190 L (vR t :: st) T σ K := R_getR (idx := 33) (ci := 9) (k := 7) (by decide +kernel) (by decide +kernel) rfl
theorem s284_190 : Rn 284 190 [l0, l1, l2, l3, some (vI a), l5] st T σ K ↔ Rn 284 192 [l0, l1, l2, l3, some (vI a), l5] (vI a :: st) T σ K := R_iload (n := 4) (by decide +kernel) rfl
theorem s284_192 : Rn 284 192 L st T σ K ↔ Rn 284 193 L (vI 3 :: st) T σ K := R_iconst (n := 3) (by decide +kernel) (by decide)
theorem s284_193 : Rn 284 193 L (vI b :: vI a :: st) T σ K ↔ inI (a + b) ∧ Rn 284 194 L (vI (a + b) :: st) T σ K := R_iadd (by decide +kernel)
theorem s284_194 : Rn 284 194 L (vI a :: vR o :: st) T σ K ↔ (sx_kd T o = 20 ∧ 0 ≤ a ∧ a < sx_ln T o) ∧ Rn 284 195 L (vI (σ o a) :: st) T σ K := R_iald (by decide +kernel) (by decide)
theorem s284_195 : Rn 284 195 L (vI b :: vI a :: vR o :: st) T σ K ↔ (sx_kd T o = 20 ∧ 0 ≤ a ∧ a < sx_ln T o) ∧ Rn 284 196 L st T (sx_up σ o a b) K := R_iast (by decide +kernel)
theorem s284_196 : Rn 284 196 [some (vR o), l1, l2, l3, l4, l5] st T σ K ↔ Rn 284 197 [some (vR o), l1, l2, l3, l4, l5] (vR o :: st) T σ K := R_aload_n (n := 0) (by decide +kernel) rfl
theorem s284_197 : Rn 284 197 L (vR o :: st) T σ K ↔ sx_kd T o = 9 ∧ ∃ t, sx_rf T o 0 = some t ∧ Rn 284 200 L (vR t :: st) T σ K := R_getR (idx := 7) (ci := 9) (k := 0) (by decide +kernel) (by decide +kernel) rfl
theorem s284_200 : Rn 284 200 L st T σ K ↔ Rn 284 203 L (vI 160 :: st) T σ K := R_sipush (n := 160) (by decide +kernel) (by decide +kernel)
theorem s284_203 : Rn 284 203 [l0, l1, l2, l3, l4, some (vI a)] st T σ K ↔ Rn 284 205 [l0, l1, l2, l3, l4, some (vI a)] (vI a :: st) T σ K := R_iload (n := 5) (by decide +kernel) rfl
theorem s284_205 : Rn 284 205 L (vI b :: vI a :: st) T σ K ↔ inI (a + b) ∧ Rn 284 206 L (vI (a + b) :: st) T σ K := R_iadd (by decide +kernel)
theorem s284_206 : Rn 284 206 [some (vR o), l1, l2, l3, l4, l5] st T σ K ↔ Rn 284 207 [some (vR o), l1, l2, l3, l4, l5] (vR o :: st) T σ K := R_aload_n (n := 0) (by decide +kernel) rfl
theorem s284_207 : Rn 284 207 L (vR o :: st) T σ K ↔ sx_kd T o = 9 ∧ ∃ t, sx_rf T o 7 = some t ∧ Rn 284 210 L (vR t :: st) T σ K := R_getR (idx := 33) (ci := 9) (k := 7) (by decide +kernel) (by decide +kernel) rfl
theorem s284_210 : Rn 284 210 [l0, l1, l2, l3, some (vI a), l5] st T σ K ↔ Rn 284 212 [l0, l1, l2, l3, some (vI a), l5] (vI a :: st) T σ K := R_iload (n := 4) (by decide +kernel) rfl
theorem s284_212 : Rn 284 212 L st T σ K ↔ Rn 284 213 L (vI 4 :: st) T σ K := R_iconst (n := 4) (by decide +kernel) (by decide)
theorem s284_213 : Rn 284 213 L (vI b :: vI a :: st) T σ K ↔ inI (a + b) ∧ Rn 284 214 L (vI (a + b) :: st) T σ K := R_iadd (by decide +kernel)
theorem s284_214 : Rn 284 214 L (vI a :: vR o :: st) T σ K ↔ (sx_kd T o = 20 ∧ 0 ≤ a ∧ a < sx_ln T o) ∧ Rn 284 215 L (vI (σ o a) :: st) T σ K := R_iald (by decide +kernel) (by decide)
theorem s284_215 : Rn 284 215 L (vI b :: vI a :: vR o :: st) T σ K ↔ (sx_kd T o = 20 ∧ 0 ≤ a ∧ a < sx_ln T o) ∧ Rn 284 216 L st T (sx_up σ o a b) K := R_iast (by decide +kernel)
theorem s284_216 : Rn 284 216 [some (vR o), l1, l2, l3, l4, l5] st T σ K ↔ Rn 284 217 [some (vR o), l1, l2, l3, l4, l5] (vR o :: st) T σ K := R_aload_n (n := 0) (by decide +kernel) rfl
theorem s284_217 : Rn 284 217 L (vR o :: st) T σ K ↔ sx_kd T o = 9 ∧ ∃ t, sx_rf T o 0 = some t ∧ Rn 284 220 L (vR t :: st) T σ K := R_getR (idx := 7) (ci := 9) (k := 0) (by decide +kernel) (by decide +kernel) rfl
theorem s284_220 : Rn 284 220 L st T σ K ↔ Rn 284 223 L (vI 200 :: st) T σ K := R_sipush (n := 200) (by decide +kernel) (by decide +kernel)
theorem s284_223 : Rn 284 223 [l0, l1, l2, l3, l4, some (vI a)] st T σ K ↔ Rn 284 225 [l0, l1, l2, l3, l4, some (vI a)] (vI a :: st) T σ K := R_iload (n := 5) (by decide +kernel) rfl
theorem s284_225 : Rn 284 225 L (vI b :: vI a :: st) T σ K ↔ inI (a + b) ∧ Rn 284 226 L (vI (a + b) :: st) T σ K := R_iadd (by decide +kernel)
theorem s284_226 : Rn 284 226 [some (vR o), l1, l2, l3, l4, l5] st T σ K ↔ Rn 284 227 [some (vR o), l1, l2, l3, l4, l5] (vR o :: st) T σ K := R_aload_n (n := 0) (by decide +kernel) rfl
theorem s284_227 : Rn 284 227 L (vR o :: st) T σ K ↔ sx_kd T o = 9 ∧ ∃ t, sx_rf T o 7 = some t ∧ Rn 284 230 L (vR t :: st) T σ K := R_getR (idx := 33) (ci := 9) (k := 7) (by decide +kernel) (by decide +kernel) rfl
theorem s284_230 : Rn 284 230 [l0, l1, l2, l3, some (vI a), l5] st T σ K ↔ Rn 284 232 [l0, l1, l2, l3, some (vI a), l5] (vI a :: st) T σ K := R_iload (n := 4) (by decide +kernel) rfl
theorem s284_232 : Rn 284 232 L st T σ K ↔ Rn 284 233 L (vI 5 :: st) T σ K := R_iconst (n := 5) (by decide +kernel) (by decide)
theorem s284_233 : Rn 284 233 L (vI b :: vI a :: st) T σ K ↔ inI (a + b) ∧ Rn 284 234 L (vI (a + b) :: st) T σ K := R_iadd (by decide +kernel)
theorem s284_234 : Rn 284 234 L (vI a :: vR o :: st) T σ K ↔ (sx_kd T o = 20 ∧ 0 ≤ a ∧ a < sx_ln T o) ∧ Rn 284 235 L (vI (σ o a) :: st) T σ K := R_iald (by decide +kernel) (by decide)
theorem s284_235 : Rn 284 235 L st T σ K ↔ Rn 284 238 L (vI 255 :: st) T σ K := R_sipush (n := 255) (by decide +kernel) (by decide +kernel)
theorem s284_238 : Rn 284 238 L (vI b :: vI a :: st) T σ K ↔ (a ≠ b → Rn 284 245 L st T σ K) ∧ (a = b → Rn 284 241 L st T σ K) := R_icmp_ne (off := 7) (by decide +kernel) (by decide)
theorem s284_241 : Rn 284 241 L st T σ K ↔ Rn 284 242 L (vI (-1) :: st) T σ K := R_iconst (n := -1) (by decide +kernel) (by decide)
theorem s284_242 : Rn 284 242 L st T σ K ↔ Rn 284 254 L st T σ K := R_goto (off := 12) (by decide +kernel) (by decide)
theorem s284_245 : Rn 284 245 [some (vR o), l1, l2, l3, l4, l5] st T σ K ↔ Rn 284 246 [some (vR o), l1, l2, l3, l4, l5] (vR o :: st) T σ K := R_aload_n (n := 0) (by decide +kernel) rfl
theorem s284_246 : Rn 284 246 L (vR o :: st) T σ K ↔ sx_kd T o = 9 ∧ ∃ t, sx_rf T o 7 = some t ∧ Rn 284 249 L (vR t :: st) T σ K := R_getR (idx := 33) (ci := 9) (k := 7) (by decide +kernel) (by decide +kernel) rfl
theorem s284_249 : Rn 284 249 [l0, l1, l2, l3, some (vI a), l5] st T σ K ↔ Rn 284 251 [l0, l1, l2, l3, some (vI a), l5] (vI a :: st) T σ K := R_iload (n := 4) (by decide +kernel) rfl
theorem s284_251 : Rn 284 251 L st T σ K ↔ Rn 284 252 L (vI 5 :: st) T σ K := R_iconst (n := 5) (by decide +kernel) (by decide)
theorem s284_252 : Rn 284 252 L (vI b :: vI a :: st) T σ K ↔ inI (a + b) ∧ Rn 284 253 L (vI (a + b) :: st) T σ K := R_iadd (by decide +kernel)
theorem s284_253 : Rn 284 253 L (vI a :: vR o :: st) T σ K ↔ (sx_kd T o = 20 ∧ 0 ≤ a ∧ a < sx_ln T o) ∧ Rn 284 254 L (vI (σ o a) :: st) T σ K := R_iald (by decide +kernel) (by decide)
theorem s284_254 : Rn 284 254 L (vI b :: vI a :: vR o :: st) T σ K ↔ (sx_kd T o = 20 ∧ 0 ≤ a ∧ a < sx_ln T o) ∧ Rn 284 255 L st T (sx_up σ o a b) K := R_iast (by decide +kernel)
theorem s284_255 : Rn 284 255 [l0, l1, l2, some (vI a), l4, l5] st T σ K ↔ inI (a + 1) ∧ Rn 284 258 [l0, l1, l2, some (vI (a + 1)), l4, l5] st T σ K := R_iinc (n := 3) (d := 1) (by decide +kernel) rfl
theorem s284_258 : Rn 284 258 L st T σ K ↔ Rn 284 40 L st T σ K := R_goto (off := -218) (by decide +kernel) (by decide)
theorem s284_261 : Rn 284 261 L st T σ K ↔ Rn 284 262 L (vI 1 :: st) T σ K := R_iconst (n := 1) (by decide +kernel) (by decide)
theorem s284_262 : Rn 284 262 L [vI a] T σ K ↔ (a = 0 ∨ a = 1) ∧ K (some (vI a)) T σ := R_retZ (by decide +kernel) (by decide +kernel)
theorem s285_0 : Rn 285 0 L st T σ K ↔ Rn 285 1 L (vI 0 :: st) T σ K := R_iconst (n := 0) (by decide +kernel) (by decide)
theorem s285_1 : Rn 285 1 [l0, l1, l2, l3, l4] (vI a :: st) T σ K ↔ Rn 285 2 [l0, some (vI a), l2, l3, l4] st T σ K := R_istore_n (n := 1) (by decide +kernel) rfl
theorem s285_2 : Rn 285 2 L st T σ K ↔ Rn 285 3 L (vI 0 :: st) T σ K := R_iconst (n := 0) (by decide +kernel) (by decide)
theorem s285_3 : Rn 285 3 [l0, l1, l2, l3, l4] (vI a :: st) T σ K ↔ Rn 285 4 [l0, l1, some (vI a), l3, l4] st T σ K := R_istore_n (n := 2) (by decide +kernel) rfl
theorem s285_4 : Rn 285 4 [l0, l1, some (vI a), l3, l4] st T σ K ↔ Rn 285 5 [l0, l1, some (vI a), l3, l4] (vI a :: st) T σ K := R_iload_n (n := 2) (by decide +kernel) rfl
theorem s285_5 : Rn 285 5 L st T σ K ↔ Rn 285 7 L (vI 40 :: st) T σ K := R_bipush (n := 40) (by decide +kernel) (by decide +kernel)
theorem s285_7 : Rn 285 7 L (vI b :: vI a :: st) T σ K ↔ (b ≤ a → Rn 285 120 L st T σ K) ∧ (a < b → Rn 285 10 L st T σ K) := R_icmp_ge (off := 113) (by decide +kernel) (by decide)
theorem s285_10 : Rn 285 10 [some (vR o), l1, l2, l3, l4] st T σ K ↔ Rn 285 11 [some (vR o), l1, l2, l3, l4] (vR o :: st) T σ K := R_aload_n (n := 0) (by decide +kernel) rfl
theorem s285_11 : Rn 285 11 L (vR o :: st) T σ K ↔ sx_kd T o = 9 ∧ ∃ t, sx_rf T o 0 = some t ∧ Rn 285 14 L (vR t :: st) T σ K := R_getR (idx := 7) (ci := 9) (k := 0) (by decide +kernel) (by decide +kernel) rfl
theorem s285_14 : Rn 285 14 L st T σ K ↔ Rn 285 15 L (vI 0 :: st) T σ K := R_iconst (n := 0) (by decide +kernel) (by decide)
theorem s285_15 : Rn 285 15 [l0, l1, some (vI a), l3, l4] st T σ K ↔ Rn 285 16 [l0, l1, some (vI a), l3, l4] (vI a :: st) T σ K := R_iload_n (n := 2) (by decide +kernel) rfl
theorem s285_16 : Rn 285 16 L (vI b :: vI a :: st) T σ K ↔ inI (a + b) ∧ Rn 285 17 L (vI (a + b) :: st) T σ K := R_iadd (by decide +kernel)
theorem s285_17 : Rn 285 17 L (vI a :: vR o :: st) T σ K ↔ (sx_kd T o = 20 ∧ 0 ≤ a ∧ a < sx_ln T o) ∧ Rn 285 18 L (vI (σ o a) :: st) T σ K := R_iald (by decide +kernel) (by decide)
theorem s285_18 : Rn 285 18 L (vI a :: st) T σ K ↔ (a ≠ 0 → Rn 285 24 L st T σ K) ∧ (a = 0 → Rn 285 21 L st T σ K) := R_if_ne (off := 6) (by decide +kernel) (by decide)
theorem s285_21 : Rn 285 21 L st T σ K ↔ Rn 285 114 L st T σ K := R_goto (off := 93) (by decide +kernel) (by decide)
theorem s285_24 : Rn 285 24 [some (vR o), l1, l2, l3, l4] st T σ K ↔ Rn 285 25 [some (vR o), l1, l2, l3, l4] (vR o :: st) T σ K := R_aload_n (n := 0) (by decide +kernel) rfl
theorem s285_25 : Rn 285 25 L (vR o :: st) T σ K ↔ sx_kd T o = 9 ∧ ∃ t, sx_rf T o 0 = some t ∧ Rn 285 28 L (vR t :: st) T σ K := R_getR (idx := 7) (ci := 9) (k := 0) (by decide +kernel) (by decide +kernel) rfl
theorem s285_28 : Rn 285 28 L st T σ K ↔ Rn 285 31 L (vI 200 :: st) T σ K := R_sipush (n := 200) (by decide +kernel) (by decide +kernel)
theorem s285_31 : Rn 285 31 [l0, l1, some (vI a), l3, l4] st T σ K ↔ Rn 285 32 [l0, l1, some (vI a), l3, l4] (vI a :: st) T σ K := R_iload_n (n := 2) (by decide +kernel) rfl
theorem s285_32 : Rn 285 32 L (vI b :: vI a :: st) T σ K ↔ inI (a + b) ∧ Rn 285 33 L (vI (a + b) :: st) T σ K := R_iadd (by decide +kernel)
theorem s285_33 : Rn 285 33 L (vI a :: vR o :: st) T σ K ↔ (sx_kd T o = 20 ∧ 0 ≤ a ∧ a < sx_ln T o) ∧ Rn 285 34 L (vI (σ o a) :: st) T σ K := R_iald (by decide +kernel) (by decide)
theorem s285_34 : Rn 285 34 [l0, l1, l2, l3, l4] (vI a :: st) T σ K ↔ Rn 285 35 [l0, l1, l2, some (vI a), l4] st T σ K := R_istore_n (n := 3) (by decide +kernel) rfl
theorem s285_35 : Rn 285 35 [some (vR o), l1, l2, l3, l4] st T σ K ↔ Rn 285 36 [some (vR o), l1, l2, l3, l4] (vR o :: st) T σ K := R_aload_n (n := 0) (by decide +kernel) rfl
theorem s285_36 : Rn 285 36 L (vR o :: st) T σ K ↔ sx_kd T o = 9 ∧ ∃ t, sx_rf T o 0 = some t ∧ Rn 285 39 L (vR t :: st) T σ K := R_getR (idx := 7) (ci := 9) (k := 0) (by decide +kernel) (by decide +kernel) rfl
theorem s285_39 : Rn 285 39 L st T σ K ↔ Rn 285 42 L (vI 160 :: st) T σ K := R_sipush (n := 160) (by decide +kernel) (by decide +kernel)
theorem s285_42 : Rn 285 42 [l0, l1, some (vI a), l3, l4] st T σ K ↔ Rn 285 43 [l0, l1, some (vI a), l3, l4] (vI a :: st) T σ K := R_iload_n (n := 2) (by decide +kernel) rfl
theorem s285_43 : Rn 285 43 L (vI b :: vI a :: st) T σ K ↔ inI (a + b) ∧ Rn 285 44 L (vI (a + b) :: st) T σ K := R_iadd (by decide +kernel)
theorem s285_44 : Rn 285 44 L (vI a :: vR o :: st) T σ K ↔ (sx_kd T o = 20 ∧ 0 ≤ a ∧ a < sx_ln T o) ∧ Rn 285 45 L (vI (σ o a) :: st) T σ K := R_iald (by decide +kernel) (by decide)
theorem s285_45 : Rn 285 45 L st T σ K ↔ Rn 285 47 L (vI 10 :: st) T σ K := R_bipush (n := 10) (by decide +kernel) (by decide +kernel)
theorem s285_47 : Rn 285 47 L (vI b :: vI a :: st) T σ K ↔ (a ≠ b → Rn 285 60 L st T σ K) ∧ (a = b → Rn 285 50 L st T σ K) := R_icmp_ne (off := 13) (by decide +kernel) (by decide)
theorem s285_50 : Rn 285 50 [l0, some (vI a), l2, l3, l4] st T σ K ↔ inI (a + 1) ∧ Rn 285 53 [l0, some (vI (a + 1)), l2, l3, l4] st T σ K := R_iinc (n := 1) (d := 1) (by decide +kernel) rfl
theorem s285_53 : Rn 285 53 [l0, l1, l2, some (vI a), l4] st T σ K ↔ Rn 285 54 [l0, l1, l2, some (vI a), l4] (vI a :: st) T σ K := R_iload_n (n := 3) (by decide +kernel) rfl
theorem s285_54 : Rn 285 54 L st T σ K ↔ Rn 285 55 L (vI (-1) :: st) T σ K := R_iconst (n := -1) (by decide +kernel) (by decide)
theorem s285_55 : Rn 285 55 L (vI b :: vI a :: st) T σ K ↔ (a = b → Rn 285 114 L st T σ K) ∧ (a ≠ b → Rn 285 58 L st T σ K) := R_icmp_eq (off := 59) (by decide +kernel) (by decide)
theorem s285_58 : Rn 285 58 L st T σ K ↔ Rn 285 59 L (vI 0 :: st) T σ K := R_iconst (n := 0) (by decide +kernel) (by decide)
theorem s285_59 : Rn 285 59 L [vI a] T σ K ↔ (a = 0 ∨ a = 1) ∧ K (some (vI a)) T σ := R_retZ (by decide +kernel) (by decide +kernel)
theorem s285_60 : Rn 285 60 [some (vR o), l1, l2, l3, l4] st T σ K ↔ Rn 285 61 [some (vR o), l1, l2, l3, l4] (vR o :: st) T σ K := R_aload_n (n := 0) (by decide +kernel) rfl
theorem s285_61 : Rn 285 61 [l0, l1, l2, some (vI a), l4] st T σ K ↔ Rn 285 62 [l0, l1, l2, some (vI a), l4] (vI a :: st) T σ K := R_iload_n (n := 3) (by decide +kernel) rfl
theorem s285_62 : Rn 285 62 L (vI a :: vR o :: st) T σ K ↔ (sx_kd T o = 9 ∧ st.length ≤ 4) ∧ Rn 205 0 [some (vR o), some (vI a)] [] T σ (fun r T' σ' => Rn 285 65 L (sx_push r st) T' σ' K) := R_V (cm := 205) (n := 1) (idx := 254) (ci := 9) (mx := 2) (vs := [vI a]) (by decide +kernel) (by decide +kernel) rfl (by decide +kernel) rfl (by decide +kernel) (by decide +kernel)
theorem s285_65 : Rn 285 65 L (vI a :: st) T σ K ↔ (a = 0 → Rn 285 112 L st T σ K) ∧ (a ≠ 0 → Rn 285 68 L st T σ K) := R_if_eq (off := 47) (by decide +kernel) (by decide)
theorem s285_68 : Rn 285 68 [some (vR o), l1, l2, l3, l4] st T σ K ↔ Rn 285 69 [some (vR o), l1, l2, l3, l4] (vR o :: st) T σ K := R_aload_n (n := 0) (by decide +kernel) rfl
theorem s285_69 : Rn 285 69 L (vR o :: st) T σ K ↔ sx_kd T o = 9 ∧ ∃ t, sx_rf T o 0 = some t ∧ Rn 285 72 L (vR t :: st) T σ K := R_getR (idx := 7) (ci := 9) (k := 0) (by decide +kernel) (by decide +kernel) rfl
theorem s285_72 : Rn 285 72 L st T σ K ↔ Rn 285 75 L (vI 160 :: st) T σ K := R_sipush (n := 160) (by decide +kernel) (by decide +kernel)
theorem s285_75 : Rn 285 75 [l0, l1, l2, some (vI a), l4] st T σ K ↔ Rn 285 76 [l0, l1, l2, some (vI a), l4] (vI a :: st) T σ K := R_iload_n (n := 3) (by decide +kernel) rfl
theorem s285_76 : Rn 285 76 L (vI b :: vI a :: st) T σ K ↔ inI (a + b) ∧ Rn 285 77 L (vI (a + b) :: st) T σ K := R_iadd (by decide +kernel)
theorem s285_77 : Rn 285 77 L (vI a :: vR o :: st) T σ K ↔ (sx_kd T o = 20 ∧ 0 ≤ a ∧ a < sx_ln T o) ∧ Rn 285 78 L (vI (σ o a) :: st) T σ K := R_iald (by decide +kernel) (by decide)
theorem s285_78 : Rn 285 78 [some (vR o), l1, l2, l3, l4] st T σ K ↔ Rn 285 79 [some (vR o), l1, l2, l3, l4] (vR o :: st) T σ K := R_aload_n (n := 0) (by decide +kernel) rfl
theorem s285_79 : Rn 285 79 L (vR o :: st) T σ K ↔ sx_kd T o = 9 ∧ ∃ t, sx_rf T o 0 = some t ∧ Rn 285 82 L (vR t :: st) T σ K := R_getR (idx := 7) (ci := 9) (k := 0) (by decide +kernel) (by decide +kernel) rfl
theorem s285_82 : Rn 285 82 L st T σ K ↔ Rn 285 85 L (vI 160 :: st) T σ K := R_sipush (n := 160) (by decide +kernel) (by decide +kernel)
theorem s285_85 : Rn 285 85 [l0, l1, some (vI a), l3, l4] st T σ K ↔ Rn 285 86 [l0, l1, some (vI a), l3, l4] (vI a :: st) T σ K := R_iload_n (n := 2) (by decide +kernel) rfl
theorem s285_86 : Rn 285 86 L (vI b :: vI a :: st) T σ K ↔ inI (a + b) ∧ Rn 285 87 L (vI (a + b) :: st) T σ K := R_iadd (by decide +kernel)
theorem s285_87 : Rn 285 87 L (vI a :: vR o :: st) T σ K ↔ (sx_kd T o = 20 ∧ 0 ≤ a ∧ a < sx_ln T o) ∧ Rn 285 88 L (vI (σ o a) :: st) T σ K := R_iald (by decide +kernel) (by decide)
theorem s285_88 : Rn 285 88 L (vI b :: vI a :: st) T σ K ↔ (a ≤ b → Rn 285 112 L st T σ K) ∧ (b < a → Rn 285 91 L st T σ K) := R_icmp_le (off := 24) (by decide +kernel) (by decide)
theorem s285_91 : Rn 285 91 [some (vR o), l1, l2, l3, l4] st T σ K ↔ Rn 285 92 [some (vR o), l1, l2, l3, l4] (vR o :: st) T σ K := R_aload_n (n := 0) (by decide +kernel) rfl
theorem s285_92 : Rn 285 92 [l0, l1, some (vI a), l3, l4] st T σ K ↔ Rn 285 93 [l0, l1, some (vI a), l3, l4] (vI a :: st) T σ K := R_iload_n (n := 2) (by decide +kernel) rfl
theorem s285_93 : Rn 285 93 [l0, l1, l2, some (vI a), l4] st T σ K ↔ Rn 285 94 [l0, l1, l2, some (vI a), l4] (vI a :: st) T σ K := R_iload_n (n := 3) (by decide +kernel) rfl
theorem s285_94 : Rn 285 94 L (vI b :: vI a :: vR o :: st) T σ K ↔ (sx_kd T o = 9 ∧ st.length ≤ 4) ∧ Rn 216 0 [some (vR o), some (vI a), some (vI b)] [] T σ (fun r T' σ' => Rn 285 97 L (sx_push r st) T' σ' K) := R_V (cm := 216) (n := 2) (idx := 238) (ci := 9) (mx := 3) (vs := [vI a, vI b]) (by decide +kernel) (by decide +kernel) rfl (by decide +kernel) rfl (by decide +kernel) (by decide +kernel)
theorem s285_97 : Rn 285 97 L st T σ K ↔ Rn 285 98 L (vI 2 :: st) T σ K := R_iconst (n := 2) (by decide +kernel) (by decide)
theorem s285_98 : Rn 285 98 [some (vR o), l1, l2, l3, l4] st T σ K ↔ Rn 285 99 [some (vR o), l1, l2, l3, l4] (vR o :: st) T σ K := R_aload_n (n := 0) (by decide +kernel) rfl
theorem s285_99 : Rn 285 99 L (vR o :: st) T σ K ↔ sx_kd T o = 9 ∧ ∃ t, sx_rf T o 0 = some t ∧ Rn 285 102 L (vR t :: st) T σ K := R_getR (idx := 7) (ci := 9) (k := 0) (by decide +kernel) (by decide +kernel) rfl
theorem s285_102 : Rn 285 102 L st T σ K ↔ Rn 285 105 L (vI 160 :: st) T σ K := R_sipush (n := 160) (by decide +kernel) (by decide +kernel)
theorem s285_105 : Rn 285 105 [l0, l1, some (vI a), l3, l4] st T σ K ↔ Rn 285 106 [l0, l1, some (vI a), l3, l4] (vI a :: st) T σ K := R_iload_n (n := 2) (by decide +kernel) rfl
theorem s285_106 : Rn 285 106 L (vI b :: vI a :: st) T σ K ↔ inI (a + b) ∧ Rn 285 107 L (vI (a + b) :: st) T σ K := R_iadd (by decide +kernel)
theorem s285_107 : Rn 285 107 L (vI a :: vR o :: st) T σ K ↔ (sx_kd T o = 20 ∧ 0 ≤ a ∧ a < sx_ln T o) ∧ Rn 285 108 L (vI (σ o a) :: st) T σ K := R_iald (by decide +kernel) (by decide)
theorem s285_108 : Rn 285 108 L (vI b :: vI a :: st) T σ K ↔ (0 ≤ b ∧ b ≤ 31) ∧ inI (a * 2 ^ b.toNat) ∧ Rn 285 109 L (vI (a * 2 ^ b.toNat) :: st) T σ K := R_ishl (by decide +kernel)
theorem s285_109 : Rn 285 109 L (vI b :: vI a :: st) T σ K ↔ (a < b → Rn 285 114 L st T σ K) ∧ (b ≤ a → Rn 285 112 L st T σ K) := R_icmp_lt (off := 5) (by decide +kernel) (by decide)
theorem s285_112 : Rn 285 112 L st T σ K ↔ Rn 285 113 L (vI 0 :: st) T σ K := R_iconst (n := 0) (by decide +kernel) (by decide)
theorem s285_113 : Rn 285 113 L [vI a] T σ K ↔ (a = 0 ∨ a = 1) ∧ K (some (vI a)) T σ := R_retZ (by decide +kernel) (by decide +kernel)
theorem s285_114 : Rn 285 114 [l0, l1, some (vI a), l3, l4] st T σ K ↔ inI (a + 1) ∧ Rn 285 117 [l0, l1, some (vI (a + 1)), l3, l4] st T σ K := R_iinc (n := 2) (d := 1) (by decide +kernel) rfl
theorem s285_117 : Rn 285 117 L st T σ K ↔ Rn 285 4 L st T σ K := R_goto (off := -113) (by decide +kernel) (by decide)
theorem s285_120 : Rn 285 120 [l0, some (vI a), l2, l3, l4] st T σ K ↔ Rn 285 121 [l0, some (vI a), l2, l3, l4] (vI a :: st) T σ K := R_iload_n (n := 1) (by decide +kernel) rfl
theorem s285_121 : Rn 285 121 [some (vR o), l1, l2, l3, l4] st T σ K ↔ Rn 285 122 [some (vR o), l1, l2, l3, l4] (vR o :: st) T σ K := R_aload_n (n := 0) (by decide +kernel) rfl
theorem s285_122 : Rn 285 122 L (vR o :: st) T σ K ↔ (sx_kd T o = 9 ∧ st.length ≤ 4) ∧ Rn 202 0 [some (vR o), none, none] [] T σ (fun r T' σ' => Rn 285 125 L (sx_push r st) T' σ' K) := R_V (cm := 202) (n := 0) (idx := 248) (ci := 9) (mx := 3) (vs := []) (by decide +kernel) (by decide +kernel) rfl (by decide +kernel) rfl (by decide +kernel) (by decide +kernel)
theorem s285_125 : Rn 285 125 L (vI a :: st) T σ K ↔ (a ≤ 0 → Rn 285 132 L st T σ K) ∧ (0 < a → Rn 285 128 L st T σ K) := R_if_le (off := 7) (by decide +kernel) (by decide)
theorem s285_128 : Rn 285 128 L st T σ K ↔ Rn 285 129 L (vI 1 :: st) T σ K := R_iconst (n := 1) (by decide +kernel) (by decide)
theorem s285_129 : Rn 285 129 L st T σ K ↔ Rn 285 133 L st T σ K := R_goto (off := 4) (by decide +kernel) (by decide)
theorem s285_132 : Rn 285 132 L st T σ K ↔ Rn 285 133 L (vI 0 :: st) T σ K := R_iconst (n := 0) (by decide +kernel) (by decide)
theorem s285_133 : Rn 285 133 L (vI b :: vI a :: st) T σ K ↔ (a = b → Rn 285 138 L st T σ K) ∧ (a ≠ b → Rn 285 136 L st T σ K) := R_icmp_eq (off := 5) (by decide +kernel) (by decide)
theorem s285_136 : Rn 285 136 L st T σ K ↔ Rn 285 137 L (vI 0 :: st) T σ K := R_iconst (n := 0) (by decide +kernel) (by decide)
theorem s285_137 : Rn 285 137 L [vI a] T σ K ↔ (a = 0 ∨ a = 1) ∧ K (some (vI a)) T σ := R_retZ (by decide +kernel) (by decide +kernel)
theorem s285_138 : Rn 285 138 L st T σ K ↔ Rn 285 139 L (vI 0 :: st) T σ K := R_iconst (n := 0) (by decide +kernel) (by decide)
theorem s285_139 : Rn 285 139 [l0, l1, l2, l3, l4] (vI a :: st) T σ K ↔ Rn 285 140 [l0, l1, some (vI a), l3, l4] st T σ K := R_istore_n (n := 2) (by decide +kernel) rfl
theorem s285_140 : Rn 285 140 [l0, l1, some (vI a), l3, l4] st T σ K ↔ Rn 285 141 [l0, l1, some (vI a), l3, l4] (vI a :: st) T σ K := R_iload_n (n := 2) (by decide +kernel) rfl
theorem s285_141 : Rn 285 141 L st T σ K ↔ Rn 285 143 L (vI 40 :: st) T σ K := R_bipush (n := 40) (by decide +kernel) (by decide +kernel)
theorem s285_143 : Rn 285 143 L (vI b :: vI a :: st) T σ K ↔ (b ≤ a → Rn 285 256 L st T σ K) ∧ (a < b → Rn 285 146 L st T σ K) := R_icmp_ge (off := 113) (by decide +kernel) (by decide)
theorem s285_146 : Rn 285 146 [l0, l1, some (vI a), l3, l4] st T σ K ↔ Rn 285 147 [l0, l1, some (vI a), l3, l4] (vI a :: st) T σ K := R_iload_n (n := 2) (by decide +kernel) rfl
theorem s285_147 : Rn 285 147 L st T σ K ↔ Rn 285 148 L (vI 1 :: st) T σ K := R_iconst (n := 1) (by decide +kernel) (by decide)
theorem s285_148 : Rn 285 148 L (vI b :: vI a :: st) T σ K ↔ inI (a + b) ∧ Rn 285 149 L (vI (a + b) :: st) T σ K := R_iadd (by decide +kernel)
theorem s285_149 : Rn 285 149 [l0, l1, l2, l3, l4] (vI a :: st) T σ K ↔ Rn 285 150 [l0, l1, l2, some (vI a), l4] st T σ K := R_istore_n (n := 3) (by decide +kernel) rfl
theorem s285_150 : Rn 285 150 [l0, l1, l2, some (vI a), l4] st T σ K ↔ Rn 285 151 [l0, l1, l2, some (vI a), l4] (vI a :: st) T σ K := R_iload_n (n := 3) (by decide +kernel) rfl
theorem s285_151 : Rn 285 151 L st T σ K ↔ Rn 285 153 L (vI 40 :: st) T σ K := R_bipush (n := 40) (by decide +kernel) (by decide +kernel)
theorem s285_153 : Rn 285 153 L (vI b :: vI a :: st) T σ K ↔ (b ≤ a → Rn 285 250 L st T σ K) ∧ (a < b → Rn 285 156 L st T σ K) := R_icmp_ge (off := 97) (by decide +kernel) (by decide)
theorem s285_156 : Rn 285 156 [some (vR o), l1, l2, l3, l4] st T σ K ↔ Rn 285 157 [some (vR o), l1, l2, l3, l4] (vR o :: st) T σ K := R_aload_n (n := 0) (by decide +kernel) rfl
theorem s285_157 : Rn 285 157 L (vR o :: st) T σ K ↔ sx_kd T o = 9 ∧ ∃ t, sx_rf T o 0 = some t ∧ Rn 285 160 L (vR t :: st) T σ K := R_getR (idx := 7) (ci := 9) (k := 0) (by decide +kernel) (by decide +kernel) rfl
theorem s285_160 : Rn 285 160 L st T σ K ↔ Rn 285 161 L (vI 0 :: st) T σ K := R_iconst (n := 0) (by decide +kernel) (by decide)
theorem s285_161 : Rn 285 161 [l0, l1, some (vI a), l3, l4] st T σ K ↔ Rn 285 162 [l0, l1, some (vI a), l3, l4] (vI a :: st) T σ K := R_iload_n (n := 2) (by decide +kernel) rfl
theorem s285_162 : Rn 285 162 L (vI b :: vI a :: st) T σ K ↔ inI (a + b) ∧ Rn 285 163 L (vI (a + b) :: st) T σ K := R_iadd (by decide +kernel)
theorem s285_163 : Rn 285 163 L (vI a :: vR o :: st) T σ K ↔ (sx_kd T o = 20 ∧ 0 ≤ a ∧ a < sx_ln T o) ∧ Rn 285 164 L (vI (σ o a) :: st) T σ K := R_iald (by decide +kernel) (by decide)
theorem s285_164 : Rn 285 164 L (vI a :: st) T σ K ↔ (a = 0 → Rn 285 244 L st T σ K) ∧ (a ≠ 0 → Rn 285 167 L st T σ K) := R_if_eq (off := 80) (by decide +kernel) (by decide)
theorem s285_167 : Rn 285 167 [some (vR o), l1, l2, l3, l4] st T σ K ↔ Rn 285 168 [some (vR o), l1, l2, l3, l4] (vR o :: st) T σ K := R_aload_n (n := 0) (by decide +kernel) rfl
theorem s285_168 : Rn 285 168 L (vR o :: st) T σ K ↔ sx_kd T o = 9 ∧ ∃ t, sx_rf T o 0 = some t ∧ Rn 285 171 L (vR t :: st) T σ K := R_getR (idx := 7) (ci := 9) (k := 0) (by decide +kernel) (by decide +kernel) rfl
theorem s285_171 : Rn 285 171 L st T σ K ↔ Rn 285 172 L (vI 0 :: st) T σ K := R_iconst (n := 0) (by decide +kernel) (by decide)
theorem s285_172 : Rn 285 172 [l0, l1, l2, some (vI a), l4] st T σ K ↔ Rn 285 173 [l0, l1, l2, some (vI a), l4] (vI a :: st) T σ K := R_iload_n (n := 3) (by decide +kernel) rfl
theorem s285_173 : Rn 285 173 L (vI b :: vI a :: st) T σ K ↔ inI (a + b) ∧ Rn 285 174 L (vI (a + b) :: st) T σ K := R_iadd (by decide +kernel)
theorem s285_174 : Rn 285 174 L (vI a :: vR o :: st) T σ K ↔ (sx_kd T o = 20 ∧ 0 ≤ a ∧ a < sx_ln T o) ∧ Rn 285 175 L (vI (σ o a) :: st) T σ K := R_iald (by decide +kernel) (by decide)
theorem s285_175 : Rn 285 175 L (vI a :: st) T σ K ↔ (a ≠ 0 → Rn 285 181 L st T σ K) ∧ (a = 0 → Rn 285 178 L st T σ K) := R_if_ne (off := 6) (by decide +kernel) (by decide)
theorem s285_178 : Rn 285 178 L st T σ K ↔ Rn 285 244 L st T σ K := R_goto (off := 66) (by decide +kernel) (by decide)
theorem s285_181 : Rn 285 181 [some (vR o), l1, l2, l3, l4] st T σ K ↔ Rn 285 182 [some (vR o), l1, l2, l3, l4] (vR o :: st) T σ K := R_aload_n (n := 0) (by decide +kernel) rfl
theorem s285_182 : Rn 285 182 L (vR o :: st) T σ K ↔ sx_kd T o = 9 ∧ ∃ t, sx_rf T o 0 = some t ∧ Rn 285 185 L (vR t :: st) T σ K := R_getR (idx := 7) (ci := 9) (k := 0) (by decide +kernel) (by decide +kernel) rfl
theorem s285_185 : Rn 285 185 L st T σ K ↔ Rn 285 188 L (vI 160 :: st) T σ K := R_sipush (n := 160) (by decide +kernel) (by decide +kernel)
theorem s285_188 : Rn 285 188 [l0, l1, some (vI a), l3, l4] st T σ K ↔ Rn 285 189 [l0, l1, some (vI a), l3, l4] (vI a :: st) T σ K := R_iload_n (n := 2) (by decide +kernel) rfl
theorem s285_189 : Rn 285 189 L (vI b :: vI a :: st) T σ K ↔ inI (a + b) ∧ Rn 285 190 L (vI (a + b) :: st) T σ K := R_iadd (by decide +kernel)
theorem s285_190 : Rn 285 190 L (vI a :: vR o :: st) T σ K ↔ (sx_kd T o = 20 ∧ 0 ≤ a ∧ a < sx_ln T o) ∧ Rn 285 191 L (vI (σ o a) :: st) T σ K := R_iald (by decide +kernel) (by decide)
theorem s285_191 : Rn 285 191 [some (vR o), l1, l2, l3, l4] st T σ K ↔ Rn 285 192 [some (vR o), l1, l2, l3, l4] (vR o :: st) T σ K := R_aload_n (n := 0) (by decide +kernel) rfl
theorem s285_192 : Rn 285 192 L (vR o :: st) T σ K ↔ sx_kd T o = 9 ∧ ∃ t, sx_rf T o 0 = some t ∧ Rn 285 195 L (vR t :: st) T σ K := R_getR (idx := 7) (ci := 9) (k := 0) (by decide +kernel) (by decide +kernel) rfl
theorem s285_195 : Rn 285 195 L st T σ K ↔ Rn 285 198 L (vI 160 :: st) T σ K := R_sipush (n := 160) (by decide +kernel) (by decide +kernel)
theorem s285_198 : Rn 285 198 [l0, l1, l2, some (vI a), l4] st T σ K ↔ Rn 285 199 [l0, l1, l2, some (vI a), l4] (vI a :: st) T σ K := R_iload_n (n := 3) (by decide +kernel) rfl
theorem s285_199 : Rn 285 199 L (vI b :: vI a :: st) T σ K ↔ inI (a + b) ∧ Rn 285 200 L (vI (a + b) :: st) T σ K := R_iadd (by decide +kernel)
theorem s285_200 : Rn 285 200 L (vI a :: vR o :: st) T σ K ↔ (sx_kd T o = 20 ∧ 0 ≤ a ∧ a < sx_ln T o) ∧ Rn 285 201 L (vI (σ o a) :: st) T σ K := R_iald (by decide +kernel) (by decide)
theorem s285_201 : Rn 285 201 L (vI b :: vI a :: st) T σ K ↔ (b ≤ a → Rn 285 217 L st T σ K) ∧ (a < b → Rn 285 204 L st T σ K) := R_icmp_ge (off := 16) (by decide +kernel) (by decide)
theorem s285_204 : Rn 285 204 [some (vR o), l1, l2, l3, l4] st T σ K ↔ Rn 285 205 [some (vR o), l1, l2, l3, l4] (vR o :: st) T σ K := R_aload_n (n := 0) (by decide +kernel) rfl
theorem s285_205 : Rn 285 205 L (vR o :: st) T σ K ↔ sx_kd T o = 9 ∧ ∃ t, sx_rf T o 0 = some t ∧ Rn 285 208 L (vR t :: st) T σ K := R_getR (idx := 7) (ci := 9) (k := 0) (by decide +kernel) (by decide +kernel) rfl
theorem s285_208 : Rn 285 208 L st T σ K ↔ Rn 285 211 L (vI 160 :: st) T σ K := R_sipush (n := 160) (by decide +kernel) (by decide +kernel)
theorem s285_211 : Rn 285 211 [l0, l1, some (vI a), l3, l4] st T σ K ↔ Rn 285 212 [l0, l1, some (vI a), l3, l4] (vI a :: st) T σ K := R_iload_n (n := 2) (by decide +kernel) rfl
theorem s285_212 : Rn 285 212 L (vI b :: vI a :: st) T σ K ↔ inI (a + b) ∧ Rn 285 213 L (vI (a + b) :: st) T σ K := R_iadd (by decide +kernel)
theorem s285_213 : Rn 285 213 L (vI a :: vR o :: st) T σ K ↔ (sx_kd T o = 20 ∧ 0 ≤ a ∧ a < sx_ln T o) ∧ Rn 285 214 L (vI (σ o a) :: st) T σ K := R_iald (by decide +kernel) (by decide)
theorem s285_214 : Rn 285 214 L st T σ K ↔ Rn 285 227 L st T σ K := R_goto (off := 13) (by decide +kernel) (by decide)
theorem s285_217 : Rn 285 217 [some (vR o), l1, l2, l3, l4] st T σ K ↔ Rn 285 218 [some (vR o), l1, l2, l3, l4] (vR o :: st) T σ K := R_aload_n (n := 0) (by decide +kernel) rfl
theorem s285_218 : Rn 285 218 L (vR o :: st) T σ K ↔ sx_kd T o = 9 ∧ ∃ t, sx_rf T o 0 = some t ∧ Rn 285 221 L (vR t :: st) T σ K := R_getR (idx := 7) (ci := 9) (k := 0) (by decide +kernel) (by decide +kernel) rfl
theorem s285_221 : Rn 285 221 L st T σ K ↔ Rn 285 224 L (vI 160 :: st) T σ K := R_sipush (n := 160) (by decide +kernel) (by decide +kernel)
theorem s285_224 : Rn 285 224 [l0, l1, l2, some (vI a), l4] st T σ K ↔ Rn 285 225 [l0, l1, l2, some (vI a), l4] (vI a :: st) T σ K := R_iload_n (n := 3) (by decide +kernel) rfl
theorem s285_225 : Rn 285 225 L (vI b :: vI a :: st) T σ K ↔ inI (a + b) ∧ Rn 285 226 L (vI (a + b) :: st) T σ K := R_iadd (by decide +kernel)
theorem s285_226 : Rn 285 226 L (vI a :: vR o :: st) T σ K ↔ (sx_kd T o = 20 ∧ 0 ≤ a ∧ a < sx_ln T o) ∧ Rn 285 227 L (vI (σ o a) :: st) T σ K := R_iald (by decide +kernel) (by decide)
theorem s285_227 : Rn 285 227 [l0, l1, l2, l3, l4] (vI a :: st) T σ K ↔ Rn 285 229 [l0, l1, l2, l3, some (vI a)] st T σ K := R_istore (n := 4) (by decide +kernel) rfl
theorem s285_229 : Rn 285 229 [some (vR o), l1, l2, l3, l4] st T σ K ↔ Rn 285 230 [some (vR o), l1, l2, l3, l4] (vR o :: st) T σ K := R_aload_n (n := 0) (by decide +kernel) rfl
theorem s285_230 : Rn 285 230 [l0, l1, some (vI a), l3, l4] st T σ K ↔ Rn 285 231 [l0, l1, some (vI a), l3, l4] (vI a :: st) T σ K := R_iload_n (n := 2) (by decide +kernel) rfl
theorem s285_231 : Rn 285 231 [l0, l1, l2, some (vI a), l4] st T σ K ↔ Rn 285 232 [l0, l1, l2, some (vI a), l4] (vI a :: st) T σ K := R_iload_n (n := 3) (by decide +kernel) rfl
theorem s285_232 : Rn 285 232 L (vI b :: vI a :: vR o :: st) T σ K ↔ (sx_kd T o = 9 ∧ st.length ≤ 4) ∧ Rn 216 0 [some (vR o), some (vI a), some (vI b)] [] T σ (fun r T' σ' => Rn 285 235 L (sx_push r st) T' σ' K) := R_V (cm := 216) (n := 2) (idx := 238) (ci := 9) (mx := 3) (vs := [vI a, vI b]) (by decide +kernel) (by decide +kernel) rfl (by decide +kernel) rfl (by decide +kernel) (by decide +kernel)
theorem s285_235 : Rn 285 235 L st T σ K ↔ Rn 285 236 L (vI 1 :: st) T σ K := R_iconst (n := 1) (by decide +kernel) (by decide)
theorem s285_236 : Rn 285 236 [l0, l1, l2, l3, some (vI a)] st T σ K ↔ Rn 285 238 [l0, l1, l2, l3, some (vI a)] (vI a :: st) T σ K := R_iload (n := 4) (by decide +kernel) rfl
theorem s285_238 : Rn 285 238 L (vI b :: vI a :: st) T σ K ↔ (0 ≤ b ∧ b ≤ 31) ∧ inI (a * 2 ^ b.toNat) ∧ Rn 285 239 L (vI (a * 2 ^ b.toNat) :: st) T σ K := R_ishl (by decide +kernel)
theorem s285_239 : Rn 285 239 L (vI b :: vI a :: st) T σ K ↔ (b ≤ a → Rn 285 244 L st T σ K) ∧ (a < b → Rn 285 242 L st T σ K) := R_icmp_ge (off := 5) (by decide +kernel) (by decide)
theorem s285_242 : Rn 285 242 L st T σ K ↔ Rn 285 243 L (vI 0 :: st) T σ K := R_iconst (n := 0) (by decide +kernel) (by decide)
theorem s285_243 : Rn 285 243 L [vI a] T σ K ↔ (a = 0 ∨ a = 1) ∧ K (some (vI a)) T σ := R_retZ (by decide +kernel) (by decide +kernel)
theorem s285_244 : Rn 285 244 [l0, l1, l2, some (vI a), l4] st T σ K ↔ inI (a + 1) ∧ Rn 285 247 [l0, l1, l2, some (vI (a + 1)), l4] st T σ K := R_iinc (n := 3) (d := 1) (by decide +kernel) rfl
theorem s285_247 : Rn 285 247 L st T σ K ↔ Rn 285 150 L st T σ K := R_goto (off := -97) (by decide +kernel) (by decide)
theorem s285_250 : Rn 285 250 [l0, l1, some (vI a), l3, l4] st T σ K ↔ inI (a + 1) ∧ Rn 285 253 [l0, l1, some (vI (a + 1)), l3, l4] st T σ K := R_iinc (n := 2) (d := 1) (by decide +kernel) rfl
theorem s285_253 : Rn 285 253 L st T σ K ↔ Rn 285 140 L st T σ K := R_goto (off := -113) (by decide +kernel) (by decide)
theorem s285_256 : Rn 285 256 L st T σ K ↔ Rn 285 257 L (vI 1 :: st) T σ K := R_iconst (n := 1) (by decide +kernel) (by decide)
theorem s285_257 : Rn 285 257 L [vI a] T σ K ↔ (a = 0 ∨ a = 1) ∧ K (some (vI a)) T σ := R_retZ (by decide +kernel) (by decide +kernel)
theorem s286_0 : Rn 286 0 [l0, some (vI a)] st T σ K ↔ Rn 286 1 [l0, some (vI a)] (vI a :: st) T σ K := R_iload_n (n := 1) (by decide +kernel) rfl
theorem s286_1 : Rn 286 1 L st T σ K ↔ Rn 286 2 L (vI 0 :: st) T σ K := R_iconst (n := 0) (by decide +kernel) (by decide)
theorem s286_2 : Rn 286 2 L st T σ K ↔ Rn 286 3 L (vI 5 :: st) T σ K := R_iconst (n := 5) (by decide +kernel) (by decide)
theorem s286_3 : Rn 286 3 L (vI c :: vI b :: vI a :: st) T σ K ↔ st.length ≤ 4 ∧ Rn 185 0 [some (vI a), some (vI b), some (vI c)] [] T σ (fun r T' σ' => Rn 286 6 L (sx_push r st) T' σ' K) := R_S (cm := 185) (n := 3) (idx := 189) (mx := 3) (vs := [vI a, vI b, vI c]) (by decide +kernel) (Or.inl (by decide +kernel)) rfl (by decide +kernel) rfl (by decide +kernel)
theorem s286_6 : Rn 286 6 L (vI a :: st) T σ K ↔ (a = 0 → Rn 286 18 L st T σ K) ∧ (a ≠ 0 → Rn 286 9 L st T σ K) := R_if_eq (off := 12) (by decide +kernel) (by decide)
theorem s286_9 : Rn 286 9 [some (vR o), l1] st T σ K ↔ Rn 286 10 [some (vR o), l1] (vR o :: st) T σ K := R_aload_n (n := 0) (by decide +kernel) rfl
theorem s286_10 : Rn 286 10 L (vR o :: st) T σ K ↔ sx_kd T o = 9 ∧ ∃ t, sx_rf T o 9 = some t ∧ Rn 286 13 L (vR t :: st) T σ K := R_getR (idx := 39) (ci := 9) (k := 9) (by decide +kernel) (by decide +kernel) rfl
theorem s286_13 : Rn 286 13 [l0, some (vI a)] st T σ K ↔ Rn 286 14 [l0, some (vI a)] (vI a :: st) T σ K := R_iload_n (n := 1) (by decide +kernel) rfl
theorem s286_14 : Rn 286 14 L (vI a :: vR o :: st) T σ K ↔ (sx_kd T o = 20 ∧ 0 ≤ a ∧ a < sx_ln T o) ∧ Rn 286 15 L (vI (σ o a) :: st) T σ K := R_iald (by decide +kernel) (by decide)
theorem s286_15 : Rn 286 15 L st T σ K ↔ Rn 286 19 L st T σ K := R_goto (off := 4) (by decide +kernel) (by decide)
theorem s286_18 : Rn 286 18 L st T σ K ↔ Rn 286 19 L (vI (-1) :: st) T σ K := R_iconst (n := -1) (by decide +kernel) (by decide)
theorem s286_19 : Rn 286 19 L [vI a] T σ K ↔ K (some (vI a)) T σ := R_ret (by decide +kernel) (by decide +kernel)
end ST8
