section ST2
variable {L : sxL} {st : List sxV} {T : sxT} {σ : sxS} {K : Option sxV → sxT → sxS → Prop} {a b c d e f g : Int} {o p q r1 r2 : Nat} {l0 l1 l2 l3 l4 l5 l6 l7 l8 l9 l10 l11 : Option sxV}
theorem s49_0 : Rn 49 0 [l0, some (vI a)] st T σ K ↔ Rn 49 1 [l0, some (vI a)] (vI a :: st) T σ K := R_iload_n (n := 1) (by decide +kernel) rfl
theorem s49_1 : Rn 49 1 L (vI a :: st) T σ K ↔ (a < 0 → Rn 49 23 L st T σ K) ∧ (0 ≤ a → Rn 49 4 L st T σ K) := R_if_lt (off := 22) (by decide +kernel) (by decide)
theorem s49_4 : Rn 49 4 [l0, some (vI a)] st T σ K ↔ Rn 49 5 [l0, some (vI a)] (vI a :: st) T σ K := R_iload_n (n := 1) (by decide +kernel) rfl
theorem s49_5 : Rn 49 5 L st T σ K ↔ Rn 49 7 L (vI 40 :: st) T σ K := R_bipush (n := 40) (by decide +kernel) (by decide +kernel)
theorem s49_7 : Rn 49 7 L (vI b :: vI a :: st) T σ K ↔ (b ≤ a → Rn 49 23 L st T σ K) ∧ (a < b → Rn 49 10 L st T σ K) := R_icmp_ge (off := 16) (by decide +kernel) (by decide)
theorem s49_10 : Rn 49 10 [some (vR o), l1] st T σ K ↔ Rn 49 11 [some (vR o), l1] (vR o :: st) T σ K := R_aload_n (n := 0) (by decide +kernel) rfl
theorem s49_11 : Rn 49 11 L (vR o :: st) T σ K ↔ sx_kd T o = 2 ∧ ∃ t, sx_rf T o 1 = some t ∧ Rn 49 14 L (vR t :: st) T σ K := R_getR (idx := 15) (ci := 2) (k := 1) (by decide +kernel) (by decide +kernel) rfl
theorem s49_14 : Rn 49 14 [l0, some (vI a)] st T σ K ↔ Rn 49 15 [l0, some (vI a)] (vI a :: st) T σ K := R_iload_n (n := 1) (by decide +kernel) rfl
theorem s49_15 : Rn 49 15 L (vI a :: vR o :: st) T σ K ↔ (sx_kd T o = 20 ∧ 0 ≤ a ∧ a < sx_ln T o) ∧ Rn 49 16 L (vI (σ o a) :: st) T σ K := R_iald (by decide +kernel) (by decide)
theorem s49_16 : Rn 49 16 L (vI a :: st) T σ K ↔ (a < 0 → Rn 49 23 L st T σ K) ∧ (0 ≤ a → Rn 49 19 L st T σ K) := R_if_lt (off := 7) (by decide +kernel) (by decide)
theorem s49_19 : Rn 49 19 L st T σ K ↔ Rn 49 20 L (vI 1 :: st) T σ K := R_iconst (n := 1) (by decide +kernel) (by decide)
theorem s49_20 : Rn 49 20 L st T σ K ↔ Rn 49 24 L st T σ K := R_goto (off := 4) (by decide +kernel) (by decide)
theorem s49_23 : Rn 49 23 L st T σ K ↔ Rn 49 24 L (vI 0 :: st) T σ K := R_iconst (n := 0) (by decide +kernel) (by decide)
theorem s49_24 : Rn 49 24 L [vI a] T σ K ↔ (a = 0 ∨ a = 1) ∧ K (some (vI a)) T σ := R_retZ (by decide +kernel) (by decide +kernel)
theorem s50_0 : Rn 50 0 [some (vR o), l1] st T σ K ↔ Rn 50 1 [some (vR o), l1] (vR o :: st) T σ K := R_aload_n (n := 0) (by decide +kernel) rfl
theorem s50_1 : Rn 50 1 L (vR o :: st) T σ K ↔ sx_kd T o = 8 ∧ ∃ t, sx_rf T o 0 = some t ∧ Rn 50 4 L (vR t :: st) T σ K := R_getR (idx := 10) (ci := 8) (k := 0) (by decide +kernel) (by decide +kernel) rfl
theorem s50_4 : Rn 50 4 L (vR o :: st) T σ K ↔ (sx_kd T o = 6 ∧ st.length ≤ 4) ∧ Rn 51 0 [some (vR o), none, none, none] [] T σ (fun r T' σ' => Rn 50 7 L (sx_push r st) T' σ' K) := R_V (cm := 51) (n := 0) (idx := 150) (ci := 6) (mx := 4) (vs := []) (by decide +kernel) (by decide +kernel) rfl (by decide +kernel) rfl (by decide +kernel) (by decide +kernel)
theorem s50_7 : Rn 50 7 [l0, l1] (vI a :: st) T σ K ↔ Rn 50 8 [l0, some (vI a)] st T σ K := R_istore_n (n := 1) (by decide +kernel) rfl
theorem s50_8 : Rn 50 8 [some (vR o), l1] st T σ K ↔ Rn 50 9 [some (vR o), l1] (vR o :: st) T σ K := R_aload_n (n := 0) (by decide +kernel) rfl
theorem s50_9 : Rn 50 9 L (vR o :: st) T σ K ↔ sx_kd T o = 8 ∧ ∃ t, sx_rf T o 0 = some t ∧ Rn 50 12 L (vR t :: st) T σ K := R_getR (idx := 10) (ci := 8) (k := 0) (by decide +kernel) (by decide +kernel) rfl
theorem s50_12 : Rn 50 12 L st T σ K ↔ Rn 50 13 L (vI 0 :: st) T σ K := R_iconst (n := 0) (by decide +kernel) (by decide)
theorem s50_13 : Rn 50 13 L (vI a :: vR o :: st) T σ K ↔ sx_kd T o = 6 ∧ Rn 50 16 L st T (sx_up σ o 1 a) K := R_putI (idx := 85) (ci := 6) (k := 1) (by decide +kernel) (by decide +kernel) rfl rfl
theorem s50_16 : Rn 50 16 [l0, some (vI a)] st T σ K ↔ Rn 50 17 [l0, some (vI a)] (vI a :: st) T σ K := R_iload_n (n := 1) (by decide +kernel) rfl
theorem s50_17 : Rn 50 17 L st T σ K ↔ Rn 50 18 L (vI (-1) :: st) T σ K := R_iconst (n := -1) (by decide +kernel) (by decide)
theorem s50_18 : Rn 50 18 L (vI b :: vI a :: st) T σ K ↔ (a ≠ b → Rn 50 25 L st T σ K) ∧ (a = b → Rn 50 21 L st T σ K) := R_icmp_ne (off := 7) (by decide +kernel) (by decide)
theorem s50_21 : Rn 50 21 L st T σ K ↔ Rn 50 22 L (vI (-1) :: st) T σ K := R_iconst (n := -1) (by decide +kernel) (by decide)
theorem s50_22 : Rn 50 22 L st T σ K ↔ Rn 50 33 L st T σ K := R_goto (off := 11) (by decide +kernel) (by decide)
theorem s50_25 : Rn 50 25 [some (vR o), l1] st T σ K ↔ Rn 50 26 [some (vR o), l1] (vR o :: st) T σ K := R_aload_n (n := 0) (by decide +kernel) rfl
theorem s50_26 : Rn 50 26 L (vR o :: st) T σ K ↔ sx_kd T o = 8 ∧ ∃ t, sx_rf T o 2 = some t ∧ Rn 50 29 L (vR t :: st) T σ K := R_getR (idx := 28) (ci := 8) (k := 2) (by decide +kernel) (by decide +kernel) rfl
theorem s50_29 : Rn 50 29 [l0, some (vI a)] st T σ K ↔ Rn 50 30 [l0, some (vI a)] (vI a :: st) T σ K := R_iload_n (n := 1) (by decide +kernel) rfl
theorem s50_30 : Rn 50 30 L (vI a :: vR o :: st) T σ K ↔ (sx_kd T o = 2 ∧ st.length ≤ 4) ∧ Rn 52 0 [some (vR o), some (vI a), none] [] T σ (fun r T' σ' => Rn 50 33 L (sx_push r st) T' σ' K) := R_V (cm := 52) (n := 1) (idx := 153) (ci := 2) (mx := 3) (vs := [vI a]) (by decide +kernel) (by decide +kernel) rfl (by decide +kernel) rfl (by decide +kernel) (by decide +kernel)
theorem s50_33 : Rn 50 33 L [vI a] T σ K ↔ K (some (vI a)) T σ := R_ret (by decide +kernel) (by decide +kernel)
theorem s51_0 : Rn 51 0 [some (vR o), l1, l2, l3] st T σ K ↔ Rn 51 1 [some (vR o), l1, l2, l3] (vR o :: st) T σ K := R_aload_n (n := 0) (by decide +kernel) rfl
theorem s51_1 : Rn 51 1 L (vR o :: st) T σ K ↔ sx_kd T o = 6 ∧ Rn 51 4 L (vI (σ o 1) :: st) T σ K := R_getI (idx := 15) (ci := 6) (k := 1) (by decide +kernel) (by decide +kernel) (Or.inl rfl)
theorem s51_4 : Rn 51 4 L st T σ K ↔ Rn 51 5 L (vI 1 :: st) T σ K := R_iconst (n := 1) (by decide +kernel) (by decide)
theorem s51_5 : Rn 51 5 L (vI b :: vI a :: st) T σ K ↔ (a < b → Rn 51 17 L st T σ K) ∧ (b ≤ a → Rn 51 8 L st T σ K) := R_icmp_lt (off := 12) (by decide +kernel) (by decide)
theorem s51_8 : Rn 51 8 [some (vR o), l1, l2, l3] st T σ K ↔ Rn 51 9 [some (vR o), l1, l2, l3] (vR o :: st) T σ K := R_aload_n (n := 0) (by decide +kernel) rfl
theorem s51_9 : Rn 51 9 L (vR o :: st) T σ K ↔ sx_kd T o = 6 ∧ Rn 51 12 L (vI (σ o 1) :: st) T σ K := R_getI (idx := 15) (ci := 6) (k := 1) (by decide +kernel) (by decide +kernel) (Or.inl rfl)
theorem s51_12 : Rn 51 12 L st T σ K ↔ Rn 51 14 L (vI 6 :: st) T σ K := R_bipush (n := 6) (by decide +kernel) (by decide +kernel)
theorem s51_14 : Rn 51 14 L (vI b :: vI a :: st) T σ K ↔ (a ≤ b → Rn 51 19 L st T σ K) ∧ (b < a → Rn 51 17 L st T σ K) := R_icmp_le (off := 5) (by decide +kernel) (by decide)
theorem s51_17 : Rn 51 17 L st T σ K ↔ Rn 51 18 L (vI (-1) :: st) T σ K := R_iconst (n := -1) (by decide +kernel) (by decide)
theorem s51_18 : Rn 51 18 L [vI a] T σ K ↔ K (some (vI a)) T σ := R_ret (by decide +kernel) (by decide +kernel)
theorem s51_19 : Rn 51 19 L st T σ K ↔ Rn 51 20 L (vI 0 :: st) T σ K := R_iconst (n := 0) (by decide +kernel) (by decide)
theorem s51_20 : Rn 51 20 [l0, l1, l2, l3] (vI a :: st) T σ K ↔ Rn 51 21 [l0, some (vI a), l2, l3] st T σ K := R_istore_n (n := 1) (by decide +kernel) rfl
theorem s51_21 : Rn 51 21 L st T σ K ↔ Rn 51 22 L (vI 0 :: st) T σ K := R_iconst (n := 0) (by decide +kernel) (by decide)
theorem s51_22 : Rn 51 22 [l0, l1, l2, l3] (vI a :: st) T σ K ↔ Rn 51 23 [l0, l1, some (vI a), l3] st T σ K := R_istore_n (n := 2) (by decide +kernel) rfl
theorem s51_23 : Rn 51 23 [l0, l1, some (vI a), l3] st T σ K ↔ Rn 51 24 [l0, l1, some (vI a), l3] (vI a :: st) T σ K := R_iload_n (n := 2) (by decide +kernel) rfl
theorem s51_24 : Rn 51 24 [some (vR o), l1, l2, l3] st T σ K ↔ Rn 51 25 [some (vR o), l1, l2, l3] (vR o :: st) T σ K := R_aload_n (n := 0) (by decide +kernel) rfl
theorem s51_25 : Rn 51 25 L (vR o :: st) T σ K ↔ sx_kd T o = 6 ∧ Rn 51 28 L (vI (σ o 1) :: st) T σ K := R_getI (idx := 15) (ci := 6) (k := 1) (by decide +kernel) (by decide +kernel) (Or.inl rfl)
theorem s51_28 : Rn 51 28 L (vI b :: vI a :: st) T σ K ↔ (b ≤ a → Rn 51 65 L st T σ K) ∧ (a < b → Rn 51 31 L st T σ K) := R_icmp_ge (off := 37) (by decide +kernel) (by decide)
theorem s51_31 : Rn 51 31 [some (vR o), l1, l2, l3] st T σ K ↔ Rn 51 32 [some (vR o), l1, l2, l3] (vR o :: st) T σ K := R_aload_n (n := 0) (by decide +kernel) rfl
theorem s51_32 : Rn 51 32 [l0, l1, some (vI a), l3] st T σ K ↔ Rn 51 33 [l0, l1, some (vI a), l3] (vI a :: st) T σ K := R_iload_n (n := 2) (by decide +kernel) rfl
theorem s51_33 : Rn 51 33 L (vI a :: vR o :: st) T σ K ↔ (sx_kd T o = 6 ∧ st.length ≤ 4) ∧ Rn 20 0 [some (vR o), some (vI a)] [] T σ (fun r T' σ' => Rn 51 36 L (sx_push r st) T' σ' K) := R_V (cm := 20) (n := 1) (idx := 19) (ci := 6) (mx := 2) (vs := [vI a]) (by decide +kernel) (by decide +kernel) rfl (by decide +kernel) rfl (by decide +kernel) (by decide +kernel)
theorem s51_36 : Rn 51 36 [l0, l1, l2, l3] (vI a :: st) T σ K ↔ Rn 51 37 [l0, l1, l2, some (vI a)] st T σ K := R_istore_n (n := 3) (by decide +kernel) rfl
theorem s51_37 : Rn 51 37 [l0, l1, l2, some (vI a)] st T σ K ↔ Rn 51 38 [l0, l1, l2, some (vI a)] (vI a :: st) T σ K := R_iload_n (n := 3) (by decide +kernel) rfl
theorem s51_38 : Rn 51 38 L (vI a :: st) T σ K ↔ st.length ≤ 4 ∧ Rn 22 0 [some (vI a)] [] T σ (fun r T' σ' => Rn 51 41 L (sx_push r st) T' σ' K) := R_S (cm := 22) (n := 1) (idx := 23) (mx := 1) (vs := [vI a]) (by decide +kernel) (Or.inr (by decide +kernel)) rfl (by decide +kernel) rfl (by decide +kernel)
theorem s51_41 : Rn 51 41 L (vI a :: st) T σ K ↔ (a ≠ 0 → Rn 51 46 L st T σ K) ∧ (a = 0 → Rn 51 44 L st T σ K) := R_if_ne (off := 5) (by decide +kernel) (by decide)
theorem s51_44 : Rn 51 44 L st T σ K ↔ Rn 51 45 L (vI (-1) :: st) T σ K := R_iconst (n := -1) (by decide +kernel) (by decide)
theorem s51_45 : Rn 51 45 L [vI a] T σ K ↔ K (some (vI a)) T σ := R_ret (by decide +kernel) (by decide +kernel)
theorem s51_46 : Rn 51 46 [l0, some (vI a), l2, l3] st T σ K ↔ Rn 51 47 [l0, some (vI a), l2, l3] (vI a :: st) T σ K := R_iload_n (n := 1) (by decide +kernel) rfl
theorem s51_47 : Rn 51 47 [l0, l1, l2, some (vI a)] st T σ K ↔ Rn 51 48 [l0, l1, l2, some (vI a)] (vI a :: st) T σ K := R_iload_n (n := 3) (by decide +kernel) rfl
theorem s51_48 : Rn 51 48 L st T σ K ↔ Rn 51 50 L (vI 97 :: st) T σ K := R_bipush (n := 97) (by decide +kernel) (by decide +kernel)
theorem s51_50 : Rn 51 50 L (vI b :: vI a :: st) T σ K ↔ inI (a - b) ∧ Rn 51 51 L (vI (a - b) :: st) T σ K := R_isub (by decide +kernel)
theorem s51_51 : Rn 51 51 L st T σ K ↔ Rn 51 52 L (vI 1 :: st) T σ K := R_iconst (n := 1) (by decide +kernel) (by decide)
theorem s51_52 : Rn 51 52 L (vI b :: vI a :: st) T σ K ↔ inI (a + b) ∧ Rn 51 53 L (vI (a + b) :: st) T σ K := R_iadd (by decide +kernel)
theorem s51_53 : Rn 51 53 L st T σ K ↔ Rn 51 54 L (vI 5 :: st) T σ K := R_iconst (n := 5) (by decide +kernel) (by decide)
theorem s51_54 : Rn 51 54 [l0, l1, some (vI a), l3] st T σ K ↔ Rn 51 55 [l0, l1, some (vI a), l3] (vI a :: st) T σ K := R_iload_n (n := 2) (by decide +kernel) rfl
theorem s51_55 : Rn 51 55 L (vI b :: vI a :: st) T σ K ↔ inI (a * b) ∧ Rn 51 56 L (vI (a * b) :: st) T σ K := R_imul (by decide +kernel)
theorem s51_56 : Rn 51 56 L (vI b :: vI a :: st) T σ K ↔ (0 ≤ b ∧ b ≤ 31) ∧ inI (a * 2 ^ b.toNat) ∧ Rn 51 57 L (vI (a * 2 ^ b.toNat) :: st) T σ K := R_ishl (by decide +kernel)
theorem s51_57 : Rn 51 57 L (vI b :: vI a :: st) T σ K ↔ Rn 51 58 L (vI (sx_or a b) :: st) T σ K := R_ior (by decide +kernel)
theorem s51_58 : Rn 51 58 [l0, l1, l2, l3] (vI a :: st) T σ K ↔ Rn 51 59 [l0, some (vI a), l2, l3] st T σ K := R_istore_n (n := 1) (by decide +kernel) rfl
theorem s51_59 : Rn 51 59 [l0, l1, some (vI a), l3] st T σ K ↔ inI (a + 1) ∧ Rn 51 62 [l0, l1, some (vI (a + 1)), l3] st T σ K := R_iinc (n := 2) (d := 1) (by decide +kernel) rfl
theorem s51_62 : Rn 51 62 L st T σ K ↔ Rn 51 23 L st T σ K := R_goto (off := -39) (by decide +kernel) (by decide)
theorem s51_65 : Rn 51 65 [l0, some (vI a), l2, l3] st T σ K ↔ Rn 51 66 [l0, some (vI a), l2, l3] (vI a :: st) T σ K := R_iload_n (n := 1) (by decide +kernel) rfl
theorem s51_66 : Rn 51 66 L [vI a] T σ K ↔ K (some (vI a)) T σ := R_ret (by decide +kernel) (by decide +kernel)
theorem s52_0 : Rn 52 0 L st T σ K ↔ Rn 52 1 L (vI 0 :: st) T σ K := R_iconst (n := 0) (by decide +kernel) (by decide)
theorem s52_1 : Rn 52 1 [l0, l1, l2] (vI a :: st) T σ K ↔ Rn 52 2 [l0, l1, some (vI a)] st T σ K := R_istore_n (n := 2) (by decide +kernel) rfl
theorem s52_2 : Rn 52 2 [l0, l1, some (vI a)] st T σ K ↔ Rn 52 3 [l0, l1, some (vI a)] (vI a :: st) T σ K := R_iload_n (n := 2) (by decide +kernel) rfl
theorem s52_3 : Rn 52 3 L st T σ K ↔ Rn 52 5 L (vI 40 :: st) T σ K := R_bipush (n := 40) (by decide +kernel) (by decide +kernel)
theorem s52_5 : Rn 52 5 L (vI b :: vI a :: st) T σ K ↔ (b ≤ a → Rn 52 35 L st T σ K) ∧ (a < b → Rn 52 8 L st T σ K) := R_icmp_ge (off := 30) (by decide +kernel) (by decide)
theorem s52_8 : Rn 52 8 [some (vR o), l1, l2] st T σ K ↔ Rn 52 9 [some (vR o), l1, l2] (vR o :: st) T σ K := R_aload_n (n := 0) (by decide +kernel) rfl
theorem s52_9 : Rn 52 9 L (vR o :: st) T σ K ↔ sx_kd T o = 2 ∧ ∃ t, sx_rf T o 1 = some t ∧ Rn 52 12 L (vR t :: st) T σ K := R_getR (idx := 15) (ci := 2) (k := 1) (by decide +kernel) (by decide +kernel) rfl
theorem s52_12 : Rn 52 12 [l0, l1, some (vI a)] st T σ K ↔ Rn 52 13 [l0, l1, some (vI a)] (vI a :: st) T σ K := R_iload_n (n := 2) (by decide +kernel) rfl
theorem s52_13 : Rn 52 13 L (vI a :: vR o :: st) T σ K ↔ (sx_kd T o = 20 ∧ 0 ≤ a ∧ a < sx_ln T o) ∧ Rn 52 14 L (vI (σ o a) :: st) T σ K := R_iald (by decide +kernel) (by decide)
theorem s52_14 : Rn 52 14 L (vI a :: st) T σ K ↔ (a < 0 → Rn 52 29 L st T σ K) ∧ (0 ≤ a → Rn 52 17 L st T σ K) := R_if_lt (off := 15) (by decide +kernel) (by decide)
theorem s52_17 : Rn 52 17 [some (vR o), l1, l2] st T σ K ↔ Rn 52 18 [some (vR o), l1, l2] (vR o :: st) T σ K := R_aload_n (n := 0) (by decide +kernel) rfl
theorem s52_18 : Rn 52 18 L (vR o :: st) T σ K ↔ sx_kd T o = 2 ∧ ∃ t, sx_rf T o 3 = some t ∧ Rn 52 21 L (vR t :: st) T σ K := R_getR (idx := 21) (ci := 2) (k := 3) (by decide +kernel) (by decide +kernel) rfl
theorem s52_21 : Rn 52 21 [l0, l1, some (vI a)] st T σ K ↔ Rn 52 22 [l0, l1, some (vI a)] (vI a :: st) T σ K := R_iload_n (n := 2) (by decide +kernel) rfl
theorem s52_22 : Rn 52 22 L (vI a :: vR o :: st) T σ K ↔ (sx_kd T o = 20 ∧ 0 ≤ a ∧ a < sx_ln T o) ∧ Rn 52 23 L (vI (σ o a) :: st) T σ K := R_iald (by decide +kernel) (by decide)
theorem s52_23 : Rn 52 23 [l0, some (vI a), l2] st T σ K ↔ Rn 52 24 [l0, some (vI a), l2] (vI a :: st) T σ K := R_iload_n (n := 1) (by decide +kernel) rfl
theorem s52_24 : Rn 52 24 L (vI b :: vI a :: st) T σ K ↔ (a ≠ b → Rn 52 29 L st T σ K) ∧ (a = b → Rn 52 27 L st T σ K) := R_icmp_ne (off := 5) (by decide +kernel) (by decide)
theorem s52_27 : Rn 52 27 [l0, l1, some (vI a)] st T σ K ↔ Rn 52 28 [l0, l1, some (vI a)] (vI a :: st) T σ K := R_iload_n (n := 2) (by decide +kernel) rfl
theorem s52_28 : Rn 52 28 L [vI a] T σ K ↔ K (some (vI a)) T σ := R_ret (by decide +kernel) (by decide +kernel)
theorem s52_29 : Rn 52 29 [l0, l1, some (vI a)] st T σ K ↔ inI (a + 1) ∧ Rn 52 32 [l0, l1, some (vI (a + 1))] st T σ K := R_iinc (n := 2) (d := 1) (by decide +kernel) rfl
theorem s52_32 : Rn 52 32 L st T σ K ↔ Rn 52 2 L st T σ K := R_goto (off := -30) (by decide +kernel) (by decide)
theorem s52_35 : Rn 52 35 L st T σ K ↔ Rn 52 36 L (vI (-1) :: st) T σ K := R_iconst (n := -1) (by decide +kernel) (by decide)
theorem s52_36 : Rn 52 36 L [vI a] T σ K ↔ K (some (vI a)) T σ := R_ret (by decide +kernel) (by decide +kernel)
theorem s53_0 : Rn 53 0 [some (vR o), l1, l2] st T σ K ↔ Rn 53 1 [some (vR o), l1, l2] (vR o :: st) T σ K := R_aload_n (n := 0) (by decide +kernel) rfl
theorem s53_1 : Rn 53 1 L (vR o :: st) T σ K ↔ sx_kd T o = 8 ∧ ∃ t, sx_rf T o 2 = some t ∧ Rn 53 4 L (vR t :: st) T σ K := R_getR (idx := 28) (ci := 8) (k := 2) (by decide +kernel) (by decide +kernel) rfl
theorem s53_4 : Rn 53 4 [l0, some (vI a), l2] st T σ K ↔ Rn 53 5 [l0, some (vI a), l2] (vI a :: st) T σ K := R_iload_n (n := 1) (by decide +kernel) rfl
theorem s53_5 : Rn 53 5 L (vI a :: vR o :: st) T σ K ↔ (sx_kd T o = 2 ∧ st.length ≤ 4) ∧ Rn 49 0 [some (vR o), some (vI a)] [] T σ (fun r T' σ' => Rn 53 8 L (sx_push r st) T' σ' K) := R_V (cm := 49) (n := 1) (idx := 146) (ci := 2) (mx := 2) (vs := [vI a]) (by decide +kernel) (by decide +kernel) rfl (by decide +kernel) rfl (by decide +kernel) (by decide +kernel)
theorem s53_8 : Rn 53 8 L (vI a :: st) T σ K ↔ (a ≠ 0 → Rn 53 13 L st T σ K) ∧ (a = 0 → Rn 53 11 L st T σ K) := R_if_ne (off := 5) (by decide +kernel) (by decide)
theorem s53_11 : Rn 53 11 L st T σ K ↔ Rn 53 12 L (vI (-1) :: st) T σ K := R_iconst (n := -1) (by decide +kernel) (by decide)
theorem s53_12 : Rn 53 12 L [vI a] T σ K ↔ K (some (vI a)) T σ := R_ret (by decide +kernel) (by decide +kernel)
theorem s53_13 : Rn 53 13 [l0, l1, some (vI a)] st T σ K ↔ Rn 53 14 [l0, l1, some (vI a)] (vI a :: st) T σ K := R_iload_n (n := 2) (by decide +kernel) rfl
theorem s53_14 : Rn 53 14 L (vI a :: st) T σ K ↔ sx_sw [(0, 56), (1, 73), (2, 90), (3, 104), (4, 114), (5, 124), (6, 133)] 142 a (fun t => Rn 53 t L st T σ K) := R_table (d := 128) (lo := 0) (hi := 6) (offs := #[42, 59, 76, 90, 100, 110, 119]) (len := 42) (by decide +kernel) (by decide +kernel)
theorem s53_56 : Rn 53 56 [some (vR o), l1, l2] st T σ K ↔ Rn 53 57 [some (vR o), l1, l2] (vR o :: st) T σ K := R_aload_n (n := 0) (by decide +kernel) rfl
theorem s53_57 : Rn 53 57 L (vR o :: st) T σ K ↔ sx_kd T o = 8 ∧ ∃ t, sx_rf T o 2 = some t ∧ Rn 53 60 L (vR t :: st) T σ K := R_getR (idx := 28) (ci := 8) (k := 2) (by decide +kernel) (by decide +kernel) rfl
theorem s53_60 : Rn 53 60 L (vR o :: st) T σ K ↔ sx_kd T o = 2 ∧ ∃ t, sx_rf T o 0 = some t ∧ Rn 53 63 L (vR t :: st) T σ K := R_getR (idx := 156) (ci := 2) (k := 0) (by decide +kernel) (by decide +kernel) rfl
theorem s53_63 : Rn 53 63 [l0, some (vI a), l2] st T σ K ↔ Rn 53 64 [l0, some (vI a), l2] (vI a :: st) T σ K := R_iload_n (n := 1) (by decide +kernel) rfl
theorem s53_64 : Rn 53 64 L (vI a :: vR o :: st) T σ K ↔ (sx_kd T o = 20 ∧ 0 ≤ a ∧ a < sx_ln T o) ∧ Rn 53 65 L (vI (σ o a) :: st) T σ K := R_iald (by decide +kernel) (by decide)
theorem s53_65 : Rn 53 65 L st T σ K ↔ Rn 53 67 L (vI 16 :: st) T σ K := R_bipush (n := 16) (by decide +kernel) (by decide +kernel)
theorem s53_67 : Rn 53 67 L (vI b :: vI a :: st) T σ K ↔ (0 ≤ b ∧ b ≤ 31) ∧ inI (a / 2 ^ b.toNat) ∧ Rn 53 68 L (vI (a / 2 ^ b.toNat) :: st) T σ K := R_ishr (by decide +kernel)
theorem s53_68 : Rn 53 68 L st T σ K ↔ Rn 53 71 L (vI 255 :: st) T σ K := R_sipush (n := 255) (by decide +kernel) (by decide +kernel)
theorem s53_71 : Rn 53 71 L (vI b :: vI a :: st) T σ K ↔ Rn 53 72 L (vI (sx_and a b) :: st) T σ K := R_iand (by decide +kernel)
theorem s53_72 : Rn 53 72 L [vI a] T σ K ↔ K (some (vI a)) T σ := R_ret (by decide +kernel) (by decide +kernel)
theorem s53_73 : Rn 53 73 [some (vR o), l1, l2] st T σ K ↔ Rn 53 74 [some (vR o), l1, l2] (vR o :: st) T σ K := R_aload_n (n := 0) (by decide +kernel) rfl
theorem s53_74 : Rn 53 74 L (vR o :: st) T σ K ↔ sx_kd T o = 8 ∧ ∃ t, sx_rf T o 2 = some t ∧ Rn 53 77 L (vR t :: st) T σ K := R_getR (idx := 28) (ci := 8) (k := 2) (by decide +kernel) (by decide +kernel) rfl
theorem s53_77 : Rn 53 77 L (vR o :: st) T σ K ↔ sx_kd T o = 2 ∧ ∃ t, sx_rf T o 0 = some t ∧ Rn 53 80 L (vR t :: st) T σ K := R_getR (idx := 156) (ci := 2) (k := 0) (by decide +kernel) (by decide +kernel) rfl
theorem s53_80 : Rn 53 80 [l0, some (vI a), l2] st T σ K ↔ Rn 53 81 [l0, some (vI a), l2] (vI a :: st) T σ K := R_iload_n (n := 1) (by decide +kernel) rfl
theorem s53_81 : Rn 53 81 L (vI a :: vR o :: st) T σ K ↔ (sx_kd T o = 20 ∧ 0 ≤ a ∧ a < sx_ln T o) ∧ Rn 53 82 L (vI (σ o a) :: st) T σ K := R_iald (by decide +kernel) (by decide)
theorem s53_82 : Rn 53 82 L st T σ K ↔ Rn 53 84 L (vI 8 :: st) T σ K := R_bipush (n := 8) (by decide +kernel) (by decide +kernel)
theorem s53_84 : Rn 53 84 L (vI b :: vI a :: st) T σ K ↔ (0 ≤ b ∧ b ≤ 31) ∧ inI (a / 2 ^ b.toNat) ∧ Rn 53 85 L (vI (a / 2 ^ b.toNat) :: st) T σ K := R_ishr (by decide +kernel)
theorem s53_85 : Rn 53 85 L st T σ K ↔ Rn 53 88 L (vI 255 :: st) T σ K := R_sipush (n := 255) (by decide +kernel) (by decide +kernel)
theorem s53_88 : Rn 53 88 L (vI b :: vI a :: st) T σ K ↔ Rn 53 89 L (vI (sx_and a b) :: st) T σ K := R_iand (by decide +kernel)
theorem s53_89 : Rn 53 89 L [vI a] T σ K ↔ K (some (vI a)) T σ := R_ret (by decide +kernel) (by decide +kernel)
theorem s53_90 : Rn 53 90 [some (vR o), l1, l2] st T σ K ↔ Rn 53 91 [some (vR o), l1, l2] (vR o :: st) T σ K := R_aload_n (n := 0) (by decide +kernel) rfl
theorem s53_91 : Rn 53 91 L (vR o :: st) T σ K ↔ sx_kd T o = 8 ∧ ∃ t, sx_rf T o 2 = some t ∧ Rn 53 94 L (vR t :: st) T σ K := R_getR (idx := 28) (ci := 8) (k := 2) (by decide +kernel) (by decide +kernel) rfl
theorem s53_94 : Rn 53 94 L (vR o :: st) T σ K ↔ sx_kd T o = 2 ∧ ∃ t, sx_rf T o 0 = some t ∧ Rn 53 97 L (vR t :: st) T σ K := R_getR (idx := 156) (ci := 2) (k := 0) (by decide +kernel) (by decide +kernel) rfl
theorem s53_97 : Rn 53 97 [l0, some (vI a), l2] st T σ K ↔ Rn 53 98 [l0, some (vI a), l2] (vI a :: st) T σ K := R_iload_n (n := 1) (by decide +kernel) rfl
theorem s53_98 : Rn 53 98 L (vI a :: vR o :: st) T σ K ↔ (sx_kd T o = 20 ∧ 0 ≤ a ∧ a < sx_ln T o) ∧ Rn 53 99 L (vI (σ o a) :: st) T σ K := R_iald (by decide +kernel) (by decide)
theorem s53_99 : Rn 53 99 L st T σ K ↔ Rn 53 102 L (vI 255 :: st) T σ K := R_sipush (n := 255) (by decide +kernel) (by decide +kernel)
theorem s53_102 : Rn 53 102 L (vI b :: vI a :: st) T σ K ↔ Rn 53 103 L (vI (sx_and a b) :: st) T σ K := R_iand (by decide +kernel)
theorem s53_103 : Rn 53 103 L [vI a] T σ K ↔ K (some (vI a)) T σ := R_ret (by decide +kernel) (by decide +kernel)
theorem s53_104 : Rn 53 104 [some (vR o), l1, l2] st T σ K ↔ Rn 53 105 [some (vR o), l1, l2] (vR o :: st) T σ K := R_aload_n (n := 0) (by decide +kernel) rfl
theorem s53_105 : Rn 53 105 L (vR o :: st) T σ K ↔ sx_kd T o = 8 ∧ ∃ t, sx_rf T o 2 = some t ∧ Rn 53 108 L (vR t :: st) T σ K := R_getR (idx := 28) (ci := 8) (k := 2) (by decide +kernel) (by decide +kernel) rfl
theorem s53_108 : Rn 53 108 L (vR o :: st) T σ K ↔ sx_kd T o = 2 ∧ ∃ t, sx_rf T o 1 = some t ∧ Rn 53 111 L (vR t :: st) T σ K := R_getR (idx := 157) (ci := 2) (k := 1) (by decide +kernel) (by decide +kernel) rfl
theorem s53_111 : Rn 53 111 [l0, some (vI a), l2] st T σ K ↔ Rn 53 112 [l0, some (vI a), l2] (vI a :: st) T σ K := R_iload_n (n := 1) (by decide +kernel) rfl
theorem s53_112 : Rn 53 112 L (vI a :: vR o :: st) T σ K ↔ (sx_kd T o = 20 ∧ 0 ≤ a ∧ a < sx_ln T o) ∧ Rn 53 113 L (vI (σ o a) :: st) T σ K := R_iald (by decide +kernel) (by decide)
theorem s53_113 : Rn 53 113 L [vI a] T σ K ↔ K (some (vI a)) T σ := R_ret (by decide +kernel) (by decide +kernel)
theorem s53_114 : Rn 53 114 [some (vR o), l1, l2] st T σ K ↔ Rn 53 115 [some (vR o), l1, l2] (vR o :: st) T σ K := R_aload_n (n := 0) (by decide +kernel) rfl
theorem s53_115 : Rn 53 115 L (vR o :: st) T σ K ↔ sx_kd T o = 8 ∧ ∃ t, sx_rf T o 2 = some t ∧ Rn 53 118 L (vR t :: st) T σ K := R_getR (idx := 28) (ci := 8) (k := 2) (by decide +kernel) (by decide +kernel) rfl
theorem s53_118 : Rn 53 118 L (vR o :: st) T σ K ↔ sx_kd T o = 2 ∧ ∃ t, sx_rf T o 2 = some t ∧ Rn 53 121 L (vR t :: st) T σ K := R_getR (idx := 160) (ci := 2) (k := 2) (by decide +kernel) (by decide +kernel) rfl
theorem s53_121 : Rn 53 121 [l0, some (vI a), l2] st T σ K ↔ Rn 53 122 [l0, some (vI a), l2] (vI a :: st) T σ K := R_iload_n (n := 1) (by decide +kernel) rfl
theorem s53_122 : Rn 53 122 L (vI a :: vR o :: st) T σ K ↔ (sx_kd T o = 20 ∧ 0 ≤ a ∧ a < sx_ln T o) ∧ Rn 53 123 L (vI (σ o a) :: st) T σ K := R_iald (by decide +kernel) (by decide)
theorem s53_123 : Rn 53 123 L [vI a] T σ K ↔ K (some (vI a)) T σ := R_ret (by decide +kernel) (by decide +kernel)
theorem s53_124 : Rn 53 124 [some (vR o), l1, l2] st T σ K ↔ Rn 53 125 [some (vR o), l1, l2] (vR o :: st) T σ K := R_aload_n (n := 0) (by decide +kernel) rfl
theorem s53_125 : Rn 53 125 L (vR o :: st) T σ K ↔ sx_kd T o = 8 ∧ ∃ t, sx_rf T o 2 = some t ∧ Rn 53 128 L (vR t :: st) T σ K := R_getR (idx := 28) (ci := 8) (k := 2) (by decide +kernel) (by decide +kernel) rfl
theorem s53_128 : Rn 53 128 [l0, some (vI a), l2] st T σ K ↔ Rn 53 129 [l0, some (vI a), l2] (vI a :: st) T σ K := R_iload_n (n := 1) (by decide +kernel) rfl
theorem s53_129 : Rn 53 129 L (vI a :: vR o :: st) T σ K ↔ (sx_kd T o = 2 ∧ st.length ≤ 4) ∧ Rn 54 0 [some (vR o), some (vI a), none, none] [] T σ (fun r T' σ' => Rn 53 132 L (sx_push r st) T' σ' K) := R_V (cm := 54) (n := 1) (idx := 163) (ci := 2) (mx := 4) (vs := [vI a]) (by decide +kernel) (by decide +kernel) rfl (by decide +kernel) rfl (by decide +kernel) (by decide +kernel)
theorem s53_132 : Rn 53 132 L [vI a] T σ K ↔ K (some (vI a)) T σ := R_ret (by decide +kernel) (by decide +kernel)
theorem s53_133 : Rn 53 133 [some (vR o), l1, l2] st T σ K ↔ Rn 53 134 [some (vR o), l1, l2] (vR o :: st) T σ K := R_aload_n (n := 0) (by decide +kernel) rfl
theorem s53_134 : Rn 53 134 L (vR o :: st) T σ K ↔ sx_kd T o = 8 ∧ ∃ t, sx_rf T o 2 = some t ∧ Rn 53 137 L (vR t :: st) T σ K := R_getR (idx := 28) (ci := 8) (k := 2) (by decide +kernel) (by decide +kernel) rfl
theorem s53_137 : Rn 53 137 [l0, some (vI a), l2] st T σ K ↔ Rn 53 138 [l0, some (vI a), l2] (vI a :: st) T σ K := R_iload_n (n := 1) (by decide +kernel) rfl
theorem s53_138 : Rn 53 138 L (vI a :: vR o :: st) T σ K ↔ (sx_kd T o = 2 ∧ st.length ≤ 4) ∧ Rn 55 0 [some (vR o), some (vI a), none, none] [] T σ (fun r T' σ' => Rn 53 141 L (sx_push r st) T' σ' K) := R_V (cm := 55) (n := 1) (idx := 166) (ci := 2) (mx := 4) (vs := [vI a]) (by decide +kernel) (by decide +kernel) rfl (by decide +kernel) rfl (by decide +kernel) (by decide +kernel)
theorem s53_141 : Rn 53 141 L [vI a] T σ K ↔ K (some (vI a)) T σ := R_ret (by decide +kernel) (by decide +kernel)
theorem s53_142 : Rn 53 142 L st T σ K ↔ Rn 53 143 L (vI (-1) :: st) T σ K := R_iconst (n := -1) (by decide +kernel) (by decide)
theorem s53_143 : Rn 53 143 L [vI a] T σ K ↔ K (some (vI a)) T σ := R_ret (by decide +kernel) (by decide +kernel)
theorem s54_0 : Rn 54 0 L st T σ K ↔ Rn 54 1 L (vI 0 :: st) T σ K := R_iconst (n := 0) (by decide +kernel) (by decide)
theorem s54_1 : Rn 54 1 [l0, l1, l2, l3] (vI a :: st) T σ K ↔ Rn 54 2 [l0, l1, some (vI a), l3] st T σ K := R_istore_n (n := 2) (by decide +kernel) rfl
theorem s54_2 : Rn 54 2 L st T σ K ↔ Rn 54 3 L (vI 0 :: st) T σ K := R_iconst (n := 0) (by decide +kernel) (by decide)
theorem s54_3 : Rn 54 3 [l0, l1, l2, l3] (vI a :: st) T σ K ↔ Rn 54 4 [l0, l1, l2, some (vI a)] st T σ K := R_istore_n (n := 3) (by decide +kernel) rfl
theorem s54_4 : Rn 54 4 [l0, l1, l2, some (vI a)] st T σ K ↔ Rn 54 5 [l0, l1, l2, some (vI a)] (vI a :: st) T σ K := R_iload_n (n := 3) (by decide +kernel) rfl
theorem s54_5 : Rn 54 5 L st T σ K ↔ Rn 54 7 L (vI 40 :: st) T σ K := R_bipush (n := 40) (by decide +kernel) (by decide +kernel)
theorem s54_7 : Rn 54 7 L (vI b :: vI a :: st) T σ K ↔ (b ≤ a → Rn 54 38 L st T σ K) ∧ (a < b → Rn 54 10 L st T σ K) := R_icmp_ge (off := 31) (by decide +kernel) (by decide)
theorem s54_10 : Rn 54 10 [some (vR o), l1, l2, l3] st T σ K ↔ Rn 54 11 [some (vR o), l1, l2, l3] (vR o :: st) T σ K := R_aload_n (n := 0) (by decide +kernel) rfl
theorem s54_11 : Rn 54 11 L (vR o :: st) T σ K ↔ sx_kd T o = 2 ∧ ∃ t, sx_rf T o 1 = some t ∧ Rn 54 14 L (vR t :: st) T σ K := R_getR (idx := 15) (ci := 2) (k := 1) (by decide +kernel) (by decide +kernel) rfl
theorem s54_14 : Rn 54 14 [l0, l1, l2, some (vI a)] st T σ K ↔ Rn 54 15 [l0, l1, l2, some (vI a)] (vI a :: st) T σ K := R_iload_n (n := 3) (by decide +kernel) rfl
theorem s54_15 : Rn 54 15 L (vI a :: vR o :: st) T σ K ↔ (sx_kd T o = 20 ∧ 0 ≤ a ∧ a < sx_ln T o) ∧ Rn 54 16 L (vI (σ o a) :: st) T σ K := R_iald (by decide +kernel) (by decide)
theorem s54_16 : Rn 54 16 L (vI a :: st) T σ K ↔ (a < 0 → Rn 54 32 L st T σ K) ∧ (0 ≤ a → Rn 54 19 L st T σ K) := R_if_lt (off := 16) (by decide +kernel) (by decide)
theorem s54_19 : Rn 54 19 [some (vR o), l1, l2, l3] st T σ K ↔ Rn 54 20 [some (vR o), l1, l2, l3] (vR o :: st) T σ K := R_aload_n (n := 0) (by decide +kernel) rfl
theorem s54_20 : Rn 54 20 L (vR o :: st) T σ K ↔ sx_kd T o = 2 ∧ ∃ t, sx_rf T o 2 = some t ∧ Rn 54 23 L (vR t :: st) T σ K := R_getR (idx := 18) (ci := 2) (k := 2) (by decide +kernel) (by decide +kernel) rfl
theorem s54_23 : Rn 54 23 [l0, l1, l2, some (vI a)] st T σ K ↔ Rn 54 24 [l0, l1, l2, some (vI a)] (vI a :: st) T σ K := R_iload_n (n := 3) (by decide +kernel) rfl
theorem s54_24 : Rn 54 24 L (vI a :: vR o :: st) T σ K ↔ (sx_kd T o = 20 ∧ 0 ≤ a ∧ a < sx_ln T o) ∧ Rn 54 25 L (vI (σ o a) :: st) T σ K := R_iald (by decide +kernel) (by decide)
theorem s54_25 : Rn 54 25 [l0, some (vI a), l2, l3] st T σ K ↔ Rn 54 26 [l0, some (vI a), l2, l3] (vI a :: st) T σ K := R_iload_n (n := 1) (by decide +kernel) rfl
theorem s54_26 : Rn 54 26 L (vI b :: vI a :: st) T σ K ↔ (a ≠ b → Rn 54 32 L st T σ K) ∧ (a = b → Rn 54 29 L st T σ K) := R_icmp_ne (off := 6) (by decide +kernel) (by decide)
theorem s54_29 : Rn 54 29 [l0, l1, some (vI a), l3] st T σ K ↔ inI (a + 1) ∧ Rn 54 32 [l0, l1, some (vI (a + 1)), l3] st T σ K := R_iinc (n := 2) (d := 1) (by decide +kernel) rfl
theorem s54_32 : Rn 54 32 [l0, l1, l2, some (vI a)] st T σ K ↔ inI (a + 1) ∧ Rn 54 35 [l0, l1, l2, some (vI (a + 1))] st T σ K := R_iinc (n := 3) (d := 1) (by decide +kernel) rfl
theorem s54_35 : Rn 54 35 L st T σ K ↔ Rn 54 4 L st T σ K := R_goto (off := -31) (by decide +kernel) (by decide)
theorem s54_38 : Rn 54 38 [l0, l1, some (vI a), l3] st T σ K ↔ Rn 54 39 [l0, l1, some (vI a), l3] (vI a :: st) T σ K := R_iload_n (n := 2) (by decide +kernel) rfl
theorem s54_39 : Rn 54 39 L [vI a] T σ K ↔ K (some (vI a)) T σ := R_ret (by decide +kernel) (by decide +kernel)
theorem s55_0 : Rn 55 0 L st T σ K ↔ Rn 55 1 L (vI 0 :: st) T σ K := R_iconst (n := 0) (by decide +kernel) (by decide)
theorem s55_1 : Rn 55 1 [l0, l1, l2, l3] (vI a :: st) T σ K ↔ Rn 55 2 [l0, l1, some (vI a), l3] st T σ K := R_istore_n (n := 2) (by decide +kernel) rfl
theorem s55_2 : Rn 55 2 L st T σ K ↔ Rn 55 3 L (vI 0 :: st) T σ K := R_iconst (n := 0) (by decide +kernel) (by decide)
theorem s55_3 : Rn 55 3 [l0, l1, l2, l3] (vI a :: st) T σ K ↔ Rn 55 4 [l0, l1, l2, some (vI a)] st T σ K := R_istore_n (n := 3) (by decide +kernel) rfl
theorem s55_4 : Rn 55 4 [l0, l1, l2, some (vI a)] st T σ K ↔ Rn 55 5 [l0, l1, l2, some (vI a)] (vI a :: st) T σ K := R_iload_n (n := 3) (by decide +kernel) rfl
theorem s55_5 : Rn 55 5 L st T σ K ↔ Rn 55 7 L (vI 40 :: st) T σ K := R_bipush (n := 40) (by decide +kernel) (by decide +kernel)
theorem s55_7 : Rn 55 7 L (vI b :: vI a :: st) T σ K ↔ (b ≤ a → Rn 55 29 L st T σ K) ∧ (a < b → Rn 55 10 L st T σ K) := R_icmp_ge (off := 22) (by decide +kernel) (by decide)
theorem s55_10 : Rn 55 10 [some (vR o), l1, l2, l3] st T σ K ↔ Rn 55 11 [some (vR o), l1, l2, l3] (vR o :: st) T σ K := R_aload_n (n := 0) (by decide +kernel) rfl
theorem s55_11 : Rn 55 11 [l0, l1, l2, some (vI a)] st T σ K ↔ Rn 55 12 [l0, l1, l2, some (vI a)] (vI a :: st) T σ K := R_iload_n (n := 3) (by decide +kernel) rfl
theorem s55_12 : Rn 55 12 [l0, some (vI a), l2, l3] st T σ K ↔ Rn 55 13 [l0, some (vI a), l2, l3] (vI a :: st) T σ K := R_iload_n (n := 1) (by decide +kernel) rfl
theorem s55_13 : Rn 55 13 L (vI b :: vI a :: vR o :: st) T σ K ↔ (sx_kd T o = 2 ∧ st.length ≤ 4) ∧ Rn 56 0 [some (vR o), some (vI a), some (vI b), none, none] [] T σ (fun r T' σ' => Rn 55 16 L (sx_push r st) T' σ' K) := R_V (cm := 56) (n := 2) (idx := 89) (ci := 2) (mx := 5) (vs := [vI a, vI b]) (by decide +kernel) (by decide +kernel) rfl (by decide +kernel) rfl (by decide +kernel) (by decide +kernel)
theorem s55_16 : Rn 55 16 L st T σ K ↔ Rn 55 17 L (vI (-1) :: st) T σ K := R_iconst (n := -1) (by decide +kernel) (by decide)
theorem s55_17 : Rn 55 17 L (vI b :: vI a :: st) T σ K ↔ (a = b → Rn 55 23 L st T σ K) ∧ (a ≠ b → Rn 55 20 L st T σ K) := R_icmp_eq (off := 6) (by decide +kernel) (by decide)
theorem s55_20 : Rn 55 20 [l0, l1, some (vI a), l3] st T σ K ↔ inI (a + 1) ∧ Rn 55 23 [l0, l1, some (vI (a + 1)), l3] st T σ K := R_iinc (n := 2) (d := 1) (by decide +kernel) rfl
theorem s55_23 : Rn 55 23 [l0, l1, l2, some (vI a)] st T σ K ↔ inI (a + 1) ∧ Rn 55 26 [l0, l1, l2, some (vI (a + 1))] st T σ K := R_iinc (n := 3) (d := 1) (by decide +kernel) rfl
theorem s55_26 : Rn 55 26 L st T σ K ↔ Rn 55 4 L st T σ K := R_goto (off := -22) (by decide +kernel) (by decide)
theorem s55_29 : Rn 55 29 [l0, l1, some (vI a), l3] st T σ K ↔ Rn 55 30 [l0, l1, some (vI a), l3] (vI a :: st) T σ K := R_iload_n (n := 2) (by decide +kernel) rfl
theorem s55_30 : Rn 55 30 L [vI a] T σ K ↔ K (some (vI a)) T σ := R_ret (by decide +kernel) (by decide +kernel)
theorem s56_0 : Rn 56 0 [l0, some (vI a), l2, l3, l4] st T σ K ↔ Rn 56 1 [l0, some (vI a), l2, l3, l4] (vI a :: st) T σ K := R_iload_n (n := 1) (by decide +kernel) rfl
theorem s56_1 : Rn 56 1 [l0, l1, l2, l3, l4] (vI a :: st) T σ K ↔ Rn 56 2 [l0, l1, l2, some (vI a), l4] st T σ K := R_istore_n (n := 3) (by decide +kernel) rfl
theorem s56_2 : Rn 56 2 L st T σ K ↔ Rn 56 3 L (vI 0 :: st) T σ K := R_iconst (n := 0) (by decide +kernel) (by decide)
theorem s56_3 : Rn 56 3 [l0, l1, l2, l3, l4] (vI a :: st) T σ K ↔ Rn 56 5 [l0, l1, l2, l3, some (vI a)] st T σ K := R_istore (n := 4) (by decide +kernel) rfl
theorem s56_5 : Rn 56 5 [l0, l1, l2, l3, some (vI a)] st T σ K ↔ Rn 56 7 [l0, l1, l2, l3, some (vI a)] (vI a :: st) T σ K := R_iload (n := 4) (by decide +kernel) rfl
theorem s56_7 : Rn 56 7 L st T σ K ↔ Rn 56 9 L (vI 10 :: st) T σ K := R_bipush (n := 10) (by decide +kernel) (by decide +kernel)
theorem s56_9 : Rn 56 9 L (vI b :: vI a :: st) T σ K ↔ (b < a → Rn 56 45 L st T σ K) ∧ (a ≤ b → Rn 56 12 L st T σ K) := R_icmp_gt (off := 36) (by decide +kernel) (by decide)
theorem s56_12 : Rn 56 12 [some (vR o), l1, l2, l3, l4] st T σ K ↔ Rn 56 13 [some (vR o), l1, l2, l3, l4] (vR o :: st) T σ K := R_aload_n (n := 0) (by decide +kernel) rfl
theorem s56_13 : Rn 56 13 [l0, l1, l2, some (vI a), l4] st T σ K ↔ Rn 56 14 [l0, l1, l2, some (vI a), l4] (vI a :: st) T σ K := R_iload_n (n := 3) (by decide +kernel) rfl
theorem s56_14 : Rn 56 14 L (vI a :: vR o :: st) T σ K ↔ (sx_kd T o = 2 ∧ st.length ≤ 4) ∧ Rn 49 0 [some (vR o), some (vI a)] [] T σ (fun r T' σ' => Rn 56 17 L (sx_push r st) T' σ' K) := R_V (cm := 49) (n := 1) (idx := 78) (ci := 2) (mx := 2) (vs := [vI a]) (by decide +kernel) (by decide +kernel) rfl (by decide +kernel) rfl (by decide +kernel) (by decide +kernel)
theorem s56_17 : Rn 56 17 L (vI a :: st) T σ K ↔ (a = 0 → Rn 56 45 L st T σ K) ∧ (a ≠ 0 → Rn 56 20 L st T σ K) := R_if_eq (off := 28) (by decide +kernel) (by decide)
theorem s56_20 : Rn 56 20 [some (vR o), l1, l2, l3, l4] st T σ K ↔ Rn 56 21 [some (vR o), l1, l2, l3, l4] (vR o :: st) T σ K := R_aload_n (n := 0) (by decide +kernel) rfl
theorem s56_21 : Rn 56 21 L (vR o :: st) T σ K ↔ sx_kd T o = 2 ∧ ∃ t, sx_rf T o 2 = some t ∧ Rn 56 24 L (vR t :: st) T σ K := R_getR (idx := 18) (ci := 2) (k := 2) (by decide +kernel) (by decide +kernel) rfl
theorem s56_24 : Rn 56 24 [l0, l1, l2, some (vI a), l4] st T σ K ↔ Rn 56 25 [l0, l1, l2, some (vI a), l4] (vI a :: st) T σ K := R_iload_n (n := 3) (by decide +kernel) rfl
theorem s56_25 : Rn 56 25 L (vI a :: vR o :: st) T σ K ↔ (sx_kd T o = 20 ∧ 0 ≤ a ∧ a < sx_ln T o) ∧ Rn 56 26 L (vI (σ o a) :: st) T σ K := R_iald (by decide +kernel) (by decide)
theorem s56_26 : Rn 56 26 [l0, l1, some (vI a), l3, l4] st T σ K ↔ Rn 56 27 [l0, l1, some (vI a), l3, l4] (vI a :: st) T σ K := R_iload_n (n := 2) (by decide +kernel) rfl
theorem s56_27 : Rn 56 27 L (vI b :: vI a :: st) T σ K ↔ (a ≠ b → Rn 56 32 L st T σ K) ∧ (a = b → Rn 56 30 L st T σ K) := R_icmp_ne (off := 5) (by decide +kernel) (by decide)
theorem s56_30 : Rn 56 30 [l0, l1, l2, some (vI a), l4] st T σ K ↔ Rn 56 31 [l0, l1, l2, some (vI a), l4] (vI a :: st) T σ K := R_iload_n (n := 3) (by decide +kernel) rfl
theorem s56_31 : Rn 56 31 L [vI a] T σ K ↔ K (some (vI a)) T σ := R_ret (by decide +kernel) (by decide +kernel)
theorem s56_32 : Rn 56 32 [some (vR o), l1, l2, l3, l4] st T σ K ↔ Rn 56 33 [some (vR o), l1, l2, l3, l4] (vR o :: st) T σ K := R_aload_n (n := 0) (by decide +kernel) rfl
theorem s56_33 : Rn 56 33 L (vR o :: st) T σ K ↔ sx_kd T o = 2 ∧ ∃ t, sx_rf T o 2 = some t ∧ Rn 56 36 L (vR t :: st) T σ K := R_getR (idx := 18) (ci := 2) (k := 2) (by decide +kernel) (by decide +kernel) rfl
theorem s56_36 : Rn 56 36 [l0, l1, l2, some (vI a), l4] st T σ K ↔ Rn 56 37 [l0, l1, l2, some (vI a), l4] (vI a :: st) T σ K := R_iload_n (n := 3) (by decide +kernel) rfl
theorem s56_37 : Rn 56 37 L (vI a :: vR o :: st) T σ K ↔ (sx_kd T o = 20 ∧ 0 ≤ a ∧ a < sx_ln T o) ∧ Rn 56 38 L (vI (σ o a) :: st) T σ K := R_iald (by decide +kernel) (by decide)
theorem s56_38 : Rn 56 38 [l0, l1, l2, l3, l4] (vI a :: st) T σ K ↔ Rn 56 39 [l0, l1, l2, some (vI a), l4] st T σ K := R_istore_n (n := 3) (by decide +kernel) rfl
theorem s56_39 : Rn 56 39 [l0, l1, l2, l3, some (vI a)] st T σ K ↔ inI (a + 1) ∧ Rn 56 42 [l0, l1, l2, l3, some (vI (a + 1))] st T σ K := R_iinc (n := 4) (d := 1) (by decide +kernel) rfl
theorem s56_42 : Rn 56 42 L st T σ K ↔ Rn 56 5 L st T σ K := R_goto (off := -37) (by decide +kernel) (by decide)
theorem s56_45 : Rn 56 45 L st T σ K ↔ Rn 56 46 L (vI (-1) :: st) T σ K := R_iconst (n := -1) (by decide +kernel) (by decide)
theorem s56_46 : Rn 56 46 L [vI a] T σ K ↔ K (some (vI a)) T σ := R_ret (by decide +kernel) (by decide +kernel)
theorem s57_0 : Rn 57 0 [l0, some (vI a), l2, l3, l4] st T σ K ↔ Rn 57 1 [l0, some (vI a), l2, l3, l4] (vI a :: st) T σ K := R_iload_n (n := 1) (by decide +kernel) rfl
theorem s57_1 : Rn 57 1 [l0, l1, some (vI a), l3, l4] st T σ K ↔ Rn 57 2 [l0, l1, some (vI a), l3, l4] (vI a :: st) T σ K := R_iload_n (n := 2) (by decide +kernel) rfl
theorem s57_2 : Rn 57 2 [l0, l1, l2, some (vI a), l4] st T σ K ↔ Rn 57 3 [l0, l1, l2, some (vI a), l4] (vI a :: st) T σ K := R_iload_n (n := 3) (by decide +kernel) rfl
theorem s57_3 : Rn 57 3 L (vI c :: vI b :: vI a :: st) T σ K ↔ st.length ≤ 4 ∧ Rn 33 0 [some (vI a), some (vI b), some (vI c)] [] T σ (fun r T' σ' => Rn 57 6 L (sx_push r st) T' σ' K) := R_S (cm := 33) (n := 3) (idx := 169) (mx := 3) (vs := [vI a, vI b, vI c]) (by decide +kernel) (Or.inl (by decide +kernel)) rfl (by decide +kernel) rfl (by decide +kernel)
theorem s57_6 : Rn 57 6 [l0, l1, l2, l3, l4] (vI a :: st) T σ K ↔ Rn 57 8 [l0, l1, l2, l3, some (vI a)] st T σ K := R_istore (n := 4) (by decide +kernel) rfl
theorem s57_8 : Rn 57 8 [l0, l1, l2, l3, some (vI a)] st T σ K ↔ Rn 57 10 [l0, l1, l2, l3, some (vI a)] (vI a :: st) T σ K := R_iload (n := 4) (by decide +kernel) rfl
theorem s57_10 : Rn 57 10 L st T σ K ↔ Rn 57 11 L (vI (-1) :: st) T σ K := R_iconst (n := -1) (by decide +kernel) (by decide)
theorem s57_11 : Rn 57 11 L (vI b :: vI a :: st) T σ K ↔ (a ≠ b → Rn 57 18 L st T σ K) ∧ (a = b → Rn 57 14 L st T σ K) := R_icmp_ne (off := 7) (by decide +kernel) (by decide)
theorem s57_14 : Rn 57 14 L st T σ K ↔ Rn 57 15 L (vI (-1) :: st) T σ K := R_iconst (n := -1) (by decide +kernel) (by decide)
theorem s57_15 : Rn 57 15 L st T σ K ↔ Rn 57 27 L st T σ K := R_goto (off := 12) (by decide +kernel) (by decide)
theorem s57_18 : Rn 57 18 [some (vR o), l1, l2, l3, l4] st T σ K ↔ Rn 57 19 [some (vR o), l1, l2, l3, l4] (vR o :: st) T σ K := R_aload_n (n := 0) (by decide +kernel) rfl
theorem s57_19 : Rn 57 19 L (vR o :: st) T σ K ↔ sx_kd T o = 8 ∧ ∃ t, sx_rf T o 2 = some t ∧ Rn 57 22 L (vR t :: st) T σ K := R_getR (idx := 28) (ci := 8) (k := 2) (by decide +kernel) (by decide +kernel) rfl
theorem s57_22 : Rn 57 22 [l0, l1, l2, l3, some (vI a)] st T σ K ↔ Rn 57 24 [l0, l1, l2, l3, some (vI a)] (vI a :: st) T σ K := R_iload (n := 4) (by decide +kernel) rfl
theorem s57_24 : Rn 57 24 L (vI a :: vR o :: st) T σ K ↔ (sx_kd T o = 2 ∧ st.length ≤ 4) ∧ Rn 58 0 [some (vR o), some (vI a), none] [] T σ (fun r T' σ' => Rn 57 27 L (sx_push r st) T' σ' K) := R_V (cm := 58) (n := 1) (idx := 173) (ci := 2) (mx := 3) (vs := [vI a]) (by decide +kernel) (by decide +kernel) rfl (by decide +kernel) rfl (by decide +kernel) (by decide +kernel)
theorem s57_27 : Rn 57 27 L [vI a] T σ K ↔ K (some (vI a)) T σ := R_ret (by decide +kernel) (by decide +kernel)
theorem s58_0 : Rn 58 0 L st T σ K ↔ Rn 58 1 L (vI 0 :: st) T σ K := R_iconst (n := 0) (by decide +kernel) (by decide)
theorem s58_1 : Rn 58 1 [l0, l1, l2] (vI a :: st) T σ K ↔ Rn 58 2 [l0, l1, some (vI a)] st T σ K := R_istore_n (n := 2) (by decide +kernel) rfl
theorem s58_2 : Rn 58 2 [l0, l1, some (vI a)] st T σ K ↔ Rn 58 3 [l0, l1, some (vI a)] (vI a :: st) T σ K := R_iload_n (n := 2) (by decide +kernel) rfl
theorem s58_3 : Rn 58 3 L st T σ K ↔ Rn 58 5 L (vI 40 :: st) T σ K := R_bipush (n := 40) (by decide +kernel) (by decide +kernel)
theorem s58_5 : Rn 58 5 L (vI b :: vI a :: st) T σ K ↔ (b ≤ a → Rn 58 35 L st T σ K) ∧ (a < b → Rn 58 8 L st T σ K) := R_icmp_ge (off := 30) (by decide +kernel) (by decide)
theorem s58_8 : Rn 58 8 [some (vR o), l1, l2] st T σ K ↔ Rn 58 9 [some (vR o), l1, l2] (vR o :: st) T σ K := R_aload_n (n := 0) (by decide +kernel) rfl
theorem s58_9 : Rn 58 9 L (vR o :: st) T σ K ↔ sx_kd T o = 2 ∧ ∃ t, sx_rf T o 1 = some t ∧ Rn 58 12 L (vR t :: st) T σ K := R_getR (idx := 15) (ci := 2) (k := 1) (by decide +kernel) (by decide +kernel) rfl
theorem s58_12 : Rn 58 12 [l0, l1, some (vI a)] st T σ K ↔ Rn 58 13 [l0, l1, some (vI a)] (vI a :: st) T σ K := R_iload_n (n := 2) (by decide +kernel) rfl
theorem s58_13 : Rn 58 13 L (vI a :: vR o :: st) T σ K ↔ (sx_kd T o = 20 ∧ 0 ≤ a ∧ a < sx_ln T o) ∧ Rn 58 14 L (vI (σ o a) :: st) T σ K := R_iald (by decide +kernel) (by decide)
theorem s58_14 : Rn 58 14 L (vI a :: st) T σ K ↔ (a < 0 → Rn 58 29 L st T σ K) ∧ (0 ≤ a → Rn 58 17 L st T σ K) := R_if_lt (off := 15) (by decide +kernel) (by decide)
theorem s58_17 : Rn 58 17 [some (vR o), l1, l2] st T σ K ↔ Rn 58 18 [some (vR o), l1, l2] (vR o :: st) T σ K := R_aload_n (n := 0) (by decide +kernel) rfl
theorem s58_18 : Rn 58 18 L (vR o :: st) T σ K ↔ sx_kd T o = 2 ∧ ∃ t, sx_rf T o 0 = some t ∧ Rn 58 21 L (vR t :: st) T σ K := R_getR (idx := 9) (ci := 2) (k := 0) (by decide +kernel) (by decide +kernel) rfl
theorem s58_21 : Rn 58 21 [l0, l1, some (vI a)] st T σ K ↔ Rn 58 22 [l0, l1, some (vI a)] (vI a :: st) T σ K := R_iload_n (n := 2) (by decide +kernel) rfl
theorem s58_22 : Rn 58 22 L (vI a :: vR o :: st) T σ K ↔ (sx_kd T o = 20 ∧ 0 ≤ a ∧ a < sx_ln T o) ∧ Rn 58 23 L (vI (σ o a) :: st) T σ K := R_iald (by decide +kernel) (by decide)
theorem s58_23 : Rn 58 23 [l0, some (vI a), l2] st T σ K ↔ Rn 58 24 [l0, some (vI a), l2] (vI a :: st) T σ K := R_iload_n (n := 1) (by decide +kernel) rfl
theorem s58_24 : Rn 58 24 L (vI b :: vI a :: st) T σ K ↔ (a ≠ b → Rn 58 29 L st T σ K) ∧ (a = b → Rn 58 27 L st T σ K) := R_icmp_ne (off := 5) (by decide +kernel) (by decide)
theorem s58_27 : Rn 58 27 [l0, l1, some (vI a)] st T σ K ↔ Rn 58 28 [l0, l1, some (vI a)] (vI a :: st) T σ K := R_iload_n (n := 2) (by decide +kernel) rfl
theorem s58_28 : Rn 58 28 L [vI a] T σ K ↔ K (some (vI a)) T σ := R_ret (by decide +kernel) (by decide +kernel)
theorem s58_29 : Rn 58 29 [l0, l1, some (vI a)] st T σ K ↔ inI (a + 1) ∧ Rn 58 32 [l0, l1, some (vI (a + 1))] st T σ K := R_iinc (n := 2) (d := 1) (by decide +kernel) rfl
theorem s58_32 : Rn 58 32 L st T σ K ↔ Rn 58 2 L st T σ K := R_goto (off := -30) (by decide +kernel) (by decide)
theorem s58_35 : Rn 58 35 L st T σ K ↔ Rn 58 36 L (vI (-1) :: st) T σ K := R_iconst (n := -1) (by decide +kernel) (by decide)
theorem s58_36 : Rn 58 36 L [vI a] T σ K ↔ K (some (vI a)) T σ := R_ret (by decide +kernel) (by decide +kernel)
theorem s59_0 : Rn 59 0 [some (vR o), l1, l2] st T σ K ↔ Rn 59 1 [some (vR o), l1, l2] (vR o :: st) T σ K := R_aload_n (n := 0) (by decide +kernel) rfl
theorem s59_1 : Rn 59 1 L (vR o :: st) T σ K ↔ sx_kd T o = 8 ∧ ∃ t, sx_rf T o 2 = some t ∧ Rn 59 4 L (vR t :: st) T σ K := R_getR (idx := 28) (ci := 8) (k := 2) (by decide +kernel) (by decide +kernel) rfl
theorem s59_4 : Rn 59 4 [l0, some (vI a), l2] st T σ K ↔ Rn 59 5 [l0, some (vI a), l2] (vI a :: st) T σ K := R_iload_n (n := 1) (by decide +kernel) rfl
theorem s59_5 : Rn 59 5 L (vI a :: vR o :: st) T σ K ↔ (sx_kd T o = 2 ∧ st.length ≤ 4) ∧ Rn 49 0 [some (vR o), some (vI a)] [] T σ (fun r T' σ' => Rn 59 8 L (sx_push r st) T' σ' K) := R_V (cm := 49) (n := 1) (idx := 146) (ci := 2) (mx := 2) (vs := [vI a]) (by decide +kernel) (by decide +kernel) rfl (by decide +kernel) rfl (by decide +kernel) (by decide +kernel)
theorem s59_8 : Rn 59 8 L (vI a :: st) T σ K ↔ (a = 0 → Rn 59 27 L st T σ K) ∧ (a ≠ 0 → Rn 59 11 L st T σ K) := R_if_eq (off := 19) (by decide +kernel) (by decide)
theorem s59_11 : Rn 59 11 [l0, l1, some (vI a)] st T σ K ↔ Rn 59 12 [l0, l1, some (vI a)] (vI a :: st) T σ K := R_iload_n (n := 2) (by decide +kernel) rfl
theorem s59_12 : Rn 59 12 L (vI a :: st) T σ K ↔ (a < 0 → Rn 59 27 L st T σ K) ∧ (0 ≤ a → Rn 59 15 L st T σ K) := R_if_lt (off := 15) (by decide +kernel) (by decide)
theorem s59_15 : Rn 59 15 [some (vR o), l1, l2] st T σ K ↔ Rn 59 16 [some (vR o), l1, l2] (vR o :: st) T σ K := R_aload_n (n := 0) (by decide +kernel) rfl
theorem s59_16 : Rn 59 16 L (vR o :: st) T σ K ↔ sx_kd T o = 8 ∧ ∃ t, sx_rf T o 2 = some t ∧ Rn 59 19 L (vR t :: st) T σ K := R_getR (idx := 28) (ci := 8) (k := 2) (by decide +kernel) (by decide +kernel) rfl
theorem s59_19 : Rn 59 19 [l0, some (vI a), l2] st T σ K ↔ Rn 59 20 [l0, some (vI a), l2] (vI a :: st) T σ K := R_iload_n (n := 1) (by decide +kernel) rfl
theorem s59_20 : Rn 59 20 [l0, l1, some (vI a)] st T σ K ↔ Rn 59 21 [l0, l1, some (vI a)] (vI a :: st) T σ K := R_iload_n (n := 2) (by decide +kernel) rfl
theorem s59_21 : Rn 59 21 L (vI b :: vI a :: vR o :: st) T σ K ↔ (sx_kd T o = 2 ∧ st.length ≤ 4) ∧ Rn 60 0 [some (vR o), some (vI a), some (vI b), none, none, none] [] T σ (fun r T' σ' => Rn 59 24 L (sx_push r st) T' σ' K) := R_V (cm := 60) (n := 2) (idx := 176) (ci := 2) (mx := 6) (vs := [vI a, vI b]) (by decide +kernel) (by decide +kernel) rfl (by decide +kernel) rfl (by decide +kernel) (by decide +kernel)
theorem s59_24 : Rn 59 24 L st T σ K ↔ Rn 59 28 L st T σ K := R_goto (off := 4) (by decide +kernel) (by decide)
theorem s59_27 : Rn 59 27 L st T σ K ↔ Rn 59 28 L (vI (-1) :: st) T σ K := R_iconst (n := -1) (by decide +kernel) (by decide)
theorem s59_28 : Rn 59 28 L [vI a] T σ K ↔ K (some (vI a)) T σ := R_ret (by decide +kernel) (by decide +kernel)
theorem s60_0 : Rn 60 0 [l0, l1, some (vI a), l3, l4, l5] st T σ K ↔ Rn 60 1 [l0, l1, some (vI a), l3, l4, l5] (vI a :: st) T σ K := R_iload_n (n := 2) (by decide +kernel) rfl
theorem s60_1 : Rn 60 1 [l0, l1, l2, l3, l4, l5] (vI a :: st) T σ K ↔ Rn 60 2 [l0, l1, l2, some (vI a), l4, l5] st T σ K := R_istore_n (n := 3) (by decide +kernel) rfl
theorem s60_2 : Rn 60 2 L st T σ K ↔ Rn 60 4 L (vI 9 :: st) T σ K := R_bipush (n := 9) (by decide +kernel) (by decide +kernel)
theorem s60_4 : Rn 60 4 [l0, l1, l2, l3, l4, l5] (vI a :: st) T σ K ↔ Rn 60 6 [l0, l1, l2, l3, some (vI a), l5] st T σ K := R_istore (n := 4) (by decide +kernel) rfl
theorem s60_6 : Rn 60 6 [l0, l1, l2, l3, some (vI a), l5] st T σ K ↔ Rn 60 8 [l0, l1, l2, l3, some (vI a), l5] (vI a :: st) T σ K := R_iload (n := 4) (by decide +kernel) rfl
theorem s60_8 : Rn 60 8 L (vI a :: st) T σ K ↔ (a < 0 → Rn 60 66 L st T σ K) ∧ (0 ≤ a → Rn 60 11 L st T σ K) := R_if_lt (off := 58) (by decide +kernel) (by decide)
theorem s60_11 : Rn 60 11 L st T σ K ↔ Rn 60 12 L (vI 0 :: st) T σ K := R_iconst (n := 0) (by decide +kernel) (by decide)
theorem s60_12 : Rn 60 12 [l0, l1, l2, l3, l4, l5] (vI a :: st) T σ K ↔ Rn 60 14 [l0, l1, l2, l3, l4, some (vI a)] st T σ K := R_istore (n := 5) (by decide +kernel) rfl
theorem s60_14 : Rn 60 14 [l0, l1, l2, l3, l4, some (vI a)] st T σ K ↔ Rn 60 16 [l0, l1, l2, l3, l4, some (vI a)] (vI a :: st) T σ K := R_iload (n := 5) (by decide +kernel) rfl
theorem s60_16 : Rn 60 16 L st T σ K ↔ Rn 60 18 L (vI 40 :: st) T σ K := R_bipush (n := 40) (by decide +kernel) (by decide +kernel)
theorem s60_18 : Rn 60 18 L (vI b :: vI a :: st) T σ K ↔ (b ≤ a → Rn 60 60 L st T σ K) ∧ (a < b → Rn 60 21 L st T σ K) := R_icmp_ge (off := 42) (by decide +kernel) (by decide)
theorem s60_21 : Rn 60 21 [some (vR o), l1, l2, l3, l4, l5] st T σ K ↔ Rn 60 22 [some (vR o), l1, l2, l3, l4, l5] (vR o :: st) T σ K := R_aload_n (n := 0) (by decide +kernel) rfl
theorem s60_22 : Rn 60 22 L (vR o :: st) T σ K ↔ sx_kd T o = 2 ∧ ∃ t, sx_rf T o 1 = some t ∧ Rn 60 25 L (vR t :: st) T σ K := R_getR (idx := 15) (ci := 2) (k := 1) (by decide +kernel) (by decide +kernel) rfl
theorem s60_25 : Rn 60 25 [l0, l1, l2, l3, l4, some (vI a)] st T σ K ↔ Rn 60 27 [l0, l1, l2, l3, l4, some (vI a)] (vI a :: st) T σ K := R_iload (n := 5) (by decide +kernel) rfl
theorem s60_27 : Rn 60 27 L (vI a :: vR o :: st) T σ K ↔ (sx_kd T o = 20 ∧ 0 ≤ a ∧ a < sx_ln T o) ∧ Rn 60 28 L (vI (σ o a) :: st) T σ K := R_iald (by decide +kernel) (by decide)
theorem s60_28 : Rn 60 28 [l0, l1, l2, l3, some (vI a), l5] st T σ K ↔ Rn 60 30 [l0, l1, l2, l3, some (vI a), l5] (vI a :: st) T σ K := R_iload (n := 4) (by decide +kernel) rfl
theorem s60_30 : Rn 60 30 L (vI b :: vI a :: st) T σ K ↔ (a ≠ b → Rn 60 54 L st T σ K) ∧ (a = b → Rn 60 33 L st T σ K) := R_icmp_ne (off := 24) (by decide +kernel) (by decide)
theorem s60_33 : Rn 60 33 [some (vR o), l1, l2, l3, l4, l5] st T σ K ↔ Rn 60 34 [some (vR o), l1, l2, l3, l4, l5] (vR o :: st) T σ K := R_aload_n (n := 0) (by decide +kernel) rfl
theorem s60_34 : Rn 60 34 L (vR o :: st) T σ K ↔ sx_kd T o = 2 ∧ ∃ t, sx_rf T o 2 = some t ∧ Rn 60 37 L (vR t :: st) T σ K := R_getR (idx := 18) (ci := 2) (k := 2) (by decide +kernel) (by decide +kernel) rfl
theorem s60_37 : Rn 60 37 [l0, l1, l2, l3, l4, some (vI a)] st T σ K ↔ Rn 60 39 [l0, l1, l2, l3, l4, some (vI a)] (vI a :: st) T σ K := R_iload (n := 5) (by decide +kernel) rfl
theorem s60_39 : Rn 60 39 L (vI a :: vR o :: st) T σ K ↔ (sx_kd T o = 20 ∧ 0 ≤ a ∧ a < sx_ln T o) ∧ Rn 60 40 L (vI (σ o a) :: st) T σ K := R_iald (by decide +kernel) (by decide)
theorem s60_40 : Rn 60 40 [l0, some (vI a), l2, l3, l4, l5] st T σ K ↔ Rn 60 41 [l0, some (vI a), l2, l3, l4, l5] (vI a :: st) T σ K := R_iload_n (n := 1) (by decide +kernel) rfl
theorem s60_41 : Rn 60 41 L (vI b :: vI a :: st) T σ K ↔ (a ≠ b → Rn 60 54 L st T σ K) ∧ (a = b → Rn 60 44 L st T σ K) := R_icmp_ne (off := 13) (by decide +kernel) (by decide)
theorem s60_44 : Rn 60 44 [l0, l1, l2, some (vI a), l4, l5] st T σ K ↔ Rn 60 45 [l0, l1, l2, some (vI a), l4, l5] (vI a :: st) T σ K := R_iload_n (n := 3) (by decide +kernel) rfl
theorem s60_45 : Rn 60 45 L (vI a :: st) T σ K ↔ (a ≠ 0 → Rn 60 51 L st T σ K) ∧ (a = 0 → Rn 60 48 L st T σ K) := R_if_ne (off := 6) (by decide +kernel) (by decide)
theorem s60_48 : Rn 60 48 [l0, l1, l2, l3, l4, some (vI a)] st T σ K ↔ Rn 60 50 [l0, l1, l2, l3, l4, some (vI a)] (vI a :: st) T σ K := R_iload (n := 5) (by decide +kernel) rfl
theorem s60_50 : Rn 60 50 L [vI a] T σ K ↔ K (some (vI a)) T σ := R_ret (by decide +kernel) (by decide +kernel)
theorem s60_51 : Rn 60 51 [l0, l1, l2, some (vI a), l4, l5] st T σ K ↔ inI (a + (-1)) ∧ Rn 60 54 [l0, l1, l2, some (vI (a + (-1))), l4, l5] st T σ K := R_iinc (n := 3) (d := -1) (by decide +kernel) rfl
theorem s60_54 : Rn 60 54 [l0, l1, l2, l3, l4, some (vI a)] st T σ K ↔ inI (a + 1) ∧ Rn 60 57 [l0, l1, l2, l3, l4, some (vI (a + 1))] st T σ K := R_iinc (n := 5) (d := 1) (by decide +kernel) rfl
theorem s60_57 : Rn 60 57 L st T σ K ↔ Rn 60 14 L st T σ K := R_goto (off := -43) (by decide +kernel) (by decide)
theorem s60_60 : Rn 60 60 [l0, l1, l2, l3, some (vI a), l5] st T σ K ↔ inI (a + (-1)) ∧ Rn 60 63 [l0, l1, l2, l3, some (vI (a + (-1))), l5] st T σ K := R_iinc (n := 4) (d := -1) (by decide +kernel) rfl
theorem s60_63 : Rn 60 63 L st T σ K ↔ Rn 60 6 L st T σ K := R_goto (off := -57) (by decide +kernel) (by decide)
theorem s60_66 : Rn 60 66 L st T σ K ↔ Rn 60 67 L (vI (-1) :: st) T σ K := R_iconst (n := -1) (by decide +kernel) (by decide)
theorem s60_67 : Rn 60 67 L [vI a] T σ K ↔ K (some (vI a)) T σ := R_ret (by decide +kernel) (by decide +kernel)
theorem s61_0 : Rn 61 0 [some (vR o), l1, l2] st T σ K ↔ Rn 61 1 [some (vR o), l1, l2] (vR o :: st) T σ K := R_aload_n (n := 0) (by decide +kernel) rfl
theorem s61_1 : Rn 61 1 L (vR o :: st) T σ K ↔ sx_kd T o = 8 ∧ ∃ t, sx_rf T o 2 = some t ∧ Rn 61 4 L (vR t :: st) T σ K := R_getR (idx := 28) (ci := 8) (k := 2) (by decide +kernel) (by decide +kernel) rfl
theorem s61_4 : Rn 61 4 [l0, some (vI a), l2] st T σ K ↔ Rn 61 5 [l0, some (vI a), l2] (vI a :: st) T σ K := R_iload_n (n := 1) (by decide +kernel) rfl
theorem s61_5 : Rn 61 5 L (vI a :: vR o :: st) T σ K ↔ (sx_kd T o = 2 ∧ st.length ≤ 4) ∧ Rn 49 0 [some (vR o), some (vI a)] [] T σ (fun r T' σ' => Rn 61 8 L (sx_push r st) T' σ' K) := R_V (cm := 49) (n := 1) (idx := 146) (ci := 2) (mx := 2) (vs := [vI a]) (by decide +kernel) (by decide +kernel) rfl (by decide +kernel) rfl (by decide +kernel) (by decide +kernel)
theorem s61_8 : Rn 61 8 L (vI a :: st) T σ K ↔ (a = 0 → Rn 61 34 L st T σ K) ∧ (a ≠ 0 → Rn 61 11 L st T σ K) := R_if_eq (off := 26) (by decide +kernel) (by decide)
theorem s61_11 : Rn 61 11 [some (vR o), l1, l2] st T σ K ↔ Rn 61 12 [some (vR o), l1, l2] (vR o :: st) T σ K := R_aload_n (n := 0) (by decide +kernel) rfl
theorem s61_12 : Rn 61 12 L (vR o :: st) T σ K ↔ sx_kd T o = 8 ∧ ∃ t, sx_rf T o 2 = some t ∧ Rn 61 15 L (vR t :: st) T σ K := R_getR (idx := 28) (ci := 8) (k := 2) (by decide +kernel) (by decide +kernel) rfl
theorem s61_15 : Rn 61 15 [l0, l1, some (vI a)] st T σ K ↔ Rn 61 16 [l0, l1, some (vI a)] (vI a :: st) T σ K := R_iload_n (n := 2) (by decide +kernel) rfl
theorem s61_16 : Rn 61 16 L (vI a :: vR o :: st) T σ K ↔ (sx_kd T o = 2 ∧ st.length ≤ 4) ∧ Rn 49 0 [some (vR o), some (vI a)] [] T σ (fun r T' σ' => Rn 61 19 L (sx_push r st) T' σ' K) := R_V (cm := 49) (n := 1) (idx := 146) (ci := 2) (mx := 2) (vs := [vI a]) (by decide +kernel) (by decide +kernel) rfl (by decide +kernel) rfl (by decide +kernel) (by decide +kernel)
theorem s61_19 : Rn 61 19 L (vI a :: st) T σ K ↔ (a = 0 → Rn 61 34 L st T σ K) ∧ (a ≠ 0 → Rn 61 22 L st T σ K) := R_if_eq (off := 15) (by decide +kernel) (by decide)
theorem s61_22 : Rn 61 22 [some (vR o), l1, l2] st T σ K ↔ Rn 61 23 [some (vR o), l1, l2] (vR o :: st) T σ K := R_aload_n (n := 0) (by decide +kernel) rfl
theorem s61_23 : Rn 61 23 L (vR o :: st) T σ K ↔ sx_kd T o = 8 ∧ ∃ t, sx_rf T o 2 = some t ∧ Rn 61 26 L (vR t :: st) T σ K := R_getR (idx := 28) (ci := 8) (k := 2) (by decide +kernel) (by decide +kernel) rfl
theorem s61_26 : Rn 61 26 [l0, some (vI a), l2] st T σ K ↔ Rn 61 27 [l0, some (vI a), l2] (vI a :: st) T σ K := R_iload_n (n := 1) (by decide +kernel) rfl
theorem s61_27 : Rn 61 27 [l0, l1, some (vI a)] st T σ K ↔ Rn 61 28 [l0, l1, some (vI a)] (vI a :: st) T σ K := R_iload_n (n := 2) (by decide +kernel) rfl
theorem s61_28 : Rn 61 28 L (vI b :: vI a :: vR o :: st) T σ K ↔ (sx_kd T o = 2 ∧ st.length ≤ 4) ∧ Rn 62 0 [some (vR o), some (vI a), some (vI b)] [] T σ (fun r T' σ' => Rn 61 31 L (sx_push r st) T' σ' K) := R_V (cm := 62) (n := 2) (idx := 180) (ci := 2) (mx := 3) (vs := [vI a, vI b]) (by decide +kernel) (by decide +kernel) rfl (by decide +kernel) rfl (by decide +kernel) (by decide +kernel)
theorem s61_31 : Rn 61 31 L st T σ K ↔ Rn 61 35 L st T σ K := R_goto (off := 4) (by decide +kernel) (by decide)
theorem s61_34 : Rn 61 34 L st T σ K ↔ Rn 61 35 L (vI (-1) :: st) T σ K := R_iconst (n := -1) (by decide +kernel) (by decide)
theorem s61_35 : Rn 61 35 L [vI a] T σ K ↔ K (some (vI a)) T σ := R_ret (by decide +kernel) (by decide +kernel)
theorem s62_0 : Rn 62 0 [some (vR o), l1, l2] st T σ K ↔ Rn 62 1 [some (vR o), l1, l2] (vR o :: st) T σ K := R_aload_n (n := 0) (by decide +kernel) rfl
theorem s62_1 : Rn 62 1 L (vR o :: st) T σ K ↔ sx_kd T o = 2 ∧ Rn 62 4 L (vI (σ o 4) :: st) T σ K := R_getI (idx := 24) (ci := 2) (k := 4) (by decide +kernel) (by decide +kernel) (Or.inl rfl)
theorem s62_4 : Rn 62 4 [some (vR o), l1, l2] st T σ K ↔ Rn 62 5 [some (vR o), l1, l2] (vR o :: st) T σ K := R_aload_n (n := 0) (by decide +kernel) rfl
theorem s62_5 : Rn 62 5 L (vR o :: st) T σ K ↔ sx_kd T o = 2 ∧ ∃ t, sx_rf T o 0 = some t ∧ Rn 62 8 L (vR t :: st) T σ K := R_getR (idx := 9) (ci := 2) (k := 0) (by decide +kernel) (by decide +kernel) rfl
theorem s62_8 : Rn 62 8 [l0, some (vI a), l2] st T σ K ↔ Rn 62 9 [l0, some (vI a), l2] (vI a :: st) T σ K := R_iload_n (n := 1) (by decide +kernel) rfl
theorem s62_9 : Rn 62 9 L (vI a :: vR o :: st) T σ K ↔ (sx_kd T o = 20 ∧ 0 ≤ a ∧ a < sx_ln T o) ∧ Rn 62 10 L (vI (σ o a) :: st) T σ K := R_iald (by decide +kernel) (by decide)
theorem s62_10 : Rn 62 10 [some (vR o), l1, l2] st T σ K ↔ Rn 62 11 [some (vR o), l1, l2] (vR o :: st) T σ K := R_aload_n (n := 0) (by decide +kernel) rfl
theorem s62_11 : Rn 62 11 L (vR o :: st) T σ K ↔ sx_kd T o = 2 ∧ ∃ t, sx_rf T o 0 = some t ∧ Rn 62 14 L (vR t :: st) T σ K := R_getR (idx := 9) (ci := 2) (k := 0) (by decide +kernel) (by decide +kernel) rfl
theorem s62_14 : Rn 62 14 [l0, l1, some (vI a)] st T σ K ↔ Rn 62 15 [l0, l1, some (vI a)] (vI a :: st) T σ K := R_iload_n (n := 2) (by decide +kernel) rfl
theorem s62_15 : Rn 62 15 L (vI a :: vR o :: st) T σ K ↔ (sx_kd T o = 20 ∧ 0 ≤ a ∧ a < sx_ln T o) ∧ Rn 62 16 L (vI (σ o a) :: st) T σ K := R_iald (by decide +kernel) (by decide)
theorem s62_16 : Rn 62 16 L (vI c :: vI b :: vI a :: st) T σ K ↔ st.length ≤ 4 ∧ Rn 40 0 [some (vI a), some (vI b), some (vI c), none, none, none] [] T σ (fun r T' σ' => Rn 62 19 L (sx_push r st) T' σ' K) := R_S (cm := 40) (n := 3) (idx := 61) (mx := 6) (vs := [vI a, vI b, vI c]) (by decide +kernel) (Or.inl (by decide +kernel)) rfl (by decide +kernel) rfl (by decide +kernel)
theorem s62_19 : Rn 62 19 L [vI a] T σ K ↔ K (some (vI a)) T σ := R_ret (by decide +kernel) (by decide +kernel)
theorem s63_0 : Rn 63 0 [l0, some (vI a), l2] st T σ K ↔ Rn 63 1 [l0, some (vI a), l2] (vI a :: st) T σ K := R_iload_n (n := 1) (by decide +kernel) rfl
theorem s63_1 : Rn 63 1 L (vI a :: st) T σ K ↔ st.length ≤ 4 ∧ Rn 64 0 [some (vI a)] [] T σ (fun r T' σ' => Rn 63 4 L (sx_push r st) T' σ' K) := R_S (cm := 64) (n := 1) (idx := 183) (mx := 1) (vs := [vI a]) (by decide +kernel) (Or.inl (by decide +kernel)) rfl (by decide +kernel) rfl (by decide +kernel)
theorem s63_4 : Rn 63 4 L (vI a :: st) T σ K ↔ (a = 0 → Rn 63 12 L st T σ K) ∧ (a ≠ 0 → Rn 63 7 L st T σ K) := R_if_eq (off := 8) (by decide +kernel) (by decide)
theorem s63_7 : Rn 63 7 [l0, l1, some (vI a)] st T σ K ↔ Rn 63 8 [l0, l1, some (vI a)] (vI a :: st) T σ K := R_iload_n (n := 2) (by decide +kernel) rfl
theorem s63_8 : Rn 63 8 L st T σ K ↔ Rn 63 9 L (vI (-1) :: st) T σ K := R_iconst (n := -1) (by decide +kernel) (by decide)
theorem s63_9 : Rn 63 9 L (vI b :: vI a :: st) T σ K ↔ (b ≤ a → Rn 63 14 L st T σ K) ∧ (a < b → Rn 63 12 L st T σ K) := R_icmp_ge (off := 5) (by decide +kernel) (by decide)
theorem s63_12 : Rn 63 12 L st T σ K ↔ Rn 63 13 L (vI (-1) :: st) T σ K := R_iconst (n := -1) (by decide +kernel) (by decide)
theorem s63_13 : Rn 63 13 L [vI a] T σ K ↔ K (some (vI a)) T σ := R_ret (by decide +kernel) (by decide +kernel)
theorem s63_14 : Rn 63 14 [l0, l1, some (vI a)] st T σ K ↔ Rn 63 15 [l0, l1, some (vI a)] (vI a :: st) T σ K := R_iload_n (n := 2) (by decide +kernel) rfl
theorem s63_15 : Rn 63 15 L st T σ K ↔ Rn 63 16 L (vI (-1) :: st) T σ K := R_iconst (n := -1) (by decide +kernel) (by decide)
theorem s63_16 : Rn 63 16 L (vI b :: vI a :: st) T σ K ↔ (a ≠ b → Rn 63 30 L st T σ K) ∧ (a = b → Rn 63 19 L st T σ K) := R_icmp_ne (off := 14) (by decide +kernel) (by decide)
theorem s63_19 : Rn 63 19 [some (vR o), l1, l2] st T σ K ↔ Rn 63 20 [some (vR o), l1, l2] (vR o :: st) T σ K := R_aload_n (n := 0) (by decide +kernel) rfl
theorem s63_20 : Rn 63 20 L (vR o :: st) T σ K ↔ sx_kd T o = 8 ∧ ∃ t, sx_rf T o 2 = some t ∧ Rn 63 23 L (vR t :: st) T σ K := R_getR (idx := 28) (ci := 8) (k := 2) (by decide +kernel) (by decide +kernel) rfl
theorem s63_23 : Rn 63 23 [l0, some (vI a), l2] st T σ K ↔ Rn 63 24 [l0, some (vI a), l2] (vI a :: st) T σ K := R_iload_n (n := 1) (by decide +kernel) rfl
theorem s63_24 : Rn 63 24 L (vI a :: vR o :: st) T σ K ↔ (sx_kd T o = 2 ∧ st.length ≤ 4) ∧ Rn 65 0 [some (vR o), some (vI a), none, none] [] T σ (fun r T' σ' => Rn 63 27 L (sx_push r st) T' σ' K) := R_V (cm := 65) (n := 1) (idx := 186) (ci := 2) (mx := 4) (vs := [vI a]) (by decide +kernel) (by decide +kernel) rfl (by decide +kernel) rfl (by decide +kernel) (by decide +kernel)
theorem s63_27 : Rn 63 27 L st T σ K ↔ Rn 63 39 L st T σ K := R_goto (off := 12) (by decide +kernel) (by decide)
theorem s63_30 : Rn 63 30 [some (vR o), l1, l2] st T σ K ↔ Rn 63 31 [some (vR o), l1, l2] (vR o :: st) T σ K := R_aload_n (n := 0) (by decide +kernel) rfl
theorem s63_31 : Rn 63 31 L (vR o :: st) T σ K ↔ sx_kd T o = 8 ∧ ∃ t, sx_rf T o 2 = some t ∧ Rn 63 34 L (vR t :: st) T σ K := R_getR (idx := 28) (ci := 8) (k := 2) (by decide +kernel) (by decide +kernel) rfl
theorem s63_34 : Rn 63 34 [l0, some (vI a), l2] st T σ K ↔ Rn 63 35 [l0, some (vI a), l2] (vI a :: st) T σ K := R_iload_n (n := 1) (by decide +kernel) rfl
theorem s63_35 : Rn 63 35 [l0, l1, some (vI a)] st T σ K ↔ Rn 63 36 [l0, l1, some (vI a)] (vI a :: st) T σ K := R_iload_n (n := 2) (by decide +kernel) rfl
theorem s63_36 : Rn 63 36 L (vI b :: vI a :: vR o :: st) T σ K ↔ (sx_kd T o = 2 ∧ st.length ≤ 4) ∧ Rn 66 0 [some (vR o), some (vI a), some (vI b), none, none] [] T σ (fun r T' σ' => Rn 63 39 L (sx_push r st) T' σ' K) := R_V (cm := 66) (n := 2) (idx := 189) (ci := 2) (mx := 5) (vs := [vI a, vI b]) (by decide +kernel) (by decide +kernel) rfl (by decide +kernel) rfl (by decide +kernel) (by decide +kernel)
theorem s63_39 : Rn 63 39 L [vI a] T σ K ↔ K (some (vI a)) T σ := R_ret (by decide +kernel) (by decide +kernel)
theorem s64_0 : Rn 64 0 [some (vI a)] st T σ K ↔ Rn 64 1 [some (vI a)] (vI a :: st) T σ K := R_iload_n (n := 0) (by decide +kernel) rfl
theorem s64_1 : Rn 64 1 L (vI a :: st) T σ K ↔ (a < 0 → Rn 64 14 L st T σ K) ∧ (0 ≤ a → Rn 64 4 L st T σ K) := R_if_lt (off := 13) (by decide +kernel) (by decide)
theorem s64_4 : Rn 64 4 [some (vI a)] st T σ K ↔ Rn 64 5 [some (vI a)] (vI a :: st) T σ K := R_iload_n (n := 0) (by decide +kernel) rfl
theorem s64_5 : Rn 64 5 L st T σ K ↔ Rn 64 7 L (vI 10 :: st) T σ K := R_bipush (n := 10) (by decide +kernel) (by decide +kernel)
theorem s64_7 : Rn 64 7 L (vI b :: vI a :: st) T σ K ↔ (b < a → Rn 64 14 L st T σ K) ∧ (a ≤ b → Rn 64 10 L st T σ K) := R_icmp_gt (off := 7) (by decide +kernel) (by decide)
theorem s64_10 : Rn 64 10 L st T σ K ↔ Rn 64 11 L (vI 1 :: st) T σ K := R_iconst (n := 1) (by decide +kernel) (by decide)
theorem s64_11 : Rn 64 11 L st T σ K ↔ Rn 64 15 L st T σ K := R_goto (off := 4) (by decide +kernel) (by decide)
theorem s64_14 : Rn 64 14 L st T σ K ↔ Rn 64 15 L (vI 0 :: st) T σ K := R_iconst (n := 0) (by decide +kernel) (by decide)
theorem s64_15 : Rn 64 15 L [vI a] T σ K ↔ (a = 0 ∨ a = 1) ∧ K (some (vI a)) T σ := R_retZ (by decide +kernel) (by decide +kernel)
theorem s65_0 : Rn 65 0 L st T σ K ↔ Rn 65 1 L (vI 0 :: st) T σ K := R_iconst (n := 0) (by decide +kernel) (by decide)
theorem s65_1 : Rn 65 1 [l0, l1, l2, l3] (vI a :: st) T σ K ↔ Rn 65 2 [l0, l1, some (vI a), l3] st T σ K := R_istore_n (n := 2) (by decide +kernel) rfl
theorem s65_2 : Rn 65 2 L st T σ K ↔ Rn 65 3 L (vI 0 :: st) T σ K := R_iconst (n := 0) (by decide +kernel) (by decide)
theorem s65_3 : Rn 65 3 [l0, l1, l2, l3] (vI a :: st) T σ K ↔ Rn 65 4 [l0, l1, l2, some (vI a)] st T σ K := R_istore_n (n := 3) (by decide +kernel) rfl
theorem s65_4 : Rn 65 4 [l0, l1, l2, some (vI a)] st T σ K ↔ Rn 65 5 [l0, l1, l2, some (vI a)] (vI a :: st) T σ K := R_iload_n (n := 3) (by decide +kernel) rfl
theorem s65_5 : Rn 65 5 L st T σ K ↔ Rn 65 7 L (vI 40 :: st) T σ K := R_bipush (n := 40) (by decide +kernel) (by decide +kernel)
theorem s65_7 : Rn 65 7 L (vI b :: vI a :: st) T σ K ↔ (b ≤ a → Rn 65 29 L st T σ K) ∧ (a < b → Rn 65 10 L st T σ K) := R_icmp_ge (off := 22) (by decide +kernel) (by decide)
theorem s65_10 : Rn 65 10 [some (vR o), l1, l2, l3] st T σ K ↔ Rn 65 11 [some (vR o), l1, l2, l3] (vR o :: st) T σ K := R_aload_n (n := 0) (by decide +kernel) rfl
theorem s65_11 : Rn 65 11 L (vR o :: st) T σ K ↔ sx_kd T o = 2 ∧ ∃ t, sx_rf T o 1 = some t ∧ Rn 65 14 L (vR t :: st) T σ K := R_getR (idx := 15) (ci := 2) (k := 1) (by decide +kernel) (by decide +kernel) rfl
theorem s65_14 : Rn 65 14 [l0, l1, l2, some (vI a)] st T σ K ↔ Rn 65 15 [l0, l1, l2, some (vI a)] (vI a :: st) T σ K := R_iload_n (n := 3) (by decide +kernel) rfl
theorem s65_15 : Rn 65 15 L (vI a :: vR o :: st) T σ K ↔ (sx_kd T o = 20 ∧ 0 ≤ a ∧ a < sx_ln T o) ∧ Rn 65 16 L (vI (σ o a) :: st) T σ K := R_iald (by decide +kernel) (by decide)
theorem s65_16 : Rn 65 16 [l0, some (vI a), l2, l3] st T σ K ↔ Rn 65 17 [l0, some (vI a), l2, l3] (vI a :: st) T σ K := R_iload_n (n := 1) (by decide +kernel) rfl
theorem s65_17 : Rn 65 17 L (vI b :: vI a :: st) T σ K ↔ (a < b → Rn 65 23 L st T σ K) ∧ (b ≤ a → Rn 65 20 L st T σ K) := R_icmp_lt (off := 6) (by decide +kernel) (by decide)
theorem s65_20 : Rn 65 20 [l0, l1, some (vI a), l3] st T σ K ↔ inI (a + 1) ∧ Rn 65 23 [l0, l1, some (vI (a + 1)), l3] st T σ K := R_iinc (n := 2) (d := 1) (by decide +kernel) rfl
theorem s65_23 : Rn 65 23 [l0, l1, l2, some (vI a)] st T σ K ↔ inI (a + 1) ∧ Rn 65 26 [l0, l1, l2, some (vI (a + 1))] st T σ K := R_iinc (n := 3) (d := 1) (by decide +kernel) rfl
theorem s65_26 : Rn 65 26 L st T σ K ↔ Rn 65 4 L st T σ K := R_goto (off := -22) (by decide +kernel) (by decide)
theorem s65_29 : Rn 65 29 [l0, l1, some (vI a), l3] st T σ K ↔ Rn 65 30 [l0, l1, some (vI a), l3] (vI a :: st) T σ K := R_iload_n (n := 2) (by decide +kernel) rfl
theorem s65_30 : Rn 65 30 L [vI a] T σ K ↔ K (some (vI a)) T σ := R_ret (by decide +kernel) (by decide +kernel)
theorem s66_0 : Rn 66 0 [l0, l1, some (vI a), l3, l4] st T σ K ↔ Rn 66 1 [l0, l1, some (vI a), l3, l4] (vI a :: st) T σ K := R_iload_n (n := 2) (by decide +kernel) rfl
theorem s66_1 : Rn 66 1 [l0, l1, l2, l3, l4] (vI a :: st) T σ K ↔ Rn 66 2 [l0, l1, l2, some (vI a), l4] st T σ K := R_istore_n (n := 3) (by decide +kernel) rfl
theorem s66_2 : Rn 66 2 L st T σ K ↔ Rn 66 3 L (vI 0 :: st) T σ K := R_iconst (n := 0) (by decide +kernel) (by decide)
theorem s66_3 : Rn 66 3 [l0, l1, l2, l3, l4] (vI a :: st) T σ K ↔ Rn 66 5 [l0, l1, l2, l3, some (vI a)] st T σ K := R_istore (n := 4) (by decide +kernel) rfl
theorem s66_5 : Rn 66 5 [l0, l1, l2, l3, some (vI a)] st T σ K ↔ Rn 66 7 [l0, l1, l2, l3, some (vI a)] (vI a :: st) T σ K := R_iload (n := 4) (by decide +kernel) rfl
theorem s66_7 : Rn 66 7 L st T σ K ↔ Rn 66 9 L (vI 40 :: st) T σ K := R_bipush (n := 40) (by decide +kernel) (by decide +kernel)
theorem s66_9 : Rn 66 9 L (vI b :: vI a :: st) T σ K ↔ (b ≤ a → Rn 66 39 L st T σ K) ∧ (a < b → Rn 66 12 L st T σ K) := R_icmp_ge (off := 30) (by decide +kernel) (by decide)
theorem s66_12 : Rn 66 12 [some (vR o), l1, l2, l3, l4] st T σ K ↔ Rn 66 13 [some (vR o), l1, l2, l3, l4] (vR o :: st) T σ K := R_aload_n (n := 0) (by decide +kernel) rfl
theorem s66_13 : Rn 66 13 L (vR o :: st) T σ K ↔ sx_kd T o = 2 ∧ ∃ t, sx_rf T o 1 = some t ∧ Rn 66 16 L (vR t :: st) T σ K := R_getR (idx := 15) (ci := 2) (k := 1) (by decide +kernel) (by decide +kernel) rfl
theorem s66_16 : Rn 66 16 [l0, l1, l2, l3, some (vI a)] st T σ K ↔ Rn 66 18 [l0, l1, l2, l3, some (vI a)] (vI a :: st) T σ K := R_iload (n := 4) (by decide +kernel) rfl
theorem s66_18 : Rn 66 18 L (vI a :: vR o :: st) T σ K ↔ (sx_kd T o = 20 ∧ 0 ≤ a ∧ a < sx_ln T o) ∧ Rn 66 19 L (vI (σ o a) :: st) T σ K := R_iald (by decide +kernel) (by decide)
theorem s66_19 : Rn 66 19 [l0, some (vI a), l2, l3, l4] st T σ K ↔ Rn 66 20 [l0, some (vI a), l2, l3, l4] (vI a :: st) T σ K := R_iload_n (n := 1) (by decide +kernel) rfl
theorem s66_20 : Rn 66 20 L (vI b :: vI a :: st) T σ K ↔ (a < b → Rn 66 33 L st T σ K) ∧ (b ≤ a → Rn 66 23 L st T σ K) := R_icmp_lt (off := 13) (by decide +kernel) (by decide)
theorem s66_23 : Rn 66 23 [l0, l1, l2, some (vI a), l4] st T σ K ↔ Rn 66 24 [l0, l1, l2, some (vI a), l4] (vI a :: st) T σ K := R_iload_n (n := 3) (by decide +kernel) rfl
theorem s66_24 : Rn 66 24 L (vI a :: st) T σ K ↔ (a ≠ 0 → Rn 66 30 L st T σ K) ∧ (a = 0 → Rn 66 27 L st T σ K) := R_if_ne (off := 6) (by decide +kernel) (by decide)
theorem s66_27 : Rn 66 27 [l0, l1, l2, l3, some (vI a)] st T σ K ↔ Rn 66 29 [l0, l1, l2, l3, some (vI a)] (vI a :: st) T σ K := R_iload (n := 4) (by decide +kernel) rfl
theorem s66_29 : Rn 66 29 L [vI a] T σ K ↔ K (some (vI a)) T σ := R_ret (by decide +kernel) (by decide +kernel)
theorem s66_30 : Rn 66 30 [l0, l1, l2, some (vI a), l4] st T σ K ↔ inI (a + (-1)) ∧ Rn 66 33 [l0, l1, l2, some (vI (a + (-1))), l4] st T σ K := R_iinc (n := 3) (d := -1) (by decide +kernel) rfl
theorem s66_33 : Rn 66 33 [l0, l1, l2, l3, some (vI a)] st T σ K ↔ inI (a + 1) ∧ Rn 66 36 [l0, l1, l2, l3, some (vI (a + 1))] st T σ K := R_iinc (n := 4) (d := 1) (by decide +kernel) rfl
theorem s66_36 : Rn 66 36 L st T σ K ↔ Rn 66 5 L st T σ K := R_goto (off := -31) (by decide +kernel) (by decide)
theorem s66_39 : Rn 66 39 L st T σ K ↔ Rn 66 40 L (vI (-1) :: st) T σ K := R_iconst (n := -1) (by decide +kernel) (by decide)
theorem s66_40 : Rn 66 40 L [vI a] T σ K ↔ K (some (vI a)) T σ := R_ret (by decide +kernel) (by decide +kernel)
theorem s67_0 : Rn 67 0 [some (vR o), l1, l2] st T σ K ↔ Rn 67 1 [some (vR o), l1, l2] (vR o :: st) T σ K := R_aload_n (n := 0) (by decide +kernel) rfl
theorem s67_1 : Rn 67 1 L (vR o :: st) T σ K ↔ sx_kd T o = 8 ∧ ∃ t, sx_rf T o 2 = some t ∧ Rn 67 4 L (vR t :: st) T σ K := R_getR (idx := 28) (ci := 8) (k := 2) (by decide +kernel) (by decide +kernel) rfl
theorem s67_4 : Rn 67 4 [l0, some (vI a), l2] st T σ K ↔ Rn 67 5 [l0, some (vI a), l2] (vI a :: st) T σ K := R_iload_n (n := 1) (by decide +kernel) rfl
theorem s67_5 : Rn 67 5 L (vI a :: vR o :: st) T σ K ↔ (sx_kd T o = 2 ∧ st.length ≤ 4) ∧ Rn 49 0 [some (vR o), some (vI a)] [] T σ (fun r T' σ' => Rn 67 8 L (sx_push r st) T' σ' K) := R_V (cm := 49) (n := 1) (idx := 146) (ci := 2) (mx := 2) (vs := [vI a]) (by decide +kernel) (by decide +kernel) rfl (by decide +kernel) rfl (by decide +kernel) (by decide +kernel)
theorem s67_8 : Rn 67 8 L (vI a :: st) T σ K ↔ (a = 0 → Rn 67 30 L st T σ K) ∧ (a ≠ 0 → Rn 67 11 L st T σ K) := R_if_eq (off := 22) (by decide +kernel) (by decide)
theorem s67_11 : Rn 67 11 [l0, l1, some (vI a)] st T σ K ↔ Rn 67 12 [l0, l1, some (vI a)] (vI a :: st) T σ K := R_iload_n (n := 2) (by decide +kernel) rfl
theorem s67_12 : Rn 67 12 L (vI a :: st) T σ K ↔ st.length ≤ 4 ∧ Rn 64 0 [some (vI a)] [] T σ (fun r T' σ' => Rn 67 15 L (sx_push r st) T' σ' K) := R_S (cm := 64) (n := 1) (idx := 183) (mx := 1) (vs := [vI a]) (by decide +kernel) (Or.inl (by decide +kernel)) rfl (by decide +kernel) rfl (by decide +kernel)
theorem s67_15 : Rn 67 15 L (vI a :: st) T σ K ↔ (a = 0 → Rn 67 30 L st T σ K) ∧ (a ≠ 0 → Rn 67 18 L st T σ K) := R_if_eq (off := 15) (by decide +kernel) (by decide)
theorem s67_18 : Rn 67 18 [some (vR o), l1, l2] st T σ K ↔ Rn 67 19 [some (vR o), l1, l2] (vR o :: st) T σ K := R_aload_n (n := 0) (by decide +kernel) rfl
theorem s67_19 : Rn 67 19 L (vR o :: st) T σ K ↔ sx_kd T o = 8 ∧ ∃ t, sx_rf T o 2 = some t ∧ Rn 67 22 L (vR t :: st) T σ K := R_getR (idx := 28) (ci := 8) (k := 2) (by decide +kernel) (by decide +kernel) rfl
theorem s67_22 : Rn 67 22 [l0, some (vI a), l2] st T σ K ↔ Rn 67 23 [l0, some (vI a), l2] (vI a :: st) T σ K := R_iload_n (n := 1) (by decide +kernel) rfl
theorem s67_23 : Rn 67 23 [l0, l1, some (vI a)] st T σ K ↔ Rn 67 24 [l0, l1, some (vI a)] (vI a :: st) T σ K := R_iload_n (n := 2) (by decide +kernel) rfl
theorem s67_24 : Rn 67 24 L (vI b :: vI a :: vR o :: st) T σ K ↔ (sx_kd T o = 2 ∧ st.length ≤ 4) ∧ Rn 68 0 [some (vR o), some (vI a), some (vI b), none, none] [] T σ (fun r T' σ' => Rn 67 27 L (sx_push r st) T' σ' K) := R_V (cm := 68) (n := 2) (idx := 192) (ci := 2) (mx := 5) (vs := [vI a, vI b]) (by decide +kernel) (by decide +kernel) rfl (by decide +kernel) rfl (by decide +kernel) (by decide +kernel)
theorem s67_27 : Rn 67 27 L st T σ K ↔ Rn 67 31 L st T σ K := R_goto (off := 4) (by decide +kernel) (by decide)
theorem s67_30 : Rn 67 30 L st T σ K ↔ Rn 67 31 L (vI (-1) :: st) T σ K := R_iconst (n := -1) (by decide +kernel) (by decide)
theorem s67_31 : Rn 67 31 L [vI a] T σ K ↔ K (some (vI a)) T σ := R_ret (by decide +kernel) (by decide +kernel)
theorem s68_0 : Rn 68 0 [l0, some (vI a), l2, l3, l4] st T σ K ↔ Rn 68 1 [l0, some (vI a), l2, l3, l4] (vI a :: st) T σ K := R_iload_n (n := 1) (by decide +kernel) rfl
theorem s68_1 : Rn 68 1 [l0, l1, l2, l3, l4] (vI a :: st) T σ K ↔ Rn 68 2 [l0, l1, l2, some (vI a), l4] st T σ K := R_istore_n (n := 3) (by decide +kernel) rfl
theorem s68_2 : Rn 68 2 L st T σ K ↔ Rn 68 3 L (vI 0 :: st) T σ K := R_iconst (n := 0) (by decide +kernel) (by decide)
theorem s68_3 : Rn 68 3 [l0, l1, l2, l3, l4] (vI a :: st) T σ K ↔ Rn 68 5 [l0, l1, l2, l3, some (vI a)] st T σ K := R_istore (n := 4) (by decide +kernel) rfl
theorem s68_5 : Rn 68 5 [l0, l1, l2, l3, some (vI a)] st T σ K ↔ Rn 68 7 [l0, l1, l2, l3, some (vI a)] (vI a :: st) T σ K := R_iload (n := 4) (by decide +kernel) rfl
theorem s68_7 : Rn 68 7 L st T σ K ↔ Rn 68 9 L (vI 10 :: st) T σ K := R_bipush (n := 10) (by decide +kernel) (by decide +kernel)
theorem s68_9 : Rn 68 9 L (vI b :: vI a :: st) T σ K ↔ (b < a → Rn 68 45 L st T σ K) ∧ (a ≤ b → Rn 68 12 L st T σ K) := R_icmp_gt (off := 36) (by decide +kernel) (by decide)
theorem s68_12 : Rn 68 12 [some (vR o), l1, l2, l3, l4] st T σ K ↔ Rn 68 13 [some (vR o), l1, l2, l3, l4] (vR o :: st) T σ K := R_aload_n (n := 0) (by decide +kernel) rfl
theorem s68_13 : Rn 68 13 [l0, l1, l2, some (vI a), l4] st T σ K ↔ Rn 68 14 [l0, l1, l2, some (vI a), l4] (vI a :: st) T σ K := R_iload_n (n := 3) (by decide +kernel) rfl
theorem s68_14 : Rn 68 14 L (vI a :: vR o :: st) T σ K ↔ (sx_kd T o = 2 ∧ st.length ≤ 4) ∧ Rn 49 0 [some (vR o), some (vI a)] [] T σ (fun r T' σ' => Rn 68 17 L (sx_push r st) T' σ' K) := R_V (cm := 49) (n := 1) (idx := 78) (ci := 2) (mx := 2) (vs := [vI a]) (by decide +kernel) (by decide +kernel) rfl (by decide +kernel) rfl (by decide +kernel) (by decide +kernel)
theorem s68_17 : Rn 68 17 L (vI a :: st) T σ K ↔ (a = 0 → Rn 68 45 L st T σ K) ∧ (a ≠ 0 → Rn 68 20 L st T σ K) := R_if_eq (off := 28) (by decide +kernel) (by decide)
theorem s68_20 : Rn 68 20 [some (vR o), l1, l2, l3, l4] st T σ K ↔ Rn 68 21 [some (vR o), l1, l2, l3, l4] (vR o :: st) T σ K := R_aload_n (n := 0) (by decide +kernel) rfl
theorem s68_21 : Rn 68 21 L (vR o :: st) T σ K ↔ sx_kd T o = 2 ∧ ∃ t, sx_rf T o 1 = some t ∧ Rn 68 24 L (vR t :: st) T σ K := R_getR (idx := 15) (ci := 2) (k := 1) (by decide +kernel) (by decide +kernel) rfl
theorem s68_24 : Rn 68 24 [l0, l1, l2, some (vI a), l4] st T σ K ↔ Rn 68 25 [l0, l1, l2, some (vI a), l4] (vI a :: st) T σ K := R_iload_n (n := 3) (by decide +kernel) rfl
theorem s68_25 : Rn 68 25 L (vI a :: vR o :: st) T σ K ↔ (sx_kd T o = 20 ∧ 0 ≤ a ∧ a < sx_ln T o) ∧ Rn 68 26 L (vI (σ o a) :: st) T σ K := R_iald (by decide +kernel) (by decide)
theorem s68_26 : Rn 68 26 [l0, l1, some (vI a), l3, l4] st T σ K ↔ Rn 68 27 [l0, l1, some (vI a), l3, l4] (vI a :: st) T σ K := R_iload_n (n := 2) (by decide +kernel) rfl
theorem s68_27 : Rn 68 27 L (vI b :: vI a :: st) T σ K ↔ (a < b → Rn 68 32 L st T σ K) ∧ (b ≤ a → Rn 68 30 L st T σ K) := R_icmp_lt (off := 5) (by decide +kernel) (by decide)
theorem s68_30 : Rn 68 30 [l0, l1, l2, some (vI a), l4] st T σ K ↔ Rn 68 31 [l0, l1, l2, some (vI a), l4] (vI a :: st) T σ K := R_iload_n (n := 3) (by decide +kernel) rfl
theorem s68_31 : Rn 68 31 L [vI a] T σ K ↔ K (some (vI a)) T σ := R_ret (by decide +kernel) (by decide +kernel)
theorem s68_32 : Rn 68 32 [some (vR o), l1, l2, l3, l4] st T σ K ↔ Rn 68 33 [some (vR o), l1, l2, l3, l4] (vR o :: st) T σ K := R_aload_n (n := 0) (by decide +kernel) rfl
theorem s68_33 : Rn 68 33 L (vR o :: st) T σ K ↔ sx_kd T o = 2 ∧ ∃ t, sx_rf T o 2 = some t ∧ Rn 68 36 L (vR t :: st) T σ K := R_getR (idx := 18) (ci := 2) (k := 2) (by decide +kernel) (by decide +kernel) rfl
theorem s68_36 : Rn 68 36 [l0, l1, l2, some (vI a), l4] st T σ K ↔ Rn 68 37 [l0, l1, l2, some (vI a), l4] (vI a :: st) T σ K := R_iload_n (n := 3) (by decide +kernel) rfl
theorem s68_37 : Rn 68 37 L (vI a :: vR o :: st) T σ K ↔ (sx_kd T o = 20 ∧ 0 ≤ a ∧ a < sx_ln T o) ∧ Rn 68 38 L (vI (σ o a) :: st) T σ K := R_iald (by decide +kernel) (by decide)
theorem s68_38 : Rn 68 38 [l0, l1, l2, l3, l4] (vI a :: st) T σ K ↔ Rn 68 39 [l0, l1, l2, some (vI a), l4] st T σ K := R_istore_n (n := 3) (by decide +kernel) rfl
theorem s68_39 : Rn 68 39 [l0, l1, l2, l3, some (vI a)] st T σ K ↔ inI (a + 1) ∧ Rn 68 42 [l0, l1, l2, l3, some (vI (a + 1))] st T σ K := R_iinc (n := 4) (d := 1) (by decide +kernel) rfl
theorem s68_42 : Rn 68 42 L st T σ K ↔ Rn 68 5 L st T σ K := R_goto (off := -37) (by decide +kernel) (by decide)
theorem s68_45 : Rn 68 45 L st T σ K ↔ Rn 68 46 L (vI (-1) :: st) T σ K := R_iconst (n := -1) (by decide +kernel) (by decide)
theorem s68_46 : Rn 68 46 L [vI a] T σ K ↔ K (some (vI a)) T σ := R_ret (by decide +kernel) (by decide +kernel)
theorem s69_0 : Rn 69 0 [l0, some (vI a), l2] st T σ K ↔ Rn 69 1 [l0, some (vI a), l2] (vI a :: st) T σ K := R_iload_n (n := 1) (by decide +kernel) rfl
theorem s69_1 : Rn 69 1 L (vI a :: st) T σ K ↔ st.length ≤ 4 ∧ Rn 64 0 [some (vI a)] [] T σ (fun r T' σ' => Rn 69 4 L (sx_push r st) T' σ' K) := R_S (cm := 64) (n := 1) (idx := 183) (mx := 1) (vs := [vI a]) (by decide +kernel) (Or.inl (by decide +kernel)) rfl (by decide +kernel) rfl (by decide +kernel)
theorem s69_4 : Rn 69 4 L (vI a :: st) T σ K ↔ (a ≠ 0 → Rn 69 9 L st T σ K) ∧ (a = 0 → Rn 69 7 L st T σ K) := R_if_ne (off := 5) (by decide +kernel) (by decide)
theorem s69_7 : Rn 69 7 L st T σ K ↔ Rn 69 8 L (vI (-1) :: st) T σ K := R_iconst (n := -1) (by decide +kernel) (by decide)
theorem s69_8 : Rn 69 8 L [vI a] T σ K ↔ K (some (vI a)) T σ := R_ret (by decide +kernel) (by decide +kernel)
theorem s69_9 : Rn 69 9 [l0, l1, some (vI a)] st T σ K ↔ Rn 69 10 [l0, l1, some (vI a)] (vI a :: st) T σ K := R_iload_n (n := 2) (by decide +kernel) rfl
theorem s69_10 : Rn 69 10 L (vI a :: st) T σ K ↔ sx_sw [(0, 36), (1, 45), (2, 54)] 63 a (fun t => Rn 69 t L st T σ K) := R_table (d := 53) (lo := 0) (hi := 2) (offs := #[26, 35, 44]) (len := 26) (by decide +kernel) (by decide +kernel)
theorem s69_36 : Rn 69 36 [some (vR o), l1, l2] st T σ K ↔ Rn 69 37 [some (vR o), l1, l2] (vR o :: st) T σ K := R_aload_n (n := 0) (by decide +kernel) rfl
theorem s69_37 : Rn 69 37 L (vR o :: st) T σ K ↔ sx_kd T o = 8 ∧ ∃ t, sx_rf T o 7 = some t ∧ Rn 69 40 L (vR t :: st) T σ K := R_getR (idx := 59) (ci := 8) (k := 7) (by decide +kernel) (by decide +kernel) rfl
theorem s69_40 : Rn 69 40 [l0, some (vI a), l2] st T σ K ↔ Rn 69 41 [l0, some (vI a), l2] (vI a :: st) T σ K := R_iload_n (n := 1) (by decide +kernel) rfl
theorem s69_41 : Rn 69 41 L (vI a :: vR o :: st) T σ K ↔ (sx_kd T o = 7 ∧ st.length ≤ 4) ∧ Rn 70 0 [some (vR o), some (vI a), none, none, none, none] [] T σ (fun r T' σ' => Rn 69 44 L (sx_push r st) T' σ' K) := R_V (cm := 70) (n := 1) (idx := 195) (ci := 7) (mx := 6) (vs := [vI a]) (by decide +kernel) (by decide +kernel) rfl (by decide +kernel) rfl (by decide +kernel) (by decide +kernel)
theorem s69_44 : Rn 69 44 L [vI a] T σ K ↔ K (some (vI a)) T σ := R_ret (by decide +kernel) (by decide +kernel)
theorem s69_45 : Rn 69 45 [some (vR o), l1, l2] st T σ K ↔ Rn 69 46 [some (vR o), l1, l2] (vR o :: st) T σ K := R_aload_n (n := 0) (by decide +kernel) rfl
theorem s69_46 : Rn 69 46 L (vR o :: st) T σ K ↔ sx_kd T o = 8 ∧ ∃ t, sx_rf T o 7 = some t ∧ Rn 69 49 L (vR t :: st) T σ K := R_getR (idx := 59) (ci := 8) (k := 7) (by decide +kernel) (by decide +kernel) rfl
theorem s69_49 : Rn 69 49 [l0, some (vI a), l2] st T σ K ↔ Rn 69 50 [l0, some (vI a), l2] (vI a :: st) T σ K := R_iload_n (n := 1) (by decide +kernel) rfl
theorem s69_50 : Rn 69 50 L (vI a :: vR o :: st) T σ K ↔ (sx_kd T o = 7 ∧ st.length ≤ 4) ∧ Rn 71 0 [some (vR o), some (vI a), none, none, none] [] T σ (fun r T' σ' => Rn 69 53 L (sx_push r st) T' σ' K) := R_V (cm := 71) (n := 1) (idx := 198) (ci := 7) (mx := 5) (vs := [vI a]) (by decide +kernel) (by decide +kernel) rfl (by decide +kernel) rfl (by decide +kernel) (by decide +kernel)
theorem s69_53 : Rn 69 53 L [vI a] T σ K ↔ K (some (vI a)) T σ := R_ret (by decide +kernel) (by decide +kernel)
theorem s69_54 : Rn 69 54 [some (vR o), l1, l2] st T σ K ↔ Rn 69 55 [some (vR o), l1, l2] (vR o :: st) T σ K := R_aload_n (n := 0) (by decide +kernel) rfl
theorem s69_55 : Rn 69 55 L (vR o :: st) T σ K ↔ sx_kd T o = 8 ∧ ∃ t, sx_rf T o 7 = some t ∧ Rn 69 58 L (vR t :: st) T σ K := R_getR (idx := 59) (ci := 8) (k := 7) (by decide +kernel) (by decide +kernel) rfl
theorem s69_58 : Rn 69 58 [l0, some (vI a), l2] st T σ K ↔ Rn 69 59 [l0, some (vI a), l2] (vI a :: st) T σ K := R_iload_n (n := 1) (by decide +kernel) rfl
theorem s69_59 : Rn 69 59 L (vI a :: vR o :: st) T σ K ↔ (sx_kd T o = 7 ∧ st.length ≤ 4) ∧ Rn 72 0 [some (vR o), some (vI a), none, none] [] T σ (fun r T' σ' => Rn 69 62 L (sx_push r st) T' σ' K) := R_V (cm := 72) (n := 1) (idx := 201) (ci := 7) (mx := 4) (vs := [vI a]) (by decide +kernel) (by decide +kernel) rfl (by decide +kernel) rfl (by decide +kernel) (by decide +kernel)
theorem s69_62 : Rn 69 62 L [vI a] T σ K ↔ K (some (vI a)) T σ := R_ret (by decide +kernel) (by decide +kernel)
theorem s69_63 : Rn 69 63 L st T σ K ↔ Rn 69 64 L (vI (-1) :: st) T σ K := R_iconst (n := -1) (by decide +kernel) (by decide)
theorem s69_64 : Rn 69 64 L [vI a] T σ K ↔ K (some (vI a)) T σ := R_ret (by decide +kernel) (by decide +kernel)
theorem s70_0 : Rn 70 0 L st T σ K ↔ Rn 70 1 L (vI (-1) :: st) T σ K := R_iconst (n := -1) (by decide +kernel) (by decide)
theorem s70_1 : Rn 70 1 [l0, l1, l2, l3, l4, l5] (vI a :: st) T σ K ↔ Rn 70 2 [l0, l1, some (vI a), l3, l4, l5] st T σ K := R_istore_n (n := 2) (by decide +kernel) rfl
theorem s70_2 : Rn 70 2 L st T σ K ↔ Rn 70 3 L (vI 0 :: st) T σ K := R_iconst (n := 0) (by decide +kernel) (by decide)
theorem s70_3 : Rn 70 3 [l0, l1, l2, l3, l4, l5] (vI a :: st) T σ K ↔ Rn 70 4 [l0, l1, l2, some (vI a), l4, l5] st T σ K := R_istore_n (n := 3) (by decide +kernel) rfl
theorem s70_4 : Rn 70 4 [l0, l1, l2, some (vI a), l4, l5] st T σ K ↔ Rn 70 5 [l0, l1, l2, some (vI a), l4, l5] (vI a :: st) T σ K := R_iload_n (n := 3) (by decide +kernel) rfl
theorem s70_5 : Rn 70 5 L st T σ K ↔ Rn 70 7 L (vI 40 :: st) T σ K := R_bipush (n := 40) (by decide +kernel) (by decide +kernel)
theorem s70_7 : Rn 70 7 L (vI b :: vI a :: st) T σ K ↔ (b ≤ a → Rn 70 90 L st T σ K) ∧ (a < b → Rn 70 10 L st T σ K) := R_icmp_ge (off := 83) (by decide +kernel) (by decide)
theorem s70_10 : Rn 70 10 [l0, l1, l2, some (vI a), l4, l5] st T σ K ↔ Rn 70 11 [l0, l1, l2, some (vI a), l4, l5] (vI a :: st) T σ K := R_iload_n (n := 3) (by decide +kernel) rfl
theorem s70_11 : Rn 70 11 L st T σ K ↔ Rn 70 12 L (vI 1 :: st) T σ K := R_iconst (n := 1) (by decide +kernel) (by decide)
theorem s70_12 : Rn 70 12 L (vI b :: vI a :: st) T σ K ↔ inI (a + b) ∧ Rn 70 13 L (vI (a + b) :: st) T σ K := R_iadd (by decide +kernel)
theorem s70_13 : Rn 70 13 [l0, l1, l2, l3, l4, l5] (vI a :: st) T σ K ↔ Rn 70 15 [l0, l1, l2, l3, some (vI a), l5] st T σ K := R_istore (n := 4) (by decide +kernel) rfl
theorem s70_15 : Rn 70 15 [l0, l1, l2, l3, some (vI a), l5] st T σ K ↔ Rn 70 17 [l0, l1, l2, l3, some (vI a), l5] (vI a :: st) T σ K := R_iload (n := 4) (by decide +kernel) rfl
theorem s70_17 : Rn 70 17 L st T σ K ↔ Rn 70 19 L (vI 40 :: st) T σ K := R_bipush (n := 40) (by decide +kernel) (by decide +kernel)
theorem s70_19 : Rn 70 19 L (vI b :: vI a :: st) T σ K ↔ (b ≤ a → Rn 70 84 L st T σ K) ∧ (a < b → Rn 70 22 L st T σ K) := R_icmp_ge (off := 65) (by decide +kernel) (by decide)
theorem s70_22 : Rn 70 22 [some (vR o), l1, l2, l3, l4, l5] st T σ K ↔ Rn 70 23 [some (vR o), l1, l2, l3, l4, l5] (vR o :: st) T σ K := R_aload_n (n := 0) (by decide +kernel) rfl
theorem s70_23 : Rn 70 23 L (vR o :: st) T σ K ↔ sx_kd T o = 7 ∧ ∃ t, sx_rf T o 0 = some t ∧ Rn 70 26 L (vR t :: st) T σ K := R_getR (idx := 34) (ci := 7) (k := 0) (by decide +kernel) (by decide +kernel) rfl
theorem s70_26 : Rn 70 26 L (vR o :: st) T σ K ↔ sx_kd T o = 2 ∧ ∃ t, sx_rf T o 1 = some t ∧ Rn 70 29 L (vR t :: st) T σ K := R_getR (idx := 38) (ci := 2) (k := 1) (by decide +kernel) (by decide +kernel) rfl
theorem s70_29 : Rn 70 29 [l0, l1, l2, some (vI a), l4, l5] st T σ K ↔ Rn 70 30 [l0, l1, l2, some (vI a), l4, l5] (vI a :: st) T σ K := R_iload_n (n := 3) (by decide +kernel) rfl
theorem s70_30 : Rn 70 30 L (vI a :: vR o :: st) T σ K ↔ (sx_kd T o = 20 ∧ 0 ≤ a ∧ a < sx_ln T o) ∧ Rn 70 31 L (vI (σ o a) :: st) T σ K := R_iald (by decide +kernel) (by decide)
theorem s70_31 : Rn 70 31 [l0, some (vI a), l2, l3, l4, l5] st T σ K ↔ Rn 70 32 [l0, some (vI a), l2, l3, l4, l5] (vI a :: st) T σ K := R_iload_n (n := 1) (by decide +kernel) rfl
theorem s70_32 : Rn 70 32 L (vI b :: vI a :: st) T σ K ↔ (a < b → Rn 70 78 L st T σ K) ∧ (b ≤ a → Rn 70 35 L st T σ K) := R_icmp_lt (off := 46) (by decide +kernel) (by decide)
theorem s70_35 : Rn 70 35 [some (vR o), l1, l2, l3, l4, l5] st T σ K ↔ Rn 70 36 [some (vR o), l1, l2, l3, l4, l5] (vR o :: st) T σ K := R_aload_n (n := 0) (by decide +kernel) rfl
theorem s70_36 : Rn 70 36 L (vR o :: st) T σ K ↔ sx_kd T o = 7 ∧ ∃ t, sx_rf T o 0 = some t ∧ Rn 70 39 L (vR t :: st) T σ K := R_getR (idx := 34) (ci := 7) (k := 0) (by decide +kernel) (by decide +kernel) rfl
theorem s70_39 : Rn 70 39 L (vR o :: st) T σ K ↔ sx_kd T o = 2 ∧ ∃ t, sx_rf T o 1 = some t ∧ Rn 70 42 L (vR t :: st) T σ K := R_getR (idx := 38) (ci := 2) (k := 1) (by decide +kernel) (by decide +kernel) rfl
theorem s70_42 : Rn 70 42 [l0, l1, l2, l3, some (vI a), l5] st T σ K ↔ Rn 70 44 [l0, l1, l2, l3, some (vI a), l5] (vI a :: st) T σ K := R_iload (n := 4) (by decide +kernel) rfl
theorem s70_44 : Rn 70 44 L (vI a :: vR o :: st) T σ K ↔ (sx_kd T o = 20 ∧ 0 ≤ a ∧ a < sx_ln T o) ∧ Rn 70 45 L (vI (σ o a) :: st) T σ K := R_iald (by decide +kernel) (by decide)
theorem s70_45 : Rn 70 45 [l0, some (vI a), l2, l3, l4, l5] st T σ K ↔ Rn 70 46 [l0, some (vI a), l2, l3, l4, l5] (vI a :: st) T σ K := R_iload_n (n := 1) (by decide +kernel) rfl
theorem s70_46 : Rn 70 46 L (vI b :: vI a :: st) T σ K ↔ (a < b → Rn 70 78 L st T σ K) ∧ (b ≤ a → Rn 70 49 L st T σ K) := R_icmp_lt (off := 32) (by decide +kernel) (by decide)
theorem s70_49 : Rn 70 49 [some (vR o), l1, l2, l3, l4, l5] st T σ K ↔ Rn 70 50 [some (vR o), l1, l2, l3, l4, l5] (vR o :: st) T σ K := R_aload_n (n := 0) (by decide +kernel) rfl
theorem s70_50 : Rn 70 50 L (vR o :: st) T σ K ↔ sx_kd T o = 7 ∧ ∃ t, sx_rf T o 0 = some t ∧ Rn 70 53 L (vR t :: st) T σ K := R_getR (idx := 34) (ci := 7) (k := 0) (by decide +kernel) (by decide +kernel) rfl
theorem s70_53 : Rn 70 53 [l0, l1, l2, some (vI a), l4, l5] st T σ K ↔ Rn 70 54 [l0, l1, l2, some (vI a), l4, l5] (vI a :: st) T σ K := R_iload_n (n := 3) (by decide +kernel) rfl
theorem s70_54 : Rn 70 54 [l0, l1, l2, l3, some (vI a), l5] st T σ K ↔ Rn 70 56 [l0, l1, l2, l3, some (vI a), l5] (vI a :: st) T σ K := R_iload (n := 4) (by decide +kernel) rfl
theorem s70_56 : Rn 70 56 L (vI b :: vI a :: vR o :: st) T σ K ↔ (sx_kd T o = 2 ∧ st.length ≤ 4) ∧ Rn 62 0 [some (vR o), some (vI a), some (vI b)] [] T σ (fun r T' σ' => Rn 70 59 L (sx_push r st) T' σ' K) := R_V (cm := 62) (n := 2) (idx := 43) (ci := 2) (mx := 3) (vs := [vI a, vI b]) (by decide +kernel) (by decide +kernel) rfl (by decide +kernel) rfl (by decide +kernel) (by decide +kernel)
theorem s70_59 : Rn 70 59 [l0, l1, l2, l3, l4, l5] (vI a :: st) T σ K ↔ Rn 70 61 [l0, l1, l2, l3, l4, some (vI a)] st T σ K := R_istore (n := 5) (by decide +kernel) rfl
theorem s70_61 : Rn 70 61 [l0, l1, some (vI a), l3, l4, l5] st T σ K ↔ Rn 70 62 [l0, l1, some (vI a), l3, l4, l5] (vI a :: st) T σ K := R_iload_n (n := 2) (by decide +kernel) rfl
theorem s70_62 : Rn 70 62 L st T σ K ↔ Rn 70 63 L (vI (-1) :: st) T σ K := R_iconst (n := -1) (by decide +kernel) (by decide)
theorem s70_63 : Rn 70 63 L (vI b :: vI a :: st) T σ K ↔ (a ≠ b → Rn 70 71 L st T σ K) ∧ (a = b → Rn 70 66 L st T σ K) := R_icmp_ne (off := 8) (by decide +kernel) (by decide)
theorem s70_66 : Rn 70 66 [l0, l1, l2, l3, l4, some (vI a)] st T σ K ↔ Rn 70 68 [l0, l1, l2, l3, l4, some (vI a)] (vI a :: st) T σ K := R_iload (n := 5) (by decide +kernel) rfl
theorem s70_68 : Rn 70 68 L st T σ K ↔ Rn 70 77 L st T σ K := R_goto (off := 9) (by decide +kernel) (by decide)
theorem s70_71 : Rn 70 71 [l0, l1, some (vI a), l3, l4, l5] st T σ K ↔ Rn 70 72 [l0, l1, some (vI a), l3, l4, l5] (vI a :: st) T σ K := R_iload_n (n := 2) (by decide +kernel) rfl
theorem s70_72 : Rn 70 72 [l0, l1, l2, l3, l4, some (vI a)] st T σ K ↔ Rn 70 74 [l0, l1, l2, l3, l4, some (vI a)] (vI a :: st) T σ K := R_iload (n := 5) (by decide +kernel) rfl
theorem s70_74 : Rn 70 74 L (vI b :: vI a :: st) T σ K ↔ st.length ≤ 4 ∧ Rn 70 77 L (vI (min a b) :: st) T σ K := R_min (idx := 47) (by decide +kernel) (by decide +kernel) (by decide +kernel) (by decide +kernel)
theorem s70_77 : Rn 70 77 [l0, l1, l2, l3, l4, l5] (vI a :: st) T σ K ↔ Rn 70 78 [l0, l1, some (vI a), l3, l4, l5] st T σ K := R_istore_n (n := 2) (by decide +kernel) rfl
theorem s70_78 : Rn 70 78 [l0, l1, l2, l3, some (vI a), l5] st T σ K ↔ inI (a + 1) ∧ Rn 70 81 [l0, l1, l2, l3, some (vI (a + 1)), l5] st T σ K := R_iinc (n := 4) (d := 1) (by decide +kernel) rfl
theorem s70_81 : Rn 70 81 L st T σ K ↔ Rn 70 15 L st T σ K := R_goto (off := -66) (by decide +kernel) (by decide)
theorem s70_84 : Rn 70 84 [l0, l1, l2, some (vI a), l4, l5] st T σ K ↔ inI (a + 1) ∧ Rn 70 87 [l0, l1, l2, some (vI (a + 1)), l4, l5] st T σ K := R_iinc (n := 3) (d := 1) (by decide +kernel) rfl
theorem s70_87 : Rn 70 87 L st T σ K ↔ Rn 70 4 L st T σ K := R_goto (off := -83) (by decide +kernel) (by decide)
theorem s70_90 : Rn 70 90 [l0, l1, some (vI a), l3, l4, l5] st T σ K ↔ Rn 70 91 [l0, l1, some (vI a), l3, l4, l5] (vI a :: st) T σ K := R_iload_n (n := 2) (by decide +kernel) rfl
theorem s70_91 : Rn 70 91 L [vI a] T σ K ↔ K (some (vI a)) T σ := R_ret (by decide +kernel) (by decide +kernel)
theorem s71_0 : Rn 71 0 L st T σ K ↔ Rn 71 1 L (vI (-1) :: st) T σ K := R_iconst (n := -1) (by decide +kernel) (by decide)
theorem s71_1 : Rn 71 1 [l0, l1, l2, l3, l4] (vI a :: st) T σ K ↔ Rn 71 2 [l0, l1, some (vI a), l3, l4] st T σ K := R_istore_n (n := 2) (by decide +kernel) rfl
theorem s71_2 : Rn 71 2 L st T σ K ↔ Rn 71 3 L (vI 0 :: st) T σ K := R_iconst (n := 0) (by decide +kernel) (by decide)
theorem s71_3 : Rn 71 3 [l0, l1, l2, l3, l4] (vI a :: st) T σ K ↔ Rn 71 4 [l0, l1, l2, some (vI a), l4] st T σ K := R_istore_n (n := 3) (by decide +kernel) rfl
theorem s71_4 : Rn 71 4 [l0, l1, l2, some (vI a), l4] st T σ K ↔ Rn 71 5 [l0, l1, l2, some (vI a), l4] (vI a :: st) T σ K := R_iload_n (n := 3) (by decide +kernel) rfl
theorem s71_5 : Rn 71 5 L st T σ K ↔ Rn 71 7 L (vI 40 :: st) T σ K := R_bipush (n := 40) (by decide +kernel) (by decide +kernel)
theorem s71_7 : Rn 71 7 L (vI b :: vI a :: st) T σ K ↔ (b ≤ a → Rn 71 65 L st T σ K) ∧ (a < b → Rn 71 10 L st T σ K) := R_icmp_ge (off := 58) (by decide +kernel) (by decide)
theorem s71_10 : Rn 71 10 [some (vR o), l1, l2, l3, l4] st T σ K ↔ Rn 71 11 [some (vR o), l1, l2, l3, l4] (vR o :: st) T σ K := R_aload_n (n := 0) (by decide +kernel) rfl
theorem s71_11 : Rn 71 11 L (vR o :: st) T σ K ↔ sx_kd T o = 7 ∧ ∃ t, sx_rf T o 0 = some t ∧ Rn 71 14 L (vR t :: st) T σ K := R_getR (idx := 34) (ci := 7) (k := 0) (by decide +kernel) (by decide +kernel) rfl
theorem s71_14 : Rn 71 14 [l0, l1, l2, some (vI a), l4] st T σ K ↔ Rn 71 15 [l0, l1, l2, some (vI a), l4] (vI a :: st) T σ K := R_iload_n (n := 3) (by decide +kernel) rfl
theorem s71_15 : Rn 71 15 L (vI a :: vR o :: st) T σ K ↔ (sx_kd T o = 2 ∧ st.length ≤ 4) ∧ Rn 49 0 [some (vR o), some (vI a)] [] T σ (fun r T' σ' => Rn 71 18 L (sx_push r st) T' σ' K) := R_V (cm := 49) (n := 1) (idx := 52) (ci := 2) (mx := 2) (vs := [vI a]) (by decide +kernel) (by decide +kernel) rfl (by decide +kernel) rfl (by decide +kernel) (by decide +kernel)
theorem s71_18 : Rn 71 18 L (vI a :: st) T σ K ↔ (a = 0 → Rn 71 59 L st T σ K) ∧ (a ≠ 0 → Rn 71 21 L st T σ K) := R_if_eq (off := 41) (by decide +kernel) (by decide)
theorem s71_21 : Rn 71 21 [some (vR o), l1, l2, l3, l4] st T σ K ↔ Rn 71 22 [some (vR o), l1, l2, l3, l4] (vR o :: st) T σ K := R_aload_n (n := 0) (by decide +kernel) rfl
theorem s71_22 : Rn 71 22 L (vR o :: st) T σ K ↔ sx_kd T o = 7 ∧ ∃ t, sx_rf T o 0 = some t ∧ Rn 71 25 L (vR t :: st) T σ K := R_getR (idx := 34) (ci := 7) (k := 0) (by decide +kernel) (by decide +kernel) rfl
theorem s71_25 : Rn 71 25 [l0, l1, l2, some (vI a), l4] st T σ K ↔ Rn 71 26 [l0, l1, l2, some (vI a), l4] (vI a :: st) T σ K := R_iload_n (n := 3) (by decide +kernel) rfl
theorem s71_26 : Rn 71 26 [l0, some (vI a), l2, l3, l4] st T σ K ↔ Rn 71 27 [l0, some (vI a), l2, l3, l4] (vI a :: st) T σ K := R_iload_n (n := 1) (by decide +kernel) rfl
theorem s71_27 : Rn 71 27 L (vI b :: vI a :: vR o :: st) T σ K ↔ (sx_kd T o = 2 ∧ st.length ≤ 4) ∧ Rn 68 0 [some (vR o), some (vI a), some (vI b), none, none] [] T σ (fun r T' σ' => Rn 71 30 L (sx_push r st) T' σ' K) := R_V (cm := 68) (n := 2) (idx := 56) (ci := 2) (mx := 5) (vs := [vI a, vI b]) (by decide +kernel) (by decide +kernel) rfl (by decide +kernel) rfl (by decide +kernel) (by decide +kernel)
theorem s71_30 : Rn 71 30 [l0, l1, l2, l3, l4] (vI a :: st) T σ K ↔ Rn 71 32 [l0, l1, l2, l3, some (vI a)] st T σ K := R_istore (n := 4) (by decide +kernel) rfl
theorem s71_32 : Rn 71 32 [some (vR o), l1, l2, l3, l4] st T σ K ↔ Rn 71 33 [some (vR o), l1, l2, l3, l4] (vR o :: st) T σ K := R_aload_n (n := 0) (by decide +kernel) rfl
theorem s71_33 : Rn 71 33 L (vR o :: st) T σ K ↔ sx_kd T o = 7 ∧ ∃ t, sx_rf T o 0 = some t ∧ Rn 71 36 L (vR t :: st) T σ K := R_getR (idx := 34) (ci := 7) (k := 0) (by decide +kernel) (by decide +kernel) rfl
theorem s71_36 : Rn 71 36 [l0, l1, l2, l3, some (vI a)] st T σ K ↔ Rn 71 38 [l0, l1, l2, l3, some (vI a)] (vI a :: st) T σ K := R_iload (n := 4) (by decide +kernel) rfl
theorem s71_38 : Rn 71 38 L (vI a :: vR o :: st) T σ K ↔ (sx_kd T o = 2 ∧ st.length ≤ 4) ∧ Rn 49 0 [some (vR o), some (vI a)] [] T σ (fun r T' σ' => Rn 71 41 L (sx_push r st) T' σ' K) := R_V (cm := 49) (n := 1) (idx := 52) (ci := 2) (mx := 2) (vs := [vI a]) (by decide +kernel) (by decide +kernel) rfl (by decide +kernel) rfl (by decide +kernel) (by decide +kernel)
theorem s71_41 : Rn 71 41 L (vI a :: st) T σ K ↔ (a = 0 → Rn 71 59 L st T σ K) ∧ (a ≠ 0 → Rn 71 44 L st T σ K) := R_if_eq (off := 18) (by decide +kernel) (by decide)
theorem s71_44 : Rn 71 44 [l0, l1, some (vI a), l3, l4] st T σ K ↔ Rn 71 45 [l0, l1, some (vI a), l3, l4] (vI a :: st) T σ K := R_iload_n (n := 2) (by decide +kernel) rfl
theorem s71_45 : Rn 71 45 [some (vR o), l1, l2, l3, l4] st T σ K ↔ Rn 71 46 [some (vR o), l1, l2, l3, l4] (vR o :: st) T σ K := R_aload_n (n := 0) (by decide +kernel) rfl
theorem s71_46 : Rn 71 46 L (vR o :: st) T σ K ↔ sx_kd T o = 7 ∧ ∃ t, sx_rf T o 0 = some t ∧ Rn 71 49 L (vR t :: st) T σ K := R_getR (idx := 34) (ci := 7) (k := 0) (by decide +kernel) (by decide +kernel) rfl
theorem s71_49 : Rn 71 49 [l0, l1, l2, some (vI a), l4] st T σ K ↔ Rn 71 50 [l0, l1, l2, some (vI a), l4] (vI a :: st) T σ K := R_iload_n (n := 3) (by decide +kernel) rfl
theorem s71_50 : Rn 71 50 [l0, l1, l2, l3, some (vI a)] st T σ K ↔ Rn 71 52 [l0, l1, l2, l3, some (vI a)] (vI a :: st) T σ K := R_iload (n := 4) (by decide +kernel) rfl
theorem s71_52 : Rn 71 52 L (vI b :: vI a :: vR o :: st) T σ K ↔ (sx_kd T o = 2 ∧ st.length ≤ 4) ∧ Rn 62 0 [some (vR o), some (vI a), some (vI b)] [] T σ (fun r T' σ' => Rn 71 55 L (sx_push r st) T' σ' K) := R_V (cm := 62) (n := 2) (idx := 43) (ci := 2) (mx := 3) (vs := [vI a, vI b]) (by decide +kernel) (by decide +kernel) rfl (by decide +kernel) rfl (by decide +kernel) (by decide +kernel)
theorem s71_55 : Rn 71 55 L (vI b :: vI a :: st) T σ K ↔ st.length ≤ 4 ∧ Rn 71 58 L (vI (max a b) :: st) T σ K := R_max (idx := 59) (by decide +kernel) (by decide +kernel) (by decide +kernel) (by decide +kernel)
theorem s71_58 : Rn 71 58 [l0, l1, l2, l3, l4] (vI a :: st) T σ K ↔ Rn 71 59 [l0, l1, some (vI a), l3, l4] st T σ K := R_istore_n (n := 2) (by decide +kernel) rfl
theorem s71_59 : Rn 71 59 [l0, l1, l2, some (vI a), l4] st T σ K ↔ inI (a + 1) ∧ Rn 71 62 [l0, l1, l2, some (vI (a + 1)), l4] st T σ K := R_iinc (n := 3) (d := 1) (by decide +kernel) rfl
theorem s71_62 : Rn 71 62 L st T σ K ↔ Rn 71 4 L st T σ K := R_goto (off := -58) (by decide +kernel) (by decide)
theorem s71_65 : Rn 71 65 [l0, l1, some (vI a), l3, l4] st T σ K ↔ Rn 71 66 [l0, l1, some (vI a), l3, l4] (vI a :: st) T σ K := R_iload_n (n := 2) (by decide +kernel) rfl
theorem s71_66 : Rn 71 66 L [vI a] T σ K ↔ K (some (vI a)) T σ := R_ret (by decide +kernel) (by decide +kernel)
theorem s72_0 : Rn 72 0 L st T σ K ↔ Rn 72 1 L (vI (-1) :: st) T σ K := R_iconst (n := -1) (by decide +kernel) (by decide)
theorem s72_1 : Rn 72 1 [l0, l1, l2, l3] (vI a :: st) T σ K ↔ Rn 72 2 [l0, l1, some (vI a), l3] st T σ K := R_istore_n (n := 2) (by decide +kernel) rfl
theorem s72_2 : Rn 72 2 L st T σ K ↔ Rn 72 3 L (vI 0 :: st) T σ K := R_iconst (n := 0) (by decide +kernel) (by decide)
theorem s72_3 : Rn 72 3 [l0, l1, l2, l3] (vI a :: st) T σ K ↔ Rn 72 4 [l0, l1, l2, some (vI a)] st T σ K := R_istore_n (n := 3) (by decide +kernel) rfl
theorem s72_4 : Rn 72 4 [l0, l1, l2, some (vI a)] st T σ K ↔ Rn 72 5 [l0, l1, l2, some (vI a)] (vI a :: st) T σ K := R_iload_n (n := 3) (by decide +kernel) rfl
theorem s72_5 : Rn 72 5 L st T σ K ↔ Rn 72 7 L (vI 40 :: st) T σ K := R_bipush (n := 40) (by decide +kernel) (by decide +kernel)
theorem s72_7 : Rn 72 7 L (vI b :: vI a :: st) T σ K ↔ (b ≤ a → Rn 72 51 L st T σ K) ∧ (a < b → Rn 72 10 L st T σ K) := R_icmp_ge (off := 44) (by decide +kernel) (by decide)
theorem s72_10 : Rn 72 10 [some (vR o), l1, l2, l3] st T σ K ↔ Rn 72 11 [some (vR o), l1, l2, l3] (vR o :: st) T σ K := R_aload_n (n := 0) (by decide +kernel) rfl
theorem s72_11 : Rn 72 11 L (vR o :: st) T σ K ↔ sx_kd T o = 7 ∧ ∃ t, sx_rf T o 0 = some t ∧ Rn 72 14 L (vR t :: st) T σ K := R_getR (idx := 34) (ci := 7) (k := 0) (by decide +kernel) (by decide +kernel) rfl
theorem s72_14 : Rn 72 14 L (vR o :: st) T σ K ↔ sx_kd T o = 2 ∧ ∃ t, sx_rf T o 1 = some t ∧ Rn 72 17 L (vR t :: st) T σ K := R_getR (idx := 38) (ci := 2) (k := 1) (by decide +kernel) (by decide +kernel) rfl
theorem s72_17 : Rn 72 17 [l0, l1, l2, some (vI a)] st T σ K ↔ Rn 72 18 [l0, l1, l2, some (vI a)] (vI a :: st) T σ K := R_iload_n (n := 3) (by decide +kernel) rfl
theorem s72_18 : Rn 72 18 L (vI a :: vR o :: st) T σ K ↔ (sx_kd T o = 20 ∧ 0 ≤ a ∧ a < sx_ln T o) ∧ Rn 72 19 L (vI (σ o a) :: st) T σ K := R_iald (by decide +kernel) (by decide)
theorem s72_19 : Rn 72 19 [l0, some (vI a), l2, l3] st T σ K ↔ Rn 72 20 [l0, some (vI a), l2, l3] (vI a :: st) T σ K := R_iload_n (n := 1) (by decide +kernel) rfl
theorem s72_20 : Rn 72 20 L (vI b :: vI a :: st) T σ K ↔ (a < b → Rn 72 45 L st T σ K) ∧ (b ≤ a → Rn 72 23 L st T σ K) := R_icmp_lt (off := 25) (by decide +kernel) (by decide)
theorem s72_23 : Rn 72 23 [l0, l1, some (vI a), l3] st T σ K ↔ Rn 72 24 [l0, l1, some (vI a), l3] (vI a :: st) T σ K := R_iload_n (n := 2) (by decide +kernel) rfl
theorem s72_24 : Rn 72 24 [some (vR o), l1, l2, l3] st T σ K ↔ Rn 72 25 [some (vR o), l1, l2, l3] (vR o :: st) T σ K := R_aload_n (n := 0) (by decide +kernel) rfl
theorem s72_25 : Rn 72 25 [l0, l1, l2, some (vI a)] st T σ K ↔ Rn 72 26 [l0, l1, l2, some (vI a)] (vI a :: st) T σ K := R_iload_n (n := 3) (by decide +kernel) rfl
theorem s72_26 : Rn 72 26 L st T σ K ↔ Rn 72 27 L (vI 0 :: st) T σ K := R_iconst (n := 0) (by decide +kernel) (by decide)
theorem s72_27 : Rn 72 27 [l0, some (vI a), l2, l3] st T σ K ↔ Rn 72 28 [l0, some (vI a), l2, l3] (vI a :: st) T σ K := R_iload_n (n := 1) (by decide +kernel) rfl
theorem s72_28 : Rn 72 28 L st T σ K ↔ Rn 72 29 L (vI 1 :: st) T σ K := R_iconst (n := 1) (by decide +kernel) (by decide)
theorem s72_29 : Rn 72 29 L (vI b :: vI a :: st) T σ K ↔ inI (a - b) ∧ Rn 72 30 L (vI (a - b) :: st) T σ K := R_isub (by decide +kernel)
theorem s72_30 : Rn 72 30 L (vI b :: vI a :: st) T σ K ↔ st.length ≤ 4 ∧ Rn 72 33 L (vI (max a b) :: st) T σ K := R_max (idx := 59) (by decide +kernel) (by decide +kernel) (by decide +kernel) (by decide +kernel)
theorem s72_33 : Rn 72 33 L st T σ K ↔ Rn 72 34 L (vI 1 :: st) T σ K := R_iconst (n := 1) (by decide +kernel) (by decide)
theorem s72_34 : Rn 72 34 [l0, some (vI a), l2, l3] st T σ K ↔ Rn 72 35 [l0, some (vI a), l2, l3] (vI a :: st) T σ K := R_iload_n (n := 1) (by decide +kernel) rfl
theorem s72_35 : Rn 72 35 L st T σ K ↔ Rn 72 36 L (vI 1 :: st) T σ K := R_iconst (n := 1) (by decide +kernel) (by decide)
theorem s72_36 : Rn 72 36 L (vI b :: vI a :: st) T σ K ↔ inI (a + b) ∧ Rn 72 37 L (vI (a + b) :: st) T σ K := R_iadd (by decide +kernel)
theorem s72_37 : Rn 72 37 L (vI b :: vI a :: st) T σ K ↔ (0 ≤ b ∧ b ≤ 31) ∧ inI (a * 2 ^ b.toNat) ∧ Rn 72 38 L (vI (a * 2 ^ b.toNat) :: st) T σ K := R_ishl (by decide +kernel)
theorem s72_38 : Rn 72 38 L (vI c :: vI b :: vI a :: vR o :: st) T σ K ↔ (sx_kd T o = 7 ∧ st.length ≤ 4) ∧ Rn 73 0 [some (vR o), some (vI a), some (vI b), some (vI c), none, none] [] T σ (fun r T' σ' => Rn 72 41 L (sx_push r st) T' σ' K) := R_V (cm := 73) (n := 3) (idx := 62) (ci := 7) (mx := 6) (vs := [vI a, vI b, vI c]) (by decide +kernel) (by decide +kernel) rfl (by decide +kernel) rfl (by decide +kernel) (by decide +kernel)
theorem s72_41 : Rn 72 41 L (vI b :: vI a :: st) T σ K ↔ st.length ≤ 4 ∧ Rn 72 44 L (vI (max a b) :: st) T σ K := R_max (idx := 59) (by decide +kernel) (by decide +kernel) (by decide +kernel) (by decide +kernel)
theorem s72_44 : Rn 72 44 [l0, l1, l2, l3] (vI a :: st) T σ K ↔ Rn 72 45 [l0, l1, some (vI a), l3] st T σ K := R_istore_n (n := 2) (by decide +kernel) rfl
theorem s72_45 : Rn 72 45 [l0, l1, l2, some (vI a)] st T σ K ↔ inI (a + 1) ∧ Rn 72 48 [l0, l1, l2, some (vI (a + 1))] st T σ K := R_iinc (n := 3) (d := 1) (by decide +kernel) rfl
theorem s72_48 : Rn 72 48 L st T σ K ↔ Rn 72 4 L st T σ K := R_goto (off := -44) (by decide +kernel) (by decide)
theorem s72_51 : Rn 72 51 [l0, l1, some (vI a), l3] st T σ K ↔ Rn 72 52 [l0, l1, some (vI a), l3] (vI a :: st) T σ K := R_iload_n (n := 2) (by decide +kernel) rfl
theorem s72_52 : Rn 72 52 L [vI a] T σ K ↔ K (some (vI a)) T σ := R_ret (by decide +kernel) (by decide +kernel)
theorem s73_0 : Rn 73 0 L st T σ K ↔ Rn 73 1 L (vI 0 :: st) T σ K := R_iconst (n := 0) (by decide +kernel) (by decide)
theorem s73_1 : Rn 73 1 [l0, l1, l2, l3, l4, l5] (vI a :: st) T σ K ↔ Rn 73 3 [l0, l1, l2, l3, some (vI a), l5] st T σ K := R_istore (n := 4) (by decide +kernel) rfl
theorem s73_3 : Rn 73 3 L st T σ K ↔ Rn 73 4 L (vI 0 :: st) T σ K := R_iconst (n := 0) (by decide +kernel) (by decide)
theorem s73_4 : Rn 73 4 [l0, l1, l2, l3, l4, l5] (vI a :: st) T σ K ↔ Rn 73 6 [l0, l1, l2, l3, l4, some (vI a)] st T σ K := R_istore (n := 5) (by decide +kernel) rfl
theorem s73_6 : Rn 73 6 [l0, l1, l2, l3, l4, some (vI a)] st T σ K ↔ Rn 73 8 [l0, l1, l2, l3, l4, some (vI a)] (vI a :: st) T σ K := R_iload (n := 5) (by decide +kernel) rfl
theorem s73_8 : Rn 73 8 L st T σ K ↔ Rn 73 10 L (vI 40 :: st) T σ K := R_bipush (n := 40) (by decide +kernel) (by decide +kernel)
theorem s73_10 : Rn 73 10 L (vI b :: vI a :: st) T σ K ↔ (b ≤ a → Rn 73 50 L st T σ K) ∧ (a < b → Rn 73 13 L st T σ K) := R_icmp_ge (off := 40) (by decide +kernel) (by decide)
theorem s73_13 : Rn 73 13 [some (vR o), l1, l2, l3, l4, l5] st T σ K ↔ Rn 73 14 [some (vR o), l1, l2, l3, l4, l5] (vR o :: st) T σ K := R_aload_n (n := 0) (by decide +kernel) rfl
theorem s73_14 : Rn 73 14 L (vR o :: st) T σ K ↔ sx_kd T o = 7 ∧ ∃ t, sx_rf T o 0 = some t ∧ Rn 73 17 L (vR t :: st) T σ K := R_getR (idx := 34) (ci := 7) (k := 0) (by decide +kernel) (by decide +kernel) rfl
theorem s73_17 : Rn 73 17 L (vR o :: st) T σ K ↔ sx_kd T o = 2 ∧ ∃ t, sx_rf T o 1 = some t ∧ Rn 73 20 L (vR t :: st) T σ K := R_getR (idx := 38) (ci := 2) (k := 1) (by decide +kernel) (by decide +kernel) rfl
theorem s73_20 : Rn 73 20 [l0, l1, l2, l3, l4, some (vI a)] st T σ K ↔ Rn 73 22 [l0, l1, l2, l3, l4, some (vI a)] (vI a :: st) T σ K := R_iload (n := 5) (by decide +kernel) rfl
theorem s73_22 : Rn 73 22 L (vI a :: vR o :: st) T σ K ↔ (sx_kd T o = 20 ∧ 0 ≤ a ∧ a < sx_ln T o) ∧ Rn 73 23 L (vI (σ o a) :: st) T σ K := R_iald (by decide +kernel) (by decide)
theorem s73_23 : Rn 73 23 [l0, l1, some (vI a), l3, l4, l5] st T σ K ↔ Rn 73 24 [l0, l1, some (vI a), l3, l4, l5] (vI a :: st) T σ K := R_iload_n (n := 2) (by decide +kernel) rfl
theorem s73_24 : Rn 73 24 L (vI b :: vI a :: st) T σ K ↔ (a < b → Rn 73 44 L st T σ K) ∧ (b ≤ a → Rn 73 27 L st T σ K) := R_icmp_lt (off := 20) (by decide +kernel) (by decide)
theorem s73_27 : Rn 73 27 [some (vR o), l1, l2, l3, l4, l5] st T σ K ↔ Rn 73 28 [some (vR o), l1, l2, l3, l4, l5] (vR o :: st) T σ K := R_aload_n (n := 0) (by decide +kernel) rfl
theorem s73_28 : Rn 73 28 L (vR o :: st) T σ K ↔ sx_kd T o = 7 ∧ ∃ t, sx_rf T o 0 = some t ∧ Rn 73 31 L (vR t :: st) T σ K := R_getR (idx := 34) (ci := 7) (k := 0) (by decide +kernel) (by decide +kernel) rfl
theorem s73_31 : Rn 73 31 [l0, some (vI a), l2, l3, l4, l5] st T σ K ↔ Rn 73 32 [l0, some (vI a), l2, l3, l4, l5] (vI a :: st) T σ K := R_iload_n (n := 1) (by decide +kernel) rfl
theorem s73_32 : Rn 73 32 [l0, l1, l2, l3, l4, some (vI a)] st T σ K ↔ Rn 73 34 [l0, l1, l2, l3, l4, some (vI a)] (vI a :: st) T σ K := R_iload (n := 5) (by decide +kernel) rfl
theorem s73_34 : Rn 73 34 L (vI b :: vI a :: vR o :: st) T σ K ↔ (sx_kd T o = 2 ∧ st.length ≤ 4) ∧ Rn 62 0 [some (vR o), some (vI a), some (vI b)] [] T σ (fun r T' σ' => Rn 73 37 L (sx_push r st) T' σ' K) := R_V (cm := 62) (n := 2) (idx := 43) (ci := 2) (mx := 3) (vs := [vI a, vI b]) (by decide +kernel) (by decide +kernel) rfl (by decide +kernel) rfl (by decide +kernel) (by decide +kernel)
theorem s73_37 : Rn 73 37 [l0, l1, l2, some (vI a), l4, l5] st T σ K ↔ Rn 73 38 [l0, l1, l2, some (vI a), l4, l5] (vI a :: st) T σ K := R_iload_n (n := 3) (by decide +kernel) rfl
theorem s73_38 : Rn 73 38 L (vI b :: vI a :: st) T σ K ↔ (b ≤ a → Rn 73 44 L st T σ K) ∧ (a < b → Rn 73 41 L st T σ K) := R_icmp_ge (off := 6) (by decide +kernel) (by decide)
theorem s73_41 : Rn 73 41 [l0, l1, l2, l3, some (vI a), l5] st T σ K ↔ inI (a + 1) ∧ Rn 73 44 [l0, l1, l2, l3, some (vI (a + 1)), l5] st T σ K := R_iinc (n := 4) (d := 1) (by decide +kernel) rfl
theorem s73_44 : Rn 73 44 [l0, l1, l2, l3, l4, some (vI a)] st T σ K ↔ inI (a + 1) ∧ Rn 73 47 [l0, l1, l2, l3, l4, some (vI (a + 1))] st T σ K := R_iinc (n := 5) (d := 1) (by decide +kernel) rfl
theorem s73_47 : Rn 73 47 L st T σ K ↔ Rn 73 6 L st T σ K := R_goto (off := -41) (by decide +kernel) (by decide)
theorem s73_50 : Rn 73 50 [l0, l1, l2, l3, some (vI a), l5] st T σ K ↔ Rn 73 52 [l0, l1, l2, l3, some (vI a), l5] (vI a :: st) T σ K := R_iload (n := 4) (by decide +kernel) rfl
theorem s73_52 : Rn 73 52 L [vI a] T σ K ↔ K (some (vI a)) T σ := R_ret (by decide +kernel) (by decide +kernel)
theorem s74_0 : Rn 74 0 [some (vR o), l1, l2] st T σ K ↔ Rn 74 1 [some (vR o), l1, l2] (vR o :: st) T σ K := R_aload_n (n := 0) (by decide +kernel) rfl
theorem s74_1 : Rn 74 1 L (vR o :: st) T σ K ↔ sx_kd T o = 8 ∧ ∃ t, sx_rf T o 2 = some t ∧ Rn 74 4 L (vR t :: st) T σ K := R_getR (idx := 28) (ci := 8) (k := 2) (by decide +kernel) (by decide +kernel) rfl
theorem s74_4 : Rn 74 4 L (vR o :: st) T σ K ↔ (sx_kd T o = 2 ∧ st.length ≤ 4) ∧ Rn 75 0 [some (vR o), none, none, none] [] T σ (fun r T' σ' => Rn 74 7 L (sx_push r st) T' σ' K) := R_V (cm := 75) (n := 0) (idx := 204) (ci := 2) (mx := 4) (vs := []) (by decide +kernel) (by decide +kernel) rfl (by decide +kernel) rfl (by decide +kernel) (by decide +kernel)
theorem s74_7 : Rn 74 7 [l0, l1, l2] (vI a :: st) T σ K ↔ Rn 74 8 [l0, l1, some (vI a)] st T σ K := R_istore_n (n := 2) (by decide +kernel) rfl
theorem s74_8 : Rn 74 8 [l0, l1, some (vI a)] st T σ K ↔ Rn 74 9 [l0, l1, some (vI a)] (vI a :: st) T σ K := R_iload_n (n := 2) (by decide +kernel) rfl
theorem s74_9 : Rn 74 9 L st T σ K ↔ Rn 74 10 L (vI (-1) :: st) T σ K := R_iconst (n := -1) (by decide +kernel) (by decide)
theorem s74_10 : Rn 74 10 L (vI b :: vI a :: st) T σ K ↔ (a ≠ b → Rn 74 15 L st T σ K) ∧ (a = b → Rn 74 13 L st T σ K) := R_icmp_ne (off := 5) (by decide +kernel) (by decide)
theorem s74_13 : Rn 74 13 L st T σ K ↔ Rn 74 14 L (vI (-1) :: st) T σ K := R_iconst (n := -1) (by decide +kernel) (by decide)
theorem s74_14 : Rn 74 14 L [vI a] T σ K ↔ K (some (vI a)) T σ := R_ret (by decide +kernel) (by decide +kernel)
theorem s74_15 : Rn 74 15 [l0, some (vI a), l2] st T σ K ↔ Rn 74 16 [l0, some (vI a), l2] (vI a :: st) T σ K := R_iload_n (n := 1) (by decide +kernel) rfl
theorem s74_16 : Rn 74 16 L (vI a :: st) T σ K ↔ sx_sw [(0, 44), (1, 53)] 55 a (fun t => Rn 74 t L st T σ K) := R_look (d := 39) (ps := #[(0, 28), (1, 37)]) (len := 28) (by decide +kernel) (by decide +kernel)
theorem s74_44 : Rn 74 44 [some (vR o), l1, l2] st T σ K ↔ Rn 74 45 [some (vR o), l1, l2] (vR o :: st) T σ K := R_aload_n (n := 0) (by decide +kernel) rfl
theorem s74_45 : Rn 74 45 L (vR o :: st) T σ K ↔ sx_kd T o = 8 ∧ ∃ t, sx_rf T o 2 = some t ∧ Rn 74 48 L (vR t :: st) T σ K := R_getR (idx := 28) (ci := 8) (k := 2) (by decide +kernel) (by decide +kernel) rfl
theorem s74_48 : Rn 74 48 [l0, l1, some (vI a)] st T σ K ↔ Rn 74 49 [l0, l1, some (vI a)] (vI a :: st) T σ K := R_iload_n (n := 2) (by decide +kernel) rfl
theorem s74_49 : Rn 74 49 L (vI a :: vR o :: st) T σ K ↔ (sx_kd T o = 2 ∧ st.length ≤ 4) ∧ Rn 54 0 [some (vR o), some (vI a), none, none] [] T σ (fun r T' σ' => Rn 74 52 L (sx_push r st) T' σ' K) := R_V (cm := 54) (n := 1) (idx := 163) (ci := 2) (mx := 4) (vs := [vI a]) (by decide +kernel) (by decide +kernel) rfl (by decide +kernel) rfl (by decide +kernel) (by decide +kernel)
theorem s74_52 : Rn 74 52 L [vI a] T σ K ↔ K (some (vI a)) T σ := R_ret (by decide +kernel) (by decide +kernel)
theorem s74_53 : Rn 74 53 [l0, l1, some (vI a)] st T σ K ↔ Rn 74 54 [l0, l1, some (vI a)] (vI a :: st) T σ K := R_iload_n (n := 2) (by decide +kernel) rfl
theorem s74_54 : Rn 74 54 L [vI a] T σ K ↔ K (some (vI a)) T σ := R_ret (by decide +kernel) (by decide +kernel)
theorem s74_55 : Rn 74 55 L st T σ K ↔ Rn 74 56 L (vI (-1) :: st) T σ K := R_iconst (n := -1) (by decide +kernel) (by decide)
theorem s74_56 : Rn 74 56 L [vI a] T σ K ↔ K (some (vI a)) T σ := R_ret (by decide +kernel) (by decide +kernel)
theorem s75_0 : Rn 75 0 L st T σ K ↔ Rn 75 1 L (vI (-1) :: st) T σ K := R_iconst (n := -1) (by decide +kernel) (by decide)
theorem s75_1 : Rn 75 1 [l0, l1, l2, l3] (vI a :: st) T σ K ↔ Rn 75 2 [l0, some (vI a), l2, l3] st T σ K := R_istore_n (n := 1) (by decide +kernel) rfl
theorem s75_2 : Rn 75 2 L st T σ K ↔ Rn 75 3 L (vI (-1) :: st) T σ K := R_iconst (n := -1) (by decide +kernel) (by decide)
theorem s75_3 : Rn 75 3 [l0, l1, l2, l3] (vI a :: st) T σ K ↔ Rn 75 4 [l0, l1, some (vI a), l3] st T σ K := R_istore_n (n := 2) (by decide +kernel) rfl
theorem s75_4 : Rn 75 4 L st T σ K ↔ Rn 75 5 L (vI 0 :: st) T σ K := R_iconst (n := 0) (by decide +kernel) (by decide)
theorem s75_5 : Rn 75 5 [l0, l1, l2, l3] (vI a :: st) T σ K ↔ Rn 75 6 [l0, l1, l2, some (vI a)] st T σ K := R_istore_n (n := 3) (by decide +kernel) rfl
theorem s75_6 : Rn 75 6 [l0, l1, l2, some (vI a)] st T σ K ↔ Rn 75 7 [l0, l1, l2, some (vI a)] (vI a :: st) T σ K := R_iload_n (n := 3) (by decide +kernel) rfl
theorem s75_7 : Rn 75 7 L st T σ K ↔ Rn 75 9 L (vI 40 :: st) T σ K := R_bipush (n := 40) (by decide +kernel) (by decide +kernel)
theorem s75_9 : Rn 75 9 L (vI b :: vI a :: st) T σ K ↔ (b ≤ a → Rn 75 44 L st T σ K) ∧ (a < b → Rn 75 12 L st T σ K) := R_icmp_ge (off := 35) (by decide +kernel) (by decide)
theorem s75_12 : Rn 75 12 [some (vR o), l1, l2, l3] st T σ K ↔ Rn 75 13 [some (vR o), l1, l2, l3] (vR o :: st) T σ K := R_aload_n (n := 0) (by decide +kernel) rfl
theorem s75_13 : Rn 75 13 L (vR o :: st) T σ K ↔ sx_kd T o = 2 ∧ ∃ t, sx_rf T o 1 = some t ∧ Rn 75 16 L (vR t :: st) T σ K := R_getR (idx := 15) (ci := 2) (k := 1) (by decide +kernel) (by decide +kernel) rfl
theorem s75_16 : Rn 75 16 [l0, l1, l2, some (vI a)] st T σ K ↔ Rn 75 17 [l0, l1, l2, some (vI a)] (vI a :: st) T σ K := R_iload_n (n := 3) (by decide +kernel) rfl
theorem s75_17 : Rn 75 17 L (vI a :: vR o :: st) T σ K ↔ (sx_kd T o = 20 ∧ 0 ≤ a ∧ a < sx_ln T o) ∧ Rn 75 18 L (vI (σ o a) :: st) T σ K := R_iald (by decide +kernel) (by decide)
theorem s75_18 : Rn 75 18 L (vI a :: st) T σ K ↔ (a < 0 → Rn 75 38 L st T σ K) ∧ (0 ≤ a → Rn 75 21 L st T σ K) := R_if_lt (off := 20) (by decide +kernel) (by decide)
theorem s75_21 : Rn 75 21 [some (vR o), l1, l2, l3] st T σ K ↔ Rn 75 22 [some (vR o), l1, l2, l3] (vR o :: st) T σ K := R_aload_n (n := 0) (by decide +kernel) rfl
theorem s75_22 : Rn 75 22 [l0, l1, l2, some (vI a)] st T σ K ↔ Rn 75 23 [l0, l1, l2, some (vI a)] (vI a :: st) T σ K := R_iload_n (n := 3) (by decide +kernel) rfl
theorem s75_23 : Rn 75 23 L (vI a :: vR o :: st) T σ K ↔ (sx_kd T o = 2 ∧ st.length ≤ 4) ∧ Rn 54 0 [some (vR o), some (vI a), none, none] [] T σ (fun r T' σ' => Rn 75 26 L (sx_push r st) T' σ' K) := R_V (cm := 54) (n := 1) (idx := 86) (ci := 2) (mx := 4) (vs := [vI a]) (by decide +kernel) (by decide +kernel) rfl (by decide +kernel) rfl (by decide +kernel) (by decide +kernel)
theorem s75_26 : Rn 75 26 [l0, l1, some (vI a), l3] st T σ K ↔ Rn 75 27 [l0, l1, some (vI a), l3] (vI a :: st) T σ K := R_iload_n (n := 2) (by decide +kernel) rfl
theorem s75_27 : Rn 75 27 L (vI b :: vI a :: st) T σ K ↔ (a ≤ b → Rn 75 38 L st T σ K) ∧ (b < a → Rn 75 30 L st T σ K) := R_icmp_le (off := 11) (by decide +kernel) (by decide)
theorem s75_30 : Rn 75 30 [l0, l1, l2, some (vI a)] st T σ K ↔ Rn 75 31 [l0, l1, l2, some (vI a)] (vI a :: st) T σ K := R_iload_n (n := 3) (by decide +kernel) rfl
theorem s75_31 : Rn 75 31 [l0, l1, l2, l3] (vI a :: st) T σ K ↔ Rn 75 32 [l0, some (vI a), l2, l3] st T σ K := R_istore_n (n := 1) (by decide +kernel) rfl
theorem s75_32 : Rn 75 32 [some (vR o), l1, l2, l3] st T σ K ↔ Rn 75 33 [some (vR o), l1, l2, l3] (vR o :: st) T σ K := R_aload_n (n := 0) (by decide +kernel) rfl
theorem s75_33 : Rn 75 33 [l0, l1, l2, some (vI a)] st T σ K ↔ Rn 75 34 [l0, l1, l2, some (vI a)] (vI a :: st) T σ K := R_iload_n (n := 3) (by decide +kernel) rfl
theorem s75_34 : Rn 75 34 L (vI a :: vR o :: st) T σ K ↔ (sx_kd T o = 2 ∧ st.length ≤ 4) ∧ Rn 54 0 [some (vR o), some (vI a), none, none] [] T σ (fun r T' σ' => Rn 75 37 L (sx_push r st) T' σ' K) := R_V (cm := 54) (n := 1) (idx := 86) (ci := 2) (mx := 4) (vs := [vI a]) (by decide +kernel) (by decide +kernel) rfl (by decide +kernel) rfl (by decide +kernel) (by decide +kernel)
theorem s75_37 : Rn 75 37 [l0, l1, l2, l3] (vI a :: st) T σ K ↔ Rn 75 38 [l0, l1, some (vI a), l3] st T σ K := R_istore_n (n := 2) (by decide +kernel) rfl
theorem s75_38 : Rn 75 38 [l0, l1, l2, some (vI a)] st T σ K ↔ inI (a + 1) ∧ Rn 75 41 [l0, l1, l2, some (vI (a + 1))] st T σ K := R_iinc (n := 3) (d := 1) (by decide +kernel) rfl
theorem s75_41 : Rn 75 41 L st T σ K ↔ Rn 75 6 L st T σ K := R_goto (off := -35) (by decide +kernel) (by decide)
theorem s75_44 : Rn 75 44 [l0, some (vI a), l2, l3] st T σ K ↔ Rn 75 45 [l0, some (vI a), l2, l3] (vI a :: st) T σ K := R_iload_n (n := 1) (by decide +kernel) rfl
theorem s75_45 : Rn 75 45 L [vI a] T σ K ↔ K (some (vI a)) T σ := R_ret (by decide +kernel) (by decide +kernel)
theorem s76_0 : Rn 76 0 [l0, some (vI a), l2, l3, l4] st T σ K ↔ Rn 76 1 [l0, some (vI a), l2, l3, l4] (vI a :: st) T σ K := R_iload_n (n := 1) (by decide +kernel) rfl
theorem s76_1 : Rn 76 1 [l0, l1, some (vI a), l3, l4] st T σ K ↔ Rn 76 2 [l0, l1, some (vI a), l3, l4] (vI a :: st) T σ K := R_iload_n (n := 2) (by decide +kernel) rfl
theorem s76_2 : Rn 76 2 [l0, l1, l2, some (vI a), l4] st T σ K ↔ Rn 76 3 [l0, l1, l2, some (vI a), l4] (vI a :: st) T σ K := R_iload_n (n := 3) (by decide +kernel) rfl
theorem s76_3 : Rn 76 3 L (vI c :: vI b :: vI a :: st) T σ K ↔ st.length ≤ 4 ∧ Rn 33 0 [some (vI a), some (vI b), some (vI c)] [] T σ (fun r T' σ' => Rn 76 6 L (sx_push r st) T' σ' K) := R_S (cm := 33) (n := 3) (idx := 169) (mx := 3) (vs := [vI a, vI b, vI c]) (by decide +kernel) (Or.inl (by decide +kernel)) rfl (by decide +kernel) rfl (by decide +kernel)
theorem s76_6 : Rn 76 6 [l0, l1, l2, l3, l4] (vI a :: st) T σ K ↔ Rn 76 8 [l0, l1, l2, l3, some (vI a)] st T σ K := R_istore (n := 4) (by decide +kernel) rfl
theorem s76_8 : Rn 76 8 [l0, l1, l2, l3, some (vI a)] st T σ K ↔ Rn 76 10 [l0, l1, l2, l3, some (vI a)] (vI a :: st) T σ K := R_iload (n := 4) (by decide +kernel) rfl
theorem s76_10 : Rn 76 10 L st T σ K ↔ Rn 76 11 L (vI (-1) :: st) T σ K := R_iconst (n := -1) (by decide +kernel) (by decide)
theorem s76_11 : Rn 76 11 L (vI b :: vI a :: st) T σ K ↔ (a = b → Rn 76 25 L st T σ K) ∧ (a ≠ b → Rn 76 14 L st T σ K) := R_icmp_eq (off := 14) (by decide +kernel) (by decide)
theorem s76_14 : Rn 76 14 [some (vR o), l1, l2, l3, l4] st T σ K ↔ Rn 76 15 [some (vR o), l1, l2, l3, l4] (vR o :: st) T σ K := R_aload_n (n := 0) (by decide +kernel) rfl
theorem s76_15 : Rn 76 15 L (vR o :: st) T σ K ↔ sx_kd T o = 8 ∧ ∃ t, sx_rf T o 2 = some t ∧ Rn 76 18 L (vR t :: st) T σ K := R_getR (idx := 28) (ci := 8) (k := 2) (by decide +kernel) (by decide +kernel) rfl
theorem s76_18 : Rn 76 18 L (vR o :: st) T σ K ↔ sx_kd T o = 2 ∧ Rn 76 21 L (vI (σ o 5) :: st) T σ K := R_getI (idx := 136) (ci := 2) (k := 5) (by decide +kernel) (by decide +kernel) (Or.inl rfl)
theorem s76_21 : Rn 76 21 L st T σ K ↔ Rn 76 22 L (vI (-1) :: st) T σ K := R_iconst (n := -1) (by decide +kernel) (by decide)
theorem s76_22 : Rn 76 22 L (vI b :: vI a :: st) T σ K ↔ (a ≠ b → Rn 76 27 L st T σ K) ∧ (a = b → Rn 76 25 L st T σ K) := R_icmp_ne (off := 5) (by decide +kernel) (by decide)
theorem s76_25 : Rn 76 25 L st T σ K ↔ Rn 76 26 L (vI (-1) :: st) T σ K := R_iconst (n := -1) (by decide +kernel) (by decide)
theorem s76_26 : Rn 76 26 L [vI a] T σ K ↔ K (some (vI a)) T σ := R_ret (by decide +kernel) (by decide +kernel)
theorem s76_27 : Rn 76 27 [some (vR o), l1, l2, l3, l4] st T σ K ↔ Rn 76 28 [some (vR o), l1, l2, l3, l4] (vR o :: st) T σ K := R_aload_n (n := 0) (by decide +kernel) rfl
theorem s76_28 : Rn 76 28 L (vR o :: st) T σ K ↔ sx_kd T o = 8 ∧ ∃ t, sx_rf T o 5 = some t ∧ Rn 76 31 L (vR t :: st) T σ K := R_getR (idx := 47) (ci := 8) (k := 5) (by decide +kernel) (by decide +kernel) rfl
theorem s76_31 : Rn 76 31 [l0, l1, l2, l3, some (vI a)] st T σ K ↔ Rn 76 33 [l0, l1, l2, l3, some (vI a)] (vI a :: st) T σ K := R_iload (n := 4) (by decide +kernel) rfl
theorem s76_33 : Rn 76 33 L (vI a :: vR o :: st) T σ K ↔ (sx_kd T o = 3 ∧ st.length ≤ 4) ∧ Rn 77 0 [some (vR o), some (vI a), none] [] T σ (fun r T' σ' => Rn 76 36 L (sx_push r st) T' σ' K) := R_V (cm := 77) (n := 1) (idx := 207) (ci := 3) (mx := 3) (vs := [vI a]) (by decide +kernel) (by decide +kernel) rfl (by decide +kernel) rfl (by decide +kernel) (by decide +kernel)
theorem s76_36 : Rn 76 36 [some (vR o), l1, l2, l3, l4] st T σ K ↔ Rn 76 37 [some (vR o), l1, l2, l3, l4] (vR o :: st) T σ K := R_aload_n (n := 0) (by decide +kernel) rfl
theorem s76_37 : Rn 76 37 L (vR o :: st) T σ K ↔ sx_kd T o = 8 ∧ ∃ t, sx_rf T o 5 = some t ∧ Rn 76 40 L (vR t :: st) T σ K := R_getR (idx := 47) (ci := 8) (k := 5) (by decide +kernel) (by decide +kernel) rfl
theorem s76_40 : Rn 76 40 L (vR o :: st) T σ K ↔ sx_kd T o = 3 ∧ Rn 76 43 L (vI (σ o 10) :: st) T σ K := R_getI (idx := 210) (ci := 3) (k := 10) (by decide +kernel) (by decide +kernel) (Or.inl rfl)
theorem s76_43 : Rn 76 43 L [vI a] T σ K ↔ K (some (vI a)) T σ := R_ret (by decide +kernel) (by decide +kernel)
theorem s77_0 : Rn 77 0 [some (vR o), l1, l2] st T σ K ↔ Rn 77 1 [some (vR o), l1, l2] (vR o :: st) T σ K := R_aload_n (n := 0) (by decide +kernel) rfl
theorem s77_1 : Rn 77 1 L (vR o :: st) T σ K ↔ (sx_kd T o = 3 ∧ st.length ≤ 4) ∧ Rn 44 0 [some (vR o)] [] T σ (fun r T' σ' => Rn 77 4 L (sx_push r st) T' σ' K) := R_V (cm := 44) (n := 0) (idx := 48) (ci := 3) (mx := 1) (vs := []) (by decide +kernel) (by decide +kernel) rfl (by decide +kernel) rfl (by decide +kernel) (by decide +kernel)
theorem s77_4 : Rn 77 4 L st T σ K ↔ Rn 77 5 L (vI 0 :: st) T σ K := R_iconst (n := 0) (by decide +kernel) (by decide)
theorem s77_5 : Rn 77 5 [l0, l1, l2] (vI a :: st) T σ K ↔ Rn 77 6 [l0, l1, some (vI a)] st T σ K := R_istore_n (n := 2) (by decide +kernel) rfl
theorem s77_6 : Rn 77 6 [l0, l1, some (vI a)] st T σ K ↔ Rn 77 7 [l0, l1, some (vI a)] (vI a :: st) T σ K := R_iload_n (n := 2) (by decide +kernel) rfl
theorem s77_7 : Rn 77 7 L st T σ K ↔ Rn 77 9 L (vI 40 :: st) T σ K := R_bipush (n := 40) (by decide +kernel) (by decide +kernel)
theorem s77_9 : Rn 77 9 L (vI b :: vI a :: st) T σ K ↔ (b ≤ a → Rn 77 25 L st T σ K) ∧ (a < b → Rn 77 12 L st T σ K) := R_icmp_ge (off := 16) (by decide +kernel) (by decide)
theorem s77_12 : Rn 77 12 [some (vR o), l1, l2] st T σ K ↔ Rn 77 13 [some (vR o), l1, l2] (vR o :: st) T σ K := R_aload_n (n := 0) (by decide +kernel) rfl
theorem s77_13 : Rn 77 13 L (vR o :: st) T σ K ↔ sx_kd T o = 3 ∧ ∃ t, sx_rf T o 3 = some t ∧ Rn 77 16 L (vR t :: st) T σ K := R_getR (idx := 15) (ci := 3) (k := 3) (by decide +kernel) (by decide +kernel) rfl
theorem s77_16 : Rn 77 16 [l0, l1, some (vI a)] st T σ K ↔ Rn 77 17 [l0, l1, some (vI a)] (vI a :: st) T σ K := R_iload_n (n := 2) (by decide +kernel) rfl
theorem s77_17 : Rn 77 17 L st T σ K ↔ Rn 77 18 L (vI 0 :: st) T σ K := R_iconst (n := 0) (by decide +kernel) (by decide)
theorem s77_18 : Rn 77 18 L (vI b :: vI a :: vR o :: st) T σ K ↔ (sx_kd T o = 21 ∧ 0 ≤ a ∧ a < sx_ln T o ∧ (b = 0 ∨ b = 1)) ∧ Rn 77 19 L st T (sx_up σ o a b) K := R_zast (by decide +kernel)
theorem s77_19 : Rn 77 19 [l0, l1, some (vI a)] st T σ K ↔ inI (a + 1) ∧ Rn 77 22 [l0, l1, some (vI (a + 1))] st T σ K := R_iinc (n := 2) (d := 1) (by decide +kernel) rfl
theorem s77_22 : Rn 77 22 L st T σ K ↔ Rn 77 6 L st T σ K := R_goto (off := -16) (by decide +kernel) (by decide)
theorem s77_25 : Rn 77 25 [some (vR o), l1, l2] st T σ K ↔ Rn 77 26 [some (vR o), l1, l2] (vR o :: st) T σ K := R_aload_n (n := 0) (by decide +kernel) rfl
theorem s77_26 : Rn 77 26 [some (vR o), l1, l2] st T σ K ↔ Rn 77 27 [some (vR o), l1, l2] (vR o :: st) T σ K := R_aload_n (n := 0) (by decide +kernel) rfl
theorem s77_27 : Rn 77 27 L (vR o :: st) T σ K ↔ sx_kd T o = 3 ∧ ∃ t, sx_rf T o 0 = some t ∧ Rn 77 30 L (vR t :: st) T σ K := R_getR (idx := 35) (ci := 3) (k := 0) (by decide +kernel) (by decide +kernel) rfl
theorem s77_30 : Rn 77 30 L (vR o :: st) T σ K ↔ sx_kd T o = 2 ∧ Rn 77 33 L (vI (σ o 5) :: st) T σ K := R_getI (idx := 51) (ci := 2) (k := 5) (by decide +kernel) (by decide +kernel) (Or.inl rfl)
theorem s77_33 : Rn 77 33 [l0, some (vI a), l2] st T σ K ↔ Rn 77 34 [l0, some (vI a), l2] (vI a :: st) T σ K := R_iload_n (n := 1) (by decide +kernel) rfl
theorem s77_34 : Rn 77 34 L (vI b :: vI a :: vR o :: st) T σ K ↔ (sx_kd T o = 3 ∧ st.length ≤ 4) ∧ Rn 78 0 [some (vR o), some (vI a), some (vI b), none] [] T σ (fun r T' σ' => Rn 77 37 L (sx_push r st) T' σ' K) := R_V (cm := 78) (n := 2) (idx := 56) (ci := 3) (mx := 4) (vs := [vI a, vI b]) (by decide +kernel) (by decide +kernel) rfl (by decide +kernel) rfl (by decide +kernel) (by decide +kernel)
theorem s77_37 : Rn 77 37 L st T σ K ↔ Rn 77 39 L (vI 10 :: st) T σ K := R_bipush (n := 10) (by decide +kernel) (by decide +kernel)
theorem s77_39 : Rn 77 39 [l0, l1, l2] (vI a :: st) T σ K ↔ Rn 77 40 [l0, l1, some (vI a)] st T σ K := R_istore_n (n := 2) (by decide +kernel) rfl
theorem s77_40 : Rn 77 40 [l0, l1, some (vI a)] st T σ K ↔ Rn 77 41 [l0, l1, some (vI a)] (vI a :: st) T σ K := R_iload_n (n := 2) (by decide +kernel) rfl
theorem s77_41 : Rn 77 41 L st T σ K ↔ Rn 77 42 L (vI 1 :: st) T σ K := R_iconst (n := 1) (by decide +kernel) (by decide)
theorem s77_42 : Rn 77 42 L (vI b :: vI a :: st) T σ K ↔ (a < b → Rn 77 64 L st T σ K) ∧ (b ≤ a → Rn 77 45 L st T σ K) := R_icmp_lt (off := 22) (by decide +kernel) (by decide)
theorem s77_45 : Rn 77 45 [some (vR o), l1, l2] st T σ K ↔ Rn 77 46 [some (vR o), l1, l2] (vR o :: st) T σ K := R_aload_n (n := 0) (by decide +kernel) rfl
theorem s77_46 : Rn 77 46 [l0, l1, some (vI a)] st T σ K ↔ Rn 77 47 [l0, l1, some (vI a)] (vI a :: st) T σ K := R_iload_n (n := 2) (by decide +kernel) rfl
theorem s77_47 : Rn 77 47 L st T σ K ↔ Rn 77 48 L (vI 1 :: st) T σ K := R_iconst (n := 1) (by decide +kernel) (by decide)
theorem s77_48 : Rn 77 48 L (vI b :: vI a :: st) T σ K ↔ inI (a - b) ∧ Rn 77 49 L (vI (a - b) :: st) T σ K := R_isub (by decide +kernel)
theorem s77_49 : Rn 77 49 [l0, some (vI a), l2] st T σ K ↔ Rn 77 50 [l0, some (vI a), l2] (vI a :: st) T σ K := R_iload_n (n := 1) (by decide +kernel) rfl
theorem s77_50 : Rn 77 50 L (vI b :: vI a :: vR o :: st) T σ K ↔ (sx_kd T o = 3 ∧ st.length ≤ 4) ∧ Rn 79 0 [some (vR o), some (vI a), some (vI b), none, none] [] T σ (fun r T' σ' => Rn 77 53 L (sx_push r st) T' σ' K) := R_V (cm := 79) (n := 2) (idx := 60) (ci := 3) (mx := 5) (vs := [vI a, vI b]) (by decide +kernel) (by decide +kernel) rfl (by decide +kernel) rfl (by decide +kernel) (by decide +kernel)
theorem s77_53 : Rn 77 53 [some (vR o), l1, l2] st T σ K ↔ Rn 77 54 [some (vR o), l1, l2] (vR o :: st) T σ K := R_aload_n (n := 0) (by decide +kernel) rfl
theorem s77_54 : Rn 77 54 [l0, l1, some (vI a)] st T σ K ↔ Rn 77 55 [l0, l1, some (vI a)] (vI a :: st) T σ K := R_iload_n (n := 2) (by decide +kernel) rfl
theorem s77_55 : Rn 77 55 L (vI a :: vR o :: st) T σ K ↔ (sx_kd T o = 3 ∧ st.length ≤ 4) ∧ Rn 80 0 [some (vR o), some (vI a), none] [] T σ (fun r T' σ' => Rn 77 58 L (sx_push r st) T' σ' K) := R_V (cm := 80) (n := 1) (idx := 63) (ci := 3) (mx := 3) (vs := [vI a]) (by decide +kernel) (by decide +kernel) rfl (by decide +kernel) rfl (by decide +kernel) (by decide +kernel)
theorem s77_58 : Rn 77 58 [l0, l1, some (vI a)] st T σ K ↔ inI (a + (-1)) ∧ Rn 77 61 [l0, l1, some (vI (a + (-1)))] st T σ K := R_iinc (n := 2) (d := -1) (by decide +kernel) rfl
theorem s77_61 : Rn 77 61 L st T σ K ↔ Rn 77 40 L st T σ K := R_goto (off := -21) (by decide +kernel) (by decide)
theorem s77_64 : Rn 77 64 L [] T σ K ↔ K none T σ := R_retV (by decide +kernel) (by decide +kernel)
theorem s78_0 : Rn 78 0 [some (vR o), l1, l2, l3] st T σ K ↔ Rn 78 1 [some (vR o), l1, l2, l3] (vR o :: st) T σ K := R_aload_n (n := 0) (by decide +kernel) rfl
theorem s78_1 : Rn 78 1 L (vR o :: st) T σ K ↔ sx_kd T o = 3 ∧ ∃ t, sx_rf T o 0 = some t ∧ Rn 78 4 L (vR t :: st) T σ K := R_getR (idx := 35) (ci := 3) (k := 0) (by decide +kernel) (by decide +kernel) rfl
theorem s78_4 : Rn 78 4 [l0, some (vI a), l2, l3] st T σ K ↔ Rn 78 5 [l0, some (vI a), l2, l3] (vI a :: st) T σ K := R_iload_n (n := 1) (by decide +kernel) rfl
theorem s78_5 : Rn 78 5 L (vI a :: vR o :: st) T σ K ↔ (sx_kd T o = 2 ∧ st.length ≤ 4) ∧ Rn 49 0 [some (vR o), some (vI a)] [] T σ (fun r T' σ' => Rn 78 8 L (sx_push r st) T' σ' K) := R_V (cm := 49) (n := 1) (idx := 67) (ci := 2) (mx := 2) (vs := [vI a]) (by decide +kernel) (by decide +kernel) rfl (by decide +kernel) rfl (by decide +kernel) (by decide +kernel)
theorem s78_8 : Rn 78 8 L (vI a :: st) T σ K ↔ (a ≠ 0 → Rn 78 12 L st T σ K) ∧ (a = 0 → Rn 78 11 L st T σ K) := R_if_ne (off := 4) (by decide +kernel) (by decide)
theorem s78_11 : Rn 78 11 L [] T σ K ↔ K none T σ := R_retV (by decide +kernel) (by decide +kernel)
theorem s78_12 : Rn 78 12 [some (vR o), l1, l2, l3] st T σ K ↔ Rn 78 13 [some (vR o), l1, l2, l3] (vR o :: st) T σ K := R_aload_n (n := 0) (by decide +kernel) rfl
theorem s78_13 : Rn 78 13 L (vR o :: st) T σ K ↔ sx_kd T o = 3 ∧ ∃ t, sx_rf T o 2 = some t ∧ Rn 78 16 L (vR t :: st) T σ K := R_getR (idx := 9) (ci := 3) (k := 2) (by decide +kernel) (by decide +kernel) rfl
theorem s78_16 : Rn 78 16 [l0, some (vI a), l2, l3] st T σ K ↔ Rn 78 17 [l0, some (vI a), l2, l3] (vI a :: st) T σ K := R_iload_n (n := 1) (by decide +kernel) rfl
theorem s78_17 : Rn 78 17 [some (vR o), l1, l2, l3] st T σ K ↔ Rn 78 18 [some (vR o), l1, l2, l3] (vR o :: st) T σ K := R_aload_n (n := 0) (by decide +kernel) rfl
theorem s78_18 : Rn 78 18 L (vR o :: st) T σ K ↔ sx_kd T o = 3 ∧ ∃ t, sx_rf T o 0 = some t ∧ Rn 78 21 L (vR t :: st) T σ K := R_getR (idx := 35) (ci := 3) (k := 0) (by decide +kernel) (by decide +kernel) rfl
theorem s78_21 : Rn 78 21 [l0, some (vI a), l2, l3] st T σ K ↔ Rn 78 22 [l0, some (vI a), l2, l3] (vI a :: st) T σ K := R_iload_n (n := 1) (by decide +kernel) rfl
theorem s78_22 : Rn 78 22 [l0, l1, some (vI a), l3] st T σ K ↔ Rn 78 23 [l0, l1, some (vI a), l3] (vI a :: st) T σ K := R_iload_n (n := 2) (by decide +kernel) rfl
theorem s78_23 : Rn 78 23 L (vI b :: vI a :: vR o :: st) T σ K ↔ (sx_kd T o = 2 ∧ st.length ≤ 4) ∧ Rn 42 0 [some (vR o), some (vI a), some (vI b)] [] T σ (fun r T' σ' => Rn 78 26 L (sx_push r st) T' σ' K) := R_V (cm := 42) (n := 2) (idx := 71) (ci := 2) (mx := 3) (vs := [vI a, vI b]) (by decide +kernel) (by decide +kernel) rfl (by decide +kernel) rfl (by decide +kernel) (by decide +kernel)
theorem s78_26 : Rn 78 26 L (vI b :: vI a :: vR o :: st) T σ K ↔ (sx_kd T o = 20 ∧ 0 ≤ a ∧ a < sx_ln T o) ∧ Rn 78 27 L st T (sx_up σ o a b) K := R_iast (by decide +kernel)
theorem s78_27 : Rn 78 27 [some (vR o), l1, l2, l3] st T σ K ↔ Rn 78 28 [some (vR o), l1, l2, l3] (vR o :: st) T σ K := R_aload_n (n := 0) (by decide +kernel) rfl
theorem s78_28 : Rn 78 28 L (vR o :: st) T σ K ↔ sx_kd T o = 3 ∧ ∃ t, sx_rf T o 3 = some t ∧ Rn 78 31 L (vR t :: st) T σ K := R_getR (idx := 15) (ci := 3) (k := 3) (by decide +kernel) (by decide +kernel) rfl
theorem s78_31 : Rn 78 31 [l0, some (vI a), l2, l3] st T σ K ↔ Rn 78 32 [l0, some (vI a), l2, l3] (vI a :: st) T σ K := R_iload_n (n := 1) (by decide +kernel) rfl
theorem s78_32 : Rn 78 32 L st T σ K ↔ Rn 78 33 L (vI 1 :: st) T σ K := R_iconst (n := 1) (by decide +kernel) (by decide)
theorem s78_33 : Rn 78 33 L (vI b :: vI a :: vR o :: st) T σ K ↔ (sx_kd T o = 21 ∧ 0 ≤ a ∧ a < sx_ln T o ∧ (b = 0 ∨ b = 1)) ∧ Rn 78 34 L st T (sx_up σ o a b) K := R_zast (by decide +kernel)
theorem s78_34 : Rn 78 34 [some (vR o), l1, l2, l3] st T σ K ↔ Rn 78 35 [some (vR o), l1, l2, l3] (vR o :: st) T σ K := R_aload_n (n := 0) (by decide +kernel) rfl
theorem s78_35 : Rn 78 35 L (vR o :: st) T σ K ↔ Rn 78 36 L (vR o :: vR o :: st) T σ K := R_dup (v := vR o) (by decide +kernel) rfl
theorem s78_36 : Rn 78 36 L (vR o :: st) T σ K ↔ sx_kd T o = 3 ∧ Rn 78 39 L (vI (σ o 9) :: st) T σ K := R_getI (idx := 42) (ci := 3) (k := 9) (by decide +kernel) (by decide +kernel) (Or.inl rfl)
theorem s78_39 : Rn 78 39 L st T σ K ↔ Rn 78 40 L (vI 1 :: st) T σ K := R_iconst (n := 1) (by decide +kernel) (by decide)
theorem s78_40 : Rn 78 40 L (vI b :: vI a :: st) T σ K ↔ inI (a + b) ∧ Rn 78 41 L (vI (a + b) :: st) T σ K := R_iadd (by decide +kernel)
theorem s78_41 : Rn 78 41 L (vI a :: vR o :: st) T σ K ↔ sx_kd T o = 3 ∧ Rn 78 44 L st T (sx_up σ o 9 a) K := R_putI (idx := 42) (ci := 3) (k := 9) (by decide +kernel) (by decide +kernel) rfl rfl
theorem s78_44 : Rn 78 44 [some (vR o), l1, l2, l3] st T σ K ↔ Rn 78 45 [some (vR o), l1, l2, l3] (vR o :: st) T σ K := R_aload_n (n := 0) (by decide +kernel) rfl
theorem s78_45 : Rn 78 45 L (vR o :: st) T σ K ↔ sx_kd T o = 3 ∧ Rn 78 48 L (vI (σ o 1) :: st) T σ K := R_getI (idx := 39) (ci := 3) (k := 1) (by decide +kernel) (by decide +kernel) (Or.inl rfl)
theorem s78_48 : Rn 78 48 [some (vR o), l1, l2, l3] st T σ K ↔ Rn 78 49 [some (vR o), l1, l2, l3] (vR o :: st) T σ K := R_aload_n (n := 0) (by decide +kernel) rfl
theorem s78_49 : Rn 78 49 L (vR o :: st) T σ K ↔ sx_kd T o = 3 ∧ ∃ t, sx_rf T o 2 = some t ∧ Rn 78 52 L (vR t :: st) T σ K := R_getR (idx := 9) (ci := 3) (k := 2) (by decide +kernel) (by decide +kernel) rfl
theorem s78_52 : Rn 78 52 [l0, some (vI a), l2, l3] st T σ K ↔ Rn 78 53 [l0, some (vI a), l2, l3] (vI a :: st) T σ K := R_iload_n (n := 1) (by decide +kernel) rfl
theorem s78_53 : Rn 78 53 L (vI a :: vR o :: st) T σ K ↔ (sx_kd T o = 20 ∧ 0 ≤ a ∧ a < sx_ln T o) ∧ Rn 78 54 L (vI (σ o a) :: st) T σ K := R_iald (by decide +kernel) (by decide)
theorem s78_54 : Rn 78 54 [some (vR o), l1, l2, l3] st T σ K ↔ Rn 78 55 [some (vR o), l1, l2, l3] (vR o :: st) T σ K := R_aload_n (n := 0) (by decide +kernel) rfl
theorem s78_55 : Rn 78 55 L (vR o :: st) T σ K ↔ sx_kd T o = 3 ∧ Rn 78 58 L (vI (σ o 11) :: st) T σ K := R_getI (idx := 75) (ci := 3) (k := 11) (by decide +kernel) (by decide +kernel) (Or.inl rfl)
theorem s78_58 : Rn 78 58 L (vI b :: vI a :: st) T σ K ↔ inI (a - b) ∧ Rn 78 59 L (vI (a - b) :: st) T σ K := R_isub (by decide +kernel)
theorem s78_59 : Rn 78 59 L (vI b :: vI a :: st) T σ K ↔ inI (a * b) ∧ Rn 78 60 L (vI (a * b) :: st) T σ K := R_imul (by decide +kernel)
theorem s78_60 : Rn 78 60 [l0, l1, l2, l3] (vI a :: st) T σ K ↔ Rn 78 61 [l0, l1, l2, some (vI a)] st T σ K := R_istore_n (n := 3) (by decide +kernel) rfl
theorem s78_61 : Rn 78 61 [some (vR o), l1, l2, l3] st T σ K ↔ Rn 78 62 [some (vR o), l1, l2, l3] (vR o :: st) T σ K := R_aload_n (n := 0) (by decide +kernel) rfl
theorem s78_62 : Rn 78 62 L (vR o :: st) T σ K ↔ sx_kd T o = 3 ∧ Rn 78 65 L (vI (σ o 10) :: st) T σ K := R_getI (idx := 31) (ci := 3) (k := 10) (by decide +kernel) (by decide +kernel) (Or.inl rfl)
theorem s78_65 : Rn 78 65 L st T σ K ↔ Rn 78 66 L (vI (-1) :: st) T σ K := R_iconst (n := -1) (by decide +kernel) (by decide)
theorem s78_66 : Rn 78 66 L (vI b :: vI a :: st) T σ K ↔ (a = b → Rn 78 85 L st T σ K) ∧ (a ≠ b → Rn 78 69 L st T σ K) := R_icmp_eq (off := 19) (by decide +kernel) (by decide)
theorem s78_69 : Rn 78 69 [l0, l1, l2, some (vI a)] st T σ K ↔ Rn 78 70 [l0, l1, l2, some (vI a)] (vI a :: st) T σ K := R_iload_n (n := 3) (by decide +kernel) rfl
theorem s78_70 : Rn 78 70 L (vI a :: st) T σ K ↔ (a < 0 → Rn 78 85 L st T σ K) ∧ (0 ≤ a → Rn 78 73 L st T σ K) := R_if_lt (off := 15) (by decide +kernel) (by decide)
theorem s78_73 : Rn 78 73 [l0, l1, l2, some (vI a)] st T σ K ↔ Rn 78 74 [l0, l1, l2, some (vI a)] (vI a :: st) T σ K := R_iload_n (n := 3) (by decide +kernel) rfl
theorem s78_74 : Rn 78 74 L (vI a :: st) T σ K ↔ (a ≠ 0 → Rn 78 100 L st T σ K) ∧ (a = 0 → Rn 78 77 L st T σ K) := R_if_ne (off := 26) (by decide +kernel) (by decide)
theorem s78_77 : Rn 78 77 [l0, some (vI a), l2, l3] st T σ K ↔ Rn 78 78 [l0, some (vI a), l2, l3] (vI a :: st) T σ K := R_iload_n (n := 1) (by decide +kernel) rfl
theorem s78_78 : Rn 78 78 [some (vR o), l1, l2, l3] st T σ K ↔ Rn 78 79 [some (vR o), l1, l2, l3] (vR o :: st) T σ K := R_aload_n (n := 0) (by decide +kernel) rfl
theorem s78_79 : Rn 78 79 L (vR o :: st) T σ K ↔ sx_kd T o = 3 ∧ Rn 78 82 L (vI (σ o 10) :: st) T σ K := R_getI (idx := 31) (ci := 3) (k := 10) (by decide +kernel) (by decide +kernel) (Or.inl rfl)
theorem s78_82 : Rn 78 82 L (vI b :: vI a :: st) T σ K ↔ (b ≤ a → Rn 78 100 L st T σ K) ∧ (a < b → Rn 78 85 L st T σ K) := R_icmp_ge (off := 18) (by decide +kernel) (by decide)
theorem s78_85 : Rn 78 85 [some (vR o), l1, l2, l3] st T σ K ↔ Rn 78 86 [some (vR o), l1, l2, l3] (vR o :: st) T σ K := R_aload_n (n := 0) (by decide +kernel) rfl
theorem s78_86 : Rn 78 86 [l0, some (vI a), l2, l3] st T σ K ↔ Rn 78 87 [l0, some (vI a), l2, l3] (vI a :: st) T σ K := R_iload_n (n := 1) (by decide +kernel) rfl
theorem s78_87 : Rn 78 87 L (vI a :: vR o :: st) T σ K ↔ sx_kd T o = 3 ∧ Rn 78 90 L st T (sx_up σ o 10 a) K := R_putI (idx := 31) (ci := 3) (k := 10) (by decide +kernel) (by decide +kernel) rfl rfl
theorem s78_90 : Rn 78 90 [some (vR o), l1, l2, l3] st T σ K ↔ Rn 78 91 [some (vR o), l1, l2, l3] (vR o :: st) T σ K := R_aload_n (n := 0) (by decide +kernel) rfl
theorem s78_91 : Rn 78 91 [some (vR o), l1, l2, l3] st T σ K ↔ Rn 78 92 [some (vR o), l1, l2, l3] (vR o :: st) T σ K := R_aload_n (n := 0) (by decide +kernel) rfl
theorem s78_92 : Rn 78 92 L (vR o :: st) T σ K ↔ sx_kd T o = 3 ∧ ∃ t, sx_rf T o 2 = some t ∧ Rn 78 95 L (vR t :: st) T σ K := R_getR (idx := 9) (ci := 3) (k := 2) (by decide +kernel) (by decide +kernel) rfl
theorem s78_95 : Rn 78 95 [l0, some (vI a), l2, l3] st T σ K ↔ Rn 78 96 [l0, some (vI a), l2, l3] (vI a :: st) T σ K := R_iload_n (n := 1) (by decide +kernel) rfl
theorem s78_96 : Rn 78 96 L (vI a :: vR o :: st) T σ K ↔ (sx_kd T o = 20 ∧ 0 ≤ a ∧ a < sx_ln T o) ∧ Rn 78 97 L (vI (σ o a) :: st) T σ K := R_iald (by decide +kernel) (by decide)
theorem s78_97 : Rn 78 97 L (vI a :: vR o :: st) T σ K ↔ sx_kd T o = 3 ∧ Rn 78 100 L st T (sx_up σ o 11 a) K := R_putI (idx := 75) (ci := 3) (k := 11) (by decide +kernel) (by decide +kernel) rfl rfl
theorem s78_100 : Rn 78 100 L [] T σ K ↔ K none T σ := R_retV (by decide +kernel) (by decide +kernel)
theorem s79_0 : Rn 79 0 L st T σ K ↔ Rn 79 1 L (vI 0 :: st) T σ K := R_iconst (n := 0) (by decide +kernel) (by decide)
theorem s79_1 : Rn 79 1 [l0, l1, l2, l3, l4] (vI a :: st) T σ K ↔ Rn 79 2 [l0, l1, l2, some (vI a), l4] st T σ K := R_istore_n (n := 3) (by decide +kernel) rfl
theorem s79_2 : Rn 79 2 [l0, l1, l2, some (vI a), l4] st T σ K ↔ Rn 79 3 [l0, l1, l2, some (vI a), l4] (vI a :: st) T σ K := R_iload_n (n := 3) (by decide +kernel) rfl
theorem s79_3 : Rn 79 3 L st T σ K ↔ Rn 79 5 L (vI 40 :: st) T σ K := R_bipush (n := 40) (by decide +kernel) (by decide +kernel)
theorem s79_5 : Rn 79 5 L (vI b :: vI a :: st) T σ K ↔ (b ≤ a → Rn 79 66 L st T σ K) ∧ (a < b → Rn 79 8 L st T σ K) := R_icmp_ge (off := 61) (by decide +kernel) (by decide)
theorem s79_8 : Rn 79 8 [some (vR o), l1, l2, l3, l4] st T σ K ↔ Rn 79 9 [some (vR o), l1, l2, l3, l4] (vR o :: st) T σ K := R_aload_n (n := 0) (by decide +kernel) rfl
theorem s79_9 : Rn 79 9 L (vR o :: st) T σ K ↔ sx_kd T o = 3 ∧ ∃ t, sx_rf T o 0 = some t ∧ Rn 79 12 L (vR t :: st) T σ K := R_getR (idx := 35) (ci := 3) (k := 0) (by decide +kernel) (by decide +kernel) rfl
theorem s79_12 : Rn 79 12 L (vR o :: st) T σ K ↔ sx_kd T o = 2 ∧ ∃ t, sx_rf T o 1 = some t ∧ Rn 79 15 L (vR t :: st) T σ K := R_getR (idx := 78) (ci := 2) (k := 1) (by decide +kernel) (by decide +kernel) rfl
theorem s79_15 : Rn 79 15 [l0, l1, l2, some (vI a), l4] st T σ K ↔ Rn 79 16 [l0, l1, l2, some (vI a), l4] (vI a :: st) T σ K := R_iload_n (n := 3) (by decide +kernel) rfl
theorem s79_16 : Rn 79 16 L (vI a :: vR o :: st) T σ K ↔ (sx_kd T o = 20 ∧ 0 ≤ a ∧ a < sx_ln T o) ∧ Rn 79 17 L (vI (σ o a) :: st) T σ K := R_iald (by decide +kernel) (by decide)
theorem s79_17 : Rn 79 17 [l0, some (vI a), l2, l3, l4] st T σ K ↔ Rn 79 18 [l0, some (vI a), l2, l3, l4] (vI a :: st) T σ K := R_iload_n (n := 1) (by decide +kernel) rfl
theorem s79_18 : Rn 79 18 L (vI b :: vI a :: st) T σ K ↔ (a ≠ b → Rn 79 60 L st T σ K) ∧ (a = b → Rn 79 21 L st T σ K) := R_icmp_ne (off := 42) (by decide +kernel) (by decide)
theorem s79_21 : Rn 79 21 [some (vR o), l1, l2, l3, l4] st T σ K ↔ Rn 79 22 [some (vR o), l1, l2, l3, l4] (vR o :: st) T σ K := R_aload_n (n := 0) (by decide +kernel) rfl
theorem s79_22 : Rn 79 22 L (vR o :: st) T σ K ↔ sx_kd T o = 3 ∧ ∃ t, sx_rf T o 0 = some t ∧ Rn 79 25 L (vR t :: st) T σ K := R_getR (idx := 35) (ci := 3) (k := 0) (by decide +kernel) (by decide +kernel) rfl
theorem s79_25 : Rn 79 25 L (vR o :: st) T σ K ↔ sx_kd T o = 2 ∧ ∃ t, sx_rf T o 2 = some t ∧ Rn 79 28 L (vR t :: st) T σ K := R_getR (idx := 81) (ci := 2) (k := 2) (by decide +kernel) (by decide +kernel) rfl
theorem s79_28 : Rn 79 28 [l0, l1, l2, some (vI a), l4] st T σ K ↔ Rn 79 29 [l0, l1, l2, some (vI a), l4] (vI a :: st) T σ K := R_iload_n (n := 3) (by decide +kernel) rfl
theorem s79_29 : Rn 79 29 L (vI a :: vR o :: st) T σ K ↔ (sx_kd T o = 20 ∧ 0 ≤ a ∧ a < sx_ln T o) ∧ Rn 79 30 L (vI (σ o a) :: st) T σ K := R_iald (by decide +kernel) (by decide)
theorem s79_30 : Rn 79 30 [l0, l1, l2, l3, l4] (vI a :: st) T σ K ↔ Rn 79 32 [l0, l1, l2, l3, some (vI a)] st T σ K := R_istore (n := 4) (by decide +kernel) rfl
theorem s79_32 : Rn 79 32 [some (vR o), l1, l2, l3, l4] st T σ K ↔ Rn 79 33 [some (vR o), l1, l2, l3, l4] (vR o :: st) T σ K := R_aload_n (n := 0) (by decide +kernel) rfl
theorem s79_33 : Rn 79 33 L (vR o :: st) T σ K ↔ sx_kd T o = 3 ∧ ∃ t, sx_rf T o 0 = some t ∧ Rn 79 36 L (vR t :: st) T σ K := R_getR (idx := 35) (ci := 3) (k := 0) (by decide +kernel) (by decide +kernel) rfl
theorem s79_36 : Rn 79 36 [l0, l1, l2, l3, some (vI a)] st T σ K ↔ Rn 79 38 [l0, l1, l2, l3, some (vI a)] (vI a :: st) T σ K := R_iload (n := 4) (by decide +kernel) rfl
theorem s79_38 : Rn 79 38 L (vI a :: vR o :: st) T σ K ↔ (sx_kd T o = 2 ∧ st.length ≤ 4) ∧ Rn 49 0 [some (vR o), some (vI a)] [] T σ (fun r T' σ' => Rn 79 41 L (sx_push r st) T' σ' K) := R_V (cm := 49) (n := 1) (idx := 67) (ci := 2) (mx := 2) (vs := [vI a]) (by decide +kernel) (by decide +kernel) rfl (by decide +kernel) rfl (by decide +kernel) (by decide +kernel)
theorem s79_41 : Rn 79 41 L (vI a :: st) T σ K ↔ (a = 0 → Rn 79 60 L st T σ K) ∧ (a ≠ 0 → Rn 79 44 L st T σ K) := R_if_eq (off := 19) (by decide +kernel) (by decide)
theorem s79_44 : Rn 79 44 [some (vR o), l1, l2, l3, l4] st T σ K ↔ Rn 79 45 [some (vR o), l1, l2, l3, l4] (vR o :: st) T σ K := R_aload_n (n := 0) (by decide +kernel) rfl
theorem s79_45 : Rn 79 45 L (vR o :: st) T σ K ↔ sx_kd T o = 3 ∧ ∃ t, sx_rf T o 3 = some t ∧ Rn 79 48 L (vR t :: st) T σ K := R_getR (idx := 15) (ci := 3) (k := 3) (by decide +kernel) (by decide +kernel) rfl
theorem s79_48 : Rn 79 48 [l0, l1, l2, l3, some (vI a)] st T σ K ↔ Rn 79 50 [l0, l1, l2, l3, some (vI a)] (vI a :: st) T σ K := R_iload (n := 4) (by decide +kernel) rfl
theorem s79_50 : Rn 79 50 L (vI a :: vR o :: st) T σ K ↔ (sx_kd T o = 21 ∧ 0 ≤ a ∧ a < sx_ln T o) ∧ Rn 79 51 L (vI (σ o a) :: st) T σ K := R_zald (by decide +kernel)
theorem s79_51 : Rn 79 51 L (vI a :: st) T σ K ↔ (a = 0 → Rn 79 60 L st T σ K) ∧ (a ≠ 0 → Rn 79 54 L st T σ K) := R_if_eq (off := 9) (by decide +kernel) (by decide)
theorem s79_54 : Rn 79 54 [some (vR o), l1, l2, l3, l4] st T σ K ↔ Rn 79 55 [some (vR o), l1, l2, l3, l4] (vR o :: st) T σ K := R_aload_n (n := 0) (by decide +kernel) rfl
theorem s79_55 : Rn 79 55 [l0, l1, l2, some (vI a), l4] st T σ K ↔ Rn 79 56 [l0, l1, l2, some (vI a), l4] (vI a :: st) T σ K := R_iload_n (n := 3) (by decide +kernel) rfl
theorem s79_56 : Rn 79 56 [l0, l1, some (vI a), l3, l4] st T σ K ↔ Rn 79 57 [l0, l1, some (vI a), l3, l4] (vI a :: st) T σ K := R_iload_n (n := 2) (by decide +kernel) rfl
theorem s79_57 : Rn 79 57 L (vI b :: vI a :: vR o :: st) T σ K ↔ (sx_kd T o = 3 ∧ st.length ≤ 4) ∧ Rn 78 0 [some (vR o), some (vI a), some (vI b), none] [] T σ (fun r T' σ' => Rn 79 60 L (sx_push r st) T' σ' K) := R_V (cm := 78) (n := 2) (idx := 56) (ci := 3) (mx := 4) (vs := [vI a, vI b]) (by decide +kernel) (by decide +kernel) rfl (by decide +kernel) rfl (by decide +kernel) (by decide +kernel)
theorem s79_60 : Rn 79 60 [l0, l1, l2, some (vI a), l4] st T σ K ↔ inI (a + 1) ∧ Rn 79 63 [l0, l1, l2, some (vI (a + 1)), l4] st T σ K := R_iinc (n := 3) (d := 1) (by decide +kernel) rfl
theorem s79_63 : Rn 79 63 L st T σ K ↔ Rn 79 2 L st T σ K := R_goto (off := -61) (by decide +kernel) (by decide)
theorem s79_66 : Rn 79 66 L [] T σ K ↔ K none T σ := R_retV (by decide +kernel) (by decide +kernel)
theorem s80_0 : Rn 80 0 L st T σ K ↔ Rn 80 1 L (vI 0 :: st) T σ K := R_iconst (n := 0) (by decide +kernel) (by decide)
theorem s80_1 : Rn 80 1 [l0, l1, l2] (vI a :: st) T σ K ↔ Rn 80 2 [l0, l1, some (vI a)] st T σ K := R_istore_n (n := 2) (by decide +kernel) rfl
theorem s80_2 : Rn 80 2 [l0, l1, some (vI a)] st T σ K ↔ Rn 80 3 [l0, l1, some (vI a)] (vI a :: st) T σ K := R_iload_n (n := 2) (by decide +kernel) rfl
theorem s80_3 : Rn 80 3 L st T σ K ↔ Rn 80 5 L (vI 40 :: st) T σ K := R_bipush (n := 40) (by decide +kernel) (by decide +kernel)
theorem s80_5 : Rn 80 5 L (vI b :: vI a :: st) T σ K ↔ (b ≤ a → Rn 80 63 L st T σ K) ∧ (a < b → Rn 80 8 L st T σ K) := R_icmp_ge (off := 58) (by decide +kernel) (by decide)
theorem s80_8 : Rn 80 8 [some (vR o), l1, l2] st T σ K ↔ Rn 80 9 [some (vR o), l1, l2] (vR o :: st) T σ K := R_aload_n (n := 0) (by decide +kernel) rfl
theorem s80_9 : Rn 80 9 L (vR o :: st) T σ K ↔ sx_kd T o = 3 ∧ ∃ t, sx_rf T o 3 = some t ∧ Rn 80 12 L (vR t :: st) T σ K := R_getR (idx := 15) (ci := 3) (k := 3) (by decide +kernel) (by decide +kernel) rfl
theorem s80_12 : Rn 80 12 [l0, l1, some (vI a)] st T σ K ↔ Rn 80 13 [l0, l1, some (vI a)] (vI a :: st) T σ K := R_iload_n (n := 2) (by decide +kernel) rfl
theorem s80_13 : Rn 80 13 L (vI a :: vR o :: st) T σ K ↔ (sx_kd T o = 21 ∧ 0 ≤ a ∧ a < sx_ln T o) ∧ Rn 80 14 L (vI (σ o a) :: st) T σ K := R_zald (by decide +kernel)
theorem s80_14 : Rn 80 14 L (vI a :: st) T σ K ↔ (a = 0 → Rn 80 57 L st T σ K) ∧ (a ≠ 0 → Rn 80 17 L st T σ K) := R_if_eq (off := 43) (by decide +kernel) (by decide)
theorem s80_17 : Rn 80 17 [some (vR o), l1, l2] st T σ K ↔ Rn 80 18 [some (vR o), l1, l2] (vR o :: st) T σ K := R_aload_n (n := 0) (by decide +kernel) rfl
theorem s80_18 : Rn 80 18 L (vR o :: st) T σ K ↔ sx_kd T o = 3 ∧ Rn 80 21 L (vI (σ o 1) :: st) T σ K := R_getI (idx := 39) (ci := 3) (k := 1) (by decide +kernel) (by decide +kernel) (Or.inl rfl)
theorem s80_21 : Rn 80 21 [some (vR o), l1, l2] st T σ K ↔ Rn 80 22 [some (vR o), l1, l2] (vR o :: st) T σ K := R_aload_n (n := 0) (by decide +kernel) rfl
theorem s80_22 : Rn 80 22 L (vR o :: st) T σ K ↔ sx_kd T o = 3 ∧ ∃ t, sx_rf T o 2 = some t ∧ Rn 80 25 L (vR t :: st) T σ K := R_getR (idx := 9) (ci := 3) (k := 2) (by decide +kernel) (by decide +kernel) rfl
theorem s80_25 : Rn 80 25 [l0, l1, some (vI a)] st T σ K ↔ Rn 80 26 [l0, l1, some (vI a)] (vI a :: st) T σ K := R_iload_n (n := 2) (by decide +kernel) rfl
theorem s80_26 : Rn 80 26 L (vI a :: vR o :: st) T σ K ↔ (sx_kd T o = 20 ∧ 0 ≤ a ∧ a < sx_ln T o) ∧ Rn 80 27 L (vI (σ o a) :: st) T σ K := R_iald (by decide +kernel) (by decide)
theorem s80_27 : Rn 80 27 L (vI b :: vI a :: st) T σ K ↔ inI (a * b) ∧ Rn 80 28 L (vI (a * b) :: st) T σ K := R_imul (by decide +kernel)
theorem s80_28 : Rn 80 28 L st T σ K ↔ Rn 80 29 L (vI 1 :: st) T σ K := R_iconst (n := 1) (by decide +kernel) (by decide)
theorem s80_29 : Rn 80 29 [l0, some (vI a), l2] st T σ K ↔ Rn 80 30 [l0, some (vI a), l2] (vI a :: st) T σ K := R_iload_n (n := 1) (by decide +kernel) rfl
theorem s80_30 : Rn 80 30 L (vI b :: vI a :: st) T σ K ↔ (0 ≤ b ∧ b ≤ 31) ∧ inI (a * 2 ^ b.toNat) ∧ Rn 80 31 L (vI (a * 2 ^ b.toNat) :: st) T σ K := R_ishl (by decide +kernel)
theorem s80_31 : Rn 80 31 L (vI b :: vI a :: st) T σ K ↔ inI (a - b) ∧ Rn 80 32 L (vI (a - b) :: st) T σ K := R_isub (by decide +kernel)
theorem s80_32 : Rn 80 32 [some (vR o), l1, l2] st T σ K ↔ Rn 80 33 [some (vR o), l1, l2] (vR o :: st) T σ K := R_aload_n (n := 0) (by decide +kernel) rfl
theorem s80_33 : Rn 80 33 L (vR o :: st) T σ K ↔ sx_kd T o = 3 ∧ Rn 80 36 L (vI (σ o 1) :: st) T σ K := R_getI (idx := 39) (ci := 3) (k := 1) (by decide +kernel) (by decide +kernel) (Or.inl rfl)
theorem s80_36 : Rn 80 36 [some (vR o), l1, l2] st T σ K ↔ Rn 80 37 [some (vR o), l1, l2] (vR o :: st) T σ K := R_aload_n (n := 0) (by decide +kernel) rfl
theorem s80_37 : Rn 80 37 L (vR o :: st) T σ K ↔ sx_kd T o = 3 ∧ Rn 80 40 L (vI (σ o 11) :: st) T σ K := R_getI (idx := 75) (ci := 3) (k := 11) (by decide +kernel) (by decide +kernel) (Or.inl rfl)
theorem s80_40 : Rn 80 40 L (vI b :: vI a :: st) T σ K ↔ inI (a * b) ∧ Rn 80 41 L (vI (a * b) :: st) T σ K := R_imul (by decide +kernel)
theorem s80_41 : Rn 80 41 L (vI b :: vI a :: st) T σ K ↔ (a < b → Rn 80 57 L st T σ K) ∧ (b ≤ a → Rn 80 44 L st T σ K) := R_icmp_lt (off := 16) (by decide +kernel) (by decide)
theorem s80_44 : Rn 80 44 [some (vR o), l1, l2] st T σ K ↔ Rn 80 45 [some (vR o), l1, l2] (vR o :: st) T σ K := R_aload_n (n := 0) (by decide +kernel) rfl
theorem s80_45 : Rn 80 45 L (vR o :: st) T σ K ↔ sx_kd T o = 3 ∧ ∃ t, sx_rf T o 3 = some t ∧ Rn 80 48 L (vR t :: st) T σ K := R_getR (idx := 15) (ci := 3) (k := 3) (by decide +kernel) (by decide +kernel) rfl
theorem s80_48 : Rn 80 48 [l0, l1, some (vI a)] st T σ K ↔ Rn 80 49 [l0, l1, some (vI a)] (vI a :: st) T σ K := R_iload_n (n := 2) (by decide +kernel) rfl
theorem s80_49 : Rn 80 49 L st T σ K ↔ Rn 80 50 L (vI 0 :: st) T σ K := R_iconst (n := 0) (by decide +kernel) (by decide)
theorem s80_50 : Rn 80 50 L (vI b :: vI a :: vR o :: st) T σ K ↔ (sx_kd T o = 21 ∧ 0 ≤ a ∧ a < sx_ln T o ∧ (b = 0 ∨ b = 1)) ∧ Rn 80 51 L st T (sx_up σ o a b) K := R_zast (by decide +kernel)
theorem s80_51 : Rn 80 51 [some (vR o), l1, l2] st T σ K ↔ Rn 80 52 [some (vR o), l1, l2] (vR o :: st) T σ K := R_aload_n (n := 0) (by decide +kernel) rfl
theorem s80_52 : Rn 80 52 [l0, l1, some (vI a)] st T σ K ↔ Rn 80 53 [l0, l1, some (vI a)] (vI a :: st) T σ K := R_iload_n (n := 2) (by decide +kernel) rfl
theorem s80_53 : Rn 80 53 [l0, some (vI a), l2] st T σ K ↔ Rn 80 54 [l0, some (vI a), l2] (vI a :: st) T σ K := R_iload_n (n := 1) (by decide +kernel) rfl
theorem s80_54 : Rn 80 54 L (vI b :: vI a :: vR o :: st) T σ K ↔ (sx_kd T o = 3 ∧ st.length ≤ 4) ∧ Rn 81 0 [some (vR o), some (vI a), some (vI b), none] [] T σ (fun r T' σ' => Rn 80 57 L (sx_push r st) T' σ' K) := R_V (cm := 81) (n := 2) (idx := 84) (ci := 3) (mx := 4) (vs := [vI a, vI b]) (by decide +kernel) (by decide +kernel) rfl (by decide +kernel) rfl (by decide +kernel) (by decide +kernel)
theorem s80_57 : Rn 80 57 [l0, l1, some (vI a)] st T σ K ↔ inI (a + 1) ∧ Rn 80 60 [l0, l1, some (vI (a + 1))] st T σ K := R_iinc (n := 2) (d := 1) (by decide +kernel) rfl
theorem s80_60 : Rn 80 60 L st T σ K ↔ Rn 80 2 L st T σ K := R_goto (off := -58) (by decide +kernel) (by decide)
theorem s80_63 : Rn 80 63 L [] T σ K ↔ K none T σ := R_retV (by decide +kernel) (by decide +kernel)
theorem s81_0 : Rn 81 0 [some (vR o), l1, l2, l3] st T σ K ↔ Rn 81 1 [some (vR o), l1, l2, l3] (vR o :: st) T σ K := R_aload_n (n := 0) (by decide +kernel) rfl
theorem s81_1 : Rn 81 1 L (vR o :: st) T σ K ↔ sx_kd T o = 3 ∧ ∃ t, sx_rf T o 0 = some t ∧ Rn 81 4 L (vR t :: st) T σ K := R_getR (idx := 35) (ci := 3) (k := 0) (by decide +kernel) (by decide +kernel) rfl
theorem s81_4 : Rn 81 4 [l0, some (vI a), l2, l3] st T σ K ↔ Rn 81 5 [l0, some (vI a), l2, l3] (vI a :: st) T σ K := R_iload_n (n := 1) (by decide +kernel) rfl
theorem s81_5 : Rn 81 5 [l0, l1, some (vI a), l3] st T σ K ↔ Rn 81 6 [l0, l1, some (vI a), l3] (vI a :: st) T σ K := R_iload_n (n := 2) (by decide +kernel) rfl
theorem s81_6 : Rn 81 6 L (vI b :: vI a :: vR o :: st) T σ K ↔ (sx_kd T o = 2 ∧ st.length ≤ 4) ∧ Rn 82 0 [some (vR o), some (vI a), some (vI b), none, none] [] T σ (fun r T' σ' => Rn 81 9 L (sx_push r st) T' σ' K) := R_V (cm := 82) (n := 2) (idx := 87) (ci := 2) (mx := 5) (vs := [vI a, vI b]) (by decide +kernel) (by decide +kernel) rfl (by decide +kernel) rfl (by decide +kernel) (by decide +kernel)
theorem s81_9 : Rn 81 9 [l0, l1, l2, l3] (vI a :: st) T σ K ↔ Rn 81 10 [l0, l1, l2, some (vI a)] st T σ K := R_istore_n (n := 3) (by decide +kernel) rfl
theorem s81_10 : Rn 81 10 [l0, l1, l2, some (vI a)] st T σ K ↔ Rn 81 11 [l0, l1, l2, some (vI a)] (vI a :: st) T σ K := R_iload_n (n := 3) (by decide +kernel) rfl
theorem s81_11 : Rn 81 11 L (vI a :: st) T σ K ↔ (a ≤ 0 → Rn 81 78 L st T σ K) ∧ (0 < a → Rn 81 14 L st T σ K) := R_if_le (off := 67) (by decide +kernel) (by decide)
theorem s81_14 : Rn 81 14 [some (vR o), l1, l2, l3] st T σ K ↔ Rn 81 15 [some (vR o), l1, l2, l3] (vR o :: st) T σ K := R_aload_n (n := 0) (by decide +kernel) rfl
theorem s81_15 : Rn 81 15 L (vR o :: st) T σ K ↔ sx_kd T o = 3 ∧ Rn 81 18 L (vI (σ o 8) :: st) T σ K := R_getI (idx := 45) (ci := 3) (k := 8) (by decide +kernel) (by decide +kernel) (Or.inl rfl)
theorem s81_18 : Rn 81 18 L st T σ K ↔ Rn 81 20 L (vI 40 :: st) T σ K := R_bipush (n := 40) (by decide +kernel) (by decide +kernel)
theorem s81_20 : Rn 81 20 L (vI b :: vI a :: st) T σ K ↔ (b ≤ a → Rn 81 78 L st T σ K) ∧ (a < b → Rn 81 23 L st T σ K) := R_icmp_ge (off := 58) (by decide +kernel) (by decide)
theorem s81_23 : Rn 81 23 [some (vR o), l1, l2, l3] st T σ K ↔ Rn 81 24 [some (vR o), l1, l2, l3] (vR o :: st) T σ K := R_aload_n (n := 0) (by decide +kernel) rfl
theorem s81_24 : Rn 81 24 L (vR o :: st) T σ K ↔ sx_kd T o = 3 ∧ ∃ t, sx_rf T o 4 = some t ∧ Rn 81 27 L (vR t :: st) T σ K := R_getR (idx := 19) (ci := 3) (k := 4) (by decide +kernel) (by decide +kernel) rfl
theorem s81_27 : Rn 81 27 [some (vR o), l1, l2, l3] st T σ K ↔ Rn 81 28 [some (vR o), l1, l2, l3] (vR o :: st) T σ K := R_aload_n (n := 0) (by decide +kernel) rfl
theorem s81_28 : Rn 81 28 L (vR o :: st) T σ K ↔ sx_kd T o = 3 ∧ Rn 81 31 L (vI (σ o 8) :: st) T σ K := R_getI (idx := 45) (ci := 3) (k := 8) (by decide +kernel) (by decide +kernel) (Or.inl rfl)
theorem s81_31 : Rn 81 31 [l0, some (vI a), l2, l3] st T σ K ↔ Rn 81 32 [l0, some (vI a), l2, l3] (vI a :: st) T σ K := R_iload_n (n := 1) (by decide +kernel) rfl
theorem s81_32 : Rn 81 32 L (vI b :: vI a :: vR o :: st) T σ K ↔ (sx_kd T o = 20 ∧ 0 ≤ a ∧ a < sx_ln T o) ∧ Rn 81 33 L st T (sx_up σ o a b) K := R_iast (by decide +kernel)
theorem s81_33 : Rn 81 33 [some (vR o), l1, l2, l3] st T σ K ↔ Rn 81 34 [some (vR o), l1, l2, l3] (vR o :: st) T σ K := R_aload_n (n := 0) (by decide +kernel) rfl
theorem s81_34 : Rn 81 34 L (vR o :: st) T σ K ↔ sx_kd T o = 3 ∧ ∃ t, sx_rf T o 5 = some t ∧ Rn 81 37 L (vR t :: st) T σ K := R_getR (idx := 22) (ci := 3) (k := 5) (by decide +kernel) (by decide +kernel) rfl
theorem s81_37 : Rn 81 37 [some (vR o), l1, l2, l3] st T σ K ↔ Rn 81 38 [some (vR o), l1, l2, l3] (vR o :: st) T σ K := R_aload_n (n := 0) (by decide +kernel) rfl
theorem s81_38 : Rn 81 38 L (vR o :: st) T σ K ↔ sx_kd T o = 3 ∧ Rn 81 41 L (vI (σ o 8) :: st) T σ K := R_getI (idx := 45) (ci := 3) (k := 8) (by decide +kernel) (by decide +kernel) (Or.inl rfl)
theorem s81_41 : Rn 81 41 [l0, l1, some (vI a), l3] st T σ K ↔ Rn 81 42 [l0, l1, some (vI a), l3] (vI a :: st) T σ K := R_iload_n (n := 2) (by decide +kernel) rfl
theorem s81_42 : Rn 81 42 L (vI b :: vI a :: vR o :: st) T σ K ↔ (sx_kd T o = 20 ∧ 0 ≤ a ∧ a < sx_ln T o) ∧ Rn 81 43 L st T (sx_up σ o a b) K := R_iast (by decide +kernel)
theorem s81_43 : Rn 81 43 [some (vR o), l1, l2, l3] st T σ K ↔ Rn 81 44 [some (vR o), l1, l2, l3] (vR o :: st) T σ K := R_aload_n (n := 0) (by decide +kernel) rfl
theorem s81_44 : Rn 81 44 L (vR o :: st) T σ K ↔ sx_kd T o = 3 ∧ ∃ t, sx_rf T o 6 = some t ∧ Rn 81 47 L (vR t :: st) T σ K := R_getR (idx := 25) (ci := 3) (k := 6) (by decide +kernel) (by decide +kernel) rfl
theorem s81_47 : Rn 81 47 [some (vR o), l1, l2, l3] st T σ K ↔ Rn 81 48 [some (vR o), l1, l2, l3] (vR o :: st) T σ K := R_aload_n (n := 0) (by decide +kernel) rfl
theorem s81_48 : Rn 81 48 L (vR o :: st) T σ K ↔ sx_kd T o = 3 ∧ Rn 81 51 L (vI (σ o 8) :: st) T σ K := R_getI (idx := 45) (ci := 3) (k := 8) (by decide +kernel) (by decide +kernel) (Or.inl rfl)
theorem s81_51 : Rn 81 51 [some (vR o), l1, l2, l3] st T σ K ↔ Rn 81 52 [some (vR o), l1, l2, l3] (vR o :: st) T σ K := R_aload_n (n := 0) (by decide +kernel) rfl
theorem s81_52 : Rn 81 52 L (vR o :: st) T σ K ↔ sx_kd T o = 3 ∧ ∃ t, sx_rf T o 2 = some t ∧ Rn 81 55 L (vR t :: st) T σ K := R_getR (idx := 9) (ci := 3) (k := 2) (by decide +kernel) (by decide +kernel) rfl
theorem s81_55 : Rn 81 55 [l0, some (vI a), l2, l3] st T σ K ↔ Rn 81 56 [l0, some (vI a), l2, l3] (vI a :: st) T σ K := R_iload_n (n := 1) (by decide +kernel) rfl
theorem s81_56 : Rn 81 56 L (vI a :: vR o :: st) T σ K ↔ (sx_kd T o = 20 ∧ 0 ≤ a ∧ a < sx_ln T o) ∧ Rn 81 57 L (vI (σ o a) :: st) T σ K := R_iald (by decide +kernel) (by decide)
theorem s81_57 : Rn 81 57 L (vI b :: vI a :: vR o :: st) T σ K ↔ (sx_kd T o = 20 ∧ 0 ≤ a ∧ a < sx_ln T o) ∧ Rn 81 58 L st T (sx_up σ o a b) K := R_iast (by decide +kernel)
theorem s81_58 : Rn 81 58 [some (vR o), l1, l2, l3] st T σ K ↔ Rn 81 59 [some (vR o), l1, l2, l3] (vR o :: st) T σ K := R_aload_n (n := 0) (by decide +kernel) rfl
theorem s81_59 : Rn 81 59 L (vR o :: st) T σ K ↔ sx_kd T o = 3 ∧ ∃ t, sx_rf T o 7 = some t ∧ Rn 81 62 L (vR t :: st) T σ K := R_getR (idx := 28) (ci := 3) (k := 7) (by decide +kernel) (by decide +kernel) rfl
theorem s81_62 : Rn 81 62 [some (vR o), l1, l2, l3] st T σ K ↔ Rn 81 63 [some (vR o), l1, l2, l3] (vR o :: st) T σ K := R_aload_n (n := 0) (by decide +kernel) rfl
theorem s81_63 : Rn 81 63 L (vR o :: st) T σ K ↔ sx_kd T o = 3 ∧ Rn 81 66 L (vI (σ o 8) :: st) T σ K := R_getI (idx := 45) (ci := 3) (k := 8) (by decide +kernel) (by decide +kernel) (Or.inl rfl)
theorem s81_66 : Rn 81 66 [l0, l1, l2, some (vI a)] st T σ K ↔ Rn 81 67 [l0, l1, l2, some (vI a)] (vI a :: st) T σ K := R_iload_n (n := 3) (by decide +kernel) rfl
theorem s81_67 : Rn 81 67 L (vI b :: vI a :: vR o :: st) T σ K ↔ (sx_kd T o = 20 ∧ 0 ≤ a ∧ a < sx_ln T o) ∧ Rn 81 68 L st T (sx_up σ o a b) K := R_iast (by decide +kernel)
theorem s81_68 : Rn 81 68 [some (vR o), l1, l2, l3] st T σ K ↔ Rn 81 69 [some (vR o), l1, l2, l3] (vR o :: st) T σ K := R_aload_n (n := 0) (by decide +kernel) rfl
theorem s81_69 : Rn 81 69 L (vR o :: st) T σ K ↔ Rn 81 70 L (vR o :: vR o :: st) T σ K := R_dup (v := vR o) (by decide +kernel) rfl
theorem s81_70 : Rn 81 70 L (vR o :: st) T σ K ↔ sx_kd T o = 3 ∧ Rn 81 73 L (vI (σ o 8) :: st) T σ K := R_getI (idx := 45) (ci := 3) (k := 8) (by decide +kernel) (by decide +kernel) (Or.inl rfl)
theorem s81_73 : Rn 81 73 L st T σ K ↔ Rn 81 74 L (vI 1 :: st) T σ K := R_iconst (n := 1) (by decide +kernel) (by decide)
theorem s81_74 : Rn 81 74 L (vI b :: vI a :: st) T σ K ↔ inI (a + b) ∧ Rn 81 75 L (vI (a + b) :: st) T σ K := R_iadd (by decide +kernel)
theorem s81_75 : Rn 81 75 L (vI a :: vR o :: st) T σ K ↔ sx_kd T o = 3 ∧ Rn 81 78 L st T (sx_up σ o 8 a) K := R_putI (idx := 45) (ci := 3) (k := 8) (by decide +kernel) (by decide +kernel) rfl rfl
theorem s81_78 : Rn 81 78 L [] T σ K ↔ K none T σ := R_retV (by decide +kernel) (by decide +kernel)
theorem s82_0 : Rn 82 0 L st T σ K ↔ Rn 82 1 L (vI 0 :: st) T σ K := R_iconst (n := 0) (by decide +kernel) (by decide)
theorem s82_1 : Rn 82 1 [l0, l1, l2, l3, l4] (vI a :: st) T σ K ↔ Rn 82 2 [l0, l1, l2, some (vI a), l4] st T σ K := R_istore_n (n := 3) (by decide +kernel) rfl
theorem s82_2 : Rn 82 2 L st T σ K ↔ Rn 82 3 L (vI 0 :: st) T σ K := R_iconst (n := 0) (by decide +kernel) (by decide)
theorem s82_3 : Rn 82 3 [l0, l1, l2, l3, l4] (vI a :: st) T σ K ↔ Rn 82 5 [l0, l1, l2, l3, some (vI a)] st T σ K := R_istore (n := 4) (by decide +kernel) rfl
theorem s82_5 : Rn 82 5 [l0, l1, l2, l3, some (vI a)] st T σ K ↔ Rn 82 7 [l0, l1, l2, l3, some (vI a)] (vI a :: st) T σ K := R_iload (n := 4) (by decide +kernel) rfl
theorem s82_7 : Rn 82 7 L st T σ K ↔ Rn 82 9 L (vI 40 :: st) T σ K := R_bipush (n := 40) (by decide +kernel) (by decide +kernel)
theorem s82_9 : Rn 82 9 L (vI b :: vI a :: st) T σ K ↔ (b ≤ a → Rn 82 32 L st T σ K) ∧ (a < b → Rn 82 12 L st T σ K) := R_icmp_ge (off := 23) (by decide +kernel) (by decide)
theorem s82_12 : Rn 82 12 [some (vR o), l1, l2, l3, l4] st T σ K ↔ Rn 82 13 [some (vR o), l1, l2, l3, l4] (vR o :: st) T σ K := R_aload_n (n := 0) (by decide +kernel) rfl
theorem s82_13 : Rn 82 13 [l0, l1, l2, l3, some (vI a)] st T σ K ↔ Rn 82 15 [l0, l1, l2, l3, some (vI a)] (vI a :: st) T σ K := R_iload (n := 4) (by decide +kernel) rfl
theorem s82_15 : Rn 82 15 [l0, some (vI a), l2, l3, l4] st T σ K ↔ Rn 82 16 [l0, some (vI a), l2, l3, l4] (vI a :: st) T σ K := R_iload_n (n := 1) (by decide +kernel) rfl
theorem s82_16 : Rn 82 16 [l0, l1, some (vI a), l3, l4] st T σ K ↔ Rn 82 17 [l0, l1, some (vI a), l3, l4] (vI a :: st) T σ K := R_iload_n (n := 2) (by decide +kernel) rfl
theorem s82_17 : Rn 82 17 L (vI c :: vI b :: vI a :: vR o :: st) T σ K ↔ (sx_kd T o = 2 ∧ st.length ≤ 4) ∧ Rn 83 0 [some (vR o), some (vI a), some (vI b), some (vI c), none] [] T σ (fun r T' σ' => Rn 82 20 L (sx_push r st) T' σ' K) := R_V (cm := 83) (n := 3) (idx := 92) (ci := 2) (mx := 5) (vs := [vI a, vI b, vI c]) (by decide +kernel) (by decide +kernel) rfl (by decide +kernel) rfl (by decide +kernel) (by decide +kernel)
theorem s82_20 : Rn 82 20 L (vI a :: st) T σ K ↔ (a = 0 → Rn 82 26 L st T σ K) ∧ (a ≠ 0 → Rn 82 23 L st T σ K) := R_if_eq (off := 6) (by decide +kernel) (by decide)
theorem s82_23 : Rn 82 23 [l0, l1, l2, some (vI a), l4] st T σ K ↔ inI (a + 1) ∧ Rn 82 26 [l0, l1, l2, some (vI (a + 1)), l4] st T σ K := R_iinc (n := 3) (d := 1) (by decide +kernel) rfl
theorem s82_26 : Rn 82 26 [l0, l1, l2, l3, some (vI a)] st T σ K ↔ inI (a + 1) ∧ Rn 82 29 [l0, l1, l2, l3, some (vI (a + 1))] st T σ K := R_iinc (n := 4) (d := 1) (by decide +kernel) rfl
theorem s82_29 : Rn 82 29 L st T σ K ↔ Rn 82 5 L st T σ K := R_goto (off := -24) (by decide +kernel) (by decide)
theorem s82_32 : Rn 82 32 [l0, l1, l2, some (vI a), l4] st T σ K ↔ Rn 82 33 [l0, l1, l2, some (vI a), l4] (vI a :: st) T σ K := R_iload_n (n := 3) (by decide +kernel) rfl
theorem s82_33 : Rn 82 33 L [vI a] T σ K ↔ K (some (vI a)) T σ := R_ret (by decide +kernel) (by decide +kernel)
theorem s83_0 : Rn 83 0 [some (vR o), l1, l2, l3, l4] st T σ K ↔ Rn 83 1 [some (vR o), l1, l2, l3, l4] (vR o :: st) T σ K := R_aload_n (n := 0) (by decide +kernel) rfl
theorem s83_1 : Rn 83 1 [l0, l1, some (vI a), l3, l4] st T σ K ↔ Rn 83 2 [l0, l1, some (vI a), l3, l4] (vI a :: st) T σ K := R_iload_n (n := 2) (by decide +kernel) rfl
theorem s83_2 : Rn 83 2 L (vI a :: vR o :: st) T σ K ↔ (sx_kd T o = 2 ∧ st.length ≤ 4) ∧ Rn 49 0 [some (vR o), some (vI a)] [] T σ (fun r T' σ' => Rn 83 5 L (sx_push r st) T' σ' K) := R_V (cm := 49) (n := 1) (idx := 78) (ci := 2) (mx := 2) (vs := [vI a]) (by decide +kernel) (by decide +kernel) rfl (by decide +kernel) rfl (by decide +kernel) (by decide +kernel)
theorem s83_5 : Rn 83 5 L (vI a :: st) T σ K ↔ (a = 0 → Rn 83 17 L st T σ K) ∧ (a ≠ 0 → Rn 83 8 L st T σ K) := R_if_eq (off := 12) (by decide +kernel) (by decide)
theorem s83_8 : Rn 83 8 [some (vR o), l1, l2, l3, l4] st T σ K ↔ Rn 83 9 [some (vR o), l1, l2, l3, l4] (vR o :: st) T σ K := R_aload_n (n := 0) (by decide +kernel) rfl
theorem s83_9 : Rn 83 9 [l0, some (vI a), l2, l3, l4] st T σ K ↔ Rn 83 10 [l0, some (vI a), l2, l3, l4] (vI a :: st) T σ K := R_iload_n (n := 1) (by decide +kernel) rfl
theorem s83_10 : Rn 83 10 [l0, l1, some (vI a), l3, l4] st T σ K ↔ Rn 83 11 [l0, l1, some (vI a), l3, l4] (vI a :: st) T σ K := R_iload_n (n := 2) (by decide +kernel) rfl
theorem s83_11 : Rn 83 11 L (vI b :: vI a :: vR o :: st) T σ K ↔ (sx_kd T o = 2 ∧ st.length ≤ 4) ∧ Rn 56 0 [some (vR o), some (vI a), some (vI b), none, none] [] T σ (fun r T' σ' => Rn 83 14 L (sx_push r st) T' σ' K) := R_V (cm := 56) (n := 2) (idx := 89) (ci := 2) (mx := 5) (vs := [vI a, vI b]) (by decide +kernel) (by decide +kernel) rfl (by decide +kernel) rfl (by decide +kernel) (by decide +kernel)
theorem s83_14 : Rn 83 14 L st T σ K ↔ Rn 83 18 L st T σ K := R_goto (off := 4) (by decide +kernel) (by decide)
theorem s83_17 : Rn 83 17 L st T σ K ↔ Rn 83 18 L (vI (-1) :: st) T σ K := R_iconst (n := -1) (by decide +kernel) (by decide)
theorem s83_18 : Rn 83 18 [l0, l1, l2, l3, l4] (vI a :: st) T σ K ↔ Rn 83 20 [l0, l1, l2, l3, some (vI a)] st T σ K := R_istore (n := 4) (by decide +kernel) rfl
theorem s83_20 : Rn 83 20 [l0, l1, l2, l3, some (vI a)] st T σ K ↔ Rn 83 22 [l0, l1, l2, l3, some (vI a)] (vI a :: st) T σ K := R_iload (n := 4) (by decide +kernel) rfl
theorem s83_22 : Rn 83 22 L st T σ K ↔ Rn 83 23 L (vI (-1) :: st) T σ K := R_iconst (n := -1) (by decide +kernel) (by decide)
theorem s83_23 : Rn 83 23 L (vI b :: vI a :: st) T σ K ↔ (a = b → Rn 83 43 L st T σ K) ∧ (a ≠ b → Rn 83 26 L st T σ K) := R_icmp_eq (off := 20) (by decide +kernel) (by decide)
theorem s83_26 : Rn 83 26 [some (vR o), l1, l2, l3, l4] st T σ K ↔ Rn 83 27 [some (vR o), l1, l2, l3, l4] (vR o :: st) T σ K := R_aload_n (n := 0) (by decide +kernel) rfl
theorem s83_27 : Rn 83 27 L (vR o :: st) T σ K ↔ sx_kd T o = 2 ∧ ∃ t, sx_rf T o 1 = some t ∧ Rn 83 30 L (vR t :: st) T σ K := R_getR (idx := 15) (ci := 2) (k := 1) (by decide +kernel) (by decide +kernel) rfl
theorem s83_30 : Rn 83 30 [l0, l1, l2, l3, some (vI a)] st T σ K ↔ Rn 83 32 [l0, l1, l2, l3, some (vI a)] (vI a :: st) T σ K := R_iload (n := 4) (by decide +kernel) rfl
theorem s83_32 : Rn 83 32 L (vI a :: vR o :: st) T σ K ↔ (sx_kd T o = 20 ∧ 0 ≤ a ∧ a < sx_ln T o) ∧ Rn 83 33 L (vI (σ o a) :: st) T σ K := R_iald (by decide +kernel) (by decide)
theorem s83_33 : Rn 83 33 [l0, l1, l2, some (vI a), l4] st T σ K ↔ Rn 83 34 [l0, l1, l2, some (vI a), l4] (vI a :: st) T σ K := R_iload_n (n := 3) (by decide +kernel) rfl
theorem s83_34 : Rn 83 34 L st T σ K ↔ Rn 83 35 L (vI 1 :: st) T σ K := R_iconst (n := 1) (by decide +kernel) (by decide)
theorem s83_35 : Rn 83 35 L (vI b :: vI a :: st) T σ K ↔ inI (a - b) ∧ Rn 83 36 L (vI (a - b) :: st) T σ K := R_isub (by decide +kernel)
theorem s83_36 : Rn 83 36 L (vI b :: vI a :: st) T σ K ↔ (b ≤ a → Rn 83 43 L st T σ K) ∧ (a < b → Rn 83 39 L st T σ K) := R_icmp_ge (off := 7) (by decide +kernel) (by decide)
theorem s83_39 : Rn 83 39 L st T σ K ↔ Rn 83 40 L (vI 1 :: st) T σ K := R_iconst (n := 1) (by decide +kernel) (by decide)
theorem s83_40 : Rn 83 40 L st T σ K ↔ Rn 83 44 L st T σ K := R_goto (off := 4) (by decide +kernel) (by decide)
theorem s83_43 : Rn 83 43 L st T σ K ↔ Rn 83 44 L (vI 0 :: st) T σ K := R_iconst (n := 0) (by decide +kernel) (by decide)
theorem s83_44 : Rn 83 44 L [vI a] T σ K ↔ (a = 0 ∨ a = 1) ∧ K (some (vI a)) T σ := R_retZ (by decide +kernel) (by decide +kernel)
theorem s84_0 : Rn 84 0 [some (vR o), l1] st T σ K ↔ Rn 84 1 [some (vR o), l1] (vR o :: st) T σ K := R_aload_n (n := 0) (by decide +kernel) rfl
theorem s84_1 : Rn 84 1 L (vR o :: st) T σ K ↔ sx_kd T o = 8 ∧ ∃ t, sx_rf T o 5 = some t ∧ Rn 84 4 L (vR t :: st) T σ K := R_getR (idx := 47) (ci := 8) (k := 5) (by decide +kernel) (by decide +kernel) rfl
theorem s84_4 : Rn 84 4 L (vR o :: st) T σ K ↔ sx_kd T o = 3 ∧ Rn 84 7 L (vI (σ o 10) :: st) T σ K := R_getI (idx := 210) (ci := 3) (k := 10) (by decide +kernel) (by decide +kernel) (Or.inl rfl)
theorem s84_7 : Rn 84 7 L st T σ K ↔ Rn 84 8 L (vI (-1) :: st) T σ K := R_iconst (n := -1) (by decide +kernel) (by decide)
theorem s84_8 : Rn 84 8 L (vI b :: vI a :: st) T σ K ↔ (a ≠ b → Rn 84 13 L st T σ K) ∧ (a = b → Rn 84 11 L st T σ K) := R_icmp_ne (off := 5) (by decide +kernel) (by decide)
theorem s84_11 : Rn 84 11 L st T σ K ↔ Rn 84 12 L (vI (-1) :: st) T σ K := R_iconst (n := -1) (by decide +kernel) (by decide)
theorem s84_12 : Rn 84 12 L [vI a] T σ K ↔ K (some (vI a)) T σ := R_ret (by decide +kernel) (by decide +kernel)
theorem s84_13 : Rn 84 13 [l0, some (vI a)] st T σ K ↔ Rn 84 14 [l0, some (vI a)] (vI a :: st) T σ K := R_iload_n (n := 1) (by decide +kernel) rfl
theorem s84_14 : Rn 84 14 L (vI a :: st) T σ K ↔ sx_sw [(0, 44), (1, 52), (2, 60), (3, 68)] 76 a (fun t => Rn 84 t L st T σ K) := R_table (d := 62) (lo := 0) (hi := 3) (offs := #[30, 38, 46, 54]) (len := 30) (by decide +kernel) (by decide +kernel)
theorem s84_44 : Rn 84 44 [some (vR o), l1] st T σ K ↔ Rn 84 45 [some (vR o), l1] (vR o :: st) T σ K := R_aload_n (n := 0) (by decide +kernel) rfl
theorem s84_45 : Rn 84 45 L (vR o :: st) T σ K ↔ sx_kd T o = 8 ∧ ∃ t, sx_rf T o 5 = some t ∧ Rn 84 48 L (vR t :: st) T σ K := R_getR (idx := 47) (ci := 8) (k := 5) (by decide +kernel) (by decide +kernel) rfl
theorem s84_48 : Rn 84 48 L (vR o :: st) T σ K ↔ sx_kd T o = 3 ∧ Rn 84 51 L (vI (σ o 11) :: st) T σ K := R_getI (idx := 213) (ci := 3) (k := 11) (by decide +kernel) (by decide +kernel) (Or.inl rfl)
theorem s84_51 : Rn 84 51 L [vI a] T σ K ↔ K (some (vI a)) T σ := R_ret (by decide +kernel) (by decide +kernel)
theorem s84_52 : Rn 84 52 [some (vR o), l1] st T σ K ↔ Rn 84 53 [some (vR o), l1] (vR o :: st) T σ K := R_aload_n (n := 0) (by decide +kernel) rfl
theorem s84_53 : Rn 84 53 L (vR o :: st) T σ K ↔ sx_kd T o = 8 ∧ ∃ t, sx_rf T o 5 = some t ∧ Rn 84 56 L (vR t :: st) T σ K := R_getR (idx := 47) (ci := 8) (k := 5) (by decide +kernel) (by decide +kernel) rfl
theorem s84_56 : Rn 84 56 L (vR o :: st) T σ K ↔ sx_kd T o = 3 ∧ Rn 84 59 L (vI (σ o 9) :: st) T σ K := R_getI (idx := 216) (ci := 3) (k := 9) (by decide +kernel) (by decide +kernel) (Or.inl rfl)
theorem s84_59 : Rn 84 59 L [vI a] T σ K ↔ K (some (vI a)) T σ := R_ret (by decide +kernel) (by decide +kernel)
theorem s84_60 : Rn 84 60 [some (vR o), l1] st T σ K ↔ Rn 84 61 [some (vR o), l1] (vR o :: st) T σ K := R_aload_n (n := 0) (by decide +kernel) rfl
theorem s84_61 : Rn 84 61 L (vR o :: st) T σ K ↔ sx_kd T o = 8 ∧ ∃ t, sx_rf T o 5 = some t ∧ Rn 84 64 L (vR t :: st) T σ K := R_getR (idx := 47) (ci := 8) (k := 5) (by decide +kernel) (by decide +kernel) rfl
theorem s84_64 : Rn 84 64 L (vR o :: st) T σ K ↔ sx_kd T o = 3 ∧ Rn 84 67 L (vI (σ o 8) :: st) T σ K := R_getI (idx := 219) (ci := 3) (k := 8) (by decide +kernel) (by decide +kernel) (Or.inl rfl)
theorem s84_67 : Rn 84 67 L [vI a] T σ K ↔ K (some (vI a)) T σ := R_ret (by decide +kernel) (by decide +kernel)
theorem s84_68 : Rn 84 68 [some (vR o), l1] st T σ K ↔ Rn 84 69 [some (vR o), l1] (vR o :: st) T σ K := R_aload_n (n := 0) (by decide +kernel) rfl
theorem s84_69 : Rn 84 69 L (vR o :: st) T σ K ↔ sx_kd T o = 8 ∧ ∃ t, sx_rf T o 5 = some t ∧ Rn 84 72 L (vR t :: st) T σ K := R_getR (idx := 47) (ci := 8) (k := 5) (by decide +kernel) (by decide +kernel) rfl
theorem s84_72 : Rn 84 72 L (vR o :: st) T σ K ↔ (sx_kd T o = 3 ∧ st.length ≤ 4) ∧ Rn 85 0 [some (vR o), none, none] [] T σ (fun r T' σ' => Rn 84 75 L (sx_push r st) T' σ' K) := R_V (cm := 85) (n := 0) (idx := 222) (ci := 3) (mx := 3) (vs := []) (by decide +kernel) (by decide +kernel) rfl (by decide +kernel) rfl (by decide +kernel) (by decide +kernel)
theorem s84_75 : Rn 84 75 L [vI a] T σ K ↔ K (some (vI a)) T σ := R_ret (by decide +kernel) (by decide +kernel)
theorem s84_76 : Rn 84 76 L st T σ K ↔ Rn 84 77 L (vI (-1) :: st) T σ K := R_iconst (n := -1) (by decide +kernel) (by decide)
theorem s84_77 : Rn 84 77 L [vI a] T σ K ↔ K (some (vI a)) T σ := R_ret (by decide +kernel) (by decide +kernel)
theorem s85_0 : Rn 85 0 L st T σ K ↔ Rn 85 1 L (vI 0 :: st) T σ K := R_iconst (n := 0) (by decide +kernel) (by decide)
theorem s85_1 : Rn 85 1 [l0, l1, l2] (vI a :: st) T σ K ↔ Rn 85 2 [l0, some (vI a), l2] st T σ K := R_istore_n (n := 1) (by decide +kernel) rfl
theorem s85_2 : Rn 85 2 L st T σ K ↔ Rn 85 3 L (vI 0 :: st) T σ K := R_iconst (n := 0) (by decide +kernel) (by decide)
theorem s85_3 : Rn 85 3 [l0, l1, l2] (vI a :: st) T σ K ↔ Rn 85 4 [l0, l1, some (vI a)] st T σ K := R_istore_n (n := 2) (by decide +kernel) rfl
theorem s85_4 : Rn 85 4 [l0, l1, some (vI a)] st T σ K ↔ Rn 85 5 [l0, l1, some (vI a)] (vI a :: st) T σ K := R_iload_n (n := 2) (by decide +kernel) rfl
theorem s85_5 : Rn 85 5 [some (vR o), l1, l2] st T σ K ↔ Rn 85 6 [some (vR o), l1, l2] (vR o :: st) T σ K := R_aload_n (n := 0) (by decide +kernel) rfl
theorem s85_6 : Rn 85 6 L (vR o :: st) T σ K ↔ sx_kd T o = 3 ∧ Rn 85 9 L (vI (σ o 8) :: st) T σ K := R_getI (idx := 45) (ci := 3) (k := 8) (by decide +kernel) (by decide +kernel) (Or.inl rfl)
theorem s85_9 : Rn 85 9 L (vI b :: vI a :: st) T σ K ↔ (b ≤ a → Rn 85 27 L st T σ K) ∧ (a < b → Rn 85 12 L st T σ K) := R_icmp_ge (off := 18) (by decide +kernel) (by decide)
theorem s85_12 : Rn 85 12 [l0, some (vI a), l2] st T σ K ↔ Rn 85 13 [l0, some (vI a), l2] (vI a :: st) T σ K := R_iload_n (n := 1) (by decide +kernel) rfl
theorem s85_13 : Rn 85 13 [some (vR o), l1, l2] st T σ K ↔ Rn 85 14 [some (vR o), l1, l2] (vR o :: st) T σ K := R_aload_n (n := 0) (by decide +kernel) rfl
theorem s85_14 : Rn 85 14 L (vR o :: st) T σ K ↔ sx_kd T o = 3 ∧ ∃ t, sx_rf T o 7 = some t ∧ Rn 85 17 L (vR t :: st) T σ K := R_getR (idx := 28) (ci := 3) (k := 7) (by decide +kernel) (by decide +kernel) rfl
theorem s85_17 : Rn 85 17 [l0, l1, some (vI a)] st T σ K ↔ Rn 85 18 [l0, l1, some (vI a)] (vI a :: st) T σ K := R_iload_n (n := 2) (by decide +kernel) rfl
theorem s85_18 : Rn 85 18 L (vI a :: vR o :: st) T σ K ↔ (sx_kd T o = 20 ∧ 0 ≤ a ∧ a < sx_ln T o) ∧ Rn 85 19 L (vI (σ o a) :: st) T σ K := R_iald (by decide +kernel) (by decide)
theorem s85_19 : Rn 85 19 L (vI b :: vI a :: st) T σ K ↔ inI (a + b) ∧ Rn 85 20 L (vI (a + b) :: st) T σ K := R_iadd (by decide +kernel)
theorem s85_20 : Rn 85 20 [l0, l1, l2] (vI a :: st) T σ K ↔ Rn 85 21 [l0, some (vI a), l2] st T σ K := R_istore_n (n := 1) (by decide +kernel) rfl
theorem s85_21 : Rn 85 21 [l0, l1, some (vI a)] st T σ K ↔ inI (a + 1) ∧ Rn 85 24 [l0, l1, some (vI (a + 1))] st T σ K := R_iinc (n := 2) (d := 1) (by decide +kernel) rfl
theorem s85_24 : Rn 85 24 L st T σ K ↔ Rn 85 4 L st T σ K := R_goto (off := -20) (by decide +kernel) (by decide)
theorem s85_27 : Rn 85 27 [l0, some (vI a), l2] st T σ K ↔ Rn 85 28 [l0, some (vI a), l2] (vI a :: st) T σ K := R_iload_n (n := 1) (by decide +kernel) rfl
theorem s85_28 : Rn 85 28 L [vI a] T σ K ↔ K (some (vI a)) T σ := R_ret (by decide +kernel) (by decide +kernel)
theorem s86_0 : Rn 86 0 [l0, some (vI a), l2] st T σ K ↔ Rn 86 1 [l0, some (vI a), l2] (vI a :: st) T σ K := R_iload_n (n := 1) (by decide +kernel) rfl
theorem s86_1 : Rn 86 1 L (vI a :: st) T σ K ↔ (a < 0 → Rn 86 15 L st T σ K) ∧ (0 ≤ a → Rn 86 4 L st T σ K) := R_if_lt (off := 14) (by decide +kernel) (by decide)
theorem s86_4 : Rn 86 4 [l0, some (vI a), l2] st T σ K ↔ Rn 86 5 [l0, some (vI a), l2] (vI a :: st) T σ K := R_iload_n (n := 1) (by decide +kernel) rfl
theorem s86_5 : Rn 86 5 [some (vR o), l1, l2] st T σ K ↔ Rn 86 6 [some (vR o), l1, l2] (vR o :: st) T σ K := R_aload_n (n := 0) (by decide +kernel) rfl
theorem s86_6 : Rn 86 6 L (vR o :: st) T σ K ↔ sx_kd T o = 8 ∧ ∃ t, sx_rf T o 5 = some t ∧ Rn 86 9 L (vR t :: st) T σ K := R_getR (idx := 47) (ci := 8) (k := 5) (by decide +kernel) (by decide +kernel) rfl
theorem s86_9 : Rn 86 9 L (vR o :: st) T σ K ↔ sx_kd T o = 3 ∧ Rn 86 12 L (vI (σ o 8) :: st) T σ K := R_getI (idx := 219) (ci := 3) (k := 8) (by decide +kernel) (by decide +kernel) (Or.inl rfl)
theorem s86_12 : Rn 86 12 L (vI b :: vI a :: st) T σ K ↔ (a < b → Rn 86 17 L st T σ K) ∧ (b ≤ a → Rn 86 15 L st T σ K) := R_icmp_lt (off := 5) (by decide +kernel) (by decide)
theorem s86_15 : Rn 86 15 L st T σ K ↔ Rn 86 16 L (vI (-1) :: st) T σ K := R_iconst (n := -1) (by decide +kernel) (by decide)
theorem s86_16 : Rn 86 16 L [vI a] T σ K ↔ K (some (vI a)) T σ := R_ret (by decide +kernel) (by decide +kernel)
theorem s86_17 : Rn 86 17 [l0, l1, some (vI a)] st T σ K ↔ Rn 86 18 [l0, l1, some (vI a)] (vI a :: st) T σ K := R_iload_n (n := 2) (by decide +kernel) rfl
theorem s86_18 : Rn 86 18 L (vI a :: st) T σ K ↔ sx_sw [(0, 48), (1, 58), (2, 68), (3, 78)] 88 a (fun t => Rn 86 t L st T σ K) := R_table (d := 70) (lo := 0) (hi := 3) (offs := #[30, 40, 50, 60]) (len := 30) (by decide +kernel) (by decide +kernel)
theorem s86_48 : Rn 86 48 [some (vR o), l1, l2] st T σ K ↔ Rn 86 49 [some (vR o), l1, l2] (vR o :: st) T σ K := R_aload_n (n := 0) (by decide +kernel) rfl
theorem s86_49 : Rn 86 49 L (vR o :: st) T σ K ↔ sx_kd T o = 8 ∧ ∃ t, sx_rf T o 5 = some t ∧ Rn 86 52 L (vR t :: st) T σ K := R_getR (idx := 47) (ci := 8) (k := 5) (by decide +kernel) (by decide +kernel) rfl
theorem s86_52 : Rn 86 52 L (vR o :: st) T σ K ↔ sx_kd T o = 3 ∧ ∃ t, sx_rf T o 4 = some t ∧ Rn 86 55 L (vR t :: st) T σ K := R_getR (idx := 225) (ci := 3) (k := 4) (by decide +kernel) (by decide +kernel) rfl
theorem s86_55 : Rn 86 55 [l0, some (vI a), l2] st T σ K ↔ Rn 86 56 [l0, some (vI a), l2] (vI a :: st) T σ K := R_iload_n (n := 1) (by decide +kernel) rfl
theorem s86_56 : Rn 86 56 L (vI a :: vR o :: st) T σ K ↔ (sx_kd T o = 20 ∧ 0 ≤ a ∧ a < sx_ln T o) ∧ Rn 86 57 L (vI (σ o a) :: st) T σ K := R_iald (by decide +kernel) (by decide)
theorem s86_57 : Rn 86 57 L [vI a] T σ K ↔ K (some (vI a)) T σ := R_ret (by decide +kernel) (by decide +kernel)
theorem s86_58 : Rn 86 58 [some (vR o), l1, l2] st T σ K ↔ Rn 86 59 [some (vR o), l1, l2] (vR o :: st) T σ K := R_aload_n (n := 0) (by decide +kernel) rfl
theorem s86_59 : Rn 86 59 L (vR o :: st) T σ K ↔ sx_kd T o = 8 ∧ ∃ t, sx_rf T o 5 = some t ∧ Rn 86 62 L (vR t :: st) T σ K := R_getR (idx := 47) (ci := 8) (k := 5) (by decide +kernel) (by decide +kernel) rfl
theorem s86_62 : Rn 86 62 L (vR o :: st) T σ K ↔ sx_kd T o = 3 ∧ ∃ t, sx_rf T o 5 = some t ∧ Rn 86 65 L (vR t :: st) T σ K := R_getR (idx := 228) (ci := 3) (k := 5) (by decide +kernel) (by decide +kernel) rfl
theorem s86_65 : Rn 86 65 [l0, some (vI a), l2] st T σ K ↔ Rn 86 66 [l0, some (vI a), l2] (vI a :: st) T σ K := R_iload_n (n := 1) (by decide +kernel) rfl
theorem s86_66 : Rn 86 66 L (vI a :: vR o :: st) T σ K ↔ (sx_kd T o = 20 ∧ 0 ≤ a ∧ a < sx_ln T o) ∧ Rn 86 67 L (vI (σ o a) :: st) T σ K := R_iald (by decide +kernel) (by decide)
theorem s86_67 : Rn 86 67 L [vI a] T σ K ↔ K (some (vI a)) T σ := R_ret (by decide +kernel) (by decide +kernel)
theorem s86_68 : Rn 86 68 [some (vR o), l1, l2] st T σ K ↔ Rn 86 69 [some (vR o), l1, l2] (vR o :: st) T σ K := R_aload_n (n := 0) (by decide +kernel) rfl
theorem s86_69 : Rn 86 69 L (vR o :: st) T σ K ↔ sx_kd T o = 8 ∧ ∃ t, sx_rf T o 5 = some t ∧ Rn 86 72 L (vR t :: st) T σ K := R_getR (idx := 47) (ci := 8) (k := 5) (by decide +kernel) (by decide +kernel) rfl
theorem s86_72 : Rn 86 72 L (vR o :: st) T σ K ↔ sx_kd T o = 3 ∧ ∃ t, sx_rf T o 6 = some t ∧ Rn 86 75 L (vR t :: st) T σ K := R_getR (idx := 231) (ci := 3) (k := 6) (by decide +kernel) (by decide +kernel) rfl
theorem s86_75 : Rn 86 75 [l0, some (vI a), l2] st T σ K ↔ Rn 86 76 [l0, some (vI a), l2] (vI a :: st) T σ K := R_iload_n (n := 1) (by decide +kernel) rfl
theorem s86_76 : Rn 86 76 L (vI a :: vR o :: st) T σ K ↔ (sx_kd T o = 20 ∧ 0 ≤ a ∧ a < sx_ln T o) ∧ Rn 86 77 L (vI (σ o a) :: st) T σ K := R_iald (by decide +kernel) (by decide)
theorem s86_77 : Rn 86 77 L [vI a] T σ K ↔ K (some (vI a)) T σ := R_ret (by decide +kernel) (by decide +kernel)
theorem s86_78 : Rn 86 78 [some (vR o), l1, l2] st T σ K ↔ Rn 86 79 [some (vR o), l1, l2] (vR o :: st) T σ K := R_aload_n (n := 0) (by decide +kernel) rfl
theorem s86_79 : Rn 86 79 L (vR o :: st) T σ K ↔ sx_kd T o = 8 ∧ ∃ t, sx_rf T o 5 = some t ∧ Rn 86 82 L (vR t :: st) T σ K := R_getR (idx := 47) (ci := 8) (k := 5) (by decide +kernel) (by decide +kernel) rfl
theorem s86_82 : Rn 86 82 L (vR o :: st) T σ K ↔ sx_kd T o = 3 ∧ ∃ t, sx_rf T o 7 = some t ∧ Rn 86 85 L (vR t :: st) T σ K := R_getR (idx := 234) (ci := 3) (k := 7) (by decide +kernel) (by decide +kernel) rfl
theorem s86_85 : Rn 86 85 [l0, some (vI a), l2] st T σ K ↔ Rn 86 86 [l0, some (vI a), l2] (vI a :: st) T σ K := R_iload_n (n := 1) (by decide +kernel) rfl
theorem s86_86 : Rn 86 86 L (vI a :: vR o :: st) T σ K ↔ (sx_kd T o = 20 ∧ 0 ≤ a ∧ a < sx_ln T o) ∧ Rn 86 87 L (vI (σ o a) :: st) T σ K := R_iald (by decide +kernel) (by decide)
theorem s86_87 : Rn 86 87 L [vI a] T σ K ↔ K (some (vI a)) T σ := R_ret (by decide +kernel) (by decide +kernel)
theorem s86_88 : Rn 86 88 L st T σ K ↔ Rn 86 89 L (vI (-1) :: st) T σ K := R_iconst (n := -1) (by decide +kernel) (by decide)
theorem s86_89 : Rn 86 89 L [vI a] T σ K ↔ K (some (vI a)) T σ := R_ret (by decide +kernel) (by decide +kernel)
theorem s87_0 : Rn 87 0 [l0, some (vI a), l2, l3, l4, l5, l6] st T σ K ↔ Rn 87 1 [l0, some (vI a), l2, l3, l4, l5, l6] (vI a :: st) T σ K := R_iload_n (n := 1) (by decide +kernel) rfl
theorem s87_1 : Rn 87 1 [l0, l1, some (vI a), l3, l4, l5, l6] st T σ K ↔ Rn 87 2 [l0, l1, some (vI a), l3, l4, l5, l6] (vI a :: st) T σ K := R_iload_n (n := 2) (by decide +kernel) rfl
theorem s87_2 : Rn 87 2 [l0, l1, l2, some (vI a), l4, l5, l6] st T σ K ↔ Rn 87 3 [l0, l1, l2, some (vI a), l4, l5, l6] (vI a :: st) T σ K := R_iload_n (n := 3) (by decide +kernel) rfl
theorem s87_3 : Rn 87 3 L (vI c :: vI b :: vI a :: st) T σ K ↔ st.length ≤ 4 ∧ Rn 33 0 [some (vI a), some (vI b), some (vI c)] [] T σ (fun r T' σ' => Rn 87 6 L (sx_push r st) T' σ' K) := R_S (cm := 33) (n := 3) (idx := 169) (mx := 3) (vs := [vI a, vI b, vI c]) (by decide +kernel) (Or.inl (by decide +kernel)) rfl (by decide +kernel) rfl (by decide +kernel)
theorem s87_6 : Rn 87 6 [l0, l1, l2, l3, l4, l5, l6] (vI a :: st) T σ K ↔ Rn 87 8 [l0, l1, l2, l3, l4, some (vI a), l6] st T σ K := R_istore (n := 5) (by decide +kernel) rfl
theorem s87_8 : Rn 87 8 [l0, l1, l2, l3, l4, some (vI a), l6] st T σ K ↔ Rn 87 10 [l0, l1, l2, l3, l4, some (vI a), l6] (vI a :: st) T σ K := R_iload (n := 5) (by decide +kernel) rfl
theorem s87_10 : Rn 87 10 L st T σ K ↔ Rn 87 11 L (vI (-1) :: st) T σ K := R_iconst (n := -1) (by decide +kernel) (by decide)
theorem s87_11 : Rn 87 11 L (vI b :: vI a :: st) T σ K ↔ (a = b → Rn 87 33 L st T σ K) ∧ (a ≠ b → Rn 87 14 L st T σ K) := R_icmp_eq (off := 22) (by decide +kernel) (by decide)
theorem s87_14 : Rn 87 14 [l0, l1, l2, l3, some (vI a), l5, l6] st T σ K ↔ Rn 87 16 [l0, l1, l2, l3, some (vI a), l5, l6] (vI a :: st) T σ K := R_iload (n := 4) (by decide +kernel) rfl
theorem s87_16 : Rn 87 16 L (vI a :: st) T σ K ↔ st.length ≤ 4 ∧ Rn 88 0 [some (vI a)] [] T σ (fun r T' σ' => Rn 87 19 L (sx_push r st) T' σ' K) := R_S (cm := 88) (n := 1) (idx := 237) (mx := 1) (vs := [vI a]) (by decide +kernel) (Or.inl (by decide +kernel)) rfl (by decide +kernel) rfl (by decide +kernel)
theorem s87_19 : Rn 87 19 L (vI a :: st) T σ K ↔ (a = 0 → Rn 87 33 L st T σ K) ∧ (a ≠ 0 → Rn 87 22 L st T σ K) := R_if_eq (off := 14) (by decide +kernel) (by decide)
theorem s87_22 : Rn 87 22 [some (vR o), l1, l2, l3, l4, l5, l6] st T σ K ↔ Rn 87 23 [some (vR o), l1, l2, l3, l4, l5, l6] (vR o :: st) T σ K := R_aload_n (n := 0) (by decide +kernel) rfl
theorem s87_23 : Rn 87 23 [l0, l1, l2, l3, l4, some (vI a), l6] st T σ K ↔ Rn 87 25 [l0, l1, l2, l3, l4, some (vI a), l6] (vI a :: st) T σ K := R_iload (n := 5) (by decide +kernel) rfl
theorem s87_25 : Rn 87 25 [l0, l1, l2, l3, some (vI a), l5, l6] st T σ K ↔ Rn 87 27 [l0, l1, l2, l3, some (vI a), l5, l6] (vI a :: st) T σ K := R_iload (n := 4) (by decide +kernel) rfl
theorem s87_27 : Rn 87 27 L (vI b :: vI a :: vR o :: st) T σ K ↔ (sx_kd T o = 8 ∧ st.length ≤ 4) ∧ Rn 89 0 [some (vR o), some (vI a), some (vI b), none, none, none] [] T σ (fun r T' σ' => Rn 87 30 L (sx_push r st) T' σ' K) := R_V (cm := 89) (n := 2) (idx := 240) (ci := 8) (mx := 6) (vs := [vI a, vI b]) (by decide +kernel) (by decide +kernel) rfl (by decide +kernel) rfl (by decide +kernel) (by decide +kernel)
theorem s87_30 : Rn 87 30 L st T σ K ↔ Rn 87 34 L st T σ K := R_goto (off := 4) (by decide +kernel) (by decide)
theorem s87_33 : Rn 87 33 L st T σ K ↔ Rn 87 34 L (vI (-1) :: st) T σ K := R_iconst (n := -1) (by decide +kernel) (by decide)
theorem s87_34 : Rn 87 34 [l0, l1, l2, l3, l4, l5, l6] (vI a :: st) T σ K ↔ Rn 87 36 [l0, l1, l2, l3, l4, l5, some (vI a)] st T σ K := R_istore (n := 6) (by decide +kernel) rfl
theorem s87_36 : Rn 87 36 [some (vR o), l1, l2, l3, l4, l5, l6] st T σ K ↔ Rn 87 37 [some (vR o), l1, l2, l3, l4, l5, l6] (vR o :: st) T σ K := R_aload_n (n := 0) (by decide +kernel) rfl
theorem s87_37 : Rn 87 37 L (vR o :: st) T σ K ↔ sx_kd T o = 8 ∧ ∃ t, sx_rf T o 0 = some t ∧ Rn 87 40 L (vR t :: st) T σ K := R_getR (idx := 10) (ci := 8) (k := 0) (by decide +kernel) (by decide +kernel) rfl
theorem s87_40 : Rn 87 40 L st T σ K ↔ Rn 87 41 L (vI 0 :: st) T σ K := R_iconst (n := 0) (by decide +kernel) (by decide)
theorem s87_41 : Rn 87 41 L (vI a :: vR o :: st) T σ K ↔ sx_kd T o = 6 ∧ Rn 87 44 L st T (sx_up σ o 1 a) K := R_putI (idx := 85) (ci := 6) (k := 1) (by decide +kernel) (by decide +kernel) rfl rfl
theorem s87_44 : Rn 87 44 [l0, l1, l2, l3, l4, l5, some (vI a)] st T σ K ↔ Rn 87 46 [l0, l1, l2, l3, l4, l5, some (vI a)] (vI a :: st) T σ K := R_iload (n := 6) (by decide +kernel) rfl
theorem s87_46 : Rn 87 46 L [vI a] T σ K ↔ K (some (vI a)) T σ := R_ret (by decide +kernel) (by decide +kernel)
theorem s88_0 : Rn 88 0 [some (vI a)] st T σ K ↔ Rn 88 1 [some (vI a)] (vI a :: st) T σ K := R_iload_n (n := 0) (by decide +kernel) rfl
theorem s88_1 : Rn 88 1 L (vI a :: st) T σ K ↔ (a < 0 → Rn 88 15 L st T σ K) ∧ (0 ≤ a → Rn 88 4 L st T σ K) := R_if_lt (off := 14) (by decide +kernel) (by decide)
theorem s88_4 : Rn 88 4 [some (vI a)] st T σ K ↔ Rn 88 5 [some (vI a)] (vI a :: st) T σ K := R_iload_n (n := 0) (by decide +kernel) rfl
theorem s88_5 : Rn 88 5 L st T σ K ↔ Rn 88 8 L (vI 999 :: st) T σ K := R_sipush (n := 999) (by decide +kernel) (by decide +kernel)
theorem s88_8 : Rn 88 8 L (vI b :: vI a :: st) T σ K ↔ (b < a → Rn 88 15 L st T σ K) ∧ (a ≤ b → Rn 88 11 L st T σ K) := R_icmp_gt (off := 7) (by decide +kernel) (by decide)
theorem s88_11 : Rn 88 11 L st T σ K ↔ Rn 88 12 L (vI 1 :: st) T σ K := R_iconst (n := 1) (by decide +kernel) (by decide)
theorem s88_12 : Rn 88 12 L st T σ K ↔ Rn 88 16 L st T σ K := R_goto (off := 4) (by decide +kernel) (by decide)
theorem s88_15 : Rn 88 15 L st T σ K ↔ Rn 88 16 L (vI 0 :: st) T σ K := R_iconst (n := 0) (by decide +kernel) (by decide)
theorem s88_16 : Rn 88 16 L [vI a] T σ K ↔ (a = 0 ∨ a = 1) ∧ K (some (vI a)) T σ := R_retZ (by decide +kernel) (by decide +kernel)
theorem s89_0 : Rn 89 0 [some (vR o), l1, l2, l3, l4, l5] st T σ K ↔ Rn 89 1 [some (vR o), l1, l2, l3, l4, l5] (vR o :: st) T σ K := R_aload_n (n := 0) (by decide +kernel) rfl
theorem s89_1 : Rn 89 1 L (vR o :: st) T σ K ↔ sx_kd T o = 8 ∧ ∃ t, sx_rf T o 0 = some t ∧ Rn 89 4 L (vR t :: st) T σ K := R_getR (idx := 10) (ci := 8) (k := 0) (by decide +kernel) (by decide +kernel) rfl
theorem s89_4 : Rn 89 4 L (vR o :: st) T σ K ↔ sx_kd T o = 6 ∧ Rn 89 7 L (vI (σ o 1) :: st) T σ K := R_getI (idx := 85) (ci := 6) (k := 1) (by decide +kernel) (by decide +kernel) (Or.inl rfl)
theorem s89_7 : Rn 89 7 L st T σ K ↔ Rn 89 8 L (vI 2 :: st) T σ K := R_iconst (n := 2) (by decide +kernel) (by decide)
theorem s89_8 : Rn 89 8 L (vI b :: vI a :: st) T σ K ↔ 0 < b ∧ inI (a.tdiv b) ∧ Rn 89 9 L (vI (a.tdiv b) :: st) T σ K := R_idiv (by decide +kernel)
theorem s89_9 : Rn 89 9 [l0, l1, l2, l3, l4, l5] (vI a :: st) T σ K ↔ Rn 89 10 [l0, l1, l2, some (vI a), l4, l5] st T σ K := R_istore_n (n := 3) (by decide +kernel) rfl
theorem s89_10 : Rn 89 10 [some (vR o), l1, l2, l3, l4, l5] st T σ K ↔ Rn 89 11 [some (vR o), l1, l2, l3, l4, l5] (vR o :: st) T σ K := R_aload_n (n := 0) (by decide +kernel) rfl
theorem s89_11 : Rn 89 11 L (vR o :: st) T σ K ↔ sx_kd T o = 8 ∧ ∃ t, sx_rf T o 0 = some t ∧ Rn 89 14 L (vR t :: st) T σ K := R_getR (idx := 10) (ci := 8) (k := 0) (by decide +kernel) (by decide +kernel) rfl
theorem s89_14 : Rn 89 14 L (vR o :: st) T σ K ↔ sx_kd T o = 6 ∧ Rn 89 17 L (vI (σ o 1) :: st) T σ K := R_getI (idx := 85) (ci := 6) (k := 1) (by decide +kernel) (by decide +kernel) (Or.inl rfl)
theorem s89_17 : Rn 89 17 L st T σ K ↔ Rn 89 18 L (vI 2 :: st) T σ K := R_iconst (n := 2) (by decide +kernel) (by decide)
theorem s89_18 : Rn 89 18 L (vI b :: vI a :: st) T σ K ↔ 0 < b ∧ inI (a.tmod b) ∧ Rn 89 19 L (vI (a.tmod b) :: st) T σ K := R_irem (by decide +kernel)
theorem s89_19 : Rn 89 19 L (vI a :: st) T σ K ↔ (a ≠ 0 → Rn 89 38 L st T σ K) ∧ (a = 0 → Rn 89 22 L st T σ K) := R_if_ne (off := 19) (by decide +kernel) (by decide)
theorem s89_22 : Rn 89 22 [l0, l1, l2, some (vI a), l4, l5] st T σ K ↔ Rn 89 23 [l0, l1, l2, some (vI a), l4, l5] (vI a :: st) T σ K := R_iload_n (n := 3) (by decide +kernel) rfl
theorem s89_23 : Rn 89 23 L st T σ K ↔ Rn 89 25 L (vI 40 :: st) T σ K := R_bipush (n := 40) (by decide +kernel) (by decide +kernel)
theorem s89_25 : Rn 89 25 L (vI b :: vI a :: st) T σ K ↔ (b < a → Rn 89 38 L st T σ K) ∧ (a ≤ b → Rn 89 28 L st T σ K) := R_icmp_gt (off := 13) (by decide +kernel) (by decide)
theorem s89_28 : Rn 89 28 [some (vR o), l1, l2, l3, l4, l5] st T σ K ↔ Rn 89 29 [some (vR o), l1, l2, l3, l4, l5] (vR o :: st) T σ K := R_aload_n (n := 0) (by decide +kernel) rfl
theorem s89_29 : Rn 89 29 [l0, l1, l2, some (vI a), l4, l5] st T σ K ↔ Rn 89 30 [l0, l1, l2, some (vI a), l4, l5] (vI a :: st) T σ K := R_iload_n (n := 3) (by decide +kernel) rfl
theorem s89_30 : Rn 89 30 [l0, some (vI a), l2, l3, l4, l5] st T σ K ↔ Rn 89 31 [l0, some (vI a), l2, l3, l4, l5] (vI a :: st) T σ K := R_iload_n (n := 1) (by decide +kernel) rfl
theorem s89_31 : Rn 89 31 [l0, l1, some (vI a), l3, l4, l5] st T σ K ↔ Rn 89 32 [l0, l1, some (vI a), l3, l4, l5] (vI a :: st) T σ K := R_iload_n (n := 2) (by decide +kernel) rfl
theorem s89_32 : Rn 89 32 L (vI c :: vI b :: vI a :: vR o :: st) T σ K ↔ (sx_kd T o = 8 ∧ st.length ≤ 4) ∧ Rn 90 0 [some (vR o), some (vI a), some (vI b), some (vI c), none, none, none] [] T σ (fun r T' σ' => Rn 89 35 L (sx_push r st) T' σ' K) := R_V (cm := 90) (n := 3) (idx := 243) (ci := 8) (mx := 7) (vs := [vI a, vI b, vI c]) (by decide +kernel) (by decide +kernel) rfl (by decide +kernel) rfl (by decide +kernel) (by decide +kernel)
theorem s89_35 : Rn 89 35 L (vI a :: st) T σ K ↔ (a ≠ 0 → Rn 89 40 L st T σ K) ∧ (a = 0 → Rn 89 38 L st T σ K) := R_if_ne (off := 5) (by decide +kernel) (by decide)
theorem s89_38 : Rn 89 38 L st T σ K ↔ Rn 89 39 L (vI (-1) :: st) T σ K := R_iconst (n := -1) (by decide +kernel) (by decide)
theorem s89_39 : Rn 89 39 L [vI a] T σ K ↔ K (some (vI a)) T σ := R_ret (by decide +kernel) (by decide +kernel)
theorem s89_40 : Rn 89 40 L st T σ K ↔ Rn 89 41 L (vI 0 :: st) T σ K := R_iconst (n := 0) (by decide +kernel) (by decide)
theorem s89_41 : Rn 89 41 [l0, l1, l2, l3, l4, l5] (vI a :: st) T σ K ↔ Rn 89 43 [l0, l1, l2, l3, some (vI a), l5] st T σ K := R_istore (n := 4) (by decide +kernel) rfl
theorem s89_43 : Rn 89 43 L st T σ K ↔ Rn 89 44 L (vI 0 :: st) T σ K := R_iconst (n := 0) (by decide +kernel) (by decide)
theorem s89_44 : Rn 89 44 [l0, l1, l2, l3, l4, l5] (vI a :: st) T σ K ↔ Rn 89 46 [l0, l1, l2, l3, l4, some (vI a)] st T σ K := R_istore (n := 5) (by decide +kernel) rfl
theorem s89_46 : Rn 89 46 [l0, l1, l2, l3, l4, some (vI a)] st T σ K ↔ Rn 89 48 [l0, l1, l2, l3, l4, some (vI a)] (vI a :: st) T σ K := R_iload (n := 5) (by decide +kernel) rfl
theorem s89_48 : Rn 89 48 L st T σ K ↔ Rn 89 50 L (vI 40 :: st) T σ K := R_bipush (n := 40) (by decide +kernel) (by decide +kernel)
theorem s89_50 : Rn 89 50 L (vI b :: vI a :: st) T σ K ↔ (b ≤ a → Rn 89 103 L st T σ K) ∧ (a < b → Rn 89 53 L st T σ K) := R_icmp_ge (off := 53) (by decide +kernel) (by decide)
theorem s89_53 : Rn 89 53 [some (vR o), l1, l2, l3, l4, l5] st T σ K ↔ Rn 89 54 [some (vR o), l1, l2, l3, l4, l5] (vR o :: st) T σ K := R_aload_n (n := 0) (by decide +kernel) rfl
theorem s89_54 : Rn 89 54 L (vR o :: st) T σ K ↔ sx_kd T o = 8 ∧ ∃ t, sx_rf T o 2 = some t ∧ Rn 89 57 L (vR t :: st) T σ K := R_getR (idx := 28) (ci := 8) (k := 2) (by decide +kernel) (by decide +kernel) rfl
theorem s89_57 : Rn 89 57 [l0, l1, l2, l3, l4, some (vI a)] st T σ K ↔ Rn 89 59 [l0, l1, l2, l3, l4, some (vI a)] (vI a :: st) T σ K := R_iload (n := 5) (by decide +kernel) rfl
theorem s89_59 : Rn 89 59 L (vI a :: vR o :: st) T σ K ↔ (sx_kd T o = 2 ∧ st.length ≤ 4) ∧ Rn 49 0 [some (vR o), some (vI a)] [] T σ (fun r T' σ' => Rn 89 62 L (sx_push r st) T' σ' K) := R_V (cm := 49) (n := 1) (idx := 146) (ci := 2) (mx := 2) (vs := [vI a]) (by decide +kernel) (by decide +kernel) rfl (by decide +kernel) rfl (by decide +kernel) (by decide +kernel)
theorem s89_62 : Rn 89 62 L (vI a :: st) T σ K ↔ (a = 0 → Rn 89 97 L st T σ K) ∧ (a ≠ 0 → Rn 89 65 L st T σ K) := R_if_eq (off := 35) (by decide +kernel) (by decide)
theorem s89_65 : Rn 89 65 [some (vR o), l1, l2, l3, l4, l5] st T σ K ↔ Rn 89 66 [some (vR o), l1, l2, l3, l4, l5] (vR o :: st) T σ K := R_aload_n (n := 0) (by decide +kernel) rfl
theorem s89_66 : Rn 89 66 [l0, l1, l2, l3, l4, some (vI a)] st T σ K ↔ Rn 89 68 [l0, l1, l2, l3, l4, some (vI a)] (vI a :: st) T σ K := R_iload (n := 5) (by decide +kernel) rfl
theorem s89_68 : Rn 89 68 [l0, l1, l2, some (vI a), l4, l5] st T σ K ↔ Rn 89 69 [l0, l1, l2, some (vI a), l4, l5] (vI a :: st) T σ K := R_iload_n (n := 3) (by decide +kernel) rfl
theorem s89_69 : Rn 89 69 L (vI b :: vI a :: vR o :: st) T σ K ↔ (sx_kd T o = 8 ∧ st.length ≤ 4) ∧ Rn 91 0 [some (vR o), some (vI a), some (vI b), none] [] T σ (fun r T' σ' => Rn 89 72 L (sx_push r st) T' σ' K) := R_V (cm := 91) (n := 2) (idx := 247) (ci := 8) (mx := 4) (vs := [vI a, vI b]) (by decide +kernel) (by decide +kernel) rfl (by decide +kernel) rfl (by decide +kernel) (by decide +kernel)
theorem s89_72 : Rn 89 72 L (vI a :: st) T σ K ↔ (a = 0 → Rn 89 81 L st T σ K) ∧ (a ≠ 0 → Rn 89 75 L st T σ K) := R_if_eq (off := 9) (by decide +kernel) (by decide)
theorem s89_75 : Rn 89 75 [l0, l1, l2, l3, some (vI a), l5] st T σ K ↔ inI (a + 1) ∧ Rn 89 78 [l0, l1, l2, l3, some (vI (a + 1)), l5] st T σ K := R_iinc (n := 4) (d := 1) (by decide +kernel) rfl
theorem s89_78 : Rn 89 78 L st T σ K ↔ Rn 89 97 L st T σ K := R_goto (off := 19) (by decide +kernel) (by decide)
theorem s89_81 : Rn 89 81 [some (vR o), l1, l2, l3, l4, l5] st T σ K ↔ Rn 89 82 [some (vR o), l1, l2, l3, l4, l5] (vR o :: st) T σ K := R_aload_n (n := 0) (by decide +kernel) rfl
theorem s89_82 : Rn 89 82 L (vR o :: st) T σ K ↔ sx_kd T o = 8 ∧ ∃ t, sx_rf T o 2 = some t ∧ Rn 89 85 L (vR t :: st) T σ K := R_getR (idx := 28) (ci := 8) (k := 2) (by decide +kernel) (by decide +kernel) rfl
theorem s89_85 : Rn 89 85 [l0, l1, l2, l3, l4, some (vI a)] st T σ K ↔ Rn 89 87 [l0, l1, l2, l3, l4, some (vI a)] (vI a :: st) T σ K := R_iload (n := 5) (by decide +kernel) rfl
theorem s89_87 : Rn 89 87 [l0, some (vI a), l2, l3, l4, l5] st T σ K ↔ Rn 89 88 [l0, some (vI a), l2, l3, l4, l5] (vI a :: st) T σ K := R_iload_n (n := 1) (by decide +kernel) rfl
theorem s89_88 : Rn 89 88 L (vI b :: vI a :: vR o :: st) T σ K ↔ (sx_kd T o = 2 ∧ st.length ≤ 4) ∧ Rn 42 0 [some (vR o), some (vI a), some (vI b)] [] T σ (fun r T' σ' => Rn 89 91 L (sx_push r st) T' σ' K) := R_V (cm := 42) (n := 2) (idx := 251) (ci := 2) (mx := 3) (vs := [vI a, vI b]) (by decide +kernel) (by decide +kernel) rfl (by decide +kernel) rfl (by decide +kernel) (by decide +kernel)
theorem s89_91 : Rn 89 91 [l0, l1, some (vI a), l3, l4, l5] st T σ K ↔ Rn 89 92 [l0, l1, some (vI a), l3, l4, l5] (vI a :: st) T σ K := R_iload_n (n := 2) (by decide +kernel) rfl
theorem s89_92 : Rn 89 92 L (vI b :: vI a :: st) T σ K ↔ (b ≤ a → Rn 89 97 L st T σ K) ∧ (a < b → Rn 89 95 L st T σ K) := R_icmp_ge (off := 5) (by decide +kernel) (by decide)
theorem s89_95 : Rn 89 95 L st T σ K ↔ Rn 89 96 L (vI (-1) :: st) T σ K := R_iconst (n := -1) (by decide +kernel) (by decide)
theorem s89_96 : Rn 89 96 L [vI a] T σ K ↔ K (some (vI a)) T σ := R_ret (by decide +kernel) (by decide +kernel)
theorem s89_97 : Rn 89 97 [l0, l1, l2, l3, l4, some (vI a)] st T σ K ↔ inI (a + 1) ∧ Rn 89 100 [l0, l1, l2, l3, l4, some (vI (a + 1))] st T σ K := R_iinc (n := 5) (d := 1) (by decide +kernel) rfl
theorem s89_100 : Rn 89 100 L st T σ K ↔ Rn 89 46 L st T σ K := R_goto (off := -54) (by decide +kernel) (by decide)
theorem s89_103 : Rn 89 103 [l0, l1, l2, l3, some (vI a), l5] st T σ K ↔ Rn 89 105 [l0, l1, l2, l3, some (vI a), l5] (vI a :: st) T σ K := R_iload (n := 4) (by decide +kernel) rfl
theorem s89_105 : Rn 89 105 L [vI a] T σ K ↔ K (some (vI a)) T σ := R_ret (by decide +kernel) (by decide +kernel)
theorem s90_0 : Rn 90 0 L st T σ K ↔ Rn 90 1 L (vI 0 :: st) T σ K := R_iconst (n := 0) (by decide +kernel) (by decide)
theorem s90_1 : Rn 90 1 [l0, l1, l2, l3, l4, l5, l6] (vI a :: st) T σ K ↔ Rn 90 3 [l0, l1, l2, l3, some (vI a), l5, l6] st T σ K := R_istore (n := 4) (by decide +kernel) rfl
theorem s90_3 : Rn 90 3 [l0, l1, l2, l3, some (vI a), l5, l6] st T σ K ↔ Rn 90 5 [l0, l1, l2, l3, some (vI a), l5, l6] (vI a :: st) T σ K := R_iload (n := 4) (by decide +kernel) rfl
theorem s90_5 : Rn 90 5 [l0, some (vI a), l2, l3, l4, l5, l6] st T σ K ↔ Rn 90 6 [l0, some (vI a), l2, l3, l4, l5, l6] (vI a :: st) T σ K := R_iload_n (n := 1) (by decide +kernel) rfl
theorem s90_6 : Rn 90 6 L (vI b :: vI a :: st) T σ K ↔ (b ≤ a → Rn 90 89 L st T σ K) ∧ (a < b → Rn 90 9 L st T σ K) := R_icmp_ge (off := 83) (by decide +kernel) (by decide)
theorem s90_9 : Rn 90 9 [some (vR o), l1, l2, l3, l4, l5, l6] st T σ K ↔ Rn 90 10 [some (vR o), l1, l2, l3, l4, l5, l6] (vR o :: st) T σ K := R_aload_n (n := 0) (by decide +kernel) rfl
theorem s90_10 : Rn 90 10 L (vR o :: st) T σ K ↔ sx_kd T o = 8 ∧ ∃ t, sx_rf T o 0 = some t ∧ Rn 90 13 L (vR t :: st) T σ K := R_getR (idx := 10) (ci := 8) (k := 0) (by decide +kernel) (by decide +kernel) rfl
theorem s90_13 : Rn 90 13 L st T σ K ↔ Rn 90 14 L (vI 2 :: st) T σ K := R_iconst (n := 2) (by decide +kernel) (by decide)
theorem s90_14 : Rn 90 14 [l0, l1, l2, l3, some (vI a), l5, l6] st T σ K ↔ Rn 90 16 [l0, l1, l2, l3, some (vI a), l5, l6] (vI a :: st) T σ K := R_iload (n := 4) (by decide +kernel) rfl
theorem s90_16 : Rn 90 16 L (vI b :: vI a :: st) T σ K ↔ inI (a * b) ∧ Rn 90 17 L (vI (a * b) :: st) T σ K := R_imul (by decide +kernel)
theorem s90_17 : Rn 90 17 L (vI a :: vR o :: st) T σ K ↔ (sx_kd T o = 6 ∧ st.length ≤ 4) ∧ Rn 20 0 [some (vR o), some (vI a)] [] T σ (fun r T' σ' => Rn 90 20 L (sx_push r st) T' σ' K) := R_V (cm := 20) (n := 1) (idx := 254) (ci := 6) (mx := 2) (vs := [vI a]) (by decide +kernel) (by decide +kernel) rfl (by decide +kernel) rfl (by decide +kernel) (by decide +kernel)
theorem s90_20 : Rn 90 20 [l0, l1, l2, l3, l4, l5, l6] (vI a :: st) T σ K ↔ Rn 90 22 [l0, l1, l2, l3, l4, some (vI a), l6] st T σ K := R_istore (n := 5) (by decide +kernel) rfl
theorem s90_22 : Rn 90 22 [some (vR o), l1, l2, l3, l4, l5, l6] st T σ K ↔ Rn 90 23 [some (vR o), l1, l2, l3, l4, l5, l6] (vR o :: st) T σ K := R_aload_n (n := 0) (by decide +kernel) rfl
theorem s90_23 : Rn 90 23 L (vR o :: st) T σ K ↔ sx_kd T o = 8 ∧ ∃ t, sx_rf T o 0 = some t ∧ Rn 90 26 L (vR t :: st) T σ K := R_getR (idx := 10) (ci := 8) (k := 0) (by decide +kernel) (by decide +kernel) rfl
theorem s90_26 : Rn 90 26 L st T σ K ↔ Rn 90 27 L (vI 2 :: st) T σ K := R_iconst (n := 2) (by decide +kernel) (by decide)
theorem s90_27 : Rn 90 27 [l0, l1, l2, l3, some (vI a), l5, l6] st T σ K ↔ Rn 90 29 [l0, l1, l2, l3, some (vI a), l5, l6] (vI a :: st) T σ K := R_iload (n := 4) (by decide +kernel) rfl
theorem s90_29 : Rn 90 29 L (vI b :: vI a :: st) T σ K ↔ inI (a * b) ∧ Rn 90 30 L (vI (a * b) :: st) T σ K := R_imul (by decide +kernel)
theorem s90_30 : Rn 90 30 L st T σ K ↔ Rn 90 31 L (vI 1 :: st) T σ K := R_iconst (n := 1) (by decide +kernel) (by decide)
theorem s90_31 : Rn 90 31 L (vI b :: vI a :: st) T σ K ↔ inI (a + b) ∧ Rn 90 32 L (vI (a + b) :: st) T σ K := R_iadd (by decide +kernel)
theorem s90_32 : Rn 90 32 L (vI a :: vR o :: st) T σ K ↔ (sx_kd T o = 6 ∧ st.length ≤ 4) ∧ Rn 20 0 [some (vR o), some (vI a)] [] T σ (fun r T' σ' => Rn 90 35 L (sx_push r st) T' σ' K) := R_V (cm := 20) (n := 1) (idx := 254) (ci := 6) (mx := 2) (vs := [vI a]) (by decide +kernel) (by decide +kernel) rfl (by decide +kernel) rfl (by decide +kernel) (by decide +kernel)
theorem s90_35 : Rn 90 35 [l0, l1, l2, l3, l4, l5, l6] (vI a :: st) T σ K ↔ Rn 90 37 [l0, l1, l2, l3, l4, l5, some (vI a)] st T σ K := R_istore (n := 6) (by decide +kernel) rfl
theorem s90_37 : Rn 90 37 [some (vR o), l1, l2, l3, l4, l5, l6] st T σ K ↔ Rn 90 38 [some (vR o), l1, l2, l3, l4, l5, l6] (vR o :: st) T σ K := R_aload_n (n := 0) (by decide +kernel) rfl
theorem s90_38 : Rn 90 38 L (vR o :: st) T σ K ↔ sx_kd T o = 8 ∧ ∃ t, sx_rf T o 2 = some t ∧ Rn 90 41 L (vR t :: st) T σ K := R_getR (idx := 28) (ci := 8) (k := 2) (by decide +kernel) (by decide +kernel) rfl
theorem s90_41 : Rn 90 41 [l0, l1, l2, l3, l4, some (vI a), l6] st T σ K ↔ Rn 90 43 [l0, l1, l2, l3, l4, some (vI a), l6] (vI a :: st) T σ K := R_iload (n := 5) (by decide +kernel) rfl
theorem s90_43 : Rn 90 43 L (vI a :: vR o :: st) T σ K ↔ (sx_kd T o = 2 ∧ st.length ≤ 4) ∧ Rn 49 0 [some (vR o), some (vI a)] [] T σ (fun r T' σ' => Rn 90 46 L (sx_push r st) T' σ' K) := R_V (cm := 49) (n := 1) (idx := 146) (ci := 2) (mx := 2) (vs := [vI a]) (by decide +kernel) (by decide +kernel) rfl (by decide +kernel) rfl (by decide +kernel) (by decide +kernel)
theorem s90_46 : Rn 90 46 L (vI a :: st) T σ K ↔ (a = 0 → Rn 90 81 L st T σ K) ∧ (a ≠ 0 → Rn 90 49 L st T σ K) := R_if_eq (off := 35) (by decide +kernel) (by decide)
theorem s90_49 : Rn 90 49 [l0, l1, l2, l3, l4, l5, some (vI a)] st T σ K ↔ Rn 90 51 [l0, l1, l2, l3, l4, l5, some (vI a)] (vI a :: st) T σ K := R_iload (n := 6) (by decide +kernel) rfl
theorem s90_51 : Rn 90 51 L st T σ K ↔ Rn 90 52 L (vI 1 :: st) T σ K := R_iconst (n := 1) (by decide +kernel) (by decide)
theorem s90_52 : Rn 90 52 L (vI b :: vI a :: st) T σ K ↔ (a < b → Rn 90 81 L st T σ K) ∧ (b ≤ a → Rn 90 55 L st T σ K) := R_icmp_lt (off := 29) (by decide +kernel) (by decide)
theorem s90_55 : Rn 90 55 [l0, l1, l2, l3, l4, l5, some (vI a)] st T σ K ↔ Rn 90 57 [l0, l1, l2, l3, l4, l5, some (vI a)] (vI a :: st) T σ K := R_iload (n := 6) (by decide +kernel) rfl
theorem s90_57 : Rn 90 57 L st T σ K ↔ Rn 90 59 L (vI 10 :: st) T σ K := R_bipush (n := 10) (by decide +kernel) (by decide +kernel)
theorem s90_59 : Rn 90 59 L (vI b :: vI a :: st) T σ K ↔ (b < a → Rn 90 81 L st T σ K) ∧ (a ≤ b → Rn 90 62 L st T σ K) := R_icmp_gt (off := 22) (by decide +kernel) (by decide)
theorem s90_62 : Rn 90 62 [some (vR o), l1, l2, l3, l4, l5, l6] st T σ K ↔ Rn 90 63 [some (vR o), l1, l2, l3, l4, l5, l6] (vR o :: st) T σ K := R_aload_n (n := 0) (by decide +kernel) rfl
theorem s90_63 : Rn 90 63 L (vR o :: st) T σ K ↔ sx_kd T o = 8 ∧ ∃ t, sx_rf T o 2 = some t ∧ Rn 90 66 L (vR t :: st) T σ K := R_getR (idx := 28) (ci := 8) (k := 2) (by decide +kernel) (by decide +kernel) rfl
theorem s90_66 : Rn 90 66 [l0, l1, l2, l3, l4, some (vI a), l6] st T σ K ↔ Rn 90 68 [l0, l1, l2, l3, l4, some (vI a), l6] (vI a :: st) T σ K := R_iload (n := 5) (by decide +kernel) rfl
theorem s90_68 : Rn 90 68 [l0, l1, some (vI a), l3, l4, l5, l6] st T σ K ↔ Rn 90 69 [l0, l1, some (vI a), l3, l4, l5, l6] (vI a :: st) T σ K := R_iload_n (n := 2) (by decide +kernel) rfl
theorem s90_69 : Rn 90 69 L (vI b :: vI a :: vR o :: st) T σ K ↔ (sx_kd T o = 2 ∧ st.length ≤ 4) ∧ Rn 42 0 [some (vR o), some (vI a), some (vI b)] [] T σ (fun r T' σ' => Rn 90 72 L (sx_push r st) T' σ' K) := R_V (cm := 42) (n := 2) (idx := 251) (ci := 2) (mx := 3) (vs := [vI a, vI b]) (by decide +kernel) (by decide +kernel) rfl (by decide +kernel) rfl (by decide +kernel) (by decide +kernel)
theorem s90_72 : Rn 90 72 L st T σ K ↔ Rn 90 73 L (vI 1 :: st) T σ K := R_iconst (n := 1) (by decide +kernel) (by decide)
theorem s90_73 : Rn 90 73 [l0, l1, l2, l3, l4, l5, some (vI a)] st T σ K ↔ Rn 90 75 [l0, l1, l2, l3, l4, l5, some (vI a)] (vI a :: st) T σ K := R_iload (n := 6) (by decide +kernel) rfl
theorem s90_75 : Rn 90 75 L (vI b :: vI a :: st) T σ K ↔ (0 ≤ b ∧ b ≤ 31) ∧ inI (a * 2 ^ b.toNat) ∧ Rn 90 76 L (vI (a * 2 ^ b.toNat) :: st) T σ K := R_ishl (by decide +kernel)
theorem s90_76 : Rn 90 76 L (vI b :: vI a :: st) T σ K ↔ inI (a - b) ∧ Rn 90 77 L (vI (a - b) :: st) T σ K := R_isub (by decide +kernel)
theorem s90_77 : Rn 90 77 [l0, l1, l2, some (vI a), l4, l5, l6] st T σ K ↔ Rn 90 78 [l0, l1, l2, some (vI a), l4, l5, l6] (vI a :: st) T σ K := R_iload_n (n := 3) (by decide +kernel) rfl
theorem s90_78 : Rn 90 78 L (vI b :: vI a :: st) T σ K ↔ (b ≤ a → Rn 90 83 L st T σ K) ∧ (a < b → Rn 90 81 L st T σ K) := R_icmp_ge (off := 5) (by decide +kernel) (by decide)
theorem s90_81 : Rn 90 81 L st T σ K ↔ Rn 90 82 L (vI 0 :: st) T σ K := R_iconst (n := 0) (by decide +kernel) (by decide)
theorem s90_82 : Rn 90 82 L [vI a] T σ K ↔ (a = 0 ∨ a = 1) ∧ K (some (vI a)) T σ := R_retZ (by decide +kernel) (by decide +kernel)
theorem s90_83 : Rn 90 83 [l0, l1, l2, l3, some (vI a), l5, l6] st T σ K ↔ inI (a + 1) ∧ Rn 90 86 [l0, l1, l2, l3, some (vI (a + 1)), l5, l6] st T σ K := R_iinc (n := 4) (d := 1) (by decide +kernel) rfl
theorem s90_86 : Rn 90 86 L st T σ K ↔ Rn 90 3 L st T σ K := R_goto (off := -83) (by decide +kernel) (by decide)
theorem s90_89 : Rn 90 89 L st T σ K ↔ Rn 90 90 L (vI 1 :: st) T σ K := R_iconst (n := 1) (by decide +kernel) (by decide)
theorem s90_90 : Rn 90 90 L [vI a] T σ K ↔ (a = 0 ∨ a = 1) ∧ K (some (vI a)) T σ := R_retZ (by decide +kernel) (by decide +kernel)
theorem s91_0 : Rn 91 0 L st T σ K ↔ Rn 91 1 L (vI 0 :: st) T σ K := R_iconst (n := 0) (by decide +kernel) (by decide)
theorem s91_1 : Rn 91 1 [l0, l1, l2, l3] (vI a :: st) T σ K ↔ Rn 91 2 [l0, l1, l2, some (vI a)] st T σ K := R_istore_n (n := 3) (by decide +kernel) rfl
theorem s91_2 : Rn 91 2 [l0, l1, l2, some (vI a)] st T σ K ↔ Rn 91 3 [l0, l1, l2, some (vI a)] (vI a :: st) T σ K := R_iload_n (n := 3) (by decide +kernel) rfl
theorem s91_3 : Rn 91 3 [l0, l1, some (vI a), l3] st T σ K ↔ Rn 91 4 [l0, l1, some (vI a), l3] (vI a :: st) T σ K := R_iload_n (n := 2) (by decide +kernel) rfl
theorem s91_4 : Rn 91 4 L (vI b :: vI a :: st) T σ K ↔ (b ≤ a → Rn 91 48 L st T σ K) ∧ (a < b → Rn 91 7 L st T σ K) := R_icmp_ge (off := 44) (by decide +kernel) (by decide)
theorem s91_7 : Rn 91 7 [some (vR o), l1, l2, l3] st T σ K ↔ Rn 91 8 [some (vR o), l1, l2, l3] (vR o :: st) T σ K := R_aload_n (n := 0) (by decide +kernel) rfl
theorem s91_8 : Rn 91 8 L (vR o :: st) T σ K ↔ sx_kd T o = 8 ∧ ∃ t, sx_rf T o 2 = some t ∧ Rn 91 11 L (vR t :: st) T σ K := R_getR (idx := 28) (ci := 8) (k := 2) (by decide +kernel) (by decide +kernel) rfl
theorem s91_11 : Rn 91 11 [l0, some (vI a), l2, l3] st T σ K ↔ Rn 91 12 [l0, some (vI a), l2, l3] (vI a :: st) T σ K := R_iload_n (n := 1) (by decide +kernel) rfl
theorem s91_12 : Rn 91 12 [some (vR o), l1, l2, l3] st T σ K ↔ Rn 91 13 [some (vR o), l1, l2, l3] (vR o :: st) T σ K := R_aload_n (n := 0) (by decide +kernel) rfl
theorem s91_13 : Rn 91 13 L (vR o :: st) T σ K ↔ sx_kd T o = 8 ∧ ∃ t, sx_rf T o 0 = some t ∧ Rn 91 16 L (vR t :: st) T σ K := R_getR (idx := 10) (ci := 8) (k := 0) (by decide +kernel) (by decide +kernel) rfl
theorem s91_16 : Rn 91 16 L st T σ K ↔ Rn 91 17 L (vI 2 :: st) T σ K := R_iconst (n := 2) (by decide +kernel) (by decide)
theorem s91_17 : Rn 91 17 [l0, l1, l2, some (vI a)] st T σ K ↔ Rn 91 18 [l0, l1, l2, some (vI a)] (vI a :: st) T σ K := R_iload_n (n := 3) (by decide +kernel) rfl
theorem s91_18 : Rn 91 18 L (vI b :: vI a :: st) T σ K ↔ inI (a * b) ∧ Rn 91 19 L (vI (a * b) :: st) T σ K := R_imul (by decide +kernel)
theorem s91_19 : Rn 91 19 L (vI a :: vR o :: st) T σ K ↔ (sx_kd T o = 6 ∧ st.length ≤ 4) ∧ Rn 20 0 [some (vR o), some (vI a)] [] T σ (fun r T' σ' => Rn 91 22 L (sx_push r st) T' σ' K) := R_V (cm := 20) (n := 1) (idx := 254) (ci := 6) (mx := 2) (vs := [vI a]) (by decide +kernel) (by decide +kernel) rfl (by decide +kernel) rfl (by decide +kernel) (by decide +kernel)
theorem s91_22 : Rn 91 22 [some (vR o), l1, l2, l3] st T σ K ↔ Rn 91 23 [some (vR o), l1, l2, l3] (vR o :: st) T σ K := R_aload_n (n := 0) (by decide +kernel) rfl
theorem s91_23 : Rn 91 23 L (vR o :: st) T σ K ↔ sx_kd T o = 8 ∧ ∃ t, sx_rf T o 0 = some t ∧ Rn 91 26 L (vR t :: st) T σ K := R_getR (idx := 10) (ci := 8) (k := 0) (by decide +kernel) (by decide +kernel) rfl
theorem s91_26 : Rn 91 26 L st T σ K ↔ Rn 91 27 L (vI 2 :: st) T σ K := R_iconst (n := 2) (by decide +kernel) (by decide)
theorem s91_27 : Rn 91 27 [l0, l1, l2, some (vI a)] st T σ K ↔ Rn 91 28 [l0, l1, l2, some (vI a)] (vI a :: st) T σ K := R_iload_n (n := 3) (by decide +kernel) rfl
theorem s91_28 : Rn 91 28 L (vI b :: vI a :: st) T σ K ↔ inI (a * b) ∧ Rn 91 29 L (vI (a * b) :: st) T σ K := R_imul (by decide +kernel)
theorem s91_29 : Rn 91 29 L st T σ K ↔ Rn 91 30 L (vI 1 :: st) T σ K := R_iconst (n := 1) (by decide +kernel) (by decide)
theorem s91_30 : Rn 91 30 L (vI b :: vI a :: st) T σ K ↔ inI (a + b) ∧ Rn 91 31 L (vI (a + b) :: st) T σ K := R_iadd (by decide +kernel)
theorem s91_31 : Rn 91 31 L (vI a :: vR o :: st) T σ K ↔ (sx_kd T o = 6 ∧ st.length ≤ 4) ∧ Rn 20 0 [some (vR o), some (vI a)] [] T σ (fun r T' σ' => Rn 91 34 L (sx_push r st) T' σ' K) := R_V (cm := 20) (n := 1) (idx := 254) (ci := 6) (mx := 2) (vs := [vI a]) (by decide +kernel) (by decide +kernel) rfl (by decide +kernel) rfl (by decide +kernel) (by decide +kernel)
theorem s91_34 : Rn 91 34 L (vI c :: vI b :: vI a :: vR o :: st) T σ K ↔ (sx_kd T o = 2 ∧ st.length ≤ 4) ∧ Rn 83 0 [some (vR o), some (vI a), some (vI b), some (vI c), none] [] T σ (fun r T' σ' => Rn 91 37 L (sx_push r st) T' σ' K) := R_V (cm := 83) (n := 3) (idx := 257) (ci := 2) (mx := 5) (vs := [vI a, vI b, vI c]) (by decide +kernel) (by decide +kernel) rfl (by decide +kernel) rfl (by decide +kernel) (by decide +kernel)
theorem s91_37 : Rn 91 37 L (vI a :: st) T σ K ↔ (a = 0 → Rn 91 42 L st T σ K) ∧ (a ≠ 0 → Rn 91 40 L st T σ K) := R_if_eq (off := 5) (by decide +kernel) (by decide)
theorem s91_40 : Rn 91 40 L st T σ K ↔ Rn 91 41 L (vI 1 :: st) T σ K := R_iconst (n := 1) (by decide +kernel) (by decide)
theorem s91_41 : Rn 91 41 L [vI a] T σ K ↔ (a = 0 ∨ a = 1) ∧ K (some (vI a)) T σ := R_retZ (by decide +kernel) (by decide +kernel)
theorem s91_42 : Rn 91 42 [l0, l1, l2, some (vI a)] st T σ K ↔ inI (a + 1) ∧ Rn 91 45 [l0, l1, l2, some (vI (a + 1))] st T σ K := R_iinc (n := 3) (d := 1) (by decide +kernel) rfl
theorem s91_45 : Rn 91 45 L st T σ K ↔ Rn 91 2 L st T σ K := R_goto (off := -43) (by decide +kernel) (by decide)
theorem s91_48 : Rn 91 48 L st T σ K ↔ Rn 91 49 L (vI 0 :: st) T σ K := R_iconst (n := 0) (by decide +kernel) (by decide)
theorem s91_49 : Rn 91 49 L [vI a] T σ K ↔ (a = 0 ∨ a = 1) ∧ K (some (vI a)) T σ := R_retZ (by decide +kernel) (by decide +kernel)
theorem s92_0 : Rn 92 0 [l0, some (vI a), l2, l3, l4, l5] st T σ K ↔ Rn 92 1 [l0, some (vI a), l2, l3, l4, l5] (vI a :: st) T σ K := R_iload_n (n := 1) (by decide +kernel) rfl
theorem s92_1 : Rn 92 1 [l0, l1, some (vI a), l3, l4, l5] st T σ K ↔ Rn 92 2 [l0, l1, some (vI a), l3, l4, l5] (vI a :: st) T σ K := R_iload_n (n := 2) (by decide +kernel) rfl
theorem s92_2 : Rn 92 2 [l0, l1, l2, some (vI a), l4, l5] st T σ K ↔ Rn 92 3 [l0, l1, l2, some (vI a), l4, l5] (vI a :: st) T σ K := R_iload_n (n := 3) (by decide +kernel) rfl
theorem s92_3 : Rn 92 3 L (vI c :: vI b :: vI a :: st) T σ K ↔ st.length ≤ 4 ∧ Rn 33 0 [some (vI a), some (vI b), some (vI c)] [] T σ (fun r T' σ' => Rn 92 6 L (sx_push r st) T' σ' K) := R_S (cm := 33) (n := 3) (idx := 169) (mx := 3) (vs := [vI a, vI b, vI c]) (by decide +kernel) (Or.inl (by decide +kernel)) rfl (by decide +kernel) rfl (by decide +kernel)
theorem s92_6 : Rn 92 6 [l0, l1, l2, l3, l4, l5] (vI a :: st) T σ K ↔ Rn 92 8 [l0, l1, l2, l3, l4, some (vI a)] st T σ K := R_istore (n := 5) (by decide +kernel) rfl
theorem s92_8 : Rn 92 8 [l0, l1, l2, l3, l4, some (vI a)] st T σ K ↔ Rn 92 10 [l0, l1, l2, l3, l4, some (vI a)] (vI a :: st) T σ K := R_iload (n := 5) (by decide +kernel) rfl
theorem s92_10 : Rn 92 10 L st T σ K ↔ Rn 92 11 L (vI (-1) :: st) T σ K := R_iconst (n := -1) (by decide +kernel) (by decide)
theorem s92_11 : Rn 92 11 L (vI b :: vI a :: st) T σ K ↔ (a ≠ b → Rn 92 18 L st T σ K) ∧ (a = b → Rn 92 14 L st T σ K) := R_icmp_ne (off := 7) (by decide +kernel) (by decide)
theorem s92_14 : Rn 92 14 L st T σ K ↔ Rn 92 15 L (vI (-1) :: st) T σ K := R_iconst (n := -1) (by decide +kernel) (by decide)
theorem s92_15 : Rn 92 15 L st T σ K ↔ Rn 92 29 L st T σ K := R_goto (off := 14) (by decide +kernel) (by decide)
theorem s92_18 : Rn 92 18 [some (vR o), l1, l2, l3, l4, l5] st T σ K ↔ Rn 92 19 [some (vR o), l1, l2, l3, l4, l5] (vR o :: st) T σ K := R_aload_n (n := 0) (by decide +kernel) rfl
theorem s92_19 : Rn 92 19 L (vR o :: st) T σ K ↔ sx_kd T o = 8 ∧ ∃ t, sx_rf T o 2 = some t ∧ Rn 92 22 L (vR t :: st) T σ K := R_getR (idx := 28) (ci := 8) (k := 2) (by decide +kernel) (by decide +kernel) rfl
theorem s92_22 : Rn 92 22 [l0, l1, l2, l3, l4, some (vI a)] st T σ K ↔ Rn 92 24 [l0, l1, l2, l3, l4, some (vI a)] (vI a :: st) T σ K := R_iload (n := 5) (by decide +kernel) rfl
theorem s92_24 : Rn 92 24 [l0, l1, l2, l3, some (vI a), l5] st T σ K ↔ Rn 92 26 [l0, l1, l2, l3, some (vI a), l5] (vI a :: st) T σ K := R_iload (n := 4) (by decide +kernel) rfl
theorem s92_26 : Rn 92 26 L (vI b :: vI a :: vR o :: st) T σ K ↔ (sx_kd T o = 2 ∧ st.length ≤ 4) ∧ Rn 93 0 [some (vR o), some (vI a), some (vI b), none] [] T σ (fun r T' σ' => Rn 92 29 L (sx_push r st) T' σ' K) := R_V (cm := 93) (n := 2) (idx := 260) (ci := 2) (mx := 4) (vs := [vI a, vI b]) (by decide +kernel) (by decide +kernel) rfl (by decide +kernel) rfl (by decide +kernel) (by decide +kernel)
theorem s92_29 : Rn 92 29 L [vI a] T σ K ↔ K (some (vI a)) T σ := R_ret (by decide +kernel) (by decide +kernel)
theorem s93_0 : Rn 93 0 L st T σ K ↔ Rn 93 1 L (vI 0 :: st) T σ K := R_iconst (n := 0) (by decide +kernel) (by decide)
theorem s93_1 : Rn 93 1 [l0, l1, l2, l3] (vI a :: st) T σ K ↔ Rn 93 2 [l0, l1, l2, some (vI a)] st T σ K := R_istore_n (n := 3) (by decide +kernel) rfl
theorem s93_2 : Rn 93 2 [l0, l1, l2, some (vI a)] st T σ K ↔ Rn 93 3 [l0, l1, l2, some (vI a)] (vI a :: st) T σ K := R_iload_n (n := 3) (by decide +kernel) rfl
theorem s93_3 : Rn 93 3 L st T σ K ↔ Rn 93 5 L (vI 40 :: st) T σ K := R_bipush (n := 40) (by decide +kernel) (by decide +kernel)
theorem s93_5 : Rn 93 5 L (vI b :: vI a :: st) T σ K ↔ (b ≤ a → Rn 93 35 L st T σ K) ∧ (a < b → Rn 93 8 L st T σ K) := R_icmp_ge (off := 30) (by decide +kernel) (by decide)
theorem s93_8 : Rn 93 8 [some (vR o), l1, l2, l3] st T σ K ↔ Rn 93 9 [some (vR o), l1, l2, l3] (vR o :: st) T σ K := R_aload_n (n := 0) (by decide +kernel) rfl
theorem s93_9 : Rn 93 9 L (vR o :: st) T σ K ↔ sx_kd T o = 2 ∧ ∃ t, sx_rf T o 1 = some t ∧ Rn 93 12 L (vR t :: st) T σ K := R_getR (idx := 15) (ci := 2) (k := 1) (by decide +kernel) (by decide +kernel) rfl
theorem s93_12 : Rn 93 12 [l0, l1, l2, some (vI a)] st T σ K ↔ Rn 93 13 [l0, l1, l2, some (vI a)] (vI a :: st) T σ K := R_iload_n (n := 3) (by decide +kernel) rfl
theorem s93_13 : Rn 93 13 L (vI a :: vR o :: st) T σ K ↔ (sx_kd T o = 20 ∧ 0 ≤ a ∧ a < sx_ln T o) ∧ Rn 93 14 L (vI (σ o a) :: st) T σ K := R_iald (by decide +kernel) (by decide)
theorem s93_14 : Rn 93 14 L (vI a :: st) T σ K ↔ (a < 0 → Rn 93 29 L st T σ K) ∧ (0 ≤ a → Rn 93 17 L st T σ K) := R_if_lt (off := 15) (by decide +kernel) (by decide)
theorem s93_17 : Rn 93 17 [some (vR o), l1, l2, l3] st T σ K ↔ Rn 93 18 [some (vR o), l1, l2, l3] (vR o :: st) T σ K := R_aload_n (n := 0) (by decide +kernel) rfl
theorem s93_18 : Rn 93 18 [l0, l1, l2, some (vI a)] st T σ K ↔ Rn 93 19 [l0, l1, l2, some (vI a)] (vI a :: st) T σ K := R_iload_n (n := 3) (by decide +kernel) rfl
theorem s93_19 : Rn 93 19 [l0, some (vI a), l2, l3] st T σ K ↔ Rn 93 20 [l0, some (vI a), l2, l3] (vI a :: st) T σ K := R_iload_n (n := 1) (by decide +kernel) rfl
theorem s93_20 : Rn 93 20 L (vI b :: vI a :: vR o :: st) T σ K ↔ (sx_kd T o = 2 ∧ st.length ≤ 4) ∧ Rn 94 0 [some (vR o), some (vI a), some (vI b), none, none, none, none] [] T σ (fun r T' σ' => Rn 93 23 L (sx_push r st) T' σ' K) := R_V (cm := 94) (n := 2) (idx := 96) (ci := 2) (mx := 7) (vs := [vI a, vI b]) (by decide +kernel) (by decide +kernel) rfl (by decide +kernel) rfl (by decide +kernel) (by decide +kernel)
theorem s93_23 : Rn 93 23 [l0, l1, some (vI a), l3] st T σ K ↔ Rn 93 24 [l0, l1, some (vI a), l3] (vI a :: st) T σ K := R_iload_n (n := 2) (by decide +kernel) rfl
theorem s93_24 : Rn 93 24 L (vI b :: vI a :: st) T σ K ↔ (a ≠ b → Rn 93 29 L st T σ K) ∧ (a = b → Rn 93 27 L st T σ K) := R_icmp_ne (off := 5) (by decide +kernel) (by decide)
theorem s93_27 : Rn 93 27 [l0, l1, l2, some (vI a)] st T σ K ↔ Rn 93 28 [l0, l1, l2, some (vI a)] (vI a :: st) T σ K := R_iload_n (n := 3) (by decide +kernel) rfl
theorem s93_28 : Rn 93 28 L [vI a] T σ K ↔ K (some (vI a)) T σ := R_ret (by decide +kernel) (by decide +kernel)
theorem s93_29 : Rn 93 29 [l0, l1, l2, some (vI a)] st T σ K ↔ inI (a + 1) ∧ Rn 93 32 [l0, l1, l2, some (vI (a + 1))] st T σ K := R_iinc (n := 3) (d := 1) (by decide +kernel) rfl
theorem s93_32 : Rn 93 32 L st T σ K ↔ Rn 93 2 L st T σ K := R_goto (off := -30) (by decide +kernel) (by decide)
theorem s93_35 : Rn 93 35 L st T σ K ↔ Rn 93 36 L (vI (-1) :: st) T σ K := R_iconst (n := -1) (by decide +kernel) (by decide)
theorem s93_36 : Rn 93 36 L [vI a] T σ K ↔ K (some (vI a)) T σ := R_ret (by decide +kernel) (by decide +kernel)
theorem s94_0 : Rn 94 0 [some (vR o), l1, l2, l3, l4, l5, l6] st T σ K ↔ Rn 94 1 [some (vR o), l1, l2, l3, l4, l5, l6] (vR o :: st) T σ K := R_aload_n (n := 0) (by decide +kernel) rfl
theorem s94_1 : Rn 94 1 [l0, some (vI a), l2, l3, l4, l5, l6] st T σ K ↔ Rn 94 2 [l0, some (vI a), l2, l3, l4, l5, l6] (vI a :: st) T σ K := R_iload_n (n := 1) (by decide +kernel) rfl
theorem s94_2 : Rn 94 2 [l0, l1, some (vI a), l3, l4, l5, l6] st T σ K ↔ Rn 94 3 [l0, l1, some (vI a), l3, l4, l5, l6] (vI a :: st) T σ K := R_iload_n (n := 2) (by decide +kernel) rfl
theorem s94_3 : Rn 94 3 L (vI b :: vI a :: vR o :: st) T σ K ↔ (sx_kd T o = 2 ∧ st.length ≤ 4) ∧ Rn 42 0 [some (vR o), some (vI a), some (vI b)] [] T σ (fun r T' σ' => Rn 94 6 L (sx_push r st) T' σ' K) := R_V (cm := 42) (n := 2) (idx := 68) (ci := 2) (mx := 3) (vs := [vI a, vI b]) (by decide +kernel) (by decide +kernel) rfl (by decide +kernel) rfl (by decide +kernel) (by decide +kernel)
theorem s94_6 : Rn 94 6 [l0, l1, l2, l3, l4, l5, l6] (vI a :: st) T σ K ↔ Rn 94 7 [l0, l1, l2, some (vI a), l4, l5, l6] st T σ K := R_istore_n (n := 3) (by decide +kernel) rfl
theorem s94_7 : Rn 94 7 L st T σ K ↔ Rn 94 8 L (vI 0 :: st) T σ K := R_iconst (n := 0) (by decide +kernel) (by decide)
theorem s94_8 : Rn 94 8 [l0, l1, l2, l3, l4, l5, l6] (vI a :: st) T σ K ↔ Rn 94 10 [l0, l1, l2, l3, some (vI a), l5, l6] st T σ K := R_istore (n := 4) (by decide +kernel) rfl
theorem s94_10 : Rn 94 10 L st T σ K ↔ Rn 94 11 L (vI 0 :: st) T σ K := R_iconst (n := 0) (by decide +kernel) (by decide)
theorem s94_11 : Rn 94 11 [l0, l1, l2, l3, l4, l5, l6] (vI a :: st) T σ K ↔ Rn 94 13 [l0, l1, l2, l3, l4, some (vI a), l6] st T σ K := R_istore (n := 5) (by decide +kernel) rfl
theorem s94_13 : Rn 94 13 [l0, l1, l2, l3, l4, some (vI a), l6] st T σ K ↔ Rn 94 15 [l0, l1, l2, l3, l4, some (vI a), l6] (vI a :: st) T σ K := R_iload (n := 5) (by decide +kernel) rfl
theorem s94_15 : Rn 94 15 L st T σ K ↔ Rn 94 17 L (vI 40 :: st) T σ K := R_bipush (n := 40) (by decide +kernel) (by decide +kernel)
theorem s94_17 : Rn 94 17 L (vI b :: vI a :: st) T σ K ↔ (b ≤ a → Rn 94 66 L st T σ K) ∧ (a < b → Rn 94 20 L st T σ K) := R_icmp_ge (off := 49) (by decide +kernel) (by decide)
theorem s94_20 : Rn 94 20 [some (vR o), l1, l2, l3, l4, l5, l6] st T σ K ↔ Rn 94 21 [some (vR o), l1, l2, l3, l4, l5, l6] (vR o :: st) T σ K := R_aload_n (n := 0) (by decide +kernel) rfl
theorem s94_21 : Rn 94 21 L (vR o :: st) T σ K ↔ sx_kd T o = 2 ∧ ∃ t, sx_rf T o 1 = some t ∧ Rn 94 24 L (vR t :: st) T σ K := R_getR (idx := 15) (ci := 2) (k := 1) (by decide +kernel) (by decide +kernel) rfl
theorem s94_24 : Rn 94 24 [l0, l1, l2, l3, l4, some (vI a), l6] st T σ K ↔ Rn 94 26 [l0, l1, l2, l3, l4, some (vI a), l6] (vI a :: st) T σ K := R_iload (n := 5) (by decide +kernel) rfl
theorem s94_26 : Rn 94 26 L (vI a :: vR o :: st) T σ K ↔ (sx_kd T o = 20 ∧ 0 ≤ a ∧ a < sx_ln T o) ∧ Rn 94 27 L (vI (σ o a) :: st) T σ K := R_iald (by decide +kernel) (by decide)
theorem s94_27 : Rn 94 27 L (vI a :: st) T σ K ↔ (a < 0 → Rn 94 60 L st T σ K) ∧ (0 ≤ a → Rn 94 30 L st T σ K) := R_if_lt (off := 33) (by decide +kernel) (by decide)
theorem s94_30 : Rn 94 30 [some (vR o), l1, l2, l3, l4, l5, l6] st T σ K ↔ Rn 94 31 [some (vR o), l1, l2, l3, l4, l5, l6] (vR o :: st) T σ K := R_aload_n (n := 0) (by decide +kernel) rfl
theorem s94_31 : Rn 94 31 [l0, l1, l2, l3, l4, some (vI a), l6] st T σ K ↔ Rn 94 33 [l0, l1, l2, l3, l4, some (vI a), l6] (vI a :: st) T σ K := R_iload (n := 5) (by decide +kernel) rfl
theorem s94_33 : Rn 94 33 [l0, l1, some (vI a), l3, l4, l5, l6] st T σ K ↔ Rn 94 34 [l0, l1, some (vI a), l3, l4, l5, l6] (vI a :: st) T σ K := R_iload_n (n := 2) (by decide +kernel) rfl
theorem s94_34 : Rn 94 34 L (vI b :: vI a :: vR o :: st) T σ K ↔ (sx_kd T o = 2 ∧ st.length ≤ 4) ∧ Rn 42 0 [some (vR o), some (vI a), some (vI b)] [] T σ (fun r T' σ' => Rn 94 37 L (sx_push r st) T' σ' K) := R_V (cm := 42) (n := 2) (idx := 68) (ci := 2) (mx := 3) (vs := [vI a, vI b]) (by decide +kernel) (by decide +kernel) rfl (by decide +kernel) rfl (by decide +kernel) (by decide +kernel)
theorem s94_37 : Rn 94 37 [l0, l1, l2, l3, l4, l5, l6] (vI a :: st) T σ K ↔ Rn 94 39 [l0, l1, l2, l3, l4, l5, some (vI a)] st T σ K := R_istore (n := 6) (by decide +kernel) rfl
theorem s94_39 : Rn 94 39 [l0, l1, l2, l3, l4, l5, some (vI a)] st T σ K ↔ Rn 94 41 [l0, l1, l2, l3, l4, l5, some (vI a)] (vI a :: st) T σ K := R_iload (n := 6) (by decide +kernel) rfl
theorem s94_41 : Rn 94 41 [l0, l1, l2, some (vI a), l4, l5, l6] st T σ K ↔ Rn 94 42 [l0, l1, l2, some (vI a), l4, l5, l6] (vI a :: st) T σ K := R_iload_n (n := 3) (by decide +kernel) rfl
theorem s94_42 : Rn 94 42 L (vI b :: vI a :: st) T σ K ↔ (a < b → Rn 94 57 L st T σ K) ∧ (b ≤ a → Rn 94 45 L st T σ K) := R_icmp_lt (off := 15) (by decide +kernel) (by decide)
theorem s94_45 : Rn 94 45 [l0, l1, l2, l3, l4, l5, some (vI a)] st T σ K ↔ Rn 94 47 [l0, l1, l2, l3, l4, l5, some (vI a)] (vI a :: st) T σ K := R_iload (n := 6) (by decide +kernel) rfl
theorem s94_47 : Rn 94 47 [l0, l1, l2, some (vI a), l4, l5, l6] st T σ K ↔ Rn 94 48 [l0, l1, l2, some (vI a), l4, l5, l6] (vI a :: st) T σ K := R_iload_n (n := 3) (by decide +kernel) rfl
theorem s94_48 : Rn 94 48 L (vI b :: vI a :: st) T σ K ↔ (a ≠ b → Rn 94 60 L st T σ K) ∧ (a = b → Rn 94 51 L st T σ K) := R_icmp_ne (off := 12) (by decide +kernel) (by decide)
theorem s94_51 : Rn 94 51 [l0, l1, l2, l3, l4, some (vI a), l6] st T σ K ↔ Rn 94 53 [l0, l1, l2, l3, l4, some (vI a), l6] (vI a :: st) T σ K := R_iload (n := 5) (by decide +kernel) rfl
theorem s94_53 : Rn 94 53 [l0, some (vI a), l2, l3, l4, l5, l6] st T σ K ↔ Rn 94 54 [l0, some (vI a), l2, l3, l4, l5, l6] (vI a :: st) T σ K := R_iload_n (n := 1) (by decide +kernel) rfl
theorem s94_54 : Rn 94 54 L (vI b :: vI a :: st) T σ K ↔ (b ≤ a → Rn 94 60 L st T σ K) ∧ (a < b → Rn 94 57 L st T σ K) := R_icmp_ge (off := 6) (by decide +kernel) (by decide)
theorem s94_57 : Rn 94 57 [l0, l1, l2, l3, some (vI a), l5, l6] st T σ K ↔ inI (a + 1) ∧ Rn 94 60 [l0, l1, l2, l3, some (vI (a + 1)), l5, l6] st T σ K := R_iinc (n := 4) (d := 1) (by decide +kernel) rfl
theorem s94_60 : Rn 94 60 [l0, l1, l2, l3, l4, some (vI a), l6] st T σ K ↔ inI (a + 1) ∧ Rn 94 63 [l0, l1, l2, l3, l4, some (vI (a + 1)), l6] st T σ K := R_iinc (n := 5) (d := 1) (by decide +kernel) rfl
theorem s94_63 : Rn 94 63 L st T σ K ↔ Rn 94 13 L st T σ K := R_goto (off := -50) (by decide +kernel) (by decide)
theorem s94_66 : Rn 94 66 [l0, l1, l2, l3, some (vI a), l5, l6] st T σ K ↔ Rn 94 68 [l0, l1, l2, l3, some (vI a), l5, l6] (vI a :: st) T σ K := R_iload (n := 4) (by decide +kernel) rfl
theorem s94_68 : Rn 94 68 L [vI a] T σ K ↔ K (some (vI a)) T σ := R_ret (by decide +kernel) (by decide +kernel)
theorem s95_0 : Rn 95 0 [l0, some (vI a), l2, l3, l4, l5] st T σ K ↔ Rn 95 1 [l0, some (vI a), l2, l3, l4, l5] (vI a :: st) T σ K := R_iload_n (n := 1) (by decide +kernel) rfl
theorem s95_1 : Rn 95 1 [l0, l1, some (vI a), l3, l4, l5] st T σ K ↔ Rn 95 2 [l0, l1, some (vI a), l3, l4, l5] (vI a :: st) T σ K := R_iload_n (n := 2) (by decide +kernel) rfl
theorem s95_2 : Rn 95 2 [l0, l1, l2, some (vI a), l4, l5] st T σ K ↔ Rn 95 3 [l0, l1, l2, some (vI a), l4, l5] (vI a :: st) T σ K := R_iload_n (n := 3) (by decide +kernel) rfl
theorem s95_3 : Rn 95 3 L (vI c :: vI b :: vI a :: st) T σ K ↔ st.length ≤ 4 ∧ Rn 33 0 [some (vI a), some (vI b), some (vI c)] [] T σ (fun r T' σ' => Rn 95 6 L (sx_push r st) T' σ' K) := R_S (cm := 33) (n := 3) (idx := 169) (mx := 3) (vs := [vI a, vI b, vI c]) (by decide +kernel) (Or.inl (by decide +kernel)) rfl (by decide +kernel) rfl (by decide +kernel)
theorem s95_6 : Rn 95 6 [l0, l1, l2, l3, l4, l5] (vI a :: st) T σ K ↔ Rn 95 8 [l0, l1, l2, l3, l4, some (vI a)] st T σ K := R_istore (n := 5) (by decide +kernel) rfl
theorem s95_8 : Rn 95 8 [l0, l1, l2, l3, l4, some (vI a)] st T σ K ↔ Rn 95 10 [l0, l1, l2, l3, l4, some (vI a)] (vI a :: st) T σ K := R_iload (n := 5) (by decide +kernel) rfl
theorem s95_10 : Rn 95 10 L st T σ K ↔ Rn 95 11 L (vI (-1) :: st) T σ K := R_iconst (n := -1) (by decide +kernel) (by decide)
theorem s95_11 : Rn 95 11 L (vI b :: vI a :: st) T σ K ↔ (a = b → Rn 95 22 L st T σ K) ∧ (a ≠ b → Rn 95 14 L st T σ K) := R_icmp_eq (off := 11) (by decide +kernel) (by decide)
theorem s95_14 : Rn 95 14 [l0, l1, l2, l3, some (vI a), l5] st T σ K ↔ Rn 95 16 [l0, l1, l2, l3, some (vI a), l5] (vI a :: st) T σ K := R_iload (n := 4) (by decide +kernel) rfl
theorem s95_16 : Rn 95 16 L (vI a :: st) T σ K ↔ st.length ≤ 4 ∧ Rn 88 0 [some (vI a)] [] T σ (fun r T' σ' => Rn 95 19 L (sx_push r st) T' σ' K) := R_S (cm := 88) (n := 1) (idx := 237) (mx := 1) (vs := [vI a]) (by decide +kernel) (Or.inl (by decide +kernel)) rfl (by decide +kernel) rfl (by decide +kernel)
theorem s95_19 : Rn 95 19 L (vI a :: st) T σ K ↔ (a ≠ 0 → Rn 95 26 L st T σ K) ∧ (a = 0 → Rn 95 22 L st T σ K) := R_if_ne (off := 7) (by decide +kernel) (by decide)
theorem s95_22 : Rn 95 22 L st T σ K ↔ Rn 95 23 L (vI (-1) :: st) T σ K := R_iconst (n := -1) (by decide +kernel) (by decide)
theorem s95_23 : Rn 95 23 L st T σ K ↔ Rn 95 37 L st T σ K := R_goto (off := 14) (by decide +kernel) (by decide)
theorem s95_26 : Rn 95 26 [some (vR o), l1, l2, l3, l4, l5] st T σ K ↔ Rn 95 27 [some (vR o), l1, l2, l3, l4, l5] (vR o :: st) T σ K := R_aload_n (n := 0) (by decide +kernel) rfl
theorem s95_27 : Rn 95 27 L (vR o :: st) T σ K ↔ sx_kd T o = 8 ∧ ∃ t, sx_rf T o 2 = some t ∧ Rn 95 30 L (vR t :: st) T σ K := R_getR (idx := 28) (ci := 8) (k := 2) (by decide +kernel) (by decide +kernel) rfl
theorem s95_30 : Rn 95 30 [l0, l1, l2, l3, l4, some (vI a)] st T σ K ↔ Rn 95 32 [l0, l1, l2, l3, l4, some (vI a)] (vI a :: st) T σ K := R_iload (n := 5) (by decide +kernel) rfl
theorem s95_32 : Rn 95 32 [l0, l1, l2, l3, some (vI a), l5] st T σ K ↔ Rn 95 34 [l0, l1, l2, l3, some (vI a), l5] (vI a :: st) T σ K := R_iload (n := 4) (by decide +kernel) rfl
theorem s95_34 : Rn 95 34 L (vI b :: vI a :: vR o :: st) T σ K ↔ (sx_kd T o = 2 ∧ st.length ≤ 4) ∧ Rn 96 0 [some (vR o), some (vI a), some (vI b), none, none] [] T σ (fun r T' σ' => Rn 95 37 L (sx_push r st) T' σ' K) := R_V (cm := 96) (n := 2) (idx := 263) (ci := 2) (mx := 5) (vs := [vI a, vI b]) (by decide +kernel) (by decide +kernel) rfl (by decide +kernel) rfl (by decide +kernel) (by decide +kernel)
theorem s95_37 : Rn 95 37 L [vI a] T σ K ↔ K (some (vI a)) T σ := R_ret (by decide +kernel) (by decide +kernel)
theorem s96_0 : Rn 96 0 L st T σ K ↔ Rn 96 1 L (vI 0 :: st) T σ K := R_iconst (n := 0) (by decide +kernel) (by decide)
theorem s96_1 : Rn 96 1 [l0, l1, l2, l3, l4] (vI a :: st) T σ K ↔ Rn 96 2 [l0, l1, l2, some (vI a), l4] st T σ K := R_istore_n (n := 3) (by decide +kernel) rfl
theorem s96_2 : Rn 96 2 L st T σ K ↔ Rn 96 3 L (vI 0 :: st) T σ K := R_iconst (n := 0) (by decide +kernel) (by decide)
theorem s96_3 : Rn 96 3 [l0, l1, l2, l3, l4] (vI a :: st) T σ K ↔ Rn 96 5 [l0, l1, l2, l3, some (vI a)] st T σ K := R_istore (n := 4) (by decide +kernel) rfl
theorem s96_5 : Rn 96 5 [l0, l1, l2, l3, some (vI a)] st T σ K ↔ Rn 96 7 [l0, l1, l2, l3, some (vI a)] (vI a :: st) T σ K := R_iload (n := 4) (by decide +kernel) rfl
theorem s96_7 : Rn 96 7 L st T σ K ↔ Rn 96 9 L (vI 40 :: st) T σ K := R_bipush (n := 40) (by decide +kernel) (by decide +kernel)
theorem s96_9 : Rn 96 9 L (vI b :: vI a :: st) T σ K ↔ (b ≤ a → Rn 96 42 L st T σ K) ∧ (a < b → Rn 96 12 L st T σ K) := R_icmp_ge (off := 33) (by decide +kernel) (by decide)
theorem s96_12 : Rn 96 12 [some (vR o), l1, l2, l3, l4] st T σ K ↔ Rn 96 13 [some (vR o), l1, l2, l3, l4] (vR o :: st) T σ K := R_aload_n (n := 0) (by decide +kernel) rfl
theorem s96_13 : Rn 96 13 L (vR o :: st) T σ K ↔ sx_kd T o = 2 ∧ ∃ t, sx_rf T o 1 = some t ∧ Rn 96 16 L (vR t :: st) T σ K := R_getR (idx := 15) (ci := 2) (k := 1) (by decide +kernel) (by decide +kernel) rfl
theorem s96_16 : Rn 96 16 [l0, l1, l2, l3, some (vI a)] st T σ K ↔ Rn 96 18 [l0, l1, l2, l3, some (vI a)] (vI a :: st) T σ K := R_iload (n := 4) (by decide +kernel) rfl
theorem s96_18 : Rn 96 18 L (vI a :: vR o :: st) T σ K ↔ (sx_kd T o = 20 ∧ 0 ≤ a ∧ a < sx_ln T o) ∧ Rn 96 19 L (vI (σ o a) :: st) T σ K := R_iald (by decide +kernel) (by decide)
theorem s96_19 : Rn 96 19 L (vI a :: st) T σ K ↔ (a < 0 → Rn 96 36 L st T σ K) ∧ (0 ≤ a → Rn 96 22 L st T σ K) := R_if_lt (off := 17) (by decide +kernel) (by decide)
theorem s96_22 : Rn 96 22 [some (vR o), l1, l2, l3, l4] st T σ K ↔ Rn 96 23 [some (vR o), l1, l2, l3, l4] (vR o :: st) T σ K := R_aload_n (n := 0) (by decide +kernel) rfl
theorem s96_23 : Rn 96 23 [l0, l1, l2, l3, some (vI a)] st T σ K ↔ Rn 96 25 [l0, l1, l2, l3, some (vI a)] (vI a :: st) T σ K := R_iload (n := 4) (by decide +kernel) rfl
theorem s96_25 : Rn 96 25 [l0, some (vI a), l2, l3, l4] st T σ K ↔ Rn 96 26 [l0, some (vI a), l2, l3, l4] (vI a :: st) T σ K := R_iload_n (n := 1) (by decide +kernel) rfl
theorem s96_26 : Rn 96 26 L (vI b :: vI a :: vR o :: st) T σ K ↔ (sx_kd T o = 2 ∧ st.length ≤ 4) ∧ Rn 42 0 [some (vR o), some (vI a), some (vI b)] [] T σ (fun r T' σ' => Rn 96 29 L (sx_push r st) T' σ' K) := R_V (cm := 42) (n := 2) (idx := 68) (ci := 2) (mx := 3) (vs := [vI a, vI b]) (by decide +kernel) (by decide +kernel) rfl (by decide +kernel) rfl (by decide +kernel) (by decide +kernel)
theorem s96_29 : Rn 96 29 [l0, l1, some (vI a), l3, l4] st T σ K ↔ Rn 96 30 [l0, l1, some (vI a), l3, l4] (vI a :: st) T σ K := R_iload_n (n := 2) (by decide +kernel) rfl
theorem s96_30 : Rn 96 30 L (vI b :: vI a :: st) T σ K ↔ (b < a → Rn 96 36 L st T σ K) ∧ (a ≤ b → Rn 96 33 L st T σ K) := R_icmp_gt (off := 6) (by decide +kernel) (by decide)
theorem s96_33 : Rn 96 33 [l0, l1, l2, some (vI a), l4] st T σ K ↔ inI (a + 1) ∧ Rn 96 36 [l0, l1, l2, some (vI (a + 1)), l4] st T σ K := R_iinc (n := 3) (d := 1) (by decide +kernel) rfl
theorem s96_36 : Rn 96 36 [l0, l1, l2, l3, some (vI a)] st T σ K ↔ inI (a + 1) ∧ Rn 96 39 [l0, l1, l2, l3, some (vI (a + 1))] st T σ K := R_iinc (n := 4) (d := 1) (by decide +kernel) rfl
theorem s96_39 : Rn 96 39 L st T σ K ↔ Rn 96 5 L st T σ K := R_goto (off := -34) (by decide +kernel) (by decide)
theorem s96_42 : Rn 96 42 [l0, l1, l2, some (vI a), l4] st T σ K ↔ Rn 96 43 [l0, l1, l2, some (vI a), l4] (vI a :: st) T σ K := R_iload_n (n := 3) (by decide +kernel) rfl
theorem s96_43 : Rn 96 43 L [vI a] T σ K ↔ K (some (vI a)) T σ := R_ret (by decide +kernel) (by decide +kernel)
theorem s97_0 : Rn 97 0 [l0, some (vI a), l2, l3, l4, l5] st T σ K ↔ Rn 97 1 [l0, some (vI a), l2, l3, l4, l5] (vI a :: st) T σ K := R_iload_n (n := 1) (by decide +kernel) rfl
theorem s97_1 : Rn 97 1 [l0, l1, some (vI a), l3, l4, l5] st T σ K ↔ Rn 97 2 [l0, l1, some (vI a), l3, l4, l5] (vI a :: st) T σ K := R_iload_n (n := 2) (by decide +kernel) rfl
theorem s97_2 : Rn 97 2 [l0, l1, l2, some (vI a), l4, l5] st T σ K ↔ Rn 97 3 [l0, l1, l2, some (vI a), l4, l5] (vI a :: st) T σ K := R_iload_n (n := 3) (by decide +kernel) rfl
theorem s97_3 : Rn 97 3 L (vI c :: vI b :: vI a :: st) T σ K ↔ st.length ≤ 4 ∧ Rn 33 0 [some (vI a), some (vI b), some (vI c)] [] T σ (fun r T' σ' => Rn 97 6 L (sx_push r st) T' σ' K) := R_S (cm := 33) (n := 3) (idx := 169) (mx := 3) (vs := [vI a, vI b, vI c]) (by decide +kernel) (Or.inl (by decide +kernel)) rfl (by decide +kernel) rfl (by decide +kernel)
theorem s97_6 : Rn 97 6 [l0, l1, l2, l3, l4, l5] (vI a :: st) T σ K ↔ Rn 97 8 [l0, l1, l2, l3, l4, some (vI a)] st T σ K := R_istore (n := 5) (by decide +kernel) rfl
theorem s97_8 : Rn 97 8 [l0, l1, l2, l3, l4, some (vI a)] st T σ K ↔ Rn 97 10 [l0, l1, l2, l3, l4, some (vI a)] (vI a :: st) T σ K := R_iload (n := 5) (by decide +kernel) rfl
theorem s97_10 : Rn 97 10 L st T σ K ↔ Rn 97 11 L (vI (-1) :: st) T σ K := R_iconst (n := -1) (by decide +kernel) (by decide)
theorem s97_11 : Rn 97 11 L (vI b :: vI a :: st) T σ K ↔ (a = b → Rn 97 25 L st T σ K) ∧ (a ≠ b → Rn 97 14 L st T σ K) := R_icmp_eq (off := 14) (by decide +kernel) (by decide)
theorem s97_14 : Rn 97 14 [some (vR o), l1, l2, l3, l4, l5] st T σ K ↔ Rn 97 15 [some (vR o), l1, l2, l3, l4, l5] (vR o :: st) T σ K := R_aload_n (n := 0) (by decide +kernel) rfl
theorem s97_15 : Rn 97 15 L (vR o :: st) T σ K ↔ sx_kd T o = 8 ∧ ∃ t, sx_rf T o 2 = some t ∧ Rn 97 18 L (vR t :: st) T σ K := R_getR (idx := 28) (ci := 8) (k := 2) (by decide +kernel) (by decide +kernel) rfl
theorem s97_18 : Rn 97 18 L (vR o :: st) T σ K ↔ sx_kd T o = 2 ∧ Rn 97 21 L (vI (σ o 5) :: st) T σ K := R_getI (idx := 136) (ci := 2) (k := 5) (by decide +kernel) (by decide +kernel) (Or.inl rfl)
theorem s97_21 : Rn 97 21 L st T σ K ↔ Rn 97 22 L (vI (-1) :: st) T σ K := R_iconst (n := -1) (by decide +kernel) (by decide)
theorem s97_22 : Rn 97 22 L (vI b :: vI a :: st) T σ K ↔ (a ≠ b → Rn 97 27 L st T σ K) ∧ (a = b → Rn 97 25 L st T σ K) := R_icmp_ne (off := 5) (by decide +kernel) (by decide)
theorem s97_25 : Rn 97 25 L st T σ K ↔ Rn 97 26 L (vI (-1) :: st) T σ K := R_iconst (n := -1) (by decide +kernel) (by decide)
theorem s97_26 : Rn 97 26 L [vI a] T σ K ↔ K (some (vI a)) T σ := R_ret (by decide +kernel) (by decide +kernel)
theorem s97_27 : Rn 97 27 [some (vR o), l1, l2, l3, l4, l5] st T σ K ↔ Rn 97 28 [some (vR o), l1, l2, l3, l4, l5] (vR o :: st) T σ K := R_aload_n (n := 0) (by decide +kernel) rfl
theorem s97_28 : Rn 97 28 L (vR o :: st) T σ K ↔ sx_kd T o = 8 ∧ ∃ t, sx_rf T o 6 = some t ∧ Rn 97 31 L (vR t :: st) T σ K := R_getR (idx := 51) (ci := 8) (k := 6) (by decide +kernel) (by decide +kernel) rfl
theorem s97_31 : Rn 97 31 [l0, l1, l2, l3, l4, some (vI a)] st T σ K ↔ Rn 97 33 [l0, l1, l2, l3, l4, some (vI a)] (vI a :: st) T σ K := R_iload (n := 5) (by decide +kernel) rfl
theorem s97_33 : Rn 97 33 L (vI a :: vR o :: st) T σ K ↔ (sx_kd T o = 3 ∧ st.length ≤ 4) ∧ Rn 77 0 [some (vR o), some (vI a), none] [] T σ (fun r T' σ' => Rn 97 36 L (sx_push r st) T' σ' K) := R_V (cm := 77) (n := 1) (idx := 207) (ci := 3) (mx := 3) (vs := [vI a]) (by decide +kernel) (by decide +kernel) rfl (by decide +kernel) rfl (by decide +kernel) (by decide +kernel)
theorem s97_36 : Rn 97 36 [l0, l1, l2, l3, some (vI a), l5] st T σ K ↔ Rn 97 38 [l0, l1, l2, l3, some (vI a), l5] (vI a :: st) T σ K := R_iload (n := 4) (by decide +kernel) rfl
theorem s97_38 : Rn 97 38 L (vI a :: st) T σ K ↔ sx_sw [(0, 64), (1, 72), (2, 80)] 88 a (fun t => Rn 97 t L st T σ K) := R_table (d := 50) (lo := 0) (hi := 2) (offs := #[26, 34, 42]) (len := 26) (by decide +kernel) (by decide +kernel)
theorem s97_64 : Rn 97 64 [some (vR o), l1, l2, l3, l4, l5] st T σ K ↔ Rn 97 65 [some (vR o), l1, l2, l3, l4, l5] (vR o :: st) T σ K := R_aload_n (n := 0) (by decide +kernel) rfl
theorem s97_65 : Rn 97 65 L (vR o :: st) T σ K ↔ sx_kd T o = 8 ∧ ∃ t, sx_rf T o 6 = some t ∧ Rn 97 68 L (vR t :: st) T σ K := R_getR (idx := 51) (ci := 8) (k := 6) (by decide +kernel) (by decide +kernel) rfl
theorem s97_68 : Rn 97 68 L (vR o :: st) T σ K ↔ sx_kd T o = 3 ∧ Rn 97 71 L (vI (σ o 10) :: st) T σ K := R_getI (idx := 210) (ci := 3) (k := 10) (by decide +kernel) (by decide +kernel) (Or.inl rfl)
theorem s97_71 : Rn 97 71 L [vI a] T σ K ↔ K (some (vI a)) T σ := R_ret (by decide +kernel) (by decide +kernel)
theorem s97_72 : Rn 97 72 [some (vR o), l1, l2, l3, l4, l5] st T σ K ↔ Rn 97 73 [some (vR o), l1, l2, l3, l4, l5] (vR o :: st) T σ K := R_aload_n (n := 0) (by decide +kernel) rfl
theorem s97_73 : Rn 97 73 L (vR o :: st) T σ K ↔ sx_kd T o = 8 ∧ ∃ t, sx_rf T o 6 = some t ∧ Rn 97 76 L (vR t :: st) T σ K := R_getR (idx := 51) (ci := 8) (k := 6) (by decide +kernel) (by decide +kernel) rfl
theorem s97_76 : Rn 97 76 L (vR o :: st) T σ K ↔ sx_kd T o = 3 ∧ Rn 97 79 L (vI (σ o 11) :: st) T σ K := R_getI (idx := 213) (ci := 3) (k := 11) (by decide +kernel) (by decide +kernel) (Or.inl rfl)
theorem s97_79 : Rn 97 79 L [vI a] T σ K ↔ K (some (vI a)) T σ := R_ret (by decide +kernel) (by decide +kernel)
theorem s97_80 : Rn 97 80 [some (vR o), l1, l2, l3, l4, l5] st T σ K ↔ Rn 97 81 [some (vR o), l1, l2, l3, l4, l5] (vR o :: st) T σ K := R_aload_n (n := 0) (by decide +kernel) rfl
theorem s97_81 : Rn 97 81 L (vR o :: st) T σ K ↔ sx_kd T o = 8 ∧ ∃ t, sx_rf T o 6 = some t ∧ Rn 97 84 L (vR t :: st) T σ K := R_getR (idx := 51) (ci := 8) (k := 6) (by decide +kernel) (by decide +kernel) rfl
theorem s97_84 : Rn 97 84 L (vR o :: st) T σ K ↔ sx_kd T o = 3 ∧ Rn 97 87 L (vI (σ o 9) :: st) T σ K := R_getI (idx := 216) (ci := 3) (k := 9) (by decide +kernel) (by decide +kernel) (Or.inl rfl)
theorem s97_87 : Rn 97 87 L [vI a] T σ K ↔ K (some (vI a)) T σ := R_ret (by decide +kernel) (by decide +kernel)
theorem s97_88 : Rn 97 88 L st T σ K ↔ Rn 97 89 L (vI (-1) :: st) T σ K := R_iconst (n := -1) (by decide +kernel) (by decide)
theorem s97_89 : Rn 97 89 L [vI a] T σ K ↔ K (some (vI a)) T σ := R_ret (by decide +kernel) (by decide +kernel)
theorem s98_0 : Rn 98 0 [l0, some (vI a), l2] st T σ K ↔ Rn 98 1 [l0, some (vI a), l2] (vI a :: st) T σ K := R_iload_n (n := 1) (by decide +kernel) rfl
theorem s98_1 : Rn 98 1 L st T σ K ↔ Rn 98 2 L (vI 1 :: st) T σ K := R_iconst (n := 1) (by decide +kernel) (by decide)
theorem s98_2 : Rn 98 2 L (vI b :: vI a :: st) T σ K ↔ (a < b → Rn 98 16 L st T σ K) ∧ (b ≤ a → Rn 98 5 L st T σ K) := R_icmp_lt (off := 14) (by decide +kernel) (by decide)
theorem s98_5 : Rn 98 5 [l0, some (vI a), l2] st T σ K ↔ Rn 98 6 [l0, some (vI a), l2] (vI a :: st) T σ K := R_iload_n (n := 1) (by decide +kernel) rfl
theorem s98_6 : Rn 98 6 [some (vR o), l1, l2] st T σ K ↔ Rn 98 7 [some (vR o), l1, l2] (vR o :: st) T σ K := R_aload_n (n := 0) (by decide +kernel) rfl
theorem s98_7 : Rn 98 7 L (vR o :: st) T σ K ↔ sx_kd T o = 8 ∧ ∃ t, sx_rf T o 2 = some t ∧ Rn 98 10 L (vR t :: st) T σ K := R_getR (idx := 28) (ci := 8) (k := 2) (by decide +kernel) (by decide +kernel) rfl
theorem s98_10 : Rn 98 10 L (vR o :: st) T σ K ↔ sx_kd T o = 2 ∧ Rn 98 13 L (vI (σ o 6) :: st) T σ K := R_getI (idx := 135) (ci := 2) (k := 6) (by decide +kernel) (by decide +kernel) (Or.inl rfl)
theorem s98_13 : Rn 98 13 L (vI b :: vI a :: st) T σ K ↔ (a ≤ b → Rn 98 18 L st T σ K) ∧ (b < a → Rn 98 16 L st T σ K) := R_icmp_le (off := 5) (by decide +kernel) (by decide)
theorem s98_16 : Rn 98 16 L st T σ K ↔ Rn 98 17 L (vI (-1) :: st) T σ K := R_iconst (n := -1) (by decide +kernel) (by decide)
theorem s98_17 : Rn 98 17 L [vI a] T σ K ↔ K (some (vI a)) T σ := R_ret (by decide +kernel) (by decide +kernel)
theorem s98_18 : Rn 98 18 [some (vR o), l1, l2] st T σ K ↔ Rn 98 19 [some (vR o), l1, l2] (vR o :: st) T σ K := R_aload_n (n := 0) (by decide +kernel) rfl
theorem s98_19 : Rn 98 19 L (vR o :: st) T σ K ↔ sx_kd T o = 8 ∧ ∃ t, sx_rf T o 7 = some t ∧ Rn 98 22 L (vR t :: st) T σ K := R_getR (idx := 59) (ci := 8) (k := 7) (by decide +kernel) (by decide +kernel) rfl
theorem s98_22 : Rn 98 22 L (vR o :: st) T σ K ↔ (sx_kd T o = 7 ∧ st.length ≤ 4) ∧ Rn 99 0 [some (vR o), none, none, none] [] T σ (fun r T' σ' => Rn 98 25 L (sx_push r st) T' σ' K) := R_V (cm := 99) (n := 0) (idx := 266) (ci := 7) (mx := 4) (vs := []) (by decide +kernel) (by decide +kernel) rfl (by decide +kernel) rfl (by decide +kernel) (by decide +kernel)
theorem s98_25 : Rn 98 25 [l0, l1, some (vI a)] st T σ K ↔ Rn 98 26 [l0, l1, some (vI a)] (vI a :: st) T σ K := R_iload_n (n := 2) (by decide +kernel) rfl
theorem s98_26 : Rn 98 26 L (vI a :: st) T σ K ↔ sx_sw [(0, 52), (1, 69), (2, 78)] 87 a (fun t => Rn 98 t L st T σ K) := R_table (d := 61) (lo := 0) (hi := 2) (offs := #[26, 43, 52]) (len := 26) (by decide +kernel) (by decide +kernel)
theorem s98_52 : Rn 98 52 [some (vR o), l1, l2] st T σ K ↔ Rn 98 53 [some (vR o), l1, l2] (vR o :: st) T σ K := R_aload_n (n := 0) (by decide +kernel) rfl
theorem s98_53 : Rn 98 53 L (vR o :: st) T σ K ↔ sx_kd T o = 8 ∧ ∃ t, sx_rf T o 7 = some t ∧ Rn 98 56 L (vR t :: st) T σ K := R_getR (idx := 59) (ci := 8) (k := 7) (by decide +kernel) (by decide +kernel) rfl
theorem s98_56 : Rn 98 56 [some (vR o), l1, l2] st T σ K ↔ Rn 98 57 [some (vR o), l1, l2] (vR o :: st) T σ K := R_aload_n (n := 0) (by decide +kernel) rfl
theorem s98_57 : Rn 98 57 L (vR o :: st) T σ K ↔ sx_kd T o = 8 ∧ ∃ t, sx_rf T o 7 = some t ∧ Rn 98 60 L (vR t :: st) T σ K := R_getR (idx := 59) (ci := 8) (k := 7) (by decide +kernel) (by decide +kernel) rfl
theorem s98_60 : Rn 98 60 [l0, some (vI a), l2] st T σ K ↔ Rn 98 61 [l0, some (vI a), l2] (vI a :: st) T σ K := R_iload_n (n := 1) (by decide +kernel) rfl
theorem s98_61 : Rn 98 61 L (vI a :: vR o :: st) T σ K ↔ (sx_kd T o = 7 ∧ st.length ≤ 4) ∧ Rn 101 0 [some (vR o), some (vI a), none, none, none, none] [] T σ (fun r T' σ' => Rn 98 64 L (sx_push r st) T' σ' K) := R_V (cm := 101) (n := 1) (idx := 269) (ci := 7) (mx := 6) (vs := [vI a]) (by decide +kernel) (by decide +kernel) rfl (by decide +kernel) rfl (by decide +kernel) (by decide +kernel)
theorem s98_64 : Rn 98 64 [l0, some (vI a), l2] st T σ K ↔ Rn 98 65 [l0, some (vI a), l2] (vI a :: st) T σ K := R_iload_n (n := 1) (by decide +kernel) rfl
theorem s98_65 : Rn 98 65 L (vI b :: vI a :: vR o :: st) T σ K ↔ (sx_kd T o = 7 ∧ st.length ≤ 4) ∧ Rn 102 0 [some (vR o), some (vI a), some (vI b), none] [] T σ (fun r T' σ' => Rn 98 68 L (sx_push r st) T' σ' K) := R_V (cm := 102) (n := 2) (idx := 272) (ci := 7) (mx := 4) (vs := [vI a, vI b]) (by decide +kernel) (by decide +kernel) rfl (by decide +kernel) rfl (by decide +kernel) (by decide +kernel)
theorem s98_68 : Rn 98 68 L [vI a] T σ K ↔ K (some (vI a)) T σ := R_ret (by decide +kernel) (by decide +kernel)
theorem s98_69 : Rn 98 69 [some (vR o), l1, l2] st T σ K ↔ Rn 98 70 [some (vR o), l1, l2] (vR o :: st) T σ K := R_aload_n (n := 0) (by decide +kernel) rfl
theorem s98_70 : Rn 98 70 L (vR o :: st) T σ K ↔ sx_kd T o = 8 ∧ ∃ t, sx_rf T o 7 = some t ∧ Rn 98 73 L (vR t :: st) T σ K := R_getR (idx := 59) (ci := 8) (k := 7) (by decide +kernel) (by decide +kernel) rfl
theorem s98_73 : Rn 98 73 [l0, some (vI a), l2] st T σ K ↔ Rn 98 74 [l0, some (vI a), l2] (vI a :: st) T σ K := R_iload_n (n := 1) (by decide +kernel) rfl
theorem s98_74 : Rn 98 74 L (vI a :: vR o :: st) T σ K ↔ (sx_kd T o = 7 ∧ st.length ≤ 4) ∧ Rn 101 0 [some (vR o), some (vI a), none, none, none, none] [] T σ (fun r T' σ' => Rn 98 77 L (sx_push r st) T' σ' K) := R_V (cm := 101) (n := 1) (idx := 269) (ci := 7) (mx := 6) (vs := [vI a]) (by decide +kernel) (by decide +kernel) rfl (by decide +kernel) rfl (by decide +kernel) (by decide +kernel)
theorem s98_77 : Rn 98 77 L [vI a] T σ K ↔ K (some (vI a)) T σ := R_ret (by decide +kernel) (by decide +kernel)
theorem s98_78 : Rn 98 78 [some (vR o), l1, l2] st T σ K ↔ Rn 98 79 [some (vR o), l1, l2] (vR o :: st) T σ K := R_aload_n (n := 0) (by decide +kernel) rfl
theorem s98_79 : Rn 98 79 L (vR o :: st) T σ K ↔ sx_kd T o = 8 ∧ ∃ t, sx_rf T o 7 = some t ∧ Rn 98 82 L (vR t :: st) T σ K := R_getR (idx := 59) (ci := 8) (k := 7) (by decide +kernel) (by decide +kernel) rfl
theorem s98_82 : Rn 98 82 [l0, some (vI a), l2] st T σ K ↔ Rn 98 83 [l0, some (vI a), l2] (vI a :: st) T σ K := R_iload_n (n := 1) (by decide +kernel) rfl
theorem s98_83 : Rn 98 83 L (vI a :: vR o :: st) T σ K ↔ (sx_kd T o = 7 ∧ st.length ≤ 4) ∧ Rn 104 0 [some (vR o), some (vI a), none, none, none] [] T σ (fun r T' σ' => Rn 98 86 L (sx_push r st) T' σ' K) := R_V (cm := 104) (n := 1) (idx := 275) (ci := 7) (mx := 5) (vs := [vI a]) (by decide +kernel) (by decide +kernel) rfl (by decide +kernel) rfl (by decide +kernel) (by decide +kernel)
theorem s98_86 : Rn 98 86 L [vI a] T σ K ↔ K (some (vI a)) T σ := R_ret (by decide +kernel) (by decide +kernel)
theorem s98_87 : Rn 98 87 L st T σ K ↔ Rn 98 88 L (vI (-1) :: st) T σ K := R_iconst (n := -1) (by decide +kernel) (by decide)
theorem s98_88 : Rn 98 88 L [vI a] T σ K ↔ K (some (vI a)) T σ := R_ret (by decide +kernel) (by decide +kernel)
theorem s99_0 : Rn 99 0 [some (vR o), l1, l2, l3] st T σ K ↔ Rn 99 1 [some (vR o), l1, l2, l3] (vR o :: st) T σ K := R_aload_n (n := 0) (by decide +kernel) rfl
theorem s99_1 : Rn 99 1 L (vR o :: st) T σ K ↔ sx_kd T o = 7 ∧ ∃ t, sx_rf T o 0 = some t ∧ Rn 99 4 L (vR t :: st) T σ K := R_getR (idx := 34) (ci := 7) (k := 0) (by decide +kernel) (by decide +kernel) rfl
theorem s99_4 : Rn 99 4 L (vR o :: st) T σ K ↔ sx_kd T o = 2 ∧ Rn 99 7 L (vI (σ o 5) :: st) T σ K := R_getI (idx := 66) (ci := 2) (k := 5) (by decide +kernel) (by decide +kernel) (Or.inl rfl)
theorem s99_7 : Rn 99 7 [l0, l1, l2, l3] (vI a :: st) T σ K ↔ Rn 99 8 [l0, some (vI a), l2, l3] st T σ K := R_istore_n (n := 1) (by decide +kernel) rfl
theorem s99_8 : Rn 99 8 L st T σ K ↔ Rn 99 9 L (vI 0 :: st) T σ K := R_iconst (n := 0) (by decide +kernel) (by decide)
theorem s99_9 : Rn 99 9 [l0, l1, l2, l3] (vI a :: st) T σ K ↔ Rn 99 10 [l0, l1, some (vI a), l3] st T σ K := R_istore_n (n := 2) (by decide +kernel) rfl
theorem s99_10 : Rn 99 10 [l0, l1, some (vI a), l3] st T σ K ↔ Rn 99 11 [l0, l1, some (vI a), l3] (vI a :: st) T σ K := R_iload_n (n := 2) (by decide +kernel) rfl
theorem s99_11 : Rn 99 11 L st T σ K ↔ Rn 99 13 L (vI 40 :: st) T σ K := R_bipush (n := 40) (by decide +kernel) (by decide +kernel)
theorem s99_13 : Rn 99 13 L (vI b :: vI a :: st) T σ K ↔ (b ≤ a → Rn 99 37 L st T σ K) ∧ (a < b → Rn 99 16 L st T σ K) := R_icmp_ge (off := 24) (by decide +kernel) (by decide)
theorem s99_16 : Rn 99 16 [some (vR o), l1, l2, l3] st T σ K ↔ Rn 99 17 [some (vR o), l1, l2, l3] (vR o :: st) T σ K := R_aload_n (n := 0) (by decide +kernel) rfl
theorem s99_17 : Rn 99 17 L (vR o :: st) T σ K ↔ sx_kd T o = 7 ∧ ∃ t, sx_rf T o 7 = some t ∧ Rn 99 20 L (vR t :: st) T σ K := R_getR (idx := 30) (ci := 7) (k := 7) (by decide +kernel) (by decide +kernel) rfl
theorem s99_20 : Rn 99 20 [l0, l1, some (vI a), l3] st T σ K ↔ Rn 99 21 [l0, l1, some (vI a), l3] (vI a :: st) T σ K := R_iload_n (n := 2) (by decide +kernel) rfl
theorem s99_21 : Rn 99 21 L st T σ K ↔ Rn 99 22 L (vI 0 :: st) T σ K := R_iconst (n := 0) (by decide +kernel) (by decide)
theorem s99_22 : Rn 99 22 L (vI b :: vI a :: vR o :: st) T σ K ↔ (sx_kd T o = 21 ∧ 0 ≤ a ∧ a < sx_ln T o ∧ (b = 0 ∨ b = 1)) ∧ Rn 99 23 L st T (sx_up σ o a b) K := R_zast (by decide +kernel)
theorem s99_23 : Rn 99 23 [some (vR o), l1, l2, l3] st T σ K ↔ Rn 99 24 [some (vR o), l1, l2, l3] (vR o :: st) T σ K := R_aload_n (n := 0) (by decide +kernel) rfl
theorem s99_24 : Rn 99 24 L (vR o :: st) T σ K ↔ sx_kd T o = 7 ∧ ∃ t, sx_rf T o 4 = some t ∧ Rn 99 27 L (vR t :: st) T σ K := R_getR (idx := 21) (ci := 7) (k := 4) (by decide +kernel) (by decide +kernel) rfl
theorem s99_27 : Rn 99 27 [l0, l1, some (vI a), l3] st T σ K ↔ Rn 99 28 [l0, l1, some (vI a), l3] (vI a :: st) T σ K := R_iload_n (n := 2) (by decide +kernel) rfl
theorem s99_28 : Rn 99 28 L st T σ K ↔ Rn 99 30 L (vI 2147483647 :: st) T σ K := R_ldcI (idx := 70) (v := 2147483647) (by decide +kernel) (by decide +kernel) (by decide) rfl
theorem s99_30 : Rn 99 30 L (vI b :: vI a :: vR o :: st) T σ K ↔ (sx_kd T o = 20 ∧ 0 ≤ a ∧ a < sx_ln T o) ∧ Rn 99 31 L st T (sx_up σ o a b) K := R_iast (by decide +kernel)
theorem s99_31 : Rn 99 31 [l0, l1, some (vI a), l3] st T σ K ↔ inI (a + 1) ∧ Rn 99 34 [l0, l1, some (vI (a + 1)), l3] st T σ K := R_iinc (n := 2) (d := 1) (by decide +kernel) rfl
theorem s99_34 : Rn 99 34 L st T σ K ↔ Rn 99 10 L st T σ K := R_goto (off := -24) (by decide +kernel) (by decide)
theorem s99_37 : Rn 99 37 L st T σ K ↔ Rn 99 38 L (vI 0 :: st) T σ K := R_iconst (n := 0) (by decide +kernel) (by decide)
theorem s99_38 : Rn 99 38 [l0, l1, l2, l3] (vI a :: st) T σ K ↔ Rn 99 39 [l0, l1, some (vI a), l3] st T σ K := R_istore_n (n := 2) (by decide +kernel) rfl
theorem s99_39 : Rn 99 39 [l0, l1, some (vI a), l3] st T σ K ↔ Rn 99 40 [l0, l1, some (vI a), l3] (vI a :: st) T σ K := R_iload_n (n := 2) (by decide +kernel) rfl
theorem s99_40 : Rn 99 40 [some (vR o), l1, l2, l3] st T σ K ↔ Rn 99 41 [some (vR o), l1, l2, l3] (vR o :: st) T σ K := R_aload_n (n := 0) (by decide +kernel) rfl
theorem s99_41 : Rn 99 41 L (vR o :: st) T σ K ↔ sx_kd T o = 7 ∧ ∃ t, sx_rf T o 0 = some t ∧ Rn 99 44 L (vR t :: st) T σ K := R_getR (idx := 34) (ci := 7) (k := 0) (by decide +kernel) (by decide +kernel) rfl
theorem s99_44 : Rn 99 44 L (vR o :: st) T σ K ↔ sx_kd T o = 2 ∧ Rn 99 47 L (vI (σ o 6) :: st) T σ K := R_getI (idx := 71) (ci := 2) (k := 6) (by decide +kernel) (by decide +kernel) (Or.inl rfl)
theorem s99_47 : Rn 99 47 L (vI b :: vI a :: st) T σ K ↔ (b ≤ a → Rn 99 141 L st T σ K) ∧ (a < b → Rn 99 50 L st T σ K) := R_icmp_ge (off := 94) (by decide +kernel) (by decide)
theorem s99_50 : Rn 99 50 [l0, l1, some (vI a), l3] st T σ K ↔ Rn 99 51 [l0, l1, some (vI a), l3] (vI a :: st) T σ K := R_iload_n (n := 2) (by decide +kernel) rfl
theorem s99_51 : Rn 99 51 L st T σ K ↔ Rn 99 53 L (vI 40 :: st) T σ K := R_bipush (n := 40) (by decide +kernel) (by decide +kernel)
theorem s99_53 : Rn 99 53 L (vI b :: vI a :: st) T σ K ↔ (b ≤ a → Rn 99 141 L st T σ K) ∧ (a < b → Rn 99 56 L st T σ K) := R_icmp_ge (off := 88) (by decide +kernel) (by decide)
theorem s99_56 : Rn 99 56 [some (vR o), l1, l2, l3] st T σ K ↔ Rn 99 57 [some (vR o), l1, l2, l3] (vR o :: st) T σ K := R_aload_n (n := 0) (by decide +kernel) rfl
theorem s99_57 : Rn 99 57 L (vR o :: st) T σ K ↔ sx_kd T o = 7 ∧ ∃ t, sx_rf T o 0 = some t ∧ Rn 99 60 L (vR t :: st) T σ K := R_getR (idx := 34) (ci := 7) (k := 0) (by decide +kernel) (by decide +kernel) rfl
theorem s99_60 : Rn 99 60 [l0, some (vI a), l2, l3] st T σ K ↔ Rn 99 61 [l0, some (vI a), l2, l3] (vI a :: st) T σ K := R_iload_n (n := 1) (by decide +kernel) rfl
theorem s99_61 : Rn 99 61 L (vI a :: vR o :: st) T σ K ↔ (sx_kd T o = 2 ∧ st.length ≤ 4) ∧ Rn 49 0 [some (vR o), some (vI a)] [] T σ (fun r T' σ' => Rn 99 64 L (sx_push r st) T' σ' K) := R_V (cm := 49) (n := 1) (idx := 52) (ci := 2) (mx := 2) (vs := [vI a]) (by decide +kernel) (by decide +kernel) rfl (by decide +kernel) rfl (by decide +kernel) (by decide +kernel)
theorem s99_64 : Rn 99 64 L (vI a :: st) T σ K ↔ (a = 0 → Rn 99 141 L st T σ K) ∧ (a ≠ 0 → Rn 99 67 L st T σ K) := R_if_eq (off := 77) (by decide +kernel) (by decide)
theorem s99_67 : Rn 99 67 [some (vR o), l1, l2, l3] st T σ K ↔ Rn 99 68 [some (vR o), l1, l2, l3] (vR o :: st) T σ K := R_aload_n (n := 0) (by decide +kernel) rfl
theorem s99_68 : Rn 99 68 L (vR o :: st) T σ K ↔ sx_kd T o = 7 ∧ ∃ t, sx_rf T o 1 = some t ∧ Rn 99 71 L (vR t :: st) T σ K := R_getR (idx := 9) (ci := 7) (k := 1) (by decide +kernel) (by decide +kernel) rfl
theorem s99_71 : Rn 99 71 [l0, l1, some (vI a), l3] st T σ K ↔ Rn 99 72 [l0, l1, some (vI a), l3] (vI a :: st) T σ K := R_iload_n (n := 2) (by decide +kernel) rfl
theorem s99_72 : Rn 99 72 [l0, some (vI a), l2, l3] st T σ K ↔ Rn 99 73 [l0, some (vI a), l2, l3] (vI a :: st) T σ K := R_iload_n (n := 1) (by decide +kernel) rfl
theorem s99_73 : Rn 99 73 L (vI b :: vI a :: vR o :: st) T σ K ↔ (sx_kd T o = 20 ∧ 0 ≤ a ∧ a < sx_ln T o) ∧ Rn 99 74 L st T (sx_up σ o a b) K := R_iast (by decide +kernel)
theorem s99_74 : Rn 99 74 [some (vR o), l1, l2, l3] st T σ K ↔ Rn 99 75 [some (vR o), l1, l2, l3] (vR o :: st) T σ K := R_aload_n (n := 0) (by decide +kernel) rfl
theorem s99_75 : Rn 99 75 L (vR o :: st) T σ K ↔ sx_kd T o = 7 ∧ ∃ t, sx_rf T o 7 = some t ∧ Rn 99 78 L (vR t :: st) T σ K := R_getR (idx := 30) (ci := 7) (k := 7) (by decide +kernel) (by decide +kernel) rfl
theorem s99_78 : Rn 99 78 [l0, some (vI a), l2, l3] st T σ K ↔ Rn 99 79 [l0, some (vI a), l2, l3] (vI a :: st) T σ K := R_iload_n (n := 1) (by decide +kernel) rfl
theorem s99_79 : Rn 99 79 L st T σ K ↔ Rn 99 80 L (vI 1 :: st) T σ K := R_iconst (n := 1) (by decide +kernel) (by decide)
theorem s99_80 : Rn 99 80 L (vI b :: vI a :: vR o :: st) T σ K ↔ (sx_kd T o = 21 ∧ 0 ≤ a ∧ a < sx_ln T o ∧ (b = 0 ∨ b = 1)) ∧ Rn 99 81 L st T (sx_up σ o a b) K := R_zast (by decide +kernel)
theorem s99_81 : Rn 99 81 L st T σ K ↔ Rn 99 82 L (vI 0 :: st) T σ K := R_iconst (n := 0) (by decide +kernel) (by decide)
theorem s99_82 : Rn 99 82 [l0, l1, l2, l3] (vI a :: st) T σ K ↔ Rn 99 83 [l0, l1, l2, some (vI a)] st T σ K := R_istore_n (n := 3) (by decide +kernel) rfl
theorem s99_83 : Rn 99 83 [l0, l1, l2, some (vI a)] st T σ K ↔ Rn 99 84 [l0, l1, l2, some (vI a)] (vI a :: st) T σ K := R_iload_n (n := 3) (by decide +kernel) rfl
theorem s99_84 : Rn 99 84 L st T σ K ↔ Rn 99 86 L (vI 40 :: st) T σ K := R_bipush (n := 40) (by decide +kernel) (by decide +kernel)
theorem s99_86 : Rn 99 86 L (vI b :: vI a :: st) T σ K ↔ (b ≤ a → Rn 99 130 L st T σ K) ∧ (a < b → Rn 99 89 L st T σ K) := R_icmp_ge (off := 44) (by decide +kernel) (by decide)
theorem s99_89 : Rn 99 89 [some (vR o), l1, l2, l3] st T σ K ↔ Rn 99 90 [some (vR o), l1, l2, l3] (vR o :: st) T σ K := R_aload_n (n := 0) (by decide +kernel) rfl
theorem s99_90 : Rn 99 90 L (vR o :: st) T σ K ↔ sx_kd T o = 7 ∧ ∃ t, sx_rf T o 0 = some t ∧ Rn 99 93 L (vR t :: st) T σ K := R_getR (idx := 34) (ci := 7) (k := 0) (by decide +kernel) (by decide +kernel) rfl
theorem s99_93 : Rn 99 93 [l0, l1, l2, some (vI a)] st T σ K ↔ Rn 99 94 [l0, l1, l2, some (vI a)] (vI a :: st) T σ K := R_iload_n (n := 3) (by decide +kernel) rfl
theorem s99_94 : Rn 99 94 L (vI a :: vR o :: st) T σ K ↔ (sx_kd T o = 2 ∧ st.length ≤ 4) ∧ Rn 49 0 [some (vR o), some (vI a)] [] T σ (fun r T' σ' => Rn 99 97 L (sx_push r st) T' σ' K) := R_V (cm := 49) (n := 1) (idx := 52) (ci := 2) (mx := 2) (vs := [vI a]) (by decide +kernel) (by decide +kernel) rfl (by decide +kernel) rfl (by decide +kernel) (by decide +kernel)
theorem s99_97 : Rn 99 97 L (vI a :: st) T σ K ↔ (a = 0 → Rn 99 124 L st T σ K) ∧ (a ≠ 0 → Rn 99 100 L st T σ K) := R_if_eq (off := 27) (by decide +kernel) (by decide)
theorem s99_100 : Rn 99 100 [some (vR o), l1, l2, l3] st T σ K ↔ Rn 99 101 [some (vR o), l1, l2, l3] (vR o :: st) T σ K := R_aload_n (n := 0) (by decide +kernel) rfl
theorem s99_101 : Rn 99 101 L (vR o :: st) T σ K ↔ sx_kd T o = 7 ∧ ∃ t, sx_rf T o 4 = some t ∧ Rn 99 104 L (vR t :: st) T σ K := R_getR (idx := 21) (ci := 7) (k := 4) (by decide +kernel) (by decide +kernel) rfl
theorem s99_104 : Rn 99 104 [l0, l1, l2, some (vI a)] st T σ K ↔ Rn 99 105 [l0, l1, l2, some (vI a)] (vI a :: st) T σ K := R_iload_n (n := 3) (by decide +kernel) rfl
theorem s99_105 : Rn 99 105 [some (vR o), l1, l2, l3] st T σ K ↔ Rn 99 106 [some (vR o), l1, l2, l3] (vR o :: st) T σ K := R_aload_n (n := 0) (by decide +kernel) rfl
theorem s99_106 : Rn 99 106 L (vR o :: st) T σ K ↔ sx_kd T o = 7 ∧ ∃ t, sx_rf T o 4 = some t ∧ Rn 99 109 L (vR t :: st) T σ K := R_getR (idx := 21) (ci := 7) (k := 4) (by decide +kernel) (by decide +kernel) rfl
theorem s99_109 : Rn 99 109 [l0, l1, l2, some (vI a)] st T σ K ↔ Rn 99 110 [l0, l1, l2, some (vI a)] (vI a :: st) T σ K := R_iload_n (n := 3) (by decide +kernel) rfl
theorem s99_110 : Rn 99 110 L (vI a :: vR o :: st) T σ K ↔ (sx_kd T o = 20 ∧ 0 ≤ a ∧ a < sx_ln T o) ∧ Rn 99 111 L (vI (σ o a) :: st) T σ K := R_iald (by decide +kernel) (by decide)
theorem s99_111 : Rn 99 111 [some (vR o), l1, l2, l3] st T σ K ↔ Rn 99 112 [some (vR o), l1, l2, l3] (vR o :: st) T σ K := R_aload_n (n := 0) (by decide +kernel) rfl
theorem s99_112 : Rn 99 112 L (vR o :: st) T σ K ↔ sx_kd T o = 7 ∧ ∃ t, sx_rf T o 0 = some t ∧ Rn 99 115 L (vR t :: st) T σ K := R_getR (idx := 34) (ci := 7) (k := 0) (by decide +kernel) (by decide +kernel) rfl
theorem s99_115 : Rn 99 115 [l0, l1, l2, some (vI a)] st T σ K ↔ Rn 99 116 [l0, l1, l2, some (vI a)] (vI a :: st) T σ K := R_iload_n (n := 3) (by decide +kernel) rfl
theorem s99_116 : Rn 99 116 [l0, some (vI a), l2, l3] st T σ K ↔ Rn 99 117 [l0, some (vI a), l2, l3] (vI a :: st) T σ K := R_iload_n (n := 1) (by decide +kernel) rfl
theorem s99_117 : Rn 99 117 L (vI b :: vI a :: vR o :: st) T σ K ↔ (sx_kd T o = 2 ∧ st.length ≤ 4) ∧ Rn 62 0 [some (vR o), some (vI a), some (vI b)] [] T σ (fun r T' σ' => Rn 99 120 L (sx_push r st) T' σ' K) := R_V (cm := 62) (n := 2) (idx := 43) (ci := 2) (mx := 3) (vs := [vI a, vI b]) (by decide +kernel) (by decide +kernel) rfl (by decide +kernel) rfl (by decide +kernel) (by decide +kernel)
theorem s99_120 : Rn 99 120 L (vI b :: vI a :: st) T σ K ↔ st.length ≤ 4 ∧ Rn 99 123 L (vI (min a b) :: st) T σ K := R_min (idx := 47) (by decide +kernel) (by decide +kernel) (by decide +kernel) (by decide +kernel)
theorem s99_123 : Rn 99 123 L (vI b :: vI a :: vR o :: st) T σ K ↔ (sx_kd T o = 20 ∧ 0 ≤ a ∧ a < sx_ln T o) ∧ Rn 99 124 L st T (sx_up σ o a b) K := R_iast (by decide +kernel)
theorem s99_124 : Rn 99 124 [l0, l1, l2, some (vI a)] st T σ K ↔ inI (a + 1) ∧ Rn 99 127 [l0, l1, l2, some (vI (a + 1))] st T σ K := R_iinc (n := 3) (d := 1) (by decide +kernel) rfl
theorem s99_127 : Rn 99 127 L st T σ K ↔ Rn 99 83 L st T σ K := R_goto (off := -44) (by decide +kernel) (by decide)
theorem s99_130 : Rn 99 130 [some (vR o), l1, l2, l3] st T σ K ↔ Rn 99 131 [some (vR o), l1, l2, l3] (vR o :: st) T σ K := R_aload_n (n := 0) (by decide +kernel) rfl
theorem s99_131 : Rn 99 131 L (vR o :: st) T σ K ↔ (sx_kd T o = 7 ∧ st.length ≤ 4) ∧ Rn 100 0 [some (vR o), none, none] [] T σ (fun r T' σ' => Rn 99 134 L (sx_push r st) T' σ' K) := R_V (cm := 100) (n := 0) (idx := 74) (ci := 7) (mx := 3) (vs := []) (by decide +kernel) (by decide +kernel) rfl (by decide +kernel) rfl (by decide +kernel) (by decide +kernel)
theorem s99_134 : Rn 99 134 [l0, l1, l2, l3] (vI a :: st) T σ K ↔ Rn 99 135 [l0, some (vI a), l2, l3] st T σ K := R_istore_n (n := 1) (by decide +kernel) rfl
theorem s99_135 : Rn 99 135 [l0, l1, some (vI a), l3] st T σ K ↔ inI (a + 1) ∧ Rn 99 138 [l0, l1, some (vI (a + 1)), l3] st T σ K := R_iinc (n := 2) (d := 1) (by decide +kernel) rfl
theorem s99_138 : Rn 99 138 L st T σ K ↔ Rn 99 39 L st T σ K := R_goto (off := -99) (by decide +kernel) (by decide)
theorem s99_141 : Rn 99 141 L [] T σ K ↔ K none T σ := R_retV (by decide +kernel) (by decide +kernel)
end ST2
