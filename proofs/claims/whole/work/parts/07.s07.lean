section ST7
variable {L : sxL} {st : List sxV} {T : sxT} {σ : sxS} {K : Option sxV → sxT → sxS → Prop} {a b c d e f g : Int} {o p q r1 r2 : Nat} {l0 l1 l2 l3 l4 l5 l6 l7 l8 l9 l10 l11 : Option sxV}
theorem s245_0 : Rn 245 0 [some (vR o), l1, l2, l3, l4, l5] st T σ K ↔ Rn 245 1 [some (vR o), l1, l2, l3, l4, l5] (vR o :: st) T σ K := R_aload_n (n := 0) (by decide +kernel) rfl
theorem s245_1 : Rn 245 1 L st T σ K ↔ Rn 245 3 L (vI 1000000 :: st) T σ K := R_ldcI (idx := 244) (v := 1000000) (by decide +kernel) (by decide +kernel) (by decide) rfl
theorem s245_3 : Rn 245 3 L (vI a :: vR o :: st) T σ K ↔ (sx_kd T o = 9 ∧ st.length ≤ 4) ∧ Rn 246 0 [some (vR o), some (vI a), none, none, none, none, none, none, none] [] T σ (fun r T' σ' => Rn 245 6 L (sx_push r st) T' σ' K) := R_V (cm := 246) (n := 1) (idx := 313) (ci := 9) (mx := 9) (vs := [vI a]) (by decide +kernel) (by decide +kernel) rfl (by decide +kernel) rfl (by decide +kernel) (by decide +kernel)
theorem s245_6 : Rn 245 6 [l0, l1, l2, l3, l4, l5] (vI a :: st) T σ K ↔ Rn 245 7 [l0, l1, l2, some (vI a), l4, l5] st T σ K := R_istore_n (n := 3) (by decide +kernel) rfl
theorem s245_7 : Rn 245 7 [l0, some (vI a), l2, l3, l4, l5] st T σ K ↔ Rn 245 8 [l0, some (vI a), l2, l3, l4, l5] (vI a :: st) T σ K := R_iload_n (n := 1) (by decide +kernel) rfl
theorem s245_8 : Rn 245 8 L st T σ K ↔ Rn 245 9 L (vI (-1) :: st) T σ K := R_iconst (n := -1) (by decide +kernel) (by decide)
theorem s245_9 : Rn 245 9 L (vI b :: vI a :: st) T σ K ↔ (a ≠ b → Rn 245 49 L st T σ K) ∧ (a = b → Rn 245 12 L st T σ K) := R_icmp_ne (off := 40) (by decide +kernel) (by decide)
theorem s245_12 : Rn 245 12 L st T σ K ↔ Rn 245 13 L (vI 0 :: st) T σ K := R_iconst (n := 0) (by decide +kernel) (by decide)
theorem s245_13 : Rn 245 13 [l0, l1, l2, l3, l4, l5] (vI a :: st) T σ K ↔ Rn 245 15 [l0, l1, l2, l3, some (vI a), l5] st T σ K := R_istore (n := 4) (by decide +kernel) rfl
theorem s245_15 : Rn 245 15 L st T σ K ↔ Rn 245 16 L (vI 0 :: st) T σ K := R_iconst (n := 0) (by decide +kernel) (by decide)
theorem s245_16 : Rn 245 16 [l0, l1, l2, l3, l4, l5] (vI a :: st) T σ K ↔ Rn 245 18 [l0, l1, l2, l3, l4, some (vI a)] st T σ K := R_istore (n := 5) (by decide +kernel) rfl
theorem s245_18 : Rn 245 18 [l0, l1, l2, l3, l4, some (vI a)] st T σ K ↔ Rn 245 20 [l0, l1, l2, l3, l4, some (vI a)] (vI a :: st) T σ K := R_iload (n := 5) (by decide +kernel) rfl
theorem s245_20 : Rn 245 20 [l0, l1, l2, some (vI a), l4, l5] st T σ K ↔ Rn 245 21 [l0, l1, l2, some (vI a), l4, l5] (vI a :: st) T σ K := R_iload_n (n := 3) (by decide +kernel) rfl
theorem s245_21 : Rn 245 21 L (vI b :: vI a :: st) T σ K ↔ (b ≤ a → Rn 245 46 L st T σ K) ∧ (a < b → Rn 245 24 L st T σ K) := R_icmp_ge (off := 25) (by decide +kernel) (by decide)
theorem s245_24 : Rn 245 24 [l0, l1, l2, l3, some (vI a), l5] st T σ K ↔ Rn 245 26 [l0, l1, l2, l3, some (vI a), l5] (vI a :: st) T σ K := R_iload (n := 4) (by decide +kernel) rfl
theorem s245_26 : Rn 245 26 [some (vR o), l1, l2, l3, l4, l5] st T σ K ↔ Rn 245 27 [some (vR o), l1, l2, l3, l4, l5] (vR o :: st) T σ K := R_aload_n (n := 0) (by decide +kernel) rfl
theorem s245_27 : Rn 245 27 L (vR o :: st) T σ K ↔ sx_kd T o = 9 ∧ ∃ t, sx_rf T o 35 = some t ∧ Rn 245 30 L (vR t :: st) T σ K := R_getR (idx := 117) (ci := 9) (k := 35) (by decide +kernel) (by decide +kernel) rfl
theorem s245_30 : Rn 245 30 L st T σ K ↔ Rn 245 31 L (vI 3 :: st) T σ K := R_iconst (n := 3) (by decide +kernel) (by decide)
theorem s245_31 : Rn 245 31 [l0, l1, l2, l3, l4, some (vI a)] st T σ K ↔ Rn 245 33 [l0, l1, l2, l3, l4, some (vI a)] (vI a :: st) T σ K := R_iload (n := 5) (by decide +kernel) rfl
theorem s245_33 : Rn 245 33 L (vI b :: vI a :: st) T σ K ↔ inI (a * b) ∧ Rn 245 34 L (vI (a * b) :: st) T σ K := R_imul (by decide +kernel)
theorem s245_34 : Rn 245 34 L st T σ K ↔ Rn 245 35 L (vI 2 :: st) T σ K := R_iconst (n := 2) (by decide +kernel) (by decide)
theorem s245_35 : Rn 245 35 L (vI b :: vI a :: st) T σ K ↔ inI (a + b) ∧ Rn 245 36 L (vI (a + b) :: st) T σ K := R_iadd (by decide +kernel)
theorem s245_36 : Rn 245 36 L (vI a :: vR o :: st) T σ K ↔ (sx_kd T o = 20 ∧ 0 ≤ a ∧ a < sx_ln T o) ∧ Rn 245 37 L (vI (σ o a) :: st) T σ K := R_iald (by decide +kernel) (by decide)
theorem s245_37 : Rn 245 37 L (vI b :: vI a :: st) T σ K ↔ inI (a + b) ∧ Rn 245 38 L (vI (a + b) :: st) T σ K := R_iadd (by decide +kernel)
theorem s245_38 : Rn 245 38 [l0, l1, l2, l3, l4, l5] (vI a :: st) T σ K ↔ Rn 245 40 [l0, l1, l2, l3, some (vI a), l5] st T σ K := R_istore (n := 4) (by decide +kernel) rfl
theorem s245_40 : Rn 245 40 [l0, l1, l2, l3, l4, some (vI a)] st T σ K ↔ inI (a + 1) ∧ Rn 245 43 [l0, l1, l2, l3, l4, some (vI (a + 1))] st T σ K := R_iinc (n := 5) (d := 1) (by decide +kernel) rfl
theorem s245_43 : Rn 245 43 L st T σ K ↔ Rn 245 18 L st T σ K := R_goto (off := -25) (by decide +kernel) (by decide)
theorem s245_46 : Rn 245 46 [l0, l1, l2, l3, some (vI a), l5] st T σ K ↔ Rn 245 48 [l0, l1, l2, l3, some (vI a), l5] (vI a :: st) T σ K := R_iload (n := 4) (by decide +kernel) rfl
theorem s245_48 : Rn 245 48 L [vI a] T σ K ↔ K (some (vI a)) T σ := R_ret (by decide +kernel) (by decide +kernel)
theorem s245_49 : Rn 245 49 [l0, some (vI a), l2, l3, l4, l5] st T σ K ↔ Rn 245 50 [l0, some (vI a), l2, l3, l4, l5] (vI a :: st) T σ K := R_iload_n (n := 1) (by decide +kernel) rfl
theorem s245_50 : Rn 245 50 L st T σ K ↔ Rn 245 51 L (vI 0 :: st) T σ K := R_iconst (n := 0) (by decide +kernel) (by decide)
theorem s245_51 : Rn 245 51 [l0, l1, l2, some (vI a), l4, l5] st T σ K ↔ Rn 245 52 [l0, l1, l2, some (vI a), l4, l5] (vI a :: st) T σ K := R_iload_n (n := 3) (by decide +kernel) rfl
theorem s245_52 : Rn 245 52 L st T σ K ↔ Rn 245 53 L (vI 1 :: st) T σ K := R_iconst (n := 1) (by decide +kernel) (by decide)
theorem s245_53 : Rn 245 53 L (vI b :: vI a :: st) T σ K ↔ inI (a - b) ∧ Rn 245 54 L (vI (a - b) :: st) T σ K := R_isub (by decide +kernel)
theorem s245_54 : Rn 245 54 L (vI c :: vI b :: vI a :: st) T σ K ↔ st.length ≤ 4 ∧ Rn 185 0 [some (vI a), some (vI b), some (vI c)] [] T σ (fun r T' σ' => Rn 245 57 L (sx_push r st) T' σ' K) := R_S (cm := 185) (n := 3) (idx := 189) (mx := 3) (vs := [vI a, vI b, vI c]) (by decide +kernel) (Or.inl (by decide +kernel)) rfl (by decide +kernel) rfl (by decide +kernel)
theorem s245_57 : Rn 245 57 L (vI a :: st) T σ K ↔ (a = 0 → Rn 245 82 L st T σ K) ∧ (a ≠ 0 → Rn 245 60 L st T σ K) := R_if_eq (off := 25) (by decide +kernel) (by decide)
theorem s245_60 : Rn 245 60 [l0, l1, some (vI a), l3, l4, l5] st T σ K ↔ Rn 245 61 [l0, l1, some (vI a), l3, l4, l5] (vI a :: st) T σ K := R_iload_n (n := 2) (by decide +kernel) rfl
theorem s245_61 : Rn 245 61 L st T σ K ↔ Rn 245 62 L (vI 0 :: st) T σ K := R_iconst (n := 0) (by decide +kernel) (by decide)
theorem s245_62 : Rn 245 62 L st T σ K ↔ Rn 245 63 L (vI 2 :: st) T σ K := R_iconst (n := 2) (by decide +kernel) (by decide)
theorem s245_63 : Rn 245 63 L (vI c :: vI b :: vI a :: st) T σ K ↔ st.length ≤ 4 ∧ Rn 185 0 [some (vI a), some (vI b), some (vI c)] [] T σ (fun r T' σ' => Rn 245 66 L (sx_push r st) T' σ' K) := R_S (cm := 185) (n := 3) (idx := 189) (mx := 3) (vs := [vI a, vI b, vI c]) (by decide +kernel) (Or.inl (by decide +kernel)) rfl (by decide +kernel) rfl (by decide +kernel)
theorem s245_66 : Rn 245 66 L (vI a :: st) T σ K ↔ (a = 0 → Rn 245 82 L st T σ K) ∧ (a ≠ 0 → Rn 245 69 L st T σ K) := R_if_eq (off := 16) (by decide +kernel) (by decide)
theorem s245_69 : Rn 245 69 [some (vR o), l1, l2, l3, l4, l5] st T σ K ↔ Rn 245 70 [some (vR o), l1, l2, l3, l4, l5] (vR o :: st) T σ K := R_aload_n (n := 0) (by decide +kernel) rfl
theorem s245_70 : Rn 245 70 L (vR o :: st) T σ K ↔ sx_kd T o = 9 ∧ ∃ t, sx_rf T o 35 = some t ∧ Rn 245 73 L (vR t :: st) T σ K := R_getR (idx := 117) (ci := 9) (k := 35) (by decide +kernel) (by decide +kernel) rfl
theorem s245_73 : Rn 245 73 L st T σ K ↔ Rn 245 74 L (vI 3 :: st) T σ K := R_iconst (n := 3) (by decide +kernel) (by decide)
theorem s245_74 : Rn 245 74 [l0, some (vI a), l2, l3, l4, l5] st T σ K ↔ Rn 245 75 [l0, some (vI a), l2, l3, l4, l5] (vI a :: st) T σ K := R_iload_n (n := 1) (by decide +kernel) rfl
theorem s245_75 : Rn 245 75 L (vI b :: vI a :: st) T σ K ↔ inI (a * b) ∧ Rn 245 76 L (vI (a * b) :: st) T σ K := R_imul (by decide +kernel)
theorem s245_76 : Rn 245 76 [l0, l1, some (vI a), l3, l4, l5] st T σ K ↔ Rn 245 77 [l0, l1, some (vI a), l3, l4, l5] (vI a :: st) T σ K := R_iload_n (n := 2) (by decide +kernel) rfl
theorem s245_77 : Rn 245 77 L (vI b :: vI a :: st) T σ K ↔ inI (a + b) ∧ Rn 245 78 L (vI (a + b) :: st) T σ K := R_iadd (by decide +kernel)
theorem s245_78 : Rn 245 78 L (vI a :: vR o :: st) T σ K ↔ (sx_kd T o = 20 ∧ 0 ≤ a ∧ a < sx_ln T o) ∧ Rn 245 79 L (vI (σ o a) :: st) T σ K := R_iald (by decide +kernel) (by decide)
theorem s245_79 : Rn 245 79 L st T σ K ↔ Rn 245 83 L st T σ K := R_goto (off := 4) (by decide +kernel) (by decide)
theorem s245_82 : Rn 245 82 L st T σ K ↔ Rn 245 83 L (vI (-1) :: st) T σ K := R_iconst (n := -1) (by decide +kernel) (by decide)
theorem s245_83 : Rn 245 83 L [vI a] T σ K ↔ K (some (vI a)) T σ := R_ret (by decide +kernel) (by decide +kernel)
theorem s246_0 : Rn 246 0 L st T σ K ↔ Rn 246 1 L (vI 0 :: st) T σ K := R_iconst (n := 0) (by decide +kernel) (by decide)
theorem s246_1 : Rn 246 1 [l0, l1, l2, l3, l4, l5, l6, l7, l8] (vI a :: st) T σ K ↔ Rn 246 2 [l0, l1, some (vI a), l3, l4, l5, l6, l7, l8] st T σ K := R_istore_n (n := 2) (by decide +kernel) rfl
theorem s246_2 : Rn 246 2 [l0, l1, some (vI a), l3, l4, l5, l6, l7, l8] st T σ K ↔ Rn 246 3 [l0, l1, some (vI a), l3, l4, l5, l6, l7, l8] (vI a :: st) T σ K := R_iload_n (n := 2) (by decide +kernel) rfl
theorem s246_3 : Rn 246 3 L st T σ K ↔ Rn 246 5 L (vI 40 :: st) T σ K := R_bipush (n := 40) (by decide +kernel) (by decide +kernel)
theorem s246_5 : Rn 246 5 L (vI b :: vI a :: st) T σ K ↔ (b ≤ a → Rn 246 21 L st T σ K) ∧ (a < b → Rn 246 8 L st T σ K) := R_icmp_ge (off := 16) (by decide +kernel) (by decide)
theorem s246_8 : Rn 246 8 [some (vR o), l1, l2, l3, l4, l5, l6, l7, l8] st T σ K ↔ Rn 246 9 [some (vR o), l1, l2, l3, l4, l5, l6, l7, l8] (vR o :: st) T σ K := R_aload_n (n := 0) (by decide +kernel) rfl
theorem s246_9 : Rn 246 9 L (vR o :: st) T σ K ↔ sx_kd T o = 9 ∧ ∃ t, sx_rf T o 34 = some t ∧ Rn 246 12 L (vR t :: st) T σ K := R_getR (idx := 114) (ci := 9) (k := 34) (by decide +kernel) (by decide +kernel) rfl
theorem s246_12 : Rn 246 12 [l0, l1, some (vI a), l3, l4, l5, l6, l7, l8] st T σ K ↔ Rn 246 13 [l0, l1, some (vI a), l3, l4, l5, l6, l7, l8] (vI a :: st) T σ K := R_iload_n (n := 2) (by decide +kernel) rfl
theorem s246_13 : Rn 246 13 [l0, l1, some (vI a), l3, l4, l5, l6, l7, l8] st T σ K ↔ Rn 246 14 [l0, l1, some (vI a), l3, l4, l5, l6, l7, l8] (vI a :: st) T σ K := R_iload_n (n := 2) (by decide +kernel) rfl
theorem s246_14 : Rn 246 14 L (vI b :: vI a :: vR o :: st) T σ K ↔ (sx_kd T o = 20 ∧ 0 ≤ a ∧ a < sx_ln T o) ∧ Rn 246 15 L st T (sx_up σ o a b) K := R_iast (by decide +kernel)
theorem s246_15 : Rn 246 15 [l0, l1, some (vI a), l3, l4, l5, l6, l7, l8] st T σ K ↔ inI (a + 1) ∧ Rn 246 18 [l0, l1, some (vI (a + 1)), l3, l4, l5, l6, l7, l8] st T σ K := R_iinc (n := 2) (d := 1) (by decide +kernel) rfl
theorem s246_18 : Rn 246 18 L st T σ K ↔ Rn 246 2 L st T σ K := R_goto (off := -16) (by decide +kernel) (by decide)
theorem s246_21 : Rn 246 21 L st T σ K ↔ Rn 246 22 L (vI 0 :: st) T σ K := R_iconst (n := 0) (by decide +kernel) (by decide)
theorem s246_22 : Rn 246 22 [l0, l1, l2, l3, l4, l5, l6, l7, l8] (vI a :: st) T σ K ↔ Rn 246 23 [l0, l1, some (vI a), l3, l4, l5, l6, l7, l8] st T σ K := R_istore_n (n := 2) (by decide +kernel) rfl
theorem s246_23 : Rn 246 23 L st T σ K ↔ Rn 246 24 L (vI 1 :: st) T σ K := R_iconst (n := 1) (by decide +kernel) (by decide)
theorem s246_24 : Rn 246 24 [l0, l1, l2, l3, l4, l5, l6, l7, l8] (vI a :: st) T σ K ↔ Rn 246 25 [l0, l1, l2, some (vI a), l4, l5, l6, l7, l8] st T σ K := R_istore_n (n := 3) (by decide +kernel) rfl
theorem s246_25 : Rn 246 25 [l0, l1, l2, some (vI a), l4, l5, l6, l7, l8] st T σ K ↔ Rn 246 26 [l0, l1, l2, some (vI a), l4, l5, l6, l7, l8] (vI a :: st) T σ K := R_iload_n (n := 3) (by decide +kernel) rfl
theorem s246_26 : Rn 246 26 L (vI a :: st) T σ K ↔ (a = 0 → Rn 246 330 L st T σ K) ∧ (a ≠ 0 → Rn 246 29 L st T σ K) := R_if_eq (off := 304) (by decide +kernel) (by decide)
theorem s246_29 : Rn 246 29 L st T σ K ↔ Rn 246 30 L (vI (-1) :: st) T σ K := R_iconst (n := -1) (by decide +kernel) (by decide)
theorem s246_30 : Rn 246 30 [l0, l1, l2, l3, l4, l5, l6, l7, l8] (vI a :: st) T σ K ↔ Rn 246 32 [l0, l1, l2, l3, some (vI a), l5, l6, l7, l8] st T σ K := R_istore (n := 4) (by decide +kernel) rfl
theorem s246_32 : Rn 246 32 L st T σ K ↔ Rn 246 33 L (vI (-1) :: st) T σ K := R_iconst (n := -1) (by decide +kernel) (by decide)
theorem s246_33 : Rn 246 33 [l0, l1, l2, l3, l4, l5, l6, l7, l8] (vI a :: st) T σ K ↔ Rn 246 35 [l0, l1, l2, l3, l4, some (vI a), l6, l7, l8] st T σ K := R_istore (n := 5) (by decide +kernel) rfl
theorem s246_35 : Rn 246 35 L st T σ K ↔ Rn 246 36 L (vI 0 :: st) T σ K := R_iconst (n := 0) (by decide +kernel) (by decide)
theorem s246_36 : Rn 246 36 [l0, l1, l2, l3, l4, l5, l6, l7, l8] (vI a :: st) T σ K ↔ Rn 246 38 [l0, l1, l2, l3, l4, l5, some (vI a), l7, l8] st T σ K := R_istore (n := 6) (by decide +kernel) rfl
theorem s246_38 : Rn 246 38 [l0, l1, l2, l3, l4, l5, some (vI a), l7, l8] st T σ K ↔ Rn 246 40 [l0, l1, l2, l3, l4, l5, some (vI a), l7, l8] (vI a :: st) T σ K := R_iload (n := 6) (by decide +kernel) rfl
theorem s246_40 : Rn 246 40 L st T σ K ↔ Rn 246 42 L (vI 40 :: st) T σ K := R_bipush (n := 40) (by decide +kernel) (by decide +kernel)
theorem s246_42 : Rn 246 42 L (vI b :: vI a :: st) T σ K ↔ (b ≤ a → Rn 246 162 L st T σ K) ∧ (a < b → Rn 246 45 L st T σ K) := R_icmp_ge (off := 120) (by decide +kernel) (by decide)
theorem s246_45 : Rn 246 45 [l0, l1, l2, l3, l4, l5, some (vI a), l7, l8] st T σ K ↔ Rn 246 47 [l0, l1, l2, l3, l4, l5, some (vI a), l7, l8] (vI a :: st) T σ K := R_iload (n := 6) (by decide +kernel) rfl
theorem s246_47 : Rn 246 47 L st T σ K ↔ Rn 246 48 L (vI 1 :: st) T σ K := R_iconst (n := 1) (by decide +kernel) (by decide)
theorem s246_48 : Rn 246 48 L (vI b :: vI a :: st) T σ K ↔ inI (a + b) ∧ Rn 246 49 L (vI (a + b) :: st) T σ K := R_iadd (by decide +kernel)
theorem s246_49 : Rn 246 49 [l0, l1, l2, l3, l4, l5, l6, l7, l8] (vI a :: st) T σ K ↔ Rn 246 51 [l0, l1, l2, l3, l4, l5, l6, some (vI a), l8] st T σ K := R_istore (n := 7) (by decide +kernel) rfl
theorem s246_51 : Rn 246 51 [l0, l1, l2, l3, l4, l5, l6, some (vI a), l8] st T σ K ↔ Rn 246 53 [l0, l1, l2, l3, l4, l5, l6, some (vI a), l8] (vI a :: st) T σ K := R_iload (n := 7) (by decide +kernel) rfl
theorem s246_53 : Rn 246 53 L st T σ K ↔ Rn 246 55 L (vI 40 :: st) T σ K := R_bipush (n := 40) (by decide +kernel) (by decide +kernel)
theorem s246_55 : Rn 246 55 L (vI b :: vI a :: st) T σ K ↔ (b ≤ a → Rn 246 156 L st T σ K) ∧ (a < b → Rn 246 58 L st T σ K) := R_icmp_ge (off := 101) (by decide +kernel) (by decide)
theorem s246_58 : Rn 246 58 [some (vR o), l1, l2, l3, l4, l5, l6, l7, l8] st T σ K ↔ Rn 246 59 [some (vR o), l1, l2, l3, l4, l5, l6, l7, l8] (vR o :: st) T σ K := R_aload_n (n := 0) (by decide +kernel) rfl
theorem s246_59 : Rn 246 59 L (vR o :: st) T σ K ↔ sx_kd T o = 9 ∧ ∃ t, sx_rf T o 0 = some t ∧ Rn 246 62 L (vR t :: st) T σ K := R_getR (idx := 7) (ci := 9) (k := 0) (by decide +kernel) (by decide +kernel) rfl
theorem s246_62 : Rn 246 62 L st T σ K ↔ Rn 246 63 L (vI 0 :: st) T σ K := R_iconst (n := 0) (by decide +kernel) (by decide)
theorem s246_63 : Rn 246 63 [l0, l1, l2, l3, l4, l5, some (vI a), l7, l8] st T σ K ↔ Rn 246 65 [l0, l1, l2, l3, l4, l5, some (vI a), l7, l8] (vI a :: st) T σ K := R_iload (n := 6) (by decide +kernel) rfl
theorem s246_65 : Rn 246 65 L (vI b :: vI a :: st) T σ K ↔ inI (a + b) ∧ Rn 246 66 L (vI (a + b) :: st) T σ K := R_iadd (by decide +kernel)
theorem s246_66 : Rn 246 66 L (vI a :: vR o :: st) T σ K ↔ (sx_kd T o = 20 ∧ 0 ≤ a ∧ a < sx_ln T o) ∧ Rn 246 67 L (vI (σ o a) :: st) T σ K := R_iald (by decide +kernel) (by decide)
theorem s246_67 : Rn 246 67 L (vI a :: st) T σ K ↔ (a = 0 → Rn 246 150 L st T σ K) ∧ (a ≠ 0 → Rn 246 70 L st T σ K) := R_if_eq (off := 83) (by decide +kernel) (by decide)
theorem s246_70 : Rn 246 70 [some (vR o), l1, l2, l3, l4, l5, l6, l7, l8] st T σ K ↔ Rn 246 71 [some (vR o), l1, l2, l3, l4, l5, l6, l7, l8] (vR o :: st) T σ K := R_aload_n (n := 0) (by decide +kernel) rfl
theorem s246_71 : Rn 246 71 L (vR o :: st) T σ K ↔ sx_kd T o = 9 ∧ ∃ t, sx_rf T o 0 = some t ∧ Rn 246 74 L (vR t :: st) T σ K := R_getR (idx := 7) (ci := 9) (k := 0) (by decide +kernel) (by decide +kernel) rfl
theorem s246_74 : Rn 246 74 L st T σ K ↔ Rn 246 75 L (vI 0 :: st) T σ K := R_iconst (n := 0) (by decide +kernel) (by decide)
theorem s246_75 : Rn 246 75 [l0, l1, l2, l3, l4, l5, l6, some (vI a), l8] st T σ K ↔ Rn 246 77 [l0, l1, l2, l3, l4, l5, l6, some (vI a), l8] (vI a :: st) T σ K := R_iload (n := 7) (by decide +kernel) rfl
theorem s246_77 : Rn 246 77 L (vI b :: vI a :: st) T σ K ↔ inI (a + b) ∧ Rn 246 78 L (vI (a + b) :: st) T σ K := R_iadd (by decide +kernel)
theorem s246_78 : Rn 246 78 L (vI a :: vR o :: st) T σ K ↔ (sx_kd T o = 20 ∧ 0 ≤ a ∧ a < sx_ln T o) ∧ Rn 246 79 L (vI (σ o a) :: st) T σ K := R_iald (by decide +kernel) (by decide)
theorem s246_79 : Rn 246 79 L (vI a :: st) T σ K ↔ (a = 0 → Rn 246 150 L st T σ K) ∧ (a ≠ 0 → Rn 246 82 L st T σ K) := R_if_eq (off := 71) (by decide +kernel) (by decide)
theorem s246_82 : Rn 246 82 [some (vR o), l1, l2, l3, l4, l5, l6, l7, l8] st T σ K ↔ Rn 246 83 [some (vR o), l1, l2, l3, l4, l5, l6, l7, l8] (vR o :: st) T σ K := R_aload_n (n := 0) (by decide +kernel) rfl
theorem s246_83 : Rn 246 83 L (vR o :: st) T σ K ↔ sx_kd T o = 9 ∧ ∃ t, sx_rf T o 34 = some t ∧ Rn 246 86 L (vR t :: st) T σ K := R_getR (idx := 114) (ci := 9) (k := 34) (by decide +kernel) (by decide +kernel) rfl
theorem s246_86 : Rn 246 86 [l0, l1, l2, l3, l4, l5, some (vI a), l7, l8] st T σ K ↔ Rn 246 88 [l0, l1, l2, l3, l4, l5, some (vI a), l7, l8] (vI a :: st) T σ K := R_iload (n := 6) (by decide +kernel) rfl
theorem s246_88 : Rn 246 88 L (vI a :: vR o :: st) T σ K ↔ (sx_kd T o = 20 ∧ 0 ≤ a ∧ a < sx_ln T o) ∧ Rn 246 89 L (vI (σ o a) :: st) T σ K := R_iald (by decide +kernel) (by decide)
theorem s246_89 : Rn 246 89 [some (vR o), l1, l2, l3, l4, l5, l6, l7, l8] st T σ K ↔ Rn 246 90 [some (vR o), l1, l2, l3, l4, l5, l6, l7, l8] (vR o :: st) T σ K := R_aload_n (n := 0) (by decide +kernel) rfl
theorem s246_90 : Rn 246 90 L (vR o :: st) T σ K ↔ sx_kd T o = 9 ∧ ∃ t, sx_rf T o 34 = some t ∧ Rn 246 93 L (vR t :: st) T σ K := R_getR (idx := 114) (ci := 9) (k := 34) (by decide +kernel) (by decide +kernel) rfl
theorem s246_93 : Rn 246 93 [l0, l1, l2, l3, l4, l5, l6, some (vI a), l8] st T σ K ↔ Rn 246 95 [l0, l1, l2, l3, l4, l5, l6, some (vI a), l8] (vI a :: st) T σ K := R_iload (n := 7) (by decide +kernel) rfl
theorem s246_95 : Rn 246 95 L (vI a :: vR o :: st) T σ K ↔ (sx_kd T o = 20 ∧ 0 ≤ a ∧ a < sx_ln T o) ∧ Rn 246 96 L (vI (σ o a) :: st) T σ K := R_iald (by decide +kernel) (by decide)
theorem s246_96 : Rn 246 96 L (vI b :: vI a :: st) T σ K ↔ (a = b → Rn 246 150 L st T σ K) ∧ (a ≠ b → Rn 246 99 L st T σ K) := R_icmp_eq (off := 54) (by decide +kernel) (by decide)
theorem s246_99 : Rn 246 99 [some (vR o), l1, l2, l3, l4, l5, l6, l7, l8] st T σ K ↔ Rn 246 100 [some (vR o), l1, l2, l3, l4, l5, l6, l7, l8] (vR o :: st) T σ K := R_aload_n (n := 0) (by decide +kernel) rfl
theorem s246_100 : Rn 246 100 [l0, l1, l2, l3, l4, l5, some (vI a), l7, l8] st T σ K ↔ Rn 246 102 [l0, l1, l2, l3, l4, l5, some (vI a), l7, l8] (vI a :: st) T σ K := R_iload (n := 6) (by decide +kernel) rfl
theorem s246_102 : Rn 246 102 [l0, l1, l2, l3, l4, l5, l6, some (vI a), l8] st T σ K ↔ Rn 246 104 [l0, l1, l2, l3, l4, l5, l6, some (vI a), l8] (vI a :: st) T σ K := R_iload (n := 7) (by decide +kernel) rfl
theorem s246_104 : Rn 246 104 L (vI b :: vI a :: vR o :: st) T σ K ↔ (sx_kd T o = 9 ∧ st.length ≤ 4) ∧ Rn 216 0 [some (vR o), some (vI a), some (vI b)] [] T σ (fun r T' σ' => Rn 246 107 L (sx_push r st) T' σ' K) := R_V (cm := 216) (n := 2) (idx := 238) (ci := 9) (mx := 3) (vs := [vI a, vI b]) (by decide +kernel) (by decide +kernel) rfl (by decide +kernel) rfl (by decide +kernel) (by decide +kernel)
theorem s246_107 : Rn 246 107 [l0, some (vI a), l2, l3, l4, l5, l6, l7, l8] st T σ K ↔ Rn 246 108 [l0, some (vI a), l2, l3, l4, l5, l6, l7, l8] (vI a :: st) T σ K := R_iload_n (n := 1) (by decide +kernel) rfl
theorem s246_108 : Rn 246 108 L (vI b :: vI a :: st) T σ K ↔ (a ≤ b → Rn 246 114 L st T σ K) ∧ (b < a → Rn 246 111 L st T σ K) := R_icmp_le (off := 6) (by decide +kernel) (by decide)
theorem s246_111 : Rn 246 111 L st T σ K ↔ Rn 246 150 L st T σ K := R_goto (off := 39) (by decide +kernel) (by decide)
theorem s246_114 : Rn 246 114 [l0, l1, l2, l3, some (vI a), l5, l6, l7, l8] st T σ K ↔ Rn 246 116 [l0, l1, l2, l3, some (vI a), l5, l6, l7, l8] (vI a :: st) T σ K := R_iload (n := 4) (by decide +kernel) rfl
theorem s246_116 : Rn 246 116 L st T σ K ↔ Rn 246 117 L (vI (-1) :: st) T σ K := R_iconst (n := -1) (by decide +kernel) (by decide)
theorem s246_117 : Rn 246 117 L (vI b :: vI a :: st) T σ K ↔ (a = b → Rn 246 142 L st T σ K) ∧ (a ≠ b → Rn 246 120 L st T σ K) := R_icmp_eq (off := 25) (by decide +kernel) (by decide)
theorem s246_120 : Rn 246 120 [some (vR o), l1, l2, l3, l4, l5, l6, l7, l8] st T σ K ↔ Rn 246 121 [some (vR o), l1, l2, l3, l4, l5, l6, l7, l8] (vR o :: st) T σ K := R_aload_n (n := 0) (by decide +kernel) rfl
theorem s246_121 : Rn 246 121 [l0, l1, l2, l3, l4, l5, some (vI a), l7, l8] st T σ K ↔ Rn 246 123 [l0, l1, l2, l3, l4, l5, some (vI a), l7, l8] (vI a :: st) T σ K := R_iload (n := 6) (by decide +kernel) rfl
theorem s246_123 : Rn 246 123 [l0, l1, l2, l3, l4, l5, l6, some (vI a), l8] st T σ K ↔ Rn 246 125 [l0, l1, l2, l3, l4, l5, l6, some (vI a), l8] (vI a :: st) T σ K := R_iload (n := 7) (by decide +kernel) rfl
theorem s246_125 : Rn 246 125 L (vI b :: vI a :: vR o :: st) T σ K ↔ (sx_kd T o = 9 ∧ st.length ≤ 4) ∧ Rn 216 0 [some (vR o), some (vI a), some (vI b)] [] T σ (fun r T' σ' => Rn 246 128 L (sx_push r st) T' σ' K) := R_V (cm := 216) (n := 2) (idx := 238) (ci := 9) (mx := 3) (vs := [vI a, vI b]) (by decide +kernel) (by decide +kernel) rfl (by decide +kernel) rfl (by decide +kernel) (by decide +kernel)
theorem s246_128 : Rn 246 128 [some (vR o), l1, l2, l3, l4, l5, l6, l7, l8] st T σ K ↔ Rn 246 129 [some (vR o), l1, l2, l3, l4, l5, l6, l7, l8] (vR o :: st) T σ K := R_aload_n (n := 0) (by decide +kernel) rfl
theorem s246_129 : Rn 246 129 [l0, l1, l2, l3, some (vI a), l5, l6, l7, l8] st T σ K ↔ Rn 246 131 [l0, l1, l2, l3, some (vI a), l5, l6, l7, l8] (vI a :: st) T σ K := R_iload (n := 4) (by decide +kernel) rfl
theorem s246_131 : Rn 246 131 [l0, l1, l2, l3, l4, some (vI a), l6, l7, l8] st T σ K ↔ Rn 246 133 [l0, l1, l2, l3, l4, some (vI a), l6, l7, l8] (vI a :: st) T σ K := R_iload (n := 5) (by decide +kernel) rfl
theorem s246_133 : Rn 246 133 L (vI b :: vI a :: vR o :: st) T σ K ↔ (sx_kd T o = 9 ∧ st.length ≤ 4) ∧ Rn 216 0 [some (vR o), some (vI a), some (vI b)] [] T σ (fun r T' σ' => Rn 246 136 L (sx_push r st) T' σ' K) := R_V (cm := 216) (n := 2) (idx := 238) (ci := 9) (mx := 3) (vs := [vI a, vI b]) (by decide +kernel) (by decide +kernel) rfl (by decide +kernel) rfl (by decide +kernel) (by decide +kernel)
theorem s246_136 : Rn 246 136 L (vI b :: vI a :: st) T σ K ↔ (a < b → Rn 246 142 L st T σ K) ∧ (b ≤ a → Rn 246 139 L st T σ K) := R_icmp_lt (off := 6) (by decide +kernel) (by decide)
theorem s246_139 : Rn 246 139 L st T σ K ↔ Rn 246 150 L st T σ K := R_goto (off := 11) (by decide +kernel) (by decide)
theorem s246_142 : Rn 246 142 [l0, l1, l2, l3, l4, l5, some (vI a), l7, l8] st T σ K ↔ Rn 246 144 [l0, l1, l2, l3, l4, l5, some (vI a), l7, l8] (vI a :: st) T σ K := R_iload (n := 6) (by decide +kernel) rfl
theorem s246_144 : Rn 246 144 [l0, l1, l2, l3, l4, l5, l6, l7, l8] (vI a :: st) T σ K ↔ Rn 246 146 [l0, l1, l2, l3, some (vI a), l5, l6, l7, l8] st T σ K := R_istore (n := 4) (by decide +kernel) rfl
theorem s246_146 : Rn 246 146 [l0, l1, l2, l3, l4, l5, l6, some (vI a), l8] st T σ K ↔ Rn 246 148 [l0, l1, l2, l3, l4, l5, l6, some (vI a), l8] (vI a :: st) T σ K := R_iload (n := 7) (by decide +kernel) rfl
theorem s246_148 : Rn 246 148 [l0, l1, l2, l3, l4, l5, l6, l7, l8] (vI a :: st) T σ K ↔ Rn 246 150 [l0, l1, l2, l3, l4, some (vI a), l6, l7, l8] st T σ K := R_istore (n := 5) (by decide +kernel) rfl
theorem s246_150 : Rn 246 150 [l0, l1, l2, l3, l4, l5, l6, some (vI a), l8] st T σ K ↔ inI (a + 1) ∧ Rn 246 153 [l0, l1, l2, l3, l4, l5, l6, some (vI (a + 1)), l8] st T σ K := R_iinc (n := 7) (d := 1) (by decide +kernel) rfl
theorem s246_153 : Rn 246 153 L st T σ K ↔ Rn 246 51 L st T σ K := R_goto (off := -102) (by decide +kernel) (by decide)
theorem s246_156 : Rn 246 156 [l0, l1, l2, l3, l4, l5, some (vI a), l7, l8] st T σ K ↔ inI (a + 1) ∧ Rn 246 159 [l0, l1, l2, l3, l4, l5, some (vI (a + 1)), l7, l8] st T σ K := R_iinc (n := 6) (d := 1) (by decide +kernel) rfl
theorem s246_159 : Rn 246 159 L st T σ K ↔ Rn 246 38 L st T σ K := R_goto (off := -121) (by decide +kernel) (by decide)
theorem s246_162 : Rn 246 162 [l0, l1, l2, l3, some (vI a), l5, l6, l7, l8] st T σ K ↔ Rn 246 164 [l0, l1, l2, l3, some (vI a), l5, l6, l7, l8] (vI a :: st) T σ K := R_iload (n := 4) (by decide +kernel) rfl
theorem s246_164 : Rn 246 164 L st T σ K ↔ Rn 246 165 L (vI (-1) :: st) T σ K := R_iconst (n := -1) (by decide +kernel) (by decide)
theorem s246_165 : Rn 246 165 L (vI b :: vI a :: st) T σ K ↔ (a = b → Rn 246 172 L st T σ K) ∧ (a ≠ b → Rn 246 168 L st T σ K) := R_icmp_eq (off := 7) (by decide +kernel) (by decide)
theorem s246_168 : Rn 246 168 L st T σ K ↔ Rn 246 169 L (vI 1 :: st) T σ K := R_iconst (n := 1) (by decide +kernel) (by decide)
theorem s246_169 : Rn 246 169 L st T σ K ↔ Rn 246 173 L st T σ K := R_goto (off := 4) (by decide +kernel) (by decide)
theorem s246_172 : Rn 246 172 L st T σ K ↔ Rn 246 173 L (vI 0 :: st) T σ K := R_iconst (n := 0) (by decide +kernel) (by decide)
theorem s246_173 : Rn 246 173 [l0, l1, l2, l3, l4, l5, l6, l7, l8] (vI a :: st) T σ K ↔ Rn 246 174 [l0, l1, l2, some (vI a), l4, l5, l6, l7, l8] st T σ K := R_istore_n (n := 3) (by decide +kernel) rfl
theorem s246_174 : Rn 246 174 [l0, l1, l2, some (vI a), l4, l5, l6, l7, l8] st T σ K ↔ Rn 246 175 [l0, l1, l2, some (vI a), l4, l5, l6, l7, l8] (vI a :: st) T σ K := R_iload_n (n := 3) (by decide +kernel) rfl
theorem s246_175 : Rn 246 175 L (vI a :: st) T σ K ↔ (a ≠ 0 → Rn 246 181 L st T σ K) ∧ (a = 0 → Rn 246 178 L st T σ K) := R_if_ne (off := 6) (by decide +kernel) (by decide)
theorem s246_178 : Rn 246 178 L st T σ K ↔ Rn 246 25 L st T σ K := R_goto (off := -153) (by decide +kernel) (by decide)
theorem s246_181 : Rn 246 181 [some (vR o), l1, l2, l3, l4, l5, l6, l7, l8] st T σ K ↔ Rn 246 182 [some (vR o), l1, l2, l3, l4, l5, l6, l7, l8] (vR o :: st) T σ K := R_aload_n (n := 0) (by decide +kernel) rfl
theorem s246_182 : Rn 246 182 L (vR o :: st) T σ K ↔ sx_kd T o = 9 ∧ ∃ t, sx_rf T o 35 = some t ∧ Rn 246 185 L (vR t :: st) T σ K := R_getR (idx := 117) (ci := 9) (k := 35) (by decide +kernel) (by decide +kernel) rfl
theorem s246_185 : Rn 246 185 L st T σ K ↔ Rn 246 186 L (vI 3 :: st) T σ K := R_iconst (n := 3) (by decide +kernel) (by decide)
theorem s246_186 : Rn 246 186 [l0, l1, some (vI a), l3, l4, l5, l6, l7, l8] st T σ K ↔ Rn 246 187 [l0, l1, some (vI a), l3, l4, l5, l6, l7, l8] (vI a :: st) T σ K := R_iload_n (n := 2) (by decide +kernel) rfl
theorem s246_187 : Rn 246 187 L (vI b :: vI a :: st) T σ K ↔ inI (a * b) ∧ Rn 246 188 L (vI (a * b) :: st) T σ K := R_imul (by decide +kernel)
theorem s246_188 : Rn 246 188 [l0, l1, l2, l3, some (vI a), l5, l6, l7, l8] st T σ K ↔ Rn 246 190 [l0, l1, l2, l3, some (vI a), l5, l6, l7, l8] (vI a :: st) T σ K := R_iload (n := 4) (by decide +kernel) rfl
theorem s246_190 : Rn 246 190 L (vI b :: vI a :: vR o :: st) T σ K ↔ (sx_kd T o = 20 ∧ 0 ≤ a ∧ a < sx_ln T o) ∧ Rn 246 191 L st T (sx_up σ o a b) K := R_iast (by decide +kernel)
theorem s246_191 : Rn 246 191 [some (vR o), l1, l2, l3, l4, l5, l6, l7, l8] st T σ K ↔ Rn 246 192 [some (vR o), l1, l2, l3, l4, l5, l6, l7, l8] (vR o :: st) T σ K := R_aload_n (n := 0) (by decide +kernel) rfl
theorem s246_192 : Rn 246 192 L (vR o :: st) T σ K ↔ sx_kd T o = 9 ∧ ∃ t, sx_rf T o 35 = some t ∧ Rn 246 195 L (vR t :: st) T σ K := R_getR (idx := 117) (ci := 9) (k := 35) (by decide +kernel) (by decide +kernel) rfl
theorem s246_195 : Rn 246 195 L st T σ K ↔ Rn 246 196 L (vI 3 :: st) T σ K := R_iconst (n := 3) (by decide +kernel) (by decide)
theorem s246_196 : Rn 246 196 [l0, l1, some (vI a), l3, l4, l5, l6, l7, l8] st T σ K ↔ Rn 246 197 [l0, l1, some (vI a), l3, l4, l5, l6, l7, l8] (vI a :: st) T σ K := R_iload_n (n := 2) (by decide +kernel) rfl
theorem s246_197 : Rn 246 197 L (vI b :: vI a :: st) T σ K ↔ inI (a * b) ∧ Rn 246 198 L (vI (a * b) :: st) T σ K := R_imul (by decide +kernel)
theorem s246_198 : Rn 246 198 L st T σ K ↔ Rn 246 199 L (vI 1 :: st) T σ K := R_iconst (n := 1) (by decide +kernel) (by decide)
theorem s246_199 : Rn 246 199 L (vI b :: vI a :: st) T σ K ↔ inI (a + b) ∧ Rn 246 200 L (vI (a + b) :: st) T σ K := R_iadd (by decide +kernel)
theorem s246_200 : Rn 246 200 [l0, l1, l2, l3, l4, some (vI a), l6, l7, l8] st T σ K ↔ Rn 246 202 [l0, l1, l2, l3, l4, some (vI a), l6, l7, l8] (vI a :: st) T σ K := R_iload (n := 5) (by decide +kernel) rfl
theorem s246_202 : Rn 246 202 L (vI b :: vI a :: vR o :: st) T σ K ↔ (sx_kd T o = 20 ∧ 0 ≤ a ∧ a < sx_ln T o) ∧ Rn 246 203 L st T (sx_up σ o a b) K := R_iast (by decide +kernel)
theorem s246_203 : Rn 246 203 [some (vR o), l1, l2, l3, l4, l5, l6, l7, l8] st T σ K ↔ Rn 246 204 [some (vR o), l1, l2, l3, l4, l5, l6, l7, l8] (vR o :: st) T σ K := R_aload_n (n := 0) (by decide +kernel) rfl
theorem s246_204 : Rn 246 204 L (vR o :: st) T σ K ↔ sx_kd T o = 9 ∧ ∃ t, sx_rf T o 35 = some t ∧ Rn 246 207 L (vR t :: st) T σ K := R_getR (idx := 117) (ci := 9) (k := 35) (by decide +kernel) (by decide +kernel) rfl
theorem s246_207 : Rn 246 207 L st T σ K ↔ Rn 246 208 L (vI 3 :: st) T σ K := R_iconst (n := 3) (by decide +kernel) (by decide)
theorem s246_208 : Rn 246 208 [l0, l1, some (vI a), l3, l4, l5, l6, l7, l8] st T σ K ↔ Rn 246 209 [l0, l1, some (vI a), l3, l4, l5, l6, l7, l8] (vI a :: st) T σ K := R_iload_n (n := 2) (by decide +kernel) rfl
theorem s246_209 : Rn 246 209 L (vI b :: vI a :: st) T σ K ↔ inI (a * b) ∧ Rn 246 210 L (vI (a * b) :: st) T σ K := R_imul (by decide +kernel)
theorem s246_210 : Rn 246 210 L st T σ K ↔ Rn 246 211 L (vI 2 :: st) T σ K := R_iconst (n := 2) (by decide +kernel) (by decide)
theorem s246_211 : Rn 246 211 L (vI b :: vI a :: st) T σ K ↔ inI (a + b) ∧ Rn 246 212 L (vI (a + b) :: st) T σ K := R_iadd (by decide +kernel)
theorem s246_212 : Rn 246 212 [some (vR o), l1, l2, l3, l4, l5, l6, l7, l8] st T σ K ↔ Rn 246 213 [some (vR o), l1, l2, l3, l4, l5, l6, l7, l8] (vR o :: st) T σ K := R_aload_n (n := 0) (by decide +kernel) rfl
theorem s246_213 : Rn 246 213 [l0, l1, l2, l3, some (vI a), l5, l6, l7, l8] st T σ K ↔ Rn 246 215 [l0, l1, l2, l3, some (vI a), l5, l6, l7, l8] (vI a :: st) T σ K := R_iload (n := 4) (by decide +kernel) rfl
theorem s246_215 : Rn 246 215 [l0, l1, l2, l3, l4, some (vI a), l6, l7, l8] st T σ K ↔ Rn 246 217 [l0, l1, l2, l3, l4, some (vI a), l6, l7, l8] (vI a :: st) T σ K := R_iload (n := 5) (by decide +kernel) rfl
theorem s246_217 : Rn 246 217 L (vI b :: vI a :: vR o :: st) T σ K ↔ (sx_kd T o = 9 ∧ st.length ≤ 4) ∧ Rn 216 0 [some (vR o), some (vI a), some (vI b)] [] T σ (fun r T' σ' => Rn 246 220 L (sx_push r st) T' σ' K) := R_V (cm := 216) (n := 2) (idx := 238) (ci := 9) (mx := 3) (vs := [vI a, vI b]) (by decide +kernel) (by decide +kernel) rfl (by decide +kernel) rfl (by decide +kernel) (by decide +kernel)
theorem s246_220 : Rn 246 220 L (vI b :: vI a :: vR o :: st) T σ K ↔ (sx_kd T o = 20 ∧ 0 ≤ a ∧ a < sx_ln T o) ∧ Rn 246 221 L st T (sx_up σ o a b) K := R_iast (by decide +kernel)
theorem s246_221 : Rn 246 221 [l0, l1, some (vI a), l3, l4, l5, l6, l7, l8] st T σ K ↔ inI (a + 1) ∧ Rn 246 224 [l0, l1, some (vI (a + 1)), l3, l4, l5, l6, l7, l8] st T σ K := R_iinc (n := 2) (d := 1) (by decide +kernel) rfl
theorem s246_224 : Rn 246 224 [some (vR o), l1, l2, l3, l4, l5, l6, l7, l8] st T σ K ↔ Rn 246 225 [some (vR o), l1, l2, l3, l4, l5, l6, l7, l8] (vR o :: st) T σ K := R_aload_n (n := 0) (by decide +kernel) rfl
theorem s246_225 : Rn 246 225 L (vR o :: st) T σ K ↔ sx_kd T o = 9 ∧ ∃ t, sx_rf T o 34 = some t ∧ Rn 246 228 L (vR t :: st) T σ K := R_getR (idx := 114) (ci := 9) (k := 34) (by decide +kernel) (by decide +kernel) rfl
theorem s246_228 : Rn 246 228 [l0, l1, l2, l3, some (vI a), l5, l6, l7, l8] st T σ K ↔ Rn 246 230 [l0, l1, l2, l3, some (vI a), l5, l6, l7, l8] (vI a :: st) T σ K := R_iload (n := 4) (by decide +kernel) rfl
theorem s246_230 : Rn 246 230 L (vI a :: vR o :: st) T σ K ↔ (sx_kd T o = 20 ∧ 0 ≤ a ∧ a < sx_ln T o) ∧ Rn 246 231 L (vI (σ o a) :: st) T σ K := R_iald (by decide +kernel) (by decide)
theorem s246_231 : Rn 246 231 [some (vR o), l1, l2, l3, l4, l5, l6, l7, l8] st T σ K ↔ Rn 246 232 [some (vR o), l1, l2, l3, l4, l5, l6, l7, l8] (vR o :: st) T σ K := R_aload_n (n := 0) (by decide +kernel) rfl
theorem s246_232 : Rn 246 232 L (vR o :: st) T σ K ↔ sx_kd T o = 9 ∧ ∃ t, sx_rf T o 34 = some t ∧ Rn 246 235 L (vR t :: st) T σ K := R_getR (idx := 114) (ci := 9) (k := 34) (by decide +kernel) (by decide +kernel) rfl
theorem s246_235 : Rn 246 235 [l0, l1, l2, l3, l4, some (vI a), l6, l7, l8] st T σ K ↔ Rn 246 237 [l0, l1, l2, l3, l4, some (vI a), l6, l7, l8] (vI a :: st) T σ K := R_iload (n := 5) (by decide +kernel) rfl
theorem s246_237 : Rn 246 237 L (vI a :: vR o :: st) T σ K ↔ (sx_kd T o = 20 ∧ 0 ≤ a ∧ a < sx_ln T o) ∧ Rn 246 238 L (vI (σ o a) :: st) T σ K := R_iald (by decide +kernel) (by decide)
theorem s246_238 : Rn 246 238 L (vI b :: vI a :: st) T σ K ↔ (b ≤ a → Rn 246 251 L st T σ K) ∧ (a < b → Rn 246 241 L st T σ K) := R_icmp_ge (off := 13) (by decide +kernel) (by decide)
theorem s246_241 : Rn 246 241 [some (vR o), l1, l2, l3, l4, l5, l6, l7, l8] st T σ K ↔ Rn 246 242 [some (vR o), l1, l2, l3, l4, l5, l6, l7, l8] (vR o :: st) T σ K := R_aload_n (n := 0) (by decide +kernel) rfl
theorem s246_242 : Rn 246 242 L (vR o :: st) T σ K ↔ sx_kd T o = 9 ∧ ∃ t, sx_rf T o 34 = some t ∧ Rn 246 245 L (vR t :: st) T σ K := R_getR (idx := 114) (ci := 9) (k := 34) (by decide +kernel) (by decide +kernel) rfl
theorem s246_245 : Rn 246 245 [l0, l1, l2, l3, some (vI a), l5, l6, l7, l8] st T σ K ↔ Rn 246 247 [l0, l1, l2, l3, some (vI a), l5, l6, l7, l8] (vI a :: st) T σ K := R_iload (n := 4) (by decide +kernel) rfl
theorem s246_247 : Rn 246 247 L (vI a :: vR o :: st) T σ K ↔ (sx_kd T o = 20 ∧ 0 ≤ a ∧ a < sx_ln T o) ∧ Rn 246 248 L (vI (σ o a) :: st) T σ K := R_iald (by decide +kernel) (by decide)
theorem s246_248 : Rn 246 248 L st T σ K ↔ Rn 246 258 L st T σ K := R_goto (off := 10) (by decide +kernel) (by decide)
theorem s246_251 : Rn 246 251 [some (vR o), l1, l2, l3, l4, l5, l6, l7, l8] st T σ K ↔ Rn 246 252 [some (vR o), l1, l2, l3, l4, l5, l6, l7, l8] (vR o :: st) T σ K := R_aload_n (n := 0) (by decide +kernel) rfl
theorem s246_252 : Rn 246 252 L (vR o :: st) T σ K ↔ sx_kd T o = 9 ∧ ∃ t, sx_rf T o 34 = some t ∧ Rn 246 255 L (vR t :: st) T σ K := R_getR (idx := 114) (ci := 9) (k := 34) (by decide +kernel) (by decide +kernel) rfl
theorem s246_255 : Rn 246 255 [l0, l1, l2, l3, l4, some (vI a), l6, l7, l8] st T σ K ↔ Rn 246 257 [l0, l1, l2, l3, l4, some (vI a), l6, l7, l8] (vI a :: st) T σ K := R_iload (n := 5) (by decide +kernel) rfl
theorem s246_257 : Rn 246 257 L (vI a :: vR o :: st) T σ K ↔ (sx_kd T o = 20 ∧ 0 ≤ a ∧ a < sx_ln T o) ∧ Rn 246 258 L (vI (σ o a) :: st) T σ K := R_iald (by decide +kernel) (by decide)
theorem s246_258 : Rn 246 258 [l0, l1, l2, l3, l4, l5, l6, l7, l8] (vI a :: st) T σ K ↔ Rn 246 260 [l0, l1, l2, l3, l4, l5, some (vI a), l7, l8] st T σ K := R_istore (n := 6) (by decide +kernel) rfl
theorem s246_260 : Rn 246 260 [some (vR o), l1, l2, l3, l4, l5, l6, l7, l8] st T σ K ↔ Rn 246 261 [some (vR o), l1, l2, l3, l4, l5, l6, l7, l8] (vR o :: st) T σ K := R_aload_n (n := 0) (by decide +kernel) rfl
theorem s246_261 : Rn 246 261 L (vR o :: st) T σ K ↔ sx_kd T o = 9 ∧ ∃ t, sx_rf T o 34 = some t ∧ Rn 246 264 L (vR t :: st) T σ K := R_getR (idx := 114) (ci := 9) (k := 34) (by decide +kernel) (by decide +kernel) rfl
theorem s246_264 : Rn 246 264 [l0, l1, l2, l3, some (vI a), l5, l6, l7, l8] st T σ K ↔ Rn 246 266 [l0, l1, l2, l3, some (vI a), l5, l6, l7, l8] (vI a :: st) T σ K := R_iload (n := 4) (by decide +kernel) rfl
theorem s246_266 : Rn 246 266 L (vI a :: vR o :: st) T σ K ↔ (sx_kd T o = 20 ∧ 0 ≤ a ∧ a < sx_ln T o) ∧ Rn 246 267 L (vI (σ o a) :: st) T σ K := R_iald (by decide +kernel) (by decide)
theorem s246_267 : Rn 246 267 [some (vR o), l1, l2, l3, l4, l5, l6, l7, l8] st T σ K ↔ Rn 246 268 [some (vR o), l1, l2, l3, l4, l5, l6, l7, l8] (vR o :: st) T σ K := R_aload_n (n := 0) (by decide +kernel) rfl
theorem s246_268 : Rn 246 268 L (vR o :: st) T σ K ↔ sx_kd T o = 9 ∧ ∃ t, sx_rf T o 34 = some t ∧ Rn 246 271 L (vR t :: st) T σ K := R_getR (idx := 114) (ci := 9) (k := 34) (by decide +kernel) (by decide +kernel) rfl
theorem s246_271 : Rn 246 271 [l0, l1, l2, l3, l4, some (vI a), l6, l7, l8] st T σ K ↔ Rn 246 273 [l0, l1, l2, l3, l4, some (vI a), l6, l7, l8] (vI a :: st) T σ K := R_iload (n := 5) (by decide +kernel) rfl
theorem s246_273 : Rn 246 273 L (vI a :: vR o :: st) T σ K ↔ (sx_kd T o = 20 ∧ 0 ≤ a ∧ a < sx_ln T o) ∧ Rn 246 274 L (vI (σ o a) :: st) T σ K := R_iald (by decide +kernel) (by decide)
theorem s246_274 : Rn 246 274 L (vI b :: vI a :: st) T σ K ↔ inI (a + b) ∧ Rn 246 275 L (vI (a + b) :: st) T σ K := R_iadd (by decide +kernel)
theorem s246_275 : Rn 246 275 [l0, l1, l2, l3, l4, l5, some (vI a), l7, l8] st T σ K ↔ Rn 246 277 [l0, l1, l2, l3, l4, l5, some (vI a), l7, l8] (vI a :: st) T σ K := R_iload (n := 6) (by decide +kernel) rfl
theorem s246_277 : Rn 246 277 L (vI b :: vI a :: st) T σ K ↔ inI (a - b) ∧ Rn 246 278 L (vI (a - b) :: st) T σ K := R_isub (by decide +kernel)
theorem s246_278 : Rn 246 278 [l0, l1, l2, l3, l4, l5, l6, l7, l8] (vI a :: st) T σ K ↔ Rn 246 280 [l0, l1, l2, l3, l4, l5, l6, some (vI a), l8] st T σ K := R_istore (n := 7) (by decide +kernel) rfl
theorem s246_280 : Rn 246 280 L st T σ K ↔ Rn 246 281 L (vI 0 :: st) T σ K := R_iconst (n := 0) (by decide +kernel) (by decide)
theorem s246_281 : Rn 246 281 [l0, l1, l2, l3, l4, l5, l6, l7, l8] (vI a :: st) T σ K ↔ Rn 246 283 [l0, l1, l2, l3, l4, l5, l6, l7, some (vI a)] st T σ K := R_istore (n := 8) (by decide +kernel) rfl
theorem s246_283 : Rn 246 283 [l0, l1, l2, l3, l4, l5, l6, l7, some (vI a)] st T σ K ↔ Rn 246 285 [l0, l1, l2, l3, l4, l5, l6, l7, some (vI a)] (vI a :: st) T σ K := R_iload (n := 8) (by decide +kernel) rfl
theorem s246_285 : Rn 246 285 L st T σ K ↔ Rn 246 287 L (vI 40 :: st) T σ K := R_bipush (n := 40) (by decide +kernel) (by decide +kernel)
theorem s246_287 : Rn 246 287 L (vI b :: vI a :: st) T σ K ↔ (b ≤ a → Rn 246 327 L st T σ K) ∧ (a < b → Rn 246 290 L st T σ K) := R_icmp_ge (off := 40) (by decide +kernel) (by decide)
theorem s246_290 : Rn 246 290 [some (vR o), l1, l2, l3, l4, l5, l6, l7, l8] st T σ K ↔ Rn 246 291 [some (vR o), l1, l2, l3, l4, l5, l6, l7, l8] (vR o :: st) T σ K := R_aload_n (n := 0) (by decide +kernel) rfl
theorem s246_291 : Rn 246 291 L (vR o :: st) T σ K ↔ sx_kd T o = 9 ∧ ∃ t, sx_rf T o 34 = some t ∧ Rn 246 294 L (vR t :: st) T σ K := R_getR (idx := 114) (ci := 9) (k := 34) (by decide +kernel) (by decide +kernel) rfl
theorem s246_294 : Rn 246 294 [l0, l1, l2, l3, l4, l5, l6, l7, some (vI a)] st T σ K ↔ Rn 246 296 [l0, l1, l2, l3, l4, l5, l6, l7, some (vI a)] (vI a :: st) T σ K := R_iload (n := 8) (by decide +kernel) rfl
theorem s246_296 : Rn 246 296 [some (vR o), l1, l2, l3, l4, l5, l6, l7, l8] st T σ K ↔ Rn 246 297 [some (vR o), l1, l2, l3, l4, l5, l6, l7, l8] (vR o :: st) T σ K := R_aload_n (n := 0) (by decide +kernel) rfl
theorem s246_297 : Rn 246 297 L (vR o :: st) T σ K ↔ sx_kd T o = 9 ∧ ∃ t, sx_rf T o 34 = some t ∧ Rn 246 300 L (vR t :: st) T σ K := R_getR (idx := 114) (ci := 9) (k := 34) (by decide +kernel) (by decide +kernel) rfl
theorem s246_300 : Rn 246 300 [l0, l1, l2, l3, l4, l5, l6, l7, some (vI a)] st T σ K ↔ Rn 246 302 [l0, l1, l2, l3, l4, l5, l6, l7, some (vI a)] (vI a :: st) T σ K := R_iload (n := 8) (by decide +kernel) rfl
theorem s246_302 : Rn 246 302 L (vI a :: vR o :: st) T σ K ↔ (sx_kd T o = 20 ∧ 0 ≤ a ∧ a < sx_ln T o) ∧ Rn 246 303 L (vI (σ o a) :: st) T σ K := R_iald (by decide +kernel) (by decide)
theorem s246_303 : Rn 246 303 [l0, l1, l2, l3, l4, l5, l6, some (vI a), l8] st T σ K ↔ Rn 246 305 [l0, l1, l2, l3, l4, l5, l6, some (vI a), l8] (vI a :: st) T σ K := R_iload (n := 7) (by decide +kernel) rfl
theorem s246_305 : Rn 246 305 L (vI b :: vI a :: st) T σ K ↔ (a ≠ b → Rn 246 313 L st T σ K) ∧ (a = b → Rn 246 308 L st T σ K) := R_icmp_ne (off := 8) (by decide +kernel) (by decide)
theorem s246_308 : Rn 246 308 [l0, l1, l2, l3, l4, l5, some (vI a), l7, l8] st T σ K ↔ Rn 246 310 [l0, l1, l2, l3, l4, l5, some (vI a), l7, l8] (vI a :: st) T σ K := R_iload (n := 6) (by decide +kernel) rfl
theorem s246_310 : Rn 246 310 L st T σ K ↔ Rn 246 320 L st T σ K := R_goto (off := 10) (by decide +kernel) (by decide)
theorem s246_313 : Rn 246 313 [some (vR o), l1, l2, l3, l4, l5, l6, l7, l8] st T σ K ↔ Rn 246 314 [some (vR o), l1, l2, l3, l4, l5, l6, l7, l8] (vR o :: st) T σ K := R_aload_n (n := 0) (by decide +kernel) rfl
theorem s246_314 : Rn 246 314 L (vR o :: st) T σ K ↔ sx_kd T o = 9 ∧ ∃ t, sx_rf T o 34 = some t ∧ Rn 246 317 L (vR t :: st) T σ K := R_getR (idx := 114) (ci := 9) (k := 34) (by decide +kernel) (by decide +kernel) rfl
theorem s246_317 : Rn 246 317 [l0, l1, l2, l3, l4, l5, l6, l7, some (vI a)] st T σ K ↔ Rn 246 319 [l0, l1, l2, l3, l4, l5, l6, l7, some (vI a)] (vI a :: st) T σ K := R_iload (n := 8) (by decide +kernel) rfl
theorem s246_319 : Rn 246 319 L (vI a :: vR o :: st) T σ K ↔ (sx_kd T o = 20 ∧ 0 ≤ a ∧ a < sx_ln T o) ∧ Rn 246 320 L (vI (σ o a) :: st) T σ K := R_iald (by decide +kernel) (by decide)
theorem s246_320 : Rn 246 320 L (vI b :: vI a :: vR o :: st) T σ K ↔ (sx_kd T o = 20 ∧ 0 ≤ a ∧ a < sx_ln T o) ∧ Rn 246 321 L st T (sx_up σ o a b) K := R_iast (by decide +kernel)
theorem s246_321 : Rn 246 321 [l0, l1, l2, l3, l4, l5, l6, l7, some (vI a)] st T σ K ↔ inI (a + 1) ∧ Rn 246 324 [l0, l1, l2, l3, l4, l5, l6, l7, some (vI (a + 1))] st T σ K := R_iinc (n := 8) (d := 1) (by decide +kernel) rfl
theorem s246_324 : Rn 246 324 L st T σ K ↔ Rn 246 283 L st T σ K := R_goto (off := -41) (by decide +kernel) (by decide)
theorem s246_327 : Rn 246 327 L st T σ K ↔ Rn 246 25 L st T σ K := R_goto (off := -302) (by decide +kernel) (by decide)
theorem s246_330 : Rn 246 330 [l0, l1, some (vI a), l3, l4, l5, l6, l7, l8] st T σ K ↔ Rn 246 331 [l0, l1, some (vI a), l3, l4, l5, l6, l7, l8] (vI a :: st) T σ K := R_iload_n (n := 2) (by decide +kernel) rfl
theorem s246_331 : Rn 246 331 L [vI a] T σ K ↔ K (some (vI a)) T σ := R_ret (by decide +kernel) (by decide +kernel)
theorem s247_0 : Rn 247 0 [some (vR o), l1, l2] st T σ K ↔ Rn 247 1 [some (vR o), l1, l2] (vR o :: st) T σ K := R_aload_n (n := 0) (by decide +kernel) rfl
theorem s247_1 : Rn 247 1 [l0, some (vI a), l2] st T σ K ↔ Rn 247 2 [l0, some (vI a), l2] (vI a :: st) T σ K := R_iload_n (n := 1) (by decide +kernel) rfl
theorem s247_2 : Rn 247 2 L (vI a :: vR o :: st) T σ K ↔ (sx_kd T o = 9 ∧ st.length ≤ 4) ∧ Rn 205 0 [some (vR o), some (vI a)] [] T σ (fun r T' σ' => Rn 247 5 L (sx_push r st) T' σ' K) := R_V (cm := 205) (n := 1) (idx := 254) (ci := 9) (mx := 2) (vs := [vI a]) (by decide +kernel) (by decide +kernel) rfl (by decide +kernel) rfl (by decide +kernel) (by decide +kernel)
theorem s247_5 : Rn 247 5 L (vI a :: st) T σ K ↔ (a = 0 → Rn 247 19 L st T σ K) ∧ (a ≠ 0 → Rn 247 8 L st T σ K) := R_if_eq (off := 14) (by decide +kernel) (by decide)
theorem s247_8 : Rn 247 8 [l0, l1, some (vI a)] st T σ K ↔ Rn 247 9 [l0, l1, some (vI a)] (vI a :: st) T σ K := R_iload_n (n := 2) (by decide +kernel) rfl
theorem s247_9 : Rn 247 9 L st T σ K ↔ Rn 247 10 L (vI 0 :: st) T σ K := R_iconst (n := 0) (by decide +kernel) (by decide)
theorem s247_10 : Rn 247 10 L st T σ K ↔ Rn 247 13 L (vI 999 :: st) T σ K := R_sipush (n := 999) (by decide +kernel) (by decide +kernel)
theorem s247_13 : Rn 247 13 L (vI c :: vI b :: vI a :: st) T σ K ↔ st.length ≤ 4 ∧ Rn 185 0 [some (vI a), some (vI b), some (vI c)] [] T σ (fun r T' σ' => Rn 247 16 L (sx_push r st) T' σ' K) := R_S (cm := 185) (n := 3) (idx := 189) (mx := 3) (vs := [vI a, vI b, vI c]) (by decide +kernel) (Or.inl (by decide +kernel)) rfl (by decide +kernel) rfl (by decide +kernel)
theorem s247_16 : Rn 247 16 L (vI a :: st) T σ K ↔ (a ≠ 0 → Rn 247 21 L st T σ K) ∧ (a = 0 → Rn 247 19 L st T σ K) := R_if_ne (off := 5) (by decide +kernel) (by decide)
theorem s247_19 : Rn 247 19 L st T σ K ↔ Rn 247 20 L (vI (-1) :: st) T σ K := R_iconst (n := -1) (by decide +kernel) (by decide)
theorem s247_20 : Rn 247 20 L [vI a] T σ K ↔ K (some (vI a)) T σ := R_ret (by decide +kernel) (by decide +kernel)
theorem s247_21 : Rn 247 21 [some (vR o), l1, l2] st T σ K ↔ Rn 247 22 [some (vR o), l1, l2] (vR o :: st) T σ K := R_aload_n (n := 0) (by decide +kernel) rfl
theorem s247_22 : Rn 247 22 [l0, l1, some (vI a)] st T σ K ↔ Rn 247 23 [l0, l1, some (vI a)] (vI a :: st) T σ K := R_iload_n (n := 2) (by decide +kernel) rfl
theorem s247_23 : Rn 247 23 L (vI a :: vR o :: st) T σ K ↔ (sx_kd T o = 9 ∧ st.length ≤ 4) ∧ Rn 246 0 [some (vR o), some (vI a), none, none, none, none, none, none, none] [] T σ (fun r T' σ' => Rn 247 26 L (sx_push r st) T' σ' K) := R_V (cm := 246) (n := 1) (idx := 313) (ci := 9) (mx := 9) (vs := [vI a]) (by decide +kernel) (by decide +kernel) rfl (by decide +kernel) rfl (by decide +kernel) (by decide +kernel)
theorem s247_26 : Rn 247 26 L (vI a :: st) T σ K ↔ Rn 247 27 L st T σ K := R_pop (v := vI a) (by decide +kernel) rfl
theorem s247_27 : Rn 247 27 [some (vR o), l1, l2] st T σ K ↔ Rn 247 28 [some (vR o), l1, l2] (vR o :: st) T σ K := R_aload_n (n := 0) (by decide +kernel) rfl
theorem s247_28 : Rn 247 28 L (vR o :: st) T σ K ↔ sx_kd T o = 9 ∧ ∃ t, sx_rf T o 34 = some t ∧ Rn 247 31 L (vR t :: st) T σ K := R_getR (idx := 114) (ci := 9) (k := 34) (by decide +kernel) (by decide +kernel) rfl
theorem s247_31 : Rn 247 31 [l0, some (vI a), l2] st T σ K ↔ Rn 247 32 [l0, some (vI a), l2] (vI a :: st) T σ K := R_iload_n (n := 1) (by decide +kernel) rfl
theorem s247_32 : Rn 247 32 L (vI a :: vR o :: st) T σ K ↔ (sx_kd T o = 20 ∧ 0 ≤ a ∧ a < sx_ln T o) ∧ Rn 247 33 L (vI (σ o a) :: st) T σ K := R_iald (by decide +kernel) (by decide)
theorem s247_33 : Rn 247 33 L [vI a] T σ K ↔ K (some (vI a)) T σ := R_ret (by decide +kernel) (by decide +kernel)
theorem s248_0 : Rn 248 0 [l0, some (vI a)] st T σ K ↔ Rn 248 1 [l0, some (vI a)] (vI a :: st) T σ K := R_iload_n (n := 1) (by decide +kernel) rfl
theorem s248_1 : Rn 248 1 L st T σ K ↔ Rn 248 2 L (vI 0 :: st) T σ K := R_iconst (n := 0) (by decide +kernel) (by decide)
theorem s248_2 : Rn 248 2 L st T σ K ↔ Rn 248 5 L (vI 999 :: st) T σ K := R_sipush (n := 999) (by decide +kernel) (by decide +kernel)
theorem s248_5 : Rn 248 5 L (vI c :: vI b :: vI a :: st) T σ K ↔ st.length ≤ 4 ∧ Rn 185 0 [some (vI a), some (vI b), some (vI c)] [] T σ (fun r T' σ' => Rn 248 8 L (sx_push r st) T' σ' K) := R_S (cm := 185) (n := 3) (idx := 189) (mx := 3) (vs := [vI a, vI b, vI c]) (by decide +kernel) (Or.inl (by decide +kernel)) rfl (by decide +kernel) rfl (by decide +kernel)
theorem s248_8 : Rn 248 8 L (vI a :: st) T σ K ↔ (a = 0 → Rn 248 24 L st T σ K) ∧ (a ≠ 0 → Rn 248 11 L st T σ K) := R_if_eq (off := 16) (by decide +kernel) (by decide)
theorem s248_11 : Rn 248 11 [some (vR o), l1] st T σ K ↔ Rn 248 12 [some (vR o), l1] (vR o :: st) T σ K := R_aload_n (n := 0) (by decide +kernel) rfl
theorem s248_12 : Rn 248 12 L (vR o :: st) T σ K ↔ (sx_kd T o = 9 ∧ st.length ≤ 4) ∧ Rn 202 0 [some (vR o), none, none] [] T σ (fun r T' σ' => Rn 248 15 L (sx_push r st) T' σ' K) := R_V (cm := 202) (n := 0) (idx := 248) (ci := 9) (mx := 3) (vs := []) (by decide +kernel) (by decide +kernel) rfl (by decide +kernel) rfl (by decide +kernel) (by decide +kernel)
theorem s248_15 : Rn 248 15 [some (vR o), l1] st T σ K ↔ Rn 248 16 [some (vR o), l1] (vR o :: st) T σ K := R_aload_n (n := 0) (by decide +kernel) rfl
theorem s248_16 : Rn 248 16 [l0, some (vI a)] st T σ K ↔ Rn 248 17 [l0, some (vI a)] (vI a :: st) T σ K := R_iload_n (n := 1) (by decide +kernel) rfl
theorem s248_17 : Rn 248 17 L (vI a :: vR o :: st) T σ K ↔ (sx_kd T o = 9 ∧ st.length ≤ 4) ∧ Rn 246 0 [some (vR o), some (vI a), none, none, none, none, none, none, none] [] T σ (fun r T' σ' => Rn 248 20 L (sx_push r st) T' σ' K) := R_V (cm := 246) (n := 1) (idx := 313) (ci := 9) (mx := 9) (vs := [vI a]) (by decide +kernel) (by decide +kernel) rfl (by decide +kernel) rfl (by decide +kernel) (by decide +kernel)
theorem s248_20 : Rn 248 20 L (vI b :: vI a :: st) T σ K ↔ inI (a - b) ∧ Rn 248 21 L (vI (a - b) :: st) T σ K := R_isub (by decide +kernel)
theorem s248_21 : Rn 248 21 L st T σ K ↔ Rn 248 25 L st T σ K := R_goto (off := 4) (by decide +kernel) (by decide)
theorem s248_24 : Rn 248 24 L st T σ K ↔ Rn 248 25 L (vI (-1) :: st) T σ K := R_iconst (n := -1) (by decide +kernel) (by decide)
theorem s248_25 : Rn 248 25 L [vI a] T σ K ↔ K (some (vI a)) T σ := R_ret (by decide +kernel) (by decide +kernel)
theorem s249_0 : Rn 249 0 [some (vR o), l1, l2, l3, l4, l5] st T σ K ↔ Rn 249 1 [some (vR o), l1, l2, l3, l4, l5] (vR o :: st) T σ K := R_aload_n (n := 0) (by decide +kernel) rfl
theorem s249_1 : Rn 249 1 [l0, some (vI a), l2, l3, l4, l5] st T σ K ↔ Rn 249 2 [l0, some (vI a), l2, l3, l4, l5] (vI a :: st) T σ K := R_iload_n (n := 1) (by decide +kernel) rfl
theorem s249_2 : Rn 249 2 [l0, l1, some (vI a), l3, l4, l5] st T σ K ↔ Rn 249 3 [l0, l1, some (vI a), l3, l4, l5] (vI a :: st) T σ K := R_iload_n (n := 2) (by decide +kernel) rfl
theorem s249_3 : Rn 249 3 [l0, l1, l2, some (vI a), l4, l5] st T σ K ↔ Rn 249 4 [l0, l1, l2, some (vI a), l4, l5] (vI a :: st) T σ K := R_iload_n (n := 3) (by decide +kernel) rfl
theorem s249_4 : Rn 249 4 L (vI c :: vI b :: vI a :: vR o :: st) T σ K ↔ (sx_kd T o = 9 ∧ st.length ≤ 4) ∧ Rn 250 0 [some (vR o), some (vI a), some (vI b), some (vI c)] [] T σ (fun r T' σ' => Rn 249 7 L (sx_push r st) T' σ' K) := R_V (cm := 250) (n := 3) (idx := 319) (ci := 9) (mx := 4) (vs := [vI a, vI b, vI c]) (by decide +kernel) (by decide +kernel) rfl (by decide +kernel) rfl (by decide +kernel) (by decide +kernel)
theorem s249_7 : Rn 249 7 L (vI a :: st) T σ K ↔ (a = 0 → Rn 249 20 L st T σ K) ∧ (a ≠ 0 → Rn 249 10 L st T σ K) := R_if_eq (off := 13) (by decide +kernel) (by decide)
theorem s249_10 : Rn 249 10 [l0, l1, l2, l3, some (vI a), l5] st T σ K ↔ Rn 249 12 [l0, l1, l2, l3, some (vI a), l5] (vI a :: st) T σ K := R_iload (n := 4) (by decide +kernel) rfl
theorem s249_12 : Rn 249 12 L st T σ K ↔ Rn 249 13 L (vI 0 :: st) T σ K := R_iconst (n := 0) (by decide +kernel) (by decide)
theorem s249_13 : Rn 249 13 L st T σ K ↔ Rn 249 14 L (vI 1 :: st) T σ K := R_iconst (n := 1) (by decide +kernel) (by decide)
theorem s249_14 : Rn 249 14 L (vI c :: vI b :: vI a :: st) T σ K ↔ st.length ≤ 4 ∧ Rn 185 0 [some (vI a), some (vI b), some (vI c)] [] T σ (fun r T' σ' => Rn 249 17 L (sx_push r st) T' σ' K) := R_S (cm := 185) (n := 3) (idx := 189) (mx := 3) (vs := [vI a, vI b, vI c]) (by decide +kernel) (Or.inl (by decide +kernel)) rfl (by decide +kernel) rfl (by decide +kernel)
theorem s249_17 : Rn 249 17 L (vI a :: st) T σ K ↔ (a ≠ 0 → Rn 249 22 L st T σ K) ∧ (a = 0 → Rn 249 20 L st T σ K) := R_if_ne (off := 5) (by decide +kernel) (by decide)
theorem s249_20 : Rn 249 20 L st T σ K ↔ Rn 249 21 L (vI (-1) :: st) T σ K := R_iconst (n := -1) (by decide +kernel) (by decide)
theorem s249_21 : Rn 249 21 L [vI a] T σ K ↔ K (some (vI a)) T σ := R_ret (by decide +kernel) (by decide +kernel)
theorem s249_22 : Rn 249 22 [some (vR o), l1, l2, l3, l4, l5] st T σ K ↔ Rn 249 23 [some (vR o), l1, l2, l3, l4, l5] (vR o :: st) T σ K := R_aload_n (n := 0) (by decide +kernel) rfl
theorem s249_23 : Rn 249 23 [l0, some (vI a), l2, l3, l4, l5] st T σ K ↔ Rn 249 24 [l0, some (vI a), l2, l3, l4, l5] (vI a :: st) T σ K := R_iload_n (n := 1) (by decide +kernel) rfl
theorem s249_24 : Rn 249 24 [l0, l1, some (vI a), l3, l4, l5] st T σ K ↔ Rn 249 25 [l0, l1, some (vI a), l3, l4, l5] (vI a :: st) T σ K := R_iload_n (n := 2) (by decide +kernel) rfl
theorem s249_25 : Rn 249 25 [l0, l1, l2, some (vI a), l4, l5] st T σ K ↔ Rn 249 26 [l0, l1, l2, some (vI a), l4, l5] (vI a :: st) T σ K := R_iload_n (n := 3) (by decide +kernel) rfl
theorem s249_26 : Rn 249 26 L (vI c :: vI b :: vI a :: vR o :: st) T σ K ↔ (sx_kd T o = 9 ∧ st.length ≤ 4) ∧ Rn 192 0 [some (vR o), some (vI a), some (vI b), some (vI c), none, none] [] T σ (fun r T' σ' => Rn 249 29 L (sx_push r st) T' σ' K) := R_V (cm := 192) (n := 3) (idx := 234) (ci := 9) (mx := 6) (vs := [vI a, vI b, vI c]) (by decide +kernel) (by decide +kernel) rfl (by decide +kernel) rfl (by decide +kernel) (by decide +kernel)
theorem s249_29 : Rn 249 29 [l0, l1, l2, l3, l4, l5] (vI a :: st) T σ K ↔ Rn 249 31 [l0, l1, l2, l3, l4, some (vI a)] st T σ K := R_istore (n := 5) (by decide +kernel) rfl
theorem s249_31 : Rn 249 31 [l0, l1, l2, l3, some (vI a), l5] st T σ K ↔ Rn 249 33 [l0, l1, l2, l3, some (vI a), l5] (vI a :: st) T σ K := R_iload (n := 4) (by decide +kernel) rfl
theorem s249_33 : Rn 249 33 L (vI a :: st) T σ K ↔ (a ≠ 0 → Rn 249 41 L st T σ K) ∧ (a = 0 → Rn 249 36 L st T σ K) := R_if_ne (off := 8) (by decide +kernel) (by decide)
theorem s249_36 : Rn 249 36 [l0, l1, l2, l3, l4, some (vI a)] st T σ K ↔ Rn 249 38 [l0, l1, l2, l3, l4, some (vI a)] (vI a :: st) T σ K := R_iload (n := 5) (by decide +kernel) rfl
theorem s249_38 : Rn 249 38 L st T σ K ↔ Rn 249 63 L st T σ K := R_goto (off := 25) (by decide +kernel) (by decide)
theorem s249_41 : Rn 249 41 [l0, l1, l2, l3, l4, some (vI a)] st T σ K ↔ Rn 249 43 [l0, l1, l2, l3, l4, some (vI a)] (vI a :: st) T σ K := R_iload (n := 5) (by decide +kernel) rfl
theorem s249_43 : Rn 249 43 L st T σ K ↔ Rn 249 45 L (vI 10 :: st) T σ K := R_bipush (n := 10) (by decide +kernel) (by decide +kernel)
theorem s249_45 : Rn 249 45 L (vI b :: vI a :: st) T σ K ↔ (a ≠ b → Rn 249 52 L st T σ K) ∧ (a = b → Rn 249 48 L st T σ K) := R_icmp_ne (off := 7) (by decide +kernel) (by decide)
theorem s249_48 : Rn 249 48 L st T σ K ↔ Rn 249 49 L (vI (-1) :: st) T σ K := R_iconst (n := -1) (by decide +kernel) (by decide)
theorem s249_49 : Rn 249 49 L st T σ K ↔ Rn 249 63 L st T σ K := R_goto (off := 14) (by decide +kernel) (by decide)
theorem s249_52 : Rn 249 52 [some (vR o), l1, l2, l3, l4, l5] st T σ K ↔ Rn 249 53 [some (vR o), l1, l2, l3, l4, l5] (vR o :: st) T σ K := R_aload_n (n := 0) (by decide +kernel) rfl
theorem s249_53 : Rn 249 53 [l0, l1, l2, l3, l4, some (vI a)] st T σ K ↔ Rn 249 55 [l0, l1, l2, l3, l4, some (vI a)] (vI a :: st) T σ K := R_iload (n := 5) (by decide +kernel) rfl
theorem s249_55 : Rn 249 55 L st T σ K ↔ Rn 249 56 L (vI 1 :: st) T σ K := R_iconst (n := 1) (by decide +kernel) (by decide)
theorem s249_56 : Rn 249 56 L (vI b :: vI a :: st) T σ K ↔ inI (a + b) ∧ Rn 249 57 L (vI (a + b) :: st) T σ K := R_iadd (by decide +kernel)
theorem s249_57 : Rn 249 57 [l0, some (vI a), l2, l3, l4, l5] st T σ K ↔ Rn 249 58 [l0, some (vI a), l2, l3, l4, l5] (vI a :: st) T σ K := R_iload_n (n := 1) (by decide +kernel) rfl
theorem s249_58 : Rn 249 58 [l0, l1, some (vI a), l3, l4, l5] st T σ K ↔ Rn 249 59 [l0, l1, some (vI a), l3, l4, l5] (vI a :: st) T σ K := R_iload_n (n := 2) (by decide +kernel) rfl
theorem s249_59 : Rn 249 59 [l0, l1, l2, some (vI a), l4, l5] st T σ K ↔ Rn 249 60 [l0, l1, l2, some (vI a), l4, l5] (vI a :: st) T σ K := R_iload_n (n := 3) (by decide +kernel) rfl
theorem s249_60 : Rn 249 60 L (vI d :: vI c :: vI b :: vI a :: vR o :: st) T σ K ↔ (sx_kd T o = 9 ∧ st.length ≤ 4) ∧ Rn 193 0 [some (vR o), some (vI a), some (vI b), some (vI c), some (vI d), none, none] [] T σ (fun r T' σ' => Rn 249 63 L (sx_push r st) T' σ' K) := R_V (cm := 193) (n := 4) (idx := 231) (ci := 9) (mx := 7) (vs := [vI a, vI b, vI c, vI d]) (by decide +kernel) (by decide +kernel) rfl (by decide +kernel) rfl (by decide +kernel) (by decide +kernel)
theorem s249_63 : Rn 249 63 L [vI a] T σ K ↔ K (some (vI a)) T σ := R_ret (by decide +kernel) (by decide +kernel)
theorem s250_0 : Rn 250 0 [some (vR o), l1, l2, l3] st T σ K ↔ Rn 250 1 [some (vR o), l1, l2, l3] (vR o :: st) T σ K := R_aload_n (n := 0) (by decide +kernel) rfl
theorem s250_1 : Rn 250 1 L (vR o :: st) T σ K ↔ sx_kd T o = 9 ∧ Rn 250 4 L (vI (σ o 6) :: st) T σ K := R_getI (idx := 29) (ci := 9) (k := 6) (by decide +kernel) (by decide +kernel) (Or.inr rfl)
theorem s250_4 : Rn 250 4 L (vI a :: st) T σ K ↔ (a = 0 → Rn 250 39 L st T σ K) ∧ (a ≠ 0 → Rn 250 7 L st T σ K) := R_if_eq (off := 35) (by decide +kernel) (by decide)
theorem s250_7 : Rn 250 7 [l0, some (vI a), l2, l3] st T σ K ↔ Rn 250 8 [l0, some (vI a), l2, l3] (vI a :: st) T σ K := R_iload_n (n := 1) (by decide +kernel) rfl
theorem s250_8 : Rn 250 8 [l0, l1, some (vI a), l3] st T σ K ↔ Rn 250 9 [l0, l1, some (vI a), l3] (vI a :: st) T σ K := R_iload_n (n := 2) (by decide +kernel) rfl
theorem s250_9 : Rn 250 9 [l0, l1, l2, some (vI a)] st T σ K ↔ Rn 250 10 [l0, l1, l2, some (vI a)] (vI a :: st) T σ K := R_iload_n (n := 3) (by decide +kernel) rfl
theorem s250_10 : Rn 250 10 L (vI c :: vI b :: vI a :: st) T σ K ↔ st.length ≤ 4 ∧ Rn 226 0 [some (vI a), some (vI b), some (vI c)] [] T σ (fun r T' σ' => Rn 250 13 L (sx_push r st) T' σ' K) := R_S (cm := 226) (n := 3) (idx := 290) (mx := 3) (vs := [vI a, vI b, vI c]) (by decide +kernel) (Or.inl (by decide +kernel)) rfl (by decide +kernel) rfl (by decide +kernel)
theorem s250_13 : Rn 250 13 L (vI a :: st) T σ K ↔ (a = 0 → Rn 250 39 L st T σ K) ∧ (a ≠ 0 → Rn 250 16 L st T σ K) := R_if_eq (off := 26) (by decide +kernel) (by decide)
theorem s250_16 : Rn 250 16 [some (vR o), l1, l2, l3] st T σ K ↔ Rn 250 17 [some (vR o), l1, l2, l3] (vR o :: st) T σ K := R_aload_n (n := 0) (by decide +kernel) rfl
theorem s250_17 : Rn 250 17 [l0, some (vI a), l2, l3] st T σ K ↔ Rn 250 18 [l0, some (vI a), l2, l3] (vI a :: st) T σ K := R_iload_n (n := 1) (by decide +kernel) rfl
theorem s250_18 : Rn 250 18 [l0, l1, some (vI a), l3] st T σ K ↔ Rn 250 19 [l0, l1, some (vI a), l3] (vI a :: st) T σ K := R_iload_n (n := 2) (by decide +kernel) rfl
theorem s250_19 : Rn 250 19 [l0, l1, l2, some (vI a)] st T σ K ↔ Rn 250 20 [l0, l1, l2, some (vI a)] (vI a :: st) T σ K := R_iload_n (n := 3) (by decide +kernel) rfl
theorem s250_20 : Rn 250 20 L (vI c :: vI b :: vI a :: vR o :: st) T σ K ↔ (sx_kd T o = 9 ∧ st.length ≤ 4) ∧ Rn 213 0 [some (vR o), some (vI a), some (vI b), some (vI c), none] [] T σ (fun r T' σ' => Rn 250 23 L (sx_push r st) T' σ' K) := R_V (cm := 213) (n := 3) (idx := 269) (ci := 9) (mx := 5) (vs := [vI a, vI b, vI c]) (by decide +kernel) (by decide +kernel) rfl (by decide +kernel) rfl (by decide +kernel) (by decide +kernel)
theorem s250_23 : Rn 250 23 L st T σ K ↔ Rn 250 24 L (vI (-1) :: st) T σ K := R_iconst (n := -1) (by decide +kernel) (by decide)
theorem s250_24 : Rn 250 24 L (vI b :: vI a :: st) T σ K ↔ (a ≠ b → Rn 250 39 L st T σ K) ∧ (a = b → Rn 250 27 L st T σ K) := R_icmp_ne (off := 15) (by decide +kernel) (by decide)
theorem s250_27 : Rn 250 27 [some (vR o), l1, l2, l3] st T σ K ↔ Rn 250 28 [some (vR o), l1, l2, l3] (vR o :: st) T σ K := R_aload_n (n := 0) (by decide +kernel) rfl
theorem s250_28 : Rn 250 28 L (vR o :: st) T σ K ↔ (sx_kd T o = 9 ∧ st.length ≤ 4) ∧ Rn 251 0 [some (vR o), none] [] T σ (fun r T' σ' => Rn 250 31 L (sx_push r st) T' σ' K) := R_V (cm := 251) (n := 0) (idx := 316) (ci := 9) (mx := 2) (vs := []) (by decide +kernel) (by decide +kernel) rfl (by decide +kernel) rfl (by decide +kernel) (by decide +kernel)
theorem s250_31 : Rn 250 31 L st T σ K ↔ Rn 250 32 L (vI (-1) :: st) T σ K := R_iconst (n := -1) (by decide +kernel) (by decide)
theorem s250_32 : Rn 250 32 L (vI b :: vI a :: st) T σ K ↔ (a = b → Rn 250 39 L st T σ K) ∧ (a ≠ b → Rn 250 35 L st T σ K) := R_icmp_eq (off := 7) (by decide +kernel) (by decide)
theorem s250_35 : Rn 250 35 L st T σ K ↔ Rn 250 36 L (vI 1 :: st) T σ K := R_iconst (n := 1) (by decide +kernel) (by decide)
theorem s250_36 : Rn 250 36 L st T σ K ↔ Rn 250 40 L st T σ K := R_goto (off := 4) (by decide +kernel) (by decide)
theorem s250_39 : Rn 250 39 L st T σ K ↔ Rn 250 40 L (vI 0 :: st) T σ K := R_iconst (n := 0) (by decide +kernel) (by decide)
theorem s250_40 : Rn 250 40 L [vI a] T σ K ↔ (a = 0 ∨ a = 1) ∧ K (some (vI a)) T σ := R_retZ (by decide +kernel) (by decide +kernel)
theorem s251_0 : Rn 251 0 L st T σ K ↔ Rn 251 1 L (vI 0 :: st) T σ K := R_iconst (n := 0) (by decide +kernel) (by decide)
theorem s251_1 : Rn 251 1 [l0, l1] (vI a :: st) T σ K ↔ Rn 251 2 [l0, some (vI a)] st T σ K := R_istore_n (n := 1) (by decide +kernel) rfl
theorem s251_2 : Rn 251 2 [l0, some (vI a)] st T σ K ↔ Rn 251 3 [l0, some (vI a)] (vI a :: st) T σ K := R_iload_n (n := 1) (by decide +kernel) rfl
theorem s251_3 : Rn 251 3 L st T σ K ↔ Rn 251 5 L (vI 40 :: st) T σ K := R_bipush (n := 40) (by decide +kernel) (by decide +kernel)
theorem s251_5 : Rn 251 5 L (vI b :: vI a :: st) T σ K ↔ (b ≤ a → Rn 251 27 L st T σ K) ∧ (a < b → Rn 251 8 L st T σ K) := R_icmp_ge (off := 22) (by decide +kernel) (by decide)
theorem s251_8 : Rn 251 8 [some (vR o), l1] st T σ K ↔ Rn 251 9 [some (vR o), l1] (vR o :: st) T σ K := R_aload_n (n := 0) (by decide +kernel) rfl
theorem s251_9 : Rn 251 9 L (vR o :: st) T σ K ↔ sx_kd T o = 9 ∧ ∃ t, sx_rf T o 0 = some t ∧ Rn 251 12 L (vR t :: st) T σ K := R_getR (idx := 7) (ci := 9) (k := 0) (by decide +kernel) (by decide +kernel) rfl
theorem s251_12 : Rn 251 12 L st T σ K ↔ Rn 251 13 L (vI 0 :: st) T σ K := R_iconst (n := 0) (by decide +kernel) (by decide)
theorem s251_13 : Rn 251 13 [l0, some (vI a)] st T σ K ↔ Rn 251 14 [l0, some (vI a)] (vI a :: st) T σ K := R_iload_n (n := 1) (by decide +kernel) rfl
theorem s251_14 : Rn 251 14 L (vI b :: vI a :: st) T σ K ↔ inI (a + b) ∧ Rn 251 15 L (vI (a + b) :: st) T σ K := R_iadd (by decide +kernel)
theorem s251_15 : Rn 251 15 L (vI a :: vR o :: st) T σ K ↔ (sx_kd T o = 20 ∧ 0 ≤ a ∧ a < sx_ln T o) ∧ Rn 251 16 L (vI (σ o a) :: st) T σ K := R_iald (by decide +kernel) (by decide)
theorem s251_16 : Rn 251 16 L (vI a :: st) T σ K ↔ (a ≠ 0 → Rn 251 21 L st T σ K) ∧ (a = 0 → Rn 251 19 L st T σ K) := R_if_ne (off := 5) (by decide +kernel) (by decide)
theorem s251_19 : Rn 251 19 [l0, some (vI a)] st T σ K ↔ Rn 251 20 [l0, some (vI a)] (vI a :: st) T σ K := R_iload_n (n := 1) (by decide +kernel) rfl
theorem s251_20 : Rn 251 20 L [vI a] T σ K ↔ K (some (vI a)) T σ := R_ret (by decide +kernel) (by decide +kernel)
theorem s251_21 : Rn 251 21 [l0, some (vI a)] st T σ K ↔ inI (a + 1) ∧ Rn 251 24 [l0, some (vI (a + 1))] st T σ K := R_iinc (n := 1) (d := 1) (by decide +kernel) rfl
theorem s251_24 : Rn 251 24 L st T σ K ↔ Rn 251 2 L st T σ K := R_goto (off := -22) (by decide +kernel) (by decide)
theorem s251_27 : Rn 251 27 L st T σ K ↔ Rn 251 28 L (vI (-1) :: st) T σ K := R_iconst (n := -1) (by decide +kernel) (by decide)
theorem s251_28 : Rn 251 28 L [vI a] T σ K ↔ K (some (vI a)) T σ := R_ret (by decide +kernel) (by decide +kernel)
theorem s252_0 : Rn 252 0 [some (vR o), l1, l2, l3] st T σ K ↔ Rn 252 1 [some (vR o), l1, l2, l3] (vR o :: st) T σ K := R_aload_n (n := 0) (by decide +kernel) rfl
theorem s252_1 : Rn 252 1 [l0, some (vI a), l2, l3] st T σ K ↔ Rn 252 2 [l0, some (vI a), l2, l3] (vI a :: st) T σ K := R_iload_n (n := 1) (by decide +kernel) rfl
theorem s252_2 : Rn 252 2 L (vI a :: vR o :: st) T σ K ↔ (sx_kd T o = 9 ∧ st.length ≤ 4) ∧ Rn 205 0 [some (vR o), some (vI a)] [] T σ (fun r T' σ' => Rn 252 5 L (sx_push r st) T' σ' K) := R_V (cm := 205) (n := 1) (idx := 254) (ci := 9) (mx := 2) (vs := [vI a]) (by decide +kernel) (by decide +kernel) rfl (by decide +kernel) rfl (by decide +kernel) (by decide +kernel)
theorem s252_5 : Rn 252 5 L (vI a :: st) T σ K ↔ (a = 0 → Rn 252 17 L st T σ K) ∧ (a ≠ 0 → Rn 252 8 L st T σ K) := R_if_eq (off := 12) (by decide +kernel) (by decide)
theorem s252_8 : Rn 252 8 [l0, l1, some (vI a), l3] st T σ K ↔ Rn 252 9 [l0, l1, some (vI a), l3] (vI a :: st) T σ K := R_iload_n (n := 2) (by decide +kernel) rfl
theorem s252_9 : Rn 252 9 L st T σ K ↔ Rn 252 10 L (vI 0 :: st) T σ K := R_iconst (n := 0) (by decide +kernel) (by decide)
theorem s252_10 : Rn 252 10 L st T σ K ↔ Rn 252 11 L (vI 2 :: st) T σ K := R_iconst (n := 2) (by decide +kernel) (by decide)
theorem s252_11 : Rn 252 11 L (vI c :: vI b :: vI a :: st) T σ K ↔ st.length ≤ 4 ∧ Rn 185 0 [some (vI a), some (vI b), some (vI c)] [] T σ (fun r T' σ' => Rn 252 14 L (sx_push r st) T' σ' K) := R_S (cm := 185) (n := 3) (idx := 189) (mx := 3) (vs := [vI a, vI b, vI c]) (by decide +kernel) (Or.inl (by decide +kernel)) rfl (by decide +kernel) rfl (by decide +kernel)
theorem s252_14 : Rn 252 14 L (vI a :: st) T σ K ↔ (a ≠ 0 → Rn 252 19 L st T σ K) ∧ (a = 0 → Rn 252 17 L st T σ K) := R_if_ne (off := 5) (by decide +kernel) (by decide)
theorem s252_17 : Rn 252 17 L st T σ K ↔ Rn 252 18 L (vI (-1) :: st) T σ K := R_iconst (n := -1) (by decide +kernel) (by decide)
theorem s252_18 : Rn 252 18 L [vI a] T σ K ↔ K (some (vI a)) T σ := R_ret (by decide +kernel) (by decide +kernel)
theorem s252_19 : Rn 252 19 [some (vR o), l1, l2, l3] st T σ K ↔ Rn 252 20 [some (vR o), l1, l2, l3] (vR o :: st) T σ K := R_aload_n (n := 0) (by decide +kernel) rfl
theorem s252_20 : Rn 252 20 L (vR o :: st) T σ K ↔ (sx_kd T o = 9 ∧ st.length ≤ 4) ∧ Rn 253 0 [some (vR o), none] [] T σ (fun r T' σ' => Rn 252 23 L (sx_push r st) T' σ' K) := R_V (cm := 253) (n := 0) (idx := 322) (ci := 9) (mx := 2) (vs := []) (by decide +kernel) (by decide +kernel) rfl (by decide +kernel) rfl (by decide +kernel) (by decide +kernel)
theorem s252_23 : Rn 252 23 [some (vR o), l1, l2, l3] st T σ K ↔ Rn 252 24 [some (vR o), l1, l2, l3] (vR o :: st) T σ K := R_aload_n (n := 0) (by decide +kernel) rfl
theorem s252_24 : Rn 252 24 [l0, some (vI a), l2, l3] st T σ K ↔ Rn 252 25 [l0, some (vI a), l2, l3] (vI a :: st) T σ K := R_iload_n (n := 1) (by decide +kernel) rfl
theorem s252_25 : Rn 252 25 L (vI a :: vR o :: st) T σ K ↔ (sx_kd T o = 9 ∧ st.length ≤ 4) ∧ Rn 254 0 [some (vR o), some (vI a), none, none, none] [] T σ (fun r T' σ' => Rn 252 28 L (sx_push r st) T' σ' K) := R_V (cm := 254) (n := 1) (idx := 325) (ci := 9) (mx := 5) (vs := [vI a]) (by decide +kernel) (by decide +kernel) rfl (by decide +kernel) rfl (by decide +kernel) (by decide +kernel)
theorem s252_28 : Rn 252 28 [l0, l1, some (vI a), l3] st T σ K ↔ Rn 252 29 [l0, l1, some (vI a), l3] (vI a :: st) T σ K := R_iload_n (n := 2) (by decide +kernel) rfl
theorem s252_29 : Rn 252 29 L (vI a :: st) T σ K ↔ (a ≠ 0 → Rn 252 42 L st T σ K) ∧ (a = 0 → Rn 252 32 L st T σ K) := R_if_ne (off := 13) (by decide +kernel) (by decide)
theorem s252_32 : Rn 252 32 [some (vR o), l1, l2, l3] st T σ K ↔ Rn 252 33 [some (vR o), l1, l2, l3] (vR o :: st) T σ K := R_aload_n (n := 0) (by decide +kernel) rfl
theorem s252_33 : Rn 252 33 L st T σ K ↔ Rn 252 36 L (vI 200 :: st) T σ K := R_sipush (n := 200) (by decide +kernel) (by decide +kernel)
theorem s252_36 : Rn 252 36 L (vI a :: vR o :: st) T σ K ↔ (sx_kd T o = 9 ∧ st.length ≤ 4) ∧ Rn 257 0 [some (vR o), some (vI a), none, none] [] T σ (fun r T' σ' => Rn 252 39 L (sx_push r st) T' σ' K) := R_V (cm := 257) (n := 1) (idx := 328) (ci := 9) (mx := 4) (vs := [vI a]) (by decide +kernel) (by decide +kernel) rfl (by decide +kernel) rfl (by decide +kernel) (by decide +kernel)
theorem s252_39 : Rn 252 39 L st T σ K ↔ Rn 252 61 L st T σ K := R_goto (off := 22) (by decide +kernel) (by decide)
theorem s252_42 : Rn 252 42 [l0, l1, some (vI a), l3] st T σ K ↔ Rn 252 43 [l0, l1, some (vI a), l3] (vI a :: st) T σ K := R_iload_n (n := 2) (by decide +kernel) rfl
theorem s252_43 : Rn 252 43 L st T σ K ↔ Rn 252 44 L (vI 1 :: st) T σ K := R_iconst (n := 1) (by decide +kernel) (by decide)
theorem s252_44 : Rn 252 44 L (vI b :: vI a :: st) T σ K ↔ (a ≠ b → Rn 252 57 L st T σ K) ∧ (a = b → Rn 252 47 L st T σ K) := R_icmp_ne (off := 13) (by decide +kernel) (by decide)
theorem s252_47 : Rn 252 47 [some (vR o), l1, l2, l3] st T σ K ↔ Rn 252 48 [some (vR o), l1, l2, l3] (vR o :: st) T σ K := R_aload_n (n := 0) (by decide +kernel) rfl
theorem s252_48 : Rn 252 48 L st T σ K ↔ Rn 252 51 L (vI 160 :: st) T σ K := R_sipush (n := 160) (by decide +kernel) (by decide +kernel)
theorem s252_51 : Rn 252 51 L (vI a :: vR o :: st) T σ K ↔ (sx_kd T o = 9 ∧ st.length ≤ 4) ∧ Rn 257 0 [some (vR o), some (vI a), none, none] [] T σ (fun r T' σ' => Rn 252 54 L (sx_push r st) T' σ' K) := R_V (cm := 257) (n := 1) (idx := 328) (ci := 9) (mx := 4) (vs := [vI a]) (by decide +kernel) (by decide +kernel) rfl (by decide +kernel) rfl (by decide +kernel) (by decide +kernel)
theorem s252_54 : Rn 252 54 L st T σ K ↔ Rn 252 61 L st T σ K := R_goto (off := 7) (by decide +kernel) (by decide)
theorem s252_57 : Rn 252 57 [some (vR o), l1, l2, l3] st T σ K ↔ Rn 252 58 [some (vR o), l1, l2, l3] (vR o :: st) T σ K := R_aload_n (n := 0) (by decide +kernel) rfl
theorem s252_58 : Rn 252 58 L (vR o :: st) T σ K ↔ (sx_kd T o = 9 ∧ st.length ≤ 4) ∧ Rn 203 0 [some (vR o), none] [] T σ (fun r T' σ' => Rn 252 61 L (sx_push r st) T' σ' K) := R_V (cm := 203) (n := 0) (idx := 251) (ci := 9) (mx := 2) (vs := []) (by decide +kernel) (by decide +kernel) rfl (by decide +kernel) rfl (by decide +kernel) (by decide +kernel)
theorem s252_61 : Rn 252 61 [l0, l1, l2, l3] (vI a :: st) T σ K ↔ Rn 252 62 [l0, l1, l2, some (vI a)] st T σ K := R_istore_n (n := 3) (by decide +kernel) rfl
theorem s252_62 : Rn 252 62 [some (vR o), l1, l2, l3] st T σ K ↔ Rn 252 63 [some (vR o), l1, l2, l3] (vR o :: st) T σ K := R_aload_n (n := 0) (by decide +kernel) rfl
theorem s252_63 : Rn 252 63 L (vR o :: st) T σ K ↔ (sx_kd T o = 9 ∧ st.length ≤ 4) ∧ Rn 258 0 [some (vR o), none] [] T σ (fun r T' σ' => Rn 252 66 L (sx_push r st) T' σ' K) := R_V (cm := 258) (n := 0) (idx := 331) (ci := 9) (mx := 2) (vs := []) (by decide +kernel) (by decide +kernel) rfl (by decide +kernel) rfl (by decide +kernel) (by decide +kernel)
theorem s252_66 : Rn 252 66 [l0, l1, l2, some (vI a)] st T σ K ↔ Rn 252 67 [l0, l1, l2, some (vI a)] (vI a :: st) T σ K := R_iload_n (n := 3) (by decide +kernel) rfl
theorem s252_67 : Rn 252 67 L [vI a] T σ K ↔ K (some (vI a)) T σ := R_ret (by decide +kernel) (by decide +kernel)
theorem s253_0 : Rn 253 0 L st T σ K ↔ Rn 253 1 L (vI 0 :: st) T σ K := R_iconst (n := 0) (by decide +kernel) (by decide)
theorem s253_1 : Rn 253 1 [l0, l1] (vI a :: st) T σ K ↔ Rn 253 2 [l0, some (vI a)] st T σ K := R_istore_n (n := 1) (by decide +kernel) rfl
theorem s253_2 : Rn 253 2 [l0, some (vI a)] st T σ K ↔ Rn 253 3 [l0, some (vI a)] (vI a :: st) T σ K := R_iload_n (n := 1) (by decide +kernel) rfl
theorem s253_3 : Rn 253 3 L st T σ K ↔ Rn 253 6 L (vI 481 :: st) T σ K := R_sipush (n := 481) (by decide +kernel) (by decide +kernel)
theorem s253_6 : Rn 253 6 L (vI b :: vI a :: st) T σ K ↔ (b ≤ a → Rn 253 27 L st T σ K) ∧ (a < b → Rn 253 9 L st T σ K) := R_icmp_ge (off := 21) (by decide +kernel) (by decide)
theorem s253_9 : Rn 253 9 [some (vR o), l1] st T σ K ↔ Rn 253 10 [some (vR o), l1] (vR o :: st) T σ K := R_aload_n (n := 0) (by decide +kernel) rfl
theorem s253_10 : Rn 253 10 L (vR o :: st) T σ K ↔ sx_kd T o = 9 ∧ ∃ t, sx_rf T o 2 = some t ∧ Rn 253 13 L (vR t :: st) T σ K := R_getR (idx := 16) (ci := 9) (k := 2) (by decide +kernel) (by decide +kernel) rfl
theorem s253_13 : Rn 253 13 [l0, some (vI a)] st T σ K ↔ Rn 253 14 [l0, some (vI a)] (vI a :: st) T σ K := R_iload_n (n := 1) (by decide +kernel) rfl
theorem s253_14 : Rn 253 14 [some (vR o), l1] st T σ K ↔ Rn 253 15 [some (vR o), l1] (vR o :: st) T σ K := R_aload_n (n := 0) (by decide +kernel) rfl
theorem s253_15 : Rn 253 15 L (vR o :: st) T σ K ↔ sx_kd T o = 9 ∧ ∃ t, sx_rf T o 0 = some t ∧ Rn 253 18 L (vR t :: st) T σ K := R_getR (idx := 7) (ci := 9) (k := 0) (by decide +kernel) (by decide +kernel) rfl
theorem s253_18 : Rn 253 18 [l0, some (vI a)] st T σ K ↔ Rn 253 19 [l0, some (vI a)] (vI a :: st) T σ K := R_iload_n (n := 1) (by decide +kernel) rfl
theorem s253_19 : Rn 253 19 L (vI a :: vR o :: st) T σ K ↔ (sx_kd T o = 20 ∧ 0 ≤ a ∧ a < sx_ln T o) ∧ Rn 253 20 L (vI (σ o a) :: st) T σ K := R_iald (by decide +kernel) (by decide)
theorem s253_20 : Rn 253 20 L (vI b :: vI a :: vR o :: st) T σ K ↔ (sx_kd T o = 20 ∧ 0 ≤ a ∧ a < sx_ln T o) ∧ Rn 253 21 L st T (sx_up σ o a b) K := R_iast (by decide +kernel)
theorem s253_21 : Rn 253 21 [l0, some (vI a)] st T σ K ↔ inI (a + 1) ∧ Rn 253 24 [l0, some (vI (a + 1))] st T σ K := R_iinc (n := 1) (d := 1) (by decide +kernel) rfl
theorem s253_24 : Rn 253 24 L st T σ K ↔ Rn 253 2 L st T σ K := R_goto (off := -22) (by decide +kernel) (by decide)
theorem s253_27 : Rn 253 27 L [] T σ K ↔ K none T σ := R_retV (by decide +kernel) (by decide +kernel)
theorem s254_0 : Rn 254 0 [some (vR o), l1, l2, l3, l4] st T σ K ↔ Rn 254 1 [some (vR o), l1, l2, l3, l4] (vR o :: st) T σ K := R_aload_n (n := 0) (by decide +kernel) rfl
theorem s254_1 : Rn 254 1 L (vR o :: st) T σ K ↔ sx_kd T o = 9 ∧ ∃ t, sx_rf T o 0 = some t ∧ Rn 254 4 L (vR t :: st) T σ K := R_getR (idx := 7) (ci := 9) (k := 0) (by decide +kernel) (by decide +kernel) rfl
theorem s254_4 : Rn 254 4 L st T σ K ↔ Rn 254 7 L (vI 160 :: st) T σ K := R_sipush (n := 160) (by decide +kernel) (by decide +kernel)
theorem s254_7 : Rn 254 7 [l0, some (vI a), l2, l3, l4] st T σ K ↔ Rn 254 8 [l0, some (vI a), l2, l3, l4] (vI a :: st) T σ K := R_iload_n (n := 1) (by decide +kernel) rfl
theorem s254_8 : Rn 254 8 L (vI b :: vI a :: st) T σ K ↔ inI (a + b) ∧ Rn 254 9 L (vI (a + b) :: st) T σ K := R_iadd (by decide +kernel)
theorem s254_9 : Rn 254 9 L (vI a :: vR o :: st) T σ K ↔ (sx_kd T o = 20 ∧ 0 ≤ a ∧ a < sx_ln T o) ∧ Rn 254 10 L (vI (σ o a) :: st) T σ K := R_iald (by decide +kernel) (by decide)
theorem s254_10 : Rn 254 10 L st T σ K ↔ Rn 254 12 L (vI 10 :: st) T σ K := R_bipush (n := 10) (by decide +kernel) (by decide +kernel)
theorem s254_12 : Rn 254 12 L (vI b :: vI a :: st) T σ K ↔ (a ≠ b → Rn 254 19 L st T σ K) ∧ (a = b → Rn 254 15 L st T σ K) := R_icmp_ne (off := 7) (by decide +kernel) (by decide)
theorem s254_15 : Rn 254 15 L st T σ K ↔ Rn 254 16 L (vI 1 :: st) T σ K := R_iconst (n := 1) (by decide +kernel) (by decide)
theorem s254_16 : Rn 254 16 L st T σ K ↔ Rn 254 20 L st T σ K := R_goto (off := 4) (by decide +kernel) (by decide)
theorem s254_19 : Rn 254 19 L st T σ K ↔ Rn 254 20 L (vI 0 :: st) T σ K := R_iconst (n := 0) (by decide +kernel) (by decide)
theorem s254_20 : Rn 254 20 [l0, l1, l2, l3, l4] (vI a :: st) T σ K ↔ Rn 254 21 [l0, l1, some (vI a), l3, l4] st T σ K := R_istore_n (n := 2) (by decide +kernel) rfl
theorem s254_21 : Rn 254 21 [some (vR o), l1, l2, l3, l4] st T σ K ↔ Rn 254 22 [some (vR o), l1, l2, l3, l4] (vR o :: st) T σ K := R_aload_n (n := 0) (by decide +kernel) rfl
theorem s254_22 : Rn 254 22 L (vR o :: st) T σ K ↔ sx_kd T o = 9 ∧ ∃ t, sx_rf T o 0 = some t ∧ Rn 254 25 L (vR t :: st) T σ K := R_getR (idx := 7) (ci := 9) (k := 0) (by decide +kernel) (by decide +kernel) rfl
theorem s254_25 : Rn 254 25 L st T σ K ↔ Rn 254 26 L (vI 0 :: st) T σ K := R_iconst (n := 0) (by decide +kernel) (by decide)
theorem s254_26 : Rn 254 26 [l0, some (vI a), l2, l3, l4] st T σ K ↔ Rn 254 27 [l0, some (vI a), l2, l3, l4] (vI a :: st) T σ K := R_iload_n (n := 1) (by decide +kernel) rfl
theorem s254_27 : Rn 254 27 L (vI b :: vI a :: st) T σ K ↔ inI (a + b) ∧ Rn 254 28 L (vI (a + b) :: st) T σ K := R_iadd (by decide +kernel)
theorem s254_28 : Rn 254 28 L st T σ K ↔ Rn 254 29 L (vI 0 :: st) T σ K := R_iconst (n := 0) (by decide +kernel) (by decide)
theorem s254_29 : Rn 254 29 L (vI b :: vI a :: vR o :: st) T σ K ↔ (sx_kd T o = 20 ∧ 0 ≤ a ∧ a < sx_ln T o) ∧ Rn 254 30 L st T (sx_up σ o a b) K := R_iast (by decide +kernel)
theorem s254_30 : Rn 254 30 L st T σ K ↔ Rn 254 31 L (vI 0 :: st) T σ K := R_iconst (n := 0) (by decide +kernel) (by decide)
theorem s254_31 : Rn 254 31 [l0, l1, l2, l3, l4] (vI a :: st) T σ K ↔ Rn 254 32 [l0, l1, l2, some (vI a), l4] st T σ K := R_istore_n (n := 3) (by decide +kernel) rfl
theorem s254_32 : Rn 254 32 [some (vR o), l1, l2, l3, l4] st T σ K ↔ Rn 254 33 [some (vR o), l1, l2, l3, l4] (vR o :: st) T σ K := R_aload_n (n := 0) (by decide +kernel) rfl
theorem s254_33 : Rn 254 33 [l0, some (vI a), l2, l3, l4] st T σ K ↔ Rn 254 34 [l0, some (vI a), l2, l3, l4] (vI a :: st) T σ K := R_iload_n (n := 1) (by decide +kernel) rfl
theorem s254_34 : Rn 254 34 L (vI a :: vR o :: st) T σ K ↔ (sx_kd T o = 9 ∧ st.length ≤ 4) ∧ Rn 255 0 [some (vR o), some (vI a), none, none, none] [] T σ (fun r T' σ' => Rn 254 37 L (sx_push r st) T' σ' K) := R_V (cm := 255) (n := 1) (idx := 241) (ci := 9) (mx := 5) (vs := [vI a]) (by decide +kernel) (by decide +kernel) rfl (by decide +kernel) rfl (by decide +kernel) (by decide +kernel)
theorem s254_37 : Rn 254 37 [l0, l1, l2, l3, l4] (vI a :: st) T σ K ↔ Rn 254 39 [l0, l1, l2, l3, some (vI a)] st T σ K := R_istore (n := 4) (by decide +kernel) rfl
theorem s254_39 : Rn 254 39 [l0, l1, l2, l3, some (vI a)] st T σ K ↔ Rn 254 41 [l0, l1, l2, l3, some (vI a)] (vI a :: st) T σ K := R_iload (n := 4) (by decide +kernel) rfl
theorem s254_41 : Rn 254 41 L st T σ K ↔ Rn 254 42 L (vI (-1) :: st) T σ K := R_iconst (n := -1) (by decide +kernel) (by decide)
theorem s254_42 : Rn 254 42 L (vI b :: vI a :: st) T σ K ↔ (a = b → Rn 254 79 L st T σ K) ∧ (a ≠ b → Rn 254 45 L st T σ K) := R_icmp_eq (off := 37) (by decide +kernel) (by decide)
theorem s254_45 : Rn 254 45 [some (vR o), l1, l2, l3, l4] st T σ K ↔ Rn 254 46 [some (vR o), l1, l2, l3, l4] (vR o :: st) T σ K := R_aload_n (n := 0) (by decide +kernel) rfl
theorem s254_46 : Rn 254 46 L (vR o :: st) T σ K ↔ sx_kd T o = 9 ∧ ∃ t, sx_rf T o 22 = some t ∧ Rn 254 49 L (vR t :: st) T σ K := R_getR (idx := 78) (ci := 9) (k := 22) (by decide +kernel) (by decide +kernel) rfl
theorem s254_49 : Rn 254 49 [l0, l1, l2, some (vI a), l4] st T σ K ↔ Rn 254 50 [l0, l1, l2, some (vI a), l4] (vI a :: st) T σ K := R_iload_n (n := 3) (by decide +kernel) rfl
theorem s254_50 : Rn 254 50 [l0, l1, l2, l3, some (vI a)] st T σ K ↔ Rn 254 52 [l0, l1, l2, l3, some (vI a)] (vI a :: st) T σ K := R_iload (n := 4) (by decide +kernel) rfl
theorem s254_52 : Rn 254 52 L (vI b :: vI a :: vR o :: st) T σ K ↔ (sx_kd T o = 20 ∧ 0 ≤ a ∧ a < sx_ln T o) ∧ Rn 254 53 L st T (sx_up σ o a b) K := R_iast (by decide +kernel)
theorem s254_53 : Rn 254 53 [l0, l1, l2, some (vI a), l4] st T σ K ↔ inI (a + 1) ∧ Rn 254 56 [l0, l1, l2, some (vI (a + 1)), l4] st T σ K := R_iinc (n := 3) (d := 1) (by decide +kernel) rfl
theorem s254_56 : Rn 254 56 [some (vR o), l1, l2, l3, l4] st T σ K ↔ Rn 254 57 [some (vR o), l1, l2, l3, l4] (vR o :: st) T σ K := R_aload_n (n := 0) (by decide +kernel) rfl
theorem s254_57 : Rn 254 57 L (vR o :: st) T σ K ↔ sx_kd T o = 9 ∧ ∃ t, sx_rf T o 0 = some t ∧ Rn 254 60 L (vR t :: st) T σ K := R_getR (idx := 7) (ci := 9) (k := 0) (by decide +kernel) (by decide +kernel) rfl
theorem s254_60 : Rn 254 60 L st T σ K ↔ Rn 254 63 L (vI 200 :: st) T σ K := R_sipush (n := 200) (by decide +kernel) (by decide +kernel)
theorem s254_63 : Rn 254 63 [l0, l1, l2, l3, some (vI a)] st T σ K ↔ Rn 254 65 [l0, l1, l2, l3, some (vI a)] (vI a :: st) T σ K := R_iload (n := 4) (by decide +kernel) rfl
theorem s254_65 : Rn 254 65 L (vI b :: vI a :: st) T σ K ↔ inI (a + b) ∧ Rn 254 66 L (vI (a + b) :: st) T σ K := R_iadd (by decide +kernel)
theorem s254_66 : Rn 254 66 L st T σ K ↔ Rn 254 68 L (vI 1000000 :: st) T σ K := R_ldcI (idx := 244) (v := 1000000) (by decide +kernel) (by decide +kernel) (by decide) rfl
theorem s254_68 : Rn 254 68 L (vI b :: vI a :: vR o :: st) T σ K ↔ (sx_kd T o = 20 ∧ 0 ≤ a ∧ a < sx_ln T o) ∧ Rn 254 69 L st T (sx_up σ o a b) K := R_iast (by decide +kernel)
theorem s254_69 : Rn 254 69 [some (vR o), l1, l2, l3, l4] st T σ K ↔ Rn 254 70 [some (vR o), l1, l2, l3, l4] (vR o :: st) T σ K := R_aload_n (n := 0) (by decide +kernel) rfl
theorem s254_70 : Rn 254 70 [l0, some (vI a), l2, l3, l4] st T σ K ↔ Rn 254 71 [l0, some (vI a), l2, l3, l4] (vI a :: st) T σ K := R_iload_n (n := 1) (by decide +kernel) rfl
theorem s254_71 : Rn 254 71 L (vI a :: vR o :: st) T σ K ↔ (sx_kd T o = 9 ∧ st.length ≤ 4) ∧ Rn 255 0 [some (vR o), some (vI a), none, none, none] [] T σ (fun r T' σ' => Rn 254 74 L (sx_push r st) T' σ' K) := R_V (cm := 255) (n := 1) (idx := 241) (ci := 9) (mx := 5) (vs := [vI a]) (by decide +kernel) (by decide +kernel) rfl (by decide +kernel) rfl (by decide +kernel) (by decide +kernel)
theorem s254_74 : Rn 254 74 [l0, l1, l2, l3, l4] (vI a :: st) T σ K ↔ Rn 254 76 [l0, l1, l2, l3, some (vI a)] st T σ K := R_istore (n := 4) (by decide +kernel) rfl
theorem s254_76 : Rn 254 76 L st T σ K ↔ Rn 254 39 L st T σ K := R_goto (off := -37) (by decide +kernel) (by decide)
theorem s254_79 : Rn 254 79 L st T σ K ↔ Rn 254 80 L (vI 0 :: st) T σ K := R_iconst (n := 0) (by decide +kernel) (by decide)
theorem s254_80 : Rn 254 80 [l0, l1, l2, l3, l4] (vI a :: st) T σ K ↔ Rn 254 82 [l0, l1, l2, l3, some (vI a)] st T σ K := R_istore (n := 4) (by decide +kernel) rfl
theorem s254_82 : Rn 254 82 [l0, l1, l2, l3, some (vI a)] st T σ K ↔ Rn 254 84 [l0, l1, l2, l3, some (vI a)] (vI a :: st) T σ K := R_iload (n := 4) (by decide +kernel) rfl
theorem s254_84 : Rn 254 84 [l0, l1, l2, some (vI a), l4] st T σ K ↔ Rn 254 85 [l0, l1, l2, some (vI a), l4] (vI a :: st) T σ K := R_iload_n (n := 3) (by decide +kernel) rfl
theorem s254_85 : Rn 254 85 L (vI b :: vI a :: st) T σ K ↔ (b ≤ a → Rn 254 150 L st T σ K) ∧ (a < b → Rn 254 88 L st T σ K) := R_icmp_ge (off := 65) (by decide +kernel) (by decide)
theorem s254_88 : Rn 254 88 [l0, l1, l2, l3, some (vI a)] st T σ K ↔ Rn 254 90 [l0, l1, l2, l3, some (vI a)] (vI a :: st) T σ K := R_iload (n := 4) (by decide +kernel) rfl
theorem s254_90 : Rn 254 90 L (vI a :: st) T σ K ↔ (0 < a → Rn 254 97 L st T σ K) ∧ (a ≤ 0 → Rn 254 93 L st T σ K) := R_if_gt (off := 7) (by decide +kernel) (by decide)
theorem s254_93 : Rn 254 93 [l0, l1, some (vI a), l3, l4] st T σ K ↔ Rn 254 94 [l0, l1, some (vI a), l3, l4] (vI a :: st) T σ K := R_iload_n (n := 2) (by decide +kernel) rfl
theorem s254_94 : Rn 254 94 L (vI a :: st) T σ K ↔ (a ≠ 0 → Rn 254 111 L st T σ K) ∧ (a = 0 → Rn 254 97 L st T σ K) := R_if_ne (off := 17) (by decide +kernel) (by decide)
theorem s254_97 : Rn 254 97 [some (vR o), l1, l2, l3, l4] st T σ K ↔ Rn 254 98 [some (vR o), l1, l2, l3, l4] (vR o :: st) T σ K := R_aload_n (n := 0) (by decide +kernel) rfl
theorem s254_98 : Rn 254 98 [some (vR o), l1, l2, l3, l4] st T σ K ↔ Rn 254 99 [some (vR o), l1, l2, l3, l4] (vR o :: st) T σ K := R_aload_n (n := 0) (by decide +kernel) rfl
theorem s254_99 : Rn 254 99 L (vR o :: st) T σ K ↔ sx_kd T o = 9 ∧ ∃ t, sx_rf T o 22 = some t ∧ Rn 254 102 L (vR t :: st) T σ K := R_getR (idx := 78) (ci := 9) (k := 22) (by decide +kernel) (by decide +kernel) rfl
theorem s254_102 : Rn 254 102 [l0, l1, l2, l3, some (vI a)] st T σ K ↔ Rn 254 104 [l0, l1, l2, l3, some (vI a)] (vI a :: st) T σ K := R_iload (n := 4) (by decide +kernel) rfl
theorem s254_104 : Rn 254 104 L (vI a :: vR o :: st) T σ K ↔ (sx_kd T o = 20 ∧ 0 ≤ a ∧ a < sx_ln T o) ∧ Rn 254 105 L (vI (σ o a) :: st) T σ K := R_iald (by decide +kernel) (by decide)
theorem s254_105 : Rn 254 105 L (vI a :: vR o :: st) T σ K ↔ (sx_kd T o = 9 ∧ st.length ≤ 4) ∧ Rn 256 0 [some (vR o), some (vI a), none] [] T σ (fun r T' σ' => Rn 254 108 L (sx_push r st) T' σ' K) := R_V (cm := 256) (n := 1) (idx := 245) (ci := 9) (mx := 3) (vs := [vI a]) (by decide +kernel) (by decide +kernel) rfl (by decide +kernel) rfl (by decide +kernel) (by decide +kernel)
theorem s254_108 : Rn 254 108 L st T σ K ↔ Rn 254 144 L st T σ K := R_goto (off := 36) (by decide +kernel) (by decide)
theorem s254_111 : Rn 254 111 [some (vR o), l1, l2, l3, l4] st T σ K ↔ Rn 254 112 [some (vR o), l1, l2, l3, l4] (vR o :: st) T σ K := R_aload_n (n := 0) (by decide +kernel) rfl
theorem s254_112 : Rn 254 112 L (vR o :: st) T σ K ↔ sx_kd T o = 9 ∧ ∃ t, sx_rf T o 0 = some t ∧ Rn 254 115 L (vR t :: st) T σ K := R_getR (idx := 7) (ci := 9) (k := 0) (by decide +kernel) (by decide +kernel) rfl
theorem s254_115 : Rn 254 115 L st T σ K ↔ Rn 254 118 L (vI 160 :: st) T σ K := R_sipush (n := 160) (by decide +kernel) (by decide +kernel)
theorem s254_118 : Rn 254 118 [some (vR o), l1, l2, l3, l4] st T σ K ↔ Rn 254 119 [some (vR o), l1, l2, l3, l4] (vR o :: st) T σ K := R_aload_n (n := 0) (by decide +kernel) rfl
theorem s254_119 : Rn 254 119 L (vR o :: st) T σ K ↔ sx_kd T o = 9 ∧ ∃ t, sx_rf T o 22 = some t ∧ Rn 254 122 L (vR t :: st) T σ K := R_getR (idx := 78) (ci := 9) (k := 22) (by decide +kernel) (by decide +kernel) rfl
theorem s254_122 : Rn 254 122 L st T σ K ↔ Rn 254 123 L (vI 0 :: st) T σ K := R_iconst (n := 0) (by decide +kernel) (by decide)
theorem s254_123 : Rn 254 123 L (vI a :: vR o :: st) T σ K ↔ (sx_kd T o = 20 ∧ 0 ≤ a ∧ a < sx_ln T o) ∧ Rn 254 124 L (vI (σ o a) :: st) T σ K := R_iald (by decide +kernel) (by decide)
theorem s254_124 : Rn 254 124 L (vI b :: vI a :: st) T σ K ↔ inI (a + b) ∧ Rn 254 125 L (vI (a + b) :: st) T σ K := R_iadd (by decide +kernel)
theorem s254_125 : Rn 254 125 L st T σ K ↔ Rn 254 127 L (vI 10 :: st) T σ K := R_bipush (n := 10) (by decide +kernel) (by decide +kernel)
theorem s254_127 : Rn 254 127 L (vI b :: vI a :: vR o :: st) T σ K ↔ (sx_kd T o = 20 ∧ 0 ≤ a ∧ a < sx_ln T o) ∧ Rn 254 128 L st T (sx_up σ o a b) K := R_iast (by decide +kernel)
theorem s254_128 : Rn 254 128 [some (vR o), l1, l2, l3, l4] st T σ K ↔ Rn 254 129 [some (vR o), l1, l2, l3, l4] (vR o :: st) T σ K := R_aload_n (n := 0) (by decide +kernel) rfl
theorem s254_129 : Rn 254 129 L (vR o :: st) T σ K ↔ sx_kd T o = 9 ∧ ∃ t, sx_rf T o 0 = some t ∧ Rn 254 132 L (vR t :: st) T σ K := R_getR (idx := 7) (ci := 9) (k := 0) (by decide +kernel) (by decide +kernel) rfl
theorem s254_132 : Rn 254 132 L st T σ K ↔ Rn 254 135 L (vI 200 :: st) T σ K := R_sipush (n := 200) (by decide +kernel) (by decide +kernel)
theorem s254_135 : Rn 254 135 [some (vR o), l1, l2, l3, l4] st T σ K ↔ Rn 254 136 [some (vR o), l1, l2, l3, l4] (vR o :: st) T σ K := R_aload_n (n := 0) (by decide +kernel) rfl
theorem s254_136 : Rn 254 136 L (vR o :: st) T σ K ↔ sx_kd T o = 9 ∧ ∃ t, sx_rf T o 22 = some t ∧ Rn 254 139 L (vR t :: st) T σ K := R_getR (idx := 78) (ci := 9) (k := 22) (by decide +kernel) (by decide +kernel) rfl
theorem s254_139 : Rn 254 139 L st T σ K ↔ Rn 254 140 L (vI 0 :: st) T σ K := R_iconst (n := 0) (by decide +kernel) (by decide)
theorem s254_140 : Rn 254 140 L (vI a :: vR o :: st) T σ K ↔ (sx_kd T o = 20 ∧ 0 ≤ a ∧ a < sx_ln T o) ∧ Rn 254 141 L (vI (σ o a) :: st) T σ K := R_iald (by decide +kernel) (by decide)
theorem s254_141 : Rn 254 141 L (vI b :: vI a :: st) T σ K ↔ inI (a + b) ∧ Rn 254 142 L (vI (a + b) :: st) T σ K := R_iadd (by decide +kernel)
theorem s254_142 : Rn 254 142 L st T σ K ↔ Rn 254 143 L (vI (-1) :: st) T σ K := R_iconst (n := -1) (by decide +kernel) (by decide)
theorem s254_143 : Rn 254 143 L (vI b :: vI a :: vR o :: st) T σ K ↔ (sx_kd T o = 20 ∧ 0 ≤ a ∧ a < sx_ln T o) ∧ Rn 254 144 L st T (sx_up σ o a b) K := R_iast (by decide +kernel)
theorem s254_144 : Rn 254 144 [l0, l1, l2, l3, some (vI a)] st T σ K ↔ inI (a + 1) ∧ Rn 254 147 [l0, l1, l2, l3, some (vI (a + 1))] st T σ K := R_iinc (n := 4) (d := 1) (by decide +kernel) rfl
theorem s254_147 : Rn 254 147 L st T σ K ↔ Rn 254 82 L st T σ K := R_goto (off := -65) (by decide +kernel) (by decide)
theorem s254_150 : Rn 254 150 L [] T σ K ↔ K none T σ := R_retV (by decide +kernel) (by decide +kernel)
theorem s255_0 : Rn 255 0 L st T σ K ↔ Rn 255 1 L (vI (-1) :: st) T σ K := R_iconst (n := -1) (by decide +kernel) (by decide)
theorem s255_1 : Rn 255 1 [l0, l1, l2, l3, l4] (vI a :: st) T σ K ↔ Rn 255 2 [l0, l1, some (vI a), l3, l4] st T σ K := R_istore_n (n := 2) (by decide +kernel) rfl
theorem s255_2 : Rn 255 2 L st T σ K ↔ Rn 255 3 L (vI 0 :: st) T σ K := R_iconst (n := 0) (by decide +kernel) (by decide)
theorem s255_3 : Rn 255 3 [l0, l1, l2, l3, l4] (vI a :: st) T σ K ↔ Rn 255 4 [l0, l1, l2, some (vI a), l4] st T σ K := R_istore_n (n := 3) (by decide +kernel) rfl
theorem s255_4 : Rn 255 4 [l0, l1, l2, some (vI a), l4] st T σ K ↔ Rn 255 5 [l0, l1, l2, some (vI a), l4] (vI a :: st) T σ K := R_iload_n (n := 3) (by decide +kernel) rfl
theorem s255_5 : Rn 255 5 L st T σ K ↔ Rn 255 7 L (vI 40 :: st) T σ K := R_bipush (n := 40) (by decide +kernel) (by decide +kernel)
theorem s255_7 : Rn 255 7 L (vI b :: vI a :: st) T σ K ↔ (b ≤ a → Rn 255 99 L st T σ K) ∧ (a < b → Rn 255 10 L st T σ K) := R_icmp_ge (off := 92) (by decide +kernel) (by decide)
theorem s255_10 : Rn 255 10 [some (vR o), l1, l2, l3, l4] st T σ K ↔ Rn 255 11 [some (vR o), l1, l2, l3, l4] (vR o :: st) T σ K := R_aload_n (n := 0) (by decide +kernel) rfl
theorem s255_11 : Rn 255 11 L (vR o :: st) T σ K ↔ sx_kd T o = 9 ∧ ∃ t, sx_rf T o 0 = some t ∧ Rn 255 14 L (vR t :: st) T σ K := R_getR (idx := 7) (ci := 9) (k := 0) (by decide +kernel) (by decide +kernel) rfl
theorem s255_14 : Rn 255 14 L st T σ K ↔ Rn 255 15 L (vI 0 :: st) T σ K := R_iconst (n := 0) (by decide +kernel) (by decide)
theorem s255_15 : Rn 255 15 [l0, l1, l2, some (vI a), l4] st T σ K ↔ Rn 255 16 [l0, l1, l2, some (vI a), l4] (vI a :: st) T σ K := R_iload_n (n := 3) (by decide +kernel) rfl
theorem s255_16 : Rn 255 16 L (vI b :: vI a :: st) T σ K ↔ inI (a + b) ∧ Rn 255 17 L (vI (a + b) :: st) T σ K := R_iadd (by decide +kernel)
theorem s255_17 : Rn 255 17 L (vI a :: vR o :: st) T σ K ↔ (sx_kd T o = 20 ∧ 0 ≤ a ∧ a < sx_ln T o) ∧ Rn 255 18 L (vI (σ o a) :: st) T σ K := R_iald (by decide +kernel) (by decide)
theorem s255_18 : Rn 255 18 L st T σ K ↔ Rn 255 19 L (vI 1 :: st) T σ K := R_iconst (n := 1) (by decide +kernel) (by decide)
theorem s255_19 : Rn 255 19 L (vI b :: vI a :: st) T σ K ↔ (a ≠ b → Rn 255 55 L st T σ K) ∧ (a = b → Rn 255 22 L st T σ K) := R_icmp_ne (off := 36) (by decide +kernel) (by decide)
theorem s255_22 : Rn 255 22 [some (vR o), l1, l2, l3, l4] st T σ K ↔ Rn 255 23 [some (vR o), l1, l2, l3, l4] (vR o :: st) T σ K := R_aload_n (n := 0) (by decide +kernel) rfl
theorem s255_23 : Rn 255 23 L (vR o :: st) T σ K ↔ sx_kd T o = 9 ∧ ∃ t, sx_rf T o 0 = some t ∧ Rn 255 26 L (vR t :: st) T σ K := R_getR (idx := 7) (ci := 9) (k := 0) (by decide +kernel) (by decide +kernel) rfl
theorem s255_26 : Rn 255 26 L st T σ K ↔ Rn 255 29 L (vI 160 :: st) T σ K := R_sipush (n := 160) (by decide +kernel) (by decide +kernel)
theorem s255_29 : Rn 255 29 [l0, l1, l2, some (vI a), l4] st T σ K ↔ Rn 255 30 [l0, l1, l2, some (vI a), l4] (vI a :: st) T σ K := R_iload_n (n := 3) (by decide +kernel) rfl
theorem s255_30 : Rn 255 30 L (vI b :: vI a :: st) T σ K ↔ inI (a + b) ∧ Rn 255 31 L (vI (a + b) :: st) T σ K := R_iadd (by decide +kernel)
theorem s255_31 : Rn 255 31 L (vI a :: vR o :: st) T σ K ↔ (sx_kd T o = 20 ∧ 0 ≤ a ∧ a < sx_ln T o) ∧ Rn 255 32 L (vI (σ o a) :: st) T σ K := R_iald (by decide +kernel) (by decide)
theorem s255_32 : Rn 255 32 L st T σ K ↔ Rn 255 34 L (vI 10 :: st) T σ K := R_bipush (n := 10) (by decide +kernel) (by decide +kernel)
theorem s255_34 : Rn 255 34 L (vI b :: vI a :: st) T σ K ↔ (b ≤ a → Rn 255 55 L st T σ K) ∧ (a < b → Rn 255 37 L st T σ K) := R_icmp_ge (off := 21) (by decide +kernel) (by decide)
theorem s255_37 : Rn 255 37 [some (vR o), l1, l2, l3, l4] st T σ K ↔ Rn 255 38 [some (vR o), l1, l2, l3, l4] (vR o :: st) T σ K := R_aload_n (n := 0) (by decide +kernel) rfl
theorem s255_38 : Rn 255 38 L (vR o :: st) T σ K ↔ sx_kd T o = 9 ∧ ∃ t, sx_rf T o 0 = some t ∧ Rn 255 41 L (vR t :: st) T σ K := R_getR (idx := 7) (ci := 9) (k := 0) (by decide +kernel) (by decide +kernel) rfl
theorem s255_41 : Rn 255 41 L st T σ K ↔ Rn 255 44 L (vI 200 :: st) T σ K := R_sipush (n := 200) (by decide +kernel) (by decide +kernel)
theorem s255_44 : Rn 255 44 [l0, l1, l2, some (vI a), l4] st T σ K ↔ Rn 255 45 [l0, l1, l2, some (vI a), l4] (vI a :: st) T σ K := R_iload_n (n := 3) (by decide +kernel) rfl
theorem s255_45 : Rn 255 45 L (vI b :: vI a :: st) T σ K ↔ inI (a + b) ∧ Rn 255 46 L (vI (a + b) :: st) T σ K := R_iadd (by decide +kernel)
theorem s255_46 : Rn 255 46 L (vI a :: vR o :: st) T σ K ↔ (sx_kd T o = 20 ∧ 0 ≤ a ∧ a < sx_ln T o) ∧ Rn 255 47 L (vI (σ o a) :: st) T σ K := R_iald (by decide +kernel) (by decide)
theorem s255_47 : Rn 255 47 [l0, some (vI a), l2, l3, l4] st T σ K ↔ Rn 255 48 [l0, some (vI a), l2, l3, l4] (vI a :: st) T σ K := R_iload_n (n := 1) (by decide +kernel) rfl
theorem s255_48 : Rn 255 48 L (vI b :: vI a :: st) T σ K ↔ (a ≠ b → Rn 255 55 L st T σ K) ∧ (a = b → Rn 255 51 L st T σ K) := R_icmp_ne (off := 7) (by decide +kernel) (by decide)
theorem s255_51 : Rn 255 51 L st T σ K ↔ Rn 255 52 L (vI 1 :: st) T σ K := R_iconst (n := 1) (by decide +kernel) (by decide)
theorem s255_52 : Rn 255 52 L st T σ K ↔ Rn 255 56 L st T σ K := R_goto (off := 4) (by decide +kernel) (by decide)
theorem s255_55 : Rn 255 55 L st T σ K ↔ Rn 255 56 L (vI 0 :: st) T σ K := R_iconst (n := 0) (by decide +kernel) (by decide)
theorem s255_56 : Rn 255 56 [l0, l1, l2, l3, l4] (vI a :: st) T σ K ↔ Rn 255 58 [l0, l1, l2, l3, some (vI a)] st T σ K := R_istore (n := 4) (by decide +kernel) rfl
theorem s255_58 : Rn 255 58 [l0, l1, l2, l3, some (vI a)] st T σ K ↔ Rn 255 60 [l0, l1, l2, l3, some (vI a)] (vI a :: st) T σ K := R_iload (n := 4) (by decide +kernel) rfl
theorem s255_60 : Rn 255 60 L (vI a :: st) T σ K ↔ (a = 0 → Rn 255 93 L st T σ K) ∧ (a ≠ 0 → Rn 255 63 L st T σ K) := R_if_eq (off := 33) (by decide +kernel) (by decide)
theorem s255_63 : Rn 255 63 [l0, l1, some (vI a), l3, l4] st T σ K ↔ Rn 255 64 [l0, l1, some (vI a), l3, l4] (vI a :: st) T σ K := R_iload_n (n := 2) (by decide +kernel) rfl
theorem s255_64 : Rn 255 64 L st T σ K ↔ Rn 255 65 L (vI (-1) :: st) T σ K := R_iconst (n := -1) (by decide +kernel) (by decide)
theorem s255_65 : Rn 255 65 L (vI b :: vI a :: st) T σ K ↔ (a = b → Rn 255 91 L st T σ K) ∧ (a ≠ b → Rn 255 68 L st T σ K) := R_icmp_eq (off := 26) (by decide +kernel) (by decide)
theorem s255_68 : Rn 255 68 [some (vR o), l1, l2, l3, l4] st T σ K ↔ Rn 255 69 [some (vR o), l1, l2, l3, l4] (vR o :: st) T σ K := R_aload_n (n := 0) (by decide +kernel) rfl
theorem s255_69 : Rn 255 69 L (vR o :: st) T σ K ↔ sx_kd T o = 9 ∧ ∃ t, sx_rf T o 0 = some t ∧ Rn 255 72 L (vR t :: st) T σ K := R_getR (idx := 7) (ci := 9) (k := 0) (by decide +kernel) (by decide +kernel) rfl
theorem s255_72 : Rn 255 72 L st T σ K ↔ Rn 255 75 L (vI 160 :: st) T σ K := R_sipush (n := 160) (by decide +kernel) (by decide +kernel)
theorem s255_75 : Rn 255 75 [l0, l1, l2, some (vI a), l4] st T σ K ↔ Rn 255 76 [l0, l1, l2, some (vI a), l4] (vI a :: st) T σ K := R_iload_n (n := 3) (by decide +kernel) rfl
theorem s255_76 : Rn 255 76 L (vI b :: vI a :: st) T σ K ↔ inI (a + b) ∧ Rn 255 77 L (vI (a + b) :: st) T σ K := R_iadd (by decide +kernel)
theorem s255_77 : Rn 255 77 L (vI a :: vR o :: st) T σ K ↔ (sx_kd T o = 20 ∧ 0 ≤ a ∧ a < sx_ln T o) ∧ Rn 255 78 L (vI (σ o a) :: st) T σ K := R_iald (by decide +kernel) (by decide)
theorem s255_78 : Rn 255 78 [some (vR o), l1, l2, l3, l4] st T σ K ↔ Rn 255 79 [some (vR o), l1, l2, l3, l4] (vR o :: st) T σ K := R_aload_n (n := 0) (by decide +kernel) rfl
theorem s255_79 : Rn 255 79 L (vR o :: st) T σ K ↔ sx_kd T o = 9 ∧ ∃ t, sx_rf T o 0 = some t ∧ Rn 255 82 L (vR t :: st) T σ K := R_getR (idx := 7) (ci := 9) (k := 0) (by decide +kernel) (by decide +kernel) rfl
theorem s255_82 : Rn 255 82 L st T σ K ↔ Rn 255 85 L (vI 160 :: st) T σ K := R_sipush (n := 160) (by decide +kernel) (by decide +kernel)
theorem s255_85 : Rn 255 85 [l0, l1, some (vI a), l3, l4] st T σ K ↔ Rn 255 86 [l0, l1, some (vI a), l3, l4] (vI a :: st) T σ K := R_iload_n (n := 2) (by decide +kernel) rfl
theorem s255_86 : Rn 255 86 L (vI b :: vI a :: st) T σ K ↔ inI (a + b) ∧ Rn 255 87 L (vI (a + b) :: st) T σ K := R_iadd (by decide +kernel)
theorem s255_87 : Rn 255 87 L (vI a :: vR o :: st) T σ K ↔ (sx_kd T o = 20 ∧ 0 ≤ a ∧ a < sx_ln T o) ∧ Rn 255 88 L (vI (σ o a) :: st) T σ K := R_iald (by decide +kernel) (by decide)
theorem s255_88 : Rn 255 88 L (vI b :: vI a :: st) T σ K ↔ (a ≤ b → Rn 255 93 L st T σ K) ∧ (b < a → Rn 255 91 L st T σ K) := R_icmp_le (off := 5) (by decide +kernel) (by decide)
theorem s255_91 : Rn 255 91 [l0, l1, l2, some (vI a), l4] st T σ K ↔ Rn 255 92 [l0, l1, l2, some (vI a), l4] (vI a :: st) T σ K := R_iload_n (n := 3) (by decide +kernel) rfl
theorem s255_92 : Rn 255 92 [l0, l1, l2, l3, l4] (vI a :: st) T σ K ↔ Rn 255 93 [l0, l1, some (vI a), l3, l4] st T σ K := R_istore_n (n := 2) (by decide +kernel) rfl
theorem s255_93 : Rn 255 93 [l0, l1, l2, some (vI a), l4] st T σ K ↔ inI (a + 1) ∧ Rn 255 96 [l0, l1, l2, some (vI (a + 1)), l4] st T σ K := R_iinc (n := 3) (d := 1) (by decide +kernel) rfl
theorem s255_96 : Rn 255 96 L st T σ K ↔ Rn 255 4 L st T σ K := R_goto (off := -92) (by decide +kernel) (by decide)
theorem s255_99 : Rn 255 99 [l0, l1, some (vI a), l3, l4] st T σ K ↔ Rn 255 100 [l0, l1, some (vI a), l3, l4] (vI a :: st) T σ K := R_iload_n (n := 2) (by decide +kernel) rfl
theorem s255_100 : Rn 255 100 L [vI a] T σ K ↔ K (some (vI a)) T σ := R_ret (by decide +kernel) (by decide +kernel)
theorem s256_0 : Rn 256 0 [some (vR o), l1, l2] st T σ K ↔ Rn 256 1 [some (vR o), l1, l2] (vR o :: st) T σ K := R_aload_n (n := 0) (by decide +kernel) rfl
theorem s256_1 : Rn 256 1 [some (vR o), l1, l2] st T σ K ↔ Rn 256 2 [some (vR o), l1, l2] (vR o :: st) T σ K := R_aload_n (n := 0) (by decide +kernel) rfl
theorem s256_2 : Rn 256 2 L (vR o :: st) T σ K ↔ sx_kd T o = 9 ∧ ∃ t, sx_rf T o 0 = some t ∧ Rn 256 5 L (vR t :: st) T σ K := R_getR (idx := 7) (ci := 9) (k := 0) (by decide +kernel) (by decide +kernel) rfl
theorem s256_5 : Rn 256 5 L st T σ K ↔ Rn 256 8 L (vI 160 :: st) T σ K := R_sipush (n := 160) (by decide +kernel) (by decide +kernel)
theorem s256_8 : Rn 256 8 [l0, some (vI a), l2] st T σ K ↔ Rn 256 9 [l0, some (vI a), l2] (vI a :: st) T σ K := R_iload_n (n := 1) (by decide +kernel) rfl
theorem s256_9 : Rn 256 9 L (vI b :: vI a :: st) T σ K ↔ inI (a + b) ∧ Rn 256 10 L (vI (a + b) :: st) T σ K := R_iadd (by decide +kernel)
theorem s256_10 : Rn 256 10 L (vI a :: vR o :: st) T σ K ↔ (sx_kd T o = 20 ∧ 0 ≤ a ∧ a < sx_ln T o) ∧ Rn 256 11 L (vI (σ o a) :: st) T σ K := R_iald (by decide +kernel) (by decide)
theorem s256_11 : Rn 256 11 L st T σ K ↔ Rn 256 12 L (vI 1 :: st) T σ K := R_iconst (n := 1) (by decide +kernel) (by decide)
theorem s256_12 : Rn 256 12 L (vI b :: vI a :: st) T σ K ↔ inI (a + b) ∧ Rn 256 13 L (vI (a + b) :: st) T σ K := R_iadd (by decide +kernel)
theorem s256_13 : Rn 256 13 [some (vR o), l1, l2] st T σ K ↔ Rn 256 14 [some (vR o), l1, l2] (vR o :: st) T σ K := R_aload_n (n := 0) (by decide +kernel) rfl
theorem s256_14 : Rn 256 14 L (vR o :: st) T σ K ↔ sx_kd T o = 9 ∧ ∃ t, sx_rf T o 0 = some t ∧ Rn 256 17 L (vR t :: st) T σ K := R_getR (idx := 7) (ci := 9) (k := 0) (by decide +kernel) (by decide +kernel) rfl
theorem s256_17 : Rn 256 17 L st T σ K ↔ Rn 256 19 L (vI 40 :: st) T σ K := R_bipush (n := 40) (by decide +kernel) (by decide +kernel)
theorem s256_19 : Rn 256 19 [l0, some (vI a), l2] st T σ K ↔ Rn 256 20 [l0, some (vI a), l2] (vI a :: st) T σ K := R_iload_n (n := 1) (by decide +kernel) rfl
theorem s256_20 : Rn 256 20 L (vI b :: vI a :: st) T σ K ↔ inI (a + b) ∧ Rn 256 21 L (vI (a + b) :: st) T σ K := R_iadd (by decide +kernel)
theorem s256_21 : Rn 256 21 L (vI a :: vR o :: st) T σ K ↔ (sx_kd T o = 20 ∧ 0 ≤ a ∧ a < sx_ln T o) ∧ Rn 256 22 L (vI (σ o a) :: st) T σ K := R_iald (by decide +kernel) (by decide)
theorem s256_22 : Rn 256 22 [some (vR o), l1, l2] st T σ K ↔ Rn 256 23 [some (vR o), l1, l2] (vR o :: st) T σ K := R_aload_n (n := 0) (by decide +kernel) rfl
theorem s256_23 : Rn 256 23 L (vR o :: st) T σ K ↔ sx_kd T o = 9 ∧ ∃ t, sx_rf T o 0 = some t ∧ Rn 256 26 L (vR t :: st) T σ K := R_getR (idx := 7) (ci := 9) (k := 0) (by decide +kernel) (by decide +kernel) rfl
theorem s256_26 : Rn 256 26 L st T σ K ↔ Rn 256 28 L (vI 80 :: st) T σ K := R_bipush (n := 80) (by decide +kernel) (by decide +kernel)
theorem s256_28 : Rn 256 28 [l0, some (vI a), l2] st T σ K ↔ Rn 256 29 [l0, some (vI a), l2] (vI a :: st) T σ K := R_iload_n (n := 1) (by decide +kernel) rfl
theorem s256_29 : Rn 256 29 L (vI b :: vI a :: st) T σ K ↔ inI (a + b) ∧ Rn 256 30 L (vI (a + b) :: st) T σ K := R_iadd (by decide +kernel)
theorem s256_30 : Rn 256 30 L (vI a :: vR o :: st) T σ K ↔ (sx_kd T o = 20 ∧ 0 ≤ a ∧ a < sx_ln T o) ∧ Rn 256 31 L (vI (σ o a) :: st) T σ K := R_iald (by decide +kernel) (by decide)
theorem s256_31 : Rn 256 31 [some (vR o), l1, l2] st T σ K ↔ Rn 256 32 [some (vR o), l1, l2] (vR o :: st) T σ K := R_aload_n (n := 0) (by decide +kernel) rfl
theorem s256_32 : Rn 256 32 L (vR o :: st) T σ K ↔ sx_kd T o = 9 ∧ ∃ t, sx_rf T o 0 = some t ∧ Rn 256 35 L (vR t :: st) T σ K := R_getR (idx := 7) (ci := 9) (k := 0) (by decide +kernel) (by decide +kernel) rfl
theorem s256_35 : Rn 256 35 L st T σ K ↔ Rn 256 37 L (vI 120 :: st) T σ K := R_bipush (n := 120) (by decide +kernel) (by decide +kernel)
theorem s256_37 : Rn 256 37 [l0, some (vI a), l2] st T σ K ↔ Rn 256 38 [l0, some (vI a), l2] (vI a :: st) T σ K := R_iload_n (n := 1) (by decide +kernel) rfl
theorem s256_38 : Rn 256 38 L (vI b :: vI a :: st) T σ K ↔ inI (a + b) ∧ Rn 256 39 L (vI (a + b) :: st) T σ K := R_iadd (by decide +kernel)
theorem s256_39 : Rn 256 39 L (vI a :: vR o :: st) T σ K ↔ (sx_kd T o = 20 ∧ 0 ≤ a ∧ a < sx_ln T o) ∧ Rn 256 40 L (vI (σ o a) :: st) T σ K := R_iald (by decide +kernel) (by decide)
theorem s256_40 : Rn 256 40 L (vI d :: vI c :: vI b :: vI a :: vR o :: st) T σ K ↔ (sx_kd T o = 9 ∧ st.length ≤ 4) ∧ Rn 193 0 [some (vR o), some (vI a), some (vI b), some (vI c), some (vI d), none, none] [] T σ (fun r T' σ' => Rn 256 43 L (sx_push r st) T' σ' K) := R_V (cm := 193) (n := 4) (idx := 231) (ci := 9) (mx := 7) (vs := [vI a, vI b, vI c, vI d]) (by decide +kernel) (by decide +kernel) rfl (by decide +kernel) rfl (by decide +kernel) (by decide +kernel)
theorem s256_43 : Rn 256 43 [l0, l1, l2] (vI a :: st) T σ K ↔ Rn 256 44 [l0, l1, some (vI a)] st T σ K := R_istore_n (n := 2) (by decide +kernel) rfl
theorem s256_44 : Rn 256 44 [l0, l1, some (vI a)] st T σ K ↔ Rn 256 45 [l0, l1, some (vI a)] (vI a :: st) T σ K := R_iload_n (n := 2) (by decide +kernel) rfl
theorem s256_45 : Rn 256 45 L st T σ K ↔ Rn 256 46 L (vI (-1) :: st) T σ K := R_iconst (n := -1) (by decide +kernel) (by decide)
theorem s256_46 : Rn 256 46 L (vI b :: vI a :: st) T σ K ↔ (a = b → Rn 256 70 L st T σ K) ∧ (a ≠ b → Rn 256 49 L st T σ K) := R_icmp_eq (off := 24) (by decide +kernel) (by decide)
theorem s256_49 : Rn 256 49 [some (vR o), l1, l2] st T σ K ↔ Rn 256 50 [some (vR o), l1, l2] (vR o :: st) T σ K := R_aload_n (n := 0) (by decide +kernel) rfl
theorem s256_50 : Rn 256 50 [l0, l1, some (vI a)] st T σ K ↔ Rn 256 51 [l0, l1, some (vI a)] (vI a :: st) T σ K := R_iload_n (n := 2) (by decide +kernel) rfl
theorem s256_51 : Rn 256 51 [l0, some (vI a), l2] st T σ K ↔ Rn 256 52 [l0, some (vI a), l2] (vI a :: st) T σ K := R_iload_n (n := 1) (by decide +kernel) rfl
theorem s256_52 : Rn 256 52 L (vI b :: vI a :: vR o :: st) T σ K ↔ (sx_kd T o = 9 ∧ st.length ≤ 4) ∧ Rn 216 0 [some (vR o), some (vI a), some (vI b)] [] T σ (fun r T' σ' => Rn 256 55 L (sx_push r st) T' σ' K) := R_V (cm := 216) (n := 2) (idx := 238) (ci := 9) (mx := 3) (vs := [vI a, vI b]) (by decide +kernel) (by decide +kernel) rfl (by decide +kernel) rfl (by decide +kernel) (by decide +kernel)
theorem s256_55 : Rn 256 55 L st T σ K ↔ Rn 256 56 L (vI 2 :: st) T σ K := R_iconst (n := 2) (by decide +kernel) (by decide)
theorem s256_56 : Rn 256 56 [some (vR o), l1, l2] st T σ K ↔ Rn 256 57 [some (vR o), l1, l2] (vR o :: st) T σ K := R_aload_n (n := 0) (by decide +kernel) rfl
theorem s256_57 : Rn 256 57 L (vR o :: st) T σ K ↔ sx_kd T o = 9 ∧ ∃ t, sx_rf T o 0 = some t ∧ Rn 256 60 L (vR t :: st) T σ K := R_getR (idx := 7) (ci := 9) (k := 0) (by decide +kernel) (by decide +kernel) rfl
theorem s256_60 : Rn 256 60 L st T σ K ↔ Rn 256 63 L (vI 160 :: st) T σ K := R_sipush (n := 160) (by decide +kernel) (by decide +kernel)
theorem s256_63 : Rn 256 63 [l0, some (vI a), l2] st T σ K ↔ Rn 256 64 [l0, some (vI a), l2] (vI a :: st) T σ K := R_iload_n (n := 1) (by decide +kernel) rfl
theorem s256_64 : Rn 256 64 L (vI b :: vI a :: st) T σ K ↔ inI (a + b) ∧ Rn 256 65 L (vI (a + b) :: st) T σ K := R_iadd (by decide +kernel)
theorem s256_65 : Rn 256 65 L (vI a :: vR o :: st) T σ K ↔ (sx_kd T o = 20 ∧ 0 ≤ a ∧ a < sx_ln T o) ∧ Rn 256 66 L (vI (σ o a) :: st) T σ K := R_iald (by decide +kernel) (by decide)
theorem s256_66 : Rn 256 66 L (vI b :: vI a :: st) T σ K ↔ (0 ≤ b ∧ b ≤ 31) ∧ inI (a * 2 ^ b.toNat) ∧ Rn 256 67 L (vI (a * 2 ^ b.toNat) :: st) T σ K := R_ishl (by decide +kernel)
theorem s256_67 : Rn 256 67 L (vI b :: vI a :: st) T σ K ↔ (a < b → Rn 256 131 L st T σ K) ∧ (b ≤ a → Rn 256 70 L st T σ K) := R_icmp_lt (off := 64) (by decide +kernel) (by decide)
theorem s256_70 : Rn 256 70 [some (vR o), l1, l2] st T σ K ↔ Rn 256 71 [some (vR o), l1, l2] (vR o :: st) T σ K := R_aload_n (n := 0) (by decide +kernel) rfl
theorem s256_71 : Rn 256 71 L (vR o :: st) T σ K ↔ sx_kd T o = 9 ∧ ∃ t, sx_rf T o 0 = some t ∧ Rn 256 74 L (vR t :: st) T σ K := R_getR (idx := 7) (ci := 9) (k := 0) (by decide +kernel) (by decide +kernel) rfl
theorem s256_74 : Rn 256 74 L st T σ K ↔ Rn 256 77 L (vI 160 :: st) T σ K := R_sipush (n := 160) (by decide +kernel) (by decide +kernel)
theorem s256_77 : Rn 256 77 [l0, some (vI a), l2] st T σ K ↔ Rn 256 78 [l0, some (vI a), l2] (vI a :: st) T σ K := R_iload_n (n := 1) (by decide +kernel) rfl
theorem s256_78 : Rn 256 78 L (vI b :: vI a :: st) T σ K ↔ inI (a + b) ∧ Rn 256 79 L (vI (a + b) :: st) T σ K := R_iadd (by decide +kernel)
theorem s256_79 : Rn 256 79 L (vI a :: vR o :: st) T σ K ↔ Rn 256 80 L (vI a :: vR o :: vI a :: vR o :: st) T σ K := R_dup2 (v := vI a) (w := vR o) (by decide +kernel) rfl rfl
theorem s256_80 : Rn 256 80 L (vI a :: vR o :: st) T σ K ↔ (sx_kd T o = 20 ∧ 0 ≤ a ∧ a < sx_ln T o) ∧ Rn 256 81 L (vI (σ o a) :: st) T σ K := R_iald (by decide +kernel) (by decide)
theorem s256_81 : Rn 256 81 L st T σ K ↔ Rn 256 82 L (vI 1 :: st) T σ K := R_iconst (n := 1) (by decide +kernel) (by decide)
theorem s256_82 : Rn 256 82 L (vI b :: vI a :: st) T σ K ↔ inI (a + b) ∧ Rn 256 83 L (vI (a + b) :: st) T σ K := R_iadd (by decide +kernel)
theorem s256_83 : Rn 256 83 L (vI b :: vI a :: vR o :: st) T σ K ↔ (sx_kd T o = 20 ∧ 0 ≤ a ∧ a < sx_ln T o) ∧ Rn 256 84 L st T (sx_up σ o a b) K := R_iast (by decide +kernel)
theorem s256_84 : Rn 256 84 [some (vR o), l1, l2] st T σ K ↔ Rn 256 85 [some (vR o), l1, l2] (vR o :: st) T σ K := R_aload_n (n := 0) (by decide +kernel) rfl
theorem s256_85 : Rn 256 85 [some (vR o), l1, l2] st T σ K ↔ Rn 256 86 [some (vR o), l1, l2] (vR o :: st) T σ K := R_aload_n (n := 0) (by decide +kernel) rfl
theorem s256_86 : Rn 256 86 L (vR o :: st) T σ K ↔ sx_kd T o = 9 ∧ ∃ t, sx_rf T o 0 = some t ∧ Rn 256 89 L (vR t :: st) T σ K := R_getR (idx := 7) (ci := 9) (k := 0) (by decide +kernel) (by decide +kernel) rfl
theorem s256_89 : Rn 256 89 L st T σ K ↔ Rn 256 92 L (vI 160 :: st) T σ K := R_sipush (n := 160) (by decide +kernel) (by decide +kernel)
theorem s256_92 : Rn 256 92 [l0, some (vI a), l2] st T σ K ↔ Rn 256 93 [l0, some (vI a), l2] (vI a :: st) T σ K := R_iload_n (n := 1) (by decide +kernel) rfl
theorem s256_93 : Rn 256 93 L (vI b :: vI a :: st) T σ K ↔ inI (a + b) ∧ Rn 256 94 L (vI (a + b) :: st) T σ K := R_iadd (by decide +kernel)
theorem s256_94 : Rn 256 94 L (vI a :: vR o :: st) T σ K ↔ (sx_kd T o = 20 ∧ 0 ≤ a ∧ a < sx_ln T o) ∧ Rn 256 95 L (vI (σ o a) :: st) T σ K := R_iald (by decide +kernel) (by decide)
theorem s256_95 : Rn 256 95 L st T σ K ↔ Rn 256 96 L (vI 1 :: st) T σ K := R_iconst (n := 1) (by decide +kernel) (by decide)
theorem s256_96 : Rn 256 96 L (vI b :: vI a :: st) T σ K ↔ inI (a + b) ∧ Rn 256 97 L (vI (a + b) :: st) T σ K := R_iadd (by decide +kernel)
theorem s256_97 : Rn 256 97 [some (vR o), l1, l2] st T σ K ↔ Rn 256 98 [some (vR o), l1, l2] (vR o :: st) T σ K := R_aload_n (n := 0) (by decide +kernel) rfl
theorem s256_98 : Rn 256 98 L (vR o :: st) T σ K ↔ sx_kd T o = 9 ∧ ∃ t, sx_rf T o 0 = some t ∧ Rn 256 101 L (vR t :: st) T σ K := R_getR (idx := 7) (ci := 9) (k := 0) (by decide +kernel) (by decide +kernel) rfl
theorem s256_101 : Rn 256 101 L st T σ K ↔ Rn 256 103 L (vI 40 :: st) T σ K := R_bipush (n := 40) (by decide +kernel) (by decide +kernel)
theorem s256_103 : Rn 256 103 [l0, some (vI a), l2] st T σ K ↔ Rn 256 104 [l0, some (vI a), l2] (vI a :: st) T σ K := R_iload_n (n := 1) (by decide +kernel) rfl
theorem s256_104 : Rn 256 104 L (vI b :: vI a :: st) T σ K ↔ inI (a + b) ∧ Rn 256 105 L (vI (a + b) :: st) T σ K := R_iadd (by decide +kernel)
theorem s256_105 : Rn 256 105 L (vI a :: vR o :: st) T σ K ↔ (sx_kd T o = 20 ∧ 0 ≤ a ∧ a < sx_ln T o) ∧ Rn 256 106 L (vI (σ o a) :: st) T σ K := R_iald (by decide +kernel) (by decide)
theorem s256_106 : Rn 256 106 [some (vR o), l1, l2] st T σ K ↔ Rn 256 107 [some (vR o), l1, l2] (vR o :: st) T σ K := R_aload_n (n := 0) (by decide +kernel) rfl
theorem s256_107 : Rn 256 107 L (vR o :: st) T σ K ↔ sx_kd T o = 9 ∧ ∃ t, sx_rf T o 0 = some t ∧ Rn 256 110 L (vR t :: st) T σ K := R_getR (idx := 7) (ci := 9) (k := 0) (by decide +kernel) (by decide +kernel) rfl
theorem s256_110 : Rn 256 110 L st T σ K ↔ Rn 256 112 L (vI 80 :: st) T σ K := R_bipush (n := 80) (by decide +kernel) (by decide +kernel)
theorem s256_112 : Rn 256 112 [l0, some (vI a), l2] st T σ K ↔ Rn 256 113 [l0, some (vI a), l2] (vI a :: st) T σ K := R_iload_n (n := 1) (by decide +kernel) rfl
theorem s256_113 : Rn 256 113 L (vI b :: vI a :: st) T σ K ↔ inI (a + b) ∧ Rn 256 114 L (vI (a + b) :: st) T σ K := R_iadd (by decide +kernel)
theorem s256_114 : Rn 256 114 L (vI a :: vR o :: st) T σ K ↔ (sx_kd T o = 20 ∧ 0 ≤ a ∧ a < sx_ln T o) ∧ Rn 256 115 L (vI (σ o a) :: st) T σ K := R_iald (by decide +kernel) (by decide)
theorem s256_115 : Rn 256 115 [some (vR o), l1, l2] st T σ K ↔ Rn 256 116 [some (vR o), l1, l2] (vR o :: st) T σ K := R_aload_n (n := 0) (by decide +kernel) rfl
theorem s256_116 : Rn 256 116 L (vR o :: st) T σ K ↔ sx_kd T o = 9 ∧ ∃ t, sx_rf T o 0 = some t ∧ Rn 256 119 L (vR t :: st) T σ K := R_getR (idx := 7) (ci := 9) (k := 0) (by decide +kernel) (by decide +kernel) rfl
theorem s256_119 : Rn 256 119 L st T σ K ↔ Rn 256 121 L (vI 120 :: st) T σ K := R_bipush (n := 120) (by decide +kernel) (by decide +kernel)
theorem s256_121 : Rn 256 121 [l0, some (vI a), l2] st T σ K ↔ Rn 256 122 [l0, some (vI a), l2] (vI a :: st) T σ K := R_iload_n (n := 1) (by decide +kernel) rfl
theorem s256_122 : Rn 256 122 L (vI b :: vI a :: st) T σ K ↔ inI (a + b) ∧ Rn 256 123 L (vI (a + b) :: st) T σ K := R_iadd (by decide +kernel)
theorem s256_123 : Rn 256 123 L (vI a :: vR o :: st) T σ K ↔ (sx_kd T o = 20 ∧ 0 ≤ a ∧ a < sx_ln T o) ∧ Rn 256 124 L (vI (σ o a) :: st) T σ K := R_iald (by decide +kernel) (by decide)
theorem s256_124 : Rn 256 124 L (vI d :: vI c :: vI b :: vI a :: vR o :: st) T σ K ↔ (sx_kd T o = 9 ∧ st.length ≤ 4) ∧ Rn 193 0 [some (vR o), some (vI a), some (vI b), some (vI c), some (vI d), none, none] [] T σ (fun r T' σ' => Rn 256 127 L (sx_push r st) T' σ' K) := R_V (cm := 193) (n := 4) (idx := 231) (ci := 9) (mx := 7) (vs := [vI a, vI b, vI c, vI d]) (by decide +kernel) (by decide +kernel) rfl (by decide +kernel) rfl (by decide +kernel) (by decide +kernel)
theorem s256_127 : Rn 256 127 [l0, l1, l2] (vI a :: st) T σ K ↔ Rn 256 128 [l0, l1, some (vI a)] st T σ K := R_istore_n (n := 2) (by decide +kernel) rfl
theorem s256_128 : Rn 256 128 L st T σ K ↔ Rn 256 44 L st T σ K := R_goto (off := -84) (by decide +kernel) (by decide)
theorem s256_131 : Rn 256 131 [some (vR o), l1, l2] st T σ K ↔ Rn 256 132 [some (vR o), l1, l2] (vR o :: st) T σ K := R_aload_n (n := 0) (by decide +kernel) rfl
theorem s256_132 : Rn 256 132 L (vR o :: st) T σ K ↔ sx_kd T o = 9 ∧ ∃ t, sx_rf T o 0 = some t ∧ Rn 256 135 L (vR t :: st) T σ K := R_getR (idx := 7) (ci := 9) (k := 0) (by decide +kernel) (by decide +kernel) rfl
theorem s256_135 : Rn 256 135 L st T σ K ↔ Rn 256 138 L (vI 200 :: st) T σ K := R_sipush (n := 200) (by decide +kernel) (by decide +kernel)
theorem s256_138 : Rn 256 138 [l0, some (vI a), l2] st T σ K ↔ Rn 256 139 [l0, some (vI a), l2] (vI a :: st) T σ K := R_iload_n (n := 1) (by decide +kernel) rfl
theorem s256_139 : Rn 256 139 L (vI b :: vI a :: st) T σ K ↔ inI (a + b) ∧ Rn 256 140 L (vI (a + b) :: st) T σ K := R_iadd (by decide +kernel)
theorem s256_140 : Rn 256 140 [l0, l1, some (vI a)] st T σ K ↔ Rn 256 141 [l0, l1, some (vI a)] (vI a :: st) T σ K := R_iload_n (n := 2) (by decide +kernel) rfl
theorem s256_141 : Rn 256 141 L (vI b :: vI a :: vR o :: st) T σ K ↔ (sx_kd T o = 20 ∧ 0 ≤ a ∧ a < sx_ln T o) ∧ Rn 256 142 L st T (sx_up σ o a b) K := R_iast (by decide +kernel)
theorem s256_142 : Rn 256 142 L [] T σ K ↔ K none T σ := R_retV (by decide +kernel) (by decide +kernel)
theorem s257_0 : Rn 257 0 L st T σ K ↔ Rn 257 1 L (vI 0 :: st) T σ K := R_iconst (n := 0) (by decide +kernel) (by decide)
theorem s257_1 : Rn 257 1 [l0, l1, l2, l3] (vI a :: st) T σ K ↔ Rn 257 2 [l0, l1, some (vI a), l3] st T σ K := R_istore_n (n := 2) (by decide +kernel) rfl
theorem s257_2 : Rn 257 2 L st T σ K ↔ Rn 257 3 L (vI 0 :: st) T σ K := R_iconst (n := 0) (by decide +kernel) (by decide)
theorem s257_3 : Rn 257 3 [l0, l1, l2, l3] (vI a :: st) T σ K ↔ Rn 257 4 [l0, l1, l2, some (vI a)] st T σ K := R_istore_n (n := 3) (by decide +kernel) rfl
theorem s257_4 : Rn 257 4 [l0, l1, l2, some (vI a)] st T σ K ↔ Rn 257 5 [l0, l1, l2, some (vI a)] (vI a :: st) T σ K := R_iload_n (n := 3) (by decide +kernel) rfl
theorem s257_5 : Rn 257 5 L st T σ K ↔ Rn 257 7 L (vI 40 :: st) T σ K := R_bipush (n := 40) (by decide +kernel) (by decide +kernel)
theorem s257_7 : Rn 257 7 L (vI b :: vI a :: st) T σ K ↔ (b ≤ a → Rn 257 55 L st T σ K) ∧ (a < b → Rn 257 10 L st T σ K) := R_icmp_ge (off := 48) (by decide +kernel) (by decide)
theorem s257_10 : Rn 257 10 [l0, l1, some (vI a), l3] st T σ K ↔ Rn 257 11 [l0, l1, some (vI a), l3] (vI a :: st) T σ K := R_iload_n (n := 2) (by decide +kernel) rfl
theorem s257_11 : Rn 257 11 [some (vR o), l1, l2, l3] st T σ K ↔ Rn 257 12 [some (vR o), l1, l2, l3] (vR o :: st) T σ K := R_aload_n (n := 0) (by decide +kernel) rfl
theorem s257_12 : Rn 257 12 L (vR o :: st) T σ K ↔ sx_kd T o = 9 ∧ ∃ t, sx_rf T o 0 = some t ∧ Rn 257 15 L (vR t :: st) T σ K := R_getR (idx := 7) (ci := 9) (k := 0) (by decide +kernel) (by decide +kernel) rfl
theorem s257_15 : Rn 257 15 L st T σ K ↔ Rn 257 16 L (vI 0 :: st) T σ K := R_iconst (n := 0) (by decide +kernel) (by decide)
theorem s257_16 : Rn 257 16 [l0, l1, l2, some (vI a)] st T σ K ↔ Rn 257 17 [l0, l1, l2, some (vI a)] (vI a :: st) T σ K := R_iload_n (n := 3) (by decide +kernel) rfl
theorem s257_17 : Rn 257 17 L (vI b :: vI a :: st) T σ K ↔ inI (a + b) ∧ Rn 257 18 L (vI (a + b) :: st) T σ K := R_iadd (by decide +kernel)
theorem s257_18 : Rn 257 18 L (vI a :: vR o :: st) T σ K ↔ (sx_kd T o = 20 ∧ 0 ≤ a ∧ a < sx_ln T o) ∧ Rn 257 19 L (vI (σ o a) :: st) T σ K := R_iald (by decide +kernel) (by decide)
theorem s257_19 : Rn 257 19 L st T σ K ↔ Rn 257 20 L (vI 1 :: st) T σ K := R_iconst (n := 1) (by decide +kernel) (by decide)
theorem s257_20 : Rn 257 20 L (vI b :: vI a :: st) T σ K ↔ (a ≠ b → Rn 257 46 L st T σ K) ∧ (a = b → Rn 257 23 L st T σ K) := R_icmp_ne (off := 26) (by decide +kernel) (by decide)
theorem s257_23 : Rn 257 23 [some (vR o), l1, l2, l3] st T σ K ↔ Rn 257 24 [some (vR o), l1, l2, l3] (vR o :: st) T σ K := R_aload_n (n := 0) (by decide +kernel) rfl
theorem s257_24 : Rn 257 24 L (vR o :: st) T σ K ↔ sx_kd T o = 9 ∧ ∃ t, sx_rf T o 0 = some t ∧ Rn 257 27 L (vR t :: st) T σ K := R_getR (idx := 7) (ci := 9) (k := 0) (by decide +kernel) (by decide +kernel) rfl
theorem s257_27 : Rn 257 27 [l0, some (vI a), l2, l3] st T σ K ↔ Rn 257 28 [l0, some (vI a), l2, l3] (vI a :: st) T σ K := R_iload_n (n := 1) (by decide +kernel) rfl
theorem s257_28 : Rn 257 28 [l0, l1, l2, some (vI a)] st T σ K ↔ Rn 257 29 [l0, l1, l2, some (vI a)] (vI a :: st) T σ K := R_iload_n (n := 3) (by decide +kernel) rfl
theorem s257_29 : Rn 257 29 L (vI b :: vI a :: st) T σ K ↔ inI (a + b) ∧ Rn 257 30 L (vI (a + b) :: st) T σ K := R_iadd (by decide +kernel)
theorem s257_30 : Rn 257 30 L (vI a :: vR o :: st) T σ K ↔ (sx_kd T o = 20 ∧ 0 ≤ a ∧ a < sx_ln T o) ∧ Rn 257 31 L (vI (σ o a) :: st) T σ K := R_iald (by decide +kernel) (by decide)
theorem s257_31 : Rn 257 31 [some (vR o), l1, l2, l3] st T σ K ↔ Rn 257 32 [some (vR o), l1, l2, l3] (vR o :: st) T σ K := R_aload_n (n := 0) (by decide +kernel) rfl
theorem s257_32 : Rn 257 32 L (vR o :: st) T σ K ↔ sx_kd T o = 9 ∧ ∃ t, sx_rf T o 2 = some t ∧ Rn 257 35 L (vR t :: st) T σ K := R_getR (idx := 16) (ci := 9) (k := 2) (by decide +kernel) (by decide +kernel) rfl
theorem s257_35 : Rn 257 35 [l0, some (vI a), l2, l3] st T σ K ↔ Rn 257 36 [l0, some (vI a), l2, l3] (vI a :: st) T σ K := R_iload_n (n := 1) (by decide +kernel) rfl
theorem s257_36 : Rn 257 36 [l0, l1, l2, some (vI a)] st T σ K ↔ Rn 257 37 [l0, l1, l2, some (vI a)] (vI a :: st) T σ K := R_iload_n (n := 3) (by decide +kernel) rfl
theorem s257_37 : Rn 257 37 L (vI b :: vI a :: st) T σ K ↔ inI (a + b) ∧ Rn 257 38 L (vI (a + b) :: st) T σ K := R_iadd (by decide +kernel)
theorem s257_38 : Rn 257 38 L (vI a :: vR o :: st) T σ K ↔ (sx_kd T o = 20 ∧ 0 ≤ a ∧ a < sx_ln T o) ∧ Rn 257 39 L (vI (σ o a) :: st) T σ K := R_iald (by decide +kernel) (by decide)
theorem s257_39 : Rn 257 39 L (vI b :: vI a :: st) T σ K ↔ (a = b → Rn 257 46 L st T σ K) ∧ (a ≠ b → Rn 257 42 L st T σ K) := R_icmp_eq (off := 7) (by decide +kernel) (by decide)
theorem s257_42 : Rn 257 42 L st T σ K ↔ Rn 257 43 L (vI 1 :: st) T σ K := R_iconst (n := 1) (by decide +kernel) (by decide)
theorem s257_43 : Rn 257 43 L st T σ K ↔ Rn 257 47 L st T σ K := R_goto (off := 4) (by decide +kernel) (by decide)
theorem s257_46 : Rn 257 46 L st T σ K ↔ Rn 257 47 L (vI 0 :: st) T σ K := R_iconst (n := 0) (by decide +kernel) (by decide)
theorem s257_47 : Rn 257 47 L (vI b :: vI a :: st) T σ K ↔ inI (a + b) ∧ Rn 257 48 L (vI (a + b) :: st) T σ K := R_iadd (by decide +kernel)
theorem s257_48 : Rn 257 48 [l0, l1, l2, l3] (vI a :: st) T σ K ↔ Rn 257 49 [l0, l1, some (vI a), l3] st T σ K := R_istore_n (n := 2) (by decide +kernel) rfl
theorem s257_49 : Rn 257 49 [l0, l1, l2, some (vI a)] st T σ K ↔ inI (a + 1) ∧ Rn 257 52 [l0, l1, l2, some (vI (a + 1))] st T σ K := R_iinc (n := 3) (d := 1) (by decide +kernel) rfl
theorem s257_52 : Rn 257 52 L st T σ K ↔ Rn 257 4 L st T σ K := R_goto (off := -48) (by decide +kernel) (by decide)
theorem s257_55 : Rn 257 55 [l0, l1, some (vI a), l3] st T σ K ↔ Rn 257 56 [l0, l1, some (vI a), l3] (vI a :: st) T σ K := R_iload_n (n := 2) (by decide +kernel) rfl
theorem s257_56 : Rn 257 56 L [vI a] T σ K ↔ K (some (vI a)) T σ := R_ret (by decide +kernel) (by decide +kernel)
theorem s258_0 : Rn 258 0 L st T σ K ↔ Rn 258 1 L (vI 0 :: st) T σ K := R_iconst (n := 0) (by decide +kernel) (by decide)
theorem s258_1 : Rn 258 1 [l0, l1] (vI a :: st) T σ K ↔ Rn 258 2 [l0, some (vI a)] st T σ K := R_istore_n (n := 1) (by decide +kernel) rfl
theorem s258_2 : Rn 258 2 [l0, some (vI a)] st T σ K ↔ Rn 258 3 [l0, some (vI a)] (vI a :: st) T σ K := R_iload_n (n := 1) (by decide +kernel) rfl
theorem s258_3 : Rn 258 3 L st T σ K ↔ Rn 258 6 L (vI 481 :: st) T σ K := R_sipush (n := 481) (by decide +kernel) (by decide +kernel)
theorem s258_6 : Rn 258 6 L (vI b :: vI a :: st) T σ K ↔ (b ≤ a → Rn 258 27 L st T σ K) ∧ (a < b → Rn 258 9 L st T σ K) := R_icmp_ge (off := 21) (by decide +kernel) (by decide)
theorem s258_9 : Rn 258 9 [some (vR o), l1] st T σ K ↔ Rn 258 10 [some (vR o), l1] (vR o :: st) T σ K := R_aload_n (n := 0) (by decide +kernel) rfl
theorem s258_10 : Rn 258 10 L (vR o :: st) T σ K ↔ sx_kd T o = 9 ∧ ∃ t, sx_rf T o 0 = some t ∧ Rn 258 13 L (vR t :: st) T σ K := R_getR (idx := 7) (ci := 9) (k := 0) (by decide +kernel) (by decide +kernel) rfl
theorem s258_13 : Rn 258 13 [l0, some (vI a)] st T σ K ↔ Rn 258 14 [l0, some (vI a)] (vI a :: st) T σ K := R_iload_n (n := 1) (by decide +kernel) rfl
theorem s258_14 : Rn 258 14 [some (vR o), l1] st T σ K ↔ Rn 258 15 [some (vR o), l1] (vR o :: st) T σ K := R_aload_n (n := 0) (by decide +kernel) rfl
theorem s258_15 : Rn 258 15 L (vR o :: st) T σ K ↔ sx_kd T o = 9 ∧ ∃ t, sx_rf T o 2 = some t ∧ Rn 258 18 L (vR t :: st) T σ K := R_getR (idx := 16) (ci := 9) (k := 2) (by decide +kernel) (by decide +kernel) rfl
theorem s258_18 : Rn 258 18 [l0, some (vI a)] st T σ K ↔ Rn 258 19 [l0, some (vI a)] (vI a :: st) T σ K := R_iload_n (n := 1) (by decide +kernel) rfl
theorem s258_19 : Rn 258 19 L (vI a :: vR o :: st) T σ K ↔ (sx_kd T o = 20 ∧ 0 ≤ a ∧ a < sx_ln T o) ∧ Rn 258 20 L (vI (σ o a) :: st) T σ K := R_iald (by decide +kernel) (by decide)
theorem s258_20 : Rn 258 20 L (vI b :: vI a :: vR o :: st) T σ K ↔ (sx_kd T o = 20 ∧ 0 ≤ a ∧ a < sx_ln T o) ∧ Rn 258 21 L st T (sx_up σ o a b) K := R_iast (by decide +kernel)
theorem s258_21 : Rn 258 21 [l0, some (vI a)] st T σ K ↔ inI (a + 1) ∧ Rn 258 24 [l0, some (vI (a + 1))] st T σ K := R_iinc (n := 1) (d := 1) (by decide +kernel) rfl
theorem s258_24 : Rn 258 24 L st T σ K ↔ Rn 258 2 L st T σ K := R_goto (off := -22) (by decide +kernel) (by decide)
theorem s258_27 : Rn 258 27 L [] T σ K ↔ K none T σ := R_retV (by decide +kernel) (by decide +kernel)
theorem s259_0 : Rn 259 0 [l0, some (vI a), l2] st T σ K ↔ Rn 259 1 [l0, some (vI a), l2] (vI a :: st) T σ K := R_iload_n (n := 1) (by decide +kernel) rfl
theorem s259_1 : Rn 259 1 L st T σ K ↔ Rn 259 2 L (vI 0 :: st) T σ K := R_iconst (n := 0) (by decide +kernel) (by decide)
theorem s259_2 : Rn 259 2 L st T σ K ↔ Rn 259 3 L (vI 1 :: st) T σ K := R_iconst (n := 1) (by decide +kernel) (by decide)
theorem s259_3 : Rn 259 3 L (vI c :: vI b :: vI a :: st) T σ K ↔ st.length ≤ 4 ∧ Rn 185 0 [some (vI a), some (vI b), some (vI c)] [] T σ (fun r T' σ' => Rn 259 6 L (sx_push r st) T' σ' K) := R_S (cm := 185) (n := 3) (idx := 189) (mx := 3) (vs := [vI a, vI b, vI c]) (by decide +kernel) (Or.inl (by decide +kernel)) rfl (by decide +kernel) rfl (by decide +kernel)
theorem s259_6 : Rn 259 6 L (vI a :: st) T σ K ↔ (a ≠ 0 → Rn 259 11 L st T σ K) ∧ (a = 0 → Rn 259 9 L st T σ K) := R_if_ne (off := 5) (by decide +kernel) (by decide)
theorem s259_9 : Rn 259 9 L st T σ K ↔ Rn 259 10 L (vI (-1) :: st) T σ K := R_iconst (n := -1) (by decide +kernel) (by decide)
theorem s259_10 : Rn 259 10 L [vI a] T σ K ↔ K (some (vI a)) T σ := R_ret (by decide +kernel) (by decide +kernel)
theorem s259_11 : Rn 259 11 [some (vR o), l1, l2] st T σ K ↔ Rn 259 12 [some (vR o), l1, l2] (vR o :: st) T σ K := R_aload_n (n := 0) (by decide +kernel) rfl
theorem s259_12 : Rn 259 12 L (vR o :: st) T σ K ↔ (sx_kd T o = 9 ∧ st.length ≤ 4) ∧ Rn 253 0 [some (vR o), none] [] T σ (fun r T' σ' => Rn 259 15 L (sx_push r st) T' σ' K) := R_V (cm := 253) (n := 0) (idx := 322) (ci := 9) (mx := 2) (vs := []) (by decide +kernel) (by decide +kernel) rfl (by decide +kernel) rfl (by decide +kernel) (by decide +kernel)
theorem s259_15 : Rn 259 15 [some (vR o), l1, l2] st T σ K ↔ Rn 259 16 [some (vR o), l1, l2] (vR o :: st) T σ K := R_aload_n (n := 0) (by decide +kernel) rfl
theorem s259_16 : Rn 259 16 L (vR o :: st) T σ K ↔ (sx_kd T o = 9 ∧ st.length ≤ 4) ∧ Rn 260 0 [some (vR o), none] [] T σ (fun r T' σ' => Rn 259 19 L (sx_push r st) T' σ' K) := R_V (cm := 260) (n := 0) (idx := 334) (ci := 9) (mx := 2) (vs := []) (by decide +kernel) (by decide +kernel) rfl (by decide +kernel) rfl (by decide +kernel) (by decide +kernel)
theorem s259_19 : Rn 259 19 [some (vR o), l1, l2] st T σ K ↔ Rn 259 20 [some (vR o), l1, l2] (vR o :: st) T σ K := R_aload_n (n := 0) (by decide +kernel) rfl
theorem s259_20 : Rn 259 20 [l0, some (vI a), l2] st T σ K ↔ Rn 259 21 [l0, some (vI a), l2] (vI a :: st) T σ K := R_iload_n (n := 1) (by decide +kernel) rfl
theorem s259_21 : Rn 259 21 L (vI a :: st) T σ K ↔ (a ≠ 0 → Rn 259 30 L st T σ K) ∧ (a = 0 → Rn 259 24 L st T σ K) := R_if_ne (off := 9) (by decide +kernel) (by decide)
theorem s259_24 : Rn 259 24 L st T σ K ↔ Rn 259 27 L (vI 160 :: st) T σ K := R_sipush (n := 160) (by decide +kernel) (by decide +kernel)
theorem s259_27 : Rn 259 27 L st T σ K ↔ Rn 259 33 L st T σ K := R_goto (off := 6) (by decide +kernel) (by decide)
theorem s259_30 : Rn 259 30 L st T σ K ↔ Rn 259 33 L (vI 200 :: st) T σ K := R_sipush (n := 200) (by decide +kernel) (by decide +kernel)
theorem s259_33 : Rn 259 33 L (vI a :: vR o :: st) T σ K ↔ (sx_kd T o = 9 ∧ st.length ≤ 4) ∧ Rn 257 0 [some (vR o), some (vI a), none, none] [] T σ (fun r T' σ' => Rn 259 36 L (sx_push r st) T' σ' K) := R_V (cm := 257) (n := 1) (idx := 328) (ci := 9) (mx := 4) (vs := [vI a]) (by decide +kernel) (by decide +kernel) rfl (by decide +kernel) rfl (by decide +kernel) (by decide +kernel)
theorem s259_36 : Rn 259 36 [l0, l1, l2] (vI a :: st) T σ K ↔ Rn 259 37 [l0, l1, some (vI a)] st T σ K := R_istore_n (n := 2) (by decide +kernel) rfl
theorem s259_37 : Rn 259 37 [some (vR o), l1, l2] st T σ K ↔ Rn 259 38 [some (vR o), l1, l2] (vR o :: st) T σ K := R_aload_n (n := 0) (by decide +kernel) rfl
theorem s259_38 : Rn 259 38 L (vR o :: st) T σ K ↔ (sx_kd T o = 9 ∧ st.length ≤ 4) ∧ Rn 258 0 [some (vR o), none] [] T σ (fun r T' σ' => Rn 259 41 L (sx_push r st) T' σ' K) := R_V (cm := 258) (n := 0) (idx := 331) (ci := 9) (mx := 2) (vs := []) (by decide +kernel) (by decide +kernel) rfl (by decide +kernel) rfl (by decide +kernel) (by decide +kernel)
theorem s259_41 : Rn 259 41 [l0, l1, some (vI a)] st T σ K ↔ Rn 259 42 [l0, l1, some (vI a)] (vI a :: st) T σ K := R_iload_n (n := 2) (by decide +kernel) rfl
theorem s259_42 : Rn 259 42 L [vI a] T σ K ↔ K (some (vI a)) T σ := R_ret (by decide +kernel) (by decide +kernel)
theorem s260_0 : Rn 260 0 L st T σ K ↔ Rn 260 1 L (vI 0 :: st) T σ K := R_iconst (n := 0) (by decide +kernel) (by decide)
theorem s260_1 : Rn 260 1 [l0, l1] (vI a :: st) T σ K ↔ Rn 260 2 [l0, some (vI a)] st T σ K := R_istore_n (n := 1) (by decide +kernel) rfl
theorem s260_2 : Rn 260 2 [l0, some (vI a)] st T σ K ↔ Rn 260 3 [l0, some (vI a)] (vI a :: st) T σ K := R_iload_n (n := 1) (by decide +kernel) rfl
theorem s260_3 : Rn 260 3 L st T σ K ↔ Rn 260 5 L (vI 40 :: st) T σ K := R_bipush (n := 40) (by decide +kernel) (by decide +kernel)
theorem s260_5 : Rn 260 5 L (vI b :: vI a :: st) T σ K ↔ (b ≤ a → Rn 260 28 L st T σ K) ∧ (a < b → Rn 260 8 L st T σ K) := R_icmp_ge (off := 23) (by decide +kernel) (by decide)
theorem s260_8 : Rn 260 8 [some (vR o), l1] st T σ K ↔ Rn 260 9 [some (vR o), l1] (vR o :: st) T σ K := R_aload_n (n := 0) (by decide +kernel) rfl
theorem s260_9 : Rn 260 9 L (vR o :: st) T σ K ↔ sx_kd T o = 9 ∧ ∃ t, sx_rf T o 3 = some t ∧ Rn 260 12 L (vR t :: st) T σ K := R_getR (idx := 19) (ci := 9) (k := 3) (by decide +kernel) (by decide +kernel) rfl
theorem s260_12 : Rn 260 12 [l0, some (vI a)] st T σ K ↔ Rn 260 13 [l0, some (vI a)] (vI a :: st) T σ K := R_iload_n (n := 1) (by decide +kernel) rfl
theorem s260_13 : Rn 260 13 [some (vR o), l1] st T σ K ↔ Rn 260 14 [some (vR o), l1] (vR o :: st) T σ K := R_aload_n (n := 0) (by decide +kernel) rfl
theorem s260_14 : Rn 260 14 L (vR o :: st) T σ K ↔ sx_kd T o = 9 ∧ ∃ t, sx_rf T o 0 = some t ∧ Rn 260 17 L (vR t :: st) T σ K := R_getR (idx := 7) (ci := 9) (k := 0) (by decide +kernel) (by decide +kernel) rfl
theorem s260_17 : Rn 260 17 L st T σ K ↔ Rn 260 18 L (vI 0 :: st) T σ K := R_iconst (n := 0) (by decide +kernel) (by decide)
theorem s260_18 : Rn 260 18 [l0, some (vI a)] st T σ K ↔ Rn 260 19 [l0, some (vI a)] (vI a :: st) T σ K := R_iload_n (n := 1) (by decide +kernel) rfl
theorem s260_19 : Rn 260 19 L (vI b :: vI a :: st) T σ K ↔ inI (a + b) ∧ Rn 260 20 L (vI (a + b) :: st) T σ K := R_iadd (by decide +kernel)
theorem s260_20 : Rn 260 20 L (vI a :: vR o :: st) T σ K ↔ (sx_kd T o = 20 ∧ 0 ≤ a ∧ a < sx_ln T o) ∧ Rn 260 21 L (vI (σ o a) :: st) T σ K := R_iald (by decide +kernel) (by decide)
theorem s260_21 : Rn 260 21 L (vI b :: vI a :: vR o :: st) T σ K ↔ (sx_kd T o = 20 ∧ 0 ≤ a ∧ a < sx_ln T o) ∧ Rn 260 22 L st T (sx_up σ o a b) K := R_iast (by decide +kernel)
theorem s260_22 : Rn 260 22 [l0, some (vI a)] st T σ K ↔ inI (a + 1) ∧ Rn 260 25 [l0, some (vI (a + 1))] st T σ K := R_iinc (n := 1) (d := 1) (by decide +kernel) rfl
theorem s260_25 : Rn 260 25 L st T σ K ↔ Rn 260 2 L st T σ K := R_goto (off := -23) (by decide +kernel) (by decide)
theorem s260_28 : Rn 260 28 L st T σ K ↔ Rn 260 29 L (vI 0 :: st) T σ K := R_iconst (n := 0) (by decide +kernel) (by decide)
theorem s260_29 : Rn 260 29 [l0, l1] (vI a :: st) T σ K ↔ Rn 260 30 [l0, some (vI a)] st T σ K := R_istore_n (n := 1) (by decide +kernel) rfl
theorem s260_30 : Rn 260 30 [l0, some (vI a)] st T σ K ↔ Rn 260 31 [l0, some (vI a)] (vI a :: st) T σ K := R_iload_n (n := 1) (by decide +kernel) rfl
theorem s260_31 : Rn 260 31 L st T σ K ↔ Rn 260 33 L (vI 40 :: st) T σ K := R_bipush (n := 40) (by decide +kernel) (by decide +kernel)
theorem s260_33 : Rn 260 33 L (vI b :: vI a :: st) T σ K ↔ (b ≤ a → Rn 260 51 L st T σ K) ∧ (a < b → Rn 260 36 L st T σ K) := R_icmp_ge (off := 18) (by decide +kernel) (by decide)
theorem s260_36 : Rn 260 36 [some (vR o), l1] st T σ K ↔ Rn 260 37 [some (vR o), l1] (vR o :: st) T σ K := R_aload_n (n := 0) (by decide +kernel) rfl
theorem s260_37 : Rn 260 37 L (vR o :: st) T σ K ↔ sx_kd T o = 9 ∧ ∃ t, sx_rf T o 0 = some t ∧ Rn 260 40 L (vR t :: st) T σ K := R_getR (idx := 7) (ci := 9) (k := 0) (by decide +kernel) (by decide +kernel) rfl
theorem s260_40 : Rn 260 40 L st T σ K ↔ Rn 260 41 L (vI 0 :: st) T σ K := R_iconst (n := 0) (by decide +kernel) (by decide)
theorem s260_41 : Rn 260 41 [l0, some (vI a)] st T σ K ↔ Rn 260 42 [l0, some (vI a)] (vI a :: st) T σ K := R_iload_n (n := 1) (by decide +kernel) rfl
theorem s260_42 : Rn 260 42 L (vI b :: vI a :: st) T σ K ↔ inI (a + b) ∧ Rn 260 43 L (vI (a + b) :: st) T σ K := R_iadd (by decide +kernel)
theorem s260_43 : Rn 260 43 L st T σ K ↔ Rn 260 44 L (vI 0 :: st) T σ K := R_iconst (n := 0) (by decide +kernel) (by decide)
theorem s260_44 : Rn 260 44 L (vI b :: vI a :: vR o :: st) T σ K ↔ (sx_kd T o = 20 ∧ 0 ≤ a ∧ a < sx_ln T o) ∧ Rn 260 45 L st T (sx_up σ o a b) K := R_iast (by decide +kernel)
theorem s260_45 : Rn 260 45 [l0, some (vI a)] st T σ K ↔ inI (a + 1) ∧ Rn 260 48 [l0, some (vI (a + 1))] st T σ K := R_iinc (n := 1) (d := 1) (by decide +kernel) rfl
theorem s260_48 : Rn 260 48 L st T σ K ↔ Rn 260 30 L st T σ K := R_goto (off := -18) (by decide +kernel) (by decide)
theorem s260_51 : Rn 260 51 L st T σ K ↔ Rn 260 52 L (vI 0 :: st) T σ K := R_iconst (n := 0) (by decide +kernel) (by decide)
theorem s260_52 : Rn 260 52 [l0, l1] (vI a :: st) T σ K ↔ Rn 260 53 [l0, some (vI a)] st T σ K := R_istore_n (n := 1) (by decide +kernel) rfl
theorem s260_53 : Rn 260 53 [l0, some (vI a)] st T σ K ↔ Rn 260 54 [l0, some (vI a)] (vI a :: st) T σ K := R_iload_n (n := 1) (by decide +kernel) rfl
theorem s260_54 : Rn 260 54 L st T σ K ↔ Rn 260 56 L (vI 40 :: st) T σ K := R_bipush (n := 40) (by decide +kernel) (by decide +kernel)
theorem s260_56 : Rn 260 56 L (vI b :: vI a :: st) T σ K ↔ (b ≤ a → Rn 260 107 L st T σ K) ∧ (a < b → Rn 260 59 L st T σ K) := R_icmp_ge (off := 51) (by decide +kernel) (by decide)
theorem s260_59 : Rn 260 59 [some (vR o), l1] st T σ K ↔ Rn 260 60 [some (vR o), l1] (vR o :: st) T σ K := R_aload_n (n := 0) (by decide +kernel) rfl
theorem s260_60 : Rn 260 60 L (vR o :: st) T σ K ↔ sx_kd T o = 9 ∧ ∃ t, sx_rf T o 3 = some t ∧ Rn 260 63 L (vR t :: st) T σ K := R_getR (idx := 19) (ci := 9) (k := 3) (by decide +kernel) (by decide +kernel) rfl
theorem s260_63 : Rn 260 63 [l0, some (vI a)] st T σ K ↔ Rn 260 64 [l0, some (vI a)] (vI a :: st) T σ K := R_iload_n (n := 1) (by decide +kernel) rfl
theorem s260_64 : Rn 260 64 L (vI a :: vR o :: st) T σ K ↔ (sx_kd T o = 20 ∧ 0 ≤ a ∧ a < sx_ln T o) ∧ Rn 260 65 L (vI (σ o a) :: st) T σ K := R_iald (by decide +kernel) (by decide)
theorem s260_65 : Rn 260 65 L st T σ K ↔ Rn 260 66 L (vI 1 :: st) T σ K := R_iconst (n := 1) (by decide +kernel) (by decide)
theorem s260_66 : Rn 260 66 L (vI b :: vI a :: st) T σ K ↔ (a ≠ b → Rn 260 101 L st T σ K) ∧ (a = b → Rn 260 69 L st T σ K) := R_icmp_ne (off := 35) (by decide +kernel) (by decide)
theorem s260_69 : Rn 260 69 [some (vR o), l1] st T σ K ↔ Rn 260 70 [some (vR o), l1] (vR o :: st) T σ K := R_aload_n (n := 0) (by decide +kernel) rfl
theorem s260_70 : Rn 260 70 [l0, some (vI a)] st T σ K ↔ Rn 260 71 [l0, some (vI a)] (vI a :: st) T σ K := R_iload_n (n := 1) (by decide +kernel) rfl
theorem s260_71 : Rn 260 71 [some (vR o), l1] st T σ K ↔ Rn 260 72 [some (vR o), l1] (vR o :: st) T σ K := R_aload_n (n := 0) (by decide +kernel) rfl
theorem s260_72 : Rn 260 72 L (vR o :: st) T σ K ↔ sx_kd T o = 9 ∧ ∃ t, sx_rf T o 0 = some t ∧ Rn 260 75 L (vR t :: st) T σ K := R_getR (idx := 7) (ci := 9) (k := 0) (by decide +kernel) (by decide +kernel) rfl
theorem s260_75 : Rn 260 75 L st T σ K ↔ Rn 260 77 L (vI 40 :: st) T σ K := R_bipush (n := 40) (by decide +kernel) (by decide +kernel)
theorem s260_77 : Rn 260 77 [l0, some (vI a)] st T σ K ↔ Rn 260 78 [l0, some (vI a)] (vI a :: st) T σ K := R_iload_n (n := 1) (by decide +kernel) rfl
theorem s260_78 : Rn 260 78 L (vI b :: vI a :: st) T σ K ↔ inI (a + b) ∧ Rn 260 79 L (vI (a + b) :: st) T σ K := R_iadd (by decide +kernel)
theorem s260_79 : Rn 260 79 L (vI a :: vR o :: st) T σ K ↔ (sx_kd T o = 20 ∧ 0 ≤ a ∧ a < sx_ln T o) ∧ Rn 260 80 L (vI (σ o a) :: st) T σ K := R_iald (by decide +kernel) (by decide)
theorem s260_80 : Rn 260 80 [some (vR o), l1] st T σ K ↔ Rn 260 81 [some (vR o), l1] (vR o :: st) T σ K := R_aload_n (n := 0) (by decide +kernel) rfl
theorem s260_81 : Rn 260 81 L (vR o :: st) T σ K ↔ sx_kd T o = 9 ∧ ∃ t, sx_rf T o 0 = some t ∧ Rn 260 84 L (vR t :: st) T σ K := R_getR (idx := 7) (ci := 9) (k := 0) (by decide +kernel) (by decide +kernel) rfl
theorem s260_84 : Rn 260 84 L st T σ K ↔ Rn 260 86 L (vI 80 :: st) T σ K := R_bipush (n := 80) (by decide +kernel) (by decide +kernel)
theorem s260_86 : Rn 260 86 [l0, some (vI a)] st T σ K ↔ Rn 260 87 [l0, some (vI a)] (vI a :: st) T σ K := R_iload_n (n := 1) (by decide +kernel) rfl
theorem s260_87 : Rn 260 87 L (vI b :: vI a :: st) T σ K ↔ inI (a + b) ∧ Rn 260 88 L (vI (a + b) :: st) T σ K := R_iadd (by decide +kernel)
theorem s260_88 : Rn 260 88 L (vI a :: vR o :: st) T σ K ↔ (sx_kd T o = 20 ∧ 0 ≤ a ∧ a < sx_ln T o) ∧ Rn 260 89 L (vI (σ o a) :: st) T σ K := R_iald (by decide +kernel) (by decide)
theorem s260_89 : Rn 260 89 [some (vR o), l1] st T σ K ↔ Rn 260 90 [some (vR o), l1] (vR o :: st) T σ K := R_aload_n (n := 0) (by decide +kernel) rfl
theorem s260_90 : Rn 260 90 L (vR o :: st) T σ K ↔ sx_kd T o = 9 ∧ ∃ t, sx_rf T o 0 = some t ∧ Rn 260 93 L (vR t :: st) T σ K := R_getR (idx := 7) (ci := 9) (k := 0) (by decide +kernel) (by decide +kernel) rfl
theorem s260_93 : Rn 260 93 L st T σ K ↔ Rn 260 95 L (vI 120 :: st) T σ K := R_bipush (n := 120) (by decide +kernel) (by decide +kernel)
theorem s260_95 : Rn 260 95 [l0, some (vI a)] st T σ K ↔ Rn 260 96 [l0, some (vI a)] (vI a :: st) T σ K := R_iload_n (n := 1) (by decide +kernel) rfl
theorem s260_96 : Rn 260 96 L (vI b :: vI a :: st) T σ K ↔ inI (a + b) ∧ Rn 260 97 L (vI (a + b) :: st) T σ K := R_iadd (by decide +kernel)
theorem s260_97 : Rn 260 97 L (vI a :: vR o :: st) T σ K ↔ (sx_kd T o = 20 ∧ 0 ≤ a ∧ a < sx_ln T o) ∧ Rn 260 98 L (vI (σ o a) :: st) T σ K := R_iald (by decide +kernel) (by decide)
theorem s260_98 : Rn 260 98 L (vI d :: vI c :: vI b :: vI a :: vR o :: st) T σ K ↔ (sx_kd T o = 9 ∧ st.length ≤ 4) ∧ Rn 191 0 [some (vR o), some (vI a), some (vI b), some (vI c), some (vI d), none, none] [] T σ (fun r T' σ' => Rn 260 101 L (sx_push r st) T' σ' K) := R_V (cm := 191) (n := 4) (idx := 205) (ci := 9) (mx := 7) (vs := [vI a, vI b, vI c, vI d]) (by decide +kernel) (by decide +kernel) rfl (by decide +kernel) rfl (by decide +kernel) (by decide +kernel)
theorem s260_101 : Rn 260 101 [l0, some (vI a)] st T σ K ↔ inI (a + 1) ∧ Rn 260 104 [l0, some (vI (a + 1))] st T σ K := R_iinc (n := 1) (d := 1) (by decide +kernel) rfl
theorem s260_104 : Rn 260 104 L st T σ K ↔ Rn 260 53 L st T σ K := R_goto (off := -51) (by decide +kernel) (by decide)
theorem s260_107 : Rn 260 107 L [] T σ K ↔ K none T σ := R_retV (by decide +kernel) (by decide +kernel)
theorem s261_0 : Rn 261 0 [some (vR o), l1, l2, l3] st T σ K ↔ Rn 261 1 [some (vR o), l1, l2, l3] (vR o :: st) T σ K := R_aload_n (n := 0) (by decide +kernel) rfl
theorem s261_1 : Rn 261 1 L (vR o :: st) T σ K ↔ (sx_kd T o = 9 ∧ st.length ≤ 4) ∧ Rn 174 0 [some (vR o), none] [] T σ (fun r T' σ' => Rn 261 4 L (sx_push r st) T' σ' K) := R_V (cm := 174) (n := 0) (idx := 199) (ci := 9) (mx := 2) (vs := []) (by decide +kernel) (by decide +kernel) rfl (by decide +kernel) rfl (by decide +kernel) (by decide +kernel)
theorem s261_4 : Rn 261 4 [l0, l1, l2, l3] (vI a :: st) T σ K ↔ Rn 261 5 [l0, some (vI a), l2, l3] st T σ K := R_istore_n (n := 1) (by decide +kernel) rfl
theorem s261_5 : Rn 261 5 [l0, some (vI a), l2, l3] st T σ K ↔ Rn 261 6 [l0, some (vI a), l2, l3] (vI a :: st) T σ K := R_iload_n (n := 1) (by decide +kernel) rfl
theorem s261_6 : Rn 261 6 L (vI a :: st) T σ K ↔ (a ≤ 0 → Rn 261 25 L st T σ K) ∧ (0 < a → Rn 261 9 L st T σ K) := R_if_le (off := 19) (by decide +kernel) (by decide)
theorem s261_9 : Rn 261 9 [l0, some (vI a), l2, l3] st T σ K ↔ Rn 261 10 [l0, some (vI a), l2, l3] (vI a :: st) T σ K := R_iload_n (n := 1) (by decide +kernel) rfl
theorem s261_10 : Rn 261 10 L st T σ K ↔ Rn 261 11 L (vI 4 :: st) T σ K := R_iconst (n := 4) (by decide +kernel) (by decide)
theorem s261_11 : Rn 261 11 L (vI b :: vI a :: st) T σ K ↔ 0 < b ∧ inI (a.tmod b) ∧ Rn 261 12 L (vI (a.tmod b) :: st) T σ K := R_irem (by decide +kernel)
theorem s261_12 : Rn 261 12 L (vI a :: st) T σ K ↔ (a ≠ 0 → Rn 261 25 L st T σ K) ∧ (a = 0 → Rn 261 15 L st T σ K) := R_if_ne (off := 13) (by decide +kernel) (by decide)
theorem s261_15 : Rn 261 15 [l0, some (vI a), l2, l3] st T σ K ↔ Rn 261 16 [l0, some (vI a), l2, l3] (vI a :: st) T σ K := R_iload_n (n := 1) (by decide +kernel) rfl
theorem s261_16 : Rn 261 16 L st T σ K ↔ Rn 261 18 L (vI 48 :: st) T σ K := R_bipush (n := 48) (by decide +kernel) (by decide +kernel)
theorem s261_18 : Rn 261 18 L (vI b :: vI a :: st) T σ K ↔ (b < a → Rn 261 25 L st T σ K) ∧ (a ≤ b → Rn 261 21 L st T σ K) := R_icmp_gt (off := 7) (by decide +kernel) (by decide)
theorem s261_21 : Rn 261 21 L st T σ K ↔ Rn 261 22 L (vI 1 :: st) T σ K := R_iconst (n := 1) (by decide +kernel) (by decide)
theorem s261_22 : Rn 261 22 L st T σ K ↔ Rn 261 26 L st T σ K := R_goto (off := 4) (by decide +kernel) (by decide)
theorem s261_25 : Rn 261 25 L st T σ K ↔ Rn 261 26 L (vI 0 :: st) T σ K := R_iconst (n := 0) (by decide +kernel) (by decide)
theorem s261_26 : Rn 261 26 [l0, l1, l2, l3] (vI a :: st) T σ K ↔ Rn 261 27 [l0, l1, some (vI a), l3] st T σ K := R_istore_n (n := 2) (by decide +kernel) rfl
theorem s261_27 : Rn 261 27 L st T σ K ↔ Rn 261 28 L (vI 0 :: st) T σ K := R_iconst (n := 0) (by decide +kernel) (by decide)
theorem s261_28 : Rn 261 28 [l0, l1, l2, l3] (vI a :: st) T σ K ↔ Rn 261 29 [l0, l1, l2, some (vI a)] st T σ K := R_istore_n (n := 3) (by decide +kernel) rfl
theorem s261_29 : Rn 261 29 [l0, l1, l2, some (vI a)] st T σ K ↔ Rn 261 30 [l0, l1, l2, some (vI a)] (vI a :: st) T σ K := R_iload_n (n := 3) (by decide +kernel) rfl
theorem s261_30 : Rn 261 30 [l0, some (vI a), l2, l3] st T σ K ↔ Rn 261 31 [l0, some (vI a), l2, l3] (vI a :: st) T σ K := R_iload_n (n := 1) (by decide +kernel) rfl
theorem s261_31 : Rn 261 31 L (vI b :: vI a :: st) T σ K ↔ (b ≤ a → Rn 261 95 L st T σ K) ∧ (a < b → Rn 261 34 L st T σ K) := R_icmp_ge (off := 64) (by decide +kernel) (by decide)
theorem s261_34 : Rn 261 34 [l0, l1, some (vI a), l3] st T σ K ↔ Rn 261 35 [l0, l1, some (vI a), l3] (vI a :: st) T σ K := R_iload_n (n := 2) (by decide +kernel) rfl
theorem s261_35 : Rn 261 35 L (vI a :: st) T σ K ↔ (a = 0 → Rn 261 95 L st T σ K) ∧ (a ≠ 0 → Rn 261 38 L st T σ K) := R_if_eq (off := 60) (by decide +kernel) (by decide)
theorem s261_38 : Rn 261 38 [some (vR o), l1, l2, l3] st T σ K ↔ Rn 261 39 [some (vR o), l1, l2, l3] (vR o :: st) T σ K := R_aload_n (n := 0) (by decide +kernel) rfl
theorem s261_39 : Rn 261 39 [some (vR o), l1, l2, l3] st T σ K ↔ Rn 261 40 [some (vR o), l1, l2, l3] (vR o :: st) T σ K := R_aload_n (n := 0) (by decide +kernel) rfl
theorem s261_40 : Rn 261 40 L (vR o :: st) T σ K ↔ sx_kd T o = 9 ∧ ∃ t, sx_rf T o 7 = some t ∧ Rn 261 43 L (vR t :: st) T σ K := R_getR (idx := 33) (ci := 9) (k := 7) (by decide +kernel) (by decide +kernel) rfl
theorem s261_43 : Rn 261 43 [l0, l1, l2, some (vI a)] st T σ K ↔ Rn 261 44 [l0, l1, l2, some (vI a)] (vI a :: st) T σ K := R_iload_n (n := 3) (by decide +kernel) rfl
theorem s261_44 : Rn 261 44 L (vI a :: vR o :: st) T σ K ↔ (sx_kd T o = 20 ∧ 0 ≤ a ∧ a < sx_ln T o) ∧ Rn 261 45 L (vI (σ o a) :: st) T σ K := R_iald (by decide +kernel) (by decide)
theorem s261_45 : Rn 261 45 L (vI a :: vR o :: st) T σ K ↔ (sx_kd T o = 9 ∧ st.length ≤ 4) ∧ Rn 205 0 [some (vR o), some (vI a)] [] T σ (fun r T' σ' => Rn 261 48 L (sx_push r st) T' σ' K) := R_V (cm := 205) (n := 1) (idx := 254) (ci := 9) (mx := 2) (vs := [vI a]) (by decide +kernel) (by decide +kernel) rfl (by decide +kernel) rfl (by decide +kernel) (by decide +kernel)
theorem s261_48 : Rn 261 48 L (vI a :: st) T σ K ↔ (a = 0 → Rn 261 87 L st T σ K) ∧ (a ≠ 0 → Rn 261 51 L st T σ K) := R_if_eq (off := 39) (by decide +kernel) (by decide)
theorem s261_51 : Rn 261 51 [some (vR o), l1, l2, l3] st T σ K ↔ Rn 261 52 [some (vR o), l1, l2, l3] (vR o :: st) T σ K := R_aload_n (n := 0) (by decide +kernel) rfl
theorem s261_52 : Rn 261 52 [some (vR o), l1, l2, l3] st T σ K ↔ Rn 261 53 [some (vR o), l1, l2, l3] (vR o :: st) T σ K := R_aload_n (n := 0) (by decide +kernel) rfl
theorem s261_53 : Rn 261 53 L (vR o :: st) T σ K ↔ sx_kd T o = 9 ∧ ∃ t, sx_rf T o 7 = some t ∧ Rn 261 56 L (vR t :: st) T σ K := R_getR (idx := 33) (ci := 9) (k := 7) (by decide +kernel) (by decide +kernel) rfl
theorem s261_56 : Rn 261 56 [l0, l1, l2, some (vI a)] st T σ K ↔ Rn 261 57 [l0, l1, l2, some (vI a)] (vI a :: st) T σ K := R_iload_n (n := 3) (by decide +kernel) rfl
theorem s261_57 : Rn 261 57 L st T σ K ↔ Rn 261 58 L (vI 1 :: st) T σ K := R_iconst (n := 1) (by decide +kernel) (by decide)
theorem s261_58 : Rn 261 58 L (vI b :: vI a :: st) T σ K ↔ inI (a + b) ∧ Rn 261 59 L (vI (a + b) :: st) T σ K := R_iadd (by decide +kernel)
theorem s261_59 : Rn 261 59 L (vI a :: vR o :: st) T σ K ↔ (sx_kd T o = 20 ∧ 0 ≤ a ∧ a < sx_ln T o) ∧ Rn 261 60 L (vI (σ o a) :: st) T σ K := R_iald (by decide +kernel) (by decide)
theorem s261_60 : Rn 261 60 L (vI a :: vR o :: st) T σ K ↔ (sx_kd T o = 9 ∧ st.length ≤ 4) ∧ Rn 205 0 [some (vR o), some (vI a)] [] T σ (fun r T' σ' => Rn 261 63 L (sx_push r st) T' σ' K) := R_V (cm := 205) (n := 1) (idx := 254) (ci := 9) (mx := 2) (vs := [vI a]) (by decide +kernel) (by decide +kernel) rfl (by decide +kernel) rfl (by decide +kernel) (by decide +kernel)
theorem s261_63 : Rn 261 63 L (vI a :: st) T σ K ↔ (a = 0 → Rn 261 87 L st T σ K) ∧ (a ≠ 0 → Rn 261 66 L st T σ K) := R_if_eq (off := 24) (by decide +kernel) (by decide)
theorem s261_66 : Rn 261 66 [some (vR o), l1, l2, l3] st T σ K ↔ Rn 261 67 [some (vR o), l1, l2, l3] (vR o :: st) T σ K := R_aload_n (n := 0) (by decide +kernel) rfl
theorem s261_67 : Rn 261 67 L (vR o :: st) T σ K ↔ sx_kd T o = 9 ∧ ∃ t, sx_rf T o 7 = some t ∧ Rn 261 70 L (vR t :: st) T σ K := R_getR (idx := 33) (ci := 9) (k := 7) (by decide +kernel) (by decide +kernel) rfl
theorem s261_70 : Rn 261 70 [l0, l1, l2, some (vI a)] st T σ K ↔ Rn 261 71 [l0, l1, l2, some (vI a)] (vI a :: st) T σ K := R_iload_n (n := 3) (by decide +kernel) rfl
theorem s261_71 : Rn 261 71 L (vI a :: vR o :: st) T σ K ↔ (sx_kd T o = 20 ∧ 0 ≤ a ∧ a < sx_ln T o) ∧ Rn 261 72 L (vI (σ o a) :: st) T σ K := R_iald (by decide +kernel) (by decide)
theorem s261_72 : Rn 261 72 [some (vR o), l1, l2, l3] st T σ K ↔ Rn 261 73 [some (vR o), l1, l2, l3] (vR o :: st) T σ K := R_aload_n (n := 0) (by decide +kernel) rfl
theorem s261_73 : Rn 261 73 L (vR o :: st) T σ K ↔ sx_kd T o = 9 ∧ ∃ t, sx_rf T o 7 = some t ∧ Rn 261 76 L (vR t :: st) T σ K := R_getR (idx := 33) (ci := 9) (k := 7) (by decide +kernel) (by decide +kernel) rfl
theorem s261_76 : Rn 261 76 [l0, l1, l2, some (vI a)] st T σ K ↔ Rn 261 77 [l0, l1, l2, some (vI a)] (vI a :: st) T σ K := R_iload_n (n := 3) (by decide +kernel) rfl
theorem s261_77 : Rn 261 77 L st T σ K ↔ Rn 261 78 L (vI 1 :: st) T σ K := R_iconst (n := 1) (by decide +kernel) (by decide)
theorem s261_78 : Rn 261 78 L (vI b :: vI a :: st) T σ K ↔ inI (a + b) ∧ Rn 261 79 L (vI (a + b) :: st) T σ K := R_iadd (by decide +kernel)
theorem s261_79 : Rn 261 79 L (vI a :: vR o :: st) T σ K ↔ (sx_kd T o = 20 ∧ 0 ≤ a ∧ a < sx_ln T o) ∧ Rn 261 80 L (vI (σ o a) :: st) T σ K := R_iald (by decide +kernel) (by decide)
theorem s261_80 : Rn 261 80 L (vI b :: vI a :: st) T σ K ↔ (a = b → Rn 261 87 L st T σ K) ∧ (a ≠ b → Rn 261 83 L st T σ K) := R_icmp_eq (off := 7) (by decide +kernel) (by decide)
theorem s261_83 : Rn 261 83 L st T σ K ↔ Rn 261 84 L (vI 1 :: st) T σ K := R_iconst (n := 1) (by decide +kernel) (by decide)
theorem s261_84 : Rn 261 84 L st T σ K ↔ Rn 261 88 L st T σ K := R_goto (off := 4) (by decide +kernel) (by decide)
theorem s261_87 : Rn 261 87 L st T σ K ↔ Rn 261 88 L (vI 0 :: st) T σ K := R_iconst (n := 0) (by decide +kernel) (by decide)
theorem s261_88 : Rn 261 88 [l0, l1, l2, l3] (vI a :: st) T σ K ↔ Rn 261 89 [l0, l1, some (vI a), l3] st T σ K := R_istore_n (n := 2) (by decide +kernel) rfl
theorem s261_89 : Rn 261 89 [l0, l1, l2, some (vI a)] st T σ K ↔ inI (a + 4) ∧ Rn 261 92 [l0, l1, l2, some (vI (a + 4))] st T σ K := R_iinc (n := 3) (d := 4) (by decide +kernel) rfl
theorem s261_92 : Rn 261 92 L st T σ K ↔ Rn 261 29 L st T σ K := R_goto (off := -63) (by decide +kernel) (by decide)
theorem s261_95 : Rn 261 95 [l0, l1, some (vI a), l3] st T σ K ↔ Rn 261 96 [l0, l1, some (vI a), l3] (vI a :: st) T σ K := R_iload_n (n := 2) (by decide +kernel) rfl
theorem s261_96 : Rn 261 96 L (vI a :: st) T σ K ↔ (a ≠ 0 → Rn 261 105 L st T σ K) ∧ (a = 0 → Rn 261 99 L st T σ K) := R_if_ne (off := 9) (by decide +kernel) (by decide)
theorem s261_99 : Rn 261 99 [some (vR o), l1, l2, l3] st T σ K ↔ Rn 261 100 [some (vR o), l1, l2, l3] (vR o :: st) T σ K := R_aload_n (n := 0) (by decide +kernel) rfl
theorem s261_100 : Rn 261 100 L st T σ K ↔ Rn 261 101 L (vI 1 :: st) T σ K := R_iconst (n := 1) (by decide +kernel) (by decide)
theorem s261_101 : Rn 261 101 L (vI a :: vR o :: st) T σ K ↔ (sx_kd T o = 9 ∧ st.length ≤ 4) ∧ Rn 169 0 [some (vR o), some (vI a)] [] T σ (fun r T' σ' => Rn 261 104 L (sx_push r st) T' σ' K) := R_V (cm := 169) (n := 1) (idx := 138) (ci := 9) (mx := 2) (vs := [vI a]) (by decide +kernel) (by decide +kernel) rfl (by decide +kernel) rfl (by decide +kernel) (by decide +kernel)
theorem s261_104 : Rn 261 104 L [vI a] T σ K ↔ K (some (vI a)) T σ := R_ret (by decide +kernel) (by decide +kernel)
theorem s261_105 : Rn 261 105 [some (vR o), l1, l2, l3] st T σ K ↔ Rn 261 106 [some (vR o), l1, l2, l3] (vR o :: st) T σ K := R_aload_n (n := 0) (by decide +kernel) rfl
theorem s261_106 : Rn 261 106 [l0, some (vI a), l2, l3] st T σ K ↔ Rn 261 107 [l0, some (vI a), l2, l3] (vI a :: st) T σ K := R_iload_n (n := 1) (by decide +kernel) rfl
theorem s261_107 : Rn 261 107 L st T σ K ↔ Rn 261 108 L (vI 4 :: st) T σ K := R_iconst (n := 4) (by decide +kernel) (by decide)
theorem s261_108 : Rn 261 108 L (vI b :: vI a :: st) T σ K ↔ 0 < b ∧ inI (a.tdiv b) ∧ Rn 261 109 L (vI (a.tdiv b) :: st) T σ K := R_idiv (by decide +kernel)
theorem s261_109 : Rn 261 109 L (vI a :: vR o :: st) T σ K ↔ sx_kd T o = 9 ∧ Rn 261 112 L st T (sx_up σ o 36 a) K := R_putI (idx := 120) (ci := 9) (k := 36) (by decide +kernel) (by decide +kernel) rfl rfl
theorem s261_112 : Rn 261 112 L st T σ K ↔ Rn 261 113 L (vI 0 :: st) T σ K := R_iconst (n := 0) (by decide +kernel) (by decide)
theorem s261_113 : Rn 261 113 [l0, l1, l2, l3] (vI a :: st) T σ K ↔ Rn 261 114 [l0, l1, l2, some (vI a)] st T σ K := R_istore_n (n := 3) (by decide +kernel) rfl
theorem s261_114 : Rn 261 114 [l0, l1, l2, some (vI a)] st T σ K ↔ Rn 261 115 [l0, l1, l2, some (vI a)] (vI a :: st) T σ K := R_iload_n (n := 3) (by decide +kernel) rfl
theorem s261_115 : Rn 261 115 [some (vR o), l1, l2, l3] st T σ K ↔ Rn 261 116 [some (vR o), l1, l2, l3] (vR o :: st) T σ K := R_aload_n (n := 0) (by decide +kernel) rfl
theorem s261_116 : Rn 261 116 L (vR o :: st) T σ K ↔ sx_kd T o = 9 ∧ Rn 261 119 L (vI (σ o 36) :: st) T σ K := R_getI (idx := 120) (ci := 9) (k := 36) (by decide +kernel) (by decide +kernel) (Or.inl rfl)
theorem s261_119 : Rn 261 119 L (vI b :: vI a :: st) T σ K ↔ (b ≤ a → Rn 261 189 L st T σ K) ∧ (a < b → Rn 261 122 L st T σ K) := R_icmp_ge (off := 70) (by decide +kernel) (by decide)
theorem s261_122 : Rn 261 122 [some (vR o), l1, l2, l3] st T σ K ↔ Rn 261 123 [some (vR o), l1, l2, l3] (vR o :: st) T σ K := R_aload_n (n := 0) (by decide +kernel) rfl
theorem s261_123 : Rn 261 123 L (vR o :: st) T σ K ↔ sx_kd T o = 9 ∧ ∃ t, sx_rf T o 37 = some t ∧ Rn 261 126 L (vR t :: st) T σ K := R_getR (idx := 123) (ci := 9) (k := 37) (by decide +kernel) (by decide +kernel) rfl
theorem s261_126 : Rn 261 126 [l0, l1, l2, some (vI a)] st T σ K ↔ Rn 261 127 [l0, l1, l2, some (vI a)] (vI a :: st) T σ K := R_iload_n (n := 3) (by decide +kernel) rfl
theorem s261_127 : Rn 261 127 [some (vR o), l1, l2, l3] st T σ K ↔ Rn 261 128 [some (vR o), l1, l2, l3] (vR o :: st) T σ K := R_aload_n (n := 0) (by decide +kernel) rfl
theorem s261_128 : Rn 261 128 L (vR o :: st) T σ K ↔ sx_kd T o = 9 ∧ ∃ t, sx_rf T o 7 = some t ∧ Rn 261 131 L (vR t :: st) T σ K := R_getR (idx := 33) (ci := 9) (k := 7) (by decide +kernel) (by decide +kernel) rfl
theorem s261_131 : Rn 261 131 L st T σ K ↔ Rn 261 132 L (vI 4 :: st) T σ K := R_iconst (n := 4) (by decide +kernel) (by decide)
theorem s261_132 : Rn 261 132 [l0, l1, l2, some (vI a)] st T σ K ↔ Rn 261 133 [l0, l1, l2, some (vI a)] (vI a :: st) T σ K := R_iload_n (n := 3) (by decide +kernel) rfl
theorem s261_133 : Rn 261 133 L (vI b :: vI a :: st) T σ K ↔ inI (a * b) ∧ Rn 261 134 L (vI (a * b) :: st) T σ K := R_imul (by decide +kernel)
theorem s261_134 : Rn 261 134 L (vI a :: vR o :: st) T σ K ↔ (sx_kd T o = 20 ∧ 0 ≤ a ∧ a < sx_ln T o) ∧ Rn 261 135 L (vI (σ o a) :: st) T σ K := R_iald (by decide +kernel) (by decide)
theorem s261_135 : Rn 261 135 L (vI b :: vI a :: vR o :: st) T σ K ↔ (sx_kd T o = 20 ∧ 0 ≤ a ∧ a < sx_ln T o) ∧ Rn 261 136 L st T (sx_up σ o a b) K := R_iast (by decide +kernel)
theorem s261_136 : Rn 261 136 [some (vR o), l1, l2, l3] st T σ K ↔ Rn 261 137 [some (vR o), l1, l2, l3] (vR o :: st) T σ K := R_aload_n (n := 0) (by decide +kernel) rfl
theorem s261_137 : Rn 261 137 L (vR o :: st) T σ K ↔ sx_kd T o = 9 ∧ ∃ t, sx_rf T o 38 = some t ∧ Rn 261 140 L (vR t :: st) T σ K := R_getR (idx := 126) (ci := 9) (k := 38) (by decide +kernel) (by decide +kernel) rfl
theorem s261_140 : Rn 261 140 [l0, l1, l2, some (vI a)] st T σ K ↔ Rn 261 141 [l0, l1, l2, some (vI a)] (vI a :: st) T σ K := R_iload_n (n := 3) (by decide +kernel) rfl
theorem s261_141 : Rn 261 141 [some (vR o), l1, l2, l3] st T σ K ↔ Rn 261 142 [some (vR o), l1, l2, l3] (vR o :: st) T σ K := R_aload_n (n := 0) (by decide +kernel) rfl
theorem s261_142 : Rn 261 142 L (vR o :: st) T σ K ↔ sx_kd T o = 9 ∧ ∃ t, sx_rf T o 7 = some t ∧ Rn 261 145 L (vR t :: st) T σ K := R_getR (idx := 33) (ci := 9) (k := 7) (by decide +kernel) (by decide +kernel) rfl
theorem s261_145 : Rn 261 145 L st T σ K ↔ Rn 261 146 L (vI 4 :: st) T σ K := R_iconst (n := 4) (by decide +kernel) (by decide)
theorem s261_146 : Rn 261 146 [l0, l1, l2, some (vI a)] st T σ K ↔ Rn 261 147 [l0, l1, l2, some (vI a)] (vI a :: st) T σ K := R_iload_n (n := 3) (by decide +kernel) rfl
theorem s261_147 : Rn 261 147 L (vI b :: vI a :: st) T σ K ↔ inI (a * b) ∧ Rn 261 148 L (vI (a * b) :: st) T σ K := R_imul (by decide +kernel)
theorem s261_148 : Rn 261 148 L st T σ K ↔ Rn 261 149 L (vI 1 :: st) T σ K := R_iconst (n := 1) (by decide +kernel) (by decide)
theorem s261_149 : Rn 261 149 L (vI b :: vI a :: st) T σ K ↔ inI (a + b) ∧ Rn 261 150 L (vI (a + b) :: st) T σ K := R_iadd (by decide +kernel)
theorem s261_150 : Rn 261 150 L (vI a :: vR o :: st) T σ K ↔ (sx_kd T o = 20 ∧ 0 ≤ a ∧ a < sx_ln T o) ∧ Rn 261 151 L (vI (σ o a) :: st) T σ K := R_iald (by decide +kernel) (by decide)
theorem s261_151 : Rn 261 151 L (vI b :: vI a :: vR o :: st) T σ K ↔ (sx_kd T o = 20 ∧ 0 ≤ a ∧ a < sx_ln T o) ∧ Rn 261 152 L st T (sx_up σ o a b) K := R_iast (by decide +kernel)
theorem s261_152 : Rn 261 152 [some (vR o), l1, l2, l3] st T σ K ↔ Rn 261 153 [some (vR o), l1, l2, l3] (vR o :: st) T σ K := R_aload_n (n := 0) (by decide +kernel) rfl
theorem s261_153 : Rn 261 153 L (vR o :: st) T σ K ↔ sx_kd T o = 9 ∧ ∃ t, sx_rf T o 39 = some t ∧ Rn 261 156 L (vR t :: st) T σ K := R_getR (idx := 129) (ci := 9) (k := 39) (by decide +kernel) (by decide +kernel) rfl
theorem s261_156 : Rn 261 156 [l0, l1, l2, some (vI a)] st T σ K ↔ Rn 261 157 [l0, l1, l2, some (vI a)] (vI a :: st) T σ K := R_iload_n (n := 3) (by decide +kernel) rfl
theorem s261_157 : Rn 261 157 [some (vR o), l1, l2, l3] st T σ K ↔ Rn 261 158 [some (vR o), l1, l2, l3] (vR o :: st) T σ K := R_aload_n (n := 0) (by decide +kernel) rfl
theorem s261_158 : Rn 261 158 L (vR o :: st) T σ K ↔ sx_kd T o = 9 ∧ ∃ t, sx_rf T o 7 = some t ∧ Rn 261 161 L (vR t :: st) T σ K := R_getR (idx := 33) (ci := 9) (k := 7) (by decide +kernel) (by decide +kernel) rfl
theorem s261_161 : Rn 261 161 L st T σ K ↔ Rn 261 162 L (vI 4 :: st) T σ K := R_iconst (n := 4) (by decide +kernel) (by decide)
theorem s261_162 : Rn 261 162 [l0, l1, l2, some (vI a)] st T σ K ↔ Rn 261 163 [l0, l1, l2, some (vI a)] (vI a :: st) T σ K := R_iload_n (n := 3) (by decide +kernel) rfl
theorem s261_163 : Rn 261 163 L (vI b :: vI a :: st) T σ K ↔ inI (a * b) ∧ Rn 261 164 L (vI (a * b) :: st) T σ K := R_imul (by decide +kernel)
theorem s261_164 : Rn 261 164 L st T σ K ↔ Rn 261 165 L (vI 2 :: st) T σ K := R_iconst (n := 2) (by decide +kernel) (by decide)
theorem s261_165 : Rn 261 165 L (vI b :: vI a :: st) T σ K ↔ inI (a + b) ∧ Rn 261 166 L (vI (a + b) :: st) T σ K := R_iadd (by decide +kernel)
theorem s261_166 : Rn 261 166 L (vI a :: vR o :: st) T σ K ↔ (sx_kd T o = 20 ∧ 0 ≤ a ∧ a < sx_ln T o) ∧ Rn 261 167 L (vI (σ o a) :: st) T σ K := R_iald (by decide +kernel) (by decide)
theorem s261_167 : Rn 261 167 L st T σ K ↔ Rn 261 170 L (vI 256 :: st) T σ K := R_sipush (n := 256) (by decide +kernel) (by decide +kernel)
theorem s261_170 : Rn 261 170 L (vI b :: vI a :: st) T σ K ↔ inI (a * b) ∧ Rn 261 171 L (vI (a * b) :: st) T σ K := R_imul (by decide +kernel)
theorem s261_171 : Rn 261 171 [some (vR o), l1, l2, l3] st T σ K ↔ Rn 261 172 [some (vR o), l1, l2, l3] (vR o :: st) T σ K := R_aload_n (n := 0) (by decide +kernel) rfl
theorem s261_172 : Rn 261 172 L (vR o :: st) T σ K ↔ sx_kd T o = 9 ∧ ∃ t, sx_rf T o 7 = some t ∧ Rn 261 175 L (vR t :: st) T σ K := R_getR (idx := 33) (ci := 9) (k := 7) (by decide +kernel) (by decide +kernel) rfl
theorem s261_175 : Rn 261 175 L st T σ K ↔ Rn 261 176 L (vI 4 :: st) T σ K := R_iconst (n := 4) (by decide +kernel) (by decide)
theorem s261_176 : Rn 261 176 [l0, l1, l2, some (vI a)] st T σ K ↔ Rn 261 177 [l0, l1, l2, some (vI a)] (vI a :: st) T σ K := R_iload_n (n := 3) (by decide +kernel) rfl
theorem s261_177 : Rn 261 177 L (vI b :: vI a :: st) T σ K ↔ inI (a * b) ∧ Rn 261 178 L (vI (a * b) :: st) T σ K := R_imul (by decide +kernel)
theorem s261_178 : Rn 261 178 L st T σ K ↔ Rn 261 179 L (vI 3 :: st) T σ K := R_iconst (n := 3) (by decide +kernel) (by decide)
theorem s261_179 : Rn 261 179 L (vI b :: vI a :: st) T σ K ↔ inI (a + b) ∧ Rn 261 180 L (vI (a + b) :: st) T σ K := R_iadd (by decide +kernel)
theorem s261_180 : Rn 261 180 L (vI a :: vR o :: st) T σ K ↔ (sx_kd T o = 20 ∧ 0 ≤ a ∧ a < sx_ln T o) ∧ Rn 261 181 L (vI (σ o a) :: st) T σ K := R_iald (by decide +kernel) (by decide)
theorem s261_181 : Rn 261 181 L (vI b :: vI a :: st) T σ K ↔ inI (a + b) ∧ Rn 261 182 L (vI (a + b) :: st) T σ K := R_iadd (by decide +kernel)
theorem s261_182 : Rn 261 182 L (vI b :: vI a :: vR o :: st) T σ K ↔ (sx_kd T o = 20 ∧ 0 ≤ a ∧ a < sx_ln T o) ∧ Rn 261 183 L st T (sx_up σ o a b) K := R_iast (by decide +kernel)
theorem s261_183 : Rn 261 183 [l0, l1, l2, some (vI a)] st T σ K ↔ inI (a + 1) ∧ Rn 261 186 [l0, l1, l2, some (vI (a + 1))] st T σ K := R_iinc (n := 3) (d := 1) (by decide +kernel) rfl
theorem s261_186 : Rn 261 186 L st T σ K ↔ Rn 261 114 L st T σ K := R_goto (off := -72) (by decide +kernel) (by decide)
theorem s261_189 : Rn 261 189 [some (vR o), l1, l2, l3] st T σ K ↔ Rn 261 190 [some (vR o), l1, l2, l3] (vR o :: st) T σ K := R_aload_n (n := 0) (by decide +kernel) rfl
theorem s261_190 : Rn 261 190 L (vR o :: st) T σ K ↔ sx_kd T o = 9 ∧ Rn 261 193 L (vI (σ o 36) :: st) T σ K := R_getI (idx := 120) (ci := 9) (k := 36) (by decide +kernel) (by decide +kernel) (Or.inl rfl)
theorem s261_193 : Rn 261 193 L [vI a] T σ K ↔ K (some (vI a)) T σ := R_ret (by decide +kernel) (by decide +kernel)
theorem s262_0 : Rn 262 0 [some (vR o), l1, l2, l3] st T σ K ↔ Rn 262 1 [some (vR o), l1, l2, l3] (vR o :: st) T σ K := R_aload_n (n := 0) (by decide +kernel) rfl
theorem s262_1 : Rn 262 1 L (vR o :: st) T σ K ↔ sx_kd T o = 9 ∧ Rn 262 4 L (vI (σ o 6) :: st) T σ K := R_getI (idx := 29) (ci := 9) (k := 6) (by decide +kernel) (by decide +kernel) (Or.inr rfl)
theorem s262_4 : Rn 262 4 L (vI a :: st) T σ K ↔ (a = 0 → Rn 262 12 L st T σ K) ∧ (a ≠ 0 → Rn 262 7 L st T σ K) := R_if_eq (off := 8) (by decide +kernel) (by decide)
theorem s262_7 : Rn 262 7 [l0, some (vI a), l2, l3] st T σ K ↔ Rn 262 8 [l0, some (vI a), l2, l3] (vI a :: st) T σ K := R_iload_n (n := 1) (by decide +kernel) rfl
theorem s262_8 : Rn 262 8 L st T σ K ↔ Rn 262 9 L (vI (-1) :: st) T σ K := R_iconst (n := -1) (by decide +kernel) (by decide)
theorem s262_9 : Rn 262 9 L (vI b :: vI a :: st) T σ K ↔ (b ≤ a → Rn 262 14 L st T σ K) ∧ (a < b → Rn 262 12 L st T σ K) := R_icmp_ge (off := 5) (by decide +kernel) (by decide)
theorem s262_12 : Rn 262 12 L st T σ K ↔ Rn 262 13 L (vI (-1) :: st) T σ K := R_iconst (n := -1) (by decide +kernel) (by decide)
theorem s262_13 : Rn 262 13 L [vI a] T σ K ↔ K (some (vI a)) T σ := R_ret (by decide +kernel) (by decide +kernel)
theorem s262_14 : Rn 262 14 L st T σ K ↔ Rn 262 15 L (vI 0 :: st) T σ K := R_iconst (n := 0) (by decide +kernel) (by decide)
theorem s262_15 : Rn 262 15 [l0, l1, l2, l3] (vI a :: st) T σ K ↔ Rn 262 16 [l0, l1, some (vI a), l3] st T σ K := R_istore_n (n := 2) (by decide +kernel) rfl
theorem s262_16 : Rn 262 16 L st T σ K ↔ Rn 262 17 L (vI 0 :: st) T σ K := R_iconst (n := 0) (by decide +kernel) (by decide)
theorem s262_17 : Rn 262 17 [l0, l1, l2, l3] (vI a :: st) T σ K ↔ Rn 262 18 [l0, l1, l2, some (vI a)] st T σ K := R_istore_n (n := 3) (by decide +kernel) rfl
theorem s262_18 : Rn 262 18 [l0, l1, l2, some (vI a)] st T σ K ↔ Rn 262 19 [l0, l1, l2, some (vI a)] (vI a :: st) T σ K := R_iload_n (n := 3) (by decide +kernel) rfl
theorem s262_19 : Rn 262 19 L st T σ K ↔ Rn 262 20 L (vI 3 :: st) T σ K := R_iconst (n := 3) (by decide +kernel) (by decide)
theorem s262_20 : Rn 262 20 L (vI b :: vI a :: st) T σ K ↔ (b ≤ a → Rn 262 50 L st T σ K) ∧ (a < b → Rn 262 23 L st T σ K) := R_icmp_ge (off := 30) (by decide +kernel) (by decide)
theorem s262_23 : Rn 262 23 [some (vR o), l1, l2, l3] st T σ K ↔ Rn 262 24 [some (vR o), l1, l2, l3] (vR o :: st) T σ K := R_aload_n (n := 0) (by decide +kernel) rfl
theorem s262_24 : Rn 262 24 [l0, l1, l2, some (vI a)] st T σ K ↔ Rn 262 25 [l0, l1, l2, some (vI a)] (vI a :: st) T σ K := R_iload_n (n := 3) (by decide +kernel) rfl
theorem s262_25 : Rn 262 25 L (vI a :: vR o :: st) T σ K ↔ (sx_kd T o = 9 ∧ st.length ≤ 4) ∧ Rn 263 0 [some (vR o), some (vI a), none] [] T σ (fun r T' σ' => Rn 262 28 L (sx_push r st) T' σ' K) := R_V (cm := 263) (n := 1) (idx := 340) (ci := 9) (mx := 3) (vs := [vI a]) (by decide +kernel) (by decide +kernel) rfl (by decide +kernel) rfl (by decide +kernel) (by decide +kernel)
theorem s262_28 : Rn 262 28 L (vI a :: st) T σ K ↔ (a ≠ 0 → Rn 262 34 L st T σ K) ∧ (a = 0 → Rn 262 31 L st T σ K) := R_if_ne (off := 6) (by decide +kernel) (by decide)
theorem s262_31 : Rn 262 31 L st T σ K ↔ Rn 262 44 L st T σ K := R_goto (off := 13) (by decide +kernel) (by decide)
theorem s262_34 : Rn 262 34 [l0, l1, some (vI a), l3] st T σ K ↔ Rn 262 35 [l0, l1, some (vI a), l3] (vI a :: st) T σ K := R_iload_n (n := 2) (by decide +kernel) rfl
theorem s262_35 : Rn 262 35 [l0, some (vI a), l2, l3] st T σ K ↔ Rn 262 36 [l0, some (vI a), l2, l3] (vI a :: st) T σ K := R_iload_n (n := 1) (by decide +kernel) rfl
theorem s262_36 : Rn 262 36 L (vI b :: vI a :: st) T σ K ↔ (a ≠ b → Rn 262 41 L st T σ K) ∧ (a = b → Rn 262 39 L st T σ K) := R_icmp_ne (off := 5) (by decide +kernel) (by decide)
theorem s262_39 : Rn 262 39 [l0, l1, l2, some (vI a)] st T σ K ↔ Rn 262 40 [l0, l1, l2, some (vI a)] (vI a :: st) T σ K := R_iload_n (n := 3) (by decide +kernel) rfl
theorem s262_40 : Rn 262 40 L [vI a] T σ K ↔ K (some (vI a)) T σ := R_ret (by decide +kernel) (by decide +kernel)
theorem s262_41 : Rn 262 41 [l0, l1, some (vI a), l3] st T σ K ↔ inI (a + 1) ∧ Rn 262 44 [l0, l1, some (vI (a + 1)), l3] st T σ K := R_iinc (n := 2) (d := 1) (by decide +kernel) rfl
theorem s262_44 : Rn 262 44 [l0, l1, l2, some (vI a)] st T σ K ↔ inI (a + 1) ∧ Rn 262 47 [l0, l1, l2, some (vI (a + 1))] st T σ K := R_iinc (n := 3) (d := 1) (by decide +kernel) rfl
theorem s262_47 : Rn 262 47 L st T σ K ↔ Rn 262 18 L st T σ K := R_goto (off := -29) (by decide +kernel) (by decide)
theorem s262_50 : Rn 262 50 [l0, some (vI a), l2, l3] st T σ K ↔ Rn 262 51 [l0, some (vI a), l2, l3] (vI a :: st) T σ K := R_iload_n (n := 1) (by decide +kernel) rfl
theorem s262_51 : Rn 262 51 L st T σ K ↔ Rn 262 52 L (vI (-1) :: st) T σ K := R_iconst (n := -1) (by decide +kernel) (by decide)
theorem s262_52 : Rn 262 52 L (vI b :: vI a :: st) T σ K ↔ (a ≠ b → Rn 262 59 L st T σ K) ∧ (a = b → Rn 262 55 L st T σ K) := R_icmp_ne (off := 7) (by decide +kernel) (by decide)
theorem s262_55 : Rn 262 55 [l0, l1, some (vI a), l3] st T σ K ↔ Rn 262 56 [l0, l1, some (vI a), l3] (vI a :: st) T σ K := R_iload_n (n := 2) (by decide +kernel) rfl
theorem s262_56 : Rn 262 56 L st T σ K ↔ Rn 262 60 L st T σ K := R_goto (off := 4) (by decide +kernel) (by decide)
theorem s262_59 : Rn 262 59 L st T σ K ↔ Rn 262 60 L (vI (-1) :: st) T σ K := R_iconst (n := -1) (by decide +kernel) (by decide)
theorem s262_60 : Rn 262 60 L [vI a] T σ K ↔ K (some (vI a)) T σ := R_ret (by decide +kernel) (by decide +kernel)
theorem s263_0 : Rn 263 0 L st T σ K ↔ Rn 263 1 L (vI 0 :: st) T σ K := R_iconst (n := 0) (by decide +kernel) (by decide)
theorem s263_1 : Rn 263 1 [l0, l1, l2] (vI a :: st) T σ K ↔ Rn 263 2 [l0, l1, some (vI a)] st T σ K := R_istore_n (n := 2) (by decide +kernel) rfl
theorem s263_2 : Rn 263 2 [l0, l1, some (vI a)] st T σ K ↔ Rn 263 3 [l0, l1, some (vI a)] (vI a :: st) T σ K := R_iload_n (n := 2) (by decide +kernel) rfl
theorem s263_3 : Rn 263 3 [some (vR o), l1, l2] st T σ K ↔ Rn 263 4 [some (vR o), l1, l2] (vR o :: st) T σ K := R_aload_n (n := 0) (by decide +kernel) rfl
theorem s263_4 : Rn 263 4 L (vR o :: st) T σ K ↔ sx_kd T o = 9 ∧ Rn 263 7 L (vI (σ o 36) :: st) T σ K := R_getI (idx := 120) (ci := 9) (k := 36) (by decide +kernel) (by decide +kernel) (Or.inl rfl)
theorem s263_7 : Rn 263 7 L (vI b :: vI a :: st) T σ K ↔ (b ≤ a → Rn 263 70 L st T σ K) ∧ (a < b → Rn 263 10 L st T σ K) := R_icmp_ge (off := 63) (by decide +kernel) (by decide)
theorem s263_10 : Rn 263 10 [some (vR o), l1, l2] st T σ K ↔ Rn 263 11 [some (vR o), l1, l2] (vR o :: st) T σ K := R_aload_n (n := 0) (by decide +kernel) rfl
theorem s263_11 : Rn 263 11 [some (vR o), l1, l2] st T σ K ↔ Rn 263 12 [some (vR o), l1, l2] (vR o :: st) T σ K := R_aload_n (n := 0) (by decide +kernel) rfl
theorem s263_12 : Rn 263 12 L (vR o :: st) T σ K ↔ sx_kd T o = 9 ∧ ∃ t, sx_rf T o 37 = some t ∧ Rn 263 15 L (vR t :: st) T σ K := R_getR (idx := 123) (ci := 9) (k := 37) (by decide +kernel) (by decide +kernel) rfl
theorem s263_15 : Rn 263 15 [l0, l1, some (vI a)] st T σ K ↔ Rn 263 16 [l0, l1, some (vI a)] (vI a :: st) T σ K := R_iload_n (n := 2) (by decide +kernel) rfl
theorem s263_16 : Rn 263 16 L (vI a :: vR o :: st) T σ K ↔ (sx_kd T o = 20 ∧ 0 ≤ a ∧ a < sx_ln T o) ∧ Rn 263 17 L (vI (σ o a) :: st) T σ K := R_iald (by decide +kernel) (by decide)
theorem s263_17 : Rn 263 17 L (vI a :: vR o :: st) T σ K ↔ (sx_kd T o = 9 ∧ st.length ≤ 4) ∧ Rn 205 0 [some (vR o), some (vI a)] [] T σ (fun r T' σ' => Rn 263 20 L (sx_push r st) T' σ' K) := R_V (cm := 205) (n := 1) (idx := 254) (ci := 9) (mx := 2) (vs := [vI a]) (by decide +kernel) (by decide +kernel) rfl (by decide +kernel) rfl (by decide +kernel) (by decide +kernel)
theorem s263_20 : Rn 263 20 L (vI a :: st) T σ K ↔ (a = 0 → Rn 263 64 L st T σ K) ∧ (a ≠ 0 → Rn 263 23 L st T σ K) := R_if_eq (off := 44) (by decide +kernel) (by decide)
theorem s263_23 : Rn 263 23 [some (vR o), l1, l2] st T σ K ↔ Rn 263 24 [some (vR o), l1, l2] (vR o :: st) T σ K := R_aload_n (n := 0) (by decide +kernel) rfl
theorem s263_24 : Rn 263 24 [some (vR o), l1, l2] st T σ K ↔ Rn 263 25 [some (vR o), l1, l2] (vR o :: st) T σ K := R_aload_n (n := 0) (by decide +kernel) rfl
theorem s263_25 : Rn 263 25 L (vR o :: st) T σ K ↔ sx_kd T o = 9 ∧ ∃ t, sx_rf T o 38 = some t ∧ Rn 263 28 L (vR t :: st) T σ K := R_getR (idx := 126) (ci := 9) (k := 38) (by decide +kernel) (by decide +kernel) rfl
theorem s263_28 : Rn 263 28 [l0, l1, some (vI a)] st T σ K ↔ Rn 263 29 [l0, l1, some (vI a)] (vI a :: st) T σ K := R_iload_n (n := 2) (by decide +kernel) rfl
theorem s263_29 : Rn 263 29 L (vI a :: vR o :: st) T σ K ↔ (sx_kd T o = 20 ∧ 0 ≤ a ∧ a < sx_ln T o) ∧ Rn 263 30 L (vI (σ o a) :: st) T σ K := R_iald (by decide +kernel) (by decide)
theorem s263_30 : Rn 263 30 L (vI a :: vR o :: st) T σ K ↔ (sx_kd T o = 9 ∧ st.length ≤ 4) ∧ Rn 205 0 [some (vR o), some (vI a)] [] T σ (fun r T' σ' => Rn 263 33 L (sx_push r st) T' σ' K) := R_V (cm := 205) (n := 1) (idx := 254) (ci := 9) (mx := 2) (vs := [vI a]) (by decide +kernel) (by decide +kernel) rfl (by decide +kernel) rfl (by decide +kernel) (by decide +kernel)
theorem s263_33 : Rn 263 33 L (vI a :: st) T σ K ↔ (a = 0 → Rn 263 64 L st T σ K) ∧ (a ≠ 0 → Rn 263 36 L st T σ K) := R_if_eq (off := 31) (by decide +kernel) (by decide)
theorem s263_36 : Rn 263 36 [some (vR o), l1, l2] st T σ K ↔ Rn 263 37 [some (vR o), l1, l2] (vR o :: st) T σ K := R_aload_n (n := 0) (by decide +kernel) rfl
theorem s263_37 : Rn 263 37 [l0, some (vI a), l2] st T σ K ↔ Rn 263 38 [l0, some (vI a), l2] (vI a :: st) T σ K := R_iload_n (n := 1) (by decide +kernel) rfl
theorem s263_38 : Rn 263 38 [some (vR o), l1, l2] st T σ K ↔ Rn 263 39 [some (vR o), l1, l2] (vR o :: st) T σ K := R_aload_n (n := 0) (by decide +kernel) rfl
theorem s263_39 : Rn 263 39 L (vR o :: st) T σ K ↔ sx_kd T o = 9 ∧ ∃ t, sx_rf T o 37 = some t ∧ Rn 263 42 L (vR t :: st) T σ K := R_getR (idx := 123) (ci := 9) (k := 37) (by decide +kernel) (by decide +kernel) rfl
theorem s263_42 : Rn 263 42 [l0, l1, some (vI a)] st T σ K ↔ Rn 263 43 [l0, l1, some (vI a)] (vI a :: st) T σ K := R_iload_n (n := 2) (by decide +kernel) rfl
theorem s263_43 : Rn 263 43 L (vI a :: vR o :: st) T σ K ↔ (sx_kd T o = 20 ∧ 0 ≤ a ∧ a < sx_ln T o) ∧ Rn 263 44 L (vI (σ o a) :: st) T σ K := R_iald (by decide +kernel) (by decide)
theorem s263_44 : Rn 263 44 [some (vR o), l1, l2] st T σ K ↔ Rn 263 45 [some (vR o), l1, l2] (vR o :: st) T σ K := R_aload_n (n := 0) (by decide +kernel) rfl
theorem s263_45 : Rn 263 45 L (vR o :: st) T σ K ↔ sx_kd T o = 9 ∧ ∃ t, sx_rf T o 38 = some t ∧ Rn 263 48 L (vR t :: st) T σ K := R_getR (idx := 126) (ci := 9) (k := 38) (by decide +kernel) (by decide +kernel) rfl
theorem s263_48 : Rn 263 48 [l0, l1, some (vI a)] st T σ K ↔ Rn 263 49 [l0, l1, some (vI a)] (vI a :: st) T σ K := R_iload_n (n := 2) (by decide +kernel) rfl
theorem s263_49 : Rn 263 49 L (vI a :: vR o :: st) T σ K ↔ (sx_kd T o = 20 ∧ 0 ≤ a ∧ a < sx_ln T o) ∧ Rn 263 50 L (vI (σ o a) :: st) T σ K := R_iald (by decide +kernel) (by decide)
theorem s263_50 : Rn 263 50 L (vI c :: vI b :: vI a :: vR o :: st) T σ K ↔ (sx_kd T o = 9 ∧ st.length ≤ 4) ∧ Rn 264 0 [some (vR o), some (vI a), some (vI b), some (vI c)] [] T σ (fun r T' σ' => Rn 263 53 L (sx_push r st) T' σ' K) := R_V (cm := 264) (n := 3) (idx := 337) (ci := 9) (mx := 4) (vs := [vI a, vI b, vI c]) (by decide +kernel) (by decide +kernel) rfl (by decide +kernel) rfl (by decide +kernel) (by decide +kernel)
theorem s263_53 : Rn 263 53 [some (vR o), l1, l2] st T σ K ↔ Rn 263 54 [some (vR o), l1, l2] (vR o :: st) T σ K := R_aload_n (n := 0) (by decide +kernel) rfl
theorem s263_54 : Rn 263 54 L (vR o :: st) T σ K ↔ sx_kd T o = 9 ∧ ∃ t, sx_rf T o 39 = some t ∧ Rn 263 57 L (vR t :: st) T σ K := R_getR (idx := 129) (ci := 9) (k := 39) (by decide +kernel) (by decide +kernel) rfl
theorem s263_57 : Rn 263 57 [l0, l1, some (vI a)] st T σ K ↔ Rn 263 58 [l0, l1, some (vI a)] (vI a :: st) T σ K := R_iload_n (n := 2) (by decide +kernel) rfl
theorem s263_58 : Rn 263 58 L (vI a :: vR o :: st) T σ K ↔ (sx_kd T o = 20 ∧ 0 ≤ a ∧ a < sx_ln T o) ∧ Rn 263 59 L (vI (σ o a) :: st) T σ K := R_iald (by decide +kernel) (by decide)
theorem s263_59 : Rn 263 59 L (vI b :: vI a :: st) T σ K ↔ (a = b → Rn 263 64 L st T σ K) ∧ (a ≠ b → Rn 263 62 L st T σ K) := R_icmp_eq (off := 5) (by decide +kernel) (by decide)
theorem s263_62 : Rn 263 62 L st T σ K ↔ Rn 263 63 L (vI 0 :: st) T σ K := R_iconst (n := 0) (by decide +kernel) (by decide)
theorem s263_63 : Rn 263 63 L [vI a] T σ K ↔ (a = 0 ∨ a = 1) ∧ K (some (vI a)) T σ := R_retZ (by decide +kernel) (by decide +kernel)
theorem s263_64 : Rn 263 64 [l0, l1, some (vI a)] st T σ K ↔ inI (a + 1) ∧ Rn 263 67 [l0, l1, some (vI (a + 1))] st T σ K := R_iinc (n := 2) (d := 1) (by decide +kernel) rfl
theorem s263_67 : Rn 263 67 L st T σ K ↔ Rn 263 2 L st T σ K := R_goto (off := -65) (by decide +kernel) (by decide)
theorem s263_70 : Rn 263 70 L st T σ K ↔ Rn 263 71 L (vI 1 :: st) T σ K := R_iconst (n := 1) (by decide +kernel) (by decide)
theorem s263_71 : Rn 263 71 L [vI a] T σ K ↔ (a = 0 ∨ a = 1) ∧ K (some (vI a)) T σ := R_retZ (by decide +kernel) (by decide +kernel)
theorem s264_0 : Rn 264 0 [l0, some (vI a), l2, l3] st T σ K ↔ Rn 264 1 [l0, some (vI a), l2, l3] (vI a :: st) T σ K := R_iload_n (n := 1) (by decide +kernel) rfl
theorem s264_1 : Rn 264 1 [some (vR o), l1, l2, l3] st T σ K ↔ Rn 264 2 [some (vR o), l1, l2, l3] (vR o :: st) T σ K := R_aload_n (n := 0) (by decide +kernel) rfl
theorem s264_2 : Rn 264 2 L (vR o :: st) T σ K ↔ sx_kd T o = 9 ∧ ∃ t, sx_rf T o 0 = some t ∧ Rn 264 5 L (vR t :: st) T σ K := R_getR (idx := 7) (ci := 9) (k := 0) (by decide +kernel) (by decide +kernel) rfl
theorem s264_5 : Rn 264 5 L st T σ K ↔ Rn 264 7 L (vI 40 :: st) T σ K := R_bipush (n := 40) (by decide +kernel) (by decide +kernel)
theorem s264_7 : Rn 264 7 [l0, l1, some (vI a), l3] st T σ K ↔ Rn 264 8 [l0, l1, some (vI a), l3] (vI a :: st) T σ K := R_iload_n (n := 2) (by decide +kernel) rfl
theorem s264_8 : Rn 264 8 L (vI b :: vI a :: st) T σ K ↔ inI (a + b) ∧ Rn 264 9 L (vI (a + b) :: st) T σ K := R_iadd (by decide +kernel)
theorem s264_9 : Rn 264 9 L (vI a :: vR o :: st) T σ K ↔ (sx_kd T o = 20 ∧ 0 ≤ a ∧ a < sx_ln T o) ∧ Rn 264 10 L (vI (σ o a) :: st) T σ K := R_iald (by decide +kernel) (by decide)
theorem s264_10 : Rn 264 10 [some (vR o), l1, l2, l3] st T σ K ↔ Rn 264 11 [some (vR o), l1, l2, l3] (vR o :: st) T σ K := R_aload_n (n := 0) (by decide +kernel) rfl
theorem s264_11 : Rn 264 11 L (vR o :: st) T σ K ↔ sx_kd T o = 9 ∧ ∃ t, sx_rf T o 0 = some t ∧ Rn 264 14 L (vR t :: st) T σ K := R_getR (idx := 7) (ci := 9) (k := 0) (by decide +kernel) (by decide +kernel) rfl
theorem s264_14 : Rn 264 14 L st T σ K ↔ Rn 264 16 L (vI 80 :: st) T σ K := R_bipush (n := 80) (by decide +kernel) (by decide +kernel)
theorem s264_16 : Rn 264 16 [l0, l1, some (vI a), l3] st T σ K ↔ Rn 264 17 [l0, l1, some (vI a), l3] (vI a :: st) T σ K := R_iload_n (n := 2) (by decide +kernel) rfl
theorem s264_17 : Rn 264 17 L (vI b :: vI a :: st) T σ K ↔ inI (a + b) ∧ Rn 264 18 L (vI (a + b) :: st) T σ K := R_iadd (by decide +kernel)
theorem s264_18 : Rn 264 18 L (vI a :: vR o :: st) T σ K ↔ (sx_kd T o = 20 ∧ 0 ≤ a ∧ a < sx_ln T o) ∧ Rn 264 19 L (vI (σ o a) :: st) T σ K := R_iald (by decide +kernel) (by decide)
theorem s264_19 : Rn 264 19 [some (vR o), l1, l2, l3] st T σ K ↔ Rn 264 20 [some (vR o), l1, l2, l3] (vR o :: st) T σ K := R_aload_n (n := 0) (by decide +kernel) rfl
theorem s264_20 : Rn 264 20 L (vR o :: st) T σ K ↔ sx_kd T o = 9 ∧ ∃ t, sx_rf T o 0 = some t ∧ Rn 264 23 L (vR t :: st) T σ K := R_getR (idx := 7) (ci := 9) (k := 0) (by decide +kernel) (by decide +kernel) rfl
theorem s264_23 : Rn 264 23 L st T σ K ↔ Rn 264 25 L (vI 120 :: st) T σ K := R_bipush (n := 120) (by decide +kernel) (by decide +kernel)
theorem s264_25 : Rn 264 25 [l0, l1, some (vI a), l3] st T σ K ↔ Rn 264 26 [l0, l1, some (vI a), l3] (vI a :: st) T σ K := R_iload_n (n := 2) (by decide +kernel) rfl
theorem s264_26 : Rn 264 26 L (vI b :: vI a :: st) T σ K ↔ inI (a + b) ∧ Rn 264 27 L (vI (a + b) :: st) T σ K := R_iadd (by decide +kernel)
theorem s264_27 : Rn 264 27 L (vI a :: vR o :: st) T σ K ↔ (sx_kd T o = 20 ∧ 0 ≤ a ∧ a < sx_ln T o) ∧ Rn 264 28 L (vI (σ o a) :: st) T σ K := R_iald (by decide +kernel) (by decide)
theorem s264_28 : Rn 264 28 [some (vR o), l1, l2, l3] st T σ K ↔ Rn 264 29 [some (vR o), l1, l2, l3] (vR o :: st) T σ K := R_aload_n (n := 0) (by decide +kernel) rfl
theorem s264_29 : Rn 264 29 L (vR o :: st) T σ K ↔ sx_kd T o = 9 ∧ ∃ t, sx_rf T o 0 = some t ∧ Rn 264 32 L (vR t :: st) T σ K := R_getR (idx := 7) (ci := 9) (k := 0) (by decide +kernel) (by decide +kernel) rfl
theorem s264_32 : Rn 264 32 L st T σ K ↔ Rn 264 34 L (vI 40 :: st) T σ K := R_bipush (n := 40) (by decide +kernel) (by decide +kernel)
theorem s264_34 : Rn 264 34 [l0, l1, l2, some (vI a)] st T σ K ↔ Rn 264 35 [l0, l1, l2, some (vI a)] (vI a :: st) T σ K := R_iload_n (n := 3) (by decide +kernel) rfl
theorem s264_35 : Rn 264 35 L (vI b :: vI a :: st) T σ K ↔ inI (a + b) ∧ Rn 264 36 L (vI (a + b) :: st) T σ K := R_iadd (by decide +kernel)
theorem s264_36 : Rn 264 36 L (vI a :: vR o :: st) T σ K ↔ (sx_kd T o = 20 ∧ 0 ≤ a ∧ a < sx_ln T o) ∧ Rn 264 37 L (vI (σ o a) :: st) T σ K := R_iald (by decide +kernel) (by decide)
theorem s264_37 : Rn 264 37 [some (vR o), l1, l2, l3] st T σ K ↔ Rn 264 38 [some (vR o), l1, l2, l3] (vR o :: st) T σ K := R_aload_n (n := 0) (by decide +kernel) rfl
theorem s264_38 : Rn 264 38 L (vR o :: st) T σ K ↔ sx_kd T o = 9 ∧ ∃ t, sx_rf T o 0 = some t ∧ Rn 264 41 L (vR t :: st) T σ K := R_getR (idx := 7) (ci := 9) (k := 0) (by decide +kernel) (by decide +kernel) rfl
theorem s264_41 : Rn 264 41 L st T σ K ↔ Rn 264 43 L (vI 80 :: st) T σ K := R_bipush (n := 80) (by decide +kernel) (by decide +kernel)
theorem s264_43 : Rn 264 43 [l0, l1, l2, some (vI a)] st T σ K ↔ Rn 264 44 [l0, l1, l2, some (vI a)] (vI a :: st) T σ K := R_iload_n (n := 3) (by decide +kernel) rfl
theorem s264_44 : Rn 264 44 L (vI b :: vI a :: st) T σ K ↔ inI (a + b) ∧ Rn 264 45 L (vI (a + b) :: st) T σ K := R_iadd (by decide +kernel)
theorem s264_45 : Rn 264 45 L (vI a :: vR o :: st) T σ K ↔ (sx_kd T o = 20 ∧ 0 ≤ a ∧ a < sx_ln T o) ∧ Rn 264 46 L (vI (σ o a) :: st) T σ K := R_iald (by decide +kernel) (by decide)
theorem s264_46 : Rn 264 46 [some (vR o), l1, l2, l3] st T σ K ↔ Rn 264 47 [some (vR o), l1, l2, l3] (vR o :: st) T σ K := R_aload_n (n := 0) (by decide +kernel) rfl
theorem s264_47 : Rn 264 47 L (vR o :: st) T σ K ↔ sx_kd T o = 9 ∧ ∃ t, sx_rf T o 0 = some t ∧ Rn 264 50 L (vR t :: st) T σ K := R_getR (idx := 7) (ci := 9) (k := 0) (by decide +kernel) (by decide +kernel) rfl
theorem s264_50 : Rn 264 50 L st T σ K ↔ Rn 264 52 L (vI 120 :: st) T σ K := R_bipush (n := 120) (by decide +kernel) (by decide +kernel)
theorem s264_52 : Rn 264 52 [l0, l1, l2, some (vI a)] st T σ K ↔ Rn 264 53 [l0, l1, l2, some (vI a)] (vI a :: st) T σ K := R_iload_n (n := 3) (by decide +kernel) rfl
theorem s264_53 : Rn 264 53 L (vI b :: vI a :: st) T σ K ↔ inI (a + b) ∧ Rn 264 54 L (vI (a + b) :: st) T σ K := R_iadd (by decide +kernel)
theorem s264_54 : Rn 264 54 L (vI a :: vR o :: st) T σ K ↔ (sx_kd T o = 20 ∧ 0 ≤ a ∧ a < sx_ln T o) ∧ Rn 264 55 L (vI (σ o a) :: st) T σ K := R_iald (by decide +kernel) (by decide)
theorem s264_55 : Rn 264 55 L (vI g :: vI f :: vI e :: vI d :: vI c :: vI b :: vI a :: st) T σ K ↔ st.length ≤ 4 ∧ Rn 196 0 [some (vI a), some (vI b), some (vI c), some (vI d), some (vI e), some (vI f), some (vI g), none, none, none] [] T σ (fun r T' σ' => Rn 264 58 L (sx_push r st) T' σ' K) := R_S (cm := 196) (n := 7) (idx := 219) (mx := 10) (vs := [vI a, vI b, vI c, vI d, vI e, vI f, vI g]) (by decide +kernel) (Or.inl (by decide +kernel)) rfl (by decide +kernel) rfl (by decide +kernel)
theorem s264_58 : Rn 264 58 L [vI a] T σ K ↔ K (some (vI a)) T σ := R_ret (by decide +kernel) (by decide +kernel)
theorem s265_0 : Rn 265 0 [some (vR o), l1, l2, l3, l4, l5, l6, l7] st T σ K ↔ Rn 265 1 [some (vR o), l1, l2, l3, l4, l5, l6, l7] (vR o :: st) T σ K := R_aload_n (n := 0) (by decide +kernel) rfl
theorem s265_1 : Rn 265 1 L (vR o :: st) T σ K ↔ sx_kd T o = 9 ∧ Rn 265 4 L (vI (σ o 6) :: st) T σ K := R_getI (idx := 29) (ci := 9) (k := 6) (by decide +kernel) (by decide +kernel) (Or.inr rfl)
theorem s265_4 : Rn 265 4 L (vI a :: st) T σ K ↔ (a = 0 → Rn 265 33 L st T σ K) ∧ (a ≠ 0 → Rn 265 7 L st T σ K) := R_if_eq (off := 29) (by decide +kernel) (by decide)
theorem s265_7 : Rn 265 7 [some (vR o), l1, l2, l3, l4, l5, l6, l7] st T σ K ↔ Rn 265 8 [some (vR o), l1, l2, l3, l4, l5, l6, l7] (vR o :: st) T σ K := R_aload_n (n := 0) (by decide +kernel) rfl
theorem s265_8 : Rn 265 8 L (vR o :: st) T σ K ↔ (sx_kd T o = 9 ∧ st.length ≤ 4) ∧ Rn 202 0 [some (vR o), none, none] [] T σ (fun r T' σ' => Rn 265 11 L (sx_push r st) T' σ' K) := R_V (cm := 202) (n := 0) (idx := 248) (ci := 9) (mx := 3) (vs := []) (by decide +kernel) (by decide +kernel) rfl (by decide +kernel) rfl (by decide +kernel) (by decide +kernel)
theorem s265_11 : Rn 265 11 L st T σ K ↔ Rn 265 12 L (vI 2 :: st) T σ K := R_iconst (n := 2) (by decide +kernel) (by decide)
theorem s265_12 : Rn 265 12 L (vI b :: vI a :: st) T σ K ↔ (a < b → Rn 265 33 L st T σ K) ∧ (b ≤ a → Rn 265 15 L st T σ K) := R_icmp_lt (off := 21) (by decide +kernel) (by decide)
theorem s265_15 : Rn 265 15 [l0, some (vI a), l2, l3, l4, l5, l6, l7] st T σ K ↔ Rn 265 16 [l0, some (vI a), l2, l3, l4, l5, l6, l7] (vI a :: st) T σ K := R_iload_n (n := 1) (by decide +kernel) rfl
theorem s265_16 : Rn 265 16 L st T σ K ↔ Rn 265 17 L (vI 0 :: st) T σ K := R_iconst (n := 0) (by decide +kernel) (by decide)
theorem s265_17 : Rn 265 17 L st T σ K ↔ Rn 265 18 L (vI 2 :: st) T σ K := R_iconst (n := 2) (by decide +kernel) (by decide)
theorem s265_18 : Rn 265 18 L (vI c :: vI b :: vI a :: st) T σ K ↔ st.length ≤ 4 ∧ Rn 185 0 [some (vI a), some (vI b), some (vI c)] [] T σ (fun r T' σ' => Rn 265 21 L (sx_push r st) T' σ' K) := R_S (cm := 185) (n := 3) (idx := 189) (mx := 3) (vs := [vI a, vI b, vI c]) (by decide +kernel) (Or.inl (by decide +kernel)) rfl (by decide +kernel) rfl (by decide +kernel)
theorem s265_21 : Rn 265 21 L (vI a :: st) T σ K ↔ (a = 0 → Rn 265 33 L st T σ K) ∧ (a ≠ 0 → Rn 265 24 L st T σ K) := R_if_eq (off := 12) (by decide +kernel) (by decide)
theorem s265_24 : Rn 265 24 [some (vR o), l1, l2, l3, l4, l5, l6, l7] st T σ K ↔ Rn 265 25 [some (vR o), l1, l2, l3, l4, l5, l6, l7] (vR o :: st) T σ K := R_aload_n (n := 0) (by decide +kernel) rfl
theorem s265_25 : Rn 265 25 L st T σ K ↔ Rn 265 26 L (vI 0 :: st) T σ K := R_iconst (n := 0) (by decide +kernel) (by decide)
theorem s265_26 : Rn 265 26 L st T σ K ↔ Rn 265 27 L (vI 0 :: st) T σ K := R_iconst (n := 0) (by decide +kernel) (by decide)
theorem s265_27 : Rn 265 27 L (vI b :: vI a :: vR o :: st) T σ K ↔ (sx_kd T o = 9 ∧ st.length ≤ 4) ∧ Rn 266 0 [some (vR o), some (vI a), some (vI b), none, none, none, none] [] T σ (fun r T' σ' => Rn 265 30 L (sx_push r st) T' σ' K) := R_V (cm := 266) (n := 2) (idx := 343) (ci := 9) (mx := 7) (vs := [vI a, vI b]) (by decide +kernel) (by decide +kernel) rfl (by decide +kernel) rfl (by decide +kernel) (by decide +kernel)
theorem s265_30 : Rn 265 30 L (vI a :: st) T σ K ↔ (a ≠ 0 → Rn 265 35 L st T σ K) ∧ (a = 0 → Rn 265 33 L st T σ K) := R_if_ne (off := 5) (by decide +kernel) (by decide)
theorem s265_33 : Rn 265 33 L st T σ K ↔ Rn 265 34 L (vI (-1) :: st) T σ K := R_iconst (n := -1) (by decide +kernel) (by decide)
theorem s265_34 : Rn 265 34 L [vI a] T σ K ↔ K (some (vI a)) T σ := R_ret (by decide +kernel) (by decide +kernel)
theorem s265_35 : Rn 265 35 L st T σ K ↔ Rn 265 36 L (vI (-1) :: st) T σ K := R_iconst (n := -1) (by decide +kernel) (by decide)
theorem s265_36 : Rn 265 36 [l0, l1, l2, l3, l4, l5, l6, l7] (vI a :: st) T σ K ↔ Rn 265 37 [l0, l1, some (vI a), l3, l4, l5, l6, l7] st T σ K := R_istore_n (n := 2) (by decide +kernel) rfl
theorem s265_37 : Rn 265 37 L st T σ K ↔ Rn 265 38 L (vI (-1) :: st) T σ K := R_iconst (n := -1) (by decide +kernel) (by decide)
theorem s265_38 : Rn 265 38 [l0, l1, l2, l3, l4, l5, l6, l7] (vI a :: st) T σ K ↔ Rn 265 39 [l0, l1, l2, some (vI a), l4, l5, l6, l7] st T σ K := R_istore_n (n := 3) (by decide +kernel) rfl
theorem s265_39 : Rn 265 39 L st T σ K ↔ Rn 265 41 L (vI 1000000 :: st) T σ K := R_ldcI (idx := 244) (v := 1000000) (by decide +kernel) (by decide +kernel) (by decide) rfl
theorem s265_41 : Rn 265 41 [l0, l1, l2, l3, l4, l5, l6, l7] (vI a :: st) T σ K ↔ Rn 265 43 [l0, l1, l2, l3, some (vI a), l5, l6, l7] st T σ K := R_istore (n := 4) (by decide +kernel) rfl
theorem s265_43 : Rn 265 43 L st T σ K ↔ Rn 265 44 L (vI 0 :: st) T σ K := R_iconst (n := 0) (by decide +kernel) (by decide)
theorem s265_44 : Rn 265 44 [l0, l1, l2, l3, l4, l5, l6, l7] (vI a :: st) T σ K ↔ Rn 265 46 [l0, l1, l2, l3, l4, some (vI a), l6, l7] st T σ K := R_istore (n := 5) (by decide +kernel) rfl
theorem s265_46 : Rn 265 46 [l0, l1, l2, l3, l4, some (vI a), l6, l7] st T σ K ↔ Rn 265 48 [l0, l1, l2, l3, l4, some (vI a), l6, l7] (vI a :: st) T σ K := R_iload (n := 5) (by decide +kernel) rfl
theorem s265_48 : Rn 265 48 L st T σ K ↔ Rn 265 50 L (vI 40 :: st) T σ K := R_bipush (n := 40) (by decide +kernel) (by decide +kernel)
theorem s265_50 : Rn 265 50 L (vI b :: vI a :: st) T σ K ↔ (b ≤ a → Rn 265 135 L st T σ K) ∧ (a < b → Rn 265 53 L st T σ K) := R_icmp_ge (off := 85) (by decide +kernel) (by decide)
theorem s265_53 : Rn 265 53 [l0, l1, l2, l3, l4, some (vI a), l6, l7] st T σ K ↔ Rn 265 55 [l0, l1, l2, l3, l4, some (vI a), l6, l7] (vI a :: st) T σ K := R_iload (n := 5) (by decide +kernel) rfl
theorem s265_55 : Rn 265 55 L st T σ K ↔ Rn 265 56 L (vI 1 :: st) T σ K := R_iconst (n := 1) (by decide +kernel) (by decide)
theorem s265_56 : Rn 265 56 L (vI b :: vI a :: st) T σ K ↔ inI (a + b) ∧ Rn 265 57 L (vI (a + b) :: st) T σ K := R_iadd (by decide +kernel)
theorem s265_57 : Rn 265 57 [l0, l1, l2, l3, l4, l5, l6, l7] (vI a :: st) T σ K ↔ Rn 265 59 [l0, l1, l2, l3, l4, l5, some (vI a), l7] st T σ K := R_istore (n := 6) (by decide +kernel) rfl
theorem s265_59 : Rn 265 59 [l0, l1, l2, l3, l4, l5, some (vI a), l7] st T σ K ↔ Rn 265 61 [l0, l1, l2, l3, l4, l5, some (vI a), l7] (vI a :: st) T σ K := R_iload (n := 6) (by decide +kernel) rfl
theorem s265_61 : Rn 265 61 L st T σ K ↔ Rn 265 63 L (vI 40 :: st) T σ K := R_bipush (n := 40) (by decide +kernel) (by decide +kernel)
theorem s265_63 : Rn 265 63 L (vI b :: vI a :: st) T σ K ↔ (b ≤ a → Rn 265 129 L st T σ K) ∧ (a < b → Rn 265 66 L st T σ K) := R_icmp_ge (off := 66) (by decide +kernel) (by decide)
theorem s265_66 : Rn 265 66 [some (vR o), l1, l2, l3, l4, l5, l6, l7] st T σ K ↔ Rn 265 67 [some (vR o), l1, l2, l3, l4, l5, l6, l7] (vR o :: st) T σ K := R_aload_n (n := 0) (by decide +kernel) rfl
theorem s265_67 : Rn 265 67 L (vR o :: st) T σ K ↔ sx_kd T o = 9 ∧ ∃ t, sx_rf T o 0 = some t ∧ Rn 265 70 L (vR t :: st) T σ K := R_getR (idx := 7) (ci := 9) (k := 0) (by decide +kernel) (by decide +kernel) rfl
theorem s265_70 : Rn 265 70 L st T σ K ↔ Rn 265 71 L (vI 0 :: st) T σ K := R_iconst (n := 0) (by decide +kernel) (by decide)
theorem s265_71 : Rn 265 71 [l0, l1, l2, l3, l4, some (vI a), l6, l7] st T σ K ↔ Rn 265 73 [l0, l1, l2, l3, l4, some (vI a), l6, l7] (vI a :: st) T σ K := R_iload (n := 5) (by decide +kernel) rfl
theorem s265_73 : Rn 265 73 L (vI b :: vI a :: st) T σ K ↔ inI (a + b) ∧ Rn 265 74 L (vI (a + b) :: st) T σ K := R_iadd (by decide +kernel)
theorem s265_74 : Rn 265 74 L (vI a :: vR o :: st) T σ K ↔ (sx_kd T o = 20 ∧ 0 ≤ a ∧ a < sx_ln T o) ∧ Rn 265 75 L (vI (σ o a) :: st) T σ K := R_iald (by decide +kernel) (by decide)
theorem s265_75 : Rn 265 75 L (vI a :: st) T σ K ↔ (a = 0 → Rn 265 123 L st T σ K) ∧ (a ≠ 0 → Rn 265 78 L st T σ K) := R_if_eq (off := 48) (by decide +kernel) (by decide)
theorem s265_78 : Rn 265 78 [some (vR o), l1, l2, l3, l4, l5, l6, l7] st T σ K ↔ Rn 265 79 [some (vR o), l1, l2, l3, l4, l5, l6, l7] (vR o :: st) T σ K := R_aload_n (n := 0) (by decide +kernel) rfl
theorem s265_79 : Rn 265 79 L (vR o :: st) T σ K ↔ sx_kd T o = 9 ∧ ∃ t, sx_rf T o 0 = some t ∧ Rn 265 82 L (vR t :: st) T σ K := R_getR (idx := 7) (ci := 9) (k := 0) (by decide +kernel) (by decide +kernel) rfl
theorem s265_82 : Rn 265 82 L st T σ K ↔ Rn 265 83 L (vI 0 :: st) T σ K := R_iconst (n := 0) (by decide +kernel) (by decide)
theorem s265_83 : Rn 265 83 [l0, l1, l2, l3, l4, l5, some (vI a), l7] st T σ K ↔ Rn 265 85 [l0, l1, l2, l3, l4, l5, some (vI a), l7] (vI a :: st) T σ K := R_iload (n := 6) (by decide +kernel) rfl
theorem s265_85 : Rn 265 85 L (vI b :: vI a :: st) T σ K ↔ inI (a + b) ∧ Rn 265 86 L (vI (a + b) :: st) T σ K := R_iadd (by decide +kernel)
theorem s265_86 : Rn 265 86 L (vI a :: vR o :: st) T σ K ↔ (sx_kd T o = 20 ∧ 0 ≤ a ∧ a < sx_ln T o) ∧ Rn 265 87 L (vI (σ o a) :: st) T σ K := R_iald (by decide +kernel) (by decide)
theorem s265_87 : Rn 265 87 L (vI a :: st) T σ K ↔ (a ≠ 0 → Rn 265 93 L st T σ K) ∧ (a = 0 → Rn 265 90 L st T σ K) := R_if_ne (off := 6) (by decide +kernel) (by decide)
theorem s265_90 : Rn 265 90 L st T σ K ↔ Rn 265 123 L st T σ K := R_goto (off := 33) (by decide +kernel) (by decide)
theorem s265_93 : Rn 265 93 [some (vR o), l1, l2, l3, l4, l5, l6, l7] st T σ K ↔ Rn 265 94 [some (vR o), l1, l2, l3, l4, l5, l6, l7] (vR o :: st) T σ K := R_aload_n (n := 0) (by decide +kernel) rfl
theorem s265_94 : Rn 265 94 [l0, l1, l2, l3, l4, some (vI a), l6, l7] st T σ K ↔ Rn 265 96 [l0, l1, l2, l3, l4, some (vI a), l6, l7] (vI a :: st) T σ K := R_iload (n := 5) (by decide +kernel) rfl
theorem s265_96 : Rn 265 96 [l0, l1, l2, l3, l4, l5, some (vI a), l7] st T σ K ↔ Rn 265 98 [l0, l1, l2, l3, l4, l5, some (vI a), l7] (vI a :: st) T σ K := R_iload (n := 6) (by decide +kernel) rfl
theorem s265_98 : Rn 265 98 L (vI b :: vI a :: vR o :: st) T σ K ↔ (sx_kd T o = 9 ∧ st.length ≤ 4) ∧ Rn 266 0 [some (vR o), some (vI a), some (vI b), none, none, none, none] [] T σ (fun r T' σ' => Rn 265 101 L (sx_push r st) T' σ' K) := R_V (cm := 266) (n := 2) (idx := 343) (ci := 9) (mx := 7) (vs := [vI a, vI b]) (by decide +kernel) (by decide +kernel) rfl (by decide +kernel) rfl (by decide +kernel) (by decide +kernel)
theorem s265_101 : Rn 265 101 [l0, l1, l2, l3, l4, l5, l6, l7] (vI a :: st) T σ K ↔ Rn 265 103 [l0, l1, l2, l3, l4, l5, l6, some (vI a)] st T σ K := R_istore (n := 7) (by decide +kernel) rfl
theorem s265_103 : Rn 265 103 [l0, l1, l2, l3, l4, l5, l6, some (vI a)] st T σ K ↔ Rn 265 105 [l0, l1, l2, l3, l4, l5, l6, some (vI a)] (vI a :: st) T σ K := R_iload (n := 7) (by decide +kernel) rfl
theorem s265_105 : Rn 265 105 [l0, l1, l2, l3, some (vI a), l5, l6, l7] st T σ K ↔ Rn 265 107 [l0, l1, l2, l3, some (vI a), l5, l6, l7] (vI a :: st) T σ K := R_iload (n := 4) (by decide +kernel) rfl
theorem s265_107 : Rn 265 107 L (vI b :: vI a :: st) T σ K ↔ (a < b → Rn 265 113 L st T σ K) ∧ (b ≤ a → Rn 265 110 L st T σ K) := R_icmp_lt (off := 6) (by decide +kernel) (by decide)
theorem s265_110 : Rn 265 110 L st T σ K ↔ Rn 265 123 L st T σ K := R_goto (off := 13) (by decide +kernel) (by decide)
theorem s265_113 : Rn 265 113 [l0, l1, l2, l3, l4, some (vI a), l6, l7] st T σ K ↔ Rn 265 115 [l0, l1, l2, l3, l4, some (vI a), l6, l7] (vI a :: st) T σ K := R_iload (n := 5) (by decide +kernel) rfl
theorem s265_115 : Rn 265 115 [l0, l1, l2, l3, l4, l5, l6, l7] (vI a :: st) T σ K ↔ Rn 265 116 [l0, l1, some (vI a), l3, l4, l5, l6, l7] st T σ K := R_istore_n (n := 2) (by decide +kernel) rfl
theorem s265_116 : Rn 265 116 [l0, l1, l2, l3, l4, l5, some (vI a), l7] st T σ K ↔ Rn 265 118 [l0, l1, l2, l3, l4, l5, some (vI a), l7] (vI a :: st) T σ K := R_iload (n := 6) (by decide +kernel) rfl
theorem s265_118 : Rn 265 118 [l0, l1, l2, l3, l4, l5, l6, l7] (vI a :: st) T σ K ↔ Rn 265 119 [l0, l1, l2, some (vI a), l4, l5, l6, l7] st T σ K := R_istore_n (n := 3) (by decide +kernel) rfl
theorem s265_119 : Rn 265 119 [l0, l1, l2, l3, l4, l5, l6, some (vI a)] st T σ K ↔ Rn 265 121 [l0, l1, l2, l3, l4, l5, l6, some (vI a)] (vI a :: st) T σ K := R_iload (n := 7) (by decide +kernel) rfl
theorem s265_121 : Rn 265 121 [l0, l1, l2, l3, l4, l5, l6, l7] (vI a :: st) T σ K ↔ Rn 265 123 [l0, l1, l2, l3, some (vI a), l5, l6, l7] st T σ K := R_istore (n := 4) (by decide +kernel) rfl
theorem s265_123 : Rn 265 123 [l0, l1, l2, l3, l4, l5, some (vI a), l7] st T σ K ↔ inI (a + 1) ∧ Rn 265 126 [l0, l1, l2, l3, l4, l5, some (vI (a + 1)), l7] st T σ K := R_iinc (n := 6) (d := 1) (by decide +kernel) rfl
theorem s265_126 : Rn 265 126 L st T σ K ↔ Rn 265 59 L st T σ K := R_goto (off := -67) (by decide +kernel) (by decide)
theorem s265_129 : Rn 265 129 [l0, l1, l2, l3, l4, some (vI a), l6, l7] st T σ K ↔ inI (a + 1) ∧ Rn 265 132 [l0, l1, l2, l3, l4, some (vI (a + 1)), l6, l7] st T σ K := R_iinc (n := 5) (d := 1) (by decide +kernel) rfl
theorem s265_132 : Rn 265 132 L st T σ K ↔ Rn 265 46 L st T σ K := R_goto (off := -86) (by decide +kernel) (by decide)
theorem s265_135 : Rn 265 135 [l0, some (vI a), l2, l3, l4, l5, l6, l7] st T σ K ↔ Rn 265 136 [l0, some (vI a), l2, l3, l4, l5, l6, l7] (vI a :: st) T σ K := R_iload_n (n := 1) (by decide +kernel) rfl
theorem s265_136 : Rn 265 136 L (vI a :: st) T σ K ↔ (a ≠ 0 → Rn 265 143 L st T σ K) ∧ (a = 0 → Rn 265 139 L st T σ K) := R_if_ne (off := 7) (by decide +kernel) (by decide)
theorem s265_139 : Rn 265 139 [l0, l1, some (vI a), l3, l4, l5, l6, l7] st T σ K ↔ Rn 265 140 [l0, l1, some (vI a), l3, l4, l5, l6, l7] (vI a :: st) T σ K := R_iload_n (n := 2) (by decide +kernel) rfl
theorem s265_140 : Rn 265 140 L st T σ K ↔ Rn 265 154 L st T σ K := R_goto (off := 14) (by decide +kernel) (by decide)
theorem s265_143 : Rn 265 143 [l0, some (vI a), l2, l3, l4, l5, l6, l7] st T σ K ↔ Rn 265 144 [l0, some (vI a), l2, l3, l4, l5, l6, l7] (vI a :: st) T σ K := R_iload_n (n := 1) (by decide +kernel) rfl
theorem s265_144 : Rn 265 144 L st T σ K ↔ Rn 265 145 L (vI 1 :: st) T σ K := R_iconst (n := 1) (by decide +kernel) (by decide)
theorem s265_145 : Rn 265 145 L (vI b :: vI a :: st) T σ K ↔ (a ≠ b → Rn 265 152 L st T σ K) ∧ (a = b → Rn 265 148 L st T σ K) := R_icmp_ne (off := 7) (by decide +kernel) (by decide)
theorem s265_148 : Rn 265 148 [l0, l1, l2, some (vI a), l4, l5, l6, l7] st T σ K ↔ Rn 265 149 [l0, l1, l2, some (vI a), l4, l5, l6, l7] (vI a :: st) T σ K := R_iload_n (n := 3) (by decide +kernel) rfl
theorem s265_149 : Rn 265 149 L st T σ K ↔ Rn 265 154 L st T σ K := R_goto (off := 5) (by decide +kernel) (by decide)
theorem s265_152 : Rn 265 152 [l0, l1, l2, l3, some (vI a), l5, l6, l7] st T σ K ↔ Rn 265 154 [l0, l1, l2, l3, some (vI a), l5, l6, l7] (vI a :: st) T σ K := R_iload (n := 4) (by decide +kernel) rfl
theorem s265_154 : Rn 265 154 L [vI a] T σ K ↔ K (some (vI a)) T σ := R_ret (by decide +kernel) (by decide +kernel)
theorem s266_0 : Rn 266 0 L st T σ K ↔ Rn 266 1 L (vI 0 :: st) T σ K := R_iconst (n := 0) (by decide +kernel) (by decide)
theorem s266_1 : Rn 266 1 [l0, l1, l2, l3, l4, l5, l6] (vI a :: st) T σ K ↔ Rn 266 2 [l0, l1, l2, some (vI a), l4, l5, l6] st T σ K := R_istore_n (n := 3) (by decide +kernel) rfl
theorem s266_2 : Rn 266 2 L st T σ K ↔ Rn 266 3 L (vI 0 :: st) T σ K := R_iconst (n := 0) (by decide +kernel) (by decide)
theorem s266_3 : Rn 266 3 [l0, l1, l2, l3, l4, l5, l6] (vI a :: st) T σ K ↔ Rn 266 5 [l0, l1, l2, l3, some (vI a), l5, l6] st T σ K := R_istore (n := 4) (by decide +kernel) rfl
theorem s266_5 : Rn 266 5 [l0, l1, l2, l3, some (vI a), l5, l6] st T σ K ↔ Rn 266 7 [l0, l1, l2, l3, some (vI a), l5, l6] (vI a :: st) T σ K := R_iload (n := 4) (by decide +kernel) rfl
theorem s266_7 : Rn 266 7 L st T σ K ↔ Rn 266 8 L (vI 3 :: st) T σ K := R_iconst (n := 3) (by decide +kernel) (by decide)
theorem s266_8 : Rn 266 8 L (vI b :: vI a :: st) T σ K ↔ (b ≤ a → Rn 266 89 L st T σ K) ∧ (a < b → Rn 266 11 L st T σ K) := R_icmp_ge (off := 81) (by decide +kernel) (by decide)
theorem s266_11 : Rn 266 11 L st T σ K ↔ Rn 266 12 L (vI 0 :: st) T σ K := R_iconst (n := 0) (by decide +kernel) (by decide)
theorem s266_12 : Rn 266 12 [l0, l1, l2, l3, l4, l5, l6] (vI a :: st) T σ K ↔ Rn 266 14 [l0, l1, l2, l3, l4, some (vI a), l6] st T σ K := R_istore (n := 5) (by decide +kernel) rfl
theorem s266_14 : Rn 266 14 L st T σ K ↔ Rn 266 15 L (vI 0 :: st) T σ K := R_iconst (n := 0) (by decide +kernel) (by decide)
theorem s266_15 : Rn 266 15 [l0, l1, l2, l3, l4, l5, l6] (vI a :: st) T σ K ↔ Rn 266 17 [l0, l1, l2, l3, l4, l5, some (vI a)] st T σ K := R_istore (n := 6) (by decide +kernel) rfl
theorem s266_17 : Rn 266 17 [l0, l1, l2, l3, l4, l5, some (vI a)] st T σ K ↔ Rn 266 19 [l0, l1, l2, l3, l4, l5, some (vI a)] (vI a :: st) T σ K := R_iload (n := 6) (by decide +kernel) rfl
theorem s266_19 : Rn 266 19 L st T σ K ↔ Rn 266 20 L (vI 3 :: st) T σ K := R_iconst (n := 3) (by decide +kernel) (by decide)
theorem s266_20 : Rn 266 20 L (vI b :: vI a :: st) T σ K ↔ (b ≤ a → Rn 266 76 L st T σ K) ∧ (a < b → Rn 266 23 L st T σ K) := R_icmp_ge (off := 56) (by decide +kernel) (by decide)
theorem s266_23 : Rn 266 23 [l0, l1, l2, l3, l4, some (vI a), l6] st T σ K ↔ Rn 266 25 [l0, l1, l2, l3, l4, some (vI a), l6] (vI a :: st) T σ K := R_iload (n := 5) (by decide +kernel) rfl
theorem s266_25 : Rn 266 25 [some (vR o), l1, l2, l3, l4, l5, l6] st T σ K ↔ Rn 266 26 [some (vR o), l1, l2, l3, l4, l5, l6] (vR o :: st) T σ K := R_aload_n (n := 0) (by decide +kernel) rfl
theorem s266_26 : Rn 266 26 [l0, l1, l2, l3, some (vI a), l5, l6] st T σ K ↔ Rn 266 28 [l0, l1, l2, l3, some (vI a), l5, l6] (vI a :: st) T σ K := R_iload (n := 4) (by decide +kernel) rfl
theorem s266_28 : Rn 266 28 L (vI a :: vR o :: st) T σ K ↔ (sx_kd T o = 9 ∧ st.length ≤ 4) ∧ Rn 263 0 [some (vR o), some (vI a), none] [] T σ (fun r T' σ' => Rn 266 31 L (sx_push r st) T' σ' K) := R_V (cm := 263) (n := 1) (idx := 340) (ci := 9) (mx := 3) (vs := [vI a]) (by decide +kernel) (by decide +kernel) rfl (by decide +kernel) rfl (by decide +kernel) (by decide +kernel)
theorem s266_31 : Rn 266 31 L (vI a :: st) T σ K ↔ (a = 0 → Rn 266 66 L st T σ K) ∧ (a ≠ 0 → Rn 266 34 L st T σ K) := R_if_eq (off := 35) (by decide +kernel) (by decide)
theorem s266_34 : Rn 266 34 [some (vR o), l1, l2, l3, l4, l5, l6] st T σ K ↔ Rn 266 35 [some (vR o), l1, l2, l3, l4, l5, l6] (vR o :: st) T σ K := R_aload_n (n := 0) (by decide +kernel) rfl
theorem s266_35 : Rn 266 35 [l0, l1, l2, l3, l4, l5, some (vI a)] st T σ K ↔ Rn 266 37 [l0, l1, l2, l3, l4, l5, some (vI a)] (vI a :: st) T σ K := R_iload (n := 6) (by decide +kernel) rfl
theorem s266_37 : Rn 266 37 L (vI a :: vR o :: st) T σ K ↔ (sx_kd T o = 9 ∧ st.length ≤ 4) ∧ Rn 263 0 [some (vR o), some (vI a), none] [] T σ (fun r T' σ' => Rn 266 40 L (sx_push r st) T' σ' K) := R_V (cm := 263) (n := 1) (idx := 340) (ci := 9) (mx := 3) (vs := [vI a]) (by decide +kernel) (by decide +kernel) rfl (by decide +kernel) rfl (by decide +kernel) (by decide +kernel)
theorem s266_40 : Rn 266 40 L (vI a :: st) T σ K ↔ (a = 0 → Rn 266 66 L st T σ K) ∧ (a ≠ 0 → Rn 266 43 L st T σ K) := R_if_eq (off := 26) (by decide +kernel) (by decide)
theorem s266_43 : Rn 266 43 [some (vR o), l1, l2, l3, l4, l5, l6] st T σ K ↔ Rn 266 44 [some (vR o), l1, l2, l3, l4, l5, l6] (vR o :: st) T σ K := R_aload_n (n := 0) (by decide +kernel) rfl
theorem s266_44 : Rn 266 44 [l0, l1, l2, l3, some (vI a), l5, l6] st T σ K ↔ Rn 266 46 [l0, l1, l2, l3, some (vI a), l5, l6] (vI a :: st) T σ K := R_iload (n := 4) (by decide +kernel) rfl
theorem s266_46 : Rn 266 46 [l0, some (vI a), l2, l3, l4, l5, l6] st T σ K ↔ Rn 266 47 [l0, some (vI a), l2, l3, l4, l5, l6] (vI a :: st) T σ K := R_iload_n (n := 1) (by decide +kernel) rfl
theorem s266_47 : Rn 266 47 [l0, l1, some (vI a), l3, l4, l5, l6] st T σ K ↔ Rn 266 48 [l0, l1, some (vI a), l3, l4, l5, l6] (vI a :: st) T σ K := R_iload_n (n := 2) (by decide +kernel) rfl
theorem s266_48 : Rn 266 48 L (vI c :: vI b :: vI a :: vR o :: st) T σ K ↔ (sx_kd T o = 9 ∧ st.length ≤ 4) ∧ Rn 264 0 [some (vR o), some (vI a), some (vI b), some (vI c)] [] T σ (fun r T' σ' => Rn 266 51 L (sx_push r st) T' σ' K) := R_V (cm := 264) (n := 3) (idx := 337) (ci := 9) (mx := 4) (vs := [vI a, vI b, vI c]) (by decide +kernel) (by decide +kernel) rfl (by decide +kernel) rfl (by decide +kernel) (by decide +kernel)
theorem s266_51 : Rn 266 51 [some (vR o), l1, l2, l3, l4, l5, l6] st T σ K ↔ Rn 266 52 [some (vR o), l1, l2, l3, l4, l5, l6] (vR o :: st) T σ K := R_aload_n (n := 0) (by decide +kernel) rfl
theorem s266_52 : Rn 266 52 [l0, l1, l2, l3, l4, l5, some (vI a)] st T σ K ↔ Rn 266 54 [l0, l1, l2, l3, l4, l5, some (vI a)] (vI a :: st) T σ K := R_iload (n := 6) (by decide +kernel) rfl
theorem s266_54 : Rn 266 54 [l0, some (vI a), l2, l3, l4, l5, l6] st T σ K ↔ Rn 266 55 [l0, some (vI a), l2, l3, l4, l5, l6] (vI a :: st) T σ K := R_iload_n (n := 1) (by decide +kernel) rfl
theorem s266_55 : Rn 266 55 [l0, l1, some (vI a), l3, l4, l5, l6] st T σ K ↔ Rn 266 56 [l0, l1, some (vI a), l3, l4, l5, l6] (vI a :: st) T σ K := R_iload_n (n := 2) (by decide +kernel) rfl
theorem s266_56 : Rn 266 56 L (vI c :: vI b :: vI a :: vR o :: st) T σ K ↔ (sx_kd T o = 9 ∧ st.length ≤ 4) ∧ Rn 264 0 [some (vR o), some (vI a), some (vI b), some (vI c)] [] T σ (fun r T' σ' => Rn 266 59 L (sx_push r st) T' σ' K) := R_V (cm := 264) (n := 3) (idx := 337) (ci := 9) (mx := 4) (vs := [vI a, vI b, vI c]) (by decide +kernel) (by decide +kernel) rfl (by decide +kernel) rfl (by decide +kernel) (by decide +kernel)
theorem s266_59 : Rn 266 59 L (vI b :: vI a :: st) T σ K ↔ (a ≠ b → Rn 266 66 L st T σ K) ∧ (a = b → Rn 266 62 L st T σ K) := R_icmp_ne (off := 7) (by decide +kernel) (by decide)
theorem s266_62 : Rn 266 62 L st T σ K ↔ Rn 266 63 L (vI 1 :: st) T σ K := R_iconst (n := 1) (by decide +kernel) (by decide)
theorem s266_63 : Rn 266 63 L st T σ K ↔ Rn 266 67 L st T σ K := R_goto (off := 4) (by decide +kernel) (by decide)
theorem s266_66 : Rn 266 66 L st T σ K ↔ Rn 266 67 L (vI 0 :: st) T σ K := R_iconst (n := 0) (by decide +kernel) (by decide)
theorem s266_67 : Rn 266 67 L (vI b :: vI a :: st) T σ K ↔ inI (a + b) ∧ Rn 266 68 L (vI (a + b) :: st) T σ K := R_iadd (by decide +kernel)
theorem s266_68 : Rn 266 68 [l0, l1, l2, l3, l4, l5, l6] (vI a :: st) T σ K ↔ Rn 266 70 [l0, l1, l2, l3, l4, some (vI a), l6] st T σ K := R_istore (n := 5) (by decide +kernel) rfl
theorem s266_70 : Rn 266 70 [l0, l1, l2, l3, l4, l5, some (vI a)] st T σ K ↔ inI (a + 1) ∧ Rn 266 73 [l0, l1, l2, l3, l4, l5, some (vI (a + 1))] st T σ K := R_iinc (n := 6) (d := 1) (by decide +kernel) rfl
theorem s266_73 : Rn 266 73 L st T σ K ↔ Rn 266 17 L st T σ K := R_goto (off := -56) (by decide +kernel) (by decide)
theorem s266_76 : Rn 266 76 [l0, l1, l2, some (vI a), l4, l5, l6] st T σ K ↔ Rn 266 77 [l0, l1, l2, some (vI a), l4, l5, l6] (vI a :: st) T σ K := R_iload_n (n := 3) (by decide +kernel) rfl
theorem s266_77 : Rn 266 77 [l0, l1, l2, l3, l4, some (vI a), l6] st T σ K ↔ Rn 266 79 [l0, l1, l2, l3, l4, some (vI a), l6] (vI a :: st) T σ K := R_iload (n := 5) (by decide +kernel) rfl
theorem s266_79 : Rn 266 79 L (vI b :: vI a :: st) T σ K ↔ st.length ≤ 4 ∧ Rn 199 0 [some (vI a), some (vI b)] [] T σ (fun r T' σ' => Rn 266 82 L (sx_push r st) T' σ' K) := R_S (cm := 199) (n := 2) (idx := 215) (mx := 2) (vs := [vI a, vI b]) (by decide +kernel) (Or.inl (by decide +kernel)) rfl (by decide +kernel) rfl (by decide +kernel)
theorem s266_82 : Rn 266 82 [l0, l1, l2, l3, l4, l5, l6] (vI a :: st) T σ K ↔ Rn 266 83 [l0, l1, l2, some (vI a), l4, l5, l6] st T σ K := R_istore_n (n := 3) (by decide +kernel) rfl
theorem s266_83 : Rn 266 83 [l0, l1, l2, l3, some (vI a), l5, l6] st T σ K ↔ inI (a + 1) ∧ Rn 266 86 [l0, l1, l2, l3, some (vI (a + 1)), l5, l6] st T σ K := R_iinc (n := 4) (d := 1) (by decide +kernel) rfl
theorem s266_86 : Rn 266 86 L st T σ K ↔ Rn 266 5 L st T σ K := R_goto (off := -81) (by decide +kernel) (by decide)
theorem s266_89 : Rn 266 89 [l0, l1, l2, some (vI a), l4, l5, l6] st T σ K ↔ Rn 266 90 [l0, l1, l2, some (vI a), l4, l5, l6] (vI a :: st) T σ K := R_iload_n (n := 3) (by decide +kernel) rfl
theorem s266_90 : Rn 266 90 L [vI a] T σ K ↔ K (some (vI a)) T σ := R_ret (by decide +kernel) (by decide +kernel)
theorem s267_0 : Rn 267 0 [some (vR o), l1, l2, l3] st T σ K ↔ Rn 267 1 [some (vR o), l1, l2, l3] (vR o :: st) T σ K := R_aload_n (n := 0) (by decide +kernel) rfl
theorem s267_1 : Rn 267 1 [l0, some (vI a), l2, l3] st T σ K ↔ Rn 267 2 [l0, some (vI a), l2, l3] (vI a :: st) T σ K := R_iload_n (n := 1) (by decide +kernel) rfl
theorem s267_2 : Rn 267 2 [l0, l1, some (vI a), l3] st T σ K ↔ Rn 267 3 [l0, l1, some (vI a), l3] (vI a :: st) T σ K := R_iload_n (n := 2) (by decide +kernel) rfl
theorem s267_3 : Rn 267 3 [l0, l1, l2, some (vI a)] st T σ K ↔ Rn 267 4 [l0, l1, l2, some (vI a)] (vI a :: st) T σ K := R_iload_n (n := 3) (by decide +kernel) rfl
theorem s267_4 : Rn 267 4 L (vI c :: vI b :: vI a :: vR o :: st) T σ K ↔ (sx_kd T o = 9 ∧ st.length ≤ 4) ∧ Rn 250 0 [some (vR o), some (vI a), some (vI b), some (vI c)] [] T σ (fun r T' σ' => Rn 267 7 L (sx_push r st) T' σ' K) := R_V (cm := 250) (n := 3) (idx := 319) (ci := 9) (mx := 4) (vs := [vI a, vI b, vI c]) (by decide +kernel) (by decide +kernel) rfl (by decide +kernel) rfl (by decide +kernel) (by decide +kernel)
theorem s267_7 : Rn 267 7 L (vI a :: st) T σ K ↔ (a ≠ 0 → Rn 267 16 L st T σ K) ∧ (a = 0 → Rn 267 10 L st T σ K) := R_if_ne (off := 9) (by decide +kernel) (by decide)
theorem s267_10 : Rn 267 10 [some (vR o), l1, l2, l3] st T σ K ↔ Rn 267 11 [some (vR o), l1, l2, l3] (vR o :: st) T σ K := R_aload_n (n := 0) (by decide +kernel) rfl
theorem s267_11 : Rn 267 11 L st T σ K ↔ Rn 267 12 L (vI 2 :: st) T σ K := R_iconst (n := 2) (by decide +kernel) (by decide)
theorem s267_12 : Rn 267 12 L (vI a :: vR o :: st) T σ K ↔ (sx_kd T o = 9 ∧ st.length ≤ 4) ∧ Rn 169 0 [some (vR o), some (vI a)] [] T σ (fun r T' σ' => Rn 267 15 L (sx_push r st) T' σ' K) := R_V (cm := 169) (n := 1) (idx := 138) (ci := 9) (mx := 2) (vs := [vI a]) (by decide +kernel) (by decide +kernel) rfl (by decide +kernel) rfl (by decide +kernel) (by decide +kernel)
theorem s267_15 : Rn 267 15 L [vI a] T σ K ↔ K (some (vI a)) T σ := R_ret (by decide +kernel) (by decide +kernel)
theorem s267_16 : Rn 267 16 [some (vR o), l1, l2, l3] st T σ K ↔ Rn 267 17 [some (vR o), l1, l2, l3] (vR o :: st) T σ K := R_aload_n (n := 0) (by decide +kernel) rfl
theorem s267_17 : Rn 267 17 L (vR o :: st) T σ K ↔ (sx_kd T o = 9 ∧ st.length ≤ 4) ∧ Rn 268 0 [some (vR o), none] [] T σ (fun r T' σ' => Rn 267 20 L (sx_push r st) T' σ' K) := R_V (cm := 268) (n := 0) (idx := 349) (ci := 9) (mx := 2) (vs := []) (by decide +kernel) (by decide +kernel) rfl (by decide +kernel) rfl (by decide +kernel) (by decide +kernel)
theorem s267_20 : Rn 267 20 [some (vR o), l1, l2, l3] st T σ K ↔ Rn 267 21 [some (vR o), l1, l2, l3] (vR o :: st) T σ K := R_aload_n (n := 0) (by decide +kernel) rfl
theorem s267_21 : Rn 267 21 [l0, some (vI a), l2, l3] st T σ K ↔ Rn 267 22 [l0, some (vI a), l2, l3] (vI a :: st) T σ K := R_iload_n (n := 1) (by decide +kernel) rfl
theorem s267_22 : Rn 267 22 [l0, l1, some (vI a), l3] st T σ K ↔ Rn 267 23 [l0, l1, some (vI a), l3] (vI a :: st) T σ K := R_iload_n (n := 2) (by decide +kernel) rfl
theorem s267_23 : Rn 267 23 [l0, l1, l2, some (vI a)] st T σ K ↔ Rn 267 24 [l0, l1, l2, some (vI a)] (vI a :: st) T σ K := R_iload_n (n := 3) (by decide +kernel) rfl
theorem s267_24 : Rn 267 24 L (vI c :: vI b :: vI a :: vR o :: st) T σ K ↔ (sx_kd T o = 9 ∧ st.length ≤ 4) ∧ Rn 269 0 [some (vR o), some (vI a), some (vI b), some (vI c), none] [] T σ (fun r T' σ' => Rn 267 27 L (sx_push r st) T' σ' K) := R_V (cm := 269) (n := 3) (idx := 352) (ci := 9) (mx := 5) (vs := [vI a, vI b, vI c]) (by decide +kernel) (by decide +kernel) rfl (by decide +kernel) rfl (by decide +kernel) (by decide +kernel)
theorem s267_27 : Rn 267 27 L [vI a] T σ K ↔ K (some (vI a)) T σ := R_ret (by decide +kernel) (by decide +kernel)
theorem s268_0 : Rn 268 0 [some (vR o), l1] st T σ K ↔ Rn 268 1 [some (vR o), l1] (vR o :: st) T σ K := R_aload_n (n := 0) (by decide +kernel) rfl
theorem s268_1 : Rn 268 1 L (vR o :: st) T σ K ↔ sx_kd T o = 9 ∧ Rn 268 4 L (vI (σ o 4) :: st) T σ K := R_getI (idx := 22) (ci := 9) (k := 4) (by decide +kernel) (by decide +kernel) (Or.inl rfl)
theorem s268_4 : Rn 268 4 L st T σ K ↔ Rn 268 6 L (vI 20 :: st) T σ K := R_bipush (n := 20) (by decide +kernel) (by decide +kernel)
theorem s268_6 : Rn 268 6 L (vI b :: vI a :: st) T σ K ↔ (a ≠ b → Rn 268 50 L st T σ K) ∧ (a = b → Rn 268 9 L st T σ K) := R_icmp_ne (off := 44) (by decide +kernel) (by decide)
theorem s268_9 : Rn 268 9 L st T σ K ↔ Rn 268 10 L (vI 0 :: st) T σ K := R_iconst (n := 0) (by decide +kernel) (by decide)
theorem s268_10 : Rn 268 10 [l0, l1] (vI a :: st) T σ K ↔ Rn 268 11 [l0, some (vI a)] st T σ K := R_istore_n (n := 1) (by decide +kernel) rfl
theorem s268_11 : Rn 268 11 [l0, some (vI a)] st T σ K ↔ Rn 268 12 [l0, some (vI a)] (vI a :: st) T σ K := R_iload_n (n := 1) (by decide +kernel) rfl
theorem s268_12 : Rn 268 12 L st T σ K ↔ Rn 268 15 L (vI 9139 :: st) T σ K := R_sipush (n := 9139) (by decide +kernel) (by decide +kernel)
theorem s268_15 : Rn 268 15 L (vI b :: vI a :: st) T σ K ↔ (b ≤ a → Rn 268 40 L st T σ K) ∧ (a < b → Rn 268 18 L st T σ K) := R_icmp_ge (off := 25) (by decide +kernel) (by decide)
theorem s268_18 : Rn 268 18 [some (vR o), l1] st T σ K ↔ Rn 268 19 [some (vR o), l1] (vR o :: st) T σ K := R_aload_n (n := 0) (by decide +kernel) rfl
theorem s268_19 : Rn 268 19 L (vR o :: st) T σ K ↔ sx_kd T o = 9 ∧ ∃ t, sx_rf T o 1 = some t ∧ Rn 268 22 L (vR t :: st) T σ K := R_getR (idx := 13) (ci := 9) (k := 1) (by decide +kernel) (by decide +kernel) rfl
theorem s268_22 : Rn 268 22 [l0, some (vI a)] st T σ K ↔ Rn 268 23 [l0, some (vI a)] (vI a :: st) T σ K := R_iload_n (n := 1) (by decide +kernel) rfl
theorem s268_23 : Rn 268 23 [some (vR o), l1] st T σ K ↔ Rn 268 24 [some (vR o), l1] (vR o :: st) T σ K := R_aload_n (n := 0) (by decide +kernel) rfl
theorem s268_24 : Rn 268 24 L (vR o :: st) T σ K ↔ sx_kd T o = 9 ∧ ∃ t, sx_rf T o 1 = some t ∧ Rn 268 27 L (vR t :: st) T σ K := R_getR (idx := 13) (ci := 9) (k := 1) (by decide +kernel) (by decide +kernel) rfl
theorem s268_27 : Rn 268 27 [l0, some (vI a)] st T σ K ↔ Rn 268 28 [l0, some (vI a)] (vI a :: st) T σ K := R_iload_n (n := 1) (by decide +kernel) rfl
theorem s268_28 : Rn 268 28 L st T σ K ↔ Rn 268 31 L (vI 481 :: st) T σ K := R_sipush (n := 481) (by decide +kernel) (by decide +kernel)
theorem s268_31 : Rn 268 31 L (vI b :: vI a :: st) T σ K ↔ inI (a + b) ∧ Rn 268 32 L (vI (a + b) :: st) T σ K := R_iadd (by decide +kernel)
theorem s268_32 : Rn 268 32 L (vI a :: vR o :: st) T σ K ↔ (sx_kd T o = 20 ∧ 0 ≤ a ∧ a < sx_ln T o) ∧ Rn 268 33 L (vI (σ o a) :: st) T σ K := R_iald (by decide +kernel) (by decide)
theorem s268_33 : Rn 268 33 L (vI b :: vI a :: vR o :: st) T σ K ↔ (sx_kd T o = 20 ∧ 0 ≤ a ∧ a < sx_ln T o) ∧ Rn 268 34 L st T (sx_up σ o a b) K := R_iast (by decide +kernel)
theorem s268_34 : Rn 268 34 [l0, some (vI a)] st T σ K ↔ inI (a + 1) ∧ Rn 268 37 [l0, some (vI (a + 1))] st T σ K := R_iinc (n := 1) (d := 1) (by decide +kernel) rfl
theorem s268_37 : Rn 268 37 L st T σ K ↔ Rn 268 11 L st T σ K := R_goto (off := -26) (by decide +kernel) (by decide)
theorem s268_40 : Rn 268 40 [some (vR o), l1] st T σ K ↔ Rn 268 41 [some (vR o), l1] (vR o :: st) T σ K := R_aload_n (n := 0) (by decide +kernel) rfl
theorem s268_41 : Rn 268 41 L (vR o :: st) T σ K ↔ Rn 268 42 L (vR o :: vR o :: st) T σ K := R_dup (v := vR o) (by decide +kernel) rfl
theorem s268_42 : Rn 268 42 L (vR o :: st) T σ K ↔ sx_kd T o = 9 ∧ Rn 268 45 L (vI (σ o 4) :: st) T σ K := R_getI (idx := 22) (ci := 9) (k := 4) (by decide +kernel) (by decide +kernel) (Or.inl rfl)
theorem s268_45 : Rn 268 45 L st T σ K ↔ Rn 268 46 L (vI 1 :: st) T σ K := R_iconst (n := 1) (by decide +kernel) (by decide)
theorem s268_46 : Rn 268 46 L (vI b :: vI a :: st) T σ K ↔ inI (a - b) ∧ Rn 268 47 L (vI (a - b) :: st) T σ K := R_isub (by decide +kernel)
theorem s268_47 : Rn 268 47 L (vI a :: vR o :: st) T σ K ↔ sx_kd T o = 9 ∧ Rn 268 50 L st T (sx_up σ o 4 a) K := R_putI (idx := 22) (ci := 9) (k := 4) (by decide +kernel) (by decide +kernel) rfl rfl
theorem s268_50 : Rn 268 50 L st T σ K ↔ Rn 268 51 L (vI 0 :: st) T σ K := R_iconst (n := 0) (by decide +kernel) (by decide)
theorem s268_51 : Rn 268 51 [l0, l1] (vI a :: st) T σ K ↔ Rn 268 52 [l0, some (vI a)] st T σ K := R_istore_n (n := 1) (by decide +kernel) rfl
theorem s268_52 : Rn 268 52 [l0, some (vI a)] st T σ K ↔ Rn 268 53 [l0, some (vI a)] (vI a :: st) T σ K := R_iload_n (n := 1) (by decide +kernel) rfl
theorem s268_53 : Rn 268 53 L st T σ K ↔ Rn 268 56 L (vI 481 :: st) T σ K := R_sipush (n := 481) (by decide +kernel) (by decide +kernel)
theorem s268_56 : Rn 268 56 L (vI b :: vI a :: st) T σ K ↔ (b ≤ a → Rn 268 86 L st T σ K) ∧ (a < b → Rn 268 59 L st T σ K) := R_icmp_ge (off := 30) (by decide +kernel) (by decide)
theorem s268_59 : Rn 268 59 [some (vR o), l1] st T σ K ↔ Rn 268 60 [some (vR o), l1] (vR o :: st) T σ K := R_aload_n (n := 0) (by decide +kernel) rfl
theorem s268_60 : Rn 268 60 L (vR o :: st) T σ K ↔ sx_kd T o = 9 ∧ ∃ t, sx_rf T o 1 = some t ∧ Rn 268 63 L (vR t :: st) T σ K := R_getR (idx := 13) (ci := 9) (k := 1) (by decide +kernel) (by decide +kernel) rfl
theorem s268_63 : Rn 268 63 L st T σ K ↔ Rn 268 66 L (vI 481 :: st) T σ K := R_sipush (n := 481) (by decide +kernel) (by decide +kernel)
theorem s268_66 : Rn 268 66 [some (vR o), l1] st T σ K ↔ Rn 268 67 [some (vR o), l1] (vR o :: st) T σ K := R_aload_n (n := 0) (by decide +kernel) rfl
theorem s268_67 : Rn 268 67 L (vR o :: st) T σ K ↔ sx_kd T o = 9 ∧ Rn 268 70 L (vI (σ o 4) :: st) T σ K := R_getI (idx := 22) (ci := 9) (k := 4) (by decide +kernel) (by decide +kernel) (Or.inl rfl)
theorem s268_70 : Rn 268 70 L (vI b :: vI a :: st) T σ K ↔ inI (a * b) ∧ Rn 268 71 L (vI (a * b) :: st) T σ K := R_imul (by decide +kernel)
theorem s268_71 : Rn 268 71 [l0, some (vI a)] st T σ K ↔ Rn 268 72 [l0, some (vI a)] (vI a :: st) T σ K := R_iload_n (n := 1) (by decide +kernel) rfl
theorem s268_72 : Rn 268 72 L (vI b :: vI a :: st) T σ K ↔ inI (a + b) ∧ Rn 268 73 L (vI (a + b) :: st) T σ K := R_iadd (by decide +kernel)
theorem s268_73 : Rn 268 73 [some (vR o), l1] st T σ K ↔ Rn 268 74 [some (vR o), l1] (vR o :: st) T σ K := R_aload_n (n := 0) (by decide +kernel) rfl
theorem s268_74 : Rn 268 74 L (vR o :: st) T σ K ↔ sx_kd T o = 9 ∧ ∃ t, sx_rf T o 0 = some t ∧ Rn 268 77 L (vR t :: st) T σ K := R_getR (idx := 7) (ci := 9) (k := 0) (by decide +kernel) (by decide +kernel) rfl
theorem s268_77 : Rn 268 77 [l0, some (vI a)] st T σ K ↔ Rn 268 78 [l0, some (vI a)] (vI a :: st) T σ K := R_iload_n (n := 1) (by decide +kernel) rfl
theorem s268_78 : Rn 268 78 L (vI a :: vR o :: st) T σ K ↔ (sx_kd T o = 20 ∧ 0 ≤ a ∧ a < sx_ln T o) ∧ Rn 268 79 L (vI (σ o a) :: st) T σ K := R_iald (by decide +kernel) (by decide)
theorem s268_79 : Rn 268 79 L (vI b :: vI a :: vR o :: st) T σ K ↔ (sx_kd T o = 20 ∧ 0 ≤ a ∧ a < sx_ln T o) ∧ Rn 268 80 L st T (sx_up σ o a b) K := R_iast (by decide +kernel)
theorem s268_80 : Rn 268 80 [l0, some (vI a)] st T σ K ↔ inI (a + 1) ∧ Rn 268 83 [l0, some (vI (a + 1))] st T σ K := R_iinc (n := 1) (d := 1) (by decide +kernel) rfl
theorem s268_83 : Rn 268 83 L st T σ K ↔ Rn 268 52 L st T σ K := R_goto (off := -31) (by decide +kernel) (by decide)
theorem s268_86 : Rn 268 86 [some (vR o), l1] st T σ K ↔ Rn 268 87 [some (vR o), l1] (vR o :: st) T σ K := R_aload_n (n := 0) (by decide +kernel) rfl
theorem s268_87 : Rn 268 87 L (vR o :: st) T σ K ↔ Rn 268 88 L (vR o :: vR o :: st) T σ K := R_dup (v := vR o) (by decide +kernel) rfl
theorem s268_88 : Rn 268 88 L (vR o :: st) T σ K ↔ sx_kd T o = 9 ∧ Rn 268 91 L (vI (σ o 4) :: st) T σ K := R_getI (idx := 22) (ci := 9) (k := 4) (by decide +kernel) (by decide +kernel) (Or.inl rfl)
theorem s268_91 : Rn 268 91 L st T σ K ↔ Rn 268 92 L (vI 1 :: st) T σ K := R_iconst (n := 1) (by decide +kernel) (by decide)
theorem s268_92 : Rn 268 92 L (vI b :: vI a :: st) T σ K ↔ inI (a + b) ∧ Rn 268 93 L (vI (a + b) :: st) T σ K := R_iadd (by decide +kernel)
theorem s268_93 : Rn 268 93 L (vI a :: vR o :: st) T σ K ↔ sx_kd T o = 9 ∧ Rn 268 96 L st T (sx_up σ o 4 a) K := R_putI (idx := 22) (ci := 9) (k := 4) (by decide +kernel) (by decide +kernel) rfl rfl
theorem s268_96 : Rn 268 96 L [] T σ K ↔ K none T σ := R_retV (by decide +kernel) (by decide +kernel)
theorem s269_0 : Rn 269 0 [some (vR o), l1, l2, l3, l4] st T σ K ↔ Rn 269 1 [some (vR o), l1, l2, l3, l4] (vR o :: st) T σ K := R_aload_n (n := 0) (by decide +kernel) rfl
theorem s269_1 : Rn 269 1 L (vR o :: st) T σ K ↔ (sx_kd T o = 9 ∧ st.length ≤ 4) ∧ Rn 251 0 [some (vR o), none] [] T σ (fun r T' σ' => Rn 269 4 L (sx_push r st) T' σ' K) := R_V (cm := 251) (n := 0) (idx := 316) (ci := 9) (mx := 2) (vs := []) (by decide +kernel) (by decide +kernel) rfl (by decide +kernel) rfl (by decide +kernel) (by decide +kernel)
theorem s269_4 : Rn 269 4 [l0, l1, l2, l3, l4] (vI a :: st) T σ K ↔ Rn 269 6 [l0, l1, l2, l3, some (vI a)] st T σ K := R_istore (n := 4) (by decide +kernel) rfl
theorem s269_6 : Rn 269 6 [some (vR o), l1, l2, l3, l4] st T σ K ↔ Rn 269 7 [some (vR o), l1, l2, l3, l4] (vR o :: st) T σ K := R_aload_n (n := 0) (by decide +kernel) rfl
theorem s269_7 : Rn 269 7 [l0, l1, l2, l3, some (vI a)] st T σ K ↔ Rn 269 9 [l0, l1, l2, l3, some (vI a)] (vI a :: st) T σ K := R_iload (n := 4) (by decide +kernel) rfl
theorem s269_9 : Rn 269 9 L (vI a :: vR o :: st) T σ K ↔ (sx_kd T o = 9 ∧ st.length ≤ 4) ∧ Rn 270 0 [some (vR o), some (vI a), none] [] T σ (fun r T' σ' => Rn 269 12 L (sx_push r st) T' σ' K) := R_V (cm := 270) (n := 1) (idx := 346) (ci := 9) (mx := 3) (vs := [vI a]) (by decide +kernel) (by decide +kernel) rfl (by decide +kernel) rfl (by decide +kernel) (by decide +kernel)
theorem s269_12 : Rn 269 12 [some (vR o), l1, l2, l3, l4] st T σ K ↔ Rn 269 13 [some (vR o), l1, l2, l3, l4] (vR o :: st) T σ K := R_aload_n (n := 0) (by decide +kernel) rfl
theorem s269_13 : Rn 269 13 [l0, l1, l2, l3, some (vI a)] st T σ K ↔ Rn 269 15 [l0, l1, l2, l3, some (vI a)] (vI a :: st) T σ K := R_iload (n := 4) (by decide +kernel) rfl
theorem s269_15 : Rn 269 15 [l0, some (vI a), l2, l3, l4] st T σ K ↔ Rn 269 16 [l0, some (vI a), l2, l3, l4] (vI a :: st) T σ K := R_iload_n (n := 1) (by decide +kernel) rfl
theorem s269_16 : Rn 269 16 [l0, l1, some (vI a), l3, l4] st T σ K ↔ Rn 269 17 [l0, l1, some (vI a), l3, l4] (vI a :: st) T σ K := R_iload_n (n := 2) (by decide +kernel) rfl
theorem s269_17 : Rn 269 17 [l0, l1, l2, some (vI a), l4] st T σ K ↔ Rn 269 18 [l0, l1, l2, some (vI a), l4] (vI a :: st) T σ K := R_iload_n (n := 3) (by decide +kernel) rfl
theorem s269_18 : Rn 269 18 L (vI d :: vI c :: vI b :: vI a :: vR o :: st) T σ K ↔ (sx_kd T o = 9 ∧ st.length ≤ 4) ∧ Rn 191 0 [some (vR o), some (vI a), some (vI b), some (vI c), some (vI d), none, none] [] T σ (fun r T' σ' => Rn 269 21 L (sx_push r st) T' σ' K) := R_V (cm := 191) (n := 4) (idx := 205) (ci := 9) (mx := 7) (vs := [vI a, vI b, vI c, vI d]) (by decide +kernel) (by decide +kernel) rfl (by decide +kernel) rfl (by decide +kernel) (by decide +kernel)
theorem s269_21 : Rn 269 21 [l0, l1, l2, l3, some (vI a)] st T σ K ↔ Rn 269 23 [l0, l1, l2, l3, some (vI a)] (vI a :: st) T σ K := R_iload (n := 4) (by decide +kernel) rfl
theorem s269_23 : Rn 269 23 L [vI a] T σ K ↔ K (some (vI a)) T σ := R_ret (by decide +kernel) (by decide +kernel)
theorem s270_0 : Rn 270 0 L st T σ K ↔ Rn 270 1 L (vI 0 :: st) T σ K := R_iconst (n := 0) (by decide +kernel) (by decide)
theorem s270_1 : Rn 270 1 [l0, l1, l2] (vI a :: st) T σ K ↔ Rn 270 2 [l0, l1, some (vI a)] st T σ K := R_istore_n (n := 2) (by decide +kernel) rfl
theorem s270_2 : Rn 270 2 [l0, l1, some (vI a)] st T σ K ↔ Rn 270 3 [l0, l1, some (vI a)] (vI a :: st) T σ K := R_iload_n (n := 2) (by decide +kernel) rfl
theorem s270_3 : Rn 270 3 L st T σ K ↔ Rn 270 5 L (vI 6 :: st) T σ K := R_bipush (n := 6) (by decide +kernel) (by decide +kernel)
theorem s270_5 : Rn 270 5 L (vI b :: vI a :: st) T σ K ↔ (b ≤ a → Rn 270 30 L st T σ K) ∧ (a < b → Rn 270 8 L st T σ K) := R_icmp_ge (off := 25) (by decide +kernel) (by decide)
theorem s270_8 : Rn 270 8 [some (vR o), l1, l2] st T σ K ↔ Rn 270 9 [some (vR o), l1, l2] (vR o :: st) T σ K := R_aload_n (n := 0) (by decide +kernel) rfl
theorem s270_9 : Rn 270 9 L (vR o :: st) T σ K ↔ sx_kd T o = 9 ∧ ∃ t, sx_rf T o 0 = some t ∧ Rn 270 12 L (vR t :: st) T σ K := R_getR (idx := 7) (ci := 9) (k := 0) (by decide +kernel) (by decide +kernel) rfl
theorem s270_12 : Rn 270 12 L st T σ K ↔ Rn 270 15 L (vI 240 :: st) T σ K := R_sipush (n := 240) (by decide +kernel) (by decide +kernel)
theorem s270_15 : Rn 270 15 L st T σ K ↔ Rn 270 17 L (vI 6 :: st) T σ K := R_bipush (n := 6) (by decide +kernel) (by decide +kernel)
theorem s270_17 : Rn 270 17 [l0, some (vI a), l2] st T σ K ↔ Rn 270 18 [l0, some (vI a), l2] (vI a :: st) T σ K := R_iload_n (n := 1) (by decide +kernel) rfl
theorem s270_18 : Rn 270 18 L (vI b :: vI a :: st) T σ K ↔ inI (a * b) ∧ Rn 270 19 L (vI (a * b) :: st) T σ K := R_imul (by decide +kernel)
theorem s270_19 : Rn 270 19 L (vI b :: vI a :: st) T σ K ↔ inI (a + b) ∧ Rn 270 20 L (vI (a + b) :: st) T σ K := R_iadd (by decide +kernel)
theorem s270_20 : Rn 270 20 [l0, l1, some (vI a)] st T σ K ↔ Rn 270 21 [l0, l1, some (vI a)] (vI a :: st) T σ K := R_iload_n (n := 2) (by decide +kernel) rfl
theorem s270_21 : Rn 270 21 L (vI b :: vI a :: st) T σ K ↔ inI (a + b) ∧ Rn 270 22 L (vI (a + b) :: st) T σ K := R_iadd (by decide +kernel)
theorem s270_22 : Rn 270 22 L st T σ K ↔ Rn 270 23 L (vI 0 :: st) T σ K := R_iconst (n := 0) (by decide +kernel) (by decide)
theorem s270_23 : Rn 270 23 L (vI b :: vI a :: vR o :: st) T σ K ↔ (sx_kd T o = 20 ∧ 0 ≤ a ∧ a < sx_ln T o) ∧ Rn 270 24 L st T (sx_up σ o a b) K := R_iast (by decide +kernel)
theorem s270_24 : Rn 270 24 [l0, l1, some (vI a)] st T σ K ↔ inI (a + 1) ∧ Rn 270 27 [l0, l1, some (vI (a + 1))] st T σ K := R_iinc (n := 2) (d := 1) (by decide +kernel) rfl
theorem s270_27 : Rn 270 27 L st T σ K ↔ Rn 270 2 L st T σ K := R_goto (off := -25) (by decide +kernel) (by decide)
theorem s270_30 : Rn 270 30 L [] T σ K ↔ K none T σ := R_retV (by decide +kernel) (by decide +kernel)
theorem s271_0 : Rn 271 0 [some (vR o), l1] st T σ K ↔ Rn 271 1 [some (vR o), l1] (vR o :: st) T σ K := R_aload_n (n := 0) (by decide +kernel) rfl
theorem s271_1 : Rn 271 1 [l0, some (vI a)] st T σ K ↔ Rn 271 2 [l0, some (vI a)] (vI a :: st) T σ K := R_iload_n (n := 1) (by decide +kernel) rfl
theorem s271_2 : Rn 271 2 L (vI a :: vR o :: st) T σ K ↔ (sx_kd T o = 9 ∧ st.length ≤ 4) ∧ Rn 205 0 [some (vR o), some (vI a)] [] T σ (fun r T' σ' => Rn 271 5 L (sx_push r st) T' σ' K) := R_V (cm := 205) (n := 1) (idx := 254) (ci := 9) (mx := 2) (vs := [vI a]) (by decide +kernel) (by decide +kernel) rfl (by decide +kernel) rfl (by decide +kernel) (by decide +kernel)
theorem s271_5 : Rn 271 5 L (vI a :: st) T σ K ↔ (a ≠ 0 → Rn 271 14 L st T σ K) ∧ (a = 0 → Rn 271 8 L st T σ K) := R_if_ne (off := 9) (by decide +kernel) (by decide)
theorem s271_8 : Rn 271 8 [some (vR o), l1] st T σ K ↔ Rn 271 9 [some (vR o), l1] (vR o :: st) T σ K := R_aload_n (n := 0) (by decide +kernel) rfl
theorem s271_9 : Rn 271 9 L st T σ K ↔ Rn 271 10 L (vI 2 :: st) T σ K := R_iconst (n := 2) (by decide +kernel) (by decide)
theorem s271_10 : Rn 271 10 L (vI a :: vR o :: st) T σ K ↔ (sx_kd T o = 9 ∧ st.length ≤ 4) ∧ Rn 172 0 [some (vR o), some (vI a)] [] T σ (fun r T' σ' => Rn 271 13 L (sx_push r st) T' σ' K) := R_V (cm := 172) (n := 1) (idx := 146) (ci := 9) (mx := 2) (vs := [vI a]) (by decide +kernel) (by decide +kernel) rfl (by decide +kernel) rfl (by decide +kernel) (by decide +kernel)
theorem s271_13 : Rn 271 13 L [vI a] T σ K ↔ (a = 0 ∨ a = 1) ∧ K (some (vI a)) T σ := R_retZ (by decide +kernel) (by decide +kernel)
theorem s271_14 : Rn 271 14 [some (vR o), l1] st T σ K ↔ Rn 271 15 [some (vR o), l1] (vR o :: st) T σ K := R_aload_n (n := 0) (by decide +kernel) rfl
theorem s271_15 : Rn 271 15 L (vR o :: st) T σ K ↔ (sx_kd T o = 9 ∧ st.length ≤ 4) ∧ Rn 268 0 [some (vR o), none] [] T σ (fun r T' σ' => Rn 271 18 L (sx_push r st) T' σ' K) := R_V (cm := 268) (n := 0) (idx := 349) (ci := 9) (mx := 2) (vs := []) (by decide +kernel) (by decide +kernel) rfl (by decide +kernel) rfl (by decide +kernel) (by decide +kernel)
theorem s271_18 : Rn 271 18 [some (vR o), l1] st T σ K ↔ Rn 271 19 [some (vR o), l1] (vR o :: st) T σ K := R_aload_n (n := 0) (by decide +kernel) rfl
theorem s271_19 : Rn 271 19 [l0, some (vI a)] st T σ K ↔ Rn 271 20 [l0, some (vI a)] (vI a :: st) T σ K := R_iload_n (n := 1) (by decide +kernel) rfl
theorem s271_20 : Rn 271 20 L (vI a :: vR o :: st) T σ K ↔ (sx_kd T o = 9 ∧ st.length ≤ 4) ∧ Rn 254 0 [some (vR o), some (vI a), none, none, none] [] T σ (fun r T' σ' => Rn 271 23 L (sx_push r st) T' σ' K) := R_V (cm := 254) (n := 1) (idx := 325) (ci := 9) (mx := 5) (vs := [vI a]) (by decide +kernel) (by decide +kernel) rfl (by decide +kernel) rfl (by decide +kernel) (by decide +kernel)
theorem s271_23 : Rn 271 23 L st T σ K ↔ Rn 271 24 L (vI 1 :: st) T σ K := R_iconst (n := 1) (by decide +kernel) (by decide)
theorem s271_24 : Rn 271 24 L [vI a] T σ K ↔ (a = 0 ∨ a = 1) ∧ K (some (vI a)) T σ := R_retZ (by decide +kernel) (by decide +kernel)
theorem s272_0 : Rn 272 0 [some (vR o), l1, l2, l3, l4] st T σ K ↔ Rn 272 1 [some (vR o), l1, l2, l3, l4] (vR o :: st) T σ K := R_aload_n (n := 0) (by decide +kernel) rfl
theorem s272_1 : Rn 272 1 [l0, some (vI a), l2, l3, l4] st T σ K ↔ Rn 272 2 [l0, some (vI a), l2, l3, l4] (vI a :: st) T σ K := R_iload_n (n := 1) (by decide +kernel) rfl
theorem s272_2 : Rn 272 2 L (vI a :: vR o :: st) T σ K ↔ (sx_kd T o = 9 ∧ st.length ≤ 4) ∧ Rn 205 0 [some (vR o), some (vI a)] [] T σ (fun r T' σ' => Rn 272 5 L (sx_push r st) T' σ' K) := R_V (cm := 205) (n := 1) (idx := 254) (ci := 9) (mx := 2) (vs := [vI a]) (by decide +kernel) (by decide +kernel) rfl (by decide +kernel) rfl (by decide +kernel) (by decide +kernel)
theorem s272_5 : Rn 272 5 L (vI a :: st) T σ K ↔ (a = 0 → Rn 272 30 L st T σ K) ∧ (a ≠ 0 → Rn 272 8 L st T σ K) := R_if_eq (off := 25) (by decide +kernel) (by decide)
theorem s272_8 : Rn 272 8 [l0, l1, some (vI a), l3, l4] st T σ K ↔ Rn 272 9 [l0, l1, some (vI a), l3, l4] (vI a :: st) T σ K := R_iload_n (n := 2) (by decide +kernel) rfl
theorem s272_9 : Rn 272 9 [l0, l1, l2, some (vI a), l4] st T σ K ↔ Rn 272 10 [l0, l1, l2, some (vI a), l4] (vI a :: st) T σ K := R_iload_n (n := 3) (by decide +kernel) rfl
theorem s272_10 : Rn 272 10 [l0, l1, l2, l3, some (vI a)] st T σ K ↔ Rn 272 12 [l0, l1, l2, l3, some (vI a)] (vI a :: st) T σ K := R_iload (n := 4) (by decide +kernel) rfl
theorem s272_12 : Rn 272 12 L (vI c :: vI b :: vI a :: st) T σ K ↔ st.length ≤ 4 ∧ Rn 226 0 [some (vI a), some (vI b), some (vI c)] [] T σ (fun r T' σ' => Rn 272 15 L (sx_push r st) T' σ' K) := R_S (cm := 226) (n := 3) (idx := 290) (mx := 3) (vs := [vI a, vI b, vI c]) (by decide +kernel) (Or.inl (by decide +kernel)) rfl (by decide +kernel) rfl (by decide +kernel)
theorem s272_15 : Rn 272 15 L (vI a :: st) T σ K ↔ (a = 0 → Rn 272 30 L st T σ K) ∧ (a ≠ 0 → Rn 272 18 L st T σ K) := R_if_eq (off := 15) (by decide +kernel) (by decide)
theorem s272_18 : Rn 272 18 [some (vR o), l1, l2, l3, l4] st T σ K ↔ Rn 272 19 [some (vR o), l1, l2, l3, l4] (vR o :: st) T σ K := R_aload_n (n := 0) (by decide +kernel) rfl
theorem s272_19 : Rn 272 19 [l0, l1, some (vI a), l3, l4] st T σ K ↔ Rn 272 20 [l0, l1, some (vI a), l3, l4] (vI a :: st) T σ K := R_iload_n (n := 2) (by decide +kernel) rfl
theorem s272_20 : Rn 272 20 [l0, l1, l2, some (vI a), l4] st T σ K ↔ Rn 272 21 [l0, l1, l2, some (vI a), l4] (vI a :: st) T σ K := R_iload_n (n := 3) (by decide +kernel) rfl
theorem s272_21 : Rn 272 21 [l0, l1, l2, l3, some (vI a)] st T σ K ↔ Rn 272 23 [l0, l1, l2, l3, some (vI a)] (vI a :: st) T σ K := R_iload (n := 4) (by decide +kernel) rfl
theorem s272_23 : Rn 272 23 L (vI c :: vI b :: vI a :: vR o :: st) T σ K ↔ (sx_kd T o = 9 ∧ st.length ≤ 4) ∧ Rn 213 0 [some (vR o), some (vI a), some (vI b), some (vI c), none] [] T σ (fun r T' σ' => Rn 272 26 L (sx_push r st) T' σ' K) := R_V (cm := 213) (n := 3) (idx := 269) (ci := 9) (mx := 5) (vs := [vI a, vI b, vI c]) (by decide +kernel) (by decide +kernel) rfl (by decide +kernel) rfl (by decide +kernel) (by decide +kernel)
theorem s272_26 : Rn 272 26 L st T σ K ↔ Rn 272 27 L (vI (-1) :: st) T σ K := R_iconst (n := -1) (by decide +kernel) (by decide)
theorem s272_27 : Rn 272 27 L (vI b :: vI a :: st) T σ K ↔ (a = b → Rn 272 36 L st T σ K) ∧ (a ≠ b → Rn 272 30 L st T σ K) := R_icmp_eq (off := 9) (by decide +kernel) (by decide)
theorem s272_30 : Rn 272 30 [some (vR o), l1, l2, l3, l4] st T σ K ↔ Rn 272 31 [some (vR o), l1, l2, l3, l4] (vR o :: st) T σ K := R_aload_n (n := 0) (by decide +kernel) rfl
theorem s272_31 : Rn 272 31 L st T σ K ↔ Rn 272 32 L (vI 2 :: st) T σ K := R_iconst (n := 2) (by decide +kernel) (by decide)
theorem s272_32 : Rn 272 32 L (vI a :: vR o :: st) T σ K ↔ (sx_kd T o = 9 ∧ st.length ≤ 4) ∧ Rn 172 0 [some (vR o), some (vI a)] [] T σ (fun r T' σ' => Rn 272 35 L (sx_push r st) T' σ' K) := R_V (cm := 172) (n := 1) (idx := 146) (ci := 9) (mx := 2) (vs := [vI a]) (by decide +kernel) (by decide +kernel) rfl (by decide +kernel) rfl (by decide +kernel) (by decide +kernel)
theorem s272_35 : Rn 272 35 L [vI a] T σ K ↔ (a = 0 ∨ a = 1) ∧ K (some (vI a)) T σ := R_retZ (by decide +kernel) (by decide +kernel)
theorem s272_36 : Rn 272 36 [some (vR o), l1, l2, l3, l4] st T σ K ↔ Rn 272 37 [some (vR o), l1, l2, l3, l4] (vR o :: st) T σ K := R_aload_n (n := 0) (by decide +kernel) rfl
theorem s272_37 : Rn 272 37 L (vR o :: st) T σ K ↔ (sx_kd T o = 9 ∧ st.length ≤ 4) ∧ Rn 268 0 [some (vR o), none] [] T σ (fun r T' σ' => Rn 272 40 L (sx_push r st) T' σ' K) := R_V (cm := 268) (n := 0) (idx := 349) (ci := 9) (mx := 2) (vs := []) (by decide +kernel) (by decide +kernel) rfl (by decide +kernel) rfl (by decide +kernel) (by decide +kernel)
theorem s272_40 : Rn 272 40 [some (vR o), l1, l2, l3, l4] st T σ K ↔ Rn 272 41 [some (vR o), l1, l2, l3, l4] (vR o :: st) T σ K := R_aload_n (n := 0) (by decide +kernel) rfl
theorem s272_41 : Rn 272 41 [l0, some (vI a), l2, l3, l4] st T σ K ↔ Rn 272 42 [l0, some (vI a), l2, l3, l4] (vI a :: st) T σ K := R_iload_n (n := 1) (by decide +kernel) rfl
theorem s272_42 : Rn 272 42 L (vI a :: vR o :: st) T σ K ↔ (sx_kd T o = 9 ∧ st.length ≤ 4) ∧ Rn 254 0 [some (vR o), some (vI a), none, none, none] [] T σ (fun r T' σ' => Rn 272 45 L (sx_push r st) T' σ' K) := R_V (cm := 254) (n := 1) (idx := 325) (ci := 9) (mx := 5) (vs := [vI a]) (by decide +kernel) (by decide +kernel) rfl (by decide +kernel) rfl (by decide +kernel) (by decide +kernel)
theorem s272_45 : Rn 272 45 [some (vR o), l1, l2, l3, l4] st T σ K ↔ Rn 272 46 [some (vR o), l1, l2, l3, l4] (vR o :: st) T σ K := R_aload_n (n := 0) (by decide +kernel) rfl
theorem s272_46 : Rn 272 46 [l0, some (vI a), l2, l3, l4] st T σ K ↔ Rn 272 47 [l0, some (vI a), l2, l3, l4] (vI a :: st) T σ K := R_iload_n (n := 1) (by decide +kernel) rfl
theorem s272_47 : Rn 272 47 [l0, l1, some (vI a), l3, l4] st T σ K ↔ Rn 272 48 [l0, l1, some (vI a), l3, l4] (vI a :: st) T σ K := R_iload_n (n := 2) (by decide +kernel) rfl
theorem s272_48 : Rn 272 48 [l0, l1, l2, some (vI a), l4] st T σ K ↔ Rn 272 49 [l0, l1, l2, some (vI a), l4] (vI a :: st) T σ K := R_iload_n (n := 3) (by decide +kernel) rfl
theorem s272_49 : Rn 272 49 [l0, l1, l2, l3, some (vI a)] st T σ K ↔ Rn 272 51 [l0, l1, l2, l3, some (vI a)] (vI a :: st) T σ K := R_iload (n := 4) (by decide +kernel) rfl
theorem s272_51 : Rn 272 51 L (vI d :: vI c :: vI b :: vI a :: vR o :: st) T σ K ↔ (sx_kd T o = 9 ∧ st.length ≤ 4) ∧ Rn 191 0 [some (vR o), some (vI a), some (vI b), some (vI c), some (vI d), none, none] [] T σ (fun r T' σ' => Rn 272 54 L (sx_push r st) T' σ' K) := R_V (cm := 191) (n := 4) (idx := 205) (ci := 9) (mx := 7) (vs := [vI a, vI b, vI c, vI d]) (by decide +kernel) (by decide +kernel) rfl (by decide +kernel) rfl (by decide +kernel) (by decide +kernel)
theorem s272_54 : Rn 272 54 L st T σ K ↔ Rn 272 55 L (vI 1 :: st) T σ K := R_iconst (n := 1) (by decide +kernel) (by decide)
theorem s272_55 : Rn 272 55 L [vI a] T σ K ↔ (a = 0 ∨ a = 1) ∧ K (some (vI a)) T σ := R_retZ (by decide +kernel) (by decide +kernel)
theorem s273_0 : Rn 273 0 [some (vR o), l1] st T σ K ↔ Rn 273 1 [some (vR o), l1] (vR o :: st) T σ K := R_aload_n (n := 0) (by decide +kernel) rfl
theorem s273_1 : Rn 273 1 L (vR o :: st) T σ K ↔ sx_kd T o = 9 ∧ Rn 273 4 L (vI (σ o 6) :: st) T σ K := R_getI (idx := 29) (ci := 9) (k := 6) (by decide +kernel) (by decide +kernel) (Or.inr rfl)
theorem s273_4 : Rn 273 4 L (vI a :: st) T σ K ↔ (a = 0 → Rn 273 28 L st T σ K) ∧ (a ≠ 0 → Rn 273 7 L st T σ K) := R_if_eq (off := 24) (by decide +kernel) (by decide)
theorem s273_7 : Rn 273 7 [l0, some (vI a)] st T σ K ↔ Rn 273 8 [l0, some (vI a)] (vI a :: st) T σ K := R_iload_n (n := 1) (by decide +kernel) rfl
theorem s273_8 : Rn 273 8 L st T σ K ↔ Rn 273 9 L (vI 0 :: st) T σ K := R_iconst (n := 0) (by decide +kernel) (by decide)
theorem s273_9 : Rn 273 9 L st T σ K ↔ Rn 273 10 L (vI 2 :: st) T σ K := R_iconst (n := 2) (by decide +kernel) (by decide)
theorem s273_10 : Rn 273 10 L (vI c :: vI b :: vI a :: st) T σ K ↔ st.length ≤ 4 ∧ Rn 185 0 [some (vI a), some (vI b), some (vI c)] [] T σ (fun r T' σ' => Rn 273 13 L (sx_push r st) T' σ' K) := R_S (cm := 185) (n := 3) (idx := 189) (mx := 3) (vs := [vI a, vI b, vI c]) (by decide +kernel) (Or.inl (by decide +kernel)) rfl (by decide +kernel) rfl (by decide +kernel)
theorem s273_13 : Rn 273 13 L (vI a :: st) T σ K ↔ (a = 0 → Rn 273 28 L st T σ K) ∧ (a ≠ 0 → Rn 273 16 L st T σ K) := R_if_eq (off := 15) (by decide +kernel) (by decide)
theorem s273_16 : Rn 273 16 [some (vR o), l1] st T σ K ↔ Rn 273 17 [some (vR o), l1] (vR o :: st) T σ K := R_aload_n (n := 0) (by decide +kernel) rfl
theorem s273_17 : Rn 273 17 L (vR o :: st) T σ K ↔ sx_kd T o = 9 ∧ ∃ t, sx_rf T o 0 = some t ∧ Rn 273 20 L (vR t :: st) T σ K := R_getR (idx := 7) (ci := 9) (k := 0) (by decide +kernel) (by decide +kernel) rfl
theorem s273_20 : Rn 273 20 L st T σ K ↔ Rn 273 23 L (vI 480 :: st) T σ K := R_sipush (n := 480) (by decide +kernel) (by decide +kernel)
theorem s273_23 : Rn 273 23 L (vI a :: vR o :: st) T σ K ↔ (sx_kd T o = 20 ∧ 0 ≤ a ∧ a < sx_ln T o) ∧ Rn 273 24 L (vI (σ o a) :: st) T σ K := R_iald (by decide +kernel) (by decide)
theorem s273_24 : Rn 273 24 [l0, some (vI a)] st T σ K ↔ Rn 273 25 [l0, some (vI a)] (vI a :: st) T σ K := R_iload_n (n := 1) (by decide +kernel) rfl
theorem s273_25 : Rn 273 25 L (vI b :: vI a :: st) T σ K ↔ (a ≠ b → Rn 273 34 L st T σ K) ∧ (a = b → Rn 273 28 L st T σ K) := R_icmp_ne (off := 9) (by decide +kernel) (by decide)
theorem s273_28 : Rn 273 28 [some (vR o), l1] st T σ K ↔ Rn 273 29 [some (vR o), l1] (vR o :: st) T σ K := R_aload_n (n := 0) (by decide +kernel) rfl
theorem s273_29 : Rn 273 29 L st T σ K ↔ Rn 273 30 L (vI 3 :: st) T σ K := R_iconst (n := 3) (by decide +kernel) (by decide)
theorem s273_30 : Rn 273 30 L (vI a :: vR o :: st) T σ K ↔ (sx_kd T o = 9 ∧ st.length ≤ 4) ∧ Rn 172 0 [some (vR o), some (vI a)] [] T σ (fun r T' σ' => Rn 273 33 L (sx_push r st) T' σ' K) := R_V (cm := 172) (n := 1) (idx := 146) (ci := 9) (mx := 2) (vs := [vI a]) (by decide +kernel) (by decide +kernel) rfl (by decide +kernel) rfl (by decide +kernel) (by decide +kernel)
theorem s273_33 : Rn 273 33 L [vI a] T σ K ↔ (a = 0 ∨ a = 1) ∧ K (some (vI a)) T σ := R_retZ (by decide +kernel) (by decide +kernel)
theorem s273_34 : Rn 273 34 [some (vR o), l1] st T σ K ↔ Rn 273 35 [some (vR o), l1] (vR o :: st) T σ K := R_aload_n (n := 0) (by decide +kernel) rfl
theorem s273_35 : Rn 273 35 L (vR o :: st) T σ K ↔ (sx_kd T o = 9 ∧ st.length ≤ 4) ∧ Rn 268 0 [some (vR o), none] [] T σ (fun r T' σ' => Rn 273 38 L (sx_push r st) T' σ' K) := R_V (cm := 268) (n := 0) (idx := 349) (ci := 9) (mx := 2) (vs := []) (by decide +kernel) (by decide +kernel) rfl (by decide +kernel) rfl (by decide +kernel) (by decide +kernel)
theorem s273_38 : Rn 273 38 [some (vR o), l1] st T σ K ↔ Rn 273 39 [some (vR o), l1] (vR o :: st) T σ K := R_aload_n (n := 0) (by decide +kernel) rfl
theorem s273_39 : Rn 273 39 L (vR o :: st) T σ K ↔ sx_kd T o = 9 ∧ ∃ t, sx_rf T o 0 = some t ∧ Rn 273 42 L (vR t :: st) T σ K := R_getR (idx := 7) (ci := 9) (k := 0) (by decide +kernel) (by decide +kernel) rfl
theorem s273_42 : Rn 273 42 L st T σ K ↔ Rn 273 45 L (vI 480 :: st) T σ K := R_sipush (n := 480) (by decide +kernel) (by decide +kernel)
theorem s273_45 : Rn 273 45 [l0, some (vI a)] st T σ K ↔ Rn 273 46 [l0, some (vI a)] (vI a :: st) T σ K := R_iload_n (n := 1) (by decide +kernel) rfl
theorem s273_46 : Rn 273 46 L (vI b :: vI a :: vR o :: st) T σ K ↔ (sx_kd T o = 20 ∧ 0 ≤ a ∧ a < sx_ln T o) ∧ Rn 273 47 L st T (sx_up σ o a b) K := R_iast (by decide +kernel)
theorem s273_47 : Rn 273 47 [some (vR o), l1] st T σ K ↔ Rn 273 48 [some (vR o), l1] (vR o :: st) T σ K := R_aload_n (n := 0) (by decide +kernel) rfl
theorem s273_48 : Rn 273 48 L (vR o :: st) T σ K ↔ (sx_kd T o = 9 ∧ st.length ≤ 4) ∧ Rn 260 0 [some (vR o), none] [] T σ (fun r T' σ' => Rn 273 51 L (sx_push r st) T' σ' K) := R_V (cm := 260) (n := 0) (idx := 334) (ci := 9) (mx := 2) (vs := []) (by decide +kernel) (by decide +kernel) rfl (by decide +kernel) rfl (by decide +kernel) (by decide +kernel)
theorem s273_51 : Rn 273 51 L st T σ K ↔ Rn 273 52 L (vI 1 :: st) T σ K := R_iconst (n := 1) (by decide +kernel) (by decide)
theorem s273_52 : Rn 273 52 L [vI a] T σ K ↔ (a = 0 ∨ a = 1) ∧ K (some (vI a)) T σ := R_retZ (by decide +kernel) (by decide +kernel)
theorem s274_0 : Rn 274 0 [some (vR o)] st T σ K ↔ Rn 274 1 [some (vR o)] (vR o :: st) T σ K := R_aload_n (n := 0) (by decide +kernel) rfl
theorem s274_1 : Rn 274 1 L (vR o :: st) T σ K ↔ (sx_kd T o = 9 ∧ st.length ≤ 4) ∧ Rn 203 0 [some (vR o), none] [] T σ (fun r T' σ' => Rn 274 4 L (sx_push r st) T' σ' K) := R_V (cm := 203) (n := 0) (idx := 251) (ci := 9) (mx := 2) (vs := []) (by decide +kernel) (by decide +kernel) rfl (by decide +kernel) rfl (by decide +kernel) (by decide +kernel)
theorem s274_4 : Rn 274 4 L st T σ K ↔ Rn 274 5 L (vI (-1) :: st) T σ K := R_iconst (n := -1) (by decide +kernel) (by decide)
theorem s274_5 : Rn 274 5 L (vI b :: vI a :: st) T σ K ↔ (a ≠ b → Rn 274 14 L st T σ K) ∧ (a = b → Rn 274 8 L st T σ K) := R_icmp_ne (off := 9) (by decide +kernel) (by decide)
theorem s274_8 : Rn 274 8 [some (vR o)] st T σ K ↔ Rn 274 9 [some (vR o)] (vR o :: st) T σ K := R_aload_n (n := 0) (by decide +kernel) rfl
theorem s274_9 : Rn 274 9 L st T σ K ↔ Rn 274 10 L (vI 3 :: st) T σ K := R_iconst (n := 3) (by decide +kernel) (by decide)
theorem s274_10 : Rn 274 10 L (vI a :: vR o :: st) T σ K ↔ (sx_kd T o = 9 ∧ st.length ≤ 4) ∧ Rn 169 0 [some (vR o), some (vI a)] [] T σ (fun r T' σ' => Rn 274 13 L (sx_push r st) T' σ' K) := R_V (cm := 169) (n := 1) (idx := 138) (ci := 9) (mx := 2) (vs := [vI a]) (by decide +kernel) (by decide +kernel) rfl (by decide +kernel) rfl (by decide +kernel) (by decide +kernel)
theorem s274_13 : Rn 274 13 L [vI a] T σ K ↔ K (some (vI a)) T σ := R_ret (by decide +kernel) (by decide +kernel)
theorem s274_14 : Rn 274 14 [some (vR o)] st T σ K ↔ Rn 274 15 [some (vR o)] (vR o :: st) T σ K := R_aload_n (n := 0) (by decide +kernel) rfl
theorem s274_15 : Rn 274 15 L (vR o :: st) T σ K ↔ (sx_kd T o = 9 ∧ st.length ≤ 4) ∧ Rn 268 0 [some (vR o), none] [] T σ (fun r T' σ' => Rn 274 18 L (sx_push r st) T' σ' K) := R_V (cm := 268) (n := 0) (idx := 349) (ci := 9) (mx := 2) (vs := []) (by decide +kernel) (by decide +kernel) rfl (by decide +kernel) rfl (by decide +kernel) (by decide +kernel)
theorem s274_18 : Rn 274 18 [some (vR o)] st T σ K ↔ Rn 274 19 [some (vR o)] (vR o :: st) T σ K := R_aload_n (n := 0) (by decide +kernel) rfl
theorem s274_19 : Rn 274 19 L (vR o :: st) T σ K ↔ (sx_kd T o = 9 ∧ st.length ≤ 4) ∧ Rn 253 0 [some (vR o), none] [] T σ (fun r T' σ' => Rn 274 22 L (sx_push r st) T' σ' K) := R_V (cm := 253) (n := 0) (idx := 322) (ci := 9) (mx := 2) (vs := []) (by decide +kernel) (by decide +kernel) rfl (by decide +kernel) rfl (by decide +kernel) (by decide +kernel)
theorem s274_22 : Rn 274 22 [some (vR o)] st T σ K ↔ Rn 274 23 [some (vR o)] (vR o :: st) T σ K := R_aload_n (n := 0) (by decide +kernel) rfl
theorem s274_23 : Rn 274 23 L (vR o :: st) T σ K ↔ (sx_kd T o = 9 ∧ st.length ≤ 4) ∧ Rn 260 0 [some (vR o), none] [] T σ (fun r T' σ' => Rn 274 26 L (sx_push r st) T' σ' K) := R_V (cm := 260) (n := 0) (idx := 334) (ci := 9) (mx := 2) (vs := []) (by decide +kernel) (by decide +kernel) rfl (by decide +kernel) rfl (by decide +kernel) (by decide +kernel)
theorem s274_26 : Rn 274 26 [some (vR o)] st T σ K ↔ Rn 274 27 [some (vR o)] (vR o :: st) T σ K := R_aload_n (n := 0) (by decide +kernel) rfl
theorem s274_27 : Rn 274 27 L st T σ K ↔ Rn 274 30 L (vI 160 :: st) T σ K := R_sipush (n := 160) (by decide +kernel) (by decide +kernel)
theorem s274_30 : Rn 274 30 L (vI a :: vR o :: st) T σ K ↔ (sx_kd T o = 9 ∧ st.length ≤ 4) ∧ Rn 257 0 [some (vR o), some (vI a), none, none] [] T σ (fun r T' σ' => Rn 274 33 L (sx_push r st) T' σ' K) := R_V (cm := 257) (n := 1) (idx := 328) (ci := 9) (mx := 4) (vs := [vI a]) (by decide +kernel) (by decide +kernel) rfl (by decide +kernel) rfl (by decide +kernel) (by decide +kernel)
theorem s274_33 : Rn 274 33 L [vI a] T σ K ↔ K (some (vI a)) T σ := R_ret (by decide +kernel) (by decide +kernel)
theorem s275_0 : Rn 275 0 [some (vR o), l1, l2] st T σ K ↔ Rn 275 1 [some (vR o), l1, l2] (vR o :: st) T σ K := R_aload_n (n := 0) (by decide +kernel) rfl
theorem s275_1 : Rn 275 1 L (vR o :: st) T σ K ↔ sx_kd T o = 9 ∧ Rn 275 4 L (vI (σ o 6) :: st) T σ K := R_getI (idx := 29) (ci := 9) (k := 6) (by decide +kernel) (by decide +kernel) (Or.inr rfl)
theorem s275_4 : Rn 275 4 L (vI a :: st) T σ K ↔ (a = 0 → Rn 275 17 L st T σ K) ∧ (a ≠ 0 → Rn 275 7 L st T σ K) := R_if_eq (off := 13) (by decide +kernel) (by decide)
theorem s275_7 : Rn 275 7 [l0, some (vI a), l2] st T σ K ↔ Rn 275 8 [l0, some (vI a), l2] (vI a :: st) T σ K := R_iload_n (n := 1) (by decide +kernel) rfl
theorem s275_8 : Rn 275 8 L st T σ K ↔ Rn 275 9 L (vI 1 :: st) T σ K := R_iconst (n := 1) (by decide +kernel) (by decide)
theorem s275_9 : Rn 275 9 L st T σ K ↔ Rn 275 11 L (vI 40 :: st) T σ K := R_bipush (n := 40) (by decide +kernel) (by decide +kernel)
theorem s275_11 : Rn 275 11 L (vI c :: vI b :: vI a :: st) T σ K ↔ st.length ≤ 4 ∧ Rn 185 0 [some (vI a), some (vI b), some (vI c)] [] T σ (fun r T' σ' => Rn 275 14 L (sx_push r st) T' σ' K) := R_S (cm := 185) (n := 3) (idx := 189) (mx := 3) (vs := [vI a, vI b, vI c]) (by decide +kernel) (Or.inl (by decide +kernel)) rfl (by decide +kernel) rfl (by decide +kernel)
theorem s275_14 : Rn 275 14 L (vI a :: st) T σ K ↔ (a ≠ 0 → Rn 275 23 L st T σ K) ∧ (a = 0 → Rn 275 17 L st T σ K) := R_if_ne (off := 9) (by decide +kernel) (by decide)
theorem s275_17 : Rn 275 17 [some (vR o), l1, l2] st T σ K ↔ Rn 275 18 [some (vR o), l1, l2] (vR o :: st) T σ K := R_aload_n (n := 0) (by decide +kernel) rfl
theorem s275_18 : Rn 275 18 L st T σ K ↔ Rn 275 19 L (vI 3 :: st) T σ K := R_iconst (n := 3) (by decide +kernel) (by decide)
theorem s275_19 : Rn 275 19 L (vI a :: vR o :: st) T σ K ↔ (sx_kd T o = 9 ∧ st.length ≤ 4) ∧ Rn 169 0 [some (vR o), some (vI a)] [] T σ (fun r T' σ' => Rn 275 22 L (sx_push r st) T' σ' K) := R_V (cm := 169) (n := 1) (idx := 138) (ci := 9) (mx := 2) (vs := [vI a]) (by decide +kernel) (by decide +kernel) rfl (by decide +kernel) rfl (by decide +kernel) (by decide +kernel)
theorem s275_22 : Rn 275 22 L [vI a] T σ K ↔ K (some (vI a)) T σ := R_ret (by decide +kernel) (by decide +kernel)
theorem s275_23 : Rn 275 23 [some (vR o), l1, l2] st T σ K ↔ Rn 275 24 [some (vR o), l1, l2] (vR o :: st) T σ K := R_aload_n (n := 0) (by decide +kernel) rfl
theorem s275_24 : Rn 275 24 L (vR o :: st) T σ K ↔ (sx_kd T o = 9 ∧ st.length ≤ 4) ∧ Rn 268 0 [some (vR o), none] [] T σ (fun r T' σ' => Rn 275 27 L (sx_push r st) T' σ' K) := R_V (cm := 268) (n := 0) (idx := 349) (ci := 9) (mx := 2) (vs := []) (by decide +kernel) (by decide +kernel) rfl (by decide +kernel) rfl (by decide +kernel) (by decide +kernel)
theorem s275_27 : Rn 275 27 L st T σ K ↔ Rn 275 28 L (vI 0 :: st) T σ K := R_iconst (n := 0) (by decide +kernel) (by decide)
theorem s275_28 : Rn 275 28 [l0, l1, l2] (vI a :: st) T σ K ↔ Rn 275 29 [l0, l1, some (vI a)] st T σ K := R_istore_n (n := 2) (by decide +kernel) rfl
theorem s275_29 : Rn 275 29 [l0, l1, some (vI a)] st T σ K ↔ Rn 275 30 [l0, l1, some (vI a)] (vI a :: st) T σ K := R_iload_n (n := 2) (by decide +kernel) rfl
theorem s275_30 : Rn 275 30 [l0, some (vI a), l2] st T σ K ↔ Rn 275 31 [l0, some (vI a), l2] (vI a :: st) T σ K := R_iload_n (n := 1) (by decide +kernel) rfl
theorem s275_31 : Rn 275 31 L (vI b :: vI a :: st) T σ K ↔ (b ≤ a → Rn 275 44 L st T σ K) ∧ (a < b → Rn 275 34 L st T σ K) := R_icmp_ge (off := 13) (by decide +kernel) (by decide)
theorem s275_34 : Rn 275 34 [some (vR o), l1, l2] st T σ K ↔ Rn 275 35 [some (vR o), l1, l2] (vR o :: st) T σ K := R_aload_n (n := 0) (by decide +kernel) rfl
theorem s275_35 : Rn 275 35 L (vR o :: st) T σ K ↔ (sx_kd T o = 9 ∧ st.length ≤ 4) ∧ Rn 276 0 [some (vR o), none, none, none, none] [] T σ (fun r T' σ' => Rn 275 38 L (sx_push r st) T' σ' K) := R_V (cm := 276) (n := 0) (idx := 367) (ci := 9) (mx := 5) (vs := []) (by decide +kernel) (by decide +kernel) rfl (by decide +kernel) rfl (by decide +kernel) (by decide +kernel)
theorem s275_38 : Rn 275 38 [l0, l1, some (vI a)] st T σ K ↔ inI (a + 1) ∧ Rn 275 41 [l0, l1, some (vI (a + 1))] st T σ K := R_iinc (n := 2) (d := 1) (by decide +kernel) rfl
theorem s275_41 : Rn 275 41 L st T σ K ↔ Rn 275 29 L st T σ K := R_goto (off := -12) (by decide +kernel) (by decide)
theorem s275_44 : Rn 275 44 [some (vR o), l1, l2] st T σ K ↔ Rn 275 45 [some (vR o), l1, l2] (vR o :: st) T σ K := R_aload_n (n := 0) (by decide +kernel) rfl
theorem s275_45 : Rn 275 45 L (vR o :: st) T σ K ↔ (sx_kd T o = 9 ∧ st.length ≤ 4) ∧ Rn 202 0 [some (vR o), none, none] [] T σ (fun r T' σ' => Rn 275 48 L (sx_push r st) T' σ' K) := R_V (cm := 202) (n := 0) (idx := 248) (ci := 9) (mx := 3) (vs := []) (by decide +kernel) (by decide +kernel) rfl (by decide +kernel) rfl (by decide +kernel) (by decide +kernel)
theorem s275_48 : Rn 275 48 L [vI a] T σ K ↔ K (some (vI a)) T σ := R_ret (by decide +kernel) (by decide +kernel)
theorem s276_0 : Rn 276 0 [some (vR o), l1, l2, l3, l4] st T σ K ↔ Rn 276 1 [some (vR o), l1, l2, l3, l4] (vR o :: st) T σ K := R_aload_n (n := 0) (by decide +kernel) rfl
theorem s276_1 : Rn 276 1 L st T σ K ↔ Rn 276 2 L (vI 3 :: st) T σ K := R_iconst (n := 3) (by decide +kernel) (by decide)
theorem s276_2 : Rn 276 2 L (vI a :: vR o :: st) T σ K ↔ (sx_kd T o = 9 ∧ st.length ≤ 4) ∧ Rn 277 0 [some (vR o), some (vI a)] [] T σ (fun r T' σ' => Rn 276 5 L (sx_push r st) T' σ' K) := R_V (cm := 277) (n := 1) (idx := 361) (ci := 9) (mx := 2) (vs := [vI a]) (by decide +kernel) (by decide +kernel) rfl (by decide +kernel) rfl (by decide +kernel) (by decide +kernel)
theorem s276_5 : Rn 276 5 [l0, l1, l2, l3, l4] (vI a :: st) T σ K ↔ Rn 276 6 [l0, some (vI a), l2, l3, l4] st T σ K := R_istore_n (n := 1) (by decide +kernel) rfl
theorem s276_6 : Rn 276 6 [l0, some (vI a), l2, l3, l4] st T σ K ↔ Rn 276 7 [l0, some (vI a), l2, l3, l4] (vI a :: st) T σ K := R_iload_n (n := 1) (by decide +kernel) rfl
theorem s276_7 : Rn 276 7 L st T σ K ↔ Rn 276 8 L (vI 2 :: st) T σ K := R_iconst (n := 2) (by decide +kernel) (by decide)
theorem s276_8 : Rn 276 8 L (vI b :: vI a :: st) T σ K ↔ (b ≤ a → Rn 276 57 L st T σ K) ∧ (a < b → Rn 276 11 L st T σ K) := R_icmp_ge (off := 49) (by decide +kernel) (by decide)
theorem s276_11 : Rn 276 11 [some (vR o), l1, l2, l3, l4] st T σ K ↔ Rn 276 12 [some (vR o), l1, l2, l3, l4] (vR o :: st) T σ K := R_aload_n (n := 0) (by decide +kernel) rfl
theorem s276_12 : Rn 276 12 L st T σ K ↔ Rn 276 15 L (vI 256 :: st) T σ K := R_sipush (n := 256) (by decide +kernel) (by decide +kernel)
theorem s276_15 : Rn 276 15 L (vI a :: vR o :: st) T σ K ↔ (sx_kd T o = 9 ∧ st.length ≤ 4) ∧ Rn 277 0 [some (vR o), some (vI a)] [] T σ (fun r T' σ' => Rn 276 18 L (sx_push r st) T' σ' K) := R_V (cm := 277) (n := 1) (idx := 361) (ci := 9) (mx := 2) (vs := [vI a]) (by decide +kernel) (by decide +kernel) rfl (by decide +kernel) rfl (by decide +kernel) (by decide +kernel)
theorem s276_18 : Rn 276 18 [l0, l1, l2, l3, l4] (vI a :: st) T σ K ↔ Rn 276 19 [l0, l1, some (vI a), l3, l4] st T σ K := R_istore_n (n := 2) (by decide +kernel) rfl
theorem s276_19 : Rn 276 19 [some (vR o), l1, l2, l3, l4] st T σ K ↔ Rn 276 20 [some (vR o), l1, l2, l3, l4] (vR o :: st) T σ K := R_aload_n (n := 0) (by decide +kernel) rfl
theorem s276_20 : Rn 276 20 L st T σ K ↔ Rn 276 23 L (vI 256 :: st) T σ K := R_sipush (n := 256) (by decide +kernel) (by decide +kernel)
theorem s276_23 : Rn 276 23 L (vI a :: vR o :: st) T σ K ↔ (sx_kd T o = 9 ∧ st.length ≤ 4) ∧ Rn 277 0 [some (vR o), some (vI a)] [] T σ (fun r T' σ' => Rn 276 26 L (sx_push r st) T' σ' K) := R_V (cm := 277) (n := 1) (idx := 361) (ci := 9) (mx := 2) (vs := [vI a]) (by decide +kernel) (by decide +kernel) rfl (by decide +kernel) rfl (by decide +kernel) (by decide +kernel)
theorem s276_26 : Rn 276 26 [l0, l1, l2, l3, l4] (vI a :: st) T σ K ↔ Rn 276 27 [l0, l1, l2, some (vI a), l4] st T σ K := R_istore_n (n := 3) (by decide +kernel) rfl
theorem s276_27 : Rn 276 27 [some (vR o), l1, l2, l3, l4] st T σ K ↔ Rn 276 28 [some (vR o), l1, l2, l3, l4] (vR o :: st) T σ K := R_aload_n (n := 0) (by decide +kernel) rfl
theorem s276_28 : Rn 276 28 L st T σ K ↔ Rn 276 31 L (vI 256 :: st) T σ K := R_sipush (n := 256) (by decide +kernel) (by decide +kernel)
theorem s276_31 : Rn 276 31 L (vI a :: vR o :: st) T σ K ↔ (sx_kd T o = 9 ∧ st.length ≤ 4) ∧ Rn 277 0 [some (vR o), some (vI a)] [] T σ (fun r T' σ' => Rn 276 34 L (sx_push r st) T' σ' K) := R_V (cm := 277) (n := 1) (idx := 361) (ci := 9) (mx := 2) (vs := [vI a]) (by decide +kernel) (by decide +kernel) rfl (by decide +kernel) rfl (by decide +kernel) (by decide +kernel)
theorem s276_34 : Rn 276 34 [l0, l1, l2, l3, l4] (vI a :: st) T σ K ↔ Rn 276 36 [l0, l1, l2, l3, some (vI a)] st T σ K := R_istore (n := 4) (by decide +kernel) rfl
theorem s276_36 : Rn 276 36 [some (vR o), l1, l2, l3, l4] st T σ K ↔ Rn 276 37 [some (vR o), l1, l2, l3, l4] (vR o :: st) T σ K := R_aload_n (n := 0) (by decide +kernel) rfl
theorem s276_37 : Rn 276 37 [l0, l1, some (vI a), l3, l4] st T σ K ↔ Rn 276 38 [l0, l1, some (vI a), l3, l4] (vI a :: st) T σ K := R_iload_n (n := 2) (by decide +kernel) rfl
theorem s276_38 : Rn 276 38 [l0, l1, l2, some (vI a), l4] st T σ K ↔ Rn 276 39 [l0, l1, l2, some (vI a), l4] (vI a :: st) T σ K := R_iload_n (n := 3) (by decide +kernel) rfl
theorem s276_39 : Rn 276 39 [l0, l1, l2, l3, some (vI a)] st T σ K ↔ Rn 276 41 [l0, l1, l2, l3, some (vI a)] (vI a :: st) T σ K := R_iload (n := 4) (by decide +kernel) rfl
theorem s276_41 : Rn 276 41 L (vI c :: vI b :: vI a :: vR o :: st) T σ K ↔ (sx_kd T o = 9 ∧ st.length ≤ 4) ∧ Rn 250 0 [some (vR o), some (vI a), some (vI b), some (vI c)] [] T σ (fun r T' σ' => Rn 276 44 L (sx_push r st) T' σ' K) := R_V (cm := 250) (n := 3) (idx := 319) (ci := 9) (mx := 4) (vs := [vI a, vI b, vI c]) (by decide +kernel) (by decide +kernel) rfl (by decide +kernel) rfl (by decide +kernel) (by decide +kernel)
theorem s276_44 : Rn 276 44 L (vI a :: st) T σ K ↔ (a = 0 → Rn 276 56 L st T σ K) ∧ (a ≠ 0 → Rn 276 47 L st T σ K) := R_if_eq (off := 12) (by decide +kernel) (by decide)
theorem s276_47 : Rn 276 47 [some (vR o), l1, l2, l3, l4] st T σ K ↔ Rn 276 48 [some (vR o), l1, l2, l3, l4] (vR o :: st) T σ K := R_aload_n (n := 0) (by decide +kernel) rfl
theorem s276_48 : Rn 276 48 [l0, l1, some (vI a), l3, l4] st T σ K ↔ Rn 276 49 [l0, l1, some (vI a), l3, l4] (vI a :: st) T σ K := R_iload_n (n := 2) (by decide +kernel) rfl
theorem s276_49 : Rn 276 49 [l0, l1, l2, some (vI a), l4] st T σ K ↔ Rn 276 50 [l0, l1, l2, some (vI a), l4] (vI a :: st) T σ K := R_iload_n (n := 3) (by decide +kernel) rfl
theorem s276_50 : Rn 276 50 [l0, l1, l2, l3, some (vI a)] st T σ K ↔ Rn 276 52 [l0, l1, l2, l3, some (vI a)] (vI a :: st) T σ K := R_iload (n := 4) (by decide +kernel) rfl
theorem s276_52 : Rn 276 52 L (vI c :: vI b :: vI a :: vR o :: st) T σ K ↔ (sx_kd T o = 9 ∧ st.length ≤ 4) ∧ Rn 269 0 [some (vR o), some (vI a), some (vI b), some (vI c), none] [] T σ (fun r T' σ' => Rn 276 55 L (sx_push r st) T' σ' K) := R_V (cm := 269) (n := 3) (idx := 352) (ci := 9) (mx := 5) (vs := [vI a, vI b, vI c]) (by decide +kernel) (by decide +kernel) rfl (by decide +kernel) rfl (by decide +kernel) (by decide +kernel)
theorem s276_55 : Rn 276 55 L (vI a :: st) T σ K ↔ Rn 276 56 L st T σ K := R_pop (v := vI a) (by decide +kernel) rfl
theorem s276_56 : Rn 276 56 L [] T σ K ↔ K none T σ := R_retV (by decide +kernel) (by decide +kernel)
theorem s276_57 : Rn 276 57 [some (vR o), l1, l2, l3, l4] st T σ K ↔ Rn 276 58 [some (vR o), l1, l2, l3, l4] (vR o :: st) T σ K := R_aload_n (n := 0) (by decide +kernel) rfl
theorem s276_58 : Rn 276 58 L st T σ K ↔ Rn 276 59 L (vI 0 :: st) T σ K := R_iconst (n := 0) (by decide +kernel) (by decide)
theorem s276_59 : Rn 276 59 [some (vR o), l1, l2, l3, l4] st T σ K ↔ Rn 276 60 [some (vR o), l1, l2, l3, l4] (vR o :: st) T σ K := R_aload_n (n := 0) (by decide +kernel) rfl
theorem s276_60 : Rn 276 60 L st T σ K ↔ Rn 276 61 L (vI 1 :: st) T σ K := R_iconst (n := 1) (by decide +kernel) (by decide)
theorem s276_61 : Rn 276 61 [some (vR o), l1, l2, l3, l4] st T σ K ↔ Rn 276 62 [some (vR o), l1, l2, l3, l4] (vR o :: st) T σ K := R_aload_n (n := 0) (by decide +kernel) rfl
theorem s276_62 : Rn 276 62 L (vR o :: st) T σ K ↔ (sx_kd T o = 9 ∧ st.length ≤ 4) ∧ Rn 202 0 [some (vR o), none, none] [] T σ (fun r T' σ' => Rn 276 65 L (sx_push r st) T' σ' K) := R_V (cm := 202) (n := 0) (idx := 248) (ci := 9) (mx := 3) (vs := []) (by decide +kernel) (by decide +kernel) rfl (by decide +kernel) rfl (by decide +kernel) (by decide +kernel)
theorem s276_65 : Rn 276 65 L (vI b :: vI a :: st) T σ K ↔ st.length ≤ 4 ∧ Rn 199 0 [some (vI a), some (vI b)] [] T σ (fun r T' σ' => Rn 276 68 L (sx_push r st) T' σ' K) := R_S (cm := 199) (n := 2) (idx := 215) (mx := 2) (vs := [vI a, vI b]) (by decide +kernel) (Or.inl (by decide +kernel)) rfl (by decide +kernel) rfl (by decide +kernel)
theorem s276_68 : Rn 276 68 L (vI a :: vR o :: st) T σ K ↔ (sx_kd T o = 9 ∧ st.length ≤ 4) ∧ Rn 277 0 [some (vR o), some (vI a)] [] T σ (fun r T' σ' => Rn 276 71 L (sx_push r st) T' σ' K) := R_V (cm := 277) (n := 1) (idx := 361) (ci := 9) (mx := 2) (vs := [vI a]) (by decide +kernel) (by decide +kernel) rfl (by decide +kernel) rfl (by decide +kernel) (by decide +kernel)
theorem s276_71 : Rn 276 71 L (vI b :: vI a :: vR o :: st) T σ K ↔ (sx_kd T o = 9 ∧ st.length ≤ 4) ∧ Rn 217 0 [some (vR o), some (vI a), some (vI b), none, none] [] T σ (fun r T' σ' => Rn 276 74 L (sx_push r st) T' σ' K) := R_V (cm := 217) (n := 2) (idx := 364) (ci := 9) (mx := 5) (vs := [vI a, vI b]) (by decide +kernel) (by decide +kernel) rfl (by decide +kernel) rfl (by decide +kernel) (by decide +kernel)
theorem s276_74 : Rn 276 74 [l0, l1, l2, l3, l4] (vI a :: st) T σ K ↔ Rn 276 75 [l0, l1, some (vI a), l3, l4] st T σ K := R_istore_n (n := 2) (by decide +kernel) rfl
theorem s276_75 : Rn 276 75 [l0, l1, some (vI a), l3, l4] st T σ K ↔ Rn 276 76 [l0, l1, some (vI a), l3, l4] (vI a :: st) T σ K := R_iload_n (n := 2) (by decide +kernel) rfl
theorem s276_76 : Rn 276 76 L st T σ K ↔ Rn 276 77 L (vI (-1) :: st) T σ K := R_iconst (n := -1) (by decide +kernel) (by decide)
theorem s276_77 : Rn 276 77 L (vI b :: vI a :: st) T σ K ↔ (a = b → Rn 276 85 L st T σ K) ∧ (a ≠ b → Rn 276 80 L st T σ K) := R_icmp_eq (off := 8) (by decide +kernel) (by decide)
theorem s276_80 : Rn 276 80 [some (vR o), l1, l2, l3, l4] st T σ K ↔ Rn 276 81 [some (vR o), l1, l2, l3, l4] (vR o :: st) T σ K := R_aload_n (n := 0) (by decide +kernel) rfl
theorem s276_81 : Rn 276 81 [l0, l1, some (vI a), l3, l4] st T σ K ↔ Rn 276 82 [l0, l1, some (vI a), l3, l4] (vI a :: st) T σ K := R_iload_n (n := 2) (by decide +kernel) rfl
theorem s276_82 : Rn 276 82 L (vI a :: vR o :: st) T σ K ↔ (sx_kd T o = 9 ∧ st.length ≤ 4) ∧ Rn 254 0 [some (vR o), some (vI a), none, none, none] [] T σ (fun r T' σ' => Rn 276 85 L (sx_push r st) T' σ' K) := R_V (cm := 254) (n := 1) (idx := 325) (ci := 9) (mx := 5) (vs := [vI a]) (by decide +kernel) (by decide +kernel) rfl (by decide +kernel) rfl (by decide +kernel) (by decide +kernel)
theorem s276_85 : Rn 276 85 L [] T σ K ↔ K none T σ := R_retV (by decide +kernel) (by decide +kernel)
end ST7
