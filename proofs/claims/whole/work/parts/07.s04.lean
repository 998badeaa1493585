section ST4
variable {L : sxL} {st : List sxV} {T : sxT} {σ : sxS} {K : Option sxV → sxT → sxS → Prop} {a b c d e f g : Int} {o p q r1 r2 : Nat} {l0 l1 l2 l3 l4 l5 l6 l7 l8 l9 l10 l11 : Option sxV}
theorem s140_0 : Rn 140 0 L st T σ K ↔ Rn 140 1 L (vI 0 :: st) T σ K := R_iconst (n := 0) (by decide +kernel) (by decide)
theorem s140_1 : Rn 140 1 [l0, l1, l2, l3, l4, l5, l6, l7] (vI a :: st) T σ K ↔ Rn 140 2 [l0, l1, l2, some (vI a), l4, l5, l6, l7] st T σ K := R_istore_n (n := 3) (by decide +kernel) rfl
theorem s140_2 : Rn 140 2 L st T σ K ↔ Rn 140 3 L (vI 0 :: st) T σ K := R_iconst (n := 0) (by decide +kernel) (by decide)
theorem s140_3 : Rn 140 3 [l0, l1, l2, l3, l4, l5, l6, l7] (vI a :: st) T σ K ↔ Rn 140 5 [l0, l1, l2, l3, some (vI a), l5, l6, l7] st T σ K := R_istore (n := 4) (by decide +kernel) rfl
theorem s140_5 : Rn 140 5 [l0, l1, l2, l3, some (vI a), l5, l6, l7] st T σ K ↔ Rn 140 7 [l0, l1, l2, l3, some (vI a), l5, l6, l7] (vI a :: st) T σ K := R_iload (n := 4) (by decide +kernel) rfl
theorem s140_7 : Rn 140 7 L st T σ K ↔ Rn 140 8 L (vI 3 :: st) T σ K := R_iconst (n := 3) (by decide +kernel) (by decide)
theorem s140_8 : Rn 140 8 L (vI b :: vI a :: st) T σ K ↔ (b ≤ a → Rn 140 86 L st T σ K) ∧ (a < b → Rn 140 11 L st T σ K) := R_icmp_ge (off := 78) (by decide +kernel) (by decide)
theorem s140_11 : Rn 140 11 [some (vR o), l1, l2, l3, l4, l5, l6, l7] st T σ K ↔ Rn 140 12 [some (vR o), l1, l2, l3, l4, l5, l6, l7] (vR o :: st) T σ K := R_aload_n (n := 0) (by decide +kernel) rfl
theorem s140_12 : Rn 140 12 L (vR o :: st) T σ K ↔ sx_kd T o = 4 ∧ ∃ t, sx_rf T o 4 = some t ∧ Rn 140 15 L (vR t :: st) T σ K := R_getR (idx := 21) (ci := 4) (k := 4) (by decide +kernel) (by decide +kernel) rfl
theorem s140_15 : Rn 140 15 [l0, l1, l2, l3, some (vI a), l5, l6, l7] st T σ K ↔ Rn 140 17 [l0, l1, l2, l3, some (vI a), l5, l6, l7] (vI a :: st) T σ K := R_iload (n := 4) (by decide +kernel) rfl
theorem s140_17 : Rn 140 17 L (vI a :: vR o :: st) T σ K ↔ (sx_kd T o = 21 ∧ 0 ≤ a ∧ a < sx_ln T o) ∧ Rn 140 18 L (vI (σ o a) :: st) T σ K := R_zald (by decide +kernel)
theorem s140_18 : Rn 140 18 L (vI a :: st) T σ K ↔ (a = 0 → Rn 140 80 L st T σ K) ∧ (a ≠ 0 → Rn 140 21 L st T σ K) := R_if_eq (off := 62) (by decide +kernel) (by decide)
theorem s140_21 : Rn 140 21 [l0, l1, l2, l3, some (vI a), l5, l6, l7] st T σ K ↔ Rn 140 23 [l0, l1, l2, l3, some (vI a), l5, l6, l7] (vI a :: st) T σ K := R_iload (n := 4) (by decide +kernel) rfl
theorem s140_23 : Rn 140 23 [l0, some (vI a), l2, l3, l4, l5, l6, l7] st T σ K ↔ Rn 140 24 [l0, some (vI a), l2, l3, l4, l5, l6, l7] (vI a :: st) T σ K := R_iload_n (n := 1) (by decide +kernel) rfl
theorem s140_24 : Rn 140 24 [l0, l1, some (vI a), l3, l4, l5, l6, l7] st T σ K ↔ Rn 140 25 [l0, l1, some (vI a), l3, l4, l5, l6, l7] (vI a :: st) T σ K := R_iload_n (n := 2) (by decide +kernel) rfl
theorem s140_25 : Rn 140 25 L (vI c :: vI b :: vI a :: st) T σ K ↔ st.length ≤ 4 ∧ Rn 40 0 [some (vI a), some (vI b), some (vI c), none, none, none] [] T σ (fun r T' σ' => Rn 140 28 L (sx_push r st) T' σ' K) := R_S (cm := 40) (n := 3) (idx := 54) (mx := 6) (vs := [vI a, vI b, vI c]) (by decide +kernel) (Or.inl (by decide +kernel)) rfl (by decide +kernel) rfl (by decide +kernel)
theorem s140_28 : Rn 140 28 [l0, l1, l2, l3, l4, l5, l6, l7] (vI a :: st) T σ K ↔ Rn 140 30 [l0, l1, l2, l3, l4, some (vI a), l6, l7] st T σ K := R_istore (n := 5) (by decide +kernel) rfl
theorem s140_30 : Rn 140 30 L st T σ K ↔ Rn 140 31 L (vI 0 :: st) T σ K := R_iconst (n := 0) (by decide +kernel) (by decide)
theorem s140_31 : Rn 140 31 [l0, l1, l2, l3, l4, l5, l6, l7] (vI a :: st) T σ K ↔ Rn 140 33 [l0, l1, l2, l3, l4, l5, some (vI a), l7] st T σ K := R_istore (n := 6) (by decide +kernel) rfl
theorem s140_33 : Rn 140 33 L st T σ K ↔ Rn 140 34 L (vI 0 :: st) T σ K := R_iconst (n := 0) (by decide +kernel) (by decide)
theorem s140_34 : Rn 140 34 [l0, l1, l2, l3, l4, l5, l6, l7] (vI a :: st) T σ K ↔ Rn 140 36 [l0, l1, l2, l3, l4, l5, l6, some (vI a)] st T σ K := R_istore (n := 7) (by decide +kernel) rfl
theorem s140_36 : Rn 140 36 [l0, l1, l2, l3, l4, l5, l6, some (vI a)] st T σ K ↔ Rn 140 38 [l0, l1, l2, l3, l4, l5, l6, some (vI a)] (vI a :: st) T σ K := R_iload (n := 7) (by decide +kernel) rfl
theorem s140_38 : Rn 140 38 L st T σ K ↔ Rn 140 39 L (vI 3 :: st) T σ K := R_iconst (n := 3) (by decide +kernel) (by decide)
theorem s140_39 : Rn 140 39 L (vI b :: vI a :: st) T σ K ↔ (b ≤ a → Rn 140 73 L st T σ K) ∧ (a < b → Rn 140 42 L st T σ K) := R_icmp_ge (off := 34) (by decide +kernel) (by decide)
theorem s140_42 : Rn 140 42 [some (vR o), l1, l2, l3, l4, l5, l6, l7] st T σ K ↔ Rn 140 43 [some (vR o), l1, l2, l3, l4, l5, l6, l7] (vR o :: st) T σ K := R_aload_n (n := 0) (by decide +kernel) rfl
theorem s140_43 : Rn 140 43 L (vR o :: st) T σ K ↔ sx_kd T o = 4 ∧ ∃ t, sx_rf T o 4 = some t ∧ Rn 140 46 L (vR t :: st) T σ K := R_getR (idx := 21) (ci := 4) (k := 4) (by decide +kernel) (by decide +kernel) rfl
theorem s140_46 : Rn 140 46 [l0, l1, l2, l3, l4, l5, l6, some (vI a)] st T σ K ↔ Rn 140 48 [l0, l1, l2, l3, l4, l5, l6, some (vI a)] (vI a :: st) T σ K := R_iload (n := 7) (by decide +kernel) rfl
theorem s140_48 : Rn 140 48 L (vI a :: vR o :: st) T σ K ↔ (sx_kd T o = 21 ∧ 0 ≤ a ∧ a < sx_ln T o) ∧ Rn 140 49 L (vI (σ o a) :: st) T σ K := R_zald (by decide +kernel)
theorem s140_49 : Rn 140 49 L (vI a :: st) T σ K ↔ (a = 0 → Rn 140 67 L st T σ K) ∧ (a ≠ 0 → Rn 140 52 L st T σ K) := R_if_eq (off := 18) (by decide +kernel) (by decide)
theorem s140_52 : Rn 140 52 [l0, l1, l2, l3, l4, l5, l6, some (vI a)] st T σ K ↔ Rn 140 54 [l0, l1, l2, l3, l4, l5, l6, some (vI a)] (vI a :: st) T σ K := R_iload (n := 7) (by decide +kernel) rfl
theorem s140_54 : Rn 140 54 [l0, some (vI a), l2, l3, l4, l5, l6, l7] st T σ K ↔ Rn 140 55 [l0, some (vI a), l2, l3, l4, l5, l6, l7] (vI a :: st) T σ K := R_iload_n (n := 1) (by decide +kernel) rfl
theorem s140_55 : Rn 140 55 [l0, l1, some (vI a), l3, l4, l5, l6, l7] st T σ K ↔ Rn 140 56 [l0, l1, some (vI a), l3, l4, l5, l6, l7] (vI a :: st) T σ K := R_iload_n (n := 2) (by decide +kernel) rfl
theorem s140_56 : Rn 140 56 L (vI c :: vI b :: vI a :: st) T σ K ↔ st.length ≤ 4 ∧ Rn 40 0 [some (vI a), some (vI b), some (vI c), none, none, none] [] T σ (fun r T' σ' => Rn 140 59 L (sx_push r st) T' σ' K) := R_S (cm := 40) (n := 3) (idx := 54) (mx := 6) (vs := [vI a, vI b, vI c]) (by decide +kernel) (Or.inl (by decide +kernel)) rfl (by decide +kernel) rfl (by decide +kernel)
theorem s140_59 : Rn 140 59 [l0, l1, l2, l3, l4, some (vI a), l6, l7] st T σ K ↔ Rn 140 61 [l0, l1, l2, l3, l4, some (vI a), l6, l7] (vI a :: st) T σ K := R_iload (n := 5) (by decide +kernel) rfl
theorem s140_61 : Rn 140 61 L (vI b :: vI a :: st) T σ K ↔ (a ≠ b → Rn 140 67 L st T σ K) ∧ (a = b → Rn 140 64 L st T σ K) := R_icmp_ne (off := 6) (by decide +kernel) (by decide)
theorem s140_64 : Rn 140 64 [l0, l1, l2, l3, l4, l5, some (vI a), l7] st T σ K ↔ inI (a + 1) ∧ Rn 140 67 [l0, l1, l2, l3, l4, l5, some (vI (a + 1)), l7] st T σ K := R_iinc (n := 6) (d := 1) (by decide +kernel) rfl
theorem s140_67 : Rn 140 67 [l0, l1, l2, l3, l4, l5, l6, some (vI a)] st T σ K ↔ inI (a + 1) ∧ Rn 140 70 [l0, l1, l2, l3, l4, l5, l6, some (vI (a + 1))] st T σ K := R_iinc (n := 7) (d := 1) (by decide +kernel) rfl
theorem s140_70 : Rn 140 70 L st T σ K ↔ Rn 140 36 L st T σ K := R_goto (off := -34) (by decide +kernel) (by decide)
theorem s140_73 : Rn 140 73 [l0, l1, l2, some (vI a), l4, l5, l6, l7] st T σ K ↔ Rn 140 74 [l0, l1, l2, some (vI a), l4, l5, l6, l7] (vI a :: st) T σ K := R_iload_n (n := 3) (by decide +kernel) rfl
theorem s140_74 : Rn 140 74 [l0, l1, l2, l3, l4, l5, some (vI a), l7] st T σ K ↔ Rn 140 76 [l0, l1, l2, l3, l4, l5, some (vI a), l7] (vI a :: st) T σ K := R_iload (n := 6) (by decide +kernel) rfl
theorem s140_76 : Rn 140 76 L (vI b :: vI a :: st) T σ K ↔ st.length ≤ 4 ∧ Rn 140 79 L (vI (max a b) :: st) T σ K := R_max (idx := 75) (by decide +kernel) (by decide +kernel) (by decide +kernel) (by decide +kernel)
theorem s140_79 : Rn 140 79 [l0, l1, l2, l3, l4, l5, l6, l7] (vI a :: st) T σ K ↔ Rn 140 80 [l0, l1, l2, some (vI a), l4, l5, l6, l7] st T σ K := R_istore_n (n := 3) (by decide +kernel) rfl
theorem s140_80 : Rn 140 80 [l0, l1, l2, l3, some (vI a), l5, l6, l7] st T σ K ↔ inI (a + 1) ∧ Rn 140 83 [l0, l1, l2, l3, some (vI (a + 1)), l5, l6, l7] st T σ K := R_iinc (n := 4) (d := 1) (by decide +kernel) rfl
theorem s140_83 : Rn 140 83 L st T σ K ↔ Rn 140 5 L st T σ K := R_goto (off := -78) (by decide +kernel) (by decide)
theorem s140_86 : Rn 140 86 [l0, l1, l2, some (vI a), l4, l5, l6, l7] st T σ K ↔ Rn 140 87 [l0, l1, l2, some (vI a), l4, l5, l6, l7] (vI a :: st) T σ K := R_iload_n (n := 3) (by decide +kernel) rfl
theorem s140_87 : Rn 140 87 L [vI a] T σ K ↔ K (some (vI a)) T σ := R_ret (by decide +kernel) (by decide +kernel)
theorem s141_0 : Rn 141 0 [l0, some (vI a), l2, l3, l4, l5] st T σ K ↔ Rn 141 1 [l0, some (vI a), l2, l3, l4, l5] (vI a :: st) T σ K := R_iload_n (n := 1) (by decide +kernel) rfl
theorem s141_1 : Rn 141 1 [l0, l1, some (vI a), l3, l4, l5] st T σ K ↔ Rn 141 2 [l0, l1, some (vI a), l3, l4, l5] (vI a :: st) T σ K := R_iload_n (n := 2) (by decide +kernel) rfl
theorem s141_2 : Rn 141 2 [l0, l1, l2, some (vI a), l4, l5] st T σ K ↔ Rn 141 3 [l0, l1, l2, some (vI a), l4, l5] (vI a :: st) T σ K := R_iload_n (n := 3) (by decide +kernel) rfl
theorem s141_3 : Rn 141 3 L (vI c :: vI b :: vI a :: st) T σ K ↔ st.length ≤ 4 ∧ Rn 33 0 [some (vI a), some (vI b), some (vI c)] [] T σ (fun r T' σ' => Rn 141 6 L (sx_push r st) T' σ' K) := R_S (cm := 33) (n := 3) (idx := 169) (mx := 3) (vs := [vI a, vI b, vI c]) (by decide +kernel) (Or.inl (by decide +kernel)) rfl (by decide +kernel) rfl (by decide +kernel)
theorem s141_6 : Rn 141 6 [l0, l1, l2, l3, l4, l5] (vI a :: st) T σ K ↔ Rn 141 8 [l0, l1, l2, l3, some (vI a), l5] st T σ K := R_istore (n := 4) (by decide +kernel) rfl
theorem s141_8 : Rn 141 8 [some (vR o), l1, l2, l3, l4, l5] st T σ K ↔ Rn 141 9 [some (vR o), l1, l2, l3, l4, l5] (vR o :: st) T σ K := R_aload_n (n := 0) (by decide +kernel) rfl
theorem s141_9 : Rn 141 9 [l0, l1, l2, l3, some (vI a), l5] st T σ K ↔ Rn 141 11 [l0, l1, l2, l3, some (vI a), l5] (vI a :: st) T σ K := R_iload (n := 4) (by decide +kernel) rfl
theorem s141_11 : Rn 141 11 L (vI a :: vR o :: st) T σ K ↔ (sx_kd T o = 8 ∧ st.length ≤ 4) ∧ Rn 123 0 [some (vR o), some (vI a)] [] T σ (fun r T' σ' => Rn 141 14 L (sx_push r st) T' σ' K) := R_V (cm := 123) (n := 1) (idx := 313) (ci := 8) (mx := 2) (vs := [vI a]) (by decide +kernel) (by decide +kernel) rfl (by decide +kernel) rfl (by decide +kernel) (by decide +kernel)
theorem s141_14 : Rn 141 14 L (vI a :: st) T σ K ↔ (a ≠ 0 → Rn 141 23 L st T σ K) ∧ (a = 0 → Rn 141 17 L st T σ K) := R_if_ne (off := 9) (by decide +kernel) (by decide)
theorem s141_17 : Rn 141 17 [some (vR o), l1, l2, l3, l4, l5] st T σ K ↔ Rn 141 18 [some (vR o), l1, l2, l3, l4, l5] (vR o :: st) T σ K := R_aload_n (n := 0) (by decide +kernel) rfl
theorem s141_18 : Rn 141 18 L st T σ K ↔ Rn 141 19 L (vI 2 :: st) T σ K := R_iconst (n := 2) (by decide +kernel) (by decide)
theorem s141_19 : Rn 141 19 L (vI a :: vR o :: st) T σ K ↔ (sx_kd T o = 8 ∧ st.length ≤ 4) ∧ Rn 12 0 [some (vR o), some (vI a)] [] T σ (fun r T' σ' => Rn 141 22 L (sx_push r st) T' σ' K) := R_V (cm := 12) (n := 1) (idx := 89) (ci := 8) (mx := 2) (vs := [vI a]) (by decide +kernel) (by decide +kernel) rfl (by decide +kernel) rfl (by decide +kernel) (by decide +kernel)
theorem s141_22 : Rn 141 22 L [vI a] T σ K ↔ K (some (vI a)) T σ := R_ret (by decide +kernel) (by decide +kernel)
theorem s141_23 : Rn 141 23 [some (vR o), l1, l2, l3, l4, l5] st T σ K ↔ Rn 141 24 [some (vR o), l1, l2, l3, l4, l5] (vR o :: st) T σ K := R_aload_n (n := 0) (by decide +kernel) rfl
theorem s141_24 : Rn 141 24 L (vR o :: st) T σ K ↔ sx_kd T o = 8 ∧ ∃ t, sx_rf T o 4 = some t ∧ Rn 141 27 L (vR t :: st) T σ K := R_getR (idx := 38) (ci := 8) (k := 4) (by decide +kernel) (by decide +kernel) rfl
theorem s141_27 : Rn 141 27 [some (vR o), l1, l2, l3, l4, l5] st T σ K ↔ Rn 141 28 [some (vR o), l1, l2, l3, l4, l5] (vR o :: st) T σ K := R_aload_n (n := 0) (by decide +kernel) rfl
theorem s141_28 : Rn 141 28 L (vR o :: st) T σ K ↔ sx_kd T o = 8 ∧ ∃ t, sx_rf T o 2 = some t ∧ Rn 141 31 L (vR t :: st) T σ K := R_getR (idx := 28) (ci := 8) (k := 2) (by decide +kernel) (by decide +kernel) rfl
theorem s141_31 : Rn 141 31 L (vR p :: vR o :: st) T σ K ↔ (sx_kd T o = 0 ∧ st.length ≤ 4) ∧ Rn 142 0 [some (vR o), some (vR p)] [] T σ (fun r T' σ' => Rn 141 34 L (sx_push r st) T' σ' K) := R_V (cm := 142) (n := 1) (idx := 351) (ci := 0) (mx := 2) (vs := [vR p]) (by decide +kernel) (by decide +kernel) rfl (by decide +kernel) rfl (by decide +kernel) (by decide +kernel)
theorem s141_34 : Rn 141 34 [some (vR o), l1, l2, l3, l4, l5] st T σ K ↔ Rn 141 35 [some (vR o), l1, l2, l3, l4, l5] (vR o :: st) T σ K := R_aload_n (n := 0) (by decide +kernel) rfl
theorem s141_35 : Rn 141 35 L (vR o :: st) T σ K ↔ sx_kd T o = 8 ∧ ∃ t, sx_rf T o 2 = some t ∧ Rn 141 38 L (vR t :: st) T σ K := R_getR (idx := 28) (ci := 8) (k := 2) (by decide +kernel) (by decide +kernel) rfl
theorem s141_38 : Rn 141 38 L (vR o :: st) T σ K ↔ (sx_kd T o = 2 ∧ st.length ≤ 4) ∧ Rn 143 0 [some (vR o), none] [] T σ (fun r T' σ' => Rn 141 41 L (sx_push r st) T' σ' K) := R_V (cm := 143) (n := 0) (idx := 354) (ci := 2) (mx := 2) (vs := []) (by decide +kernel) (by decide +kernel) rfl (by decide +kernel) rfl (by decide +kernel) (by decide +kernel)
theorem s141_41 : Rn 141 41 [l0, l1, l2, l3, l4, l5] (vI a :: st) T σ K ↔ Rn 141 43 [l0, l1, l2, l3, l4, some (vI a)] st T σ K := R_istore (n := 5) (by decide +kernel) rfl
theorem s141_43 : Rn 141 43 [some (vR o), l1, l2, l3, l4, l5] st T σ K ↔ Rn 141 44 [some (vR o), l1, l2, l3, l4, l5] (vR o :: st) T σ K := R_aload_n (n := 0) (by decide +kernel) rfl
theorem s141_44 : Rn 141 44 L (vR o :: st) T σ K ↔ sx_kd T o = 8 ∧ ∃ t, sx_rf T o 2 = some t ∧ Rn 141 47 L (vR t :: st) T σ K := R_getR (idx := 28) (ci := 8) (k := 2) (by decide +kernel) (by decide +kernel) rfl
theorem s141_47 : Rn 141 47 [l0, l1, l2, l3, l4, some (vI a)] st T σ K ↔ Rn 141 49 [l0, l1, l2, l3, l4, some (vI a)] (vI a :: st) T σ K := R_iload (n := 5) (by decide +kernel) rfl
theorem s141_49 : Rn 141 49 [l0, l1, l2, l3, some (vI a), l5] st T σ K ↔ Rn 141 51 [l0, l1, l2, l3, some (vI a), l5] (vI a :: st) T σ K := R_iload (n := 4) (by decide +kernel) rfl
theorem s141_51 : Rn 141 51 L (vI b :: vI a :: vR o :: st) T σ K ↔ (sx_kd T o = 2 ∧ st.length ≤ 4) ∧ Rn 36 0 [some (vR o), some (vI a), some (vI b)] [] T σ (fun r T' σ' => Rn 141 54 L (sx_push r st) T' σ' K) := R_V (cm := 36) (n := 2) (idx := 114) (ci := 2) (mx := 3) (vs := [vI a, vI b]) (by decide +kernel) (by decide +kernel) rfl (by decide +kernel) rfl (by decide +kernel) (by decide +kernel)
theorem s141_54 : Rn 141 54 [l0, l1, l2, l3, l4, some (vI a)] st T σ K ↔ Rn 141 56 [l0, l1, l2, l3, l4, some (vI a)] (vI a :: st) T σ K := R_iload (n := 5) (by decide +kernel) rfl
theorem s141_56 : Rn 141 56 L [vI a] T σ K ↔ K (some (vI a)) T σ := R_ret (by decide +kernel) (by decide +kernel)
theorem s142_0 : Rn 142 0 [some (vR o), l1] st T σ K ↔ Rn 142 1 [some (vR o), l1] (vR o :: st) T σ K := R_aload_n (n := 0) (by decide +kernel) rfl
theorem s142_1 : Rn 142 1 L (vR o :: st) T σ K ↔ sx_kd T o = 0 ∧ ∃ t, sx_rf T o 0 = some t ∧ Rn 142 4 L (vR t :: st) T σ K := R_getR (idx := 11) (ci := 0) (k := 0) (by decide +kernel) (by decide +kernel) rfl
theorem s142_4 : Rn 142 4 [some (vR o), l1] st T σ K ↔ Rn 142 5 [some (vR o), l1] (vR o :: st) T σ K := R_aload_n (n := 0) (by decide +kernel) rfl
theorem s142_5 : Rn 142 5 L (vR o :: st) T σ K ↔ sx_kd T o = 0 ∧ Rn 142 8 L (vI (σ o 1) :: st) T σ K := R_getI (idx := 16) (ci := 0) (k := 1) (by decide +kernel) (by decide +kernel) (Or.inl rfl)
theorem s142_8 : Rn 142 8 L (vI a :: vR o :: st) T σ K ↔ (sx_kd T o = 22 ∧ 0 ≤ a ∧ a < sx_ln T o) ∧ ∃ t, sx_rf T o a.toNat = some t ∧ Rn 142 9 L (vR t :: st) T σ K := R_aald (by decide +kernel)
theorem s142_9 : Rn 142 9 [l0, some (vR o)] st T σ K ↔ Rn 142 10 [l0, some (vR o)] (vR o :: st) T σ K := R_aload_n (n := 1) (by decide +kernel) rfl
theorem s142_10 : Rn 142 10 L (vR p :: vR o :: st) T σ K ↔ (sx_kd T o = 2 ∧ st.length ≤ 4) ∧ Rn 125 0 [some (vR o), some (vR p)] [] T σ (fun r T' σ' => Rn 142 13 L (sx_push r st) T' σ' K) := R_V (cm := 125) (n := 1) (idx := 20) (ci := 2) (mx := 2) (vs := [vR p]) (by decide +kernel) (by decide +kernel) rfl (by decide +kernel) rfl (by decide +kernel) (by decide +kernel)
theorem s142_13 : Rn 142 13 [some (vR o), l1] st T σ K ↔ Rn 142 14 [some (vR o), l1] (vR o :: st) T σ K := R_aload_n (n := 0) (by decide +kernel) rfl
theorem s142_14 : Rn 142 14 [some (vR o), l1] st T σ K ↔ Rn 142 15 [some (vR o), l1] (vR o :: st) T σ K := R_aload_n (n := 0) (by decide +kernel) rfl
theorem s142_15 : Rn 142 15 L (vR o :: st) T σ K ↔ sx_kd T o = 0 ∧ Rn 142 18 L (vI (σ o 1) :: st) T σ K := R_getI (idx := 16) (ci := 0) (k := 1) (by decide +kernel) (by decide +kernel) (Or.inl rfl)
theorem s142_18 : Rn 142 18 L st T σ K ↔ Rn 142 19 L (vI 1 :: st) T σ K := R_iconst (n := 1) (by decide +kernel) (by decide)
theorem s142_19 : Rn 142 19 L (vI b :: vI a :: st) T σ K ↔ inI (a + b) ∧ Rn 142 20 L (vI (a + b) :: st) T σ K := R_iadd (by decide +kernel)
theorem s142_20 : Rn 142 20 L st T σ K ↔ Rn 142 22 L (vI 20 :: st) T σ K := R_bipush (n := 20) (by decide +kernel) (by decide +kernel)
theorem s142_22 : Rn 142 22 L (vI b :: vI a :: st) T σ K ↔ (b ≤ a → Rn 142 34 L st T σ K) ∧ (a < b → Rn 142 25 L st T σ K) := R_icmp_ge (off := 12) (by decide +kernel) (by decide)
theorem s142_25 : Rn 142 25 [some (vR o), l1] st T σ K ↔ Rn 142 26 [some (vR o), l1] (vR o :: st) T σ K := R_aload_n (n := 0) (by decide +kernel) rfl
theorem s142_26 : Rn 142 26 L (vR o :: st) T σ K ↔ sx_kd T o = 0 ∧ Rn 142 29 L (vI (σ o 1) :: st) T σ K := R_getI (idx := 16) (ci := 0) (k := 1) (by decide +kernel) (by decide +kernel) (Or.inl rfl)
theorem s142_29 : Rn 142 29 L st T σ K ↔ Rn 142 30 L (vI 1 :: st) T σ K := R_iconst (n := 1) (by decide +kernel) (by decide)
theorem s142_30 : Rn 142 30 L (vI b :: vI a :: st) T σ K ↔ inI (a + b) ∧ Rn 142 31 L (vI (a + b) :: st) T σ K := R_iadd (by decide +kernel)
theorem s142_31 : Rn 142 31 L st T σ K ↔ Rn 142 35 L st T σ K := R_goto (off := 4) (by decide +kernel) (by decide)
theorem s142_34 : Rn 142 34 L st T σ K ↔ Rn 142 35 L (vI 0 :: st) T σ K := R_iconst (n := 0) (by decide +kernel) (by decide)
theorem s142_35 : Rn 142 35 L (vI a :: vR o :: st) T σ K ↔ sx_kd T o = 0 ∧ Rn 142 38 L st T (sx_up σ o 1 a) K := R_putI (idx := 16) (ci := 0) (k := 1) (by decide +kernel) (by decide +kernel) rfl rfl
theorem s142_38 : Rn 142 38 [some (vR o), l1] st T σ K ↔ Rn 142 39 [some (vR o), l1] (vR o :: st) T σ K := R_aload_n (n := 0) (by decide +kernel) rfl
theorem s142_39 : Rn 142 39 L st T σ K ↔ Rn 142 41 L (vI 20 :: st) T σ K := R_bipush (n := 20) (by decide +kernel) (by decide +kernel)
theorem s142_41 : Rn 142 41 [some (vR o), l1] st T σ K ↔ Rn 142 42 [some (vR o), l1] (vR o :: st) T σ K := R_aload_n (n := 0) (by decide +kernel) rfl
theorem s142_42 : Rn 142 42 L (vR o :: st) T σ K ↔ sx_kd T o = 0 ∧ Rn 142 45 L (vI (σ o 2) :: st) T σ K := R_getI (idx := 24) (ci := 0) (k := 2) (by decide +kernel) (by decide +kernel) (Or.inl rfl)
theorem s142_45 : Rn 142 45 L st T σ K ↔ Rn 142 46 L (vI 1 :: st) T σ K := R_iconst (n := 1) (by decide +kernel) (by decide)
theorem s142_46 : Rn 142 46 L (vI b :: vI a :: st) T σ K ↔ inI (a + b) ∧ Rn 142 47 L (vI (a + b) :: st) T σ K := R_iadd (by decide +kernel)
theorem s142_47 : Rn 142 47 L (vI b :: vI a :: st) T σ K ↔ st.length ≤ 4 ∧ Rn 142 50 L (vI (min a b) :: st) T σ K := R_min (idx := 27) (by decide +kernel) (by decide +kernel) (by decide +kernel) (by decide +kernel)
theorem s142_50 : Rn 142 50 L (vI a :: vR o :: st) T σ K ↔ sx_kd T o = 0 ∧ Rn 142 53 L st T (sx_up σ o 2 a) K := R_putI (idx := 24) (ci := 0) (k := 2) (by decide +kernel) (by decide +kernel) rfl rfl
theorem s142_53 : Rn 142 53 L [] T σ K ↔ K none T σ := R_retV (by decide +kernel) (by decide +kernel)
theorem s143_0 : Rn 143 0 L st T σ K ↔ Rn 143 1 L (vI 0 :: st) T σ K := R_iconst (n := 0) (by decide +kernel) (by decide)
theorem s143_1 : Rn 143 1 [l0, l1] (vI a :: st) T σ K ↔ Rn 143 2 [l0, some (vI a)] st T σ K := R_istore_n (n := 1) (by decide +kernel) rfl
theorem s143_2 : Rn 143 2 [l0, some (vI a)] st T σ K ↔ Rn 143 3 [l0, some (vI a)] (vI a :: st) T σ K := R_iload_n (n := 1) (by decide +kernel) rfl
theorem s143_3 : Rn 143 3 L st T σ K ↔ Rn 143 5 L (vI 40 :: st) T σ K := R_bipush (n := 40) (by decide +kernel) (by decide +kernel)
theorem s143_5 : Rn 143 5 L (vI b :: vI a :: st) T σ K ↔ (b ≤ a → Rn 143 25 L st T σ K) ∧ (a < b → Rn 143 8 L st T σ K) := R_icmp_ge (off := 20) (by decide +kernel) (by decide)
theorem s143_8 : Rn 143 8 [some (vR o), l1] st T σ K ↔ Rn 143 9 [some (vR o), l1] (vR o :: st) T σ K := R_aload_n (n := 0) (by decide +kernel) rfl
theorem s143_9 : Rn 143 9 L (vR o :: st) T σ K ↔ sx_kd T o = 2 ∧ ∃ t, sx_rf T o 1 = some t ∧ Rn 143 12 L (vR t :: st) T σ K := R_getR (idx := 15) (ci := 2) (k := 1) (by decide +kernel) (by decide +kernel) rfl
theorem s143_12 : Rn 143 12 [l0, some (vI a)] st T σ K ↔ Rn 143 13 [l0, some (vI a)] (vI a :: st) T σ K := R_iload_n (n := 1) (by decide +kernel) rfl
theorem s143_13 : Rn 143 13 L (vI a :: vR o :: st) T σ K ↔ (sx_kd T o = 20 ∧ 0 ≤ a ∧ a < sx_ln T o) ∧ Rn 143 14 L (vI (σ o a) :: st) T σ K := R_iald (by decide +kernel) (by decide)
theorem s143_14 : Rn 143 14 L (vI a :: st) T σ K ↔ (0 ≤ a → Rn 143 19 L st T σ K) ∧ (a < 0 → Rn 143 17 L st T σ K) := R_if_ge (off := 5) (by decide +kernel) (by decide)
theorem s143_17 : Rn 143 17 [l0, some (vI a)] st T σ K ↔ Rn 143 18 [l0, some (vI a)] (vI a :: st) T σ K := R_iload_n (n := 1) (by decide +kernel) rfl
theorem s143_18 : Rn 143 18 L [vI a] T σ K ↔ K (some (vI a)) T σ := R_ret (by decide +kernel) (by decide +kernel)
theorem s143_19 : Rn 143 19 [l0, some (vI a)] st T σ K ↔ inI (a + 1) ∧ Rn 143 22 [l0, some (vI (a + 1))] st T σ K := R_iinc (n := 1) (d := 1) (by decide +kernel) rfl
theorem s143_22 : Rn 143 22 L st T σ K ↔ Rn 143 2 L st T σ K := R_goto (off := -20) (by decide +kernel) (by decide)
theorem s143_25 : Rn 143 25 L st T σ K ↔ Rn 143 26 L (vI (-1) :: st) T σ K := R_iconst (n := -1) (by decide +kernel) (by decide)
theorem s143_26 : Rn 143 26 L [vI a] T σ K ↔ K (some (vI a)) T σ := R_ret (by decide +kernel) (by decide +kernel)
theorem s144_0 : Rn 144 0 [some (vR o), l1] st T σ K ↔ Rn 144 1 [some (vR o), l1] (vR o :: st) T σ K := R_aload_n (n := 0) (by decide +kernel) rfl
theorem s144_1 : Rn 144 1 L (vR o :: st) T σ K ↔ sx_kd T o = 8 ∧ ∃ t, sx_rf T o 2 = some t ∧ Rn 144 4 L (vR t :: st) T σ K := R_getR (idx := 28) (ci := 8) (k := 2) (by decide +kernel) (by decide +kernel) rfl
theorem s144_4 : Rn 144 4 [l0, some (vI a)] st T σ K ↔ Rn 144 5 [l0, some (vI a)] (vI a :: st) T σ K := R_iload_n (n := 1) (by decide +kernel) rfl
theorem s144_5 : Rn 144 5 L (vI a :: vR o :: st) T σ K ↔ (sx_kd T o = 2 ∧ st.length ≤ 4) ∧ Rn 49 0 [some (vR o), some (vI a)] [] T σ (fun r T' σ' => Rn 144 8 L (sx_push r st) T' σ' K) := R_V (cm := 49) (n := 1) (idx := 146) (ci := 2) (mx := 2) (vs := [vI a]) (by decide +kernel) (by decide +kernel) rfl (by decide +kernel) rfl (by decide +kernel) (by decide +kernel)
theorem s144_8 : Rn 144 8 L (vI a :: st) T σ K ↔ (a ≠ 0 → Rn 144 19 L st T σ K) ∧ (a = 0 → Rn 144 11 L st T σ K) := R_if_ne (off := 11) (by decide +kernel) (by decide)
theorem s144_11 : Rn 144 11 [some (vR o), l1] st T σ K ↔ Rn 144 12 [some (vR o), l1] (vR o :: st) T σ K := R_aload_n (n := 0) (by decide +kernel) rfl
theorem s144_12 : Rn 144 12 L st T σ K ↔ Rn 144 13 L (vI 2 :: st) T σ K := R_iconst (n := 2) (by decide +kernel) (by decide)
theorem s144_13 : Rn 144 13 L (vI a :: vR o :: st) T σ K ↔ (sx_kd T o = 8 ∧ st.length ≤ 4) ∧ Rn 12 0 [some (vR o), some (vI a)] [] T σ (fun r T' σ' => Rn 144 16 L (sx_push r st) T' σ' K) := R_V (cm := 12) (n := 1) (idx := 89) (ci := 8) (mx := 2) (vs := [vI a]) (by decide +kernel) (by decide +kernel) rfl (by decide +kernel) rfl (by decide +kernel) (by decide +kernel)
theorem s144_16 : Rn 144 16 L (vI a :: st) T σ K ↔ Rn 144 17 L st T σ K := R_pop (v := vI a) (by decide +kernel) rfl
theorem s144_17 : Rn 144 17 L st T σ K ↔ Rn 144 18 L (vI 0 :: st) T σ K := R_iconst (n := 0) (by decide +kernel) (by decide)
theorem s144_18 : Rn 144 18 L [vI a] T σ K ↔ (a = 0 ∨ a = 1) ∧ K (some (vI a)) T σ := R_retZ (by decide +kernel) (by decide +kernel)
theorem s144_19 : Rn 144 19 [some (vR o), l1] st T σ K ↔ Rn 144 20 [some (vR o), l1] (vR o :: st) T σ K := R_aload_n (n := 0) (by decide +kernel) rfl
theorem s144_20 : Rn 144 20 L (vR o :: st) T σ K ↔ sx_kd T o = 8 ∧ ∃ t, sx_rf T o 4 = some t ∧ Rn 144 23 L (vR t :: st) T σ K := R_getR (idx := 38) (ci := 8) (k := 4) (by decide +kernel) (by decide +kernel) rfl
theorem s144_23 : Rn 144 23 [some (vR o), l1] st T σ K ↔ Rn 144 24 [some (vR o), l1] (vR o :: st) T σ K := R_aload_n (n := 0) (by decide +kernel) rfl
theorem s144_24 : Rn 144 24 L (vR o :: st) T σ K ↔ sx_kd T o = 8 ∧ ∃ t, sx_rf T o 2 = some t ∧ Rn 144 27 L (vR t :: st) T σ K := R_getR (idx := 28) (ci := 8) (k := 2) (by decide +kernel) (by decide +kernel) rfl
theorem s144_27 : Rn 144 27 L (vR p :: vR o :: st) T σ K ↔ (sx_kd T o = 0 ∧ st.length ≤ 4) ∧ Rn 142 0 [some (vR o), some (vR p)] [] T σ (fun r T' σ' => Rn 144 30 L (sx_push r st) T' σ' K) := R_V (cm := 142) (n := 1) (idx := 351) (ci := 0) (mx := 2) (vs := [vR p]) (by decide +kernel) (by decide +kernel) rfl (by decide +kernel) rfl (by decide +kernel) (by decide +kernel)
theorem s144_30 : Rn 144 30 [some (vR o), l1] st T σ K ↔ Rn 144 31 [some (vR o), l1] (vR o :: st) T σ K := R_aload_n (n := 0) (by decide +kernel) rfl
theorem s144_31 : Rn 144 31 L (vR o :: st) T σ K ↔ sx_kd T o = 8 ∧ ∃ t, sx_rf T o 2 = some t ∧ Rn 144 34 L (vR t :: st) T σ K := R_getR (idx := 28) (ci := 8) (k := 2) (by decide +kernel) (by decide +kernel) rfl
theorem s144_34 : Rn 144 34 [l0, some (vI a)] st T σ K ↔ Rn 144 35 [l0, some (vI a)] (vI a :: st) T σ K := R_iload_n (n := 1) (by decide +kernel) rfl
theorem s144_35 : Rn 144 35 L (vI a :: vR o :: st) T σ K ↔ (sx_kd T o = 2 ∧ st.length ≤ 4) ∧ Rn 126 0 [some (vR o), some (vI a), none, none] [] T σ (fun r T' σ' => Rn 144 38 L (sx_push r st) T' σ' K) := R_V (cm := 126) (n := 1) (idx := 325) (ci := 2) (mx := 4) (vs := [vI a]) (by decide +kernel) (by decide +kernel) rfl (by decide +kernel) rfl (by decide +kernel) (by decide +kernel)
theorem s144_38 : Rn 144 38 L st T σ K ↔ Rn 144 39 L (vI 1 :: st) T σ K := R_iconst (n := 1) (by decide +kernel) (by decide)
theorem s144_39 : Rn 144 39 L [vI a] T σ K ↔ (a = 0 ∨ a = 1) ∧ K (some (vI a)) T σ := R_retZ (by decide +kernel) (by decide +kernel)
theorem s145_0 : Rn 145 0 [l0, l1, some (vI a), l3, l4, l5, l6] st T σ K ↔ Rn 145 1 [l0, l1, some (vI a), l3, l4, l5, l6] (vI a :: st) T σ K := R_iload_n (n := 2) (by decide +kernel) rfl
theorem s145_1 : Rn 145 1 [l0, l1, l2, some (vI a), l4, l5, l6] st T σ K ↔ Rn 145 2 [l0, l1, l2, some (vI a), l4, l5, l6] (vI a :: st) T σ K := R_iload_n (n := 3) (by decide +kernel) rfl
theorem s145_2 : Rn 145 2 [l0, l1, l2, l3, some (vI a), l5, l6] st T σ K ↔ Rn 145 4 [l0, l1, l2, l3, some (vI a), l5, l6] (vI a :: st) T σ K := R_iload (n := 4) (by decide +kernel) rfl
theorem s145_4 : Rn 145 4 L (vI c :: vI b :: vI a :: st) T σ K ↔ st.length ≤ 4 ∧ Rn 33 0 [some (vI a), some (vI b), some (vI c)] [] T σ (fun r T' σ' => Rn 145 7 L (sx_push r st) T' σ' K) := R_S (cm := 33) (n := 3) (idx := 169) (mx := 3) (vs := [vI a, vI b, vI c]) (by decide +kernel) (Or.inl (by decide +kernel)) rfl (by decide +kernel) rfl (by decide +kernel)
theorem s145_7 : Rn 145 7 [l0, l1, l2, l3, l4, l5, l6] (vI a :: st) T σ K ↔ Rn 145 9 [l0, l1, l2, l3, l4, some (vI a), l6] st T σ K := R_istore (n := 5) (by decide +kernel) rfl
theorem s145_9 : Rn 145 9 [some (vR o), l1, l2, l3, l4, l5, l6] st T σ K ↔ Rn 145 10 [some (vR o), l1, l2, l3, l4, l5, l6] (vR o :: st) T σ K := R_aload_n (n := 0) (by decide +kernel) rfl
theorem s145_10 : Rn 145 10 L (vR o :: st) T σ K ↔ sx_kd T o = 8 ∧ ∃ t, sx_rf T o 2 = some t ∧ Rn 145 13 L (vR t :: st) T σ K := R_getR (idx := 28) (ci := 8) (k := 2) (by decide +kernel) (by decide +kernel) rfl
theorem s145_13 : Rn 145 13 [l0, some (vI a), l2, l3, l4, l5, l6] st T σ K ↔ Rn 145 14 [l0, some (vI a), l2, l3, l4, l5, l6] (vI a :: st) T σ K := R_iload_n (n := 1) (by decide +kernel) rfl
theorem s145_14 : Rn 145 14 L (vI a :: vR o :: st) T σ K ↔ (sx_kd T o = 2 ∧ st.length ≤ 4) ∧ Rn 49 0 [some (vR o), some (vI a)] [] T σ (fun r T' σ' => Rn 145 17 L (sx_push r st) T' σ' K) := R_V (cm := 49) (n := 1) (idx := 146) (ci := 2) (mx := 2) (vs := [vI a]) (by decide +kernel) (by decide +kernel) rfl (by decide +kernel) rfl (by decide +kernel) (by decide +kernel)
theorem s145_17 : Rn 145 17 L (vI a :: st) T σ K ↔ (a = 0 → Rn 145 39 L st T σ K) ∧ (a ≠ 0 → Rn 145 20 L st T σ K) := R_if_eq (off := 22) (by decide +kernel) (by decide)
theorem s145_20 : Rn 145 20 [l0, l1, l2, l3, l4, some (vI a), l6] st T σ K ↔ Rn 145 22 [l0, l1, l2, l3, l4, some (vI a), l6] (vI a :: st) T σ K := R_iload (n := 5) (by decide +kernel) rfl
theorem s145_22 : Rn 145 22 L st T σ K ↔ Rn 145 23 L (vI (-1) :: st) T σ K := R_iconst (n := -1) (by decide +kernel) (by decide)
theorem s145_23 : Rn 145 23 L (vI b :: vI a :: st) T σ K ↔ (a = b → Rn 145 39 L st T σ K) ∧ (a ≠ b → Rn 145 26 L st T σ K) := R_icmp_eq (off := 16) (by decide +kernel) (by decide)
theorem s145_26 : Rn 145 26 [some (vR o), l1, l2, l3, l4, l5, l6] st T σ K ↔ Rn 145 27 [some (vR o), l1, l2, l3, l4, l5, l6] (vR o :: st) T σ K := R_aload_n (n := 0) (by decide +kernel) rfl
theorem s145_27 : Rn 145 27 L (vR o :: st) T σ K ↔ sx_kd T o = 8 ∧ ∃ t, sx_rf T o 2 = some t ∧ Rn 145 30 L (vR t :: st) T σ K := R_getR (idx := 28) (ci := 8) (k := 2) (by decide +kernel) (by decide +kernel) rfl
theorem s145_30 : Rn 145 30 [l0, l1, l2, l3, l4, some (vI a), l6] st T σ K ↔ Rn 145 32 [l0, l1, l2, l3, l4, some (vI a), l6] (vI a :: st) T σ K := R_iload (n := 5) (by decide +kernel) rfl
theorem s145_32 : Rn 145 32 L (vI a :: vR o :: st) T σ K ↔ (sx_kd T o = 2 ∧ st.length ≤ 4) ∧ Rn 58 0 [some (vR o), some (vI a), none] [] T σ (fun r T' σ' => Rn 145 35 L (sx_push r st) T' σ' K) := R_V (cm := 58) (n := 1) (idx := 173) (ci := 2) (mx := 3) (vs := [vI a]) (by decide +kernel) (by decide +kernel) rfl (by decide +kernel) rfl (by decide +kernel) (by decide +kernel)
theorem s145_35 : Rn 145 35 L st T σ K ↔ Rn 145 36 L (vI (-1) :: st) T σ K := R_iconst (n := -1) (by decide +kernel) (by decide)
theorem s145_36 : Rn 145 36 L (vI b :: vI a :: st) T σ K ↔ (a = b → Rn 145 47 L st T σ K) ∧ (a ≠ b → Rn 145 39 L st T σ K) := R_icmp_eq (off := 11) (by decide +kernel) (by decide)
theorem s145_39 : Rn 145 39 [some (vR o), l1, l2, l3, l4, l5, l6] st T σ K ↔ Rn 145 40 [some (vR o), l1, l2, l3, l4, l5, l6] (vR o :: st) T σ K := R_aload_n (n := 0) (by decide +kernel) rfl
theorem s145_40 : Rn 145 40 L st T σ K ↔ Rn 145 41 L (vI 2 :: st) T σ K := R_iconst (n := 2) (by decide +kernel) (by decide)
theorem s145_41 : Rn 145 41 L (vI a :: vR o :: st) T σ K ↔ (sx_kd T o = 8 ∧ st.length ≤ 4) ∧ Rn 12 0 [some (vR o), some (vI a)] [] T σ (fun r T' σ' => Rn 145 44 L (sx_push r st) T' σ' K) := R_V (cm := 12) (n := 1) (idx := 89) (ci := 8) (mx := 2) (vs := [vI a]) (by decide +kernel) (by decide +kernel) rfl (by decide +kernel) rfl (by decide +kernel) (by decide +kernel)
theorem s145_44 : Rn 145 44 L (vI a :: st) T σ K ↔ Rn 145 45 L st T σ K := R_pop (v := vI a) (by decide +kernel) rfl
theorem s145_45 : Rn 145 45 L st T σ K ↔ Rn 145 46 L (vI 0 :: st) T σ K := R_iconst (n := 0) (by decide +kernel) (by decide)
theorem s145_46 : Rn 145 46 L [vI a] T σ K ↔ (a = 0 ∨ a = 1) ∧ K (some (vI a)) T σ := R_retZ (by decide +kernel) (by decide +kernel)
theorem s145_47 : Rn 145 47 [some (vR o), l1, l2, l3, l4, l5, l6] st T σ K ↔ Rn 145 48 [some (vR o), l1, l2, l3, l4, l5, l6] (vR o :: st) T σ K := R_aload_n (n := 0) (by decide +kernel) rfl
theorem s145_48 : Rn 145 48 L (vR o :: st) T σ K ↔ sx_kd T o = 8 ∧ ∃ t, sx_rf T o 4 = some t ∧ Rn 145 51 L (vR t :: st) T σ K := R_getR (idx := 38) (ci := 8) (k := 4) (by decide +kernel) (by decide +kernel) rfl
theorem s145_51 : Rn 145 51 [some (vR o), l1, l2, l3, l4, l5, l6] st T σ K ↔ Rn 145 52 [some (vR o), l1, l2, l3, l4, l5, l6] (vR o :: st) T σ K := R_aload_n (n := 0) (by decide +kernel) rfl
theorem s145_52 : Rn 145 52 L (vR o :: st) T σ K ↔ sx_kd T o = 8 ∧ ∃ t, sx_rf T o 2 = some t ∧ Rn 145 55 L (vR t :: st) T σ K := R_getR (idx := 28) (ci := 8) (k := 2) (by decide +kernel) (by decide +kernel) rfl
theorem s145_55 : Rn 145 55 L (vR p :: vR o :: st) T σ K ↔ (sx_kd T o = 0 ∧ st.length ≤ 4) ∧ Rn 142 0 [some (vR o), some (vR p)] [] T σ (fun r T' σ' => Rn 145 58 L (sx_push r st) T' σ' K) := R_V (cm := 142) (n := 1) (idx := 351) (ci := 0) (mx := 2) (vs := [vR p]) (by decide +kernel) (by decide +kernel) rfl (by decide +kernel) rfl (by decide +kernel) (by decide +kernel)
theorem s145_58 : Rn 145 58 [some (vR o), l1, l2, l3, l4, l5, l6] st T σ K ↔ Rn 145 59 [some (vR o), l1, l2, l3, l4, l5, l6] (vR o :: st) T σ K := R_aload_n (n := 0) (by decide +kernel) rfl
theorem s145_59 : Rn 145 59 L (vR o :: st) T σ K ↔ sx_kd T o = 8 ∧ ∃ t, sx_rf T o 2 = some t ∧ Rn 145 62 L (vR t :: st) T σ K := R_getR (idx := 28) (ci := 8) (k := 2) (by decide +kernel) (by decide +kernel) rfl
theorem s145_62 : Rn 145 62 L (vR o :: st) T σ K ↔ sx_kd T o = 2 ∧ ∃ t, sx_rf T o 3 = some t ∧ Rn 145 65 L (vR t :: st) T σ K := R_getR (idx := 118) (ci := 2) (k := 3) (by decide +kernel) (by decide +kernel) rfl
theorem s145_65 : Rn 145 65 [l0, some (vI a), l2, l3, l4, l5, l6] st T σ K ↔ Rn 145 66 [l0, some (vI a), l2, l3, l4, l5, l6] (vI a :: st) T σ K := R_iload_n (n := 1) (by decide +kernel) rfl
theorem s145_66 : Rn 145 66 L (vI a :: vR o :: st) T σ K ↔ (sx_kd T o = 20 ∧ 0 ≤ a ∧ a < sx_ln T o) ∧ Rn 145 67 L (vI (σ o a) :: st) T σ K := R_iald (by decide +kernel) (by decide)
theorem s145_67 : Rn 145 67 [l0, l1, l2, l3, l4, l5, l6] (vI a :: st) T σ K ↔ Rn 145 69 [l0, l1, l2, l3, l4, l5, some (vI a)] st T σ K := R_istore (n := 6) (by decide +kernel) rfl
theorem s145_69 : Rn 145 69 [some (vR o), l1, l2, l3, l4, l5, l6] st T σ K ↔ Rn 145 70 [some (vR o), l1, l2, l3, l4, l5, l6] (vR o :: st) T σ K := R_aload_n (n := 0) (by decide +kernel) rfl
theorem s145_70 : Rn 145 70 L (vR o :: st) T σ K ↔ sx_kd T o = 8 ∧ ∃ t, sx_rf T o 2 = some t ∧ Rn 145 73 L (vR t :: st) T σ K := R_getR (idx := 28) (ci := 8) (k := 2) (by decide +kernel) (by decide +kernel) rfl
theorem s145_73 : Rn 145 73 [l0, some (vI a), l2, l3, l4, l5, l6] st T σ K ↔ Rn 145 74 [l0, some (vI a), l2, l3, l4, l5, l6] (vI a :: st) T σ K := R_iload_n (n := 1) (by decide +kernel) rfl
theorem s145_74 : Rn 145 74 L (vI a :: vR o :: st) T σ K ↔ (sx_kd T o = 2 ∧ st.length ≤ 4) ∧ Rn 126 0 [some (vR o), some (vI a), none, none] [] T σ (fun r T' σ' => Rn 145 77 L (sx_push r st) T' σ' K) := R_V (cm := 126) (n := 1) (idx := 325) (ci := 2) (mx := 4) (vs := [vI a]) (by decide +kernel) (by decide +kernel) rfl (by decide +kernel) rfl (by decide +kernel) (by decide +kernel)
theorem s145_77 : Rn 145 77 [some (vR o), l1, l2, l3, l4, l5, l6] st T σ K ↔ Rn 145 78 [some (vR o), l1, l2, l3, l4, l5, l6] (vR o :: st) T σ K := R_aload_n (n := 0) (by decide +kernel) rfl
theorem s145_78 : Rn 145 78 L (vR o :: st) T σ K ↔ sx_kd T o = 8 ∧ ∃ t, sx_rf T o 2 = some t ∧ Rn 145 81 L (vR t :: st) T σ K := R_getR (idx := 28) (ci := 8) (k := 2) (by decide +kernel) (by decide +kernel) rfl
theorem s145_81 : Rn 145 81 [l0, some (vI a), l2, l3, l4, l5, l6] st T σ K ↔ Rn 145 82 [l0, some (vI a), l2, l3, l4, l5, l6] (vI a :: st) T σ K := R_iload_n (n := 1) (by decide +kernel) rfl
theorem s145_82 : Rn 145 82 [l0, l1, l2, l3, l4, some (vI a), l6] st T σ K ↔ Rn 145 84 [l0, l1, l2, l3, l4, some (vI a), l6] (vI a :: st) T σ K := R_iload (n := 5) (by decide +kernel) rfl
theorem s145_84 : Rn 145 84 L (vI b :: vI a :: vR o :: st) T σ K ↔ (sx_kd T o = 2 ∧ st.length ≤ 4) ∧ Rn 36 0 [some (vR o), some (vI a), some (vI b)] [] T σ (fun r T' σ' => Rn 145 87 L (sx_push r st) T' σ' K) := R_V (cm := 36) (n := 2) (idx := 114) (ci := 2) (mx := 3) (vs := [vI a, vI b]) (by decide +kernel) (by decide +kernel) rfl (by decide +kernel) rfl (by decide +kernel) (by decide +kernel)
theorem s145_87 : Rn 145 87 [some (vR o), l1, l2, l3, l4, l5, l6] st T σ K ↔ Rn 145 88 [some (vR o), l1, l2, l3, l4, l5, l6] (vR o :: st) T σ K := R_aload_n (n := 0) (by decide +kernel) rfl
theorem s145_88 : Rn 145 88 L (vR o :: st) T σ K ↔ sx_kd T o = 8 ∧ ∃ t, sx_rf T o 2 = some t ∧ Rn 145 91 L (vR t :: st) T σ K := R_getR (idx := 28) (ci := 8) (k := 2) (by decide +kernel) (by decide +kernel) rfl
theorem s145_91 : Rn 145 91 L (vR o :: st) T σ K ↔ sx_kd T o = 2 ∧ ∃ t, sx_rf T o 3 = some t ∧ Rn 145 94 L (vR t :: st) T σ K := R_getR (idx := 118) (ci := 2) (k := 3) (by decide +kernel) (by decide +kernel) rfl
theorem s145_94 : Rn 145 94 [l0, some (vI a), l2, l3, l4, l5, l6] st T σ K ↔ Rn 145 95 [l0, some (vI a), l2, l3, l4, l5, l6] (vI a :: st) T σ K := R_iload_n (n := 1) (by decide +kernel) rfl
theorem s145_95 : Rn 145 95 [l0, l1, l2, l3, l4, l5, some (vI a)] st T σ K ↔ Rn 145 97 [l0, l1, l2, l3, l4, l5, some (vI a)] (vI a :: st) T σ K := R_iload (n := 6) (by decide +kernel) rfl
theorem s145_97 : Rn 145 97 L (vI b :: vI a :: vR o :: st) T σ K ↔ (sx_kd T o = 20 ∧ 0 ≤ a ∧ a < sx_ln T o) ∧ Rn 145 98 L st T (sx_up σ o a b) K := R_iast (by decide +kernel)
theorem s145_98 : Rn 145 98 L st T σ K ↔ Rn 145 99 L (vI 1 :: st) T σ K := R_iconst (n := 1) (by decide +kernel) (by decide)
theorem s145_99 : Rn 145 99 L [vI a] T σ K ↔ (a = 0 ∨ a = 1) ∧ K (some (vI a)) T σ := R_retZ (by decide +kernel) (by decide +kernel)
theorem s146_0 : Rn 146 0 [some (vR o), l1] st T σ K ↔ Rn 146 1 [some (vR o), l1] (vR o :: st) T σ K := R_aload_n (n := 0) (by decide +kernel) rfl
theorem s146_1 : Rn 146 1 L (vR o :: st) T σ K ↔ sx_kd T o = 8 ∧ ∃ t, sx_rf T o 2 = some t ∧ Rn 146 4 L (vR t :: st) T σ K := R_getR (idx := 28) (ci := 8) (k := 2) (by decide +kernel) (by decide +kernel) rfl
theorem s146_4 : Rn 146 4 L (vR o :: st) T σ K ↔ sx_kd T o = 2 ∧ Rn 146 7 L (vI (σ o 4) :: st) T σ K := R_getI (idx := 107) (ci := 2) (k := 4) (by decide +kernel) (by decide +kernel) (Or.inl rfl)
theorem s146_7 : Rn 146 7 L st T σ K ↔ Rn 146 8 L (vI (-1) :: st) T σ K := R_iconst (n := -1) (by decide +kernel) (by decide)
theorem s146_8 : Rn 146 8 L (vI b :: vI a :: st) T σ K ↔ (a = b → Rn 146 29 L st T σ K) ∧ (a ≠ b → Rn 146 11 L st T σ K) := R_icmp_eq (off := 21) (by decide +kernel) (by decide)
theorem s146_11 : Rn 146 11 [l0, some (vI a)] st T σ K ↔ Rn 146 12 [l0, some (vI a)] (vI a :: st) T σ K := R_iload_n (n := 1) (by decide +kernel) rfl
theorem s146_12 : Rn 146 12 L (vI a :: st) T σ K ↔ st.length ≤ 4 ∧ Rn 147 0 [some (vI a)] [] T σ (fun r T' σ' => Rn 146 15 L (sx_push r st) T' σ' K) := R_S (cm := 147) (n := 1) (idx := 357) (mx := 1) (vs := [vI a]) (by decide +kernel) (Or.inl (by decide +kernel)) rfl (by decide +kernel) rfl (by decide +kernel)
theorem s146_15 : Rn 146 15 L (vI a :: st) T σ K ↔ (a = 0 → Rn 146 29 L st T σ K) ∧ (a ≠ 0 → Rn 146 18 L st T σ K) := R_if_eq (off := 14) (by decide +kernel) (by decide)
theorem s146_18 : Rn 146 18 [l0, some (vI a)] st T σ K ↔ Rn 146 19 [l0, some (vI a)] (vI a :: st) T σ K := R_iload_n (n := 1) (by decide +kernel) rfl
theorem s146_19 : Rn 146 19 [some (vR o), l1] st T σ K ↔ Rn 146 20 [some (vR o), l1] (vR o :: st) T σ K := R_aload_n (n := 0) (by decide +kernel) rfl
theorem s146_20 : Rn 146 20 L (vR o :: st) T σ K ↔ sx_kd T o = 8 ∧ ∃ t, sx_rf T o 2 = some t ∧ Rn 146 23 L (vR t :: st) T σ K := R_getR (idx := 28) (ci := 8) (k := 2) (by decide +kernel) (by decide +kernel) rfl
theorem s146_23 : Rn 146 23 L (vR o :: st) T σ K ↔ sx_kd T o = 2 ∧ Rn 146 26 L (vI (σ o 4) :: st) T σ K := R_getI (idx := 107) (ci := 2) (k := 4) (by decide +kernel) (by decide +kernel) (Or.inl rfl)
theorem s146_26 : Rn 146 26 L (vI b :: vI a :: st) T σ K ↔ (a ≠ b → Rn 146 37 L st T σ K) ∧ (a = b → Rn 146 29 L st T σ K) := R_icmp_ne (off := 11) (by decide +kernel) (by decide)
theorem s146_29 : Rn 146 29 [some (vR o), l1] st T σ K ↔ Rn 146 30 [some (vR o), l1] (vR o :: st) T σ K := R_aload_n (n := 0) (by decide +kernel) rfl
theorem s146_30 : Rn 146 30 L st T σ K ↔ Rn 146 31 L (vI 3 :: st) T σ K := R_iconst (n := 3) (by decide +kernel) (by decide)
theorem s146_31 : Rn 146 31 L (vI a :: vR o :: st) T σ K ↔ (sx_kd T o = 8 ∧ st.length ≤ 4) ∧ Rn 12 0 [some (vR o), some (vI a)] [] T σ (fun r T' σ' => Rn 146 34 L (sx_push r st) T' σ' K) := R_V (cm := 12) (n := 1) (idx := 89) (ci := 8) (mx := 2) (vs := [vI a]) (by decide +kernel) (by decide +kernel) rfl (by decide +kernel) rfl (by decide +kernel) (by decide +kernel)
theorem s146_34 : Rn 146 34 L (vI a :: st) T σ K ↔ Rn 146 35 L st T σ K := R_pop (v := vI a) (by decide +kernel) rfl
theorem s146_35 : Rn 146 35 L st T σ K ↔ Rn 146 36 L (vI 0 :: st) T σ K := R_iconst (n := 0) (by decide +kernel) (by decide)
theorem s146_36 : Rn 146 36 L [vI a] T σ K ↔ (a = 0 ∨ a = 1) ∧ K (some (vI a)) T σ := R_retZ (by decide +kernel) (by decide +kernel)
theorem s146_37 : Rn 146 37 [some (vR o), l1] st T σ K ↔ Rn 146 38 [some (vR o), l1] (vR o :: st) T σ K := R_aload_n (n := 0) (by decide +kernel) rfl
theorem s146_38 : Rn 146 38 L (vR o :: st) T σ K ↔ sx_kd T o = 8 ∧ ∃ t, sx_rf T o 4 = some t ∧ Rn 146 41 L (vR t :: st) T σ K := R_getR (idx := 38) (ci := 8) (k := 4) (by decide +kernel) (by decide +kernel) rfl
theorem s146_41 : Rn 146 41 [some (vR o), l1] st T σ K ↔ Rn 146 42 [some (vR o), l1] (vR o :: st) T σ K := R_aload_n (n := 0) (by decide +kernel) rfl
theorem s146_42 : Rn 146 42 L (vR o :: st) T σ K ↔ sx_kd T o = 8 ∧ ∃ t, sx_rf T o 2 = some t ∧ Rn 146 45 L (vR t :: st) T σ K := R_getR (idx := 28) (ci := 8) (k := 2) (by decide +kernel) (by decide +kernel) rfl
theorem s146_45 : Rn 146 45 L (vR p :: vR o :: st) T σ K ↔ (sx_kd T o = 0 ∧ st.length ≤ 4) ∧ Rn 142 0 [some (vR o), some (vR p)] [] T σ (fun r T' σ' => Rn 146 48 L (sx_push r st) T' σ' K) := R_V (cm := 142) (n := 1) (idx := 351) (ci := 0) (mx := 2) (vs := [vR p]) (by decide +kernel) (by decide +kernel) rfl (by decide +kernel) rfl (by decide +kernel) (by decide +kernel)
theorem s146_48 : Rn 146 48 [some (vR o), l1] st T σ K ↔ Rn 146 49 [some (vR o), l1] (vR o :: st) T σ K := R_aload_n (n := 0) (by decide +kernel) rfl
theorem s146_49 : Rn 146 49 L (vR o :: st) T σ K ↔ sx_kd T o = 8 ∧ ∃ t, sx_rf T o 2 = some t ∧ Rn 146 52 L (vR t :: st) T σ K := R_getR (idx := 28) (ci := 8) (k := 2) (by decide +kernel) (by decide +kernel) rfl
theorem s146_52 : Rn 146 52 [l0, some (vI a)] st T σ K ↔ Rn 146 53 [l0, some (vI a)] (vI a :: st) T σ K := R_iload_n (n := 1) (by decide +kernel) rfl
theorem s146_53 : Rn 146 53 L (vI a :: vR o :: st) T σ K ↔ sx_kd T o = 2 ∧ Rn 146 56 L st T (sx_up σ o 4 a) K := R_putI (idx := 107) (ci := 2) (k := 4) (by decide +kernel) (by decide +kernel) rfl rfl
theorem s146_56 : Rn 146 56 [some (vR o), l1] st T σ K ↔ Rn 146 57 [some (vR o), l1] (vR o :: st) T σ K := R_aload_n (n := 0) (by decide +kernel) rfl
theorem s146_57 : Rn 146 57 L (vR o :: st) T σ K ↔ sx_kd T o = 8 ∧ ∃ t, sx_rf T o 2 = some t ∧ Rn 146 60 L (vR t :: st) T σ K := R_getR (idx := 28) (ci := 8) (k := 2) (by decide +kernel) (by decide +kernel) rfl
theorem s146_60 : Rn 146 60 L (vR o :: st) T σ K ↔ (sx_kd T o = 2 ∧ st.length ≤ 4) ∧ Rn 130 0 [some (vR o), none] [] T σ (fun r T' σ' => Rn 146 63 L (sx_push r st) T' σ' K) := R_V (cm := 130) (n := 0) (idx := 335) (ci := 2) (mx := 2) (vs := []) (by decide +kernel) (by decide +kernel) rfl (by decide +kernel) rfl (by decide +kernel) (by decide +kernel)
theorem s146_63 : Rn 146 63 L st T σ K ↔ Rn 146 64 L (vI 1 :: st) T σ K := R_iconst (n := 1) (by decide +kernel) (by decide)
theorem s146_64 : Rn 146 64 L [vI a] T σ K ↔ (a = 0 ∨ a = 1) ∧ K (some (vI a)) T σ := R_retZ (by decide +kernel) (by decide +kernel)
theorem s147_0 : Rn 147 0 [some (vI a)] st T σ K ↔ Rn 147 1 [some (vI a)] (vI a :: st) T σ K := R_iload_n (n := 0) (by decide +kernel) rfl
theorem s147_1 : Rn 147 1 L (vI a :: st) T σ K ↔ (a < 0 → Rn 147 13 L st T σ K) ∧ (0 ≤ a → Rn 147 4 L st T σ K) := R_if_lt (off := 12) (by decide +kernel) (by decide)
theorem s147_4 : Rn 147 4 [some (vI a)] st T σ K ↔ Rn 147 5 [some (vI a)] (vI a :: st) T σ K := R_iload_n (n := 0) (by decide +kernel) rfl
theorem s147_5 : Rn 147 5 L st T σ K ↔ Rn 147 6 L (vI 3 :: st) T σ K := R_iconst (n := 3) (by decide +kernel) (by decide)
theorem s147_6 : Rn 147 6 L (vI b :: vI a :: st) T σ K ↔ (b ≤ a → Rn 147 13 L st T σ K) ∧ (a < b → Rn 147 9 L st T σ K) := R_icmp_ge (off := 7) (by decide +kernel) (by decide)
theorem s147_9 : Rn 147 9 L st T σ K ↔ Rn 147 10 L (vI 1 :: st) T σ K := R_iconst (n := 1) (by decide +kernel) (by decide)
theorem s147_10 : Rn 147 10 L st T σ K ↔ Rn 147 14 L st T σ K := R_goto (off := 4) (by decide +kernel) (by decide)
theorem s147_13 : Rn 147 13 L st T σ K ↔ Rn 147 14 L (vI 0 :: st) T σ K := R_iconst (n := 0) (by decide +kernel) (by decide)
theorem s147_14 : Rn 147 14 L [vI a] T σ K ↔ (a = 0 ∨ a = 1) ∧ K (some (vI a)) T σ := R_retZ (by decide +kernel) (by decide +kernel)
theorem s148_0 : Rn 148 0 [some (vR o)] st T σ K ↔ Rn 148 1 [some (vR o)] (vR o :: st) T σ K := R_aload_n (n := 0) (by decide +kernel) rfl
theorem s148_1 : Rn 148 1 L (vR o :: st) T σ K ↔ sx_kd T o = 8 ∧ ∃ t, sx_rf T o 2 = some t ∧ Rn 148 4 L (vR t :: st) T σ K := R_getR (idx := 28) (ci := 8) (k := 2) (by decide +kernel) (by decide +kernel) rfl
theorem s148_4 : Rn 148 4 L (vR o :: st) T σ K ↔ sx_kd T o = 2 ∧ Rn 148 7 L (vI (σ o 6) :: st) T σ K := R_getI (idx := 135) (ci := 2) (k := 6) (by decide +kernel) (by decide +kernel) (Or.inl rfl)
theorem s148_7 : Rn 148 7 L (vI a :: st) T σ K ↔ (a ≠ 0 → Rn 148 16 L st T σ K) ∧ (a = 0 → Rn 148 10 L st T σ K) := R_if_ne (off := 9) (by decide +kernel) (by decide)
theorem s148_10 : Rn 148 10 [some (vR o)] st T σ K ↔ Rn 148 11 [some (vR o)] (vR o :: st) T σ K := R_aload_n (n := 0) (by decide +kernel) rfl
theorem s148_11 : Rn 148 11 L st T σ K ↔ Rn 148 12 L (vI 3 :: st) T σ K := R_iconst (n := 3) (by decide +kernel) (by decide)
theorem s148_12 : Rn 148 12 L (vI a :: vR o :: st) T σ K ↔ (sx_kd T o = 8 ∧ st.length ≤ 4) ∧ Rn 12 0 [some (vR o), some (vI a)] [] T σ (fun r T' σ' => Rn 148 15 L (sx_push r st) T' σ' K) := R_V (cm := 12) (n := 1) (idx := 89) (ci := 8) (mx := 2) (vs := [vI a]) (by decide +kernel) (by decide +kernel) rfl (by decide +kernel) rfl (by decide +kernel) (by decide +kernel)
theorem s148_15 : Rn 148 15 L [vI a] T σ K ↔ K (some (vI a)) T σ := R_ret (by decide +kernel) (by decide +kernel)
theorem s148_16 : Rn 148 16 [some (vR o)] st T σ K ↔ Rn 148 17 [some (vR o)] (vR o :: st) T σ K := R_aload_n (n := 0) (by decide +kernel) rfl
theorem s148_17 : Rn 148 17 L (vR o :: st) T σ K ↔ sx_kd T o = 8 ∧ ∃ t, sx_rf T o 4 = some t ∧ Rn 148 20 L (vR t :: st) T σ K := R_getR (idx := 38) (ci := 8) (k := 4) (by decide +kernel) (by decide +kernel) rfl
theorem s148_20 : Rn 148 20 [some (vR o)] st T σ K ↔ Rn 148 21 [some (vR o)] (vR o :: st) T σ K := R_aload_n (n := 0) (by decide +kernel) rfl
theorem s148_21 : Rn 148 21 L (vR o :: st) T σ K ↔ sx_kd T o = 8 ∧ ∃ t, sx_rf T o 2 = some t ∧ Rn 148 24 L (vR t :: st) T σ K := R_getR (idx := 28) (ci := 8) (k := 2) (by decide +kernel) (by decide +kernel) rfl
theorem s148_24 : Rn 148 24 L (vR p :: vR o :: st) T σ K ↔ (sx_kd T o = 0 ∧ st.length ≤ 4) ∧ Rn 142 0 [some (vR o), some (vR p)] [] T σ (fun r T' σ' => Rn 148 27 L (sx_push r st) T' σ' K) := R_V (cm := 142) (n := 1) (idx := 351) (ci := 0) (mx := 2) (vs := [vR p]) (by decide +kernel) (by decide +kernel) rfl (by decide +kernel) rfl (by decide +kernel) (by decide +kernel)
theorem s148_27 : Rn 148 27 [some (vR o)] st T σ K ↔ Rn 148 28 [some (vR o)] (vR o :: st) T σ K := R_aload_n (n := 0) (by decide +kernel) rfl
theorem s148_28 : Rn 148 28 L (vR o :: st) T σ K ↔ sx_kd T o = 8 ∧ ∃ t, sx_rf T o 3 = some t ∧ Rn 148 31 L (vR t :: st) T σ K := R_getR (idx := 32) (ci := 8) (k := 3) (by decide +kernel) (by decide +kernel) rfl
theorem s148_31 : Rn 148 31 [some (vR o)] st T σ K ↔ Rn 148 32 [some (vR o)] (vR o :: st) T σ K := R_aload_n (n := 0) (by decide +kernel) rfl
theorem s148_32 : Rn 148 32 L (vR o :: st) T σ K ↔ sx_kd T o = 8 ∧ ∃ t, sx_rf T o 2 = some t ∧ Rn 148 35 L (vR t :: st) T σ K := R_getR (idx := 28) (ci := 8) (k := 2) (by decide +kernel) (by decide +kernel) rfl
theorem s148_35 : Rn 148 35 L (vR p :: vR o :: st) T σ K ↔ (sx_kd T o = 2 ∧ st.length ≤ 4) ∧ Rn 125 0 [some (vR o), some (vR p)] [] T σ (fun r T' σ' => Rn 148 38 L (sx_push r st) T' σ' K) := R_V (cm := 125) (n := 1) (idx := 322) (ci := 2) (mx := 2) (vs := [vR p]) (by decide +kernel) (by decide +kernel) rfl (by decide +kernel) rfl (by decide +kernel) (by decide +kernel)
theorem s148_38 : Rn 148 38 [some (vR o)] st T σ K ↔ Rn 148 39 [some (vR o)] (vR o :: st) T σ K := R_aload_n (n := 0) (by decide +kernel) rfl
theorem s148_39 : Rn 148 39 L (vR o :: st) T σ K ↔ sx_kd T o = 8 ∧ ∃ t, sx_rf T o 2 = some t ∧ Rn 148 42 L (vR t :: st) T σ K := R_getR (idx := 28) (ci := 8) (k := 2) (by decide +kernel) (by decide +kernel) rfl
theorem s148_42 : Rn 148 42 L (vR o :: st) T σ K ↔ (sx_kd T o = 2 ∧ st.length ≤ 4) ∧ Rn 130 0 [some (vR o), none] [] T σ (fun r T' σ' => Rn 148 45 L (sx_push r st) T' σ' K) := R_V (cm := 130) (n := 0) (idx := 335) (ci := 2) (mx := 2) (vs := []) (by decide +kernel) (by decide +kernel) rfl (by decide +kernel) rfl (by decide +kernel) (by decide +kernel)
theorem s148_45 : Rn 148 45 [some (vR o)] st T σ K ↔ Rn 148 46 [some (vR o)] (vR o :: st) T σ K := R_aload_n (n := 0) (by decide +kernel) rfl
theorem s148_46 : Rn 148 46 L (vR o :: st) T σ K ↔ sx_kd T o = 8 ∧ ∃ t, sx_rf T o 3 = some t ∧ Rn 148 49 L (vR t :: st) T σ K := R_getR (idx := 32) (ci := 8) (k := 3) (by decide +kernel) (by decide +kernel) rfl
theorem s148_49 : Rn 148 49 [some (vR o)] st T σ K ↔ Rn 148 50 [some (vR o)] (vR o :: st) T σ K := R_aload_n (n := 0) (by decide +kernel) rfl
theorem s148_50 : Rn 148 50 L (vR o :: st) T σ K ↔ sx_kd T o = 8 ∧ ∃ t, sx_rf T o 2 = some t ∧ Rn 148 53 L (vR t :: st) T σ K := R_getR (idx := 28) (ci := 8) (k := 2) (by decide +kernel) (by decide +kernel) rfl
theorem s148_53 : Rn 148 53 L (vR p :: vR o :: st) T σ K ↔ (sx_kd T o = 2 ∧ st.length ≤ 4) ∧ Rn 128 0 [some (vR o), some (vR p), none, none] [] T σ (fun r T' σ' => Rn 148 56 L (sx_push r st) T' σ' K) := R_V (cm := 128) (n := 1) (idx := 332) (ci := 2) (mx := 4) (vs := [vR p]) (by decide +kernel) (by decide +kernel) rfl (by decide +kernel) rfl (by decide +kernel) (by decide +kernel)
theorem s148_56 : Rn 148 56 L [vI a] T σ K ↔ K (some (vI a)) T σ := R_ret (by decide +kernel) (by decide +kernel)
theorem s149_0 : Rn 149 0 [l0, some (vI a), l2] st T σ K ↔ Rn 149 1 [l0, some (vI a), l2] (vI a :: st) T σ K := R_iload_n (n := 1) (by decide +kernel) rfl
theorem s149_1 : Rn 149 1 L st T σ K ↔ Rn 149 2 L (vI 1 :: st) T σ K := R_iconst (n := 1) (by decide +kernel) (by decide)
theorem s149_2 : Rn 149 2 L (vI b :: vI a :: st) T σ K ↔ (a < b → Rn 149 22 L st T σ K) ∧ (b ≤ a → Rn 149 5 L st T σ K) := R_icmp_lt (off := 20) (by decide +kernel) (by decide)
theorem s149_5 : Rn 149 5 [l0, some (vI a), l2] st T σ K ↔ Rn 149 6 [l0, some (vI a), l2] (vI a :: st) T σ K := R_iload_n (n := 1) (by decide +kernel) rfl
theorem s149_6 : Rn 149 6 L st T σ K ↔ Rn 149 8 L (vI 40 :: st) T σ K := R_bipush (n := 40) (by decide +kernel) (by decide +kernel)
theorem s149_8 : Rn 149 8 L (vI b :: vI a :: st) T σ K ↔ (b < a → Rn 149 22 L st T σ K) ∧ (a ≤ b → Rn 149 11 L st T σ K) := R_icmp_gt (off := 14) (by decide +kernel) (by decide)
theorem s149_11 : Rn 149 11 [some (vR o), l1, l2] st T σ K ↔ Rn 149 12 [some (vR o), l1, l2] (vR o :: st) T σ K := R_aload_n (n := 0) (by decide +kernel) rfl
theorem s149_12 : Rn 149 12 L (vR o :: st) T σ K ↔ sx_kd T o = 8 ∧ ∃ t, sx_rf T o 2 = some t ∧ Rn 149 15 L (vR t :: st) T σ K := R_getR (idx := 28) (ci := 8) (k := 2) (by decide +kernel) (by decide +kernel) rfl
theorem s149_15 : Rn 149 15 L (vR o :: st) T σ K ↔ sx_kd T o = 2 ∧ Rn 149 18 L (vI (σ o 4) :: st) T σ K := R_getI (idx := 107) (ci := 2) (k := 4) (by decide +kernel) (by decide +kernel) (Or.inl rfl)
theorem s149_18 : Rn 149 18 L st T σ K ↔ Rn 149 19 L (vI (-1) :: st) T σ K := R_iconst (n := -1) (by decide +kernel) (by decide)
theorem s149_19 : Rn 149 19 L (vI b :: vI a :: st) T σ K ↔ (a ≠ b → Rn 149 28 L st T σ K) ∧ (a = b → Rn 149 22 L st T σ K) := R_icmp_ne (off := 9) (by decide +kernel) (by decide)
theorem s149_22 : Rn 149 22 [some (vR o), l1, l2] st T σ K ↔ Rn 149 23 [some (vR o), l1, l2] (vR o :: st) T σ K := R_aload_n (n := 0) (by decide +kernel) rfl
theorem s149_23 : Rn 149 23 L st T σ K ↔ Rn 149 24 L (vI 3 :: st) T σ K := R_iconst (n := 3) (by decide +kernel) (by decide)
theorem s149_24 : Rn 149 24 L (vI a :: vR o :: st) T σ K ↔ (sx_kd T o = 8 ∧ st.length ≤ 4) ∧ Rn 12 0 [some (vR o), some (vI a)] [] T σ (fun r T' σ' => Rn 149 27 L (sx_push r st) T' σ' K) := R_V (cm := 12) (n := 1) (idx := 89) (ci := 8) (mx := 2) (vs := [vI a]) (by decide +kernel) (by decide +kernel) rfl (by decide +kernel) rfl (by decide +kernel) (by decide +kernel)
theorem s149_27 : Rn 149 27 L [vI a] T σ K ↔ K (some (vI a)) T σ := R_ret (by decide +kernel) (by decide +kernel)
theorem s149_28 : Rn 149 28 [some (vR o), l1, l2] st T σ K ↔ Rn 149 29 [some (vR o), l1, l2] (vR o :: st) T σ K := R_aload_n (n := 0) (by decide +kernel) rfl
theorem s149_29 : Rn 149 29 L (vR o :: st) T σ K ↔ sx_kd T o = 8 ∧ ∃ t, sx_rf T o 4 = some t ∧ Rn 149 32 L (vR t :: st) T σ K := R_getR (idx := 38) (ci := 8) (k := 4) (by decide +kernel) (by decide +kernel) rfl
theorem s149_32 : Rn 149 32 [some (vR o), l1, l2] st T σ K ↔ Rn 149 33 [some (vR o), l1, l2] (vR o :: st) T σ K := R_aload_n (n := 0) (by decide +kernel) rfl
theorem s149_33 : Rn 149 33 L (vR o :: st) T σ K ↔ sx_kd T o = 8 ∧ ∃ t, sx_rf T o 2 = some t ∧ Rn 149 36 L (vR t :: st) T σ K := R_getR (idx := 28) (ci := 8) (k := 2) (by decide +kernel) (by decide +kernel) rfl
theorem s149_36 : Rn 149 36 L (vR p :: vR o :: st) T σ K ↔ (sx_kd T o = 0 ∧ st.length ≤ 4) ∧ Rn 142 0 [some (vR o), some (vR p)] [] T σ (fun r T' σ' => Rn 149 39 L (sx_push r st) T' σ' K) := R_V (cm := 142) (n := 1) (idx := 351) (ci := 0) (mx := 2) (vs := [vR p]) (by decide +kernel) (by decide +kernel) rfl (by decide +kernel) rfl (by decide +kernel) (by decide +kernel)
theorem s149_39 : Rn 149 39 L st T σ K ↔ Rn 149 40 L (vI 0 :: st) T σ K := R_iconst (n := 0) (by decide +kernel) (by decide)
theorem s149_40 : Rn 149 40 [l0, l1, l2] (vI a :: st) T σ K ↔ Rn 149 41 [l0, l1, some (vI a)] st T σ K := R_istore_n (n := 2) (by decide +kernel) rfl
theorem s149_41 : Rn 149 41 [l0, l1, some (vI a)] st T σ K ↔ Rn 149 42 [l0, l1, some (vI a)] (vI a :: st) T σ K := R_iload_n (n := 2) (by decide +kernel) rfl
theorem s149_42 : Rn 149 42 [l0, some (vI a), l2] st T σ K ↔ Rn 149 43 [l0, some (vI a), l2] (vI a :: st) T σ K := R_iload_n (n := 1) (by decide +kernel) rfl
theorem s149_43 : Rn 149 43 L (vI b :: vI a :: st) T σ K ↔ (b ≤ a → Rn 149 56 L st T σ K) ∧ (a < b → Rn 149 46 L st T σ K) := R_icmp_ge (off := 13) (by decide +kernel) (by decide)
theorem s149_46 : Rn 149 46 [some (vR o), l1, l2] st T σ K ↔ Rn 149 47 [some (vR o), l1, l2] (vR o :: st) T σ K := R_aload_n (n := 0) (by decide +kernel) rfl
theorem s149_47 : Rn 149 47 L (vR o :: st) T σ K ↔ (sx_kd T o = 8 ∧ st.length ≤ 4) ∧ Rn 150 0 [some (vR o), none, none, none, none] [] T σ (fun r T' σ' => Rn 149 50 L (sx_push r st) T' σ' K) := R_V (cm := 150) (n := 0) (idx := 360) (ci := 8) (mx := 5) (vs := []) (by decide +kernel) (by decide +kernel) rfl (by decide +kernel) rfl (by decide +kernel) (by decide +kernel)
theorem s149_50 : Rn 149 50 [l0, l1, some (vI a)] st T σ K ↔ inI (a + 1) ∧ Rn 149 53 [l0, l1, some (vI (a + 1))] st T σ K := R_iinc (n := 2) (d := 1) (by decide +kernel) rfl
theorem s149_53 : Rn 149 53 L st T σ K ↔ Rn 149 41 L st T σ K := R_goto (off := -12) (by decide +kernel) (by decide)
theorem s149_56 : Rn 149 56 [some (vR o), l1, l2] st T σ K ↔ Rn 149 57 [some (vR o), l1, l2] (vR o :: st) T σ K := R_aload_n (n := 0) (by decide +kernel) rfl
theorem s149_57 : Rn 149 57 L (vR o :: st) T σ K ↔ sx_kd T o = 8 ∧ ∃ t, sx_rf T o 2 = some t ∧ Rn 149 60 L (vR t :: st) T σ K := R_getR (idx := 28) (ci := 8) (k := 2) (by decide +kernel) (by decide +kernel) rfl
theorem s149_60 : Rn 149 60 L (vR o :: st) T σ K ↔ sx_kd T o = 2 ∧ Rn 149 63 L (vI (σ o 6) :: st) T σ K := R_getI (idx := 135) (ci := 2) (k := 6) (by decide +kernel) (by decide +kernel) (Or.inl rfl)
theorem s149_63 : Rn 149 63 L [vI a] T σ K ↔ K (some (vI a)) T σ := R_ret (by decide +kernel) (by decide +kernel)
theorem s150_0 : Rn 150 0 [some (vR o), l1, l2, l3, l4] st T σ K ↔ Rn 150 1 [some (vR o), l1, l2, l3, l4] (vR o :: st) T σ K := R_aload_n (n := 0) (by decide +kernel) rfl
theorem s150_1 : Rn 150 1 L st T σ K ↔ Rn 150 2 L (vI 3 :: st) T σ K := R_iconst (n := 3) (by decide +kernel) (by decide)
theorem s150_2 : Rn 150 2 L (vI a :: vR o :: st) T σ K ↔ (sx_kd T o = 8 ∧ st.length ≤ 4) ∧ Rn 151 0 [some (vR o), some (vI a)] [] T σ (fun r T' σ' => Rn 150 5 L (sx_push r st) T' σ' K) := R_V (cm := 151) (n := 1) (idx := 363) (ci := 8) (mx := 2) (vs := [vI a]) (by decide +kernel) (by decide +kernel) rfl (by decide +kernel) rfl (by decide +kernel) (by decide +kernel)
theorem s150_5 : Rn 150 5 L st T σ K ↔ Rn 150 6 L (vI 2 :: st) T σ K := R_iconst (n := 2) (by decide +kernel) (by decide)
theorem s150_6 : Rn 150 6 L (vI b :: vI a :: st) T σ K ↔ (b ≤ a → Rn 150 69 L st T σ K) ∧ (a < b → Rn 150 9 L st T σ K) := R_icmp_ge (off := 63) (by decide +kernel) (by decide)
theorem s150_9 : Rn 150 9 [some (vR o), l1, l2, l3, l4] st T σ K ↔ Rn 150 10 [some (vR o), l1, l2, l3, l4] (vR o :: st) T σ K := R_aload_n (n := 0) (by decide +kernel) rfl
theorem s150_10 : Rn 150 10 L st T σ K ↔ Rn 150 13 L (vI 256 :: st) T σ K := R_sipush (n := 256) (by decide +kernel) (by decide +kernel)
theorem s150_13 : Rn 150 13 L (vI a :: vR o :: st) T σ K ↔ (sx_kd T o = 8 ∧ st.length ≤ 4) ∧ Rn 151 0 [some (vR o), some (vI a)] [] T σ (fun r T' σ' => Rn 150 16 L (sx_push r st) T' σ' K) := R_V (cm := 151) (n := 1) (idx := 363) (ci := 8) (mx := 2) (vs := [vI a]) (by decide +kernel) (by decide +kernel) rfl (by decide +kernel) rfl (by decide +kernel) (by decide +kernel)
theorem s150_16 : Rn 150 16 [l0, l1, l2, l3, l4] (vI a :: st) T σ K ↔ Rn 150 17 [l0, some (vI a), l2, l3, l4] st T σ K := R_istore_n (n := 1) (by decide +kernel) rfl
theorem s150_17 : Rn 150 17 [some (vR o), l1, l2, l3, l4] st T σ K ↔ Rn 150 18 [some (vR o), l1, l2, l3, l4] (vR o :: st) T σ K := R_aload_n (n := 0) (by decide +kernel) rfl
theorem s150_18 : Rn 150 18 L st T σ K ↔ Rn 150 21 L (vI 256 :: st) T σ K := R_sipush (n := 256) (by decide +kernel) (by decide +kernel)
theorem s150_21 : Rn 150 21 L (vI a :: vR o :: st) T σ K ↔ (sx_kd T o = 8 ∧ st.length ≤ 4) ∧ Rn 151 0 [some (vR o), some (vI a)] [] T σ (fun r T' σ' => Rn 150 24 L (sx_push r st) T' σ' K) := R_V (cm := 151) (n := 1) (idx := 363) (ci := 8) (mx := 2) (vs := [vI a]) (by decide +kernel) (by decide +kernel) rfl (by decide +kernel) rfl (by decide +kernel) (by decide +kernel)
theorem s150_24 : Rn 150 24 [l0, l1, l2, l3, l4] (vI a :: st) T σ K ↔ Rn 150 25 [l0, l1, some (vI a), l3, l4] st T σ K := R_istore_n (n := 2) (by decide +kernel) rfl
theorem s150_25 : Rn 150 25 [some (vR o), l1, l2, l3, l4] st T σ K ↔ Rn 150 26 [some (vR o), l1, l2, l3, l4] (vR o :: st) T σ K := R_aload_n (n := 0) (by decide +kernel) rfl
theorem s150_26 : Rn 150 26 L st T σ K ↔ Rn 150 29 L (vI 256 :: st) T σ K := R_sipush (n := 256) (by decide +kernel) (by decide +kernel)
theorem s150_29 : Rn 150 29 L (vI a :: vR o :: st) T σ K ↔ (sx_kd T o = 8 ∧ st.length ≤ 4) ∧ Rn 151 0 [some (vR o), some (vI a)] [] T σ (fun r T' σ' => Rn 150 32 L (sx_push r st) T' σ' K) := R_V (cm := 151) (n := 1) (idx := 363) (ci := 8) (mx := 2) (vs := [vI a]) (by decide +kernel) (by decide +kernel) rfl (by decide +kernel) rfl (by decide +kernel) (by decide +kernel)
theorem s150_32 : Rn 150 32 [l0, l1, l2, l3, l4] (vI a :: st) T σ K ↔ Rn 150 33 [l0, l1, l2, some (vI a), l4] st T σ K := R_istore_n (n := 3) (by decide +kernel) rfl
theorem s150_33 : Rn 150 33 [l0, some (vI a), l2, l3, l4] st T σ K ↔ Rn 150 34 [l0, some (vI a), l2, l3, l4] (vI a :: st) T σ K := R_iload_n (n := 1) (by decide +kernel) rfl
theorem s150_34 : Rn 150 34 [l0, l1, some (vI a), l3, l4] st T σ K ↔ Rn 150 35 [l0, l1, some (vI a), l3, l4] (vI a :: st) T σ K := R_iload_n (n := 2) (by decide +kernel) rfl
theorem s150_35 : Rn 150 35 [l0, l1, l2, some (vI a), l4] st T σ K ↔ Rn 150 36 [l0, l1, l2, some (vI a), l4] (vI a :: st) T σ K := R_iload_n (n := 3) (by decide +kernel) rfl
theorem s150_36 : Rn 150 36 L (vI c :: vI b :: vI a :: st) T σ K ↔ st.length ≤ 4 ∧ Rn 33 0 [some (vI a), some (vI b), some (vI c)] [] T σ (fun r T' σ' => Rn 150 39 L (sx_push r st) T' σ' K) := R_S (cm := 33) (n := 3) (idx := 169) (mx := 3) (vs := [vI a, vI b, vI c]) (by decide +kernel) (Or.inl (by decide +kernel)) rfl (by decide +kernel) rfl (by decide +kernel)
theorem s150_39 : Rn 150 39 [l0, l1, l2, l3, l4] (vI a :: st) T σ K ↔ Rn 150 41 [l0, l1, l2, l3, some (vI a)] st T σ K := R_istore (n := 4) (by decide +kernel) rfl
theorem s150_41 : Rn 150 41 [some (vR o), l1, l2, l3, l4] st T σ K ↔ Rn 150 42 [some (vR o), l1, l2, l3, l4] (vR o :: st) T σ K := R_aload_n (n := 0) (by decide +kernel) rfl
theorem s150_42 : Rn 150 42 [l0, l1, l2, l3, some (vI a)] st T σ K ↔ Rn 150 44 [l0, l1, l2, l3, some (vI a)] (vI a :: st) T σ K := R_iload (n := 4) (by decide +kernel) rfl
theorem s150_44 : Rn 150 44 L (vI a :: vR o :: st) T σ K ↔ (sx_kd T o = 8 ∧ st.length ≤ 4) ∧ Rn 123 0 [some (vR o), some (vI a)] [] T σ (fun r T' σ' => Rn 150 47 L (sx_push r st) T' σ' K) := R_V (cm := 123) (n := 1) (idx := 313) (ci := 8) (mx := 2) (vs := [vI a]) (by decide +kernel) (by decide +kernel) rfl (by decide +kernel) rfl (by decide +kernel) (by decide +kernel)
theorem s150_47 : Rn 150 47 L (vI a :: st) T σ K ↔ (a = 0 → Rn 150 66 L st T σ K) ∧ (a ≠ 0 → Rn 150 50 L st T σ K) := R_if_eq (off := 19) (by decide +kernel) (by decide)
theorem s150_50 : Rn 150 50 [some (vR o), l1, l2, l3, l4] st T σ K ↔ Rn 150 51 [some (vR o), l1, l2, l3, l4] (vR o :: st) T σ K := R_aload_n (n := 0) (by decide +kernel) rfl
theorem s150_51 : Rn 150 51 L (vR o :: st) T σ K ↔ sx_kd T o = 8 ∧ ∃ t, sx_rf T o 2 = some t ∧ Rn 150 54 L (vR t :: st) T σ K := R_getR (idx := 28) (ci := 8) (k := 2) (by decide +kernel) (by decide +kernel) rfl
theorem s150_54 : Rn 150 54 [some (vR o), l1, l2, l3, l4] st T σ K ↔ Rn 150 55 [some (vR o), l1, l2, l3, l4] (vR o :: st) T σ K := R_aload_n (n := 0) (by decide +kernel) rfl
theorem s150_55 : Rn 150 55 L (vR o :: st) T σ K ↔ sx_kd T o = 8 ∧ ∃ t, sx_rf T o 2 = some t ∧ Rn 150 58 L (vR t :: st) T σ K := R_getR (idx := 28) (ci := 8) (k := 2) (by decide +kernel) (by decide +kernel) rfl
theorem s150_58 : Rn 150 58 L (vR o :: st) T σ K ↔ (sx_kd T o = 2 ∧ st.length ≤ 4) ∧ Rn 143 0 [some (vR o), none] [] T σ (fun r T' σ' => Rn 150 61 L (sx_push r st) T' σ' K) := R_V (cm := 143) (n := 0) (idx := 354) (ci := 2) (mx := 2) (vs := []) (by decide +kernel) (by decide +kernel) rfl (by decide +kernel) rfl (by decide +kernel) (by decide +kernel)
theorem s150_61 : Rn 150 61 [l0, l1, l2, l3, some (vI a)] st T σ K ↔ Rn 150 63 [l0, l1, l2, l3, some (vI a)] (vI a :: st) T σ K := R_iload (n := 4) (by decide +kernel) rfl
theorem s150_63 : Rn 150 63 L (vI b :: vI a :: vR o :: st) T σ K ↔ (sx_kd T o = 2 ∧ st.length ≤ 4) ∧ Rn 36 0 [some (vR o), some (vI a), some (vI b)] [] T σ (fun r T' σ' => Rn 150 66 L (sx_push r st) T' σ' K) := R_V (cm := 36) (n := 2) (idx := 114) (ci := 2) (mx := 3) (vs := [vI a, vI b]) (by decide +kernel) (by decide +kernel) rfl (by decide +kernel) rfl (by decide +kernel) (by decide +kernel)
theorem s150_66 : Rn 150 66 L st T σ K ↔ Rn 150 101 L st T σ K := R_goto (off := 35) (by decide +kernel) (by decide)
theorem s150_69 : Rn 150 69 [some (vR o), l1, l2, l3, l4] st T σ K ↔ Rn 150 70 [some (vR o), l1, l2, l3, l4] (vR o :: st) T σ K := R_aload_n (n := 0) (by decide +kernel) rfl
theorem s150_70 : Rn 150 70 L st T σ K ↔ Rn 150 71 L (vI 1 :: st) T σ K := R_iconst (n := 1) (by decide +kernel) (by decide)
theorem s150_71 : Rn 150 71 [some (vR o), l1, l2, l3, l4] st T σ K ↔ Rn 150 72 [some (vR o), l1, l2, l3, l4] (vR o :: st) T σ K := R_aload_n (n := 0) (by decide +kernel) rfl
theorem s150_72 : Rn 150 72 L (vR o :: st) T σ K ↔ sx_kd T o = 8 ∧ ∃ t, sx_rf T o 2 = some t ∧ Rn 150 75 L (vR t :: st) T σ K := R_getR (idx := 28) (ci := 8) (k := 2) (by decide +kernel) (by decide +kernel) rfl
theorem s150_75 : Rn 150 75 L (vR o :: st) T σ K ↔ sx_kd T o = 2 ∧ Rn 150 78 L (vI (σ o 6) :: st) T σ K := R_getI (idx := 135) (ci := 2) (k := 6) (by decide +kernel) (by decide +kernel) (Or.inl rfl)
theorem s150_78 : Rn 150 78 L (vI b :: vI a :: st) T σ K ↔ st.length ≤ 4 ∧ Rn 150 81 L (vI (max a b) :: st) T σ K := R_max (idx := 366) (by decide +kernel) (by decide +kernel) (by decide +kernel) (by decide +kernel)
theorem s150_81 : Rn 150 81 L (vI a :: vR o :: st) T σ K ↔ (sx_kd T o = 8 ∧ st.length ≤ 4) ∧ Rn 151 0 [some (vR o), some (vI a)] [] T σ (fun r T' σ' => Rn 150 84 L (sx_push r st) T' σ' K) := R_V (cm := 151) (n := 1) (idx := 363) (ci := 8) (mx := 2) (vs := [vI a]) (by decide +kernel) (by decide +kernel) rfl (by decide +kernel) rfl (by decide +kernel) (by decide +kernel)
theorem s150_84 : Rn 150 84 [l0, l1, l2, l3, l4] (vI a :: st) T σ K ↔ Rn 150 85 [l0, some (vI a), l2, l3, l4] st T σ K := R_istore_n (n := 1) (by decide +kernel) rfl
theorem s150_85 : Rn 150 85 [some (vR o), l1, l2, l3, l4] st T σ K ↔ Rn 150 86 [some (vR o), l1, l2, l3, l4] (vR o :: st) T σ K := R_aload_n (n := 0) (by decide +kernel) rfl
theorem s150_86 : Rn 150 86 L (vR o :: st) T σ K ↔ sx_kd T o = 8 ∧ ∃ t, sx_rf T o 2 = some t ∧ Rn 150 89 L (vR t :: st) T σ K := R_getR (idx := 28) (ci := 8) (k := 2) (by decide +kernel) (by decide +kernel) rfl
theorem s150_89 : Rn 150 89 [some (vR o), l1, l2, l3, l4] st T σ K ↔ Rn 150 90 [some (vR o), l1, l2, l3, l4] (vR o :: st) T σ K := R_aload_n (n := 0) (by decide +kernel) rfl
theorem s150_90 : Rn 150 90 L (vR o :: st) T σ K ↔ sx_kd T o = 8 ∧ ∃ t, sx_rf T o 2 = some t ∧ Rn 150 93 L (vR t :: st) T σ K := R_getR (idx := 28) (ci := 8) (k := 2) (by decide +kernel) (by decide +kernel) rfl
theorem s150_93 : Rn 150 93 L st T σ K ↔ Rn 150 94 L (vI 0 :: st) T σ K := R_iconst (n := 0) (by decide +kernel) (by decide)
theorem s150_94 : Rn 150 94 [l0, some (vI a), l2, l3, l4] st T σ K ↔ Rn 150 95 [l0, some (vI a), l2, l3, l4] (vI a :: st) T σ K := R_iload_n (n := 1) (by decide +kernel) rfl
theorem s150_95 : Rn 150 95 L (vI b :: vI a :: vR o :: st) T σ K ↔ (sx_kd T o = 2 ∧ st.length ≤ 4) ∧ Rn 66 0 [some (vR o), some (vI a), some (vI b), none, none] [] T σ (fun r T' σ' => Rn 150 98 L (sx_push r st) T' σ' K) := R_V (cm := 66) (n := 2) (idx := 189) (ci := 2) (mx := 5) (vs := [vI a, vI b]) (by decide +kernel) (by decide +kernel) rfl (by decide +kernel) rfl (by decide +kernel) (by decide +kernel)
theorem s150_98 : Rn 150 98 L (vI a :: vR o :: st) T σ K ↔ (sx_kd T o = 2 ∧ st.length ≤ 4) ∧ Rn 126 0 [some (vR o), some (vI a), none, none] [] T σ (fun r T' σ' => Rn 150 101 L (sx_push r st) T' σ' K) := R_V (cm := 126) (n := 1) (idx := 325) (ci := 2) (mx := 4) (vs := [vI a]) (by decide +kernel) (by decide +kernel) rfl (by decide +kernel) rfl (by decide +kernel) (by decide +kernel)
theorem s150_101 : Rn 150 101 L [] T σ K ↔ K none T σ := R_retV (by decide +kernel) (by decide +kernel)
theorem s151_0 : Rn 151 0 [some (vR o), l1] st T σ K ↔ Rn 151 1 [some (vR o), l1] (vR o :: st) T σ K := R_aload_n (n := 0) (by decide +kernel) rfl
theorem s151_1 : Rn 151 1 L st T σ K ↔ Rn 151 4 L (vJ 1103515245 :: st) T σ K := R_ldc2 (idx := 371) (v := 1103515245) (by decide +kernel) (by decide +kernel) (by decide) rfl
theorem s151_4 : Rn 151 4 [some (vR o), l1] st T σ K ↔ Rn 151 5 [some (vR o), l1] (vR o :: st) T σ K := R_aload_n (n := 0) (by decide +kernel) rfl
theorem s151_5 : Rn 151 5 L (vR o :: st) T σ K ↔ sx_kd T o = 8 ∧ Rn 151 8 L (vJ (σ o 11) :: st) T σ K := R_getJ (idx := 81) (ci := 8) (k := 11) (by decide +kernel) (by decide +kernel) rfl
theorem s151_8 : Rn 151 8 L (vJ b :: vJ a :: st) T σ K ↔ inJ (a * b) ∧ Rn 151 9 L (vJ (a * b) :: st) T σ K := R_lmul (by decide +kernel)
theorem s151_9 : Rn 151 9 L st T σ K ↔ Rn 151 12 L (vJ 12345 :: st) T σ K := R_ldc2 (idx := 373) (v := 12345) (by decide +kernel) (by decide +kernel) (by decide) rfl
theorem s151_12 : Rn 151 12 L (vJ b :: vJ a :: st) T σ K ↔ inJ (a + b) ∧ Rn 151 13 L (vJ (a + b) :: st) T σ K := R_ladd (by decide +kernel)
theorem s151_13 : Rn 151 13 L st T σ K ↔ Rn 151 16 L (vJ 2147483647 :: st) T σ K := R_ldc2 (idx := 375) (v := 2147483647) (by decide +kernel) (by decide +kernel) (by decide) rfl
theorem s151_16 : Rn 151 16 L (vJ b :: vJ a :: st) T σ K ↔ inJ (sx_land a b) ∧ Rn 151 17 L (vJ (sx_land a b) :: st) T σ K := R_land (by decide +kernel)
theorem s151_17 : Rn 151 17 L (vJ a :: vR o :: st) T σ K ↔ (sx_kd T o = 8 ∧ inI a) ∧ Rn 151 20 L st T (sx_up σ o 11 a) K := R_putJ (idx := 81) (ci := 8) (k := 11) (by decide +kernel) (by decide +kernel) rfl rfl
theorem s151_20 : Rn 151 20 [l0, some (vI a)] st T σ K ↔ Rn 151 21 [l0, some (vI a)] (vI a :: st) T σ K := R_iload_n (n := 1) (by decide +kernel) rfl
theorem s151_21 : Rn 151 21 L st T σ K ↔ Rn 151 22 L (vI 1 :: st) T σ K := R_iconst (n := 1) (by decide +kernel) (by decide)
theorem s151_22 : Rn 151 22 L (vI b :: vI a :: st) T σ K ↔ (b ≤ a → Rn 151 29 L st T σ K) ∧ (a < b → Rn 151 25 L st T σ K) := R_icmp_ge (off := 7) (by decide +kernel) (by decide)
theorem s151_25 : Rn 151 25 L st T σ K ↔ Rn 151 26 L (vI 0 :: st) T σ K := R_iconst (n := 0) (by decide +kernel) (by decide)
theorem s151_26 : Rn 151 26 L st T σ K ↔ Rn 151 40 L st T σ K := R_goto (off := 14) (by decide +kernel) (by decide)
theorem s151_29 : Rn 151 29 [some (vR o), l1] st T σ K ↔ Rn 151 30 [some (vR o), l1] (vR o :: st) T σ K := R_aload_n (n := 0) (by decide +kernel) rfl
theorem s151_30 : Rn 151 30 L (vR o :: st) T σ K ↔ sx_kd T o = 8 ∧ Rn 151 33 L (vJ (σ o 11) :: st) T σ K := R_getJ (idx := 81) (ci := 8) (k := 11) (by decide +kernel) (by decide +kernel) rfl
theorem s151_33 : Rn 151 33 L st T σ K ↔ Rn 151 35 L (vI 6 :: st) T σ K := R_bipush (n := 6) (by decide +kernel) (by decide +kernel)
theorem s151_35 : Rn 151 35 L (vI b :: vJ a :: st) T σ K ↔ (0 ≤ b ∧ b ≤ 31) ∧ Rn 151 36 L (vJ (a / 2 ^ b.toNat) :: st) T σ K := R_lshr (by decide +kernel)
theorem s151_36 : Rn 151 36 [l0, some (vI a)] st T σ K ↔ Rn 151 37 [l0, some (vI a)] (vI a :: st) T σ K := R_iload_n (n := 1) (by decide +kernel) rfl
theorem s151_37 : Rn 151 37 L (vI a :: st) T σ K ↔ Rn 151 38 L (vJ a :: st) T σ K := R_i2l (by decide +kernel)
theorem s151_38 : Rn 151 38 L (vJ b :: vJ a :: st) T σ K ↔ 0 < b ∧ inJ (a.tmod b) ∧ Rn 151 39 L (vJ (a.tmod b) :: st) T σ K := R_lrem (by decide +kernel)
theorem s151_39 : Rn 151 39 L (vJ a :: st) T σ K ↔ inI a ∧ Rn 151 40 L (vI a :: st) T σ K := R_l2i (by decide +kernel)
theorem s151_40 : Rn 151 40 L [vI a] T σ K ↔ K (some (vI a)) T σ := R_ret (by decide +kernel) (by decide +kernel)
theorem s152_0 : Rn 152 0 [some (vR o)] st T σ K ↔ Rn 152 1 [some (vR o)] (vR o :: st) T σ K := R_aload_n (n := 0) (by decide +kernel) rfl
theorem s152_1 : Rn 152 1 L (vR o :: st) T σ K ↔ sx_kd T o = 8 ∧ ∃ t, sx_rf T o 4 = some t ∧ Rn 152 4 L (vR t :: st) T σ K := R_getR (idx := 38) (ci := 8) (k := 4) (by decide +kernel) (by decide +kernel) rfl
theorem s152_4 : Rn 152 4 L (vR o :: st) T σ K ↔ sx_kd T o = 0 ∧ Rn 152 7 L (vI (σ o 2) :: st) T σ K := R_getI (idx := 143) (ci := 0) (k := 2) (by decide +kernel) (by decide +kernel) (Or.inl rfl)
theorem s152_7 : Rn 152 7 L (vI a :: st) T σ K ↔ (a ≠ 0 → Rn 152 18 L st T σ K) ∧ (a = 0 → Rn 152 10 L st T σ K) := R_if_ne (off := 11) (by decide +kernel) (by decide)
theorem s152_10 : Rn 152 10 [some (vR o)] st T σ K ↔ Rn 152 11 [some (vR o)] (vR o :: st) T σ K := R_aload_n (n := 0) (by decide +kernel) rfl
theorem s152_11 : Rn 152 11 L st T σ K ↔ Rn 152 12 L (vI 4 :: st) T σ K := R_iconst (n := 4) (by decide +kernel) (by decide)
theorem s152_12 : Rn 152 12 L (vI a :: vR o :: st) T σ K ↔ (sx_kd T o = 8 ∧ st.length ≤ 4) ∧ Rn 12 0 [some (vR o), some (vI a)] [] T σ (fun r T' σ' => Rn 152 15 L (sx_push r st) T' σ' K) := R_V (cm := 12) (n := 1) (idx := 89) (ci := 8) (mx := 2) (vs := [vI a]) (by decide +kernel) (by decide +kernel) rfl (by decide +kernel) rfl (by decide +kernel) (by decide +kernel)
theorem s152_15 : Rn 152 15 L (vI a :: st) T σ K ↔ Rn 152 16 L st T σ K := R_pop (v := vI a) (by decide +kernel) rfl
theorem s152_16 : Rn 152 16 L st T σ K ↔ Rn 152 17 L (vI 0 :: st) T σ K := R_iconst (n := 0) (by decide +kernel) (by decide)
theorem s152_17 : Rn 152 17 L [vI a] T σ K ↔ (a = 0 ∨ a = 1) ∧ K (some (vI a)) T σ := R_retZ (by decide +kernel) (by decide +kernel)
theorem s152_18 : Rn 152 18 [some (vR o)] st T σ K ↔ Rn 152 19 [some (vR o)] (vR o :: st) T σ K := R_aload_n (n := 0) (by decide +kernel) rfl
theorem s152_19 : Rn 152 19 L (vR o :: st) T σ K ↔ sx_kd T o = 8 ∧ ∃ t, sx_rf T o 4 = some t ∧ Rn 152 22 L (vR t :: st) T σ K := R_getR (idx := 38) (ci := 8) (k := 4) (by decide +kernel) (by decide +kernel) rfl
theorem s152_22 : Rn 152 22 [some (vR o)] st T σ K ↔ Rn 152 23 [some (vR o)] (vR o :: st) T σ K := R_aload_n (n := 0) (by decide +kernel) rfl
theorem s152_23 : Rn 152 23 L (vR o :: st) T σ K ↔ sx_kd T o = 8 ∧ ∃ t, sx_rf T o 2 = some t ∧ Rn 152 26 L (vR t :: st) T σ K := R_getR (idx := 28) (ci := 8) (k := 2) (by decide +kernel) (by decide +kernel) rfl
theorem s152_26 : Rn 152 26 L (vR p :: vR o :: st) T σ K ↔ (sx_kd T o = 0 ∧ st.length ≤ 4) ∧ Rn 153 0 [some (vR o), some (vR p)] [] T σ (fun r T' σ' => Rn 152 29 L (sx_push r st) T' σ' K) := R_V (cm := 153) (n := 1) (idx := 377) (ci := 0) (mx := 2) (vs := [vR p]) (by decide +kernel) (by decide +kernel) rfl (by decide +kernel) rfl (by decide +kernel) (by decide +kernel)
theorem s152_29 : Rn 152 29 L st T σ K ↔ Rn 152 30 L (vI 1 :: st) T σ K := R_iconst (n := 1) (by decide +kernel) (by decide)
theorem s152_30 : Rn 152 30 L [vI a] T σ K ↔ (a = 0 ∨ a = 1) ∧ K (some (vI a)) T σ := R_retZ (by decide +kernel) (by decide +kernel)
theorem s153_0 : Rn 153 0 [some (vR o), l1] st T σ K ↔ Rn 153 1 [some (vR o), l1] (vR o :: st) T σ K := R_aload_n (n := 0) (by decide +kernel) rfl
theorem s153_1 : Rn 153 1 L (vR o :: st) T σ K ↔ sx_kd T o = 0 ∧ Rn 153 4 L (vI (σ o 2) :: st) T σ K := R_getI (idx := 24) (ci := 0) (k := 2) (by decide +kernel) (by decide +kernel) (Or.inl rfl)
theorem s153_4 : Rn 153 4 L (vI a :: st) T σ K ↔ (a ≤ 0 → Rn 153 52 L st T σ K) ∧ (0 < a → Rn 153 7 L st T σ K) := R_if_le (off := 48) (by decide +kernel) (by decide)
theorem s153_7 : Rn 153 7 [some (vR o), l1] st T σ K ↔ Rn 153 8 [some (vR o), l1] (vR o :: st) T σ K := R_aload_n (n := 0) (by decide +kernel) rfl
theorem s153_8 : Rn 153 8 [some (vR o), l1] st T σ K ↔ Rn 153 9 [some (vR o), l1] (vR o :: st) T σ K := R_aload_n (n := 0) (by decide +kernel) rfl
theorem s153_9 : Rn 153 9 L (vR o :: st) T σ K ↔ sx_kd T o = 0 ∧ Rn 153 12 L (vI (σ o 1) :: st) T σ K := R_getI (idx := 16) (ci := 0) (k := 1) (by decide +kernel) (by decide +kernel) (Or.inl rfl)
theorem s153_12 : Rn 153 12 L (vI a :: st) T σ K ↔ (a ≤ 0 → Rn 153 24 L st T σ K) ∧ (0 < a → Rn 153 15 L st T σ K) := R_if_le (off := 12) (by decide +kernel) (by decide)
theorem s153_15 : Rn 153 15 [some (vR o), l1] st T σ K ↔ Rn 153 16 [some (vR o), l1] (vR o :: st) T σ K := R_aload_n (n := 0) (by decide +kernel) rfl
theorem s153_16 : Rn 153 16 L (vR o :: st) T σ K ↔ sx_kd T o = 0 ∧ Rn 153 19 L (vI (σ o 1) :: st) T σ K := R_getI (idx := 16) (ci := 0) (k := 1) (by decide +kernel) (by decide +kernel) (Or.inl rfl)
theorem s153_19 : Rn 153 19 L st T σ K ↔ Rn 153 20 L (vI 1 :: st) T σ K := R_iconst (n := 1) (by decide +kernel) (by decide)
theorem s153_20 : Rn 153 20 L (vI b :: vI a :: st) T σ K ↔ inI (a - b) ∧ Rn 153 21 L (vI (a - b) :: st) T σ K := R_isub (by decide +kernel)
theorem s153_21 : Rn 153 21 L st T σ K ↔ Rn 153 26 L st T σ K := R_goto (off := 5) (by decide +kernel) (by decide)
theorem s153_24 : Rn 153 24 L st T σ K ↔ Rn 153 26 L (vI 19 :: st) T σ K := R_bipush (n := 19) (by decide +kernel) (by decide +kernel)
theorem s153_26 : Rn 153 26 L (vI a :: vR o :: st) T σ K ↔ sx_kd T o = 0 ∧ Rn 153 29 L st T (sx_up σ o 1 a) K := R_putI (idx := 16) (ci := 0) (k := 1) (by decide +kernel) (by decide +kernel) rfl rfl
theorem s153_29 : Rn 153 29 [l0, some (vR o)] st T σ K ↔ Rn 153 30 [l0, some (vR o)] (vR o :: st) T σ K := R_aload_n (n := 1) (by decide +kernel) rfl
theorem s153_30 : Rn 153 30 [some (vR o), l1] st T σ K ↔ Rn 153 31 [some (vR o), l1] (vR o :: st) T σ K := R_aload_n (n := 0) (by decide +kernel) rfl
theorem s153_31 : Rn 153 31 L (vR o :: st) T σ K ↔ sx_kd T o = 0 ∧ ∃ t, sx_rf T o 0 = some t ∧ Rn 153 34 L (vR t :: st) T σ K := R_getR (idx := 11) (ci := 0) (k := 0) (by decide +kernel) (by decide +kernel) rfl
theorem s153_34 : Rn 153 34 [some (vR o), l1] st T σ K ↔ Rn 153 35 [some (vR o), l1] (vR o :: st) T σ K := R_aload_n (n := 0) (by decide +kernel) rfl
theorem s153_35 : Rn 153 35 L (vR o :: st) T σ K ↔ sx_kd T o = 0 ∧ Rn 153 38 L (vI (σ o 1) :: st) T σ K := R_getI (idx := 16) (ci := 0) (k := 1) (by decide +kernel) (by decide +kernel) (Or.inl rfl)
theorem s153_38 : Rn 153 38 L (vI a :: vR o :: st) T σ K ↔ (sx_kd T o = 22 ∧ 0 ≤ a ∧ a < sx_ln T o) ∧ ∃ t, sx_rf T o a.toNat = some t ∧ Rn 153 39 L (vR t :: st) T σ K := R_aald (by decide +kernel)
theorem s153_39 : Rn 153 39 L (vR p :: vR o :: st) T σ K ↔ (sx_kd T o = 2 ∧ st.length ≤ 4) ∧ Rn 125 0 [some (vR o), some (vR p)] [] T σ (fun r T' σ' => Rn 153 42 L (sx_push r st) T' σ' K) := R_V (cm := 125) (n := 1) (idx := 20) (ci := 2) (mx := 2) (vs := [vR p]) (by decide +kernel) (by decide +kernel) rfl (by decide +kernel) rfl (by decide +kernel) (by decide +kernel)
theorem s153_42 : Rn 153 42 [some (vR o), l1] st T σ K ↔ Rn 153 43 [some (vR o), l1] (vR o :: st) T σ K := R_aload_n (n := 0) (by decide +kernel) rfl
theorem s153_43 : Rn 153 43 L (vR o :: st) T σ K ↔ Rn 153 44 L (vR o :: vR o :: st) T σ K := R_dup (v := vR o) (by decide +kernel) rfl
theorem s153_44 : Rn 153 44 L (vR o :: st) T σ K ↔ sx_kd T o = 0 ∧ Rn 153 47 L (vI (σ o 2) :: st) T σ K := R_getI (idx := 24) (ci := 0) (k := 2) (by decide +kernel) (by decide +kernel) (Or.inl rfl)
theorem s153_47 : Rn 153 47 L st T σ K ↔ Rn 153 48 L (vI 1 :: st) T σ K := R_iconst (n := 1) (by decide +kernel) (by decide)
theorem s153_48 : Rn 153 48 L (vI b :: vI a :: st) T σ K ↔ inI (a - b) ∧ Rn 153 49 L (vI (a - b) :: st) T σ K := R_isub (by decide +kernel)
theorem s153_49 : Rn 153 49 L (vI a :: vR o :: st) T σ K ↔ sx_kd T o = 0 ∧ Rn 153 52 L st T (sx_up σ o 2 a) K := R_putI (idx := 24) (ci := 0) (k := 2) (by decide +kernel) (by decide +kernel) rfl rfl
theorem s153_52 : Rn 153 52 L [] T σ K ↔ K none T σ := R_retV (by decide +kernel) (by decide +kernel)
theorem s154_0 : Rn 154 0 [l0, some (vI a)] st T σ K ↔ Rn 154 1 [l0, some (vI a)] (vI a :: st) T σ K := R_iload_n (n := 1) (by decide +kernel) rfl
theorem s154_1 : Rn 154 1 L (vI a :: st) T σ K ↔ (0 ≤ a → Rn 154 12 L st T σ K) ∧ (a < 0 → Rn 154 4 L st T σ K) := R_if_ge (off := 11) (by decide +kernel) (by decide)
theorem s154_4 : Rn 154 4 [some (vR o), l1] st T σ K ↔ Rn 154 5 [some (vR o), l1] (vR o :: st) T σ K := R_aload_n (n := 0) (by decide +kernel) rfl
theorem s154_5 : Rn 154 5 L st T σ K ↔ Rn 154 6 L (vI 5 :: st) T σ K := R_iconst (n := 5) (by decide +kernel) (by decide)
theorem s154_6 : Rn 154 6 L (vI a :: vR o :: st) T σ K ↔ (sx_kd T o = 8 ∧ st.length ≤ 4) ∧ Rn 12 0 [some (vR o), some (vI a)] [] T σ (fun r T' σ' => Rn 154 9 L (sx_push r st) T' σ' K) := R_V (cm := 12) (n := 1) (idx := 89) (ci := 8) (mx := 2) (vs := [vI a]) (by decide +kernel) (by decide +kernel) rfl (by decide +kernel) rfl (by decide +kernel) (by decide +kernel)
theorem s154_9 : Rn 154 9 L (vI a :: st) T σ K ↔ Rn 154 10 L st T σ K := R_pop (v := vI a) (by decide +kernel) rfl
theorem s154_10 : Rn 154 10 L st T σ K ↔ Rn 154 11 L (vI 0 :: st) T σ K := R_iconst (n := 0) (by decide +kernel) (by decide)
theorem s154_11 : Rn 154 11 L [vI a] T σ K ↔ (a = 0 ∨ a = 1) ∧ K (some (vI a)) T σ := R_retZ (by decide +kernel) (by decide +kernel)
theorem s154_12 : Rn 154 12 [some (vR o), l1] st T σ K ↔ Rn 154 13 [some (vR o), l1] (vR o :: st) T σ K := R_aload_n (n := 0) (by decide +kernel) rfl
theorem s154_13 : Rn 154 13 [l0, some (vI a)] st T σ K ↔ Rn 154 14 [l0, some (vI a)] (vI a :: st) T σ K := R_iload_n (n := 1) (by decide +kernel) rfl
theorem s154_14 : Rn 154 14 L (vI a :: st) T σ K ↔ Rn 154 15 L (vJ a :: st) T σ K := R_i2l (by decide +kernel)
theorem s154_15 : Rn 154 15 L (vJ a :: vR o :: st) T σ K ↔ (sx_kd T o = 8 ∧ inI a) ∧ Rn 154 18 L st T (sx_up σ o 11 a) K := R_putJ (idx := 81) (ci := 8) (k := 11) (by decide +kernel) (by decide +kernel) rfl rfl
theorem s154_18 : Rn 154 18 L st T σ K ↔ Rn 154 19 L (vI 1 :: st) T σ K := R_iconst (n := 1) (by decide +kernel) (by decide)
theorem s154_19 : Rn 154 19 L [vI a] T σ K ↔ (a = 0 ∨ a = 1) ∧ K (some (vI a)) T σ := R_retZ (by decide +kernel) (by decide +kernel)
theorem s155_0 : Rn 155 0 [some (vR o)] st T σ K ↔ Rn 155 1 [some (vR o)] (vR o :: st) T σ K := R_aload_n (n := 0) (by decide +kernel) rfl
theorem s155_1 : Rn 155 1 L (vR o :: st) T σ K ↔ sx_kd T o = 8 ∧ ∃ t, sx_rf T o 2 = some t ∧ Rn 155 4 L (vR t :: st) T σ K := R_getR (idx := 28) (ci := 8) (k := 2) (by decide +kernel) (by decide +kernel) rfl
theorem s155_4 : Rn 155 4 L (vR o :: st) T σ K ↔ sx_kd T o = 2 ∧ Rn 155 7 L (vI (σ o 4) :: st) T σ K := R_getI (idx := 107) (ci := 2) (k := 4) (by decide +kernel) (by decide +kernel) (Or.inl rfl)
theorem s155_7 : Rn 155 7 L st T σ K ↔ Rn 155 8 L (vI (-1) :: st) T σ K := R_iconst (n := -1) (by decide +kernel) (by decide)
theorem s155_8 : Rn 155 8 L (vI b :: vI a :: st) T σ K ↔ (a ≠ b → Rn 155 13 L st T σ K) ∧ (a = b → Rn 155 11 L st T σ K) := R_icmp_ne (off := 5) (by decide +kernel) (by decide)
theorem s155_11 : Rn 155 11 L st T σ K ↔ Rn 155 12 L (vI (-1) :: st) T σ K := R_iconst (n := -1) (by decide +kernel) (by decide)
theorem s155_12 : Rn 155 12 L [vI a] T σ K ↔ K (some (vI a)) T σ := R_ret (by decide +kernel) (by decide +kernel)
theorem s155_13 : Rn 155 13 [some (vR o)] st T σ K ↔ Rn 155 14 [some (vR o)] (vR o :: st) T σ K := R_aload_n (n := 0) (by decide +kernel) rfl
theorem s155_14 : Rn 155 14 L (vR o :: st) T σ K ↔ sx_kd T o = 8 ∧ ∃ t, sx_rf T o 9 = some t ∧ Rn 155 17 L (vR t :: st) T σ K := R_getR (idx := 73) (ci := 8) (k := 9) (by decide +kernel) (by decide +kernel) rfl
theorem s155_17 : Rn 155 17 [some (vR o)] st T σ K ↔ Rn 155 18 [some (vR o)] (vR o :: st) T σ K := R_aload_n (n := 0) (by decide +kernel) rfl
theorem s155_18 : Rn 155 18 L (vR o :: st) T σ K ↔ sx_kd T o = 8 ∧ ∃ t, sx_rf T o 2 = some t ∧ Rn 155 21 L (vR t :: st) T σ K := R_getR (idx := 28) (ci := 8) (k := 2) (by decide +kernel) (by decide +kernel) rfl
theorem s155_21 : Rn 155 21 L (vR p :: vR o :: st) T σ K ↔ (sx_kd T o = 1 ∧ st.length ≤ 4) ∧ Rn 156 0 [some (vR o), some (vR p), none, none] [] T σ (fun r T' σ' => Rn 155 24 L (sx_push r st) T' σ' K) := R_V (cm := 156) (n := 1) (idx := 380) (ci := 1) (mx := 4) (vs := [vR p]) (by decide +kernel) (by decide +kernel) rfl (by decide +kernel) rfl (by decide +kernel) (by decide +kernel)
theorem s155_24 : Rn 155 24 [some (vR o)] st T σ K ↔ Rn 155 25 [some (vR o)] (vR o :: st) T σ K := R_aload_n (n := 0) (by decide +kernel) rfl
theorem s155_25 : Rn 155 25 L (vR o :: st) T σ K ↔ sx_kd T o = 8 ∧ ∃ t, sx_rf T o 9 = some t ∧ Rn 155 28 L (vR t :: st) T σ K := R_getR (idx := 73) (ci := 8) (k := 9) (by decide +kernel) (by decide +kernel) rfl
theorem s155_28 : Rn 155 28 L (vR o :: st) T σ K ↔ sx_kd T o = 1 ∧ Rn 155 31 L (vI (σ o 1) :: st) T σ K := R_getI (idx := 383) (ci := 1) (k := 1) (by decide +kernel) (by decide +kernel) (Or.inl rfl)
theorem s155_31 : Rn 155 31 L [vI a] T σ K ↔ K (some (vI a)) T σ := R_ret (by decide +kernel) (by decide +kernel)
theorem s156_0 : Rn 156 0 [some (vR o), l1, l2, l3] st T σ K ↔ Rn 156 1 [some (vR o), l1, l2, l3] (vR o :: st) T σ K := R_aload_n (n := 0) (by decide +kernel) rfl
theorem s156_1 : Rn 156 1 L st T σ K ↔ Rn 156 2 L (vI 0 :: st) T σ K := R_iconst (n := 0) (by decide +kernel) (by decide)
theorem s156_2 : Rn 156 2 L (vI a :: vR o :: st) T σ K ↔ sx_kd T o = 1 ∧ Rn 156 5 L st T (sx_up σ o 1 a) K := R_putI (idx := 15) (ci := 1) (k := 1) (by decide +kernel) (by decide +kernel) rfl rfl
theorem s156_5 : Rn 156 5 [some (vR o), l1, l2, l3] st T σ K ↔ Rn 156 6 [some (vR o), l1, l2, l3] (vR o :: st) T σ K := R_aload_n (n := 0) (by decide +kernel) rfl
theorem s156_6 : Rn 156 6 [l0, some (vR o), l2, l3] st T σ K ↔ Rn 156 7 [l0, some (vR o), l2, l3] (vR o :: st) T σ K := R_aload_n (n := 1) (by decide +kernel) rfl
theorem s156_7 : Rn 156 7 L (vR o :: st) T σ K ↔ sx_kd T o = 2 ∧ Rn 156 10 L (vI (σ o 4) :: st) T σ K := R_getI (idx := 19) (ci := 2) (k := 4) (by decide +kernel) (by decide +kernel) (Or.inl rfl)
theorem s156_10 : Rn 156 10 L (vI a :: vR o :: st) T σ K ↔ (sx_kd T o = 1 ∧ st.length ≤ 4) ∧ Rn 157 0 [some (vR o), some (vI a)] [] T σ (fun r T' σ' => Rn 156 13 L (sx_push r st) T' σ' K) := R_V (cm := 157) (n := 1) (idx := 24) (ci := 1) (mx := 2) (vs := [vI a]) (by decide +kernel) (by decide +kernel) rfl (by decide +kernel) rfl (by decide +kernel) (by decide +kernel)
theorem s156_13 : Rn 156 13 [some (vR o), l1, l2, l3] st T σ K ↔ Rn 156 14 [some (vR o), l1, l2, l3] (vR o :: st) T σ K := R_aload_n (n := 0) (by decide +kernel) rfl
theorem s156_14 : Rn 156 14 [l0, some (vR o), l2, l3] st T σ K ↔ Rn 156 15 [l0, some (vR o), l2, l3] (vR o :: st) T σ K := R_aload_n (n := 1) (by decide +kernel) rfl
theorem s156_15 : Rn 156 15 L (vR o :: st) T σ K ↔ sx_kd T o = 2 ∧ Rn 156 18 L (vI (σ o 6) :: st) T σ K := R_getI (idx := 28) (ci := 2) (k := 6) (by decide +kernel) (by decide +kernel) (Or.inl rfl)
theorem s156_18 : Rn 156 18 L (vI a :: vR o :: st) T σ K ↔ (sx_kd T o = 1 ∧ st.length ≤ 4) ∧ Rn 157 0 [some (vR o), some (vI a)] [] T σ (fun r T' σ' => Rn 156 21 L (sx_push r st) T' σ' K) := R_V (cm := 157) (n := 1) (idx := 24) (ci := 1) (mx := 2) (vs := [vI a]) (by decide +kernel) (by decide +kernel) rfl (by decide +kernel) rfl (by decide +kernel) (by decide +kernel)
theorem s156_21 : Rn 156 21 L st T σ K ↔ Rn 156 22 L (vI 0 :: st) T σ K := R_iconst (n := 0) (by decide +kernel) (by decide)
theorem s156_22 : Rn 156 22 [l0, l1, l2, l3] (vI a :: st) T σ K ↔ Rn 156 23 [l0, l1, some (vI a), l3] st T σ K := R_istore_n (n := 2) (by decide +kernel) rfl
theorem s156_23 : Rn 156 23 [l0, l1, some (vI a), l3] st T σ K ↔ Rn 156 24 [l0, l1, some (vI a), l3] (vI a :: st) T σ K := R_iload_n (n := 2) (by decide +kernel) rfl
theorem s156_24 : Rn 156 24 L st T σ K ↔ Rn 156 26 L (vI 40 :: st) T σ K := R_bipush (n := 40) (by decide +kernel) (by decide +kernel)
theorem s156_26 : Rn 156 26 L (vI b :: vI a :: st) T σ K ↔ (b ≤ a → Rn 156 132 L st T σ K) ∧ (a < b → Rn 156 29 L st T σ K) := R_icmp_ge (off := 106) (by decide +kernel) (by decide)
theorem s156_29 : Rn 156 29 [l0, some (vR o), l2, l3] st T σ K ↔ Rn 156 30 [l0, some (vR o), l2, l3] (vR o :: st) T σ K := R_aload_n (n := 1) (by decide +kernel) rfl
theorem s156_30 : Rn 156 30 [l0, l1, some (vI a), l3] st T σ K ↔ Rn 156 31 [l0, l1, some (vI a), l3] (vI a :: st) T σ K := R_iload_n (n := 2) (by decide +kernel) rfl
theorem s156_31 : Rn 156 31 L (vI a :: vR o :: st) T σ K ↔ (sx_kd T o = 2 ∧ st.length ≤ 4) ∧ Rn 49 0 [some (vR o), some (vI a)] [] T σ (fun r T' σ' => Rn 156 34 L (sx_push r st) T' σ' K) := R_V (cm := 49) (n := 1) (idx := 31) (ci := 2) (mx := 2) (vs := [vI a]) (by decide +kernel) (by decide +kernel) rfl (by decide +kernel) rfl (by decide +kernel) (by decide +kernel)
theorem s156_34 : Rn 156 34 L (vI a :: st) T σ K ↔ (a = 0 → Rn 156 126 L st T σ K) ∧ (a ≠ 0 → Rn 156 37 L st T σ K) := R_if_eq (off := 92) (by decide +kernel) (by decide)
theorem s156_37 : Rn 156 37 [some (vR o), l1, l2, l3] st T σ K ↔ Rn 156 38 [some (vR o), l1, l2, l3] (vR o :: st) T σ K := R_aload_n (n := 0) (by decide +kernel) rfl
theorem s156_38 : Rn 156 38 [l0, l1, some (vI a), l3] st T σ K ↔ Rn 156 39 [l0, l1, some (vI a), l3] (vI a :: st) T σ K := R_iload_n (n := 2) (by decide +kernel) rfl
theorem s156_39 : Rn 156 39 L (vI a :: vR o :: st) T σ K ↔ (sx_kd T o = 1 ∧ st.length ≤ 4) ∧ Rn 157 0 [some (vR o), some (vI a)] [] T σ (fun r T' σ' => Rn 156 42 L (sx_push r st) T' σ' K) := R_V (cm := 157) (n := 1) (idx := 24) (ci := 1) (mx := 2) (vs := [vI a]) (by decide +kernel) (by decide +kernel) rfl (by decide +kernel) rfl (by decide +kernel) (by decide +kernel)
theorem s156_42 : Rn 156 42 [some (vR o), l1, l2, l3] st T σ K ↔ Rn 156 43 [some (vR o), l1, l2, l3] (vR o :: st) T σ K := R_aload_n (n := 0) (by decide +kernel) rfl
theorem s156_43 : Rn 156 43 [l0, some (vR o), l2, l3] st T σ K ↔ Rn 156 44 [l0, some (vR o), l2, l3] (vR o :: st) T σ K := R_aload_n (n := 1) (by decide +kernel) rfl
theorem s156_44 : Rn 156 44 L (vR o :: st) T σ K ↔ sx_kd T o = 2 ∧ ∃ t, sx_rf T o 0 = some t ∧ Rn 156 47 L (vR t :: st) T σ K := R_getR (idx := 35) (ci := 2) (k := 0) (by decide +kernel) (by decide +kernel) rfl
theorem s156_47 : Rn 156 47 [l0, l1, some (vI a), l3] st T σ K ↔ Rn 156 48 [l0, l1, some (vI a), l3] (vI a :: st) T σ K := R_iload_n (n := 2) (by decide +kernel) rfl
theorem s156_48 : Rn 156 48 L (vI a :: vR o :: st) T σ K ↔ (sx_kd T o = 20 ∧ 0 ≤ a ∧ a < sx_ln T o) ∧ Rn 156 49 L (vI (σ o a) :: st) T σ K := R_iald (by decide +kernel) (by decide)
theorem s156_49 : Rn 156 49 L st T σ K ↔ Rn 156 51 L (vI 16 :: st) T σ K := R_bipush (n := 16) (by decide +kernel) (by decide +kernel)
theorem s156_51 : Rn 156 51 L (vI b :: vI a :: st) T σ K ↔ (0 ≤ b ∧ b ≤ 31) ∧ inI (a / 2 ^ b.toNat) ∧ Rn 156 52 L (vI (a / 2 ^ b.toNat) :: st) T σ K := R_ishr (by decide +kernel)
theorem s156_52 : Rn 156 52 L st T σ K ↔ Rn 156 55 L (vI 255 :: st) T σ K := R_sipush (n := 255) (by decide +kernel) (by decide +kernel)
theorem s156_55 : Rn 156 55 L (vI b :: vI a :: st) T σ K ↔ Rn 156 56 L (vI (sx_and a b) :: st) T σ K := R_iand (by decide +kernel)
theorem s156_56 : Rn 156 56 L (vI a :: vR o :: st) T σ K ↔ (sx_kd T o = 1 ∧ st.length ≤ 4) ∧ Rn 157 0 [some (vR o), some (vI a)] [] T σ (fun r T' σ' => Rn 156 59 L (sx_push r st) T' σ' K) := R_V (cm := 157) (n := 1) (idx := 24) (ci := 1) (mx := 2) (vs := [vI a]) (by decide +kernel) (by decide +kernel) rfl (by decide +kernel) rfl (by decide +kernel) (by decide +kernel)
theorem s156_59 : Rn 156 59 [some (vR o), l1, l2, l3] st T σ K ↔ Rn 156 60 [some (vR o), l1, l2, l3] (vR o :: st) T σ K := R_aload_n (n := 0) (by decide +kernel) rfl
theorem s156_60 : Rn 156 60 [l0, some (vR o), l2, l3] st T σ K ↔ Rn 156 61 [l0, some (vR o), l2, l3] (vR o :: st) T σ K := R_aload_n (n := 1) (by decide +kernel) rfl
theorem s156_61 : Rn 156 61 L (vR o :: st) T σ K ↔ sx_kd T o = 2 ∧ ∃ t, sx_rf T o 0 = some t ∧ Rn 156 64 L (vR t :: st) T σ K := R_getR (idx := 35) (ci := 2) (k := 0) (by decide +kernel) (by decide +kernel) rfl
theorem s156_64 : Rn 156 64 [l0, l1, some (vI a), l3] st T σ K ↔ Rn 156 65 [l0, l1, some (vI a), l3] (vI a :: st) T σ K := R_iload_n (n := 2) (by decide +kernel) rfl
theorem s156_65 : Rn 156 65 L (vI a :: vR o :: st) T σ K ↔ (sx_kd T o = 20 ∧ 0 ≤ a ∧ a < sx_ln T o) ∧ Rn 156 66 L (vI (σ o a) :: st) T σ K := R_iald (by decide +kernel) (by decide)
theorem s156_66 : Rn 156 66 L st T σ K ↔ Rn 156 68 L (vI 8 :: st) T σ K := R_bipush (n := 8) (by decide +kernel) (by decide +kernel)
theorem s156_68 : Rn 156 68 L (vI b :: vI a :: st) T σ K ↔ (0 ≤ b ∧ b ≤ 31) ∧ inI (a / 2 ^ b.toNat) ∧ Rn 156 69 L (vI (a / 2 ^ b.toNat) :: st) T σ K := R_ishr (by decide +kernel)
theorem s156_69 : Rn 156 69 L st T σ K ↔ Rn 156 72 L (vI 255 :: st) T σ K := R_sipush (n := 255) (by decide +kernel) (by decide +kernel)
theorem s156_72 : Rn 156 72 L (vI b :: vI a :: st) T σ K ↔ Rn 156 73 L (vI (sx_and a b) :: st) T σ K := R_iand (by decide +kernel)
theorem s156_73 : Rn 156 73 L (vI a :: vR o :: st) T σ K ↔ (sx_kd T o = 1 ∧ st.length ≤ 4) ∧ Rn 157 0 [some (vR o), some (vI a)] [] T σ (fun r T' σ' => Rn 156 76 L (sx_push r st) T' σ' K) := R_V (cm := 157) (n := 1) (idx := 24) (ci := 1) (mx := 2) (vs := [vI a]) (by decide +kernel) (by decide +kernel) rfl (by decide +kernel) rfl (by decide +kernel) (by decide +kernel)
theorem s156_76 : Rn 156 76 [some (vR o), l1, l2, l3] st T σ K ↔ Rn 156 77 [some (vR o), l1, l2, l3] (vR o :: st) T σ K := R_aload_n (n := 0) (by decide +kernel) rfl
theorem s156_77 : Rn 156 77 [l0, some (vR o), l2, l3] st T σ K ↔ Rn 156 78 [l0, some (vR o), l2, l3] (vR o :: st) T σ K := R_aload_n (n := 1) (by decide +kernel) rfl
theorem s156_78 : Rn 156 78 L (vR o :: st) T σ K ↔ sx_kd T o = 2 ∧ ∃ t, sx_rf T o 0 = some t ∧ Rn 156 81 L (vR t :: st) T σ K := R_getR (idx := 35) (ci := 2) (k := 0) (by decide +kernel) (by decide +kernel) rfl
theorem s156_81 : Rn 156 81 [l0, l1, some (vI a), l3] st T σ K ↔ Rn 156 82 [l0, l1, some (vI a), l3] (vI a :: st) T σ K := R_iload_n (n := 2) (by decide +kernel) rfl
theorem s156_82 : Rn 156 82 L (vI a :: vR o :: st) T σ K ↔ (sx_kd T o = 20 ∧ 0 ≤ a ∧ a < sx_ln T o) ∧ Rn 156 83 L (vI (σ o a) :: st) T σ K := R_iald (by decide +kernel) (by decide)
theorem s156_83 : Rn 156 83 L st T σ K ↔ Rn 156 86 L (vI 255 :: st) T σ K := R_sipush (n := 255) (by decide +kernel) (by decide +kernel)
theorem s156_86 : Rn 156 86 L (vI b :: vI a :: st) T σ K ↔ Rn 156 87 L (vI (sx_and a b) :: st) T σ K := R_iand (by decide +kernel)
theorem s156_87 : Rn 156 87 L (vI a :: vR o :: st) T σ K ↔ (sx_kd T o = 1 ∧ st.length ≤ 4) ∧ Rn 157 0 [some (vR o), some (vI a)] [] T σ (fun r T' σ' => Rn 156 90 L (sx_push r st) T' σ' K) := R_V (cm := 157) (n := 1) (idx := 24) (ci := 1) (mx := 2) (vs := [vI a]) (by decide +kernel) (by decide +kernel) rfl (by decide +kernel) rfl (by decide +kernel) (by decide +kernel)
theorem s156_90 : Rn 156 90 [some (vR o), l1, l2, l3] st T σ K ↔ Rn 156 91 [some (vR o), l1, l2, l3] (vR o :: st) T σ K := R_aload_n (n := 0) (by decide +kernel) rfl
theorem s156_91 : Rn 156 91 [l0, some (vR o), l2, l3] st T σ K ↔ Rn 156 92 [l0, some (vR o), l2, l3] (vR o :: st) T σ K := R_aload_n (n := 1) (by decide +kernel) rfl
theorem s156_92 : Rn 156 92 L (vR o :: st) T σ K ↔ sx_kd T o = 2 ∧ ∃ t, sx_rf T o 1 = some t ∧ Rn 156 95 L (vR t :: st) T σ K := R_getR (idx := 38) (ci := 2) (k := 1) (by decide +kernel) (by decide +kernel) rfl
theorem s156_95 : Rn 156 95 [l0, l1, some (vI a), l3] st T σ K ↔ Rn 156 96 [l0, l1, some (vI a), l3] (vI a :: st) T σ K := R_iload_n (n := 2) (by decide +kernel) rfl
theorem s156_96 : Rn 156 96 L (vI a :: vR o :: st) T σ K ↔ (sx_kd T o = 20 ∧ 0 ≤ a ∧ a < sx_ln T o) ∧ Rn 156 97 L (vI (σ o a) :: st) T σ K := R_iald (by decide +kernel) (by decide)
theorem s156_97 : Rn 156 97 L (vI a :: vR o :: st) T σ K ↔ (sx_kd T o = 1 ∧ st.length ≤ 4) ∧ Rn 157 0 [some (vR o), some (vI a)] [] T σ (fun r T' σ' => Rn 156 100 L (sx_push r st) T' σ' K) := R_V (cm := 157) (n := 1) (idx := 24) (ci := 1) (mx := 2) (vs := [vI a]) (by decide +kernel) (by decide +kernel) rfl (by decide +kernel) rfl (by decide +kernel) (by decide +kernel)
theorem s156_100 : Rn 156 100 [some (vR o), l1, l2, l3] st T σ K ↔ Rn 156 101 [some (vR o), l1, l2, l3] (vR o :: st) T σ K := R_aload_n (n := 0) (by decide +kernel) rfl
theorem s156_101 : Rn 156 101 [l0, some (vR o), l2, l3] st T σ K ↔ Rn 156 102 [l0, some (vR o), l2, l3] (vR o :: st) T σ K := R_aload_n (n := 1) (by decide +kernel) rfl
theorem s156_102 : Rn 156 102 L (vR o :: st) T σ K ↔ sx_kd T o = 2 ∧ ∃ t, sx_rf T o 2 = some t ∧ Rn 156 105 L (vR t :: st) T σ K := R_getR (idx := 41) (ci := 2) (k := 2) (by decide +kernel) (by decide +kernel) rfl
theorem s156_105 : Rn 156 105 [l0, l1, some (vI a), l3] st T σ K ↔ Rn 156 106 [l0, l1, some (vI a), l3] (vI a :: st) T σ K := R_iload_n (n := 2) (by decide +kernel) rfl
theorem s156_106 : Rn 156 106 L (vI a :: vR o :: st) T σ K ↔ (sx_kd T o = 20 ∧ 0 ≤ a ∧ a < sx_ln T o) ∧ Rn 156 107 L (vI (σ o a) :: st) T σ K := R_iald (by decide +kernel) (by decide)
theorem s156_107 : Rn 156 107 L st T σ K ↔ Rn 156 108 L (vI (-1) :: st) T σ K := R_iconst (n := -1) (by decide +kernel) (by decide)
theorem s156_108 : Rn 156 108 L (vI b :: vI a :: st) T σ K ↔ (a ≠ b → Rn 156 117 L st T σ K) ∧ (a = b → Rn 156 111 L st T σ K) := R_icmp_ne (off := 9) (by decide +kernel) (by decide)
theorem s156_111 : Rn 156 111 L st T σ K ↔ Rn 156 114 L (vI 255 :: st) T σ K := R_sipush (n := 255) (by decide +kernel) (by decide +kernel)
theorem s156_114 : Rn 156 114 L st T σ K ↔ Rn 156 123 L st T σ K := R_goto (off := 9) (by decide +kernel) (by decide)
theorem s156_117 : Rn 156 117 [l0, some (vR o), l2, l3] st T σ K ↔ Rn 156 118 [l0, some (vR o), l2, l3] (vR o :: st) T σ K := R_aload_n (n := 1) (by decide +kernel) rfl
theorem s156_118 : Rn 156 118 L (vR o :: st) T σ K ↔ sx_kd T o = 2 ∧ ∃ t, sx_rf T o 2 = some t ∧ Rn 156 121 L (vR t :: st) T σ K := R_getR (idx := 41) (ci := 2) (k := 2) (by decide +kernel) (by decide +kernel) rfl
theorem s156_121 : Rn 156 121 [l0, l1, some (vI a), l3] st T σ K ↔ Rn 156 122 [l0, l1, some (vI a), l3] (vI a :: st) T σ K := R_iload_n (n := 2) (by decide +kernel) rfl
theorem s156_122 : Rn 156 122 L (vI a :: vR o :: st) T σ K ↔ (sx_kd T o = 20 ∧ 0 ≤ a ∧ a < sx_ln T o) ∧ Rn 156 123 L (vI (σ o a) :: st) T σ K := R_iald (by decide +kernel) (by decide)
theorem s156_123 : Rn 156 123 L (vI a :: vR o :: st) T σ K ↔ (sx_kd T o = 1 ∧ st.length ≤ 4) ∧ Rn 157 0 [some (vR o), some (vI a)] [] T σ (fun r T' σ' => Rn 156 126 L (sx_push r st) T' σ' K) := R_V (cm := 157) (n := 1) (idx := 24) (ci := 1) (mx := 2) (vs := [vI a]) (by decide +kernel) (by decide +kernel) rfl (by decide +kernel) rfl (by decide +kernel) (by decide +kernel)
theorem s156_126 : Rn 156 126 [l0, l1, some (vI a), l3] st T σ K ↔ inI (a + 1) ∧ Rn 156 129 [l0, l1, some (vI (a + 1)), l3] st T σ K := R_iinc (n := 2) (d := 1) (by decide +kernel) rfl
theorem s156_129 : Rn 156 129 L st T σ K ↔ Rn 156 23 L st T σ K := R_goto (off := -106) (by decide +kernel) (by decide)
theorem s156_132 : Rn 156 132 L st T σ K ↔ Rn 156 135 L (vI 149 :: st) T σ K := R_sipush (n := 149) (by decide +kernel) (by decide +kernel)
theorem s156_135 : Rn 156 135 [l0, l1, l2, l3] (vI a :: st) T σ K ↔ Rn 156 136 [l0, l1, some (vI a), l3] st T σ K := R_istore_n (n := 2) (by decide +kernel) rfl
theorem s156_136 : Rn 156 136 L st T σ K ↔ Rn 156 137 L (vI 0 :: st) T σ K := R_iconst (n := 0) (by decide +kernel) (by decide)
theorem s156_137 : Rn 156 137 [l0, l1, l2, l3] (vI a :: st) T σ K ↔ Rn 156 138 [l0, l1, l2, some (vI a)] st T σ K := R_istore_n (n := 3) (by decide +kernel) rfl
theorem s156_138 : Rn 156 138 [l0, l1, l2, some (vI a)] st T σ K ↔ Rn 156 139 [l0, l1, l2, some (vI a)] (vI a :: st) T σ K := R_iload_n (n := 3) (by decide +kernel) rfl
theorem s156_139 : Rn 156 139 [some (vR o), l1, l2, l3] st T σ K ↔ Rn 156 140 [some (vR o), l1, l2, l3] (vR o :: st) T σ K := R_aload_n (n := 0) (by decide +kernel) rfl
theorem s156_140 : Rn 156 140 L (vR o :: st) T σ K ↔ sx_kd T o = 1 ∧ Rn 156 143 L (vI (σ o 1) :: st) T σ K := R_getI (idx := 15) (ci := 1) (k := 1) (by decide +kernel) (by decide +kernel) (Or.inl rfl)
theorem s156_143 : Rn 156 143 L (vI b :: vI a :: st) T σ K ↔ (b ≤ a → Rn 156 163 L st T σ K) ∧ (a < b → Rn 156 146 L st T σ K) := R_icmp_ge (off := 20) (by decide +kernel) (by decide)
theorem s156_146 : Rn 156 146 [l0, l1, some (vI a), l3] st T σ K ↔ Rn 156 147 [l0, l1, some (vI a), l3] (vI a :: st) T σ K := R_iload_n (n := 2) (by decide +kernel) rfl
theorem s156_147 : Rn 156 147 [some (vR o), l1, l2, l3] st T σ K ↔ Rn 156 148 [some (vR o), l1, l2, l3] (vR o :: st) T σ K := R_aload_n (n := 0) (by decide +kernel) rfl
theorem s156_148 : Rn 156 148 L (vR o :: st) T σ K ↔ sx_kd T o = 1 ∧ ∃ t, sx_rf T o 0 = some t ∧ Rn 156 151 L (vR t :: st) T σ K := R_getR (idx := 11) (ci := 1) (k := 0) (by decide +kernel) (by decide +kernel) rfl
theorem s156_151 : Rn 156 151 [l0, l1, l2, some (vI a)] st T σ K ↔ Rn 156 152 [l0, l1, l2, some (vI a)] (vI a :: st) T σ K := R_iload_n (n := 3) (by decide +kernel) rfl
theorem s156_152 : Rn 156 152 L (vI a :: vR o :: st) T σ K ↔ (sx_kd T o = 20 ∧ 0 ≤ a ∧ a < sx_ln T o) ∧ Rn 156 153 L (vI (σ o a) :: st) T σ K := R_iald (by decide +kernel) (by decide)
theorem s156_153 : Rn 156 153 L (vI b :: vI a :: st) T σ K ↔ st.length ≤ 4 ∧ Rn 158 0 [some (vI a), some (vI b)] [] T σ (fun r T' σ' => Rn 156 156 L (sx_push r st) T' σ' K) := R_S (cm := 158) (n := 2) (idx := 44) (mx := 2) (vs := [vI a, vI b]) (by decide +kernel) (Or.inl (by decide +kernel)) rfl (by decide +kernel) rfl (by decide +kernel)
theorem s156_156 : Rn 156 156 [l0, l1, l2, l3] (vI a :: st) T σ K ↔ Rn 156 157 [l0, l1, some (vI a), l3] st T σ K := R_istore_n (n := 2) (by decide +kernel) rfl
theorem s156_157 : Rn 156 157 [l0, l1, l2, some (vI a)] st T σ K ↔ inI (a + 1) ∧ Rn 156 160 [l0, l1, l2, some (vI (a + 1))] st T σ K := R_iinc (n := 3) (d := 1) (by decide +kernel) rfl
theorem s156_160 : Rn 156 160 L st T σ K ↔ Rn 156 138 L st T σ K := R_goto (off := -22) (by decide +kernel) (by decide)
theorem s156_163 : Rn 156 163 [some (vR o), l1, l2, l3] st T σ K ↔ Rn 156 164 [some (vR o), l1, l2, l3] (vR o :: st) T σ K := R_aload_n (n := 0) (by decide +kernel) rfl
theorem s156_164 : Rn 156 164 [l0, l1, some (vI a), l3] st T σ K ↔ Rn 156 165 [l0, l1, some (vI a), l3] (vI a :: st) T σ K := R_iload_n (n := 2) (by decide +kernel) rfl
theorem s156_165 : Rn 156 165 L (vI a :: vR o :: st) T σ K ↔ (sx_kd T o = 1 ∧ st.length ≤ 4) ∧ Rn 157 0 [some (vR o), some (vI a)] [] T σ (fun r T' σ' => Rn 156 168 L (sx_push r st) T' σ' K) := R_V (cm := 157) (n := 1) (idx := 24) (ci := 1) (mx := 2) (vs := [vI a]) (by decide +kernel) (by decide +kernel) rfl (by decide +kernel) rfl (by decide +kernel) (by decide +kernel)
theorem s156_168 : Rn 156 168 L [] T σ K ↔ K none T σ := R_retV (by decide +kernel) (by decide +kernel)
theorem s157_0 : Rn 157 0 [some (vR o), l1] st T σ K ↔ Rn 157 1 [some (vR o), l1] (vR o :: st) T σ K := R_aload_n (n := 0) (by decide +kernel) rfl
theorem s157_1 : Rn 157 1 L (vR o :: st) T σ K ↔ sx_kd T o = 1 ∧ Rn 157 4 L (vI (σ o 1) :: st) T σ K := R_getI (idx := 15) (ci := 1) (k := 1) (by decide +kernel) (by decide +kernel) (Or.inl rfl)
theorem s157_4 : Rn 157 4 [some (vR o), l1] st T σ K ↔ Rn 157 5 [some (vR o), l1] (vR o :: st) T σ K := R_aload_n (n := 0) (by decide +kernel) rfl
theorem s157_5 : Rn 157 5 L (vR o :: st) T σ K ↔ sx_kd T o = 1 ∧ ∃ t, sx_rf T o 0 = some t ∧ Rn 157 8 L (vR t :: st) T σ K := R_getR (idx := 11) (ci := 1) (k := 0) (by decide +kernel) (by decide +kernel) rfl
theorem s157_8 : Rn 157 8 L (vR o :: st) T σ K ↔ (sx_kd T o = 20 ∨ sx_kd T o = 21) ∧ Rn 157 9 L (vI (sx_ln T o) :: st) T σ K := R_alen (by decide +kernel) (by decide)
theorem s157_9 : Rn 157 9 L (vI b :: vI a :: st) T σ K ↔ (b ≤ a → Rn 157 32 L st T σ K) ∧ (a < b → Rn 157 12 L st T σ K) := R_icmp_ge (off := 23) (by decide +kernel) (by decide)
theorem s157_12 : Rn 157 12 [some (vR o), l1] st T σ K ↔ Rn 157 13 [some (vR o), l1] (vR o :: st) T σ K := R_aload_n (n := 0) (by decide +kernel) rfl
theorem s157_13 : Rn 157 13 L (vR o :: st) T σ K ↔ sx_kd T o = 1 ∧ ∃ t, sx_rf T o 0 = some t ∧ Rn 157 16 L (vR t :: st) T σ K := R_getR (idx := 11) (ci := 1) (k := 0) (by decide +kernel) (by decide +kernel) rfl
theorem s157_16 : Rn 157 16 [some (vR o), l1] st T σ K ↔ Rn 157 17 [some (vR o), l1] (vR o :: st) T σ K := R_aload_n (n := 0) (by decide +kernel) rfl
theorem s157_17 : Rn 157 17 L (vR o :: st) T σ K ↔ sx_kd T o = 1 ∧ Rn 157 20 L (vI (σ o 1) :: st) T σ K := R_getI (idx := 15) (ci := 1) (k := 1) (by decide +kernel) (by decide +kernel) (Or.inl rfl)
theorem s157_20 : Rn 157 20 [l0, some (vI a)] st T σ K ↔ Rn 157 21 [l0, some (vI a)] (vI a :: st) T σ K := R_iload_n (n := 1) (by decide +kernel) rfl
theorem s157_21 : Rn 157 21 L (vI b :: vI a :: vR o :: st) T σ K ↔ (sx_kd T o = 20 ∧ 0 ≤ a ∧ a < sx_ln T o) ∧ Rn 157 22 L st T (sx_up σ o a b) K := R_iast (by decide +kernel)
theorem s157_22 : Rn 157 22 [some (vR o), l1] st T σ K ↔ Rn 157 23 [some (vR o), l1] (vR o :: st) T σ K := R_aload_n (n := 0) (by decide +kernel) rfl
theorem s157_23 : Rn 157 23 L (vR o :: st) T σ K ↔ Rn 157 24 L (vR o :: vR o :: st) T σ K := R_dup (v := vR o) (by decide +kernel) rfl
theorem s157_24 : Rn 157 24 L (vR o :: st) T σ K ↔ sx_kd T o = 1 ∧ Rn 157 27 L (vI (σ o 1) :: st) T σ K := R_getI (idx := 15) (ci := 1) (k := 1) (by decide +kernel) (by decide +kernel) (Or.inl rfl)
theorem s157_27 : Rn 157 27 L st T σ K ↔ Rn 157 28 L (vI 1 :: st) T σ K := R_iconst (n := 1) (by decide +kernel) (by decide)
theorem s157_28 : Rn 157 28 L (vI b :: vI a :: st) T σ K ↔ inI (a + b) ∧ Rn 157 29 L (vI (a + b) :: st) T σ K := R_iadd (by decide +kernel)
theorem s157_29 : Rn 157 29 L (vI a :: vR o :: st) T σ K ↔ sx_kd T o = 1 ∧ Rn 157 32 L st T (sx_up σ o 1 a) K := R_putI (idx := 15) (ci := 1) (k := 1) (by decide +kernel) (by decide +kernel) rfl rfl
theorem s157_32 : Rn 157 32 L [] T σ K ↔ K none T σ := R_retV (by decide +kernel) (by decide +kernel)
theorem s158_0 : Rn 158 0 L st T σ K ↔ Rn 158 1 L (vI 3 :: st) T σ K := R_iconst (n := 3) (by decide +kernel) (by decide)
theorem s158_1 : Rn 158 1 [some (vI a), l1] st T σ K ↔ Rn 158 2 [some (vI a), l1] (vI a :: st) T σ K := R_iload_n (n := 0) (by decide +kernel) rfl
theorem s158_2 : Rn 158 2 L (vI b :: vI a :: st) T σ K ↔ inI (a * b) ∧ Rn 158 3 L (vI (a * b) :: st) T σ K := R_imul (by decide +kernel)
theorem s158_3 : Rn 158 3 [l0, some (vI a)] st T σ K ↔ Rn 158 4 [l0, some (vI a)] (vI a :: st) T σ K := R_iload_n (n := 1) (by decide +kernel) rfl
theorem s158_4 : Rn 158 4 L (vI b :: vI a :: st) T σ K ↔ inI (a + b) ∧ Rn 158 5 L (vI (a + b) :: st) T σ K := R_iadd (by decide +kernel)
theorem s158_5 : Rn 158 5 L st T σ K ↔ Rn 158 8 L (vI 251 :: st) T σ K := R_sipush (n := 251) (by decide +kernel) (by decide +kernel)
theorem s158_8 : Rn 158 8 L (vI b :: vI a :: st) T σ K ↔ 0 < b ∧ inI (a.tmod b) ∧ Rn 158 9 L (vI (a.tmod b) :: st) T σ K := R_irem (by decide +kernel)
theorem s158_9 : Rn 158 9 L [vI a] T σ K ↔ K (some (vI a)) T σ := R_ret (by decide +kernel) (by decide +kernel)
theorem s159_0 : Rn 159 0 [l0, some (vI a)] st T σ K ↔ Rn 159 1 [l0, some (vI a)] (vI a :: st) T σ K := R_iload_n (n := 1) (by decide +kernel) rfl
theorem s159_1 : Rn 159 1 L (vI a :: st) T σ K ↔ (a < 0 → Rn 159 15 L st T σ K) ∧ (0 ≤ a → Rn 159 4 L st T σ K) := R_if_lt (off := 14) (by decide +kernel) (by decide)
theorem s159_4 : Rn 159 4 [l0, some (vI a)] st T σ K ↔ Rn 159 5 [l0, some (vI a)] (vI a :: st) T σ K := R_iload_n (n := 1) (by decide +kernel) rfl
theorem s159_5 : Rn 159 5 [some (vR o), l1] st T σ K ↔ Rn 159 6 [some (vR o), l1] (vR o :: st) T σ K := R_aload_n (n := 0) (by decide +kernel) rfl
theorem s159_6 : Rn 159 6 L (vR o :: st) T σ K ↔ sx_kd T o = 8 ∧ ∃ t, sx_rf T o 9 = some t ∧ Rn 159 9 L (vR t :: st) T σ K := R_getR (idx := 73) (ci := 8) (k := 9) (by decide +kernel) (by decide +kernel) rfl
theorem s159_9 : Rn 159 9 L (vR o :: st) T σ K ↔ sx_kd T o = 1 ∧ Rn 159 12 L (vI (σ o 1) :: st) T σ K := R_getI (idx := 383) (ci := 1) (k := 1) (by decide +kernel) (by decide +kernel) (Or.inl rfl)
theorem s159_12 : Rn 159 12 L (vI b :: vI a :: st) T σ K ↔ (a < b → Rn 159 19 L st T σ K) ∧ (b ≤ a → Rn 159 15 L st T σ K) := R_icmp_lt (off := 7) (by decide +kernel) (by decide)
theorem s159_15 : Rn 159 15 L st T σ K ↔ Rn 159 16 L (vI (-1) :: st) T σ K := R_iconst (n := -1) (by decide +kernel) (by decide)
theorem s159_16 : Rn 159 16 L st T σ K ↔ Rn 159 28 L st T σ K := R_goto (off := 12) (by decide +kernel) (by decide)
theorem s159_19 : Rn 159 19 [some (vR o), l1] st T σ K ↔ Rn 159 20 [some (vR o), l1] (vR o :: st) T σ K := R_aload_n (n := 0) (by decide +kernel) rfl
theorem s159_20 : Rn 159 20 L (vR o :: st) T σ K ↔ sx_kd T o = 8 ∧ ∃ t, sx_rf T o 9 = some t ∧ Rn 159 23 L (vR t :: st) T σ K := R_getR (idx := 73) (ci := 8) (k := 9) (by decide +kernel) (by decide +kernel) rfl
theorem s159_23 : Rn 159 23 L (vR o :: st) T σ K ↔ sx_kd T o = 1 ∧ ∃ t, sx_rf T o 0 = some t ∧ Rn 159 26 L (vR t :: st) T σ K := R_getR (idx := 384) (ci := 1) (k := 0) (by decide +kernel) (by decide +kernel) rfl
theorem s159_26 : Rn 159 26 [l0, some (vI a)] st T σ K ↔ Rn 159 27 [l0, some (vI a)] (vI a :: st) T σ K := R_iload_n (n := 1) (by decide +kernel) rfl
theorem s159_27 : Rn 159 27 L (vI a :: vR o :: st) T σ K ↔ (sx_kd T o = 20 ∧ 0 ≤ a ∧ a < sx_ln T o) ∧ Rn 159 28 L (vI (σ o a) :: st) T σ K := R_iald (by decide +kernel) (by decide)
theorem s159_28 : Rn 159 28 L [vI a] T σ K ↔ K (some (vI a)) T σ := R_ret (by decide +kernel) (by decide +kernel)
theorem s160_0 : Rn 160 0 [some (vR o), l1] st T σ K ↔ Rn 160 1 [some (vR o), l1] (vR o :: st) T σ K := R_aload_n (n := 0) (by decide +kernel) rfl
theorem s160_1 : Rn 160 1 L (vR o :: st) T σ K ↔ sx_kd T o = 8 ∧ ∃ t, sx_rf T o 2 = some t ∧ Rn 160 4 L (vR t :: st) T σ K := R_getR (idx := 28) (ci := 8) (k := 2) (by decide +kernel) (by decide +kernel) rfl
theorem s160_4 : Rn 160 4 L (vR o :: st) T σ K ↔ sx_kd T o = 2 ∧ Rn 160 7 L (vI (σ o 4) :: st) T σ K := R_getI (idx := 107) (ci := 2) (k := 4) (by decide +kernel) (by decide +kernel) (Or.inl rfl)
theorem s160_7 : Rn 160 7 L st T σ K ↔ Rn 160 8 L (vI (-1) :: st) T σ K := R_iconst (n := -1) (by decide +kernel) (by decide)
theorem s160_8 : Rn 160 8 L (vI b :: vI a :: st) T σ K ↔ (a = b → Rn 160 29 L st T σ K) ∧ (a ≠ b → Rn 160 11 L st T σ K) := R_icmp_eq (off := 21) (by decide +kernel) (by decide)
theorem s160_11 : Rn 160 11 [some (vR o), l1] st T σ K ↔ Rn 160 12 [some (vR o), l1] (vR o :: st) T σ K := R_aload_n (n := 0) (by decide +kernel) rfl
theorem s160_12 : Rn 160 12 L (vR o :: st) T σ K ↔ sx_kd T o = 8 ∧ ∃ t, sx_rf T o 3 = some t ∧ Rn 160 15 L (vR t :: st) T σ K := R_getR (idx := 32) (ci := 8) (k := 3) (by decide +kernel) (by decide +kernel) rfl
theorem s160_15 : Rn 160 15 [some (vR o), l1] st T σ K ↔ Rn 160 16 [some (vR o), l1] (vR o :: st) T σ K := R_aload_n (n := 0) (by decide +kernel) rfl
theorem s160_16 : Rn 160 16 L (vR o :: st) T σ K ↔ sx_kd T o = 8 ∧ ∃ t, sx_rf T o 0 = some t ∧ Rn 160 19 L (vR t :: st) T σ K := R_getR (idx := 10) (ci := 8) (k := 0) (by decide +kernel) (by decide +kernel) rfl
theorem s160_19 : Rn 160 19 L (vR q :: vR p :: st) T σ K ↔ st.length ≤ 4 ∧ Rn 161 0 [some (vR p), some (vR q), none, none, none, none, none] [] T σ (fun r T' σ' => Rn 160 22 L (sx_push r st) T' σ' K) := R_S (cm := 161) (n := 2) (idx := 387) (mx := 7) (vs := [vR p, vR q]) (by decide +kernel) (Or.inl (by decide +kernel)) rfl (by decide +kernel) rfl (by decide +kernel)
theorem s160_22 : Rn 160 22 L (vI a :: st) T σ K ↔ (a = 0 → Rn 160 29 L st T σ K) ∧ (a ≠ 0 → Rn 160 25 L st T σ K) := R_if_eq (off := 7) (by decide +kernel) (by decide)
theorem s160_25 : Rn 160 25 L st T σ K ↔ Rn 160 26 L (vI 1 :: st) T σ K := R_iconst (n := 1) (by decide +kernel) (by decide)
theorem s160_26 : Rn 160 26 L st T σ K ↔ Rn 160 30 L st T σ K := R_goto (off := 4) (by decide +kernel) (by decide)
theorem s160_29 : Rn 160 29 L st T σ K ↔ Rn 160 30 L (vI 0 :: st) T σ K := R_iconst (n := 0) (by decide +kernel) (by decide)
theorem s160_30 : Rn 160 30 [l0, l1] (vI a :: st) T σ K ↔ Rn 160 31 [l0, some (vI a)] st T σ K := R_istore_n (n := 1) (by decide +kernel) rfl
theorem s160_31 : Rn 160 31 [some (vR o), l1] st T σ K ↔ Rn 160 32 [some (vR o), l1] (vR o :: st) T σ K := R_aload_n (n := 0) (by decide +kernel) rfl
theorem s160_32 : Rn 160 32 L (vR o :: st) T σ K ↔ sx_kd T o = 8 ∧ ∃ t, sx_rf T o 0 = some t ∧ Rn 160 35 L (vR t :: st) T σ K := R_getR (idx := 10) (ci := 8) (k := 0) (by decide +kernel) (by decide +kernel) rfl
theorem s160_35 : Rn 160 35 L st T σ K ↔ Rn 160 36 L (vI 0 :: st) T σ K := R_iconst (n := 0) (by decide +kernel) (by decide)
theorem s160_36 : Rn 160 36 L (vI a :: vR o :: st) T σ K ↔ sx_kd T o = 6 ∧ Rn 160 39 L st T (sx_up σ o 1 a) K := R_putI (idx := 85) (ci := 6) (k := 1) (by decide +kernel) (by decide +kernel) rfl rfl
theorem s160_39 : Rn 160 39 [l0, some (vI a)] st T σ K ↔ Rn 160 40 [l0, some (vI a)] (vI a :: st) T σ K := R_iload_n (n := 1) (by decide +kernel) rfl
theorem s160_40 : Rn 160 40 L (vI a :: st) T σ K ↔ (a ≠ 0 → Rn 160 51 L st T σ K) ∧ (a = 0 → Rn 160 43 L st T σ K) := R_if_ne (off := 11) (by decide +kernel) (by decide)
theorem s160_43 : Rn 160 43 [some (vR o), l1] st T σ K ↔ Rn 160 44 [some (vR o), l1] (vR o :: st) T σ K := R_aload_n (n := 0) (by decide +kernel) rfl
theorem s160_44 : Rn 160 44 L st T σ K ↔ Rn 160 45 L (vI 5 :: st) T σ K := R_iconst (n := 5) (by decide +kernel) (by decide)
theorem s160_45 : Rn 160 45 L (vI a :: vR o :: st) T σ K ↔ (sx_kd T o = 8 ∧ st.length ≤ 4) ∧ Rn 12 0 [some (vR o), some (vI a)] [] T σ (fun r T' σ' => Rn 160 48 L (sx_push r st) T' σ' K) := R_V (cm := 12) (n := 1) (idx := 89) (ci := 8) (mx := 2) (vs := [vI a]) (by decide +kernel) (by decide +kernel) rfl (by decide +kernel) rfl (by decide +kernel) (by decide +kernel)
theorem s160_48 : Rn 160 48 L (vI a :: st) T σ K ↔ Rn 160 49 L st T σ K := R_pop (v := vI a) (by decide +kernel) rfl
theorem s160_49 : Rn 160 49 L st T σ K ↔ Rn 160 50 L (vI 0 :: st) T σ K := R_iconst (n := 0) (by decide +kernel) (by decide)
theorem s160_50 : Rn 160 50 L [vI a] T σ K ↔ (a = 0 ∨ a = 1) ∧ K (some (vI a)) T σ := R_retZ (by decide +kernel) (by decide +kernel)
theorem s160_51 : Rn 160 51 [some (vR o), l1] st T σ K ↔ Rn 160 52 [some (vR o), l1] (vR o :: st) T σ K := R_aload_n (n := 0) (by decide +kernel) rfl
theorem s160_52 : Rn 160 52 L (vR o :: st) T σ K ↔ sx_kd T o = 8 ∧ ∃ t, sx_rf T o 2 = some t ∧ Rn 160 55 L (vR t :: st) T σ K := R_getR (idx := 28) (ci := 8) (k := 2) (by decide +kernel) (by decide +kernel) rfl
theorem s160_55 : Rn 160 55 [some (vR o), l1] st T σ K ↔ Rn 160 56 [some (vR o), l1] (vR o :: st) T σ K := R_aload_n (n := 0) (by decide +kernel) rfl
theorem s160_56 : Rn 160 56 L (vR o :: st) T σ K ↔ sx_kd T o = 8 ∧ ∃ t, sx_rf T o 3 = some t ∧ Rn 160 59 L (vR t :: st) T σ K := R_getR (idx := 32) (ci := 8) (k := 3) (by decide +kernel) (by decide +kernel) rfl
theorem s160_59 : Rn 160 59 L (vR p :: vR o :: st) T σ K ↔ (sx_kd T o = 2 ∧ st.length ≤ 4) ∧ Rn 125 0 [some (vR o), some (vR p)] [] T σ (fun r T' σ' => Rn 160 62 L (sx_push r st) T' σ' K) := R_V (cm := 125) (n := 1) (idx := 322) (ci := 2) (mx := 2) (vs := [vR p]) (by decide +kernel) (by decide +kernel) rfl (by decide +kernel) rfl (by decide +kernel) (by decide +kernel)
theorem s160_62 : Rn 160 62 [some (vR o), l1] st T σ K ↔ Rn 160 63 [some (vR o), l1] (vR o :: st) T σ K := R_aload_n (n := 0) (by decide +kernel) rfl
theorem s160_63 : Rn 160 63 L (vR o :: st) T σ K ↔ sx_kd T o = 8 ∧ ∃ t, sx_rf T o 4 = some t ∧ Rn 160 66 L (vR t :: st) T σ K := R_getR (idx := 38) (ci := 8) (k := 4) (by decide +kernel) (by decide +kernel) rfl
theorem s160_66 : Rn 160 66 L (vR o :: st) T σ K ↔ (sx_kd T o = 0 ∧ st.length ≤ 4) ∧ Rn 43 0 [some (vR o)] [] T σ (fun r T' σ' => Rn 160 69 L (sx_push r st) T' σ' K) := R_V (cm := 43) (n := 0) (idx := 122) (ci := 0) (mx := 1) (vs := []) (by decide +kernel) (by decide +kernel) rfl (by decide +kernel) rfl (by decide +kernel) (by decide +kernel)
theorem s160_69 : Rn 160 69 L st T σ K ↔ Rn 160 70 L (vI 1 :: st) T σ K := R_iconst (n := 1) (by decide +kernel) (by decide)
theorem s160_70 : Rn 160 70 L [vI a] T σ K ↔ (a = 0 ∨ a = 1) ∧ K (some (vI a)) T σ := R_retZ (by decide +kernel) (by decide +kernel)
theorem s161_0 : Rn 161 0 [some (vR o), l1, l2, l3, l4, l5, l6] st T σ K ↔ Rn 161 1 [some (vR o), l1, l2, l3, l4, l5, l6] (vR o :: st) T σ K := R_aload_n (n := 0) (by decide +kernel) rfl
theorem s161_1 : Rn 161 1 L (vR o :: st) T σ K ↔ (sx_kd T o = 2 ∧ st.length ≤ 4) ∧ Rn 35 0 [some (vR o)] [] T σ (fun r T' σ' => Rn 161 4 L (sx_push r st) T' σ' K) := R_V (cm := 35) (n := 0) (idx := 48) (ci := 2) (mx := 1) (vs := []) (by decide +kernel) (by decide +kernel) rfl (by decide +kernel) rfl (by decide +kernel) (by decide +kernel)
theorem s161_4 : Rn 161 4 [l0, some (vR o), l2, l3, l4, l5, l6] st T σ K ↔ Rn 161 5 [l0, some (vR o), l2, l3, l4, l5, l6] (vR o :: st) T σ K := R_aload_n (n := 1) (by decide +kernel) rfl
theorem s161_5 : Rn 161 5 L st T σ K ↔ Rn 161 6 L (vI 1 :: st) T σ K := R_iconst (n := 1) (by decide +kernel) (by decide)
theorem s161_6 : Rn 161 6 L (vI a :: vR o :: st) T σ K ↔ (sx_kd T o = 6 ∧ st.length ≤ 4) ∧ Rn 20 0 [some (vR o), some (vI a)] [] T σ (fun r T' σ' => Rn 161 9 L (sx_push r st) T' σ' K) := R_V (cm := 20) (n := 1) (idx := 51) (ci := 6) (mx := 2) (vs := [vI a]) (by decide +kernel) (by decide +kernel) rfl (by decide +kernel) rfl (by decide +kernel) (by decide +kernel)
theorem s161_9 : Rn 161 9 [l0, l1, l2, l3, l4, l5, l6] (vI a :: st) T σ K ↔ Rn 161 10 [l0, l1, some (vI a), l3, l4, l5, l6] st T σ K := R_istore_n (n := 2) (by decide +kernel) rfl
theorem s161_10 : Rn 161 10 [l0, l1, some (vI a), l3, l4, l5, l6] st T σ K ↔ Rn 161 11 [l0, l1, some (vI a), l3, l4, l5, l6] (vI a :: st) T σ K := R_iload_n (n := 2) (by decide +kernel) rfl
theorem s161_11 : Rn 161 11 L (vI a :: st) T σ K ↔ (a < 0 → Rn 161 53 L st T σ K) ∧ (0 ≤ a → Rn 161 14 L st T σ K) := R_if_lt (off := 42) (by decide +kernel) (by decide)
theorem s161_14 : Rn 161 14 [l0, l1, some (vI a), l3, l4, l5, l6] st T σ K ↔ Rn 161 15 [l0, l1, some (vI a), l3, l4, l5, l6] (vI a :: st) T σ K := R_iload_n (n := 2) (by decide +kernel) rfl
theorem s161_15 : Rn 161 15 L st T σ K ↔ Rn 161 17 L (vI 40 :: st) T σ K := R_bipush (n := 40) (by decide +kernel) (by decide +kernel)
theorem s161_17 : Rn 161 17 L (vI b :: vI a :: st) T σ K ↔ (b < a → Rn 161 53 L st T σ K) ∧ (a ≤ b → Rn 161 20 L st T σ K) := R_icmp_gt (off := 36) (by decide +kernel) (by decide)
theorem s161_20 : Rn 161 20 [l0, some (vR o), l2, l3, l4, l5, l6] st T σ K ↔ Rn 161 21 [l0, some (vR o), l2, l3, l4, l5, l6] (vR o :: st) T σ K := R_aload_n (n := 1) (by decide +kernel) rfl
theorem s161_21 : Rn 161 21 L st T σ K ↔ Rn 161 22 L (vI 0 :: st) T σ K := R_iconst (n := 0) (by decide +kernel) (by decide)
theorem s161_22 : Rn 161 22 L (vI a :: vR o :: st) T σ K ↔ (sx_kd T o = 6 ∧ st.length ≤ 4) ∧ Rn 20 0 [some (vR o), some (vI a)] [] T σ (fun r T' σ' => Rn 161 25 L (sx_push r st) T' σ' K) := R_V (cm := 20) (n := 1) (idx := 51) (ci := 6) (mx := 2) (vs := [vI a]) (by decide +kernel) (by decide +kernel) rfl (by decide +kernel) rfl (by decide +kernel) (by decide +kernel)
theorem s161_25 : Rn 161 25 L (vI a :: st) T σ K ↔ st.length ≤ 4 ∧ Rn 147 0 [some (vI a)] [] T σ (fun r T' σ' => Rn 161 28 L (sx_push r st) T' σ' K) := R_S (cm := 147) (n := 1) (idx := 57) (mx := 1) (vs := [vI a]) (by decide +kernel) (Or.inr (by decide +kernel)) rfl (by decide +kernel) rfl (by decide +kernel)
theorem s161_28 : Rn 161 28 L (vI a :: st) T σ K ↔ (a = 0 → Rn 161 53 L st T σ K) ∧ (a ≠ 0 → Rn 161 31 L st T σ K) := R_if_eq (off := 25) (by decide +kernel) (by decide)
theorem s161_31 : Rn 161 31 [l0, some (vR o), l2, l3, l4, l5, l6] st T σ K ↔ Rn 161 32 [l0, some (vR o), l2, l3, l4, l5, l6] (vR o :: st) T σ K := R_aload_n (n := 1) (by decide +kernel) rfl
theorem s161_32 : Rn 161 32 L (vR o :: st) T σ K ↔ sx_kd T o = 6 ∧ Rn 161 35 L (vI (σ o 1) :: st) T σ K := R_getI (idx := 60) (ci := 6) (k := 1) (by decide +kernel) (by decide +kernel) (Or.inl rfl)
theorem s161_35 : Rn 161 35 L st T σ K ↔ Rn 161 36 L (vI 2 :: st) T σ K := R_iconst (n := 2) (by decide +kernel) (by decide)
theorem s161_36 : Rn 161 36 [l0, l1, some (vI a), l3, l4, l5, l6] st T σ K ↔ Rn 161 37 [l0, l1, some (vI a), l3, l4, l5, l6] (vI a :: st) T σ K := R_iload_n (n := 2) (by decide +kernel) rfl
theorem s161_37 : Rn 161 37 L st T σ K ↔ Rn 161 39 L (vI 6 :: st) T σ K := R_bipush (n := 6) (by decide +kernel) (by decide +kernel)
theorem s161_39 : Rn 161 39 L (vI b :: vI a :: st) T σ K ↔ inI (a * b) ∧ Rn 161 40 L (vI (a * b) :: st) T σ K := R_imul (by decide +kernel)
theorem s161_40 : Rn 161 40 L (vI b :: vI a :: st) T σ K ↔ inI (a + b) ∧ Rn 161 41 L (vI (a + b) :: st) T σ K := R_iadd (by decide +kernel)
theorem s161_41 : Rn 161 41 L st T σ K ↔ Rn 161 42 L (vI 1 :: st) T σ K := R_iconst (n := 1) (by decide +kernel) (by decide)
theorem s161_42 : Rn 161 42 L (vI b :: vI a :: st) T σ K ↔ inI (a + b) ∧ Rn 161 43 L (vI (a + b) :: st) T σ K := R_iadd (by decide +kernel)
theorem s161_43 : Rn 161 43 L (vI b :: vI a :: st) T σ K ↔ (a ≠ b → Rn 161 53 L st T σ K) ∧ (a = b → Rn 161 46 L st T σ K) := R_icmp_ne (off := 10) (by decide +kernel) (by decide)
theorem s161_46 : Rn 161 46 [l0, some (vR o), l2, l3, l4, l5, l6] st T σ K ↔ Rn 161 47 [l0, some (vR o), l2, l3, l4, l5, l6] (vR o :: st) T σ K := R_aload_n (n := 1) (by decide +kernel) rfl
theorem s161_47 : Rn 161 47 L (vR p :: st) T σ K ↔ st.length ≤ 4 ∧ Rn 162 0 [some (vR p), none, none] [] T σ (fun r T' σ' => Rn 161 50 L (sx_push r st) T' σ' K) := R_S (cm := 162) (n := 1) (idx := 61) (mx := 3) (vs := [vR p]) (by decide +kernel) (Or.inl (by decide +kernel)) rfl (by decide +kernel) rfl (by decide +kernel)
theorem s161_50 : Rn 161 50 L (vI a :: st) T σ K ↔ (a ≠ 0 → Rn 161 55 L st T σ K) ∧ (a = 0 → Rn 161 53 L st T σ K) := R_if_ne (off := 5) (by decide +kernel) (by decide)
theorem s161_53 : Rn 161 53 L st T σ K ↔ Rn 161 54 L (vI 0 :: st) T σ K := R_iconst (n := 0) (by decide +kernel) (by decide)
theorem s161_54 : Rn 161 54 L [vI a] T σ K ↔ (a = 0 ∨ a = 1) ∧ K (some (vI a)) T σ := R_retZ (by decide +kernel) (by decide +kernel)
theorem s161_55 : Rn 161 55 [some (vR o), l1, l2, l3, l4, l5, l6] st T σ K ↔ Rn 161 56 [some (vR o), l1, l2, l3, l4, l5, l6] (vR o :: st) T σ K := R_aload_n (n := 0) (by decide +kernel) rfl
theorem s161_56 : Rn 161 56 [l0, some (vR o), l2, l3, l4, l5, l6] st T σ K ↔ Rn 161 57 [l0, some (vR o), l2, l3, l4, l5, l6] (vR o :: st) T σ K := R_aload_n (n := 1) (by decide +kernel) rfl
theorem s161_57 : Rn 161 57 L st T σ K ↔ Rn 161 58 L (vI 0 :: st) T σ K := R_iconst (n := 0) (by decide +kernel) (by decide)
theorem s161_58 : Rn 161 58 L (vI a :: vR o :: st) T σ K ↔ (sx_kd T o = 6 ∧ st.length ≤ 4) ∧ Rn 20 0 [some (vR o), some (vI a)] [] T σ (fun r T' σ' => Rn 161 61 L (sx_push r st) T' σ' K) := R_V (cm := 20) (n := 1) (idx := 51) (ci := 6) (mx := 2) (vs := [vI a]) (by decide +kernel) (by decide +kernel) rfl (by decide +kernel) rfl (by decide +kernel) (by decide +kernel)
theorem s161_61 : Rn 161 61 L (vI a :: vR o :: st) T σ K ↔ sx_kd T o = 2 ∧ Rn 161 64 L st T (sx_up σ o 4 a) K := R_putI (idx := 19) (ci := 2) (k := 4) (by decide +kernel) (by decide +kernel) rfl rfl
theorem s161_64 : Rn 161 64 L st T σ K ↔ Rn 161 65 L (vI (-1) :: st) T σ K := R_iconst (n := -1) (by decide +kernel) (by decide)
theorem s161_65 : Rn 161 65 [l0, l1, l2, l3, l4, l5, l6] (vI a :: st) T σ K ↔ Rn 161 66 [l0, l1, l2, some (vI a), l4, l5, l6] st T σ K := R_istore_n (n := 3) (by decide +kernel) rfl
theorem s161_66 : Rn 161 66 L st T σ K ↔ Rn 161 67 L (vI 0 :: st) T σ K := R_iconst (n := 0) (by decide +kernel) (by decide)
theorem s161_67 : Rn 161 67 [l0, l1, l2, l3, l4, l5, l6] (vI a :: st) T σ K ↔ Rn 161 69 [l0, l1, l2, l3, some (vI a), l5, l6] st T σ K := R_istore (n := 4) (by decide +kernel) rfl
theorem s161_69 : Rn 161 69 [l0, l1, l2, l3, some (vI a), l5, l6] st T σ K ↔ Rn 161 71 [l0, l1, l2, l3, some (vI a), l5, l6] (vI a :: st) T σ K := R_iload (n := 4) (by decide +kernel) rfl
theorem s161_71 : Rn 161 71 [l0, l1, some (vI a), l3, l4, l5, l6] st T σ K ↔ Rn 161 72 [l0, l1, some (vI a), l3, l4, l5, l6] (vI a :: st) T σ K := R_iload_n (n := 2) (by decide +kernel) rfl
theorem s161_72 : Rn 161 72 L (vI b :: vI a :: st) T σ K ↔ (b ≤ a → Rn 161 119 L st T σ K) ∧ (a < b → Rn 161 75 L st T σ K) := R_icmp_ge (off := 47) (by decide +kernel) (by decide)
theorem s161_75 : Rn 161 75 L st T σ K ↔ Rn 161 76 L (vI 2 :: st) T σ K := R_iconst (n := 2) (by decide +kernel) (by decide)
theorem s161_76 : Rn 161 76 [l0, l1, l2, l3, some (vI a), l5, l6] st T σ K ↔ Rn 161 78 [l0, l1, l2, l3, some (vI a), l5, l6] (vI a :: st) T σ K := R_iload (n := 4) (by decide +kernel) rfl
theorem s161_78 : Rn 161 78 L st T σ K ↔ Rn 161 80 L (vI 6 :: st) T σ K := R_bipush (n := 6) (by decide +kernel) (by decide +kernel)
theorem s161_80 : Rn 161 80 L (vI b :: vI a :: st) T σ K ↔ inI (a * b) ∧ Rn 161 81 L (vI (a * b) :: st) T σ K := R_imul (by decide +kernel)
theorem s161_81 : Rn 161 81 L (vI b :: vI a :: st) T σ K ↔ inI (a + b) ∧ Rn 161 82 L (vI (a + b) :: st) T σ K := R_iadd (by decide +kernel)
theorem s161_82 : Rn 161 82 [l0, l1, l2, l3, l4, l5, l6] (vI a :: st) T σ K ↔ Rn 161 84 [l0, l1, l2, l3, l4, some (vI a), l6] st T σ K := R_istore (n := 5) (by decide +kernel) rfl
theorem s161_84 : Rn 161 84 [l0, some (vR o), l2, l3, l4, l5, l6] st T σ K ↔ Rn 161 85 [l0, some (vR o), l2, l3, l4, l5, l6] (vR o :: st) T σ K := R_aload_n (n := 1) (by decide +kernel) rfl
theorem s161_85 : Rn 161 85 [l0, l1, l2, l3, l4, some (vI a), l6] st T σ K ↔ Rn 161 87 [l0, l1, l2, l3, l4, some (vI a), l6] (vI a :: st) T σ K := R_iload (n := 5) (by decide +kernel) rfl
theorem s161_87 : Rn 161 87 L (vI a :: vR o :: st) T σ K ↔ (sx_kd T o = 6 ∧ st.length ≤ 4) ∧ Rn 20 0 [some (vR o), some (vI a)] [] T σ (fun r T' σ' => Rn 161 90 L (sx_push r st) T' σ' K) := R_V (cm := 20) (n := 1) (idx := 51) (ci := 6) (mx := 2) (vs := [vI a]) (by decide +kernel) (by decide +kernel) rfl (by decide +kernel) rfl (by decide +kernel) (by decide +kernel)
theorem s161_90 : Rn 161 90 [l0, l1, l2, l3, l4, l5, l6] (vI a :: st) T σ K ↔ Rn 161 92 [l0, l1, l2, l3, l4, l5, some (vI a)] st T σ K := R_istore (n := 6) (by decide +kernel) rfl
theorem s161_92 : Rn 161 92 [l0, l1, l2, l3, l4, l5, some (vI a)] st T σ K ↔ Rn 161 94 [l0, l1, l2, l3, l4, l5, some (vI a)] (vI a :: st) T σ K := R_iload (n := 6) (by decide +kernel) rfl
theorem s161_94 : Rn 161 94 [l0, l1, l2, some (vI a), l4, l5, l6] st T σ K ↔ Rn 161 95 [l0, l1, l2, some (vI a), l4, l5, l6] (vI a :: st) T σ K := R_iload_n (n := 3) (by decide +kernel) rfl
theorem s161_95 : Rn 161 95 L (vI b :: vI a :: st) T σ K ↔ (a ≤ b → Rn 161 108 L st T σ K) ∧ (b < a → Rn 161 98 L st T σ K) := R_icmp_le (off := 13) (by decide +kernel) (by decide)
theorem s161_98 : Rn 161 98 [some (vR o), l1, l2, l3, l4, l5, l6] st T σ K ↔ Rn 161 99 [some (vR o), l1, l2, l3, l4, l5, l6] (vR o :: st) T σ K := R_aload_n (n := 0) (by decide +kernel) rfl
theorem s161_99 : Rn 161 99 [l0, some (vR o), l2, l3, l4, l5, l6] st T σ K ↔ Rn 161 100 [l0, some (vR o), l2, l3, l4, l5, l6] (vR o :: st) T σ K := R_aload_n (n := 1) (by decide +kernel) rfl
theorem s161_100 : Rn 161 100 [l0, l1, l2, l3, l4, some (vI a), l6] st T σ K ↔ Rn 161 102 [l0, l1, l2, l3, l4, some (vI a), l6] (vI a :: st) T σ K := R_iload (n := 5) (by decide +kernel) rfl
theorem s161_102 : Rn 161 102 L (vI a :: vR q :: vR p :: st) T σ K ↔ st.length ≤ 4 ∧ Rn 163 0 [some (vR p), some (vR q), some (vI a), none, none, none] [] T σ (fun r T' σ' => Rn 161 105 L (sx_push r st) T' σ' K) := R_S (cm := 163) (n := 3) (idx := 65) (mx := 6) (vs := [vR p, vR q, vI a]) (by decide +kernel) (Or.inl (by decide +kernel)) rfl (by decide +kernel) rfl (by decide +kernel)
theorem s161_105 : Rn 161 105 L (vI a :: st) T σ K ↔ (a ≠ 0 → Rn 161 110 L st T σ K) ∧ (a = 0 → Rn 161 108 L st T σ K) := R_if_ne (off := 5) (by decide +kernel) (by decide)
theorem s161_108 : Rn 161 108 L st T σ K ↔ Rn 161 109 L (vI 0 :: st) T σ K := R_iconst (n := 0) (by decide +kernel) (by decide)
theorem s161_109 : Rn 161 109 L [vI a] T σ K ↔ (a = 0 ∨ a = 1) ∧ K (some (vI a)) T σ := R_retZ (by decide +kernel) (by decide +kernel)
theorem s161_110 : Rn 161 110 [l0, l1, l2, l3, l4, l5, some (vI a)] st T σ K ↔ Rn 161 112 [l0, l1, l2, l3, l4, l5, some (vI a)] (vI a :: st) T σ K := R_iload (n := 6) (by decide +kernel) rfl
theorem s161_112 : Rn 161 112 [l0, l1, l2, l3, l4, l5, l6] (vI a :: st) T σ K ↔ Rn 161 113 [l0, l1, l2, some (vI a), l4, l5, l6] st T σ K := R_istore_n (n := 3) (by decide +kernel) rfl
theorem s161_113 : Rn 161 113 [l0, l1, l2, l3, some (vI a), l5, l6] st T σ K ↔ inI (a + 1) ∧ Rn 161 116 [l0, l1, l2, l3, some (vI (a + 1)), l5, l6] st T σ K := R_iinc (n := 4) (d := 1) (by decide +kernel) rfl
theorem s161_116 : Rn 161 116 L st T σ K ↔ Rn 161 69 L st T σ K := R_goto (off := -47) (by decide +kernel) (by decide)
theorem s161_119 : Rn 161 119 [some (vR o), l1, l2, l3, l4, l5, l6] st T σ K ↔ Rn 161 120 [some (vR o), l1, l2, l3, l4, l5, l6] (vR o :: st) T σ K := R_aload_n (n := 0) (by decide +kernel) rfl
theorem s161_120 : Rn 161 120 L (vR p :: st) T σ K ↔ st.length ≤ 4 ∧ Rn 164 0 [some (vR p), none, none, none] [] T σ (fun r T' σ' => Rn 161 123 L (sx_push r st) T' σ' K) := R_S (cm := 164) (n := 1) (idx := 69) (mx := 4) (vs := [vR p]) (by decide +kernel) (Or.inl (by decide +kernel)) rfl (by decide +kernel) rfl (by decide +kernel)
theorem s161_123 : Rn 161 123 L (vI a :: st) T σ K ↔ (a = 0 → Rn 161 137 L st T σ K) ∧ (a ≠ 0 → Rn 161 126 L st T σ K) := R_if_eq (off := 14) (by decide +kernel) (by decide)
theorem s161_126 : Rn 161 126 [some (vR o), l1, l2, l3, l4, l5, l6] st T σ K ↔ Rn 161 127 [some (vR o), l1, l2, l3, l4, l5, l6] (vR o :: st) T σ K := R_aload_n (n := 0) (by decide +kernel) rfl
theorem s161_127 : Rn 161 127 L (vR p :: st) T σ K ↔ st.length ≤ 4 ∧ Rn 165 0 [some (vR p), none, none] [] T σ (fun r T' σ' => Rn 161 130 L (sx_push r st) T' σ' K) := R_S (cm := 165) (n := 1) (idx := 73) (mx := 3) (vs := [vR p]) (by decide +kernel) (Or.inl (by decide +kernel)) rfl (by decide +kernel) rfl (by decide +kernel)
theorem s161_130 : Rn 161 130 L (vI a :: st) T σ K ↔ (a = 0 → Rn 161 137 L st T σ K) ∧ (a ≠ 0 → Rn 161 133 L st T σ K) := R_if_eq (off := 7) (by decide +kernel) (by decide)
theorem s161_133 : Rn 161 133 L st T σ K ↔ Rn 161 134 L (vI 1 :: st) T σ K := R_iconst (n := 1) (by decide +kernel) (by decide)
theorem s161_134 : Rn 161 134 L st T σ K ↔ Rn 161 138 L st T σ K := R_goto (off := 4) (by decide +kernel) (by decide)
theorem s161_137 : Rn 161 137 L st T σ K ↔ Rn 161 138 L (vI 0 :: st) T σ K := R_iconst (n := 0) (by decide +kernel) (by decide)
theorem s161_138 : Rn 161 138 L [vI a] T σ K ↔ (a = 0 ∨ a = 1) ∧ K (some (vI a)) T σ := R_retZ (by decide +kernel) (by decide +kernel)
theorem s162_0 : Rn 162 0 L st T σ K ↔ Rn 162 3 L (vI 149 :: st) T σ K := R_sipush (n := 149) (by decide +kernel) (by decide +kernel)
theorem s162_3 : Rn 162 3 [l0, l1, l2] (vI a :: st) T σ K ↔ Rn 162 4 [l0, some (vI a), l2] st T σ K := R_istore_n (n := 1) (by decide +kernel) rfl
theorem s162_4 : Rn 162 4 L st T σ K ↔ Rn 162 5 L (vI 0 :: st) T σ K := R_iconst (n := 0) (by decide +kernel) (by decide)
theorem s162_5 : Rn 162 5 [l0, l1, l2] (vI a :: st) T σ K ↔ Rn 162 6 [l0, l1, some (vI a)] st T σ K := R_istore_n (n := 2) (by decide +kernel) rfl
theorem s162_6 : Rn 162 6 [l0, l1, some (vI a)] st T σ K ↔ Rn 162 7 [l0, l1, some (vI a)] (vI a :: st) T σ K := R_iload_n (n := 2) (by decide +kernel) rfl
theorem s162_7 : Rn 162 7 L st T σ K ↔ Rn 162 8 L (vI 1 :: st) T σ K := R_iconst (n := 1) (by decide +kernel) (by decide)
theorem s162_8 : Rn 162 8 L (vI b :: vI a :: st) T σ K ↔ inI (a + b) ∧ Rn 162 9 L (vI (a + b) :: st) T σ K := R_iadd (by decide +kernel)
theorem s162_9 : Rn 162 9 [some (vR o), l1, l2] st T σ K ↔ Rn 162 10 [some (vR o), l1, l2] (vR o :: st) T σ K := R_aload_n (n := 0) (by decide +kernel) rfl
theorem s162_10 : Rn 162 10 L (vR o :: st) T σ K ↔ sx_kd T o = 6 ∧ Rn 162 13 L (vI (σ o 1) :: st) T σ K := R_getI (idx := 60) (ci := 6) (k := 1) (by decide +kernel) (by decide +kernel) (Or.inl rfl)
theorem s162_13 : Rn 162 13 L (vI b :: vI a :: st) T σ K ↔ (b ≤ a → Rn 162 32 L st T σ K) ∧ (a < b → Rn 162 16 L st T σ K) := R_icmp_ge (off := 19) (by decide +kernel) (by decide)
theorem s162_16 : Rn 162 16 [l0, some (vI a), l2] st T σ K ↔ Rn 162 17 [l0, some (vI a), l2] (vI a :: st) T σ K := R_iload_n (n := 1) (by decide +kernel) rfl
theorem s162_17 : Rn 162 17 [some (vR o), l1, l2] st T σ K ↔ Rn 162 18 [some (vR o), l1, l2] (vR o :: st) T σ K := R_aload_n (n := 0) (by decide +kernel) rfl
theorem s162_18 : Rn 162 18 [l0, l1, some (vI a)] st T σ K ↔ Rn 162 19 [l0, l1, some (vI a)] (vI a :: st) T σ K := R_iload_n (n := 2) (by decide +kernel) rfl
theorem s162_19 : Rn 162 19 L (vI a :: vR o :: st) T σ K ↔ (sx_kd T o = 6 ∧ st.length ≤ 4) ∧ Rn 20 0 [some (vR o), some (vI a)] [] T σ (fun r T' σ' => Rn 162 22 L (sx_push r st) T' σ' K) := R_V (cm := 20) (n := 1) (idx := 51) (ci := 6) (mx := 2) (vs := [vI a]) (by decide +kernel) (by decide +kernel) rfl (by decide +kernel) rfl (by decide +kernel) (by decide +kernel)
theorem s162_22 : Rn 162 22 L (vI b :: vI a :: st) T σ K ↔ st.length ≤ 4 ∧ Rn 158 0 [some (vI a), some (vI b)] [] T σ (fun r T' σ' => Rn 162 25 L (sx_push r st) T' σ' K) := R_S (cm := 158) (n := 2) (idx := 44) (mx := 2) (vs := [vI a, vI b]) (by decide +kernel) (Or.inl (by decide +kernel)) rfl (by decide +kernel) rfl (by decide +kernel)
theorem s162_25 : Rn 162 25 [l0, l1, l2] (vI a :: st) T σ K ↔ Rn 162 26 [l0, some (vI a), l2] st T σ K := R_istore_n (n := 1) (by decide +kernel) rfl
theorem s162_26 : Rn 162 26 [l0, l1, some (vI a)] st T σ K ↔ inI (a + 1) ∧ Rn 162 29 [l0, l1, some (vI (a + 1))] st T σ K := R_iinc (n := 2) (d := 1) (by decide +kernel) rfl
theorem s162_29 : Rn 162 29 L st T σ K ↔ Rn 162 6 L st T σ K := R_goto (off := -23) (by decide +kernel) (by decide)
theorem s162_32 : Rn 162 32 [l0, some (vI a), l2] st T σ K ↔ Rn 162 33 [l0, some (vI a), l2] (vI a :: st) T σ K := R_iload_n (n := 1) (by decide +kernel) rfl
theorem s162_33 : Rn 162 33 [some (vR o), l1, l2] st T σ K ↔ Rn 162 34 [some (vR o), l1, l2] (vR o :: st) T σ K := R_aload_n (n := 0) (by decide +kernel) rfl
theorem s162_34 : Rn 162 34 [some (vR o), l1, l2] st T σ K ↔ Rn 162 35 [some (vR o), l1, l2] (vR o :: st) T σ K := R_aload_n (n := 0) (by decide +kernel) rfl
theorem s162_35 : Rn 162 35 L (vR o :: st) T σ K ↔ sx_kd T o = 6 ∧ Rn 162 38 L (vI (σ o 1) :: st) T σ K := R_getI (idx := 60) (ci := 6) (k := 1) (by decide +kernel) (by decide +kernel) (Or.inl rfl)
theorem s162_38 : Rn 162 38 L st T σ K ↔ Rn 162 39 L (vI 1 :: st) T σ K := R_iconst (n := 1) (by decide +kernel) (by decide)
theorem s162_39 : Rn 162 39 L (vI b :: vI a :: st) T σ K ↔ inI (a - b) ∧ Rn 162 40 L (vI (a - b) :: st) T σ K := R_isub (by decide +kernel)
theorem s162_40 : Rn 162 40 L (vI a :: vR o :: st) T σ K ↔ (sx_kd T o = 6 ∧ st.length ≤ 4) ∧ Rn 20 0 [some (vR o), some (vI a)] [] T σ (fun r T' σ' => Rn 162 43 L (sx_push r st) T' σ' K) := R_V (cm := 20) (n := 1) (idx := 51) (ci := 6) (mx := 2) (vs := [vI a]) (by decide +kernel) (by decide +kernel) rfl (by decide +kernel) rfl (by decide +kernel) (by decide +kernel)
theorem s162_43 : Rn 162 43 L (vI b :: vI a :: st) T σ K ↔ (a ≠ b → Rn 162 50 L st T σ K) ∧ (a = b → Rn 162 46 L st T σ K) := R_icmp_ne (off := 7) (by decide +kernel) (by decide)
theorem s162_46 : Rn 162 46 L st T σ K ↔ Rn 162 47 L (vI 1 :: st) T σ K := R_iconst (n := 1) (by decide +kernel) (by decide)
theorem s162_47 : Rn 162 47 L st T σ K ↔ Rn 162 51 L st T σ K := R_goto (off := 4) (by decide +kernel) (by decide)
theorem s162_50 : Rn 162 50 L st T σ K ↔ Rn 162 51 L (vI 0 :: st) T σ K := R_iconst (n := 0) (by decide +kernel) (by decide)
theorem s162_51 : Rn 162 51 L [vI a] T σ K ↔ (a = 0 ∨ a = 1) ∧ K (some (vI a)) T σ := R_retZ (by decide +kernel) (by decide +kernel)
theorem s163_0 : Rn 163 0 [l0, some (vR o), l2, l3, l4, l5] st T σ K ↔ Rn 163 1 [l0, some (vR o), l2, l3, l4, l5] (vR o :: st) T σ K := R_aload_n (n := 1) (by decide +kernel) rfl
theorem s163_1 : Rn 163 1 [l0, l1, some (vI a), l3, l4, l5] st T σ K ↔ Rn 163 2 [l0, l1, some (vI a), l3, l4, l5] (vI a :: st) T σ K := R_iload_n (n := 2) (by decide +kernel) rfl
theorem s163_2 : Rn 163 2 L (vI a :: vR o :: st) T σ K ↔ (sx_kd T o = 6 ∧ st.length ≤ 4) ∧ Rn 20 0 [some (vR o), some (vI a)] [] T σ (fun r T' σ' => Rn 163 5 L (sx_push r st) T' σ' K) := R_V (cm := 20) (n := 1) (idx := 51) (ci := 6) (mx := 2) (vs := [vI a]) (by decide +kernel) (by decide +kernel) rfl (by decide +kernel) rfl (by decide +kernel) (by decide +kernel)
theorem s163_5 : Rn 163 5 [l0, l1, l2, l3, l4, l5] (vI a :: st) T σ K ↔ Rn 163 6 [l0, l1, l2, some (vI a), l4, l5] st T σ K := R_istore_n (n := 3) (by decide +kernel) rfl
theorem s163_6 : Rn 163 6 [l0, some (vR o), l2, l3, l4, l5] st T σ K ↔ Rn 163 7 [l0, some (vR o), l2, l3, l4, l5] (vR o :: st) T σ K := R_aload_n (n := 1) (by decide +kernel) rfl
theorem s163_7 : Rn 163 7 [l0, l1, some (vI a), l3, l4, l5] st T σ K ↔ Rn 163 8 [l0, l1, some (vI a), l3, l4, l5] (vI a :: st) T σ K := R_iload_n (n := 2) (by decide +kernel) rfl
theorem s163_8 : Rn 163 8 L st T σ K ↔ Rn 163 9 L (vI 4 :: st) T σ K := R_iconst (n := 4) (by decide +kernel) (by decide)
theorem s163_9 : Rn 163 9 L (vI b :: vI a :: st) T σ K ↔ inI (a + b) ∧ Rn 163 10 L (vI (a + b) :: st) T σ K := R_iadd (by decide +kernel)
theorem s163_10 : Rn 163 10 L (vI a :: vR o :: st) T σ K ↔ (sx_kd T o = 6 ∧ st.length ≤ 4) ∧ Rn 20 0 [some (vR o), some (vI a)] [] T σ (fun r T' σ' => Rn 163 13 L (sx_push r st) T' σ' K) := R_V (cm := 20) (n := 1) (idx := 51) (ci := 6) (mx := 2) (vs := [vI a]) (by decide +kernel) (by decide +kernel) rfl (by decide +kernel) rfl (by decide +kernel) (by decide +kernel)
theorem s163_13 : Rn 163 13 [l0, l1, l2, l3, l4, l5] (vI a :: st) T σ K ↔ Rn 163 15 [l0, l1, l2, l3, some (vI a), l5] st T σ K := R_istore (n := 4) (by decide +kernel) rfl
theorem s163_15 : Rn 163 15 [l0, some (vR o), l2, l3, l4, l5] st T σ K ↔ Rn 163 16 [l0, some (vR o), l2, l3, l4, l5] (vR o :: st) T σ K := R_aload_n (n := 1) (by decide +kernel) rfl
theorem s163_16 : Rn 163 16 [l0, l1, some (vI a), l3, l4, l5] st T σ K ↔ Rn 163 17 [l0, l1, some (vI a), l3, l4, l5] (vI a :: st) T σ K := R_iload_n (n := 2) (by decide +kernel) rfl
theorem s163_17 : Rn 163 17 L st T σ K ↔ Rn 163 18 L (vI 5 :: st) T σ K := R_iconst (n := 5) (by decide +kernel) (by decide)
theorem s163_18 : Rn 163 18 L (vI b :: vI a :: st) T σ K ↔ inI (a + b) ∧ Rn 163 19 L (vI (a + b) :: st) T σ K := R_iadd (by decide +kernel)
theorem s163_19 : Rn 163 19 L (vI a :: vR o :: st) T σ K ↔ (sx_kd T o = 6 ∧ st.length ≤ 4) ∧ Rn 20 0 [some (vR o), some (vI a)] [] T σ (fun r T' σ' => Rn 163 22 L (sx_push r st) T' σ' K) := R_V (cm := 20) (n := 1) (idx := 51) (ci := 6) (mx := 2) (vs := [vI a]) (by decide +kernel) (by decide +kernel) rfl (by decide +kernel) rfl (by decide +kernel) (by decide +kernel)
theorem s163_22 : Rn 163 22 [l0, l1, l2, l3, l4, l5] (vI a :: st) T σ K ↔ Rn 163 24 [l0, l1, l2, l3, l4, some (vI a)] st T σ K := R_istore (n := 5) (by decide +kernel) rfl
theorem s163_24 : Rn 163 24 [l0, l1, l2, some (vI a), l4, l5] st T σ K ↔ Rn 163 25 [l0, l1, l2, some (vI a), l4, l5] (vI a :: st) T σ K := R_iload_n (n := 3) (by decide +kernel) rfl
theorem s163_25 : Rn 163 25 L (vI a :: st) T σ K ↔ (a < 0 → Rn 163 42 L st T σ K) ∧ (0 ≤ a → Rn 163 28 L st T σ K) := R_if_lt (off := 17) (by decide +kernel) (by decide)
theorem s163_28 : Rn 163 28 [l0, l1, l2, some (vI a), l4, l5] st T σ K ↔ Rn 163 29 [l0, l1, l2, some (vI a), l4, l5] (vI a :: st) T σ K := R_iload_n (n := 3) (by decide +kernel) rfl
theorem s163_29 : Rn 163 29 L st T σ K ↔ Rn 163 31 L (vI 40 :: st) T σ K := R_bipush (n := 40) (by decide +kernel) (by decide +kernel)
theorem s163_31 : Rn 163 31 L (vI b :: vI a :: st) T σ K ↔ (b ≤ a → Rn 163 42 L st T σ K) ∧ (a < b → Rn 163 34 L st T σ K) := R_icmp_ge (off := 11) (by decide +kernel) (by decide)
theorem s163_34 : Rn 163 34 [l0, l1, l2, l3, some (vI a), l5] st T σ K ↔ Rn 163 36 [l0, l1, l2, l3, some (vI a), l5] (vI a :: st) T σ K := R_iload (n := 4) (by decide +kernel) rfl
theorem s163_36 : Rn 163 36 L (vI a :: st) T σ K ↔ st.length ≤ 4 ∧ Rn 64 0 [some (vI a)] [] T σ (fun r T' σ' => Rn 163 39 L (sx_push r st) T' σ' K) := R_S (cm := 64) (n := 1) (idx := 76) (mx := 1) (vs := [vI a]) (by decide +kernel) (Or.inr (by decide +kernel)) rfl (by decide +kernel) rfl (by decide +kernel)
theorem s163_39 : Rn 163 39 L (vI a :: st) T σ K ↔ (a ≠ 0 → Rn 163 44 L st T σ K) ∧ (a = 0 → Rn 163 42 L st T σ K) := R_if_ne (off := 5) (by decide +kernel) (by decide)
theorem s163_42 : Rn 163 42 L st T σ K ↔ Rn 163 43 L (vI 0 :: st) T σ K := R_iconst (n := 0) (by decide +kernel) (by decide)
theorem s163_43 : Rn 163 43 L [vI a] T σ K ↔ (a = 0 ∨ a = 1) ∧ K (some (vI a)) T σ := R_retZ (by decide +kernel) (by decide +kernel)
theorem s163_44 : Rn 163 44 [some (vR o), l1, l2, l3, l4, l5] st T σ K ↔ Rn 163 45 [some (vR o), l1, l2, l3, l4, l5] (vR o :: st) T σ K := R_aload_n (n := 0) (by decide +kernel) rfl
theorem s163_45 : Rn 163 45 L (vR o :: st) T σ K ↔ sx_kd T o = 2 ∧ ∃ t, sx_rf T o 0 = some t ∧ Rn 163 48 L (vR t :: st) T σ K := R_getR (idx := 35) (ci := 2) (k := 0) (by decide +kernel) (by decide +kernel) rfl
theorem s163_48 : Rn 163 48 [l0, l1, l2, some (vI a), l4, l5] st T σ K ↔ Rn 163 49 [l0, l1, l2, some (vI a), l4, l5] (vI a :: st) T σ K := R_iload_n (n := 3) (by decide +kernel) rfl
theorem s163_49 : Rn 163 49 [l0, some (vR o), l2, l3, l4, l5] st T σ K ↔ Rn 163 50 [l0, some (vR o), l2, l3, l4, l5] (vR o :: st) T σ K := R_aload_n (n := 1) (by decide +kernel) rfl
theorem s163_50 : Rn 163 50 [l0, l1, some (vI a), l3, l4, l5] st T σ K ↔ Rn 163 51 [l0, l1, some (vI a), l3, l4, l5] (vI a :: st) T σ K := R_iload_n (n := 2) (by decide +kernel) rfl
theorem s163_51 : Rn 163 51 L st T σ K ↔ Rn 163 52 L (vI 1 :: st) T σ K := R_iconst (n := 1) (by decide +kernel) (by decide)
theorem s163_52 : Rn 163 52 L (vI b :: vI a :: st) T σ K ↔ inI (a + b) ∧ Rn 163 53 L (vI (a + b) :: st) T σ K := R_iadd (by decide +kernel)
theorem s163_53 : Rn 163 53 L (vI a :: vR o :: st) T σ K ↔ (sx_kd T o = 6 ∧ st.length ≤ 4) ∧ Rn 20 0 [some (vR o), some (vI a)] [] T σ (fun r T' σ' => Rn 163 56 L (sx_push r st) T' σ' K) := R_V (cm := 20) (n := 1) (idx := 51) (ci := 6) (mx := 2) (vs := [vI a]) (by decide +kernel) (by decide +kernel) rfl (by decide +kernel) rfl (by decide +kernel) (by decide +kernel)
theorem s163_56 : Rn 163 56 [l0, some (vR o), l2, l3, l4, l5] st T σ K ↔ Rn 163 57 [l0, some (vR o), l2, l3, l4, l5] (vR o :: st) T σ K := R_aload_n (n := 1) (by decide +kernel) rfl
theorem s163_57 : Rn 163 57 [l0, l1, some (vI a), l3, l4, l5] st T σ K ↔ Rn 163 58 [l0, l1, some (vI a), l3, l4, l5] (vI a :: st) T σ K := R_iload_n (n := 2) (by decide +kernel) rfl
theorem s163_58 : Rn 163 58 L st T σ K ↔ Rn 163 59 L (vI 2 :: st) T σ K := R_iconst (n := 2) (by decide +kernel) (by decide)
theorem s163_59 : Rn 163 59 L (vI b :: vI a :: st) T σ K ↔ inI (a + b) ∧ Rn 163 60 L (vI (a + b) :: st) T σ K := R_iadd (by decide +kernel)
theorem s163_60 : Rn 163 60 L (vI a :: vR o :: st) T σ K ↔ (sx_kd T o = 6 ∧ st.length ≤ 4) ∧ Rn 20 0 [some (vR o), some (vI a)] [] T σ (fun r T' σ' => Rn 163 63 L (sx_push r st) T' σ' K) := R_V (cm := 20) (n := 1) (idx := 51) (ci := 6) (mx := 2) (vs := [vI a]) (by decide +kernel) (by decide +kernel) rfl (by decide +kernel) rfl (by decide +kernel) (by decide +kernel)
theorem s163_63 : Rn 163 63 [l0, some (vR o), l2, l3, l4, l5] st T σ K ↔ Rn 163 64 [l0, some (vR o), l2, l3, l4, l5] (vR o :: st) T σ K := R_aload_n (n := 1) (by decide +kernel) rfl
theorem s163_64 : Rn 163 64 [l0, l1, some (vI a), l3, l4, l5] st T σ K ↔ Rn 163 65 [l0, l1, some (vI a), l3, l4, l5] (vI a :: st) T σ K := R_iload_n (n := 2) (by decide +kernel) rfl
theorem s163_65 : Rn 163 65 L st T σ K ↔ Rn 163 66 L (vI 3 :: st) T σ K := R_iconst (n := 3) (by decide +kernel) (by decide)
theorem s163_66 : Rn 163 66 L (vI b :: vI a :: st) T σ K ↔ inI (a + b) ∧ Rn 163 67 L (vI (a + b) :: st) T σ K := R_iadd (by decide +kernel)
theorem s163_67 : Rn 163 67 L (vI a :: vR o :: st) T σ K ↔ (sx_kd T o = 6 ∧ st.length ≤ 4) ∧ Rn 20 0 [some (vR o), some (vI a)] [] T σ (fun r T' σ' => Rn 163 70 L (sx_push r st) T' σ' K) := R_V (cm := 20) (n := 1) (idx := 51) (ci := 6) (mx := 2) (vs := [vI a]) (by decide +kernel) (by decide +kernel) rfl (by decide +kernel) rfl (by decide +kernel) (by decide +kernel)
theorem s163_70 : Rn 163 70 L (vI c :: vI b :: vI a :: st) T σ K ↔ st.length ≤ 4 ∧ Rn 33 0 [some (vI a), some (vI b), some (vI c)] [] T σ (fun r T' σ' => Rn 163 73 L (sx_push r st) T' σ' K) := R_S (cm := 33) (n := 3) (idx := 79) (mx := 3) (vs := [vI a, vI b, vI c]) (by decide +kernel) (Or.inr (by decide +kernel)) rfl (by decide +kernel) rfl (by decide +kernel)
theorem s163_73 : Rn 163 73 L (vI b :: vI a :: vR o :: st) T σ K ↔ (sx_kd T o = 20 ∧ 0 ≤ a ∧ a < sx_ln T o) ∧ Rn 163 74 L st T (sx_up σ o a b) K := R_iast (by decide +kernel)
theorem s163_74 : Rn 163 74 [some (vR o), l1, l2, l3, l4, l5] st T σ K ↔ Rn 163 75 [some (vR o), l1, l2, l3, l4, l5] (vR o :: st) T σ K := R_aload_n (n := 0) (by decide +kernel) rfl
theorem s163_75 : Rn 163 75 L (vR o :: st) T σ K ↔ sx_kd T o = 2 ∧ ∃ t, sx_rf T o 1 = some t ∧ Rn 163 78 L (vR t :: st) T σ K := R_getR (idx := 38) (ci := 2) (k := 1) (by decide +kernel) (by decide +kernel) rfl
theorem s163_78 : Rn 163 78 [l0, l1, l2, some (vI a), l4, l5] st T σ K ↔ Rn 163 79 [l0, l1, l2, some (vI a), l4, l5] (vI a :: st) T σ K := R_iload_n (n := 3) (by decide +kernel) rfl
theorem s163_79 : Rn 163 79 [l0, l1, l2, l3, some (vI a), l5] st T σ K ↔ Rn 163 81 [l0, l1, l2, l3, some (vI a), l5] (vI a :: st) T σ K := R_iload (n := 4) (by decide +kernel) rfl
theorem s163_81 : Rn 163 81 L (vI b :: vI a :: vR o :: st) T σ K ↔ (sx_kd T o = 20 ∧ 0 ≤ a ∧ a < sx_ln T o) ∧ Rn 163 82 L st T (sx_up σ o a b) K := R_iast (by decide +kernel)
theorem s163_82 : Rn 163 82 [some (vR o), l1, l2, l3, l4, l5] st T σ K ↔ Rn 163 83 [some (vR o), l1, l2, l3, l4, l5] (vR o :: st) T σ K := R_aload_n (n := 0) (by decide +kernel) rfl
theorem s163_83 : Rn 163 83 L (vR o :: st) T σ K ↔ sx_kd T o = 2 ∧ ∃ t, sx_rf T o 2 = some t ∧ Rn 163 86 L (vR t :: st) T σ K := R_getR (idx := 41) (ci := 2) (k := 2) (by decide +kernel) (by decide +kernel) rfl
theorem s163_86 : Rn 163 86 [l0, l1, l2, some (vI a), l4, l5] st T σ K ↔ Rn 163 87 [l0, l1, l2, some (vI a), l4, l5] (vI a :: st) T σ K := R_iload_n (n := 3) (by decide +kernel) rfl
theorem s163_87 : Rn 163 87 [l0, l1, l2, l3, l4, some (vI a)] st T σ K ↔ Rn 163 89 [l0, l1, l2, l3, l4, some (vI a)] (vI a :: st) T σ K := R_iload (n := 5) (by decide +kernel) rfl
theorem s163_89 : Rn 163 89 L st T σ K ↔ Rn 163 92 L (vI 255 :: st) T σ K := R_sipush (n := 255) (by decide +kernel) (by decide +kernel)
theorem s163_92 : Rn 163 92 L (vI b :: vI a :: st) T σ K ↔ (a ≠ b → Rn 163 99 L st T σ K) ∧ (a = b → Rn 163 95 L st T σ K) := R_icmp_ne (off := 7) (by decide +kernel) (by decide)
theorem s163_95 : Rn 163 95 L st T σ K ↔ Rn 163 96 L (vI (-1) :: st) T σ K := R_iconst (n := -1) (by decide +kernel) (by decide)
theorem s163_96 : Rn 163 96 L st T σ K ↔ Rn 163 101 L st T σ K := R_goto (off := 5) (by decide +kernel) (by decide)
theorem s163_99 : Rn 163 99 [l0, l1, l2, l3, l4, some (vI a)] st T σ K ↔ Rn 163 101 [l0, l1, l2, l3, l4, some (vI a)] (vI a :: st) T σ K := R_iload (n := 5) (by decide +kernel) rfl
theorem s163_101 : Rn 163 101 L (vI b :: vI a :: vR o :: st) T σ K ↔ (sx_kd T o = 20 ∧ 0 ≤ a ∧ a < sx_ln T o) ∧ Rn 163 102 L st T (sx_up σ o a b) K := R_iast (by decide +kernel)
theorem s163_102 : Rn 163 102 [some (vR o), l1, l2, l3, l4, l5] st T σ K ↔ Rn 163 103 [some (vR o), l1, l2, l3, l4, l5] (vR o :: st) T σ K := R_aload_n (n := 0) (by decide +kernel) rfl
theorem s163_103 : Rn 163 103 L (vR o :: st) T σ K ↔ Rn 163 104 L (vR o :: vR o :: st) T σ K := R_dup (v := vR o) (by decide +kernel) rfl
theorem s163_104 : Rn 163 104 L (vR o :: st) T σ K ↔ sx_kd T o = 2 ∧ Rn 163 107 L (vI (σ o 6) :: st) T σ K := R_getI (idx := 28) (ci := 2) (k := 6) (by decide +kernel) (by decide +kernel) (Or.inl rfl)
theorem s163_107 : Rn 163 107 L st T σ K ↔ Rn 163 108 L (vI 1 :: st) T σ K := R_iconst (n := 1) (by decide +kernel) (by decide)
theorem s163_108 : Rn 163 108 L (vI b :: vI a :: st) T σ K ↔ inI (a + b) ∧ Rn 163 109 L (vI (a + b) :: st) T σ K := R_iadd (by decide +kernel)
theorem s163_109 : Rn 163 109 L (vI a :: vR o :: st) T σ K ↔ sx_kd T o = 2 ∧ Rn 163 112 L st T (sx_up σ o 6 a) K := R_putI (idx := 28) (ci := 2) (k := 6) (by decide +kernel) (by decide +kernel) rfl rfl
theorem s163_112 : Rn 163 112 [l0, l1, l2, l3, some (vI a), l5] st T σ K ↔ Rn 163 114 [l0, l1, l2, l3, some (vI a), l5] (vI a :: st) T σ K := R_iload (n := 4) (by decide +kernel) rfl
theorem s163_114 : Rn 163 114 L st T σ K ↔ Rn 163 116 L (vI 10 :: st) T σ K := R_bipush (n := 10) (by decide +kernel) (by decide +kernel)
theorem s163_116 : Rn 163 116 L (vI b :: vI a :: st) T σ K ↔ (a ≠ b → Rn 163 142 L st T σ K) ∧ (a = b → Rn 163 119 L st T σ K) := R_icmp_ne (off := 26) (by decide +kernel) (by decide)
theorem s163_119 : Rn 163 119 [some (vR o), l1, l2, l3, l4, l5] st T σ K ↔ Rn 163 120 [some (vR o), l1, l2, l3, l4, l5] (vR o :: st) T σ K := R_aload_n (n := 0) (by decide +kernel) rfl
theorem s163_120 : Rn 163 120 L (vR o :: st) T σ K ↔ sx_kd T o = 2 ∧ Rn 163 123 L (vI (σ o 5) :: st) T σ K := R_getI (idx := 83) (ci := 2) (k := 5) (by decide +kernel) (by decide +kernel) (Or.inl rfl)
theorem s163_123 : Rn 163 123 L st T σ K ↔ Rn 163 124 L (vI (-1) :: st) T σ K := R_iconst (n := -1) (by decide +kernel) (by decide)
theorem s163_124 : Rn 163 124 L (vI b :: vI a :: st) T σ K ↔ (a ≠ b → Rn 163 135 L st T σ K) ∧ (a = b → Rn 163 127 L st T σ K) := R_icmp_ne (off := 11) (by decide +kernel) (by decide)
theorem s163_127 : Rn 163 127 [l0, l1, l2, l3, l4, some (vI a)] st T σ K ↔ Rn 163 129 [l0, l1, l2, l3, l4, some (vI a)] (vI a :: st) T σ K := R_iload (n := 5) (by decide +kernel) rfl
theorem s163_129 : Rn 163 129 L st T σ K ↔ Rn 163 132 L (vI 255 :: st) T σ K := R_sipush (n := 255) (by decide +kernel) (by decide +kernel)
theorem s163_132 : Rn 163 132 L (vI b :: vI a :: st) T σ K ↔ (a = b → Rn 163 137 L st T σ K) ∧ (a ≠ b → Rn 163 135 L st T σ K) := R_icmp_eq (off := 5) (by decide +kernel) (by decide)
theorem s163_135 : Rn 163 135 L st T σ K ↔ Rn 163 136 L (vI 0 :: st) T σ K := R_iconst (n := 0) (by decide +kernel) (by decide)
theorem s163_136 : Rn 163 136 L [vI a] T σ K ↔ (a = 0 ∨ a = 1) ∧ K (some (vI a)) T σ := R_retZ (by decide +kernel) (by decide +kernel)
theorem s163_137 : Rn 163 137 [some (vR o), l1, l2, l3, l4, l5] st T σ K ↔ Rn 163 138 [some (vR o), l1, l2, l3, l4, l5] (vR o :: st) T σ K := R_aload_n (n := 0) (by decide +kernel) rfl
theorem s163_138 : Rn 163 138 [l0, l1, l2, some (vI a), l4, l5] st T σ K ↔ Rn 163 139 [l0, l1, l2, some (vI a), l4, l5] (vI a :: st) T σ K := R_iload_n (n := 3) (by decide +kernel) rfl
theorem s163_139 : Rn 163 139 L (vI a :: vR o :: st) T σ K ↔ sx_kd T o = 2 ∧ Rn 163 142 L st T (sx_up σ o 5 a) K := R_putI (idx := 83) (ci := 2) (k := 5) (by decide +kernel) (by decide +kernel) rfl rfl
theorem s163_142 : Rn 163 142 L st T σ K ↔ Rn 163 143 L (vI 1 :: st) T σ K := R_iconst (n := 1) (by decide +kernel) (by decide)
theorem s163_143 : Rn 163 143 L [vI a] T σ K ↔ (a = 0 ∨ a = 1) ∧ K (some (vI a)) T σ := R_retZ (by decide +kernel) (by decide +kernel)
theorem s164_0 : Rn 164 0 [some (vR o), l1, l2, l3] st T σ K ↔ Rn 164 1 [some (vR o), l1, l2, l3] (vR o :: st) T σ K := R_aload_n (n := 0) (by decide +kernel) rfl
theorem s164_1 : Rn 164 1 L (vR o :: st) T σ K ↔ sx_kd T o = 2 ∧ Rn 164 4 L (vI (σ o 6) :: st) T σ K := R_getI (idx := 28) (ci := 2) (k := 6) (by decide +kernel) (by decide +kernel) (Or.inl rfl)
theorem s164_4 : Rn 164 4 L (vI a :: st) T σ K ↔ (a ≤ 0 → Rn 164 17 L st T σ K) ∧ (0 < a → Rn 164 7 L st T σ K) := R_if_le (off := 13) (by decide +kernel) (by decide)
theorem s164_7 : Rn 164 7 [some (vR o), l1, l2, l3] st T σ K ↔ Rn 164 8 [some (vR o), l1, l2, l3] (vR o :: st) T σ K := R_aload_n (n := 0) (by decide +kernel) rfl
theorem s164_8 : Rn 164 8 L (vR o :: st) T σ K ↔ sx_kd T o = 2 ∧ Rn 164 11 L (vI (σ o 5) :: st) T σ K := R_getI (idx := 83) (ci := 2) (k := 5) (by decide +kernel) (by decide +kernel) (Or.inl rfl)
theorem s164_11 : Rn 164 11 L st T σ K ↔ Rn 164 12 L (vI (-1) :: st) T σ K := R_iconst (n := -1) (by decide +kernel) (by decide)
theorem s164_12 : Rn 164 12 L (vI b :: vI a :: st) T σ K ↔ (a ≠ b → Rn 164 17 L st T σ K) ∧ (a = b → Rn 164 15 L st T σ K) := R_icmp_ne (off := 5) (by decide +kernel) (by decide)
theorem s164_15 : Rn 164 15 L st T σ K ↔ Rn 164 16 L (vI 0 :: st) T σ K := R_iconst (n := 0) (by decide +kernel) (by decide)
theorem s164_16 : Rn 164 16 L [vI a] T σ K ↔ (a = 0 ∨ a = 1) ∧ K (some (vI a)) T σ := R_retZ (by decide +kernel) (by decide +kernel)
theorem s164_17 : Rn 164 17 L st T σ K ↔ Rn 164 18 L (vI 0 :: st) T σ K := R_iconst (n := 0) (by decide +kernel) (by decide)
theorem s164_18 : Rn 164 18 [l0, l1, l2, l3] (vI a :: st) T σ K ↔ Rn 164 19 [l0, some (vI a), l2, l3] st T σ K := R_istore_n (n := 1) (by decide +kernel) rfl
theorem s164_19 : Rn 164 19 [l0, some (vI a), l2, l3] st T σ K ↔ Rn 164 20 [l0, some (vI a), l2, l3] (vI a :: st) T σ K := R_iload_n (n := 1) (by decide +kernel) rfl
theorem s164_20 : Rn 164 20 L st T σ K ↔ Rn 164 22 L (vI 40 :: st) T σ K := R_bipush (n := 40) (by decide +kernel) (by decide +kernel)
theorem s164_22 : Rn 164 22 L (vI b :: vI a :: st) T σ K ↔ (b ≤ a → Rn 164 95 L st T σ K) ∧ (a < b → Rn 164 25 L st T σ K) := R_icmp_ge (off := 73) (by decide +kernel) (by decide)
theorem s164_25 : Rn 164 25 [some (vR o), l1, l2, l3] st T σ K ↔ Rn 164 26 [some (vR o), l1, l2, l3] (vR o :: st) T σ K := R_aload_n (n := 0) (by decide +kernel) rfl
theorem s164_26 : Rn 164 26 [l0, some (vI a), l2, l3] st T σ K ↔ Rn 164 27 [l0, some (vI a), l2, l3] (vI a :: st) T σ K := R_iload_n (n := 1) (by decide +kernel) rfl
theorem s164_27 : Rn 164 27 L (vI a :: vR o :: st) T σ K ↔ (sx_kd T o = 2 ∧ st.length ≤ 4) ∧ Rn 49 0 [some (vR o), some (vI a)] [] T σ (fun r T' σ' => Rn 164 30 L (sx_push r st) T' σ' K) := R_V (cm := 49) (n := 1) (idx := 31) (ci := 2) (mx := 2) (vs := [vI a]) (by decide +kernel) (by decide +kernel) rfl (by decide +kernel) rfl (by decide +kernel) (by decide +kernel)
theorem s164_30 : Rn 164 30 L (vI a :: st) T σ K ↔ (a = 0 → Rn 164 89 L st T σ K) ∧ (a ≠ 0 → Rn 164 33 L st T σ K) := R_if_eq (off := 59) (by decide +kernel) (by decide)
theorem s164_33 : Rn 164 33 [l0, some (vI a), l2, l3] st T σ K ↔ Rn 164 34 [l0, some (vI a), l2, l3] (vI a :: st) T σ K := R_iload_n (n := 1) (by decide +kernel) rfl
theorem s164_34 : Rn 164 34 [some (vR o), l1, l2, l3] st T σ K ↔ Rn 164 35 [some (vR o), l1, l2, l3] (vR o :: st) T σ K := R_aload_n (n := 0) (by decide +kernel) rfl
theorem s164_35 : Rn 164 35 L (vR o :: st) T σ K ↔ sx_kd T o = 2 ∧ Rn 164 38 L (vI (σ o 5) :: st) T σ K := R_getI (idx := 83) (ci := 2) (k := 5) (by decide +kernel) (by decide +kernel) (Or.inl rfl)
theorem s164_38 : Rn 164 38 L (vI b :: vI a :: st) T σ K ↔ (a = b → Rn 164 89 L st T σ K) ∧ (a ≠ b → Rn 164 41 L st T σ K) := R_icmp_eq (off := 51) (by decide +kernel) (by decide)
theorem s164_41 : Rn 164 41 [some (vR o), l1, l2, l3] st T σ K ↔ Rn 164 42 [some (vR o), l1, l2, l3] (vR o :: st) T σ K := R_aload_n (n := 0) (by decide +kernel) rfl
theorem s164_42 : Rn 164 42 L (vR o :: st) T σ K ↔ sx_kd T o = 2 ∧ ∃ t, sx_rf T o 2 = some t ∧ Rn 164 45 L (vR t :: st) T σ K := R_getR (idx := 41) (ci := 2) (k := 2) (by decide +kernel) (by decide +kernel) rfl
theorem s164_45 : Rn 164 45 [l0, some (vI a), l2, l3] st T σ K ↔ Rn 164 46 [l0, some (vI a), l2, l3] (vI a :: st) T σ K := R_iload_n (n := 1) (by decide +kernel) rfl
theorem s164_46 : Rn 164 46 L (vI a :: vR o :: st) T σ K ↔ (sx_kd T o = 20 ∧ 0 ≤ a ∧ a < sx_ln T o) ∧ Rn 164 47 L (vI (σ o a) :: st) T σ K := R_iald (by decide +kernel) (by decide)
theorem s164_47 : Rn 164 47 [l0, l1, l2, l3] (vI a :: st) T σ K ↔ Rn 164 48 [l0, l1, some (vI a), l3] st T σ K := R_istore_n (n := 2) (by decide +kernel) rfl
theorem s164_48 : Rn 164 48 [some (vR o), l1, l2, l3] st T σ K ↔ Rn 164 49 [some (vR o), l1, l2, l3] (vR o :: st) T σ K := R_aload_n (n := 0) (by decide +kernel) rfl
theorem s164_49 : Rn 164 49 L (vR o :: st) T σ K ↔ sx_kd T o = 2 ∧ ∃ t, sx_rf T o 1 = some t ∧ Rn 164 52 L (vR t :: st) T σ K := R_getR (idx := 38) (ci := 2) (k := 1) (by decide +kernel) (by decide +kernel) rfl
theorem s164_52 : Rn 164 52 [l0, some (vI a), l2, l3] st T σ K ↔ Rn 164 53 [l0, some (vI a), l2, l3] (vI a :: st) T σ K := R_iload_n (n := 1) (by decide +kernel) rfl
theorem s164_53 : Rn 164 53 L (vI a :: vR o :: st) T σ K ↔ (sx_kd T o = 20 ∧ 0 ≤ a ∧ a < sx_ln T o) ∧ Rn 164 54 L (vI (σ o a) :: st) T σ K := R_iald (by decide +kernel) (by decide)
theorem s164_54 : Rn 164 54 L st T σ K ↔ Rn 164 55 L (vI 1 :: st) T σ K := R_iconst (n := 1) (by decide +kernel) (by decide)
theorem s164_55 : Rn 164 55 L (vI b :: vI a :: st) T σ K ↔ inI (a + b) ∧ Rn 164 56 L (vI (a + b) :: st) T σ K := R_iadd (by decide +kernel)
theorem s164_56 : Rn 164 56 [l0, l1, l2, l3] (vI a :: st) T σ K ↔ Rn 164 57 [l0, l1, l2, some (vI a)] st T σ K := R_istore_n (n := 3) (by decide +kernel) rfl
theorem s164_57 : Rn 164 57 [some (vR o), l1, l2, l3] st T σ K ↔ Rn 164 58 [some (vR o), l1, l2, l3] (vR o :: st) T σ K := R_aload_n (n := 0) (by decide +kernel) rfl
theorem s164_58 : Rn 164 58 [l0, l1, some (vI a), l3] st T σ K ↔ Rn 164 59 [l0, l1, some (vI a), l3] (vI a :: st) T σ K := R_iload_n (n := 2) (by decide +kernel) rfl
theorem s164_59 : Rn 164 59 L (vI a :: vR o :: st) T σ K ↔ (sx_kd T o = 2 ∧ st.length ≤ 4) ∧ Rn 49 0 [some (vR o), some (vI a)] [] T σ (fun r T' σ' => Rn 164 62 L (sx_push r st) T' σ' K) := R_V (cm := 49) (n := 1) (idx := 31) (ci := 2) (mx := 2) (vs := [vI a]) (by decide +kernel) (by decide +kernel) rfl (by decide +kernel) rfl (by decide +kernel) (by decide +kernel)
theorem s164_62 : Rn 164 62 L (vI a :: st) T σ K ↔ (a = 0 → Rn 164 87 L st T σ K) ∧ (a ≠ 0 → Rn 164 65 L st T σ K) := R_if_eq (off := 25) (by decide +kernel) (by decide)
theorem s164_65 : Rn 164 65 [some (vR o), l1, l2, l3] st T σ K ↔ Rn 164 66 [some (vR o), l1, l2, l3] (vR o :: st) T σ K := R_aload_n (n := 0) (by decide +kernel) rfl
theorem s164_66 : Rn 164 66 L (vR o :: st) T σ K ↔ sx_kd T o = 2 ∧ ∃ t, sx_rf T o 1 = some t ∧ Rn 164 69 L (vR t :: st) T σ K := R_getR (idx := 38) (ci := 2) (k := 1) (by decide +kernel) (by decide +kernel) rfl
theorem s164_69 : Rn 164 69 [l0, l1, some (vI a), l3] st T σ K ↔ Rn 164 70 [l0, l1, some (vI a), l3] (vI a :: st) T σ K := R_iload_n (n := 2) (by decide +kernel) rfl
theorem s164_70 : Rn 164 70 L (vI a :: vR o :: st) T σ K ↔ (sx_kd T o = 20 ∧ 0 ≤ a ∧ a < sx_ln T o) ∧ Rn 164 71 L (vI (σ o a) :: st) T σ K := R_iald (by decide +kernel) (by decide)
theorem s164_71 : Rn 164 71 [l0, l1, l2, some (vI a)] st T σ K ↔ Rn 164 72 [l0, l1, l2, some (vI a)] (vI a :: st) T σ K := R_iload_n (n := 3) (by decide +kernel) rfl
theorem s164_72 : Rn 164 72 L (vI b :: vI a :: st) T σ K ↔ (a < b → Rn 164 87 L st T σ K) ∧ (b ≤ a → Rn 164 75 L st T σ K) := R_icmp_lt (off := 15) (by decide +kernel) (by decide)
theorem s164_75 : Rn 164 75 [some (vR o), l1, l2, l3] st T σ K ↔ Rn 164 76 [some (vR o), l1, l2, l3] (vR o :: st) T σ K := R_aload_n (n := 0) (by decide +kernel) rfl
theorem s164_76 : Rn 164 76 [l0, some (vI a), l2, l3] st T σ K ↔ Rn 164 77 [l0, some (vI a), l2, l3] (vI a :: st) T σ K := R_iload_n (n := 1) (by decide +kernel) rfl
theorem s164_77 : Rn 164 77 [l0, l1, some (vI a), l3] st T σ K ↔ Rn 164 78 [l0, l1, some (vI a), l3] (vI a :: st) T σ K := R_iload_n (n := 2) (by decide +kernel) rfl
theorem s164_78 : Rn 164 78 L (vI b :: vI a :: vR o :: st) T σ K ↔ (sx_kd T o = 2 ∧ st.length ≤ 4) ∧ Rn 62 0 [some (vR o), some (vI a), some (vI b)] [] T σ (fun r T' σ' => Rn 164 81 L (sx_push r st) T' σ' K) := R_V (cm := 62) (n := 2) (idx := 86) (ci := 2) (mx := 3) (vs := [vI a, vI b]) (by decide +kernel) (by decide +kernel) rfl (by decide +kernel) rfl (by decide +kernel) (by decide +kernel)
theorem s164_81 : Rn 164 81 L st T σ K ↔ Rn 164 82 L (vI 1 :: st) T σ K := R_iconst (n := 1) (by decide +kernel) (by decide)
theorem s164_82 : Rn 164 82 [l0, l1, l2, some (vI a)] st T σ K ↔ Rn 164 83 [l0, l1, l2, some (vI a)] (vI a :: st) T σ K := R_iload_n (n := 3) (by decide +kernel) rfl
theorem s164_83 : Rn 164 83 L (vI b :: vI a :: st) T σ K ↔ (0 ≤ b ∧ b ≤ 31) ∧ inI (a * 2 ^ b.toNat) ∧ Rn 164 84 L (vI (a * 2 ^ b.toNat) :: st) T σ K := R_ishl (by decide +kernel)
theorem s164_84 : Rn 164 84 L (vI b :: vI a :: st) T σ K ↔ (a < b → Rn 164 89 L st T σ K) ∧ (b ≤ a → Rn 164 87 L st T σ K) := R_icmp_lt (off := 5) (by decide +kernel) (by decide)
theorem s164_87 : Rn 164 87 L st T σ K ↔ Rn 164 88 L (vI 0 :: st) T σ K := R_iconst (n := 0) (by decide +kernel) (by decide)
theorem s164_88 : Rn 164 88 L [vI a] T σ K ↔ (a = 0 ∨ a = 1) ∧ K (some (vI a)) T σ := R_retZ (by decide +kernel) (by decide +kernel)
theorem s164_89 : Rn 164 89 [l0, some (vI a), l2, l3] st T σ K ↔ inI (a + 1) ∧ Rn 164 92 [l0, some (vI (a + 1)), l2, l3] st T σ K := R_iinc (n := 1) (d := 1) (by decide +kernel) rfl
theorem s164_92 : Rn 164 92 L st T σ K ↔ Rn 164 19 L st T σ K := R_goto (off := -73) (by decide +kernel) (by decide)
theorem s164_95 : Rn 164 95 L st T σ K ↔ Rn 164 96 L (vI 1 :: st) T σ K := R_iconst (n := 1) (by decide +kernel) (by decide)
theorem s164_96 : Rn 164 96 L [vI a] T σ K ↔ (a = 0 ∨ a = 1) ∧ K (some (vI a)) T σ := R_retZ (by decide +kernel) (by decide +kernel)
theorem s165_0 : Rn 165 0 L st T σ K ↔ Rn 165 1 L (vI 0 :: st) T σ K := R_iconst (n := 0) (by decide +kernel) (by decide)
theorem s165_1 : Rn 165 1 [l0, l1, l2] (vI a :: st) T σ K ↔ Rn 165 2 [l0, some (vI a), l2] st T σ K := R_istore_n (n := 1) (by decide +kernel) rfl
theorem s165_2 : Rn 165 2 [l0, some (vI a), l2] st T σ K ↔ Rn 165 3 [l0, some (vI a), l2] (vI a :: st) T σ K := R_iload_n (n := 1) (by decide +kernel) rfl
theorem s165_3 : Rn 165 3 L st T σ K ↔ Rn 165 5 L (vI 40 :: st) T σ K := R_bipush (n := 40) (by decide +kernel) (by decide +kernel)
theorem s165_5 : Rn 165 5 L (vI b :: vI a :: st) T σ K ↔ (b ≤ a → Rn 165 74 L st T σ K) ∧ (a < b → Rn 165 8 L st T σ K) := R_icmp_ge (off := 69) (by decide +kernel) (by decide)
theorem s165_8 : Rn 165 8 [l0, some (vI a), l2] st T σ K ↔ Rn 165 9 [l0, some (vI a), l2] (vI a :: st) T σ K := R_iload_n (n := 1) (by decide +kernel) rfl
theorem s165_9 : Rn 165 9 L st T σ K ↔ Rn 165 10 L (vI 1 :: st) T σ K := R_iconst (n := 1) (by decide +kernel) (by decide)
theorem s165_10 : Rn 165 10 L (vI b :: vI a :: st) T σ K ↔ inI (a + b) ∧ Rn 165 11 L (vI (a + b) :: st) T σ K := R_iadd (by decide +kernel)
theorem s165_11 : Rn 165 11 [l0, l1, l2] (vI a :: st) T σ K ↔ Rn 165 12 [l0, l1, some (vI a)] st T σ K := R_istore_n (n := 2) (by decide +kernel) rfl
theorem s165_12 : Rn 165 12 [l0, l1, some (vI a)] st T σ K ↔ Rn 165 13 [l0, l1, some (vI a)] (vI a :: st) T σ K := R_iload_n (n := 2) (by decide +kernel) rfl
theorem s165_13 : Rn 165 13 L st T σ K ↔ Rn 165 15 L (vI 40 :: st) T σ K := R_bipush (n := 40) (by decide +kernel) (by decide +kernel)
theorem s165_15 : Rn 165 15 L (vI b :: vI a :: st) T σ K ↔ (b ≤ a → Rn 165 68 L st T σ K) ∧ (a < b → Rn 165 18 L st T σ K) := R_icmp_ge (off := 53) (by decide +kernel) (by decide)
theorem s165_18 : Rn 165 18 [some (vR o), l1, l2] st T σ K ↔ Rn 165 19 [some (vR o), l1, l2] (vR o :: st) T σ K := R_aload_n (n := 0) (by decide +kernel) rfl
theorem s165_19 : Rn 165 19 [l0, some (vI a), l2] st T σ K ↔ Rn 165 20 [l0, some (vI a), l2] (vI a :: st) T σ K := R_iload_n (n := 1) (by decide +kernel) rfl
theorem s165_20 : Rn 165 20 L (vI a :: vR o :: st) T σ K ↔ (sx_kd T o = 2 ∧ st.length ≤ 4) ∧ Rn 49 0 [some (vR o), some (vI a)] [] T σ (fun r T' σ' => Rn 165 23 L (sx_push r st) T' σ' K) := R_V (cm := 49) (n := 1) (idx := 31) (ci := 2) (mx := 2) (vs := [vI a]) (by decide +kernel) (by decide +kernel) rfl (by decide +kernel) rfl (by decide +kernel) (by decide +kernel)
theorem s165_23 : Rn 165 23 L (vI a :: st) T σ K ↔ (a = 0 → Rn 165 62 L st T σ K) ∧ (a ≠ 0 → Rn 165 26 L st T σ K) := R_if_eq (off := 39) (by decide +kernel) (by decide)
theorem s165_26 : Rn 165 26 [some (vR o), l1, l2] st T σ K ↔ Rn 165 27 [some (vR o), l1, l2] (vR o :: st) T σ K := R_aload_n (n := 0) (by decide +kernel) rfl
theorem s165_27 : Rn 165 27 [l0, l1, some (vI a)] st T σ K ↔ Rn 165 28 [l0, l1, some (vI a)] (vI a :: st) T σ K := R_iload_n (n := 2) (by decide +kernel) rfl
theorem s165_28 : Rn 165 28 L (vI a :: vR o :: st) T σ K ↔ (sx_kd T o = 2 ∧ st.length ≤ 4) ∧ Rn 49 0 [some (vR o), some (vI a)] [] T σ (fun r T' σ' => Rn 165 31 L (sx_push r st) T' σ' K) := R_V (cm := 49) (n := 1) (idx := 31) (ci := 2) (mx := 2) (vs := [vI a]) (by decide +kernel) (by decide +kernel) rfl (by decide +kernel) rfl (by decide +kernel) (by decide +kernel)
theorem s165_31 : Rn 165 31 L (vI a :: st) T σ K ↔ (a = 0 → Rn 165 62 L st T σ K) ∧ (a ≠ 0 → Rn 165 34 L st T σ K) := R_if_eq (off := 31) (by decide +kernel) (by decide)
theorem s165_34 : Rn 165 34 [some (vR o), l1, l2] st T σ K ↔ Rn 165 35 [some (vR o), l1, l2] (vR o :: st) T σ K := R_aload_n (n := 0) (by decide +kernel) rfl
theorem s165_35 : Rn 165 35 [l0, some (vI a), l2] st T σ K ↔ Rn 165 36 [l0, some (vI a), l2] (vI a :: st) T σ K := R_iload_n (n := 1) (by decide +kernel) rfl
theorem s165_36 : Rn 165 36 [l0, l1, some (vI a)] st T σ K ↔ Rn 165 37 [l0, l1, some (vI a)] (vI a :: st) T σ K := R_iload_n (n := 2) (by decide +kernel) rfl
theorem s165_37 : Rn 165 37 L (vI b :: vI a :: vR o :: st) T σ K ↔ (sx_kd T o = 2 ∧ st.length ≤ 4) ∧ Rn 62 0 [some (vR o), some (vI a), some (vI b)] [] T σ (fun r T' σ' => Rn 165 40 L (sx_push r st) T' σ' K) := R_V (cm := 62) (n := 2) (idx := 86) (ci := 2) (mx := 3) (vs := [vI a, vI b]) (by decide +kernel) (by decide +kernel) rfl (by decide +kernel) rfl (by decide +kernel) (by decide +kernel)
theorem s165_40 : Rn 165 40 L st T σ K ↔ Rn 165 41 L (vI 1 :: st) T σ K := R_iconst (n := 1) (by decide +kernel) (by decide)
theorem s165_41 : Rn 165 41 [some (vR o), l1, l2] st T σ K ↔ Rn 165 42 [some (vR o), l1, l2] (vR o :: st) T σ K := R_aload_n (n := 0) (by decide +kernel) rfl
theorem s165_42 : Rn 165 42 L (vR o :: st) T σ K ↔ sx_kd T o = 2 ∧ ∃ t, sx_rf T o 1 = some t ∧ Rn 165 45 L (vR t :: st) T σ K := R_getR (idx := 38) (ci := 2) (k := 1) (by decide +kernel) (by decide +kernel) rfl
theorem s165_45 : Rn 165 45 [l0, some (vI a), l2] st T σ K ↔ Rn 165 46 [l0, some (vI a), l2] (vI a :: st) T σ K := R_iload_n (n := 1) (by decide +kernel) rfl
theorem s165_46 : Rn 165 46 L (vI a :: vR o :: st) T σ K ↔ (sx_kd T o = 20 ∧ 0 ≤ a ∧ a < sx_ln T o) ∧ Rn 165 47 L (vI (σ o a) :: st) T σ K := R_iald (by decide +kernel) (by decide)
theorem s165_47 : Rn 165 47 [some (vR o), l1, l2] st T σ K ↔ Rn 165 48 [some (vR o), l1, l2] (vR o :: st) T σ K := R_aload_n (n := 0) (by decide +kernel) rfl
theorem s165_48 : Rn 165 48 L (vR o :: st) T σ K ↔ sx_kd T o = 2 ∧ ∃ t, sx_rf T o 1 = some t ∧ Rn 165 51 L (vR t :: st) T σ K := R_getR (idx := 38) (ci := 2) (k := 1) (by decide +kernel) (by decide +kernel) rfl
theorem s165_51 : Rn 165 51 [l0, l1, some (vI a)] st T σ K ↔ Rn 165 52 [l0, l1, some (vI a)] (vI a :: st) T σ K := R_iload_n (n := 2) (by decide +kernel) rfl
theorem s165_52 : Rn 165 52 L (vI a :: vR o :: st) T σ K ↔ (sx_kd T o = 20 ∧ 0 ≤ a ∧ a < sx_ln T o) ∧ Rn 165 53 L (vI (σ o a) :: st) T σ K := R_iald (by decide +kernel) (by decide)
theorem s165_53 : Rn 165 53 L (vI b :: vI a :: st) T σ K ↔ st.length ≤ 4 ∧ Rn 165 56 L (vI (min a b) :: st) T σ K := R_min (idx := 89) (by decide +kernel) (by decide +kernel) (by decide +kernel) (by decide +kernel)
theorem s165_56 : Rn 165 56 L (vI b :: vI a :: st) T σ K ↔ (0 ≤ b ∧ b ≤ 31) ∧ inI (a * 2 ^ b.toNat) ∧ Rn 165 57 L (vI (a * 2 ^ b.toNat) :: st) T σ K := R_ishl (by decide +kernel)
theorem s165_57 : Rn 165 57 L (vI b :: vI a :: st) T σ K ↔ (b ≤ a → Rn 165 62 L st T σ K) ∧ (a < b → Rn 165 60 L st T σ K) := R_icmp_ge (off := 5) (by decide +kernel) (by decide)
theorem s165_60 : Rn 165 60 L st T σ K ↔ Rn 165 61 L (vI 0 :: st) T σ K := R_iconst (n := 0) (by decide +kernel) (by decide)
theorem s165_61 : Rn 165 61 L [vI a] T σ K ↔ (a = 0 ∨ a = 1) ∧ K (some (vI a)) T σ := R_retZ (by decide +kernel) (by decide +kernel)
theorem s165_62 : Rn 165 62 [l0, l1, some (vI a)] st T σ K ↔ inI (a + 1) ∧ Rn 165 65 [l0, l1, some (vI (a + 1))] st T σ K := R_iinc (n := 2) (d := 1) (by decide +kernel) rfl
theorem s165_65 : Rn 165 65 L st T σ K ↔ Rn 165 12 L st T σ K := R_goto (off := -53) (by decide +kernel) (by decide)
theorem s165_68 : Rn 165 68 [l0, some (vI a), l2] st T σ K ↔ inI (a + 1) ∧ Rn 165 71 [l0, some (vI (a + 1)), l2] st T σ K := R_iinc (n := 1) (d := 1) (by decide +kernel) rfl
theorem s165_71 : Rn 165 71 L st T σ K ↔ Rn 165 2 L st T σ K := R_goto (off := -69) (by decide +kernel) (by decide)
theorem s165_74 : Rn 165 74 L st T σ K ↔ Rn 165 75 L (vI 1 :: st) T σ K := R_iconst (n := 1) (by decide +kernel) (by decide)
theorem s165_75 : Rn 165 75 L [vI a] T σ K ↔ (a = 0 ∨ a = 1) ∧ K (some (vI a)) T σ := R_retZ (by decide +kernel) (by decide +kernel)
theorem s166_0 : Rn 166 0 [l0, some (vI a)] st T σ K ↔ Rn 166 1 [l0, some (vI a)] (vI a :: st) T σ K := R_iload_n (n := 1) (by decide +kernel) rfl
theorem s166_1 : Rn 166 1 L (vI a :: st) T σ K ↔ (a < 0 → Rn 166 10 L st T σ K) ∧ (0 ≤ a → Rn 166 4 L st T σ K) := R_if_lt (off := 9) (by decide +kernel) (by decide)
theorem s166_4 : Rn 166 4 [l0, some (vI a)] st T σ K ↔ Rn 166 5 [l0, some (vI a)] (vI a :: st) T σ K := R_iload_n (n := 1) (by decide +kernel) rfl
theorem s166_5 : Rn 166 5 L st T σ K ↔ Rn 166 7 L (vI 6 :: st) T σ K := R_bipush (n := 6) (by decide +kernel) (by decide +kernel)
theorem s166_7 : Rn 166 7 L (vI b :: vI a :: st) T σ K ↔ (a < b → Rn 166 14 L st T σ K) ∧ (b ≤ a → Rn 166 10 L st T σ K) := R_icmp_lt (off := 7) (by decide +kernel) (by decide)
theorem s166_10 : Rn 166 10 L st T σ K ↔ Rn 166 11 L (vI (-1) :: st) T σ K := R_iconst (n := -1) (by decide +kernel) (by decide)
theorem s166_11 : Rn 166 11 L st T σ K ↔ Rn 166 20 L st T σ K := R_goto (off := 9) (by decide +kernel) (by decide)
theorem s166_14 : Rn 166 14 [some (vR o), l1] st T σ K ↔ Rn 166 15 [some (vR o), l1] (vR o :: st) T σ K := R_aload_n (n := 0) (by decide +kernel) rfl
theorem s166_15 : Rn 166 15 L (vR o :: st) T σ K ↔ sx_kd T o = 8 ∧ ∃ t, sx_rf T o 10 = some t ∧ Rn 166 18 L (vR t :: st) T σ K := R_getR (idx := 77) (ci := 8) (k := 10) (by decide +kernel) (by decide +kernel) rfl
theorem s166_18 : Rn 166 18 [l0, some (vI a)] st T σ K ↔ Rn 166 19 [l0, some (vI a)] (vI a :: st) T σ K := R_iload_n (n := 1) (by decide +kernel) rfl
theorem s166_19 : Rn 166 19 L (vI a :: vR o :: st) T σ K ↔ (sx_kd T o = 20 ∧ 0 ≤ a ∧ a < sx_ln T o) ∧ Rn 166 20 L (vI (σ o a) :: st) T σ K := R_iald (by decide +kernel) (by decide)
theorem s166_20 : Rn 166 20 L [vI a] T σ K ↔ K (some (vI a)) T σ := R_ret (by decide +kernel) (by decide +kernel)
theorem s167_0 : Rn 167 0 [some (vR o)] st T σ K ↔ Rn 167 1 [some (vR o)] (vR o :: st) T σ K := R_aload_n (n := 0) (by decide +kernel) rfl
theorem s167_1 : Rn 167 1 L (vR o :: st) T σ K ↔ st.length ≤ 4 ∧ Rn 167 4 L st T σ K := R_oinit (idx := 1) (by decide +kernel) (by decide +kernel) (by decide +kernel) (by decide +kernel)
theorem s167_4 : Rn 167 4 [some (vR o)] st T σ K ↔ Rn 167 5 [some (vR o)] (vR o :: st) T σ K := R_aload_n (n := 0) (by decide +kernel) rfl
theorem s167_5 : Rn 167 5 L st T σ K ↔ Rn 167 8 L (vI 481 :: st) T σ K := R_sipush (n := 481) (by decide +kernel) (by decide +kernel)
theorem s167_8 : Rn 167 8 L (vI a :: st) T σ K ↔ (0 ≤ a ∧ a ≤ 100000 ∧ T.length < 1000000) ∧ Rn 167 10 L (vR T.length :: st) (T ++ [(20, a.toNat, [])]) σ K := R_newI (by decide +kernel)
theorem s167_10 : Rn 167 10 L (vR p :: vR o :: st) T σ K ↔ (sx_kd T o = 9 ∧ p < T.length) ∧ Rn 167 13 L st (sx_setR T o 0 p) σ K := R_putR (idx := 7) (ci := 9) (k := 0) (by decide +kernel) (by decide +kernel) rfl rfl (by decide +kernel) (by decide +kernel)
theorem s167_13 : Rn 167 13 [some (vR o)] st T σ K ↔ Rn 167 14 [some (vR o)] (vR o :: st) T σ K := R_aload_n (n := 0) (by decide +kernel) rfl
theorem s167_14 : Rn 167 14 L st T σ K ↔ Rn 167 17 L (vI 9620 :: st) T σ K := R_sipush (n := 9620) (by decide +kernel) (by decide +kernel)
theorem s167_17 : Rn 167 17 L (vI a :: st) T σ K ↔ (0 ≤ a ∧ a ≤ 100000 ∧ T.length < 1000000) ∧ Rn 167 19 L (vR T.length :: st) (T ++ [(20, a.toNat, [])]) σ K := R_newI (by decide +kernel)
theorem s167_19 : Rn 167 19 L (vR p :: vR o :: st) T σ K ↔ (sx_kd T o = 9 ∧ p < T.length) ∧ Rn 167 22 L st (sx_setR T o 1 p) σ K := R_putR (idx := 13) (ci := 9) (k := 1) (by decide +kernel) (by decide +kernel) rfl rfl (by decide +kernel) (by decide +kernel)
theorem s167_22 : Rn 167 22 [some (vR o)] st T σ K ↔ Rn 167 23 [some (vR o)] (vR o :: st) T σ K := R_aload_n (n := 0) (by decide +kernel) rfl
theorem s167_23 : Rn 167 23 L st T σ K ↔ Rn 167 26 L (vI 481 :: st) T σ K := R_sipush (n := 481) (by decide +kernel) (by decide +kernel)
theorem s167_26 : Rn 167 26 L (vI a :: st) T σ K ↔ (0 ≤ a ∧ a ≤ 100000 ∧ T.length < 1000000) ∧ Rn 167 28 L (vR T.length :: st) (T ++ [(20, a.toNat, [])]) σ K := R_newI (by decide +kernel)
theorem s167_28 : Rn 167 28 L (vR p :: vR o :: st) T σ K ↔ (sx_kd T o = 9 ∧ p < T.length) ∧ Rn 167 31 L st (sx_setR T o 2 p) σ K := R_putR (idx := 16) (ci := 9) (k := 2) (by decide +kernel) (by decide +kernel) rfl rfl (by decide +kernel) (by decide +kernel)
theorem s167_31 : Rn 167 31 [some (vR o)] st T σ K ↔ Rn 167 32 [some (vR o)] (vR o :: st) T σ K := R_aload_n (n := 0) (by decide +kernel) rfl
theorem s167_32 : Rn 167 32 L st T σ K ↔ Rn 167 35 L (vI 481 :: st) T σ K := R_sipush (n := 481) (by decide +kernel) (by decide +kernel)
theorem s167_35 : Rn 167 35 L (vI a :: st) T σ K ↔ (0 ≤ a ∧ a ≤ 100000 ∧ T.length < 1000000) ∧ Rn 167 37 L (vR T.length :: st) (T ++ [(20, a.toNat, [])]) σ K := R_newI (by decide +kernel)
theorem s167_37 : Rn 167 37 L (vR p :: vR o :: st) T σ K ↔ (sx_kd T o = 9 ∧ p < T.length) ∧ Rn 167 40 L st (sx_setR T o 3 p) σ K := R_putR (idx := 19) (ci := 9) (k := 3) (by decide +kernel) (by decide +kernel) rfl rfl (by decide +kernel) (by decide +kernel)
theorem s167_40 : Rn 167 40 [some (vR o)] st T σ K ↔ Rn 167 41 [some (vR o)] (vR o :: st) T σ K := R_aload_n (n := 0) (by decide +kernel) rfl
theorem s167_41 : Rn 167 41 L st T σ K ↔ Rn 167 42 L (vI 0 :: st) T σ K := R_iconst (n := 0) (by decide +kernel) (by decide)
theorem s167_42 : Rn 167 42 L (vI a :: vR o :: st) T σ K ↔ sx_kd T o = 9 ∧ Rn 167 45 L st T (sx_up σ o 4 a) K := R_putI (idx := 22) (ci := 9) (k := 4) (by decide +kernel) (by decide +kernel) rfl rfl
theorem s167_45 : Rn 167 45 [some (vR o)] st T σ K ↔ Rn 167 46 [some (vR o)] (vR o :: st) T σ K := R_aload_n (n := 0) (by decide +kernel) rfl
theorem s167_46 : Rn 167 46 L st T σ K ↔ Rn 167 47 L (vI 1 :: st) T σ K := R_iconst (n := 1) (by decide +kernel) (by decide)
theorem s167_47 : Rn 167 47 L (vI a :: vR o :: st) T σ K ↔ sx_kd T o = 9 ∧ Rn 167 50 L st T (sx_up σ o 5 a) K := R_putI (idx := 26) (ci := 9) (k := 5) (by decide +kernel) (by decide +kernel) rfl rfl
theorem s167_50 : Rn 167 50 [some (vR o)] st T σ K ↔ Rn 167 51 [some (vR o)] (vR o :: st) T σ K := R_aload_n (n := 0) (by decide +kernel) rfl
theorem s167_51 : Rn 167 51 L st T σ K ↔ Rn 167 52 L (vI 0 :: st) T σ K := R_iconst (n := 0) (by decide +kernel) (by decide)
theorem s167_52 : Rn 167 52 L (vI a :: vR o :: st) T σ K ↔ (sx_kd T o = 9 ∧ (a = 0 ∨ a = 1)) ∧ Rn 167 55 L st T (sx_up σ o 6 a) K := R_putZ (idx := 29) (ci := 9) (k := 6) (by decide +kernel) (by decide +kernel) rfl rfl
theorem s167_55 : Rn 167 55 [some (vR o)] st T σ K ↔ Rn 167 56 [some (vR o)] (vR o :: st) T σ K := R_aload_n (n := 0) (by decide +kernel) rfl
theorem s167_56 : Rn 167 56 L st T σ K ↔ Rn 167 59 L (vI 1600 :: st) T σ K := R_sipush (n := 1600) (by decide +kernel) (by decide +kernel)
theorem s167_59 : Rn 167 59 L (vI a :: st) T σ K ↔ (0 ≤ a ∧ a ≤ 100000 ∧ T.length < 1000000) ∧ Rn 167 61 L (vR T.length :: st) (T ++ [(20, a.toNat, [])]) σ K := R_newI (by decide +kernel)
theorem s167_61 : Rn 167 61 L (vR p :: vR o :: st) T σ K ↔ (sx_kd T o = 9 ∧ p < T.length) ∧ Rn 167 64 L st (sx_setR T o 7 p) σ K := R_putR (idx := 33) (ci := 9) (k := 7) (by decide +kernel) (by decide +kernel) rfl rfl (by decide +kernel) (by decide +kernel)
theorem s167_64 : Rn 167 64 [some (vR o)] st T σ K ↔ Rn 167 65 [some (vR o)] (vR o :: st) T σ K := R_aload_n (n := 0) (by decide +kernel) rfl
theorem s167_65 : Rn 167 65 L st T σ K ↔ Rn 167 66 L (vI 0 :: st) T σ K := R_iconst (n := 0) (by decide +kernel) (by decide)
theorem s167_66 : Rn 167 66 L (vI a :: vR o :: st) T σ K ↔ sx_kd T o = 9 ∧ Rn 167 69 L st T (sx_up σ o 8 a) K := R_putI (idx := 36) (ci := 9) (k := 8) (by decide +kernel) (by decide +kernel) rfl rfl
theorem s167_69 : Rn 167 69 [some (vR o)] st T σ K ↔ Rn 167 70 [some (vR o)] (vR o :: st) T σ K := R_aload_n (n := 0) (by decide +kernel) rfl
theorem s167_70 : Rn 167 70 L st T σ K ↔ Rn 167 72 L (vI 6 :: st) T σ K := R_bipush (n := 6) (by decide +kernel) (by decide +kernel)
theorem s167_72 : Rn 167 72 L (vI a :: st) T σ K ↔ (0 ≤ a ∧ a ≤ 100000 ∧ T.length < 1000000) ∧ Rn 167 74 L (vR T.length :: st) (T ++ [(20, a.toNat, [])]) σ K := R_newI (by decide +kernel)
theorem s167_74 : Rn 167 74 L (vR p :: vR o :: st) T σ K ↔ (sx_kd T o = 9 ∧ p < T.length) ∧ Rn 167 77 L st (sx_setR T o 9 p) σ K := R_putR (idx := 39) (ci := 9) (k := 9) (by decide +kernel) (by decide +kernel) rfl rfl (by decide +kernel) (by decide +kernel)
theorem s167_77 : Rn 167 77 [some (vR o)] st T σ K ↔ Rn 167 78 [some (vR o)] (vR o :: st) T σ K := R_aload_n (n := 0) (by decide +kernel) rfl
theorem s167_78 : Rn 167 78 L st T σ K ↔ Rn 167 79 L (vI 0 :: st) T σ K := R_iconst (n := 0) (by decide +kernel) (by decide)
theorem s167_79 : Rn 167 79 L (vI a :: vR o :: st) T σ K ↔ sx_kd T o = 9 ∧ Rn 167 82 L st T (sx_up σ o 10 a) K := R_putI (idx := 42) (ci := 9) (k := 10) (by decide +kernel) (by decide +kernel) rfl rfl
theorem s167_82 : Rn 167 82 [some (vR o)] st T σ K ↔ Rn 167 83 [some (vR o)] (vR o :: st) T σ K := R_aload_n (n := 0) (by decide +kernel) rfl
theorem s167_83 : Rn 167 83 L st T σ K ↔ Rn 167 84 L (vI (-1) :: st) T σ K := R_iconst (n := -1) (by decide +kernel) (by decide)
theorem s167_84 : Rn 167 84 L (vI a :: vR o :: st) T σ K ↔ sx_kd T o = 9 ∧ Rn 167 87 L st T (sx_up σ o 11 a) K := R_putI (idx := 45) (ci := 9) (k := 11) (by decide +kernel) (by decide +kernel) rfl rfl
theorem s167_87 : Rn 167 87 [some (vR o)] st T σ K ↔ Rn 167 88 [some (vR o)] (vR o :: st) T σ K := R_aload_n (n := 0) (by decide +kernel) rfl
theorem s167_88 : Rn 167 88 L st T σ K ↔ Rn 167 89 L (vI 0 :: st) T σ K := R_iconst (n := 0) (by decide +kernel) (by decide)
theorem s167_89 : Rn 167 89 L (vI a :: vR o :: st) T σ K ↔ sx_kd T o = 9 ∧ Rn 167 92 L st T (sx_up σ o 12 a) K := R_putI (idx := 48) (ci := 9) (k := 12) (by decide +kernel) (by decide +kernel) rfl rfl
theorem s167_92 : Rn 167 92 [some (vR o)] st T σ K ↔ Rn 167 93 [some (vR o)] (vR o :: st) T σ K := R_aload_n (n := 0) (by decide +kernel) rfl
theorem s167_93 : Rn 167 93 L st T σ K ↔ Rn 167 94 L (vI 0 :: st) T σ K := R_iconst (n := 0) (by decide +kernel) (by decide)
theorem s167_94 : Rn 167 94 L (vI a :: vR o :: st) T σ K ↔ sx_kd T o = 9 ∧ Rn 167 97 L st T (sx_up σ o 13 a) K := R_putI (idx := 51) (ci := 9) (k := 13) (by decide +kernel) (by decide +kernel) rfl rfl
theorem s167_97 : Rn 167 97 [some (vR o)] st T σ K ↔ Rn 167 98 [some (vR o)] (vR o :: st) T σ K := R_aload_n (n := 0) (by decide +kernel) rfl
theorem s167_98 : Rn 167 98 L st T σ K ↔ Rn 167 99 L (vI 0 :: st) T σ K := R_iconst (n := 0) (by decide +kernel) (by decide)
theorem s167_99 : Rn 167 99 L (vI a :: vR o :: st) T σ K ↔ sx_kd T o = 9 ∧ Rn 167 102 L st T (sx_up σ o 14 a) K := R_putI (idx := 54) (ci := 9) (k := 14) (by decide +kernel) (by decide +kernel) rfl rfl
theorem s167_102 : Rn 167 102 [some (vR o)] st T σ K ↔ Rn 167 103 [some (vR o)] (vR o :: st) T σ K := R_aload_n (n := 0) (by decide +kernel) rfl
theorem s167_103 : Rn 167 103 L st T σ K ↔ Rn 167 104 L (vI 0 :: st) T σ K := R_iconst (n := 0) (by decide +kernel) (by decide)
theorem s167_104 : Rn 167 104 L (vI a :: vR o :: st) T σ K ↔ sx_kd T o = 9 ∧ Rn 167 107 L st T (sx_up σ o 15 a) K := R_putI (idx := 57) (ci := 9) (k := 15) (by decide +kernel) (by decide +kernel) rfl rfl
theorem s167_107 : Rn 167 107 [some (vR o)] st T σ K ↔ Rn 167 108 [some (vR o)] (vR o :: st) T σ K := R_aload_n (n := 0) (by decide +kernel) rfl
theorem s167_108 : Rn 167 108 L st T σ K ↔ Rn 167 109 L (vI (-1) :: st) T σ K := R_iconst (n := -1) (by decide +kernel) (by decide)
theorem s167_109 : Rn 167 109 L (vI a :: vR o :: st) T σ K ↔ sx_kd T o = 9 ∧ Rn 167 112 L st T (sx_up σ o 16 a) K := R_putI (idx := 60) (ci := 9) (k := 16) (by decide +kernel) (by decide +kernel) rfl rfl
theorem s167_112 : Rn 167 112 [some (vR o)] st T σ K ↔ Rn 167 113 [some (vR o)] (vR o :: st) T σ K := R_aload_n (n := 0) (by decide +kernel) rfl
theorem s167_113 : Rn 167 113 L st T σ K ↔ Rn 167 115 L (vI 30 :: st) T σ K := R_bipush (n := 30) (by decide +kernel) (by decide +kernel)
theorem s167_115 : Rn 167 115 L (vI a :: st) T σ K ↔ (0 ≤ a ∧ a ≤ 100000 ∧ T.length < 1000000) ∧ Rn 167 117 L (vR T.length :: st) (T ++ [(20, a.toNat, [])]) σ K := R_newI (by decide +kernel)
theorem s167_117 : Rn 167 117 L (vR o :: st) T σ K ↔ Rn 167 118 L (vR o :: vR o :: st) T σ K := R_dup (v := vR o) (by decide +kernel) rfl
theorem s167_118 : Rn 167 118 L st T σ K ↔ Rn 167 119 L (vI 0 :: st) T σ K := R_iconst (n := 0) (by decide +kernel) (by decide)
theorem s167_119 : Rn 167 119 L st T σ K ↔ Rn 167 121 L (vI 19 :: st) T σ K := R_bipush (n := 19) (by decide +kernel) (by decide +kernel)
theorem s167_121 : Rn 167 121 L (vI b :: vI a :: vR o :: st) T σ K ↔ (sx_kd T o = 20 ∧ 0 ≤ a ∧ a < sx_ln T o) ∧ Rn 167 122 L st T (sx_up σ o a b) K := R_iast (by decide +kernel)
theorem s167_122 : Rn 167 122 L (vR o :: st) T σ K ↔ Rn 167 123 L (vR o :: vR o :: st) T σ K := R_dup (v := vR o) (by decide +kernel) rfl
theorem s167_123 : Rn 167 123 L st T σ K ↔ Rn 167 124 L (vI 1 :: st) T σ K := R_iconst (n := 1) (by decide +kernel) (by decide)
theorem s167_124 : Rn 167 124 L st T σ K ↔ Rn 167 125 L (vI 5 :: st) T σ K := R_iconst (n := 5) (by decide +kernel) (by decide)
theorem s167_125 : Rn 167 125 L (vI b :: vI a :: vR o :: st) T σ K ↔ (sx_kd T o = 20 ∧ 0 ≤ a ∧ a < sx_ln T o) ∧ Rn 167 126 L st T (sx_up σ o a b) K := R_iast (by decide +kernel)
theorem s167_126 : Rn 167 126 L (vR o :: st) T σ K ↔ Rn 167 127 L (vR o :: vR o :: st) T σ K := R_dup (v := vR o) (by decide +kernel) rfl
theorem s167_127 : Rn 167 127 L st T σ K ↔ Rn 167 128 L (vI 2 :: st) T σ K := R_iconst (n := 2) (by decide +kernel) (by decide)
theorem s167_128 : Rn 167 128 L st T σ K ↔ Rn 167 130 L (vI 20 :: st) T σ K := R_bipush (n := 20) (by decide +kernel) (by decide +kernel)
theorem s167_130 : Rn 167 130 L (vI b :: vI a :: vR o :: st) T σ K ↔ (sx_kd T o = 20 ∧ 0 ≤ a ∧ a < sx_ln T o) ∧ Rn 167 131 L st T (sx_up σ o a b) K := R_iast (by decide +kernel)
theorem s167_131 : Rn 167 131 L (vR o :: st) T σ K ↔ Rn 167 132 L (vR o :: vR o :: st) T σ K := R_dup (v := vR o) (by decide +kernel) rfl
theorem s167_132 : Rn 167 132 L st T σ K ↔ Rn 167 133 L (vI 3 :: st) T σ K := R_iconst (n := 3) (by decide +kernel) (by decide)
theorem s167_133 : Rn 167 133 L st T σ K ↔ Rn 167 134 L (vI 0 :: st) T σ K := R_iconst (n := 0) (by decide +kernel) (by decide)
theorem s167_134 : Rn 167 134 L (vI b :: vI a :: vR o :: st) T σ K ↔ (sx_kd T o = 20 ∧ 0 ≤ a ∧ a < sx_ln T o) ∧ Rn 167 135 L st T (sx_up σ o a b) K := R_iast (by decide +kernel)
theorem s167_135 : Rn 167 135 L (vR o :: st) T σ K ↔ Rn 167 136 L (vR o :: vR o :: st) T σ K := R_dup (v := vR o) (by decide +kernel) rfl
theorem s167_136 : Rn 167 136 L st T σ K ↔ Rn 167 137 L (vI 4 :: st) T σ K := R_iconst (n := 4) (by decide +kernel) (by decide)
theorem s167_137 : Rn 167 137 L st T σ K ↔ Rn 167 138 L (vI 2 :: st) T σ K := R_iconst (n := 2) (by decide +kernel) (by decide)
theorem s167_138 : Rn 167 138 L (vI b :: vI a :: vR o :: st) T σ K ↔ (sx_kd T o = 20 ∧ 0 ≤ a ∧ a < sx_ln T o) ∧ Rn 167 139 L st T (sx_up σ o a b) K := R_iast (by decide +kernel)
theorem s167_139 : Rn 167 139 L (vR o :: st) T σ K ↔ Rn 167 140 L (vR o :: vR o :: st) T σ K := R_dup (v := vR o) (by decide +kernel) rfl
theorem s167_140 : Rn 167 140 L st T σ K ↔ Rn 167 141 L (vI 5 :: st) T σ K := R_iconst (n := 5) (by decide +kernel) (by decide)
theorem s167_141 : Rn 167 141 L st T σ K ↔ Rn 167 143 L (vI 25 :: st) T σ K := R_bipush (n := 25) (by decide +kernel) (by decide +kernel)
theorem s167_143 : Rn 167 143 L (vI b :: vI a :: vR o :: st) T σ K ↔ (sx_kd T o = 20 ∧ 0 ≤ a ∧ a < sx_ln T o) ∧ Rn 167 144 L st T (sx_up σ o a b) K := R_iast (by decide +kernel)
theorem s167_144 : Rn 167 144 L (vR o :: st) T σ K ↔ Rn 167 145 L (vR o :: vR o :: st) T σ K := R_dup (v := vR o) (by decide +kernel) rfl
theorem s167_145 : Rn 167 145 L st T σ K ↔ Rn 167 147 L (vI 6 :: st) T σ K := R_bipush (n := 6) (by decide +kernel) (by decide +kernel)
theorem s167_147 : Rn 167 147 L st T σ K ↔ Rn 167 148 L (vI 0 :: st) T σ K := R_iconst (n := 0) (by decide +kernel) (by decide)
theorem s167_148 : Rn 167 148 L (vI b :: vI a :: vR o :: st) T σ K ↔ (sx_kd T o = 20 ∧ 0 ≤ a ∧ a < sx_ln T o) ∧ Rn 167 149 L st T (sx_up σ o a b) K := R_iast (by decide +kernel)
theorem s167_149 : Rn 167 149 L (vR o :: st) T σ K ↔ Rn 167 150 L (vR o :: vR o :: st) T σ K := R_dup (v := vR o) (by decide +kernel) rfl
theorem s167_150 : Rn 167 150 L st T σ K ↔ Rn 167 152 L (vI 7 :: st) T σ K := R_bipush (n := 7) (by decide +kernel) (by decide +kernel)
theorem s167_152 : Rn 167 152 L st T σ K ↔ Rn 167 154 L (vI 19 :: st) T σ K := R_bipush (n := 19) (by decide +kernel) (by decide +kernel)
theorem s167_154 : Rn 167 154 L (vI b :: vI a :: vR o :: st) T σ K ↔ (sx_kd T o = 20 ∧ 0 ≤ a ∧ a < sx_ln T o) ∧ Rn 167 155 L st T (sx_up σ o a b) K := R_iast (by decide +kernel)
theorem s167_155 : Rn 167 155 L (vR o :: st) T σ K ↔ Rn 167 156 L (vR o :: vR o :: st) T σ K := R_dup (v := vR o) (by decide +kernel) rfl
theorem s167_156 : Rn 167 156 L st T σ K ↔ Rn 167 158 L (vI 8 :: st) T σ K := R_bipush (n := 8) (by decide +kernel) (by decide +kernel)
theorem s167_158 : Rn 167 158 L st T σ K ↔ Rn 167 160 L (vI 21 :: st) T σ K := R_bipush (n := 21) (by decide +kernel) (by decide +kernel)
theorem s167_160 : Rn 167 160 L (vI b :: vI a :: vR o :: st) T σ K ↔ (sx_kd T o = 20 ∧ 0 ≤ a ∧ a < sx_ln T o) ∧ Rn 167 161 L st T (sx_up σ o a b) K := R_iast (by decide +kernel)
theorem s167_161 : Rn 167 161 L (vR o :: st) T σ K ↔ Rn 167 162 L (vR o :: vR o :: st) T σ K := R_dup (v := vR o) (by decide +kernel) rfl
theorem s167_162 : Rn 167 162 L st T σ K ↔ Rn 167 164 L (vI 9 :: st) T σ K := R_bipush (n := 9) (by decide +kernel) (by decide +kernel)
theorem s167_164 : Rn 167 164 L st T σ K ↔ Rn 167 166 L (vI 13 :: st) T σ K := R_bipush (n := 13) (by decide +kernel) (by decide +kernel)
theorem s167_166 : Rn 167 166 L (vI b :: vI a :: vR o :: st) T σ K ↔ (sx_kd T o = 20 ∧ 0 ≤ a ∧ a < sx_ln T o) ∧ Rn 167 167 L st T (sx_up σ o a b) K := R_iast (by decide +kernel)
theorem s167_167 : Rn 167 167 L (vR o :: st) T σ K ↔ Rn 167 168 L (vR o :: vR o :: st) T σ K := R_dup (v := vR o) (by decide +kernel) rfl
theorem s167_168 : Rn 167 168 L st T σ K ↔ Rn 167 170 L (vI 10 :: st) T σ K := R_bipush (n := 10) (by decide +kernel) (by decide +kernel)
theorem s167_170 : Rn 167 170 L st T σ K ↔ Rn 167 171 L (vI 0 :: st) T σ K := R_iconst (n := 0) (by decide +kernel) (by decide)
theorem s167_171 : Rn 167 171 L (vI b :: vI a :: vR o :: st) T σ K ↔ (sx_kd T o = 20 ∧ 0 ≤ a ∧ a < sx_ln T o) ∧ Rn 167 172 L st T (sx_up σ o a b) K := R_iast (by decide +kernel)
theorem s167_172 : Rn 167 172 L (vR o :: st) T σ K ↔ Rn 167 173 L (vR o :: vR o :: st) T σ K := R_dup (v := vR o) (by decide +kernel) rfl
theorem s167_173 : Rn 167 173 L st T σ K ↔ Rn 167 175 L (vI 11 :: st) T σ K := R_bipush (n := 11) (by decide +kernel) (by decide +kernel)
theorem s167_175 : Rn 167 175 L st T σ K ↔ Rn 167 177 L (vI 13 :: st) T σ K := R_bipush (n := 13) (by decide +kernel) (by decide +kernel)
theorem s167_177 : Rn 167 177 L (vI b :: vI a :: vR o :: st) T σ K ↔ (sx_kd T o = 20 ∧ 0 ≤ a ∧ a < sx_ln T o) ∧ Rn 167 178 L st T (sx_up σ o a b) K := R_iast (by decide +kernel)
theorem s167_178 : Rn 167 178 L (vR o :: st) T σ K ↔ Rn 167 179 L (vR o :: vR o :: st) T σ K := R_dup (v := vR o) (by decide +kernel) rfl
theorem s167_179 : Rn 167 179 L st T σ K ↔ Rn 167 181 L (vI 12 :: st) T σ K := R_bipush (n := 12) (by decide +kernel) (by decide +kernel)
theorem s167_181 : Rn 167 181 L st T σ K ↔ Rn 167 183 L (vI 15 :: st) T σ K := R_bipush (n := 15) (by decide +kernel) (by decide +kernel)
theorem s167_183 : Rn 167 183 L (vI b :: vI a :: vR o :: st) T σ K ↔ (sx_kd T o = 20 ∧ 0 ≤ a ∧ a < sx_ln T o) ∧ Rn 167 184 L st T (sx_up σ o a b) K := R_iast (by decide +kernel)
theorem s167_184 : Rn 167 184 L (vR o :: st) T σ K ↔ Rn 167 185 L (vR o :: vR o :: st) T σ K := R_dup (v := vR o) (by decide +kernel) rfl
theorem s167_185 : Rn 167 185 L st T σ K ↔ Rn 167 187 L (vI 13 :: st) T σ K := R_bipush (n := 13) (by decide +kernel) (by decide +kernel)
theorem s167_187 : Rn 167 187 L st T σ K ↔ Rn 167 189 L (vI 19 :: st) T σ K := R_bipush (n := 19) (by decide +kernel) (by decide +kernel)
theorem s167_189 : Rn 167 189 L (vI b :: vI a :: vR o :: st) T σ K ↔ (sx_kd T o = 20 ∧ 0 ≤ a ∧ a < sx_ln T o) ∧ Rn 167 190 L st T (sx_up σ o a b) K := R_iast (by decide +kernel)
theorem s167_190 : Rn 167 190 L (vR o :: st) T σ K ↔ Rn 167 191 L (vR o :: vR o :: st) T σ K := R_dup (v := vR o) (by decide +kernel) rfl
theorem s167_191 : Rn 167 191 L st T σ K ↔ Rn 167 193 L (vI 14 :: st) T σ K := R_bipush (n := 14) (by decide +kernel) (by decide +kernel)
theorem s167_193 : Rn 167 193 L st T σ K ↔ Rn 167 195 L (vI 20 :: st) T σ K := R_bipush (n := 20) (by decide +kernel) (by decide +kernel)
theorem s167_195 : Rn 167 195 L (vI b :: vI a :: vR o :: st) T σ K ↔ (sx_kd T o = 20 ∧ 0 ≤ a ∧ a < sx_ln T o) ∧ Rn 167 196 L st T (sx_up σ o a b) K := R_iast (by decide +kernel)
theorem s167_196 : Rn 167 196 L (vR o :: st) T σ K ↔ Rn 167 197 L (vR o :: vR o :: st) T σ K := R_dup (v := vR o) (by decide +kernel) rfl
theorem s167_197 : Rn 167 197 L st T σ K ↔ Rn 167 199 L (vI 15 :: st) T σ K := R_bipush (n := 15) (by decide +kernel) (by decide +kernel)
theorem s167_199 : Rn 167 199 L st T σ K ↔ Rn 167 200 L (vI 0 :: st) T σ K := R_iconst (n := 0) (by decide +kernel) (by decide)
theorem s167_200 : Rn 167 200 L (vI b :: vI a :: vR o :: st) T σ K ↔ (sx_kd T o = 20 ∧ 0 ≤ a ∧ a < sx_ln T o) ∧ Rn 167 201 L st T (sx_up σ o a b) K := R_iast (by decide +kernel)
theorem s167_201 : Rn 167 201 L (vR o :: st) T σ K ↔ Rn 167 202 L (vR o :: vR o :: st) T σ K := R_dup (v := vR o) (by decide +kernel) rfl
theorem s167_202 : Rn 167 202 L st T σ K ↔ Rn 167 204 L (vI 16 :: st) T σ K := R_bipush (n := 16) (by decide +kernel) (by decide +kernel)
theorem s167_204 : Rn 167 204 L st T σ K ↔ Rn 167 205 L (vI 2 :: st) T σ K := R_iconst (n := 2) (by decide +kernel) (by decide)
theorem s167_205 : Rn 167 205 L (vI b :: vI a :: vR o :: st) T σ K ↔ (sx_kd T o = 20 ∧ 0 ≤ a ∧ a < sx_ln T o) ∧ Rn 167 206 L st T (sx_up σ o a b) K := R_iast (by decide +kernel)
theorem s167_206 : Rn 167 206 L (vR o :: st) T σ K ↔ Rn 167 207 L (vR o :: vR o :: st) T σ K := R_dup (v := vR o) (by decide +kernel) rfl
theorem s167_207 : Rn 167 207 L st T σ K ↔ Rn 167 209 L (vI 17 :: st) T σ K := R_bipush (n := 17) (by decide +kernel) (by decide +kernel)
theorem s167_209 : Rn 167 209 L st T σ K ↔ Rn 167 211 L (vI 9 :: st) T σ K := R_bipush (n := 9) (by decide +kernel) (by decide +kernel)
theorem s167_211 : Rn 167 211 L (vI b :: vI a :: vR o :: st) T σ K ↔ (sx_kd T o = 20 ∧ 0 ≤ a ∧ a < sx_ln T o) ∧ Rn 167 212 L st T (sx_up σ o a b) K := R_iast (by decide +kernel)
theorem s167_212 : Rn 167 212 L (vR o :: st) T σ K ↔ Rn 167 213 L (vR o :: vR o :: st) T σ K := R_dup (v := vR o) (by decide +kernel) rfl
theorem s167_213 : Rn 167 213 L st T σ K ↔ Rn 167 215 L (vI 18 :: st) T σ K := R_bipush (n := 18) (by decide +kernel) (by decide +kernel)
theorem s167_215 : Rn 167 215 L st T σ K ↔ Rn 167 217 L (vI 20 :: st) T σ K := R_bipush (n := 20) (by decide +kernel) (by decide +kernel)
theorem s167_217 : Rn 167 217 L (vI b :: vI a :: vR o :: st) T σ K ↔ (sx_kd T o = 20 ∧ 0 ≤ a ∧ a < sx_ln T o) ∧ Rn 167 218 L st T (sx_up σ o a b) K := R_iast (by decide +kernel)
theorem s167_218 : Rn 167 218 L (vR o :: st) T σ K ↔ Rn 167 219 L (vR o :: vR o :: st) T σ K := R_dup (v := vR o) (by decide +kernel) rfl
theorem s167_219 : Rn 167 219 L st T σ K ↔ Rn 167 221 L (vI 19 :: st) T σ K := R_bipush (n := 19) (by decide +kernel) (by decide +kernel)
theorem s167_221 : Rn 167 221 L st T σ K ↔ Rn 167 223 L (vI 19 :: st) T σ K := R_bipush (n := 19) (by decide +kernel) (by decide +kernel)
theorem s167_223 : Rn 167 223 L (vI b :: vI a :: vR o :: st) T σ K ↔ (sx_kd T o = 20 ∧ 0 ≤ a ∧ a < sx_ln T o) ∧ Rn 167 224 L st T (sx_up σ o a b) K := R_iast (by decide +kernel)
theorem s167_224 : Rn 167 224 L (vR o :: st) T σ K ↔ Rn 167 225 L (vR o :: vR o :: st) T σ K := R_dup (v := vR o) (by decide +kernel) rfl
theorem s167_225 : Rn 167 225 L st T σ K ↔ Rn 167 227 L (vI 20 :: st) T σ K := R_bipush (n := 20) (by decide +kernel) (by decide +kernel)
theorem s167_227 : Rn 167 227 L st T σ K ↔ Rn 167 228 L (vI 0 :: st) T σ K := R_iconst (n := 0) (by decide +kernel) (by decide)
theorem s167_228 : Rn 167 228 L (vI b :: vI a :: vR o :: st) T σ K ↔ (sx_kd T o = 20 ∧ 0 ≤ a ∧ a < sx_ln T o) ∧ Rn 167 229 L st T (sx_up σ o a b) K := R_iast (by decide +kernel)
theorem s167_229 : Rn 167 229 L (vR o :: st) T σ K ↔ Rn 167 230 L (vR o :: vR o :: st) T σ K := R_dup (v := vR o) (by decide +kernel) rfl
theorem s167_230 : Rn 167 230 L st T σ K ↔ Rn 167 232 L (vI 21 :: st) T σ K := R_bipush (n := 21) (by decide +kernel) (by decide +kernel)
theorem s167_232 : Rn 167 232 L st T σ K ↔ Rn 167 234 L (vI 16 :: st) T σ K := R_bipush (n := 16) (by decide +kernel) (by decide +kernel)
theorem s167_234 : Rn 167 234 L (vI b :: vI a :: vR o :: st) T σ K ↔ (sx_kd T o = 20 ∧ 0 ≤ a ∧ a < sx_ln T o) ∧ Rn 167 235 L st T (sx_up σ o a b) K := R_iast (by decide +kernel)
theorem s167_235 : Rn 167 235 L (vR o :: st) T σ K ↔ Rn 167 236 L (vR o :: vR o :: st) T σ K := R_dup (v := vR o) (by decide +kernel) rfl
theorem s167_236 : Rn 167 236 L st T σ K ↔ Rn 167 238 L (vI 22 :: st) T σ K := R_bipush (n := 22) (by decide +kernel) (by decide +kernel)
theorem s167_238 : Rn 167 238 L st T σ K ↔ Rn 167 240 L (vI 15 :: st) T σ K := R_bipush (n := 15) (by decide +kernel) (by decide +kernel)
theorem s167_240 : Rn 167 240 L (vI b :: vI a :: vR o :: st) T σ K ↔ (sx_kd T o = 20 ∧ 0 ≤ a ∧ a < sx_ln T o) ∧ Rn 167 241 L st T (sx_up σ o a b) K := R_iast (by decide +kernel)
theorem s167_241 : Rn 167 241 L (vR o :: st) T σ K ↔ Rn 167 242 L (vR o :: vR o :: st) T σ K := R_dup (v := vR o) (by decide +kernel) rfl
theorem s167_242 : Rn 167 242 L st T σ K ↔ Rn 167 244 L (vI 23 :: st) T σ K := R_bipush (n := 23) (by decide +kernel) (by decide +kernel)
theorem s167_244 : Rn 167 244 L st T σ K ↔ Rn 167 246 L (vI 9 :: st) T σ K := R_bipush (n := 9) (by decide +kernel) (by decide +kernel)
theorem s167_246 : Rn 167 246 L (vI b :: vI a :: vR o :: st) T σ K ↔ (sx_kd T o = 20 ∧ 0 ≤ a ∧ a < sx_ln T o) ∧ Rn 167 247 L st T (sx_up σ o a b) K := R_iast (by decide +kernel)
theorem s167_247 : Rn 167 247 L (vR o :: st) T σ K ↔ Rn 167 248 L (vR o :: vR o :: st) T σ K := R_dup (v := vR o) (by decide +kernel) rfl
theorem s167_248 : Rn 167 248 L st T σ K ↔ Rn 167 250 L (vI 24 :: st) T σ K := R_bipush (n := 24) (by decide +kernel) (by decide +kernel)
theorem s167_250 : Rn 167 250 L st T σ K ↔ Rn 167 252 L (vI 14 :: st) T σ K := R_bipush (n := 14) (by decide +kernel) (by decide +kernel)
theorem s167_252 : Rn 167 252 L (vI b :: vI a :: vR o :: st) T σ K ↔ (sx_kd T o = 20 ∧ 0 ≤ a ∧ a < sx_ln T o) ∧ Rn 167 253 L st T (sx_up σ o a b) K := R_iast (by decide +kernel)
theorem s167_253 : Rn 167 253 L (vR o :: st) T σ K ↔ Rn 167 254 L (vR o :: vR o :: st) T σ K := R_dup (v := vR o) (by decide +kernel) rfl
theorem s167_254 : Rn 167 254 L st T σ K ↔ Rn 167 256 L (vI 25 :: st) T σ K := R_bipush (n := 25) (by decide +kernel) (by decide +kernel)
theorem s167_256 : Rn 167 256 L st T σ K ↔ Rn 167 258 L (vI 20 :: st) T σ K := R_bipush (n := 20) (by decide +kernel) (by decide +kernel)
theorem s167_258 : Rn 167 258 L (vI b :: vI a :: vR o :: st) T σ K ↔ (sx_kd T o = 20 ∧ 0 ≤ a ∧ a < sx_ln T o) ∧ Rn 167 259 L st T (sx_up σ o a b) K := R_iast (by decide +kernel)
theorem s167_259 : Rn 167 259 L (vR o :: st) T σ K ↔ Rn 167 260 L (vR o :: vR o :: st) T σ K := R_dup (v := vR o) (by decide +kernel) rfl
theorem s167_260 : Rn 167 260 L st T σ K ↔ Rn 167 262 L (vI 26 :: st) T σ K := R_bipush (n := 26) (by decide +kernel) (by decide +kernel)
theorem s167_262 : Rn 167 262 L st T σ K ↔ Rn 167 263 L (vI 0 :: st) T σ K := R_iconst (n := 0) (by decide +kernel) (by decide)
theorem s167_263 : Rn 167 263 L (vI b :: vI a :: vR o :: st) T σ K ↔ (sx_kd T o = 20 ∧ 0 ≤ a ∧ a < sx_ln T o) ∧ Rn 167 264 L st T (sx_up σ o a b) K := R_iast (by decide +kernel)
theorem s167_264 : Rn 167 264 L (vR o :: st) T σ K ↔ Rn 167 265 L (vR o :: vR o :: st) T σ K := R_dup (v := vR o) (by decide +kernel) rfl
theorem s167_265 : Rn 167 265 L st T σ K ↔ Rn 167 267 L (vI 27 :: st) T σ K := R_bipush (n := 27) (by decide +kernel) (by decide +kernel)
theorem s167_267 : Rn 167 267 L st T σ K ↔ Rn 167 268 L (vI 1 :: st) T σ K := R_iconst (n := 1) (by decide +kernel) (by decide)
theorem s167_268 : Rn 167 268 L (vI b :: vI a :: vR o :: st) T σ K ↔ (sx_kd T o = 20 ∧ 0 ≤ a ∧ a < sx_ln T o) ∧ Rn 167 269 L st T (sx_up σ o a b) K := R_iast (by decide +kernel)
theorem s167_269 : Rn 167 269 L (vR o :: st) T σ K ↔ Rn 167 270 L (vR o :: vR o :: st) T σ K := R_dup (v := vR o) (by decide +kernel) rfl
theorem s167_270 : Rn 167 270 L st T σ K ↔ Rn 167 272 L (vI 28 :: st) T σ K := R_bipush (n := 28) (by decide +kernel) (by decide +kernel)
theorem s167_272 : Rn 167 272 L st T σ K ↔ Rn 167 274 L (vI 20 :: st) T σ K := R_bipush (n := 20) (by decide +kernel) (by decide +kernel)
theorem s167_274 : Rn 167 274 L (vI b :: vI a :: vR o :: st) T σ K ↔ (sx_kd T o = 20 ∧ 0 ≤ a ∧ a < sx_ln T o) ∧ Rn 167 275 L st T (sx_up σ o a b) K := R_iast (by decide +kernel)
theorem s167_275 : Rn 167 275 L (vR o :: st) T σ K ↔ Rn 167 276 L (vR o :: vR o :: st) T σ K := R_dup (v := vR o) (by decide +kernel) rfl
theorem s167_276 : Rn 167 276 L st T σ K ↔ Rn 167 278 L (vI 29 :: st) T σ K := R_bipush (n := 29) (by decide +kernel) (by decide +kernel)
theorem s167_278 : Rn 167 278 L st T σ K ↔ Rn 167 279 L (vI 0 :: st) T σ K := R_iconst (n := 0) (by decide +kernel) (by decide)
theorem s167_279 : Rn 167 279 L (vI b :: vI a :: vR o :: st) T σ K ↔ (sx_kd T o = 20 ∧ 0 ≤ a ∧ a < sx_ln T o) ∧ Rn 167 280 L st T (sx_up σ o a b) K := R_iast (by decide +kernel)
theorem s167_280 : Rn 167 280 L (vR p :: vR o :: st) T σ K ↔ (sx_kd T o = 9 ∧ p < T.length) ∧ Rn 167 283 L st (sx_setR T o 17 p) σ K := R_putR (idx := 63) (ci := 9) (k := 17) (by decide +kernel) (by decide +kernel) rfl rfl (by decide +kernel) (by decide +kernel)
theorem s167_283 : Rn 167 283 [some (vR o)] st T σ K ↔ Rn 167 284 [some (vR o)] (vR o :: st) T σ K := R_aload_n (n := 0) (by decide +kernel) rfl
theorem s167_284 : Rn 167 284 L st T σ K ↔ Rn 167 285 L (vI 0 :: st) T σ K := R_iconst (n := 0) (by decide +kernel) (by decide)
theorem s167_285 : Rn 167 285 L (vI a :: vR o :: st) T σ K ↔ sx_kd T o = 9 ∧ Rn 167 288 L st T (sx_up σ o 18 a) K := R_putI (idx := 66) (ci := 9) (k := 18) (by decide +kernel) (by decide +kernel) rfl rfl
theorem s167_288 : Rn 167 288 [some (vR o)] st T σ K ↔ Rn 167 289 [some (vR o)] (vR o :: st) T σ K := R_aload_n (n := 0) (by decide +kernel) rfl
theorem s167_289 : Rn 167 289 L st T σ K ↔ Rn 167 290 L (vI 0 :: st) T σ K := R_iconst (n := 0) (by decide +kernel) (by decide)
theorem s167_290 : Rn 167 290 L (vI a :: vR o :: st) T σ K ↔ sx_kd T o = 9 ∧ Rn 167 293 L st T (sx_up σ o 19 a) K := R_putI (idx := 69) (ci := 9) (k := 19) (by decide +kernel) (by decide +kernel) rfl rfl
theorem s167_293 : Rn 167 293 [some (vR o)] st T σ K ↔ Rn 167 294 [some (vR o)] (vR o :: st) T σ K := R_aload_n (n := 0) (by decide +kernel) rfl
theorem s167_294 : Rn 167 294 L st T σ K ↔ Rn 167 296 L (vI 120 :: st) T σ K := R_bipush (n := 120) (by decide +kernel) (by decide +kernel)
theorem s167_296 : Rn 167 296 L (vI a :: st) T σ K ↔ (0 ≤ a ∧ a ≤ 100000 ∧ T.length < 1000000) ∧ Rn 167 298 L (vR T.length :: st) (T ++ [(20, a.toNat, [])]) σ K := R_newI (by decide +kernel)
theorem s167_298 : Rn 167 298 L (vR p :: vR o :: st) T σ K ↔ (sx_kd T o = 9 ∧ p < T.length) ∧ Rn 167 301 L st (sx_setR T o 20 p) σ K := R_putR (idx := 72) (ci := 9) (k := 20) (by decide +kernel) (by decide +kernel) rfl rfl (by decide +kernel) (by decide +kernel)
theorem s167_301 : Rn 167 301 [some (vR o)] st T σ K ↔ Rn 167 302 [some (vR o)] (vR o :: st) T σ K := R_aload_n (n := 0) (by decide +kernel) rfl
theorem s167_302 : Rn 167 302 L st T σ K ↔ Rn 167 305 L (vI 240 :: st) T σ K := R_sipush (n := 240) (by decide +kernel) (by decide +kernel)
theorem s167_305 : Rn 167 305 L (vI a :: st) T σ K ↔ (0 ≤ a ∧ a ≤ 100000 ∧ T.length < 1000000) ∧ Rn 167 307 L (vR T.length :: st) (T ++ [(20, a.toNat, [])]) σ K := R_newI (by decide +kernel)
theorem s167_307 : Rn 167 307 L (vR p :: vR o :: st) T σ K ↔ (sx_kd T o = 9 ∧ p < T.length) ∧ Rn 167 310 L st (sx_setR T o 21 p) σ K := R_putR (idx := 75) (ci := 9) (k := 21) (by decide +kernel) (by decide +kernel) rfl rfl (by decide +kernel) (by decide +kernel)
theorem s167_310 : Rn 167 310 [some (vR o)] st T σ K ↔ Rn 167 311 [some (vR o)] (vR o :: st) T σ K := R_aload_n (n := 0) (by decide +kernel) rfl
theorem s167_311 : Rn 167 311 L st T σ K ↔ Rn 167 313 L (vI 40 :: st) T σ K := R_bipush (n := 40) (by decide +kernel) (by decide +kernel)
theorem s167_313 : Rn 167 313 L (vI a :: st) T σ K ↔ (0 ≤ a ∧ a ≤ 100000 ∧ T.length < 1000000) ∧ Rn 167 315 L (vR T.length :: st) (T ++ [(20, a.toNat, [])]) σ K := R_newI (by decide +kernel)
theorem s167_315 : Rn 167 315 L (vR p :: vR o :: st) T σ K ↔ (sx_kd T o = 9 ∧ p < T.length) ∧ Rn 167 318 L st (sx_setR T o 22 p) σ K := R_putR (idx := 78) (ci := 9) (k := 22) (by decide +kernel) (by decide +kernel) rfl rfl (by decide +kernel) (by decide +kernel)
theorem s167_318 : Rn 167 318 [some (vR o)] st T σ K ↔ Rn 167 319 [some (vR o)] (vR o :: st) T σ K := R_aload_n (n := 0) (by decide +kernel) rfl
theorem s167_319 : Rn 167 319 L st T σ K ↔ Rn 167 321 L (vI 40 :: st) T σ K := R_bipush (n := 40) (by decide +kernel) (by decide +kernel)
theorem s167_321 : Rn 167 321 L (vI a :: st) T σ K ↔ (0 ≤ a ∧ a ≤ 100000 ∧ T.length < 1000000) ∧ Rn 167 323 L (vR T.length :: st) (T ++ [(20, a.toNat, [])]) σ K := R_newI (by decide +kernel)
theorem s167_323 : Rn 167 323 L (vR p :: vR o :: st) T σ K ↔ (sx_kd T o = 9 ∧ p < T.length) ∧ Rn 167 326 L st (sx_setR T o 23 p) σ K := R_putR (idx := 81) (ci := 9) (k := 23) (by decide +kernel) (by decide +kernel) rfl rfl (by decide +kernel) (by decide +kernel)
theorem s167_326 : Rn 167 326 [some (vR o)] st T σ K ↔ Rn 167 327 [some (vR o)] (vR o :: st) T σ K := R_aload_n (n := 0) (by decide +kernel) rfl
theorem s167_327 : Rn 167 327 L st T σ K ↔ Rn 167 328 L (vI (-1) :: st) T σ K := R_iconst (n := -1) (by decide +kernel) (by decide)
theorem s167_328 : Rn 167 328 L (vI a :: vR o :: st) T σ K ↔ sx_kd T o = 9 ∧ Rn 167 331 L st T (sx_up σ o 24 a) K := R_putI (idx := 84) (ci := 9) (k := 24) (by decide +kernel) (by decide +kernel) rfl rfl
theorem s167_331 : Rn 167 331 [some (vR o)] st T σ K ↔ Rn 167 332 [some (vR o)] (vR o :: st) T σ K := R_aload_n (n := 0) (by decide +kernel) rfl
theorem s167_332 : Rn 167 332 L st T σ K ↔ Rn 167 333 L (vI 0 :: st) T σ K := R_iconst (n := 0) (by decide +kernel) (by decide)
theorem s167_333 : Rn 167 333 L (vI a :: vR o :: st) T σ K ↔ sx_kd T o = 9 ∧ Rn 167 336 L st T (sx_up σ o 25 a) K := R_putI (idx := 87) (ci := 9) (k := 25) (by decide +kernel) (by decide +kernel) rfl rfl
theorem s167_336 : Rn 167 336 [some (vR o)] st T σ K ↔ Rn 167 337 [some (vR o)] (vR o :: st) T σ K := R_aload_n (n := 0) (by decide +kernel) rfl
theorem s167_337 : Rn 167 337 L st T σ K ↔ Rn 167 338 L (vI 0 :: st) T σ K := R_iconst (n := 0) (by decide +kernel) (by decide)
theorem s167_338 : Rn 167 338 L (vI a :: vR o :: st) T σ K ↔ (sx_kd T o = 9 ∧ (a = 0 ∨ a = 1)) ∧ Rn 167 341 L st T (sx_up σ o 26 a) K := R_putZ (idx := 90) (ci := 9) (k := 26) (by decide +kernel) (by decide +kernel) rfl rfl
theorem s167_341 : Rn 167 341 [some (vR o)] st T σ K ↔ Rn 167 342 [some (vR o)] (vR o :: st) T σ K := R_aload_n (n := 0) (by decide +kernel) rfl
theorem s167_342 : Rn 167 342 L st T σ K ↔ Rn 167 343 L (vI 0 :: st) T σ K := R_iconst (n := 0) (by decide +kernel) (by decide)
theorem s167_343 : Rn 167 343 L (vI a :: vR o :: st) T σ K ↔ sx_kd T o = 9 ∧ Rn 167 346 L st T (sx_up σ o 27 a) K := R_putI (idx := 93) (ci := 9) (k := 27) (by decide +kernel) (by decide +kernel) rfl rfl
theorem s167_346 : Rn 167 346 [some (vR o)] st T σ K ↔ Rn 167 347 [some (vR o)] (vR o :: st) T σ K := R_aload_n (n := 0) (by decide +kernel) rfl
theorem s167_347 : Rn 167 347 L st T σ K ↔ Rn 167 348 L (vI 0 :: st) T σ K := R_iconst (n := 0) (by decide +kernel) (by decide)
theorem s167_348 : Rn 167 348 L (vI a :: vR o :: st) T σ K ↔ sx_kd T o = 9 ∧ Rn 167 351 L st T (sx_up σ o 28 a) K := R_putI (idx := 96) (ci := 9) (k := 28) (by decide +kernel) (by decide +kernel) rfl rfl
theorem s167_351 : Rn 167 351 [some (vR o)] st T σ K ↔ Rn 167 352 [some (vR o)] (vR o :: st) T σ K := R_aload_n (n := 0) (by decide +kernel) rfl
theorem s167_352 : Rn 167 352 L st T σ K ↔ Rn 167 353 L (vI 0 :: st) T σ K := R_iconst (n := 0) (by decide +kernel) (by decide)
theorem s167_353 : Rn 167 353 L (vI a :: vR o :: st) T σ K ↔ sx_kd T o = 9 ∧ Rn 167 356 L st T (sx_up σ o 29 a) K := R_putI (idx := 99) (ci := 9) (k := 29) (by decide +kernel) (by decide +kernel) rfl rfl
theorem s167_356 : Rn 167 356 [some (vR o)] st T σ K ↔ Rn 167 357 [some (vR o)] (vR o :: st) T σ K := R_aload_n (n := 0) (by decide +kernel) rfl
theorem s167_357 : Rn 167 357 L st T σ K ↔ Rn 167 358 L (vI 0 :: st) T σ K := R_iconst (n := 0) (by decide +kernel) (by decide)
theorem s167_358 : Rn 167 358 L (vI a :: vR o :: st) T σ K ↔ sx_kd T o = 9 ∧ Rn 167 361 L st T (sx_up σ o 30 a) K := R_putI (idx := 102) (ci := 9) (k := 30) (by decide +kernel) (by decide +kernel) rfl rfl
theorem s167_361 : Rn 167 361 [some (vR o)] st T σ K ↔ Rn 167 362 [some (vR o)] (vR o :: st) T σ K := R_aload_n (n := 0) (by decide +kernel) rfl
theorem s167_362 : Rn 167 362 L st T σ K ↔ Rn 167 365 L (vI 160 :: st) T σ K := R_sipush (n := 160) (by decide +kernel) (by decide +kernel)
theorem s167_365 : Rn 167 365 L (vI a :: st) T σ K ↔ (0 ≤ a ∧ a ≤ 100000 ∧ T.length < 1000000) ∧ Rn 167 367 L (vR T.length :: st) (T ++ [(20, a.toNat, [])]) σ K := R_newI (by decide +kernel)
theorem s167_367 : Rn 167 367 L (vR p :: vR o :: st) T σ K ↔ (sx_kd T o = 9 ∧ p < T.length) ∧ Rn 167 370 L st (sx_setR T o 31 p) σ K := R_putR (idx := 105) (ci := 9) (k := 31) (by decide +kernel) (by decide +kernel) rfl rfl (by decide +kernel) (by decide +kernel)
theorem s167_370 : Rn 167 370 [some (vR o)] st T σ K ↔ Rn 167 371 [some (vR o)] (vR o :: st) T σ K := R_aload_n (n := 0) (by decide +kernel) rfl
theorem s167_371 : Rn 167 371 L st T σ K ↔ Rn 167 373 L (vI 40 :: st) T σ K := R_bipush (n := 40) (by decide +kernel) (by decide +kernel)
theorem s167_373 : Rn 167 373 L (vI a :: st) T σ K ↔ (0 ≤ a ∧ a ≤ 100000 ∧ T.length < 1000000) ∧ Rn 167 375 L (vR T.length :: st) (T ++ [(20, a.toNat, [])]) σ K := R_newI (by decide +kernel)
theorem s167_375 : Rn 167 375 L (vR p :: vR o :: st) T σ K ↔ (sx_kd T o = 9 ∧ p < T.length) ∧ Rn 167 378 L st (sx_setR T o 32 p) σ K := R_putR (idx := 108) (ci := 9) (k := 32) (by decide +kernel) (by decide +kernel) rfl rfl (by decide +kernel) (by decide +kernel)
theorem s167_378 : Rn 167 378 [some (vR o)] st T σ K ↔ Rn 167 379 [some (vR o)] (vR o :: st) T σ K := R_aload_n (n := 0) (by decide +kernel) rfl
theorem s167_379 : Rn 167 379 L st T σ K ↔ Rn 167 381 L (vI 40 :: st) T σ K := R_bipush (n := 40) (by decide +kernel) (by decide +kernel)
theorem s167_381 : Rn 167 381 L (vI a :: st) T σ K ↔ (0 ≤ a ∧ a ≤ 100000 ∧ T.length < 1000000) ∧ Rn 167 383 L (vR T.length :: st) (T ++ [(20, a.toNat, [])]) σ K := R_newI (by decide +kernel)
theorem s167_383 : Rn 167 383 L (vR p :: vR o :: st) T σ K ↔ (sx_kd T o = 9 ∧ p < T.length) ∧ Rn 167 386 L st (sx_setR T o 33 p) σ K := R_putR (idx := 111) (ci := 9) (k := 33) (by decide +kernel) (by decide +kernel) rfl rfl (by decide +kernel) (by decide +kernel)
theorem s167_386 : Rn 167 386 [some (vR o)] st T σ K ↔ Rn 167 387 [some (vR o)] (vR o :: st) T σ K := R_aload_n (n := 0) (by decide +kernel) rfl
theorem s167_387 : Rn 167 387 L st T σ K ↔ Rn 167 389 L (vI 40 :: st) T σ K := R_bipush (n := 40) (by decide +kernel) (by decide +kernel)
theorem s167_389 : Rn 167 389 L (vI a :: st) T σ K ↔ (0 ≤ a ∧ a ≤ 100000 ∧ T.length < 1000000) ∧ Rn 167 391 L (vR T.length :: st) (T ++ [(20, a.toNat, [])]) σ K := R_newI (by decide +kernel)
theorem s167_391 : Rn 167 391 L (vR p :: vR o :: st) T σ K ↔ (sx_kd T o = 9 ∧ p < T.length) ∧ Rn 167 394 L st (sx_setR T o 34 p) σ K := R_putR (idx := 114) (ci := 9) (k := 34) (by decide +kernel) (by decide +kernel) rfl rfl (by decide +kernel) (by decide +kernel)
theorem s167_394 : Rn 167 394 [some (vR o)] st T σ K ↔ Rn 167 395 [some (vR o)] (vR o :: st) T σ K := R_aload_n (n := 0) (by decide +kernel) rfl
theorem s167_395 : Rn 167 395 L st T σ K ↔ Rn 167 397 L (vI 120 :: st) T σ K := R_bipush (n := 120) (by decide +kernel) (by decide +kernel)
theorem s167_397 : Rn 167 397 L (vI a :: st) T σ K ↔ (0 ≤ a ∧ a ≤ 100000 ∧ T.length < 1000000) ∧ Rn 167 399 L (vR T.length :: st) (T ++ [(20, a.toNat, [])]) σ K := R_newI (by decide +kernel)
theorem s167_399 : Rn 167 399 L (vR p :: vR o :: st) T σ K ↔ (sx_kd T o = 9 ∧ p < T.length) ∧ Rn 167 402 L st (sx_setR T o 35 p) σ K := R_putR (idx := 117) (ci := 9) (k := 35) (by decide +kernel) (by decide +kernel) rfl rfl (by decide +kernel) (by decide +kernel)
theorem s167_402 : Rn 167 402 [some (vR o)] st T σ K ↔ Rn 167 403 [some (vR o)] (vR o :: st) T σ K := R_aload_n (n := 0) (by decide +kernel) rfl
theorem s167_403 : Rn 167 403 L st T σ K ↔ Rn 167 404 L (vI 0 :: st) T σ K := R_iconst (n := 0) (by decide +kernel) (by decide)
theorem s167_404 : Rn 167 404 L (vI a :: vR o :: st) T σ K ↔ sx_kd T o = 9 ∧ Rn 167 407 L st T (sx_up σ o 36 a) K := R_putI (idx := 120) (ci := 9) (k := 36) (by decide +kernel) (by decide +kernel) rfl rfl
theorem s167_407 : Rn 167 407 [some (vR o)] st T σ K ↔ Rn 167 408 [some (vR o)] (vR o :: st) T σ K := R_aload_n (n := 0) (by decide +kernel) rfl
theorem s167_408 : Rn 167 408 L st T σ K ↔ Rn 167 410 L (vI 12 :: st) T σ K := R_bipush (n := 12) (by decide +kernel) (by decide +kernel)
theorem s167_410 : Rn 167 410 L (vI a :: st) T σ K ↔ (0 ≤ a ∧ a ≤ 100000 ∧ T.length < 1000000) ∧ Rn 167 412 L (vR T.length :: st) (T ++ [(20, a.toNat, [])]) σ K := R_newI (by decide +kernel)
theorem s167_412 : Rn 167 412 L (vR p :: vR o :: st) T σ K ↔ (sx_kd T o = 9 ∧ p < T.length) ∧ Rn 167 415 L st (sx_setR T o 37 p) σ K := R_putR (idx := 123) (ci := 9) (k := 37) (by decide +kernel) (by decide +kernel) rfl rfl (by decide +kernel) (by decide +kernel)
theorem s167_415 : Rn 167 415 [some (vR o)] st T σ K ↔ Rn 167 416 [some (vR o)] (vR o :: st) T σ K := R_aload_n (n := 0) (by decide +kernel) rfl
theorem s167_416 : Rn 167 416 L st T σ K ↔ Rn 167 418 L (vI 12 :: st) T σ K := R_bipush (n := 12) (by decide +kernel) (by decide +kernel)
theorem s167_418 : Rn 167 418 L (vI a :: st) T σ K ↔ (0 ≤ a ∧ a ≤ 100000 ∧ T.length < 1000000) ∧ Rn 167 420 L (vR T.length :: st) (T ++ [(20, a.toNat, [])]) σ K := R_newI (by decide +kernel)
theorem s167_420 : Rn 167 420 L (vR p :: vR o :: st) T σ K ↔ (sx_kd T o = 9 ∧ p < T.length) ∧ Rn 167 423 L st (sx_setR T o 38 p) σ K := R_putR (idx := 126) (ci := 9) (k := 38) (by decide +kernel) (by decide +kernel) rfl rfl (by decide +kernel) (by decide +kernel)
theorem s167_423 : Rn 167 423 [some (vR o)] st T σ K ↔ Rn 167 424 [some (vR o)] (vR o :: st) T σ K := R_aload_n (n := 0) (by decide +kernel) rfl
theorem s167_424 : Rn 167 424 L st T σ K ↔ Rn 167 426 L (vI 12 :: st) T σ K := R_bipush (n := 12) (by decide +kernel) (by decide +kernel)
theorem s167_426 : Rn 167 426 L (vI a :: st) T σ K ↔ (0 ≤ a ∧ a ≤ 100000 ∧ T.length < 1000000) ∧ Rn 167 428 L (vR T.length :: st) (T ++ [(20, a.toNat, [])]) σ K := R_newI (by decide +kernel)
theorem s167_428 : Rn 167 428 L (vR p :: vR o :: st) T σ K ↔ (sx_kd T o = 9 ∧ p < T.length) ∧ Rn 167 431 L st (sx_setR T o 39 p) σ K := R_putR (idx := 129) (ci := 9) (k := 39) (by decide +kernel) (by decide +kernel) rfl rfl (by decide +kernel) (by decide +kernel)
theorem s167_431 : Rn 167 431 [some (vR o)] st T σ K ↔ Rn 167 432 [some (vR o)] (vR o :: st) T σ K := R_aload_n (n := 0) (by decide +kernel) rfl
theorem s167_432 : Rn 167 432 L st T σ K ↔ Rn 167 435 L (vI 243 :: st) T σ K := R_sipush (n := 243) (by decide +kernel) (by decide +kernel)
theorem s167_435 : Rn 167 435 L (vI a :: st) T σ K ↔ (0 ≤ a ∧ a ≤ 100000 ∧ T.length < 1000000) ∧ Rn 167 437 L (vR T.length :: st) (T ++ [(20, a.toNat, [])]) σ K := R_newI (by decide +kernel)
theorem s167_437 : Rn 167 437 L (vR p :: vR o :: st) T σ K ↔ (sx_kd T o = 9 ∧ p < T.length) ∧ Rn 167 440 L st (sx_setR T o 40 p) σ K := R_putR (idx := 132) (ci := 9) (k := 40) (by decide +kernel) (by decide +kernel) rfl rfl (by decide +kernel) (by decide +kernel)
theorem s167_440 : Rn 167 440 [some (vR o)] st T σ K ↔ Rn 167 441 [some (vR o)] (vR o :: st) T σ K := R_aload_n (n := 0) (by decide +kernel) rfl
theorem s167_441 : Rn 167 441 L st T σ K ↔ Rn 167 442 L (vI 0 :: st) T σ K := R_iconst (n := 0) (by decide +kernel) (by decide)
theorem s167_442 : Rn 167 442 L (vI a :: vR o :: st) T σ K ↔ sx_kd T o = 9 ∧ Rn 167 445 L st T (sx_up σ o 41 a) K := R_putI (idx := 135) (ci := 9) (k := 41) (by decide +kernel) (by decide +kernel) rfl rfl
theorem s167_445 : Rn 167 445 L [] T σ K ↔ K none T σ := R_retV (by decide +kernel) (by decide +kernel)
theorem s168_0 : Rn 168 0 [some (vR o), l1, l2, l3, l4, l5] st T σ K ↔ Rn 168 1 [some (vR o), l1, l2, l3, l4, l5] (vR o :: st) T σ K := R_aload_n (n := 0) (by decide +kernel) rfl
theorem s168_1 : Rn 168 1 L (vR o :: st) T σ K ↔ sx_kd T o = 9 ∧ Rn 168 4 L (vI (σ o 8) :: st) T σ K := R_getI (idx := 36) (ci := 9) (k := 8) (by decide +kernel) (by decide +kernel) (Or.inl rfl)
theorem s168_4 : Rn 168 4 L st T σ K ↔ Rn 168 6 L (vI 20 :: st) T σ K := R_bipush (n := 20) (by decide +kernel) (by decide +kernel)
theorem s168_6 : Rn 168 6 L (vI b :: vI a :: st) T σ K ↔ inI (a + b) ∧ Rn 168 7 L (vI (a + b) :: st) T σ K := R_iadd (by decide +kernel)
theorem s168_7 : Rn 168 7 L st T σ K ↔ Rn 168 10 L (vI 1600 :: st) T σ K := R_sipush (n := 1600) (by decide +kernel) (by decide +kernel)
theorem s168_10 : Rn 168 10 L (vI b :: vI a :: st) T σ K ↔ (a ≤ b → Rn 168 19 L st T σ K) ∧ (b < a → Rn 168 13 L st T σ K) := R_icmp_le (off := 9) (by decide +kernel) (by decide)
theorem s168_13 : Rn 168 13 [some (vR o), l1, l2, l3, l4, l5] st T σ K ↔ Rn 168 14 [some (vR o), l1, l2, l3, l4, l5] (vR o :: st) T σ K := R_aload_n (n := 0) (by decide +kernel) rfl
theorem s168_14 : Rn 168 14 L st T σ K ↔ Rn 168 15 L (vI 0 :: st) T σ K := R_iconst (n := 0) (by decide +kernel) (by decide)
theorem s168_15 : Rn 168 15 L (vI a :: vR o :: st) T σ K ↔ (sx_kd T o = 9 ∧ st.length ≤ 4) ∧ Rn 169 0 [some (vR o), some (vI a)] [] T σ (fun r T' σ' => Rn 168 18 L (sx_push r st) T' σ' K) := R_V (cm := 169) (n := 1) (idx := 138) (ci := 9) (mx := 2) (vs := [vI a]) (by decide +kernel) (by decide +kernel) rfl (by decide +kernel) rfl (by decide +kernel) (by decide +kernel)
theorem s168_18 : Rn 168 18 L [vI a] T σ K ↔ K (some (vI a)) T σ := R_ret (by decide +kernel) (by decide +kernel)
theorem s168_19 : Rn 168 19 [some (vR o), l1, l2, l3, l4, l5] st T σ K ↔ Rn 168 20 [some (vR o), l1, l2, l3, l4, l5] (vR o :: st) T σ K := R_aload_n (n := 0) (by decide +kernel) rfl
theorem s168_20 : Rn 168 20 [l0, some (vI a), l2, l3, l4, l5] st T σ K ↔ Rn 168 21 [l0, some (vI a), l2, l3, l4, l5] (vI a :: st) T σ K := R_iload_n (n := 1) (by decide +kernel) rfl
theorem s168_21 : Rn 168 21 L (vI a :: vR o :: st) T σ K ↔ (sx_kd T o = 9 ∧ st.length ≤ 4) ∧ Rn 170 0 [some (vR o), some (vI a), none] [] T σ (fun r T' σ' => Rn 168 24 L (sx_push r st) T' σ' K) := R_V (cm := 170) (n := 1) (idx := 142) (ci := 9) (mx := 3) (vs := [vI a]) (by decide +kernel) (by decide +kernel) rfl (by decide +kernel) rfl (by decide +kernel) (by decide +kernel)
theorem s168_24 : Rn 168 24 [some (vR o), l1, l2, l3, l4, l5] st T σ K ↔ Rn 168 25 [some (vR o), l1, l2, l3, l4, l5] (vR o :: st) T σ K := R_aload_n (n := 0) (by decide +kernel) rfl
theorem s168_25 : Rn 168 25 [l0, l1, some (vI a), l3, l4, l5] st T σ K ↔ Rn 168 26 [l0, l1, some (vI a), l3, l4, l5] (vI a :: st) T σ K := R_iload_n (n := 2) (by decide +kernel) rfl
theorem s168_26 : Rn 168 26 L (vI a :: vR o :: st) T σ K ↔ (sx_kd T o = 9 ∧ st.length ≤ 4) ∧ Rn 170 0 [some (vR o), some (vI a), none] [] T σ (fun r T' σ' => Rn 168 29 L (sx_push r st) T' σ' K) := R_V (cm := 170) (n := 1) (idx := 142) (ci := 9) (mx := 3) (vs := [vI a]) (by decide +kernel) (by decide +kernel) rfl (by decide +kernel) rfl (by decide +kernel) (by decide +kernel)
theorem s168_29 : Rn 168 29 [some (vR o), l1, l2, l3, l4, l5] st T σ K ↔ Rn 168 30 [some (vR o), l1, l2, l3, l4, l5] (vR o :: st) T σ K := R_aload_n (n := 0) (by decide +kernel) rfl
theorem s168_30 : Rn 168 30 [l0, l1, l2, some (vI a), l4, l5] st T σ K ↔ Rn 168 31 [l0, l1, l2, some (vI a), l4, l5] (vI a :: st) T σ K := R_iload_n (n := 3) (by decide +kernel) rfl
theorem s168_31 : Rn 168 31 L (vI a :: vR o :: st) T σ K ↔ (sx_kd T o = 9 ∧ st.length ≤ 4) ∧ Rn 170 0 [some (vR o), some (vI a), none] [] T σ (fun r T' σ' => Rn 168 34 L (sx_push r st) T' σ' K) := R_V (cm := 170) (n := 1) (idx := 142) (ci := 9) (mx := 3) (vs := [vI a]) (by decide +kernel) (by decide +kernel) rfl (by decide +kernel) rfl (by decide +kernel) (by decide +kernel)
theorem s168_34 : Rn 168 34 [some (vR o), l1, l2, l3, l4, l5] st T σ K ↔ Rn 168 35 [some (vR o), l1, l2, l3, l4, l5] (vR o :: st) T σ K := R_aload_n (n := 0) (by decide +kernel) rfl
theorem s168_35 : Rn 168 35 [l0, l1, l2, l3, some (vI a), l5] st T σ K ↔ Rn 168 37 [l0, l1, l2, l3, some (vI a), l5] (vI a :: st) T σ K := R_iload (n := 4) (by decide +kernel) rfl
theorem s168_37 : Rn 168 37 L (vI a :: vR o :: st) T σ K ↔ (sx_kd T o = 9 ∧ st.length ≤ 4) ∧ Rn 170 0 [some (vR o), some (vI a), none] [] T σ (fun r T' σ' => Rn 168 40 L (sx_push r st) T' σ' K) := R_V (cm := 170) (n := 1) (idx := 142) (ci := 9) (mx := 3) (vs := [vI a]) (by decide +kernel) (by decide +kernel) rfl (by decide +kernel) rfl (by decide +kernel) (by decide +kernel)
theorem s168_40 : Rn 168 40 [some (vR o), l1, l2, l3, l4, l5] st T σ K ↔ Rn 168 41 [some (vR o), l1, l2, l3, l4, l5] (vR o :: st) T σ K := R_aload_n (n := 0) (by decide +kernel) rfl
theorem s168_41 : Rn 168 41 [l0, l1, l2, l3, l4, some (vI a)] st T σ K ↔ Rn 168 43 [l0, l1, l2, l3, l4, some (vI a)] (vI a :: st) T σ K := R_iload (n := 5) (by decide +kernel) rfl
theorem s168_43 : Rn 168 43 L (vI a :: vR o :: st) T σ K ↔ (sx_kd T o = 9 ∧ st.length ≤ 4) ∧ Rn 170 0 [some (vR o), some (vI a), none] [] T σ (fun r T' σ' => Rn 168 46 L (sx_push r st) T' σ' K) := R_V (cm := 170) (n := 1) (idx := 142) (ci := 9) (mx := 3) (vs := [vI a]) (by decide +kernel) (by decide +kernel) rfl (by decide +kernel) rfl (by decide +kernel) (by decide +kernel)
theorem s168_46 : Rn 168 46 [some (vR o), l1, l2, l3, l4, l5] st T σ K ↔ Rn 168 47 [some (vR o), l1, l2, l3, l4, l5] (vR o :: st) T σ K := R_aload_n (n := 0) (by decide +kernel) rfl
theorem s168_47 : Rn 168 47 L (vR o :: st) T σ K ↔ sx_kd T o = 9 ∧ Rn 168 50 L (vI (σ o 8) :: st) T σ K := R_getI (idx := 36) (ci := 9) (k := 8) (by decide +kernel) (by decide +kernel) (Or.inl rfl)
theorem s168_50 : Rn 168 50 L [vI a] T σ K ↔ K (some (vI a)) T σ := R_ret (by decide +kernel) (by decide +kernel)
theorem s169_0 : Rn 169 0 [some (vR o), l1] st T σ K ↔ Rn 169 1 [some (vR o), l1] (vR o :: st) T σ K := R_aload_n (n := 0) (by decide +kernel) rfl
theorem s169_1 : Rn 169 1 L (vR o :: st) T σ K ↔ sx_kd T o = 9 ∧ ∃ t, sx_rf T o 9 = some t ∧ Rn 169 4 L (vR t :: st) T σ K := R_getR (idx := 39) (ci := 9) (k := 9) (by decide +kernel) (by decide +kernel) rfl
theorem s169_4 : Rn 169 4 [l0, some (vI a)] st T σ K ↔ Rn 169 5 [l0, some (vI a)] (vI a :: st) T σ K := R_iload_n (n := 1) (by decide +kernel) rfl
theorem s169_5 : Rn 169 5 L (vI a :: vR o :: st) T σ K ↔ Rn 169 6 L (vI a :: vR o :: vI a :: vR o :: st) T σ K := R_dup2 (v := vI a) (w := vR o) (by decide +kernel) rfl rfl
theorem s169_6 : Rn 169 6 L (vI a :: vR o :: st) T σ K ↔ (sx_kd T o = 20 ∧ 0 ≤ a ∧ a < sx_ln T o) ∧ Rn 169 7 L (vI (σ o a) :: st) T σ K := R_iald (by decide +kernel) (by decide)
theorem s169_7 : Rn 169 7 L st T σ K ↔ Rn 169 8 L (vI 1 :: st) T σ K := R_iconst (n := 1) (by decide +kernel) (by decide)
theorem s169_8 : Rn 169 8 L (vI b :: vI a :: st) T σ K ↔ inI (a + b) ∧ Rn 169 9 L (vI (a + b) :: st) T σ K := R_iadd (by decide +kernel)
theorem s169_9 : Rn 169 9 L (vI b :: vI a :: vR o :: st) T σ K ↔ (sx_kd T o = 20 ∧ 0 ≤ a ∧ a < sx_ln T o) ∧ Rn 169 10 L st T (sx_up σ o a b) K := R_iast (by decide +kernel)
theorem s169_10 : Rn 169 10 L st T σ K ↔ Rn 169 11 L (vI (-1) :: st) T σ K := R_iconst (n := -1) (by decide +kernel) (by decide)
theorem s169_11 : Rn 169 11 L [vI a] T σ K ↔ K (some (vI a)) T σ := R_ret (by decide +kernel) (by decide +kernel)
theorem s170_0 : Rn 170 0 L st T σ K ↔ Rn 170 1 L (vI 0 :: st) T σ K := R_iconst (n := 0) (by decide +kernel) (by decide)
theorem s170_1 : Rn 170 1 [l0, l1, l2] (vI a :: st) T σ K ↔ Rn 170 2 [l0, l1, some (vI a)] st T σ K := R_istore_n (n := 2) (by decide +kernel) rfl
theorem s170_2 : Rn 170 2 [l0, l1, some (vI a)] st T σ K ↔ Rn 170 3 [l0, l1, some (vI a)] (vI a :: st) T σ K := R_iload_n (n := 2) (by decide +kernel) rfl
theorem s170_3 : Rn 170 3 L st T σ K ↔ Rn 170 4 L (vI 4 :: st) T σ K := R_iconst (n := 4) (by decide +kernel) (by decide)
theorem s170_4 : Rn 170 4 L (vI b :: vI a :: st) T σ K ↔ (b ≤ a → Rn 170 37 L st T σ K) ∧ (a < b → Rn 170 7 L st T σ K) := R_icmp_ge (off := 33) (by decide +kernel) (by decide)
theorem s170_7 : Rn 170 7 [some (vR o), l1, l2] st T σ K ↔ Rn 170 8 [some (vR o), l1, l2] (vR o :: st) T σ K := R_aload_n (n := 0) (by decide +kernel) rfl
theorem s170_8 : Rn 170 8 L (vR o :: st) T σ K ↔ sx_kd T o = 9 ∧ ∃ t, sx_rf T o 7 = some t ∧ Rn 170 11 L (vR t :: st) T σ K := R_getR (idx := 33) (ci := 9) (k := 7) (by decide +kernel) (by decide +kernel) rfl
theorem s170_11 : Rn 170 11 [some (vR o), l1, l2] st T σ K ↔ Rn 170 12 [some (vR o), l1, l2] (vR o :: st) T σ K := R_aload_n (n := 0) (by decide +kernel) rfl
theorem s170_12 : Rn 170 12 L (vR o :: st) T σ K ↔ sx_kd T o = 9 ∧ Rn 170 15 L (vI (σ o 8) :: st) T σ K := R_getI (idx := 36) (ci := 9) (k := 8) (by decide +kernel) (by decide +kernel) (Or.inl rfl)
theorem s170_15 : Rn 170 15 [l0, l1, some (vI a)] st T σ K ↔ Rn 170 16 [l0, l1, some (vI a)] (vI a :: st) T σ K := R_iload_n (n := 2) (by decide +kernel) rfl
theorem s170_16 : Rn 170 16 L (vI b :: vI a :: st) T σ K ↔ inI (a + b) ∧ Rn 170 17 L (vI (a + b) :: st) T σ K := R_iadd (by decide +kernel)
theorem s170_17 : Rn 170 17 [l0, some (vI a), l2] st T σ K ↔ Rn 170 18 [l0, some (vI a), l2] (vI a :: st) T σ K := R_iload_n (n := 1) (by decide +kernel) rfl
theorem s170_18 : Rn 170 18 L st T σ K ↔ Rn 170 20 L (vI 24 :: st) T σ K := R_bipush (n := 24) (by decide +kernel) (by decide +kernel)
theorem s170_20 : Rn 170 20 L st T σ K ↔ Rn 170 22 L (vI 8 :: st) T σ K := R_bipush (n := 8) (by decide +kernel) (by decide +kernel)
theorem s170_22 : Rn 170 22 [l0, l1, some (vI a)] st T σ K ↔ Rn 170 23 [l0, l1, some (vI a)] (vI a :: st) T σ K := R_iload_n (n := 2) (by decide +kernel) rfl
theorem s170_23 : Rn 170 23 L (vI b :: vI a :: st) T σ K ↔ inI (a * b) ∧ Rn 170 24 L (vI (a * b) :: st) T σ K := R_imul (by decide +kernel)
theorem s170_24 : Rn 170 24 L (vI b :: vI a :: st) T σ K ↔ inI (a - b) ∧ Rn 170 25 L (vI (a - b) :: st) T σ K := R_isub (by decide +kernel)
theorem s170_25 : Rn 170 25 L (vI b :: vI a :: st) T σ K ↔ (0 ≤ b ∧ b ≤ 31) ∧ inI (a / 2 ^ b.toNat) ∧ Rn 170 26 L (vI (a / 2 ^ b.toNat) :: st) T σ K := R_ishr (by decide +kernel)
theorem s170_26 : Rn 170 26 L st T σ K ↔ Rn 170 29 L (vI 255 :: st) T σ K := R_sipush (n := 255) (by decide +kernel) (by decide +kernel)
theorem s170_29 : Rn 170 29 L (vI b :: vI a :: st) T σ K ↔ Rn 170 30 L (vI (sx_and a b) :: st) T σ K := R_iand (by decide +kernel)
theorem s170_30 : Rn 170 30 L (vI b :: vI a :: vR o :: st) T σ K ↔ (sx_kd T o = 20 ∧ 0 ≤ a ∧ a < sx_ln T o) ∧ Rn 170 31 L st T (sx_up σ o a b) K := R_iast (by decide +kernel)
theorem s170_31 : Rn 170 31 [l0, l1, some (vI a)] st T σ K ↔ inI (a + 1) ∧ Rn 170 34 [l0, l1, some (vI (a + 1))] st T σ K := R_iinc (n := 2) (d := 1) (by decide +kernel) rfl
theorem s170_34 : Rn 170 34 L st T σ K ↔ Rn 170 2 L st T σ K := R_goto (off := -32) (by decide +kernel) (by decide)
theorem s170_37 : Rn 170 37 [some (vR o), l1, l2] st T σ K ↔ Rn 170 38 [some (vR o), l1, l2] (vR o :: st) T σ K := R_aload_n (n := 0) (by decide +kernel) rfl
theorem s170_38 : Rn 170 38 L (vR o :: st) T σ K ↔ Rn 170 39 L (vR o :: vR o :: st) T σ K := R_dup (v := vR o) (by decide +kernel) rfl
theorem s170_39 : Rn 170 39 L (vR o :: st) T σ K ↔ sx_kd T o = 9 ∧ Rn 170 42 L (vI (σ o 8) :: st) T σ K := R_getI (idx := 36) (ci := 9) (k := 8) (by decide +kernel) (by decide +kernel) (Or.inl rfl)
theorem s170_42 : Rn 170 42 L st T σ K ↔ Rn 170 43 L (vI 4 :: st) T σ K := R_iconst (n := 4) (by decide +kernel) (by decide)
theorem s170_43 : Rn 170 43 L (vI b :: vI a :: st) T σ K ↔ inI (a + b) ∧ Rn 170 44 L (vI (a + b) :: st) T σ K := R_iadd (by decide +kernel)
theorem s170_44 : Rn 170 44 L (vI a :: vR o :: st) T σ K ↔ sx_kd T o = 9 ∧ Rn 170 47 L st T (sx_up σ o 8 a) K := R_putI (idx := 36) (ci := 9) (k := 8) (by decide +kernel) (by decide +kernel) rfl rfl
theorem s170_47 : Rn 170 47 L [] T σ K ↔ K none T σ := R_retV (by decide +kernel) (by decide +kernel)
theorem s171_0 : Rn 171 0 [l0, some (vI a)] st T σ K ↔ Rn 171 1 [l0, some (vI a)] (vI a :: st) T σ K := R_iload_n (n := 1) (by decide +kernel) rfl
theorem s171_1 : Rn 171 1 L (vI a :: st) T σ K ↔ (a < 0 → Rn 171 12 L st T σ K) ∧ (0 ≤ a → Rn 171 4 L st T σ K) := R_if_lt (off := 11) (by decide +kernel) (by decide)
theorem s171_4 : Rn 171 4 [l0, some (vI a)] st T σ K ↔ Rn 171 5 [l0, some (vI a)] (vI a :: st) T σ K := R_iload_n (n := 1) (by decide +kernel) rfl
theorem s171_5 : Rn 171 5 [some (vR o), l1] st T σ K ↔ Rn 171 6 [some (vR o), l1] (vR o :: st) T σ K := R_aload_n (n := 0) (by decide +kernel) rfl
theorem s171_6 : Rn 171 6 L (vR o :: st) T σ K ↔ sx_kd T o = 9 ∧ Rn 171 9 L (vI (σ o 8) :: st) T σ K := R_getI (idx := 36) (ci := 9) (k := 8) (by decide +kernel) (by decide +kernel) (Or.inl rfl)
theorem s171_9 : Rn 171 9 L (vI b :: vI a :: st) T σ K ↔ (a ≤ b → Rn 171 18 L st T σ K) ∧ (b < a → Rn 171 12 L st T σ K) := R_icmp_le (off := 9) (by decide +kernel) (by decide)
theorem s171_12 : Rn 171 12 [some (vR o), l1] st T σ K ↔ Rn 171 13 [some (vR o), l1] (vR o :: st) T σ K := R_aload_n (n := 0) (by decide +kernel) rfl
theorem s171_13 : Rn 171 13 L st T σ K ↔ Rn 171 14 L (vI 0 :: st) T σ K := R_iconst (n := 0) (by decide +kernel) (by decide)
theorem s171_14 : Rn 171 14 L (vI a :: vR o :: st) T σ K ↔ (sx_kd T o = 9 ∧ st.length ≤ 4) ∧ Rn 172 0 [some (vR o), some (vI a)] [] T σ (fun r T' σ' => Rn 171 17 L (sx_push r st) T' σ' K) := R_V (cm := 172) (n := 1) (idx := 146) (ci := 9) (mx := 2) (vs := [vI a]) (by decide +kernel) (by decide +kernel) rfl (by decide +kernel) rfl (by decide +kernel) (by decide +kernel)
theorem s171_17 : Rn 171 17 L [vI a] T σ K ↔ (a = 0 ∨ a = 1) ∧ K (some (vI a)) T σ := R_retZ (by decide +kernel) (by decide +kernel)
theorem s171_18 : Rn 171 18 [some (vR o), l1] st T σ K ↔ Rn 171 19 [some (vR o), l1] (vR o :: st) T σ K := R_aload_n (n := 0) (by decide +kernel) rfl
theorem s171_19 : Rn 171 19 [l0, some (vI a)] st T σ K ↔ Rn 171 20 [l0, some (vI a)] (vI a :: st) T σ K := R_iload_n (n := 1) (by decide +kernel) rfl
theorem s171_20 : Rn 171 20 L (vI a :: vR o :: st) T σ K ↔ sx_kd T o = 9 ∧ Rn 171 23 L st T (sx_up σ o 8 a) K := R_putI (idx := 36) (ci := 9) (k := 8) (by decide +kernel) (by decide +kernel) rfl rfl
theorem s171_23 : Rn 171 23 L st T σ K ↔ Rn 171 24 L (vI 1 :: st) T σ K := R_iconst (n := 1) (by decide +kernel) (by decide)
theorem s171_24 : Rn 171 24 L [vI a] T σ K ↔ (a = 0 ∨ a = 1) ∧ K (some (vI a)) T σ := R_retZ (by decide +kernel) (by decide +kernel)
theorem s172_0 : Rn 172 0 [some (vR o), l1] st T σ K ↔ Rn 172 1 [some (vR o), l1] (vR o :: st) T σ K := R_aload_n (n := 0) (by decide +kernel) rfl
theorem s172_1 : Rn 172 1 L (vR o :: st) T σ K ↔ sx_kd T o = 9 ∧ ∃ t, sx_rf T o 9 = some t ∧ Rn 172 4 L (vR t :: st) T σ K := R_getR (idx := 39) (ci := 9) (k := 9) (by decide +kernel) (by decide +kernel) rfl
theorem s172_4 : Rn 172 4 [l0, some (vI a)] st T σ K ↔ Rn 172 5 [l0, some (vI a)] (vI a :: st) T σ K := R_iload_n (n := 1) (by decide +kernel) rfl
theorem s172_5 : Rn 172 5 L (vI a :: vR o :: st) T σ K ↔ Rn 172 6 L (vI a :: vR o :: vI a :: vR o :: st) T σ K := R_dup2 (v := vI a) (w := vR o) (by decide +kernel) rfl rfl
theorem s172_6 : Rn 172 6 L (vI a :: vR o :: st) T σ K ↔ (sx_kd T o = 20 ∧ 0 ≤ a ∧ a < sx_ln T o) ∧ Rn 172 7 L (vI (σ o a) :: st) T σ K := R_iald (by decide +kernel) (by decide)
theorem s172_7 : Rn 172 7 L st T σ K ↔ Rn 172 8 L (vI 1 :: st) T σ K := R_iconst (n := 1) (by decide +kernel) (by decide)
theorem s172_8 : Rn 172 8 L (vI b :: vI a :: st) T σ K ↔ inI (a + b) ∧ Rn 172 9 L (vI (a + b) :: st) T σ K := R_iadd (by decide +kernel)
theorem s172_9 : Rn 172 9 L (vI b :: vI a :: vR o :: st) T σ K ↔ (sx_kd T o = 20 ∧ 0 ≤ a ∧ a < sx_ln T o) ∧ Rn 172 10 L st T (sx_up σ o a b) K := R_iast (by decide +kernel)
theorem s172_10 : Rn 172 10 L st T σ K ↔ Rn 172 11 L (vI 0 :: st) T σ K := R_iconst (n := 0) (by decide +kernel) (by decide)
theorem s172_11 : Rn 172 11 L [vI a] T σ K ↔ (a = 0 ∨ a = 1) ∧ K (some (vI a)) T σ := R_retZ (by decide +kernel) (by decide +kernel)
theorem s173_0 : Rn 173 0 [some (vR o), l1, l2, l3] st T σ K ↔ Rn 173 1 [some (vR o), l1, l2, l3] (vR o :: st) T σ K := R_aload_n (n := 0) (by decide +kernel) rfl
theorem s173_1 : Rn 173 1 [some (vR o), l1, l2, l3] st T σ K ↔ Rn 173 2 [some (vR o), l1, l2, l3] (vR o :: st) T σ K := R_aload_n (n := 0) (by decide +kernel) rfl
theorem s173_2 : Rn 173 2 L (vR o :: st) T σ K ↔ (sx_kd T o = 9 ∧ st.length ≤ 4) ∧ Rn 174 0 [some (vR o), none] [] T σ (fun r T' σ' => Rn 173 5 L (sx_push r st) T' σ' K) := R_V (cm := 174) (n := 0) (idx := 199) (ci := 9) (mx := 2) (vs := []) (by decide +kernel) (by decide +kernel) rfl (by decide +kernel) rfl (by decide +kernel) (by decide +kernel)
theorem s173_5 : Rn 173 5 L (vI a :: vR o :: st) T σ K ↔ sx_kd T o = 9 ∧ Rn 173 8 L st T (sx_up σ o 12 a) K := R_putI (idx := 48) (ci := 9) (k := 12) (by decide +kernel) (by decide +kernel) rfl rfl
theorem s173_8 : Rn 173 8 [some (vR o), l1, l2, l3] st T σ K ↔ Rn 173 9 [some (vR o), l1, l2, l3] (vR o :: st) T σ K := R_aload_n (n := 0) (by decide +kernel) rfl
theorem s173_9 : Rn 173 9 L st T σ K ↔ Rn 173 10 L (vI 0 :: st) T σ K := R_iconst (n := 0) (by decide +kernel) (by decide)
theorem s173_10 : Rn 173 10 L (vI a :: vR o :: st) T σ K ↔ sx_kd T o = 9 ∧ Rn 173 13 L st T (sx_up σ o 13 a) K := R_putI (idx := 51) (ci := 9) (k := 13) (by decide +kernel) (by decide +kernel) rfl rfl
theorem s173_13 : Rn 173 13 [some (vR o), l1, l2, l3] st T σ K ↔ Rn 173 14 [some (vR o), l1, l2, l3] (vR o :: st) T σ K := R_aload_n (n := 0) (by decide +kernel) rfl
theorem s173_14 : Rn 173 14 L st T σ K ↔ Rn 173 15 L (vI 0 :: st) T σ K := R_iconst (n := 0) (by decide +kernel) (by decide)
theorem s173_15 : Rn 173 15 L (vI a :: vR o :: st) T σ K ↔ sx_kd T o = 9 ∧ Rn 173 18 L st T (sx_up σ o 15 a) K := R_putI (idx := 57) (ci := 9) (k := 15) (by decide +kernel) (by decide +kernel) rfl rfl
theorem s173_18 : Rn 173 18 [some (vR o), l1, l2, l3] st T σ K ↔ Rn 173 19 [some (vR o), l1, l2, l3] (vR o :: st) T σ K := R_aload_n (n := 0) (by decide +kernel) rfl
theorem s173_19 : Rn 173 19 L st T σ K ↔ Rn 173 20 L (vI (-1) :: st) T σ K := R_iconst (n := -1) (by decide +kernel) (by decide)
theorem s173_20 : Rn 173 20 L (vI a :: vR o :: st) T σ K ↔ sx_kd T o = 9 ∧ Rn 173 23 L st T (sx_up σ o 16 a) K := R_putI (idx := 60) (ci := 9) (k := 16) (by decide +kernel) (by decide +kernel) rfl rfl
theorem s173_23 : Rn 173 23 [some (vR o), l1, l2, l3] st T σ K ↔ Rn 173 24 [some (vR o), l1, l2, l3] (vR o :: st) T σ K := R_aload_n (n := 0) (by decide +kernel) rfl
theorem s173_24 : Rn 173 24 L (vR o :: st) T σ K ↔ (sx_kd T o = 9 ∧ st.length ≤ 4) ∧ Rn 175 0 [some (vR o), none] [] T σ (fun r T' σ' => Rn 173 27 L (sx_push r st) T' σ' K) := R_V (cm := 175) (n := 0) (idx := 202) (ci := 9) (mx := 2) (vs := []) (by decide +kernel) (by decide +kernel) rfl (by decide +kernel) rfl (by decide +kernel) (by decide +kernel)
theorem s173_27 : Rn 173 27 [l0, l1, l2, l3] (vI a :: st) T σ K ↔ Rn 173 28 [l0, some (vI a), l2, l3] st T σ K := R_istore_n (n := 1) (by decide +kernel) rfl
theorem s173_28 : Rn 173 28 [some (vR o), l1, l2, l3] st T σ K ↔ Rn 173 29 [some (vR o), l1, l2, l3] (vR o :: st) T σ K := R_aload_n (n := 0) (by decide +kernel) rfl
theorem s173_29 : Rn 173 29 [some (vR o), l1, l2, l3] st T σ K ↔ Rn 173 30 [some (vR o), l1, l2, l3] (vR o :: st) T σ K := R_aload_n (n := 0) (by decide +kernel) rfl
theorem s173_30 : Rn 173 30 L (vR o :: st) T σ K ↔ sx_kd T o = 9 ∧ Rn 173 33 L (vI (σ o 15) :: st) T σ K := R_getI (idx := 57) (ci := 9) (k := 15) (by decide +kernel) (by decide +kernel) (Or.inl rfl)
theorem s173_33 : Rn 173 33 L (vI a :: vR o :: st) T σ K ↔ sx_kd T o = 9 ∧ Rn 173 36 L st T (sx_up σ o 10 a) K := R_putI (idx := 42) (ci := 9) (k := 10) (by decide +kernel) (by decide +kernel) rfl rfl
theorem s173_36 : Rn 173 36 [some (vR o), l1, l2, l3] st T σ K ↔ Rn 173 37 [some (vR o), l1, l2, l3] (vR o :: st) T σ K := R_aload_n (n := 0) (by decide +kernel) rfl
theorem s173_37 : Rn 173 37 [some (vR o), l1, l2, l3] st T σ K ↔ Rn 173 38 [some (vR o), l1, l2, l3] (vR o :: st) T σ K := R_aload_n (n := 0) (by decide +kernel) rfl
theorem s173_38 : Rn 173 38 L (vR o :: st) T σ K ↔ sx_kd T o = 9 ∧ Rn 173 41 L (vI (σ o 16) :: st) T σ K := R_getI (idx := 60) (ci := 9) (k := 16) (by decide +kernel) (by decide +kernel) (Or.inl rfl)
theorem s173_41 : Rn 173 41 L (vI a :: vR o :: st) T σ K ↔ sx_kd T o = 9 ∧ Rn 173 44 L st T (sx_up σ o 11 a) K := R_putI (idx := 45) (ci := 9) (k := 11) (by decide +kernel) (by decide +kernel) rfl rfl
theorem s173_44 : Rn 173 44 [some (vR o), l1, l2, l3] st T σ K ↔ Rn 173 45 [some (vR o), l1, l2, l3] (vR o :: st) T σ K := R_aload_n (n := 0) (by decide +kernel) rfl
theorem s173_45 : Rn 173 45 L (vR o :: st) T σ K ↔ sx_kd T o = 9 ∧ Rn 173 48 L (vI (σ o 15) :: st) T σ K := R_getI (idx := 57) (ci := 9) (k := 15) (by decide +kernel) (by decide +kernel) (Or.inl rfl)
theorem s173_48 : Rn 173 48 L (vI a :: st) T σ K ↔ (a = 0 → Rn 173 57 L st T σ K) ∧ (a ≠ 0 → Rn 173 51 L st T σ K) := R_if_eq (off := 9) (by decide +kernel) (by decide)
theorem s173_51 : Rn 173 51 [some (vR o), l1, l2, l3] st T σ K ↔ Rn 173 52 [some (vR o), l1, l2, l3] (vR o :: st) T σ K := R_aload_n (n := 0) (by decide +kernel) rfl
theorem s173_52 : Rn 173 52 L st T σ K ↔ Rn 173 53 L (vI 1 :: st) T σ K := R_iconst (n := 1) (by decide +kernel) (by decide)
theorem s173_53 : Rn 173 53 L (vI a :: vR o :: st) T σ K ↔ (sx_kd T o = 9 ∧ st.length ≤ 4) ∧ Rn 169 0 [some (vR o), some (vI a)] [] T σ (fun r T' σ' => Rn 173 56 L (sx_push r st) T' σ' K) := R_V (cm := 169) (n := 1) (idx := 138) (ci := 9) (mx := 2) (vs := [vI a]) (by decide +kernel) (by decide +kernel) rfl (by decide +kernel) rfl (by decide +kernel) (by decide +kernel)
theorem s173_56 : Rn 173 56 L [vI a] T σ K ↔ K (some (vI a)) T σ := R_ret (by decide +kernel) (by decide +kernel)
theorem s173_57 : Rn 173 57 L st T σ K ↔ Rn 173 58 L (vI 0 :: st) T σ K := R_iconst (n := 0) (by decide +kernel) (by decide)
theorem s173_58 : Rn 173 58 [l0, l1, l2, l3] (vI a :: st) T σ K ↔ Rn 173 59 [l0, l1, some (vI a), l3] st T σ K := R_istore_n (n := 2) (by decide +kernel) rfl
theorem s173_59 : Rn 173 59 [l0, l1, some (vI a), l3] st T σ K ↔ Rn 173 60 [l0, l1, some (vI a), l3] (vI a :: st) T σ K := R_iload_n (n := 2) (by decide +kernel) rfl
theorem s173_60 : Rn 173 60 L st T σ K ↔ Rn 173 63 L (vI 481 :: st) T σ K := R_sipush (n := 481) (by decide +kernel) (by decide +kernel)
theorem s173_63 : Rn 173 63 L (vI b :: vI a :: st) T σ K ↔ (b ≤ a → Rn 173 79 L st T σ K) ∧ (a < b → Rn 173 66 L st T σ K) := R_icmp_ge (off := 16) (by decide +kernel) (by decide)
theorem s173_66 : Rn 173 66 [some (vR o), l1, l2, l3] st T σ K ↔ Rn 173 67 [some (vR o), l1, l2, l3] (vR o :: st) T σ K := R_aload_n (n := 0) (by decide +kernel) rfl
theorem s173_67 : Rn 173 67 L (vR o :: st) T σ K ↔ sx_kd T o = 9 ∧ ∃ t, sx_rf T o 0 = some t ∧ Rn 173 70 L (vR t :: st) T σ K := R_getR (idx := 7) (ci := 9) (k := 0) (by decide +kernel) (by decide +kernel) rfl
theorem s173_70 : Rn 173 70 [l0, l1, some (vI a), l3] st T σ K ↔ Rn 173 71 [l0, l1, some (vI a), l3] (vI a :: st) T σ K := R_iload_n (n := 2) (by decide +kernel) rfl
theorem s173_71 : Rn 173 71 L st T σ K ↔ Rn 173 72 L (vI 0 :: st) T σ K := R_iconst (n := 0) (by decide +kernel) (by decide)
theorem s173_72 : Rn 173 72 L (vI b :: vI a :: vR o :: st) T σ K ↔ (sx_kd T o = 20 ∧ 0 ≤ a ∧ a < sx_ln T o) ∧ Rn 173 73 L st T (sx_up σ o a b) K := R_iast (by decide +kernel)
theorem s173_73 : Rn 173 73 [l0, l1, some (vI a), l3] st T σ K ↔ inI (a + 1) ∧ Rn 173 76 [l0, l1, some (vI (a + 1)), l3] st T σ K := R_iinc (n := 2) (d := 1) (by decide +kernel) rfl
theorem s173_76 : Rn 173 76 L st T σ K ↔ Rn 173 59 L st T σ K := R_goto (off := -17) (by decide +kernel) (by decide)
theorem s173_79 : Rn 173 79 [some (vR o), l1, l2, l3] st T σ K ↔ Rn 173 80 [some (vR o), l1, l2, l3] (vR o :: st) T σ K := R_aload_n (n := 0) (by decide +kernel) rfl
theorem s173_80 : Rn 173 80 L (vR o :: st) T σ K ↔ sx_kd T o = 9 ∧ ∃ t, sx_rf T o 0 = some t ∧ Rn 173 83 L (vR t :: st) T σ K := R_getR (idx := 7) (ci := 9) (k := 0) (by decide +kernel) (by decide +kernel) rfl
theorem s173_83 : Rn 173 83 L st T σ K ↔ Rn 173 86 L (vI 480 :: st) T σ K := R_sipush (n := 480) (by decide +kernel) (by decide +kernel)
theorem s173_86 : Rn 173 86 [some (vR o), l1, l2, l3] st T σ K ↔ Rn 173 87 [some (vR o), l1, l2, l3] (vR o :: st) T σ K := R_aload_n (n := 0) (by decide +kernel) rfl
theorem s173_87 : Rn 173 87 L (vR o :: st) T σ K ↔ sx_kd T o = 9 ∧ Rn 173 90 L (vI (σ o 19) :: st) T σ K := R_getI (idx := 69) (ci := 9) (k := 19) (by decide +kernel) (by decide +kernel) (Or.inl rfl)
theorem s173_90 : Rn 173 90 L (vI b :: vI a :: vR o :: st) T σ K ↔ (sx_kd T o = 20 ∧ 0 ≤ a ∧ a < sx_ln T o) ∧ Rn 173 91 L st T (sx_up σ o a b) K := R_iast (by decide +kernel)
theorem s173_91 : Rn 173 91 L st T σ K ↔ Rn 173 92 L (vI 0 :: st) T σ K := R_iconst (n := 0) (by decide +kernel) (by decide)
theorem s173_92 : Rn 173 92 [l0, l1, l2, l3] (vI a :: st) T σ K ↔ Rn 173 93 [l0, l1, some (vI a), l3] st T σ K := R_istore_n (n := 2) (by decide +kernel) rfl
theorem s173_93 : Rn 173 93 [l0, l1, some (vI a), l3] st T σ K ↔ Rn 173 94 [l0, l1, some (vI a), l3] (vI a :: st) T σ K := R_iload_n (n := 2) (by decide +kernel) rfl
theorem s173_94 : Rn 173 94 [some (vR o), l1, l2, l3] st T σ K ↔ Rn 173 95 [some (vR o), l1, l2, l3] (vR o :: st) T σ K := R_aload_n (n := 0) (by decide +kernel) rfl
theorem s173_95 : Rn 173 95 L (vR o :: st) T σ K ↔ sx_kd T o = 9 ∧ Rn 173 98 L (vI (σ o 18) :: st) T σ K := R_getI (idx := 66) (ci := 9) (k := 18) (by decide +kernel) (by decide +kernel) (Or.inl rfl)
theorem s173_98 : Rn 173 98 L (vI b :: vI a :: st) T σ K ↔ (b ≤ a → Rn 173 180 L st T σ K) ∧ (a < b → Rn 173 101 L st T σ K) := R_icmp_ge (off := 82) (by decide +kernel) (by decide)
theorem s173_101 : Rn 173 101 L st T σ K ↔ Rn 173 102 L (vI 0 :: st) T σ K := R_iconst (n := 0) (by decide +kernel) (by decide)
theorem s173_102 : Rn 173 102 [l0, l1, l2, l3] (vI a :: st) T σ K ↔ Rn 173 103 [l0, l1, l2, some (vI a)] st T σ K := R_istore_n (n := 3) (by decide +kernel) rfl
theorem s173_103 : Rn 173 103 [l0, l1, l2, some (vI a)] st T σ K ↔ Rn 173 104 [l0, l1, l2, some (vI a)] (vI a :: st) T σ K := R_iload_n (n := 3) (by decide +kernel) rfl
theorem s173_104 : Rn 173 104 L st T σ K ↔ Rn 173 106 L (vI 6 :: st) T σ K := R_bipush (n := 6) (by decide +kernel) (by decide +kernel)
theorem s173_106 : Rn 173 106 L (vI b :: vI a :: st) T σ K ↔ (b ≤ a → Rn 173 141 L st T σ K) ∧ (a < b → Rn 173 109 L st T σ K) := R_icmp_ge (off := 35) (by decide +kernel) (by decide)
theorem s173_109 : Rn 173 109 [some (vR o), l1, l2, l3] st T σ K ↔ Rn 173 110 [some (vR o), l1, l2, l3] (vR o :: st) T σ K := R_aload_n (n := 0) (by decide +kernel) rfl
theorem s173_110 : Rn 173 110 L (vR o :: st) T σ K ↔ sx_kd T o = 9 ∧ ∃ t, sx_rf T o 0 = some t ∧ Rn 173 113 L (vR t :: st) T σ K := R_getR (idx := 7) (ci := 9) (k := 0) (by decide +kernel) (by decide +kernel) rfl
theorem s173_113 : Rn 173 113 L st T σ K ↔ Rn 173 116 L (vI 240 :: st) T σ K := R_sipush (n := 240) (by decide +kernel) (by decide +kernel)
theorem s173_116 : Rn 173 116 L st T σ K ↔ Rn 173 118 L (vI 6 :: st) T σ K := R_bipush (n := 6) (by decide +kernel) (by decide +kernel)
theorem s173_118 : Rn 173 118 [l0, l1, some (vI a), l3] st T σ K ↔ Rn 173 119 [l0, l1, some (vI a), l3] (vI a :: st) T σ K := R_iload_n (n := 2) (by decide +kernel) rfl
theorem s173_119 : Rn 173 119 L (vI b :: vI a :: st) T σ K ↔ inI (a * b) ∧ Rn 173 120 L (vI (a * b) :: st) T σ K := R_imul (by decide +kernel)
theorem s173_120 : Rn 173 120 L (vI b :: vI a :: st) T σ K ↔ inI (a + b) ∧ Rn 173 121 L (vI (a + b) :: st) T σ K := R_iadd (by decide +kernel)
theorem s173_121 : Rn 173 121 [l0, l1, l2, some (vI a)] st T σ K ↔ Rn 173 122 [l0, l1, l2, some (vI a)] (vI a :: st) T σ K := R_iload_n (n := 3) (by decide +kernel) rfl
theorem s173_122 : Rn 173 122 L (vI b :: vI a :: st) T σ K ↔ inI (a + b) ∧ Rn 173 123 L (vI (a + b) :: st) T σ K := R_iadd (by decide +kernel)
theorem s173_123 : Rn 173 123 [some (vR o), l1, l2, l3] st T σ K ↔ Rn 173 124 [some (vR o), l1, l2, l3] (vR o :: st) T σ K := R_aload_n (n := 0) (by decide +kernel) rfl
theorem s173_124 : Rn 173 124 L (vR o :: st) T σ K ↔ sx_kd T o = 9 ∧ ∃ t, sx_rf T o 21 = some t ∧ Rn 173 127 L (vR t :: st) T σ K := R_getR (idx := 75) (ci := 9) (k := 21) (by decide +kernel) (by decide +kernel) rfl
theorem s173_127 : Rn 173 127 L st T σ K ↔ Rn 173 129 L (vI 6 :: st) T σ K := R_bipush (n := 6) (by decide +kernel) (by decide +kernel)
theorem s173_129 : Rn 173 129 [l0, l1, some (vI a), l3] st T σ K ↔ Rn 173 130 [l0, l1, some (vI a), l3] (vI a :: st) T σ K := R_iload_n (n := 2) (by decide +kernel) rfl
theorem s173_130 : Rn 173 130 L (vI b :: vI a :: st) T σ K ↔ inI (a * b) ∧ Rn 173 131 L (vI (a * b) :: st) T σ K := R_imul (by decide +kernel)
theorem s173_131 : Rn 173 131 [l0, l1, l2, some (vI a)] st T σ K ↔ Rn 173 132 [l0, l1, l2, some (vI a)] (vI a :: st) T σ K := R_iload_n (n := 3) (by decide +kernel) rfl
theorem s173_132 : Rn 173 132 L (vI b :: vI a :: st) T σ K ↔ inI (a + b) ∧ Rn 173 133 L (vI (a + b) :: st) T σ K := R_iadd (by decide +kernel)
theorem s173_133 : Rn 173 133 L (vI a :: vR o :: st) T σ K ↔ (sx_kd T o = 20 ∧ 0 ≤ a ∧ a < sx_ln T o) ∧ Rn 173 134 L (vI (σ o a) :: st) T σ K := R_iald (by decide +kernel) (by decide)
theorem s173_134 : Rn 173 134 L (vI b :: vI a :: vR o :: st) T σ K ↔ (sx_kd T o = 20 ∧ 0 ≤ a ∧ a < sx_ln T o) ∧ Rn 173 135 L st T (sx_up σ o a b) K := R_iast (by decide +kernel)
theorem s173_135 : Rn 173 135 [l0, l1, l2, some (vI a)] st T σ K ↔ inI (a + 1) ∧ Rn 173 138 [l0, l1, l2, some (vI (a + 1))] st T σ K := R_iinc (n := 3) (d := 1) (by decide +kernel) rfl
theorem s173_138 : Rn 173 138 L st T σ K ↔ Rn 173 103 L st T σ K := R_goto (off := -35) (by decide +kernel) (by decide)
theorem s173_141 : Rn 173 141 [some (vR o), l1, l2, l3] st T σ K ↔ Rn 173 142 [some (vR o), l1, l2, l3] (vR o :: st) T σ K := R_aload_n (n := 0) (by decide +kernel) rfl
theorem s173_142 : Rn 173 142 [l0, l1, some (vI a), l3] st T σ K ↔ Rn 173 143 [l0, l1, some (vI a), l3] (vI a :: st) T σ K := R_iload_n (n := 2) (by decide +kernel) rfl
theorem s173_143 : Rn 173 143 [some (vR o), l1, l2, l3] st T σ K ↔ Rn 173 144 [some (vR o), l1, l2, l3] (vR o :: st) T σ K := R_aload_n (n := 0) (by decide +kernel) rfl
theorem s173_144 : Rn 173 144 L (vR o :: st) T σ K ↔ sx_kd T o = 9 ∧ ∃ t, sx_rf T o 20 = some t ∧ Rn 173 147 L (vR t :: st) T σ K := R_getR (idx := 72) (ci := 9) (k := 20) (by decide +kernel) (by decide +kernel) rfl
theorem s173_147 : Rn 173 147 L st T σ K ↔ Rn 173 148 L (vI 3 :: st) T σ K := R_iconst (n := 3) (by decide +kernel) (by decide)
theorem s173_148 : Rn 173 148 [l0, l1, some (vI a), l3] st T σ K ↔ Rn 173 149 [l0, l1, some (vI a), l3] (vI a :: st) T σ K := R_iload_n (n := 2) (by decide +kernel) rfl
theorem s173_149 : Rn 173 149 L (vI b :: vI a :: st) T σ K ↔ inI (a * b) ∧ Rn 173 150 L (vI (a * b) :: st) T σ K := R_imul (by decide +kernel)
theorem s173_150 : Rn 173 150 L (vI a :: vR o :: st) T σ K ↔ (sx_kd T o = 20 ∧ 0 ≤ a ∧ a < sx_ln T o) ∧ Rn 173 151 L (vI (σ o a) :: st) T σ K := R_iald (by decide +kernel) (by decide)
theorem s173_151 : Rn 173 151 [some (vR o), l1, l2, l3] st T σ K ↔ Rn 173 152 [some (vR o), l1, l2, l3] (vR o :: st) T σ K := R_aload_n (n := 0) (by decide +kernel) rfl
theorem s173_152 : Rn 173 152 L (vR o :: st) T σ K ↔ sx_kd T o = 9 ∧ ∃ t, sx_rf T o 20 = some t ∧ Rn 173 155 L (vR t :: st) T σ K := R_getR (idx := 72) (ci := 9) (k := 20) (by decide +kernel) (by decide +kernel) rfl
theorem s173_155 : Rn 173 155 L st T σ K ↔ Rn 173 156 L (vI 3 :: st) T σ K := R_iconst (n := 3) (by decide +kernel) (by decide)
theorem s173_156 : Rn 173 156 [l0, l1, some (vI a), l3] st T σ K ↔ Rn 173 157 [l0, l1, some (vI a), l3] (vI a :: st) T σ K := R_iload_n (n := 2) (by decide +kernel) rfl
theorem s173_157 : Rn 173 157 L (vI b :: vI a :: st) T σ K ↔ inI (a * b) ∧ Rn 173 158 L (vI (a * b) :: st) T σ K := R_imul (by decide +kernel)
theorem s173_158 : Rn 173 158 L st T σ K ↔ Rn 173 159 L (vI 1 :: st) T σ K := R_iconst (n := 1) (by decide +kernel) (by decide)
theorem s173_159 : Rn 173 159 L (vI b :: vI a :: st) T σ K ↔ inI (a + b) ∧ Rn 173 160 L (vI (a + b) :: st) T σ K := R_iadd (by decide +kernel)
theorem s173_160 : Rn 173 160 L (vI a :: vR o :: st) T σ K ↔ (sx_kd T o = 20 ∧ 0 ≤ a ∧ a < sx_ln T o) ∧ Rn 173 161 L (vI (σ o a) :: st) T σ K := R_iald (by decide +kernel) (by decide)
theorem s173_161 : Rn 173 161 [some (vR o), l1, l2, l3] st T σ K ↔ Rn 173 162 [some (vR o), l1, l2, l3] (vR o :: st) T σ K := R_aload_n (n := 0) (by decide +kernel) rfl
theorem s173_162 : Rn 173 162 L (vR o :: st) T σ K ↔ sx_kd T o = 9 ∧ ∃ t, sx_rf T o 20 = some t ∧ Rn 173 165 L (vR t :: st) T σ K := R_getR (idx := 72) (ci := 9) (k := 20) (by decide +kernel) (by decide +kernel) rfl
theorem s173_165 : Rn 173 165 L st T σ K ↔ Rn 173 166 L (vI 3 :: st) T σ K := R_iconst (n := 3) (by decide +kernel) (by decide)
theorem s173_166 : Rn 173 166 [l0, l1, some (vI a), l3] st T σ K ↔ Rn 173 167 [l0, l1, some (vI a), l3] (vI a :: st) T σ K := R_iload_n (n := 2) (by decide +kernel) rfl
theorem s173_167 : Rn 173 167 L (vI b :: vI a :: st) T σ K ↔ inI (a * b) ∧ Rn 173 168 L (vI (a * b) :: st) T σ K := R_imul (by decide +kernel)
theorem s173_168 : Rn 173 168 L st T σ K ↔ Rn 173 169 L (vI 2 :: st) T σ K := R_iconst (n := 2) (by decide +kernel) (by decide)
theorem s173_169 : Rn 173 169 L (vI b :: vI a :: st) T σ K ↔ inI (a + b) ∧ Rn 173 170 L (vI (a + b) :: st) T σ K := R_iadd (by decide +kernel)
theorem s173_170 : Rn 173 170 L (vI a :: vR o :: st) T σ K ↔ (sx_kd T o = 20 ∧ 0 ≤ a ∧ a < sx_ln T o) ∧ Rn 173 171 L (vI (σ o a) :: st) T σ K := R_iald (by decide +kernel) (by decide)
theorem s173_171 : Rn 173 171 L (vI d :: vI c :: vI b :: vI a :: vR o :: st) T σ K ↔ (sx_kd T o = 9 ∧ st.length ≤ 4) ∧ Rn 191 0 [some (vR o), some (vI a), some (vI b), some (vI c), some (vI d), none, none] [] T σ (fun r T' σ' => Rn 173 174 L (sx_push r st) T' σ' K) := R_V (cm := 191) (n := 4) (idx := 205) (ci := 9) (mx := 7) (vs := [vI a, vI b, vI c, vI d]) (by decide +kernel) (by decide +kernel) rfl (by decide +kernel) rfl (by decide +kernel) (by decide +kernel)
theorem s173_174 : Rn 173 174 [l0, l1, some (vI a), l3] st T σ K ↔ inI (a + 1) ∧ Rn 173 177 [l0, l1, some (vI (a + 1)), l3] st T σ K := R_iinc (n := 2) (d := 1) (by decide +kernel) rfl
theorem s173_177 : Rn 173 177 L st T σ K ↔ Rn 173 93 L st T σ K := R_goto (off := -84) (by decide +kernel) (by decide)
theorem s173_180 : Rn 173 180 [some (vR o), l1, l2, l3] st T σ K ↔ Rn 173 181 [some (vR o), l1, l2, l3] (vR o :: st) T σ K := R_aload_n (n := 0) (by decide +kernel) rfl
theorem s173_181 : Rn 173 181 L st T σ K ↔ Rn 173 182 L (vI 1 :: st) T σ K := R_iconst (n := 1) (by decide +kernel) (by decide)
theorem s173_182 : Rn 173 182 L (vI a :: vR o :: st) T σ K ↔ (sx_kd T o = 9 ∧ (a = 0 ∨ a = 1)) ∧ Rn 173 185 L st T (sx_up σ o 6 a) K := R_putZ (idx := 29) (ci := 9) (k := 6) (by decide +kernel) (by decide +kernel) rfl rfl
theorem s173_185 : Rn 173 185 [some (vR o), l1, l2, l3] st T σ K ↔ Rn 173 186 [some (vR o), l1, l2, l3] (vR o :: st) T σ K := R_aload_n (n := 0) (by decide +kernel) rfl
theorem s173_186 : Rn 173 186 L st T σ K ↔ Rn 173 187 L (vI 0 :: st) T σ K := R_iconst (n := 0) (by decide +kernel) (by decide)
theorem s173_187 : Rn 173 187 L (vI a :: vR o :: st) T σ K ↔ sx_kd T o = 9 ∧ Rn 173 190 L st T (sx_up σ o 4 a) K := R_putI (idx := 22) (ci := 9) (k := 4) (by decide +kernel) (by decide +kernel) rfl rfl
theorem s173_190 : Rn 173 190 [some (vR o), l1, l2, l3] st T σ K ↔ Rn 173 191 [some (vR o), l1, l2, l3] (vR o :: st) T σ K := R_aload_n (n := 0) (by decide +kernel) rfl
theorem s173_191 : Rn 173 191 L st T σ K ↔ Rn 173 192 L (vI 0 :: st) T σ K := R_iconst (n := 0) (by decide +kernel) (by decide)
theorem s173_192 : Rn 173 192 L (vI a :: vR o :: st) T σ K ↔ sx_kd T o = 9 ∧ Rn 173 195 L st T (sx_up σ o 36 a) K := R_putI (idx := 120) (ci := 9) (k := 36) (by decide +kernel) (by decide +kernel) rfl rfl
theorem s173_195 : Rn 173 195 [some (vR o), l1, l2, l3] st T σ K ↔ Rn 173 196 [some (vR o), l1, l2, l3] (vR o :: st) T σ K := R_aload_n (n := 0) (by decide +kernel) rfl
theorem s173_196 : Rn 173 196 L st T σ K ↔ Rn 173 197 L (vI 0 :: st) T σ K := R_iconst (n := 0) (by decide +kernel) (by decide)
theorem s173_197 : Rn 173 197 L (vI a :: vR o :: st) T σ K ↔ (sx_kd T o = 9 ∧ (a = 0 ∨ a = 1)) ∧ Rn 173 200 L st T (sx_up σ o 26 a) K := R_putZ (idx := 90) (ci := 9) (k := 26) (by decide +kernel) (by decide +kernel) rfl rfl
theorem s173_200 : Rn 173 200 [some (vR o), l1, l2, l3] st T σ K ↔ Rn 173 201 [some (vR o), l1, l2, l3] (vR o :: st) T σ K := R_aload_n (n := 0) (by decide +kernel) rfl
theorem s173_201 : Rn 173 201 L st T σ K ↔ Rn 173 202 L (vI 0 :: st) T σ K := R_iconst (n := 0) (by decide +kernel) (by decide)
theorem s173_202 : Rn 173 202 L (vI a :: vR o :: st) T σ K ↔ sx_kd T o = 9 ∧ Rn 173 205 L st T (sx_up σ o 30 a) K := R_putI (idx := 102) (ci := 9) (k := 30) (by decide +kernel) (by decide +kernel) rfl rfl
theorem s173_205 : Rn 173 205 [l0, some (vI a), l2, l3] st T σ K ↔ Rn 173 206 [l0, some (vI a), l2, l3] (vI a :: st) T σ K := R_iload_n (n := 1) (by decide +kernel) rfl
theorem s173_206 : Rn 173 206 L [vI a] T σ K ↔ K (some (vI a)) T σ := R_ret (by decide +kernel) (by decide +kernel)
end ST4
