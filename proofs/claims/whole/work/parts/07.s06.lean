section ST6
variable {L : sxL} {st : List sxV} {T : sxT} {σ : sxS} {K : Option sxV → sxT → sxS → Prop} {a b c d e f g : Int} {o p q r1 r2 : Nat} {l0 l1 l2 l3 l4 l5 l6 l7 l8 l9 l10 l11 : Option sxV}
theorem s216_0 : Rn 216 0 [some (vR o), l1, l2] st T σ K ↔ Rn 216 1 [some (vR o), l1, l2] (vR o :: st) T σ K := R_aload_n (n := 0) (by decide +kernel) rfl
theorem s216_1 : Rn 216 1 [l0, some (vI a), l2] st T σ K ↔ Rn 216 2 [l0, some (vI a), l2] (vI a :: st) T σ K := R_iload_n (n := 1) (by decide +kernel) rfl
theorem s216_2 : Rn 216 2 [some (vR o), l1, l2] st T σ K ↔ Rn 216 3 [some (vR o), l1, l2] (vR o :: st) T σ K := R_aload_n (n := 0) (by decide +kernel) rfl
theorem s216_3 : Rn 216 3 L (vR o :: st) T σ K ↔ sx_kd T o = 9 ∧ ∃ t, sx_rf T o 0 = some t ∧ Rn 216 6 L (vR t :: st) T σ K := R_getR (idx := 7) (ci := 9) (k := 0) (by decide +kernel) (by decide +kernel) rfl
theorem s216_6 : Rn 216 6 L st T σ K ↔ Rn 216 8 L (vI 40 :: st) T σ K := R_bipush (n := 40) (by decide +kernel) (by decide +kernel)
theorem s216_8 : Rn 216 8 [l0, l1, some (vI a)] st T σ K ↔ Rn 216 9 [l0, l1, some (vI a)] (vI a :: st) T σ K := R_iload_n (n := 2) (by decide +kernel) rfl
theorem s216_9 : Rn 216 9 L (vI b :: vI a :: st) T σ K ↔ inI (a + b) ∧ Rn 216 10 L (vI (a + b) :: st) T σ K := R_iadd (by decide +kernel)
theorem s216_10 : Rn 216 10 L (vI a :: vR o :: st) T σ K ↔ (sx_kd T o = 20 ∧ 0 ≤ a ∧ a < sx_ln T o) ∧ Rn 216 11 L (vI (σ o a) :: st) T σ K := R_iald (by decide +kernel) (by decide)
theorem s216_11 : Rn 216 11 [some (vR o), l1, l2] st T σ K ↔ Rn 216 12 [some (vR o), l1, l2] (vR o :: st) T σ K := R_aload_n (n := 0) (by decide +kernel) rfl
theorem s216_12 : Rn 216 12 L (vR o :: st) T σ K ↔ sx_kd T o = 9 ∧ ∃ t, sx_rf T o 0 = some t ∧ Rn 216 15 L (vR t :: st) T σ K := R_getR (idx := 7) (ci := 9) (k := 0) (by decide +kernel) (by decide +kernel) rfl
theorem s216_15 : Rn 216 15 L st T σ K ↔ Rn 216 17 L (vI 80 :: st) T σ K := R_bipush (n := 80) (by decide +kernel) (by decide +kernel)
theorem s216_17 : Rn 216 17 [l0, l1, some (vI a)] st T σ K ↔ Rn 216 18 [l0, l1, some (vI a)] (vI a :: st) T σ K := R_iload_n (n := 2) (by decide +kernel) rfl
theorem s216_18 : Rn 216 18 L (vI b :: vI a :: st) T σ K ↔ inI (a + b) ∧ Rn 216 19 L (vI (a + b) :: st) T σ K := R_iadd (by decide +kernel)
theorem s216_19 : Rn 216 19 L (vI a :: vR o :: st) T σ K ↔ (sx_kd T o = 20 ∧ 0 ≤ a ∧ a < sx_ln T o) ∧ Rn 216 20 L (vI (σ o a) :: st) T σ K := R_iald (by decide +kernel) (by decide)
theorem s216_20 : Rn 216 20 [some (vR o), l1, l2] st T σ K ↔ Rn 216 21 [some (vR o), l1, l2] (vR o :: st) T σ K := R_aload_n (n := 0) (by decide +kernel) rfl
theorem s216_21 : Rn 216 21 L (vR o :: st) T σ K ↔ sx_kd T o = 9 ∧ ∃ t, sx_rf T o 0 = some t ∧ Rn 216 24 L (vR t :: st) T σ K := R_getR (idx := 7) (ci := 9) (k := 0) (by decide +kernel) (by decide +kernel) rfl
theorem s216_24 : Rn 216 24 L st T σ K ↔ Rn 216 26 L (vI 120 :: st) T σ K := R_bipush (n := 120) (by decide +kernel) (by decide +kernel)
theorem s216_26 : Rn 216 26 [l0, l1, some (vI a)] st T σ K ↔ Rn 216 27 [l0, l1, some (vI a)] (vI a :: st) T σ K := R_iload_n (n := 2) (by decide +kernel) rfl
theorem s216_27 : Rn 216 27 L (vI b :: vI a :: st) T σ K ↔ inI (a + b) ∧ Rn 216 28 L (vI (a + b) :: st) T σ K := R_iadd (by decide +kernel)
theorem s216_28 : Rn 216 28 L (vI a :: vR o :: st) T σ K ↔ (sx_kd T o = 20 ∧ 0 ≤ a ∧ a < sx_ln T o) ∧ Rn 216 29 L (vI (σ o a) :: st) T σ K := R_iald (by decide +kernel) (by decide)
theorem s216_29 : Rn 216 29 L (vI d :: vI c :: vI b :: vI a :: vR o :: st) T σ K ↔ (sx_kd T o = 9 ∧ st.length ≤ 4) ∧ Rn 195 0 [some (vR o), some (vI a), some (vI b), some (vI c), some (vI d)] [] T σ (fun r T' σ' => Rn 216 32 L (sx_push r st) T' σ' K) := R_V (cm := 195) (n := 4) (idx := 223) (ci := 9) (mx := 5) (vs := [vI a, vI b, vI c, vI d]) (by decide +kernel) (by decide +kernel) rfl (by decide +kernel) rfl (by decide +kernel) (by decide +kernel)
theorem s216_32 : Rn 216 32 L [vI a] T σ K ↔ K (some (vI a)) T σ := R_ret (by decide +kernel) (by decide +kernel)
theorem s217_0 : Rn 217 0 [l0, some (vI a), l2, l3, l4] st T σ K ↔ Rn 217 1 [l0, some (vI a), l2, l3, l4] (vI a :: st) T σ K := R_iload_n (n := 1) (by decide +kernel) rfl
theorem s217_1 : Rn 217 1 L st T σ K ↔ Rn 217 2 L (vI 0 :: st) T σ K := R_iconst (n := 0) (by decide +kernel) (by decide)
theorem s217_2 : Rn 217 2 L st T σ K ↔ Rn 217 4 L (vI 10 :: st) T σ K := R_bipush (n := 10) (by decide +kernel) (by decide +kernel)
theorem s217_4 : Rn 217 4 L (vI c :: vI b :: vI a :: st) T σ K ↔ st.length ≤ 4 ∧ Rn 185 0 [some (vI a), some (vI b), some (vI c)] [] T σ (fun r T' σ' => Rn 217 7 L (sx_push r st) T' σ' K) := R_S (cm := 185) (n := 3) (idx := 189) (mx := 3) (vs := [vI a, vI b, vI c]) (by decide +kernel) (Or.inl (by decide +kernel)) rfl (by decide +kernel) rfl (by decide +kernel)
theorem s217_7 : Rn 217 7 L (vI a :: st) T σ K ↔ (a = 0 → Rn 217 15 L st T σ K) ∧ (a ≠ 0 → Rn 217 10 L st T σ K) := R_if_eq (off := 8) (by decide +kernel) (by decide)
theorem s217_10 : Rn 217 10 [l0, l1, some (vI a), l3, l4] st T σ K ↔ Rn 217 11 [l0, l1, some (vI a), l3, l4] (vI a :: st) T σ K := R_iload_n (n := 2) (by decide +kernel) rfl
theorem s217_11 : Rn 217 11 L st T σ K ↔ Rn 217 12 L (vI (-1) :: st) T σ K := R_iconst (n := -1) (by decide +kernel) (by decide)
theorem s217_12 : Rn 217 12 L (vI b :: vI a :: st) T σ K ↔ (b ≤ a → Rn 217 17 L st T σ K) ∧ (a < b → Rn 217 15 L st T σ K) := R_icmp_ge (off := 5) (by decide +kernel) (by decide)
theorem s217_15 : Rn 217 15 L st T σ K ↔ Rn 217 16 L (vI (-1) :: st) T σ K := R_iconst (n := -1) (by decide +kernel) (by decide)
theorem s217_16 : Rn 217 16 L [vI a] T σ K ↔ K (some (vI a)) T σ := R_ret (by decide +kernel) (by decide +kernel)
theorem s217_17 : Rn 217 17 L st T σ K ↔ Rn 217 18 L (vI 0 :: st) T σ K := R_iconst (n := 0) (by decide +kernel) (by decide)
theorem s217_18 : Rn 217 18 [l0, l1, l2, l3, l4] (vI a :: st) T σ K ↔ Rn 217 19 [l0, l1, l2, some (vI a), l4] st T σ K := R_istore_n (n := 3) (by decide +kernel) rfl
theorem s217_19 : Rn 217 19 L st T σ K ↔ Rn 217 20 L (vI 0 :: st) T σ K := R_iconst (n := 0) (by decide +kernel) (by decide)
theorem s217_20 : Rn 217 20 [l0, l1, l2, l3, l4] (vI a :: st) T σ K ↔ Rn 217 22 [l0, l1, l2, l3, some (vI a)] st T σ K := R_istore (n := 4) (by decide +kernel) rfl
theorem s217_22 : Rn 217 22 [l0, l1, l2, l3, some (vI a)] st T σ K ↔ Rn 217 24 [l0, l1, l2, l3, some (vI a)] (vI a :: st) T σ K := R_iload (n := 4) (by decide +kernel) rfl
theorem s217_24 : Rn 217 24 L st T σ K ↔ Rn 217 26 L (vI 40 :: st) T σ K := R_bipush (n := 40) (by decide +kernel) (by decide +kernel)
theorem s217_26 : Rn 217 26 L (vI b :: vI a :: st) T σ K ↔ (b ≤ a → Rn 217 59 L st T σ K) ∧ (a < b → Rn 217 29 L st T σ K) := R_icmp_ge (off := 33) (by decide +kernel) (by decide)
theorem s217_29 : Rn 217 29 [some (vR o), l1, l2, l3, l4] st T σ K ↔ Rn 217 30 [some (vR o), l1, l2, l3, l4] (vR o :: st) T σ K := R_aload_n (n := 0) (by decide +kernel) rfl
theorem s217_30 : Rn 217 30 [l0, l1, l2, l3, some (vI a)] st T σ K ↔ Rn 217 32 [l0, l1, l2, l3, some (vI a)] (vI a :: st) T σ K := R_iload (n := 4) (by decide +kernel) rfl
theorem s217_32 : Rn 217 32 [l0, some (vI a), l2, l3, l4] st T σ K ↔ Rn 217 33 [l0, some (vI a), l2, l3, l4] (vI a :: st) T σ K := R_iload_n (n := 1) (by decide +kernel) rfl
theorem s217_33 : Rn 217 33 L (vI b :: vI a :: vR o :: st) T σ K ↔ (sx_kd T o = 9 ∧ st.length ≤ 4) ∧ Rn 194 0 [some (vR o), some (vI a), some (vI b)] [] T σ (fun r T' σ' => Rn 217 36 L (sx_push r st) T' σ' K) := R_V (cm := 194) (n := 2) (idx := 227) (ci := 9) (mx := 3) (vs := [vI a, vI b]) (by decide +kernel) (by decide +kernel) rfl (by decide +kernel) rfl (by decide +kernel) (by decide +kernel)
theorem s217_36 : Rn 217 36 L (vI a :: st) T σ K ↔ (a ≠ 0 → Rn 217 42 L st T σ K) ∧ (a = 0 → Rn 217 39 L st T σ K) := R_if_ne (off := 6) (by decide +kernel) (by decide)
theorem s217_39 : Rn 217 39 L st T σ K ↔ Rn 217 53 L st T σ K := R_goto (off := 14) (by decide +kernel) (by decide)
theorem s217_42 : Rn 217 42 [l0, l1, l2, some (vI a), l4] st T σ K ↔ Rn 217 43 [l0, l1, l2, some (vI a), l4] (vI a :: st) T σ K := R_iload_n (n := 3) (by decide +kernel) rfl
theorem s217_43 : Rn 217 43 [l0, l1, some (vI a), l3, l4] st T σ K ↔ Rn 217 44 [l0, l1, some (vI a), l3, l4] (vI a :: st) T σ K := R_iload_n (n := 2) (by decide +kernel) rfl
theorem s217_44 : Rn 217 44 L (vI b :: vI a :: st) T σ K ↔ (a ≠ b → Rn 217 50 L st T σ K) ∧ (a = b → Rn 217 47 L st T σ K) := R_icmp_ne (off := 6) (by decide +kernel) (by decide)
theorem s217_47 : Rn 217 47 [l0, l1, l2, l3, some (vI a)] st T σ K ↔ Rn 217 49 [l0, l1, l2, l3, some (vI a)] (vI a :: st) T σ K := R_iload (n := 4) (by decide +kernel) rfl
theorem s217_49 : Rn 217 49 L [vI a] T σ K ↔ K (some (vI a)) T σ := R_ret (by decide +kernel) (by decide +kernel)
theorem s217_50 : Rn 217 50 [l0, l1, l2, some (vI a), l4] st T σ K ↔ inI (a + 1) ∧ Rn 217 53 [l0, l1, l2, some (vI (a + 1)), l4] st T σ K := R_iinc (n := 3) (d := 1) (by decide +kernel) rfl
theorem s217_53 : Rn 217 53 [l0, l1, l2, l3, some (vI a)] st T σ K ↔ inI (a + 1) ∧ Rn 217 56 [l0, l1, l2, l3, some (vI (a + 1))] st T σ K := R_iinc (n := 4) (d := 1) (by decide +kernel) rfl
theorem s217_56 : Rn 217 56 L st T σ K ↔ Rn 217 22 L st T σ K := R_goto (off := -34) (by decide +kernel) (by decide)
theorem s217_59 : Rn 217 59 [l0, l1, some (vI a), l3, l4] st T σ K ↔ Rn 217 60 [l0, l1, some (vI a), l3, l4] (vI a :: st) T σ K := R_iload_n (n := 2) (by decide +kernel) rfl
theorem s217_60 : Rn 217 60 L st T σ K ↔ Rn 217 61 L (vI (-1) :: st) T σ K := R_iconst (n := -1) (by decide +kernel) (by decide)
theorem s217_61 : Rn 217 61 L (vI b :: vI a :: st) T σ K ↔ (a ≠ b → Rn 217 68 L st T σ K) ∧ (a = b → Rn 217 64 L st T σ K) := R_icmp_ne (off := 7) (by decide +kernel) (by decide)
theorem s217_64 : Rn 217 64 [l0, l1, l2, some (vI a), l4] st T σ K ↔ Rn 217 65 [l0, l1, l2, some (vI a), l4] (vI a :: st) T σ K := R_iload_n (n := 3) (by decide +kernel) rfl
theorem s217_65 : Rn 217 65 L st T σ K ↔ Rn 217 69 L st T σ K := R_goto (off := 4) (by decide +kernel) (by decide)
theorem s217_68 : Rn 217 68 L st T σ K ↔ Rn 217 69 L (vI (-1) :: st) T σ K := R_iconst (n := -1) (by decide +kernel) (by decide)
theorem s217_69 : Rn 217 69 L [vI a] T σ K ↔ K (some (vI a)) T σ := R_ret (by decide +kernel) (by decide +kernel)
theorem s218_0 : Rn 218 0 [some (vR o), l1, l2] st T σ K ↔ Rn 218 1 [some (vR o), l1, l2] (vR o :: st) T σ K := R_aload_n (n := 0) (by decide +kernel) rfl
theorem s218_1 : Rn 218 1 [l0, some (vI a), l2] st T σ K ↔ Rn 218 2 [l0, some (vI a), l2] (vI a :: st) T σ K := R_iload_n (n := 1) (by decide +kernel) rfl
theorem s218_2 : Rn 218 2 L (vI a :: vR o :: st) T σ K ↔ (sx_kd T o = 9 ∧ st.length ≤ 4) ∧ Rn 205 0 [some (vR o), some (vI a)] [] T σ (fun r T' σ' => Rn 218 5 L (sx_push r st) T' σ' K) := R_V (cm := 205) (n := 1) (idx := 254) (ci := 9) (mx := 2) (vs := [vI a]) (by decide +kernel) (by decide +kernel) rfl (by decide +kernel) rfl (by decide +kernel) (by decide +kernel)
theorem s218_5 : Rn 218 5 L (vI a :: st) T σ K ↔ (a = 0 → Rn 218 27 L st T σ K) ∧ (a ≠ 0 → Rn 218 8 L st T σ K) := R_if_eq (off := 22) (by decide +kernel) (by decide)
theorem s218_8 : Rn 218 8 [l0, l1, some (vI a)] st T σ K ↔ Rn 218 9 [l0, l1, some (vI a)] (vI a :: st) T σ K := R_iload_n (n := 2) (by decide +kernel) rfl
theorem s218_9 : Rn 218 9 L st T σ K ↔ Rn 218 10 L (vI 0 :: st) T σ K := R_iconst (n := 0) (by decide +kernel) (by decide)
theorem s218_10 : Rn 218 10 L st T σ K ↔ Rn 218 12 L (vI 10 :: st) T σ K := R_bipush (n := 10) (by decide +kernel) (by decide +kernel)
theorem s218_12 : Rn 218 12 L (vI c :: vI b :: vI a :: st) T σ K ↔ st.length ≤ 4 ∧ Rn 185 0 [some (vI a), some (vI b), some (vI c)] [] T σ (fun r T' σ' => Rn 218 15 L (sx_push r st) T' σ' K) := R_S (cm := 185) (n := 3) (idx := 189) (mx := 3) (vs := [vI a, vI b, vI c]) (by decide +kernel) (Or.inl (by decide +kernel)) rfl (by decide +kernel) rfl (by decide +kernel)
theorem s218_15 : Rn 218 15 L (vI a :: st) T σ K ↔ (a = 0 → Rn 218 27 L st T σ K) ∧ (a ≠ 0 → Rn 218 18 L st T σ K) := R_if_eq (off := 12) (by decide +kernel) (by decide)
theorem s218_18 : Rn 218 18 [some (vR o), l1, l2] st T σ K ↔ Rn 218 19 [some (vR o), l1, l2] (vR o :: st) T σ K := R_aload_n (n := 0) (by decide +kernel) rfl
theorem s218_19 : Rn 218 19 [l0, some (vI a), l2] st T σ K ↔ Rn 218 20 [l0, some (vI a), l2] (vI a :: st) T σ K := R_iload_n (n := 1) (by decide +kernel) rfl
theorem s218_20 : Rn 218 20 [l0, l1, some (vI a)] st T σ K ↔ Rn 218 21 [l0, l1, some (vI a)] (vI a :: st) T σ K := R_iload_n (n := 2) (by decide +kernel) rfl
theorem s218_21 : Rn 218 21 L (vI b :: vI a :: vR o :: st) T σ K ↔ (sx_kd T o = 9 ∧ st.length ≤ 4) ∧ Rn 219 0 [some (vR o), some (vI a), some (vI b), none] [] T σ (fun r T' σ' => Rn 218 24 L (sx_push r st) T' σ' K) := R_V (cm := 219) (n := 2) (idx := 272) (ci := 9) (mx := 4) (vs := [vI a, vI b]) (by decide +kernel) (by decide +kernel) rfl (by decide +kernel) rfl (by decide +kernel) (by decide +kernel)
theorem s218_24 : Rn 218 24 L st T σ K ↔ Rn 218 28 L st T σ K := R_goto (off := 4) (by decide +kernel) (by decide)
theorem s218_27 : Rn 218 27 L st T σ K ↔ Rn 218 28 L (vI (-1) :: st) T σ K := R_iconst (n := -1) (by decide +kernel) (by decide)
theorem s218_28 : Rn 218 28 L [vI a] T σ K ↔ K (some (vI a)) T σ := R_ret (by decide +kernel) (by decide +kernel)
theorem s219_0 : Rn 219 0 [l0, some (vI a), l2, l3] st T σ K ↔ Rn 219 1 [l0, some (vI a), l2, l3] (vI a :: st) T σ K := R_iload_n (n := 1) (by decide +kernel) rfl
theorem s219_1 : Rn 219 1 [l0, l1, l2, l3] (vI a :: st) T σ K ↔ Rn 219 2 [l0, l1, l2, some (vI a)] st T σ K := R_istore_n (n := 3) (by decide +kernel) rfl
theorem s219_2 : Rn 219 2 [some (vR o), l1, l2, l3] st T σ K ↔ Rn 219 3 [some (vR o), l1, l2, l3] (vR o :: st) T σ K := R_aload_n (n := 0) (by decide +kernel) rfl
theorem s219_3 : Rn 219 3 L (vR o :: st) T σ K ↔ sx_kd T o = 9 ∧ ∃ t, sx_rf T o 0 = some t ∧ Rn 219 6 L (vR t :: st) T σ K := R_getR (idx := 7) (ci := 9) (k := 0) (by decide +kernel) (by decide +kernel) rfl
theorem s219_6 : Rn 219 6 L st T σ K ↔ Rn 219 9 L (vI 160 :: st) T σ K := R_sipush (n := 160) (by decide +kernel) (by decide +kernel)
theorem s219_9 : Rn 219 9 [l0, l1, l2, some (vI a)] st T σ K ↔ Rn 219 10 [l0, l1, l2, some (vI a)] (vI a :: st) T σ K := R_iload_n (n := 3) (by decide +kernel) rfl
theorem s219_10 : Rn 219 10 L (vI b :: vI a :: st) T σ K ↔ inI (a + b) ∧ Rn 219 11 L (vI (a + b) :: st) T σ K := R_iadd (by decide +kernel)
theorem s219_11 : Rn 219 11 L (vI a :: vR o :: st) T σ K ↔ (sx_kd T o = 20 ∧ 0 ≤ a ∧ a < sx_ln T o) ∧ Rn 219 12 L (vI (σ o a) :: st) T σ K := R_iald (by decide +kernel) (by decide)
theorem s219_12 : Rn 219 12 [l0, l1, some (vI a), l3] st T σ K ↔ Rn 219 13 [l0, l1, some (vI a), l3] (vI a :: st) T σ K := R_iload_n (n := 2) (by decide +kernel) rfl
theorem s219_13 : Rn 219 13 L (vI b :: vI a :: st) T σ K ↔ (b ≤ a → Rn 219 30 L st T σ K) ∧ (a < b → Rn 219 16 L st T σ K) := R_icmp_ge (off := 17) (by decide +kernel) (by decide)
theorem s219_16 : Rn 219 16 [some (vR o), l1, l2, l3] st T σ K ↔ Rn 219 17 [some (vR o), l1, l2, l3] (vR o :: st) T σ K := R_aload_n (n := 0) (by decide +kernel) rfl
theorem s219_17 : Rn 219 17 L (vR o :: st) T σ K ↔ sx_kd T o = 9 ∧ ∃ t, sx_rf T o 0 = some t ∧ Rn 219 20 L (vR t :: st) T σ K := R_getR (idx := 7) (ci := 9) (k := 0) (by decide +kernel) (by decide +kernel) rfl
theorem s219_20 : Rn 219 20 L st T σ K ↔ Rn 219 23 L (vI 200 :: st) T σ K := R_sipush (n := 200) (by decide +kernel) (by decide +kernel)
theorem s219_23 : Rn 219 23 [l0, l1, l2, some (vI a)] st T σ K ↔ Rn 219 24 [l0, l1, l2, some (vI a)] (vI a :: st) T σ K := R_iload_n (n := 3) (by decide +kernel) rfl
theorem s219_24 : Rn 219 24 L (vI b :: vI a :: st) T σ K ↔ inI (a + b) ∧ Rn 219 25 L (vI (a + b) :: st) T σ K := R_iadd (by decide +kernel)
theorem s219_25 : Rn 219 25 L (vI a :: vR o :: st) T σ K ↔ (sx_kd T o = 20 ∧ 0 ≤ a ∧ a < sx_ln T o) ∧ Rn 219 26 L (vI (σ o a) :: st) T σ K := R_iald (by decide +kernel) (by decide)
theorem s219_26 : Rn 219 26 [l0, l1, l2, l3] (vI a :: st) T σ K ↔ Rn 219 27 [l0, l1, l2, some (vI a)] st T σ K := R_istore_n (n := 3) (by decide +kernel) rfl
theorem s219_27 : Rn 219 27 L st T σ K ↔ Rn 219 2 L st T σ K := R_goto (off := -25) (by decide +kernel) (by decide)
theorem s219_30 : Rn 219 30 [l0, l1, l2, some (vI a)] st T σ K ↔ Rn 219 31 [l0, l1, l2, some (vI a)] (vI a :: st) T σ K := R_iload_n (n := 3) (by decide +kernel) rfl
theorem s219_31 : Rn 219 31 L [vI a] T σ K ↔ K (some (vI a)) T σ := R_ret (by decide +kernel) (by decide +kernel)
theorem s220_0 : Rn 220 0 [l0, some (vI a), l2] st T σ K ↔ Rn 220 1 [l0, some (vI a), l2] (vI a :: st) T σ K := R_iload_n (n := 1) (by decide +kernel) rfl
theorem s220_1 : Rn 220 1 L st T σ K ↔ Rn 220 2 L (vI 0 :: st) T σ K := R_iconst (n := 0) (by decide +kernel) (by decide)
theorem s220_2 : Rn 220 2 L st T σ K ↔ Rn 220 4 L (vI 10 :: st) T σ K := R_bipush (n := 10) (by decide +kernel) (by decide +kernel)
theorem s220_4 : Rn 220 4 L (vI c :: vI b :: vI a :: st) T σ K ↔ st.length ≤ 4 ∧ Rn 185 0 [some (vI a), some (vI b), some (vI c)] [] T σ (fun r T' σ' => Rn 220 7 L (sx_push r st) T' σ' K) := R_S (cm := 185) (n := 3) (idx := 189) (mx := 3) (vs := [vI a, vI b, vI c]) (by decide +kernel) (Or.inl (by decide +kernel)) rfl (by decide +kernel) rfl (by decide +kernel)
theorem s220_7 : Rn 220 7 L (vI a :: st) T σ K ↔ (a ≠ 0 → Rn 220 12 L st T σ K) ∧ (a = 0 → Rn 220 10 L st T σ K) := R_if_ne (off := 5) (by decide +kernel) (by decide)
theorem s220_10 : Rn 220 10 L st T σ K ↔ Rn 220 11 L (vI (-1) :: st) T σ K := R_iconst (n := -1) (by decide +kernel) (by decide)
theorem s220_11 : Rn 220 11 L [vI a] T σ K ↔ K (some (vI a)) T σ := R_ret (by decide +kernel) (by decide +kernel)
theorem s220_12 : Rn 220 12 [l0, l1, some (vI a)] st T σ K ↔ Rn 220 13 [l0, l1, some (vI a)] (vI a :: st) T σ K := R_iload_n (n := 2) (by decide +kernel) rfl
theorem s220_13 : Rn 220 13 L (vI a :: st) T σ K ↔ (a ≠ 0 → Rn 220 24 L st T σ K) ∧ (a = 0 → Rn 220 16 L st T σ K) := R_if_ne (off := 11) (by decide +kernel) (by decide)
theorem s220_16 : Rn 220 16 [some (vR o), l1, l2] st T σ K ↔ Rn 220 17 [some (vR o), l1, l2] (vR o :: st) T σ K := R_aload_n (n := 0) (by decide +kernel) rfl
theorem s220_17 : Rn 220 17 [l0, some (vI a), l2] st T σ K ↔ Rn 220 18 [l0, some (vI a), l2] (vI a :: st) T σ K := R_iload_n (n := 1) (by decide +kernel) rfl
theorem s220_18 : Rn 220 18 L (vI a :: vR o :: st) T σ K ↔ (sx_kd T o = 9 ∧ st.length ≤ 4) ∧ Rn 221 0 [some (vR o), some (vI a), none, none, none] [] T σ (fun r T' σ' => Rn 220 21 L (sx_push r st) T' σ' K) := R_V (cm := 221) (n := 1) (idx := 275) (ci := 9) (mx := 5) (vs := [vI a]) (by decide +kernel) (by decide +kernel) rfl (by decide +kernel) rfl (by decide +kernel) (by decide +kernel)
theorem s220_21 : Rn 220 21 L st T σ K ↔ Rn 220 51 L st T σ K := R_goto (off := 30) (by decide +kernel) (by decide)
theorem s220_24 : Rn 220 24 [l0, l1, some (vI a)] st T σ K ↔ Rn 220 25 [l0, l1, some (vI a)] (vI a :: st) T σ K := R_iload_n (n := 2) (by decide +kernel) rfl
theorem s220_25 : Rn 220 25 L st T σ K ↔ Rn 220 26 L (vI 1 :: st) T σ K := R_iconst (n := 1) (by decide +kernel) (by decide)
theorem s220_26 : Rn 220 26 L (vI b :: vI a :: st) T σ K ↔ (a ≠ b → Rn 220 37 L st T σ K) ∧ (a = b → Rn 220 29 L st T σ K) := R_icmp_ne (off := 11) (by decide +kernel) (by decide)
theorem s220_29 : Rn 220 29 [some (vR o), l1, l2] st T σ K ↔ Rn 220 30 [some (vR o), l1, l2] (vR o :: st) T σ K := R_aload_n (n := 0) (by decide +kernel) rfl
theorem s220_30 : Rn 220 30 [l0, some (vI a), l2] st T σ K ↔ Rn 220 31 [l0, some (vI a), l2] (vI a :: st) T σ K := R_iload_n (n := 1) (by decide +kernel) rfl
theorem s220_31 : Rn 220 31 L (vI a :: vR o :: st) T σ K ↔ (sx_kd T o = 9 ∧ st.length ≤ 4) ∧ Rn 222 0 [some (vR o), some (vI a), none, none] [] T σ (fun r T' σ' => Rn 220 34 L (sx_push r st) T' σ' K) := R_V (cm := 222) (n := 1) (idx := 278) (ci := 9) (mx := 4) (vs := [vI a]) (by decide +kernel) (by decide +kernel) rfl (by decide +kernel) rfl (by decide +kernel) (by decide +kernel)
theorem s220_34 : Rn 220 34 L st T σ K ↔ Rn 220 51 L st T σ K := R_goto (off := 17) (by decide +kernel) (by decide)
theorem s220_37 : Rn 220 37 [l0, l1, some (vI a)] st T σ K ↔ Rn 220 38 [l0, l1, some (vI a)] (vI a :: st) T σ K := R_iload_n (n := 2) (by decide +kernel) rfl
theorem s220_38 : Rn 220 38 L st T σ K ↔ Rn 220 39 L (vI 2 :: st) T σ K := R_iconst (n := 2) (by decide +kernel) (by decide)
theorem s220_39 : Rn 220 39 L (vI b :: vI a :: st) T σ K ↔ (a ≠ b → Rn 220 50 L st T σ K) ∧ (a = b → Rn 220 42 L st T σ K) := R_icmp_ne (off := 11) (by decide +kernel) (by decide)
theorem s220_42 : Rn 220 42 [some (vR o), l1, l2] st T σ K ↔ Rn 220 43 [some (vR o), l1, l2] (vR o :: st) T σ K := R_aload_n (n := 0) (by decide +kernel) rfl
theorem s220_43 : Rn 220 43 [l0, some (vI a), l2] st T σ K ↔ Rn 220 44 [l0, some (vI a), l2] (vI a :: st) T σ K := R_iload_n (n := 1) (by decide +kernel) rfl
theorem s220_44 : Rn 220 44 L (vI a :: vR o :: st) T σ K ↔ (sx_kd T o = 9 ∧ st.length ≤ 4) ∧ Rn 223 0 [some (vR o), some (vI a), none, none, none, none] [] T σ (fun r T' σ' => Rn 220 47 L (sx_push r st) T' σ' K) := R_V (cm := 223) (n := 1) (idx := 281) (ci := 9) (mx := 6) (vs := [vI a]) (by decide +kernel) (by decide +kernel) rfl (by decide +kernel) rfl (by decide +kernel) (by decide +kernel)
theorem s220_47 : Rn 220 47 L st T σ K ↔ Rn 220 51 L st T σ K := R_goto (off := 4) (by decide +kernel) (by decide)
theorem s220_50 : Rn 220 50 L st T σ K ↔ Rn 220 51 L (vI (-1) :: st) T σ K := R_iconst (n := -1) (by decide +kernel) (by decide)
theorem s220_51 : Rn 220 51 L [vI a] T σ K ↔ K (some (vI a)) T σ := R_ret (by decide +kernel) (by decide +kernel)
theorem s221_0 : Rn 221 0 L st T σ K ↔ Rn 221 1 L (vI (-1) :: st) T σ K := R_iconst (n := -1) (by decide +kernel) (by decide)
theorem s221_1 : Rn 221 1 [l0, l1, l2, l3, l4] (vI a :: st) T σ K ↔ Rn 221 2 [l0, l1, some (vI a), l3, l4] st T σ K := R_istore_n (n := 2) (by decide +kernel) rfl
theorem s221_2 : Rn 221 2 L st T σ K ↔ Rn 221 3 L (vI 0 :: st) T σ K := R_iconst (n := 0) (by decide +kernel) (by decide)
theorem s221_3 : Rn 221 3 [l0, l1, l2, l3, l4] (vI a :: st) T σ K ↔ Rn 221 4 [l0, l1, l2, some (vI a), l4] st T σ K := R_istore_n (n := 3) (by decide +kernel) rfl
theorem s221_4 : Rn 221 4 [l0, l1, l2, some (vI a), l4] st T σ K ↔ Rn 221 5 [l0, l1, l2, some (vI a), l4] (vI a :: st) T σ K := R_iload_n (n := 3) (by decide +kernel) rfl
theorem s221_5 : Rn 221 5 L st T σ K ↔ Rn 221 7 L (vI 40 :: st) T σ K := R_bipush (n := 40) (by decide +kernel) (by decide +kernel)
theorem s221_7 : Rn 221 7 L (vI b :: vI a :: st) T σ K ↔ (b ≤ a → Rn 221 77 L st T σ K) ∧ (a < b → Rn 221 10 L st T σ K) := R_icmp_ge (off := 70) (by decide +kernel) (by decide)
theorem s221_10 : Rn 221 10 [l0, l1, l2, some (vI a), l4] st T σ K ↔ Rn 221 11 [l0, l1, l2, some (vI a), l4] (vI a :: st) T σ K := R_iload_n (n := 3) (by decide +kernel) rfl
theorem s221_11 : Rn 221 11 L st T σ K ↔ Rn 221 12 L (vI 1 :: st) T σ K := R_iconst (n := 1) (by decide +kernel) (by decide)
theorem s221_12 : Rn 221 12 L (vI b :: vI a :: st) T σ K ↔ inI (a + b) ∧ Rn 221 13 L (vI (a + b) :: st) T σ K := R_iadd (by decide +kernel)
theorem s221_13 : Rn 221 13 [l0, l1, l2, l3, l4] (vI a :: st) T σ K ↔ Rn 221 15 [l0, l1, l2, l3, some (vI a)] st T σ K := R_istore (n := 4) (by decide +kernel) rfl
theorem s221_15 : Rn 221 15 [l0, l1, l2, l3, some (vI a)] st T σ K ↔ Rn 221 17 [l0, l1, l2, l3, some (vI a)] (vI a :: st) T σ K := R_iload (n := 4) (by decide +kernel) rfl
theorem s221_17 : Rn 221 17 L st T σ K ↔ Rn 221 19 L (vI 40 :: st) T σ K := R_bipush (n := 40) (by decide +kernel) (by decide +kernel)
theorem s221_19 : Rn 221 19 L (vI b :: vI a :: st) T σ K ↔ (b ≤ a → Rn 221 71 L st T σ K) ∧ (a < b → Rn 221 22 L st T σ K) := R_icmp_ge (off := 52) (by decide +kernel) (by decide)
theorem s221_22 : Rn 221 22 [some (vR o), l1, l2, l3, l4] st T σ K ↔ Rn 221 23 [some (vR o), l1, l2, l3, l4] (vR o :: st) T σ K := R_aload_n (n := 0) (by decide +kernel) rfl
theorem s221_23 : Rn 221 23 [l0, l1, l2, some (vI a), l4] st T σ K ↔ Rn 221 24 [l0, l1, l2, some (vI a), l4] (vI a :: st) T σ K := R_iload_n (n := 3) (by decide +kernel) rfl
theorem s221_24 : Rn 221 24 [l0, some (vI a), l2, l3, l4] st T σ K ↔ Rn 221 25 [l0, some (vI a), l2, l3, l4] (vI a :: st) T σ K := R_iload_n (n := 1) (by decide +kernel) rfl
theorem s221_25 : Rn 221 25 L (vI b :: vI a :: vR o :: st) T σ K ↔ (sx_kd T o = 9 ∧ st.length ≤ 4) ∧ Rn 194 0 [some (vR o), some (vI a), some (vI b)] [] T σ (fun r T' σ' => Rn 221 28 L (sx_push r st) T' σ' K) := R_V (cm := 194) (n := 2) (idx := 227) (ci := 9) (mx := 3) (vs := [vI a, vI b]) (by decide +kernel) (by decide +kernel) rfl (by decide +kernel) rfl (by decide +kernel) (by decide +kernel)
theorem s221_28 : Rn 221 28 L (vI a :: st) T σ K ↔ (a = 0 → Rn 221 65 L st T σ K) ∧ (a ≠ 0 → Rn 221 31 L st T σ K) := R_if_eq (off := 37) (by decide +kernel) (by decide)
theorem s221_31 : Rn 221 31 [some (vR o), l1, l2, l3, l4] st T σ K ↔ Rn 221 32 [some (vR o), l1, l2, l3, l4] (vR o :: st) T σ K := R_aload_n (n := 0) (by decide +kernel) rfl
theorem s221_32 : Rn 221 32 [l0, l1, l2, l3, some (vI a)] st T σ K ↔ Rn 221 34 [l0, l1, l2, l3, some (vI a)] (vI a :: st) T σ K := R_iload (n := 4) (by decide +kernel) rfl
theorem s221_34 : Rn 221 34 [l0, some (vI a), l2, l3, l4] st T σ K ↔ Rn 221 35 [l0, some (vI a), l2, l3, l4] (vI a :: st) T σ K := R_iload_n (n := 1) (by decide +kernel) rfl
theorem s221_35 : Rn 221 35 L (vI b :: vI a :: vR o :: st) T σ K ↔ (sx_kd T o = 9 ∧ st.length ≤ 4) ∧ Rn 194 0 [some (vR o), some (vI a), some (vI b)] [] T σ (fun r T' σ' => Rn 221 38 L (sx_push r st) T' σ' K) := R_V (cm := 194) (n := 2) (idx := 227) (ci := 9) (mx := 3) (vs := [vI a, vI b]) (by decide +kernel) (by decide +kernel) rfl (by decide +kernel) rfl (by decide +kernel) (by decide +kernel)
theorem s221_38 : Rn 221 38 L (vI a :: st) T σ K ↔ (a = 0 → Rn 221 65 L st T σ K) ∧ (a ≠ 0 → Rn 221 41 L st T σ K) := R_if_eq (off := 27) (by decide +kernel) (by decide)
theorem s221_41 : Rn 221 41 [l0, l1, some (vI a), l3, l4] st T σ K ↔ Rn 221 42 [l0, l1, some (vI a), l3, l4] (vI a :: st) T σ K := R_iload_n (n := 2) (by decide +kernel) rfl
theorem s221_42 : Rn 221 42 L st T σ K ↔ Rn 221 43 L (vI (-1) :: st) T σ K := R_iconst (n := -1) (by decide +kernel) (by decide)
theorem s221_43 : Rn 221 43 L (vI b :: vI a :: st) T σ K ↔ (a = b → Rn 221 57 L st T σ K) ∧ (a ≠ b → Rn 221 46 L st T σ K) := R_icmp_eq (off := 14) (by decide +kernel) (by decide)
theorem s221_46 : Rn 221 46 [some (vR o), l1, l2, l3, l4] st T σ K ↔ Rn 221 47 [some (vR o), l1, l2, l3, l4] (vR o :: st) T σ K := R_aload_n (n := 0) (by decide +kernel) rfl
theorem s221_47 : Rn 221 47 [l0, l1, l2, some (vI a), l4] st T σ K ↔ Rn 221 48 [l0, l1, l2, some (vI a), l4] (vI a :: st) T σ K := R_iload_n (n := 3) (by decide +kernel) rfl
theorem s221_48 : Rn 221 48 [l0, l1, l2, l3, some (vI a)] st T σ K ↔ Rn 221 50 [l0, l1, l2, l3, some (vI a)] (vI a :: st) T σ K := R_iload (n := 4) (by decide +kernel) rfl
theorem s221_50 : Rn 221 50 L (vI b :: vI a :: vR o :: st) T σ K ↔ (sx_kd T o = 9 ∧ st.length ≤ 4) ∧ Rn 216 0 [some (vR o), some (vI a), some (vI b)] [] T σ (fun r T' σ' => Rn 221 53 L (sx_push r st) T' σ' K) := R_V (cm := 216) (n := 2) (idx := 238) (ci := 9) (mx := 3) (vs := [vI a, vI b]) (by decide +kernel) (by decide +kernel) rfl (by decide +kernel) rfl (by decide +kernel) (by decide +kernel)
theorem s221_53 : Rn 221 53 [l0, l1, some (vI a), l3, l4] st T σ K ↔ Rn 221 54 [l0, l1, some (vI a), l3, l4] (vI a :: st) T σ K := R_iload_n (n := 2) (by decide +kernel) rfl
theorem s221_54 : Rn 221 54 L (vI b :: vI a :: st) T σ K ↔ (b ≤ a → Rn 221 65 L st T σ K) ∧ (a < b → Rn 221 57 L st T σ K) := R_icmp_ge (off := 11) (by decide +kernel) (by decide)
theorem s221_57 : Rn 221 57 [some (vR o), l1, l2, l3, l4] st T σ K ↔ Rn 221 58 [some (vR o), l1, l2, l3, l4] (vR o :: st) T σ K := R_aload_n (n := 0) (by decide +kernel) rfl
theorem s221_58 : Rn 221 58 [l0, l1, l2, some (vI a), l4] st T σ K ↔ Rn 221 59 [l0, l1, l2, some (vI a), l4] (vI a :: st) T σ K := R_iload_n (n := 3) (by decide +kernel) rfl
theorem s221_59 : Rn 221 59 [l0, l1, l2, l3, some (vI a)] st T σ K ↔ Rn 221 61 [l0, l1, l2, l3, some (vI a)] (vI a :: st) T σ K := R_iload (n := 4) (by decide +kernel) rfl
theorem s221_61 : Rn 221 61 L (vI b :: vI a :: vR o :: st) T σ K ↔ (sx_kd T o = 9 ∧ st.length ≤ 4) ∧ Rn 216 0 [some (vR o), some (vI a), some (vI b)] [] T σ (fun r T' σ' => Rn 221 64 L (sx_push r st) T' σ' K) := R_V (cm := 216) (n := 2) (idx := 238) (ci := 9) (mx := 3) (vs := [vI a, vI b]) (by decide +kernel) (by decide +kernel) rfl (by decide +kernel) rfl (by decide +kernel) (by decide +kernel)
theorem s221_64 : Rn 221 64 [l0, l1, l2, l3, l4] (vI a :: st) T σ K ↔ Rn 221 65 [l0, l1, some (vI a), l3, l4] st T σ K := R_istore_n (n := 2) (by decide +kernel) rfl
theorem s221_65 : Rn 221 65 [l0, l1, l2, l3, some (vI a)] st T σ K ↔ inI (a + 1) ∧ Rn 221 68 [l0, l1, l2, l3, some (vI (a + 1))] st T σ K := R_iinc (n := 4) (d := 1) (by decide +kernel) rfl
theorem s221_68 : Rn 221 68 L st T σ K ↔ Rn 221 15 L st T σ K := R_goto (off := -53) (by decide +kernel) (by decide)
theorem s221_71 : Rn 221 71 [l0, l1, l2, some (vI a), l4] st T σ K ↔ inI (a + 1) ∧ Rn 221 74 [l0, l1, l2, some (vI (a + 1)), l4] st T σ K := R_iinc (n := 3) (d := 1) (by decide +kernel) rfl
theorem s221_74 : Rn 221 74 L st T σ K ↔ Rn 221 4 L st T σ K := R_goto (off := -70) (by decide +kernel) (by decide)
theorem s221_77 : Rn 221 77 [l0, l1, some (vI a), l3, l4] st T σ K ↔ Rn 221 78 [l0, l1, some (vI a), l3, l4] (vI a :: st) T σ K := R_iload_n (n := 2) (by decide +kernel) rfl
theorem s221_78 : Rn 221 78 L [vI a] T σ K ↔ K (some (vI a)) T σ := R_ret (by decide +kernel) (by decide +kernel)
theorem s222_0 : Rn 222 0 L st T σ K ↔ Rn 222 1 L (vI (-1) :: st) T σ K := R_iconst (n := -1) (by decide +kernel) (by decide)
theorem s222_1 : Rn 222 1 [l0, l1, l2, l3] (vI a :: st) T σ K ↔ Rn 222 2 [l0, l1, some (vI a), l3] st T σ K := R_istore_n (n := 2) (by decide +kernel) rfl
theorem s222_2 : Rn 222 2 L st T σ K ↔ Rn 222 3 L (vI 0 :: st) T σ K := R_iconst (n := 0) (by decide +kernel) (by decide)
theorem s222_3 : Rn 222 3 [l0, l1, l2, l3] (vI a :: st) T σ K ↔ Rn 222 4 [l0, l1, l2, some (vI a)] st T σ K := R_istore_n (n := 3) (by decide +kernel) rfl
theorem s222_4 : Rn 222 4 [l0, l1, l2, some (vI a)] st T σ K ↔ Rn 222 5 [l0, l1, l2, some (vI a)] (vI a :: st) T σ K := R_iload_n (n := 3) (by decide +kernel) rfl
theorem s222_5 : Rn 222 5 L st T σ K ↔ Rn 222 7 L (vI 40 :: st) T σ K := R_bipush (n := 40) (by decide +kernel) (by decide +kernel)
theorem s222_7 : Rn 222 7 L (vI b :: vI a :: st) T σ K ↔ (b ≤ a → Rn 222 44 L st T σ K) ∧ (a < b → Rn 222 10 L st T σ K) := R_icmp_ge (off := 37) (by decide +kernel) (by decide)
theorem s222_10 : Rn 222 10 [some (vR o), l1, l2, l3] st T σ K ↔ Rn 222 11 [some (vR o), l1, l2, l3] (vR o :: st) T σ K := R_aload_n (n := 0) (by decide +kernel) rfl
theorem s222_11 : Rn 222 11 L (vR o :: st) T σ K ↔ sx_kd T o = 9 ∧ ∃ t, sx_rf T o 0 = some t ∧ Rn 222 14 L (vR t :: st) T σ K := R_getR (idx := 7) (ci := 9) (k := 0) (by decide +kernel) (by decide +kernel) rfl
theorem s222_14 : Rn 222 14 L st T σ K ↔ Rn 222 15 L (vI 0 :: st) T σ K := R_iconst (n := 0) (by decide +kernel) (by decide)
theorem s222_15 : Rn 222 15 [l0, l1, l2, some (vI a)] st T σ K ↔ Rn 222 16 [l0, l1, l2, some (vI a)] (vI a :: st) T σ K := R_iload_n (n := 3) (by decide +kernel) rfl
theorem s222_16 : Rn 222 16 L (vI b :: vI a :: st) T σ K ↔ inI (a + b) ∧ Rn 222 17 L (vI (a + b) :: st) T σ K := R_iadd (by decide +kernel)
theorem s222_17 : Rn 222 17 L (vI a :: vR o :: st) T σ K ↔ (sx_kd T o = 20 ∧ 0 ≤ a ∧ a < sx_ln T o) ∧ Rn 222 18 L (vI (σ o a) :: st) T σ K := R_iald (by decide +kernel) (by decide)
theorem s222_18 : Rn 222 18 L st T σ K ↔ Rn 222 19 L (vI 1 :: st) T σ K := R_iconst (n := 1) (by decide +kernel) (by decide)
theorem s222_19 : Rn 222 19 L (vI b :: vI a :: st) T σ K ↔ (a ≠ b → Rn 222 38 L st T σ K) ∧ (a = b → Rn 222 22 L st T σ K) := R_icmp_ne (off := 19) (by decide +kernel) (by decide)
theorem s222_22 : Rn 222 22 [l0, l1, some (vI a), l3] st T σ K ↔ Rn 222 23 [l0, l1, some (vI a), l3] (vI a :: st) T σ K := R_iload_n (n := 2) (by decide +kernel) rfl
theorem s222_23 : Rn 222 23 [some (vR o), l1, l2, l3] st T σ K ↔ Rn 222 24 [some (vR o), l1, l2, l3] (vR o :: st) T σ K := R_aload_n (n := 0) (by decide +kernel) rfl
theorem s222_24 : Rn 222 24 [l0, l1, l2, some (vI a)] st T σ K ↔ Rn 222 25 [l0, l1, l2, some (vI a)] (vI a :: st) T σ K := R_iload_n (n := 3) (by decide +kernel) rfl
theorem s222_25 : Rn 222 25 [some (vR o), l1, l2, l3] st T σ K ↔ Rn 222 26 [some (vR o), l1, l2, l3] (vR o :: st) T σ K := R_aload_n (n := 0) (by decide +kernel) rfl
theorem s222_26 : Rn 222 26 [l0, l1, l2, some (vI a)] st T σ K ↔ Rn 222 27 [l0, l1, l2, some (vI a)] (vI a :: st) T σ K := R_iload_n (n := 3) (by decide +kernel) rfl
theorem s222_27 : Rn 222 27 [l0, some (vI a), l2, l3] st T σ K ↔ Rn 222 28 [l0, some (vI a), l2, l3] (vI a :: st) T σ K := R_iload_n (n := 1) (by decide +kernel) rfl
theorem s222_28 : Rn 222 28 L (vI b :: vI a :: vR o :: st) T σ K ↔ (sx_kd T o = 9 ∧ st.length ≤ 4) ∧ Rn 219 0 [some (vR o), some (vI a), some (vI b), none] [] T σ (fun r T' σ' => Rn 222 31 L (sx_push r st) T' σ' K) := R_V (cm := 219) (n := 2) (idx := 272) (ci := 9) (mx := 4) (vs := [vI a, vI b]) (by decide +kernel) (by decide +kernel) rfl (by decide +kernel) rfl (by decide +kernel) (by decide +kernel)
theorem s222_31 : Rn 222 31 L (vI b :: vI a :: vR o :: st) T σ K ↔ (sx_kd T o = 9 ∧ st.length ≤ 4) ∧ Rn 216 0 [some (vR o), some (vI a), some (vI b)] [] T σ (fun r T' σ' => Rn 222 34 L (sx_push r st) T' σ' K) := R_V (cm := 216) (n := 2) (idx := 238) (ci := 9) (mx := 3) (vs := [vI a, vI b]) (by decide +kernel) (by decide +kernel) rfl (by decide +kernel) rfl (by decide +kernel) (by decide +kernel)
theorem s222_34 : Rn 222 34 L (vI b :: vI a :: st) T σ K ↔ st.length ≤ 4 ∧ Rn 199 0 [some (vI a), some (vI b)] [] T σ (fun r T' σ' => Rn 222 37 L (sx_push r st) T' σ' K) := R_S (cm := 199) (n := 2) (idx := 215) (mx := 2) (vs := [vI a, vI b]) (by decide +kernel) (Or.inl (by decide +kernel)) rfl (by decide +kernel) rfl (by decide +kernel)
theorem s222_37 : Rn 222 37 [l0, l1, l2, l3] (vI a :: st) T σ K ↔ Rn 222 38 [l0, l1, some (vI a), l3] st T σ K := R_istore_n (n := 2) (by decide +kernel) rfl
theorem s222_38 : Rn 222 38 [l0, l1, l2, some (vI a)] st T σ K ↔ inI (a + 1) ∧ Rn 222 41 [l0, l1, l2, some (vI (a + 1))] st T σ K := R_iinc (n := 3) (d := 1) (by decide +kernel) rfl
theorem s222_41 : Rn 222 41 L st T σ K ↔ Rn 222 4 L st T σ K := R_goto (off := -37) (by decide +kernel) (by decide)
theorem s222_44 : Rn 222 44 [l0, l1, some (vI a), l3] st T σ K ↔ Rn 222 45 [l0, l1, some (vI a), l3] (vI a :: st) T σ K := R_iload_n (n := 2) (by decide +kernel) rfl
theorem s222_45 : Rn 222 45 L [vI a] T σ K ↔ K (some (vI a)) T σ := R_ret (by decide +kernel) (by decide +kernel)
theorem s223_0 : Rn 223 0 L st T σ K ↔ Rn 223 1 L (vI (-1) :: st) T σ K := R_iconst (n := -1) (by decide +kernel) (by decide)
theorem s223_1 : Rn 223 1 [l0, l1, l2, l3, l4, l5] (vI a :: st) T σ K ↔ Rn 223 2 [l0, l1, some (vI a), l3, l4, l5] st T σ K := R_istore_n (n := 2) (by decide +kernel) rfl
theorem s223_2 : Rn 223 2 L st T σ K ↔ Rn 223 3 L (vI 0 :: st) T σ K := R_iconst (n := 0) (by decide +kernel) (by decide)
theorem s223_3 : Rn 223 3 [l0, l1, l2, l3, l4, l5] (vI a :: st) T σ K ↔ Rn 223 4 [l0, l1, l2, some (vI a), l4, l5] st T σ K := R_istore_n (n := 3) (by decide +kernel) rfl
theorem s223_4 : Rn 223 4 [l0, l1, l2, some (vI a), l4, l5] st T σ K ↔ Rn 223 5 [l0, l1, l2, some (vI a), l4, l5] (vI a :: st) T σ K := R_iload_n (n := 3) (by decide +kernel) rfl
theorem s223_5 : Rn 223 5 L st T σ K ↔ Rn 223 7 L (vI 40 :: st) T σ K := R_bipush (n := 40) (by decide +kernel) (by decide +kernel)
theorem s223_7 : Rn 223 7 L (vI b :: vI a :: st) T σ K ↔ (b ≤ a → Rn 223 93 L st T σ K) ∧ (a < b → Rn 223 10 L st T σ K) := R_icmp_ge (off := 86) (by decide +kernel) (by decide)
theorem s223_10 : Rn 223 10 [some (vR o), l1, l2, l3, l4, l5] st T σ K ↔ Rn 223 11 [some (vR o), l1, l2, l3, l4, l5] (vR o :: st) T σ K := R_aload_n (n := 0) (by decide +kernel) rfl
theorem s223_11 : Rn 223 11 [l0, l1, l2, some (vI a), l4, l5] st T σ K ↔ Rn 223 12 [l0, l1, l2, some (vI a), l4, l5] (vI a :: st) T σ K := R_iload_n (n := 3) (by decide +kernel) rfl
theorem s223_12 : Rn 223 12 [l0, some (vI a), l2, l3, l4, l5] st T σ K ↔ Rn 223 13 [l0, some (vI a), l2, l3, l4, l5] (vI a :: st) T σ K := R_iload_n (n := 1) (by decide +kernel) rfl
theorem s223_13 : Rn 223 13 L (vI b :: vI a :: vR o :: st) T σ K ↔ (sx_kd T o = 9 ∧ st.length ≤ 4) ∧ Rn 194 0 [some (vR o), some (vI a), some (vI b)] [] T σ (fun r T' σ' => Rn 223 16 L (sx_push r st) T' σ' K) := R_V (cm := 194) (n := 2) (idx := 227) (ci := 9) (mx := 3) (vs := [vI a, vI b]) (by decide +kernel) (by decide +kernel) rfl (by decide +kernel) rfl (by decide +kernel) (by decide +kernel)
theorem s223_16 : Rn 223 16 L (vI a :: st) T σ K ↔ (a ≠ 0 → Rn 223 22 L st T σ K) ∧ (a = 0 → Rn 223 19 L st T σ K) := R_if_ne (off := 6) (by decide +kernel) (by decide)
theorem s223_19 : Rn 223 19 L st T σ K ↔ Rn 223 87 L st T σ K := R_goto (off := 68) (by decide +kernel) (by decide)
theorem s223_22 : Rn 223 22 L st T σ K ↔ Rn 223 23 L (vI 0 :: st) T σ K := R_iconst (n := 0) (by decide +kernel) (by decide)
theorem s223_23 : Rn 223 23 [l0, l1, l2, l3, l4, l5] (vI a :: st) T σ K ↔ Rn 223 25 [l0, l1, l2, l3, some (vI a), l5] st T σ K := R_istore (n := 4) (by decide +kernel) rfl
theorem s223_25 : Rn 223 25 L st T σ K ↔ Rn 223 26 L (vI 0 :: st) T σ K := R_iconst (n := 0) (by decide +kernel) (by decide)
theorem s223_26 : Rn 223 26 [l0, l1, l2, l3, l4, l5] (vI a :: st) T σ K ↔ Rn 223 28 [l0, l1, l2, l3, l4, some (vI a)] st T σ K := R_istore (n := 5) (by decide +kernel) rfl
theorem s223_28 : Rn 223 28 [l0, l1, l2, l3, l4, some (vI a)] st T σ K ↔ Rn 223 30 [l0, l1, l2, l3, l4, some (vI a)] (vI a :: st) T σ K := R_iload (n := 5) (by decide +kernel) rfl
theorem s223_30 : Rn 223 30 L st T σ K ↔ Rn 223 32 L (vI 40 :: st) T σ K := R_bipush (n := 40) (by decide +kernel) (by decide +kernel)
theorem s223_32 : Rn 223 32 L (vI b :: vI a :: st) T σ K ↔ (b ≤ a → Rn 223 80 L st T σ K) ∧ (a < b → Rn 223 35 L st T σ K) := R_icmp_ge (off := 48) (by decide +kernel) (by decide)
theorem s223_35 : Rn 223 35 [l0, l1, l2, l3, some (vI a), l5] st T σ K ↔ Rn 223 37 [l0, l1, l2, l3, some (vI a), l5] (vI a :: st) T σ K := R_iload (n := 4) (by decide +kernel) rfl
theorem s223_37 : Rn 223 37 [some (vR o), l1, l2, l3, l4, l5] st T σ K ↔ Rn 223 38 [some (vR o), l1, l2, l3, l4, l5] (vR o :: st) T σ K := R_aload_n (n := 0) (by decide +kernel) rfl
theorem s223_38 : Rn 223 38 [l0, l1, l2, l3, l4, some (vI a)] st T σ K ↔ Rn 223 40 [l0, l1, l2, l3, l4, some (vI a)] (vI a :: st) T σ K := R_iload (n := 5) (by decide +kernel) rfl
theorem s223_40 : Rn 223 40 L st T σ K ↔ Rn 223 41 L (vI 0 :: st) T σ K := R_iconst (n := 0) (by decide +kernel) (by decide)
theorem s223_41 : Rn 223 41 [l0, some (vI a), l2, l3, l4, l5] st T σ K ↔ Rn 223 42 [l0, some (vI a), l2, l3, l4, l5] (vI a :: st) T σ K := R_iload_n (n := 1) (by decide +kernel) rfl
theorem s223_42 : Rn 223 42 L st T σ K ↔ Rn 223 43 L (vI 1 :: st) T σ K := R_iconst (n := 1) (by decide +kernel) (by decide)
theorem s223_43 : Rn 223 43 L (vI b :: vI a :: st) T σ K ↔ inI (a - b) ∧ Rn 223 44 L (vI (a - b) :: st) T σ K := R_isub (by decide +kernel)
theorem s223_44 : Rn 223 44 L (vI b :: vI a :: st) T σ K ↔ st.length ≤ 4 ∧ Rn 199 0 [some (vI a), some (vI b)] [] T σ (fun r T' σ' => Rn 223 47 L (sx_push r st) T' σ' K) := R_S (cm := 199) (n := 2) (idx := 215) (mx := 2) (vs := [vI a, vI b]) (by decide +kernel) (Or.inl (by decide +kernel)) rfl (by decide +kernel) rfl (by decide +kernel)
theorem s223_47 : Rn 223 47 L (vI b :: vI a :: vR o :: st) T σ K ↔ (sx_kd T o = 9 ∧ st.length ≤ 4) ∧ Rn 194 0 [some (vR o), some (vI a), some (vI b)] [] T σ (fun r T' σ' => Rn 223 50 L (sx_push r st) T' σ' K) := R_V (cm := 194) (n := 2) (idx := 227) (ci := 9) (mx := 3) (vs := [vI a, vI b]) (by decide +kernel) (by decide +kernel) rfl (by decide +kernel) rfl (by decide +kernel) (by decide +kernel)
theorem s223_50 : Rn 223 50 L (vI a :: st) T σ K ↔ (a = 0 → Rn 223 70 L st T σ K) ∧ (a ≠ 0 → Rn 223 53 L st T σ K) := R_if_eq (off := 20) (by decide +kernel) (by decide)
theorem s223_53 : Rn 223 53 [some (vR o), l1, l2, l3, l4, l5] st T σ K ↔ Rn 223 54 [some (vR o), l1, l2, l3, l4, l5] (vR o :: st) T σ K := R_aload_n (n := 0) (by decide +kernel) rfl
theorem s223_54 : Rn 223 54 [l0, l1, l2, some (vI a), l4, l5] st T σ K ↔ Rn 223 55 [l0, l1, l2, some (vI a), l4, l5] (vI a :: st) T σ K := R_iload_n (n := 3) (by decide +kernel) rfl
theorem s223_55 : Rn 223 55 [l0, l1, l2, l3, l4, some (vI a)] st T σ K ↔ Rn 223 57 [l0, l1, l2, l3, l4, some (vI a)] (vI a :: st) T σ K := R_iload (n := 5) (by decide +kernel) rfl
theorem s223_57 : Rn 223 57 L (vI b :: vI a :: vR o :: st) T σ K ↔ (sx_kd T o = 9 ∧ st.length ≤ 4) ∧ Rn 216 0 [some (vR o), some (vI a), some (vI b)] [] T σ (fun r T' σ' => Rn 223 60 L (sx_push r st) T' σ' K) := R_V (cm := 216) (n := 2) (idx := 238) (ci := 9) (mx := 3) (vs := [vI a, vI b]) (by decide +kernel) (by decide +kernel) rfl (by decide +kernel) rfl (by decide +kernel) (by decide +kernel)
theorem s223_60 : Rn 223 60 L st T σ K ↔ Rn 223 61 L (vI 2 :: st) T σ K := R_iconst (n := 2) (by decide +kernel) (by decide)
theorem s223_61 : Rn 223 61 [l0, some (vI a), l2, l3, l4, l5] st T σ K ↔ Rn 223 62 [l0, some (vI a), l2, l3, l4, l5] (vI a :: st) T σ K := R_iload_n (n := 1) (by decide +kernel) rfl
theorem s223_62 : Rn 223 62 L (vI b :: vI a :: st) T σ K ↔ (0 ≤ b ∧ b ≤ 31) ∧ inI (a * 2 ^ b.toNat) ∧ Rn 223 63 L (vI (a * 2 ^ b.toNat) :: st) T σ K := R_ishl (by decide +kernel)
theorem s223_63 : Rn 223 63 L (vI b :: vI a :: st) T σ K ↔ (b ≤ a → Rn 223 70 L st T σ K) ∧ (a < b → Rn 223 66 L st T σ K) := R_icmp_ge (off := 7) (by decide +kernel) (by decide)
theorem s223_66 : Rn 223 66 L st T σ K ↔ Rn 223 67 L (vI 1 :: st) T σ K := R_iconst (n := 1) (by decide +kernel) (by decide)
theorem s223_67 : Rn 223 67 L st T σ K ↔ Rn 223 71 L st T σ K := R_goto (off := 4) (by decide +kernel) (by decide)
theorem s223_70 : Rn 223 70 L st T σ K ↔ Rn 223 71 L (vI 0 :: st) T σ K := R_iconst (n := 0) (by decide +kernel) (by decide)
theorem s223_71 : Rn 223 71 L (vI b :: vI a :: st) T σ K ↔ inI (a + b) ∧ Rn 223 72 L (vI (a + b) :: st) T σ K := R_iadd (by decide +kernel)
theorem s223_72 : Rn 223 72 [l0, l1, l2, l3, l4, l5] (vI a :: st) T σ K ↔ Rn 223 74 [l0, l1, l2, l3, some (vI a), l5] st T σ K := R_istore (n := 4) (by decide +kernel) rfl
theorem s223_74 : Rn 223 74 [l0, l1, l2, l3, l4, some (vI a)] st T σ K ↔ inI (a + 1) ∧ Rn 223 77 [l0, l1, l2, l3, l4, some (vI (a + 1))] st T σ K := R_iinc (n := 5) (d := 1) (by decide +kernel) rfl
theorem s223_77 : Rn 223 77 L st T σ K ↔ Rn 223 28 L st T σ K := R_goto (off := -49) (by decide +kernel) (by decide)
theorem s223_80 : Rn 223 80 [l0, l1, some (vI a), l3, l4, l5] st T σ K ↔ Rn 223 81 [l0, l1, some (vI a), l3, l4, l5] (vI a :: st) T σ K := R_iload_n (n := 2) (by decide +kernel) rfl
theorem s223_81 : Rn 223 81 [l0, l1, l2, l3, some (vI a), l5] st T σ K ↔ Rn 223 83 [l0, l1, l2, l3, some (vI a), l5] (vI a :: st) T σ K := R_iload (n := 4) (by decide +kernel) rfl
theorem s223_83 : Rn 223 83 L (vI b :: vI a :: st) T σ K ↔ st.length ≤ 4 ∧ Rn 199 0 [some (vI a), some (vI b)] [] T σ (fun r T' σ' => Rn 223 86 L (sx_push r st) T' σ' K) := R_S (cm := 199) (n := 2) (idx := 215) (mx := 2) (vs := [vI a, vI b]) (by decide +kernel) (Or.inl (by decide +kernel)) rfl (by decide +kernel) rfl (by decide +kernel)
theorem s223_86 : Rn 223 86 [l0, l1, l2, l3, l4, l5] (vI a :: st) T σ K ↔ Rn 223 87 [l0, l1, some (vI a), l3, l4, l5] st T σ K := R_istore_n (n := 2) (by decide +kernel) rfl
theorem s223_87 : Rn 223 87 [l0, l1, l2, some (vI a), l4, l5] st T σ K ↔ inI (a + 1) ∧ Rn 223 90 [l0, l1, l2, some (vI (a + 1)), l4, l5] st T σ K := R_iinc (n := 3) (d := 1) (by decide +kernel) rfl
theorem s223_90 : Rn 223 90 L st T σ K ↔ Rn 223 4 L st T σ K := R_goto (off := -86) (by decide +kernel) (by decide)
theorem s223_93 : Rn 223 93 [l0, l1, some (vI a), l3, l4, l5] st T σ K ↔ Rn 223 94 [l0, l1, some (vI a), l3, l4, l5] (vI a :: st) T σ K := R_iload_n (n := 2) (by decide +kernel) rfl
theorem s223_94 : Rn 223 94 L [vI a] T σ K ↔ K (some (vI a)) T σ := R_ret (by decide +kernel) (by decide +kernel)
theorem s224_0 : Rn 224 0 L st T σ K ↔ Rn 224 1 L (vI (-1) :: st) T σ K := R_iconst (n := -1) (by decide +kernel) (by decide)
theorem s224_1 : Rn 224 1 [l0, l1, l2, l3] (vI a :: st) T σ K ↔ Rn 224 2 [l0, l1, some (vI a), l3] st T σ K := R_istore_n (n := 2) (by decide +kernel) rfl
theorem s224_2 : Rn 224 2 L st T σ K ↔ Rn 224 3 L (vI 0 :: st) T σ K := R_iconst (n := 0) (by decide +kernel) (by decide)
theorem s224_3 : Rn 224 3 [l0, l1, l2, l3] (vI a :: st) T σ K ↔ Rn 224 4 [l0, l1, l2, some (vI a)] st T σ K := R_istore_n (n := 3) (by decide +kernel) rfl
theorem s224_4 : Rn 224 4 [l0, l1, l2, some (vI a)] st T σ K ↔ Rn 224 5 [l0, l1, l2, some (vI a)] (vI a :: st) T σ K := R_iload_n (n := 3) (by decide +kernel) rfl
theorem s224_5 : Rn 224 5 L st T σ K ↔ Rn 224 7 L (vI 40 :: st) T σ K := R_bipush (n := 40) (by decide +kernel) (by decide +kernel)
theorem s224_7 : Rn 224 7 L (vI b :: vI a :: st) T σ K ↔ (b ≤ a → Rn 224 48 L st T σ K) ∧ (a < b → Rn 224 10 L st T σ K) := R_icmp_ge (off := 41) (by decide +kernel) (by decide)
theorem s224_10 : Rn 224 10 [some (vR o), l1, l2, l3] st T σ K ↔ Rn 224 11 [some (vR o), l1, l2, l3] (vR o :: st) T σ K := R_aload_n (n := 0) (by decide +kernel) rfl
theorem s224_11 : Rn 224 11 L (vR o :: st) T σ K ↔ sx_kd T o = 9 ∧ ∃ t, sx_rf T o 0 = some t ∧ Rn 224 14 L (vR t :: st) T σ K := R_getR (idx := 7) (ci := 9) (k := 0) (by decide +kernel) (by decide +kernel) rfl
theorem s224_14 : Rn 224 14 L st T σ K ↔ Rn 224 15 L (vI 0 :: st) T σ K := R_iconst (n := 0) (by decide +kernel) (by decide)
theorem s224_15 : Rn 224 15 [l0, l1, l2, some (vI a)] st T σ K ↔ Rn 224 16 [l0, l1, l2, some (vI a)] (vI a :: st) T σ K := R_iload_n (n := 3) (by decide +kernel) rfl
theorem s224_16 : Rn 224 16 L (vI b :: vI a :: st) T σ K ↔ inI (a + b) ∧ Rn 224 17 L (vI (a + b) :: st) T σ K := R_iadd (by decide +kernel)
theorem s224_17 : Rn 224 17 L (vI a :: vR o :: st) T σ K ↔ (sx_kd T o = 20 ∧ 0 ≤ a ∧ a < sx_ln T o) ∧ Rn 224 18 L (vI (σ o a) :: st) T σ K := R_iald (by decide +kernel) (by decide)
theorem s224_18 : Rn 224 18 L st T σ K ↔ Rn 224 19 L (vI 1 :: st) T σ K := R_iconst (n := 1) (by decide +kernel) (by decide)
theorem s224_19 : Rn 224 19 L (vI b :: vI a :: st) T σ K ↔ (a ≠ b → Rn 224 42 L st T σ K) ∧ (a = b → Rn 224 22 L st T σ K) := R_icmp_ne (off := 23) (by decide +kernel) (by decide)
theorem s224_22 : Rn 224 22 [l0, l1, some (vI a), l3] st T σ K ↔ Rn 224 23 [l0, l1, some (vI a), l3] (vI a :: st) T σ K := R_iload_n (n := 2) (by decide +kernel) rfl
theorem s224_23 : Rn 224 23 L st T σ K ↔ Rn 224 24 L (vI (-1) :: st) T σ K := R_iconst (n := -1) (by decide +kernel) (by decide)
theorem s224_24 : Rn 224 24 L (vI b :: vI a :: st) T σ K ↔ (a = b → Rn 224 40 L st T σ K) ∧ (a ≠ b → Rn 224 27 L st T σ K) := R_icmp_eq (off := 16) (by decide +kernel) (by decide)
theorem s224_27 : Rn 224 27 [some (vR o), l1, l2, l3] st T σ K ↔ Rn 224 28 [some (vR o), l1, l2, l3] (vR o :: st) T σ K := R_aload_n (n := 0) (by decide +kernel) rfl
theorem s224_28 : Rn 224 28 [l0, l1, l2, some (vI a)] st T σ K ↔ Rn 224 29 [l0, l1, l2, some (vI a)] (vI a :: st) T σ K := R_iload_n (n := 3) (by decide +kernel) rfl
theorem s224_29 : Rn 224 29 L (vI a :: vR o :: st) T σ K ↔ (sx_kd T o = 9 ∧ st.length ≤ 4) ∧ Rn 208 0 [some (vR o), some (vI a), none, none] [] T σ (fun r T' σ' => Rn 224 32 L (sx_push r st) T' σ' K) := R_V (cm := 208) (n := 1) (idx := 263) (ci := 9) (mx := 4) (vs := [vI a]) (by decide +kernel) (by decide +kernel) rfl (by decide +kernel) rfl (by decide +kernel) (by decide +kernel)
theorem s224_32 : Rn 224 32 [some (vR o), l1, l2, l3] st T σ K ↔ Rn 224 33 [some (vR o), l1, l2, l3] (vR o :: st) T σ K := R_aload_n (n := 0) (by decide +kernel) rfl
theorem s224_33 : Rn 224 33 [l0, l1, some (vI a), l3] st T σ K ↔ Rn 224 34 [l0, l1, some (vI a), l3] (vI a :: st) T σ K := R_iload_n (n := 2) (by decide +kernel) rfl
theorem s224_34 : Rn 224 34 L (vI a :: vR o :: st) T σ K ↔ (sx_kd T o = 9 ∧ st.length ≤ 4) ∧ Rn 208 0 [some (vR o), some (vI a), none, none] [] T σ (fun r T' σ' => Rn 224 37 L (sx_push r st) T' σ' K) := R_V (cm := 208) (n := 1) (idx := 263) (ci := 9) (mx := 4) (vs := [vI a]) (by decide +kernel) (by decide +kernel) rfl (by decide +kernel) rfl (by decide +kernel) (by decide +kernel)
theorem s224_37 : Rn 224 37 L (vI b :: vI a :: st) T σ K ↔ (a ≤ b → Rn 224 42 L st T σ K) ∧ (b < a → Rn 224 40 L st T σ K) := R_icmp_le (off := 5) (by decide +kernel) (by decide)
theorem s224_40 : Rn 224 40 [l0, l1, l2, some (vI a)] st T σ K ↔ Rn 224 41 [l0, l1, l2, some (vI a)] (vI a :: st) T σ K := R_iload_n (n := 3) (by decide +kernel) rfl
theorem s224_41 : Rn 224 41 [l0, l1, l2, l3] (vI a :: st) T σ K ↔ Rn 224 42 [l0, l1, some (vI a), l3] st T σ K := R_istore_n (n := 2) (by decide +kernel) rfl
theorem s224_42 : Rn 224 42 [l0, l1, l2, some (vI a)] st T σ K ↔ inI (a + 1) ∧ Rn 224 45 [l0, l1, l2, some (vI (a + 1))] st T σ K := R_iinc (n := 3) (d := 1) (by decide +kernel) rfl
theorem s224_45 : Rn 224 45 L st T σ K ↔ Rn 224 4 L st T σ K := R_goto (off := -41) (by decide +kernel) (by decide)
theorem s224_48 : Rn 224 48 [l0, l1, some (vI a), l3] st T σ K ↔ Rn 224 49 [l0, l1, some (vI a), l3] (vI a :: st) T σ K := R_iload_n (n := 2) (by decide +kernel) rfl
theorem s224_49 : Rn 224 49 L st T σ K ↔ Rn 224 50 L (vI (-1) :: st) T σ K := R_iconst (n := -1) (by decide +kernel) (by decide)
theorem s224_50 : Rn 224 50 L (vI b :: vI a :: st) T σ K ↔ (a = b → Rn 224 62 L st T σ K) ∧ (a ≠ b → Rn 224 53 L st T σ K) := R_icmp_eq (off := 12) (by decide +kernel) (by decide)
theorem s224_53 : Rn 224 53 [l0, some (vI a), l2, l3] st T σ K ↔ Rn 224 54 [l0, some (vI a), l2, l3] (vI a :: st) T σ K := R_iload_n (n := 1) (by decide +kernel) rfl
theorem s224_54 : Rn 224 54 L st T σ K ↔ Rn 224 55 L (vI 0 :: st) T σ K := R_iconst (n := 0) (by decide +kernel) (by decide)
theorem s224_55 : Rn 224 55 L st T σ K ↔ Rn 224 56 L (vI 1 :: st) T σ K := R_iconst (n := 1) (by decide +kernel) (by decide)
theorem s224_56 : Rn 224 56 L (vI c :: vI b :: vI a :: st) T σ K ↔ st.length ≤ 4 ∧ Rn 185 0 [some (vI a), some (vI b), some (vI c)] [] T σ (fun r T' σ' => Rn 224 59 L (sx_push r st) T' σ' K) := R_S (cm := 185) (n := 3) (idx := 189) (mx := 3) (vs := [vI a, vI b, vI c]) (by decide +kernel) (Or.inl (by decide +kernel)) rfl (by decide +kernel) rfl (by decide +kernel)
theorem s224_59 : Rn 224 59 L (vI a :: st) T σ K ↔ (a ≠ 0 → Rn 224 64 L st T σ K) ∧ (a = 0 → Rn 224 62 L st T σ K) := R_if_ne (off := 5) (by decide +kernel) (by decide)
theorem s224_62 : Rn 224 62 L st T σ K ↔ Rn 224 63 L (vI (-1) :: st) T σ K := R_iconst (n := -1) (by decide +kernel) (by decide)
theorem s224_63 : Rn 224 63 L [vI a] T σ K ↔ K (some (vI a)) T σ := R_ret (by decide +kernel) (by decide +kernel)
theorem s224_64 : Rn 224 64 [l0, some (vI a), l2, l3] st T σ K ↔ Rn 224 65 [l0, some (vI a), l2, l3] (vI a :: st) T σ K := R_iload_n (n := 1) (by decide +kernel) rfl
theorem s224_65 : Rn 224 65 L (vI a :: st) T σ K ↔ (a ≠ 0 → Rn 224 76 L st T σ K) ∧ (a = 0 → Rn 224 68 L st T σ K) := R_if_ne (off := 11) (by decide +kernel) (by decide)
theorem s224_68 : Rn 224 68 [some (vR o), l1, l2, l3] st T σ K ↔ Rn 224 69 [some (vR o), l1, l2, l3] (vR o :: st) T σ K := R_aload_n (n := 0) (by decide +kernel) rfl
theorem s224_69 : Rn 224 69 [l0, l1, some (vI a), l3] st T σ K ↔ Rn 224 70 [l0, l1, some (vI a), l3] (vI a :: st) T σ K := R_iload_n (n := 2) (by decide +kernel) rfl
theorem s224_70 : Rn 224 70 L (vI a :: vR o :: st) T σ K ↔ (sx_kd T o = 9 ∧ st.length ≤ 4) ∧ Rn 208 0 [some (vR o), some (vI a), none, none] [] T σ (fun r T' σ' => Rn 224 73 L (sx_push r st) T' σ' K) := R_V (cm := 208) (n := 1) (idx := 263) (ci := 9) (mx := 4) (vs := [vI a]) (by decide +kernel) (by decide +kernel) rfl (by decide +kernel) rfl (by decide +kernel) (by decide +kernel)
theorem s224_73 : Rn 224 73 L st T σ K ↔ Rn 224 77 L st T σ K := R_goto (off := 4) (by decide +kernel) (by decide)
theorem s224_76 : Rn 224 76 [l0, l1, some (vI a), l3] st T σ K ↔ Rn 224 77 [l0, l1, some (vI a), l3] (vI a :: st) T σ K := R_iload_n (n := 2) (by decide +kernel) rfl
theorem s224_77 : Rn 224 77 L [vI a] T σ K ↔ K (some (vI a)) T σ := R_ret (by decide +kernel) (by decide +kernel)
theorem s225_0 : Rn 225 0 [some (vR o), l1, l2, l3, l4, l5, l6] st T σ K ↔ Rn 225 1 [some (vR o), l1, l2, l3, l4, l5, l6] (vR o :: st) T σ K := R_aload_n (n := 0) (by decide +kernel) rfl
theorem s225_1 : Rn 225 1 L (vR o :: st) T σ K ↔ (sx_kd T o = 9 ∧ st.length ≤ 4) ∧ Rn 203 0 [some (vR o), none] [] T σ (fun r T' σ' => Rn 225 4 L (sx_push r st) T' σ' K) := R_V (cm := 203) (n := 0) (idx := 251) (ci := 9) (mx := 2) (vs := []) (by decide +kernel) (by decide +kernel) rfl (by decide +kernel) rfl (by decide +kernel) (by decide +kernel)
theorem s225_4 : Rn 225 4 L st T σ K ↔ Rn 225 5 L (vI (-1) :: st) T σ K := R_iconst (n := -1) (by decide +kernel) (by decide)
theorem s225_5 : Rn 225 5 L (vI b :: vI a :: st) T σ K ↔ (a = b → Rn 225 17 L st T σ K) ∧ (a ≠ b → Rn 225 8 L st T σ K) := R_icmp_eq (off := 12) (by decide +kernel) (by decide)
theorem s225_8 : Rn 225 8 [l0, some (vI a), l2, l3, l4, l5, l6] st T σ K ↔ Rn 225 9 [l0, some (vI a), l2, l3, l4, l5, l6] (vI a :: st) T σ K := R_iload_n (n := 1) (by decide +kernel) rfl
theorem s225_9 : Rn 225 9 [l0, l1, some (vI a), l3, l4, l5, l6] st T σ K ↔ Rn 225 10 [l0, l1, some (vI a), l3, l4, l5, l6] (vI a :: st) T σ K := R_iload_n (n := 2) (by decide +kernel) rfl
theorem s225_10 : Rn 225 10 [l0, l1, l2, some (vI a), l4, l5, l6] st T σ K ↔ Rn 225 11 [l0, l1, l2, some (vI a), l4, l5, l6] (vI a :: st) T σ K := R_iload_n (n := 3) (by decide +kernel) rfl
theorem s225_11 : Rn 225 11 L (vI c :: vI b :: vI a :: st) T σ K ↔ st.length ≤ 4 ∧ Rn 226 0 [some (vI a), some (vI b), some (vI c)] [] T σ (fun r T' σ' => Rn 225 14 L (sx_push r st) T' σ' K) := R_S (cm := 226) (n := 3) (idx := 290) (mx := 3) (vs := [vI a, vI b, vI c]) (by decide +kernel) (Or.inl (by decide +kernel)) rfl (by decide +kernel) rfl (by decide +kernel)
theorem s225_14 : Rn 225 14 L (vI a :: st) T σ K ↔ (a ≠ 0 → Rn 225 19 L st T σ K) ∧ (a = 0 → Rn 225 17 L st T σ K) := R_if_ne (off := 5) (by decide +kernel) (by decide)
theorem s225_17 : Rn 225 17 L st T σ K ↔ Rn 225 18 L (vI (-1) :: st) T σ K := R_iconst (n := -1) (by decide +kernel) (by decide)
theorem s225_18 : Rn 225 18 L [vI a] T σ K ↔ K (some (vI a)) T σ := R_ret (by decide +kernel) (by decide +kernel)
theorem s225_19 : Rn 225 19 [some (vR o), l1, l2, l3, l4, l5, l6] st T σ K ↔ Rn 225 20 [some (vR o), l1, l2, l3, l4, l5, l6] (vR o :: st) T σ K := R_aload_n (n := 0) (by decide +kernel) rfl
theorem s225_20 : Rn 225 20 L (vR o :: st) T σ K ↔ (sx_kd T o = 9 ∧ st.length ≤ 4) ∧ Rn 227 0 [some (vR o), none] [] T σ (fun r T' σ' => Rn 225 23 L (sx_push r st) T' σ' K) := R_V (cm := 227) (n := 0) (idx := 293) (ci := 9) (mx := 2) (vs := []) (by decide +kernel) (by decide +kernel) rfl (by decide +kernel) rfl (by decide +kernel) (by decide +kernel)
theorem s225_23 : Rn 225 23 [some (vR o), l1, l2, l3, l4, l5, l6] st T σ K ↔ Rn 225 24 [some (vR o), l1, l2, l3, l4, l5, l6] (vR o :: st) T σ K := R_aload_n (n := 0) (by decide +kernel) rfl
theorem s225_24 : Rn 225 24 L st T σ K ↔ Rn 225 25 L (vI 0 :: st) T σ K := R_iconst (n := 0) (by decide +kernel) (by decide)
theorem s225_25 : Rn 225 25 L (vI a :: vR o :: st) T σ K ↔ sx_kd T o = 9 ∧ Rn 225 28 L st T (sx_up σ o 30 a) K := R_putI (idx := 102) (ci := 9) (k := 30) (by decide +kernel) (by decide +kernel) rfl rfl
theorem s225_28 : Rn 225 28 [some (vR o), l1, l2, l3, l4, l5, l6] st T σ K ↔ Rn 225 29 [some (vR o), l1, l2, l3, l4, l5, l6] (vR o :: st) T σ K := R_aload_n (n := 0) (by decide +kernel) rfl
theorem s225_29 : Rn 225 29 L st T σ K ↔ Rn 225 30 L (vI 0 :: st) T σ K := R_iconst (n := 0) (by decide +kernel) (by decide)
theorem s225_30 : Rn 225 30 L (vI a :: vR o :: st) T σ K ↔ sx_kd T o = 9 ∧ Rn 225 33 L st T (sx_up σ o 29 a) K := R_putI (idx := 99) (ci := 9) (k := 29) (by decide +kernel) (by decide +kernel) rfl rfl
theorem s225_33 : Rn 225 33 L st T σ K ↔ Rn 225 35 L (vI 10 :: st) T σ K := R_bipush (n := 10) (by decide +kernel) (by decide +kernel)
theorem s225_35 : Rn 225 35 [l0, l1, l2, l3, l4, l5, l6] (vI a :: st) T σ K ↔ Rn 225 37 [l0, l1, l2, l3, some (vI a), l5, l6] st T σ K := R_istore (n := 4) (by decide +kernel) rfl
theorem s225_37 : Rn 225 37 [l0, l1, l2, l3, some (vI a), l5, l6] st T σ K ↔ Rn 225 39 [l0, l1, l2, l3, some (vI a), l5, l6] (vI a :: st) T σ K := R_iload (n := 4) (by decide +kernel) rfl
theorem s225_39 : Rn 225 39 L (vI a :: st) T σ K ↔ (a ≤ 0 → Rn 225 134 L st T σ K) ∧ (0 < a → Rn 225 42 L st T σ K) := R_if_le (off := 95) (by decide +kernel) (by decide)
theorem s225_42 : Rn 225 42 [some (vR o), l1, l2, l3, l4, l5, l6] st T σ K ↔ Rn 225 43 [some (vR o), l1, l2, l3, l4, l5, l6] (vR o :: st) T σ K := R_aload_n (n := 0) (by decide +kernel) rfl
theorem s225_43 : Rn 225 43 [l0, l1, l2, l3, some (vI a), l5, l6] st T σ K ↔ Rn 225 45 [l0, l1, l2, l3, some (vI a), l5, l6] (vI a :: st) T σ K := R_iload (n := 4) (by decide +kernel) rfl
theorem s225_45 : Rn 225 45 [l0, some (vI a), l2, l3, l4, l5, l6] st T σ K ↔ Rn 225 46 [l0, some (vI a), l2, l3, l4, l5, l6] (vI a :: st) T σ K := R_iload_n (n := 1) (by decide +kernel) rfl
theorem s225_46 : Rn 225 46 [l0, l1, some (vI a), l3, l4, l5, l6] st T σ K ↔ Rn 225 47 [l0, l1, some (vI a), l3, l4, l5, l6] (vI a :: st) T σ K := R_iload_n (n := 2) (by decide +kernel) rfl
theorem s225_47 : Rn 225 47 [l0, l1, l2, some (vI a), l4, l5, l6] st T σ K ↔ Rn 225 48 [l0, l1, l2, some (vI a), l4, l5, l6] (vI a :: st) T σ K := R_iload_n (n := 3) (by decide +kernel) rfl
theorem s225_48 : Rn 225 48 L st T σ K ↔ Rn 225 49 L (vI 0 :: st) T σ K := R_iconst (n := 0) (by decide +kernel) (by decide)
theorem s225_49 : Rn 225 49 L (vI e :: vI d :: vI c :: vI b :: vI a :: vR o :: st) T σ K ↔ (sx_kd T o = 9 ∧ st.length ≤ 4) ∧ Rn 228 0 [some (vR o), some (vI a), some (vI b), some (vI c), some (vI d), some (vI e), none, none] [] T σ (fun r T' σ' => Rn 225 52 L (sx_push r st) T' σ' K) := R_V (cm := 228) (n := 5) (idx := 296) (ci := 9) (mx := 8) (vs := [vI a, vI b, vI c, vI d, vI e]) (by decide +kernel) (by decide +kernel) rfl (by decide +kernel) rfl (by decide +kernel) (by decide +kernel)
theorem s225_52 : Rn 225 52 [some (vR o), l1, l2, l3, l4, l5, l6] st T σ K ↔ Rn 225 53 [some (vR o), l1, l2, l3, l4, l5, l6] (vR o :: st) T σ K := R_aload_n (n := 0) (by decide +kernel) rfl
theorem s225_53 : Rn 225 53 [some (vR o), l1, l2, l3, l4, l5, l6] st T σ K ↔ Rn 225 54 [some (vR o), l1, l2, l3, l4, l5, l6] (vR o :: st) T σ K := R_aload_n (n := 0) (by decide +kernel) rfl
theorem s225_54 : Rn 225 54 L (vR o :: st) T σ K ↔ sx_kd T o = 9 ∧ Rn 225 57 L (vI (σ o 24) :: st) T σ K := R_getI (idx := 84) (ci := 9) (k := 24) (by decide +kernel) (by decide +kernel) (Or.inl rfl)
theorem s225_57 : Rn 225 57 [l0, some (vI a), l2, l3, l4, l5, l6] st T σ K ↔ Rn 225 58 [l0, some (vI a), l2, l3, l4, l5, l6] (vI a :: st) T σ K := R_iload_n (n := 1) (by decide +kernel) rfl
theorem s225_58 : Rn 225 58 [l0, l1, some (vI a), l3, l4, l5, l6] st T σ K ↔ Rn 225 59 [l0, l1, some (vI a), l3, l4, l5, l6] (vI a :: st) T σ K := R_iload_n (n := 2) (by decide +kernel) rfl
theorem s225_59 : Rn 225 59 [l0, l1, l2, some (vI a), l4, l5, l6] st T σ K ↔ Rn 225 60 [l0, l1, l2, some (vI a), l4, l5, l6] (vI a :: st) T σ K := R_iload_n (n := 3) (by decide +kernel) rfl
theorem s225_60 : Rn 225 60 L (vI d :: vI c :: vI b :: vI a :: vR o :: st) T σ K ↔ (sx_kd T o = 9 ∧ st.length ≤ 4) ∧ Rn 195 0 [some (vR o), some (vI a), some (vI b), some (vI c), some (vI d)] [] T σ (fun r T' σ' => Rn 225 63 L (sx_push r st) T' σ' K) := R_V (cm := 195) (n := 4) (idx := 223) (ci := 9) (mx := 5) (vs := [vI a, vI b, vI c, vI d]) (by decide +kernel) (by decide +kernel) rfl (by decide +kernel) rfl (by decide +kernel) (by decide +kernel)
theorem s225_63 : Rn 225 63 [l0, l1, l2, l3, l4, l5, l6] (vI a :: st) T σ K ↔ Rn 225 65 [l0, l1, l2, l3, l4, some (vI a), l6] st T σ K := R_istore (n := 5) (by decide +kernel) rfl
theorem s225_65 : Rn 225 65 L st T σ K ↔ Rn 225 66 L (vI 0 :: st) T σ K := R_iconst (n := 0) (by decide +kernel) (by decide)
theorem s225_66 : Rn 225 66 [l0, l1, l2, l3, l4, l5, l6] (vI a :: st) T σ K ↔ Rn 225 68 [l0, l1, l2, l3, l4, l5, some (vI a)] st T σ K := R_istore (n := 6) (by decide +kernel) rfl
theorem s225_68 : Rn 225 68 [l0, l1, l2, l3, l4, l5, some (vI a)] st T σ K ↔ Rn 225 70 [l0, l1, l2, l3, l4, l5, some (vI a)] (vI a :: st) T σ K := R_iload (n := 6) (by decide +kernel) rfl
theorem s225_70 : Rn 225 70 L st T σ K ↔ Rn 225 72 L (vI 40 :: st) T σ K := R_bipush (n := 40) (by decide +kernel) (by decide +kernel)
theorem s225_72 : Rn 225 72 L (vI b :: vI a :: st) T σ K ↔ (b ≤ a → Rn 225 128 L st T σ K) ∧ (a < b → Rn 225 75 L st T σ K) := R_icmp_ge (off := 56) (by decide +kernel) (by decide)
theorem s225_75 : Rn 225 75 [some (vR o), l1, l2, l3, l4, l5, l6] st T σ K ↔ Rn 225 76 [some (vR o), l1, l2, l3, l4, l5, l6] (vR o :: st) T σ K := R_aload_n (n := 0) (by decide +kernel) rfl
theorem s225_76 : Rn 225 76 L (vR o :: st) T σ K ↔ sx_kd T o = 9 ∧ ∃ t, sx_rf T o 23 = some t ∧ Rn 225 79 L (vR t :: st) T σ K := R_getR (idx := 81) (ci := 9) (k := 23) (by decide +kernel) (by decide +kernel) rfl
theorem s225_79 : Rn 225 79 [l0, l1, l2, l3, l4, l5, some (vI a)] st T σ K ↔ Rn 225 81 [l0, l1, l2, l3, l4, l5, some (vI a)] (vI a :: st) T σ K := R_iload (n := 6) (by decide +kernel) rfl
theorem s225_81 : Rn 225 81 L (vI a :: vR o :: st) T σ K ↔ (sx_kd T o = 20 ∧ 0 ≤ a ∧ a < sx_ln T o) ∧ Rn 225 82 L (vI (σ o a) :: st) T σ K := R_iald (by decide +kernel) (by decide)
theorem s225_82 : Rn 225 82 L st T σ K ↔ Rn 225 83 L (vI 1 :: st) T σ K := R_iconst (n := 1) (by decide +kernel) (by decide)
theorem s225_83 : Rn 225 83 L (vI b :: vI a :: st) T σ K ↔ (a ≠ b → Rn 225 122 L st T σ K) ∧ (a = b → Rn 225 86 L st T σ K) := R_icmp_ne (off := 39) (by decide +kernel) (by decide)
theorem s225_86 : Rn 225 86 [some (vR o), l1, l2, l3, l4, l5, l6] st T σ K ↔ Rn 225 87 [some (vR o), l1, l2, l3, l4, l5, l6] (vR o :: st) T σ K := R_aload_n (n := 0) (by decide +kernel) rfl
theorem s225_87 : Rn 225 87 [l0, l1, l2, l3, l4, l5, some (vI a)] st T σ K ↔ Rn 225 89 [l0, l1, l2, l3, l4, l5, some (vI a)] (vI a :: st) T σ K := R_iload (n := 6) (by decide +kernel) rfl
theorem s225_89 : Rn 225 89 [l0, some (vI a), l2, l3, l4, l5, l6] st T σ K ↔ Rn 225 90 [l0, some (vI a), l2, l3, l4, l5, l6] (vI a :: st) T σ K := R_iload_n (n := 1) (by decide +kernel) rfl
theorem s225_90 : Rn 225 90 [l0, l1, some (vI a), l3, l4, l5, l6] st T σ K ↔ Rn 225 91 [l0, l1, some (vI a), l3, l4, l5, l6] (vI a :: st) T σ K := R_iload_n (n := 2) (by decide +kernel) rfl
theorem s225_91 : Rn 225 91 [l0, l1, l2, some (vI a), l4, l5, l6] st T σ K ↔ Rn 225 92 [l0, l1, l2, some (vI a), l4, l5, l6] (vI a :: st) T σ K := R_iload_n (n := 3) (by decide +kernel) rfl
theorem s225_92 : Rn 225 92 L (vI d :: vI c :: vI b :: vI a :: vR o :: st) T σ K ↔ (sx_kd T o = 9 ∧ st.length ≤ 4) ∧ Rn 195 0 [some (vR o), some (vI a), some (vI b), some (vI c), some (vI d)] [] T σ (fun r T' σ' => Rn 225 95 L (sx_push r st) T' σ' K) := R_V (cm := 195) (n := 4) (idx := 223) (ci := 9) (mx := 5) (vs := [vI a, vI b, vI c, vI d]) (by decide +kernel) (by decide +kernel) rfl (by decide +kernel) rfl (by decide +kernel) (by decide +kernel)
theorem s225_95 : Rn 225 95 L st T σ K ↔ Rn 225 96 L (vI 1 :: st) T σ K := R_iconst (n := 1) (by decide +kernel) (by decide)
theorem s225_96 : Rn 225 96 [l0, l1, l2, l3, some (vI a), l5, l6] st T σ K ↔ Rn 225 98 [l0, l1, l2, l3, some (vI a), l5, l6] (vI a :: st) T σ K := R_iload (n := 4) (by decide +kernel) rfl
theorem s225_98 : Rn 225 98 L (vI b :: vI a :: st) T σ K ↔ (0 ≤ b ∧ b ≤ 31) ∧ inI (a * 2 ^ b.toNat) ∧ Rn 225 99 L (vI (a * 2 ^ b.toNat) :: st) T σ K := R_ishl (by decide +kernel)
theorem s225_99 : Rn 225 99 L (vI b :: vI a :: st) T σ K ↔ inI (a - b) ∧ Rn 225 100 L (vI (a - b) :: st) T σ K := R_isub (by decide +kernel)
theorem s225_100 : Rn 225 100 [l0, l1, l2, l3, l4, some (vI a), l6] st T σ K ↔ Rn 225 102 [l0, l1, l2, l3, l4, some (vI a), l6] (vI a :: st) T σ K := R_iload (n := 5) (by decide +kernel) rfl
theorem s225_102 : Rn 225 102 L (vI b :: vI a :: st) T σ K ↔ (a < b → Rn 225 122 L st T σ K) ∧ (b ≤ a → Rn 225 105 L st T σ K) := R_icmp_lt (off := 20) (by decide +kernel) (by decide)
theorem s225_105 : Rn 225 105 [some (vR o), l1, l2, l3, l4, l5, l6] st T σ K ↔ Rn 225 106 [some (vR o), l1, l2, l3, l4, l5, l6] (vR o :: st) T σ K := R_aload_n (n := 0) (by decide +kernel) rfl
theorem s225_106 : Rn 225 106 [l0, l1, l2, l3, l4, l5, some (vI a)] st T σ K ↔ Rn 225 108 [l0, l1, l2, l3, l4, l5, some (vI a)] (vI a :: st) T σ K := R_iload (n := 6) (by decide +kernel) rfl
theorem s225_108 : Rn 225 108 [l0, l1, l2, l3, some (vI a), l5, l6] st T σ K ↔ Rn 225 110 [l0, l1, l2, l3, some (vI a), l5, l6] (vI a :: st) T σ K := R_iload (n := 4) (by decide +kernel) rfl
theorem s225_110 : Rn 225 110 [some (vR o), l1, l2, l3, l4, l5, l6] st T σ K ↔ Rn 225 111 [some (vR o), l1, l2, l3, l4, l5, l6] (vR o :: st) T σ K := R_aload_n (n := 0) (by decide +kernel) rfl
theorem s225_111 : Rn 225 111 [l0, l1, l2, l3, l4, l5, some (vI a)] st T σ K ↔ Rn 225 113 [l0, l1, l2, l3, l4, l5, some (vI a)] (vI a :: st) T σ K := R_iload (n := 6) (by decide +kernel) rfl
theorem s225_113 : Rn 225 113 [l0, some (vI a), l2, l3, l4, l5, l6] st T σ K ↔ Rn 225 114 [l0, some (vI a), l2, l3, l4, l5, l6] (vI a :: st) T σ K := R_iload_n (n := 1) (by decide +kernel) rfl
theorem s225_114 : Rn 225 114 [l0, l1, some (vI a), l3, l4, l5, l6] st T σ K ↔ Rn 225 115 [l0, l1, some (vI a), l3, l4, l5, l6] (vI a :: st) T σ K := R_iload_n (n := 2) (by decide +kernel) rfl
theorem s225_115 : Rn 225 115 [l0, l1, l2, some (vI a), l4, l5, l6] st T σ K ↔ Rn 225 116 [l0, l1, l2, some (vI a), l4, l5, l6] (vI a :: st) T σ K := R_iload_n (n := 3) (by decide +kernel) rfl
theorem s225_116 : Rn 225 116 L (vI d :: vI c :: vI b :: vI a :: vR o :: st) T σ K ↔ (sx_kd T o = 9 ∧ st.length ≤ 4) ∧ Rn 195 0 [some (vR o), some (vI a), some (vI b), some (vI c), some (vI d)] [] T σ (fun r T' σ' => Rn 225 119 L (sx_push r st) T' σ' K) := R_V (cm := 195) (n := 4) (idx := 223) (ci := 9) (mx := 5) (vs := [vI a, vI b, vI c, vI d]) (by decide +kernel) (by decide +kernel) rfl (by decide +kernel) rfl (by decide +kernel) (by decide +kernel)
theorem s225_119 : Rn 225 119 L (vI c :: vI b :: vI a :: vR o :: st) T σ K ↔ (sx_kd T o = 9 ∧ st.length ≤ 4) ∧ Rn 229 0 [some (vR o), some (vI a), some (vI b), some (vI c), none] [] T σ (fun r T' σ' => Rn 225 122 L (sx_push r st) T' σ' K) := R_V (cm := 229) (n := 3) (idx := 300) (ci := 9) (mx := 5) (vs := [vI a, vI b, vI c]) (by decide +kernel) (by decide +kernel) rfl (by decide +kernel) rfl (by decide +kernel) (by decide +kernel)
theorem s225_122 : Rn 225 122 [l0, l1, l2, l3, l4, l5, some (vI a)] st T σ K ↔ inI (a + 1) ∧ Rn 225 125 [l0, l1, l2, l3, l4, l5, some (vI (a + 1))] st T σ K := R_iinc (n := 6) (d := 1) (by decide +kernel) rfl
theorem s225_125 : Rn 225 125 L st T σ K ↔ Rn 225 68 L st T σ K := R_goto (off := -57) (by decide +kernel) (by decide)
theorem s225_128 : Rn 225 128 [l0, l1, l2, l3, some (vI a), l5, l6] st T σ K ↔ inI (a + (-1)) ∧ Rn 225 131 [l0, l1, l2, l3, some (vI (a + (-1))), l5, l6] st T σ K := R_iinc (n := 4) (d := -1) (by decide +kernel) rfl
theorem s225_131 : Rn 225 131 L st T σ K ↔ Rn 225 37 L st T σ K := R_goto (off := -94) (by decide +kernel) (by decide)
theorem s225_134 : Rn 225 134 [some (vR o), l1, l2, l3, l4, l5, l6] st T σ K ↔ Rn 225 135 [some (vR o), l1, l2, l3, l4, l5, l6] (vR o :: st) T σ K := R_aload_n (n := 0) (by decide +kernel) rfl
theorem s225_135 : Rn 225 135 L st T σ K ↔ Rn 225 136 L (vI 1 :: st) T σ K := R_iconst (n := 1) (by decide +kernel) (by decide)
theorem s225_136 : Rn 225 136 L (vI a :: vR o :: st) T σ K ↔ (sx_kd T o = 9 ∧ (a = 0 ∨ a = 1)) ∧ Rn 225 139 L st T (sx_up σ o 26 a) K := R_putZ (idx := 90) (ci := 9) (k := 26) (by decide +kernel) (by decide +kernel) rfl rfl
theorem s225_139 : Rn 225 139 [some (vR o), l1, l2, l3, l4, l5, l6] st T σ K ↔ Rn 225 140 [some (vR o), l1, l2, l3, l4, l5, l6] (vR o :: st) T σ K := R_aload_n (n := 0) (by decide +kernel) rfl
theorem s225_140 : Rn 225 140 [some (vR o), l1, l2, l3, l4, l5, l6] st T σ K ↔ Rn 225 141 [some (vR o), l1, l2, l3, l4, l5, l6] (vR o :: st) T σ K := R_aload_n (n := 0) (by decide +kernel) rfl
theorem s225_141 : Rn 225 141 [some (vR o), l1, l2, l3, l4, l5, l6] st T σ K ↔ Rn 225 142 [some (vR o), l1, l2, l3, l4, l5, l6] (vR o :: st) T σ K := R_aload_n (n := 0) (by decide +kernel) rfl
theorem s225_142 : Rn 225 142 L (vR o :: st) T σ K ↔ sx_kd T o = 9 ∧ Rn 225 145 L (vI (σ o 24) :: st) T σ K := R_getI (idx := 84) (ci := 9) (k := 24) (by decide +kernel) (by decide +kernel) (Or.inl rfl)
theorem s225_145 : Rn 225 145 [l0, some (vI a), l2, l3, l4, l5, l6] st T σ K ↔ Rn 225 146 [l0, some (vI a), l2, l3, l4, l5, l6] (vI a :: st) T σ K := R_iload_n (n := 1) (by decide +kernel) rfl
theorem s225_146 : Rn 225 146 [l0, l1, some (vI a), l3, l4, l5, l6] st T σ K ↔ Rn 225 147 [l0, l1, some (vI a), l3, l4, l5, l6] (vI a :: st) T σ K := R_iload_n (n := 2) (by decide +kernel) rfl
theorem s225_147 : Rn 225 147 [l0, l1, l2, some (vI a), l4, l5, l6] st T σ K ↔ Rn 225 148 [l0, l1, l2, some (vI a), l4, l5, l6] (vI a :: st) T σ K := R_iload_n (n := 3) (by decide +kernel) rfl
theorem s225_148 : Rn 225 148 L (vI d :: vI c :: vI b :: vI a :: vR o :: st) T σ K ↔ (sx_kd T o = 9 ∧ st.length ≤ 4) ∧ Rn 195 0 [some (vR o), some (vI a), some (vI b), some (vI c), some (vI d)] [] T σ (fun r T' σ' => Rn 225 151 L (sx_push r st) T' σ' K) := R_V (cm := 195) (n := 4) (idx := 223) (ci := 9) (mx := 5) (vs := [vI a, vI b, vI c, vI d]) (by decide +kernel) (by decide +kernel) rfl (by decide +kernel) rfl (by decide +kernel) (by decide +kernel)
theorem s225_151 : Rn 225 151 L (vI a :: vR o :: st) T σ K ↔ sx_kd T o = 9 ∧ Rn 225 154 L st T (sx_up σ o 27 a) K := R_putI (idx := 93) (ci := 9) (k := 27) (by decide +kernel) (by decide +kernel) rfl rfl
theorem s225_154 : Rn 225 154 [some (vR o), l1, l2, l3, l4, l5, l6] st T σ K ↔ Rn 225 155 [some (vR o), l1, l2, l3, l4, l5, l6] (vR o :: st) T σ K := R_aload_n (n := 0) (by decide +kernel) rfl
theorem s225_155 : Rn 225 155 [some (vR o), l1, l2, l3, l4, l5, l6] st T σ K ↔ Rn 225 156 [some (vR o), l1, l2, l3, l4, l5, l6] (vR o :: st) T σ K := R_aload_n (n := 0) (by decide +kernel) rfl
theorem s225_156 : Rn 225 156 L (vR o :: st) T σ K ↔ sx_kd T o = 9 ∧ Rn 225 159 L (vI (σ o 25) :: st) T σ K := R_getI (idx := 87) (ci := 9) (k := 25) (by decide +kernel) (by decide +kernel) (Or.inl rfl)
theorem s225_159 : Rn 225 159 L (vI a :: vR o :: st) T σ K ↔ sx_kd T o = 9 ∧ Rn 225 162 L st T (sx_up σ o 28 a) K := R_putI (idx := 96) (ci := 9) (k := 28) (by decide +kernel) (by decide +kernel) rfl rfl
theorem s225_162 : Rn 225 162 [some (vR o), l1, l2, l3, l4, l5, l6] st T σ K ↔ Rn 225 163 [some (vR o), l1, l2, l3, l4, l5, l6] (vR o :: st) T σ K := R_aload_n (n := 0) (by decide +kernel) rfl
theorem s225_163 : Rn 225 163 L (vR o :: st) T σ K ↔ sx_kd T o = 9 ∧ Rn 225 166 L (vI (σ o 24) :: st) T σ K := R_getI (idx := 84) (ci := 9) (k := 24) (by decide +kernel) (by decide +kernel) (Or.inl rfl)
theorem s225_166 : Rn 225 166 L [vI a] T σ K ↔ K (some (vI a)) T σ := R_ret (by decide +kernel) (by decide +kernel)
theorem s226_0 : Rn 226 0 [some (vI a), l1, l2] st T σ K ↔ Rn 226 1 [some (vI a), l1, l2] (vI a :: st) T σ K := R_iload_n (n := 0) (by decide +kernel) rfl
theorem s226_1 : Rn 226 1 L st T σ K ↔ Rn 226 2 L (vI 0 :: st) T σ K := R_iconst (n := 0) (by decide +kernel) (by decide)
theorem s226_2 : Rn 226 2 L st T σ K ↔ Rn 226 5 L (vI 255 :: st) T σ K := R_sipush (n := 255) (by decide +kernel) (by decide +kernel)
theorem s226_5 : Rn 226 5 L (vI c :: vI b :: vI a :: st) T σ K ↔ st.length ≤ 4 ∧ Rn 185 0 [some (vI a), some (vI b), some (vI c)] [] T σ (fun r T' σ' => Rn 226 8 L (sx_push r st) T' σ' K) := R_S (cm := 185) (n := 3) (idx := 189) (mx := 3) (vs := [vI a, vI b, vI c]) (by decide +kernel) (Or.inl (by decide +kernel)) rfl (by decide +kernel) rfl (by decide +kernel)
theorem s226_8 : Rn 226 8 L (vI a :: st) T σ K ↔ (a = 0 → Rn 226 37 L st T σ K) ∧ (a ≠ 0 → Rn 226 11 L st T σ K) := R_if_eq (off := 29) (by decide +kernel) (by decide)
theorem s226_11 : Rn 226 11 [l0, some (vI a), l2] st T σ K ↔ Rn 226 12 [l0, some (vI a), l2] (vI a :: st) T σ K := R_iload_n (n := 1) (by decide +kernel) rfl
theorem s226_12 : Rn 226 12 L st T σ K ↔ Rn 226 13 L (vI 0 :: st) T σ K := R_iconst (n := 0) (by decide +kernel) (by decide)
theorem s226_13 : Rn 226 13 L st T σ K ↔ Rn 226 16 L (vI 255 :: st) T σ K := R_sipush (n := 255) (by decide +kernel) (by decide +kernel)
theorem s226_16 : Rn 226 16 L (vI c :: vI b :: vI a :: st) T σ K ↔ st.length ≤ 4 ∧ Rn 185 0 [some (vI a), some (vI b), some (vI c)] [] T σ (fun r T' σ' => Rn 226 19 L (sx_push r st) T' σ' K) := R_S (cm := 185) (n := 3) (idx := 189) (mx := 3) (vs := [vI a, vI b, vI c]) (by decide +kernel) (Or.inl (by decide +kernel)) rfl (by decide +kernel) rfl (by decide +kernel)
theorem s226_19 : Rn 226 19 L (vI a :: st) T σ K ↔ (a = 0 → Rn 226 37 L st T σ K) ∧ (a ≠ 0 → Rn 226 22 L st T σ K) := R_if_eq (off := 18) (by decide +kernel) (by decide)
theorem s226_22 : Rn 226 22 [l0, l1, some (vI a)] st T σ K ↔ Rn 226 23 [l0, l1, some (vI a)] (vI a :: st) T σ K := R_iload_n (n := 2) (by decide +kernel) rfl
theorem s226_23 : Rn 226 23 L st T σ K ↔ Rn 226 24 L (vI 0 :: st) T σ K := R_iconst (n := 0) (by decide +kernel) (by decide)
theorem s226_24 : Rn 226 24 L st T σ K ↔ Rn 226 27 L (vI 255 :: st) T σ K := R_sipush (n := 255) (by decide +kernel) (by decide +kernel)
theorem s226_27 : Rn 226 27 L (vI c :: vI b :: vI a :: st) T σ K ↔ st.length ≤ 4 ∧ Rn 185 0 [some (vI a), some (vI b), some (vI c)] [] T σ (fun r T' σ' => Rn 226 30 L (sx_push r st) T' σ' K) := R_S (cm := 185) (n := 3) (idx := 189) (mx := 3) (vs := [vI a, vI b, vI c]) (by decide +kernel) (Or.inl (by decide +kernel)) rfl (by decide +kernel) rfl (by decide +kernel)
theorem s226_30 : Rn 226 30 L (vI a :: st) T σ K ↔ (a = 0 → Rn 226 37 L st T σ K) ∧ (a ≠ 0 → Rn 226 33 L st T σ K) := R_if_eq (off := 7) (by decide +kernel) (by decide)
theorem s226_33 : Rn 226 33 L st T σ K ↔ Rn 226 34 L (vI 1 :: st) T σ K := R_iconst (n := 1) (by decide +kernel) (by decide)
theorem s226_34 : Rn 226 34 L st T σ K ↔ Rn 226 38 L st T σ K := R_goto (off := 4) (by decide +kernel) (by decide)
theorem s226_37 : Rn 226 37 L st T σ K ↔ Rn 226 38 L (vI 0 :: st) T σ K := R_iconst (n := 0) (by decide +kernel) (by decide)
theorem s226_38 : Rn 226 38 L [vI a] T σ K ↔ (a = 0 ∨ a = 1) ∧ K (some (vI a)) T σ := R_retZ (by decide +kernel) (by decide +kernel)
theorem s227_0 : Rn 227 0 L st T σ K ↔ Rn 227 1 L (vI 0 :: st) T σ K := R_iconst (n := 0) (by decide +kernel) (by decide)
theorem s227_1 : Rn 227 1 [l0, l1] (vI a :: st) T σ K ↔ Rn 227 2 [l0, some (vI a)] st T σ K := R_istore_n (n := 1) (by decide +kernel) rfl
theorem s227_2 : Rn 227 2 [l0, some (vI a)] st T σ K ↔ Rn 227 3 [l0, some (vI a)] (vI a :: st) T σ K := R_iload_n (n := 1) (by decide +kernel) rfl
theorem s227_3 : Rn 227 3 L st T σ K ↔ Rn 227 5 L (vI 40 :: st) T σ K := R_bipush (n := 40) (by decide +kernel) (by decide +kernel)
theorem s227_5 : Rn 227 5 L (vI b :: vI a :: st) T σ K ↔ (b ≤ a → Rn 227 21 L st T σ K) ∧ (a < b → Rn 227 8 L st T σ K) := R_icmp_ge (off := 16) (by decide +kernel) (by decide)
theorem s227_8 : Rn 227 8 [some (vR o), l1] st T σ K ↔ Rn 227 9 [some (vR o), l1] (vR o :: st) T σ K := R_aload_n (n := 0) (by decide +kernel) rfl
theorem s227_9 : Rn 227 9 L (vR o :: st) T σ K ↔ sx_kd T o = 9 ∧ ∃ t, sx_rf T o 23 = some t ∧ Rn 227 12 L (vR t :: st) T σ K := R_getR (idx := 81) (ci := 9) (k := 23) (by decide +kernel) (by decide +kernel) rfl
theorem s227_12 : Rn 227 12 [l0, some (vI a)] st T σ K ↔ Rn 227 13 [l0, some (vI a)] (vI a :: st) T σ K := R_iload_n (n := 1) (by decide +kernel) rfl
theorem s227_13 : Rn 227 13 L st T σ K ↔ Rn 227 14 L (vI 0 :: st) T σ K := R_iconst (n := 0) (by decide +kernel) (by decide)
theorem s227_14 : Rn 227 14 L (vI b :: vI a :: vR o :: st) T σ K ↔ (sx_kd T o = 20 ∧ 0 ≤ a ∧ a < sx_ln T o) ∧ Rn 227 15 L st T (sx_up σ o a b) K := R_iast (by decide +kernel)
theorem s227_15 : Rn 227 15 [l0, some (vI a)] st T σ K ↔ inI (a + 1) ∧ Rn 227 18 [l0, some (vI (a + 1))] st T σ K := R_iinc (n := 1) (d := 1) (by decide +kernel) rfl
theorem s227_18 : Rn 227 18 L st T σ K ↔ Rn 227 2 L st T σ K := R_goto (off := -16) (by decide +kernel) (by decide)
theorem s227_21 : Rn 227 21 [some (vR o), l1] st T σ K ↔ Rn 227 22 [some (vR o), l1] (vR o :: st) T σ K := R_aload_n (n := 0) (by decide +kernel) rfl
theorem s227_22 : Rn 227 22 [some (vR o), l1] st T σ K ↔ Rn 227 23 [some (vR o), l1] (vR o :: st) T σ K := R_aload_n (n := 0) (by decide +kernel) rfl
theorem s227_23 : Rn 227 23 L (vR o :: st) T σ K ↔ (sx_kd T o = 9 ∧ st.length ≤ 4) ∧ Rn 203 0 [some (vR o), none] [] T σ (fun r T' σ' => Rn 227 26 L (sx_push r st) T' σ' K) := R_V (cm := 203) (n := 0) (idx := 251) (ci := 9) (mx := 2) (vs := []) (by decide +kernel) (by decide +kernel) rfl (by decide +kernel) rfl (by decide +kernel) (by decide +kernel)
theorem s227_26 : Rn 227 26 L (vI a :: vR o :: st) T σ K ↔ sx_kd T o = 9 ∧ Rn 227 29 L st T (sx_up σ o 24 a) K := R_putI (idx := 84) (ci := 9) (k := 24) (by decide +kernel) (by decide +kernel) rfl rfl
theorem s227_29 : Rn 227 29 [some (vR o), l1] st T σ K ↔ Rn 227 30 [some (vR o), l1] (vR o :: st) T σ K := R_aload_n (n := 0) (by decide +kernel) rfl
theorem s227_30 : Rn 227 30 L (vR o :: st) T σ K ↔ sx_kd T o = 9 ∧ ∃ t, sx_rf T o 23 = some t ∧ Rn 227 33 L (vR t :: st) T σ K := R_getR (idx := 81) (ci := 9) (k := 23) (by decide +kernel) (by decide +kernel) rfl
theorem s227_33 : Rn 227 33 [some (vR o), l1] st T σ K ↔ Rn 227 34 [some (vR o), l1] (vR o :: st) T σ K := R_aload_n (n := 0) (by decide +kernel) rfl
theorem s227_34 : Rn 227 34 L (vR o :: st) T σ K ↔ sx_kd T o = 9 ∧ Rn 227 37 L (vI (σ o 24) :: st) T σ K := R_getI (idx := 84) (ci := 9) (k := 24) (by decide +kernel) (by decide +kernel) (Or.inl rfl)
theorem s227_37 : Rn 227 37 L st T σ K ↔ Rn 227 38 L (vI 1 :: st) T σ K := R_iconst (n := 1) (by decide +kernel) (by decide)
theorem s227_38 : Rn 227 38 L (vI b :: vI a :: vR o :: st) T σ K ↔ (sx_kd T o = 20 ∧ 0 ≤ a ∧ a < sx_ln T o) ∧ Rn 227 39 L st T (sx_up σ o a b) K := R_iast (by decide +kernel)
theorem s227_39 : Rn 227 39 [some (vR o), l1] st T σ K ↔ Rn 227 40 [some (vR o), l1] (vR o :: st) T σ K := R_aload_n (n := 0) (by decide +kernel) rfl
theorem s227_40 : Rn 227 40 L st T σ K ↔ Rn 227 41 L (vI 1 :: st) T σ K := R_iconst (n := 1) (by decide +kernel) (by decide)
theorem s227_41 : Rn 227 41 L (vI a :: vR o :: st) T σ K ↔ sx_kd T o = 9 ∧ Rn 227 44 L st T (sx_up σ o 25 a) K := R_putI (idx := 87) (ci := 9) (k := 25) (by decide +kernel) (by decide +kernel) rfl rfl
theorem s227_44 : Rn 227 44 L [] T σ K ↔ K none T σ := R_retV (by decide +kernel) (by decide +kernel)
theorem s228_0 : Rn 228 0 L st T σ K ↔ Rn 228 1 L (vI 0 :: st) T σ K := R_iconst (n := 0) (by decide +kernel) (by decide)
theorem s228_1 : Rn 228 1 [l0, l1, l2, l3, l4, l5, l6, l7] (vI a :: st) T σ K ↔ Rn 228 3 [l0, l1, l2, l3, l4, l5, some (vI a), l7] st T σ K := R_istore (n := 6) (by decide +kernel) rfl
theorem s228_3 : Rn 228 3 [l0, l1, l2, l3, l4, l5, some (vI a), l7] st T σ K ↔ Rn 228 5 [l0, l1, l2, l3, l4, l5, some (vI a), l7] (vI a :: st) T σ K := R_iload (n := 6) (by decide +kernel) rfl
theorem s228_5 : Rn 228 5 L st T σ K ↔ Rn 228 7 L (vI 40 :: st) T σ K := R_bipush (n := 40) (by decide +kernel) (by decide +kernel)
theorem s228_7 : Rn 228 7 L (vI b :: vI a :: st) T σ K ↔ (b ≤ a → Rn 228 158 L st T σ K) ∧ (a < b → Rn 228 10 L st T σ K) := R_icmp_ge (off := 151) (by decide +kernel) (by decide)
theorem s228_10 : Rn 228 10 [some (vR o), l1, l2, l3, l4, l5, l6, l7] st T σ K ↔ Rn 228 11 [some (vR o), l1, l2, l3, l4, l5, l6, l7] (vR o :: st) T σ K := R_aload_n (n := 0) (by decide +kernel) rfl
theorem s228_11 : Rn 228 11 L (vR o :: st) T σ K ↔ sx_kd T o = 9 ∧ ∃ t, sx_rf T o 0 = some t ∧ Rn 228 14 L (vR t :: st) T σ K := R_getR (idx := 7) (ci := 9) (k := 0) (by decide +kernel) (by decide +kernel) rfl
theorem s228_14 : Rn 228 14 L st T σ K ↔ Rn 228 15 L (vI 0 :: st) T σ K := R_iconst (n := 0) (by decide +kernel) (by decide)
theorem s228_15 : Rn 228 15 [l0, l1, l2, l3, l4, l5, some (vI a), l7] st T σ K ↔ Rn 228 17 [l0, l1, l2, l3, l4, l5, some (vI a), l7] (vI a :: st) T σ K := R_iload (n := 6) (by decide +kernel) rfl
theorem s228_17 : Rn 228 17 L (vI b :: vI a :: st) T σ K ↔ inI (a + b) ∧ Rn 228 18 L (vI (a + b) :: st) T σ K := R_iadd (by decide +kernel)
theorem s228_18 : Rn 228 18 L (vI a :: vR o :: st) T σ K ↔ (sx_kd T o = 20 ∧ 0 ≤ a ∧ a < sx_ln T o) ∧ Rn 228 19 L (vI (σ o a) :: st) T σ K := R_iald (by decide +kernel) (by decide)
theorem s228_19 : Rn 228 19 L (vI a :: st) T σ K ↔ (a = 0 → Rn 228 152 L st T σ K) ∧ (a ≠ 0 → Rn 228 22 L st T σ K) := R_if_eq (off := 133) (by decide +kernel) (by decide)
theorem s228_22 : Rn 228 22 [some (vR o), l1, l2, l3, l4, l5, l6, l7] st T σ K ↔ Rn 228 23 [some (vR o), l1, l2, l3, l4, l5, l6, l7] (vR o :: st) T σ K := R_aload_n (n := 0) (by decide +kernel) rfl
theorem s228_23 : Rn 228 23 L (vR o :: st) T σ K ↔ sx_kd T o = 9 ∧ ∃ t, sx_rf T o 0 = some t ∧ Rn 228 26 L (vR t :: st) T σ K := R_getR (idx := 7) (ci := 9) (k := 0) (by decide +kernel) (by decide +kernel) rfl
theorem s228_26 : Rn 228 26 L st T σ K ↔ Rn 228 29 L (vI 160 :: st) T σ K := R_sipush (n := 160) (by decide +kernel) (by decide +kernel)
theorem s228_29 : Rn 228 29 [l0, l1, l2, l3, l4, l5, some (vI a), l7] st T σ K ↔ Rn 228 31 [l0, l1, l2, l3, l4, l5, some (vI a), l7] (vI a :: st) T σ K := R_iload (n := 6) (by decide +kernel) rfl
theorem s228_31 : Rn 228 31 L (vI b :: vI a :: st) T σ K ↔ inI (a + b) ∧ Rn 228 32 L (vI (a + b) :: st) T σ K := R_iadd (by decide +kernel)
theorem s228_32 : Rn 228 32 L (vI a :: vR o :: st) T σ K ↔ (sx_kd T o = 20 ∧ 0 ≤ a ∧ a < sx_ln T o) ∧ Rn 228 33 L (vI (σ o a) :: st) T σ K := R_iald (by decide +kernel) (by decide)
theorem s228_33 : Rn 228 33 [l0, some (vI a), l2, l3, l4, l5, l6, l7] st T σ K ↔ Rn 228 34 [l0, some (vI a), l2, l3, l4, l5, l6, l7] (vI a :: st) T σ K := R_iload_n (n := 1) (by decide +kernel) rfl
theorem s228_34 : Rn 228 34 L st T σ K ↔ Rn 228 35 L (vI 1 :: st) T σ K := R_iconst (n := 1) (by decide +kernel) (by decide)
theorem s228_35 : Rn 228 35 L (vI b :: vI a :: st) T σ K ↔ inI (a - b) ∧ Rn 228 36 L (vI (a - b) :: st) T σ K := R_isub (by decide +kernel)
theorem s228_36 : Rn 228 36 L (vI b :: vI a :: st) T σ K ↔ (a ≠ b → Rn 228 152 L st T σ K) ∧ (a = b → Rn 228 39 L st T σ K) := R_icmp_ne (off := 116) (by decide +kernel) (by decide)
theorem s228_39 : Rn 228 39 [some (vR o), l1, l2, l3, l4, l5, l6, l7] st T σ K ↔ Rn 228 40 [some (vR o), l1, l2, l3, l4, l5, l6, l7] (vR o :: st) T σ K := R_aload_n (n := 0) (by decide +kernel) rfl
theorem s228_40 : Rn 228 40 L (vR o :: st) T σ K ↔ sx_kd T o = 9 ∧ ∃ t, sx_rf T o 23 = some t ∧ Rn 228 43 L (vR t :: st) T σ K := R_getR (idx := 81) (ci := 9) (k := 23) (by decide +kernel) (by decide +kernel) rfl
theorem s228_43 : Rn 228 43 [some (vR o), l1, l2, l3, l4, l5, l6, l7] st T σ K ↔ Rn 228 44 [some (vR o), l1, l2, l3, l4, l5, l6, l7] (vR o :: st) T σ K := R_aload_n (n := 0) (by decide +kernel) rfl
theorem s228_44 : Rn 228 44 L (vR o :: st) T σ K ↔ sx_kd T o = 9 ∧ ∃ t, sx_rf T o 0 = some t ∧ Rn 228 47 L (vR t :: st) T σ K := R_getR (idx := 7) (ci := 9) (k := 0) (by decide +kernel) (by decide +kernel) rfl
theorem s228_47 : Rn 228 47 L st T σ K ↔ Rn 228 50 L (vI 200 :: st) T σ K := R_sipush (n := 200) (by decide +kernel) (by decide +kernel)
theorem s228_50 : Rn 228 50 [l0, l1, l2, l3, l4, l5, some (vI a), l7] st T σ K ↔ Rn 228 52 [l0, l1, l2, l3, l4, l5, some (vI a), l7] (vI a :: st) T σ K := R_iload (n := 6) (by decide +kernel) rfl
theorem s228_52 : Rn 228 52 L (vI b :: vI a :: st) T σ K ↔ inI (a + b) ∧ Rn 228 53 L (vI (a + b) :: st) T σ K := R_iadd (by decide +kernel)
theorem s228_53 : Rn 228 53 L (vI a :: vR o :: st) T σ K ↔ (sx_kd T o = 20 ∧ 0 ≤ a ∧ a < sx_ln T o) ∧ Rn 228 54 L (vI (σ o a) :: st) T σ K := R_iald (by decide +kernel) (by decide)
theorem s228_54 : Rn 228 54 L (vI a :: vR o :: st) T σ K ↔ (sx_kd T o = 20 ∧ 0 ≤ a ∧ a < sx_ln T o) ∧ Rn 228 55 L (vI (σ o a) :: st) T σ K := R_iald (by decide +kernel) (by decide)
theorem s228_55 : Rn 228 55 L st T σ K ↔ Rn 228 56 L (vI 1 :: st) T σ K := R_iconst (n := 1) (by decide +kernel) (by decide)
theorem s228_56 : Rn 228 56 L (vI b :: vI a :: st) T σ K ↔ (a = b → Rn 228 62 L st T σ K) ∧ (a ≠ b → Rn 228 59 L st T σ K) := R_icmp_eq (off := 6) (by decide +kernel) (by decide)
theorem s228_59 : Rn 228 59 L st T σ K ↔ Rn 228 152 L st T σ K := R_goto (off := 93) (by decide +kernel) (by decide)
theorem s228_62 : Rn 228 62 [some (vR o), l1, l2, l3, l4, l5, l6, l7] st T σ K ↔ Rn 228 63 [some (vR o), l1, l2, l3, l4, l5, l6, l7] (vR o :: st) T σ K := R_aload_n (n := 0) (by decide +kernel) rfl
theorem s228_63 : Rn 228 63 L (vR o :: st) T σ K ↔ sx_kd T o = 9 ∧ ∃ t, sx_rf T o 23 = some t ∧ Rn 228 66 L (vR t :: st) T σ K := R_getR (idx := 81) (ci := 9) (k := 23) (by decide +kernel) (by decide +kernel) rfl
theorem s228_66 : Rn 228 66 [l0, l1, l2, l3, l4, l5, some (vI a), l7] st T σ K ↔ Rn 228 68 [l0, l1, l2, l3, l4, l5, some (vI a), l7] (vI a :: st) T σ K := R_iload (n := 6) (by decide +kernel) rfl
theorem s228_68 : Rn 228 68 L st T σ K ↔ Rn 228 69 L (vI 1 :: st) T σ K := R_iconst (n := 1) (by decide +kernel) (by decide)
theorem s228_69 : Rn 228 69 L (vI b :: vI a :: vR o :: st) T σ K ↔ (sx_kd T o = 20 ∧ 0 ≤ a ∧ a < sx_ln T o) ∧ Rn 228 70 L st T (sx_up σ o a b) K := R_iast (by decide +kernel)
theorem s228_70 : Rn 228 70 [some (vR o), l1, l2, l3, l4, l5, l6, l7] st T σ K ↔ Rn 228 71 [some (vR o), l1, l2, l3, l4, l5, l6, l7] (vR o :: st) T σ K := R_aload_n (n := 0) (by decide +kernel) rfl
theorem s228_71 : Rn 228 71 L (vR o :: st) T σ K ↔ Rn 228 72 L (vR o :: vR o :: st) T σ K := R_dup (v := vR o) (by decide +kernel) rfl
theorem s228_72 : Rn 228 72 L (vR o :: st) T σ K ↔ sx_kd T o = 9 ∧ Rn 228 75 L (vI (σ o 25) :: st) T σ K := R_getI (idx := 87) (ci := 9) (k := 25) (by decide +kernel) (by decide +kernel) (Or.inl rfl)
theorem s228_75 : Rn 228 75 L st T σ K ↔ Rn 228 76 L (vI 1 :: st) T σ K := R_iconst (n := 1) (by decide +kernel) (by decide)
theorem s228_76 : Rn 228 76 L (vI b :: vI a :: st) T σ K ↔ inI (a + b) ∧ Rn 228 77 L (vI (a + b) :: st) T σ K := R_iadd (by decide +kernel)
theorem s228_77 : Rn 228 77 L (vI a :: vR o :: st) T σ K ↔ sx_kd T o = 9 ∧ Rn 228 80 L st T (sx_up σ o 25 a) K := R_putI (idx := 87) (ci := 9) (k := 25) (by decide +kernel) (by decide +kernel) rfl rfl
theorem s228_80 : Rn 228 80 [some (vR o), l1, l2, l3, l4, l5, l6, l7] st T σ K ↔ Rn 228 81 [some (vR o), l1, l2, l3, l4, l5, l6, l7] (vR o :: st) T σ K := R_aload_n (n := 0) (by decide +kernel) rfl
theorem s228_81 : Rn 228 81 [l0, l1, l2, l3, l4, l5, some (vI a), l7] st T σ K ↔ Rn 228 83 [l0, l1, l2, l3, l4, l5, some (vI a), l7] (vI a :: st) T σ K := R_iload (n := 6) (by decide +kernel) rfl
theorem s228_83 : Rn 228 83 [l0, l1, some (vI a), l3, l4, l5, l6, l7] st T σ K ↔ Rn 228 84 [l0, l1, some (vI a), l3, l4, l5, l6, l7] (vI a :: st) T σ K := R_iload_n (n := 2) (by decide +kernel) rfl
theorem s228_84 : Rn 228 84 [l0, l1, l2, some (vI a), l4, l5, l6, l7] st T σ K ↔ Rn 228 85 [l0, l1, l2, some (vI a), l4, l5, l6, l7] (vI a :: st) T σ K := R_iload_n (n := 3) (by decide +kernel) rfl
theorem s228_85 : Rn 228 85 [l0, l1, l2, l3, some (vI a), l5, l6, l7] st T σ K ↔ Rn 228 87 [l0, l1, l2, l3, some (vI a), l5, l6, l7] (vI a :: st) T σ K := R_iload (n := 4) (by decide +kernel) rfl
theorem s228_87 : Rn 228 87 L (vI d :: vI c :: vI b :: vI a :: vR o :: st) T σ K ↔ (sx_kd T o = 9 ∧ st.length ≤ 4) ∧ Rn 195 0 [some (vR o), some (vI a), some (vI b), some (vI c), some (vI d)] [] T σ (fun r T' σ' => Rn 228 90 L (sx_push r st) T' σ' K) := R_V (cm := 195) (n := 4) (idx := 223) (ci := 9) (mx := 5) (vs := [vI a, vI b, vI c, vI d]) (by decide +kernel) (by decide +kernel) rfl (by decide +kernel) rfl (by decide +kernel) (by decide +kernel)
theorem s228_90 : Rn 228 90 [some (vR o), l1, l2, l3, l4, l5, l6, l7] st T σ K ↔ Rn 228 91 [some (vR o), l1, l2, l3, l4, l5, l6, l7] (vR o :: st) T σ K := R_aload_n (n := 0) (by decide +kernel) rfl
theorem s228_91 : Rn 228 91 [some (vR o), l1, l2, l3, l4, l5, l6, l7] st T σ K ↔ Rn 228 92 [some (vR o), l1, l2, l3, l4, l5, l6, l7] (vR o :: st) T σ K := R_aload_n (n := 0) (by decide +kernel) rfl
theorem s228_92 : Rn 228 92 L (vR o :: st) T σ K ↔ sx_kd T o = 9 ∧ Rn 228 95 L (vI (σ o 24) :: st) T σ K := R_getI (idx := 84) (ci := 9) (k := 24) (by decide +kernel) (by decide +kernel) (Or.inl rfl)
theorem s228_95 : Rn 228 95 [l0, l1, some (vI a), l3, l4, l5, l6, l7] st T σ K ↔ Rn 228 96 [l0, l1, some (vI a), l3, l4, l5, l6, l7] (vI a :: st) T σ K := R_iload_n (n := 2) (by decide +kernel) rfl
theorem s228_96 : Rn 228 96 [l0, l1, l2, some (vI a), l4, l5, l6, l7] st T σ K ↔ Rn 228 97 [l0, l1, l2, some (vI a), l4, l5, l6, l7] (vI a :: st) T σ K := R_iload_n (n := 3) (by decide +kernel) rfl
theorem s228_97 : Rn 228 97 [l0, l1, l2, l3, some (vI a), l5, l6, l7] st T σ K ↔ Rn 228 99 [l0, l1, l2, l3, some (vI a), l5, l6, l7] (vI a :: st) T σ K := R_iload (n := 4) (by decide +kernel) rfl
theorem s228_99 : Rn 228 99 L (vI d :: vI c :: vI b :: vI a :: vR o :: st) T σ K ↔ (sx_kd T o = 9 ∧ st.length ≤ 4) ∧ Rn 195 0 [some (vR o), some (vI a), some (vI b), some (vI c), some (vI d)] [] T σ (fun r T' σ' => Rn 228 102 L (sx_push r st) T' σ' K) := R_V (cm := 195) (n := 4) (idx := 223) (ci := 9) (mx := 5) (vs := [vI a, vI b, vI c, vI d]) (by decide +kernel) (by decide +kernel) rfl (by decide +kernel) rfl (by decide +kernel) (by decide +kernel)
theorem s228_102 : Rn 228 102 L (vI b :: vI a :: st) T σ K ↔ inI (a - b) ∧ Rn 228 103 L (vI (a - b) :: st) T σ K := R_isub (by decide +kernel)
theorem s228_103 : Rn 228 103 [l0, l1, l2, l3, l4, l5, l6, l7] (vI a :: st) T σ K ↔ Rn 228 105 [l0, l1, l2, l3, l4, l5, l6, some (vI a)] st T σ K := R_istore (n := 7) (by decide +kernel) rfl
theorem s228_105 : Rn 228 105 [l0, l1, l2, l3, l4, some (vI a), l6, l7] st T σ K ↔ Rn 228 107 [l0, l1, l2, l3, l4, some (vI a), l6, l7] (vI a :: st) T σ K := R_iload (n := 5) (by decide +kernel) rfl
theorem s228_107 : Rn 228 107 L (vI a :: st) T σ K ↔ (a = 0 → Rn 228 118 L st T σ K) ∧ (a ≠ 0 → Rn 228 110 L st T σ K) := R_if_eq (off := 11) (by decide +kernel) (by decide)
theorem s228_110 : Rn 228 110 [l0, l1, l2, l3, l4, l5, l6, some (vI a)] st T σ K ↔ Rn 228 112 [l0, l1, l2, l3, l4, l5, l6, some (vI a)] (vI a :: st) T σ K := R_iload (n := 7) (by decide +kernel) rfl
theorem s228_112 : Rn 228 112 L (vI a :: st) T σ K ↔ (a ≤ 0 → Rn 228 132 L st T σ K) ∧ (0 < a → Rn 228 115 L st T σ K) := R_if_le (off := 20) (by decide +kernel) (by decide)
theorem s228_115 : Rn 228 115 L st T σ K ↔ Rn 228 123 L st T σ K := R_goto (off := 8) (by decide +kernel) (by decide)
theorem s228_118 : Rn 228 118 [l0, l1, l2, l3, l4, l5, l6, some (vI a)] st T σ K ↔ Rn 228 120 [l0, l1, l2, l3, l4, l5, l6, some (vI a)] (vI a :: st) T σ K := R_iload (n := 7) (by decide +kernel) rfl
theorem s228_120 : Rn 228 120 L (vI a :: st) T σ K ↔ (0 ≤ a → Rn 228 132 L st T σ K) ∧ (a < 0 → Rn 228 123 L st T σ K) := R_if_ge (off := 12) (by decide +kernel) (by decide)
theorem s228_123 : Rn 228 123 [some (vR o), l1, l2, l3, l4, l5, l6, l7] st T σ K ↔ Rn 228 124 [some (vR o), l1, l2, l3, l4, l5, l6, l7] (vR o :: st) T σ K := R_aload_n (n := 0) (by decide +kernel) rfl
theorem s228_124 : Rn 228 124 [l0, l1, l2, l3, l4, l5, some (vI a), l7] st T σ K ↔ Rn 228 126 [l0, l1, l2, l3, l4, l5, some (vI a), l7] (vI a :: st) T σ K := R_iload (n := 6) (by decide +kernel) rfl
theorem s228_126 : Rn 228 126 L (vI a :: vR o :: st) T σ K ↔ sx_kd T o = 9 ∧ Rn 228 129 L st T (sx_up σ o 24 a) K := R_putI (idx := 84) (ci := 9) (k := 24) (by decide +kernel) (by decide +kernel) rfl rfl
theorem s228_129 : Rn 228 129 L st T σ K ↔ Rn 228 152 L st T σ K := R_goto (off := 23) (by decide +kernel) (by decide)
theorem s228_132 : Rn 228 132 [l0, l1, l2, l3, l4, l5, l6, some (vI a)] st T σ K ↔ Rn 228 134 [l0, l1, l2, l3, l4, l5, l6, some (vI a)] (vI a :: st) T σ K := R_iload (n := 7) (by decide +kernel) rfl
theorem s228_134 : Rn 228 134 L (vI a :: st) T σ K ↔ (a ≠ 0 → Rn 228 152 L st T σ K) ∧ (a = 0 → Rn 228 137 L st T σ K) := R_if_ne (off := 18) (by decide +kernel) (by decide)
theorem s228_137 : Rn 228 137 [l0, l1, l2, l3, l4, l5, some (vI a), l7] st T σ K ↔ Rn 228 139 [l0, l1, l2, l3, l4, l5, some (vI a), l7] (vI a :: st) T σ K := R_iload (n := 6) (by decide +kernel) rfl
theorem s228_139 : Rn 228 139 [some (vR o), l1, l2, l3, l4, l5, l6, l7] st T σ K ↔ Rn 228 140 [some (vR o), l1, l2, l3, l4, l5, l6, l7] (vR o :: st) T σ K := R_aload_n (n := 0) (by decide +kernel) rfl
theorem s228_140 : Rn 228 140 L (vR o :: st) T σ K ↔ sx_kd T o = 9 ∧ Rn 228 143 L (vI (σ o 24) :: st) T σ K := R_getI (idx := 84) (ci := 9) (k := 24) (by decide +kernel) (by decide +kernel) (Or.inl rfl)
theorem s228_143 : Rn 228 143 L (vI b :: vI a :: st) T σ K ↔ (b ≤ a → Rn 228 152 L st T σ K) ∧ (a < b → Rn 228 146 L st T σ K) := R_icmp_ge (off := 9) (by decide +kernel) (by decide)
theorem s228_146 : Rn 228 146 [some (vR o), l1, l2, l3, l4, l5, l6, l7] st T σ K ↔ Rn 228 147 [some (vR o), l1, l2, l3, l4, l5, l6, l7] (vR o :: st) T σ K := R_aload_n (n := 0) (by decide +kernel) rfl
theorem s228_147 : Rn 228 147 [l0, l1, l2, l3, l4, l5, some (vI a), l7] st T σ K ↔ Rn 228 149 [l0, l1, l2, l3, l4, l5, some (vI a), l7] (vI a :: st) T σ K := R_iload (n := 6) (by decide +kernel) rfl
theorem s228_149 : Rn 228 149 L (vI a :: vR o :: st) T σ K ↔ sx_kd T o = 9 ∧ Rn 228 152 L st T (sx_up σ o 24 a) K := R_putI (idx := 84) (ci := 9) (k := 24) (by decide +kernel) (by decide +kernel) rfl rfl
theorem s228_152 : Rn 228 152 [l0, l1, l2, l3, l4, l5, some (vI a), l7] st T σ K ↔ inI (a + 1) ∧ Rn 228 155 [l0, l1, l2, l3, l4, l5, some (vI (a + 1)), l7] st T σ K := R_iinc (n := 6) (d := 1) (by decide +kernel) rfl
theorem s228_155 : Rn 228 155 L st T σ K ↔ Rn 228 3 L st T σ K := R_goto (off := -152) (by decide +kernel) (by decide)
theorem s228_158 : Rn 228 158 L [] T σ K ↔ K none T σ := R_retV (by decide +kernel) (by decide +kernel)
theorem s229_0 : Rn 229 0 [some (vR o), l1, l2, l3, l4] st T σ K ↔ Rn 229 1 [some (vR o), l1, l2, l3, l4] (vR o :: st) T σ K := R_aload_n (n := 0) (by decide +kernel) rfl
theorem s229_1 : Rn 229 1 [l0, some (vI a), l2, l3, l4] st T σ K ↔ Rn 229 2 [l0, some (vI a), l2, l3, l4] (vI a :: st) T σ K := R_iload_n (n := 1) (by decide +kernel) rfl
theorem s229_2 : Rn 229 2 [l0, l1, some (vI a), l3, l4] st T σ K ↔ Rn 229 3 [l0, l1, some (vI a), l3, l4] (vI a :: st) T σ K := R_iload_n (n := 2) (by decide +kernel) rfl
theorem s229_3 : Rn 229 3 L (vI b :: vI a :: vR o :: st) T σ K ↔ (sx_kd T o = 9 ∧ st.length ≤ 4) ∧ Rn 230 0 [some (vR o), some (vI a), some (vI b), none, none] [] T σ (fun r T' σ' => Rn 229 6 L (sx_push r st) T' σ' K) := R_V (cm := 230) (n := 2) (idx := 287) (ci := 9) (mx := 5) (vs := [vI a, vI b]) (by decide +kernel) (by decide +kernel) rfl (by decide +kernel) rfl (by decide +kernel) (by decide +kernel)
theorem s229_6 : Rn 229 6 [l0, l1, l2, l3, l4] (vI a :: st) T σ K ↔ Rn 229 8 [l0, l1, l2, l3, some (vI a)] st T σ K := R_istore (n := 4) (by decide +kernel) rfl
theorem s229_8 : Rn 229 8 [some (vR o), l1, l2, l3, l4] st T σ K ↔ Rn 229 9 [some (vR o), l1, l2, l3, l4] (vR o :: st) T σ K := R_aload_n (n := 0) (by decide +kernel) rfl
theorem s229_9 : Rn 229 9 L (vR o :: st) T σ K ↔ sx_kd T o = 9 ∧ ∃ t, sx_rf T o 23 = some t ∧ Rn 229 12 L (vR t :: st) T σ K := R_getR (idx := 81) (ci := 9) (k := 23) (by decide +kernel) (by decide +kernel) rfl
theorem s229_12 : Rn 229 12 [l0, some (vI a), l2, l3, l4] st T σ K ↔ Rn 229 13 [l0, some (vI a), l2, l3, l4] (vI a :: st) T σ K := R_iload_n (n := 1) (by decide +kernel) rfl
theorem s229_13 : Rn 229 13 L st T σ K ↔ Rn 229 14 L (vI 2 :: st) T σ K := R_iconst (n := 2) (by decide +kernel) (by decide)
theorem s229_14 : Rn 229 14 L (vI b :: vI a :: vR o :: st) T σ K ↔ (sx_kd T o = 20 ∧ 0 ≤ a ∧ a < sx_ln T o) ∧ Rn 229 15 L st T (sx_up σ o a b) K := R_iast (by decide +kernel)
theorem s229_15 : Rn 229 15 [l0, l1, l2, l3, some (vI a)] st T σ K ↔ Rn 229 17 [l0, l1, l2, l3, some (vI a)] (vI a :: st) T σ K := R_iload (n := 4) (by decide +kernel) rfl
theorem s229_17 : Rn 229 17 L (vI a :: st) T σ K ↔ (a ≠ 0 → Rn 229 21 L st T σ K) ∧ (a = 0 → Rn 229 20 L st T σ K) := R_if_ne (off := 4) (by decide +kernel) (by decide)
theorem s229_20 : Rn 229 20 L [] T σ K ↔ K none T σ := R_retV (by decide +kernel) (by decide +kernel)
theorem s229_21 : Rn 229 21 [some (vR o), l1, l2, l3, l4] st T σ K ↔ Rn 229 22 [some (vR o), l1, l2, l3, l4] (vR o :: st) T σ K := R_aload_n (n := 0) (by decide +kernel) rfl
theorem s229_22 : Rn 229 22 L (vR o :: st) T σ K ↔ sx_kd T o = 9 ∧ ∃ t, sx_rf T o 31 = some t ∧ Rn 229 25 L (vR t :: st) T σ K := R_getR (idx := 105) (ci := 9) (k := 31) (by decide +kernel) (by decide +kernel) rfl
theorem s229_25 : Rn 229 25 L st T σ K ↔ Rn 229 26 L (vI 4 :: st) T σ K := R_iconst (n := 4) (by decide +kernel) (by decide)
theorem s229_26 : Rn 229 26 [some (vR o), l1, l2, l3, l4] st T σ K ↔ Rn 229 27 [some (vR o), l1, l2, l3, l4] (vR o :: st) T σ K := R_aload_n (n := 0) (by decide +kernel) rfl
theorem s229_27 : Rn 229 27 L (vR o :: st) T σ K ↔ sx_kd T o = 9 ∧ Rn 229 30 L (vI (σ o 30) :: st) T σ K := R_getI (idx := 102) (ci := 9) (k := 30) (by decide +kernel) (by decide +kernel) (Or.inl rfl)
theorem s229_30 : Rn 229 30 L (vI b :: vI a :: st) T σ K ↔ inI (a * b) ∧ Rn 229 31 L (vI (a * b) :: st) T σ K := R_imul (by decide +kernel)
theorem s229_31 : Rn 229 31 [l0, some (vI a), l2, l3, l4] st T σ K ↔ Rn 229 32 [l0, some (vI a), l2, l3, l4] (vI a :: st) T σ K := R_iload_n (n := 1) (by decide +kernel) rfl
theorem s229_32 : Rn 229 32 L (vI b :: vI a :: vR o :: st) T σ K ↔ (sx_kd T o = 20 ∧ 0 ≤ a ∧ a < sx_ln T o) ∧ Rn 229 33 L st T (sx_up σ o a b) K := R_iast (by decide +kernel)
theorem s229_33 : Rn 229 33 [some (vR o), l1, l2, l3, l4] st T σ K ↔ Rn 229 34 [some (vR o), l1, l2, l3, l4] (vR o :: st) T σ K := R_aload_n (n := 0) (by decide +kernel) rfl
theorem s229_34 : Rn 229 34 L (vR o :: st) T σ K ↔ sx_kd T o = 9 ∧ ∃ t, sx_rf T o 31 = some t ∧ Rn 229 37 L (vR t :: st) T σ K := R_getR (idx := 105) (ci := 9) (k := 31) (by decide +kernel) (by decide +kernel) rfl
theorem s229_37 : Rn 229 37 L st T σ K ↔ Rn 229 38 L (vI 4 :: st) T σ K := R_iconst (n := 4) (by decide +kernel) (by decide)
theorem s229_38 : Rn 229 38 [some (vR o), l1, l2, l3, l4] st T σ K ↔ Rn 229 39 [some (vR o), l1, l2, l3, l4] (vR o :: st) T σ K := R_aload_n (n := 0) (by decide +kernel) rfl
theorem s229_39 : Rn 229 39 L (vR o :: st) T σ K ↔ sx_kd T o = 9 ∧ Rn 229 42 L (vI (σ o 30) :: st) T σ K := R_getI (idx := 102) (ci := 9) (k := 30) (by decide +kernel) (by decide +kernel) (Or.inl rfl)
theorem s229_42 : Rn 229 42 L (vI b :: vI a :: st) T σ K ↔ inI (a * b) ∧ Rn 229 43 L (vI (a * b) :: st) T σ K := R_imul (by decide +kernel)
theorem s229_43 : Rn 229 43 L st T σ K ↔ Rn 229 44 L (vI 1 :: st) T σ K := R_iconst (n := 1) (by decide +kernel) (by decide)
theorem s229_44 : Rn 229 44 L (vI b :: vI a :: st) T σ K ↔ inI (a + b) ∧ Rn 229 45 L (vI (a + b) :: st) T σ K := R_iadd (by decide +kernel)
theorem s229_45 : Rn 229 45 [l0, l1, some (vI a), l3, l4] st T σ K ↔ Rn 229 46 [l0, l1, some (vI a), l3, l4] (vI a :: st) T σ K := R_iload_n (n := 2) (by decide +kernel) rfl
theorem s229_46 : Rn 229 46 L (vI b :: vI a :: vR o :: st) T σ K ↔ (sx_kd T o = 20 ∧ 0 ≤ a ∧ a < sx_ln T o) ∧ Rn 229 47 L st T (sx_up σ o a b) K := R_iast (by decide +kernel)
theorem s229_47 : Rn 229 47 [some (vR o), l1, l2, l3, l4] st T σ K ↔ Rn 229 48 [some (vR o), l1, l2, l3, l4] (vR o :: st) T σ K := R_aload_n (n := 0) (by decide +kernel) rfl
theorem s229_48 : Rn 229 48 L (vR o :: st) T σ K ↔ sx_kd T o = 9 ∧ ∃ t, sx_rf T o 31 = some t ∧ Rn 229 51 L (vR t :: st) T σ K := R_getR (idx := 105) (ci := 9) (k := 31) (by decide +kernel) (by decide +kernel) rfl
theorem s229_51 : Rn 229 51 L st T σ K ↔ Rn 229 52 L (vI 4 :: st) T σ K := R_iconst (n := 4) (by decide +kernel) (by decide)
theorem s229_52 : Rn 229 52 [some (vR o), l1, l2, l3, l4] st T σ K ↔ Rn 229 53 [some (vR o), l1, l2, l3, l4] (vR o :: st) T σ K := R_aload_n (n := 0) (by decide +kernel) rfl
theorem s229_53 : Rn 229 53 L (vR o :: st) T σ K ↔ sx_kd T o = 9 ∧ Rn 229 56 L (vI (σ o 30) :: st) T σ K := R_getI (idx := 102) (ci := 9) (k := 30) (by decide +kernel) (by decide +kernel) (Or.inl rfl)
theorem s229_56 : Rn 229 56 L (vI b :: vI a :: st) T σ K ↔ inI (a * b) ∧ Rn 229 57 L (vI (a * b) :: st) T σ K := R_imul (by decide +kernel)
theorem s229_57 : Rn 229 57 L st T σ K ↔ Rn 229 58 L (vI 2 :: st) T σ K := R_iconst (n := 2) (by decide +kernel) (by decide)
theorem s229_58 : Rn 229 58 L (vI b :: vI a :: st) T σ K ↔ inI (a + b) ∧ Rn 229 59 L (vI (a + b) :: st) T σ K := R_iadd (by decide +kernel)
theorem s229_59 : Rn 229 59 [l0, l1, l2, some (vI a), l4] st T σ K ↔ Rn 229 60 [l0, l1, l2, some (vI a), l4] (vI a :: st) T σ K := R_iload_n (n := 3) (by decide +kernel) rfl
theorem s229_60 : Rn 229 60 L (vI b :: vI a :: vR o :: st) T σ K ↔ (sx_kd T o = 20 ∧ 0 ≤ a ∧ a < sx_ln T o) ∧ Rn 229 61 L st T (sx_up σ o a b) K := R_iast (by decide +kernel)
theorem s229_61 : Rn 229 61 [some (vR o), l1, l2, l3, l4] st T σ K ↔ Rn 229 62 [some (vR o), l1, l2, l3, l4] (vR o :: st) T σ K := R_aload_n (n := 0) (by decide +kernel) rfl
theorem s229_62 : Rn 229 62 L (vR o :: st) T σ K ↔ sx_kd T o = 9 ∧ ∃ t, sx_rf T o 31 = some t ∧ Rn 229 65 L (vR t :: st) T σ K := R_getR (idx := 105) (ci := 9) (k := 31) (by decide +kernel) (by decide +kernel) rfl
theorem s229_65 : Rn 229 65 L st T σ K ↔ Rn 229 66 L (vI 4 :: st) T σ K := R_iconst (n := 4) (by decide +kernel) (by decide)
theorem s229_66 : Rn 229 66 [some (vR o), l1, l2, l3, l4] st T σ K ↔ Rn 229 67 [some (vR o), l1, l2, l3, l4] (vR o :: st) T σ K := R_aload_n (n := 0) (by decide +kernel) rfl
theorem s229_67 : Rn 229 67 L (vR o :: st) T σ K ↔ sx_kd T o = 9 ∧ Rn 229 70 L (vI (σ o 30) :: st) T σ K := R_getI (idx := 102) (ci := 9) (k := 30) (by decide +kernel) (by decide +kernel) (Or.inl rfl)
theorem s229_70 : Rn 229 70 L (vI b :: vI a :: st) T σ K ↔ inI (a * b) ∧ Rn 229 71 L (vI (a * b) :: st) T σ K := R_imul (by decide +kernel)
theorem s229_71 : Rn 229 71 L st T σ K ↔ Rn 229 72 L (vI 3 :: st) T σ K := R_iconst (n := 3) (by decide +kernel) (by decide)
theorem s229_72 : Rn 229 72 L (vI b :: vI a :: st) T σ K ↔ inI (a + b) ∧ Rn 229 73 L (vI (a + b) :: st) T σ K := R_iadd (by decide +kernel)
theorem s229_73 : Rn 229 73 [l0, l1, l2, l3, some (vI a)] st T σ K ↔ Rn 229 75 [l0, l1, l2, l3, some (vI a)] (vI a :: st) T σ K := R_iload (n := 4) (by decide +kernel) rfl
theorem s229_75 : Rn 229 75 L (vI b :: vI a :: vR o :: st) T σ K ↔ (sx_kd T o = 20 ∧ 0 ≤ a ∧ a < sx_ln T o) ∧ Rn 229 76 L st T (sx_up σ o a b) K := R_iast (by decide +kernel)
theorem s229_76 : Rn 229 76 [some (vR o), l1, l2, l3, l4] st T σ K ↔ Rn 229 77 [some (vR o), l1, l2, l3, l4] (vR o :: st) T σ K := R_aload_n (n := 0) (by decide +kernel) rfl
theorem s229_77 : Rn 229 77 L (vR o :: st) T σ K ↔ Rn 229 78 L (vR o :: vR o :: st) T σ K := R_dup (v := vR o) (by decide +kernel) rfl
theorem s229_78 : Rn 229 78 L (vR o :: st) T σ K ↔ sx_kd T o = 9 ∧ Rn 229 81 L (vI (σ o 30) :: st) T σ K := R_getI (idx := 102) (ci := 9) (k := 30) (by decide +kernel) (by decide +kernel) (Or.inl rfl)
theorem s229_81 : Rn 229 81 L st T σ K ↔ Rn 229 82 L (vI 1 :: st) T σ K := R_iconst (n := 1) (by decide +kernel) (by decide)
theorem s229_82 : Rn 229 82 L (vI b :: vI a :: st) T σ K ↔ inI (a + b) ∧ Rn 229 83 L (vI (a + b) :: st) T σ K := R_iadd (by decide +kernel)
theorem s229_83 : Rn 229 83 L (vI a :: vR o :: st) T σ K ↔ sx_kd T o = 9 ∧ Rn 229 86 L st T (sx_up σ o 30 a) K := R_putI (idx := 102) (ci := 9) (k := 30) (by decide +kernel) (by decide +kernel) rfl rfl
theorem s229_86 : Rn 229 86 [some (vR o), l1, l2, l3, l4] st T σ K ↔ Rn 229 87 [some (vR o), l1, l2, l3, l4] (vR o :: st) T σ K := R_aload_n (n := 0) (by decide +kernel) rfl
theorem s229_87 : Rn 229 87 L (vR o :: st) T σ K ↔ Rn 229 88 L (vR o :: vR o :: st) T σ K := R_dup (v := vR o) (by decide +kernel) rfl
theorem s229_88 : Rn 229 88 L (vR o :: st) T σ K ↔ sx_kd T o = 9 ∧ Rn 229 91 L (vI (σ o 29) :: st) T σ K := R_getI (idx := 99) (ci := 9) (k := 29) (by decide +kernel) (by decide +kernel) (Or.inl rfl)
theorem s229_91 : Rn 229 91 [l0, l1, l2, l3, some (vI a)] st T σ K ↔ Rn 229 93 [l0, l1, l2, l3, some (vI a)] (vI a :: st) T σ K := R_iload (n := 4) (by decide +kernel) rfl
theorem s229_93 : Rn 229 93 L (vI b :: vI a :: st) T σ K ↔ inI (a + b) ∧ Rn 229 94 L (vI (a + b) :: st) T σ K := R_iadd (by decide +kernel)
theorem s229_94 : Rn 229 94 L (vI a :: vR o :: st) T σ K ↔ sx_kd T o = 9 ∧ Rn 229 97 L st T (sx_up σ o 29 a) K := R_putI (idx := 99) (ci := 9) (k := 29) (by decide +kernel) (by decide +kernel) rfl rfl
theorem s229_97 : Rn 229 97 L [] T σ K ↔ K none T σ := R_retV (by decide +kernel) (by decide +kernel)
theorem s230_0 : Rn 230 0 L st T σ K ↔ Rn 230 1 L (vI 0 :: st) T σ K := R_iconst (n := 0) (by decide +kernel) (by decide)
theorem s230_1 : Rn 230 1 [l0, l1, l2, l3, l4] (vI a :: st) T σ K ↔ Rn 230 2 [l0, l1, l2, some (vI a), l4] st T σ K := R_istore_n (n := 3) (by decide +kernel) rfl
theorem s230_2 : Rn 230 2 L st T σ K ↔ Rn 230 3 L (vI 0 :: st) T σ K := R_iconst (n := 0) (by decide +kernel) (by decide)
theorem s230_3 : Rn 230 3 [l0, l1, l2, l3, l4] (vI a :: st) T σ K ↔ Rn 230 5 [l0, l1, l2, l3, some (vI a)] st T σ K := R_istore (n := 4) (by decide +kernel) rfl
theorem s230_5 : Rn 230 5 [l0, l1, l2, l3, some (vI a)] st T σ K ↔ Rn 230 7 [l0, l1, l2, l3, some (vI a)] (vI a :: st) T σ K := R_iload (n := 4) (by decide +kernel) rfl
theorem s230_7 : Rn 230 7 L st T σ K ↔ Rn 230 9 L (vI 40 :: st) T σ K := R_bipush (n := 40) (by decide +kernel) (by decide +kernel)
theorem s230_9 : Rn 230 9 L (vI b :: vI a :: st) T σ K ↔ (b ≤ a → Rn 230 37 L st T σ K) ∧ (a < b → Rn 230 12 L st T σ K) := R_icmp_ge (off := 28) (by decide +kernel) (by decide)
theorem s230_12 : Rn 230 12 [l0, l1, l2, some (vI a), l4] st T σ K ↔ Rn 230 13 [l0, l1, l2, some (vI a), l4] (vI a :: st) T σ K := R_iload_n (n := 3) (by decide +kernel) rfl
theorem s230_13 : Rn 230 13 [some (vR o), l1, l2, l3, l4] st T σ K ↔ Rn 230 14 [some (vR o), l1, l2, l3, l4] (vR o :: st) T σ K := R_aload_n (n := 0) (by decide +kernel) rfl
theorem s230_14 : Rn 230 14 [l0, l1, l2, l3, some (vI a)] st T σ K ↔ Rn 230 16 [l0, l1, l2, l3, some (vI a)] (vI a :: st) T σ K := R_iload (n := 4) (by decide +kernel) rfl
theorem s230_16 : Rn 230 16 [l0, some (vI a), l2, l3, l4] st T σ K ↔ Rn 230 17 [l0, some (vI a), l2, l3, l4] (vI a :: st) T σ K := R_iload_n (n := 1) (by decide +kernel) rfl
theorem s230_17 : Rn 230 17 [l0, l1, some (vI a), l3, l4] st T σ K ↔ Rn 230 18 [l0, l1, some (vI a), l3, l4] (vI a :: st) T σ K := R_iload_n (n := 2) (by decide +kernel) rfl
theorem s230_18 : Rn 230 18 L (vI c :: vI b :: vI a :: vR o :: st) T σ K ↔ (sx_kd T o = 9 ∧ st.length ≤ 4) ∧ Rn 231 0 [some (vR o), some (vI a), some (vI b), some (vI c), none] [] T σ (fun r T' σ' => Rn 230 21 L (sx_push r st) T' σ' K) := R_V (cm := 231) (n := 3) (idx := 284) (ci := 9) (mx := 5) (vs := [vI a, vI b, vI c]) (by decide +kernel) (by decide +kernel) rfl (by decide +kernel) rfl (by decide +kernel) (by decide +kernel)
theorem s230_21 : Rn 230 21 L (vI a :: st) T σ K ↔ (a = 0 → Rn 230 28 L st T σ K) ∧ (a ≠ 0 → Rn 230 24 L st T σ K) := R_if_eq (off := 7) (by decide +kernel) (by decide)
theorem s230_24 : Rn 230 24 L st T σ K ↔ Rn 230 25 L (vI 1 :: st) T σ K := R_iconst (n := 1) (by decide +kernel) (by decide)
theorem s230_25 : Rn 230 25 L st T σ K ↔ Rn 230 29 L st T σ K := R_goto (off := 4) (by decide +kernel) (by decide)
theorem s230_28 : Rn 230 28 L st T σ K ↔ Rn 230 29 L (vI 0 :: st) T σ K := R_iconst (n := 0) (by decide +kernel) (by decide)
theorem s230_29 : Rn 230 29 L (vI b :: vI a :: st) T σ K ↔ inI (a + b) ∧ Rn 230 30 L (vI (a + b) :: st) T σ K := R_iadd (by decide +kernel)
theorem s230_30 : Rn 230 30 [l0, l1, l2, l3, l4] (vI a :: st) T σ K ↔ Rn 230 31 [l0, l1, l2, some (vI a), l4] st T σ K := R_istore_n (n := 3) (by decide +kernel) rfl
theorem s230_31 : Rn 230 31 [l0, l1, l2, l3, some (vI a)] st T σ K ↔ inI (a + 1) ∧ Rn 230 34 [l0, l1, l2, l3, some (vI (a + 1))] st T σ K := R_iinc (n := 4) (d := 1) (by decide +kernel) rfl
theorem s230_34 : Rn 230 34 L st T σ K ↔ Rn 230 5 L st T σ K := R_goto (off := -29) (by decide +kernel) (by decide)
theorem s230_37 : Rn 230 37 [l0, l1, l2, some (vI a), l4] st T σ K ↔ Rn 230 38 [l0, l1, l2, some (vI a), l4] (vI a :: st) T σ K := R_iload_n (n := 3) (by decide +kernel) rfl
theorem s230_38 : Rn 230 38 L [vI a] T σ K ↔ K (some (vI a)) T σ := R_ret (by decide +kernel) (by decide +kernel)
theorem s231_0 : Rn 231 0 [some (vR o), l1, l2, l3, l4] st T σ K ↔ Rn 231 1 [some (vR o), l1, l2, l3, l4] (vR o :: st) T σ K := R_aload_n (n := 0) (by decide +kernel) rfl
theorem s231_1 : Rn 231 1 L (vR o :: st) T σ K ↔ sx_kd T o = 9 ∧ ∃ t, sx_rf T o 0 = some t ∧ Rn 231 4 L (vR t :: st) T σ K := R_getR (idx := 7) (ci := 9) (k := 0) (by decide +kernel) (by decide +kernel) rfl
theorem s231_4 : Rn 231 4 L st T σ K ↔ Rn 231 5 L (vI 0 :: st) T σ K := R_iconst (n := 0) (by decide +kernel) (by decide)
theorem s231_5 : Rn 231 5 [l0, some (vI a), l2, l3, l4] st T σ K ↔ Rn 231 6 [l0, some (vI a), l2, l3, l4] (vI a :: st) T σ K := R_iload_n (n := 1) (by decide +kernel) rfl
theorem s231_6 : Rn 231 6 L (vI b :: vI a :: st) T σ K ↔ inI (a + b) ∧ Rn 231 7 L (vI (a + b) :: st) T σ K := R_iadd (by decide +kernel)
theorem s231_7 : Rn 231 7 L (vI a :: vR o :: st) T σ K ↔ (sx_kd T o = 20 ∧ 0 ≤ a ∧ a < sx_ln T o) ∧ Rn 231 8 L (vI (σ o a) :: st) T σ K := R_iald (by decide +kernel) (by decide)
theorem s231_8 : Rn 231 8 L (vI a :: st) T σ K ↔ (a ≠ 0 → Rn 231 13 L st T σ K) ∧ (a = 0 → Rn 231 11 L st T σ K) := R_if_ne (off := 5) (by decide +kernel) (by decide)
theorem s231_11 : Rn 231 11 L st T σ K ↔ Rn 231 12 L (vI 0 :: st) T σ K := R_iconst (n := 0) (by decide +kernel) (by decide)
theorem s231_12 : Rn 231 12 L [vI a] T σ K ↔ (a = 0 ∨ a = 1) ∧ K (some (vI a)) T σ := R_retZ (by decide +kernel) (by decide +kernel)
theorem s231_13 : Rn 231 13 [l0, some (vI a), l2, l3, l4] st T σ K ↔ Rn 231 14 [l0, some (vI a), l2, l3, l4] (vI a :: st) T σ K := R_iload_n (n := 1) (by decide +kernel) rfl
theorem s231_14 : Rn 231 14 [l0, l1, l2, l3, l4] (vI a :: st) T σ K ↔ Rn 231 16 [l0, l1, l2, l3, some (vI a)] st T σ K := R_istore (n := 4) (by decide +kernel) rfl
theorem s231_16 : Rn 231 16 [some (vR o), l1, l2, l3, l4] st T σ K ↔ Rn 231 17 [some (vR o), l1, l2, l3, l4] (vR o :: st) T σ K := R_aload_n (n := 0) (by decide +kernel) rfl
theorem s231_17 : Rn 231 17 L (vR o :: st) T σ K ↔ sx_kd T o = 9 ∧ ∃ t, sx_rf T o 0 = some t ∧ Rn 231 20 L (vR t :: st) T σ K := R_getR (idx := 7) (ci := 9) (k := 0) (by decide +kernel) (by decide +kernel) rfl
theorem s231_20 : Rn 231 20 L st T σ K ↔ Rn 231 23 L (vI 160 :: st) T σ K := R_sipush (n := 160) (by decide +kernel) (by decide +kernel)
theorem s231_23 : Rn 231 23 [l0, l1, l2, l3, some (vI a)] st T σ K ↔ Rn 231 25 [l0, l1, l2, l3, some (vI a)] (vI a :: st) T σ K := R_iload (n := 4) (by decide +kernel) rfl
theorem s231_25 : Rn 231 25 L (vI b :: vI a :: st) T σ K ↔ inI (a + b) ∧ Rn 231 26 L (vI (a + b) :: st) T σ K := R_iadd (by decide +kernel)
theorem s231_26 : Rn 231 26 L (vI a :: vR o :: st) T σ K ↔ (sx_kd T o = 20 ∧ 0 ≤ a ∧ a < sx_ln T o) ∧ Rn 231 27 L (vI (σ o a) :: st) T σ K := R_iald (by decide +kernel) (by decide)
theorem s231_27 : Rn 231 27 L st T σ K ↔ Rn 231 29 L (vI 10 :: st) T σ K := R_bipush (n := 10) (by decide +kernel) (by decide +kernel)
theorem s231_29 : Rn 231 29 L (vI b :: vI a :: st) T σ K ↔ (b ≤ a → Rn 231 63 L st T σ K) ∧ (a < b → Rn 231 32 L st T σ K) := R_icmp_ge (off := 34) (by decide +kernel) (by decide)
theorem s231_32 : Rn 231 32 [some (vR o), l1, l2, l3, l4] st T σ K ↔ Rn 231 33 [some (vR o), l1, l2, l3, l4] (vR o :: st) T σ K := R_aload_n (n := 0) (by decide +kernel) rfl
theorem s231_33 : Rn 231 33 L (vR o :: st) T σ K ↔ sx_kd T o = 9 ∧ ∃ t, sx_rf T o 0 = some t ∧ Rn 231 36 L (vR t :: st) T σ K := R_getR (idx := 7) (ci := 9) (k := 0) (by decide +kernel) (by decide +kernel) rfl
theorem s231_36 : Rn 231 36 L st T σ K ↔ Rn 231 39 L (vI 200 :: st) T σ K := R_sipush (n := 200) (by decide +kernel) (by decide +kernel)
theorem s231_39 : Rn 231 39 [l0, l1, l2, l3, some (vI a)] st T σ K ↔ Rn 231 41 [l0, l1, l2, l3, some (vI a)] (vI a :: st) T σ K := R_iload (n := 4) (by decide +kernel) rfl
theorem s231_41 : Rn 231 41 L (vI b :: vI a :: st) T σ K ↔ inI (a + b) ∧ Rn 231 42 L (vI (a + b) :: st) T σ K := R_iadd (by decide +kernel)
theorem s231_42 : Rn 231 42 L (vI a :: vR o :: st) T σ K ↔ (sx_kd T o = 20 ∧ 0 ≤ a ∧ a < sx_ln T o) ∧ Rn 231 43 L (vI (σ o a) :: st) T σ K := R_iald (by decide +kernel) (by decide)
theorem s231_43 : Rn 231 43 [l0, l1, some (vI a), l3, l4] st T σ K ↔ Rn 231 44 [l0, l1, some (vI a), l3, l4] (vI a :: st) T σ K := R_iload_n (n := 2) (by decide +kernel) rfl
theorem s231_44 : Rn 231 44 L (vI b :: vI a :: st) T σ K ↔ (a = b → Rn 231 63 L st T σ K) ∧ (a ≠ b → Rn 231 47 L st T σ K) := R_icmp_eq (off := 19) (by decide +kernel) (by decide)
theorem s231_47 : Rn 231 47 [some (vR o), l1, l2, l3, l4] st T σ K ↔ Rn 231 48 [some (vR o), l1, l2, l3, l4] (vR o :: st) T σ K := R_aload_n (n := 0) (by decide +kernel) rfl
theorem s231_48 : Rn 231 48 L (vR o :: st) T σ K ↔ sx_kd T o = 9 ∧ ∃ t, sx_rf T o 0 = some t ∧ Rn 231 51 L (vR t :: st) T σ K := R_getR (idx := 7) (ci := 9) (k := 0) (by decide +kernel) (by decide +kernel) rfl
theorem s231_51 : Rn 231 51 L st T σ K ↔ Rn 231 54 L (vI 200 :: st) T σ K := R_sipush (n := 200) (by decide +kernel) (by decide +kernel)
theorem s231_54 : Rn 231 54 [l0, l1, l2, l3, some (vI a)] st T σ K ↔ Rn 231 56 [l0, l1, l2, l3, some (vI a)] (vI a :: st) T σ K := R_iload (n := 4) (by decide +kernel) rfl
theorem s231_56 : Rn 231 56 L (vI b :: vI a :: st) T σ K ↔ inI (a + b) ∧ Rn 231 57 L (vI (a + b) :: st) T σ K := R_iadd (by decide +kernel)
theorem s231_57 : Rn 231 57 L (vI a :: vR o :: st) T σ K ↔ (sx_kd T o = 20 ∧ 0 ≤ a ∧ a < sx_ln T o) ∧ Rn 231 58 L (vI (σ o a) :: st) T σ K := R_iald (by decide +kernel) (by decide)
theorem s231_58 : Rn 231 58 [l0, l1, l2, l3, l4] (vI a :: st) T σ K ↔ Rn 231 60 [l0, l1, l2, l3, some (vI a)] st T σ K := R_istore (n := 4) (by decide +kernel) rfl
theorem s231_60 : Rn 231 60 L st T σ K ↔ Rn 231 16 L st T σ K := R_goto (off := -44) (by decide +kernel) (by decide)
theorem s231_63 : Rn 231 63 [some (vR o), l1, l2, l3, l4] st T σ K ↔ Rn 231 64 [some (vR o), l1, l2, l3, l4] (vR o :: st) T σ K := R_aload_n (n := 0) (by decide +kernel) rfl
theorem s231_64 : Rn 231 64 L (vR o :: st) T σ K ↔ sx_kd T o = 9 ∧ ∃ t, sx_rf T o 0 = some t ∧ Rn 231 67 L (vR t :: st) T σ K := R_getR (idx := 7) (ci := 9) (k := 0) (by decide +kernel) (by decide +kernel) rfl
theorem s231_67 : Rn 231 67 L st T σ K ↔ Rn 231 70 L (vI 160 :: st) T σ K := R_sipush (n := 160) (by decide +kernel) (by decide +kernel)
theorem s231_70 : Rn 231 70 [l0, l1, l2, l3, some (vI a)] st T σ K ↔ Rn 231 72 [l0, l1, l2, l3, some (vI a)] (vI a :: st) T σ K := R_iload (n := 4) (by decide +kernel) rfl
theorem s231_72 : Rn 231 72 L (vI b :: vI a :: st) T σ K ↔ inI (a + b) ∧ Rn 231 73 L (vI (a + b) :: st) T σ K := R_iadd (by decide +kernel)
theorem s231_73 : Rn 231 73 L (vI a :: vR o :: st) T σ K ↔ (sx_kd T o = 20 ∧ 0 ≤ a ∧ a < sx_ln T o) ∧ Rn 231 74 L (vI (σ o a) :: st) T σ K := R_iald (by decide +kernel) (by decide)
theorem s231_74 : Rn 231 74 [l0, l1, l2, some (vI a), l4] st T σ K ↔ Rn 231 75 [l0, l1, l2, some (vI a), l4] (vI a :: st) T σ K := R_iload_n (n := 3) (by decide +kernel) rfl
theorem s231_75 : Rn 231 75 L st T σ K ↔ Rn 231 76 L (vI 1 :: st) T σ K := R_iconst (n := 1) (by decide +kernel) (by decide)
theorem s231_76 : Rn 231 76 L (vI b :: vI a :: st) T σ K ↔ inI (a - b) ∧ Rn 231 77 L (vI (a - b) :: st) T σ K := R_isub (by decide +kernel)
theorem s231_77 : Rn 231 77 L (vI b :: vI a :: st) T σ K ↔ (b ≤ a → Rn 231 99 L st T σ K) ∧ (a < b → Rn 231 80 L st T σ K) := R_icmp_ge (off := 22) (by decide +kernel) (by decide)
theorem s231_80 : Rn 231 80 [some (vR o), l1, l2, l3, l4] st T σ K ↔ Rn 231 81 [some (vR o), l1, l2, l3, l4] (vR o :: st) T σ K := R_aload_n (n := 0) (by decide +kernel) rfl
theorem s231_81 : Rn 231 81 L (vR o :: st) T σ K ↔ sx_kd T o = 9 ∧ ∃ t, sx_rf T o 0 = some t ∧ Rn 231 84 L (vR t :: st) T σ K := R_getR (idx := 7) (ci := 9) (k := 0) (by decide +kernel) (by decide +kernel) rfl
theorem s231_84 : Rn 231 84 L st T σ K ↔ Rn 231 87 L (vI 200 :: st) T σ K := R_sipush (n := 200) (by decide +kernel) (by decide +kernel)
theorem s231_87 : Rn 231 87 [l0, l1, l2, l3, some (vI a)] st T σ K ↔ Rn 231 89 [l0, l1, l2, l3, some (vI a)] (vI a :: st) T σ K := R_iload (n := 4) (by decide +kernel) rfl
theorem s231_89 : Rn 231 89 L (vI b :: vI a :: st) T σ K ↔ inI (a + b) ∧ Rn 231 90 L (vI (a + b) :: st) T σ K := R_iadd (by decide +kernel)
theorem s231_90 : Rn 231 90 L (vI a :: vR o :: st) T σ K ↔ (sx_kd T o = 20 ∧ 0 ≤ a ∧ a < sx_ln T o) ∧ Rn 231 91 L (vI (σ o a) :: st) T σ K := R_iald (by decide +kernel) (by decide)
theorem s231_91 : Rn 231 91 [l0, l1, some (vI a), l3, l4] st T σ K ↔ Rn 231 92 [l0, l1, some (vI a), l3, l4] (vI a :: st) T σ K := R_iload_n (n := 2) (by decide +kernel) rfl
theorem s231_92 : Rn 231 92 L (vI b :: vI a :: st) T σ K ↔ (a ≠ b → Rn 231 99 L st T σ K) ∧ (a = b → Rn 231 95 L st T σ K) := R_icmp_ne (off := 7) (by decide +kernel) (by decide)
theorem s231_95 : Rn 231 95 L st T σ K ↔ Rn 231 96 L (vI 1 :: st) T σ K := R_iconst (n := 1) (by decide +kernel) (by decide)
theorem s231_96 : Rn 231 96 L st T σ K ↔ Rn 231 100 L st T σ K := R_goto (off := 4) (by decide +kernel) (by decide)
theorem s231_99 : Rn 231 99 L st T σ K ↔ Rn 231 100 L (vI 0 :: st) T σ K := R_iconst (n := 0) (by decide +kernel) (by decide)
theorem s231_100 : Rn 231 100 L [vI a] T σ K ↔ (a = 0 ∨ a = 1) ∧ K (some (vI a)) T σ := R_retZ (by decide +kernel) (by decide +kernel)
theorem s232_0 : Rn 232 0 [some (vR o), l1] st T σ K ↔ Rn 232 1 [some (vR o), l1] (vR o :: st) T σ K := R_aload_n (n := 0) (by decide +kernel) rfl
theorem s232_1 : Rn 232 1 L (vR o :: st) T σ K ↔ sx_kd T o = 9 ∧ Rn 232 4 L (vI (σ o 26) :: st) T σ K := R_getI (idx := 90) (ci := 9) (k := 26) (by decide +kernel) (by decide +kernel) (Or.inr rfl)
theorem s232_4 : Rn 232 4 L (vI a :: st) T σ K ↔ (a ≠ 0 → Rn 232 9 L st T σ K) ∧ (a = 0 → Rn 232 7 L st T σ K) := R_if_ne (off := 5) (by decide +kernel) (by decide)
theorem s232_7 : Rn 232 7 L st T σ K ↔ Rn 232 8 L (vI (-1) :: st) T σ K := R_iconst (n := -1) (by decide +kernel) (by decide)
theorem s232_8 : Rn 232 8 L [vI a] T σ K ↔ K (some (vI a)) T σ := R_ret (by decide +kernel) (by decide +kernel)
theorem s232_9 : Rn 232 9 [l0, some (vI a)] st T σ K ↔ Rn 232 10 [l0, some (vI a)] (vI a :: st) T σ K := R_iload_n (n := 1) (by decide +kernel) rfl
theorem s232_10 : Rn 232 10 L (vI a :: st) T σ K ↔ (a ≠ 0 → Rn 232 20 L st T σ K) ∧ (a = 0 → Rn 232 13 L st T σ K) := R_if_ne (off := 10) (by decide +kernel) (by decide)
theorem s232_13 : Rn 232 13 [some (vR o), l1] st T σ K ↔ Rn 232 14 [some (vR o), l1] (vR o :: st) T σ K := R_aload_n (n := 0) (by decide +kernel) rfl
theorem s232_14 : Rn 232 14 L (vR o :: st) T σ K ↔ sx_kd T o = 9 ∧ Rn 232 17 L (vI (σ o 27) :: st) T σ K := R_getI (idx := 93) (ci := 9) (k := 27) (by decide +kernel) (by decide +kernel) (Or.inl rfl)
theorem s232_17 : Rn 232 17 L st T σ K ↔ Rn 232 57 L st T σ K := R_goto (off := 40) (by decide +kernel) (by decide)
theorem s232_20 : Rn 232 20 [l0, some (vI a)] st T σ K ↔ Rn 232 21 [l0, some (vI a)] (vI a :: st) T σ K := R_iload_n (n := 1) (by decide +kernel) rfl
theorem s232_21 : Rn 232 21 L st T σ K ↔ Rn 232 22 L (vI 1 :: st) T σ K := R_iconst (n := 1) (by decide +kernel) (by decide)
theorem s232_22 : Rn 232 22 L (vI b :: vI a :: st) T σ K ↔ (a ≠ b → Rn 232 32 L st T σ K) ∧ (a = b → Rn 232 25 L st T σ K) := R_icmp_ne (off := 10) (by decide +kernel) (by decide)
theorem s232_25 : Rn 232 25 [some (vR o), l1] st T σ K ↔ Rn 232 26 [some (vR o), l1] (vR o :: st) T σ K := R_aload_n (n := 0) (by decide +kernel) rfl
theorem s232_26 : Rn 232 26 L (vR o :: st) T σ K ↔ sx_kd T o = 9 ∧ Rn 232 29 L (vI (σ o 28) :: st) T σ K := R_getI (idx := 96) (ci := 9) (k := 28) (by decide +kernel) (by decide +kernel) (Or.inl rfl)
theorem s232_29 : Rn 232 29 L st T σ K ↔ Rn 232 57 L st T σ K := R_goto (off := 28) (by decide +kernel) (by decide)
theorem s232_32 : Rn 232 32 [l0, some (vI a)] st T σ K ↔ Rn 232 33 [l0, some (vI a)] (vI a :: st) T σ K := R_iload_n (n := 1) (by decide +kernel) rfl
theorem s232_33 : Rn 232 33 L st T σ K ↔ Rn 232 34 L (vI 2 :: st) T σ K := R_iconst (n := 2) (by decide +kernel) (by decide)
theorem s232_34 : Rn 232 34 L (vI b :: vI a :: st) T σ K ↔ (a ≠ b → Rn 232 44 L st T σ K) ∧ (a = b → Rn 232 37 L st T σ K) := R_icmp_ne (off := 10) (by decide +kernel) (by decide)
theorem s232_37 : Rn 232 37 [some (vR o), l1] st T σ K ↔ Rn 232 38 [some (vR o), l1] (vR o :: st) T σ K := R_aload_n (n := 0) (by decide +kernel) rfl
theorem s232_38 : Rn 232 38 L (vR o :: st) T σ K ↔ sx_kd T o = 9 ∧ Rn 232 41 L (vI (σ o 30) :: st) T σ K := R_getI (idx := 102) (ci := 9) (k := 30) (by decide +kernel) (by decide +kernel) (Or.inl rfl)
theorem s232_41 : Rn 232 41 L st T σ K ↔ Rn 232 57 L st T σ K := R_goto (off := 16) (by decide +kernel) (by decide)
theorem s232_44 : Rn 232 44 [l0, some (vI a)] st T σ K ↔ Rn 232 45 [l0, some (vI a)] (vI a :: st) T σ K := R_iload_n (n := 1) (by decide +kernel) rfl
theorem s232_45 : Rn 232 45 L st T σ K ↔ Rn 232 46 L (vI 3 :: st) T σ K := R_iconst (n := 3) (by decide +kernel) (by decide)
theorem s232_46 : Rn 232 46 L (vI b :: vI a :: st) T σ K ↔ (a ≠ b → Rn 232 56 L st T σ K) ∧ (a = b → Rn 232 49 L st T σ K) := R_icmp_ne (off := 10) (by decide +kernel) (by decide)
theorem s232_49 : Rn 232 49 [some (vR o), l1] st T σ K ↔ Rn 232 50 [some (vR o), l1] (vR o :: st) T σ K := R_aload_n (n := 0) (by decide +kernel) rfl
theorem s232_50 : Rn 232 50 L (vR o :: st) T σ K ↔ sx_kd T o = 9 ∧ Rn 232 53 L (vI (σ o 29) :: st) T σ K := R_getI (idx := 99) (ci := 9) (k := 29) (by decide +kernel) (by decide +kernel) (Or.inl rfl)
theorem s232_53 : Rn 232 53 L st T σ K ↔ Rn 232 57 L st T σ K := R_goto (off := 4) (by decide +kernel) (by decide)
theorem s232_56 : Rn 232 56 L st T σ K ↔ Rn 232 57 L (vI (-1) :: st) T σ K := R_iconst (n := -1) (by decide +kernel) (by decide)
theorem s232_57 : Rn 232 57 L [vI a] T σ K ↔ K (some (vI a)) T σ := R_ret (by decide +kernel) (by decide +kernel)
theorem s233_0 : Rn 233 0 [l0, some (vI a), l2] st T σ K ↔ Rn 233 1 [l0, some (vI a), l2] (vI a :: st) T σ K := R_iload_n (n := 1) (by decide +kernel) rfl
theorem s233_1 : Rn 233 1 L st T σ K ↔ Rn 233 2 L (vI 0 :: st) T σ K := R_iconst (n := 0) (by decide +kernel) (by decide)
theorem s233_2 : Rn 233 2 [some (vR o), l1, l2] st T σ K ↔ Rn 233 3 [some (vR o), l1, l2] (vR o :: st) T σ K := R_aload_n (n := 0) (by decide +kernel) rfl
theorem s233_3 : Rn 233 3 L (vR o :: st) T σ K ↔ sx_kd T o = 9 ∧ Rn 233 6 L (vI (σ o 30) :: st) T σ K := R_getI (idx := 102) (ci := 9) (k := 30) (by decide +kernel) (by decide +kernel) (Or.inl rfl)
theorem s233_6 : Rn 233 6 L st T σ K ↔ Rn 233 7 L (vI 1 :: st) T σ K := R_iconst (n := 1) (by decide +kernel) (by decide)
theorem s233_7 : Rn 233 7 L (vI b :: vI a :: st) T σ K ↔ inI (a - b) ∧ Rn 233 8 L (vI (a - b) :: st) T σ K := R_isub (by decide +kernel)
theorem s233_8 : Rn 233 8 L (vI c :: vI b :: vI a :: st) T σ K ↔ st.length ≤ 4 ∧ Rn 185 0 [some (vI a), some (vI b), some (vI c)] [] T σ (fun r T' σ' => Rn 233 11 L (sx_push r st) T' σ' K) := R_S (cm := 185) (n := 3) (idx := 189) (mx := 3) (vs := [vI a, vI b, vI c]) (by decide +kernel) (Or.inl (by decide +kernel)) rfl (by decide +kernel) rfl (by decide +kernel)
theorem s233_11 : Rn 233 11 L (vI a :: st) T σ K ↔ (a = 0 → Rn 233 36 L st T σ K) ∧ (a ≠ 0 → Rn 233 14 L st T σ K) := R_if_eq (off := 25) (by decide +kernel) (by decide)
theorem s233_14 : Rn 233 14 [l0, l1, some (vI a)] st T σ K ↔ Rn 233 15 [l0, l1, some (vI a)] (vI a :: st) T σ K := R_iload_n (n := 2) (by decide +kernel) rfl
theorem s233_15 : Rn 233 15 L st T σ K ↔ Rn 233 16 L (vI 0 :: st) T σ K := R_iconst (n := 0) (by decide +kernel) (by decide)
theorem s233_16 : Rn 233 16 L st T σ K ↔ Rn 233 17 L (vI 3 :: st) T σ K := R_iconst (n := 3) (by decide +kernel) (by decide)
theorem s233_17 : Rn 233 17 L (vI c :: vI b :: vI a :: st) T σ K ↔ st.length ≤ 4 ∧ Rn 185 0 [some (vI a), some (vI b), some (vI c)] [] T σ (fun r T' σ' => Rn 233 20 L (sx_push r st) T' σ' K) := R_S (cm := 185) (n := 3) (idx := 189) (mx := 3) (vs := [vI a, vI b, vI c]) (by decide +kernel) (Or.inl (by decide +kernel)) rfl (by decide +kernel) rfl (by decide +kernel)
theorem s233_20 : Rn 233 20 L (vI a :: st) T σ K ↔ (a = 0 → Rn 233 36 L st T σ K) ∧ (a ≠ 0 → Rn 233 23 L st T σ K) := R_if_eq (off := 16) (by decide +kernel) (by decide)
theorem s233_23 : Rn 233 23 [some (vR o), l1, l2] st T σ K ↔ Rn 233 24 [some (vR o), l1, l2] (vR o :: st) T σ K := R_aload_n (n := 0) (by decide +kernel) rfl
theorem s233_24 : Rn 233 24 L (vR o :: st) T σ K ↔ sx_kd T o = 9 ∧ ∃ t, sx_rf T o 31 = some t ∧ Rn 233 27 L (vR t :: st) T σ K := R_getR (idx := 105) (ci := 9) (k := 31) (by decide +kernel) (by decide +kernel) rfl
theorem s233_27 : Rn 233 27 L st T σ K ↔ Rn 233 28 L (vI 4 :: st) T σ K := R_iconst (n := 4) (by decide +kernel) (by decide)
theorem s233_28 : Rn 233 28 [l0, some (vI a), l2] st T σ K ↔ Rn 233 29 [l0, some (vI a), l2] (vI a :: st) T σ K := R_iload_n (n := 1) (by decide +kernel) rfl
theorem s233_29 : Rn 233 29 L (vI b :: vI a :: st) T σ K ↔ inI (a * b) ∧ Rn 233 30 L (vI (a * b) :: st) T σ K := R_imul (by decide +kernel)
theorem s233_30 : Rn 233 30 [l0, l1, some (vI a)] st T σ K ↔ Rn 233 31 [l0, l1, some (vI a)] (vI a :: st) T σ K := R_iload_n (n := 2) (by decide +kernel) rfl
theorem s233_31 : Rn 233 31 L (vI b :: vI a :: st) T σ K ↔ inI (a + b) ∧ Rn 233 32 L (vI (a + b) :: st) T σ K := R_iadd (by decide +kernel)
theorem s233_32 : Rn 233 32 L (vI a :: vR o :: st) T σ K ↔ (sx_kd T o = 20 ∧ 0 ≤ a ∧ a < sx_ln T o) ∧ Rn 233 33 L (vI (σ o a) :: st) T σ K := R_iald (by decide +kernel) (by decide)
theorem s233_33 : Rn 233 33 L st T σ K ↔ Rn 233 37 L st T σ K := R_goto (off := 4) (by decide +kernel) (by decide)
theorem s233_36 : Rn 233 36 L st T σ K ↔ Rn 233 37 L (vI (-1) :: st) T σ K := R_iconst (n := -1) (by decide +kernel) (by decide)
theorem s233_37 : Rn 233 37 L [vI a] T σ K ↔ K (some (vI a)) T σ := R_ret (by decide +kernel) (by decide +kernel)
theorem s234_0 : Rn 234 0 [some (vR o), l1, l2, l3, l4, l5, l6, l7, l8, l9] st T σ K ↔ Rn 234 1 [some (vR o), l1, l2, l3, l4, l5, l6, l7, l8, l9] (vR o :: st) T σ K := R_aload_n (n := 0) (by decide +kernel) rfl
theorem s234_1 : Rn 234 1 L (vR o :: st) T σ K ↔ (sx_kd T o = 9 ∧ st.length ≤ 4) ∧ Rn 174 0 [some (vR o), none] [] T σ (fun r T' σ' => Rn 234 4 L (sx_push r st) T' σ' K) := R_V (cm := 174) (n := 0) (idx := 199) (ci := 9) (mx := 2) (vs := []) (by decide +kernel) (by decide +kernel) rfl (by decide +kernel) rfl (by decide +kernel) (by decide +kernel)
theorem s234_4 : Rn 234 4 [l0, l1, l2, l3, l4, l5, l6, l7, l8, l9] (vI a :: st) T σ K ↔ Rn 234 6 [l0, l1, l2, l3, l4, some (vI a), l6, l7, l8, l9] st T σ K := R_istore (n := 5) (by decide +kernel) rfl
theorem s234_6 : Rn 234 6 [l0, some (vI a), l2, l3, l4, l5, l6, l7, l8, l9] st T σ K ↔ Rn 234 7 [l0, some (vI a), l2, l3, l4, l5, l6, l7, l8, l9] (vI a :: st) T σ K := R_iload_n (n := 1) (by decide +kernel) rfl
theorem s234_7 : Rn 234 7 [l0, l1, some (vI a), l3, l4, l5, l6, l7, l8, l9] st T σ K ↔ Rn 234 8 [l0, l1, some (vI a), l3, l4, l5, l6, l7, l8, l9] (vI a :: st) T σ K := R_iload_n (n := 2) (by decide +kernel) rfl
theorem s234_8 : Rn 234 8 [l0, l1, l2, some (vI a), l4, l5, l6, l7, l8, l9] st T σ K ↔ Rn 234 9 [l0, l1, l2, some (vI a), l4, l5, l6, l7, l8, l9] (vI a :: st) T σ K := R_iload_n (n := 3) (by decide +kernel) rfl
theorem s234_9 : Rn 234 9 L (vI c :: vI b :: vI a :: st) T σ K ↔ st.length ≤ 4 ∧ Rn 226 0 [some (vI a), some (vI b), some (vI c)] [] T σ (fun r T' σ' => Rn 234 12 L (sx_push r st) T' σ' K) := R_S (cm := 226) (n := 3) (idx := 290) (mx := 3) (vs := [vI a, vI b, vI c]) (by decide +kernel) (Or.inl (by decide +kernel)) rfl (by decide +kernel) rfl (by decide +kernel)
theorem s234_12 : Rn 234 12 L (vI a :: st) T σ K ↔ (a = 0 → Rn 234 41 L st T σ K) ∧ (a ≠ 0 → Rn 234 15 L st T σ K) := R_if_eq (off := 29) (by decide +kernel) (by decide)
theorem s234_15 : Rn 234 15 [l0, l1, l2, l3, some (vI a), l5, l6, l7, l8, l9] st T σ K ↔ Rn 234 17 [l0, l1, l2, l3, some (vI a), l5, l6, l7, l8, l9] (vI a :: st) T σ K := R_iload (n := 4) (by decide +kernel) rfl
theorem s234_17 : Rn 234 17 L st T σ K ↔ Rn 234 18 L (vI 0 :: st) T σ K := R_iconst (n := 0) (by decide +kernel) (by decide)
theorem s234_18 : Rn 234 18 L st T σ K ↔ Rn 234 21 L (vI 999 :: st) T σ K := R_sipush (n := 999) (by decide +kernel) (by decide +kernel)
theorem s234_21 : Rn 234 21 L (vI c :: vI b :: vI a :: st) T σ K ↔ st.length ≤ 4 ∧ Rn 185 0 [some (vI a), some (vI b), some (vI c)] [] T σ (fun r T' σ' => Rn 234 24 L (sx_push r st) T' σ' K) := R_S (cm := 185) (n := 3) (idx := 189) (mx := 3) (vs := [vI a, vI b, vI c]) (by decide +kernel) (Or.inl (by decide +kernel)) rfl (by decide +kernel) rfl (by decide +kernel)
theorem s234_24 : Rn 234 24 L (vI a :: st) T σ K ↔ (a = 0 → Rn 234 41 L st T σ K) ∧ (a ≠ 0 → Rn 234 27 L st T σ K) := R_if_eq (off := 17) (by decide +kernel) (by decide)
theorem s234_27 : Rn 234 27 [l0, l1, l2, l3, l4, some (vI a), l6, l7, l8, l9] st T σ K ↔ Rn 234 29 [l0, l1, l2, l3, l4, some (vI a), l6, l7, l8, l9] (vI a :: st) T σ K := R_iload (n := 5) (by decide +kernel) rfl
theorem s234_29 : Rn 234 29 L st T σ K ↔ Rn 234 30 L (vI 2 :: st) T σ K := R_iconst (n := 2) (by decide +kernel) (by decide)
theorem s234_30 : Rn 234 30 L (vI b :: vI a :: st) T σ K ↔ 0 < b ∧ inI (a.tmod b) ∧ Rn 234 31 L (vI (a.tmod b) :: st) T σ K := R_irem (by decide +kernel)
theorem s234_31 : Rn 234 31 L (vI a :: st) T σ K ↔ (a ≠ 0 → Rn 234 41 L st T σ K) ∧ (a = 0 → Rn 234 34 L st T σ K) := R_if_ne (off := 10) (by decide +kernel) (by decide)
theorem s234_34 : Rn 234 34 [l0, l1, l2, l3, l4, some (vI a), l6, l7, l8, l9] st T σ K ↔ Rn 234 36 [l0, l1, l2, l3, l4, some (vI a), l6, l7, l8, l9] (vI a :: st) T σ K := R_iload (n := 5) (by decide +kernel) rfl
theorem s234_36 : Rn 234 36 L st T σ K ↔ Rn 234 38 L (vI 80 :: st) T σ K := R_bipush (n := 80) (by decide +kernel) (by decide +kernel)
theorem s234_38 : Rn 234 38 L (vI b :: vI a :: st) T σ K ↔ (a ≤ b → Rn 234 43 L st T σ K) ∧ (b < a → Rn 234 41 L st T σ K) := R_icmp_le (off := 5) (by decide +kernel) (by decide)
theorem s234_41 : Rn 234 41 L st T σ K ↔ Rn 234 42 L (vI (-1) :: st) T σ K := R_iconst (n := -1) (by decide +kernel) (by decide)
theorem s234_42 : Rn 234 42 L [vI a] T σ K ↔ K (some (vI a)) T σ := R_ret (by decide +kernel) (by decide +kernel)
theorem s234_43 : Rn 234 43 L st T σ K ↔ Rn 234 44 L (vI 0 :: st) T σ K := R_iconst (n := 0) (by decide +kernel) (by decide)
theorem s234_44 : Rn 234 44 [l0, l1, l2, l3, l4, l5, l6, l7, l8, l9] (vI a :: st) T σ K ↔ Rn 234 46 [l0, l1, l2, l3, l4, l5, some (vI a), l7, l8, l9] st T σ K := R_istore (n := 6) (by decide +kernel) rfl
theorem s234_46 : Rn 234 46 [l0, l1, l2, l3, l4, l5, some (vI a), l7, l8, l9] st T σ K ↔ Rn 234 48 [l0, l1, l2, l3, l4, l5, some (vI a), l7, l8, l9] (vI a :: st) T σ K := R_iload (n := 6) (by decide +kernel) rfl
theorem s234_48 : Rn 234 48 [l0, l1, l2, l3, l4, some (vI a), l6, l7, l8, l9] st T σ K ↔ Rn 234 50 [l0, l1, l2, l3, l4, some (vI a), l6, l7, l8, l9] (vI a :: st) T σ K := R_iload (n := 5) (by decide +kernel) rfl
theorem s234_50 : Rn 234 50 L (vI b :: vI a :: st) T σ K ↔ (b ≤ a → Rn 234 124 L st T σ K) ∧ (a < b → Rn 234 53 L st T σ K) := R_icmp_ge (off := 74) (by decide +kernel) (by decide)
theorem s234_53 : Rn 234 53 [some (vR o), l1, l2, l3, l4, l5, l6, l7, l8, l9] st T σ K ↔ Rn 234 54 [some (vR o), l1, l2, l3, l4, l5, l6, l7, l8, l9] (vR o :: st) T σ K := R_aload_n (n := 0) (by decide +kernel) rfl
theorem s234_54 : Rn 234 54 [some (vR o), l1, l2, l3, l4, l5, l6, l7, l8, l9] st T σ K ↔ Rn 234 55 [some (vR o), l1, l2, l3, l4, l5, l6, l7, l8, l9] (vR o :: st) T σ K := R_aload_n (n := 0) (by decide +kernel) rfl
theorem s234_55 : Rn 234 55 L (vR o :: st) T σ K ↔ sx_kd T o = 9 ∧ ∃ t, sx_rf T o 7 = some t ∧ Rn 234 58 L (vR t :: st) T σ K := R_getR (idx := 33) (ci := 9) (k := 7) (by decide +kernel) (by decide +kernel) rfl
theorem s234_58 : Rn 234 58 [l0, l1, l2, l3, l4, l5, some (vI a), l7, l8, l9] st T σ K ↔ Rn 234 60 [l0, l1, l2, l3, l4, l5, some (vI a), l7, l8, l9] (vI a :: st) T σ K := R_iload (n := 6) (by decide +kernel) rfl
theorem s234_60 : Rn 234 60 L (vI a :: vR o :: st) T σ K ↔ (sx_kd T o = 20 ∧ 0 ≤ a ∧ a < sx_ln T o) ∧ Rn 234 61 L (vI (σ o a) :: st) T σ K := R_iald (by decide +kernel) (by decide)
theorem s234_61 : Rn 234 61 L (vI a :: vR o :: st) T σ K ↔ (sx_kd T o = 9 ∧ st.length ≤ 4) ∧ Rn 205 0 [some (vR o), some (vI a)] [] T σ (fun r T' σ' => Rn 234 64 L (sx_push r st) T' σ' K) := R_V (cm := 205) (n := 1) (idx := 254) (ci := 9) (mx := 2) (vs := [vI a]) (by decide +kernel) (by decide +kernel) rfl (by decide +kernel) rfl (by decide +kernel) (by decide +kernel)
theorem s234_64 : Rn 234 64 L (vI a :: st) T σ K ↔ (a = 0 → Rn 234 116 L st T σ K) ∧ (a ≠ 0 → Rn 234 67 L st T σ K) := R_if_eq (off := 52) (by decide +kernel) (by decide)
theorem s234_67 : Rn 234 67 [some (vR o), l1, l2, l3, l4, l5, l6, l7, l8, l9] st T σ K ↔ Rn 234 68 [some (vR o), l1, l2, l3, l4, l5, l6, l7, l8, l9] (vR o :: st) T σ K := R_aload_n (n := 0) (by decide +kernel) rfl
theorem s234_68 : Rn 234 68 L (vR o :: st) T σ K ↔ sx_kd T o = 9 ∧ ∃ t, sx_rf T o 7 = some t ∧ Rn 234 71 L (vR t :: st) T σ K := R_getR (idx := 33) (ci := 9) (k := 7) (by decide +kernel) (by decide +kernel) rfl
theorem s234_71 : Rn 234 71 [l0, l1, l2, l3, l4, l5, some (vI a), l7, l8, l9] st T σ K ↔ Rn 234 73 [l0, l1, l2, l3, l4, l5, some (vI a), l7, l8, l9] (vI a :: st) T σ K := R_iload (n := 6) (by decide +kernel) rfl
theorem s234_73 : Rn 234 73 L st T σ K ↔ Rn 234 74 L (vI 1 :: st) T σ K := R_iconst (n := 1) (by decide +kernel) (by decide)
theorem s234_74 : Rn 234 74 L (vI b :: vI a :: st) T σ K ↔ inI (a + b) ∧ Rn 234 75 L (vI (a + b) :: st) T σ K := R_iadd (by decide +kernel)
theorem s234_75 : Rn 234 75 L (vI a :: vR o :: st) T σ K ↔ (sx_kd T o = 20 ∧ 0 ≤ a ∧ a < sx_ln T o) ∧ Rn 234 76 L (vI (σ o a) :: st) T σ K := R_iald (by decide +kernel) (by decide)
theorem s234_76 : Rn 234 76 L st T σ K ↔ Rn 234 77 L (vI 1 :: st) T σ K := R_iconst (n := 1) (by decide +kernel) (by decide)
theorem s234_77 : Rn 234 77 L st T σ K ↔ Rn 234 79 L (vI 10 :: st) T σ K := R_bipush (n := 10) (by decide +kernel) (by decide +kernel)
theorem s234_79 : Rn 234 79 L (vI c :: vI b :: vI a :: st) T σ K ↔ st.length ≤ 4 ∧ Rn 185 0 [some (vI a), some (vI b), some (vI c)] [] T σ (fun r T' σ' => Rn 234 82 L (sx_push r st) T' σ' K) := R_S (cm := 185) (n := 3) (idx := 189) (mx := 3) (vs := [vI a, vI b, vI c]) (by decide +kernel) (Or.inl (by decide +kernel)) rfl (by decide +kernel) rfl (by decide +kernel)
theorem s234_82 : Rn 234 82 L (vI a :: st) T σ K ↔ (a = 0 → Rn 234 116 L st T σ K) ∧ (a ≠ 0 → Rn 234 85 L st T σ K) := R_if_eq (off := 34) (by decide +kernel) (by decide)
theorem s234_85 : Rn 234 85 [some (vR o), l1, l2, l3, l4, l5, l6, l7, l8, l9] st T σ K ↔ Rn 234 86 [some (vR o), l1, l2, l3, l4, l5, l6, l7, l8, l9] (vR o :: st) T σ K := R_aload_n (n := 0) (by decide +kernel) rfl
theorem s234_86 : Rn 234 86 [some (vR o), l1, l2, l3, l4, l5, l6, l7, l8, l9] st T σ K ↔ Rn 234 87 [some (vR o), l1, l2, l3, l4, l5, l6, l7, l8, l9] (vR o :: st) T σ K := R_aload_n (n := 0) (by decide +kernel) rfl
theorem s234_87 : Rn 234 87 L (vR o :: st) T σ K ↔ sx_kd T o = 9 ∧ ∃ t, sx_rf T o 7 = some t ∧ Rn 234 90 L (vR t :: st) T σ K := R_getR (idx := 33) (ci := 9) (k := 7) (by decide +kernel) (by decide +kernel) rfl
theorem s234_90 : Rn 234 90 [l0, l1, l2, l3, l4, l5, some (vI a), l7, l8, l9] st T σ K ↔ Rn 234 92 [l0, l1, l2, l3, l4, l5, some (vI a), l7, l8, l9] (vI a :: st) T σ K := R_iload (n := 6) (by decide +kernel) rfl
theorem s234_92 : Rn 234 92 L (vI a :: vR o :: st) T σ K ↔ (sx_kd T o = 20 ∧ 0 ≤ a ∧ a < sx_ln T o) ∧ Rn 234 93 L (vI (σ o a) :: st) T σ K := R_iald (by decide +kernel) (by decide)
theorem s234_93 : Rn 234 93 [l0, some (vI a), l2, l3, l4, l5, l6, l7, l8, l9] st T σ K ↔ Rn 234 94 [l0, some (vI a), l2, l3, l4, l5, l6, l7, l8, l9] (vI a :: st) T σ K := R_iload_n (n := 1) (by decide +kernel) rfl
theorem s234_94 : Rn 234 94 [l0, l1, some (vI a), l3, l4, l5, l6, l7, l8, l9] st T σ K ↔ Rn 234 95 [l0, l1, some (vI a), l3, l4, l5, l6, l7, l8, l9] (vI a :: st) T σ K := R_iload_n (n := 2) (by decide +kernel) rfl
theorem s234_95 : Rn 234 95 [l0, l1, l2, some (vI a), l4, l5, l6, l7, l8, l9] st T σ K ↔ Rn 234 96 [l0, l1, l2, some (vI a), l4, l5, l6, l7, l8, l9] (vI a :: st) T σ K := R_iload_n (n := 3) (by decide +kernel) rfl
theorem s234_96 : Rn 234 96 L (vI d :: vI c :: vI b :: vI a :: vR o :: st) T σ K ↔ (sx_kd T o = 9 ∧ st.length ≤ 4) ∧ Rn 195 0 [some (vR o), some (vI a), some (vI b), some (vI c), some (vI d)] [] T σ (fun r T' σ' => Rn 234 99 L (sx_push r st) T' σ' K) := R_V (cm := 195) (n := 4) (idx := 223) (ci := 9) (mx := 5) (vs := [vI a, vI b, vI c, vI d]) (by decide +kernel) (by decide +kernel) rfl (by decide +kernel) rfl (by decide +kernel) (by decide +kernel)
theorem s234_99 : Rn 234 99 L st T σ K ↔ Rn 234 100 L (vI 1 :: st) T σ K := R_iconst (n := 1) (by decide +kernel) (by decide)
theorem s234_100 : Rn 234 100 [some (vR o), l1, l2, l3, l4, l5, l6, l7, l8, l9] st T σ K ↔ Rn 234 101 [some (vR o), l1, l2, l3, l4, l5, l6, l7, l8, l9] (vR o :: st) T σ K := R_aload_n (n := 0) (by decide +kernel) rfl
theorem s234_101 : Rn 234 101 L (vR o :: st) T σ K ↔ sx_kd T o = 9 ∧ ∃ t, sx_rf T o 7 = some t ∧ Rn 234 104 L (vR t :: st) T σ K := R_getR (idx := 33) (ci := 9) (k := 7) (by decide +kernel) (by decide +kernel) rfl
theorem s234_104 : Rn 234 104 [l0, l1, l2, l3, l4, l5, some (vI a), l7, l8, l9] st T σ K ↔ Rn 234 106 [l0, l1, l2, l3, l4, l5, some (vI a), l7, l8, l9] (vI a :: st) T σ K := R_iload (n := 6) (by decide +kernel) rfl
theorem s234_106 : Rn 234 106 L st T σ K ↔ Rn 234 107 L (vI 1 :: st) T σ K := R_iconst (n := 1) (by decide +kernel) (by decide)
theorem s234_107 : Rn 234 107 L (vI b :: vI a :: st) T σ K ↔ inI (a + b) ∧ Rn 234 108 L (vI (a + b) :: st) T σ K := R_iadd (by decide +kernel)
theorem s234_108 : Rn 234 108 L (vI a :: vR o :: st) T σ K ↔ (sx_kd T o = 20 ∧ 0 ≤ a ∧ a < sx_ln T o) ∧ Rn 234 109 L (vI (σ o a) :: st) T σ K := R_iald (by decide +kernel) (by decide)
theorem s234_109 : Rn 234 109 L (vI b :: vI a :: st) T σ K ↔ (0 ≤ b ∧ b ≤ 31) ∧ inI (a * 2 ^ b.toNat) ∧ Rn 234 110 L (vI (a * 2 ^ b.toNat) :: st) T σ K := R_ishl (by decide +kernel)
theorem s234_110 : Rn 234 110 L (vI b :: vI a :: st) T σ K ↔ inI (a - b) ∧ Rn 234 111 L (vI (a - b) :: st) T σ K := R_isub (by decide +kernel)
theorem s234_111 : Rn 234 111 [l0, l1, l2, l3, some (vI a), l5, l6, l7, l8, l9] st T σ K ↔ Rn 234 113 [l0, l1, l2, l3, some (vI a), l5, l6, l7, l8, l9] (vI a :: st) T σ K := R_iload (n := 4) (by decide +kernel) rfl
theorem s234_113 : Rn 234 113 L (vI b :: vI a :: st) T σ K ↔ (b ≤ a → Rn 234 118 L st T σ K) ∧ (a < b → Rn 234 116 L st T σ K) := R_icmp_ge (off := 5) (by decide +kernel) (by decide)
theorem s234_116 : Rn 234 116 L st T σ K ↔ Rn 234 117 L (vI (-1) :: st) T σ K := R_iconst (n := -1) (by decide +kernel) (by decide)
theorem s234_117 : Rn 234 117 L [vI a] T σ K ↔ K (some (vI a)) T σ := R_ret (by decide +kernel) (by decide +kernel)
theorem s234_118 : Rn 234 118 [l0, l1, l2, l3, l4, l5, some (vI a), l7, l8, l9] st T σ K ↔ inI (a + 2) ∧ Rn 234 121 [l0, l1, l2, l3, l4, l5, some (vI (a + 2)), l7, l8, l9] st T σ K := R_iinc (n := 6) (d := 2) (by decide +kernel) rfl
theorem s234_121 : Rn 234 121 L st T σ K ↔ Rn 234 46 L st T σ K := R_goto (off := -75) (by decide +kernel) (by decide)
theorem s234_124 : Rn 234 124 L st T σ K ↔ Rn 234 125 L (vI 0 :: st) T σ K := R_iconst (n := 0) (by decide +kernel) (by decide)
theorem s234_125 : Rn 234 125 [l0, l1, l2, l3, l4, l5, l6, l7, l8, l9] (vI a :: st) T σ K ↔ Rn 234 127 [l0, l1, l2, l3, l4, l5, some (vI a), l7, l8, l9] st T σ K := R_istore (n := 6) (by decide +kernel) rfl
theorem s234_127 : Rn 234 127 L st T σ K ↔ Rn 234 128 L (vI 0 :: st) T σ K := R_iconst (n := 0) (by decide +kernel) (by decide)
theorem s234_128 : Rn 234 128 [l0, l1, l2, l3, l4, l5, l6, l7, l8, l9] (vI a :: st) T σ K ↔ Rn 234 130 [l0, l1, l2, l3, l4, l5, l6, some (vI a), l8, l9] st T σ K := R_istore (n := 7) (by decide +kernel) rfl
theorem s234_130 : Rn 234 130 [l0, l1, l2, l3, l4, l5, l6, some (vI a), l8, l9] st T σ K ↔ Rn 234 132 [l0, l1, l2, l3, l4, l5, l6, some (vI a), l8, l9] (vI a :: st) T σ K := R_iload (n := 7) (by decide +kernel) rfl
theorem s234_132 : Rn 234 132 L st T σ K ↔ Rn 234 134 L (vI 40 :: st) T σ K := R_bipush (n := 40) (by decide +kernel) (by decide +kernel)
theorem s234_134 : Rn 234 134 L (vI b :: vI a :: st) T σ K ↔ (b ≤ a → Rn 234 250 L st T σ K) ∧ (a < b → Rn 234 137 L st T σ K) := R_icmp_ge (off := 116) (by decide +kernel) (by decide)
theorem s234_137 : Rn 234 137 [some (vR o), l1, l2, l3, l4, l5, l6, l7, l8, l9] st T σ K ↔ Rn 234 138 [some (vR o), l1, l2, l3, l4, l5, l6, l7, l8, l9] (vR o :: st) T σ K := R_aload_n (n := 0) (by decide +kernel) rfl
theorem s234_138 : Rn 234 138 L (vR o :: st) T σ K ↔ sx_kd T o = 9 ∧ ∃ t, sx_rf T o 0 = some t ∧ Rn 234 141 L (vR t :: st) T σ K := R_getR (idx := 7) (ci := 9) (k := 0) (by decide +kernel) (by decide +kernel) rfl
theorem s234_141 : Rn 234 141 L st T σ K ↔ Rn 234 142 L (vI 0 :: st) T σ K := R_iconst (n := 0) (by decide +kernel) (by decide)
theorem s234_142 : Rn 234 142 [l0, l1, l2, l3, l4, l5, l6, some (vI a), l8, l9] st T σ K ↔ Rn 234 144 [l0, l1, l2, l3, l4, l5, l6, some (vI a), l8, l9] (vI a :: st) T σ K := R_iload (n := 7) (by decide +kernel) rfl
theorem s234_144 : Rn 234 144 L (vI b :: vI a :: st) T σ K ↔ inI (a + b) ∧ Rn 234 145 L (vI (a + b) :: st) T σ K := R_iadd (by decide +kernel)
theorem s234_145 : Rn 234 145 L (vI a :: vR o :: st) T σ K ↔ (sx_kd T o = 20 ∧ 0 ≤ a ∧ a < sx_ln T o) ∧ Rn 234 146 L (vI (σ o a) :: st) T σ K := R_iald (by decide +kernel) (by decide)
theorem s234_146 : Rn 234 146 L (vI a :: st) T σ K ↔ (a ≠ 0 → Rn 234 152 L st T σ K) ∧ (a = 0 → Rn 234 149 L st T σ K) := R_if_ne (off := 6) (by decide +kernel) (by decide)
theorem s234_149 : Rn 234 149 L st T σ K ↔ Rn 234 244 L st T σ K := R_goto (off := 95) (by decide +kernel) (by decide)
theorem s234_152 : Rn 234 152 L st T σ K ↔ Rn 234 153 L (vI 0 :: st) T σ K := R_iconst (n := 0) (by decide +kernel) (by decide)
theorem s234_153 : Rn 234 153 [l0, l1, l2, l3, l4, l5, l6, l7, l8, l9] (vI a :: st) T σ K ↔ Rn 234 155 [l0, l1, l2, l3, l4, l5, l6, l7, some (vI a), l9] st T σ K := R_istore (n := 8) (by decide +kernel) rfl
theorem s234_155 : Rn 234 155 L st T σ K ↔ Rn 234 156 L (vI 0 :: st) T σ K := R_iconst (n := 0) (by decide +kernel) (by decide)
theorem s234_156 : Rn 234 156 [l0, l1, l2, l3, l4, l5, l6, l7, l8, l9] (vI a :: st) T σ K ↔ Rn 234 158 [l0, l1, l2, l3, l4, l5, l6, l7, l8, some (vI a)] st T σ K := R_istore (n := 9) (by decide +kernel) rfl
theorem s234_158 : Rn 234 158 [l0, l1, l2, l3, l4, l5, l6, l7, l8, some (vI a)] st T σ K ↔ Rn 234 160 [l0, l1, l2, l3, l4, l5, l6, l7, l8, some (vI a)] (vI a :: st) T σ K := R_iload (n := 9) (by decide +kernel) rfl
theorem s234_160 : Rn 234 160 [l0, l1, l2, l3, l4, some (vI a), l6, l7, l8, l9] st T σ K ↔ Rn 234 162 [l0, l1, l2, l3, l4, some (vI a), l6, l7, l8, l9] (vI a :: st) T σ K := R_iload (n := 5) (by decide +kernel) rfl
theorem s234_162 : Rn 234 162 L (vI b :: vI a :: st) T σ K ↔ (b ≤ a → Rn 234 208 L st T σ K) ∧ (a < b → Rn 234 165 L st T σ K) := R_icmp_ge (off := 46) (by decide +kernel) (by decide)
theorem s234_165 : Rn 234 165 [l0, l1, l2, l3, l4, l5, l6, l7, some (vI a), l9] st T σ K ↔ Rn 234 167 [l0, l1, l2, l3, l4, l5, l6, l7, some (vI a), l9] (vI a :: st) T σ K := R_iload (n := 8) (by decide +kernel) rfl
theorem s234_167 : Rn 234 167 L (vI a :: st) T σ K ↔ (a ≠ 0 → Rn 234 195 L st T σ K) ∧ (a = 0 → Rn 234 170 L st T σ K) := R_if_ne (off := 28) (by decide +kernel) (by decide)
theorem s234_170 : Rn 234 170 [some (vR o), l1, l2, l3, l4, l5, l6, l7, l8, l9] st T σ K ↔ Rn 234 171 [some (vR o), l1, l2, l3, l4, l5, l6, l7, l8, l9] (vR o :: st) T σ K := R_aload_n (n := 0) (by decide +kernel) rfl
theorem s234_171 : Rn 234 171 [l0, l1, l2, l3, l4, l5, l6, some (vI a), l8, l9] st T σ K ↔ Rn 234 173 [l0, l1, l2, l3, l4, l5, l6, some (vI a), l8, l9] (vI a :: st) T σ K := R_iload (n := 7) (by decide +kernel) rfl
theorem s234_173 : Rn 234 173 [some (vR o), l1, l2, l3, l4, l5, l6, l7, l8, l9] st T σ K ↔ Rn 234 174 [some (vR o), l1, l2, l3, l4, l5, l6, l7, l8, l9] (vR o :: st) T σ K := R_aload_n (n := 0) (by decide +kernel) rfl
theorem s234_174 : Rn 234 174 L (vR o :: st) T σ K ↔ sx_kd T o = 9 ∧ ∃ t, sx_rf T o 7 = some t ∧ Rn 234 177 L (vR t :: st) T σ K := R_getR (idx := 33) (ci := 9) (k := 7) (by decide +kernel) (by decide +kernel) rfl
theorem s234_177 : Rn 234 177 [l0, l1, l2, l3, l4, l5, l6, l7, l8, some (vI a)] st T σ K ↔ Rn 234 179 [l0, l1, l2, l3, l4, l5, l6, l7, l8, some (vI a)] (vI a :: st) T σ K := R_iload (n := 9) (by decide +kernel) rfl
theorem s234_179 : Rn 234 179 L (vI a :: vR o :: st) T σ K ↔ (sx_kd T o = 20 ∧ 0 ≤ a ∧ a < sx_ln T o) ∧ Rn 234 180 L (vI (σ o a) :: st) T σ K := R_iald (by decide +kernel) (by decide)
theorem s234_180 : Rn 234 180 [some (vR o), l1, l2, l3, l4, l5, l6, l7, l8, l9] st T σ K ↔ Rn 234 181 [some (vR o), l1, l2, l3, l4, l5, l6, l7, l8, l9] (vR o :: st) T σ K := R_aload_n (n := 0) (by decide +kernel) rfl
theorem s234_181 : Rn 234 181 L (vR o :: st) T σ K ↔ sx_kd T o = 9 ∧ ∃ t, sx_rf T o 7 = some t ∧ Rn 234 184 L (vR t :: st) T σ K := R_getR (idx := 33) (ci := 9) (k := 7) (by decide +kernel) (by decide +kernel) rfl
theorem s234_184 : Rn 234 184 [l0, l1, l2, l3, l4, l5, l6, l7, l8, some (vI a)] st T σ K ↔ Rn 234 186 [l0, l1, l2, l3, l4, l5, l6, l7, l8, some (vI a)] (vI a :: st) T σ K := R_iload (n := 9) (by decide +kernel) rfl
theorem s234_186 : Rn 234 186 L st T σ K ↔ Rn 234 187 L (vI 1 :: st) T σ K := R_iconst (n := 1) (by decide +kernel) (by decide)
theorem s234_187 : Rn 234 187 L (vI b :: vI a :: st) T σ K ↔ inI (a + b) ∧ Rn 234 188 L (vI (a + b) :: st) T σ K := R_iadd (by decide +kernel)
theorem s234_188 : Rn 234 188 L (vI a :: vR o :: st) T σ K ↔ (sx_kd T o = 20 ∧ 0 ≤ a ∧ a < sx_ln T o) ∧ Rn 234 189 L (vI (σ o a) :: st) T σ K := R_iald (by decide +kernel) (by decide)
theorem s234_189 : Rn 234 189 L (vI c :: vI b :: vI a :: vR o :: st) T σ K ↔ (sx_kd T o = 9 ∧ st.length ≤ 4) ∧ Rn 231 0 [some (vR o), some (vI a), some (vI b), some (vI c), none] [] T σ (fun r T' σ' => Rn 234 192 L (sx_push r st) T' σ' K) := R_V (cm := 231) (n := 3) (idx := 284) (ci := 9) (mx := 5) (vs := [vI a, vI b, vI c]) (by decide +kernel) (by decide +kernel) rfl (by decide +kernel) rfl (by decide +kernel) (by decide +kernel)
theorem s234_192 : Rn 234 192 L (vI a :: st) T σ K ↔ (a = 0 → Rn 234 199 L st T σ K) ∧ (a ≠ 0 → Rn 234 195 L st T σ K) := R_if_eq (off := 7) (by decide +kernel) (by decide)
theorem s234_195 : Rn 234 195 L st T σ K ↔ Rn 234 196 L (vI 1 :: st) T σ K := R_iconst (n := 1) (by decide +kernel) (by decide)
theorem s234_196 : Rn 234 196 L st T σ K ↔ Rn 234 200 L st T σ K := R_goto (off := 4) (by decide +kernel) (by decide)
theorem s234_199 : Rn 234 199 L st T σ K ↔ Rn 234 200 L (vI 0 :: st) T σ K := R_iconst (n := 0) (by decide +kernel) (by decide)
theorem s234_200 : Rn 234 200 [l0, l1, l2, l3, l4, l5, l6, l7, l8, l9] (vI a :: st) T σ K ↔ Rn 234 202 [l0, l1, l2, l3, l4, l5, l6, l7, some (vI a), l9] st T σ K := R_istore (n := 8) (by decide +kernel) rfl
theorem s234_202 : Rn 234 202 [l0, l1, l2, l3, l4, l5, l6, l7, l8, some (vI a)] st T σ K ↔ inI (a + 2) ∧ Rn 234 205 [l0, l1, l2, l3, l4, l5, l6, l7, l8, some (vI (a + 2))] st T σ K := R_iinc (n := 9) (d := 2) (by decide +kernel) rfl
theorem s234_205 : Rn 234 205 L st T σ K ↔ Rn 234 158 L st T σ K := R_goto (off := -47) (by decide +kernel) (by decide)
theorem s234_208 : Rn 234 208 [l0, l1, l2, l3, l4, l5, l6, l7, some (vI a), l9] st T σ K ↔ Rn 234 210 [l0, l1, l2, l3, l4, l5, l6, l7, some (vI a), l9] (vI a :: st) T σ K := R_iload (n := 8) (by decide +kernel) rfl
theorem s234_210 : Rn 234 210 L (vI a :: st) T σ K ↔ (a ≠ 0 → Rn 234 229 L st T σ K) ∧ (a = 0 → Rn 234 213 L st T σ K) := R_if_ne (off := 19) (by decide +kernel) (by decide)
theorem s234_213 : Rn 234 213 [some (vR o), l1, l2, l3, l4, l5, l6, l7, l8, l9] st T σ K ↔ Rn 234 214 [some (vR o), l1, l2, l3, l4, l5, l6, l7, l8, l9] (vR o :: st) T σ K := R_aload_n (n := 0) (by decide +kernel) rfl
theorem s234_214 : Rn 234 214 [l0, l1, l2, l3, l4, l5, l6, some (vI a), l8, l9] st T σ K ↔ Rn 234 216 [l0, l1, l2, l3, l4, l5, l6, some (vI a), l8, l9] (vI a :: st) T σ K := R_iload (n := 7) (by decide +kernel) rfl
theorem s234_216 : Rn 234 216 [l0, some (vI a), l2, l3, l4, l5, l6, l7, l8, l9] st T σ K ↔ Rn 234 217 [l0, some (vI a), l2, l3, l4, l5, l6, l7, l8, l9] (vI a :: st) T σ K := R_iload_n (n := 1) (by decide +kernel) rfl
theorem s234_217 : Rn 234 217 [l0, l1, some (vI a), l3, l4, l5, l6, l7, l8, l9] st T σ K ↔ Rn 234 218 [l0, l1, some (vI a), l3, l4, l5, l6, l7, l8, l9] (vI a :: st) T σ K := R_iload_n (n := 2) (by decide +kernel) rfl
theorem s234_218 : Rn 234 218 [l0, l1, l2, some (vI a), l4, l5, l6, l7, l8, l9] st T σ K ↔ Rn 234 219 [l0, l1, l2, some (vI a), l4, l5, l6, l7, l8, l9] (vI a :: st) T σ K := R_iload_n (n := 3) (by decide +kernel) rfl
theorem s234_219 : Rn 234 219 L (vI d :: vI c :: vI b :: vI a :: vR o :: st) T σ K ↔ (sx_kd T o = 9 ∧ st.length ≤ 4) ∧ Rn 195 0 [some (vR o), some (vI a), some (vI b), some (vI c), some (vI d)] [] T σ (fun r T' σ' => Rn 234 222 L (sx_push r st) T' σ' K) := R_V (cm := 195) (n := 4) (idx := 223) (ci := 9) (mx := 5) (vs := [vI a, vI b, vI c, vI d]) (by decide +kernel) (by decide +kernel) rfl (by decide +kernel) rfl (by decide +kernel) (by decide +kernel)
theorem s234_222 : Rn 234 222 [l0, l1, l2, l3, some (vI a), l5, l6, l7, l8, l9] st T σ K ↔ Rn 234 224 [l0, l1, l2, l3, some (vI a), l5, l6, l7, l8, l9] (vI a :: st) T σ K := R_iload (n := 4) (by decide +kernel) rfl
theorem s234_224 : Rn 234 224 L (vI b :: vI a :: st) T σ K ↔ (b ≤ a → Rn 234 229 L st T σ K) ∧ (a < b → Rn 234 227 L st T σ K) := R_icmp_ge (off := 5) (by decide +kernel) (by decide)
theorem s234_227 : Rn 234 227 L st T σ K ↔ Rn 234 228 L (vI (-1) :: st) T σ K := R_iconst (n := -1) (by decide +kernel) (by decide)
theorem s234_228 : Rn 234 228 L [vI a] T σ K ↔ K (some (vI a)) T σ := R_ret (by decide +kernel) (by decide +kernel)
theorem s234_229 : Rn 234 229 [l0, l1, l2, l3, l4, l5, some (vI a), l7, l8, l9] st T σ K ↔ Rn 234 231 [l0, l1, l2, l3, l4, l5, some (vI a), l7, l8, l9] (vI a :: st) T σ K := R_iload (n := 6) (by decide +kernel) rfl
theorem s234_231 : Rn 234 231 [l0, l1, l2, l3, l4, l5, l6, l7, some (vI a), l9] st T σ K ↔ Rn 234 233 [l0, l1, l2, l3, l4, l5, l6, l7, some (vI a), l9] (vI a :: st) T σ K := R_iload (n := 8) (by decide +kernel) rfl
theorem s234_233 : Rn 234 233 L (vI a :: st) T σ K ↔ (a = 0 → Rn 234 240 L st T σ K) ∧ (a ≠ 0 → Rn 234 236 L st T σ K) := R_if_eq (off := 7) (by decide +kernel) (by decide)
theorem s234_236 : Rn 234 236 L st T σ K ↔ Rn 234 237 L (vI 1 :: st) T σ K := R_iconst (n := 1) (by decide +kernel) (by decide)
theorem s234_237 : Rn 234 237 L st T σ K ↔ Rn 234 241 L st T σ K := R_goto (off := 4) (by decide +kernel) (by decide)
theorem s234_240 : Rn 234 240 L st T σ K ↔ Rn 234 241 L (vI 0 :: st) T σ K := R_iconst (n := 0) (by decide +kernel) (by decide)
theorem s234_241 : Rn 234 241 L (vI b :: vI a :: st) T σ K ↔ inI (a + b) ∧ Rn 234 242 L (vI (a + b) :: st) T σ K := R_iadd (by decide +kernel)
theorem s234_242 : Rn 234 242 [l0, l1, l2, l3, l4, l5, l6, l7, l8, l9] (vI a :: st) T σ K ↔ Rn 234 244 [l0, l1, l2, l3, l4, l5, some (vI a), l7, l8, l9] st T σ K := R_istore (n := 6) (by decide +kernel) rfl
theorem s234_244 : Rn 234 244 [l0, l1, l2, l3, l4, l5, l6, some (vI a), l8, l9] st T σ K ↔ inI (a + 1) ∧ Rn 234 247 [l0, l1, l2, l3, l4, l5, l6, some (vI (a + 1)), l8, l9] st T σ K := R_iinc (n := 7) (d := 1) (by decide +kernel) rfl
theorem s234_247 : Rn 234 247 L st T σ K ↔ Rn 234 130 L st T σ K := R_goto (off := -117) (by decide +kernel) (by decide)
theorem s234_250 : Rn 234 250 [l0, l1, l2, l3, l4, l5, some (vI a), l7, l8, l9] st T σ K ↔ Rn 234 252 [l0, l1, l2, l3, l4, l5, some (vI a), l7, l8, l9] (vI a :: st) T σ K := R_iload (n := 6) (by decide +kernel) rfl
theorem s234_252 : Rn 234 252 L [vI a] T σ K ↔ K (some (vI a)) T σ := R_ret (by decide +kernel) (by decide +kernel)
theorem s235_0 : Rn 235 0 [l0, some (vI a), l2, l3, l4, l5, l6, l7, l8] st T σ K ↔ Rn 235 1 [l0, some (vI a), l2, l3, l4, l5, l6, l7, l8] (vI a :: st) T σ K := R_iload_n (n := 1) (by decide +kernel) rfl
theorem s235_1 : Rn 235 1 [l0, l1, some (vI a), l3, l4, l5, l6, l7, l8] st T σ K ↔ Rn 235 2 [l0, l1, some (vI a), l3, l4, l5, l6, l7, l8] (vI a :: st) T σ K := R_iload_n (n := 2) (by decide +kernel) rfl
theorem s235_2 : Rn 235 2 [l0, l1, l2, some (vI a), l4, l5, l6, l7, l8] st T σ K ↔ Rn 235 3 [l0, l1, l2, some (vI a), l4, l5, l6, l7, l8] (vI a :: st) T σ K := R_iload_n (n := 3) (by decide +kernel) rfl
theorem s235_3 : Rn 235 3 L (vI c :: vI b :: vI a :: st) T σ K ↔ st.length ≤ 4 ∧ Rn 226 0 [some (vI a), some (vI b), some (vI c)] [] T σ (fun r T' σ' => Rn 235 6 L (sx_push r st) T' σ' K) := R_S (cm := 226) (n := 3) (idx := 290) (mx := 3) (vs := [vI a, vI b, vI c]) (by decide +kernel) (Or.inl (by decide +kernel)) rfl (by decide +kernel) rfl (by decide +kernel)
theorem s235_6 : Rn 235 6 L (vI a :: st) T σ K ↔ (a ≠ 0 → Rn 235 11 L st T σ K) ∧ (a = 0 → Rn 235 9 L st T σ K) := R_if_ne (off := 5) (by decide +kernel) (by decide)
theorem s235_9 : Rn 235 9 L st T σ K ↔ Rn 235 10 L (vI (-1) :: st) T σ K := R_iconst (n := -1) (by decide +kernel) (by decide)
theorem s235_10 : Rn 235 10 L [vI a] T σ K ↔ K (some (vI a)) T σ := R_ret (by decide +kernel) (by decide +kernel)
theorem s235_11 : Rn 235 11 L st T σ K ↔ Rn 235 12 L (vI 0 :: st) T σ K := R_iconst (n := 0) (by decide +kernel) (by decide)
theorem s235_12 : Rn 235 12 [l0, l1, l2, l3, l4, l5, l6, l7, l8] (vI a :: st) T σ K ↔ Rn 235 14 [l0, l1, l2, l3, l4, some (vI a), l6, l7, l8] st T σ K := R_istore (n := 5) (by decide +kernel) rfl
theorem s235_14 : Rn 235 14 [l0, l1, l2, l3, l4, some (vI a), l6, l7, l8] st T σ K ↔ Rn 235 16 [l0, l1, l2, l3, l4, some (vI a), l6, l7, l8] (vI a :: st) T σ K := R_iload (n := 5) (by decide +kernel) rfl
theorem s235_16 : Rn 235 16 L st T σ K ↔ Rn 235 18 L (vI 40 :: st) T σ K := R_bipush (n := 40) (by decide +kernel) (by decide +kernel)
theorem s235_18 : Rn 235 18 L (vI b :: vI a :: st) T σ K ↔ (b ≤ a → Rn 235 140 L st T σ K) ∧ (a < b → Rn 235 21 L st T σ K) := R_icmp_ge (off := 122) (by decide +kernel) (by decide)
theorem s235_21 : Rn 235 21 [some (vR o), l1, l2, l3, l4, l5, l6, l7, l8] st T σ K ↔ Rn 235 22 [some (vR o), l1, l2, l3, l4, l5, l6, l7, l8] (vR o :: st) T σ K := R_aload_n (n := 0) (by decide +kernel) rfl
theorem s235_22 : Rn 235 22 L (vR o :: st) T σ K ↔ sx_kd T o = 9 ∧ ∃ t, sx_rf T o 0 = some t ∧ Rn 235 25 L (vR t :: st) T σ K := R_getR (idx := 7) (ci := 9) (k := 0) (by decide +kernel) (by decide +kernel) rfl
theorem s235_25 : Rn 235 25 L st T σ K ↔ Rn 235 26 L (vI 0 :: st) T σ K := R_iconst (n := 0) (by decide +kernel) (by decide)
theorem s235_26 : Rn 235 26 [l0, l1, l2, l3, l4, some (vI a), l6, l7, l8] st T σ K ↔ Rn 235 28 [l0, l1, l2, l3, l4, some (vI a), l6, l7, l8] (vI a :: st) T σ K := R_iload (n := 5) (by decide +kernel) rfl
theorem s235_28 : Rn 235 28 L (vI b :: vI a :: st) T σ K ↔ inI (a + b) ∧ Rn 235 29 L (vI (a + b) :: st) T σ K := R_iadd (by decide +kernel)
theorem s235_29 : Rn 235 29 L (vI a :: vR o :: st) T σ K ↔ (sx_kd T o = 20 ∧ 0 ≤ a ∧ a < sx_ln T o) ∧ Rn 235 30 L (vI (σ o a) :: st) T σ K := R_iald (by decide +kernel) (by decide)
theorem s235_30 : Rn 235 30 L (vI a :: st) T σ K ↔ (a ≠ 0 → Rn 235 36 L st T σ K) ∧ (a = 0 → Rn 235 33 L st T σ K) := R_if_ne (off := 6) (by decide +kernel) (by decide)
theorem s235_33 : Rn 235 33 L st T σ K ↔ Rn 235 134 L st T σ K := R_goto (off := 101) (by decide +kernel) (by decide)
theorem s235_36 : Rn 235 36 [some (vR o), l1, l2, l3, l4, l5, l6, l7, l8] st T σ K ↔ Rn 235 37 [some (vR o), l1, l2, l3, l4, l5, l6, l7, l8] (vR o :: st) T σ K := R_aload_n (n := 0) (by decide +kernel) rfl
theorem s235_37 : Rn 235 37 [l0, l1, l2, l3, l4, some (vI a), l6, l7, l8] st T σ K ↔ Rn 235 39 [l0, l1, l2, l3, l4, some (vI a), l6, l7, l8] (vI a :: st) T σ K := R_iload (n := 5) (by decide +kernel) rfl
theorem s235_39 : Rn 235 39 [l0, some (vI a), l2, l3, l4, l5, l6, l7, l8] st T σ K ↔ Rn 235 40 [l0, some (vI a), l2, l3, l4, l5, l6, l7, l8] (vI a :: st) T σ K := R_iload_n (n := 1) (by decide +kernel) rfl
theorem s235_40 : Rn 235 40 [l0, l1, some (vI a), l3, l4, l5, l6, l7, l8] st T σ K ↔ Rn 235 41 [l0, l1, some (vI a), l3, l4, l5, l6, l7, l8] (vI a :: st) T σ K := R_iload_n (n := 2) (by decide +kernel) rfl
theorem s235_41 : Rn 235 41 [l0, l1, l2, some (vI a), l4, l5, l6, l7, l8] st T σ K ↔ Rn 235 42 [l0, l1, l2, some (vI a), l4, l5, l6, l7, l8] (vI a :: st) T σ K := R_iload_n (n := 3) (by decide +kernel) rfl
theorem s235_42 : Rn 235 42 L (vI d :: vI c :: vI b :: vI a :: vR o :: st) T σ K ↔ (sx_kd T o = 9 ∧ st.length ≤ 4) ∧ Rn 195 0 [some (vR o), some (vI a), some (vI b), some (vI c), some (vI d)] [] T σ (fun r T' σ' => Rn 235 45 L (sx_push r st) T' σ' K) := R_V (cm := 195) (n := 4) (idx := 223) (ci := 9) (mx := 5) (vs := [vI a, vI b, vI c, vI d]) (by decide +kernel) (by decide +kernel) rfl (by decide +kernel) rfl (by decide +kernel) (by decide +kernel)
theorem s235_45 : Rn 235 45 [l0, l1, l2, l3, l4, l5, l6, l7, l8] (vI a :: st) T σ K ↔ Rn 235 47 [l0, l1, l2, l3, l4, l5, some (vI a), l7, l8] st T σ K := R_istore (n := 6) (by decide +kernel) rfl
theorem s235_47 : Rn 235 47 L st T σ K ↔ Rn 235 48 L (vI 0 :: st) T σ K := R_iconst (n := 0) (by decide +kernel) (by decide)
theorem s235_48 : Rn 235 48 [l0, l1, l2, l3, l4, l5, l6, l7, l8] (vI a :: st) T σ K ↔ Rn 235 50 [l0, l1, l2, l3, l4, l5, l6, some (vI a), l8] st T σ K := R_istore (n := 7) (by decide +kernel) rfl
theorem s235_50 : Rn 235 50 L st T σ K ↔ Rn 235 51 L (vI 0 :: st) T σ K := R_iconst (n := 0) (by decide +kernel) (by decide)
theorem s235_51 : Rn 235 51 [l0, l1, l2, l3, l4, l5, l6, l7, l8] (vI a :: st) T σ K ↔ Rn 235 53 [l0, l1, l2, l3, l4, l5, l6, l7, some (vI a)] st T σ K := R_istore (n := 8) (by decide +kernel) rfl
theorem s235_53 : Rn 235 53 [l0, l1, l2, l3, l4, l5, l6, l7, some (vI a)] st T σ K ↔ Rn 235 55 [l0, l1, l2, l3, l4, l5, l6, l7, some (vI a)] (vI a :: st) T σ K := R_iload (n := 8) (by decide +kernel) rfl
theorem s235_55 : Rn 235 55 L st T σ K ↔ Rn 235 57 L (vI 40 :: st) T σ K := R_bipush (n := 40) (by decide +kernel) (by decide +kernel)
theorem s235_57 : Rn 235 57 L (vI b :: vI a :: st) T σ K ↔ (b ≤ a → Rn 235 124 L st T σ K) ∧ (a < b → Rn 235 60 L st T σ K) := R_icmp_ge (off := 67) (by decide +kernel) (by decide)
theorem s235_60 : Rn 235 60 [l0, l1, l2, l3, l4, l5, l6, some (vI a), l8] st T σ K ↔ Rn 235 62 [l0, l1, l2, l3, l4, l5, l6, some (vI a), l8] (vI a :: st) T σ K := R_iload (n := 7) (by decide +kernel) rfl
theorem s235_62 : Rn 235 62 [some (vR o), l1, l2, l3, l4, l5, l6, l7, l8] st T σ K ↔ Rn 235 63 [some (vR o), l1, l2, l3, l4, l5, l6, l7, l8] (vR o :: st) T σ K := R_aload_n (n := 0) (by decide +kernel) rfl
theorem s235_63 : Rn 235 63 L (vR o :: st) T σ K ↔ sx_kd T o = 9 ∧ ∃ t, sx_rf T o 0 = some t ∧ Rn 235 66 L (vR t :: st) T σ K := R_getR (idx := 7) (ci := 9) (k := 0) (by decide +kernel) (by decide +kernel) rfl
theorem s235_66 : Rn 235 66 L st T σ K ↔ Rn 235 67 L (vI 0 :: st) T σ K := R_iconst (n := 0) (by decide +kernel) (by decide)
theorem s235_67 : Rn 235 67 [l0, l1, l2, l3, l4, l5, l6, l7, some (vI a)] st T σ K ↔ Rn 235 69 [l0, l1, l2, l3, l4, l5, l6, l7, some (vI a)] (vI a :: st) T σ K := R_iload (n := 8) (by decide +kernel) rfl
theorem s235_69 : Rn 235 69 L (vI b :: vI a :: st) T σ K ↔ inI (a + b) ∧ Rn 235 70 L (vI (a + b) :: st) T σ K := R_iadd (by decide +kernel)
theorem s235_70 : Rn 235 70 L (vI a :: vR o :: st) T σ K ↔ (sx_kd T o = 20 ∧ 0 ≤ a ∧ a < sx_ln T o) ∧ Rn 235 71 L (vI (σ o a) :: st) T σ K := R_iald (by decide +kernel) (by decide)
theorem s235_71 : Rn 235 71 L st T σ K ↔ Rn 235 72 L (vI 1 :: st) T σ K := R_iconst (n := 1) (by decide +kernel) (by decide)
theorem s235_72 : Rn 235 72 L (vI b :: vI a :: st) T σ K ↔ (a ≠ b → Rn 235 114 L st T σ K) ∧ (a = b → Rn 235 75 L st T σ K) := R_icmp_ne (off := 42) (by decide +kernel) (by decide)
theorem s235_75 : Rn 235 75 [some (vR o), l1, l2, l3, l4, l5, l6, l7, l8] st T σ K ↔ Rn 235 76 [some (vR o), l1, l2, l3, l4, l5, l6, l7, l8] (vR o :: st) T σ K := R_aload_n (n := 0) (by decide +kernel) rfl
theorem s235_76 : Rn 235 76 [l0, l1, l2, l3, l4, l5, l6, l7, some (vI a)] st T σ K ↔ Rn 235 78 [l0, l1, l2, l3, l4, l5, l6, l7, some (vI a)] (vI a :: st) T σ K := R_iload (n := 8) (by decide +kernel) rfl
theorem s235_78 : Rn 235 78 [l0, some (vI a), l2, l3, l4, l5, l6, l7, l8] st T σ K ↔ Rn 235 79 [l0, some (vI a), l2, l3, l4, l5, l6, l7, l8] (vI a :: st) T σ K := R_iload_n (n := 1) (by decide +kernel) rfl
theorem s235_79 : Rn 235 79 [l0, l1, some (vI a), l3, l4, l5, l6, l7, l8] st T σ K ↔ Rn 235 80 [l0, l1, some (vI a), l3, l4, l5, l6, l7, l8] (vI a :: st) T σ K := R_iload_n (n := 2) (by decide +kernel) rfl
theorem s235_80 : Rn 235 80 [l0, l1, l2, some (vI a), l4, l5, l6, l7, l8] st T σ K ↔ Rn 235 81 [l0, l1, l2, some (vI a), l4, l5, l6, l7, l8] (vI a :: st) T σ K := R_iload_n (n := 3) (by decide +kernel) rfl
theorem s235_81 : Rn 235 81 L (vI d :: vI c :: vI b :: vI a :: vR o :: st) T σ K ↔ (sx_kd T o = 9 ∧ st.length ≤ 4) ∧ Rn 195 0 [some (vR o), some (vI a), some (vI b), some (vI c), some (vI d)] [] T σ (fun r T' σ' => Rn 235 84 L (sx_push r st) T' σ' K) := R_V (cm := 195) (n := 4) (idx := 223) (ci := 9) (mx := 5) (vs := [vI a, vI b, vI c, vI d]) (by decide +kernel) (by decide +kernel) rfl (by decide +kernel) rfl (by decide +kernel) (by decide +kernel)
theorem s235_84 : Rn 235 84 [l0, l1, l2, l3, l4, l5, some (vI a), l7, l8] st T σ K ↔ Rn 235 86 [l0, l1, l2, l3, l4, l5, some (vI a), l7, l8] (vI a :: st) T σ K := R_iload (n := 6) (by decide +kernel) rfl
theorem s235_86 : Rn 235 86 L (vI b :: vI a :: st) T σ K ↔ (a < b → Rn 235 110 L st T σ K) ∧ (b ≤ a → Rn 235 89 L st T σ K) := R_icmp_lt (off := 24) (by decide +kernel) (by decide)
theorem s235_89 : Rn 235 89 [some (vR o), l1, l2, l3, l4, l5, l6, l7, l8] st T σ K ↔ Rn 235 90 [some (vR o), l1, l2, l3, l4, l5, l6, l7, l8] (vR o :: st) T σ K := R_aload_n (n := 0) (by decide +kernel) rfl
theorem s235_90 : Rn 235 90 [l0, l1, l2, l3, l4, l5, l6, l7, some (vI a)] st T σ K ↔ Rn 235 92 [l0, l1, l2, l3, l4, l5, l6, l7, some (vI a)] (vI a :: st) T σ K := R_iload (n := 8) (by decide +kernel) rfl
theorem s235_92 : Rn 235 92 [l0, some (vI a), l2, l3, l4, l5, l6, l7, l8] st T σ K ↔ Rn 235 93 [l0, some (vI a), l2, l3, l4, l5, l6, l7, l8] (vI a :: st) T σ K := R_iload_n (n := 1) (by decide +kernel) rfl
theorem s235_93 : Rn 235 93 [l0, l1, some (vI a), l3, l4, l5, l6, l7, l8] st T σ K ↔ Rn 235 94 [l0, l1, some (vI a), l3, l4, l5, l6, l7, l8] (vI a :: st) T σ K := R_iload_n (n := 2) (by decide +kernel) rfl
theorem s235_94 : Rn 235 94 [l0, l1, l2, some (vI a), l4, l5, l6, l7, l8] st T σ K ↔ Rn 235 95 [l0, l1, l2, some (vI a), l4, l5, l6, l7, l8] (vI a :: st) T σ K := R_iload_n (n := 3) (by decide +kernel) rfl
theorem s235_95 : Rn 235 95 L (vI d :: vI c :: vI b :: vI a :: vR o :: st) T σ K ↔ (sx_kd T o = 9 ∧ st.length ≤ 4) ∧ Rn 195 0 [some (vR o), some (vI a), some (vI b), some (vI c), some (vI d)] [] T σ (fun r T' σ' => Rn 235 98 L (sx_push r st) T' σ' K) := R_V (cm := 195) (n := 4) (idx := 223) (ci := 9) (mx := 5) (vs := [vI a, vI b, vI c, vI d]) (by decide +kernel) (by decide +kernel) rfl (by decide +kernel) rfl (by decide +kernel) (by decide +kernel)
theorem s235_98 : Rn 235 98 [l0, l1, l2, l3, l4, l5, some (vI a), l7, l8] st T σ K ↔ Rn 235 100 [l0, l1, l2, l3, l4, l5, some (vI a), l7, l8] (vI a :: st) T σ K := R_iload (n := 6) (by decide +kernel) rfl
theorem s235_100 : Rn 235 100 L (vI b :: vI a :: st) T σ K ↔ (a ≠ b → Rn 235 114 L st T σ K) ∧ (a = b → Rn 235 103 L st T σ K) := R_icmp_ne (off := 14) (by decide +kernel) (by decide)
theorem s235_103 : Rn 235 103 [l0, l1, l2, l3, l4, l5, l6, l7, some (vI a)] st T σ K ↔ Rn 235 105 [l0, l1, l2, l3, l4, l5, l6, l7, some (vI a)] (vI a :: st) T σ K := R_iload (n := 8) (by decide +kernel) rfl
theorem s235_105 : Rn 235 105 [l0, l1, l2, l3, l4, some (vI a), l6, l7, l8] st T σ K ↔ Rn 235 107 [l0, l1, l2, l3, l4, some (vI a), l6, l7, l8] (vI a :: st) T σ K := R_iload (n := 5) (by decide +kernel) rfl
theorem s235_107 : Rn 235 107 L (vI b :: vI a :: st) T σ K ↔ (b ≤ a → Rn 235 114 L st T σ K) ∧ (a < b → Rn 235 110 L st T σ K) := R_icmp_ge (off := 7) (by decide +kernel) (by decide)
theorem s235_110 : Rn 235 110 L st T σ K ↔ Rn 235 111 L (vI 1 :: st) T σ K := R_iconst (n := 1) (by decide +kernel) (by decide)
theorem s235_111 : Rn 235 111 L st T σ K ↔ Rn 235 115 L st T σ K := R_goto (off := 4) (by decide +kernel) (by decide)
theorem s235_114 : Rn 235 114 L st T σ K ↔ Rn 235 115 L (vI 0 :: st) T σ K := R_iconst (n := 0) (by decide +kernel) (by decide)
theorem s235_115 : Rn 235 115 L (vI b :: vI a :: st) T σ K ↔ inI (a + b) ∧ Rn 235 116 L (vI (a + b) :: st) T σ K := R_iadd (by decide +kernel)
theorem s235_116 : Rn 235 116 [l0, l1, l2, l3, l4, l5, l6, l7, l8] (vI a :: st) T σ K ↔ Rn 235 118 [l0, l1, l2, l3, l4, l5, l6, some (vI a), l8] st T σ K := R_istore (n := 7) (by decide +kernel) rfl
theorem s235_118 : Rn 235 118 [l0, l1, l2, l3, l4, l5, l6, l7, some (vI a)] st T σ K ↔ inI (a + 1) ∧ Rn 235 121 [l0, l1, l2, l3, l4, l5, l6, l7, some (vI (a + 1))] st T σ K := R_iinc (n := 8) (d := 1) (by decide +kernel) rfl
theorem s235_121 : Rn 235 121 L st T σ K ↔ Rn 235 53 L st T σ K := R_goto (off := -68) (by decide +kernel) (by decide)
theorem s235_124 : Rn 235 124 [l0, l1, l2, l3, l4, l5, l6, some (vI a), l8] st T σ K ↔ Rn 235 126 [l0, l1, l2, l3, l4, l5, l6, some (vI a), l8] (vI a :: st) T σ K := R_iload (n := 7) (by decide +kernel) rfl
theorem s235_126 : Rn 235 126 [l0, l1, l2, l3, some (vI a), l5, l6, l7, l8] st T σ K ↔ Rn 235 128 [l0, l1, l2, l3, some (vI a), l5, l6, l7, l8] (vI a :: st) T σ K := R_iload (n := 4) (by decide +kernel) rfl
theorem s235_128 : Rn 235 128 L (vI b :: vI a :: st) T σ K ↔ (a ≠ b → Rn 235 134 L st T σ K) ∧ (a = b → Rn 235 131 L st T σ K) := R_icmp_ne (off := 6) (by decide +kernel) (by decide)
theorem s235_131 : Rn 235 131 [l0, l1, l2, l3, l4, some (vI a), l6, l7, l8] st T σ K ↔ Rn 235 133 [l0, l1, l2, l3, l4, some (vI a), l6, l7, l8] (vI a :: st) T σ K := R_iload (n := 5) (by decide +kernel) rfl
theorem s235_133 : Rn 235 133 L [vI a] T σ K ↔ K (some (vI a)) T σ := R_ret (by decide +kernel) (by decide +kernel)
theorem s235_134 : Rn 235 134 [l0, l1, l2, l3, l4, some (vI a), l6, l7, l8] st T σ K ↔ inI (a + 1) ∧ Rn 235 137 [l0, l1, l2, l3, l4, some (vI (a + 1)), l6, l7, l8] st T σ K := R_iinc (n := 5) (d := 1) (by decide +kernel) rfl
theorem s235_137 : Rn 235 137 L st T σ K ↔ Rn 235 14 L st T σ K := R_goto (off := -123) (by decide +kernel) (by decide)
theorem s235_140 : Rn 235 140 L st T σ K ↔ Rn 235 141 L (vI (-1) :: st) T σ K := R_iconst (n := -1) (by decide +kernel) (by decide)
theorem s235_141 : Rn 235 141 L [vI a] T σ K ↔ K (some (vI a)) T σ := R_ret (by decide +kernel) (by decide +kernel)
theorem s236_0 : Rn 236 0 [l0, some (vI a), l2, l3, l4, l5, l6] st T σ K ↔ Rn 236 1 [l0, some (vI a), l2, l3, l4, l5, l6] (vI a :: st) T σ K := R_iload_n (n := 1) (by decide +kernel) rfl
theorem s236_1 : Rn 236 1 [l0, l1, some (vI a), l3, l4, l5, l6] st T σ K ↔ Rn 236 2 [l0, l1, some (vI a), l3, l4, l5, l6] (vI a :: st) T σ K := R_iload_n (n := 2) (by decide +kernel) rfl
theorem s236_2 : Rn 236 2 [l0, l1, l2, some (vI a), l4, l5, l6] st T σ K ↔ Rn 236 3 [l0, l1, l2, some (vI a), l4, l5, l6] (vI a :: st) T σ K := R_iload_n (n := 3) (by decide +kernel) rfl
theorem s236_3 : Rn 236 3 L (vI c :: vI b :: vI a :: st) T σ K ↔ st.length ≤ 4 ∧ Rn 226 0 [some (vI a), some (vI b), some (vI c)] [] T σ (fun r T' σ' => Rn 236 6 L (sx_push r st) T' σ' K) := R_S (cm := 226) (n := 3) (idx := 290) (mx := 3) (vs := [vI a, vI b, vI c]) (by decide +kernel) (Or.inl (by decide +kernel)) rfl (by decide +kernel) rfl (by decide +kernel)
theorem s236_6 : Rn 236 6 L (vI a :: st) T σ K ↔ (a = 0 → Rn 236 21 L st T σ K) ∧ (a ≠ 0 → Rn 236 9 L st T σ K) := R_if_eq (off := 15) (by decide +kernel) (by decide)
theorem s236_9 : Rn 236 9 [l0, l1, l2, l3, some (vI a), l5, l6] st T σ K ↔ Rn 236 11 [l0, l1, l2, l3, some (vI a), l5, l6] (vI a :: st) T σ K := R_iload (n := 4) (by decide +kernel) rfl
theorem s236_11 : Rn 236 11 L st T σ K ↔ Rn 236 12 L (vI 0 :: st) T σ K := R_iconst (n := 0) (by decide +kernel) (by decide)
theorem s236_12 : Rn 236 12 L st T σ K ↔ Rn 236 15 L (vI 999 :: st) T σ K := R_sipush (n := 999) (by decide +kernel) (by decide +kernel)
theorem s236_15 : Rn 236 15 L (vI c :: vI b :: vI a :: st) T σ K ↔ st.length ≤ 4 ∧ Rn 185 0 [some (vI a), some (vI b), some (vI c)] [] T σ (fun r T' σ' => Rn 236 18 L (sx_push r st) T' σ' K) := R_S (cm := 185) (n := 3) (idx := 189) (mx := 3) (vs := [vI a, vI b, vI c]) (by decide +kernel) (Or.inl (by decide +kernel)) rfl (by decide +kernel) rfl (by decide +kernel)
theorem s236_18 : Rn 236 18 L (vI a :: st) T σ K ↔ (a ≠ 0 → Rn 236 23 L st T σ K) ∧ (a = 0 → Rn 236 21 L st T σ K) := R_if_ne (off := 5) (by decide +kernel) (by decide)
theorem s236_21 : Rn 236 21 L st T σ K ↔ Rn 236 22 L (vI (-1) :: st) T σ K := R_iconst (n := -1) (by decide +kernel) (by decide)
theorem s236_22 : Rn 236 22 L [vI a] T σ K ↔ K (some (vI a)) T σ := R_ret (by decide +kernel) (by decide +kernel)
theorem s236_23 : Rn 236 23 L st T σ K ↔ Rn 236 24 L (vI 0 :: st) T σ K := R_iconst (n := 0) (by decide +kernel) (by decide)
theorem s236_24 : Rn 236 24 [l0, l1, l2, l3, l4, l5, l6] (vI a :: st) T σ K ↔ Rn 236 26 [l0, l1, l2, l3, l4, some (vI a), l6] st T σ K := R_istore (n := 5) (by decide +kernel) rfl
theorem s236_26 : Rn 236 26 L st T σ K ↔ Rn 236 27 L (vI 0 :: st) T σ K := R_iconst (n := 0) (by decide +kernel) (by decide)
theorem s236_27 : Rn 236 27 [l0, l1, l2, l3, l4, l5, l6] (vI a :: st) T σ K ↔ Rn 236 29 [l0, l1, l2, l3, l4, l5, some (vI a)] st T σ K := R_istore (n := 6) (by decide +kernel) rfl
theorem s236_29 : Rn 236 29 [l0, l1, l2, l3, l4, l5, some (vI a)] st T σ K ↔ Rn 236 31 [l0, l1, l2, l3, l4, l5, some (vI a)] (vI a :: st) T σ K := R_iload (n := 6) (by decide +kernel) rfl
theorem s236_31 : Rn 236 31 L st T σ K ↔ Rn 236 33 L (vI 40 :: st) T σ K := R_bipush (n := 40) (by decide +kernel) (by decide +kernel)
theorem s236_33 : Rn 236 33 L (vI b :: vI a :: st) T σ K ↔ (b ≤ a → Rn 236 79 L st T σ K) ∧ (a < b → Rn 236 36 L st T σ K) := R_icmp_ge (off := 46) (by decide +kernel) (by decide)
theorem s236_36 : Rn 236 36 [l0, l1, l2, l3, l4, some (vI a), l6] st T σ K ↔ Rn 236 38 [l0, l1, l2, l3, l4, some (vI a), l6] (vI a :: st) T σ K := R_iload (n := 5) (by decide +kernel) rfl
theorem s236_38 : Rn 236 38 [some (vR o), l1, l2, l3, l4, l5, l6] st T σ K ↔ Rn 236 39 [some (vR o), l1, l2, l3, l4, l5, l6] (vR o :: st) T σ K := R_aload_n (n := 0) (by decide +kernel) rfl
theorem s236_39 : Rn 236 39 L (vR o :: st) T σ K ↔ sx_kd T o = 9 ∧ ∃ t, sx_rf T o 0 = some t ∧ Rn 236 42 L (vR t :: st) T σ K := R_getR (idx := 7) (ci := 9) (k := 0) (by decide +kernel) (by decide +kernel) rfl
theorem s236_42 : Rn 236 42 L st T σ K ↔ Rn 236 43 L (vI 0 :: st) T σ K := R_iconst (n := 0) (by decide +kernel) (by decide)
theorem s236_43 : Rn 236 43 [l0, l1, l2, l3, l4, l5, some (vI a)] st T σ K ↔ Rn 236 45 [l0, l1, l2, l3, l4, l5, some (vI a)] (vI a :: st) T σ K := R_iload (n := 6) (by decide +kernel) rfl
theorem s236_45 : Rn 236 45 L (vI b :: vI a :: st) T σ K ↔ inI (a + b) ∧ Rn 236 46 L (vI (a + b) :: st) T σ K := R_iadd (by decide +kernel)
theorem s236_46 : Rn 236 46 L (vI a :: vR o :: st) T σ K ↔ (sx_kd T o = 20 ∧ 0 ≤ a ∧ a < sx_ln T o) ∧ Rn 236 47 L (vI (σ o a) :: st) T σ K := R_iald (by decide +kernel) (by decide)
theorem s236_47 : Rn 236 47 L st T σ K ↔ Rn 236 48 L (vI 1 :: st) T σ K := R_iconst (n := 1) (by decide +kernel) (by decide)
theorem s236_48 : Rn 236 48 L (vI b :: vI a :: st) T σ K ↔ (a ≠ b → Rn 236 69 L st T σ K) ∧ (a = b → Rn 236 51 L st T σ K) := R_icmp_ne (off := 21) (by decide +kernel) (by decide)
theorem s236_51 : Rn 236 51 [some (vR o), l1, l2, l3, l4, l5, l6] st T σ K ↔ Rn 236 52 [some (vR o), l1, l2, l3, l4, l5, l6] (vR o :: st) T σ K := R_aload_n (n := 0) (by decide +kernel) rfl
theorem s236_52 : Rn 236 52 [l0, l1, l2, l3, l4, l5, some (vI a)] st T σ K ↔ Rn 236 54 [l0, l1, l2, l3, l4, l5, some (vI a)] (vI a :: st) T σ K := R_iload (n := 6) (by decide +kernel) rfl
theorem s236_54 : Rn 236 54 [l0, some (vI a), l2, l3, l4, l5, l6] st T σ K ↔ Rn 236 55 [l0, some (vI a), l2, l3, l4, l5, l6] (vI a :: st) T σ K := R_iload_n (n := 1) (by decide +kernel) rfl
theorem s236_55 : Rn 236 55 [l0, l1, some (vI a), l3, l4, l5, l6] st T σ K ↔ Rn 236 56 [l0, l1, some (vI a), l3, l4, l5, l6] (vI a :: st) T σ K := R_iload_n (n := 2) (by decide +kernel) rfl
theorem s236_56 : Rn 236 56 [l0, l1, l2, some (vI a), l4, l5, l6] st T σ K ↔ Rn 236 57 [l0, l1, l2, some (vI a), l4, l5, l6] (vI a :: st) T σ K := R_iload_n (n := 3) (by decide +kernel) rfl
theorem s236_57 : Rn 236 57 L (vI d :: vI c :: vI b :: vI a :: vR o :: st) T σ K ↔ (sx_kd T o = 9 ∧ st.length ≤ 4) ∧ Rn 195 0 [some (vR o), some (vI a), some (vI b), some (vI c), some (vI d)] [] T σ (fun r T' σ' => Rn 236 60 L (sx_push r st) T' σ' K) := R_V (cm := 195) (n := 4) (idx := 223) (ci := 9) (mx := 5) (vs := [vI a, vI b, vI c, vI d]) (by decide +kernel) (by decide +kernel) rfl (by decide +kernel) rfl (by decide +kernel) (by decide +kernel)
theorem s236_60 : Rn 236 60 [l0, l1, l2, l3, some (vI a), l5, l6] st T σ K ↔ Rn 236 62 [l0, l1, l2, l3, some (vI a), l5, l6] (vI a :: st) T σ K := R_iload (n := 4) (by decide +kernel) rfl
theorem s236_62 : Rn 236 62 L (vI b :: vI a :: st) T σ K ↔ (b < a → Rn 236 69 L st T σ K) ∧ (a ≤ b → Rn 236 65 L st T σ K) := R_icmp_gt (off := 7) (by decide +kernel) (by decide)
theorem s236_65 : Rn 236 65 L st T σ K ↔ Rn 236 66 L (vI 1 :: st) T σ K := R_iconst (n := 1) (by decide +kernel) (by decide)
theorem s236_66 : Rn 236 66 L st T σ K ↔ Rn 236 70 L st T σ K := R_goto (off := 4) (by decide +kernel) (by decide)
theorem s236_69 : Rn 236 69 L st T σ K ↔ Rn 236 70 L (vI 0 :: st) T σ K := R_iconst (n := 0) (by decide +kernel) (by decide)
theorem s236_70 : Rn 236 70 L (vI b :: vI a :: st) T σ K ↔ inI (a + b) ∧ Rn 236 71 L (vI (a + b) :: st) T σ K := R_iadd (by decide +kernel)
theorem s236_71 : Rn 236 71 [l0, l1, l2, l3, l4, l5, l6] (vI a :: st) T σ K ↔ Rn 236 73 [l0, l1, l2, l3, l4, some (vI a), l6] st T σ K := R_istore (n := 5) (by decide +kernel) rfl
theorem s236_73 : Rn 236 73 [l0, l1, l2, l3, l4, l5, some (vI a)] st T σ K ↔ inI (a + 1) ∧ Rn 236 76 [l0, l1, l2, l3, l4, l5, some (vI (a + 1))] st T σ K := R_iinc (n := 6) (d := 1) (by decide +kernel) rfl
theorem s236_76 : Rn 236 76 L st T σ K ↔ Rn 236 29 L st T σ K := R_goto (off := -47) (by decide +kernel) (by decide)
theorem s236_79 : Rn 236 79 [l0, l1, l2, l3, l4, some (vI a), l6] st T σ K ↔ Rn 236 81 [l0, l1, l2, l3, l4, some (vI a), l6] (vI a :: st) T σ K := R_iload (n := 5) (by decide +kernel) rfl
theorem s236_81 : Rn 236 81 L [vI a] T σ K ↔ K (some (vI a)) T σ := R_ret (by decide +kernel) (by decide +kernel)
theorem s237_0 : Rn 237 0 [some (vR o), l1, l2, l3, l4, l5, l6, l7] st T σ K ↔ Rn 237 1 [some (vR o), l1, l2, l3, l4, l5, l6, l7] (vR o :: st) T σ K := R_aload_n (n := 0) (by decide +kernel) rfl
theorem s237_1 : Rn 237 1 L (vR o :: st) T σ K ↔ (sx_kd T o = 9 ∧ st.length ≤ 4) ∧ Rn 203 0 [some (vR o), none] [] T σ (fun r T' σ' => Rn 237 4 L (sx_push r st) T' σ' K) := R_V (cm := 203) (n := 0) (idx := 251) (ci := 9) (mx := 2) (vs := []) (by decide +kernel) (by decide +kernel) rfl (by decide +kernel) rfl (by decide +kernel) (by decide +kernel)
theorem s237_4 : Rn 237 4 L st T σ K ↔ Rn 237 5 L (vI (-1) :: st) T σ K := R_iconst (n := -1) (by decide +kernel) (by decide)
theorem s237_5 : Rn 237 5 L (vI b :: vI a :: st) T σ K ↔ (a = b → Rn 237 27 L st T σ K) ∧ (a ≠ b → Rn 237 8 L st T σ K) := R_icmp_eq (off := 22) (by decide +kernel) (by decide)
theorem s237_8 : Rn 237 8 [l0, some (vI a), l2, l3, l4, l5, l6, l7] st T σ K ↔ Rn 237 9 [l0, some (vI a), l2, l3, l4, l5, l6, l7] (vI a :: st) T σ K := R_iload_n (n := 1) (by decide +kernel) rfl
theorem s237_9 : Rn 237 9 [l0, l1, some (vI a), l3, l4, l5, l6, l7] st T σ K ↔ Rn 237 10 [l0, l1, some (vI a), l3, l4, l5, l6, l7] (vI a :: st) T σ K := R_iload_n (n := 2) (by decide +kernel) rfl
theorem s237_10 : Rn 237 10 [l0, l1, l2, some (vI a), l4, l5, l6, l7] st T σ K ↔ Rn 237 11 [l0, l1, l2, some (vI a), l4, l5, l6, l7] (vI a :: st) T σ K := R_iload_n (n := 3) (by decide +kernel) rfl
theorem s237_11 : Rn 237 11 L (vI c :: vI b :: vI a :: st) T σ K ↔ st.length ≤ 4 ∧ Rn 226 0 [some (vI a), some (vI b), some (vI c)] [] T σ (fun r T' σ' => Rn 237 14 L (sx_push r st) T' σ' K) := R_S (cm := 226) (n := 3) (idx := 290) (mx := 3) (vs := [vI a, vI b, vI c]) (by decide +kernel) (Or.inl (by decide +kernel)) rfl (by decide +kernel) rfl (by decide +kernel)
theorem s237_14 : Rn 237 14 L (vI a :: st) T σ K ↔ (a = 0 → Rn 237 27 L st T σ K) ∧ (a ≠ 0 → Rn 237 17 L st T σ K) := R_if_eq (off := 13) (by decide +kernel) (by decide)
theorem s237_17 : Rn 237 17 [l0, l1, l2, l3, some (vI a), l5, l6, l7] st T σ K ↔ Rn 237 19 [l0, l1, l2, l3, some (vI a), l5, l6, l7] (vI a :: st) T σ K := R_iload (n := 4) (by decide +kernel) rfl
theorem s237_19 : Rn 237 19 L st T σ K ↔ Rn 237 20 L (vI 0 :: st) T σ K := R_iconst (n := 0) (by decide +kernel) (by decide)
theorem s237_20 : Rn 237 20 L st T σ K ↔ Rn 237 21 L (vI 2 :: st) T σ K := R_iconst (n := 2) (by decide +kernel) (by decide)
theorem s237_21 : Rn 237 21 L (vI c :: vI b :: vI a :: st) T σ K ↔ st.length ≤ 4 ∧ Rn 185 0 [some (vI a), some (vI b), some (vI c)] [] T σ (fun r T' σ' => Rn 237 24 L (sx_push r st) T' σ' K) := R_S (cm := 185) (n := 3) (idx := 189) (mx := 3) (vs := [vI a, vI b, vI c]) (by decide +kernel) (Or.inl (by decide +kernel)) rfl (by decide +kernel) rfl (by decide +kernel)
theorem s237_24 : Rn 237 24 L (vI a :: st) T σ K ↔ (a ≠ 0 → Rn 237 29 L st T σ K) ∧ (a = 0 → Rn 237 27 L st T σ K) := R_if_ne (off := 5) (by decide +kernel) (by decide)
theorem s237_27 : Rn 237 27 L st T σ K ↔ Rn 237 28 L (vI (-1) :: st) T σ K := R_iconst (n := -1) (by decide +kernel) (by decide)
theorem s237_28 : Rn 237 28 L [vI a] T σ K ↔ K (some (vI a)) T σ := R_ret (by decide +kernel) (by decide +kernel)
theorem s237_29 : Rn 237 29 [some (vR o), l1, l2, l3, l4, l5, l6, l7] st T σ K ↔ Rn 237 30 [some (vR o), l1, l2, l3, l4, l5, l6, l7] (vR o :: st) T σ K := R_aload_n (n := 0) (by decide +kernel) rfl
theorem s237_30 : Rn 237 30 L (vR o :: st) T σ K ↔ (sx_kd T o = 9 ∧ st.length ≤ 4) ∧ Rn 227 0 [some (vR o), none] [] T σ (fun r T' σ' => Rn 237 33 L (sx_push r st) T' σ' K) := R_V (cm := 227) (n := 0) (idx := 293) (ci := 9) (mx := 2) (vs := []) (by decide +kernel) (by decide +kernel) rfl (by decide +kernel) rfl (by decide +kernel) (by decide +kernel)
theorem s237_33 : Rn 237 33 L st T σ K ↔ Rn 237 35 L (vI 10 :: st) T σ K := R_bipush (n := 10) (by decide +kernel) (by decide +kernel)
theorem s237_35 : Rn 237 35 [l0, l1, l2, l3, l4, l5, l6, l7] (vI a :: st) T σ K ↔ Rn 237 37 [l0, l1, l2, l3, l4, some (vI a), l6, l7] st T σ K := R_istore (n := 5) (by decide +kernel) rfl
theorem s237_37 : Rn 237 37 [l0, l1, l2, l3, l4, some (vI a), l6, l7] st T σ K ↔ Rn 237 39 [l0, l1, l2, l3, l4, some (vI a), l6, l7] (vI a :: st) T σ K := R_iload (n := 5) (by decide +kernel) rfl
theorem s237_39 : Rn 237 39 L (vI a :: st) T σ K ↔ (a ≤ 0 → Rn 237 125 L st T σ K) ∧ (0 < a → Rn 237 42 L st T σ K) := R_if_le (off := 86) (by decide +kernel) (by decide)
theorem s237_42 : Rn 237 42 [some (vR o), l1, l2, l3, l4, l5, l6, l7] st T σ K ↔ Rn 237 43 [some (vR o), l1, l2, l3, l4, l5, l6, l7] (vR o :: st) T σ K := R_aload_n (n := 0) (by decide +kernel) rfl
theorem s237_43 : Rn 237 43 [l0, l1, l2, l3, l4, some (vI a), l6, l7] st T σ K ↔ Rn 237 45 [l0, l1, l2, l3, l4, some (vI a), l6, l7] (vI a :: st) T σ K := R_iload (n := 5) (by decide +kernel) rfl
theorem s237_45 : Rn 237 45 [l0, some (vI a), l2, l3, l4, l5, l6, l7] st T σ K ↔ Rn 237 46 [l0, some (vI a), l2, l3, l4, l5, l6, l7] (vI a :: st) T σ K := R_iload_n (n := 1) (by decide +kernel) rfl
theorem s237_46 : Rn 237 46 [l0, l1, some (vI a), l3, l4, l5, l6, l7] st T σ K ↔ Rn 237 47 [l0, l1, some (vI a), l3, l4, l5, l6, l7] (vI a :: st) T σ K := R_iload_n (n := 2) (by decide +kernel) rfl
theorem s237_47 : Rn 237 47 [l0, l1, l2, some (vI a), l4, l5, l6, l7] st T σ K ↔ Rn 237 48 [l0, l1, l2, some (vI a), l4, l5, l6, l7] (vI a :: st) T σ K := R_iload_n (n := 3) (by decide +kernel) rfl
theorem s237_48 : Rn 237 48 L st T σ K ↔ Rn 237 49 L (vI 1 :: st) T σ K := R_iconst (n := 1) (by decide +kernel) (by decide)
theorem s237_49 : Rn 237 49 L (vI e :: vI d :: vI c :: vI b :: vI a :: vR o :: st) T σ K ↔ (sx_kd T o = 9 ∧ st.length ≤ 4) ∧ Rn 228 0 [some (vR o), some (vI a), some (vI b), some (vI c), some (vI d), some (vI e), none, none] [] T σ (fun r T' σ' => Rn 237 52 L (sx_push r st) T' σ' K) := R_V (cm := 228) (n := 5) (idx := 296) (ci := 9) (mx := 8) (vs := [vI a, vI b, vI c, vI d, vI e]) (by decide +kernel) (by decide +kernel) rfl (by decide +kernel) rfl (by decide +kernel) (by decide +kernel)
theorem s237_52 : Rn 237 52 [some (vR o), l1, l2, l3, l4, l5, l6, l7] st T σ K ↔ Rn 237 53 [some (vR o), l1, l2, l3, l4, l5, l6, l7] (vR o :: st) T σ K := R_aload_n (n := 0) (by decide +kernel) rfl
theorem s237_53 : Rn 237 53 [some (vR o), l1, l2, l3, l4, l5, l6, l7] st T σ K ↔ Rn 237 54 [some (vR o), l1, l2, l3, l4, l5, l6, l7] (vR o :: st) T σ K := R_aload_n (n := 0) (by decide +kernel) rfl
theorem s237_54 : Rn 237 54 L (vR o :: st) T σ K ↔ sx_kd T o = 9 ∧ Rn 237 57 L (vI (σ o 24) :: st) T σ K := R_getI (idx := 84) (ci := 9) (k := 24) (by decide +kernel) (by decide +kernel) (Or.inl rfl)
theorem s237_57 : Rn 237 57 [l0, some (vI a), l2, l3, l4, l5, l6, l7] st T σ K ↔ Rn 237 58 [l0, some (vI a), l2, l3, l4, l5, l6, l7] (vI a :: st) T σ K := R_iload_n (n := 1) (by decide +kernel) rfl
theorem s237_58 : Rn 237 58 [l0, l1, some (vI a), l3, l4, l5, l6, l7] st T σ K ↔ Rn 237 59 [l0, l1, some (vI a), l3, l4, l5, l6, l7] (vI a :: st) T σ K := R_iload_n (n := 2) (by decide +kernel) rfl
theorem s237_59 : Rn 237 59 [l0, l1, l2, some (vI a), l4, l5, l6, l7] st T σ K ↔ Rn 237 60 [l0, l1, l2, some (vI a), l4, l5, l6, l7] (vI a :: st) T σ K := R_iload_n (n := 3) (by decide +kernel) rfl
theorem s237_60 : Rn 237 60 L (vI d :: vI c :: vI b :: vI a :: vR o :: st) T σ K ↔ (sx_kd T o = 9 ∧ st.length ≤ 4) ∧ Rn 195 0 [some (vR o), some (vI a), some (vI b), some (vI c), some (vI d)] [] T σ (fun r T' σ' => Rn 237 63 L (sx_push r st) T' σ' K) := R_V (cm := 195) (n := 4) (idx := 223) (ci := 9) (mx := 5) (vs := [vI a, vI b, vI c, vI d]) (by decide +kernel) (by decide +kernel) rfl (by decide +kernel) rfl (by decide +kernel) (by decide +kernel)
theorem s237_63 : Rn 237 63 [l0, l1, l2, l3, l4, l5, l6, l7] (vI a :: st) T σ K ↔ Rn 237 65 [l0, l1, l2, l3, l4, l5, some (vI a), l7] st T σ K := R_istore (n := 6) (by decide +kernel) rfl
theorem s237_65 : Rn 237 65 L st T σ K ↔ Rn 237 66 L (vI 0 :: st) T σ K := R_iconst (n := 0) (by decide +kernel) (by decide)
theorem s237_66 : Rn 237 66 [l0, l1, l2, l3, l4, l5, l6, l7] (vI a :: st) T σ K ↔ Rn 237 68 [l0, l1, l2, l3, l4, l5, l6, some (vI a)] st T σ K := R_istore (n := 7) (by decide +kernel) rfl
theorem s237_68 : Rn 237 68 [l0, l1, l2, l3, l4, l5, l6, some (vI a)] st T σ K ↔ Rn 237 70 [l0, l1, l2, l3, l4, l5, l6, some (vI a)] (vI a :: st) T σ K := R_iload (n := 7) (by decide +kernel) rfl
theorem s237_70 : Rn 237 70 L st T σ K ↔ Rn 237 72 L (vI 40 :: st) T σ K := R_bipush (n := 40) (by decide +kernel) (by decide +kernel)
theorem s237_72 : Rn 237 72 L (vI b :: vI a :: st) T σ K ↔ (b ≤ a → Rn 237 119 L st T σ K) ∧ (a < b → Rn 237 75 L st T σ K) := R_icmp_ge (off := 47) (by decide +kernel) (by decide)
theorem s237_75 : Rn 237 75 [some (vR o), l1, l2, l3, l4, l5, l6, l7] st T σ K ↔ Rn 237 76 [some (vR o), l1, l2, l3, l4, l5, l6, l7] (vR o :: st) T σ K := R_aload_n (n := 0) (by decide +kernel) rfl
theorem s237_76 : Rn 237 76 L (vR o :: st) T σ K ↔ sx_kd T o = 9 ∧ ∃ t, sx_rf T o 23 = some t ∧ Rn 237 79 L (vR t :: st) T σ K := R_getR (idx := 81) (ci := 9) (k := 23) (by decide +kernel) (by decide +kernel) rfl
theorem s237_79 : Rn 237 79 [l0, l1, l2, l3, l4, l5, l6, some (vI a)] st T σ K ↔ Rn 237 81 [l0, l1, l2, l3, l4, l5, l6, some (vI a)] (vI a :: st) T σ K := R_iload (n := 7) (by decide +kernel) rfl
theorem s237_81 : Rn 237 81 L (vI a :: vR o :: st) T σ K ↔ (sx_kd T o = 20 ∧ 0 ≤ a ∧ a < sx_ln T o) ∧ Rn 237 82 L (vI (σ o a) :: st) T σ K := R_iald (by decide +kernel) (by decide)
theorem s237_82 : Rn 237 82 L st T σ K ↔ Rn 237 83 L (vI 1 :: st) T σ K := R_iconst (n := 1) (by decide +kernel) (by decide)
theorem s237_83 : Rn 237 83 L (vI b :: vI a :: st) T σ K ↔ (a ≠ b → Rn 237 113 L st T σ K) ∧ (a = b → Rn 237 86 L st T σ K) := R_icmp_ne (off := 30) (by decide +kernel) (by decide)
theorem s237_86 : Rn 237 86 [some (vR o), l1, l2, l3, l4, l5, l6, l7] st T σ K ↔ Rn 237 87 [some (vR o), l1, l2, l3, l4, l5, l6, l7] (vR o :: st) T σ K := R_aload_n (n := 0) (by decide +kernel) rfl
theorem s237_87 : Rn 237 87 [l0, l1, l2, l3, l4, l5, l6, some (vI a)] st T σ K ↔ Rn 237 89 [l0, l1, l2, l3, l4, l5, l6, some (vI a)] (vI a :: st) T σ K := R_iload (n := 7) (by decide +kernel) rfl
theorem s237_89 : Rn 237 89 [l0, some (vI a), l2, l3, l4, l5, l6, l7] st T σ K ↔ Rn 237 90 [l0, some (vI a), l2, l3, l4, l5, l6, l7] (vI a :: st) T σ K := R_iload_n (n := 1) (by decide +kernel) rfl
theorem s237_90 : Rn 237 90 [l0, l1, some (vI a), l3, l4, l5, l6, l7] st T σ K ↔ Rn 237 91 [l0, l1, some (vI a), l3, l4, l5, l6, l7] (vI a :: st) T σ K := R_iload_n (n := 2) (by decide +kernel) rfl
theorem s237_91 : Rn 237 91 [l0, l1, l2, some (vI a), l4, l5, l6, l7] st T σ K ↔ Rn 237 92 [l0, l1, l2, some (vI a), l4, l5, l6, l7] (vI a :: st) T σ K := R_iload_n (n := 3) (by decide +kernel) rfl
theorem s237_92 : Rn 237 92 L (vI d :: vI c :: vI b :: vI a :: vR o :: st) T σ K ↔ (sx_kd T o = 9 ∧ st.length ≤ 4) ∧ Rn 195 0 [some (vR o), some (vI a), some (vI b), some (vI c), some (vI d)] [] T σ (fun r T' σ' => Rn 237 95 L (sx_push r st) T' σ' K) := R_V (cm := 195) (n := 4) (idx := 223) (ci := 9) (mx := 5) (vs := [vI a, vI b, vI c, vI d]) (by decide +kernel) (by decide +kernel) rfl (by decide +kernel) rfl (by decide +kernel) (by decide +kernel)
theorem s237_95 : Rn 237 95 L st T σ K ↔ Rn 237 96 L (vI 1 :: st) T σ K := R_iconst (n := 1) (by decide +kernel) (by decide)
theorem s237_96 : Rn 237 96 [l0, l1, l2, l3, l4, some (vI a), l6, l7] st T σ K ↔ Rn 237 98 [l0, l1, l2, l3, l4, some (vI a), l6, l7] (vI a :: st) T σ K := R_iload (n := 5) (by decide +kernel) rfl
theorem s237_98 : Rn 237 98 L (vI b :: vI a :: st) T σ K ↔ (0 ≤ b ∧ b ≤ 31) ∧ inI (a * 2 ^ b.toNat) ∧ Rn 237 99 L (vI (a * 2 ^ b.toNat) :: st) T σ K := R_ishl (by decide +kernel)
theorem s237_99 : Rn 237 99 L (vI b :: vI a :: st) T σ K ↔ inI (a + b) ∧ Rn 237 100 L (vI (a + b) :: st) T σ K := R_iadd (by decide +kernel)
theorem s237_100 : Rn 237 100 [l0, l1, l2, l3, l4, l5, some (vI a), l7] st T σ K ↔ Rn 237 102 [l0, l1, l2, l3, l4, l5, some (vI a), l7] (vI a :: st) T σ K := R_iload (n := 6) (by decide +kernel) rfl
theorem s237_102 : Rn 237 102 L (vI b :: vI a :: st) T σ K ↔ (b < a → Rn 237 113 L st T σ K) ∧ (a ≤ b → Rn 237 105 L st T σ K) := R_icmp_gt (off := 11) (by decide +kernel) (by decide)
theorem s237_105 : Rn 237 105 [some (vR o), l1, l2, l3, l4, l5, l6, l7] st T σ K ↔ Rn 237 106 [some (vR o), l1, l2, l3, l4, l5, l6, l7] (vR o :: st) T σ K := R_aload_n (n := 0) (by decide +kernel) rfl
theorem s237_106 : Rn 237 106 L (vR o :: st) T σ K ↔ sx_kd T o = 9 ∧ ∃ t, sx_rf T o 23 = some t ∧ Rn 237 109 L (vR t :: st) T σ K := R_getR (idx := 81) (ci := 9) (k := 23) (by decide +kernel) (by decide +kernel) rfl
theorem s237_109 : Rn 237 109 [l0, l1, l2, l3, l4, l5, l6, some (vI a)] st T σ K ↔ Rn 237 111 [l0, l1, l2, l3, l4, l5, l6, some (vI a)] (vI a :: st) T σ K := R_iload (n := 7) (by decide +kernel) rfl
theorem s237_111 : Rn 237 111 L st T σ K ↔ Rn 237 112 L (vI 2 :: st) T σ K := R_iconst (n := 2) (by decide +kernel) (by decide)
theorem s237_112 : Rn 237 112 L (vI b :: vI a :: vR o :: st) T σ K ↔ (sx_kd T o = 20 ∧ 0 ≤ a ∧ a < sx_ln T o) ∧ Rn 237 113 L st T (sx_up σ o a b) K := R_iast (by decide +kernel)
theorem s237_113 : Rn 237 113 [l0, l1, l2, l3, l4, l5, l6, some (vI a)] st T σ K ↔ inI (a + 1) ∧ Rn 237 116 [l0, l1, l2, l3, l4, l5, l6, some (vI (a + 1))] st T σ K := R_iinc (n := 7) (d := 1) (by decide +kernel) rfl
theorem s237_116 : Rn 237 116 L st T σ K ↔ Rn 237 68 L st T σ K := R_goto (off := -48) (by decide +kernel) (by decide)
theorem s237_119 : Rn 237 119 [l0, l1, l2, l3, l4, some (vI a), l6, l7] st T σ K ↔ inI (a + (-1)) ∧ Rn 237 122 [l0, l1, l2, l3, l4, some (vI (a + (-1))), l6, l7] st T σ K := R_iinc (n := 5) (d := -1) (by decide +kernel) rfl
theorem s237_122 : Rn 237 122 L st T σ K ↔ Rn 237 37 L st T σ K := R_goto (off := -85) (by decide +kernel) (by decide)
theorem s237_125 : Rn 237 125 [l0, l1, l2, l3, some (vI a), l5, l6, l7] st T σ K ↔ Rn 237 127 [l0, l1, l2, l3, some (vI a), l5, l6, l7] (vI a :: st) T σ K := R_iload (n := 4) (by decide +kernel) rfl
theorem s237_127 : Rn 237 127 L (vI a :: st) T σ K ↔ (a ≠ 0 → Rn 237 137 L st T σ K) ∧ (a = 0 → Rn 237 130 L st T σ K) := R_if_ne (off := 10) (by decide +kernel) (by decide)
theorem s237_130 : Rn 237 130 [some (vR o), l1, l2, l3, l4, l5, l6, l7] st T σ K ↔ Rn 237 131 [some (vR o), l1, l2, l3, l4, l5, l6, l7] (vR o :: st) T σ K := R_aload_n (n := 0) (by decide +kernel) rfl
theorem s237_131 : Rn 237 131 L (vR o :: st) T σ K ↔ sx_kd T o = 9 ∧ Rn 237 134 L (vI (σ o 24) :: st) T σ K := R_getI (idx := 84) (ci := 9) (k := 24) (by decide +kernel) (by decide +kernel) (Or.inl rfl)
theorem s237_134 : Rn 237 134 L st T σ K ↔ Rn 237 161 L st T σ K := R_goto (off := 27) (by decide +kernel) (by decide)
theorem s237_137 : Rn 237 137 [l0, l1, l2, l3, some (vI a), l5, l6, l7] st T σ K ↔ Rn 237 139 [l0, l1, l2, l3, some (vI a), l5, l6, l7] (vI a :: st) T σ K := R_iload (n := 4) (by decide +kernel) rfl
theorem s237_139 : Rn 237 139 L st T σ K ↔ Rn 237 140 L (vI 1 :: st) T σ K := R_iconst (n := 1) (by decide +kernel) (by decide)
theorem s237_140 : Rn 237 140 L (vI b :: vI a :: st) T σ K ↔ (a ≠ b → Rn 237 157 L st T σ K) ∧ (a = b → Rn 237 143 L st T σ K) := R_icmp_ne (off := 17) (by decide +kernel) (by decide)
theorem s237_143 : Rn 237 143 [some (vR o), l1, l2, l3, l4, l5, l6, l7] st T σ K ↔ Rn 237 144 [some (vR o), l1, l2, l3, l4, l5, l6, l7] (vR o :: st) T σ K := R_aload_n (n := 0) (by decide +kernel) rfl
theorem s237_144 : Rn 237 144 [some (vR o), l1, l2, l3, l4, l5, l6, l7] st T σ K ↔ Rn 237 145 [some (vR o), l1, l2, l3, l4, l5, l6, l7] (vR o :: st) T σ K := R_aload_n (n := 0) (by decide +kernel) rfl
theorem s237_145 : Rn 237 145 L (vR o :: st) T σ K ↔ sx_kd T o = 9 ∧ Rn 237 148 L (vI (σ o 24) :: st) T σ K := R_getI (idx := 84) (ci := 9) (k := 24) (by decide +kernel) (by decide +kernel) (Or.inl rfl)
theorem s237_148 : Rn 237 148 [l0, some (vI a), l2, l3, l4, l5, l6, l7] st T σ K ↔ Rn 237 149 [l0, some (vI a), l2, l3, l4, l5, l6, l7] (vI a :: st) T σ K := R_iload_n (n := 1) (by decide +kernel) rfl
theorem s237_149 : Rn 237 149 [l0, l1, some (vI a), l3, l4, l5, l6, l7] st T σ K ↔ Rn 237 150 [l0, l1, some (vI a), l3, l4, l5, l6, l7] (vI a :: st) T σ K := R_iload_n (n := 2) (by decide +kernel) rfl
theorem s237_150 : Rn 237 150 [l0, l1, l2, some (vI a), l4, l5, l6, l7] st T σ K ↔ Rn 237 151 [l0, l1, l2, some (vI a), l4, l5, l6, l7] (vI a :: st) T σ K := R_iload_n (n := 3) (by decide +kernel) rfl
theorem s237_151 : Rn 237 151 L (vI d :: vI c :: vI b :: vI a :: vR o :: st) T σ K ↔ (sx_kd T o = 9 ∧ st.length ≤ 4) ∧ Rn 195 0 [some (vR o), some (vI a), some (vI b), some (vI c), some (vI d)] [] T σ (fun r T' σ' => Rn 237 154 L (sx_push r st) T' σ' K) := R_V (cm := 195) (n := 4) (idx := 223) (ci := 9) (mx := 5) (vs := [vI a, vI b, vI c, vI d]) (by decide +kernel) (by decide +kernel) rfl (by decide +kernel) rfl (by decide +kernel) (by decide +kernel)
theorem s237_154 : Rn 237 154 L st T σ K ↔ Rn 237 161 L st T σ K := R_goto (off := 7) (by decide +kernel) (by decide)
theorem s237_157 : Rn 237 157 [some (vR o), l1, l2, l3, l4, l5, l6, l7] st T σ K ↔ Rn 237 158 [some (vR o), l1, l2, l3, l4, l5, l6, l7] (vR o :: st) T σ K := R_aload_n (n := 0) (by decide +kernel) rfl
theorem s237_158 : Rn 237 158 L (vR o :: st) T σ K ↔ sx_kd T o = 9 ∧ Rn 237 161 L (vI (σ o 25) :: st) T σ K := R_getI (idx := 87) (ci := 9) (k := 25) (by decide +kernel) (by decide +kernel) (Or.inl rfl)
theorem s237_161 : Rn 237 161 L [vI a] T σ K ↔ K (some (vI a)) T σ := R_ret (by decide +kernel) (by decide +kernel)
theorem s238_0 : Rn 238 0 [some (vR o), l1, l2] st T σ K ↔ Rn 238 1 [some (vR o), l1, l2] (vR o :: st) T σ K := R_aload_n (n := 0) (by decide +kernel) rfl
theorem s238_1 : Rn 238 1 L (vR o :: st) T σ K ↔ (sx_kd T o = 9 ∧ st.length ≤ 4) ∧ Rn 239 0 [some (vR o), none, none, none] [] T σ (fun r T' σ' => Rn 238 4 L (sx_push r st) T' σ' K) := R_V (cm := 239) (n := 0) (idx := 307) (ci := 9) (mx := 4) (vs := []) (by decide +kernel) (by decide +kernel) rfl (by decide +kernel) rfl (by decide +kernel) (by decide +kernel)
theorem s238_4 : Rn 238 4 [l0, l1, l2] (vI a :: st) T σ K ↔ Rn 238 5 [l0, l1, some (vI a)] st T σ K := R_istore_n (n := 2) (by decide +kernel) rfl
theorem s238_5 : Rn 238 5 [l0, some (vI a), l2] st T σ K ↔ Rn 238 6 [l0, some (vI a), l2] (vI a :: st) T σ K := R_iload_n (n := 1) (by decide +kernel) rfl
theorem s238_6 : Rn 238 6 L st T σ K ↔ Rn 238 7 L (vI 0 :: st) T σ K := R_iconst (n := 0) (by decide +kernel) (by decide)
theorem s238_7 : Rn 238 7 [l0, l1, some (vI a)] st T σ K ↔ Rn 238 8 [l0, l1, some (vI a)] (vI a :: st) T σ K := R_iload_n (n := 2) (by decide +kernel) rfl
theorem s238_8 : Rn 238 8 L st T σ K ↔ Rn 238 9 L (vI 1 :: st) T σ K := R_iconst (n := 1) (by decide +kernel) (by decide)
theorem s238_9 : Rn 238 9 L (vI b :: vI a :: st) T σ K ↔ inI (a - b) ∧ Rn 238 10 L (vI (a - b) :: st) T σ K := R_isub (by decide +kernel)
theorem s238_10 : Rn 238 10 L (vI c :: vI b :: vI a :: st) T σ K ↔ st.length ≤ 4 ∧ Rn 185 0 [some (vI a), some (vI b), some (vI c)] [] T σ (fun r T' σ' => Rn 238 13 L (sx_push r st) T' σ' K) := R_S (cm := 185) (n := 3) (idx := 189) (mx := 3) (vs := [vI a, vI b, vI c]) (by decide +kernel) (Or.inl (by decide +kernel)) rfl (by decide +kernel) rfl (by decide +kernel)
theorem s238_13 : Rn 238 13 L (vI a :: st) T σ K ↔ (a = 0 → Rn 238 25 L st T σ K) ∧ (a ≠ 0 → Rn 238 16 L st T σ K) := R_if_eq (off := 12) (by decide +kernel) (by decide)
theorem s238_16 : Rn 238 16 [some (vR o), l1, l2] st T σ K ↔ Rn 238 17 [some (vR o), l1, l2] (vR o :: st) T σ K := R_aload_n (n := 0) (by decide +kernel) rfl
theorem s238_17 : Rn 238 17 L (vR o :: st) T σ K ↔ sx_kd T o = 9 ∧ ∃ t, sx_rf T o 32 = some t ∧ Rn 238 20 L (vR t :: st) T σ K := R_getR (idx := 108) (ci := 9) (k := 32) (by decide +kernel) (by decide +kernel) rfl
theorem s238_20 : Rn 238 20 [l0, some (vI a), l2] st T σ K ↔ Rn 238 21 [l0, some (vI a), l2] (vI a :: st) T σ K := R_iload_n (n := 1) (by decide +kernel) rfl
theorem s238_21 : Rn 238 21 L (vI a :: vR o :: st) T σ K ↔ (sx_kd T o = 20 ∧ 0 ≤ a ∧ a < sx_ln T o) ∧ Rn 238 22 L (vI (σ o a) :: st) T σ K := R_iald (by decide +kernel) (by decide)
theorem s238_22 : Rn 238 22 L st T σ K ↔ Rn 238 26 L st T σ K := R_goto (off := 4) (by decide +kernel) (by decide)
theorem s238_25 : Rn 238 25 L st T σ K ↔ Rn 238 26 L (vI (-1) :: st) T σ K := R_iconst (n := -1) (by decide +kernel) (by decide)
theorem s238_26 : Rn 238 26 L [vI a] T σ K ↔ K (some (vI a)) T σ := R_ret (by decide +kernel) (by decide +kernel)
theorem s239_0 : Rn 239 0 L st T σ K ↔ Rn 239 1 L (vI 0 :: st) T σ K := R_iconst (n := 0) (by decide +kernel) (by decide)
theorem s239_1 : Rn 239 1 [l0, l1, l2, l3] (vI a :: st) T σ K ↔ Rn 239 2 [l0, some (vI a), l2, l3] st T σ K := R_istore_n (n := 1) (by decide +kernel) rfl
theorem s239_2 : Rn 239 2 L st T σ K ↔ Rn 239 3 L (vI 0 :: st) T σ K := R_iconst (n := 0) (by decide +kernel) (by decide)
theorem s239_3 : Rn 239 3 [l0, l1, l2, l3] (vI a :: st) T σ K ↔ Rn 239 4 [l0, l1, some (vI a), l3] st T σ K := R_istore_n (n := 2) (by decide +kernel) rfl
theorem s239_4 : Rn 239 4 [l0, l1, some (vI a), l3] st T σ K ↔ Rn 239 5 [l0, l1, some (vI a), l3] (vI a :: st) T σ K := R_iload_n (n := 2) (by decide +kernel) rfl
theorem s239_5 : Rn 239 5 L st T σ K ↔ Rn 239 7 L (vI 40 :: st) T σ K := R_bipush (n := 40) (by decide +kernel) (by decide +kernel)
theorem s239_7 : Rn 239 7 L (vI b :: vI a :: st) T σ K ↔ (b ≤ a → Rn 239 23 L st T σ K) ∧ (a < b → Rn 239 10 L st T σ K) := R_icmp_ge (off := 16) (by decide +kernel) (by decide)
theorem s239_10 : Rn 239 10 [some (vR o), l1, l2, l3] st T σ K ↔ Rn 239 11 [some (vR o), l1, l2, l3] (vR o :: st) T σ K := R_aload_n (n := 0) (by decide +kernel) rfl
theorem s239_11 : Rn 239 11 L (vR o :: st) T σ K ↔ sx_kd T o = 9 ∧ ∃ t, sx_rf T o 33 = some t ∧ Rn 239 14 L (vR t :: st) T σ K := R_getR (idx := 111) (ci := 9) (k := 33) (by decide +kernel) (by decide +kernel) rfl
theorem s239_14 : Rn 239 14 [l0, l1, some (vI a), l3] st T σ K ↔ Rn 239 15 [l0, l1, some (vI a), l3] (vI a :: st) T σ K := R_iload_n (n := 2) (by decide +kernel) rfl
theorem s239_15 : Rn 239 15 L st T σ K ↔ Rn 239 16 L (vI 0 :: st) T σ K := R_iconst (n := 0) (by decide +kernel) (by decide)
theorem s239_16 : Rn 239 16 L (vI b :: vI a :: vR o :: st) T σ K ↔ (sx_kd T o = 20 ∧ 0 ≤ a ∧ a < sx_ln T o) ∧ Rn 239 17 L st T (sx_up σ o a b) K := R_iast (by decide +kernel)
theorem s239_17 : Rn 239 17 [l0, l1, some (vI a), l3] st T σ K ↔ inI (a + 1) ∧ Rn 239 20 [l0, l1, some (vI (a + 1)), l3] st T σ K := R_iinc (n := 2) (d := 1) (by decide +kernel) rfl
theorem s239_20 : Rn 239 20 L st T σ K ↔ Rn 239 4 L st T σ K := R_goto (off := -16) (by decide +kernel) (by decide)
theorem s239_23 : Rn 239 23 [some (vR o), l1, l2, l3] st T σ K ↔ Rn 239 24 [some (vR o), l1, l2, l3] (vR o :: st) T σ K := R_aload_n (n := 0) (by decide +kernel) rfl
theorem s239_24 : Rn 239 24 L (vR o :: st) T σ K ↔ (sx_kd T o = 9 ∧ st.length ≤ 4) ∧ Rn 203 0 [some (vR o), none] [] T σ (fun r T' σ' => Rn 239 27 L (sx_push r st) T' σ' K) := R_V (cm := 203) (n := 0) (idx := 251) (ci := 9) (mx := 2) (vs := []) (by decide +kernel) (by decide +kernel) rfl (by decide +kernel) rfl (by decide +kernel) (by decide +kernel)
theorem s239_27 : Rn 239 27 [l0, l1, l2, l3] (vI a :: st) T σ K ↔ Rn 239 28 [l0, l1, some (vI a), l3] st T σ K := R_istore_n (n := 2) (by decide +kernel) rfl
theorem s239_28 : Rn 239 28 [l0, l1, some (vI a), l3] st T σ K ↔ Rn 239 29 [l0, l1, some (vI a), l3] (vI a :: st) T σ K := R_iload_n (n := 2) (by decide +kernel) rfl
theorem s239_29 : Rn 239 29 L st T σ K ↔ Rn 239 30 L (vI (-1) :: st) T σ K := R_iconst (n := -1) (by decide +kernel) (by decide)
theorem s239_30 : Rn 239 30 L (vI b :: vI a :: st) T σ K ↔ (a = b → Rn 239 115 L st T σ K) ∧ (a ≠ b → Rn 239 33 L st T σ K) := R_icmp_eq (off := 85) (by decide +kernel) (by decide)
theorem s239_33 : Rn 239 33 [some (vR o), l1, l2, l3] st T σ K ↔ Rn 239 34 [some (vR o), l1, l2, l3] (vR o :: st) T σ K := R_aload_n (n := 0) (by decide +kernel) rfl
theorem s239_34 : Rn 239 34 L (vR o :: st) T σ K ↔ sx_kd T o = 9 ∧ ∃ t, sx_rf T o 32 = some t ∧ Rn 239 37 L (vR t :: st) T σ K := R_getR (idx := 108) (ci := 9) (k := 32) (by decide +kernel) (by decide +kernel) rfl
theorem s239_37 : Rn 239 37 [l0, some (vI a), l2, l3] st T σ K ↔ Rn 239 38 [l0, some (vI a), l2, l3] (vI a :: st) T σ K := R_iload_n (n := 1) (by decide +kernel) rfl
theorem s239_38 : Rn 239 38 [l0, l1, some (vI a), l3] st T σ K ↔ Rn 239 39 [l0, l1, some (vI a), l3] (vI a :: st) T σ K := R_iload_n (n := 2) (by decide +kernel) rfl
theorem s239_39 : Rn 239 39 L (vI b :: vI a :: vR o :: st) T σ K ↔ (sx_kd T o = 20 ∧ 0 ≤ a ∧ a < sx_ln T o) ∧ Rn 239 40 L st T (sx_up σ o a b) K := R_iast (by decide +kernel)
theorem s239_40 : Rn 239 40 [some (vR o), l1, l2, l3] st T σ K ↔ Rn 239 41 [some (vR o), l1, l2, l3] (vR o :: st) T σ K := R_aload_n (n := 0) (by decide +kernel) rfl
theorem s239_41 : Rn 239 41 L (vR o :: st) T σ K ↔ sx_kd T o = 9 ∧ ∃ t, sx_rf T o 33 = some t ∧ Rn 239 44 L (vR t :: st) T σ K := R_getR (idx := 111) (ci := 9) (k := 33) (by decide +kernel) (by decide +kernel) rfl
theorem s239_44 : Rn 239 44 [l0, l1, some (vI a), l3] st T σ K ↔ Rn 239 45 [l0, l1, some (vI a), l3] (vI a :: st) T σ K := R_iload_n (n := 2) (by decide +kernel) rfl
theorem s239_45 : Rn 239 45 L st T σ K ↔ Rn 239 46 L (vI 1 :: st) T σ K := R_iconst (n := 1) (by decide +kernel) (by decide)
theorem s239_46 : Rn 239 46 L (vI b :: vI a :: vR o :: st) T σ K ↔ (sx_kd T o = 20 ∧ 0 ≤ a ∧ a < sx_ln T o) ∧ Rn 239 47 L st T (sx_up σ o a b) K := R_iast (by decide +kernel)
theorem s239_47 : Rn 239 47 [l0, some (vI a), l2, l3] st T σ K ↔ inI (a + 1) ∧ Rn 239 50 [l0, some (vI (a + 1)), l2, l3] st T σ K := R_iinc (n := 1) (d := 1) (by decide +kernel) rfl
theorem s239_50 : Rn 239 50 L st T σ K ↔ Rn 239 51 L (vI (-1) :: st) T σ K := R_iconst (n := -1) (by decide +kernel) (by decide)
theorem s239_51 : Rn 239 51 [l0, l1, l2, l3] (vI a :: st) T σ K ↔ Rn 239 52 [l0, l1, some (vI a), l3] st T σ K := R_istore_n (n := 2) (by decide +kernel) rfl
theorem s239_52 : Rn 239 52 L st T σ K ↔ Rn 239 53 L (vI 0 :: st) T σ K := R_iconst (n := 0) (by decide +kernel) (by decide)
theorem s239_53 : Rn 239 53 [l0, l1, l2, l3] (vI a :: st) T σ K ↔ Rn 239 54 [l0, l1, l2, some (vI a)] st T σ K := R_istore_n (n := 3) (by decide +kernel) rfl
theorem s239_54 : Rn 239 54 [l0, l1, l2, some (vI a)] st T σ K ↔ Rn 239 55 [l0, l1, l2, some (vI a)] (vI a :: st) T σ K := R_iload_n (n := 3) (by decide +kernel) rfl
theorem s239_55 : Rn 239 55 L st T σ K ↔ Rn 239 57 L (vI 40 :: st) T σ K := R_bipush (n := 40) (by decide +kernel) (by decide +kernel)
theorem s239_57 : Rn 239 57 L (vI b :: vI a :: st) T σ K ↔ (b ≤ a → Rn 239 112 L st T σ K) ∧ (a < b → Rn 239 60 L st T σ K) := R_icmp_ge (off := 55) (by decide +kernel) (by decide)
theorem s239_60 : Rn 239 60 [some (vR o), l1, l2, l3] st T σ K ↔ Rn 239 61 [some (vR o), l1, l2, l3] (vR o :: st) T σ K := R_aload_n (n := 0) (by decide +kernel) rfl
theorem s239_61 : Rn 239 61 L (vR o :: st) T σ K ↔ sx_kd T o = 9 ∧ ∃ t, sx_rf T o 0 = some t ∧ Rn 239 64 L (vR t :: st) T σ K := R_getR (idx := 7) (ci := 9) (k := 0) (by decide +kernel) (by decide +kernel) rfl
theorem s239_64 : Rn 239 64 L st T σ K ↔ Rn 239 65 L (vI 0 :: st) T σ K := R_iconst (n := 0) (by decide +kernel) (by decide)
theorem s239_65 : Rn 239 65 [l0, l1, l2, some (vI a)] st T σ K ↔ Rn 239 66 [l0, l1, l2, some (vI a)] (vI a :: st) T σ K := R_iload_n (n := 3) (by decide +kernel) rfl
theorem s239_66 : Rn 239 66 L (vI b :: vI a :: st) T σ K ↔ inI (a + b) ∧ Rn 239 67 L (vI (a + b) :: st) T σ K := R_iadd (by decide +kernel)
theorem s239_67 : Rn 239 67 L (vI a :: vR o :: st) T σ K ↔ (sx_kd T o = 20 ∧ 0 ≤ a ∧ a < sx_ln T o) ∧ Rn 239 68 L (vI (σ o a) :: st) T σ K := R_iald (by decide +kernel) (by decide)
theorem s239_68 : Rn 239 68 L (vI a :: st) T σ K ↔ (a = 0 → Rn 239 106 L st T σ K) ∧ (a ≠ 0 → Rn 239 71 L st T σ K) := R_if_eq (off := 38) (by decide +kernel) (by decide)
theorem s239_71 : Rn 239 71 [some (vR o), l1, l2, l3] st T σ K ↔ Rn 239 72 [some (vR o), l1, l2, l3] (vR o :: st) T σ K := R_aload_n (n := 0) (by decide +kernel) rfl
theorem s239_72 : Rn 239 72 L (vR o :: st) T σ K ↔ sx_kd T o = 9 ∧ ∃ t, sx_rf T o 33 = some t ∧ Rn 239 75 L (vR t :: st) T σ K := R_getR (idx := 111) (ci := 9) (k := 33) (by decide +kernel) (by decide +kernel) rfl
theorem s239_75 : Rn 239 75 [l0, l1, l2, some (vI a)] st T σ K ↔ Rn 239 76 [l0, l1, l2, some (vI a)] (vI a :: st) T σ K := R_iload_n (n := 3) (by decide +kernel) rfl
theorem s239_76 : Rn 239 76 L (vI a :: vR o :: st) T σ K ↔ (sx_kd T o = 20 ∧ 0 ≤ a ∧ a < sx_ln T o) ∧ Rn 239 77 L (vI (σ o a) :: st) T σ K := R_iald (by decide +kernel) (by decide)
theorem s239_77 : Rn 239 77 L st T σ K ↔ Rn 239 78 L (vI 1 :: st) T σ K := R_iconst (n := 1) (by decide +kernel) (by decide)
theorem s239_78 : Rn 239 78 L (vI b :: vI a :: st) T σ K ↔ (a ≠ b → Rn 239 84 L st T σ K) ∧ (a = b → Rn 239 81 L st T σ K) := R_icmp_ne (off := 6) (by decide +kernel) (by decide)
theorem s239_81 : Rn 239 81 L st T σ K ↔ Rn 239 106 L st T σ K := R_goto (off := 25) (by decide +kernel) (by decide)
theorem s239_84 : Rn 239 84 [l0, l1, some (vI a), l3] st T σ K ↔ Rn 239 85 [l0, l1, some (vI a), l3] (vI a :: st) T σ K := R_iload_n (n := 2) (by decide +kernel) rfl
theorem s239_85 : Rn 239 85 L st T σ K ↔ Rn 239 86 L (vI (-1) :: st) T σ K := R_iconst (n := -1) (by decide +kernel) (by decide)
theorem s239_86 : Rn 239 86 L (vI b :: vI a :: st) T σ K ↔ (a = b → Rn 239 104 L st T σ K) ∧ (a ≠ b → Rn 239 89 L st T σ K) := R_icmp_eq (off := 18) (by decide +kernel) (by decide)
theorem s239_89 : Rn 239 89 [some (vR o), l1, l2, l3] st T σ K ↔ Rn 239 90 [some (vR o), l1, l2, l3] (vR o :: st) T σ K := R_aload_n (n := 0) (by decide +kernel) rfl
theorem s239_90 : Rn 239 90 [l0, l1, l2, some (vI a)] st T σ K ↔ Rn 239 91 [l0, l1, l2, some (vI a)] (vI a :: st) T σ K := R_iload_n (n := 3) (by decide +kernel) rfl
theorem s239_91 : Rn 239 91 [l0, some (vI a), l2, l3] st T σ K ↔ Rn 239 92 [l0, some (vI a), l2, l3] (vI a :: st) T σ K := R_iload_n (n := 1) (by decide +kernel) rfl
theorem s239_92 : Rn 239 92 L (vI b :: vI a :: vR o :: st) T σ K ↔ (sx_kd T o = 9 ∧ st.length ≤ 4) ∧ Rn 240 0 [some (vR o), some (vI a), some (vI b), none, none] [] T σ (fun r T' σ' => Rn 239 95 L (sx_push r st) T' σ' K) := R_V (cm := 240) (n := 2) (idx := 304) (ci := 9) (mx := 5) (vs := [vI a, vI b]) (by decide +kernel) (by decide +kernel) rfl (by decide +kernel) rfl (by decide +kernel) (by decide +kernel)
theorem s239_95 : Rn 239 95 [some (vR o), l1, l2, l3] st T σ K ↔ Rn 239 96 [some (vR o), l1, l2, l3] (vR o :: st) T σ K := R_aload_n (n := 0) (by decide +kernel) rfl
theorem s239_96 : Rn 239 96 [l0, l1, some (vI a), l3] st T σ K ↔ Rn 239 97 [l0, l1, some (vI a), l3] (vI a :: st) T σ K := R_iload_n (n := 2) (by decide +kernel) rfl
theorem s239_97 : Rn 239 97 [l0, some (vI a), l2, l3] st T σ K ↔ Rn 239 98 [l0, some (vI a), l2, l3] (vI a :: st) T σ K := R_iload_n (n := 1) (by decide +kernel) rfl
theorem s239_98 : Rn 239 98 L (vI b :: vI a :: vR o :: st) T σ K ↔ (sx_kd T o = 9 ∧ st.length ≤ 4) ∧ Rn 240 0 [some (vR o), some (vI a), some (vI b), none, none] [] T σ (fun r T' σ' => Rn 239 101 L (sx_push r st) T' σ' K) := R_V (cm := 240) (n := 2) (idx := 304) (ci := 9) (mx := 5) (vs := [vI a, vI b]) (by decide +kernel) (by decide +kernel) rfl (by decide +kernel) rfl (by decide +kernel) (by decide +kernel)
theorem s239_101 : Rn 239 101 L (vI b :: vI a :: st) T σ K ↔ (a ≤ b → Rn 239 106 L st T σ K) ∧ (b < a → Rn 239 104 L st T σ K) := R_icmp_le (off := 5) (by decide +kernel) (by decide)
theorem s239_104 : Rn 239 104 [l0, l1, l2, some (vI a)] st T σ K ↔ Rn 239 105 [l0, l1, l2, some (vI a)] (vI a :: st) T σ K := R_iload_n (n := 3) (by decide +kernel) rfl
theorem s239_105 : Rn 239 105 [l0, l1, l2, l3] (vI a :: st) T σ K ↔ Rn 239 106 [l0, l1, some (vI a), l3] st T σ K := R_istore_n (n := 2) (by decide +kernel) rfl
theorem s239_106 : Rn 239 106 [l0, l1, l2, some (vI a)] st T σ K ↔ inI (a + 1) ∧ Rn 239 109 [l0, l1, l2, some (vI (a + 1))] st T σ K := R_iinc (n := 3) (d := 1) (by decide +kernel) rfl
theorem s239_109 : Rn 239 109 L st T σ K ↔ Rn 239 54 L st T σ K := R_goto (off := -55) (by decide +kernel) (by decide)
theorem s239_112 : Rn 239 112 L st T σ K ↔ Rn 239 28 L st T σ K := R_goto (off := -84) (by decide +kernel) (by decide)
theorem s239_115 : Rn 239 115 [l0, some (vI a), l2, l3] st T σ K ↔ Rn 239 116 [l0, some (vI a), l2, l3] (vI a :: st) T σ K := R_iload_n (n := 1) (by decide +kernel) rfl
theorem s239_116 : Rn 239 116 L [vI a] T σ K ↔ K (some (vI a)) T σ := R_ret (by decide +kernel) (by decide +kernel)
theorem s240_0 : Rn 240 0 L st T σ K ↔ Rn 240 2 L (vI 1000000 :: st) T σ K := R_ldcI (idx := 244) (v := 1000000) (by decide +kernel) (by decide +kernel) (by decide) rfl
theorem s240_2 : Rn 240 2 [l0, l1, l2, l3, l4] (vI a :: st) T σ K ↔ Rn 240 3 [l0, l1, l2, some (vI a), l4] st T σ K := R_istore_n (n := 3) (by decide +kernel) rfl
theorem s240_3 : Rn 240 3 L st T σ K ↔ Rn 240 4 L (vI 0 :: st) T σ K := R_iconst (n := 0) (by decide +kernel) (by decide)
theorem s240_4 : Rn 240 4 [l0, l1, l2, l3, l4] (vI a :: st) T σ K ↔ Rn 240 6 [l0, l1, l2, l3, some (vI a)] st T σ K := R_istore (n := 4) (by decide +kernel) rfl
theorem s240_6 : Rn 240 6 [l0, l1, l2, l3, some (vI a)] st T σ K ↔ Rn 240 8 [l0, l1, l2, l3, some (vI a)] (vI a :: st) T σ K := R_iload (n := 4) (by decide +kernel) rfl
theorem s240_8 : Rn 240 8 [l0, l1, some (vI a), l3, l4] st T σ K ↔ Rn 240 9 [l0, l1, some (vI a), l3, l4] (vI a :: st) T σ K := R_iload_n (n := 2) (by decide +kernel) rfl
theorem s240_9 : Rn 240 9 L (vI b :: vI a :: st) T σ K ↔ (b ≤ a → Rn 240 51 L st T σ K) ∧ (a < b → Rn 240 12 L st T σ K) := R_icmp_ge (off := 42) (by decide +kernel) (by decide)
theorem s240_12 : Rn 240 12 [some (vR o), l1, l2, l3, l4] st T σ K ↔ Rn 240 13 [some (vR o), l1, l2, l3, l4] (vR o :: st) T σ K := R_aload_n (n := 0) (by decide +kernel) rfl
theorem s240_13 : Rn 240 13 [l0, some (vI a), l2, l3, l4] st T σ K ↔ Rn 240 14 [l0, some (vI a), l2, l3, l4] (vI a :: st) T σ K := R_iload_n (n := 1) (by decide +kernel) rfl
theorem s240_14 : Rn 240 14 [some (vR o), l1, l2, l3, l4] st T σ K ↔ Rn 240 15 [some (vR o), l1, l2, l3, l4] (vR o :: st) T σ K := R_aload_n (n := 0) (by decide +kernel) rfl
theorem s240_15 : Rn 240 15 L (vR o :: st) T σ K ↔ sx_kd T o = 9 ∧ ∃ t, sx_rf T o 32 = some t ∧ Rn 240 18 L (vR t :: st) T σ K := R_getR (idx := 108) (ci := 9) (k := 32) (by decide +kernel) (by decide +kernel) rfl
theorem s240_18 : Rn 240 18 [l0, l1, l2, l3, some (vI a)] st T σ K ↔ Rn 240 20 [l0, l1, l2, l3, some (vI a)] (vI a :: st) T σ K := R_iload (n := 4) (by decide +kernel) rfl
theorem s240_20 : Rn 240 20 L (vI a :: vR o :: st) T σ K ↔ (sx_kd T o = 20 ∧ 0 ≤ a ∧ a < sx_ln T o) ∧ Rn 240 21 L (vI (σ o a) :: st) T σ K := R_iald (by decide +kernel) (by decide)
theorem s240_21 : Rn 240 21 L (vI b :: vI a :: vR o :: st) T σ K ↔ (sx_kd T o = 9 ∧ st.length ≤ 4) ∧ Rn 216 0 [some (vR o), some (vI a), some (vI b)] [] T σ (fun r T' σ' => Rn 240 24 L (sx_push r st) T' σ' K) := R_V (cm := 216) (n := 2) (idx := 238) (ci := 9) (mx := 3) (vs := [vI a, vI b]) (by decide +kernel) (by decide +kernel) rfl (by decide +kernel) rfl (by decide +kernel) (by decide +kernel)
theorem s240_24 : Rn 240 24 [l0, l1, l2, some (vI a), l4] st T σ K ↔ Rn 240 25 [l0, l1, l2, some (vI a), l4] (vI a :: st) T σ K := R_iload_n (n := 3) (by decide +kernel) rfl
theorem s240_25 : Rn 240 25 L (vI b :: vI a :: st) T σ K ↔ (b ≤ a → Rn 240 43 L st T σ K) ∧ (a < b → Rn 240 28 L st T σ K) := R_icmp_ge (off := 18) (by decide +kernel) (by decide)
theorem s240_28 : Rn 240 28 [some (vR o), l1, l2, l3, l4] st T σ K ↔ Rn 240 29 [some (vR o), l1, l2, l3, l4] (vR o :: st) T σ K := R_aload_n (n := 0) (by decide +kernel) rfl
theorem s240_29 : Rn 240 29 [l0, some (vI a), l2, l3, l4] st T σ K ↔ Rn 240 30 [l0, some (vI a), l2, l3, l4] (vI a :: st) T σ K := R_iload_n (n := 1) (by decide +kernel) rfl
theorem s240_30 : Rn 240 30 [some (vR o), l1, l2, l3, l4] st T σ K ↔ Rn 240 31 [some (vR o), l1, l2, l3, l4] (vR o :: st) T σ K := R_aload_n (n := 0) (by decide +kernel) rfl
theorem s240_31 : Rn 240 31 L (vR o :: st) T σ K ↔ sx_kd T o = 9 ∧ ∃ t, sx_rf T o 32 = some t ∧ Rn 240 34 L (vR t :: st) T σ K := R_getR (idx := 108) (ci := 9) (k := 32) (by decide +kernel) (by decide +kernel) rfl
theorem s240_34 : Rn 240 34 [l0, l1, l2, l3, some (vI a)] st T σ K ↔ Rn 240 36 [l0, l1, l2, l3, some (vI a)] (vI a :: st) T σ K := R_iload (n := 4) (by decide +kernel) rfl
theorem s240_36 : Rn 240 36 L (vI a :: vR o :: st) T σ K ↔ (sx_kd T o = 20 ∧ 0 ≤ a ∧ a < sx_ln T o) ∧ Rn 240 37 L (vI (σ o a) :: st) T σ K := R_iald (by decide +kernel) (by decide)
theorem s240_37 : Rn 240 37 L (vI b :: vI a :: vR o :: st) T σ K ↔ (sx_kd T o = 9 ∧ st.length ≤ 4) ∧ Rn 216 0 [some (vR o), some (vI a), some (vI b)] [] T σ (fun r T' σ' => Rn 240 40 L (sx_push r st) T' σ' K) := R_V (cm := 216) (n := 2) (idx := 238) (ci := 9) (mx := 3) (vs := [vI a, vI b]) (by decide +kernel) (by decide +kernel) rfl (by decide +kernel) rfl (by decide +kernel) (by decide +kernel)
theorem s240_40 : Rn 240 40 L st T σ K ↔ Rn 240 44 L st T σ K := R_goto (off := 4) (by decide +kernel) (by decide)
theorem s240_43 : Rn 240 43 [l0, l1, l2, some (vI a), l4] st T σ K ↔ Rn 240 44 [l0, l1, l2, some (vI a), l4] (vI a :: st) T σ K := R_iload_n (n := 3) (by decide +kernel) rfl
theorem s240_44 : Rn 240 44 [l0, l1, l2, l3, l4] (vI a :: st) T σ K ↔ Rn 240 45 [l0, l1, l2, some (vI a), l4] st T σ K := R_istore_n (n := 3) (by decide +kernel) rfl
theorem s240_45 : Rn 240 45 [l0, l1, l2, l3, some (vI a)] st T σ K ↔ inI (a + 1) ∧ Rn 240 48 [l0, l1, l2, l3, some (vI (a + 1))] st T σ K := R_iinc (n := 4) (d := 1) (by decide +kernel) rfl
theorem s240_48 : Rn 240 48 L st T σ K ↔ Rn 240 6 L st T σ K := R_goto (off := -42) (by decide +kernel) (by decide)
theorem s240_51 : Rn 240 51 [l0, l1, l2, some (vI a), l4] st T σ K ↔ Rn 240 52 [l0, l1, l2, some (vI a), l4] (vI a :: st) T σ K := R_iload_n (n := 3) (by decide +kernel) rfl
theorem s240_52 : Rn 240 52 L [vI a] T σ K ↔ K (some (vI a)) T σ := R_ret (by decide +kernel) (by decide +kernel)
theorem s241_0 : Rn 241 0 [some (vR o), l1, l2, l3] st T σ K ↔ Rn 241 1 [some (vR o), l1, l2, l3] (vR o :: st) T σ K := R_aload_n (n := 0) (by decide +kernel) rfl
theorem s241_1 : Rn 241 1 L (vR o :: st) T σ K ↔ (sx_kd T o = 9 ∧ st.length ≤ 4) ∧ Rn 239 0 [some (vR o), none, none, none] [] T σ (fun r T' σ' => Rn 241 4 L (sx_push r st) T' σ' K) := R_V (cm := 239) (n := 0) (idx := 307) (ci := 9) (mx := 4) (vs := []) (by decide +kernel) (by decide +kernel) rfl (by decide +kernel) rfl (by decide +kernel) (by decide +kernel)
theorem s241_4 : Rn 241 4 [l0, l1, l2, l3] (vI a :: st) T σ K ↔ Rn 241 5 [l0, l1, l2, some (vI a)] st T σ K := R_istore_n (n := 3) (by decide +kernel) rfl
theorem s241_5 : Rn 241 5 [some (vR o), l1, l2, l3] st T σ K ↔ Rn 241 6 [some (vR o), l1, l2, l3] (vR o :: st) T σ K := R_aload_n (n := 0) (by decide +kernel) rfl
theorem s241_6 : Rn 241 6 [l0, some (vI a), l2, l3] st T σ K ↔ Rn 241 7 [l0, some (vI a), l2, l3] (vI a :: st) T σ K := R_iload_n (n := 1) (by decide +kernel) rfl
theorem s241_7 : Rn 241 7 L (vI a :: vR o :: st) T σ K ↔ (sx_kd T o = 9 ∧ st.length ≤ 4) ∧ Rn 205 0 [some (vR o), some (vI a)] [] T σ (fun r T' σ' => Rn 241 10 L (sx_push r st) T' σ' K) := R_V (cm := 205) (n := 1) (idx := 254) (ci := 9) (mx := 2) (vs := [vI a]) (by decide +kernel) (by decide +kernel) rfl (by decide +kernel) rfl (by decide +kernel) (by decide +kernel)
theorem s241_10 : Rn 241 10 L (vI a :: st) T σ K ↔ (a = 0 → Rn 241 31 L st T σ K) ∧ (a ≠ 0 → Rn 241 13 L st T σ K) := R_if_eq (off := 21) (by decide +kernel) (by decide)
theorem s241_13 : Rn 241 13 [l0, l1, some (vI a), l3] st T σ K ↔ Rn 241 14 [l0, l1, some (vI a), l3] (vI a :: st) T σ K := R_iload_n (n := 2) (by decide +kernel) rfl
theorem s241_14 : Rn 241 14 L st T σ K ↔ Rn 241 15 L (vI 1 :: st) T σ K := R_iconst (n := 1) (by decide +kernel) (by decide)
theorem s241_15 : Rn 241 15 [l0, l1, l2, some (vI a)] st T σ K ↔ Rn 241 16 [l0, l1, l2, some (vI a)] (vI a :: st) T σ K := R_iload_n (n := 3) (by decide +kernel) rfl
theorem s241_16 : Rn 241 16 L (vI c :: vI b :: vI a :: st) T σ K ↔ st.length ≤ 4 ∧ Rn 185 0 [some (vI a), some (vI b), some (vI c)] [] T σ (fun r T' σ' => Rn 241 19 L (sx_push r st) T' σ' K) := R_S (cm := 185) (n := 3) (idx := 189) (mx := 3) (vs := [vI a, vI b, vI c]) (by decide +kernel) (Or.inl (by decide +kernel)) rfl (by decide +kernel) rfl (by decide +kernel)
theorem s241_19 : Rn 241 19 L (vI a :: st) T σ K ↔ (a = 0 → Rn 241 31 L st T σ K) ∧ (a ≠ 0 → Rn 241 22 L st T σ K) := R_if_eq (off := 12) (by decide +kernel) (by decide)
theorem s241_22 : Rn 241 22 [some (vR o), l1, l2, l3] st T σ K ↔ Rn 241 23 [some (vR o), l1, l2, l3] (vR o :: st) T σ K := R_aload_n (n := 0) (by decide +kernel) rfl
theorem s241_23 : Rn 241 23 [l0, some (vI a), l2, l3] st T σ K ↔ Rn 241 24 [l0, some (vI a), l2, l3] (vI a :: st) T σ K := R_iload_n (n := 1) (by decide +kernel) rfl
theorem s241_24 : Rn 241 24 [l0, l1, some (vI a), l3] st T σ K ↔ Rn 241 25 [l0, l1, some (vI a), l3] (vI a :: st) T σ K := R_iload_n (n := 2) (by decide +kernel) rfl
theorem s241_25 : Rn 241 25 L (vI b :: vI a :: vR o :: st) T σ K ↔ (sx_kd T o = 9 ∧ st.length ≤ 4) ∧ Rn 242 0 [some (vR o), some (vI a), some (vI b), none, none, none] [] T σ (fun r T' σ' => Rn 241 28 L (sx_push r st) T' σ' K) := R_V (cm := 242) (n := 2) (idx := 310) (ci := 9) (mx := 6) (vs := [vI a, vI b]) (by decide +kernel) (by decide +kernel) rfl (by decide +kernel) rfl (by decide +kernel) (by decide +kernel)
theorem s241_28 : Rn 241 28 L st T σ K ↔ Rn 241 32 L st T σ K := R_goto (off := 4) (by decide +kernel) (by decide)
theorem s241_31 : Rn 241 31 L st T σ K ↔ Rn 241 32 L (vI (-1) :: st) T σ K := R_iconst (n := -1) (by decide +kernel) (by decide)
theorem s241_32 : Rn 241 32 L [vI a] T σ K ↔ K (some (vI a)) T σ := R_ret (by decide +kernel) (by decide +kernel)
theorem s242_0 : Rn 242 0 [some (vR o), l1, l2, l3, l4, l5] st T σ K ↔ Rn 242 1 [some (vR o), l1, l2, l3, l4, l5] (vR o :: st) T σ K := R_aload_n (n := 0) (by decide +kernel) rfl
theorem s242_1 : Rn 242 1 L (vR o :: st) T σ K ↔ sx_kd T o = 9 ∧ ∃ t, sx_rf T o 32 = some t ∧ Rn 242 4 L (vR t :: st) T σ K := R_getR (idx := 108) (ci := 9) (k := 32) (by decide +kernel) (by decide +kernel) rfl
theorem s242_4 : Rn 242 4 L st T σ K ↔ Rn 242 5 L (vI 0 :: st) T σ K := R_iconst (n := 0) (by decide +kernel) (by decide)
theorem s242_5 : Rn 242 5 L (vI a :: vR o :: st) T σ K ↔ (sx_kd T o = 20 ∧ 0 ≤ a ∧ a < sx_ln T o) ∧ Rn 242 6 L (vI (σ o a) :: st) T σ K := R_iald (by decide +kernel) (by decide)
theorem s242_6 : Rn 242 6 [l0, l1, l2, l3, l4, l5] (vI a :: st) T σ K ↔ Rn 242 7 [l0, l1, l2, some (vI a), l4, l5] st T σ K := R_istore_n (n := 3) (by decide +kernel) rfl
theorem s242_7 : Rn 242 7 L st T σ K ↔ Rn 242 8 L (vI 1 :: st) T σ K := R_iconst (n := 1) (by decide +kernel) (by decide)
theorem s242_8 : Rn 242 8 [l0, l1, l2, l3, l4, l5] (vI a :: st) T σ K ↔ Rn 242 10 [l0, l1, l2, l3, some (vI a), l5] st T σ K := R_istore (n := 4) (by decide +kernel) rfl
theorem s242_10 : Rn 242 10 [l0, l1, l2, l3, some (vI a), l5] st T σ K ↔ Rn 242 12 [l0, l1, l2, l3, some (vI a), l5] (vI a :: st) T σ K := R_iload (n := 4) (by decide +kernel) rfl
theorem s242_12 : Rn 242 12 [l0, l1, some (vI a), l3, l4, l5] st T σ K ↔ Rn 242 13 [l0, l1, some (vI a), l3, l4, l5] (vI a :: st) T σ K := R_iload_n (n := 2) (by decide +kernel) rfl
theorem s242_13 : Rn 242 13 L (vI b :: vI a :: st) T σ K ↔ (b ≤ a → Rn 242 72 L st T σ K) ∧ (a < b → Rn 242 16 L st T σ K) := R_icmp_ge (off := 59) (by decide +kernel) (by decide)
theorem s242_16 : Rn 242 16 [some (vR o), l1, l2, l3, l4, l5] st T σ K ↔ Rn 242 17 [some (vR o), l1, l2, l3, l4, l5] (vR o :: st) T σ K := R_aload_n (n := 0) (by decide +kernel) rfl
theorem s242_17 : Rn 242 17 [l0, some (vI a), l2, l3, l4, l5] st T σ K ↔ Rn 242 18 [l0, some (vI a), l2, l3, l4, l5] (vI a :: st) T σ K := R_iload_n (n := 1) (by decide +kernel) rfl
theorem s242_18 : Rn 242 18 [some (vR o), l1, l2, l3, l4, l5] st T σ K ↔ Rn 242 19 [some (vR o), l1, l2, l3, l4, l5] (vR o :: st) T σ K := R_aload_n (n := 0) (by decide +kernel) rfl
theorem s242_19 : Rn 242 19 L (vR o :: st) T σ K ↔ sx_kd T o = 9 ∧ ∃ t, sx_rf T o 32 = some t ∧ Rn 242 22 L (vR t :: st) T σ K := R_getR (idx := 108) (ci := 9) (k := 32) (by decide +kernel) (by decide +kernel) rfl
theorem s242_22 : Rn 242 22 [l0, l1, l2, l3, some (vI a), l5] st T σ K ↔ Rn 242 24 [l0, l1, l2, l3, some (vI a), l5] (vI a :: st) T σ K := R_iload (n := 4) (by decide +kernel) rfl
theorem s242_24 : Rn 242 24 L (vI a :: vR o :: st) T σ K ↔ (sx_kd T o = 20 ∧ 0 ≤ a ∧ a < sx_ln T o) ∧ Rn 242 25 L (vI (σ o a) :: st) T σ K := R_iald (by decide +kernel) (by decide)
theorem s242_25 : Rn 242 25 L (vI b :: vI a :: vR o :: st) T σ K ↔ (sx_kd T o = 9 ∧ st.length ≤ 4) ∧ Rn 216 0 [some (vR o), some (vI a), some (vI b)] [] T σ (fun r T' σ' => Rn 242 28 L (sx_push r st) T' σ' K) := R_V (cm := 216) (n := 2) (idx := 238) (ci := 9) (mx := 3) (vs := [vI a, vI b]) (by decide +kernel) (by decide +kernel) rfl (by decide +kernel) rfl (by decide +kernel) (by decide +kernel)
theorem s242_28 : Rn 242 28 [some (vR o), l1, l2, l3, l4, l5] st T σ K ↔ Rn 242 29 [some (vR o), l1, l2, l3, l4, l5] (vR o :: st) T σ K := R_aload_n (n := 0) (by decide +kernel) rfl
theorem s242_29 : Rn 242 29 [l0, some (vI a), l2, l3, l4, l5] st T σ K ↔ Rn 242 30 [l0, some (vI a), l2, l3, l4, l5] (vI a :: st) T σ K := R_iload_n (n := 1) (by decide +kernel) rfl
theorem s242_30 : Rn 242 30 [l0, l1, l2, some (vI a), l4, l5] st T σ K ↔ Rn 242 31 [l0, l1, l2, some (vI a), l4, l5] (vI a :: st) T σ K := R_iload_n (n := 3) (by decide +kernel) rfl
theorem s242_31 : Rn 242 31 L (vI b :: vI a :: vR o :: st) T σ K ↔ (sx_kd T o = 9 ∧ st.length ≤ 4) ∧ Rn 216 0 [some (vR o), some (vI a), some (vI b)] [] T σ (fun r T' σ' => Rn 242 34 L (sx_push r st) T' σ' K) := R_V (cm := 216) (n := 2) (idx := 238) (ci := 9) (mx := 3) (vs := [vI a, vI b]) (by decide +kernel) (by decide +kernel) rfl (by decide +kernel) rfl (by decide +kernel) (by decide +kernel)
theorem s242_34 : Rn 242 34 L (vI b :: vI a :: st) T σ K ↔ inI (a - b) ∧ Rn 242 35 L (vI (a - b) :: st) T σ K := R_isub (by decide +kernel)
theorem s242_35 : Rn 242 35 [l0, l1, l2, l3, l4, l5] (vI a :: st) T σ K ↔ Rn 242 37 [l0, l1, l2, l3, l4, some (vI a)] st T σ K := R_istore (n := 5) (by decide +kernel) rfl
theorem s242_37 : Rn 242 37 [l0, l1, l2, l3, l4, some (vI a)] st T σ K ↔ Rn 242 39 [l0, l1, l2, l3, l4, some (vI a)] (vI a :: st) T σ K := R_iload (n := 5) (by decide +kernel) rfl
theorem s242_39 : Rn 242 39 L (vI a :: st) T σ K ↔ (a < 0 → Rn 242 58 L st T σ K) ∧ (0 ≤ a → Rn 242 42 L st T σ K) := R_if_lt (off := 19) (by decide +kernel) (by decide)
theorem s242_42 : Rn 242 42 [l0, l1, l2, l3, l4, some (vI a)] st T σ K ↔ Rn 242 44 [l0, l1, l2, l3, l4, some (vI a)] (vI a :: st) T σ K := R_iload (n := 5) (by decide +kernel) rfl
theorem s242_44 : Rn 242 44 L (vI a :: st) T σ K ↔ (a ≠ 0 → Rn 242 66 L st T σ K) ∧ (a = 0 → Rn 242 47 L st T σ K) := R_if_ne (off := 22) (by decide +kernel) (by decide)
theorem s242_47 : Rn 242 47 [some (vR o), l1, l2, l3, l4, l5] st T σ K ↔ Rn 242 48 [some (vR o), l1, l2, l3, l4, l5] (vR o :: st) T σ K := R_aload_n (n := 0) (by decide +kernel) rfl
theorem s242_48 : Rn 242 48 L (vR o :: st) T σ K ↔ sx_kd T o = 9 ∧ ∃ t, sx_rf T o 32 = some t ∧ Rn 242 51 L (vR t :: st) T σ K := R_getR (idx := 108) (ci := 9) (k := 32) (by decide +kernel) (by decide +kernel) rfl
theorem s242_51 : Rn 242 51 [l0, l1, l2, l3, some (vI a), l5] st T σ K ↔ Rn 242 53 [l0, l1, l2, l3, some (vI a), l5] (vI a :: st) T σ K := R_iload (n := 4) (by decide +kernel) rfl
theorem s242_53 : Rn 242 53 L (vI a :: vR o :: st) T σ K ↔ (sx_kd T o = 20 ∧ 0 ≤ a ∧ a < sx_ln T o) ∧ Rn 242 54 L (vI (σ o a) :: st) T σ K := R_iald (by decide +kernel) (by decide)
theorem s242_54 : Rn 242 54 [l0, l1, l2, some (vI a), l4, l5] st T σ K ↔ Rn 242 55 [l0, l1, l2, some (vI a), l4, l5] (vI a :: st) T σ K := R_iload_n (n := 3) (by decide +kernel) rfl
theorem s242_55 : Rn 242 55 L (vI b :: vI a :: st) T σ K ↔ (b ≤ a → Rn 242 66 L st T σ K) ∧ (a < b → Rn 242 58 L st T σ K) := R_icmp_ge (off := 11) (by decide +kernel) (by decide)
theorem s242_58 : Rn 242 58 [some (vR o), l1, l2, l3, l4, l5] st T σ K ↔ Rn 242 59 [some (vR o), l1, l2, l3, l4, l5] (vR o :: st) T σ K := R_aload_n (n := 0) (by decide +kernel) rfl
theorem s242_59 : Rn 242 59 L (vR o :: st) T σ K ↔ sx_kd T o = 9 ∧ ∃ t, sx_rf T o 32 = some t ∧ Rn 242 62 L (vR t :: st) T σ K := R_getR (idx := 108) (ci := 9) (k := 32) (by decide +kernel) (by decide +kernel) rfl
theorem s242_62 : Rn 242 62 [l0, l1, l2, l3, some (vI a), l5] st T σ K ↔ Rn 242 64 [l0, l1, l2, l3, some (vI a), l5] (vI a :: st) T σ K := R_iload (n := 4) (by decide +kernel) rfl
theorem s242_64 : Rn 242 64 L (vI a :: vR o :: st) T σ K ↔ (sx_kd T o = 20 ∧ 0 ≤ a ∧ a < sx_ln T o) ∧ Rn 242 65 L (vI (σ o a) :: st) T σ K := R_iald (by decide +kernel) (by decide)
theorem s242_65 : Rn 242 65 [l0, l1, l2, l3, l4, l5] (vI a :: st) T σ K ↔ Rn 242 66 [l0, l1, l2, some (vI a), l4, l5] st T σ K := R_istore_n (n := 3) (by decide +kernel) rfl
theorem s242_66 : Rn 242 66 [l0, l1, l2, l3, some (vI a), l5] st T σ K ↔ inI (a + 1) ∧ Rn 242 69 [l0, l1, l2, l3, some (vI (a + 1)), l5] st T σ K := R_iinc (n := 4) (d := 1) (by decide +kernel) rfl
theorem s242_69 : Rn 242 69 L st T σ K ↔ Rn 242 10 L st T σ K := R_goto (off := -59) (by decide +kernel) (by decide)
theorem s242_72 : Rn 242 72 [l0, l1, l2, some (vI a), l4, l5] st T σ K ↔ Rn 242 73 [l0, l1, l2, some (vI a), l4, l5] (vI a :: st) T σ K := R_iload_n (n := 3) (by decide +kernel) rfl
theorem s242_73 : Rn 242 73 L [vI a] T σ K ↔ K (some (vI a)) T σ := R_ret (by decide +kernel) (by decide +kernel)
theorem s243_0 : Rn 243 0 [some (vR o), l1, l2, l3, l4, l5, l6, l7, l8, l9, l10] st T σ K ↔ Rn 243 1 [some (vR o), l1, l2, l3, l4, l5, l6, l7, l8, l9, l10] (vR o :: st) T σ K := R_aload_n (n := 0) (by decide +kernel) rfl
theorem s243_1 : Rn 243 1 L (vR o :: st) T σ K ↔ (sx_kd T o = 9 ∧ st.length ≤ 4) ∧ Rn 239 0 [some (vR o), none, none, none] [] T σ (fun r T' σ' => Rn 243 4 L (sx_push r st) T' σ' K) := R_V (cm := 239) (n := 0) (idx := 307) (ci := 9) (mx := 4) (vs := []) (by decide +kernel) (by decide +kernel) rfl (by decide +kernel) rfl (by decide +kernel) (by decide +kernel)
theorem s243_4 : Rn 243 4 [l0, l1, l2, l3, l4, l5, l6, l7, l8, l9, l10] (vI a :: st) T σ K ↔ Rn 243 5 [l0, l1, l2, some (vI a), l4, l5, l6, l7, l8, l9, l10] st T σ K := R_istore_n (n := 3) (by decide +kernel) rfl
theorem s243_5 : Rn 243 5 [l0, some (vI a), l2, l3, l4, l5, l6, l7, l8, l9, l10] st T σ K ↔ Rn 243 6 [l0, some (vI a), l2, l3, l4, l5, l6, l7, l8, l9, l10] (vI a :: st) T σ K := R_iload_n (n := 1) (by decide +kernel) rfl
theorem s243_6 : Rn 243 6 L st T σ K ↔ Rn 243 7 L (vI 1 :: st) T σ K := R_iconst (n := 1) (by decide +kernel) (by decide)
theorem s243_7 : Rn 243 7 [l0, l1, l2, some (vI a), l4, l5, l6, l7, l8, l9, l10] st T σ K ↔ Rn 243 8 [l0, l1, l2, some (vI a), l4, l5, l6, l7, l8, l9, l10] (vI a :: st) T σ K := R_iload_n (n := 3) (by decide +kernel) rfl
theorem s243_8 : Rn 243 8 L (vI c :: vI b :: vI a :: st) T σ K ↔ st.length ≤ 4 ∧ Rn 185 0 [some (vI a), some (vI b), some (vI c)] [] T σ (fun r T' σ' => Rn 243 11 L (sx_push r st) T' σ' K) := R_S (cm := 185) (n := 3) (idx := 189) (mx := 3) (vs := [vI a, vI b, vI c]) (by decide +kernel) (Or.inl (by decide +kernel)) rfl (by decide +kernel) rfl (by decide +kernel)
theorem s243_11 : Rn 243 11 L (vI a :: st) T σ K ↔ (a = 0 → Rn 243 23 L st T σ K) ∧ (a ≠ 0 → Rn 243 14 L st T σ K) := R_if_eq (off := 12) (by decide +kernel) (by decide)
theorem s243_14 : Rn 243 14 [l0, l1, some (vI a), l3, l4, l5, l6, l7, l8, l9, l10] st T σ K ↔ Rn 243 15 [l0, l1, some (vI a), l3, l4, l5, l6, l7, l8, l9, l10] (vI a :: st) T σ K := R_iload_n (n := 2) (by decide +kernel) rfl
theorem s243_15 : Rn 243 15 L st T σ K ↔ Rn 243 16 L (vI 0 :: st) T σ K := R_iconst (n := 0) (by decide +kernel) (by decide)
theorem s243_16 : Rn 243 16 L st T σ K ↔ Rn 243 17 L (vI 2 :: st) T σ K := R_iconst (n := 2) (by decide +kernel) (by decide)
theorem s243_17 : Rn 243 17 L (vI c :: vI b :: vI a :: st) T σ K ↔ st.length ≤ 4 ∧ Rn 185 0 [some (vI a), some (vI b), some (vI c)] [] T σ (fun r T' σ' => Rn 243 20 L (sx_push r st) T' σ' K) := R_S (cm := 185) (n := 3) (idx := 189) (mx := 3) (vs := [vI a, vI b, vI c]) (by decide +kernel) (Or.inl (by decide +kernel)) rfl (by decide +kernel) rfl (by decide +kernel)
theorem s243_20 : Rn 243 20 L (vI a :: st) T σ K ↔ (a ≠ 0 → Rn 243 25 L st T σ K) ∧ (a = 0 → Rn 243 23 L st T σ K) := R_if_ne (off := 5) (by decide +kernel) (by decide)
theorem s243_23 : Rn 243 23 L st T σ K ↔ Rn 243 24 L (vI (-1) :: st) T σ K := R_iconst (n := -1) (by decide +kernel) (by decide)
theorem s243_24 : Rn 243 24 L [vI a] T σ K ↔ K (some (vI a)) T σ := R_ret (by decide +kernel) (by decide +kernel)
theorem s243_25 : Rn 243 25 L st T σ K ↔ Rn 243 26 L (vI (-1) :: st) T σ K := R_iconst (n := -1) (by decide +kernel) (by decide)
theorem s243_26 : Rn 243 26 [l0, l1, l2, l3, l4, l5, l6, l7, l8, l9, l10] (vI a :: st) T σ K ↔ Rn 243 28 [l0, l1, l2, l3, some (vI a), l5, l6, l7, l8, l9, l10] st T σ K := R_istore (n := 4) (by decide +kernel) rfl
theorem s243_28 : Rn 243 28 L st T σ K ↔ Rn 243 29 L (vI (-1) :: st) T σ K := R_iconst (n := -1) (by decide +kernel) (by decide)
theorem s243_29 : Rn 243 29 [l0, l1, l2, l3, l4, l5, l6, l7, l8, l9, l10] (vI a :: st) T σ K ↔ Rn 243 31 [l0, l1, l2, l3, l4, some (vI a), l6, l7, l8, l9, l10] st T σ K := R_istore (n := 5) (by decide +kernel) rfl
theorem s243_31 : Rn 243 31 L st T σ K ↔ Rn 243 32 L (vI 0 :: st) T σ K := R_iconst (n := 0) (by decide +kernel) (by decide)
theorem s243_32 : Rn 243 32 [l0, l1, l2, l3, l4, l5, l6, l7, l8, l9, l10] (vI a :: st) T σ K ↔ Rn 243 34 [l0, l1, l2, l3, l4, l5, some (vI a), l7, l8, l9, l10] st T σ K := R_istore (n := 6) (by decide +kernel) rfl
theorem s243_34 : Rn 243 34 L st T σ K ↔ Rn 243 35 L (vI 0 :: st) T σ K := R_iconst (n := 0) (by decide +kernel) (by decide)
theorem s243_35 : Rn 243 35 [l0, l1, l2, l3, l4, l5, l6, l7, l8, l9, l10] (vI a :: st) T σ K ↔ Rn 243 37 [l0, l1, l2, l3, l4, l5, l6, some (vI a), l8, l9, l10] st T σ K := R_istore (n := 7) (by decide +kernel) rfl
theorem s243_37 : Rn 243 37 [l0, l1, l2, l3, l4, l5, l6, some (vI a), l8, l9, l10] st T σ K ↔ Rn 243 39 [l0, l1, l2, l3, l4, l5, l6, some (vI a), l8, l9, l10] (vI a :: st) T σ K := R_iload (n := 7) (by decide +kernel) rfl
theorem s243_39 : Rn 243 39 L st T σ K ↔ Rn 243 41 L (vI 40 :: st) T σ K := R_bipush (n := 40) (by decide +kernel) (by decide +kernel)
theorem s243_41 : Rn 243 41 L (vI b :: vI a :: st) T σ K ↔ (b ≤ a → Rn 243 163 L st T σ K) ∧ (a < b → Rn 243 44 L st T σ K) := R_icmp_ge (off := 122) (by decide +kernel) (by decide)
theorem s243_44 : Rn 243 44 [some (vR o), l1, l2, l3, l4, l5, l6, l7, l8, l9, l10] st T σ K ↔ Rn 243 45 [some (vR o), l1, l2, l3, l4, l5, l6, l7, l8, l9, l10] (vR o :: st) T σ K := R_aload_n (n := 0) (by decide +kernel) rfl
theorem s243_45 : Rn 243 45 L (vR o :: st) T σ K ↔ sx_kd T o = 9 ∧ ∃ t, sx_rf T o 0 = some t ∧ Rn 243 48 L (vR t :: st) T σ K := R_getR (idx := 7) (ci := 9) (k := 0) (by decide +kernel) (by decide +kernel) rfl
theorem s243_48 : Rn 243 48 L st T σ K ↔ Rn 243 49 L (vI 0 :: st) T σ K := R_iconst (n := 0) (by decide +kernel) (by decide)
theorem s243_49 : Rn 243 49 [l0, l1, l2, l3, l4, l5, l6, some (vI a), l8, l9, l10] st T σ K ↔ Rn 243 51 [l0, l1, l2, l3, l4, l5, l6, some (vI a), l8, l9, l10] (vI a :: st) T σ K := R_iload (n := 7) (by decide +kernel) rfl
theorem s243_51 : Rn 243 51 L (vI b :: vI a :: st) T σ K ↔ inI (a + b) ∧ Rn 243 52 L (vI (a + b) :: st) T σ K := R_iadd (by decide +kernel)
theorem s243_52 : Rn 243 52 L (vI a :: vR o :: st) T σ K ↔ (sx_kd T o = 20 ∧ 0 ≤ a ∧ a < sx_ln T o) ∧ Rn 243 53 L (vI (σ o a) :: st) T σ K := R_iald (by decide +kernel) (by decide)
theorem s243_53 : Rn 243 53 L (vI a :: st) T σ K ↔ (a ≠ 0 → Rn 243 59 L st T σ K) ∧ (a = 0 → Rn 243 56 L st T σ K) := R_if_ne (off := 6) (by decide +kernel) (by decide)
theorem s243_56 : Rn 243 56 L st T σ K ↔ Rn 243 157 L st T σ K := R_goto (off := 101) (by decide +kernel) (by decide)
theorem s243_59 : Rn 243 59 [some (vR o), l1, l2, l3, l4, l5, l6, l7, l8, l9, l10] st T σ K ↔ Rn 243 60 [some (vR o), l1, l2, l3, l4, l5, l6, l7, l8, l9, l10] (vR o :: st) T σ K := R_aload_n (n := 0) (by decide +kernel) rfl
theorem s243_60 : Rn 243 60 [l0, l1, l2, l3, l4, l5, l6, some (vI a), l8, l9, l10] st T σ K ↔ Rn 243 62 [l0, l1, l2, l3, l4, l5, l6, some (vI a), l8, l9, l10] (vI a :: st) T σ K := R_iload (n := 7) (by decide +kernel) rfl
theorem s243_62 : Rn 243 62 [some (vR o), l1, l2, l3, l4, l5, l6, l7, l8, l9, l10] st T σ K ↔ Rn 243 63 [some (vR o), l1, l2, l3, l4, l5, l6, l7, l8, l9, l10] (vR o :: st) T σ K := R_aload_n (n := 0) (by decide +kernel) rfl
theorem s243_63 : Rn 243 63 [l0, l1, l2, l3, l4, l5, l6, some (vI a), l8, l9, l10] st T σ K ↔ Rn 243 65 [l0, l1, l2, l3, l4, l5, l6, some (vI a), l8, l9, l10] (vI a :: st) T σ K := R_iload (n := 7) (by decide +kernel) rfl
theorem s243_65 : Rn 243 65 [l0, some (vI a), l2, l3, l4, l5, l6, l7, l8, l9, l10] st T σ K ↔ Rn 243 66 [l0, some (vI a), l2, l3, l4, l5, l6, l7, l8, l9, l10] (vI a :: st) T σ K := R_iload_n (n := 1) (by decide +kernel) rfl
theorem s243_66 : Rn 243 66 L (vI b :: vI a :: vR o :: st) T σ K ↔ (sx_kd T o = 9 ∧ st.length ≤ 4) ∧ Rn 242 0 [some (vR o), some (vI a), some (vI b), none, none, none] [] T σ (fun r T' σ' => Rn 243 69 L (sx_push r st) T' σ' K) := R_V (cm := 242) (n := 2) (idx := 310) (ci := 9) (mx := 6) (vs := [vI a, vI b]) (by decide +kernel) (by decide +kernel) rfl (by decide +kernel) rfl (by decide +kernel) (by decide +kernel)
theorem s243_69 : Rn 243 69 L (vI b :: vI a :: vR o :: st) T σ K ↔ (sx_kd T o = 9 ∧ st.length ≤ 4) ∧ Rn 216 0 [some (vR o), some (vI a), some (vI b)] [] T σ (fun r T' σ' => Rn 243 72 L (sx_push r st) T' σ' K) := R_V (cm := 216) (n := 2) (idx := 238) (ci := 9) (mx := 3) (vs := [vI a, vI b]) (by decide +kernel) (by decide +kernel) rfl (by decide +kernel) rfl (by decide +kernel) (by decide +kernel)
theorem s243_72 : Rn 243 72 [l0, l1, l2, l3, l4, l5, l6, l7, l8, l9, l10] (vI a :: st) T σ K ↔ Rn 243 74 [l0, l1, l2, l3, l4, l5, l6, l7, some (vI a), l9, l10] st T σ K := R_istore (n := 8) (by decide +kernel) rfl
theorem s243_74 : Rn 243 74 [l0, l1, l2, l3, l4, l5, l6, l7, some (vI a), l9, l10] st T σ K ↔ Rn 243 76 [l0, l1, l2, l3, l4, l5, l6, l7, some (vI a), l9, l10] (vI a :: st) T σ K := R_iload (n := 8) (by decide +kernel) rfl
theorem s243_76 : Rn 243 76 [l0, l1, l2, l3, some (vI a), l5, l6, l7, l8, l9, l10] st T σ K ↔ Rn 243 78 [l0, l1, l2, l3, some (vI a), l5, l6, l7, l8, l9, l10] (vI a :: st) T σ K := R_iload (n := 4) (by decide +kernel) rfl
theorem s243_78 : Rn 243 78 L (vI b :: vI a :: st) T σ K ↔ (a ≤ b → Rn 243 85 L st T σ K) ∧ (b < a → Rn 243 81 L st T σ K) := R_icmp_le (off := 7) (by decide +kernel) (by decide)
theorem s243_81 : Rn 243 81 [l0, l1, l2, l3, l4, l5, l6, some (vI a), l8, l9, l10] st T σ K ↔ Rn 243 83 [l0, l1, l2, l3, l4, l5, l6, some (vI a), l8, l9, l10] (vI a :: st) T σ K := R_iload (n := 7) (by decide +kernel) rfl
theorem s243_83 : Rn 243 83 [l0, l1, l2, l3, l4, l5, l6, l7, l8, l9, l10] (vI a :: st) T σ K ↔ Rn 243 85 [l0, l1, l2, l3, l4, some (vI a), l6, l7, l8, l9, l10] st T σ K := R_istore (n := 5) (by decide +kernel) rfl
theorem s243_85 : Rn 243 85 [l0, l1, l2, l3, some (vI a), l5, l6, l7, l8, l9, l10] st T σ K ↔ Rn 243 87 [l0, l1, l2, l3, some (vI a), l5, l6, l7, l8, l9, l10] (vI a :: st) T σ K := R_iload (n := 4) (by decide +kernel) rfl
theorem s243_87 : Rn 243 87 [l0, l1, l2, l3, l4, l5, l6, l7, some (vI a), l9, l10] st T σ K ↔ Rn 243 89 [l0, l1, l2, l3, l4, l5, l6, l7, some (vI a), l9, l10] (vI a :: st) T σ K := R_iload (n := 8) (by decide +kernel) rfl
theorem s243_89 : Rn 243 89 L (vI b :: vI a :: st) T σ K ↔ st.length ≤ 4 ∧ Rn 199 0 [some (vI a), some (vI b)] [] T σ (fun r T' σ' => Rn 243 92 L (sx_push r st) T' σ' K) := R_S (cm := 199) (n := 2) (idx := 215) (mx := 2) (vs := [vI a, vI b]) (by decide +kernel) (Or.inl (by decide +kernel)) rfl (by decide +kernel) rfl (by decide +kernel)
theorem s243_92 : Rn 243 92 [l0, l1, l2, l3, l4, l5, l6, l7, l8, l9, l10] (vI a :: st) T σ K ↔ Rn 243 94 [l0, l1, l2, l3, some (vI a), l5, l6, l7, l8, l9, l10] st T σ K := R_istore (n := 4) (by decide +kernel) rfl
theorem s243_94 : Rn 243 94 L st T σ K ↔ Rn 243 95 L (vI 0 :: st) T σ K := R_iconst (n := 0) (by decide +kernel) (by decide)
theorem s243_95 : Rn 243 95 [l0, l1, l2, l3, l4, l5, l6, l7, l8, l9, l10] (vI a :: st) T σ K ↔ Rn 243 97 [l0, l1, l2, l3, l4, l5, l6, l7, l8, some (vI a), l10] st T σ K := R_istore (n := 9) (by decide +kernel) rfl
theorem s243_97 : Rn 243 97 L st T σ K ↔ Rn 243 98 L (vI 0 :: st) T σ K := R_iconst (n := 0) (by decide +kernel) (by decide)
theorem s243_98 : Rn 243 98 [l0, l1, l2, l3, l4, l5, l6, l7, l8, l9, l10] (vI a :: st) T σ K ↔ Rn 243 100 [l0, l1, l2, l3, l4, l5, l6, l7, l8, l9, some (vI a)] st T σ K := R_istore (n := 10) (by decide +kernel) rfl
theorem s243_100 : Rn 243 100 [l0, l1, l2, l3, l4, l5, l6, l7, l8, l9, some (vI a)] st T σ K ↔ Rn 243 102 [l0, l1, l2, l3, l4, l5, l6, l7, l8, l9, some (vI a)] (vI a :: st) T σ K := R_iload (n := 10) (by decide +kernel) rfl
theorem s243_102 : Rn 243 102 L st T σ K ↔ Rn 243 104 L (vI 40 :: st) T σ K := R_bipush (n := 40) (by decide +kernel) (by decide +kernel)
theorem s243_104 : Rn 243 104 L (vI b :: vI a :: st) T σ K ↔ (b ≤ a → Rn 243 148 L st T σ K) ∧ (a < b → Rn 243 107 L st T σ K) := R_icmp_ge (off := 44) (by decide +kernel) (by decide)
theorem s243_107 : Rn 243 107 [l0, l1, l2, l3, l4, l5, l6, l7, l8, some (vI a), l10] st T σ K ↔ Rn 243 109 [l0, l1, l2, l3, l4, l5, l6, l7, l8, some (vI a), l10] (vI a :: st) T σ K := R_iload (n := 9) (by decide +kernel) rfl
theorem s243_109 : Rn 243 109 [some (vR o), l1, l2, l3, l4, l5, l6, l7, l8, l9, l10] st T σ K ↔ Rn 243 110 [some (vR o), l1, l2, l3, l4, l5, l6, l7, l8, l9, l10] (vR o :: st) T σ K := R_aload_n (n := 0) (by decide +kernel) rfl
theorem s243_110 : Rn 243 110 L (vR o :: st) T σ K ↔ sx_kd T o = 9 ∧ ∃ t, sx_rf T o 0 = some t ∧ Rn 243 113 L (vR t :: st) T σ K := R_getR (idx := 7) (ci := 9) (k := 0) (by decide +kernel) (by decide +kernel) rfl
theorem s243_113 : Rn 243 113 L st T σ K ↔ Rn 243 114 L (vI 0 :: st) T σ K := R_iconst (n := 0) (by decide +kernel) (by decide)
theorem s243_114 : Rn 243 114 [l0, l1, l2, l3, l4, l5, l6, l7, l8, l9, some (vI a)] st T σ K ↔ Rn 243 116 [l0, l1, l2, l3, l4, l5, l6, l7, l8, l9, some (vI a)] (vI a :: st) T σ K := R_iload (n := 10) (by decide +kernel) rfl
theorem s243_116 : Rn 243 116 L (vI b :: vI a :: st) T σ K ↔ inI (a + b) ∧ Rn 243 117 L (vI (a + b) :: st) T σ K := R_iadd (by decide +kernel)
theorem s243_117 : Rn 243 117 L (vI a :: vR o :: st) T σ K ↔ (sx_kd T o = 20 ∧ 0 ≤ a ∧ a < sx_ln T o) ∧ Rn 243 118 L (vI (σ o a) :: st) T σ K := R_iald (by decide +kernel) (by decide)
theorem s243_118 : Rn 243 118 L st T σ K ↔ Rn 243 119 L (vI 1 :: st) T σ K := R_iconst (n := 1) (by decide +kernel) (by decide)
theorem s243_119 : Rn 243 119 L (vI b :: vI a :: st) T σ K ↔ (a ≠ b → Rn 243 138 L st T σ K) ∧ (a = b → Rn 243 122 L st T σ K) := R_icmp_ne (off := 19) (by decide +kernel) (by decide)
theorem s243_122 : Rn 243 122 [some (vR o), l1, l2, l3, l4, l5, l6, l7, l8, l9, l10] st T σ K ↔ Rn 243 123 [some (vR o), l1, l2, l3, l4, l5, l6, l7, l8, l9, l10] (vR o :: st) T σ K := R_aload_n (n := 0) (by decide +kernel) rfl
theorem s243_123 : Rn 243 123 [l0, l1, l2, l3, l4, l5, l6, l7, l8, l9, some (vI a)] st T σ K ↔ Rn 243 125 [l0, l1, l2, l3, l4, l5, l6, l7, l8, l9, some (vI a)] (vI a :: st) T σ K := R_iload (n := 10) (by decide +kernel) rfl
theorem s243_125 : Rn 243 125 [l0, some (vI a), l2, l3, l4, l5, l6, l7, l8, l9, l10] st T σ K ↔ Rn 243 126 [l0, some (vI a), l2, l3, l4, l5, l6, l7, l8, l9, l10] (vI a :: st) T σ K := R_iload_n (n := 1) (by decide +kernel) rfl
theorem s243_126 : Rn 243 126 L (vI b :: vI a :: vR o :: st) T σ K ↔ (sx_kd T o = 9 ∧ st.length ≤ 4) ∧ Rn 242 0 [some (vR o), some (vI a), some (vI b), none, none, none] [] T σ (fun r T' σ' => Rn 243 129 L (sx_push r st) T' σ' K) := R_V (cm := 242) (n := 2) (idx := 310) (ci := 9) (mx := 6) (vs := [vI a, vI b]) (by decide +kernel) (by decide +kernel) rfl (by decide +kernel) rfl (by decide +kernel) (by decide +kernel)
theorem s243_129 : Rn 243 129 [l0, l1, l2, l3, l4, l5, l6, some (vI a), l8, l9, l10] st T σ K ↔ Rn 243 131 [l0, l1, l2, l3, l4, l5, l6, some (vI a), l8, l9, l10] (vI a :: st) T σ K := R_iload (n := 7) (by decide +kernel) rfl
theorem s243_131 : Rn 243 131 L (vI b :: vI a :: st) T σ K ↔ (a ≠ b → Rn 243 138 L st T σ K) ∧ (a = b → Rn 243 134 L st T σ K) := R_icmp_ne (off := 7) (by decide +kernel) (by decide)
theorem s243_134 : Rn 243 134 L st T σ K ↔ Rn 243 135 L (vI 1 :: st) T σ K := R_iconst (n := 1) (by decide +kernel) (by decide)
theorem s243_135 : Rn 243 135 L st T σ K ↔ Rn 243 139 L st T σ K := R_goto (off := 4) (by decide +kernel) (by decide)
theorem s243_138 : Rn 243 138 L st T σ K ↔ Rn 243 139 L (vI 0 :: st) T σ K := R_iconst (n := 0) (by decide +kernel) (by decide)
theorem s243_139 : Rn 243 139 L (vI b :: vI a :: st) T σ K ↔ inI (a + b) ∧ Rn 243 140 L (vI (a + b) :: st) T σ K := R_iadd (by decide +kernel)
theorem s243_140 : Rn 243 140 [l0, l1, l2, l3, l4, l5, l6, l7, l8, l9, l10] (vI a :: st) T σ K ↔ Rn 243 142 [l0, l1, l2, l3, l4, l5, l6, l7, l8, some (vI a), l10] st T σ K := R_istore (n := 9) (by decide +kernel) rfl
theorem s243_142 : Rn 243 142 [l0, l1, l2, l3, l4, l5, l6, l7, l8, l9, some (vI a)] st T σ K ↔ inI (a + 1) ∧ Rn 243 145 [l0, l1, l2, l3, l4, l5, l6, l7, l8, l9, some (vI (a + 1))] st T σ K := R_iinc (n := 10) (d := 1) (by decide +kernel) rfl
theorem s243_145 : Rn 243 145 L st T σ K ↔ Rn 243 100 L st T σ K := R_goto (off := -45) (by decide +kernel) (by decide)
theorem s243_148 : Rn 243 148 [l0, l1, l2, l3, l4, l5, some (vI a), l7, l8, l9, l10] st T σ K ↔ Rn 243 150 [l0, l1, l2, l3, l4, l5, some (vI a), l7, l8, l9, l10] (vI a :: st) T σ K := R_iload (n := 6) (by decide +kernel) rfl
theorem s243_150 : Rn 243 150 [l0, l1, l2, l3, l4, l5, l6, l7, l8, some (vI a), l10] st T σ K ↔ Rn 243 152 [l0, l1, l2, l3, l4, l5, l6, l7, l8, some (vI a), l10] (vI a :: st) T σ K := R_iload (n := 9) (by decide +kernel) rfl
theorem s243_152 : Rn 243 152 L (vI b :: vI a :: st) T σ K ↔ st.length ≤ 4 ∧ Rn 199 0 [some (vI a), some (vI b)] [] T σ (fun r T' σ' => Rn 243 155 L (sx_push r st) T' σ' K) := R_S (cm := 199) (n := 2) (idx := 215) (mx := 2) (vs := [vI a, vI b]) (by decide +kernel) (Or.inl (by decide +kernel)) rfl (by decide +kernel) rfl (by decide +kernel)
theorem s243_155 : Rn 243 155 [l0, l1, l2, l3, l4, l5, l6, l7, l8, l9, l10] (vI a :: st) T σ K ↔ Rn 243 157 [l0, l1, l2, l3, l4, l5, some (vI a), l7, l8, l9, l10] st T σ K := R_istore (n := 6) (by decide +kernel) rfl
theorem s243_157 : Rn 243 157 [l0, l1, l2, l3, l4, l5, l6, some (vI a), l8, l9, l10] st T σ K ↔ inI (a + 1) ∧ Rn 243 160 [l0, l1, l2, l3, l4, l5, l6, some (vI (a + 1)), l8, l9, l10] st T σ K := R_iinc (n := 7) (d := 1) (by decide +kernel) rfl
theorem s243_160 : Rn 243 160 L st T σ K ↔ Rn 243 37 L st T σ K := R_goto (off := -123) (by decide +kernel) (by decide)
theorem s243_163 : Rn 243 163 [l0, l1, some (vI a), l3, l4, l5, l6, l7, l8, l9, l10] st T σ K ↔ Rn 243 164 [l0, l1, some (vI a), l3, l4, l5, l6, l7, l8, l9, l10] (vI a :: st) T σ K := R_iload_n (n := 2) (by decide +kernel) rfl
theorem s243_164 : Rn 243 164 L (vI a :: st) T σ K ↔ (a ≠ 0 → Rn 243 172 L st T σ K) ∧ (a = 0 → Rn 243 167 L st T σ K) := R_if_ne (off := 8) (by decide +kernel) (by decide)
theorem s243_167 : Rn 243 167 [l0, l1, l2, l3, some (vI a), l5, l6, l7, l8, l9, l10] st T σ K ↔ Rn 243 169 [l0, l1, l2, l3, some (vI a), l5, l6, l7, l8, l9, l10] (vI a :: st) T σ K := R_iload (n := 4) (by decide +kernel) rfl
theorem s243_169 : Rn 243 169 L st T σ K ↔ Rn 243 184 L st T σ K := R_goto (off := 15) (by decide +kernel) (by decide)
theorem s243_172 : Rn 243 172 [l0, l1, some (vI a), l3, l4, l5, l6, l7, l8, l9, l10] st T σ K ↔ Rn 243 173 [l0, l1, some (vI a), l3, l4, l5, l6, l7, l8, l9, l10] (vI a :: st) T σ K := R_iload_n (n := 2) (by decide +kernel) rfl
theorem s243_173 : Rn 243 173 L st T σ K ↔ Rn 243 174 L (vI 1 :: st) T σ K := R_iconst (n := 1) (by decide +kernel) (by decide)
theorem s243_174 : Rn 243 174 L (vI b :: vI a :: st) T σ K ↔ (a ≠ b → Rn 243 182 L st T σ K) ∧ (a = b → Rn 243 177 L st T σ K) := R_icmp_ne (off := 8) (by decide +kernel) (by decide)
theorem s243_177 : Rn 243 177 [l0, l1, l2, l3, l4, some (vI a), l6, l7, l8, l9, l10] st T σ K ↔ Rn 243 179 [l0, l1, l2, l3, l4, some (vI a), l6, l7, l8, l9, l10] (vI a :: st) T σ K := R_iload (n := 5) (by decide +kernel) rfl
theorem s243_179 : Rn 243 179 L st T σ K ↔ Rn 243 184 L st T σ K := R_goto (off := 5) (by decide +kernel) (by decide)
theorem s243_182 : Rn 243 182 [l0, l1, l2, l3, l4, l5, some (vI a), l7, l8, l9, l10] st T σ K ↔ Rn 243 184 [l0, l1, l2, l3, l4, l5, some (vI a), l7, l8, l9, l10] (vI a :: st) T σ K := R_iload (n := 6) (by decide +kernel) rfl
theorem s243_184 : Rn 243 184 L [vI a] T σ K ↔ K (some (vI a)) T σ := R_ret (by decide +kernel) (by decide +kernel)
theorem s244_0 : Rn 244 0 [some (vR o), l1, l2, l3, l4, l5, l6] st T σ K ↔ Rn 244 1 [some (vR o), l1, l2, l3, l4, l5, l6] (vR o :: st) T σ K := R_aload_n (n := 0) (by decide +kernel) rfl
theorem s244_1 : Rn 244 1 L (vR o :: st) T σ K ↔ (sx_kd T o = 9 ∧ st.length ≤ 4) ∧ Rn 202 0 [some (vR o), none, none] [] T σ (fun r T' σ' => Rn 244 4 L (sx_push r st) T' σ' K) := R_V (cm := 202) (n := 0) (idx := 248) (ci := 9) (mx := 3) (vs := []) (by decide +kernel) (by decide +kernel) rfl (by decide +kernel) rfl (by decide +kernel) (by decide +kernel)
theorem s244_4 : Rn 244 4 L st T σ K ↔ Rn 244 5 L (vI 2 :: st) T σ K := R_iconst (n := 2) (by decide +kernel) (by decide)
theorem s244_5 : Rn 244 5 L (vI b :: vI a :: st) T σ K ↔ (a < b → Rn 244 17 L st T σ K) ∧ (b ≤ a → Rn 244 8 L st T σ K) := R_icmp_lt (off := 12) (by decide +kernel) (by decide)
theorem s244_8 : Rn 244 8 [l0, some (vI a), l2, l3, l4, l5, l6] st T σ K ↔ Rn 244 9 [l0, some (vI a), l2, l3, l4, l5, l6] (vI a :: st) T σ K := R_iload_n (n := 1) (by decide +kernel) rfl
theorem s244_9 : Rn 244 9 L st T σ K ↔ Rn 244 10 L (vI 0 :: st) T σ K := R_iconst (n := 0) (by decide +kernel) (by decide)
theorem s244_10 : Rn 244 10 L st T σ K ↔ Rn 244 11 L (vI 5 :: st) T σ K := R_iconst (n := 5) (by decide +kernel) (by decide)
theorem s244_11 : Rn 244 11 L (vI c :: vI b :: vI a :: st) T σ K ↔ st.length ≤ 4 ∧ Rn 185 0 [some (vI a), some (vI b), some (vI c)] [] T σ (fun r T' σ' => Rn 244 14 L (sx_push r st) T' σ' K) := R_S (cm := 185) (n := 3) (idx := 189) (mx := 3) (vs := [vI a, vI b, vI c]) (by decide +kernel) (Or.inl (by decide +kernel)) rfl (by decide +kernel) rfl (by decide +kernel)
theorem s244_14 : Rn 244 14 L (vI a :: st) T σ K ↔ (a ≠ 0 → Rn 244 19 L st T σ K) ∧ (a = 0 → Rn 244 17 L st T σ K) := R_if_ne (off := 5) (by decide +kernel) (by decide)
theorem s244_17 : Rn 244 17 L st T σ K ↔ Rn 244 18 L (vI (-1) :: st) T σ K := R_iconst (n := -1) (by decide +kernel) (by decide)
theorem s244_18 : Rn 244 18 L [vI a] T σ K ↔ K (some (vI a)) T σ := R_ret (by decide +kernel) (by decide +kernel)
theorem s244_19 : Rn 244 19 L st T σ K ↔ Rn 244 20 L (vI (-1) :: st) T σ K := R_iconst (n := -1) (by decide +kernel) (by decide)
theorem s244_20 : Rn 244 20 [l0, l1, l2, l3, l4, l5, l6] (vI a :: st) T σ K ↔ Rn 244 21 [l0, l1, some (vI a), l3, l4, l5, l6] st T σ K := R_istore_n (n := 2) (by decide +kernel) rfl
theorem s244_21 : Rn 244 21 L st T σ K ↔ Rn 244 22 L (vI (-1) :: st) T σ K := R_iconst (n := -1) (by decide +kernel) (by decide)
theorem s244_22 : Rn 244 22 [l0, l1, l2, l3, l4, l5, l6] (vI a :: st) T σ K ↔ Rn 244 23 [l0, l1, l2, some (vI a), l4, l5, l6] st T σ K := R_istore_n (n := 3) (by decide +kernel) rfl
theorem s244_23 : Rn 244 23 L st T σ K ↔ Rn 244 24 L (vI 0 :: st) T σ K := R_iconst (n := 0) (by decide +kernel) (by decide)
theorem s244_24 : Rn 244 24 [l0, l1, l2, l3, l4, l5, l6] (vI a :: st) T σ K ↔ Rn 244 26 [l0, l1, l2, l3, some (vI a), l5, l6] st T σ K := R_istore (n := 4) (by decide +kernel) rfl
theorem s244_26 : Rn 244 26 [l0, l1, l2, l3, some (vI a), l5, l6] st T σ K ↔ Rn 244 28 [l0, l1, l2, l3, some (vI a), l5, l6] (vI a :: st) T σ K := R_iload (n := 4) (by decide +kernel) rfl
theorem s244_28 : Rn 244 28 L st T σ K ↔ Rn 244 30 L (vI 40 :: st) T σ K := R_bipush (n := 40) (by decide +kernel) (by decide +kernel)
theorem s244_30 : Rn 244 30 L (vI b :: vI a :: st) T σ K ↔ (b ≤ a → Rn 244 143 L st T σ K) ∧ (a < b → Rn 244 33 L st T σ K) := R_icmp_ge (off := 113) (by decide +kernel) (by decide)
theorem s244_33 : Rn 244 33 [l0, l1, l2, l3, some (vI a), l5, l6] st T σ K ↔ Rn 244 35 [l0, l1, l2, l3, some (vI a), l5, l6] (vI a :: st) T σ K := R_iload (n := 4) (by decide +kernel) rfl
theorem s244_35 : Rn 244 35 L st T σ K ↔ Rn 244 36 L (vI 1 :: st) T σ K := R_iconst (n := 1) (by decide +kernel) (by decide)
theorem s244_36 : Rn 244 36 L (vI b :: vI a :: st) T σ K ↔ inI (a + b) ∧ Rn 244 37 L (vI (a + b) :: st) T σ K := R_iadd (by decide +kernel)
theorem s244_37 : Rn 244 37 [l0, l1, l2, l3, l4, l5, l6] (vI a :: st) T σ K ↔ Rn 244 39 [l0, l1, l2, l3, l4, some (vI a), l6] st T σ K := R_istore (n := 5) (by decide +kernel) rfl
theorem s244_39 : Rn 244 39 [l0, l1, l2, l3, l4, some (vI a), l6] st T σ K ↔ Rn 244 41 [l0, l1, l2, l3, l4, some (vI a), l6] (vI a :: st) T σ K := R_iload (n := 5) (by decide +kernel) rfl
theorem s244_41 : Rn 244 41 L st T σ K ↔ Rn 244 43 L (vI 40 :: st) T σ K := R_bipush (n := 40) (by decide +kernel) (by decide +kernel)
theorem s244_43 : Rn 244 43 L (vI b :: vI a :: st) T σ K ↔ (b ≤ a → Rn 244 137 L st T σ K) ∧ (a < b → Rn 244 46 L st T σ K) := R_icmp_ge (off := 94) (by decide +kernel) (by decide)
theorem s244_46 : Rn 244 46 [some (vR o), l1, l2, l3, l4, l5, l6] st T σ K ↔ Rn 244 47 [some (vR o), l1, l2, l3, l4, l5, l6] (vR o :: st) T σ K := R_aload_n (n := 0) (by decide +kernel) rfl
theorem s244_47 : Rn 244 47 L (vR o :: st) T σ K ↔ sx_kd T o = 9 ∧ ∃ t, sx_rf T o 0 = some t ∧ Rn 244 50 L (vR t :: st) T σ K := R_getR (idx := 7) (ci := 9) (k := 0) (by decide +kernel) (by decide +kernel) rfl
theorem s244_50 : Rn 244 50 L st T σ K ↔ Rn 244 51 L (vI 0 :: st) T σ K := R_iconst (n := 0) (by decide +kernel) (by decide)
theorem s244_51 : Rn 244 51 [l0, l1, l2, l3, some (vI a), l5, l6] st T σ K ↔ Rn 244 53 [l0, l1, l2, l3, some (vI a), l5, l6] (vI a :: st) T σ K := R_iload (n := 4) (by decide +kernel) rfl
theorem s244_53 : Rn 244 53 L (vI b :: vI a :: st) T σ K ↔ inI (a + b) ∧ Rn 244 54 L (vI (a + b) :: st) T σ K := R_iadd (by decide +kernel)
theorem s244_54 : Rn 244 54 L (vI a :: vR o :: st) T σ K ↔ (sx_kd T o = 20 ∧ 0 ≤ a ∧ a < sx_ln T o) ∧ Rn 244 55 L (vI (σ o a) :: st) T σ K := R_iald (by decide +kernel) (by decide)
theorem s244_55 : Rn 244 55 L (vI a :: st) T σ K ↔ (a = 0 → Rn 244 131 L st T σ K) ∧ (a ≠ 0 → Rn 244 58 L st T σ K) := R_if_eq (off := 76) (by decide +kernel) (by decide)
theorem s244_58 : Rn 244 58 [some (vR o), l1, l2, l3, l4, l5, l6] st T σ K ↔ Rn 244 59 [some (vR o), l1, l2, l3, l4, l5, l6] (vR o :: st) T σ K := R_aload_n (n := 0) (by decide +kernel) rfl
theorem s244_59 : Rn 244 59 L (vR o :: st) T σ K ↔ sx_kd T o = 9 ∧ ∃ t, sx_rf T o 0 = some t ∧ Rn 244 62 L (vR t :: st) T σ K := R_getR (idx := 7) (ci := 9) (k := 0) (by decide +kernel) (by decide +kernel) rfl
theorem s244_62 : Rn 244 62 L st T σ K ↔ Rn 244 63 L (vI 0 :: st) T σ K := R_iconst (n := 0) (by decide +kernel) (by decide)
theorem s244_63 : Rn 244 63 [l0, l1, l2, l3, l4, some (vI a), l6] st T σ K ↔ Rn 244 65 [l0, l1, l2, l3, l4, some (vI a), l6] (vI a :: st) T σ K := R_iload (n := 5) (by decide +kernel) rfl
theorem s244_65 : Rn 244 65 L (vI b :: vI a :: st) T σ K ↔ inI (a + b) ∧ Rn 244 66 L (vI (a + b) :: st) T σ K := R_iadd (by decide +kernel)
theorem s244_66 : Rn 244 66 L (vI a :: vR o :: st) T σ K ↔ (sx_kd T o = 20 ∧ 0 ≤ a ∧ a < sx_ln T o) ∧ Rn 244 67 L (vI (σ o a) :: st) T σ K := R_iald (by decide +kernel) (by decide)
theorem s244_67 : Rn 244 67 L (vI a :: st) T σ K ↔ (a ≠ 0 → Rn 244 73 L st T σ K) ∧ (a = 0 → Rn 244 70 L st T σ K) := R_if_ne (off := 6) (by decide +kernel) (by decide)
theorem s244_70 : Rn 244 70 L st T σ K ↔ Rn 244 131 L st T σ K := R_goto (off := 61) (by decide +kernel) (by decide)
theorem s244_73 : Rn 244 73 [l0, l1, some (vI a), l3, l4, l5, l6] st T σ K ↔ Rn 244 74 [l0, l1, some (vI a), l3, l4, l5, l6] (vI a :: st) T σ K := R_iload_n (n := 2) (by decide +kernel) rfl
theorem s244_74 : Rn 244 74 L st T σ K ↔ Rn 244 75 L (vI (-1) :: st) T σ K := R_iconst (n := -1) (by decide +kernel) (by decide)
theorem s244_75 : Rn 244 75 L (vI b :: vI a :: st) T σ K ↔ (a ≠ b → Rn 244 82 L st T σ K) ∧ (a = b → Rn 244 78 L st T σ K) := R_icmp_ne (off := 7) (by decide +kernel) (by decide)
theorem s244_78 : Rn 244 78 L st T σ K ↔ Rn 244 79 L (vI 0 :: st) T σ K := R_iconst (n := 0) (by decide +kernel) (by decide)
theorem s244_79 : Rn 244 79 L st T σ K ↔ Rn 244 97 L st T σ K := R_goto (off := 18) (by decide +kernel) (by decide)
theorem s244_82 : Rn 244 82 [some (vR o), l1, l2, l3, l4, l5, l6] st T σ K ↔ Rn 244 83 [some (vR o), l1, l2, l3, l4, l5, l6] (vR o :: st) T σ K := R_aload_n (n := 0) (by decide +kernel) rfl
theorem s244_83 : Rn 244 83 [l0, l1, l2, l3, some (vI a), l5, l6] st T σ K ↔ Rn 244 85 [l0, l1, l2, l3, some (vI a), l5, l6] (vI a :: st) T σ K := R_iload (n := 4) (by decide +kernel) rfl
theorem s244_85 : Rn 244 85 [l0, l1, l2, l3, l4, some (vI a), l6] st T σ K ↔ Rn 244 87 [l0, l1, l2, l3, l4, some (vI a), l6] (vI a :: st) T σ K := R_iload (n := 5) (by decide +kernel) rfl
theorem s244_87 : Rn 244 87 L (vI b :: vI a :: vR o :: st) T σ K ↔ (sx_kd T o = 9 ∧ st.length ≤ 4) ∧ Rn 216 0 [some (vR o), some (vI a), some (vI b)] [] T σ (fun r T' σ' => Rn 244 90 L (sx_push r st) T' σ' K) := R_V (cm := 216) (n := 2) (idx := 238) (ci := 9) (mx := 3) (vs := [vI a, vI b]) (by decide +kernel) (by decide +kernel) rfl (by decide +kernel) rfl (by decide +kernel) (by decide +kernel)
theorem s244_90 : Rn 244 90 [some (vR o), l1, l2, l3, l4, l5, l6] st T σ K ↔ Rn 244 91 [some (vR o), l1, l2, l3, l4, l5, l6] (vR o :: st) T σ K := R_aload_n (n := 0) (by decide +kernel) rfl
theorem s244_91 : Rn 244 91 [l0, l1, some (vI a), l3, l4, l5, l6] st T σ K ↔ Rn 244 92 [l0, l1, some (vI a), l3, l4, l5, l6] (vI a :: st) T σ K := R_iload_n (n := 2) (by decide +kernel) rfl
theorem s244_92 : Rn 244 92 [l0, l1, l2, some (vI a), l4, l5, l6] st T σ K ↔ Rn 244 93 [l0, l1, l2, some (vI a), l4, l5, l6] (vI a :: st) T σ K := R_iload_n (n := 3) (by decide +kernel) rfl
theorem s244_93 : Rn 244 93 L (vI b :: vI a :: vR o :: st) T σ K ↔ (sx_kd T o = 9 ∧ st.length ≤ 4) ∧ Rn 216 0 [some (vR o), some (vI a), some (vI b)] [] T σ (fun r T' σ' => Rn 244 96 L (sx_push r st) T' σ' K) := R_V (cm := 216) (n := 2) (idx := 238) (ci := 9) (mx := 3) (vs := [vI a, vI b]) (by decide +kernel) (by decide +kernel) rfl (by decide +kernel) rfl (by decide +kernel) (by decide +kernel)
theorem s244_96 : Rn 244 96 L (vI b :: vI a :: st) T σ K ↔ inI (a - b) ∧ Rn 244 97 L (vI (a - b) :: st) T σ K := R_isub (by decide +kernel)
theorem s244_97 : Rn 244 97 [l0, l1, l2, l3, l4, l5, l6] (vI a :: st) T σ K ↔ Rn 244 99 [l0, l1, l2, l3, l4, l5, some (vI a)] st T σ K := R_istore (n := 6) (by decide +kernel) rfl
theorem s244_99 : Rn 244 99 [l0, l1, some (vI a), l3, l4, l5, l6] st T σ K ↔ Rn 244 100 [l0, l1, some (vI a), l3, l4, l5, l6] (vI a :: st) T σ K := R_iload_n (n := 2) (by decide +kernel) rfl
theorem s244_100 : Rn 244 100 L st T σ K ↔ Rn 244 101 L (vI (-1) :: st) T σ K := R_iconst (n := -1) (by decide +kernel) (by decide)
theorem s244_101 : Rn 244 101 L (vI b :: vI a :: st) T σ K ↔ (a = b → Rn 244 125 L st T σ K) ∧ (a ≠ b → Rn 244 104 L st T σ K) := R_icmp_eq (off := 24) (by decide +kernel) (by decide)
theorem s244_104 : Rn 244 104 [l0, some (vI a), l2, l3, l4, l5, l6] st T σ K ↔ Rn 244 105 [l0, some (vI a), l2, l3, l4, l5, l6] (vI a :: st) T σ K := R_iload_n (n := 1) (by decide +kernel) rfl
theorem s244_105 : Rn 244 105 L st T σ K ↔ Rn 244 106 L (vI 3 :: st) T σ K := R_iconst (n := 3) (by decide +kernel) (by decide)
theorem s244_106 : Rn 244 106 L (vI b :: vI a :: st) T σ K ↔ (b ≤ a → Rn 244 117 L st T σ K) ∧ (a < b → Rn 244 109 L st T σ K) := R_icmp_ge (off := 11) (by decide +kernel) (by decide)
theorem s244_109 : Rn 244 109 [l0, l1, l2, l3, l4, l5, some (vI a)] st T σ K ↔ Rn 244 111 [l0, l1, l2, l3, l4, l5, some (vI a)] (vI a :: st) T σ K := R_iload (n := 6) (by decide +kernel) rfl
theorem s244_111 : Rn 244 111 L (vI a :: st) T σ K ↔ (a < 0 → Rn 244 125 L st T σ K) ∧ (0 ≤ a → Rn 244 114 L st T σ K) := R_if_lt (off := 14) (by decide +kernel) (by decide)
theorem s244_114 : Rn 244 114 L st T σ K ↔ Rn 244 131 L st T σ K := R_goto (off := 17) (by decide +kernel) (by decide)
theorem s244_117 : Rn 244 117 [l0, l1, l2, l3, l4, l5, some (vI a)] st T σ K ↔ Rn 244 119 [l0, l1, l2, l3, l4, l5, some (vI a)] (vI a :: st) T σ K := R_iload (n := 6) (by decide +kernel) rfl
theorem s244_119 : Rn 244 119 L (vI a :: st) T σ K ↔ (0 < a → Rn 244 125 L st T σ K) ∧ (a ≤ 0 → Rn 244 122 L st T σ K) := R_if_gt (off := 6) (by decide +kernel) (by decide)
theorem s244_122 : Rn 244 122 L st T σ K ↔ Rn 244 131 L st T σ K := R_goto (off := 9) (by decide +kernel) (by decide)
theorem s244_125 : Rn 244 125 [l0, l1, l2, l3, some (vI a), l5, l6] st T σ K ↔ Rn 244 127 [l0, l1, l2, l3, some (vI a), l5, l6] (vI a :: st) T σ K := R_iload (n := 4) (by decide +kernel) rfl
theorem s244_127 : Rn 244 127 [l0, l1, l2, l3, l4, l5, l6] (vI a :: st) T σ K ↔ Rn 244 128 [l0, l1, some (vI a), l3, l4, l5, l6] st T σ K := R_istore_n (n := 2) (by decide +kernel) rfl
theorem s244_128 : Rn 244 128 [l0, l1, l2, l3, l4, some (vI a), l6] st T σ K ↔ Rn 244 130 [l0, l1, l2, l3, l4, some (vI a), l6] (vI a :: st) T σ K := R_iload (n := 5) (by decide +kernel) rfl
theorem s244_130 : Rn 244 130 [l0, l1, l2, l3, l4, l5, l6] (vI a :: st) T σ K ↔ Rn 244 131 [l0, l1, l2, some (vI a), l4, l5, l6] st T σ K := R_istore_n (n := 3) (by decide +kernel) rfl
theorem s244_131 : Rn 244 131 [l0, l1, l2, l3, l4, some (vI a), l6] st T σ K ↔ inI (a + 1) ∧ Rn 244 134 [l0, l1, l2, l3, l4, some (vI (a + 1)), l6] st T σ K := R_iinc (n := 5) (d := 1) (by decide +kernel) rfl
theorem s244_134 : Rn 244 134 L st T σ K ↔ Rn 244 39 L st T σ K := R_goto (off := -95) (by decide +kernel) (by decide)
theorem s244_137 : Rn 244 137 [l0, l1, l2, l3, some (vI a), l5, l6] st T σ K ↔ inI (a + 1) ∧ Rn 244 140 [l0, l1, l2, l3, some (vI (a + 1)), l5, l6] st T σ K := R_iinc (n := 4) (d := 1) (by decide +kernel) rfl
theorem s244_140 : Rn 244 140 L st T σ K ↔ Rn 244 26 L st T σ K := R_goto (off := -114) (by decide +kernel) (by decide)
theorem s244_143 : Rn 244 143 [l0, some (vI a), l2, l3, l4, l5, l6] st T σ K ↔ Rn 244 144 [l0, some (vI a), l2, l3, l4, l5, l6] (vI a :: st) T σ K := R_iload_n (n := 1) (by decide +kernel) rfl
theorem s244_144 : Rn 244 144 L st T σ K ↔ Rn 244 145 L (vI 3 :: st) T σ K := R_iconst (n := 3) (by decide +kernel) (by decide)
theorem s244_145 : Rn 244 145 L (vI b :: vI a :: st) T σ K ↔ 0 < b ∧ inI (a.tmod b) ∧ Rn 244 146 L (vI (a.tmod b) :: st) T σ K := R_irem (by decide +kernel)
theorem s244_146 : Rn 244 146 L (vI a :: st) T σ K ↔ (a ≠ 0 → Rn 244 153 L st T σ K) ∧ (a = 0 → Rn 244 149 L st T σ K) := R_if_ne (off := 7) (by decide +kernel) (by decide)
theorem s244_149 : Rn 244 149 [l0, l1, some (vI a), l3, l4, l5, l6] st T σ K ↔ Rn 244 150 [l0, l1, some (vI a), l3, l4, l5, l6] (vI a :: st) T σ K := R_iload_n (n := 2) (by decide +kernel) rfl
theorem s244_150 : Rn 244 150 L st T σ K ↔ Rn 244 170 L st T σ K := R_goto (off := 20) (by decide +kernel) (by decide)
theorem s244_153 : Rn 244 153 [l0, some (vI a), l2, l3, l4, l5, l6] st T σ K ↔ Rn 244 154 [l0, some (vI a), l2, l3, l4, l5, l6] (vI a :: st) T σ K := R_iload_n (n := 1) (by decide +kernel) rfl
theorem s244_154 : Rn 244 154 L st T σ K ↔ Rn 244 155 L (vI 3 :: st) T σ K := R_iconst (n := 3) (by decide +kernel) (by decide)
theorem s244_155 : Rn 244 155 L (vI b :: vI a :: st) T σ K ↔ 0 < b ∧ inI (a.tmod b) ∧ Rn 244 156 L (vI (a.tmod b) :: st) T σ K := R_irem (by decide +kernel)
theorem s244_156 : Rn 244 156 L st T σ K ↔ Rn 244 157 L (vI 1 :: st) T σ K := R_iconst (n := 1) (by decide +kernel) (by decide)
theorem s244_157 : Rn 244 157 L (vI b :: vI a :: st) T σ K ↔ (a ≠ b → Rn 244 164 L st T σ K) ∧ (a = b → Rn 244 160 L st T σ K) := R_icmp_ne (off := 7) (by decide +kernel) (by decide)
theorem s244_160 : Rn 244 160 [l0, l1, l2, some (vI a), l4, l5, l6] st T σ K ↔ Rn 244 161 [l0, l1, l2, some (vI a), l4, l5, l6] (vI a :: st) T σ K := R_iload_n (n := 3) (by decide +kernel) rfl
theorem s244_161 : Rn 244 161 L st T σ K ↔ Rn 244 170 L st T σ K := R_goto (off := 9) (by decide +kernel) (by decide)
theorem s244_164 : Rn 244 164 [some (vR o), l1, l2, l3, l4, l5, l6] st T σ K ↔ Rn 244 165 [some (vR o), l1, l2, l3, l4, l5, l6] (vR o :: st) T σ K := R_aload_n (n := 0) (by decide +kernel) rfl
theorem s244_165 : Rn 244 165 [l0, l1, some (vI a), l3, l4, l5, l6] st T σ K ↔ Rn 244 166 [l0, l1, some (vI a), l3, l4, l5, l6] (vI a :: st) T σ K := R_iload_n (n := 2) (by decide +kernel) rfl
theorem s244_166 : Rn 244 166 [l0, l1, l2, some (vI a), l4, l5, l6] st T σ K ↔ Rn 244 167 [l0, l1, l2, some (vI a), l4, l5, l6] (vI a :: st) T σ K := R_iload_n (n := 3) (by decide +kernel) rfl
theorem s244_167 : Rn 244 167 L (vI b :: vI a :: vR o :: st) T σ K ↔ (sx_kd T o = 9 ∧ st.length ≤ 4) ∧ Rn 216 0 [some (vR o), some (vI a), some (vI b)] [] T σ (fun r T' σ' => Rn 244 170 L (sx_push r st) T' σ' K) := R_V (cm := 216) (n := 2) (idx := 238) (ci := 9) (mx := 3) (vs := [vI a, vI b]) (by decide +kernel) (by decide +kernel) rfl (by decide +kernel) rfl (by decide +kernel) (by decide +kernel)
theorem s244_170 : Rn 244 170 L [vI a] T σ K ↔ K (some (vI a)) T σ := R_ret (by decide +kernel) (by decide +kernel)
end ST6
