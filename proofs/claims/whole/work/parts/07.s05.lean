section ST5
variable {L : sxL} {st : List sxV} {T : sxT} {σ : sxS} {K : Option sxV → sxT → sxS → Prop} {a b c d e f g : Int} {o p q r1 r2 : Nat} {l0 l1 l2 l3 l4 l5 l6 l7 l8 l9 l10 l11 : Option sxV}
theorem s174_0 : Rn 174 0 [some (vR o), l1] st T σ K ↔ Rn 174 1 [some (vR o), l1] (vR o :: st) T σ K := R_aload_n (n := 0) (by decide +kernel) rfl
theorem s174_1 : Rn 174 1 L (vR o :: st) T σ K ↔ sx_kd T o = 9 ∧ Rn 174 4 L (vI (σ o 8) :: st) T σ K := R_getI (idx := 36) (ci := 9) (k := 8) (by decide +kernel) (by decide +kernel) (Or.inl rfl)
theorem s174_4 : Rn 174 4 [l0, l1] (vI a :: st) T σ K ↔ Rn 174 5 [l0, some (vI a)] st T σ K := R_istore_n (n := 1) (by decide +kernel) rfl
theorem s174_5 : Rn 174 5 [some (vR o), l1] st T σ K ↔ Rn 174 6 [some (vR o), l1] (vR o :: st) T σ K := R_aload_n (n := 0) (by decide +kernel) rfl
theorem s174_6 : Rn 174 6 L st T σ K ↔ Rn 174 7 L (vI 0 :: st) T σ K := R_iconst (n := 0) (by decide +kernel) (by decide)
theorem s174_7 : Rn 174 7 L (vI a :: vR o :: st) T σ K ↔ sx_kd T o = 9 ∧ Rn 174 10 L st T (sx_up σ o 8 a) K := R_putI (idx := 36) (ci := 9) (k := 8) (by decide +kernel) (by decide +kernel) rfl rfl
theorem s174_10 : Rn 174 10 [l0, some (vI a)] st T σ K ↔ Rn 174 11 [l0, some (vI a)] (vI a :: st) T σ K := R_iload_n (n := 1) (by decide +kernel) rfl
theorem s174_11 : Rn 174 11 L [vI a] T σ K ↔ K (some (vI a)) T σ := R_ret (by decide +kernel) (by decide +kernel)
theorem s175_0 : Rn 175 0 [some (vR o), l1] st T σ K ↔ Rn 175 1 [some (vR o), l1] (vR o :: st) T σ K := R_aload_n (n := 0) (by decide +kernel) rfl
theorem s175_1 : Rn 175 1 L st T σ K ↔ Rn 175 2 L (vI 0 :: st) T σ K := R_iconst (n := 0) (by decide +kernel) (by decide)
theorem s175_2 : Rn 175 2 L (vI a :: vR o :: st) T σ K ↔ sx_kd T o = 9 ∧ Rn 175 5 L st T (sx_up σ o 18 a) K := R_putI (idx := 66) (ci := 9) (k := 18) (by decide +kernel) (by decide +kernel) rfl rfl
theorem s175_5 : Rn 175 5 [some (vR o), l1] st T σ K ↔ Rn 175 6 [some (vR o), l1] (vR o :: st) T σ K := R_aload_n (n := 0) (by decide +kernel) rfl
theorem s175_6 : Rn 175 6 L st T σ K ↔ Rn 175 7 L (vI 0 :: st) T σ K := R_iconst (n := 0) (by decide +kernel) (by decide)
theorem s175_7 : Rn 175 7 L (vI a :: vR o :: st) T σ K ↔ (sx_kd T o = 9 ∧ st.length ≤ 4) ∧ Rn 176 0 [some (vR o), some (vI a)] [] T σ (fun r T' σ' => Rn 175 10 L (sx_push r st) T' σ' K) := R_V (cm := 176) (n := 1) (idx := 183) (ci := 9) (mx := 2) (vs := [vI a]) (by decide +kernel) (by decide +kernel) rfl (by decide +kernel) rfl (by decide +kernel) (by decide +kernel)
theorem s175_10 : Rn 175 10 [some (vR o), l1] st T σ K ↔ Rn 175 11 [some (vR o), l1] (vR o :: st) T σ K := R_aload_n (n := 0) (by decide +kernel) rfl
theorem s175_11 : Rn 175 11 L st T σ K ↔ Rn 175 12 L (vI 1 :: st) T σ K := R_iconst (n := 1) (by decide +kernel) (by decide)
theorem s175_12 : Rn 175 12 L (vI a :: vR o :: st) T σ K ↔ (sx_kd T o = 9 ∧ st.length ≤ 4) ∧ Rn 176 0 [some (vR o), some (vI a)] [] T σ (fun r T' σ' => Rn 175 15 L (sx_push r st) T' σ' K) := R_V (cm := 176) (n := 1) (idx := 183) (ci := 9) (mx := 2) (vs := [vI a]) (by decide +kernel) (by decide +kernel) rfl (by decide +kernel) rfl (by decide +kernel) (by decide +kernel)
theorem s175_15 : Rn 175 15 [some (vR o), l1] st T σ K ↔ Rn 175 16 [some (vR o), l1] (vR o :: st) T σ K := R_aload_n (n := 0) (by decide +kernel) rfl
theorem s175_16 : Rn 175 16 L (vR o :: st) T σ K ↔ (sx_kd T o = 9 ∧ st.length ≤ 4) ∧ Rn 177 0 [some (vR o)] [] T σ (fun r T' σ' => Rn 175 19 L (sx_push r st) T' σ' K) := R_V (cm := 177) (n := 0) (idx := 171) (ci := 9) (mx := 1) (vs := []) (by decide +kernel) (by decide +kernel) rfl (by decide +kernel) rfl (by decide +kernel) (by decide +kernel)
theorem s175_19 : Rn 175 19 [some (vR o), l1] st T σ K ↔ Rn 175 20 [some (vR o), l1] (vR o :: st) T σ K := R_aload_n (n := 0) (by decide +kernel) rfl
theorem s175_20 : Rn 175 20 L (vR o :: st) T σ K ↔ (sx_kd T o = 9 ∧ st.length ≤ 4) ∧ Rn 178 0 [some (vR o)] [] T σ (fun r T' σ' => Rn 175 23 L (sx_push r st) T' σ' K) := R_V (cm := 178) (n := 0) (idx := 153) (ci := 9) (mx := 1) (vs := []) (by decide +kernel) (by decide +kernel) rfl (by decide +kernel) rfl (by decide +kernel) (by decide +kernel)
theorem s175_23 : Rn 175 23 L (vI a :: st) T σ K ↔ (a = 0 → Rn 175 47 L st T σ K) ∧ (a ≠ 0 → Rn 175 26 L st T σ K) := R_if_eq (off := 24) (by decide +kernel) (by decide)
theorem s175_26 : Rn 175 26 [some (vR o), l1] st T σ K ↔ Rn 175 27 [some (vR o), l1] (vR o :: st) T σ K := R_aload_n (n := 0) (by decide +kernel) rfl
theorem s175_27 : Rn 175 27 L (vR o :: st) T σ K ↔ (sx_kd T o = 9 ∧ st.length ≤ 4) ∧ Rn 184 0 [some (vR o), none, none, none] [] T σ (fun r T' σ' => Rn 175 30 L (sx_push r st) T' σ' K) := R_V (cm := 184) (n := 0) (idx := 174) (ci := 9) (mx := 4) (vs := []) (by decide +kernel) (by decide +kernel) rfl (by decide +kernel) rfl (by decide +kernel) (by decide +kernel)
theorem s175_30 : Rn 175 30 L st T σ K ↔ Rn 175 31 L (vI 2 :: st) T σ K := R_iconst (n := 2) (by decide +kernel) (by decide)
theorem s175_31 : Rn 175 31 L st T σ K ↔ Rn 175 32 L (vI 4 :: st) T σ K := R_iconst (n := 4) (by decide +kernel) (by decide)
theorem s175_32 : Rn 175 32 L (vI c :: vI b :: vI a :: st) T σ K ↔ st.length ≤ 4 ∧ Rn 185 0 [some (vI a), some (vI b), some (vI c)] [] T σ (fun r T' σ' => Rn 175 35 L (sx_push r st) T' σ' K) := R_S (cm := 185) (n := 3) (idx := 189) (mx := 3) (vs := [vI a, vI b, vI c]) (by decide +kernel) (Or.inl (by decide +kernel)) rfl (by decide +kernel) rfl (by decide +kernel)
theorem s175_35 : Rn 175 35 L (vI a :: st) T σ K ↔ (a ≠ 0 → Rn 175 47 L st T σ K) ∧ (a = 0 → Rn 175 38 L st T σ K) := R_if_ne (off := 12) (by decide +kernel) (by decide)
theorem s175_38 : Rn 175 38 [some (vR o), l1] st T σ K ↔ Rn 175 39 [some (vR o), l1] (vR o :: st) T σ K := R_aload_n (n := 0) (by decide +kernel) rfl
theorem s175_39 : Rn 175 39 L st T σ K ↔ Rn 175 40 L (vI 1 :: st) T σ K := R_iconst (n := 1) (by decide +kernel) (by decide)
theorem s175_40 : Rn 175 40 [some (vR o), l1] st T σ K ↔ Rn 175 41 [some (vR o), l1] (vR o :: st) T σ K := R_aload_n (n := 0) (by decide +kernel) rfl
theorem s175_41 : Rn 175 41 L (vR o :: st) T σ K ↔ sx_kd T o = 9 ∧ Rn 175 44 L (vI (σ o 14) :: st) T σ K := R_getI (idx := 54) (ci := 9) (k := 14) (by decide +kernel) (by decide +kernel) (Or.inl rfl)
theorem s175_44 : Rn 175 44 L (vI b :: vI a :: vR o :: st) T σ K ↔ (sx_kd T o = 9 ∧ st.length ≤ 4) ∧ Rn 183 0 [some (vR o), some (vI a), some (vI b)] [] T σ (fun r T' σ' => Rn 175 47 L (sx_push r st) T' σ' K) := R_V (cm := 183) (n := 2) (idx := 167) (ci := 9) (mx := 3) (vs := [vI a, vI b]) (by decide +kernel) (by decide +kernel) rfl (by decide +kernel) rfl (by decide +kernel) (by decide +kernel)
theorem s175_47 : Rn 175 47 [some (vR o), l1] st T σ K ↔ Rn 175 48 [some (vR o), l1] (vR o :: st) T σ K := R_aload_n (n := 0) (by decide +kernel) rfl
theorem s175_48 : Rn 175 48 L (vR o :: st) T σ K ↔ (sx_kd T o = 9 ∧ st.length ≤ 4) ∧ Rn 178 0 [some (vR o)] [] T σ (fun r T' σ' => Rn 175 51 L (sx_push r st) T' σ' K) := R_V (cm := 178) (n := 0) (idx := 153) (ci := 9) (mx := 1) (vs := []) (by decide +kernel) (by decide +kernel) rfl (by decide +kernel) rfl (by decide +kernel) (by decide +kernel)
theorem s175_51 : Rn 175 51 L (vI a :: st) T σ K ↔ (a = 0 → Rn 175 64 L st T σ K) ∧ (a ≠ 0 → Rn 175 54 L st T σ K) := R_if_eq (off := 13) (by decide +kernel) (by decide)
theorem s175_54 : Rn 175 54 [some (vR o), l1] st T σ K ↔ Rn 175 55 [some (vR o), l1] (vR o :: st) T σ K := R_aload_n (n := 0) (by decide +kernel) rfl
theorem s175_55 : Rn 175 55 [some (vR o), l1] st T σ K ↔ Rn 175 56 [some (vR o), l1] (vR o :: st) T σ K := R_aload_n (n := 0) (by decide +kernel) rfl
theorem s175_56 : Rn 175 56 L (vR o :: st) T σ K ↔ (sx_kd T o = 9 ∧ st.length ≤ 4) ∧ Rn 184 0 [some (vR o), none, none, none] [] T σ (fun r T' σ' => Rn 175 59 L (sx_push r st) T' σ' K) := R_V (cm := 184) (n := 0) (idx := 174) (ci := 9) (mx := 4) (vs := []) (by decide +kernel) (by decide +kernel) rfl (by decide +kernel) rfl (by decide +kernel) (by decide +kernel)
theorem s175_59 : Rn 175 59 L st T σ K ↔ Rn 175 60 L (vI 2 :: st) T σ K := R_iconst (n := 2) (by decide +kernel) (by decide)
theorem s175_60 : Rn 175 60 L (vI b :: vI a :: st) T σ K ↔ inI (a - b) ∧ Rn 175 61 L (vI (a - b) :: st) T σ K := R_isub (by decide +kernel)
theorem s175_61 : Rn 175 61 L (vI a :: vR o :: st) T σ K ↔ sx_kd T o = 9 ∧ Rn 175 64 L st T (sx_up σ o 19 a) K := R_putI (idx := 69) (ci := 9) (k := 19) (by decide +kernel) (by decide +kernel) rfl rfl
theorem s175_64 : Rn 175 64 [some (vR o), l1] st T σ K ↔ Rn 175 65 [some (vR o), l1] (vR o :: st) T σ K := R_aload_n (n := 0) (by decide +kernel) rfl
theorem s175_65 : Rn 175 65 L (vR o :: st) T σ K ↔ (sx_kd T o = 9 ∧ st.length ≤ 4) ∧ Rn 186 0 [some (vR o)] [] T σ (fun r T' σ' => Rn 175 68 L (sx_push r st) T' σ' K) := R_V (cm := 186) (n := 0) (idx := 193) (ci := 9) (mx := 1) (vs := []) (by decide +kernel) (by decide +kernel) rfl (by decide +kernel) rfl (by decide +kernel) (by decide +kernel)
theorem s175_68 : Rn 175 68 L st T σ K ↔ Rn 175 69 L (vI 1 :: st) T σ K := R_iconst (n := 1) (by decide +kernel) (by decide)
theorem s175_69 : Rn 175 69 [l0, l1] (vI a :: st) T σ K ↔ Rn 175 70 [l0, some (vI a)] st T σ K := R_istore_n (n := 1) (by decide +kernel) rfl
theorem s175_70 : Rn 175 70 [some (vR o), l1] st T σ K ↔ Rn 175 71 [some (vR o), l1] (vR o :: st) T σ K := R_aload_n (n := 0) (by decide +kernel) rfl
theorem s175_71 : Rn 175 71 L (vR o :: st) T σ K ↔ (sx_kd T o = 9 ∧ st.length ≤ 4) ∧ Rn 178 0 [some (vR o)] [] T σ (fun r T' σ' => Rn 175 74 L (sx_push r st) T' σ' K) := R_V (cm := 178) (n := 0) (idx := 153) (ci := 9) (mx := 1) (vs := []) (by decide +kernel) (by decide +kernel) rfl (by decide +kernel) rfl (by decide +kernel) (by decide +kernel)
theorem s175_74 : Rn 175 74 L (vI a :: st) T σ K ↔ (a = 0 → Rn 175 111 L st T σ K) ∧ (a ≠ 0 → Rn 175 77 L st T σ K) := R_if_eq (off := 37) (by decide +kernel) (by decide)
theorem s175_77 : Rn 175 77 [some (vR o), l1] st T σ K ↔ Rn 175 78 [some (vR o), l1] (vR o :: st) T σ K := R_aload_n (n := 0) (by decide +kernel) rfl
theorem s175_78 : Rn 175 78 L (vR o :: st) T σ K ↔ (sx_kd T o = 9 ∧ st.length ≤ 4) ∧ Rn 179 0 [some (vR o)] [] T σ (fun r T' σ' => Rn 175 81 L (sx_push r st) T' σ' K) := R_V (cm := 179) (n := 0) (idx := 157) (ci := 9) (mx := 1) (vs := []) (by decide +kernel) (by decide +kernel) rfl (by decide +kernel) rfl (by decide +kernel) (by decide +kernel)
theorem s175_81 : Rn 175 81 L st T σ K ↔ Rn 175 82 L (vI (-1) :: st) T σ K := R_iconst (n := -1) (by decide +kernel) (by decide)
theorem s175_82 : Rn 175 82 L (vI b :: vI a :: st) T σ K ↔ (a = b → Rn 175 111 L st T σ K) ∧ (a ≠ b → Rn 175 85 L st T σ K) := R_icmp_eq (off := 29) (by decide +kernel) (by decide)
theorem s175_85 : Rn 175 85 [some (vR o), l1] st T σ K ↔ Rn 175 86 [some (vR o), l1] (vR o :: st) T σ K := R_aload_n (n := 0) (by decide +kernel) rfl
theorem s175_86 : Rn 175 86 L st T σ K ↔ Rn 175 87 L (vI 5 :: st) T σ K := R_iconst (n := 5) (by decide +kernel) (by decide)
theorem s175_87 : Rn 175 87 L (vI a :: vR o :: st) T σ K ↔ (sx_kd T o = 9 ∧ st.length ≤ 4) ∧ Rn 176 0 [some (vR o), some (vI a)] [] T σ (fun r T' σ' => Rn 175 90 L (sx_push r st) T' σ' K) := R_V (cm := 176) (n := 1) (idx := 183) (ci := 9) (mx := 2) (vs := [vI a]) (by decide +kernel) (by decide +kernel) rfl (by decide +kernel) rfl (by decide +kernel) (by decide +kernel)
theorem s175_90 : Rn 175 90 [some (vR o), l1] st T σ K ↔ Rn 175 91 [some (vR o), l1] (vR o :: st) T σ K := R_aload_n (n := 0) (by decide +kernel) rfl
theorem s175_91 : Rn 175 91 L (vR o :: st) T σ K ↔ (sx_kd T o = 9 ∧ st.length ≤ 4) ∧ Rn 178 0 [some (vR o)] [] T σ (fun r T' σ' => Rn 175 94 L (sx_push r st) T' σ' K) := R_V (cm := 178) (n := 0) (idx := 153) (ci := 9) (mx := 1) (vs := []) (by decide +kernel) (by decide +kernel) rfl (by decide +kernel) rfl (by decide +kernel) (by decide +kernel)
theorem s175_94 : Rn 175 94 L (vI a :: st) T σ K ↔ (a = 0 → Rn 175 101 L st T σ K) ∧ (a ≠ 0 → Rn 175 97 L st T σ K) := R_if_eq (off := 7) (by decide +kernel) (by decide)
theorem s175_97 : Rn 175 97 [some (vR o), l1] st T σ K ↔ Rn 175 98 [some (vR o), l1] (vR o :: st) T σ K := R_aload_n (n := 0) (by decide +kernel) rfl
theorem s175_98 : Rn 175 98 L (vR o :: st) T σ K ↔ (sx_kd T o = 9 ∧ st.length ≤ 4) ∧ Rn 187 0 [some (vR o), none, none, none, none] [] T σ (fun r T' σ' => Rn 175 101 L (sx_push r st) T' σ' K) := R_V (cm := 187) (n := 0) (idx := 196) (ci := 9) (mx := 5) (vs := []) (by decide +kernel) (by decide +kernel) rfl (by decide +kernel) rfl (by decide +kernel) (by decide +kernel)
theorem s175_101 : Rn 175 101 [some (vR o), l1] st T σ K ↔ Rn 175 102 [some (vR o), l1] (vR o :: st) T σ K := R_aload_n (n := 0) (by decide +kernel) rfl
theorem s175_102 : Rn 175 102 L (vR o :: st) T σ K ↔ (sx_kd T o = 9 ∧ st.length ≤ 4) ∧ Rn 186 0 [some (vR o)] [] T σ (fun r T' σ' => Rn 175 105 L (sx_push r st) T' σ' K) := R_V (cm := 186) (n := 0) (idx := 193) (ci := 9) (mx := 1) (vs := []) (by decide +kernel) (by decide +kernel) rfl (by decide +kernel) rfl (by decide +kernel) (by decide +kernel)
theorem s175_105 : Rn 175 105 [l0, some (vI a)] st T σ K ↔ inI (a + 1) ∧ Rn 175 108 [l0, some (vI (a + 1))] st T σ K := R_iinc (n := 1) (d := 1) (by decide +kernel) rfl
theorem s175_108 : Rn 175 108 L st T σ K ↔ Rn 175 70 L st T σ K := R_goto (off := -38) (by decide +kernel) (by decide)
theorem s175_111 : Rn 175 111 [l0, some (vI a)] st T σ K ↔ Rn 175 112 [l0, some (vI a)] (vI a :: st) T σ K := R_iload_n (n := 1) (by decide +kernel) rfl
theorem s175_112 : Rn 175 112 L [vI a] T σ K ↔ K (some (vI a)) T σ := R_ret (by decide +kernel) (by decide +kernel)
theorem s176_0 : Rn 176 0 [some (vR o), l1] st T σ K ↔ Rn 176 1 [some (vR o), l1] (vR o :: st) T σ K := R_aload_n (n := 0) (by decide +kernel) rfl
theorem s176_1 : Rn 176 1 L (vR o :: st) T σ K ↔ (sx_kd T o = 9 ∧ st.length ≤ 4) ∧ Rn 177 0 [some (vR o)] [] T σ (fun r T' σ' => Rn 176 4 L (sx_push r st) T' σ' K) := R_V (cm := 177) (n := 0) (idx := 171) (ci := 9) (mx := 1) (vs := []) (by decide +kernel) (by decide +kernel) rfl (by decide +kernel) rfl (by decide +kernel) (by decide +kernel)
theorem s176_4 : Rn 176 4 [some (vR o), l1] st T σ K ↔ Rn 176 5 [some (vR o), l1] (vR o :: st) T σ K := R_aload_n (n := 0) (by decide +kernel) rfl
theorem s176_5 : Rn 176 5 L (vR o :: st) T σ K ↔ (sx_kd T o = 9 ∧ st.length ≤ 4) ∧ Rn 178 0 [some (vR o)] [] T σ (fun r T' σ' => Rn 176 8 L (sx_push r st) T' σ' K) := R_V (cm := 178) (n := 0) (idx := 153) (ci := 9) (mx := 1) (vs := []) (by decide +kernel) (by decide +kernel) rfl (by decide +kernel) rfl (by decide +kernel) (by decide +kernel)
theorem s176_8 : Rn 176 8 L (vI a :: st) T σ K ↔ (a = 0 → Rn 176 28 L st T σ K) ∧ (a ≠ 0 → Rn 176 11 L st T σ K) := R_if_eq (off := 20) (by decide +kernel) (by decide)
theorem s176_11 : Rn 176 11 [some (vR o), l1] st T σ K ↔ Rn 176 12 [some (vR o), l1] (vR o :: st) T σ K := R_aload_n (n := 0) (by decide +kernel) rfl
theorem s176_12 : Rn 176 12 L (vR o :: st) T σ K ↔ (sx_kd T o = 9 ∧ st.length ≤ 4) ∧ Rn 184 0 [some (vR o), none, none, none] [] T σ (fun r T' σ' => Rn 176 15 L (sx_push r st) T' σ' K) := R_V (cm := 184) (n := 0) (idx := 174) (ci := 9) (mx := 4) (vs := []) (by decide +kernel) (by decide +kernel) rfl (by decide +kernel) rfl (by decide +kernel) (by decide +kernel)
theorem s176_15 : Rn 176 15 [l0, some (vI a)] st T σ K ↔ Rn 176 16 [l0, some (vI a)] (vI a :: st) T σ K := R_iload_n (n := 1) (by decide +kernel) rfl
theorem s176_16 : Rn 176 16 L (vI b :: vI a :: st) T σ K ↔ (a = b → Rn 176 28 L st T σ K) ∧ (a ≠ b → Rn 176 19 L st T σ K) := R_icmp_eq (off := 12) (by decide +kernel) (by decide)
theorem s176_19 : Rn 176 19 [some (vR o), l1] st T σ K ↔ Rn 176 20 [some (vR o), l1] (vR o :: st) T σ K := R_aload_n (n := 0) (by decide +kernel) rfl
theorem s176_20 : Rn 176 20 L st T σ K ↔ Rn 176 21 L (vI 1 :: st) T σ K := R_iconst (n := 1) (by decide +kernel) (by decide)
theorem s176_21 : Rn 176 21 [some (vR o), l1] st T σ K ↔ Rn 176 22 [some (vR o), l1] (vR o :: st) T σ K := R_aload_n (n := 0) (by decide +kernel) rfl
theorem s176_22 : Rn 176 22 L (vR o :: st) T σ K ↔ sx_kd T o = 9 ∧ Rn 176 25 L (vI (σ o 14) :: st) T σ K := R_getI (idx := 54) (ci := 9) (k := 14) (by decide +kernel) (by decide +kernel) (Or.inl rfl)
theorem s176_25 : Rn 176 25 L (vI b :: vI a :: vR o :: st) T σ K ↔ (sx_kd T o = 9 ∧ st.length ≤ 4) ∧ Rn 183 0 [some (vR o), some (vI a), some (vI b)] [] T σ (fun r T' σ' => Rn 176 28 L (sx_push r st) T' σ' K) := R_V (cm := 183) (n := 2) (idx := 167) (ci := 9) (mx := 3) (vs := [vI a, vI b]) (by decide +kernel) (by decide +kernel) rfl (by decide +kernel) rfl (by decide +kernel) (by decide +kernel)
theorem s176_28 : Rn 176 28 L [] T σ K ↔ K none T σ := R_retV (by decide +kernel) (by decide +kernel)
theorem s177_0 : Rn 177 0 [some (vR o)] st T σ K ↔ Rn 177 1 [some (vR o)] (vR o :: st) T σ K := R_aload_n (n := 0) (by decide +kernel) rfl
theorem s177_1 : Rn 177 1 L (vR o :: st) T σ K ↔ (sx_kd T o = 9 ∧ st.length ≤ 4) ∧ Rn 178 0 [some (vR o)] [] T σ (fun r T' σ' => Rn 177 4 L (sx_push r st) T' σ' K) := R_V (cm := 178) (n := 0) (idx := 153) (ci := 9) (mx := 1) (vs := []) (by decide +kernel) (by decide +kernel) rfl (by decide +kernel) rfl (by decide +kernel) (by decide +kernel)
theorem s177_4 : Rn 177 4 L (vI a :: st) T σ K ↔ (a ≠ 0 → Rn 177 8 L st T σ K) ∧ (a = 0 → Rn 177 7 L st T σ K) := R_if_ne (off := 4) (by decide +kernel) (by decide)
theorem s177_7 : Rn 177 7 L [] T σ K ↔ K none T σ := R_retV (by decide +kernel) (by decide +kernel)
theorem s177_8 : Rn 177 8 [some (vR o)] st T σ K ↔ Rn 177 9 [some (vR o)] (vR o :: st) T σ K := R_aload_n (n := 0) (by decide +kernel) rfl
theorem s177_9 : Rn 177 9 L (vR o :: st) T σ K ↔ (sx_kd T o = 9 ∧ st.length ≤ 4) ∧ Rn 179 0 [some (vR o)] [] T σ (fun r T' σ' => Rn 177 12 L (sx_push r st) T' σ' K) := R_V (cm := 179) (n := 0) (idx := 157) (ci := 9) (mx := 1) (vs := []) (by decide +kernel) (by decide +kernel) rfl (by decide +kernel) rfl (by decide +kernel) (by decide +kernel)
theorem s177_12 : Rn 177 12 L (vI a :: st) T σ K ↔ Rn 177 13 L st T σ K := R_pop (v := vI a) (by decide +kernel) rfl
theorem s177_13 : Rn 177 13 [some (vR o)] st T σ K ↔ Rn 177 14 [some (vR o)] (vR o :: st) T σ K := R_aload_n (n := 0) (by decide +kernel) rfl
theorem s177_14 : Rn 177 14 [some (vR o)] st T σ K ↔ Rn 177 15 [some (vR o)] (vR o :: st) T σ K := R_aload_n (n := 0) (by decide +kernel) rfl
theorem s177_15 : Rn 177 15 L (vR o :: st) T σ K ↔ sx_kd T o = 9 ∧ Rn 177 18 L (vI (σ o 13) :: st) T σ K := R_getI (idx := 51) (ci := 9) (k := 13) (by decide +kernel) (by decide +kernel) (Or.inl rfl)
theorem s177_18 : Rn 177 18 L (vI a :: vR o :: st) T σ K ↔ sx_kd T o = 9 ∧ Rn 177 21 L st T (sx_up σ o 14 a) K := R_putI (idx := 54) (ci := 9) (k := 14) (by decide +kernel) (by decide +kernel) rfl rfl
theorem s177_21 : Rn 177 21 [some (vR o)] st T σ K ↔ Rn 177 22 [some (vR o)] (vR o :: st) T σ K := R_aload_n (n := 0) (by decide +kernel) rfl
theorem s177_22 : Rn 177 22 [some (vR o)] st T σ K ↔ Rn 177 23 [some (vR o)] (vR o :: st) T σ K := R_aload_n (n := 0) (by decide +kernel) rfl
theorem s177_23 : Rn 177 23 L (vR o :: st) T σ K ↔ sx_kd T o = 9 ∧ Rn 177 26 L (vI (σ o 13) :: st) T σ K := R_getI (idx := 51) (ci := 9) (k := 13) (by decide +kernel) (by decide +kernel) (Or.inl rfl)
theorem s177_26 : Rn 177 26 L (vI a :: vR o :: st) T σ K ↔ (sx_kd T o = 9 ∧ st.length ≤ 4) ∧ Rn 181 0 [some (vR o), some (vI a)] [] T σ (fun r T' σ' => Rn 177 29 L (sx_push r st) T' σ' K) := R_V (cm := 181) (n := 1) (idx := 161) (ci := 9) (mx := 2) (vs := [vI a]) (by decide +kernel) (by decide +kernel) rfl (by decide +kernel) rfl (by decide +kernel) (by decide +kernel)
theorem s177_29 : Rn 177 29 L (vI a :: st) T σ K ↔ (a = 0 → Rn 177 58 L st T σ K) ∧ (a ≠ 0 → Rn 177 32 L st T σ K) := R_if_eq (off := 29) (by decide +kernel) (by decide)
theorem s177_32 : Rn 177 32 [some (vR o)] st T σ K ↔ Rn 177 33 [some (vR o)] (vR o :: st) T σ K := R_aload_n (n := 0) (by decide +kernel) rfl
theorem s177_33 : Rn 177 33 [some (vR o)] st T σ K ↔ Rn 177 34 [some (vR o)] (vR o :: st) T σ K := R_aload_n (n := 0) (by decide +kernel) rfl
theorem s177_34 : Rn 177 34 L (vR o :: st) T σ K ↔ sx_kd T o = 9 ∧ Rn 177 37 L (vI (σ o 13) :: st) T σ K := R_getI (idx := 51) (ci := 9) (k := 13) (by decide +kernel) (by decide +kernel) (Or.inl rfl)
theorem s177_37 : Rn 177 37 L st T σ K ↔ Rn 177 38 L (vI 1 :: st) T σ K := R_iconst (n := 1) (by decide +kernel) (by decide)
theorem s177_38 : Rn 177 38 L (vI b :: vI a :: st) T σ K ↔ inI (a - b) ∧ Rn 177 39 L (vI (a - b) :: st) T σ K := R_isub (by decide +kernel)
theorem s177_39 : Rn 177 39 L (vI a :: vR o :: st) T σ K ↔ (sx_kd T o = 9 ∧ st.length ≤ 4) ∧ Rn 181 0 [some (vR o), some (vI a)] [] T σ (fun r T' σ' => Rn 177 42 L (sx_push r st) T' σ' K) := R_V (cm := 181) (n := 1) (idx := 161) (ci := 9) (mx := 2) (vs := [vI a]) (by decide +kernel) (by decide +kernel) rfl (by decide +kernel) rfl (by decide +kernel) (by decide +kernel)
theorem s177_42 : Rn 177 42 L (vI a :: st) T σ K ↔ (a ≠ 0 → Rn 177 58 L st T σ K) ∧ (a = 0 → Rn 177 45 L st T σ K) := R_if_ne (off := 16) (by decide +kernel) (by decide)
theorem s177_45 : Rn 177 45 [some (vR o)] st T σ K ↔ Rn 177 46 [some (vR o)] (vR o :: st) T σ K := R_aload_n (n := 0) (by decide +kernel) rfl
theorem s177_46 : Rn 177 46 [some (vR o)] st T σ K ↔ Rn 177 47 [some (vR o)] (vR o :: st) T σ K := R_aload_n (n := 0) (by decide +kernel) rfl
theorem s177_47 : Rn 177 47 L (vR o :: st) T σ K ↔ sx_kd T o = 9 ∧ Rn 177 50 L (vI (σ o 13) :: st) T σ K := R_getI (idx := 51) (ci := 9) (k := 13) (by decide +kernel) (by decide +kernel) (Or.inl rfl)
theorem s177_50 : Rn 177 50 L st T σ K ↔ Rn 177 51 L (vI 1 :: st) T σ K := R_iconst (n := 1) (by decide +kernel) (by decide)
theorem s177_51 : Rn 177 51 L (vI b :: vI a :: st) T σ K ↔ inI (a - b) ∧ Rn 177 52 L (vI (a - b) :: st) T σ K := R_isub (by decide +kernel)
theorem s177_52 : Rn 177 52 L (vI a :: vR o :: st) T σ K ↔ (sx_kd T o = 9 ∧ st.length ≤ 4) ∧ Rn 182 0 [some (vR o), some (vI a)] [] T σ (fun r T' σ' => Rn 177 55 L (sx_push r st) T' σ' K) := R_V (cm := 182) (n := 1) (idx := 164) (ci := 9) (mx := 2) (vs := [vI a]) (by decide +kernel) (by decide +kernel) rfl (by decide +kernel) rfl (by decide +kernel) (by decide +kernel)
theorem s177_55 : Rn 177 55 L (vI a :: st) T σ K ↔ (a = 0 → Rn 177 68 L st T σ K) ∧ (a ≠ 0 → Rn 177 58 L st T σ K) := R_if_eq (off := 13) (by decide +kernel) (by decide)
theorem s177_58 : Rn 177 58 [some (vR o)] st T σ K ↔ Rn 177 59 [some (vR o)] (vR o :: st) T σ K := R_aload_n (n := 0) (by decide +kernel) rfl
theorem s177_59 : Rn 177 59 L st T σ K ↔ Rn 177 60 L (vI 1 :: st) T σ K := R_iconst (n := 1) (by decide +kernel) (by decide)
theorem s177_60 : Rn 177 60 [some (vR o)] st T σ K ↔ Rn 177 61 [some (vR o)] (vR o :: st) T σ K := R_aload_n (n := 0) (by decide +kernel) rfl
theorem s177_61 : Rn 177 61 L (vR o :: st) T σ K ↔ sx_kd T o = 9 ∧ Rn 177 64 L (vI (σ o 13) :: st) T σ K := R_getI (idx := 51) (ci := 9) (k := 13) (by decide +kernel) (by decide +kernel) (Or.inl rfl)
theorem s177_64 : Rn 177 64 L (vI b :: vI a :: vR o :: st) T σ K ↔ (sx_kd T o = 9 ∧ st.length ≤ 4) ∧ Rn 183 0 [some (vR o), some (vI a), some (vI b)] [] T σ (fun r T' σ' => Rn 177 67 L (sx_push r st) T' σ' K) := R_V (cm := 183) (n := 2) (idx := 167) (ci := 9) (mx := 3) (vs := [vI a, vI b]) (by decide +kernel) (by decide +kernel) rfl (by decide +kernel) rfl (by decide +kernel) (by decide +kernel)
theorem s177_67 : Rn 177 67 L [] T σ K ↔ K none T σ := R_retV (by decide +kernel) (by decide +kernel)
theorem s177_68 : Rn 177 68 [some (vR o)] st T σ K ↔ Rn 177 69 [some (vR o)] (vR o :: st) T σ K := R_aload_n (n := 0) (by decide +kernel) rfl
theorem s177_69 : Rn 177 69 [some (vR o)] st T σ K ↔ Rn 177 70 [some (vR o)] (vR o :: st) T σ K := R_aload_n (n := 0) (by decide +kernel) rfl
theorem s177_70 : Rn 177 70 L (vR o :: st) T σ K ↔ sx_kd T o = 9 ∧ Rn 177 73 L (vI (σ o 13) :: st) T σ K := R_getI (idx := 51) (ci := 9) (k := 13) (by decide +kernel) (by decide +kernel) (Or.inl rfl)
theorem s177_73 : Rn 177 73 L (vI a :: vR o :: st) T σ K ↔ (sx_kd T o = 9 ∧ st.length ≤ 4) ∧ Rn 181 0 [some (vR o), some (vI a)] [] T σ (fun r T' σ' => Rn 177 76 L (sx_push r st) T' σ' K) := R_V (cm := 181) (n := 1) (idx := 161) (ci := 9) (mx := 2) (vs := [vI a]) (by decide +kernel) (by decide +kernel) rfl (by decide +kernel) rfl (by decide +kernel) (by decide +kernel)
theorem s177_76 : Rn 177 76 L (vI a :: st) T σ K ↔ (a = 0 → Rn 177 92 L st T σ K) ∧ (a ≠ 0 → Rn 177 79 L st T σ K) := R_if_eq (off := 16) (by decide +kernel) (by decide)
theorem s177_79 : Rn 177 79 [some (vR o)] st T σ K ↔ Rn 177 80 [some (vR o)] (vR o :: st) T σ K := R_aload_n (n := 0) (by decide +kernel) rfl
theorem s177_80 : Rn 177 80 L (vR o :: st) T σ K ↔ Rn 177 81 L (vR o :: vR o :: st) T σ K := R_dup (v := vR o) (by decide +kernel) rfl
theorem s177_81 : Rn 177 81 L (vR o :: st) T σ K ↔ sx_kd T o = 9 ∧ Rn 177 84 L (vI (σ o 13) :: st) T σ K := R_getI (idx := 51) (ci := 9) (k := 13) (by decide +kernel) (by decide +kernel) (Or.inl rfl)
theorem s177_84 : Rn 177 84 L st T σ K ↔ Rn 177 85 L (vI 1 :: st) T σ K := R_iconst (n := 1) (by decide +kernel) (by decide)
theorem s177_85 : Rn 177 85 L (vI b :: vI a :: st) T σ K ↔ inI (a + b) ∧ Rn 177 86 L (vI (a + b) :: st) T σ K := R_iadd (by decide +kernel)
theorem s177_86 : Rn 177 86 L (vI a :: vR o :: st) T σ K ↔ sx_kd T o = 9 ∧ Rn 177 89 L st T (sx_up σ o 13 a) K := R_putI (idx := 51) (ci := 9) (k := 13) (by decide +kernel) (by decide +kernel) rfl rfl
theorem s177_89 : Rn 177 89 L st T σ K ↔ Rn 177 68 L st T σ K := R_goto (off := -21) (by decide +kernel) (by decide)
theorem s177_92 : Rn 177 92 L [] T σ K ↔ K none T σ := R_retV (by decide +kernel) (by decide +kernel)
theorem s178_0 : Rn 178 0 [some (vR o)] st T σ K ↔ Rn 178 1 [some (vR o)] (vR o :: st) T σ K := R_aload_n (n := 0) (by decide +kernel) rfl
theorem s178_1 : Rn 178 1 L (vR o :: st) T σ K ↔ sx_kd T o = 9 ∧ Rn 178 4 L (vI (σ o 15) :: st) T σ K := R_getI (idx := 57) (ci := 9) (k := 15) (by decide +kernel) (by decide +kernel) (Or.inl rfl)
theorem s178_4 : Rn 178 4 L (vI a :: st) T σ K ↔ (a ≠ 0 → Rn 178 11 L st T σ K) ∧ (a = 0 → Rn 178 7 L st T σ K) := R_if_ne (off := 7) (by decide +kernel) (by decide)
theorem s178_7 : Rn 178 7 L st T σ K ↔ Rn 178 8 L (vI 1 :: st) T σ K := R_iconst (n := 1) (by decide +kernel) (by decide)
theorem s178_8 : Rn 178 8 L st T σ K ↔ Rn 178 12 L st T σ K := R_goto (off := 4) (by decide +kernel) (by decide)
theorem s178_11 : Rn 178 11 L st T σ K ↔ Rn 178 12 L (vI 0 :: st) T σ K := R_iconst (n := 0) (by decide +kernel) (by decide)
theorem s178_12 : Rn 178 12 L [vI a] T σ K ↔ (a = 0 ∨ a = 1) ∧ K (some (vI a)) T σ := R_retZ (by decide +kernel) (by decide +kernel)
theorem s179_0 : Rn 179 0 [some (vR o)] st T σ K ↔ Rn 179 1 [some (vR o)] (vR o :: st) T σ K := R_aload_n (n := 0) (by decide +kernel) rfl
theorem s179_1 : Rn 179 1 [some (vR o)] st T σ K ↔ Rn 179 2 [some (vR o)] (vR o :: st) T σ K := R_aload_n (n := 0) (by decide +kernel) rfl
theorem s179_2 : Rn 179 2 L (vR o :: st) T σ K ↔ sx_kd T o = 9 ∧ Rn 179 5 L (vI (σ o 13) :: st) T σ K := R_getI (idx := 51) (ci := 9) (k := 13) (by decide +kernel) (by decide +kernel) (Or.inl rfl)
theorem s179_5 : Rn 179 5 L (vI a :: vR o :: st) T σ K ↔ (sx_kd T o = 9 ∧ st.length ≤ 4) ∧ Rn 180 0 [some (vR o), some (vI a)] [] T σ (fun r T' σ' => Rn 179 8 L (sx_push r st) T' σ' K) := R_V (cm := 180) (n := 1) (idx := 150) (ci := 9) (mx := 2) (vs := [vI a]) (by decide +kernel) (by decide +kernel) rfl (by decide +kernel) rfl (by decide +kernel) (by decide +kernel)
theorem s179_8 : Rn 179 8 L st T σ K ↔ Rn 179 10 L (vI 10 :: st) T σ K := R_bipush (n := 10) (by decide +kernel) (by decide +kernel)
theorem s179_10 : Rn 179 10 L (vI b :: vI a :: st) T σ K ↔ (a = b → Rn 179 26 L st T σ K) ∧ (a ≠ b → Rn 179 13 L st T σ K) := R_icmp_eq (off := 16) (by decide +kernel) (by decide)
theorem s179_13 : Rn 179 13 [some (vR o)] st T σ K ↔ Rn 179 14 [some (vR o)] (vR o :: st) T σ K := R_aload_n (n := 0) (by decide +kernel) rfl
theorem s179_14 : Rn 179 14 [some (vR o)] st T σ K ↔ Rn 179 15 [some (vR o)] (vR o :: st) T σ K := R_aload_n (n := 0) (by decide +kernel) rfl
theorem s179_15 : Rn 179 15 L (vR o :: st) T σ K ↔ sx_kd T o = 9 ∧ Rn 179 18 L (vI (σ o 13) :: st) T σ K := R_getI (idx := 51) (ci := 9) (k := 13) (by decide +kernel) (by decide +kernel) (Or.inl rfl)
theorem s179_18 : Rn 179 18 L (vI a :: vR o :: st) T σ K ↔ (sx_kd T o = 9 ∧ st.length ≤ 4) ∧ Rn 180 0 [some (vR o), some (vI a)] [] T σ (fun r T' σ' => Rn 179 21 L (sx_push r st) T' σ' K) := R_V (cm := 180) (n := 1) (idx := 150) (ci := 9) (mx := 2) (vs := [vI a]) (by decide +kernel) (by decide +kernel) rfl (by decide +kernel) rfl (by decide +kernel) (by decide +kernel)
theorem s179_21 : Rn 179 21 L st T σ K ↔ Rn 179 23 L (vI 32 :: st) T σ K := R_bipush (n := 32) (by decide +kernel) (by decide +kernel)
theorem s179_23 : Rn 179 23 L (vI b :: vI a :: st) T σ K ↔ (a ≠ b → Rn 179 39 L st T σ K) ∧ (a = b → Rn 179 26 L st T σ K) := R_icmp_ne (off := 16) (by decide +kernel) (by decide)
theorem s179_26 : Rn 179 26 [some (vR o)] st T σ K ↔ Rn 179 27 [some (vR o)] (vR o :: st) T σ K := R_aload_n (n := 0) (by decide +kernel) rfl
theorem s179_27 : Rn 179 27 L (vR o :: st) T σ K ↔ Rn 179 28 L (vR o :: vR o :: st) T σ K := R_dup (v := vR o) (by decide +kernel) rfl
theorem s179_28 : Rn 179 28 L (vR o :: st) T σ K ↔ sx_kd T o = 9 ∧ Rn 179 31 L (vI (σ o 13) :: st) T σ K := R_getI (idx := 51) (ci := 9) (k := 13) (by decide +kernel) (by decide +kernel) (Or.inl rfl)
theorem s179_31 : Rn 179 31 L st T σ K ↔ Rn 179 32 L (vI 1 :: st) T σ K := R_iconst (n := 1) (by decide +kernel) (by decide)
theorem s179_32 : Rn 179 32 L (vI b :: vI a :: st) T σ K ↔ inI (a + b) ∧ Rn 179 33 L (vI (a + b) :: st) T σ K := R_iadd (by decide +kernel)
theorem s179_33 : Rn 179 33 L (vI a :: vR o :: st) T σ K ↔ sx_kd T o = 9 ∧ Rn 179 36 L st T (sx_up σ o 13 a) K := R_putI (idx := 51) (ci := 9) (k := 13) (by decide +kernel) (by decide +kernel) rfl rfl
theorem s179_36 : Rn 179 36 L st T σ K ↔ Rn 179 0 L st T σ K := R_goto (off := -36) (by decide +kernel) (by decide)
theorem s179_39 : Rn 179 39 [some (vR o)] st T σ K ↔ Rn 179 40 [some (vR o)] (vR o :: st) T σ K := R_aload_n (n := 0) (by decide +kernel) rfl
theorem s179_40 : Rn 179 40 [some (vR o)] st T σ K ↔ Rn 179 41 [some (vR o)] (vR o :: st) T σ K := R_aload_n (n := 0) (by decide +kernel) rfl
theorem s179_41 : Rn 179 41 L (vR o :: st) T σ K ↔ sx_kd T o = 9 ∧ Rn 179 44 L (vI (σ o 13) :: st) T σ K := R_getI (idx := 51) (ci := 9) (k := 13) (by decide +kernel) (by decide +kernel) (Or.inl rfl)
theorem s179_44 : Rn 179 44 L (vI a :: vR o :: st) T σ K ↔ (sx_kd T o = 9 ∧ st.length ≤ 4) ∧ Rn 180 0 [some (vR o), some (vI a)] [] T σ (fun r T' σ' => Rn 179 47 L (sx_push r st) T' σ' K) := R_V (cm := 180) (n := 1) (idx := 150) (ci := 9) (mx := 2) (vs := [vI a]) (by decide +kernel) (by decide +kernel) rfl (by decide +kernel) rfl (by decide +kernel) (by decide +kernel)
theorem s179_47 : Rn 179 47 L [vI a] T σ K ↔ K (some (vI a)) T σ := R_ret (by decide +kernel) (by decide +kernel)
theorem s180_0 : Rn 180 0 [l0, some (vI a)] st T σ K ↔ Rn 180 1 [l0, some (vI a)] (vI a :: st) T σ K := R_iload_n (n := 1) (by decide +kernel) rfl
theorem s180_1 : Rn 180 1 L (vI a :: st) T σ K ↔ (a < 0 → Rn 180 21 L st T σ K) ∧ (0 ≤ a → Rn 180 4 L st T σ K) := R_if_lt (off := 20) (by decide +kernel) (by decide)
theorem s180_4 : Rn 180 4 [l0, some (vI a)] st T σ K ↔ Rn 180 5 [l0, some (vI a)] (vI a :: st) T σ K := R_iload_n (n := 1) (by decide +kernel) rfl
theorem s180_5 : Rn 180 5 [some (vR o), l1] st T σ K ↔ Rn 180 6 [some (vR o), l1] (vR o :: st) T σ K := R_aload_n (n := 0) (by decide +kernel) rfl
theorem s180_6 : Rn 180 6 L (vR o :: st) T σ K ↔ sx_kd T o = 9 ∧ Rn 180 9 L (vI (σ o 12) :: st) T σ K := R_getI (idx := 48) (ci := 9) (k := 12) (by decide +kernel) (by decide +kernel) (Or.inl rfl)
theorem s180_9 : Rn 180 9 L (vI b :: vI a :: st) T σ K ↔ (b ≤ a → Rn 180 21 L st T σ K) ∧ (a < b → Rn 180 12 L st T σ K) := R_icmp_ge (off := 12) (by decide +kernel) (by decide)
theorem s180_12 : Rn 180 12 [some (vR o), l1] st T σ K ↔ Rn 180 13 [some (vR o), l1] (vR o :: st) T σ K := R_aload_n (n := 0) (by decide +kernel) rfl
theorem s180_13 : Rn 180 13 L (vR o :: st) T σ K ↔ sx_kd T o = 9 ∧ ∃ t, sx_rf T o 7 = some t ∧ Rn 180 16 L (vR t :: st) T σ K := R_getR (idx := 33) (ci := 9) (k := 7) (by decide +kernel) (by decide +kernel) rfl
theorem s180_16 : Rn 180 16 [l0, some (vI a)] st T σ K ↔ Rn 180 17 [l0, some (vI a)] (vI a :: st) T σ K := R_iload_n (n := 1) (by decide +kernel) rfl
theorem s180_17 : Rn 180 17 L (vI a :: vR o :: st) T σ K ↔ (sx_kd T o = 20 ∧ 0 ≤ a ∧ a < sx_ln T o) ∧ Rn 180 18 L (vI (σ o a) :: st) T σ K := R_iald (by decide +kernel) (by decide)
theorem s180_18 : Rn 180 18 L st T σ K ↔ Rn 180 22 L st T σ K := R_goto (off := 4) (by decide +kernel) (by decide)
theorem s180_21 : Rn 180 21 L st T σ K ↔ Rn 180 22 L (vI (-1) :: st) T σ K := R_iconst (n := -1) (by decide +kernel) (by decide)
theorem s180_22 : Rn 180 22 L [vI a] T σ K ↔ K (some (vI a)) T σ := R_ret (by decide +kernel) (by decide +kernel)
theorem s181_0 : Rn 181 0 [some (vR o), l1] st T σ K ↔ Rn 181 1 [some (vR o), l1] (vR o :: st) T σ K := R_aload_n (n := 0) (by decide +kernel) rfl
theorem s181_1 : Rn 181 1 [l0, some (vI a)] st T σ K ↔ Rn 181 2 [l0, some (vI a)] (vI a :: st) T σ K := R_iload_n (n := 1) (by decide +kernel) rfl
theorem s181_2 : Rn 181 2 L (vI a :: vR o :: st) T σ K ↔ (sx_kd T o = 9 ∧ st.length ≤ 4) ∧ Rn 180 0 [some (vR o), some (vI a)] [] T σ (fun r T' σ' => Rn 181 5 L (sx_push r st) T' σ' K) := R_V (cm := 180) (n := 1) (idx := 150) (ci := 9) (mx := 2) (vs := [vI a]) (by decide +kernel) (by decide +kernel) rfl (by decide +kernel) rfl (by decide +kernel) (by decide +kernel)
theorem s181_5 : Rn 181 5 L st T σ K ↔ Rn 181 7 L (vI 97 :: st) T σ K := R_bipush (n := 97) (by decide +kernel) (by decide +kernel)
theorem s181_7 : Rn 181 7 L (vI b :: vI a :: st) T σ K ↔ (a < b → Rn 181 24 L st T σ K) ∧ (b ≤ a → Rn 181 10 L st T σ K) := R_icmp_lt (off := 17) (by decide +kernel) (by decide)
theorem s181_10 : Rn 181 10 [some (vR o), l1] st T σ K ↔ Rn 181 11 [some (vR o), l1] (vR o :: st) T σ K := R_aload_n (n := 0) (by decide +kernel) rfl
theorem s181_11 : Rn 181 11 [l0, some (vI a)] st T σ K ↔ Rn 181 12 [l0, some (vI a)] (vI a :: st) T σ K := R_iload_n (n := 1) (by decide +kernel) rfl
theorem s181_12 : Rn 181 12 L (vI a :: vR o :: st) T σ K ↔ (sx_kd T o = 9 ∧ st.length ≤ 4) ∧ Rn 180 0 [some (vR o), some (vI a)] [] T σ (fun r T' σ' => Rn 181 15 L (sx_push r st) T' σ' K) := R_V (cm := 180) (n := 1) (idx := 150) (ci := 9) (mx := 2) (vs := [vI a]) (by decide +kernel) (by decide +kernel) rfl (by decide +kernel) rfl (by decide +kernel) (by decide +kernel)
theorem s181_15 : Rn 181 15 L st T σ K ↔ Rn 181 17 L (vI 122 :: st) T σ K := R_bipush (n := 122) (by decide +kernel) (by decide +kernel)
theorem s181_17 : Rn 181 17 L (vI b :: vI a :: st) T σ K ↔ (b < a → Rn 181 24 L st T σ K) ∧ (a ≤ b → Rn 181 20 L st T σ K) := R_icmp_gt (off := 7) (by decide +kernel) (by decide)
theorem s181_20 : Rn 181 20 L st T σ K ↔ Rn 181 21 L (vI 1 :: st) T σ K := R_iconst (n := 1) (by decide +kernel) (by decide)
theorem s181_21 : Rn 181 21 L st T σ K ↔ Rn 181 25 L st T σ K := R_goto (off := 4) (by decide +kernel) (by decide)
theorem s181_24 : Rn 181 24 L st T σ K ↔ Rn 181 25 L (vI 0 :: st) T σ K := R_iconst (n := 0) (by decide +kernel) (by decide)
theorem s181_25 : Rn 181 25 L [vI a] T σ K ↔ (a = 0 ∨ a = 1) ∧ K (some (vI a)) T σ := R_retZ (by decide +kernel) (by decide +kernel)
theorem s182_0 : Rn 182 0 [some (vR o), l1] st T σ K ↔ Rn 182 1 [some (vR o), l1] (vR o :: st) T σ K := R_aload_n (n := 0) (by decide +kernel) rfl
theorem s182_1 : Rn 182 1 [l0, some (vI a)] st T σ K ↔ Rn 182 2 [l0, some (vI a)] (vI a :: st) T σ K := R_iload_n (n := 1) (by decide +kernel) rfl
theorem s182_2 : Rn 182 2 L (vI a :: vR o :: st) T σ K ↔ (sx_kd T o = 9 ∧ st.length ≤ 4) ∧ Rn 180 0 [some (vR o), some (vI a)] [] T σ (fun r T' σ' => Rn 182 5 L (sx_push r st) T' σ' K) := R_V (cm := 180) (n := 1) (idx := 150) (ci := 9) (mx := 2) (vs := [vI a]) (by decide +kernel) (by decide +kernel) rfl (by decide +kernel) rfl (by decide +kernel) (by decide +kernel)
theorem s182_5 : Rn 182 5 L st T σ K ↔ Rn 182 7 L (vI 48 :: st) T σ K := R_bipush (n := 48) (by decide +kernel) (by decide +kernel)
theorem s182_7 : Rn 182 7 L (vI b :: vI a :: st) T σ K ↔ (a < b → Rn 182 24 L st T σ K) ∧ (b ≤ a → Rn 182 10 L st T σ K) := R_icmp_lt (off := 17) (by decide +kernel) (by decide)
theorem s182_10 : Rn 182 10 [some (vR o), l1] st T σ K ↔ Rn 182 11 [some (vR o), l1] (vR o :: st) T σ K := R_aload_n (n := 0) (by decide +kernel) rfl
theorem s182_11 : Rn 182 11 [l0, some (vI a)] st T σ K ↔ Rn 182 12 [l0, some (vI a)] (vI a :: st) T σ K := R_iload_n (n := 1) (by decide +kernel) rfl
theorem s182_12 : Rn 182 12 L (vI a :: vR o :: st) T σ K ↔ (sx_kd T o = 9 ∧ st.length ≤ 4) ∧ Rn 180 0 [some (vR o), some (vI a)] [] T σ (fun r T' σ' => Rn 182 15 L (sx_push r st) T' σ' K) := R_V (cm := 180) (n := 1) (idx := 150) (ci := 9) (mx := 2) (vs := [vI a]) (by decide +kernel) (by decide +kernel) rfl (by decide +kernel) rfl (by decide +kernel) (by decide +kernel)
theorem s182_15 : Rn 182 15 L st T σ K ↔ Rn 182 17 L (vI 57 :: st) T σ K := R_bipush (n := 57) (by decide +kernel) (by decide +kernel)
theorem s182_17 : Rn 182 17 L (vI b :: vI a :: st) T σ K ↔ (b < a → Rn 182 24 L st T σ K) ∧ (a ≤ b → Rn 182 20 L st T σ K) := R_icmp_gt (off := 7) (by decide +kernel) (by decide)
theorem s182_20 : Rn 182 20 L st T σ K ↔ Rn 182 21 L (vI 1 :: st) T σ K := R_iconst (n := 1) (by decide +kernel) (by decide)
theorem s182_21 : Rn 182 21 L st T σ K ↔ Rn 182 25 L st T σ K := R_goto (off := 4) (by decide +kernel) (by decide)
theorem s182_24 : Rn 182 24 L st T σ K ↔ Rn 182 25 L (vI 0 :: st) T σ K := R_iconst (n := 0) (by decide +kernel) (by decide)
theorem s182_25 : Rn 182 25 L [vI a] T σ K ↔ (a = 0 ∨ a = 1) ∧ K (some (vI a)) T σ := R_retZ (by decide +kernel) (by decide +kernel)
theorem s183_0 : Rn 183 0 [some (vR o), l1, l2] st T σ K ↔ Rn 183 1 [some (vR o), l1, l2] (vR o :: st) T σ K := R_aload_n (n := 0) (by decide +kernel) rfl
theorem s183_1 : Rn 183 1 L (vR o :: st) T σ K ↔ sx_kd T o = 9 ∧ Rn 183 4 L (vI (σ o 15) :: st) T σ K := R_getI (idx := 57) (ci := 9) (k := 15) (by decide +kernel) (by decide +kernel) (Or.inl rfl)
theorem s183_4 : Rn 183 4 L (vI a :: st) T σ K ↔ (a = 0 → Rn 183 8 L st T σ K) ∧ (a ≠ 0 → Rn 183 7 L st T σ K) := R_if_eq (off := 4) (by decide +kernel) (by decide)
theorem s183_7 : Rn 183 7 L [] T σ K ↔ K none T σ := R_retV (by decide +kernel) (by decide +kernel)
theorem s183_8 : Rn 183 8 [some (vR o), l1, l2] st T σ K ↔ Rn 183 9 [some (vR o), l1, l2] (vR o :: st) T σ K := R_aload_n (n := 0) (by decide +kernel) rfl
theorem s183_9 : Rn 183 9 [l0, some (vI a), l2] st T σ K ↔ Rn 183 10 [l0, some (vI a), l2] (vI a :: st) T σ K := R_iload_n (n := 1) (by decide +kernel) rfl
theorem s183_10 : Rn 183 10 L (vI a :: vR o :: st) T σ K ↔ sx_kd T o = 9 ∧ Rn 183 13 L st T (sx_up σ o 15 a) K := R_putI (idx := 57) (ci := 9) (k := 15) (by decide +kernel) (by decide +kernel) rfl rfl
theorem s183_13 : Rn 183 13 [some (vR o), l1, l2] st T σ K ↔ Rn 183 14 [some (vR o), l1, l2] (vR o :: st) T σ K := R_aload_n (n := 0) (by decide +kernel) rfl
theorem s183_14 : Rn 183 14 [l0, l1, some (vI a)] st T σ K ↔ Rn 183 15 [l0, l1, some (vI a)] (vI a :: st) T σ K := R_iload_n (n := 2) (by decide +kernel) rfl
theorem s183_15 : Rn 183 15 L (vI a :: vR o :: st) T σ K ↔ sx_kd T o = 9 ∧ Rn 183 18 L st T (sx_up σ o 16 a) K := R_putI (idx := 60) (ci := 9) (k := 16) (by decide +kernel) (by decide +kernel) rfl rfl
theorem s183_18 : Rn 183 18 L [] T σ K ↔ K none T σ := R_retV (by decide +kernel) (by decide +kernel)
theorem s184_0 : Rn 184 0 L st T σ K ↔ Rn 184 1 L (vI 0 :: st) T σ K := R_iconst (n := 0) (by decide +kernel) (by decide)
theorem s184_1 : Rn 184 1 [l0, l1, l2, l3] (vI a :: st) T σ K ↔ Rn 184 2 [l0, some (vI a), l2, l3] st T σ K := R_istore_n (n := 1) (by decide +kernel) rfl
theorem s184_2 : Rn 184 2 L st T σ K ↔ Rn 184 3 L (vI 0 :: st) T σ K := R_iconst (n := 0) (by decide +kernel) (by decide)
theorem s184_3 : Rn 184 3 [l0, l1, l2, l3] (vI a :: st) T σ K ↔ Rn 184 4 [l0, l1, some (vI a), l3] st T σ K := R_istore_n (n := 2) (by decide +kernel) rfl
theorem s184_4 : Rn 184 4 [l0, some (vI a), l2, l3] st T σ K ↔ Rn 184 5 [l0, some (vI a), l2, l3] (vI a :: st) T σ K := R_iload_n (n := 1) (by decide +kernel) rfl
theorem s184_5 : Rn 184 5 L st T σ K ↔ Rn 184 7 L (vI 30 :: st) T σ K := R_bipush (n := 30) (by decide +kernel) (by decide +kernel)
theorem s184_7 : Rn 184 7 L (vI b :: vI a :: st) T σ K ↔ (b ≤ a → Rn 184 117 L st T σ K) ∧ (a < b → Rn 184 10 L st T σ K) := R_icmp_ge (off := 110) (by decide +kernel) (by decide)
theorem s184_10 : Rn 184 10 L st T σ K ↔ Rn 184 11 L (vI 0 :: st) T σ K := R_iconst (n := 0) (by decide +kernel) (by decide)
theorem s184_11 : Rn 184 11 [l0, l1, l2, l3] (vI a :: st) T σ K ↔ Rn 184 12 [l0, l1, l2, some (vI a)] st T σ K := R_istore_n (n := 3) (by decide +kernel) rfl
theorem s184_12 : Rn 184 12 [some (vR o), l1, l2, l3] st T σ K ↔ Rn 184 13 [some (vR o), l1, l2, l3] (vR o :: st) T σ K := R_aload_n (n := 0) (by decide +kernel) rfl
theorem s184_13 : Rn 184 13 L (vR o :: st) T σ K ↔ sx_kd T o = 9 ∧ ∃ t, sx_rf T o 17 = some t ∧ Rn 184 16 L (vR t :: st) T σ K := R_getR (idx := 63) (ci := 9) (k := 17) (by decide +kernel) (by decide +kernel) rfl
theorem s184_16 : Rn 184 16 [l0, some (vI a), l2, l3] st T σ K ↔ Rn 184 17 [l0, some (vI a), l2, l3] (vI a :: st) T σ K := R_iload_n (n := 1) (by decide +kernel) rfl
theorem s184_17 : Rn 184 17 [l0, l1, l2, some (vI a)] st T σ K ↔ Rn 184 18 [l0, l1, l2, some (vI a)] (vI a :: st) T σ K := R_iload_n (n := 3) (by decide +kernel) rfl
theorem s184_18 : Rn 184 18 L (vI b :: vI a :: st) T σ K ↔ inI (a + b) ∧ Rn 184 19 L (vI (a + b) :: st) T σ K := R_iadd (by decide +kernel)
theorem s184_19 : Rn 184 19 L (vI a :: vR o :: st) T σ K ↔ (sx_kd T o = 20 ∧ 0 ≤ a ∧ a < sx_ln T o) ∧ Rn 184 20 L (vI (σ o a) :: st) T σ K := R_iald (by decide +kernel) (by decide)
theorem s184_20 : Rn 184 20 L (vI a :: st) T σ K ↔ (a = 0 → Rn 184 67 L st T σ K) ∧ (a ≠ 0 → Rn 184 23 L st T σ K) := R_if_eq (off := 47) (by decide +kernel) (by decide)
theorem s184_23 : Rn 184 23 [some (vR o), l1, l2, l3] st T σ K ↔ Rn 184 24 [some (vR o), l1, l2, l3] (vR o :: st) T σ K := R_aload_n (n := 0) (by decide +kernel) rfl
theorem s184_24 : Rn 184 24 L (vR o :: st) T σ K ↔ sx_kd T o = 9 ∧ Rn 184 27 L (vI (σ o 14) :: st) T σ K := R_getI (idx := 54) (ci := 9) (k := 14) (by decide +kernel) (by decide +kernel) (Or.inl rfl)
theorem s184_27 : Rn 184 27 [l0, l1, l2, some (vI a)] st T σ K ↔ Rn 184 28 [l0, l1, l2, some (vI a)] (vI a :: st) T σ K := R_iload_n (n := 3) (by decide +kernel) rfl
theorem s184_28 : Rn 184 28 L (vI b :: vI a :: st) T σ K ↔ inI (a + b) ∧ Rn 184 29 L (vI (a + b) :: st) T σ K := R_iadd (by decide +kernel)
theorem s184_29 : Rn 184 29 [some (vR o), l1, l2, l3] st T σ K ↔ Rn 184 30 [some (vR o), l1, l2, l3] (vR o :: st) T σ K := R_aload_n (n := 0) (by decide +kernel) rfl
theorem s184_30 : Rn 184 30 L (vR o :: st) T σ K ↔ sx_kd T o = 9 ∧ Rn 184 33 L (vI (σ o 13) :: st) T σ K := R_getI (idx := 51) (ci := 9) (k := 13) (by decide +kernel) (by decide +kernel) (Or.inl rfl)
theorem s184_33 : Rn 184 33 L (vI b :: vI a :: st) T σ K ↔ (b ≤ a → Rn 184 67 L st T σ K) ∧ (a < b → Rn 184 36 L st T σ K) := R_icmp_ge (off := 34) (by decide +kernel) (by decide)
theorem s184_36 : Rn 184 36 [some (vR o), l1, l2, l3] st T σ K ↔ Rn 184 37 [some (vR o), l1, l2, l3] (vR o :: st) T σ K := R_aload_n (n := 0) (by decide +kernel) rfl
theorem s184_37 : Rn 184 37 L (vR o :: st) T σ K ↔ sx_kd T o = 9 ∧ ∃ t, sx_rf T o 7 = some t ∧ Rn 184 40 L (vR t :: st) T σ K := R_getR (idx := 33) (ci := 9) (k := 7) (by decide +kernel) (by decide +kernel) rfl
theorem s184_40 : Rn 184 40 [some (vR o), l1, l2, l3] st T σ K ↔ Rn 184 41 [some (vR o), l1, l2, l3] (vR o :: st) T σ K := R_aload_n (n := 0) (by decide +kernel) rfl
theorem s184_41 : Rn 184 41 L (vR o :: st) T σ K ↔ sx_kd T o = 9 ∧ Rn 184 44 L (vI (σ o 14) :: st) T σ K := R_getI (idx := 54) (ci := 9) (k := 14) (by decide +kernel) (by decide +kernel) (Or.inl rfl)
theorem s184_44 : Rn 184 44 [l0, l1, l2, some (vI a)] st T σ K ↔ Rn 184 45 [l0, l1, l2, some (vI a)] (vI a :: st) T σ K := R_iload_n (n := 3) (by decide +kernel) rfl
theorem s184_45 : Rn 184 45 L (vI b :: vI a :: st) T σ K ↔ inI (a + b) ∧ Rn 184 46 L (vI (a + b) :: st) T σ K := R_iadd (by decide +kernel)
theorem s184_46 : Rn 184 46 L (vI a :: vR o :: st) T σ K ↔ (sx_kd T o = 20 ∧ 0 ≤ a ∧ a < sx_ln T o) ∧ Rn 184 47 L (vI (σ o a) :: st) T σ K := R_iald (by decide +kernel) (by decide)
theorem s184_47 : Rn 184 47 L st T σ K ↔ Rn 184 49 L (vI 96 :: st) T σ K := R_bipush (n := 96) (by decide +kernel) (by decide +kernel)
theorem s184_49 : Rn 184 49 L (vI b :: vI a :: st) T σ K ↔ inI (a - b) ∧ Rn 184 50 L (vI (a - b) :: st) T σ K := R_isub (by decide +kernel)
theorem s184_50 : Rn 184 50 [some (vR o), l1, l2, l3] st T σ K ↔ Rn 184 51 [some (vR o), l1, l2, l3] (vR o :: st) T σ K := R_aload_n (n := 0) (by decide +kernel) rfl
theorem s184_51 : Rn 184 51 L (vR o :: st) T σ K ↔ sx_kd T o = 9 ∧ ∃ t, sx_rf T o 17 = some t ∧ Rn 184 54 L (vR t :: st) T σ K := R_getR (idx := 63) (ci := 9) (k := 17) (by decide +kernel) (by decide +kernel) rfl
theorem s184_54 : Rn 184 54 [l0, some (vI a), l2, l3] st T σ K ↔ Rn 184 55 [l0, some (vI a), l2, l3] (vI a :: st) T σ K := R_iload_n (n := 1) (by decide +kernel) rfl
theorem s184_55 : Rn 184 55 [l0, l1, l2, some (vI a)] st T σ K ↔ Rn 184 56 [l0, l1, l2, some (vI a)] (vI a :: st) T σ K := R_iload_n (n := 3) (by decide +kernel) rfl
theorem s184_56 : Rn 184 56 L (vI b :: vI a :: st) T σ K ↔ inI (a + b) ∧ Rn 184 57 L (vI (a + b) :: st) T σ K := R_iadd (by decide +kernel)
theorem s184_57 : Rn 184 57 L (vI a :: vR o :: st) T σ K ↔ (sx_kd T o = 20 ∧ 0 ≤ a ∧ a < sx_ln T o) ∧ Rn 184 58 L (vI (σ o a) :: st) T σ K := R_iald (by decide +kernel) (by decide)
theorem s184_58 : Rn 184 58 L (vI b :: vI a :: st) T σ K ↔ (a ≠ b → Rn 184 67 L st T σ K) ∧ (a = b → Rn 184 61 L st T σ K) := R_icmp_ne (off := 9) (by decide +kernel) (by decide)
theorem s184_61 : Rn 184 61 [l0, l1, l2, some (vI a)] st T σ K ↔ inI (a + 1) ∧ Rn 184 64 [l0, l1, l2, some (vI (a + 1))] st T σ K := R_iinc (n := 3) (d := 1) (by decide +kernel) rfl
theorem s184_64 : Rn 184 64 L st T σ K ↔ Rn 184 12 L st T σ K := R_goto (off := -52) (by decide +kernel) (by decide)
theorem s184_67 : Rn 184 67 [some (vR o), l1, l2, l3] st T σ K ↔ Rn 184 68 [some (vR o), l1, l2, l3] (vR o :: st) T σ K := R_aload_n (n := 0) (by decide +kernel) rfl
theorem s184_68 : Rn 184 68 L (vR o :: st) T σ K ↔ sx_kd T o = 9 ∧ ∃ t, sx_rf T o 17 = some t ∧ Rn 184 71 L (vR t :: st) T σ K := R_getR (idx := 63) (ci := 9) (k := 17) (by decide +kernel) (by decide +kernel) rfl
theorem s184_71 : Rn 184 71 [l0, some (vI a), l2, l3] st T σ K ↔ Rn 184 72 [l0, some (vI a), l2, l3] (vI a :: st) T σ K := R_iload_n (n := 1) (by decide +kernel) rfl
theorem s184_72 : Rn 184 72 [l0, l1, l2, some (vI a)] st T σ K ↔ Rn 184 73 [l0, l1, l2, some (vI a)] (vI a :: st) T σ K := R_iload_n (n := 3) (by decide +kernel) rfl
theorem s184_73 : Rn 184 73 L (vI b :: vI a :: st) T σ K ↔ inI (a + b) ∧ Rn 184 74 L (vI (a + b) :: st) T σ K := R_iadd (by decide +kernel)
theorem s184_74 : Rn 184 74 L (vI a :: vR o :: st) T σ K ↔ (sx_kd T o = 20 ∧ 0 ≤ a ∧ a < sx_ln T o) ∧ Rn 184 75 L (vI (σ o a) :: st) T σ K := R_iald (by decide +kernel) (by decide)
theorem s184_75 : Rn 184 75 L (vI a :: st) T σ K ↔ (a ≠ 0 → Rn 184 93 L st T σ K) ∧ (a = 0 → Rn 184 78 L st T σ K) := R_if_ne (off := 18) (by decide +kernel) (by decide)
theorem s184_78 : Rn 184 78 [some (vR o), l1, l2, l3] st T σ K ↔ Rn 184 79 [some (vR o), l1, l2, l3] (vR o :: st) T σ K := R_aload_n (n := 0) (by decide +kernel) rfl
theorem s184_79 : Rn 184 79 L (vR o :: st) T σ K ↔ sx_kd T o = 9 ∧ Rn 184 82 L (vI (σ o 14) :: st) T σ K := R_getI (idx := 54) (ci := 9) (k := 14) (by decide +kernel) (by decide +kernel) (Or.inl rfl)
theorem s184_82 : Rn 184 82 [l0, l1, l2, some (vI a)] st T σ K ↔ Rn 184 83 [l0, l1, l2, some (vI a)] (vI a :: st) T σ K := R_iload_n (n := 3) (by decide +kernel) rfl
theorem s184_83 : Rn 184 83 L (vI b :: vI a :: st) T σ K ↔ inI (a + b) ∧ Rn 184 84 L (vI (a + b) :: st) T σ K := R_iadd (by decide +kernel)
theorem s184_84 : Rn 184 84 [some (vR o), l1, l2, l3] st T σ K ↔ Rn 184 85 [some (vR o), l1, l2, l3] (vR o :: st) T σ K := R_aload_n (n := 0) (by decide +kernel) rfl
theorem s184_85 : Rn 184 85 L (vR o :: st) T σ K ↔ sx_kd T o = 9 ∧ Rn 184 88 L (vI (σ o 13) :: st) T σ K := R_getI (idx := 51) (ci := 9) (k := 13) (by decide +kernel) (by decide +kernel) (Or.inl rfl)
theorem s184_88 : Rn 184 88 L (vI b :: vI a :: st) T σ K ↔ (a ≠ b → Rn 184 93 L st T σ K) ∧ (a = b → Rn 184 91 L st T σ K) := R_icmp_ne (off := 5) (by decide +kernel) (by decide)
theorem s184_91 : Rn 184 91 [l0, l1, some (vI a), l3] st T σ K ↔ Rn 184 92 [l0, l1, some (vI a), l3] (vI a :: st) T σ K := R_iload_n (n := 2) (by decide +kernel) rfl
theorem s184_92 : Rn 184 92 L [vI a] T σ K ↔ K (some (vI a)) T σ := R_ret (by decide +kernel) (by decide +kernel)
theorem s184_93 : Rn 184 93 [some (vR o), l1, l2, l3] st T σ K ↔ Rn 184 94 [some (vR o), l1, l2, l3] (vR o :: st) T σ K := R_aload_n (n := 0) (by decide +kernel) rfl
theorem s184_94 : Rn 184 94 L (vR o :: st) T σ K ↔ sx_kd T o = 9 ∧ ∃ t, sx_rf T o 17 = some t ∧ Rn 184 97 L (vR t :: st) T σ K := R_getR (idx := 63) (ci := 9) (k := 17) (by decide +kernel) (by decide +kernel) rfl
theorem s184_97 : Rn 184 97 [l0, some (vI a), l2, l3] st T σ K ↔ Rn 184 98 [l0, some (vI a), l2, l3] (vI a :: st) T σ K := R_iload_n (n := 1) (by decide +kernel) rfl
theorem s184_98 : Rn 184 98 L (vI a :: vR o :: st) T σ K ↔ (sx_kd T o = 20 ∧ 0 ≤ a ∧ a < sx_ln T o) ∧ Rn 184 99 L (vI (σ o a) :: st) T σ K := R_iald (by decide +kernel) (by decide)
theorem s184_99 : Rn 184 99 L (vI a :: st) T σ K ↔ (a = 0 → Rn 184 108 L st T σ K) ∧ (a ≠ 0 → Rn 184 102 L st T σ K) := R_if_eq (off := 9) (by decide +kernel) (by decide)
theorem s184_102 : Rn 184 102 [l0, some (vI a), l2, l3] st T σ K ↔ inI (a + 1) ∧ Rn 184 105 [l0, some (vI (a + 1)), l2, l3] st T σ K := R_iinc (n := 1) (d := 1) (by decide +kernel) rfl
theorem s184_105 : Rn 184 105 L st T σ K ↔ Rn 184 93 L st T σ K := R_goto (off := -12) (by decide +kernel) (by decide)
theorem s184_108 : Rn 184 108 [l0, some (vI a), l2, l3] st T σ K ↔ inI (a + 1) ∧ Rn 184 111 [l0, some (vI (a + 1)), l2, l3] st T σ K := R_iinc (n := 1) (d := 1) (by decide +kernel) rfl
theorem s184_111 : Rn 184 111 [l0, l1, some (vI a), l3] st T σ K ↔ inI (a + 1) ∧ Rn 184 114 [l0, l1, some (vI (a + 1)), l3] st T σ K := R_iinc (n := 2) (d := 1) (by decide +kernel) rfl
theorem s184_114 : Rn 184 114 L st T σ K ↔ Rn 184 4 L st T σ K := R_goto (off := -110) (by decide +kernel) (by decide)
theorem s184_117 : Rn 184 117 L st T σ K ↔ Rn 184 118 L (vI (-1) :: st) T σ K := R_iconst (n := -1) (by decide +kernel) (by decide)
theorem s184_118 : Rn 184 118 L [vI a] T σ K ↔ K (some (vI a)) T σ := R_ret (by decide +kernel) (by decide +kernel)
theorem s185_0 : Rn 185 0 [some (vI a), l1, l2] st T σ K ↔ Rn 185 1 [some (vI a), l1, l2] (vI a :: st) T σ K := R_iload_n (n := 0) (by decide +kernel) rfl
theorem s185_1 : Rn 185 1 [l0, some (vI a), l2] st T σ K ↔ Rn 185 2 [l0, some (vI a), l2] (vI a :: st) T σ K := R_iload_n (n := 1) (by decide +kernel) rfl
theorem s185_2 : Rn 185 2 L (vI b :: vI a :: st) T σ K ↔ (a < b → Rn 185 14 L st T σ K) ∧ (b ≤ a → Rn 185 5 L st T σ K) := R_icmp_lt (off := 12) (by decide +kernel) (by decide)
theorem s185_5 : Rn 185 5 [some (vI a), l1, l2] st T σ K ↔ Rn 185 6 [some (vI a), l1, l2] (vI a :: st) T σ K := R_iload_n (n := 0) (by decide +kernel) rfl
theorem s185_6 : Rn 185 6 [l0, l1, some (vI a)] st T σ K ↔ Rn 185 7 [l0, l1, some (vI a)] (vI a :: st) T σ K := R_iload_n (n := 2) (by decide +kernel) rfl
theorem s185_7 : Rn 185 7 L (vI b :: vI a :: st) T σ K ↔ (b < a → Rn 185 14 L st T σ K) ∧ (a ≤ b → Rn 185 10 L st T σ K) := R_icmp_gt (off := 7) (by decide +kernel) (by decide)
theorem s185_10 : Rn 185 10 L st T σ K ↔ Rn 185 11 L (vI 1 :: st) T σ K := R_iconst (n := 1) (by decide +kernel) (by decide)
theorem s185_11 : Rn 185 11 L st T σ K ↔ Rn 185 15 L st T σ K := R_goto (off := 4) (by decide +kernel) (by decide)
theorem s185_14 : Rn 185 14 L st T σ K ↔ Rn 185 15 L (vI 0 :: st) T σ K := R_iconst (n := 0) (by decide +kernel) (by decide)
theorem s185_15 : Rn 185 15 L [vI a] T σ K ↔ (a = 0 ∨ a = 1) ∧ K (some (vI a)) T σ := R_retZ (by decide +kernel) (by decide +kernel)
theorem s186_0 : Rn 186 0 [some (vR o)] st T σ K ↔ Rn 186 1 [some (vR o)] (vR o :: st) T σ K := R_aload_n (n := 0) (by decide +kernel) rfl
theorem s186_1 : Rn 186 1 L (vR o :: st) T σ K ↔ (sx_kd T o = 9 ∧ st.length ≤ 4) ∧ Rn 178 0 [some (vR o)] [] T σ (fun r T' σ' => Rn 186 4 L (sx_push r st) T' σ' K) := R_V (cm := 178) (n := 0) (idx := 153) (ci := 9) (mx := 1) (vs := []) (by decide +kernel) (by decide +kernel) rfl (by decide +kernel) rfl (by decide +kernel) (by decide +kernel)
theorem s186_4 : Rn 186 4 L (vI a :: st) T σ K ↔ (a ≠ 0 → Rn 186 8 L st T σ K) ∧ (a = 0 → Rn 186 7 L st T σ K) := R_if_ne (off := 4) (by decide +kernel) (by decide)
theorem s186_7 : Rn 186 7 L [] T σ K ↔ K none T σ := R_retV (by decide +kernel) (by decide +kernel)
theorem s186_8 : Rn 186 8 [some (vR o)] st T σ K ↔ Rn 186 9 [some (vR o)] (vR o :: st) T σ K := R_aload_n (n := 0) (by decide +kernel) rfl
theorem s186_9 : Rn 186 9 L (vR o :: st) T σ K ↔ (sx_kd T o = 9 ∧ st.length ≤ 4) ∧ Rn 179 0 [some (vR o)] [] T σ (fun r T' σ' => Rn 186 12 L (sx_push r st) T' σ' K) := R_V (cm := 179) (n := 0) (idx := 157) (ci := 9) (mx := 1) (vs := []) (by decide +kernel) (by decide +kernel) rfl (by decide +kernel) rfl (by decide +kernel) (by decide +kernel)
theorem s186_12 : Rn 186 12 L st T σ K ↔ Rn 186 14 L (vI 59 :: st) T σ K := R_bipush (n := 59) (by decide +kernel) (by decide +kernel)
theorem s186_14 : Rn 186 14 L (vI b :: vI a :: st) T σ K ↔ (a ≠ b → Rn 186 30 L st T σ K) ∧ (a = b → Rn 186 17 L st T σ K) := R_icmp_ne (off := 16) (by decide +kernel) (by decide)
theorem s186_17 : Rn 186 17 [some (vR o)] st T σ K ↔ Rn 186 18 [some (vR o)] (vR o :: st) T σ K := R_aload_n (n := 0) (by decide +kernel) rfl
theorem s186_18 : Rn 186 18 L (vR o :: st) T σ K ↔ Rn 186 19 L (vR o :: vR o :: st) T σ K := R_dup (v := vR o) (by decide +kernel) rfl
theorem s186_19 : Rn 186 19 L (vR o :: st) T σ K ↔ sx_kd T o = 9 ∧ Rn 186 22 L (vI (σ o 13) :: st) T σ K := R_getI (idx := 51) (ci := 9) (k := 13) (by decide +kernel) (by decide +kernel) (Or.inl rfl)
theorem s186_22 : Rn 186 22 L st T σ K ↔ Rn 186 23 L (vI 1 :: st) T σ K := R_iconst (n := 1) (by decide +kernel) (by decide)
theorem s186_23 : Rn 186 23 L (vI b :: vI a :: st) T σ K ↔ inI (a + b) ∧ Rn 186 24 L (vI (a + b) :: st) T σ K := R_iadd (by decide +kernel)
theorem s186_24 : Rn 186 24 L (vI a :: vR o :: st) T σ K ↔ sx_kd T o = 9 ∧ Rn 186 27 L st T (sx_up σ o 13 a) K := R_putI (idx := 51) (ci := 9) (k := 13) (by decide +kernel) (by decide +kernel) rfl rfl
theorem s186_27 : Rn 186 27 L st T σ K ↔ Rn 186 39 L st T σ K := R_goto (off := 12) (by decide +kernel) (by decide)
theorem s186_30 : Rn 186 30 [some (vR o)] st T σ K ↔ Rn 186 31 [some (vR o)] (vR o :: st) T σ K := R_aload_n (n := 0) (by decide +kernel) rfl
theorem s186_31 : Rn 186 31 L st T σ K ↔ Rn 186 32 L (vI 1 :: st) T σ K := R_iconst (n := 1) (by decide +kernel) (by decide)
theorem s186_32 : Rn 186 32 [some (vR o)] st T σ K ↔ Rn 186 33 [some (vR o)] (vR o :: st) T σ K := R_aload_n (n := 0) (by decide +kernel) rfl
theorem s186_33 : Rn 186 33 L (vR o :: st) T σ K ↔ sx_kd T o = 9 ∧ Rn 186 36 L (vI (σ o 13) :: st) T σ K := R_getI (idx := 51) (ci := 9) (k := 13) (by decide +kernel) (by decide +kernel) (Or.inl rfl)
theorem s186_36 : Rn 186 36 L (vI b :: vI a :: vR o :: st) T σ K ↔ (sx_kd T o = 9 ∧ st.length ≤ 4) ∧ Rn 183 0 [some (vR o), some (vI a), some (vI b)] [] T σ (fun r T' σ' => Rn 186 39 L (sx_push r st) T' σ' K) := R_V (cm := 183) (n := 2) (idx := 167) (ci := 9) (mx := 3) (vs := [vI a, vI b]) (by decide +kernel) (by decide +kernel) rfl (by decide +kernel) rfl (by decide +kernel) (by decide +kernel)
theorem s186_39 : Rn 186 39 L [] T σ K ↔ K none T σ := R_retV (by decide +kernel) (by decide +kernel)
theorem s187_0 : Rn 187 0 [some (vR o), l1, l2, l3, l4] st T σ K ↔ Rn 187 1 [some (vR o), l1, l2, l3, l4] (vR o :: st) T σ K := R_aload_n (n := 0) (by decide +kernel) rfl
theorem s187_1 : Rn 187 1 L (vR o :: st) T σ K ↔ sx_kd T o = 9 ∧ Rn 187 4 L (vI (σ o 18) :: st) T σ K := R_getI (idx := 66) (ci := 9) (k := 18) (by decide +kernel) (by decide +kernel) (Or.inl rfl)
theorem s187_4 : Rn 187 4 L st T σ K ↔ Rn 187 6 L (vI 40 :: st) T σ K := R_bipush (n := 40) (by decide +kernel) (by decide +kernel)
theorem s187_6 : Rn 187 6 L (vI b :: vI a :: st) T σ K ↔ (a ≠ b → Rn 187 18 L st T σ K) ∧ (a = b → Rn 187 9 L st T σ K) := R_icmp_ne (off := 12) (by decide +kernel) (by decide)
theorem s187_9 : Rn 187 9 [some (vR o), l1, l2, l3, l4] st T σ K ↔ Rn 187 10 [some (vR o), l1, l2, l3, l4] (vR o :: st) T σ K := R_aload_n (n := 0) (by decide +kernel) rfl
theorem s187_10 : Rn 187 10 L st T σ K ↔ Rn 187 11 L (vI 5 :: st) T σ K := R_iconst (n := 5) (by decide +kernel) (by decide)
theorem s187_11 : Rn 187 11 [some (vR o), l1, l2, l3, l4] st T σ K ↔ Rn 187 12 [some (vR o), l1, l2, l3, l4] (vR o :: st) T σ K := R_aload_n (n := 0) (by decide +kernel) rfl
theorem s187_12 : Rn 187 12 L (vR o :: st) T σ K ↔ sx_kd T o = 9 ∧ Rn 187 15 L (vI (σ o 14) :: st) T σ K := R_getI (idx := 54) (ci := 9) (k := 14) (by decide +kernel) (by decide +kernel) (Or.inl rfl)
theorem s187_15 : Rn 187 15 L (vI b :: vI a :: vR o :: st) T σ K ↔ (sx_kd T o = 9 ∧ st.length ≤ 4) ∧ Rn 183 0 [some (vR o), some (vI a), some (vI b)] [] T σ (fun r T' σ' => Rn 187 18 L (sx_push r st) T' σ' K) := R_V (cm := 183) (n := 2) (idx := 167) (ci := 9) (mx := 3) (vs := [vI a, vI b]) (by decide +kernel) (by decide +kernel) rfl (by decide +kernel) rfl (by decide +kernel) (by decide +kernel)
theorem s187_18 : Rn 187 18 [some (vR o), l1, l2, l3, l4] st T σ K ↔ Rn 187 19 [some (vR o), l1, l2, l3, l4] (vR o :: st) T σ K := R_aload_n (n := 0) (by decide +kernel) rfl
theorem s187_19 : Rn 187 19 L (vR o :: st) T σ K ↔ (sx_kd T o = 9 ∧ st.length ≤ 4) ∧ Rn 178 0 [some (vR o)] [] T σ (fun r T' σ' => Rn 187 22 L (sx_push r st) T' σ' K) := R_V (cm := 178) (n := 0) (idx := 153) (ci := 9) (mx := 1) (vs := []) (by decide +kernel) (by decide +kernel) rfl (by decide +kernel) rfl (by decide +kernel) (by decide +kernel)
theorem s187_22 : Rn 187 22 L (vI a :: st) T σ K ↔ (a ≠ 0 → Rn 187 26 L st T σ K) ∧ (a = 0 → Rn 187 25 L st T σ K) := R_if_ne (off := 4) (by decide +kernel) (by decide)
theorem s187_25 : Rn 187 25 L [] T σ K ↔ K none T σ := R_retV (by decide +kernel) (by decide +kernel)
theorem s187_26 : Rn 187 26 [some (vR o), l1, l2, l3, l4] st T σ K ↔ Rn 187 27 [some (vR o), l1, l2, l3, l4] (vR o :: st) T σ K := R_aload_n (n := 0) (by decide +kernel) rfl
theorem s187_27 : Rn 187 27 L (vR o :: st) T σ K ↔ (sx_kd T o = 9 ∧ st.length ≤ 4) ∧ Rn 188 0 [some (vR o), none, none, none] [] T σ (fun r T' σ' => Rn 187 30 L (sx_push r st) T' σ' K) := R_V (cm := 188) (n := 0) (idx := 180) (ci := 9) (mx := 4) (vs := []) (by decide +kernel) (by decide +kernel) rfl (by decide +kernel) rfl (by decide +kernel) (by decide +kernel)
theorem s187_30 : Rn 187 30 [some (vR o), l1, l2, l3, l4] st T σ K ↔ Rn 187 31 [some (vR o), l1, l2, l3, l4] (vR o :: st) T σ K := R_aload_n (n := 0) (by decide +kernel) rfl
theorem s187_31 : Rn 187 31 L st T σ K ↔ Rn 187 33 L (vI 6 :: st) T σ K := R_bipush (n := 6) (by decide +kernel) (by decide +kernel)
theorem s187_33 : Rn 187 33 L (vI a :: vR o :: st) T σ K ↔ (sx_kd T o = 9 ∧ st.length ≤ 4) ∧ Rn 176 0 [some (vR o), some (vI a)] [] T σ (fun r T' σ' => Rn 187 36 L (sx_push r st) T' σ' K) := R_V (cm := 176) (n := 1) (idx := 183) (ci := 9) (mx := 2) (vs := [vI a]) (by decide +kernel) (by decide +kernel) rfl (by decide +kernel) rfl (by decide +kernel) (by decide +kernel)
theorem s187_36 : Rn 187 36 L st T σ K ↔ Rn 187 37 L (vI 0 :: st) T σ K := R_iconst (n := 0) (by decide +kernel) (by decide)
theorem s187_37 : Rn 187 37 [l0, l1, l2, l3, l4] (vI a :: st) T σ K ↔ Rn 187 38 [l0, some (vI a), l2, l3, l4] st T σ K := R_istore_n (n := 1) (by decide +kernel) rfl
theorem s187_38 : Rn 187 38 L st T σ K ↔ Rn 187 39 L (vI 0 :: st) T σ K := R_iconst (n := 0) (by decide +kernel) (by decide)
theorem s187_39 : Rn 187 39 [l0, l1, l2, l3, l4] (vI a :: st) T σ K ↔ Rn 187 40 [l0, l1, some (vI a), l3, l4] st T σ K := R_istore_n (n := 2) (by decide +kernel) rfl
theorem s187_40 : Rn 187 40 [l0, l1, some (vI a), l3, l4] st T σ K ↔ Rn 187 41 [l0, l1, some (vI a), l3, l4] (vI a :: st) T σ K := R_iload_n (n := 2) (by decide +kernel) rfl
theorem s187_41 : Rn 187 41 L st T σ K ↔ Rn 187 42 L (vI 3 :: st) T σ K := R_iconst (n := 3) (by decide +kernel) (by decide)
theorem s187_42 : Rn 187 42 L (vI b :: vI a :: st) T σ K ↔ (b ≤ a → Rn 187 87 L st T σ K) ∧ (a < b → Rn 187 45 L st T σ K) := R_icmp_ge (off := 45) (by decide +kernel) (by decide)
theorem s187_45 : Rn 187 45 [some (vR o), l1, l2, l3, l4] st T σ K ↔ Rn 187 46 [some (vR o), l1, l2, l3, l4] (vR o :: st) T σ K := R_aload_n (n := 0) (by decide +kernel) rfl
theorem s187_46 : Rn 187 46 L (vR o :: st) T σ K ↔ (sx_kd T o = 9 ∧ st.length ≤ 4) ∧ Rn 190 0 [some (vR o), none] [] T σ (fun r T' σ' => Rn 187 49 L (sx_push r st) T' σ' K) := R_V (cm := 190) (n := 0) (idx := 186) (ci := 9) (mx := 2) (vs := []) (by decide +kernel) (by decide +kernel) rfl (by decide +kernel) rfl (by decide +kernel) (by decide +kernel)
theorem s187_49 : Rn 187 49 [l0, l1, l2, l3, l4] (vI a :: st) T σ K ↔ Rn 187 50 [l0, l1, l2, some (vI a), l4] st T σ K := R_istore_n (n := 3) (by decide +kernel) rfl
theorem s187_50 : Rn 187 50 [some (vR o), l1, l2, l3, l4] st T σ K ↔ Rn 187 51 [some (vR o), l1, l2, l3, l4] (vR o :: st) T σ K := R_aload_n (n := 0) (by decide +kernel) rfl
theorem s187_51 : Rn 187 51 L (vR o :: st) T σ K ↔ (sx_kd T o = 9 ∧ st.length ≤ 4) ∧ Rn 178 0 [some (vR o)] [] T σ (fun r T' σ' => Rn 187 54 L (sx_push r st) T' σ' K) := R_V (cm := 178) (n := 0) (idx := 153) (ci := 9) (mx := 1) (vs := []) (by decide +kernel) (by decide +kernel) rfl (by decide +kernel) rfl (by decide +kernel) (by decide +kernel)
theorem s187_54 : Rn 187 54 L (vI a :: st) T σ K ↔ (a ≠ 0 → Rn 187 58 L st T σ K) ∧ (a = 0 → Rn 187 57 L st T σ K) := R_if_ne (off := 4) (by decide +kernel) (by decide)
theorem s187_57 : Rn 187 57 L [] T σ K ↔ K none T σ := R_retV (by decide +kernel) (by decide +kernel)
theorem s187_58 : Rn 187 58 [l0, l1, some (vI a), l3, l4] st T σ K ↔ Rn 187 59 [l0, l1, some (vI a), l3, l4] (vI a :: st) T σ K := R_iload_n (n := 2) (by decide +kernel) rfl
theorem s187_59 : Rn 187 59 L (vI a :: st) T σ K ↔ (a ≠ 0 → Rn 187 67 L st T σ K) ∧ (a = 0 → Rn 187 62 L st T σ K) := R_if_ne (off := 8) (by decide +kernel) (by decide)
theorem s187_62 : Rn 187 62 [some (vR o), l1, l2, l3, l4] st T σ K ↔ Rn 187 63 [some (vR o), l1, l2, l3, l4] (vR o :: st) T σ K := R_aload_n (n := 0) (by decide +kernel) rfl
theorem s187_63 : Rn 187 63 L (vR o :: st) T σ K ↔ sx_kd T o = 9 ∧ Rn 187 66 L (vI (σ o 14) :: st) T σ K := R_getI (idx := 54) (ci := 9) (k := 14) (by decide +kernel) (by decide +kernel) (Or.inl rfl)
theorem s187_66 : Rn 187 66 [l0, l1, l2, l3, l4] (vI a :: st) T σ K ↔ Rn 187 67 [l0, some (vI a), l2, l3, l4] st T σ K := R_istore_n (n := 1) (by decide +kernel) rfl
theorem s187_67 : Rn 187 67 [some (vR o), l1, l2, l3, l4] st T σ K ↔ Rn 187 68 [some (vR o), l1, l2, l3, l4] (vR o :: st) T σ K := R_aload_n (n := 0) (by decide +kernel) rfl
theorem s187_68 : Rn 187 68 L (vR o :: st) T σ K ↔ sx_kd T o = 9 ∧ ∃ t, sx_rf T o 20 = some t ∧ Rn 187 71 L (vR t :: st) T σ K := R_getR (idx := 72) (ci := 9) (k := 20) (by decide +kernel) (by decide +kernel) rfl
theorem s187_71 : Rn 187 71 L st T σ K ↔ Rn 187 72 L (vI 3 :: st) T σ K := R_iconst (n := 3) (by decide +kernel) (by decide)
theorem s187_72 : Rn 187 72 [some (vR o), l1, l2, l3, l4] st T σ K ↔ Rn 187 73 [some (vR o), l1, l2, l3, l4] (vR o :: st) T σ K := R_aload_n (n := 0) (by decide +kernel) rfl
theorem s187_73 : Rn 187 73 L (vR o :: st) T σ K ↔ sx_kd T o = 9 ∧ Rn 187 76 L (vI (σ o 18) :: st) T σ K := R_getI (idx := 66) (ci := 9) (k := 18) (by decide +kernel) (by decide +kernel) (Or.inl rfl)
theorem s187_76 : Rn 187 76 L (vI b :: vI a :: st) T σ K ↔ inI (a * b) ∧ Rn 187 77 L (vI (a * b) :: st) T σ K := R_imul (by decide +kernel)
theorem s187_77 : Rn 187 77 [l0, l1, some (vI a), l3, l4] st T σ K ↔ Rn 187 78 [l0, l1, some (vI a), l3, l4] (vI a :: st) T σ K := R_iload_n (n := 2) (by decide +kernel) rfl
theorem s187_78 : Rn 187 78 L (vI b :: vI a :: st) T σ K ↔ inI (a + b) ∧ Rn 187 79 L (vI (a + b) :: st) T σ K := R_iadd (by decide +kernel)
theorem s187_79 : Rn 187 79 [l0, l1, l2, some (vI a), l4] st T σ K ↔ Rn 187 80 [l0, l1, l2, some (vI a), l4] (vI a :: st) T σ K := R_iload_n (n := 3) (by decide +kernel) rfl
theorem s187_80 : Rn 187 80 L (vI b :: vI a :: vR o :: st) T σ K ↔ (sx_kd T o = 20 ∧ 0 ≤ a ∧ a < sx_ln T o) ∧ Rn 187 81 L st T (sx_up σ o a b) K := R_iast (by decide +kernel)
theorem s187_81 : Rn 187 81 [l0, l1, some (vI a), l3, l4] st T σ K ↔ inI (a + 1) ∧ Rn 187 84 [l0, l1, some (vI (a + 1)), l3, l4] st T σ K := R_iinc (n := 2) (d := 1) (by decide +kernel) rfl
theorem s187_84 : Rn 187 84 L st T σ K ↔ Rn 187 40 L st T σ K := R_goto (off := -44) (by decide +kernel) (by decide)
theorem s187_87 : Rn 187 87 L st T σ K ↔ Rn 187 88 L (vI 0 :: st) T σ K := R_iconst (n := 0) (by decide +kernel) (by decide)
theorem s187_88 : Rn 187 88 [l0, l1, l2, l3, l4] (vI a :: st) T σ K ↔ Rn 187 89 [l0, l1, some (vI a), l3, l4] st T σ K := R_istore_n (n := 2) (by decide +kernel) rfl
theorem s187_89 : Rn 187 89 [l0, l1, some (vI a), l3, l4] st T σ K ↔ Rn 187 90 [l0, l1, some (vI a), l3, l4] (vI a :: st) T σ K := R_iload_n (n := 2) (by decide +kernel) rfl
theorem s187_90 : Rn 187 90 [some (vR o), l1, l2, l3, l4] st T σ K ↔ Rn 187 91 [some (vR o), l1, l2, l3, l4] (vR o :: st) T σ K := R_aload_n (n := 0) (by decide +kernel) rfl
theorem s187_91 : Rn 187 91 L (vR o :: st) T σ K ↔ sx_kd T o = 9 ∧ Rn 187 94 L (vI (σ o 18) :: st) T σ K := R_getI (idx := 66) (ci := 9) (k := 18) (by decide +kernel) (by decide +kernel) (Or.inl rfl)
theorem s187_94 : Rn 187 94 L (vI b :: vI a :: st) T σ K ↔ (b ≤ a → Rn 187 168 L st T σ K) ∧ (a < b → Rn 187 97 L st T σ K) := R_icmp_ge (off := 74) (by decide +kernel) (by decide)
theorem s187_97 : Rn 187 97 L st T σ K ↔ Rn 187 98 L (vI 1 :: st) T σ K := R_iconst (n := 1) (by decide +kernel) (by decide)
theorem s187_98 : Rn 187 98 [l0, l1, l2, l3, l4] (vI a :: st) T σ K ↔ Rn 187 99 [l0, l1, l2, some (vI a), l4] st T σ K := R_istore_n (n := 3) (by decide +kernel) rfl
theorem s187_99 : Rn 187 99 L st T σ K ↔ Rn 187 100 L (vI 0 :: st) T σ K := R_iconst (n := 0) (by decide +kernel) (by decide)
theorem s187_100 : Rn 187 100 [l0, l1, l2, l3, l4] (vI a :: st) T σ K ↔ Rn 187 102 [l0, l1, l2, l3, some (vI a)] st T σ K := R_istore (n := 4) (by decide +kernel) rfl
theorem s187_102 : Rn 187 102 [l0, l1, l2, l3, some (vI a)] st T σ K ↔ Rn 187 104 [l0, l1, l2, l3, some (vI a)] (vI a :: st) T σ K := R_iload (n := 4) (by decide +kernel) rfl
theorem s187_104 : Rn 187 104 L st T σ K ↔ Rn 187 105 L (vI 3 :: st) T σ K := R_iconst (n := 3) (by decide +kernel) (by decide)
theorem s187_105 : Rn 187 105 L (vI b :: vI a :: st) T σ K ↔ (b ≤ a → Rn 187 152 L st T σ K) ∧ (a < b → Rn 187 108 L st T σ K) := R_icmp_ge (off := 47) (by decide +kernel) (by decide)
theorem s187_108 : Rn 187 108 [l0, l1, l2, some (vI a), l4] st T σ K ↔ Rn 187 109 [l0, l1, l2, some (vI a), l4] (vI a :: st) T σ K := R_iload_n (n := 3) (by decide +kernel) rfl
theorem s187_109 : Rn 187 109 L (vI a :: st) T σ K ↔ (a = 0 → Rn 187 144 L st T σ K) ∧ (a ≠ 0 → Rn 187 112 L st T σ K) := R_if_eq (off := 35) (by decide +kernel) (by decide)
theorem s187_112 : Rn 187 112 [some (vR o), l1, l2, l3, l4] st T σ K ↔ Rn 187 113 [some (vR o), l1, l2, l3, l4] (vR o :: st) T σ K := R_aload_n (n := 0) (by decide +kernel) rfl
theorem s187_113 : Rn 187 113 L (vR o :: st) T σ K ↔ sx_kd T o = 9 ∧ ∃ t, sx_rf T o 20 = some t ∧ Rn 187 116 L (vR t :: st) T σ K := R_getR (idx := 72) (ci := 9) (k := 20) (by decide +kernel) (by decide +kernel) rfl
theorem s187_116 : Rn 187 116 L st T σ K ↔ Rn 187 117 L (vI 3 :: st) T σ K := R_iconst (n := 3) (by decide +kernel) (by decide)
theorem s187_117 : Rn 187 117 [l0, l1, some (vI a), l3, l4] st T σ K ↔ Rn 187 118 [l0, l1, some (vI a), l3, l4] (vI a :: st) T σ K := R_iload_n (n := 2) (by decide +kernel) rfl
theorem s187_118 : Rn 187 118 L (vI b :: vI a :: st) T σ K ↔ inI (a * b) ∧ Rn 187 119 L (vI (a * b) :: st) T σ K := R_imul (by decide +kernel)
theorem s187_119 : Rn 187 119 [l0, l1, l2, l3, some (vI a)] st T σ K ↔ Rn 187 121 [l0, l1, l2, l3, some (vI a)] (vI a :: st) T σ K := R_iload (n := 4) (by decide +kernel) rfl
theorem s187_121 : Rn 187 121 L (vI b :: vI a :: st) T σ K ↔ inI (a + b) ∧ Rn 187 122 L (vI (a + b) :: st) T σ K := R_iadd (by decide +kernel)
theorem s187_122 : Rn 187 122 L (vI a :: vR o :: st) T σ K ↔ (sx_kd T o = 20 ∧ 0 ≤ a ∧ a < sx_ln T o) ∧ Rn 187 123 L (vI (σ o a) :: st) T σ K := R_iald (by decide +kernel) (by decide)
theorem s187_123 : Rn 187 123 [some (vR o), l1, l2, l3, l4] st T σ K ↔ Rn 187 124 [some (vR o), l1, l2, l3, l4] (vR o :: st) T σ K := R_aload_n (n := 0) (by decide +kernel) rfl
theorem s187_124 : Rn 187 124 L (vR o :: st) T σ K ↔ sx_kd T o = 9 ∧ ∃ t, sx_rf T o 20 = some t ∧ Rn 187 127 L (vR t :: st) T σ K := R_getR (idx := 72) (ci := 9) (k := 20) (by decide +kernel) (by decide +kernel) rfl
theorem s187_127 : Rn 187 127 L st T σ K ↔ Rn 187 128 L (vI 3 :: st) T σ K := R_iconst (n := 3) (by decide +kernel) (by decide)
theorem s187_128 : Rn 187 128 [some (vR o), l1, l2, l3, l4] st T σ K ↔ Rn 187 129 [some (vR o), l1, l2, l3, l4] (vR o :: st) T σ K := R_aload_n (n := 0) (by decide +kernel) rfl
theorem s187_129 : Rn 187 129 L (vR o :: st) T σ K ↔ sx_kd T o = 9 ∧ Rn 187 132 L (vI (σ o 18) :: st) T σ K := R_getI (idx := 66) (ci := 9) (k := 18) (by decide +kernel) (by decide +kernel) (Or.inl rfl)
theorem s187_132 : Rn 187 132 L (vI b :: vI a :: st) T σ K ↔ inI (a * b) ∧ Rn 187 133 L (vI (a * b) :: st) T σ K := R_imul (by decide +kernel)
theorem s187_133 : Rn 187 133 [l0, l1, l2, l3, some (vI a)] st T σ K ↔ Rn 187 135 [l0, l1, l2, l3, some (vI a)] (vI a :: st) T σ K := R_iload (n := 4) (by decide +kernel) rfl
theorem s187_135 : Rn 187 135 L (vI b :: vI a :: st) T σ K ↔ inI (a + b) ∧ Rn 187 136 L (vI (a + b) :: st) T σ K := R_iadd (by decide +kernel)
theorem s187_136 : Rn 187 136 L (vI a :: vR o :: st) T σ K ↔ (sx_kd T o = 20 ∧ 0 ≤ a ∧ a < sx_ln T o) ∧ Rn 187 137 L (vI (σ o a) :: st) T σ K := R_iald (by decide +kernel) (by decide)
theorem s187_137 : Rn 187 137 L (vI b :: vI a :: st) T σ K ↔ (a ≠ b → Rn 187 144 L st T σ K) ∧ (a = b → Rn 187 140 L st T σ K) := R_icmp_ne (off := 7) (by decide +kernel) (by decide)
theorem s187_140 : Rn 187 140 L st T σ K ↔ Rn 187 141 L (vI 1 :: st) T σ K := R_iconst (n := 1) (by decide +kernel) (by decide)
theorem s187_141 : Rn 187 141 L st T σ K ↔ Rn 187 145 L st T σ K := R_goto (off := 4) (by decide +kernel) (by decide)
theorem s187_144 : Rn 187 144 L st T σ K ↔ Rn 187 145 L (vI 0 :: st) T σ K := R_iconst (n := 0) (by decide +kernel) (by decide)
theorem s187_145 : Rn 187 145 [l0, l1, l2, l3, l4] (vI a :: st) T σ K ↔ Rn 187 146 [l0, l1, l2, some (vI a), l4] st T σ K := R_istore_n (n := 3) (by decide +kernel) rfl
theorem s187_146 : Rn 187 146 [l0, l1, l2, l3, some (vI a)] st T σ K ↔ inI (a + 1) ∧ Rn 187 149 [l0, l1, l2, l3, some (vI (a + 1))] st T σ K := R_iinc (n := 4) (d := 1) (by decide +kernel) rfl
theorem s187_149 : Rn 187 149 L st T σ K ↔ Rn 187 102 L st T σ K := R_goto (off := -47) (by decide +kernel) (by decide)
theorem s187_152 : Rn 187 152 [l0, l1, l2, some (vI a), l4] st T σ K ↔ Rn 187 153 [l0, l1, l2, some (vI a), l4] (vI a :: st) T σ K := R_iload_n (n := 3) (by decide +kernel) rfl
theorem s187_153 : Rn 187 153 L (vI a :: st) T σ K ↔ (a = 0 → Rn 187 162 L st T σ K) ∧ (a ≠ 0 → Rn 187 156 L st T σ K) := R_if_eq (off := 9) (by decide +kernel) (by decide)
theorem s187_156 : Rn 187 156 [some (vR o), l1, l2, l3, l4] st T σ K ↔ Rn 187 157 [some (vR o), l1, l2, l3, l4] (vR o :: st) T σ K := R_aload_n (n := 0) (by decide +kernel) rfl
theorem s187_157 : Rn 187 157 L st T σ K ↔ Rn 187 158 L (vI 4 :: st) T σ K := R_iconst (n := 4) (by decide +kernel) (by decide)
theorem s187_158 : Rn 187 158 [l0, some (vI a), l2, l3, l4] st T σ K ↔ Rn 187 159 [l0, some (vI a), l2, l3, l4] (vI a :: st) T σ K := R_iload_n (n := 1) (by decide +kernel) rfl
theorem s187_159 : Rn 187 159 L (vI b :: vI a :: vR o :: st) T σ K ↔ (sx_kd T o = 9 ∧ st.length ≤ 4) ∧ Rn 183 0 [some (vR o), some (vI a), some (vI b)] [] T σ (fun r T' σ' => Rn 187 162 L (sx_push r st) T' σ' K) := R_V (cm := 183) (n := 2) (idx := 167) (ci := 9) (mx := 3) (vs := [vI a, vI b]) (by decide +kernel) (by decide +kernel) rfl (by decide +kernel) rfl (by decide +kernel) (by decide +kernel)
theorem s187_162 : Rn 187 162 [l0, l1, some (vI a), l3, l4] st T σ K ↔ inI (a + 1) ∧ Rn 187 165 [l0, l1, some (vI (a + 1)), l3, l4] st T σ K := R_iinc (n := 2) (d := 1) (by decide +kernel) rfl
theorem s187_165 : Rn 187 165 L st T σ K ↔ Rn 187 89 L st T σ K := R_goto (off := -76) (by decide +kernel) (by decide)
theorem s187_168 : Rn 187 168 [some (vR o), l1, l2, l3, l4] st T σ K ↔ Rn 187 169 [some (vR o), l1, l2, l3, l4] (vR o :: st) T σ K := R_aload_n (n := 0) (by decide +kernel) rfl
theorem s187_169 : Rn 187 169 L (vR o :: st) T σ K ↔ Rn 187 170 L (vR o :: vR o :: st) T σ K := R_dup (v := vR o) (by decide +kernel) rfl
theorem s187_170 : Rn 187 170 L (vR o :: st) T σ K ↔ sx_kd T o = 9 ∧ Rn 187 173 L (vI (σ o 18) :: st) T σ K := R_getI (idx := 66) (ci := 9) (k := 18) (by decide +kernel) (by decide +kernel) (Or.inl rfl)
theorem s187_173 : Rn 187 173 L st T σ K ↔ Rn 187 174 L (vI 1 :: st) T σ K := R_iconst (n := 1) (by decide +kernel) (by decide)
theorem s187_174 : Rn 187 174 L (vI b :: vI a :: st) T σ K ↔ inI (a + b) ∧ Rn 187 175 L (vI (a + b) :: st) T σ K := R_iadd (by decide +kernel)
theorem s187_175 : Rn 187 175 L (vI a :: vR o :: st) T σ K ↔ sx_kd T o = 9 ∧ Rn 187 178 L st T (sx_up σ o 18 a) K := R_putI (idx := 66) (ci := 9) (k := 18) (by decide +kernel) (by decide +kernel) rfl rfl
theorem s187_178 : Rn 187 178 L [] T σ K ↔ K none T σ := R_retV (by decide +kernel) (by decide +kernel)
theorem s188_0 : Rn 188 0 [some (vR o), l1, l2, l3] st T σ K ↔ Rn 188 1 [some (vR o), l1, l2, l3] (vR o :: st) T σ K := R_aload_n (n := 0) (by decide +kernel) rfl
theorem s188_1 : Rn 188 1 L (vR o :: st) T σ K ↔ (sx_kd T o = 9 ∧ st.length ≤ 4) ∧ Rn 177 0 [some (vR o)] [] T σ (fun r T' σ' => Rn 188 4 L (sx_push r st) T' σ' K) := R_V (cm := 177) (n := 0) (idx := 171) (ci := 9) (mx := 1) (vs := []) (by decide +kernel) (by decide +kernel) rfl (by decide +kernel) rfl (by decide +kernel) (by decide +kernel)
theorem s188_4 : Rn 188 4 [some (vR o), l1, l2, l3] st T σ K ↔ Rn 188 5 [some (vR o), l1, l2, l3] (vR o :: st) T σ K := R_aload_n (n := 0) (by decide +kernel) rfl
theorem s188_5 : Rn 188 5 L (vR o :: st) T σ K ↔ (sx_kd T o = 9 ∧ st.length ≤ 4) ∧ Rn 178 0 [some (vR o)] [] T σ (fun r T' σ' => Rn 188 8 L (sx_push r st) T' σ' K) := R_V (cm := 178) (n := 0) (idx := 153) (ci := 9) (mx := 1) (vs := []) (by decide +kernel) (by decide +kernel) rfl (by decide +kernel) rfl (by decide +kernel) (by decide +kernel)
theorem s188_8 : Rn 188 8 L (vI a :: st) T σ K ↔ (a ≠ 0 → Rn 188 12 L st T σ K) ∧ (a = 0 → Rn 188 11 L st T σ K) := R_if_ne (off := 4) (by decide +kernel) (by decide)
theorem s188_11 : Rn 188 11 L [] T σ K ↔ K none T σ := R_retV (by decide +kernel) (by decide +kernel)
theorem s188_12 : Rn 188 12 [some (vR o), l1, l2, l3] st T σ K ↔ Rn 188 13 [some (vR o), l1, l2, l3] (vR o :: st) T σ K := R_aload_n (n := 0) (by decide +kernel) rfl
theorem s188_13 : Rn 188 13 L (vR o :: st) T σ K ↔ (sx_kd T o = 9 ∧ st.length ≤ 4) ∧ Rn 184 0 [some (vR o), none, none, none] [] T σ (fun r T' σ' => Rn 188 16 L (sx_push r st) T' σ' K) := R_V (cm := 184) (n := 0) (idx := 174) (ci := 9) (mx := 4) (vs := []) (by decide +kernel) (by decide +kernel) rfl (by decide +kernel) rfl (by decide +kernel) (by decide +kernel)
theorem s188_16 : Rn 188 16 L st T σ K ↔ Rn 188 17 L (vI (-1) :: st) T σ K := R_iconst (n := -1) (by decide +kernel) (by decide)
theorem s188_17 : Rn 188 17 L (vI b :: vI a :: st) T σ K ↔ (a = b → Rn 188 32 L st T σ K) ∧ (a ≠ b → Rn 188 20 L st T σ K) := R_icmp_eq (off := 15) (by decide +kernel) (by decide)
theorem s188_20 : Rn 188 20 [some (vR o), l1, l2, l3] st T σ K ↔ Rn 188 21 [some (vR o), l1, l2, l3] (vR o :: st) T σ K := R_aload_n (n := 0) (by decide +kernel) rfl
theorem s188_21 : Rn 188 21 L st T σ K ↔ Rn 188 22 L (vI 1 :: st) T σ K := R_iconst (n := 1) (by decide +kernel) (by decide)
theorem s188_22 : Rn 188 22 [some (vR o), l1, l2, l3] st T σ K ↔ Rn 188 23 [some (vR o), l1, l2, l3] (vR o :: st) T σ K := R_aload_n (n := 0) (by decide +kernel) rfl
theorem s188_23 : Rn 188 23 L (vR o :: st) T σ K ↔ sx_kd T o = 9 ∧ Rn 188 26 L (vI (σ o 14) :: st) T σ K := R_getI (idx := 54) (ci := 9) (k := 14) (by decide +kernel) (by decide +kernel) (Or.inl rfl)
theorem s188_26 : Rn 188 26 L (vI b :: vI a :: vR o :: st) T σ K ↔ (sx_kd T o = 9 ∧ st.length ≤ 4) ∧ Rn 183 0 [some (vR o), some (vI a), some (vI b)] [] T σ (fun r T' σ' => Rn 188 29 L (sx_push r st) T' σ' K) := R_V (cm := 183) (n := 2) (idx := 167) (ci := 9) (mx := 3) (vs := [vI a, vI b]) (by decide +kernel) (by decide +kernel) rfl (by decide +kernel) rfl (by decide +kernel) (by decide +kernel)
theorem s188_29 : Rn 188 29 L st T σ K ↔ Rn 188 58 L st T σ K := R_goto (off := 29) (by decide +kernel) (by decide)
theorem s188_32 : Rn 188 32 [some (vR o), l1, l2, l3] st T σ K ↔ Rn 188 33 [some (vR o), l1, l2, l3] (vR o :: st) T σ K := R_aload_n (n := 0) (by decide +kernel) rfl
theorem s188_33 : Rn 188 33 L (vR o :: st) T σ K ↔ sx_kd T o = 9 ∧ Rn 188 36 L (vI (σ o 13) :: st) T σ K := R_getI (idx := 51) (ci := 9) (k := 13) (by decide +kernel) (by decide +kernel) (Or.inl rfl)
theorem s188_36 : Rn 188 36 [some (vR o), l1, l2, l3] st T σ K ↔ Rn 188 37 [some (vR o), l1, l2, l3] (vR o :: st) T σ K := R_aload_n (n := 0) (by decide +kernel) rfl
theorem s188_37 : Rn 188 37 L (vR o :: st) T σ K ↔ sx_kd T o = 9 ∧ Rn 188 40 L (vI (σ o 14) :: st) T σ K := R_getI (idx := 54) (ci := 9) (k := 14) (by decide +kernel) (by decide +kernel) (Or.inl rfl)
theorem s188_40 : Rn 188 40 L (vI b :: vI a :: st) T σ K ↔ inI (a - b) ∧ Rn 188 41 L (vI (a - b) :: st) T σ K := R_isub (by decide +kernel)
theorem s188_41 : Rn 188 41 L st T σ K ↔ Rn 188 43 L (vI 6 :: st) T σ K := R_bipush (n := 6) (by decide +kernel) (by decide +kernel)
theorem s188_43 : Rn 188 43 L (vI b :: vI a :: st) T σ K ↔ (a ≤ b → Rn 188 58 L st T σ K) ∧ (b < a → Rn 188 46 L st T σ K) := R_icmp_le (off := 15) (by decide +kernel) (by decide)
theorem s188_46 : Rn 188 46 [some (vR o), l1, l2, l3] st T σ K ↔ Rn 188 47 [some (vR o), l1, l2, l3] (vR o :: st) T σ K := R_aload_n (n := 0) (by decide +kernel) rfl
theorem s188_47 : Rn 188 47 L st T σ K ↔ Rn 188 48 L (vI 1 :: st) T σ K := R_iconst (n := 1) (by decide +kernel) (by decide)
theorem s188_48 : Rn 188 48 [some (vR o), l1, l2, l3] st T σ K ↔ Rn 188 49 [some (vR o), l1, l2, l3] (vR o :: st) T σ K := R_aload_n (n := 0) (by decide +kernel) rfl
theorem s188_49 : Rn 188 49 L (vR o :: st) T σ K ↔ sx_kd T o = 9 ∧ Rn 188 52 L (vI (σ o 14) :: st) T σ K := R_getI (idx := 54) (ci := 9) (k := 14) (by decide +kernel) (by decide +kernel) (Or.inl rfl)
theorem s188_52 : Rn 188 52 L st T σ K ↔ Rn 188 54 L (vI 6 :: st) T σ K := R_bipush (n := 6) (by decide +kernel) (by decide +kernel)
theorem s188_54 : Rn 188 54 L (vI b :: vI a :: st) T σ K ↔ inI (a + b) ∧ Rn 188 55 L (vI (a + b) :: st) T σ K := R_iadd (by decide +kernel)
theorem s188_55 : Rn 188 55 L (vI b :: vI a :: vR o :: st) T σ K ↔ (sx_kd T o = 9 ∧ st.length ≤ 4) ∧ Rn 183 0 [some (vR o), some (vI a), some (vI b)] [] T σ (fun r T' σ' => Rn 188 58 L (sx_push r st) T' σ' K) := R_V (cm := 183) (n := 2) (idx := 167) (ci := 9) (mx := 3) (vs := [vI a, vI b]) (by decide +kernel) (by decide +kernel) rfl (by decide +kernel) rfl (by decide +kernel) (by decide +kernel)
theorem s188_58 : Rn 188 58 L st T σ K ↔ Rn 188 59 L (vI 0 :: st) T σ K := R_iconst (n := 0) (by decide +kernel) (by decide)
theorem s188_59 : Rn 188 59 [l0, l1, l2, l3] (vI a :: st) T σ K ↔ Rn 188 60 [l0, some (vI a), l2, l3] st T σ K := R_istore_n (n := 1) (by decide +kernel) rfl
theorem s188_60 : Rn 188 60 [l0, some (vI a), l2, l3] st T σ K ↔ Rn 188 61 [l0, some (vI a), l2, l3] (vI a :: st) T σ K := R_iload_n (n := 1) (by decide +kernel) rfl
theorem s188_61 : Rn 188 61 [some (vR o), l1, l2, l3] st T σ K ↔ Rn 188 62 [some (vR o), l1, l2, l3] (vR o :: st) T σ K := R_aload_n (n := 0) (by decide +kernel) rfl
theorem s188_62 : Rn 188 62 L (vR o :: st) T σ K ↔ sx_kd T o = 9 ∧ Rn 188 65 L (vI (σ o 18) :: st) T σ K := R_getI (idx := 66) (ci := 9) (k := 18) (by decide +kernel) (by decide +kernel) (Or.inl rfl)
theorem s188_65 : Rn 188 65 L (vI b :: vI a :: st) T σ K ↔ (b ≤ a → Rn 188 139 L st T σ K) ∧ (a < b → Rn 188 68 L st T σ K) := R_icmp_ge (off := 74) (by decide +kernel) (by decide)
theorem s188_68 : Rn 188 68 [some (vR o), l1, l2, l3] st T σ K ↔ Rn 188 69 [some (vR o), l1, l2, l3] (vR o :: st) T σ K := R_aload_n (n := 0) (by decide +kernel) rfl
theorem s188_69 : Rn 188 69 L (vR o :: st) T σ K ↔ (sx_kd T o = 9 ∧ st.length ≤ 4) ∧ Rn 178 0 [some (vR o)] [] T σ (fun r T' σ' => Rn 188 72 L (sx_push r st) T' σ' K) := R_V (cm := 178) (n := 0) (idx := 153) (ci := 9) (mx := 1) (vs := []) (by decide +kernel) (by decide +kernel) rfl (by decide +kernel) rfl (by decide +kernel) (by decide +kernel)
theorem s188_72 : Rn 188 72 L (vI a :: st) T σ K ↔ (a = 0 → Rn 188 139 L st T σ K) ∧ (a ≠ 0 → Rn 188 75 L st T σ K) := R_if_eq (off := 67) (by decide +kernel) (by decide)
theorem s188_75 : Rn 188 75 L st T σ K ↔ Rn 188 76 L (vI 1 :: st) T σ K := R_iconst (n := 1) (by decide +kernel) (by decide)
theorem s188_76 : Rn 188 76 [l0, l1, l2, l3] (vI a :: st) T σ K ↔ Rn 188 77 [l0, l1, some (vI a), l3] st T σ K := R_istore_n (n := 2) (by decide +kernel) rfl
theorem s188_77 : Rn 188 77 L st T σ K ↔ Rn 188 78 L (vI 0 :: st) T σ K := R_iconst (n := 0) (by decide +kernel) (by decide)
theorem s188_78 : Rn 188 78 [l0, l1, l2, l3] (vI a :: st) T σ K ↔ Rn 188 79 [l0, l1, l2, some (vI a)] st T σ K := R_istore_n (n := 3) (by decide +kernel) rfl
theorem s188_79 : Rn 188 79 [l0, l1, l2, some (vI a)] st T σ K ↔ Rn 188 80 [l0, l1, l2, some (vI a)] (vI a :: st) T σ K := R_iload_n (n := 3) (by decide +kernel) rfl
theorem s188_80 : Rn 188 80 L st T σ K ↔ Rn 188 82 L (vI 6 :: st) T σ K := R_bipush (n := 6) (by decide +kernel) (by decide +kernel)
theorem s188_82 : Rn 188 82 L (vI b :: vI a :: st) T σ K ↔ (b ≤ a → Rn 188 120 L st T σ K) ∧ (a < b → Rn 188 85 L st T σ K) := R_icmp_ge (off := 38) (by decide +kernel) (by decide)
theorem s188_85 : Rn 188 85 [l0, l1, some (vI a), l3] st T σ K ↔ Rn 188 86 [l0, l1, some (vI a), l3] (vI a :: st) T σ K := R_iload_n (n := 2) (by decide +kernel) rfl
theorem s188_86 : Rn 188 86 L (vI a :: st) T σ K ↔ (a = 0 → Rn 188 112 L st T σ K) ∧ (a ≠ 0 → Rn 188 89 L st T σ K) := R_if_eq (off := 26) (by decide +kernel) (by decide)
theorem s188_89 : Rn 188 89 [some (vR o), l1, l2, l3] st T σ K ↔ Rn 188 90 [some (vR o), l1, l2, l3] (vR o :: st) T σ K := R_aload_n (n := 0) (by decide +kernel) rfl
theorem s188_90 : Rn 188 90 L (vR o :: st) T σ K ↔ sx_kd T o = 9 ∧ ∃ t, sx_rf T o 21 = some t ∧ Rn 188 93 L (vR t :: st) T σ K := R_getR (idx := 75) (ci := 9) (k := 21) (by decide +kernel) (by decide +kernel) rfl
theorem s188_93 : Rn 188 93 L st T σ K ↔ Rn 188 95 L (vI 6 :: st) T σ K := R_bipush (n := 6) (by decide +kernel) (by decide +kernel)
theorem s188_95 : Rn 188 95 [l0, some (vI a), l2, l3] st T σ K ↔ Rn 188 96 [l0, some (vI a), l2, l3] (vI a :: st) T σ K := R_iload_n (n := 1) (by decide +kernel) rfl
theorem s188_96 : Rn 188 96 L (vI b :: vI a :: st) T σ K ↔ inI (a * b) ∧ Rn 188 97 L (vI (a * b) :: st) T σ K := R_imul (by decide +kernel)
theorem s188_97 : Rn 188 97 [l0, l1, l2, some (vI a)] st T σ K ↔ Rn 188 98 [l0, l1, l2, some (vI a)] (vI a :: st) T σ K := R_iload_n (n := 3) (by decide +kernel) rfl
theorem s188_98 : Rn 188 98 L (vI b :: vI a :: st) T σ K ↔ inI (a + b) ∧ Rn 188 99 L (vI (a + b) :: st) T σ K := R_iadd (by decide +kernel)
theorem s188_99 : Rn 188 99 L (vI a :: vR o :: st) T σ K ↔ (sx_kd T o = 20 ∧ 0 ≤ a ∧ a < sx_ln T o) ∧ Rn 188 100 L (vI (σ o a) :: st) T σ K := R_iald (by decide +kernel) (by decide)
theorem s188_100 : Rn 188 100 [some (vR o), l1, l2, l3] st T σ K ↔ Rn 188 101 [some (vR o), l1, l2, l3] (vR o :: st) T σ K := R_aload_n (n := 0) (by decide +kernel) rfl
theorem s188_101 : Rn 188 101 [l0, l1, l2, some (vI a)] st T σ K ↔ Rn 188 102 [l0, l1, l2, some (vI a)] (vI a :: st) T σ K := R_iload_n (n := 3) (by decide +kernel) rfl
theorem s188_102 : Rn 188 102 L (vI a :: vR o :: st) T σ K ↔ (sx_kd T o = 9 ∧ st.length ≤ 4) ∧ Rn 189 0 [some (vR o), some (vI a)] [] T σ (fun r T' σ' => Rn 188 105 L (sx_push r st) T' σ' K) := R_V (cm := 189) (n := 1) (idx := 177) (ci := 9) (mx := 2) (vs := [vI a]) (by decide +kernel) (by decide +kernel) rfl (by decide +kernel) rfl (by decide +kernel) (by decide +kernel)
theorem s188_105 : Rn 188 105 L (vI b :: vI a :: st) T σ K ↔ (a ≠ b → Rn 188 112 L st T σ K) ∧ (a = b → Rn 188 108 L st T σ K) := R_icmp_ne (off := 7) (by decide +kernel) (by decide)
theorem s188_108 : Rn 188 108 L st T σ K ↔ Rn 188 109 L (vI 1 :: st) T σ K := R_iconst (n := 1) (by decide +kernel) (by decide)
theorem s188_109 : Rn 188 109 L st T σ K ↔ Rn 188 113 L st T σ K := R_goto (off := 4) (by decide +kernel) (by decide)
theorem s188_112 : Rn 188 112 L st T σ K ↔ Rn 188 113 L (vI 0 :: st) T σ K := R_iconst (n := 0) (by decide +kernel) (by decide)
theorem s188_113 : Rn 188 113 [l0, l1, l2, l3] (vI a :: st) T σ K ↔ Rn 188 114 [l0, l1, some (vI a), l3] st T σ K := R_istore_n (n := 2) (by decide +kernel) rfl
theorem s188_114 : Rn 188 114 [l0, l1, l2, some (vI a)] st T σ K ↔ inI (a + 1) ∧ Rn 188 117 [l0, l1, l2, some (vI (a + 1))] st T σ K := R_iinc (n := 3) (d := 1) (by decide +kernel) rfl
theorem s188_117 : Rn 188 117 L st T σ K ↔ Rn 188 79 L st T σ K := R_goto (off := -38) (by decide +kernel) (by decide)
theorem s188_120 : Rn 188 120 [l0, l1, some (vI a), l3] st T σ K ↔ Rn 188 121 [l0, l1, some (vI a), l3] (vI a :: st) T σ K := R_iload_n (n := 2) (by decide +kernel) rfl
theorem s188_121 : Rn 188 121 L (vI a :: st) T σ K ↔ (a = 0 → Rn 188 133 L st T σ K) ∧ (a ≠ 0 → Rn 188 124 L st T σ K) := R_if_eq (off := 12) (by decide +kernel) (by decide)
theorem s188_124 : Rn 188 124 [some (vR o), l1, l2, l3] st T σ K ↔ Rn 188 125 [some (vR o), l1, l2, l3] (vR o :: st) T σ K := R_aload_n (n := 0) (by decide +kernel) rfl
theorem s188_125 : Rn 188 125 L st T σ K ↔ Rn 188 126 L (vI 3 :: st) T σ K := R_iconst (n := 3) (by decide +kernel) (by decide)
theorem s188_126 : Rn 188 126 [some (vR o), l1, l2, l3] st T σ K ↔ Rn 188 127 [some (vR o), l1, l2, l3] (vR o :: st) T σ K := R_aload_n (n := 0) (by decide +kernel) rfl
theorem s188_127 : Rn 188 127 L (vR o :: st) T σ K ↔ sx_kd T o = 9 ∧ Rn 188 130 L (vI (σ o 14) :: st) T σ K := R_getI (idx := 54) (ci := 9) (k := 14) (by decide +kernel) (by decide +kernel) (Or.inl rfl)
theorem s188_130 : Rn 188 130 L (vI b :: vI a :: vR o :: st) T σ K ↔ (sx_kd T o = 9 ∧ st.length ≤ 4) ∧ Rn 183 0 [some (vR o), some (vI a), some (vI b)] [] T σ (fun r T' σ' => Rn 188 133 L (sx_push r st) T' σ' K) := R_V (cm := 183) (n := 2) (idx := 167) (ci := 9) (mx := 3) (vs := [vI a, vI b]) (by decide +kernel) (by decide +kernel) rfl (by decide +kernel) rfl (by decide +kernel) (by decide +kernel)
theorem s188_133 : Rn 188 133 [l0, some (vI a), l2, l3] st T σ K ↔ inI (a + 1) ∧ Rn 188 136 [l0, some (vI (a + 1)), l2, l3] st T σ K := R_iinc (n := 1) (d := 1) (by decide +kernel) rfl
theorem s188_136 : Rn 188 136 L st T σ K ↔ Rn 188 60 L st T σ K := R_goto (off := -76) (by decide +kernel) (by decide)
theorem s188_139 : Rn 188 139 L st T σ K ↔ Rn 188 140 L (vI 0 :: st) T σ K := R_iconst (n := 0) (by decide +kernel) (by decide)
theorem s188_140 : Rn 188 140 [l0, l1, l2, l3] (vI a :: st) T σ K ↔ Rn 188 141 [l0, some (vI a), l2, l3] st T σ K := R_istore_n (n := 1) (by decide +kernel) rfl
theorem s188_141 : Rn 188 141 [l0, some (vI a), l2, l3] st T σ K ↔ Rn 188 142 [l0, some (vI a), l2, l3] (vI a :: st) T σ K := R_iload_n (n := 1) (by decide +kernel) rfl
theorem s188_142 : Rn 188 142 L st T σ K ↔ Rn 188 144 L (vI 6 :: st) T σ K := R_bipush (n := 6) (by decide +kernel) (by decide +kernel)
theorem s188_144 : Rn 188 144 L (vI b :: vI a :: st) T σ K ↔ (b ≤ a → Rn 188 179 L st T σ K) ∧ (a < b → Rn 188 147 L st T σ K) := R_icmp_ge (off := 35) (by decide +kernel) (by decide)
theorem s188_147 : Rn 188 147 [some (vR o), l1, l2, l3] st T σ K ↔ Rn 188 148 [some (vR o), l1, l2, l3] (vR o :: st) T σ K := R_aload_n (n := 0) (by decide +kernel) rfl
theorem s188_148 : Rn 188 148 L (vR o :: st) T σ K ↔ (sx_kd T o = 9 ∧ st.length ≤ 4) ∧ Rn 178 0 [some (vR o)] [] T σ (fun r T' σ' => Rn 188 151 L (sx_push r st) T' σ' K) := R_V (cm := 178) (n := 0) (idx := 153) (ci := 9) (mx := 1) (vs := []) (by decide +kernel) (by decide +kernel) rfl (by decide +kernel) rfl (by decide +kernel) (by decide +kernel)
theorem s188_151 : Rn 188 151 L (vI a :: st) T σ K ↔ (a = 0 → Rn 188 179 L st T σ K) ∧ (a ≠ 0 → Rn 188 154 L st T σ K) := R_if_eq (off := 28) (by decide +kernel) (by decide)
theorem s188_154 : Rn 188 154 [some (vR o), l1, l2, l3] st T σ K ↔ Rn 188 155 [some (vR o), l1, l2, l3] (vR o :: st) T σ K := R_aload_n (n := 0) (by decide +kernel) rfl
theorem s188_155 : Rn 188 155 L (vR o :: st) T σ K ↔ sx_kd T o = 9 ∧ ∃ t, sx_rf T o 21 = some t ∧ Rn 188 158 L (vR t :: st) T σ K := R_getR (idx := 75) (ci := 9) (k := 21) (by decide +kernel) (by decide +kernel) rfl
theorem s188_158 : Rn 188 158 L st T σ K ↔ Rn 188 160 L (vI 6 :: st) T σ K := R_bipush (n := 6) (by decide +kernel) (by decide +kernel)
theorem s188_160 : Rn 188 160 [some (vR o), l1, l2, l3] st T σ K ↔ Rn 188 161 [some (vR o), l1, l2, l3] (vR o :: st) T σ K := R_aload_n (n := 0) (by decide +kernel) rfl
theorem s188_161 : Rn 188 161 L (vR o :: st) T σ K ↔ sx_kd T o = 9 ∧ Rn 188 164 L (vI (σ o 18) :: st) T σ K := R_getI (idx := 66) (ci := 9) (k := 18) (by decide +kernel) (by decide +kernel) (Or.inl rfl)
theorem s188_164 : Rn 188 164 L (vI b :: vI a :: st) T σ K ↔ inI (a * b) ∧ Rn 188 165 L (vI (a * b) :: st) T σ K := R_imul (by decide +kernel)
theorem s188_165 : Rn 188 165 [l0, some (vI a), l2, l3] st T σ K ↔ Rn 188 166 [l0, some (vI a), l2, l3] (vI a :: st) T σ K := R_iload_n (n := 1) (by decide +kernel) rfl
theorem s188_166 : Rn 188 166 L (vI b :: vI a :: st) T σ K ↔ inI (a + b) ∧ Rn 188 167 L (vI (a + b) :: st) T σ K := R_iadd (by decide +kernel)
theorem s188_167 : Rn 188 167 [some (vR o), l1, l2, l3] st T σ K ↔ Rn 188 168 [some (vR o), l1, l2, l3] (vR o :: st) T σ K := R_aload_n (n := 0) (by decide +kernel) rfl
theorem s188_168 : Rn 188 168 [l0, some (vI a), l2, l3] st T σ K ↔ Rn 188 169 [l0, some (vI a), l2, l3] (vI a :: st) T σ K := R_iload_n (n := 1) (by decide +kernel) rfl
theorem s188_169 : Rn 188 169 L (vI a :: vR o :: st) T σ K ↔ (sx_kd T o = 9 ∧ st.length ≤ 4) ∧ Rn 189 0 [some (vR o), some (vI a)] [] T σ (fun r T' σ' => Rn 188 172 L (sx_push r st) T' σ' K) := R_V (cm := 189) (n := 1) (idx := 177) (ci := 9) (mx := 2) (vs := [vI a]) (by decide +kernel) (by decide +kernel) rfl (by decide +kernel) rfl (by decide +kernel) (by decide +kernel)
theorem s188_172 : Rn 188 172 L (vI b :: vI a :: vR o :: st) T σ K ↔ (sx_kd T o = 20 ∧ 0 ≤ a ∧ a < sx_ln T o) ∧ Rn 188 173 L st T (sx_up σ o a b) K := R_iast (by decide +kernel)
theorem s188_173 : Rn 188 173 [l0, some (vI a), l2, l3] st T σ K ↔ inI (a + 1) ∧ Rn 188 176 [l0, some (vI (a + 1)), l2, l3] st T σ K := R_iinc (n := 1) (d := 1) (by decide +kernel) rfl
theorem s188_176 : Rn 188 176 L st T σ K ↔ Rn 188 141 L st T σ K := R_goto (off := -35) (by decide +kernel) (by decide)
theorem s188_179 : Rn 188 179 L [] T σ K ↔ K none T σ := R_retV (by decide +kernel) (by decide +kernel)
theorem s189_0 : Rn 189 0 [some (vR o), l1] st T σ K ↔ Rn 189 1 [some (vR o), l1] (vR o :: st) T σ K := R_aload_n (n := 0) (by decide +kernel) rfl
theorem s189_1 : Rn 189 1 L (vR o :: st) T σ K ↔ sx_kd T o = 9 ∧ Rn 189 4 L (vI (σ o 14) :: st) T σ K := R_getI (idx := 54) (ci := 9) (k := 14) (by decide +kernel) (by decide +kernel) (Or.inl rfl)
theorem s189_4 : Rn 189 4 [l0, some (vI a)] st T σ K ↔ Rn 189 5 [l0, some (vI a)] (vI a :: st) T σ K := R_iload_n (n := 1) (by decide +kernel) rfl
theorem s189_5 : Rn 189 5 L (vI b :: vI a :: st) T σ K ↔ inI (a + b) ∧ Rn 189 6 L (vI (a + b) :: st) T σ K := R_iadd (by decide +kernel)
theorem s189_6 : Rn 189 6 [some (vR o), l1] st T σ K ↔ Rn 189 7 [some (vR o), l1] (vR o :: st) T σ K := R_aload_n (n := 0) (by decide +kernel) rfl
theorem s189_7 : Rn 189 7 L (vR o :: st) T σ K ↔ sx_kd T o = 9 ∧ Rn 189 10 L (vI (σ o 13) :: st) T σ K := R_getI (idx := 51) (ci := 9) (k := 13) (by decide +kernel) (by decide +kernel) (Or.inl rfl)
theorem s189_10 : Rn 189 10 L (vI b :: vI a :: st) T σ K ↔ (b ≤ a → Rn 189 30 L st T σ K) ∧ (a < b → Rn 189 13 L st T σ K) := R_icmp_ge (off := 20) (by decide +kernel) (by decide)
theorem s189_13 : Rn 189 13 [some (vR o), l1] st T σ K ↔ Rn 189 14 [some (vR o), l1] (vR o :: st) T σ K := R_aload_n (n := 0) (by decide +kernel) rfl
theorem s189_14 : Rn 189 14 L (vR o :: st) T σ K ↔ sx_kd T o = 9 ∧ ∃ t, sx_rf T o 7 = some t ∧ Rn 189 17 L (vR t :: st) T σ K := R_getR (idx := 33) (ci := 9) (k := 7) (by decide +kernel) (by decide +kernel) rfl
theorem s189_17 : Rn 189 17 [some (vR o), l1] st T σ K ↔ Rn 189 18 [some (vR o), l1] (vR o :: st) T σ K := R_aload_n (n := 0) (by decide +kernel) rfl
theorem s189_18 : Rn 189 18 L (vR o :: st) T σ K ↔ sx_kd T o = 9 ∧ Rn 189 21 L (vI (σ o 14) :: st) T σ K := R_getI (idx := 54) (ci := 9) (k := 14) (by decide +kernel) (by decide +kernel) (Or.inl rfl)
theorem s189_21 : Rn 189 21 [l0, some (vI a)] st T σ K ↔ Rn 189 22 [l0, some (vI a)] (vI a :: st) T σ K := R_iload_n (n := 1) (by decide +kernel) rfl
theorem s189_22 : Rn 189 22 L (vI b :: vI a :: st) T σ K ↔ inI (a + b) ∧ Rn 189 23 L (vI (a + b) :: st) T σ K := R_iadd (by decide +kernel)
theorem s189_23 : Rn 189 23 L (vI a :: vR o :: st) T σ K ↔ (sx_kd T o = 20 ∧ 0 ≤ a ∧ a < sx_ln T o) ∧ Rn 189 24 L (vI (σ o a) :: st) T σ K := R_iald (by decide +kernel) (by decide)
theorem s189_24 : Rn 189 24 L st T σ K ↔ Rn 189 26 L (vI 96 :: st) T σ K := R_bipush (n := 96) (by decide +kernel) (by decide +kernel)
theorem s189_26 : Rn 189 26 L (vI b :: vI a :: st) T σ K ↔ inI (a - b) ∧ Rn 189 27 L (vI (a - b) :: st) T σ K := R_isub (by decide +kernel)
theorem s189_27 : Rn 189 27 L st T σ K ↔ Rn 189 31 L st T σ K := R_goto (off := 4) (by decide +kernel) (by decide)
theorem s189_30 : Rn 189 30 L st T σ K ↔ Rn 189 31 L (vI 0 :: st) T σ K := R_iconst (n := 0) (by decide +kernel) (by decide)
theorem s189_31 : Rn 189 31 L [vI a] T σ K ↔ K (some (vI a)) T σ := R_ret (by decide +kernel) (by decide +kernel)
theorem s190_0 : Rn 190 0 [some (vR o), l1] st T σ K ↔ Rn 190 1 [some (vR o), l1] (vR o :: st) T σ K := R_aload_n (n := 0) (by decide +kernel) rfl
theorem s190_1 : Rn 190 1 L (vR o :: st) T σ K ↔ (sx_kd T o = 9 ∧ st.length ≤ 4) ∧ Rn 178 0 [some (vR o)] [] T σ (fun r T' σ' => Rn 190 4 L (sx_push r st) T' σ' K) := R_V (cm := 178) (n := 0) (idx := 153) (ci := 9) (mx := 1) (vs := []) (by decide +kernel) (by decide +kernel) rfl (by decide +kernel) rfl (by decide +kernel) (by decide +kernel)
theorem s190_4 : Rn 190 4 L (vI a :: st) T σ K ↔ (a ≠ 0 → Rn 190 9 L st T σ K) ∧ (a = 0 → Rn 190 7 L st T σ K) := R_if_ne (off := 5) (by decide +kernel) (by decide)
theorem s190_7 : Rn 190 7 L st T σ K ↔ Rn 190 8 L (vI 0 :: st) T σ K := R_iconst (n := 0) (by decide +kernel) (by decide)
theorem s190_8 : Rn 190 8 L [vI a] T σ K ↔ K (some (vI a)) T σ := R_ret (by decide +kernel) (by decide +kernel)
theorem s190_9 : Rn 190 9 [some (vR o), l1] st T σ K ↔ Rn 190 10 [some (vR o), l1] (vR o :: st) T σ K := R_aload_n (n := 0) (by decide +kernel) rfl
theorem s190_10 : Rn 190 10 L (vR o :: st) T σ K ↔ (sx_kd T o = 9 ∧ st.length ≤ 4) ∧ Rn 179 0 [some (vR o)] [] T σ (fun r T' σ' => Rn 190 13 L (sx_push r st) T' σ' K) := R_V (cm := 179) (n := 0) (idx := 157) (ci := 9) (mx := 1) (vs := []) (by decide +kernel) (by decide +kernel) rfl (by decide +kernel) rfl (by decide +kernel) (by decide +kernel)
theorem s190_13 : Rn 190 13 L (vI a :: st) T σ K ↔ Rn 190 14 L st T σ K := R_pop (v := vI a) (by decide +kernel) rfl
theorem s190_14 : Rn 190 14 [some (vR o), l1] st T σ K ↔ Rn 190 15 [some (vR o), l1] (vR o :: st) T σ K := R_aload_n (n := 0) (by decide +kernel) rfl
theorem s190_15 : Rn 190 15 [some (vR o), l1] st T σ K ↔ Rn 190 16 [some (vR o), l1] (vR o :: st) T σ K := R_aload_n (n := 0) (by decide +kernel) rfl
theorem s190_16 : Rn 190 16 L (vR o :: st) T σ K ↔ sx_kd T o = 9 ∧ Rn 190 19 L (vI (σ o 13) :: st) T σ K := R_getI (idx := 51) (ci := 9) (k := 13) (by decide +kernel) (by decide +kernel) (Or.inl rfl)
theorem s190_19 : Rn 190 19 L (vI a :: vR o :: st) T σ K ↔ sx_kd T o = 9 ∧ Rn 190 22 L st T (sx_up σ o 14 a) K := R_putI (idx := 54) (ci := 9) (k := 14) (by decide +kernel) (by decide +kernel) rfl rfl
theorem s190_22 : Rn 190 22 [some (vR o), l1] st T σ K ↔ Rn 190 23 [some (vR o), l1] (vR o :: st) T σ K := R_aload_n (n := 0) (by decide +kernel) rfl
theorem s190_23 : Rn 190 23 [some (vR o), l1] st T σ K ↔ Rn 190 24 [some (vR o), l1] (vR o :: st) T σ K := R_aload_n (n := 0) (by decide +kernel) rfl
theorem s190_24 : Rn 190 24 L (vR o :: st) T σ K ↔ sx_kd T o = 9 ∧ Rn 190 27 L (vI (σ o 13) :: st) T σ K := R_getI (idx := 51) (ci := 9) (k := 13) (by decide +kernel) (by decide +kernel) (Or.inl rfl)
theorem s190_27 : Rn 190 27 L (vI a :: vR o :: st) T σ K ↔ (sx_kd T o = 9 ∧ st.length ≤ 4) ∧ Rn 182 0 [some (vR o), some (vI a)] [] T σ (fun r T' σ' => Rn 190 30 L (sx_push r st) T' σ' K) := R_V (cm := 182) (n := 1) (idx := 164) (ci := 9) (mx := 2) (vs := [vI a]) (by decide +kernel) (by decide +kernel) rfl (by decide +kernel) rfl (by decide +kernel) (by decide +kernel)
theorem s190_30 : Rn 190 30 L (vI a :: st) T σ K ↔ (a = 0 → Rn 190 59 L st T σ K) ∧ (a ≠ 0 → Rn 190 33 L st T σ K) := R_if_eq (off := 29) (by decide +kernel) (by decide)
theorem s190_33 : Rn 190 33 [some (vR o), l1] st T σ K ↔ Rn 190 34 [some (vR o), l1] (vR o :: st) T σ K := R_aload_n (n := 0) (by decide +kernel) rfl
theorem s190_34 : Rn 190 34 [some (vR o), l1] st T σ K ↔ Rn 190 35 [some (vR o), l1] (vR o :: st) T σ K := R_aload_n (n := 0) (by decide +kernel) rfl
theorem s190_35 : Rn 190 35 L (vR o :: st) T σ K ↔ sx_kd T o = 9 ∧ Rn 190 38 L (vI (σ o 13) :: st) T σ K := R_getI (idx := 51) (ci := 9) (k := 13) (by decide +kernel) (by decide +kernel) (Or.inl rfl)
theorem s190_38 : Rn 190 38 L st T σ K ↔ Rn 190 39 L (vI 1 :: st) T σ K := R_iconst (n := 1) (by decide +kernel) (by decide)
theorem s190_39 : Rn 190 39 L (vI b :: vI a :: st) T σ K ↔ inI (a - b) ∧ Rn 190 40 L (vI (a - b) :: st) T σ K := R_isub (by decide +kernel)
theorem s190_40 : Rn 190 40 L (vI a :: vR o :: st) T σ K ↔ (sx_kd T o = 9 ∧ st.length ≤ 4) ∧ Rn 181 0 [some (vR o), some (vI a)] [] T σ (fun r T' σ' => Rn 190 43 L (sx_push r st) T' σ' K) := R_V (cm := 181) (n := 1) (idx := 161) (ci := 9) (mx := 2) (vs := [vI a]) (by decide +kernel) (by decide +kernel) rfl (by decide +kernel) rfl (by decide +kernel) (by decide +kernel)
theorem s190_43 : Rn 190 43 L (vI a :: st) T σ K ↔ (a ≠ 0 → Rn 190 59 L st T σ K) ∧ (a = 0 → Rn 190 46 L st T σ K) := R_if_ne (off := 16) (by decide +kernel) (by decide)
theorem s190_46 : Rn 190 46 [some (vR o), l1] st T σ K ↔ Rn 190 47 [some (vR o), l1] (vR o :: st) T σ K := R_aload_n (n := 0) (by decide +kernel) rfl
theorem s190_47 : Rn 190 47 [some (vR o), l1] st T σ K ↔ Rn 190 48 [some (vR o), l1] (vR o :: st) T σ K := R_aload_n (n := 0) (by decide +kernel) rfl
theorem s190_48 : Rn 190 48 L (vR o :: st) T σ K ↔ sx_kd T o = 9 ∧ Rn 190 51 L (vI (σ o 13) :: st) T σ K := R_getI (idx := 51) (ci := 9) (k := 13) (by decide +kernel) (by decide +kernel) (Or.inl rfl)
theorem s190_51 : Rn 190 51 L st T σ K ↔ Rn 190 52 L (vI 1 :: st) T σ K := R_iconst (n := 1) (by decide +kernel) (by decide)
theorem s190_52 : Rn 190 52 L (vI b :: vI a :: st) T σ K ↔ inI (a - b) ∧ Rn 190 53 L (vI (a - b) :: st) T σ K := R_isub (by decide +kernel)
theorem s190_53 : Rn 190 53 L (vI a :: vR o :: st) T σ K ↔ (sx_kd T o = 9 ∧ st.length ≤ 4) ∧ Rn 182 0 [some (vR o), some (vI a)] [] T σ (fun r T' σ' => Rn 190 56 L (sx_push r st) T' σ' K) := R_V (cm := 182) (n := 1) (idx := 164) (ci := 9) (mx := 2) (vs := [vI a]) (by decide +kernel) (by decide +kernel) rfl (by decide +kernel) rfl (by decide +kernel) (by decide +kernel)
theorem s190_56 : Rn 190 56 L (vI a :: st) T σ K ↔ (a = 0 → Rn 190 70 L st T σ K) ∧ (a ≠ 0 → Rn 190 59 L st T σ K) := R_if_eq (off := 14) (by decide +kernel) (by decide)
theorem s190_59 : Rn 190 59 [some (vR o), l1] st T σ K ↔ Rn 190 60 [some (vR o), l1] (vR o :: st) T σ K := R_aload_n (n := 0) (by decide +kernel) rfl
theorem s190_60 : Rn 190 60 L st T σ K ↔ Rn 190 61 L (vI 1 :: st) T σ K := R_iconst (n := 1) (by decide +kernel) (by decide)
theorem s190_61 : Rn 190 61 [some (vR o), l1] st T σ K ↔ Rn 190 62 [some (vR o), l1] (vR o :: st) T σ K := R_aload_n (n := 0) (by decide +kernel) rfl
theorem s190_62 : Rn 190 62 L (vR o :: st) T σ K ↔ sx_kd T o = 9 ∧ Rn 190 65 L (vI (σ o 13) :: st) T σ K := R_getI (idx := 51) (ci := 9) (k := 13) (by decide +kernel) (by decide +kernel) (Or.inl rfl)
theorem s190_65 : Rn 190 65 L (vI b :: vI a :: vR o :: st) T σ K ↔ (sx_kd T o = 9 ∧ st.length ≤ 4) ∧ Rn 183 0 [some (vR o), some (vI a), some (vI b)] [] T σ (fun r T' σ' => Rn 190 68 L (sx_push r st) T' σ' K) := R_V (cm := 183) (n := 2) (idx := 167) (ci := 9) (mx := 3) (vs := [vI a, vI b]) (by decide +kernel) (by decide +kernel) rfl (by decide +kernel) rfl (by decide +kernel) (by decide +kernel)
theorem s190_68 : Rn 190 68 L st T σ K ↔ Rn 190 69 L (vI 0 :: st) T σ K := R_iconst (n := 0) (by decide +kernel) (by decide)
theorem s190_69 : Rn 190 69 L [vI a] T σ K ↔ K (some (vI a)) T σ := R_ret (by decide +kernel) (by decide +kernel)
theorem s190_70 : Rn 190 70 L st T σ K ↔ Rn 190 71 L (vI 0 :: st) T σ K := R_iconst (n := 0) (by decide +kernel) (by decide)
theorem s190_71 : Rn 190 71 [l0, l1] (vI a :: st) T σ K ↔ Rn 190 72 [l0, some (vI a)] st T σ K := R_istore_n (n := 1) (by decide +kernel) rfl
theorem s190_72 : Rn 190 72 [some (vR o), l1] st T σ K ↔ Rn 190 73 [some (vR o), l1] (vR o :: st) T σ K := R_aload_n (n := 0) (by decide +kernel) rfl
theorem s190_73 : Rn 190 73 [some (vR o), l1] st T σ K ↔ Rn 190 74 [some (vR o), l1] (vR o :: st) T σ K := R_aload_n (n := 0) (by decide +kernel) rfl
theorem s190_74 : Rn 190 74 L (vR o :: st) T σ K ↔ sx_kd T o = 9 ∧ Rn 190 77 L (vI (σ o 13) :: st) T σ K := R_getI (idx := 51) (ci := 9) (k := 13) (by decide +kernel) (by decide +kernel) (Or.inl rfl)
theorem s190_77 : Rn 190 77 L (vI a :: vR o :: st) T σ K ↔ (sx_kd T o = 9 ∧ st.length ≤ 4) ∧ Rn 182 0 [some (vR o), some (vI a)] [] T σ (fun r T' σ' => Rn 190 80 L (sx_push r st) T' σ' K) := R_V (cm := 182) (n := 1) (idx := 164) (ci := 9) (mx := 2) (vs := [vI a]) (by decide +kernel) (by decide +kernel) rfl (by decide +kernel) rfl (by decide +kernel) (by decide +kernel)
theorem s190_80 : Rn 190 80 L (vI a :: st) T σ K ↔ (a = 0 → Rn 190 142 L st T σ K) ∧ (a ≠ 0 → Rn 190 83 L st T σ K) := R_if_eq (off := 62) (by decide +kernel) (by decide)
theorem s190_83 : Rn 190 83 [some (vR o), l1] st T σ K ↔ Rn 190 84 [some (vR o), l1] (vR o :: st) T σ K := R_aload_n (n := 0) (by decide +kernel) rfl
theorem s190_84 : Rn 190 84 L (vR o :: st) T σ K ↔ (sx_kd T o = 9 ∧ st.length ≤ 4) ∧ Rn 178 0 [some (vR o)] [] T σ (fun r T' σ' => Rn 190 87 L (sx_push r st) T' σ' K) := R_V (cm := 178) (n := 0) (idx := 153) (ci := 9) (mx := 1) (vs := []) (by decide +kernel) (by decide +kernel) rfl (by decide +kernel) rfl (by decide +kernel) (by decide +kernel)
theorem s190_87 : Rn 190 87 L (vI a :: st) T σ K ↔ (a = 0 → Rn 190 142 L st T σ K) ∧ (a ≠ 0 → Rn 190 90 L st T σ K) := R_if_eq (off := 55) (by decide +kernel) (by decide)
theorem s190_90 : Rn 190 90 [some (vR o), l1] st T σ K ↔ Rn 190 91 [some (vR o), l1] (vR o :: st) T σ K := R_aload_n (n := 0) (by decide +kernel) rfl
theorem s190_91 : Rn 190 91 L (vR o :: st) T σ K ↔ sx_kd T o = 9 ∧ Rn 190 94 L (vI (σ o 13) :: st) T σ K := R_getI (idx := 51) (ci := 9) (k := 13) (by decide +kernel) (by decide +kernel) (Or.inl rfl)
theorem s190_94 : Rn 190 94 [some (vR o), l1] st T σ K ↔ Rn 190 95 [some (vR o), l1] (vR o :: st) T σ K := R_aload_n (n := 0) (by decide +kernel) rfl
theorem s190_95 : Rn 190 95 L (vR o :: st) T σ K ↔ sx_kd T o = 9 ∧ Rn 190 98 L (vI (σ o 14) :: st) T σ K := R_getI (idx := 54) (ci := 9) (k := 14) (by decide +kernel) (by decide +kernel) (Or.inl rfl)
theorem s190_98 : Rn 190 98 L (vI b :: vI a :: st) T σ K ↔ inI (a - b) ∧ Rn 190 99 L (vI (a - b) :: st) T σ K := R_isub (by decide +kernel)
theorem s190_99 : Rn 190 99 L st T σ K ↔ Rn 190 100 L (vI 3 :: st) T σ K := R_iconst (n := 3) (by decide +kernel) (by decide)
theorem s190_100 : Rn 190 100 L (vI b :: vI a :: st) T σ K ↔ (a ≠ b → Rn 190 112 L st T σ K) ∧ (a = b → Rn 190 103 L st T σ K) := R_icmp_ne (off := 12) (by decide +kernel) (by decide)
theorem s190_103 : Rn 190 103 [some (vR o), l1] st T σ K ↔ Rn 190 104 [some (vR o), l1] (vR o :: st) T σ K := R_aload_n (n := 0) (by decide +kernel) rfl
theorem s190_104 : Rn 190 104 L st T σ K ↔ Rn 190 105 L (vI 1 :: st) T σ K := R_iconst (n := 1) (by decide +kernel) (by decide)
theorem s190_105 : Rn 190 105 [some (vR o), l1] st T σ K ↔ Rn 190 106 [some (vR o), l1] (vR o :: st) T σ K := R_aload_n (n := 0) (by decide +kernel) rfl
theorem s190_106 : Rn 190 106 L (vR o :: st) T σ K ↔ sx_kd T o = 9 ∧ Rn 190 109 L (vI (σ o 13) :: st) T σ K := R_getI (idx := 51) (ci := 9) (k := 13) (by decide +kernel) (by decide +kernel) (Or.inl rfl)
theorem s190_109 : Rn 190 109 L (vI b :: vI a :: vR o :: st) T σ K ↔ (sx_kd T o = 9 ∧ st.length ≤ 4) ∧ Rn 183 0 [some (vR o), some (vI a), some (vI b)] [] T σ (fun r T' σ' => Rn 190 112 L (sx_push r st) T' σ' K) := R_V (cm := 183) (n := 2) (idx := 167) (ci := 9) (mx := 3) (vs := [vI a, vI b]) (by decide +kernel) (by decide +kernel) rfl (by decide +kernel) rfl (by decide +kernel) (by decide +kernel)
theorem s190_112 : Rn 190 112 L st T σ K ↔ Rn 190 114 L (vI 10 :: st) T σ K := R_bipush (n := 10) (by decide +kernel) (by decide +kernel)
theorem s190_114 : Rn 190 114 [l0, some (vI a)] st T σ K ↔ Rn 190 115 [l0, some (vI a)] (vI a :: st) T σ K := R_iload_n (n := 1) (by decide +kernel) rfl
theorem s190_115 : Rn 190 115 L (vI b :: vI a :: st) T σ K ↔ inI (a * b) ∧ Rn 190 116 L (vI (a * b) :: st) T σ K := R_imul (by decide +kernel)
theorem s190_116 : Rn 190 116 [some (vR o), l1] st T σ K ↔ Rn 190 117 [some (vR o), l1] (vR o :: st) T σ K := R_aload_n (n := 0) (by decide +kernel) rfl
theorem s190_117 : Rn 190 117 [some (vR o), l1] st T σ K ↔ Rn 190 118 [some (vR o), l1] (vR o :: st) T σ K := R_aload_n (n := 0) (by decide +kernel) rfl
theorem s190_118 : Rn 190 118 L (vR o :: st) T σ K ↔ sx_kd T o = 9 ∧ Rn 190 121 L (vI (σ o 13) :: st) T σ K := R_getI (idx := 51) (ci := 9) (k := 13) (by decide +kernel) (by decide +kernel) (Or.inl rfl)
theorem s190_121 : Rn 190 121 L (vI a :: vR o :: st) T σ K ↔ (sx_kd T o = 9 ∧ st.length ≤ 4) ∧ Rn 180 0 [some (vR o), some (vI a)] [] T σ (fun r T' σ' => Rn 190 124 L (sx_push r st) T' σ' K) := R_V (cm := 180) (n := 1) (idx := 150) (ci := 9) (mx := 2) (vs := [vI a]) (by decide +kernel) (by decide +kernel) rfl (by decide +kernel) rfl (by decide +kernel) (by decide +kernel)
theorem s190_124 : Rn 190 124 L (vI b :: vI a :: st) T σ K ↔ inI (a + b) ∧ Rn 190 125 L (vI (a + b) :: st) T σ K := R_iadd (by decide +kernel)
theorem s190_125 : Rn 190 125 L st T σ K ↔ Rn 190 127 L (vI 48 :: st) T σ K := R_bipush (n := 48) (by decide +kernel) (by decide +kernel)
theorem s190_127 : Rn 190 127 L (vI b :: vI a :: st) T σ K ↔ inI (a - b) ∧ Rn 190 128 L (vI (a - b) :: st) T σ K := R_isub (by decide +kernel)
theorem s190_128 : Rn 190 128 [l0, l1] (vI a :: st) T σ K ↔ Rn 190 129 [l0, some (vI a)] st T σ K := R_istore_n (n := 1) (by decide +kernel) rfl
theorem s190_129 : Rn 190 129 [some (vR o), l1] st T σ K ↔ Rn 190 130 [some (vR o), l1] (vR o :: st) T σ K := R_aload_n (n := 0) (by decide +kernel) rfl
theorem s190_130 : Rn 190 130 L (vR o :: st) T σ K ↔ Rn 190 131 L (vR o :: vR o :: st) T σ K := R_dup (v := vR o) (by decide +kernel) rfl
theorem s190_131 : Rn 190 131 L (vR o :: st) T σ K ↔ sx_kd T o = 9 ∧ Rn 190 134 L (vI (σ o 13) :: st) T σ K := R_getI (idx := 51) (ci := 9) (k := 13) (by decide +kernel) (by decide +kernel) (Or.inl rfl)
theorem s190_134 : Rn 190 134 L st T σ K ↔ Rn 190 135 L (vI 1 :: st) T σ K := R_iconst (n := 1) (by decide +kernel) (by decide)
theorem s190_135 : Rn 190 135 L (vI b :: vI a :: st) T σ K ↔ inI (a + b) ∧ Rn 190 136 L (vI (a + b) :: st) T σ K := R_iadd (by decide +kernel)
theorem s190_136 : Rn 190 136 L (vI a :: vR o :: st) T σ K ↔ sx_kd T o = 9 ∧ Rn 190 139 L st T (sx_up σ o 13 a) K := R_putI (idx := 51) (ci := 9) (k := 13) (by decide +kernel) (by decide +kernel) rfl rfl
theorem s190_139 : Rn 190 139 L st T σ K ↔ Rn 190 72 L st T σ K := R_goto (off := -67) (by decide +kernel) (by decide)
theorem s190_142 : Rn 190 142 [l0, some (vI a)] st T σ K ↔ Rn 190 143 [l0, some (vI a)] (vI a :: st) T σ K := R_iload_n (n := 1) (by decide +kernel) rfl
theorem s190_143 : Rn 190 143 L st T σ K ↔ Rn 190 146 L (vI 255 :: st) T σ K := R_sipush (n := 255) (by decide +kernel) (by decide +kernel)
theorem s190_146 : Rn 190 146 L (vI b :: vI a :: st) T σ K ↔ (a ≤ b → Rn 190 158 L st T σ K) ∧ (b < a → Rn 190 149 L st T σ K) := R_icmp_le (off := 12) (by decide +kernel) (by decide)
theorem s190_149 : Rn 190 149 [some (vR o), l1] st T σ K ↔ Rn 190 150 [some (vR o), l1] (vR o :: st) T σ K := R_aload_n (n := 0) (by decide +kernel) rfl
theorem s190_150 : Rn 190 150 L st T σ K ↔ Rn 190 151 L (vI 2 :: st) T σ K := R_iconst (n := 2) (by decide +kernel) (by decide)
theorem s190_151 : Rn 190 151 [some (vR o), l1] st T σ K ↔ Rn 190 152 [some (vR o), l1] (vR o :: st) T σ K := R_aload_n (n := 0) (by decide +kernel) rfl
theorem s190_152 : Rn 190 152 L (vR o :: st) T σ K ↔ sx_kd T o = 9 ∧ Rn 190 155 L (vI (σ o 14) :: st) T σ K := R_getI (idx := 54) (ci := 9) (k := 14) (by decide +kernel) (by decide +kernel) (Or.inl rfl)
theorem s190_155 : Rn 190 155 L (vI b :: vI a :: vR o :: st) T σ K ↔ (sx_kd T o = 9 ∧ st.length ≤ 4) ∧ Rn 183 0 [some (vR o), some (vI a), some (vI b)] [] T σ (fun r T' σ' => Rn 190 158 L (sx_push r st) T' σ' K) := R_V (cm := 183) (n := 2) (idx := 167) (ci := 9) (mx := 3) (vs := [vI a, vI b]) (by decide +kernel) (by decide +kernel) rfl (by decide +kernel) rfl (by decide +kernel) (by decide +kernel)
theorem s190_158 : Rn 190 158 [l0, some (vI a)] st T σ K ↔ Rn 190 159 [l0, some (vI a)] (vI a :: st) T σ K := R_iload_n (n := 1) (by decide +kernel) rfl
theorem s190_159 : Rn 190 159 L [vI a] T σ K ↔ K (some (vI a)) T σ := R_ret (by decide +kernel) (by decide +kernel)
theorem s191_0 : Rn 191 0 [some (vR o), l1, l2, l3, l4, l5, l6] st T σ K ↔ Rn 191 1 [some (vR o), l1, l2, l3, l4, l5, l6] (vR o :: st) T σ K := R_aload_n (n := 0) (by decide +kernel) rfl
theorem s191_1 : Rn 191 1 [l0, l1, some (vI a), l3, l4, l5, l6] st T σ K ↔ Rn 191 2 [l0, l1, some (vI a), l3, l4, l5, l6] (vI a :: st) T σ K := R_iload_n (n := 2) (by decide +kernel) rfl
theorem s191_2 : Rn 191 2 [l0, l1, l2, some (vI a), l4, l5, l6] st T σ K ↔ Rn 191 3 [l0, l1, l2, some (vI a), l4, l5, l6] (vI a :: st) T σ K := R_iload_n (n := 3) (by decide +kernel) rfl
theorem s191_3 : Rn 191 3 [l0, l1, l2, l3, some (vI a), l5, l6] st T σ K ↔ Rn 191 5 [l0, l1, l2, l3, some (vI a), l5, l6] (vI a :: st) T σ K := R_iload (n := 4) (by decide +kernel) rfl
theorem s191_5 : Rn 191 5 L (vI c :: vI b :: vI a :: vR o :: st) T σ K ↔ (sx_kd T o = 9 ∧ st.length ≤ 4) ∧ Rn 192 0 [some (vR o), some (vI a), some (vI b), some (vI c), none, none] [] T σ (fun r T' σ' => Rn 191 8 L (sx_push r st) T' σ' K) := R_V (cm := 192) (n := 3) (idx := 234) (ci := 9) (mx := 6) (vs := [vI a, vI b, vI c]) (by decide +kernel) (by decide +kernel) rfl (by decide +kernel) rfl (by decide +kernel) (by decide +kernel)
theorem s191_8 : Rn 191 8 [l0, l1, l2, l3, l4, l5, l6] (vI a :: st) T σ K ↔ Rn 191 10 [l0, l1, l2, l3, l4, some (vI a), l6] st T σ K := R_istore (n := 5) (by decide +kernel) rfl
theorem s191_10 : Rn 191 10 [l0, l1, l2, l3, l4, some (vI a), l6] st T σ K ↔ Rn 191 12 [l0, l1, l2, l3, l4, some (vI a), l6] (vI a :: st) T σ K := R_iload (n := 5) (by decide +kernel) rfl
theorem s191_12 : Rn 191 12 L st T σ K ↔ Rn 191 14 L (vI 10 :: st) T σ K := R_bipush (n := 10) (by decide +kernel) (by decide +kernel)
theorem s191_14 : Rn 191 14 L (vI b :: vI a :: st) T σ K ↔ (a ≠ b → Rn 191 21 L st T σ K) ∧ (a = b → Rn 191 17 L st T σ K) := R_icmp_ne (off := 7) (by decide +kernel) (by decide)
theorem s191_17 : Rn 191 17 L st T σ K ↔ Rn 191 18 L (vI (-1) :: st) T σ K := R_iconst (n := -1) (by decide +kernel) (by decide)
theorem s191_18 : Rn 191 18 L st T σ K ↔ Rn 191 33 L st T σ K := R_goto (off := 15) (by decide +kernel) (by decide)
theorem s191_21 : Rn 191 21 [some (vR o), l1, l2, l3, l4, l5, l6] st T σ K ↔ Rn 191 22 [some (vR o), l1, l2, l3, l4, l5, l6] (vR o :: st) T σ K := R_aload_n (n := 0) (by decide +kernel) rfl
theorem s191_22 : Rn 191 22 [l0, l1, l2, l3, l4, some (vI a), l6] st T σ K ↔ Rn 191 24 [l0, l1, l2, l3, l4, some (vI a), l6] (vI a :: st) T σ K := R_iload (n := 5) (by decide +kernel) rfl
theorem s191_24 : Rn 191 24 L st T σ K ↔ Rn 191 25 L (vI 1 :: st) T σ K := R_iconst (n := 1) (by decide +kernel) (by decide)
theorem s191_25 : Rn 191 25 L (vI b :: vI a :: st) T σ K ↔ inI (a + b) ∧ Rn 191 26 L (vI (a + b) :: st) T σ K := R_iadd (by decide +kernel)
theorem s191_26 : Rn 191 26 [l0, l1, some (vI a), l3, l4, l5, l6] st T σ K ↔ Rn 191 27 [l0, l1, some (vI a), l3, l4, l5, l6] (vI a :: st) T σ K := R_iload_n (n := 2) (by decide +kernel) rfl
theorem s191_27 : Rn 191 27 [l0, l1, l2, some (vI a), l4, l5, l6] st T σ K ↔ Rn 191 28 [l0, l1, l2, some (vI a), l4, l5, l6] (vI a :: st) T σ K := R_iload_n (n := 3) (by decide +kernel) rfl
theorem s191_28 : Rn 191 28 [l0, l1, l2, l3, some (vI a), l5, l6] st T σ K ↔ Rn 191 30 [l0, l1, l2, l3, some (vI a), l5, l6] (vI a :: st) T σ K := R_iload (n := 4) (by decide +kernel) rfl
theorem s191_30 : Rn 191 30 L (vI d :: vI c :: vI b :: vI a :: vR o :: st) T σ K ↔ (sx_kd T o = 9 ∧ st.length ≤ 4) ∧ Rn 193 0 [some (vR o), some (vI a), some (vI b), some (vI c), some (vI d), none, none] [] T σ (fun r T' σ' => Rn 191 33 L (sx_push r st) T' σ' K) := R_V (cm := 193) (n := 4) (idx := 231) (ci := 9) (mx := 7) (vs := [vI a, vI b, vI c, vI d]) (by decide +kernel) (by decide +kernel) rfl (by decide +kernel) rfl (by decide +kernel) (by decide +kernel)
theorem s191_33 : Rn 191 33 [l0, l1, l2, l3, l4, l5, l6] (vI a :: st) T σ K ↔ Rn 191 35 [l0, l1, l2, l3, l4, l5, some (vI a)] st T σ K := R_istore (n := 6) (by decide +kernel) rfl
theorem s191_35 : Rn 191 35 [some (vR o), l1, l2, l3, l4, l5, l6] st T σ K ↔ Rn 191 36 [some (vR o), l1, l2, l3, l4, l5, l6] (vR o :: st) T σ K := R_aload_n (n := 0) (by decide +kernel) rfl
theorem s191_36 : Rn 191 36 L (vR o :: st) T σ K ↔ sx_kd T o = 9 ∧ ∃ t, sx_rf T o 0 = some t ∧ Rn 191 39 L (vR t :: st) T σ K := R_getR (idx := 7) (ci := 9) (k := 0) (by decide +kernel) (by decide +kernel) rfl
theorem s191_39 : Rn 191 39 L st T σ K ↔ Rn 191 40 L (vI 0 :: st) T σ K := R_iconst (n := 0) (by decide +kernel) (by decide)
theorem s191_40 : Rn 191 40 [l0, some (vI a), l2, l3, l4, l5, l6] st T σ K ↔ Rn 191 41 [l0, some (vI a), l2, l3, l4, l5, l6] (vI a :: st) T σ K := R_iload_n (n := 1) (by decide +kernel) rfl
theorem s191_41 : Rn 191 41 L (vI b :: vI a :: st) T σ K ↔ inI (a + b) ∧ Rn 191 42 L (vI (a + b) :: st) T σ K := R_iadd (by decide +kernel)
theorem s191_42 : Rn 191 42 L st T σ K ↔ Rn 191 43 L (vI 1 :: st) T σ K := R_iconst (n := 1) (by decide +kernel) (by decide)
theorem s191_43 : Rn 191 43 L (vI b :: vI a :: vR o :: st) T σ K ↔ (sx_kd T o = 20 ∧ 0 ≤ a ∧ a < sx_ln T o) ∧ Rn 191 44 L st T (sx_up σ o a b) K := R_iast (by decide +kernel)
theorem s191_44 : Rn 191 44 [some (vR o), l1, l2, l3, l4, l5, l6] st T σ K ↔ Rn 191 45 [some (vR o), l1, l2, l3, l4, l5, l6] (vR o :: st) T σ K := R_aload_n (n := 0) (by decide +kernel) rfl
theorem s191_45 : Rn 191 45 L (vR o :: st) T σ K ↔ sx_kd T o = 9 ∧ ∃ t, sx_rf T o 0 = some t ∧ Rn 191 48 L (vR t :: st) T σ K := R_getR (idx := 7) (ci := 9) (k := 0) (by decide +kernel) (by decide +kernel) rfl
theorem s191_48 : Rn 191 48 L st T σ K ↔ Rn 191 50 L (vI 40 :: st) T σ K := R_bipush (n := 40) (by decide +kernel) (by decide +kernel)
theorem s191_50 : Rn 191 50 [l0, some (vI a), l2, l3, l4, l5, l6] st T σ K ↔ Rn 191 51 [l0, some (vI a), l2, l3, l4, l5, l6] (vI a :: st) T σ K := R_iload_n (n := 1) (by decide +kernel) rfl
theorem s191_51 : Rn 191 51 L (vI b :: vI a :: st) T σ K ↔ inI (a + b) ∧ Rn 191 52 L (vI (a + b) :: st) T σ K := R_iadd (by decide +kernel)
theorem s191_52 : Rn 191 52 [l0, l1, some (vI a), l3, l4, l5, l6] st T σ K ↔ Rn 191 53 [l0, l1, some (vI a), l3, l4, l5, l6] (vI a :: st) T σ K := R_iload_n (n := 2) (by decide +kernel) rfl
theorem s191_53 : Rn 191 53 L (vI b :: vI a :: vR o :: st) T σ K ↔ (sx_kd T o = 20 ∧ 0 ≤ a ∧ a < sx_ln T o) ∧ Rn 191 54 L st T (sx_up σ o a b) K := R_iast (by decide +kernel)
theorem s191_54 : Rn 191 54 [some (vR o), l1, l2, l3, l4, l5, l6] st T σ K ↔ Rn 191 55 [some (vR o), l1, l2, l3, l4, l5, l6] (vR o :: st) T σ K := R_aload_n (n := 0) (by decide +kernel) rfl
theorem s191_55 : Rn 191 55 L (vR o :: st) T σ K ↔ sx_kd T o = 9 ∧ ∃ t, sx_rf T o 0 = some t ∧ Rn 191 58 L (vR t :: st) T σ K := R_getR (idx := 7) (ci := 9) (k := 0) (by decide +kernel) (by decide +kernel) rfl
theorem s191_58 : Rn 191 58 L st T σ K ↔ Rn 191 60 L (vI 80 :: st) T σ K := R_bipush (n := 80) (by decide +kernel) (by decide +kernel)
theorem s191_60 : Rn 191 60 [l0, some (vI a), l2, l3, l4, l5, l6] st T σ K ↔ Rn 191 61 [l0, some (vI a), l2, l3, l4, l5, l6] (vI a :: st) T σ K := R_iload_n (n := 1) (by decide +kernel) rfl
theorem s191_61 : Rn 191 61 L (vI b :: vI a :: st) T σ K ↔ inI (a + b) ∧ Rn 191 62 L (vI (a + b) :: st) T σ K := R_iadd (by decide +kernel)
theorem s191_62 : Rn 191 62 [l0, l1, l2, some (vI a), l4, l5, l6] st T σ K ↔ Rn 191 63 [l0, l1, l2, some (vI a), l4, l5, l6] (vI a :: st) T σ K := R_iload_n (n := 3) (by decide +kernel) rfl
theorem s191_63 : Rn 191 63 L (vI b :: vI a :: vR o :: st) T σ K ↔ (sx_kd T o = 20 ∧ 0 ≤ a ∧ a < sx_ln T o) ∧ Rn 191 64 L st T (sx_up σ o a b) K := R_iast (by decide +kernel)
theorem s191_64 : Rn 191 64 [some (vR o), l1, l2, l3, l4, l5, l6] st T σ K ↔ Rn 191 65 [some (vR o), l1, l2, l3, l4, l5, l6] (vR o :: st) T σ K := R_aload_n (n := 0) (by decide +kernel) rfl
theorem s191_65 : Rn 191 65 L (vR o :: st) T σ K ↔ sx_kd T o = 9 ∧ ∃ t, sx_rf T o 0 = some t ∧ Rn 191 68 L (vR t :: st) T σ K := R_getR (idx := 7) (ci := 9) (k := 0) (by decide +kernel) (by decide +kernel) rfl
theorem s191_68 : Rn 191 68 L st T σ K ↔ Rn 191 70 L (vI 120 :: st) T σ K := R_bipush (n := 120) (by decide +kernel) (by decide +kernel)
theorem s191_70 : Rn 191 70 [l0, some (vI a), l2, l3, l4, l5, l6] st T σ K ↔ Rn 191 71 [l0, some (vI a), l2, l3, l4, l5, l6] (vI a :: st) T σ K := R_iload_n (n := 1) (by decide +kernel) rfl
theorem s191_71 : Rn 191 71 L (vI b :: vI a :: st) T σ K ↔ inI (a + b) ∧ Rn 191 72 L (vI (a + b) :: st) T σ K := R_iadd (by decide +kernel)
theorem s191_72 : Rn 191 72 [l0, l1, l2, l3, some (vI a), l5, l6] st T σ K ↔ Rn 191 74 [l0, l1, l2, l3, some (vI a), l5, l6] (vI a :: st) T σ K := R_iload (n := 4) (by decide +kernel) rfl
theorem s191_74 : Rn 191 74 L (vI b :: vI a :: vR o :: st) T σ K ↔ (sx_kd T o = 20 ∧ 0 ≤ a ∧ a < sx_ln T o) ∧ Rn 191 75 L st T (sx_up σ o a b) K := R_iast (by decide +kernel)
theorem s191_75 : Rn 191 75 [some (vR o), l1, l2, l3, l4, l5, l6] st T σ K ↔ Rn 191 76 [some (vR o), l1, l2, l3, l4, l5, l6] (vR o :: st) T σ K := R_aload_n (n := 0) (by decide +kernel) rfl
theorem s191_76 : Rn 191 76 L (vR o :: st) T σ K ↔ sx_kd T o = 9 ∧ ∃ t, sx_rf T o 0 = some t ∧ Rn 191 79 L (vR t :: st) T σ K := R_getR (idx := 7) (ci := 9) (k := 0) (by decide +kernel) (by decide +kernel) rfl
theorem s191_79 : Rn 191 79 L st T σ K ↔ Rn 191 82 L (vI 160 :: st) T σ K := R_sipush (n := 160) (by decide +kernel) (by decide +kernel)
theorem s191_82 : Rn 191 82 [l0, some (vI a), l2, l3, l4, l5, l6] st T σ K ↔ Rn 191 83 [l0, some (vI a), l2, l3, l4, l5, l6] (vI a :: st) T σ K := R_iload_n (n := 1) (by decide +kernel) rfl
theorem s191_83 : Rn 191 83 L (vI b :: vI a :: st) T σ K ↔ inI (a + b) ∧ Rn 191 84 L (vI (a + b) :: st) T σ K := R_iadd (by decide +kernel)
theorem s191_84 : Rn 191 84 [l0, l1, l2, l3, l4, some (vI a), l6] st T σ K ↔ Rn 191 86 [l0, l1, l2, l3, l4, some (vI a), l6] (vI a :: st) T σ K := R_iload (n := 5) (by decide +kernel) rfl
theorem s191_86 : Rn 191 86 L (vI b :: vI a :: vR o :: st) T σ K ↔ (sx_kd T o = 20 ∧ 0 ≤ a ∧ a < sx_ln T o) ∧ Rn 191 87 L st T (sx_up σ o a b) K := R_iast (by decide +kernel)
theorem s191_87 : Rn 191 87 [some (vR o), l1, l2, l3, l4, l5, l6] st T σ K ↔ Rn 191 88 [some (vR o), l1, l2, l3, l4, l5, l6] (vR o :: st) T σ K := R_aload_n (n := 0) (by decide +kernel) rfl
theorem s191_88 : Rn 191 88 L (vR o :: st) T σ K ↔ sx_kd T o = 9 ∧ ∃ t, sx_rf T o 0 = some t ∧ Rn 191 91 L (vR t :: st) T σ K := R_getR (idx := 7) (ci := 9) (k := 0) (by decide +kernel) (by decide +kernel) rfl
theorem s191_91 : Rn 191 91 L st T σ K ↔ Rn 191 94 L (vI 200 :: st) T σ K := R_sipush (n := 200) (by decide +kernel) (by decide +kernel)
theorem s191_94 : Rn 191 94 [l0, some (vI a), l2, l3, l4, l5, l6] st T σ K ↔ Rn 191 95 [l0, some (vI a), l2, l3, l4, l5, l6] (vI a :: st) T σ K := R_iload_n (n := 1) (by decide +kernel) rfl
theorem s191_95 : Rn 191 95 L (vI b :: vI a :: st) T σ K ↔ inI (a + b) ∧ Rn 191 96 L (vI (a + b) :: st) T σ K := R_iadd (by decide +kernel)
theorem s191_96 : Rn 191 96 [l0, l1, l2, l3, l4, l5, some (vI a)] st T σ K ↔ Rn 191 98 [l0, l1, l2, l3, l4, l5, some (vI a)] (vI a :: st) T σ K := R_iload (n := 6) (by decide +kernel) rfl
theorem s191_98 : Rn 191 98 L (vI b :: vI a :: vR o :: st) T σ K ↔ (sx_kd T o = 20 ∧ 0 ≤ a ∧ a < sx_ln T o) ∧ Rn 191 99 L st T (sx_up σ o a b) K := R_iast (by decide +kernel)
theorem s191_99 : Rn 191 99 L [] T σ K ↔ K none T σ := R_retV (by decide +kernel) (by decide +kernel)
theorem s192_0 : Rn 192 0 L st T σ K ↔ Rn 192 1 L (vI 1 :: st) T σ K := R_iconst (n := 1) (by decide +kernel) (by decide)
theorem s192_1 : Rn 192 1 [l0, l1, l2, l3, l4, l5] (vI a :: st) T σ K ↔ Rn 192 3 [l0, l1, l2, l3, some (vI a), l5] st T σ K := R_istore (n := 4) (by decide +kernel) rfl
theorem s192_3 : Rn 192 3 [l0, l1, l2, l3, some (vI a), l5] st T σ K ↔ Rn 192 5 [l0, l1, l2, l3, some (vI a), l5] (vI a :: st) T σ K := R_iload (n := 4) (by decide +kernel) rfl
theorem s192_5 : Rn 192 5 L st T σ K ↔ Rn 192 7 L (vI 10 :: st) T σ K := R_bipush (n := 10) (by decide +kernel) (by decide +kernel)
theorem s192_7 : Rn 192 7 L (vI b :: vI a :: st) T σ K ↔ (b < a → Rn 192 54 L st T σ K) ∧ (a ≤ b → Rn 192 10 L st T σ K) := R_icmp_gt (off := 47) (by decide +kernel) (by decide)
theorem s192_10 : Rn 192 10 [some (vR o), l1, l2, l3, l4, l5] st T σ K ↔ Rn 192 11 [some (vR o), l1, l2, l3, l4, l5] (vR o :: st) T σ K := R_aload_n (n := 0) (by decide +kernel) rfl
theorem s192_11 : Rn 192 11 [l0, l1, l2, l3, some (vI a), l5] st T σ K ↔ Rn 192 13 [l0, l1, l2, l3, some (vI a), l5] (vI a :: st) T σ K := R_iload (n := 4) (by decide +kernel) rfl
theorem s192_13 : Rn 192 13 [l0, some (vI a), l2, l3, l4, l5] st T σ K ↔ Rn 192 14 [l0, some (vI a), l2, l3, l4, l5] (vI a :: st) T σ K := R_iload_n (n := 1) (by decide +kernel) rfl
theorem s192_14 : Rn 192 14 [l0, l1, some (vI a), l3, l4, l5] st T σ K ↔ Rn 192 15 [l0, l1, some (vI a), l3, l4, l5] (vI a :: st) T σ K := R_iload_n (n := 2) (by decide +kernel) rfl
theorem s192_15 : Rn 192 15 [l0, l1, l2, some (vI a), l4, l5] st T σ K ↔ Rn 192 16 [l0, l1, l2, some (vI a), l4, l5] (vI a :: st) T σ K := R_iload_n (n := 3) (by decide +kernel) rfl
theorem s192_16 : Rn 192 16 L (vI d :: vI c :: vI b :: vI a :: vR o :: st) T σ K ↔ (sx_kd T o = 9 ∧ st.length ≤ 4) ∧ Rn 193 0 [some (vR o), some (vI a), some (vI b), some (vI c), some (vI d), none, none] [] T σ (fun r T' σ' => Rn 192 19 L (sx_push r st) T' σ' K) := R_V (cm := 193) (n := 4) (idx := 231) (ci := 9) (mx := 7) (vs := [vI a, vI b, vI c, vI d]) (by decide +kernel) (by decide +kernel) rfl (by decide +kernel) rfl (by decide +kernel) (by decide +kernel)
theorem s192_19 : Rn 192 19 [l0, l1, l2, l3, l4, l5] (vI a :: st) T σ K ↔ Rn 192 21 [l0, l1, l2, l3, l4, some (vI a)] st T σ K := R_istore (n := 5) (by decide +kernel) rfl
theorem s192_21 : Rn 192 21 [l0, l1, l2, l3, l4, some (vI a)] st T σ K ↔ Rn 192 23 [l0, l1, l2, l3, l4, some (vI a)] (vI a :: st) T σ K := R_iload (n := 5) (by decide +kernel) rfl
theorem s192_23 : Rn 192 23 L st T σ K ↔ Rn 192 24 L (vI (-1) :: st) T σ K := R_iconst (n := -1) (by decide +kernel) (by decide)
theorem s192_24 : Rn 192 24 L (vI b :: vI a :: st) T σ K ↔ (a = b → Rn 192 48 L st T σ K) ∧ (a ≠ b → Rn 192 27 L st T σ K) := R_icmp_eq (off := 24) (by decide +kernel) (by decide)
theorem s192_27 : Rn 192 27 [some (vR o), l1, l2, l3, l4, l5] st T σ K ↔ Rn 192 28 [some (vR o), l1, l2, l3, l4, l5] (vR o :: st) T σ K := R_aload_n (n := 0) (by decide +kernel) rfl
theorem s192_28 : Rn 192 28 [l0, l1, l2, l3, l4, some (vI a)] st T σ K ↔ Rn 192 30 [l0, l1, l2, l3, l4, some (vI a)] (vI a :: st) T σ K := R_iload (n := 5) (by decide +kernel) rfl
theorem s192_30 : Rn 192 30 [l0, some (vI a), l2, l3, l4, l5] st T σ K ↔ Rn 192 31 [l0, some (vI a), l2, l3, l4, l5] (vI a :: st) T σ K := R_iload_n (n := 1) (by decide +kernel) rfl
theorem s192_31 : Rn 192 31 [l0, l1, some (vI a), l3, l4, l5] st T σ K ↔ Rn 192 32 [l0, l1, some (vI a), l3, l4, l5] (vI a :: st) T σ K := R_iload_n (n := 2) (by decide +kernel) rfl
theorem s192_32 : Rn 192 32 [l0, l1, l2, some (vI a), l4, l5] st T σ K ↔ Rn 192 33 [l0, l1, l2, some (vI a), l4, l5] (vI a :: st) T σ K := R_iload_n (n := 3) (by decide +kernel) rfl
theorem s192_33 : Rn 192 33 L (vI d :: vI c :: vI b :: vI a :: vR o :: st) T σ K ↔ (sx_kd T o = 9 ∧ st.length ≤ 4) ∧ Rn 195 0 [some (vR o), some (vI a), some (vI b), some (vI c), some (vI d)] [] T σ (fun r T' σ' => Rn 192 36 L (sx_push r st) T' σ' K) := R_V (cm := 195) (n := 4) (idx := 223) (ci := 9) (mx := 5) (vs := [vI a, vI b, vI c, vI d]) (by decide +kernel) (by decide +kernel) rfl (by decide +kernel) rfl (by decide +kernel) (by decide +kernel)
theorem s192_36 : Rn 192 36 L st T σ K ↔ Rn 192 37 L (vI 1 :: st) T σ K := R_iconst (n := 1) (by decide +kernel) (by decide)
theorem s192_37 : Rn 192 37 [l0, l1, l2, l3, some (vI a), l5] st T σ K ↔ Rn 192 39 [l0, l1, l2, l3, some (vI a), l5] (vI a :: st) T σ K := R_iload (n := 4) (by decide +kernel) rfl
theorem s192_39 : Rn 192 39 L (vI b :: vI a :: st) T σ K ↔ (0 ≤ b ∧ b ≤ 31) ∧ inI (a * 2 ^ b.toNat) ∧ Rn 192 40 L (vI (a * 2 ^ b.toNat) :: st) T σ K := R_ishl (by decide +kernel)
theorem s192_40 : Rn 192 40 L (vI b :: vI a :: st) T σ K ↔ (b ≤ a → Rn 192 48 L st T σ K) ∧ (a < b → Rn 192 43 L st T σ K) := R_icmp_ge (off := 8) (by decide +kernel) (by decide)
theorem s192_43 : Rn 192 43 [l0, l1, l2, l3, some (vI a), l5] st T σ K ↔ Rn 192 45 [l0, l1, l2, l3, some (vI a), l5] (vI a :: st) T σ K := R_iload (n := 4) (by decide +kernel) rfl
theorem s192_45 : Rn 192 45 L st T σ K ↔ Rn 192 46 L (vI 1 :: st) T σ K := R_iconst (n := 1) (by decide +kernel) (by decide)
theorem s192_46 : Rn 192 46 L (vI b :: vI a :: st) T σ K ↔ inI (a - b) ∧ Rn 192 47 L (vI (a - b) :: st) T σ K := R_isub (by decide +kernel)
theorem s192_47 : Rn 192 47 L [vI a] T σ K ↔ K (some (vI a)) T σ := R_ret (by decide +kernel) (by decide +kernel)
theorem s192_48 : Rn 192 48 [l0, l1, l2, l3, some (vI a), l5] st T σ K ↔ inI (a + 1) ∧ Rn 192 51 [l0, l1, l2, l3, some (vI (a + 1)), l5] st T σ K := R_iinc (n := 4) (d := 1) (by decide +kernel) rfl
theorem s192_51 : Rn 192 51 L st T σ K ↔ Rn 192 3 L st T σ K := R_goto (off := -48) (by decide +kernel) (by decide)
theorem s192_54 : Rn 192 54 L st T σ K ↔ Rn 192 56 L (vI 10 :: st) T σ K := R_bipush (n := 10) (by decide +kernel) (by decide +kernel)
theorem s192_56 : Rn 192 56 L [vI a] T σ K ↔ K (some (vI a)) T σ := R_ret (by decide +kernel) (by decide +kernel)
theorem s193_0 : Rn 193 0 L st T σ K ↔ Rn 193 1 L (vI (-1) :: st) T σ K := R_iconst (n := -1) (by decide +kernel) (by decide)
theorem s193_1 : Rn 193 1 [l0, l1, l2, l3, l4, l5, l6] (vI a :: st) T σ K ↔ Rn 193 3 [l0, l1, l2, l3, l4, some (vI a), l6] st T σ K := R_istore (n := 5) (by decide +kernel) rfl
theorem s193_3 : Rn 193 3 L st T σ K ↔ Rn 193 4 L (vI 0 :: st) T σ K := R_iconst (n := 0) (by decide +kernel) (by decide)
theorem s193_4 : Rn 193 4 [l0, l1, l2, l3, l4, l5, l6] (vI a :: st) T σ K ↔ Rn 193 6 [l0, l1, l2, l3, l4, l5, some (vI a)] st T σ K := R_istore (n := 6) (by decide +kernel) rfl
theorem s193_6 : Rn 193 6 [l0, l1, l2, l3, l4, l5, some (vI a)] st T σ K ↔ Rn 193 8 [l0, l1, l2, l3, l4, l5, some (vI a)] (vI a :: st) T σ K := R_iload (n := 6) (by decide +kernel) rfl
theorem s193_8 : Rn 193 8 L st T σ K ↔ Rn 193 10 L (vI 40 :: st) T σ K := R_bipush (n := 40) (by decide +kernel) (by decide +kernel)
theorem s193_10 : Rn 193 10 L (vI b :: vI a :: st) T σ K ↔ (b ≤ a → Rn 193 62 L st T σ K) ∧ (a < b → Rn 193 13 L st T σ K) := R_icmp_ge (off := 52) (by decide +kernel) (by decide)
theorem s193_13 : Rn 193 13 [some (vR o), l1, l2, l3, l4, l5, l6] st T σ K ↔ Rn 193 14 [some (vR o), l1, l2, l3, l4, l5, l6] (vR o :: st) T σ K := R_aload_n (n := 0) (by decide +kernel) rfl
theorem s193_14 : Rn 193 14 [l0, l1, l2, l3, l4, l5, some (vI a)] st T σ K ↔ Rn 193 16 [l0, l1, l2, l3, l4, l5, some (vI a)] (vI a :: st) T σ K := R_iload (n := 6) (by decide +kernel) rfl
theorem s193_16 : Rn 193 16 [l0, some (vI a), l2, l3, l4, l5, l6] st T σ K ↔ Rn 193 17 [l0, some (vI a), l2, l3, l4, l5, l6] (vI a :: st) T σ K := R_iload_n (n := 1) (by decide +kernel) rfl
theorem s193_17 : Rn 193 17 L (vI b :: vI a :: vR o :: st) T σ K ↔ (sx_kd T o = 9 ∧ st.length ≤ 4) ∧ Rn 194 0 [some (vR o), some (vI a), some (vI b)] [] T σ (fun r T' σ' => Rn 193 20 L (sx_push r st) T' σ' K) := R_V (cm := 194) (n := 2) (idx := 227) (ci := 9) (mx := 3) (vs := [vI a, vI b]) (by decide +kernel) (by decide +kernel) rfl (by decide +kernel) rfl (by decide +kernel) (by decide +kernel)
theorem s193_20 : Rn 193 20 L (vI a :: st) T σ K ↔ (a = 0 → Rn 193 56 L st T σ K) ∧ (a ≠ 0 → Rn 193 23 L st T σ K) := R_if_eq (off := 36) (by decide +kernel) (by decide)
theorem s193_23 : Rn 193 23 [l0, l1, l2, l3, l4, some (vI a), l6] st T σ K ↔ Rn 193 25 [l0, l1, l2, l3, l4, some (vI a), l6] (vI a :: st) T σ K := R_iload (n := 5) (by decide +kernel) rfl
theorem s193_25 : Rn 193 25 L st T σ K ↔ Rn 193 26 L (vI (-1) :: st) T σ K := R_iconst (n := -1) (by decide +kernel) (by decide)
theorem s193_26 : Rn 193 26 L (vI b :: vI a :: st) T σ K ↔ (a = b → Rn 193 52 L st T σ K) ∧ (a ≠ b → Rn 193 29 L st T σ K) := R_icmp_eq (off := 26) (by decide +kernel) (by decide)
theorem s193_29 : Rn 193 29 [some (vR o), l1, l2, l3, l4, l5, l6] st T σ K ↔ Rn 193 30 [some (vR o), l1, l2, l3, l4, l5, l6] (vR o :: st) T σ K := R_aload_n (n := 0) (by decide +kernel) rfl
theorem s193_30 : Rn 193 30 [l0, l1, l2, l3, l4, l5, some (vI a)] st T σ K ↔ Rn 193 32 [l0, l1, l2, l3, l4, l5, some (vI a)] (vI a :: st) T σ K := R_iload (n := 6) (by decide +kernel) rfl
theorem s193_32 : Rn 193 32 [l0, l1, some (vI a), l3, l4, l5, l6] st T σ K ↔ Rn 193 33 [l0, l1, some (vI a), l3, l4, l5, l6] (vI a :: st) T σ K := R_iload_n (n := 2) (by decide +kernel) rfl
theorem s193_33 : Rn 193 33 [l0, l1, l2, some (vI a), l4, l5, l6] st T σ K ↔ Rn 193 34 [l0, l1, l2, some (vI a), l4, l5, l6] (vI a :: st) T σ K := R_iload_n (n := 3) (by decide +kernel) rfl
theorem s193_34 : Rn 193 34 [l0, l1, l2, l3, some (vI a), l5, l6] st T σ K ↔ Rn 193 36 [l0, l1, l2, l3, some (vI a), l5, l6] (vI a :: st) T σ K := R_iload (n := 4) (by decide +kernel) rfl
theorem s193_36 : Rn 193 36 L (vI d :: vI c :: vI b :: vI a :: vR o :: st) T σ K ↔ (sx_kd T o = 9 ∧ st.length ≤ 4) ∧ Rn 195 0 [some (vR o), some (vI a), some (vI b), some (vI c), some (vI d)] [] T σ (fun r T' σ' => Rn 193 39 L (sx_push r st) T' σ' K) := R_V (cm := 195) (n := 4) (idx := 223) (ci := 9) (mx := 5) (vs := [vI a, vI b, vI c, vI d]) (by decide +kernel) (by decide +kernel) rfl (by decide +kernel) rfl (by decide +kernel) (by decide +kernel)
theorem s193_39 : Rn 193 39 [some (vR o), l1, l2, l3, l4, l5, l6] st T σ K ↔ Rn 193 40 [some (vR o), l1, l2, l3, l4, l5, l6] (vR o :: st) T σ K := R_aload_n (n := 0) (by decide +kernel) rfl
theorem s193_40 : Rn 193 40 [l0, l1, l2, l3, l4, some (vI a), l6] st T σ K ↔ Rn 193 42 [l0, l1, l2, l3, l4, some (vI a), l6] (vI a :: st) T σ K := R_iload (n := 5) (by decide +kernel) rfl
theorem s193_42 : Rn 193 42 [l0, l1, some (vI a), l3, l4, l5, l6] st T σ K ↔ Rn 193 43 [l0, l1, some (vI a), l3, l4, l5, l6] (vI a :: st) T σ K := R_iload_n (n := 2) (by decide +kernel) rfl
theorem s193_43 : Rn 193 43 [l0, l1, l2, some (vI a), l4, l5, l6] st T σ K ↔ Rn 193 44 [l0, l1, l2, some (vI a), l4, l5, l6] (vI a :: st) T σ K := R_iload_n (n := 3) (by decide +kernel) rfl
theorem s193_44 : Rn 193 44 [l0, l1, l2, l3, some (vI a), l5, l6] st T σ K ↔ Rn 193 46 [l0, l1, l2, l3, some (vI a), l5, l6] (vI a :: st) T σ K := R_iload (n := 4) (by decide +kernel) rfl
theorem s193_46 : Rn 193 46 L (vI d :: vI c :: vI b :: vI a :: vR o :: st) T σ K ↔ (sx_kd T o = 9 ∧ st.length ≤ 4) ∧ Rn 195 0 [some (vR o), some (vI a), some (vI b), some (vI c), some (vI d)] [] T σ (fun r T' σ' => Rn 193 49 L (sx_push r st) T' σ' K) := R_V (cm := 195) (n := 4) (idx := 223) (ci := 9) (mx := 5) (vs := [vI a, vI b, vI c, vI d]) (by decide +kernel) (by decide +kernel) rfl (by decide +kernel) rfl (by decide +kernel) (by decide +kernel)
theorem s193_49 : Rn 193 49 L (vI b :: vI a :: st) T σ K ↔ (b ≤ a → Rn 193 56 L st T σ K) ∧ (a < b → Rn 193 52 L st T σ K) := R_icmp_ge (off := 7) (by decide +kernel) (by decide)
theorem s193_52 : Rn 193 52 [l0, l1, l2, l3, l4, l5, some (vI a)] st T σ K ↔ Rn 193 54 [l0, l1, l2, l3, l4, l5, some (vI a)] (vI a :: st) T σ K := R_iload (n := 6) (by decide +kernel) rfl
theorem s193_54 : Rn 193 54 [l0, l1, l2, l3, l4, l5, l6] (vI a :: st) T σ K ↔ Rn 193 56 [l0, l1, l2, l3, l4, some (vI a), l6] st T σ K := R_istore (n := 5) (by decide +kernel) rfl
theorem s193_56 : Rn 193 56 [l0, l1, l2, l3, l4, l5, some (vI a)] st T σ K ↔ inI (a + 1) ∧ Rn 193 59 [l0, l1, l2, l3, l4, l5, some (vI (a + 1))] st T σ K := R_iinc (n := 6) (d := 1) (by decide +kernel) rfl
theorem s193_59 : Rn 193 59 L st T σ K ↔ Rn 193 6 L st T σ K := R_goto (off := -53) (by decide +kernel) (by decide)
theorem s193_62 : Rn 193 62 [l0, l1, l2, l3, l4, some (vI a), l6] st T σ K ↔ Rn 193 64 [l0, l1, l2, l3, l4, some (vI a), l6] (vI a :: st) T σ K := R_iload (n := 5) (by decide +kernel) rfl
theorem s193_64 : Rn 193 64 L [vI a] T σ K ↔ K (some (vI a)) T σ := R_ret (by decide +kernel) (by decide +kernel)
theorem s194_0 : Rn 194 0 [some (vR o), l1, l2] st T σ K ↔ Rn 194 1 [some (vR o), l1, l2] (vR o :: st) T σ K := R_aload_n (n := 0) (by decide +kernel) rfl
theorem s194_1 : Rn 194 1 L (vR o :: st) T σ K ↔ sx_kd T o = 9 ∧ ∃ t, sx_rf T o 0 = some t ∧ Rn 194 4 L (vR t :: st) T σ K := R_getR (idx := 7) (ci := 9) (k := 0) (by decide +kernel) (by decide +kernel) rfl
theorem s194_4 : Rn 194 4 L st T σ K ↔ Rn 194 5 L (vI 0 :: st) T σ K := R_iconst (n := 0) (by decide +kernel) (by decide)
theorem s194_5 : Rn 194 5 [l0, some (vI a), l2] st T σ K ↔ Rn 194 6 [l0, some (vI a), l2] (vI a :: st) T σ K := R_iload_n (n := 1) (by decide +kernel) rfl
theorem s194_6 : Rn 194 6 L (vI b :: vI a :: st) T σ K ↔ inI (a + b) ∧ Rn 194 7 L (vI (a + b) :: st) T σ K := R_iadd (by decide +kernel)
theorem s194_7 : Rn 194 7 L (vI a :: vR o :: st) T σ K ↔ (sx_kd T o = 20 ∧ 0 ≤ a ∧ a < sx_ln T o) ∧ Rn 194 8 L (vI (σ o a) :: st) T σ K := R_iald (by decide +kernel) (by decide)
theorem s194_8 : Rn 194 8 L st T σ K ↔ Rn 194 9 L (vI 1 :: st) T σ K := R_iconst (n := 1) (by decide +kernel) (by decide)
theorem s194_9 : Rn 194 9 L (vI b :: vI a :: st) T σ K ↔ (a ≠ b → Rn 194 30 L st T σ K) ∧ (a = b → Rn 194 12 L st T σ K) := R_icmp_ne (off := 21) (by decide +kernel) (by decide)
theorem s194_12 : Rn 194 12 [some (vR o), l1, l2] st T σ K ↔ Rn 194 13 [some (vR o), l1, l2] (vR o :: st) T σ K := R_aload_n (n := 0) (by decide +kernel) rfl
theorem s194_13 : Rn 194 13 L (vR o :: st) T σ K ↔ sx_kd T o = 9 ∧ ∃ t, sx_rf T o 0 = some t ∧ Rn 194 16 L (vR t :: st) T σ K := R_getR (idx := 7) (ci := 9) (k := 0) (by decide +kernel) (by decide +kernel) rfl
theorem s194_16 : Rn 194 16 L st T σ K ↔ Rn 194 19 L (vI 160 :: st) T σ K := R_sipush (n := 160) (by decide +kernel) (by decide +kernel)
theorem s194_19 : Rn 194 19 [l0, some (vI a), l2] st T σ K ↔ Rn 194 20 [l0, some (vI a), l2] (vI a :: st) T σ K := R_iload_n (n := 1) (by decide +kernel) rfl
theorem s194_20 : Rn 194 20 L (vI b :: vI a :: st) T σ K ↔ inI (a + b) ∧ Rn 194 21 L (vI (a + b) :: st) T σ K := R_iadd (by decide +kernel)
theorem s194_21 : Rn 194 21 L (vI a :: vR o :: st) T σ K ↔ (sx_kd T o = 20 ∧ 0 ≤ a ∧ a < sx_ln T o) ∧ Rn 194 22 L (vI (σ o a) :: st) T σ K := R_iald (by decide +kernel) (by decide)
theorem s194_22 : Rn 194 22 [l0, l1, some (vI a)] st T σ K ↔ Rn 194 23 [l0, l1, some (vI a)] (vI a :: st) T σ K := R_iload_n (n := 2) (by decide +kernel) rfl
theorem s194_23 : Rn 194 23 L (vI b :: vI a :: st) T σ K ↔ (a < b → Rn 194 30 L st T σ K) ∧ (b ≤ a → Rn 194 26 L st T σ K) := R_icmp_lt (off := 7) (by decide +kernel) (by decide)
theorem s194_26 : Rn 194 26 L st T σ K ↔ Rn 194 27 L (vI 1 :: st) T σ K := R_iconst (n := 1) (by decide +kernel) (by decide)
theorem s194_27 : Rn 194 27 L st T σ K ↔ Rn 194 31 L st T σ K := R_goto (off := 4) (by decide +kernel) (by decide)
theorem s194_30 : Rn 194 30 L st T σ K ↔ Rn 194 31 L (vI 0 :: st) T σ K := R_iconst (n := 0) (by decide +kernel) (by decide)
theorem s194_31 : Rn 194 31 L [vI a] T σ K ↔ (a = 0 ∨ a = 1) ∧ K (some (vI a)) T σ := R_retZ (by decide +kernel) (by decide +kernel)
theorem s195_0 : Rn 195 0 [some (vR o), l1, l2, l3, l4] st T σ K ↔ Rn 195 1 [some (vR o), l1, l2, l3, l4] (vR o :: st) T σ K := R_aload_n (n := 0) (by decide +kernel) rfl
theorem s195_1 : Rn 195 1 L (vR o :: st) T σ K ↔ sx_kd T o = 9 ∧ ∃ t, sx_rf T o 0 = some t ∧ Rn 195 4 L (vR t :: st) T σ K := R_getR (idx := 7) (ci := 9) (k := 0) (by decide +kernel) (by decide +kernel) rfl
theorem s195_4 : Rn 195 4 L st T σ K ↔ Rn 195 7 L (vI 480 :: st) T σ K := R_sipush (n := 480) (by decide +kernel) (by decide +kernel)
theorem s195_7 : Rn 195 7 L (vI a :: vR o :: st) T σ K ↔ (sx_kd T o = 20 ∧ 0 ≤ a ∧ a < sx_ln T o) ∧ Rn 195 8 L (vI (σ o a) :: st) T σ K := R_iald (by decide +kernel) (by decide)
theorem s195_8 : Rn 195 8 [some (vR o), l1, l2, l3, l4] st T σ K ↔ Rn 195 9 [some (vR o), l1, l2, l3, l4] (vR o :: st) T σ K := R_aload_n (n := 0) (by decide +kernel) rfl
theorem s195_9 : Rn 195 9 L (vR o :: st) T σ K ↔ sx_kd T o = 9 ∧ ∃ t, sx_rf T o 0 = some t ∧ Rn 195 12 L (vR t :: st) T σ K := R_getR (idx := 7) (ci := 9) (k := 0) (by decide +kernel) (by decide +kernel) rfl
theorem s195_12 : Rn 195 12 L st T σ K ↔ Rn 195 14 L (vI 40 :: st) T σ K := R_bipush (n := 40) (by decide +kernel) (by decide +kernel)
theorem s195_14 : Rn 195 14 [l0, some (vI a), l2, l3, l4] st T σ K ↔ Rn 195 15 [l0, some (vI a), l2, l3, l4] (vI a :: st) T σ K := R_iload_n (n := 1) (by decide +kernel) rfl
theorem s195_15 : Rn 195 15 L (vI b :: vI a :: st) T σ K ↔ inI (a + b) ∧ Rn 195 16 L (vI (a + b) :: st) T σ K := R_iadd (by decide +kernel)
theorem s195_16 : Rn 195 16 L (vI a :: vR o :: st) T σ K ↔ (sx_kd T o = 20 ∧ 0 ≤ a ∧ a < sx_ln T o) ∧ Rn 195 17 L (vI (σ o a) :: st) T σ K := R_iald (by decide +kernel) (by decide)
theorem s195_17 : Rn 195 17 [some (vR o), l1, l2, l3, l4] st T σ K ↔ Rn 195 18 [some (vR o), l1, l2, l3, l4] (vR o :: st) T σ K := R_aload_n (n := 0) (by decide +kernel) rfl
theorem s195_18 : Rn 195 18 L (vR o :: st) T σ K ↔ sx_kd T o = 9 ∧ ∃ t, sx_rf T o 0 = some t ∧ Rn 195 21 L (vR t :: st) T σ K := R_getR (idx := 7) (ci := 9) (k := 0) (by decide +kernel) (by decide +kernel) rfl
theorem s195_21 : Rn 195 21 L st T σ K ↔ Rn 195 23 L (vI 80 :: st) T σ K := R_bipush (n := 80) (by decide +kernel) (by decide +kernel)
theorem s195_23 : Rn 195 23 [l0, some (vI a), l2, l3, l4] st T σ K ↔ Rn 195 24 [l0, some (vI a), l2, l3, l4] (vI a :: st) T σ K := R_iload_n (n := 1) (by decide +kernel) rfl
theorem s195_24 : Rn 195 24 L (vI b :: vI a :: st) T σ K ↔ inI (a + b) ∧ Rn 195 25 L (vI (a + b) :: st) T σ K := R_iadd (by decide +kernel)
theorem s195_25 : Rn 195 25 L (vI a :: vR o :: st) T σ K ↔ (sx_kd T o = 20 ∧ 0 ≤ a ∧ a < sx_ln T o) ∧ Rn 195 26 L (vI (σ o a) :: st) T σ K := R_iald (by decide +kernel) (by decide)
theorem s195_26 : Rn 195 26 [some (vR o), l1, l2, l3, l4] st T σ K ↔ Rn 195 27 [some (vR o), l1, l2, l3, l4] (vR o :: st) T σ K := R_aload_n (n := 0) (by decide +kernel) rfl
theorem s195_27 : Rn 195 27 L (vR o :: st) T σ K ↔ sx_kd T o = 9 ∧ ∃ t, sx_rf T o 0 = some t ∧ Rn 195 30 L (vR t :: st) T σ K := R_getR (idx := 7) (ci := 9) (k := 0) (by decide +kernel) (by decide +kernel) rfl
theorem s195_30 : Rn 195 30 L st T σ K ↔ Rn 195 32 L (vI 120 :: st) T σ K := R_bipush (n := 120) (by decide +kernel) (by decide +kernel)
theorem s195_32 : Rn 195 32 [l0, some (vI a), l2, l3, l4] st T σ K ↔ Rn 195 33 [l0, some (vI a), l2, l3, l4] (vI a :: st) T σ K := R_iload_n (n := 1) (by decide +kernel) rfl
theorem s195_33 : Rn 195 33 L (vI b :: vI a :: st) T σ K ↔ inI (a + b) ∧ Rn 195 34 L (vI (a + b) :: st) T σ K := R_iadd (by decide +kernel)
theorem s195_34 : Rn 195 34 L (vI a :: vR o :: st) T σ K ↔ (sx_kd T o = 20 ∧ 0 ≤ a ∧ a < sx_ln T o) ∧ Rn 195 35 L (vI (σ o a) :: st) T σ K := R_iald (by decide +kernel) (by decide)
theorem s195_35 : Rn 195 35 [l0, l1, some (vI a), l3, l4] st T σ K ↔ Rn 195 36 [l0, l1, some (vI a), l3, l4] (vI a :: st) T σ K := R_iload_n (n := 2) (by decide +kernel) rfl
theorem s195_36 : Rn 195 36 [l0, l1, l2, some (vI a), l4] st T σ K ↔ Rn 195 37 [l0, l1, l2, some (vI a), l4] (vI a :: st) T σ K := R_iload_n (n := 3) (by decide +kernel) rfl
theorem s195_37 : Rn 195 37 [l0, l1, l2, l3, some (vI a)] st T σ K ↔ Rn 195 39 [l0, l1, l2, l3, some (vI a)] (vI a :: st) T σ K := R_iload (n := 4) (by decide +kernel) rfl
theorem s195_39 : Rn 195 39 L (vI g :: vI f :: vI e :: vI d :: vI c :: vI b :: vI a :: st) T σ K ↔ st.length ≤ 4 ∧ Rn 196 0 [some (vI a), some (vI b), some (vI c), some (vI d), some (vI e), some (vI f), some (vI g), none, none, none] [] T σ (fun r T' σ' => Rn 195 42 L (sx_push r st) T' σ' K) := R_S (cm := 196) (n := 7) (idx := 219) (mx := 10) (vs := [vI a, vI b, vI c, vI d, vI e, vI f, vI g]) (by decide +kernel) (Or.inl (by decide +kernel)) rfl (by decide +kernel) rfl (by decide +kernel)
theorem s195_42 : Rn 195 42 L [vI a] T σ K ↔ K (some (vI a)) T σ := R_ret (by decide +kernel) (by decide +kernel)
theorem s196_0 : Rn 196 0 [some (vI a), l1, l2, l3, l4, l5, l6, l7, l8, l9] st T σ K ↔ Rn 196 1 [some (vI a), l1, l2, l3, l4, l5, l6, l7, l8, l9] (vI a :: st) T σ K := R_iload_n (n := 0) (by decide +kernel) rfl
theorem s196_1 : Rn 196 1 L st T σ K ↔ Rn 196 2 L (vI 2 :: st) T σ K := R_iconst (n := 2) (by decide +kernel) (by decide)
theorem s196_2 : Rn 196 2 L (vI b :: vI a :: st) T σ K ↔ (a ≠ b → Rn 196 29 L st T σ K) ∧ (a = b → Rn 196 5 L st T σ K) := R_icmp_ne (off := 27) (by decide +kernel) (by decide)
theorem s196_5 : Rn 196 5 [l0, some (vI a), l2, l3, l4, l5, l6, l7, l8, l9] st T σ K ↔ Rn 196 6 [l0, some (vI a), l2, l3, l4, l5, l6, l7, l8, l9] (vI a :: st) T σ K := R_iload_n (n := 1) (by decide +kernel) rfl
theorem s196_6 : Rn 196 6 [l0, l1, l2, l3, some (vI a), l5, l6, l7, l8, l9] st T σ K ↔ Rn 196 8 [l0, l1, l2, l3, some (vI a), l5, l6, l7, l8, l9] (vI a :: st) T σ K := R_iload (n := 4) (by decide +kernel) rfl
theorem s196_8 : Rn 196 8 L (vI b :: vI a :: st) T σ K ↔ Rn 196 9 L (vI (sx_xor a b) :: st) T σ K := R_ixor (by decide +kernel)
theorem s196_9 : Rn 196 9 L (vI a :: st) T σ K ↔ st.length ≤ 4 ∧ Rn 197 0 [some (vI a), none, none] [] T σ (fun r T' σ' => Rn 196 12 L (sx_push r st) T' σ' K) := R_S (cm := 197) (n := 1) (idx := 209) (mx := 3) (vs := [vI a]) (by decide +kernel) (Or.inl (by decide +kernel)) rfl (by decide +kernel) rfl (by decide +kernel)
theorem s196_12 : Rn 196 12 [l0, l1, some (vI a), l3, l4, l5, l6, l7, l8, l9] st T σ K ↔ Rn 196 13 [l0, l1, some (vI a), l3, l4, l5, l6, l7, l8, l9] (vI a :: st) T σ K := R_iload_n (n := 2) (by decide +kernel) rfl
theorem s196_13 : Rn 196 13 [l0, l1, l2, l3, l4, some (vI a), l6, l7, l8, l9] st T σ K ↔ Rn 196 15 [l0, l1, l2, l3, l4, some (vI a), l6, l7, l8, l9] (vI a :: st) T σ K := R_iload (n := 5) (by decide +kernel) rfl
theorem s196_15 : Rn 196 15 L (vI b :: vI a :: st) T σ K ↔ Rn 196 16 L (vI (sx_xor a b) :: st) T σ K := R_ixor (by decide +kernel)
theorem s196_16 : Rn 196 16 L (vI a :: st) T σ K ↔ st.length ≤ 4 ∧ Rn 197 0 [some (vI a), none, none] [] T σ (fun r T' σ' => Rn 196 19 L (sx_push r st) T' σ' K) := R_S (cm := 197) (n := 1) (idx := 209) (mx := 3) (vs := [vI a]) (by decide +kernel) (Or.inl (by decide +kernel)) rfl (by decide +kernel) rfl (by decide +kernel)
theorem s196_19 : Rn 196 19 L (vI b :: vI a :: st) T σ K ↔ inI (a + b) ∧ Rn 196 20 L (vI (a + b) :: st) T σ K := R_iadd (by decide +kernel)
theorem s196_20 : Rn 196 20 [l0, l1, l2, some (vI a), l4, l5, l6, l7, l8, l9] st T σ K ↔ Rn 196 21 [l0, l1, l2, some (vI a), l4, l5, l6, l7, l8, l9] (vI a :: st) T σ K := R_iload_n (n := 3) (by decide +kernel) rfl
theorem s196_21 : Rn 196 21 [l0, l1, l2, l3, l4, l5, some (vI a), l7, l8, l9] st T σ K ↔ Rn 196 23 [l0, l1, l2, l3, l4, l5, some (vI a), l7, l8, l9] (vI a :: st) T σ K := R_iload (n := 6) (by decide +kernel) rfl
theorem s196_23 : Rn 196 23 L (vI b :: vI a :: st) T σ K ↔ Rn 196 24 L (vI (sx_xor a b) :: st) T σ K := R_ixor (by decide +kernel)
theorem s196_24 : Rn 196 24 L (vI a :: st) T σ K ↔ st.length ≤ 4 ∧ Rn 197 0 [some (vI a), none, none] [] T σ (fun r T' σ' => Rn 196 27 L (sx_push r st) T' σ' K) := R_S (cm := 197) (n := 1) (idx := 209) (mx := 3) (vs := [vI a]) (by decide +kernel) (Or.inl (by decide +kernel)) rfl (by decide +kernel) rfl (by decide +kernel)
theorem s196_27 : Rn 196 27 L (vI b :: vI a :: st) T σ K ↔ inI (a + b) ∧ Rn 196 28 L (vI (a + b) :: st) T σ K := R_iadd (by decide +kernel)
theorem s196_28 : Rn 196 28 L [vI a] T σ K ↔ K (some (vI a)) T σ := R_ret (by decide +kernel) (by decide +kernel)
theorem s196_29 : Rn 196 29 [l0, some (vI a), l2, l3, l4, l5, l6, l7, l8, l9] st T σ K ↔ Rn 196 30 [l0, some (vI a), l2, l3, l4, l5, l6, l7, l8, l9] (vI a :: st) T σ K := R_iload_n (n := 1) (by decide +kernel) rfl
theorem s196_30 : Rn 196 30 [l0, l1, l2, l3, some (vI a), l5, l6, l7, l8, l9] st T σ K ↔ Rn 196 32 [l0, l1, l2, l3, some (vI a), l5, l6, l7, l8, l9] (vI a :: st) T σ K := R_iload (n := 4) (by decide +kernel) rfl
theorem s196_32 : Rn 196 32 L (vI b :: vI a :: st) T σ K ↔ inI (a - b) ∧ Rn 196 33 L (vI (a - b) :: st) T σ K := R_isub (by decide +kernel)
theorem s196_33 : Rn 196 33 L (vI a :: st) T σ K ↔ st.length ≤ 4 ∧ Rn 198 0 [some (vI a)] [] T σ (fun r T' σ' => Rn 196 36 L (sx_push r st) T' σ' K) := R_S (cm := 198) (n := 1) (idx := 212) (mx := 1) (vs := [vI a]) (by decide +kernel) (Or.inl (by decide +kernel)) rfl (by decide +kernel) rfl (by decide +kernel)
theorem s196_36 : Rn 196 36 [l0, l1, l2, l3, l4, l5, l6, l7, l8, l9] (vI a :: st) T σ K ↔ Rn 196 38 [l0, l1, l2, l3, l4, l5, l6, some (vI a), l8, l9] st T σ K := R_istore (n := 7) (by decide +kernel) rfl
theorem s196_38 : Rn 196 38 [l0, l1, some (vI a), l3, l4, l5, l6, l7, l8, l9] st T σ K ↔ Rn 196 39 [l0, l1, some (vI a), l3, l4, l5, l6, l7, l8, l9] (vI a :: st) T σ K := R_iload_n (n := 2) (by decide +kernel) rfl
theorem s196_39 : Rn 196 39 [l0, l1, l2, l3, l4, some (vI a), l6, l7, l8, l9] st T σ K ↔ Rn 196 41 [l0, l1, l2, l3, l4, some (vI a), l6, l7, l8, l9] (vI a :: st) T σ K := R_iload (n := 5) (by decide +kernel) rfl
theorem s196_41 : Rn 196 41 L (vI b :: vI a :: st) T σ K ↔ inI (a - b) ∧ Rn 196 42 L (vI (a - b) :: st) T σ K := R_isub (by decide +kernel)
theorem s196_42 : Rn 196 42 L (vI a :: st) T σ K ↔ st.length ≤ 4 ∧ Rn 198 0 [some (vI a)] [] T σ (fun r T' σ' => Rn 196 45 L (sx_push r st) T' σ' K) := R_S (cm := 198) (n := 1) (idx := 212) (mx := 1) (vs := [vI a]) (by decide +kernel) (Or.inl (by decide +kernel)) rfl (by decide +kernel) rfl (by decide +kernel)
theorem s196_45 : Rn 196 45 [l0, l1, l2, l3, l4, l5, l6, l7, l8, l9] (vI a :: st) T σ K ↔ Rn 196 47 [l0, l1, l2, l3, l4, l5, l6, l7, some (vI a), l9] st T σ K := R_istore (n := 8) (by decide +kernel) rfl
theorem s196_47 : Rn 196 47 [l0, l1, l2, some (vI a), l4, l5, l6, l7, l8, l9] st T σ K ↔ Rn 196 48 [l0, l1, l2, some (vI a), l4, l5, l6, l7, l8, l9] (vI a :: st) T σ K := R_iload_n (n := 3) (by decide +kernel) rfl
theorem s196_48 : Rn 196 48 [l0, l1, l2, l3, l4, l5, some (vI a), l7, l8, l9] st T σ K ↔ Rn 196 50 [l0, l1, l2, l3, l4, l5, some (vI a), l7, l8, l9] (vI a :: st) T σ K := R_iload (n := 6) (by decide +kernel) rfl
theorem s196_50 : Rn 196 50 L (vI b :: vI a :: st) T σ K ↔ inI (a - b) ∧ Rn 196 51 L (vI (a - b) :: st) T σ K := R_isub (by decide +kernel)
theorem s196_51 : Rn 196 51 L (vI a :: st) T σ K ↔ st.length ≤ 4 ∧ Rn 198 0 [some (vI a)] [] T σ (fun r T' σ' => Rn 196 54 L (sx_push r st) T' σ' K) := R_S (cm := 198) (n := 1) (idx := 212) (mx := 1) (vs := [vI a]) (by decide +kernel) (Or.inl (by decide +kernel)) rfl (by decide +kernel) rfl (by decide +kernel)
theorem s196_54 : Rn 196 54 [l0, l1, l2, l3, l4, l5, l6, l7, l8, l9] (vI a :: st) T σ K ↔ Rn 196 56 [l0, l1, l2, l3, l4, l5, l6, l7, l8, some (vI a)] st T σ K := R_istore (n := 9) (by decide +kernel) rfl
theorem s196_56 : Rn 196 56 [some (vI a), l1, l2, l3, l4, l5, l6, l7, l8, l9] st T σ K ↔ Rn 196 57 [some (vI a), l1, l2, l3, l4, l5, l6, l7, l8, l9] (vI a :: st) T σ K := R_iload_n (n := 0) (by decide +kernel) rfl
theorem s196_57 : Rn 196 57 L (vI a :: st) T σ K ↔ (a ≠ 0 → Rn 196 71 L st T σ K) ∧ (a = 0 → Rn 196 60 L st T σ K) := R_if_ne (off := 14) (by decide +kernel) (by decide)
theorem s196_60 : Rn 196 60 [l0, l1, l2, l3, l4, l5, l6, some (vI a), l8, l9] st T σ K ↔ Rn 196 62 [l0, l1, l2, l3, l4, l5, l6, some (vI a), l8, l9] (vI a :: st) T σ K := R_iload (n := 7) (by decide +kernel) rfl
theorem s196_62 : Rn 196 62 [l0, l1, l2, l3, l4, l5, l6, l7, some (vI a), l9] st T σ K ↔ Rn 196 64 [l0, l1, l2, l3, l4, l5, l6, l7, some (vI a), l9] (vI a :: st) T σ K := R_iload (n := 8) (by decide +kernel) rfl
theorem s196_64 : Rn 196 64 L (vI b :: vI a :: st) T σ K ↔ inI (a + b) ∧ Rn 196 65 L (vI (a + b) :: st) T σ K := R_iadd (by decide +kernel)
theorem s196_65 : Rn 196 65 [l0, l1, l2, l3, l4, l5, l6, l7, l8, some (vI a)] st T σ K ↔ Rn 196 67 [l0, l1, l2, l3, l4, l5, l6, l7, l8, some (vI a)] (vI a :: st) T σ K := R_iload (n := 9) (by decide +kernel) rfl
theorem s196_67 : Rn 196 67 L (vI b :: vI a :: st) T σ K ↔ inI (a + b) ∧ Rn 196 68 L (vI (a + b) :: st) T σ K := R_iadd (by decide +kernel)
theorem s196_68 : Rn 196 68 L st T σ K ↔ Rn 196 83 L st T σ K := R_goto (off := 15) (by decide +kernel) (by decide)
theorem s196_71 : Rn 196 71 [l0, l1, l2, l3, l4, l5, l6, some (vI a), l8, l9] st T σ K ↔ Rn 196 73 [l0, l1, l2, l3, l4, l5, l6, some (vI a), l8, l9] (vI a :: st) T σ K := R_iload (n := 7) (by decide +kernel) rfl
theorem s196_73 : Rn 196 73 [l0, l1, l2, l3, l4, l5, l6, l7, some (vI a), l9] st T σ K ↔ Rn 196 75 [l0, l1, l2, l3, l4, l5, l6, l7, some (vI a), l9] (vI a :: st) T σ K := R_iload (n := 8) (by decide +kernel) rfl
theorem s196_75 : Rn 196 75 [l0, l1, l2, l3, l4, l5, l6, l7, l8, some (vI a)] st T σ K ↔ Rn 196 77 [l0, l1, l2, l3, l4, l5, l6, l7, l8, some (vI a)] (vI a :: st) T σ K := R_iload (n := 9) (by decide +kernel) rfl
theorem s196_77 : Rn 196 77 L (vI b :: vI a :: st) T σ K ↔ st.length ≤ 4 ∧ Rn 199 0 [some (vI a), some (vI b)] [] T σ (fun r T' σ' => Rn 196 80 L (sx_push r st) T' σ' K) := R_S (cm := 199) (n := 2) (idx := 215) (mx := 2) (vs := [vI a, vI b]) (by decide +kernel) (Or.inl (by decide +kernel)) rfl (by decide +kernel) rfl (by decide +kernel)
theorem s196_80 : Rn 196 80 L (vI b :: vI a :: st) T σ K ↔ st.length ≤ 4 ∧ Rn 199 0 [some (vI a), some (vI b)] [] T σ (fun r T' σ' => Rn 196 83 L (sx_push r st) T' σ' K) := R_S (cm := 199) (n := 2) (idx := 215) (mx := 2) (vs := [vI a, vI b]) (by decide +kernel) (Or.inl (by decide +kernel)) rfl (by decide +kernel) rfl (by decide +kernel)
theorem s196_83 : Rn 196 83 L [vI a] T σ K ↔ K (some (vI a)) T σ := R_ret (by decide +kernel) (by decide +kernel)
theorem s197_0 : Rn 197 0 L st T σ K ↔ Rn 197 1 L (vI 0 :: st) T σ K := R_iconst (n := 0) (by decide +kernel) (by decide)
theorem s197_1 : Rn 197 1 [l0, l1, l2] (vI a :: st) T σ K ↔ Rn 197 2 [l0, some (vI a), l2] st T σ K := R_istore_n (n := 1) (by decide +kernel) rfl
theorem s197_2 : Rn 197 2 [some (vI a), l1, l2] st T σ K ↔ Rn 197 3 [some (vI a), l1, l2] (vI a :: st) T σ K := R_iload_n (n := 0) (by decide +kernel) rfl
theorem s197_3 : Rn 197 3 [l0, l1, l2] (vI a :: st) T σ K ↔ Rn 197 4 [l0, l1, some (vI a)] st T σ K := R_istore_n (n := 2) (by decide +kernel) rfl
theorem s197_4 : Rn 197 4 [l0, l1, some (vI a)] st T σ K ↔ Rn 197 5 [l0, l1, some (vI a)] (vI a :: st) T σ K := R_iload_n (n := 2) (by decide +kernel) rfl
theorem s197_5 : Rn 197 5 L (vI a :: st) T σ K ↔ (a = 0 → Rn 197 20 L st T σ K) ∧ (a ≠ 0 → Rn 197 8 L st T σ K) := R_if_eq (off := 15) (by decide +kernel) (by decide)
theorem s197_8 : Rn 197 8 [l0, some (vI a), l2] st T σ K ↔ inI (a + 1) ∧ Rn 197 11 [l0, some (vI (a + 1)), l2] st T σ K := R_iinc (n := 1) (d := 1) (by decide +kernel) rfl
theorem s197_11 : Rn 197 11 [l0, l1, some (vI a)] st T σ K ↔ Rn 197 12 [l0, l1, some (vI a)] (vI a :: st) T σ K := R_iload_n (n := 2) (by decide +kernel) rfl
theorem s197_12 : Rn 197 12 [l0, l1, some (vI a)] st T σ K ↔ Rn 197 13 [l0, l1, some (vI a)] (vI a :: st) T σ K := R_iload_n (n := 2) (by decide +kernel) rfl
theorem s197_13 : Rn 197 13 L st T σ K ↔ Rn 197 14 L (vI 1 :: st) T σ K := R_iconst (n := 1) (by decide +kernel) (by decide)
theorem s197_14 : Rn 197 14 L (vI b :: vI a :: st) T σ K ↔ inI (a - b) ∧ Rn 197 15 L (vI (a - b) :: st) T σ K := R_isub (by decide +kernel)
theorem s197_15 : Rn 197 15 L (vI b :: vI a :: st) T σ K ↔ Rn 197 16 L (vI (sx_and a b) :: st) T σ K := R_iand (by decide +kernel)
theorem s197_16 : Rn 197 16 [l0, l1, l2] (vI a :: st) T σ K ↔ Rn 197 17 [l0, l1, some (vI a)] st T σ K := R_istore_n (n := 2) (by decide +kernel) rfl
theorem s197_17 : Rn 197 17 L st T σ K ↔ Rn 197 4 L st T σ K := R_goto (off := -13) (by decide +kernel) (by decide)
theorem s197_20 : Rn 197 20 [l0, some (vI a), l2] st T σ K ↔ Rn 197 21 [l0, some (vI a), l2] (vI a :: st) T σ K := R_iload_n (n := 1) (by decide +kernel) rfl
theorem s197_21 : Rn 197 21 L [vI a] T σ K ↔ K (some (vI a)) T σ := R_ret (by decide +kernel) (by decide +kernel)
theorem s198_0 : Rn 198 0 [some (vI a)] st T σ K ↔ Rn 198 1 [some (vI a)] (vI a :: st) T σ K := R_iload_n (n := 0) (by decide +kernel) rfl
theorem s198_1 : Rn 198 1 L (vI a :: st) T σ K ↔ (0 ≤ a → Rn 198 9 L st T σ K) ∧ (a < 0 → Rn 198 4 L st T σ K) := R_if_ge (off := 8) (by decide +kernel) (by decide)
theorem s198_4 : Rn 198 4 [some (vI a)] st T σ K ↔ Rn 198 5 [some (vI a)] (vI a :: st) T σ K := R_iload_n (n := 0) (by decide +kernel) rfl
theorem s198_5 : Rn 198 5 L (vI a :: st) T σ K ↔ inI (-a) ∧ Rn 198 6 L (vI (-a) :: st) T σ K := R_ineg (by decide +kernel)
theorem s198_6 : Rn 198 6 L st T σ K ↔ Rn 198 10 L st T σ K := R_goto (off := 4) (by decide +kernel) (by decide)
theorem s198_9 : Rn 198 9 [some (vI a)] st T σ K ↔ Rn 198 10 [some (vI a)] (vI a :: st) T σ K := R_iload_n (n := 0) (by decide +kernel) rfl
theorem s198_10 : Rn 198 10 L [vI a] T σ K ↔ K (some (vI a)) T σ := R_ret (by decide +kernel) (by decide +kernel)
theorem s199_0 : Rn 199 0 [some (vI a), l1] st T σ K ↔ Rn 199 1 [some (vI a), l1] (vI a :: st) T σ K := R_iload_n (n := 0) (by decide +kernel) rfl
theorem s199_1 : Rn 199 1 [l0, some (vI a)] st T σ K ↔ Rn 199 2 [l0, some (vI a)] (vI a :: st) T σ K := R_iload_n (n := 1) (by decide +kernel) rfl
theorem s199_2 : Rn 199 2 L (vI b :: vI a :: st) T σ K ↔ (a ≤ b → Rn 199 9 L st T σ K) ∧ (b < a → Rn 199 5 L st T σ K) := R_icmp_le (off := 7) (by decide +kernel) (by decide)
theorem s199_5 : Rn 199 5 [some (vI a), l1] st T σ K ↔ Rn 199 6 [some (vI a), l1] (vI a :: st) T σ K := R_iload_n (n := 0) (by decide +kernel) rfl
theorem s199_6 : Rn 199 6 L st T σ K ↔ Rn 199 10 L st T σ K := R_goto (off := 4) (by decide +kernel) (by decide)
theorem s199_9 : Rn 199 9 [l0, some (vI a)] st T σ K ↔ Rn 199 10 [l0, some (vI a)] (vI a :: st) T σ K := R_iload_n (n := 1) (by decide +kernel) rfl
theorem s199_10 : Rn 199 10 L [vI a] T σ K ↔ K (some (vI a)) T σ := R_ret (by decide +kernel) (by decide +kernel)
theorem s200_0 : Rn 200 0 [l0, some (vI a)] st T σ K ↔ Rn 200 1 [l0, some (vI a)] (vI a :: st) T σ K := R_iload_n (n := 1) (by decide +kernel) rfl
theorem s200_1 : Rn 200 1 L (vI a :: st) T σ K ↔ (a ≠ 0 → Rn 200 11 L st T σ K) ∧ (a = 0 → Rn 200 4 L st T σ K) := R_if_ne (off := 10) (by decide +kernel) (by decide)
theorem s200_4 : Rn 200 4 [some (vR o), l1] st T σ K ↔ Rn 200 5 [some (vR o), l1] (vR o :: st) T σ K := R_aload_n (n := 0) (by decide +kernel) rfl
theorem s200_5 : Rn 200 5 L (vR o :: st) T σ K ↔ sx_kd T o = 9 ∧ Rn 200 8 L (vI (σ o 10) :: st) T σ K := R_getI (idx := 42) (ci := 9) (k := 10) (by decide +kernel) (by decide +kernel) (Or.inl rfl)
theorem s200_8 : Rn 200 8 L st T σ K ↔ Rn 200 24 L st T σ K := R_goto (off := 16) (by decide +kernel) (by decide)
theorem s200_11 : Rn 200 11 [l0, some (vI a)] st T σ K ↔ Rn 200 12 [l0, some (vI a)] (vI a :: st) T σ K := R_iload_n (n := 1) (by decide +kernel) rfl
theorem s200_12 : Rn 200 12 L st T σ K ↔ Rn 200 13 L (vI 1 :: st) T σ K := R_iconst (n := 1) (by decide +kernel) (by decide)
theorem s200_13 : Rn 200 13 L (vI b :: vI a :: st) T σ K ↔ (a ≠ b → Rn 200 23 L st T σ K) ∧ (a = b → Rn 200 16 L st T σ K) := R_icmp_ne (off := 10) (by decide +kernel) (by decide)
theorem s200_16 : Rn 200 16 [some (vR o), l1] st T σ K ↔ Rn 200 17 [some (vR o), l1] (vR o :: st) T σ K := R_aload_n (n := 0) (by decide +kernel) rfl
theorem s200_17 : Rn 200 17 L (vR o :: st) T σ K ↔ sx_kd T o = 9 ∧ Rn 200 20 L (vI (σ o 11) :: st) T σ K := R_getI (idx := 45) (ci := 9) (k := 11) (by decide +kernel) (by decide +kernel) (Or.inl rfl)
theorem s200_20 : Rn 200 20 L st T σ K ↔ Rn 200 24 L st T σ K := R_goto (off := 4) (by decide +kernel) (by decide)
theorem s200_23 : Rn 200 23 L st T σ K ↔ Rn 200 24 L (vI (-1) :: st) T σ K := R_iconst (n := -1) (by decide +kernel) (by decide)
theorem s200_24 : Rn 200 24 L [vI a] T σ K ↔ K (some (vI a)) T σ := R_ret (by decide +kernel) (by decide +kernel)
theorem s201_0 : Rn 201 0 [l0, some (vI a), l2, l3] st T σ K ↔ Rn 201 1 [l0, some (vI a), l2, l3] (vI a :: st) T σ K := R_iload_n (n := 1) (by decide +kernel) rfl
theorem s201_1 : Rn 201 1 L (vI a :: st) T σ K ↔ sx_sw [(0, 44), (1, 49), (2, 69), (3, 74), (4, 134), (5, 139), (6, 144)] 149 a (fun t => Rn 201 t L st T σ K) := R_table (d := 148) (lo := 0) (hi := 6) (offs := #[43, 48, 68, 73, 133, 138, 143]) (len := 43) (by decide +kernel) (by decide +kernel)
theorem s201_44 : Rn 201 44 [some (vR o), l1, l2, l3] st T σ K ↔ Rn 201 45 [some (vR o), l1, l2, l3] (vR o :: st) T σ K := R_aload_n (n := 0) (by decide +kernel) rfl
theorem s201_45 : Rn 201 45 L (vR o :: st) T σ K ↔ (sx_kd T o = 9 ∧ st.length ≤ 4) ∧ Rn 202 0 [some (vR o), none, none] [] T σ (fun r T' σ' => Rn 201 48 L (sx_push r st) T' σ' K) := R_V (cm := 202) (n := 0) (idx := 248) (ci := 9) (mx := 3) (vs := []) (by decide +kernel) (by decide +kernel) rfl (by decide +kernel) rfl (by decide +kernel) (by decide +kernel)
theorem s201_48 : Rn 201 48 L [vI a] T σ K ↔ K (some (vI a)) T σ := R_ret (by decide +kernel) (by decide +kernel)
theorem s201_49 : Rn 201 49 [some (vR o), l1, l2, l3] st T σ K ↔ Rn 201 50 [some (vR o), l1, l2, l3] (vR o :: st) T σ K := R_aload_n (n := 0) (by decide +kernel) rfl
theorem s201_50 : Rn 201 50 L (vR o :: st) T σ K ↔ sx_kd T o = 9 ∧ Rn 201 53 L (vI (σ o 6) :: st) T σ K := R_getI (idx := 29) (ci := 9) (k := 6) (by decide +kernel) (by decide +kernel) (Or.inr rfl)
theorem s201_53 : Rn 201 53 L (vI a :: st) T σ K ↔ (a = 0 → Rn 201 67 L st T σ K) ∧ (a ≠ 0 → Rn 201 56 L st T σ K) := R_if_eq (off := 14) (by decide +kernel) (by decide)
theorem s201_56 : Rn 201 56 [some (vR o), l1, l2, l3] st T σ K ↔ Rn 201 57 [some (vR o), l1, l2, l3] (vR o :: st) T σ K := R_aload_n (n := 0) (by decide +kernel) rfl
theorem s201_57 : Rn 201 57 L (vR o :: st) T σ K ↔ sx_kd T o = 9 ∧ ∃ t, sx_rf T o 0 = some t ∧ Rn 201 60 L (vR t :: st) T σ K := R_getR (idx := 7) (ci := 9) (k := 0) (by decide +kernel) (by decide +kernel) rfl
theorem s201_60 : Rn 201 60 L st T σ K ↔ Rn 201 63 L (vI 480 :: st) T σ K := R_sipush (n := 480) (by decide +kernel) (by decide +kernel)
theorem s201_63 : Rn 201 63 L (vI a :: vR o :: st) T σ K ↔ (sx_kd T o = 20 ∧ 0 ≤ a ∧ a < sx_ln T o) ∧ Rn 201 64 L (vI (σ o a) :: st) T σ K := R_iald (by decide +kernel) (by decide)
theorem s201_64 : Rn 201 64 L st T σ K ↔ Rn 201 68 L st T σ K := R_goto (off := 4) (by decide +kernel) (by decide)
theorem s201_67 : Rn 201 67 L st T σ K ↔ Rn 201 68 L (vI (-1) :: st) T σ K := R_iconst (n := -1) (by decide +kernel) (by decide)
theorem s201_68 : Rn 201 68 L [vI a] T σ K ↔ K (some (vI a)) T σ := R_ret (by decide +kernel) (by decide +kernel)
theorem s201_69 : Rn 201 69 [some (vR o), l1, l2, l3] st T σ K ↔ Rn 201 70 [some (vR o), l1, l2, l3] (vR o :: st) T σ K := R_aload_n (n := 0) (by decide +kernel) rfl
theorem s201_70 : Rn 201 70 L (vR o :: st) T σ K ↔ (sx_kd T o = 9 ∧ st.length ≤ 4) ∧ Rn 203 0 [some (vR o), none] [] T σ (fun r T' σ' => Rn 201 73 L (sx_push r st) T' σ' K) := R_V (cm := 203) (n := 0) (idx := 251) (ci := 9) (mx := 2) (vs := []) (by decide +kernel) (by decide +kernel) rfl (by decide +kernel) rfl (by decide +kernel) (by decide +kernel)
theorem s201_73 : Rn 201 73 L [vI a] T σ K ↔ K (some (vI a)) T σ := R_ret (by decide +kernel) (by decide +kernel)
theorem s201_74 : Rn 201 74 L st T σ K ↔ Rn 201 75 L (vI (-1) :: st) T σ K := R_iconst (n := -1) (by decide +kernel) (by decide)
theorem s201_75 : Rn 201 75 [l0, l1, l2, l3] (vI a :: st) T σ K ↔ Rn 201 76 [l0, l1, some (vI a), l3] st T σ K := R_istore_n (n := 2) (by decide +kernel) rfl
theorem s201_76 : Rn 201 76 L st T σ K ↔ Rn 201 77 L (vI 0 :: st) T σ K := R_iconst (n := 0) (by decide +kernel) (by decide)
theorem s201_77 : Rn 201 77 [l0, l1, l2, l3] (vI a :: st) T σ K ↔ Rn 201 78 [l0, l1, l2, some (vI a)] st T σ K := R_istore_n (n := 3) (by decide +kernel) rfl
theorem s201_78 : Rn 201 78 [l0, l1, l2, some (vI a)] st T σ K ↔ Rn 201 79 [l0, l1, l2, some (vI a)] (vI a :: st) T σ K := R_iload_n (n := 3) (by decide +kernel) rfl
theorem s201_79 : Rn 201 79 L st T σ K ↔ Rn 201 81 L (vI 40 :: st) T σ K := R_bipush (n := 40) (by decide +kernel) (by decide +kernel)
theorem s201_81 : Rn 201 81 L (vI b :: vI a :: st) T σ K ↔ (b ≤ a → Rn 201 132 L st T σ K) ∧ (a < b → Rn 201 84 L st T σ K) := R_icmp_ge (off := 51) (by decide +kernel) (by decide)
theorem s201_84 : Rn 201 84 [some (vR o), l1, l2, l3] st T σ K ↔ Rn 201 85 [some (vR o), l1, l2, l3] (vR o :: st) T σ K := R_aload_n (n := 0) (by decide +kernel) rfl
theorem s201_85 : Rn 201 85 L (vR o :: st) T σ K ↔ sx_kd T o = 9 ∧ ∃ t, sx_rf T o 0 = some t ∧ Rn 201 88 L (vR t :: st) T σ K := R_getR (idx := 7) (ci := 9) (k := 0) (by decide +kernel) (by decide +kernel) rfl
theorem s201_88 : Rn 201 88 L st T σ K ↔ Rn 201 89 L (vI 0 :: st) T σ K := R_iconst (n := 0) (by decide +kernel) (by decide)
theorem s201_89 : Rn 201 89 [l0, l1, l2, some (vI a)] st T σ K ↔ Rn 201 90 [l0, l1, l2, some (vI a)] (vI a :: st) T σ K := R_iload_n (n := 3) (by decide +kernel) rfl
theorem s201_90 : Rn 201 90 L (vI b :: vI a :: st) T σ K ↔ inI (a + b) ∧ Rn 201 91 L (vI (a + b) :: st) T σ K := R_iadd (by decide +kernel)
theorem s201_91 : Rn 201 91 L (vI a :: vR o :: st) T σ K ↔ (sx_kd T o = 20 ∧ 0 ≤ a ∧ a < sx_ln T o) ∧ Rn 201 92 L (vI (σ o a) :: st) T σ K := R_iald (by decide +kernel) (by decide)
theorem s201_92 : Rn 201 92 L st T σ K ↔ Rn 201 93 L (vI 1 :: st) T σ K := R_iconst (n := 1) (by decide +kernel) (by decide)
theorem s201_93 : Rn 201 93 L (vI b :: vI a :: st) T σ K ↔ (a ≠ b → Rn 201 126 L st T σ K) ∧ (a = b → Rn 201 96 L st T σ K) := R_icmp_ne (off := 33) (by decide +kernel) (by decide)
theorem s201_96 : Rn 201 96 [some (vR o), l1, l2, l3] st T σ K ↔ Rn 201 97 [some (vR o), l1, l2, l3] (vR o :: st) T σ K := R_aload_n (n := 0) (by decide +kernel) rfl
theorem s201_97 : Rn 201 97 L (vR o :: st) T σ K ↔ sx_kd T o = 9 ∧ ∃ t, sx_rf T o 0 = some t ∧ Rn 201 100 L (vR t :: st) T σ K := R_getR (idx := 7) (ci := 9) (k := 0) (by decide +kernel) (by decide +kernel) rfl
theorem s201_100 : Rn 201 100 L st T σ K ↔ Rn 201 103 L (vI 160 :: st) T σ K := R_sipush (n := 160) (by decide +kernel) (by decide +kernel)
theorem s201_103 : Rn 201 103 [l0, l1, l2, some (vI a)] st T σ K ↔ Rn 201 104 [l0, l1, l2, some (vI a)] (vI a :: st) T σ K := R_iload_n (n := 3) (by decide +kernel) rfl
theorem s201_104 : Rn 201 104 L (vI b :: vI a :: st) T σ K ↔ inI (a + b) ∧ Rn 201 105 L (vI (a + b) :: st) T σ K := R_iadd (by decide +kernel)
theorem s201_105 : Rn 201 105 L (vI a :: vR o :: st) T σ K ↔ (sx_kd T o = 20 ∧ 0 ≤ a ∧ a < sx_ln T o) ∧ Rn 201 106 L (vI (σ o a) :: st) T σ K := R_iald (by decide +kernel) (by decide)
theorem s201_106 : Rn 201 106 L st T σ K ↔ Rn 201 108 L (vI 10 :: st) T σ K := R_bipush (n := 10) (by decide +kernel) (by decide +kernel)
theorem s201_108 : Rn 201 108 L (vI b :: vI a :: st) T σ K ↔ (b ≤ a → Rn 201 126 L st T σ K) ∧ (a < b → Rn 201 111 L st T σ K) := R_icmp_ge (off := 18) (by decide +kernel) (by decide)
theorem s201_111 : Rn 201 111 [l0, l1, some (vI a), l3] st T σ K ↔ Rn 201 112 [l0, l1, some (vI a), l3] (vI a :: st) T σ K := R_iload_n (n := 2) (by decide +kernel) rfl
theorem s201_112 : Rn 201 112 [some (vR o), l1, l2, l3] st T σ K ↔ Rn 201 113 [some (vR o), l1, l2, l3] (vR o :: st) T σ K := R_aload_n (n := 0) (by decide +kernel) rfl
theorem s201_113 : Rn 201 113 L (vR o :: st) T σ K ↔ sx_kd T o = 9 ∧ ∃ t, sx_rf T o 0 = some t ∧ Rn 201 116 L (vR t :: st) T σ K := R_getR (idx := 7) (ci := 9) (k := 0) (by decide +kernel) (by decide +kernel) rfl
theorem s201_116 : Rn 201 116 L st T σ K ↔ Rn 201 119 L (vI 160 :: st) T σ K := R_sipush (n := 160) (by decide +kernel) (by decide +kernel)
theorem s201_119 : Rn 201 119 [l0, l1, l2, some (vI a)] st T σ K ↔ Rn 201 120 [l0, l1, l2, some (vI a)] (vI a :: st) T σ K := R_iload_n (n := 3) (by decide +kernel) rfl
theorem s201_120 : Rn 201 120 L (vI b :: vI a :: st) T σ K ↔ inI (a + b) ∧ Rn 201 121 L (vI (a + b) :: st) T σ K := R_iadd (by decide +kernel)
theorem s201_121 : Rn 201 121 L (vI a :: vR o :: st) T σ K ↔ (sx_kd T o = 20 ∧ 0 ≤ a ∧ a < sx_ln T o) ∧ Rn 201 122 L (vI (σ o a) :: st) T σ K := R_iald (by decide +kernel) (by decide)
theorem s201_122 : Rn 201 122 L (vI b :: vI a :: st) T σ K ↔ st.length ≤ 4 ∧ Rn 199 0 [some (vI a), some (vI b)] [] T σ (fun r T' σ' => Rn 201 125 L (sx_push r st) T' σ' K) := R_S (cm := 199) (n := 2) (idx := 215) (mx := 2) (vs := [vI a, vI b]) (by decide +kernel) (Or.inl (by decide +kernel)) rfl (by decide +kernel) rfl (by decide +kernel)
theorem s201_125 : Rn 201 125 [l0, l1, l2, l3] (vI a :: st) T σ K ↔ Rn 201 126 [l0, l1, some (vI a), l3] st T σ K := R_istore_n (n := 2) (by decide +kernel) rfl
theorem s201_126 : Rn 201 126 [l0, l1, l2, some (vI a)] st T σ K ↔ inI (a + 1) ∧ Rn 201 129 [l0, l1, l2, some (vI (a + 1))] st T σ K := R_iinc (n := 3) (d := 1) (by decide +kernel) rfl
theorem s201_129 : Rn 201 129 L st T σ K ↔ Rn 201 78 L st T σ K := R_goto (off := -51) (by decide +kernel) (by decide)
theorem s201_132 : Rn 201 132 [l0, l1, some (vI a), l3] st T σ K ↔ Rn 201 133 [l0, l1, some (vI a), l3] (vI a :: st) T σ K := R_iload_n (n := 2) (by decide +kernel) rfl
theorem s201_133 : Rn 201 133 L [vI a] T σ K ↔ K (some (vI a)) T σ := R_ret (by decide +kernel) (by decide +kernel)
theorem s201_134 : Rn 201 134 [some (vR o), l1, l2, l3] st T σ K ↔ Rn 201 135 [some (vR o), l1, l2, l3] (vR o :: st) T σ K := R_aload_n (n := 0) (by decide +kernel) rfl
theorem s201_135 : Rn 201 135 L (vR o :: st) T σ K ↔ sx_kd T o = 9 ∧ Rn 201 138 L (vI (σ o 36) :: st) T σ K := R_getI (idx := 120) (ci := 9) (k := 36) (by decide +kernel) (by decide +kernel) (Or.inl rfl)
theorem s201_138 : Rn 201 138 L [vI a] T σ K ↔ K (some (vI a)) T σ := R_ret (by decide +kernel) (by decide +kernel)
theorem s201_139 : Rn 201 139 [some (vR o), l1, l2, l3] st T σ K ↔ Rn 201 140 [some (vR o), l1, l2, l3] (vR o :: st) T σ K := R_aload_n (n := 0) (by decide +kernel) rfl
theorem s201_140 : Rn 201 140 L (vR o :: st) T σ K ↔ sx_kd T o = 9 ∧ Rn 201 143 L (vI (σ o 4) :: st) T σ K := R_getI (idx := 22) (ci := 9) (k := 4) (by decide +kernel) (by decide +kernel) (Or.inl rfl)
theorem s201_143 : Rn 201 143 L [vI a] T σ K ↔ K (some (vI a)) T σ := R_ret (by decide +kernel) (by decide +kernel)
theorem s201_144 : Rn 201 144 [some (vR o), l1, l2, l3] st T σ K ↔ Rn 201 145 [some (vR o), l1, l2, l3] (vR o :: st) T σ K := R_aload_n (n := 0) (by decide +kernel) rfl
theorem s201_145 : Rn 201 145 L (vR o :: st) T σ K ↔ sx_kd T o = 9 ∧ Rn 201 148 L (vI (σ o 5) :: st) T σ K := R_getI (idx := 26) (ci := 9) (k := 5) (by decide +kernel) (by decide +kernel) (Or.inl rfl)
theorem s201_148 : Rn 201 148 L [vI a] T σ K ↔ K (some (vI a)) T σ := R_ret (by decide +kernel) (by decide +kernel)
theorem s201_149 : Rn 201 149 L st T σ K ↔ Rn 201 150 L (vI (-1) :: st) T σ K := R_iconst (n := -1) (by decide +kernel) (by decide)
theorem s201_150 : Rn 201 150 L [vI a] T σ K ↔ K (some (vI a)) T σ := R_ret (by decide +kernel) (by decide +kernel)
theorem s202_0 : Rn 202 0 L st T σ K ↔ Rn 202 1 L (vI 0 :: st) T σ K := R_iconst (n := 0) (by decide +kernel) (by decide)
theorem s202_1 : Rn 202 1 [l0, l1, l2] (vI a :: st) T σ K ↔ Rn 202 2 [l0, some (vI a), l2] st T σ K := R_istore_n (n := 1) (by decide +kernel) rfl
theorem s202_2 : Rn 202 2 L st T σ K ↔ Rn 202 3 L (vI 0 :: st) T σ K := R_iconst (n := 0) (by decide +kernel) (by decide)
theorem s202_3 : Rn 202 3 [l0, l1, l2] (vI a :: st) T σ K ↔ Rn 202 4 [l0, l1, some (vI a)] st T σ K := R_istore_n (n := 2) (by decide +kernel) rfl
theorem s202_4 : Rn 202 4 [l0, l1, some (vI a)] st T σ K ↔ Rn 202 5 [l0, l1, some (vI a)] (vI a :: st) T σ K := R_iload_n (n := 2) (by decide +kernel) rfl
theorem s202_5 : Rn 202 5 L st T σ K ↔ Rn 202 7 L (vI 40 :: st) T σ K := R_bipush (n := 40) (by decide +kernel) (by decide +kernel)
theorem s202_7 : Rn 202 7 L (vI b :: vI a :: st) T σ K ↔ (b ≤ a → Rn 202 27 L st T σ K) ∧ (a < b → Rn 202 10 L st T σ K) := R_icmp_ge (off := 20) (by decide +kernel) (by decide)
theorem s202_10 : Rn 202 10 [l0, some (vI a), l2] st T σ K ↔ Rn 202 11 [l0, some (vI a), l2] (vI a :: st) T σ K := R_iload_n (n := 1) (by decide +kernel) rfl
theorem s202_11 : Rn 202 11 [some (vR o), l1, l2] st T σ K ↔ Rn 202 12 [some (vR o), l1, l2] (vR o :: st) T σ K := R_aload_n (n := 0) (by decide +kernel) rfl
theorem s202_12 : Rn 202 12 L (vR o :: st) T σ K ↔ sx_kd T o = 9 ∧ ∃ t, sx_rf T o 0 = some t ∧ Rn 202 15 L (vR t :: st) T σ K := R_getR (idx := 7) (ci := 9) (k := 0) (by decide +kernel) (by decide +kernel) rfl
theorem s202_15 : Rn 202 15 L st T σ K ↔ Rn 202 16 L (vI 0 :: st) T σ K := R_iconst (n := 0) (by decide +kernel) (by decide)
theorem s202_16 : Rn 202 16 [l0, l1, some (vI a)] st T σ K ↔ Rn 202 17 [l0, l1, some (vI a)] (vI a :: st) T σ K := R_iload_n (n := 2) (by decide +kernel) rfl
theorem s202_17 : Rn 202 17 L (vI b :: vI a :: st) T σ K ↔ inI (a + b) ∧ Rn 202 18 L (vI (a + b) :: st) T σ K := R_iadd (by decide +kernel)
theorem s202_18 : Rn 202 18 L (vI a :: vR o :: st) T σ K ↔ (sx_kd T o = 20 ∧ 0 ≤ a ∧ a < sx_ln T o) ∧ Rn 202 19 L (vI (σ o a) :: st) T σ K := R_iald (by decide +kernel) (by decide)
theorem s202_19 : Rn 202 19 L (vI b :: vI a :: st) T σ K ↔ inI (a + b) ∧ Rn 202 20 L (vI (a + b) :: st) T σ K := R_iadd (by decide +kernel)
theorem s202_20 : Rn 202 20 [l0, l1, l2] (vI a :: st) T σ K ↔ Rn 202 21 [l0, some (vI a), l2] st T σ K := R_istore_n (n := 1) (by decide +kernel) rfl
theorem s202_21 : Rn 202 21 [l0, l1, some (vI a)] st T σ K ↔ inI (a + 1) ∧ Rn 202 24 [l0, l1, some (vI (a + 1))] st T σ K := R_iinc (n := 2) (d := 1) (by decide +kernel) rfl
theorem s202_24 : Rn 202 24 L st T σ K ↔ Rn 202 4 L st T σ K := R_goto (off := -20) (by decide +kernel) (by decide)
theorem s202_27 : Rn 202 27 [l0, some (vI a), l2] st T σ K ↔ Rn 202 28 [l0, some (vI a), l2] (vI a :: st) T σ K := R_iload_n (n := 1) (by decide +kernel) rfl
theorem s202_28 : Rn 202 28 L [vI a] T σ K ↔ K (some (vI a)) T σ := R_ret (by decide +kernel) (by decide +kernel)
theorem s203_0 : Rn 203 0 L st T σ K ↔ Rn 203 1 L (vI 0 :: st) T σ K := R_iconst (n := 0) (by decide +kernel) (by decide)
theorem s203_1 : Rn 203 1 [l0, l1] (vI a :: st) T σ K ↔ Rn 203 2 [l0, some (vI a)] st T σ K := R_istore_n (n := 1) (by decide +kernel) rfl
theorem s203_2 : Rn 203 2 [l0, some (vI a)] st T σ K ↔ Rn 203 3 [l0, some (vI a)] (vI a :: st) T σ K := R_iload_n (n := 1) (by decide +kernel) rfl
theorem s203_3 : Rn 203 3 L st T σ K ↔ Rn 203 5 L (vI 40 :: st) T σ K := R_bipush (n := 40) (by decide +kernel) (by decide +kernel)
theorem s203_5 : Rn 203 5 L (vI b :: vI a :: st) T σ K ↔ (b ≤ a → Rn 203 26 L st T σ K) ∧ (a < b → Rn 203 8 L st T σ K) := R_icmp_ge (off := 21) (by decide +kernel) (by decide)
theorem s203_8 : Rn 203 8 [some (vR o), l1] st T σ K ↔ Rn 203 9 [some (vR o), l1] (vR o :: st) T σ K := R_aload_n (n := 0) (by decide +kernel) rfl
theorem s203_9 : Rn 203 9 [l0, some (vI a)] st T σ K ↔ Rn 203 10 [l0, some (vI a)] (vI a :: st) T σ K := R_iload_n (n := 1) (by decide +kernel) rfl
theorem s203_10 : Rn 203 10 L st T σ K ↔ Rn 203 12 L (vI 10 :: st) T σ K := R_bipush (n := 10) (by decide +kernel) (by decide +kernel)
theorem s203_12 : Rn 203 12 L (vI b :: vI a :: vR o :: st) T σ K ↔ (sx_kd T o = 9 ∧ st.length ≤ 4) ∧ Rn 194 0 [some (vR o), some (vI a), some (vI b)] [] T σ (fun r T' σ' => Rn 203 15 L (sx_push r st) T' σ' K) := R_V (cm := 194) (n := 2) (idx := 227) (ci := 9) (mx := 3) (vs := [vI a, vI b]) (by decide +kernel) (by decide +kernel) rfl (by decide +kernel) rfl (by decide +kernel) (by decide +kernel)
theorem s203_15 : Rn 203 15 L (vI a :: st) T σ K ↔ (a = 0 → Rn 203 20 L st T σ K) ∧ (a ≠ 0 → Rn 203 18 L st T σ K) := R_if_eq (off := 5) (by decide +kernel) (by decide)
theorem s203_18 : Rn 203 18 [l0, some (vI a)] st T σ K ↔ Rn 203 19 [l0, some (vI a)] (vI a :: st) T σ K := R_iload_n (n := 1) (by decide +kernel) rfl
theorem s203_19 : Rn 203 19 L [vI a] T σ K ↔ K (some (vI a)) T σ := R_ret (by decide +kernel) (by decide +kernel)
theorem s203_20 : Rn 203 20 [l0, some (vI a)] st T σ K ↔ inI (a + 1) ∧ Rn 203 23 [l0, some (vI (a + 1))] st T σ K := R_iinc (n := 1) (d := 1) (by decide +kernel) rfl
theorem s203_23 : Rn 203 23 L st T σ K ↔ Rn 203 2 L st T σ K := R_goto (off := -21) (by decide +kernel) (by decide)
theorem s203_26 : Rn 203 26 L st T σ K ↔ Rn 203 27 L (vI (-1) :: st) T σ K := R_iconst (n := -1) (by decide +kernel) (by decide)
theorem s203_27 : Rn 203 27 L [vI a] T σ K ↔ K (some (vI a)) T σ := R_ret (by decide +kernel) (by decide +kernel)
theorem s204_0 : Rn 204 0 [some (vR o), l1, l2] st T σ K ↔ Rn 204 1 [some (vR o), l1, l2] (vR o :: st) T σ K := R_aload_n (n := 0) (by decide +kernel) rfl
theorem s204_1 : Rn 204 1 [l0, some (vI a), l2] st T σ K ↔ Rn 204 2 [l0, some (vI a), l2] (vI a :: st) T σ K := R_iload_n (n := 1) (by decide +kernel) rfl
theorem s204_2 : Rn 204 2 L (vI a :: vR o :: st) T σ K ↔ (sx_kd T o = 9 ∧ st.length ≤ 4) ∧ Rn 205 0 [some (vR o), some (vI a)] [] T σ (fun r T' σ' => Rn 204 5 L (sx_push r st) T' σ' K) := R_V (cm := 205) (n := 1) (idx := 254) (ci := 9) (mx := 2) (vs := [vI a]) (by decide +kernel) (by decide +kernel) rfl (by decide +kernel) rfl (by decide +kernel) (by decide +kernel)
theorem s204_5 : Rn 204 5 L (vI a :: st) T σ K ↔ (a = 0 → Rn 204 35 L st T σ K) ∧ (a ≠ 0 → Rn 204 8 L st T σ K) := R_if_eq (off := 30) (by decide +kernel) (by decide)
theorem s204_8 : Rn 204 8 [l0, l1, some (vI a)] st T σ K ↔ Rn 204 9 [l0, l1, some (vI a)] (vI a :: st) T σ K := R_iload_n (n := 2) (by decide +kernel) rfl
theorem s204_9 : Rn 204 9 L st T σ K ↔ Rn 204 10 L (vI 0 :: st) T σ K := R_iconst (n := 0) (by decide +kernel) (by decide)
theorem s204_10 : Rn 204 10 L st T σ K ↔ Rn 204 11 L (vI 5 :: st) T σ K := R_iconst (n := 5) (by decide +kernel) (by decide)
theorem s204_11 : Rn 204 11 L (vI c :: vI b :: vI a :: st) T σ K ↔ st.length ≤ 4 ∧ Rn 185 0 [some (vI a), some (vI b), some (vI c)] [] T σ (fun r T' σ' => Rn 204 14 L (sx_push r st) T' σ' K) := R_S (cm := 185) (n := 3) (idx := 189) (mx := 3) (vs := [vI a, vI b, vI c]) (by decide +kernel) (Or.inl (by decide +kernel)) rfl (by decide +kernel) rfl (by decide +kernel)
theorem s204_14 : Rn 204 14 L (vI a :: st) T σ K ↔ (a = 0 → Rn 204 35 L st T σ K) ∧ (a ≠ 0 → Rn 204 17 L st T σ K) := R_if_eq (off := 21) (by decide +kernel) (by decide)
theorem s204_17 : Rn 204 17 [some (vR o), l1, l2] st T σ K ↔ Rn 204 18 [some (vR o), l1, l2] (vR o :: st) T σ K := R_aload_n (n := 0) (by decide +kernel) rfl
theorem s204_18 : Rn 204 18 L (vR o :: st) T σ K ↔ sx_kd T o = 9 ∧ ∃ t, sx_rf T o 0 = some t ∧ Rn 204 21 L (vR t :: st) T σ K := R_getR (idx := 7) (ci := 9) (k := 0) (by decide +kernel) (by decide +kernel) rfl
theorem s204_21 : Rn 204 21 L st T σ K ↔ Rn 204 24 L (vI 240 :: st) T σ K := R_sipush (n := 240) (by decide +kernel) (by decide +kernel)
theorem s204_24 : Rn 204 24 L st T σ K ↔ Rn 204 26 L (vI 6 :: st) T σ K := R_bipush (n := 6) (by decide +kernel) (by decide +kernel)
theorem s204_26 : Rn 204 26 [l0, some (vI a), l2] st T σ K ↔ Rn 204 27 [l0, some (vI a), l2] (vI a :: st) T σ K := R_iload_n (n := 1) (by decide +kernel) rfl
theorem s204_27 : Rn 204 27 L (vI b :: vI a :: st) T σ K ↔ inI (a * b) ∧ Rn 204 28 L (vI (a * b) :: st) T σ K := R_imul (by decide +kernel)
theorem s204_28 : Rn 204 28 L (vI b :: vI a :: st) T σ K ↔ inI (a + b) ∧ Rn 204 29 L (vI (a + b) :: st) T σ K := R_iadd (by decide +kernel)
theorem s204_29 : Rn 204 29 [l0, l1, some (vI a)] st T σ K ↔ Rn 204 30 [l0, l1, some (vI a)] (vI a :: st) T σ K := R_iload_n (n := 2) (by decide +kernel) rfl
theorem s204_30 : Rn 204 30 L (vI b :: vI a :: st) T σ K ↔ inI (a + b) ∧ Rn 204 31 L (vI (a + b) :: st) T σ K := R_iadd (by decide +kernel)
theorem s204_31 : Rn 204 31 L (vI a :: vR o :: st) T σ K ↔ (sx_kd T o = 20 ∧ 0 ≤ a ∧ a < sx_ln T o) ∧ Rn 204 32 L (vI (σ o a) :: st) T σ K := R_iald (by decide +kernel) (by decide)
theorem s204_32 : Rn 204 32 L st T σ K ↔ Rn 204 36 L st T σ K := R_goto (off := 4) (by decide +kernel) (by decide)
theorem s204_35 : Rn 204 35 L st T σ K ↔ Rn 204 36 L (vI (-1) :: st) T σ K := R_iconst (n := -1) (by decide +kernel) (by decide)
theorem s204_36 : Rn 204 36 L [vI a] T σ K ↔ K (some (vI a)) T σ := R_ret (by decide +kernel) (by decide +kernel)
theorem s205_0 : Rn 205 0 [l0, some (vI a)] st T σ K ↔ Rn 205 1 [l0, some (vI a)] (vI a :: st) T σ K := R_iload_n (n := 1) (by decide +kernel) rfl
theorem s205_1 : Rn 205 1 L st T σ K ↔ Rn 205 2 L (vI 0 :: st) T σ K := R_iconst (n := 0) (by decide +kernel) (by decide)
theorem s205_2 : Rn 205 2 L st T σ K ↔ Rn 205 4 L (vI 39 :: st) T σ K := R_bipush (n := 39) (by decide +kernel) (by decide +kernel)
theorem s205_4 : Rn 205 4 L (vI c :: vI b :: vI a :: st) T σ K ↔ st.length ≤ 4 ∧ Rn 185 0 [some (vI a), some (vI b), some (vI c)] [] T σ (fun r T' σ' => Rn 205 7 L (sx_push r st) T' σ' K) := R_S (cm := 185) (n := 3) (idx := 189) (mx := 3) (vs := [vI a, vI b, vI c]) (by decide +kernel) (Or.inl (by decide +kernel)) rfl (by decide +kernel) rfl (by decide +kernel)
theorem s205_7 : Rn 205 7 L (vI a :: st) T σ K ↔ (a = 0 → Rn 205 26 L st T σ K) ∧ (a ≠ 0 → Rn 205 10 L st T σ K) := R_if_eq (off := 19) (by decide +kernel) (by decide)
theorem s205_10 : Rn 205 10 [some (vR o), l1] st T σ K ↔ Rn 205 11 [some (vR o), l1] (vR o :: st) T σ K := R_aload_n (n := 0) (by decide +kernel) rfl
theorem s205_11 : Rn 205 11 L (vR o :: st) T σ K ↔ sx_kd T o = 9 ∧ ∃ t, sx_rf T o 0 = some t ∧ Rn 205 14 L (vR t :: st) T σ K := R_getR (idx := 7) (ci := 9) (k := 0) (by decide +kernel) (by decide +kernel) rfl
theorem s205_14 : Rn 205 14 L st T σ K ↔ Rn 205 15 L (vI 0 :: st) T σ K := R_iconst (n := 0) (by decide +kernel) (by decide)
theorem s205_15 : Rn 205 15 [l0, some (vI a)] st T σ K ↔ Rn 205 16 [l0, some (vI a)] (vI a :: st) T σ K := R_iload_n (n := 1) (by decide +kernel) rfl
theorem s205_16 : Rn 205 16 L (vI b :: vI a :: st) T σ K ↔ inI (a + b) ∧ Rn 205 17 L (vI (a + b) :: st) T σ K := R_iadd (by decide +kernel)
theorem s205_17 : Rn 205 17 L (vI a :: vR o :: st) T σ K ↔ (sx_kd T o = 20 ∧ 0 ≤ a ∧ a < sx_ln T o) ∧ Rn 205 18 L (vI (σ o a) :: st) T σ K := R_iald (by decide +kernel) (by decide)
theorem s205_18 : Rn 205 18 L st T σ K ↔ Rn 205 19 L (vI 1 :: st) T σ K := R_iconst (n := 1) (by decide +kernel) (by decide)
theorem s205_19 : Rn 205 19 L (vI b :: vI a :: st) T σ K ↔ (a ≠ b → Rn 205 26 L st T σ K) ∧ (a = b → Rn 205 22 L st T σ K) := R_icmp_ne (off := 7) (by decide +kernel) (by decide)
theorem s205_22 : Rn 205 22 L st T σ K ↔ Rn 205 23 L (vI 1 :: st) T σ K := R_iconst (n := 1) (by decide +kernel) (by decide)
theorem s205_23 : Rn 205 23 L st T σ K ↔ Rn 205 27 L st T σ K := R_goto (off := 4) (by decide +kernel) (by decide)
theorem s205_26 : Rn 205 26 L st T σ K ↔ Rn 205 27 L (vI 0 :: st) T σ K := R_iconst (n := 0) (by decide +kernel) (by decide)
theorem s205_27 : Rn 205 27 L [vI a] T σ K ↔ (a = 0 ∨ a = 1) ∧ K (some (vI a)) T σ := R_retZ (by decide +kernel) (by decide +kernel)
theorem s206_0 : Rn 206 0 [some (vR o), l1, l2, l3, l4] st T σ K ↔ Rn 206 1 [some (vR o), l1, l2, l3, l4] (vR o :: st) T σ K := R_aload_n (n := 0) (by decide +kernel) rfl
theorem s206_1 : Rn 206 1 L (vR o :: st) T σ K ↔ (sx_kd T o = 9 ∧ st.length ≤ 4) ∧ Rn 174 0 [some (vR o), none] [] T σ (fun r T' σ' => Rn 206 4 L (sx_push r st) T' σ' K) := R_V (cm := 174) (n := 0) (idx := 199) (ci := 9) (mx := 2) (vs := []) (by decide +kernel) (by decide +kernel) rfl (by decide +kernel) rfl (by decide +kernel) (by decide +kernel)
theorem s206_4 : Rn 206 4 [l0, l1, l2, l3, l4] (vI a :: st) T σ K ↔ Rn 206 5 [l0, some (vI a), l2, l3, l4] st T σ K := R_istore_n (n := 1) (by decide +kernel) rfl
theorem s206_5 : Rn 206 5 [l0, some (vI a), l2, l3, l4] st T σ K ↔ Rn 206 6 [l0, some (vI a), l2, l3, l4] (vI a :: st) T σ K := R_iload_n (n := 1) (by decide +kernel) rfl
theorem s206_6 : Rn 206 6 L st T σ K ↔ Rn 206 7 L (vI 1 :: st) T σ K := R_iconst (n := 1) (by decide +kernel) (by decide)
theorem s206_7 : Rn 206 7 L st T σ K ↔ Rn 206 9 L (vI 6 :: st) T σ K := R_bipush (n := 6) (by decide +kernel) (by decide +kernel)
theorem s206_9 : Rn 206 9 L (vI c :: vI b :: vI a :: st) T σ K ↔ st.length ≤ 4 ∧ Rn 185 0 [some (vI a), some (vI b), some (vI c)] [] T σ (fun r T' σ' => Rn 206 12 L (sx_push r st) T' σ' K) := R_S (cm := 185) (n := 3) (idx := 189) (mx := 3) (vs := [vI a, vI b, vI c]) (by decide +kernel) (Or.inl (by decide +kernel)) rfl (by decide +kernel) rfl (by decide +kernel)
theorem s206_12 : Rn 206 12 L (vI a :: st) T σ K ↔ (a ≠ 0 → Rn 206 17 L st T σ K) ∧ (a = 0 → Rn 206 15 L st T σ K) := R_if_ne (off := 5) (by decide +kernel) (by decide)
theorem s206_15 : Rn 206 15 L st T σ K ↔ Rn 206 16 L (vI (-1) :: st) T σ K := R_iconst (n := -1) (by decide +kernel) (by decide)
theorem s206_16 : Rn 206 16 L [vI a] T σ K ↔ K (some (vI a)) T σ := R_ret (by decide +kernel) (by decide +kernel)
theorem s206_17 : Rn 206 17 L st T σ K ↔ Rn 206 18 L (vI 0 :: st) T σ K := R_iconst (n := 0) (by decide +kernel) (by decide)
theorem s206_18 : Rn 206 18 [l0, l1, l2, l3, l4] (vI a :: st) T σ K ↔ Rn 206 19 [l0, l1, some (vI a), l3, l4] st T σ K := R_istore_n (n := 2) (by decide +kernel) rfl
theorem s206_19 : Rn 206 19 [l0, l1, some (vI a), l3, l4] st T σ K ↔ Rn 206 20 [l0, l1, some (vI a), l3, l4] (vI a :: st) T σ K := R_iload_n (n := 2) (by decide +kernel) rfl
theorem s206_20 : Rn 206 20 [l0, some (vI a), l2, l3, l4] st T σ K ↔ Rn 206 21 [l0, some (vI a), l2, l3, l4] (vI a :: st) T σ K := R_iload_n (n := 1) (by decide +kernel) rfl
theorem s206_21 : Rn 206 21 L (vI b :: vI a :: st) T σ K ↔ (b ≤ a → Rn 206 48 L st T σ K) ∧ (a < b → Rn 206 24 L st T σ K) := R_icmp_ge (off := 27) (by decide +kernel) (by decide)
theorem s206_24 : Rn 206 24 [some (vR o), l1, l2, l3, l4] st T σ K ↔ Rn 206 25 [some (vR o), l1, l2, l3, l4] (vR o :: st) T σ K := R_aload_n (n := 0) (by decide +kernel) rfl
theorem s206_25 : Rn 206 25 L (vR o :: st) T σ K ↔ sx_kd T o = 9 ∧ ∃ t, sx_rf T o 7 = some t ∧ Rn 206 28 L (vR t :: st) T σ K := R_getR (idx := 33) (ci := 9) (k := 7) (by decide +kernel) (by decide +kernel) rfl
theorem s206_28 : Rn 206 28 [l0, l1, some (vI a), l3, l4] st T σ K ↔ Rn 206 29 [l0, l1, some (vI a), l3, l4] (vI a :: st) T σ K := R_iload_n (n := 2) (by decide +kernel) rfl
theorem s206_29 : Rn 206 29 L (vI a :: vR o :: st) T σ K ↔ (sx_kd T o = 20 ∧ 0 ≤ a ∧ a < sx_ln T o) ∧ Rn 206 30 L (vI (σ o a) :: st) T σ K := R_iald (by decide +kernel) (by decide)
theorem s206_30 : Rn 206 30 L st T σ K ↔ Rn 206 32 L (vI 97 :: st) T σ K := R_bipush (n := 97) (by decide +kernel) (by decide +kernel)
theorem s206_32 : Rn 206 32 L st T σ K ↔ Rn 206 34 L (vI 122 :: st) T σ K := R_bipush (n := 122) (by decide +kernel) (by decide +kernel)
theorem s206_34 : Rn 206 34 L (vI c :: vI b :: vI a :: st) T σ K ↔ st.length ≤ 4 ∧ Rn 185 0 [some (vI a), some (vI b), some (vI c)] [] T σ (fun r T' σ' => Rn 206 37 L (sx_push r st) T' σ' K) := R_S (cm := 185) (n := 3) (idx := 189) (mx := 3) (vs := [vI a, vI b, vI c]) (by decide +kernel) (Or.inl (by decide +kernel)) rfl (by decide +kernel) rfl (by decide +kernel)
theorem s206_37 : Rn 206 37 L (vI a :: st) T σ K ↔ (a ≠ 0 → Rn 206 42 L st T σ K) ∧ (a = 0 → Rn 206 40 L st T σ K) := R_if_ne (off := 5) (by decide +kernel) (by decide)
theorem s206_40 : Rn 206 40 L st T σ K ↔ Rn 206 41 L (vI (-1) :: st) T σ K := R_iconst (n := -1) (by decide +kernel) (by decide)
theorem s206_41 : Rn 206 41 L [vI a] T σ K ↔ K (some (vI a)) T σ := R_ret (by decide +kernel) (by decide +kernel)
theorem s206_42 : Rn 206 42 [l0, l1, some (vI a), l3, l4] st T σ K ↔ inI (a + 1) ∧ Rn 206 45 [l0, l1, some (vI (a + 1)), l3, l4] st T σ K := R_iinc (n := 2) (d := 1) (by decide +kernel) rfl
theorem s206_45 : Rn 206 45 L st T σ K ↔ Rn 206 19 L st T σ K := R_goto (off := -26) (by decide +kernel) (by decide)
theorem s206_48 : Rn 206 48 L st T σ K ↔ Rn 206 49 L (vI 0 :: st) T σ K := R_iconst (n := 0) (by decide +kernel) (by decide)
theorem s206_49 : Rn 206 49 [l0, l1, l2, l3, l4] (vI a :: st) T σ K ↔ Rn 206 50 [l0, l1, some (vI a), l3, l4] st T σ K := R_istore_n (n := 2) (by decide +kernel) rfl
theorem s206_50 : Rn 206 50 [l0, l1, some (vI a), l3, l4] st T σ K ↔ Rn 206 51 [l0, l1, some (vI a), l3, l4] (vI a :: st) T σ K := R_iload_n (n := 2) (by decide +kernel) rfl
theorem s206_51 : Rn 206 51 L st T σ K ↔ Rn 206 53 L (vI 40 :: st) T σ K := R_bipush (n := 40) (by decide +kernel) (by decide +kernel)
theorem s206_53 : Rn 206 53 L (vI b :: vI a :: st) T σ K ↔ (b ≤ a → Rn 206 151 L st T σ K) ∧ (a < b → Rn 206 56 L st T σ K) := R_icmp_ge (off := 98) (by decide +kernel) (by decide)
theorem s206_56 : Rn 206 56 [some (vR o), l1, l2, l3, l4] st T σ K ↔ Rn 206 57 [some (vR o), l1, l2, l3, l4] (vR o :: st) T σ K := R_aload_n (n := 0) (by decide +kernel) rfl
theorem s206_57 : Rn 206 57 L (vR o :: st) T σ K ↔ sx_kd T o = 9 ∧ ∃ t, sx_rf T o 0 = some t ∧ Rn 206 60 L (vR t :: st) T σ K := R_getR (idx := 7) (ci := 9) (k := 0) (by decide +kernel) (by decide +kernel) rfl
theorem s206_60 : Rn 206 60 L st T σ K ↔ Rn 206 61 L (vI 0 :: st) T σ K := R_iconst (n := 0) (by decide +kernel) (by decide)
theorem s206_61 : Rn 206 61 [l0, l1, some (vI a), l3, l4] st T σ K ↔ Rn 206 62 [l0, l1, some (vI a), l3, l4] (vI a :: st) T σ K := R_iload_n (n := 2) (by decide +kernel) rfl
theorem s206_62 : Rn 206 62 L (vI b :: vI a :: st) T σ K ↔ inI (a + b) ∧ Rn 206 63 L (vI (a + b) :: st) T σ K := R_iadd (by decide +kernel)
theorem s206_63 : Rn 206 63 L (vI a :: vR o :: st) T σ K ↔ (sx_kd T o = 20 ∧ 0 ≤ a ∧ a < sx_ln T o) ∧ Rn 206 64 L (vI (σ o a) :: st) T σ K := R_iald (by decide +kernel) (by decide)
theorem s206_64 : Rn 206 64 L st T σ K ↔ Rn 206 65 L (vI 1 :: st) T σ K := R_iconst (n := 1) (by decide +kernel) (by decide)
theorem s206_65 : Rn 206 65 L (vI b :: vI a :: st) T σ K ↔ (a ≠ b → Rn 206 72 L st T σ K) ∧ (a = b → Rn 206 68 L st T σ K) := R_icmp_ne (off := 7) (by decide +kernel) (by decide)
theorem s206_68 : Rn 206 68 L st T σ K ↔ Rn 206 69 L (vI 1 :: st) T σ K := R_iconst (n := 1) (by decide +kernel) (by decide)
theorem s206_69 : Rn 206 69 L st T σ K ↔ Rn 206 73 L st T σ K := R_goto (off := 4) (by decide +kernel) (by decide)
theorem s206_72 : Rn 206 72 L st T σ K ↔ Rn 206 73 L (vI 0 :: st) T σ K := R_iconst (n := 0) (by decide +kernel) (by decide)
theorem s206_73 : Rn 206 73 [l0, l1, l2, l3, l4] (vI a :: st) T σ K ↔ Rn 206 74 [l0, l1, l2, some (vI a), l4] st T σ K := R_istore_n (n := 3) (by decide +kernel) rfl
theorem s206_74 : Rn 206 74 L st T σ K ↔ Rn 206 75 L (vI 0 :: st) T σ K := R_iconst (n := 0) (by decide +kernel) (by decide)
theorem s206_75 : Rn 206 75 [l0, l1, l2, l3, l4] (vI a :: st) T σ K ↔ Rn 206 77 [l0, l1, l2, l3, some (vI a)] st T σ K := R_istore (n := 4) (by decide +kernel) rfl
theorem s206_77 : Rn 206 77 [l0, l1, l2, l3, some (vI a)] st T σ K ↔ Rn 206 79 [l0, l1, l2, l3, some (vI a)] (vI a :: st) T σ K := R_iload (n := 4) (by decide +kernel) rfl
theorem s206_79 : Rn 206 79 L st T σ K ↔ Rn 206 81 L (vI 6 :: st) T σ K := R_bipush (n := 6) (by decide +kernel) (by decide +kernel)
theorem s206_81 : Rn 206 81 L (vI b :: vI a :: st) T σ K ↔ (b ≤ a → Rn 206 139 L st T σ K) ∧ (a < b → Rn 206 84 L st T σ K) := R_icmp_ge (off := 58) (by decide +kernel) (by decide)
theorem s206_84 : Rn 206 84 [l0, l1, l2, some (vI a), l4] st T σ K ↔ Rn 206 85 [l0, l1, l2, some (vI a), l4] (vI a :: st) T σ K := R_iload_n (n := 3) (by decide +kernel) rfl
theorem s206_85 : Rn 206 85 L (vI a :: st) T σ K ↔ (a = 0 → Rn 206 131 L st T σ K) ∧ (a ≠ 0 → Rn 206 88 L st T σ K) := R_if_eq (off := 46) (by decide +kernel) (by decide)
theorem s206_88 : Rn 206 88 [some (vR o), l1, l2, l3, l4] st T σ K ↔ Rn 206 89 [some (vR o), l1, l2, l3, l4] (vR o :: st) T σ K := R_aload_n (n := 0) (by decide +kernel) rfl
theorem s206_89 : Rn 206 89 L (vR o :: st) T σ K ↔ sx_kd T o = 9 ∧ ∃ t, sx_rf T o 0 = some t ∧ Rn 206 92 L (vR t :: st) T σ K := R_getR (idx := 7) (ci := 9) (k := 0) (by decide +kernel) (by decide +kernel) rfl
theorem s206_92 : Rn 206 92 L st T σ K ↔ Rn 206 95 L (vI 240 :: st) T σ K := R_sipush (n := 240) (by decide +kernel) (by decide +kernel)
theorem s206_95 : Rn 206 95 L st T σ K ↔ Rn 206 97 L (vI 6 :: st) T σ K := R_bipush (n := 6) (by decide +kernel) (by decide +kernel)
theorem s206_97 : Rn 206 97 [l0, l1, some (vI a), l3, l4] st T σ K ↔ Rn 206 98 [l0, l1, some (vI a), l3, l4] (vI a :: st) T σ K := R_iload_n (n := 2) (by decide +kernel) rfl
theorem s206_98 : Rn 206 98 L (vI b :: vI a :: st) T σ K ↔ inI (a * b) ∧ Rn 206 99 L (vI (a * b) :: st) T σ K := R_imul (by decide +kernel)
theorem s206_99 : Rn 206 99 L (vI b :: vI a :: st) T σ K ↔ inI (a + b) ∧ Rn 206 100 L (vI (a + b) :: st) T σ K := R_iadd (by decide +kernel)
theorem s206_100 : Rn 206 100 [l0, l1, l2, l3, some (vI a)] st T σ K ↔ Rn 206 102 [l0, l1, l2, l3, some (vI a)] (vI a :: st) T σ K := R_iload (n := 4) (by decide +kernel) rfl
theorem s206_102 : Rn 206 102 L (vI b :: vI a :: st) T σ K ↔ inI (a + b) ∧ Rn 206 103 L (vI (a + b) :: st) T σ K := R_iadd (by decide +kernel)
theorem s206_103 : Rn 206 103 L (vI a :: vR o :: st) T σ K ↔ (sx_kd T o = 20 ∧ 0 ≤ a ∧ a < sx_ln T o) ∧ Rn 206 104 L (vI (σ o a) :: st) T σ K := R_iald (by decide +kernel) (by decide)
theorem s206_104 : Rn 206 104 [l0, l1, l2, l3, some (vI a)] st T σ K ↔ Rn 206 106 [l0, l1, l2, l3, some (vI a)] (vI a :: st) T σ K := R_iload (n := 4) (by decide +kernel) rfl
theorem s206_106 : Rn 206 106 [l0, some (vI a), l2, l3, l4] st T σ K ↔ Rn 206 107 [l0, some (vI a), l2, l3, l4] (vI a :: st) T σ K := R_iload_n (n := 1) (by decide +kernel) rfl
theorem s206_107 : Rn 206 107 L (vI b :: vI a :: st) T σ K ↔ (b ≤ a → Rn 206 123 L st T σ K) ∧ (a < b → Rn 206 110 L st T σ K) := R_icmp_ge (off := 16) (by decide +kernel) (by decide)
theorem s206_110 : Rn 206 110 [some (vR o), l1, l2, l3, l4] st T σ K ↔ Rn 206 111 [some (vR o), l1, l2, l3, l4] (vR o :: st) T σ K := R_aload_n (n := 0) (by decide +kernel) rfl
theorem s206_111 : Rn 206 111 L (vR o :: st) T σ K ↔ sx_kd T o = 9 ∧ ∃ t, sx_rf T o 7 = some t ∧ Rn 206 114 L (vR t :: st) T σ K := R_getR (idx := 33) (ci := 9) (k := 7) (by decide +kernel) (by decide +kernel) rfl
theorem s206_114 : Rn 206 114 [l0, l1, l2, l3, some (vI a)] st T σ K ↔ Rn 206 116 [l0, l1, l2, l3, some (vI a)] (vI a :: st) T σ K := R_iload (n := 4) (by decide +kernel) rfl
theorem s206_116 : Rn 206 116 L (vI a :: vR o :: st) T σ K ↔ (sx_kd T o = 20 ∧ 0 ≤ a ∧ a < sx_ln T o) ∧ Rn 206 117 L (vI (σ o a) :: st) T σ K := R_iald (by decide +kernel) (by decide)
theorem s206_117 : Rn 206 117 L st T σ K ↔ Rn 206 119 L (vI 96 :: st) T σ K := R_bipush (n := 96) (by decide +kernel) (by decide +kernel)
theorem s206_119 : Rn 206 119 L (vI b :: vI a :: st) T σ K ↔ inI (a - b) ∧ Rn 206 120 L (vI (a - b) :: st) T σ K := R_isub (by decide +kernel)
theorem s206_120 : Rn 206 120 L st T σ K ↔ Rn 206 124 L st T σ K := R_goto (off := 4) (by decide +kernel) (by decide)
theorem s206_123 : Rn 206 123 L st T σ K ↔ Rn 206 124 L (vI 0 :: st) T σ K := R_iconst (n := 0) (by decide +kernel) (by decide)
theorem s206_124 : Rn 206 124 L (vI b :: vI a :: st) T σ K ↔ (a ≠ b → Rn 206 131 L st T σ K) ∧ (a = b → Rn 206 127 L st T σ K) := R_icmp_ne (off := 7) (by decide +kernel) (by decide)
theorem s206_127 : Rn 206 127 L st T σ K ↔ Rn 206 128 L (vI 1 :: st) T σ K := R_iconst (n := 1) (by decide +kernel) (by decide)
theorem s206_128 : Rn 206 128 L st T σ K ↔ Rn 206 132 L st T σ K := R_goto (off := 4) (by decide +kernel) (by decide)
theorem s206_131 : Rn 206 131 L st T σ K ↔ Rn 206 132 L (vI 0 :: st) T σ K := R_iconst (n := 0) (by decide +kernel) (by decide)
theorem s206_132 : Rn 206 132 [l0, l1, l2, l3, l4] (vI a :: st) T σ K ↔ Rn 206 133 [l0, l1, l2, some (vI a), l4] st T σ K := R_istore_n (n := 3) (by decide +kernel) rfl
theorem s206_133 : Rn 206 133 [l0, l1, l2, l3, some (vI a)] st T σ K ↔ inI (a + 1) ∧ Rn 206 136 [l0, l1, l2, l3, some (vI (a + 1))] st T σ K := R_iinc (n := 4) (d := 1) (by decide +kernel) rfl
theorem s206_136 : Rn 206 136 L st T σ K ↔ Rn 206 77 L st T σ K := R_goto (off := -59) (by decide +kernel) (by decide)
theorem s206_139 : Rn 206 139 [l0, l1, l2, some (vI a), l4] st T σ K ↔ Rn 206 140 [l0, l1, l2, some (vI a), l4] (vI a :: st) T σ K := R_iload_n (n := 3) (by decide +kernel) rfl
theorem s206_140 : Rn 206 140 L (vI a :: st) T σ K ↔ (a = 0 → Rn 206 145 L st T σ K) ∧ (a ≠ 0 → Rn 206 143 L st T σ K) := R_if_eq (off := 5) (by decide +kernel) (by decide)
theorem s206_143 : Rn 206 143 [l0, l1, some (vI a), l3, l4] st T σ K ↔ Rn 206 144 [l0, l1, some (vI a), l3, l4] (vI a :: st) T σ K := R_iload_n (n := 2) (by decide +kernel) rfl
theorem s206_144 : Rn 206 144 L [vI a] T σ K ↔ K (some (vI a)) T σ := R_ret (by decide +kernel) (by decide +kernel)
theorem s206_145 : Rn 206 145 [l0, l1, some (vI a), l3, l4] st T σ K ↔ inI (a + 1) ∧ Rn 206 148 [l0, l1, some (vI (a + 1)), l3, l4] st T σ K := R_iinc (n := 2) (d := 1) (by decide +kernel) rfl
theorem s206_148 : Rn 206 148 L st T σ K ↔ Rn 206 50 L st T σ K := R_goto (off := -98) (by decide +kernel) (by decide)
theorem s206_151 : Rn 206 151 L st T σ K ↔ Rn 206 152 L (vI (-1) :: st) T σ K := R_iconst (n := -1) (by decide +kernel) (by decide)
theorem s206_152 : Rn 206 152 L [vI a] T σ K ↔ K (some (vI a)) T σ := R_ret (by decide +kernel) (by decide +kernel)
theorem s207_0 : Rn 207 0 [some (vR o), l1, l2] st T σ K ↔ Rn 207 1 [some (vR o), l1, l2] (vR o :: st) T σ K := R_aload_n (n := 0) (by decide +kernel) rfl
theorem s207_1 : Rn 207 1 [l0, some (vI a), l2] st T σ K ↔ Rn 207 2 [l0, some (vI a), l2] (vI a :: st) T σ K := R_iload_n (n := 1) (by decide +kernel) rfl
theorem s207_2 : Rn 207 2 L (vI a :: vR o :: st) T σ K ↔ (sx_kd T o = 9 ∧ st.length ≤ 4) ∧ Rn 205 0 [some (vR o), some (vI a)] [] T σ (fun r T' σ' => Rn 207 5 L (sx_push r st) T' σ' K) := R_V (cm := 205) (n := 1) (idx := 254) (ci := 9) (mx := 2) (vs := [vI a]) (by decide +kernel) (by decide +kernel) rfl (by decide +kernel) rfl (by decide +kernel) (by decide +kernel)
theorem s207_5 : Rn 207 5 L (vI a :: st) T σ K ↔ (a ≠ 0 → Rn 207 10 L st T σ K) ∧ (a = 0 → Rn 207 8 L st T σ K) := R_if_ne (off := 5) (by decide +kernel) (by decide)
theorem s207_8 : Rn 207 8 L st T σ K ↔ Rn 207 9 L (vI (-1) :: st) T σ K := R_iconst (n := -1) (by decide +kernel) (by decide)
theorem s207_9 : Rn 207 9 L [vI a] T σ K ↔ K (some (vI a)) T σ := R_ret (by decide +kernel) (by decide +kernel)
theorem s207_10 : Rn 207 10 [l0, l1, some (vI a)] st T σ K ↔ Rn 207 11 [l0, l1, some (vI a)] (vI a :: st) T σ K := R_iload_n (n := 2) (by decide +kernel) rfl
theorem s207_11 : Rn 207 11 L (vI a :: st) T σ K ↔ sx_sw [(0, 52), (1, 62), (2, 72), (3, 82), (4, 93), (5, 104), (6, 110)] 116 a (fun t => Rn 207 t L st T σ K) := R_table (d := 105) (lo := 0) (hi := 6) (offs := #[41, 51, 61, 71, 82, 93, 99]) (len := 41) (by decide +kernel) (by decide +kernel)
theorem s207_52 : Rn 207 52 [some (vR o), l1, l2] st T σ K ↔ Rn 207 53 [some (vR o), l1, l2] (vR o :: st) T σ K := R_aload_n (n := 0) (by decide +kernel) rfl
theorem s207_53 : Rn 207 53 L (vR o :: st) T σ K ↔ sx_kd T o = 9 ∧ ∃ t, sx_rf T o 0 = some t ∧ Rn 207 56 L (vR t :: st) T σ K := R_getR (idx := 7) (ci := 9) (k := 0) (by decide +kernel) (by decide +kernel) rfl
theorem s207_56 : Rn 207 56 L st T σ K ↔ Rn 207 58 L (vI 40 :: st) T σ K := R_bipush (n := 40) (by decide +kernel) (by decide +kernel)
theorem s207_58 : Rn 207 58 [l0, some (vI a), l2] st T σ K ↔ Rn 207 59 [l0, some (vI a), l2] (vI a :: st) T σ K := R_iload_n (n := 1) (by decide +kernel) rfl
theorem s207_59 : Rn 207 59 L (vI b :: vI a :: st) T σ K ↔ inI (a + b) ∧ Rn 207 60 L (vI (a + b) :: st) T σ K := R_iadd (by decide +kernel)
theorem s207_60 : Rn 207 60 L (vI a :: vR o :: st) T σ K ↔ (sx_kd T o = 20 ∧ 0 ≤ a ∧ a < sx_ln T o) ∧ Rn 207 61 L (vI (σ o a) :: st) T σ K := R_iald (by decide +kernel) (by decide)
theorem s207_61 : Rn 207 61 L [vI a] T σ K ↔ K (some (vI a)) T σ := R_ret (by decide +kernel) (by decide +kernel)
theorem s207_62 : Rn 207 62 [some (vR o), l1, l2] st T σ K ↔ Rn 207 63 [some (vR o), l1, l2] (vR o :: st) T σ K := R_aload_n (n := 0) (by decide +kernel) rfl
theorem s207_63 : Rn 207 63 L (vR o :: st) T σ K ↔ sx_kd T o = 9 ∧ ∃ t, sx_rf T o 0 = some t ∧ Rn 207 66 L (vR t :: st) T σ K := R_getR (idx := 7) (ci := 9) (k := 0) (by decide +kernel) (by decide +kernel) rfl
theorem s207_66 : Rn 207 66 L st T σ K ↔ Rn 207 68 L (vI 80 :: st) T σ K := R_bipush (n := 80) (by decide +kernel) (by decide +kernel)
theorem s207_68 : Rn 207 68 [l0, some (vI a), l2] st T σ K ↔ Rn 207 69 [l0, some (vI a), l2] (vI a :: st) T σ K := R_iload_n (n := 1) (by decide +kernel) rfl
theorem s207_69 : Rn 207 69 L (vI b :: vI a :: st) T σ K ↔ inI (a + b) ∧ Rn 207 70 L (vI (a + b) :: st) T σ K := R_iadd (by decide +kernel)
theorem s207_70 : Rn 207 70 L (vI a :: vR o :: st) T σ K ↔ (sx_kd T o = 20 ∧ 0 ≤ a ∧ a < sx_ln T o) ∧ Rn 207 71 L (vI (σ o a) :: st) T σ K := R_iald (by decide +kernel) (by decide)
theorem s207_71 : Rn 207 71 L [vI a] T σ K ↔ K (some (vI a)) T σ := R_ret (by decide +kernel) (by decide +kernel)
theorem s207_72 : Rn 207 72 [some (vR o), l1, l2] st T σ K ↔ Rn 207 73 [some (vR o), l1, l2] (vR o :: st) T σ K := R_aload_n (n := 0) (by decide +kernel) rfl
theorem s207_73 : Rn 207 73 L (vR o :: st) T σ K ↔ sx_kd T o = 9 ∧ ∃ t, sx_rf T o 0 = some t ∧ Rn 207 76 L (vR t :: st) T σ K := R_getR (idx := 7) (ci := 9) (k := 0) (by decide +kernel) (by decide +kernel) rfl
theorem s207_76 : Rn 207 76 L st T σ K ↔ Rn 207 78 L (vI 120 :: st) T σ K := R_bipush (n := 120) (by decide +kernel) (by decide +kernel)
theorem s207_78 : Rn 207 78 [l0, some (vI a), l2] st T σ K ↔ Rn 207 79 [l0, some (vI a), l2] (vI a :: st) T σ K := R_iload_n (n := 1) (by decide +kernel) rfl
theorem s207_79 : Rn 207 79 L (vI b :: vI a :: st) T σ K ↔ inI (a + b) ∧ Rn 207 80 L (vI (a + b) :: st) T σ K := R_iadd (by decide +kernel)
theorem s207_80 : Rn 207 80 L (vI a :: vR o :: st) T σ K ↔ (sx_kd T o = 20 ∧ 0 ≤ a ∧ a < sx_ln T o) ∧ Rn 207 81 L (vI (σ o a) :: st) T σ K := R_iald (by decide +kernel) (by decide)
theorem s207_81 : Rn 207 81 L [vI a] T σ K ↔ K (some (vI a)) T σ := R_ret (by decide +kernel) (by decide +kernel)
theorem s207_82 : Rn 207 82 [some (vR o), l1, l2] st T σ K ↔ Rn 207 83 [some (vR o), l1, l2] (vR o :: st) T σ K := R_aload_n (n := 0) (by decide +kernel) rfl
theorem s207_83 : Rn 207 83 L (vR o :: st) T σ K ↔ sx_kd T o = 9 ∧ ∃ t, sx_rf T o 0 = some t ∧ Rn 207 86 L (vR t :: st) T σ K := R_getR (idx := 7) (ci := 9) (k := 0) (by decide +kernel) (by decide +kernel) rfl
theorem s207_86 : Rn 207 86 L st T σ K ↔ Rn 207 89 L (vI 160 :: st) T σ K := R_sipush (n := 160) (by decide +kernel) (by decide +kernel)
theorem s207_89 : Rn 207 89 [l0, some (vI a), l2] st T σ K ↔ Rn 207 90 [l0, some (vI a), l2] (vI a :: st) T σ K := R_iload_n (n := 1) (by decide +kernel) rfl
theorem s207_90 : Rn 207 90 L (vI b :: vI a :: st) T σ K ↔ inI (a + b) ∧ Rn 207 91 L (vI (a + b) :: st) T σ K := R_iadd (by decide +kernel)
theorem s207_91 : Rn 207 91 L (vI a :: vR o :: st) T σ K ↔ (sx_kd T o = 20 ∧ 0 ≤ a ∧ a < sx_ln T o) ∧ Rn 207 92 L (vI (σ o a) :: st) T σ K := R_iald (by decide +kernel) (by decide)
theorem s207_92 : Rn 207 92 L [vI a] T σ K ↔ K (some (vI a)) T σ := R_ret (by decide +kernel) (by decide +kernel)
theorem s207_93 : Rn 207 93 [some (vR o), l1, l2] st T σ K ↔ Rn 207 94 [some (vR o), l1, l2] (vR o :: st) T σ K := R_aload_n (n := 0) (by decide +kernel) rfl
theorem s207_94 : Rn 207 94 L (vR o :: st) T σ K ↔ sx_kd T o = 9 ∧ ∃ t, sx_rf T o 0 = some t ∧ Rn 207 97 L (vR t :: st) T σ K := R_getR (idx := 7) (ci := 9) (k := 0) (by decide +kernel) (by decide +kernel) rfl
theorem s207_97 : Rn 207 97 L st T σ K ↔ Rn 207 100 L (vI 200 :: st) T σ K := R_sipush (n := 200) (by decide +kernel) (by decide +kernel)
theorem s207_100 : Rn 207 100 [l0, some (vI a), l2] st T σ K ↔ Rn 207 101 [l0, some (vI a), l2] (vI a :: st) T σ K := R_iload_n (n := 1) (by decide +kernel) rfl
theorem s207_101 : Rn 207 101 L (vI b :: vI a :: st) T σ K ↔ inI (a + b) ∧ Rn 207 102 L (vI (a + b) :: st) T σ K := R_iadd (by decide +kernel)
theorem s207_102 : Rn 207 102 L (vI a :: vR o :: st) T σ K ↔ (sx_kd T o = 20 ∧ 0 ≤ a ∧ a < sx_ln T o) ∧ Rn 207 103 L (vI (σ o a) :: st) T σ K := R_iald (by decide +kernel) (by decide)
theorem s207_103 : Rn 207 103 L [vI a] T σ K ↔ K (some (vI a)) T σ := R_ret (by decide +kernel) (by decide +kernel)
theorem s207_104 : Rn 207 104 [some (vR o), l1, l2] st T σ K ↔ Rn 207 105 [some (vR o), l1, l2] (vR o :: st) T σ K := R_aload_n (n := 0) (by decide +kernel) rfl
theorem s207_105 : Rn 207 105 [l0, some (vI a), l2] st T σ K ↔ Rn 207 106 [l0, some (vI a), l2] (vI a :: st) T σ K := R_iload_n (n := 1) (by decide +kernel) rfl
theorem s207_106 : Rn 207 106 L (vI a :: vR o :: st) T σ K ↔ (sx_kd T o = 9 ∧ st.length ≤ 4) ∧ Rn 208 0 [some (vR o), some (vI a), none, none] [] T σ (fun r T' σ' => Rn 207 109 L (sx_push r st) T' σ' K) := R_V (cm := 208) (n := 1) (idx := 263) (ci := 9) (mx := 4) (vs := [vI a]) (by decide +kernel) (by decide +kernel) rfl (by decide +kernel) rfl (by decide +kernel) (by decide +kernel)
theorem s207_109 : Rn 207 109 L [vI a] T σ K ↔ K (some (vI a)) T σ := R_ret (by decide +kernel) (by decide +kernel)
theorem s207_110 : Rn 207 110 [some (vR o), l1, l2] st T σ K ↔ Rn 207 111 [some (vR o), l1, l2] (vR o :: st) T σ K := R_aload_n (n := 0) (by decide +kernel) rfl
theorem s207_111 : Rn 207 111 [l0, some (vI a), l2] st T σ K ↔ Rn 207 112 [l0, some (vI a), l2] (vI a :: st) T σ K := R_iload_n (n := 1) (by decide +kernel) rfl
theorem s207_112 : Rn 207 112 L (vI a :: vR o :: st) T σ K ↔ (sx_kd T o = 9 ∧ st.length ≤ 4) ∧ Rn 210 0 [some (vR o), some (vI a), none, none] [] T σ (fun r T' σ' => Rn 207 115 L (sx_push r st) T' σ' K) := R_V (cm := 210) (n := 1) (idx := 266) (ci := 9) (mx := 4) (vs := [vI a]) (by decide +kernel) (by decide +kernel) rfl (by decide +kernel) rfl (by decide +kernel) (by decide +kernel)
theorem s207_115 : Rn 207 115 L [vI a] T σ K ↔ K (some (vI a)) T σ := R_ret (by decide +kernel) (by decide +kernel)
theorem s207_116 : Rn 207 116 L st T σ K ↔ Rn 207 117 L (vI (-1) :: st) T σ K := R_iconst (n := -1) (by decide +kernel) (by decide)
theorem s207_117 : Rn 207 117 L [vI a] T σ K ↔ K (some (vI a)) T σ := R_ret (by decide +kernel) (by decide +kernel)
theorem s208_0 : Rn 208 0 L st T σ K ↔ Rn 208 1 L (vI 0 :: st) T σ K := R_iconst (n := 0) (by decide +kernel) (by decide)
theorem s208_1 : Rn 208 1 [l0, l1, l2, l3] (vI a :: st) T σ K ↔ Rn 208 2 [l0, l1, some (vI a), l3] st T σ K := R_istore_n (n := 2) (by decide +kernel) rfl
theorem s208_2 : Rn 208 2 L st T σ K ↔ Rn 208 3 L (vI 0 :: st) T σ K := R_iconst (n := 0) (by decide +kernel) (by decide)
theorem s208_3 : Rn 208 3 [l0, l1, l2, l3] (vI a :: st) T σ K ↔ Rn 208 4 [l0, l1, l2, some (vI a)] st T σ K := R_istore_n (n := 3) (by decide +kernel) rfl
theorem s208_4 : Rn 208 4 [l0, l1, l2, some (vI a)] st T σ K ↔ Rn 208 5 [l0, l1, l2, some (vI a)] (vI a :: st) T σ K := R_iload_n (n := 3) (by decide +kernel) rfl
theorem s208_5 : Rn 208 5 L st T σ K ↔ Rn 208 7 L (vI 40 :: st) T σ K := R_bipush (n := 40) (by decide +kernel) (by decide +kernel)
theorem s208_7 : Rn 208 7 L (vI b :: vI a :: st) T σ K ↔ (b ≤ a → Rn 208 33 L st T σ K) ∧ (a < b → Rn 208 10 L st T σ K) := R_icmp_ge (off := 26) (by decide +kernel) (by decide)
theorem s208_10 : Rn 208 10 [l0, l1, some (vI a), l3] st T σ K ↔ Rn 208 11 [l0, l1, some (vI a), l3] (vI a :: st) T σ K := R_iload_n (n := 2) (by decide +kernel) rfl
theorem s208_11 : Rn 208 11 [some (vR o), l1, l2, l3] st T σ K ↔ Rn 208 12 [some (vR o), l1, l2, l3] (vR o :: st) T σ K := R_aload_n (n := 0) (by decide +kernel) rfl
theorem s208_12 : Rn 208 12 [l0, l1, l2, some (vI a)] st T σ K ↔ Rn 208 13 [l0, l1, l2, some (vI a)] (vI a :: st) T σ K := R_iload_n (n := 3) (by decide +kernel) rfl
theorem s208_13 : Rn 208 13 [l0, some (vI a), l2, l3] st T σ K ↔ Rn 208 14 [l0, some (vI a), l2, l3] (vI a :: st) T σ K := R_iload_n (n := 1) (by decide +kernel) rfl
theorem s208_14 : Rn 208 14 L (vI b :: vI a :: vR o :: st) T σ K ↔ (sx_kd T o = 9 ∧ st.length ≤ 4) ∧ Rn 209 0 [some (vR o), some (vI a), some (vI b)] [] T σ (fun r T' σ' => Rn 208 17 L (sx_push r st) T' σ' K) := R_V (cm := 209) (n := 2) (idx := 257) (ci := 9) (mx := 3) (vs := [vI a, vI b]) (by decide +kernel) (by decide +kernel) rfl (by decide +kernel) rfl (by decide +kernel) (by decide +kernel)
theorem s208_17 : Rn 208 17 L (vI a :: st) T σ K ↔ (a = 0 → Rn 208 24 L st T σ K) ∧ (a ≠ 0 → Rn 208 20 L st T σ K) := R_if_eq (off := 7) (by decide +kernel) (by decide)
theorem s208_20 : Rn 208 20 L st T σ K ↔ Rn 208 21 L (vI 1 :: st) T σ K := R_iconst (n := 1) (by decide +kernel) (by decide)
theorem s208_21 : Rn 208 21 L st T σ K ↔ Rn 208 25 L st T σ K := R_goto (off := 4) (by decide +kernel) (by decide)
theorem s208_24 : Rn 208 24 L st T σ K ↔ Rn 208 25 L (vI 0 :: st) T σ K := R_iconst (n := 0) (by decide +kernel) (by decide)
theorem s208_25 : Rn 208 25 L (vI b :: vI a :: st) T σ K ↔ inI (a + b) ∧ Rn 208 26 L (vI (a + b) :: st) T σ K := R_iadd (by decide +kernel)
theorem s208_26 : Rn 208 26 [l0, l1, l2, l3] (vI a :: st) T σ K ↔ Rn 208 27 [l0, l1, some (vI a), l3] st T σ K := R_istore_n (n := 2) (by decide +kernel) rfl
theorem s208_27 : Rn 208 27 [l0, l1, l2, some (vI a)] st T σ K ↔ inI (a + 1) ∧ Rn 208 30 [l0, l1, l2, some (vI (a + 1))] st T σ K := R_iinc (n := 3) (d := 1) (by decide +kernel) rfl
theorem s208_30 : Rn 208 30 L st T σ K ↔ Rn 208 4 L st T σ K := R_goto (off := -26) (by decide +kernel) (by decide)
theorem s208_33 : Rn 208 33 [l0, l1, some (vI a), l3] st T σ K ↔ Rn 208 34 [l0, l1, some (vI a), l3] (vI a :: st) T σ K := R_iload_n (n := 2) (by decide +kernel) rfl
theorem s208_34 : Rn 208 34 L [vI a] T σ K ↔ K (some (vI a)) T σ := R_ret (by decide +kernel) (by decide +kernel)
theorem s209_0 : Rn 209 0 [some (vR o), l1, l2] st T σ K ↔ Rn 209 1 [some (vR o), l1, l2] (vR o :: st) T σ K := R_aload_n (n := 0) (by decide +kernel) rfl
theorem s209_1 : Rn 209 1 L (vR o :: st) T σ K ↔ sx_kd T o = 9 ∧ ∃ t, sx_rf T o 0 = some t ∧ Rn 209 4 L (vR t :: st) T σ K := R_getR (idx := 7) (ci := 9) (k := 0) (by decide +kernel) (by decide +kernel) rfl
theorem s209_4 : Rn 209 4 L st T σ K ↔ Rn 209 5 L (vI 0 :: st) T σ K := R_iconst (n := 0) (by decide +kernel) (by decide)
theorem s209_5 : Rn 209 5 [l0, some (vI a), l2] st T σ K ↔ Rn 209 6 [l0, some (vI a), l2] (vI a :: st) T σ K := R_iload_n (n := 1) (by decide +kernel) rfl
theorem s209_6 : Rn 209 6 L (vI b :: vI a :: st) T σ K ↔ inI (a + b) ∧ Rn 209 7 L (vI (a + b) :: st) T σ K := R_iadd (by decide +kernel)
theorem s209_7 : Rn 209 7 L (vI a :: vR o :: st) T σ K ↔ (sx_kd T o = 20 ∧ 0 ≤ a ∧ a < sx_ln T o) ∧ Rn 209 8 L (vI (σ o a) :: st) T σ K := R_iald (by decide +kernel) (by decide)
theorem s209_8 : Rn 209 8 L st T σ K ↔ Rn 209 9 L (vI 1 :: st) T σ K := R_iconst (n := 1) (by decide +kernel) (by decide)
theorem s209_9 : Rn 209 9 L (vI b :: vI a :: st) T σ K ↔ (a ≠ b → Rn 209 45 L st T σ K) ∧ (a = b → Rn 209 12 L st T σ K) := R_icmp_ne (off := 36) (by decide +kernel) (by decide)
theorem s209_12 : Rn 209 12 [some (vR o), l1, l2] st T σ K ↔ Rn 209 13 [some (vR o), l1, l2] (vR o :: st) T σ K := R_aload_n (n := 0) (by decide +kernel) rfl
theorem s209_13 : Rn 209 13 L (vR o :: st) T σ K ↔ sx_kd T o = 9 ∧ ∃ t, sx_rf T o 0 = some t ∧ Rn 209 16 L (vR t :: st) T σ K := R_getR (idx := 7) (ci := 9) (k := 0) (by decide +kernel) (by decide +kernel) rfl
theorem s209_16 : Rn 209 16 L st T σ K ↔ Rn 209 19 L (vI 160 :: st) T σ K := R_sipush (n := 160) (by decide +kernel) (by decide +kernel)
theorem s209_19 : Rn 209 19 [l0, some (vI a), l2] st T σ K ↔ Rn 209 20 [l0, some (vI a), l2] (vI a :: st) T σ K := R_iload_n (n := 1) (by decide +kernel) rfl
theorem s209_20 : Rn 209 20 L (vI b :: vI a :: st) T σ K ↔ inI (a + b) ∧ Rn 209 21 L (vI (a + b) :: st) T σ K := R_iadd (by decide +kernel)
theorem s209_21 : Rn 209 21 L (vI a :: vR o :: st) T σ K ↔ (sx_kd T o = 20 ∧ 0 ≤ a ∧ a < sx_ln T o) ∧ Rn 209 22 L (vI (σ o a) :: st) T σ K := R_iald (by decide +kernel) (by decide)
theorem s209_22 : Rn 209 22 L st T σ K ↔ Rn 209 24 L (vI 10 :: st) T σ K := R_bipush (n := 10) (by decide +kernel) (by decide +kernel)
theorem s209_24 : Rn 209 24 L (vI b :: vI a :: st) T σ K ↔ (b ≤ a → Rn 209 45 L st T σ K) ∧ (a < b → Rn 209 27 L st T σ K) := R_icmp_ge (off := 21) (by decide +kernel) (by decide)
theorem s209_27 : Rn 209 27 [some (vR o), l1, l2] st T σ K ↔ Rn 209 28 [some (vR o), l1, l2] (vR o :: st) T σ K := R_aload_n (n := 0) (by decide +kernel) rfl
theorem s209_28 : Rn 209 28 L (vR o :: st) T σ K ↔ sx_kd T o = 9 ∧ ∃ t, sx_rf T o 0 = some t ∧ Rn 209 31 L (vR t :: st) T σ K := R_getR (idx := 7) (ci := 9) (k := 0) (by decide +kernel) (by decide +kernel) rfl
theorem s209_31 : Rn 209 31 L st T σ K ↔ Rn 209 34 L (vI 200 :: st) T σ K := R_sipush (n := 200) (by decide +kernel) (by decide +kernel)
theorem s209_34 : Rn 209 34 [l0, some (vI a), l2] st T σ K ↔ Rn 209 35 [l0, some (vI a), l2] (vI a :: st) T σ K := R_iload_n (n := 1) (by decide +kernel) rfl
theorem s209_35 : Rn 209 35 L (vI b :: vI a :: st) T σ K ↔ inI (a + b) ∧ Rn 209 36 L (vI (a + b) :: st) T σ K := R_iadd (by decide +kernel)
theorem s209_36 : Rn 209 36 L (vI a :: vR o :: st) T σ K ↔ (sx_kd T o = 20 ∧ 0 ≤ a ∧ a < sx_ln T o) ∧ Rn 209 37 L (vI (σ o a) :: st) T σ K := R_iald (by decide +kernel) (by decide)
theorem s209_37 : Rn 209 37 [l0, l1, some (vI a)] st T σ K ↔ Rn 209 38 [l0, l1, some (vI a)] (vI a :: st) T σ K := R_iload_n (n := 2) (by decide +kernel) rfl
theorem s209_38 : Rn 209 38 L (vI b :: vI a :: st) T σ K ↔ (a ≠ b → Rn 209 45 L st T σ K) ∧ (a = b → Rn 209 41 L st T σ K) := R_icmp_ne (off := 7) (by decide +kernel) (by decide)
theorem s209_41 : Rn 209 41 L st T σ K ↔ Rn 209 42 L (vI 1 :: st) T σ K := R_iconst (n := 1) (by decide +kernel) (by decide)
theorem s209_42 : Rn 209 42 L st T σ K ↔ Rn 209 46 L st T σ K := R_goto (off := 4) (by decide +kernel) (by decide)
theorem s209_45 : Rn 209 45 L st T σ K ↔ Rn 209 46 L (vI 0 :: st) T σ K := R_iconst (n := 0) (by decide +kernel) (by decide)
theorem s209_46 : Rn 209 46 L [vI a] T σ K ↔ (a = 0 ∨ a = 1) ∧ K (some (vI a)) T σ := R_retZ (by decide +kernel) (by decide +kernel)
theorem s210_0 : Rn 210 0 L st T σ K ↔ Rn 210 1 L (vI 0 :: st) T σ K := R_iconst (n := 0) (by decide +kernel) (by decide)
theorem s210_1 : Rn 210 1 [l0, l1, l2, l3] (vI a :: st) T σ K ↔ Rn 210 2 [l0, l1, some (vI a), l3] st T σ K := R_istore_n (n := 2) (by decide +kernel) rfl
theorem s210_2 : Rn 210 2 L st T σ K ↔ Rn 210 3 L (vI 0 :: st) T σ K := R_iconst (n := 0) (by decide +kernel) (by decide)
theorem s210_3 : Rn 210 3 [l0, l1, l2, l3] (vI a :: st) T σ K ↔ Rn 210 4 [l0, l1, l2, some (vI a)] st T σ K := R_istore_n (n := 3) (by decide +kernel) rfl
theorem s210_4 : Rn 210 4 [l0, l1, l2, some (vI a)] st T σ K ↔ Rn 210 5 [l0, l1, l2, some (vI a)] (vI a :: st) T σ K := R_iload_n (n := 3) (by decide +kernel) rfl
theorem s210_5 : Rn 210 5 L st T σ K ↔ Rn 210 7 L (vI 40 :: st) T σ K := R_bipush (n := 40) (by decide +kernel) (by decide +kernel)
theorem s210_7 : Rn 210 7 L (vI b :: vI a :: st) T σ K ↔ (b ≤ a → Rn 210 45 L st T σ K) ∧ (a < b → Rn 210 10 L st T σ K) := R_icmp_ge (off := 38) (by decide +kernel) (by decide)
theorem s210_10 : Rn 210 10 [l0, l1, some (vI a), l3] st T σ K ↔ Rn 210 11 [l0, l1, some (vI a), l3] (vI a :: st) T σ K := R_iload_n (n := 2) (by decide +kernel) rfl
theorem s210_11 : Rn 210 11 [some (vR o), l1, l2, l3] st T σ K ↔ Rn 210 12 [some (vR o), l1, l2, l3] (vR o :: st) T σ K := R_aload_n (n := 0) (by decide +kernel) rfl
theorem s210_12 : Rn 210 12 L (vR o :: st) T σ K ↔ sx_kd T o = 9 ∧ ∃ t, sx_rf T o 0 = some t ∧ Rn 210 15 L (vR t :: st) T σ K := R_getR (idx := 7) (ci := 9) (k := 0) (by decide +kernel) (by decide +kernel) rfl
theorem s210_15 : Rn 210 15 L st T σ K ↔ Rn 210 16 L (vI 0 :: st) T σ K := R_iconst (n := 0) (by decide +kernel) (by decide)
theorem s210_16 : Rn 210 16 [l0, l1, l2, some (vI a)] st T σ K ↔ Rn 210 17 [l0, l1, l2, some (vI a)] (vI a :: st) T σ K := R_iload_n (n := 3) (by decide +kernel) rfl
theorem s210_17 : Rn 210 17 L (vI b :: vI a :: st) T σ K ↔ inI (a + b) ∧ Rn 210 18 L (vI (a + b) :: st) T σ K := R_iadd (by decide +kernel)
theorem s210_18 : Rn 210 18 L (vI a :: vR o :: st) T σ K ↔ (sx_kd T o = 20 ∧ 0 ≤ a ∧ a < sx_ln T o) ∧ Rn 210 19 L (vI (σ o a) :: st) T σ K := R_iald (by decide +kernel) (by decide)
theorem s210_19 : Rn 210 19 L st T σ K ↔ Rn 210 20 L (vI 1 :: st) T σ K := R_iconst (n := 1) (by decide +kernel) (by decide)
theorem s210_20 : Rn 210 20 L (vI b :: vI a :: st) T σ K ↔ (a ≠ b → Rn 210 36 L st T σ K) ∧ (a = b → Rn 210 23 L st T σ K) := R_icmp_ne (off := 16) (by decide +kernel) (by decide)
theorem s210_23 : Rn 210 23 [some (vR o), l1, l2, l3] st T σ K ↔ Rn 210 24 [some (vR o), l1, l2, l3] (vR o :: st) T σ K := R_aload_n (n := 0) (by decide +kernel) rfl
theorem s210_24 : Rn 210 24 [l0, l1, l2, some (vI a)] st T σ K ↔ Rn 210 25 [l0, l1, l2, some (vI a)] (vI a :: st) T σ K := R_iload_n (n := 3) (by decide +kernel) rfl
theorem s210_25 : Rn 210 25 [l0, some (vI a), l2, l3] st T σ K ↔ Rn 210 26 [l0, some (vI a), l2, l3] (vI a :: st) T σ K := R_iload_n (n := 1) (by decide +kernel) rfl
theorem s210_26 : Rn 210 26 L (vI b :: vI a :: vR o :: st) T σ K ↔ (sx_kd T o = 9 ∧ st.length ≤ 4) ∧ Rn 211 0 [some (vR o), some (vI a), some (vI b), none] [] T σ (fun r T' σ' => Rn 210 29 L (sx_push r st) T' σ' K) := R_V (cm := 211) (n := 2) (idx := 260) (ci := 9) (mx := 4) (vs := [vI a, vI b]) (by decide +kernel) (by decide +kernel) rfl (by decide +kernel) rfl (by decide +kernel) (by decide +kernel)
theorem s210_29 : Rn 210 29 L (vI a :: st) T σ K ↔ (a = 0 → Rn 210 36 L st T σ K) ∧ (a ≠ 0 → Rn 210 32 L st T σ K) := R_if_eq (off := 7) (by decide +kernel) (by decide)
theorem s210_32 : Rn 210 32 L st T σ K ↔ Rn 210 33 L (vI 1 :: st) T σ K := R_iconst (n := 1) (by decide +kernel) (by decide)
theorem s210_33 : Rn 210 33 L st T σ K ↔ Rn 210 37 L st T σ K := R_goto (off := 4) (by decide +kernel) (by decide)
theorem s210_36 : Rn 210 36 L st T σ K ↔ Rn 210 37 L (vI 0 :: st) T σ K := R_iconst (n := 0) (by decide +kernel) (by decide)
theorem s210_37 : Rn 210 37 L (vI b :: vI a :: st) T σ K ↔ inI (a + b) ∧ Rn 210 38 L (vI (a + b) :: st) T σ K := R_iadd (by decide +kernel)
theorem s210_38 : Rn 210 38 [l0, l1, l2, l3] (vI a :: st) T σ K ↔ Rn 210 39 [l0, l1, some (vI a), l3] st T σ K := R_istore_n (n := 2) (by decide +kernel) rfl
theorem s210_39 : Rn 210 39 [l0, l1, l2, some (vI a)] st T σ K ↔ inI (a + 1) ∧ Rn 210 42 [l0, l1, l2, some (vI (a + 1))] st T σ K := R_iinc (n := 3) (d := 1) (by decide +kernel) rfl
theorem s210_42 : Rn 210 42 L st T σ K ↔ Rn 210 4 L st T σ K := R_goto (off := -38) (by decide +kernel) (by decide)
theorem s210_45 : Rn 210 45 [l0, l1, some (vI a), l3] st T σ K ↔ Rn 210 46 [l0, l1, some (vI a), l3] (vI a :: st) T σ K := R_iload_n (n := 2) (by decide +kernel) rfl
theorem s210_46 : Rn 210 46 L [vI a] T σ K ↔ K (some (vI a)) T σ := R_ret (by decide +kernel) (by decide +kernel)
theorem s211_0 : Rn 211 0 [l0, some (vI a), l2, l3] st T σ K ↔ Rn 211 1 [l0, some (vI a), l2, l3] (vI a :: st) T σ K := R_iload_n (n := 1) (by decide +kernel) rfl
theorem s211_1 : Rn 211 1 [l0, l1, l2, l3] (vI a :: st) T σ K ↔ Rn 211 2 [l0, l1, l2, some (vI a)] st T σ K := R_istore_n (n := 3) (by decide +kernel) rfl
theorem s211_2 : Rn 211 2 [some (vR o), l1, l2, l3] st T σ K ↔ Rn 211 3 [some (vR o), l1, l2, l3] (vR o :: st) T σ K := R_aload_n (n := 0) (by decide +kernel) rfl
theorem s211_3 : Rn 211 3 L (vR o :: st) T σ K ↔ sx_kd T o = 9 ∧ ∃ t, sx_rf T o 0 = some t ∧ Rn 211 6 L (vR t :: st) T σ K := R_getR (idx := 7) (ci := 9) (k := 0) (by decide +kernel) (by decide +kernel) rfl
theorem s211_6 : Rn 211 6 L st T σ K ↔ Rn 211 9 L (vI 160 :: st) T σ K := R_sipush (n := 160) (by decide +kernel) (by decide +kernel)
theorem s211_9 : Rn 211 9 [l0, l1, l2, some (vI a)] st T σ K ↔ Rn 211 10 [l0, l1, l2, some (vI a)] (vI a :: st) T σ K := R_iload_n (n := 3) (by decide +kernel) rfl
theorem s211_10 : Rn 211 10 L (vI b :: vI a :: st) T σ K ↔ inI (a + b) ∧ Rn 211 11 L (vI (a + b) :: st) T σ K := R_iadd (by decide +kernel)
theorem s211_11 : Rn 211 11 L (vI a :: vR o :: st) T σ K ↔ (sx_kd T o = 20 ∧ 0 ≤ a ∧ a < sx_ln T o) ∧ Rn 211 12 L (vI (σ o a) :: st) T σ K := R_iald (by decide +kernel) (by decide)
theorem s211_12 : Rn 211 12 L st T σ K ↔ Rn 211 14 L (vI 10 :: st) T σ K := R_bipush (n := 10) (by decide +kernel) (by decide +kernel)
theorem s211_14 : Rn 211 14 L (vI b :: vI a :: st) T σ K ↔ (b ≤ a → Rn 211 35 L st T σ K) ∧ (a < b → Rn 211 17 L st T σ K) := R_icmp_ge (off := 21) (by decide +kernel) (by decide)
theorem s211_17 : Rn 211 17 [some (vR o), l1, l2, l3] st T σ K ↔ Rn 211 18 [some (vR o), l1, l2, l3] (vR o :: st) T σ K := R_aload_n (n := 0) (by decide +kernel) rfl
theorem s211_18 : Rn 211 18 L (vR o :: st) T σ K ↔ sx_kd T o = 9 ∧ ∃ t, sx_rf T o 0 = some t ∧ Rn 211 21 L (vR t :: st) T σ K := R_getR (idx := 7) (ci := 9) (k := 0) (by decide +kernel) (by decide +kernel) rfl
theorem s211_21 : Rn 211 21 L st T σ K ↔ Rn 211 24 L (vI 200 :: st) T σ K := R_sipush (n := 200) (by decide +kernel) (by decide +kernel)
theorem s211_24 : Rn 211 24 [l0, l1, l2, some (vI a)] st T σ K ↔ Rn 211 25 [l0, l1, l2, some (vI a)] (vI a :: st) T σ K := R_iload_n (n := 3) (by decide +kernel) rfl
theorem s211_25 : Rn 211 25 L (vI b :: vI a :: st) T σ K ↔ inI (a + b) ∧ Rn 211 26 L (vI (a + b) :: st) T σ K := R_iadd (by decide +kernel)
theorem s211_26 : Rn 211 26 L (vI a :: vR o :: st) T σ K ↔ (sx_kd T o = 20 ∧ 0 ≤ a ∧ a < sx_ln T o) ∧ Rn 211 27 L (vI (σ o a) :: st) T σ K := R_iald (by decide +kernel) (by decide)
theorem s211_27 : Rn 211 27 [l0, l1, l2, l3] (vI a :: st) T σ K ↔ Rn 211 28 [l0, l1, l2, some (vI a)] st T σ K := R_istore_n (n := 3) (by decide +kernel) rfl
theorem s211_28 : Rn 211 28 [l0, l1, l2, some (vI a)] st T σ K ↔ Rn 211 29 [l0, l1, l2, some (vI a)] (vI a :: st) T σ K := R_iload_n (n := 3) (by decide +kernel) rfl
theorem s211_29 : Rn 211 29 [l0, l1, some (vI a), l3] st T σ K ↔ Rn 211 30 [l0, l1, some (vI a), l3] (vI a :: st) T σ K := R_iload_n (n := 2) (by decide +kernel) rfl
theorem s211_30 : Rn 211 30 L (vI b :: vI a :: st) T σ K ↔ (a ≠ b → Rn 211 2 L st T σ K) ∧ (a = b → Rn 211 33 L st T σ K) := R_icmp_ne (off := -28) (by decide +kernel) (by decide)
theorem s211_33 : Rn 211 33 L st T σ K ↔ Rn 211 34 L (vI 1 :: st) T σ K := R_iconst (n := 1) (by decide +kernel) (by decide)
theorem s211_34 : Rn 211 34 L [vI a] T σ K ↔ (a = 0 ∨ a = 1) ∧ K (some (vI a)) T σ := R_retZ (by decide +kernel) (by decide +kernel)
theorem s211_35 : Rn 211 35 L st T σ K ↔ Rn 211 36 L (vI 0 :: st) T σ K := R_iconst (n := 0) (by decide +kernel) (by decide)
theorem s211_36 : Rn 211 36 L [vI a] T σ K ↔ (a = 0 ∨ a = 1) ∧ K (some (vI a)) T σ := R_retZ (by decide +kernel) (by decide +kernel)
theorem s212_0 : Rn 212 0 [some (vR o), l1, l2, l3] st T σ K ↔ Rn 212 1 [some (vR o), l1, l2, l3] (vR o :: st) T σ K := R_aload_n (n := 0) (by decide +kernel) rfl
theorem s212_1 : Rn 212 1 [l0, some (vI a), l2, l3] st T σ K ↔ Rn 212 2 [l0, some (vI a), l2, l3] (vI a :: st) T σ K := R_iload_n (n := 1) (by decide +kernel) rfl
theorem s212_2 : Rn 212 2 [l0, l1, some (vI a), l3] st T σ K ↔ Rn 212 3 [l0, l1, some (vI a), l3] (vI a :: st) T σ K := R_iload_n (n := 2) (by decide +kernel) rfl
theorem s212_3 : Rn 212 3 [l0, l1, l2, some (vI a)] st T σ K ↔ Rn 212 4 [l0, l1, l2, some (vI a)] (vI a :: st) T σ K := R_iload_n (n := 3) (by decide +kernel) rfl
theorem s212_4 : Rn 212 4 L (vI c :: vI b :: vI a :: vR o :: st) T σ K ↔ (sx_kd T o = 9 ∧ st.length ≤ 4) ∧ Rn 213 0 [some (vR o), some (vI a), some (vI b), some (vI c), none] [] T σ (fun r T' σ' => Rn 212 7 L (sx_push r st) T' σ' K) := R_V (cm := 213) (n := 3) (idx := 269) (ci := 9) (mx := 5) (vs := [vI a, vI b, vI c]) (by decide +kernel) (by decide +kernel) rfl (by decide +kernel) rfl (by decide +kernel) (by decide +kernel)
theorem s212_7 : Rn 212 7 L [vI a] T σ K ↔ K (some (vI a)) T σ := R_ret (by decide +kernel) (by decide +kernel)
theorem s213_0 : Rn 213 0 L st T σ K ↔ Rn 213 1 L (vI 0 :: st) T σ K := R_iconst (n := 0) (by decide +kernel) (by decide)
theorem s213_1 : Rn 213 1 [l0, l1, l2, l3, l4] (vI a :: st) T σ K ↔ Rn 213 3 [l0, l1, l2, l3, some (vI a)] st T σ K := R_istore (n := 4) (by decide +kernel) rfl
theorem s213_3 : Rn 213 3 [l0, l1, l2, l3, some (vI a)] st T σ K ↔ Rn 213 5 [l0, l1, l2, l3, some (vI a)] (vI a :: st) T σ K := R_iload (n := 4) (by decide +kernel) rfl
theorem s213_5 : Rn 213 5 L st T σ K ↔ Rn 213 7 L (vI 40 :: st) T σ K := R_bipush (n := 40) (by decide +kernel) (by decide +kernel)
theorem s213_7 : Rn 213 7 L (vI b :: vI a :: st) T σ K ↔ (b ≤ a → Rn 213 74 L st T σ K) ∧ (a < b → Rn 213 10 L st T σ K) := R_icmp_ge (off := 67) (by decide +kernel) (by decide)
theorem s213_10 : Rn 213 10 [some (vR o), l1, l2, l3, l4] st T σ K ↔ Rn 213 11 [some (vR o), l1, l2, l3, l4] (vR o :: st) T σ K := R_aload_n (n := 0) (by decide +kernel) rfl
theorem s213_11 : Rn 213 11 L (vR o :: st) T σ K ↔ sx_kd T o = 9 ∧ ∃ t, sx_rf T o 0 = some t ∧ Rn 213 14 L (vR t :: st) T σ K := R_getR (idx := 7) (ci := 9) (k := 0) (by decide +kernel) (by decide +kernel) rfl
theorem s213_14 : Rn 213 14 L st T σ K ↔ Rn 213 15 L (vI 0 :: st) T σ K := R_iconst (n := 0) (by decide +kernel) (by decide)
theorem s213_15 : Rn 213 15 [l0, l1, l2, l3, some (vI a)] st T σ K ↔ Rn 213 17 [l0, l1, l2, l3, some (vI a)] (vI a :: st) T σ K := R_iload (n := 4) (by decide +kernel) rfl
theorem s213_17 : Rn 213 17 L (vI b :: vI a :: st) T σ K ↔ inI (a + b) ∧ Rn 213 18 L (vI (a + b) :: st) T σ K := R_iadd (by decide +kernel)
theorem s213_18 : Rn 213 18 L (vI a :: vR o :: st) T σ K ↔ (sx_kd T o = 20 ∧ 0 ≤ a ∧ a < sx_ln T o) ∧ Rn 213 19 L (vI (σ o a) :: st) T σ K := R_iald (by decide +kernel) (by decide)
theorem s213_19 : Rn 213 19 L st T σ K ↔ Rn 213 20 L (vI 1 :: st) T σ K := R_iconst (n := 1) (by decide +kernel) (by decide)
theorem s213_20 : Rn 213 20 L (vI b :: vI a :: st) T σ K ↔ (a ≠ b → Rn 213 68 L st T σ K) ∧ (a = b → Rn 213 23 L st T σ K) := R_icmp_ne (off := 48) (by decide +kernel) (by decide)
theorem s213_23 : Rn 213 23 [some (vR o), l1, l2, l3, l4] st T σ K ↔ Rn 213 24 [some (vR o), l1, l2, l3, l4] (vR o :: st) T σ K := R_aload_n (n := 0) (by decide +kernel) rfl
theorem s213_24 : Rn 213 24 L (vR o :: st) T σ K ↔ sx_kd T o = 9 ∧ ∃ t, sx_rf T o 0 = some t ∧ Rn 213 27 L (vR t :: st) T σ K := R_getR (idx := 7) (ci := 9) (k := 0) (by decide +kernel) (by decide +kernel) rfl
theorem s213_27 : Rn 213 27 L st T σ K ↔ Rn 213 29 L (vI 40 :: st) T σ K := R_bipush (n := 40) (by decide +kernel) (by decide +kernel)
theorem s213_29 : Rn 213 29 [l0, l1, l2, l3, some (vI a)] st T σ K ↔ Rn 213 31 [l0, l1, l2, l3, some (vI a)] (vI a :: st) T σ K := R_iload (n := 4) (by decide +kernel) rfl
theorem s213_31 : Rn 213 31 L (vI b :: vI a :: st) T σ K ↔ inI (a + b) ∧ Rn 213 32 L (vI (a + b) :: st) T σ K := R_iadd (by decide +kernel)
theorem s213_32 : Rn 213 32 L (vI a :: vR o :: st) T σ K ↔ (sx_kd T o = 20 ∧ 0 ≤ a ∧ a < sx_ln T o) ∧ Rn 213 33 L (vI (σ o a) :: st) T σ K := R_iald (by decide +kernel) (by decide)
theorem s213_33 : Rn 213 33 [l0, some (vI a), l2, l3, l4] st T σ K ↔ Rn 213 34 [l0, some (vI a), l2, l3, l4] (vI a :: st) T σ K := R_iload_n (n := 1) (by decide +kernel) rfl
theorem s213_34 : Rn 213 34 L (vI b :: vI a :: st) T σ K ↔ (a ≠ b → Rn 213 68 L st T σ K) ∧ (a = b → Rn 213 37 L st T σ K) := R_icmp_ne (off := 34) (by decide +kernel) (by decide)
theorem s213_37 : Rn 213 37 [some (vR o), l1, l2, l3, l4] st T σ K ↔ Rn 213 38 [some (vR o), l1, l2, l3, l4] (vR o :: st) T σ K := R_aload_n (n := 0) (by decide +kernel) rfl
theorem s213_38 : Rn 213 38 L (vR o :: st) T σ K ↔ sx_kd T o = 9 ∧ ∃ t, sx_rf T o 0 = some t ∧ Rn 213 41 L (vR t :: st) T σ K := R_getR (idx := 7) (ci := 9) (k := 0) (by decide +kernel) (by decide +kernel) rfl
theorem s213_41 : Rn 213 41 L st T σ K ↔ Rn 213 43 L (vI 80 :: st) T σ K := R_bipush (n := 80) (by decide +kernel) (by decide +kernel)
theorem s213_43 : Rn 213 43 [l0, l1, l2, l3, some (vI a)] st T σ K ↔ Rn 213 45 [l0, l1, l2, l3, some (vI a)] (vI a :: st) T σ K := R_iload (n := 4) (by decide +kernel) rfl
theorem s213_45 : Rn 213 45 L (vI b :: vI a :: st) T σ K ↔ inI (a + b) ∧ Rn 213 46 L (vI (a + b) :: st) T σ K := R_iadd (by decide +kernel)
theorem s213_46 : Rn 213 46 L (vI a :: vR o :: st) T σ K ↔ (sx_kd T o = 20 ∧ 0 ≤ a ∧ a < sx_ln T o) ∧ Rn 213 47 L (vI (σ o a) :: st) T σ K := R_iald (by decide +kernel) (by decide)
theorem s213_47 : Rn 213 47 [l0, l1, some (vI a), l3, l4] st T σ K ↔ Rn 213 48 [l0, l1, some (vI a), l3, l4] (vI a :: st) T σ K := R_iload_n (n := 2) (by decide +kernel) rfl
theorem s213_48 : Rn 213 48 L (vI b :: vI a :: st) T σ K ↔ (a ≠ b → Rn 213 68 L st T σ K) ∧ (a = b → Rn 213 51 L st T σ K) := R_icmp_ne (off := 20) (by decide +kernel) (by decide)
theorem s213_51 : Rn 213 51 [some (vR o), l1, l2, l3, l4] st T σ K ↔ Rn 213 52 [some (vR o), l1, l2, l3, l4] (vR o :: st) T σ K := R_aload_n (n := 0) (by decide +kernel) rfl
theorem s213_52 : Rn 213 52 L (vR o :: st) T σ K ↔ sx_kd T o = 9 ∧ ∃ t, sx_rf T o 0 = some t ∧ Rn 213 55 L (vR t :: st) T σ K := R_getR (idx := 7) (ci := 9) (k := 0) (by decide +kernel) (by decide +kernel) rfl
theorem s213_55 : Rn 213 55 L st T σ K ↔ Rn 213 57 L (vI 120 :: st) T σ K := R_bipush (n := 120) (by decide +kernel) (by decide +kernel)
theorem s213_57 : Rn 213 57 [l0, l1, l2, l3, some (vI a)] st T σ K ↔ Rn 213 59 [l0, l1, l2, l3, some (vI a)] (vI a :: st) T σ K := R_iload (n := 4) (by decide +kernel) rfl
theorem s213_59 : Rn 213 59 L (vI b :: vI a :: st) T σ K ↔ inI (a + b) ∧ Rn 213 60 L (vI (a + b) :: st) T σ K := R_iadd (by decide +kernel)
theorem s213_60 : Rn 213 60 L (vI a :: vR o :: st) T σ K ↔ (sx_kd T o = 20 ∧ 0 ≤ a ∧ a < sx_ln T o) ∧ Rn 213 61 L (vI (σ o a) :: st) T σ K := R_iald (by decide +kernel) (by decide)
theorem s213_61 : Rn 213 61 [l0, l1, l2, some (vI a), l4] st T σ K ↔ Rn 213 62 [l0, l1, l2, some (vI a), l4] (vI a :: st) T σ K := R_iload_n (n := 3) (by decide +kernel) rfl
theorem s213_62 : Rn 213 62 L (vI b :: vI a :: st) T σ K ↔ (a ≠ b → Rn 213 68 L st T σ K) ∧ (a = b → Rn 213 65 L st T σ K) := R_icmp_ne (off := 6) (by decide +kernel) (by decide)
theorem s213_65 : Rn 213 65 [l0, l1, l2, l3, some (vI a)] st T σ K ↔ Rn 213 67 [l0, l1, l2, l3, some (vI a)] (vI a :: st) T σ K := R_iload (n := 4) (by decide +kernel) rfl
theorem s213_67 : Rn 213 67 L [vI a] T σ K ↔ K (some (vI a)) T σ := R_ret (by decide +kernel) (by decide +kernel)
theorem s213_68 : Rn 213 68 [l0, l1, l2, l3, some (vI a)] st T σ K ↔ inI (a + 1) ∧ Rn 213 71 [l0, l1, l2, l3, some (vI (a + 1))] st T σ K := R_iinc (n := 4) (d := 1) (by decide +kernel) rfl
theorem s213_71 : Rn 213 71 L st T σ K ↔ Rn 213 3 L st T σ K := R_goto (off := -68) (by decide +kernel) (by decide)
theorem s213_74 : Rn 213 74 L st T σ K ↔ Rn 213 75 L (vI (-1) :: st) T σ K := R_iconst (n := -1) (by decide +kernel) (by decide)
theorem s213_75 : Rn 213 75 L [vI a] T σ K ↔ K (some (vI a)) T σ := R_ret (by decide +kernel) (by decide +kernel)
theorem s214_0 : Rn 214 0 [some (vR o), l1, l2, l3, l4, l5] st T σ K ↔ Rn 214 1 [some (vR o), l1, l2, l3, l4, l5] (vR o :: st) T σ K := R_aload_n (n := 0) (by decide +kernel) rfl
theorem s214_1 : Rn 214 1 [l0, some (vI a), l2, l3, l4, l5] st T σ K ↔ Rn 214 2 [l0, some (vI a), l2, l3, l4, l5] (vI a :: st) T σ K := R_iload_n (n := 1) (by decide +kernel) rfl
theorem s214_2 : Rn 214 2 L (vI a :: vR o :: st) T σ K ↔ (sx_kd T o = 9 ∧ st.length ≤ 4) ∧ Rn 205 0 [some (vR o), some (vI a)] [] T σ (fun r T' σ' => Rn 214 5 L (sx_push r st) T' σ' K) := R_V (cm := 205) (n := 1) (idx := 254) (ci := 9) (mx := 2) (vs := [vI a]) (by decide +kernel) (by decide +kernel) rfl (by decide +kernel) rfl (by decide +kernel) (by decide +kernel)
theorem s214_5 : Rn 214 5 L (vI a :: st) T σ K ↔ (a ≠ 0 → Rn 214 10 L st T σ K) ∧ (a = 0 → Rn 214 8 L st T σ K) := R_if_ne (off := 5) (by decide +kernel) (by decide)
theorem s214_8 : Rn 214 8 L st T σ K ↔ Rn 214 9 L (vI (-1) :: st) T σ K := R_iconst (n := -1) (by decide +kernel) (by decide)
theorem s214_9 : Rn 214 9 L [vI a] T σ K ↔ K (some (vI a)) T σ := R_ret (by decide +kernel) (by decide +kernel)
theorem s214_10 : Rn 214 10 L st T σ K ↔ Rn 214 11 L (vI 0 :: st) T σ K := R_iconst (n := 0) (by decide +kernel) (by decide)
theorem s214_11 : Rn 214 11 [l0, l1, l2, l3, l4, l5] (vI a :: st) T σ K ↔ Rn 214 12 [l0, l1, l2, some (vI a), l4, l5] st T σ K := R_istore_n (n := 3) (by decide +kernel) rfl
theorem s214_12 : Rn 214 12 [l0, l1, l2, some (vI a), l4, l5] st T σ K ↔ Rn 214 13 [l0, l1, l2, some (vI a), l4, l5] (vI a :: st) T σ K := R_iload_n (n := 3) (by decide +kernel) rfl
theorem s214_13 : Rn 214 13 L st T σ K ↔ Rn 214 15 L (vI 40 :: st) T σ K := R_bipush (n := 40) (by decide +kernel) (by decide +kernel)
theorem s214_15 : Rn 214 15 L (vI b :: vI a :: st) T σ K ↔ (b ≤ a → Rn 214 137 L st T σ K) ∧ (a < b → Rn 214 18 L st T σ K) := R_icmp_ge (off := 122) (by decide +kernel) (by decide)
theorem s214_18 : Rn 214 18 [some (vR o), l1, l2, l3, l4, l5] st T σ K ↔ Rn 214 19 [some (vR o), l1, l2, l3, l4, l5] (vR o :: st) T σ K := R_aload_n (n := 0) (by decide +kernel) rfl
theorem s214_19 : Rn 214 19 [l0, l1, l2, some (vI a), l4, l5] st T σ K ↔ Rn 214 20 [l0, l1, l2, some (vI a), l4, l5] (vI a :: st) T σ K := R_iload_n (n := 3) (by decide +kernel) rfl
theorem s214_20 : Rn 214 20 [l0, some (vI a), l2, l3, l4, l5] st T σ K ↔ Rn 214 21 [l0, some (vI a), l2, l3, l4, l5] (vI a :: st) T σ K := R_iload_n (n := 1) (by decide +kernel) rfl
theorem s214_21 : Rn 214 21 L (vI b :: vI a :: vR o :: st) T σ K ↔ (sx_kd T o = 9 ∧ st.length ≤ 4) ∧ Rn 209 0 [some (vR o), some (vI a), some (vI b)] [] T σ (fun r T' σ' => Rn 214 24 L (sx_push r st) T' σ' K) := R_V (cm := 209) (n := 2) (idx := 257) (ci := 9) (mx := 3) (vs := [vI a, vI b]) (by decide +kernel) (by decide +kernel) rfl (by decide +kernel) rfl (by decide +kernel) (by decide +kernel)
theorem s214_24 : Rn 214 24 L (vI a :: st) T σ K ↔ (a ≠ 0 → Rn 214 30 L st T σ K) ∧ (a = 0 → Rn 214 27 L st T σ K) := R_if_ne (off := 6) (by decide +kernel) (by decide)
theorem s214_27 : Rn 214 27 L st T σ K ↔ Rn 214 131 L st T σ K := R_goto (off := 104) (by decide +kernel) (by decide)
theorem s214_30 : Rn 214 30 L st T σ K ↔ Rn 214 31 L (vI 0 :: st) T σ K := R_iconst (n := 0) (by decide +kernel) (by decide)
theorem s214_31 : Rn 214 31 [l0, l1, l2, l3, l4, l5] (vI a :: st) T σ K ↔ Rn 214 33 [l0, l1, l2, l3, some (vI a), l5] st T σ K := R_istore (n := 4) (by decide +kernel) rfl
theorem s214_33 : Rn 214 33 L st T σ K ↔ Rn 214 34 L (vI 0 :: st) T σ K := R_iconst (n := 0) (by decide +kernel) (by decide)
theorem s214_34 : Rn 214 34 [l0, l1, l2, l3, l4, l5] (vI a :: st) T σ K ↔ Rn 214 36 [l0, l1, l2, l3, l4, some (vI a)] st T σ K := R_istore (n := 5) (by decide +kernel) rfl
theorem s214_36 : Rn 214 36 [l0, l1, l2, l3, l4, some (vI a)] st T σ K ↔ Rn 214 38 [l0, l1, l2, l3, l4, some (vI a)] (vI a :: st) T σ K := R_iload (n := 5) (by decide +kernel) rfl
theorem s214_38 : Rn 214 38 L st T σ K ↔ Rn 214 40 L (vI 40 :: st) T σ K := R_bipush (n := 40) (by decide +kernel) (by decide +kernel)
theorem s214_40 : Rn 214 40 L (vI b :: vI a :: st) T σ K ↔ (b ≤ a → Rn 214 123 L st T σ K) ∧ (a < b → Rn 214 43 L st T σ K) := R_icmp_ge (off := 83) (by decide +kernel) (by decide)
theorem s214_43 : Rn 214 43 [l0, l1, l2, l3, some (vI a), l5] st T σ K ↔ Rn 214 45 [l0, l1, l2, l3, some (vI a), l5] (vI a :: st) T σ K := R_iload (n := 4) (by decide +kernel) rfl
theorem s214_45 : Rn 214 45 [some (vR o), l1, l2, l3, l4, l5] st T σ K ↔ Rn 214 46 [some (vR o), l1, l2, l3, l4, l5] (vR o :: st) T σ K := R_aload_n (n := 0) (by decide +kernel) rfl
theorem s214_46 : Rn 214 46 [l0, l1, l2, l3, l4, some (vI a)] st T σ K ↔ Rn 214 48 [l0, l1, l2, l3, l4, some (vI a)] (vI a :: st) T σ K := R_iload (n := 5) (by decide +kernel) rfl
theorem s214_48 : Rn 214 48 [l0, some (vI a), l2, l3, l4, l5] st T σ K ↔ Rn 214 49 [l0, some (vI a), l2, l3, l4, l5] (vI a :: st) T σ K := R_iload_n (n := 1) (by decide +kernel) rfl
theorem s214_49 : Rn 214 49 L (vI b :: vI a :: vR o :: st) T σ K ↔ (sx_kd T o = 9 ∧ st.length ≤ 4) ∧ Rn 209 0 [some (vR o), some (vI a), some (vI b)] [] T σ (fun r T' σ' => Rn 214 52 L (sx_push r st) T' σ' K) := R_V (cm := 209) (n := 2) (idx := 257) (ci := 9) (mx := 3) (vs := [vI a, vI b]) (by decide +kernel) (by decide +kernel) rfl (by decide +kernel) rfl (by decide +kernel) (by decide +kernel)
theorem s214_52 : Rn 214 52 L (vI a :: st) T σ K ↔ (a = 0 → Rn 214 113 L st T σ K) ∧ (a ≠ 0 → Rn 214 55 L st T σ K) := R_if_eq (off := 61) (by decide +kernel) (by decide)
theorem s214_55 : Rn 214 55 [some (vR o), l1, l2, l3, l4, l5] st T σ K ↔ Rn 214 56 [some (vR o), l1, l2, l3, l4, l5] (vR o :: st) T σ K := R_aload_n (n := 0) (by decide +kernel) rfl
theorem s214_56 : Rn 214 56 L (vR o :: st) T σ K ↔ sx_kd T o = 9 ∧ ∃ t, sx_rf T o 0 = some t ∧ Rn 214 59 L (vR t :: st) T σ K := R_getR (idx := 7) (ci := 9) (k := 0) (by decide +kernel) (by decide +kernel) rfl
theorem s214_59 : Rn 214 59 L st T σ K ↔ Rn 214 62 L (vI 160 :: st) T σ K := R_sipush (n := 160) (by decide +kernel) (by decide +kernel)
theorem s214_62 : Rn 214 62 [l0, l1, l2, l3, l4, some (vI a)] st T σ K ↔ Rn 214 64 [l0, l1, l2, l3, l4, some (vI a)] (vI a :: st) T σ K := R_iload (n := 5) (by decide +kernel) rfl
theorem s214_64 : Rn 214 64 L (vI b :: vI a :: st) T σ K ↔ inI (a + b) ∧ Rn 214 65 L (vI (a + b) :: st) T σ K := R_iadd (by decide +kernel)
theorem s214_65 : Rn 214 65 L (vI a :: vR o :: st) T σ K ↔ (sx_kd T o = 20 ∧ 0 ≤ a ∧ a < sx_ln T o) ∧ Rn 214 66 L (vI (σ o a) :: st) T σ K := R_iald (by decide +kernel) (by decide)
theorem s214_66 : Rn 214 66 [some (vR o), l1, l2, l3, l4, l5] st T σ K ↔ Rn 214 67 [some (vR o), l1, l2, l3, l4, l5] (vR o :: st) T σ K := R_aload_n (n := 0) (by decide +kernel) rfl
theorem s214_67 : Rn 214 67 L (vR o :: st) T σ K ↔ sx_kd T o = 9 ∧ ∃ t, sx_rf T o 0 = some t ∧ Rn 214 70 L (vR t :: st) T σ K := R_getR (idx := 7) (ci := 9) (k := 0) (by decide +kernel) (by decide +kernel) rfl
theorem s214_70 : Rn 214 70 L st T σ K ↔ Rn 214 73 L (vI 160 :: st) T σ K := R_sipush (n := 160) (by decide +kernel) (by decide +kernel)
theorem s214_73 : Rn 214 73 [l0, l1, l2, some (vI a), l4, l5] st T σ K ↔ Rn 214 74 [l0, l1, l2, some (vI a), l4, l5] (vI a :: st) T σ K := R_iload_n (n := 3) (by decide +kernel) rfl
theorem s214_74 : Rn 214 74 L (vI b :: vI a :: st) T σ K ↔ inI (a + b) ∧ Rn 214 75 L (vI (a + b) :: st) T σ K := R_iadd (by decide +kernel)
theorem s214_75 : Rn 214 75 L (vI a :: vR o :: st) T σ K ↔ (sx_kd T o = 20 ∧ 0 ≤ a ∧ a < sx_ln T o) ∧ Rn 214 76 L (vI (σ o a) :: st) T σ K := R_iald (by decide +kernel) (by decide)
theorem s214_76 : Rn 214 76 L (vI b :: vI a :: st) T σ K ↔ (b < a → Rn 214 109 L st T σ K) ∧ (a ≤ b → Rn 214 79 L st T σ K) := R_icmp_gt (off := 33) (by decide +kernel) (by decide)
theorem s214_79 : Rn 214 79 [some (vR o), l1, l2, l3, l4, l5] st T σ K ↔ Rn 214 80 [some (vR o), l1, l2, l3, l4, l5] (vR o :: st) T σ K := R_aload_n (n := 0) (by decide +kernel) rfl
theorem s214_80 : Rn 214 80 L (vR o :: st) T σ K ↔ sx_kd T o = 9 ∧ ∃ t, sx_rf T o 0 = some t ∧ Rn 214 83 L (vR t :: st) T σ K := R_getR (idx := 7) (ci := 9) (k := 0) (by decide +kernel) (by decide +kernel) rfl
theorem s214_83 : Rn 214 83 L st T σ K ↔ Rn 214 86 L (vI 160 :: st) T σ K := R_sipush (n := 160) (by decide +kernel) (by decide +kernel)
theorem s214_86 : Rn 214 86 [l0, l1, l2, l3, l4, some (vI a)] st T σ K ↔ Rn 214 88 [l0, l1, l2, l3, l4, some (vI a)] (vI a :: st) T σ K := R_iload (n := 5) (by decide +kernel) rfl
theorem s214_88 : Rn 214 88 L (vI b :: vI a :: st) T σ K ↔ inI (a + b) ∧ Rn 214 89 L (vI (a + b) :: st) T σ K := R_iadd (by decide +kernel)
theorem s214_89 : Rn 214 89 L (vI a :: vR o :: st) T σ K ↔ (sx_kd T o = 20 ∧ 0 ≤ a ∧ a < sx_ln T o) ∧ Rn 214 90 L (vI (σ o a) :: st) T σ K := R_iald (by decide +kernel) (by decide)
theorem s214_90 : Rn 214 90 [some (vR o), l1, l2, l3, l4, l5] st T σ K ↔ Rn 214 91 [some (vR o), l1, l2, l3, l4, l5] (vR o :: st) T σ K := R_aload_n (n := 0) (by decide +kernel) rfl
theorem s214_91 : Rn 214 91 L (vR o :: st) T σ K ↔ sx_kd T o = 9 ∧ ∃ t, sx_rf T o 0 = some t ∧ Rn 214 94 L (vR t :: st) T σ K := R_getR (idx := 7) (ci := 9) (k := 0) (by decide +kernel) (by decide +kernel) rfl
theorem s214_94 : Rn 214 94 L st T σ K ↔ Rn 214 97 L (vI 160 :: st) T σ K := R_sipush (n := 160) (by decide +kernel) (by decide +kernel)
theorem s214_97 : Rn 214 97 [l0, l1, l2, some (vI a), l4, l5] st T σ K ↔ Rn 214 98 [l0, l1, l2, some (vI a), l4, l5] (vI a :: st) T σ K := R_iload_n (n := 3) (by decide +kernel) rfl
theorem s214_98 : Rn 214 98 L (vI b :: vI a :: st) T σ K ↔ inI (a + b) ∧ Rn 214 99 L (vI (a + b) :: st) T σ K := R_iadd (by decide +kernel)
theorem s214_99 : Rn 214 99 L (vI a :: vR o :: st) T σ K ↔ (sx_kd T o = 20 ∧ 0 ≤ a ∧ a < sx_ln T o) ∧ Rn 214 100 L (vI (σ o a) :: st) T σ K := R_iald (by decide +kernel) (by decide)
theorem s214_100 : Rn 214 100 L (vI b :: vI a :: st) T σ K ↔ (a ≠ b → Rn 214 113 L st T σ K) ∧ (a = b → Rn 214 103 L st T σ K) := R_icmp_ne (off := 13) (by decide +kernel) (by decide)
theorem s214_103 : Rn 214 103 [l0, l1, l2, l3, l4, some (vI a)] st T σ K ↔ Rn 214 105 [l0, l1, l2, l3, l4, some (vI a)] (vI a :: st) T σ K := R_iload (n := 5) (by decide +kernel) rfl
theorem s214_105 : Rn 214 105 [l0, l1, l2, some (vI a), l4, l5] st T σ K ↔ Rn 214 106 [l0, l1, l2, some (vI a), l4, l5] (vI a :: st) T σ K := R_iload_n (n := 3) (by decide +kernel) rfl
theorem s214_106 : Rn 214 106 L (vI b :: vI a :: st) T σ K ↔ (b ≤ a → Rn 214 113 L st T σ K) ∧ (a < b → Rn 214 109 L st T σ K) := R_icmp_ge (off := 7) (by decide +kernel) (by decide)
theorem s214_109 : Rn 214 109 L st T σ K ↔ Rn 214 110 L (vI 1 :: st) T σ K := R_iconst (n := 1) (by decide +kernel) (by decide)
theorem s214_110 : Rn 214 110 L st T σ K ↔ Rn 214 114 L st T σ K := R_goto (off := 4) (by decide +kernel) (by decide)
theorem s214_113 : Rn 214 113 L st T σ K ↔ Rn 214 114 L (vI 0 :: st) T σ K := R_iconst (n := 0) (by decide +kernel) (by decide)
theorem s214_114 : Rn 214 114 L (vI b :: vI a :: st) T σ K ↔ inI (a + b) ∧ Rn 214 115 L (vI (a + b) :: st) T σ K := R_iadd (by decide +kernel)
theorem s214_115 : Rn 214 115 [l0, l1, l2, l3, l4, l5] (vI a :: st) T σ K ↔ Rn 214 117 [l0, l1, l2, l3, some (vI a), l5] st T σ K := R_istore (n := 4) (by decide +kernel) rfl
theorem s214_117 : Rn 214 117 [l0, l1, l2, l3, l4, some (vI a)] st T σ K ↔ inI (a + 1) ∧ Rn 214 120 [l0, l1, l2, l3, l4, some (vI (a + 1))] st T σ K := R_iinc (n := 5) (d := 1) (by decide +kernel) rfl
theorem s214_120 : Rn 214 120 L st T σ K ↔ Rn 214 36 L st T σ K := R_goto (off := -84) (by decide +kernel) (by decide)
theorem s214_123 : Rn 214 123 [l0, l1, l2, l3, some (vI a), l5] st T σ K ↔ Rn 214 125 [l0, l1, l2, l3, some (vI a), l5] (vI a :: st) T σ K := R_iload (n := 4) (by decide +kernel) rfl
theorem s214_125 : Rn 214 125 [l0, l1, some (vI a), l3, l4, l5] st T σ K ↔ Rn 214 126 [l0, l1, some (vI a), l3, l4, l5] (vI a :: st) T σ K := R_iload_n (n := 2) (by decide +kernel) rfl
theorem s214_126 : Rn 214 126 L (vI b :: vI a :: st) T σ K ↔ (a ≠ b → Rn 214 131 L st T σ K) ∧ (a = b → Rn 214 129 L st T σ K) := R_icmp_ne (off := 5) (by decide +kernel) (by decide)
theorem s214_129 : Rn 214 129 [l0, l1, l2, some (vI a), l4, l5] st T σ K ↔ Rn 214 130 [l0, l1, l2, some (vI a), l4, l5] (vI a :: st) T σ K := R_iload_n (n := 3) (by decide +kernel) rfl
theorem s214_130 : Rn 214 130 L [vI a] T σ K ↔ K (some (vI a)) T σ := R_ret (by decide +kernel) (by decide +kernel)
theorem s214_131 : Rn 214 131 [l0, l1, l2, some (vI a), l4, l5] st T σ K ↔ inI (a + 1) ∧ Rn 214 134 [l0, l1, l2, some (vI (a + 1)), l4, l5] st T σ K := R_iinc (n := 3) (d := 1) (by decide +kernel) rfl
theorem s214_134 : Rn 214 134 L st T σ K ↔ Rn 214 12 L st T σ K := R_goto (off := -122) (by decide +kernel) (by decide)
theorem s214_137 : Rn 214 137 L st T σ K ↔ Rn 214 138 L (vI (-1) :: st) T σ K := R_iconst (n := -1) (by decide +kernel) (by decide)
theorem s214_138 : Rn 214 138 L [vI a] T σ K ↔ K (some (vI a)) T σ := R_ret (by decide +kernel) (by decide +kernel)
theorem s215_0 : Rn 215 0 [some (vR o), l1, l2] st T σ K ↔ Rn 215 1 [some (vR o), l1, l2] (vR o :: st) T σ K := R_aload_n (n := 0) (by decide +kernel) rfl
theorem s215_1 : Rn 215 1 [l0, some (vI a), l2] st T σ K ↔ Rn 215 2 [l0, some (vI a), l2] (vI a :: st) T σ K := R_iload_n (n := 1) (by decide +kernel) rfl
theorem s215_2 : Rn 215 2 L (vI a :: vR o :: st) T σ K ↔ (sx_kd T o = 9 ∧ st.length ≤ 4) ∧ Rn 205 0 [some (vR o), some (vI a)] [] T σ (fun r T' σ' => Rn 215 5 L (sx_push r st) T' σ' K) := R_V (cm := 205) (n := 1) (idx := 254) (ci := 9) (mx := 2) (vs := [vI a]) (by decide +kernel) (by decide +kernel) rfl (by decide +kernel) rfl (by decide +kernel) (by decide +kernel)
theorem s215_5 : Rn 215 5 L (vI a :: st) T σ K ↔ (a = 0 → Rn 215 25 L st T σ K) ∧ (a ≠ 0 → Rn 215 8 L st T σ K) := R_if_eq (off := 20) (by decide +kernel) (by decide)
theorem s215_8 : Rn 215 8 [some (vR o), l1, l2] st T σ K ↔ Rn 215 9 [some (vR o), l1, l2] (vR o :: st) T σ K := R_aload_n (n := 0) (by decide +kernel) rfl
theorem s215_9 : Rn 215 9 [l0, l1, some (vI a)] st T σ K ↔ Rn 215 10 [l0, l1, some (vI a)] (vI a :: st) T σ K := R_iload_n (n := 2) (by decide +kernel) rfl
theorem s215_10 : Rn 215 10 L (vI a :: vR o :: st) T σ K ↔ (sx_kd T o = 9 ∧ st.length ≤ 4) ∧ Rn 205 0 [some (vR o), some (vI a)] [] T σ (fun r T' σ' => Rn 215 13 L (sx_push r st) T' σ' K) := R_V (cm := 205) (n := 1) (idx := 254) (ci := 9) (mx := 2) (vs := [vI a]) (by decide +kernel) (by decide +kernel) rfl (by decide +kernel) rfl (by decide +kernel) (by decide +kernel)
theorem s215_13 : Rn 215 13 L (vI a :: st) T σ K ↔ (a = 0 → Rn 215 25 L st T σ K) ∧ (a ≠ 0 → Rn 215 16 L st T σ K) := R_if_eq (off := 12) (by decide +kernel) (by decide)
theorem s215_16 : Rn 215 16 [some (vR o), l1, l2] st T σ K ↔ Rn 215 17 [some (vR o), l1, l2] (vR o :: st) T σ K := R_aload_n (n := 0) (by decide +kernel) rfl
theorem s215_17 : Rn 215 17 [l0, some (vI a), l2] st T σ K ↔ Rn 215 18 [l0, some (vI a), l2] (vI a :: st) T σ K := R_iload_n (n := 1) (by decide +kernel) rfl
theorem s215_18 : Rn 215 18 [l0, l1, some (vI a)] st T σ K ↔ Rn 215 19 [l0, l1, some (vI a)] (vI a :: st) T σ K := R_iload_n (n := 2) (by decide +kernel) rfl
theorem s215_19 : Rn 215 19 L (vI b :: vI a :: vR o :: st) T σ K ↔ (sx_kd T o = 9 ∧ st.length ≤ 4) ∧ Rn 216 0 [some (vR o), some (vI a), some (vI b)] [] T σ (fun r T' σ' => Rn 215 22 L (sx_push r st) T' σ' K) := R_V (cm := 216) (n := 2) (idx := 238) (ci := 9) (mx := 3) (vs := [vI a, vI b]) (by decide +kernel) (by decide +kernel) rfl (by decide +kernel) rfl (by decide +kernel) (by decide +kernel)
theorem s215_22 : Rn 215 22 L st T σ K ↔ Rn 215 26 L st T σ K := R_goto (off := 4) (by decide +kernel) (by decide)
theorem s215_25 : Rn 215 25 L st T σ K ↔ Rn 215 26 L (vI (-1) :: st) T σ K := R_iconst (n := -1) (by decide +kernel) (by decide)
theorem s215_26 : Rn 215 26 L [vI a] T σ K ↔ K (some (vI a)) T σ := R_ret (by decide +kernel) (by decide +kernel)
end ST5
