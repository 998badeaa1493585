section ST1
variable {L : sxL} {st : List sxV} {T : sxT} {σ : sxS} {K : Option sxV → sxT → sxS → Prop} {a b c d e f g : Int} {o p q r1 r2 : Nat} {l0 l1 l2 l3 l4 l5 l6 l7 l8 l9 l10 l11 : Option sxV}
theorem s1_0 : Rn 1 0 [some (vR o)] st T σ K ↔ Rn 1 1 [some (vR o)] (vR o :: st) T σ K := R_aload_n (n := 0) (by decide +kernel) rfl
theorem s1_1 : Rn 1 1 L (vR o :: st) T σ K ↔ st.length ≤ 4 ∧ Rn 1 4 L st T σ K := R_oinit (idx := 1) (by decide +kernel) (by decide +kernel) (by decide +kernel) (by decide +kernel)
theorem s1_4 : Rn 1 4 [some (vR o)] st T σ K ↔ Rn 1 5 [some (vR o)] (vR o :: st) T σ K := R_aload_n (n := 0) (by decide +kernel) rfl
theorem s1_5 : Rn 1 5 L st T σ K ↔ T.length < 1000000 ∧ Rn 1 8 L (vR T.length :: st) (T ++ [(6, 2, List.replicate 2 none)]) σ K := R_new (idx := 7) (ci := 6) (N := 2) (by decide +kernel) (by decide +kernel) rfl rfl
theorem s1_8 : Rn 1 8 L (vR o :: st) T σ K ↔ Rn 1 9 L (vR o :: vR o :: st) T σ K := R_dup (v := vR o) (by decide +kernel) rfl
theorem s1_9 : Rn 1 9 L (vR o :: st) T σ K ↔ st.length ≤ 4 ∧ Rn 2 0 [some (vR o)] [] T σ (fun r T' σ' => Rn 1 12 L (sx_push r st) T' σ' K) := R_I (cm := 2) (n := 0) (idx := 9) (mx := 1) (vs := []) (by decide +kernel) (Or.inr (by decide +kernel)) rfl (by decide +kernel) rfl (by decide +kernel)
theorem s1_12 : Rn 1 12 L (vR p :: vR o :: st) T σ K ↔ (sx_kd T o = 8 ∧ p < T.length) ∧ Rn 1 15 L st (sx_setR T o 0 p) σ K := R_putR (idx := 10) (ci := 8) (k := 0) (by decide +kernel) (by decide +kernel) rfl rfl (by decide +kernel) (by decide +kernel)
theorem s1_15 : Rn 1 15 [some (vR o)] st T σ K ↔ Rn 1 16 [some (vR o)] (vR o :: st) T σ K := R_aload_n (n := 0) (by decide +kernel) rfl
theorem s1_16 : Rn 1 16 L st T σ K ↔ T.length < 1000000 ∧ Rn 1 19 L (vR T.length :: st) (T ++ [(5, 9, List.replicate 9 none)]) σ K := R_new (idx := 16) (ci := 5) (N := 9) (by decide +kernel) (by decide +kernel) rfl rfl
theorem s1_19 : Rn 1 19 L (vR o :: st) T σ K ↔ Rn 1 20 L (vR o :: vR o :: st) T σ K := R_dup (v := vR o) (by decide +kernel) rfl
theorem s1_20 : Rn 1 20 [some (vR o)] st T σ K ↔ Rn 1 21 [some (vR o)] (vR o :: st) T σ K := R_aload_n (n := 0) (by decide +kernel) rfl
theorem s1_21 : Rn 1 21 L (vR o :: st) T σ K ↔ sx_kd T o = 8 ∧ ∃ t, sx_rf T o 0 = some t ∧ Rn 1 24 L (vR t :: st) T σ K := R_getR (idx := 10) (ci := 8) (k := 0) (by decide +kernel) (by decide +kernel) rfl
theorem s1_24 : Rn 1 24 L (vR p :: vR o :: st) T σ K ↔ st.length ≤ 4 ∧ Rn 3 0 [some (vR o), some (vR p)] [] T σ (fun r T' σ' => Rn 1 27 L (sx_push r st) T' σ' K) := R_I (cm := 3) (n := 1) (idx := 18) (mx := 2) (vs := [vR p]) (by decide +kernel) (Or.inl (by decide +kernel)) rfl (by decide +kernel) rfl (by decide +kernel)
theorem s1_27 : Rn 1 27 L (vR p :: vR o :: st) T σ K ↔ (sx_kd T o = 8 ∧ p < T.length) ∧ Rn 1 30 L st (sx_setR T o 1 p) σ K := R_putR (idx := 21) (ci := 8) (k := 1) (by decide +kernel) (by decide +kernel) rfl rfl (by decide +kernel) (by decide +kernel)
theorem s1_30 : Rn 1 30 [some (vR o)] st T σ K ↔ Rn 1 31 [some (vR o)] (vR o :: st) T σ K := R_aload_n (n := 0) (by decide +kernel) rfl
theorem s1_31 : Rn 1 31 L st T σ K ↔ T.length < 1000000 ∧ Rn 1 34 L (vR T.length :: st) (T ++ [(2, 7, List.replicate 7 none)]) σ K := R_new (idx := 25) (ci := 2) (N := 7) (by decide +kernel) (by decide +kernel) rfl rfl
theorem s1_34 : Rn 1 34 L (vR o :: st) T σ K ↔ Rn 1 35 L (vR o :: vR o :: st) T σ K := R_dup (v := vR o) (by decide +kernel) rfl
theorem s1_35 : Rn 1 35 L (vR o :: st) T σ K ↔ st.length ≤ 4 ∧ Rn 4 0 [some (vR o)] [] T σ (fun r T' σ' => Rn 1 38 L (sx_push r st) T' σ' K) := R_I (cm := 4) (n := 0) (idx := 27) (mx := 1) (vs := []) (by decide +kernel) (Or.inl (by decide +kernel)) rfl (by decide +kernel) rfl (by decide +kernel)
theorem s1_38 : Rn 1 38 L (vR p :: vR o :: st) T σ K ↔ (sx_kd T o = 8 ∧ p < T.length) ∧ Rn 1 41 L st (sx_setR T o 2 p) σ K := R_putR (idx := 28) (ci := 8) (k := 2) (by decide +kernel) (by decide +kernel) rfl rfl (by decide +kernel) (by decide +kernel)
theorem s1_41 : Rn 1 41 [some (vR o)] st T σ K ↔ Rn 1 42 [some (vR o)] (vR o :: st) T σ K := R_aload_n (n := 0) (by decide +kernel) rfl
theorem s1_42 : Rn 1 42 L st T σ K ↔ T.length < 1000000 ∧ Rn 1 45 L (vR T.length :: st) (T ++ [(2, 7, List.replicate 7 none)]) σ K := R_new (idx := 25) (ci := 2) (N := 7) (by decide +kernel) (by decide +kernel) rfl rfl
theorem s1_45 : Rn 1 45 L (vR o :: st) T σ K ↔ Rn 1 46 L (vR o :: vR o :: st) T σ K := R_dup (v := vR o) (by decide +kernel) rfl
theorem s1_46 : Rn 1 46 L (vR o :: st) T σ K ↔ st.length ≤ 4 ∧ Rn 4 0 [some (vR o)] [] T σ (fun r T' σ' => Rn 1 49 L (sx_push r st) T' σ' K) := R_I (cm := 4) (n := 0) (idx := 27) (mx := 1) (vs := []) (by decide +kernel) (Or.inl (by decide +kernel)) rfl (by decide +kernel) rfl (by decide +kernel)
theorem s1_49 : Rn 1 49 L (vR p :: vR o :: st) T σ K ↔ (sx_kd T o = 8 ∧ p < T.length) ∧ Rn 1 52 L st (sx_setR T o 3 p) σ K := R_putR (idx := 32) (ci := 8) (k := 3) (by decide +kernel) (by decide +kernel) rfl rfl (by decide +kernel) (by decide +kernel)
theorem s1_52 : Rn 1 52 [some (vR o)] st T σ K ↔ Rn 1 53 [some (vR o)] (vR o :: st) T σ K := R_aload_n (n := 0) (by decide +kernel) rfl
theorem s1_53 : Rn 1 53 L st T σ K ↔ T.length < 1000000 ∧ Rn 1 56 L (vR T.length :: st) (T ++ [(0, 3, List.replicate 3 none)]) σ K := R_new (idx := 35) (ci := 0) (N := 3) (by decide +kernel) (by decide +kernel) rfl rfl
theorem s1_56 : Rn 1 56 L (vR o :: st) T σ K ↔ Rn 1 57 L (vR o :: vR o :: st) T σ K := R_dup (v := vR o) (by decide +kernel) rfl
theorem s1_57 : Rn 1 57 L (vR o :: st) T σ K ↔ st.length ≤ 4 ∧ Rn 6 0 [some (vR o), none] [] T σ (fun r T' σ' => Rn 1 60 L (sx_push r st) T' σ' K) := R_I (cm := 6) (n := 0) (idx := 37) (mx := 2) (vs := []) (by decide +kernel) (Or.inl (by decide +kernel)) rfl (by decide +kernel) rfl (by decide +kernel)
theorem s1_60 : Rn 1 60 L (vR p :: vR o :: st) T σ K ↔ (sx_kd T o = 8 ∧ p < T.length) ∧ Rn 1 63 L st (sx_setR T o 4 p) σ K := R_putR (idx := 38) (ci := 8) (k := 4) (by decide +kernel) (by decide +kernel) rfl rfl (by decide +kernel) (by decide +kernel)
theorem s1_63 : Rn 1 63 [some (vR o)] st T σ K ↔ Rn 1 64 [some (vR o)] (vR o :: st) T σ K := R_aload_n (n := 0) (by decide +kernel) rfl
theorem s1_64 : Rn 1 64 L st T σ K ↔ T.length < 1000000 ∧ Rn 1 67 L (vR T.length :: st) (T ++ [(3, 12, List.replicate 12 none)]) σ K := R_new (idx := 42) (ci := 3) (N := 12) (by decide +kernel) (by decide +kernel) rfl rfl
theorem s1_67 : Rn 1 67 L (vR o :: st) T σ K ↔ Rn 1 68 L (vR o :: vR o :: st) T σ K := R_dup (v := vR o) (by decide +kernel) rfl
theorem s1_68 : Rn 1 68 [some (vR o)] st T σ K ↔ Rn 1 69 [some (vR o)] (vR o :: st) T σ K := R_aload_n (n := 0) (by decide +kernel) rfl
theorem s1_69 : Rn 1 69 L (vR o :: st) T σ K ↔ sx_kd T o = 8 ∧ ∃ t, sx_rf T o 2 = some t ∧ Rn 1 72 L (vR t :: st) T σ K := R_getR (idx := 28) (ci := 8) (k := 2) (by decide +kernel) (by decide +kernel) rfl
theorem s1_72 : Rn 1 72 L st T σ K ↔ Rn 1 73 L (vI 0 :: st) T σ K := R_iconst (n := 0) (by decide +kernel) (by decide)
theorem s1_73 : Rn 1 73 L (vI a :: vR p :: vR o :: st) T σ K ↔ st.length ≤ 4 ∧ Rn 7 0 [some (vR o), some (vR p), some (vI a)] [] T σ (fun r T' σ' => Rn 1 76 L (sx_push r st) T' σ' K) := R_I (cm := 7) (n := 2) (idx := 44) (mx := 3) (vs := [vR p, vI a]) (by decide +kernel) (Or.inl (by decide +kernel)) rfl (by decide +kernel) rfl (by decide +kernel)
theorem s1_76 : Rn 1 76 L (vR p :: vR o :: st) T σ K ↔ (sx_kd T o = 8 ∧ p < T.length) ∧ Rn 1 79 L st (sx_setR T o 5 p) σ K := R_putR (idx := 47) (ci := 8) (k := 5) (by decide +kernel) (by decide +kernel) rfl rfl (by decide +kernel) (by decide +kernel)
theorem s1_79 : Rn 1 79 [some (vR o)] st T σ K ↔ Rn 1 80 [some (vR o)] (vR o :: st) T σ K := R_aload_n (n := 0) (by decide +kernel) rfl
theorem s1_80 : Rn 1 80 L st T σ K ↔ T.length < 1000000 ∧ Rn 1 83 L (vR T.length :: st) (T ++ [(3, 12, List.replicate 12 none)]) σ K := R_new (idx := 42) (ci := 3) (N := 12) (by decide +kernel) (by decide +kernel) rfl rfl
theorem s1_83 : Rn 1 83 L (vR o :: st) T σ K ↔ Rn 1 84 L (vR o :: vR o :: st) T σ K := R_dup (v := vR o) (by decide +kernel) rfl
theorem s1_84 : Rn 1 84 [some (vR o)] st T σ K ↔ Rn 1 85 [some (vR o)] (vR o :: st) T σ K := R_aload_n (n := 0) (by decide +kernel) rfl
theorem s1_85 : Rn 1 85 L (vR o :: st) T σ K ↔ sx_kd T o = 8 ∧ ∃ t, sx_rf T o 2 = some t ∧ Rn 1 88 L (vR t :: st) T σ K := R_getR (idx := 28) (ci := 8) (k := 2) (by decide +kernel) (by decide +kernel) rfl
theorem s1_88 : Rn 1 88 L st T σ K ↔ Rn 1 89 L (vI 1 :: st) T σ K := R_iconst (n := 1) (by decide +kernel) (by decide)
theorem s1_89 : Rn 1 89 L (vI a :: vR p :: vR o :: st) T σ K ↔ st.length ≤ 4 ∧ Rn 7 0 [some (vR o), some (vR p), some (vI a)] [] T σ (fun r T' σ' => Rn 1 92 L (sx_push r st) T' σ' K) := R_I (cm := 7) (n := 2) (idx := 44) (mx := 3) (vs := [vR p, vI a]) (by decide +kernel) (Or.inl (by decide +kernel)) rfl (by decide +kernel) rfl (by decide +kernel)
theorem s1_92 : Rn 1 92 L (vR p :: vR o :: st) T σ K ↔ (sx_kd T o = 8 ∧ p < T.length) ∧ Rn 1 95 L st (sx_setR T o 6 p) σ K := R_putR (idx := 51) (ci := 8) (k := 6) (by decide +kernel) (by decide +kernel) rfl rfl (by decide +kernel) (by decide +kernel)
theorem s1_95 : Rn 1 95 [some (vR o)] st T σ K ↔ Rn 1 96 [some (vR o)] (vR o :: st) T σ K := R_aload_n (n := 0) (by decide +kernel) rfl
theorem s1_96 : Rn 1 96 L st T σ K ↔ T.length < 1000000 ∧ Rn 1 99 L (vR T.length :: st) (T ++ [(7, 9, List.replicate 9 none)]) σ K := R_new (idx := 54) (ci := 7) (N := 9) (by decide +kernel) (by decide +kernel) rfl rfl
theorem s1_99 : Rn 1 99 L (vR o :: st) T σ K ↔ Rn 1 100 L (vR o :: vR o :: st) T σ K := R_dup (v := vR o) (by decide +kernel) rfl
theorem s1_100 : Rn 1 100 [some (vR o)] st T σ K ↔ Rn 1 101 [some (vR o)] (vR o :: st) T σ K := R_aload_n (n := 0) (by decide +kernel) rfl
theorem s1_101 : Rn 1 101 L (vR o :: st) T σ K ↔ sx_kd T o = 8 ∧ ∃ t, sx_rf T o 2 = some t ∧ Rn 1 104 L (vR t :: st) T σ K := R_getR (idx := 28) (ci := 8) (k := 2) (by decide +kernel) (by decide +kernel) rfl
theorem s1_104 : Rn 1 104 L (vR p :: vR o :: st) T σ K ↔ st.length ≤ 4 ∧ Rn 8 0 [some (vR o), some (vR p)] [] T σ (fun r T' σ' => Rn 1 107 L (sx_push r st) T' σ' K) := R_I (cm := 8) (n := 1) (idx := 56) (mx := 2) (vs := [vR p]) (by decide +kernel) (Or.inl (by decide +kernel)) rfl (by decide +kernel) rfl (by decide +kernel)
theorem s1_107 : Rn 1 107 L (vR p :: vR o :: st) T σ K ↔ (sx_kd T o = 8 ∧ p < T.length) ∧ Rn 1 110 L st (sx_setR T o 7 p) σ K := R_putR (idx := 59) (ci := 8) (k := 7) (by decide +kernel) (by decide +kernel) rfl rfl (by decide +kernel) (by decide +kernel)
theorem s1_110 : Rn 1 110 [some (vR o)] st T σ K ↔ Rn 1 111 [some (vR o)] (vR o :: st) T σ K := R_aload_n (n := 0) (by decide +kernel) rfl
theorem s1_111 : Rn 1 111 L st T σ K ↔ T.length < 1000000 ∧ Rn 1 114 L (vR T.length :: st) (T ++ [(4, 6, List.replicate 6 none)]) σ K := R_new (idx := 63) (ci := 4) (N := 6) (by decide +kernel) (by decide +kernel) rfl rfl
theorem s1_114 : Rn 1 114 L (vR o :: st) T σ K ↔ Rn 1 115 L (vR o :: vR o :: st) T σ K := R_dup (v := vR o) (by decide +kernel) rfl
theorem s1_115 : Rn 1 115 [some (vR o)] st T σ K ↔ Rn 1 116 [some (vR o)] (vR o :: st) T σ K := R_aload_n (n := 0) (by decide +kernel) rfl
theorem s1_116 : Rn 1 116 L (vR o :: st) T σ K ↔ sx_kd T o = 8 ∧ ∃ t, sx_rf T o 2 = some t ∧ Rn 1 119 L (vR t :: st) T σ K := R_getR (idx := 28) (ci := 8) (k := 2) (by decide +kernel) (by decide +kernel) rfl
theorem s1_119 : Rn 1 119 L (vR p :: vR o :: st) T σ K ↔ st.length ≤ 4 ∧ Rn 9 0 [some (vR o), some (vR p)] [] T σ (fun r T' σ' => Rn 1 122 L (sx_push r st) T' σ' K) := R_I (cm := 9) (n := 1) (idx := 65) (mx := 2) (vs := [vR p]) (by decide +kernel) (Or.inl (by decide +kernel)) rfl (by decide +kernel) rfl (by decide +kernel)
theorem s1_122 : Rn 1 122 L (vR p :: vR o :: st) T σ K ↔ (sx_kd T o = 8 ∧ p < T.length) ∧ Rn 1 125 L st (sx_setR T o 8 p) σ K := R_putR (idx := 66) (ci := 8) (k := 8) (by decide +kernel) (by decide +kernel) rfl rfl (by decide +kernel) (by decide +kernel)
theorem s1_125 : Rn 1 125 [some (vR o)] st T σ K ↔ Rn 1 126 [some (vR o)] (vR o :: st) T σ K := R_aload_n (n := 0) (by decide +kernel) rfl
theorem s1_126 : Rn 1 126 L st T σ K ↔ T.length < 1000000 ∧ Rn 1 129 L (vR T.length :: st) (T ++ [(1, 2, List.replicate 2 none)]) σ K := R_new (idx := 70) (ci := 1) (N := 2) (by decide +kernel) (by decide +kernel) rfl rfl
theorem s1_129 : Rn 1 129 L (vR o :: st) T σ K ↔ Rn 1 130 L (vR o :: vR o :: st) T σ K := R_dup (v := vR o) (by decide +kernel) rfl
theorem s1_130 : Rn 1 130 L (vR o :: st) T σ K ↔ st.length ≤ 4 ∧ Rn 10 0 [some (vR o)] [] T σ (fun r T' σ' => Rn 1 133 L (sx_push r st) T' σ' K) := R_I (cm := 10) (n := 0) (idx := 72) (mx := 1) (vs := []) (by decide +kernel) (Or.inr (by decide +kernel)) rfl (by decide +kernel) rfl (by decide +kernel)
theorem s1_133 : Rn 1 133 L (vR p :: vR o :: st) T σ K ↔ (sx_kd T o = 8 ∧ p < T.length) ∧ Rn 1 136 L st (sx_setR T o 9 p) σ K := R_putR (idx := 73) (ci := 8) (k := 9) (by decide +kernel) (by decide +kernel) rfl rfl (by decide +kernel) (by decide +kernel)
theorem s1_136 : Rn 1 136 [some (vR o)] st T σ K ↔ Rn 1 137 [some (vR o)] (vR o :: st) T σ K := R_aload_n (n := 0) (by decide +kernel) rfl
theorem s1_137 : Rn 1 137 L st T σ K ↔ Rn 1 139 L (vI 6 :: st) T σ K := R_bipush (n := 6) (by decide +kernel) (by decide +kernel)
theorem s1_139 : Rn 1 139 L (vI a :: st) T σ K ↔ (0 ≤ a ∧ a ≤ 100000 ∧ T.length < 1000000) ∧ Rn 1 141 L (vR T.length :: st) (T ++ [(20, a.toNat, [])]) σ K := R_newI (by decide +kernel)
theorem s1_141 : Rn 1 141 L (vR p :: vR o :: st) T σ K ↔ (sx_kd T o = 8 ∧ p < T.length) ∧ Rn 1 144 L st (sx_setR T o 10 p) σ K := R_putR (idx := 77) (ci := 8) (k := 10) (by decide +kernel) (by decide +kernel) rfl rfl (by decide +kernel) (by decide +kernel)
theorem s1_144 : Rn 1 144 [some (vR o)] st T σ K ↔ Rn 1 145 [some (vR o)] (vR o :: st) T σ K := R_aload_n (n := 0) (by decide +kernel) rfl
theorem s1_145 : Rn 1 145 L st T σ K ↔ Rn 1 146 L (vJ 1 :: st) T σ K := R_lconst (n := 1) (by decide +kernel) rfl
theorem s1_146 : Rn 1 146 L (vJ a :: vR o :: st) T σ K ↔ (sx_kd T o = 8 ∧ inI a) ∧ Rn 1 149 L st T (sx_up σ o 11 a) K := R_putJ (idx := 81) (ci := 8) (k := 11) (by decide +kernel) (by decide +kernel) rfl rfl
theorem s1_149 : Rn 1 149 L [] T σ K ↔ K none T σ := R_retV (by decide +kernel) (by decide +kernel)
theorem s2_0 : Rn 2 0 [some (vR o)] st T σ K ↔ Rn 2 1 [some (vR o)] (vR o :: st) T σ K := R_aload_n (n := 0) (by decide +kernel) rfl
theorem s2_1 : Rn 2 1 L (vR o :: st) T σ K ↔ st.length ≤ 4 ∧ Rn 2 4 L st T σ K := R_oinit (idx := 3) (by decide +kernel) (by decide +kernel) (by decide +kernel) (by decide +kernel)
theorem s2_4 : Rn 2 4 [some (vR o)] st T σ K ↔ Rn 2 5 [some (vR o)] (vR o :: st) T σ K := R_aload_n (n := 0) (by decide +kernel) rfl
theorem s2_5 : Rn 2 5 L st T σ K ↔ Rn 2 8 L (vI 1600 :: st) T σ K := R_sipush (n := 1600) (by decide +kernel) (by decide +kernel)
theorem s2_8 : Rn 2 8 L (vI a :: st) T σ K ↔ (0 ≤ a ∧ a ≤ 100000 ∧ T.length < 1000000) ∧ Rn 2 10 L (vR T.length :: st) (T ++ [(20, a.toNat, [])]) σ K := R_newI (by decide +kernel)
theorem s2_10 : Rn 2 10 L (vR p :: vR o :: st) T σ K ↔ (sx_kd T o = 6 ∧ p < T.length) ∧ Rn 2 13 L st (sx_setR T o 0 p) σ K := R_putR (idx := 9) (ci := 6) (k := 0) (by decide +kernel) (by decide +kernel) rfl rfl (by decide +kernel) (by decide +kernel)
theorem s2_13 : Rn 2 13 L [] T σ K ↔ K none T σ := R_retV (by decide +kernel) (by decide +kernel)
theorem s3_0 : Rn 3 0 [some (vR o), l1] st T σ K ↔ Rn 3 1 [some (vR o), l1] (vR o :: st) T σ K := R_aload_n (n := 0) (by decide +kernel) rfl
theorem s3_1 : Rn 3 1 L (vR o :: st) T σ K ↔ st.length ≤ 4 ∧ Rn 3 4 L st T σ K := R_oinit (idx := 3) (by decide +kernel) (by decide +kernel) (by decide +kernel) (by decide +kernel)
theorem s3_4 : Rn 3 4 [some (vR o), l1] st T σ K ↔ Rn 3 5 [some (vR o), l1] (vR o :: st) T σ K := R_aload_n (n := 0) (by decide +kernel) rfl
theorem s3_5 : Rn 3 5 L st T σ K ↔ Rn 3 7 L (vI 40 :: st) T σ K := R_bipush (n := 40) (by decide +kernel) (by decide +kernel)
theorem s3_7 : Rn 3 7 L (vI a :: st) T σ K ↔ (0 ≤ a ∧ a ≤ 100000 ∧ T.length < 1000000) ∧ Rn 3 9 L (vR T.length :: st) (T ++ [(20, a.toNat, [])]) σ K := R_newI (by decide +kernel)
theorem s3_9 : Rn 3 9 L (vR p :: vR o :: st) T σ K ↔ (sx_kd T o = 5 ∧ p < T.length) ∧ Rn 3 12 L st (sx_setR T o 1 p) σ K := R_putR (idx := 9) (ci := 5) (k := 1) (by decide +kernel) (by decide +kernel) rfl rfl (by decide +kernel) (by decide +kernel)
theorem s3_12 : Rn 3 12 [some (vR o), l1] st T σ K ↔ Rn 3 13 [some (vR o), l1] (vR o :: st) T σ K := R_aload_n (n := 0) (by decide +kernel) rfl
theorem s3_13 : Rn 3 13 L st T σ K ↔ Rn 3 15 L (vI 40 :: st) T σ K := R_bipush (n := 40) (by decide +kernel) (by decide +kernel)
theorem s3_15 : Rn 3 15 L (vI a :: st) T σ K ↔ (0 ≤ a ∧ a ≤ 100000 ∧ T.length < 1000000) ∧ Rn 3 17 L (vR T.length :: st) (T ++ [(20, a.toNat, [])]) σ K := R_newI (by decide +kernel)
theorem s3_17 : Rn 3 17 L (vR p :: vR o :: st) T σ K ↔ (sx_kd T o = 5 ∧ p < T.length) ∧ Rn 3 20 L st (sx_setR T o 2 p) σ K := R_putR (idx := 15) (ci := 5) (k := 2) (by decide +kernel) (by decide +kernel) rfl rfl (by decide +kernel) (by decide +kernel)
theorem s3_20 : Rn 3 20 [some (vR o), l1] st T σ K ↔ Rn 3 21 [some (vR o), l1] (vR o :: st) T σ K := R_aload_n (n := 0) (by decide +kernel) rfl
theorem s3_21 : Rn 3 21 L st T σ K ↔ Rn 3 22 L (vI (-1) :: st) T σ K := R_iconst (n := -1) (by decide +kernel) (by decide)
theorem s3_22 : Rn 3 22 L (vI a :: vR o :: st) T σ K ↔ sx_kd T o = 5 ∧ Rn 3 25 L st T (sx_up σ o 6 a) K := R_putI (idx := 18) (ci := 5) (k := 6) (by decide +kernel) (by decide +kernel) rfl rfl
theorem s3_25 : Rn 3 25 [some (vR o), l1] st T σ K ↔ Rn 3 26 [some (vR o), l1] (vR o :: st) T σ K := R_aload_n (n := 0) (by decide +kernel) rfl
theorem s3_26 : Rn 3 26 [l0, some (vR o)] st T σ K ↔ Rn 3 27 [l0, some (vR o)] (vR o :: st) T σ K := R_aload_n (n := 1) (by decide +kernel) rfl
theorem s3_27 : Rn 3 27 L (vR p :: vR o :: st) T σ K ↔ (sx_kd T o = 5 ∧ p < T.length) ∧ Rn 3 30 L st (sx_setR T o 0 p) σ K := R_putR (idx := 22) (ci := 5) (k := 0) (by decide +kernel) (by decide +kernel) rfl rfl (by decide +kernel) (by decide +kernel)
theorem s3_30 : Rn 3 30 L [] T σ K ↔ K none T σ := R_retV (by decide +kernel) (by decide +kernel)
theorem s4_0 : Rn 4 0 [some (vR o)] st T σ K ↔ Rn 4 1 [some (vR o)] (vR o :: st) T σ K := R_aload_n (n := 0) (by decide +kernel) rfl
theorem s4_1 : Rn 4 1 L (vR o :: st) T σ K ↔ st.length ≤ 4 ∧ Rn 4 4 L st T σ K := R_oinit (idx := 3) (by decide +kernel) (by decide +kernel) (by decide +kernel) (by decide +kernel)
theorem s4_4 : Rn 4 4 [some (vR o)] st T σ K ↔ Rn 4 5 [some (vR o)] (vR o :: st) T σ K := R_aload_n (n := 0) (by decide +kernel) rfl
theorem s4_5 : Rn 4 5 L st T σ K ↔ Rn 4 7 L (vI 40 :: st) T σ K := R_bipush (n := 40) (by decide +kernel) (by decide +kernel)
theorem s4_7 : Rn 4 7 L (vI a :: st) T σ K ↔ (0 ≤ a ∧ a ≤ 100000 ∧ T.length < 1000000) ∧ Rn 4 9 L (vR T.length :: st) (T ++ [(20, a.toNat, [])]) σ K := R_newI (by decide +kernel)
theorem s4_9 : Rn 4 9 L (vR p :: vR o :: st) T σ K ↔ (sx_kd T o = 2 ∧ p < T.length) ∧ Rn 4 12 L st (sx_setR T o 0 p) σ K := R_putR (idx := 9) (ci := 2) (k := 0) (by decide +kernel) (by decide +kernel) rfl rfl (by decide +kernel) (by decide +kernel)
theorem s4_12 : Rn 4 12 [some (vR o)] st T σ K ↔ Rn 4 13 [some (vR o)] (vR o :: st) T σ K := R_aload_n (n := 0) (by decide +kernel) rfl
theorem s4_13 : Rn 4 13 L st T σ K ↔ Rn 4 15 L (vI 40 :: st) T σ K := R_bipush (n := 40) (by decide +kernel) (by decide +kernel)
theorem s4_15 : Rn 4 15 L (vI a :: st) T σ K ↔ (0 ≤ a ∧ a ≤ 100000 ∧ T.length < 1000000) ∧ Rn 4 17 L (vR T.length :: st) (T ++ [(20, a.toNat, [])]) σ K := R_newI (by decide +kernel)
theorem s4_17 : Rn 4 17 L (vR p :: vR o :: st) T σ K ↔ (sx_kd T o = 2 ∧ p < T.length) ∧ Rn 4 20 L st (sx_setR T o 1 p) σ K := R_putR (idx := 15) (ci := 2) (k := 1) (by decide +kernel) (by decide +kernel) rfl rfl (by decide +kernel) (by decide +kernel)
theorem s4_20 : Rn 4 20 [some (vR o)] st T σ K ↔ Rn 4 21 [some (vR o)] (vR o :: st) T σ K := R_aload_n (n := 0) (by decide +kernel) rfl
theorem s4_21 : Rn 4 21 L st T σ K ↔ Rn 4 23 L (vI 40 :: st) T σ K := R_bipush (n := 40) (by decide +kernel) (by decide +kernel)
theorem s4_23 : Rn 4 23 L (vI a :: st) T σ K ↔ (0 ≤ a ∧ a ≤ 100000 ∧ T.length < 1000000) ∧ Rn 4 25 L (vR T.length :: st) (T ++ [(20, a.toNat, [])]) σ K := R_newI (by decide +kernel)
theorem s4_25 : Rn 4 25 L (vR p :: vR o :: st) T σ K ↔ (sx_kd T o = 2 ∧ p < T.length) ∧ Rn 4 28 L st (sx_setR T o 2 p) σ K := R_putR (idx := 18) (ci := 2) (k := 2) (by decide +kernel) (by decide +kernel) rfl rfl (by decide +kernel) (by decide +kernel)
theorem s4_28 : Rn 4 28 [some (vR o)] st T σ K ↔ Rn 4 29 [some (vR o)] (vR o :: st) T σ K := R_aload_n (n := 0) (by decide +kernel) rfl
theorem s4_29 : Rn 4 29 L st T σ K ↔ Rn 4 31 L (vI 40 :: st) T σ K := R_bipush (n := 40) (by decide +kernel) (by decide +kernel)
theorem s4_31 : Rn 4 31 L (vI a :: st) T σ K ↔ (0 ≤ a ∧ a ≤ 100000 ∧ T.length < 1000000) ∧ Rn 4 33 L (vR T.length :: st) (T ++ [(20, a.toNat, [])]) σ K := R_newI (by decide +kernel)
theorem s4_33 : Rn 4 33 L (vR p :: vR o :: st) T σ K ↔ (sx_kd T o = 2 ∧ p < T.length) ∧ Rn 4 36 L st (sx_setR T o 3 p) σ K := R_putR (idx := 21) (ci := 2) (k := 3) (by decide +kernel) (by decide +kernel) rfl rfl (by decide +kernel) (by decide +kernel)
theorem s4_36 : Rn 4 36 [some (vR o)] st T σ K ↔ Rn 4 37 [some (vR o)] (vR o :: st) T σ K := R_aload_n (n := 0) (by decide +kernel) rfl
theorem s4_37 : Rn 4 37 L st T σ K ↔ Rn 4 38 L (vI (-1) :: st) T σ K := R_iconst (n := -1) (by decide +kernel) (by decide)
theorem s4_38 : Rn 4 38 L (vI a :: vR o :: st) T σ K ↔ sx_kd T o = 2 ∧ Rn 4 41 L st T (sx_up σ o 4 a) K := R_putI (idx := 24) (ci := 2) (k := 4) (by decide +kernel) (by decide +kernel) rfl rfl
theorem s4_41 : Rn 4 41 [some (vR o)] st T σ K ↔ Rn 4 42 [some (vR o)] (vR o :: st) T σ K := R_aload_n (n := 0) (by decide +kernel) rfl
theorem s4_42 : Rn 4 42 L st T σ K ↔ Rn 4 43 L (vI (-1) :: st) T σ K := R_iconst (n := -1) (by decide +kernel) (by decide)
theorem s4_43 : Rn 4 43 L (vI a :: vR o :: st) T σ K ↔ sx_kd T o = 2 ∧ Rn 4 46 L st T (sx_up σ o 5 a) K := R_putI (idx := 28) (ci := 2) (k := 5) (by decide +kernel) (by decide +kernel) rfl rfl
theorem s4_46 : Rn 4 46 [some (vR o)] st T σ K ↔ Rn 4 47 [some (vR o)] (vR o :: st) T σ K := R_aload_n (n := 0) (by decide +kernel) rfl
theorem s4_47 : Rn 4 47 L (vR o :: st) T σ K ↔ sx_kd T o = 2 ∧ ∃ t, sx_rf T o 1 = some t ∧ Rn 4 50 L (vR t :: st) T σ K := R_getR (idx := 15) (ci := 2) (k := 1) (by decide +kernel) (by decide +kernel) rfl
theorem s4_50 : Rn 4 50 L st T σ K ↔ Rn 4 51 L (vI (-1) :: st) T σ K := R_iconst (n := -1) (by decide +kernel) (by decide)
theorem s4_51 : Rn 4 51 L (vI a :: vR p :: st) T σ K ↔ st.length ≤ 4 ∧ Rn 5 0 [some (vR p), some (vI a), none, none] [] T σ (fun r T' σ' => Rn 4 54 L (sx_push r st) T' σ' K) := R_S (cm := 5) (n := 2) (idx := 31) (mx := 4) (vs := [vR p, vI a]) (by decide +kernel) (Or.inl (by decide +kernel)) rfl (by decide +kernel) rfl (by decide +kernel)
theorem s4_54 : Rn 4 54 [some (vR o)] st T σ K ↔ Rn 4 55 [some (vR o)] (vR o :: st) T σ K := R_aload_n (n := 0) (by decide +kernel) rfl
theorem s4_55 : Rn 4 55 L (vR o :: st) T σ K ↔ sx_kd T o = 2 ∧ ∃ t, sx_rf T o 2 = some t ∧ Rn 4 58 L (vR t :: st) T σ K := R_getR (idx := 18) (ci := 2) (k := 2) (by decide +kernel) (by decide +kernel) rfl
theorem s4_58 : Rn 4 58 L st T σ K ↔ Rn 4 59 L (vI (-1) :: st) T σ K := R_iconst (n := -1) (by decide +kernel) (by decide)
theorem s4_59 : Rn 4 59 L (vI a :: vR p :: st) T σ K ↔ st.length ≤ 4 ∧ Rn 5 0 [some (vR p), some (vI a), none, none] [] T σ (fun r T' σ' => Rn 4 62 L (sx_push r st) T' σ' K) := R_S (cm := 5) (n := 2) (idx := 31) (mx := 4) (vs := [vR p, vI a]) (by decide +kernel) (Or.inl (by decide +kernel)) rfl (by decide +kernel) rfl (by decide +kernel)
theorem s4_62 : Rn 4 62 L [] T σ K ↔ K none T σ := R_retV (by decide +kernel) (by decide +kernel)
theorem s5_0 : Rn 5 0 L st T σ K ↔ Rn 5 1 L (vI 0 :: st) T σ K := R_iconst (n := 0) (by decide +kernel) (by decide)
theorem s5_1 : Rn 5 1 [l0, l1, l2, l3] (vI a :: st) T σ K ↔ Rn 5 2 [l0, l1, some (vI a), l3] st T σ K := R_istore_n (n := 2) (by decide +kernel) rfl
theorem s5_2 : Rn 5 2 [some (vR o), l1, l2, l3] st T σ K ↔ Rn 5 3 [some (vR o), l1, l2, l3] (vR o :: st) T σ K := R_aload_n (n := 0) (by decide +kernel) rfl
theorem s5_3 : Rn 5 3 L (vR o :: st) T σ K ↔ (sx_kd T o = 20 ∨ sx_kd T o = 21) ∧ Rn 5 4 L (vI (sx_ln T o) :: st) T σ K := R_alen (by decide +kernel) (by decide)
theorem s5_4 : Rn 5 4 [l0, l1, l2, l3] (vI a :: st) T σ K ↔ Rn 5 5 [l0, l1, l2, some (vI a)] st T σ K := R_istore_n (n := 3) (by decide +kernel) rfl
theorem s5_5 : Rn 5 5 [l0, l1, some (vI a), l3] st T σ K ↔ Rn 5 6 [l0, l1, some (vI a), l3] (vI a :: st) T σ K := R_iload_n (n := 2) (by decide +kernel) rfl
theorem s5_6 : Rn 5 6 [l0, l1, l2, some (vI a)] st T σ K ↔ Rn 5 7 [l0, l1, l2, some (vI a)] (vI a :: st) T σ K := R_iload_n (n := 3) (by decide +kernel) rfl
theorem s5_7 : Rn 5 7 L (vI b :: vI a :: st) T σ K ↔ (b ≤ a → Rn 5 20 L st T σ K) ∧ (a < b → Rn 5 10 L st T σ K) := R_icmp_ge (off := 13) (by decide +kernel) (by decide)
theorem s5_10 : Rn 5 10 [some (vR o), l1, l2, l3] st T σ K ↔ Rn 5 11 [some (vR o), l1, l2, l3] (vR o :: st) T σ K := R_aload_n (n := 0) (by decide +kernel) rfl
theorem s5_11 : Rn 5 11 [l0, l1, some (vI a), l3] st T σ K ↔ Rn 5 12 [l0, l1, some (vI a), l3] (vI a :: st) T σ K := R_iload_n (n := 2) (by decide +kernel) rfl
theorem s5_12 : Rn 5 12 [l0, some (vI a), l2, l3] st T σ K ↔ Rn 5 13 [l0, some (vI a), l2, l3] (vI a :: st) T σ K := R_iload_n (n := 1) (by decide +kernel) rfl
theorem s5_13 : Rn 5 13 L (vI b :: vI a :: vR o :: st) T σ K ↔ (sx_kd T o = 20 ∧ 0 ≤ a ∧ a < sx_ln T o) ∧ Rn 5 14 L st T (sx_up σ o a b) K := R_iast (by decide +kernel)
theorem s5_14 : Rn 5 14 [l0, l1, some (vI a), l3] st T σ K ↔ inI (a + 1) ∧ Rn 5 17 [l0, l1, some (vI (a + 1)), l3] st T σ K := R_iinc (n := 2) (d := 1) (by decide +kernel) rfl
theorem s5_17 : Rn 5 17 L st T σ K ↔ Rn 5 5 L st T σ K := R_goto (off := -12) (by decide +kernel) (by decide)
theorem s5_20 : Rn 5 20 L [] T σ K ↔ K none T σ := R_retV (by decide +kernel) (by decide +kernel)
theorem s6_0 : Rn 6 0 [some (vR o), l1] st T σ K ↔ Rn 6 1 [some (vR o), l1] (vR o :: st) T σ K := R_aload_n (n := 0) (by decide +kernel) rfl
theorem s6_1 : Rn 6 1 L (vR o :: st) T σ K ↔ st.length ≤ 4 ∧ Rn 6 4 L st T σ K := R_oinit (idx := 1) (by decide +kernel) (by decide +kernel) (by decide +kernel) (by decide +kernel)
theorem s6_4 : Rn 6 4 [some (vR o), l1] st T σ K ↔ Rn 6 5 [some (vR o), l1] (vR o :: st) T σ K := R_aload_n (n := 0) (by decide +kernel) rfl
theorem s6_5 : Rn 6 5 L st T σ K ↔ Rn 6 7 L (vI 20 :: st) T σ K := R_bipush (n := 20) (by decide +kernel) (by decide +kernel)
theorem s6_7 : Rn 6 7 L (vI a :: st) T σ K ↔ (0 ≤ a ∧ a ≤ 100000 ∧ T.length < 1000000) ∧ Rn 6 10 L (vR T.length :: st) (T ++ [(22, a.toNat, List.replicate a.toNat none)]) σ K := R_newP (idx := 9) (by decide +kernel) (by decide +kernel)
theorem s6_10 : Rn 6 10 L (vR p :: vR o :: st) T σ K ↔ (sx_kd T o = 0 ∧ p < T.length) ∧ Rn 6 13 L st (sx_setR T o 0 p) σ K := R_putR (idx := 11) (ci := 0) (k := 0) (by decide +kernel) (by decide +kernel) rfl rfl (by decide +kernel) (by decide +kernel)
theorem s6_13 : Rn 6 13 L st T σ K ↔ Rn 6 14 L (vI 0 :: st) T σ K := R_iconst (n := 0) (by decide +kernel) (by decide)
theorem s6_14 : Rn 6 14 [l0, l1] (vI a :: st) T σ K ↔ Rn 6 15 [l0, some (vI a)] st T σ K := R_istore_n (n := 1) (by decide +kernel) rfl
theorem s6_15 : Rn 6 15 [l0, some (vI a)] st T σ K ↔ Rn 6 16 [l0, some (vI a)] (vI a :: st) T σ K := R_iload_n (n := 1) (by decide +kernel) rfl
theorem s6_16 : Rn 6 16 L st T σ K ↔ Rn 6 18 L (vI 20 :: st) T σ K := R_bipush (n := 20) (by decide +kernel) (by decide +kernel)
theorem s6_18 : Rn 6 18 L (vI b :: vI a :: st) T σ K ↔ (b ≤ a → Rn 6 40 L st T σ K) ∧ (a < b → Rn 6 21 L st T σ K) := R_icmp_ge (off := 22) (by decide +kernel) (by decide)
theorem s6_21 : Rn 6 21 [some (vR o), l1] st T σ K ↔ Rn 6 22 [some (vR o), l1] (vR o :: st) T σ K := R_aload_n (n := 0) (by decide +kernel) rfl
theorem s6_22 : Rn 6 22 L (vR o :: st) T σ K ↔ sx_kd T o = 0 ∧ ∃ t, sx_rf T o 0 = some t ∧ Rn 6 25 L (vR t :: st) T σ K := R_getR (idx := 11) (ci := 0) (k := 0) (by decide +kernel) (by decide +kernel) rfl
theorem s6_25 : Rn 6 25 [l0, some (vI a)] st T σ K ↔ Rn 6 26 [l0, some (vI a)] (vI a :: st) T σ K := R_iload_n (n := 1) (by decide +kernel) rfl
theorem s6_26 : Rn 6 26 L st T σ K ↔ T.length < 1000000 ∧ Rn 6 29 L (vR T.length :: st) (T ++ [(2, 7, List.replicate 7 none)]) σ K := R_new (idx := 9) (ci := 2) (N := 7) (by decide +kernel) (by decide +kernel) rfl rfl
theorem s6_29 : Rn 6 29 L (vR o :: st) T σ K ↔ Rn 6 30 L (vR o :: vR o :: st) T σ K := R_dup (v := vR o) (by decide +kernel) rfl
theorem s6_30 : Rn 6 30 L (vR o :: st) T σ K ↔ st.length ≤ 4 ∧ Rn 4 0 [some (vR o)] [] T σ (fun r T' σ' => Rn 6 33 L (sx_push r st) T' σ' K) := R_I (cm := 4) (n := 0) (idx := 15) (mx := 1) (vs := []) (by decide +kernel) (Or.inl (by decide +kernel)) rfl (by decide +kernel) rfl (by decide +kernel)
theorem s6_33 : Rn 6 33 L (vR p :: vI a :: vR o :: st) T σ K ↔ (sx_kd T o = 22 ∧ 0 ≤ a ∧ a < sx_ln T o ∧ sx_kd T p = 2) ∧ Rn 6 34 L st (sx_setR T o a.toNat p) σ K := R_aast (by decide +kernel)
theorem s6_34 : Rn 6 34 [l0, some (vI a)] st T σ K ↔ inI (a + 1) ∧ Rn 6 37 [l0, some (vI (a + 1))] st T σ K := R_iinc (n := 1) (d := 1) (by decide +kernel) rfl
theorem s6_37 : Rn 6 37 L st T σ K ↔ Rn 6 15 L st T σ K := R_goto (off := -22) (by decide +kernel) (by decide)
theorem s6_40 : Rn 6 40 L [] T σ K ↔ K none T σ := R_retV (by decide +kernel) (by decide +kernel)
theorem s7_0 : Rn 7 0 [some (vR o), l1, l2] st T σ K ↔ Rn 7 1 [some (vR o), l1, l2] (vR o :: st) T σ K := R_aload_n (n := 0) (by decide +kernel) rfl
theorem s7_1 : Rn 7 1 L (vR o :: st) T σ K ↔ st.length ≤ 4 ∧ Rn 7 4 L st T σ K := R_oinit (idx := 3) (by decide +kernel) (by decide +kernel) (by decide +kernel) (by decide +kernel)
theorem s7_4 : Rn 7 4 [some (vR o), l1, l2] st T σ K ↔ Rn 7 5 [some (vR o), l1, l2] (vR o :: st) T σ K := R_aload_n (n := 0) (by decide +kernel) rfl
theorem s7_5 : Rn 7 5 L st T σ K ↔ Rn 7 7 L (vI 40 :: st) T σ K := R_bipush (n := 40) (by decide +kernel) (by decide +kernel)
theorem s7_7 : Rn 7 7 L (vI a :: st) T σ K ↔ (0 ≤ a ∧ a ≤ 100000 ∧ T.length < 1000000) ∧ Rn 7 9 L (vR T.length :: st) (T ++ [(20, a.toNat, [])]) σ K := R_newI (by decide +kernel)
theorem s7_9 : Rn 7 9 L (vR p :: vR o :: st) T σ K ↔ (sx_kd T o = 3 ∧ p < T.length) ∧ Rn 7 12 L st (sx_setR T o 2 p) σ K := R_putR (idx := 9) (ci := 3) (k := 2) (by decide +kernel) (by decide +kernel) rfl rfl (by decide +kernel) (by decide +kernel)
theorem s7_12 : Rn 7 12 [some (vR o), l1, l2] st T σ K ↔ Rn 7 13 [some (vR o), l1, l2] (vR o :: st) T σ K := R_aload_n (n := 0) (by decide +kernel) rfl
theorem s7_13 : Rn 7 13 L st T σ K ↔ Rn 7 15 L (vI 40 :: st) T σ K := R_bipush (n := 40) (by decide +kernel) (by decide +kernel)
theorem s7_15 : Rn 7 15 L (vI a :: st) T σ K ↔ (0 ≤ a ∧ a ≤ 100000 ∧ T.length < 1000000) ∧ Rn 7 17 L (vR T.length :: st) (T ++ [(21, a.toNat, [])]) σ K := R_newZ (by decide +kernel)
theorem s7_17 : Rn 7 17 L (vR p :: vR o :: st) T σ K ↔ (sx_kd T o = 3 ∧ p < T.length) ∧ Rn 7 20 L st (sx_setR T o 3 p) σ K := R_putR (idx := 15) (ci := 3) (k := 3) (by decide +kernel) (by decide +kernel) rfl rfl (by decide +kernel) (by decide +kernel)
theorem s7_20 : Rn 7 20 [some (vR o), l1, l2] st T σ K ↔ Rn 7 21 [some (vR o), l1, l2] (vR o :: st) T σ K := R_aload_n (n := 0) (by decide +kernel) rfl
theorem s7_21 : Rn 7 21 L st T σ K ↔ Rn 7 23 L (vI 40 :: st) T σ K := R_bipush (n := 40) (by decide +kernel) (by decide +kernel)
theorem s7_23 : Rn 7 23 L (vI a :: st) T σ K ↔ (0 ≤ a ∧ a ≤ 100000 ∧ T.length < 1000000) ∧ Rn 7 25 L (vR T.length :: st) (T ++ [(20, a.toNat, [])]) σ K := R_newI (by decide +kernel)
theorem s7_25 : Rn 7 25 L (vR p :: vR o :: st) T σ K ↔ (sx_kd T o = 3 ∧ p < T.length) ∧ Rn 7 28 L st (sx_setR T o 4 p) σ K := R_putR (idx := 19) (ci := 3) (k := 4) (by decide +kernel) (by decide +kernel) rfl rfl (by decide +kernel) (by decide +kernel)
theorem s7_28 : Rn 7 28 [some (vR o), l1, l2] st T σ K ↔ Rn 7 29 [some (vR o), l1, l2] (vR o :: st) T σ K := R_aload_n (n := 0) (by decide +kernel) rfl
theorem s7_29 : Rn 7 29 L st T σ K ↔ Rn 7 31 L (vI 40 :: st) T σ K := R_bipush (n := 40) (by decide +kernel) (by decide +kernel)
theorem s7_31 : Rn 7 31 L (vI a :: st) T σ K ↔ (0 ≤ a ∧ a ≤ 100000 ∧ T.length < 1000000) ∧ Rn 7 33 L (vR T.length :: st) (T ++ [(20, a.toNat, [])]) σ K := R_newI (by decide +kernel)
theorem s7_33 : Rn 7 33 L (vR p :: vR o :: st) T σ K ↔ (sx_kd T o = 3 ∧ p < T.length) ∧ Rn 7 36 L st (sx_setR T o 5 p) σ K := R_putR (idx := 22) (ci := 3) (k := 5) (by decide +kernel) (by decide +kernel) rfl rfl (by decide +kernel) (by decide +kernel)
theorem s7_36 : Rn 7 36 [some (vR o), l1, l2] st T σ K ↔ Rn 7 37 [some (vR o), l1, l2] (vR o :: st) T σ K := R_aload_n (n := 0) (by decide +kernel) rfl
theorem s7_37 : Rn 7 37 L st T σ K ↔ Rn 7 39 L (vI 40 :: st) T σ K := R_bipush (n := 40) (by decide +kernel) (by decide +kernel)
theorem s7_39 : Rn 7 39 L (vI a :: st) T σ K ↔ (0 ≤ a ∧ a ≤ 100000 ∧ T.length < 1000000) ∧ Rn 7 41 L (vR T.length :: st) (T ++ [(20, a.toNat, [])]) σ K := R_newI (by decide +kernel)
theorem s7_41 : Rn 7 41 L (vR p :: vR o :: st) T σ K ↔ (sx_kd T o = 3 ∧ p < T.length) ∧ Rn 7 44 L st (sx_setR T o 6 p) σ K := R_putR (idx := 25) (ci := 3) (k := 6) (by decide +kernel) (by decide +kernel) rfl rfl (by decide +kernel) (by decide +kernel)
theorem s7_44 : Rn 7 44 [some (vR o), l1, l2] st T σ K ↔ Rn 7 45 [some (vR o), l1, l2] (vR o :: st) T σ K := R_aload_n (n := 0) (by decide +kernel) rfl
theorem s7_45 : Rn 7 45 L st T σ K ↔ Rn 7 47 L (vI 40 :: st) T σ K := R_bipush (n := 40) (by decide +kernel) (by decide +kernel)
theorem s7_47 : Rn 7 47 L (vI a :: st) T σ K ↔ (0 ≤ a ∧ a ≤ 100000 ∧ T.length < 1000000) ∧ Rn 7 49 L (vR T.length :: st) (T ++ [(20, a.toNat, [])]) σ K := R_newI (by decide +kernel)
theorem s7_49 : Rn 7 49 L (vR p :: vR o :: st) T σ K ↔ (sx_kd T o = 3 ∧ p < T.length) ∧ Rn 7 52 L st (sx_setR T o 7 p) σ K := R_putR (idx := 28) (ci := 3) (k := 7) (by decide +kernel) (by decide +kernel) rfl rfl (by decide +kernel) (by decide +kernel)
theorem s7_52 : Rn 7 52 [some (vR o), l1, l2] st T σ K ↔ Rn 7 53 [some (vR o), l1, l2] (vR o :: st) T σ K := R_aload_n (n := 0) (by decide +kernel) rfl
theorem s7_53 : Rn 7 53 L st T σ K ↔ Rn 7 54 L (vI (-1) :: st) T σ K := R_iconst (n := -1) (by decide +kernel) (by decide)
theorem s7_54 : Rn 7 54 L (vI a :: vR o :: st) T σ K ↔ sx_kd T o = 3 ∧ Rn 7 57 L st T (sx_up σ o 10 a) K := R_putI (idx := 31) (ci := 3) (k := 10) (by decide +kernel) (by decide +kernel) rfl rfl
theorem s7_57 : Rn 7 57 [some (vR o), l1, l2] st T σ K ↔ Rn 7 58 [some (vR o), l1, l2] (vR o :: st) T σ K := R_aload_n (n := 0) (by decide +kernel) rfl
theorem s7_58 : Rn 7 58 [l0, some (vR o), l2] st T σ K ↔ Rn 7 59 [l0, some (vR o), l2] (vR o :: st) T σ K := R_aload_n (n := 1) (by decide +kernel) rfl
theorem s7_59 : Rn 7 59 L (vR p :: vR o :: st) T σ K ↔ (sx_kd T o = 3 ∧ p < T.length) ∧ Rn 7 62 L st (sx_setR T o 0 p) σ K := R_putR (idx := 35) (ci := 3) (k := 0) (by decide +kernel) (by decide +kernel) rfl rfl (by decide +kernel) (by decide +kernel)
theorem s7_62 : Rn 7 62 [some (vR o), l1, l2] st T σ K ↔ Rn 7 63 [some (vR o), l1, l2] (vR o :: st) T σ K := R_aload_n (n := 0) (by decide +kernel) rfl
theorem s7_63 : Rn 7 63 [l0, l1, some (vI a)] st T σ K ↔ Rn 7 64 [l0, l1, some (vI a)] (vI a :: st) T σ K := R_iload_n (n := 2) (by decide +kernel) rfl
theorem s7_64 : Rn 7 64 L (vI a :: st) T σ K ↔ (a = 0 → Rn 7 71 L st T σ K) ∧ (a ≠ 0 → Rn 7 67 L st T σ K) := R_if_eq (off := 7) (by decide +kernel) (by decide)
theorem s7_67 : Rn 7 67 L st T σ K ↔ Rn 7 68 L (vI (-1) :: st) T σ K := R_iconst (n := -1) (by decide +kernel) (by decide)
theorem s7_68 : Rn 7 68 L st T σ K ↔ Rn 7 72 L st T σ K := R_goto (off := 4) (by decide +kernel) (by decide)
theorem s7_71 : Rn 7 71 L st T σ K ↔ Rn 7 72 L (vI 1 :: st) T σ K := R_iconst (n := 1) (by decide +kernel) (by decide)
theorem s7_72 : Rn 7 72 L (vI a :: vR o :: st) T σ K ↔ sx_kd T o = 3 ∧ Rn 7 75 L st T (sx_up σ o 1 a) K := R_putIF (idx := 39) (ci := 3) (k := 1) (by decide +kernel) (by decide +kernel) rfl rfl (by decide +kernel) (by decide +kernel)
theorem s7_75 : Rn 7 75 L [] T σ K ↔ K none T σ := R_retV (by decide +kernel) (by decide +kernel)
theorem s8_0 : Rn 8 0 [some (vR o), l1] st T σ K ↔ Rn 8 1 [some (vR o), l1] (vR o :: st) T σ K := R_aload_n (n := 0) (by decide +kernel) rfl
theorem s8_1 : Rn 8 1 L (vR o :: st) T σ K ↔ st.length ≤ 4 ∧ Rn 8 4 L st T σ K := R_oinit (idx := 3) (by decide +kernel) (by decide +kernel) (by decide +kernel) (by decide +kernel)
theorem s8_4 : Rn 8 4 [some (vR o), l1] st T σ K ↔ Rn 8 5 [some (vR o), l1] (vR o :: st) T σ K := R_aload_n (n := 0) (by decide +kernel) rfl
theorem s8_5 : Rn 8 5 L st T σ K ↔ Rn 8 7 L (vI 40 :: st) T σ K := R_bipush (n := 40) (by decide +kernel) (by decide +kernel)
theorem s8_7 : Rn 8 7 L (vI a :: st) T σ K ↔ (0 ≤ a ∧ a ≤ 100000 ∧ T.length < 1000000) ∧ Rn 8 9 L (vR T.length :: st) (T ++ [(20, a.toNat, [])]) σ K := R_newI (by decide +kernel)
theorem s8_9 : Rn 8 9 L (vR p :: vR o :: st) T σ K ↔ (sx_kd T o = 7 ∧ p < T.length) ∧ Rn 8 12 L st (sx_setR T o 1 p) σ K := R_putR (idx := 9) (ci := 7) (k := 1) (by decide +kernel) (by decide +kernel) rfl rfl (by decide +kernel) (by decide +kernel)
theorem s8_12 : Rn 8 12 [some (vR o), l1] st T σ K ↔ Rn 8 13 [some (vR o), l1] (vR o :: st) T σ K := R_aload_n (n := 0) (by decide +kernel) rfl
theorem s8_13 : Rn 8 13 L st T σ K ↔ Rn 8 15 L (vI 40 :: st) T σ K := R_bipush (n := 40) (by decide +kernel) (by decide +kernel)
theorem s8_15 : Rn 8 15 L (vI a :: st) T σ K ↔ (0 ≤ a ∧ a ≤ 100000 ∧ T.length < 1000000) ∧ Rn 8 17 L (vR T.length :: st) (T ++ [(20, a.toNat, [])]) σ K := R_newI (by decide +kernel)
theorem s8_17 : Rn 8 17 L (vR p :: vR o :: st) T σ K ↔ (sx_kd T o = 7 ∧ p < T.length) ∧ Rn 8 20 L st (sx_setR T o 2 p) σ K := R_putR (idx := 15) (ci := 7) (k := 2) (by decide +kernel) (by decide +kernel) rfl rfl (by decide +kernel) (by decide +kernel)
theorem s8_20 : Rn 8 20 [some (vR o), l1] st T σ K ↔ Rn 8 21 [some (vR o), l1] (vR o :: st) T σ K := R_aload_n (n := 0) (by decide +kernel) rfl
theorem s8_21 : Rn 8 21 L st T σ K ↔ Rn 8 23 L (vI 40 :: st) T σ K := R_bipush (n := 40) (by decide +kernel) (by decide +kernel)
theorem s8_23 : Rn 8 23 L (vI a :: st) T σ K ↔ (0 ≤ a ∧ a ≤ 100000 ∧ T.length < 1000000) ∧ Rn 8 25 L (vR T.length :: st) (T ++ [(20, a.toNat, [])]) σ K := R_newI (by decide +kernel)
theorem s8_25 : Rn 8 25 L (vR p :: vR o :: st) T σ K ↔ (sx_kd T o = 7 ∧ p < T.length) ∧ Rn 8 28 L st (sx_setR T o 3 p) σ K := R_putR (idx := 18) (ci := 7) (k := 3) (by decide +kernel) (by decide +kernel) rfl rfl (by decide +kernel) (by decide +kernel)
theorem s8_28 : Rn 8 28 [some (vR o), l1] st T σ K ↔ Rn 8 29 [some (vR o), l1] (vR o :: st) T σ K := R_aload_n (n := 0) (by decide +kernel) rfl
theorem s8_29 : Rn 8 29 L st T σ K ↔ Rn 8 31 L (vI 40 :: st) T σ K := R_bipush (n := 40) (by decide +kernel) (by decide +kernel)
theorem s8_31 : Rn 8 31 L (vI a :: st) T σ K ↔ (0 ≤ a ∧ a ≤ 100000 ∧ T.length < 1000000) ∧ Rn 8 33 L (vR T.length :: st) (T ++ [(20, a.toNat, [])]) σ K := R_newI (by decide +kernel)
theorem s8_33 : Rn 8 33 L (vR p :: vR o :: st) T σ K ↔ (sx_kd T o = 7 ∧ p < T.length) ∧ Rn 8 36 L st (sx_setR T o 4 p) σ K := R_putR (idx := 21) (ci := 7) (k := 4) (by decide +kernel) (by decide +kernel) rfl rfl (by decide +kernel) (by decide +kernel)
theorem s8_36 : Rn 8 36 [some (vR o), l1] st T σ K ↔ Rn 8 37 [some (vR o), l1] (vR o :: st) T σ K := R_aload_n (n := 0) (by decide +kernel) rfl
theorem s8_37 : Rn 8 37 L st T σ K ↔ Rn 8 39 L (vI 40 :: st) T σ K := R_bipush (n := 40) (by decide +kernel) (by decide +kernel)
theorem s8_39 : Rn 8 39 L (vI a :: st) T σ K ↔ (0 ≤ a ∧ a ≤ 100000 ∧ T.length < 1000000) ∧ Rn 8 41 L (vR T.length :: st) (T ++ [(20, a.toNat, [])]) σ K := R_newI (by decide +kernel)
theorem s8_41 : Rn 8 41 L (vR p :: vR o :: st) T σ K ↔ (sx_kd T o = 7 ∧ p < T.length) ∧ Rn 8 44 L st (sx_setR T o 5 p) σ K := R_putR (idx := 24) (ci := 7) (k := 5) (by decide +kernel) (by decide +kernel) rfl rfl (by decide +kernel) (by decide +kernel)
theorem s8_44 : Rn 8 44 [some (vR o), l1] st T σ K ↔ Rn 8 45 [some (vR o), l1] (vR o :: st) T σ K := R_aload_n (n := 0) (by decide +kernel) rfl
theorem s8_45 : Rn 8 45 L st T σ K ↔ Rn 8 47 L (vI 40 :: st) T σ K := R_bipush (n := 40) (by decide +kernel) (by decide +kernel)
theorem s8_47 : Rn 8 47 L (vI a :: st) T σ K ↔ (0 ≤ a ∧ a ≤ 100000 ∧ T.length < 1000000) ∧ Rn 8 49 L (vR T.length :: st) (T ++ [(20, a.toNat, [])]) σ K := R_newI (by decide +kernel)
theorem s8_49 : Rn 8 49 L (vR p :: vR o :: st) T σ K ↔ (sx_kd T o = 7 ∧ p < T.length) ∧ Rn 8 52 L st (sx_setR T o 6 p) σ K := R_putR (idx := 27) (ci := 7) (k := 6) (by decide +kernel) (by decide +kernel) rfl rfl (by decide +kernel) (by decide +kernel)
theorem s8_52 : Rn 8 52 [some (vR o), l1] st T σ K ↔ Rn 8 53 [some (vR o), l1] (vR o :: st) T σ K := R_aload_n (n := 0) (by decide +kernel) rfl
theorem s8_53 : Rn 8 53 L st T σ K ↔ Rn 8 55 L (vI 40 :: st) T σ K := R_bipush (n := 40) (by decide +kernel) (by decide +kernel)
theorem s8_55 : Rn 8 55 L (vI a :: st) T σ K ↔ (0 ≤ a ∧ a ≤ 100000 ∧ T.length < 1000000) ∧ Rn 8 57 L (vR T.length :: st) (T ++ [(21, a.toNat, [])]) σ K := R_newZ (by decide +kernel)
theorem s8_57 : Rn 8 57 L (vR p :: vR o :: st) T σ K ↔ (sx_kd T o = 7 ∧ p < T.length) ∧ Rn 8 60 L st (sx_setR T o 7 p) σ K := R_putR (idx := 30) (ci := 7) (k := 7) (by decide +kernel) (by decide +kernel) rfl rfl (by decide +kernel) (by decide +kernel)
theorem s8_60 : Rn 8 60 [some (vR o), l1] st T σ K ↔ Rn 8 61 [some (vR o), l1] (vR o :: st) T σ K := R_aload_n (n := 0) (by decide +kernel) rfl
theorem s8_61 : Rn 8 61 [l0, some (vR o)] st T σ K ↔ Rn 8 62 [l0, some (vR o)] (vR o :: st) T σ K := R_aload_n (n := 1) (by decide +kernel) rfl
theorem s8_62 : Rn 8 62 L (vR p :: vR o :: st) T σ K ↔ (sx_kd T o = 7 ∧ p < T.length) ∧ Rn 8 65 L st (sx_setR T o 0 p) σ K := R_putR (idx := 34) (ci := 7) (k := 0) (by decide +kernel) (by decide +kernel) rfl rfl (by decide +kernel) (by decide +kernel)
theorem s8_65 : Rn 8 65 L [] T σ K ↔ K none T σ := R_retV (by decide +kernel) (by decide +kernel)
theorem s9_0 : Rn 9 0 [some (vR o), l1] st T σ K ↔ Rn 9 1 [some (vR o), l1] (vR o :: st) T σ K := R_aload_n (n := 0) (by decide +kernel) rfl
theorem s9_1 : Rn 9 1 L (vR o :: st) T σ K ↔ st.length ≤ 4 ∧ Rn 9 4 L st T σ K := R_oinit (idx := 3) (by decide +kernel) (by decide +kernel) (by decide +kernel) (by decide +kernel)
theorem s9_4 : Rn 9 4 [some (vR o), l1] st T σ K ↔ Rn 9 5 [some (vR o), l1] (vR o :: st) T σ K := R_aload_n (n := 0) (by decide +kernel) rfl
theorem s9_5 : Rn 9 5 L st T σ K ↔ Rn 9 7 L (vI 12 :: st) T σ K := R_bipush (n := 12) (by decide +kernel) (by decide +kernel)
theorem s9_7 : Rn 9 7 L (vI a :: st) T σ K ↔ (0 ≤ a ∧ a ≤ 100000 ∧ T.length < 1000000) ∧ Rn 9 9 L (vR T.length :: st) (T ++ [(20, a.toNat, [])]) σ K := R_newI (by decide +kernel)
theorem s9_9 : Rn 9 9 L (vR p :: vR o :: st) T σ K ↔ (sx_kd T o = 4 ∧ p < T.length) ∧ Rn 9 12 L st (sx_setR T o 1 p) σ K := R_putR (idx := 11) (ci := 4) (k := 1) (by decide +kernel) (by decide +kernel) rfl rfl (by decide +kernel) (by decide +kernel)
theorem s9_12 : Rn 9 12 [some (vR o), l1] st T σ K ↔ Rn 9 13 [some (vR o), l1] (vR o :: st) T σ K := R_aload_n (n := 0) (by decide +kernel) rfl
theorem s9_13 : Rn 9 13 L st T σ K ↔ Rn 9 15 L (vI 12 :: st) T σ K := R_bipush (n := 12) (by decide +kernel) (by decide +kernel)
theorem s9_15 : Rn 9 15 L (vI a :: st) T σ K ↔ (0 ≤ a ∧ a ≤ 100000 ∧ T.length < 1000000) ∧ Rn 9 17 L (vR T.length :: st) (T ++ [(20, a.toNat, [])]) σ K := R_newI (by decide +kernel)
theorem s9_17 : Rn 9 17 L (vR p :: vR o :: st) T σ K ↔ (sx_kd T o = 4 ∧ p < T.length) ∧ Rn 9 20 L st (sx_setR T o 2 p) σ K := R_putR (idx := 15) (ci := 4) (k := 2) (by decide +kernel) (by decide +kernel) rfl rfl (by decide +kernel) (by decide +kernel)
theorem s9_20 : Rn 9 20 [some (vR o), l1] st T σ K ↔ Rn 9 21 [some (vR o), l1] (vR o :: st) T σ K := R_aload_n (n := 0) (by decide +kernel) rfl
theorem s9_21 : Rn 9 21 L st T σ K ↔ Rn 9 23 L (vI 12 :: st) T σ K := R_bipush (n := 12) (by decide +kernel) (by decide +kernel)
theorem s9_23 : Rn 9 23 L (vI a :: st) T σ K ↔ (0 ≤ a ∧ a ≤ 100000 ∧ T.length < 1000000) ∧ Rn 9 25 L (vR T.length :: st) (T ++ [(20, a.toNat, [])]) σ K := R_newI (by decide +kernel)
theorem s9_25 : Rn 9 25 L (vR p :: vR o :: st) T σ K ↔ (sx_kd T o = 4 ∧ p < T.length) ∧ Rn 9 28 L st (sx_setR T o 3 p) σ K := R_putR (idx := 18) (ci := 4) (k := 3) (by decide +kernel) (by decide +kernel) rfl rfl (by decide +kernel) (by decide +kernel)
theorem s9_28 : Rn 9 28 [some (vR o), l1] st T σ K ↔ Rn 9 29 [some (vR o), l1] (vR o :: st) T σ K := R_aload_n (n := 0) (by decide +kernel) rfl
theorem s9_29 : Rn 9 29 L st T σ K ↔ Rn 9 30 L (vI 3 :: st) T σ K := R_iconst (n := 3) (by decide +kernel) (by decide)
theorem s9_30 : Rn 9 30 L (vI a :: st) T σ K ↔ (0 ≤ a ∧ a ≤ 100000 ∧ T.length < 1000000) ∧ Rn 9 32 L (vR T.length :: st) (T ++ [(21, a.toNat, [])]) σ K := R_newZ (by decide +kernel)
theorem s9_32 : Rn 9 32 L (vR p :: vR o :: st) T σ K ↔ (sx_kd T o = 4 ∧ p < T.length) ∧ Rn 9 35 L st (sx_setR T o 4 p) σ K := R_putR (idx := 21) (ci := 4) (k := 4) (by decide +kernel) (by decide +kernel) rfl rfl (by decide +kernel) (by decide +kernel)
theorem s9_35 : Rn 9 35 [some (vR o), l1] st T σ K ↔ Rn 9 36 [some (vR o), l1] (vR o :: st) T σ K := R_aload_n (n := 0) (by decide +kernel) rfl
theorem s9_36 : Rn 9 36 [l0, some (vR o)] st T σ K ↔ Rn 9 37 [l0, some (vR o)] (vR o :: st) T σ K := R_aload_n (n := 1) (by decide +kernel) rfl
theorem s9_37 : Rn 9 37 L (vR p :: vR o :: st) T σ K ↔ (sx_kd T o = 4 ∧ p < T.length) ∧ Rn 9 40 L st (sx_setR T o 0 p) σ K := R_putR (idx := 25) (ci := 4) (k := 0) (by decide +kernel) (by decide +kernel) rfl rfl (by decide +kernel) (by decide +kernel)
theorem s9_40 : Rn 9 40 L [] T σ K ↔ K none T σ := R_retV (by decide +kernel) (by decide +kernel)
theorem s10_0 : Rn 10 0 [some (vR o)] st T σ K ↔ Rn 10 1 [some (vR o)] (vR o :: st) T σ K := R_aload_n (n := 0) (by decide +kernel) rfl
theorem s10_1 : Rn 10 1 L (vR o :: st) T σ K ↔ st.length ≤ 4 ∧ Rn 10 4 L st T σ K := R_oinit (idx := 3) (by decide +kernel) (by decide +kernel) (by decide +kernel) (by decide +kernel)
theorem s10_4 : Rn 10 4 [some (vR o)] st T σ K ↔ Rn 10 5 [some (vR o)] (vR o :: st) T σ K := R_aload_n (n := 0) (by decide +kernel) rfl
theorem s10_5 : Rn 10 5 L st T σ K ↔ Rn 10 8 L (vI 243 :: st) T σ K := R_sipush (n := 243) (by decide +kernel) (by decide +kernel)
theorem s10_8 : Rn 10 8 L (vI a :: st) T σ K ↔ (0 ≤ a ∧ a ≤ 100000 ∧ T.length < 1000000) ∧ Rn 10 10 L (vR T.length :: st) (T ++ [(20, a.toNat, [])]) σ K := R_newI (by decide +kernel)
theorem s10_10 : Rn 10 10 L (vR p :: vR o :: st) T σ K ↔ (sx_kd T o = 1 ∧ p < T.length) ∧ Rn 10 13 L st (sx_setR T o 0 p) σ K := R_putR (idx := 11) (ci := 1) (k := 0) (by decide +kernel) (by decide +kernel) rfl rfl (by decide +kernel) (by decide +kernel)
theorem s10_13 : Rn 10 13 L [] T σ K ↔ K none T σ := R_retV (by decide +kernel) (by decide +kernel)
theorem s11_0 : Rn 11 0 [some (vR o), l1, l2, l3, l4, l5] st T σ K ↔ Rn 11 1 [some (vR o), l1, l2, l3, l4, l5] (vR o :: st) T σ K := R_aload_n (n := 0) (by decide +kernel) rfl
theorem s11_1 : Rn 11 1 L (vR o :: st) T σ K ↔ sx_kd T o = 8 ∧ ∃ t, sx_rf T o 0 = some t ∧ Rn 11 4 L (vR t :: st) T σ K := R_getR (idx := 10) (ci := 8) (k := 0) (by decide +kernel) (by decide +kernel) rfl
theorem s11_4 : Rn 11 4 L (vR o :: st) T σ K ↔ sx_kd T o = 6 ∧ Rn 11 7 L (vI (σ o 1) :: st) T σ K := R_getI (idx := 85) (ci := 6) (k := 1) (by decide +kernel) (by decide +kernel) (Or.inl rfl)
theorem s11_7 : Rn 11 7 L st T σ K ↔ Rn 11 9 L (vI 20 :: st) T σ K := R_bipush (n := 20) (by decide +kernel) (by decide +kernel)
theorem s11_9 : Rn 11 9 L (vI b :: vI a :: st) T σ K ↔ inI (a + b) ∧ Rn 11 10 L (vI (a + b) :: st) T σ K := R_iadd (by decide +kernel)
theorem s11_10 : Rn 11 10 L st T σ K ↔ Rn 11 13 L (vI 1600 :: st) T σ K := R_sipush (n := 1600) (by decide +kernel) (by decide +kernel)
theorem s11_13 : Rn 11 13 L (vI b :: vI a :: st) T σ K ↔ (a ≤ b → Rn 11 22 L st T σ K) ∧ (b < a → Rn 11 16 L st T σ K) := R_icmp_le (off := 9) (by decide +kernel) (by decide)
theorem s11_16 : Rn 11 16 [some (vR o), l1, l2, l3, l4, l5] st T σ K ↔ Rn 11 17 [some (vR o), l1, l2, l3, l4, l5] (vR o :: st) T σ K := R_aload_n (n := 0) (by decide +kernel) rfl
theorem s11_17 : Rn 11 17 L st T σ K ↔ Rn 11 18 L (vI 0 :: st) T σ K := R_iconst (n := 0) (by decide +kernel) (by decide)
theorem s11_18 : Rn 11 18 L (vI a :: vR o :: st) T σ K ↔ (sx_kd T o = 8 ∧ st.length ≤ 4) ∧ Rn 12 0 [some (vR o), some (vI a)] [] T σ (fun r T' σ' => Rn 11 21 L (sx_push r st) T' σ' K) := R_V (cm := 12) (n := 1) (idx := 89) (ci := 8) (mx := 2) (vs := [vI a]) (by decide +kernel) (by decide +kernel) rfl (by decide +kernel) rfl (by decide +kernel) (by decide +kernel)
theorem s11_21 : Rn 11 21 L [vI a] T σ K ↔ K (some (vI a)) T σ := R_ret (by decide +kernel) (by decide +kernel)
theorem s11_22 : Rn 11 22 [some (vR o), l1, l2, l3, l4, l5] st T σ K ↔ Rn 11 23 [some (vR o), l1, l2, l3, l4, l5] (vR o :: st) T σ K := R_aload_n (n := 0) (by decide +kernel) rfl
theorem s11_23 : Rn 11 23 L (vR o :: st) T σ K ↔ sx_kd T o = 8 ∧ ∃ t, sx_rf T o 0 = some t ∧ Rn 11 26 L (vR t :: st) T σ K := R_getR (idx := 10) (ci := 8) (k := 0) (by decide +kernel) (by decide +kernel) rfl
theorem s11_26 : Rn 11 26 [l0, some (vI a), l2, l3, l4, l5] st T σ K ↔ Rn 11 27 [l0, some (vI a), l2, l3, l4, l5] (vI a :: st) T σ K := R_iload_n (n := 1) (by decide +kernel) rfl
theorem s11_27 : Rn 11 27 L (vI a :: vR o :: st) T σ K ↔ (sx_kd T o = 6 ∧ st.length ≤ 4) ∧ Rn 13 0 [some (vR o), some (vI a), none] [] T σ (fun r T' σ' => Rn 11 30 L (sx_push r st) T' σ' K) := R_V (cm := 13) (n := 1) (idx := 93) (ci := 6) (mx := 3) (vs := [vI a]) (by decide +kernel) (by decide +kernel) rfl (by decide +kernel) rfl (by decide +kernel) (by decide +kernel)
theorem s11_30 : Rn 11 30 [some (vR o), l1, l2, l3, l4, l5] st T σ K ↔ Rn 11 31 [some (vR o), l1, l2, l3, l4, l5] (vR o :: st) T σ K := R_aload_n (n := 0) (by decide +kernel) rfl
theorem s11_31 : Rn 11 31 L (vR o :: st) T σ K ↔ sx_kd T o = 8 ∧ ∃ t, sx_rf T o 0 = some t ∧ Rn 11 34 L (vR t :: st) T σ K := R_getR (idx := 10) (ci := 8) (k := 0) (by decide +kernel) (by decide +kernel) rfl
theorem s11_34 : Rn 11 34 [l0, l1, some (vI a), l3, l4, l5] st T σ K ↔ Rn 11 35 [l0, l1, some (vI a), l3, l4, l5] (vI a :: st) T σ K := R_iload_n (n := 2) (by decide +kernel) rfl
theorem s11_35 : Rn 11 35 L (vI a :: vR o :: st) T σ K ↔ (sx_kd T o = 6 ∧ st.length ≤ 4) ∧ Rn 13 0 [some (vR o), some (vI a), none] [] T σ (fun r T' σ' => Rn 11 38 L (sx_push r st) T' σ' K) := R_V (cm := 13) (n := 1) (idx := 93) (ci := 6) (mx := 3) (vs := [vI a]) (by decide +kernel) (by decide +kernel) rfl (by decide +kernel) rfl (by decide +kernel) (by decide +kernel)
theorem s11_38 : Rn 11 38 [some (vR o), l1, l2, l3, l4, l5] st T σ K ↔ Rn 11 39 [some (vR o), l1, l2, l3, l4, l5] (vR o :: st) T σ K := R_aload_n (n := 0) (by decide +kernel) rfl
theorem s11_39 : Rn 11 39 L (vR o :: st) T σ K ↔ sx_kd T o = 8 ∧ ∃ t, sx_rf T o 0 = some t ∧ Rn 11 42 L (vR t :: st) T σ K := R_getR (idx := 10) (ci := 8) (k := 0) (by decide +kernel) (by decide +kernel) rfl
theorem s11_42 : Rn 11 42 [l0, l1, l2, some (vI a), l4, l5] st T σ K ↔ Rn 11 43 [l0, l1, l2, some (vI a), l4, l5] (vI a :: st) T σ K := R_iload_n (n := 3) (by decide +kernel) rfl
theorem s11_43 : Rn 11 43 L (vI a :: vR o :: st) T σ K ↔ (sx_kd T o = 6 ∧ st.length ≤ 4) ∧ Rn 13 0 [some (vR o), some (vI a), none] [] T σ (fun r T' σ' => Rn 11 46 L (sx_push r st) T' σ' K) := R_V (cm := 13) (n := 1) (idx := 93) (ci := 6) (mx := 3) (vs := [vI a]) (by decide +kernel) (by decide +kernel) rfl (by decide +kernel) rfl (by decide +kernel) (by decide +kernel)
theorem s11_46 : Rn 11 46 [some (vR o), l1, l2, l3, l4, l5] st T σ K ↔ Rn 11 47 [some (vR o), l1, l2, l3, l4, l5] (vR o :: st) T σ K := R_aload_n (n := 0) (by decide +kernel) rfl
theorem s11_47 : Rn 11 47 L (vR o :: st) T σ K ↔ sx_kd T o = 8 ∧ ∃ t, sx_rf T o 0 = some t ∧ Rn 11 50 L (vR t :: st) T σ K := R_getR (idx := 10) (ci := 8) (k := 0) (by decide +kernel) (by decide +kernel) rfl
theorem s11_50 : Rn 11 50 [l0, l1, l2, l3, some (vI a), l5] st T σ K ↔ Rn 11 52 [l0, l1, l2, l3, some (vI a), l5] (vI a :: st) T σ K := R_iload (n := 4) (by decide +kernel) rfl
theorem s11_52 : Rn 11 52 L (vI a :: vR o :: st) T σ K ↔ (sx_kd T o = 6 ∧ st.length ≤ 4) ∧ Rn 13 0 [some (vR o), some (vI a), none] [] T σ (fun r T' σ' => Rn 11 55 L (sx_push r st) T' σ' K) := R_V (cm := 13) (n := 1) (idx := 93) (ci := 6) (mx := 3) (vs := [vI a]) (by decide +kernel) (by decide +kernel) rfl (by decide +kernel) rfl (by decide +kernel) (by decide +kernel)
theorem s11_55 : Rn 11 55 [some (vR o), l1, l2, l3, l4, l5] st T σ K ↔ Rn 11 56 [some (vR o), l1, l2, l3, l4, l5] (vR o :: st) T σ K := R_aload_n (n := 0) (by decide +kernel) rfl
theorem s11_56 : Rn 11 56 L (vR o :: st) T σ K ↔ sx_kd T o = 8 ∧ ∃ t, sx_rf T o 0 = some t ∧ Rn 11 59 L (vR t :: st) T σ K := R_getR (idx := 10) (ci := 8) (k := 0) (by decide +kernel) (by decide +kernel) rfl
theorem s11_59 : Rn 11 59 [l0, l1, l2, l3, l4, some (vI a)] st T σ K ↔ Rn 11 61 [l0, l1, l2, l3, l4, some (vI a)] (vI a :: st) T σ K := R_iload (n := 5) (by decide +kernel) rfl
theorem s11_61 : Rn 11 61 L (vI a :: vR o :: st) T σ K ↔ (sx_kd T o = 6 ∧ st.length ≤ 4) ∧ Rn 13 0 [some (vR o), some (vI a), none] [] T σ (fun r T' σ' => Rn 11 64 L (sx_push r st) T' σ' K) := R_V (cm := 13) (n := 1) (idx := 93) (ci := 6) (mx := 3) (vs := [vI a]) (by decide +kernel) (by decide +kernel) rfl (by decide +kernel) rfl (by decide +kernel) (by decide +kernel)
theorem s11_64 : Rn 11 64 [some (vR o), l1, l2, l3, l4, l5] st T σ K ↔ Rn 11 65 [some (vR o), l1, l2, l3, l4, l5] (vR o :: st) T σ K := R_aload_n (n := 0) (by decide +kernel) rfl
theorem s11_65 : Rn 11 65 L (vR o :: st) T σ K ↔ sx_kd T o = 8 ∧ ∃ t, sx_rf T o 0 = some t ∧ Rn 11 68 L (vR t :: st) T σ K := R_getR (idx := 10) (ci := 8) (k := 0) (by decide +kernel) (by decide +kernel) rfl
theorem s11_68 : Rn 11 68 L (vR o :: st) T σ K ↔ sx_kd T o = 6 ∧ Rn 11 71 L (vI (σ o 1) :: st) T σ K := R_getI (idx := 85) (ci := 6) (k := 1) (by decide +kernel) (by decide +kernel) (Or.inl rfl)
theorem s11_71 : Rn 11 71 L [vI a] T σ K ↔ K (some (vI a)) T σ := R_ret (by decide +kernel) (by decide +kernel)
theorem s12_0 : Rn 12 0 [l0, some (vI a)] st T σ K ↔ Rn 12 1 [l0, some (vI a)] (vI a :: st) T σ K := R_iload_n (n := 1) (by decide +kernel) rfl
theorem s12_1 : Rn 12 1 L (vI a :: st) T σ K ↔ (a < 0 → Rn 12 20 L st T σ K) ∧ (0 ≤ a → Rn 12 4 L st T σ K) := R_if_lt (off := 19) (by decide +kernel) (by decide)
theorem s12_4 : Rn 12 4 [l0, some (vI a)] st T σ K ↔ Rn 12 5 [l0, some (vI a)] (vI a :: st) T σ K := R_iload_n (n := 1) (by decide +kernel) rfl
theorem s12_5 : Rn 12 5 L st T σ K ↔ Rn 12 7 L (vI 6 :: st) T σ K := R_bipush (n := 6) (by decide +kernel) (by decide +kernel)
theorem s12_7 : Rn 12 7 L (vI b :: vI a :: st) T σ K ↔ (b ≤ a → Rn 12 20 L st T σ K) ∧ (a < b → Rn 12 10 L st T σ K) := R_icmp_ge (off := 13) (by decide +kernel) (by decide)
theorem s12_10 : Rn 12 10 [some (vR o), l1] st T σ K ↔ Rn 12 11 [some (vR o), l1] (vR o :: st) T σ K := R_aload_n (n := 0) (by decide +kernel) rfl
theorem s12_11 : Rn 12 11 L (vR o :: st) T σ K ↔ sx_kd T o = 8 ∧ ∃ t, sx_rf T o 10 = some t ∧ Rn 12 14 L (vR t :: st) T σ K := R_getR (idx := 77) (ci := 8) (k := 10) (by decide +kernel) (by decide +kernel) rfl
theorem s12_14 : Rn 12 14 [l0, some (vI a)] st T σ K ↔ Rn 12 15 [l0, some (vI a)] (vI a :: st) T σ K := R_iload_n (n := 1) (by decide +kernel) rfl
theorem s12_15 : Rn 12 15 L (vI a :: vR o :: st) T σ K ↔ Rn 12 16 L (vI a :: vR o :: vI a :: vR o :: st) T σ K := R_dup2 (v := vI a) (w := vR o) (by decide +kernel) rfl rfl
theorem s12_16 : Rn 12 16 L (vI a :: vR o :: st) T σ K ↔ (sx_kd T o = 20 ∧ 0 ≤ a ∧ a < sx_ln T o) ∧ Rn 12 17 L (vI (σ o a) :: st) T σ K := R_iald (by decide +kernel) (by decide)
theorem s12_17 : Rn 12 17 L st T σ K ↔ Rn 12 18 L (vI 1 :: st) T σ K := R_iconst (n := 1) (by decide +kernel) (by decide)
theorem s12_18 : Rn 12 18 L (vI b :: vI a :: st) T σ K ↔ inI (a + b) ∧ Rn 12 19 L (vI (a + b) :: st) T σ K := R_iadd (by decide +kernel)
theorem s12_19 : Rn 12 19 L (vI b :: vI a :: vR o :: st) T σ K ↔ (sx_kd T o = 20 ∧ 0 ≤ a ∧ a < sx_ln T o) ∧ Rn 12 20 L st T (sx_up σ o a b) K := R_iast (by decide +kernel)
theorem s12_20 : Rn 12 20 L st T σ K ↔ Rn 12 21 L (vI (-1) :: st) T σ K := R_iconst (n := -1) (by decide +kernel) (by decide)
theorem s12_21 : Rn 12 21 L [vI a] T σ K ↔ K (some (vI a)) T σ := R_ret (by decide +kernel) (by decide +kernel)
theorem s13_0 : Rn 13 0 L st T σ K ↔ Rn 13 2 L (vI 24 :: st) T σ K := R_bipush (n := 24) (by decide +kernel) (by decide +kernel)
theorem s13_2 : Rn 13 2 [l0, l1, l2] (vI a :: st) T σ K ↔ Rn 13 3 [l0, l1, some (vI a)] st T σ K := R_istore_n (n := 2) (by decide +kernel) rfl
theorem s13_3 : Rn 13 3 [l0, l1, some (vI a)] st T σ K ↔ Rn 13 4 [l0, l1, some (vI a)] (vI a :: st) T σ K := R_iload_n (n := 2) (by decide +kernel) rfl
theorem s13_4 : Rn 13 4 L (vI a :: st) T σ K ↔ (a < 0 → Rn 13 49 L st T σ K) ∧ (0 ≤ a → Rn 13 7 L st T σ K) := R_if_lt (off := 45) (by decide +kernel) (by decide)
theorem s13_7 : Rn 13 7 [some (vR o), l1, l2] st T σ K ↔ Rn 13 8 [some (vR o), l1, l2] (vR o :: st) T σ K := R_aload_n (n := 0) (by decide +kernel) rfl
theorem s13_8 : Rn 13 8 L (vR o :: st) T σ K ↔ sx_kd T o = 6 ∧ Rn 13 11 L (vI (σ o 1) :: st) T σ K := R_getI (idx := 15) (ci := 6) (k := 1) (by decide +kernel) (by decide +kernel) (Or.inl rfl)
theorem s13_11 : Rn 13 11 L st T σ K ↔ Rn 13 14 L (vI 1600 :: st) T σ K := R_sipush (n := 1600) (by decide +kernel) (by decide +kernel)
theorem s13_14 : Rn 13 14 L (vI b :: vI a :: st) T σ K ↔ (b ≤ a → Rn 13 43 L st T σ K) ∧ (a < b → Rn 13 17 L st T σ K) := R_icmp_ge (off := 29) (by decide +kernel) (by decide)
theorem s13_17 : Rn 13 17 [some (vR o), l1, l2] st T σ K ↔ Rn 13 18 [some (vR o), l1, l2] (vR o :: st) T σ K := R_aload_n (n := 0) (by decide +kernel) rfl
theorem s13_18 : Rn 13 18 L (vR o :: st) T σ K ↔ sx_kd T o = 6 ∧ ∃ t, sx_rf T o 0 = some t ∧ Rn 13 21 L (vR t :: st) T σ K := R_getR (idx := 9) (ci := 6) (k := 0) (by decide +kernel) (by decide +kernel) rfl
theorem s13_21 : Rn 13 21 [some (vR o), l1, l2] st T σ K ↔ Rn 13 22 [some (vR o), l1, l2] (vR o :: st) T σ K := R_aload_n (n := 0) (by decide +kernel) rfl
theorem s13_22 : Rn 13 22 L (vR o :: st) T σ K ↔ sx_kd T o = 6 ∧ Rn 13 25 L (vI (σ o 1) :: st) T σ K := R_getI (idx := 15) (ci := 6) (k := 1) (by decide +kernel) (by decide +kernel) (Or.inl rfl)
theorem s13_25 : Rn 13 25 [l0, some (vI a), l2] st T σ K ↔ Rn 13 26 [l0, some (vI a), l2] (vI a :: st) T σ K := R_iload_n (n := 1) (by decide +kernel) rfl
theorem s13_26 : Rn 13 26 [l0, l1, some (vI a)] st T σ K ↔ Rn 13 27 [l0, l1, some (vI a)] (vI a :: st) T σ K := R_iload_n (n := 2) (by decide +kernel) rfl
theorem s13_27 : Rn 13 27 L (vI b :: vI a :: st) T σ K ↔ (0 ≤ b ∧ b ≤ 31) ∧ inI (a / 2 ^ b.toNat) ∧ Rn 13 28 L (vI (a / 2 ^ b.toNat) :: st) T σ K := R_ishr (by decide +kernel)
theorem s13_28 : Rn 13 28 L st T σ K ↔ Rn 13 31 L (vI 255 :: st) T σ K := R_sipush (n := 255) (by decide +kernel) (by decide +kernel)
theorem s13_31 : Rn 13 31 L (vI b :: vI a :: st) T σ K ↔ Rn 13 32 L (vI (sx_and a b) :: st) T σ K := R_iand (by decide +kernel)
theorem s13_32 : Rn 13 32 L (vI b :: vI a :: vR o :: st) T σ K ↔ (sx_kd T o = 20 ∧ 0 ≤ a ∧ a < sx_ln T o) ∧ Rn 13 33 L st T (sx_up σ o a b) K := R_iast (by decide +kernel)
theorem s13_33 : Rn 13 33 [some (vR o), l1, l2] st T σ K ↔ Rn 13 34 [some (vR o), l1, l2] (vR o :: st) T σ K := R_aload_n (n := 0) (by decide +kernel) rfl
theorem s13_34 : Rn 13 34 L (vR o :: st) T σ K ↔ Rn 13 35 L (vR o :: vR o :: st) T σ K := R_dup (v := vR o) (by decide +kernel) rfl
theorem s13_35 : Rn 13 35 L (vR o :: st) T σ K ↔ sx_kd T o = 6 ∧ Rn 13 38 L (vI (σ o 1) :: st) T σ K := R_getI (idx := 15) (ci := 6) (k := 1) (by decide +kernel) (by decide +kernel) (Or.inl rfl)
theorem s13_38 : Rn 13 38 L st T σ K ↔ Rn 13 39 L (vI 1 :: st) T σ K := R_iconst (n := 1) (by decide +kernel) (by decide)
theorem s13_39 : Rn 13 39 L (vI b :: vI a :: st) T σ K ↔ inI (a + b) ∧ Rn 13 40 L (vI (a + b) :: st) T σ K := R_iadd (by decide +kernel)
theorem s13_40 : Rn 13 40 L (vI a :: vR o :: st) T σ K ↔ sx_kd T o = 6 ∧ Rn 13 43 L st T (sx_up σ o 1 a) K := R_putI (idx := 15) (ci := 6) (k := 1) (by decide +kernel) (by decide +kernel) rfl rfl
theorem s13_43 : Rn 13 43 [l0, l1, some (vI a)] st T σ K ↔ inI (a + (-8)) ∧ Rn 13 46 [l0, l1, some (vI (a + (-8)))] st T σ K := R_iinc (n := 2) (d := -8) (by decide +kernel) rfl
theorem s13_46 : Rn 13 46 L st T σ K ↔ Rn 13 3 L st T σ K := R_goto (off := -43) (by decide +kernel) (by decide)
theorem s13_49 : Rn 13 49 L [] T σ K ↔ K none T σ := R_retV (by decide +kernel) (by decide +kernel)
theorem s14_0 : Rn 14 0 [l0, some (vI a)] st T σ K ↔ Rn 14 1 [l0, some (vI a)] (vI a :: st) T σ K := R_iload_n (n := 1) (by decide +kernel) rfl
theorem s14_1 : Rn 14 1 L (vI a :: st) T σ K ↔ (a < 0 → Rn 14 15 L st T σ K) ∧ (0 ≤ a → Rn 14 4 L st T σ K) := R_if_lt (off := 14) (by decide +kernel) (by decide)
theorem s14_4 : Rn 14 4 [l0, some (vI a)] st T σ K ↔ Rn 14 5 [l0, some (vI a)] (vI a :: st) T σ K := R_iload_n (n := 1) (by decide +kernel) rfl
theorem s14_5 : Rn 14 5 [some (vR o), l1] st T σ K ↔ Rn 14 6 [some (vR o), l1] (vR o :: st) T σ K := R_aload_n (n := 0) (by decide +kernel) rfl
theorem s14_6 : Rn 14 6 L (vR o :: st) T σ K ↔ sx_kd T o = 8 ∧ ∃ t, sx_rf T o 0 = some t ∧ Rn 14 9 L (vR t :: st) T σ K := R_getR (idx := 10) (ci := 8) (k := 0) (by decide +kernel) (by decide +kernel) rfl
theorem s14_9 : Rn 14 9 L (vR o :: st) T σ K ↔ sx_kd T o = 6 ∧ Rn 14 12 L (vI (σ o 1) :: st) T σ K := R_getI (idx := 85) (ci := 6) (k := 1) (by decide +kernel) (by decide +kernel) (Or.inl rfl)
theorem s14_12 : Rn 14 12 L (vI b :: vI a :: st) T σ K ↔ (a ≤ b → Rn 14 23 L st T σ K) ∧ (b < a → Rn 14 15 L st T σ K) := R_icmp_le (off := 11) (by decide +kernel) (by decide)
theorem s14_15 : Rn 14 15 [some (vR o), l1] st T σ K ↔ Rn 14 16 [some (vR o), l1] (vR o :: st) T σ K := R_aload_n (n := 0) (by decide +kernel) rfl
theorem s14_16 : Rn 14 16 L st T σ K ↔ Rn 14 17 L (vI 0 :: st) T σ K := R_iconst (n := 0) (by decide +kernel) (by decide)
theorem s14_17 : Rn 14 17 L (vI a :: vR o :: st) T σ K ↔ (sx_kd T o = 8 ∧ st.length ≤ 4) ∧ Rn 12 0 [some (vR o), some (vI a)] [] T σ (fun r T' σ' => Rn 14 20 L (sx_push r st) T' σ' K) := R_V (cm := 12) (n := 1) (idx := 89) (ci := 8) (mx := 2) (vs := [vI a]) (by decide +kernel) (by decide +kernel) rfl (by decide +kernel) rfl (by decide +kernel) (by decide +kernel)
theorem s14_20 : Rn 14 20 L (vI a :: st) T σ K ↔ Rn 14 21 L st T σ K := R_pop (v := vI a) (by decide +kernel) rfl
theorem s14_21 : Rn 14 21 L st T σ K ↔ Rn 14 22 L (vI 0 :: st) T σ K := R_iconst (n := 0) (by decide +kernel) (by decide)
theorem s14_22 : Rn 14 22 L [vI a] T σ K ↔ (a = 0 ∨ a = 1) ∧ K (some (vI a)) T σ := R_retZ (by decide +kernel) (by decide +kernel)
theorem s14_23 : Rn 14 23 [some (vR o), l1] st T σ K ↔ Rn 14 24 [some (vR o), l1] (vR o :: st) T σ K := R_aload_n (n := 0) (by decide +kernel) rfl
theorem s14_24 : Rn 14 24 L (vR o :: st) T σ K ↔ sx_kd T o = 8 ∧ ∃ t, sx_rf T o 0 = some t ∧ Rn 14 27 L (vR t :: st) T σ K := R_getR (idx := 10) (ci := 8) (k := 0) (by decide +kernel) (by decide +kernel) rfl
theorem s14_27 : Rn 14 27 [l0, some (vI a)] st T σ K ↔ Rn 14 28 [l0, some (vI a)] (vI a :: st) T σ K := R_iload_n (n := 1) (by decide +kernel) rfl
theorem s14_28 : Rn 14 28 L (vI a :: vR o :: st) T σ K ↔ sx_kd T o = 6 ∧ Rn 14 31 L st T (sx_up σ o 1 a) K := R_putI (idx := 85) (ci := 6) (k := 1) (by decide +kernel) (by decide +kernel) rfl rfl
theorem s14_31 : Rn 14 31 L st T σ K ↔ Rn 14 32 L (vI 1 :: st) T σ K := R_iconst (n := 1) (by decide +kernel) (by decide)
theorem s14_32 : Rn 14 32 L [vI a] T σ K ↔ (a = 0 ∨ a = 1) ∧ K (some (vI a)) T σ := R_retZ (by decide +kernel) (by decide +kernel)
theorem s15_0 : Rn 15 0 [some (vR o), l1, l2] st T σ K ↔ Rn 15 1 [some (vR o), l1, l2] (vR o :: st) T σ K := R_aload_n (n := 0) (by decide +kernel) rfl
theorem s15_1 : Rn 15 1 L (vR o :: st) T σ K ↔ sx_kd T o = 8 ∧ ∃ t, sx_rf T o 1 = some t ∧ Rn 15 4 L (vR t :: st) T σ K := R_getR (idx := 21) (ci := 8) (k := 1) (by decide +kernel) (by decide +kernel) rfl
theorem s15_4 : Rn 15 4 L (vR o :: st) T σ K ↔ (sx_kd T o = 5 ∧ st.length ≤ 4) ∧ Rn 16 0 [some (vR o), none] [] T σ (fun r T' σ' => Rn 15 7 L (sx_push r st) T' σ' K) := R_V (cm := 16) (n := 0) (idx := 97) (ci := 5) (mx := 2) (vs := []) (by decide +kernel) (by decide +kernel) rfl (by decide +kernel) rfl (by decide +kernel) (by decide +kernel)
theorem s15_7 : Rn 15 7 [l0, l1, l2] (vI a :: st) T σ K ↔ Rn 15 8 [l0, some (vI a), l2] st T σ K := R_istore_n (n := 1) (by decide +kernel) rfl
theorem s15_8 : Rn 15 8 [some (vR o), l1, l2] st T σ K ↔ Rn 15 9 [some (vR o), l1, l2] (vR o :: st) T σ K := R_aload_n (n := 0) (by decide +kernel) rfl
theorem s15_9 : Rn 15 9 L (vR o :: st) T σ K ↔ sx_kd T o = 8 ∧ ∃ t, sx_rf T o 0 = some t ∧ Rn 15 12 L (vR t :: st) T σ K := R_getR (idx := 10) (ci := 8) (k := 0) (by decide +kernel) (by decide +kernel) rfl
theorem s15_12 : Rn 15 12 L st T σ K ↔ Rn 15 13 L (vI 0 :: st) T σ K := R_iconst (n := 0) (by decide +kernel) (by decide)
theorem s15_13 : Rn 15 13 L (vI a :: vR o :: st) T σ K ↔ sx_kd T o = 6 ∧ Rn 15 16 L st T (sx_up σ o 1 a) K := R_putI (idx := 85) (ci := 6) (k := 1) (by decide +kernel) (by decide +kernel) rfl rfl
theorem s15_16 : Rn 15 16 [l0, some (vI a), l2] st T σ K ↔ Rn 15 17 [l0, some (vI a), l2] (vI a :: st) T σ K := R_iload_n (n := 1) (by decide +kernel) rfl
theorem s15_17 : Rn 15 17 L (vI a :: st) T σ K ↔ (a ≠ 0 → Rn 15 26 L st T σ K) ∧ (a = 0 → Rn 15 20 L st T σ K) := R_if_ne (off := 9) (by decide +kernel) (by decide)
theorem s15_20 : Rn 15 20 [some (vR o), l1, l2] st T σ K ↔ Rn 15 21 [some (vR o), l1, l2] (vR o :: st) T σ K := R_aload_n (n := 0) (by decide +kernel) rfl
theorem s15_21 : Rn 15 21 L st T σ K ↔ Rn 15 22 L (vI 1 :: st) T σ K := R_iconst (n := 1) (by decide +kernel) (by decide)
theorem s15_22 : Rn 15 22 L (vI a :: vR o :: st) T σ K ↔ (sx_kd T o = 8 ∧ st.length ≤ 4) ∧ Rn 12 0 [some (vR o), some (vI a)] [] T σ (fun r T' σ' => Rn 15 25 L (sx_push r st) T' σ' K) := R_V (cm := 12) (n := 1) (idx := 89) (ci := 8) (mx := 2) (vs := [vI a]) (by decide +kernel) (by decide +kernel) rfl (by decide +kernel) rfl (by decide +kernel) (by decide +kernel)
theorem s15_25 : Rn 15 25 L [vI a] T σ K ↔ K (some (vI a)) T σ := R_ret (by decide +kernel) (by decide +kernel)
theorem s15_26 : Rn 15 26 [some (vR o), l1, l2] st T σ K ↔ Rn 15 27 [some (vR o), l1, l2] (vR o :: st) T σ K := R_aload_n (n := 0) (by decide +kernel) rfl
theorem s15_27 : Rn 15 27 L (vR o :: st) T σ K ↔ sx_kd T o = 8 ∧ ∃ t, sx_rf T o 2 = some t ∧ Rn 15 30 L (vR t :: st) T σ K := R_getR (idx := 28) (ci := 8) (k := 2) (by decide +kernel) (by decide +kernel) rfl
theorem s15_30 : Rn 15 30 L (vR o :: st) T σ K ↔ (sx_kd T o = 2 ∧ st.length ≤ 4) ∧ Rn 35 0 [some (vR o)] [] T σ (fun r T' σ' => Rn 15 33 L (sx_push r st) T' σ' K) := R_V (cm := 35) (n := 0) (idx := 101) (ci := 2) (mx := 1) (vs := []) (by decide +kernel) (by decide +kernel) rfl (by decide +kernel) rfl (by decide +kernel) (by decide +kernel)
theorem s15_33 : Rn 15 33 [some (vR o), l1, l2] st T σ K ↔ Rn 15 34 [some (vR o), l1, l2] (vR o :: st) T σ K := R_aload_n (n := 0) (by decide +kernel) rfl
theorem s15_34 : Rn 15 34 L (vR o :: st) T σ K ↔ sx_kd T o = 8 ∧ ∃ t, sx_rf T o 2 = some t ∧ Rn 15 37 L (vR t :: st) T σ K := R_getR (idx := 28) (ci := 8) (k := 2) (by decide +kernel) (by decide +kernel) rfl
theorem s15_37 : Rn 15 37 [some (vR o), l1, l2] st T σ K ↔ Rn 15 38 [some (vR o), l1, l2] (vR o :: st) T σ K := R_aload_n (n := 0) (by decide +kernel) rfl
theorem s15_38 : Rn 15 38 L (vR o :: st) T σ K ↔ sx_kd T o = 8 ∧ ∃ t, sx_rf T o 1 = some t ∧ Rn 15 41 L (vR t :: st) T σ K := R_getR (idx := 21) (ci := 8) (k := 1) (by decide +kernel) (by decide +kernel) rfl
theorem s15_41 : Rn 15 41 L (vR o :: st) T σ K ↔ sx_kd T o = 5 ∧ Rn 15 44 L (vI (σ o 3) :: st) T σ K := R_getI (idx := 104) (ci := 5) (k := 3) (by decide +kernel) (by decide +kernel) (Or.inl rfl)
theorem s15_44 : Rn 15 44 L (vI a :: vR o :: st) T σ K ↔ sx_kd T o = 2 ∧ Rn 15 47 L st T (sx_up σ o 4 a) K := R_putI (idx := 107) (ci := 2) (k := 4) (by decide +kernel) (by decide +kernel) rfl rfl
theorem s15_47 : Rn 15 47 L st T σ K ↔ Rn 15 48 L (vI 0 :: st) T σ K := R_iconst (n := 0) (by decide +kernel) (by decide)
theorem s15_48 : Rn 15 48 [l0, l1, l2] (vI a :: st) T σ K ↔ Rn 15 49 [l0, l1, some (vI a)] st T σ K := R_istore_n (n := 2) (by decide +kernel) rfl
theorem s15_49 : Rn 15 49 [l0, l1, some (vI a)] st T σ K ↔ Rn 15 50 [l0, l1, some (vI a)] (vI a :: st) T σ K := R_iload_n (n := 2) (by decide +kernel) rfl
theorem s15_50 : Rn 15 50 [some (vR o), l1, l2] st T σ K ↔ Rn 15 51 [some (vR o), l1, l2] (vR o :: st) T σ K := R_aload_n (n := 0) (by decide +kernel) rfl
theorem s15_51 : Rn 15 51 L (vR o :: st) T σ K ↔ sx_kd T o = 8 ∧ ∃ t, sx_rf T o 1 = some t ∧ Rn 15 54 L (vR t :: st) T σ K := R_getR (idx := 21) (ci := 8) (k := 1) (by decide +kernel) (by decide +kernel) rfl
theorem s15_54 : Rn 15 54 L (vR o :: st) T σ K ↔ sx_kd T o = 5 ∧ Rn 15 57 L (vI (σ o 4) :: st) T σ K := R_getI (idx := 108) (ci := 5) (k := 4) (by decide +kernel) (by decide +kernel) (Or.inl rfl)
theorem s15_57 : Rn 15 57 L (vI b :: vI a :: st) T σ K ↔ (b ≤ a → Rn 15 101 L st T σ K) ∧ (a < b → Rn 15 60 L st T σ K) := R_icmp_ge (off := 44) (by decide +kernel) (by decide)
theorem s15_60 : Rn 15 60 [some (vR o), l1, l2] st T σ K ↔ Rn 15 61 [some (vR o), l1, l2] (vR o :: st) T σ K := R_aload_n (n := 0) (by decide +kernel) rfl
theorem s15_61 : Rn 15 61 L (vR o :: st) T σ K ↔ sx_kd T o = 8 ∧ ∃ t, sx_rf T o 2 = some t ∧ Rn 15 64 L (vR t :: st) T σ K := R_getR (idx := 28) (ci := 8) (k := 2) (by decide +kernel) (by decide +kernel) rfl
theorem s15_64 : Rn 15 64 [l0, l1, some (vI a)] st T σ K ↔ Rn 15 65 [l0, l1, some (vI a)] (vI a :: st) T σ K := R_iload_n (n := 2) (by decide +kernel) rfl
theorem s15_65 : Rn 15 65 [some (vR o), l1, l2] st T σ K ↔ Rn 15 66 [some (vR o), l1, l2] (vR o :: st) T σ K := R_aload_n (n := 0) (by decide +kernel) rfl
theorem s15_66 : Rn 15 66 L (vR o :: st) T σ K ↔ sx_kd T o = 8 ∧ ∃ t, sx_rf T o 1 = some t ∧ Rn 15 69 L (vR t :: st) T σ K := R_getR (idx := 21) (ci := 8) (k := 1) (by decide +kernel) (by decide +kernel) rfl
theorem s15_69 : Rn 15 69 L (vR o :: st) T σ K ↔ sx_kd T o = 5 ∧ ∃ t, sx_rf T o 1 = some t ∧ Rn 15 72 L (vR t :: st) T σ K := R_getR (idx := 111) (ci := 5) (k := 1) (by decide +kernel) (by decide +kernel) rfl
theorem s15_72 : Rn 15 72 [l0, l1, some (vI a)] st T σ K ↔ Rn 15 73 [l0, l1, some (vI a)] (vI a :: st) T σ K := R_iload_n (n := 2) (by decide +kernel) rfl
theorem s15_73 : Rn 15 73 L (vI a :: vR o :: st) T σ K ↔ (sx_kd T o = 20 ∧ 0 ≤ a ∧ a < sx_ln T o) ∧ Rn 15 74 L (vI (σ o a) :: st) T σ K := R_iald (by decide +kernel) (by decide)
theorem s15_74 : Rn 15 74 L (vI b :: vI a :: vR o :: st) T σ K ↔ (sx_kd T o = 2 ∧ st.length ≤ 4) ∧ Rn 36 0 [some (vR o), some (vI a), some (vI b)] [] T σ (fun r T' σ' => Rn 15 77 L (sx_push r st) T' σ' K) := R_V (cm := 36) (n := 2) (idx := 114) (ci := 2) (mx := 3) (vs := [vI a, vI b]) (by decide +kernel) (by decide +kernel) rfl (by decide +kernel) rfl (by decide +kernel) (by decide +kernel)
theorem s15_77 : Rn 15 77 [some (vR o), l1, l2] st T σ K ↔ Rn 15 78 [some (vR o), l1, l2] (vR o :: st) T σ K := R_aload_n (n := 0) (by decide +kernel) rfl
theorem s15_78 : Rn 15 78 L (vR o :: st) T σ K ↔ sx_kd T o = 8 ∧ ∃ t, sx_rf T o 2 = some t ∧ Rn 15 81 L (vR t :: st) T σ K := R_getR (idx := 28) (ci := 8) (k := 2) (by decide +kernel) (by decide +kernel) rfl
theorem s15_81 : Rn 15 81 L (vR o :: st) T σ K ↔ sx_kd T o = 2 ∧ ∃ t, sx_rf T o 3 = some t ∧ Rn 15 84 L (vR t :: st) T σ K := R_getR (idx := 118) (ci := 2) (k := 3) (by decide +kernel) (by decide +kernel) rfl
theorem s15_84 : Rn 15 84 [l0, l1, some (vI a)] st T σ K ↔ Rn 15 85 [l0, l1, some (vI a)] (vI a :: st) T σ K := R_iload_n (n := 2) (by decide +kernel) rfl
theorem s15_85 : Rn 15 85 [some (vR o), l1, l2] st T σ K ↔ Rn 15 86 [some (vR o), l1, l2] (vR o :: st) T σ K := R_aload_n (n := 0) (by decide +kernel) rfl
theorem s15_86 : Rn 15 86 L (vR o :: st) T σ K ↔ sx_kd T o = 8 ∧ ∃ t, sx_rf T o 1 = some t ∧ Rn 15 89 L (vR t :: st) T σ K := R_getR (idx := 21) (ci := 8) (k := 1) (by decide +kernel) (by decide +kernel) rfl
theorem s15_89 : Rn 15 89 L (vR o :: st) T σ K ↔ sx_kd T o = 5 ∧ ∃ t, sx_rf T o 2 = some t ∧ Rn 15 92 L (vR t :: st) T σ K := R_getR (idx := 121) (ci := 5) (k := 2) (by decide +kernel) (by decide +kernel) rfl
theorem s15_92 : Rn 15 92 [l0, l1, some (vI a)] st T σ K ↔ Rn 15 93 [l0, l1, some (vI a)] (vI a :: st) T σ K := R_iload_n (n := 2) (by decide +kernel) rfl
theorem s15_93 : Rn 15 93 L (vI a :: vR o :: st) T σ K ↔ (sx_kd T o = 20 ∧ 0 ≤ a ∧ a < sx_ln T o) ∧ Rn 15 94 L (vI (σ o a) :: st) T σ K := R_iald (by decide +kernel) (by decide)
theorem s15_94 : Rn 15 94 L (vI b :: vI a :: vR o :: st) T σ K ↔ (sx_kd T o = 20 ∧ 0 ≤ a ∧ a < sx_ln T o) ∧ Rn 15 95 L st T (sx_up σ o a b) K := R_iast (by decide +kernel)
theorem s15_95 : Rn 15 95 [l0, l1, some (vI a)] st T σ K ↔ inI (a + 1) ∧ Rn 15 98 [l0, l1, some (vI (a + 1))] st T σ K := R_iinc (n := 2) (d := 1) (by decide +kernel) rfl
theorem s15_98 : Rn 15 98 L st T σ K ↔ Rn 15 49 L st T σ K := R_goto (off := -49) (by decide +kernel) (by decide)
theorem s15_101 : Rn 15 101 [some (vR o), l1, l2] st T σ K ↔ Rn 15 102 [some (vR o), l1, l2] (vR o :: st) T σ K := R_aload_n (n := 0) (by decide +kernel) rfl
theorem s15_102 : Rn 15 102 L (vR o :: st) T σ K ↔ sx_kd T o = 8 ∧ ∃ t, sx_rf T o 4 = some t ∧ Rn 15 105 L (vR t :: st) T σ K := R_getR (idx := 38) (ci := 8) (k := 4) (by decide +kernel) (by decide +kernel) rfl
theorem s15_105 : Rn 15 105 L (vR o :: st) T σ K ↔ (sx_kd T o = 0 ∧ st.length ≤ 4) ∧ Rn 43 0 [some (vR o)] [] T σ (fun r T' σ' => Rn 15 108 L (sx_push r st) T' σ' K) := R_V (cm := 43) (n := 0) (idx := 122) (ci := 0) (mx := 1) (vs := []) (by decide +kernel) (by decide +kernel) rfl (by decide +kernel) rfl (by decide +kernel) (by decide +kernel)
theorem s15_108 : Rn 15 108 [some (vR o), l1, l2] st T σ K ↔ Rn 15 109 [some (vR o), l1, l2] (vR o :: st) T σ K := R_aload_n (n := 0) (by decide +kernel) rfl
theorem s15_109 : Rn 15 109 L (vR o :: st) T σ K ↔ sx_kd T o = 8 ∧ ∃ t, sx_rf T o 5 = some t ∧ Rn 15 112 L (vR t :: st) T σ K := R_getR (idx := 47) (ci := 8) (k := 5) (by decide +kernel) (by decide +kernel) rfl
theorem s15_112 : Rn 15 112 L (vR o :: st) T σ K ↔ (sx_kd T o = 3 ∧ st.length ≤ 4) ∧ Rn 44 0 [some (vR o)] [] T σ (fun r T' σ' => Rn 15 115 L (sx_push r st) T' σ' K) := R_V (cm := 44) (n := 0) (idx := 125) (ci := 3) (mx := 1) (vs := []) (by decide +kernel) (by decide +kernel) rfl (by decide +kernel) rfl (by decide +kernel) (by decide +kernel)
theorem s15_115 : Rn 15 115 [some (vR o), l1, l2] st T σ K ↔ Rn 15 116 [some (vR o), l1, l2] (vR o :: st) T σ K := R_aload_n (n := 0) (by decide +kernel) rfl
theorem s15_116 : Rn 15 116 L (vR o :: st) T σ K ↔ sx_kd T o = 8 ∧ ∃ t, sx_rf T o 8 = some t ∧ Rn 15 119 L (vR t :: st) T σ K := R_getR (idx := 66) (ci := 8) (k := 8) (by decide +kernel) (by decide +kernel) rfl
theorem s15_119 : Rn 15 119 L st T σ K ↔ Rn 15 120 L (vI 0 :: st) T σ K := R_iconst (n := 0) (by decide +kernel) (by decide)
theorem s15_120 : Rn 15 120 L (vI a :: vR o :: st) T σ K ↔ sx_kd T o = 4 ∧ Rn 15 123 L st T (sx_up σ o 5 a) K := R_putI (idx := 126) (ci := 4) (k := 5) (by decide +kernel) (by decide +kernel) rfl rfl
theorem s15_123 : Rn 15 123 L st T σ K ↔ Rn 15 124 L (vI 1 :: st) T σ K := R_iconst (n := 1) (by decide +kernel) (by decide)
theorem s15_124 : Rn 15 124 [some (vR o), l1, l2] st T σ K ↔ Rn 15 125 [some (vR o), l1, l2] (vR o :: st) T σ K := R_aload_n (n := 0) (by decide +kernel) rfl
theorem s15_125 : Rn 15 125 L (vR o :: st) T σ K ↔ sx_kd T o = 8 ∧ ∃ t, sx_rf T o 1 = some t ∧ Rn 15 128 L (vR t :: st) T σ K := R_getR (idx := 21) (ci := 8) (k := 1) (by decide +kernel) (by decide +kernel) rfl
theorem s15_128 : Rn 15 128 L (vR o :: st) T σ K ↔ sx_kd T o = 5 ∧ Rn 15 131 L (vI (σ o 4) :: st) T σ K := R_getI (idx := 108) (ci := 5) (k := 4) (by decide +kernel) (by decide +kernel) (Or.inl rfl)
theorem s15_131 : Rn 15 131 L (vI b :: vI a :: st) T σ K ↔ inI (a + b) ∧ Rn 15 132 L (vI (a + b) :: st) T σ K := R_iadd (by decide +kernel)
theorem s15_132 : Rn 15 132 L [vI a] T σ K ↔ K (some (vI a)) T σ := R_ret (by decide +kernel) (by decide +kernel)
theorem s16_0 : Rn 16 0 [some (vR o), l1] st T σ K ↔ Rn 16 1 [some (vR o), l1] (vR o :: st) T σ K := R_aload_n (n := 0) (by decide +kernel) rfl
theorem s16_1 : Rn 16 1 L st T σ K ↔ Rn 16 2 L (vI 0 :: st) T σ K := R_iconst (n := 0) (by decide +kernel) (by decide)
theorem s16_2 : Rn 16 2 L (vI a :: vR o :: st) T σ K ↔ sx_kd T o = 5 ∧ Rn 16 5 L st T (sx_up σ o 7 a) K := R_putI (idx := 26) (ci := 5) (k := 7) (by decide +kernel) (by decide +kernel) rfl rfl
theorem s16_5 : Rn 16 5 [some (vR o), l1] st T σ K ↔ Rn 16 6 [some (vR o), l1] (vR o :: st) T σ K := R_aload_n (n := 0) (by decide +kernel) rfl
theorem s16_6 : Rn 16 6 L st T σ K ↔ Rn 16 7 L (vI 0 :: st) T σ K := R_iconst (n := 0) (by decide +kernel) (by decide)
theorem s16_7 : Rn 16 7 L (vI a :: vR o :: st) T σ K ↔ sx_kd T o = 5 ∧ Rn 16 10 L st T (sx_up σ o 4 a) K := R_putI (idx := 29) (ci := 5) (k := 4) (by decide +kernel) (by decide +kernel) rfl rfl
theorem s16_10 : Rn 16 10 [some (vR o), l1] st T σ K ↔ Rn 16 11 [some (vR o), l1] (vR o :: st) T σ K := R_aload_n (n := 0) (by decide +kernel) rfl
theorem s16_11 : Rn 16 11 L st T σ K ↔ Rn 16 12 L (vI 0 :: st) T σ K := R_iconst (n := 0) (by decide +kernel) (by decide)
theorem s16_12 : Rn 16 12 L (vI a :: vR o :: st) T σ K ↔ sx_kd T o = 5 ∧ Rn 16 15 L st T (sx_up σ o 5 a) K := R_putI (idx := 32) (ci := 5) (k := 5) (by decide +kernel) (by decide +kernel) rfl rfl
theorem s16_15 : Rn 16 15 [some (vR o), l1] st T σ K ↔ Rn 16 16 [some (vR o), l1] (vR o :: st) T σ K := R_aload_n (n := 0) (by decide +kernel) rfl
theorem s16_16 : Rn 16 16 L st T σ K ↔ Rn 16 17 L (vI (-1) :: st) T σ K := R_iconst (n := -1) (by decide +kernel) (by decide)
theorem s16_17 : Rn 16 17 L (vI a :: vR o :: st) T σ K ↔ sx_kd T o = 5 ∧ Rn 16 20 L st T (sx_up σ o 6 a) K := R_putI (idx := 18) (ci := 5) (k := 6) (by decide +kernel) (by decide +kernel) rfl rfl
theorem s16_20 : Rn 16 20 [some (vR o), l1] st T σ K ↔ Rn 16 21 [some (vR o), l1] (vR o :: st) T σ K := R_aload_n (n := 0) (by decide +kernel) rfl
theorem s16_21 : Rn 16 21 L (vR o :: st) T σ K ↔ (sx_kd T o = 5 ∧ st.length ≤ 4) ∧ Rn 17 0 [some (vR o)] [] T σ (fun r T' σ' => Rn 16 24 L (sx_push r st) T' σ' K) := R_V (cm := 17) (n := 0) (idx := 35) (ci := 5) (mx := 1) (vs := []) (by decide +kernel) (by decide +kernel) rfl (by decide +kernel) rfl (by decide +kernel) (by decide +kernel)
theorem s16_24 : Rn 16 24 L (vI a :: st) T σ K ↔ (a ≠ 0 → Rn 16 29 L st T σ K) ∧ (a = 0 → Rn 16 27 L st T σ K) := R_if_ne (off := 5) (by decide +kernel) (by decide)
theorem s16_27 : Rn 16 27 L st T σ K ↔ Rn 16 28 L (vI 0 :: st) T σ K := R_iconst (n := 0) (by decide +kernel) (by decide)
theorem s16_28 : Rn 16 28 L [vI a] T σ K ↔ (a = 0 ∨ a = 1) ∧ K (some (vI a)) T σ := R_retZ (by decide +kernel) (by decide +kernel)
theorem s16_29 : Rn 16 29 L st T σ K ↔ Rn 16 30 L (vI 0 :: st) T σ K := R_iconst (n := 0) (by decide +kernel) (by decide)
theorem s16_30 : Rn 16 30 [l0, l1] (vI a :: st) T σ K ↔ Rn 16 31 [l0, some (vI a)] st T σ K := R_istore_n (n := 1) (by decide +kernel) rfl
theorem s16_31 : Rn 16 31 [l0, some (vI a)] st T σ K ↔ Rn 16 32 [l0, some (vI a)] (vI a :: st) T σ K := R_iload_n (n := 1) (by decide +kernel) rfl
theorem s16_32 : Rn 16 32 L st T σ K ↔ Rn 16 34 L (vI 40 :: st) T σ K := R_bipush (n := 40) (by decide +kernel) (by decide +kernel)
theorem s16_34 : Rn 16 34 L (vI b :: vI a :: st) T σ K ↔ (b < a → Rn 16 59 L st T σ K) ∧ (a ≤ b → Rn 16 37 L st T σ K) := R_icmp_gt (off := 25) (by decide +kernel) (by decide)
theorem s16_37 : Rn 16 37 [some (vR o), l1] st T σ K ↔ Rn 16 38 [some (vR o), l1] (vR o :: st) T σ K := R_aload_n (n := 0) (by decide +kernel) rfl
theorem s16_38 : Rn 16 38 L (vR o :: st) T σ K ↔ (sx_kd T o = 5 ∧ st.length ≤ 4) ∧ Rn 25 0 [some (vR o)] [] T σ (fun r T' σ' => Rn 16 41 L (sx_push r st) T' σ' K) := R_V (cm := 25) (n := 0) (idx := 39) (ci := 5) (mx := 1) (vs := []) (by decide +kernel) (by decide +kernel) rfl (by decide +kernel) rfl (by decide +kernel) (by decide +kernel)
theorem s16_41 : Rn 16 41 L (vI a :: st) T σ K ↔ (a = 0 → Rn 16 59 L st T σ K) ∧ (a ≠ 0 → Rn 16 44 L st T σ K) := R_if_eq (off := 18) (by decide +kernel) (by decide)
theorem s16_44 : Rn 16 44 [some (vR o), l1] st T σ K ↔ Rn 16 45 [some (vR o), l1] (vR o :: st) T σ K := R_aload_n (n := 0) (by decide +kernel) rfl
theorem s16_45 : Rn 16 45 L (vR o :: st) T σ K ↔ (sx_kd T o = 5 ∧ st.length ≤ 4) ∧ Rn 26 0 [some (vR o)] [] T σ (fun r T' σ' => Rn 16 48 L (sx_push r st) T' σ' K) := R_V (cm := 26) (n := 0) (idx := 42) (ci := 5) (mx := 1) (vs := []) (by decide +kernel) (by decide +kernel) rfl (by decide +kernel) rfl (by decide +kernel) (by decide +kernel)
theorem s16_48 : Rn 16 48 L (vI a :: st) T σ K ↔ (a ≠ 0 → Rn 16 53 L st T σ K) ∧ (a = 0 → Rn 16 51 L st T σ K) := R_if_ne (off := 5) (by decide +kernel) (by decide)
theorem s16_51 : Rn 16 51 L st T σ K ↔ Rn 16 52 L (vI 0 :: st) T σ K := R_iconst (n := 0) (by decide +kernel) (by decide)
theorem s16_52 : Rn 16 52 L [vI a] T σ K ↔ (a = 0 ∨ a = 1) ∧ K (some (vI a)) T σ := R_retZ (by decide +kernel) (by decide +kernel)
theorem s16_53 : Rn 16 53 [l0, some (vI a)] st T σ K ↔ inI (a + 1) ∧ Rn 16 56 [l0, some (vI (a + 1))] st T σ K := R_iinc (n := 1) (d := 1) (by decide +kernel) rfl
theorem s16_56 : Rn 16 56 L st T σ K ↔ Rn 16 31 L st T σ K := R_goto (off := -25) (by decide +kernel) (by decide)
theorem s16_59 : Rn 16 59 L st T σ K ↔ Rn 16 60 L (vI 1 :: st) T σ K := R_iconst (n := 1) (by decide +kernel) (by decide)
theorem s16_60 : Rn 16 60 L [vI a] T σ K ↔ (a = 0 ∨ a = 1) ∧ K (some (vI a)) T σ := R_retZ (by decide +kernel) (by decide +kernel)
theorem s17_0 : Rn 17 0 [some (vR o)] st T σ K ↔ Rn 17 1 [some (vR o)] (vR o :: st) T σ K := R_aload_n (n := 0) (by decide +kernel) rfl
theorem s17_1 : Rn 17 1 L st T σ K ↔ Rn 17 3 L (vR 1000001 :: st) T σ K := R_ldcS (idx := 45) (j := 0) (by decide +kernel) (by decide +kernel) (by decide) rfl
theorem s17_3 : Rn 17 3 L (vR p :: vR o :: st) T σ K ↔ (sx_kd T o = 5 ∧ st.length ≤ 4) ∧ Rn 18 0 [some (vR o), some (vR p)] [] T σ (fun r T' σ' => Rn 17 6 L (sx_push r st) T' σ' K) := R_V (cm := 18) (n := 1) (idx := 47) (ci := 5) (mx := 2) (vs := [vR p]) (by decide +kernel) (by decide +kernel) rfl (by decide +kernel) rfl (by decide +kernel) (by decide +kernel)
theorem s17_6 : Rn 17 6 L (vI a :: st) T σ K ↔ (a = 0 → Rn 17 18 L st T σ K) ∧ (a ≠ 0 → Rn 17 9 L st T σ K) := R_if_eq (off := 12) (by decide +kernel) (by decide)
theorem s17_9 : Rn 17 9 [some (vR o)] st T σ K ↔ Rn 17 10 [some (vR o)] (vR o :: st) T σ K := R_aload_n (n := 0) (by decide +kernel) rfl
theorem s17_10 : Rn 17 10 L st T σ K ↔ Rn 17 12 L (vR 1000002 :: st) T σ K := R_ldcS (idx := 51) (j := 1) (by decide +kernel) (by decide +kernel) (by decide) rfl
theorem s17_12 : Rn 17 12 L (vR p :: vR o :: st) T σ K ↔ (sx_kd T o = 5 ∧ st.length ≤ 4) ∧ Rn 18 0 [some (vR o), some (vR p)] [] T σ (fun r T' σ' => Rn 17 15 L (sx_push r st) T' σ' K) := R_V (cm := 18) (n := 1) (idx := 47) (ci := 5) (mx := 2) (vs := [vR p]) (by decide +kernel) (by decide +kernel) rfl (by decide +kernel) rfl (by decide +kernel) (by decide +kernel)
theorem s17_15 : Rn 17 15 L (vI a :: st) T σ K ↔ (a ≠ 0 → Rn 17 20 L st T σ K) ∧ (a = 0 → Rn 17 18 L st T σ K) := R_if_ne (off := 5) (by decide +kernel) (by decide)
theorem s17_18 : Rn 17 18 L st T σ K ↔ Rn 17 19 L (vI 0 :: st) T σ K := R_iconst (n := 0) (by decide +kernel) (by decide)
theorem s17_19 : Rn 17 19 L [vI a] T σ K ↔ (a = 0 ∨ a = 1) ∧ K (some (vI a)) T σ := R_retZ (by decide +kernel) (by decide +kernel)
theorem s17_20 : Rn 17 20 [some (vR o)] st T σ K ↔ Rn 17 21 [some (vR o)] (vR o :: st) T σ K := R_aload_n (n := 0) (by decide +kernel) rfl
theorem s17_21 : Rn 17 21 L (vR o :: st) T σ K ↔ (sx_kd T o = 5 ∧ st.length ≤ 4) ∧ Rn 19 0 [some (vR o)] [] T σ (fun r T' σ' => Rn 17 24 L (sx_push r st) T' σ' K) := R_V (cm := 19) (n := 0) (idx := 53) (ci := 5) (mx := 1) (vs := []) (by decide +kernel) (by decide +kernel) rfl (by decide +kernel) rfl (by decide +kernel) (by decide +kernel)
theorem s17_24 : Rn 17 24 [some (vR o)] st T σ K ↔ Rn 17 25 [some (vR o)] (vR o :: st) T σ K := R_aload_n (n := 0) (by decide +kernel) rfl
theorem s17_25 : Rn 17 25 L st T σ K ↔ Rn 17 27 L (vR 1000003 :: st) T σ K := R_ldcS (idx := 56) (j := 2) (by decide +kernel) (by decide +kernel) (by decide) rfl
theorem s17_27 : Rn 17 27 L (vR p :: vR o :: st) T σ K ↔ (sx_kd T o = 5 ∧ st.length ≤ 4) ∧ Rn 21 0 [some (vR o), some (vR p), none] [] T σ (fun r T' σ' => Rn 17 30 L (sx_push r st) T' σ' K) := R_V (cm := 21) (n := 1) (idx := 58) (ci := 5) (mx := 3) (vs := [vR p]) (by decide +kernel) (by decide +kernel) rfl (by decide +kernel) rfl (by decide +kernel) (by decide +kernel)
theorem s17_30 : Rn 17 30 L (vI a :: st) T σ K ↔ (a = 0 → Rn 17 60 L st T σ K) ∧ (a ≠ 0 → Rn 17 33 L st T σ K) := R_if_eq (off := 30) (by decide +kernel) (by decide)
theorem s17_33 : Rn 17 33 [some (vR o)] st T σ K ↔ Rn 17 34 [some (vR o)] (vR o :: st) T σ K := R_aload_n (n := 0) (by decide +kernel) rfl
theorem s17_34 : Rn 17 34 L st T σ K ↔ Rn 17 35 L (vI 0 :: st) T σ K := R_iconst (n := 0) (by decide +kernel) (by decide)
theorem s17_35 : Rn 17 35 L (vI a :: vR o :: st) T σ K ↔ sx_kd T o = 5 ∧ Rn 17 38 L st T (sx_up σ o 3 a) K := R_putI (idx := 61) (ci := 5) (k := 3) (by decide +kernel) (by decide +kernel) rfl rfl
theorem s17_38 : Rn 17 38 [some (vR o)] st T σ K ↔ Rn 17 39 [some (vR o)] (vR o :: st) T σ K := R_aload_n (n := 0) (by decide +kernel) rfl
theorem s17_39 : Rn 17 39 L st T σ K ↔ Rn 17 41 L (vR 1000003 :: st) T σ K := R_ldcS (idx := 56) (j := 2) (by decide +kernel) (by decide +kernel) (by decide) rfl
theorem s17_41 : Rn 17 41 L (vR p :: vR o :: st) T σ K ↔ (sx_kd T o = 5 ∧ st.length ≤ 4) ∧ Rn 18 0 [some (vR o), some (vR p)] [] T σ (fun r T' σ' => Rn 17 44 L (sx_push r st) T' σ' K) := R_V (cm := 18) (n := 1) (idx := 47) (ci := 5) (mx := 2) (vs := [vR p]) (by decide +kernel) (by decide +kernel) rfl (by decide +kernel) rfl (by decide +kernel) (by decide +kernel)
theorem s17_44 : Rn 17 44 L (vI a :: st) T σ K ↔ (a = 0 → Rn 17 58 L st T σ K) ∧ (a ≠ 0 → Rn 17 47 L st T σ K) := R_if_eq (off := 14) (by decide +kernel) (by decide)
theorem s17_47 : Rn 17 47 [some (vR o)] st T σ K ↔ Rn 17 48 [some (vR o)] (vR o :: st) T σ K := R_aload_n (n := 0) (by decide +kernel) rfl
theorem s17_48 : Rn 17 48 L (vR o :: st) T σ K ↔ (sx_kd T o = 5 ∧ st.length ≤ 4) ∧ Rn 24 0 [some (vR o)] [] T σ (fun r T' σ' => Rn 17 51 L (sx_push r st) T' σ' K) := R_V (cm := 24) (n := 0) (idx := 64) (ci := 5) (mx := 1) (vs := []) (by decide +kernel) (by decide +kernel) rfl (by decide +kernel) rfl (by decide +kernel) (by decide +kernel)
theorem s17_51 : Rn 17 51 L (vI a :: st) T σ K ↔ (a = 0 → Rn 17 58 L st T σ K) ∧ (a ≠ 0 → Rn 17 54 L st T σ K) := R_if_eq (off := 7) (by decide +kernel) (by decide)
theorem s17_54 : Rn 17 54 L st T σ K ↔ Rn 17 55 L (vI 1 :: st) T σ K := R_iconst (n := 1) (by decide +kernel) (by decide)
theorem s17_55 : Rn 17 55 L st T σ K ↔ Rn 17 59 L st T σ K := R_goto (off := 4) (by decide +kernel) (by decide)
theorem s17_58 : Rn 17 58 L st T σ K ↔ Rn 17 59 L (vI 0 :: st) T σ K := R_iconst (n := 0) (by decide +kernel) (by decide)
theorem s17_59 : Rn 17 59 L [vI a] T σ K ↔ (a = 0 ∨ a = 1) ∧ K (some (vI a)) T σ := R_retZ (by decide +kernel) (by decide +kernel)
theorem s17_60 : Rn 17 60 [some (vR o)] st T σ K ↔ Rn 17 61 [some (vR o)] (vR o :: st) T σ K := R_aload_n (n := 0) (by decide +kernel) rfl
theorem s17_61 : Rn 17 61 L st T σ K ↔ Rn 17 63 L (vR 1000004 :: st) T σ K := R_ldcS (idx := 67) (j := 3) (by decide +kernel) (by decide +kernel) (by decide) rfl
theorem s17_63 : Rn 17 63 L (vR p :: vR o :: st) T σ K ↔ (sx_kd T o = 5 ∧ st.length ≤ 4) ∧ Rn 21 0 [some (vR o), some (vR p), none] [] T σ (fun r T' σ' => Rn 17 66 L (sx_push r st) T' σ' K) := R_V (cm := 21) (n := 1) (idx := 58) (ci := 5) (mx := 3) (vs := [vR p]) (by decide +kernel) (by decide +kernel) rfl (by decide +kernel) rfl (by decide +kernel) (by decide +kernel)
theorem s17_66 : Rn 17 66 L (vI a :: st) T σ K ↔ (a = 0 → Rn 17 96 L st T σ K) ∧ (a ≠ 0 → Rn 17 69 L st T σ K) := R_if_eq (off := 30) (by decide +kernel) (by decide)
theorem s17_69 : Rn 17 69 [some (vR o)] st T σ K ↔ Rn 17 70 [some (vR o)] (vR o :: st) T σ K := R_aload_n (n := 0) (by decide +kernel) rfl
theorem s17_70 : Rn 17 70 L st T σ K ↔ Rn 17 71 L (vI 1 :: st) T σ K := R_iconst (n := 1) (by decide +kernel) (by decide)
theorem s17_71 : Rn 17 71 L (vI a :: vR o :: st) T σ K ↔ sx_kd T o = 5 ∧ Rn 17 74 L st T (sx_up σ o 3 a) K := R_putI (idx := 61) (ci := 5) (k := 3) (by decide +kernel) (by decide +kernel) rfl rfl
theorem s17_74 : Rn 17 74 [some (vR o)] st T σ K ↔ Rn 17 75 [some (vR o)] (vR o :: st) T σ K := R_aload_n (n := 0) (by decide +kernel) rfl
theorem s17_75 : Rn 17 75 L st T σ K ↔ Rn 17 77 L (vR 1000004 :: st) T σ K := R_ldcS (idx := 67) (j := 3) (by decide +kernel) (by decide +kernel) (by decide) rfl
theorem s17_77 : Rn 17 77 L (vR p :: vR o :: st) T σ K ↔ (sx_kd T o = 5 ∧ st.length ≤ 4) ∧ Rn 18 0 [some (vR o), some (vR p)] [] T σ (fun r T' σ' => Rn 17 80 L (sx_push r st) T' σ' K) := R_V (cm := 18) (n := 1) (idx := 47) (ci := 5) (mx := 2) (vs := [vR p]) (by decide +kernel) (by decide +kernel) rfl (by decide +kernel) rfl (by decide +kernel) (by decide +kernel)
theorem s17_80 : Rn 17 80 L (vI a :: st) T σ K ↔ (a = 0 → Rn 17 94 L st T σ K) ∧ (a ≠ 0 → Rn 17 83 L st T σ K) := R_if_eq (off := 14) (by decide +kernel) (by decide)
theorem s17_83 : Rn 17 83 [some (vR o)] st T σ K ↔ Rn 17 84 [some (vR o)] (vR o :: st) T σ K := R_aload_n (n := 0) (by decide +kernel) rfl
theorem s17_84 : Rn 17 84 L (vR o :: st) T σ K ↔ (sx_kd T o = 5 ∧ st.length ≤ 4) ∧ Rn 24 0 [some (vR o)] [] T σ (fun r T' σ' => Rn 17 87 L (sx_push r st) T' σ' K) := R_V (cm := 24) (n := 0) (idx := 64) (ci := 5) (mx := 1) (vs := []) (by decide +kernel) (by decide +kernel) rfl (by decide +kernel) rfl (by decide +kernel) (by decide +kernel)
theorem s17_87 : Rn 17 87 L (vI a :: st) T σ K ↔ (a = 0 → Rn 17 94 L st T σ K) ∧ (a ≠ 0 → Rn 17 90 L st T σ K) := R_if_eq (off := 7) (by decide +kernel) (by decide)
theorem s17_90 : Rn 17 90 L st T σ K ↔ Rn 17 91 L (vI 1 :: st) T σ K := R_iconst (n := 1) (by decide +kernel) (by decide)
theorem s17_91 : Rn 17 91 L st T σ K ↔ Rn 17 95 L st T σ K := R_goto (off := 4) (by decide +kernel) (by decide)
theorem s17_94 : Rn 17 94 L st T σ K ↔ Rn 17 95 L (vI 0 :: st) T σ K := R_iconst (n := 0) (by decide +kernel) (by decide)
theorem s17_95 : Rn 17 95 L [vI a] T σ K ↔ (a = 0 ∨ a = 1) ∧ K (some (vI a)) T σ := R_retZ (by decide +kernel) (by decide +kernel)
theorem s17_96 : Rn 17 96 [some (vR o)] st T σ K ↔ Rn 17 97 [some (vR o)] (vR o :: st) T σ K := R_aload_n (n := 0) (by decide +kernel) rfl
theorem s17_97 : Rn 17 97 L st T σ K ↔ Rn 17 98 L (vI 2 :: st) T σ K := R_iconst (n := 2) (by decide +kernel) (by decide)
theorem s17_98 : Rn 17 98 L (vI a :: vR o :: st) T σ K ↔ sx_kd T o = 5 ∧ Rn 17 101 L st T (sx_up σ o 3 a) K := R_putI (idx := 61) (ci := 5) (k := 3) (by decide +kernel) (by decide +kernel) rfl rfl
theorem s17_101 : Rn 17 101 [some (vR o)] st T σ K ↔ Rn 17 102 [some (vR o)] (vR o :: st) T σ K := R_aload_n (n := 0) (by decide +kernel) rfl
theorem s17_102 : Rn 17 102 L st T σ K ↔ Rn 17 104 L (vR 1000005 :: st) T σ K := R_ldcS (idx := 69) (j := 4) (by decide +kernel) (by decide +kernel) (by decide) rfl
theorem s17_104 : Rn 17 104 L (vR p :: vR o :: st) T σ K ↔ (sx_kd T o = 5 ∧ st.length ≤ 4) ∧ Rn 18 0 [some (vR o), some (vR p)] [] T σ (fun r T' σ' => Rn 17 107 L (sx_push r st) T' σ' K) := R_V (cm := 18) (n := 1) (idx := 47) (ci := 5) (mx := 2) (vs := [vR p]) (by decide +kernel) (by decide +kernel) rfl (by decide +kernel) rfl (by decide +kernel) (by decide +kernel)
theorem s17_107 : Rn 17 107 L (vI a :: st) T σ K ↔ (a = 0 → Rn 17 121 L st T σ K) ∧ (a ≠ 0 → Rn 17 110 L st T σ K) := R_if_eq (off := 14) (by decide +kernel) (by decide)
theorem s17_110 : Rn 17 110 [some (vR o)] st T σ K ↔ Rn 17 111 [some (vR o)] (vR o :: st) T σ K := R_aload_n (n := 0) (by decide +kernel) rfl
theorem s17_111 : Rn 17 111 L (vR o :: st) T σ K ↔ (sx_kd T o = 5 ∧ st.length ≤ 4) ∧ Rn 24 0 [some (vR o)] [] T σ (fun r T' σ' => Rn 17 114 L (sx_push r st) T' σ' K) := R_V (cm := 24) (n := 0) (idx := 64) (ci := 5) (mx := 1) (vs := []) (by decide +kernel) (by decide +kernel) rfl (by decide +kernel) rfl (by decide +kernel) (by decide +kernel)
theorem s17_114 : Rn 17 114 L (vI a :: st) T σ K ↔ (a = 0 → Rn 17 121 L st T σ K) ∧ (a ≠ 0 → Rn 17 117 L st T σ K) := R_if_eq (off := 7) (by decide +kernel) (by decide)
theorem s17_117 : Rn 17 117 L st T σ K ↔ Rn 17 118 L (vI 1 :: st) T σ K := R_iconst (n := 1) (by decide +kernel) (by decide)
theorem s17_118 : Rn 17 118 L st T σ K ↔ Rn 17 122 L st T σ K := R_goto (off := 4) (by decide +kernel) (by decide)
theorem s17_121 : Rn 17 121 L st T σ K ↔ Rn 17 122 L (vI 0 :: st) T σ K := R_iconst (n := 0) (by decide +kernel) (by decide)
theorem s17_122 : Rn 17 122 L [vI a] T σ K ↔ (a = 0 ∨ a = 1) ∧ K (some (vI a)) T σ := R_retZ (by decide +kernel) (by decide +kernel)
theorem s18_0 : Rn 18 0 [some (vR o), l1] st T σ K ↔ Rn 18 1 [some (vR o), l1] (vR o :: st) T σ K := R_aload_n (n := 0) (by decide +kernel) rfl
theorem s18_1 : Rn 18 1 L (vR o :: st) T σ K ↔ (sx_kd T o = 5 ∧ st.length ≤ 4) ∧ Rn 19 0 [some (vR o)] [] T σ (fun r T' σ' => Rn 18 4 L (sx_push r st) T' σ' K) := R_V (cm := 19) (n := 0) (idx := 53) (ci := 5) (mx := 1) (vs := []) (by decide +kernel) (by decide +kernel) rfl (by decide +kernel) rfl (by decide +kernel) (by decide +kernel)
theorem s18_4 : Rn 18 4 [some (vR o), l1] st T σ K ↔ Rn 18 5 [some (vR o), l1] (vR o :: st) T σ K := R_aload_n (n := 0) (by decide +kernel) rfl
theorem s18_5 : Rn 18 5 [l0, some (vR o)] st T σ K ↔ Rn 18 6 [l0, some (vR o)] (vR o :: st) T σ K := R_aload_n (n := 1) (by decide +kernel) rfl
theorem s18_6 : Rn 18 6 L (vR p :: vR o :: st) T σ K ↔ (sx_kd T o = 5 ∧ st.length ≤ 4) ∧ Rn 21 0 [some (vR o), some (vR p), none] [] T σ (fun r T' σ' => Rn 18 9 L (sx_push r st) T' σ' K) := R_V (cm := 21) (n := 1) (idx := 58) (ci := 5) (mx := 3) (vs := [vR p]) (by decide +kernel) (by decide +kernel) rfl (by decide +kernel) rfl (by decide +kernel) (by decide +kernel)
theorem s18_9 : Rn 18 9 L (vI a :: st) T σ K ↔ (a ≠ 0 → Rn 18 22 L st T σ K) ∧ (a = 0 → Rn 18 12 L st T σ K) := R_if_ne (off := 13) (by decide +kernel) (by decide)
theorem s18_12 : Rn 18 12 [some (vR o), l1] st T σ K ↔ Rn 18 13 [some (vR o), l1] (vR o :: st) T σ K := R_aload_n (n := 0) (by decide +kernel) rfl
theorem s18_13 : Rn 18 13 L st T σ K ↔ Rn 18 14 L (vI 1 :: st) T σ K := R_iconst (n := 1) (by decide +kernel) (by decide)
theorem s18_14 : Rn 18 14 [some (vR o), l1] st T σ K ↔ Rn 18 15 [some (vR o), l1] (vR o :: st) T σ K := R_aload_n (n := 0) (by decide +kernel) rfl
theorem s18_15 : Rn 18 15 L (vR o :: st) T σ K ↔ sx_kd T o = 5 ∧ Rn 18 18 L (vI (σ o 7) :: st) T σ K := R_getI (idx := 26) (ci := 5) (k := 7) (by decide +kernel) (by decide +kernel) (Or.inl rfl)
theorem s18_18 : Rn 18 18 L (vI b :: vI a :: vR o :: st) T σ K ↔ (sx_kd T o = 5 ∧ st.length ≤ 4) ∧ Rn 23 0 [some (vR o), some (vI a), some (vI b)] [] T σ (fun r T' σ' => Rn 18 21 L (sx_push r st) T' σ' K) := R_V (cm := 23) (n := 2) (idx := 73) (ci := 5) (mx := 3) (vs := [vI a, vI b]) (by decide +kernel) (by decide +kernel) rfl (by decide +kernel) rfl (by decide +kernel) (by decide +kernel)
theorem s18_21 : Rn 18 21 L [vI a] T σ K ↔ (a = 0 ∨ a = 1) ∧ K (some (vI a)) T σ := R_retZ (by decide +kernel) (by decide +kernel)
theorem s18_22 : Rn 18 22 [some (vR o), l1] st T σ K ↔ Rn 18 23 [some (vR o), l1] (vR o :: st) T σ K := R_aload_n (n := 0) (by decide +kernel) rfl
theorem s18_23 : Rn 18 23 L (vR o :: st) T σ K ↔ Rn 18 24 L (vR o :: vR o :: st) T σ K := R_dup (v := vR o) (by decide +kernel) rfl
theorem s18_24 : Rn 18 24 L (vR o :: st) T σ K ↔ sx_kd T o = 5 ∧ Rn 18 27 L (vI (σ o 7) :: st) T σ K := R_getI (idx := 26) (ci := 5) (k := 7) (by decide +kernel) (by decide +kernel) (Or.inl rfl)
theorem s18_27 : Rn 18 27 [l0, some (vR o)] st T σ K ↔ Rn 18 28 [l0, some (vR o)] (vR o :: st) T σ K := R_aload_n (n := 1) (by decide +kernel) rfl
theorem s18_28 : Rn 18 28 L (vR o :: st) T σ K ↔ (1000001 ≤ o ∧ o < 1000008 ∧ st.length ≤ 4) ∧ Rn 18 31 L (vI ((sx_str (o - 1000001)).length : Int) :: st) T σ K := R_slen (idx := 116) (by decide +kernel) (by decide +kernel) (by decide +kernel) (by decide +kernel)
theorem s18_31 : Rn 18 31 L (vI b :: vI a :: st) T σ K ↔ inI (a + b) ∧ Rn 18 32 L (vI (a + b) :: st) T σ K := R_iadd (by decide +kernel)
theorem s18_32 : Rn 18 32 L (vI a :: vR o :: st) T σ K ↔ sx_kd T o = 5 ∧ Rn 18 35 L st T (sx_up σ o 7 a) K := R_putI (idx := 26) (ci := 5) (k := 7) (by decide +kernel) (by decide +kernel) rfl rfl
theorem s18_35 : Rn 18 35 L st T σ K ↔ Rn 18 36 L (vI 1 :: st) T σ K := R_iconst (n := 1) (by decide +kernel) (by decide)
theorem s18_36 : Rn 18 36 L [vI a] T σ K ↔ (a = 0 ∨ a = 1) ∧ K (some (vI a)) T σ := R_retZ (by decide +kernel) (by decide +kernel)
theorem s19_0 : Rn 19 0 [some (vR o)] st T σ K ↔ Rn 19 1 [some (vR o)] (vR o :: st) T σ K := R_aload_n (n := 0) (by decide +kernel) rfl
theorem s19_1 : Rn 19 1 L (vR o :: st) T σ K ↔ sx_kd T o = 5 ∧ Rn 19 4 L (vI (σ o 7) :: st) T σ K := R_getI (idx := 26) (ci := 5) (k := 7) (by decide +kernel) (by decide +kernel) (Or.inl rfl)
theorem s19_4 : Rn 19 4 [some (vR o)] st T σ K ↔ Rn 19 5 [some (vR o)] (vR o :: st) T σ K := R_aload_n (n := 0) (by decide +kernel) rfl
theorem s19_5 : Rn 19 5 L (vR o :: st) T σ K ↔ sx_kd T o = 5 ∧ ∃ t, sx_rf T o 0 = some t ∧ Rn 19 8 L (vR t :: st) T σ K := R_getR (idx := 22) (ci := 5) (k := 0) (by decide +kernel) (by decide +kernel) rfl
theorem s19_8 : Rn 19 8 L (vR o :: st) T σ K ↔ sx_kd T o = 6 ∧ Rn 19 11 L (vI (σ o 1) :: st) T σ K := R_getI (idx := 121) (ci := 6) (k := 1) (by decide +kernel) (by decide +kernel) (Or.inl rfl)
theorem s19_11 : Rn 19 11 L (vI b :: vI a :: st) T σ K ↔ (b ≤ a → Rn 19 59 L st T σ K) ∧ (a < b → Rn 19 14 L st T σ K) := R_icmp_ge (off := 48) (by decide +kernel) (by decide)
theorem s19_14 : Rn 19 14 [some (vR o)] st T σ K ↔ Rn 19 15 [some (vR o)] (vR o :: st) T σ K := R_aload_n (n := 0) (by decide +kernel) rfl
theorem s19_15 : Rn 19 15 L (vR o :: st) T σ K ↔ sx_kd T o = 5 ∧ ∃ t, sx_rf T o 0 = some t ∧ Rn 19 18 L (vR t :: st) T σ K := R_getR (idx := 22) (ci := 5) (k := 0) (by decide +kernel) (by decide +kernel) rfl
theorem s19_18 : Rn 19 18 [some (vR o)] st T σ K ↔ Rn 19 19 [some (vR o)] (vR o :: st) T σ K := R_aload_n (n := 0) (by decide +kernel) rfl
theorem s19_19 : Rn 19 19 L (vR o :: st) T σ K ↔ sx_kd T o = 5 ∧ Rn 19 22 L (vI (σ o 7) :: st) T σ K := R_getI (idx := 26) (ci := 5) (k := 7) (by decide +kernel) (by decide +kernel) (Or.inl rfl)
theorem s19_22 : Rn 19 22 L (vI a :: vR o :: st) T σ K ↔ (sx_kd T o = 6 ∧ st.length ≤ 4) ∧ Rn 20 0 [some (vR o), some (vI a)] [] T σ (fun r T' σ' => Rn 19 25 L (sx_push r st) T' σ' K) := R_V (cm := 20) (n := 1) (idx := 85) (ci := 6) (mx := 2) (vs := [vI a]) (by decide +kernel) (by decide +kernel) rfl (by decide +kernel) rfl (by decide +kernel) (by decide +kernel)
theorem s19_25 : Rn 19 25 L st T σ K ↔ Rn 19 27 L (vI 32 :: st) T σ K := R_bipush (n := 32) (by decide +kernel) (by decide +kernel)
theorem s19_27 : Rn 19 27 L (vI b :: vI a :: st) T σ K ↔ (a = b → Rn 19 46 L st T σ K) ∧ (a ≠ b → Rn 19 30 L st T σ K) := R_icmp_eq (off := 19) (by decide +kernel) (by decide)
theorem s19_30 : Rn 19 30 [some (vR o)] st T σ K ↔ Rn 19 31 [some (vR o)] (vR o :: st) T σ K := R_aload_n (n := 0) (by decide +kernel) rfl
theorem s19_31 : Rn 19 31 L (vR o :: st) T σ K ↔ sx_kd T o = 5 ∧ ∃ t, sx_rf T o 0 = some t ∧ Rn 19 34 L (vR t :: st) T σ K := R_getR (idx := 22) (ci := 5) (k := 0) (by decide +kernel) (by decide +kernel) rfl
theorem s19_34 : Rn 19 34 [some (vR o)] st T σ K ↔ Rn 19 35 [some (vR o)] (vR o :: st) T σ K := R_aload_n (n := 0) (by decide +kernel) rfl
theorem s19_35 : Rn 19 35 L (vR o :: st) T σ K ↔ sx_kd T o = 5 ∧ Rn 19 38 L (vI (σ o 7) :: st) T σ K := R_getI (idx := 26) (ci := 5) (k := 7) (by decide +kernel) (by decide +kernel) (Or.inl rfl)
theorem s19_38 : Rn 19 38 L (vI a :: vR o :: st) T σ K ↔ (sx_kd T o = 6 ∧ st.length ≤ 4) ∧ Rn 20 0 [some (vR o), some (vI a)] [] T σ (fun r T' σ' => Rn 19 41 L (sx_push r st) T' σ' K) := R_V (cm := 20) (n := 1) (idx := 85) (ci := 6) (mx := 2) (vs := [vI a]) (by decide +kernel) (by decide +kernel) rfl (by decide +kernel) rfl (by decide +kernel) (by decide +kernel)
theorem s19_41 : Rn 19 41 L st T σ K ↔ Rn 19 43 L (vI 10 :: st) T σ K := R_bipush (n := 10) (by decide +kernel) (by decide +kernel)
theorem s19_43 : Rn 19 43 L (vI b :: vI a :: st) T σ K ↔ (a ≠ b → Rn 19 59 L st T σ K) ∧ (a = b → Rn 19 46 L st T σ K) := R_icmp_ne (off := 16) (by decide +kernel) (by decide)
theorem s19_46 : Rn 19 46 [some (vR o)] st T σ K ↔ Rn 19 47 [some (vR o)] (vR o :: st) T σ K := R_aload_n (n := 0) (by decide +kernel) rfl
theorem s19_47 : Rn 19 47 L (vR o :: st) T σ K ↔ Rn 19 48 L (vR o :: vR o :: st) T σ K := R_dup (v := vR o) (by decide +kernel) rfl
theorem s19_48 : Rn 19 48 L (vR o :: st) T σ K ↔ sx_kd T o = 5 ∧ Rn 19 51 L (vI (σ o 7) :: st) T σ K := R_getI (idx := 26) (ci := 5) (k := 7) (by decide +kernel) (by decide +kernel) (Or.inl rfl)
theorem s19_51 : Rn 19 51 L st T σ K ↔ Rn 19 52 L (vI 1 :: st) T σ K := R_iconst (n := 1) (by decide +kernel) (by decide)
theorem s19_52 : Rn 19 52 L (vI b :: vI a :: st) T σ K ↔ inI (a + b) ∧ Rn 19 53 L (vI (a + b) :: st) T σ K := R_iadd (by decide +kernel)
theorem s19_53 : Rn 19 53 L (vI a :: vR o :: st) T σ K ↔ sx_kd T o = 5 ∧ Rn 19 56 L st T (sx_up σ o 7 a) K := R_putI (idx := 26) (ci := 5) (k := 7) (by decide +kernel) (by decide +kernel) rfl rfl
theorem s19_56 : Rn 19 56 L st T σ K ↔ Rn 19 0 L st T σ K := R_goto (off := -56) (by decide +kernel) (by decide)
theorem s19_59 : Rn 19 59 L [] T σ K ↔ K none T σ := R_retV (by decide +kernel) (by decide +kernel)
theorem s20_0 : Rn 20 0 [l0, some (vI a)] st T σ K ↔ Rn 20 1 [l0, some (vI a)] (vI a :: st) T σ K := R_iload_n (n := 1) (by decide +kernel) rfl
theorem s20_1 : Rn 20 1 L (vI a :: st) T σ K ↔ (a < 0 → Rn 20 19 L st T σ K) ∧ (0 ≤ a → Rn 20 4 L st T σ K) := R_if_lt (off := 18) (by decide +kernel) (by decide)
theorem s20_4 : Rn 20 4 [l0, some (vI a)] st T σ K ↔ Rn 20 5 [l0, some (vI a)] (vI a :: st) T σ K := R_iload_n (n := 1) (by decide +kernel) rfl
theorem s20_5 : Rn 20 5 [some (vR o), l1] st T σ K ↔ Rn 20 6 [some (vR o), l1] (vR o :: st) T σ K := R_aload_n (n := 0) (by decide +kernel) rfl
theorem s20_6 : Rn 20 6 L (vR o :: st) T σ K ↔ sx_kd T o = 6 ∧ Rn 20 9 L (vI (σ o 1) :: st) T σ K := R_getI (idx := 15) (ci := 6) (k := 1) (by decide +kernel) (by decide +kernel) (Or.inl rfl)
theorem s20_9 : Rn 20 9 L (vI b :: vI a :: st) T σ K ↔ (b ≤ a → Rn 20 19 L st T σ K) ∧ (a < b → Rn 20 12 L st T σ K) := R_icmp_ge (off := 10) (by decide +kernel) (by decide)
theorem s20_12 : Rn 20 12 [l0, some (vI a)] st T σ K ↔ Rn 20 13 [l0, some (vI a)] (vI a :: st) T σ K := R_iload_n (n := 1) (by decide +kernel) rfl
theorem s20_13 : Rn 20 13 L st T σ K ↔ Rn 20 16 L (vI 1600 :: st) T σ K := R_sipush (n := 1600) (by decide +kernel) (by decide +kernel)
theorem s20_16 : Rn 20 16 L (vI b :: vI a :: st) T σ K ↔ (a < b → Rn 20 23 L st T σ K) ∧ (b ≤ a → Rn 20 19 L st T σ K) := R_icmp_lt (off := 7) (by decide +kernel) (by decide)
theorem s20_19 : Rn 20 19 L st T σ K ↔ Rn 20 20 L (vI (-1) :: st) T σ K := R_iconst (n := -1) (by decide +kernel) (by decide)
theorem s20_20 : Rn 20 20 L st T σ K ↔ Rn 20 29 L st T σ K := R_goto (off := 9) (by decide +kernel) (by decide)
theorem s20_23 : Rn 20 23 [some (vR o), l1] st T σ K ↔ Rn 20 24 [some (vR o), l1] (vR o :: st) T σ K := R_aload_n (n := 0) (by decide +kernel) rfl
theorem s20_24 : Rn 20 24 L (vR o :: st) T σ K ↔ sx_kd T o = 6 ∧ ∃ t, sx_rf T o 0 = some t ∧ Rn 20 27 L (vR t :: st) T σ K := R_getR (idx := 9) (ci := 6) (k := 0) (by decide +kernel) (by decide +kernel) rfl
theorem s20_27 : Rn 20 27 [l0, some (vI a)] st T σ K ↔ Rn 20 28 [l0, some (vI a)] (vI a :: st) T σ K := R_iload_n (n := 1) (by decide +kernel) rfl
theorem s20_28 : Rn 20 28 L (vI a :: vR o :: st) T σ K ↔ (sx_kd T o = 20 ∧ 0 ≤ a ∧ a < sx_ln T o) ∧ Rn 20 29 L (vI (σ o a) :: st) T σ K := R_iald (by decide +kernel) (by decide)
theorem s20_29 : Rn 20 29 L [vI a] T σ K ↔ K (some (vI a)) T σ := R_ret (by decide +kernel) (by decide +kernel)
theorem s21_0 : Rn 21 0 L st T σ K ↔ Rn 21 1 L (vI 0 :: st) T σ K := R_iconst (n := 0) (by decide +kernel) (by decide)
theorem s21_1 : Rn 21 1 [l0, l1, l2] (vI a :: st) T σ K ↔ Rn 21 2 [l0, l1, some (vI a)] st T σ K := R_istore_n (n := 2) (by decide +kernel) rfl
theorem s21_2 : Rn 21 2 [l0, l1, some (vI a)] st T σ K ↔ Rn 21 3 [l0, l1, some (vI a)] (vI a :: st) T σ K := R_iload_n (n := 2) (by decide +kernel) rfl
theorem s21_3 : Rn 21 3 [l0, some (vR o), l2] st T σ K ↔ Rn 21 4 [l0, some (vR o), l2] (vR o :: st) T σ K := R_aload_n (n := 1) (by decide +kernel) rfl
theorem s21_4 : Rn 21 4 L (vR o :: st) T σ K ↔ (1000001 ≤ o ∧ o < 1000008 ∧ st.length ≤ 4) ∧ Rn 21 7 L (vI ((sx_str (o - 1000001)).length : Int) :: st) T σ K := R_slen (idx := 116) (by decide +kernel) (by decide +kernel) (by decide +kernel) (by decide +kernel)
theorem s21_7 : Rn 21 7 L (vI b :: vI a :: st) T σ K ↔ (b ≤ a → Rn 21 39 L st T σ K) ∧ (a < b → Rn 21 10 L st T σ K) := R_icmp_ge (off := 32) (by decide +kernel) (by decide)
theorem s21_10 : Rn 21 10 [some (vR o), l1, l2] st T σ K ↔ Rn 21 11 [some (vR o), l1, l2] (vR o :: st) T σ K := R_aload_n (n := 0) (by decide +kernel) rfl
theorem s21_11 : Rn 21 11 L (vR o :: st) T σ K ↔ sx_kd T o = 5 ∧ ∃ t, sx_rf T o 0 = some t ∧ Rn 21 14 L (vR t :: st) T σ K := R_getR (idx := 22) (ci := 5) (k := 0) (by decide +kernel) (by decide +kernel) rfl
theorem s21_14 : Rn 21 14 [some (vR o), l1, l2] st T σ K ↔ Rn 21 15 [some (vR o), l1, l2] (vR o :: st) T σ K := R_aload_n (n := 0) (by decide +kernel) rfl
theorem s21_15 : Rn 21 15 L (vR o :: st) T σ K ↔ sx_kd T o = 5 ∧ Rn 21 18 L (vI (σ o 7) :: st) T σ K := R_getI (idx := 26) (ci := 5) (k := 7) (by decide +kernel) (by decide +kernel) (Or.inl rfl)
theorem s21_18 : Rn 21 18 [l0, l1, some (vI a)] st T σ K ↔ Rn 21 19 [l0, l1, some (vI a)] (vI a :: st) T σ K := R_iload_n (n := 2) (by decide +kernel) rfl
theorem s21_19 : Rn 21 19 L (vI b :: vI a :: st) T σ K ↔ inI (a + b) ∧ Rn 21 20 L (vI (a + b) :: st) T σ K := R_iadd (by decide +kernel)
theorem s21_20 : Rn 21 20 L (vI a :: vR o :: st) T σ K ↔ (sx_kd T o = 6 ∧ st.length ≤ 4) ∧ Rn 20 0 [some (vR o), some (vI a)] [] T σ (fun r T' σ' => Rn 21 23 L (sx_push r st) T' σ' K) := R_V (cm := 20) (n := 1) (idx := 85) (ci := 6) (mx := 2) (vs := [vI a]) (by decide +kernel) (by decide +kernel) rfl (by decide +kernel) rfl (by decide +kernel) (by decide +kernel)
theorem s21_23 : Rn 21 23 [l0, some (vR o), l2] st T σ K ↔ Rn 21 24 [l0, some (vR o), l2] (vR o :: st) T σ K := R_aload_n (n := 1) (by decide +kernel) rfl
theorem s21_24 : Rn 21 24 [l0, l1, some (vI a)] st T σ K ↔ Rn 21 25 [l0, l1, some (vI a)] (vI a :: st) T σ K := R_iload_n (n := 2) (by decide +kernel) rfl
theorem s21_25 : Rn 21 25 L (vI a :: vR o :: st) T σ K ↔ (1000001 ≤ o ∧ o < 1000008 ∧ 0 ≤ a ∧ a < ((sx_str (o - 1000001)).length : Int) ∧ st.length ≤ 4) ∧ Rn 21 28 L (vI ((sx_str (o - 1000001)).getD a.toNat 0) :: st) T σ K := R_schr (idx := 123) (by decide +kernel) (by decide +kernel) (by decide +kernel) (by decide +kernel)
theorem s21_28 : Rn 21 28 L (vI b :: vI a :: st) T σ K ↔ (a = b → Rn 21 33 L st T σ K) ∧ (a ≠ b → Rn 21 31 L st T σ K) := R_icmp_eq (off := 5) (by decide +kernel) (by decide)
theorem s21_31 : Rn 21 31 L st T σ K ↔ Rn 21 32 L (vI 0 :: st) T σ K := R_iconst (n := 0) (by decide +kernel) (by decide)
theorem s21_32 : Rn 21 32 L [vI a] T σ K ↔ (a = 0 ∨ a = 1) ∧ K (some (vI a)) T σ := R_retZ (by decide +kernel) (by decide +kernel)
theorem s21_33 : Rn 21 33 [l0, l1, some (vI a)] st T σ K ↔ inI (a + 1) ∧ Rn 21 36 [l0, l1, some (vI (a + 1))] st T σ K := R_iinc (n := 2) (d := 1) (by decide +kernel) rfl
theorem s21_36 : Rn 21 36 L st T σ K ↔ Rn 21 2 L st T σ K := R_goto (off := -34) (by decide +kernel) (by decide)
theorem s21_39 : Rn 21 39 [some (vR o), l1, l2] st T σ K ↔ Rn 21 40 [some (vR o), l1, l2] (vR o :: st) T σ K := R_aload_n (n := 0) (by decide +kernel) rfl
theorem s21_40 : Rn 21 40 L (vR o :: st) T σ K ↔ sx_kd T o = 5 ∧ ∃ t, sx_rf T o 0 = some t ∧ Rn 21 43 L (vR t :: st) T σ K := R_getR (idx := 22) (ci := 5) (k := 0) (by decide +kernel) (by decide +kernel) rfl
theorem s21_43 : Rn 21 43 [some (vR o), l1, l2] st T σ K ↔ Rn 21 44 [some (vR o), l1, l2] (vR o :: st) T σ K := R_aload_n (n := 0) (by decide +kernel) rfl
theorem s21_44 : Rn 21 44 L (vR o :: st) T σ K ↔ sx_kd T o = 5 ∧ Rn 21 47 L (vI (σ o 7) :: st) T σ K := R_getI (idx := 26) (ci := 5) (k := 7) (by decide +kernel) (by decide +kernel) (Or.inl rfl)
theorem s21_47 : Rn 21 47 [l0, some (vR o), l2] st T σ K ↔ Rn 21 48 [l0, some (vR o), l2] (vR o :: st) T σ K := R_aload_n (n := 1) (by decide +kernel) rfl
theorem s21_48 : Rn 21 48 L (vR o :: st) T σ K ↔ (1000001 ≤ o ∧ o < 1000008 ∧ st.length ≤ 4) ∧ Rn 21 51 L (vI ((sx_str (o - 1000001)).length : Int) :: st) T σ K := R_slen (idx := 116) (by decide +kernel) (by decide +kernel) (by decide +kernel) (by decide +kernel)
theorem s21_51 : Rn 21 51 L (vI b :: vI a :: st) T σ K ↔ inI (a + b) ∧ Rn 21 52 L (vI (a + b) :: st) T σ K := R_iadd (by decide +kernel)
theorem s21_52 : Rn 21 52 L (vI a :: vR o :: st) T σ K ↔ (sx_kd T o = 6 ∧ st.length ≤ 4) ∧ Rn 20 0 [some (vR o), some (vI a)] [] T σ (fun r T' σ' => Rn 21 55 L (sx_push r st) T' σ' K) := R_V (cm := 20) (n := 1) (idx := 85) (ci := 6) (mx := 2) (vs := [vI a]) (by decide +kernel) (by decide +kernel) rfl (by decide +kernel) rfl (by decide +kernel) (by decide +kernel)
theorem s21_55 : Rn 21 55 L (vI a :: st) T σ K ↔ st.length ≤ 4 ∧ Rn 22 0 [some (vI a)] [] T σ (fun r T' σ' => Rn 21 58 L (sx_push r st) T' σ' K) := R_S (cm := 22) (n := 1) (idx := 91) (mx := 1) (vs := [vI a]) (by decide +kernel) (Or.inr (by decide +kernel)) rfl (by decide +kernel) rfl (by decide +kernel)
theorem s21_58 : Rn 21 58 L (vI a :: st) T σ K ↔ (a ≠ 0 → Rn 21 65 L st T σ K) ∧ (a = 0 → Rn 21 61 L st T σ K) := R_if_ne (off := 7) (by decide +kernel) (by decide)
theorem s21_61 : Rn 21 61 L st T σ K ↔ Rn 21 62 L (vI 1 :: st) T σ K := R_iconst (n := 1) (by decide +kernel) (by decide)
theorem s21_62 : Rn 21 62 L st T σ K ↔ Rn 21 66 L st T σ K := R_goto (off := 4) (by decide +kernel) (by decide)
theorem s21_65 : Rn 21 65 L st T σ K ↔ Rn 21 66 L (vI 0 :: st) T σ K := R_iconst (n := 0) (by decide +kernel) (by decide)
theorem s21_66 : Rn 21 66 L [vI a] T σ K ↔ (a = 0 ∨ a = 1) ∧ K (some (vI a)) T σ := R_retZ (by decide +kernel) (by decide +kernel)
theorem s22_0 : Rn 22 0 [some (vI a)] st T σ K ↔ Rn 22 1 [some (vI a)] (vI a :: st) T σ K := R_iload_n (n := 0) (by decide +kernel) rfl
theorem s22_1 : Rn 22 1 L st T σ K ↔ Rn 22 3 L (vI 97 :: st) T σ K := R_bipush (n := 97) (by decide +kernel) (by decide +kernel)
theorem s22_3 : Rn 22 3 L (vI b :: vI a :: st) T σ K ↔ (a < b → Rn 22 16 L st T σ K) ∧ (b ≤ a → Rn 22 6 L st T σ K) := R_icmp_lt (off := 13) (by decide +kernel) (by decide)
theorem s22_6 : Rn 22 6 [some (vI a)] st T σ K ↔ Rn 22 7 [some (vI a)] (vI a :: st) T σ K := R_iload_n (n := 0) (by decide +kernel) rfl
theorem s22_7 : Rn 22 7 L st T σ K ↔ Rn 22 9 L (vI 122 :: st) T σ K := R_bipush (n := 122) (by decide +kernel) (by decide +kernel)
theorem s22_9 : Rn 22 9 L (vI b :: vI a :: st) T σ K ↔ (b < a → Rn 22 16 L st T σ K) ∧ (a ≤ b → Rn 22 12 L st T σ K) := R_icmp_gt (off := 7) (by decide +kernel) (by decide)
theorem s22_12 : Rn 22 12 L st T σ K ↔ Rn 22 13 L (vI 1 :: st) T σ K := R_iconst (n := 1) (by decide +kernel) (by decide)
theorem s22_13 : Rn 22 13 L st T σ K ↔ Rn 22 17 L st T σ K := R_goto (off := 4) (by decide +kernel) (by decide)
theorem s22_16 : Rn 22 16 L st T σ K ↔ Rn 22 17 L (vI 0 :: st) T σ K := R_iconst (n := 0) (by decide +kernel) (by decide)
theorem s22_17 : Rn 22 17 L [vI a] T σ K ↔ (a = 0 ∨ a = 1) ∧ K (some (vI a)) T σ := R_retZ (by decide +kernel) (by decide +kernel)
theorem s23_0 : Rn 23 0 [some (vR o), l1, l2] st T σ K ↔ Rn 23 1 [some (vR o), l1, l2] (vR o :: st) T σ K := R_aload_n (n := 0) (by decide +kernel) rfl
theorem s23_1 : Rn 23 1 [l0, some (vI a), l2] st T σ K ↔ Rn 23 2 [l0, some (vI a), l2] (vI a :: st) T σ K := R_iload_n (n := 1) (by decide +kernel) rfl
theorem s23_2 : Rn 23 2 L (vI a :: vR o :: st) T σ K ↔ sx_kd T o = 5 ∧ Rn 23 5 L st T (sx_up σ o 5 a) K := R_putI (idx := 32) (ci := 5) (k := 5) (by decide +kernel) (by decide +kernel) rfl rfl
theorem s23_5 : Rn 23 5 [some (vR o), l1, l2] st T σ K ↔ Rn 23 6 [some (vR o), l1, l2] (vR o :: st) T σ K := R_aload_n (n := 0) (by decide +kernel) rfl
theorem s23_6 : Rn 23 6 [l0, l1, some (vI a)] st T σ K ↔ Rn 23 7 [l0, l1, some (vI a)] (vI a :: st) T σ K := R_iload_n (n := 2) (by decide +kernel) rfl
theorem s23_7 : Rn 23 7 L (vI a :: vR o :: st) T σ K ↔ sx_kd T o = 5 ∧ Rn 23 10 L st T (sx_up σ o 6 a) K := R_putI (idx := 18) (ci := 5) (k := 6) (by decide +kernel) (by decide +kernel) rfl rfl
theorem s23_10 : Rn 23 10 L st T σ K ↔ Rn 23 11 L (vI 0 :: st) T σ K := R_iconst (n := 0) (by decide +kernel) (by decide)
theorem s23_11 : Rn 23 11 L [vI a] T σ K ↔ (a = 0 ∨ a = 1) ∧ K (some (vI a)) T σ := R_retZ (by decide +kernel) (by decide +kernel)
theorem s24_0 : Rn 24 0 [some (vR o)] st T σ K ↔ Rn 24 1 [some (vR o)] (vR o :: st) T σ K := R_aload_n (n := 0) (by decide +kernel) rfl
theorem s24_1 : Rn 24 1 L (vR o :: st) T σ K ↔ (sx_kd T o = 5 ∧ st.length ≤ 4) ∧ Rn 19 0 [some (vR o)] [] T σ (fun r T' σ' => Rn 24 4 L (sx_push r st) T' σ' K) := R_V (cm := 19) (n := 0) (idx := 53) (ci := 5) (mx := 1) (vs := []) (by decide +kernel) (by decide +kernel) rfl (by decide +kernel) rfl (by decide +kernel) (by decide +kernel)
theorem s24_4 : Rn 24 4 [some (vR o)] st T σ K ↔ Rn 24 5 [some (vR o)] (vR o :: st) T σ K := R_aload_n (n := 0) (by decide +kernel) rfl
theorem s24_5 : Rn 24 5 L (vR o :: st) T σ K ↔ sx_kd T o = 5 ∧ ∃ t, sx_rf T o 0 = some t ∧ Rn 24 8 L (vR t :: st) T σ K := R_getR (idx := 22) (ci := 5) (k := 0) (by decide +kernel) (by decide +kernel) rfl
theorem s24_8 : Rn 24 8 [some (vR o)] st T σ K ↔ Rn 24 9 [some (vR o)] (vR o :: st) T σ K := R_aload_n (n := 0) (by decide +kernel) rfl
theorem s24_9 : Rn 24 9 L (vR o :: st) T σ K ↔ sx_kd T o = 5 ∧ Rn 24 12 L (vI (σ o 7) :: st) T σ K := R_getI (idx := 26) (ci := 5) (k := 7) (by decide +kernel) (by decide +kernel) (Or.inl rfl)
theorem s24_12 : Rn 24 12 L (vI a :: vR o :: st) T σ K ↔ (sx_kd T o = 6 ∧ st.length ≤ 4) ∧ Rn 20 0 [some (vR o), some (vI a)] [] T σ (fun r T' σ' => Rn 24 15 L (sx_push r st) T' σ' K) := R_V (cm := 20) (n := 1) (idx := 85) (ci := 6) (mx := 2) (vs := [vI a]) (by decide +kernel) (by decide +kernel) rfl (by decide +kernel) rfl (by decide +kernel) (by decide +kernel)
theorem s24_15 : Rn 24 15 L st T σ K ↔ Rn 24 17 L (vI 59 :: st) T σ K := R_bipush (n := 59) (by decide +kernel) (by decide +kernel)
theorem s24_17 : Rn 24 17 L (vI b :: vI a :: st) T σ K ↔ (a = b → Rn 24 30 L st T σ K) ∧ (a ≠ b → Rn 24 20 L st T σ K) := R_icmp_eq (off := 13) (by decide +kernel) (by decide)
theorem s24_20 : Rn 24 20 [some (vR o)] st T σ K ↔ Rn 24 21 [some (vR o)] (vR o :: st) T σ K := R_aload_n (n := 0) (by decide +kernel) rfl
theorem s24_21 : Rn 24 21 L st T σ K ↔ Rn 24 22 L (vI 1 :: st) T σ K := R_iconst (n := 1) (by decide +kernel) (by decide)
theorem s24_22 : Rn 24 22 [some (vR o)] st T σ K ↔ Rn 24 23 [some (vR o)] (vR o :: st) T σ K := R_aload_n (n := 0) (by decide +kernel) rfl
theorem s24_23 : Rn 24 23 L (vR o :: st) T σ K ↔ sx_kd T o = 5 ∧ Rn 24 26 L (vI (σ o 7) :: st) T σ K := R_getI (idx := 26) (ci := 5) (k := 7) (by decide +kernel) (by decide +kernel) (Or.inl rfl)
theorem s24_26 : Rn 24 26 L (vI b :: vI a :: vR o :: st) T σ K ↔ (sx_kd T o = 5 ∧ st.length ≤ 4) ∧ Rn 23 0 [some (vR o), some (vI a), some (vI b)] [] T σ (fun r T' σ' => Rn 24 29 L (sx_push r st) T' σ' K) := R_V (cm := 23) (n := 2) (idx := 73) (ci := 5) (mx := 3) (vs := [vI a, vI b]) (by decide +kernel) (by decide +kernel) rfl (by decide +kernel) rfl (by decide +kernel) (by decide +kernel)
theorem s24_29 : Rn 24 29 L [vI a] T σ K ↔ (a = 0 ∨ a = 1) ∧ K (some (vI a)) T σ := R_retZ (by decide +kernel) (by decide +kernel)
theorem s24_30 : Rn 24 30 [some (vR o)] st T σ K ↔ Rn 24 31 [some (vR o)] (vR o :: st) T σ K := R_aload_n (n := 0) (by decide +kernel) rfl
theorem s24_31 : Rn 24 31 L (vR o :: st) T σ K ↔ Rn 24 32 L (vR o :: vR o :: st) T σ K := R_dup (v := vR o) (by decide +kernel) rfl
theorem s24_32 : Rn 24 32 L (vR o :: st) T σ K ↔ sx_kd T o = 5 ∧ Rn 24 35 L (vI (σ o 7) :: st) T σ K := R_getI (idx := 26) (ci := 5) (k := 7) (by decide +kernel) (by decide +kernel) (Or.inl rfl)
theorem s24_35 : Rn 24 35 L st T σ K ↔ Rn 24 36 L (vI 1 :: st) T σ K := R_iconst (n := 1) (by decide +kernel) (by decide)
theorem s24_36 : Rn 24 36 L (vI b :: vI a :: st) T σ K ↔ inI (a + b) ∧ Rn 24 37 L (vI (a + b) :: st) T σ K := R_iadd (by decide +kernel)
theorem s24_37 : Rn 24 37 L (vI a :: vR o :: st) T σ K ↔ sx_kd T o = 5 ∧ Rn 24 40 L st T (sx_up σ o 7 a) K := R_putI (idx := 26) (ci := 5) (k := 7) (by decide +kernel) (by decide +kernel) rfl rfl
theorem s24_40 : Rn 24 40 L st T σ K ↔ Rn 24 41 L (vI 1 :: st) T σ K := R_iconst (n := 1) (by decide +kernel) (by decide)
theorem s24_41 : Rn 24 41 L [vI a] T σ K ↔ (a = 0 ∨ a = 1) ∧ K (some (vI a)) T σ := R_retZ (by decide +kernel) (by decide +kernel)
theorem s25_0 : Rn 25 0 [some (vR o)] st T σ K ↔ Rn 25 1 [some (vR o)] (vR o :: st) T σ K := R_aload_n (n := 0) (by decide +kernel) rfl
theorem s25_1 : Rn 25 1 L (vR o :: st) T σ K ↔ (sx_kd T o = 5 ∧ st.length ≤ 4) ∧ Rn 19 0 [some (vR o)] [] T σ (fun r T' σ' => Rn 25 4 L (sx_push r st) T' σ' K) := R_V (cm := 19) (n := 0) (idx := 53) (ci := 5) (mx := 1) (vs := []) (by decide +kernel) (by decide +kernel) rfl (by decide +kernel) rfl (by decide +kernel) (by decide +kernel)
theorem s25_4 : Rn 25 4 [some (vR o)] st T σ K ↔ Rn 25 5 [some (vR o)] (vR o :: st) T σ K := R_aload_n (n := 0) (by decide +kernel) rfl
theorem s25_5 : Rn 25 5 L (vR o :: st) T σ K ↔ sx_kd T o = 5 ∧ Rn 25 8 L (vI (σ o 7) :: st) T σ K := R_getI (idx := 26) (ci := 5) (k := 7) (by decide +kernel) (by decide +kernel) (Or.inl rfl)
theorem s25_8 : Rn 25 8 [some (vR o)] st T σ K ↔ Rn 25 9 [some (vR o)] (vR o :: st) T σ K := R_aload_n (n := 0) (by decide +kernel) rfl
theorem s25_9 : Rn 25 9 L (vR o :: st) T σ K ↔ sx_kd T o = 5 ∧ ∃ t, sx_rf T o 0 = some t ∧ Rn 25 12 L (vR t :: st) T σ K := R_getR (idx := 22) (ci := 5) (k := 0) (by decide +kernel) (by decide +kernel) rfl
theorem s25_12 : Rn 25 12 L (vR o :: st) T σ K ↔ sx_kd T o = 6 ∧ Rn 25 15 L (vI (σ o 1) :: st) T σ K := R_getI (idx := 121) (ci := 6) (k := 1) (by decide +kernel) (by decide +kernel) (Or.inl rfl)
theorem s25_15 : Rn 25 15 L (vI b :: vI a :: st) T σ K ↔ (b ≤ a → Rn 25 22 L st T σ K) ∧ (a < b → Rn 25 18 L st T σ K) := R_icmp_ge (off := 7) (by decide +kernel) (by decide)
theorem s25_18 : Rn 25 18 L st T σ K ↔ Rn 25 19 L (vI 1 :: st) T σ K := R_iconst (n := 1) (by decide +kernel) (by decide)
theorem s25_19 : Rn 25 19 L st T σ K ↔ Rn 25 23 L st T σ K := R_goto (off := 4) (by decide +kernel) (by decide)
theorem s25_22 : Rn 25 22 L st T σ K ↔ Rn 25 23 L (vI 0 :: st) T σ K := R_iconst (n := 0) (by decide +kernel) (by decide)
theorem s25_23 : Rn 25 23 L [vI a] T σ K ↔ (a = 0 ∨ a = 1) ∧ K (some (vI a)) T σ := R_retZ (by decide +kernel) (by decide +kernel)
theorem s26_0 : Rn 26 0 [some (vR o)] st T σ K ↔ Rn 26 1 [some (vR o)] (vR o :: st) T σ K := R_aload_n (n := 0) (by decide +kernel) rfl
theorem s26_1 : Rn 26 1 L (vR o :: st) T σ K ↔ sx_kd T o = 5 ∧ Rn 26 4 L (vI (σ o 4) :: st) T σ K := R_getI (idx := 29) (ci := 5) (k := 4) (by decide +kernel) (by decide +kernel) (Or.inl rfl)
theorem s26_4 : Rn 26 4 L st T σ K ↔ Rn 26 6 L (vI 40 :: st) T σ K := R_bipush (n := 40) (by decide +kernel) (by decide +kernel)
theorem s26_6 : Rn 26 6 L (vI b :: vI a :: st) T σ K ↔ (a < b → Rn 26 32 L st T σ K) ∧ (b ≤ a → Rn 26 9 L st T σ K) := R_icmp_lt (off := 26) (by decide +kernel) (by decide)
theorem s26_9 : Rn 26 9 [some (vR o)] st T σ K ↔ Rn 26 10 [some (vR o)] (vR o :: st) T σ K := R_aload_n (n := 0) (by decide +kernel) rfl
theorem s26_10 : Rn 26 10 [some (vR o)] st T σ K ↔ Rn 26 11 [some (vR o)] (vR o :: st) T σ K := R_aload_n (n := 0) (by decide +kernel) rfl
theorem s26_11 : Rn 26 11 L st T σ K ↔ Rn 26 13 L (vR 1000006 :: st) T σ K := R_ldcS (idx := 71) (j := 5) (by decide +kernel) (by decide +kernel) (by decide) rfl
theorem s26_13 : Rn 26 13 L (vR p :: vR o :: st) T σ K ↔ (sx_kd T o = 5 ∧ st.length ≤ 4) ∧ Rn 21 0 [some (vR o), some (vR p), none] [] T σ (fun r T' σ' => Rn 26 16 L (sx_push r st) T' σ' K) := R_V (cm := 21) (n := 1) (idx := 58) (ci := 5) (mx := 3) (vs := [vR p]) (by decide +kernel) (by decide +kernel) rfl (by decide +kernel) rfl (by decide +kernel) (by decide +kernel)
theorem s26_16 : Rn 26 16 L (vI a :: st) T σ K ↔ (a = 0 → Rn 26 23 L st T σ K) ∧ (a ≠ 0 → Rn 26 19 L st T σ K) := R_if_eq (off := 7) (by decide +kernel) (by decide)
theorem s26_19 : Rn 26 19 L st T σ K ↔ Rn 26 20 L (vI 5 :: st) T σ K := R_iconst (n := 5) (by decide +kernel) (by decide)
theorem s26_20 : Rn 26 20 L st T σ K ↔ Rn 26 24 L st T σ K := R_goto (off := 4) (by decide +kernel) (by decide)
theorem s26_23 : Rn 26 23 L st T σ K ↔ Rn 26 24 L (vI 1 :: st) T σ K := R_iconst (n := 1) (by decide +kernel) (by decide)
theorem s26_24 : Rn 26 24 [some (vR o)] st T σ K ↔ Rn 26 25 [some (vR o)] (vR o :: st) T σ K := R_aload_n (n := 0) (by decide +kernel) rfl
theorem s26_25 : Rn 26 25 L (vR o :: st) T σ K ↔ sx_kd T o = 5 ∧ Rn 26 28 L (vI (σ o 7) :: st) T σ K := R_getI (idx := 26) (ci := 5) (k := 7) (by decide +kernel) (by decide +kernel) (Or.inl rfl)
theorem s26_28 : Rn 26 28 L (vI b :: vI a :: vR o :: st) T σ K ↔ (sx_kd T o = 5 ∧ st.length ≤ 4) ∧ Rn 23 0 [some (vR o), some (vI a), some (vI b)] [] T σ (fun r T' σ' => Rn 26 31 L (sx_push r st) T' σ' K) := R_V (cm := 23) (n := 2) (idx := 73) (ci := 5) (mx := 3) (vs := [vI a, vI b]) (by decide +kernel) (by decide +kernel) rfl (by decide +kernel) rfl (by decide +kernel) (by decide +kernel)
theorem s26_31 : Rn 26 31 L [vI a] T σ K ↔ (a = 0 ∨ a = 1) ∧ K (some (vI a)) T σ := R_retZ (by decide +kernel) (by decide +kernel)
theorem s26_32 : Rn 26 32 [some (vR o)] st T σ K ↔ Rn 26 33 [some (vR o)] (vR o :: st) T σ K := R_aload_n (n := 0) (by decide +kernel) rfl
theorem s26_33 : Rn 26 33 L st T σ K ↔ Rn 26 35 L (vR 1000006 :: st) T σ K := R_ldcS (idx := 71) (j := 5) (by decide +kernel) (by decide +kernel) (by decide) rfl
theorem s26_35 : Rn 26 35 L (vR p :: vR o :: st) T σ K ↔ (sx_kd T o = 5 ∧ st.length ≤ 4) ∧ Rn 18 0 [some (vR o), some (vR p)] [] T σ (fun r T' σ' => Rn 26 38 L (sx_push r st) T' σ' K) := R_V (cm := 18) (n := 1) (idx := 47) (ci := 5) (mx := 2) (vs := [vR p]) (by decide +kernel) (by decide +kernel) rfl (by decide +kernel) rfl (by decide +kernel) (by decide +kernel)
theorem s26_38 : Rn 26 38 L (vI a :: st) T σ K ↔ (a = 0 → Rn 26 71 L st T σ K) ∧ (a ≠ 0 → Rn 26 41 L st T σ K) := R_if_eq (off := 33) (by decide +kernel) (by decide)
theorem s26_41 : Rn 26 41 [some (vR o)] st T σ K ↔ Rn 26 42 [some (vR o)] (vR o :: st) T σ K := R_aload_n (n := 0) (by decide +kernel) rfl
theorem s26_42 : Rn 26 42 L (vR o :: st) T σ K ↔ (sx_kd T o = 5 ∧ st.length ≤ 4) ∧ Rn 27 0 [some (vR o), none, none, none] [] T σ (fun r T' σ' => Rn 26 45 L (sx_push r st) T' σ' K) := R_V (cm := 27) (n := 0) (idx := 77) (ci := 5) (mx := 4) (vs := []) (by decide +kernel) (by decide +kernel) rfl (by decide +kernel) rfl (by decide +kernel) (by decide +kernel)
theorem s26_45 : Rn 26 45 L (vI a :: st) T σ K ↔ (a = 0 → Rn 26 71 L st T σ K) ∧ (a ≠ 0 → Rn 26 48 L st T σ K) := R_if_eq (off := 26) (by decide +kernel) (by decide)
theorem s26_48 : Rn 26 48 [some (vR o)] st T σ K ↔ Rn 26 49 [some (vR o)] (vR o :: st) T σ K := R_aload_n (n := 0) (by decide +kernel) rfl
theorem s26_49 : Rn 26 49 L st T σ K ↔ Rn 26 51 L (vR 1000007 :: st) T σ K := R_ldcS (idx := 80) (j := 6) (by decide +kernel) (by decide +kernel) (by decide) rfl
theorem s26_51 : Rn 26 51 L (vR p :: vR o :: st) T σ K ↔ (sx_kd T o = 5 ∧ st.length ≤ 4) ∧ Rn 18 0 [some (vR o), some (vR p)] [] T σ (fun r T' σ' => Rn 26 54 L (sx_push r st) T' σ' K) := R_V (cm := 18) (n := 1) (idx := 47) (ci := 5) (mx := 2) (vs := [vR p]) (by decide +kernel) (by decide +kernel) rfl (by decide +kernel) rfl (by decide +kernel) (by decide +kernel)
theorem s26_54 : Rn 26 54 L (vI a :: st) T σ K ↔ (a = 0 → Rn 26 71 L st T σ K) ∧ (a ≠ 0 → Rn 26 57 L st T σ K) := R_if_eq (off := 17) (by decide +kernel) (by decide)
theorem s26_57 : Rn 26 57 [some (vR o)] st T σ K ↔ Rn 26 58 [some (vR o)] (vR o :: st) T σ K := R_aload_n (n := 0) (by decide +kernel) rfl
theorem s26_58 : Rn 26 58 L (vR o :: st) T σ K ↔ (sx_kd T o = 5 ∧ st.length ≤ 4) ∧ Rn 30 0 [some (vR o), none, none, none, none, none] [] T σ (fun r T' σ' => Rn 26 61 L (sx_push r st) T' σ' K) := R_V (cm := 30) (n := 0) (idx := 82) (ci := 5) (mx := 6) (vs := []) (by decide +kernel) (by decide +kernel) rfl (by decide +kernel) rfl (by decide +kernel) (by decide +kernel)
theorem s26_61 : Rn 26 61 L (vI a :: st) T σ K ↔ (a = 0 → Rn 26 71 L st T σ K) ∧ (a ≠ 0 → Rn 26 64 L st T σ K) := R_if_eq (off := 10) (by decide +kernel) (by decide)
theorem s26_64 : Rn 26 64 [some (vR o)] st T σ K ↔ Rn 26 65 [some (vR o)] (vR o :: st) T σ K := R_aload_n (n := 0) (by decide +kernel) rfl
theorem s26_65 : Rn 26 65 L (vR o :: st) T σ K ↔ (sx_kd T o = 5 ∧ st.length ≤ 4) ∧ Rn 24 0 [some (vR o)] [] T σ (fun r T' σ' => Rn 26 68 L (sx_push r st) T' σ' K) := R_V (cm := 24) (n := 0) (idx := 64) (ci := 5) (mx := 1) (vs := []) (by decide +kernel) (by decide +kernel) rfl (by decide +kernel) rfl (by decide +kernel) (by decide +kernel)
theorem s26_68 : Rn 26 68 L (vI a :: st) T σ K ↔ (a ≠ 0 → Rn 26 73 L st T σ K) ∧ (a = 0 → Rn 26 71 L st T σ K) := R_if_ne (off := 5) (by decide +kernel) (by decide)
theorem s26_71 : Rn 26 71 L st T σ K ↔ Rn 26 72 L (vI 0 :: st) T σ K := R_iconst (n := 0) (by decide +kernel) (by decide)
theorem s26_72 : Rn 26 72 L [vI a] T σ K ↔ (a = 0 ∨ a = 1) ∧ K (some (vI a)) T σ := R_retZ (by decide +kernel) (by decide +kernel)
theorem s26_73 : Rn 26 73 [some (vR o)] st T σ K ↔ Rn 26 74 [some (vR o)] (vR o :: st) T σ K := R_aload_n (n := 0) (by decide +kernel) rfl
theorem s26_74 : Rn 26 74 L (vR o :: st) T σ K ↔ Rn 26 75 L (vR o :: vR o :: st) T σ K := R_dup (v := vR o) (by decide +kernel) rfl
theorem s26_75 : Rn 26 75 L (vR o :: st) T σ K ↔ sx_kd T o = 5 ∧ Rn 26 78 L (vI (σ o 4) :: st) T σ K := R_getI (idx := 29) (ci := 5) (k := 4) (by decide +kernel) (by decide +kernel) (Or.inl rfl)
theorem s26_78 : Rn 26 78 L st T σ K ↔ Rn 26 79 L (vI 1 :: st) T σ K := R_iconst (n := 1) (by decide +kernel) (by decide)
theorem s26_79 : Rn 26 79 L (vI b :: vI a :: st) T σ K ↔ inI (a + b) ∧ Rn 26 80 L (vI (a + b) :: st) T σ K := R_iadd (by decide +kernel)
theorem s26_80 : Rn 26 80 L (vI a :: vR o :: st) T σ K ↔ sx_kd T o = 5 ∧ Rn 26 83 L st T (sx_up σ o 4 a) K := R_putI (idx := 29) (ci := 5) (k := 4) (by decide +kernel) (by decide +kernel) rfl rfl
theorem s26_83 : Rn 26 83 L st T σ K ↔ Rn 26 84 L (vI 1 :: st) T σ K := R_iconst (n := 1) (by decide +kernel) (by decide)
theorem s26_84 : Rn 26 84 L [vI a] T σ K ↔ (a = 0 ∨ a = 1) ∧ K (some (vI a)) T σ := R_retZ (by decide +kernel) (by decide +kernel)
theorem s27_0 : Rn 27 0 [some (vR o), l1, l2, l3] st T σ K ↔ Rn 27 1 [some (vR o), l1, l2, l3] (vR o :: st) T σ K := R_aload_n (n := 0) (by decide +kernel) rfl
theorem s27_1 : Rn 27 1 L (vR o :: st) T σ K ↔ (sx_kd T o = 5 ∧ st.length ≤ 4) ∧ Rn 19 0 [some (vR o)] [] T σ (fun r T' σ' => Rn 27 4 L (sx_push r st) T' σ' K) := R_V (cm := 19) (n := 0) (idx := 53) (ci := 5) (mx := 1) (vs := []) (by decide +kernel) (by decide +kernel) rfl (by decide +kernel) rfl (by decide +kernel) (by decide +kernel)
theorem s27_4 : Rn 27 4 [some (vR o), l1, l2, l3] st T σ K ↔ Rn 27 5 [some (vR o), l1, l2, l3] (vR o :: st) T σ K := R_aload_n (n := 0) (by decide +kernel) rfl
theorem s27_5 : Rn 27 5 L (vR o :: st) T σ K ↔ sx_kd T o = 5 ∧ Rn 27 8 L (vI (σ o 7) :: st) T σ K := R_getI (idx := 26) (ci := 5) (k := 7) (by decide +kernel) (by decide +kernel) (Or.inl rfl)
theorem s27_8 : Rn 27 8 [l0, l1, l2, l3] (vI a :: st) T σ K ↔ Rn 27 9 [l0, some (vI a), l2, l3] st T σ K := R_istore_n (n := 1) (by decide +kernel) rfl
theorem s27_9 : Rn 27 9 [some (vR o), l1, l2, l3] st T σ K ↔ Rn 27 10 [some (vR o), l1, l2, l3] (vR o :: st) T σ K := R_aload_n (n := 0) (by decide +kernel) rfl
theorem s27_10 : Rn 27 10 L (vR o :: st) T σ K ↔ sx_kd T o = 5 ∧ ∃ t, sx_rf T o 0 = some t ∧ Rn 27 13 L (vR t :: st) T σ K := R_getR (idx := 22) (ci := 5) (k := 0) (by decide +kernel) (by decide +kernel) rfl
theorem s27_13 : Rn 27 13 [l0, some (vI a), l2, l3] st T σ K ↔ Rn 27 14 [l0, some (vI a), l2, l3] (vI a :: st) T σ K := R_iload_n (n := 1) (by decide +kernel) rfl
theorem s27_14 : Rn 27 14 L (vI a :: vR o :: st) T σ K ↔ (sx_kd T o = 6 ∧ st.length ≤ 4) ∧ Rn 20 0 [some (vR o), some (vI a)] [] T σ (fun r T' σ' => Rn 27 17 L (sx_push r st) T' σ' K) := R_V (cm := 20) (n := 1) (idx := 85) (ci := 6) (mx := 2) (vs := [vI a]) (by decide +kernel) (by decide +kernel) rfl (by decide +kernel) rfl (by decide +kernel) (by decide +kernel)
theorem s27_17 : Rn 27 17 L (vI a :: st) T σ K ↔ st.length ≤ 4 ∧ Rn 22 0 [some (vI a)] [] T σ (fun r T' σ' => Rn 27 20 L (sx_push r st) T' σ' K) := R_S (cm := 22) (n := 1) (idx := 91) (mx := 1) (vs := [vI a]) (by decide +kernel) (Or.inr (by decide +kernel)) rfl (by decide +kernel) rfl (by decide +kernel)
theorem s27_20 : Rn 27 20 L (vI a :: st) T σ K ↔ (a = 0 → Rn 27 30 L st T σ K) ∧ (a ≠ 0 → Rn 27 23 L st T σ K) := R_if_eq (off := 10) (by decide +kernel) (by decide)
theorem s27_23 : Rn 27 23 [some (vR o), l1, l2, l3] st T σ K ↔ Rn 27 24 [some (vR o), l1, l2, l3] (vR o :: st) T σ K := R_aload_n (n := 0) (by decide +kernel) rfl
theorem s27_24 : Rn 27 24 L (vR o :: st) T σ K ↔ (sx_kd T o = 5 ∧ st.length ≤ 4) ∧ Rn 28 0 [some (vR o)] [] T σ (fun r T' σ' => Rn 27 27 L (sx_push r st) T' σ' K) := R_V (cm := 28) (n := 0) (idx := 95) (ci := 5) (mx := 1) (vs := []) (by decide +kernel) (by decide +kernel) rfl (by decide +kernel) rfl (by decide +kernel) (by decide +kernel)
theorem s27_27 : Rn 27 27 L (vI a :: st) T σ K ↔ (a = 0 → Rn 27 37 L st T σ K) ∧ (a ≠ 0 → Rn 27 30 L st T σ K) := R_if_eq (off := 10) (by decide +kernel) (by decide)
theorem s27_30 : Rn 27 30 [some (vR o), l1, l2, l3] st T σ K ↔ Rn 27 31 [some (vR o), l1, l2, l3] (vR o :: st) T σ K := R_aload_n (n := 0) (by decide +kernel) rfl
theorem s27_31 : Rn 27 31 L st T σ K ↔ Rn 27 32 L (vI 1 :: st) T σ K := R_iconst (n := 1) (by decide +kernel) (by decide)
theorem s27_32 : Rn 27 32 [l0, some (vI a), l2, l3] st T σ K ↔ Rn 27 33 [l0, some (vI a), l2, l3] (vI a :: st) T σ K := R_iload_n (n := 1) (by decide +kernel) rfl
theorem s27_33 : Rn 27 33 L (vI b :: vI a :: vR o :: st) T σ K ↔ (sx_kd T o = 5 ∧ st.length ≤ 4) ∧ Rn 23 0 [some (vR o), some (vI a), some (vI b)] [] T σ (fun r T' σ' => Rn 27 36 L (sx_push r st) T' σ' K) := R_V (cm := 23) (n := 2) (idx := 73) (ci := 5) (mx := 3) (vs := [vI a, vI b]) (by decide +kernel) (by decide +kernel) rfl (by decide +kernel) rfl (by decide +kernel) (by decide +kernel)
theorem s27_36 : Rn 27 36 L [vI a] T σ K ↔ (a = 0 ∨ a = 1) ∧ K (some (vI a)) T σ := R_retZ (by decide +kernel) (by decide +kernel)
theorem s27_37 : Rn 27 37 L st T σ K ↔ Rn 27 38 L (vI 0 :: st) T σ K := R_iconst (n := 0) (by decide +kernel) (by decide)
theorem s27_38 : Rn 27 38 [l0, l1, l2, l3] (vI a :: st) T σ K ↔ Rn 27 39 [l0, l1, some (vI a), l3] st T σ K := R_istore_n (n := 2) (by decide +kernel) rfl
theorem s27_39 : Rn 27 39 L st T σ K ↔ Rn 27 40 L (vI 0 :: st) T σ K := R_iconst (n := 0) (by decide +kernel) (by decide)
theorem s27_40 : Rn 27 40 [l0, l1, l2, l3] (vI a :: st) T σ K ↔ Rn 27 41 [l0, l1, l2, some (vI a)] st T σ K := R_istore_n (n := 3) (by decide +kernel) rfl
theorem s27_41 : Rn 27 41 [l0, l1, l2, some (vI a)] st T σ K ↔ Rn 27 42 [l0, l1, l2, some (vI a)] (vI a :: st) T σ K := R_iload_n (n := 3) (by decide +kernel) rfl
theorem s27_42 : Rn 27 42 L st T σ K ↔ Rn 27 44 L (vI 6 :: st) T σ K := R_bipush (n := 6) (by decide +kernel) (by decide +kernel)
theorem s27_44 : Rn 27 44 L (vI b :: vI a :: st) T σ K ↔ (b ≤ a → Rn 27 103 L st T σ K) ∧ (a < b → Rn 27 47 L st T σ K) := R_icmp_ge (off := 59) (by decide +kernel) (by decide)
theorem s27_47 : Rn 27 47 [some (vR o), l1, l2, l3] st T σ K ↔ Rn 27 48 [some (vR o), l1, l2, l3] (vR o :: st) T σ K := R_aload_n (n := 0) (by decide +kernel) rfl
theorem s27_48 : Rn 27 48 L (vR o :: st) T σ K ↔ sx_kd T o = 5 ∧ ∃ t, sx_rf T o 0 = some t ∧ Rn 27 51 L (vR t :: st) T σ K := R_getR (idx := 22) (ci := 5) (k := 0) (by decide +kernel) (by decide +kernel) rfl
theorem s27_51 : Rn 27 51 [some (vR o), l1, l2, l3] st T σ K ↔ Rn 27 52 [some (vR o), l1, l2, l3] (vR o :: st) T σ K := R_aload_n (n := 0) (by decide +kernel) rfl
theorem s27_52 : Rn 27 52 L (vR o :: st) T σ K ↔ sx_kd T o = 5 ∧ Rn 27 55 L (vI (σ o 7) :: st) T σ K := R_getI (idx := 26) (ci := 5) (k := 7) (by decide +kernel) (by decide +kernel) (Or.inl rfl)
theorem s27_55 : Rn 27 55 L (vI a :: vR o :: st) T σ K ↔ (sx_kd T o = 6 ∧ st.length ≤ 4) ∧ Rn 20 0 [some (vR o), some (vI a)] [] T σ (fun r T' σ' => Rn 27 58 L (sx_push r st) T' σ' K) := R_V (cm := 20) (n := 1) (idx := 85) (ci := 6) (mx := 2) (vs := [vI a]) (by decide +kernel) (by decide +kernel) rfl (by decide +kernel) rfl (by decide +kernel) (by decide +kernel)
theorem s27_58 : Rn 27 58 L (vI a :: st) T σ K ↔ st.length ≤ 4 ∧ Rn 22 0 [some (vI a)] [] T σ (fun r T' σ' => Rn 27 61 L (sx_push r st) T' σ' K) := R_S (cm := 22) (n := 1) (idx := 91) (mx := 1) (vs := [vI a]) (by decide +kernel) (Or.inr (by decide +kernel)) rfl (by decide +kernel) rfl (by decide +kernel)
theorem s27_61 : Rn 27 61 L (vI a :: st) T σ K ↔ (a = 0 → Rn 27 103 L st T σ K) ∧ (a ≠ 0 → Rn 27 64 L st T σ K) := R_if_eq (off := 42) (by decide +kernel) (by decide)
theorem s27_64 : Rn 27 64 [l0, l1, some (vI a), l3] st T σ K ↔ Rn 27 65 [l0, l1, some (vI a), l3] (vI a :: st) T σ K := R_iload_n (n := 2) (by decide +kernel) rfl
theorem s27_65 : Rn 27 65 [some (vR o), l1, l2, l3] st T σ K ↔ Rn 27 66 [some (vR o), l1, l2, l3] (vR o :: st) T σ K := R_aload_n (n := 0) (by decide +kernel) rfl
theorem s27_66 : Rn 27 66 L (vR o :: st) T σ K ↔ sx_kd T o = 5 ∧ ∃ t, sx_rf T o 0 = some t ∧ Rn 27 69 L (vR t :: st) T σ K := R_getR (idx := 22) (ci := 5) (k := 0) (by decide +kernel) (by decide +kernel) rfl
theorem s27_69 : Rn 27 69 [some (vR o), l1, l2, l3] st T σ K ↔ Rn 27 70 [some (vR o), l1, l2, l3] (vR o :: st) T σ K := R_aload_n (n := 0) (by decide +kernel) rfl
theorem s27_70 : Rn 27 70 L (vR o :: st) T σ K ↔ sx_kd T o = 5 ∧ Rn 27 73 L (vI (σ o 7) :: st) T σ K := R_getI (idx := 26) (ci := 5) (k := 7) (by decide +kernel) (by decide +kernel) (Or.inl rfl)
theorem s27_73 : Rn 27 73 L (vI a :: vR o :: st) T σ K ↔ (sx_kd T o = 6 ∧ st.length ≤ 4) ∧ Rn 20 0 [some (vR o), some (vI a)] [] T σ (fun r T' σ' => Rn 27 76 L (sx_push r st) T' σ' K) := R_V (cm := 20) (n := 1) (idx := 85) (ci := 6) (mx := 2) (vs := [vI a]) (by decide +kernel) (by decide +kernel) rfl (by decide +kernel) rfl (by decide +kernel) (by decide +kernel)
theorem s27_76 : Rn 27 76 L st T σ K ↔ Rn 27 78 L (vI 97 :: st) T σ K := R_bipush (n := 97) (by decide +kernel) (by decide +kernel)
theorem s27_78 : Rn 27 78 L (vI b :: vI a :: st) T σ K ↔ inI (a - b) ∧ Rn 27 79 L (vI (a - b) :: st) T σ K := R_isub (by decide +kernel)
theorem s27_79 : Rn 27 79 L st T σ K ↔ Rn 27 80 L (vI 1 :: st) T σ K := R_iconst (n := 1) (by decide +kernel) (by decide)
theorem s27_80 : Rn 27 80 L (vI b :: vI a :: st) T σ K ↔ inI (a + b) ∧ Rn 27 81 L (vI (a + b) :: st) T σ K := R_iadd (by decide +kernel)
theorem s27_81 : Rn 27 81 L st T σ K ↔ Rn 27 82 L (vI 5 :: st) T σ K := R_iconst (n := 5) (by decide +kernel) (by decide)
theorem s27_82 : Rn 27 82 [l0, l1, l2, some (vI a)] st T σ K ↔ Rn 27 83 [l0, l1, l2, some (vI a)] (vI a :: st) T σ K := R_iload_n (n := 3) (by decide +kernel) rfl
theorem s27_83 : Rn 27 83 L (vI b :: vI a :: st) T σ K ↔ inI (a * b) ∧ Rn 27 84 L (vI (a * b) :: st) T σ K := R_imul (by decide +kernel)
theorem s27_84 : Rn 27 84 L (vI b :: vI a :: st) T σ K ↔ (0 ≤ b ∧ b ≤ 31) ∧ inI (a * 2 ^ b.toNat) ∧ Rn 27 85 L (vI (a * 2 ^ b.toNat) :: st) T σ K := R_ishl (by decide +kernel)
theorem s27_85 : Rn 27 85 L (vI b :: vI a :: st) T σ K ↔ Rn 27 86 L (vI (sx_or a b) :: st) T σ K := R_ior (by decide +kernel)
theorem s27_86 : Rn 27 86 [l0, l1, l2, l3] (vI a :: st) T σ K ↔ Rn 27 87 [l0, l1, some (vI a), l3] st T σ K := R_istore_n (n := 2) (by decide +kernel) rfl
theorem s27_87 : Rn 27 87 [some (vR o), l1, l2, l3] st T σ K ↔ Rn 27 88 [some (vR o), l1, l2, l3] (vR o :: st) T σ K := R_aload_n (n := 0) (by decide +kernel) rfl
theorem s27_88 : Rn 27 88 L (vR o :: st) T σ K ↔ Rn 27 89 L (vR o :: vR o :: st) T σ K := R_dup (v := vR o) (by decide +kernel) rfl
theorem s27_89 : Rn 27 89 L (vR o :: st) T σ K ↔ sx_kd T o = 5 ∧ Rn 27 92 L (vI (σ o 7) :: st) T σ K := R_getI (idx := 26) (ci := 5) (k := 7) (by decide +kernel) (by decide +kernel) (Or.inl rfl)
theorem s27_92 : Rn 27 92 L st T σ K ↔ Rn 27 93 L (vI 1 :: st) T σ K := R_iconst (n := 1) (by decide +kernel) (by decide)
theorem s27_93 : Rn 27 93 L (vI b :: vI a :: st) T σ K ↔ inI (a + b) ∧ Rn 27 94 L (vI (a + b) :: st) T σ K := R_iadd (by decide +kernel)
theorem s27_94 : Rn 27 94 L (vI a :: vR o :: st) T σ K ↔ sx_kd T o = 5 ∧ Rn 27 97 L st T (sx_up σ o 7 a) K := R_putI (idx := 26) (ci := 5) (k := 7) (by decide +kernel) (by decide +kernel) rfl rfl
theorem s27_97 : Rn 27 97 [l0, l1, l2, some (vI a)] st T σ K ↔ inI (a + 1) ∧ Rn 27 100 [l0, l1, l2, some (vI (a + 1))] st T σ K := R_iinc (n := 3) (d := 1) (by decide +kernel) rfl
theorem s27_100 : Rn 27 100 L st T σ K ↔ Rn 27 41 L st T σ K := R_goto (off := -59) (by decide +kernel) (by decide)
theorem s27_103 : Rn 27 103 [some (vR o), l1, l2, l3] st T σ K ↔ Rn 27 104 [some (vR o), l1, l2, l3] (vR o :: st) T σ K := R_aload_n (n := 0) (by decide +kernel) rfl
theorem s27_104 : Rn 27 104 L (vR o :: st) T σ K ↔ sx_kd T o = 5 ∧ ∃ t, sx_rf T o 0 = some t ∧ Rn 27 107 L (vR t :: st) T σ K := R_getR (idx := 22) (ci := 5) (k := 0) (by decide +kernel) (by decide +kernel) rfl
theorem s27_107 : Rn 27 107 [some (vR o), l1, l2, l3] st T σ K ↔ Rn 27 108 [some (vR o), l1, l2, l3] (vR o :: st) T σ K := R_aload_n (n := 0) (by decide +kernel) rfl
theorem s27_108 : Rn 27 108 L (vR o :: st) T σ K ↔ sx_kd T o = 5 ∧ Rn 27 111 L (vI (σ o 7) :: st) T σ K := R_getI (idx := 26) (ci := 5) (k := 7) (by decide +kernel) (by decide +kernel) (Or.inl rfl)
theorem s27_111 : Rn 27 111 L (vI a :: vR o :: st) T σ K ↔ (sx_kd T o = 6 ∧ st.length ≤ 4) ∧ Rn 20 0 [some (vR o), some (vI a)] [] T σ (fun r T' σ' => Rn 27 114 L (sx_push r st) T' σ' K) := R_V (cm := 20) (n := 1) (idx := 85) (ci := 6) (mx := 2) (vs := [vI a]) (by decide +kernel) (by decide +kernel) rfl (by decide +kernel) rfl (by decide +kernel) (by decide +kernel)
theorem s27_114 : Rn 27 114 L (vI a :: st) T σ K ↔ st.length ≤ 4 ∧ Rn 22 0 [some (vI a)] [] T σ (fun r T' σ' => Rn 27 117 L (sx_push r st) T' σ' K) := R_S (cm := 22) (n := 1) (idx := 91) (mx := 1) (vs := [vI a]) (by decide +kernel) (Or.inr (by decide +kernel)) rfl (by decide +kernel) rfl (by decide +kernel)
theorem s27_117 : Rn 27 117 L (vI a :: st) T σ K ↔ (a = 0 → Rn 27 130 L st T σ K) ∧ (a ≠ 0 → Rn 27 120 L st T σ K) := R_if_eq (off := 13) (by decide +kernel) (by decide)
theorem s27_120 : Rn 27 120 [some (vR o), l1, l2, l3] st T σ K ↔ Rn 27 121 [some (vR o), l1, l2, l3] (vR o :: st) T σ K := R_aload_n (n := 0) (by decide +kernel) rfl
theorem s27_121 : Rn 27 121 L st T σ K ↔ Rn 27 122 L (vI 1 :: st) T σ K := R_iconst (n := 1) (by decide +kernel) (by decide)
theorem s27_122 : Rn 27 122 [some (vR o), l1, l2, l3] st T σ K ↔ Rn 27 123 [some (vR o), l1, l2, l3] (vR o :: st) T σ K := R_aload_n (n := 0) (by decide +kernel) rfl
theorem s27_123 : Rn 27 123 L (vR o :: st) T σ K ↔ sx_kd T o = 5 ∧ Rn 27 126 L (vI (σ o 7) :: st) T σ K := R_getI (idx := 26) (ci := 5) (k := 7) (by decide +kernel) (by decide +kernel) (Or.inl rfl)
theorem s27_126 : Rn 27 126 L (vI b :: vI a :: vR o :: st) T σ K ↔ (sx_kd T o = 5 ∧ st.length ≤ 4) ∧ Rn 23 0 [some (vR o), some (vI a), some (vI b)] [] T σ (fun r T' σ' => Rn 27 129 L (sx_push r st) T' σ' K) := R_V (cm := 23) (n := 2) (idx := 73) (ci := 5) (mx := 3) (vs := [vI a, vI b]) (by decide +kernel) (by decide +kernel) rfl (by decide +kernel) rfl (by decide +kernel) (by decide +kernel)
theorem s27_129 : Rn 27 129 L [vI a] T σ K ↔ (a = 0 ∨ a = 1) ∧ K (some (vI a)) T σ := R_retZ (by decide +kernel) (by decide +kernel)
theorem s27_130 : Rn 27 130 [some (vR o), l1, l2, l3] st T σ K ↔ Rn 27 131 [some (vR o), l1, l2, l3] (vR o :: st) T σ K := R_aload_n (n := 0) (by decide +kernel) rfl
theorem s27_131 : Rn 27 131 [some (vR o), l1, l2, l3] st T σ K ↔ Rn 27 132 [some (vR o), l1, l2, l3] (vR o :: st) T σ K := R_aload_n (n := 0) (by decide +kernel) rfl
theorem s27_132 : Rn 27 132 L (vR o :: st) T σ K ↔ sx_kd T o = 5 ∧ ∃ t, sx_rf T o 2 = some t ∧ Rn 27 135 L (vR t :: st) T σ K := R_getR (idx := 15) (ci := 5) (k := 2) (by decide +kernel) (by decide +kernel) rfl
theorem s27_135 : Rn 27 135 [l0, l1, some (vI a), l3] st T σ K ↔ Rn 27 136 [l0, l1, some (vI a), l3] (vI a :: st) T σ K := R_iload_n (n := 2) (by decide +kernel) rfl
theorem s27_136 : Rn 27 136 L (vI a :: vR p :: vR o :: st) T σ K ↔ (sx_kd T o = 5 ∧ st.length ≤ 4) ∧ Rn 29 0 [some (vR o), some (vR p), some (vI a), none] [] T σ (fun r T' σ' => Rn 27 139 L (sx_push r st) T' σ' K) := R_V (cm := 29) (n := 2) (idx := 98) (ci := 5) (mx := 4) (vs := [vR p, vI a]) (by decide +kernel) (by decide +kernel) rfl (by decide +kernel) rfl (by decide +kernel) (by decide +kernel)
theorem s27_139 : Rn 27 139 L (vI a :: st) T σ K ↔ (a = 0 → Rn 27 149 L st T σ K) ∧ (a ≠ 0 → Rn 27 142 L st T σ K) := R_if_eq (off := 10) (by decide +kernel) (by decide)
theorem s27_142 : Rn 27 142 [some (vR o), l1, l2, l3] st T σ K ↔ Rn 27 143 [some (vR o), l1, l2, l3] (vR o :: st) T σ K := R_aload_n (n := 0) (by decide +kernel) rfl
theorem s27_143 : Rn 27 143 L st T σ K ↔ Rn 27 144 L (vI 3 :: st) T σ K := R_iconst (n := 3) (by decide +kernel) (by decide)
theorem s27_144 : Rn 27 144 [l0, some (vI a), l2, l3] st T σ K ↔ Rn 27 145 [l0, some (vI a), l2, l3] (vI a :: st) T σ K := R_iload_n (n := 1) (by decide +kernel) rfl
theorem s27_145 : Rn 27 145 L (vI b :: vI a :: vR o :: st) T σ K ↔ (sx_kd T o = 5 ∧ st.length ≤ 4) ∧ Rn 23 0 [some (vR o), some (vI a), some (vI b)] [] T σ (fun r T' σ' => Rn 27 148 L (sx_push r st) T' σ' K) := R_V (cm := 23) (n := 2) (idx := 73) (ci := 5) (mx := 3) (vs := [vI a, vI b]) (by decide +kernel) (by decide +kernel) rfl (by decide +kernel) rfl (by decide +kernel) (by decide +kernel)
theorem s27_148 : Rn 27 148 L [vI a] T σ K ↔ (a = 0 ∨ a = 1) ∧ K (some (vI a)) T σ := R_retZ (by decide +kernel) (by decide +kernel)
theorem s27_149 : Rn 27 149 [some (vR o), l1, l2, l3] st T σ K ↔ Rn 27 150 [some (vR o), l1, l2, l3] (vR o :: st) T σ K := R_aload_n (n := 0) (by decide +kernel) rfl
theorem s27_150 : Rn 27 150 L (vR o :: st) T σ K ↔ sx_kd T o = 5 ∧ ∃ t, sx_rf T o 2 = some t ∧ Rn 27 153 L (vR t :: st) T σ K := R_getR (idx := 15) (ci := 5) (k := 2) (by decide +kernel) (by decide +kernel) rfl
theorem s27_153 : Rn 27 153 [some (vR o), l1, l2, l3] st T σ K ↔ Rn 27 154 [some (vR o), l1, l2, l3] (vR o :: st) T σ K := R_aload_n (n := 0) (by decide +kernel) rfl
theorem s27_154 : Rn 27 154 L (vR o :: st) T σ K ↔ sx_kd T o = 5 ∧ Rn 27 157 L (vI (σ o 4) :: st) T σ K := R_getI (idx := 29) (ci := 5) (k := 4) (by decide +kernel) (by decide +kernel) (Or.inl rfl)
theorem s27_157 : Rn 27 157 [l0, l1, some (vI a), l3] st T σ K ↔ Rn 27 158 [l0, l1, some (vI a), l3] (vI a :: st) T σ K := R_iload_n (n := 2) (by decide +kernel) rfl
theorem s27_158 : Rn 27 158 L (vI b :: vI a :: vR o :: st) T σ K ↔ (sx_kd T o = 20 ∧ 0 ≤ a ∧ a < sx_ln T o) ∧ Rn 27 159 L st T (sx_up σ o a b) K := R_iast (by decide +kernel)
theorem s27_159 : Rn 27 159 L st T σ K ↔ Rn 27 160 L (vI 1 :: st) T σ K := R_iconst (n := 1) (by decide +kernel) (by decide)
theorem s27_160 : Rn 27 160 L [vI a] T σ K ↔ (a = 0 ∨ a = 1) ∧ K (some (vI a)) T σ := R_retZ (by decide +kernel) (by decide +kernel)
theorem s28_0 : Rn 28 0 [some (vR o)] st T σ K ↔ Rn 28 1 [some (vR o)] (vR o :: st) T σ K := R_aload_n (n := 0) (by decide +kernel) rfl
theorem s28_1 : Rn 28 1 L st T σ K ↔ Rn 28 3 L (vR 1000001 :: st) T σ K := R_ldcS (idx := 45) (j := 0) (by decide +kernel) (by decide +kernel) (by decide) rfl
theorem s28_3 : Rn 28 3 L (vR p :: vR o :: st) T σ K ↔ (sx_kd T o = 5 ∧ st.length ≤ 4) ∧ Rn 21 0 [some (vR o), some (vR p), none] [] T σ (fun r T' σ' => Rn 28 6 L (sx_push r st) T' σ' K) := R_V (cm := 21) (n := 1) (idx := 58) (ci := 5) (mx := 3) (vs := [vR p]) (by decide +kernel) (by decide +kernel) rfl (by decide +kernel) rfl (by decide +kernel) (by decide +kernel)
theorem s28_6 : Rn 28 6 L (vI a :: st) T σ K ↔ (a ≠ 0 → Rn 28 63 L st T σ K) ∧ (a = 0 → Rn 28 9 L st T σ K) := R_if_ne (off := 57) (by decide +kernel) (by decide)
theorem s28_9 : Rn 28 9 [some (vR o)] st T σ K ↔ Rn 28 10 [some (vR o)] (vR o :: st) T σ K := R_aload_n (n := 0) (by decide +kernel) rfl
theorem s28_10 : Rn 28 10 L st T σ K ↔ Rn 28 12 L (vR 1000002 :: st) T σ K := R_ldcS (idx := 51) (j := 1) (by decide +kernel) (by decide +kernel) (by decide) rfl
theorem s28_12 : Rn 28 12 L (vR p :: vR o :: st) T σ K ↔ (sx_kd T o = 5 ∧ st.length ≤ 4) ∧ Rn 21 0 [some (vR o), some (vR p), none] [] T σ (fun r T' σ' => Rn 28 15 L (sx_push r st) T' σ' K) := R_V (cm := 21) (n := 1) (idx := 58) (ci := 5) (mx := 3) (vs := [vR p]) (by decide +kernel) (by decide +kernel) rfl (by decide +kernel) rfl (by decide +kernel) (by decide +kernel)
theorem s28_15 : Rn 28 15 L (vI a :: st) T σ K ↔ (a ≠ 0 → Rn 28 63 L st T σ K) ∧ (a = 0 → Rn 28 18 L st T σ K) := R_if_ne (off := 48) (by decide +kernel) (by decide)
theorem s28_18 : Rn 28 18 [some (vR o)] st T σ K ↔ Rn 28 19 [some (vR o)] (vR o :: st) T σ K := R_aload_n (n := 0) (by decide +kernel) rfl
theorem s28_19 : Rn 28 19 L st T σ K ↔ Rn 28 21 L (vR 1000003 :: st) T σ K := R_ldcS (idx := 56) (j := 2) (by decide +kernel) (by decide +kernel) (by decide) rfl
theorem s28_21 : Rn 28 21 L (vR p :: vR o :: st) T σ K ↔ (sx_kd T o = 5 ∧ st.length ≤ 4) ∧ Rn 21 0 [some (vR o), some (vR p), none] [] T σ (fun r T' σ' => Rn 28 24 L (sx_push r st) T' σ' K) := R_V (cm := 21) (n := 1) (idx := 58) (ci := 5) (mx := 3) (vs := [vR p]) (by decide +kernel) (by decide +kernel) rfl (by decide +kernel) rfl (by decide +kernel) (by decide +kernel)
theorem s28_24 : Rn 28 24 L (vI a :: st) T σ K ↔ (a ≠ 0 → Rn 28 63 L st T σ K) ∧ (a = 0 → Rn 28 27 L st T σ K) := R_if_ne (off := 39) (by decide +kernel) (by decide)
theorem s28_27 : Rn 28 27 [some (vR o)] st T σ K ↔ Rn 28 28 [some (vR o)] (vR o :: st) T σ K := R_aload_n (n := 0) (by decide +kernel) rfl
theorem s28_28 : Rn 28 28 L st T σ K ↔ Rn 28 30 L (vR 1000004 :: st) T σ K := R_ldcS (idx := 67) (j := 3) (by decide +kernel) (by decide +kernel) (by decide) rfl
theorem s28_30 : Rn 28 30 L (vR p :: vR o :: st) T σ K ↔ (sx_kd T o = 5 ∧ st.length ≤ 4) ∧ Rn 21 0 [some (vR o), some (vR p), none] [] T σ (fun r T' σ' => Rn 28 33 L (sx_push r st) T' σ' K) := R_V (cm := 21) (n := 1) (idx := 58) (ci := 5) (mx := 3) (vs := [vR p]) (by decide +kernel) (by decide +kernel) rfl (by decide +kernel) rfl (by decide +kernel) (by decide +kernel)
theorem s28_33 : Rn 28 33 L (vI a :: st) T σ K ↔ (a ≠ 0 → Rn 28 63 L st T σ K) ∧ (a = 0 → Rn 28 36 L st T σ K) := R_if_ne (off := 30) (by decide +kernel) (by decide)
theorem s28_36 : Rn 28 36 [some (vR o)] st T σ K ↔ Rn 28 37 [some (vR o)] (vR o :: st) T σ K := R_aload_n (n := 0) (by decide +kernel) rfl
theorem s28_37 : Rn 28 37 L st T σ K ↔ Rn 28 39 L (vR 1000005 :: st) T σ K := R_ldcS (idx := 69) (j := 4) (by decide +kernel) (by decide +kernel) (by decide) rfl
theorem s28_39 : Rn 28 39 L (vR p :: vR o :: st) T σ K ↔ (sx_kd T o = 5 ∧ st.length ≤ 4) ∧ Rn 21 0 [some (vR o), some (vR p), none] [] T σ (fun r T' σ' => Rn 28 42 L (sx_push r st) T' σ' K) := R_V (cm := 21) (n := 1) (idx := 58) (ci := 5) (mx := 3) (vs := [vR p]) (by decide +kernel) (by decide +kernel) rfl (by decide +kernel) rfl (by decide +kernel) (by decide +kernel)
theorem s28_42 : Rn 28 42 L (vI a :: st) T σ K ↔ (a ≠ 0 → Rn 28 63 L st T σ K) ∧ (a = 0 → Rn 28 45 L st T σ K) := R_if_ne (off := 21) (by decide +kernel) (by decide)
theorem s28_45 : Rn 28 45 [some (vR o)] st T σ K ↔ Rn 28 46 [some (vR o)] (vR o :: st) T σ K := R_aload_n (n := 0) (by decide +kernel) rfl
theorem s28_46 : Rn 28 46 L st T σ K ↔ Rn 28 48 L (vR 1000006 :: st) T σ K := R_ldcS (idx := 71) (j := 5) (by decide +kernel) (by decide +kernel) (by decide) rfl
theorem s28_48 : Rn 28 48 L (vR p :: vR o :: st) T σ K ↔ (sx_kd T o = 5 ∧ st.length ≤ 4) ∧ Rn 21 0 [some (vR o), some (vR p), none] [] T σ (fun r T' σ' => Rn 28 51 L (sx_push r st) T' σ' K) := R_V (cm := 21) (n := 1) (idx := 58) (ci := 5) (mx := 3) (vs := [vR p]) (by decide +kernel) (by decide +kernel) rfl (by decide +kernel) rfl (by decide +kernel) (by decide +kernel)
theorem s28_51 : Rn 28 51 L (vI a :: st) T σ K ↔ (a ≠ 0 → Rn 28 63 L st T σ K) ∧ (a = 0 → Rn 28 54 L st T σ K) := R_if_ne (off := 12) (by decide +kernel) (by decide)
theorem s28_54 : Rn 28 54 [some (vR o)] st T σ K ↔ Rn 28 55 [some (vR o)] (vR o :: st) T σ K := R_aload_n (n := 0) (by decide +kernel) rfl
theorem s28_55 : Rn 28 55 L st T σ K ↔ Rn 28 57 L (vR 1000007 :: st) T σ K := R_ldcS (idx := 80) (j := 6) (by decide +kernel) (by decide +kernel) (by decide) rfl
theorem s28_57 : Rn 28 57 L (vR p :: vR o :: st) T σ K ↔ (sx_kd T o = 5 ∧ st.length ≤ 4) ∧ Rn 21 0 [some (vR o), some (vR p), none] [] T σ (fun r T' σ' => Rn 28 60 L (sx_push r st) T' σ' K) := R_V (cm := 21) (n := 1) (idx := 58) (ci := 5) (mx := 3) (vs := [vR p]) (by decide +kernel) (by decide +kernel) rfl (by decide +kernel) rfl (by decide +kernel) (by decide +kernel)
theorem s28_60 : Rn 28 60 L (vI a :: st) T σ K ↔ (a = 0 → Rn 28 67 L st T σ K) ∧ (a ≠ 0 → Rn 28 63 L st T σ K) := R_if_eq (off := 7) (by decide +kernel) (by decide)
theorem s28_63 : Rn 28 63 L st T σ K ↔ Rn 28 64 L (vI 1 :: st) T σ K := R_iconst (n := 1) (by decide +kernel) (by decide)
theorem s28_64 : Rn 28 64 L st T σ K ↔ Rn 28 68 L st T σ K := R_goto (off := 4) (by decide +kernel) (by decide)
theorem s28_67 : Rn 28 67 L st T σ K ↔ Rn 28 68 L (vI 0 :: st) T σ K := R_iconst (n := 0) (by decide +kernel) (by decide)
theorem s28_68 : Rn 28 68 L [vI a] T σ K ↔ (a = 0 ∨ a = 1) ∧ K (some (vI a)) T σ := R_retZ (by decide +kernel) (by decide +kernel)
theorem s29_0 : Rn 29 0 L st T σ K ↔ Rn 29 1 L (vI 0 :: st) T σ K := R_iconst (n := 0) (by decide +kernel) (by decide)
theorem s29_1 : Rn 29 1 [l0, l1, l2, l3] (vI a :: st) T σ K ↔ Rn 29 2 [l0, l1, l2, some (vI a)] st T σ K := R_istore_n (n := 3) (by decide +kernel) rfl
theorem s29_2 : Rn 29 2 [l0, l1, l2, some (vI a)] st T σ K ↔ Rn 29 3 [l0, l1, l2, some (vI a)] (vI a :: st) T σ K := R_iload_n (n := 3) (by decide +kernel) rfl
theorem s29_3 : Rn 29 3 [some (vR o), l1, l2, l3] st T σ K ↔ Rn 29 4 [some (vR o), l1, l2, l3] (vR o :: st) T σ K := R_aload_n (n := 0) (by decide +kernel) rfl
theorem s29_4 : Rn 29 4 L (vR o :: st) T σ K ↔ sx_kd T o = 5 ∧ Rn 29 7 L (vI (σ o 4) :: st) T σ K := R_getI (idx := 29) (ci := 5) (k := 4) (by decide +kernel) (by decide +kernel) (Or.inl rfl)
theorem s29_7 : Rn 29 7 L (vI b :: vI a :: st) T σ K ↔ (b ≤ a → Rn 29 31 L st T σ K) ∧ (a < b → Rn 29 10 L st T σ K) := R_icmp_ge (off := 24) (by decide +kernel) (by decide)
theorem s29_10 : Rn 29 10 [l0, l1, l2, some (vI a)] st T σ K ↔ Rn 29 11 [l0, l1, l2, some (vI a)] (vI a :: st) T σ K := R_iload_n (n := 3) (by decide +kernel) rfl
theorem s29_11 : Rn 29 11 [l0, some (vR o), l2, l3] st T σ K ↔ Rn 29 12 [l0, some (vR o), l2, l3] (vR o :: st) T σ K := R_aload_n (n := 1) (by decide +kernel) rfl
theorem s29_12 : Rn 29 12 L (vR o :: st) T σ K ↔ (sx_kd T o = 20 ∨ sx_kd T o = 21) ∧ Rn 29 13 L (vI (sx_ln T o) :: st) T σ K := R_alen (by decide +kernel) (by decide)
theorem s29_13 : Rn 29 13 L (vI b :: vI a :: st) T σ K ↔ (b ≤ a → Rn 29 31 L st T σ K) ∧ (a < b → Rn 29 16 L st T σ K) := R_icmp_ge (off := 18) (by decide +kernel) (by decide)
theorem s29_16 : Rn 29 16 [l0, some (vR o), l2, l3] st T σ K ↔ Rn 29 17 [l0, some (vR o), l2, l3] (vR o :: st) T σ K := R_aload_n (n := 1) (by decide +kernel) rfl
theorem s29_17 : Rn 29 17 [l0, l1, l2, some (vI a)] st T σ K ↔ Rn 29 18 [l0, l1, l2, some (vI a)] (vI a :: st) T σ K := R_iload_n (n := 3) (by decide +kernel) rfl
theorem s29_18 : Rn 29 18 L (vI a :: vR o :: st) T σ K ↔ (sx_kd T o = 20 ∧ 0 ≤ a ∧ a < sx_ln T o) ∧ Rn 29 19 L (vI (σ o a) :: st) T σ K := R_iald (by decide +kernel) (by decide)
theorem s29_19 : Rn 29 19 [l0, l1, some (vI a), l3] st T σ K ↔ Rn 29 20 [l0, l1, some (vI a), l3] (vI a :: st) T σ K := R_iload_n (n := 2) (by decide +kernel) rfl
theorem s29_20 : Rn 29 20 L (vI b :: vI a :: st) T σ K ↔ (a ≠ b → Rn 29 25 L st T σ K) ∧ (a = b → Rn 29 23 L st T σ K) := R_icmp_ne (off := 5) (by decide +kernel) (by decide)
theorem s29_23 : Rn 29 23 L st T σ K ↔ Rn 29 24 L (vI 1 :: st) T σ K := R_iconst (n := 1) (by decide +kernel) (by decide)
theorem s29_24 : Rn 29 24 L [vI a] T σ K ↔ (a = 0 ∨ a = 1) ∧ K (some (vI a)) T σ := R_retZ (by decide +kernel) (by decide +kernel)
theorem s29_25 : Rn 29 25 [l0, l1, l2, some (vI a)] st T σ K ↔ inI (a + 1) ∧ Rn 29 28 [l0, l1, l2, some (vI (a + 1))] st T σ K := R_iinc (n := 3) (d := 1) (by decide +kernel) rfl
theorem s29_28 : Rn 29 28 L st T σ K ↔ Rn 29 2 L st T σ K := R_goto (off := -26) (by decide +kernel) (by decide)
theorem s29_31 : Rn 29 31 L st T σ K ↔ Rn 29 32 L (vI 0 :: st) T σ K := R_iconst (n := 0) (by decide +kernel) (by decide)
theorem s29_32 : Rn 29 32 L [vI a] T σ K ↔ (a = 0 ∨ a = 1) ∧ K (some (vI a)) T σ := R_retZ (by decide +kernel) (by decide +kernel)
theorem s30_0 : Rn 30 0 [some (vR o), l1, l2, l3, l4, l5] st T σ K ↔ Rn 30 1 [some (vR o), l1, l2, l3, l4, l5] (vR o :: st) T σ K := R_aload_n (n := 0) (by decide +kernel) rfl
theorem s30_1 : Rn 30 1 L (vR o :: st) T σ K ↔ (sx_kd T o = 5 ∧ st.length ≤ 4) ∧ Rn 31 0 [some (vR o), none, none, none] [] T σ (fun r T' σ' => Rn 30 4 L (sx_push r st) T' σ' K) := R_V (cm := 31) (n := 0) (idx := 102) (ci := 5) (mx := 4) (vs := []) (by decide +kernel) (by decide +kernel) rfl (by decide +kernel) rfl (by decide +kernel) (by decide +kernel)
theorem s30_4 : Rn 30 4 [l0, l1, l2, l3, l4, l5] (vI a :: st) T σ K ↔ Rn 30 5 [l0, some (vI a), l2, l3, l4, l5] st T σ K := R_istore_n (n := 1) (by decide +kernel) rfl
theorem s30_5 : Rn 30 5 [some (vR o), l1, l2, l3, l4, l5] st T σ K ↔ Rn 30 6 [some (vR o), l1, l2, l3, l4, l5] (vR o :: st) T σ K := R_aload_n (n := 0) (by decide +kernel) rfl
theorem s30_6 : Rn 30 6 L (vR o :: st) T σ K ↔ sx_kd T o = 5 ∧ Rn 30 9 L (vI (σ o 8) :: st) T σ K := R_getI (idx := 106) (ci := 5) (k := 8) (by decide +kernel) (by decide +kernel) (Or.inl rfl)
theorem s30_9 : Rn 30 9 [l0, l1, l2, l3, l4, l5] (vI a :: st) T σ K ↔ Rn 30 10 [l0, l1, some (vI a), l3, l4, l5] st T σ K := R_istore_n (n := 2) (by decide +kernel) rfl
theorem s30_10 : Rn 30 10 [l0, some (vI a), l2, l3, l4, l5] st T σ K ↔ Rn 30 11 [l0, some (vI a), l2, l3, l4, l5] (vI a :: st) T σ K := R_iload_n (n := 1) (by decide +kernel) rfl
theorem s30_11 : Rn 30 11 L st T σ K ↔ Rn 30 12 L (vI (-1) :: st) T σ K := R_iconst (n := -1) (by decide +kernel) (by decide)
theorem s30_12 : Rn 30 12 L (vI b :: vI a :: st) T σ K ↔ (a ≠ b → Rn 30 19 L st T σ K) ∧ (a = b → Rn 30 15 L st T σ K) := R_icmp_ne (off := 7) (by decide +kernel) (by decide)
theorem s30_15 : Rn 30 15 L st T σ K ↔ Rn 30 16 L (vI (-1) :: st) T σ K := R_iconst (n := -1) (by decide +kernel) (by decide)
theorem s30_16 : Rn 30 16 L st T σ K ↔ Rn 30 23 L st T σ K := R_goto (off := 7) (by decide +kernel) (by decide)
theorem s30_19 : Rn 30 19 [some (vR o), l1, l2, l3, l4, l5] st T σ K ↔ Rn 30 20 [some (vR o), l1, l2, l3, l4, l5] (vR o :: st) T σ K := R_aload_n (n := 0) (by decide +kernel) rfl
theorem s30_20 : Rn 30 20 L (vR o :: st) T σ K ↔ (sx_kd T o = 5 ∧ st.length ≤ 4) ∧ Rn 31 0 [some (vR o), none, none, none] [] T σ (fun r T' σ' => Rn 30 23 L (sx_push r st) T' σ' K) := R_V (cm := 31) (n := 0) (idx := 102) (ci := 5) (mx := 4) (vs := []) (by decide +kernel) (by decide +kernel) rfl (by decide +kernel) rfl (by decide +kernel) (by decide +kernel)
theorem s30_23 : Rn 30 23 [l0, l1, l2, l3, l4, l5] (vI a :: st) T σ K ↔ Rn 30 24 [l0, l1, l2, some (vI a), l4, l5] st T σ K := R_istore_n (n := 3) (by decide +kernel) rfl
theorem s30_24 : Rn 30 24 [l0, l1, l2, some (vI a), l4, l5] st T σ K ↔ Rn 30 25 [l0, l1, l2, some (vI a), l4, l5] (vI a :: st) T σ K := R_iload_n (n := 3) (by decide +kernel) rfl
theorem s30_25 : Rn 30 25 L st T σ K ↔ Rn 30 26 L (vI (-1) :: st) T σ K := R_iconst (n := -1) (by decide +kernel) (by decide)
theorem s30_26 : Rn 30 26 L (vI b :: vI a :: st) T σ K ↔ (a ≠ b → Rn 30 33 L st T σ K) ∧ (a = b → Rn 30 29 L st T σ K) := R_icmp_ne (off := 7) (by decide +kernel) (by decide)
theorem s30_29 : Rn 30 29 L st T σ K ↔ Rn 30 30 L (vI (-1) :: st) T σ K := R_iconst (n := -1) (by decide +kernel) (by decide)
theorem s30_30 : Rn 30 30 L st T σ K ↔ Rn 30 37 L st T σ K := R_goto (off := 7) (by decide +kernel) (by decide)
theorem s30_33 : Rn 30 33 [some (vR o), l1, l2, l3, l4, l5] st T σ K ↔ Rn 30 34 [some (vR o), l1, l2, l3, l4, l5] (vR o :: st) T σ K := R_aload_n (n := 0) (by decide +kernel) rfl
theorem s30_34 : Rn 30 34 L (vR o :: st) T σ K ↔ (sx_kd T o = 5 ∧ st.length ≤ 4) ∧ Rn 31 0 [some (vR o), none, none, none] [] T σ (fun r T' σ' => Rn 30 37 L (sx_push r st) T' σ' K) := R_V (cm := 31) (n := 0) (idx := 102) (ci := 5) (mx := 4) (vs := []) (by decide +kernel) (by decide +kernel) rfl (by decide +kernel) rfl (by decide +kernel) (by decide +kernel)
theorem s30_37 : Rn 30 37 [l0, l1, l2, l3, l4, l5] (vI a :: st) T σ K ↔ Rn 30 39 [l0, l1, l2, l3, some (vI a), l5] st T σ K := R_istore (n := 4) (by decide +kernel) rfl
theorem s30_39 : Rn 30 39 [l0, l1, l2, l3, some (vI a), l5] st T σ K ↔ Rn 30 41 [l0, l1, l2, l3, some (vI a), l5] (vI a :: st) T σ K := R_iload (n := 4) (by decide +kernel) rfl
theorem s30_41 : Rn 30 41 L st T σ K ↔ Rn 30 42 L (vI (-1) :: st) T σ K := R_iconst (n := -1) (by decide +kernel) (by decide)
theorem s30_42 : Rn 30 42 L (vI b :: vI a :: st) T σ K ↔ (a ≠ b → Rn 30 47 L st T σ K) ∧ (a = b → Rn 30 45 L st T σ K) := R_icmp_ne (off := 5) (by decide +kernel) (by decide)
theorem s30_45 : Rn 30 45 L st T σ K ↔ Rn 30 46 L (vI 0 :: st) T σ K := R_iconst (n := 0) (by decide +kernel) (by decide)
theorem s30_46 : Rn 30 46 L [vI a] T σ K ↔ (a = 0 ∨ a = 1) ∧ K (some (vI a)) T σ := R_retZ (by decide +kernel) (by decide +kernel)
theorem s30_47 : Rn 30 47 [l0, some (vI a), l2, l3, l4, l5] st T σ K ↔ Rn 30 48 [l0, some (vI a), l2, l3, l4, l5] (vI a :: st) T σ K := R_iload_n (n := 1) (by decide +kernel) rfl
theorem s30_48 : Rn 30 48 [l0, l1, l2, some (vI a), l4, l5] st T σ K ↔ Rn 30 49 [l0, l1, l2, some (vI a), l4, l5] (vI a :: st) T σ K := R_iload_n (n := 3) (by decide +kernel) rfl
theorem s30_49 : Rn 30 49 [l0, l1, l2, l3, some (vI a), l5] st T σ K ↔ Rn 30 51 [l0, l1, l2, l3, some (vI a), l5] (vI a :: st) T σ K := R_iload (n := 4) (by decide +kernel) rfl
theorem s30_51 : Rn 30 51 L (vI c :: vI b :: vI a :: st) T σ K ↔ st.length ≤ 4 ∧ Rn 33 0 [some (vI a), some (vI b), some (vI c)] [] T σ (fun r T' σ' => Rn 30 54 L (sx_push r st) T' σ' K) := R_S (cm := 33) (n := 3) (idx := 109) (mx := 3) (vs := [vI a, vI b, vI c]) (by decide +kernel) (Or.inr (by decide +kernel)) rfl (by decide +kernel) rfl (by decide +kernel)
theorem s30_54 : Rn 30 54 [l0, l1, l2, l3, l4, l5] (vI a :: st) T σ K ↔ Rn 30 56 [l0, l1, l2, l3, l4, some (vI a)] st T σ K := R_istore (n := 5) (by decide +kernel) rfl
theorem s30_56 : Rn 30 56 [some (vR o), l1, l2, l3, l4, l5] st T σ K ↔ Rn 30 57 [some (vR o), l1, l2, l3, l4, l5] (vR o :: st) T σ K := R_aload_n (n := 0) (by decide +kernel) rfl
theorem s30_57 : Rn 30 57 [some (vR o), l1, l2, l3, l4, l5] st T σ K ↔ Rn 30 58 [some (vR o), l1, l2, l3, l4, l5] (vR o :: st) T σ K := R_aload_n (n := 0) (by decide +kernel) rfl
theorem s30_58 : Rn 30 58 L (vR o :: st) T σ K ↔ sx_kd T o = 5 ∧ ∃ t, sx_rf T o 1 = some t ∧ Rn 30 61 L (vR t :: st) T σ K := R_getR (idx := 9) (ci := 5) (k := 1) (by decide +kernel) (by decide +kernel) rfl
theorem s30_61 : Rn 30 61 [l0, l1, l2, l3, l4, some (vI a)] st T σ K ↔ Rn 30 63 [l0, l1, l2, l3, l4, some (vI a)] (vI a :: st) T σ K := R_iload (n := 5) (by decide +kernel) rfl
theorem s30_63 : Rn 30 63 L (vI a :: vR p :: vR o :: st) T σ K ↔ (sx_kd T o = 5 ∧ st.length ≤ 4) ∧ Rn 29 0 [some (vR o), some (vR p), some (vI a), none] [] T σ (fun r T' σ' => Rn 30 66 L (sx_push r st) T' σ' K) := R_V (cm := 29) (n := 2) (idx := 98) (ci := 5) (mx := 4) (vs := [vR p, vI a]) (by decide +kernel) (by decide +kernel) rfl (by decide +kernel) rfl (by decide +kernel) (by decide +kernel)
theorem s30_66 : Rn 30 66 L (vI a :: st) T σ K ↔ (a = 0 → Rn 30 76 L st T σ K) ∧ (a ≠ 0 → Rn 30 69 L st T σ K) := R_if_eq (off := 10) (by decide +kernel) (by decide)
theorem s30_69 : Rn 30 69 [some (vR o), l1, l2, l3, l4, l5] st T σ K ↔ Rn 30 70 [some (vR o), l1, l2, l3, l4, l5] (vR o :: st) T σ K := R_aload_n (n := 0) (by decide +kernel) rfl
theorem s30_70 : Rn 30 70 L st T σ K ↔ Rn 30 71 L (vI 4 :: st) T σ K := R_iconst (n := 4) (by decide +kernel) (by decide)
theorem s30_71 : Rn 30 71 [l0, l1, some (vI a), l3, l4, l5] st T σ K ↔ Rn 30 72 [l0, l1, some (vI a), l3, l4, l5] (vI a :: st) T σ K := R_iload_n (n := 2) (by decide +kernel) rfl
theorem s30_72 : Rn 30 72 L (vI b :: vI a :: vR o :: st) T σ K ↔ (sx_kd T o = 5 ∧ st.length ≤ 4) ∧ Rn 23 0 [some (vR o), some (vI a), some (vI b)] [] T σ (fun r T' σ' => Rn 30 75 L (sx_push r st) T' σ' K) := R_V (cm := 23) (n := 2) (idx := 73) (ci := 5) (mx := 3) (vs := [vI a, vI b]) (by decide +kernel) (by decide +kernel) rfl (by decide +kernel) rfl (by decide +kernel) (by decide +kernel)
theorem s30_75 : Rn 30 75 L [vI a] T σ K ↔ (a = 0 ∨ a = 1) ∧ K (some (vI a)) T σ := R_retZ (by decide +kernel) (by decide +kernel)
theorem s30_76 : Rn 30 76 [some (vR o), l1, l2, l3, l4, l5] st T σ K ↔ Rn 30 77 [some (vR o), l1, l2, l3, l4, l5] (vR o :: st) T σ K := R_aload_n (n := 0) (by decide +kernel) rfl
theorem s30_77 : Rn 30 77 L (vR o :: st) T σ K ↔ sx_kd T o = 5 ∧ ∃ t, sx_rf T o 1 = some t ∧ Rn 30 80 L (vR t :: st) T σ K := R_getR (idx := 9) (ci := 5) (k := 1) (by decide +kernel) (by decide +kernel) rfl
theorem s30_80 : Rn 30 80 [some (vR o), l1, l2, l3, l4, l5] st T σ K ↔ Rn 30 81 [some (vR o), l1, l2, l3, l4, l5] (vR o :: st) T σ K := R_aload_n (n := 0) (by decide +kernel) rfl
theorem s30_81 : Rn 30 81 L (vR o :: st) T σ K ↔ sx_kd T o = 5 ∧ Rn 30 84 L (vI (σ o 4) :: st) T σ K := R_getI (idx := 29) (ci := 5) (k := 4) (by decide +kernel) (by decide +kernel) (Or.inl rfl)
theorem s30_84 : Rn 30 84 [l0, l1, l2, l3, l4, some (vI a)] st T σ K ↔ Rn 30 86 [l0, l1, l2, l3, l4, some (vI a)] (vI a :: st) T σ K := R_iload (n := 5) (by decide +kernel) rfl
theorem s30_86 : Rn 30 86 L (vI b :: vI a :: vR o :: st) T σ K ↔ (sx_kd T o = 20 ∧ 0 ≤ a ∧ a < sx_ln T o) ∧ Rn 30 87 L st T (sx_up σ o a b) K := R_iast (by decide +kernel)
theorem s30_87 : Rn 30 87 L st T σ K ↔ Rn 30 88 L (vI 1 :: st) T σ K := R_iconst (n := 1) (by decide +kernel) (by decide)
theorem s30_88 : Rn 30 88 L [vI a] T σ K ↔ (a = 0 ∨ a = 1) ∧ K (some (vI a)) T σ := R_retZ (by decide +kernel) (by decide +kernel)
theorem s31_0 : Rn 31 0 [some (vR o), l1, l2, l3] st T σ K ↔ Rn 31 1 [some (vR o), l1, l2, l3] (vR o :: st) T σ K := R_aload_n (n := 0) (by decide +kernel) rfl
theorem s31_1 : Rn 31 1 L (vR o :: st) T σ K ↔ sx_kd T o = 5 ∧ Rn 31 4 L (vI (σ o 7) :: st) T σ K := R_getI (idx := 26) (ci := 5) (k := 7) (by decide +kernel) (by decide +kernel) (Or.inl rfl)
theorem s31_4 : Rn 31 4 [l0, l1, l2, l3] (vI a :: st) T σ K ↔ Rn 31 5 [l0, some (vI a), l2, l3] st T σ K := R_istore_n (n := 1) (by decide +kernel) rfl
theorem s31_5 : Rn 31 5 [some (vR o), l1, l2, l3] st T σ K ↔ Rn 31 6 [some (vR o), l1, l2, l3] (vR o :: st) T σ K := R_aload_n (n := 0) (by decide +kernel) rfl
theorem s31_6 : Rn 31 6 L (vR o :: st) T σ K ↔ (sx_kd T o = 5 ∧ st.length ≤ 4) ∧ Rn 19 0 [some (vR o)] [] T σ (fun r T' σ' => Rn 31 9 L (sx_push r st) T' σ' K) := R_V (cm := 19) (n := 0) (idx := 53) (ci := 5) (mx := 1) (vs := []) (by decide +kernel) (by decide +kernel) rfl (by decide +kernel) rfl (by decide +kernel) (by decide +kernel)
theorem s31_9 : Rn 31 9 [some (vR o), l1, l2, l3] st T σ K ↔ Rn 31 10 [some (vR o), l1, l2, l3] (vR o :: st) T σ K := R_aload_n (n := 0) (by decide +kernel) rfl
theorem s31_10 : Rn 31 10 [some (vR o), l1, l2, l3] st T σ K ↔ Rn 31 11 [some (vR o), l1, l2, l3] (vR o :: st) T σ K := R_aload_n (n := 0) (by decide +kernel) rfl
theorem s31_11 : Rn 31 11 L (vR o :: st) T σ K ↔ sx_kd T o = 5 ∧ Rn 31 14 L (vI (σ o 7) :: st) T σ K := R_getI (idx := 26) (ci := 5) (k := 7) (by decide +kernel) (by decide +kernel) (Or.inl rfl)
theorem s31_14 : Rn 31 14 L (vI a :: vR o :: st) T σ K ↔ sx_kd T o = 5 ∧ Rn 31 17 L st T (sx_up σ o 8 a) K := R_putI (idx := 106) (ci := 5) (k := 8) (by decide +kernel) (by decide +kernel) rfl rfl
theorem s31_17 : Rn 31 17 [some (vR o), l1, l2, l3] st T σ K ↔ Rn 31 18 [some (vR o), l1, l2, l3] (vR o :: st) T σ K := R_aload_n (n := 0) (by decide +kernel) rfl
theorem s31_18 : Rn 31 18 L (vR o :: st) T σ K ↔ sx_kd T o = 5 ∧ Rn 31 21 L (vI (σ o 7) :: st) T σ K := R_getI (idx := 26) (ci := 5) (k := 7) (by decide +kernel) (by decide +kernel) (Or.inl rfl)
theorem s31_21 : Rn 31 21 [l0, some (vI a), l2, l3] st T σ K ↔ Rn 31 22 [l0, some (vI a), l2, l3] (vI a :: st) T σ K := R_iload_n (n := 1) (by decide +kernel) rfl
theorem s31_22 : Rn 31 22 L (vI b :: vI a :: st) T σ K ↔ (a = b → Rn 31 42 L st T σ K) ∧ (a ≠ b → Rn 31 25 L st T σ K) := R_icmp_eq (off := 20) (by decide +kernel) (by decide)
theorem s31_25 : Rn 31 25 [some (vR o), l1, l2, l3] st T σ K ↔ Rn 31 26 [some (vR o), l1, l2, l3] (vR o :: st) T σ K := R_aload_n (n := 0) (by decide +kernel) rfl
theorem s31_26 : Rn 31 26 L (vR o :: st) T σ K ↔ sx_kd T o = 5 ∧ ∃ t, sx_rf T o 0 = some t ∧ Rn 31 29 L (vR t :: st) T σ K := R_getR (idx := 22) (ci := 5) (k := 0) (by decide +kernel) (by decide +kernel) rfl
theorem s31_29 : Rn 31 29 [some (vR o), l1, l2, l3] st T σ K ↔ Rn 31 30 [some (vR o), l1, l2, l3] (vR o :: st) T σ K := R_aload_n (n := 0) (by decide +kernel) rfl
theorem s31_30 : Rn 31 30 L (vR o :: st) T σ K ↔ sx_kd T o = 5 ∧ Rn 31 33 L (vI (σ o 7) :: st) T σ K := R_getI (idx := 26) (ci := 5) (k := 7) (by decide +kernel) (by decide +kernel) (Or.inl rfl)
theorem s31_33 : Rn 31 33 L (vI a :: vR o :: st) T σ K ↔ (sx_kd T o = 6 ∧ st.length ≤ 4) ∧ Rn 20 0 [some (vR o), some (vI a)] [] T σ (fun r T' σ' => Rn 31 36 L (sx_push r st) T' σ' K) := R_V (cm := 20) (n := 1) (idx := 85) (ci := 6) (mx := 2) (vs := [vI a]) (by decide +kernel) (by decide +kernel) rfl (by decide +kernel) rfl (by decide +kernel) (by decide +kernel)
theorem s31_36 : Rn 31 36 L (vI a :: st) T σ K ↔ st.length ≤ 4 ∧ Rn 32 0 [some (vI a)] [] T σ (fun r T' σ' => Rn 31 39 L (sx_push r st) T' σ' K) := R_S (cm := 32) (n := 1) (idx := 113) (mx := 1) (vs := [vI a]) (by decide +kernel) (Or.inr (by decide +kernel)) rfl (by decide +kernel) rfl (by decide +kernel)
theorem s31_39 : Rn 31 39 L (vI a :: st) T σ K ↔ (a ≠ 0 → Rn 31 54 L st T σ K) ∧ (a = 0 → Rn 31 42 L st T σ K) := R_if_ne (off := 15) (by decide +kernel) (by decide)
theorem s31_42 : Rn 31 42 [some (vR o), l1, l2, l3] st T σ K ↔ Rn 31 43 [some (vR o), l1, l2, l3] (vR o :: st) T σ K := R_aload_n (n := 0) (by decide +kernel) rfl
theorem s31_43 : Rn 31 43 L st T σ K ↔ Rn 31 44 L (vI 1 :: st) T σ K := R_iconst (n := 1) (by decide +kernel) (by decide)
theorem s31_44 : Rn 31 44 [some (vR o), l1, l2, l3] st T σ K ↔ Rn 31 45 [some (vR o), l1, l2, l3] (vR o :: st) T σ K := R_aload_n (n := 0) (by decide +kernel) rfl
theorem s31_45 : Rn 31 45 L (vR o :: st) T σ K ↔ sx_kd T o = 5 ∧ Rn 31 48 L (vI (σ o 7) :: st) T σ K := R_getI (idx := 26) (ci := 5) (k := 7) (by decide +kernel) (by decide +kernel) (Or.inl rfl)
theorem s31_48 : Rn 31 48 L (vI b :: vI a :: vR o :: st) T σ K ↔ (sx_kd T o = 5 ∧ st.length ≤ 4) ∧ Rn 23 0 [some (vR o), some (vI a), some (vI b)] [] T σ (fun r T' σ' => Rn 31 51 L (sx_push r st) T' σ' K) := R_V (cm := 23) (n := 2) (idx := 73) (ci := 5) (mx := 3) (vs := [vI a, vI b]) (by decide +kernel) (by decide +kernel) rfl (by decide +kernel) rfl (by decide +kernel) (by decide +kernel)
theorem s31_51 : Rn 31 51 L (vI a :: st) T σ K ↔ Rn 31 52 L st T σ K := R_pop (v := vI a) (by decide +kernel) rfl
theorem s31_52 : Rn 31 52 L st T σ K ↔ Rn 31 53 L (vI (-1) :: st) T σ K := R_iconst (n := -1) (by decide +kernel) (by decide)
theorem s31_53 : Rn 31 53 L [vI a] T σ K ↔ K (some (vI a)) T σ := R_ret (by decide +kernel) (by decide +kernel)
theorem s31_54 : Rn 31 54 L st T σ K ↔ Rn 31 55 L (vI 0 :: st) T σ K := R_iconst (n := 0) (by decide +kernel) (by decide)
theorem s31_55 : Rn 31 55 [l0, l1, l2, l3] (vI a :: st) T σ K ↔ Rn 31 56 [l0, l1, some (vI a), l3] st T σ K := R_istore_n (n := 2) (by decide +kernel) rfl
theorem s31_56 : Rn 31 56 L st T σ K ↔ Rn 31 57 L (vI 0 :: st) T σ K := R_iconst (n := 0) (by decide +kernel) (by decide)
theorem s31_57 : Rn 31 57 [l0, l1, l2, l3] (vI a :: st) T σ K ↔ Rn 31 58 [l0, l1, l2, some (vI a)] st T σ K := R_istore_n (n := 3) (by decide +kernel) rfl
theorem s31_58 : Rn 31 58 [l0, l1, l2, some (vI a)] st T σ K ↔ Rn 31 59 [l0, l1, l2, some (vI a)] (vI a :: st) T σ K := R_iload_n (n := 3) (by decide +kernel) rfl
theorem s31_59 : Rn 31 59 L st T σ K ↔ Rn 31 60 L (vI 3 :: st) T σ K := R_iconst (n := 3) (by decide +kernel) (by decide)
theorem s31_60 : Rn 31 60 L (vI b :: vI a :: st) T σ K ↔ (b ≤ a → Rn 31 116 L st T σ K) ∧ (a < b → Rn 31 63 L st T σ K) := R_icmp_ge (off := 56) (by decide +kernel) (by decide)
theorem s31_63 : Rn 31 63 [some (vR o), l1, l2, l3] st T σ K ↔ Rn 31 64 [some (vR o), l1, l2, l3] (vR o :: st) T σ K := R_aload_n (n := 0) (by decide +kernel) rfl
theorem s31_64 : Rn 31 64 L (vR o :: st) T σ K ↔ sx_kd T o = 5 ∧ ∃ t, sx_rf T o 0 = some t ∧ Rn 31 67 L (vR t :: st) T σ K := R_getR (idx := 22) (ci := 5) (k := 0) (by decide +kernel) (by decide +kernel) rfl
theorem s31_67 : Rn 31 67 [some (vR o), l1, l2, l3] st T σ K ↔ Rn 31 68 [some (vR o), l1, l2, l3] (vR o :: st) T σ K := R_aload_n (n := 0) (by decide +kernel) rfl
theorem s31_68 : Rn 31 68 L (vR o :: st) T σ K ↔ sx_kd T o = 5 ∧ Rn 31 71 L (vI (σ o 7) :: st) T σ K := R_getI (idx := 26) (ci := 5) (k := 7) (by decide +kernel) (by decide +kernel) (Or.inl rfl)
theorem s31_71 : Rn 31 71 L (vI a :: vR o :: st) T σ K ↔ (sx_kd T o = 6 ∧ st.length ≤ 4) ∧ Rn 20 0 [some (vR o), some (vI a)] [] T σ (fun r T' σ' => Rn 31 74 L (sx_push r st) T' σ' K) := R_V (cm := 20) (n := 1) (idx := 85) (ci := 6) (mx := 2) (vs := [vI a]) (by decide +kernel) (by decide +kernel) rfl (by decide +kernel) rfl (by decide +kernel) (by decide +kernel)
theorem s31_74 : Rn 31 74 L (vI a :: st) T σ K ↔ st.length ≤ 4 ∧ Rn 32 0 [some (vI a)] [] T σ (fun r T' σ' => Rn 31 77 L (sx_push r st) T' σ' K) := R_S (cm := 32) (n := 1) (idx := 113) (mx := 1) (vs := [vI a]) (by decide +kernel) (Or.inr (by decide +kernel)) rfl (by decide +kernel) rfl (by decide +kernel)
theorem s31_77 : Rn 31 77 L (vI a :: st) T σ K ↔ (a = 0 → Rn 31 116 L st T σ K) ∧ (a ≠ 0 → Rn 31 80 L st T σ K) := R_if_eq (off := 39) (by decide +kernel) (by decide)
theorem s31_80 : Rn 31 80 L st T σ K ↔ Rn 31 82 L (vI 10 :: st) T σ K := R_bipush (n := 10) (by decide +kernel) (by decide +kernel)
theorem s31_82 : Rn 31 82 [l0, l1, some (vI a), l3] st T σ K ↔ Rn 31 83 [l0, l1, some (vI a), l3] (vI a :: st) T σ K := R_iload_n (n := 2) (by decide +kernel) rfl
theorem s31_83 : Rn 31 83 L (vI b :: vI a :: st) T σ K ↔ inI (a * b) ∧ Rn 31 84 L (vI (a * b) :: st) T σ K := R_imul (by decide +kernel)
theorem s31_84 : Rn 31 84 [some (vR o), l1, l2, l3] st T σ K ↔ Rn 31 85 [some (vR o), l1, l2, l3] (vR o :: st) T σ K := R_aload_n (n := 0) (by decide +kernel) rfl
theorem s31_85 : Rn 31 85 L (vR o :: st) T σ K ↔ sx_kd T o = 5 ∧ ∃ t, sx_rf T o 0 = some t ∧ Rn 31 88 L (vR t :: st) T σ K := R_getR (idx := 22) (ci := 5) (k := 0) (by decide +kernel) (by decide +kernel) rfl
theorem s31_88 : Rn 31 88 [some (vR o), l1, l2, l3] st T σ K ↔ Rn 31 89 [some (vR o), l1, l2, l3] (vR o :: st) T σ K := R_aload_n (n := 0) (by decide +kernel) rfl
theorem s31_89 : Rn 31 89 L (vR o :: st) T σ K ↔ sx_kd T o = 5 ∧ Rn 31 92 L (vI (σ o 7) :: st) T σ K := R_getI (idx := 26) (ci := 5) (k := 7) (by decide +kernel) (by decide +kernel) (Or.inl rfl)
theorem s31_92 : Rn 31 92 L (vI a :: vR o :: st) T σ K ↔ (sx_kd T o = 6 ∧ st.length ≤ 4) ∧ Rn 20 0 [some (vR o), some (vI a)] [] T σ (fun r T' σ' => Rn 31 95 L (sx_push r st) T' σ' K) := R_V (cm := 20) (n := 1) (idx := 85) (ci := 6) (mx := 2) (vs := [vI a]) (by decide +kernel) (by decide +kernel) rfl (by decide +kernel) rfl (by decide +kernel) (by decide +kernel)
theorem s31_95 : Rn 31 95 L (vI b :: vI a :: st) T σ K ↔ inI (a + b) ∧ Rn 31 96 L (vI (a + b) :: st) T σ K := R_iadd (by decide +kernel)
theorem s31_96 : Rn 31 96 L st T σ K ↔ Rn 31 98 L (vI 48 :: st) T σ K := R_bipush (n := 48) (by decide +kernel) (by decide +kernel)
theorem s31_98 : Rn 31 98 L (vI b :: vI a :: st) T σ K ↔ inI (a - b) ∧ Rn 31 99 L (vI (a - b) :: st) T σ K := R_isub (by decide +kernel)
theorem s31_99 : Rn 31 99 [l0, l1, l2, l3] (vI a :: st) T σ K ↔ Rn 31 100 [l0, l1, some (vI a), l3] st T σ K := R_istore_n (n := 2) (by decide +kernel) rfl
theorem s31_100 : Rn 31 100 [some (vR o), l1, l2, l3] st T σ K ↔ Rn 31 101 [some (vR o), l1, l2, l3] (vR o :: st) T σ K := R_aload_n (n := 0) (by decide +kernel) rfl
theorem s31_101 : Rn 31 101 L (vR o :: st) T σ K ↔ Rn 31 102 L (vR o :: vR o :: st) T σ K := R_dup (v := vR o) (by decide +kernel) rfl
theorem s31_102 : Rn 31 102 L (vR o :: st) T σ K ↔ sx_kd T o = 5 ∧ Rn 31 105 L (vI (σ o 7) :: st) T σ K := R_getI (idx := 26) (ci := 5) (k := 7) (by decide +kernel) (by decide +kernel) (Or.inl rfl)
theorem s31_105 : Rn 31 105 L st T σ K ↔ Rn 31 106 L (vI 1 :: st) T σ K := R_iconst (n := 1) (by decide +kernel) (by decide)
theorem s31_106 : Rn 31 106 L (vI b :: vI a :: st) T σ K ↔ inI (a + b) ∧ Rn 31 107 L (vI (a + b) :: st) T σ K := R_iadd (by decide +kernel)
theorem s31_107 : Rn 31 107 L (vI a :: vR o :: st) T σ K ↔ sx_kd T o = 5 ∧ Rn 31 110 L st T (sx_up σ o 7 a) K := R_putI (idx := 26) (ci := 5) (k := 7) (by decide +kernel) (by decide +kernel) rfl rfl
theorem s31_110 : Rn 31 110 [l0, l1, l2, some (vI a)] st T σ K ↔ inI (a + 1) ∧ Rn 31 113 [l0, l1, l2, some (vI (a + 1))] st T σ K := R_iinc (n := 3) (d := 1) (by decide +kernel) rfl
theorem s31_113 : Rn 31 113 L st T σ K ↔ Rn 31 58 L st T σ K := R_goto (off := -55) (by decide +kernel) (by decide)
theorem s31_116 : Rn 31 116 [some (vR o), l1, l2, l3] st T σ K ↔ Rn 31 117 [some (vR o), l1, l2, l3] (vR o :: st) T σ K := R_aload_n (n := 0) (by decide +kernel) rfl
theorem s31_117 : Rn 31 117 L (vR o :: st) T σ K ↔ sx_kd T o = 5 ∧ ∃ t, sx_rf T o 0 = some t ∧ Rn 31 120 L (vR t :: st) T σ K := R_getR (idx := 22) (ci := 5) (k := 0) (by decide +kernel) (by decide +kernel) rfl
theorem s31_120 : Rn 31 120 [some (vR o), l1, l2, l3] st T σ K ↔ Rn 31 121 [some (vR o), l1, l2, l3] (vR o :: st) T σ K := R_aload_n (n := 0) (by decide +kernel) rfl
theorem s31_121 : Rn 31 121 L (vR o :: st) T σ K ↔ sx_kd T o = 5 ∧ Rn 31 124 L (vI (σ o 7) :: st) T σ K := R_getI (idx := 26) (ci := 5) (k := 7) (by decide +kernel) (by decide +kernel) (Or.inl rfl)
theorem s31_124 : Rn 31 124 L (vI a :: vR o :: st) T σ K ↔ (sx_kd T o = 6 ∧ st.length ≤ 4) ∧ Rn 20 0 [some (vR o), some (vI a)] [] T σ (fun r T' σ' => Rn 31 127 L (sx_push r st) T' σ' K) := R_V (cm := 20) (n := 1) (idx := 85) (ci := 6) (mx := 2) (vs := [vI a]) (by decide +kernel) (by decide +kernel) rfl (by decide +kernel) rfl (by decide +kernel) (by decide +kernel)
theorem s31_127 : Rn 31 127 L (vI a :: st) T σ K ↔ st.length ≤ 4 ∧ Rn 32 0 [some (vI a)] [] T σ (fun r T' σ' => Rn 31 130 L (sx_push r st) T' σ' K) := R_S (cm := 32) (n := 1) (idx := 113) (mx := 1) (vs := [vI a]) (by decide +kernel) (Or.inr (by decide +kernel)) rfl (by decide +kernel) rfl (by decide +kernel)
theorem s31_130 : Rn 31 130 L (vI a :: st) T σ K ↔ (a = 0 → Rn 31 145 L st T σ K) ∧ (a ≠ 0 → Rn 31 133 L st T σ K) := R_if_eq (off := 15) (by decide +kernel) (by decide)
theorem s31_133 : Rn 31 133 [some (vR o), l1, l2, l3] st T σ K ↔ Rn 31 134 [some (vR o), l1, l2, l3] (vR o :: st) T σ K := R_aload_n (n := 0) (by decide +kernel) rfl
theorem s31_134 : Rn 31 134 L st T σ K ↔ Rn 31 135 L (vI 1 :: st) T σ K := R_iconst (n := 1) (by decide +kernel) (by decide)
theorem s31_135 : Rn 31 135 [some (vR o), l1, l2, l3] st T σ K ↔ Rn 31 136 [some (vR o), l1, l2, l3] (vR o :: st) T σ K := R_aload_n (n := 0) (by decide +kernel) rfl
theorem s31_136 : Rn 31 136 L (vR o :: st) T σ K ↔ sx_kd T o = 5 ∧ Rn 31 139 L (vI (σ o 7) :: st) T σ K := R_getI (idx := 26) (ci := 5) (k := 7) (by decide +kernel) (by decide +kernel) (Or.inl rfl)
theorem s31_139 : Rn 31 139 L (vI b :: vI a :: vR o :: st) T σ K ↔ (sx_kd T o = 5 ∧ st.length ≤ 4) ∧ Rn 23 0 [some (vR o), some (vI a), some (vI b)] [] T σ (fun r T' σ' => Rn 31 142 L (sx_push r st) T' σ' K) := R_V (cm := 23) (n := 2) (idx := 73) (ci := 5) (mx := 3) (vs := [vI a, vI b]) (by decide +kernel) (by decide +kernel) rfl (by decide +kernel) rfl (by decide +kernel) (by decide +kernel)
theorem s31_142 : Rn 31 142 L (vI a :: st) T σ K ↔ Rn 31 143 L st T σ K := R_pop (v := vI a) (by decide +kernel) rfl
theorem s31_143 : Rn 31 143 L st T σ K ↔ Rn 31 144 L (vI (-1) :: st) T σ K := R_iconst (n := -1) (by decide +kernel) (by decide)
theorem s31_144 : Rn 31 144 L [vI a] T σ K ↔ K (some (vI a)) T σ := R_ret (by decide +kernel) (by decide +kernel)
theorem s31_145 : Rn 31 145 [l0, l1, some (vI a), l3] st T σ K ↔ Rn 31 146 [l0, l1, some (vI a), l3] (vI a :: st) T σ K := R_iload_n (n := 2) (by decide +kernel) rfl
theorem s31_146 : Rn 31 146 L st T σ K ↔ Rn 31 149 L (vI 255 :: st) T σ K := R_sipush (n := 255) (by decide +kernel) (by decide +kernel)
theorem s31_149 : Rn 31 149 L (vI b :: vI a :: st) T σ K ↔ (a ≤ b → Rn 31 164 L st T σ K) ∧ (b < a → Rn 31 152 L st T σ K) := R_icmp_le (off := 15) (by decide +kernel) (by decide)
theorem s31_152 : Rn 31 152 [some (vR o), l1, l2, l3] st T σ K ↔ Rn 31 153 [some (vR o), l1, l2, l3] (vR o :: st) T σ K := R_aload_n (n := 0) (by decide +kernel) rfl
theorem s31_153 : Rn 31 153 L st T σ K ↔ Rn 31 154 L (vI 2 :: st) T σ K := R_iconst (n := 2) (by decide +kernel) (by decide)
theorem s31_154 : Rn 31 154 [some (vR o), l1, l2, l3] st T σ K ↔ Rn 31 155 [some (vR o), l1, l2, l3] (vR o :: st) T σ K := R_aload_n (n := 0) (by decide +kernel) rfl
theorem s31_155 : Rn 31 155 L (vR o :: st) T σ K ↔ sx_kd T o = 5 ∧ Rn 31 158 L (vI (σ o 8) :: st) T σ K := R_getI (idx := 106) (ci := 5) (k := 8) (by decide +kernel) (by decide +kernel) (Or.inl rfl)
theorem s31_158 : Rn 31 158 L (vI b :: vI a :: vR o :: st) T σ K ↔ (sx_kd T o = 5 ∧ st.length ≤ 4) ∧ Rn 23 0 [some (vR o), some (vI a), some (vI b)] [] T σ (fun r T' σ' => Rn 31 161 L (sx_push r st) T' σ' K) := R_V (cm := 23) (n := 2) (idx := 73) (ci := 5) (mx := 3) (vs := [vI a, vI b]) (by decide +kernel) (by decide +kernel) rfl (by decide +kernel) rfl (by decide +kernel) (by decide +kernel)
theorem s31_161 : Rn 31 161 L (vI a :: st) T σ K ↔ Rn 31 162 L st T σ K := R_pop (v := vI a) (by decide +kernel) rfl
theorem s31_162 : Rn 31 162 L st T σ K ↔ Rn 31 163 L (vI (-1) :: st) T σ K := R_iconst (n := -1) (by decide +kernel) (by decide)
theorem s31_163 : Rn 31 163 L [vI a] T σ K ↔ K (some (vI a)) T σ := R_ret (by decide +kernel) (by decide +kernel)
theorem s31_164 : Rn 31 164 [l0, l1, some (vI a), l3] st T σ K ↔ Rn 31 165 [l0, l1, some (vI a), l3] (vI a :: st) T σ K := R_iload_n (n := 2) (by decide +kernel) rfl
theorem s31_165 : Rn 31 165 L [vI a] T σ K ↔ K (some (vI a)) T σ := R_ret (by decide +kernel) (by decide +kernel)
theorem s32_0 : Rn 32 0 [some (vI a)] st T σ K ↔ Rn 32 1 [some (vI a)] (vI a :: st) T σ K := R_iload_n (n := 0) (by decide +kernel) rfl
theorem s32_1 : Rn 32 1 L st T σ K ↔ Rn 32 3 L (vI 48 :: st) T σ K := R_bipush (n := 48) (by decide +kernel) (by decide +kernel)
theorem s32_3 : Rn 32 3 L (vI b :: vI a :: st) T σ K ↔ (a < b → Rn 32 16 L st T σ K) ∧ (b ≤ a → Rn 32 6 L st T σ K) := R_icmp_lt (off := 13) (by decide +kernel) (by decide)
theorem s32_6 : Rn 32 6 [some (vI a)] st T σ K ↔ Rn 32 7 [some (vI a)] (vI a :: st) T σ K := R_iload_n (n := 0) (by decide +kernel) rfl
theorem s32_7 : Rn 32 7 L st T σ K ↔ Rn 32 9 L (vI 57 :: st) T σ K := R_bipush (n := 57) (by decide +kernel) (by decide +kernel)
theorem s32_9 : Rn 32 9 L (vI b :: vI a :: st) T σ K ↔ (b < a → Rn 32 16 L st T σ K) ∧ (a ≤ b → Rn 32 12 L st T σ K) := R_icmp_gt (off := 7) (by decide +kernel) (by decide)
theorem s32_12 : Rn 32 12 L st T σ K ↔ Rn 32 13 L (vI 1 :: st) T σ K := R_iconst (n := 1) (by decide +kernel) (by decide)
theorem s32_13 : Rn 32 13 L st T σ K ↔ Rn 32 17 L st T σ K := R_goto (off := 4) (by decide +kernel) (by decide)
theorem s32_16 : Rn 32 16 L st T σ K ↔ Rn 32 17 L (vI 0 :: st) T σ K := R_iconst (n := 0) (by decide +kernel) (by decide)
theorem s32_17 : Rn 32 17 L [vI a] T σ K ↔ (a = 0 ∨ a = 1) ∧ K (some (vI a)) T σ := R_retZ (by decide +kernel) (by decide +kernel)
theorem s33_0 : Rn 33 0 [some (vI a), l1, l2] st T σ K ↔ Rn 33 1 [some (vI a), l1, l2] (vI a :: st) T σ K := R_iload_n (n := 0) (by decide +kernel) rfl
theorem s33_1 : Rn 33 1 L (vI a :: st) T σ K ↔ st.length ≤ 4 ∧ Rn 34 0 [some (vI a)] [] T σ (fun r T' σ' => Rn 33 4 L (sx_push r st) T' σ' K) := R_S (cm := 34) (n := 1) (idx := 391) (mx := 1) (vs := [vI a]) (by decide +kernel) (Or.inl (by decide +kernel)) rfl (by decide +kernel) rfl (by decide +kernel)
theorem s33_4 : Rn 33 4 L (vI a :: st) T σ K ↔ (a = 0 → Rn 33 35 L st T σ K) ∧ (a ≠ 0 → Rn 33 7 L st T σ K) := R_if_eq (off := 31) (by decide +kernel) (by decide)
theorem s33_7 : Rn 33 7 [l0, some (vI a), l2] st T σ K ↔ Rn 33 8 [l0, some (vI a), l2] (vI a :: st) T σ K := R_iload_n (n := 1) (by decide +kernel) rfl
theorem s33_8 : Rn 33 8 L (vI a :: st) T σ K ↔ st.length ≤ 4 ∧ Rn 34 0 [some (vI a)] [] T σ (fun r T' σ' => Rn 33 11 L (sx_push r st) T' σ' K) := R_S (cm := 34) (n := 1) (idx := 391) (mx := 1) (vs := [vI a]) (by decide +kernel) (Or.inl (by decide +kernel)) rfl (by decide +kernel) rfl (by decide +kernel)
theorem s33_11 : Rn 33 11 L (vI a :: st) T σ K ↔ (a = 0 → Rn 33 35 L st T σ K) ∧ (a ≠ 0 → Rn 33 14 L st T σ K) := R_if_eq (off := 24) (by decide +kernel) (by decide)
theorem s33_14 : Rn 33 14 [l0, l1, some (vI a)] st T σ K ↔ Rn 33 15 [l0, l1, some (vI a)] (vI a :: st) T σ K := R_iload_n (n := 2) (by decide +kernel) rfl
theorem s33_15 : Rn 33 15 L (vI a :: st) T σ K ↔ st.length ≤ 4 ∧ Rn 34 0 [some (vI a)] [] T σ (fun r T' σ' => Rn 33 18 L (sx_push r st) T' σ' K) := R_S (cm := 34) (n := 1) (idx := 391) (mx := 1) (vs := [vI a]) (by decide +kernel) (Or.inl (by decide +kernel)) rfl (by decide +kernel) rfl (by decide +kernel)
theorem s33_18 : Rn 33 18 L (vI a :: st) T σ K ↔ (a = 0 → Rn 33 35 L st T σ K) ∧ (a ≠ 0 → Rn 33 21 L st T σ K) := R_if_eq (off := 17) (by decide +kernel) (by decide)
theorem s33_21 : Rn 33 21 [some (vI a), l1, l2] st T σ K ↔ Rn 33 22 [some (vI a), l1, l2] (vI a :: st) T σ K := R_iload_n (n := 0) (by decide +kernel) rfl
theorem s33_22 : Rn 33 22 L st T σ K ↔ Rn 33 24 L (vI 16 :: st) T σ K := R_bipush (n := 16) (by decide +kernel) (by decide +kernel)
theorem s33_24 : Rn 33 24 L (vI b :: vI a :: st) T σ K ↔ (0 ≤ b ∧ b ≤ 31) ∧ inI (a * 2 ^ b.toNat) ∧ Rn 33 25 L (vI (a * 2 ^ b.toNat) :: st) T σ K := R_ishl (by decide +kernel)
theorem s33_25 : Rn 33 25 [l0, some (vI a), l2] st T σ K ↔ Rn 33 26 [l0, some (vI a), l2] (vI a :: st) T σ K := R_iload_n (n := 1) (by decide +kernel) rfl
theorem s33_26 : Rn 33 26 L st T σ K ↔ Rn 33 28 L (vI 8 :: st) T σ K := R_bipush (n := 8) (by decide +kernel) (by decide +kernel)
theorem s33_28 : Rn 33 28 L (vI b :: vI a :: st) T σ K ↔ (0 ≤ b ∧ b ≤ 31) ∧ inI (a * 2 ^ b.toNat) ∧ Rn 33 29 L (vI (a * 2 ^ b.toNat) :: st) T σ K := R_ishl (by decide +kernel)
theorem s33_29 : Rn 33 29 L (vI b :: vI a :: st) T σ K ↔ Rn 33 30 L (vI (sx_or a b) :: st) T σ K := R_ior (by decide +kernel)
theorem s33_30 : Rn 33 30 [l0, l1, some (vI a)] st T σ K ↔ Rn 33 31 [l0, l1, some (vI a)] (vI a :: st) T σ K := R_iload_n (n := 2) (by decide +kernel) rfl
theorem s33_31 : Rn 33 31 L (vI b :: vI a :: st) T σ K ↔ Rn 33 32 L (vI (sx_or a b) :: st) T σ K := R_ior (by decide +kernel)
theorem s33_32 : Rn 33 32 L st T σ K ↔ Rn 33 36 L st T σ K := R_goto (off := 4) (by decide +kernel) (by decide)
theorem s33_35 : Rn 33 35 L st T σ K ↔ Rn 33 36 L (vI (-1) :: st) T σ K := R_iconst (n := -1) (by decide +kernel) (by decide)
theorem s33_36 : Rn 33 36 L [vI a] T σ K ↔ K (some (vI a)) T σ := R_ret (by decide +kernel) (by decide +kernel)
theorem s34_0 : Rn 34 0 [some (vI a)] st T σ K ↔ Rn 34 1 [some (vI a)] (vI a :: st) T σ K := R_iload_n (n := 0) (by decide +kernel) rfl
theorem s34_1 : Rn 34 1 L (vI a :: st) T σ K ↔ (a < 0 → Rn 34 15 L st T σ K) ∧ (0 ≤ a → Rn 34 4 L st T σ K) := R_if_lt (off := 14) (by decide +kernel) (by decide)
theorem s34_4 : Rn 34 4 [some (vI a)] st T σ K ↔ Rn 34 5 [some (vI a)] (vI a :: st) T σ K := R_iload_n (n := 0) (by decide +kernel) rfl
theorem s34_5 : Rn 34 5 L st T σ K ↔ Rn 34 8 L (vI 255 :: st) T σ K := R_sipush (n := 255) (by decide +kernel) (by decide +kernel)
theorem s34_8 : Rn 34 8 L (vI b :: vI a :: st) T σ K ↔ (b < a → Rn 34 15 L st T σ K) ∧ (a ≤ b → Rn 34 11 L st T σ K) := R_icmp_gt (off := 7) (by decide +kernel) (by decide)
theorem s34_11 : Rn 34 11 L st T σ K ↔ Rn 34 12 L (vI 1 :: st) T σ K := R_iconst (n := 1) (by decide +kernel) (by decide)
theorem s34_12 : Rn 34 12 L st T σ K ↔ Rn 34 16 L st T σ K := R_goto (off := 4) (by decide +kernel) (by decide)
theorem s34_15 : Rn 34 15 L st T σ K ↔ Rn 34 16 L (vI 0 :: st) T σ K := R_iconst (n := 0) (by decide +kernel) (by decide)
theorem s34_16 : Rn 34 16 L [vI a] T σ K ↔ (a = 0 ∨ a = 1) ∧ K (some (vI a)) T σ := R_retZ (by decide +kernel) (by decide +kernel)
theorem s35_0 : Rn 35 0 [some (vR o)] st T σ K ↔ Rn 35 1 [some (vR o)] (vR o :: st) T σ K := R_aload_n (n := 0) (by decide +kernel) rfl
theorem s35_1 : Rn 35 1 L (vR o :: st) T σ K ↔ sx_kd T o = 2 ∧ ∃ t, sx_rf T o 1 = some t ∧ Rn 35 4 L (vR t :: st) T σ K := R_getR (idx := 15) (ci := 2) (k := 1) (by decide +kernel) (by decide +kernel) rfl
theorem s35_4 : Rn 35 4 L st T σ K ↔ Rn 35 5 L (vI (-1) :: st) T σ K := R_iconst (n := -1) (by decide +kernel) (by decide)
theorem s35_5 : Rn 35 5 L (vI a :: vR p :: st) T σ K ↔ st.length ≤ 4 ∧ Rn 5 0 [some (vR p), some (vI a), none, none] [] T σ (fun r T' σ' => Rn 35 8 L (sx_push r st) T' σ' K) := R_S (cm := 5) (n := 2) (idx := 31) (mx := 4) (vs := [vR p, vI a]) (by decide +kernel) (Or.inl (by decide +kernel)) rfl (by decide +kernel) rfl (by decide +kernel)
theorem s35_8 : Rn 35 8 [some (vR o)] st T σ K ↔ Rn 35 9 [some (vR o)] (vR o :: st) T σ K := R_aload_n (n := 0) (by decide +kernel) rfl
theorem s35_9 : Rn 35 9 L (vR o :: st) T σ K ↔ sx_kd T o = 2 ∧ ∃ t, sx_rf T o 2 = some t ∧ Rn 35 12 L (vR t :: st) T σ K := R_getR (idx := 18) (ci := 2) (k := 2) (by decide +kernel) (by decide +kernel) rfl
theorem s35_12 : Rn 35 12 L st T σ K ↔ Rn 35 13 L (vI (-1) :: st) T σ K := R_iconst (n := -1) (by decide +kernel) (by decide)
theorem s35_13 : Rn 35 13 L (vI a :: vR p :: st) T σ K ↔ st.length ≤ 4 ∧ Rn 5 0 [some (vR p), some (vI a), none, none] [] T σ (fun r T' σ' => Rn 35 16 L (sx_push r st) T' σ' K) := R_S (cm := 5) (n := 2) (idx := 31) (mx := 4) (vs := [vR p, vI a]) (by decide +kernel) (Or.inl (by decide +kernel)) rfl (by decide +kernel) rfl (by decide +kernel)
theorem s35_16 : Rn 35 16 [some (vR o)] st T σ K ↔ Rn 35 17 [some (vR o)] (vR o :: st) T σ K := R_aload_n (n := 0) (by decide +kernel) rfl
theorem s35_17 : Rn 35 17 L (vR o :: st) T σ K ↔ sx_kd T o = 2 ∧ ∃ t, sx_rf T o 3 = some t ∧ Rn 35 20 L (vR t :: st) T σ K := R_getR (idx := 21) (ci := 2) (k := 3) (by decide +kernel) (by decide +kernel) rfl
theorem s35_20 : Rn 35 20 L st T σ K ↔ Rn 35 21 L (vI 0 :: st) T σ K := R_iconst (n := 0) (by decide +kernel) (by decide)
theorem s35_21 : Rn 35 21 L (vI a :: vR p :: st) T σ K ↔ st.length ≤ 4 ∧ Rn 5 0 [some (vR p), some (vI a), none, none] [] T σ (fun r T' σ' => Rn 35 24 L (sx_push r st) T' σ' K) := R_S (cm := 5) (n := 2) (idx := 31) (mx := 4) (vs := [vR p, vI a]) (by decide +kernel) (Or.inl (by decide +kernel)) rfl (by decide +kernel) rfl (by decide +kernel)
theorem s35_24 : Rn 35 24 [some (vR o)] st T σ K ↔ Rn 35 25 [some (vR o)] (vR o :: st) T σ K := R_aload_n (n := 0) (by decide +kernel) rfl
theorem s35_25 : Rn 35 25 L st T σ K ↔ Rn 35 26 L (vI (-1) :: st) T σ K := R_iconst (n := -1) (by decide +kernel) (by decide)
theorem s35_26 : Rn 35 26 L (vI a :: vR o :: st) T σ K ↔ sx_kd T o = 2 ∧ Rn 35 29 L st T (sx_up σ o 4 a) K := R_putI (idx := 24) (ci := 2) (k := 4) (by decide +kernel) (by decide +kernel) rfl rfl
theorem s35_29 : Rn 35 29 [some (vR o)] st T σ K ↔ Rn 35 30 [some (vR o)] (vR o :: st) T σ K := R_aload_n (n := 0) (by decide +kernel) rfl
theorem s35_30 : Rn 35 30 L st T σ K ↔ Rn 35 31 L (vI (-1) :: st) T σ K := R_iconst (n := -1) (by decide +kernel) (by decide)
theorem s35_31 : Rn 35 31 L (vI a :: vR o :: st) T σ K ↔ sx_kd T o = 2 ∧ Rn 35 34 L st T (sx_up σ o 5 a) K := R_putI (idx := 28) (ci := 2) (k := 5) (by decide +kernel) (by decide +kernel) rfl rfl
theorem s35_34 : Rn 35 34 [some (vR o)] st T σ K ↔ Rn 35 35 [some (vR o)] (vR o :: st) T σ K := R_aload_n (n := 0) (by decide +kernel) rfl
theorem s35_35 : Rn 35 35 L st T σ K ↔ Rn 35 36 L (vI 0 :: st) T σ K := R_iconst (n := 0) (by decide +kernel) (by decide)
theorem s35_36 : Rn 35 36 L (vI a :: vR o :: st) T σ K ↔ sx_kd T o = 2 ∧ Rn 35 39 L st T (sx_up σ o 6 a) K := R_putI (idx := 37) (ci := 2) (k := 6) (by decide +kernel) (by decide +kernel) rfl rfl
theorem s35_39 : Rn 35 39 L [] T σ K ↔ K none T σ := R_retV (by decide +kernel) (by decide +kernel)
theorem s36_0 : Rn 36 0 [l0, some (vI a), l2] st T σ K ↔ Rn 36 1 [l0, some (vI a), l2] (vI a :: st) T σ K := R_iload_n (n := 1) (by decide +kernel) rfl
theorem s36_1 : Rn 36 1 L (vI a :: st) T σ K ↔ (a < 0 → Rn 36 34 L st T σ K) ∧ (0 ≤ a → Rn 36 4 L st T σ K) := R_if_lt (off := 33) (by decide +kernel) (by decide)
theorem s36_4 : Rn 36 4 [l0, some (vI a), l2] st T σ K ↔ Rn 36 5 [l0, some (vI a), l2] (vI a :: st) T σ K := R_iload_n (n := 1) (by decide +kernel) rfl
theorem s36_5 : Rn 36 5 L st T σ K ↔ Rn 36 7 L (vI 40 :: st) T σ K := R_bipush (n := 40) (by decide +kernel) (by decide +kernel)
theorem s36_7 : Rn 36 7 L (vI b :: vI a :: st) T σ K ↔ (b ≤ a → Rn 36 34 L st T σ K) ∧ (a < b → Rn 36 10 L st T σ K) := R_icmp_ge (off := 27) (by decide +kernel) (by decide)
theorem s36_10 : Rn 36 10 [some (vR o), l1, l2] st T σ K ↔ Rn 36 11 [some (vR o), l1, l2] (vR o :: st) T σ K := R_aload_n (n := 0) (by decide +kernel) rfl
theorem s36_11 : Rn 36 11 [l0, some (vI a), l2] st T σ K ↔ Rn 36 12 [l0, some (vI a), l2] (vI a :: st) T σ K := R_iload_n (n := 1) (by decide +kernel) rfl
theorem s36_12 : Rn 36 12 L st T σ K ↔ Rn 36 13 L (vI 0 :: st) T σ K := R_iconst (n := 0) (by decide +kernel) (by decide)
theorem s36_13 : Rn 36 13 [l0, l1, some (vI a)] st T σ K ↔ Rn 36 14 [l0, l1, some (vI a)] (vI a :: st) T σ K := R_iload_n (n := 2) (by decide +kernel) rfl
theorem s36_14 : Rn 36 14 L (vI c :: vI b :: vI a :: vR o :: st) T σ K ↔ (sx_kd T o = 2 ∧ st.length ≤ 4) ∧ Rn 37 0 [some (vR o), some (vI a), some (vI b), some (vI c), none] [] T σ (fun r T' σ' => Rn 36 17 L (sx_push r st) T' σ' K) := R_V (cm := 37) (n := 3) (idx := 71) (ci := 2) (mx := 5) (vs := [vI a, vI b, vI c]) (by decide +kernel) (by decide +kernel) rfl (by decide +kernel) rfl (by decide +kernel) (by decide +kernel)
theorem s36_17 : Rn 36 17 [some (vR o), l1, l2] st T σ K ↔ Rn 36 18 [some (vR o), l1, l2] (vR o :: st) T σ K := R_aload_n (n := 0) (by decide +kernel) rfl
theorem s36_18 : Rn 36 18 L (vR o :: st) T σ K ↔ sx_kd T o = 2 ∧ ∃ t, sx_rf T o 0 = some t ∧ Rn 36 21 L (vR t :: st) T σ K := R_getR (idx := 9) (ci := 2) (k := 0) (by decide +kernel) (by decide +kernel) rfl
theorem s36_21 : Rn 36 21 [l0, some (vI a), l2] st T σ K ↔ Rn 36 22 [l0, some (vI a), l2] (vI a :: st) T σ K := R_iload_n (n := 1) (by decide +kernel) rfl
theorem s36_22 : Rn 36 22 [l0, l1, some (vI a)] st T σ K ↔ Rn 36 23 [l0, l1, some (vI a)] (vI a :: st) T σ K := R_iload_n (n := 2) (by decide +kernel) rfl
theorem s36_23 : Rn 36 23 L (vI b :: vI a :: vR o :: st) T σ K ↔ (sx_kd T o = 20 ∧ 0 ≤ a ∧ a < sx_ln T o) ∧ Rn 36 24 L st T (sx_up σ o a b) K := R_iast (by decide +kernel)
theorem s36_24 : Rn 36 24 [some (vR o), l1, l2] st T σ K ↔ Rn 36 25 [some (vR o), l1, l2] (vR o :: st) T σ K := R_aload_n (n := 0) (by decide +kernel) rfl
theorem s36_25 : Rn 36 25 L (vR o :: st) T σ K ↔ Rn 36 26 L (vR o :: vR o :: st) T σ K := R_dup (v := vR o) (by decide +kernel) rfl
theorem s36_26 : Rn 36 26 L (vR o :: st) T σ K ↔ sx_kd T o = 2 ∧ Rn 36 29 L (vI (σ o 6) :: st) T σ K := R_getI (idx := 37) (ci := 2) (k := 6) (by decide +kernel) (by decide +kernel) (Or.inl rfl)
theorem s36_29 : Rn 36 29 L st T σ K ↔ Rn 36 30 L (vI 1 :: st) T σ K := R_iconst (n := 1) (by decide +kernel) (by decide)
theorem s36_30 : Rn 36 30 L (vI b :: vI a :: st) T σ K ↔ inI (a + b) ∧ Rn 36 31 L (vI (a + b) :: st) T σ K := R_iadd (by decide +kernel)
theorem s36_31 : Rn 36 31 L (vI a :: vR o :: st) T σ K ↔ sx_kd T o = 2 ∧ Rn 36 34 L st T (sx_up σ o 6 a) K := R_putI (idx := 37) (ci := 2) (k := 6) (by decide +kernel) (by decide +kernel) rfl rfl
theorem s36_34 : Rn 36 34 L [] T σ K ↔ K none T σ := R_retV (by decide +kernel) (by decide +kernel)
theorem s37_0 : Rn 37 0 [some (vR o), l1, l2, l3, l4] st T σ K ↔ Rn 37 1 [some (vR o), l1, l2, l3, l4] (vR o :: st) T σ K := R_aload_n (n := 0) (by decide +kernel) rfl
theorem s37_1 : Rn 37 1 L (vR o :: st) T σ K ↔ sx_kd T o = 2 ∧ Rn 37 4 L (vI (σ o 5) :: st) T σ K := R_getI (idx := 28) (ci := 2) (k := 5) (by decide +kernel) (by decide +kernel) (Or.inl rfl)
theorem s37_4 : Rn 37 4 L st T σ K ↔ Rn 37 5 L (vI (-1) :: st) T σ K := R_iconst (n := -1) (by decide +kernel) (by decide)
theorem s37_5 : Rn 37 5 L (vI b :: vI a :: st) T σ K ↔ (a ≠ b → Rn 37 31 L st T σ K) ∧ (a = b → Rn 37 8 L st T σ K) := R_icmp_ne (off := 26) (by decide +kernel) (by decide)
theorem s37_8 : Rn 37 8 [some (vR o), l1, l2, l3, l4] st T σ K ↔ Rn 37 9 [some (vR o), l1, l2, l3, l4] (vR o :: st) T σ K := R_aload_n (n := 0) (by decide +kernel) rfl
theorem s37_9 : Rn 37 9 [l0, some (vI a), l2, l3, l4] st T σ K ↔ Rn 37 10 [l0, some (vI a), l2, l3, l4] (vI a :: st) T σ K := R_iload_n (n := 1) (by decide +kernel) rfl
theorem s37_10 : Rn 37 10 L (vI a :: vR o :: st) T σ K ↔ sx_kd T o = 2 ∧ Rn 37 13 L st T (sx_up σ o 5 a) K := R_putI (idx := 28) (ci := 2) (k := 5) (by decide +kernel) (by decide +kernel) rfl rfl
theorem s37_13 : Rn 37 13 [some (vR o), l1, l2, l3, l4] st T σ K ↔ Rn 37 14 [some (vR o), l1, l2, l3, l4] (vR o :: st) T σ K := R_aload_n (n := 0) (by decide +kernel) rfl
theorem s37_14 : Rn 37 14 L (vR o :: st) T σ K ↔ sx_kd T o = 2 ∧ ∃ t, sx_rf T o 1 = some t ∧ Rn 37 17 L (vR t :: st) T σ K := R_getR (idx := 15) (ci := 2) (k := 1) (by decide +kernel) (by decide +kernel) rfl
theorem s37_17 : Rn 37 17 [l0, some (vI a), l2, l3, l4] st T σ K ↔ Rn 37 18 [l0, some (vI a), l2, l3, l4] (vI a :: st) T σ K := R_iload_n (n := 1) (by decide +kernel) rfl
theorem s37_18 : Rn 37 18 L st T σ K ↔ Rn 37 20 L (vI 10 :: st) T σ K := R_bipush (n := 10) (by decide +kernel) (by decide +kernel)
theorem s37_20 : Rn 37 20 L (vI b :: vI a :: vR o :: st) T σ K ↔ (sx_kd T o = 20 ∧ 0 ≤ a ∧ a < sx_ln T o) ∧ Rn 37 21 L st T (sx_up σ o a b) K := R_iast (by decide +kernel)
theorem s37_21 : Rn 37 21 [some (vR o), l1, l2, l3, l4] st T σ K ↔ Rn 37 22 [some (vR o), l1, l2, l3, l4] (vR o :: st) T σ K := R_aload_n (n := 0) (by decide +kernel) rfl
theorem s37_22 : Rn 37 22 L (vR o :: st) T σ K ↔ sx_kd T o = 2 ∧ ∃ t, sx_rf T o 2 = some t ∧ Rn 37 25 L (vR t :: st) T σ K := R_getR (idx := 18) (ci := 2) (k := 2) (by decide +kernel) (by decide +kernel) rfl
theorem s37_25 : Rn 37 25 [l0, some (vI a), l2, l3, l4] st T σ K ↔ Rn 37 26 [l0, some (vI a), l2, l3, l4] (vI a :: st) T σ K := R_iload_n (n := 1) (by decide +kernel) rfl
theorem s37_26 : Rn 37 26 L st T σ K ↔ Rn 37 27 L (vI (-1) :: st) T σ K := R_iconst (n := -1) (by decide +kernel) (by decide)
theorem s37_27 : Rn 37 27 L (vI b :: vI a :: vR o :: st) T σ K ↔ (sx_kd T o = 20 ∧ 0 ≤ a ∧ a < sx_ln T o) ∧ Rn 37 28 L st T (sx_up σ o a b) K := R_iast (by decide +kernel)
theorem s37_28 : Rn 37 28 L st T σ K ↔ Rn 37 62 L st T σ K := R_goto (off := 34) (by decide +kernel) (by decide)
theorem s37_31 : Rn 37 31 [some (vR o), l1, l2, l3, l4] st T σ K ↔ Rn 37 32 [some (vR o), l1, l2, l3, l4] (vR o :: st) T σ K := R_aload_n (n := 0) (by decide +kernel) rfl
theorem s37_32 : Rn 37 32 [l0, l1, some (vI a), l3, l4] st T σ K ↔ Rn 37 33 [l0, l1, some (vI a), l3, l4] (vI a :: st) T σ K := R_iload_n (n := 2) (by decide +kernel) rfl
theorem s37_33 : Rn 37 33 [l0, l1, l2, some (vI a), l4] st T σ K ↔ Rn 37 34 [l0, l1, l2, some (vI a), l4] (vI a :: st) T σ K := R_iload_n (n := 3) (by decide +kernel) rfl
theorem s37_34 : Rn 37 34 L (vI b :: vI a :: vR o :: st) T σ K ↔ (sx_kd T o = 2 ∧ st.length ≤ 4) ∧ Rn 38 0 [some (vR o), some (vI a), some (vI b), none, none] [] T σ (fun r T' σ' => Rn 37 37 L (sx_push r st) T' σ' K) := R_V (cm := 38) (n := 2) (idx := 75) (ci := 2) (mx := 5) (vs := [vI a, vI b]) (by decide +kernel) (by decide +kernel) rfl (by decide +kernel) rfl (by decide +kernel) (by decide +kernel)
theorem s37_37 : Rn 37 37 [l0, l1, l2, l3, l4] (vI a :: st) T σ K ↔ Rn 37 39 [l0, l1, l2, l3, some (vI a)] st T σ K := R_istore (n := 4) (by decide +kernel) rfl
theorem s37_39 : Rn 37 39 [some (vR o), l1, l2, l3, l4] st T σ K ↔ Rn 37 40 [some (vR o), l1, l2, l3, l4] (vR o :: st) T σ K := R_aload_n (n := 0) (by decide +kernel) rfl
theorem s37_40 : Rn 37 40 L (vR o :: st) T σ K ↔ sx_kd T o = 2 ∧ ∃ t, sx_rf T o 2 = some t ∧ Rn 37 43 L (vR t :: st) T σ K := R_getR (idx := 18) (ci := 2) (k := 2) (by decide +kernel) (by decide +kernel) rfl
theorem s37_43 : Rn 37 43 [l0, some (vI a), l2, l3, l4] st T σ K ↔ Rn 37 44 [l0, some (vI a), l2, l3, l4] (vI a :: st) T σ K := R_iload_n (n := 1) (by decide +kernel) rfl
theorem s37_44 : Rn 37 44 [some (vR o), l1, l2, l3, l4] st T σ K ↔ Rn 37 45 [some (vR o), l1, l2, l3, l4] (vR o :: st) T σ K := R_aload_n (n := 0) (by decide +kernel) rfl
theorem s37_45 : Rn 37 45 [l0, l1, l2, l3, some (vI a)] st T σ K ↔ Rn 37 47 [l0, l1, l2, l3, some (vI a)] (vI a :: st) T σ K := R_iload (n := 4) (by decide +kernel) rfl
theorem s37_47 : Rn 37 47 L st T σ K ↔ Rn 37 48 L (vI 1 :: st) T σ K := R_iconst (n := 1) (by decide +kernel) (by decide)
theorem s37_48 : Rn 37 48 L (vI b :: vI a :: st) T σ K ↔ inI (a + b) ∧ Rn 37 49 L (vI (a + b) :: st) T σ K := R_iadd (by decide +kernel)
theorem s37_49 : Rn 37 49 [l0, l1, l2, some (vI a), l4] st T σ K ↔ Rn 37 50 [l0, l1, l2, some (vI a), l4] (vI a :: st) T σ K := R_iload_n (n := 3) (by decide +kernel) rfl
theorem s37_50 : Rn 37 50 L (vI b :: vI a :: vR o :: st) T σ K ↔ (sx_kd T o = 2 ∧ st.length ≤ 4) ∧ Rn 39 0 [some (vR o), some (vI a), some (vI b), none, none, none, none] [] T σ (fun r T' σ' => Rn 37 53 L (sx_push r st) T' σ' K) := R_V (cm := 39) (n := 2) (idx := 65) (ci := 2) (mx := 7) (vs := [vI a, vI b]) (by decide +kernel) (by decide +kernel) rfl (by decide +kernel) rfl (by decide +kernel) (by decide +kernel)
theorem s37_53 : Rn 37 53 L (vI b :: vI a :: vR o :: st) T σ K ↔ (sx_kd T o = 20 ∧ 0 ≤ a ∧ a < sx_ln T o) ∧ Rn 37 54 L st T (sx_up σ o a b) K := R_iast (by decide +kernel)
theorem s37_54 : Rn 37 54 [some (vR o), l1, l2, l3, l4] st T σ K ↔ Rn 37 55 [some (vR o), l1, l2, l3, l4] (vR o :: st) T σ K := R_aload_n (n := 0) (by decide +kernel) rfl
theorem s37_55 : Rn 37 55 L (vR o :: st) T σ K ↔ sx_kd T o = 2 ∧ ∃ t, sx_rf T o 1 = some t ∧ Rn 37 58 L (vR t :: st) T σ K := R_getR (idx := 15) (ci := 2) (k := 1) (by decide +kernel) (by decide +kernel) rfl
theorem s37_58 : Rn 37 58 [l0, some (vI a), l2, l3, l4] st T σ K ↔ Rn 37 59 [l0, some (vI a), l2, l3, l4] (vI a :: st) T σ K := R_iload_n (n := 1) (by decide +kernel) rfl
theorem s37_59 : Rn 37 59 [l0, l1, l2, l3, some (vI a)] st T σ K ↔ Rn 37 61 [l0, l1, l2, l3, some (vI a)] (vI a :: st) T σ K := R_iload (n := 4) (by decide +kernel) rfl
theorem s37_61 : Rn 37 61 L (vI b :: vI a :: vR o :: st) T σ K ↔ (sx_kd T o = 20 ∧ 0 ≤ a ∧ a < sx_ln T o) ∧ Rn 37 62 L st T (sx_up σ o a b) K := R_iast (by decide +kernel)
theorem s37_62 : Rn 37 62 L [] T σ K ↔ K none T σ := R_retV (by decide +kernel) (by decide +kernel)
theorem s38_0 : Rn 38 0 [l0, some (vI a), l2, l3, l4] st T σ K ↔ Rn 38 1 [l0, some (vI a), l2, l3, l4] (vI a :: st) T σ K := R_iload_n (n := 1) (by decide +kernel) rfl
theorem s38_1 : Rn 38 1 L st T σ K ↔ Rn 38 2 L (vI 1 :: st) T σ K := R_iconst (n := 1) (by decide +kernel) (by decide)
theorem s38_2 : Rn 38 2 L (vI b :: vI a :: st) T σ K ↔ inI (a + b) ∧ Rn 38 3 L (vI (a + b) :: st) T σ K := R_iadd (by decide +kernel)
theorem s38_3 : Rn 38 3 [l0, l1, l2, l3, l4] (vI a :: st) T σ K ↔ Rn 38 4 [l0, l1, l2, some (vI a), l4] st T σ K := R_istore_n (n := 3) (by decide +kernel) rfl
theorem s38_4 : Rn 38 4 [l0, l1, l2, some (vI a), l4] st T σ K ↔ Rn 38 5 [l0, l1, l2, some (vI a), l4] (vI a :: st) T σ K := R_iload_n (n := 3) (by decide +kernel) rfl
theorem s38_5 : Rn 38 5 L st T σ K ↔ Rn 38 7 L (vI 10 :: st) T σ K := R_bipush (n := 10) (by decide +kernel) (by decide +kernel)
theorem s38_7 : Rn 38 7 L (vI b :: vI a :: st) T σ K ↔ (b ≤ a → Rn 38 47 L st T σ K) ∧ (a < b → Rn 38 10 L st T σ K) := R_icmp_ge (off := 40) (by decide +kernel) (by decide)
theorem s38_10 : Rn 38 10 [some (vR o), l1, l2, l3, l4] st T σ K ↔ Rn 38 11 [some (vR o), l1, l2, l3, l4] (vR o :: st) T σ K := R_aload_n (n := 0) (by decide +kernel) rfl
theorem s38_11 : Rn 38 11 [l0, l1, l2, some (vI a), l4] st T σ K ↔ Rn 38 12 [l0, l1, l2, some (vI a), l4] (vI a :: st) T σ K := R_iload_n (n := 3) (by decide +kernel) rfl
theorem s38_12 : Rn 38 12 [l0, l1, some (vI a), l3, l4] st T σ K ↔ Rn 38 13 [l0, l1, some (vI a), l3, l4] (vI a :: st) T σ K := R_iload_n (n := 2) (by decide +kernel) rfl
theorem s38_13 : Rn 38 13 L (vI b :: vI a :: vR o :: st) T σ K ↔ (sx_kd T o = 2 ∧ st.length ≤ 4) ∧ Rn 39 0 [some (vR o), some (vI a), some (vI b), none, none, none, none] [] T σ (fun r T' σ' => Rn 38 16 L (sx_push r st) T' σ' K) := R_V (cm := 39) (n := 2) (idx := 65) (ci := 2) (mx := 7) (vs := [vI a, vI b]) (by decide +kernel) (by decide +kernel) rfl (by decide +kernel) rfl (by decide +kernel) (by decide +kernel)
theorem s38_16 : Rn 38 16 [l0, l1, l2, l3, l4] (vI a :: st) T σ K ↔ Rn 38 18 [l0, l1, l2, l3, some (vI a)] st T σ K := R_istore (n := 4) (by decide +kernel) rfl
theorem s38_18 : Rn 38 18 [l0, l1, l2, l3, some (vI a)] st T σ K ↔ Rn 38 20 [l0, l1, l2, l3, some (vI a)] (vI a :: st) T σ K := R_iload (n := 4) (by decide +kernel) rfl
theorem s38_20 : Rn 38 20 L st T σ K ↔ Rn 38 21 L (vI (-1) :: st) T σ K := R_iconst (n := -1) (by decide +kernel) (by decide)
theorem s38_21 : Rn 38 21 L (vI b :: vI a :: st) T σ K ↔ (a = b → Rn 38 41 L st T σ K) ∧ (a ≠ b → Rn 38 24 L st T σ K) := R_icmp_eq (off := 20) (by decide +kernel) (by decide)
theorem s38_24 : Rn 38 24 [some (vR o), l1, l2, l3, l4] st T σ K ↔ Rn 38 25 [some (vR o), l1, l2, l3, l4] (vR o :: st) T σ K := R_aload_n (n := 0) (by decide +kernel) rfl
theorem s38_25 : Rn 38 25 [l0, l1, l2, l3, some (vI a)] st T σ K ↔ Rn 38 27 [l0, l1, l2, l3, some (vI a)] (vI a :: st) T σ K := R_iload (n := 4) (by decide +kernel) rfl
theorem s38_27 : Rn 38 27 [l0, l1, some (vI a), l3, l4] st T σ K ↔ Rn 38 28 [l0, l1, some (vI a), l3, l4] (vI a :: st) T σ K := R_iload_n (n := 2) (by decide +kernel) rfl
theorem s38_28 : Rn 38 28 L (vI b :: vI a :: vR o :: st) T σ K ↔ (sx_kd T o = 2 ∧ st.length ≤ 4) ∧ Rn 42 0 [some (vR o), some (vI a), some (vI b)] [] T σ (fun r T' σ' => Rn 38 31 L (sx_push r st) T' σ' K) := R_V (cm := 42) (n := 2) (idx := 68) (ci := 2) (mx := 3) (vs := [vI a, vI b]) (by decide +kernel) (by decide +kernel) rfl (by decide +kernel) rfl (by decide +kernel) (by decide +kernel)
theorem s38_31 : Rn 38 31 L st T σ K ↔ Rn 38 32 L (vI 1 :: st) T σ K := R_iconst (n := 1) (by decide +kernel) (by decide)
theorem s38_32 : Rn 38 32 [l0, l1, l2, some (vI a), l4] st T σ K ↔ Rn 38 33 [l0, l1, l2, some (vI a), l4] (vI a :: st) T σ K := R_iload_n (n := 3) (by decide +kernel) rfl
theorem s38_33 : Rn 38 33 L (vI b :: vI a :: st) T σ K ↔ (0 ≤ b ∧ b ≤ 31) ∧ inI (a * 2 ^ b.toNat) ∧ Rn 38 34 L (vI (a * 2 ^ b.toNat) :: st) T σ K := R_ishl (by decide +kernel)
theorem s38_34 : Rn 38 34 L (vI b :: vI a :: st) T σ K ↔ (b ≤ a → Rn 38 41 L st T σ K) ∧ (a < b → Rn 38 37 L st T σ K) := R_icmp_ge (off := 7) (by decide +kernel) (by decide)
theorem s38_37 : Rn 38 37 [l0, l1, l2, some (vI a), l4] st T σ K ↔ Rn 38 38 [l0, l1, l2, some (vI a), l4] (vI a :: st) T σ K := R_iload_n (n := 3) (by decide +kernel) rfl
theorem s38_38 : Rn 38 38 L st T σ K ↔ Rn 38 39 L (vI 1 :: st) T σ K := R_iconst (n := 1) (by decide +kernel) (by decide)
theorem s38_39 : Rn 38 39 L (vI b :: vI a :: st) T σ K ↔ inI (a - b) ∧ Rn 38 40 L (vI (a - b) :: st) T σ K := R_isub (by decide +kernel)
theorem s38_40 : Rn 38 40 L [vI a] T σ K ↔ K (some (vI a)) T σ := R_ret (by decide +kernel) (by decide +kernel)
theorem s38_41 : Rn 38 41 [l0, l1, l2, some (vI a), l4] st T σ K ↔ inI (a + 1) ∧ Rn 38 44 [l0, l1, l2, some (vI (a + 1)), l4] st T σ K := R_iinc (n := 3) (d := 1) (by decide +kernel) rfl
theorem s38_44 : Rn 38 44 L st T σ K ↔ Rn 38 4 L st T σ K := R_goto (off := -40) (by decide +kernel) (by decide)
theorem s38_47 : Rn 38 47 L st T σ K ↔ Rn 38 49 L (vI 9 :: st) T σ K := R_bipush (n := 9) (by decide +kernel) (by decide +kernel)
theorem s38_49 : Rn 38 49 L [vI a] T σ K ↔ K (some (vI a)) T σ := R_ret (by decide +kernel) (by decide +kernel)
theorem s39_0 : Rn 39 0 L st T σ K ↔ Rn 39 1 L (vI (-1) :: st) T σ K := R_iconst (n := -1) (by decide +kernel) (by decide)
theorem s39_1 : Rn 39 1 [l0, l1, l2, l3, l4, l5, l6] (vI a :: st) T σ K ↔ Rn 39 2 [l0, l1, l2, some (vI a), l4, l5, l6] st T σ K := R_istore_n (n := 3) (by decide +kernel) rfl
theorem s39_2 : Rn 39 2 L st T σ K ↔ Rn 39 3 L (vI 0 :: st) T σ K := R_iconst (n := 0) (by decide +kernel) (by decide)
theorem s39_3 : Rn 39 3 [l0, l1, l2, l3, l4, l5, l6] (vI a :: st) T σ K ↔ Rn 39 5 [l0, l1, l2, l3, some (vI a), l5, l6] st T σ K := R_istore (n := 4) (by decide +kernel) rfl
theorem s39_5 : Rn 39 5 L st T σ K ↔ Rn 39 6 L (vI 0 :: st) T σ K := R_iconst (n := 0) (by decide +kernel) (by decide)
theorem s39_6 : Rn 39 6 [l0, l1, l2, l3, l4, l5, l6] (vI a :: st) T σ K ↔ Rn 39 8 [l0, l1, l2, l3, l4, some (vI a), l6] st T σ K := R_istore (n := 5) (by decide +kernel) rfl
theorem s39_8 : Rn 39 8 [l0, l1, l2, l3, l4, some (vI a), l6] st T σ K ↔ Rn 39 10 [l0, l1, l2, l3, l4, some (vI a), l6] (vI a :: st) T σ K := R_iload (n := 5) (by decide +kernel) rfl
theorem s39_10 : Rn 39 10 L st T σ K ↔ Rn 39 12 L (vI 40 :: st) T σ K := R_bipush (n := 40) (by decide +kernel) (by decide +kernel)
theorem s39_12 : Rn 39 12 L (vI b :: vI a :: st) T σ K ↔ (b ≤ a → Rn 39 68 L st T σ K) ∧ (a < b → Rn 39 15 L st T σ K) := R_icmp_ge (off := 56) (by decide +kernel) (by decide)
theorem s39_15 : Rn 39 15 [some (vR o), l1, l2, l3, l4, l5, l6] st T σ K ↔ Rn 39 16 [some (vR o), l1, l2, l3, l4, l5, l6] (vR o :: st) T σ K := R_aload_n (n := 0) (by decide +kernel) rfl
theorem s39_16 : Rn 39 16 L (vR o :: st) T σ K ↔ sx_kd T o = 2 ∧ ∃ t, sx_rf T o 1 = some t ∧ Rn 39 19 L (vR t :: st) T σ K := R_getR (idx := 15) (ci := 2) (k := 1) (by decide +kernel) (by decide +kernel) rfl
theorem s39_19 : Rn 39 19 [l0, l1, l2, l3, l4, some (vI a), l6] st T σ K ↔ Rn 39 21 [l0, l1, l2, l3, l4, some (vI a), l6] (vI a :: st) T σ K := R_iload (n := 5) (by decide +kernel) rfl
theorem s39_21 : Rn 39 21 L (vI a :: vR o :: st) T σ K ↔ (sx_kd T o = 20 ∧ 0 ≤ a ∧ a < sx_ln T o) ∧ Rn 39 22 L (vI (σ o a) :: st) T σ K := R_iald (by decide +kernel) (by decide)
theorem s39_22 : Rn 39 22 [l0, some (vI a), l2, l3, l4, l5, l6] st T σ K ↔ Rn 39 23 [l0, some (vI a), l2, l3, l4, l5, l6] (vI a :: st) T σ K := R_iload_n (n := 1) (by decide +kernel) rfl
theorem s39_23 : Rn 39 23 L (vI b :: vI a :: st) T σ K ↔ (a < b → Rn 39 62 L st T σ K) ∧ (b ≤ a → Rn 39 26 L st T σ K) := R_icmp_lt (off := 39) (by decide +kernel) (by decide)
theorem s39_26 : Rn 39 26 [some (vR o), l1, l2, l3, l4, l5, l6] st T σ K ↔ Rn 39 27 [some (vR o), l1, l2, l3, l4, l5, l6] (vR o :: st) T σ K := R_aload_n (n := 0) (by decide +kernel) rfl
theorem s39_27 : Rn 39 27 L (vR o :: st) T σ K ↔ sx_kd T o = 2 ∧ Rn 39 30 L (vI (σ o 4) :: st) T σ K := R_getI (idx := 24) (ci := 2) (k := 4) (by decide +kernel) (by decide +kernel) (Or.inl rfl)
theorem s39_30 : Rn 39 30 [some (vR o), l1, l2, l3, l4, l5, l6] st T σ K ↔ Rn 39 31 [some (vR o), l1, l2, l3, l4, l5, l6] (vR o :: st) T σ K := R_aload_n (n := 0) (by decide +kernel) rfl
theorem s39_31 : Rn 39 31 L (vR o :: st) T σ K ↔ sx_kd T o = 2 ∧ ∃ t, sx_rf T o 0 = some t ∧ Rn 39 34 L (vR t :: st) T σ K := R_getR (idx := 9) (ci := 2) (k := 0) (by decide +kernel) (by decide +kernel) rfl
theorem s39_34 : Rn 39 34 [l0, l1, l2, l3, l4, some (vI a), l6] st T σ K ↔ Rn 39 36 [l0, l1, l2, l3, l4, some (vI a), l6] (vI a :: st) T σ K := R_iload (n := 5) (by decide +kernel) rfl
theorem s39_36 : Rn 39 36 L (vI a :: vR o :: st) T σ K ↔ (sx_kd T o = 20 ∧ 0 ≤ a ∧ a < sx_ln T o) ∧ Rn 39 37 L (vI (σ o a) :: st) T σ K := R_iald (by decide +kernel) (by decide)
theorem s39_37 : Rn 39 37 [l0, l1, some (vI a), l3, l4, l5, l6] st T σ K ↔ Rn 39 38 [l0, l1, some (vI a), l3, l4, l5, l6] (vI a :: st) T σ K := R_iload_n (n := 2) (by decide +kernel) rfl
theorem s39_38 : Rn 39 38 L (vI c :: vI b :: vI a :: st) T σ K ↔ st.length ≤ 4 ∧ Rn 40 0 [some (vI a), some (vI b), some (vI c), none, none, none] [] T σ (fun r T' σ' => Rn 39 41 L (sx_push r st) T' σ' K) := R_S (cm := 40) (n := 3) (idx := 61) (mx := 6) (vs := [vI a, vI b, vI c]) (by decide +kernel) (Or.inl (by decide +kernel)) rfl (by decide +kernel) rfl (by decide +kernel)
theorem s39_41 : Rn 39 41 [l0, l1, l2, l3, l4, l5, l6] (vI a :: st) T σ K ↔ Rn 39 43 [l0, l1, l2, l3, l4, l5, some (vI a)] st T σ K := R_istore (n := 6) (by decide +kernel) rfl
theorem s39_43 : Rn 39 43 [l0, l1, l2, some (vI a), l4, l5, l6] st T σ K ↔ Rn 39 44 [l0, l1, l2, some (vI a), l4, l5, l6] (vI a :: st) T σ K := R_iload_n (n := 3) (by decide +kernel) rfl
theorem s39_44 : Rn 39 44 L st T σ K ↔ Rn 39 45 L (vI (-1) :: st) T σ K := R_iconst (n := -1) (by decide +kernel) (by decide)
theorem s39_45 : Rn 39 45 L (vI b :: vI a :: st) T σ K ↔ (a = b → Rn 39 55 L st T σ K) ∧ (a ≠ b → Rn 39 48 L st T σ K) := R_icmp_eq (off := 10) (by decide +kernel) (by decide)
theorem s39_48 : Rn 39 48 [l0, l1, l2, l3, l4, l5, some (vI a)] st T σ K ↔ Rn 39 50 [l0, l1, l2, l3, l4, l5, some (vI a)] (vI a :: st) T σ K := R_iload (n := 6) (by decide +kernel) rfl
theorem s39_50 : Rn 39 50 [l0, l1, l2, l3, some (vI a), l5, l6] st T σ K ↔ Rn 39 52 [l0, l1, l2, l3, some (vI a), l5, l6] (vI a :: st) T σ K := R_iload (n := 4) (by decide +kernel) rfl
theorem s39_52 : Rn 39 52 L (vI b :: vI a :: st) T σ K ↔ (b ≤ a → Rn 39 62 L st T σ K) ∧ (a < b → Rn 39 55 L st T σ K) := R_icmp_ge (off := 10) (by decide +kernel) (by decide)
theorem s39_55 : Rn 39 55 [l0, l1, l2, l3, l4, some (vI a), l6] st T σ K ↔ Rn 39 57 [l0, l1, l2, l3, l4, some (vI a), l6] (vI a :: st) T σ K := R_iload (n := 5) (by decide +kernel) rfl
theorem s39_57 : Rn 39 57 [l0, l1, l2, l3, l4, l5, l6] (vI a :: st) T σ K ↔ Rn 39 58 [l0, l1, l2, some (vI a), l4, l5, l6] st T σ K := R_istore_n (n := 3) (by decide +kernel) rfl
theorem s39_58 : Rn 39 58 [l0, l1, l2, l3, l4, l5, some (vI a)] st T σ K ↔ Rn 39 60 [l0, l1, l2, l3, l4, l5, some (vI a)] (vI a :: st) T σ K := R_iload (n := 6) (by decide +kernel) rfl
theorem s39_60 : Rn 39 60 [l0, l1, l2, l3, l4, l5, l6] (vI a :: st) T σ K ↔ Rn 39 62 [l0, l1, l2, l3, some (vI a), l5, l6] st T σ K := R_istore (n := 4) (by decide +kernel) rfl
theorem s39_62 : Rn 39 62 [l0, l1, l2, l3, l4, some (vI a), l6] st T σ K ↔ inI (a + 1) ∧ Rn 39 65 [l0, l1, l2, l3, l4, some (vI (a + 1)), l6] st T σ K := R_iinc (n := 5) (d := 1) (by decide +kernel) rfl
theorem s39_65 : Rn 39 65 L st T σ K ↔ Rn 39 8 L st T σ K := R_goto (off := -57) (by decide +kernel) (by decide)
theorem s39_68 : Rn 39 68 [l0, l1, l2, some (vI a), l4, l5, l6] st T σ K ↔ Rn 39 69 [l0, l1, l2, some (vI a), l4, l5, l6] (vI a :: st) T σ K := R_iload_n (n := 3) (by decide +kernel) rfl
theorem s39_69 : Rn 39 69 L [vI a] T σ K ↔ K (some (vI a)) T σ := R_ret (by decide +kernel) (by decide +kernel)
theorem s40_0 : Rn 40 0 [some (vI a), l1, l2, l3, l4, l5] st T σ K ↔ Rn 40 1 [some (vI a), l1, l2, l3, l4, l5] (vI a :: st) T σ K := R_iload_n (n := 0) (by decide +kernel) rfl
theorem s40_1 : Rn 40 1 L st T σ K ↔ Rn 40 2 L (vI 2 :: st) T σ K := R_iconst (n := 2) (by decide +kernel) (by decide)
theorem s40_2 : Rn 40 2 L (vI b :: vI a :: st) T σ K ↔ (a ≠ b → Rn 40 12 L st T σ K) ∧ (a = b → Rn 40 5 L st T σ K) := R_icmp_ne (off := 10) (by decide +kernel) (by decide)
theorem s40_5 : Rn 40 5 [l0, some (vI a), l2, l3, l4, l5] st T σ K ↔ Rn 40 6 [l0, some (vI a), l2, l3, l4, l5] (vI a :: st) T σ K := R_iload_n (n := 1) (by decide +kernel) rfl
theorem s40_6 : Rn 40 6 [l0, l1, some (vI a), l3, l4, l5] st T σ K ↔ Rn 40 7 [l0, l1, some (vI a), l3, l4, l5] (vI a :: st) T σ K := R_iload_n (n := 2) (by decide +kernel) rfl
theorem s40_7 : Rn 40 7 L (vI b :: vI a :: st) T σ K ↔ Rn 40 8 L (vI (sx_xor a b) :: st) T σ K := R_ixor (by decide +kernel)
theorem s40_8 : Rn 40 8 L (vI a :: st) T σ K ↔ st.length ≤ 4 ∧ Rn 41 0 [some (vI a)] [] T σ (fun r T' σ' => Rn 40 11 L (sx_push r st) T' σ' K) := R_S (cm := 41) (n := 1) (idx := 46) (mx := 1) (vs := [vI a]) (by decide +kernel) (Or.inl (by decide +kernel)) rfl (by decide +kernel) rfl (by decide +kernel)
theorem s40_11 : Rn 40 11 L [vI a] T σ K ↔ K (some (vI a)) T σ := R_ret (by decide +kernel) (by decide +kernel)
theorem s40_12 : Rn 40 12 [l0, some (vI a), l2, l3, l4, l5] st T σ K ↔ Rn 40 13 [l0, some (vI a), l2, l3, l4, l5] (vI a :: st) T σ K := R_iload_n (n := 1) (by decide +kernel) rfl
theorem s40_13 : Rn 40 13 L st T σ K ↔ Rn 40 15 L (vI 16 :: st) T σ K := R_bipush (n := 16) (by decide +kernel) (by decide +kernel)
theorem s40_15 : Rn 40 15 L (vI b :: vI a :: st) T σ K ↔ (0 ≤ b ∧ b ≤ 31) ∧ inI (a / 2 ^ b.toNat) ∧ Rn 40 16 L (vI (a / 2 ^ b.toNat) :: st) T σ K := R_ishr (by decide +kernel)
theorem s40_16 : Rn 40 16 L st T σ K ↔ Rn 40 19 L (vI 255 :: st) T σ K := R_sipush (n := 255) (by decide +kernel) (by decide +kernel)
theorem s40_19 : Rn 40 19 L (vI b :: vI a :: st) T σ K ↔ Rn 40 20 L (vI (sx_and a b) :: st) T σ K := R_iand (by decide +kernel)
theorem s40_20 : Rn 40 20 [l0, l1, some (vI a), l3, l4, l5] st T σ K ↔ Rn 40 21 [l0, l1, some (vI a), l3, l4, l5] (vI a :: st) T σ K := R_iload_n (n := 2) (by decide +kernel) rfl
theorem s40_21 : Rn 40 21 L st T σ K ↔ Rn 40 23 L (vI 16 :: st) T σ K := R_bipush (n := 16) (by decide +kernel) (by decide +kernel)
theorem s40_23 : Rn 40 23 L (vI b :: vI a :: st) T σ K ↔ (0 ≤ b ∧ b ≤ 31) ∧ inI (a / 2 ^ b.toNat) ∧ Rn 40 24 L (vI (a / 2 ^ b.toNat) :: st) T σ K := R_ishr (by decide +kernel)
theorem s40_24 : Rn 40 24 L st T σ K ↔ Rn 40 27 L (vI 255 :: st) T σ K := R_sipush (n := 255) (by decide +kernel) (by decide +kernel)
theorem s40_27 : Rn 40 27 L (vI b :: vI a :: st) T σ K ↔ Rn 40 28 L (vI (sx_and a b) :: st) T σ K := R_iand (by decide +kernel)
theorem s40_28 : Rn 40 28 L (vI b :: vI a :: st) T σ K ↔ inI (a - b) ∧ Rn 40 29 L (vI (a - b) :: st) T σ K := R_isub (by decide +kernel)
theorem s40_29 : Rn 40 29 L (vI a :: st) T σ K ↔ (st.length ≤ 4 ∧ inI (-a)) ∧ Rn 40 32 L (vI (if 0 ≤ a then a else -a) :: st) T σ K := R_abs (idx := 52) (by decide +kernel) (by decide +kernel) (by decide +kernel) (by decide +kernel)
theorem s40_32 : Rn 40 32 [l0, l1, l2, l3, l4, l5] (vI a :: st) T σ K ↔ Rn 40 33 [l0, l1, l2, some (vI a), l4, l5] st T σ K := R_istore_n (n := 3) (by decide +kernel) rfl
theorem s40_33 : Rn 40 33 [l0, some (vI a), l2, l3, l4, l5] st T σ K ↔ Rn 40 34 [l0, some (vI a), l2, l3, l4, l5] (vI a :: st) T σ K := R_iload_n (n := 1) (by decide +kernel) rfl
theorem s40_34 : Rn 40 34 L st T σ K ↔ Rn 40 36 L (vI 8 :: st) T σ K := R_bipush (n := 8) (by decide +kernel) (by decide +kernel)
theorem s40_36 : Rn 40 36 L (vI b :: vI a :: st) T σ K ↔ (0 ≤ b ∧ b ≤ 31) ∧ inI (a / 2 ^ b.toNat) ∧ Rn 40 37 L (vI (a / 2 ^ b.toNat) :: st) T σ K := R_ishr (by decide +kernel)
theorem s40_37 : Rn 40 37 L st T σ K ↔ Rn 40 40 L (vI 255 :: st) T σ K := R_sipush (n := 255) (by decide +kernel) (by decide +kernel)
theorem s40_40 : Rn 40 40 L (vI b :: vI a :: st) T σ K ↔ Rn 40 41 L (vI (sx_and a b) :: st) T σ K := R_iand (by decide +kernel)
theorem s40_41 : Rn 40 41 [l0, l1, some (vI a), l3, l4, l5] st T σ K ↔ Rn 40 42 [l0, l1, some (vI a), l3, l4, l5] (vI a :: st) T σ K := R_iload_n (n := 2) (by decide +kernel) rfl
theorem s40_42 : Rn 40 42 L st T σ K ↔ Rn 40 44 L (vI 8 :: st) T σ K := R_bipush (n := 8) (by decide +kernel) (by decide +kernel)
theorem s40_44 : Rn 40 44 L (vI b :: vI a :: st) T σ K ↔ (0 ≤ b ∧ b ≤ 31) ∧ inI (a / 2 ^ b.toNat) ∧ Rn 40 45 L (vI (a / 2 ^ b.toNat) :: st) T σ K := R_ishr (by decide +kernel)
theorem s40_45 : Rn 40 45 L st T σ K ↔ Rn 40 48 L (vI 255 :: st) T σ K := R_sipush (n := 255) (by decide +kernel) (by decide +kernel)
theorem s40_48 : Rn 40 48 L (vI b :: vI a :: st) T σ K ↔ Rn 40 49 L (vI (sx_and a b) :: st) T σ K := R_iand (by decide +kernel)
theorem s40_49 : Rn 40 49 L (vI b :: vI a :: st) T σ K ↔ inI (a - b) ∧ Rn 40 50 L (vI (a - b) :: st) T σ K := R_isub (by decide +kernel)
theorem s40_50 : Rn 40 50 L (vI a :: st) T σ K ↔ (st.length ≤ 4 ∧ inI (-a)) ∧ Rn 40 53 L (vI (if 0 ≤ a then a else -a) :: st) T σ K := R_abs (idx := 52) (by decide +kernel) (by decide +kernel) (by decide +kernel) (by decide +kernel)
theorem s40_53 : Rn 40 53 [l0, l1, l2, l3, l4, l5] (vI a :: st) T σ K ↔ Rn 40 55 [l0, l1, l2, l3, some (vI a), l5] st T σ K := R_istore (n := 4) (by decide +kernel) rfl
theorem s40_55 : Rn 40 55 [l0, some (vI a), l2, l3, l4, l5] st T σ K ↔ Rn 40 56 [l0, some (vI a), l2, l3, l4, l5] (vI a :: st) T σ K := R_iload_n (n := 1) (by decide +kernel) rfl
theorem s40_56 : Rn 40 56 L st T σ K ↔ Rn 40 59 L (vI 255 :: st) T σ K := R_sipush (n := 255) (by decide +kernel) (by decide +kernel)
theorem s40_59 : Rn 40 59 L (vI b :: vI a :: st) T σ K ↔ Rn 40 60 L (vI (sx_and a b) :: st) T σ K := R_iand (by decide +kernel)
theorem s40_60 : Rn 40 60 [l0, l1, some (vI a), l3, l4, l5] st T σ K ↔ Rn 40 61 [l0, l1, some (vI a), l3, l4, l5] (vI a :: st) T σ K := R_iload_n (n := 2) (by decide +kernel) rfl
theorem s40_61 : Rn 40 61 L st T σ K ↔ Rn 40 64 L (vI 255 :: st) T σ K := R_sipush (n := 255) (by decide +kernel) (by decide +kernel)
theorem s40_64 : Rn 40 64 L (vI b :: vI a :: st) T σ K ↔ Rn 40 65 L (vI (sx_and a b) :: st) T σ K := R_iand (by decide +kernel)
theorem s40_65 : Rn 40 65 L (vI b :: vI a :: st) T σ K ↔ inI (a - b) ∧ Rn 40 66 L (vI (a - b) :: st) T σ K := R_isub (by decide +kernel)
theorem s40_66 : Rn 40 66 L (vI a :: st) T σ K ↔ (st.length ≤ 4 ∧ inI (-a)) ∧ Rn 40 69 L (vI (if 0 ≤ a then a else -a) :: st) T σ K := R_abs (idx := 52) (by decide +kernel) (by decide +kernel) (by decide +kernel) (by decide +kernel)
theorem s40_69 : Rn 40 69 [l0, l1, l2, l3, l4, l5] (vI a :: st) T σ K ↔ Rn 40 71 [l0, l1, l2, l3, l4, some (vI a)] st T σ K := R_istore (n := 5) (by decide +kernel) rfl
theorem s40_71 : Rn 40 71 [some (vI a), l1, l2, l3, l4, l5] st T σ K ↔ Rn 40 72 [some (vI a), l1, l2, l3, l4, l5] (vI a :: st) T σ K := R_iload_n (n := 0) (by decide +kernel) rfl
theorem s40_72 : Rn 40 72 L (vI a :: st) T σ K ↔ (a ≠ 0 → Rn 40 85 L st T σ K) ∧ (a = 0 → Rn 40 75 L st T σ K) := R_if_ne (off := 13) (by decide +kernel) (by decide)
theorem s40_75 : Rn 40 75 [l0, l1, l2, some (vI a), l4, l5] st T σ K ↔ Rn 40 76 [l0, l1, l2, some (vI a), l4, l5] (vI a :: st) T σ K := R_iload_n (n := 3) (by decide +kernel) rfl
theorem s40_76 : Rn 40 76 [l0, l1, l2, l3, some (vI a), l5] st T σ K ↔ Rn 40 78 [l0, l1, l2, l3, some (vI a), l5] (vI a :: st) T σ K := R_iload (n := 4) (by decide +kernel) rfl
theorem s40_78 : Rn 40 78 L (vI b :: vI a :: st) T σ K ↔ inI (a + b) ∧ Rn 40 79 L (vI (a + b) :: st) T σ K := R_iadd (by decide +kernel)
theorem s40_79 : Rn 40 79 [l0, l1, l2, l3, l4, some (vI a)] st T σ K ↔ Rn 40 81 [l0, l1, l2, l3, l4, some (vI a)] (vI a :: st) T σ K := R_iload (n := 5) (by decide +kernel) rfl
theorem s40_81 : Rn 40 81 L (vI b :: vI a :: st) T σ K ↔ inI (a + b) ∧ Rn 40 82 L (vI (a + b) :: st) T σ K := R_iadd (by decide +kernel)
theorem s40_82 : Rn 40 82 L st T σ K ↔ Rn 40 96 L st T σ K := R_goto (off := 14) (by decide +kernel) (by decide)
theorem s40_85 : Rn 40 85 [l0, l1, l2, some (vI a), l4, l5] st T σ K ↔ Rn 40 86 [l0, l1, l2, some (vI a), l4, l5] (vI a :: st) T σ K := R_iload_n (n := 3) (by decide +kernel) rfl
theorem s40_86 : Rn 40 86 [l0, l1, l2, l3, some (vI a), l5] st T σ K ↔ Rn 40 88 [l0, l1, l2, l3, some (vI a), l5] (vI a :: st) T σ K := R_iload (n := 4) (by decide +kernel) rfl
theorem s40_88 : Rn 40 88 [l0, l1, l2, l3, l4, some (vI a)] st T σ K ↔ Rn 40 90 [l0, l1, l2, l3, l4, some (vI a)] (vI a :: st) T σ K := R_iload (n := 5) (by decide +kernel) rfl
theorem s40_90 : Rn 40 90 L (vI b :: vI a :: st) T σ K ↔ st.length ≤ 4 ∧ Rn 40 93 L (vI (max a b) :: st) T σ K := R_max (idx := 57) (by decide +kernel) (by decide +kernel) (by decide +kernel) (by decide +kernel)
theorem s40_93 : Rn 40 93 L (vI b :: vI a :: st) T σ K ↔ st.length ≤ 4 ∧ Rn 40 96 L (vI (max a b) :: st) T σ K := R_max (idx := 57) (by decide +kernel) (by decide +kernel) (by decide +kernel) (by decide +kernel)
theorem s40_96 : Rn 40 96 L [vI a] T σ K ↔ K (some (vI a)) T σ := R_ret (by decide +kernel) (by decide +kernel)
theorem s41_0 : Rn 41 0 [some (vI a)] st T σ K ↔ Rn 41 1 [some (vI a)] (vI a :: st) T σ K := R_iload_n (n := 0) (by decide +kernel) rfl
theorem s41_1 : Rn 41 1 [some (vI a)] st T σ K ↔ Rn 41 2 [some (vI a)] (vI a :: st) T σ K := R_iload_n (n := 0) (by decide +kernel) rfl
theorem s41_2 : Rn 41 2 L st T σ K ↔ Rn 41 3 L (vI 1 :: st) T σ K := R_iconst (n := 1) (by decide +kernel) (by decide)
theorem s41_3 : Rn 41 3 L (vI b :: vI a :: st) T σ K ↔ (0 ≤ b ∧ b ≤ 31 ∧ 0 ≤ a) ∧ inI (a / 2 ^ b.toNat) ∧ Rn 41 4 L (vI (a / 2 ^ b.toNat) :: st) T σ K := R_iushr (by decide +kernel)
theorem s41_4 : Rn 41 4 L st T σ K ↔ Rn 41 7 L (vI 1431655765 :: st) T σ K := R_ldcw (idx := 265) (v := 1431655765) (by decide +kernel) (by decide +kernel) (by decide) rfl
theorem s41_7 : Rn 41 7 L (vI b :: vI a :: st) T σ K ↔ Rn 41 8 L (vI (sx_and a b) :: st) T σ K := R_iand (by decide +kernel)
theorem s41_8 : Rn 41 8 L (vI b :: vI a :: st) T σ K ↔ inI (a - b) ∧ Rn 41 9 L (vI (a - b) :: st) T σ K := R_isub (by decide +kernel)
theorem s41_9 : Rn 41 9 [l0] (vI a :: st) T σ K ↔ Rn 41 10 [some (vI a)] st T σ K := R_istore_n (n := 0) (by decide +kernel) rfl
theorem s41_10 : Rn 41 10 [some (vI a)] st T σ K ↔ Rn 41 11 [some (vI a)] (vI a :: st) T σ K := R_iload_n (n := 0) (by decide +kernel) rfl
theorem s41_11 : Rn 41 11 L st T σ K ↔ Rn 41 14 L (vI 858993459 :: st) T σ K := R_ldcw (idx := 266) (v := 858993459) (by decide +kernel) (by decide +kernel) (by decide) rfl
theorem s41_14 : Rn 41 14 L (vI b :: vI a :: st) T σ K ↔ Rn 41 15 L (vI (sx_and a b) :: st) T σ K := R_iand (by decide +kernel)
theorem s41_15 : Rn 41 15 [some (vI a)] st T σ K ↔ Rn 41 16 [some (vI a)] (vI a :: st) T σ K := R_iload_n (n := 0) (by decide +kernel) rfl
theorem s41_16 : Rn 41 16 L st T σ K ↔ Rn 41 17 L (vI 2 :: st) T σ K := R_iconst (n := 2) (by decide +kernel) (by decide)
theorem s41_17 : Rn 41 17 L (vI b :: vI a :: st) T σ K ↔ (0 ≤ b ∧ b ≤ 31 ∧ 0 ≤ a) ∧ inI (a / 2 ^ b.toNat) ∧ Rn 41 18 L (vI (a / 2 ^ b.toNat) :: st) T σ K := R_iushr (by decide +kernel)
theorem s41_18 : Rn 41 18 L st T σ K ↔ Rn 41 21 L (vI 858993459 :: st) T σ K := R_ldcw (idx := 266) (v := 858993459) (by decide +kernel) (by decide +kernel) (by decide) rfl
theorem s41_21 : Rn 41 21 L (vI b :: vI a :: st) T σ K ↔ Rn 41 22 L (vI (sx_and a b) :: st) T σ K := R_iand (by decide +kernel)
theorem s41_22 : Rn 41 22 L (vI b :: vI a :: st) T σ K ↔ inI (a + b) ∧ Rn 41 23 L (vI (a + b) :: st) T σ K := R_iadd (by decide +kernel)
theorem s41_23 : Rn 41 23 [l0] (vI a :: st) T σ K ↔ Rn 41 24 [some (vI a)] st T σ K := R_istore_n (n := 0) (by decide +kernel) rfl
theorem s41_24 : Rn 41 24 [some (vI a)] st T σ K ↔ Rn 41 25 [some (vI a)] (vI a :: st) T σ K := R_iload_n (n := 0) (by decide +kernel) rfl
theorem s41_25 : Rn 41 25 [some (vI a)] st T σ K ↔ Rn 41 26 [some (vI a)] (vI a :: st) T σ K := R_iload_n (n := 0) (by decide +kernel) rfl
theorem s41_26 : Rn 41 26 L st T σ K ↔ Rn 41 27 L (vI 4 :: st) T σ K := R_iconst (n := 4) (by decide +kernel) (by decide)
theorem s41_27 : Rn 41 27 L (vI b :: vI a :: st) T σ K ↔ (0 ≤ b ∧ b ≤ 31 ∧ 0 ≤ a) ∧ inI (a / 2 ^ b.toNat) ∧ Rn 41 28 L (vI (a / 2 ^ b.toNat) :: st) T σ K := R_iushr (by decide +kernel)
theorem s41_28 : Rn 41 28 L (vI b :: vI a :: st) T σ K ↔ inI (a + b) ∧ Rn 41 29 L (vI (a + b) :: st) T σ K := R_iadd (by decide +kernel)
theorem s41_29 : Rn 41 29 L st T σ K ↔ Rn 41 32 L (vI 252645135 :: st) T σ K := R_ldcw (idx := 267) (v := 252645135) (by decide +kernel) (by decide +kernel) (by decide) rfl
theorem s41_32 : Rn 41 32 L (vI b :: vI a :: st) T σ K ↔ Rn 41 33 L (vI (sx_and a b) :: st) T σ K := R_iand (by decide +kernel)
theorem s41_33 : Rn 41 33 [l0] (vI a :: st) T σ K ↔ Rn 41 34 [some (vI a)] st T σ K := R_istore_n (n := 0) (by decide +kernel) rfl
theorem s41_34 : Rn 41 34 [some (vI a)] st T σ K ↔ Rn 41 35 [some (vI a)] (vI a :: st) T σ K := R_iload_n (n := 0) (by decide +kernel) rfl
theorem s41_35 : Rn 41 35 [some (vI a)] st T σ K ↔ Rn 41 36 [some (vI a)] (vI a :: st) T σ K := R_iload_n (n := 0) (by decide +kernel) rfl
theorem s41_36 : Rn 41 36 L st T σ K ↔ Rn 41 38 L (vI 8 :: st) T σ K := R_bipush (n := 8) (by decide +kernel) (by decide +kernel)
theorem s41_38 : Rn 41 38 L (vI b :: vI a :: st) T σ K ↔ (0 ≤ b ∧ b ≤ 31 ∧ 0 ≤ a) ∧ inI (a / 2 ^ b.toNat) ∧ Rn 41 39 L (vI (a / 2 ^ b.toNat) :: st) T σ K := R_iushr (by decide +kernel)
theorem s41_39 : Rn 41 39 L (vI b :: vI a :: st) T σ K ↔ inI (a + b) ∧ Rn 41 40 L (vI (a + b) :: st) T σ K := R_iadd (by decide +kernel)
theorem s41_40 : Rn 41 40 [l0] (vI a :: st) T σ K ↔ Rn 41 41 [some (vI a)] st T σ K := R_istore_n (n := 0) (by decide +kernel) rfl
theorem s41_41 : Rn 41 41 [some (vI a)] st T σ K ↔ Rn 41 42 [some (vI a)] (vI a :: st) T σ K := R_iload_n (n := 0) (by decide +kernel) rfl
theorem s41_42 : Rn 41 42 [some (vI a)] st T σ K ↔ Rn 41 43 [some (vI a)] (vI a :: st) T σ K := R_iload_n (n := 0) (by decide +kernel) rfl
theorem s41_43 : Rn 41 43 L st T σ K ↔ Rn 41 45 L (vI 16 :: st) T σ K := R_bipush (n := 16) (by decide +kernel) (by decide +kernel)
theorem s41_45 : Rn 41 45 L (vI b :: vI a :: st) T σ K ↔ (0 ≤ b ∧ b ≤ 31 ∧ 0 ≤ a) ∧ inI (a / 2 ^ b.toNat) ∧ Rn 41 46 L (vI (a / 2 ^ b.toNat) :: st) T σ K := R_iushr (by decide +kernel)
theorem s41_46 : Rn 41 46 L (vI b :: vI a :: st) T σ K ↔ inI (a + b) ∧ Rn 41 47 L (vI (a + b) :: st) T σ K := R_iadd (by decide +kernel)
theorem s41_47 : Rn 41 47 [l0] (vI a :: st) T σ K ↔ Rn 41 48 [some (vI a)] st T σ K := R_istore_n (n := 0) (by decide +kernel) rfl
theorem s41_48 : Rn 41 48 [some (vI a)] st T σ K ↔ Rn 41 49 [some (vI a)] (vI a :: st) T σ K := R_iload_n (n := 0) (by decide +kernel) rfl
theorem s41_49 : Rn 41 49 L st T σ K ↔ Rn 41 51 L (vI 63 :: st) T σ K := R_bipush (n := 63) (by decide +kernel) (by decide +kernel)
theorem s41_51 : Rn 41 51 L (vI b :: vI a :: st) T σ K ↔ Rn 41 52 L (vI (sx_and a b) :: st) T σ K := R_iand (by decide +kernel)
theorem s41_52 : Rn 41 52 L [vI a] T σ K ↔ K (some (vI a)) T σ := R_ret (by decide +kernel) (by decide +kernel)
theorem s42_0 : Rn 42 0 [some (vR o), l1, l2] st T σ K ↔ Rn 42 1 [some (vR o), l1, l2] (vR o :: st) T σ K := R_aload_n (n := 0) (by decide +kernel) rfl
theorem s42_1 : Rn 42 1 L (vR o :: st) T σ K ↔ sx_kd T o = 2 ∧ Rn 42 4 L (vI (σ o 4) :: st) T σ K := R_getI (idx := 24) (ci := 2) (k := 4) (by decide +kernel) (by decide +kernel) (Or.inl rfl)
theorem s42_4 : Rn 42 4 [some (vR o), l1, l2] st T σ K ↔ Rn 42 5 [some (vR o), l1, l2] (vR o :: st) T σ K := R_aload_n (n := 0) (by decide +kernel) rfl
theorem s42_5 : Rn 42 5 L (vR o :: st) T σ K ↔ sx_kd T o = 2 ∧ ∃ t, sx_rf T o 0 = some t ∧ Rn 42 8 L (vR t :: st) T σ K := R_getR (idx := 9) (ci := 2) (k := 0) (by decide +kernel) (by decide +kernel) rfl
theorem s42_8 : Rn 42 8 [l0, some (vI a), l2] st T σ K ↔ Rn 42 9 [l0, some (vI a), l2] (vI a :: st) T σ K := R_iload_n (n := 1) (by decide +kernel) rfl
theorem s42_9 : Rn 42 9 L (vI a :: vR o :: st) T σ K ↔ (sx_kd T o = 20 ∧ 0 ≤ a ∧ a < sx_ln T o) ∧ Rn 42 10 L (vI (σ o a) :: st) T σ K := R_iald (by decide +kernel) (by decide)
theorem s42_10 : Rn 42 10 [l0, l1, some (vI a)] st T σ K ↔ Rn 42 11 [l0, l1, some (vI a)] (vI a :: st) T σ K := R_iload_n (n := 2) (by decide +kernel) rfl
theorem s42_11 : Rn 42 11 L (vI c :: vI b :: vI a :: st) T σ K ↔ st.length ≤ 4 ∧ Rn 40 0 [some (vI a), some (vI b), some (vI c), none, none, none] [] T σ (fun r T' σ' => Rn 42 14 L (sx_push r st) T' σ' K) := R_S (cm := 40) (n := 3) (idx := 61) (mx := 6) (vs := [vI a, vI b, vI c]) (by decide +kernel) (Or.inl (by decide +kernel)) rfl (by decide +kernel) rfl (by decide +kernel)
theorem s42_14 : Rn 42 14 L [vI a] T σ K ↔ K (some (vI a)) T σ := R_ret (by decide +kernel) (by decide +kernel)
theorem s43_0 : Rn 43 0 [some (vR o)] st T σ K ↔ Rn 43 1 [some (vR o)] (vR o :: st) T σ K := R_aload_n (n := 0) (by decide +kernel) rfl
theorem s43_1 : Rn 43 1 L st T σ K ↔ Rn 43 2 L (vI 0 :: st) T σ K := R_iconst (n := 0) (by decide +kernel) (by decide)
theorem s43_2 : Rn 43 2 L (vI a :: vR o :: st) T σ K ↔ sx_kd T o = 0 ∧ Rn 43 5 L st T (sx_up σ o 2 a) K := R_putI (idx := 24) (ci := 0) (k := 2) (by decide +kernel) (by decide +kernel) rfl rfl
theorem s43_5 : Rn 43 5 L [] T σ K ↔ K none T σ := R_retV (by decide +kernel) (by decide +kernel)
theorem s44_0 : Rn 44 0 [some (vR o)] st T σ K ↔ Rn 44 1 [some (vR o)] (vR o :: st) T σ K := R_aload_n (n := 0) (by decide +kernel) rfl
theorem s44_1 : Rn 44 1 L st T σ K ↔ Rn 44 2 L (vI (-1) :: st) T σ K := R_iconst (n := -1) (by decide +kernel) (by decide)
theorem s44_2 : Rn 44 2 L (vI a :: vR o :: st) T σ K ↔ sx_kd T o = 3 ∧ Rn 44 5 L st T (sx_up σ o 10 a) K := R_putI (idx := 31) (ci := 3) (k := 10) (by decide +kernel) (by decide +kernel) rfl rfl
theorem s44_5 : Rn 44 5 [some (vR o)] st T σ K ↔ Rn 44 6 [some (vR o)] (vR o :: st) T σ K := R_aload_n (n := 0) (by decide +kernel) rfl
theorem s44_6 : Rn 44 6 L st T σ K ↔ Rn 44 7 L (vI 0 :: st) T σ K := R_iconst (n := 0) (by decide +kernel) (by decide)
theorem s44_7 : Rn 44 7 L (vI a :: vR o :: st) T σ K ↔ sx_kd T o = 3 ∧ Rn 44 10 L st T (sx_up σ o 9 a) K := R_putI (idx := 42) (ci := 3) (k := 9) (by decide +kernel) (by decide +kernel) rfl rfl
theorem s44_10 : Rn 44 10 [some (vR o)] st T σ K ↔ Rn 44 11 [some (vR o)] (vR o :: st) T σ K := R_aload_n (n := 0) (by decide +kernel) rfl
theorem s44_11 : Rn 44 11 L st T σ K ↔ Rn 44 12 L (vI 0 :: st) T σ K := R_iconst (n := 0) (by decide +kernel) (by decide)
theorem s44_12 : Rn 44 12 L (vI a :: vR o :: st) T σ K ↔ sx_kd T o = 3 ∧ Rn 44 15 L st T (sx_up σ o 8 a) K := R_putI (idx := 45) (ci := 3) (k := 8) (by decide +kernel) (by decide +kernel) rfl rfl
theorem s44_15 : Rn 44 15 L [] T σ K ↔ K none T σ := R_retV (by decide +kernel) (by decide +kernel)
theorem s45_0 : Rn 45 0 [l0, some (vI a)] st T σ K ↔ Rn 45 1 [l0, some (vI a)] (vI a :: st) T σ K := R_iload_n (n := 1) (by decide +kernel) rfl
theorem s45_1 : Rn 45 1 L (vI a :: st) T σ K ↔ sx_sw [(0, 28), (1, 36)] 44 a (fun t => Rn 45 t L st T σ K) := R_look (d := 43) (ps := #[(0, 27), (1, 35)]) (len := 27) (by decide +kernel) (by decide +kernel)
theorem s45_28 : Rn 45 28 [some (vR o), l1] st T σ K ↔ Rn 45 29 [some (vR o), l1] (vR o :: st) T σ K := R_aload_n (n := 0) (by decide +kernel) rfl
theorem s45_29 : Rn 45 29 L (vR o :: st) T σ K ↔ sx_kd T o = 8 ∧ ∃ t, sx_rf T o 1 = some t ∧ Rn 45 32 L (vR t :: st) T σ K := R_getR (idx := 21) (ci := 8) (k := 1) (by decide +kernel) (by decide +kernel) rfl
theorem s45_32 : Rn 45 32 L (vR o :: st) T σ K ↔ sx_kd T o = 5 ∧ Rn 45 35 L (vI (σ o 5) :: st) T σ K := R_getI (idx := 129) (ci := 5) (k := 5) (by decide +kernel) (by decide +kernel) (Or.inl rfl)
theorem s45_35 : Rn 45 35 L [vI a] T σ K ↔ K (some (vI a)) T σ := R_ret (by decide +kernel) (by decide +kernel)
theorem s45_36 : Rn 45 36 [some (vR o), l1] st T σ K ↔ Rn 45 37 [some (vR o), l1] (vR o :: st) T σ K := R_aload_n (n := 0) (by decide +kernel) rfl
theorem s45_37 : Rn 45 37 L (vR o :: st) T σ K ↔ sx_kd T o = 8 ∧ ∃ t, sx_rf T o 1 = some t ∧ Rn 45 40 L (vR t :: st) T σ K := R_getR (idx := 21) (ci := 8) (k := 1) (by decide +kernel) (by decide +kernel) rfl
theorem s45_40 : Rn 45 40 L (vR o :: st) T σ K ↔ sx_kd T o = 5 ∧ Rn 45 43 L (vI (σ o 6) :: st) T σ K := R_getI (idx := 132) (ci := 5) (k := 6) (by decide +kernel) (by decide +kernel) (Or.inl rfl)
theorem s45_43 : Rn 45 43 L [vI a] T σ K ↔ K (some (vI a)) T σ := R_ret (by decide +kernel) (by decide +kernel)
theorem s45_44 : Rn 45 44 L st T σ K ↔ Rn 45 45 L (vI (-1) :: st) T σ K := R_iconst (n := -1) (by decide +kernel) (by decide)
theorem s45_45 : Rn 45 45 L [vI a] T σ K ↔ K (some (vI a)) T σ := R_ret (by decide +kernel) (by decide +kernel)
theorem s46_0 : Rn 46 0 [l0, some (vI a)] st T σ K ↔ Rn 46 1 [l0, some (vI a)] (vI a :: st) T σ K := R_iload_n (n := 1) (by decide +kernel) rfl
theorem s46_1 : Rn 46 1 L (vI a :: st) T σ K ↔ sx_sw [(0, 44), (1, 52), (2, 60), (3, 68), (4, 76), (5, 84), (6, 92)] 98 a (fun t => Rn 46 t L st T σ K) := R_table (d := 97) (lo := 0) (hi := 6) (offs := #[43, 51, 59, 67, 75, 83, 91]) (len := 43) (by decide +kernel) (by decide +kernel)
theorem s46_44 : Rn 46 44 [some (vR o), l1] st T σ K ↔ Rn 46 45 [some (vR o), l1] (vR o :: st) T σ K := R_aload_n (n := 0) (by decide +kernel) rfl
theorem s46_45 : Rn 46 45 L (vR o :: st) T σ K ↔ sx_kd T o = 8 ∧ ∃ t, sx_rf T o 2 = some t ∧ Rn 46 48 L (vR t :: st) T σ K := R_getR (idx := 28) (ci := 8) (k := 2) (by decide +kernel) (by decide +kernel) rfl
theorem s46_48 : Rn 46 48 L (vR o :: st) T σ K ↔ sx_kd T o = 2 ∧ Rn 46 51 L (vI (σ o 6) :: st) T σ K := R_getI (idx := 135) (ci := 2) (k := 6) (by decide +kernel) (by decide +kernel) (Or.inl rfl)
theorem s46_51 : Rn 46 51 L [vI a] T σ K ↔ K (some (vI a)) T σ := R_ret (by decide +kernel) (by decide +kernel)
theorem s46_52 : Rn 46 52 [some (vR o), l1] st T σ K ↔ Rn 46 53 [some (vR o), l1] (vR o :: st) T σ K := R_aload_n (n := 0) (by decide +kernel) rfl
theorem s46_53 : Rn 46 53 L (vR o :: st) T σ K ↔ sx_kd T o = 8 ∧ ∃ t, sx_rf T o 2 = some t ∧ Rn 46 56 L (vR t :: st) T σ K := R_getR (idx := 28) (ci := 8) (k := 2) (by decide +kernel) (by decide +kernel) rfl
theorem s46_56 : Rn 46 56 L (vR o :: st) T σ K ↔ sx_kd T o = 2 ∧ Rn 46 59 L (vI (σ o 4) :: st) T σ K := R_getI (idx := 107) (ci := 2) (k := 4) (by decide +kernel) (by decide +kernel) (Or.inl rfl)
theorem s46_59 : Rn 46 59 L [vI a] T σ K ↔ K (some (vI a)) T σ := R_ret (by decide +kernel) (by decide +kernel)
theorem s46_60 : Rn 46 60 [some (vR o), l1] st T σ K ↔ Rn 46 61 [some (vR o), l1] (vR o :: st) T σ K := R_aload_n (n := 0) (by decide +kernel) rfl
theorem s46_61 : Rn 46 61 L (vR o :: st) T σ K ↔ sx_kd T o = 8 ∧ ∃ t, sx_rf T o 2 = some t ∧ Rn 46 64 L (vR t :: st) T σ K := R_getR (idx := 28) (ci := 8) (k := 2) (by decide +kernel) (by decide +kernel) rfl
theorem s46_64 : Rn 46 64 L (vR o :: st) T σ K ↔ sx_kd T o = 2 ∧ Rn 46 67 L (vI (σ o 5) :: st) T σ K := R_getI (idx := 136) (ci := 2) (k := 5) (by decide +kernel) (by decide +kernel) (Or.inl rfl)
theorem s46_67 : Rn 46 67 L [vI a] T σ K ↔ K (some (vI a)) T σ := R_ret (by decide +kernel) (by decide +kernel)
theorem s46_68 : Rn 46 68 [some (vR o), l1] st T σ K ↔ Rn 46 69 [some (vR o), l1] (vR o :: st) T σ K := R_aload_n (n := 0) (by decide +kernel) rfl
theorem s46_69 : Rn 46 69 L (vR o :: st) T σ K ↔ sx_kd T o = 8 ∧ ∃ t, sx_rf T o 2 = some t ∧ Rn 46 72 L (vR t :: st) T σ K := R_getR (idx := 28) (ci := 8) (k := 2) (by decide +kernel) (by decide +kernel) rfl
theorem s46_72 : Rn 46 72 L (vR o :: st) T σ K ↔ (sx_kd T o = 2 ∧ st.length ≤ 4) ∧ Rn 47 0 [some (vR o), none, none] [] T σ (fun r T' σ' => Rn 46 75 L (sx_push r st) T' σ' K) := R_V (cm := 47) (n := 0) (idx := 139) (ci := 2) (mx := 3) (vs := []) (by decide +kernel) (by decide +kernel) rfl (by decide +kernel) rfl (by decide +kernel) (by decide +kernel)
theorem s46_75 : Rn 46 75 L [vI a] T σ K ↔ K (some (vI a)) T σ := R_ret (by decide +kernel) (by decide +kernel)
theorem s46_76 : Rn 46 76 [some (vR o), l1] st T σ K ↔ Rn 46 77 [some (vR o), l1] (vR o :: st) T σ K := R_aload_n (n := 0) (by decide +kernel) rfl
theorem s46_77 : Rn 46 77 L (vR o :: st) T σ K ↔ sx_kd T o = 8 ∧ ∃ t, sx_rf T o 8 = some t ∧ Rn 46 80 L (vR t :: st) T σ K := R_getR (idx := 66) (ci := 8) (k := 8) (by decide +kernel) (by decide +kernel) rfl
theorem s46_80 : Rn 46 80 L (vR o :: st) T σ K ↔ sx_kd T o = 4 ∧ Rn 46 83 L (vI (σ o 5) :: st) T σ K := R_getI (idx := 126) (ci := 4) (k := 5) (by decide +kernel) (by decide +kernel) (Or.inl rfl)
theorem s46_83 : Rn 46 83 L [vI a] T σ K ↔ K (some (vI a)) T σ := R_ret (by decide +kernel) (by decide +kernel)
theorem s46_84 : Rn 46 84 [some (vR o), l1] st T σ K ↔ Rn 46 85 [some (vR o), l1] (vR o :: st) T σ K := R_aload_n (n := 0) (by decide +kernel) rfl
theorem s46_85 : Rn 46 85 L (vR o :: st) T σ K ↔ sx_kd T o = 8 ∧ ∃ t, sx_rf T o 4 = some t ∧ Rn 46 88 L (vR t :: st) T σ K := R_getR (idx := 38) (ci := 8) (k := 4) (by decide +kernel) (by decide +kernel) rfl
theorem s46_88 : Rn 46 88 L (vR o :: st) T σ K ↔ sx_kd T o = 0 ∧ Rn 46 91 L (vI (σ o 2) :: st) T σ K := R_getI (idx := 143) (ci := 0) (k := 2) (by decide +kernel) (by decide +kernel) (Or.inl rfl)
theorem s46_91 : Rn 46 91 L [vI a] T σ K ↔ K (some (vI a)) T σ := R_ret (by decide +kernel) (by decide +kernel)
theorem s46_92 : Rn 46 92 [some (vR o), l1] st T σ K ↔ Rn 46 93 [some (vR o), l1] (vR o :: st) T σ K := R_aload_n (n := 0) (by decide +kernel) rfl
theorem s46_93 : Rn 46 93 L (vR o :: st) T σ K ↔ sx_kd T o = 8 ∧ Rn 46 96 L (vJ (σ o 11) :: st) T σ K := R_getJ (idx := 81) (ci := 8) (k := 11) (by decide +kernel) (by decide +kernel) rfl
theorem s46_96 : Rn 46 96 L (vJ a :: st) T σ K ↔ inI a ∧ Rn 46 97 L (vI a :: st) T σ K := R_l2i (by decide +kernel)
theorem s46_97 : Rn 46 97 L [vI a] T σ K ↔ K (some (vI a)) T σ := R_ret (by decide +kernel) (by decide +kernel)
theorem s46_98 : Rn 46 98 L st T σ K ↔ Rn 46 99 L (vI (-1) :: st) T σ K := R_iconst (n := -1) (by decide +kernel) (by decide)
theorem s46_99 : Rn 46 99 L [vI a] T σ K ↔ K (some (vI a)) T σ := R_ret (by decide +kernel) (by decide +kernel)
theorem s47_0 : Rn 47 0 L st T σ K ↔ Rn 47 1 L (vI (-1) :: st) T σ K := R_iconst (n := -1) (by decide +kernel) (by decide)
theorem s47_1 : Rn 47 1 [l0, l1, l2] (vI a :: st) T σ K ↔ Rn 47 2 [l0, some (vI a), l2] st T σ K := R_istore_n (n := 1) (by decide +kernel) rfl
theorem s47_2 : Rn 47 2 L st T σ K ↔ Rn 47 3 L (vI 0 :: st) T σ K := R_iconst (n := 0) (by decide +kernel) (by decide)
theorem s47_3 : Rn 47 3 [l0, l1, l2] (vI a :: st) T σ K ↔ Rn 47 4 [l0, l1, some (vI a)] st T σ K := R_istore_n (n := 2) (by decide +kernel) rfl
theorem s47_4 : Rn 47 4 [l0, l1, some (vI a)] st T σ K ↔ Rn 47 5 [l0, l1, some (vI a)] (vI a :: st) T σ K := R_iload_n (n := 2) (by decide +kernel) rfl
theorem s47_5 : Rn 47 5 L st T σ K ↔ Rn 47 7 L (vI 40 :: st) T σ K := R_bipush (n := 40) (by decide +kernel) (by decide +kernel)
theorem s47_7 : Rn 47 7 L (vI b :: vI a :: st) T σ K ↔ (b ≤ a → Rn 47 41 L st T σ K) ∧ (a < b → Rn 47 10 L st T σ K) := R_icmp_ge (off := 34) (by decide +kernel) (by decide)
theorem s47_10 : Rn 47 10 [l0, l1, some (vI a)] st T σ K ↔ Rn 47 11 [l0, l1, some (vI a)] (vI a :: st) T σ K := R_iload_n (n := 2) (by decide +kernel) rfl
theorem s47_11 : Rn 47 11 [some (vR o), l1, l2] st T σ K ↔ Rn 47 12 [some (vR o), l1, l2] (vR o :: st) T σ K := R_aload_n (n := 0) (by decide +kernel) rfl
theorem s47_12 : Rn 47 12 L (vR o :: st) T σ K ↔ sx_kd T o = 2 ∧ Rn 47 15 L (vI (σ o 5) :: st) T σ K := R_getI (idx := 28) (ci := 2) (k := 5) (by decide +kernel) (by decide +kernel) (Or.inl rfl)
theorem s47_15 : Rn 47 15 L (vI b :: vI a :: st) T σ K ↔ (a = b → Rn 47 35 L st T σ K) ∧ (a ≠ b → Rn 47 18 L st T σ K) := R_icmp_eq (off := 20) (by decide +kernel) (by decide)
theorem s47_18 : Rn 47 18 [some (vR o), l1, l2] st T σ K ↔ Rn 47 19 [some (vR o), l1, l2] (vR o :: st) T σ K := R_aload_n (n := 0) (by decide +kernel) rfl
theorem s47_19 : Rn 47 19 L (vR o :: st) T σ K ↔ sx_kd T o = 2 ∧ ∃ t, sx_rf T o 1 = some t ∧ Rn 47 22 L (vR t :: st) T σ K := R_getR (idx := 15) (ci := 2) (k := 1) (by decide +kernel) (by decide +kernel) rfl
theorem s47_22 : Rn 47 22 [l0, l1, some (vI a)] st T σ K ↔ Rn 47 23 [l0, l1, some (vI a)] (vI a :: st) T σ K := R_iload_n (n := 2) (by decide +kernel) rfl
theorem s47_23 : Rn 47 23 L (vI a :: vR o :: st) T σ K ↔ (sx_kd T o = 20 ∧ 0 ≤ a ∧ a < sx_ln T o) ∧ Rn 47 24 L (vI (σ o a) :: st) T σ K := R_iald (by decide +kernel) (by decide)
theorem s47_24 : Rn 47 24 [l0, some (vI a), l2] st T σ K ↔ Rn 47 25 [l0, some (vI a), l2] (vI a :: st) T σ K := R_iload_n (n := 1) (by decide +kernel) rfl
theorem s47_25 : Rn 47 25 L (vI b :: vI a :: st) T σ K ↔ (a ≤ b → Rn 47 35 L st T σ K) ∧ (b < a → Rn 47 28 L st T σ K) := R_icmp_le (off := 10) (by decide +kernel) (by decide)
theorem s47_28 : Rn 47 28 [some (vR o), l1, l2] st T σ K ↔ Rn 47 29 [some (vR o), l1, l2] (vR o :: st) T σ K := R_aload_n (n := 0) (by decide +kernel) rfl
theorem s47_29 : Rn 47 29 L (vR o :: st) T σ K ↔ sx_kd T o = 2 ∧ ∃ t, sx_rf T o 1 = some t ∧ Rn 47 32 L (vR t :: st) T σ K := R_getR (idx := 15) (ci := 2) (k := 1) (by decide +kernel) (by decide +kernel) rfl
theorem s47_32 : Rn 47 32 [l0, l1, some (vI a)] st T σ K ↔ Rn 47 33 [l0, l1, some (vI a)] (vI a :: st) T σ K := R_iload_n (n := 2) (by decide +kernel) rfl
theorem s47_33 : Rn 47 33 L (vI a :: vR o :: st) T σ K ↔ (sx_kd T o = 20 ∧ 0 ≤ a ∧ a < sx_ln T o) ∧ Rn 47 34 L (vI (σ o a) :: st) T σ K := R_iald (by decide +kernel) (by decide)
theorem s47_34 : Rn 47 34 [l0, l1, l2] (vI a :: st) T σ K ↔ Rn 47 35 [l0, some (vI a), l2] st T σ K := R_istore_n (n := 1) (by decide +kernel) rfl
theorem s47_35 : Rn 47 35 [l0, l1, some (vI a)] st T σ K ↔ inI (a + 1) ∧ Rn 47 38 [l0, l1, some (vI (a + 1))] st T σ K := R_iinc (n := 2) (d := 1) (by decide +kernel) rfl
theorem s47_38 : Rn 47 38 L st T σ K ↔ Rn 47 4 L st T σ K := R_goto (off := -34) (by decide +kernel) (by decide)
theorem s47_41 : Rn 47 41 [l0, some (vI a), l2] st T σ K ↔ Rn 47 42 [l0, some (vI a), l2] (vI a :: st) T σ K := R_iload_n (n := 1) (by decide +kernel) rfl
theorem s47_42 : Rn 47 42 L [vI a] T σ K ↔ K (some (vI a)) T σ := R_ret (by decide +kernel) (by decide +kernel)
theorem s48_0 : Rn 48 0 [some (vR o), l1, l2] st T σ K ↔ Rn 48 1 [some (vR o), l1, l2] (vR o :: st) T σ K := R_aload_n (n := 0) (by decide +kernel) rfl
theorem s48_1 : Rn 48 1 L (vR o :: st) T σ K ↔ sx_kd T o = 8 ∧ ∃ t, sx_rf T o 2 = some t ∧ Rn 48 4 L (vR t :: st) T σ K := R_getR (idx := 28) (ci := 8) (k := 2) (by decide +kernel) (by decide +kernel) rfl
theorem s48_4 : Rn 48 4 [l0, some (vI a), l2] st T σ K ↔ Rn 48 5 [l0, some (vI a), l2] (vI a :: st) T σ K := R_iload_n (n := 1) (by decide +kernel) rfl
theorem s48_5 : Rn 48 5 L (vI a :: vR o :: st) T σ K ↔ (sx_kd T o = 2 ∧ st.length ≤ 4) ∧ Rn 49 0 [some (vR o), some (vI a)] [] T σ (fun r T' σ' => Rn 48 8 L (sx_push r st) T' σ' K) := R_V (cm := 49) (n := 1) (idx := 146) (ci := 2) (mx := 2) (vs := [vI a]) (by decide +kernel) (by decide +kernel) rfl (by decide +kernel) rfl (by decide +kernel) (by decide +kernel)
theorem s48_8 : Rn 48 8 L (vI a :: st) T σ K ↔ (a = 0 → Rn 48 21 L st T σ K) ∧ (a ≠ 0 → Rn 48 11 L st T σ K) := R_if_eq (off := 13) (by decide +kernel) (by decide)
theorem s48_11 : Rn 48 11 [l0, l1, some (vI a)] st T σ K ↔ Rn 48 12 [l0, l1, some (vI a)] (vI a :: st) T σ K := R_iload_n (n := 2) (by decide +kernel) rfl
theorem s48_12 : Rn 48 12 L (vI a :: st) T σ K ↔ (a < 0 → Rn 48 21 L st T σ K) ∧ (0 ≤ a → Rn 48 15 L st T σ K) := R_if_lt (off := 9) (by decide +kernel) (by decide)
theorem s48_15 : Rn 48 15 [l0, l1, some (vI a)] st T σ K ↔ Rn 48 16 [l0, l1, some (vI a)] (vI a :: st) T σ K := R_iload_n (n := 2) (by decide +kernel) rfl
theorem s48_16 : Rn 48 16 L st T σ K ↔ Rn 48 18 L (vI 6 :: st) T σ K := R_bipush (n := 6) (by decide +kernel) (by decide +kernel)
theorem s48_18 : Rn 48 18 L (vI b :: vI a :: st) T σ K ↔ (a < b → Rn 48 23 L st T σ K) ∧ (b ≤ a → Rn 48 21 L st T σ K) := R_icmp_lt (off := 5) (by decide +kernel) (by decide)
theorem s48_21 : Rn 48 21 L st T σ K ↔ Rn 48 22 L (vI (-1) :: st) T σ K := R_iconst (n := -1) (by decide +kernel) (by decide)
theorem s48_22 : Rn 48 22 L [vI a] T σ K ↔ K (some (vI a)) T σ := R_ret (by decide +kernel) (by decide +kernel)
theorem s48_23 : Rn 48 23 [some (vR o), l1, l2] st T σ K ↔ Rn 48 24 [some (vR o), l1, l2] (vR o :: st) T σ K := R_aload_n (n := 0) (by decide +kernel) rfl
theorem s48_24 : Rn 48 24 L (vR o :: st) T σ K ↔ sx_kd T o = 8 ∧ ∃ t, sx_rf T o 2 = some t ∧ Rn 48 27 L (vR t :: st) T σ K := R_getR (idx := 28) (ci := 8) (k := 2) (by decide +kernel) (by decide +kernel) rfl
theorem s48_27 : Rn 48 27 L (vR o :: st) T σ K ↔ sx_kd T o = 2 ∧ ∃ t, sx_rf T o 3 = some t ∧ Rn 48 30 L (vR t :: st) T σ K := R_getR (idx := 118) (ci := 2) (k := 3) (by decide +kernel) (by decide +kernel) rfl
theorem s48_30 : Rn 48 30 [l0, some (vI a), l2] st T σ K ↔ Rn 48 31 [l0, some (vI a), l2] (vI a :: st) T σ K := R_iload_n (n := 1) (by decide +kernel) rfl
theorem s48_31 : Rn 48 31 L (vI a :: vR o :: st) T σ K ↔ (sx_kd T o = 20 ∧ 0 ≤ a ∧ a < sx_ln T o) ∧ Rn 48 32 L (vI (σ o a) :: st) T σ K := R_iald (by decide +kernel) (by decide)
theorem s48_32 : Rn 48 32 L st T σ K ↔ Rn 48 33 L (vI 5 :: st) T σ K := R_iconst (n := 5) (by decide +kernel) (by decide)
theorem s48_33 : Rn 48 33 [l0, l1, some (vI a)] st T σ K ↔ Rn 48 34 [l0, l1, some (vI a)] (vI a :: st) T σ K := R_iload_n (n := 2) (by decide +kernel) rfl
theorem s48_34 : Rn 48 34 L (vI b :: vI a :: st) T σ K ↔ inI (a * b) ∧ Rn 48 35 L (vI (a * b) :: st) T σ K := R_imul (by decide +kernel)
theorem s48_35 : Rn 48 35 L (vI b :: vI a :: st) T σ K ↔ (0 ≤ b ∧ b ≤ 31) ∧ inI (a / 2 ^ b.toNat) ∧ Rn 48 36 L (vI (a / 2 ^ b.toNat) :: st) T σ K := R_ishr (by decide +kernel)
theorem s48_36 : Rn 48 36 L st T σ K ↔ Rn 48 38 L (vI 31 :: st) T σ K := R_bipush (n := 31) (by decide +kernel) (by decide +kernel)
theorem s48_38 : Rn 48 38 L (vI b :: vI a :: st) T σ K ↔ Rn 48 39 L (vI (sx_and a b) :: st) T σ K := R_iand (by decide +kernel)
theorem s48_39 : Rn 48 39 L [vI a] T σ K ↔ K (some (vI a)) T σ := R_ret (by decide +kernel) (by decide +kernel)
end ST1
