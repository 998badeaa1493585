section ST3
variable {L : sxL} {st : List sxV} {T : sxT} {σ : sxS} {K : Option sxV → sxT → sxS → Prop} {a b c d e f g : Int} {o p q r1 r2 : Nat} {l0 l1 l2 l3 l4 l5 l6 l7 l8 l9 l10 l11 : Option sxV}
theorem s100_0 : Rn 100 0 L st T σ K ↔ Rn 100 1 L (vI (-1) :: st) T σ K := R_iconst (n := -1) (by decide +kernel) (by decide)
theorem s100_1 : Rn 100 1 [l0, l1, l2] (vI a :: st) T σ K ↔ Rn 100 2 [l0, some (vI a), l2] st T σ K := R_istore_n (n := 1) (by decide +kernel) rfl
theorem s100_2 : Rn 100 2 L st T σ K ↔ Rn 100 3 L (vI 0 :: st) T σ K := R_iconst (n := 0) (by decide +kernel) (by decide)
theorem s100_3 : Rn 100 3 [l0, l1, l2] (vI a :: st) T σ K ↔ Rn 100 4 [l0, l1, some (vI a)] st T σ K := R_istore_n (n := 2) (by decide +kernel) rfl
theorem s100_4 : Rn 100 4 [l0, l1, some (vI a)] st T σ K ↔ Rn 100 5 [l0, l1, some (vI a)] (vI a :: st) T σ K := R_iload_n (n := 2) (by decide +kernel) rfl
theorem s100_5 : Rn 100 5 L st T σ K ↔ Rn 100 7 L (vI 40 :: st) T σ K := R_bipush (n := 40) (by decide +kernel) (by decide +kernel)
theorem s100_7 : Rn 100 7 L (vI b :: vI a :: st) T σ K ↔ (b ≤ a → Rn 100 58 L st T σ K) ∧ (a < b → Rn 100 10 L st T σ K) := R_icmp_ge (off := 51) (by decide +kernel) (by decide)
theorem s100_10 : Rn 100 10 [some (vR o), l1, l2] st T σ K ↔ Rn 100 11 [some (vR o), l1, l2] (vR o :: st) T σ K := R_aload_n (n := 0) (by decide +kernel) rfl
theorem s100_11 : Rn 100 11 L (vR o :: st) T σ K ↔ sx_kd T o = 7 ∧ ∃ t, sx_rf T o 0 = some t ∧ Rn 100 14 L (vR t :: st) T σ K := R_getR (idx := 34) (ci := 7) (k := 0) (by decide +kernel) (by decide +kernel) rfl
theorem s100_14 : Rn 100 14 [l0, l1, some (vI a)] st T σ K ↔ Rn 100 15 [l0, l1, some (vI a)] (vI a :: st) T σ K := R_iload_n (n := 2) (by decide +kernel) rfl
theorem s100_15 : Rn 100 15 L (vI a :: vR o :: st) T σ K ↔ (sx_kd T o = 2 ∧ st.length ≤ 4) ∧ Rn 49 0 [some (vR o), some (vI a)] [] T σ (fun r T' σ' => Rn 100 18 L (sx_push r st) T' σ' K) := R_V (cm := 49) (n := 1) (idx := 52) (ci := 2) (mx := 2) (vs := [vI a]) (by decide +kernel) (by decide +kernel) rfl (by decide +kernel) rfl (by decide +kernel) (by decide +kernel)
theorem s100_18 : Rn 100 18 L (vI a :: st) T σ K ↔ (a = 0 → Rn 100 52 L st T σ K) ∧ (a ≠ 0 → Rn 100 21 L st T σ K) := R_if_eq (off := 34) (by decide +kernel) (by decide)
theorem s100_21 : Rn 100 21 [some (vR o), l1, l2] st T σ K ↔ Rn 100 22 [some (vR o), l1, l2] (vR o :: st) T σ K := R_aload_n (n := 0) (by decide +kernel) rfl
theorem s100_22 : Rn 100 22 L (vR o :: st) T σ K ↔ sx_kd T o = 7 ∧ ∃ t, sx_rf T o 7 = some t ∧ Rn 100 25 L (vR t :: st) T σ K := R_getR (idx := 30) (ci := 7) (k := 7) (by decide +kernel) (by decide +kernel) rfl
theorem s100_25 : Rn 100 25 [l0, l1, some (vI a)] st T σ K ↔ Rn 100 26 [l0, l1, some (vI a)] (vI a :: st) T σ K := R_iload_n (n := 2) (by decide +kernel) rfl
theorem s100_26 : Rn 100 26 L (vI a :: vR o :: st) T σ K ↔ (sx_kd T o = 21 ∧ 0 ≤ a ∧ a < sx_ln T o) ∧ Rn 100 27 L (vI (σ o a) :: st) T σ K := R_zald (by decide +kernel)
theorem s100_27 : Rn 100 27 L (vI a :: st) T σ K ↔ (a ≠ 0 → Rn 100 52 L st T σ K) ∧ (a = 0 → Rn 100 30 L st T σ K) := R_if_ne (off := 25) (by decide +kernel) (by decide)
theorem s100_30 : Rn 100 30 [l0, some (vI a), l2] st T σ K ↔ Rn 100 31 [l0, some (vI a), l2] (vI a :: st) T σ K := R_iload_n (n := 1) (by decide +kernel) rfl
theorem s100_31 : Rn 100 31 L st T σ K ↔ Rn 100 32 L (vI (-1) :: st) T σ K := R_iconst (n := -1) (by decide +kernel) (by decide)
theorem s100_32 : Rn 100 32 L (vI b :: vI a :: st) T σ K ↔ (a = b → Rn 100 50 L st T σ K) ∧ (a ≠ b → Rn 100 35 L st T σ K) := R_icmp_eq (off := 18) (by decide +kernel) (by decide)
theorem s100_35 : Rn 100 35 [some (vR o), l1, l2] st T σ K ↔ Rn 100 36 [some (vR o), l1, l2] (vR o :: st) T σ K := R_aload_n (n := 0) (by decide +kernel) rfl
theorem s100_36 : Rn 100 36 L (vR o :: st) T σ K ↔ sx_kd T o = 7 ∧ ∃ t, sx_rf T o 4 = some t ∧ Rn 100 39 L (vR t :: st) T σ K := R_getR (idx := 21) (ci := 7) (k := 4) (by decide +kernel) (by decide +kernel) rfl
theorem s100_39 : Rn 100 39 [l0, l1, some (vI a)] st T σ K ↔ Rn 100 40 [l0, l1, some (vI a)] (vI a :: st) T σ K := R_iload_n (n := 2) (by decide +kernel) rfl
theorem s100_40 : Rn 100 40 L (vI a :: vR o :: st) T σ K ↔ (sx_kd T o = 20 ∧ 0 ≤ a ∧ a < sx_ln T o) ∧ Rn 100 41 L (vI (σ o a) :: st) T σ K := R_iald (by decide +kernel) (by decide)
theorem s100_41 : Rn 100 41 [some (vR o), l1, l2] st T σ K ↔ Rn 100 42 [some (vR o), l1, l2] (vR o :: st) T σ K := R_aload_n (n := 0) (by decide +kernel) rfl
theorem s100_42 : Rn 100 42 L (vR o :: st) T σ K ↔ sx_kd T o = 7 ∧ ∃ t, sx_rf T o 4 = some t ∧ Rn 100 45 L (vR t :: st) T σ K := R_getR (idx := 21) (ci := 7) (k := 4) (by decide +kernel) (by decide +kernel) rfl
theorem s100_45 : Rn 100 45 [l0, some (vI a), l2] st T σ K ↔ Rn 100 46 [l0, some (vI a), l2] (vI a :: st) T σ K := R_iload_n (n := 1) (by decide +kernel) rfl
theorem s100_46 : Rn 100 46 L (vI a :: vR o :: st) T σ K ↔ (sx_kd T o = 20 ∧ 0 ≤ a ∧ a < sx_ln T o) ∧ Rn 100 47 L (vI (σ o a) :: st) T σ K := R_iald (by decide +kernel) (by decide)
theorem s100_47 : Rn 100 47 L (vI b :: vI a :: st) T σ K ↔ (a ≤ b → Rn 100 52 L st T σ K) ∧ (b < a → Rn 100 50 L st T σ K) := R_icmp_le (off := 5) (by decide +kernel) (by decide)
theorem s100_50 : Rn 100 50 [l0, l1, some (vI a)] st T σ K ↔ Rn 100 51 [l0, l1, some (vI a)] (vI a :: st) T σ K := R_iload_n (n := 2) (by decide +kernel) rfl
theorem s100_51 : Rn 100 51 [l0, l1, l2] (vI a :: st) T σ K ↔ Rn 100 52 [l0, some (vI a), l2] st T σ K := R_istore_n (n := 1) (by decide +kernel) rfl
theorem s100_52 : Rn 100 52 [l0, l1, some (vI a)] st T σ K ↔ inI (a + 1) ∧ Rn 100 55 [l0, l1, some (vI (a + 1))] st T σ K := R_iinc (n := 2) (d := 1) (by decide +kernel) rfl
theorem s100_55 : Rn 100 55 L st T σ K ↔ Rn 100 4 L st T σ K := R_goto (off := -51) (by decide +kernel) (by decide)
theorem s100_58 : Rn 100 58 [l0, some (vI a), l2] st T σ K ↔ Rn 100 59 [l0, some (vI a), l2] (vI a :: st) T σ K := R_iload_n (n := 1) (by decide +kernel) rfl
theorem s100_59 : Rn 100 59 L [vI a] T σ K ↔ K (some (vI a)) T σ := R_ret (by decide +kernel) (by decide +kernel)
theorem s101_0 : Rn 101 0 L st T σ K ↔ Rn 101 1 L (vI (-1) :: st) T σ K := R_iconst (n := -1) (by decide +kernel) (by decide)
theorem s101_1 : Rn 101 1 [l0, l1, l2, l3, l4, l5] (vI a :: st) T σ K ↔ Rn 101 2 [l0, l1, some (vI a), l3, l4, l5] st T σ K := R_istore_n (n := 2) (by decide +kernel) rfl
theorem s101_2 : Rn 101 2 L st T σ K ↔ Rn 101 3 L (vI (-1) :: st) T σ K := R_iconst (n := -1) (by decide +kernel) (by decide)
theorem s101_3 : Rn 101 3 [l0, l1, l2, l3, l4, l5] (vI a :: st) T σ K ↔ Rn 101 4 [l0, l1, l2, some (vI a), l4, l5] st T σ K := R_istore_n (n := 3) (by decide +kernel) rfl
theorem s101_4 : Rn 101 4 L st T σ K ↔ Rn 101 5 L (vI 0 :: st) T σ K := R_iconst (n := 0) (by decide +kernel) (by decide)
theorem s101_5 : Rn 101 5 [l0, l1, l2, l3, l4, l5] (vI a :: st) T σ K ↔ Rn 101 7 [l0, l1, l2, l3, some (vI a), l5] st T σ K := R_istore (n := 4) (by decide +kernel) rfl
theorem s101_7 : Rn 101 7 [l0, l1, l2, l3, some (vI a), l5] st T σ K ↔ Rn 101 9 [l0, l1, l2, l3, some (vI a), l5] (vI a :: st) T σ K := R_iload (n := 4) (by decide +kernel) rfl
theorem s101_9 : Rn 101 9 L st T σ K ↔ Rn 101 11 L (vI 40 :: st) T σ K := R_bipush (n := 40) (by decide +kernel) (by decide +kernel)
theorem s101_11 : Rn 101 11 L (vI b :: vI a :: st) T σ K ↔ (b ≤ a → Rn 101 41 L st T σ K) ∧ (a < b → Rn 101 14 L st T σ K) := R_icmp_ge (off := 30) (by decide +kernel) (by decide)
theorem s101_14 : Rn 101 14 [some (vR o), l1, l2, l3, l4, l5] st T σ K ↔ Rn 101 15 [some (vR o), l1, l2, l3, l4, l5] (vR o :: st) T σ K := R_aload_n (n := 0) (by decide +kernel) rfl
theorem s101_15 : Rn 101 15 [l0, l1, l2, l3, some (vI a), l5] st T σ K ↔ Rn 101 17 [l0, l1, l2, l3, some (vI a), l5] (vI a :: st) T σ K := R_iload (n := 4) (by decide +kernel) rfl
theorem s101_17 : Rn 101 17 [l0, some (vI a), l2, l3, l4, l5] st T σ K ↔ Rn 101 18 [l0, some (vI a), l2, l3, l4, l5] (vI a :: st) T σ K := R_iload_n (n := 1) (by decide +kernel) rfl
theorem s101_18 : Rn 101 18 L (vI b :: vI a :: vR o :: st) T σ K ↔ (sx_kd T o = 7 ∧ st.length ≤ 4) ∧ Rn 102 0 [some (vR o), some (vI a), some (vI b), none] [] T σ (fun r T' σ' => Rn 101 21 L (sx_push r st) T' σ' K) := R_V (cm := 102) (n := 2) (idx := 81) (ci := 7) (mx := 4) (vs := [vI a, vI b]) (by decide +kernel) (by decide +kernel) rfl (by decide +kernel) rfl (by decide +kernel) (by decide +kernel)
theorem s101_21 : Rn 101 21 [l0, l1, l2, l3, l4, l5] (vI a :: st) T σ K ↔ Rn 101 23 [l0, l1, l2, l3, l4, some (vI a)] st T σ K := R_istore (n := 5) (by decide +kernel) rfl
theorem s101_23 : Rn 101 23 [l0, l1, l2, l3, l4, some (vI a)] st T σ K ↔ Rn 101 25 [l0, l1, l2, l3, l4, some (vI a)] (vI a :: st) T σ K := R_iload (n := 5) (by decide +kernel) rfl
theorem s101_25 : Rn 101 25 [l0, l1, l2, some (vI a), l4, l5] st T σ K ↔ Rn 101 26 [l0, l1, l2, some (vI a), l4, l5] (vI a :: st) T σ K := R_iload_n (n := 3) (by decide +kernel) rfl
theorem s101_26 : Rn 101 26 L (vI b :: vI a :: st) T σ K ↔ (a ≤ b → Rn 101 35 L st T σ K) ∧ (b < a → Rn 101 29 L st T σ K) := R_icmp_le (off := 9) (by decide +kernel) (by decide)
theorem s101_29 : Rn 101 29 [l0, l1, l2, l3, some (vI a), l5] st T σ K ↔ Rn 101 31 [l0, l1, l2, l3, some (vI a), l5] (vI a :: st) T σ K := R_iload (n := 4) (by decide +kernel) rfl
theorem s101_31 : Rn 101 31 [l0, l1, l2, l3, l4, l5] (vI a :: st) T σ K ↔ Rn 101 32 [l0, l1, some (vI a), l3, l4, l5] st T σ K := R_istore_n (n := 2) (by decide +kernel) rfl
theorem s101_32 : Rn 101 32 [l0, l1, l2, l3, l4, some (vI a)] st T σ K ↔ Rn 101 34 [l0, l1, l2, l3, l4, some (vI a)] (vI a :: st) T σ K := R_iload (n := 5) (by decide +kernel) rfl
theorem s101_34 : Rn 101 34 [l0, l1, l2, l3, l4, l5] (vI a :: st) T σ K ↔ Rn 101 35 [l0, l1, l2, some (vI a), l4, l5] st T σ K := R_istore_n (n := 3) (by decide +kernel) rfl
theorem s101_35 : Rn 101 35 [l0, l1, l2, l3, some (vI a), l5] st T σ K ↔ inI (a + 1) ∧ Rn 101 38 [l0, l1, l2, l3, some (vI (a + 1)), l5] st T σ K := R_iinc (n := 4) (d := 1) (by decide +kernel) rfl
theorem s101_38 : Rn 101 38 L st T σ K ↔ Rn 101 7 L st T σ K := R_goto (off := -31) (by decide +kernel) (by decide)
theorem s101_41 : Rn 101 41 [l0, l1, some (vI a), l3, l4, l5] st T σ K ↔ Rn 101 42 [l0, l1, some (vI a), l3, l4, l5] (vI a :: st) T σ K := R_iload_n (n := 2) (by decide +kernel) rfl
theorem s101_42 : Rn 101 42 L [vI a] T σ K ↔ K (some (vI a)) T σ := R_ret (by decide +kernel) (by decide +kernel)
theorem s102_0 : Rn 102 0 [some (vR o), l1, l2, l3] st T σ K ↔ Rn 102 1 [some (vR o), l1, l2, l3] (vR o :: st) T σ K := R_aload_n (n := 0) (by decide +kernel) rfl
theorem s102_1 : Rn 102 1 L (vR o :: st) T σ K ↔ sx_kd T o = 7 ∧ ∃ t, sx_rf T o 0 = some t ∧ Rn 102 4 L (vR t :: st) T σ K := R_getR (idx := 34) (ci := 7) (k := 0) (by decide +kernel) (by decide +kernel) rfl
theorem s102_4 : Rn 102 4 [l0, some (vI a), l2, l3] st T σ K ↔ Rn 102 5 [l0, some (vI a), l2, l3] (vI a :: st) T σ K := R_iload_n (n := 1) (by decide +kernel) rfl
theorem s102_5 : Rn 102 5 L (vI a :: vR o :: st) T σ K ↔ (sx_kd T o = 2 ∧ st.length ≤ 4) ∧ Rn 49 0 [some (vR o), some (vI a)] [] T σ (fun r T' σ' => Rn 102 8 L (sx_push r st) T' σ' K) := R_V (cm := 49) (n := 1) (idx := 52) (ci := 2) (mx := 2) (vs := [vI a]) (by decide +kernel) (by decide +kernel) rfl (by decide +kernel) rfl (by decide +kernel) (by decide +kernel)
theorem s102_8 : Rn 102 8 L (vI a :: st) T σ K ↔ (a ≠ 0 → Rn 102 13 L st T σ K) ∧ (a = 0 → Rn 102 11 L st T σ K) := R_if_ne (off := 5) (by decide +kernel) (by decide)
theorem s102_11 : Rn 102 11 L st T σ K ↔ Rn 102 12 L (vI (-1) :: st) T σ K := R_iconst (n := -1) (by decide +kernel) (by decide)
theorem s102_12 : Rn 102 12 L [vI a] T σ K ↔ K (some (vI a)) T σ := R_ret (by decide +kernel) (by decide +kernel)
theorem s102_13 : Rn 102 13 [some (vR o), l1, l2, l3] st T σ K ↔ Rn 102 14 [some (vR o), l1, l2, l3] (vR o :: st) T σ K := R_aload_n (n := 0) (by decide +kernel) rfl
theorem s102_14 : Rn 102 14 [l0, some (vI a), l2, l3] st T σ K ↔ Rn 102 15 [l0, some (vI a), l2, l3] (vI a :: st) T σ K := R_iload_n (n := 1) (by decide +kernel) rfl
theorem s102_15 : Rn 102 15 [l0, l1, some (vI a), l3] st T σ K ↔ Rn 102 16 [l0, l1, some (vI a), l3] (vI a :: st) T σ K := R_iload_n (n := 2) (by decide +kernel) rfl
theorem s102_16 : Rn 102 16 L (vI b :: vI a :: vR o :: st) T σ K ↔ (sx_kd T o = 7 ∧ st.length ≤ 4) ∧ Rn 103 0 [some (vR o), some (vI a), some (vI b), none, none, none, none] [] T σ (fun r T' σ' => Rn 102 19 L (sx_push r st) T' σ' K) := R_V (cm := 103) (n := 2) (idx := 78) (ci := 7) (mx := 7) (vs := [vI a, vI b]) (by decide +kernel) (by decide +kernel) rfl (by decide +kernel) rfl (by decide +kernel) (by decide +kernel)
theorem s102_19 : Rn 102 19 [l0, l1, l2, l3] (vI a :: st) T σ K ↔ Rn 102 20 [l0, l1, l2, some (vI a)] st T σ K := R_istore_n (n := 3) (by decide +kernel) rfl
theorem s102_20 : Rn 102 20 [some (vR o), l1, l2, l3] st T σ K ↔ Rn 102 21 [some (vR o), l1, l2, l3] (vR o :: st) T σ K := R_aload_n (n := 0) (by decide +kernel) rfl
theorem s102_21 : Rn 102 21 L (vR o :: st) T σ K ↔ sx_kd T o = 7 ∧ ∃ t, sx_rf T o 0 = some t ∧ Rn 102 24 L (vR t :: st) T σ K := R_getR (idx := 34) (ci := 7) (k := 0) (by decide +kernel) (by decide +kernel) rfl
theorem s102_24 : Rn 102 24 [l0, l1, l2, some (vI a)] st T σ K ↔ Rn 102 25 [l0, l1, l2, some (vI a)] (vI a :: st) T σ K := R_iload_n (n := 3) (by decide +kernel) rfl
theorem s102_25 : Rn 102 25 L (vI a :: vR o :: st) T σ K ↔ (sx_kd T o = 2 ∧ st.length ≤ 4) ∧ Rn 49 0 [some (vR o), some (vI a)] [] T σ (fun r T' σ' => Rn 102 28 L (sx_push r st) T' σ' K) := R_V (cm := 49) (n := 1) (idx := 52) (ci := 2) (mx := 2) (vs := [vI a]) (by decide +kernel) (by decide +kernel) rfl (by decide +kernel) rfl (by decide +kernel) (by decide +kernel)
theorem s102_28 : Rn 102 28 L (vI a :: st) T σ K ↔ (a = 0 → Rn 102 43 L st T σ K) ∧ (a ≠ 0 → Rn 102 31 L st T σ K) := R_if_eq (off := 15) (by decide +kernel) (by decide)
theorem s102_31 : Rn 102 31 [some (vR o), l1, l2, l3] st T σ K ↔ Rn 102 32 [some (vR o), l1, l2, l3] (vR o :: st) T σ K := R_aload_n (n := 0) (by decide +kernel) rfl
theorem s102_32 : Rn 102 32 L (vR o :: st) T σ K ↔ sx_kd T o = 7 ∧ ∃ t, sx_rf T o 0 = some t ∧ Rn 102 35 L (vR t :: st) T σ K := R_getR (idx := 34) (ci := 7) (k := 0) (by decide +kernel) (by decide +kernel) rfl
theorem s102_35 : Rn 102 35 [l0, some (vI a), l2, l3] st T σ K ↔ Rn 102 36 [l0, some (vI a), l2, l3] (vI a :: st) T σ K := R_iload_n (n := 1) (by decide +kernel) rfl
theorem s102_36 : Rn 102 36 [l0, l1, l2, some (vI a)] st T σ K ↔ Rn 102 37 [l0, l1, l2, some (vI a)] (vI a :: st) T σ K := R_iload_n (n := 3) (by decide +kernel) rfl
theorem s102_37 : Rn 102 37 L (vI b :: vI a :: vR o :: st) T σ K ↔ (sx_kd T o = 2 ∧ st.length ≤ 4) ∧ Rn 62 0 [some (vR o), some (vI a), some (vI b)] [] T σ (fun r T' σ' => Rn 102 40 L (sx_push r st) T' σ' K) := R_V (cm := 62) (n := 2) (idx := 43) (ci := 2) (mx := 3) (vs := [vI a, vI b]) (by decide +kernel) (by decide +kernel) rfl (by decide +kernel) rfl (by decide +kernel) (by decide +kernel)
theorem s102_40 : Rn 102 40 L st T σ K ↔ Rn 102 44 L st T σ K := R_goto (off := 4) (by decide +kernel) (by decide)
theorem s102_43 : Rn 102 43 L st T σ K ↔ Rn 102 44 L (vI (-1) :: st) T σ K := R_iconst (n := -1) (by decide +kernel) (by decide)
theorem s102_44 : Rn 102 44 L [vI a] T σ K ↔ K (some (vI a)) T σ := R_ret (by decide +kernel) (by decide +kernel)
theorem s103_0 : Rn 103 0 L st T σ K ↔ Rn 103 1 L (vI (-1) :: st) T σ K := R_iconst (n := -1) (by decide +kernel) (by decide)
theorem s103_1 : Rn 103 1 [l0, l1, l2, l3, l4, l5, l6] (vI a :: st) T σ K ↔ Rn 103 2 [l0, l1, l2, some (vI a), l4, l5, l6] st T σ K := R_istore_n (n := 3) (by decide +kernel) rfl
theorem s103_2 : Rn 103 2 L st T σ K ↔ Rn 103 3 L (vI 0 :: st) T σ K := R_iconst (n := 0) (by decide +kernel) (by decide)
theorem s103_3 : Rn 103 3 [l0, l1, l2, l3, l4, l5, l6] (vI a :: st) T σ K ↔ Rn 103 5 [l0, l1, l2, l3, some (vI a), l5, l6] st T σ K := R_istore (n := 4) (by decide +kernel) rfl
theorem s103_5 : Rn 103 5 L st T σ K ↔ Rn 103 6 L (vI 0 :: st) T σ K := R_iconst (n := 0) (by decide +kernel) (by decide)
theorem s103_6 : Rn 103 6 [l0, l1, l2, l3, l4, l5, l6] (vI a :: st) T σ K ↔ Rn 103 8 [l0, l1, l2, l3, l4, some (vI a), l6] st T σ K := R_istore (n := 5) (by decide +kernel) rfl
theorem s103_8 : Rn 103 8 [l0, l1, l2, l3, l4, some (vI a), l6] st T σ K ↔ Rn 103 10 [l0, l1, l2, l3, l4, some (vI a), l6] (vI a :: st) T σ K := R_iload (n := 5) (by decide +kernel) rfl
theorem s103_10 : Rn 103 10 [l0, l1, some (vI a), l3, l4, l5, l6] st T σ K ↔ Rn 103 11 [l0, l1, some (vI a), l3, l4, l5, l6] (vI a :: st) T σ K := R_iload_n (n := 2) (by decide +kernel) rfl
theorem s103_11 : Rn 103 11 L (vI b :: vI a :: st) T σ K ↔ (b ≤ a → Rn 103 86 L st T σ K) ∧ (a < b → Rn 103 14 L st T σ K) := R_icmp_ge (off := 75) (by decide +kernel) (by decide)
theorem s103_14 : Rn 103 14 [l0, l1, l2, l3, l4, some (vI a), l6] st T σ K ↔ Rn 103 16 [l0, l1, l2, l3, l4, some (vI a), l6] (vI a :: st) T σ K := R_iload (n := 5) (by decide +kernel) rfl
theorem s103_16 : Rn 103 16 L st T σ K ↔ Rn 103 18 L (vI 40 :: st) T σ K := R_bipush (n := 40) (by decide +kernel) (by decide +kernel)
theorem s103_18 : Rn 103 18 L (vI b :: vI a :: st) T σ K ↔ (b ≤ a → Rn 103 86 L st T σ K) ∧ (a < b → Rn 103 21 L st T σ K) := R_icmp_ge (off := 68) (by decide +kernel) (by decide)
theorem s103_21 : Rn 103 21 [some (vR o), l1, l2, l3, l4, l5, l6] st T σ K ↔ Rn 103 22 [some (vR o), l1, l2, l3, l4, l5, l6] (vR o :: st) T σ K := R_aload_n (n := 0) (by decide +kernel) rfl
theorem s103_22 : Rn 103 22 L (vR o :: st) T σ K ↔ sx_kd T o = 7 ∧ ∃ t, sx_rf T o 0 = some t ∧ Rn 103 25 L (vR t :: st) T σ K := R_getR (idx := 34) (ci := 7) (k := 0) (by decide +kernel) (by decide +kernel) rfl
theorem s103_25 : Rn 103 25 [l0, some (vI a), l2, l3, l4, l5, l6] st T σ K ↔ Rn 103 26 [l0, some (vI a), l2, l3, l4, l5, l6] (vI a :: st) T σ K := R_iload_n (n := 1) (by decide +kernel) rfl
theorem s103_26 : Rn 103 26 [some (vR o), l1, l2, l3, l4, l5, l6] st T σ K ↔ Rn 103 27 [some (vR o), l1, l2, l3, l4, l5, l6] (vR o :: st) T σ K := R_aload_n (n := 0) (by decide +kernel) rfl
theorem s103_27 : Rn 103 27 L (vR o :: st) T σ K ↔ sx_kd T o = 7 ∧ ∃ t, sx_rf T o 1 = some t ∧ Rn 103 30 L (vR t :: st) T σ K := R_getR (idx := 9) (ci := 7) (k := 1) (by decide +kernel) (by decide +kernel) rfl
theorem s103_30 : Rn 103 30 [l0, l1, l2, l3, l4, some (vI a), l6] st T σ K ↔ Rn 103 32 [l0, l1, l2, l3, l4, some (vI a), l6] (vI a :: st) T σ K := R_iload (n := 5) (by decide +kernel) rfl
theorem s103_32 : Rn 103 32 L (vI a :: vR o :: st) T σ K ↔ (sx_kd T o = 20 ∧ 0 ≤ a ∧ a < sx_ln T o) ∧ Rn 103 33 L (vI (σ o a) :: st) T σ K := R_iald (by decide +kernel) (by decide)
theorem s103_33 : Rn 103 33 L (vI b :: vI a :: vR o :: st) T σ K ↔ (sx_kd T o = 2 ∧ st.length ≤ 4) ∧ Rn 62 0 [some (vR o), some (vI a), some (vI b)] [] T σ (fun r T' σ' => Rn 103 36 L (sx_push r st) T' σ' K) := R_V (cm := 62) (n := 2) (idx := 43) (ci := 2) (mx := 3) (vs := [vI a, vI b]) (by decide +kernel) (by decide +kernel) rfl (by decide +kernel) rfl (by decide +kernel) (by decide +kernel)
theorem s103_36 : Rn 103 36 [l0, l1, l2, l3, l4, l5, l6] (vI a :: st) T σ K ↔ Rn 103 38 [l0, l1, l2, l3, l4, l5, some (vI a)] st T σ K := R_istore (n := 6) (by decide +kernel) rfl
theorem s103_38 : Rn 103 38 [l0, l1, l2, some (vI a), l4, l5, l6] st T σ K ↔ Rn 103 39 [l0, l1, l2, some (vI a), l4, l5, l6] (vI a :: st) T σ K := R_iload_n (n := 3) (by decide +kernel) rfl
theorem s103_39 : Rn 103 39 L st T σ K ↔ Rn 103 40 L (vI (-1) :: st) T σ K := R_iconst (n := -1) (by decide +kernel) (by decide)
theorem s103_40 : Rn 103 40 L (vI b :: vI a :: st) T σ K ↔ (a = b → Rn 103 68 L st T σ K) ∧ (a ≠ b → Rn 103 43 L st T σ K) := R_icmp_eq (off := 28) (by decide +kernel) (by decide)
theorem s103_43 : Rn 103 43 [l0, l1, l2, l3, l4, l5, some (vI a)] st T σ K ↔ Rn 103 45 [l0, l1, l2, l3, l4, l5, some (vI a)] (vI a :: st) T σ K := R_iload (n := 6) (by decide +kernel) rfl
theorem s103_45 : Rn 103 45 [l0, l1, l2, l3, some (vI a), l5, l6] st T σ K ↔ Rn 103 47 [l0, l1, l2, l3, some (vI a), l5, l6] (vI a :: st) T σ K := R_iload (n := 4) (by decide +kernel) rfl
theorem s103_47 : Rn 103 47 L (vI b :: vI a :: st) T σ K ↔ (a < b → Rn 103 68 L st T σ K) ∧ (b ≤ a → Rn 103 50 L st T σ K) := R_icmp_lt (off := 21) (by decide +kernel) (by decide)
theorem s103_50 : Rn 103 50 [l0, l1, l2, l3, l4, l5, some (vI a)] st T σ K ↔ Rn 103 52 [l0, l1, l2, l3, l4, l5, some (vI a)] (vI a :: st) T σ K := R_iload (n := 6) (by decide +kernel) rfl
theorem s103_52 : Rn 103 52 [l0, l1, l2, l3, some (vI a), l5, l6] st T σ K ↔ Rn 103 54 [l0, l1, l2, l3, some (vI a), l5, l6] (vI a :: st) T σ K := R_iload (n := 4) (by decide +kernel) rfl
theorem s103_54 : Rn 103 54 L (vI b :: vI a :: st) T σ K ↔ (a ≠ b → Rn 103 80 L st T σ K) ∧ (a = b → Rn 103 57 L st T σ K) := R_icmp_ne (off := 26) (by decide +kernel) (by decide)
theorem s103_57 : Rn 103 57 [some (vR o), l1, l2, l3, l4, l5, l6] st T σ K ↔ Rn 103 58 [some (vR o), l1, l2, l3, l4, l5, l6] (vR o :: st) T σ K := R_aload_n (n := 0) (by decide +kernel) rfl
theorem s103_58 : Rn 103 58 L (vR o :: st) T σ K ↔ sx_kd T o = 7 ∧ ∃ t, sx_rf T o 1 = some t ∧ Rn 103 61 L (vR t :: st) T σ K := R_getR (idx := 9) (ci := 7) (k := 1) (by decide +kernel) (by decide +kernel) rfl
theorem s103_61 : Rn 103 61 [l0, l1, l2, l3, l4, some (vI a), l6] st T σ K ↔ Rn 103 63 [l0, l1, l2, l3, l4, some (vI a), l6] (vI a :: st) T σ K := R_iload (n := 5) (by decide +kernel) rfl
theorem s103_63 : Rn 103 63 L (vI a :: vR o :: st) T σ K ↔ (sx_kd T o = 20 ∧ 0 ≤ a ∧ a < sx_ln T o) ∧ Rn 103 64 L (vI (σ o a) :: st) T σ K := R_iald (by decide +kernel) (by decide)
theorem s103_64 : Rn 103 64 [l0, l1, l2, some (vI a), l4, l5, l6] st T σ K ↔ Rn 103 65 [l0, l1, l2, some (vI a), l4, l5, l6] (vI a :: st) T σ K := R_iload_n (n := 3) (by decide +kernel) rfl
theorem s103_65 : Rn 103 65 L (vI b :: vI a :: st) T σ K ↔ (b ≤ a → Rn 103 80 L st T σ K) ∧ (a < b → Rn 103 68 L st T σ K) := R_icmp_ge (off := 15) (by decide +kernel) (by decide)
theorem s103_68 : Rn 103 68 [some (vR o), l1, l2, l3, l4, l5, l6] st T σ K ↔ Rn 103 69 [some (vR o), l1, l2, l3, l4, l5, l6] (vR o :: st) T σ K := R_aload_n (n := 0) (by decide +kernel) rfl
theorem s103_69 : Rn 103 69 L (vR o :: st) T σ K ↔ sx_kd T o = 7 ∧ ∃ t, sx_rf T o 1 = some t ∧ Rn 103 72 L (vR t :: st) T σ K := R_getR (idx := 9) (ci := 7) (k := 1) (by decide +kernel) (by decide +kernel) rfl
theorem s103_72 : Rn 103 72 [l0, l1, l2, l3, l4, some (vI a), l6] st T σ K ↔ Rn 103 74 [l0, l1, l2, l3, l4, some (vI a), l6] (vI a :: st) T σ K := R_iload (n := 5) (by decide +kernel) rfl
theorem s103_74 : Rn 103 74 L (vI a :: vR o :: st) T σ K ↔ (sx_kd T o = 20 ∧ 0 ≤ a ∧ a < sx_ln T o) ∧ Rn 103 75 L (vI (σ o a) :: st) T σ K := R_iald (by decide +kernel) (by decide)
theorem s103_75 : Rn 103 75 [l0, l1, l2, l3, l4, l5, l6] (vI a :: st) T σ K ↔ Rn 103 76 [l0, l1, l2, some (vI a), l4, l5, l6] st T σ K := R_istore_n (n := 3) (by decide +kernel) rfl
theorem s103_76 : Rn 103 76 [l0, l1, l2, l3, l4, l5, some (vI a)] st T σ K ↔ Rn 103 78 [l0, l1, l2, l3, l4, l5, some (vI a)] (vI a :: st) T σ K := R_iload (n := 6) (by decide +kernel) rfl
theorem s103_78 : Rn 103 78 [l0, l1, l2, l3, l4, l5, l6] (vI a :: st) T σ K ↔ Rn 103 80 [l0, l1, l2, l3, some (vI a), l5, l6] st T σ K := R_istore (n := 4) (by decide +kernel) rfl
theorem s103_80 : Rn 103 80 [l0, l1, l2, l3, l4, some (vI a), l6] st T σ K ↔ inI (a + 1) ∧ Rn 103 83 [l0, l1, l2, l3, l4, some (vI (a + 1)), l6] st T σ K := R_iinc (n := 5) (d := 1) (by decide +kernel) rfl
theorem s103_83 : Rn 103 83 L st T σ K ↔ Rn 103 8 L st T σ K := R_goto (off := -75) (by decide +kernel) (by decide)
theorem s103_86 : Rn 103 86 [l0, l1, l2, some (vI a), l4, l5, l6] st T σ K ↔ Rn 103 87 [l0, l1, l2, some (vI a), l4, l5, l6] (vI a :: st) T σ K := R_iload_n (n := 3) (by decide +kernel) rfl
theorem s103_87 : Rn 103 87 L [vI a] T σ K ↔ K (some (vI a)) T σ := R_ret (by decide +kernel) (by decide +kernel)
theorem s104_0 : Rn 104 0 [some (vR o), l1, l2, l3, l4] st T σ K ↔ Rn 104 1 [some (vR o), l1, l2, l3, l4] (vR o :: st) T σ K := R_aload_n (n := 0) (by decide +kernel) rfl
theorem s104_1 : Rn 104 1 L (vR o :: st) T σ K ↔ sx_kd T o = 7 ∧ ∃ t, sx_rf T o 6 = some t ∧ Rn 104 4 L (vR t :: st) T σ K := R_getR (idx := 27) (ci := 7) (k := 6) (by decide +kernel) (by decide +kernel) rfl
theorem s104_4 : Rn 104 4 L st T σ K ↔ Rn 104 5 L (vI 0 :: st) T σ K := R_iconst (n := 0) (by decide +kernel) (by decide)
theorem s104_5 : Rn 104 5 L (vI a :: vR p :: st) T σ K ↔ st.length ≤ 4 ∧ Rn 5 0 [some (vR p), some (vI a), none, none] [] T σ (fun r T' σ' => Rn 104 8 L (sx_push r st) T' σ' K) := R_S (cm := 5) (n := 2) (idx := 84) (mx := 4) (vs := [vR p, vI a]) (by decide +kernel) (Or.inl (by decide +kernel)) rfl (by decide +kernel) rfl (by decide +kernel)
theorem s104_8 : Rn 104 8 L st T σ K ↔ Rn 104 9 L (vI 0 :: st) T σ K := R_iconst (n := 0) (by decide +kernel) (by decide)
theorem s104_9 : Rn 104 9 [l0, l1, l2, l3, l4] (vI a :: st) T σ K ↔ Rn 104 10 [l0, l1, some (vI a), l3, l4] st T σ K := R_istore_n (n := 2) (by decide +kernel) rfl
theorem s104_10 : Rn 104 10 L st T σ K ↔ Rn 104 11 L (vI 0 :: st) T σ K := R_iconst (n := 0) (by decide +kernel) (by decide)
theorem s104_11 : Rn 104 11 [l0, l1, l2, l3, l4] (vI a :: st) T σ K ↔ Rn 104 12 [l0, l1, l2, some (vI a), l4] st T σ K := R_istore_n (n := 3) (by decide +kernel) rfl
theorem s104_12 : Rn 104 12 [l0, l1, l2, some (vI a), l4] st T σ K ↔ Rn 104 13 [l0, l1, l2, some (vI a), l4] (vI a :: st) T σ K := R_iload_n (n := 3) (by decide +kernel) rfl
theorem s104_13 : Rn 104 13 L st T σ K ↔ Rn 104 15 L (vI 40 :: st) T σ K := R_bipush (n := 40) (by decide +kernel) (by decide +kernel)
theorem s104_15 : Rn 104 15 L (vI b :: vI a :: st) T σ K ↔ (b ≤ a → Rn 104 82 L st T σ K) ∧ (a < b → Rn 104 18 L st T σ K) := R_icmp_ge (off := 67) (by decide +kernel) (by decide)
theorem s104_18 : Rn 104 18 [some (vR o), l1, l2, l3, l4] st T σ K ↔ Rn 104 19 [some (vR o), l1, l2, l3, l4] (vR o :: st) T σ K := R_aload_n (n := 0) (by decide +kernel) rfl
theorem s104_19 : Rn 104 19 L (vR o :: st) T σ K ↔ sx_kd T o = 7 ∧ ∃ t, sx_rf T o 0 = some t ∧ Rn 104 22 L (vR t :: st) T σ K := R_getR (idx := 34) (ci := 7) (k := 0) (by decide +kernel) (by decide +kernel) rfl
theorem s104_22 : Rn 104 22 [l0, l1, l2, some (vI a), l4] st T σ K ↔ Rn 104 23 [l0, l1, l2, some (vI a), l4] (vI a :: st) T σ K := R_iload_n (n := 3) (by decide +kernel) rfl
theorem s104_23 : Rn 104 23 L (vI a :: vR o :: st) T σ K ↔ (sx_kd T o = 2 ∧ st.length ≤ 4) ∧ Rn 49 0 [some (vR o), some (vI a)] [] T σ (fun r T' σ' => Rn 104 26 L (sx_push r st) T' σ' K) := R_V (cm := 49) (n := 1) (idx := 52) (ci := 2) (mx := 2) (vs := [vI a]) (by decide +kernel) (by decide +kernel) rfl (by decide +kernel) rfl (by decide +kernel) (by decide +kernel)
theorem s104_26 : Rn 104 26 L (vI a :: st) T σ K ↔ (a = 0 → Rn 104 38 L st T σ K) ∧ (a ≠ 0 → Rn 104 29 L st T σ K) := R_if_eq (off := 12) (by decide +kernel) (by decide)
theorem s104_29 : Rn 104 29 [some (vR o), l1, l2, l3, l4] st T σ K ↔ Rn 104 30 [some (vR o), l1, l2, l3, l4] (vR o :: st) T σ K := R_aload_n (n := 0) (by decide +kernel) rfl
theorem s104_30 : Rn 104 30 [l0, l1, l2, some (vI a), l4] st T σ K ↔ Rn 104 31 [l0, l1, l2, some (vI a), l4] (vI a :: st) T σ K := R_iload_n (n := 3) (by decide +kernel) rfl
theorem s104_31 : Rn 104 31 [l0, some (vI a), l2, l3, l4] st T σ K ↔ Rn 104 32 [l0, some (vI a), l2, l3, l4] (vI a :: st) T σ K := R_iload_n (n := 1) (by decide +kernel) rfl
theorem s104_32 : Rn 104 32 L (vI b :: vI a :: vR o :: st) T σ K ↔ (sx_kd T o = 7 ∧ st.length ≤ 4) ∧ Rn 103 0 [some (vR o), some (vI a), some (vI b), none, none, none, none] [] T σ (fun r T' σ' => Rn 104 35 L (sx_push r st) T' σ' K) := R_V (cm := 103) (n := 2) (idx := 78) (ci := 7) (mx := 7) (vs := [vI a, vI b]) (by decide +kernel) (by decide +kernel) rfl (by decide +kernel) rfl (by decide +kernel) (by decide +kernel)
theorem s104_35 : Rn 104 35 L st T σ K ↔ Rn 104 39 L st T σ K := R_goto (off := 4) (by decide +kernel) (by decide)
theorem s104_38 : Rn 104 38 L st T σ K ↔ Rn 104 39 L (vI (-1) :: st) T σ K := R_iconst (n := -1) (by decide +kernel) (by decide)
theorem s104_39 : Rn 104 39 [l0, l1, l2, l3, l4] (vI a :: st) T σ K ↔ Rn 104 41 [l0, l1, l2, l3, some (vI a)] st T σ K := R_istore (n := 4) (by decide +kernel) rfl
theorem s104_41 : Rn 104 41 [some (vR o), l1, l2, l3, l4] st T σ K ↔ Rn 104 42 [some (vR o), l1, l2, l3, l4] (vR o :: st) T σ K := R_aload_n (n := 0) (by decide +kernel) rfl
theorem s104_42 : Rn 104 42 L (vR o :: st) T σ K ↔ sx_kd T o = 7 ∧ ∃ t, sx_rf T o 0 = some t ∧ Rn 104 45 L (vR t :: st) T σ K := R_getR (idx := 34) (ci := 7) (k := 0) (by decide +kernel) (by decide +kernel) rfl
theorem s104_45 : Rn 104 45 [l0, l1, l2, l3, some (vI a)] st T σ K ↔ Rn 104 47 [l0, l1, l2, l3, some (vI a)] (vI a :: st) T σ K := R_iload (n := 4) (by decide +kernel) rfl
theorem s104_47 : Rn 104 47 L (vI a :: vR o :: st) T σ K ↔ (sx_kd T o = 2 ∧ st.length ≤ 4) ∧ Rn 49 0 [some (vR o), some (vI a)] [] T σ (fun r T' σ' => Rn 104 50 L (sx_push r st) T' σ' K) := R_V (cm := 49) (n := 1) (idx := 52) (ci := 2) (mx := 2) (vs := [vI a]) (by decide +kernel) (by decide +kernel) rfl (by decide +kernel) rfl (by decide +kernel) (by decide +kernel)
theorem s104_50 : Rn 104 50 L (vI a :: st) T σ K ↔ (a = 0 → Rn 104 76 L st T σ K) ∧ (a ≠ 0 → Rn 104 53 L st T σ K) := R_if_eq (off := 26) (by decide +kernel) (by decide)
theorem s104_53 : Rn 104 53 [some (vR o), l1, l2, l3, l4] st T σ K ↔ Rn 104 54 [some (vR o), l1, l2, l3, l4] (vR o :: st) T σ K := R_aload_n (n := 0) (by decide +kernel) rfl
theorem s104_54 : Rn 104 54 L (vR o :: st) T σ K ↔ sx_kd T o = 7 ∧ ∃ t, sx_rf T o 6 = some t ∧ Rn 104 57 L (vR t :: st) T σ K := R_getR (idx := 27) (ci := 7) (k := 6) (by decide +kernel) (by decide +kernel) rfl
theorem s104_57 : Rn 104 57 [l0, l1, l2, l3, some (vI a)] st T σ K ↔ Rn 104 59 [l0, l1, l2, l3, some (vI a)] (vI a :: st) T σ K := R_iload (n := 4) (by decide +kernel) rfl
theorem s104_59 : Rn 104 59 L (vI a :: vR o :: st) T σ K ↔ Rn 104 60 L (vI a :: vR o :: vI a :: vR o :: st) T σ K := R_dup2 (v := vI a) (w := vR o) (by decide +kernel) rfl rfl
theorem s104_60 : Rn 104 60 L (vI a :: vR o :: st) T σ K ↔ (sx_kd T o = 20 ∧ 0 ≤ a ∧ a < sx_ln T o) ∧ Rn 104 61 L (vI (σ o a) :: st) T σ K := R_iald (by decide +kernel) (by decide)
theorem s104_61 : Rn 104 61 L st T σ K ↔ Rn 104 62 L (vI 1 :: st) T σ K := R_iconst (n := 1) (by decide +kernel) (by decide)
theorem s104_62 : Rn 104 62 L (vI b :: vI a :: st) T σ K ↔ inI (a + b) ∧ Rn 104 63 L (vI (a + b) :: st) T σ K := R_iadd (by decide +kernel)
theorem s104_63 : Rn 104 63 L (vI b :: vI a :: vR o :: st) T σ K ↔ (sx_kd T o = 20 ∧ 0 ≤ a ∧ a < sx_ln T o) ∧ Rn 104 64 L st T (sx_up σ o a b) K := R_iast (by decide +kernel)
theorem s104_64 : Rn 104 64 [l0, l1, some (vI a), l3, l4] st T σ K ↔ Rn 104 65 [l0, l1, some (vI a), l3, l4] (vI a :: st) T σ K := R_iload_n (n := 2) (by decide +kernel) rfl
theorem s104_65 : Rn 104 65 [some (vR o), l1, l2, l3, l4] st T σ K ↔ Rn 104 66 [some (vR o), l1, l2, l3, l4] (vR o :: st) T σ K := R_aload_n (n := 0) (by decide +kernel) rfl
theorem s104_66 : Rn 104 66 L (vR o :: st) T σ K ↔ sx_kd T o = 7 ∧ ∃ t, sx_rf T o 6 = some t ∧ Rn 104 69 L (vR t :: st) T σ K := R_getR (idx := 27) (ci := 7) (k := 6) (by decide +kernel) (by decide +kernel) rfl
theorem s104_69 : Rn 104 69 [l0, l1, l2, l3, some (vI a)] st T σ K ↔ Rn 104 71 [l0, l1, l2, l3, some (vI a)] (vI a :: st) T σ K := R_iload (n := 4) (by decide +kernel) rfl
theorem s104_71 : Rn 104 71 L (vI a :: vR o :: st) T σ K ↔ (sx_kd T o = 20 ∧ 0 ≤ a ∧ a < sx_ln T o) ∧ Rn 104 72 L (vI (σ o a) :: st) T σ K := R_iald (by decide +kernel) (by decide)
theorem s104_72 : Rn 104 72 L (vI b :: vI a :: st) T σ K ↔ st.length ≤ 4 ∧ Rn 104 75 L (vI (max a b) :: st) T σ K := R_max (idx := 59) (by decide +kernel) (by decide +kernel) (by decide +kernel) (by decide +kernel)
theorem s104_75 : Rn 104 75 [l0, l1, l2, l3, l4] (vI a :: st) T σ K ↔ Rn 104 76 [l0, l1, some (vI a), l3, l4] st T σ K := R_istore_n (n := 2) (by decide +kernel) rfl
theorem s104_76 : Rn 104 76 [l0, l1, l2, some (vI a), l4] st T σ K ↔ inI (a + 1) ∧ Rn 104 79 [l0, l1, l2, some (vI (a + 1)), l4] st T σ K := R_iinc (n := 3) (d := 1) (by decide +kernel) rfl
theorem s104_79 : Rn 104 79 L st T σ K ↔ Rn 104 12 L st T σ K := R_goto (off := -67) (by decide +kernel) (by decide)
theorem s104_82 : Rn 104 82 [l0, l1, some (vI a), l3, l4] st T σ K ↔ Rn 104 83 [l0, l1, some (vI a), l3, l4] (vI a :: st) T σ K := R_iload_n (n := 2) (by decide +kernel) rfl
theorem s104_83 : Rn 104 83 L [vI a] T σ K ↔ K (some (vI a)) T σ := R_ret (by decide +kernel) (by decide +kernel)
theorem s105_0 : Rn 105 0 [some (vR o), l1, l2] st T σ K ↔ Rn 105 1 [some (vR o), l1, l2] (vR o :: st) T σ K := R_aload_n (n := 0) (by decide +kernel) rfl
theorem s105_1 : Rn 105 1 L (vR o :: st) T σ K ↔ sx_kd T o = 8 ∧ ∃ t, sx_rf T o 2 = some t ∧ Rn 105 4 L (vR t :: st) T σ K := R_getR (idx := 28) (ci := 8) (k := 2) (by decide +kernel) (by decide +kernel) rfl
theorem s105_4 : Rn 105 4 [l0, some (vI a), l2] st T σ K ↔ Rn 105 5 [l0, some (vI a), l2] (vI a :: st) T σ K := R_iload_n (n := 1) (by decide +kernel) rfl
theorem s105_5 : Rn 105 5 L (vI a :: vR o :: st) T σ K ↔ (sx_kd T o = 2 ∧ st.length ≤ 4) ∧ Rn 49 0 [some (vR o), some (vI a)] [] T σ (fun r T' σ' => Rn 105 8 L (sx_push r st) T' σ' K) := R_V (cm := 49) (n := 1) (idx := 146) (ci := 2) (mx := 2) (vs := [vI a]) (by decide +kernel) (by decide +kernel) rfl (by decide +kernel) rfl (by decide +kernel) (by decide +kernel)
theorem s105_8 : Rn 105 8 L (vI a :: st) T σ K ↔ (a = 0 → Rn 105 27 L st T σ K) ∧ (a ≠ 0 → Rn 105 11 L st T σ K) := R_if_eq (off := 19) (by decide +kernel) (by decide)
theorem s105_11 : Rn 105 11 [l0, l1, some (vI a)] st T σ K ↔ Rn 105 12 [l0, l1, some (vI a)] (vI a :: st) T σ K := R_iload_n (n := 2) (by decide +kernel) rfl
theorem s105_12 : Rn 105 12 L st T σ K ↔ Rn 105 13 L (vI 1 :: st) T σ K := R_iconst (n := 1) (by decide +kernel) (by decide)
theorem s105_13 : Rn 105 13 L (vI b :: vI a :: st) T σ K ↔ (a < b → Rn 105 27 L st T σ K) ∧ (b ≤ a → Rn 105 16 L st T σ K) := R_icmp_lt (off := 14) (by decide +kernel) (by decide)
theorem s105_16 : Rn 105 16 [l0, l1, some (vI a)] st T σ K ↔ Rn 105 17 [l0, l1, some (vI a)] (vI a :: st) T σ K := R_iload_n (n := 2) (by decide +kernel) rfl
theorem s105_17 : Rn 105 17 [some (vR o), l1, l2] st T σ K ↔ Rn 105 18 [some (vR o), l1, l2] (vR o :: st) T σ K := R_aload_n (n := 0) (by decide +kernel) rfl
theorem s105_18 : Rn 105 18 L (vR o :: st) T σ K ↔ sx_kd T o = 8 ∧ ∃ t, sx_rf T o 2 = some t ∧ Rn 105 21 L (vR t :: st) T σ K := R_getR (idx := 28) (ci := 8) (k := 2) (by decide +kernel) (by decide +kernel) rfl
theorem s105_21 : Rn 105 21 L (vR o :: st) T σ K ↔ sx_kd T o = 2 ∧ Rn 105 24 L (vI (σ o 6) :: st) T σ K := R_getI (idx := 135) (ci := 2) (k := 6) (by decide +kernel) (by decide +kernel) (Or.inl rfl)
theorem s105_24 : Rn 105 24 L (vI b :: vI a :: st) T σ K ↔ (a ≤ b → Rn 105 29 L st T σ K) ∧ (b < a → Rn 105 27 L st T σ K) := R_icmp_le (off := 5) (by decide +kernel) (by decide)
theorem s105_27 : Rn 105 27 L st T σ K ↔ Rn 105 28 L (vI (-1) :: st) T σ K := R_iconst (n := -1) (by decide +kernel) (by decide)
theorem s105_28 : Rn 105 28 L [vI a] T σ K ↔ K (some (vI a)) T σ := R_ret (by decide +kernel) (by decide +kernel)
theorem s105_29 : Rn 105 29 [some (vR o), l1, l2] st T σ K ↔ Rn 105 30 [some (vR o), l1, l2] (vR o :: st) T σ K := R_aload_n (n := 0) (by decide +kernel) rfl
theorem s105_30 : Rn 105 30 L (vR o :: st) T σ K ↔ sx_kd T o = 8 ∧ ∃ t, sx_rf T o 7 = some t ∧ Rn 105 33 L (vR t :: st) T σ K := R_getR (idx := 59) (ci := 8) (k := 7) (by decide +kernel) (by decide +kernel) rfl
theorem s105_33 : Rn 105 33 L (vR o :: st) T σ K ↔ (sx_kd T o = 7 ∧ st.length ≤ 4) ∧ Rn 99 0 [some (vR o), none, none, none] [] T σ (fun r T' σ' => Rn 105 36 L (sx_push r st) T' σ' K) := R_V (cm := 99) (n := 0) (idx := 266) (ci := 7) (mx := 4) (vs := []) (by decide +kernel) (by decide +kernel) rfl (by decide +kernel) rfl (by decide +kernel) (by decide +kernel)
theorem s105_36 : Rn 105 36 [some (vR o), l1, l2] st T σ K ↔ Rn 105 37 [some (vR o), l1, l2] (vR o :: st) T σ K := R_aload_n (n := 0) (by decide +kernel) rfl
theorem s105_37 : Rn 105 37 L (vR o :: st) T σ K ↔ sx_kd T o = 8 ∧ ∃ t, sx_rf T o 7 = some t ∧ Rn 105 40 L (vR t :: st) T σ K := R_getR (idx := 59) (ci := 8) (k := 7) (by decide +kernel) (by decide +kernel) rfl
theorem s105_40 : Rn 105 40 [l0, some (vI a), l2] st T σ K ↔ Rn 105 41 [l0, some (vI a), l2] (vI a :: st) T σ K := R_iload_n (n := 1) (by decide +kernel) rfl
theorem s105_41 : Rn 105 41 [l0, l1, some (vI a)] st T σ K ↔ Rn 105 42 [l0, l1, some (vI a)] (vI a :: st) T σ K := R_iload_n (n := 2) (by decide +kernel) rfl
theorem s105_42 : Rn 105 42 L (vI b :: vI a :: vR o :: st) T σ K ↔ (sx_kd T o = 7 ∧ st.length ≤ 4) ∧ Rn 103 0 [some (vR o), some (vI a), some (vI b), none, none, none, none] [] T σ (fun r T' σ' => Rn 105 45 L (sx_push r st) T' σ' K) := R_V (cm := 103) (n := 2) (idx := 278) (ci := 7) (mx := 7) (vs := [vI a, vI b]) (by decide +kernel) (by decide +kernel) rfl (by decide +kernel) rfl (by decide +kernel) (by decide +kernel)
theorem s105_45 : Rn 105 45 L [vI a] T σ K ↔ K (some (vI a)) T σ := R_ret (by decide +kernel) (by decide +kernel)
theorem s106_0 : Rn 106 0 [some (vR o), l1, l2] st T σ K ↔ Rn 106 1 [some (vR o), l1, l2] (vR o :: st) T σ K := R_aload_n (n := 0) (by decide +kernel) rfl
theorem s106_1 : Rn 106 1 L (vR o :: st) T σ K ↔ sx_kd T o = 8 ∧ ∃ t, sx_rf T o 2 = some t ∧ Rn 106 4 L (vR t :: st) T σ K := R_getR (idx := 28) (ci := 8) (k := 2) (by decide +kernel) (by decide +kernel) rfl
theorem s106_4 : Rn 106 4 L (vR o :: st) T σ K ↔ sx_kd T o = 2 ∧ Rn 106 7 L (vI (σ o 6) :: st) T σ K := R_getI (idx := 135) (ci := 2) (k := 6) (by decide +kernel) (by decide +kernel) (Or.inl rfl)
theorem s106_7 : Rn 106 7 L st T σ K ↔ Rn 106 8 L (vI 2 :: st) T σ K := R_iconst (n := 2) (by decide +kernel) (by decide)
theorem s106_8 : Rn 106 8 L (vI b :: vI a :: st) T σ K ↔ (a < b → Rn 106 20 L st T σ K) ∧ (b ≤ a → Rn 106 11 L st T σ K) := R_icmp_lt (off := 12) (by decide +kernel) (by decide)
theorem s106_11 : Rn 106 11 [l0, some (vI a), l2] st T σ K ↔ Rn 106 12 [l0, some (vI a), l2] (vI a :: st) T σ K := R_iload_n (n := 1) (by decide +kernel) rfl
theorem s106_12 : Rn 106 12 L (vI a :: st) T σ K ↔ (a < 0 → Rn 106 20 L st T σ K) ∧ (0 ≤ a → Rn 106 15 L st T σ K) := R_if_lt (off := 8) (by decide +kernel) (by decide)
theorem s106_15 : Rn 106 15 [l0, some (vI a), l2] st T σ K ↔ Rn 106 16 [l0, some (vI a), l2] (vI a :: st) T σ K := R_iload_n (n := 1) (by decide +kernel) rfl
theorem s106_16 : Rn 106 16 L st T σ K ↔ Rn 106 17 L (vI 5 :: st) T σ K := R_iconst (n := 5) (by decide +kernel) (by decide)
theorem s106_17 : Rn 106 17 L (vI b :: vI a :: st) T σ K ↔ (a ≤ b → Rn 106 22 L st T σ K) ∧ (b < a → Rn 106 20 L st T σ K) := R_icmp_le (off := 5) (by decide +kernel) (by decide)
theorem s106_20 : Rn 106 20 L st T σ K ↔ Rn 106 21 L (vI (-1) :: st) T σ K := R_iconst (n := -1) (by decide +kernel) (by decide)
theorem s106_21 : Rn 106 21 L [vI a] T σ K ↔ K (some (vI a)) T σ := R_ret (by decide +kernel) (by decide +kernel)
theorem s106_22 : Rn 106 22 [l0, some (vI a), l2] st T σ K ↔ Rn 106 23 [l0, some (vI a), l2] (vI a :: st) T σ K := R_iload_n (n := 1) (by decide +kernel) rfl
theorem s106_23 : Rn 106 23 L st T σ K ↔ Rn 106 24 L (vI 3 :: st) T σ K := R_iconst (n := 3) (by decide +kernel) (by decide)
theorem s106_24 : Rn 106 24 L (vI b :: vI a :: st) T σ K ↔ (b ≤ a → Rn 106 37 L st T σ K) ∧ (a < b → Rn 106 27 L st T σ K) := R_icmp_ge (off := 13) (by decide +kernel) (by decide)
theorem s106_27 : Rn 106 27 [some (vR o), l1, l2] st T σ K ↔ Rn 106 28 [some (vR o), l1, l2] (vR o :: st) T σ K := R_aload_n (n := 0) (by decide +kernel) rfl
theorem s106_28 : Rn 106 28 L (vR o :: st) T σ K ↔ sx_kd T o = 8 ∧ ∃ t, sx_rf T o 7 = some t ∧ Rn 106 31 L (vR t :: st) T σ K := R_getR (idx := 59) (ci := 8) (k := 7) (by decide +kernel) (by decide +kernel) rfl
theorem s106_31 : Rn 106 31 L (vR o :: st) T σ K ↔ (sx_kd T o = 7 ∧ st.length ≤ 4) ∧ Rn 107 0 [some (vR o), none, none, none, none] [] T σ (fun r T' σ' => Rn 106 34 L (sx_push r st) T' σ' K) := R_V (cm := 107) (n := 0) (idx := 281) (ci := 7) (mx := 5) (vs := []) (by decide +kernel) (by decide +kernel) rfl (by decide +kernel) rfl (by decide +kernel) (by decide +kernel)
theorem s106_34 : Rn 106 34 L st T σ K ↔ Rn 106 44 L st T σ K := R_goto (off := 10) (by decide +kernel) (by decide)
theorem s106_37 : Rn 106 37 [some (vR o), l1, l2] st T σ K ↔ Rn 106 38 [some (vR o), l1, l2] (vR o :: st) T σ K := R_aload_n (n := 0) (by decide +kernel) rfl
theorem s106_38 : Rn 106 38 L (vR o :: st) T σ K ↔ sx_kd T o = 8 ∧ ∃ t, sx_rf T o 7 = some t ∧ Rn 106 41 L (vR t :: st) T σ K := R_getR (idx := 59) (ci := 8) (k := 7) (by decide +kernel) (by decide +kernel) rfl
theorem s106_41 : Rn 106 41 L (vR o :: st) T σ K ↔ (sx_kd T o = 7 ∧ st.length ≤ 4) ∧ Rn 109 0 [some (vR o), none, none, none, none] [] T σ (fun r T' σ' => Rn 106 44 L (sx_push r st) T' σ' K) := R_V (cm := 109) (n := 0) (idx := 284) (ci := 7) (mx := 5) (vs := []) (by decide +kernel) (by decide +kernel) rfl (by decide +kernel) rfl (by decide +kernel) (by decide +kernel)
theorem s106_44 : Rn 106 44 [l0, l1, l2] (vI a :: st) T σ K ↔ Rn 106 45 [l0, l1, some (vI a)] st T σ K := R_istore_n (n := 2) (by decide +kernel) rfl
theorem s106_45 : Rn 106 45 [l0, l1, some (vI a)] st T σ K ↔ Rn 106 46 [l0, l1, some (vI a)] (vI a :: st) T σ K := R_iload_n (n := 2) (by decide +kernel) rfl
theorem s106_46 : Rn 106 46 [l0, some (vI a), l2] st T σ K ↔ Rn 106 47 [l0, some (vI a), l2] (vI a :: st) T σ K := R_iload_n (n := 1) (by decide +kernel) rfl
theorem s106_47 : Rn 106 47 L st T σ K ↔ Rn 106 48 L (vI 3 :: st) T σ K := R_iconst (n := 3) (by decide +kernel) (by decide)
theorem s106_48 : Rn 106 48 L (vI b :: vI a :: st) T σ K ↔ 0 < b ∧ inI (a.tmod b) ∧ Rn 106 49 L (vI (a.tmod b) :: st) T σ K := R_irem (by decide +kernel)
theorem s106_49 : Rn 106 49 L (vI b :: vI a :: st) T σ K ↔ st.length ≤ 4 ∧ Rn 110 0 [some (vI a), some (vI b)] [] T σ (fun r T' σ' => Rn 106 52 L (sx_push r st) T' σ' K) := R_S (cm := 110) (n := 2) (idx := 287) (mx := 2) (vs := [vI a, vI b]) (by decide +kernel) (Or.inl (by decide +kernel)) rfl (by decide +kernel) rfl (by decide +kernel)
theorem s106_52 : Rn 106 52 L [vI a] T σ K ↔ K (some (vI a)) T σ := R_ret (by decide +kernel) (by decide +kernel)
theorem s107_0 : Rn 107 0 L st T σ K ↔ Rn 107 1 L (vI (-1) :: st) T σ K := R_iconst (n := -1) (by decide +kernel) (by decide)
theorem s107_1 : Rn 107 1 [l0, l1, l2, l3, l4] (vI a :: st) T σ K ↔ Rn 107 2 [l0, some (vI a), l2, l3, l4] st T σ K := R_istore_n (n := 1) (by decide +kernel) rfl
theorem s107_2 : Rn 107 2 L st T σ K ↔ Rn 107 3 L (vI 0 :: st) T σ K := R_iconst (n := 0) (by decide +kernel) (by decide)
theorem s107_3 : Rn 107 3 [l0, l1, l2, l3, l4] (vI a :: st) T σ K ↔ Rn 107 4 [l0, l1, some (vI a), l3, l4] st T σ K := R_istore_n (n := 2) (by decide +kernel) rfl
theorem s107_4 : Rn 107 4 [l0, l1, some (vI a), l3, l4] st T σ K ↔ Rn 107 5 [l0, l1, some (vI a), l3, l4] (vI a :: st) T σ K := R_iload_n (n := 2) (by decide +kernel) rfl
theorem s107_5 : Rn 107 5 L st T σ K ↔ Rn 107 7 L (vI 40 :: st) T σ K := R_bipush (n := 40) (by decide +kernel) (by decide +kernel)
theorem s107_7 : Rn 107 7 L (vI b :: vI a :: st) T σ K ↔ (b ≤ a → Rn 107 87 L st T σ K) ∧ (a < b → Rn 107 10 L st T σ K) := R_icmp_ge (off := 80) (by decide +kernel) (by decide)
theorem s107_10 : Rn 107 10 [l0, l1, some (vI a), l3, l4] st T σ K ↔ Rn 107 11 [l0, l1, some (vI a), l3, l4] (vI a :: st) T σ K := R_iload_n (n := 2) (by decide +kernel) rfl
theorem s107_11 : Rn 107 11 L st T σ K ↔ Rn 107 12 L (vI 1 :: st) T σ K := R_iconst (n := 1) (by decide +kernel) (by decide)
theorem s107_12 : Rn 107 12 L (vI b :: vI a :: st) T σ K ↔ inI (a + b) ∧ Rn 107 13 L (vI (a + b) :: st) T σ K := R_iadd (by decide +kernel)
theorem s107_13 : Rn 107 13 [l0, l1, l2, l3, l4] (vI a :: st) T σ K ↔ Rn 107 14 [l0, l1, l2, some (vI a), l4] st T σ K := R_istore_n (n := 3) (by decide +kernel) rfl
theorem s107_14 : Rn 107 14 [l0, l1, l2, some (vI a), l4] st T σ K ↔ Rn 107 15 [l0, l1, l2, some (vI a), l4] (vI a :: st) T σ K := R_iload_n (n := 3) (by decide +kernel) rfl
theorem s107_15 : Rn 107 15 L st T σ K ↔ Rn 107 17 L (vI 40 :: st) T σ K := R_bipush (n := 40) (by decide +kernel) (by decide +kernel)
theorem s107_17 : Rn 107 17 L (vI b :: vI a :: st) T σ K ↔ (b ≤ a → Rn 107 81 L st T σ K) ∧ (a < b → Rn 107 20 L st T σ K) := R_icmp_ge (off := 64) (by decide +kernel) (by decide)
theorem s107_20 : Rn 107 20 [some (vR o), l1, l2, l3, l4] st T σ K ↔ Rn 107 21 [some (vR o), l1, l2, l3, l4] (vR o :: st) T σ K := R_aload_n (n := 0) (by decide +kernel) rfl
theorem s107_21 : Rn 107 21 L (vR o :: st) T σ K ↔ sx_kd T o = 7 ∧ ∃ t, sx_rf T o 0 = some t ∧ Rn 107 24 L (vR t :: st) T σ K := R_getR (idx := 34) (ci := 7) (k := 0) (by decide +kernel) (by decide +kernel) rfl
theorem s107_24 : Rn 107 24 [l0, l1, some (vI a), l3, l4] st T σ K ↔ Rn 107 25 [l0, l1, some (vI a), l3, l4] (vI a :: st) T σ K := R_iload_n (n := 2) (by decide +kernel) rfl
theorem s107_25 : Rn 107 25 L (vI a :: vR o :: st) T σ K ↔ (sx_kd T o = 2 ∧ st.length ≤ 4) ∧ Rn 49 0 [some (vR o), some (vI a)] [] T σ (fun r T' σ' => Rn 107 28 L (sx_push r st) T' σ' K) := R_V (cm := 49) (n := 1) (idx := 52) (ci := 2) (mx := 2) (vs := [vI a]) (by decide +kernel) (by decide +kernel) rfl (by decide +kernel) rfl (by decide +kernel) (by decide +kernel)
theorem s107_28 : Rn 107 28 L (vI a :: st) T σ K ↔ (a = 0 → Rn 107 75 L st T σ K) ∧ (a ≠ 0 → Rn 107 31 L st T σ K) := R_if_eq (off := 47) (by decide +kernel) (by decide)
theorem s107_31 : Rn 107 31 [some (vR o), l1, l2, l3, l4] st T σ K ↔ Rn 107 32 [some (vR o), l1, l2, l3, l4] (vR o :: st) T σ K := R_aload_n (n := 0) (by decide +kernel) rfl
theorem s107_32 : Rn 107 32 L (vR o :: st) T σ K ↔ sx_kd T o = 7 ∧ ∃ t, sx_rf T o 0 = some t ∧ Rn 107 35 L (vR t :: st) T σ K := R_getR (idx := 34) (ci := 7) (k := 0) (by decide +kernel) (by decide +kernel) rfl
theorem s107_35 : Rn 107 35 [l0, l1, l2, some (vI a), l4] st T σ K ↔ Rn 107 36 [l0, l1, l2, some (vI a), l4] (vI a :: st) T σ K := R_iload_n (n := 3) (by decide +kernel) rfl
theorem s107_36 : Rn 107 36 L (vI a :: vR o :: st) T σ K ↔ (sx_kd T o = 2 ∧ st.length ≤ 4) ∧ Rn 49 0 [some (vR o), some (vI a)] [] T σ (fun r T' σ' => Rn 107 39 L (sx_push r st) T' σ' K) := R_V (cm := 49) (n := 1) (idx := 52) (ci := 2) (mx := 2) (vs := [vI a]) (by decide +kernel) (by decide +kernel) rfl (by decide +kernel) rfl (by decide +kernel) (by decide +kernel)
theorem s107_39 : Rn 107 39 L (vI a :: st) T σ K ↔ (a = 0 → Rn 107 75 L st T σ K) ∧ (a ≠ 0 → Rn 107 42 L st T σ K) := R_if_eq (off := 36) (by decide +kernel) (by decide)
theorem s107_42 : Rn 107 42 [l0, l1, some (vI a), l3, l4] st T σ K ↔ Rn 107 43 [l0, l1, some (vI a), l3, l4] (vI a :: st) T σ K := R_iload_n (n := 2) (by decide +kernel) rfl
theorem s107_43 : Rn 107 43 [l0, l1, l2, some (vI a), l4] st T σ K ↔ Rn 107 44 [l0, l1, l2, some (vI a), l4] (vI a :: st) T σ K := R_iload_n (n := 3) (by decide +kernel) rfl
theorem s107_44 : Rn 107 44 [some (vR o), l1, l2, l3, l4] st T σ K ↔ Rn 107 45 [some (vR o), l1, l2, l3, l4] (vR o :: st) T σ K := R_aload_n (n := 0) (by decide +kernel) rfl
theorem s107_45 : Rn 107 45 L (vR o :: st) T σ K ↔ sx_kd T o = 7 ∧ ∃ t, sx_rf T o 0 = some t ∧ Rn 107 48 L (vR t :: st) T σ K := R_getR (idx := 34) (ci := 7) (k := 0) (by decide +kernel) (by decide +kernel) rfl
theorem s107_48 : Rn 107 48 [l0, l1, some (vI a), l3, l4] st T σ K ↔ Rn 107 49 [l0, l1, some (vI a), l3, l4] (vI a :: st) T σ K := R_iload_n (n := 2) (by decide +kernel) rfl
theorem s107_49 : Rn 107 49 [l0, l1, l2, some (vI a), l4] st T σ K ↔ Rn 107 50 [l0, l1, l2, some (vI a), l4] (vI a :: st) T σ K := R_iload_n (n := 3) (by decide +kernel) rfl
theorem s107_50 : Rn 107 50 L (vI b :: vI a :: vR o :: st) T σ K ↔ (sx_kd T o = 2 ∧ st.length ≤ 4) ∧ Rn 62 0 [some (vR o), some (vI a), some (vI b)] [] T σ (fun r T' σ' => Rn 107 53 L (sx_push r st) T' σ' K) := R_V (cm := 62) (n := 2) (idx := 43) (ci := 2) (mx := 3) (vs := [vI a, vI b]) (by decide +kernel) (by decide +kernel) rfl (by decide +kernel) rfl (by decide +kernel) (by decide +kernel)
theorem s107_53 : Rn 107 53 L (vI c :: vI b :: vI a :: st) T σ K ↔ st.length ≤ 4 ∧ Rn 108 0 [some (vI a), some (vI b), some (vI c)] [] T σ (fun r T' σ' => Rn 107 56 L (sx_push r st) T' σ' K) := R_S (cm := 108) (n := 3) (idx := 90) (mx := 3) (vs := [vI a, vI b, vI c]) (by decide +kernel) (Or.inl (by decide +kernel)) rfl (by decide +kernel) rfl (by decide +kernel)
theorem s107_56 : Rn 107 56 [l0, l1, l2, l3, l4] (vI a :: st) T σ K ↔ Rn 107 58 [l0, l1, l2, l3, some (vI a)] st T σ K := R_istore (n := 4) (by decide +kernel) rfl
theorem s107_58 : Rn 107 58 [l0, some (vI a), l2, l3, l4] st T σ K ↔ Rn 107 59 [l0, some (vI a), l2, l3, l4] (vI a :: st) T σ K := R_iload_n (n := 1) (by decide +kernel) rfl
theorem s107_59 : Rn 107 59 L st T σ K ↔ Rn 107 60 L (vI (-1) :: st) T σ K := R_iconst (n := -1) (by decide +kernel) (by decide)
theorem s107_60 : Rn 107 60 L (vI b :: vI a :: st) T σ K ↔ (a ≠ b → Rn 107 68 L st T σ K) ∧ (a = b → Rn 107 63 L st T σ K) := R_icmp_ne (off := 8) (by decide +kernel) (by decide)
theorem s107_63 : Rn 107 63 [l0, l1, l2, l3, some (vI a)] st T σ K ↔ Rn 107 65 [l0, l1, l2, l3, some (vI a)] (vI a :: st) T σ K := R_iload (n := 4) (by decide +kernel) rfl
theorem s107_65 : Rn 107 65 L st T σ K ↔ Rn 107 74 L st T σ K := R_goto (off := 9) (by decide +kernel) (by decide)
theorem s107_68 : Rn 107 68 [l0, some (vI a), l2, l3, l4] st T σ K ↔ Rn 107 69 [l0, some (vI a), l2, l3, l4] (vI a :: st) T σ K := R_iload_n (n := 1) (by decide +kernel) rfl
theorem s107_69 : Rn 107 69 [l0, l1, l2, l3, some (vI a)] st T σ K ↔ Rn 107 71 [l0, l1, l2, l3, some (vI a)] (vI a :: st) T σ K := R_iload (n := 4) (by decide +kernel) rfl
theorem s107_71 : Rn 107 71 L (vI b :: vI a :: st) T σ K ↔ st.length ≤ 4 ∧ Rn 107 74 L (vI (min a b) :: st) T σ K := R_min (idx := 47) (by decide +kernel) (by decide +kernel) (by decide +kernel) (by decide +kernel)
theorem s107_74 : Rn 107 74 [l0, l1, l2, l3, l4] (vI a :: st) T σ K ↔ Rn 107 75 [l0, some (vI a), l2, l3, l4] st T σ K := R_istore_n (n := 1) (by decide +kernel) rfl
theorem s107_75 : Rn 107 75 [l0, l1, l2, some (vI a), l4] st T σ K ↔ inI (a + 1) ∧ Rn 107 78 [l0, l1, l2, some (vI (a + 1)), l4] st T σ K := R_iinc (n := 3) (d := 1) (by decide +kernel) rfl
theorem s107_78 : Rn 107 78 L st T σ K ↔ Rn 107 14 L st T σ K := R_goto (off := -64) (by decide +kernel) (by decide)
theorem s107_81 : Rn 107 81 [l0, l1, some (vI a), l3, l4] st T σ K ↔ inI (a + 1) ∧ Rn 107 84 [l0, l1, some (vI (a + 1)), l3, l4] st T σ K := R_iinc (n := 2) (d := 1) (by decide +kernel) rfl
theorem s107_84 : Rn 107 84 L st T σ K ↔ Rn 107 4 L st T σ K := R_goto (off := -80) (by decide +kernel) (by decide)
theorem s107_87 : Rn 107 87 [l0, some (vI a), l2, l3, l4] st T σ K ↔ Rn 107 88 [l0, some (vI a), l2, l3, l4] (vI a :: st) T σ K := R_iload_n (n := 1) (by decide +kernel) rfl
theorem s107_88 : Rn 107 88 L [vI a] T σ K ↔ K (some (vI a)) T σ := R_ret (by decide +kernel) (by decide +kernel)
theorem s108_0 : Rn 108 0 [l0, l1, some (vI a)] st T σ K ↔ Rn 108 1 [l0, l1, some (vI a)] (vI a :: st) T σ K := R_iload_n (n := 2) (by decide +kernel) rfl
theorem s108_1 : Rn 108 1 L st T σ K ↔ Rn 108 3 L (vI 12 :: st) T σ K := R_bipush (n := 12) (by decide +kernel) (by decide +kernel)
theorem s108_3 : Rn 108 3 L (vI b :: vI a :: st) T σ K ↔ (0 ≤ b ∧ b ≤ 31) ∧ inI (a * 2 ^ b.toNat) ∧ Rn 108 4 L (vI (a * 2 ^ b.toNat) :: st) T σ K := R_ishl (by decide +kernel)
theorem s108_4 : Rn 108 4 [some (vI a), l1, l2] st T σ K ↔ Rn 108 5 [some (vI a), l1, l2] (vI a :: st) T σ K := R_iload_n (n := 0) (by decide +kernel) rfl
theorem s108_5 : Rn 108 5 [l0, some (vI a), l2] st T σ K ↔ Rn 108 6 [l0, some (vI a), l2] (vI a :: st) T σ K := R_iload_n (n := 1) (by decide +kernel) rfl
theorem s108_6 : Rn 108 6 L (vI b :: vI a :: st) T σ K ↔ st.length ≤ 4 ∧ Rn 108 9 L (vI (min a b) :: st) T σ K := R_min (idx := 7) (by decide +kernel) (by decide +kernel) (by decide +kernel) (by decide +kernel)
theorem s108_9 : Rn 108 9 L st T σ K ↔ Rn 108 11 L (vI 6 :: st) T σ K := R_bipush (n := 6) (by decide +kernel) (by decide +kernel)
theorem s108_11 : Rn 108 11 L (vI b :: vI a :: st) T σ K ↔ (0 ≤ b ∧ b ≤ 31) ∧ inI (a * 2 ^ b.toNat) ∧ Rn 108 12 L (vI (a * 2 ^ b.toNat) :: st) T σ K := R_ishl (by decide +kernel)
theorem s108_12 : Rn 108 12 L (vI b :: vI a :: st) T σ K ↔ Rn 108 13 L (vI (sx_or a b) :: st) T σ K := R_ior (by decide +kernel)
theorem s108_13 : Rn 108 13 [some (vI a), l1, l2] st T σ K ↔ Rn 108 14 [some (vI a), l1, l2] (vI a :: st) T σ K := R_iload_n (n := 0) (by decide +kernel) rfl
theorem s108_14 : Rn 108 14 [l0, some (vI a), l2] st T σ K ↔ Rn 108 15 [l0, some (vI a), l2] (vI a :: st) T σ K := R_iload_n (n := 1) (by decide +kernel) rfl
theorem s108_15 : Rn 108 15 L (vI b :: vI a :: st) T σ K ↔ st.length ≤ 4 ∧ Rn 108 18 L (vI (max a b) :: st) T σ K := R_max (idx := 13) (by decide +kernel) (by decide +kernel) (by decide +kernel) (by decide +kernel)
theorem s108_18 : Rn 108 18 L (vI b :: vI a :: st) T σ K ↔ Rn 108 19 L (vI (sx_or a b) :: st) T σ K := R_ior (by decide +kernel)
theorem s108_19 : Rn 108 19 L [vI a] T σ K ↔ K (some (vI a)) T σ := R_ret (by decide +kernel) (by decide +kernel)
theorem s109_0 : Rn 109 0 L st T σ K ↔ Rn 109 1 L (vI (-1) :: st) T σ K := R_iconst (n := -1) (by decide +kernel) (by decide)
theorem s109_1 : Rn 109 1 [l0, l1, l2, l3, l4] (vI a :: st) T σ K ↔ Rn 109 2 [l0, some (vI a), l2, l3, l4] st T σ K := R_istore_n (n := 1) (by decide +kernel) rfl
theorem s109_2 : Rn 109 2 L st T σ K ↔ Rn 109 3 L (vI (-1) :: st) T σ K := R_iconst (n := -1) (by decide +kernel) (by decide)
theorem s109_3 : Rn 109 3 [l0, l1, l2, l3, l4] (vI a :: st) T σ K ↔ Rn 109 4 [l0, l1, some (vI a), l3, l4] st T σ K := R_istore_n (n := 2) (by decide +kernel) rfl
theorem s109_4 : Rn 109 4 L st T σ K ↔ Rn 109 5 L (vI 0 :: st) T σ K := R_iconst (n := 0) (by decide +kernel) (by decide)
theorem s109_5 : Rn 109 5 [l0, l1, l2, l3, l4] (vI a :: st) T σ K ↔ Rn 109 6 [l0, l1, l2, some (vI a), l4] st T σ K := R_istore_n (n := 3) (by decide +kernel) rfl
theorem s109_6 : Rn 109 6 [l0, l1, l2, some (vI a), l4] st T σ K ↔ Rn 109 7 [l0, l1, l2, some (vI a), l4] (vI a :: st) T σ K := R_iload_n (n := 3) (by decide +kernel) rfl
theorem s109_7 : Rn 109 7 L st T σ K ↔ Rn 109 9 L (vI 40 :: st) T σ K := R_bipush (n := 40) (by decide +kernel) (by decide +kernel)
theorem s109_9 : Rn 109 9 L (vI b :: vI a :: st) T σ K ↔ (b ≤ a → Rn 109 92 L st T σ K) ∧ (a < b → Rn 109 12 L st T σ K) := R_icmp_ge (off := 83) (by decide +kernel) (by decide)
theorem s109_12 : Rn 109 12 [l0, l1, l2, some (vI a), l4] st T σ K ↔ Rn 109 13 [l0, l1, l2, some (vI a), l4] (vI a :: st) T σ K := R_iload_n (n := 3) (by decide +kernel) rfl
theorem s109_13 : Rn 109 13 L st T σ K ↔ Rn 109 14 L (vI 1 :: st) T σ K := R_iconst (n := 1) (by decide +kernel) (by decide)
theorem s109_14 : Rn 109 14 L (vI b :: vI a :: st) T σ K ↔ inI (a + b) ∧ Rn 109 15 L (vI (a + b) :: st) T σ K := R_iadd (by decide +kernel)
theorem s109_15 : Rn 109 15 [l0, l1, l2, l3, l4] (vI a :: st) T σ K ↔ Rn 109 17 [l0, l1, l2, l3, some (vI a)] st T σ K := R_istore (n := 4) (by decide +kernel) rfl
theorem s109_17 : Rn 109 17 [l0, l1, l2, l3, some (vI a)] st T σ K ↔ Rn 109 19 [l0, l1, l2, l3, some (vI a)] (vI a :: st) T σ K := R_iload (n := 4) (by decide +kernel) rfl
theorem s109_19 : Rn 109 19 L st T σ K ↔ Rn 109 21 L (vI 40 :: st) T σ K := R_bipush (n := 40) (by decide +kernel) (by decide +kernel)
theorem s109_21 : Rn 109 21 L (vI b :: vI a :: st) T σ K ↔ (b ≤ a → Rn 109 86 L st T σ K) ∧ (a < b → Rn 109 24 L st T σ K) := R_icmp_ge (off := 65) (by decide +kernel) (by decide)
theorem s109_24 : Rn 109 24 [some (vR o), l1, l2, l3, l4] st T σ K ↔ Rn 109 25 [some (vR o), l1, l2, l3, l4] (vR o :: st) T σ K := R_aload_n (n := 0) (by decide +kernel) rfl
theorem s109_25 : Rn 109 25 L (vR o :: st) T σ K ↔ sx_kd T o = 7 ∧ ∃ t, sx_rf T o 0 = some t ∧ Rn 109 28 L (vR t :: st) T σ K := R_getR (idx := 34) (ci := 7) (k := 0) (by decide +kernel) (by decide +kernel) rfl
theorem s109_28 : Rn 109 28 [l0, l1, l2, some (vI a), l4] st T σ K ↔ Rn 109 29 [l0, l1, l2, some (vI a), l4] (vI a :: st) T σ K := R_iload_n (n := 3) (by decide +kernel) rfl
theorem s109_29 : Rn 109 29 L (vI a :: vR o :: st) T σ K ↔ (sx_kd T o = 2 ∧ st.length ≤ 4) ∧ Rn 49 0 [some (vR o), some (vI a)] [] T σ (fun r T' σ' => Rn 109 32 L (sx_push r st) T' σ' K) := R_V (cm := 49) (n := 1) (idx := 52) (ci := 2) (mx := 2) (vs := [vI a]) (by decide +kernel) (by decide +kernel) rfl (by decide +kernel) rfl (by decide +kernel) (by decide +kernel)
theorem s109_32 : Rn 109 32 L (vI a :: st) T σ K ↔ (a = 0 → Rn 109 80 L st T σ K) ∧ (a ≠ 0 → Rn 109 35 L st T σ K) := R_if_eq (off := 48) (by decide +kernel) (by decide)
theorem s109_35 : Rn 109 35 [some (vR o), l1, l2, l3, l4] st T σ K ↔ Rn 109 36 [some (vR o), l1, l2, l3, l4] (vR o :: st) T σ K := R_aload_n (n := 0) (by decide +kernel) rfl
theorem s109_36 : Rn 109 36 L (vR o :: st) T σ K ↔ sx_kd T o = 7 ∧ ∃ t, sx_rf T o 0 = some t ∧ Rn 109 39 L (vR t :: st) T σ K := R_getR (idx := 34) (ci := 7) (k := 0) (by decide +kernel) (by decide +kernel) rfl
theorem s109_39 : Rn 109 39 [l0, l1, l2, l3, some (vI a)] st T σ K ↔ Rn 109 41 [l0, l1, l2, l3, some (vI a)] (vI a :: st) T σ K := R_iload (n := 4) (by decide +kernel) rfl
theorem s109_41 : Rn 109 41 L (vI a :: vR o :: st) T σ K ↔ (sx_kd T o = 2 ∧ st.length ≤ 4) ∧ Rn 49 0 [some (vR o), some (vI a)] [] T σ (fun r T' σ' => Rn 109 44 L (sx_push r st) T' σ' K) := R_V (cm := 49) (n := 1) (idx := 52) (ci := 2) (mx := 2) (vs := [vI a]) (by decide +kernel) (by decide +kernel) rfl (by decide +kernel) rfl (by decide +kernel) (by decide +kernel)
theorem s109_44 : Rn 109 44 L (vI a :: st) T σ K ↔ (a = 0 → Rn 109 80 L st T σ K) ∧ (a ≠ 0 → Rn 109 47 L st T σ K) := R_if_eq (off := 36) (by decide +kernel) (by decide)
theorem s109_47 : Rn 109 47 [some (vR o), l1, l2, l3, l4] st T σ K ↔ Rn 109 48 [some (vR o), l1, l2, l3, l4] (vR o :: st) T σ K := R_aload_n (n := 0) (by decide +kernel) rfl
theorem s109_48 : Rn 109 48 L (vR o :: st) T σ K ↔ sx_kd T o = 7 ∧ ∃ t, sx_rf T o 0 = some t ∧ Rn 109 51 L (vR t :: st) T σ K := R_getR (idx := 34) (ci := 7) (k := 0) (by decide +kernel) (by decide +kernel) rfl
theorem s109_51 : Rn 109 51 [l0, l1, l2, some (vI a), l4] st T σ K ↔ Rn 109 52 [l0, l1, l2, some (vI a), l4] (vI a :: st) T σ K := R_iload_n (n := 3) (by decide +kernel) rfl
theorem s109_52 : Rn 109 52 [l0, l1, l2, l3, some (vI a)] st T σ K ↔ Rn 109 54 [l0, l1, l2, l3, some (vI a)] (vI a :: st) T σ K := R_iload (n := 4) (by decide +kernel) rfl
theorem s109_54 : Rn 109 54 L (vI b :: vI a :: vR o :: st) T σ K ↔ (sx_kd T o = 2 ∧ st.length ≤ 4) ∧ Rn 62 0 [some (vR o), some (vI a), some (vI b)] [] T σ (fun r T' σ' => Rn 109 57 L (sx_push r st) T' σ' K) := R_V (cm := 62) (n := 2) (idx := 43) (ci := 2) (mx := 3) (vs := [vI a, vI b]) (by decide +kernel) (by decide +kernel) rfl (by decide +kernel) rfl (by decide +kernel) (by decide +kernel)
theorem s109_57 : Rn 109 57 [l0, l1, some (vI a), l3, l4] st T σ K ↔ Rn 109 58 [l0, l1, some (vI a), l3, l4] (vI a :: st) T σ K := R_iload_n (n := 2) (by decide +kernel) rfl
theorem s109_58 : Rn 109 58 L (vI b :: vI a :: st) T σ K ↔ (a ≤ b → Rn 109 80 L st T σ K) ∧ (b < a → Rn 109 61 L st T σ K) := R_icmp_le (off := 22) (by decide +kernel) (by decide)
theorem s109_61 : Rn 109 61 [some (vR o), l1, l2, l3, l4] st T σ K ↔ Rn 109 62 [some (vR o), l1, l2, l3, l4] (vR o :: st) T σ K := R_aload_n (n := 0) (by decide +kernel) rfl
theorem s109_62 : Rn 109 62 L (vR o :: st) T σ K ↔ sx_kd T o = 7 ∧ ∃ t, sx_rf T o 0 = some t ∧ Rn 109 65 L (vR t :: st) T σ K := R_getR (idx := 34) (ci := 7) (k := 0) (by decide +kernel) (by decide +kernel) rfl
theorem s109_65 : Rn 109 65 [l0, l1, l2, some (vI a), l4] st T σ K ↔ Rn 109 66 [l0, l1, l2, some (vI a), l4] (vI a :: st) T σ K := R_iload_n (n := 3) (by decide +kernel) rfl
theorem s109_66 : Rn 109 66 [l0, l1, l2, l3, some (vI a)] st T σ K ↔ Rn 109 68 [l0, l1, l2, l3, some (vI a)] (vI a :: st) T σ K := R_iload (n := 4) (by decide +kernel) rfl
theorem s109_68 : Rn 109 68 L (vI b :: vI a :: vR o :: st) T σ K ↔ (sx_kd T o = 2 ∧ st.length ≤ 4) ∧ Rn 62 0 [some (vR o), some (vI a), some (vI b)] [] T σ (fun r T' σ' => Rn 109 71 L (sx_push r st) T' σ' K) := R_V (cm := 62) (n := 2) (idx := 43) (ci := 2) (mx := 3) (vs := [vI a, vI b]) (by decide +kernel) (by decide +kernel) rfl (by decide +kernel) rfl (by decide +kernel) (by decide +kernel)
theorem s109_71 : Rn 109 71 [l0, l1, l2, l3, l4] (vI a :: st) T σ K ↔ Rn 109 72 [l0, l1, some (vI a), l3, l4] st T σ K := R_istore_n (n := 2) (by decide +kernel) rfl
theorem s109_72 : Rn 109 72 [l0, l1, l2, some (vI a), l4] st T σ K ↔ Rn 109 73 [l0, l1, l2, some (vI a), l4] (vI a :: st) T σ K := R_iload_n (n := 3) (by decide +kernel) rfl
theorem s109_73 : Rn 109 73 [l0, l1, l2, l3, some (vI a)] st T σ K ↔ Rn 109 75 [l0, l1, l2, l3, some (vI a)] (vI a :: st) T σ K := R_iload (n := 4) (by decide +kernel) rfl
theorem s109_75 : Rn 109 75 [l0, l1, some (vI a), l3, l4] st T σ K ↔ Rn 109 76 [l0, l1, some (vI a), l3, l4] (vI a :: st) T σ K := R_iload_n (n := 2) (by decide +kernel) rfl
theorem s109_76 : Rn 109 76 L (vI c :: vI b :: vI a :: st) T σ K ↔ st.length ≤ 4 ∧ Rn 108 0 [some (vI a), some (vI b), some (vI c)] [] T σ (fun r T' σ' => Rn 109 79 L (sx_push r st) T' σ' K) := R_S (cm := 108) (n := 3) (idx := 90) (mx := 3) (vs := [vI a, vI b, vI c]) (by decide +kernel) (Or.inl (by decide +kernel)) rfl (by decide +kernel) rfl (by decide +kernel)
theorem s109_79 : Rn 109 79 [l0, l1, l2, l3, l4] (vI a :: st) T σ K ↔ Rn 109 80 [l0, some (vI a), l2, l3, l4] st T σ K := R_istore_n (n := 1) (by decide +kernel) rfl
theorem s109_80 : Rn 109 80 [l0, l1, l2, l3, some (vI a)] st T σ K ↔ inI (a + 1) ∧ Rn 109 83 [l0, l1, l2, l3, some (vI (a + 1))] st T σ K := R_iinc (n := 4) (d := 1) (by decide +kernel) rfl
theorem s109_83 : Rn 109 83 L st T σ K ↔ Rn 109 17 L st T σ K := R_goto (off := -66) (by decide +kernel) (by decide)
theorem s109_86 : Rn 109 86 [l0, l1, l2, some (vI a), l4] st T σ K ↔ inI (a + 1) ∧ Rn 109 89 [l0, l1, l2, some (vI (a + 1)), l4] st T σ K := R_iinc (n := 3) (d := 1) (by decide +kernel) rfl
theorem s109_89 : Rn 109 89 L st T σ K ↔ Rn 109 6 L st T σ K := R_goto (off := -83) (by decide +kernel) (by decide)
theorem s109_92 : Rn 109 92 [l0, some (vI a), l2, l3, l4] st T σ K ↔ Rn 109 93 [l0, some (vI a), l2, l3, l4] (vI a :: st) T σ K := R_iload_n (n := 1) (by decide +kernel) rfl
theorem s109_93 : Rn 109 93 L [vI a] T σ K ↔ K (some (vI a)) T σ := R_ret (by decide +kernel) (by decide +kernel)
theorem s110_0 : Rn 110 0 [l0, some (vI a)] st T σ K ↔ Rn 110 1 [l0, some (vI a)] (vI a :: st) T σ K := R_iload_n (n := 1) (by decide +kernel) rfl
theorem s110_1 : Rn 110 1 L (vI a :: st) T σ K ↔ sx_sw [(0, 28), (1, 36)] 41 a (fun t => Rn 110 t L st T σ K) := R_look (d := 40) (ps := #[(0, 27), (1, 35)]) (len := 27) (by decide +kernel) (by decide +kernel)
theorem s110_28 : Rn 110 28 [some (vI a), l1] st T σ K ↔ Rn 110 29 [some (vI a), l1] (vI a :: st) T σ K := R_iload_n (n := 0) (by decide +kernel) rfl
theorem s110_29 : Rn 110 29 L st T σ K ↔ Rn 110 31 L (vI 6 :: st) T σ K := R_bipush (n := 6) (by decide +kernel) (by decide +kernel)
theorem s110_31 : Rn 110 31 L (vI b :: vI a :: st) T σ K ↔ (0 ≤ b ∧ b ≤ 31) ∧ inI (a / 2 ^ b.toNat) ∧ Rn 110 32 L (vI (a / 2 ^ b.toNat) :: st) T σ K := R_ishr (by decide +kernel)
theorem s110_32 : Rn 110 32 L st T σ K ↔ Rn 110 34 L (vI 63 :: st) T σ K := R_bipush (n := 63) (by decide +kernel) (by decide +kernel)
theorem s110_34 : Rn 110 34 L (vI b :: vI a :: st) T σ K ↔ Rn 110 35 L (vI (sx_and a b) :: st) T σ K := R_iand (by decide +kernel)
theorem s110_35 : Rn 110 35 L [vI a] T σ K ↔ K (some (vI a)) T σ := R_ret (by decide +kernel) (by decide +kernel)
theorem s110_36 : Rn 110 36 [some (vI a), l1] st T σ K ↔ Rn 110 37 [some (vI a), l1] (vI a :: st) T σ K := R_iload_n (n := 0) (by decide +kernel) rfl
theorem s110_37 : Rn 110 37 L st T σ K ↔ Rn 110 39 L (vI 63 :: st) T σ K := R_bipush (n := 63) (by decide +kernel) (by decide +kernel)
theorem s110_39 : Rn 110 39 L (vI b :: vI a :: st) T σ K ↔ Rn 110 40 L (vI (sx_and a b) :: st) T σ K := R_iand (by decide +kernel)
theorem s110_40 : Rn 110 40 L [vI a] T σ K ↔ K (some (vI a)) T σ := R_ret (by decide +kernel) (by decide +kernel)
theorem s110_41 : Rn 110 41 [some (vI a), l1] st T σ K ↔ Rn 110 42 [some (vI a), l1] (vI a :: st) T σ K := R_iload_n (n := 0) (by decide +kernel) rfl
theorem s110_42 : Rn 110 42 L st T σ K ↔ Rn 110 44 L (vI 12 :: st) T σ K := R_bipush (n := 12) (by decide +kernel) (by decide +kernel)
theorem s110_44 : Rn 110 44 L (vI b :: vI a :: st) T σ K ↔ (0 ≤ b ∧ b ≤ 31) ∧ inI (a / 2 ^ b.toNat) ∧ Rn 110 45 L (vI (a / 2 ^ b.toNat) :: st) T σ K := R_ishr (by decide +kernel)
theorem s110_45 : Rn 110 45 L [vI a] T σ K ↔ K (some (vI a)) T σ := R_ret (by decide +kernel) (by decide +kernel)
theorem s111_0 : Rn 111 0 [l0, some (vI a)] st T σ K ↔ Rn 111 1 [l0, some (vI a)] (vI a :: st) T σ K := R_iload_n (n := 1) (by decide +kernel) rfl
theorem s111_1 : Rn 111 1 L (vI a :: st) T σ K ↔ (a < 0 → Rn 111 15 L st T σ K) ∧ (0 ≤ a → Rn 111 4 L st T σ K) := R_if_lt (off := 14) (by decide +kernel) (by decide)
theorem s111_4 : Rn 111 4 [l0, some (vI a)] st T σ K ↔ Rn 111 5 [l0, some (vI a)] (vI a :: st) T σ K := R_iload_n (n := 1) (by decide +kernel) rfl
theorem s111_5 : Rn 111 5 [some (vR o), l1] st T σ K ↔ Rn 111 6 [some (vR o), l1] (vR o :: st) T σ K := R_aload_n (n := 0) (by decide +kernel) rfl
theorem s111_6 : Rn 111 6 L (vR o :: st) T σ K ↔ sx_kd T o = 8 ∧ ∃ t, sx_rf T o 2 = some t ∧ Rn 111 9 L (vR t :: st) T σ K := R_getR (idx := 28) (ci := 8) (k := 2) (by decide +kernel) (by decide +kernel) rfl
theorem s111_9 : Rn 111 9 L (vR o :: st) T σ K ↔ sx_kd T o = 2 ∧ Rn 111 12 L (vI (σ o 6) :: st) T σ K := R_getI (idx := 135) (ci := 2) (k := 6) (by decide +kernel) (by decide +kernel) (Or.inl rfl)
theorem s111_12 : Rn 111 12 L (vI b :: vI a :: st) T σ K ↔ (a < b → Rn 111 17 L st T σ K) ∧ (b ≤ a → Rn 111 15 L st T σ K) := R_icmp_lt (off := 5) (by decide +kernel) (by decide)
theorem s111_15 : Rn 111 15 L st T σ K ↔ Rn 111 16 L (vI (-1) :: st) T σ K := R_iconst (n := -1) (by decide +kernel) (by decide)
theorem s111_16 : Rn 111 16 L [vI a] T σ K ↔ K (some (vI a)) T σ := R_ret (by decide +kernel) (by decide +kernel)
theorem s111_17 : Rn 111 17 [some (vR o), l1] st T σ K ↔ Rn 111 18 [some (vR o), l1] (vR o :: st) T σ K := R_aload_n (n := 0) (by decide +kernel) rfl
theorem s111_18 : Rn 111 18 L (vR o :: st) T σ K ↔ sx_kd T o = 8 ∧ ∃ t, sx_rf T o 7 = some t ∧ Rn 111 21 L (vR t :: st) T σ K := R_getR (idx := 59) (ci := 8) (k := 7) (by decide +kernel) (by decide +kernel) rfl
theorem s111_21 : Rn 111 21 L (vR o :: st) T σ K ↔ (sx_kd T o = 7 ∧ st.length ≤ 4) ∧ Rn 99 0 [some (vR o), none, none, none] [] T σ (fun r T' σ' => Rn 111 24 L (sx_push r st) T' σ' K) := R_V (cm := 99) (n := 0) (idx := 266) (ci := 7) (mx := 4) (vs := []) (by decide +kernel) (by decide +kernel) rfl (by decide +kernel) rfl (by decide +kernel) (by decide +kernel)
theorem s111_24 : Rn 111 24 [some (vR o), l1] st T σ K ↔ Rn 111 25 [some (vR o), l1] (vR o :: st) T σ K := R_aload_n (n := 0) (by decide +kernel) rfl
theorem s111_25 : Rn 111 25 L (vR o :: st) T σ K ↔ sx_kd T o = 8 ∧ ∃ t, sx_rf T o 7 = some t ∧ Rn 111 28 L (vR t :: st) T σ K := R_getR (idx := 59) (ci := 8) (k := 7) (by decide +kernel) (by decide +kernel) rfl
theorem s111_28 : Rn 111 28 L (vR o :: st) T σ K ↔ sx_kd T o = 7 ∧ ∃ t, sx_rf T o 1 = some t ∧ Rn 111 31 L (vR t :: st) T σ K := R_getR (idx := 292) (ci := 7) (k := 1) (by decide +kernel) (by decide +kernel) rfl
theorem s111_31 : Rn 111 31 [l0, some (vI a)] st T σ K ↔ Rn 111 32 [l0, some (vI a)] (vI a :: st) T σ K := R_iload_n (n := 1) (by decide +kernel) rfl
theorem s111_32 : Rn 111 32 L (vI a :: vR o :: st) T σ K ↔ (sx_kd T o = 20 ∧ 0 ≤ a ∧ a < sx_ln T o) ∧ Rn 111 33 L (vI (σ o a) :: st) T σ K := R_iald (by decide +kernel) (by decide)
theorem s111_33 : Rn 111 33 L [vI a] T σ K ↔ K (some (vI a)) T σ := R_ret (by decide +kernel) (by decide +kernel)
theorem s112_0 : Rn 112 0 [l0, some (vI a), l2] st T σ K ↔ Rn 112 1 [l0, some (vI a), l2] (vI a :: st) T σ K := R_iload_n (n := 1) (by decide +kernel) rfl
theorem s112_1 : Rn 112 1 L st T σ K ↔ Rn 112 2 L (vI (-1) :: st) T σ K := R_iconst (n := -1) (by decide +kernel) (by decide)
theorem s112_2 : Rn 112 2 L (vI b :: vI a :: st) T σ K ↔ (a ≠ b → Rn 112 20 L st T σ K) ∧ (a = b → Rn 112 5 L st T σ K) := R_icmp_ne (off := 18) (by decide +kernel) (by decide)
theorem s112_5 : Rn 112 5 [some (vR o), l1, l2] st T σ K ↔ Rn 112 6 [some (vR o), l1, l2] (vR o :: st) T σ K := R_aload_n (n := 0) (by decide +kernel) rfl
theorem s112_6 : Rn 112 6 L (vR o :: st) T σ K ↔ sx_kd T o = 8 ∧ ∃ t, sx_rf T o 7 = some t ∧ Rn 112 9 L (vR t :: st) T σ K := R_getR (idx := 59) (ci := 8) (k := 7) (by decide +kernel) (by decide +kernel) rfl
theorem s112_9 : Rn 112 9 L (vR o :: st) T σ K ↔ (sx_kd T o = 7 ∧ st.length ≤ 4) ∧ Rn 113 0 [some (vR o), none, none] [] T σ (fun r T' σ' => Rn 112 12 L (sx_push r st) T' σ' K) := R_V (cm := 113) (n := 0) (idx := 295) (ci := 7) (mx := 3) (vs := []) (by decide +kernel) (by decide +kernel) rfl (by decide +kernel) rfl (by decide +kernel) (by decide +kernel)
theorem s112_12 : Rn 112 12 [some (vR o), l1, l2] st T σ K ↔ Rn 112 13 [some (vR o), l1, l2] (vR o :: st) T σ K := R_aload_n (n := 0) (by decide +kernel) rfl
theorem s112_13 : Rn 112 13 L (vR o :: st) T σ K ↔ sx_kd T o = 8 ∧ ∃ t, sx_rf T o 7 = some t ∧ Rn 112 16 L (vR t :: st) T σ K := R_getR (idx := 59) (ci := 8) (k := 7) (by decide +kernel) (by decide +kernel) rfl
theorem s112_16 : Rn 112 16 L (vR o :: st) T σ K ↔ (sx_kd T o = 7 ∧ st.length ≤ 4) ∧ Rn 116 0 [some (vR o), none, none] [] T σ (fun r T' σ' => Rn 112 19 L (sx_push r st) T' σ' K) := R_V (cm := 116) (n := 0) (idx := 298) (ci := 7) (mx := 3) (vs := []) (by decide +kernel) (by decide +kernel) rfl (by decide +kernel) rfl (by decide +kernel) (by decide +kernel)
theorem s112_19 : Rn 112 19 L [vI a] T σ K ↔ K (some (vI a)) T σ := R_ret (by decide +kernel) (by decide +kernel)
theorem s112_20 : Rn 112 20 [l0, some (vI a), l2] st T σ K ↔ Rn 112 21 [l0, some (vI a), l2] (vI a :: st) T σ K := R_iload_n (n := 1) (by decide +kernel) rfl
theorem s112_21 : Rn 112 21 L (vI a :: st) T σ K ↔ (a < 0 → Rn 112 46 L st T σ K) ∧ (0 ≤ a → Rn 112 24 L st T σ K) := R_if_lt (off := 25) (by decide +kernel) (by decide)
theorem s112_24 : Rn 112 24 [l0, some (vI a), l2] st T σ K ↔ Rn 112 25 [l0, some (vI a), l2] (vI a :: st) T σ K := R_iload_n (n := 1) (by decide +kernel) rfl
theorem s112_25 : Rn 112 25 [some (vR o), l1, l2] st T σ K ↔ Rn 112 26 [some (vR o), l1, l2] (vR o :: st) T σ K := R_aload_n (n := 0) (by decide +kernel) rfl
theorem s112_26 : Rn 112 26 L (vR o :: st) T σ K ↔ sx_kd T o = 8 ∧ ∃ t, sx_rf T o 2 = some t ∧ Rn 112 29 L (vR t :: st) T σ K := R_getR (idx := 28) (ci := 8) (k := 2) (by decide +kernel) (by decide +kernel) rfl
theorem s112_29 : Rn 112 29 L (vR o :: st) T σ K ↔ sx_kd T o = 2 ∧ Rn 112 32 L (vI (σ o 6) :: st) T σ K := R_getI (idx := 135) (ci := 2) (k := 6) (by decide +kernel) (by decide +kernel) (Or.inl rfl)
theorem s112_32 : Rn 112 32 L st T σ K ↔ Rn 112 33 L (vI 1 :: st) T σ K := R_iconst (n := 1) (by decide +kernel) (by decide)
theorem s112_33 : Rn 112 33 L (vI b :: vI a :: st) T σ K ↔ inI (a - b) ∧ Rn 112 34 L (vI (a - b) :: st) T σ K := R_isub (by decide +kernel)
theorem s112_34 : Rn 112 34 L (vI b :: vI a :: st) T σ K ↔ (b ≤ a → Rn 112 46 L st T σ K) ∧ (a < b → Rn 112 37 L st T σ K) := R_icmp_ge (off := 12) (by decide +kernel) (by decide)
theorem s112_37 : Rn 112 37 [l0, l1, some (vI a)] st T σ K ↔ Rn 112 38 [l0, l1, some (vI a)] (vI a :: st) T σ K := R_iload_n (n := 2) (by decide +kernel) rfl
theorem s112_38 : Rn 112 38 L (vI a :: st) T σ K ↔ (a < 0 → Rn 112 46 L st T σ K) ∧ (0 ≤ a → Rn 112 41 L st T σ K) := R_if_lt (off := 8) (by decide +kernel) (by decide)
theorem s112_41 : Rn 112 41 [l0, l1, some (vI a)] st T σ K ↔ Rn 112 42 [l0, l1, some (vI a)] (vI a :: st) T σ K := R_iload_n (n := 2) (by decide +kernel) rfl
theorem s112_42 : Rn 112 42 L st T σ K ↔ Rn 112 43 L (vI 2 :: st) T σ K := R_iconst (n := 2) (by decide +kernel) (by decide)
theorem s112_43 : Rn 112 43 L (vI b :: vI a :: st) T σ K ↔ (a ≤ b → Rn 112 48 L st T σ K) ∧ (b < a → Rn 112 46 L st T σ K) := R_icmp_le (off := 5) (by decide +kernel) (by decide)
theorem s112_46 : Rn 112 46 L st T σ K ↔ Rn 112 47 L (vI (-1) :: st) T σ K := R_iconst (n := -1) (by decide +kernel) (by decide)
theorem s112_47 : Rn 112 47 L [vI a] T σ K ↔ K (some (vI a)) T σ := R_ret (by decide +kernel) (by decide +kernel)
theorem s112_48 : Rn 112 48 [some (vR o), l1, l2] st T σ K ↔ Rn 112 49 [some (vR o), l1, l2] (vR o :: st) T σ K := R_aload_n (n := 0) (by decide +kernel) rfl
theorem s112_49 : Rn 112 49 L (vR o :: st) T σ K ↔ sx_kd T o = 8 ∧ ∃ t, sx_rf T o 7 = some t ∧ Rn 112 52 L (vR t :: st) T σ K := R_getR (idx := 59) (ci := 8) (k := 7) (by decide +kernel) (by decide +kernel) rfl
theorem s112_52 : Rn 112 52 L (vR o :: st) T σ K ↔ (sx_kd T o = 7 ∧ st.length ≤ 4) ∧ Rn 113 0 [some (vR o), none, none] [] T σ (fun r T' σ' => Rn 112 55 L (sx_push r st) T' σ' K) := R_V (cm := 113) (n := 0) (idx := 295) (ci := 7) (mx := 3) (vs := []) (by decide +kernel) (by decide +kernel) rfl (by decide +kernel) rfl (by decide +kernel) (by decide +kernel)
theorem s112_55 : Rn 112 55 [some (vR o), l1, l2] st T σ K ↔ Rn 112 56 [some (vR o), l1, l2] (vR o :: st) T σ K := R_aload_n (n := 0) (by decide +kernel) rfl
theorem s112_56 : Rn 112 56 L (vR o :: st) T σ K ↔ sx_kd T o = 8 ∧ ∃ t, sx_rf T o 7 = some t ∧ Rn 112 59 L (vR t :: st) T σ K := R_getR (idx := 59) (ci := 8) (k := 7) (by decide +kernel) (by decide +kernel) rfl
theorem s112_59 : Rn 112 59 L (vR o :: st) T σ K ↔ sx_kd T o = 7 ∧ ∃ t, sx_rf T o 2 = some t ∧ Rn 112 62 L (vR t :: st) T σ K := R_getR (idx := 301) (ci := 7) (k := 2) (by decide +kernel) (by decide +kernel) rfl
theorem s112_62 : Rn 112 62 [l0, some (vI a), l2] st T σ K ↔ Rn 112 63 [l0, some (vI a), l2] (vI a :: st) T σ K := R_iload_n (n := 1) (by decide +kernel) rfl
theorem s112_63 : Rn 112 63 L (vI a :: vR o :: st) T σ K ↔ (sx_kd T o = 20 ∧ 0 ≤ a ∧ a < sx_ln T o) ∧ Rn 112 64 L (vI (σ o a) :: st) T σ K := R_iald (by decide +kernel) (by decide)
theorem s112_64 : Rn 112 64 [l0, l1, some (vI a)] st T σ K ↔ Rn 112 65 [l0, l1, some (vI a)] (vI a :: st) T σ K := R_iload_n (n := 2) (by decide +kernel) rfl
theorem s112_65 : Rn 112 65 L (vI b :: vI a :: st) T σ K ↔ st.length ≤ 4 ∧ Rn 110 0 [some (vI a), some (vI b)] [] T σ (fun r T' σ' => Rn 112 68 L (sx_push r st) T' σ' K) := R_S (cm := 110) (n := 2) (idx := 287) (mx := 2) (vs := [vI a, vI b]) (by decide +kernel) (Or.inl (by decide +kernel)) rfl (by decide +kernel) rfl (by decide +kernel)
theorem s112_68 : Rn 112 68 L [vI a] T σ K ↔ K (some (vI a)) T σ := R_ret (by decide +kernel) (by decide +kernel)
theorem s113_0 : Rn 113 0 [some (vR o), l1, l2] st T σ K ↔ Rn 113 1 [some (vR o), l1, l2] (vR o :: st) T σ K := R_aload_n (n := 0) (by decide +kernel) rfl
theorem s113_1 : Rn 113 1 L st T σ K ↔ Rn 113 2 L (vI 0 :: st) T σ K := R_iconst (n := 0) (by decide +kernel) (by decide)
theorem s113_2 : Rn 113 2 L (vI a :: vR o :: st) T σ K ↔ sx_kd T o = 7 ∧ Rn 113 5 L st T (sx_up σ o 8 a) K := R_putI (idx := 95) (ci := 7) (k := 8) (by decide +kernel) (by decide +kernel) rfl rfl
theorem s113_5 : Rn 113 5 L st T σ K ↔ Rn 113 6 L (vI 0 :: st) T σ K := R_iconst (n := 0) (by decide +kernel) (by decide)
theorem s113_6 : Rn 113 6 [l0, l1, l2] (vI a :: st) T σ K ↔ Rn 113 7 [l0, some (vI a), l2] st T σ K := R_istore_n (n := 1) (by decide +kernel) rfl
theorem s113_7 : Rn 113 7 [l0, some (vI a), l2] st T σ K ↔ Rn 113 8 [l0, some (vI a), l2] (vI a :: st) T σ K := R_iload_n (n := 1) (by decide +kernel) rfl
theorem s113_8 : Rn 113 8 L st T σ K ↔ Rn 113 10 L (vI 40 :: st) T σ K := R_bipush (n := 40) (by decide +kernel) (by decide +kernel)
theorem s113_10 : Rn 113 10 L (vI b :: vI a :: st) T σ K ↔ (b ≤ a → Rn 113 34 L st T σ K) ∧ (a < b → Rn 113 13 L st T σ K) := R_icmp_ge (off := 24) (by decide +kernel) (by decide)
theorem s113_13 : Rn 113 13 [some (vR o), l1, l2] st T σ K ↔ Rn 113 14 [some (vR o), l1, l2] (vR o :: st) T σ K := R_aload_n (n := 0) (by decide +kernel) rfl
theorem s113_14 : Rn 113 14 L (vR o :: st) T σ K ↔ sx_kd T o = 7 ∧ ∃ t, sx_rf T o 7 = some t ∧ Rn 113 17 L (vR t :: st) T σ K := R_getR (idx := 30) (ci := 7) (k := 7) (by decide +kernel) (by decide +kernel) rfl
theorem s113_17 : Rn 113 17 [l0, some (vI a), l2] st T σ K ↔ Rn 113 18 [l0, some (vI a), l2] (vI a :: st) T σ K := R_iload_n (n := 1) (by decide +kernel) rfl
theorem s113_18 : Rn 113 18 L st T σ K ↔ Rn 113 19 L (vI 0 :: st) T σ K := R_iconst (n := 0) (by decide +kernel) (by decide)
theorem s113_19 : Rn 113 19 L (vI b :: vI a :: vR o :: st) T σ K ↔ (sx_kd T o = 21 ∧ 0 ≤ a ∧ a < sx_ln T o ∧ (b = 0 ∨ b = 1)) ∧ Rn 113 20 L st T (sx_up σ o a b) K := R_zast (by decide +kernel)
theorem s113_20 : Rn 113 20 [some (vR o), l1, l2] st T σ K ↔ Rn 113 21 [some (vR o), l1, l2] (vR o :: st) T σ K := R_aload_n (n := 0) (by decide +kernel) rfl
theorem s113_21 : Rn 113 21 L (vR o :: st) T σ K ↔ sx_kd T o = 7 ∧ ∃ t, sx_rf T o 5 = some t ∧ Rn 113 24 L (vR t :: st) T σ K := R_getR (idx := 24) (ci := 7) (k := 5) (by decide +kernel) (by decide +kernel) rfl
theorem s113_24 : Rn 113 24 [l0, some (vI a), l2] st T σ K ↔ Rn 113 25 [l0, some (vI a), l2] (vI a :: st) T σ K := R_iload_n (n := 1) (by decide +kernel) rfl
theorem s113_25 : Rn 113 25 L st T σ K ↔ Rn 113 27 L (vI 2147483647 :: st) T σ K := R_ldcI (idx := 70) (v := 2147483647) (by decide +kernel) (by decide +kernel) (by decide) rfl
theorem s113_27 : Rn 113 27 L (vI b :: vI a :: vR o :: st) T σ K ↔ (sx_kd T o = 20 ∧ 0 ≤ a ∧ a < sx_ln T o) ∧ Rn 113 28 L st T (sx_up σ o a b) K := R_iast (by decide +kernel)
theorem s113_28 : Rn 113 28 [l0, some (vI a), l2] st T σ K ↔ inI (a + 1) ∧ Rn 113 31 [l0, some (vI (a + 1)), l2] st T σ K := R_iinc (n := 1) (d := 1) (by decide +kernel) rfl
theorem s113_31 : Rn 113 31 L st T σ K ↔ Rn 113 7 L st T σ K := R_goto (off := -24) (by decide +kernel) (by decide)
theorem s113_34 : Rn 113 34 [some (vR o), l1, l2] st T σ K ↔ Rn 113 35 [some (vR o), l1, l2] (vR o :: st) T σ K := R_aload_n (n := 0) (by decide +kernel) rfl
theorem s113_35 : Rn 113 35 L (vR o :: st) T σ K ↔ sx_kd T o = 7 ∧ ∃ t, sx_rf T o 0 = some t ∧ Rn 113 38 L (vR t :: st) T σ K := R_getR (idx := 34) (ci := 7) (k := 0) (by decide +kernel) (by decide +kernel) rfl
theorem s113_38 : Rn 113 38 L (vR o :: st) T σ K ↔ sx_kd T o = 2 ∧ Rn 113 41 L (vI (σ o 5) :: st) T σ K := R_getI (idx := 66) (ci := 2) (k := 5) (by decide +kernel) (by decide +kernel) (Or.inl rfl)
theorem s113_41 : Rn 113 41 [l0, l1, l2] (vI a :: st) T σ K ↔ Rn 113 42 [l0, some (vI a), l2] st T σ K := R_istore_n (n := 1) (by decide +kernel) rfl
theorem s113_42 : Rn 113 42 L st T σ K ↔ Rn 113 43 L (vI 0 :: st) T σ K := R_iconst (n := 0) (by decide +kernel) (by decide)
theorem s113_43 : Rn 113 43 [l0, l1, l2] (vI a :: st) T σ K ↔ Rn 113 44 [l0, l1, some (vI a)] st T σ K := R_istore_n (n := 2) (by decide +kernel) rfl
theorem s113_44 : Rn 113 44 [l0, l1, some (vI a)] st T σ K ↔ Rn 113 45 [l0, l1, some (vI a)] (vI a :: st) T σ K := R_iload_n (n := 2) (by decide +kernel) rfl
theorem s113_45 : Rn 113 45 [some (vR o), l1, l2] st T σ K ↔ Rn 113 46 [some (vR o), l1, l2] (vR o :: st) T σ K := R_aload_n (n := 0) (by decide +kernel) rfl
theorem s113_46 : Rn 113 46 L (vR o :: st) T σ K ↔ sx_kd T o = 7 ∧ ∃ t, sx_rf T o 0 = some t ∧ Rn 113 49 L (vR t :: st) T σ K := R_getR (idx := 34) (ci := 7) (k := 0) (by decide +kernel) (by decide +kernel) rfl
theorem s113_49 : Rn 113 49 L (vR o :: st) T σ K ↔ sx_kd T o = 2 ∧ Rn 113 52 L (vI (σ o 6) :: st) T σ K := R_getI (idx := 71) (ci := 2) (k := 6) (by decide +kernel) (by decide +kernel) (Or.inl rfl)
theorem s113_52 : Rn 113 52 L (vI b :: vI a :: st) T σ K ↔ (b ≤ a → Rn 113 99 L st T σ K) ∧ (a < b → Rn 113 55 L st T σ K) := R_icmp_ge (off := 47) (by decide +kernel) (by decide)
theorem s113_55 : Rn 113 55 [some (vR o), l1, l2] st T σ K ↔ Rn 113 56 [some (vR o), l1, l2] (vR o :: st) T σ K := R_aload_n (n := 0) (by decide +kernel) rfl
theorem s113_56 : Rn 113 56 L (vR o :: st) T σ K ↔ sx_kd T o = 7 ∧ ∃ t, sx_rf T o 0 = some t ∧ Rn 113 59 L (vR t :: st) T σ K := R_getR (idx := 34) (ci := 7) (k := 0) (by decide +kernel) (by decide +kernel) rfl
theorem s113_59 : Rn 113 59 [l0, some (vI a), l2] st T σ K ↔ Rn 113 60 [l0, some (vI a), l2] (vI a :: st) T σ K := R_iload_n (n := 1) (by decide +kernel) rfl
theorem s113_60 : Rn 113 60 L (vI a :: vR o :: st) T σ K ↔ (sx_kd T o = 2 ∧ st.length ≤ 4) ∧ Rn 49 0 [some (vR o), some (vI a)] [] T σ (fun r T' σ' => Rn 113 63 L (sx_push r st) T' σ' K) := R_V (cm := 49) (n := 1) (idx := 52) (ci := 2) (mx := 2) (vs := [vI a]) (by decide +kernel) (by decide +kernel) rfl (by decide +kernel) rfl (by decide +kernel) (by decide +kernel)
theorem s113_63 : Rn 113 63 L (vI a :: st) T σ K ↔ (a = 0 → Rn 113 99 L st T σ K) ∧ (a ≠ 0 → Rn 113 66 L st T σ K) := R_if_eq (off := 36) (by decide +kernel) (by decide)
theorem s113_66 : Rn 113 66 [l0, l1, some (vI a)] st T σ K ↔ Rn 113 67 [l0, l1, some (vI a)] (vI a :: st) T σ K := R_iload_n (n := 2) (by decide +kernel) rfl
theorem s113_67 : Rn 113 67 L (vI a :: st) T σ K ↔ (a ≤ 0 → Rn 113 80 L st T σ K) ∧ (0 < a → Rn 113 70 L st T σ K) := R_if_le (off := 13) (by decide +kernel) (by decide)
theorem s113_70 : Rn 113 70 [some (vR o), l1, l2] st T σ K ↔ Rn 113 71 [some (vR o), l1, l2] (vR o :: st) T σ K := R_aload_n (n := 0) (by decide +kernel) rfl
theorem s113_71 : Rn 113 71 [some (vR o), l1, l2] st T σ K ↔ Rn 113 72 [some (vR o), l1, l2] (vR o :: st) T σ K := R_aload_n (n := 0) (by decide +kernel) rfl
theorem s113_72 : Rn 113 72 L (vR o :: st) T σ K ↔ sx_kd T o = 7 ∧ ∃ t, sx_rf T o 5 = some t ∧ Rn 113 75 L (vR t :: st) T σ K := R_getR (idx := 24) (ci := 7) (k := 5) (by decide +kernel) (by decide +kernel) rfl
theorem s113_75 : Rn 113 75 [l0, some (vI a), l2] st T σ K ↔ Rn 113 76 [l0, some (vI a), l2] (vI a :: st) T σ K := R_iload_n (n := 1) (by decide +kernel) rfl
theorem s113_76 : Rn 113 76 L (vI a :: vR o :: st) T σ K ↔ (sx_kd T o = 20 ∧ 0 ≤ a ∧ a < sx_ln T o) ∧ Rn 113 77 L (vI (σ o a) :: st) T σ K := R_iald (by decide +kernel) (by decide)
theorem s113_77 : Rn 113 77 L (vI a :: vR o :: st) T σ K ↔ (sx_kd T o = 7 ∧ st.length ≤ 4) ∧ Rn 114 0 [some (vR o), some (vI a), none] [] T σ (fun r T' σ' => Rn 113 80 L (sx_push r st) T' σ' K) := R_V (cm := 114) (n := 1) (idx := 98) (ci := 7) (mx := 3) (vs := [vI a]) (by decide +kernel) (by decide +kernel) rfl (by decide +kernel) rfl (by decide +kernel) (by decide +kernel)
theorem s113_80 : Rn 113 80 [some (vR o), l1, l2] st T σ K ↔ Rn 113 81 [some (vR o), l1, l2] (vR o :: st) T σ K := R_aload_n (n := 0) (by decide +kernel) rfl
theorem s113_81 : Rn 113 81 L (vR o :: st) T σ K ↔ sx_kd T o = 7 ∧ ∃ t, sx_rf T o 7 = some t ∧ Rn 113 84 L (vR t :: st) T σ K := R_getR (idx := 30) (ci := 7) (k := 7) (by decide +kernel) (by decide +kernel) rfl
theorem s113_84 : Rn 113 84 [l0, some (vI a), l2] st T σ K ↔ Rn 113 85 [l0, some (vI a), l2] (vI a :: st) T σ K := R_iload_n (n := 1) (by decide +kernel) rfl
theorem s113_85 : Rn 113 85 L st T σ K ↔ Rn 113 86 L (vI 1 :: st) T σ K := R_iconst (n := 1) (by decide +kernel) (by decide)
theorem s113_86 : Rn 113 86 L (vI b :: vI a :: vR o :: st) T σ K ↔ (sx_kd T o = 21 ∧ 0 ≤ a ∧ a < sx_ln T o ∧ (b = 0 ∨ b = 1)) ∧ Rn 113 87 L st T (sx_up σ o a b) K := R_zast (by decide +kernel)
theorem s113_87 : Rn 113 87 [some (vR o), l1, l2] st T σ K ↔ Rn 113 88 [some (vR o), l1, l2] (vR o :: st) T σ K := R_aload_n (n := 0) (by decide +kernel) rfl
theorem s113_88 : Rn 113 88 [l0, some (vI a), l2] st T σ K ↔ Rn 113 89 [l0, some (vI a), l2] (vI a :: st) T σ K := R_iload_n (n := 1) (by decide +kernel) rfl
theorem s113_89 : Rn 113 89 L (vI a :: vR o :: st) T σ K ↔ (sx_kd T o = 7 ∧ st.length ≤ 4) ∧ Rn 115 0 [some (vR o), some (vI a), none, none, none] [] T σ (fun r T' σ' => Rn 113 92 L (sx_push r st) T' σ' K) := R_V (cm := 115) (n := 1) (idx := 102) (ci := 7) (mx := 5) (vs := [vI a]) (by decide +kernel) (by decide +kernel) rfl (by decide +kernel) rfl (by decide +kernel) (by decide +kernel)
theorem s113_92 : Rn 113 92 [l0, l1, l2] (vI a :: st) T σ K ↔ Rn 113 93 [l0, some (vI a), l2] st T σ K := R_istore_n (n := 1) (by decide +kernel) rfl
theorem s113_93 : Rn 113 93 [l0, l1, some (vI a)] st T σ K ↔ inI (a + 1) ∧ Rn 113 96 [l0, l1, some (vI (a + 1))] st T σ K := R_iinc (n := 2) (d := 1) (by decide +kernel) rfl
theorem s113_96 : Rn 113 96 L st T σ K ↔ Rn 113 44 L st T σ K := R_goto (off := -52) (by decide +kernel) (by decide)
theorem s113_99 : Rn 113 99 L [] T σ K ↔ K none T σ := R_retV (by decide +kernel) (by decide +kernel)
theorem s114_0 : Rn 114 0 [some (vR o), l1, l2] st T σ K ↔ Rn 114 1 [some (vR o), l1, l2] (vR o :: st) T σ K := R_aload_n (n := 0) (by decide +kernel) rfl
theorem s114_1 : Rn 114 1 L (vR o :: st) T σ K ↔ sx_kd T o = 7 ∧ Rn 114 4 L (vI (σ o 8) :: st) T σ K := R_getI (idx := 95) (ci := 7) (k := 8) (by decide +kernel) (by decide +kernel) (Or.inl rfl)
theorem s114_4 : Rn 114 4 L st T σ K ↔ Rn 114 6 L (vI 40 :: st) T σ K := R_bipush (n := 40) (by decide +kernel) (by decide +kernel)
theorem s114_6 : Rn 114 6 L (vI b :: vI a :: st) T σ K ↔ (a < b → Rn 114 10 L st T σ K) ∧ (b ≤ a → Rn 114 9 L st T σ K) := R_icmp_lt (off := 4) (by decide +kernel) (by decide)
theorem s114_9 : Rn 114 9 L [] T σ K ↔ K none T σ := R_retV (by decide +kernel) (by decide +kernel)
theorem s114_10 : Rn 114 10 [some (vR o), l1, l2] st T σ K ↔ Rn 114 11 [some (vR o), l1, l2] (vR o :: st) T σ K := R_aload_n (n := 0) (by decide +kernel) rfl
theorem s114_11 : Rn 114 11 L (vR o :: st) T σ K ↔ sx_kd T o = 7 ∧ Rn 114 14 L (vI (σ o 8) :: st) T σ K := R_getI (idx := 95) (ci := 7) (k := 8) (by decide +kernel) (by decide +kernel) (Or.inl rfl)
theorem s114_14 : Rn 114 14 [l0, l1, l2] (vI a :: st) T σ K ↔ Rn 114 15 [l0, l1, some (vI a)] st T σ K := R_istore_n (n := 2) (by decide +kernel) rfl
theorem s114_15 : Rn 114 15 [l0, l1, some (vI a)] st T σ K ↔ Rn 114 16 [l0, l1, some (vI a)] (vI a :: st) T σ K := R_iload_n (n := 2) (by decide +kernel) rfl
theorem s114_16 : Rn 114 16 L (vI a :: st) T σ K ↔ (a ≤ 0 → Rn 114 51 L st T σ K) ∧ (0 < a → Rn 114 19 L st T σ K) := R_if_le (off := 35) (by decide +kernel) (by decide)
theorem s114_19 : Rn 114 19 [some (vR o), l1, l2] st T σ K ↔ Rn 114 20 [some (vR o), l1, l2] (vR o :: st) T σ K := R_aload_n (n := 0) (by decide +kernel) rfl
theorem s114_20 : Rn 114 20 L (vR o :: st) T σ K ↔ sx_kd T o = 7 ∧ ∃ t, sx_rf T o 2 = some t ∧ Rn 114 23 L (vR t :: st) T σ K := R_getR (idx := 15) (ci := 7) (k := 2) (by decide +kernel) (by decide +kernel) rfl
theorem s114_23 : Rn 114 23 [l0, l1, some (vI a)] st T σ K ↔ Rn 114 24 [l0, l1, some (vI a)] (vI a :: st) T σ K := R_iload_n (n := 2) (by decide +kernel) rfl
theorem s114_24 : Rn 114 24 L st T σ K ↔ Rn 114 25 L (vI 1 :: st) T σ K := R_iconst (n := 1) (by decide +kernel) (by decide)
theorem s114_25 : Rn 114 25 L (vI b :: vI a :: st) T σ K ↔ inI (a - b) ∧ Rn 114 26 L (vI (a - b) :: st) T σ K := R_isub (by decide +kernel)
theorem s114_26 : Rn 114 26 L (vI a :: vR o :: st) T σ K ↔ (sx_kd T o = 20 ∧ 0 ≤ a ∧ a < sx_ln T o) ∧ Rn 114 27 L (vI (σ o a) :: st) T σ K := R_iald (by decide +kernel) (by decide)
theorem s114_27 : Rn 114 27 [l0, some (vI a), l2] st T σ K ↔ Rn 114 28 [l0, some (vI a), l2] (vI a :: st) T σ K := R_iload_n (n := 1) (by decide +kernel) rfl
theorem s114_28 : Rn 114 28 L (vI b :: vI a :: st) T σ K ↔ (a ≤ b → Rn 114 51 L st T σ K) ∧ (b < a → Rn 114 31 L st T σ K) := R_icmp_le (off := 23) (by decide +kernel) (by decide)
theorem s114_31 : Rn 114 31 [some (vR o), l1, l2] st T σ K ↔ Rn 114 32 [some (vR o), l1, l2] (vR o :: st) T σ K := R_aload_n (n := 0) (by decide +kernel) rfl
theorem s114_32 : Rn 114 32 L (vR o :: st) T σ K ↔ sx_kd T o = 7 ∧ ∃ t, sx_rf T o 2 = some t ∧ Rn 114 35 L (vR t :: st) T σ K := R_getR (idx := 15) (ci := 7) (k := 2) (by decide +kernel) (by decide +kernel) rfl
theorem s114_35 : Rn 114 35 [l0, l1, some (vI a)] st T σ K ↔ Rn 114 36 [l0, l1, some (vI a)] (vI a :: st) T σ K := R_iload_n (n := 2) (by decide +kernel) rfl
theorem s114_36 : Rn 114 36 [some (vR o), l1, l2] st T σ K ↔ Rn 114 37 [some (vR o), l1, l2] (vR o :: st) T σ K := R_aload_n (n := 0) (by decide +kernel) rfl
theorem s114_37 : Rn 114 37 L (vR o :: st) T σ K ↔ sx_kd T o = 7 ∧ ∃ t, sx_rf T o 2 = some t ∧ Rn 114 40 L (vR t :: st) T σ K := R_getR (idx := 15) (ci := 7) (k := 2) (by decide +kernel) (by decide +kernel) rfl
theorem s114_40 : Rn 114 40 [l0, l1, some (vI a)] st T σ K ↔ Rn 114 41 [l0, l1, some (vI a)] (vI a :: st) T σ K := R_iload_n (n := 2) (by decide +kernel) rfl
theorem s114_41 : Rn 114 41 L st T σ K ↔ Rn 114 42 L (vI 1 :: st) T σ K := R_iconst (n := 1) (by decide +kernel) (by decide)
theorem s114_42 : Rn 114 42 L (vI b :: vI a :: st) T σ K ↔ inI (a - b) ∧ Rn 114 43 L (vI (a - b) :: st) T σ K := R_isub (by decide +kernel)
theorem s114_43 : Rn 114 43 L (vI a :: vR o :: st) T σ K ↔ (sx_kd T o = 20 ∧ 0 ≤ a ∧ a < sx_ln T o) ∧ Rn 114 44 L (vI (σ o a) :: st) T σ K := R_iald (by decide +kernel) (by decide)
theorem s114_44 : Rn 114 44 L (vI b :: vI a :: vR o :: st) T σ K ↔ (sx_kd T o = 20 ∧ 0 ≤ a ∧ a < sx_ln T o) ∧ Rn 114 45 L st T (sx_up σ o a b) K := R_iast (by decide +kernel)
theorem s114_45 : Rn 114 45 [l0, l1, some (vI a)] st T σ K ↔ inI (a + (-1)) ∧ Rn 114 48 [l0, l1, some (vI (a + (-1)))] st T σ K := R_iinc (n := 2) (d := -1) (by decide +kernel) rfl
theorem s114_48 : Rn 114 48 L st T σ K ↔ Rn 114 15 L st T σ K := R_goto (off := -33) (by decide +kernel) (by decide)
theorem s114_51 : Rn 114 51 [some (vR o), l1, l2] st T σ K ↔ Rn 114 52 [some (vR o), l1, l2] (vR o :: st) T σ K := R_aload_n (n := 0) (by decide +kernel) rfl
theorem s114_52 : Rn 114 52 L (vR o :: st) T σ K ↔ sx_kd T o = 7 ∧ ∃ t, sx_rf T o 2 = some t ∧ Rn 114 55 L (vR t :: st) T σ K := R_getR (idx := 15) (ci := 7) (k := 2) (by decide +kernel) (by decide +kernel) rfl
theorem s114_55 : Rn 114 55 [l0, l1, some (vI a)] st T σ K ↔ Rn 114 56 [l0, l1, some (vI a)] (vI a :: st) T σ K := R_iload_n (n := 2) (by decide +kernel) rfl
theorem s114_56 : Rn 114 56 [l0, some (vI a), l2] st T σ K ↔ Rn 114 57 [l0, some (vI a), l2] (vI a :: st) T σ K := R_iload_n (n := 1) (by decide +kernel) rfl
theorem s114_57 : Rn 114 57 L (vI b :: vI a :: vR o :: st) T σ K ↔ (sx_kd T o = 20 ∧ 0 ≤ a ∧ a < sx_ln T o) ∧ Rn 114 58 L st T (sx_up σ o a b) K := R_iast (by decide +kernel)
theorem s114_58 : Rn 114 58 [some (vR o), l1, l2] st T σ K ↔ Rn 114 59 [some (vR o), l1, l2] (vR o :: st) T σ K := R_aload_n (n := 0) (by decide +kernel) rfl
theorem s114_59 : Rn 114 59 L (vR o :: st) T σ K ↔ Rn 114 60 L (vR o :: vR o :: st) T σ K := R_dup (v := vR o) (by decide +kernel) rfl
theorem s114_60 : Rn 114 60 L (vR o :: st) T σ K ↔ sx_kd T o = 7 ∧ Rn 114 63 L (vI (σ o 8) :: st) T σ K := R_getI (idx := 95) (ci := 7) (k := 8) (by decide +kernel) (by decide +kernel) (Or.inl rfl)
theorem s114_63 : Rn 114 63 L st T σ K ↔ Rn 114 64 L (vI 1 :: st) T σ K := R_iconst (n := 1) (by decide +kernel) (by decide)
theorem s114_64 : Rn 114 64 L (vI b :: vI a :: st) T σ K ↔ inI (a + b) ∧ Rn 114 65 L (vI (a + b) :: st) T σ K := R_iadd (by decide +kernel)
theorem s114_65 : Rn 114 65 L (vI a :: vR o :: st) T σ K ↔ sx_kd T o = 7 ∧ Rn 114 68 L st T (sx_up σ o 8 a) K := R_putI (idx := 95) (ci := 7) (k := 8) (by decide +kernel) (by decide +kernel) rfl rfl
theorem s114_68 : Rn 114 68 L [] T σ K ↔ K none T σ := R_retV (by decide +kernel) (by decide +kernel)
theorem s115_0 : Rn 115 0 L st T σ K ↔ Rn 115 1 L (vI (-1) :: st) T σ K := R_iconst (n := -1) (by decide +kernel) (by decide)
theorem s115_1 : Rn 115 1 [l0, l1, l2, l3, l4] (vI a :: st) T σ K ↔ Rn 115 2 [l0, l1, some (vI a), l3, l4] st T σ K := R_istore_n (n := 2) (by decide +kernel) rfl
theorem s115_2 : Rn 115 2 L st T σ K ↔ Rn 115 3 L (vI 0 :: st) T σ K := R_iconst (n := 0) (by decide +kernel) (by decide)
theorem s115_3 : Rn 115 3 [l0, l1, l2, l3, l4] (vI a :: st) T σ K ↔ Rn 115 4 [l0, l1, l2, some (vI a), l4] st T σ K := R_istore_n (n := 3) (by decide +kernel) rfl
theorem s115_4 : Rn 115 4 [l0, l1, l2, some (vI a), l4] st T σ K ↔ Rn 115 5 [l0, l1, l2, some (vI a), l4] (vI a :: st) T σ K := R_iload_n (n := 3) (by decide +kernel) rfl
theorem s115_5 : Rn 115 5 L st T σ K ↔ Rn 115 7 L (vI 40 :: st) T σ K := R_bipush (n := 40) (by decide +kernel) (by decide +kernel)
theorem s115_7 : Rn 115 7 L (vI b :: vI a :: st) T σ K ↔ (b ≤ a → Rn 115 91 L st T σ K) ∧ (a < b → Rn 115 10 L st T σ K) := R_icmp_ge (off := 84) (by decide +kernel) (by decide)
theorem s115_10 : Rn 115 10 [some (vR o), l1, l2, l3, l4] st T σ K ↔ Rn 115 11 [some (vR o), l1, l2, l3, l4] (vR o :: st) T σ K := R_aload_n (n := 0) (by decide +kernel) rfl
theorem s115_11 : Rn 115 11 L (vR o :: st) T σ K ↔ sx_kd T o = 7 ∧ ∃ t, sx_rf T o 0 = some t ∧ Rn 115 14 L (vR t :: st) T σ K := R_getR (idx := 34) (ci := 7) (k := 0) (by decide +kernel) (by decide +kernel) rfl
theorem s115_14 : Rn 115 14 [l0, l1, l2, some (vI a), l4] st T σ K ↔ Rn 115 15 [l0, l1, l2, some (vI a), l4] (vI a :: st) T σ K := R_iload_n (n := 3) (by decide +kernel) rfl
theorem s115_15 : Rn 115 15 L (vI a :: vR o :: st) T σ K ↔ (sx_kd T o = 2 ∧ st.length ≤ 4) ∧ Rn 49 0 [some (vR o), some (vI a)] [] T σ (fun r T' σ' => Rn 115 18 L (sx_push r st) T' σ' K) := R_V (cm := 49) (n := 1) (idx := 52) (ci := 2) (mx := 2) (vs := [vI a]) (by decide +kernel) (by decide +kernel) rfl (by decide +kernel) rfl (by decide +kernel) (by decide +kernel)
theorem s115_18 : Rn 115 18 L (vI a :: st) T σ K ↔ (a = 0 → Rn 115 85 L st T σ K) ∧ (a ≠ 0 → Rn 115 21 L st T σ K) := R_if_eq (off := 67) (by decide +kernel) (by decide)
theorem s115_21 : Rn 115 21 [some (vR o), l1, l2, l3, l4] st T σ K ↔ Rn 115 22 [some (vR o), l1, l2, l3, l4] (vR o :: st) T σ K := R_aload_n (n := 0) (by decide +kernel) rfl
theorem s115_22 : Rn 115 22 L (vR o :: st) T σ K ↔ sx_kd T o = 7 ∧ ∃ t, sx_rf T o 7 = some t ∧ Rn 115 25 L (vR t :: st) T σ K := R_getR (idx := 30) (ci := 7) (k := 7) (by decide +kernel) (by decide +kernel) rfl
theorem s115_25 : Rn 115 25 [l0, l1, l2, some (vI a), l4] st T σ K ↔ Rn 115 26 [l0, l1, l2, some (vI a), l4] (vI a :: st) T σ K := R_iload_n (n := 3) (by decide +kernel) rfl
theorem s115_26 : Rn 115 26 L (vI a :: vR o :: st) T σ K ↔ (sx_kd T o = 21 ∧ 0 ≤ a ∧ a < sx_ln T o) ∧ Rn 115 27 L (vI (σ o a) :: st) T σ K := R_zald (by decide +kernel)
theorem s115_27 : Rn 115 27 L (vI a :: st) T σ K ↔ (a ≠ 0 → Rn 115 85 L st T σ K) ∧ (a = 0 → Rn 115 30 L st T σ K) := R_if_ne (off := 58) (by decide +kernel) (by decide)
theorem s115_30 : Rn 115 30 [l0, l1, l2, some (vI a), l4] st T σ K ↔ Rn 115 31 [l0, l1, l2, some (vI a), l4] (vI a :: st) T σ K := R_iload_n (n := 3) (by decide +kernel) rfl
theorem s115_31 : Rn 115 31 [l0, some (vI a), l2, l3, l4] st T σ K ↔ Rn 115 32 [l0, some (vI a), l2, l3, l4] (vI a :: st) T σ K := R_iload_n (n := 1) (by decide +kernel) rfl
theorem s115_32 : Rn 115 32 [some (vR o), l1, l2, l3, l4] st T σ K ↔ Rn 115 33 [some (vR o), l1, l2, l3, l4] (vR o :: st) T σ K := R_aload_n (n := 0) (by decide +kernel) rfl
theorem s115_33 : Rn 115 33 L (vR o :: st) T σ K ↔ sx_kd T o = 7 ∧ ∃ t, sx_rf T o 0 = some t ∧ Rn 115 36 L (vR t :: st) T σ K := R_getR (idx := 34) (ci := 7) (k := 0) (by decide +kernel) (by decide +kernel) rfl
theorem s115_36 : Rn 115 36 [l0, l1, l2, some (vI a), l4] st T σ K ↔ Rn 115 37 [l0, l1, l2, some (vI a), l4] (vI a :: st) T σ K := R_iload_n (n := 3) (by decide +kernel) rfl
theorem s115_37 : Rn 115 37 [l0, some (vI a), l2, l3, l4] st T σ K ↔ Rn 115 38 [l0, some (vI a), l2, l3, l4] (vI a :: st) T σ K := R_iload_n (n := 1) (by decide +kernel) rfl
theorem s115_38 : Rn 115 38 L (vI b :: vI a :: vR o :: st) T σ K ↔ (sx_kd T o = 2 ∧ st.length ≤ 4) ∧ Rn 62 0 [some (vR o), some (vI a), some (vI b)] [] T σ (fun r T' σ' => Rn 115 41 L (sx_push r st) T' σ' K) := R_V (cm := 62) (n := 2) (idx := 43) (ci := 2) (mx := 3) (vs := [vI a, vI b]) (by decide +kernel) (by decide +kernel) rfl (by decide +kernel) rfl (by decide +kernel) (by decide +kernel)
theorem s115_41 : Rn 115 41 L (vI c :: vI b :: vI a :: st) T σ K ↔ st.length ≤ 4 ∧ Rn 108 0 [some (vI a), some (vI b), some (vI c)] [] T σ (fun r T' σ' => Rn 115 44 L (sx_push r st) T' σ' K) := R_S (cm := 108) (n := 3) (idx := 90) (mx := 3) (vs := [vI a, vI b, vI c]) (by decide +kernel) (Or.inl (by decide +kernel)) rfl (by decide +kernel) rfl (by decide +kernel)
theorem s115_44 : Rn 115 44 [l0, l1, l2, l3, l4] (vI a :: st) T σ K ↔ Rn 115 46 [l0, l1, l2, l3, some (vI a)] st T σ K := R_istore (n := 4) (by decide +kernel) rfl
theorem s115_46 : Rn 115 46 [some (vR o), l1, l2, l3, l4] st T σ K ↔ Rn 115 47 [some (vR o), l1, l2, l3, l4] (vR o :: st) T σ K := R_aload_n (n := 0) (by decide +kernel) rfl
theorem s115_47 : Rn 115 47 L (vR o :: st) T σ K ↔ sx_kd T o = 7 ∧ ∃ t, sx_rf T o 5 = some t ∧ Rn 115 50 L (vR t :: st) T σ K := R_getR (idx := 24) (ci := 7) (k := 5) (by decide +kernel) (by decide +kernel) rfl
theorem s115_50 : Rn 115 50 [l0, l1, l2, some (vI a), l4] st T σ K ↔ Rn 115 51 [l0, l1, l2, some (vI a), l4] (vI a :: st) T σ K := R_iload_n (n := 3) (by decide +kernel) rfl
theorem s115_51 : Rn 115 51 [some (vR o), l1, l2, l3, l4] st T σ K ↔ Rn 115 52 [some (vR o), l1, l2, l3, l4] (vR o :: st) T σ K := R_aload_n (n := 0) (by decide +kernel) rfl
theorem s115_52 : Rn 115 52 L (vR o :: st) T σ K ↔ sx_kd T o = 7 ∧ ∃ t, sx_rf T o 5 = some t ∧ Rn 115 55 L (vR t :: st) T σ K := R_getR (idx := 24) (ci := 7) (k := 5) (by decide +kernel) (by decide +kernel) rfl
theorem s115_55 : Rn 115 55 [l0, l1, l2, some (vI a), l4] st T σ K ↔ Rn 115 56 [l0, l1, l2, some (vI a), l4] (vI a :: st) T σ K := R_iload_n (n := 3) (by decide +kernel) rfl
theorem s115_56 : Rn 115 56 L (vI a :: vR o :: st) T σ K ↔ (sx_kd T o = 20 ∧ 0 ≤ a ∧ a < sx_ln T o) ∧ Rn 115 57 L (vI (σ o a) :: st) T σ K := R_iald (by decide +kernel) (by decide)
theorem s115_57 : Rn 115 57 [l0, l1, l2, l3, some (vI a)] st T σ K ↔ Rn 115 59 [l0, l1, l2, l3, some (vI a)] (vI a :: st) T σ K := R_iload (n := 4) (by decide +kernel) rfl
theorem s115_59 : Rn 115 59 L (vI b :: vI a :: st) T σ K ↔ st.length ≤ 4 ∧ Rn 115 62 L (vI (min a b) :: st) T σ K := R_min (idx := 47) (by decide +kernel) (by decide +kernel) (by decide +kernel) (by decide +kernel)
theorem s115_62 : Rn 115 62 L (vI b :: vI a :: vR o :: st) T σ K ↔ (sx_kd T o = 20 ∧ 0 ≤ a ∧ a < sx_ln T o) ∧ Rn 115 63 L st T (sx_up σ o a b) K := R_iast (by decide +kernel)
theorem s115_63 : Rn 115 63 [l0, l1, some (vI a), l3, l4] st T σ K ↔ Rn 115 64 [l0, l1, some (vI a), l3, l4] (vI a :: st) T σ K := R_iload_n (n := 2) (by decide +kernel) rfl
theorem s115_64 : Rn 115 64 L st T σ K ↔ Rn 115 65 L (vI (-1) :: st) T σ K := R_iconst (n := -1) (by decide +kernel) (by decide)
theorem s115_65 : Rn 115 65 L (vI b :: vI a :: st) T σ K ↔ (a = b → Rn 115 83 L st T σ K) ∧ (a ≠ b → Rn 115 68 L st T σ K) := R_icmp_eq (off := 18) (by decide +kernel) (by decide)
theorem s115_68 : Rn 115 68 [some (vR o), l1, l2, l3, l4] st T σ K ↔ Rn 115 69 [some (vR o), l1, l2, l3, l4] (vR o :: st) T σ K := R_aload_n (n := 0) (by decide +kernel) rfl
theorem s115_69 : Rn 115 69 L (vR o :: st) T σ K ↔ sx_kd T o = 7 ∧ ∃ t, sx_rf T o 5 = some t ∧ Rn 115 72 L (vR t :: st) T σ K := R_getR (idx := 24) (ci := 7) (k := 5) (by decide +kernel) (by decide +kernel) rfl
theorem s115_72 : Rn 115 72 [l0, l1, l2, some (vI a), l4] st T σ K ↔ Rn 115 73 [l0, l1, l2, some (vI a), l4] (vI a :: st) T σ K := R_iload_n (n := 3) (by decide +kernel) rfl
theorem s115_73 : Rn 115 73 L (vI a :: vR o :: st) T σ K ↔ (sx_kd T o = 20 ∧ 0 ≤ a ∧ a < sx_ln T o) ∧ Rn 115 74 L (vI (σ o a) :: st) T σ K := R_iald (by decide +kernel) (by decide)
theorem s115_74 : Rn 115 74 [some (vR o), l1, l2, l3, l4] st T σ K ↔ Rn 115 75 [some (vR o), l1, l2, l3, l4] (vR o :: st) T σ K := R_aload_n (n := 0) (by decide +kernel) rfl
theorem s115_75 : Rn 115 75 L (vR o :: st) T σ K ↔ sx_kd T o = 7 ∧ ∃ t, sx_rf T o 5 = some t ∧ Rn 115 78 L (vR t :: st) T σ K := R_getR (idx := 24) (ci := 7) (k := 5) (by decide +kernel) (by decide +kernel) rfl
theorem s115_78 : Rn 115 78 [l0, l1, some (vI a), l3, l4] st T σ K ↔ Rn 115 79 [l0, l1, some (vI a), l3, l4] (vI a :: st) T σ K := R_iload_n (n := 2) (by decide +kernel) rfl
theorem s115_79 : Rn 115 79 L (vI a :: vR o :: st) T σ K ↔ (sx_kd T o = 20 ∧ 0 ≤ a ∧ a < sx_ln T o) ∧ Rn 115 80 L (vI (σ o a) :: st) T σ K := R_iald (by decide +kernel) (by decide)
theorem s115_80 : Rn 115 80 L (vI b :: vI a :: st) T σ K ↔ (b ≤ a → Rn 115 85 L st T σ K) ∧ (a < b → Rn 115 83 L st T σ K) := R_icmp_ge (off := 5) (by decide +kernel) (by decide)
theorem s115_83 : Rn 115 83 [l0, l1, l2, some (vI a), l4] st T σ K ↔ Rn 115 84 [l0, l1, l2, some (vI a), l4] (vI a :: st) T σ K := R_iload_n (n := 3) (by decide +kernel) rfl
theorem s115_84 : Rn 115 84 [l0, l1, l2, l3, l4] (vI a :: st) T σ K ↔ Rn 115 85 [l0, l1, some (vI a), l3, l4] st T σ K := R_istore_n (n := 2) (by decide +kernel) rfl
theorem s115_85 : Rn 115 85 [l0, l1, l2, some (vI a), l4] st T σ K ↔ inI (a + 1) ∧ Rn 115 88 [l0, l1, l2, some (vI (a + 1)), l4] st T σ K := R_iinc (n := 3) (d := 1) (by decide +kernel) rfl
theorem s115_88 : Rn 115 88 L st T σ K ↔ Rn 115 4 L st T σ K := R_goto (off := -84) (by decide +kernel) (by decide)
theorem s115_91 : Rn 115 91 [l0, l1, some (vI a), l3, l4] st T σ K ↔ Rn 115 92 [l0, l1, some (vI a), l3, l4] (vI a :: st) T σ K := R_iload_n (n := 2) (by decide +kernel) rfl
theorem s115_92 : Rn 115 92 L [vI a] T σ K ↔ K (some (vI a)) T σ := R_ret (by decide +kernel) (by decide +kernel)
theorem s116_0 : Rn 116 0 L st T σ K ↔ Rn 116 1 L (vI 0 :: st) T σ K := R_iconst (n := 0) (by decide +kernel) (by decide)
theorem s116_1 : Rn 116 1 [l0, l1, l2] (vI a :: st) T σ K ↔ Rn 116 2 [l0, some (vI a), l2] st T σ K := R_istore_n (n := 1) (by decide +kernel) rfl
theorem s116_2 : Rn 116 2 L st T σ K ↔ Rn 116 3 L (vI 0 :: st) T σ K := R_iconst (n := 0) (by decide +kernel) (by decide)
theorem s116_3 : Rn 116 3 [l0, l1, l2] (vI a :: st) T σ K ↔ Rn 116 4 [l0, l1, some (vI a)] st T σ K := R_istore_n (n := 2) (by decide +kernel) rfl
theorem s116_4 : Rn 116 4 [l0, l1, some (vI a)] st T σ K ↔ Rn 116 5 [l0, l1, some (vI a)] (vI a :: st) T σ K := R_iload_n (n := 2) (by decide +kernel) rfl
theorem s116_5 : Rn 116 5 [some (vR o), l1, l2] st T σ K ↔ Rn 116 6 [some (vR o), l1, l2] (vR o :: st) T σ K := R_aload_n (n := 0) (by decide +kernel) rfl
theorem s116_6 : Rn 116 6 L (vR o :: st) T σ K ↔ sx_kd T o = 7 ∧ Rn 116 9 L (vI (σ o 8) :: st) T σ K := R_getI (idx := 95) (ci := 7) (k := 8) (by decide +kernel) (by decide +kernel) (Or.inl rfl)
theorem s116_9 : Rn 116 9 L (vI b :: vI a :: st) T σ K ↔ (b ≤ a → Rn 116 31 L st T σ K) ∧ (a < b → Rn 116 12 L st T σ K) := R_icmp_ge (off := 22) (by decide +kernel) (by decide)
theorem s116_12 : Rn 116 12 [l0, some (vI a), l2] st T σ K ↔ Rn 116 13 [l0, some (vI a), l2] (vI a :: st) T σ K := R_iload_n (n := 1) (by decide +kernel) rfl
theorem s116_13 : Rn 116 13 [some (vR o), l1, l2] st T σ K ↔ Rn 116 14 [some (vR o), l1, l2] (vR o :: st) T σ K := R_aload_n (n := 0) (by decide +kernel) rfl
theorem s116_14 : Rn 116 14 L (vR o :: st) T σ K ↔ sx_kd T o = 7 ∧ ∃ t, sx_rf T o 2 = some t ∧ Rn 116 17 L (vR t :: st) T σ K := R_getR (idx := 15) (ci := 7) (k := 2) (by decide +kernel) (by decide +kernel) rfl
theorem s116_17 : Rn 116 17 [l0, l1, some (vI a)] st T σ K ↔ Rn 116 18 [l0, l1, some (vI a)] (vI a :: st) T σ K := R_iload_n (n := 2) (by decide +kernel) rfl
theorem s116_18 : Rn 116 18 L (vI a :: vR o :: st) T σ K ↔ (sx_kd T o = 20 ∧ 0 ≤ a ∧ a < sx_ln T o) ∧ Rn 116 19 L (vI (σ o a) :: st) T σ K := R_iald (by decide +kernel) (by decide)
theorem s116_19 : Rn 116 19 L st T σ K ↔ Rn 116 20 L (vI 2 :: st) T σ K := R_iconst (n := 2) (by decide +kernel) (by decide)
theorem s116_20 : Rn 116 20 L (vI b :: vI a :: st) T σ K ↔ st.length ≤ 4 ∧ Rn 110 0 [some (vI a), some (vI b)] [] T σ (fun r T' σ' => Rn 116 23 L (sx_push r st) T' σ' K) := R_S (cm := 110) (n := 2) (idx := 106) (mx := 2) (vs := [vI a, vI b]) (by decide +kernel) (Or.inl (by decide +kernel)) rfl (by decide +kernel) rfl (by decide +kernel)
theorem s116_23 : Rn 116 23 L (vI b :: vI a :: st) T σ K ↔ inI (a + b) ∧ Rn 116 24 L (vI (a + b) :: st) T σ K := R_iadd (by decide +kernel)
theorem s116_24 : Rn 116 24 [l0, l1, l2] (vI a :: st) T σ K ↔ Rn 116 25 [l0, some (vI a), l2] st T σ K := R_istore_n (n := 1) (by decide +kernel) rfl
theorem s116_25 : Rn 116 25 [l0, l1, some (vI a)] st T σ K ↔ inI (a + 1) ∧ Rn 116 28 [l0, l1, some (vI (a + 1))] st T σ K := R_iinc (n := 2) (d := 1) (by decide +kernel) rfl
theorem s116_28 : Rn 116 28 L st T σ K ↔ Rn 116 4 L st T σ K := R_goto (off := -24) (by decide +kernel) (by decide)
theorem s116_31 : Rn 116 31 [l0, some (vI a), l2] st T σ K ↔ Rn 116 32 [l0, some (vI a), l2] (vI a :: st) T σ K := R_iload_n (n := 1) (by decide +kernel) rfl
theorem s116_32 : Rn 116 32 L [vI a] T σ K ↔ K (some (vI a)) T σ := R_ret (by decide +kernel) (by decide +kernel)
theorem s117_0 : Rn 117 0 [some (vR o), l1, l2] st T σ K ↔ Rn 117 1 [some (vR o), l1, l2] (vR o :: st) T σ K := R_aload_n (n := 0) (by decide +kernel) rfl
theorem s117_1 : Rn 117 1 L (vR o :: st) T σ K ↔ sx_kd T o = 8 ∧ ∃ t, sx_rf T o 2 = some t ∧ Rn 117 4 L (vR t :: st) T σ K := R_getR (idx := 28) (ci := 8) (k := 2) (by decide +kernel) (by decide +kernel) rfl
theorem s117_4 : Rn 117 4 [l0, some (vI a), l2] st T σ K ↔ Rn 117 5 [l0, some (vI a), l2] (vI a :: st) T σ K := R_iload_n (n := 1) (by decide +kernel) rfl
theorem s117_5 : Rn 117 5 L (vI a :: vR o :: st) T σ K ↔ (sx_kd T o = 2 ∧ st.length ≤ 4) ∧ Rn 49 0 [some (vR o), some (vI a)] [] T σ (fun r T' σ' => Rn 117 8 L (sx_push r st) T' σ' K) := R_V (cm := 49) (n := 1) (idx := 146) (ci := 2) (mx := 2) (vs := [vI a]) (by decide +kernel) (by decide +kernel) rfl (by decide +kernel) rfl (by decide +kernel) (by decide +kernel)
theorem s117_8 : Rn 117 8 L (vI a :: st) T σ K ↔ (a = 0 → Rn 117 18 L st T σ K) ∧ (a ≠ 0 → Rn 117 11 L st T σ K) := R_if_eq (off := 10) (by decide +kernel) (by decide)
theorem s117_11 : Rn 117 11 [l0, l1, some (vI a)] st T σ K ↔ Rn 117 12 [l0, l1, some (vI a)] (vI a :: st) T σ K := R_iload_n (n := 2) (by decide +kernel) rfl
theorem s117_12 : Rn 117 12 L (vI a :: st) T σ K ↔ st.length ≤ 4 ∧ Rn 88 0 [some (vI a)] [] T σ (fun r T' σ' => Rn 117 15 L (sx_push r st) T' σ' K) := R_S (cm := 88) (n := 1) (idx := 237) (mx := 1) (vs := [vI a]) (by decide +kernel) (Or.inl (by decide +kernel)) rfl (by decide +kernel) rfl (by decide +kernel)
theorem s117_15 : Rn 117 15 L (vI a :: st) T σ K ↔ (a ≠ 0 → Rn 117 20 L st T σ K) ∧ (a = 0 → Rn 117 18 L st T σ K) := R_if_ne (off := 5) (by decide +kernel) (by decide)
theorem s117_18 : Rn 117 18 L st T σ K ↔ Rn 117 19 L (vI (-1) :: st) T σ K := R_iconst (n := -1) (by decide +kernel) (by decide)
theorem s117_19 : Rn 117 19 L [vI a] T σ K ↔ K (some (vI a)) T σ := R_ret (by decide +kernel) (by decide +kernel)
theorem s117_20 : Rn 117 20 [some (vR o), l1, l2] st T σ K ↔ Rn 117 21 [some (vR o), l1, l2] (vR o :: st) T σ K := R_aload_n (n := 0) (by decide +kernel) rfl
theorem s117_21 : Rn 117 21 L (vR o :: st) T σ K ↔ sx_kd T o = 8 ∧ ∃ t, sx_rf T o 7 = some t ∧ Rn 117 24 L (vR t :: st) T σ K := R_getR (idx := 59) (ci := 8) (k := 7) (by decide +kernel) (by decide +kernel) rfl
theorem s117_24 : Rn 117 24 [l0, l1, some (vI a)] st T σ K ↔ Rn 117 25 [l0, l1, some (vI a)] (vI a :: st) T σ K := R_iload_n (n := 2) (by decide +kernel) rfl
theorem s117_25 : Rn 117 25 L (vI a :: vR o :: st) T σ K ↔ (sx_kd T o = 7 ∧ st.length ≤ 4) ∧ Rn 118 0 [some (vR o), some (vI a), none] [] T σ (fun r T' σ' => Rn 117 28 L (sx_push r st) T' σ' K) := R_V (cm := 118) (n := 1) (idx := 304) (ci := 7) (mx := 3) (vs := [vI a]) (by decide +kernel) (by decide +kernel) rfl (by decide +kernel) rfl (by decide +kernel) (by decide +kernel)
theorem s117_28 : Rn 117 28 [some (vR o), l1, l2] st T σ K ↔ Rn 117 29 [some (vR o), l1, l2] (vR o :: st) T σ K := R_aload_n (n := 0) (by decide +kernel) rfl
theorem s117_29 : Rn 117 29 L (vR o :: st) T σ K ↔ sx_kd T o = 8 ∧ ∃ t, sx_rf T o 7 = some t ∧ Rn 117 32 L (vR t :: st) T σ K := R_getR (idx := 59) (ci := 8) (k := 7) (by decide +kernel) (by decide +kernel) rfl
theorem s117_32 : Rn 117 32 L (vR o :: st) T σ K ↔ sx_kd T o = 7 ∧ ∃ t, sx_rf T o 3 = some t ∧ Rn 117 35 L (vR t :: st) T σ K := R_getR (idx := 307) (ci := 7) (k := 3) (by decide +kernel) (by decide +kernel) rfl
theorem s117_35 : Rn 117 35 [l0, some (vI a), l2] st T σ K ↔ Rn 117 36 [l0, some (vI a), l2] (vI a :: st) T σ K := R_iload_n (n := 1) (by decide +kernel) rfl
theorem s117_36 : Rn 117 36 L (vI a :: vR o :: st) T σ K ↔ (sx_kd T o = 20 ∧ 0 ≤ a ∧ a < sx_ln T o) ∧ Rn 117 37 L (vI (σ o a) :: st) T σ K := R_iald (by decide +kernel) (by decide)
theorem s117_37 : Rn 117 37 L [vI a] T σ K ↔ K (some (vI a)) T σ := R_ret (by decide +kernel) (by decide +kernel)
theorem s118_0 : Rn 118 0 [some (vR o), l1, l2] st T σ K ↔ Rn 118 1 [some (vR o), l1, l2] (vR o :: st) T σ K := R_aload_n (n := 0) (by decide +kernel) rfl
theorem s118_1 : Rn 118 1 L (vR o :: st) T σ K ↔ (sx_kd T o = 7 ∧ st.length ≤ 4) ∧ Rn 113 0 [some (vR o), none, none] [] T σ (fun r T' σ' => Rn 118 4 L (sx_push r st) T' σ' K) := R_V (cm := 113) (n := 0) (idx := 109) (ci := 7) (mx := 3) (vs := []) (by decide +kernel) (by decide +kernel) rfl (by decide +kernel) rfl (by decide +kernel) (by decide +kernel)
theorem s118_4 : Rn 118 4 L st T σ K ↔ Rn 118 5 L (vI 0 :: st) T σ K := R_iconst (n := 0) (by decide +kernel) (by decide)
theorem s118_5 : Rn 118 5 [l0, l1, l2] (vI a :: st) T σ K ↔ Rn 118 6 [l0, l1, some (vI a)] st T σ K := R_istore_n (n := 2) (by decide +kernel) rfl
theorem s118_6 : Rn 118 6 [l0, l1, some (vI a)] st T σ K ↔ Rn 118 7 [l0, l1, some (vI a)] (vI a :: st) T σ K := R_iload_n (n := 2) (by decide +kernel) rfl
theorem s118_7 : Rn 118 7 L st T σ K ↔ Rn 118 9 L (vI 40 :: st) T σ K := R_bipush (n := 40) (by decide +kernel) (by decide +kernel)
theorem s118_9 : Rn 118 9 L (vI b :: vI a :: st) T σ K ↔ (b ≤ a → Rn 118 25 L st T σ K) ∧ (a < b → Rn 118 12 L st T σ K) := R_icmp_ge (off := 16) (by decide +kernel) (by decide)
theorem s118_12 : Rn 118 12 [some (vR o), l1, l2] st T σ K ↔ Rn 118 13 [some (vR o), l1, l2] (vR o :: st) T σ K := R_aload_n (n := 0) (by decide +kernel) rfl
theorem s118_13 : Rn 118 13 L (vR o :: st) T σ K ↔ sx_kd T o = 7 ∧ ∃ t, sx_rf T o 3 = some t ∧ Rn 118 16 L (vR t :: st) T σ K := R_getR (idx := 18) (ci := 7) (k := 3) (by decide +kernel) (by decide +kernel) rfl
theorem s118_16 : Rn 118 16 [l0, l1, some (vI a)] st T σ K ↔ Rn 118 17 [l0, l1, some (vI a)] (vI a :: st) T σ K := R_iload_n (n := 2) (by decide +kernel) rfl
theorem s118_17 : Rn 118 17 [l0, l1, some (vI a)] st T σ K ↔ Rn 118 18 [l0, l1, some (vI a)] (vI a :: st) T σ K := R_iload_n (n := 2) (by decide +kernel) rfl
theorem s118_18 : Rn 118 18 L (vI b :: vI a :: vR o :: st) T σ K ↔ (sx_kd T o = 20 ∧ 0 ≤ a ∧ a < sx_ln T o) ∧ Rn 118 19 L st T (sx_up σ o a b) K := R_iast (by decide +kernel)
theorem s118_19 : Rn 118 19 [l0, l1, some (vI a)] st T σ K ↔ inI (a + 1) ∧ Rn 118 22 [l0, l1, some (vI (a + 1))] st T σ K := R_iinc (n := 2) (d := 1) (by decide +kernel) rfl
theorem s118_22 : Rn 118 22 L st T σ K ↔ Rn 118 6 L st T σ K := R_goto (off := -16) (by decide +kernel) (by decide)
theorem s118_25 : Rn 118 25 L st T σ K ↔ Rn 118 26 L (vI 0 :: st) T σ K := R_iconst (n := 0) (by decide +kernel) (by decide)
theorem s118_26 : Rn 118 26 [l0, l1, l2] (vI a :: st) T σ K ↔ Rn 118 27 [l0, l1, some (vI a)] st T σ K := R_istore_n (n := 2) (by decide +kernel) rfl
theorem s118_27 : Rn 118 27 [l0, l1, some (vI a)] st T σ K ↔ Rn 118 28 [l0, l1, some (vI a)] (vI a :: st) T σ K := R_iload_n (n := 2) (by decide +kernel) rfl
theorem s118_28 : Rn 118 28 [some (vR o), l1, l2] st T σ K ↔ Rn 118 29 [some (vR o), l1, l2] (vR o :: st) T σ K := R_aload_n (n := 0) (by decide +kernel) rfl
theorem s118_29 : Rn 118 29 L (vR o :: st) T σ K ↔ sx_kd T o = 7 ∧ Rn 118 32 L (vI (σ o 8) :: st) T σ K := R_getI (idx := 95) (ci := 7) (k := 8) (by decide +kernel) (by decide +kernel) (Or.inl rfl)
theorem s118_32 : Rn 118 32 L (vI b :: vI a :: st) T σ K ↔ (b ≤ a → Rn 118 79 L st T σ K) ∧ (a < b → Rn 118 35 L st T σ K) := R_icmp_ge (off := 47) (by decide +kernel) (by decide)
theorem s118_35 : Rn 118 35 [some (vR o), l1, l2] st T σ K ↔ Rn 118 36 [some (vR o), l1, l2] (vR o :: st) T σ K := R_aload_n (n := 0) (by decide +kernel) rfl
theorem s118_36 : Rn 118 36 L (vR o :: st) T σ K ↔ sx_kd T o = 7 ∧ ∃ t, sx_rf T o 2 = some t ∧ Rn 118 39 L (vR t :: st) T σ K := R_getR (idx := 15) (ci := 7) (k := 2) (by decide +kernel) (by decide +kernel) rfl
theorem s118_39 : Rn 118 39 [l0, l1, some (vI a)] st T σ K ↔ Rn 118 40 [l0, l1, some (vI a)] (vI a :: st) T σ K := R_iload_n (n := 2) (by decide +kernel) rfl
theorem s118_40 : Rn 118 40 L (vI a :: vR o :: st) T σ K ↔ (sx_kd T o = 20 ∧ 0 ≤ a ∧ a < sx_ln T o) ∧ Rn 118 41 L (vI (σ o a) :: st) T σ K := R_iald (by decide +kernel) (by decide)
theorem s118_41 : Rn 118 41 L st T σ K ↔ Rn 118 42 L (vI 2 :: st) T σ K := R_iconst (n := 2) (by decide +kernel) (by decide)
theorem s118_42 : Rn 118 42 L (vI b :: vI a :: st) T σ K ↔ st.length ≤ 4 ∧ Rn 110 0 [some (vI a), some (vI b)] [] T σ (fun r T' σ' => Rn 118 45 L (sx_push r st) T' σ' K) := R_S (cm := 110) (n := 2) (idx := 106) (mx := 2) (vs := [vI a, vI b]) (by decide +kernel) (Or.inl (by decide +kernel)) rfl (by decide +kernel) rfl (by decide +kernel)
theorem s118_45 : Rn 118 45 [l0, some (vI a), l2] st T σ K ↔ Rn 118 46 [l0, some (vI a), l2] (vI a :: st) T σ K := R_iload_n (n := 1) (by decide +kernel) rfl
theorem s118_46 : Rn 118 46 L (vI b :: vI a :: st) T σ K ↔ (b < a → Rn 118 73 L st T σ K) ∧ (a ≤ b → Rn 118 49 L st T σ K) := R_icmp_gt (off := 27) (by decide +kernel) (by decide)
theorem s118_49 : Rn 118 49 [some (vR o), l1, l2] st T σ K ↔ Rn 118 50 [some (vR o), l1, l2] (vR o :: st) T σ K := R_aload_n (n := 0) (by decide +kernel) rfl
theorem s118_50 : Rn 118 50 [some (vR o), l1, l2] st T σ K ↔ Rn 118 51 [some (vR o), l1, l2] (vR o :: st) T σ K := R_aload_n (n := 0) (by decide +kernel) rfl
theorem s118_51 : Rn 118 51 L (vR o :: st) T σ K ↔ sx_kd T o = 7 ∧ ∃ t, sx_rf T o 2 = some t ∧ Rn 118 54 L (vR t :: st) T σ K := R_getR (idx := 15) (ci := 7) (k := 2) (by decide +kernel) (by decide +kernel) rfl
theorem s118_54 : Rn 118 54 [l0, l1, some (vI a)] st T σ K ↔ Rn 118 55 [l0, l1, some (vI a)] (vI a :: st) T σ K := R_iload_n (n := 2) (by decide +kernel) rfl
theorem s118_55 : Rn 118 55 L (vI a :: vR o :: st) T σ K ↔ (sx_kd T o = 20 ∧ 0 ≤ a ∧ a < sx_ln T o) ∧ Rn 118 56 L (vI (σ o a) :: st) T σ K := R_iald (by decide +kernel) (by decide)
theorem s118_56 : Rn 118 56 L st T σ K ↔ Rn 118 57 L (vI 0 :: st) T σ K := R_iconst (n := 0) (by decide +kernel) (by decide)
theorem s118_57 : Rn 118 57 L (vI b :: vI a :: st) T σ K ↔ st.length ≤ 4 ∧ Rn 110 0 [some (vI a), some (vI b)] [] T σ (fun r T' σ' => Rn 118 60 L (sx_push r st) T' σ' K) := R_S (cm := 110) (n := 2) (idx := 106) (mx := 2) (vs := [vI a, vI b]) (by decide +kernel) (Or.inl (by decide +kernel)) rfl (by decide +kernel) rfl (by decide +kernel)
theorem s118_60 : Rn 118 60 [some (vR o), l1, l2] st T σ K ↔ Rn 118 61 [some (vR o), l1, l2] (vR o :: st) T σ K := R_aload_n (n := 0) (by decide +kernel) rfl
theorem s118_61 : Rn 118 61 L (vR o :: st) T σ K ↔ sx_kd T o = 7 ∧ ∃ t, sx_rf T o 2 = some t ∧ Rn 118 64 L (vR t :: st) T σ K := R_getR (idx := 15) (ci := 7) (k := 2) (by decide +kernel) (by decide +kernel) rfl
theorem s118_64 : Rn 118 64 [l0, l1, some (vI a)] st T σ K ↔ Rn 118 65 [l0, l1, some (vI a)] (vI a :: st) T σ K := R_iload_n (n := 2) (by decide +kernel) rfl
theorem s118_65 : Rn 118 65 L (vI a :: vR o :: st) T σ K ↔ (sx_kd T o = 20 ∧ 0 ≤ a ∧ a < sx_ln T o) ∧ Rn 118 66 L (vI (σ o a) :: st) T σ K := R_iald (by decide +kernel) (by decide)
theorem s118_66 : Rn 118 66 L st T σ K ↔ Rn 118 67 L (vI 1 :: st) T σ K := R_iconst (n := 1) (by decide +kernel) (by decide)
theorem s118_67 : Rn 118 67 L (vI b :: vI a :: st) T σ K ↔ st.length ≤ 4 ∧ Rn 110 0 [some (vI a), some (vI b)] [] T σ (fun r T' σ' => Rn 118 70 L (sx_push r st) T' σ' K) := R_S (cm := 110) (n := 2) (idx := 106) (mx := 2) (vs := [vI a, vI b]) (by decide +kernel) (Or.inl (by decide +kernel)) rfl (by decide +kernel) rfl (by decide +kernel)
theorem s118_70 : Rn 118 70 L (vI b :: vI a :: vR o :: st) T σ K ↔ (sx_kd T o = 7 ∧ st.length ≤ 4) ∧ Rn 119 0 [some (vR o), some (vI a), some (vI b), none, none, none] [] T σ (fun r T' σ' => Rn 118 73 L (sx_push r st) T' σ' K) := R_V (cm := 119) (n := 2) (idx := 112) (ci := 7) (mx := 6) (vs := [vI a, vI b]) (by decide +kernel) (by decide +kernel) rfl (by decide +kernel) rfl (by decide +kernel) (by decide +kernel)
theorem s118_73 : Rn 118 73 [l0, l1, some (vI a)] st T σ K ↔ inI (a + 1) ∧ Rn 118 76 [l0, l1, some (vI (a + 1))] st T σ K := R_iinc (n := 2) (d := 1) (by decide +kernel) rfl
theorem s118_76 : Rn 118 76 L st T σ K ↔ Rn 118 27 L st T σ K := R_goto (off := -49) (by decide +kernel) (by decide)
theorem s118_79 : Rn 118 79 L [] T σ K ↔ K none T σ := R_retV (by decide +kernel) (by decide +kernel)
theorem s119_0 : Rn 119 0 [l0, some (vI a), l2, l3, l4, l5] st T σ K ↔ Rn 119 1 [l0, some (vI a), l2, l3, l4, l5] (vI a :: st) T σ K := R_iload_n (n := 1) (by decide +kernel) rfl
theorem s119_1 : Rn 119 1 L st T σ K ↔ Rn 119 3 L (vI 40 :: st) T σ K := R_bipush (n := 40) (by decide +kernel) (by decide +kernel)
theorem s119_3 : Rn 119 3 L (vI b :: vI a :: st) T σ K ↔ (b ≤ a → Rn 119 12 L st T σ K) ∧ (a < b → Rn 119 6 L st T σ K) := R_icmp_ge (off := 9) (by decide +kernel) (by decide)
theorem s119_6 : Rn 119 6 [l0, l1, some (vI a), l3, l4, l5] st T σ K ↔ Rn 119 7 [l0, l1, some (vI a), l3, l4, l5] (vI a :: st) T σ K := R_iload_n (n := 2) (by decide +kernel) rfl
theorem s119_7 : Rn 119 7 L st T σ K ↔ Rn 119 9 L (vI 40 :: st) T σ K := R_bipush (n := 40) (by decide +kernel) (by decide +kernel)
theorem s119_9 : Rn 119 9 L (vI b :: vI a :: st) T σ K ↔ (a < b → Rn 119 13 L st T σ K) ∧ (b ≤ a → Rn 119 12 L st T σ K) := R_icmp_lt (off := 4) (by decide +kernel) (by decide)
theorem s119_12 : Rn 119 12 L [] T σ K ↔ K none T σ := R_retV (by decide +kernel) (by decide +kernel)
theorem s119_13 : Rn 119 13 [some (vR o), l1, l2, l3, l4, l5] st T σ K ↔ Rn 119 14 [some (vR o), l1, l2, l3, l4, l5] (vR o :: st) T σ K := R_aload_n (n := 0) (by decide +kernel) rfl
theorem s119_14 : Rn 119 14 L (vR o :: st) T σ K ↔ sx_kd T o = 7 ∧ ∃ t, sx_rf T o 3 = some t ∧ Rn 119 17 L (vR t :: st) T σ K := R_getR (idx := 18) (ci := 7) (k := 3) (by decide +kernel) (by decide +kernel) rfl
theorem s119_17 : Rn 119 17 [l0, some (vI a), l2, l3, l4, l5] st T σ K ↔ Rn 119 18 [l0, some (vI a), l2, l3, l4, l5] (vI a :: st) T σ K := R_iload_n (n := 1) (by decide +kernel) rfl
theorem s119_18 : Rn 119 18 L (vI a :: vR o :: st) T σ K ↔ (sx_kd T o = 20 ∧ 0 ≤ a ∧ a < sx_ln T o) ∧ Rn 119 19 L (vI (σ o a) :: st) T σ K := R_iald (by decide +kernel) (by decide)
theorem s119_19 : Rn 119 19 [some (vR o), l1, l2, l3, l4, l5] st T σ K ↔ Rn 119 20 [some (vR o), l1, l2, l3, l4, l5] (vR o :: st) T σ K := R_aload_n (n := 0) (by decide +kernel) rfl
theorem s119_20 : Rn 119 20 L (vR o :: st) T σ K ↔ sx_kd T o = 7 ∧ ∃ t, sx_rf T o 3 = some t ∧ Rn 119 23 L (vR t :: st) T σ K := R_getR (idx := 18) (ci := 7) (k := 3) (by decide +kernel) (by decide +kernel) rfl
theorem s119_23 : Rn 119 23 [l0, l1, some (vI a), l3, l4, l5] st T σ K ↔ Rn 119 24 [l0, l1, some (vI a), l3, l4, l5] (vI a :: st) T σ K := R_iload_n (n := 2) (by decide +kernel) rfl
theorem s119_24 : Rn 119 24 L (vI a :: vR o :: st) T σ K ↔ (sx_kd T o = 20 ∧ 0 ≤ a ∧ a < sx_ln T o) ∧ Rn 119 25 L (vI (σ o a) :: st) T σ K := R_iald (by decide +kernel) (by decide)
theorem s119_25 : Rn 119 25 L (vI b :: vI a :: st) T σ K ↔ st.length ≤ 4 ∧ Rn 119 28 L (vI (min a b) :: st) T σ K := R_min (idx := 47) (by decide +kernel) (by decide +kernel) (by decide +kernel) (by decide +kernel)
theorem s119_28 : Rn 119 28 [l0, l1, l2, l3, l4, l5] (vI a :: st) T σ K ↔ Rn 119 29 [l0, l1, l2, some (vI a), l4, l5] st T σ K := R_istore_n (n := 3) (by decide +kernel) rfl
theorem s119_29 : Rn 119 29 [some (vR o), l1, l2, l3, l4, l5] st T σ K ↔ Rn 119 30 [some (vR o), l1, l2, l3, l4, l5] (vR o :: st) T σ K := R_aload_n (n := 0) (by decide +kernel) rfl
theorem s119_30 : Rn 119 30 L (vR o :: st) T σ K ↔ sx_kd T o = 7 ∧ ∃ t, sx_rf T o 3 = some t ∧ Rn 119 33 L (vR t :: st) T σ K := R_getR (idx := 18) (ci := 7) (k := 3) (by decide +kernel) (by decide +kernel) rfl
theorem s119_33 : Rn 119 33 [l0, some (vI a), l2, l3, l4, l5] st T σ K ↔ Rn 119 34 [l0, some (vI a), l2, l3, l4, l5] (vI a :: st) T σ K := R_iload_n (n := 1) (by decide +kernel) rfl
theorem s119_34 : Rn 119 34 L (vI a :: vR o :: st) T σ K ↔ (sx_kd T o = 20 ∧ 0 ≤ a ∧ a < sx_ln T o) ∧ Rn 119 35 L (vI (σ o a) :: st) T σ K := R_iald (by decide +kernel) (by decide)
theorem s119_35 : Rn 119 35 [some (vR o), l1, l2, l3, l4, l5] st T σ K ↔ Rn 119 36 [some (vR o), l1, l2, l3, l4, l5] (vR o :: st) T σ K := R_aload_n (n := 0) (by decide +kernel) rfl
theorem s119_36 : Rn 119 36 L (vR o :: st) T σ K ↔ sx_kd T o = 7 ∧ ∃ t, sx_rf T o 3 = some t ∧ Rn 119 39 L (vR t :: st) T σ K := R_getR (idx := 18) (ci := 7) (k := 3) (by decide +kernel) (by decide +kernel) rfl
theorem s119_39 : Rn 119 39 [l0, l1, some (vI a), l3, l4, l5] st T σ K ↔ Rn 119 40 [l0, l1, some (vI a), l3, l4, l5] (vI a :: st) T σ K := R_iload_n (n := 2) (by decide +kernel) rfl
theorem s119_40 : Rn 119 40 L (vI a :: vR o :: st) T σ K ↔ (sx_kd T o = 20 ∧ 0 ≤ a ∧ a < sx_ln T o) ∧ Rn 119 41 L (vI (σ o a) :: st) T σ K := R_iald (by decide +kernel) (by decide)
theorem s119_41 : Rn 119 41 L (vI b :: vI a :: st) T σ K ↔ st.length ≤ 4 ∧ Rn 119 44 L (vI (max a b) :: st) T σ K := R_max (idx := 59) (by decide +kernel) (by decide +kernel) (by decide +kernel) (by decide +kernel)
theorem s119_44 : Rn 119 44 [l0, l1, l2, l3, l4, l5] (vI a :: st) T σ K ↔ Rn 119 46 [l0, l1, l2, l3, some (vI a), l5] st T σ K := R_istore (n := 4) (by decide +kernel) rfl
theorem s119_46 : Rn 119 46 L st T σ K ↔ Rn 119 47 L (vI 0 :: st) T σ K := R_iconst (n := 0) (by decide +kernel) (by decide)
theorem s119_47 : Rn 119 47 [l0, l1, l2, l3, l4, l5] (vI a :: st) T σ K ↔ Rn 119 49 [l0, l1, l2, l3, l4, some (vI a)] st T σ K := R_istore (n := 5) (by decide +kernel) rfl
theorem s119_49 : Rn 119 49 [l0, l1, l2, l3, l4, some (vI a)] st T σ K ↔ Rn 119 51 [l0, l1, l2, l3, l4, some (vI a)] (vI a :: st) T σ K := R_iload (n := 5) (by decide +kernel) rfl
theorem s119_51 : Rn 119 51 L st T σ K ↔ Rn 119 53 L (vI 40 :: st) T σ K := R_bipush (n := 40) (by decide +kernel) (by decide +kernel)
theorem s119_53 : Rn 119 53 L (vI b :: vI a :: st) T σ K ↔ (b ≤ a → Rn 119 82 L st T σ K) ∧ (a < b → Rn 119 56 L st T σ K) := R_icmp_ge (off := 29) (by decide +kernel) (by decide)
theorem s119_56 : Rn 119 56 [some (vR o), l1, l2, l3, l4, l5] st T σ K ↔ Rn 119 57 [some (vR o), l1, l2, l3, l4, l5] (vR o :: st) T σ K := R_aload_n (n := 0) (by decide +kernel) rfl
theorem s119_57 : Rn 119 57 L (vR o :: st) T σ K ↔ sx_kd T o = 7 ∧ ∃ t, sx_rf T o 3 = some t ∧ Rn 119 60 L (vR t :: st) T σ K := R_getR (idx := 18) (ci := 7) (k := 3) (by decide +kernel) (by decide +kernel) rfl
theorem s119_60 : Rn 119 60 [l0, l1, l2, l3, l4, some (vI a)] st T σ K ↔ Rn 119 62 [l0, l1, l2, l3, l4, some (vI a)] (vI a :: st) T σ K := R_iload (n := 5) (by decide +kernel) rfl
theorem s119_62 : Rn 119 62 L (vI a :: vR o :: st) T σ K ↔ (sx_kd T o = 20 ∧ 0 ≤ a ∧ a < sx_ln T o) ∧ Rn 119 63 L (vI (σ o a) :: st) T σ K := R_iald (by decide +kernel) (by decide)
theorem s119_63 : Rn 119 63 [l0, l1, l2, l3, some (vI a), l5] st T σ K ↔ Rn 119 65 [l0, l1, l2, l3, some (vI a), l5] (vI a :: st) T σ K := R_iload (n := 4) (by decide +kernel) rfl
theorem s119_65 : Rn 119 65 L (vI b :: vI a :: st) T σ K ↔ (a ≠ b → Rn 119 76 L st T σ K) ∧ (a = b → Rn 119 68 L st T σ K) := R_icmp_ne (off := 11) (by decide +kernel) (by decide)
theorem s119_68 : Rn 119 68 [some (vR o), l1, l2, l3, l4, l5] st T σ K ↔ Rn 119 69 [some (vR o), l1, l2, l3, l4, l5] (vR o :: st) T σ K := R_aload_n (n := 0) (by decide +kernel) rfl
theorem s119_69 : Rn 119 69 L (vR o :: st) T σ K ↔ sx_kd T o = 7 ∧ ∃ t, sx_rf T o 3 = some t ∧ Rn 119 72 L (vR t :: st) T σ K := R_getR (idx := 18) (ci := 7) (k := 3) (by decide +kernel) (by decide +kernel) rfl
theorem s119_72 : Rn 119 72 [l0, l1, l2, l3, l4, some (vI a)] st T σ K ↔ Rn 119 74 [l0, l1, l2, l3, l4, some (vI a)] (vI a :: st) T σ K := R_iload (n := 5) (by decide +kernel) rfl
theorem s119_74 : Rn 119 74 [l0, l1, l2, some (vI a), l4, l5] st T σ K ↔ Rn 119 75 [l0, l1, l2, some (vI a), l4, l5] (vI a :: st) T σ K := R_iload_n (n := 3) (by decide +kernel) rfl
theorem s119_75 : Rn 119 75 L (vI b :: vI a :: vR o :: st) T σ K ↔ (sx_kd T o = 20 ∧ 0 ≤ a ∧ a < sx_ln T o) ∧ Rn 119 76 L st T (sx_up σ o a b) K := R_iast (by decide +kernel)
theorem s119_76 : Rn 119 76 [l0, l1, l2, l3, l4, some (vI a)] st T σ K ↔ inI (a + 1) ∧ Rn 119 79 [l0, l1, l2, l3, l4, some (vI (a + 1))] st T σ K := R_iinc (n := 5) (d := 1) (by decide +kernel) rfl
theorem s119_79 : Rn 119 79 L st T σ K ↔ Rn 119 49 L st T σ K := R_goto (off := -30) (by decide +kernel) (by decide)
theorem s119_82 : Rn 119 82 L [] T σ K ↔ K none T σ := R_retV (by decide +kernel) (by decide +kernel)
theorem s120_0 : Rn 120 0 [l0, some (vI a)] st T σ K ↔ Rn 120 1 [l0, some (vI a)] (vI a :: st) T σ K := R_iload_n (n := 1) (by decide +kernel) rfl
theorem s120_1 : Rn 120 1 L (vI a :: st) T σ K ↔ st.length ≤ 4 ∧ Rn 88 0 [some (vI a)] [] T σ (fun r T' σ' => Rn 120 4 L (sx_push r st) T' σ' K) := R_S (cm := 88) (n := 1) (idx := 237) (mx := 1) (vs := [vI a]) (by decide +kernel) (Or.inl (by decide +kernel)) rfl (by decide +kernel) rfl (by decide +kernel)
theorem s120_4 : Rn 120 4 L (vI a :: st) T σ K ↔ (a ≠ 0 → Rn 120 9 L st T σ K) ∧ (a = 0 → Rn 120 7 L st T σ K) := R_if_ne (off := 5) (by decide +kernel) (by decide)
theorem s120_7 : Rn 120 7 L st T σ K ↔ Rn 120 8 L (vI (-1) :: st) T σ K := R_iconst (n := -1) (by decide +kernel) (by decide)
theorem s120_8 : Rn 120 8 L [vI a] T σ K ↔ K (some (vI a)) T σ := R_ret (by decide +kernel) (by decide +kernel)
theorem s120_9 : Rn 120 9 [some (vR o), l1] st T σ K ↔ Rn 120 10 [some (vR o), l1] (vR o :: st) T σ K := R_aload_n (n := 0) (by decide +kernel) rfl
theorem s120_10 : Rn 120 10 L (vR o :: st) T σ K ↔ sx_kd T o = 8 ∧ ∃ t, sx_rf T o 7 = some t ∧ Rn 120 13 L (vR t :: st) T σ K := R_getR (idx := 59) (ci := 8) (k := 7) (by decide +kernel) (by decide +kernel) rfl
theorem s120_13 : Rn 120 13 [l0, some (vI a)] st T σ K ↔ Rn 120 14 [l0, some (vI a)] (vI a :: st) T σ K := R_iload_n (n := 1) (by decide +kernel) rfl
theorem s120_14 : Rn 120 14 L (vI a :: vR o :: st) T σ K ↔ (sx_kd T o = 7 ∧ st.length ≤ 4) ∧ Rn 118 0 [some (vR o), some (vI a), none] [] T σ (fun r T' σ' => Rn 120 17 L (sx_push r st) T' σ' K) := R_V (cm := 118) (n := 1) (idx := 304) (ci := 7) (mx := 3) (vs := [vI a]) (by decide +kernel) (by decide +kernel) rfl (by decide +kernel) rfl (by decide +kernel) (by decide +kernel)
theorem s120_17 : Rn 120 17 [some (vR o), l1] st T σ K ↔ Rn 120 18 [some (vR o), l1] (vR o :: st) T σ K := R_aload_n (n := 0) (by decide +kernel) rfl
theorem s120_18 : Rn 120 18 L (vR o :: st) T σ K ↔ sx_kd T o = 8 ∧ ∃ t, sx_rf T o 7 = some t ∧ Rn 120 21 L (vR t :: st) T σ K := R_getR (idx := 59) (ci := 8) (k := 7) (by decide +kernel) (by decide +kernel) rfl
theorem s120_21 : Rn 120 21 L (vR o :: st) T σ K ↔ (sx_kd T o = 7 ∧ st.length ≤ 4) ∧ Rn 121 0 [some (vR o), none, none] [] T σ (fun r T' σ' => Rn 120 24 L (sx_push r st) T' σ' K) := R_V (cm := 121) (n := 0) (idx := 310) (ci := 7) (mx := 3) (vs := []) (by decide +kernel) (by decide +kernel) rfl (by decide +kernel) rfl (by decide +kernel) (by decide +kernel)
theorem s120_24 : Rn 120 24 L [vI a] T σ K ↔ K (some (vI a)) T σ := R_ret (by decide +kernel) (by decide +kernel)
theorem s121_0 : Rn 121 0 L st T σ K ↔ Rn 121 1 L (vI 0 :: st) T σ K := R_iconst (n := 0) (by decide +kernel) (by decide)
theorem s121_1 : Rn 121 1 [l0, l1, l2] (vI a :: st) T σ K ↔ Rn 121 2 [l0, some (vI a), l2] st T σ K := R_istore_n (n := 1) (by decide +kernel) rfl
theorem s121_2 : Rn 121 2 L st T σ K ↔ Rn 121 3 L (vI 0 :: st) T σ K := R_iconst (n := 0) (by decide +kernel) (by decide)
theorem s121_3 : Rn 121 3 [l0, l1, l2] (vI a :: st) T σ K ↔ Rn 121 4 [l0, l1, some (vI a)] st T σ K := R_istore_n (n := 2) (by decide +kernel) rfl
theorem s121_4 : Rn 121 4 [l0, l1, some (vI a)] st T σ K ↔ Rn 121 5 [l0, l1, some (vI a)] (vI a :: st) T σ K := R_iload_n (n := 2) (by decide +kernel) rfl
theorem s121_5 : Rn 121 5 L st T σ K ↔ Rn 121 7 L (vI 40 :: st) T σ K := R_bipush (n := 40) (by decide +kernel) (by decide +kernel)
theorem s121_7 : Rn 121 7 L (vI b :: vI a :: st) T σ K ↔ (b ≤ a → Rn 121 40 L st T σ K) ∧ (a < b → Rn 121 10 L st T σ K) := R_icmp_ge (off := 33) (by decide +kernel) (by decide)
theorem s121_10 : Rn 121 10 [some (vR o), l1, l2] st T σ K ↔ Rn 121 11 [some (vR o), l1, l2] (vR o :: st) T σ K := R_aload_n (n := 0) (by decide +kernel) rfl
theorem s121_11 : Rn 121 11 L (vR o :: st) T σ K ↔ sx_kd T o = 7 ∧ ∃ t, sx_rf T o 0 = some t ∧ Rn 121 14 L (vR t :: st) T σ K := R_getR (idx := 34) (ci := 7) (k := 0) (by decide +kernel) (by decide +kernel) rfl
theorem s121_14 : Rn 121 14 [l0, l1, some (vI a)] st T σ K ↔ Rn 121 15 [l0, l1, some (vI a)] (vI a :: st) T σ K := R_iload_n (n := 2) (by decide +kernel) rfl
theorem s121_15 : Rn 121 15 L (vI a :: vR o :: st) T σ K ↔ (sx_kd T o = 2 ∧ st.length ≤ 4) ∧ Rn 49 0 [some (vR o), some (vI a)] [] T σ (fun r T' σ' => Rn 121 18 L (sx_push r st) T' σ' K) := R_V (cm := 49) (n := 1) (idx := 52) (ci := 2) (mx := 2) (vs := [vI a]) (by decide +kernel) (by decide +kernel) rfl (by decide +kernel) rfl (by decide +kernel) (by decide +kernel)
theorem s121_18 : Rn 121 18 L (vI a :: st) T σ K ↔ (a = 0 → Rn 121 34 L st T σ K) ∧ (a ≠ 0 → Rn 121 21 L st T σ K) := R_if_eq (off := 16) (by decide +kernel) (by decide)
theorem s121_21 : Rn 121 21 [some (vR o), l1, l2] st T σ K ↔ Rn 121 22 [some (vR o), l1, l2] (vR o :: st) T σ K := R_aload_n (n := 0) (by decide +kernel) rfl
theorem s121_22 : Rn 121 22 L (vR o :: st) T σ K ↔ sx_kd T o = 7 ∧ ∃ t, sx_rf T o 3 = some t ∧ Rn 121 25 L (vR t :: st) T σ K := R_getR (idx := 18) (ci := 7) (k := 3) (by decide +kernel) (by decide +kernel) rfl
theorem s121_25 : Rn 121 25 [l0, l1, some (vI a)] st T σ K ↔ Rn 121 26 [l0, l1, some (vI a)] (vI a :: st) T σ K := R_iload_n (n := 2) (by decide +kernel) rfl
theorem s121_26 : Rn 121 26 L (vI a :: vR o :: st) T σ K ↔ (sx_kd T o = 20 ∧ 0 ≤ a ∧ a < sx_ln T o) ∧ Rn 121 27 L (vI (σ o a) :: st) T σ K := R_iald (by decide +kernel) (by decide)
theorem s121_27 : Rn 121 27 [l0, l1, some (vI a)] st T σ K ↔ Rn 121 28 [l0, l1, some (vI a)] (vI a :: st) T σ K := R_iload_n (n := 2) (by decide +kernel) rfl
theorem s121_28 : Rn 121 28 L (vI b :: vI a :: st) T σ K ↔ (a ≠ b → Rn 121 34 L st T σ K) ∧ (a = b → Rn 121 31 L st T σ K) := R_icmp_ne (off := 6) (by decide +kernel) (by decide)
theorem s121_31 : Rn 121 31 [l0, some (vI a), l2] st T σ K ↔ inI (a + 1) ∧ Rn 121 34 [l0, some (vI (a + 1)), l2] st T σ K := R_iinc (n := 1) (d := 1) (by decide +kernel) rfl
theorem s121_34 : Rn 121 34 [l0, l1, some (vI a)] st T σ K ↔ inI (a + 1) ∧ Rn 121 37 [l0, l1, some (vI (a + 1))] st T σ K := R_iinc (n := 2) (d := 1) (by decide +kernel) rfl
theorem s121_37 : Rn 121 37 L st T σ K ↔ Rn 121 4 L st T σ K := R_goto (off := -33) (by decide +kernel) (by decide)
theorem s121_40 : Rn 121 40 [l0, some (vI a), l2] st T σ K ↔ Rn 121 41 [l0, some (vI a), l2] (vI a :: st) T σ K := R_iload_n (n := 1) (by decide +kernel) rfl
theorem s121_41 : Rn 121 41 L [vI a] T σ K ↔ K (some (vI a)) T σ := R_ret (by decide +kernel) (by decide +kernel)
theorem s122_0 : Rn 122 0 [l0, some (vI a), l2, l3, l4, l5, l6] st T σ K ↔ Rn 122 1 [l0, some (vI a), l2, l3, l4, l5, l6] (vI a :: st) T σ K := R_iload_n (n := 1) (by decide +kernel) rfl
theorem s122_1 : Rn 122 1 [l0, l1, some (vI a), l3, l4, l5, l6] st T σ K ↔ Rn 122 2 [l0, l1, some (vI a), l3, l4, l5, l6] (vI a :: st) T σ K := R_iload_n (n := 2) (by decide +kernel) rfl
theorem s122_2 : Rn 122 2 [l0, l1, l2, some (vI a), l4, l5, l6] st T σ K ↔ Rn 122 3 [l0, l1, l2, some (vI a), l4, l5, l6] (vI a :: st) T σ K := R_iload_n (n := 3) (by decide +kernel) rfl
theorem s122_3 : Rn 122 3 L (vI c :: vI b :: vI a :: st) T σ K ↔ st.length ≤ 4 ∧ Rn 33 0 [some (vI a), some (vI b), some (vI c)] [] T σ (fun r T' σ' => Rn 122 6 L (sx_push r st) T' σ' K) := R_S (cm := 33) (n := 3) (idx := 169) (mx := 3) (vs := [vI a, vI b, vI c]) (by decide +kernel) (Or.inl (by decide +kernel)) rfl (by decide +kernel) rfl (by decide +kernel)
theorem s122_6 : Rn 122 6 [l0, l1, l2, l3, l4, l5, l6] (vI a :: st) T σ K ↔ Rn 122 8 [l0, l1, l2, l3, l4, some (vI a), l6] st T σ K := R_istore (n := 5) (by decide +kernel) rfl
theorem s122_8 : Rn 122 8 [some (vR o), l1, l2, l3, l4, l5, l6] st T σ K ↔ Rn 122 9 [some (vR o), l1, l2, l3, l4, l5, l6] (vR o :: st) T σ K := R_aload_n (n := 0) (by decide +kernel) rfl
theorem s122_9 : Rn 122 9 [l0, l1, l2, l3, l4, some (vI a), l6] st T σ K ↔ Rn 122 11 [l0, l1, l2, l3, l4, some (vI a), l6] (vI a :: st) T σ K := R_iload (n := 5) (by decide +kernel) rfl
theorem s122_11 : Rn 122 11 L (vI a :: vR o :: st) T σ K ↔ (sx_kd T o = 8 ∧ st.length ≤ 4) ∧ Rn 123 0 [some (vR o), some (vI a)] [] T σ (fun r T' σ' => Rn 122 14 L (sx_push r st) T' σ' K) := R_V (cm := 123) (n := 1) (idx := 313) (ci := 8) (mx := 2) (vs := [vI a]) (by decide +kernel) (by decide +kernel) rfl (by decide +kernel) rfl (by decide +kernel) (by decide +kernel)
theorem s122_14 : Rn 122 14 L (vI a :: st) T σ K ↔ (a = 0 → Rn 122 28 L st T σ K) ∧ (a ≠ 0 → Rn 122 17 L st T σ K) := R_if_eq (off := 14) (by decide +kernel) (by decide)
theorem s122_17 : Rn 122 17 [l0, l1, l2, l3, some (vI a), l5, l6] st T σ K ↔ Rn 122 19 [l0, l1, l2, l3, some (vI a), l5, l6] (vI a :: st) T σ K := R_iload (n := 4) (by decide +kernel) rfl
theorem s122_19 : Rn 122 19 L (vI a :: st) T σ K ↔ (a < 0 → Rn 122 28 L st T σ K) ∧ (0 ≤ a → Rn 122 22 L st T σ K) := R_if_lt (off := 9) (by decide +kernel) (by decide)
theorem s122_22 : Rn 122 22 [l0, l1, l2, l3, some (vI a), l5, l6] st T σ K ↔ Rn 122 24 [l0, l1, l2, l3, some (vI a), l5, l6] (vI a :: st) T σ K := R_iload (n := 4) (by decide +kernel) rfl
theorem s122_24 : Rn 122 24 L st T σ K ↔ Rn 122 25 L (vI 1 :: st) T σ K := R_iconst (n := 1) (by decide +kernel) (by decide)
theorem s122_25 : Rn 122 25 L (vI b :: vI a :: st) T σ K ↔ (a ≤ b → Rn 122 30 L st T σ K) ∧ (b < a → Rn 122 28 L st T σ K) := R_icmp_le (off := 5) (by decide +kernel) (by decide)
theorem s122_28 : Rn 122 28 L st T σ K ↔ Rn 122 29 L (vI (-1) :: st) T σ K := R_iconst (n := -1) (by decide +kernel) (by decide)
theorem s122_29 : Rn 122 29 L [vI a] T σ K ↔ K (some (vI a)) T σ := R_ret (by decide +kernel) (by decide +kernel)
theorem s122_30 : Rn 122 30 [some (vR o), l1, l2, l3, l4, l5, l6] st T σ K ↔ Rn 122 31 [some (vR o), l1, l2, l3, l4, l5, l6] (vR o :: st) T σ K := R_aload_n (n := 0) (by decide +kernel) rfl
theorem s122_31 : Rn 122 31 L (vR o :: st) T σ K ↔ sx_kd T o = 8 ∧ ∃ t, sx_rf T o 2 = some t ∧ Rn 122 34 L (vR t :: st) T σ K := R_getR (idx := 28) (ci := 8) (k := 2) (by decide +kernel) (by decide +kernel) rfl
theorem s122_34 : Rn 122 34 L (vR o :: st) T σ K ↔ sx_kd T o = 2 ∧ Rn 122 37 L (vI (σ o 5) :: st) T σ K := R_getI (idx := 136) (ci := 2) (k := 5) (by decide +kernel) (by decide +kernel) (Or.inl rfl)
theorem s122_37 : Rn 122 37 L st T σ K ↔ Rn 122 38 L (vI (-1) :: st) T σ K := R_iconst (n := -1) (by decide +kernel) (by decide)
theorem s122_38 : Rn 122 38 L (vI b :: vI a :: st) T σ K ↔ (a ≠ b → Rn 122 53 L st T σ K) ∧ (a = b → Rn 122 41 L st T σ K) := R_icmp_ne (off := 15) (by decide +kernel) (by decide)
theorem s122_41 : Rn 122 41 [l0, l1, l2, l3, some (vI a), l5, l6] st T σ K ↔ Rn 122 43 [l0, l1, l2, l3, some (vI a), l5, l6] (vI a :: st) T σ K := R_iload (n := 4) (by decide +kernel) rfl
theorem s122_43 : Rn 122 43 L (vI a :: st) T σ K ↔ (a ≠ 0 → Rn 122 51 L st T σ K) ∧ (a = 0 → Rn 122 46 L st T σ K) := R_if_ne (off := 8) (by decide +kernel) (by decide)
theorem s122_46 : Rn 122 46 L st T σ K ↔ Rn 122 48 L (vI 10 :: st) T σ K := R_bipush (n := 10) (by decide +kernel) (by decide +kernel)
theorem s122_48 : Rn 122 48 L st T σ K ↔ Rn 122 52 L st T σ K := R_goto (off := 4) (by decide +kernel) (by decide)
theorem s122_51 : Rn 122 51 L st T σ K ↔ Rn 122 52 L (vI (-1) :: st) T σ K := R_iconst (n := -1) (by decide +kernel) (by decide)
theorem s122_52 : Rn 122 52 L [vI a] T σ K ↔ K (some (vI a)) T σ := R_ret (by decide +kernel) (by decide +kernel)
theorem s122_53 : Rn 122 53 [some (vR o), l1, l2, l3, l4, l5, l6] st T σ K ↔ Rn 122 54 [some (vR o), l1, l2, l3, l4, l5, l6] (vR o :: st) T σ K := R_aload_n (n := 0) (by decide +kernel) rfl
theorem s122_54 : Rn 122 54 L (vR o :: st) T σ K ↔ sx_kd T o = 8 ∧ ∃ t, sx_rf T o 2 = some t ∧ Rn 122 57 L (vR t :: st) T σ K := R_getR (idx := 28) (ci := 8) (k := 2) (by decide +kernel) (by decide +kernel) rfl
theorem s122_57 : Rn 122 57 L st T σ K ↔ Rn 122 58 L (vI 0 :: st) T σ K := R_iconst (n := 0) (by decide +kernel) (by decide)
theorem s122_58 : Rn 122 58 [l0, l1, l2, l3, l4, some (vI a), l6] st T σ K ↔ Rn 122 60 [l0, l1, l2, l3, l4, some (vI a), l6] (vI a :: st) T σ K := R_iload (n := 5) (by decide +kernel) rfl
theorem s122_60 : Rn 122 60 L (vI b :: vI a :: vR o :: st) T σ K ↔ (sx_kd T o = 2 ∧ st.length ≤ 4) ∧ Rn 38 0 [some (vR o), some (vI a), some (vI b), none, none] [] T σ (fun r T' σ' => Rn 122 63 L (sx_push r st) T' σ' K) := R_V (cm := 38) (n := 2) (idx := 316) (ci := 2) (mx := 5) (vs := [vI a, vI b]) (by decide +kernel) (by decide +kernel) rfl (by decide +kernel) rfl (by decide +kernel) (by decide +kernel)
theorem s122_63 : Rn 122 63 [l0, l1, l2, l3, l4, l5, l6] (vI a :: st) T σ K ↔ Rn 122 65 [l0, l1, l2, l3, l4, l5, some (vI a)] st T σ K := R_istore (n := 6) (by decide +kernel) rfl
theorem s122_65 : Rn 122 65 [l0, l1, l2, l3, some (vI a), l5, l6] st T σ K ↔ Rn 122 67 [l0, l1, l2, l3, some (vI a), l5, l6] (vI a :: st) T σ K := R_iload (n := 4) (by decide +kernel) rfl
theorem s122_67 : Rn 122 67 L (vI a :: st) T σ K ↔ (a ≠ 0 → Rn 122 75 L st T σ K) ∧ (a = 0 → Rn 122 70 L st T σ K) := R_if_ne (off := 8) (by decide +kernel) (by decide)
theorem s122_70 : Rn 122 70 [l0, l1, l2, l3, l4, l5, some (vI a)] st T σ K ↔ Rn 122 72 [l0, l1, l2, l3, l4, l5, some (vI a)] (vI a :: st) T σ K := R_iload (n := 6) (by decide +kernel) rfl
theorem s122_72 : Rn 122 72 L st T σ K ↔ Rn 122 88 L st T σ K := R_goto (off := 16) (by decide +kernel) (by decide)
theorem s122_75 : Rn 122 75 [some (vR o), l1, l2, l3, l4, l5, l6] st T σ K ↔ Rn 122 76 [some (vR o), l1, l2, l3, l4, l5, l6] (vR o :: st) T σ K := R_aload_n (n := 0) (by decide +kernel) rfl
theorem s122_76 : Rn 122 76 L (vR o :: st) T σ K ↔ sx_kd T o = 8 ∧ ∃ t, sx_rf T o 2 = some t ∧ Rn 122 79 L (vR t :: st) T σ K := R_getR (idx := 28) (ci := 8) (k := 2) (by decide +kernel) (by decide +kernel) rfl
theorem s122_79 : Rn 122 79 [l0, l1, l2, l3, l4, l5, some (vI a)] st T σ K ↔ Rn 122 81 [l0, l1, l2, l3, l4, l5, some (vI a)] (vI a :: st) T σ K := R_iload (n := 6) (by decide +kernel) rfl
theorem s122_81 : Rn 122 81 L st T σ K ↔ Rn 122 82 L (vI 1 :: st) T σ K := R_iconst (n := 1) (by decide +kernel) (by decide)
theorem s122_82 : Rn 122 82 L (vI b :: vI a :: st) T σ K ↔ inI (a + b) ∧ Rn 122 83 L (vI (a + b) :: st) T σ K := R_iadd (by decide +kernel)
theorem s122_83 : Rn 122 83 [l0, l1, l2, l3, l4, some (vI a), l6] st T σ K ↔ Rn 122 85 [l0, l1, l2, l3, l4, some (vI a), l6] (vI a :: st) T σ K := R_iload (n := 5) (by decide +kernel) rfl
theorem s122_85 : Rn 122 85 L (vI b :: vI a :: vR o :: st) T σ K ↔ (sx_kd T o = 2 ∧ st.length ≤ 4) ∧ Rn 39 0 [some (vR o), some (vI a), some (vI b), none, none, none, none] [] T σ (fun r T' σ' => Rn 122 88 L (sx_push r st) T' σ' K) := R_V (cm := 39) (n := 2) (idx := 319) (ci := 2) (mx := 7) (vs := [vI a, vI b]) (by decide +kernel) (by decide +kernel) rfl (by decide +kernel) rfl (by decide +kernel) (by decide +kernel)
theorem s122_88 : Rn 122 88 L [vI a] T σ K ↔ K (some (vI a)) T σ := R_ret (by decide +kernel) (by decide +kernel)
theorem s123_0 : Rn 123 0 [some (vR o), l1] st T σ K ↔ Rn 123 1 [some (vR o), l1] (vR o :: st) T σ K := R_aload_n (n := 0) (by decide +kernel) rfl
theorem s123_1 : Rn 123 1 L (vR o :: st) T σ K ↔ sx_kd T o = 8 ∧ ∃ t, sx_rf T o 2 = some t ∧ Rn 123 4 L (vR t :: st) T σ K := R_getR (idx := 28) (ci := 8) (k := 2) (by decide +kernel) (by decide +kernel) rfl
theorem s123_4 : Rn 123 4 L (vR o :: st) T σ K ↔ sx_kd T o = 2 ∧ Rn 123 7 L (vI (σ o 4) :: st) T σ K := R_getI (idx := 107) (ci := 2) (k := 4) (by decide +kernel) (by decide +kernel) (Or.inl rfl)
theorem s123_7 : Rn 123 7 L st T σ K ↔ Rn 123 8 L (vI (-1) :: st) T σ K := R_iconst (n := -1) (by decide +kernel) (by decide)
theorem s123_8 : Rn 123 8 L (vI b :: vI a :: st) T σ K ↔ (a = b → Rn 123 44 L st T σ K) ∧ (a ≠ b → Rn 123 11 L st T σ K) := R_icmp_eq (off := 36) (by decide +kernel) (by decide)
theorem s123_11 : Rn 123 11 [l0, some (vI a)] st T σ K ↔ Rn 123 12 [l0, some (vI a)] (vI a :: st) T σ K := R_iload_n (n := 1) (by decide +kernel) rfl
theorem s123_12 : Rn 123 12 L st T σ K ↔ Rn 123 13 L (vI (-1) :: st) T σ K := R_iconst (n := -1) (by decide +kernel) (by decide)
theorem s123_13 : Rn 123 13 L (vI b :: vI a :: st) T σ K ↔ (a = b → Rn 123 44 L st T σ K) ∧ (a ≠ b → Rn 123 16 L st T σ K) := R_icmp_eq (off := 31) (by decide +kernel) (by decide)
theorem s123_16 : Rn 123 16 [some (vR o), l1] st T σ K ↔ Rn 123 17 [some (vR o), l1] (vR o :: st) T σ K := R_aload_n (n := 0) (by decide +kernel) rfl
theorem s123_17 : Rn 123 17 L (vR o :: st) T σ K ↔ sx_kd T o = 8 ∧ ∃ t, sx_rf T o 2 = some t ∧ Rn 123 20 L (vR t :: st) T σ K := R_getR (idx := 28) (ci := 8) (k := 2) (by decide +kernel) (by decide +kernel) rfl
theorem s123_20 : Rn 123 20 L (vR o :: st) T σ K ↔ sx_kd T o = 2 ∧ Rn 123 23 L (vI (σ o 6) :: st) T σ K := R_getI (idx := 135) (ci := 2) (k := 6) (by decide +kernel) (by decide +kernel) (Or.inl rfl)
theorem s123_23 : Rn 123 23 L st T σ K ↔ Rn 123 25 L (vI 40 :: st) T σ K := R_bipush (n := 40) (by decide +kernel) (by decide +kernel)
theorem s123_25 : Rn 123 25 L (vI b :: vI a :: st) T σ K ↔ (b ≤ a → Rn 123 44 L st T σ K) ∧ (a < b → Rn 123 28 L st T σ K) := R_icmp_ge (off := 19) (by decide +kernel) (by decide)
theorem s123_28 : Rn 123 28 [some (vR o), l1] st T σ K ↔ Rn 123 29 [some (vR o), l1] (vR o :: st) T σ K := R_aload_n (n := 0) (by decide +kernel) rfl
theorem s123_29 : Rn 123 29 L (vR o :: st) T σ K ↔ sx_kd T o = 8 ∧ ∃ t, sx_rf T o 2 = some t ∧ Rn 123 32 L (vR t :: st) T σ K := R_getR (idx := 28) (ci := 8) (k := 2) (by decide +kernel) (by decide +kernel) rfl
theorem s123_32 : Rn 123 32 [l0, some (vI a)] st T σ K ↔ Rn 123 33 [l0, some (vI a)] (vI a :: st) T σ K := R_iload_n (n := 1) (by decide +kernel) rfl
theorem s123_33 : Rn 123 33 L (vI a :: vR o :: st) T σ K ↔ (sx_kd T o = 2 ∧ st.length ≤ 4) ∧ Rn 58 0 [some (vR o), some (vI a), none] [] T σ (fun r T' σ' => Rn 123 36 L (sx_push r st) T' σ' K) := R_V (cm := 58) (n := 1) (idx := 173) (ci := 2) (mx := 3) (vs := [vI a]) (by decide +kernel) (by decide +kernel) rfl (by decide +kernel) rfl (by decide +kernel) (by decide +kernel)
theorem s123_36 : Rn 123 36 L st T σ K ↔ Rn 123 37 L (vI (-1) :: st) T σ K := R_iconst (n := -1) (by decide +kernel) (by decide)
theorem s123_37 : Rn 123 37 L (vI b :: vI a :: st) T σ K ↔ (a ≠ b → Rn 123 44 L st T σ K) ∧ (a = b → Rn 123 40 L st T σ K) := R_icmp_ne (off := 7) (by decide +kernel) (by decide)
theorem s123_40 : Rn 123 40 L st T σ K ↔ Rn 123 41 L (vI 1 :: st) T σ K := R_iconst (n := 1) (by decide +kernel) (by decide)
theorem s123_41 : Rn 123 41 L st T σ K ↔ Rn 123 45 L st T σ K := R_goto (off := 4) (by decide +kernel) (by decide)
theorem s123_44 : Rn 123 44 L st T σ K ↔ Rn 123 45 L (vI 0 :: st) T σ K := R_iconst (n := 0) (by decide +kernel) (by decide)
theorem s123_45 : Rn 123 45 L [vI a] T σ K ↔ (a = 0 ∨ a = 1) ∧ K (some (vI a)) T σ := R_retZ (by decide +kernel) (by decide +kernel)
theorem s124_0 : Rn 124 0 [some (vR o), l1, l2] st T σ K ↔ Rn 124 1 [some (vR o), l1, l2] (vR o :: st) T σ K := R_aload_n (n := 0) (by decide +kernel) rfl
theorem s124_1 : Rn 124 1 L (vR o :: st) T σ K ↔ sx_kd T o = 8 ∧ ∃ t, sx_rf T o 2 = some t ∧ Rn 124 4 L (vR t :: st) T σ K := R_getR (idx := 28) (ci := 8) (k := 2) (by decide +kernel) (by decide +kernel) rfl
theorem s124_4 : Rn 124 4 [l0, some (vI a), l2] st T σ K ↔ Rn 124 5 [l0, some (vI a), l2] (vI a :: st) T σ K := R_iload_n (n := 1) (by decide +kernel) rfl
theorem s124_5 : Rn 124 5 L (vI a :: vR o :: st) T σ K ↔ (sx_kd T o = 2 ∧ st.length ≤ 4) ∧ Rn 49 0 [some (vR o), some (vI a)] [] T σ (fun r T' σ' => Rn 124 8 L (sx_push r st) T' σ' K) := R_V (cm := 49) (n := 1) (idx := 146) (ci := 2) (mx := 2) (vs := [vI a]) (by decide +kernel) (by decide +kernel) rfl (by decide +kernel) rfl (by decide +kernel) (by decide +kernel)
theorem s124_8 : Rn 124 8 L (vI a :: st) T σ K ↔ (a ≠ 0 → Rn 124 13 L st T σ K) ∧ (a = 0 → Rn 124 11 L st T σ K) := R_if_ne (off := 5) (by decide +kernel) (by decide)
theorem s124_11 : Rn 124 11 L st T σ K ↔ Rn 124 12 L (vI (-1) :: st) T σ K := R_iconst (n := -1) (by decide +kernel) (by decide)
theorem s124_12 : Rn 124 12 L [vI a] T σ K ↔ K (some (vI a)) T σ := R_ret (by decide +kernel) (by decide +kernel)
theorem s124_13 : Rn 124 13 [some (vR o), l1, l2] st T σ K ↔ Rn 124 14 [some (vR o), l1, l2] (vR o :: st) T σ K := R_aload_n (n := 0) (by decide +kernel) rfl
theorem s124_14 : Rn 124 14 L (vR o :: st) T σ K ↔ sx_kd T o = 8 ∧ ∃ t, sx_rf T o 3 = some t ∧ Rn 124 17 L (vR t :: st) T σ K := R_getR (idx := 32) (ci := 8) (k := 3) (by decide +kernel) (by decide +kernel) rfl
theorem s124_17 : Rn 124 17 [some (vR o), l1, l2] st T σ K ↔ Rn 124 18 [some (vR o), l1, l2] (vR o :: st) T σ K := R_aload_n (n := 0) (by decide +kernel) rfl
theorem s124_18 : Rn 124 18 L (vR o :: st) T σ K ↔ sx_kd T o = 8 ∧ ∃ t, sx_rf T o 2 = some t ∧ Rn 124 21 L (vR t :: st) T σ K := R_getR (idx := 28) (ci := 8) (k := 2) (by decide +kernel) (by decide +kernel) rfl
theorem s124_21 : Rn 124 21 L (vR p :: vR o :: st) T σ K ↔ (sx_kd T o = 2 ∧ st.length ≤ 4) ∧ Rn 125 0 [some (vR o), some (vR p)] [] T σ (fun r T' σ' => Rn 124 24 L (sx_push r st) T' σ' K) := R_V (cm := 125) (n := 1) (idx := 322) (ci := 2) (mx := 2) (vs := [vR p]) (by decide +kernel) (by decide +kernel) rfl (by decide +kernel) rfl (by decide +kernel) (by decide +kernel)
theorem s124_24 : Rn 124 24 [some (vR o), l1, l2] st T σ K ↔ Rn 124 25 [some (vR o), l1, l2] (vR o :: st) T σ K := R_aload_n (n := 0) (by decide +kernel) rfl
theorem s124_25 : Rn 124 25 L (vR o :: st) T σ K ↔ sx_kd T o = 8 ∧ ∃ t, sx_rf T o 3 = some t ∧ Rn 124 28 L (vR t :: st) T σ K := R_getR (idx := 32) (ci := 8) (k := 3) (by decide +kernel) (by decide +kernel) rfl
theorem s124_28 : Rn 124 28 [l0, some (vI a), l2] st T σ K ↔ Rn 124 29 [l0, some (vI a), l2] (vI a :: st) T σ K := R_iload_n (n := 1) (by decide +kernel) rfl
theorem s124_29 : Rn 124 29 L (vI a :: vR o :: st) T σ K ↔ (sx_kd T o = 2 ∧ st.length ≤ 4) ∧ Rn 126 0 [some (vR o), some (vI a), none, none] [] T σ (fun r T' σ' => Rn 124 32 L (sx_push r st) T' σ' K) := R_V (cm := 126) (n := 1) (idx := 325) (ci := 2) (mx := 4) (vs := [vI a]) (by decide +kernel) (by decide +kernel) rfl (by decide +kernel) rfl (by decide +kernel) (by decide +kernel)
theorem s124_32 : Rn 124 32 [l0, l1, some (vI a)] st T σ K ↔ Rn 124 33 [l0, l1, some (vI a)] (vI a :: st) T σ K := R_iload_n (n := 2) (by decide +kernel) rfl
theorem s124_33 : Rn 124 33 L (vI a :: st) T σ K ↔ sx_sw [(0, 60), (1, 72), (2, 84)] 92 a (fun t => Rn 124 t L st T σ K) := R_table (d := 59) (lo := 0) (hi := 2) (offs := #[27, 39, 51]) (len := 27) (by decide +kernel) (by decide +kernel)
theorem s124_60 : Rn 124 60 [some (vR o), l1, l2] st T σ K ↔ Rn 124 61 [some (vR o), l1, l2] (vR o :: st) T σ K := R_aload_n (n := 0) (by decide +kernel) rfl
theorem s124_61 : Rn 124 61 L (vR o :: st) T σ K ↔ sx_kd T o = 8 ∧ ∃ t, sx_rf T o 2 = some t ∧ Rn 124 64 L (vR t :: st) T σ K := R_getR (idx := 28) (ci := 8) (k := 2) (by decide +kernel) (by decide +kernel) rfl
theorem s124_64 : Rn 124 64 [some (vR o), l1, l2] st T σ K ↔ Rn 124 65 [some (vR o), l1, l2] (vR o :: st) T σ K := R_aload_n (n := 0) (by decide +kernel) rfl
theorem s124_65 : Rn 124 65 L (vR o :: st) T σ K ↔ sx_kd T o = 8 ∧ ∃ t, sx_rf T o 3 = some t ∧ Rn 124 68 L (vR t :: st) T σ K := R_getR (idx := 32) (ci := 8) (k := 3) (by decide +kernel) (by decide +kernel) rfl
theorem s124_68 : Rn 124 68 L (vR p :: vR o :: st) T σ K ↔ (sx_kd T o = 2 ∧ st.length ≤ 4) ∧ Rn 127 0 [some (vR o), some (vR p), none, none] [] T σ (fun r T' σ' => Rn 124 71 L (sx_push r st) T' σ' K) := R_V (cm := 127) (n := 1) (idx := 328) (ci := 2) (mx := 4) (vs := [vR p]) (by decide +kernel) (by decide +kernel) rfl (by decide +kernel) rfl (by decide +kernel) (by decide +kernel)
theorem s124_71 : Rn 124 71 L [vI a] T σ K ↔ K (some (vI a)) T σ := R_ret (by decide +kernel) (by decide +kernel)
theorem s124_72 : Rn 124 72 [some (vR o), l1, l2] st T σ K ↔ Rn 124 73 [some (vR o), l1, l2] (vR o :: st) T σ K := R_aload_n (n := 0) (by decide +kernel) rfl
theorem s124_73 : Rn 124 73 L (vR o :: st) T σ K ↔ sx_kd T o = 8 ∧ ∃ t, sx_rf T o 2 = some t ∧ Rn 124 76 L (vR t :: st) T σ K := R_getR (idx := 28) (ci := 8) (k := 2) (by decide +kernel) (by decide +kernel) rfl
theorem s124_76 : Rn 124 76 [some (vR o), l1, l2] st T σ K ↔ Rn 124 77 [some (vR o), l1, l2] (vR o :: st) T σ K := R_aload_n (n := 0) (by decide +kernel) rfl
theorem s124_77 : Rn 124 77 L (vR o :: st) T σ K ↔ sx_kd T o = 8 ∧ ∃ t, sx_rf T o 3 = some t ∧ Rn 124 80 L (vR t :: st) T σ K := R_getR (idx := 32) (ci := 8) (k := 3) (by decide +kernel) (by decide +kernel) rfl
theorem s124_80 : Rn 124 80 L (vR p :: vR o :: st) T σ K ↔ (sx_kd T o = 2 ∧ st.length ≤ 4) ∧ Rn 128 0 [some (vR o), some (vR p), none, none] [] T σ (fun r T' σ' => Rn 124 83 L (sx_push r st) T' σ' K) := R_V (cm := 128) (n := 1) (idx := 332) (ci := 2) (mx := 4) (vs := [vR p]) (by decide +kernel) (by decide +kernel) rfl (by decide +kernel) rfl (by decide +kernel) (by decide +kernel)
theorem s124_83 : Rn 124 83 L [vI a] T σ K ↔ K (some (vI a)) T σ := R_ret (by decide +kernel) (by decide +kernel)
theorem s124_84 : Rn 124 84 [some (vR o), l1, l2] st T σ K ↔ Rn 124 85 [some (vR o), l1, l2] (vR o :: st) T σ K := R_aload_n (n := 0) (by decide +kernel) rfl
theorem s124_85 : Rn 124 85 L (vR o :: st) T σ K ↔ sx_kd T o = 8 ∧ ∃ t, sx_rf T o 3 = some t ∧ Rn 124 88 L (vR t :: st) T σ K := R_getR (idx := 32) (ci := 8) (k := 3) (by decide +kernel) (by decide +kernel) rfl
theorem s124_88 : Rn 124 88 L (vR o :: st) T σ K ↔ sx_kd T o = 2 ∧ Rn 124 91 L (vI (σ o 5) :: st) T σ K := R_getI (idx := 136) (ci := 2) (k := 5) (by decide +kernel) (by decide +kernel) (Or.inl rfl)
theorem s124_91 : Rn 124 91 L [vI a] T σ K ↔ K (some (vI a)) T σ := R_ret (by decide +kernel) (by decide +kernel)
theorem s124_92 : Rn 124 92 L st T σ K ↔ Rn 124 93 L (vI (-1) :: st) T σ K := R_iconst (n := -1) (by decide +kernel) (by decide)
theorem s124_93 : Rn 124 93 L [vI a] T σ K ↔ K (some (vI a)) T σ := R_ret (by decide +kernel) (by decide +kernel)
theorem s125_0 : Rn 125 0 [l0, some (vR o)] st T σ K ↔ Rn 125 1 [l0, some (vR o)] (vR o :: st) T σ K := R_aload_n (n := 1) (by decide +kernel) rfl
theorem s125_1 : Rn 125 1 L (vR o :: st) T σ K ↔ sx_kd T o = 2 ∧ ∃ t, sx_rf T o 0 = some t ∧ Rn 125 4 L (vR t :: st) T σ K := R_getR (idx := 9) (ci := 2) (k := 0) (by decide +kernel) (by decide +kernel) rfl
theorem s125_4 : Rn 125 4 L st T σ K ↔ Rn 125 5 L (vI 0 :: st) T σ K := R_iconst (n := 0) (by decide +kernel) (by decide)
theorem s125_5 : Rn 125 5 [some (vR o), l1] st T σ K ↔ Rn 125 6 [some (vR o), l1] (vR o :: st) T σ K := R_aload_n (n := 0) (by decide +kernel) rfl
theorem s125_6 : Rn 125 6 L (vR o :: st) T σ K ↔ sx_kd T o = 2 ∧ ∃ t, sx_rf T o 0 = some t ∧ Rn 125 9 L (vR t :: st) T σ K := R_getR (idx := 9) (ci := 2) (k := 0) (by decide +kernel) (by decide +kernel) rfl
theorem s125_9 : Rn 125 9 L st T σ K ↔ Rn 125 10 L (vI 0 :: st) T σ K := R_iconst (n := 0) (by decide +kernel) (by decide)
theorem s125_10 : Rn 125 10 L st T σ K ↔ Rn 125 12 L (vI 40 :: st) T σ K := R_bipush (n := 40) (by decide +kernel) (by decide +kernel)
theorem s125_12 : Rn 125 12 L (vI a :: vI b :: vR p :: vI c :: vR o :: st) T σ K ↔ (sx_kd T o = 20 ∧ sx_kd T p = 20 ∧ 0 ≤ c ∧ 0 ≤ b ∧ 0 ≤ a ∧ c + a ≤ sx_ln T o ∧ b + a ≤ sx_ln T p ∧ st.length ≤ 4) ∧ Rn 125 15 L st T (sx_cpy σ o c p b a) K := R_copy (idx := 40) (by decide +kernel) (by decide +kernel) (by decide +kernel) (by decide +kernel)
theorem s125_15 : Rn 125 15 [l0, some (vR o)] st T σ K ↔ Rn 125 16 [l0, some (vR o)] (vR o :: st) T σ K := R_aload_n (n := 1) (by decide +kernel) rfl
theorem s125_16 : Rn 125 16 L (vR o :: st) T σ K ↔ sx_kd T o = 2 ∧ ∃ t, sx_rf T o 1 = some t ∧ Rn 125 19 L (vR t :: st) T σ K := R_getR (idx := 15) (ci := 2) (k := 1) (by decide +kernel) (by decide +kernel) rfl
theorem s125_19 : Rn 125 19 L st T σ K ↔ Rn 125 20 L (vI 0 :: st) T σ K := R_iconst (n := 0) (by decide +kernel) (by decide)
theorem s125_20 : Rn 125 20 [some (vR o), l1] st T σ K ↔ Rn 125 21 [some (vR o), l1] (vR o :: st) T σ K := R_aload_n (n := 0) (by decide +kernel) rfl
theorem s125_21 : Rn 125 21 L (vR o :: st) T σ K ↔ sx_kd T o = 2 ∧ ∃ t, sx_rf T o 1 = some t ∧ Rn 125 24 L (vR t :: st) T σ K := R_getR (idx := 15) (ci := 2) (k := 1) (by decide +kernel) (by decide +kernel) rfl
theorem s125_24 : Rn 125 24 L st T σ K ↔ Rn 125 25 L (vI 0 :: st) T σ K := R_iconst (n := 0) (by decide +kernel) (by decide)
theorem s125_25 : Rn 125 25 L st T σ K ↔ Rn 125 27 L (vI 40 :: st) T σ K := R_bipush (n := 40) (by decide +kernel) (by decide +kernel)
theorem s125_27 : Rn 125 27 L (vI a :: vI b :: vR p :: vI c :: vR o :: st) T σ K ↔ (sx_kd T o = 20 ∧ sx_kd T p = 20 ∧ 0 ≤ c ∧ 0 ≤ b ∧ 0 ≤ a ∧ c + a ≤ sx_ln T o ∧ b + a ≤ sx_ln T p ∧ st.length ≤ 4) ∧ Rn 125 30 L st T (sx_cpy σ o c p b a) K := R_copy (idx := 40) (by decide +kernel) (by decide +kernel) (by decide +kernel) (by decide +kernel)
theorem s125_30 : Rn 125 30 [l0, some (vR o)] st T σ K ↔ Rn 125 31 [l0, some (vR o)] (vR o :: st) T σ K := R_aload_n (n := 1) (by decide +kernel) rfl
theorem s125_31 : Rn 125 31 L (vR o :: st) T σ K ↔ sx_kd T o = 2 ∧ ∃ t, sx_rf T o 2 = some t ∧ Rn 125 34 L (vR t :: st) T σ K := R_getR (idx := 18) (ci := 2) (k := 2) (by decide +kernel) (by decide +kernel) rfl
theorem s125_34 : Rn 125 34 L st T σ K ↔ Rn 125 35 L (vI 0 :: st) T σ K := R_iconst (n := 0) (by decide +kernel) (by decide)
theorem s125_35 : Rn 125 35 [some (vR o), l1] st T σ K ↔ Rn 125 36 [some (vR o), l1] (vR o :: st) T σ K := R_aload_n (n := 0) (by decide +kernel) rfl
theorem s125_36 : Rn 125 36 L (vR o :: st) T σ K ↔ sx_kd T o = 2 ∧ ∃ t, sx_rf T o 2 = some t ∧ Rn 125 39 L (vR t :: st) T σ K := R_getR (idx := 18) (ci := 2) (k := 2) (by decide +kernel) (by decide +kernel) rfl
theorem s125_39 : Rn 125 39 L st T σ K ↔ Rn 125 40 L (vI 0 :: st) T σ K := R_iconst (n := 0) (by decide +kernel) (by decide)
theorem s125_40 : Rn 125 40 L st T σ K ↔ Rn 125 42 L (vI 40 :: st) T σ K := R_bipush (n := 40) (by decide +kernel) (by decide +kernel)
theorem s125_42 : Rn 125 42 L (vI a :: vI b :: vR p :: vI c :: vR o :: st) T σ K ↔ (sx_kd T o = 20 ∧ sx_kd T p = 20 ∧ 0 ≤ c ∧ 0 ≤ b ∧ 0 ≤ a ∧ c + a ≤ sx_ln T o ∧ b + a ≤ sx_ln T p ∧ st.length ≤ 4) ∧ Rn 125 45 L st T (sx_cpy σ o c p b a) K := R_copy (idx := 40) (by decide +kernel) (by decide +kernel) (by decide +kernel) (by decide +kernel)
theorem s125_45 : Rn 125 45 [l0, some (vR o)] st T σ K ↔ Rn 125 46 [l0, some (vR o)] (vR o :: st) T σ K := R_aload_n (n := 1) (by decide +kernel) rfl
theorem s125_46 : Rn 125 46 L (vR o :: st) T σ K ↔ sx_kd T o = 2 ∧ ∃ t, sx_rf T o 3 = some t ∧ Rn 125 49 L (vR t :: st) T σ K := R_getR (idx := 21) (ci := 2) (k := 3) (by decide +kernel) (by decide +kernel) rfl
theorem s125_49 : Rn 125 49 L st T σ K ↔ Rn 125 50 L (vI 0 :: st) T σ K := R_iconst (n := 0) (by decide +kernel) (by decide)
theorem s125_50 : Rn 125 50 [some (vR o), l1] st T σ K ↔ Rn 125 51 [some (vR o), l1] (vR o :: st) T σ K := R_aload_n (n := 0) (by decide +kernel) rfl
theorem s125_51 : Rn 125 51 L (vR o :: st) T σ K ↔ sx_kd T o = 2 ∧ ∃ t, sx_rf T o 3 = some t ∧ Rn 125 54 L (vR t :: st) T σ K := R_getR (idx := 21) (ci := 2) (k := 3) (by decide +kernel) (by decide +kernel) rfl
theorem s125_54 : Rn 125 54 L st T σ K ↔ Rn 125 55 L (vI 0 :: st) T σ K := R_iconst (n := 0) (by decide +kernel) (by decide)
theorem s125_55 : Rn 125 55 L st T σ K ↔ Rn 125 57 L (vI 40 :: st) T σ K := R_bipush (n := 40) (by decide +kernel) (by decide +kernel)
theorem s125_57 : Rn 125 57 L (vI a :: vI b :: vR p :: vI c :: vR o :: st) T σ K ↔ (sx_kd T o = 20 ∧ sx_kd T p = 20 ∧ 0 ≤ c ∧ 0 ≤ b ∧ 0 ≤ a ∧ c + a ≤ sx_ln T o ∧ b + a ≤ sx_ln T p ∧ st.length ≤ 4) ∧ Rn 125 60 L st T (sx_cpy σ o c p b a) K := R_copy (idx := 40) (by decide +kernel) (by decide +kernel) (by decide +kernel) (by decide +kernel)
theorem s125_60 : Rn 125 60 [some (vR o), l1] st T σ K ↔ Rn 125 61 [some (vR o), l1] (vR o :: st) T σ K := R_aload_n (n := 0) (by decide +kernel) rfl
theorem s125_61 : Rn 125 61 [l0, some (vR o)] st T σ K ↔ Rn 125 62 [l0, some (vR o)] (vR o :: st) T σ K := R_aload_n (n := 1) (by decide +kernel) rfl
theorem s125_62 : Rn 125 62 L (vR o :: st) T σ K ↔ sx_kd T o = 2 ∧ Rn 125 65 L (vI (σ o 4) :: st) T σ K := R_getI (idx := 24) (ci := 2) (k := 4) (by decide +kernel) (by decide +kernel) (Or.inl rfl)
theorem s125_65 : Rn 125 65 L (vI a :: vR o :: st) T σ K ↔ sx_kd T o = 2 ∧ Rn 125 68 L st T (sx_up σ o 4 a) K := R_putI (idx := 24) (ci := 2) (k := 4) (by decide +kernel) (by decide +kernel) rfl rfl
theorem s125_68 : Rn 125 68 [some (vR o), l1] st T σ K ↔ Rn 125 69 [some (vR o), l1] (vR o :: st) T σ K := R_aload_n (n := 0) (by decide +kernel) rfl
theorem s125_69 : Rn 125 69 [l0, some (vR o)] st T σ K ↔ Rn 125 70 [l0, some (vR o)] (vR o :: st) T σ K := R_aload_n (n := 1) (by decide +kernel) rfl
theorem s125_70 : Rn 125 70 L (vR o :: st) T σ K ↔ sx_kd T o = 2 ∧ Rn 125 73 L (vI (σ o 5) :: st) T σ K := R_getI (idx := 28) (ci := 2) (k := 5) (by decide +kernel) (by decide +kernel) (Or.inl rfl)
theorem s125_73 : Rn 125 73 L (vI a :: vR o :: st) T σ K ↔ sx_kd T o = 2 ∧ Rn 125 76 L st T (sx_up σ o 5 a) K := R_putI (idx := 28) (ci := 2) (k := 5) (by decide +kernel) (by decide +kernel) rfl rfl
theorem s125_76 : Rn 125 76 [some (vR o), l1] st T σ K ↔ Rn 125 77 [some (vR o), l1] (vR o :: st) T σ K := R_aload_n (n := 0) (by decide +kernel) rfl
theorem s125_77 : Rn 125 77 [l0, some (vR o)] st T σ K ↔ Rn 125 78 [l0, some (vR o)] (vR o :: st) T σ K := R_aload_n (n := 1) (by decide +kernel) rfl
theorem s125_78 : Rn 125 78 L (vR o :: st) T σ K ↔ sx_kd T o = 2 ∧ Rn 125 81 L (vI (σ o 6) :: st) T σ K := R_getI (idx := 37) (ci := 2) (k := 6) (by decide +kernel) (by decide +kernel) (Or.inl rfl)
theorem s125_81 : Rn 125 81 L (vI a :: vR o :: st) T σ K ↔ sx_kd T o = 2 ∧ Rn 125 84 L st T (sx_up σ o 6 a) K := R_putI (idx := 37) (ci := 2) (k := 6) (by decide +kernel) (by decide +kernel) rfl rfl
theorem s125_84 : Rn 125 84 L [] T σ K ↔ K none T σ := R_retV (by decide +kernel) (by decide +kernel)
theorem s126_0 : Rn 126 0 [some (vR o), l1, l2, l3] st T σ K ↔ Rn 126 1 [some (vR o), l1, l2, l3] (vR o :: st) T σ K := R_aload_n (n := 0) (by decide +kernel) rfl
theorem s126_1 : Rn 126 1 [l0, some (vI a), l2, l3] st T σ K ↔ Rn 126 2 [l0, some (vI a), l2, l3] (vI a :: st) T σ K := R_iload_n (n := 1) (by decide +kernel) rfl
theorem s126_2 : Rn 126 2 L (vI a :: vR o :: st) T σ K ↔ (sx_kd T o = 2 ∧ st.length ≤ 4) ∧ Rn 49 0 [some (vR o), some (vI a)] [] T σ (fun r T' σ' => Rn 126 5 L (sx_push r st) T' σ' K) := R_V (cm := 49) (n := 1) (idx := 78) (ci := 2) (mx := 2) (vs := [vI a]) (by decide +kernel) (by decide +kernel) rfl (by decide +kernel) rfl (by decide +kernel) (by decide +kernel)
theorem s126_5 : Rn 126 5 L (vI a :: st) T σ K ↔ (a ≠ 0 → Rn 126 9 L st T σ K) ∧ (a = 0 → Rn 126 8 L st T σ K) := R_if_ne (off := 4) (by decide +kernel) (by decide)
theorem s126_8 : Rn 126 8 L [] T σ K ↔ K none T σ := R_retV (by decide +kernel) (by decide +kernel)
theorem s126_9 : Rn 126 9 [some (vR o), l1, l2, l3] st T σ K ↔ Rn 126 10 [some (vR o), l1, l2, l3] (vR o :: st) T σ K := R_aload_n (n := 0) (by decide +kernel) rfl
theorem s126_10 : Rn 126 10 L (vR o :: st) T σ K ↔ sx_kd T o = 2 ∧ ∃ t, sx_rf T o 1 = some t ∧ Rn 126 13 L (vR t :: st) T σ K := R_getR (idx := 15) (ci := 2) (k := 1) (by decide +kernel) (by decide +kernel) rfl
theorem s126_13 : Rn 126 13 [l0, some (vI a), l2, l3] st T σ K ↔ Rn 126 14 [l0, some (vI a), l2, l3] (vI a :: st) T σ K := R_iload_n (n := 1) (by decide +kernel) rfl
theorem s126_14 : Rn 126 14 L st T σ K ↔ Rn 126 15 L (vI (-1) :: st) T σ K := R_iconst (n := -1) (by decide +kernel) (by decide)
theorem s126_15 : Rn 126 15 L (vI b :: vI a :: vR o :: st) T σ K ↔ (sx_kd T o = 20 ∧ 0 ≤ a ∧ a < sx_ln T o) ∧ Rn 126 16 L st T (sx_up σ o a b) K := R_iast (by decide +kernel)
theorem s126_16 : Rn 126 16 [some (vR o), l1, l2, l3] st T σ K ↔ Rn 126 17 [some (vR o), l1, l2, l3] (vR o :: st) T σ K := R_aload_n (n := 0) (by decide +kernel) rfl
theorem s126_17 : Rn 126 17 L (vR o :: st) T σ K ↔ sx_kd T o = 2 ∧ ∃ t, sx_rf T o 2 = some t ∧ Rn 126 20 L (vR t :: st) T σ K := R_getR (idx := 18) (ci := 2) (k := 2) (by decide +kernel) (by decide +kernel) rfl
theorem s126_20 : Rn 126 20 [l0, some (vI a), l2, l3] st T σ K ↔ Rn 126 21 [l0, some (vI a), l2, l3] (vI a :: st) T σ K := R_iload_n (n := 1) (by decide +kernel) rfl
theorem s126_21 : Rn 126 21 L st T σ K ↔ Rn 126 22 L (vI (-1) :: st) T σ K := R_iconst (n := -1) (by decide +kernel) (by decide)
theorem s126_22 : Rn 126 22 L (vI b :: vI a :: vR o :: st) T σ K ↔ (sx_kd T o = 20 ∧ 0 ≤ a ∧ a < sx_ln T o) ∧ Rn 126 23 L st T (sx_up σ o a b) K := R_iast (by decide +kernel)
theorem s126_23 : Rn 126 23 [some (vR o), l1, l2, l3] st T σ K ↔ Rn 126 24 [some (vR o), l1, l2, l3] (vR o :: st) T σ K := R_aload_n (n := 0) (by decide +kernel) rfl
theorem s126_24 : Rn 126 24 L (vR o :: st) T σ K ↔ sx_kd T o = 2 ∧ ∃ t, sx_rf T o 3 = some t ∧ Rn 126 27 L (vR t :: st) T σ K := R_getR (idx := 21) (ci := 2) (k := 3) (by decide +kernel) (by decide +kernel) rfl
theorem s126_27 : Rn 126 27 [l0, some (vI a), l2, l3] st T σ K ↔ Rn 126 28 [l0, some (vI a), l2, l3] (vI a :: st) T σ K := R_iload_n (n := 1) (by decide +kernel) rfl
theorem s126_28 : Rn 126 28 L st T σ K ↔ Rn 126 29 L (vI 0 :: st) T σ K := R_iconst (n := 0) (by decide +kernel) (by decide)
theorem s126_29 : Rn 126 29 L (vI b :: vI a :: vR o :: st) T σ K ↔ (sx_kd T o = 20 ∧ 0 ≤ a ∧ a < sx_ln T o) ∧ Rn 126 30 L st T (sx_up σ o a b) K := R_iast (by decide +kernel)
theorem s126_30 : Rn 126 30 [some (vR o), l1, l2, l3] st T σ K ↔ Rn 126 31 [some (vR o), l1, l2, l3] (vR o :: st) T σ K := R_aload_n (n := 0) (by decide +kernel) rfl
theorem s126_31 : Rn 126 31 L (vR o :: st) T σ K ↔ Rn 126 32 L (vR o :: vR o :: st) T σ K := R_dup (v := vR o) (by decide +kernel) rfl
theorem s126_32 : Rn 126 32 L (vR o :: st) T σ K ↔ sx_kd T o = 2 ∧ Rn 126 35 L (vI (σ o 6) :: st) T σ K := R_getI (idx := 37) (ci := 2) (k := 6) (by decide +kernel) (by decide +kernel) (Or.inl rfl)
theorem s126_35 : Rn 126 35 L st T σ K ↔ Rn 126 36 L (vI 1 :: st) T σ K := R_iconst (n := 1) (by decide +kernel) (by decide)
theorem s126_36 : Rn 126 36 L (vI b :: vI a :: st) T σ K ↔ inI (a - b) ∧ Rn 126 37 L (vI (a - b) :: st) T σ K := R_isub (by decide +kernel)
theorem s126_37 : Rn 126 37 L (vI a :: vR o :: st) T σ K ↔ sx_kd T o = 2 ∧ Rn 126 40 L st T (sx_up σ o 6 a) K := R_putI (idx := 37) (ci := 2) (k := 6) (by decide +kernel) (by decide +kernel) rfl rfl
theorem s126_40 : Rn 126 40 [some (vR o), l1, l2, l3] st T σ K ↔ Rn 126 41 [some (vR o), l1, l2, l3] (vR o :: st) T σ K := R_aload_n (n := 0) (by decide +kernel) rfl
theorem s126_41 : Rn 126 41 L (vR o :: st) T σ K ↔ sx_kd T o = 2 ∧ Rn 126 44 L (vI (σ o 5) :: st) T σ K := R_getI (idx := 28) (ci := 2) (k := 5) (by decide +kernel) (by decide +kernel) (Or.inl rfl)
theorem s126_44 : Rn 126 44 [l0, some (vI a), l2, l3] st T σ K ↔ Rn 126 45 [l0, some (vI a), l2, l3] (vI a :: st) T σ K := R_iload_n (n := 1) (by decide +kernel) rfl
theorem s126_45 : Rn 126 45 L (vI b :: vI a :: st) T σ K ↔ (a ≠ b → Rn 126 53 L st T σ K) ∧ (a = b → Rn 126 48 L st T σ K) := R_icmp_ne (off := 8) (by decide +kernel) (by decide)
theorem s126_48 : Rn 126 48 [some (vR o), l1, l2, l3] st T σ K ↔ Rn 126 49 [some (vR o), l1, l2, l3] (vR o :: st) T σ K := R_aload_n (n := 0) (by decide +kernel) rfl
theorem s126_49 : Rn 126 49 L st T σ K ↔ Rn 126 50 L (vI (-1) :: st) T σ K := R_iconst (n := -1) (by decide +kernel) (by decide)
theorem s126_50 : Rn 126 50 L (vI a :: vR o :: st) T σ K ↔ sx_kd T o = 2 ∧ Rn 126 53 L st T (sx_up σ o 5 a) K := R_putI (idx := 28) (ci := 2) (k := 5) (by decide +kernel) (by decide +kernel) rfl rfl
theorem s126_53 : Rn 126 53 L st T σ K ↔ Rn 126 55 L (vI 9 :: st) T σ K := R_bipush (n := 9) (by decide +kernel) (by decide +kernel)
theorem s126_55 : Rn 126 55 [l0, l1, l2, l3] (vI a :: st) T σ K ↔ Rn 126 56 [l0, l1, some (vI a), l3] st T σ K := R_istore_n (n := 2) (by decide +kernel) rfl
theorem s126_56 : Rn 126 56 [l0, l1, some (vI a), l3] st T σ K ↔ Rn 126 57 [l0, l1, some (vI a), l3] (vI a :: st) T σ K := R_iload_n (n := 2) (by decide +kernel) rfl
theorem s126_57 : Rn 126 57 L (vI a :: st) T σ K ↔ (a < 0 → Rn 126 112 L st T σ K) ∧ (0 ≤ a → Rn 126 60 L st T σ K) := R_if_lt (off := 55) (by decide +kernel) (by decide)
theorem s126_60 : Rn 126 60 L st T σ K ↔ Rn 126 61 L (vI 0 :: st) T σ K := R_iconst (n := 0) (by decide +kernel) (by decide)
theorem s126_61 : Rn 126 61 [l0, l1, l2, l3] (vI a :: st) T σ K ↔ Rn 126 62 [l0, l1, l2, some (vI a)] st T σ K := R_istore_n (n := 3) (by decide +kernel) rfl
theorem s126_62 : Rn 126 62 [l0, l1, l2, some (vI a)] st T σ K ↔ Rn 126 63 [l0, l1, l2, some (vI a)] (vI a :: st) T σ K := R_iload_n (n := 3) (by decide +kernel) rfl
theorem s126_63 : Rn 126 63 L st T σ K ↔ Rn 126 65 L (vI 40 :: st) T σ K := R_bipush (n := 40) (by decide +kernel) (by decide +kernel)
theorem s126_65 : Rn 126 65 L (vI b :: vI a :: st) T σ K ↔ (b ≤ a → Rn 126 106 L st T σ K) ∧ (a < b → Rn 126 68 L st T σ K) := R_icmp_ge (off := 41) (by decide +kernel) (by decide)
theorem s126_68 : Rn 126 68 [some (vR o), l1, l2, l3] st T σ K ↔ Rn 126 69 [some (vR o), l1, l2, l3] (vR o :: st) T σ K := R_aload_n (n := 0) (by decide +kernel) rfl
theorem s126_69 : Rn 126 69 L (vR o :: st) T σ K ↔ sx_kd T o = 2 ∧ ∃ t, sx_rf T o 1 = some t ∧ Rn 126 72 L (vR t :: st) T σ K := R_getR (idx := 15) (ci := 2) (k := 1) (by decide +kernel) (by decide +kernel) rfl
theorem s126_72 : Rn 126 72 [l0, l1, l2, some (vI a)] st T σ K ↔ Rn 126 73 [l0, l1, l2, some (vI a)] (vI a :: st) T σ K := R_iload_n (n := 3) (by decide +kernel) rfl
theorem s126_73 : Rn 126 73 L (vI a :: vR o :: st) T σ K ↔ (sx_kd T o = 20 ∧ 0 ≤ a ∧ a < sx_ln T o) ∧ Rn 126 74 L (vI (σ o a) :: st) T σ K := R_iald (by decide +kernel) (by decide)
theorem s126_74 : Rn 126 74 [l0, l1, some (vI a), l3] st T σ K ↔ Rn 126 75 [l0, l1, some (vI a), l3] (vI a :: st) T σ K := R_iload_n (n := 2) (by decide +kernel) rfl
theorem s126_75 : Rn 126 75 L (vI b :: vI a :: st) T σ K ↔ (a ≠ b → Rn 126 100 L st T σ K) ∧ (a = b → Rn 126 78 L st T σ K) := R_icmp_ne (off := 25) (by decide +kernel) (by decide)
theorem s126_78 : Rn 126 78 [some (vR o), l1, l2, l3] st T σ K ↔ Rn 126 79 [some (vR o), l1, l2, l3] (vR o :: st) T σ K := R_aload_n (n := 0) (by decide +kernel) rfl
theorem s126_79 : Rn 126 79 L (vR o :: st) T σ K ↔ sx_kd T o = 2 ∧ ∃ t, sx_rf T o 2 = some t ∧ Rn 126 82 L (vR t :: st) T σ K := R_getR (idx := 18) (ci := 2) (k := 2) (by decide +kernel) (by decide +kernel) rfl
theorem s126_82 : Rn 126 82 [l0, l1, l2, some (vI a)] st T σ K ↔ Rn 126 83 [l0, l1, l2, some (vI a)] (vI a :: st) T σ K := R_iload_n (n := 3) (by decide +kernel) rfl
theorem s126_83 : Rn 126 83 L (vI a :: vR o :: st) T σ K ↔ (sx_kd T o = 20 ∧ 0 ≤ a ∧ a < sx_ln T o) ∧ Rn 126 84 L (vI (σ o a) :: st) T σ K := R_iald (by decide +kernel) (by decide)
theorem s126_84 : Rn 126 84 [l0, some (vI a), l2, l3] st T σ K ↔ Rn 126 85 [l0, some (vI a), l2, l3] (vI a :: st) T σ K := R_iload_n (n := 1) (by decide +kernel) rfl
theorem s126_85 : Rn 126 85 L (vI b :: vI a :: st) T σ K ↔ (a ≠ b → Rn 126 100 L st T σ K) ∧ (a = b → Rn 126 88 L st T σ K) := R_icmp_ne (off := 15) (by decide +kernel) (by decide)
theorem s126_88 : Rn 126 88 [some (vR o), l1, l2, l3] st T σ K ↔ Rn 126 89 [some (vR o), l1, l2, l3] (vR o :: st) T σ K := R_aload_n (n := 0) (by decide +kernel) rfl
theorem s126_89 : Rn 126 89 [l0, l1, l2, some (vI a)] st T σ K ↔ Rn 126 90 [l0, l1, l2, some (vI a)] (vI a :: st) T σ K := R_iload_n (n := 3) (by decide +kernel) rfl
theorem s126_90 : Rn 126 90 [l0, l1, some (vI a), l3] st T σ K ↔ Rn 126 91 [l0, l1, some (vI a), l3] (vI a :: st) T σ K := R_iload_n (n := 2) (by decide +kernel) rfl
theorem s126_91 : Rn 126 91 [some (vR o), l1, l2, l3] st T σ K ↔ Rn 126 92 [some (vR o), l1, l2, l3] (vR o :: st) T σ K := R_aload_n (n := 0) (by decide +kernel) rfl
theorem s126_92 : Rn 126 92 L (vR o :: st) T σ K ↔ sx_kd T o = 2 ∧ ∃ t, sx_rf T o 0 = some t ∧ Rn 126 95 L (vR t :: st) T σ K := R_getR (idx := 9) (ci := 2) (k := 0) (by decide +kernel) (by decide +kernel) rfl
theorem s126_95 : Rn 126 95 [l0, l1, l2, some (vI a)] st T σ K ↔ Rn 126 96 [l0, l1, l2, some (vI a)] (vI a :: st) T σ K := R_iload_n (n := 3) (by decide +kernel) rfl
theorem s126_96 : Rn 126 96 L (vI a :: vR o :: st) T σ K ↔ (sx_kd T o = 20 ∧ 0 ≤ a ∧ a < sx_ln T o) ∧ Rn 126 97 L (vI (σ o a) :: st) T σ K := R_iald (by decide +kernel) (by decide)
theorem s126_97 : Rn 126 97 L (vI c :: vI b :: vI a :: vR o :: st) T σ K ↔ (sx_kd T o = 2 ∧ st.length ≤ 4) ∧ Rn 37 0 [some (vR o), some (vI a), some (vI b), some (vI c), none] [] T σ (fun r T' σ' => Rn 126 100 L (sx_push r st) T' σ' K) := R_V (cm := 37) (n := 3) (idx := 71) (ci := 2) (mx := 5) (vs := [vI a, vI b, vI c]) (by decide +kernel) (by decide +kernel) rfl (by decide +kernel) rfl (by decide +kernel) (by decide +kernel)
theorem s126_100 : Rn 126 100 [l0, l1, l2, some (vI a)] st T σ K ↔ inI (a + 1) ∧ Rn 126 103 [l0, l1, l2, some (vI (a + 1))] st T σ K := R_iinc (n := 3) (d := 1) (by decide +kernel) rfl
theorem s126_103 : Rn 126 103 L st T σ K ↔ Rn 126 62 L st T σ K := R_goto (off := -41) (by decide +kernel) (by decide)
theorem s126_106 : Rn 126 106 [l0, l1, some (vI a), l3] st T σ K ↔ inI (a + (-1)) ∧ Rn 126 109 [l0, l1, some (vI (a + (-1))), l3] st T σ K := R_iinc (n := 2) (d := -1) (by decide +kernel) rfl
theorem s126_109 : Rn 126 109 L st T σ K ↔ Rn 126 56 L st T σ K := R_goto (off := -53) (by decide +kernel) (by decide)
theorem s126_112 : Rn 126 112 L [] T σ K ↔ K none T σ := R_retV (by decide +kernel) (by decide +kernel)
theorem s127_0 : Rn 127 0 L st T σ K ↔ Rn 127 1 L (vI 0 :: st) T σ K := R_iconst (n := 0) (by decide +kernel) (by decide)
theorem s127_1 : Rn 127 1 [l0, l1, l2, l3] (vI a :: st) T σ K ↔ Rn 127 2 [l0, l1, some (vI a), l3] st T σ K := R_istore_n (n := 2) (by decide +kernel) rfl
theorem s127_2 : Rn 127 2 L st T σ K ↔ Rn 127 3 L (vI 0 :: st) T σ K := R_iconst (n := 0) (by decide +kernel) (by decide)
theorem s127_3 : Rn 127 3 [l0, l1, l2, l3] (vI a :: st) T σ K ↔ Rn 127 4 [l0, l1, l2, some (vI a)] st T σ K := R_istore_n (n := 3) (by decide +kernel) rfl
theorem s127_4 : Rn 127 4 [l0, l1, l2, some (vI a)] st T σ K ↔ Rn 127 5 [l0, l1, l2, some (vI a)] (vI a :: st) T σ K := R_iload_n (n := 3) (by decide +kernel) rfl
theorem s127_5 : Rn 127 5 L st T σ K ↔ Rn 127 7 L (vI 40 :: st) T σ K := R_bipush (n := 40) (by decide +kernel) (by decide +kernel)
theorem s127_7 : Rn 127 7 L (vI b :: vI a :: st) T σ K ↔ (b ≤ a → Rn 127 52 L st T σ K) ∧ (a < b → Rn 127 10 L st T σ K) := R_icmp_ge (off := 45) (by decide +kernel) (by decide)
theorem s127_10 : Rn 127 10 [some (vR o), l1, l2, l3] st T σ K ↔ Rn 127 11 [some (vR o), l1, l2, l3] (vR o :: st) T σ K := R_aload_n (n := 0) (by decide +kernel) rfl
theorem s127_11 : Rn 127 11 L (vR o :: st) T σ K ↔ sx_kd T o = 2 ∧ ∃ t, sx_rf T o 1 = some t ∧ Rn 127 14 L (vR t :: st) T σ K := R_getR (idx := 15) (ci := 2) (k := 1) (by decide +kernel) (by decide +kernel) rfl
theorem s127_14 : Rn 127 14 [l0, l1, l2, some (vI a)] st T σ K ↔ Rn 127 15 [l0, l1, l2, some (vI a)] (vI a :: st) T σ K := R_iload_n (n := 3) (by decide +kernel) rfl
theorem s127_15 : Rn 127 15 L (vI a :: vR o :: st) T σ K ↔ (sx_kd T o = 20 ∧ 0 ≤ a ∧ a < sx_ln T o) ∧ Rn 127 16 L (vI (σ o a) :: st) T σ K := R_iald (by decide +kernel) (by decide)
theorem s127_16 : Rn 127 16 L (vI a :: st) T σ K ↔ (a < 0 → Rn 127 46 L st T σ K) ∧ (0 ≤ a → Rn 127 19 L st T σ K) := R_if_lt (off := 30) (by decide +kernel) (by decide)
theorem s127_19 : Rn 127 19 [l0, some (vR o), l2, l3] st T σ K ↔ Rn 127 20 [l0, some (vR o), l2, l3] (vR o :: st) T σ K := R_aload_n (n := 1) (by decide +kernel) rfl
theorem s127_20 : Rn 127 20 L (vR o :: st) T σ K ↔ sx_kd T o = 2 ∧ ∃ t, sx_rf T o 1 = some t ∧ Rn 127 23 L (vR t :: st) T σ K := R_getR (idx := 15) (ci := 2) (k := 1) (by decide +kernel) (by decide +kernel) rfl
theorem s127_23 : Rn 127 23 [l0, l1, l2, some (vI a)] st T σ K ↔ Rn 127 24 [l0, l1, l2, some (vI a)] (vI a :: st) T σ K := R_iload_n (n := 3) (by decide +kernel) rfl
theorem s127_24 : Rn 127 24 L (vI a :: vR o :: st) T σ K ↔ (sx_kd T o = 20 ∧ 0 ≤ a ∧ a < sx_ln T o) ∧ Rn 127 25 L (vI (σ o a) :: st) T σ K := R_iald (by decide +kernel) (by decide)
theorem s127_25 : Rn 127 25 L (vI a :: st) T σ K ↔ (a < 0 → Rn 127 46 L st T σ K) ∧ (0 ≤ a → Rn 127 28 L st T σ K) := R_if_lt (off := 21) (by decide +kernel) (by decide)
theorem s127_28 : Rn 127 28 [some (vR o), l1, l2, l3] st T σ K ↔ Rn 127 29 [some (vR o), l1, l2, l3] (vR o :: st) T σ K := R_aload_n (n := 0) (by decide +kernel) rfl
theorem s127_29 : Rn 127 29 L (vR o :: st) T σ K ↔ sx_kd T o = 2 ∧ ∃ t, sx_rf T o 2 = some t ∧ Rn 127 32 L (vR t :: st) T σ K := R_getR (idx := 18) (ci := 2) (k := 2) (by decide +kernel) (by decide +kernel) rfl
theorem s127_32 : Rn 127 32 [l0, l1, l2, some (vI a)] st T σ K ↔ Rn 127 33 [l0, l1, l2, some (vI a)] (vI a :: st) T σ K := R_iload_n (n := 3) (by decide +kernel) rfl
theorem s127_33 : Rn 127 33 L (vI a :: vR o :: st) T σ K ↔ (sx_kd T o = 20 ∧ 0 ≤ a ∧ a < sx_ln T o) ∧ Rn 127 34 L (vI (σ o a) :: st) T σ K := R_iald (by decide +kernel) (by decide)
theorem s127_34 : Rn 127 34 [l0, some (vR o), l2, l3] st T σ K ↔ Rn 127 35 [l0, some (vR o), l2, l3] (vR o :: st) T σ K := R_aload_n (n := 1) (by decide +kernel) rfl
theorem s127_35 : Rn 127 35 L (vR o :: st) T σ K ↔ sx_kd T o = 2 ∧ ∃ t, sx_rf T o 2 = some t ∧ Rn 127 38 L (vR t :: st) T σ K := R_getR (idx := 18) (ci := 2) (k := 2) (by decide +kernel) (by decide +kernel) rfl
theorem s127_38 : Rn 127 38 [l0, l1, l2, some (vI a)] st T σ K ↔ Rn 127 39 [l0, l1, l2, some (vI a)] (vI a :: st) T σ K := R_iload_n (n := 3) (by decide +kernel) rfl
theorem s127_39 : Rn 127 39 L (vI a :: vR o :: st) T σ K ↔ (sx_kd T o = 20 ∧ 0 ≤ a ∧ a < sx_ln T o) ∧ Rn 127 40 L (vI (σ o a) :: st) T σ K := R_iald (by decide +kernel) (by decide)
theorem s127_40 : Rn 127 40 L (vI b :: vI a :: st) T σ K ↔ (a = b → Rn 127 46 L st T σ K) ∧ (a ≠ b → Rn 127 43 L st T σ K) := R_icmp_eq (off := 6) (by decide +kernel) (by decide)
theorem s127_43 : Rn 127 43 [l0, l1, some (vI a), l3] st T σ K ↔ inI (a + 1) ∧ Rn 127 46 [l0, l1, some (vI (a + 1)), l3] st T σ K := R_iinc (n := 2) (d := 1) (by decide +kernel) rfl
theorem s127_46 : Rn 127 46 [l0, l1, l2, some (vI a)] st T σ K ↔ inI (a + 1) ∧ Rn 127 49 [l0, l1, l2, some (vI (a + 1))] st T σ K := R_iinc (n := 3) (d := 1) (by decide +kernel) rfl
theorem s127_49 : Rn 127 49 L st T σ K ↔ Rn 127 4 L st T σ K := R_goto (off := -45) (by decide +kernel) (by decide)
theorem s127_52 : Rn 127 52 [l0, l1, some (vI a), l3] st T σ K ↔ Rn 127 53 [l0, l1, some (vI a), l3] (vI a :: st) T σ K := R_iload_n (n := 2) (by decide +kernel) rfl
theorem s127_53 : Rn 127 53 L [vI a] T σ K ↔ K (some (vI a)) T σ := R_ret (by decide +kernel) (by decide +kernel)
theorem s128_0 : Rn 128 0 L st T σ K ↔ Rn 128 1 L (vI 0 :: st) T σ K := R_iconst (n := 0) (by decide +kernel) (by decide)
theorem s128_1 : Rn 128 1 [l0, l1, l2, l3] (vI a :: st) T σ K ↔ Rn 128 2 [l0, l1, some (vI a), l3] st T σ K := R_istore_n (n := 2) (by decide +kernel) rfl
theorem s128_2 : Rn 128 2 L st T σ K ↔ Rn 128 3 L (vI 0 :: st) T σ K := R_iconst (n := 0) (by decide +kernel) (by decide)
theorem s128_3 : Rn 128 3 [l0, l1, l2, l3] (vI a :: st) T σ K ↔ Rn 128 4 [l0, l1, l2, some (vI a)] st T σ K := R_istore_n (n := 3) (by decide +kernel) rfl
theorem s128_4 : Rn 128 4 [l0, l1, l2, some (vI a)] st T σ K ↔ Rn 128 5 [l0, l1, l2, some (vI a)] (vI a :: st) T σ K := R_iload_n (n := 3) (by decide +kernel) rfl
theorem s128_5 : Rn 128 5 L st T σ K ↔ Rn 128 7 L (vI 40 :: st) T σ K := R_bipush (n := 40) (by decide +kernel) (by decide +kernel)
theorem s128_7 : Rn 128 7 L (vI b :: vI a :: st) T σ K ↔ (b ≤ a → Rn 128 52 L st T σ K) ∧ (a < b → Rn 128 10 L st T σ K) := R_icmp_ge (off := 45) (by decide +kernel) (by decide)
theorem s128_10 : Rn 128 10 [some (vR o), l1, l2, l3] st T σ K ↔ Rn 128 11 [some (vR o), l1, l2, l3] (vR o :: st) T σ K := R_aload_n (n := 0) (by decide +kernel) rfl
theorem s128_11 : Rn 128 11 L (vR o :: st) T σ K ↔ sx_kd T o = 2 ∧ ∃ t, sx_rf T o 1 = some t ∧ Rn 128 14 L (vR t :: st) T σ K := R_getR (idx := 15) (ci := 2) (k := 1) (by decide +kernel) (by decide +kernel) rfl
theorem s128_14 : Rn 128 14 [l0, l1, l2, some (vI a)] st T σ K ↔ Rn 128 15 [l0, l1, l2, some (vI a)] (vI a :: st) T σ K := R_iload_n (n := 3) (by decide +kernel) rfl
theorem s128_15 : Rn 128 15 L (vI a :: vR o :: st) T σ K ↔ (sx_kd T o = 20 ∧ 0 ≤ a ∧ a < sx_ln T o) ∧ Rn 128 16 L (vI (σ o a) :: st) T σ K := R_iald (by decide +kernel) (by decide)
theorem s128_16 : Rn 128 16 L (vI a :: st) T σ K ↔ (a < 0 → Rn 128 46 L st T σ K) ∧ (0 ≤ a → Rn 128 19 L st T σ K) := R_if_lt (off := 30) (by decide +kernel) (by decide)
theorem s128_19 : Rn 128 19 [l0, some (vR o), l2, l3] st T σ K ↔ Rn 128 20 [l0, some (vR o), l2, l3] (vR o :: st) T σ K := R_aload_n (n := 1) (by decide +kernel) rfl
theorem s128_20 : Rn 128 20 L (vR o :: st) T σ K ↔ sx_kd T o = 2 ∧ ∃ t, sx_rf T o 1 = some t ∧ Rn 128 23 L (vR t :: st) T σ K := R_getR (idx := 15) (ci := 2) (k := 1) (by decide +kernel) (by decide +kernel) rfl
theorem s128_23 : Rn 128 23 [l0, l1, l2, some (vI a)] st T σ K ↔ Rn 128 24 [l0, l1, l2, some (vI a)] (vI a :: st) T σ K := R_iload_n (n := 3) (by decide +kernel) rfl
theorem s128_24 : Rn 128 24 L (vI a :: vR o :: st) T σ K ↔ (sx_kd T o = 20 ∧ 0 ≤ a ∧ a < sx_ln T o) ∧ Rn 128 25 L (vI (σ o a) :: st) T σ K := R_iald (by decide +kernel) (by decide)
theorem s128_25 : Rn 128 25 L (vI a :: st) T σ K ↔ (a < 0 → Rn 128 46 L st T σ K) ∧ (0 ≤ a → Rn 128 28 L st T σ K) := R_if_lt (off := 21) (by decide +kernel) (by decide)
theorem s128_28 : Rn 128 28 [some (vR o), l1, l2, l3] st T σ K ↔ Rn 128 29 [some (vR o), l1, l2, l3] (vR o :: st) T σ K := R_aload_n (n := 0) (by decide +kernel) rfl
theorem s128_29 : Rn 128 29 L (vR o :: st) T σ K ↔ sx_kd T o = 2 ∧ ∃ t, sx_rf T o 1 = some t ∧ Rn 128 32 L (vR t :: st) T σ K := R_getR (idx := 15) (ci := 2) (k := 1) (by decide +kernel) (by decide +kernel) rfl
theorem s128_32 : Rn 128 32 [l0, l1, l2, some (vI a)] st T σ K ↔ Rn 128 33 [l0, l1, l2, some (vI a)] (vI a :: st) T σ K := R_iload_n (n := 3) (by decide +kernel) rfl
theorem s128_33 : Rn 128 33 L (vI a :: vR o :: st) T σ K ↔ (sx_kd T o = 20 ∧ 0 ≤ a ∧ a < sx_ln T o) ∧ Rn 128 34 L (vI (σ o a) :: st) T σ K := R_iald (by decide +kernel) (by decide)
theorem s128_34 : Rn 128 34 [l0, some (vR o), l2, l3] st T σ K ↔ Rn 128 35 [l0, some (vR o), l2, l3] (vR o :: st) T σ K := R_aload_n (n := 1) (by decide +kernel) rfl
theorem s128_35 : Rn 128 35 L (vR o :: st) T σ K ↔ sx_kd T o = 2 ∧ ∃ t, sx_rf T o 1 = some t ∧ Rn 128 38 L (vR t :: st) T σ K := R_getR (idx := 15) (ci := 2) (k := 1) (by decide +kernel) (by decide +kernel) rfl
theorem s128_38 : Rn 128 38 [l0, l1, l2, some (vI a)] st T σ K ↔ Rn 128 39 [l0, l1, l2, some (vI a)] (vI a :: st) T σ K := R_iload_n (n := 3) (by decide +kernel) rfl
theorem s128_39 : Rn 128 39 L (vI a :: vR o :: st) T σ K ↔ (sx_kd T o = 20 ∧ 0 ≤ a ∧ a < sx_ln T o) ∧ Rn 128 40 L (vI (σ o a) :: st) T σ K := R_iald (by decide +kernel) (by decide)
theorem s128_40 : Rn 128 40 L (vI b :: vI a :: st) T σ K ↔ (a = b → Rn 128 46 L st T σ K) ∧ (a ≠ b → Rn 128 43 L st T σ K) := R_icmp_eq (off := 6) (by decide +kernel) (by decide)
theorem s128_43 : Rn 128 43 [l0, l1, some (vI a), l3] st T σ K ↔ inI (a + 1) ∧ Rn 128 46 [l0, l1, some (vI (a + 1)), l3] st T σ K := R_iinc (n := 2) (d := 1) (by decide +kernel) rfl
theorem s128_46 : Rn 128 46 [l0, l1, l2, some (vI a)] st T σ K ↔ inI (a + 1) ∧ Rn 128 49 [l0, l1, l2, some (vI (a + 1))] st T σ K := R_iinc (n := 3) (d := 1) (by decide +kernel) rfl
theorem s128_49 : Rn 128 49 L st T σ K ↔ Rn 128 4 L st T σ K := R_goto (off := -45) (by decide +kernel) (by decide)
theorem s128_52 : Rn 128 52 [l0, l1, some (vI a), l3] st T σ K ↔ Rn 128 53 [l0, l1, some (vI a), l3] (vI a :: st) T σ K := R_iload_n (n := 2) (by decide +kernel) rfl
theorem s128_53 : Rn 128 53 L [vI a] T σ K ↔ K (some (vI a)) T σ := R_ret (by decide +kernel) (by decide +kernel)
theorem s129_0 : Rn 129 0 [some (vR o), l1] st T σ K ↔ Rn 129 1 [some (vR o), l1] (vR o :: st) T σ K := R_aload_n (n := 0) (by decide +kernel) rfl
theorem s129_1 : Rn 129 1 L (vR o :: st) T σ K ↔ sx_kd T o = 8 ∧ ∃ t, sx_rf T o 3 = some t ∧ Rn 129 4 L (vR t :: st) T σ K := R_getR (idx := 32) (ci := 8) (k := 3) (by decide +kernel) (by decide +kernel) rfl
theorem s129_4 : Rn 129 4 [some (vR o), l1] st T σ K ↔ Rn 129 5 [some (vR o), l1] (vR o :: st) T σ K := R_aload_n (n := 0) (by decide +kernel) rfl
theorem s129_5 : Rn 129 5 L (vR o :: st) T σ K ↔ sx_kd T o = 8 ∧ ∃ t, sx_rf T o 2 = some t ∧ Rn 129 8 L (vR t :: st) T σ K := R_getR (idx := 28) (ci := 8) (k := 2) (by decide +kernel) (by decide +kernel) rfl
theorem s129_8 : Rn 129 8 L (vR p :: vR o :: st) T σ K ↔ (sx_kd T o = 2 ∧ st.length ≤ 4) ∧ Rn 125 0 [some (vR o), some (vR p)] [] T σ (fun r T' σ' => Rn 129 11 L (sx_push r st) T' σ' K) := R_V (cm := 125) (n := 1) (idx := 322) (ci := 2) (mx := 2) (vs := [vR p]) (by decide +kernel) (by decide +kernel) rfl (by decide +kernel) rfl (by decide +kernel) (by decide +kernel)
theorem s129_11 : Rn 129 11 [some (vR o), l1] st T σ K ↔ Rn 129 12 [some (vR o), l1] (vR o :: st) T σ K := R_aload_n (n := 0) (by decide +kernel) rfl
theorem s129_12 : Rn 129 12 L (vR o :: st) T σ K ↔ sx_kd T o = 8 ∧ ∃ t, sx_rf T o 3 = some t ∧ Rn 129 15 L (vR t :: st) T σ K := R_getR (idx := 32) (ci := 8) (k := 3) (by decide +kernel) (by decide +kernel) rfl
theorem s129_15 : Rn 129 15 L (vR o :: st) T σ K ↔ (sx_kd T o = 2 ∧ st.length ≤ 4) ∧ Rn 130 0 [some (vR o), none] [] T σ (fun r T' σ' => Rn 129 18 L (sx_push r st) T' σ' K) := R_V (cm := 130) (n := 0) (idx := 335) (ci := 2) (mx := 2) (vs := []) (by decide +kernel) (by decide +kernel) rfl (by decide +kernel) rfl (by decide +kernel) (by decide +kernel)
theorem s129_18 : Rn 129 18 [l0, some (vI a)] st T σ K ↔ Rn 129 19 [l0, some (vI a)] (vI a :: st) T σ K := R_iload_n (n := 1) (by decide +kernel) rfl
theorem s129_19 : Rn 129 19 L (vI a :: st) T σ K ↔ sx_sw [(0, 44), (1, 56)] 68 a (fun t => Rn 129 t L st T σ K) := R_look (d := 49) (ps := #[(0, 25), (1, 37)]) (len := 25) (by decide +kernel) (by decide +kernel)
theorem s129_44 : Rn 129 44 [some (vR o), l1] st T σ K ↔ Rn 129 45 [some (vR o), l1] (vR o :: st) T σ K := R_aload_n (n := 0) (by decide +kernel) rfl
theorem s129_45 : Rn 129 45 L (vR o :: st) T σ K ↔ sx_kd T o = 8 ∧ ∃ t, sx_rf T o 2 = some t ∧ Rn 129 48 L (vR t :: st) T σ K := R_getR (idx := 28) (ci := 8) (k := 2) (by decide +kernel) (by decide +kernel) rfl
theorem s129_48 : Rn 129 48 [some (vR o), l1] st T σ K ↔ Rn 129 49 [some (vR o), l1] (vR o :: st) T σ K := R_aload_n (n := 0) (by decide +kernel) rfl
theorem s129_49 : Rn 129 49 L (vR o :: st) T σ K ↔ sx_kd T o = 8 ∧ ∃ t, sx_rf T o 3 = some t ∧ Rn 129 52 L (vR t :: st) T σ K := R_getR (idx := 32) (ci := 8) (k := 3) (by decide +kernel) (by decide +kernel) rfl
theorem s129_52 : Rn 129 52 L (vR p :: vR o :: st) T σ K ↔ (sx_kd T o = 2 ∧ st.length ≤ 4) ∧ Rn 128 0 [some (vR o), some (vR p), none, none] [] T σ (fun r T' σ' => Rn 129 55 L (sx_push r st) T' σ' K) := R_V (cm := 128) (n := 1) (idx := 332) (ci := 2) (mx := 4) (vs := [vR p]) (by decide +kernel) (by decide +kernel) rfl (by decide +kernel) rfl (by decide +kernel) (by decide +kernel)
theorem s129_55 : Rn 129 55 L [vI a] T σ K ↔ K (some (vI a)) T σ := R_ret (by decide +kernel) (by decide +kernel)
theorem s129_56 : Rn 129 56 [some (vR o), l1] st T σ K ↔ Rn 129 57 [some (vR o), l1] (vR o :: st) T σ K := R_aload_n (n := 0) (by decide +kernel) rfl
theorem s129_57 : Rn 129 57 L (vR o :: st) T σ K ↔ sx_kd T o = 8 ∧ ∃ t, sx_rf T o 2 = some t ∧ Rn 129 60 L (vR t :: st) T σ K := R_getR (idx := 28) (ci := 8) (k := 2) (by decide +kernel) (by decide +kernel) rfl
theorem s129_60 : Rn 129 60 [some (vR o), l1] st T σ K ↔ Rn 129 61 [some (vR o), l1] (vR o :: st) T σ K := R_aload_n (n := 0) (by decide +kernel) rfl
theorem s129_61 : Rn 129 61 L (vR o :: st) T σ K ↔ sx_kd T o = 8 ∧ ∃ t, sx_rf T o 3 = some t ∧ Rn 129 64 L (vR t :: st) T σ K := R_getR (idx := 32) (ci := 8) (k := 3) (by decide +kernel) (by decide +kernel) rfl
theorem s129_64 : Rn 129 64 L (vR p :: vR o :: st) T σ K ↔ (sx_kd T o = 2 ∧ st.length ≤ 4) ∧ Rn 127 0 [some (vR o), some (vR p), none, none] [] T σ (fun r T' σ' => Rn 129 67 L (sx_push r st) T' σ' K) := R_V (cm := 127) (n := 1) (idx := 328) (ci := 2) (mx := 4) (vs := [vR p]) (by decide +kernel) (by decide +kernel) rfl (by decide +kernel) rfl (by decide +kernel) (by decide +kernel)
theorem s129_67 : Rn 129 67 L [vI a] T σ K ↔ K (some (vI a)) T σ := R_ret (by decide +kernel) (by decide +kernel)
theorem s129_68 : Rn 129 68 L st T σ K ↔ Rn 129 69 L (vI (-1) :: st) T σ K := R_iconst (n := -1) (by decide +kernel) (by decide)
theorem s129_69 : Rn 129 69 L [vI a] T σ K ↔ K (some (vI a)) T σ := R_ret (by decide +kernel) (by decide +kernel)
theorem s130_0 : Rn 130 0 L st T σ K ↔ Rn 130 1 L (vI 0 :: st) T σ K := R_iconst (n := 0) (by decide +kernel) (by decide)
theorem s130_1 : Rn 130 1 [l0, l1] (vI a :: st) T σ K ↔ Rn 130 2 [l0, some (vI a)] st T σ K := R_istore_n (n := 1) (by decide +kernel) rfl
theorem s130_2 : Rn 130 2 [l0, some (vI a)] st T σ K ↔ Rn 130 3 [l0, some (vI a)] (vI a :: st) T σ K := R_iload_n (n := 1) (by decide +kernel) rfl
theorem s130_3 : Rn 130 3 L st T σ K ↔ Rn 130 5 L (vI 40 :: st) T σ K := R_bipush (n := 40) (by decide +kernel) (by decide +kernel)
theorem s130_5 : Rn 130 5 L (vI b :: vI a :: st) T σ K ↔ (b ≤ a → Rn 130 31 L st T σ K) ∧ (a < b → Rn 130 8 L st T σ K) := R_icmp_ge (off := 26) (by decide +kernel) (by decide)
theorem s130_8 : Rn 130 8 [some (vR o), l1] st T σ K ↔ Rn 130 9 [some (vR o), l1] (vR o :: st) T σ K := R_aload_n (n := 0) (by decide +kernel) rfl
theorem s130_9 : Rn 130 9 L (vR o :: st) T σ K ↔ sx_kd T o = 2 ∧ ∃ t, sx_rf T o 1 = some t ∧ Rn 130 12 L (vR t :: st) T σ K := R_getR (idx := 15) (ci := 2) (k := 1) (by decide +kernel) (by decide +kernel) rfl
theorem s130_12 : Rn 130 12 [l0, some (vI a)] st T σ K ↔ Rn 130 13 [l0, some (vI a)] (vI a :: st) T σ K := R_iload_n (n := 1) (by decide +kernel) rfl
theorem s130_13 : Rn 130 13 L (vI a :: vR o :: st) T σ K ↔ (sx_kd T o = 20 ∧ 0 ≤ a ∧ a < sx_ln T o) ∧ Rn 130 14 L (vI (σ o a) :: st) T σ K := R_iald (by decide +kernel) (by decide)
theorem s130_14 : Rn 130 14 L (vI a :: st) T σ K ↔ (a < 0 → Rn 130 25 L st T σ K) ∧ (0 ≤ a → Rn 130 17 L st T σ K) := R_if_lt (off := 11) (by decide +kernel) (by decide)
theorem s130_17 : Rn 130 17 [some (vR o), l1] st T σ K ↔ Rn 130 18 [some (vR o), l1] (vR o :: st) T σ K := R_aload_n (n := 0) (by decide +kernel) rfl
theorem s130_18 : Rn 130 18 L (vR o :: st) T σ K ↔ sx_kd T o = 2 ∧ ∃ t, sx_rf T o 1 = some t ∧ Rn 130 21 L (vR t :: st) T σ K := R_getR (idx := 15) (ci := 2) (k := 1) (by decide +kernel) (by decide +kernel) rfl
theorem s130_21 : Rn 130 21 [l0, some (vI a)] st T σ K ↔ Rn 130 22 [l0, some (vI a)] (vI a :: st) T σ K := R_iload_n (n := 1) (by decide +kernel) rfl
theorem s130_22 : Rn 130 22 L st T σ K ↔ Rn 130 24 L (vI (-2) :: st) T σ K := R_bipush (n := -2) (by decide +kernel) (by decide +kernel)
theorem s130_24 : Rn 130 24 L (vI b :: vI a :: vR o :: st) T σ K ↔ (sx_kd T o = 20 ∧ 0 ≤ a ∧ a < sx_ln T o) ∧ Rn 130 25 L st T (sx_up σ o a b) K := R_iast (by decide +kernel)
theorem s130_25 : Rn 130 25 [l0, some (vI a)] st T σ K ↔ inI (a + 1) ∧ Rn 130 28 [l0, some (vI (a + 1))] st T σ K := R_iinc (n := 1) (d := 1) (by decide +kernel) rfl
theorem s130_28 : Rn 130 28 L st T σ K ↔ Rn 130 2 L st T σ K := R_goto (off := -26) (by decide +kernel) (by decide)
theorem s130_31 : Rn 130 31 [some (vR o), l1] st T σ K ↔ Rn 130 32 [some (vR o), l1] (vR o :: st) T σ K := R_aload_n (n := 0) (by decide +kernel) rfl
theorem s130_32 : Rn 130 32 L st T σ K ↔ Rn 130 33 L (vI (-1) :: st) T σ K := R_iconst (n := -1) (by decide +kernel) (by decide)
theorem s130_33 : Rn 130 33 L (vI a :: vR o :: st) T σ K ↔ sx_kd T o = 2 ∧ Rn 130 36 L st T (sx_up σ o 5 a) K := R_putI (idx := 28) (ci := 2) (k := 5) (by decide +kernel) (by decide +kernel) rfl rfl
theorem s130_36 : Rn 130 36 [some (vR o), l1] st T σ K ↔ Rn 130 37 [some (vR o), l1] (vR o :: st) T σ K := R_aload_n (n := 0) (by decide +kernel) rfl
theorem s130_37 : Rn 130 37 L st T σ K ↔ Rn 130 38 L (vI 0 :: st) T σ K := R_iconst (n := 0) (by decide +kernel) (by decide)
theorem s130_38 : Rn 130 38 L (vI a :: vR o :: st) T σ K ↔ sx_kd T o = 2 ∧ Rn 130 41 L st T (sx_up σ o 6 a) K := R_putI (idx := 37) (ci := 2) (k := 6) (by decide +kernel) (by decide +kernel) rfl rfl
theorem s130_41 : Rn 130 41 L st T σ K ↔ Rn 130 42 L (vI 0 :: st) T σ K := R_iconst (n := 0) (by decide +kernel) (by decide)
theorem s130_42 : Rn 130 42 [l0, l1] (vI a :: st) T σ K ↔ Rn 130 43 [l0, some (vI a)] st T σ K := R_istore_n (n := 1) (by decide +kernel) rfl
theorem s130_43 : Rn 130 43 [l0, some (vI a)] st T σ K ↔ Rn 130 44 [l0, some (vI a)] (vI a :: st) T σ K := R_iload_n (n := 1) (by decide +kernel) rfl
theorem s130_44 : Rn 130 44 L st T σ K ↔ Rn 130 46 L (vI 40 :: st) T σ K := R_bipush (n := 40) (by decide +kernel) (by decide +kernel)
theorem s130_46 : Rn 130 46 L (vI b :: vI a :: st) T σ K ↔ (b ≤ a → Rn 130 77 L st T σ K) ∧ (a < b → Rn 130 49 L st T σ K) := R_icmp_ge (off := 31) (by decide +kernel) (by decide)
theorem s130_49 : Rn 130 49 [some (vR o), l1] st T σ K ↔ Rn 130 50 [some (vR o), l1] (vR o :: st) T σ K := R_aload_n (n := 0) (by decide +kernel) rfl
theorem s130_50 : Rn 130 50 L (vR o :: st) T σ K ↔ sx_kd T o = 2 ∧ ∃ t, sx_rf T o 1 = some t ∧ Rn 130 53 L (vR t :: st) T σ K := R_getR (idx := 15) (ci := 2) (k := 1) (by decide +kernel) (by decide +kernel) rfl
theorem s130_53 : Rn 130 53 [l0, some (vI a)] st T σ K ↔ Rn 130 54 [l0, some (vI a)] (vI a :: st) T σ K := R_iload_n (n := 1) (by decide +kernel) rfl
theorem s130_54 : Rn 130 54 L (vI a :: vR o :: st) T σ K ↔ (sx_kd T o = 20 ∧ 0 ≤ a ∧ a < sx_ln T o) ∧ Rn 130 55 L (vI (σ o a) :: st) T σ K := R_iald (by decide +kernel) (by decide)
theorem s130_55 : Rn 130 55 L st T σ K ↔ Rn 130 57 L (vI (-2) :: st) T σ K := R_bipush (n := -2) (by decide +kernel) (by decide +kernel)
theorem s130_57 : Rn 130 57 L (vI b :: vI a :: st) T σ K ↔ (a ≠ b → Rn 130 71 L st T σ K) ∧ (a = b → Rn 130 60 L st T σ K) := R_icmp_ne (off := 14) (by decide +kernel) (by decide)
theorem s130_60 : Rn 130 60 [some (vR o), l1] st T σ K ↔ Rn 130 61 [some (vR o), l1] (vR o :: st) T σ K := R_aload_n (n := 0) (by decide +kernel) rfl
theorem s130_61 : Rn 130 61 [l0, some (vI a)] st T σ K ↔ Rn 130 62 [l0, some (vI a)] (vI a :: st) T σ K := R_iload_n (n := 1) (by decide +kernel) rfl
theorem s130_62 : Rn 130 62 [some (vR o), l1] st T σ K ↔ Rn 130 63 [some (vR o), l1] (vR o :: st) T σ K := R_aload_n (n := 0) (by decide +kernel) rfl
theorem s130_63 : Rn 130 63 L (vR o :: st) T σ K ↔ sx_kd T o = 2 ∧ ∃ t, sx_rf T o 0 = some t ∧ Rn 130 66 L (vR t :: st) T σ K := R_getR (idx := 9) (ci := 2) (k := 0) (by decide +kernel) (by decide +kernel) rfl
theorem s130_66 : Rn 130 66 [l0, some (vI a)] st T σ K ↔ Rn 130 67 [l0, some (vI a)] (vI a :: st) T σ K := R_iload_n (n := 1) (by decide +kernel) rfl
theorem s130_67 : Rn 130 67 L (vI a :: vR o :: st) T σ K ↔ (sx_kd T o = 20 ∧ 0 ≤ a ∧ a < sx_ln T o) ∧ Rn 130 68 L (vI (σ o a) :: st) T σ K := R_iald (by decide +kernel) (by decide)
theorem s130_68 : Rn 130 68 L (vI b :: vI a :: vR o :: st) T σ K ↔ (sx_kd T o = 2 ∧ st.length ≤ 4) ∧ Rn 36 0 [some (vR o), some (vI a), some (vI b)] [] T σ (fun r T' σ' => Rn 130 71 L (sx_push r st) T' σ' K) := R_V (cm := 36) (n := 2) (idx := 82) (ci := 2) (mx := 3) (vs := [vI a, vI b]) (by decide +kernel) (by decide +kernel) rfl (by decide +kernel) rfl (by decide +kernel) (by decide +kernel)
theorem s130_71 : Rn 130 71 [l0, some (vI a)] st T σ K ↔ inI (a + 1) ∧ Rn 130 74 [l0, some (vI (a + 1))] st T σ K := R_iinc (n := 1) (d := 1) (by decide +kernel) rfl
theorem s130_74 : Rn 130 74 L st T σ K ↔ Rn 130 43 L st T σ K := R_goto (off := -31) (by decide +kernel) (by decide)
theorem s130_77 : Rn 130 77 L [] T σ K ↔ K none T σ := R_retV (by decide +kernel) (by decide +kernel)
theorem s131_0 : Rn 131 0 [some (vR o), l1] st T σ K ↔ Rn 131 1 [some (vR o), l1] (vR o :: st) T σ K := R_aload_n (n := 0) (by decide +kernel) rfl
theorem s131_1 : Rn 131 1 L (vR o :: st) T σ K ↔ sx_kd T o = 8 ∧ ∃ t, sx_rf T o 8 = some t ∧ Rn 131 4 L (vR t :: st) T σ K := R_getR (idx := 66) (ci := 8) (k := 8) (by decide +kernel) (by decide +kernel) rfl
theorem s131_4 : Rn 131 4 [some (vR o), l1] st T σ K ↔ Rn 131 5 [some (vR o), l1] (vR o :: st) T σ K := R_aload_n (n := 0) (by decide +kernel) rfl
theorem s131_5 : Rn 131 5 L (vR o :: st) T σ K ↔ sx_kd T o = 8 ∧ ∃ t, sx_rf T o 0 = some t ∧ Rn 131 8 L (vR t :: st) T σ K := R_getR (idx := 10) (ci := 8) (k := 0) (by decide +kernel) (by decide +kernel) rfl
theorem s131_8 : Rn 131 8 L (vR p :: vR o :: st) T σ K ↔ (sx_kd T o = 4 ∧ st.length ≤ 4) ∧ Rn 132 0 [some (vR o), some (vR p), none, none, none, none] [] T σ (fun r T' σ' => Rn 131 11 L (sx_push r st) T' σ' K) := R_V (cm := 132) (n := 1) (idx := 338) (ci := 4) (mx := 6) (vs := [vR p]) (by decide +kernel) (by decide +kernel) rfl (by decide +kernel) rfl (by decide +kernel) (by decide +kernel)
theorem s131_11 : Rn 131 11 [l0, l1] (vI a :: st) T σ K ↔ Rn 131 12 [l0, some (vI a)] st T σ K := R_istore_n (n := 1) (by decide +kernel) rfl
theorem s131_12 : Rn 131 12 [some (vR o), l1] st T σ K ↔ Rn 131 13 [some (vR o), l1] (vR o :: st) T σ K := R_aload_n (n := 0) (by decide +kernel) rfl
theorem s131_13 : Rn 131 13 L (vR o :: st) T σ K ↔ sx_kd T o = 8 ∧ ∃ t, sx_rf T o 0 = some t ∧ Rn 131 16 L (vR t :: st) T σ K := R_getR (idx := 10) (ci := 8) (k := 0) (by decide +kernel) (by decide +kernel) rfl
theorem s131_16 : Rn 131 16 L st T σ K ↔ Rn 131 17 L (vI 0 :: st) T σ K := R_iconst (n := 0) (by decide +kernel) (by decide)
theorem s131_17 : Rn 131 17 L (vI a :: vR o :: st) T σ K ↔ sx_kd T o = 6 ∧ Rn 131 20 L st T (sx_up σ o 1 a) K := R_putI (idx := 85) (ci := 6) (k := 1) (by decide +kernel) (by decide +kernel) rfl rfl
theorem s131_20 : Rn 131 20 [l0, some (vI a)] st T σ K ↔ Rn 131 21 [l0, some (vI a)] (vI a :: st) T σ K := R_iload_n (n := 1) (by decide +kernel) rfl
theorem s131_21 : Rn 131 21 L (vI a :: st) T σ K ↔ (a = 0 → Rn 131 34 L st T σ K) ∧ (a ≠ 0 → Rn 131 24 L st T σ K) := R_if_eq (off := 13) (by decide +kernel) (by decide)
theorem s131_24 : Rn 131 24 [some (vR o), l1] st T σ K ↔ Rn 131 25 [some (vR o), l1] (vR o :: st) T σ K := R_aload_n (n := 0) (by decide +kernel) rfl
theorem s131_25 : Rn 131 25 L (vR o :: st) T σ K ↔ sx_kd T o = 8 ∧ ∃ t, sx_rf T o 8 = some t ∧ Rn 131 28 L (vR t :: st) T σ K := R_getR (idx := 66) (ci := 8) (k := 8) (by decide +kernel) (by decide +kernel) rfl
theorem s131_28 : Rn 131 28 L (vR o :: st) T σ K ↔ sx_kd T o = 4 ∧ Rn 131 31 L (vI (σ o 5) :: st) T σ K := R_getI (idx := 126) (ci := 4) (k := 5) (by decide +kernel) (by decide +kernel) (Or.inl rfl)
theorem s131_31 : Rn 131 31 L st T σ K ↔ Rn 131 39 L st T σ K := R_goto (off := 8) (by decide +kernel) (by decide)
theorem s131_34 : Rn 131 34 [some (vR o), l1] st T σ K ↔ Rn 131 35 [some (vR o), l1] (vR o :: st) T σ K := R_aload_n (n := 0) (by decide +kernel) rfl
theorem s131_35 : Rn 131 35 L st T σ K ↔ Rn 131 36 L (vI 1 :: st) T σ K := R_iconst (n := 1) (by decide +kernel) (by decide)
theorem s131_36 : Rn 131 36 L (vI a :: vR o :: st) T σ K ↔ (sx_kd T o = 8 ∧ st.length ≤ 4) ∧ Rn 12 0 [some (vR o), some (vI a)] [] T σ (fun r T' σ' => Rn 131 39 L (sx_push r st) T' σ' K) := R_V (cm := 12) (n := 1) (idx := 89) (ci := 8) (mx := 2) (vs := [vI a]) (by decide +kernel) (by decide +kernel) rfl (by decide +kernel) rfl (by decide +kernel) (by decide +kernel)
theorem s131_39 : Rn 131 39 L [vI a] T σ K ↔ K (some (vI a)) T σ := R_ret (by decide +kernel) (by decide +kernel)
theorem s132_0 : Rn 132 0 [l0, some (vR o), l2, l3, l4, l5] st T σ K ↔ Rn 132 1 [l0, some (vR o), l2, l3, l4, l5] (vR o :: st) T σ K := R_aload_n (n := 1) (by decide +kernel) rfl
theorem s132_1 : Rn 132 1 L (vR o :: st) T σ K ↔ sx_kd T o = 6 ∧ Rn 132 4 L (vI (σ o 1) :: st) T σ K := R_getI (idx := 29) (ci := 6) (k := 1) (by decide +kernel) (by decide +kernel) (Or.inl rfl)
theorem s132_4 : Rn 132 4 L st T σ K ↔ Rn 132 5 L (vI 4 :: st) T σ K := R_iconst (n := 4) (by decide +kernel) (by decide)
theorem s132_5 : Rn 132 5 L (vI b :: vI a :: st) T σ K ↔ 0 < b ∧ inI (a.tdiv b) ∧ Rn 132 6 L (vI (a.tdiv b) :: st) T σ K := R_idiv (by decide +kernel)
theorem s132_6 : Rn 132 6 [l0, l1, l2, l3, l4, l5] (vI a :: st) T σ K ↔ Rn 132 7 [l0, l1, some (vI a), l3, l4, l5] st T σ K := R_istore_n (n := 2) (by decide +kernel) rfl
theorem s132_7 : Rn 132 7 [l0, some (vR o), l2, l3, l4, l5] st T σ K ↔ Rn 132 8 [l0, some (vR o), l2, l3, l4, l5] (vR o :: st) T σ K := R_aload_n (n := 1) (by decide +kernel) rfl
theorem s132_8 : Rn 132 8 L (vR o :: st) T σ K ↔ sx_kd T o = 6 ∧ Rn 132 11 L (vI (σ o 1) :: st) T σ K := R_getI (idx := 29) (ci := 6) (k := 1) (by decide +kernel) (by decide +kernel) (Or.inl rfl)
theorem s132_11 : Rn 132 11 L st T σ K ↔ Rn 132 12 L (vI 4 :: st) T σ K := R_iconst (n := 4) (by decide +kernel) (by decide)
theorem s132_12 : Rn 132 12 L (vI b :: vI a :: st) T σ K ↔ 0 < b ∧ inI (a.tmod b) ∧ Rn 132 13 L (vI (a.tmod b) :: st) T σ K := R_irem (by decide +kernel)
theorem s132_13 : Rn 132 13 L (vI a :: st) T σ K ↔ (a ≠ 0 → Rn 132 27 L st T σ K) ∧ (a = 0 → Rn 132 16 L st T σ K) := R_if_ne (off := 14) (by decide +kernel) (by decide)
theorem s132_16 : Rn 132 16 [l0, l1, some (vI a), l3, l4, l5] st T σ K ↔ Rn 132 17 [l0, l1, some (vI a), l3, l4, l5] (vI a :: st) T σ K := R_iload_n (n := 2) (by decide +kernel) rfl
theorem s132_17 : Rn 132 17 L st T σ K ↔ Rn 132 18 L (vI 1 :: st) T σ K := R_iconst (n := 1) (by decide +kernel) (by decide)
theorem s132_18 : Rn 132 18 L (vI b :: vI a :: st) T σ K ↔ (a < b → Rn 132 27 L st T σ K) ∧ (b ≤ a → Rn 132 21 L st T σ K) := R_icmp_lt (off := 9) (by decide +kernel) (by decide)
theorem s132_21 : Rn 132 21 [l0, l1, some (vI a), l3, l4, l5] st T σ K ↔ Rn 132 22 [l0, l1, some (vI a), l3, l4, l5] (vI a :: st) T σ K := R_iload_n (n := 2) (by decide +kernel) rfl
theorem s132_22 : Rn 132 22 L st T σ K ↔ Rn 132 24 L (vI 12 :: st) T σ K := R_bipush (n := 12) (by decide +kernel) (by decide +kernel)
theorem s132_24 : Rn 132 24 L (vI b :: vI a :: st) T σ K ↔ (a ≤ b → Rn 132 29 L st T σ K) ∧ (b < a → Rn 132 27 L st T σ K) := R_icmp_le (off := 5) (by decide +kernel) (by decide)
theorem s132_27 : Rn 132 27 L st T σ K ↔ Rn 132 28 L (vI 0 :: st) T σ K := R_iconst (n := 0) (by decide +kernel) (by decide)
theorem s132_28 : Rn 132 28 L [vI a] T σ K ↔ (a = 0 ∨ a = 1) ∧ K (some (vI a)) T σ := R_retZ (by decide +kernel) (by decide +kernel)
theorem s132_29 : Rn 132 29 L st T σ K ↔ Rn 132 30 L (vI 0 :: st) T σ K := R_iconst (n := 0) (by decide +kernel) (by decide)
theorem s132_30 : Rn 132 30 [l0, l1, l2, l3, l4, l5] (vI a :: st) T σ K ↔ Rn 132 31 [l0, l1, l2, some (vI a), l4, l5] st T σ K := R_istore_n (n := 3) (by decide +kernel) rfl
theorem s132_31 : Rn 132 31 [l0, l1, l2, some (vI a), l4, l5] st T σ K ↔ Rn 132 32 [l0, l1, l2, some (vI a), l4, l5] (vI a :: st) T σ K := R_iload_n (n := 3) (by decide +kernel) rfl
theorem s132_32 : Rn 132 32 [l0, l1, some (vI a), l3, l4, l5] st T σ K ↔ Rn 132 33 [l0, l1, some (vI a), l3, l4, l5] (vI a :: st) T σ K := R_iload_n (n := 2) (by decide +kernel) rfl
theorem s132_33 : Rn 132 33 L (vI b :: vI a :: st) T σ K ↔ (b ≤ a → Rn 132 95 L st T σ K) ∧ (a < b → Rn 132 36 L st T σ K) := R_icmp_ge (off := 62) (by decide +kernel) (by decide)
theorem s132_36 : Rn 132 36 [l0, some (vR o), l2, l3, l4, l5] st T σ K ↔ Rn 132 37 [l0, some (vR o), l2, l3, l4, l5] (vR o :: st) T σ K := R_aload_n (n := 1) (by decide +kernel) rfl
theorem s132_37 : Rn 132 37 L st T σ K ↔ Rn 132 38 L (vI 4 :: st) T σ K := R_iconst (n := 4) (by decide +kernel) (by decide)
theorem s132_38 : Rn 132 38 [l0, l1, l2, some (vI a), l4, l5] st T σ K ↔ Rn 132 39 [l0, l1, l2, some (vI a), l4, l5] (vI a :: st) T σ K := R_iload_n (n := 3) (by decide +kernel) rfl
theorem s132_39 : Rn 132 39 L (vI b :: vI a :: st) T σ K ↔ inI (a * b) ∧ Rn 132 40 L (vI (a * b) :: st) T σ K := R_imul (by decide +kernel)
theorem s132_40 : Rn 132 40 L (vI a :: vR o :: st) T σ K ↔ (sx_kd T o = 6 ∧ st.length ≤ 4) ∧ Rn 20 0 [some (vR o), some (vI a)] [] T σ (fun r T' σ' => Rn 132 43 L (sx_push r st) T' σ' K) := R_V (cm := 20) (n := 1) (idx := 35) (ci := 6) (mx := 2) (vs := [vI a]) (by decide +kernel) (by decide +kernel) rfl (by decide +kernel) rfl (by decide +kernel) (by decide +kernel)
theorem s132_43 : Rn 132 43 [l0, l1, l2, l3, l4, l5] (vI a :: st) T σ K ↔ Rn 132 45 [l0, l1, l2, l3, some (vI a), l5] st T σ K := R_istore (n := 4) (by decide +kernel) rfl
theorem s132_45 : Rn 132 45 [l0, some (vR o), l2, l3, l4, l5] st T σ K ↔ Rn 132 46 [l0, some (vR o), l2, l3, l4, l5] (vR o :: st) T σ K := R_aload_n (n := 1) (by decide +kernel) rfl
theorem s132_46 : Rn 132 46 L st T σ K ↔ Rn 132 47 L (vI 4 :: st) T σ K := R_iconst (n := 4) (by decide +kernel) (by decide)
theorem s132_47 : Rn 132 47 [l0, l1, l2, some (vI a), l4, l5] st T σ K ↔ Rn 132 48 [l0, l1, l2, some (vI a), l4, l5] (vI a :: st) T σ K := R_iload_n (n := 3) (by decide +kernel) rfl
theorem s132_48 : Rn 132 48 L (vI b :: vI a :: st) T σ K ↔ inI (a * b) ∧ Rn 132 49 L (vI (a * b) :: st) T σ K := R_imul (by decide +kernel)
theorem s132_49 : Rn 132 49 L st T σ K ↔ Rn 132 50 L (vI 1 :: st) T σ K := R_iconst (n := 1) (by decide +kernel) (by decide)
theorem s132_50 : Rn 132 50 L (vI b :: vI a :: st) T σ K ↔ inI (a + b) ∧ Rn 132 51 L (vI (a + b) :: st) T σ K := R_iadd (by decide +kernel)
theorem s132_51 : Rn 132 51 L (vI a :: vR o :: st) T σ K ↔ (sx_kd T o = 6 ∧ st.length ≤ 4) ∧ Rn 20 0 [some (vR o), some (vI a)] [] T σ (fun r T' σ' => Rn 132 54 L (sx_push r st) T' σ' K) := R_V (cm := 20) (n := 1) (idx := 35) (ci := 6) (mx := 2) (vs := [vI a]) (by decide +kernel) (by decide +kernel) rfl (by decide +kernel) rfl (by decide +kernel) (by decide +kernel)
theorem s132_54 : Rn 132 54 [l0, l1, l2, l3, l4, l5] (vI a :: st) T σ K ↔ Rn 132 56 [l0, l1, l2, l3, l4, some (vI a)] st T σ K := R_istore (n := 5) (by decide +kernel) rfl
theorem s132_56 : Rn 132 56 [l0, l1, l2, l3, some (vI a), l5] st T σ K ↔ Rn 132 58 [l0, l1, l2, l3, some (vI a), l5] (vI a :: st) T σ K := R_iload (n := 4) (by decide +kernel) rfl
theorem s132_58 : Rn 132 58 [l0, l1, l2, l3, l4, some (vI a)] st T σ K ↔ Rn 132 60 [l0, l1, l2, l3, l4, some (vI a)] (vI a :: st) T σ K := R_iload (n := 5) (by decide +kernel) rfl
theorem s132_60 : Rn 132 60 L (vI b :: vI a :: st) T σ K ↔ (a = b → Rn 132 87 L st T σ K) ∧ (a ≠ b → Rn 132 63 L st T σ K) := R_icmp_eq (off := 27) (by decide +kernel) (by decide)
theorem s132_63 : Rn 132 63 [some (vR o), l1, l2, l3, l4, l5] st T σ K ↔ Rn 132 64 [some (vR o), l1, l2, l3, l4, l5] (vR o :: st) T σ K := R_aload_n (n := 0) (by decide +kernel) rfl
theorem s132_64 : Rn 132 64 L (vR o :: st) T σ K ↔ sx_kd T o = 4 ∧ ∃ t, sx_rf T o 0 = some t ∧ Rn 132 67 L (vR t :: st) T σ K := R_getR (idx := 25) (ci := 4) (k := 0) (by decide +kernel) (by decide +kernel) rfl
theorem s132_67 : Rn 132 67 [l0, l1, l2, l3, some (vI a), l5] st T σ K ↔ Rn 132 69 [l0, l1, l2, l3, some (vI a), l5] (vI a :: st) T σ K := R_iload (n := 4) (by decide +kernel) rfl
theorem s132_69 : Rn 132 69 L (vI a :: vR o :: st) T σ K ↔ (sx_kd T o = 2 ∧ st.length ≤ 4) ∧ Rn 49 0 [some (vR o), some (vI a)] [] T σ (fun r T' σ' => Rn 132 72 L (sx_push r st) T' σ' K) := R_V (cm := 49) (n := 1) (idx := 39) (ci := 2) (mx := 2) (vs := [vI a]) (by decide +kernel) (by decide +kernel) rfl (by decide +kernel) rfl (by decide +kernel) (by decide +kernel)
theorem s132_72 : Rn 132 72 L (vI a :: st) T σ K ↔ (a = 0 → Rn 132 87 L st T σ K) ∧ (a ≠ 0 → Rn 132 75 L st T σ K) := R_if_eq (off := 15) (by decide +kernel) (by decide)
theorem s132_75 : Rn 132 75 [some (vR o), l1, l2, l3, l4, l5] st T σ K ↔ Rn 132 76 [some (vR o), l1, l2, l3, l4, l5] (vR o :: st) T σ K := R_aload_n (n := 0) (by decide +kernel) rfl
theorem s132_76 : Rn 132 76 L (vR o :: st) T σ K ↔ sx_kd T o = 4 ∧ ∃ t, sx_rf T o 0 = some t ∧ Rn 132 79 L (vR t :: st) T σ K := R_getR (idx := 25) (ci := 4) (k := 0) (by decide +kernel) (by decide +kernel) rfl
theorem s132_79 : Rn 132 79 [l0, l1, l2, l3, l4, some (vI a)] st T σ K ↔ Rn 132 81 [l0, l1, l2, l3, l4, some (vI a)] (vI a :: st) T σ K := R_iload (n := 5) (by decide +kernel) rfl
theorem s132_81 : Rn 132 81 L (vI a :: vR o :: st) T σ K ↔ (sx_kd T o = 2 ∧ st.length ≤ 4) ∧ Rn 49 0 [some (vR o), some (vI a)] [] T σ (fun r T' σ' => Rn 132 84 L (sx_push r st) T' σ' K) := R_V (cm := 49) (n := 1) (idx := 39) (ci := 2) (mx := 2) (vs := [vI a]) (by decide +kernel) (by decide +kernel) rfl (by decide +kernel) rfl (by decide +kernel) (by decide +kernel)
theorem s132_84 : Rn 132 84 L (vI a :: st) T σ K ↔ (a ≠ 0 → Rn 132 89 L st T σ K) ∧ (a = 0 → Rn 132 87 L st T σ K) := R_if_ne (off := 5) (by decide +kernel) (by decide)
theorem s132_87 : Rn 132 87 L st T σ K ↔ Rn 132 88 L (vI 0 :: st) T σ K := R_iconst (n := 0) (by decide +kernel) (by decide)
theorem s132_88 : Rn 132 88 L [vI a] T σ K ↔ (a = 0 ∨ a = 1) ∧ K (some (vI a)) T σ := R_retZ (by decide +kernel) (by decide +kernel)
theorem s132_89 : Rn 132 89 [l0, l1, l2, some (vI a), l4, l5] st T σ K ↔ inI (a + 1) ∧ Rn 132 92 [l0, l1, l2, some (vI (a + 1)), l4, l5] st T σ K := R_iinc (n := 3) (d := 1) (by decide +kernel) rfl
theorem s132_92 : Rn 132 92 L st T σ K ↔ Rn 132 31 L st T σ K := R_goto (off := -61) (by decide +kernel) (by decide)
theorem s132_95 : Rn 132 95 L st T σ K ↔ Rn 132 96 L (vI 0 :: st) T σ K := R_iconst (n := 0) (by decide +kernel) (by decide)
theorem s132_96 : Rn 132 96 [l0, l1, l2, l3, l4, l5] (vI a :: st) T σ K ↔ Rn 132 97 [l0, l1, l2, some (vI a), l4, l5] st T σ K := R_istore_n (n := 3) (by decide +kernel) rfl
theorem s132_97 : Rn 132 97 [l0, l1, l2, some (vI a), l4, l5] st T σ K ↔ Rn 132 98 [l0, l1, l2, some (vI a), l4, l5] (vI a :: st) T σ K := R_iload_n (n := 3) (by decide +kernel) rfl
theorem s132_98 : Rn 132 98 [l0, l1, some (vI a), l3, l4, l5] st T σ K ↔ Rn 132 99 [l0, l1, some (vI a), l3, l4, l5] (vI a :: st) T σ K := R_iload_n (n := 2) (by decide +kernel) rfl
theorem s132_99 : Rn 132 99 L (vI b :: vI a :: st) T σ K ↔ (b ≤ a → Rn 132 164 L st T σ K) ∧ (a < b → Rn 132 102 L st T σ K) := R_icmp_ge (off := 65) (by decide +kernel) (by decide)
theorem s132_102 : Rn 132 102 [some (vR o), l1, l2, l3, l4, l5] st T σ K ↔ Rn 132 103 [some (vR o), l1, l2, l3, l4, l5] (vR o :: st) T σ K := R_aload_n (n := 0) (by decide +kernel) rfl
theorem s132_103 : Rn 132 103 L (vR o :: st) T σ K ↔ sx_kd T o = 4 ∧ ∃ t, sx_rf T o 1 = some t ∧ Rn 132 106 L (vR t :: st) T σ K := R_getR (idx := 11) (ci := 4) (k := 1) (by decide +kernel) (by decide +kernel) rfl
theorem s132_106 : Rn 132 106 [l0, l1, l2, some (vI a), l4, l5] st T σ K ↔ Rn 132 107 [l0, l1, l2, some (vI a), l4, l5] (vI a :: st) T σ K := R_iload_n (n := 3) (by decide +kernel) rfl
theorem s132_107 : Rn 132 107 [l0, some (vR o), l2, l3, l4, l5] st T σ K ↔ Rn 132 108 [l0, some (vR o), l2, l3, l4, l5] (vR o :: st) T σ K := R_aload_n (n := 1) (by decide +kernel) rfl
theorem s132_108 : Rn 132 108 L st T σ K ↔ Rn 132 109 L (vI 4 :: st) T σ K := R_iconst (n := 4) (by decide +kernel) (by decide)
theorem s132_109 : Rn 132 109 [l0, l1, l2, some (vI a), l4, l5] st T σ K ↔ Rn 132 110 [l0, l1, l2, some (vI a), l4, l5] (vI a :: st) T σ K := R_iload_n (n := 3) (by decide +kernel) rfl
theorem s132_110 : Rn 132 110 L (vI b :: vI a :: st) T σ K ↔ inI (a * b) ∧ Rn 132 111 L (vI (a * b) :: st) T σ K := R_imul (by decide +kernel)
theorem s132_111 : Rn 132 111 L (vI a :: vR o :: st) T σ K ↔ (sx_kd T o = 6 ∧ st.length ≤ 4) ∧ Rn 20 0 [some (vR o), some (vI a)] [] T σ (fun r T' σ' => Rn 132 114 L (sx_push r st) T' σ' K) := R_V (cm := 20) (n := 1) (idx := 35) (ci := 6) (mx := 2) (vs := [vI a]) (by decide +kernel) (by decide +kernel) rfl (by decide +kernel) rfl (by decide +kernel) (by decide +kernel)
theorem s132_114 : Rn 132 114 L (vI b :: vI a :: vR o :: st) T σ K ↔ (sx_kd T o = 20 ∧ 0 ≤ a ∧ a < sx_ln T o) ∧ Rn 132 115 L st T (sx_up σ o a b) K := R_iast (by decide +kernel)
theorem s132_115 : Rn 132 115 [some (vR o), l1, l2, l3, l4, l5] st T σ K ↔ Rn 132 116 [some (vR o), l1, l2, l3, l4, l5] (vR o :: st) T σ K := R_aload_n (n := 0) (by decide +kernel) rfl
theorem s132_116 : Rn 132 116 L (vR o :: st) T σ K ↔ sx_kd T o = 4 ∧ ∃ t, sx_rf T o 2 = some t ∧ Rn 132 119 L (vR t :: st) T σ K := R_getR (idx := 15) (ci := 4) (k := 2) (by decide +kernel) (by decide +kernel) rfl
theorem s132_119 : Rn 132 119 [l0, l1, l2, some (vI a), l4, l5] st T σ K ↔ Rn 132 120 [l0, l1, l2, some (vI a), l4, l5] (vI a :: st) T σ K := R_iload_n (n := 3) (by decide +kernel) rfl
theorem s132_120 : Rn 132 120 [l0, some (vR o), l2, l3, l4, l5] st T σ K ↔ Rn 132 121 [l0, some (vR o), l2, l3, l4, l5] (vR o :: st) T σ K := R_aload_n (n := 1) (by decide +kernel) rfl
theorem s132_121 : Rn 132 121 L st T σ K ↔ Rn 132 122 L (vI 4 :: st) T σ K := R_iconst (n := 4) (by decide +kernel) (by decide)
theorem s132_122 : Rn 132 122 [l0, l1, l2, some (vI a), l4, l5] st T σ K ↔ Rn 132 123 [l0, l1, l2, some (vI a), l4, l5] (vI a :: st) T σ K := R_iload_n (n := 3) (by decide +kernel) rfl
theorem s132_123 : Rn 132 123 L (vI b :: vI a :: st) T σ K ↔ inI (a * b) ∧ Rn 132 124 L (vI (a * b) :: st) T σ K := R_imul (by decide +kernel)
theorem s132_124 : Rn 132 124 L st T σ K ↔ Rn 132 125 L (vI 1 :: st) T σ K := R_iconst (n := 1) (by decide +kernel) (by decide)
theorem s132_125 : Rn 132 125 L (vI b :: vI a :: st) T σ K ↔ inI (a + b) ∧ Rn 132 126 L (vI (a + b) :: st) T σ K := R_iadd (by decide +kernel)
theorem s132_126 : Rn 132 126 L (vI a :: vR o :: st) T σ K ↔ (sx_kd T o = 6 ∧ st.length ≤ 4) ∧ Rn 20 0 [some (vR o), some (vI a)] [] T σ (fun r T' σ' => Rn 132 129 L (sx_push r st) T' σ' K) := R_V (cm := 20) (n := 1) (idx := 35) (ci := 6) (mx := 2) (vs := [vI a]) (by decide +kernel) (by decide +kernel) rfl (by decide +kernel) rfl (by decide +kernel) (by decide +kernel)
theorem s132_129 : Rn 132 129 L (vI b :: vI a :: vR o :: st) T σ K ↔ (sx_kd T o = 20 ∧ 0 ≤ a ∧ a < sx_ln T o) ∧ Rn 132 130 L st T (sx_up σ o a b) K := R_iast (by decide +kernel)
theorem s132_130 : Rn 132 130 [some (vR o), l1, l2, l3, l4, l5] st T σ K ↔ Rn 132 131 [some (vR o), l1, l2, l3, l4, l5] (vR o :: st) T σ K := R_aload_n (n := 0) (by decide +kernel) rfl
theorem s132_131 : Rn 132 131 L (vR o :: st) T σ K ↔ sx_kd T o = 4 ∧ ∃ t, sx_rf T o 3 = some t ∧ Rn 132 134 L (vR t :: st) T σ K := R_getR (idx := 18) (ci := 4) (k := 3) (by decide +kernel) (by decide +kernel) rfl
theorem s132_134 : Rn 132 134 [l0, l1, l2, some (vI a), l4, l5] st T σ K ↔ Rn 132 135 [l0, l1, l2, some (vI a), l4, l5] (vI a :: st) T σ K := R_iload_n (n := 3) (by decide +kernel) rfl
theorem s132_135 : Rn 132 135 [l0, some (vR o), l2, l3, l4, l5] st T σ K ↔ Rn 132 136 [l0, some (vR o), l2, l3, l4, l5] (vR o :: st) T σ K := R_aload_n (n := 1) (by decide +kernel) rfl
theorem s132_136 : Rn 132 136 L st T σ K ↔ Rn 132 137 L (vI 4 :: st) T σ K := R_iconst (n := 4) (by decide +kernel) (by decide)
theorem s132_137 : Rn 132 137 [l0, l1, l2, some (vI a), l4, l5] st T σ K ↔ Rn 132 138 [l0, l1, l2, some (vI a), l4, l5] (vI a :: st) T σ K := R_iload_n (n := 3) (by decide +kernel) rfl
theorem s132_138 : Rn 132 138 L (vI b :: vI a :: st) T σ K ↔ inI (a * b) ∧ Rn 132 139 L (vI (a * b) :: st) T σ K := R_imul (by decide +kernel)
theorem s132_139 : Rn 132 139 L st T σ K ↔ Rn 132 140 L (vI 2 :: st) T σ K := R_iconst (n := 2) (by decide +kernel) (by decide)
theorem s132_140 : Rn 132 140 L (vI b :: vI a :: st) T σ K ↔ inI (a + b) ∧ Rn 132 141 L (vI (a + b) :: st) T σ K := R_iadd (by decide +kernel)
theorem s132_141 : Rn 132 141 L (vI a :: vR o :: st) T σ K ↔ (sx_kd T o = 6 ∧ st.length ≤ 4) ∧ Rn 20 0 [some (vR o), some (vI a)] [] T σ (fun r T' σ' => Rn 132 144 L (sx_push r st) T' σ' K) := R_V (cm := 20) (n := 1) (idx := 35) (ci := 6) (mx := 2) (vs := [vI a]) (by decide +kernel) (by decide +kernel) rfl (by decide +kernel) rfl (by decide +kernel) (by decide +kernel)
theorem s132_144 : Rn 132 144 L st T σ K ↔ Rn 132 146 L (vI 8 :: st) T σ K := R_bipush (n := 8) (by decide +kernel) (by decide +kernel)
theorem s132_146 : Rn 132 146 L (vI b :: vI a :: st) T σ K ↔ (0 ≤ b ∧ b ≤ 31) ∧ inI (a * 2 ^ b.toNat) ∧ Rn 132 147 L (vI (a * 2 ^ b.toNat) :: st) T σ K := R_ishl (by decide +kernel)
theorem s132_147 : Rn 132 147 [l0, some (vR o), l2, l3, l4, l5] st T σ K ↔ Rn 132 148 [l0, some (vR o), l2, l3, l4, l5] (vR o :: st) T σ K := R_aload_n (n := 1) (by decide +kernel) rfl
theorem s132_148 : Rn 132 148 L st T σ K ↔ Rn 132 149 L (vI 4 :: st) T σ K := R_iconst (n := 4) (by decide +kernel) (by decide)
theorem s132_149 : Rn 132 149 [l0, l1, l2, some (vI a), l4, l5] st T σ K ↔ Rn 132 150 [l0, l1, l2, some (vI a), l4, l5] (vI a :: st) T σ K := R_iload_n (n := 3) (by decide +kernel) rfl
theorem s132_150 : Rn 132 150 L (vI b :: vI a :: st) T σ K ↔ inI (a * b) ∧ Rn 132 151 L (vI (a * b) :: st) T σ K := R_imul (by decide +kernel)
theorem s132_151 : Rn 132 151 L st T σ K ↔ Rn 132 152 L (vI 3 :: st) T σ K := R_iconst (n := 3) (by decide +kernel) (by decide)
theorem s132_152 : Rn 132 152 L (vI b :: vI a :: st) T σ K ↔ inI (a + b) ∧ Rn 132 153 L (vI (a + b) :: st) T σ K := R_iadd (by decide +kernel)
theorem s132_153 : Rn 132 153 L (vI a :: vR o :: st) T σ K ↔ (sx_kd T o = 6 ∧ st.length ≤ 4) ∧ Rn 20 0 [some (vR o), some (vI a)] [] T σ (fun r T' σ' => Rn 132 156 L (sx_push r st) T' σ' K) := R_V (cm := 20) (n := 1) (idx := 35) (ci := 6) (mx := 2) (vs := [vI a]) (by decide +kernel) (by decide +kernel) rfl (by decide +kernel) rfl (by decide +kernel) (by decide +kernel)
theorem s132_156 : Rn 132 156 L (vI b :: vI a :: st) T σ K ↔ Rn 132 157 L (vI (sx_or a b) :: st) T σ K := R_ior (by decide +kernel)
theorem s132_157 : Rn 132 157 L (vI b :: vI a :: vR o :: st) T σ K ↔ (sx_kd T o = 20 ∧ 0 ≤ a ∧ a < sx_ln T o) ∧ Rn 132 158 L st T (sx_up σ o a b) K := R_iast (by decide +kernel)
theorem s132_158 : Rn 132 158 [l0, l1, l2, some (vI a), l4, l5] st T σ K ↔ inI (a + 1) ∧ Rn 132 161 [l0, l1, l2, some (vI (a + 1)), l4, l5] st T σ K := R_iinc (n := 3) (d := 1) (by decide +kernel) rfl
theorem s132_161 : Rn 132 161 L st T σ K ↔ Rn 132 97 L st T σ K := R_goto (off := -64) (by decide +kernel) (by decide)
theorem s132_164 : Rn 132 164 [some (vR o), l1, l2, l3, l4, l5] st T σ K ↔ Rn 132 165 [some (vR o), l1, l2, l3, l4, l5] (vR o :: st) T σ K := R_aload_n (n := 0) (by decide +kernel) rfl
theorem s132_165 : Rn 132 165 [l0, l1, some (vI a), l3, l4, l5] st T σ K ↔ Rn 132 166 [l0, l1, some (vI a), l3, l4, l5] (vI a :: st) T σ K := R_iload_n (n := 2) (by decide +kernel) rfl
theorem s132_166 : Rn 132 166 L (vI a :: vR o :: st) T σ K ↔ sx_kd T o = 4 ∧ Rn 132 169 L st T (sx_up σ o 5 a) K := R_putI (idx := 45) (ci := 4) (k := 5) (by decide +kernel) (by decide +kernel) rfl rfl
theorem s132_169 : Rn 132 169 L st T σ K ↔ Rn 132 170 L (vI 1 :: st) T σ K := R_iconst (n := 1) (by decide +kernel) (by decide)
theorem s132_170 : Rn 132 170 L [vI a] T σ K ↔ (a = 0 ∨ a = 1) ∧ K (some (vI a)) T σ := R_retZ (by decide +kernel) (by decide +kernel)
theorem s133_0 : Rn 133 0 [some (vR o), l1] st T σ K ↔ Rn 133 1 [some (vR o), l1] (vR o :: st) T σ K := R_aload_n (n := 0) (by decide +kernel) rfl
theorem s133_1 : Rn 133 1 L (vR o :: st) T σ K ↔ sx_kd T o = 8 ∧ ∃ t, sx_rf T o 2 = some t ∧ Rn 133 4 L (vR t :: st) T σ K := R_getR (idx := 28) (ci := 8) (k := 2) (by decide +kernel) (by decide +kernel) rfl
theorem s133_4 : Rn 133 4 L (vR o :: st) T σ K ↔ sx_kd T o = 2 ∧ Rn 133 7 L (vI (σ o 4) :: st) T σ K := R_getI (idx := 107) (ci := 2) (k := 4) (by decide +kernel) (by decide +kernel) (Or.inl rfl)
theorem s133_7 : Rn 133 7 L st T σ K ↔ Rn 133 8 L (vI (-1) :: st) T σ K := R_iconst (n := -1) (by decide +kernel) (by decide)
theorem s133_8 : Rn 133 8 L (vI b :: vI a :: st) T σ K ↔ (a = b → Rn 133 16 L st T σ K) ∧ (a ≠ b → Rn 133 11 L st T σ K) := R_icmp_eq (off := 8) (by decide +kernel) (by decide)
theorem s133_11 : Rn 133 11 [l0, some (vI a)] st T σ K ↔ Rn 133 12 [l0, some (vI a)] (vI a :: st) T σ K := R_iload_n (n := 1) (by decide +kernel) rfl
theorem s133_12 : Rn 133 12 L st T σ K ↔ Rn 133 13 L (vI (-1) :: st) T σ K := R_iconst (n := -1) (by decide +kernel) (by decide)
theorem s133_13 : Rn 133 13 L (vI b :: vI a :: st) T σ K ↔ (b ≤ a → Rn 133 18 L st T σ K) ∧ (a < b → Rn 133 16 L st T σ K) := R_icmp_ge (off := 5) (by decide +kernel) (by decide)
theorem s133_16 : Rn 133 16 L st T σ K ↔ Rn 133 17 L (vI (-1) :: st) T σ K := R_iconst (n := -1) (by decide +kernel) (by decide)
theorem s133_17 : Rn 133 17 L [vI a] T σ K ↔ K (some (vI a)) T σ := R_ret (by decide +kernel) (by decide +kernel)
theorem s133_18 : Rn 133 18 [l0, some (vI a)] st T σ K ↔ Rn 133 19 [l0, some (vI a)] (vI a :: st) T σ K := R_iload_n (n := 1) (by decide +kernel) rfl
theorem s133_19 : Rn 133 19 L st T σ K ↔ Rn 133 20 L (vI (-1) :: st) T σ K := R_iconst (n := -1) (by decide +kernel) (by decide)
theorem s133_20 : Rn 133 20 L (vI b :: vI a :: st) T σ K ↔ (a ≠ b → Rn 133 33 L st T σ K) ∧ (a = b → Rn 133 23 L st T σ K) := R_icmp_ne (off := 13) (by decide +kernel) (by decide)
theorem s133_23 : Rn 133 23 [some (vR o), l1] st T σ K ↔ Rn 133 24 [some (vR o), l1] (vR o :: st) T σ K := R_aload_n (n := 0) (by decide +kernel) rfl
theorem s133_24 : Rn 133 24 L (vR o :: st) T σ K ↔ sx_kd T o = 8 ∧ ∃ t, sx_rf T o 8 = some t ∧ Rn 133 27 L (vR t :: st) T σ K := R_getR (idx := 66) (ci := 8) (k := 8) (by decide +kernel) (by decide +kernel) rfl
theorem s133_27 : Rn 133 27 L (vR o :: st) T σ K ↔ (sx_kd T o = 4 ∧ st.length ≤ 4) ∧ Rn 134 0 [some (vR o), none, none] [] T σ (fun r T' σ' => Rn 133 30 L (sx_push r st) T' σ' K) := R_V (cm := 134) (n := 0) (idx := 342) (ci := 4) (mx := 3) (vs := []) (by decide +kernel) (by decide +kernel) rfl (by decide +kernel) rfl (by decide +kernel) (by decide +kernel)
theorem s133_30 : Rn 133 30 L st T σ K ↔ Rn 133 41 L st T σ K := R_goto (off := 11) (by decide +kernel) (by decide)
theorem s133_33 : Rn 133 33 [some (vR o), l1] st T σ K ↔ Rn 133 34 [some (vR o), l1] (vR o :: st) T σ K := R_aload_n (n := 0) (by decide +kernel) rfl
theorem s133_34 : Rn 133 34 L (vR o :: st) T σ K ↔ sx_kd T o = 8 ∧ ∃ t, sx_rf T o 8 = some t ∧ Rn 133 37 L (vR t :: st) T σ K := R_getR (idx := 66) (ci := 8) (k := 8) (by decide +kernel) (by decide +kernel) rfl
theorem s133_37 : Rn 133 37 [l0, some (vI a)] st T σ K ↔ Rn 133 38 [l0, some (vI a)] (vI a :: st) T σ K := R_iload_n (n := 1) (by decide +kernel) rfl
theorem s133_38 : Rn 133 38 L (vI a :: vR o :: st) T σ K ↔ (sx_kd T o = 4 ∧ st.length ≤ 4) ∧ Rn 137 0 [some (vR o), some (vI a), none, none] [] T σ (fun r T' σ' => Rn 133 41 L (sx_push r st) T' σ' K) := R_V (cm := 137) (n := 1) (idx := 345) (ci := 4) (mx := 4) (vs := [vI a]) (by decide +kernel) (by decide +kernel) rfl (by decide +kernel) rfl (by decide +kernel) (by decide +kernel)
theorem s133_41 : Rn 133 41 L [vI a] T σ K ↔ K (some (vI a)) T σ := R_ret (by decide +kernel) (by decide +kernel)
theorem s134_0 : Rn 134 0 [some (vR o), l1, l2] st T σ K ↔ Rn 134 1 [some (vR o), l1, l2] (vR o :: st) T σ K := R_aload_n (n := 0) (by decide +kernel) rfl
theorem s134_1 : Rn 134 1 L (vR o :: st) T σ K ↔ (sx_kd T o = 4 ∧ st.length ≤ 4) ∧ Rn 135 0 [some (vR o), none] [] T σ (fun r T' σ' => Rn 134 4 L (sx_push r st) T' σ' K) := R_V (cm := 135) (n := 0) (idx := 58) (ci := 4) (mx := 2) (vs := []) (by decide +kernel) (by decide +kernel) rfl (by decide +kernel) rfl (by decide +kernel) (by decide +kernel)
theorem s134_4 : Rn 134 4 L st T σ K ↔ Rn 134 5 L (vI 0 :: st) T σ K := R_iconst (n := 0) (by decide +kernel) (by decide)
theorem s134_5 : Rn 134 5 [l0, l1, l2] (vI a :: st) T σ K ↔ Rn 134 6 [l0, some (vI a), l2] st T σ K := R_istore_n (n := 1) (by decide +kernel) rfl
theorem s134_6 : Rn 134 6 L st T σ K ↔ Rn 134 7 L (vI 0 :: st) T σ K := R_iconst (n := 0) (by decide +kernel) (by decide)
theorem s134_7 : Rn 134 7 [l0, l1, l2] (vI a :: st) T σ K ↔ Rn 134 8 [l0, l1, some (vI a)] st T σ K := R_istore_n (n := 2) (by decide +kernel) rfl
theorem s134_8 : Rn 134 8 [l0, l1, some (vI a)] st T σ K ↔ Rn 134 9 [l0, l1, some (vI a)] (vI a :: st) T σ K := R_iload_n (n := 2) (by decide +kernel) rfl
theorem s134_9 : Rn 134 9 L st T σ K ↔ Rn 134 10 L (vI 3 :: st) T σ K := R_iconst (n := 3) (by decide +kernel) (by decide)
theorem s134_10 : Rn 134 10 L (vI b :: vI a :: st) T σ K ↔ (b ≤ a → Rn 134 31 L st T σ K) ∧ (a < b → Rn 134 13 L st T σ K) := R_icmp_ge (off := 21) (by decide +kernel) (by decide)
theorem s134_13 : Rn 134 13 [some (vR o), l1, l2] st T σ K ↔ Rn 134 14 [some (vR o), l1, l2] (vR o :: st) T σ K := R_aload_n (n := 0) (by decide +kernel) rfl
theorem s134_14 : Rn 134 14 L (vR o :: st) T σ K ↔ sx_kd T o = 4 ∧ ∃ t, sx_rf T o 4 = some t ∧ Rn 134 17 L (vR t :: st) T σ K := R_getR (idx := 21) (ci := 4) (k := 4) (by decide +kernel) (by decide +kernel) rfl
theorem s134_17 : Rn 134 17 [l0, l1, some (vI a)] st T σ K ↔ Rn 134 18 [l0, l1, some (vI a)] (vI a :: st) T σ K := R_iload_n (n := 2) (by decide +kernel) rfl
theorem s134_18 : Rn 134 18 L (vI a :: vR o :: st) T σ K ↔ (sx_kd T o = 21 ∧ 0 ≤ a ∧ a < sx_ln T o) ∧ Rn 134 19 L (vI (σ o a) :: st) T σ K := R_zald (by decide +kernel)
theorem s134_19 : Rn 134 19 L (vI a :: st) T σ K ↔ (a = 0 → Rn 134 25 L st T σ K) ∧ (a ≠ 0 → Rn 134 22 L st T σ K) := R_if_eq (off := 6) (by decide +kernel) (by decide)
theorem s134_22 : Rn 134 22 [l0, some (vI a), l2] st T σ K ↔ inI (a + 1) ∧ Rn 134 25 [l0, some (vI (a + 1)), l2] st T σ K := R_iinc (n := 1) (d := 1) (by decide +kernel) rfl
theorem s134_25 : Rn 134 25 [l0, l1, some (vI a)] st T σ K ↔ inI (a + 1) ∧ Rn 134 28 [l0, l1, some (vI (a + 1))] st T σ K := R_iinc (n := 2) (d := 1) (by decide +kernel) rfl
theorem s134_28 : Rn 134 28 L st T σ K ↔ Rn 134 8 L st T σ K := R_goto (off := -20) (by decide +kernel) (by decide)
theorem s134_31 : Rn 134 31 [l0, some (vI a), l2] st T σ K ↔ Rn 134 32 [l0, some (vI a), l2] (vI a :: st) T σ K := R_iload_n (n := 1) (by decide +kernel) rfl
theorem s134_32 : Rn 134 32 L [vI a] T σ K ↔ K (some (vI a)) T σ := R_ret (by decide +kernel) (by decide +kernel)
theorem s135_0 : Rn 135 0 L st T σ K ↔ Rn 135 1 L (vI 0 :: st) T σ K := R_iconst (n := 0) (by decide +kernel) (by decide)
theorem s135_1 : Rn 135 1 [l0, l1] (vI a :: st) T σ K ↔ Rn 135 2 [l0, some (vI a)] st T σ K := R_istore_n (n := 1) (by decide +kernel) rfl
theorem s135_2 : Rn 135 2 [l0, some (vI a)] st T σ K ↔ Rn 135 3 [l0, some (vI a)] (vI a :: st) T σ K := R_iload_n (n := 1) (by decide +kernel) rfl
theorem s135_3 : Rn 135 3 L st T σ K ↔ Rn 135 4 L (vI 3 :: st) T σ K := R_iconst (n := 3) (by decide +kernel) (by decide)
theorem s135_4 : Rn 135 4 L (vI b :: vI a :: st) T σ K ↔ (b ≤ a → Rn 135 24 L st T σ K) ∧ (a < b → Rn 135 7 L st T σ K) := R_icmp_ge (off := 20) (by decide +kernel) (by decide)
theorem s135_7 : Rn 135 7 [some (vR o), l1] st T σ K ↔ Rn 135 8 [some (vR o), l1] (vR o :: st) T σ K := R_aload_n (n := 0) (by decide +kernel) rfl
theorem s135_8 : Rn 135 8 L (vR o :: st) T σ K ↔ sx_kd T o = 4 ∧ ∃ t, sx_rf T o 4 = some t ∧ Rn 135 11 L (vR t :: st) T σ K := R_getR (idx := 21) (ci := 4) (k := 4) (by decide +kernel) (by decide +kernel) rfl
theorem s135_11 : Rn 135 11 [l0, some (vI a)] st T σ K ↔ Rn 135 12 [l0, some (vI a)] (vI a :: st) T σ K := R_iload_n (n := 1) (by decide +kernel) rfl
theorem s135_12 : Rn 135 12 [some (vR o), l1] st T σ K ↔ Rn 135 13 [some (vR o), l1] (vR o :: st) T σ K := R_aload_n (n := 0) (by decide +kernel) rfl
theorem s135_13 : Rn 135 13 [l0, some (vI a)] st T σ K ↔ Rn 135 14 [l0, some (vI a)] (vI a :: st) T σ K := R_iload_n (n := 1) (by decide +kernel) rfl
theorem s135_14 : Rn 135 14 L (vI a :: vR o :: st) T σ K ↔ (sx_kd T o = 4 ∧ st.length ≤ 4) ∧ Rn 136 0 [some (vR o), some (vI a), none, none, none] [] T σ (fun r T' σ' => Rn 135 17 L (sx_push r st) T' σ' K) := R_V (cm := 136) (n := 1) (idx := 48) (ci := 4) (mx := 5) (vs := [vI a]) (by decide +kernel) (by decide +kernel) rfl (by decide +kernel) rfl (by decide +kernel) (by decide +kernel)
theorem s135_17 : Rn 135 17 L (vI b :: vI a :: vR o :: st) T σ K ↔ (sx_kd T o = 21 ∧ 0 ≤ a ∧ a < sx_ln T o ∧ (b = 0 ∨ b = 1)) ∧ Rn 135 18 L st T (sx_up σ o a b) K := R_zast (by decide +kernel)
theorem s135_18 : Rn 135 18 [l0, some (vI a)] st T σ K ↔ inI (a + 1) ∧ Rn 135 21 [l0, some (vI (a + 1))] st T σ K := R_iinc (n := 1) (d := 1) (by decide +kernel) rfl
theorem s135_21 : Rn 135 21 L st T σ K ↔ Rn 135 2 L st T σ K := R_goto (off := -19) (by decide +kernel) (by decide)
theorem s135_24 : Rn 135 24 L [] T σ K ↔ K none T σ := R_retV (by decide +kernel) (by decide +kernel)
theorem s136_0 : Rn 136 0 L st T σ K ↔ Rn 136 1 L (vI 0 :: st) T σ K := R_iconst (n := 0) (by decide +kernel) (by decide)
theorem s136_1 : Rn 136 1 [l0, l1, l2, l3, l4] (vI a :: st) T σ K ↔ Rn 136 2 [l0, l1, some (vI a), l3, l4] st T σ K := R_istore_n (n := 2) (by decide +kernel) rfl
theorem s136_2 : Rn 136 2 [l0, l1, some (vI a), l3, l4] st T σ K ↔ Rn 136 3 [l0, l1, some (vI a), l3, l4] (vI a :: st) T σ K := R_iload_n (n := 2) (by decide +kernel) rfl
theorem s136_3 : Rn 136 3 [some (vR o), l1, l2, l3, l4] st T σ K ↔ Rn 136 4 [some (vR o), l1, l2, l3, l4] (vR o :: st) T σ K := R_aload_n (n := 0) (by decide +kernel) rfl
theorem s136_4 : Rn 136 4 L (vR o :: st) T σ K ↔ sx_kd T o = 4 ∧ Rn 136 7 L (vI (σ o 5) :: st) T σ K := R_getI (idx := 45) (ci := 4) (k := 5) (by decide +kernel) (by decide +kernel) (Or.inl rfl)
theorem s136_7 : Rn 136 7 L (vI b :: vI a :: st) T σ K ↔ (b ≤ a → Rn 136 88 L st T σ K) ∧ (a < b → Rn 136 10 L st T σ K) := R_icmp_ge (off := 81) (by decide +kernel) (by decide)
theorem s136_10 : Rn 136 10 [some (vR o), l1, l2, l3, l4] st T σ K ↔ Rn 136 11 [some (vR o), l1, l2, l3, l4] (vR o :: st) T σ K := R_aload_n (n := 0) (by decide +kernel) rfl
theorem s136_11 : Rn 136 11 L (vR o :: st) T σ K ↔ sx_kd T o = 4 ∧ ∃ t, sx_rf T o 1 = some t ∧ Rn 136 14 L (vR t :: st) T σ K := R_getR (idx := 11) (ci := 4) (k := 1) (by decide +kernel) (by decide +kernel) rfl
theorem s136_14 : Rn 136 14 [l0, l1, some (vI a), l3, l4] st T σ K ↔ Rn 136 15 [l0, l1, some (vI a), l3, l4] (vI a :: st) T σ K := R_iload_n (n := 2) (by decide +kernel) rfl
theorem s136_15 : Rn 136 15 L (vI a :: vR o :: st) T σ K ↔ (sx_kd T o = 20 ∧ 0 ≤ a ∧ a < sx_ln T o) ∧ Rn 136 16 L (vI (σ o a) :: st) T σ K := R_iald (by decide +kernel) (by decide)
theorem s136_16 : Rn 136 16 [l0, l1, l2, l3, l4] (vI a :: st) T σ K ↔ Rn 136 17 [l0, l1, l2, some (vI a), l4] st T σ K := R_istore_n (n := 3) (by decide +kernel) rfl
theorem s136_17 : Rn 136 17 [some (vR o), l1, l2, l3, l4] st T σ K ↔ Rn 136 18 [some (vR o), l1, l2, l3, l4] (vR o :: st) T σ K := R_aload_n (n := 0) (by decide +kernel) rfl
theorem s136_18 : Rn 136 18 L (vR o :: st) T σ K ↔ sx_kd T o = 4 ∧ ∃ t, sx_rf T o 2 = some t ∧ Rn 136 21 L (vR t :: st) T σ K := R_getR (idx := 15) (ci := 4) (k := 2) (by decide +kernel) (by decide +kernel) rfl
theorem s136_21 : Rn 136 21 [l0, l1, some (vI a), l3, l4] st T σ K ↔ Rn 136 22 [l0, l1, some (vI a), l3, l4] (vI a :: st) T σ K := R_iload_n (n := 2) (by decide +kernel) rfl
theorem s136_22 : Rn 136 22 L (vI a :: vR o :: st) T σ K ↔ (sx_kd T o = 20 ∧ 0 ≤ a ∧ a < sx_ln T o) ∧ Rn 136 23 L (vI (σ o a) :: st) T σ K := R_iald (by decide +kernel) (by decide)
theorem s136_23 : Rn 136 23 [l0, l1, l2, l3, l4] (vI a :: st) T σ K ↔ Rn 136 25 [l0, l1, l2, l3, some (vI a)] st T σ K := R_istore (n := 4) (by decide +kernel) rfl
theorem s136_25 : Rn 136 25 [some (vR o), l1, l2, l3, l4] st T σ K ↔ Rn 136 26 [some (vR o), l1, l2, l3, l4] (vR o :: st) T σ K := R_aload_n (n := 0) (by decide +kernel) rfl
theorem s136_26 : Rn 136 26 L (vR o :: st) T σ K ↔ sx_kd T o = 4 ∧ ∃ t, sx_rf T o 0 = some t ∧ Rn 136 29 L (vR t :: st) T σ K := R_getR (idx := 25) (ci := 4) (k := 0) (by decide +kernel) (by decide +kernel) rfl
theorem s136_29 : Rn 136 29 [l0, l1, l2, some (vI a), l4] st T σ K ↔ Rn 136 30 [l0, l1, l2, some (vI a), l4] (vI a :: st) T σ K := R_iload_n (n := 3) (by decide +kernel) rfl
theorem s136_30 : Rn 136 30 L (vI a :: vR o :: st) T σ K ↔ (sx_kd T o = 2 ∧ st.length ≤ 4) ∧ Rn 49 0 [some (vR o), some (vI a)] [] T σ (fun r T' σ' => Rn 136 33 L (sx_push r st) T' σ' K) := R_V (cm := 49) (n := 1) (idx := 39) (ci := 2) (mx := 2) (vs := [vI a]) (by decide +kernel) (by decide +kernel) rfl (by decide +kernel) rfl (by decide +kernel) (by decide +kernel)
theorem s136_33 : Rn 136 33 L (vI a :: st) T σ K ↔ (a = 0 → Rn 136 82 L st T σ K) ∧ (a ≠ 0 → Rn 136 36 L st T σ K) := R_if_eq (off := 49) (by decide +kernel) (by decide)
theorem s136_36 : Rn 136 36 [some (vR o), l1, l2, l3, l4] st T σ K ↔ Rn 136 37 [some (vR o), l1, l2, l3, l4] (vR o :: st) T σ K := R_aload_n (n := 0) (by decide +kernel) rfl
theorem s136_37 : Rn 136 37 L (vR o :: st) T σ K ↔ sx_kd T o = 4 ∧ ∃ t, sx_rf T o 0 = some t ∧ Rn 136 40 L (vR t :: st) T σ K := R_getR (idx := 25) (ci := 4) (k := 0) (by decide +kernel) (by decide +kernel) rfl
theorem s136_40 : Rn 136 40 [l0, l1, l2, l3, some (vI a)] st T σ K ↔ Rn 136 42 [l0, l1, l2, l3, some (vI a)] (vI a :: st) T σ K := R_iload (n := 4) (by decide +kernel) rfl
theorem s136_42 : Rn 136 42 L (vI a :: vR o :: st) T σ K ↔ (sx_kd T o = 2 ∧ st.length ≤ 4) ∧ Rn 49 0 [some (vR o), some (vI a)] [] T σ (fun r T' σ' => Rn 136 45 L (sx_push r st) T' σ' K) := R_V (cm := 49) (n := 1) (idx := 39) (ci := 2) (mx := 2) (vs := [vI a]) (by decide +kernel) (by decide +kernel) rfl (by decide +kernel) rfl (by decide +kernel) (by decide +kernel)
theorem s136_45 : Rn 136 45 L (vI a :: st) T σ K ↔ (a = 0 → Rn 136 82 L st T σ K) ∧ (a ≠ 0 → Rn 136 48 L st T σ K) := R_if_eq (off := 37) (by decide +kernel) (by decide)
theorem s136_48 : Rn 136 48 [l0, some (vI a), l2, l3, l4] st T σ K ↔ Rn 136 49 [l0, some (vI a), l2, l3, l4] (vI a :: st) T σ K := R_iload_n (n := 1) (by decide +kernel) rfl
theorem s136_49 : Rn 136 49 [some (vR o), l1, l2, l3, l4] st T σ K ↔ Rn 136 50 [some (vR o), l1, l2, l3, l4] (vR o :: st) T σ K := R_aload_n (n := 0) (by decide +kernel) rfl
theorem s136_50 : Rn 136 50 L (vR o :: st) T σ K ↔ sx_kd T o = 4 ∧ ∃ t, sx_rf T o 0 = some t ∧ Rn 136 53 L (vR t :: st) T σ K := R_getR (idx := 25) (ci := 4) (k := 0) (by decide +kernel) (by decide +kernel) rfl
theorem s136_53 : Rn 136 53 L (vR o :: st) T σ K ↔ sx_kd T o = 2 ∧ ∃ t, sx_rf T o 0 = some t ∧ Rn 136 56 L (vR t :: st) T σ K := R_getR (idx := 51) (ci := 2) (k := 0) (by decide +kernel) (by decide +kernel) rfl
theorem s136_56 : Rn 136 56 [l0, l1, l2, some (vI a), l4] st T σ K ↔ Rn 136 57 [l0, l1, l2, some (vI a), l4] (vI a :: st) T σ K := R_iload_n (n := 3) (by decide +kernel) rfl
theorem s136_57 : Rn 136 57 L (vI a :: vR o :: st) T σ K ↔ (sx_kd T o = 20 ∧ 0 ≤ a ∧ a < sx_ln T o) ∧ Rn 136 58 L (vI (σ o a) :: st) T σ K := R_iald (by decide +kernel) (by decide)
theorem s136_58 : Rn 136 58 [some (vR o), l1, l2, l3, l4] st T σ K ↔ Rn 136 59 [some (vR o), l1, l2, l3, l4] (vR o :: st) T σ K := R_aload_n (n := 0) (by decide +kernel) rfl
theorem s136_59 : Rn 136 59 L (vR o :: st) T σ K ↔ sx_kd T o = 4 ∧ ∃ t, sx_rf T o 0 = some t ∧ Rn 136 62 L (vR t :: st) T σ K := R_getR (idx := 25) (ci := 4) (k := 0) (by decide +kernel) (by decide +kernel) rfl
theorem s136_62 : Rn 136 62 L (vR o :: st) T σ K ↔ sx_kd T o = 2 ∧ ∃ t, sx_rf T o 0 = some t ∧ Rn 136 65 L (vR t :: st) T σ K := R_getR (idx := 51) (ci := 2) (k := 0) (by decide +kernel) (by decide +kernel) rfl
theorem s136_65 : Rn 136 65 [l0, l1, l2, l3, some (vI a)] st T σ K ↔ Rn 136 67 [l0, l1, l2, l3, some (vI a)] (vI a :: st) T σ K := R_iload (n := 4) (by decide +kernel) rfl
theorem s136_67 : Rn 136 67 L (vI a :: vR o :: st) T σ K ↔ (sx_kd T o = 20 ∧ 0 ≤ a ∧ a < sx_ln T o) ∧ Rn 136 68 L (vI (σ o a) :: st) T σ K := R_iald (by decide +kernel) (by decide)
theorem s136_68 : Rn 136 68 L (vI c :: vI b :: vI a :: st) T σ K ↔ st.length ≤ 4 ∧ Rn 40 0 [some (vI a), some (vI b), some (vI c), none, none, none] [] T σ (fun r T' σ' => Rn 136 71 L (sx_push r st) T' σ' K) := R_S (cm := 40) (n := 3) (idx := 54) (mx := 6) (vs := [vI a, vI b, vI c]) (by decide +kernel) (Or.inl (by decide +kernel)) rfl (by decide +kernel) rfl (by decide +kernel)
theorem s136_71 : Rn 136 71 [some (vR o), l1, l2, l3, l4] st T σ K ↔ Rn 136 72 [some (vR o), l1, l2, l3, l4] (vR o :: st) T σ K := R_aload_n (n := 0) (by decide +kernel) rfl
theorem s136_72 : Rn 136 72 L (vR o :: st) T σ K ↔ sx_kd T o = 4 ∧ ∃ t, sx_rf T o 3 = some t ∧ Rn 136 75 L (vR t :: st) T σ K := R_getR (idx := 18) (ci := 4) (k := 3) (by decide +kernel) (by decide +kernel) rfl
theorem s136_75 : Rn 136 75 [l0, l1, some (vI a), l3, l4] st T σ K ↔ Rn 136 76 [l0, l1, some (vI a), l3, l4] (vI a :: st) T σ K := R_iload_n (n := 2) (by decide +kernel) rfl
theorem s136_76 : Rn 136 76 L (vI a :: vR o :: st) T σ K ↔ (sx_kd T o = 20 ∧ 0 ≤ a ∧ a < sx_ln T o) ∧ Rn 136 77 L (vI (σ o a) :: st) T σ K := R_iald (by decide +kernel) (by decide)
theorem s136_77 : Rn 136 77 L (vI b :: vI a :: st) T σ K ↔ (a = b → Rn 136 82 L st T σ K) ∧ (a ≠ b → Rn 136 80 L st T σ K) := R_icmp_eq (off := 5) (by decide +kernel) (by decide)
theorem s136_80 : Rn 136 80 L st T σ K ↔ Rn 136 81 L (vI 0 :: st) T σ K := R_iconst (n := 0) (by decide +kernel) (by decide)
theorem s136_81 : Rn 136 81 L [vI a] T σ K ↔ (a = 0 ∨ a = 1) ∧ K (some (vI a)) T σ := R_retZ (by decide +kernel) (by decide +kernel)
theorem s136_82 : Rn 136 82 [l0, l1, some (vI a), l3, l4] st T σ K ↔ inI (a + 1) ∧ Rn 136 85 [l0, l1, some (vI (a + 1)), l3, l4] st T σ K := R_iinc (n := 2) (d := 1) (by decide +kernel) rfl
theorem s136_85 : Rn 136 85 L st T σ K ↔ Rn 136 2 L st T σ K := R_goto (off := -83) (by decide +kernel) (by decide)
theorem s136_88 : Rn 136 88 L st T σ K ↔ Rn 136 89 L (vI 1 :: st) T σ K := R_iconst (n := 1) (by decide +kernel) (by decide)
theorem s136_89 : Rn 136 89 L [vI a] T σ K ↔ (a = 0 ∨ a = 1) ∧ K (some (vI a)) T σ := R_retZ (by decide +kernel) (by decide +kernel)
theorem s137_0 : Rn 137 0 [some (vR o), l1, l2, l3] st T σ K ↔ Rn 137 1 [some (vR o), l1, l2, l3] (vR o :: st) T σ K := R_aload_n (n := 0) (by decide +kernel) rfl
theorem s137_1 : Rn 137 1 L (vR o :: st) T σ K ↔ (sx_kd T o = 4 ∧ st.length ≤ 4) ∧ Rn 135 0 [some (vR o), none] [] T σ (fun r T' σ' => Rn 137 4 L (sx_push r st) T' σ' K) := R_V (cm := 135) (n := 0) (idx := 58) (ci := 4) (mx := 2) (vs := []) (by decide +kernel) (by decide +kernel) rfl (by decide +kernel) rfl (by decide +kernel) (by decide +kernel)
theorem s137_4 : Rn 137 4 [l0, some (vI a), l2, l3] st T σ K ↔ Rn 137 5 [l0, some (vI a), l2, l3] (vI a :: st) T σ K := R_iload_n (n := 1) (by decide +kernel) rfl
theorem s137_5 : Rn 137 5 [l0, l1, l2, l3] (vI a :: st) T σ K ↔ Rn 137 6 [l0, l1, some (vI a), l3] st T σ K := R_istore_n (n := 2) (by decide +kernel) rfl
theorem s137_6 : Rn 137 6 L st T σ K ↔ Rn 137 7 L (vI 0 :: st) T σ K := R_iconst (n := 0) (by decide +kernel) (by decide)
theorem s137_7 : Rn 137 7 [l0, l1, l2, l3] (vI a :: st) T σ K ↔ Rn 137 8 [l0, l1, l2, some (vI a)] st T σ K := R_istore_n (n := 3) (by decide +kernel) rfl
theorem s137_8 : Rn 137 8 [l0, l1, l2, some (vI a)] st T σ K ↔ Rn 137 9 [l0, l1, l2, some (vI a)] (vI a :: st) T σ K := R_iload_n (n := 3) (by decide +kernel) rfl
theorem s137_9 : Rn 137 9 L st T σ K ↔ Rn 137 10 L (vI 3 :: st) T σ K := R_iconst (n := 3) (by decide +kernel) (by decide)
theorem s137_10 : Rn 137 10 L (vI b :: vI a :: st) T σ K ↔ (b ≤ a → Rn 137 37 L st T σ K) ∧ (a < b → Rn 137 13 L st T σ K) := R_icmp_ge (off := 27) (by decide +kernel) (by decide)
theorem s137_13 : Rn 137 13 [some (vR o), l1, l2, l3] st T σ K ↔ Rn 137 14 [some (vR o), l1, l2, l3] (vR o :: st) T σ K := R_aload_n (n := 0) (by decide +kernel) rfl
theorem s137_14 : Rn 137 14 L (vR o :: st) T σ K ↔ sx_kd T o = 4 ∧ ∃ t, sx_rf T o 4 = some t ∧ Rn 137 17 L (vR t :: st) T σ K := R_getR (idx := 21) (ci := 4) (k := 4) (by decide +kernel) (by decide +kernel) rfl
theorem s137_17 : Rn 137 17 [l0, l1, l2, some (vI a)] st T σ K ↔ Rn 137 18 [l0, l1, l2, some (vI a)] (vI a :: st) T σ K := R_iload_n (n := 3) (by decide +kernel) rfl
theorem s137_18 : Rn 137 18 L (vI a :: vR o :: st) T σ K ↔ (sx_kd T o = 21 ∧ 0 ≤ a ∧ a < sx_ln T o) ∧ Rn 137 19 L (vI (σ o a) :: st) T σ K := R_zald (by decide +kernel)
theorem s137_19 : Rn 137 19 L (vI a :: st) T σ K ↔ (a = 0 → Rn 137 31 L st T σ K) ∧ (a ≠ 0 → Rn 137 22 L st T σ K) := R_if_eq (off := 12) (by decide +kernel) (by decide)
theorem s137_22 : Rn 137 22 [l0, l1, some (vI a), l3] st T σ K ↔ Rn 137 23 [l0, l1, some (vI a), l3] (vI a :: st) T σ K := R_iload_n (n := 2) (by decide +kernel) rfl
theorem s137_23 : Rn 137 23 L (vI a :: st) T σ K ↔ (a ≠ 0 → Rn 137 28 L st T σ K) ∧ (a = 0 → Rn 137 26 L st T σ K) := R_if_ne (off := 5) (by decide +kernel) (by decide)
theorem s137_26 : Rn 137 26 [l0, l1, l2, some (vI a)] st T σ K ↔ Rn 137 27 [l0, l1, l2, some (vI a)] (vI a :: st) T σ K := R_iload_n (n := 3) (by decide +kernel) rfl
theorem s137_27 : Rn 137 27 L [vI a] T σ K ↔ K (some (vI a)) T σ := R_ret (by decide +kernel) (by decide +kernel)
theorem s137_28 : Rn 137 28 [l0, l1, some (vI a), l3] st T σ K ↔ inI (a + (-1)) ∧ Rn 137 31 [l0, l1, some (vI (a + (-1))), l3] st T σ K := R_iinc (n := 2) (d := -1) (by decide +kernel) rfl
theorem s137_31 : Rn 137 31 [l0, l1, l2, some (vI a)] st T σ K ↔ inI (a + 1) ∧ Rn 137 34 [l0, l1, l2, some (vI (a + 1))] st T σ K := R_iinc (n := 3) (d := 1) (by decide +kernel) rfl
theorem s137_34 : Rn 137 34 L st T σ K ↔ Rn 137 8 L st T σ K := R_goto (off := -26) (by decide +kernel) (by decide)
theorem s137_37 : Rn 137 37 L st T σ K ↔ Rn 137 38 L (vI (-1) :: st) T σ K := R_iconst (n := -1) (by decide +kernel) (by decide)
theorem s137_38 : Rn 137 38 L [vI a] T σ K ↔ K (some (vI a)) T σ := R_ret (by decide +kernel) (by decide +kernel)
theorem s138_0 : Rn 138 0 [some (vR o), l1] st T σ K ↔ Rn 138 1 [some (vR o), l1] (vR o :: st) T σ K := R_aload_n (n := 0) (by decide +kernel) rfl
theorem s138_1 : Rn 138 1 L (vR o :: st) T σ K ↔ sx_kd T o = 8 ∧ ∃ t, sx_rf T o 2 = some t ∧ Rn 138 4 L (vR t :: st) T σ K := R_getR (idx := 28) (ci := 8) (k := 2) (by decide +kernel) (by decide +kernel) rfl
theorem s138_4 : Rn 138 4 L (vR o :: st) T σ K ↔ sx_kd T o = 2 ∧ Rn 138 7 L (vI (σ o 4) :: st) T σ K := R_getI (idx := 107) (ci := 2) (k := 4) (by decide +kernel) (by decide +kernel) (Or.inl rfl)
theorem s138_7 : Rn 138 7 L st T σ K ↔ Rn 138 8 L (vI (-1) :: st) T σ K := R_iconst (n := -1) (by decide +kernel) (by decide)
theorem s138_8 : Rn 138 8 L (vI b :: vI a :: st) T σ K ↔ (a = b → Rn 138 32 L st T σ K) ∧ (a ≠ b → Rn 138 11 L st T σ K) := R_icmp_eq (off := 24) (by decide +kernel) (by decide)
theorem s138_11 : Rn 138 11 [some (vR o), l1] st T σ K ↔ Rn 138 12 [some (vR o), l1] (vR o :: st) T σ K := R_aload_n (n := 0) (by decide +kernel) rfl
theorem s138_12 : Rn 138 12 L (vR o :: st) T σ K ↔ sx_kd T o = 8 ∧ ∃ t, sx_rf T o 2 = some t ∧ Rn 138 15 L (vR t :: st) T σ K := R_getR (idx := 28) (ci := 8) (k := 2) (by decide +kernel) (by decide +kernel) rfl
theorem s138_15 : Rn 138 15 L (vR o :: st) T σ K ↔ sx_kd T o = 2 ∧ Rn 138 18 L (vI (σ o 6) :: st) T σ K := R_getI (idx := 135) (ci := 2) (k := 6) (by decide +kernel) (by decide +kernel) (Or.inl rfl)
theorem s138_18 : Rn 138 18 L st T σ K ↔ Rn 138 19 L (vI 2 :: st) T σ K := R_iconst (n := 2) (by decide +kernel) (by decide)
theorem s138_19 : Rn 138 19 L (vI b :: vI a :: st) T σ K ↔ (a < b → Rn 138 32 L st T σ K) ∧ (b ≤ a → Rn 138 22 L st T σ K) := R_icmp_lt (off := 13) (by decide +kernel) (by decide)
theorem s138_22 : Rn 138 22 [some (vR o), l1] st T σ K ↔ Rn 138 23 [some (vR o), l1] (vR o :: st) T σ K := R_aload_n (n := 0) (by decide +kernel) rfl
theorem s138_23 : Rn 138 23 L (vR o :: st) T σ K ↔ sx_kd T o = 8 ∧ ∃ t, sx_rf T o 8 = some t ∧ Rn 138 26 L (vR t :: st) T σ K := R_getR (idx := 66) (ci := 8) (k := 8) (by decide +kernel) (by decide +kernel) rfl
theorem s138_26 : Rn 138 26 L (vR o :: st) T σ K ↔ (sx_kd T o = 4 ∧ st.length ≤ 4) ∧ Rn 134 0 [some (vR o), none, none] [] T σ (fun r T' σ' => Rn 138 29 L (sx_push r st) T' σ' K) := R_V (cm := 134) (n := 0) (idx := 342) (ci := 4) (mx := 3) (vs := []) (by decide +kernel) (by decide +kernel) rfl (by decide +kernel) rfl (by decide +kernel) (by decide +kernel)
theorem s138_29 : Rn 138 29 L (vI a :: st) T σ K ↔ (a ≠ 0 → Rn 138 34 L st T σ K) ∧ (a = 0 → Rn 138 32 L st T σ K) := R_if_ne (off := 5) (by decide +kernel) (by decide)
theorem s138_32 : Rn 138 32 L st T σ K ↔ Rn 138 33 L (vI (-1) :: st) T σ K := R_iconst (n := -1) (by decide +kernel) (by decide)
theorem s138_33 : Rn 138 33 L [vI a] T σ K ↔ K (some (vI a)) T σ := R_ret (by decide +kernel) (by decide +kernel)
theorem s138_34 : Rn 138 34 [l0, some (vI a)] st T σ K ↔ Rn 138 35 [l0, some (vI a)] (vI a :: st) T σ K := R_iload_n (n := 1) (by decide +kernel) rfl
theorem s138_35 : Rn 138 35 L (vI a :: st) T σ K ↔ (a < 0 → Rn 138 43 L st T σ K) ∧ (0 ≤ a → Rn 138 38 L st T σ K) := R_if_lt (off := 8) (by decide +kernel) (by decide)
theorem s138_38 : Rn 138 38 [l0, some (vI a)] st T σ K ↔ Rn 138 39 [l0, some (vI a)] (vI a :: st) T σ K := R_iload_n (n := 1) (by decide +kernel) rfl
theorem s138_39 : Rn 138 39 L st T σ K ↔ Rn 138 40 L (vI 2 :: st) T σ K := R_iconst (n := 2) (by decide +kernel) (by decide)
theorem s138_40 : Rn 138 40 L (vI b :: vI a :: st) T σ K ↔ (a ≤ b → Rn 138 47 L st T σ K) ∧ (b < a → Rn 138 43 L st T σ K) := R_icmp_le (off := 7) (by decide +kernel) (by decide)
theorem s138_43 : Rn 138 43 L st T σ K ↔ Rn 138 44 L (vI (-1) :: st) T σ K := R_iconst (n := -1) (by decide +kernel) (by decide)
theorem s138_44 : Rn 138 44 L st T σ K ↔ Rn 138 58 L st T σ K := R_goto (off := 14) (by decide +kernel) (by decide)
theorem s138_47 : Rn 138 47 [some (vR o), l1] st T σ K ↔ Rn 138 48 [some (vR o), l1] (vR o :: st) T σ K := R_aload_n (n := 0) (by decide +kernel) rfl
theorem s138_48 : Rn 138 48 L (vR o :: st) T σ K ↔ sx_kd T o = 8 ∧ ∃ t, sx_rf T o 8 = some t ∧ Rn 138 51 L (vR t :: st) T σ K := R_getR (idx := 66) (ci := 8) (k := 8) (by decide +kernel) (by decide +kernel) rfl
theorem s138_51 : Rn 138 51 L (vR o :: st) T σ K ↔ (sx_kd T o = 4 ∧ st.length ≤ 4) ∧ Rn 139 0 [some (vR o), none, none, none, none] [] T σ (fun r T' σ' => Rn 138 54 L (sx_push r st) T' σ' K) := R_V (cm := 139) (n := 0) (idx := 348) (ci := 4) (mx := 5) (vs := []) (by decide +kernel) (by decide +kernel) rfl (by decide +kernel) rfl (by decide +kernel) (by decide +kernel)
theorem s138_54 : Rn 138 54 [l0, some (vI a)] st T σ K ↔ Rn 138 55 [l0, some (vI a)] (vI a :: st) T σ K := R_iload_n (n := 1) (by decide +kernel) rfl
theorem s138_55 : Rn 138 55 L (vI b :: vI a :: st) T σ K ↔ st.length ≤ 4 ∧ Rn 110 0 [some (vI a), some (vI b)] [] T σ (fun r T' σ' => Rn 138 58 L (sx_push r st) T' σ' K) := R_S (cm := 110) (n := 2) (idx := 287) (mx := 2) (vs := [vI a, vI b]) (by decide +kernel) (Or.inl (by decide +kernel)) rfl (by decide +kernel) rfl (by decide +kernel)
theorem s138_58 : Rn 138 58 L [vI a] T σ K ↔ K (some (vI a)) T σ := R_ret (by decide +kernel) (by decide +kernel)
theorem s139_0 : Rn 139 0 [some (vR o), l1, l2, l3, l4] st T σ K ↔ Rn 139 1 [some (vR o), l1, l2, l3, l4] (vR o :: st) T σ K := R_aload_n (n := 0) (by decide +kernel) rfl
theorem s139_1 : Rn 139 1 L (vR o :: st) T σ K ↔ (sx_kd T o = 4 ∧ st.length ≤ 4) ∧ Rn 135 0 [some (vR o), none] [] T σ (fun r T' σ' => Rn 139 4 L (sx_push r st) T' σ' K) := R_V (cm := 135) (n := 0) (idx := 58) (ci := 4) (mx := 2) (vs := []) (by decide +kernel) (by decide +kernel) rfl (by decide +kernel) rfl (by decide +kernel) (by decide +kernel)
theorem s139_4 : Rn 139 4 L st T σ K ↔ Rn 139 5 L (vI (-1) :: st) T σ K := R_iconst (n := -1) (by decide +kernel) (by decide)
theorem s139_5 : Rn 139 5 [l0, l1, l2, l3, l4] (vI a :: st) T σ K ↔ Rn 139 6 [l0, some (vI a), l2, l3, l4] st T σ K := R_istore_n (n := 1) (by decide +kernel) rfl
theorem s139_6 : Rn 139 6 L st T σ K ↔ Rn 139 7 L (vI 0 :: st) T σ K := R_iconst (n := 0) (by decide +kernel) (by decide)
theorem s139_7 : Rn 139 7 [l0, l1, l2, l3, l4] (vI a :: st) T σ K ↔ Rn 139 8 [l0, l1, some (vI a), l3, l4] st T σ K := R_istore_n (n := 2) (by decide +kernel) rfl
theorem s139_8 : Rn 139 8 [l0, l1, some (vI a), l3, l4] st T σ K ↔ Rn 139 9 [l0, l1, some (vI a), l3, l4] (vI a :: st) T σ K := R_iload_n (n := 2) (by decide +kernel) rfl
theorem s139_9 : Rn 139 9 L st T σ K ↔ Rn 139 11 L (vI 40 :: st) T σ K := R_bipush (n := 40) (by decide +kernel) (by decide +kernel)
theorem s139_11 : Rn 139 11 L (vI b :: vI a :: st) T σ K ↔ (b ≤ a → Rn 139 104 L st T σ K) ∧ (a < b → Rn 139 14 L st T σ K) := R_icmp_ge (off := 93) (by decide +kernel) (by decide)
theorem s139_14 : Rn 139 14 [l0, l1, some (vI a), l3, l4] st T σ K ↔ Rn 139 15 [l0, l1, some (vI a), l3, l4] (vI a :: st) T σ K := R_iload_n (n := 2) (by decide +kernel) rfl
theorem s139_15 : Rn 139 15 L st T σ K ↔ Rn 139 16 L (vI 1 :: st) T σ K := R_iconst (n := 1) (by decide +kernel) (by decide)
theorem s139_16 : Rn 139 16 L (vI b :: vI a :: st) T σ K ↔ inI (a + b) ∧ Rn 139 17 L (vI (a + b) :: st) T σ K := R_iadd (by decide +kernel)
theorem s139_17 : Rn 139 17 [l0, l1, l2, l3, l4] (vI a :: st) T σ K ↔ Rn 139 18 [l0, l1, l2, some (vI a), l4] st T σ K := R_istore_n (n := 3) (by decide +kernel) rfl
theorem s139_18 : Rn 139 18 [l0, l1, l2, some (vI a), l4] st T σ K ↔ Rn 139 19 [l0, l1, l2, some (vI a), l4] (vI a :: st) T σ K := R_iload_n (n := 3) (by decide +kernel) rfl
theorem s139_19 : Rn 139 19 L st T σ K ↔ Rn 139 21 L (vI 40 :: st) T σ K := R_bipush (n := 40) (by decide +kernel) (by decide +kernel)
theorem s139_21 : Rn 139 21 L (vI b :: vI a :: st) T σ K ↔ (b ≤ a → Rn 139 98 L st T σ K) ∧ (a < b → Rn 139 24 L st T σ K) := R_icmp_ge (off := 77) (by decide +kernel) (by decide)
theorem s139_24 : Rn 139 24 [some (vR o), l1, l2, l3, l4] st T σ K ↔ Rn 139 25 [some (vR o), l1, l2, l3, l4] (vR o :: st) T σ K := R_aload_n (n := 0) (by decide +kernel) rfl
theorem s139_25 : Rn 139 25 L (vR o :: st) T σ K ↔ sx_kd T o = 4 ∧ ∃ t, sx_rf T o 0 = some t ∧ Rn 139 28 L (vR t :: st) T σ K := R_getR (idx := 25) (ci := 4) (k := 0) (by decide +kernel) (by decide +kernel) rfl
theorem s139_28 : Rn 139 28 [l0, l1, some (vI a), l3, l4] st T σ K ↔ Rn 139 29 [l0, l1, some (vI a), l3, l4] (vI a :: st) T σ K := R_iload_n (n := 2) (by decide +kernel) rfl
theorem s139_29 : Rn 139 29 L (vI a :: vR o :: st) T σ K ↔ (sx_kd T o = 2 ∧ st.length ≤ 4) ∧ Rn 49 0 [some (vR o), some (vI a)] [] T σ (fun r T' σ' => Rn 139 32 L (sx_push r st) T' σ' K) := R_V (cm := 49) (n := 1) (idx := 39) (ci := 2) (mx := 2) (vs := [vI a]) (by decide +kernel) (by decide +kernel) rfl (by decide +kernel) rfl (by decide +kernel) (by decide +kernel)
theorem s139_32 : Rn 139 32 L (vI a :: st) T σ K ↔ (a = 0 → Rn 139 92 L st T σ K) ∧ (a ≠ 0 → Rn 139 35 L st T σ K) := R_if_eq (off := 60) (by decide +kernel) (by decide)
theorem s139_35 : Rn 139 35 [some (vR o), l1, l2, l3, l4] st T σ K ↔ Rn 139 36 [some (vR o), l1, l2, l3, l4] (vR o :: st) T σ K := R_aload_n (n := 0) (by decide +kernel) rfl
theorem s139_36 : Rn 139 36 L (vR o :: st) T σ K ↔ sx_kd T o = 4 ∧ ∃ t, sx_rf T o 0 = some t ∧ Rn 139 39 L (vR t :: st) T σ K := R_getR (idx := 25) (ci := 4) (k := 0) (by decide +kernel) (by decide +kernel) rfl
theorem s139_39 : Rn 139 39 [l0, l1, l2, some (vI a), l4] st T σ K ↔ Rn 139 40 [l0, l1, l2, some (vI a), l4] (vI a :: st) T σ K := R_iload_n (n := 3) (by decide +kernel) rfl
theorem s139_40 : Rn 139 40 L (vI a :: vR o :: st) T σ K ↔ (sx_kd T o = 2 ∧ st.length ≤ 4) ∧ Rn 49 0 [some (vR o), some (vI a)] [] T σ (fun r T' σ' => Rn 139 43 L (sx_push r st) T' σ' K) := R_V (cm := 49) (n := 1) (idx := 39) (ci := 2) (mx := 2) (vs := [vI a]) (by decide +kernel) (by decide +kernel) rfl (by decide +kernel) rfl (by decide +kernel) (by decide +kernel)
theorem s139_43 : Rn 139 43 L (vI a :: st) T σ K ↔ (a = 0 → Rn 139 92 L st T σ K) ∧ (a ≠ 0 → Rn 139 46 L st T σ K) := R_if_eq (off := 49) (by decide +kernel) (by decide)
theorem s139_46 : Rn 139 46 [l0, l1, some (vI a), l3, l4] st T σ K ↔ Rn 139 47 [l0, l1, some (vI a), l3, l4] (vI a :: st) T σ K := R_iload_n (n := 2) (by decide +kernel) rfl
theorem s139_47 : Rn 139 47 [l0, l1, l2, some (vI a), l4] st T σ K ↔ Rn 139 48 [l0, l1, l2, some (vI a), l4] (vI a :: st) T σ K := R_iload_n (n := 3) (by decide +kernel) rfl
theorem s139_48 : Rn 139 48 [some (vR o), l1, l2, l3, l4] st T σ K ↔ Rn 139 49 [some (vR o), l1, l2, l3, l4] (vR o :: st) T σ K := R_aload_n (n := 0) (by decide +kernel) rfl
theorem s139_49 : Rn 139 49 [some (vR o), l1, l2, l3, l4] st T σ K ↔ Rn 139 50 [some (vR o), l1, l2, l3, l4] (vR o :: st) T σ K := R_aload_n (n := 0) (by decide +kernel) rfl
theorem s139_50 : Rn 139 50 L (vR o :: st) T σ K ↔ sx_kd T o = 4 ∧ ∃ t, sx_rf T o 0 = some t ∧ Rn 139 53 L (vR t :: st) T σ K := R_getR (idx := 25) (ci := 4) (k := 0) (by decide +kernel) (by decide +kernel) rfl
theorem s139_53 : Rn 139 53 L (vR o :: st) T σ K ↔ sx_kd T o = 2 ∧ ∃ t, sx_rf T o 0 = some t ∧ Rn 139 56 L (vR t :: st) T σ K := R_getR (idx := 51) (ci := 2) (k := 0) (by decide +kernel) (by decide +kernel) rfl
theorem s139_56 : Rn 139 56 [l0, l1, some (vI a), l3, l4] st T σ K ↔ Rn 139 57 [l0, l1, some (vI a), l3, l4] (vI a :: st) T σ K := R_iload_n (n := 2) (by decide +kernel) rfl
theorem s139_57 : Rn 139 57 L (vI a :: vR o :: st) T σ K ↔ (sx_kd T o = 20 ∧ 0 ≤ a ∧ a < sx_ln T o) ∧ Rn 139 58 L (vI (σ o a) :: st) T σ K := R_iald (by decide +kernel) (by decide)
theorem s139_58 : Rn 139 58 [some (vR o), l1, l2, l3, l4] st T σ K ↔ Rn 139 59 [some (vR o), l1, l2, l3, l4] (vR o :: st) T σ K := R_aload_n (n := 0) (by decide +kernel) rfl
theorem s139_59 : Rn 139 59 L (vR o :: st) T σ K ↔ sx_kd T o = 4 ∧ ∃ t, sx_rf T o 0 = some t ∧ Rn 139 62 L (vR t :: st) T σ K := R_getR (idx := 25) (ci := 4) (k := 0) (by decide +kernel) (by decide +kernel) rfl
theorem s139_62 : Rn 139 62 L (vR o :: st) T σ K ↔ sx_kd T o = 2 ∧ ∃ t, sx_rf T o 0 = some t ∧ Rn 139 65 L (vR t :: st) T σ K := R_getR (idx := 51) (ci := 2) (k := 0) (by decide +kernel) (by decide +kernel) rfl
theorem s139_65 : Rn 139 65 [l0, l1, l2, some (vI a), l4] st T σ K ↔ Rn 139 66 [l0, l1, l2, some (vI a), l4] (vI a :: st) T σ K := R_iload_n (n := 3) (by decide +kernel) rfl
theorem s139_66 : Rn 139 66 L (vI a :: vR o :: st) T σ K ↔ (sx_kd T o = 20 ∧ 0 ≤ a ∧ a < sx_ln T o) ∧ Rn 139 67 L (vI (σ o a) :: st) T σ K := R_iald (by decide +kernel) (by decide)
theorem s139_67 : Rn 139 67 L (vI b :: vI a :: vR o :: st) T σ K ↔ (sx_kd T o = 4 ∧ st.length ≤ 4) ∧ Rn 140 0 [some (vR o), some (vI a), some (vI b), none, none, none, none, none] [] T σ (fun r T' σ' => Rn 139 70 L (sx_push r st) T' σ' K) := R_V (cm := 140) (n := 2) (idx := 61) (ci := 4) (mx := 8) (vs := [vI a, vI b]) (by decide +kernel) (by decide +kernel) rfl (by decide +kernel) rfl (by decide +kernel) (by decide +kernel)
theorem s139_70 : Rn 139 70 L (vI c :: vI b :: vI a :: st) T σ K ↔ st.length ≤ 4 ∧ Rn 108 0 [some (vI a), some (vI b), some (vI c)] [] T σ (fun r T' σ' => Rn 139 73 L (sx_push r st) T' σ' K) := R_S (cm := 108) (n := 3) (idx := 65) (mx := 3) (vs := [vI a, vI b, vI c]) (by decide +kernel) (Or.inl (by decide +kernel)) rfl (by decide +kernel) rfl (by decide +kernel)
theorem s139_73 : Rn 139 73 [l0, l1, l2, l3, l4] (vI a :: st) T σ K ↔ Rn 139 75 [l0, l1, l2, l3, some (vI a)] st T σ K := R_istore (n := 4) (by decide +kernel) rfl
theorem s139_75 : Rn 139 75 [l0, some (vI a), l2, l3, l4] st T σ K ↔ Rn 139 76 [l0, some (vI a), l2, l3, l4] (vI a :: st) T σ K := R_iload_n (n := 1) (by decide +kernel) rfl
theorem s139_76 : Rn 139 76 L st T σ K ↔ Rn 139 77 L (vI (-1) :: st) T σ K := R_iconst (n := -1) (by decide +kernel) (by decide)
theorem s139_77 : Rn 139 77 L (vI b :: vI a :: st) T σ K ↔ (a ≠ b → Rn 139 85 L st T σ K) ∧ (a = b → Rn 139 80 L st T σ K) := R_icmp_ne (off := 8) (by decide +kernel) (by decide)
theorem s139_80 : Rn 139 80 [l0, l1, l2, l3, some (vI a)] st T σ K ↔ Rn 139 82 [l0, l1, l2, l3, some (vI a)] (vI a :: st) T σ K := R_iload (n := 4) (by decide +kernel) rfl
theorem s139_82 : Rn 139 82 L st T σ K ↔ Rn 139 91 L st T σ K := R_goto (off := 9) (by decide +kernel) (by decide)
theorem s139_85 : Rn 139 85 [l0, some (vI a), l2, l3, l4] st T σ K ↔ Rn 139 86 [l0, some (vI a), l2, l3, l4] (vI a :: st) T σ K := R_iload_n (n := 1) (by decide +kernel) rfl
theorem s139_86 : Rn 139 86 [l0, l1, l2, l3, some (vI a)] st T σ K ↔ Rn 139 88 [l0, l1, l2, l3, some (vI a)] (vI a :: st) T σ K := R_iload (n := 4) (by decide +kernel) rfl
theorem s139_88 : Rn 139 88 L (vI b :: vI a :: st) T σ K ↔ st.length ≤ 4 ∧ Rn 139 91 L (vI (min a b) :: st) T σ K := R_min (idx := 70) (by decide +kernel) (by decide +kernel) (by decide +kernel) (by decide +kernel)
theorem s139_91 : Rn 139 91 [l0, l1, l2, l3, l4] (vI a :: st) T σ K ↔ Rn 139 92 [l0, some (vI a), l2, l3, l4] st T σ K := R_istore_n (n := 1) (by decide +kernel) rfl
theorem s139_92 : Rn 139 92 [l0, l1, l2, some (vI a), l4] st T σ K ↔ inI (a + 1) ∧ Rn 139 95 [l0, l1, l2, some (vI (a + 1)), l4] st T σ K := R_iinc (n := 3) (d := 1) (by decide +kernel) rfl
theorem s139_95 : Rn 139 95 L st T σ K ↔ Rn 139 18 L st T σ K := R_goto (off := -77) (by decide +kernel) (by decide)
theorem s139_98 : Rn 139 98 [l0, l1, some (vI a), l3, l4] st T σ K ↔ inI (a + 1) ∧ Rn 139 101 [l0, l1, some (vI (a + 1)), l3, l4] st T σ K := R_iinc (n := 2) (d := 1) (by decide +kernel) rfl
theorem s139_101 : Rn 139 101 L st T σ K ↔ Rn 139 8 L st T σ K := R_goto (off := -93) (by decide +kernel) (by decide)
theorem s139_104 : Rn 139 104 [l0, some (vI a), l2, l3, l4] st T σ K ↔ Rn 139 105 [l0, some (vI a), l2, l3, l4] (vI a :: st) T σ K := R_iload_n (n := 1) (by decide +kernel) rfl
theorem s139_105 : Rn 139 105 L [vI a] T σ K ↔ K (some (vI a)) T σ := R_ret (by decide +kernel) (by decide +kernel)
end ST3
