section ST9
variable {L : sxL} {st : List sxV} {T : sxT} {σ : sxS} {K : Option sxV → sxT → sxS → Prop} {a b c d e f g : Int} {o p q r1 r2 : Nat} {l0 l1 l2 l3 l4 l5 l6 l7 l8 l9 l10 l11 : Option sxV}
theorem s0_0 : Rn 0 0 L st T σ K ↔ T.length < 1000000 ∧ Rn 0 3 L (vR T.length :: st) (T ++ [(8, 12, List.replicate 12 none)]) σ K := R_new (idx := 7) (ci := 8) (N := 12) (by decide +kernel) (by decide +kernel) rfl rfl
theorem s0_3 : Rn 0 3 L (vR o :: st) T σ K ↔ Rn 0 4 L (vR o :: vR o :: st) T σ K := R_dup (v := vR o) (by decide +kernel) rfl
theorem s0_4 : Rn 0 4 L (vR o :: st) T σ K ↔ st.length ≤ 4 ∧ Rn 1 0 [some (vR o)] [] T σ (fun r T' σ' => Rn 0 7 L (sx_push r st) T' σ' K) := R_I (cm := 1) (n := 0) (idx := 9) (mx := 1) (vs := []) (by decide +kernel) (Or.inl (by decide +kernel)) rfl (by decide +kernel) rfl (by decide +kernel)
theorem s0_7 : Rn 0 7 [l0, l1, l2, l3] (vR o :: st) T σ K ↔ Rn 0 8 [l0, some (vR o), l2, l3] st T σ K := R_astore_n (n := 1) (by decide +kernel) rfl
theorem s0_8 : Rn 0 8 L st T σ K ↔ T.length < 1000000 ∧ Rn 0 11 L (vR T.length :: st) (T ++ [(9, 42, List.replicate 42 none)]) σ K := R_new (idx := 10) (ci := 9) (N := 42) (by decide +kernel) (by decide +kernel) rfl rfl
theorem s0_11 : Rn 0 11 L (vR o :: st) T σ K ↔ Rn 0 12 L (vR o :: vR o :: st) T σ K := R_dup (v := vR o) (by decide +kernel) rfl
theorem s0_12 : Rn 0 12 L (vR o :: st) T σ K ↔ st.length ≤ 4 ∧ Rn 167 0 [some (vR o)] [] T σ (fun r T' σ' => Rn 0 15 L (sx_push r st) T' σ' K) := R_I (cm := 167) (n := 0) (idx := 12) (mx := 1) (vs := []) (by decide +kernel) (Or.inl (by decide +kernel)) rfl (by decide +kernel) rfl (by decide +kernel)
theorem s0_15 : Rn 0 15 [l0, l1, l2, l3] (vR o :: st) T σ K ↔ Rn 0 16 [l0, l1, some (vR o), l3] st T σ K := R_astore_n (n := 2) (by decide +kernel) rfl
theorem s0_16 : Rn 0 16 L st T σ K ↔ Rn 0 17 L (vI 0 :: st) T σ K := R_iconst (n := 0) (by decide +kernel) (by decide)
theorem s0_17 : Rn 0 17 [l0, l1, l2, l3] (vI a :: st) T σ K ↔ Rn 0 18 [l0, l1, l2, some (vI a)] st T σ K := R_istore_n (n := 3) (by decide +kernel) rfl
theorem s0_18 : Rn 0 18 [l0, l1, l2, some (vI a)] st T σ K ↔ Rn 0 19 [l0, l1, l2, some (vI a)] (vI a :: st) T σ K := R_iload_n (n := 3) (by decide +kernel) rfl
theorem s0_19 : Rn 0 19 [some (vR o), l1, l2, l3] st T σ K ↔ Rn 0 20 [some (vR o), l1, l2, l3] (vR o :: st) T σ K := R_aload_n (n := 0) (by decide +kernel) rfl
theorem s0_20 : Rn 0 20 L (vR o :: st) T σ K ↔ (sx_kd T o = 20 ∨ sx_kd T o = 21 ∨ (sx_kd T o = 23 ∧ o = 0)) ∧ Rn 0 21 L (vI (sx_ln T o) :: st) T σ K := R_alen0 (by decide +kernel)
theorem s0_21 : Rn 0 21 L st T σ K ↔ Rn 0 23 L (vI 6 :: st) T σ K := R_bipush (n := 6) (by decide +kernel) (by decide +kernel)
theorem s0_23 : Rn 0 23 L (vI b :: vI a :: st) T σ K ↔ inI (a - b) ∧ Rn 0 24 L (vI (a - b) :: st) T σ K := R_isub (by decide +kernel)
theorem s0_24 : Rn 0 24 L (vI b :: vI a :: st) T σ K ↔ (b < a → Rn 0 1663 L st T σ K) ∧ (a ≤ b → Rn 0 27 L st T σ K) := R_icmp_gt (off := 1639) (by decide +kernel) (by decide)
theorem s0_27 : Rn 0 27 [some (vR o), l1, l2, l3] st T σ K ↔ Rn 0 28 [some (vR o), l1, l2, l3] (vR o :: st) T σ K := R_aload_n (n := 0) (by decide +kernel) rfl
theorem s0_28 : Rn 0 28 [l0, l1, l2, some (vI a)] st T σ K ↔ Rn 0 29 [l0, l1, l2, some (vI a)] (vI a :: st) T σ K := R_iload_n (n := 3) (by decide +kernel) rfl
theorem s0_29 : Rn 0 29 L (vI a :: vR o :: st) T σ K ↔ ((sx_kd T o = 20 ∨ (sx_kd T o = 23 ∧ o = 0)) ∧ 0 ≤ a ∧ a < sx_ln T o) ∧ Rn 0 30 L (vI (σ o a) :: st) T σ K := R_iald0 (by decide +kernel)
theorem s0_30 : Rn 0 30 L st T σ K ↔ Rn 0 32 L (vI 63 :: st) T σ K := R_bipush (n := 63) (by decide +kernel) (by decide +kernel)
theorem s0_32 : Rn 0 32 L (vI b :: vI a :: st) T σ K ↔ Rn 0 33 L (vI (sx_and a b) :: st) T σ K := R_iand (by decide +kernel)
theorem s0_33 : Rn 0 33 L (vI a :: st) T σ K ↔ sx_sw [(0, 236), (1, 299), (2, 322), (3, 335), (4, 358), (5, 381), (6, 414), (7, 427), (8, 460), (9, 503), (10, 536), (11, 569), (12, 602), (13, 635), (14, 668), (15, 691), (16, 734), (17, 757), (18, 790), (19, 843), (20, 896), (21, 949), (22, 1002), (23, 1035), (24, 1068), (25, 1091), (26, 1114), (27, 1147), (28, 1180), (29, 1203), (30, 1256), (31, 1289), (32, 1312), (33, 1325), (34, 1348), (35, 1371), (36, 1414), (37, 1437), (38, 1490), (39, 1513), (40, 1526), (41, 1549), (42, 1562), (43, 1585), (44, 1598), (45, 1621), (46, 1634)] 1657 a (fun t => Rn 0 t L st T σ K) := R_table (d := 1624) (lo := 0) (hi := 46) (offs := #[203, 266, 289, 302, 325, 348, 381, 394, 427, 470, 503, 536, 569, 602, 635, 658, 701, 724, 757, 810, 863, 916, 969, 1002, 1035, 1058, 1081, 1114, 1147, 1170, 1223, 1256, 1279, 1292, 1315, 1338, 1381, 1404, 1457, 1480, 1493, 1516, 1529, 1552, 1565, 1588, 1601]) (len := 203) (by decide +kernel) (by decide +kernel)
theorem s0_236 : Rn 0 236 [l0, some (vR o), l2, l3] st T σ K ↔ Rn 0 237 [l0, some (vR o), l2, l3] (vR o :: st) T σ K := R_aload_n (n := 1) (by decide +kernel) rfl
theorem s0_237 : Rn 0 237 [some (vR o), l1, l2, l3] st T σ K ↔ Rn 0 238 [some (vR o), l1, l2, l3] (vR o :: st) T σ K := R_aload_n (n := 0) (by decide +kernel) rfl
theorem s0_238 : Rn 0 238 [l0, l1, l2, some (vI a)] st T σ K ↔ Rn 0 239 [l0, l1, l2, some (vI a)] (vI a :: st) T σ K := R_iload_n (n := 3) (by decide +kernel) rfl
theorem s0_239 : Rn 0 239 L st T σ K ↔ Rn 0 240 L (vI 1 :: st) T σ K := R_iconst (n := 1) (by decide +kernel) (by decide)
theorem s0_240 : Rn 0 240 L (vI b :: vI a :: st) T σ K ↔ inI (a + b) ∧ Rn 0 241 L (vI (a + b) :: st) T σ K := R_iadd (by decide +kernel)
theorem s0_241 : Rn 0 241 L (vI a :: vR o :: st) T σ K ↔ ((sx_kd T o = 20 ∨ (sx_kd T o = 23 ∧ o = 0)) ∧ 0 ≤ a ∧ a < sx_ln T o) ∧ Rn 0 242 L (vI (σ o a) :: st) T σ K := R_iald0 (by decide +kernel)
theorem s0_242 : Rn 0 242 [some (vR o), l1, l2, l3] st T σ K ↔ Rn 0 243 [some (vR o), l1, l2, l3] (vR o :: st) T σ K := R_aload_n (n := 0) (by decide +kernel) rfl
theorem s0_243 : Rn 0 243 [l0, l1, l2, some (vI a)] st T σ K ↔ Rn 0 244 [l0, l1, l2, some (vI a)] (vI a :: st) T σ K := R_iload_n (n := 3) (by decide +kernel) rfl
theorem s0_244 : Rn 0 244 L st T σ K ↔ Rn 0 245 L (vI 2 :: st) T σ K := R_iconst (n := 2) (by decide +kernel) (by decide)
theorem s0_245 : Rn 0 245 L (vI b :: vI a :: st) T σ K ↔ inI (a + b) ∧ Rn 0 246 L (vI (a + b) :: st) T σ K := R_iadd (by decide +kernel)
theorem s0_246 : Rn 0 246 L (vI a :: vR o :: st) T σ K ↔ ((sx_kd T o = 20 ∨ (sx_kd T o = 23 ∧ o = 0)) ∧ 0 ≤ a ∧ a < sx_ln T o) ∧ Rn 0 247 L (vI (σ o a) :: st) T σ K := R_iald0 (by decide +kernel)
theorem s0_247 : Rn 0 247 [some (vR o), l1, l2, l3] st T σ K ↔ Rn 0 248 [some (vR o), l1, l2, l3] (vR o :: st) T σ K := R_aload_n (n := 0) (by decide +kernel) rfl
theorem s0_248 : Rn 0 248 [l0, l1, l2, some (vI a)] st T σ K ↔ Rn 0 249 [l0, l1, l2, some (vI a)] (vI a :: st) T σ K := R_iload_n (n := 3) (by decide +kernel) rfl
theorem s0_249 : Rn 0 249 L st T σ K ↔ Rn 0 250 L (vI 3 :: st) T σ K := R_iconst (n := 3) (by decide +kernel) (by decide)
theorem s0_250 : Rn 0 250 L (vI b :: vI a :: st) T σ K ↔ inI (a + b) ∧ Rn 0 251 L (vI (a + b) :: st) T σ K := R_iadd (by decide +kernel)
theorem s0_251 : Rn 0 251 L (vI a :: vR o :: st) T σ K ↔ ((sx_kd T o = 20 ∨ (sx_kd T o = 23 ∧ o = 0)) ∧ 0 ≤ a ∧ a < sx_ln T o) ∧ Rn 0 252 L (vI (σ o a) :: st) T σ K := R_iald0 (by decide +kernel)
theorem s0_252 : Rn 0 252 [some (vR o), l1, l2, l3] st T σ K ↔ Rn 0 253 [some (vR o), l1, l2, l3] (vR o :: st) T σ K := R_aload_n (n := 0) (by decide +kernel) rfl
theorem s0_253 : Rn 0 253 [l0, l1, l2, some (vI a)] st T σ K ↔ Rn 0 254 [l0, l1, l2, some (vI a)] (vI a :: st) T σ K := R_iload_n (n := 3) (by decide +kernel) rfl
theorem s0_254 : Rn 0 254 L st T σ K ↔ Rn 0 255 L (vI 4 :: st) T σ K := R_iconst (n := 4) (by decide +kernel) (by decide)
theorem s0_255 : Rn 0 255 L (vI b :: vI a :: st) T σ K ↔ inI (a + b) ∧ Rn 0 256 L (vI (a + b) :: st) T σ K := R_iadd (by decide +kernel)
theorem s0_256 : Rn 0 256 L (vI a :: vR o :: st) T σ K ↔ ((sx_kd T o = 20 ∨ (sx_kd T o = 23 ∧ o = 0)) ∧ 0 ≤ a ∧ a < sx_ln T o) ∧ Rn 0 257 L (vI (σ o a) :: st) T σ K := R_iald0 (by decide +kernel)
theorem s0_257 : Rn 0 257 [some (vR o), l1, l2, l3] st T σ K ↔ Rn 0 258 [some (vR o), l1, l2, l3] (vR o :: st) T σ K := R_aload_n (n := 0) (by decide +kernel) rfl
theorem s0_258 : Rn 0 258 [l0, l1, l2, some (vI a)] st T σ K ↔ Rn 0 259 [l0, l1, l2, some (vI a)] (vI a :: st) T σ K := R_iload_n (n := 3) (by decide +kernel) rfl
theorem s0_259 : Rn 0 259 L st T σ K ↔ Rn 0 260 L (vI 5 :: st) T σ K := R_iconst (n := 5) (by decide +kernel) (by decide)
theorem s0_260 : Rn 0 260 L (vI b :: vI a :: st) T σ K ↔ inI (a + b) ∧ Rn 0 261 L (vI (a + b) :: st) T σ K := R_iadd (by decide +kernel)
theorem s0_261 : Rn 0 261 L (vI a :: vR o :: st) T σ K ↔ ((sx_kd T o = 20 ∨ (sx_kd T o = 23 ∧ o = 0)) ∧ 0 ≤ a ∧ a < sx_ln T o) ∧ Rn 0 262 L (vI (σ o a) :: st) T σ K := R_iald0 (by decide +kernel)
theorem s0_262 : Rn 0 262 L (vI e :: vI d :: vI c :: vI b :: vI a :: vR o :: st) T σ K ↔ (sx_kd T o = 8 ∧ st.length ≤ 4) ∧ Rn 11 0 [some (vR o), some (vI a), some (vI b), some (vI c), some (vI d), some (vI e)] [] T σ (fun r T' σ' => Rn 0 265 L (sx_push r st) T' σ' K) := R_V (cm := 11) (n := 5) (idx := 13) (ci := 8) (mx := 6) (vs := [vI a, vI b, vI c, vI d, vI e]) (by decide +kernel) (by decide +kernel) rfl (by decide +kernel) rfl (by decide +kernel) (by decide +kernel)
theorem s0_265 : Rn 0 265 [l0, l1, some (vR o), l3] st T σ K ↔ Rn 0 266 [l0, l1, some (vR o), l3] (vR o :: st) T σ K := R_aload_n (n := 2) (by decide +kernel) rfl
theorem s0_266 : Rn 0 266 [some (vR o), l1, l2, l3] st T σ K ↔ Rn 0 267 [some (vR o), l1, l2, l3] (vR o :: st) T σ K := R_aload_n (n := 0) (by decide +kernel) rfl
theorem s0_267 : Rn 0 267 [l0, l1, l2, some (vI a)] st T σ K ↔ Rn 0 268 [l0, l1, l2, some (vI a)] (vI a :: st) T σ K := R_iload_n (n := 3) (by decide +kernel) rfl
theorem s0_268 : Rn 0 268 L st T σ K ↔ Rn 0 269 L (vI 1 :: st) T σ K := R_iconst (n := 1) (by decide +kernel) (by decide)
theorem s0_269 : Rn 0 269 L (vI b :: vI a :: st) T σ K ↔ inI (a + b) ∧ Rn 0 270 L (vI (a + b) :: st) T σ K := R_iadd (by decide +kernel)
theorem s0_270 : Rn 0 270 L (vI a :: vR o :: st) T σ K ↔ ((sx_kd T o = 20 ∨ (sx_kd T o = 23 ∧ o = 0)) ∧ 0 ≤ a ∧ a < sx_ln T o) ∧ Rn 0 271 L (vI (σ o a) :: st) T σ K := R_iald0 (by decide +kernel)
theorem s0_271 : Rn 0 271 [some (vR o), l1, l2, l3] st T σ K ↔ Rn 0 272 [some (vR o), l1, l2, l3] (vR o :: st) T σ K := R_aload_n (n := 0) (by decide +kernel) rfl
theorem s0_272 : Rn 0 272 [l0, l1, l2, some (vI a)] st T σ K ↔ Rn 0 273 [l0, l1, l2, some (vI a)] (vI a :: st) T σ K := R_iload_n (n := 3) (by decide +kernel) rfl
theorem s0_273 : Rn 0 273 L st T σ K ↔ Rn 0 274 L (vI 2 :: st) T σ K := R_iconst (n := 2) (by decide +kernel) (by decide)
theorem s0_274 : Rn 0 274 L (vI b :: vI a :: st) T σ K ↔ inI (a + b) ∧ Rn 0 275 L (vI (a + b) :: st) T σ K := R_iadd (by decide +kernel)
theorem s0_275 : Rn 0 275 L (vI a :: vR o :: st) T σ K ↔ ((sx_kd T o = 20 ∨ (sx_kd T o = 23 ∧ o = 0)) ∧ 0 ≤ a ∧ a < sx_ln T o) ∧ Rn 0 276 L (vI (σ o a) :: st) T σ K := R_iald0 (by decide +kernel)
theorem s0_276 : Rn 0 276 [some (vR o), l1, l2, l3] st T σ K ↔ Rn 0 277 [some (vR o), l1, l2, l3] (vR o :: st) T σ K := R_aload_n (n := 0) (by decide +kernel) rfl
theorem s0_277 : Rn 0 277 [l0, l1, l2, some (vI a)] st T σ K ↔ Rn 0 278 [l0, l1, l2, some (vI a)] (vI a :: st) T σ K := R_iload_n (n := 3) (by decide +kernel) rfl
theorem s0_278 : Rn 0 278 L st T σ K ↔ Rn 0 279 L (vI 3 :: st) T σ K := R_iconst (n := 3) (by decide +kernel) (by decide)
theorem s0_279 : Rn 0 279 L (vI b :: vI a :: st) T σ K ↔ inI (a + b) ∧ Rn 0 280 L (vI (a + b) :: st) T σ K := R_iadd (by decide +kernel)
theorem s0_280 : Rn 0 280 L (vI a :: vR o :: st) T σ K ↔ ((sx_kd T o = 20 ∨ (sx_kd T o = 23 ∧ o = 0)) ∧ 0 ≤ a ∧ a < sx_ln T o) ∧ Rn 0 281 L (vI (σ o a) :: st) T σ K := R_iald0 (by decide +kernel)
theorem s0_281 : Rn 0 281 [some (vR o), l1, l2, l3] st T σ K ↔ Rn 0 282 [some (vR o), l1, l2, l3] (vR o :: st) T σ K := R_aload_n (n := 0) (by decide +kernel) rfl
theorem s0_282 : Rn 0 282 [l0, l1, l2, some (vI a)] st T σ K ↔ Rn 0 283 [l0, l1, l2, some (vI a)] (vI a :: st) T σ K := R_iload_n (n := 3) (by decide +kernel) rfl
theorem s0_283 : Rn 0 283 L st T σ K ↔ Rn 0 284 L (vI 4 :: st) T σ K := R_iconst (n := 4) (by decide +kernel) (by decide)
theorem s0_284 : Rn 0 284 L (vI b :: vI a :: st) T σ K ↔ inI (a + b) ∧ Rn 0 285 L (vI (a + b) :: st) T σ K := R_iadd (by decide +kernel)
theorem s0_285 : Rn 0 285 L (vI a :: vR o :: st) T σ K ↔ ((sx_kd T o = 20 ∨ (sx_kd T o = 23 ∧ o = 0)) ∧ 0 ≤ a ∧ a < sx_ln T o) ∧ Rn 0 286 L (vI (σ o a) :: st) T σ K := R_iald0 (by decide +kernel)
theorem s0_286 : Rn 0 286 [some (vR o), l1, l2, l3] st T σ K ↔ Rn 0 287 [some (vR o), l1, l2, l3] (vR o :: st) T σ K := R_aload_n (n := 0) (by decide +kernel) rfl
theorem s0_287 : Rn 0 287 [l0, l1, l2, some (vI a)] st T σ K ↔ Rn 0 288 [l0, l1, l2, some (vI a)] (vI a :: st) T σ K := R_iload_n (n := 3) (by decide +kernel) rfl
theorem s0_288 : Rn 0 288 L st T σ K ↔ Rn 0 289 L (vI 5 :: st) T σ K := R_iconst (n := 5) (by decide +kernel) (by decide)
theorem s0_289 : Rn 0 289 L (vI b :: vI a :: st) T σ K ↔ inI (a + b) ∧ Rn 0 290 L (vI (a + b) :: st) T σ K := R_iadd (by decide +kernel)
theorem s0_290 : Rn 0 290 L (vI a :: vR o :: st) T σ K ↔ ((sx_kd T o = 20 ∨ (sx_kd T o = 23 ∧ o = 0)) ∧ 0 ≤ a ∧ a < sx_ln T o) ∧ Rn 0 291 L (vI (σ o a) :: st) T σ K := R_iald0 (by decide +kernel)
theorem s0_291 : Rn 0 291 L (vI e :: vI d :: vI c :: vI b :: vI a :: vR o :: st) T σ K ↔ (sx_kd T o = 9 ∧ st.length ≤ 4) ∧ Rn 168 0 [some (vR o), some (vI a), some (vI b), some (vI c), some (vI d), some (vI e)] [] T σ (fun r T' σ' => Rn 0 294 L (sx_push r st) T' σ' K) := R_V (cm := 168) (n := 5) (idx := 17) (ci := 9) (mx := 6) (vs := [vI a, vI b, vI c, vI d, vI e]) (by decide +kernel) (by decide +kernel) rfl (by decide +kernel) rfl (by decide +kernel) (by decide +kernel)
theorem s0_294 : Rn 0 294 L (vI b :: vI a :: st) T σ K ↔ (a = b → Rn 0 1657 L st T σ K) ∧ (a ≠ b → Rn 0 297 L st T σ K) := R_icmp_eq (off := 1363) (by decide +kernel) (by decide)
theorem s0_297 : Rn 0 297 L st T σ K ↔ Rn 0 298 L (vI 0 :: st) T σ K := R_iconst (n := 0) (by decide +kernel) (by decide)
theorem s0_298 : Rn 0 298 L [vI a] T σ K ↔ (a = 0 ∨ a = 1) ∧ K (some (vI a)) T σ := R_retZ (by decide +kernel) (by decide +kernel)
theorem s0_299 : Rn 0 299 [l0, some (vR o), l2, l3] st T σ K ↔ Rn 0 300 [l0, some (vR o), l2, l3] (vR o :: st) T σ K := R_aload_n (n := 1) (by decide +kernel) rfl
theorem s0_300 : Rn 0 300 [some (vR o), l1, l2, l3] st T σ K ↔ Rn 0 301 [some (vR o), l1, l2, l3] (vR o :: st) T σ K := R_aload_n (n := 0) (by decide +kernel) rfl
theorem s0_301 : Rn 0 301 [l0, l1, l2, some (vI a)] st T σ K ↔ Rn 0 302 [l0, l1, l2, some (vI a)] (vI a :: st) T σ K := R_iload_n (n := 3) (by decide +kernel) rfl
theorem s0_302 : Rn 0 302 L st T σ K ↔ Rn 0 303 L (vI 1 :: st) T σ K := R_iconst (n := 1) (by decide +kernel) (by decide)
theorem s0_303 : Rn 0 303 L (vI b :: vI a :: st) T σ K ↔ inI (a + b) ∧ Rn 0 304 L (vI (a + b) :: st) T σ K := R_iadd (by decide +kernel)
theorem s0_304 : Rn 0 304 L (vI a :: vR o :: st) T σ K ↔ ((sx_kd T o = 20 ∨ (sx_kd T o = 23 ∧ o = 0)) ∧ 0 ≤ a ∧ a < sx_ln T o) ∧ Rn 0 305 L (vI (σ o a) :: st) T σ K := R_iald0 (by decide +kernel)
theorem s0_305 : Rn 0 305 L (vI a :: vR o :: st) T σ K ↔ (sx_kd T o = 8 ∧ st.length ≤ 4) ∧ Rn 14 0 [some (vR o), some (vI a)] [] T σ (fun r T' σ' => Rn 0 308 L (sx_push r st) T' σ' K) := R_V (cm := 14) (n := 1) (idx := 18) (ci := 8) (mx := 2) (vs := [vI a]) (by decide +kernel) (by decide +kernel) rfl (by decide +kernel) rfl (by decide +kernel) (by decide +kernel)
theorem s0_308 : Rn 0 308 [l0, l1, some (vR o), l3] st T σ K ↔ Rn 0 309 [l0, l1, some (vR o), l3] (vR o :: st) T σ K := R_aload_n (n := 2) (by decide +kernel) rfl
theorem s0_309 : Rn 0 309 [some (vR o), l1, l2, l3] st T σ K ↔ Rn 0 310 [some (vR o), l1, l2, l3] (vR o :: st) T σ K := R_aload_n (n := 0) (by decide +kernel) rfl
theorem s0_310 : Rn 0 310 [l0, l1, l2, some (vI a)] st T σ K ↔ Rn 0 311 [l0, l1, l2, some (vI a)] (vI a :: st) T σ K := R_iload_n (n := 3) (by decide +kernel) rfl
theorem s0_311 : Rn 0 311 L st T σ K ↔ Rn 0 312 L (vI 1 :: st) T σ K := R_iconst (n := 1) (by decide +kernel) (by decide)
theorem s0_312 : Rn 0 312 L (vI b :: vI a :: st) T σ K ↔ inI (a + b) ∧ Rn 0 313 L (vI (a + b) :: st) T σ K := R_iadd (by decide +kernel)
theorem s0_313 : Rn 0 313 L (vI a :: vR o :: st) T σ K ↔ ((sx_kd T o = 20 ∨ (sx_kd T o = 23 ∧ o = 0)) ∧ 0 ≤ a ∧ a < sx_ln T o) ∧ Rn 0 314 L (vI (σ o a) :: st) T σ K := R_iald0 (by decide +kernel)
theorem s0_314 : Rn 0 314 L (vI a :: vR o :: st) T σ K ↔ (sx_kd T o = 9 ∧ st.length ≤ 4) ∧ Rn 171 0 [some (vR o), some (vI a)] [] T σ (fun r T' σ' => Rn 0 317 L (sx_push r st) T' σ' K) := R_V (cm := 171) (n := 1) (idx := 22) (ci := 9) (mx := 2) (vs := [vI a]) (by decide +kernel) (by decide +kernel) rfl (by decide +kernel) rfl (by decide +kernel) (by decide +kernel)
theorem s0_317 : Rn 0 317 L (vI b :: vI a :: st) T σ K ↔ (a = b → Rn 0 1657 L st T σ K) ∧ (a ≠ b → Rn 0 320 L st T σ K) := R_icmp_eq (off := 1340) (by decide +kernel) (by decide)
theorem s0_320 : Rn 0 320 L st T σ K ↔ Rn 0 321 L (vI 0 :: st) T σ K := R_iconst (n := 0) (by decide +kernel) (by decide)
theorem s0_321 : Rn 0 321 L [vI a] T σ K ↔ (a = 0 ∨ a = 1) ∧ K (some (vI a)) T σ := R_retZ (by decide +kernel) (by decide +kernel)
theorem s0_322 : Rn 0 322 [l0, some (vR o), l2, l3] st T σ K ↔ Rn 0 323 [l0, some (vR o), l2, l3] (vR o :: st) T σ K := R_aload_n (n := 1) (by decide +kernel) rfl
theorem s0_323 : Rn 0 323 L (vR o :: st) T σ K ↔ (sx_kd T o = 8 ∧ st.length ≤ 4) ∧ Rn 15 0 [some (vR o), none, none] [] T σ (fun r T' σ' => Rn 0 326 L (sx_push r st) T' σ' K) := R_V (cm := 15) (n := 0) (idx := 23) (ci := 8) (mx := 3) (vs := []) (by decide +kernel) (by decide +kernel) rfl (by decide +kernel) rfl (by decide +kernel) (by decide +kernel)
theorem s0_326 : Rn 0 326 [l0, l1, some (vR o), l3] st T σ K ↔ Rn 0 327 [l0, l1, some (vR o), l3] (vR o :: st) T σ K := R_aload_n (n := 2) (by decide +kernel) rfl
theorem s0_327 : Rn 0 327 L (vR o :: st) T σ K ↔ (sx_kd T o = 9 ∧ st.length ≤ 4) ∧ Rn 173 0 [some (vR o), none, none, none] [] T σ (fun r T' σ' => Rn 0 330 L (sx_push r st) T' σ' K) := R_V (cm := 173) (n := 0) (idx := 27) (ci := 9) (mx := 4) (vs := []) (by decide +kernel) (by decide +kernel) rfl (by decide +kernel) rfl (by decide +kernel) (by decide +kernel)
theorem s0_330 : Rn 0 330 L (vI b :: vI a :: st) T σ K ↔ (a = b → Rn 0 1657 L st T σ K) ∧ (a ≠ b → Rn 0 333 L st T σ K) := R_icmp_eq (off := 1327) (by decide +kernel) (by decide)
theorem s0_333 : Rn 0 333 L st T σ K ↔ Rn 0 334 L (vI 0 :: st) T σ K := R_iconst (n := 0) (by decide +kernel) (by decide)
theorem s0_334 : Rn 0 334 L [vI a] T σ K ↔ (a = 0 ∨ a = 1) ∧ K (some (vI a)) T σ := R_retZ (by decide +kernel) (by decide +kernel)
theorem s0_335 : Rn 0 335 [l0, some (vR o), l2, l3] st T σ K ↔ Rn 0 336 [l0, some (vR o), l2, l3] (vR o :: st) T σ K := R_aload_n (n := 1) (by decide +kernel) rfl
theorem s0_336 : Rn 0 336 [some (vR o), l1, l2, l3] st T σ K ↔ Rn 0 337 [some (vR o), l1, l2, l3] (vR o :: st) T σ K := R_aload_n (n := 0) (by decide +kernel) rfl
theorem s0_337 : Rn 0 337 [l0, l1, l2, some (vI a)] st T σ K ↔ Rn 0 338 [l0, l1, l2, some (vI a)] (vI a :: st) T σ K := R_iload_n (n := 3) (by decide +kernel) rfl
theorem s0_338 : Rn 0 338 L st T σ K ↔ Rn 0 339 L (vI 1 :: st) T σ K := R_iconst (n := 1) (by decide +kernel) (by decide)
theorem s0_339 : Rn 0 339 L (vI b :: vI a :: st) T σ K ↔ inI (a + b) ∧ Rn 0 340 L (vI (a + b) :: st) T σ K := R_iadd (by decide +kernel)
theorem s0_340 : Rn 0 340 L (vI a :: vR o :: st) T σ K ↔ ((sx_kd T o = 20 ∨ (sx_kd T o = 23 ∧ o = 0)) ∧ 0 ≤ a ∧ a < sx_ln T o) ∧ Rn 0 341 L (vI (σ o a) :: st) T σ K := R_iald0 (by decide +kernel)
theorem s0_341 : Rn 0 341 L (vI a :: vR o :: st) T σ K ↔ (sx_kd T o = 8 ∧ st.length ≤ 4) ∧ Rn 45 0 [some (vR o), some (vI a)] [] T σ (fun r T' σ' => Rn 0 344 L (sx_push r st) T' σ' K) := R_V (cm := 45) (n := 1) (idx := 28) (ci := 8) (mx := 2) (vs := [vI a]) (by decide +kernel) (by decide +kernel) rfl (by decide +kernel) rfl (by decide +kernel) (by decide +kernel)
theorem s0_344 : Rn 0 344 [l0, l1, some (vR o), l3] st T σ K ↔ Rn 0 345 [l0, l1, some (vR o), l3] (vR o :: st) T σ K := R_aload_n (n := 2) (by decide +kernel) rfl
theorem s0_345 : Rn 0 345 [some (vR o), l1, l2, l3] st T σ K ↔ Rn 0 346 [some (vR o), l1, l2, l3] (vR o :: st) T σ K := R_aload_n (n := 0) (by decide +kernel) rfl
theorem s0_346 : Rn 0 346 [l0, l1, l2, some (vI a)] st T σ K ↔ Rn 0 347 [l0, l1, l2, some (vI a)] (vI a :: st) T σ K := R_iload_n (n := 3) (by decide +kernel) rfl
theorem s0_347 : Rn 0 347 L st T σ K ↔ Rn 0 348 L (vI 1 :: st) T σ K := R_iconst (n := 1) (by decide +kernel) (by decide)
theorem s0_348 : Rn 0 348 L (vI b :: vI a :: st) T σ K ↔ inI (a + b) ∧ Rn 0 349 L (vI (a + b) :: st) T σ K := R_iadd (by decide +kernel)
theorem s0_349 : Rn 0 349 L (vI a :: vR o :: st) T σ K ↔ ((sx_kd T o = 20 ∨ (sx_kd T o = 23 ∧ o = 0)) ∧ 0 ≤ a ∧ a < sx_ln T o) ∧ Rn 0 350 L (vI (σ o a) :: st) T σ K := R_iald0 (by decide +kernel)
theorem s0_350 : Rn 0 350 L (vI a :: vR o :: st) T σ K ↔ (sx_kd T o = 9 ∧ st.length ≤ 4) ∧ Rn 200 0 [some (vR o), some (vI a)] [] T σ (fun r T' σ' => Rn 0 353 L (sx_push r st) T' σ' K) := R_V (cm := 200) (n := 1) (idx := 32) (ci := 9) (mx := 2) (vs := [vI a]) (by decide +kernel) (by decide +kernel) rfl (by decide +kernel) rfl (by decide +kernel) (by decide +kernel)
theorem s0_353 : Rn 0 353 L (vI b :: vI a :: st) T σ K ↔ (a = b → Rn 0 1657 L st T σ K) ∧ (a ≠ b → Rn 0 356 L st T σ K) := R_icmp_eq (off := 1304) (by decide +kernel) (by decide)
theorem s0_356 : Rn 0 356 L st T σ K ↔ Rn 0 357 L (vI 0 :: st) T σ K := R_iconst (n := 0) (by decide +kernel) (by decide)
theorem s0_357 : Rn 0 357 L [vI a] T σ K ↔ (a = 0 ∨ a = 1) ∧ K (some (vI a)) T σ := R_retZ (by decide +kernel) (by decide +kernel)
theorem s0_358 : Rn 0 358 [l0, some (vR o), l2, l3] st T σ K ↔ Rn 0 359 [l0, some (vR o), l2, l3] (vR o :: st) T σ K := R_aload_n (n := 1) (by decide +kernel) rfl
theorem s0_359 : Rn 0 359 [some (vR o), l1, l2, l3] st T σ K ↔ Rn 0 360 [some (vR o), l1, l2, l3] (vR o :: st) T σ K := R_aload_n (n := 0) (by decide +kernel) rfl
theorem s0_360 : Rn 0 360 [l0, l1, l2, some (vI a)] st T σ K ↔ Rn 0 361 [l0, l1, l2, some (vI a)] (vI a :: st) T σ K := R_iload_n (n := 3) (by decide +kernel) rfl
theorem s0_361 : Rn 0 361 L st T σ K ↔ Rn 0 362 L (vI 1 :: st) T σ K := R_iconst (n := 1) (by decide +kernel) (by decide)
theorem s0_362 : Rn 0 362 L (vI b :: vI a :: st) T σ K ↔ inI (a + b) ∧ Rn 0 363 L (vI (a + b) :: st) T σ K := R_iadd (by decide +kernel)
theorem s0_363 : Rn 0 363 L (vI a :: vR o :: st) T σ K ↔ ((sx_kd T o = 20 ∨ (sx_kd T o = 23 ∧ o = 0)) ∧ 0 ≤ a ∧ a < sx_ln T o) ∧ Rn 0 364 L (vI (σ o a) :: st) T σ K := R_iald0 (by decide +kernel)
theorem s0_364 : Rn 0 364 L (vI a :: vR o :: st) T σ K ↔ (sx_kd T o = 8 ∧ st.length ≤ 4) ∧ Rn 46 0 [some (vR o), some (vI a)] [] T σ (fun r T' σ' => Rn 0 367 L (sx_push r st) T' σ' K) := R_V (cm := 46) (n := 1) (idx := 33) (ci := 8) (mx := 2) (vs := [vI a]) (by decide +kernel) (by decide +kernel) rfl (by decide +kernel) rfl (by decide +kernel) (by decide +kernel)
theorem s0_367 : Rn 0 367 [l0, l1, some (vR o), l3] st T σ K ↔ Rn 0 368 [l0, l1, some (vR o), l3] (vR o :: st) T σ K := R_aload_n (n := 2) (by decide +kernel) rfl
theorem s0_368 : Rn 0 368 [some (vR o), l1, l2, l3] st T σ K ↔ Rn 0 369 [some (vR o), l1, l2, l3] (vR o :: st) T σ K := R_aload_n (n := 0) (by decide +kernel) rfl
theorem s0_369 : Rn 0 369 [l0, l1, l2, some (vI a)] st T σ K ↔ Rn 0 370 [l0, l1, l2, some (vI a)] (vI a :: st) T σ K := R_iload_n (n := 3) (by decide +kernel) rfl
theorem s0_370 : Rn 0 370 L st T σ K ↔ Rn 0 371 L (vI 1 :: st) T σ K := R_iconst (n := 1) (by decide +kernel) (by decide)
theorem s0_371 : Rn 0 371 L (vI b :: vI a :: st) T σ K ↔ inI (a + b) ∧ Rn 0 372 L (vI (a + b) :: st) T σ K := R_iadd (by decide +kernel)
theorem s0_372 : Rn 0 372 L (vI a :: vR o :: st) T σ K ↔ ((sx_kd T o = 20 ∨ (sx_kd T o = 23 ∧ o = 0)) ∧ 0 ≤ a ∧ a < sx_ln T o) ∧ Rn 0 373 L (vI (σ o a) :: st) T σ K := R_iald0 (by decide +kernel)
theorem s0_373 : Rn 0 373 L (vI a :: vR o :: st) T σ K ↔ (sx_kd T o = 9 ∧ st.length ≤ 4) ∧ Rn 201 0 [some (vR o), some (vI a), none, none] [] T σ (fun r T' σ' => Rn 0 376 L (sx_push r st) T' σ' K) := R_V (cm := 201) (n := 1) (idx := 36) (ci := 9) (mx := 4) (vs := [vI a]) (by decide +kernel) (by decide +kernel) rfl (by decide +kernel) rfl (by decide +kernel) (by decide +kernel)
theorem s0_376 : Rn 0 376 L (vI b :: vI a :: st) T σ K ↔ (a = b → Rn 0 1657 L st T σ K) ∧ (a ≠ b → Rn 0 379 L st T σ K) := R_icmp_eq (off := 1281) (by decide +kernel) (by decide)
theorem s0_379 : Rn 0 379 L st T σ K ↔ Rn 0 380 L (vI 0 :: st) T σ K := R_iconst (n := 0) (by decide +kernel) (by decide)
theorem s0_380 : Rn 0 380 L [vI a] T σ K ↔ (a = 0 ∨ a = 1) ∧ K (some (vI a)) T σ := R_retZ (by decide +kernel) (by decide +kernel)
theorem s0_381 : Rn 0 381 [l0, some (vR o), l2, l3] st T σ K ↔ Rn 0 382 [l0, some (vR o), l2, l3] (vR o :: st) T σ K := R_aload_n (n := 1) (by decide +kernel) rfl
theorem s0_382 : Rn 0 382 [some (vR o), l1, l2, l3] st T σ K ↔ Rn 0 383 [some (vR o), l1, l2, l3] (vR o :: st) T σ K := R_aload_n (n := 0) (by decide +kernel) rfl
theorem s0_383 : Rn 0 383 [l0, l1, l2, some (vI a)] st T σ K ↔ Rn 0 384 [l0, l1, l2, some (vI a)] (vI a :: st) T σ K := R_iload_n (n := 3) (by decide +kernel) rfl
theorem s0_384 : Rn 0 384 L st T σ K ↔ Rn 0 385 L (vI 1 :: st) T σ K := R_iconst (n := 1) (by decide +kernel) (by decide)
theorem s0_385 : Rn 0 385 L (vI b :: vI a :: st) T σ K ↔ inI (a + b) ∧ Rn 0 386 L (vI (a + b) :: st) T σ K := R_iadd (by decide +kernel)
theorem s0_386 : Rn 0 386 L (vI a :: vR o :: st) T σ K ↔ ((sx_kd T o = 20 ∨ (sx_kd T o = 23 ∧ o = 0)) ∧ 0 ≤ a ∧ a < sx_ln T o) ∧ Rn 0 387 L (vI (σ o a) :: st) T σ K := R_iald0 (by decide +kernel)
theorem s0_387 : Rn 0 387 [some (vR o), l1, l2, l3] st T σ K ↔ Rn 0 388 [some (vR o), l1, l2, l3] (vR o :: st) T σ K := R_aload_n (n := 0) (by decide +kernel) rfl
theorem s0_388 : Rn 0 388 [l0, l1, l2, some (vI a)] st T σ K ↔ Rn 0 389 [l0, l1, l2, some (vI a)] (vI a :: st) T σ K := R_iload_n (n := 3) (by decide +kernel) rfl
theorem s0_389 : Rn 0 389 L st T σ K ↔ Rn 0 390 L (vI 2 :: st) T σ K := R_iconst (n := 2) (by decide +kernel) (by decide)
theorem s0_390 : Rn 0 390 L (vI b :: vI a :: st) T σ K ↔ inI (a + b) ∧ Rn 0 391 L (vI (a + b) :: st) T σ K := R_iadd (by decide +kernel)
theorem s0_391 : Rn 0 391 L (vI a :: vR o :: st) T σ K ↔ ((sx_kd T o = 20 ∨ (sx_kd T o = 23 ∧ o = 0)) ∧ 0 ≤ a ∧ a < sx_ln T o) ∧ Rn 0 392 L (vI (σ o a) :: st) T σ K := R_iald0 (by decide +kernel)
theorem s0_392 : Rn 0 392 L (vI b :: vI a :: vR o :: st) T σ K ↔ (sx_kd T o = 8 ∧ st.length ≤ 4) ∧ Rn 48 0 [some (vR o), some (vI a), some (vI b)] [] T σ (fun r T' σ' => Rn 0 395 L (sx_push r st) T' σ' K) := R_V (cm := 48) (n := 2) (idx := 37) (ci := 8) (mx := 3) (vs := [vI a, vI b]) (by decide +kernel) (by decide +kernel) rfl (by decide +kernel) rfl (by decide +kernel) (by decide +kernel)
theorem s0_395 : Rn 0 395 [l0, l1, some (vR o), l3] st T σ K ↔ Rn 0 396 [l0, l1, some (vR o), l3] (vR o :: st) T σ K := R_aload_n (n := 2) (by decide +kernel) rfl
theorem s0_396 : Rn 0 396 [some (vR o), l1, l2, l3] st T σ K ↔ Rn 0 397 [some (vR o), l1, l2, l3] (vR o :: st) T σ K := R_aload_n (n := 0) (by decide +kernel) rfl
theorem s0_397 : Rn 0 397 [l0, l1, l2, some (vI a)] st T σ K ↔ Rn 0 398 [l0, l1, l2, some (vI a)] (vI a :: st) T σ K := R_iload_n (n := 3) (by decide +kernel) rfl
theorem s0_398 : Rn 0 398 L st T σ K ↔ Rn 0 399 L (vI 1 :: st) T σ K := R_iconst (n := 1) (by decide +kernel) (by decide)
theorem s0_399 : Rn 0 399 L (vI b :: vI a :: st) T σ K ↔ inI (a + b) ∧ Rn 0 400 L (vI (a + b) :: st) T σ K := R_iadd (by decide +kernel)
theorem s0_400 : Rn 0 400 L (vI a :: vR o :: st) T σ K ↔ ((sx_kd T o = 20 ∨ (sx_kd T o = 23 ∧ o = 0)) ∧ 0 ≤ a ∧ a < sx_ln T o) ∧ Rn 0 401 L (vI (σ o a) :: st) T σ K := R_iald0 (by decide +kernel)
theorem s0_401 : Rn 0 401 [some (vR o), l1, l2, l3] st T σ K ↔ Rn 0 402 [some (vR o), l1, l2, l3] (vR o :: st) T σ K := R_aload_n (n := 0) (by decide +kernel) rfl
theorem s0_402 : Rn 0 402 [l0, l1, l2, some (vI a)] st T σ K ↔ Rn 0 403 [l0, l1, l2, some (vI a)] (vI a :: st) T σ K := R_iload_n (n := 3) (by decide +kernel) rfl
theorem s0_403 : Rn 0 403 L st T σ K ↔ Rn 0 404 L (vI 2 :: st) T σ K := R_iconst (n := 2) (by decide +kernel) (by decide)
theorem s0_404 : Rn 0 404 L (vI b :: vI a :: st) T σ K ↔ inI (a + b) ∧ Rn 0 405 L (vI (a + b) :: st) T σ K := R_iadd (by decide +kernel)
theorem s0_405 : Rn 0 405 L (vI a :: vR o :: st) T σ K ↔ ((sx_kd T o = 20 ∨ (sx_kd T o = 23 ∧ o = 0)) ∧ 0 ≤ a ∧ a < sx_ln T o) ∧ Rn 0 406 L (vI (σ o a) :: st) T σ K := R_iald0 (by decide +kernel)
theorem s0_406 : Rn 0 406 L (vI b :: vI a :: vR o :: st) T σ K ↔ (sx_kd T o = 9 ∧ st.length ≤ 4) ∧ Rn 204 0 [some (vR o), some (vI a), some (vI b)] [] T σ (fun r T' σ' => Rn 0 409 L (sx_push r st) T' σ' K) := R_V (cm := 204) (n := 2) (idx := 41) (ci := 9) (mx := 3) (vs := [vI a, vI b]) (by decide +kernel) (by decide +kernel) rfl (by decide +kernel) rfl (by decide +kernel) (by decide +kernel)
theorem s0_409 : Rn 0 409 L (vI b :: vI a :: st) T σ K ↔ (a = b → Rn 0 1657 L st T σ K) ∧ (a ≠ b → Rn 0 412 L st T σ K) := R_icmp_eq (off := 1248) (by decide +kernel) (by decide)
theorem s0_412 : Rn 0 412 L st T σ K ↔ Rn 0 413 L (vI 0 :: st) T σ K := R_iconst (n := 0) (by decide +kernel) (by decide)
theorem s0_413 : Rn 0 413 L [vI a] T σ K ↔ (a = 0 ∨ a = 1) ∧ K (some (vI a)) T σ := R_retZ (by decide +kernel) (by decide +kernel)
theorem s0_414 : Rn 0 414 [l0, some (vR o), l2, l3] st T σ K ↔ Rn 0 415 [l0, some (vR o), l2, l3] (vR o :: st) T σ K := R_aload_n (n := 1) (by decide +kernel) rfl
theorem s0_415 : Rn 0 415 L (vR o :: st) T σ K ↔ (sx_kd T o = 8 ∧ st.length ≤ 4) ∧ Rn 50 0 [some (vR o), none] [] T σ (fun r T' σ' => Rn 0 418 L (sx_push r st) T' σ' K) := R_V (cm := 50) (n := 0) (idx := 42) (ci := 8) (mx := 2) (vs := []) (by decide +kernel) (by decide +kernel) rfl (by decide +kernel) rfl (by decide +kernel) (by decide +kernel)
theorem s0_418 : Rn 0 418 [l0, l1, some (vR o), l3] st T σ K ↔ Rn 0 419 [l0, l1, some (vR o), l3] (vR o :: st) T σ K := R_aload_n (n := 2) (by decide +kernel) rfl
theorem s0_419 : Rn 0 419 L (vR o :: st) T σ K ↔ (sx_kd T o = 9 ∧ st.length ≤ 4) ∧ Rn 206 0 [some (vR o), none, none, none, none] [] T σ (fun r T' σ' => Rn 0 422 L (sx_push r st) T' σ' K) := R_V (cm := 206) (n := 0) (idx := 45) (ci := 9) (mx := 5) (vs := []) (by decide +kernel) (by decide +kernel) rfl (by decide +kernel) rfl (by decide +kernel) (by decide +kernel)
theorem s0_422 : Rn 0 422 L (vI b :: vI a :: st) T σ K ↔ (a = b → Rn 0 1657 L st T σ K) ∧ (a ≠ b → Rn 0 425 L st T σ K) := R_icmp_eq (off := 1235) (by decide +kernel) (by decide)
theorem s0_425 : Rn 0 425 L st T σ K ↔ Rn 0 426 L (vI 0 :: st) T σ K := R_iconst (n := 0) (by decide +kernel) (by decide)
theorem s0_426 : Rn 0 426 L [vI a] T σ K ↔ (a = 0 ∨ a = 1) ∧ K (some (vI a)) T σ := R_retZ (by decide +kernel) (by decide +kernel)
theorem s0_427 : Rn 0 427 [l0, some (vR o), l2, l3] st T σ K ↔ Rn 0 428 [l0, some (vR o), l2, l3] (vR o :: st) T σ K := R_aload_n (n := 1) (by decide +kernel) rfl
theorem s0_428 : Rn 0 428 [some (vR o), l1, l2, l3] st T σ K ↔ Rn 0 429 [some (vR o), l1, l2, l3] (vR o :: st) T σ K := R_aload_n (n := 0) (by decide +kernel) rfl
theorem s0_429 : Rn 0 429 [l0, l1, l2, some (vI a)] st T σ K ↔ Rn 0 430 [l0, l1, l2, some (vI a)] (vI a :: st) T σ K := R_iload_n (n := 3) (by decide +kernel) rfl
theorem s0_430 : Rn 0 430 L st T σ K ↔ Rn 0 431 L (vI 1 :: st) T σ K := R_iconst (n := 1) (by decide +kernel) (by decide)
theorem s0_431 : Rn 0 431 L (vI b :: vI a :: st) T σ K ↔ inI (a + b) ∧ Rn 0 432 L (vI (a + b) :: st) T σ K := R_iadd (by decide +kernel)
theorem s0_432 : Rn 0 432 L (vI a :: vR o :: st) T σ K ↔ ((sx_kd T o = 20 ∨ (sx_kd T o = 23 ∧ o = 0)) ∧ 0 ≤ a ∧ a < sx_ln T o) ∧ Rn 0 433 L (vI (σ o a) :: st) T σ K := R_iald0 (by decide +kernel)
theorem s0_433 : Rn 0 433 [some (vR o), l1, l2, l3] st T σ K ↔ Rn 0 434 [some (vR o), l1, l2, l3] (vR o :: st) T σ K := R_aload_n (n := 0) (by decide +kernel) rfl
theorem s0_434 : Rn 0 434 [l0, l1, l2, some (vI a)] st T σ K ↔ Rn 0 435 [l0, l1, l2, some (vI a)] (vI a :: st) T σ K := R_iload_n (n := 3) (by decide +kernel) rfl
theorem s0_435 : Rn 0 435 L st T σ K ↔ Rn 0 436 L (vI 2 :: st) T σ K := R_iconst (n := 2) (by decide +kernel) (by decide)
theorem s0_436 : Rn 0 436 L (vI b :: vI a :: st) T σ K ↔ inI (a + b) ∧ Rn 0 437 L (vI (a + b) :: st) T σ K := R_iadd (by decide +kernel)
theorem s0_437 : Rn 0 437 L (vI a :: vR o :: st) T σ K ↔ ((sx_kd T o = 20 ∨ (sx_kd T o = 23 ∧ o = 0)) ∧ 0 ≤ a ∧ a < sx_ln T o) ∧ Rn 0 438 L (vI (σ o a) :: st) T σ K := R_iald0 (by decide +kernel)
theorem s0_438 : Rn 0 438 L (vI b :: vI a :: vR o :: st) T σ K ↔ (sx_kd T o = 8 ∧ st.length ≤ 4) ∧ Rn 53 0 [some (vR o), some (vI a), some (vI b)] [] T σ (fun r T' σ' => Rn 0 441 L (sx_push r st) T' σ' K) := R_V (cm := 53) (n := 2) (idx := 46) (ci := 8) (mx := 3) (vs := [vI a, vI b]) (by decide +kernel) (by decide +kernel) rfl (by decide +kernel) rfl (by decide +kernel) (by decide +kernel)
theorem s0_441 : Rn 0 441 [l0, l1, some (vR o), l3] st T σ K ↔ Rn 0 442 [l0, l1, some (vR o), l3] (vR o :: st) T σ K := R_aload_n (n := 2) (by decide +kernel) rfl
theorem s0_442 : Rn 0 442 [some (vR o), l1, l2, l3] st T σ K ↔ Rn 0 443 [some (vR o), l1, l2, l3] (vR o :: st) T σ K := R_aload_n (n := 0) (by decide +kernel) rfl
theorem s0_443 : Rn 0 443 [l0, l1, l2, some (vI a)] st T σ K ↔ Rn 0 444 [l0, l1, l2, some (vI a)] (vI a :: st) T σ K := R_iload_n (n := 3) (by decide +kernel) rfl
theorem s0_444 : Rn 0 444 L st T σ K ↔ Rn 0 445 L (vI 1 :: st) T σ K := R_iconst (n := 1) (by decide +kernel) (by decide)
theorem s0_445 : Rn 0 445 L (vI b :: vI a :: st) T σ K ↔ inI (a + b) ∧ Rn 0 446 L (vI (a + b) :: st) T σ K := R_iadd (by decide +kernel)
theorem s0_446 : Rn 0 446 L (vI a :: vR o :: st) T σ K ↔ ((sx_kd T o = 20 ∨ (sx_kd T o = 23 ∧ o = 0)) ∧ 0 ≤ a ∧ a < sx_ln T o) ∧ Rn 0 447 L (vI (σ o a) :: st) T σ K := R_iald0 (by decide +kernel)
theorem s0_447 : Rn 0 447 [some (vR o), l1, l2, l3] st T σ K ↔ Rn 0 448 [some (vR o), l1, l2, l3] (vR o :: st) T σ K := R_aload_n (n := 0) (by decide +kernel) rfl
theorem s0_448 : Rn 0 448 [l0, l1, l2, some (vI a)] st T σ K ↔ Rn 0 449 [l0, l1, l2, some (vI a)] (vI a :: st) T σ K := R_iload_n (n := 3) (by decide +kernel) rfl
theorem s0_449 : Rn 0 449 L st T σ K ↔ Rn 0 450 L (vI 2 :: st) T σ K := R_iconst (n := 2) (by decide +kernel) (by decide)
theorem s0_450 : Rn 0 450 L (vI b :: vI a :: st) T σ K ↔ inI (a + b) ∧ Rn 0 451 L (vI (a + b) :: st) T σ K := R_iadd (by decide +kernel)
theorem s0_451 : Rn 0 451 L (vI a :: vR o :: st) T σ K ↔ ((sx_kd T o = 20 ∨ (sx_kd T o = 23 ∧ o = 0)) ∧ 0 ≤ a ∧ a < sx_ln T o) ∧ Rn 0 452 L (vI (σ o a) :: st) T σ K := R_iald0 (by decide +kernel)
theorem s0_452 : Rn 0 452 L (vI b :: vI a :: vR o :: st) T σ K ↔ (sx_kd T o = 9 ∧ st.length ≤ 4) ∧ Rn 207 0 [some (vR o), some (vI a), some (vI b)] [] T σ (fun r T' σ' => Rn 0 455 L (sx_push r st) T' σ' K) := R_V (cm := 207) (n := 2) (idx := 49) (ci := 9) (mx := 3) (vs := [vI a, vI b]) (by decide +kernel) (by decide +kernel) rfl (by decide +kernel) rfl (by decide +kernel) (by decide +kernel)
theorem s0_455 : Rn 0 455 L (vI b :: vI a :: st) T σ K ↔ (a = b → Rn 0 1657 L st T σ K) ∧ (a ≠ b → Rn 0 458 L st T σ K) := R_icmp_eq (off := 1202) (by decide +kernel) (by decide)
theorem s0_458 : Rn 0 458 L st T σ K ↔ Rn 0 459 L (vI 0 :: st) T σ K := R_iconst (n := 0) (by decide +kernel) (by decide)
theorem s0_459 : Rn 0 459 L [vI a] T σ K ↔ (a = 0 ∨ a = 1) ∧ K (some (vI a)) T σ := R_retZ (by decide +kernel) (by decide +kernel)
theorem s0_460 : Rn 0 460 [l0, some (vR o), l2, l3] st T σ K ↔ Rn 0 461 [l0, some (vR o), l2, l3] (vR o :: st) T σ K := R_aload_n (n := 1) (by decide +kernel) rfl
theorem s0_461 : Rn 0 461 [some (vR o), l1, l2, l3] st T σ K ↔ Rn 0 462 [some (vR o), l1, l2, l3] (vR o :: st) T σ K := R_aload_n (n := 0) (by decide +kernel) rfl
theorem s0_462 : Rn 0 462 [l0, l1, l2, some (vI a)] st T σ K ↔ Rn 0 463 [l0, l1, l2, some (vI a)] (vI a :: st) T σ K := R_iload_n (n := 3) (by decide +kernel) rfl
theorem s0_463 : Rn 0 463 L st T σ K ↔ Rn 0 464 L (vI 1 :: st) T σ K := R_iconst (n := 1) (by decide +kernel) (by decide)
theorem s0_464 : Rn 0 464 L (vI b :: vI a :: st) T σ K ↔ inI (a + b) ∧ Rn 0 465 L (vI (a + b) :: st) T σ K := R_iadd (by decide +kernel)
theorem s0_465 : Rn 0 465 L (vI a :: vR o :: st) T σ K ↔ ((sx_kd T o = 20 ∨ (sx_kd T o = 23 ∧ o = 0)) ∧ 0 ≤ a ∧ a < sx_ln T o) ∧ Rn 0 466 L (vI (σ o a) :: st) T σ K := R_iald0 (by decide +kernel)
theorem s0_466 : Rn 0 466 [some (vR o), l1, l2, l3] st T σ K ↔ Rn 0 467 [some (vR o), l1, l2, l3] (vR o :: st) T σ K := R_aload_n (n := 0) (by decide +kernel) rfl
theorem s0_467 : Rn 0 467 [l0, l1, l2, some (vI a)] st T σ K ↔ Rn 0 468 [l0, l1, l2, some (vI a)] (vI a :: st) T σ K := R_iload_n (n := 3) (by decide +kernel) rfl
theorem s0_468 : Rn 0 468 L st T σ K ↔ Rn 0 469 L (vI 2 :: st) T σ K := R_iconst (n := 2) (by decide +kernel) (by decide)
theorem s0_469 : Rn 0 469 L (vI b :: vI a :: st) T σ K ↔ inI (a + b) ∧ Rn 0 470 L (vI (a + b) :: st) T σ K := R_iadd (by decide +kernel)
theorem s0_470 : Rn 0 470 L (vI a :: vR o :: st) T σ K ↔ ((sx_kd T o = 20 ∨ (sx_kd T o = 23 ∧ o = 0)) ∧ 0 ≤ a ∧ a < sx_ln T o) ∧ Rn 0 471 L (vI (σ o a) :: st) T σ K := R_iald0 (by decide +kernel)
theorem s0_471 : Rn 0 471 [some (vR o), l1, l2, l3] st T σ K ↔ Rn 0 472 [some (vR o), l1, l2, l3] (vR o :: st) T σ K := R_aload_n (n := 0) (by decide +kernel) rfl
theorem s0_472 : Rn 0 472 [l0, l1, l2, some (vI a)] st T σ K ↔ Rn 0 473 [l0, l1, l2, some (vI a)] (vI a :: st) T σ K := R_iload_n (n := 3) (by decide +kernel) rfl
theorem s0_473 : Rn 0 473 L st T σ K ↔ Rn 0 474 L (vI 3 :: st) T σ K := R_iconst (n := 3) (by decide +kernel) (by decide)
theorem s0_474 : Rn 0 474 L (vI b :: vI a :: st) T σ K ↔ inI (a + b) ∧ Rn 0 475 L (vI (a + b) :: st) T σ K := R_iadd (by decide +kernel)
theorem s0_475 : Rn 0 475 L (vI a :: vR o :: st) T σ K ↔ ((sx_kd T o = 20 ∨ (sx_kd T o = 23 ∧ o = 0)) ∧ 0 ≤ a ∧ a < sx_ln T o) ∧ Rn 0 476 L (vI (σ o a) :: st) T σ K := R_iald0 (by decide +kernel)
theorem s0_476 : Rn 0 476 L (vI c :: vI b :: vI a :: vR o :: st) T σ K ↔ (sx_kd T o = 8 ∧ st.length ≤ 4) ∧ Rn 57 0 [some (vR o), some (vI a), some (vI b), some (vI c), none] [] T σ (fun r T' σ' => Rn 0 479 L (sx_push r st) T' σ' K) := R_V (cm := 57) (n := 3) (idx := 50) (ci := 8) (mx := 5) (vs := [vI a, vI b, vI c]) (by decide +kernel) (by decide +kernel) rfl (by decide +kernel) rfl (by decide +kernel) (by decide +kernel)
theorem s0_479 : Rn 0 479 [l0, l1, some (vR o), l3] st T σ K ↔ Rn 0 480 [l0, l1, some (vR o), l3] (vR o :: st) T σ K := R_aload_n (n := 2) (by decide +kernel) rfl
theorem s0_480 : Rn 0 480 [some (vR o), l1, l2, l3] st T σ K ↔ Rn 0 481 [some (vR o), l1, l2, l3] (vR o :: st) T σ K := R_aload_n (n := 0) (by decide +kernel) rfl
theorem s0_481 : Rn 0 481 [l0, l1, l2, some (vI a)] st T σ K ↔ Rn 0 482 [l0, l1, l2, some (vI a)] (vI a :: st) T σ K := R_iload_n (n := 3) (by decide +kernel) rfl
theorem s0_482 : Rn 0 482 L st T σ K ↔ Rn 0 483 L (vI 1 :: st) T σ K := R_iconst (n := 1) (by decide +kernel) (by decide)
theorem s0_483 : Rn 0 483 L (vI b :: vI a :: st) T σ K ↔ inI (a + b) ∧ Rn 0 484 L (vI (a + b) :: st) T σ K := R_iadd (by decide +kernel)
theorem s0_484 : Rn 0 484 L (vI a :: vR o :: st) T σ K ↔ ((sx_kd T o = 20 ∨ (sx_kd T o = 23 ∧ o = 0)) ∧ 0 ≤ a ∧ a < sx_ln T o) ∧ Rn 0 485 L (vI (σ o a) :: st) T σ K := R_iald0 (by decide +kernel)
theorem s0_485 : Rn 0 485 [some (vR o), l1, l2, l3] st T σ K ↔ Rn 0 486 [some (vR o), l1, l2, l3] (vR o :: st) T σ K := R_aload_n (n := 0) (by decide +kernel) rfl
theorem s0_486 : Rn 0 486 [l0, l1, l2, some (vI a)] st T σ K ↔ Rn 0 487 [l0, l1, l2, some (vI a)] (vI a :: st) T σ K := R_iload_n (n := 3) (by decide +kernel) rfl
theorem s0_487 : Rn 0 487 L st T σ K ↔ Rn 0 488 L (vI 2 :: st) T σ K := R_iconst (n := 2) (by decide +kernel) (by decide)
theorem s0_488 : Rn 0 488 L (vI b :: vI a :: st) T σ K ↔ inI (a + b) ∧ Rn 0 489 L (vI (a + b) :: st) T σ K := R_iadd (by decide +kernel)
theorem s0_489 : Rn 0 489 L (vI a :: vR o :: st) T σ K ↔ ((sx_kd T o = 20 ∨ (sx_kd T o = 23 ∧ o = 0)) ∧ 0 ≤ a ∧ a < sx_ln T o) ∧ Rn 0 490 L (vI (σ o a) :: st) T σ K := R_iald0 (by decide +kernel)
theorem s0_490 : Rn 0 490 [some (vR o), l1, l2, l3] st T σ K ↔ Rn 0 491 [some (vR o), l1, l2, l3] (vR o :: st) T σ K := R_aload_n (n := 0) (by decide +kernel) rfl
theorem s0_491 : Rn 0 491 [l0, l1, l2, some (vI a)] st T σ K ↔ Rn 0 492 [l0, l1, l2, some (vI a)] (vI a :: st) T σ K := R_iload_n (n := 3) (by decide +kernel) rfl
theorem s0_492 : Rn 0 492 L st T σ K ↔ Rn 0 493 L (vI 3 :: st) T σ K := R_iconst (n := 3) (by decide +kernel) (by decide)
theorem s0_493 : Rn 0 493 L (vI b :: vI a :: st) T σ K ↔ inI (a + b) ∧ Rn 0 494 L (vI (a + b) :: st) T σ K := R_iadd (by decide +kernel)
theorem s0_494 : Rn 0 494 L (vI a :: vR o :: st) T σ K ↔ ((sx_kd T o = 20 ∨ (sx_kd T o = 23 ∧ o = 0)) ∧ 0 ≤ a ∧ a < sx_ln T o) ∧ Rn 0 495 L (vI (σ o a) :: st) T σ K := R_iald0 (by decide +kernel)
theorem s0_495 : Rn 0 495 L (vI c :: vI b :: vI a :: vR o :: st) T σ K ↔ (sx_kd T o = 9 ∧ st.length ≤ 4) ∧ Rn 212 0 [some (vR o), some (vI a), some (vI b), some (vI c)] [] T σ (fun r T' σ' => Rn 0 498 L (sx_push r st) T' σ' K) := R_V (cm := 212) (n := 3) (idx := 54) (ci := 9) (mx := 4) (vs := [vI a, vI b, vI c]) (by decide +kernel) (by decide +kernel) rfl (by decide +kernel) rfl (by decide +kernel) (by decide +kernel)
theorem s0_498 : Rn 0 498 L (vI b :: vI a :: st) T σ K ↔ (a = b → Rn 0 1657 L st T σ K) ∧ (a ≠ b → Rn 0 501 L st T σ K) := R_icmp_eq (off := 1159) (by decide +kernel) (by decide)
theorem s0_501 : Rn 0 501 L st T σ K ↔ Rn 0 502 L (vI 0 :: st) T σ K := R_iconst (n := 0) (by decide +kernel) (by decide)
theorem s0_502 : Rn 0 502 L [vI a] T σ K ↔ (a = 0 ∨ a = 1) ∧ K (some (vI a)) T σ := R_retZ (by decide +kernel) (by decide +kernel)
theorem s0_503 : Rn 0 503 [l0, some (vR o), l2, l3] st T σ K ↔ Rn 0 504 [l0, some (vR o), l2, l3] (vR o :: st) T σ K := R_aload_n (n := 1) (by decide +kernel) rfl
theorem s0_504 : Rn 0 504 [some (vR o), l1, l2, l3] st T σ K ↔ Rn 0 505 [some (vR o), l1, l2, l3] (vR o :: st) T σ K := R_aload_n (n := 0) (by decide +kernel) rfl
theorem s0_505 : Rn 0 505 [l0, l1, l2, some (vI a)] st T σ K ↔ Rn 0 506 [l0, l1, l2, some (vI a)] (vI a :: st) T σ K := R_iload_n (n := 3) (by decide +kernel) rfl
theorem s0_506 : Rn 0 506 L st T σ K ↔ Rn 0 507 L (vI 1 :: st) T σ K := R_iconst (n := 1) (by decide +kernel) (by decide)
theorem s0_507 : Rn 0 507 L (vI b :: vI a :: st) T σ K ↔ inI (a + b) ∧ Rn 0 508 L (vI (a + b) :: st) T σ K := R_iadd (by decide +kernel)
theorem s0_508 : Rn 0 508 L (vI a :: vR o :: st) T σ K ↔ ((sx_kd T o = 20 ∨ (sx_kd T o = 23 ∧ o = 0)) ∧ 0 ≤ a ∧ a < sx_ln T o) ∧ Rn 0 509 L (vI (σ o a) :: st) T σ K := R_iald0 (by decide +kernel)
theorem s0_509 : Rn 0 509 [some (vR o), l1, l2, l3] st T σ K ↔ Rn 0 510 [some (vR o), l1, l2, l3] (vR o :: st) T σ K := R_aload_n (n := 0) (by decide +kernel) rfl
theorem s0_510 : Rn 0 510 [l0, l1, l2, some (vI a)] st T σ K ↔ Rn 0 511 [l0, l1, l2, some (vI a)] (vI a :: st) T σ K := R_iload_n (n := 3) (by decide +kernel) rfl
theorem s0_511 : Rn 0 511 L st T σ K ↔ Rn 0 512 L (vI 2 :: st) T σ K := R_iconst (n := 2) (by decide +kernel) (by decide)
theorem s0_512 : Rn 0 512 L (vI b :: vI a :: st) T σ K ↔ inI (a + b) ∧ Rn 0 513 L (vI (a + b) :: st) T σ K := R_iadd (by decide +kernel)
theorem s0_513 : Rn 0 513 L (vI a :: vR o :: st) T σ K ↔ ((sx_kd T o = 20 ∨ (sx_kd T o = 23 ∧ o = 0)) ∧ 0 ≤ a ∧ a < sx_ln T o) ∧ Rn 0 514 L (vI (σ o a) :: st) T σ K := R_iald0 (by decide +kernel)
theorem s0_514 : Rn 0 514 L (vI b :: vI a :: vR o :: st) T σ K ↔ (sx_kd T o = 8 ∧ st.length ≤ 4) ∧ Rn 59 0 [some (vR o), some (vI a), some (vI b)] [] T σ (fun r T' σ' => Rn 0 517 L (sx_push r st) T' σ' K) := R_V (cm := 59) (n := 2) (idx := 55) (ci := 8) (mx := 3) (vs := [vI a, vI b]) (by decide +kernel) (by decide +kernel) rfl (by decide +kernel) rfl (by decide +kernel) (by decide +kernel)
theorem s0_517 : Rn 0 517 [l0, l1, some (vR o), l3] st T σ K ↔ Rn 0 518 [l0, l1, some (vR o), l3] (vR o :: st) T σ K := R_aload_n (n := 2) (by decide +kernel) rfl
theorem s0_518 : Rn 0 518 [some (vR o), l1, l2, l3] st T σ K ↔ Rn 0 519 [some (vR o), l1, l2, l3] (vR o :: st) T σ K := R_aload_n (n := 0) (by decide +kernel) rfl
theorem s0_519 : Rn 0 519 [l0, l1, l2, some (vI a)] st T σ K ↔ Rn 0 520 [l0, l1, l2, some (vI a)] (vI a :: st) T σ K := R_iload_n (n := 3) (by decide +kernel) rfl
theorem s0_520 : Rn 0 520 L st T σ K ↔ Rn 0 521 L (vI 1 :: st) T σ K := R_iconst (n := 1) (by decide +kernel) (by decide)
theorem s0_521 : Rn 0 521 L (vI b :: vI a :: st) T σ K ↔ inI (a + b) ∧ Rn 0 522 L (vI (a + b) :: st) T σ K := R_iadd (by decide +kernel)
theorem s0_522 : Rn 0 522 L (vI a :: vR o :: st) T σ K ↔ ((sx_kd T o = 20 ∨ (sx_kd T o = 23 ∧ o = 0)) ∧ 0 ≤ a ∧ a < sx_ln T o) ∧ Rn 0 523 L (vI (σ o a) :: st) T σ K := R_iald0 (by decide +kernel)
theorem s0_523 : Rn 0 523 [some (vR o), l1, l2, l3] st T σ K ↔ Rn 0 524 [some (vR o), l1, l2, l3] (vR o :: st) T σ K := R_aload_n (n := 0) (by decide +kernel) rfl
theorem s0_524 : Rn 0 524 [l0, l1, l2, some (vI a)] st T σ K ↔ Rn 0 525 [l0, l1, l2, some (vI a)] (vI a :: st) T σ K := R_iload_n (n := 3) (by decide +kernel) rfl
theorem s0_525 : Rn 0 525 L st T σ K ↔ Rn 0 526 L (vI 2 :: st) T σ K := R_iconst (n := 2) (by decide +kernel) (by decide)
theorem s0_526 : Rn 0 526 L (vI b :: vI a :: st) T σ K ↔ inI (a + b) ∧ Rn 0 527 L (vI (a + b) :: st) T σ K := R_iadd (by decide +kernel)
theorem s0_527 : Rn 0 527 L (vI a :: vR o :: st) T σ K ↔ ((sx_kd T o = 20 ∨ (sx_kd T o = 23 ∧ o = 0)) ∧ 0 ≤ a ∧ a < sx_ln T o) ∧ Rn 0 528 L (vI (σ o a) :: st) T σ K := R_iald0 (by decide +kernel)
theorem s0_528 : Rn 0 528 L (vI b :: vI a :: vR o :: st) T σ K ↔ (sx_kd T o = 9 ∧ st.length ≤ 4) ∧ Rn 214 0 [some (vR o), some (vI a), some (vI b), none, none, none] [] T σ (fun r T' σ' => Rn 0 531 L (sx_push r st) T' σ' K) := R_V (cm := 214) (n := 2) (idx := 58) (ci := 9) (mx := 6) (vs := [vI a, vI b]) (by decide +kernel) (by decide +kernel) rfl (by decide +kernel) rfl (by decide +kernel) (by decide +kernel)
theorem s0_531 : Rn 0 531 L (vI b :: vI a :: st) T σ K ↔ (a = b → Rn 0 1657 L st T σ K) ∧ (a ≠ b → Rn 0 534 L st T σ K) := R_icmp_eq (off := 1126) (by decide +kernel) (by decide)
theorem s0_534 : Rn 0 534 L st T σ K ↔ Rn 0 535 L (vI 0 :: st) T σ K := R_iconst (n := 0) (by decide +kernel) (by decide)
theorem s0_535 : Rn 0 535 L [vI a] T σ K ↔ (a = 0 ∨ a = 1) ∧ K (some (vI a)) T σ := R_retZ (by decide +kernel) (by decide +kernel)
theorem s0_536 : Rn 0 536 [l0, some (vR o), l2, l3] st T σ K ↔ Rn 0 537 [l0, some (vR o), l2, l3] (vR o :: st) T σ K := R_aload_n (n := 1) (by decide +kernel) rfl
theorem s0_537 : Rn 0 537 [some (vR o), l1, l2, l3] st T σ K ↔ Rn 0 538 [some (vR o), l1, l2, l3] (vR o :: st) T σ K := R_aload_n (n := 0) (by decide +kernel) rfl
theorem s0_538 : Rn 0 538 [l0, l1, l2, some (vI a)] st T σ K ↔ Rn 0 539 [l0, l1, l2, some (vI a)] (vI a :: st) T σ K := R_iload_n (n := 3) (by decide +kernel) rfl
theorem s0_539 : Rn 0 539 L st T σ K ↔ Rn 0 540 L (vI 1 :: st) T σ K := R_iconst (n := 1) (by decide +kernel) (by decide)
theorem s0_540 : Rn 0 540 L (vI b :: vI a :: st) T σ K ↔ inI (a + b) ∧ Rn 0 541 L (vI (a + b) :: st) T σ K := R_iadd (by decide +kernel)
theorem s0_541 : Rn 0 541 L (vI a :: vR o :: st) T σ K ↔ ((sx_kd T o = 20 ∨ (sx_kd T o = 23 ∧ o = 0)) ∧ 0 ≤ a ∧ a < sx_ln T o) ∧ Rn 0 542 L (vI (σ o a) :: st) T σ K := R_iald0 (by decide +kernel)
theorem s0_542 : Rn 0 542 [some (vR o), l1, l2, l3] st T σ K ↔ Rn 0 543 [some (vR o), l1, l2, l3] (vR o :: st) T σ K := R_aload_n (n := 0) (by decide +kernel) rfl
theorem s0_543 : Rn 0 543 [l0, l1, l2, some (vI a)] st T σ K ↔ Rn 0 544 [l0, l1, l2, some (vI a)] (vI a :: st) T σ K := R_iload_n (n := 3) (by decide +kernel) rfl
theorem s0_544 : Rn 0 544 L st T σ K ↔ Rn 0 545 L (vI 2 :: st) T σ K := R_iconst (n := 2) (by decide +kernel) (by decide)
theorem s0_545 : Rn 0 545 L (vI b :: vI a :: st) T σ K ↔ inI (a + b) ∧ Rn 0 546 L (vI (a + b) :: st) T σ K := R_iadd (by decide +kernel)
theorem s0_546 : Rn 0 546 L (vI a :: vR o :: st) T σ K ↔ ((sx_kd T o = 20 ∨ (sx_kd T o = 23 ∧ o = 0)) ∧ 0 ≤ a ∧ a < sx_ln T o) ∧ Rn 0 547 L (vI (σ o a) :: st) T σ K := R_iald0 (by decide +kernel)
theorem s0_547 : Rn 0 547 L (vI b :: vI a :: vR o :: st) T σ K ↔ (sx_kd T o = 8 ∧ st.length ≤ 4) ∧ Rn 61 0 [some (vR o), some (vI a), some (vI b)] [] T σ (fun r T' σ' => Rn 0 550 L (sx_push r st) T' σ' K) := R_V (cm := 61) (n := 2) (idx := 59) (ci := 8) (mx := 3) (vs := [vI a, vI b]) (by decide +kernel) (by decide +kernel) rfl (by decide +kernel) rfl (by decide +kernel) (by decide +kernel)
theorem s0_550 : Rn 0 550 [l0, l1, some (vR o), l3] st T σ K ↔ Rn 0 551 [l0, l1, some (vR o), l3] (vR o :: st) T σ K := R_aload_n (n := 2) (by decide +kernel) rfl
theorem s0_551 : Rn 0 551 [some (vR o), l1, l2, l3] st T σ K ↔ Rn 0 552 [some (vR o), l1, l2, l3] (vR o :: st) T σ K := R_aload_n (n := 0) (by decide +kernel) rfl
theorem s0_552 : Rn 0 552 [l0, l1, l2, some (vI a)] st T σ K ↔ Rn 0 553 [l0, l1, l2, some (vI a)] (vI a :: st) T σ K := R_iload_n (n := 3) (by decide +kernel) rfl
theorem s0_553 : Rn 0 553 L st T σ K ↔ Rn 0 554 L (vI 1 :: st) T σ K := R_iconst (n := 1) (by decide +kernel) (by decide)
theorem s0_554 : Rn 0 554 L (vI b :: vI a :: st) T σ K ↔ inI (a + b) ∧ Rn 0 555 L (vI (a + b) :: st) T σ K := R_iadd (by decide +kernel)
theorem s0_555 : Rn 0 555 L (vI a :: vR o :: st) T σ K ↔ ((sx_kd T o = 20 ∨ (sx_kd T o = 23 ∧ o = 0)) ∧ 0 ≤ a ∧ a < sx_ln T o) ∧ Rn 0 556 L (vI (σ o a) :: st) T σ K := R_iald0 (by decide +kernel)
theorem s0_556 : Rn 0 556 [some (vR o), l1, l2, l3] st T σ K ↔ Rn 0 557 [some (vR o), l1, l2, l3] (vR o :: st) T σ K := R_aload_n (n := 0) (by decide +kernel) rfl
theorem s0_557 : Rn 0 557 [l0, l1, l2, some (vI a)] st T σ K ↔ Rn 0 558 [l0, l1, l2, some (vI a)] (vI a :: st) T σ K := R_iload_n (n := 3) (by decide +kernel) rfl
theorem s0_558 : Rn 0 558 L st T σ K ↔ Rn 0 559 L (vI 2 :: st) T σ K := R_iconst (n := 2) (by decide +kernel) (by decide)
theorem s0_559 : Rn 0 559 L (vI b :: vI a :: st) T σ K ↔ inI (a + b) ∧ Rn 0 560 L (vI (a + b) :: st) T σ K := R_iadd (by decide +kernel)
theorem s0_560 : Rn 0 560 L (vI a :: vR o :: st) T σ K ↔ ((sx_kd T o = 20 ∨ (sx_kd T o = 23 ∧ o = 0)) ∧ 0 ≤ a ∧ a < sx_ln T o) ∧ Rn 0 561 L (vI (σ o a) :: st) T σ K := R_iald0 (by decide +kernel)
theorem s0_561 : Rn 0 561 L (vI b :: vI a :: vR o :: st) T σ K ↔ (sx_kd T o = 9 ∧ st.length ≤ 4) ∧ Rn 215 0 [some (vR o), some (vI a), some (vI b)] [] T σ (fun r T' σ' => Rn 0 564 L (sx_push r st) T' σ' K) := R_V (cm := 215) (n := 2) (idx := 62) (ci := 9) (mx := 3) (vs := [vI a, vI b]) (by decide +kernel) (by decide +kernel) rfl (by decide +kernel) rfl (by decide +kernel) (by decide +kernel)
theorem s0_564 : Rn 0 564 L (vI b :: vI a :: st) T σ K ↔ (a = b → Rn 0 1657 L st T σ K) ∧ (a ≠ b → Rn 0 567 L st T σ K) := R_icmp_eq (off := 1093) (by decide +kernel) (by decide)
theorem s0_567 : Rn 0 567 L st T σ K ↔ Rn 0 568 L (vI 0 :: st) T σ K := R_iconst (n := 0) (by decide +kernel) (by decide)
theorem s0_568 : Rn 0 568 L [vI a] T σ K ↔ (a = 0 ∨ a = 1) ∧ K (some (vI a)) T σ := R_retZ (by decide +kernel) (by decide +kernel)
theorem s0_569 : Rn 0 569 [l0, some (vR o), l2, l3] st T σ K ↔ Rn 0 570 [l0, some (vR o), l2, l3] (vR o :: st) T σ K := R_aload_n (n := 1) (by decide +kernel) rfl
theorem s0_570 : Rn 0 570 [some (vR o), l1, l2, l3] st T σ K ↔ Rn 0 571 [some (vR o), l1, l2, l3] (vR o :: st) T σ K := R_aload_n (n := 0) (by decide +kernel) rfl
theorem s0_571 : Rn 0 571 [l0, l1, l2, some (vI a)] st T σ K ↔ Rn 0 572 [l0, l1, l2, some (vI a)] (vI a :: st) T σ K := R_iload_n (n := 3) (by decide +kernel) rfl
theorem s0_572 : Rn 0 572 L st T σ K ↔ Rn 0 573 L (vI 1 :: st) T σ K := R_iconst (n := 1) (by decide +kernel) (by decide)
theorem s0_573 : Rn 0 573 L (vI b :: vI a :: st) T σ K ↔ inI (a + b) ∧ Rn 0 574 L (vI (a + b) :: st) T σ K := R_iadd (by decide +kernel)
theorem s0_574 : Rn 0 574 L (vI a :: vR o :: st) T σ K ↔ ((sx_kd T o = 20 ∨ (sx_kd T o = 23 ∧ o = 0)) ∧ 0 ≤ a ∧ a < sx_ln T o) ∧ Rn 0 575 L (vI (σ o a) :: st) T σ K := R_iald0 (by decide +kernel)
theorem s0_575 : Rn 0 575 [some (vR o), l1, l2, l3] st T σ K ↔ Rn 0 576 [some (vR o), l1, l2, l3] (vR o :: st) T σ K := R_aload_n (n := 0) (by decide +kernel) rfl
theorem s0_576 : Rn 0 576 [l0, l1, l2, some (vI a)] st T σ K ↔ Rn 0 577 [l0, l1, l2, some (vI a)] (vI a :: st) T σ K := R_iload_n (n := 3) (by decide +kernel) rfl
theorem s0_577 : Rn 0 577 L st T σ K ↔ Rn 0 578 L (vI 2 :: st) T σ K := R_iconst (n := 2) (by decide +kernel) (by decide)
theorem s0_578 : Rn 0 578 L (vI b :: vI a :: st) T σ K ↔ inI (a + b) ∧ Rn 0 579 L (vI (a + b) :: st) T σ K := R_iadd (by decide +kernel)
theorem s0_579 : Rn 0 579 L (vI a :: vR o :: st) T σ K ↔ ((sx_kd T o = 20 ∨ (sx_kd T o = 23 ∧ o = 0)) ∧ 0 ≤ a ∧ a < sx_ln T o) ∧ Rn 0 580 L (vI (σ o a) :: st) T σ K := R_iald0 (by decide +kernel)
theorem s0_580 : Rn 0 580 L (vI b :: vI a :: vR o :: st) T σ K ↔ (sx_kd T o = 8 ∧ st.length ≤ 4) ∧ Rn 63 0 [some (vR o), some (vI a), some (vI b)] [] T σ (fun r T' σ' => Rn 0 583 L (sx_push r st) T' σ' K) := R_V (cm := 63) (n := 2) (idx := 63) (ci := 8) (mx := 3) (vs := [vI a, vI b]) (by decide +kernel) (by decide +kernel) rfl (by decide +kernel) rfl (by decide +kernel) (by decide +kernel)
theorem s0_583 : Rn 0 583 [l0, l1, some (vR o), l3] st T σ K ↔ Rn 0 584 [l0, l1, some (vR o), l3] (vR o :: st) T σ K := R_aload_n (n := 2) (by decide +kernel) rfl
theorem s0_584 : Rn 0 584 [some (vR o), l1, l2, l3] st T σ K ↔ Rn 0 585 [some (vR o), l1, l2, l3] (vR o :: st) T σ K := R_aload_n (n := 0) (by decide +kernel) rfl
theorem s0_585 : Rn 0 585 [l0, l1, l2, some (vI a)] st T σ K ↔ Rn 0 586 [l0, l1, l2, some (vI a)] (vI a :: st) T σ K := R_iload_n (n := 3) (by decide +kernel) rfl
theorem s0_586 : Rn 0 586 L st T σ K ↔ Rn 0 587 L (vI 1 :: st) T σ K := R_iconst (n := 1) (by decide +kernel) (by decide)
theorem s0_587 : Rn 0 587 L (vI b :: vI a :: st) T σ K ↔ inI (a + b) ∧ Rn 0 588 L (vI (a + b) :: st) T σ K := R_iadd (by decide +kernel)
theorem s0_588 : Rn 0 588 L (vI a :: vR o :: st) T σ K ↔ ((sx_kd T o = 20 ∨ (sx_kd T o = 23 ∧ o = 0)) ∧ 0 ≤ a ∧ a < sx_ln T o) ∧ Rn 0 589 L (vI (σ o a) :: st) T σ K := R_iald0 (by decide +kernel)
theorem s0_589 : Rn 0 589 [some (vR o), l1, l2, l3] st T σ K ↔ Rn 0 590 [some (vR o), l1, l2, l3] (vR o :: st) T σ K := R_aload_n (n := 0) (by decide +kernel) rfl
theorem s0_590 : Rn 0 590 [l0, l1, l2, some (vI a)] st T σ K ↔ Rn 0 591 [l0, l1, l2, some (vI a)] (vI a :: st) T σ K := R_iload_n (n := 3) (by decide +kernel) rfl
theorem s0_591 : Rn 0 591 L st T σ K ↔ Rn 0 592 L (vI 2 :: st) T σ K := R_iconst (n := 2) (by decide +kernel) (by decide)
theorem s0_592 : Rn 0 592 L (vI b :: vI a :: st) T σ K ↔ inI (a + b) ∧ Rn 0 593 L (vI (a + b) :: st) T σ K := R_iadd (by decide +kernel)
theorem s0_593 : Rn 0 593 L (vI a :: vR o :: st) T σ K ↔ ((sx_kd T o = 20 ∨ (sx_kd T o = 23 ∧ o = 0)) ∧ 0 ≤ a ∧ a < sx_ln T o) ∧ Rn 0 594 L (vI (σ o a) :: st) T σ K := R_iald0 (by decide +kernel)
theorem s0_594 : Rn 0 594 L (vI b :: vI a :: vR o :: st) T σ K ↔ (sx_kd T o = 9 ∧ st.length ≤ 4) ∧ Rn 217 0 [some (vR o), some (vI a), some (vI b), none, none] [] T σ (fun r T' σ' => Rn 0 597 L (sx_push r st) T' σ' K) := R_V (cm := 217) (n := 2) (idx := 66) (ci := 9) (mx := 5) (vs := [vI a, vI b]) (by decide +kernel) (by decide +kernel) rfl (by decide +kernel) rfl (by decide +kernel) (by decide +kernel)
theorem s0_597 : Rn 0 597 L (vI b :: vI a :: st) T σ K ↔ (a = b → Rn 0 1657 L st T σ K) ∧ (a ≠ b → Rn 0 600 L st T σ K) := R_icmp_eq (off := 1060) (by decide +kernel) (by decide)
theorem s0_600 : Rn 0 600 L st T σ K ↔ Rn 0 601 L (vI 0 :: st) T σ K := R_iconst (n := 0) (by decide +kernel) (by decide)
theorem s0_601 : Rn 0 601 L [vI a] T σ K ↔ (a = 0 ∨ a = 1) ∧ K (some (vI a)) T σ := R_retZ (by decide +kernel) (by decide +kernel)
theorem s0_602 : Rn 0 602 [l0, some (vR o), l2, l3] st T σ K ↔ Rn 0 603 [l0, some (vR o), l2, l3] (vR o :: st) T σ K := R_aload_n (n := 1) (by decide +kernel) rfl
theorem s0_603 : Rn 0 603 [some (vR o), l1, l2, l3] st T σ K ↔ Rn 0 604 [some (vR o), l1, l2, l3] (vR o :: st) T σ K := R_aload_n (n := 0) (by decide +kernel) rfl
theorem s0_604 : Rn 0 604 [l0, l1, l2, some (vI a)] st T σ K ↔ Rn 0 605 [l0, l1, l2, some (vI a)] (vI a :: st) T σ K := R_iload_n (n := 3) (by decide +kernel) rfl
theorem s0_605 : Rn 0 605 L st T σ K ↔ Rn 0 606 L (vI 1 :: st) T σ K := R_iconst (n := 1) (by decide +kernel) (by decide)
theorem s0_606 : Rn 0 606 L (vI b :: vI a :: st) T σ K ↔ inI (a + b) ∧ Rn 0 607 L (vI (a + b) :: st) T σ K := R_iadd (by decide +kernel)
theorem s0_607 : Rn 0 607 L (vI a :: vR o :: st) T σ K ↔ ((sx_kd T o = 20 ∨ (sx_kd T o = 23 ∧ o = 0)) ∧ 0 ≤ a ∧ a < sx_ln T o) ∧ Rn 0 608 L (vI (σ o a) :: st) T σ K := R_iald0 (by decide +kernel)
theorem s0_608 : Rn 0 608 [some (vR o), l1, l2, l3] st T σ K ↔ Rn 0 609 [some (vR o), l1, l2, l3] (vR o :: st) T σ K := R_aload_n (n := 0) (by decide +kernel) rfl
theorem s0_609 : Rn 0 609 [l0, l1, l2, some (vI a)] st T σ K ↔ Rn 0 610 [l0, l1, l2, some (vI a)] (vI a :: st) T σ K := R_iload_n (n := 3) (by decide +kernel) rfl
theorem s0_610 : Rn 0 610 L st T σ K ↔ Rn 0 611 L (vI 2 :: st) T σ K := R_iconst (n := 2) (by decide +kernel) (by decide)
theorem s0_611 : Rn 0 611 L (vI b :: vI a :: st) T σ K ↔ inI (a + b) ∧ Rn 0 612 L (vI (a + b) :: st) T σ K := R_iadd (by decide +kernel)
theorem s0_612 : Rn 0 612 L (vI a :: vR o :: st) T σ K ↔ ((sx_kd T o = 20 ∨ (sx_kd T o = 23 ∧ o = 0)) ∧ 0 ≤ a ∧ a < sx_ln T o) ∧ Rn 0 613 L (vI (σ o a) :: st) T σ K := R_iald0 (by decide +kernel)
theorem s0_613 : Rn 0 613 L (vI b :: vI a :: vR o :: st) T σ K ↔ (sx_kd T o = 8 ∧ st.length ≤ 4) ∧ Rn 67 0 [some (vR o), some (vI a), some (vI b)] [] T σ (fun r T' σ' => Rn 0 616 L (sx_push r st) T' σ' K) := R_V (cm := 67) (n := 2) (idx := 67) (ci := 8) (mx := 3) (vs := [vI a, vI b]) (by decide +kernel) (by decide +kernel) rfl (by decide +kernel) rfl (by decide +kernel) (by decide +kernel)
theorem s0_616 : Rn 0 616 [l0, l1, some (vR o), l3] st T σ K ↔ Rn 0 617 [l0, l1, some (vR o), l3] (vR o :: st) T σ K := R_aload_n (n := 2) (by decide +kernel) rfl
theorem s0_617 : Rn 0 617 [some (vR o), l1, l2, l3] st T σ K ↔ Rn 0 618 [some (vR o), l1, l2, l3] (vR o :: st) T σ K := R_aload_n (n := 0) (by decide +kernel) rfl
theorem s0_618 : Rn 0 618 [l0, l1, l2, some (vI a)] st T σ K ↔ Rn 0 619 [l0, l1, l2, some (vI a)] (vI a :: st) T σ K := R_iload_n (n := 3) (by decide +kernel) rfl
theorem s0_619 : Rn 0 619 L st T σ K ↔ Rn 0 620 L (vI 1 :: st) T σ K := R_iconst (n := 1) (by decide +kernel) (by decide)
theorem s0_620 : Rn 0 620 L (vI b :: vI a :: st) T σ K ↔ inI (a + b) ∧ Rn 0 621 L (vI (a + b) :: st) T σ K := R_iadd (by decide +kernel)
theorem s0_621 : Rn 0 621 L (vI a :: vR o :: st) T σ K ↔ ((sx_kd T o = 20 ∨ (sx_kd T o = 23 ∧ o = 0)) ∧ 0 ≤ a ∧ a < sx_ln T o) ∧ Rn 0 622 L (vI (σ o a) :: st) T σ K := R_iald0 (by decide +kernel)
theorem s0_622 : Rn 0 622 [some (vR o), l1, l2, l3] st T σ K ↔ Rn 0 623 [some (vR o), l1, l2, l3] (vR o :: st) T σ K := R_aload_n (n := 0) (by decide +kernel) rfl
theorem s0_623 : Rn 0 623 [l0, l1, l2, some (vI a)] st T σ K ↔ Rn 0 624 [l0, l1, l2, some (vI a)] (vI a :: st) T σ K := R_iload_n (n := 3) (by decide +kernel) rfl
theorem s0_624 : Rn 0 624 L st T σ K ↔ Rn 0 625 L (vI 2 :: st) T σ K := R_iconst (n := 2) (by decide +kernel) (by decide)
theorem s0_625 : Rn 0 625 L (vI b :: vI a :: st) T σ K ↔ inI (a + b) ∧ Rn 0 626 L (vI (a + b) :: st) T σ K := R_iadd (by decide +kernel)
theorem s0_626 : Rn 0 626 L (vI a :: vR o :: st) T σ K ↔ ((sx_kd T o = 20 ∨ (sx_kd T o = 23 ∧ o = 0)) ∧ 0 ≤ a ∧ a < sx_ln T o) ∧ Rn 0 627 L (vI (σ o a) :: st) T σ K := R_iald0 (by decide +kernel)
theorem s0_627 : Rn 0 627 L (vI b :: vI a :: vR o :: st) T σ K ↔ (sx_kd T o = 9 ∧ st.length ≤ 4) ∧ Rn 218 0 [some (vR o), some (vI a), some (vI b)] [] T σ (fun r T' σ' => Rn 0 630 L (sx_push r st) T' σ' K) := R_V (cm := 218) (n := 2) (idx := 70) (ci := 9) (mx := 3) (vs := [vI a, vI b]) (by decide +kernel) (by decide +kernel) rfl (by decide +kernel) rfl (by decide +kernel) (by decide +kernel)
theorem s0_630 : Rn 0 630 L (vI b :: vI a :: st) T σ K ↔ (a = b → Rn 0 1657 L st T σ K) ∧ (a ≠ b → Rn 0 633 L st T σ K) := R_icmp_eq (off := 1027) (by decide +kernel) (by decide)
theorem s0_633 : Rn 0 633 L st T σ K ↔ Rn 0 634 L (vI 0 :: st) T σ K := R_iconst (n := 0) (by decide +kernel) (by decide)
theorem s0_634 : Rn 0 634 L [vI a] T σ K ↔ (a = 0 ∨ a = 1) ∧ K (some (vI a)) T σ := R_retZ (by decide +kernel) (by decide +kernel)
theorem s0_635 : Rn 0 635 [l0, some (vR o), l2, l3] st T σ K ↔ Rn 0 636 [l0, some (vR o), l2, l3] (vR o :: st) T σ K := R_aload_n (n := 1) (by decide +kernel) rfl
theorem s0_636 : Rn 0 636 [some (vR o), l1, l2, l3] st T σ K ↔ Rn 0 637 [some (vR o), l1, l2, l3] (vR o :: st) T σ K := R_aload_n (n := 0) (by decide +kernel) rfl
theorem s0_637 : Rn 0 637 [l0, l1, l2, some (vI a)] st T σ K ↔ Rn 0 638 [l0, l1, l2, some (vI a)] (vI a :: st) T σ K := R_iload_n (n := 3) (by decide +kernel) rfl
theorem s0_638 : Rn 0 638 L st T σ K ↔ Rn 0 639 L (vI 1 :: st) T σ K := R_iconst (n := 1) (by decide +kernel) (by decide)
theorem s0_639 : Rn 0 639 L (vI b :: vI a :: st) T σ K ↔ inI (a + b) ∧ Rn 0 640 L (vI (a + b) :: st) T σ K := R_iadd (by decide +kernel)
theorem s0_640 : Rn 0 640 L (vI a :: vR o :: st) T σ K ↔ ((sx_kd T o = 20 ∨ (sx_kd T o = 23 ∧ o = 0)) ∧ 0 ≤ a ∧ a < sx_ln T o) ∧ Rn 0 641 L (vI (σ o a) :: st) T σ K := R_iald0 (by decide +kernel)
theorem s0_641 : Rn 0 641 [some (vR o), l1, l2, l3] st T σ K ↔ Rn 0 642 [some (vR o), l1, l2, l3] (vR o :: st) T σ K := R_aload_n (n := 0) (by decide +kernel) rfl
theorem s0_642 : Rn 0 642 [l0, l1, l2, some (vI a)] st T σ K ↔ Rn 0 643 [l0, l1, l2, some (vI a)] (vI a :: st) T σ K := R_iload_n (n := 3) (by decide +kernel) rfl
theorem s0_643 : Rn 0 643 L st T σ K ↔ Rn 0 644 L (vI 2 :: st) T σ K := R_iconst (n := 2) (by decide +kernel) (by decide)
theorem s0_644 : Rn 0 644 L (vI b :: vI a :: st) T σ K ↔ inI (a + b) ∧ Rn 0 645 L (vI (a + b) :: st) T σ K := R_iadd (by decide +kernel)
theorem s0_645 : Rn 0 645 L (vI a :: vR o :: st) T σ K ↔ ((sx_kd T o = 20 ∨ (sx_kd T o = 23 ∧ o = 0)) ∧ 0 ≤ a ∧ a < sx_ln T o) ∧ Rn 0 646 L (vI (σ o a) :: st) T σ K := R_iald0 (by decide +kernel)
theorem s0_646 : Rn 0 646 L (vI b :: vI a :: vR o :: st) T σ K ↔ (sx_kd T o = 8 ∧ st.length ≤ 4) ∧ Rn 69 0 [some (vR o), some (vI a), some (vI b)] [] T σ (fun r T' σ' => Rn 0 649 L (sx_push r st) T' σ' K) := R_V (cm := 69) (n := 2) (idx := 71) (ci := 8) (mx := 3) (vs := [vI a, vI b]) (by decide +kernel) (by decide +kernel) rfl (by decide +kernel) rfl (by decide +kernel) (by decide +kernel)
theorem s0_649 : Rn 0 649 [l0, l1, some (vR o), l3] st T σ K ↔ Rn 0 650 [l0, l1, some (vR o), l3] (vR o :: st) T σ K := R_aload_n (n := 2) (by decide +kernel) rfl
theorem s0_650 : Rn 0 650 [some (vR o), l1, l2, l3] st T σ K ↔ Rn 0 651 [some (vR o), l1, l2, l3] (vR o :: st) T σ K := R_aload_n (n := 0) (by decide +kernel) rfl
theorem s0_651 : Rn 0 651 [l0, l1, l2, some (vI a)] st T σ K ↔ Rn 0 652 [l0, l1, l2, some (vI a)] (vI a :: st) T σ K := R_iload_n (n := 3) (by decide +kernel) rfl
theorem s0_652 : Rn 0 652 L st T σ K ↔ Rn 0 653 L (vI 1 :: st) T σ K := R_iconst (n := 1) (by decide +kernel) (by decide)
theorem s0_653 : Rn 0 653 L (vI b :: vI a :: st) T σ K ↔ inI (a + b) ∧ Rn 0 654 L (vI (a + b) :: st) T σ K := R_iadd (by decide +kernel)
theorem s0_654 : Rn 0 654 L (vI a :: vR o :: st) T σ K ↔ ((sx_kd T o = 20 ∨ (sx_kd T o = 23 ∧ o = 0)) ∧ 0 ≤ a ∧ a < sx_ln T o) ∧ Rn 0 655 L (vI (σ o a) :: st) T σ K := R_iald0 (by decide +kernel)
theorem s0_655 : Rn 0 655 [some (vR o), l1, l2, l3] st T σ K ↔ Rn 0 656 [some (vR o), l1, l2, l3] (vR o :: st) T σ K := R_aload_n (n := 0) (by decide +kernel) rfl
theorem s0_656 : Rn 0 656 [l0, l1, l2, some (vI a)] st T σ K ↔ Rn 0 657 [l0, l1, l2, some (vI a)] (vI a :: st) T σ K := R_iload_n (n := 3) (by decide +kernel) rfl
theorem s0_657 : Rn 0 657 L st T σ K ↔ Rn 0 658 L (vI 2 :: st) T σ K := R_iconst (n := 2) (by decide +kernel) (by decide)
theorem s0_658 : Rn 0 658 L (vI b :: vI a :: st) T σ K ↔ inI (a + b) ∧ Rn 0 659 L (vI (a + b) :: st) T σ K := R_iadd (by decide +kernel)
theorem s0_659 : Rn 0 659 L (vI a :: vR o :: st) T σ K ↔ ((sx_kd T o = 20 ∨ (sx_kd T o = 23 ∧ o = 0)) ∧ 0 ≤ a ∧ a < sx_ln T o) ∧ Rn 0 660 L (vI (σ o a) :: st) T σ K := R_iald0 (by decide +kernel)
theorem s0_660 : Rn 0 660 L (vI b :: vI a :: vR o :: st) T σ K ↔ (sx_kd T o = 9 ∧ st.length ≤ 4) ∧ Rn 220 0 [some (vR o), some (vI a), some (vI b)] [] T σ (fun r T' σ' => Rn 0 663 L (sx_push r st) T' σ' K) := R_V (cm := 220) (n := 2) (idx := 74) (ci := 9) (mx := 3) (vs := [vI a, vI b]) (by decide +kernel) (by decide +kernel) rfl (by decide +kernel) rfl (by decide +kernel) (by decide +kernel)
theorem s0_663 : Rn 0 663 L (vI b :: vI a :: st) T σ K ↔ (a = b → Rn 0 1657 L st T σ K) ∧ (a ≠ b → Rn 0 666 L st T σ K) := R_icmp_eq (off := 994) (by decide +kernel) (by decide)
theorem s0_666 : Rn 0 666 L st T σ K ↔ Rn 0 667 L (vI 0 :: st) T σ K := R_iconst (n := 0) (by decide +kernel) (by decide)
theorem s0_667 : Rn 0 667 L [vI a] T σ K ↔ (a = 0 ∨ a = 1) ∧ K (some (vI a)) T σ := R_retZ (by decide +kernel) (by decide +kernel)
theorem s0_668 : Rn 0 668 [l0, some (vR o), l2, l3] st T σ K ↔ Rn 0 669 [l0, some (vR o), l2, l3] (vR o :: st) T σ K := R_aload_n (n := 1) (by decide +kernel) rfl
theorem s0_669 : Rn 0 669 [some (vR o), l1, l2, l3] st T σ K ↔ Rn 0 670 [some (vR o), l1, l2, l3] (vR o :: st) T σ K := R_aload_n (n := 0) (by decide +kernel) rfl
theorem s0_670 : Rn 0 670 [l0, l1, l2, some (vI a)] st T σ K ↔ Rn 0 671 [l0, l1, l2, some (vI a)] (vI a :: st) T σ K := R_iload_n (n := 3) (by decide +kernel) rfl
theorem s0_671 : Rn 0 671 L st T σ K ↔ Rn 0 672 L (vI 1 :: st) T σ K := R_iconst (n := 1) (by decide +kernel) (by decide)
theorem s0_672 : Rn 0 672 L (vI b :: vI a :: st) T σ K ↔ inI (a + b) ∧ Rn 0 673 L (vI (a + b) :: st) T σ K := R_iadd (by decide +kernel)
theorem s0_673 : Rn 0 673 L (vI a :: vR o :: st) T σ K ↔ ((sx_kd T o = 20 ∨ (sx_kd T o = 23 ∧ o = 0)) ∧ 0 ≤ a ∧ a < sx_ln T o) ∧ Rn 0 674 L (vI (σ o a) :: st) T σ K := R_iald0 (by decide +kernel)
theorem s0_674 : Rn 0 674 L (vI a :: vR o :: st) T σ K ↔ (sx_kd T o = 8 ∧ st.length ≤ 4) ∧ Rn 74 0 [some (vR o), some (vI a), none] [] T σ (fun r T' σ' => Rn 0 677 L (sx_push r st) T' σ' K) := R_V (cm := 74) (n := 1) (idx := 75) (ci := 8) (mx := 3) (vs := [vI a]) (by decide +kernel) (by decide +kernel) rfl (by decide +kernel) rfl (by decide +kernel) (by decide +kernel)
theorem s0_677 : Rn 0 677 [l0, l1, some (vR o), l3] st T σ K ↔ Rn 0 678 [l0, l1, some (vR o), l3] (vR o :: st) T σ K := R_aload_n (n := 2) (by decide +kernel) rfl
theorem s0_678 : Rn 0 678 [some (vR o), l1, l2, l3] st T σ K ↔ Rn 0 679 [some (vR o), l1, l2, l3] (vR o :: st) T σ K := R_aload_n (n := 0) (by decide +kernel) rfl
theorem s0_679 : Rn 0 679 [l0, l1, l2, some (vI a)] st T σ K ↔ Rn 0 680 [l0, l1, l2, some (vI a)] (vI a :: st) T σ K := R_iload_n (n := 3) (by decide +kernel) rfl
theorem s0_680 : Rn 0 680 L st T σ K ↔ Rn 0 681 L (vI 1 :: st) T σ K := R_iconst (n := 1) (by decide +kernel) (by decide)
theorem s0_681 : Rn 0 681 L (vI b :: vI a :: st) T σ K ↔ inI (a + b) ∧ Rn 0 682 L (vI (a + b) :: st) T σ K := R_iadd (by decide +kernel)
theorem s0_682 : Rn 0 682 L (vI a :: vR o :: st) T σ K ↔ ((sx_kd T o = 20 ∨ (sx_kd T o = 23 ∧ o = 0)) ∧ 0 ≤ a ∧ a < sx_ln T o) ∧ Rn 0 683 L (vI (σ o a) :: st) T σ K := R_iald0 (by decide +kernel)
theorem s0_683 : Rn 0 683 L (vI a :: vR o :: st) T σ K ↔ (sx_kd T o = 9 ∧ st.length ≤ 4) ∧ Rn 224 0 [some (vR o), some (vI a), none, none] [] T σ (fun r T' σ' => Rn 0 686 L (sx_push r st) T' σ' K) := R_V (cm := 224) (n := 1) (idx := 78) (ci := 9) (mx := 4) (vs := [vI a]) (by decide +kernel) (by decide +kernel) rfl (by decide +kernel) rfl (by decide +kernel) (by decide +kernel)
theorem s0_686 : Rn 0 686 L (vI b :: vI a :: st) T σ K ↔ (a = b → Rn 0 1657 L st T σ K) ∧ (a ≠ b → Rn 0 689 L st T σ K) := R_icmp_eq (off := 971) (by decide +kernel) (by decide)
theorem s0_689 : Rn 0 689 L st T σ K ↔ Rn 0 690 L (vI 0 :: st) T σ K := R_iconst (n := 0) (by decide +kernel) (by decide)
theorem s0_690 : Rn 0 690 L [vI a] T σ K ↔ (a = 0 ∨ a = 1) ∧ K (some (vI a)) T σ := R_retZ (by decide +kernel) (by decide +kernel)
theorem s0_691 : Rn 0 691 [l0, some (vR o), l2, l3] st T σ K ↔ Rn 0 692 [l0, some (vR o), l2, l3] (vR o :: st) T σ K := R_aload_n (n := 1) (by decide +kernel) rfl
theorem s0_692 : Rn 0 692 [some (vR o), l1, l2, l3] st T σ K ↔ Rn 0 693 [some (vR o), l1, l2, l3] (vR o :: st) T σ K := R_aload_n (n := 0) (by decide +kernel) rfl
theorem s0_693 : Rn 0 693 [l0, l1, l2, some (vI a)] st T σ K ↔ Rn 0 694 [l0, l1, l2, some (vI a)] (vI a :: st) T σ K := R_iload_n (n := 3) (by decide +kernel) rfl
theorem s0_694 : Rn 0 694 L st T σ K ↔ Rn 0 695 L (vI 1 :: st) T σ K := R_iconst (n := 1) (by decide +kernel) (by decide)
theorem s0_695 : Rn 0 695 L (vI b :: vI a :: st) T σ K ↔ inI (a + b) ∧ Rn 0 696 L (vI (a + b) :: st) T σ K := R_iadd (by decide +kernel)
theorem s0_696 : Rn 0 696 L (vI a :: vR o :: st) T σ K ↔ ((sx_kd T o = 20 ∨ (sx_kd T o = 23 ∧ o = 0)) ∧ 0 ≤ a ∧ a < sx_ln T o) ∧ Rn 0 697 L (vI (σ o a) :: st) T σ K := R_iald0 (by decide +kernel)
theorem s0_697 : Rn 0 697 [some (vR o), l1, l2, l3] st T σ K ↔ Rn 0 698 [some (vR o), l1, l2, l3] (vR o :: st) T σ K := R_aload_n (n := 0) (by decide +kernel) rfl
theorem s0_698 : Rn 0 698 [l0, l1, l2, some (vI a)] st T σ K ↔ Rn 0 699 [l0, l1, l2, some (vI a)] (vI a :: st) T σ K := R_iload_n (n := 3) (by decide +kernel) rfl
theorem s0_699 : Rn 0 699 L st T σ K ↔ Rn 0 700 L (vI 2 :: st) T σ K := R_iconst (n := 2) (by decide +kernel) (by decide)
theorem s0_700 : Rn 0 700 L (vI b :: vI a :: st) T σ K ↔ inI (a + b) ∧ Rn 0 701 L (vI (a + b) :: st) T σ K := R_iadd (by decide +kernel)
theorem s0_701 : Rn 0 701 L (vI a :: vR o :: st) T σ K ↔ ((sx_kd T o = 20 ∨ (sx_kd T o = 23 ∧ o = 0)) ∧ 0 ≤ a ∧ a < sx_ln T o) ∧ Rn 0 702 L (vI (σ o a) :: st) T σ K := R_iald0 (by decide +kernel)
theorem s0_702 : Rn 0 702 [some (vR o), l1, l2, l3] st T σ K ↔ Rn 0 703 [some (vR o), l1, l2, l3] (vR o :: st) T σ K := R_aload_n (n := 0) (by decide +kernel) rfl
theorem s0_703 : Rn 0 703 [l0, l1, l2, some (vI a)] st T σ K ↔ Rn 0 704 [l0, l1, l2, some (vI a)] (vI a :: st) T σ K := R_iload_n (n := 3) (by decide +kernel) rfl
theorem s0_704 : Rn 0 704 L st T σ K ↔ Rn 0 705 L (vI 3 :: st) T σ K := R_iconst (n := 3) (by decide +kernel) (by decide)
theorem s0_705 : Rn 0 705 L (vI b :: vI a :: st) T σ K ↔ inI (a + b) ∧ Rn 0 706 L (vI (a + b) :: st) T σ K := R_iadd (by decide +kernel)
theorem s0_706 : Rn 0 706 L (vI a :: vR o :: st) T σ K ↔ ((sx_kd T o = 20 ∨ (sx_kd T o = 23 ∧ o = 0)) ∧ 0 ≤ a ∧ a < sx_ln T o) ∧ Rn 0 707 L (vI (σ o a) :: st) T σ K := R_iald0 (by decide +kernel)
theorem s0_707 : Rn 0 707 L (vI c :: vI b :: vI a :: vR o :: st) T σ K ↔ (sx_kd T o = 8 ∧ st.length ≤ 4) ∧ Rn 76 0 [some (vR o), some (vI a), some (vI b), some (vI c), none] [] T σ (fun r T' σ' => Rn 0 710 L (sx_push r st) T' σ' K) := R_V (cm := 76) (n := 3) (idx := 79) (ci := 8) (mx := 5) (vs := [vI a, vI b, vI c]) (by decide +kernel) (by decide +kernel) rfl (by decide +kernel) rfl (by decide +kernel) (by decide +kernel)
theorem s0_710 : Rn 0 710 [l0, l1, some (vR o), l3] st T σ K ↔ Rn 0 711 [l0, l1, some (vR o), l3] (vR o :: st) T σ K := R_aload_n (n := 2) (by decide +kernel) rfl
theorem s0_711 : Rn 0 711 [some (vR o), l1, l2, l3] st T σ K ↔ Rn 0 712 [some (vR o), l1, l2, l3] (vR o :: st) T σ K := R_aload_n (n := 0) (by decide +kernel) rfl
theorem s0_712 : Rn 0 712 [l0, l1, l2, some (vI a)] st T σ K ↔ Rn 0 713 [l0, l1, l2, some (vI a)] (vI a :: st) T σ K := R_iload_n (n := 3) (by decide +kernel) rfl
theorem s0_713 : Rn 0 713 L st T σ K ↔ Rn 0 714 L (vI 1 :: st) T σ K := R_iconst (n := 1) (by decide +kernel) (by decide)
theorem s0_714 : Rn 0 714 L (vI b :: vI a :: st) T σ K ↔ inI (a + b) ∧ Rn 0 715 L (vI (a + b) :: st) T σ K := R_iadd (by decide +kernel)
theorem s0_715 : Rn 0 715 L (vI a :: vR o :: st) T σ K ↔ ((sx_kd T o = 20 ∨ (sx_kd T o = 23 ∧ o = 0)) ∧ 0 ≤ a ∧ a < sx_ln T o) ∧ Rn 0 716 L (vI (σ o a) :: st) T σ K := R_iald0 (by decide +kernel)
theorem s0_716 : Rn 0 716 [some (vR o), l1, l2, l3] st T σ K ↔ Rn 0 717 [some (vR o), l1, l2, l3] (vR o :: st) T σ K := R_aload_n (n := 0) (by decide +kernel) rfl
theorem s0_717 : Rn 0 717 [l0, l1, l2, some (vI a)] st T σ K ↔ Rn 0 718 [l0, l1, l2, some (vI a)] (vI a :: st) T σ K := R_iload_n (n := 3) (by decide +kernel) rfl
theorem s0_718 : Rn 0 718 L st T σ K ↔ Rn 0 719 L (vI 2 :: st) T σ K := R_iconst (n := 2) (by decide +kernel) (by decide)
theorem s0_719 : Rn 0 719 L (vI b :: vI a :: st) T σ K ↔ inI (a + b) ∧ Rn 0 720 L (vI (a + b) :: st) T σ K := R_iadd (by decide +kernel)
theorem s0_720 : Rn 0 720 L (vI a :: vR o :: st) T σ K ↔ ((sx_kd T o = 20 ∨ (sx_kd T o = 23 ∧ o = 0)) ∧ 0 ≤ a ∧ a < sx_ln T o) ∧ Rn 0 721 L (vI (σ o a) :: st) T σ K := R_iald0 (by decide +kernel)
theorem s0_721 : Rn 0 721 [some (vR o), l1, l2, l3] st T σ K ↔ Rn 0 722 [some (vR o), l1, l2, l3] (vR o :: st) T σ K := R_aload_n (n := 0) (by decide +kernel) rfl
theorem s0_722 : Rn 0 722 [l0, l1, l2, some (vI a)] st T σ K ↔ Rn 0 723 [l0, l1, l2, some (vI a)] (vI a :: st) T σ K := R_iload_n (n := 3) (by decide +kernel) rfl
theorem s0_723 : Rn 0 723 L st T σ K ↔ Rn 0 724 L (vI 3 :: st) T σ K := R_iconst (n := 3) (by decide +kernel) (by decide)
theorem s0_724 : Rn 0 724 L (vI b :: vI a :: st) T σ K ↔ inI (a + b) ∧ Rn 0 725 L (vI (a + b) :: st) T σ K := R_iadd (by decide +kernel)
theorem s0_725 : Rn 0 725 L (vI a :: vR o :: st) T σ K ↔ ((sx_kd T o = 20 ∨ (sx_kd T o = 23 ∧ o = 0)) ∧ 0 ≤ a ∧ a < sx_ln T o) ∧ Rn 0 726 L (vI (σ o a) :: st) T σ K := R_iald0 (by decide +kernel)
theorem s0_726 : Rn 0 726 L (vI c :: vI b :: vI a :: vR o :: st) T σ K ↔ (sx_kd T o = 9 ∧ st.length ≤ 4) ∧ Rn 225 0 [some (vR o), some (vI a), some (vI b), some (vI c), none, none, none] [] T σ (fun r T' σ' => Rn 0 729 L (sx_push r st) T' σ' K) := R_V (cm := 225) (n := 3) (idx := 82) (ci := 9) (mx := 7) (vs := [vI a, vI b, vI c]) (by decide +kernel) (by decide +kernel) rfl (by decide +kernel) rfl (by decide +kernel) (by decide +kernel)
theorem s0_729 : Rn 0 729 L (vI b :: vI a :: st) T σ K ↔ (a = b → Rn 0 1657 L st T σ K) ∧ (a ≠ b → Rn 0 732 L st T σ K) := R_icmp_eq (off := 928) (by decide +kernel) (by decide)
theorem s0_732 : Rn 0 732 L st T σ K ↔ Rn 0 733 L (vI 0 :: st) T σ K := R_iconst (n := 0) (by decide +kernel) (by decide)
theorem s0_733 : Rn 0 733 L [vI a] T σ K ↔ (a = 0 ∨ a = 1) ∧ K (some (vI a)) T σ := R_retZ (by decide +kernel) (by decide +kernel)
theorem s0_734 : Rn 0 734 [l0, some (vR o), l2, l3] st T σ K ↔ Rn 0 735 [l0, some (vR o), l2, l3] (vR o :: st) T σ K := R_aload_n (n := 1) (by decide +kernel) rfl
theorem s0_735 : Rn 0 735 [some (vR o), l1, l2, l3] st T σ K ↔ Rn 0 736 [some (vR o), l1, l2, l3] (vR o :: st) T σ K := R_aload_n (n := 0) (by decide +kernel) rfl
theorem s0_736 : Rn 0 736 [l0, l1, l2, some (vI a)] st T σ K ↔ Rn 0 737 [l0, l1, l2, some (vI a)] (vI a :: st) T σ K := R_iload_n (n := 3) (by decide +kernel) rfl
theorem s0_737 : Rn 0 737 L st T σ K ↔ Rn 0 738 L (vI 1 :: st) T σ K := R_iconst (n := 1) (by decide +kernel) (by decide)
theorem s0_738 : Rn 0 738 L (vI b :: vI a :: st) T σ K ↔ inI (a + b) ∧ Rn 0 739 L (vI (a + b) :: st) T σ K := R_iadd (by decide +kernel)
theorem s0_739 : Rn 0 739 L (vI a :: vR o :: st) T σ K ↔ ((sx_kd T o = 20 ∨ (sx_kd T o = 23 ∧ o = 0)) ∧ 0 ≤ a ∧ a < sx_ln T o) ∧ Rn 0 740 L (vI (σ o a) :: st) T σ K := R_iald0 (by decide +kernel)
theorem s0_740 : Rn 0 740 L (vI a :: vR o :: st) T σ K ↔ (sx_kd T o = 8 ∧ st.length ≤ 4) ∧ Rn 84 0 [some (vR o), some (vI a)] [] T σ (fun r T' σ' => Rn 0 743 L (sx_push r st) T' σ' K) := R_V (cm := 84) (n := 1) (idx := 83) (ci := 8) (mx := 2) (vs := [vI a]) (by decide +kernel) (by decide +kernel) rfl (by decide +kernel) rfl (by decide +kernel) (by decide +kernel)
theorem s0_743 : Rn 0 743 [l0, l1, some (vR o), l3] st T σ K ↔ Rn 0 744 [l0, l1, some (vR o), l3] (vR o :: st) T σ K := R_aload_n (n := 2) (by decide +kernel) rfl
theorem s0_744 : Rn 0 744 [some (vR o), l1, l2, l3] st T σ K ↔ Rn 0 745 [some (vR o), l1, l2, l3] (vR o :: st) T σ K := R_aload_n (n := 0) (by decide +kernel) rfl
theorem s0_745 : Rn 0 745 [l0, l1, l2, some (vI a)] st T σ K ↔ Rn 0 746 [l0, l1, l2, some (vI a)] (vI a :: st) T σ K := R_iload_n (n := 3) (by decide +kernel) rfl
theorem s0_746 : Rn 0 746 L st T σ K ↔ Rn 0 747 L (vI 1 :: st) T σ K := R_iconst (n := 1) (by decide +kernel) (by decide)
theorem s0_747 : Rn 0 747 L (vI b :: vI a :: st) T σ K ↔ inI (a + b) ∧ Rn 0 748 L (vI (a + b) :: st) T σ K := R_iadd (by decide +kernel)
theorem s0_748 : Rn 0 748 L (vI a :: vR o :: st) T σ K ↔ ((sx_kd T o = 20 ∨ (sx_kd T o = 23 ∧ o = 0)) ∧ 0 ≤ a ∧ a < sx_ln T o) ∧ Rn 0 749 L (vI (σ o a) :: st) T σ K := R_iald0 (by decide +kernel)
theorem s0_749 : Rn 0 749 L (vI a :: vR o :: st) T σ K ↔ (sx_kd T o = 9 ∧ st.length ≤ 4) ∧ Rn 232 0 [some (vR o), some (vI a)] [] T σ (fun r T' σ' => Rn 0 752 L (sx_push r st) T' σ' K) := R_V (cm := 232) (n := 1) (idx := 86) (ci := 9) (mx := 2) (vs := [vI a]) (by decide +kernel) (by decide +kernel) rfl (by decide +kernel) rfl (by decide +kernel) (by decide +kernel)
theorem s0_752 : Rn 0 752 L (vI b :: vI a :: st) T σ K ↔ (a = b → Rn 0 1657 L st T σ K) ∧ (a ≠ b → Rn 0 755 L st T σ K) := R_icmp_eq (off := 905) (by decide +kernel) (by decide)
theorem s0_755 : Rn 0 755 L st T σ K ↔ Rn 0 756 L (vI 0 :: st) T σ K := R_iconst (n := 0) (by decide +kernel) (by decide)
theorem s0_756 : Rn 0 756 L [vI a] T σ K ↔ (a = 0 ∨ a = 1) ∧ K (some (vI a)) T σ := R_retZ (by decide +kernel) (by decide +kernel)
theorem s0_757 : Rn 0 757 [l0, some (vR o), l2, l3] st T σ K ↔ Rn 0 758 [l0, some (vR o), l2, l3] (vR o :: st) T σ K := R_aload_n (n := 1) (by decide +kernel) rfl
theorem s0_758 : Rn 0 758 [some (vR o), l1, l2, l3] st T σ K ↔ Rn 0 759 [some (vR o), l1, l2, l3] (vR o :: st) T σ K := R_aload_n (n := 0) (by decide +kernel) rfl
theorem s0_759 : Rn 0 759 [l0, l1, l2, some (vI a)] st T σ K ↔ Rn 0 760 [l0, l1, l2, some (vI a)] (vI a :: st) T σ K := R_iload_n (n := 3) (by decide +kernel) rfl
theorem s0_760 : Rn 0 760 L st T σ K ↔ Rn 0 761 L (vI 1 :: st) T σ K := R_iconst (n := 1) (by decide +kernel) (by decide)
theorem s0_761 : Rn 0 761 L (vI b :: vI a :: st) T σ K ↔ inI (a + b) ∧ Rn 0 762 L (vI (a + b) :: st) T σ K := R_iadd (by decide +kernel)
theorem s0_762 : Rn 0 762 L (vI a :: vR o :: st) T σ K ↔ ((sx_kd T o = 20 ∨ (sx_kd T o = 23 ∧ o = 0)) ∧ 0 ≤ a ∧ a < sx_ln T o) ∧ Rn 0 763 L (vI (σ o a) :: st) T σ K := R_iald0 (by decide +kernel)
theorem s0_763 : Rn 0 763 [some (vR o), l1, l2, l3] st T σ K ↔ Rn 0 764 [some (vR o), l1, l2, l3] (vR o :: st) T σ K := R_aload_n (n := 0) (by decide +kernel) rfl
theorem s0_764 : Rn 0 764 [l0, l1, l2, some (vI a)] st T σ K ↔ Rn 0 765 [l0, l1, l2, some (vI a)] (vI a :: st) T σ K := R_iload_n (n := 3) (by decide +kernel) rfl
theorem s0_765 : Rn 0 765 L st T σ K ↔ Rn 0 766 L (vI 2 :: st) T σ K := R_iconst (n := 2) (by decide +kernel) (by decide)
theorem s0_766 : Rn 0 766 L (vI b :: vI a :: st) T σ K ↔ inI (a + b) ∧ Rn 0 767 L (vI (a + b) :: st) T σ K := R_iadd (by decide +kernel)
theorem s0_767 : Rn 0 767 L (vI a :: vR o :: st) T σ K ↔ ((sx_kd T o = 20 ∨ (sx_kd T o = 23 ∧ o = 0)) ∧ 0 ≤ a ∧ a < sx_ln T o) ∧ Rn 0 768 L (vI (σ o a) :: st) T σ K := R_iald0 (by decide +kernel)
theorem s0_768 : Rn 0 768 L (vI b :: vI a :: vR o :: st) T σ K ↔ (sx_kd T o = 8 ∧ st.length ≤ 4) ∧ Rn 86 0 [some (vR o), some (vI a), some (vI b)] [] T σ (fun r T' σ' => Rn 0 771 L (sx_push r st) T' σ' K) := R_V (cm := 86) (n := 2) (idx := 87) (ci := 8) (mx := 3) (vs := [vI a, vI b]) (by decide +kernel) (by decide +kernel) rfl (by decide +kernel) rfl (by decide +kernel) (by decide +kernel)
theorem s0_771 : Rn 0 771 [l0, l1, some (vR o), l3] st T σ K ↔ Rn 0 772 [l0, l1, some (vR o), l3] (vR o :: st) T σ K := R_aload_n (n := 2) (by decide +kernel) rfl
theorem s0_772 : Rn 0 772 [some (vR o), l1, l2, l3] st T σ K ↔ Rn 0 773 [some (vR o), l1, l2, l3] (vR o :: st) T σ K := R_aload_n (n := 0) (by decide +kernel) rfl
theorem s0_773 : Rn 0 773 [l0, l1, l2, some (vI a)] st T σ K ↔ Rn 0 774 [l0, l1, l2, some (vI a)] (vI a :: st) T σ K := R_iload_n (n := 3) (by decide +kernel) rfl
theorem s0_774 : Rn 0 774 L st T σ K ↔ Rn 0 775 L (vI 1 :: st) T σ K := R_iconst (n := 1) (by decide +kernel) (by decide)
theorem s0_775 : Rn 0 775 L (vI b :: vI a :: st) T σ K ↔ inI (a + b) ∧ Rn 0 776 L (vI (a + b) :: st) T σ K := R_iadd (by decide +kernel)
theorem s0_776 : Rn 0 776 L (vI a :: vR o :: st) T σ K ↔ ((sx_kd T o = 20 ∨ (sx_kd T o = 23 ∧ o = 0)) ∧ 0 ≤ a ∧ a < sx_ln T o) ∧ Rn 0 777 L (vI (σ o a) :: st) T σ K := R_iald0 (by decide +kernel)
theorem s0_777 : Rn 0 777 [some (vR o), l1, l2, l3] st T σ K ↔ Rn 0 778 [some (vR o), l1, l2, l3] (vR o :: st) T σ K := R_aload_n (n := 0) (by decide +kernel) rfl
theorem s0_778 : Rn 0 778 [l0, l1, l2, some (vI a)] st T σ K ↔ Rn 0 779 [l0, l1, l2, some (vI a)] (vI a :: st) T σ K := R_iload_n (n := 3) (by decide +kernel) rfl
theorem s0_779 : Rn 0 779 L st T σ K ↔ Rn 0 780 L (vI 2 :: st) T σ K := R_iconst (n := 2) (by decide +kernel) (by decide)
theorem s0_780 : Rn 0 780 L (vI b :: vI a :: st) T σ K ↔ inI (a + b) ∧ Rn 0 781 L (vI (a + b) :: st) T σ K := R_iadd (by decide +kernel)
theorem s0_781 : Rn 0 781 L (vI a :: vR o :: st) T σ K ↔ ((sx_kd T o = 20 ∨ (sx_kd T o = 23 ∧ o = 0)) ∧ 0 ≤ a ∧ a < sx_ln T o) ∧ Rn 0 782 L (vI (σ o a) :: st) T σ K := R_iald0 (by decide +kernel)
theorem s0_782 : Rn 0 782 L (vI b :: vI a :: vR o :: st) T σ K ↔ (sx_kd T o = 9 ∧ st.length ≤ 4) ∧ Rn 233 0 [some (vR o), some (vI a), some (vI b)] [] T σ (fun r T' σ' => Rn 0 785 L (sx_push r st) T' σ' K) := R_V (cm := 233) (n := 2) (idx := 90) (ci := 9) (mx := 3) (vs := [vI a, vI b]) (by decide +kernel) (by decide +kernel) rfl (by decide +kernel) rfl (by decide +kernel) (by decide +kernel)
theorem s0_785 : Rn 0 785 L (vI b :: vI a :: st) T σ K ↔ (a = b → Rn 0 1657 L st T σ K) ∧ (a ≠ b → Rn 0 788 L st T σ K) := R_icmp_eq (off := 872) (by decide +kernel) (by decide)
theorem s0_788 : Rn 0 788 L st T σ K ↔ Rn 0 789 L (vI 0 :: st) T σ K := R_iconst (n := 0) (by decide +kernel) (by decide)
theorem s0_789 : Rn 0 789 L [vI a] T σ K ↔ (a = 0 ∨ a = 1) ∧ K (some (vI a)) T σ := R_retZ (by decide +kernel) (by decide +kernel)
theorem s0_790 : Rn 0 790 [l0, some (vR o), l2, l3] st T σ K ↔ Rn 0 791 [l0, some (vR o), l2, l3] (vR o :: st) T σ K := R_aload_n (n := 1) (by decide +kernel) rfl
theorem s0_791 : Rn 0 791 [some (vR o), l1, l2, l3] st T σ K ↔ Rn 0 792 [some (vR o), l1, l2, l3] (vR o :: st) T σ K := R_aload_n (n := 0) (by decide +kernel) rfl
theorem s0_792 : Rn 0 792 [l0, l1, l2, some (vI a)] st T σ K ↔ Rn 0 793 [l0, l1, l2, some (vI a)] (vI a :: st) T σ K := R_iload_n (n := 3) (by decide +kernel) rfl
theorem s0_793 : Rn 0 793 L st T σ K ↔ Rn 0 794 L (vI 1 :: st) T σ K := R_iconst (n := 1) (by decide +kernel) (by decide)
theorem s0_794 : Rn 0 794 L (vI b :: vI a :: st) T σ K ↔ inI (a + b) ∧ Rn 0 795 L (vI (a + b) :: st) T σ K := R_iadd (by decide +kernel)
theorem s0_795 : Rn 0 795 L (vI a :: vR o :: st) T σ K ↔ ((sx_kd T o = 20 ∨ (sx_kd T o = 23 ∧ o = 0)) ∧ 0 ≤ a ∧ a < sx_ln T o) ∧ Rn 0 796 L (vI (σ o a) :: st) T σ K := R_iald0 (by decide +kernel)
theorem s0_796 : Rn 0 796 [some (vR o), l1, l2, l3] st T σ K ↔ Rn 0 797 [some (vR o), l1, l2, l3] (vR o :: st) T σ K := R_aload_n (n := 0) (by decide +kernel) rfl
theorem s0_797 : Rn 0 797 [l0, l1, l2, some (vI a)] st T σ K ↔ Rn 0 798 [l0, l1, l2, some (vI a)] (vI a :: st) T σ K := R_iload_n (n := 3) (by decide +kernel) rfl
theorem s0_798 : Rn 0 798 L st T σ K ↔ Rn 0 799 L (vI 2 :: st) T σ K := R_iconst (n := 2) (by decide +kernel) (by decide)
theorem s0_799 : Rn 0 799 L (vI b :: vI a :: st) T σ K ↔ inI (a + b) ∧ Rn 0 800 L (vI (a + b) :: st) T σ K := R_iadd (by decide +kernel)
theorem s0_800 : Rn 0 800 L (vI a :: vR o :: st) T σ K ↔ ((sx_kd T o = 20 ∨ (sx_kd T o = 23 ∧ o = 0)) ∧ 0 ≤ a ∧ a < sx_ln T o) ∧ Rn 0 801 L (vI (σ o a) :: st) T σ K := R_iald0 (by decide +kernel)
theorem s0_801 : Rn 0 801 [some (vR o), l1, l2, l3] st T σ K ↔ Rn 0 802 [some (vR o), l1, l2, l3] (vR o :: st) T σ K := R_aload_n (n := 0) (by decide +kernel) rfl
theorem s0_802 : Rn 0 802 [l0, l1, l2, some (vI a)] st T σ K ↔ Rn 0 803 [l0, l1, l2, some (vI a)] (vI a :: st) T σ K := R_iload_n (n := 3) (by decide +kernel) rfl
theorem s0_803 : Rn 0 803 L st T σ K ↔ Rn 0 804 L (vI 3 :: st) T σ K := R_iconst (n := 3) (by decide +kernel) (by decide)
theorem s0_804 : Rn 0 804 L (vI b :: vI a :: st) T σ K ↔ inI (a + b) ∧ Rn 0 805 L (vI (a + b) :: st) T σ K := R_iadd (by decide +kernel)
theorem s0_805 : Rn 0 805 L (vI a :: vR o :: st) T σ K ↔ ((sx_kd T o = 20 ∨ (sx_kd T o = 23 ∧ o = 0)) ∧ 0 ≤ a ∧ a < sx_ln T o) ∧ Rn 0 806 L (vI (σ o a) :: st) T σ K := R_iald0 (by decide +kernel)
theorem s0_806 : Rn 0 806 [some (vR o), l1, l2, l3] st T σ K ↔ Rn 0 807 [some (vR o), l1, l2, l3] (vR o :: st) T σ K := R_aload_n (n := 0) (by decide +kernel) rfl
theorem s0_807 : Rn 0 807 [l0, l1, l2, some (vI a)] st T σ K ↔ Rn 0 808 [l0, l1, l2, some (vI a)] (vI a :: st) T σ K := R_iload_n (n := 3) (by decide +kernel) rfl
theorem s0_808 : Rn 0 808 L st T σ K ↔ Rn 0 809 L (vI 4 :: st) T σ K := R_iconst (n := 4) (by decide +kernel) (by decide)
theorem s0_809 : Rn 0 809 L (vI b :: vI a :: st) T σ K ↔ inI (a + b) ∧ Rn 0 810 L (vI (a + b) :: st) T σ K := R_iadd (by decide +kernel)
theorem s0_810 : Rn 0 810 L (vI a :: vR o :: st) T σ K ↔ ((sx_kd T o = 20 ∨ (sx_kd T o = 23 ∧ o = 0)) ∧ 0 ≤ a ∧ a < sx_ln T o) ∧ Rn 0 811 L (vI (σ o a) :: st) T σ K := R_iald0 (by decide +kernel)
theorem s0_811 : Rn 0 811 L (vI d :: vI c :: vI b :: vI a :: vR o :: st) T σ K ↔ (sx_kd T o = 8 ∧ st.length ≤ 4) ∧ Rn 87 0 [some (vR o), some (vI a), some (vI b), some (vI c), some (vI d), none, none] [] T σ (fun r T' σ' => Rn 0 814 L (sx_push r st) T' σ' K) := R_V (cm := 87) (n := 4) (idx := 91) (ci := 8) (mx := 7) (vs := [vI a, vI b, vI c, vI d]) (by decide +kernel) (by decide +kernel) rfl (by decide +kernel) rfl (by decide +kernel) (by decide +kernel)
theorem s0_814 : Rn 0 814 [l0, l1, some (vR o), l3] st T σ K ↔ Rn 0 815 [l0, l1, some (vR o), l3] (vR o :: st) T σ K := R_aload_n (n := 2) (by decide +kernel) rfl
theorem s0_815 : Rn 0 815 [some (vR o), l1, l2, l3] st T σ K ↔ Rn 0 816 [some (vR o), l1, l2, l3] (vR o :: st) T σ K := R_aload_n (n := 0) (by decide +kernel) rfl
theorem s0_816 : Rn 0 816 [l0, l1, l2, some (vI a)] st T σ K ↔ Rn 0 817 [l0, l1, l2, some (vI a)] (vI a :: st) T σ K := R_iload_n (n := 3) (by decide +kernel) rfl
theorem s0_817 : Rn 0 817 L st T σ K ↔ Rn 0 818 L (vI 1 :: st) T σ K := R_iconst (n := 1) (by decide +kernel) (by decide)
theorem s0_818 : Rn 0 818 L (vI b :: vI a :: st) T σ K ↔ inI (a + b) ∧ Rn 0 819 L (vI (a + b) :: st) T σ K := R_iadd (by decide +kernel)
theorem s0_819 : Rn 0 819 L (vI a :: vR o :: st) T σ K ↔ ((sx_kd T o = 20 ∨ (sx_kd T o = 23 ∧ o = 0)) ∧ 0 ≤ a ∧ a < sx_ln T o) ∧ Rn 0 820 L (vI (σ o a) :: st) T σ K := R_iald0 (by decide +kernel)
theorem s0_820 : Rn 0 820 [some (vR o), l1, l2, l3] st T σ K ↔ Rn 0 821 [some (vR o), l1, l2, l3] (vR o :: st) T σ K := R_aload_n (n := 0) (by decide +kernel) rfl
theorem s0_821 : Rn 0 821 [l0, l1, l2, some (vI a)] st T σ K ↔ Rn 0 822 [l0, l1, l2, some (vI a)] (vI a :: st) T σ K := R_iload_n (n := 3) (by decide +kernel) rfl
theorem s0_822 : Rn 0 822 L st T σ K ↔ Rn 0 823 L (vI 2 :: st) T σ K := R_iconst (n := 2) (by decide +kernel) (by decide)
theorem s0_823 : Rn 0 823 L (vI b :: vI a :: st) T σ K ↔ inI (a + b) ∧ Rn 0 824 L (vI (a + b) :: st) T σ K := R_iadd (by decide +kernel)
theorem s0_824 : Rn 0 824 L (vI a :: vR o :: st) T σ K ↔ ((sx_kd T o = 20 ∨ (sx_kd T o = 23 ∧ o = 0)) ∧ 0 ≤ a ∧ a < sx_ln T o) ∧ Rn 0 825 L (vI (σ o a) :: st) T σ K := R_iald0 (by decide +kernel)
theorem s0_825 : Rn 0 825 [some (vR o), l1, l2, l3] st T σ K ↔ Rn 0 826 [some (vR o), l1, l2, l3] (vR o :: st) T σ K := R_aload_n (n := 0) (by decide +kernel) rfl
theorem s0_826 : Rn 0 826 [l0, l1, l2, some (vI a)] st T σ K ↔ Rn 0 827 [l0, l1, l2, some (vI a)] (vI a :: st) T σ K := R_iload_n (n := 3) (by decide +kernel) rfl
theorem s0_827 : Rn 0 827 L st T σ K ↔ Rn 0 828 L (vI 3 :: st) T σ K := R_iconst (n := 3) (by decide +kernel) (by decide)
theorem s0_828 : Rn 0 828 L (vI b :: vI a :: st) T σ K ↔ inI (a + b) ∧ Rn 0 829 L (vI (a + b) :: st) T σ K := R_iadd (by decide +kernel)
theorem s0_829 : Rn 0 829 L (vI a :: vR o :: st) T σ K ↔ ((sx_kd T o = 20 ∨ (sx_kd T o = 23 ∧ o = 0)) ∧ 0 ≤ a ∧ a < sx_ln T o) ∧ Rn 0 830 L (vI (σ o a) :: st) T σ K := R_iald0 (by decide +kernel)
theorem s0_830 : Rn 0 830 [some (vR o), l1, l2, l3] st T σ K ↔ Rn 0 831 [some (vR o), l1, l2, l3] (vR o :: st) T σ K := R_aload_n (n := 0) (by decide +kernel) rfl
theorem s0_831 : Rn 0 831 [l0, l1, l2, some (vI a)] st T σ K ↔ Rn 0 832 [l0, l1, l2, some (vI a)] (vI a :: st) T σ K := R_iload_n (n := 3) (by decide +kernel) rfl
theorem s0_832 : Rn 0 832 L st T σ K ↔ Rn 0 833 L (vI 4 :: st) T σ K := R_iconst (n := 4) (by decide +kernel) (by decide)
theorem s0_833 : Rn 0 833 L (vI b :: vI a :: st) T σ K ↔ inI (a + b) ∧ Rn 0 834 L (vI (a + b) :: st) T σ K := R_iadd (by decide +kernel)
theorem s0_834 : Rn 0 834 L (vI a :: vR o :: st) T σ K ↔ ((sx_kd T o = 20 ∨ (sx_kd T o = 23 ∧ o = 0)) ∧ 0 ≤ a ∧ a < sx_ln T o) ∧ Rn 0 835 L (vI (σ o a) :: st) T σ K := R_iald0 (by decide +kernel)
theorem s0_835 : Rn 0 835 L (vI d :: vI c :: vI b :: vI a :: vR o :: st) T σ K ↔ (sx_kd T o = 9 ∧ st.length ≤ 4) ∧ Rn 234 0 [some (vR o), some (vI a), some (vI b), some (vI c), some (vI d), none, none, none, none, none] [] T σ (fun r T' σ' => Rn 0 838 L (sx_push r st) T' σ' K) := R_V (cm := 234) (n := 4) (idx := 95) (ci := 9) (mx := 10) (vs := [vI a, vI b, vI c, vI d]) (by decide +kernel) (by decide +kernel) rfl (by decide +kernel) rfl (by decide +kernel) (by decide +kernel)
theorem s0_838 : Rn 0 838 L (vI b :: vI a :: st) T σ K ↔ (a = b → Rn 0 1657 L st T σ K) ∧ (a ≠ b → Rn 0 841 L st T σ K) := R_icmp_eq (off := 819) (by decide +kernel) (by decide)
theorem s0_841 : Rn 0 841 L st T σ K ↔ Rn 0 842 L (vI 0 :: st) T σ K := R_iconst (n := 0) (by decide +kernel) (by decide)
theorem s0_842 : Rn 0 842 L [vI a] T σ K ↔ (a = 0 ∨ a = 1) ∧ K (some (vI a)) T σ := R_retZ (by decide +kernel) (by decide +kernel)
theorem s0_843 : Rn 0 843 [l0, some (vR o), l2, l3] st T σ K ↔ Rn 0 844 [l0, some (vR o), l2, l3] (vR o :: st) T σ K := R_aload_n (n := 1) (by decide +kernel) rfl
theorem s0_844 : Rn 0 844 [some (vR o), l1, l2, l3] st T σ K ↔ Rn 0 845 [some (vR o), l1, l2, l3] (vR o :: st) T σ K := R_aload_n (n := 0) (by decide +kernel) rfl
theorem s0_845 : Rn 0 845 [l0, l1, l2, some (vI a)] st T σ K ↔ Rn 0 846 [l0, l1, l2, some (vI a)] (vI a :: st) T σ K := R_iload_n (n := 3) (by decide +kernel) rfl
theorem s0_846 : Rn 0 846 L st T σ K ↔ Rn 0 847 L (vI 1 :: st) T σ K := R_iconst (n := 1) (by decide +kernel) (by decide)
theorem s0_847 : Rn 0 847 L (vI b :: vI a :: st) T σ K ↔ inI (a + b) ∧ Rn 0 848 L (vI (a + b) :: st) T σ K := R_iadd (by decide +kernel)
theorem s0_848 : Rn 0 848 L (vI a :: vR o :: st) T σ K ↔ ((sx_kd T o = 20 ∨ (sx_kd T o = 23 ∧ o = 0)) ∧ 0 ≤ a ∧ a < sx_ln T o) ∧ Rn 0 849 L (vI (σ o a) :: st) T σ K := R_iald0 (by decide +kernel)
theorem s0_849 : Rn 0 849 [some (vR o), l1, l2, l3] st T σ K ↔ Rn 0 850 [some (vR o), l1, l2, l3] (vR o :: st) T σ K := R_aload_n (n := 0) (by decide +kernel) rfl
theorem s0_850 : Rn 0 850 [l0, l1, l2, some (vI a)] st T σ K ↔ Rn 0 851 [l0, l1, l2, some (vI a)] (vI a :: st) T σ K := R_iload_n (n := 3) (by decide +kernel) rfl
theorem s0_851 : Rn 0 851 L st T σ K ↔ Rn 0 852 L (vI 2 :: st) T σ K := R_iconst (n := 2) (by decide +kernel) (by decide)
theorem s0_852 : Rn 0 852 L (vI b :: vI a :: st) T σ K ↔ inI (a + b) ∧ Rn 0 853 L (vI (a + b) :: st) T σ K := R_iadd (by decide +kernel)
theorem s0_853 : Rn 0 853 L (vI a :: vR o :: st) T σ K ↔ ((sx_kd T o = 20 ∨ (sx_kd T o = 23 ∧ o = 0)) ∧ 0 ≤ a ∧ a < sx_ln T o) ∧ Rn 0 854 L (vI (σ o a) :: st) T σ K := R_iald0 (by decide +kernel)
theorem s0_854 : Rn 0 854 [some (vR o), l1, l2, l3] st T σ K ↔ Rn 0 855 [some (vR o), l1, l2, l3] (vR o :: st) T σ K := R_aload_n (n := 0) (by decide +kernel) rfl
theorem s0_855 : Rn 0 855 [l0, l1, l2, some (vI a)] st T σ K ↔ Rn 0 856 [l0, l1, l2, some (vI a)] (vI a :: st) T σ K := R_iload_n (n := 3) (by decide +kernel) rfl
theorem s0_856 : Rn 0 856 L st T σ K ↔ Rn 0 857 L (vI 3 :: st) T σ K := R_iconst (n := 3) (by decide +kernel) (by decide)
theorem s0_857 : Rn 0 857 L (vI b :: vI a :: st) T σ K ↔ inI (a + b) ∧ Rn 0 858 L (vI (a + b) :: st) T σ K := R_iadd (by decide +kernel)
theorem s0_858 : Rn 0 858 L (vI a :: vR o :: st) T σ K ↔ ((sx_kd T o = 20 ∨ (sx_kd T o = 23 ∧ o = 0)) ∧ 0 ≤ a ∧ a < sx_ln T o) ∧ Rn 0 859 L (vI (σ o a) :: st) T σ K := R_iald0 (by decide +kernel)
theorem s0_859 : Rn 0 859 [some (vR o), l1, l2, l3] st T σ K ↔ Rn 0 860 [some (vR o), l1, l2, l3] (vR o :: st) T σ K := R_aload_n (n := 0) (by decide +kernel) rfl
theorem s0_860 : Rn 0 860 [l0, l1, l2, some (vI a)] st T σ K ↔ Rn 0 861 [l0, l1, l2, some (vI a)] (vI a :: st) T σ K := R_iload_n (n := 3) (by decide +kernel) rfl
theorem s0_861 : Rn 0 861 L st T σ K ↔ Rn 0 862 L (vI 4 :: st) T σ K := R_iconst (n := 4) (by decide +kernel) (by decide)
theorem s0_862 : Rn 0 862 L (vI b :: vI a :: st) T σ K ↔ inI (a + b) ∧ Rn 0 863 L (vI (a + b) :: st) T σ K := R_iadd (by decide +kernel)
theorem s0_863 : Rn 0 863 L (vI a :: vR o :: st) T σ K ↔ ((sx_kd T o = 20 ∨ (sx_kd T o = 23 ∧ o = 0)) ∧ 0 ≤ a ∧ a < sx_ln T o) ∧ Rn 0 864 L (vI (σ o a) :: st) T σ K := R_iald0 (by decide +kernel)
theorem s0_864 : Rn 0 864 L (vI d :: vI c :: vI b :: vI a :: vR o :: st) T σ K ↔ (sx_kd T o = 8 ∧ st.length ≤ 4) ∧ Rn 92 0 [some (vR o), some (vI a), some (vI b), some (vI c), some (vI d), none] [] T σ (fun r T' σ' => Rn 0 867 L (sx_push r st) T' σ' K) := R_V (cm := 92) (n := 4) (idx := 96) (ci := 8) (mx := 6) (vs := [vI a, vI b, vI c, vI d]) (by decide +kernel) (by decide +kernel) rfl (by decide +kernel) rfl (by decide +kernel) (by decide +kernel)
theorem s0_867 : Rn 0 867 [l0, l1, some (vR o), l3] st T σ K ↔ Rn 0 868 [l0, l1, some (vR o), l3] (vR o :: st) T σ K := R_aload_n (n := 2) (by decide +kernel) rfl
theorem s0_868 : Rn 0 868 [some (vR o), l1, l2, l3] st T σ K ↔ Rn 0 869 [some (vR o), l1, l2, l3] (vR o :: st) T σ K := R_aload_n (n := 0) (by decide +kernel) rfl
theorem s0_869 : Rn 0 869 [l0, l1, l2, some (vI a)] st T σ K ↔ Rn 0 870 [l0, l1, l2, some (vI a)] (vI a :: st) T σ K := R_iload_n (n := 3) (by decide +kernel) rfl
theorem s0_870 : Rn 0 870 L st T σ K ↔ Rn 0 871 L (vI 1 :: st) T σ K := R_iconst (n := 1) (by decide +kernel) (by decide)
theorem s0_871 : Rn 0 871 L (vI b :: vI a :: st) T σ K ↔ inI (a + b) ∧ Rn 0 872 L (vI (a + b) :: st) T σ K := R_iadd (by decide +kernel)
theorem s0_872 : Rn 0 872 L (vI a :: vR o :: st) T σ K ↔ ((sx_kd T o = 20 ∨ (sx_kd T o = 23 ∧ o = 0)) ∧ 0 ≤ a ∧ a < sx_ln T o) ∧ Rn 0 873 L (vI (σ o a) :: st) T σ K := R_iald0 (by decide +kernel)
theorem s0_873 : Rn 0 873 [some (vR o), l1, l2, l3] st T σ K ↔ Rn 0 874 [some (vR o), l1, l2, l3] (vR o :: st) T σ K := R_aload_n (n := 0) (by decide +kernel) rfl
theorem s0_874 : Rn 0 874 [l0, l1, l2, some (vI a)] st T σ K ↔ Rn 0 875 [l0, l1, l2, some (vI a)] (vI a :: st) T σ K := R_iload_n (n := 3) (by decide +kernel) rfl
theorem s0_875 : Rn 0 875 L st T σ K ↔ Rn 0 876 L (vI 2 :: st) T σ K := R_iconst (n := 2) (by decide +kernel) (by decide)
theorem s0_876 : Rn 0 876 L (vI b :: vI a :: st) T σ K ↔ inI (a + b) ∧ Rn 0 877 L (vI (a + b) :: st) T σ K := R_iadd (by decide +kernel)
theorem s0_877 : Rn 0 877 L (vI a :: vR o :: st) T σ K ↔ ((sx_kd T o = 20 ∨ (sx_kd T o = 23 ∧ o = 0)) ∧ 0 ≤ a ∧ a < sx_ln T o) ∧ Rn 0 878 L (vI (σ o a) :: st) T σ K := R_iald0 (by decide +kernel)
theorem s0_878 : Rn 0 878 [some (vR o), l1, l2, l3] st T σ K ↔ Rn 0 879 [some (vR o), l1, l2, l3] (vR o :: st) T σ K := R_aload_n (n := 0) (by decide +kernel) rfl
theorem s0_879 : Rn 0 879 [l0, l1, l2, some (vI a)] st T σ K ↔ Rn 0 880 [l0, l1, l2, some (vI a)] (vI a :: st) T σ K := R_iload_n (n := 3) (by decide +kernel) rfl
theorem s0_880 : Rn 0 880 L st T σ K ↔ Rn 0 881 L (vI 3 :: st) T σ K := R_iconst (n := 3) (by decide +kernel) (by decide)
theorem s0_881 : Rn 0 881 L (vI b :: vI a :: st) T σ K ↔ inI (a + b) ∧ Rn 0 882 L (vI (a + b) :: st) T σ K := R_iadd (by decide +kernel)
theorem s0_882 : Rn 0 882 L (vI a :: vR o :: st) T σ K ↔ ((sx_kd T o = 20 ∨ (sx_kd T o = 23 ∧ o = 0)) ∧ 0 ≤ a ∧ a < sx_ln T o) ∧ Rn 0 883 L (vI (σ o a) :: st) T σ K := R_iald0 (by decide +kernel)
theorem s0_883 : Rn 0 883 [some (vR o), l1, l2, l3] st T σ K ↔ Rn 0 884 [some (vR o), l1, l2, l3] (vR o :: st) T σ K := R_aload_n (n := 0) (by decide +kernel) rfl
theorem s0_884 : Rn 0 884 [l0, l1, l2, some (vI a)] st T σ K ↔ Rn 0 885 [l0, l1, l2, some (vI a)] (vI a :: st) T σ K := R_iload_n (n := 3) (by decide +kernel) rfl
theorem s0_885 : Rn 0 885 L st T σ K ↔ Rn 0 886 L (vI 4 :: st) T σ K := R_iconst (n := 4) (by decide +kernel) (by decide)
theorem s0_886 : Rn 0 886 L (vI b :: vI a :: st) T σ K ↔ inI (a + b) ∧ Rn 0 887 L (vI (a + b) :: st) T σ K := R_iadd (by decide +kernel)
theorem s0_887 : Rn 0 887 L (vI a :: vR o :: st) T σ K ↔ ((sx_kd T o = 20 ∨ (sx_kd T o = 23 ∧ o = 0)) ∧ 0 ≤ a ∧ a < sx_ln T o) ∧ Rn 0 888 L (vI (σ o a) :: st) T σ K := R_iald0 (by decide +kernel)
theorem s0_888 : Rn 0 888 L (vI d :: vI c :: vI b :: vI a :: vR o :: st) T σ K ↔ (sx_kd T o = 9 ∧ st.length ≤ 4) ∧ Rn 235 0 [some (vR o), some (vI a), some (vI b), some (vI c), some (vI d), none, none, none, none] [] T σ (fun r T' σ' => Rn 0 891 L (sx_push r st) T' σ' K) := R_V (cm := 235) (n := 4) (idx := 99) (ci := 9) (mx := 9) (vs := [vI a, vI b, vI c, vI d]) (by decide +kernel) (by decide +kernel) rfl (by decide +kernel) rfl (by decide +kernel) (by decide +kernel)
theorem s0_891 : Rn 0 891 L (vI b :: vI a :: st) T σ K ↔ (a = b → Rn 0 1657 L st T σ K) ∧ (a ≠ b → Rn 0 894 L st T σ K) := R_icmp_eq (off := 766) (by decide +kernel) (by decide)
theorem s0_894 : Rn 0 894 L st T σ K ↔ Rn 0 895 L (vI 0 :: st) T σ K := R_iconst (n := 0) (by decide +kernel) (by decide)
theorem s0_895 : Rn 0 895 L [vI a] T σ K ↔ (a = 0 ∨ a = 1) ∧ K (some (vI a)) T σ := R_retZ (by decide +kernel) (by decide +kernel)
theorem s0_896 : Rn 0 896 [l0, some (vR o), l2, l3] st T σ K ↔ Rn 0 897 [l0, some (vR o), l2, l3] (vR o :: st) T σ K := R_aload_n (n := 1) (by decide +kernel) rfl
theorem s0_897 : Rn 0 897 [some (vR o), l1, l2, l3] st T σ K ↔ Rn 0 898 [some (vR o), l1, l2, l3] (vR o :: st) T σ K := R_aload_n (n := 0) (by decide +kernel) rfl
theorem s0_898 : Rn 0 898 [l0, l1, l2, some (vI a)] st T σ K ↔ Rn 0 899 [l0, l1, l2, some (vI a)] (vI a :: st) T σ K := R_iload_n (n := 3) (by decide +kernel) rfl
theorem s0_899 : Rn 0 899 L st T σ K ↔ Rn 0 900 L (vI 1 :: st) T σ K := R_iconst (n := 1) (by decide +kernel) (by decide)
theorem s0_900 : Rn 0 900 L (vI b :: vI a :: st) T σ K ↔ inI (a + b) ∧ Rn 0 901 L (vI (a + b) :: st) T σ K := R_iadd (by decide +kernel)
theorem s0_901 : Rn 0 901 L (vI a :: vR o :: st) T σ K ↔ ((sx_kd T o = 20 ∨ (sx_kd T o = 23 ∧ o = 0)) ∧ 0 ≤ a ∧ a < sx_ln T o) ∧ Rn 0 902 L (vI (σ o a) :: st) T σ K := R_iald0 (by decide +kernel)
theorem s0_902 : Rn 0 902 [some (vR o), l1, l2, l3] st T σ K ↔ Rn 0 903 [some (vR o), l1, l2, l3] (vR o :: st) T σ K := R_aload_n (n := 0) (by decide +kernel) rfl
theorem s0_903 : Rn 0 903 [l0, l1, l2, some (vI a)] st T σ K ↔ Rn 0 904 [l0, l1, l2, some (vI a)] (vI a :: st) T σ K := R_iload_n (n := 3) (by decide +kernel) rfl
theorem s0_904 : Rn 0 904 L st T σ K ↔ Rn 0 905 L (vI 2 :: st) T σ K := R_iconst (n := 2) (by decide +kernel) (by decide)
theorem s0_905 : Rn 0 905 L (vI b :: vI a :: st) T σ K ↔ inI (a + b) ∧ Rn 0 906 L (vI (a + b) :: st) T σ K := R_iadd (by decide +kernel)
theorem s0_906 : Rn 0 906 L (vI a :: vR o :: st) T σ K ↔ ((sx_kd T o = 20 ∨ (sx_kd T o = 23 ∧ o = 0)) ∧ 0 ≤ a ∧ a < sx_ln T o) ∧ Rn 0 907 L (vI (σ o a) :: st) T σ K := R_iald0 (by decide +kernel)
theorem s0_907 : Rn 0 907 [some (vR o), l1, l2, l3] st T σ K ↔ Rn 0 908 [some (vR o), l1, l2, l3] (vR o :: st) T σ K := R_aload_n (n := 0) (by decide +kernel) rfl
theorem s0_908 : Rn 0 908 [l0, l1, l2, some (vI a)] st T σ K ↔ Rn 0 909 [l0, l1, l2, some (vI a)] (vI a :: st) T σ K := R_iload_n (n := 3) (by decide +kernel) rfl
theorem s0_909 : Rn 0 909 L st T σ K ↔ Rn 0 910 L (vI 3 :: st) T σ K := R_iconst (n := 3) (by decide +kernel) (by decide)
theorem s0_910 : Rn 0 910 L (vI b :: vI a :: st) T σ K ↔ inI (a + b) ∧ Rn 0 911 L (vI (a + b) :: st) T σ K := R_iadd (by decide +kernel)
theorem s0_911 : Rn 0 911 L (vI a :: vR o :: st) T σ K ↔ ((sx_kd T o = 20 ∨ (sx_kd T o = 23 ∧ o = 0)) ∧ 0 ≤ a ∧ a < sx_ln T o) ∧ Rn 0 912 L (vI (σ o a) :: st) T σ K := R_iald0 (by decide +kernel)
theorem s0_912 : Rn 0 912 [some (vR o), l1, l2, l3] st T σ K ↔ Rn 0 913 [some (vR o), l1, l2, l3] (vR o :: st) T σ K := R_aload_n (n := 0) (by decide +kernel) rfl
theorem s0_913 : Rn 0 913 [l0, l1, l2, some (vI a)] st T σ K ↔ Rn 0 914 [l0, l1, l2, some (vI a)] (vI a :: st) T σ K := R_iload_n (n := 3) (by decide +kernel) rfl
theorem s0_914 : Rn 0 914 L st T σ K ↔ Rn 0 915 L (vI 4 :: st) T σ K := R_iconst (n := 4) (by decide +kernel) (by decide)
theorem s0_915 : Rn 0 915 L (vI b :: vI a :: st) T σ K ↔ inI (a + b) ∧ Rn 0 916 L (vI (a + b) :: st) T σ K := R_iadd (by decide +kernel)
theorem s0_916 : Rn 0 916 L (vI a :: vR o :: st) T σ K ↔ ((sx_kd T o = 20 ∨ (sx_kd T o = 23 ∧ o = 0)) ∧ 0 ≤ a ∧ a < sx_ln T o) ∧ Rn 0 917 L (vI (σ o a) :: st) T σ K := R_iald0 (by decide +kernel)
theorem s0_917 : Rn 0 917 L (vI d :: vI c :: vI b :: vI a :: vR o :: st) T σ K ↔ (sx_kd T o = 8 ∧ st.length ≤ 4) ∧ Rn 95 0 [some (vR o), some (vI a), some (vI b), some (vI c), some (vI d), none] [] T σ (fun r T' σ' => Rn 0 920 L (sx_push r st) T' σ' K) := R_V (cm := 95) (n := 4) (idx := 100) (ci := 8) (mx := 6) (vs := [vI a, vI b, vI c, vI d]) (by decide +kernel) (by decide +kernel) rfl (by decide +kernel) rfl (by decide +kernel) (by decide +kernel)
theorem s0_920 : Rn 0 920 [l0, l1, some (vR o), l3] st T σ K ↔ Rn 0 921 [l0, l1, some (vR o), l3] (vR o :: st) T σ K := R_aload_n (n := 2) (by decide +kernel) rfl
theorem s0_921 : Rn 0 921 [some (vR o), l1, l2, l3] st T σ K ↔ Rn 0 922 [some (vR o), l1, l2, l3] (vR o :: st) T σ K := R_aload_n (n := 0) (by decide +kernel) rfl
theorem s0_922 : Rn 0 922 [l0, l1, l2, some (vI a)] st T σ K ↔ Rn 0 923 [l0, l1, l2, some (vI a)] (vI a :: st) T σ K := R_iload_n (n := 3) (by decide +kernel) rfl
theorem s0_923 : Rn 0 923 L st T σ K ↔ Rn 0 924 L (vI 1 :: st) T σ K := R_iconst (n := 1) (by decide +kernel) (by decide)
theorem s0_924 : Rn 0 924 L (vI b :: vI a :: st) T σ K ↔ inI (a + b) ∧ Rn 0 925 L (vI (a + b) :: st) T σ K := R_iadd (by decide +kernel)
theorem s0_925 : Rn 0 925 L (vI a :: vR o :: st) T σ K ↔ ((sx_kd T o = 20 ∨ (sx_kd T o = 23 ∧ o = 0)) ∧ 0 ≤ a ∧ a < sx_ln T o) ∧ Rn 0 926 L (vI (σ o a) :: st) T σ K := R_iald0 (by decide +kernel)
theorem s0_926 : Rn 0 926 [some (vR o), l1, l2, l3] st T σ K ↔ Rn 0 927 [some (vR o), l1, l2, l3] (vR o :: st) T σ K := R_aload_n (n := 0) (by decide +kernel) rfl
theorem s0_927 : Rn 0 927 [l0, l1, l2, some (vI a)] st T σ K ↔ Rn 0 928 [l0, l1, l2, some (vI a)] (vI a :: st) T σ K := R_iload_n (n := 3) (by decide +kernel) rfl
theorem s0_928 : Rn 0 928 L st T σ K ↔ Rn 0 929 L (vI 2 :: st) T σ K := R_iconst (n := 2) (by decide +kernel) (by decide)
theorem s0_929 : Rn 0 929 L (vI b :: vI a :: st) T σ K ↔ inI (a + b) ∧ Rn 0 930 L (vI (a + b) :: st) T σ K := R_iadd (by decide +kernel)
theorem s0_930 : Rn 0 930 L (vI a :: vR o :: st) T σ K ↔ ((sx_kd T o = 20 ∨ (sx_kd T o = 23 ∧ o = 0)) ∧ 0 ≤ a ∧ a < sx_ln T o) ∧ Rn 0 931 L (vI (σ o a) :: st) T σ K := R_iald0 (by decide +kernel)
theorem s0_931 : Rn 0 931 [some (vR o), l1, l2, l3] st T σ K ↔ Rn 0 932 [some (vR o), l1, l2, l3] (vR o :: st) T σ K := R_aload_n (n := 0) (by decide +kernel) rfl
theorem s0_932 : Rn 0 932 [l0, l1, l2, some (vI a)] st T σ K ↔ Rn 0 933 [l0, l1, l2, some (vI a)] (vI a :: st) T σ K := R_iload_n (n := 3) (by decide +kernel) rfl
theorem s0_933 : Rn 0 933 L st T σ K ↔ Rn 0 934 L (vI 3 :: st) T σ K := R_iconst (n := 3) (by decide +kernel) (by decide)
theorem s0_934 : Rn 0 934 L (vI b :: vI a :: st) T σ K ↔ inI (a + b) ∧ Rn 0 935 L (vI (a + b) :: st) T σ K := R_iadd (by decide +kernel)
theorem s0_935 : Rn 0 935 L (vI a :: vR o :: st) T σ K ↔ ((sx_kd T o = 20 ∨ (sx_kd T o = 23 ∧ o = 0)) ∧ 0 ≤ a ∧ a < sx_ln T o) ∧ Rn 0 936 L (vI (σ o a) :: st) T σ K := R_iald0 (by decide +kernel)
theorem s0_936 : Rn 0 936 [some (vR o), l1, l2, l3] st T σ K ↔ Rn 0 937 [some (vR o), l1, l2, l3] (vR o :: st) T σ K := R_aload_n (n := 0) (by decide +kernel) rfl
theorem s0_937 : Rn 0 937 [l0, l1, l2, some (vI a)] st T σ K ↔ Rn 0 938 [l0, l1, l2, some (vI a)] (vI a :: st) T σ K := R_iload_n (n := 3) (by decide +kernel) rfl
theorem s0_938 : Rn 0 938 L st T σ K ↔ Rn 0 939 L (vI 4 :: st) T σ K := R_iconst (n := 4) (by decide +kernel) (by decide)
theorem s0_939 : Rn 0 939 L (vI b :: vI a :: st) T σ K ↔ inI (a + b) ∧ Rn 0 940 L (vI (a + b) :: st) T σ K := R_iadd (by decide +kernel)
theorem s0_940 : Rn 0 940 L (vI a :: vR o :: st) T σ K ↔ ((sx_kd T o = 20 ∨ (sx_kd T o = 23 ∧ o = 0)) ∧ 0 ≤ a ∧ a < sx_ln T o) ∧ Rn 0 941 L (vI (σ o a) :: st) T σ K := R_iald0 (by decide +kernel)
theorem s0_941 : Rn 0 941 L (vI d :: vI c :: vI b :: vI a :: vR o :: st) T σ K ↔ (sx_kd T o = 9 ∧ st.length ≤ 4) ∧ Rn 236 0 [some (vR o), some (vI a), some (vI b), some (vI c), some (vI d), none, none] [] T σ (fun r T' σ' => Rn 0 944 L (sx_push r st) T' σ' K) := R_V (cm := 236) (n := 4) (idx := 103) (ci := 9) (mx := 7) (vs := [vI a, vI b, vI c, vI d]) (by decide +kernel) (by decide +kernel) rfl (by decide +kernel) rfl (by decide +kernel) (by decide +kernel)
theorem s0_944 : Rn 0 944 L (vI b :: vI a :: st) T σ K ↔ (a = b → Rn 0 1657 L st T σ K) ∧ (a ≠ b → Rn 0 947 L st T σ K) := R_icmp_eq (off := 713) (by decide +kernel) (by decide)
theorem s0_947 : Rn 0 947 L st T σ K ↔ Rn 0 948 L (vI 0 :: st) T σ K := R_iconst (n := 0) (by decide +kernel) (by decide)
theorem s0_948 : Rn 0 948 L [vI a] T σ K ↔ (a = 0 ∨ a = 1) ∧ K (some (vI a)) T σ := R_retZ (by decide +kernel) (by decide +kernel)
theorem s0_949 : Rn 0 949 [l0, some (vR o), l2, l3] st T σ K ↔ Rn 0 950 [l0, some (vR o), l2, l3] (vR o :: st) T σ K := R_aload_n (n := 1) (by decide +kernel) rfl
theorem s0_950 : Rn 0 950 [some (vR o), l1, l2, l3] st T σ K ↔ Rn 0 951 [some (vR o), l1, l2, l3] (vR o :: st) T σ K := R_aload_n (n := 0) (by decide +kernel) rfl
theorem s0_951 : Rn 0 951 [l0, l1, l2, some (vI a)] st T σ K ↔ Rn 0 952 [l0, l1, l2, some (vI a)] (vI a :: st) T σ K := R_iload_n (n := 3) (by decide +kernel) rfl
theorem s0_952 : Rn 0 952 L st T σ K ↔ Rn 0 953 L (vI 1 :: st) T σ K := R_iconst (n := 1) (by decide +kernel) (by decide)
theorem s0_953 : Rn 0 953 L (vI b :: vI a :: st) T σ K ↔ inI (a + b) ∧ Rn 0 954 L (vI (a + b) :: st) T σ K := R_iadd (by decide +kernel)
theorem s0_954 : Rn 0 954 L (vI a :: vR o :: st) T σ K ↔ ((sx_kd T o = 20 ∨ (sx_kd T o = 23 ∧ o = 0)) ∧ 0 ≤ a ∧ a < sx_ln T o) ∧ Rn 0 955 L (vI (σ o a) :: st) T σ K := R_iald0 (by decide +kernel)
theorem s0_955 : Rn 0 955 [some (vR o), l1, l2, l3] st T σ K ↔ Rn 0 956 [some (vR o), l1, l2, l3] (vR o :: st) T σ K := R_aload_n (n := 0) (by decide +kernel) rfl
theorem s0_956 : Rn 0 956 [l0, l1, l2, some (vI a)] st T σ K ↔ Rn 0 957 [l0, l1, l2, some (vI a)] (vI a :: st) T σ K := R_iload_n (n := 3) (by decide +kernel) rfl
theorem s0_957 : Rn 0 957 L st T σ K ↔ Rn 0 958 L (vI 2 :: st) T σ K := R_iconst (n := 2) (by decide +kernel) (by decide)
theorem s0_958 : Rn 0 958 L (vI b :: vI a :: st) T σ K ↔ inI (a + b) ∧ Rn 0 959 L (vI (a + b) :: st) T σ K := R_iadd (by decide +kernel)
theorem s0_959 : Rn 0 959 L (vI a :: vR o :: st) T σ K ↔ ((sx_kd T o = 20 ∨ (sx_kd T o = 23 ∧ o = 0)) ∧ 0 ≤ a ∧ a < sx_ln T o) ∧ Rn 0 960 L (vI (σ o a) :: st) T σ K := R_iald0 (by decide +kernel)
theorem s0_960 : Rn 0 960 [some (vR o), l1, l2, l3] st T σ K ↔ Rn 0 961 [some (vR o), l1, l2, l3] (vR o :: st) T σ K := R_aload_n (n := 0) (by decide +kernel) rfl
theorem s0_961 : Rn 0 961 [l0, l1, l2, some (vI a)] st T σ K ↔ Rn 0 962 [l0, l1, l2, some (vI a)] (vI a :: st) T σ K := R_iload_n (n := 3) (by decide +kernel) rfl
theorem s0_962 : Rn 0 962 L st T σ K ↔ Rn 0 963 L (vI 3 :: st) T σ K := R_iconst (n := 3) (by decide +kernel) (by decide)
theorem s0_963 : Rn 0 963 L (vI b :: vI a :: st) T σ K ↔ inI (a + b) ∧ Rn 0 964 L (vI (a + b) :: st) T σ K := R_iadd (by decide +kernel)
theorem s0_964 : Rn 0 964 L (vI a :: vR o :: st) T σ K ↔ ((sx_kd T o = 20 ∨ (sx_kd T o = 23 ∧ o = 0)) ∧ 0 ≤ a ∧ a < sx_ln T o) ∧ Rn 0 965 L (vI (σ o a) :: st) T σ K := R_iald0 (by decide +kernel)
theorem s0_965 : Rn 0 965 [some (vR o), l1, l2, l3] st T σ K ↔ Rn 0 966 [some (vR o), l1, l2, l3] (vR o :: st) T σ K := R_aload_n (n := 0) (by decide +kernel) rfl
theorem s0_966 : Rn 0 966 [l0, l1, l2, some (vI a)] st T σ K ↔ Rn 0 967 [l0, l1, l2, some (vI a)] (vI a :: st) T σ K := R_iload_n (n := 3) (by decide +kernel) rfl
theorem s0_967 : Rn 0 967 L st T σ K ↔ Rn 0 968 L (vI 4 :: st) T σ K := R_iconst (n := 4) (by decide +kernel) (by decide)
theorem s0_968 : Rn 0 968 L (vI b :: vI a :: st) T σ K ↔ inI (a + b) ∧ Rn 0 969 L (vI (a + b) :: st) T σ K := R_iadd (by decide +kernel)
theorem s0_969 : Rn 0 969 L (vI a :: vR o :: st) T σ K ↔ ((sx_kd T o = 20 ∨ (sx_kd T o = 23 ∧ o = 0)) ∧ 0 ≤ a ∧ a < sx_ln T o) ∧ Rn 0 970 L (vI (σ o a) :: st) T σ K := R_iald0 (by decide +kernel)
theorem s0_970 : Rn 0 970 L (vI d :: vI c :: vI b :: vI a :: vR o :: st) T σ K ↔ (sx_kd T o = 8 ∧ st.length ≤ 4) ∧ Rn 97 0 [some (vR o), some (vI a), some (vI b), some (vI c), some (vI d), none] [] T σ (fun r T' σ' => Rn 0 973 L (sx_push r st) T' σ' K) := R_V (cm := 97) (n := 4) (idx := 104) (ci := 8) (mx := 6) (vs := [vI a, vI b, vI c, vI d]) (by decide +kernel) (by decide +kernel) rfl (by decide +kernel) rfl (by decide +kernel) (by decide +kernel)
theorem s0_973 : Rn 0 973 [l0, l1, some (vR o), l3] st T σ K ↔ Rn 0 974 [l0, l1, some (vR o), l3] (vR o :: st) T σ K := R_aload_n (n := 2) (by decide +kernel) rfl
theorem s0_974 : Rn 0 974 [some (vR o), l1, l2, l3] st T σ K ↔ Rn 0 975 [some (vR o), l1, l2, l3] (vR o :: st) T σ K := R_aload_n (n := 0) (by decide +kernel) rfl
theorem s0_975 : Rn 0 975 [l0, l1, l2, some (vI a)] st T σ K ↔ Rn 0 976 [l0, l1, l2, some (vI a)] (vI a :: st) T σ K := R_iload_n (n := 3) (by decide +kernel) rfl
theorem s0_976 : Rn 0 976 L st T σ K ↔ Rn 0 977 L (vI 1 :: st) T σ K := R_iconst (n := 1) (by decide +kernel) (by decide)
theorem s0_977 : Rn 0 977 L (vI b :: vI a :: st) T σ K ↔ inI (a + b) ∧ Rn 0 978 L (vI (a + b) :: st) T σ K := R_iadd (by decide +kernel)
theorem s0_978 : Rn 0 978 L (vI a :: vR o :: st) T σ K ↔ ((sx_kd T o = 20 ∨ (sx_kd T o = 23 ∧ o = 0)) ∧ 0 ≤ a ∧ a < sx_ln T o) ∧ Rn 0 979 L (vI (σ o a) :: st) T σ K := R_iald0 (by decide +kernel)
theorem s0_979 : Rn 0 979 [some (vR o), l1, l2, l3] st T σ K ↔ Rn 0 980 [some (vR o), l1, l2, l3] (vR o :: st) T σ K := R_aload_n (n := 0) (by decide +kernel) rfl
theorem s0_980 : Rn 0 980 [l0, l1, l2, some (vI a)] st T σ K ↔ Rn 0 981 [l0, l1, l2, some (vI a)] (vI a :: st) T σ K := R_iload_n (n := 3) (by decide +kernel) rfl
theorem s0_981 : Rn 0 981 L st T σ K ↔ Rn 0 982 L (vI 2 :: st) T σ K := R_iconst (n := 2) (by decide +kernel) (by decide)
theorem s0_982 : Rn 0 982 L (vI b :: vI a :: st) T σ K ↔ inI (a + b) ∧ Rn 0 983 L (vI (a + b) :: st) T σ K := R_iadd (by decide +kernel)
theorem s0_983 : Rn 0 983 L (vI a :: vR o :: st) T σ K ↔ ((sx_kd T o = 20 ∨ (sx_kd T o = 23 ∧ o = 0)) ∧ 0 ≤ a ∧ a < sx_ln T o) ∧ Rn 0 984 L (vI (σ o a) :: st) T σ K := R_iald0 (by decide +kernel)
theorem s0_984 : Rn 0 984 [some (vR o), l1, l2, l3] st T σ K ↔ Rn 0 985 [some (vR o), l1, l2, l3] (vR o :: st) T σ K := R_aload_n (n := 0) (by decide +kernel) rfl
theorem s0_985 : Rn 0 985 [l0, l1, l2, some (vI a)] st T σ K ↔ Rn 0 986 [l0, l1, l2, some (vI a)] (vI a :: st) T σ K := R_iload_n (n := 3) (by decide +kernel) rfl
theorem s0_986 : Rn 0 986 L st T σ K ↔ Rn 0 987 L (vI 3 :: st) T σ K := R_iconst (n := 3) (by decide +kernel) (by decide)
theorem s0_987 : Rn 0 987 L (vI b :: vI a :: st) T σ K ↔ inI (a + b) ∧ Rn 0 988 L (vI (a + b) :: st) T σ K := R_iadd (by decide +kernel)
theorem s0_988 : Rn 0 988 L (vI a :: vR o :: st) T σ K ↔ ((sx_kd T o = 20 ∨ (sx_kd T o = 23 ∧ o = 0)) ∧ 0 ≤ a ∧ a < sx_ln T o) ∧ Rn 0 989 L (vI (σ o a) :: st) T σ K := R_iald0 (by decide +kernel)
theorem s0_989 : Rn 0 989 [some (vR o), l1, l2, l3] st T σ K ↔ Rn 0 990 [some (vR o), l1, l2, l3] (vR o :: st) T σ K := R_aload_n (n := 0) (by decide +kernel) rfl
theorem s0_990 : Rn 0 990 [l0, l1, l2, some (vI a)] st T σ K ↔ Rn 0 991 [l0, l1, l2, some (vI a)] (vI a :: st) T σ K := R_iload_n (n := 3) (by decide +kernel) rfl
theorem s0_991 : Rn 0 991 L st T σ K ↔ Rn 0 992 L (vI 4 :: st) T σ K := R_iconst (n := 4) (by decide +kernel) (by decide)
theorem s0_992 : Rn 0 992 L (vI b :: vI a :: st) T σ K ↔ inI (a + b) ∧ Rn 0 993 L (vI (a + b) :: st) T σ K := R_iadd (by decide +kernel)
theorem s0_993 : Rn 0 993 L (vI a :: vR o :: st) T σ K ↔ ((sx_kd T o = 20 ∨ (sx_kd T o = 23 ∧ o = 0)) ∧ 0 ≤ a ∧ a < sx_ln T o) ∧ Rn 0 994 L (vI (σ o a) :: st) T σ K := R_iald0 (by decide +kernel)
theorem s0_994 : Rn 0 994 L (vI d :: vI c :: vI b :: vI a :: vR o :: st) T σ K ↔ (sx_kd T o = 9 ∧ st.length ≤ 4) ∧ Rn 237 0 [some (vR o), some (vI a), some (vI b), some (vI c), some (vI d), none, none, none] [] T σ (fun r T' σ' => Rn 0 997 L (sx_push r st) T' σ' K) := R_V (cm := 237) (n := 4) (idx := 107) (ci := 9) (mx := 8) (vs := [vI a, vI b, vI c, vI d]) (by decide +kernel) (by decide +kernel) rfl (by decide +kernel) rfl (by decide +kernel) (by decide +kernel)
theorem s0_997 : Rn 0 997 L (vI b :: vI a :: st) T σ K ↔ (a = b → Rn 0 1657 L st T σ K) ∧ (a ≠ b → Rn 0 1000 L st T σ K) := R_icmp_eq (off := 660) (by decide +kernel) (by decide)
theorem s0_1000 : Rn 0 1000 L st T σ K ↔ Rn 0 1001 L (vI 0 :: st) T σ K := R_iconst (n := 0) (by decide +kernel) (by decide)
theorem s0_1001 : Rn 0 1001 L [vI a] T σ K ↔ (a = 0 ∨ a = 1) ∧ K (some (vI a)) T σ := R_retZ (by decide +kernel) (by decide +kernel)
theorem s0_1002 : Rn 0 1002 [l0, some (vR o), l2, l3] st T σ K ↔ Rn 0 1003 [l0, some (vR o), l2, l3] (vR o :: st) T σ K := R_aload_n (n := 1) (by decide +kernel) rfl
theorem s0_1003 : Rn 0 1003 [some (vR o), l1, l2, l3] st T σ K ↔ Rn 0 1004 [some (vR o), l1, l2, l3] (vR o :: st) T σ K := R_aload_n (n := 0) (by decide +kernel) rfl
theorem s0_1004 : Rn 0 1004 [l0, l1, l2, some (vI a)] st T σ K ↔ Rn 0 1005 [l0, l1, l2, some (vI a)] (vI a :: st) T σ K := R_iload_n (n := 3) (by decide +kernel) rfl
theorem s0_1005 : Rn 0 1005 L st T σ K ↔ Rn 0 1006 L (vI 1 :: st) T σ K := R_iconst (n := 1) (by decide +kernel) (by decide)
theorem s0_1006 : Rn 0 1006 L (vI b :: vI a :: st) T σ K ↔ inI (a + b) ∧ Rn 0 1007 L (vI (a + b) :: st) T σ K := R_iadd (by decide +kernel)
theorem s0_1007 : Rn 0 1007 L (vI a :: vR o :: st) T σ K ↔ ((sx_kd T o = 20 ∨ (sx_kd T o = 23 ∧ o = 0)) ∧ 0 ≤ a ∧ a < sx_ln T o) ∧ Rn 0 1008 L (vI (σ o a) :: st) T σ K := R_iald0 (by decide +kernel)
theorem s0_1008 : Rn 0 1008 [some (vR o), l1, l2, l3] st T σ K ↔ Rn 0 1009 [some (vR o), l1, l2, l3] (vR o :: st) T σ K := R_aload_n (n := 0) (by decide +kernel) rfl
theorem s0_1009 : Rn 0 1009 [l0, l1, l2, some (vI a)] st T σ K ↔ Rn 0 1010 [l0, l1, l2, some (vI a)] (vI a :: st) T σ K := R_iload_n (n := 3) (by decide +kernel) rfl
theorem s0_1010 : Rn 0 1010 L st T σ K ↔ Rn 0 1011 L (vI 2 :: st) T σ K := R_iconst (n := 2) (by decide +kernel) (by decide)
theorem s0_1011 : Rn 0 1011 L (vI b :: vI a :: st) T σ K ↔ inI (a + b) ∧ Rn 0 1012 L (vI (a + b) :: st) T σ K := R_iadd (by decide +kernel)
theorem s0_1012 : Rn 0 1012 L (vI a :: vR o :: st) T σ K ↔ ((sx_kd T o = 20 ∨ (sx_kd T o = 23 ∧ o = 0)) ∧ 0 ≤ a ∧ a < sx_ln T o) ∧ Rn 0 1013 L (vI (σ o a) :: st) T σ K := R_iald0 (by decide +kernel)
theorem s0_1013 : Rn 0 1013 L (vI b :: vI a :: vR o :: st) T σ K ↔ (sx_kd T o = 8 ∧ st.length ≤ 4) ∧ Rn 98 0 [some (vR o), some (vI a), some (vI b)] [] T σ (fun r T' σ' => Rn 0 1016 L (sx_push r st) T' σ' K) := R_V (cm := 98) (n := 2) (idx := 108) (ci := 8) (mx := 3) (vs := [vI a, vI b]) (by decide +kernel) (by decide +kernel) rfl (by decide +kernel) rfl (by decide +kernel) (by decide +kernel)
theorem s0_1016 : Rn 0 1016 [l0, l1, some (vR o), l3] st T σ K ↔ Rn 0 1017 [l0, l1, some (vR o), l3] (vR o :: st) T σ K := R_aload_n (n := 2) (by decide +kernel) rfl
theorem s0_1017 : Rn 0 1017 [some (vR o), l1, l2, l3] st T σ K ↔ Rn 0 1018 [some (vR o), l1, l2, l3] (vR o :: st) T σ K := R_aload_n (n := 0) (by decide +kernel) rfl
theorem s0_1018 : Rn 0 1018 [l0, l1, l2, some (vI a)] st T σ K ↔ Rn 0 1019 [l0, l1, l2, some (vI a)] (vI a :: st) T σ K := R_iload_n (n := 3) (by decide +kernel) rfl
theorem s0_1019 : Rn 0 1019 L st T σ K ↔ Rn 0 1020 L (vI 1 :: st) T σ K := R_iconst (n := 1) (by decide +kernel) (by decide)
theorem s0_1020 : Rn 0 1020 L (vI b :: vI a :: st) T σ K ↔ inI (a + b) ∧ Rn 0 1021 L (vI (a + b) :: st) T σ K := R_iadd (by decide +kernel)
theorem s0_1021 : Rn 0 1021 L (vI a :: vR o :: st) T σ K ↔ ((sx_kd T o = 20 ∨ (sx_kd T o = 23 ∧ o = 0)) ∧ 0 ≤ a ∧ a < sx_ln T o) ∧ Rn 0 1022 L (vI (σ o a) :: st) T σ K := R_iald0 (by decide +kernel)
theorem s0_1022 : Rn 0 1022 [some (vR o), l1, l2, l3] st T σ K ↔ Rn 0 1023 [some (vR o), l1, l2, l3] (vR o :: st) T σ K := R_aload_n (n := 0) (by decide +kernel) rfl
theorem s0_1023 : Rn 0 1023 [l0, l1, l2, some (vI a)] st T σ K ↔ Rn 0 1024 [l0, l1, l2, some (vI a)] (vI a :: st) T σ K := R_iload_n (n := 3) (by decide +kernel) rfl
theorem s0_1024 : Rn 0 1024 L st T σ K ↔ Rn 0 1025 L (vI 2 :: st) T σ K := R_iconst (n := 2) (by decide +kernel) (by decide)
theorem s0_1025 : Rn 0 1025 L (vI b :: vI a :: st) T σ K ↔ inI (a + b) ∧ Rn 0 1026 L (vI (a + b) :: st) T σ K := R_iadd (by decide +kernel)
theorem s0_1026 : Rn 0 1026 L (vI a :: vR o :: st) T σ K ↔ ((sx_kd T o = 20 ∨ (sx_kd T o = 23 ∧ o = 0)) ∧ 0 ≤ a ∧ a < sx_ln T o) ∧ Rn 0 1027 L (vI (σ o a) :: st) T σ K := R_iald0 (by decide +kernel)
theorem s0_1027 : Rn 0 1027 L (vI b :: vI a :: vR o :: st) T σ K ↔ (sx_kd T o = 9 ∧ st.length ≤ 4) ∧ Rn 243 0 [some (vR o), some (vI a), some (vI b), none, none, none, none, none, none, none, none] [] T σ (fun r T' σ' => Rn 0 1030 L (sx_push r st) T' σ' K) := R_V (cm := 243) (n := 2) (idx := 111) (ci := 9) (mx := 11) (vs := [vI a, vI b]) (by decide +kernel) (by decide +kernel) rfl (by decide +kernel) rfl (by decide +kernel) (by decide +kernel)
theorem s0_1030 : Rn 0 1030 L (vI b :: vI a :: st) T σ K ↔ (a = b → Rn 0 1657 L st T σ K) ∧ (a ≠ b → Rn 0 1033 L st T σ K) := R_icmp_eq (off := 627) (by decide +kernel) (by decide)
theorem s0_1033 : Rn 0 1033 L st T σ K ↔ Rn 0 1034 L (vI 0 :: st) T σ K := R_iconst (n := 0) (by decide +kernel) (by decide)
theorem s0_1034 : Rn 0 1034 L [vI a] T σ K ↔ (a = 0 ∨ a = 1) ∧ K (some (vI a)) T σ := R_retZ (by decide +kernel) (by decide +kernel)
theorem s0_1035 : Rn 0 1035 [l0, some (vR o), l2, l3] st T σ K ↔ Rn 0 1036 [l0, some (vR o), l2, l3] (vR o :: st) T σ K := R_aload_n (n := 1) (by decide +kernel) rfl
theorem s0_1036 : Rn 0 1036 [some (vR o), l1, l2, l3] st T σ K ↔ Rn 0 1037 [some (vR o), l1, l2, l3] (vR o :: st) T σ K := R_aload_n (n := 0) (by decide +kernel) rfl
theorem s0_1037 : Rn 0 1037 [l0, l1, l2, some (vI a)] st T σ K ↔ Rn 0 1038 [l0, l1, l2, some (vI a)] (vI a :: st) T σ K := R_iload_n (n := 3) (by decide +kernel) rfl
theorem s0_1038 : Rn 0 1038 L st T σ K ↔ Rn 0 1039 L (vI 1 :: st) T σ K := R_iconst (n := 1) (by decide +kernel) (by decide)
theorem s0_1039 : Rn 0 1039 L (vI b :: vI a :: st) T σ K ↔ inI (a + b) ∧ Rn 0 1040 L (vI (a + b) :: st) T σ K := R_iadd (by decide +kernel)
theorem s0_1040 : Rn 0 1040 L (vI a :: vR o :: st) T σ K ↔ ((sx_kd T o = 20 ∨ (sx_kd T o = 23 ∧ o = 0)) ∧ 0 ≤ a ∧ a < sx_ln T o) ∧ Rn 0 1041 L (vI (σ o a) :: st) T σ K := R_iald0 (by decide +kernel)
theorem s0_1041 : Rn 0 1041 [some (vR o), l1, l2, l3] st T σ K ↔ Rn 0 1042 [some (vR o), l1, l2, l3] (vR o :: st) T σ K := R_aload_n (n := 0) (by decide +kernel) rfl
theorem s0_1042 : Rn 0 1042 [l0, l1, l2, some (vI a)] st T σ K ↔ Rn 0 1043 [l0, l1, l2, some (vI a)] (vI a :: st) T σ K := R_iload_n (n := 3) (by decide +kernel) rfl
theorem s0_1043 : Rn 0 1043 L st T σ K ↔ Rn 0 1044 L (vI 2 :: st) T σ K := R_iconst (n := 2) (by decide +kernel) (by decide)
theorem s0_1044 : Rn 0 1044 L (vI b :: vI a :: st) T σ K ↔ inI (a + b) ∧ Rn 0 1045 L (vI (a + b) :: st) T σ K := R_iadd (by decide +kernel)
theorem s0_1045 : Rn 0 1045 L (vI a :: vR o :: st) T σ K ↔ ((sx_kd T o = 20 ∨ (sx_kd T o = 23 ∧ o = 0)) ∧ 0 ≤ a ∧ a < sx_ln T o) ∧ Rn 0 1046 L (vI (σ o a) :: st) T σ K := R_iald0 (by decide +kernel)
theorem s0_1046 : Rn 0 1046 L (vI b :: vI a :: vR o :: st) T σ K ↔ (sx_kd T o = 8 ∧ st.length ≤ 4) ∧ Rn 105 0 [some (vR o), some (vI a), some (vI b)] [] T σ (fun r T' σ' => Rn 0 1049 L (sx_push r st) T' σ' K) := R_V (cm := 105) (n := 2) (idx := 112) (ci := 8) (mx := 3) (vs := [vI a, vI b]) (by decide +kernel) (by decide +kernel) rfl (by decide +kernel) rfl (by decide +kernel) (by decide +kernel)
theorem s0_1049 : Rn 0 1049 [l0, l1, some (vR o), l3] st T σ K ↔ Rn 0 1050 [l0, l1, some (vR o), l3] (vR o :: st) T σ K := R_aload_n (n := 2) (by decide +kernel) rfl
theorem s0_1050 : Rn 0 1050 [some (vR o), l1, l2, l3] st T σ K ↔ Rn 0 1051 [some (vR o), l1, l2, l3] (vR o :: st) T σ K := R_aload_n (n := 0) (by decide +kernel) rfl
theorem s0_1051 : Rn 0 1051 [l0, l1, l2, some (vI a)] st T σ K ↔ Rn 0 1052 [l0, l1, l2, some (vI a)] (vI a :: st) T σ K := R_iload_n (n := 3) (by decide +kernel) rfl
theorem s0_1052 : Rn 0 1052 L st T σ K ↔ Rn 0 1053 L (vI 1 :: st) T σ K := R_iconst (n := 1) (by decide +kernel) (by decide)
theorem s0_1053 : Rn 0 1053 L (vI b :: vI a :: st) T σ K ↔ inI (a + b) ∧ Rn 0 1054 L (vI (a + b) :: st) T σ K := R_iadd (by decide +kernel)
theorem s0_1054 : Rn 0 1054 L (vI a :: vR o :: st) T σ K ↔ ((sx_kd T o = 20 ∨ (sx_kd T o = 23 ∧ o = 0)) ∧ 0 ≤ a ∧ a < sx_ln T o) ∧ Rn 0 1055 L (vI (σ o a) :: st) T σ K := R_iald0 (by decide +kernel)
theorem s0_1055 : Rn 0 1055 [some (vR o), l1, l2, l3] st T σ K ↔ Rn 0 1056 [some (vR o), l1, l2, l3] (vR o :: st) T σ K := R_aload_n (n := 0) (by decide +kernel) rfl
theorem s0_1056 : Rn 0 1056 [l0, l1, l2, some (vI a)] st T σ K ↔ Rn 0 1057 [l0, l1, l2, some (vI a)] (vI a :: st) T σ K := R_iload_n (n := 3) (by decide +kernel) rfl
theorem s0_1057 : Rn 0 1057 L st T σ K ↔ Rn 0 1058 L (vI 2 :: st) T σ K := R_iconst (n := 2) (by decide +kernel) (by decide)
theorem s0_1058 : Rn 0 1058 L (vI b :: vI a :: st) T σ K ↔ inI (a + b) ∧ Rn 0 1059 L (vI (a + b) :: st) T σ K := R_iadd (by decide +kernel)
theorem s0_1059 : Rn 0 1059 L (vI a :: vR o :: st) T σ K ↔ ((sx_kd T o = 20 ∨ (sx_kd T o = 23 ∧ o = 0)) ∧ 0 ≤ a ∧ a < sx_ln T o) ∧ Rn 0 1060 L (vI (σ o a) :: st) T σ K := R_iald0 (by decide +kernel)
theorem s0_1060 : Rn 0 1060 L (vI b :: vI a :: vR o :: st) T σ K ↔ (sx_kd T o = 9 ∧ st.length ≤ 4) ∧ Rn 241 0 [some (vR o), some (vI a), some (vI b), none] [] T σ (fun r T' σ' => Rn 0 1063 L (sx_push r st) T' σ' K) := R_V (cm := 241) (n := 2) (idx := 115) (ci := 9) (mx := 4) (vs := [vI a, vI b]) (by decide +kernel) (by decide +kernel) rfl (by decide +kernel) rfl (by decide +kernel) (by decide +kernel)
theorem s0_1063 : Rn 0 1063 L (vI b :: vI a :: st) T σ K ↔ (a = b → Rn 0 1657 L st T σ K) ∧ (a ≠ b → Rn 0 1066 L st T σ K) := R_icmp_eq (off := 594) (by decide +kernel) (by decide)
theorem s0_1066 : Rn 0 1066 L st T σ K ↔ Rn 0 1067 L (vI 0 :: st) T σ K := R_iconst (n := 0) (by decide +kernel) (by decide)
theorem s0_1067 : Rn 0 1067 L [vI a] T σ K ↔ (a = 0 ∨ a = 1) ∧ K (some (vI a)) T σ := R_retZ (by decide +kernel) (by decide +kernel)
theorem s0_1068 : Rn 0 1068 [l0, some (vR o), l2, l3] st T σ K ↔ Rn 0 1069 [l0, some (vR o), l2, l3] (vR o :: st) T σ K := R_aload_n (n := 1) (by decide +kernel) rfl
theorem s0_1069 : Rn 0 1069 [some (vR o), l1, l2, l3] st T σ K ↔ Rn 0 1070 [some (vR o), l1, l2, l3] (vR o :: st) T σ K := R_aload_n (n := 0) (by decide +kernel) rfl
theorem s0_1070 : Rn 0 1070 [l0, l1, l2, some (vI a)] st T σ K ↔ Rn 0 1071 [l0, l1, l2, some (vI a)] (vI a :: st) T σ K := R_iload_n (n := 3) (by decide +kernel) rfl
theorem s0_1071 : Rn 0 1071 L st T σ K ↔ Rn 0 1072 L (vI 1 :: st) T σ K := R_iconst (n := 1) (by decide +kernel) (by decide)
theorem s0_1072 : Rn 0 1072 L (vI b :: vI a :: st) T σ K ↔ inI (a + b) ∧ Rn 0 1073 L (vI (a + b) :: st) T σ K := R_iadd (by decide +kernel)
theorem s0_1073 : Rn 0 1073 L (vI a :: vR o :: st) T σ K ↔ ((sx_kd T o = 20 ∨ (sx_kd T o = 23 ∧ o = 0)) ∧ 0 ≤ a ∧ a < sx_ln T o) ∧ Rn 0 1074 L (vI (σ o a) :: st) T σ K := R_iald0 (by decide +kernel)
theorem s0_1074 : Rn 0 1074 L (vI a :: vR o :: st) T σ K ↔ (sx_kd T o = 8 ∧ st.length ≤ 4) ∧ Rn 106 0 [some (vR o), some (vI a), none] [] T σ (fun r T' σ' => Rn 0 1077 L (sx_push r st) T' σ' K) := R_V (cm := 106) (n := 1) (idx := 116) (ci := 8) (mx := 3) (vs := [vI a]) (by decide +kernel) (by decide +kernel) rfl (by decide +kernel) rfl (by decide +kernel) (by decide +kernel)
theorem s0_1077 : Rn 0 1077 [l0, l1, some (vR o), l3] st T σ K ↔ Rn 0 1078 [l0, l1, some (vR o), l3] (vR o :: st) T σ K := R_aload_n (n := 2) (by decide +kernel) rfl
theorem s0_1078 : Rn 0 1078 [some (vR o), l1, l2, l3] st T σ K ↔ Rn 0 1079 [some (vR o), l1, l2, l3] (vR o :: st) T σ K := R_aload_n (n := 0) (by decide +kernel) rfl
theorem s0_1079 : Rn 0 1079 [l0, l1, l2, some (vI a)] st T σ K ↔ Rn 0 1080 [l0, l1, l2, some (vI a)] (vI a :: st) T σ K := R_iload_n (n := 3) (by decide +kernel) rfl
theorem s0_1080 : Rn 0 1080 L st T σ K ↔ Rn 0 1081 L (vI 1 :: st) T σ K := R_iconst (n := 1) (by decide +kernel) (by decide)
theorem s0_1081 : Rn 0 1081 L (vI b :: vI a :: st) T σ K ↔ inI (a + b) ∧ Rn 0 1082 L (vI (a + b) :: st) T σ K := R_iadd (by decide +kernel)
theorem s0_1082 : Rn 0 1082 L (vI a :: vR o :: st) T σ K ↔ ((sx_kd T o = 20 ∨ (sx_kd T o = 23 ∧ o = 0)) ∧ 0 ≤ a ∧ a < sx_ln T o) ∧ Rn 0 1083 L (vI (σ o a) :: st) T σ K := R_iald0 (by decide +kernel)
theorem s0_1083 : Rn 0 1083 L (vI a :: vR o :: st) T σ K ↔ (sx_kd T o = 9 ∧ st.length ≤ 4) ∧ Rn 244 0 [some (vR o), some (vI a), none, none, none, none, none] [] T σ (fun r T' σ' => Rn 0 1086 L (sx_push r st) T' σ' K) := R_V (cm := 244) (n := 1) (idx := 119) (ci := 9) (mx := 7) (vs := [vI a]) (by decide +kernel) (by decide +kernel) rfl (by decide +kernel) rfl (by decide +kernel) (by decide +kernel)
theorem s0_1086 : Rn 0 1086 L (vI b :: vI a :: st) T σ K ↔ (a = b → Rn 0 1657 L st T σ K) ∧ (a ≠ b → Rn 0 1089 L st T σ K) := R_icmp_eq (off := 571) (by decide +kernel) (by decide)
theorem s0_1089 : Rn 0 1089 L st T σ K ↔ Rn 0 1090 L (vI 0 :: st) T σ K := R_iconst (n := 0) (by decide +kernel) (by decide)
theorem s0_1090 : Rn 0 1090 L [vI a] T σ K ↔ (a = 0 ∨ a = 1) ∧ K (some (vI a)) T σ := R_retZ (by decide +kernel) (by decide +kernel)
theorem s0_1091 : Rn 0 1091 [l0, some (vR o), l2, l3] st T σ K ↔ Rn 0 1092 [l0, some (vR o), l2, l3] (vR o :: st) T σ K := R_aload_n (n := 1) (by decide +kernel) rfl
theorem s0_1092 : Rn 0 1092 [some (vR o), l1, l2, l3] st T σ K ↔ Rn 0 1093 [some (vR o), l1, l2, l3] (vR o :: st) T σ K := R_aload_n (n := 0) (by decide +kernel) rfl
theorem s0_1093 : Rn 0 1093 [l0, l1, l2, some (vI a)] st T σ K ↔ Rn 0 1094 [l0, l1, l2, some (vI a)] (vI a :: st) T σ K := R_iload_n (n := 3) (by decide +kernel) rfl
theorem s0_1094 : Rn 0 1094 L st T σ K ↔ Rn 0 1095 L (vI 1 :: st) T σ K := R_iconst (n := 1) (by decide +kernel) (by decide)
theorem s0_1095 : Rn 0 1095 L (vI b :: vI a :: st) T σ K ↔ inI (a + b) ∧ Rn 0 1096 L (vI (a + b) :: st) T σ K := R_iadd (by decide +kernel)
theorem s0_1096 : Rn 0 1096 L (vI a :: vR o :: st) T σ K ↔ ((sx_kd T o = 20 ∨ (sx_kd T o = 23 ∧ o = 0)) ∧ 0 ≤ a ∧ a < sx_ln T o) ∧ Rn 0 1097 L (vI (σ o a) :: st) T σ K := R_iald0 (by decide +kernel)
theorem s0_1097 : Rn 0 1097 L (vI a :: vR o :: st) T σ K ↔ (sx_kd T o = 8 ∧ st.length ≤ 4) ∧ Rn 111 0 [some (vR o), some (vI a)] [] T σ (fun r T' σ' => Rn 0 1100 L (sx_push r st) T' σ' K) := R_V (cm := 111) (n := 1) (idx := 120) (ci := 8) (mx := 2) (vs := [vI a]) (by decide +kernel) (by decide +kernel) rfl (by decide +kernel) rfl (by decide +kernel) (by decide +kernel)
theorem s0_1100 : Rn 0 1100 [l0, l1, some (vR o), l3] st T σ K ↔ Rn 0 1101 [l0, l1, some (vR o), l3] (vR o :: st) T σ K := R_aload_n (n := 2) (by decide +kernel) rfl
theorem s0_1101 : Rn 0 1101 [some (vR o), l1, l2, l3] st T σ K ↔ Rn 0 1102 [some (vR o), l1, l2, l3] (vR o :: st) T σ K := R_aload_n (n := 0) (by decide +kernel) rfl
theorem s0_1102 : Rn 0 1102 [l0, l1, l2, some (vI a)] st T σ K ↔ Rn 0 1103 [l0, l1, l2, some (vI a)] (vI a :: st) T σ K := R_iload_n (n := 3) (by decide +kernel) rfl
theorem s0_1103 : Rn 0 1103 L st T σ K ↔ Rn 0 1104 L (vI 1 :: st) T σ K := R_iconst (n := 1) (by decide +kernel) (by decide)
theorem s0_1104 : Rn 0 1104 L (vI b :: vI a :: st) T σ K ↔ inI (a + b) ∧ Rn 0 1105 L (vI (a + b) :: st) T σ K := R_iadd (by decide +kernel)
theorem s0_1105 : Rn 0 1105 L (vI a :: vR o :: st) T σ K ↔ ((sx_kd T o = 20 ∨ (sx_kd T o = 23 ∧ o = 0)) ∧ 0 ≤ a ∧ a < sx_ln T o) ∧ Rn 0 1106 L (vI (σ o a) :: st) T σ K := R_iald0 (by decide +kernel)
theorem s0_1106 : Rn 0 1106 L (vI a :: vR o :: st) T σ K ↔ (sx_kd T o = 9 ∧ st.length ≤ 4) ∧ Rn 238 0 [some (vR o), some (vI a), none] [] T σ (fun r T' σ' => Rn 0 1109 L (sx_push r st) T' σ' K) := R_V (cm := 238) (n := 1) (idx := 123) (ci := 9) (mx := 3) (vs := [vI a]) (by decide +kernel) (by decide +kernel) rfl (by decide +kernel) rfl (by decide +kernel) (by decide +kernel)
theorem s0_1109 : Rn 0 1109 L (vI b :: vI a :: st) T σ K ↔ (a = b → Rn 0 1657 L st T σ K) ∧ (a ≠ b → Rn 0 1112 L st T σ K) := R_icmp_eq (off := 548) (by decide +kernel) (by decide)
theorem s0_1112 : Rn 0 1112 L st T σ K ↔ Rn 0 1113 L (vI 0 :: st) T σ K := R_iconst (n := 0) (by decide +kernel) (by decide)
theorem s0_1113 : Rn 0 1113 L [vI a] T σ K ↔ (a = 0 ∨ a = 1) ∧ K (some (vI a)) T σ := R_retZ (by decide +kernel) (by decide +kernel)
theorem s0_1114 : Rn 0 1114 [l0, some (vR o), l2, l3] st T σ K ↔ Rn 0 1115 [l0, some (vR o), l2, l3] (vR o :: st) T σ K := R_aload_n (n := 1) (by decide +kernel) rfl
theorem s0_1115 : Rn 0 1115 [some (vR o), l1, l2, l3] st T σ K ↔ Rn 0 1116 [some (vR o), l1, l2, l3] (vR o :: st) T σ K := R_aload_n (n := 0) (by decide +kernel) rfl
theorem s0_1116 : Rn 0 1116 [l0, l1, l2, some (vI a)] st T σ K ↔ Rn 0 1117 [l0, l1, l2, some (vI a)] (vI a :: st) T σ K := R_iload_n (n := 3) (by decide +kernel) rfl
theorem s0_1117 : Rn 0 1117 L st T σ K ↔ Rn 0 1118 L (vI 1 :: st) T σ K := R_iconst (n := 1) (by decide +kernel) (by decide)
theorem s0_1118 : Rn 0 1118 L (vI b :: vI a :: st) T σ K ↔ inI (a + b) ∧ Rn 0 1119 L (vI (a + b) :: st) T σ K := R_iadd (by decide +kernel)
theorem s0_1119 : Rn 0 1119 L (vI a :: vR o :: st) T σ K ↔ ((sx_kd T o = 20 ∨ (sx_kd T o = 23 ∧ o = 0)) ∧ 0 ≤ a ∧ a < sx_ln T o) ∧ Rn 0 1120 L (vI (σ o a) :: st) T σ K := R_iald0 (by decide +kernel)
theorem s0_1120 : Rn 0 1120 [some (vR o), l1, l2, l3] st T σ K ↔ Rn 0 1121 [some (vR o), l1, l2, l3] (vR o :: st) T σ K := R_aload_n (n := 0) (by decide +kernel) rfl
theorem s0_1121 : Rn 0 1121 [l0, l1, l2, some (vI a)] st T σ K ↔ Rn 0 1122 [l0, l1, l2, some (vI a)] (vI a :: st) T σ K := R_iload_n (n := 3) (by decide +kernel) rfl
theorem s0_1122 : Rn 0 1122 L st T σ K ↔ Rn 0 1123 L (vI 2 :: st) T σ K := R_iconst (n := 2) (by decide +kernel) (by decide)
theorem s0_1123 : Rn 0 1123 L (vI b :: vI a :: st) T σ K ↔ inI (a + b) ∧ Rn 0 1124 L (vI (a + b) :: st) T σ K := R_iadd (by decide +kernel)
theorem s0_1124 : Rn 0 1124 L (vI a :: vR o :: st) T σ K ↔ ((sx_kd T o = 20 ∨ (sx_kd T o = 23 ∧ o = 0)) ∧ 0 ≤ a ∧ a < sx_ln T o) ∧ Rn 0 1125 L (vI (σ o a) :: st) T σ K := R_iald0 (by decide +kernel)
theorem s0_1125 : Rn 0 1125 L (vI b :: vI a :: vR o :: st) T σ K ↔ (sx_kd T o = 8 ∧ st.length ≤ 4) ∧ Rn 112 0 [some (vR o), some (vI a), some (vI b)] [] T σ (fun r T' σ' => Rn 0 1128 L (sx_push r st) T' σ' K) := R_V (cm := 112) (n := 2) (idx := 124) (ci := 8) (mx := 3) (vs := [vI a, vI b]) (by decide +kernel) (by decide +kernel) rfl (by decide +kernel) rfl (by decide +kernel) (by decide +kernel)
theorem s0_1128 : Rn 0 1128 [l0, l1, some (vR o), l3] st T σ K ↔ Rn 0 1129 [l0, l1, some (vR o), l3] (vR o :: st) T σ K := R_aload_n (n := 2) (by decide +kernel) rfl
theorem s0_1129 : Rn 0 1129 [some (vR o), l1, l2, l3] st T σ K ↔ Rn 0 1130 [some (vR o), l1, l2, l3] (vR o :: st) T σ K := R_aload_n (n := 0) (by decide +kernel) rfl
theorem s0_1130 : Rn 0 1130 [l0, l1, l2, some (vI a)] st T σ K ↔ Rn 0 1131 [l0, l1, l2, some (vI a)] (vI a :: st) T σ K := R_iload_n (n := 3) (by decide +kernel) rfl
theorem s0_1131 : Rn 0 1131 L st T σ K ↔ Rn 0 1132 L (vI 1 :: st) T σ K := R_iconst (n := 1) (by decide +kernel) (by decide)
theorem s0_1132 : Rn 0 1132 L (vI b :: vI a :: st) T σ K ↔ inI (a + b) ∧ Rn 0 1133 L (vI (a + b) :: st) T σ K := R_iadd (by decide +kernel)
theorem s0_1133 : Rn 0 1133 L (vI a :: vR o :: st) T σ K ↔ ((sx_kd T o = 20 ∨ (sx_kd T o = 23 ∧ o = 0)) ∧ 0 ≤ a ∧ a < sx_ln T o) ∧ Rn 0 1134 L (vI (σ o a) :: st) T σ K := R_iald0 (by decide +kernel)
theorem s0_1134 : Rn 0 1134 [some (vR o), l1, l2, l3] st T σ K ↔ Rn 0 1135 [some (vR o), l1, l2, l3] (vR o :: st) T σ K := R_aload_n (n := 0) (by decide +kernel) rfl
theorem s0_1135 : Rn 0 1135 [l0, l1, l2, some (vI a)] st T σ K ↔ Rn 0 1136 [l0, l1, l2, some (vI a)] (vI a :: st) T σ K := R_iload_n (n := 3) (by decide +kernel) rfl
theorem s0_1136 : Rn 0 1136 L st T σ K ↔ Rn 0 1137 L (vI 2 :: st) T σ K := R_iconst (n := 2) (by decide +kernel) (by decide)
theorem s0_1137 : Rn 0 1137 L (vI b :: vI a :: st) T σ K ↔ inI (a + b) ∧ Rn 0 1138 L (vI (a + b) :: st) T σ K := R_iadd (by decide +kernel)
theorem s0_1138 : Rn 0 1138 L (vI a :: vR o :: st) T σ K ↔ ((sx_kd T o = 20 ∨ (sx_kd T o = 23 ∧ o = 0)) ∧ 0 ≤ a ∧ a < sx_ln T o) ∧ Rn 0 1139 L (vI (σ o a) :: st) T σ K := R_iald0 (by decide +kernel)
theorem s0_1139 : Rn 0 1139 L (vI b :: vI a :: vR o :: st) T σ K ↔ (sx_kd T o = 9 ∧ st.length ≤ 4) ∧ Rn 245 0 [some (vR o), some (vI a), some (vI b), none, none, none] [] T σ (fun r T' σ' => Rn 0 1142 L (sx_push r st) T' σ' K) := R_V (cm := 245) (n := 2) (idx := 127) (ci := 9) (mx := 6) (vs := [vI a, vI b]) (by decide +kernel) (by decide +kernel) rfl (by decide +kernel) rfl (by decide +kernel) (by decide +kernel)
theorem s0_1142 : Rn 0 1142 L (vI b :: vI a :: st) T σ K ↔ (a = b → Rn 0 1657 L st T σ K) ∧ (a ≠ b → Rn 0 1145 L st T σ K) := R_icmp_eq (off := 515) (by decide +kernel) (by decide)
theorem s0_1145 : Rn 0 1145 L st T σ K ↔ Rn 0 1146 L (vI 0 :: st) T σ K := R_iconst (n := 0) (by decide +kernel) (by decide)
theorem s0_1146 : Rn 0 1146 L [vI a] T σ K ↔ (a = 0 ∨ a = 1) ∧ K (some (vI a)) T σ := R_retZ (by decide +kernel) (by decide +kernel)
theorem s0_1147 : Rn 0 1147 [l0, some (vR o), l2, l3] st T σ K ↔ Rn 0 1148 [l0, some (vR o), l2, l3] (vR o :: st) T σ K := R_aload_n (n := 1) (by decide +kernel) rfl
theorem s0_1148 : Rn 0 1148 [some (vR o), l1, l2, l3] st T σ K ↔ Rn 0 1149 [some (vR o), l1, l2, l3] (vR o :: st) T σ K := R_aload_n (n := 0) (by decide +kernel) rfl
theorem s0_1149 : Rn 0 1149 [l0, l1, l2, some (vI a)] st T σ K ↔ Rn 0 1150 [l0, l1, l2, some (vI a)] (vI a :: st) T σ K := R_iload_n (n := 3) (by decide +kernel) rfl
theorem s0_1150 : Rn 0 1150 L st T σ K ↔ Rn 0 1151 L (vI 1 :: st) T σ K := R_iconst (n := 1) (by decide +kernel) (by decide)
theorem s0_1151 : Rn 0 1151 L (vI b :: vI a :: st) T σ K ↔ inI (a + b) ∧ Rn 0 1152 L (vI (a + b) :: st) T σ K := R_iadd (by decide +kernel)
theorem s0_1152 : Rn 0 1152 L (vI a :: vR o :: st) T σ K ↔ ((sx_kd T o = 20 ∨ (sx_kd T o = 23 ∧ o = 0)) ∧ 0 ≤ a ∧ a < sx_ln T o) ∧ Rn 0 1153 L (vI (σ o a) :: st) T σ K := R_iald0 (by decide +kernel)
theorem s0_1153 : Rn 0 1153 [some (vR o), l1, l2, l3] st T σ K ↔ Rn 0 1154 [some (vR o), l1, l2, l3] (vR o :: st) T σ K := R_aload_n (n := 0) (by decide +kernel) rfl
theorem s0_1154 : Rn 0 1154 [l0, l1, l2, some (vI a)] st T σ K ↔ Rn 0 1155 [l0, l1, l2, some (vI a)] (vI a :: st) T σ K := R_iload_n (n := 3) (by decide +kernel) rfl
theorem s0_1155 : Rn 0 1155 L st T σ K ↔ Rn 0 1156 L (vI 2 :: st) T σ K := R_iconst (n := 2) (by decide +kernel) (by decide)
theorem s0_1156 : Rn 0 1156 L (vI b :: vI a :: st) T σ K ↔ inI (a + b) ∧ Rn 0 1157 L (vI (a + b) :: st) T σ K := R_iadd (by decide +kernel)
theorem s0_1157 : Rn 0 1157 L (vI a :: vR o :: st) T σ K ↔ ((sx_kd T o = 20 ∨ (sx_kd T o = 23 ∧ o = 0)) ∧ 0 ≤ a ∧ a < sx_ln T o) ∧ Rn 0 1158 L (vI (σ o a) :: st) T σ K := R_iald0 (by decide +kernel)
theorem s0_1158 : Rn 0 1158 L (vI b :: vI a :: vR o :: st) T σ K ↔ (sx_kd T o = 8 ∧ st.length ≤ 4) ∧ Rn 117 0 [some (vR o), some (vI a), some (vI b)] [] T σ (fun r T' σ' => Rn 0 1161 L (sx_push r st) T' σ' K) := R_V (cm := 117) (n := 2) (idx := 128) (ci := 8) (mx := 3) (vs := [vI a, vI b]) (by decide +kernel) (by decide +kernel) rfl (by decide +kernel) rfl (by decide +kernel) (by decide +kernel)
theorem s0_1161 : Rn 0 1161 [l0, l1, some (vR o), l3] st T σ K ↔ Rn 0 1162 [l0, l1, some (vR o), l3] (vR o :: st) T σ K := R_aload_n (n := 2) (by decide +kernel) rfl
theorem s0_1162 : Rn 0 1162 [some (vR o), l1, l2, l3] st T σ K ↔ Rn 0 1163 [some (vR o), l1, l2, l3] (vR o :: st) T σ K := R_aload_n (n := 0) (by decide +kernel) rfl
theorem s0_1163 : Rn 0 1163 [l0, l1, l2, some (vI a)] st T σ K ↔ Rn 0 1164 [l0, l1, l2, some (vI a)] (vI a :: st) T σ K := R_iload_n (n := 3) (by decide +kernel) rfl
theorem s0_1164 : Rn 0 1164 L st T σ K ↔ Rn 0 1165 L (vI 1 :: st) T σ K := R_iconst (n := 1) (by decide +kernel) (by decide)
theorem s0_1165 : Rn 0 1165 L (vI b :: vI a :: st) T σ K ↔ inI (a + b) ∧ Rn 0 1166 L (vI (a + b) :: st) T σ K := R_iadd (by decide +kernel)
theorem s0_1166 : Rn 0 1166 L (vI a :: vR o :: st) T σ K ↔ ((sx_kd T o = 20 ∨ (sx_kd T o = 23 ∧ o = 0)) ∧ 0 ≤ a ∧ a < sx_ln T o) ∧ Rn 0 1167 L (vI (σ o a) :: st) T σ K := R_iald0 (by decide +kernel)
theorem s0_1167 : Rn 0 1167 [some (vR o), l1, l2, l3] st T σ K ↔ Rn 0 1168 [some (vR o), l1, l2, l3] (vR o :: st) T σ K := R_aload_n (n := 0) (by decide +kernel) rfl
theorem s0_1168 : Rn 0 1168 [l0, l1, l2, some (vI a)] st T σ K ↔ Rn 0 1169 [l0, l1, l2, some (vI a)] (vI a :: st) T σ K := R_iload_n (n := 3) (by decide +kernel) rfl
theorem s0_1169 : Rn 0 1169 L st T σ K ↔ Rn 0 1170 L (vI 2 :: st) T σ K := R_iconst (n := 2) (by decide +kernel) (by decide)
theorem s0_1170 : Rn 0 1170 L (vI b :: vI a :: st) T σ K ↔ inI (a + b) ∧ Rn 0 1171 L (vI (a + b) :: st) T σ K := R_iadd (by decide +kernel)
theorem s0_1171 : Rn 0 1171 L (vI a :: vR o :: st) T σ K ↔ ((sx_kd T o = 20 ∨ (sx_kd T o = 23 ∧ o = 0)) ∧ 0 ≤ a ∧ a < sx_ln T o) ∧ Rn 0 1172 L (vI (σ o a) :: st) T σ K := R_iald0 (by decide +kernel)
theorem s0_1172 : Rn 0 1172 L (vI b :: vI a :: vR o :: st) T σ K ↔ (sx_kd T o = 9 ∧ st.length ≤ 4) ∧ Rn 247 0 [some (vR o), some (vI a), some (vI b)] [] T σ (fun r T' σ' => Rn 0 1175 L (sx_push r st) T' σ' K) := R_V (cm := 247) (n := 2) (idx := 131) (ci := 9) (mx := 3) (vs := [vI a, vI b]) (by decide +kernel) (by decide +kernel) rfl (by decide +kernel) rfl (by decide +kernel) (by decide +kernel)
theorem s0_1175 : Rn 0 1175 L (vI b :: vI a :: st) T σ K ↔ (a = b → Rn 0 1657 L st T σ K) ∧ (a ≠ b → Rn 0 1178 L st T σ K) := R_icmp_eq (off := 482) (by decide +kernel) (by decide)
theorem s0_1178 : Rn 0 1178 L st T σ K ↔ Rn 0 1179 L (vI 0 :: st) T σ K := R_iconst (n := 0) (by decide +kernel) (by decide)
theorem s0_1179 : Rn 0 1179 L [vI a] T σ K ↔ (a = 0 ∨ a = 1) ∧ K (some (vI a)) T σ := R_retZ (by decide +kernel) (by decide +kernel)
theorem s0_1180 : Rn 0 1180 [l0, some (vR o), l2, l3] st T σ K ↔ Rn 0 1181 [l0, some (vR o), l2, l3] (vR o :: st) T σ K := R_aload_n (n := 1) (by decide +kernel) rfl
theorem s0_1181 : Rn 0 1181 [some (vR o), l1, l2, l3] st T σ K ↔ Rn 0 1182 [some (vR o), l1, l2, l3] (vR o :: st) T σ K := R_aload_n (n := 0) (by decide +kernel) rfl
theorem s0_1182 : Rn 0 1182 [l0, l1, l2, some (vI a)] st T σ K ↔ Rn 0 1183 [l0, l1, l2, some (vI a)] (vI a :: st) T σ K := R_iload_n (n := 3) (by decide +kernel) rfl
theorem s0_1183 : Rn 0 1183 L st T σ K ↔ Rn 0 1184 L (vI 1 :: st) T σ K := R_iconst (n := 1) (by decide +kernel) (by decide)
theorem s0_1184 : Rn 0 1184 L (vI b :: vI a :: st) T σ K ↔ inI (a + b) ∧ Rn 0 1185 L (vI (a + b) :: st) T σ K := R_iadd (by decide +kernel)
theorem s0_1185 : Rn 0 1185 L (vI a :: vR o :: st) T σ K ↔ ((sx_kd T o = 20 ∨ (sx_kd T o = 23 ∧ o = 0)) ∧ 0 ≤ a ∧ a < sx_ln T o) ∧ Rn 0 1186 L (vI (σ o a) :: st) T σ K := R_iald0 (by decide +kernel)
theorem s0_1186 : Rn 0 1186 L (vI a :: vR o :: st) T σ K ↔ (sx_kd T o = 8 ∧ st.length ≤ 4) ∧ Rn 120 0 [some (vR o), some (vI a)] [] T σ (fun r T' σ' => Rn 0 1189 L (sx_push r st) T' σ' K) := R_V (cm := 120) (n := 1) (idx := 132) (ci := 8) (mx := 2) (vs := [vI a]) (by decide +kernel) (by decide +kernel) rfl (by decide +kernel) rfl (by decide +kernel) (by decide +kernel)
theorem s0_1189 : Rn 0 1189 [l0, l1, some (vR o), l3] st T σ K ↔ Rn 0 1190 [l0, l1, some (vR o), l3] (vR o :: st) T σ K := R_aload_n (n := 2) (by decide +kernel) rfl
theorem s0_1190 : Rn 0 1190 [some (vR o), l1, l2, l3] st T σ K ↔ Rn 0 1191 [some (vR o), l1, l2, l3] (vR o :: st) T σ K := R_aload_n (n := 0) (by decide +kernel) rfl
theorem s0_1191 : Rn 0 1191 [l0, l1, l2, some (vI a)] st T σ K ↔ Rn 0 1192 [l0, l1, l2, some (vI a)] (vI a :: st) T σ K := R_iload_n (n := 3) (by decide +kernel) rfl
theorem s0_1192 : Rn 0 1192 L st T σ K ↔ Rn 0 1193 L (vI 1 :: st) T σ K := R_iconst (n := 1) (by decide +kernel) (by decide)
theorem s0_1193 : Rn 0 1193 L (vI b :: vI a :: st) T σ K ↔ inI (a + b) ∧ Rn 0 1194 L (vI (a + b) :: st) T σ K := R_iadd (by decide +kernel)
theorem s0_1194 : Rn 0 1194 L (vI a :: vR o :: st) T σ K ↔ ((sx_kd T o = 20 ∨ (sx_kd T o = 23 ∧ o = 0)) ∧ 0 ≤ a ∧ a < sx_ln T o) ∧ Rn 0 1195 L (vI (σ o a) :: st) T σ K := R_iald0 (by decide +kernel)
theorem s0_1195 : Rn 0 1195 L (vI a :: vR o :: st) T σ K ↔ (sx_kd T o = 9 ∧ st.length ≤ 4) ∧ Rn 248 0 [some (vR o), some (vI a)] [] T σ (fun r T' σ' => Rn 0 1198 L (sx_push r st) T' σ' K) := R_V (cm := 248) (n := 1) (idx := 135) (ci := 9) (mx := 2) (vs := [vI a]) (by decide +kernel) (by decide +kernel) rfl (by decide +kernel) rfl (by decide +kernel) (by decide +kernel)
theorem s0_1198 : Rn 0 1198 L (vI b :: vI a :: st) T σ K ↔ (a = b → Rn 0 1657 L st T σ K) ∧ (a ≠ b → Rn 0 1201 L st T σ K) := R_icmp_eq (off := 459) (by decide +kernel) (by decide)
theorem s0_1201 : Rn 0 1201 L st T σ K ↔ Rn 0 1202 L (vI 0 :: st) T σ K := R_iconst (n := 0) (by decide +kernel) (by decide)
theorem s0_1202 : Rn 0 1202 L [vI a] T σ K ↔ (a = 0 ∨ a = 1) ∧ K (some (vI a)) T σ := R_retZ (by decide +kernel) (by decide +kernel)
theorem s0_1203 : Rn 0 1203 [l0, some (vR o), l2, l3] st T σ K ↔ Rn 0 1204 [l0, some (vR o), l2, l3] (vR o :: st) T σ K := R_aload_n (n := 1) (by decide +kernel) rfl
theorem s0_1204 : Rn 0 1204 [some (vR o), l1, l2, l3] st T σ K ↔ Rn 0 1205 [some (vR o), l1, l2, l3] (vR o :: st) T σ K := R_aload_n (n := 0) (by decide +kernel) rfl
theorem s0_1205 : Rn 0 1205 [l0, l1, l2, some (vI a)] st T σ K ↔ Rn 0 1206 [l0, l1, l2, some (vI a)] (vI a :: st) T σ K := R_iload_n (n := 3) (by decide +kernel) rfl
theorem s0_1206 : Rn 0 1206 L st T σ K ↔ Rn 0 1207 L (vI 1 :: st) T σ K := R_iconst (n := 1) (by decide +kernel) (by decide)
theorem s0_1207 : Rn 0 1207 L (vI b :: vI a :: st) T σ K ↔ inI (a + b) ∧ Rn 0 1208 L (vI (a + b) :: st) T σ K := R_iadd (by decide +kernel)
theorem s0_1208 : Rn 0 1208 L (vI a :: vR o :: st) T σ K ↔ ((sx_kd T o = 20 ∨ (sx_kd T o = 23 ∧ o = 0)) ∧ 0 ≤ a ∧ a < sx_ln T o) ∧ Rn 0 1209 L (vI (σ o a) :: st) T σ K := R_iald0 (by decide +kernel)
theorem s0_1209 : Rn 0 1209 [some (vR o), l1, l2, l3] st T σ K ↔ Rn 0 1210 [some (vR o), l1, l2, l3] (vR o :: st) T σ K := R_aload_n (n := 0) (by decide +kernel) rfl
theorem s0_1210 : Rn 0 1210 [l0, l1, l2, some (vI a)] st T σ K ↔ Rn 0 1211 [l0, l1, l2, some (vI a)] (vI a :: st) T σ K := R_iload_n (n := 3) (by decide +kernel) rfl
theorem s0_1211 : Rn 0 1211 L st T σ K ↔ Rn 0 1212 L (vI 2 :: st) T σ K := R_iconst (n := 2) (by decide +kernel) (by decide)
theorem s0_1212 : Rn 0 1212 L (vI b :: vI a :: st) T σ K ↔ inI (a + b) ∧ Rn 0 1213 L (vI (a + b) :: st) T σ K := R_iadd (by decide +kernel)
theorem s0_1213 : Rn 0 1213 L (vI a :: vR o :: st) T σ K ↔ ((sx_kd T o = 20 ∨ (sx_kd T o = 23 ∧ o = 0)) ∧ 0 ≤ a ∧ a < sx_ln T o) ∧ Rn 0 1214 L (vI (σ o a) :: st) T σ K := R_iald0 (by decide +kernel)
theorem s0_1214 : Rn 0 1214 [some (vR o), l1, l2, l3] st T σ K ↔ Rn 0 1215 [some (vR o), l1, l2, l3] (vR o :: st) T σ K := R_aload_n (n := 0) (by decide +kernel) rfl
theorem s0_1215 : Rn 0 1215 [l0, l1, l2, some (vI a)] st T σ K ↔ Rn 0 1216 [l0, l1, l2, some (vI a)] (vI a :: st) T σ K := R_iload_n (n := 3) (by decide +kernel) rfl
theorem s0_1216 : Rn 0 1216 L st T σ K ↔ Rn 0 1217 L (vI 3 :: st) T σ K := R_iconst (n := 3) (by decide +kernel) (by decide)
theorem s0_1217 : Rn 0 1217 L (vI b :: vI a :: st) T σ K ↔ inI (a + b) ∧ Rn 0 1218 L (vI (a + b) :: st) T σ K := R_iadd (by decide +kernel)
theorem s0_1218 : Rn 0 1218 L (vI a :: vR o :: st) T σ K ↔ ((sx_kd T o = 20 ∨ (sx_kd T o = 23 ∧ o = 0)) ∧ 0 ≤ a ∧ a < sx_ln T o) ∧ Rn 0 1219 L (vI (σ o a) :: st) T σ K := R_iald0 (by decide +kernel)
theorem s0_1219 : Rn 0 1219 [some (vR o), l1, l2, l3] st T σ K ↔ Rn 0 1220 [some (vR o), l1, l2, l3] (vR o :: st) T σ K := R_aload_n (n := 0) (by decide +kernel) rfl
theorem s0_1220 : Rn 0 1220 [l0, l1, l2, some (vI a)] st T σ K ↔ Rn 0 1221 [l0, l1, l2, some (vI a)] (vI a :: st) T σ K := R_iload_n (n := 3) (by decide +kernel) rfl
theorem s0_1221 : Rn 0 1221 L st T σ K ↔ Rn 0 1222 L (vI 4 :: st) T σ K := R_iconst (n := 4) (by decide +kernel) (by decide)
theorem s0_1222 : Rn 0 1222 L (vI b :: vI a :: st) T σ K ↔ inI (a + b) ∧ Rn 0 1223 L (vI (a + b) :: st) T σ K := R_iadd (by decide +kernel)
theorem s0_1223 : Rn 0 1223 L (vI a :: vR o :: st) T σ K ↔ ((sx_kd T o = 20 ∨ (sx_kd T o = 23 ∧ o = 0)) ∧ 0 ≤ a ∧ a < sx_ln T o) ∧ Rn 0 1224 L (vI (σ o a) :: st) T σ K := R_iald0 (by decide +kernel)
theorem s0_1224 : Rn 0 1224 L (vI d :: vI c :: vI b :: vI a :: vR o :: st) T σ K ↔ (sx_kd T o = 8 ∧ st.length ≤ 4) ∧ Rn 122 0 [some (vR o), some (vI a), some (vI b), some (vI c), some (vI d), none, none] [] T σ (fun r T' σ' => Rn 0 1227 L (sx_push r st) T' σ' K) := R_V (cm := 122) (n := 4) (idx := 136) (ci := 8) (mx := 7) (vs := [vI a, vI b, vI c, vI d]) (by decide +kernel) (by decide +kernel) rfl (by decide +kernel) rfl (by decide +kernel) (by decide +kernel)
theorem s0_1227 : Rn 0 1227 [l0, l1, some (vR o), l3] st T σ K ↔ Rn 0 1228 [l0, l1, some (vR o), l3] (vR o :: st) T σ K := R_aload_n (n := 2) (by decide +kernel) rfl
theorem s0_1228 : Rn 0 1228 [some (vR o), l1, l2, l3] st T σ K ↔ Rn 0 1229 [some (vR o), l1, l2, l3] (vR o :: st) T σ K := R_aload_n (n := 0) (by decide +kernel) rfl
theorem s0_1229 : Rn 0 1229 [l0, l1, l2, some (vI a)] st T σ K ↔ Rn 0 1230 [l0, l1, l2, some (vI a)] (vI a :: st) T σ K := R_iload_n (n := 3) (by decide +kernel) rfl
theorem s0_1230 : Rn 0 1230 L st T σ K ↔ Rn 0 1231 L (vI 1 :: st) T σ K := R_iconst (n := 1) (by decide +kernel) (by decide)
theorem s0_1231 : Rn 0 1231 L (vI b :: vI a :: st) T σ K ↔ inI (a + b) ∧ Rn 0 1232 L (vI (a + b) :: st) T σ K := R_iadd (by decide +kernel)
theorem s0_1232 : Rn 0 1232 L (vI a :: vR o :: st) T σ K ↔ ((sx_kd T o = 20 ∨ (sx_kd T o = 23 ∧ o = 0)) ∧ 0 ≤ a ∧ a < sx_ln T o) ∧ Rn 0 1233 L (vI (σ o a) :: st) T σ K := R_iald0 (by decide +kernel)
theorem s0_1233 : Rn 0 1233 [some (vR o), l1, l2, l3] st T σ K ↔ Rn 0 1234 [some (vR o), l1, l2, l3] (vR o :: st) T σ K := R_aload_n (n := 0) (by decide +kernel) rfl
theorem s0_1234 : Rn 0 1234 [l0, l1, l2, some (vI a)] st T σ K ↔ Rn 0 1235 [l0, l1, l2, some (vI a)] (vI a :: st) T σ K := R_iload_n (n := 3) (by decide +kernel) rfl
theorem s0_1235 : Rn 0 1235 L st T σ K ↔ Rn 0 1236 L (vI 2 :: st) T σ K := R_iconst (n := 2) (by decide +kernel) (by decide)
theorem s0_1236 : Rn 0 1236 L (vI b :: vI a :: st) T σ K ↔ inI (a + b) ∧ Rn 0 1237 L (vI (a + b) :: st) T σ K := R_iadd (by decide +kernel)
theorem s0_1237 : Rn 0 1237 L (vI a :: vR o :: st) T σ K ↔ ((sx_kd T o = 20 ∨ (sx_kd T o = 23 ∧ o = 0)) ∧ 0 ≤ a ∧ a < sx_ln T o) ∧ Rn 0 1238 L (vI (σ o a) :: st) T σ K := R_iald0 (by decide +kernel)
theorem s0_1238 : Rn 0 1238 [some (vR o), l1, l2, l3] st T σ K ↔ Rn 0 1239 [some (vR o), l1, l2, l3] (vR o :: st) T σ K := R_aload_n (n := 0) (by decide +kernel) rfl
theorem s0_1239 : Rn 0 1239 [l0, l1, l2, some (vI a)] st T σ K ↔ Rn 0 1240 [l0, l1, l2, some (vI a)] (vI a :: st) T σ K := R_iload_n (n := 3) (by decide +kernel) rfl
theorem s0_1240 : Rn 0 1240 L st T σ K ↔ Rn 0 1241 L (vI 3 :: st) T σ K := R_iconst (n := 3) (by decide +kernel) (by decide)
theorem s0_1241 : Rn 0 1241 L (vI b :: vI a :: st) T σ K ↔ inI (a + b) ∧ Rn 0 1242 L (vI (a + b) :: st) T σ K := R_iadd (by decide +kernel)
theorem s0_1242 : Rn 0 1242 L (vI a :: vR o :: st) T σ K ↔ ((sx_kd T o = 20 ∨ (sx_kd T o = 23 ∧ o = 0)) ∧ 0 ≤ a ∧ a < sx_ln T o) ∧ Rn 0 1243 L (vI (σ o a) :: st) T σ K := R_iald0 (by decide +kernel)
theorem s0_1243 : Rn 0 1243 [some (vR o), l1, l2, l3] st T σ K ↔ Rn 0 1244 [some (vR o), l1, l2, l3] (vR o :: st) T σ K := R_aload_n (n := 0) (by decide +kernel) rfl
theorem s0_1244 : Rn 0 1244 [l0, l1, l2, some (vI a)] st T σ K ↔ Rn 0 1245 [l0, l1, l2, some (vI a)] (vI a :: st) T σ K := R_iload_n (n := 3) (by decide +kernel) rfl
theorem s0_1245 : Rn 0 1245 L st T σ K ↔ Rn 0 1246 L (vI 4 :: st) T σ K := R_iconst (n := 4) (by decide +kernel) (by decide)
theorem s0_1246 : Rn 0 1246 L (vI b :: vI a :: st) T σ K ↔ inI (a + b) ∧ Rn 0 1247 L (vI (a + b) :: st) T σ K := R_iadd (by decide +kernel)
theorem s0_1247 : Rn 0 1247 L (vI a :: vR o :: st) T σ K ↔ ((sx_kd T o = 20 ∨ (sx_kd T o = 23 ∧ o = 0)) ∧ 0 ≤ a ∧ a < sx_ln T o) ∧ Rn 0 1248 L (vI (σ o a) :: st) T σ K := R_iald0 (by decide +kernel)
theorem s0_1248 : Rn 0 1248 L (vI d :: vI c :: vI b :: vI a :: vR o :: st) T σ K ↔ (sx_kd T o = 9 ∧ st.length ≤ 4) ∧ Rn 249 0 [some (vR o), some (vI a), some (vI b), some (vI c), some (vI d), none] [] T σ (fun r T' σ' => Rn 0 1251 L (sx_push r st) T' σ' K) := R_V (cm := 249) (n := 4) (idx := 139) (ci := 9) (mx := 6) (vs := [vI a, vI b, vI c, vI d]) (by decide +kernel) (by decide +kernel) rfl (by decide +kernel) rfl (by decide +kernel) (by decide +kernel)
theorem s0_1251 : Rn 0 1251 L (vI b :: vI a :: st) T σ K ↔ (a = b → Rn 0 1657 L st T σ K) ∧ (a ≠ b → Rn 0 1254 L st T σ K) := R_icmp_eq (off := 406) (by decide +kernel) (by decide)
theorem s0_1254 : Rn 0 1254 L st T σ K ↔ Rn 0 1255 L (vI 0 :: st) T σ K := R_iconst (n := 0) (by decide +kernel) (by decide)
theorem s0_1255 : Rn 0 1255 L [vI a] T σ K ↔ (a = 0 ∨ a = 1) ∧ K (some (vI a)) T σ := R_retZ (by decide +kernel) (by decide +kernel)
theorem s0_1256 : Rn 0 1256 [l0, some (vR o), l2, l3] st T σ K ↔ Rn 0 1257 [l0, some (vR o), l2, l3] (vR o :: st) T σ K := R_aload_n (n := 1) (by decide +kernel) rfl
theorem s0_1257 : Rn 0 1257 [some (vR o), l1, l2, l3] st T σ K ↔ Rn 0 1258 [some (vR o), l1, l2, l3] (vR o :: st) T σ K := R_aload_n (n := 0) (by decide +kernel) rfl
theorem s0_1258 : Rn 0 1258 [l0, l1, l2, some (vI a)] st T σ K ↔ Rn 0 1259 [l0, l1, l2, some (vI a)] (vI a :: st) T σ K := R_iload_n (n := 3) (by decide +kernel) rfl
theorem s0_1259 : Rn 0 1259 L st T σ K ↔ Rn 0 1260 L (vI 1 :: st) T σ K := R_iconst (n := 1) (by decide +kernel) (by decide)
theorem s0_1260 : Rn 0 1260 L (vI b :: vI a :: st) T σ K ↔ inI (a + b) ∧ Rn 0 1261 L (vI (a + b) :: st) T σ K := R_iadd (by decide +kernel)
theorem s0_1261 : Rn 0 1261 L (vI a :: vR o :: st) T σ K ↔ ((sx_kd T o = 20 ∨ (sx_kd T o = 23 ∧ o = 0)) ∧ 0 ≤ a ∧ a < sx_ln T o) ∧ Rn 0 1262 L (vI (σ o a) :: st) T σ K := R_iald0 (by decide +kernel)
theorem s0_1262 : Rn 0 1262 [some (vR o), l1, l2, l3] st T σ K ↔ Rn 0 1263 [some (vR o), l1, l2, l3] (vR o :: st) T σ K := R_aload_n (n := 0) (by decide +kernel) rfl
theorem s0_1263 : Rn 0 1263 [l0, l1, l2, some (vI a)] st T σ K ↔ Rn 0 1264 [l0, l1, l2, some (vI a)] (vI a :: st) T σ K := R_iload_n (n := 3) (by decide +kernel) rfl
theorem s0_1264 : Rn 0 1264 L st T σ K ↔ Rn 0 1265 L (vI 2 :: st) T σ K := R_iconst (n := 2) (by decide +kernel) (by decide)
theorem s0_1265 : Rn 0 1265 L (vI b :: vI a :: st) T σ K ↔ inI (a + b) ∧ Rn 0 1266 L (vI (a + b) :: st) T σ K := R_iadd (by decide +kernel)
theorem s0_1266 : Rn 0 1266 L (vI a :: vR o :: st) T σ K ↔ ((sx_kd T o = 20 ∨ (sx_kd T o = 23 ∧ o = 0)) ∧ 0 ≤ a ∧ a < sx_ln T o) ∧ Rn 0 1267 L (vI (σ o a) :: st) T σ K := R_iald0 (by decide +kernel)
theorem s0_1267 : Rn 0 1267 L (vI b :: vI a :: vR o :: st) T σ K ↔ (sx_kd T o = 8 ∧ st.length ≤ 4) ∧ Rn 124 0 [some (vR o), some (vI a), some (vI b)] [] T σ (fun r T' σ' => Rn 0 1270 L (sx_push r st) T' σ' K) := R_V (cm := 124) (n := 2) (idx := 140) (ci := 8) (mx := 3) (vs := [vI a, vI b]) (by decide +kernel) (by decide +kernel) rfl (by decide +kernel) rfl (by decide +kernel) (by decide +kernel)
theorem s0_1270 : Rn 0 1270 [l0, l1, some (vR o), l3] st T σ K ↔ Rn 0 1271 [l0, l1, some (vR o), l3] (vR o :: st) T σ K := R_aload_n (n := 2) (by decide +kernel) rfl
theorem s0_1271 : Rn 0 1271 [some (vR o), l1, l2, l3] st T σ K ↔ Rn 0 1272 [some (vR o), l1, l2, l3] (vR o :: st) T σ K := R_aload_n (n := 0) (by decide +kernel) rfl
theorem s0_1272 : Rn 0 1272 [l0, l1, l2, some (vI a)] st T σ K ↔ Rn 0 1273 [l0, l1, l2, some (vI a)] (vI a :: st) T σ K := R_iload_n (n := 3) (by decide +kernel) rfl
theorem s0_1273 : Rn 0 1273 L st T σ K ↔ Rn 0 1274 L (vI 1 :: st) T σ K := R_iconst (n := 1) (by decide +kernel) (by decide)
theorem s0_1274 : Rn 0 1274 L (vI b :: vI a :: st) T σ K ↔ inI (a + b) ∧ Rn 0 1275 L (vI (a + b) :: st) T σ K := R_iadd (by decide +kernel)
theorem s0_1275 : Rn 0 1275 L (vI a :: vR o :: st) T σ K ↔ ((sx_kd T o = 20 ∨ (sx_kd T o = 23 ∧ o = 0)) ∧ 0 ≤ a ∧ a < sx_ln T o) ∧ Rn 0 1276 L (vI (σ o a) :: st) T σ K := R_iald0 (by decide +kernel)
theorem s0_1276 : Rn 0 1276 [some (vR o), l1, l2, l3] st T σ K ↔ Rn 0 1277 [some (vR o), l1, l2, l3] (vR o :: st) T σ K := R_aload_n (n := 0) (by decide +kernel) rfl
theorem s0_1277 : Rn 0 1277 [l0, l1, l2, some (vI a)] st T σ K ↔ Rn 0 1278 [l0, l1, l2, some (vI a)] (vI a :: st) T σ K := R_iload_n (n := 3) (by decide +kernel) rfl
theorem s0_1278 : Rn 0 1278 L st T σ K ↔ Rn 0 1279 L (vI 2 :: st) T σ K := R_iconst (n := 2) (by decide +kernel) (by decide)
theorem s0_1279 : Rn 0 1279 L (vI b :: vI a :: st) T σ K ↔ inI (a + b) ∧ Rn 0 1280 L (vI (a + b) :: st) T σ K := R_iadd (by decide +kernel)
theorem s0_1280 : Rn 0 1280 L (vI a :: vR o :: st) T σ K ↔ ((sx_kd T o = 20 ∨ (sx_kd T o = 23 ∧ o = 0)) ∧ 0 ≤ a ∧ a < sx_ln T o) ∧ Rn 0 1281 L (vI (σ o a) :: st) T σ K := R_iald0 (by decide +kernel)
theorem s0_1281 : Rn 0 1281 L (vI b :: vI a :: vR o :: st) T σ K ↔ (sx_kd T o = 9 ∧ st.length ≤ 4) ∧ Rn 252 0 [some (vR o), some (vI a), some (vI b), none] [] T σ (fun r T' σ' => Rn 0 1284 L (sx_push r st) T' σ' K) := R_V (cm := 252) (n := 2) (idx := 143) (ci := 9) (mx := 4) (vs := [vI a, vI b]) (by decide +kernel) (by decide +kernel) rfl (by decide +kernel) rfl (by decide +kernel) (by decide +kernel)
theorem s0_1284 : Rn 0 1284 L (vI b :: vI a :: st) T σ K ↔ (a = b → Rn 0 1657 L st T σ K) ∧ (a ≠ b → Rn 0 1287 L st T σ K) := R_icmp_eq (off := 373) (by decide +kernel) (by decide)
theorem s0_1287 : Rn 0 1287 L st T σ K ↔ Rn 0 1288 L (vI 0 :: st) T σ K := R_iconst (n := 0) (by decide +kernel) (by decide)
theorem s0_1288 : Rn 0 1288 L [vI a] T σ K ↔ (a = 0 ∨ a = 1) ∧ K (some (vI a)) T σ := R_retZ (by decide +kernel) (by decide +kernel)
theorem s0_1289 : Rn 0 1289 [l0, some (vR o), l2, l3] st T σ K ↔ Rn 0 1290 [l0, some (vR o), l2, l3] (vR o :: st) T σ K := R_aload_n (n := 1) (by decide +kernel) rfl
theorem s0_1290 : Rn 0 1290 [some (vR o), l1, l2, l3] st T σ K ↔ Rn 0 1291 [some (vR o), l1, l2, l3] (vR o :: st) T σ K := R_aload_n (n := 0) (by decide +kernel) rfl
theorem s0_1291 : Rn 0 1291 [l0, l1, l2, some (vI a)] st T σ K ↔ Rn 0 1292 [l0, l1, l2, some (vI a)] (vI a :: st) T σ K := R_iload_n (n := 3) (by decide +kernel) rfl
theorem s0_1292 : Rn 0 1292 L st T σ K ↔ Rn 0 1293 L (vI 1 :: st) T σ K := R_iconst (n := 1) (by decide +kernel) (by decide)
theorem s0_1293 : Rn 0 1293 L (vI b :: vI a :: st) T σ K ↔ inI (a + b) ∧ Rn 0 1294 L (vI (a + b) :: st) T σ K := R_iadd (by decide +kernel)
theorem s0_1294 : Rn 0 1294 L (vI a :: vR o :: st) T σ K ↔ ((sx_kd T o = 20 ∨ (sx_kd T o = 23 ∧ o = 0)) ∧ 0 ≤ a ∧ a < sx_ln T o) ∧ Rn 0 1295 L (vI (σ o a) :: st) T σ K := R_iald0 (by decide +kernel)
theorem s0_1295 : Rn 0 1295 L (vI a :: vR o :: st) T σ K ↔ (sx_kd T o = 8 ∧ st.length ≤ 4) ∧ Rn 129 0 [some (vR o), some (vI a)] [] T σ (fun r T' σ' => Rn 0 1298 L (sx_push r st) T' σ' K) := R_V (cm := 129) (n := 1) (idx := 144) (ci := 8) (mx := 2) (vs := [vI a]) (by decide +kernel) (by decide +kernel) rfl (by decide +kernel) rfl (by decide +kernel) (by decide +kernel)
theorem s0_1298 : Rn 0 1298 [l0, l1, some (vR o), l3] st T σ K ↔ Rn 0 1299 [l0, l1, some (vR o), l3] (vR o :: st) T σ K := R_aload_n (n := 2) (by decide +kernel) rfl
theorem s0_1299 : Rn 0 1299 [some (vR o), l1, l2, l3] st T σ K ↔ Rn 0 1300 [some (vR o), l1, l2, l3] (vR o :: st) T σ K := R_aload_n (n := 0) (by decide +kernel) rfl
theorem s0_1300 : Rn 0 1300 [l0, l1, l2, some (vI a)] st T σ K ↔ Rn 0 1301 [l0, l1, l2, some (vI a)] (vI a :: st) T σ K := R_iload_n (n := 3) (by decide +kernel) rfl
theorem s0_1301 : Rn 0 1301 L st T σ K ↔ Rn 0 1302 L (vI 1 :: st) T σ K := R_iconst (n := 1) (by decide +kernel) (by decide)
theorem s0_1302 : Rn 0 1302 L (vI b :: vI a :: st) T σ K ↔ inI (a + b) ∧ Rn 0 1303 L (vI (a + b) :: st) T σ K := R_iadd (by decide +kernel)
theorem s0_1303 : Rn 0 1303 L (vI a :: vR o :: st) T σ K ↔ ((sx_kd T o = 20 ∨ (sx_kd T o = 23 ∧ o = 0)) ∧ 0 ≤ a ∧ a < sx_ln T o) ∧ Rn 0 1304 L (vI (σ o a) :: st) T σ K := R_iald0 (by decide +kernel)
theorem s0_1304 : Rn 0 1304 L (vI a :: vR o :: st) T σ K ↔ (sx_kd T o = 9 ∧ st.length ≤ 4) ∧ Rn 259 0 [some (vR o), some (vI a), none] [] T σ (fun r T' σ' => Rn 0 1307 L (sx_push r st) T' σ' K) := R_V (cm := 259) (n := 1) (idx := 147) (ci := 9) (mx := 3) (vs := [vI a]) (by decide +kernel) (by decide +kernel) rfl (by decide +kernel) rfl (by decide +kernel) (by decide +kernel)
theorem s0_1307 : Rn 0 1307 L (vI b :: vI a :: st) T σ K ↔ (a = b → Rn 0 1657 L st T σ K) ∧ (a ≠ b → Rn 0 1310 L st T σ K) := R_icmp_eq (off := 350) (by decide +kernel) (by decide)
theorem s0_1310 : Rn 0 1310 L st T σ K ↔ Rn 0 1311 L (vI 0 :: st) T σ K := R_iconst (n := 0) (by decide +kernel) (by decide)
theorem s0_1311 : Rn 0 1311 L [vI a] T σ K ↔ (a = 0 ∨ a = 1) ∧ K (some (vI a)) T σ := R_retZ (by decide +kernel) (by decide +kernel)
theorem s0_1312 : Rn 0 1312 [l0, some (vR o), l2, l3] st T σ K ↔ Rn 0 1313 [l0, some (vR o), l2, l3] (vR o :: st) T σ K := R_aload_n (n := 1) (by decide +kernel) rfl
theorem s0_1313 : Rn 0 1313 L (vR o :: st) T σ K ↔ (sx_kd T o = 8 ∧ st.length ≤ 4) ∧ Rn 131 0 [some (vR o), none] [] T σ (fun r T' σ' => Rn 0 1316 L (sx_push r st) T' σ' K) := R_V (cm := 131) (n := 0) (idx := 148) (ci := 8) (mx := 2) (vs := []) (by decide +kernel) (by decide +kernel) rfl (by decide +kernel) rfl (by decide +kernel) (by decide +kernel)
theorem s0_1316 : Rn 0 1316 [l0, l1, some (vR o), l3] st T σ K ↔ Rn 0 1317 [l0, l1, some (vR o), l3] (vR o :: st) T σ K := R_aload_n (n := 2) (by decide +kernel) rfl
theorem s0_1317 : Rn 0 1317 L (vR o :: st) T σ K ↔ (sx_kd T o = 9 ∧ st.length ≤ 4) ∧ Rn 261 0 [some (vR o), none, none, none] [] T σ (fun r T' σ' => Rn 0 1320 L (sx_push r st) T' σ' K) := R_V (cm := 261) (n := 0) (idx := 151) (ci := 9) (mx := 4) (vs := []) (by decide +kernel) (by decide +kernel) rfl (by decide +kernel) rfl (by decide +kernel) (by decide +kernel)
theorem s0_1320 : Rn 0 1320 L (vI b :: vI a :: st) T σ K ↔ (a = b → Rn 0 1657 L st T σ K) ∧ (a ≠ b → Rn 0 1323 L st T σ K) := R_icmp_eq (off := 337) (by decide +kernel) (by decide)
theorem s0_1323 : Rn 0 1323 L st T σ K ↔ Rn 0 1324 L (vI 0 :: st) T σ K := R_iconst (n := 0) (by decide +kernel) (by decide)
theorem s0_1324 : Rn 0 1324 L [vI a] T σ K ↔ (a = 0 ∨ a = 1) ∧ K (some (vI a)) T σ := R_retZ (by decide +kernel) (by decide +kernel)
theorem s0_1325 : Rn 0 1325 [l0, some (vR o), l2, l3] st T σ K ↔ Rn 0 1326 [l0, some (vR o), l2, l3] (vR o :: st) T σ K := R_aload_n (n := 1) (by decide +kernel) rfl
theorem s0_1326 : Rn 0 1326 [some (vR o), l1, l2, l3] st T σ K ↔ Rn 0 1327 [some (vR o), l1, l2, l3] (vR o :: st) T σ K := R_aload_n (n := 0) (by decide +kernel) rfl
theorem s0_1327 : Rn 0 1327 [l0, l1, l2, some (vI a)] st T σ K ↔ Rn 0 1328 [l0, l1, l2, some (vI a)] (vI a :: st) T σ K := R_iload_n (n := 3) (by decide +kernel) rfl
theorem s0_1328 : Rn 0 1328 L st T σ K ↔ Rn 0 1329 L (vI 1 :: st) T σ K := R_iconst (n := 1) (by decide +kernel) (by decide)
theorem s0_1329 : Rn 0 1329 L (vI b :: vI a :: st) T σ K ↔ inI (a + b) ∧ Rn 0 1330 L (vI (a + b) :: st) T σ K := R_iadd (by decide +kernel)
theorem s0_1330 : Rn 0 1330 L (vI a :: vR o :: st) T σ K ↔ ((sx_kd T o = 20 ∨ (sx_kd T o = 23 ∧ o = 0)) ∧ 0 ≤ a ∧ a < sx_ln T o) ∧ Rn 0 1331 L (vI (σ o a) :: st) T σ K := R_iald0 (by decide +kernel)
theorem s0_1331 : Rn 0 1331 L (vI a :: vR o :: st) T σ K ↔ (sx_kd T o = 8 ∧ st.length ≤ 4) ∧ Rn 133 0 [some (vR o), some (vI a)] [] T σ (fun r T' σ' => Rn 0 1334 L (sx_push r st) T' σ' K) := R_V (cm := 133) (n := 1) (idx := 152) (ci := 8) (mx := 2) (vs := [vI a]) (by decide +kernel) (by decide +kernel) rfl (by decide +kernel) rfl (by decide +kernel) (by decide +kernel)
theorem s0_1334 : Rn 0 1334 [l0, l1, some (vR o), l3] st T σ K ↔ Rn 0 1335 [l0, l1, some (vR o), l3] (vR o :: st) T σ K := R_aload_n (n := 2) (by decide +kernel) rfl
theorem s0_1335 : Rn 0 1335 [some (vR o), l1, l2, l3] st T σ K ↔ Rn 0 1336 [some (vR o), l1, l2, l3] (vR o :: st) T σ K := R_aload_n (n := 0) (by decide +kernel) rfl
theorem s0_1336 : Rn 0 1336 [l0, l1, l2, some (vI a)] st T σ K ↔ Rn 0 1337 [l0, l1, l2, some (vI a)] (vI a :: st) T σ K := R_iload_n (n := 3) (by decide +kernel) rfl
theorem s0_1337 : Rn 0 1337 L st T σ K ↔ Rn 0 1338 L (vI 1 :: st) T σ K := R_iconst (n := 1) (by decide +kernel) (by decide)
theorem s0_1338 : Rn 0 1338 L (vI b :: vI a :: st) T σ K ↔ inI (a + b) ∧ Rn 0 1339 L (vI (a + b) :: st) T σ K := R_iadd (by decide +kernel)
theorem s0_1339 : Rn 0 1339 L (vI a :: vR o :: st) T σ K ↔ ((sx_kd T o = 20 ∨ (sx_kd T o = 23 ∧ o = 0)) ∧ 0 ≤ a ∧ a < sx_ln T o) ∧ Rn 0 1340 L (vI (σ o a) :: st) T σ K := R_iald0 (by decide +kernel)
theorem s0_1340 : Rn 0 1340 L (vI a :: vR o :: st) T σ K ↔ (sx_kd T o = 9 ∧ st.length ≤ 4) ∧ Rn 262 0 [some (vR o), some (vI a), none, none] [] T σ (fun r T' σ' => Rn 0 1343 L (sx_push r st) T' σ' K) := R_V (cm := 262) (n := 1) (idx := 155) (ci := 9) (mx := 4) (vs := [vI a]) (by decide +kernel) (by decide +kernel) rfl (by decide +kernel) rfl (by decide +kernel) (by decide +kernel)
theorem s0_1343 : Rn 0 1343 L (vI b :: vI a :: st) T σ K ↔ (a = b → Rn 0 1657 L st T σ K) ∧ (a ≠ b → Rn 0 1346 L st T σ K) := R_icmp_eq (off := 314) (by decide +kernel) (by decide)
theorem s0_1346 : Rn 0 1346 L st T σ K ↔ Rn 0 1347 L (vI 0 :: st) T σ K := R_iconst (n := 0) (by decide +kernel) (by decide)
theorem s0_1347 : Rn 0 1347 L [vI a] T σ K ↔ (a = 0 ∨ a = 1) ∧ K (some (vI a)) T σ := R_retZ (by decide +kernel) (by decide +kernel)
theorem s0_1348 : Rn 0 1348 [l0, some (vR o), l2, l3] st T σ K ↔ Rn 0 1349 [l0, some (vR o), l2, l3] (vR o :: st) T σ K := R_aload_n (n := 1) (by decide +kernel) rfl
theorem s0_1349 : Rn 0 1349 [some (vR o), l1, l2, l3] st T σ K ↔ Rn 0 1350 [some (vR o), l1, l2, l3] (vR o :: st) T σ K := R_aload_n (n := 0) (by decide +kernel) rfl
theorem s0_1350 : Rn 0 1350 [l0, l1, l2, some (vI a)] st T σ K ↔ Rn 0 1351 [l0, l1, l2, some (vI a)] (vI a :: st) T σ K := R_iload_n (n := 3) (by decide +kernel) rfl
theorem s0_1351 : Rn 0 1351 L st T σ K ↔ Rn 0 1352 L (vI 1 :: st) T σ K := R_iconst (n := 1) (by decide +kernel) (by decide)
theorem s0_1352 : Rn 0 1352 L (vI b :: vI a :: st) T σ K ↔ inI (a + b) ∧ Rn 0 1353 L (vI (a + b) :: st) T σ K := R_iadd (by decide +kernel)
theorem s0_1353 : Rn 0 1353 L (vI a :: vR o :: st) T σ K ↔ ((sx_kd T o = 20 ∨ (sx_kd T o = 23 ∧ o = 0)) ∧ 0 ≤ a ∧ a < sx_ln T o) ∧ Rn 0 1354 L (vI (σ o a) :: st) T σ K := R_iald0 (by decide +kernel)
theorem s0_1354 : Rn 0 1354 L (vI a :: vR o :: st) T σ K ↔ (sx_kd T o = 8 ∧ st.length ≤ 4) ∧ Rn 138 0 [some (vR o), some (vI a)] [] T σ (fun r T' σ' => Rn 0 1357 L (sx_push r st) T' σ' K) := R_V (cm := 138) (n := 1) (idx := 156) (ci := 8) (mx := 2) (vs := [vI a]) (by decide +kernel) (by decide +kernel) rfl (by decide +kernel) rfl (by decide +kernel) (by decide +kernel)
theorem s0_1357 : Rn 0 1357 [l0, l1, some (vR o), l3] st T σ K ↔ Rn 0 1358 [l0, l1, some (vR o), l3] (vR o :: st) T σ K := R_aload_n (n := 2) (by decide +kernel) rfl
theorem s0_1358 : Rn 0 1358 [some (vR o), l1, l2, l3] st T σ K ↔ Rn 0 1359 [some (vR o), l1, l2, l3] (vR o :: st) T σ K := R_aload_n (n := 0) (by decide +kernel) rfl
theorem s0_1359 : Rn 0 1359 [l0, l1, l2, some (vI a)] st T σ K ↔ Rn 0 1360 [l0, l1, l2, some (vI a)] (vI a :: st) T σ K := R_iload_n (n := 3) (by decide +kernel) rfl
theorem s0_1360 : Rn 0 1360 L st T σ K ↔ Rn 0 1361 L (vI 1 :: st) T σ K := R_iconst (n := 1) (by decide +kernel) (by decide)
theorem s0_1361 : Rn 0 1361 L (vI b :: vI a :: st) T σ K ↔ inI (a + b) ∧ Rn 0 1362 L (vI (a + b) :: st) T σ K := R_iadd (by decide +kernel)
theorem s0_1362 : Rn 0 1362 L (vI a :: vR o :: st) T σ K ↔ ((sx_kd T o = 20 ∨ (sx_kd T o = 23 ∧ o = 0)) ∧ 0 ≤ a ∧ a < sx_ln T o) ∧ Rn 0 1363 L (vI (σ o a) :: st) T σ K := R_iald0 (by decide +kernel)
theorem s0_1363 : Rn 0 1363 L (vI a :: vR o :: st) T σ K ↔ (sx_kd T o = 9 ∧ st.length ≤ 4) ∧ Rn 265 0 [some (vR o), some (vI a), none, none, none, none, none, none] [] T σ (fun r T' σ' => Rn 0 1366 L (sx_push r st) T' σ' K) := R_V (cm := 265) (n := 1) (idx := 159) (ci := 9) (mx := 8) (vs := [vI a]) (by decide +kernel) (by decide +kernel) rfl (by decide +kernel) rfl (by decide +kernel) (by decide +kernel)
theorem s0_1366 : Rn 0 1366 L (vI b :: vI a :: st) T σ K ↔ (a = b → Rn 0 1657 L st T σ K) ∧ (a ≠ b → Rn 0 1369 L st T σ K) := R_icmp_eq (off := 291) (by decide +kernel) (by decide)
theorem s0_1369 : Rn 0 1369 L st T σ K ↔ Rn 0 1370 L (vI 0 :: st) T σ K := R_iconst (n := 0) (by decide +kernel) (by decide)
theorem s0_1370 : Rn 0 1370 L [vI a] T σ K ↔ (a = 0 ∨ a = 1) ∧ K (some (vI a)) T σ := R_retZ (by decide +kernel) (by decide +kernel)
theorem s0_1371 : Rn 0 1371 [l0, some (vR o), l2, l3] st T σ K ↔ Rn 0 1372 [l0, some (vR o), l2, l3] (vR o :: st) T σ K := R_aload_n (n := 1) (by decide +kernel) rfl
theorem s0_1372 : Rn 0 1372 [some (vR o), l1, l2, l3] st T σ K ↔ Rn 0 1373 [some (vR o), l1, l2, l3] (vR o :: st) T σ K := R_aload_n (n := 0) (by decide +kernel) rfl
theorem s0_1373 : Rn 0 1373 [l0, l1, l2, some (vI a)] st T σ K ↔ Rn 0 1374 [l0, l1, l2, some (vI a)] (vI a :: st) T σ K := R_iload_n (n := 3) (by decide +kernel) rfl
theorem s0_1374 : Rn 0 1374 L st T σ K ↔ Rn 0 1375 L (vI 1 :: st) T σ K := R_iconst (n := 1) (by decide +kernel) (by decide)
theorem s0_1375 : Rn 0 1375 L (vI b :: vI a :: st) T σ K ↔ inI (a + b) ∧ Rn 0 1376 L (vI (a + b) :: st) T σ K := R_iadd (by decide +kernel)
theorem s0_1376 : Rn 0 1376 L (vI a :: vR o :: st) T σ K ↔ ((sx_kd T o = 20 ∨ (sx_kd T o = 23 ∧ o = 0)) ∧ 0 ≤ a ∧ a < sx_ln T o) ∧ Rn 0 1377 L (vI (σ o a) :: st) T σ K := R_iald0 (by decide +kernel)
theorem s0_1377 : Rn 0 1377 [some (vR o), l1, l2, l3] st T σ K ↔ Rn 0 1378 [some (vR o), l1, l2, l3] (vR o :: st) T σ K := R_aload_n (n := 0) (by decide +kernel) rfl
theorem s0_1378 : Rn 0 1378 [l0, l1, l2, some (vI a)] st T σ K ↔ Rn 0 1379 [l0, l1, l2, some (vI a)] (vI a :: st) T σ K := R_iload_n (n := 3) (by decide +kernel) rfl
theorem s0_1379 : Rn 0 1379 L st T σ K ↔ Rn 0 1380 L (vI 2 :: st) T σ K := R_iconst (n := 2) (by decide +kernel) (by decide)
theorem s0_1380 : Rn 0 1380 L (vI b :: vI a :: st) T σ K ↔ inI (a + b) ∧ Rn 0 1381 L (vI (a + b) :: st) T σ K := R_iadd (by decide +kernel)
theorem s0_1381 : Rn 0 1381 L (vI a :: vR o :: st) T σ K ↔ ((sx_kd T o = 20 ∨ (sx_kd T o = 23 ∧ o = 0)) ∧ 0 ≤ a ∧ a < sx_ln T o) ∧ Rn 0 1382 L (vI (σ o a) :: st) T σ K := R_iald0 (by decide +kernel)
theorem s0_1382 : Rn 0 1382 [some (vR o), l1, l2, l3] st T σ K ↔ Rn 0 1383 [some (vR o), l1, l2, l3] (vR o :: st) T σ K := R_aload_n (n := 0) (by decide +kernel) rfl
theorem s0_1383 : Rn 0 1383 [l0, l1, l2, some (vI a)] st T σ K ↔ Rn 0 1384 [l0, l1, l2, some (vI a)] (vI a :: st) T σ K := R_iload_n (n := 3) (by decide +kernel) rfl
theorem s0_1384 : Rn 0 1384 L st T σ K ↔ Rn 0 1385 L (vI 3 :: st) T σ K := R_iconst (n := 3) (by decide +kernel) (by decide)
theorem s0_1385 : Rn 0 1385 L (vI b :: vI a :: st) T σ K ↔ inI (a + b) ∧ Rn 0 1386 L (vI (a + b) :: st) T σ K := R_iadd (by decide +kernel)
theorem s0_1386 : Rn 0 1386 L (vI a :: vR o :: st) T σ K ↔ ((sx_kd T o = 20 ∨ (sx_kd T o = 23 ∧ o = 0)) ∧ 0 ≤ a ∧ a < sx_ln T o) ∧ Rn 0 1387 L (vI (σ o a) :: st) T σ K := R_iald0 (by decide +kernel)
theorem s0_1387 : Rn 0 1387 L (vI c :: vI b :: vI a :: vR o :: st) T σ K ↔ (sx_kd T o = 8 ∧ st.length ≤ 4) ∧ Rn 141 0 [some (vR o), some (vI a), some (vI b), some (vI c), none, none] [] T σ (fun r T' σ' => Rn 0 1390 L (sx_push r st) T' σ' K) := R_V (cm := 141) (n := 3) (idx := 160) (ci := 8) (mx := 6) (vs := [vI a, vI b, vI c]) (by decide +kernel) (by decide +kernel) rfl (by decide +kernel) rfl (by decide +kernel) (by decide +kernel)
theorem s0_1390 : Rn 0 1390 [l0, l1, some (vR o), l3] st T σ K ↔ Rn 0 1391 [l0, l1, some (vR o), l3] (vR o :: st) T σ K := R_aload_n (n := 2) (by decide +kernel) rfl
theorem s0_1391 : Rn 0 1391 [some (vR o), l1, l2, l3] st T σ K ↔ Rn 0 1392 [some (vR o), l1, l2, l3] (vR o :: st) T σ K := R_aload_n (n := 0) (by decide +kernel) rfl
theorem s0_1392 : Rn 0 1392 [l0, l1, l2, some (vI a)] st T σ K ↔ Rn 0 1393 [l0, l1, l2, some (vI a)] (vI a :: st) T σ K := R_iload_n (n := 3) (by decide +kernel) rfl
theorem s0_1393 : Rn 0 1393 L st T σ K ↔ Rn 0 1394 L (vI 1 :: st) T σ K := R_iconst (n := 1) (by decide +kernel) (by decide)
theorem s0_1394 : Rn 0 1394 L (vI b :: vI a :: st) T σ K ↔ inI (a + b) ∧ Rn 0 1395 L (vI (a + b) :: st) T σ K := R_iadd (by decide +kernel)
theorem s0_1395 : Rn 0 1395 L (vI a :: vR o :: st) T σ K ↔ ((sx_kd T o = 20 ∨ (sx_kd T o = 23 ∧ o = 0)) ∧ 0 ≤ a ∧ a < sx_ln T o) ∧ Rn 0 1396 L (vI (σ o a) :: st) T σ K := R_iald0 (by decide +kernel)
theorem s0_1396 : Rn 0 1396 [some (vR o), l1, l2, l3] st T σ K ↔ Rn 0 1397 [some (vR o), l1, l2, l3] (vR o :: st) T σ K := R_aload_n (n := 0) (by decide +kernel) rfl
theorem s0_1397 : Rn 0 1397 [l0, l1, l2, some (vI a)] st T σ K ↔ Rn 0 1398 [l0, l1, l2, some (vI a)] (vI a :: st) T σ K := R_iload_n (n := 3) (by decide +kernel) rfl
theorem s0_1398 : Rn 0 1398 L st T σ K ↔ Rn 0 1399 L (vI 2 :: st) T σ K := R_iconst (n := 2) (by decide +kernel) (by decide)
theorem s0_1399 : Rn 0 1399 L (vI b :: vI a :: st) T σ K ↔ inI (a + b) ∧ Rn 0 1400 L (vI (a + b) :: st) T σ K := R_iadd (by decide +kernel)
theorem s0_1400 : Rn 0 1400 L (vI a :: vR o :: st) T σ K ↔ ((sx_kd T o = 20 ∨ (sx_kd T o = 23 ∧ o = 0)) ∧ 0 ≤ a ∧ a < sx_ln T o) ∧ Rn 0 1401 L (vI (σ o a) :: st) T σ K := R_iald0 (by decide +kernel)
theorem s0_1401 : Rn 0 1401 [some (vR o), l1, l2, l3] st T σ K ↔ Rn 0 1402 [some (vR o), l1, l2, l3] (vR o :: st) T σ K := R_aload_n (n := 0) (by decide +kernel) rfl
theorem s0_1402 : Rn 0 1402 [l0, l1, l2, some (vI a)] st T σ K ↔ Rn 0 1403 [l0, l1, l2, some (vI a)] (vI a :: st) T σ K := R_iload_n (n := 3) (by decide +kernel) rfl
theorem s0_1403 : Rn 0 1403 L st T σ K ↔ Rn 0 1404 L (vI 3 :: st) T σ K := R_iconst (n := 3) (by decide +kernel) (by decide)
theorem s0_1404 : Rn 0 1404 L (vI b :: vI a :: st) T σ K ↔ inI (a + b) ∧ Rn 0 1405 L (vI (a + b) :: st) T σ K := R_iadd (by decide +kernel)
theorem s0_1405 : Rn 0 1405 L (vI a :: vR o :: st) T σ K ↔ ((sx_kd T o = 20 ∨ (sx_kd T o = 23 ∧ o = 0)) ∧ 0 ≤ a ∧ a < sx_ln T o) ∧ Rn 0 1406 L (vI (σ o a) :: st) T σ K := R_iald0 (by decide +kernel)
theorem s0_1406 : Rn 0 1406 L (vI c :: vI b :: vI a :: vR o :: st) T σ K ↔ (sx_kd T o = 9 ∧ st.length ≤ 4) ∧ Rn 267 0 [some (vR o), some (vI a), some (vI b), some (vI c)] [] T σ (fun r T' σ' => Rn 0 1409 L (sx_push r st) T' σ' K) := R_V (cm := 267) (n := 3) (idx := 163) (ci := 9) (mx := 4) (vs := [vI a, vI b, vI c]) (by decide +kernel) (by decide +kernel) rfl (by decide +kernel) rfl (by decide +kernel) (by decide +kernel)
theorem s0_1409 : Rn 0 1409 L (vI b :: vI a :: st) T σ K ↔ (a = b → Rn 0 1657 L st T σ K) ∧ (a ≠ b → Rn 0 1412 L st T σ K) := R_icmp_eq (off := 248) (by decide +kernel) (by decide)
theorem s0_1412 : Rn 0 1412 L st T σ K ↔ Rn 0 1413 L (vI 0 :: st) T σ K := R_iconst (n := 0) (by decide +kernel) (by decide)
theorem s0_1413 : Rn 0 1413 L [vI a] T σ K ↔ (a = 0 ∨ a = 1) ∧ K (some (vI a)) T σ := R_retZ (by decide +kernel) (by decide +kernel)
theorem s0_1414 : Rn 0 1414 [l0, some (vR o), l2, l3] st T σ K ↔ Rn 0 1415 [l0, some (vR o), l2, l3] (vR o :: st) T σ K := R_aload_n (n := 1) (by decide +kernel) rfl
theorem s0_1415 : Rn 0 1415 [some (vR o), l1, l2, l3] st T σ K ↔ Rn 0 1416 [some (vR o), l1, l2, l3] (vR o :: st) T σ K := R_aload_n (n := 0) (by decide +kernel) rfl
theorem s0_1416 : Rn 0 1416 [l0, l1, l2, some (vI a)] st T σ K ↔ Rn 0 1417 [l0, l1, l2, some (vI a)] (vI a :: st) T σ K := R_iload_n (n := 3) (by decide +kernel) rfl
theorem s0_1417 : Rn 0 1417 L st T σ K ↔ Rn 0 1418 L (vI 1 :: st) T σ K := R_iconst (n := 1) (by decide +kernel) (by decide)
theorem s0_1418 : Rn 0 1418 L (vI b :: vI a :: st) T σ K ↔ inI (a + b) ∧ Rn 0 1419 L (vI (a + b) :: st) T σ K := R_iadd (by decide +kernel)
theorem s0_1419 : Rn 0 1419 L (vI a :: vR o :: st) T σ K ↔ ((sx_kd T o = 20 ∨ (sx_kd T o = 23 ∧ o = 0)) ∧ 0 ≤ a ∧ a < sx_ln T o) ∧ Rn 0 1420 L (vI (σ o a) :: st) T σ K := R_iald0 (by decide +kernel)
theorem s0_1420 : Rn 0 1420 L (vI a :: vR o :: st) T σ K ↔ (sx_kd T o = 8 ∧ st.length ≤ 4) ∧ Rn 144 0 [some (vR o), some (vI a)] [] T σ (fun r T' σ' => Rn 0 1423 L (sx_push r st) T' σ' K) := R_V (cm := 144) (n := 1) (idx := 164) (ci := 8) (mx := 2) (vs := [vI a]) (by decide +kernel) (by decide +kernel) rfl (by decide +kernel) rfl (by decide +kernel) (by decide +kernel)
theorem s0_1423 : Rn 0 1423 [l0, l1, some (vR o), l3] st T σ K ↔ Rn 0 1424 [l0, l1, some (vR o), l3] (vR o :: st) T σ K := R_aload_n (n := 2) (by decide +kernel) rfl
theorem s0_1424 : Rn 0 1424 [some (vR o), l1, l2, l3] st T σ K ↔ Rn 0 1425 [some (vR o), l1, l2, l3] (vR o :: st) T σ K := R_aload_n (n := 0) (by decide +kernel) rfl
theorem s0_1425 : Rn 0 1425 [l0, l1, l2, some (vI a)] st T σ K ↔ Rn 0 1426 [l0, l1, l2, some (vI a)] (vI a :: st) T σ K := R_iload_n (n := 3) (by decide +kernel) rfl
theorem s0_1426 : Rn 0 1426 L st T σ K ↔ Rn 0 1427 L (vI 1 :: st) T σ K := R_iconst (n := 1) (by decide +kernel) (by decide)
theorem s0_1427 : Rn 0 1427 L (vI b :: vI a :: st) T σ K ↔ inI (a + b) ∧ Rn 0 1428 L (vI (a + b) :: st) T σ K := R_iadd (by decide +kernel)
theorem s0_1428 : Rn 0 1428 L (vI a :: vR o :: st) T σ K ↔ ((sx_kd T o = 20 ∨ (sx_kd T o = 23 ∧ o = 0)) ∧ 0 ≤ a ∧ a < sx_ln T o) ∧ Rn 0 1429 L (vI (σ o a) :: st) T σ K := R_iald0 (by decide +kernel)
theorem s0_1429 : Rn 0 1429 L (vI a :: vR o :: st) T σ K ↔ (sx_kd T o = 9 ∧ st.length ≤ 4) ∧ Rn 271 0 [some (vR o), some (vI a)] [] T σ (fun r T' σ' => Rn 0 1432 L (sx_push r st) T' σ' K) := R_V (cm := 271) (n := 1) (idx := 167) (ci := 9) (mx := 2) (vs := [vI a]) (by decide +kernel) (by decide +kernel) rfl (by decide +kernel) rfl (by decide +kernel) (by decide +kernel)
theorem s0_1432 : Rn 0 1432 L (vI b :: vI a :: st) T σ K ↔ (a = b → Rn 0 1657 L st T σ K) ∧ (a ≠ b → Rn 0 1435 L st T σ K) := R_icmp_eq (off := 225) (by decide +kernel) (by decide)
theorem s0_1435 : Rn 0 1435 L st T σ K ↔ Rn 0 1436 L (vI 0 :: st) T σ K := R_iconst (n := 0) (by decide +kernel) (by decide)
theorem s0_1436 : Rn 0 1436 L [vI a] T σ K ↔ (a = 0 ∨ a = 1) ∧ K (some (vI a)) T σ := R_retZ (by decide +kernel) (by decide +kernel)
theorem s0_1437 : Rn 0 1437 [l0, some (vR o), l2, l3] st T σ K ↔ Rn 0 1438 [l0, some (vR o), l2, l3] (vR o :: st) T σ K := R_aload_n (n := 1) (by decide +kernel) rfl
theorem s0_1438 : Rn 0 1438 [some (vR o), l1, l2, l3] st T σ K ↔ Rn 0 1439 [some (vR o), l1, l2, l3] (vR o :: st) T σ K := R_aload_n (n := 0) (by decide +kernel) rfl
theorem s0_1439 : Rn 0 1439 [l0, l1, l2, some (vI a)] st T σ K ↔ Rn 0 1440 [l0, l1, l2, some (vI a)] (vI a :: st) T σ K := R_iload_n (n := 3) (by decide +kernel) rfl
theorem s0_1440 : Rn 0 1440 L st T σ K ↔ Rn 0 1441 L (vI 1 :: st) T σ K := R_iconst (n := 1) (by decide +kernel) (by decide)
theorem s0_1441 : Rn 0 1441 L (vI b :: vI a :: st) T σ K ↔ inI (a + b) ∧ Rn 0 1442 L (vI (a + b) :: st) T σ K := R_iadd (by decide +kernel)
theorem s0_1442 : Rn 0 1442 L (vI a :: vR o :: st) T σ K ↔ ((sx_kd T o = 20 ∨ (sx_kd T o = 23 ∧ o = 0)) ∧ 0 ≤ a ∧ a < sx_ln T o) ∧ Rn 0 1443 L (vI (σ o a) :: st) T σ K := R_iald0 (by decide +kernel)
theorem s0_1443 : Rn 0 1443 [some (vR o), l1, l2, l3] st T σ K ↔ Rn 0 1444 [some (vR o), l1, l2, l3] (vR o :: st) T σ K := R_aload_n (n := 0) (by decide +kernel) rfl
theorem s0_1444 : Rn 0 1444 [l0, l1, l2, some (vI a)] st T σ K ↔ Rn 0 1445 [l0, l1, l2, some (vI a)] (vI a :: st) T σ K := R_iload_n (n := 3) (by decide +kernel) rfl
theorem s0_1445 : Rn 0 1445 L st T σ K ↔ Rn 0 1446 L (vI 2 :: st) T σ K := R_iconst (n := 2) (by decide +kernel) (by decide)
theorem s0_1446 : Rn 0 1446 L (vI b :: vI a :: st) T σ K ↔ inI (a + b) ∧ Rn 0 1447 L (vI (a + b) :: st) T σ K := R_iadd (by decide +kernel)
theorem s0_1447 : Rn 0 1447 L (vI a :: vR o :: st) T σ K ↔ ((sx_kd T o = 20 ∨ (sx_kd T o = 23 ∧ o = 0)) ∧ 0 ≤ a ∧ a < sx_ln T o) ∧ Rn 0 1448 L (vI (σ o a) :: st) T σ K := R_iald0 (by decide +kernel)
theorem s0_1448 : Rn 0 1448 [some (vR o), l1, l2, l3] st T σ K ↔ Rn 0 1449 [some (vR o), l1, l2, l3] (vR o :: st) T σ K := R_aload_n (n := 0) (by decide +kernel) rfl
theorem s0_1449 : Rn 0 1449 [l0, l1, l2, some (vI a)] st T σ K ↔ Rn 0 1450 [l0, l1, l2, some (vI a)] (vI a :: st) T σ K := R_iload_n (n := 3) (by decide +kernel) rfl
theorem s0_1450 : Rn 0 1450 L st T σ K ↔ Rn 0 1451 L (vI 3 :: st) T σ K := R_iconst (n := 3) (by decide +kernel) (by decide)
theorem s0_1451 : Rn 0 1451 L (vI b :: vI a :: st) T σ K ↔ inI (a + b) ∧ Rn 0 1452 L (vI (a + b) :: st) T σ K := R_iadd (by decide +kernel)
theorem s0_1452 : Rn 0 1452 L (vI a :: vR o :: st) T σ K ↔ ((sx_kd T o = 20 ∨ (sx_kd T o = 23 ∧ o = 0)) ∧ 0 ≤ a ∧ a < sx_ln T o) ∧ Rn 0 1453 L (vI (σ o a) :: st) T σ K := R_iald0 (by decide +kernel)
theorem s0_1453 : Rn 0 1453 [some (vR o), l1, l2, l3] st T σ K ↔ Rn 0 1454 [some (vR o), l1, l2, l3] (vR o :: st) T σ K := R_aload_n (n := 0) (by decide +kernel) rfl
theorem s0_1454 : Rn 0 1454 [l0, l1, l2, some (vI a)] st T σ K ↔ Rn 0 1455 [l0, l1, l2, some (vI a)] (vI a :: st) T σ K := R_iload_n (n := 3) (by decide +kernel) rfl
theorem s0_1455 : Rn 0 1455 L st T σ K ↔ Rn 0 1456 L (vI 4 :: st) T σ K := R_iconst (n := 4) (by decide +kernel) (by decide)
theorem s0_1456 : Rn 0 1456 L (vI b :: vI a :: st) T σ K ↔ inI (a + b) ∧ Rn 0 1457 L (vI (a + b) :: st) T σ K := R_iadd (by decide +kernel)
theorem s0_1457 : Rn 0 1457 L (vI a :: vR o :: st) T σ K ↔ ((sx_kd T o = 20 ∨ (sx_kd T o = 23 ∧ o = 0)) ∧ 0 ≤ a ∧ a < sx_ln T o) ∧ Rn 0 1458 L (vI (σ o a) :: st) T σ K := R_iald0 (by decide +kernel)
theorem s0_1458 : Rn 0 1458 L (vI d :: vI c :: vI b :: vI a :: vR o :: st) T σ K ↔ (sx_kd T o = 8 ∧ st.length ≤ 4) ∧ Rn 145 0 [some (vR o), some (vI a), some (vI b), some (vI c), some (vI d), none, none] [] T σ (fun r T' σ' => Rn 0 1461 L (sx_push r st) T' σ' K) := R_V (cm := 145) (n := 4) (idx := 168) (ci := 8) (mx := 7) (vs := [vI a, vI b, vI c, vI d]) (by decide +kernel) (by decide +kernel) rfl (by decide +kernel) rfl (by decide +kernel) (by decide +kernel)
theorem s0_1461 : Rn 0 1461 [l0, l1, some (vR o), l3] st T σ K ↔ Rn 0 1462 [l0, l1, some (vR o), l3] (vR o :: st) T σ K := R_aload_n (n := 2) (by decide +kernel) rfl
theorem s0_1462 : Rn 0 1462 [some (vR o), l1, l2, l3] st T σ K ↔ Rn 0 1463 [some (vR o), l1, l2, l3] (vR o :: st) T σ K := R_aload_n (n := 0) (by decide +kernel) rfl
theorem s0_1463 : Rn 0 1463 [l0, l1, l2, some (vI a)] st T σ K ↔ Rn 0 1464 [l0, l1, l2, some (vI a)] (vI a :: st) T σ K := R_iload_n (n := 3) (by decide +kernel) rfl
theorem s0_1464 : Rn 0 1464 L st T σ K ↔ Rn 0 1465 L (vI 1 :: st) T σ K := R_iconst (n := 1) (by decide +kernel) (by decide)
theorem s0_1465 : Rn 0 1465 L (vI b :: vI a :: st) T σ K ↔ inI (a + b) ∧ Rn 0 1466 L (vI (a + b) :: st) T σ K := R_iadd (by decide +kernel)
theorem s0_1466 : Rn 0 1466 L (vI a :: vR o :: st) T σ K ↔ ((sx_kd T o = 20 ∨ (sx_kd T o = 23 ∧ o = 0)) ∧ 0 ≤ a ∧ a < sx_ln T o) ∧ Rn 0 1467 L (vI (σ o a) :: st) T σ K := R_iald0 (by decide +kernel)
theorem s0_1467 : Rn 0 1467 [some (vR o), l1, l2, l3] st T σ K ↔ Rn 0 1468 [some (vR o), l1, l2, l3] (vR o :: st) T σ K := R_aload_n (n := 0) (by decide +kernel) rfl
theorem s0_1468 : Rn 0 1468 [l0, l1, l2, some (vI a)] st T σ K ↔ Rn 0 1469 [l0, l1, l2, some (vI a)] (vI a :: st) T σ K := R_iload_n (n := 3) (by decide +kernel) rfl
theorem s0_1469 : Rn 0 1469 L st T σ K ↔ Rn 0 1470 L (vI 2 :: st) T σ K := R_iconst (n := 2) (by decide +kernel) (by decide)
theorem s0_1470 : Rn 0 1470 L (vI b :: vI a :: st) T σ K ↔ inI (a + b) ∧ Rn 0 1471 L (vI (a + b) :: st) T σ K := R_iadd (by decide +kernel)
theorem s0_1471 : Rn 0 1471 L (vI a :: vR o :: st) T σ K ↔ ((sx_kd T o = 20 ∨ (sx_kd T o = 23 ∧ o = 0)) ∧ 0 ≤ a ∧ a < sx_ln T o) ∧ Rn 0 1472 L (vI (σ o a) :: st) T σ K := R_iald0 (by decide +kernel)
theorem s0_1472 : Rn 0 1472 [some (vR o), l1, l2, l3] st T σ K ↔ Rn 0 1473 [some (vR o), l1, l2, l3] (vR o :: st) T σ K := R_aload_n (n := 0) (by decide +kernel) rfl
theorem s0_1473 : Rn 0 1473 [l0, l1, l2, some (vI a)] st T σ K ↔ Rn 0 1474 [l0, l1, l2, some (vI a)] (vI a :: st) T σ K := R_iload_n (n := 3) (by decide +kernel) rfl
theorem s0_1474 : Rn 0 1474 L st T σ K ↔ Rn 0 1475 L (vI 3 :: st) T σ K := R_iconst (n := 3) (by decide +kernel) (by decide)
theorem s0_1475 : Rn 0 1475 L (vI b :: vI a :: st) T σ K ↔ inI (a + b) ∧ Rn 0 1476 L (vI (a + b) :: st) T σ K := R_iadd (by decide +kernel)
theorem s0_1476 : Rn 0 1476 L (vI a :: vR o :: st) T σ K ↔ ((sx_kd T o = 20 ∨ (sx_kd T o = 23 ∧ o = 0)) ∧ 0 ≤ a ∧ a < sx_ln T o) ∧ Rn 0 1477 L (vI (σ o a) :: st) T σ K := R_iald0 (by decide +kernel)
theorem s0_1477 : Rn 0 1477 [some (vR o), l1, l2, l3] st T σ K ↔ Rn 0 1478 [some (vR o), l1, l2, l3] (vR o :: st) T σ K := R_aload_n (n := 0) (by decide +kernel) rfl
theorem s0_1478 : Rn 0 1478 [l0, l1, l2, some (vI a)] st T σ K ↔ Rn 0 1479 [l0, l1, l2, some (vI a)] (vI a :: st) T σ K := R_iload_n (n := 3) (by decide +kernel) rfl
theorem s0_1479 : Rn 0 1479 L st T σ K ↔ Rn 0 1480 L (vI 4 :: st) T σ K := R_iconst (n := 4) (by decide +kernel) (by decide)
theorem s0_1480 : Rn 0 1480 L (vI b :: vI a :: st) T σ K ↔ inI (a + b) ∧ Rn 0 1481 L (vI (a + b) :: st) T σ K := R_iadd (by decide +kernel)
theorem s0_1481 : Rn 0 1481 L (vI a :: vR o :: st) T σ K ↔ ((sx_kd T o = 20 ∨ (sx_kd T o = 23 ∧ o = 0)) ∧ 0 ≤ a ∧ a < sx_ln T o) ∧ Rn 0 1482 L (vI (σ o a) :: st) T σ K := R_iald0 (by decide +kernel)
theorem s0_1482 : Rn 0 1482 L (vI d :: vI c :: vI b :: vI a :: vR o :: st) T σ K ↔ (sx_kd T o = 9 ∧ st.length ≤ 4) ∧ Rn 272 0 [some (vR o), some (vI a), some (vI b), some (vI c), some (vI d)] [] T σ (fun r T' σ' => Rn 0 1485 L (sx_push r st) T' σ' K) := R_V (cm := 272) (n := 4) (idx := 172) (ci := 9) (mx := 5) (vs := [vI a, vI b, vI c, vI d]) (by decide +kernel) (by decide +kernel) rfl (by decide +kernel) rfl (by decide +kernel) (by decide +kernel)
theorem s0_1485 : Rn 0 1485 L (vI b :: vI a :: st) T σ K ↔ (a = b → Rn 0 1657 L st T σ K) ∧ (a ≠ b → Rn 0 1488 L st T σ K) := R_icmp_eq (off := 172) (by decide +kernel) (by decide)
theorem s0_1488 : Rn 0 1488 L st T σ K ↔ Rn 0 1489 L (vI 0 :: st) T σ K := R_iconst (n := 0) (by decide +kernel) (by decide)
theorem s0_1489 : Rn 0 1489 L [vI a] T σ K ↔ (a = 0 ∨ a = 1) ∧ K (some (vI a)) T σ := R_retZ (by decide +kernel) (by decide +kernel)
theorem s0_1490 : Rn 0 1490 [l0, some (vR o), l2, l3] st T σ K ↔ Rn 0 1491 [l0, some (vR o), l2, l3] (vR o :: st) T σ K := R_aload_n (n := 1) (by decide +kernel) rfl
theorem s0_1491 : Rn 0 1491 [some (vR o), l1, l2, l3] st T σ K ↔ Rn 0 1492 [some (vR o), l1, l2, l3] (vR o :: st) T σ K := R_aload_n (n := 0) (by decide +kernel) rfl
theorem s0_1492 : Rn 0 1492 [l0, l1, l2, some (vI a)] st T σ K ↔ Rn 0 1493 [l0, l1, l2, some (vI a)] (vI a :: st) T σ K := R_iload_n (n := 3) (by decide +kernel) rfl
theorem s0_1493 : Rn 0 1493 L st T σ K ↔ Rn 0 1494 L (vI 1 :: st) T σ K := R_iconst (n := 1) (by decide +kernel) (by decide)
theorem s0_1494 : Rn 0 1494 L (vI b :: vI a :: st) T σ K ↔ inI (a + b) ∧ Rn 0 1495 L (vI (a + b) :: st) T σ K := R_iadd (by decide +kernel)
theorem s0_1495 : Rn 0 1495 L (vI a :: vR o :: st) T σ K ↔ ((sx_kd T o = 20 ∨ (sx_kd T o = 23 ∧ o = 0)) ∧ 0 ≤ a ∧ a < sx_ln T o) ∧ Rn 0 1496 L (vI (σ o a) :: st) T σ K := R_iald0 (by decide +kernel)
theorem s0_1496 : Rn 0 1496 L (vI a :: vR o :: st) T σ K ↔ (sx_kd T o = 8 ∧ st.length ≤ 4) ∧ Rn 146 0 [some (vR o), some (vI a)] [] T σ (fun r T' σ' => Rn 0 1499 L (sx_push r st) T' σ' K) := R_V (cm := 146) (n := 1) (idx := 173) (ci := 8) (mx := 2) (vs := [vI a]) (by decide +kernel) (by decide +kernel) rfl (by decide +kernel) rfl (by decide +kernel) (by decide +kernel)
theorem s0_1499 : Rn 0 1499 [l0, l1, some (vR o), l3] st T σ K ↔ Rn 0 1500 [l0, l1, some (vR o), l3] (vR o :: st) T σ K := R_aload_n (n := 2) (by decide +kernel) rfl
theorem s0_1500 : Rn 0 1500 [some (vR o), l1, l2, l3] st T σ K ↔ Rn 0 1501 [some (vR o), l1, l2, l3] (vR o :: st) T σ K := R_aload_n (n := 0) (by decide +kernel) rfl
theorem s0_1501 : Rn 0 1501 [l0, l1, l2, some (vI a)] st T σ K ↔ Rn 0 1502 [l0, l1, l2, some (vI a)] (vI a :: st) T σ K := R_iload_n (n := 3) (by decide +kernel) rfl
theorem s0_1502 : Rn 0 1502 L st T σ K ↔ Rn 0 1503 L (vI 1 :: st) T σ K := R_iconst (n := 1) (by decide +kernel) (by decide)
theorem s0_1503 : Rn 0 1503 L (vI b :: vI a :: st) T σ K ↔ inI (a + b) ∧ Rn 0 1504 L (vI (a + b) :: st) T σ K := R_iadd (by decide +kernel)
theorem s0_1504 : Rn 0 1504 L (vI a :: vR o :: st) T σ K ↔ ((sx_kd T o = 20 ∨ (sx_kd T o = 23 ∧ o = 0)) ∧ 0 ≤ a ∧ a < sx_ln T o) ∧ Rn 0 1505 L (vI (σ o a) :: st) T σ K := R_iald0 (by decide +kernel)
theorem s0_1505 : Rn 0 1505 L (vI a :: vR o :: st) T σ K ↔ (sx_kd T o = 9 ∧ st.length ≤ 4) ∧ Rn 273 0 [some (vR o), some (vI a)] [] T σ (fun r T' σ' => Rn 0 1508 L (sx_push r st) T' σ' K) := R_V (cm := 273) (n := 1) (idx := 176) (ci := 9) (mx := 2) (vs := [vI a]) (by decide +kernel) (by decide +kernel) rfl (by decide +kernel) rfl (by decide +kernel) (by decide +kernel)
theorem s0_1508 : Rn 0 1508 L (vI b :: vI a :: st) T σ K ↔ (a = b → Rn 0 1657 L st T σ K) ∧ (a ≠ b → Rn 0 1511 L st T σ K) := R_icmp_eq (off := 149) (by decide +kernel) (by decide)
theorem s0_1511 : Rn 0 1511 L st T σ K ↔ Rn 0 1512 L (vI 0 :: st) T σ K := R_iconst (n := 0) (by decide +kernel) (by decide)
theorem s0_1512 : Rn 0 1512 L [vI a] T σ K ↔ (a = 0 ∨ a = 1) ∧ K (some (vI a)) T σ := R_retZ (by decide +kernel) (by decide +kernel)
theorem s0_1513 : Rn 0 1513 [l0, some (vR o), l2, l3] st T σ K ↔ Rn 0 1514 [l0, some (vR o), l2, l3] (vR o :: st) T σ K := R_aload_n (n := 1) (by decide +kernel) rfl
theorem s0_1514 : Rn 0 1514 L (vR o :: st) T σ K ↔ (sx_kd T o = 8 ∧ st.length ≤ 4) ∧ Rn 148 0 [some (vR o)] [] T σ (fun r T' σ' => Rn 0 1517 L (sx_push r st) T' σ' K) := R_V (cm := 148) (n := 0) (idx := 177) (ci := 8) (mx := 1) (vs := []) (by decide +kernel) (by decide +kernel) rfl (by decide +kernel) rfl (by decide +kernel) (by decide +kernel)
theorem s0_1517 : Rn 0 1517 [l0, l1, some (vR o), l3] st T σ K ↔ Rn 0 1518 [l0, l1, some (vR o), l3] (vR o :: st) T σ K := R_aload_n (n := 2) (by decide +kernel) rfl
theorem s0_1518 : Rn 0 1518 L (vR o :: st) T σ K ↔ (sx_kd T o = 9 ∧ st.length ≤ 4) ∧ Rn 274 0 [some (vR o)] [] T σ (fun r T' σ' => Rn 0 1521 L (sx_push r st) T' σ' K) := R_V (cm := 274) (n := 0) (idx := 180) (ci := 9) (mx := 1) (vs := []) (by decide +kernel) (by decide +kernel) rfl (by decide +kernel) rfl (by decide +kernel) (by decide +kernel)
theorem s0_1521 : Rn 0 1521 L (vI b :: vI a :: st) T σ K ↔ (a = b → Rn 0 1657 L st T σ K) ∧ (a ≠ b → Rn 0 1524 L st T σ K) := R_icmp_eq (off := 136) (by decide +kernel) (by decide)
theorem s0_1524 : Rn 0 1524 L st T σ K ↔ Rn 0 1525 L (vI 0 :: st) T σ K := R_iconst (n := 0) (by decide +kernel) (by decide)
theorem s0_1525 : Rn 0 1525 L [vI a] T σ K ↔ (a = 0 ∨ a = 1) ∧ K (some (vI a)) T σ := R_retZ (by decide +kernel) (by decide +kernel)
theorem s0_1526 : Rn 0 1526 [l0, some (vR o), l2, l3] st T σ K ↔ Rn 0 1527 [l0, some (vR o), l2, l3] (vR o :: st) T σ K := R_aload_n (n := 1) (by decide +kernel) rfl
theorem s0_1527 : Rn 0 1527 [some (vR o), l1, l2, l3] st T σ K ↔ Rn 0 1528 [some (vR o), l1, l2, l3] (vR o :: st) T σ K := R_aload_n (n := 0) (by decide +kernel) rfl
theorem s0_1528 : Rn 0 1528 [l0, l1, l2, some (vI a)] st T σ K ↔ Rn 0 1529 [l0, l1, l2, some (vI a)] (vI a :: st) T σ K := R_iload_n (n := 3) (by decide +kernel) rfl
theorem s0_1529 : Rn 0 1529 L st T σ K ↔ Rn 0 1530 L (vI 1 :: st) T σ K := R_iconst (n := 1) (by decide +kernel) (by decide)
theorem s0_1530 : Rn 0 1530 L (vI b :: vI a :: st) T σ K ↔ inI (a + b) ∧ Rn 0 1531 L (vI (a + b) :: st) T σ K := R_iadd (by decide +kernel)
theorem s0_1531 : Rn 0 1531 L (vI a :: vR o :: st) T σ K ↔ ((sx_kd T o = 20 ∨ (sx_kd T o = 23 ∧ o = 0)) ∧ 0 ≤ a ∧ a < sx_ln T o) ∧ Rn 0 1532 L (vI (σ o a) :: st) T σ K := R_iald0 (by decide +kernel)
theorem s0_1532 : Rn 0 1532 L (vI a :: vR o :: st) T σ K ↔ (sx_kd T o = 8 ∧ st.length ≤ 4) ∧ Rn 149 0 [some (vR o), some (vI a), none] [] T σ (fun r T' σ' => Rn 0 1535 L (sx_push r st) T' σ' K) := R_V (cm := 149) (n := 1) (idx := 181) (ci := 8) (mx := 3) (vs := [vI a]) (by decide +kernel) (by decide +kernel) rfl (by decide +kernel) rfl (by decide +kernel) (by decide +kernel)
theorem s0_1535 : Rn 0 1535 [l0, l1, some (vR o), l3] st T σ K ↔ Rn 0 1536 [l0, l1, some (vR o), l3] (vR o :: st) T σ K := R_aload_n (n := 2) (by decide +kernel) rfl
theorem s0_1536 : Rn 0 1536 [some (vR o), l1, l2, l3] st T σ K ↔ Rn 0 1537 [some (vR o), l1, l2, l3] (vR o :: st) T σ K := R_aload_n (n := 0) (by decide +kernel) rfl
theorem s0_1537 : Rn 0 1537 [l0, l1, l2, some (vI a)] st T σ K ↔ Rn 0 1538 [l0, l1, l2, some (vI a)] (vI a :: st) T σ K := R_iload_n (n := 3) (by decide +kernel) rfl
theorem s0_1538 : Rn 0 1538 L st T σ K ↔ Rn 0 1539 L (vI 1 :: st) T σ K := R_iconst (n := 1) (by decide +kernel) (by decide)
theorem s0_1539 : Rn 0 1539 L (vI b :: vI a :: st) T σ K ↔ inI (a + b) ∧ Rn 0 1540 L (vI (a + b) :: st) T σ K := R_iadd (by decide +kernel)
theorem s0_1540 : Rn 0 1540 L (vI a :: vR o :: st) T σ K ↔ ((sx_kd T o = 20 ∨ (sx_kd T o = 23 ∧ o = 0)) ∧ 0 ≤ a ∧ a < sx_ln T o) ∧ Rn 0 1541 L (vI (σ o a) :: st) T σ K := R_iald0 (by decide +kernel)
theorem s0_1541 : Rn 0 1541 L (vI a :: vR o :: st) T σ K ↔ (sx_kd T o = 9 ∧ st.length ≤ 4) ∧ Rn 275 0 [some (vR o), some (vI a), none] [] T σ (fun r T' σ' => Rn 0 1544 L (sx_push r st) T' σ' K) := R_V (cm := 275) (n := 1) (idx := 184) (ci := 9) (mx := 3) (vs := [vI a]) (by decide +kernel) (by decide +kernel) rfl (by decide +kernel) rfl (by decide +kernel) (by decide +kernel)
theorem s0_1544 : Rn 0 1544 L (vI b :: vI a :: st) T σ K ↔ (a = b → Rn 0 1657 L st T σ K) ∧ (a ≠ b → Rn 0 1547 L st T σ K) := R_icmp_eq (off := 113) (by decide +kernel) (by decide)
theorem s0_1547 : Rn 0 1547 L st T σ K ↔ Rn 0 1548 L (vI 0 :: st) T σ K := R_iconst (n := 0) (by decide +kernel) (by decide)
theorem s0_1548 : Rn 0 1548 L [vI a] T σ K ↔ (a = 0 ∨ a = 1) ∧ K (some (vI a)) T σ := R_retZ (by decide +kernel) (by decide +kernel)
theorem s0_1549 : Rn 0 1549 [l0, some (vR o), l2, l3] st T σ K ↔ Rn 0 1550 [l0, some (vR o), l2, l3] (vR o :: st) T σ K := R_aload_n (n := 1) (by decide +kernel) rfl
theorem s0_1550 : Rn 0 1550 L (vR o :: st) T σ K ↔ (sx_kd T o = 8 ∧ st.length ≤ 4) ∧ Rn 152 0 [some (vR o)] [] T σ (fun r T' σ' => Rn 0 1553 L (sx_push r st) T' σ' K) := R_V (cm := 152) (n := 0) (idx := 185) (ci := 8) (mx := 1) (vs := []) (by decide +kernel) (by decide +kernel) rfl (by decide +kernel) rfl (by decide +kernel) (by decide +kernel)
theorem s0_1553 : Rn 0 1553 [l0, l1, some (vR o), l3] st T σ K ↔ Rn 0 1554 [l0, l1, some (vR o), l3] (vR o :: st) T σ K := R_aload_n (n := 2) (by decide +kernel) rfl
theorem s0_1554 : Rn 0 1554 L (vR o :: st) T σ K ↔ (sx_kd T o = 9 ∧ st.length ≤ 4) ∧ Rn 278 0 [some (vR o), none] [] T σ (fun r T' σ' => Rn 0 1557 L (sx_push r st) T' σ' K) := R_V (cm := 278) (n := 0) (idx := 189) (ci := 9) (mx := 2) (vs := []) (by decide +kernel) (by decide +kernel) rfl (by decide +kernel) rfl (by decide +kernel) (by decide +kernel)
theorem s0_1557 : Rn 0 1557 L (vI b :: vI a :: st) T σ K ↔ (a = b → Rn 0 1657 L st T σ K) ∧ (a ≠ b → Rn 0 1560 L st T σ K) := R_icmp_eq (off := 100) (by decide +kernel) (by decide)
theorem s0_1560 : Rn 0 1560 L st T σ K ↔ Rn 0 1561 L (vI 0 :: st) T σ K := R_iconst (n := 0) (by decide +kernel) (by decide)
theorem s0_1561 : Rn 0 1561 L [vI a] T σ K ↔ (a = 0 ∨ a = 1) ∧ K (some (vI a)) T σ := R_retZ (by decide +kernel) (by decide +kernel)
theorem s0_1562 : Rn 0 1562 [l0, some (vR o), l2, l3] st T σ K ↔ Rn 0 1563 [l0, some (vR o), l2, l3] (vR o :: st) T σ K := R_aload_n (n := 1) (by decide +kernel) rfl
theorem s0_1563 : Rn 0 1563 [some (vR o), l1, l2, l3] st T σ K ↔ Rn 0 1564 [some (vR o), l1, l2, l3] (vR o :: st) T σ K := R_aload_n (n := 0) (by decide +kernel) rfl
theorem s0_1564 : Rn 0 1564 [l0, l1, l2, some (vI a)] st T σ K ↔ Rn 0 1565 [l0, l1, l2, some (vI a)] (vI a :: st) T σ K := R_iload_n (n := 3) (by decide +kernel) rfl
theorem s0_1565 : Rn 0 1565 L st T σ K ↔ Rn 0 1566 L (vI 1 :: st) T σ K := R_iconst (n := 1) (by decide +kernel) (by decide)
theorem s0_1566 : Rn 0 1566 L (vI b :: vI a :: st) T σ K ↔ inI (a + b) ∧ Rn 0 1567 L (vI (a + b) :: st) T σ K := R_iadd (by decide +kernel)
theorem s0_1567 : Rn 0 1567 L (vI a :: vR o :: st) T σ K ↔ ((sx_kd T o = 20 ∨ (sx_kd T o = 23 ∧ o = 0)) ∧ 0 ≤ a ∧ a < sx_ln T o) ∧ Rn 0 1568 L (vI (σ o a) :: st) T σ K := R_iald0 (by decide +kernel)
theorem s0_1568 : Rn 0 1568 L (vI a :: vR o :: st) T σ K ↔ (sx_kd T o = 8 ∧ st.length ≤ 4) ∧ Rn 154 0 [some (vR o), some (vI a)] [] T σ (fun r T' σ' => Rn 0 1571 L (sx_push r st) T' σ' K) := R_V (cm := 154) (n := 1) (idx := 190) (ci := 8) (mx := 2) (vs := [vI a]) (by decide +kernel) (by decide +kernel) rfl (by decide +kernel) rfl (by decide +kernel) (by decide +kernel)
theorem s0_1571 : Rn 0 1571 [l0, l1, some (vR o), l3] st T σ K ↔ Rn 0 1572 [l0, l1, some (vR o), l3] (vR o :: st) T σ K := R_aload_n (n := 2) (by decide +kernel) rfl
theorem s0_1572 : Rn 0 1572 [some (vR o), l1, l2, l3] st T σ K ↔ Rn 0 1573 [some (vR o), l1, l2, l3] (vR o :: st) T σ K := R_aload_n (n := 0) (by decide +kernel) rfl
theorem s0_1573 : Rn 0 1573 [l0, l1, l2, some (vI a)] st T σ K ↔ Rn 0 1574 [l0, l1, l2, some (vI a)] (vI a :: st) T σ K := R_iload_n (n := 3) (by decide +kernel) rfl
theorem s0_1574 : Rn 0 1574 L st T σ K ↔ Rn 0 1575 L (vI 1 :: st) T σ K := R_iconst (n := 1) (by decide +kernel) (by decide)
theorem s0_1575 : Rn 0 1575 L (vI b :: vI a :: st) T σ K ↔ inI (a + b) ∧ Rn 0 1576 L (vI (a + b) :: st) T σ K := R_iadd (by decide +kernel)
theorem s0_1576 : Rn 0 1576 L (vI a :: vR o :: st) T σ K ↔ ((sx_kd T o = 20 ∨ (sx_kd T o = 23 ∧ o = 0)) ∧ 0 ≤ a ∧ a < sx_ln T o) ∧ Rn 0 1577 L (vI (σ o a) :: st) T σ K := R_iald0 (by decide +kernel)
theorem s0_1577 : Rn 0 1577 L (vI a :: vR o :: st) T σ K ↔ (sx_kd T o = 9 ∧ st.length ≤ 4) ∧ Rn 279 0 [some (vR o), some (vI a)] [] T σ (fun r T' σ' => Rn 0 1580 L (sx_push r st) T' σ' K) := R_V (cm := 279) (n := 1) (idx := 193) (ci := 9) (mx := 2) (vs := [vI a]) (by decide +kernel) (by decide +kernel) rfl (by decide +kernel) rfl (by decide +kernel) (by decide +kernel)
theorem s0_1580 : Rn 0 1580 L (vI b :: vI a :: st) T σ K ↔ (a = b → Rn 0 1657 L st T σ K) ∧ (a ≠ b → Rn 0 1583 L st T σ K) := R_icmp_eq (off := 77) (by decide +kernel) (by decide)
theorem s0_1583 : Rn 0 1583 L st T σ K ↔ Rn 0 1584 L (vI 0 :: st) T σ K := R_iconst (n := 0) (by decide +kernel) (by decide)
theorem s0_1584 : Rn 0 1584 L [vI a] T σ K ↔ (a = 0 ∨ a = 1) ∧ K (some (vI a)) T σ := R_retZ (by decide +kernel) (by decide +kernel)
theorem s0_1585 : Rn 0 1585 [l0, some (vR o), l2, l3] st T σ K ↔ Rn 0 1586 [l0, some (vR o), l2, l3] (vR o :: st) T σ K := R_aload_n (n := 1) (by decide +kernel) rfl
theorem s0_1586 : Rn 0 1586 L (vR o :: st) T σ K ↔ (sx_kd T o = 8 ∧ st.length ≤ 4) ∧ Rn 155 0 [some (vR o)] [] T σ (fun r T' σ' => Rn 0 1589 L (sx_push r st) T' σ' K) := R_V (cm := 155) (n := 0) (idx := 194) (ci := 8) (mx := 1) (vs := []) (by decide +kernel) (by decide +kernel) rfl (by decide +kernel) rfl (by decide +kernel) (by decide +kernel)
theorem s0_1589 : Rn 0 1589 [l0, l1, some (vR o), l3] st T σ K ↔ Rn 0 1590 [l0, l1, some (vR o), l3] (vR o :: st) T σ K := R_aload_n (n := 2) (by decide +kernel) rfl
theorem s0_1590 : Rn 0 1590 L (vR o :: st) T σ K ↔ (sx_kd T o = 9 ∧ st.length ≤ 4) ∧ Rn 280 0 [some (vR o), none, none] [] T σ (fun r T' σ' => Rn 0 1593 L (sx_push r st) T' σ' K) := R_V (cm := 280) (n := 0) (idx := 197) (ci := 9) (mx := 3) (vs := []) (by decide +kernel) (by decide +kernel) rfl (by decide +kernel) rfl (by decide +kernel) (by decide +kernel)
theorem s0_1593 : Rn 0 1593 L (vI b :: vI a :: st) T σ K ↔ (a = b → Rn 0 1657 L st T σ K) ∧ (a ≠ b → Rn 0 1596 L st T σ K) := R_icmp_eq (off := 64) (by decide +kernel) (by decide)
theorem s0_1596 : Rn 0 1596 L st T σ K ↔ Rn 0 1597 L (vI 0 :: st) T σ K := R_iconst (n := 0) (by decide +kernel) (by decide)
theorem s0_1597 : Rn 0 1597 L [vI a] T σ K ↔ (a = 0 ∨ a = 1) ∧ K (some (vI a)) T σ := R_retZ (by decide +kernel) (by decide +kernel)
theorem s0_1598 : Rn 0 1598 [l0, some (vR o), l2, l3] st T σ K ↔ Rn 0 1599 [l0, some (vR o), l2, l3] (vR o :: st) T σ K := R_aload_n (n := 1) (by decide +kernel) rfl
theorem s0_1599 : Rn 0 1599 [some (vR o), l1, l2, l3] st T σ K ↔ Rn 0 1600 [some (vR o), l1, l2, l3] (vR o :: st) T σ K := R_aload_n (n := 0) (by decide +kernel) rfl
theorem s0_1600 : Rn 0 1600 [l0, l1, l2, some (vI a)] st T σ K ↔ Rn 0 1601 [l0, l1, l2, some (vI a)] (vI a :: st) T σ K := R_iload_n (n := 3) (by decide +kernel) rfl
theorem s0_1601 : Rn 0 1601 L st T σ K ↔ Rn 0 1602 L (vI 1 :: st) T σ K := R_iconst (n := 1) (by decide +kernel) (by decide)
theorem s0_1602 : Rn 0 1602 L (vI b :: vI a :: st) T σ K ↔ inI (a + b) ∧ Rn 0 1603 L (vI (a + b) :: st) T σ K := R_iadd (by decide +kernel)
theorem s0_1603 : Rn 0 1603 L (vI a :: vR o :: st) T σ K ↔ ((sx_kd T o = 20 ∨ (sx_kd T o = 23 ∧ o = 0)) ∧ 0 ≤ a ∧ a < sx_ln T o) ∧ Rn 0 1604 L (vI (σ o a) :: st) T σ K := R_iald0 (by decide +kernel)
theorem s0_1604 : Rn 0 1604 L (vI a :: vR o :: st) T σ K ↔ (sx_kd T o = 8 ∧ st.length ≤ 4) ∧ Rn 159 0 [some (vR o), some (vI a)] [] T σ (fun r T' σ' => Rn 0 1607 L (sx_push r st) T' σ' K) := R_V (cm := 159) (n := 1) (idx := 198) (ci := 8) (mx := 2) (vs := [vI a]) (by decide +kernel) (by decide +kernel) rfl (by decide +kernel) rfl (by decide +kernel) (by decide +kernel)
theorem s0_1607 : Rn 0 1607 [l0, l1, some (vR o), l3] st T σ K ↔ Rn 0 1608 [l0, l1, some (vR o), l3] (vR o :: st) T σ K := R_aload_n (n := 2) (by decide +kernel) rfl
theorem s0_1608 : Rn 0 1608 [some (vR o), l1, l2, l3] st T σ K ↔ Rn 0 1609 [some (vR o), l1, l2, l3] (vR o :: st) T σ K := R_aload_n (n := 0) (by decide +kernel) rfl
theorem s0_1609 : Rn 0 1609 [l0, l1, l2, some (vI a)] st T σ K ↔ Rn 0 1610 [l0, l1, l2, some (vI a)] (vI a :: st) T σ K := R_iload_n (n := 3) (by decide +kernel) rfl
theorem s0_1610 : Rn 0 1610 L st T σ K ↔ Rn 0 1611 L (vI 1 :: st) T σ K := R_iconst (n := 1) (by decide +kernel) (by decide)
theorem s0_1611 : Rn 0 1611 L (vI b :: vI a :: st) T σ K ↔ inI (a + b) ∧ Rn 0 1612 L (vI (a + b) :: st) T σ K := R_iadd (by decide +kernel)
theorem s0_1612 : Rn 0 1612 L (vI a :: vR o :: st) T σ K ↔ ((sx_kd T o = 20 ∨ (sx_kd T o = 23 ∧ o = 0)) ∧ 0 ≤ a ∧ a < sx_ln T o) ∧ Rn 0 1613 L (vI (σ o a) :: st) T σ K := R_iald0 (by decide +kernel)
theorem s0_1613 : Rn 0 1613 L (vI a :: vR o :: st) T σ K ↔ (sx_kd T o = 9 ∧ st.length ≤ 4) ∧ Rn 282 0 [some (vR o), some (vI a)] [] T σ (fun r T' σ' => Rn 0 1616 L (sx_push r st) T' σ' K) := R_V (cm := 282) (n := 1) (idx := 201) (ci := 9) (mx := 2) (vs := [vI a]) (by decide +kernel) (by decide +kernel) rfl (by decide +kernel) rfl (by decide +kernel) (by decide +kernel)
theorem s0_1616 : Rn 0 1616 L (vI b :: vI a :: st) T σ K ↔ (a = b → Rn 0 1657 L st T σ K) ∧ (a ≠ b → Rn 0 1619 L st T σ K) := R_icmp_eq (off := 41) (by decide +kernel) (by decide)
theorem s0_1619 : Rn 0 1619 L st T σ K ↔ Rn 0 1620 L (vI 0 :: st) T σ K := R_iconst (n := 0) (by decide +kernel) (by decide)
theorem s0_1620 : Rn 0 1620 L [vI a] T σ K ↔ (a = 0 ∨ a = 1) ∧ K (some (vI a)) T σ := R_retZ (by decide +kernel) (by decide +kernel)
theorem s0_1621 : Rn 0 1621 [l0, some (vR o), l2, l3] st T σ K ↔ Rn 0 1622 [l0, some (vR o), l2, l3] (vR o :: st) T σ K := R_aload_n (n := 1) (by decide +kernel) rfl
theorem s0_1622 : Rn 0 1622 L (vR o :: st) T σ K ↔ (sx_kd T o = 8 ∧ st.length ≤ 4) ∧ Rn 160 0 [some (vR o), none] [] T σ (fun r T' σ' => Rn 0 1625 L (sx_push r st) T' σ' K) := R_V (cm := 160) (n := 0) (idx := 202) (ci := 8) (mx := 2) (vs := []) (by decide +kernel) (by decide +kernel) rfl (by decide +kernel) rfl (by decide +kernel) (by decide +kernel)
theorem s0_1625 : Rn 0 1625 [l0, l1, some (vR o), l3] st T σ K ↔ Rn 0 1626 [l0, l1, some (vR o), l3] (vR o :: st) T σ K := R_aload_n (n := 2) (by decide +kernel) rfl
theorem s0_1626 : Rn 0 1626 L (vR o :: st) T σ K ↔ (sx_kd T o = 9 ∧ st.length ≤ 4) ∧ Rn 283 0 [some (vR o), none, none, none] [] T σ (fun r T' σ' => Rn 0 1629 L (sx_push r st) T' σ' K) := R_V (cm := 283) (n := 0) (idx := 205) (ci := 9) (mx := 4) (vs := []) (by decide +kernel) (by decide +kernel) rfl (by decide +kernel) rfl (by decide +kernel) (by decide +kernel)
theorem s0_1629 : Rn 0 1629 L (vI b :: vI a :: st) T σ K ↔ (a = b → Rn 0 1657 L st T σ K) ∧ (a ≠ b → Rn 0 1632 L st T σ K) := R_icmp_eq (off := 28) (by decide +kernel) (by decide)
theorem s0_1632 : Rn 0 1632 L st T σ K ↔ Rn 0 1633 L (vI 0 :: st) T σ K := R_iconst (n := 0) (by decide +kernel) (by decide)
theorem s0_1633 : Rn 0 1633 L [vI a] T σ K ↔ (a = 0 ∨ a = 1) ∧ K (some (vI a)) T σ := R_retZ (by decide +kernel) (by decide +kernel)
theorem s0_1634 : Rn 0 1634 [l0, some (vR o), l2, l3] st T σ K ↔ Rn 0 1635 [l0, some (vR o), l2, l3] (vR o :: st) T σ K := R_aload_n (n := 1) (by decide +kernel) rfl
theorem s0_1635 : Rn 0 1635 [some (vR o), l1, l2, l3] st T σ K ↔ Rn 0 1636 [some (vR o), l1, l2, l3] (vR o :: st) T σ K := R_aload_n (n := 0) (by decide +kernel) rfl
theorem s0_1636 : Rn 0 1636 [l0, l1, l2, some (vI a)] st T σ K ↔ Rn 0 1637 [l0, l1, l2, some (vI a)] (vI a :: st) T σ K := R_iload_n (n := 3) (by decide +kernel) rfl
theorem s0_1637 : Rn 0 1637 L st T σ K ↔ Rn 0 1638 L (vI 1 :: st) T σ K := R_iconst (n := 1) (by decide +kernel) (by decide)
theorem s0_1638 : Rn 0 1638 L (vI b :: vI a :: st) T σ K ↔ inI (a + b) ∧ Rn 0 1639 L (vI (a + b) :: st) T σ K := R_iadd (by decide +kernel)
theorem s0_1639 : Rn 0 1639 L (vI a :: vR o :: st) T σ K ↔ ((sx_kd T o = 20 ∨ (sx_kd T o = 23 ∧ o = 0)) ∧ 0 ≤ a ∧ a < sx_ln T o) ∧ Rn 0 1640 L (vI (σ o a) :: st) T σ K := R_iald0 (by decide +kernel)
theorem s0_1640 : Rn 0 1640 L (vI a :: vR o :: st) T σ K ↔ (sx_kd T o = 8 ∧ st.length ≤ 4) ∧ Rn 166 0 [some (vR o), some (vI a)] [] T σ (fun r T' σ' => Rn 0 1643 L (sx_push r st) T' σ' K) := R_V (cm := 166) (n := 1) (idx := 206) (ci := 8) (mx := 2) (vs := [vI a]) (by decide +kernel) (by decide +kernel) rfl (by decide +kernel) rfl (by decide +kernel) (by decide +kernel)
theorem s0_1643 : Rn 0 1643 [l0, l1, some (vR o), l3] st T σ K ↔ Rn 0 1644 [l0, l1, some (vR o), l3] (vR o :: st) T σ K := R_aload_n (n := 2) (by decide +kernel) rfl
theorem s0_1644 : Rn 0 1644 [some (vR o), l1, l2, l3] st T σ K ↔ Rn 0 1645 [some (vR o), l1, l2, l3] (vR o :: st) T σ K := R_aload_n (n := 0) (by decide +kernel) rfl
theorem s0_1645 : Rn 0 1645 [l0, l1, l2, some (vI a)] st T σ K ↔ Rn 0 1646 [l0, l1, l2, some (vI a)] (vI a :: st) T σ K := R_iload_n (n := 3) (by decide +kernel) rfl
theorem s0_1646 : Rn 0 1646 L st T σ K ↔ Rn 0 1647 L (vI 1 :: st) T σ K := R_iconst (n := 1) (by decide +kernel) (by decide)
theorem s0_1647 : Rn 0 1647 L (vI b :: vI a :: st) T σ K ↔ inI (a + b) ∧ Rn 0 1648 L (vI (a + b) :: st) T σ K := R_iadd (by decide +kernel)
theorem s0_1648 : Rn 0 1648 L (vI a :: vR o :: st) T σ K ↔ ((sx_kd T o = 20 ∨ (sx_kd T o = 23 ∧ o = 0)) ∧ 0 ≤ a ∧ a < sx_ln T o) ∧ Rn 0 1649 L (vI (σ o a) :: st) T σ K := R_iald0 (by decide +kernel)
theorem s0_1649 : Rn 0 1649 L (vI a :: vR o :: st) T σ K ↔ (sx_kd T o = 9 ∧ st.length ≤ 4) ∧ Rn 286 0 [some (vR o), some (vI a)] [] T σ (fun r T' σ' => Rn 0 1652 L (sx_push r st) T' σ' K) := R_V (cm := 286) (n := 1) (idx := 209) (ci := 9) (mx := 2) (vs := [vI a]) (by decide +kernel) (by decide +kernel) rfl (by decide +kernel) rfl (by decide +kernel) (by decide +kernel)
theorem s0_1652 : Rn 0 1652 L (vI b :: vI a :: st) T σ K ↔ (a = b → Rn 0 1657 L st T σ K) ∧ (a ≠ b → Rn 0 1655 L st T σ K) := R_icmp_eq (off := 5) (by decide +kernel) (by decide)
theorem s0_1655 : Rn 0 1655 L st T σ K ↔ Rn 0 1656 L (vI 0 :: st) T σ K := R_iconst (n := 0) (by decide +kernel) (by decide)
theorem s0_1656 : Rn 0 1656 L [vI a] T σ K ↔ (a = 0 ∨ a = 1) ∧ K (some (vI a)) T σ := R_retZ (by decide +kernel) (by decide +kernel)
theorem s0_1657 : Rn 0 1657 [l0, l1, l2, some (vI a)] st T σ K ↔ inI (a + 6) ∧ Rn 0 1660 [l0, l1, l2, some (vI (a + 6))] st T σ K := R_iinc (n := 3) (d := 6) (by decide +kernel) rfl
theorem s0_1660 : Rn 0 1660 L st T σ K ↔ Rn 0 18 L st T σ K := R_goto (off := -1642) (by decide +kernel) (by decide)
theorem s0_1663 : Rn 0 1663 L st T σ K ↔ Rn 0 1664 L (vI 1 :: st) T σ K := R_iconst (n := 1) (by decide +kernel) (by decide)
theorem s0_1664 : Rn 0 1664 L [vI a] T σ K ↔ (a = 0 ∨ a = 1) ∧ K (some (vI a)) T σ := R_retZ (by decide +kernel) (by decide +kernel)
end ST9
