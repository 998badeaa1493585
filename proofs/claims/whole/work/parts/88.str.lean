/-! text constants: their use, length, signs -/
section SO6
variable {g : sxG} {ad0 : Nat → Nat} {mi : Nat} {p : Program} {l : Launch} {e : Env} {R : Room} {s : State} {m : MethodId} {args : Array Value} {below : List Frame} {meth : Method} {c : Code} {Q : State → Prop} {e1 e2 pc : Nat} {L : sxL} {st : List sxV} {T : sxT} {σ : sxS}
theorem so_ldcs {idx j b : Nat} {ps : List Nat} (cx : sx_Cx g ad0 mi p R s m args meth c) (hd : decode (sx_cod mi) pc = .ok (.ldc idx, 2)) (hlk : sx_lk (sx_oi mi) idx = some (10, j, b, ps)) (hj : j < 7) (k : sx_Go g ad0 mi p l e R s m args below meth c Q e1 e2 (pc + 2) L (vR (1000001 + j) :: st) T σ) : sx_Go g ad0 mi p l e R s m args below meth c Q e1 e2 pc L st T σ := by
  sorry
theorem so_strlen {idx a b : Nat} {ps : List Nat} (cx : sx_Cx g ad0 mi p R s m args meth c) (hd : decode (sx_cod mi) pc = .ok (.invokevirtual idx, 3)) (hlk : sx_lk (sx_oi mi) idx = some (12, a, b, ps)) {x : Nat} (h0 : 1000001 ≤ x) (h7 : x < 1000008) (hs : st.length ≤ 4) (h1 : 5 ≤ sx_fr mi) (h2 : 120 ≤ sx_lo mi) (hc1 : T.length ≤ e1 + R.cells) (hc2 : sx_sl T ≤ e2 + R.slots) (k : sx_Go g ad0 mi p l e R s m args below meth c Q e1 e2 (pc + 3) L (vI ((sx_str (x - 1000001)).length : Int) :: st) T σ) : sx_Go g ad0 mi p l e R s m args below meth c Q e1 e2 pc L (vR x :: st) T σ := by
  sorry
theorem so_strchr {idx a b : Nat} {ps : List Nat} (cx : sx_Cx g ad0 mi p R s m args meth c) (hd : decode (sx_cod mi) pc = .ok (.invokevirtual idx, 3)) (hlk : sx_lk (sx_oi mi) idx = some (13, a, b, ps)) {x : Nat} {i : Int} (h0 : 1000001 ≤ x) (h7 : x < 1000008) (hi0 : 0 ≤ i) (hi : i < ((sx_str (x - 1000001)).length : Int)) (hs : st.length ≤ 4) (h1 : 5 ≤ sx_fr mi) (h2 : 120 ≤ sx_lo mi) (hc1 : T.length ≤ e1 + R.cells) (hc2 : sx_sl T ≤ e2 + R.slots) (k : sx_Go g ad0 mi p l e R s m args below meth c Q e1 e2 (pc + 3) L (vI ((sx_str (x - 1000001)).getD i.toNat 0) :: st) T σ) : sx_Go g ad0 mi p l e R s m args below meth c Q e1 e2 pc L (vI i :: vR x :: st) T σ := by
  sorry
end SO6
