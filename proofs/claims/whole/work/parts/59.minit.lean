section NewRows
variable {p : Program} {l : Launch} {e : Env} {R : Room} {s : State} {m : MethodId} {args : Array Value} {below : List Frame} {meth : Method} {c : Code} {E : Ev} {nL : Nat} {A : Nat → Prop} {Q : State → Prop} {X : va_W} {S : HS} {cells slots pc : Nat} {lv : List (Nat × Value)} {st : List Value} {cc : ByteArray} {y : MethodName} {ret : Option FieldType} {c0 : Cond}
theorem x_newO (C : Cx p s m args meth c cc nL y ret c0 E A) {ci N index : Nat} {Cn : String} {T : u_T} {fs : List Value} {ty : Nat → FieldType} (hc : vwCl[ci]? = some (Cn, T, N)) (hin : ∀ w ∈ u_ws Cn T N, w ∈ wT) (hty : ∀ k, k < N → parseFieldDescriptor (T k).2.2.1 = some (ty k)) (hcl : Cond.classLink y.cls index Cn ∈ wT) (hinst : Cond.instantiable Cn N ∈ wT) (hini : Cond.initialized Cn ∈ wT) (hfs : ∀ j, j < N → defaultValue (ty j) = vp_V fs j) (hcells : cells + 1 ≤ R.cells) (hslots : slots + N ≤ R.slots) (hd : decode cc pc = .ok (.new index, 3)) (kk : ∀ q : Nat, GW p l e R s m args below meth c E nL A Q (X ++ [(q, .inr (ci, fs))]) S (cells + 1) (slots + N) (pc + 3) lv (.ref q :: st)) : GW p l e R s m args below meth c E nL A Q X S cells slots pc lv st := by
  intro H locs ls hP hD hS hl
  refine va_new C.x C.b C.ts (fun w h => List.mem_cons_of_mem _ (hin w h)) ty hty C.own (C.w hcl) (C.w hinst) (C.w hini) C.k hP hD hS C.a hc hfs hcells hslots hd (fun q H1 hP1 hD1 hS1 => ?_)
  exact kk q H1 locs ls hP1.swap hD1.swap hS1 hl
theorem x_newi (C : Cx p s m args meth c cc nL y ret c0 E A) {n : Int32} (N2 : Nat) (hn : ¬ n < 0) (hN : n.toNatClampNeg = N2) (hb : N2 ≤ 2000) (hcells : cells + 1 ≤ R.cells) (hslots : slots + N2 ≤ R.slots) (hw : Cond.arrayClass .int ∈ wT) (hd : decode cc pc = .ok (.newarray .int, 2)) (kk : ∀ q : Nat, GW p l e R s m args below meth c E nL A Q (X ++ [(q, .inl (E.cA 0, N2, .inl (fun _ => 0)))]) S (cells + 1) (slots + N2) (pc + 2) lv (.ref q :: st)) : GW p l e R s m args below meth c E nL A Q X S cells slots pc lv (.int n :: st) := by
  intro H locs ls hP hD hS hl
  refine va_newa (atype := .int) (ty := .int) (a0 := (N2, .inl (fun _ => 0))) C.x C.b (C.w hw) rfl C.k hP hD hS C.a (fun cA => vp_cell_i ..) hn hN (by show N2 * 4 ≤ _; omega) hcells hslots hd (fun q cA H1 hK1 hP1 hD1 hS1 => ?_)
  have h1 : va_RA s cA .int := (hK1.2 4 _ rfl).2
  have h2 : va_RA s (E.cA 0) .int := (C.k.2 0 _ rfl).2
  have hc : cA = E.cA 0 := Option.some.inj (h1.symm.trans h2)
  subst hc
  exact kk q H1 locs ls hP1.swap hD1.swap hS1 hl
theorem x_newz (C : Cx p s m args meth c cc nL y ret c0 E A) {n : Int32} (N2 : Nat) (hn : ¬ n < 0) (hN : n.toNatClampNeg = N2) (hb : N2 ≤ 2000) (hcells : cells + 1 ≤ R.cells) (hslots : slots + N2 ≤ R.slots) (hw : Cond.arrayClass .boolean ∈ wT) (hd : decode cc pc = .ok (.newarray .boolean, 2)) (kk : ∀ q : Nat, GW p l e R s m args below meth c E nL A Q (X ++ [(q, .inl (E.cA 1, N2, .inl (fun _ => 0)))]) S (cells + 1) (slots + N2) (pc + 2) lv (.ref q :: st)) : GW p l e R s m args below meth c E nL A Q X S cells slots pc lv (.int n :: st) := by
  intro H locs ls hP hD hS hl
  refine va_newa (atype := .boolean) (ty := .boolean) (a0 := (N2, .inl (fun _ => 0))) C.x C.b (C.w hw) rfl C.k hP hD hS C.a (fun cA => vp_cell_i ..) hn hN (by show N2 * 1 ≤ _; omega) hcells hslots hd (fun q cA H1 hK1 hP1 hD1 hS1 => ?_)
  have h1 : va_RA s cA .boolean := (hK1.2 4 _ rfl).2
  have h2 : va_RA s (E.cA 1) .boolean := (C.k.2 1 _ rfl).2
  have hc : cA = E.cA 1 := Option.some.inj (h1.symm.trans h2)
  subst hc
  exact kk q H1 locs ls hP1.swap hD1.swap hS1 hl
theorem x_newl (C : Cx p s m args meth c cc nL y ret c0 E A) {n : Int32} (N2 : Nat) (hn : ¬ n < 0) (hN : n.toNatClampNeg = N2) (hb : N2 ≤ 2000) (hcells : cells + 1 ≤ R.cells) (hslots : slots + N2 ≤ R.slots) (hw : Cond.arrayClass .long ∈ wT) (hd : decode cc pc = .ok (.newarray .long, 2)) (kk : ∀ q : Nat, GW p l e R s m args below meth c E nL A Q (X ++ [(q, .inl (E.cA 3, N2, .inr (.inl (fun _ => 0))))]) S (cells + 1) (slots + N2) (pc + 2) lv (.ref q :: st)) : GW p l e R s m args below meth c E nL A Q X S cells slots pc lv (.int n :: st) := by
  intro H locs ls hP hD hS hl
  refine va_newa (atype := .long) (ty := .long) (a0 := (N2, .inr (.inl (fun _ => 0)))) C.x C.b (C.w hw) rfl C.k hP hD hS C.a (fun cA => vp_cell_l ..) hn hN (by show N2 * 8 ≤ _; omega) hcells hslots hd (fun q cA H1 hK1 hP1 hD1 hS1 => ?_)
  have h1 : va_RA s cA .long := (hK1.2 4 _ rfl).2
  have h2 : va_RA s (E.cA 3) .long := (C.k.2 3 _ rfl).2
  have hc : cA = E.cA 3 := Option.some.inj (h1.symm.trans h2)
  subst hc
  exact kk q H1 locs ls hP1.swap hD1.swap hS1 hl
variable {o : Nat} {fs : List Value} {cs : va_W}
theorem i_put (C : Cx p s m args meth c cc nL y ret c0 E A) {q index : Nat} (k : Nat) (ty : FieldType) (hl9 : fs.length = 27) (hk : k < 27) (hlink : Cond.fieldLink y.cls index (TX5 k).1 (TX5 k).2.1 (TX5 k).2.2.1 ∈ wT) (hfin : (TX5 k).2.2.2 = true) (hi : y.name = "<init>") (hy : (TX5 k).1 = y.cls) (hp : parseFieldDescriptor (TX5 k).2.2.1 = some ty) (hn : narrow ty (.ref q) = .ref q) (hft : fits ty (.ref q) = true) (hd : decode cc pc = .ok (.putfield index, 3)) (kk : GW p l e R s m args below meth c E nL A Q ((o, .inr (8, fs.set k (.ref q))) :: cs) S cells slots (pc + 3) lv st) : GW p l e R s m args below meth c E nL A Q ((o, .inr (8, fs)) :: cs) S cells slots pc lv (.ref q :: .ref o :: st) := x_putF (ty := ty) C 0 k rfl rfl hk in_X5 tyX5_ok nmX5 hlink rfl hfin hi hy hp hn hft (by rw [hl9]; exact hk) rfl hd kk
theorem i_putI (C : Cx p s m args meth c cc nL y ret c0 E A) {v : Int32} {index : Nat} (k : Nat) (hl9 : fs.length = 27) (hk : k < 27) (hlink : Cond.fieldLink y.cls index (TX5 k).1 (TX5 k).2.1 (TX5 k).2.2.1 ∈ wT) (hfin : (TX5 k).2.2.2 = false) (hp : parseFieldDescriptor (TX5 k).2.2.1 = some .int) (hd : decode cc pc = .ok (.putfield index, 3)) (kk : GW p l e R s m args below meth c E nL A Q ((o, .inr (8, fs.set k (.int v))) :: cs) S cells slots (pc + 3) lv st) : GW p l e R s m args below meth c E nL A Q ((o, .inr (8, fs)) :: cs) S cells slots pc lv (.int v :: .ref o :: st) := x_put (ty := .int) C 0 k rfl rfl hk in_X5 tyX5_ok nmX5 hlink rfl hfin hp rfl rfl (by rw [hl9]; exact hk) rfl hd kk
end NewRows
def zfs : List Value := [.int 0, .int 0, .null, .null, .null, .null, .null, .int 0, .int 0, .int 0, .null, .null, .null, .int 0, .int 0, .null, .null, .int 0, .int 0, .null, .null, .null, .null, .null, .null, .null, .null]
theorem df_X5 : ∀ j, j < 27 → defaultValue (tyX5 j) = vp_V zfs j := by decide +kernel
/-- the reference as it is made -/
def mz : MM := fun k _ => if k = 13 then 4 else 0
theorem len_set {α : Type} {l : List α} {k n : Nat} {v : α} (h : l.length = n) : (l.set k v).length = n := by rw [List.length_set]; exact h
theorem mi_fs (q1 q2 q3 q4 q5 q6 q7 q8 q9 q10 q11 q12 q13 q14 q15 q16 q17 q18 : Nat) : mfs (fun k => ([0, 0, q1, q2, q3, q4, q5, 0, 0, 0, q6, q7, q8, 0, 0, q9, q10, 0, 0, q11, q12, q13, q14, q15, q16, q17, q18] : List Nat).getD k 0) mz = (((((((((((((((((((zfs.set 2 (.ref q1)).set 3 (.ref q2)).set 4 (.ref q3)).set 5 (.ref q4)).set 6 (.ref q5)).set 10 (.ref q6)).set 11 (.ref q7)).set 12 (.ref q8)).set 13 (.int 4)).set 15 (.ref q9)).set 16 (.ref q10)).set 19 (.ref q11)).set 20 (.ref q12)).set 21 (.ref q13)).set 22 (.ref q14)).set 23 (.ref q15)).set 24 (.ref q16)).set 25 (.ref q17)).set 26 (.ref q18)) := by simp only [mfs, mz, zfs, List.set, List.getD_cons_zero, List.getD_cons_succ, List.getD_eq_getElem?_getD, List.getElem?_cons_succ, List.getElem?_cons_zero, Option.getD_some, reduceIte, Nat.reduceEqDiff]
theorem mz_r {k : Nat} (h : k ≠ 13) : mz k = fun _ => 0 := by funext j; exact if_neg h
theorem mi_cs (E : Ev) (o : Nat) (q1 q2 q3 q4 q5 q6 q7 q8 q9 q10 q11 q12 q13 q14 q15 q16 q17 q18 : Nat) : mw E o (fun k => ([0, 0, q1, q2, q3, q4, q5, 0, 0, 0, q6, q7, q8, 0, 0, q9, q10, 0, 0, q11, q12, q13, q14, q15, q16, q17, q18] : List Nat).getD k 0) mz = (o, .inr (8, mfs (fun k => ([0, 0, q1, q2, q3, q4, q5, 0, 0, 0, q6, q7, q8, 0, 0, q9, q10, 0, 0, q11, q12, q13, q14, q15, q16, q17, q18] : List Nat).getD k 0) mz)) :: (((((((((((((((((([] ++ [(q1, .inl (E.cA 0, 40, .inl (fun _ => 0)))]) ++ [(q2, .inl (E.cA 0, 40, .inl (fun _ => 0)))]) ++ [(q3, .inl (E.cA 0, 40, .inl (fun _ => 0)))]) ++ [(q4, .inl (E.cA 0, 1600, .inl (fun _ => 0)))]) ++ [(q5, .inl (E.cA 1, 1600, .inl (fun _ => 0)))]) ++ [(q6, .inl (E.cA 0, 80, .inl (fun _ => 0)))]) ++ [(q7, .inl (E.cA 0, 80, .inl (fun _ => 0)))]) ++ [(q8, .inl (E.cA 0, 80, .inl (fun _ => 0)))]) ++ [(q9, .inl (E.cA 0, 20, .inl (fun _ => 0)))]) ++ [(q10, .inl (E.cA 0, 20, .inl (fun _ => 0)))]) ++ [(q11, .inl (E.cA 0, 50, .inl (fun _ => 0)))]) ++ [(q12, .inl (E.cA 0, 40, .inl (fun _ => 0)))]) ++ [(q13, .inl (E.cA 0, 40, .inl (fun _ => 0)))]) ++ [(q14, .inl (E.cA 0, 40, .inl (fun _ => 0)))]) ++ [(q15, .inl (E.cA 0, 40, .inl (fun _ => 0)))]) ++ [(q16, .inl (E.cA 1, 40, .inl (fun _ => 0)))]) ++ [(q17, .inl (E.cA 0, 40, .inl (fun _ => 0)))]) ++ [(q18, .inl (E.cA 0, 40, .inl (fun _ => 0)))]) := by
  simp only [mw, mz_r (show 2 ≠ 13 by decide), mz_r (show 3 ≠ 13 by decide), mz_r (show 4 ≠ 13 by decide), mz_r (show 5 ≠ 13 by decide), mz_r (show 6 ≠ 13 by decide), mz_r (show 10 ≠ 13 by decide), mz_r (show 11 ≠ 13 by decide), mz_r (show 12 ≠ 13 by decide), mz_r (show 15 ≠ 13 by decide), mz_r (show 16 ≠ 13 by decide), mz_r (show 19 ≠ 13 by decide), mz_r (show 20 ≠ 13 by decide), mz_r (show 21 ≠ 13 by decide), mz_r (show 22 ≠ 13 by decide), mz_r (show 23 ≠ 13 by decide), mz_r (show 24 ≠ 13 by decide), mz_r (show 25 ≠ 13 by decide), mz_r (show 26 ≠ 13 by decide), List.nil_append, List.cons_append]
  rfl
set_option maxRecDepth 100000 in
theorem c_minit (l : Launch) (E : Ev) (S : HS) (o : Nat) : Ctr l yX5_init (Cond.code yX5_init cX5_init 1 none) 2 18 3930 E [.ref o] [(o, .inr (8, zfs))] S (fun v X2 S2 => none = v ∧ S = S2 ∧ ∃ a : Nat → Nat, mw E o a mz = X2) := by
  refine Ctr.ofG (by decide) [(0, .ref o)] rfl (Nat.le_of_ble_eq_true rfl) ?_
  intro p e s m args below meth c A Q C hQ
  have hl0 : zfs.length = 27 := rfl
  refine g_aload_n C 0 dX5_init_0 rfl rfl ?_
  refine g_objInit C wi_X5_1 ⟨by decide, Nat.le_of_ble_eq_true rfl⟩ dX5_init_1 w_oi w_oc ?_
  refine g_aload_n C 0 dX5_init_4 rfl rfl ?_
  refine g_bipush C 40 dX5_init_5 (by decide) ?_
  refine x_newi C 40 (by decide) (by decide) (by decide) (by decide) (by decide) wa_int dX5_init_7 (fun q1 => ?_)
  rw [List.cons_append]
  generalize hc1 : ([] ++ [(q1, .inl (E.cA 0, 40, .inl (fun _ => 0)))] : va_W) = cs1
  refine i_put C 2 (.array .int) hl0 (by decide) lk_X5_7 rfl rfl rfl (by decide +kernel) rfl rfl dX5_init_9 ?_
  have hl1 := len_set (k := 2) (v := Value.ref q1) hl0
  generalize hf1 : zfs.set 2 (.ref q1) = fs1 at hl1
  refine g_aload_n C 0 dX5_init_12 rfl rfl ?_
  refine g_bipush C 40 dX5_init_13 (by decide) ?_
  refine x_newi C 40 (by decide) (by decide) (by decide) (by decide) (by decide) wa_int dX5_init_15 (fun q2 => ?_)
  rw [List.cons_append]
  generalize hc2 : (cs1 ++ [(q2, .inl (E.cA 0, 40, .inl (fun _ => 0)))] : va_W) = cs2
  refine i_put C 3 (.array .int) hl1 (by decide) lk_X5_13 rfl rfl rfl (by decide +kernel) rfl rfl dX5_init_17 ?_
  have hl2 := len_set (k := 3) (v := Value.ref q2) hl1
  generalize hf2 : fs1.set 3 (.ref q2) = fs2 at hl2
  refine g_aload_n C 0 dX5_init_20 rfl rfl ?_
  refine g_bipush C 40 dX5_init_21 (by decide) ?_
  refine x_newi C 40 (by decide) (by decide) (by decide) (by decide) (by decide) wa_int dX5_init_23 (fun q3 => ?_)
  rw [List.cons_append]
  generalize hc3 : (cs2 ++ [(q3, .inl (E.cA 0, 40, .inl (fun _ => 0)))] : va_W) = cs3
  refine i_put C 4 (.array .int) hl2 (by decide) lk_X5_16 rfl rfl rfl (by decide +kernel) rfl rfl dX5_init_25 ?_
  have hl3 := len_set (k := 4) (v := Value.ref q3) hl2
  generalize hf3 : fs2.set 4 (.ref q3) = fs3 at hl3
  refine g_aload_n C 0 dX5_init_28 rfl rfl ?_
  refine g_sipush C 1600 dX5_init_29 (by decide) ?_
  refine x_newi C 1600 (by decide) (by decide) (by decide) (by decide) (by decide) wa_int dX5_init_32 (fun q4 => ?_)
  rw [List.cons_append]
  generalize hc4 : (cs3 ++ [(q4, .inl (E.cA 0, 1600, .inl (fun _ => 0)))] : va_W) = cs4
  refine i_put C 5 (.array .int) hl3 (by decide) lk_X5_19 rfl rfl rfl (by decide +kernel) rfl rfl dX5_init_34 ?_
  have hl4 := len_set (k := 5) (v := Value.ref q4) hl3
  generalize hf4 : fs3.set 5 (.ref q4) = fs4 at hl4
  refine g_aload_n C 0 dX5_init_37 rfl rfl ?_
  refine g_sipush C 1600 dX5_init_38 (by decide) ?_
  refine x_newz C 1600 (by decide) (by decide) (by decide) (by decide) (by decide) wa_boolean dX5_init_41 (fun q5 => ?_)
  rw [List.cons_append]
  generalize hc5 : (cs4 ++ [(q5, .inl (E.cA 1, 1600, .inl (fun _ => 0)))] : va_W) = cs5
  refine i_put C 6 (.array .boolean) hl4 (by decide) lk_X5_22 rfl rfl rfl (by decide +kernel) rfl rfl dX5_init_43 ?_
  have hl5 := len_set (k := 6) (v := Value.ref q5) hl4
  generalize hf5 : fs4.set 6 (.ref q5) = fs5 at hl5
  refine g_aload_n C 0 dX5_init_46 rfl rfl ?_
  refine g_bipush C 80 dX5_init_47 (by decide) ?_
  refine x_newi C 80 (by decide) (by decide) (by decide) (by decide) (by decide) wa_int dX5_init_49 (fun q6 => ?_)
  rw [List.cons_append]
  generalize hc6 : (cs5 ++ [(q6, .inl (E.cA 0, 80, .inl (fun _ => 0)))] : va_W) = cs6
  refine i_put C 10 (.array .int) hl5 (by decide) lk_X5_26 rfl rfl rfl (by decide +kernel) rfl rfl dX5_init_51 ?_
  have hl6 := len_set (k := 10) (v := Value.ref q6) hl5
  generalize hf6 : fs5.set 10 (.ref q6) = fs6 at hl6
  refine g_aload_n C 0 dX5_init_54 rfl rfl ?_
  refine g_bipush C 80 dX5_init_55 (by decide) ?_
  refine x_newi C 80 (by decide) (by decide) (by decide) (by decide) (by decide) wa_int dX5_init_57 (fun q7 => ?_)
  rw [List.cons_append]
  generalize hc7 : (cs6 ++ [(q7, .inl (E.cA 0, 80, .inl (fun _ => 0)))] : va_W) = cs7
  refine i_put C 11 (.array .int) hl6 (by decide) lk_X5_29 rfl rfl rfl (by decide +kernel) rfl rfl dX5_init_59 ?_
  have hl7 := len_set (k := 11) (v := Value.ref q7) hl6
  generalize hf7 : fs6.set 11 (.ref q7) = fs7 at hl7
  refine g_aload_n C 0 dX5_init_62 rfl rfl ?_
  refine g_bipush C 80 dX5_init_63 (by decide) ?_
  refine x_newi C 80 (by decide) (by decide) (by decide) (by decide) (by decide) wa_int dX5_init_65 (fun q8 => ?_)
  rw [List.cons_append]
  generalize hc8 : (cs7 ++ [(q8, .inl (E.cA 0, 80, .inl (fun _ => 0)))] : va_W) = cs8
  refine i_put C 12 (.array .int) hl7 (by decide) lk_X5_32 rfl rfl rfl (by decide +kernel) rfl rfl dX5_init_67 ?_
  have hl8 := len_set (k := 12) (v := Value.ref q8) hl7
  generalize hf8 : fs7.set 12 (.ref q8) = fs8 at hl8
  refine g_aload_n C 0 dX5_init_70 rfl rfl ?_
  refine g_iconst C 4 dX5_init_71 (by decide) ?_
  refine i_putI C 13 hl8 (by decide) lk_X5_35 rfl (by decide +kernel) dX5_init_72 ?_
  have hl9 := len_set (k := 13) (v := Value.int 4) hl8
  generalize hf9 : fs8.set 13 (.int 4) = fs9 at hl9
  refine g_aload_n C 0 dX5_init_75 rfl rfl ?_
  refine g_bipush C 20 dX5_init_76 (by decide) ?_
  refine x_newi C 20 (by decide) (by decide) (by decide) (by decide) (by decide) wa_int dX5_init_78 (fun q9 => ?_)
  rw [List.cons_append]
  generalize hc9 : (cs8 ++ [(q9, .inl (E.cA 0, 20, .inl (fun _ => 0)))] : va_W) = cs9
  refine i_put C 15 (.array .int) hl9 (by decide) lk_X5_39 rfl rfl rfl (by decide +kernel) rfl rfl dX5_init_80 ?_
  have hl10 := len_set (k := 15) (v := Value.ref q9) hl9
  generalize hf10 : fs9.set 15 (.ref q9) = fs10 at hl10
  refine g_aload_n C 0 dX5_init_83 rfl rfl ?_
  refine g_bipush C 20 dX5_init_84 (by decide) ?_
  refine x_newi C 20 (by decide) (by decide) (by decide) (by decide) (by decide) wa_int dX5_init_86 (fun q10 => ?_)
  rw [List.cons_append]
  generalize hc10 : (cs9 ++ [(q10, .inl (E.cA 0, 20, .inl (fun _ => 0)))] : va_W) = cs10
  refine i_put C 16 (.array .int) hl10 (by decide) lk_X5_42 rfl rfl rfl (by decide +kernel) rfl rfl dX5_init_88 ?_
  have hl11 := len_set (k := 16) (v := Value.ref q10) hl10
  generalize hf11 : fs10.set 16 (.ref q10) = fs11 at hl11
  refine g_aload_n C 0 dX5_init_91 rfl rfl ?_
  refine g_bipush C 50 dX5_init_92 (by decide) ?_
  refine x_newi C 50 (by decide) (by decide) (by decide) (by decide) (by decide) wa_int dX5_init_94 (fun q11 => ?_)
  rw [List.cons_append]
  generalize hc11 : (cs10 ++ [(q11, .inl (E.cA 0, 50, .inl (fun _ => 0)))] : va_W) = cs11
  refine i_put C 19 (.array .int) hl11 (by decide) lk_X5_45 rfl rfl rfl (by decide +kernel) rfl rfl dX5_init_96 ?_
  have hl12 := len_set (k := 19) (v := Value.ref q11) hl11
  generalize hf12 : fs11.set 19 (.ref q11) = fs12 at hl12
  refine g_aload_n C 0 dX5_init_99 rfl rfl ?_
  refine g_bipush C 40 dX5_init_100 (by decide) ?_
  refine x_newi C 40 (by decide) (by decide) (by decide) (by decide) (by decide) wa_int dX5_init_102 (fun q12 => ?_)
  rw [List.cons_append]
  generalize hc12 : (cs11 ++ [(q12, .inl (E.cA 0, 40, .inl (fun _ => 0)))] : va_W) = cs12
  refine i_put C 20 (.array .int) hl12 (by decide) lk_X5_48 rfl rfl rfl (by decide +kernel) rfl rfl dX5_init_104 ?_
  have hl13 := len_set (k := 20) (v := Value.ref q12) hl12
  generalize hf13 : fs12.set 20 (.ref q12) = fs13 at hl13
  refine g_aload_n C 0 dX5_init_107 rfl rfl ?_
  refine g_bipush C 40 dX5_init_108 (by decide) ?_
  refine x_newi C 40 (by decide) (by decide) (by decide) (by decide) (by decide) wa_int dX5_init_110 (fun q13 => ?_)
  rw [List.cons_append]
  generalize hc13 : (cs12 ++ [(q13, .inl (E.cA 0, 40, .inl (fun _ => 0)))] : va_W) = cs13
  refine i_put C 21 (.array .int) hl13 (by decide) lk_X5_51 rfl rfl rfl (by decide +kernel) rfl rfl dX5_init_112 ?_
  have hl14 := len_set (k := 21) (v := Value.ref q13) hl13
  generalize hf14 : fs13.set 21 (.ref q13) = fs14 at hl14
  refine g_aload_n C 0 dX5_init_115 rfl rfl ?_
  refine g_bipush C 40 dX5_init_116 (by decide) ?_
  refine x_newi C 40 (by decide) (by decide) (by decide) (by decide) (by decide) wa_int dX5_init_118 (fun q14 => ?_)
  rw [List.cons_append]
  generalize hc14 : (cs13 ++ [(q14, .inl (E.cA 0, 40, .inl (fun _ => 0)))] : va_W) = cs14
  refine i_put C 22 (.array .int) hl14 (by decide) lk_X5_54 rfl rfl rfl (by decide +kernel) rfl rfl dX5_init_120 ?_
  have hl15 := len_set (k := 22) (v := Value.ref q14) hl14
  generalize hf15 : fs14.set 22 (.ref q14) = fs15 at hl15
  refine g_aload_n C 0 dX5_init_123 rfl rfl ?_
  refine g_bipush C 40 dX5_init_124 (by decide) ?_
  refine x_newi C 40 (by decide) (by decide) (by decide) (by decide) (by decide) wa_int dX5_init_126 (fun q15 => ?_)
  rw [List.cons_append]
  generalize hc15 : (cs14 ++ [(q15, .inl (E.cA 0, 40, .inl (fun _ => 0)))] : va_W) = cs15
  refine i_put C 23 (.array .int) hl15 (by decide) lk_X5_57 rfl rfl rfl (by decide +kernel) rfl rfl dX5_init_128 ?_
  have hl16 := len_set (k := 23) (v := Value.ref q15) hl15
  generalize hf16 : fs15.set 23 (.ref q15) = fs16 at hl16
  refine g_aload_n C 0 dX5_init_131 rfl rfl ?_
  refine g_bipush C 40 dX5_init_132 (by decide) ?_
  refine x_newz C 40 (by decide) (by decide) (by decide) (by decide) (by decide) wa_boolean dX5_init_134 (fun q16 => ?_)
  rw [List.cons_append]
  generalize hc16 : (cs15 ++ [(q16, .inl (E.cA 1, 40, .inl (fun _ => 0)))] : va_W) = cs16
  refine i_put C 24 (.array .boolean) hl16 (by decide) lk_X5_60 rfl rfl rfl (by decide +kernel) rfl rfl dX5_init_136 ?_
  have hl17 := len_set (k := 24) (v := Value.ref q16) hl16
  generalize hf17 : fs16.set 24 (.ref q16) = fs17 at hl17
  refine g_aload_n C 0 dX5_init_139 rfl rfl ?_
  refine g_bipush C 40 dX5_init_140 (by decide) ?_
  refine x_newi C 40 (by decide) (by decide) (by decide) (by decide) (by decide) wa_int dX5_init_142 (fun q17 => ?_)
  rw [List.cons_append]
  generalize hc17 : (cs16 ++ [(q17, .inl (E.cA 0, 40, .inl (fun _ => 0)))] : va_W) = cs17
  refine i_put C 25 (.array .int) hl17 (by decide) lk_X5_63 rfl rfl rfl (by decide +kernel) rfl rfl dX5_init_144 ?_
  have hl18 := len_set (k := 25) (v := Value.ref q17) hl17
  generalize hf18 : fs17.set 25 (.ref q17) = fs18 at hl18
  refine g_aload_n C 0 dX5_init_147 rfl rfl ?_
  refine g_bipush C 40 dX5_init_148 (by decide) ?_
  refine x_newi C 40 (by decide) (by decide) (by decide) (by decide) (by decide) wa_int dX5_init_150 (fun q18 => ?_)
  rw [List.cons_append]
  generalize hc18 : (cs17 ++ [(q18, .inl (E.cA 0, 40, .inl (fun _ => 0)))] : va_W) = cs18
  refine i_put C 26 (.array .int) hl18 (by decide) lk_X5_66 rfl rfl rfl (by decide +kernel) rfl rfl dX5_init_152 ?_
  have hl19 := len_set (k := 26) (v := Value.ref q18) hl18
  generalize hf19 : fs18.set 26 (.ref q18) = fs19 at hl19
  exact g_vret C hQ rfl dX5_init_155 (by decide) (by decide) ⟨rfl, rfl, (fun k => ([0, 0, q1, q2, q3, q4, q5, 0, 0, 0, q6, q7, q8, 0, 0, q9, q10, 0, 0, q11, q12, q13, q14, q15, q16, q17, q18] : List Nat).getD k 0), by rw [← hf19, ← hf18, ← hf17, ← hf16, ← hf15, ← hf14, ← hf13, ← hf12, ← hf11, ← hf10, ← hf9, ← hf8, ← hf7, ← hf6, ← hf5, ← hf4, ← hf3, ← hf2, ← hf1, ← hc18, ← hc17, ← hc16, ← hc15, ← hc14, ← hc13, ← hc12, ← hc11, ← hc10, ← hc9, ← hc8, ← hc7, ← hc6, ← hc5, ← hc4, ← hc3, ← hc2, ← hc1, mi_cs, mi_fs]⟩
