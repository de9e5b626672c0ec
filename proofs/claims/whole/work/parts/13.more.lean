theorem w_maxs : Cond.static Lib.Math.max.name ∈ wT := wt_2 (j := 56) (by decide +kernel) (by decide +kernel)
theorem w_maxc : Cond.code Lib.Math.max.name Lib.Math.max.code 2 (some .int) ∈ wT := wt_2 (j := 57) (by decide +kernel) (by decide +kernel)
theorem w_mins : Cond.static Lib.Math.min.name ∈ wT := wt_2 (j := 88) (by decide +kernel) (by decide +kernel)
theorem w_minc : Cond.code Lib.Math.min.name Lib.Math.min.code 2 (some .int) ∈ wT := wt_2 (j := 89) (by decide +kernel) (by decide +kernel)
theorem w_mi : Cond.initialized "java/lang/Math" ∈ wT := wt_1 (j := 14) (by decide +kernel) (by decide +kernel)
theorem w_acn : Cond.native arraycopyName ∈ wT := wt_2 (j := 92) (by decide +kernel) (by decide +kernel)
theorem w_acs : Cond.static arraycopyName ∈ wT := wt_2 (j := 91) (by decide +kernel) (by decide +kernel)
theorem w_si : Cond.initialized "java/lang/System" ∈ wT := wt_1 (j := 16) (by decide +kernel) (by decide +kernel)
theorem w_gcs : Cond.selects "[Ljava/lang/Object;" ⟨"java/lang/Object", "getClass", "()Ljava/lang/Class;"⟩ ⟨"java/lang/Object", "getClass", "()Ljava/lang/Class;"⟩ ∈ wT := wt_5 (j := 132) (by decide +kernel) (by decide +kernel)
theorem w_gci : Cond.instanceMethod ⟨"java/lang/Object", "getClass", "()Ljava/lang/Class;"⟩ ∈ wT := wt_2 (j := 66) (by decide +kernel) (by decide +kernel)
theorem w_gcn : Cond.native ⟨"java/lang/Object", "getClass", "()Ljava/lang/Class;"⟩ ∈ wT := wt_2 (j := 80) (by decide +kernel) (by decide +kernel)
section MRows
variable {p : Program} {l : Launch} {e : Env} {R : Room} {s : State} {m : MethodId} {args : Array Value} {below : List Frame} {meth : Method} {c : Code} {E : Ev} {nL : Nat} {A : Nat → Prop} {Q : State → Prop} {X : va_W} {S : HS} {cells slots pc : Nat} {lv : List (Nat × Value)} {st : List Value} {cc : ByteArray} {y : MethodName} {ret : Option FieldType} {c0 : Cond} {index : Nat}
theorem g_ishr (C : Cx p s m args meth c cc nL y ret c0 E A) {x z : Int32} (hd : decode cc pc = .ok (.ishr, 1)) (kk : GW p l e R s m args below meth c E nL A Q X S cells slots (pc + 1) lv (.int (x >>> (z &&& 31)) :: st)) : GW p l e R s m args below meth c E nL A Q X S cells slots pc lv (.int z :: .int x :: st) := fun H locs ls hP hD hS hl => lv_ishr C.x C.b hd (kk H locs ls hP hD hS hl)
theorem g_lushr (C : Cx p s m args meth c cc nL y ret c0 E A) {x : Int64} {z : Int32} (v : Int64) (hd : decode cc pc = .ok (.lushr, 1)) (hv : (x.toUInt64 >>> (z.toInt64.toUInt64 &&& Int64.toUInt64 63)).toInt64 = v) (kk : GW p l e R s m args below meth c E nL A Q X S cells slots (pc + 1) lv (.long v :: st)) : GW p l e R s m args below meth c E nL A Q X S cells slots pc lv (.int z :: .long x :: st) := fun H locs ls hP hD hS hl => lv_lushr C.x C.b hd hv (kk H locs ls hP hD hS hl)
theorem g_l2i (C : Cx p s m args meth c cc nL y ret c0 E A) {x : Int64} (v : Int32) (hd : decode cc pc = .ok (.l2i, 1)) (hv : x.toInt32 = v) (kk : GW p l e R s m args below meth c E nL A Q X S cells slots (pc + 1) lv (.int v :: st)) : GW p l e R s m args below meth c E nL A Q X S cells slots pc lv (.long x :: st) := fun H locs ls hP hD hS hl => lv_l2i C.x C.b hd hv (kk H locs ls hP hD hS hl)
theorem g_aload_nN (C : Cx p s m args meth c cc nL y ret c0 E A) {k : Fin 4} {i : Nat} (j : Nat) (hd : decode cc pc = .ok (.aload_n k, 1)) (hi : (k : Nat) = i) (hj : lv[j]? = some (i, .null)) (kk : GW p l e R s m args below meth c E nL A Q X S cells slots (pc + 1) lv (.null :: st)) : GW p l e R s m args below meth c E nL A Q X S cells slots pc lv st := fun H locs ls hP hD hS hl => lv_aload_nN C.x C.b hd hi (lv_at hl j hj) (kk H locs ls hP hD hS hl)
theorem g_max (C : Cx p s m args meth c cc nL y ret c0 E A) {x z : Int32} (hlk : Cond.methodLink y.cls index Lib.Math.max.name ∈ wT) (hR : 1 ≤ R.frames ∧ (st.map fun v => v.category).sum + 13 ≤ R.locals) (hf : cells ≤ R.cells ∧ slots ≤ R.slots) (hd : decode cc pc = .ok (.invokestatic index, 3)) (kk : GW p l e R s m args below meth c E nL A Q X S cells slots (pc + 3) lv (.int (if x < z then z else x) :: st)) : GW p l e R s m args below meth c E nL A Q X S cells slots pc lv (.int z :: .int x :: st) := fun H locs ls hP hD hS hl => va_mmax C.x C.b (C.ml.trans hl.1.symm) C.own (C.w hlk) (C.w w_maxs) (C.w w_mi) (C.w w_maxc) hR.1 hR.2 hf.1 hf.2 hd (kk H locs ls hP hD hS hl)
theorem g_min (C : Cx p s m args meth c cc nL y ret c0 E A) {x z : Int32} (hlk : Cond.methodLink y.cls index Lib.Math.min.name ∈ wT) (hR : 1 ≤ R.frames ∧ (st.map fun v => v.category).sum + 13 ≤ R.locals) (hf : cells ≤ R.cells ∧ slots ≤ R.slots) (hd : decode cc pc = .ok (.invokestatic index, 3)) (kk : GW p l e R s m args below meth c E nL A Q X S cells slots (pc + 3) lv (.int (if z < x then z else x) :: st)) : GW p l e R s m args below meth c E nL A Q X S cells slots pc lv (.int z :: .int x :: st) := fun H locs ls hP hD hS hl => va_mmin C.x C.b (C.ml.trans hl.1.symm) C.own (C.w hlk) (C.w w_mins) (C.w w_mi) (C.w w_minc) hR.1 hR.2 hf.1 hf.2 hd (kk H locs ls hP hD hS hl)
/-- the empty row that stands in the air -/
theorem g_empty (C : Cx p s m args meth c cc nL y ret c0 E A) (hlk : Cond.fieldLink y.cls index "java/util/ArrayList" "DEFAULTCAPACITY_EMPTY_ELEMENTDATA" "[Ljava/lang/Object;" ∈ wT) (hd : decode cc pc = .ok (.getstatic index, 3)) (kk : GW p l e R s m args below meth c E nL A Q X S cells slots (pc + 3) lv (.ref (E.sa 0) :: st)) : GW p l e R s m args below meth c E nL A Q X S cells slots pc lv st := fun H locs ls hP hD hS hl => va_gets C.x C.b C.z.1 hS C.own (C.w hlk) (fun _ h => h) hd (kk H locs ls hP hD hS hl)
theorem g_elen (C : Cx p s m args meth c cc nL y ret c0 E A) (hd : decode cc pc = .ok (.arraylength, 1)) (kk : GW p l e R s m args below meth c E nL A Q X S cells slots (pc + 1) lv (.int 0 :: st)) : GW p l e R s m args below meth c E nL A Q X S cells slots pc lv (.ref (E.sa 0) :: st) := fun H locs ls hP hD hS hl => va_tlen C.x C.b C.z.2.1 hS rfl hd (kk H locs ls hP hD hS hl)
theorem g_mirror (C : Cx p s m args meth c cc nL y ret c0 E A) (hlk : Cond.classLink y.cls index "[Ljava/lang/Object;" ∈ wT) (hd : decode cc pc = .ok (.ldc index, 2)) (kk : GW p l e R s m args below meth c E nL A Q X S cells slots (pc + 2) lv (.ref (E.sa 1) :: st)) : GW p l e R s m args below meth c E nL A Q X S cells slots pc lv st := fun H locs ls hP hD hS hl => va_ldcM C.x C.b C.own (C.w hlk) C.z.2.2.2.2.1 hd (kk H locs ls hP hD hS hl)
theorem row_recv (C : Cx p s m args meth c cc nL y ret c0 E A) {H : Heap} {a : Nat} (hP : va_P E.D vwCl (X ++ pw E S) H) (hL : a ∈ S.L) (hK : S.K a = 7) : ∃ cell : Cell, H[a]? = some cell ∧ cell.vm.isStatics = false ∧ s.vm.findClass "[Ljava/lang/Object;" = some cell.cls := by
  obtain ⟨k0, hk0⟩ := pw_at (E := E) (X := X) hL
  rw [pF_7 hK] at hk0
  have h1 : H[a]? = some (vp_cell (E.cA 2) (S.N a, .inr (.inr (.inr (.inr (S.O a)))))) := hP k0 _ hk0
  have hr : va_RA s (E.cA 2) (.object "java/lang/Object") := (C.k.2 2 _ rfl).2
  obtain ⟨kA, comp, -, -, -, h5⟩ := hr
  exact ⟨_, h1, rfl, h5⟩
theorem g_getC (C : Cx p s m args meth c cc nL y ret c0 E A) {a : Nat} (hL : a ∈ S.L) (hK : S.K a = 7) (hlk : Cond.methodLink y.cls index ⟨"java/lang/Object", "getClass", "()Ljava/lang/Class;"⟩ ∈ wT) (hR : 1 ≤ R.frames ∧ (st.map fun v => v.category).sum + 14 ≤ R.locals) (hd : decode cc pc = .ok (.invokevirtual index, 3)) (kk : GW p l e R s m args below meth c E nL A Q X S cells slots (pc + 3) lv (.ref (E.sa 1) :: st)) : GW p l e R s m args below meth c E nL A Q X S cells slots pc lv (.ref a :: st) := fun H locs ls hP hD hS hl => va_getC (C := "[Ljava/lang/Object;") C.x C.b (C.ml.trans hl.1.symm) C.own (C.w hlk) C.z.2.2.2.2.2.2.1.use (C.w w_gcs) (C.w w_gci) (C.w w_gcn) C.z.2.2.2.2.1 (row_recv C hP hL hK) hR.1 hR.2 hd (kk H locs ls hP hD hS hl)
theorem g_castA (C : Cx p s m args meth c cc nL y ret c0 E A) {a : Nat} (hL : a ∈ S.L) (hK : S.K a = 7) (hlk : Cond.classLink y.cls index "[Ljava/lang/Object;" ∈ wT) (hd : decode cc pc = .ok (.checkcast index, 3)) (kk : GW p l e R s m args below meth c E nL A Q X S cells slots (pc + 3) lv (.ref a :: st)) : GW p l e R s m args below meth c E nL A Q X S cells slots pc lv (.ref a :: st) := by
  intro H locs ls hP hD hS hl
  obtain ⟨k0, hk0⟩ := pw_at (E := E) (X := X) hL
  rw [pF_7 hK] at hk0
  have hr : va_RA s (E.cA 2) (.object "java/lang/Object") := (C.k.2 2 _ rfl).2
  obtain ⟨kA, comp, -, -, -, h5⟩ := hr
  exact va_castA C.x C.b C.own (C.w hlk) hP k0 hk0 h5 hd (kk H locs ls hP hD hS hl)
theorem g_newO (C : Cx p s m args meth c cc nL y ret c0 E A) {n : Int32} (N2 : Nat) (hlk : Cond.classLink y.cls index "java/lang/Object" ∈ wT) (hn : ¬ n < 0) (hN : n.toNatClampNeg = N2) (hb : N2 ≤ 1000) (hcells : cells + 1 ≤ R.cells) (hslots : slots + N2 ≤ R.slots) (hd : decode cc pc = .ok (.anewarray index, 3)) (kk : ∀ q : Nat, q ∉ S.L → GW p l e R s m args below meth c E nL A Q X (S.nR q 7 N2) (cells + 1) (slots + N2) (pc + 3) lv (.ref q :: st)) : GW p l e R s m args below meth c E nL A Q X S cells slots pc lv (.int n :: st) := by
  intro H locs ls hP hD hS hl
  refine va_newq C.x C.b C.own (C.w hlk) C.z.2.2.2.2.2.1 C.k hP hD hS C.a hn hN (by omega) hcells hslots hd (fun q cA H1 hK1 hP1 hD1 hS1 => ?_)
  have h1 : va_RA s cA (.object "java/lang/Object") := (hK1.2 4 _ rfl).2
  have h2 : va_RA s (E.cA 2) (.object "java/lang/Object") := (C.k.2 2 _ rfl).2
  obtain ⟨_, _, -, -, -, a5⟩ := h1
  obtain ⟨_, _, -, -, -, b5⟩ := h2
  have hc : cA = E.cA 2 := Option.some.inj (a5.symm.trans b5)
  subst hc
  obtain ⟨hq, he⟩ := pw_push (S2 := S.nR q 7 N2) hD1 rfl (fun b => pu_nR7 q N2 b)
  rw [he] at hP1 hD1
  exact kk q hq H1 locs ls hP1 hD1 hS1 hl
theorem g_newI (C : Cx p s m args meth c cc nL y ret c0 E A) {n : Int32} (N2 : Nat) (hn : ¬ n < 0) (hN : n.toNatClampNeg = N2) (hb : N2 ≤ 2000) (hcells : cells + 1 ≤ R.cells) (hslots : slots + N2 ≤ R.slots) (hw : Cond.arrayClass .int ∈ wT) (hd : decode cc pc = .ok (.newarray .int, 2)) (kk : ∀ q : Nat, q ∉ S.L → GW p l e R s m args below meth c E nL A Q X (S.nR q 6 N2) (cells + 1) (slots + N2) (pc + 2) lv (.ref q :: st)) : GW p l e R s m args below meth c E nL A Q X S cells slots pc lv (.int n :: st) := by
  intro H locs ls hP hD hS hl
  refine va_newa (atype := .int) (ty := .int) (a0 := (N2, .inl (fun _ => 0))) C.x C.b (C.w hw) rfl C.k hP hD hS C.a (fun cA => vp_cell_i ..) hn hN (by show N2 * 4 ≤ _; omega) hcells hslots hd (fun q cA H1 hK1 hP1 hD1 hS1 => ?_)
  have h1 : va_RA s cA .int := (hK1.2 4 _ rfl).2
  have h2 : va_RA s (E.cA 0) .int := (C.k.2 0 _ rfl).2
  have hc : cA = E.cA 0 := Option.some.inj (h1.symm.trans h2)
  subst hc
  obtain ⟨hq, he⟩ := pw_push (S2 := S.nR q 6 N2) hD1 rfl (fun b => pu_nR6 q N2 b)
  rw [he] at hP1 hD1
  exact kk q hq H1 locs ls hP1 hD1 hS1 hl
/-- a thing that lists hold -/
def elK (S : HS) (v : Nat) : Prop := v ∈ S.L ∧ S.K v ≤ 2
theorem el_any (C : Cx p s m args meth c cc nL y ret c0 E A) {H : Heap} {v : Nat} (hP : va_P E.D vwCl (X ++ pw E S) H) (h : elK S v) : va_Any "java/lang/Object" s H v := by
  obtain ⟨hL, hk⟩ := h
  obtain ⟨k0, hk0⟩ := pw_at (E := E) (X := X) hL
  have go : ∀ (ci : Nat) (fs : List Value) (r : vw_C), pF E S v = .inr (ci, fs) → vwCl[ci]? = some r → va_Nw (.castable r.1 "java/lang/Object") s → va_Any "java/lang/Object" s H v := fun ci fs r hf hc hca => by
    rw [hf] at hk0
    refine va_rAny C.k hP hk0 hc (fun comp c1 h1 h2 => ?_)
    obtain ⟨c3, c4, f1, f2, f3⟩ := Cond.castable_spec (va_Nw.use (A := args) rfl hca)
    cases h2.symm.trans f1
    cases h1.symm.trans f2
    exact f3
  have h3 : S.K v = 0 ∨ S.K v = 1 ∨ S.K v = 2 := by omega
  rcases h3 with h | h | h
  · exact go _ _ _ (pF_0 h) rfl C.z.2.2.2.2.2.2.2.2.2.2.2.2.2.1
  · exact go _ _ _ (pF_1 h) rfl C.z.2.2.2.2.2.2.2.2.2.2.2.2.2.2.1
  · exact go _ _ _ (pF_2 h) rfl C.z.2.2.2.2.2.2.2.2.2.2.2.2.2.2.2.1
theorem g_aastE (C : Cx p s m args meth c cc nL y ret c0 E A) {a v : Nat} {i : Int32} (hL : a ∈ S.L) (hK : S.K a = 7) (hin : vp_in i (S.N a)) (hv : elK S v) (hd : decode cc pc = .ok (.aastore, 1)) (kk : GW p l e R s m args below meth c E nL A Q X (S.sO a i.toNatClampNeg (some v)) cells slots (pc + 1) lv st) : GW p l e R s m args below meth c E nL A Q X S cells slots pc lv (.ref v :: .int i :: .ref a :: st) := by
  intro H locs ls hP hD hS hl
  obtain ⟨k0, hk0⟩ := pw_at (E := E) (X := X) hL
  have hk1 := hk0
  rw [pF_7 hK] at hk1
  refine va_astqM (E := "java/lang/Object") C.x C.b C.k hP hD hS k0 2 hk1 rfl (el_any C hP hv) hin hd (fun H1 locs1 hP1 hD1 hS1 => ?_)
  rw [pw_set hD hL hk0 (S2 := S.sO a i.toNatClampNeg (some v)) rfl (pu_O hK i.toNatClampNeg (some v))] at hP1 hD1
  exact kk H1 locs1 ls hP1 hD1 hS1 hl
theorem g_copy (C : Cx p s m args meth c cc nL y ret c0 E A) {a a0 : Nat} {sp dp n : Int32} (hL0 : a0 ∈ S.L) (hK0 : S.K a0 = 7) (hL : a ∈ S.L) (hK : S.K a = 7) (h1 : ¬ sp < 0) (h2 : ¬ dp < 0) (h3 : ¬ n < 0) (h4 : sp.toNatClampNeg + n.toNatClampNeg ≤ S.N a0) (h5 : dp.toNatClampNeg + n.toNatClampNeg ≤ S.N a) (hel : ∀ i : Nat, i < n.toNatClampNeg → ∀ v : Nat, S.O a0 (sp.toNatClampNeg + i) = some v → elK S v) (hlk : Cond.methodLink y.cls index arraycopyName ∈ wT) (hR : 1 ≤ R.frames ∧ (st.map fun v => v.category).sum + (nativeFrameWords "java/lang/System" "arraycopy" 5 + 11) ≤ R.locals) (hd : decode cc pc = .ok (.invokestatic index, 3))
    (kk : GW p l e R s m args below meth c E nL A Q X (S.rO a (va_cpy (S.O a0) (S.O a) sp.toNatClampNeg dp.toNatClampNeg n.toNatClampNeg)) cells slots (pc + 3) lv st) : GW p l e R s m args below meth c E nL A Q X S cells slots pc lv (.int n :: .int dp :: .ref a :: .int sp :: .ref a0 :: st) := by
  intro H locs ls hP hD hS hl
  obtain ⟨k0, hk0⟩ := pw_at (E := E) (X := X) hL0
  obtain ⟨k9, hk9⟩ := pw_at (E := E) (X := X) hL
  have hk1 := hk9
  rw [pF_7 hK0] at hk0
  rw [pF_7 hK] at hk1
  refine va_copyM (E0 := "java/lang/Object") (E1 := "java/lang/Object") C.x C.b (C.ml.trans hl.1.symm) C.own (C.w hlk) (C.w w_acn) (C.w w_acs) (C.w w_si) C.k hP hD hS k0 k9 2 2 hk0 hk1 rfl rfl h1 h2 h3 h4 h5 (fun i hi v hv => el_any C hP (hel i hi v hv)) hR.1 hR.2 hd (fun H1 locs1 hP1 hD1 hS1 => ?_)
  rw [pw_set hD hL hk9 (S2 := S.rO a (va_cpy (S.O a0) (S.O a) sp.toNatClampNeg dp.toNatClampNeg n.toNatClampNeg)) rfl (pu_rO hK _)] at hP1 hD1
  exact kk H1 locs1 ls hP1 hD1 hS1 hl
/-- a field that the class has from above: it is named by the class itself -/
theorem g_getM (C : Cx p s m args meth c cc nL y ret c0 E A) {a ci N : Nat} {Cn ref : String} {T : u_T} {fs : List Value} {v : Value} (k : Nat) (hL : a ∈ S.L) (hf : pF E S a = .inr (ci, fs)) (hc : vwCl[ci]? = some (Cn, T, N)) (hk : k < N) (hin : ∀ w ∈ u_ws Cn T N, w ∈ wT) (hlink : Cond.fieldLink y.cls index ref (T k).2.1 (T k).2.2.1 ∈ wT) (hsf : Cond.sameField ref (T k).1 (T k).2.1 (T k).2.2.1 ∈ wT) (hv : fs[k]? = some v) (hd : decode cc pc = .ok (.getfield index, 3)) (kk : GW p l e R s m args below meth c E nL A Q X S cells slots (pc + 3) lv (v :: st)) : GW p l e R s m args below meth c E nL A Q X S cells slots pc lv (.ref a :: st) := by
  intro H locs ls hP hD hS hl
  obtain ⟨k0, hk0⟩ := pw_at (E := E) (X := X) hL
  rw [hf] at hk0
  exact va_get C.x C.b C.ts (fun w h => List.mem_cons_of_mem _ (hin w h)) C.own C.k hP k0 hk0 hc k hk (C.w hlink) (fun x h => u_same (C.w hsf) x h) hv hd (kk H locs ls hP hD hS hl)
theorem g_putM (C : Cx p s m args meth c cc nL y ret c0 E A) {a ci N : Nat} {Cn ref : String} {T : u_T} {fs : List Value} {v : Value} {ty0 : Nat → FieldType} {ty : FieldType} {S2 : HS} (k : Nat) (hL : a ∈ S.L) (hf : pF E S a = .inr (ci, fs)) (hc : vwCl[ci]? = some (Cn, T, N)) (hk : k < N) (hin : ∀ w ∈ u_ws Cn T N, w ∈ wT) (hty : ∀ k, k < N → parseFieldDescriptor (T k).2.2.1 = some (ty0 k)) (hnm : ∀ a, a < N → ∀ b, b < N → a ≠ b → (T a).2.1 ≠ (T b).2.1) (hlink : Cond.fieldLink y.cls index ref (T k).2.1 (T k).2.2.1 ∈ wT) (hsf : Cond.sameField ref (T k).1 (T k).2.1 (T k).2.2.1 ∈ wT) (hfin : (T k).2.2.2 = false) (hdv : parseFieldDescriptor (T k).2.2.1 = some ty) (hn : narrow ty v = v) (hfit : fits ty v = true) (hl2 : k < fs.length) (hSL : S2.L = S.L) (hS2 : ∀ b, pF E S2 b = va_up (pF E S) a (.inr (ci, fs.set k v)) b) (hd : decode cc pc = .ok (.putfield index, 3)) (kk : GW p l e R s m args below meth c E nL A Q X S2 cells slots (pc + 3) lv st) : GW p l e R s m args below meth c E nL A Q X S cells slots pc lv (v :: .ref a :: st) := by
  intro H locs ls hP hD hS hl
  obtain ⟨k0, hk0⟩ := pw_at (E := E) (X := X) hL
  have hk1 := hk0
  rw [hf] at hk1
  refine va_put C.x C.b C.ts (fun w h => List.mem_cons_of_mem _ (hin w h)) ty0 hty hnm C.own C.k hP hD hS k0 hk1 hc k hk (C.w hlink) (fun x h => u_same (C.w hsf) x h) hfin hdv hn hfit hl2 hd (fun H1 locs1 hP1 hD1 hS1 => ?_)
  rw [pw_set hD hL hk0 hSL hS2] at hP1 hD1
  exact kk H1 locs1 ls hP1 hD1 hS1 hl
end MRows
