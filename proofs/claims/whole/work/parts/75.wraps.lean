theorem kl_L_13 : Cond.classLink RL 13 xIA ∈ wT := wt_1 (j := 120) (by decide +kernel) (by decide +kernel)
theorem kl_L_15 : Cond.classLink RL 15 xIS ∈ wT := wt_1 (j := 121) (by decide +kernel) (by decide +kernel)
theorem kl_L_20 : Cond.classLink RL 20 xIO ∈ wT := wt_2 (j := 98) (by decide +kernel) (by decide +kernel)
theorem cmw_L_net : Cond.codeWith yL_net cL_net 6 (some .int) [(0, 12, 15, 13), (0, 12, 19, 15)] ∈ wT := wt_1 (j := 119) (by decide +kernel) (by decide +kernel)
theorem wst_L_69 : ∀ w ∈ [Cond.methodLink RL 69 yL_net, Cond.static yL_net, Cond.initialized yL_net.cls], w ∈ wT := wl_c (wt_1 (j := 117) (by decide +kernel) (by decide +kernel)) (wl_c (wt_1 (j := 118) (by decide +kernel) (by decide +kernel)) (wl_c (wt_1 (j := 0) (by decide +kernel) (by decide +kernel)) (wl_n)))
theorem dt_L_net : yL_net.cls ≠ "java/lang/invoke/MethodHandle" ∧ yL_net.cls ≠ "java/lang/invoke/VarHandle" ∧ (parseMethodDescriptor yL_net.desc).map (fun d => d.parameters.length) = some 5 := by decide +kernel
theorem cmw_L_couple : Cond.codeWith yL_couple cL_couple 6 (some .int) [(0, 12, 15, 20), (0, 12, 19, 13), (0, 12, 23, 15)] ∈ wT := wt_2 (j := 97) (by decide +kernel) (by decide +kernel)
theorem wst_L_79 : ∀ w ∈ [Cond.methodLink RL 79 yL_couple, Cond.static yL_couple, Cond.initialized yL_couple.cls], w ∈ wT := wl_c (wt_2 (j := 95) (by decide +kernel) (by decide +kernel)) (wl_c (wt_2 (j := 96) (by decide +kernel) (by decide +kernel)) (wl_c (wt_1 (j := 0) (by decide +kernel) (by decide +kernel)) (wl_n)))
theorem dt_L_couple : yL_couple.cls ≠ "java/lang/invoke/MethodHandle" ∧ yL_couple.cls ≠ "java/lang/invoke/VarHandle" ∧ (parseMethodDescriptor yL_couple.desc).map (fun d => d.parameters.length) = some 5 := by decide +kernel
theorem cmw_L_exclude : Cond.codeWith yL_exclude cL_exclude 5 (some .int) [(0, 17, 20, 20), (0, 17, 24, 13)] ∈ wT := wt_3 (j := 197) (by decide +kernel) (by decide +kernel)
theorem wst_L_82 : ∀ w ∈ [Cond.methodLink RL 82 yL_exclude, Cond.static yL_exclude, Cond.initialized yL_exclude.cls], w ∈ wT := wl_c (wt_3 (j := 195) (by decide +kernel) (by decide +kernel)) (wl_c (wt_3 (j := 196) (by decide +kernel) (by decide +kernel)) (wl_c (wt_1 (j := 0) (by decide +kernel) (by decide +kernel)) (wl_n)))
theorem dt_L_exclude : yL_exclude.cls ≠ "java/lang/invoke/MethodHandle" ∧ yL_exclude.cls ≠ "java/lang/invoke/VarHandle" ∧ (parseMethodDescriptor yL_exclude.desc).map (fun d => d.parameters.length) = some 4 := by decide +kernel
theorem cmw_L_stage : Cond.codeWith yL_stage cL_stage 6 (some .int) [(0, 12, 15, 20), (0, 12, 19, 13), (0, 12, 23, 15)] ∈ wT := wt_3 (j := 213) (by decide +kernel) (by decide +kernel)
theorem wst_L_86 : ∀ w ∈ [Cond.methodLink RL 86 yL_stage, Cond.static yL_stage, Cond.initialized yL_stage.cls], w ∈ wT := wl_c (wt_3 (j := 211) (by decide +kernel) (by decide +kernel)) (wl_c (wt_3 (j := 212) (by decide +kernel) (by decide +kernel)) (wl_c (wt_1 (j := 0) (by decide +kernel) (by decide +kernel)) (wl_n)))
theorem dt_L_stage : yL_stage.cls ≠ "java/lang/invoke/MethodHandle" ∧ yL_stage.cls ≠ "java/lang/invoke/VarHandle" ∧ (parseMethodDescriptor yL_stage.desc).map (fun d => d.parameters.length) = some 5 := by decide +kernel
theorem cmw_L_keep : Cond.codeWith yL_keep cL_keep 4 (some .int) [(0, 9, 12, 13)] ∈ wT := wt_4 (j := 22) (by decide +kernel) (by decide +kernel)
theorem wst_L_89 : ∀ w ∈ [Cond.methodLink RL 89 yL_keep, Cond.static yL_keep, Cond.initialized yL_keep.cls], w ∈ wT := wl_c (wt_4 (j := 20) (by decide +kernel) (by decide +kernel)) (wl_c (wt_4 (j := 21) (by decide +kernel) (by decide +kernel)) (wl_c (wt_1 (j := 0) (by decide +kernel) (by decide +kernel)) (wl_n)))
theorem dt_L_keep : yL_keep.cls ≠ "java/lang/invoke/MethodHandle" ∧ yL_keep.cls ≠ "java/lang/invoke/VarHandle" ∧ (parseMethodDescriptor yL_keep.desc).map (fun d => d.parameters.length) = some 3 := by decide +kernel
theorem cmw_L_row : Cond.codeWith yL_row cL_row 5 (some .int) [(0, 17, 20, 13), (0, 17, 24, 15)] ∈ wT := wt_4 (j := 29) (by decide +kernel) (by decide +kernel)
theorem wst_L_93 : ∀ w ∈ [Cond.methodLink RL 93 yL_row, Cond.static yL_row, Cond.initialized yL_row.cls], w ∈ wT := wl_c (wt_4 (j := 27) (by decide +kernel) (by decide +kernel)) (wl_c (wt_4 (j := 28) (by decide +kernel) (by decide +kernel)) (wl_c (wt_1 (j := 0) (by decide +kernel) (by decide +kernel)) (wl_n)))
theorem dt_L_row : yL_row.cls ≠ "java/lang/invoke/MethodHandle" ∧ yL_row.cls ≠ "java/lang/invoke/VarHandle" ∧ (parseMethodDescriptor yL_row.desc).map (fun d => d.parameters.length) = some 4 := by decide +kernel
theorem cmw_L_run : Cond.codeWith yL_run cL_run 5 (some .int) [(0, 10, 13, 13)] ∈ wT := wt_4 (j := 40) (by decide +kernel) (by decide +kernel)
theorem wst_L_96 : ∀ w ∈ [Cond.methodLink RL 96 yL_run, Cond.static yL_run, Cond.initialized yL_run.cls], w ∈ wT := wl_c (wt_4 (j := 38) (by decide +kernel) (by decide +kernel)) (wl_c (wt_4 (j := 39) (by decide +kernel) (by decide +kernel)) (wl_c (wt_1 (j := 0) (by decide +kernel) (by decide +kernel)) (wl_n)))
theorem dt_L_run : yL_run.cls ≠ "java/lang/invoke/MethodHandle" ∧ yL_run.cls ≠ "java/lang/invoke/VarHandle" ∧ (parseMethodDescriptor yL_run.desc).map (fun d => d.parameters.length) = some 4 := by decide +kernel
theorem cmw_L_early : Cond.codeWith yL_early cL_early 4 (some .int) [(0, 9, 12, 20)] ∈ wT := wt_4 (j := 88) (by decide +kernel) (by decide +kernel)
theorem wst_L_100 : ∀ w ∈ [Cond.methodLink RL 100 yL_early, Cond.static yL_early, Cond.initialized yL_early.cls], w ∈ wT := wl_c (wt_4 (j := 86) (by decide +kernel) (by decide +kernel)) (wl_c (wt_4 (j := 87) (by decide +kernel) (by decide +kernel)) (wl_c (wt_1 (j := 0) (by decide +kernel) (by decide +kernel)) (wl_n)))
theorem dt_L_early : yL_early.cls ≠ "java/lang/invoke/MethodHandle" ∧ yL_early.cls ≠ "java/lang/invoke/VarHandle" ∧ (parseMethodDescriptor yL_early.desc).map (fun d => d.parameters.length) = some 3 := by decide +kernel
theorem cmw_L_late : Cond.codeWith yL_late cL_late 4 (some .int) [(0, 9, 12, 20)] ∈ wT := wt_4 (j := 95) (by decide +kernel) (by decide +kernel)
theorem wst_L_103 : ∀ w ∈ [Cond.methodLink RL 103 yL_late, Cond.static yL_late, Cond.initialized yL_late.cls], w ∈ wT := wl_c (wt_4 (j := 93) (by decide +kernel) (by decide +kernel)) (wl_c (wt_4 (j := 94) (by decide +kernel) (by decide +kernel)) (wl_c (wt_1 (j := 0) (by decide +kernel) (by decide +kernel)) (wl_n)))
theorem dt_L_late : yL_late.cls ≠ "java/lang/invoke/MethodHandle" ∧ yL_late.cls ≠ "java/lang/invoke/VarHandle" ∧ (parseMethodDescriptor yL_late.desc).map (fun d => d.parameters.length) = some 3 := by decide +kernel
theorem cmw_L_added : Cond.codeWith yL_added cL_added 4 (some .int) [(0, 9, 12, 20)] ∈ wT := wt_4 (j := 102) (by decide +kernel) (by decide +kernel)
theorem wst_L_106 : ∀ w ∈ [Cond.methodLink RL 106 yL_added, Cond.static yL_added, Cond.initialized yL_added.cls], w ∈ wT := wl_c (wt_4 (j := 100) (by decide +kernel) (by decide +kernel)) (wl_c (wt_4 (j := 101) (by decide +kernel) (by decide +kernel)) (wl_c (wt_1 (j := 0) (by decide +kernel) (by decide +kernel)) (wl_n)))
theorem dt_L_added : yL_added.cls ≠ "java/lang/invoke/MethodHandle" ∧ yL_added.cls ≠ "java/lang/invoke/VarHandle" ∧ (parseMethodDescriptor yL_added.desc).map (fun d => d.parameters.length) = some 3 := by decide +kernel
theorem cmw_L_changed : Cond.codeWith yL_changed cL_changed 4 (some .int) [(0, 9, 12, 20)] ∈ wT := wt_4 (j := 109) (by decide +kernel) (by decide +kernel)
theorem wst_L_109 : ∀ w ∈ [Cond.methodLink RL 109 yL_changed, Cond.static yL_changed, Cond.initialized yL_changed.cls], w ∈ wT := wl_c (wt_4 (j := 107) (by decide +kernel) (by decide +kernel)) (wl_c (wt_4 (j := 108) (by decide +kernel) (by decide +kernel)) (wl_c (wt_1 (j := 0) (by decide +kernel) (by decide +kernel)) (wl_n)))
theorem dt_L_changed : yL_changed.cls ≠ "java/lang/invoke/MethodHandle" ∧ yL_changed.cls ≠ "java/lang/invoke/VarHandle" ∧ (parseMethodDescriptor yL_changed.desc).map (fun d => d.parameters.length) = some 3 := by decide +kernel
theorem cmw_L_source : Cond.codeWith yL_source cL_source 5 (some .int) [(0, 10, 13, 20)] ∈ wT := wt_4 (j := 116) (by decide +kernel) (by decide +kernel)
theorem wst_L_112 : ∀ w ∈ [Cond.methodLink RL 112 yL_source, Cond.static yL_source, Cond.initialized yL_source.cls], w ∈ wT := wl_c (wt_4 (j := 114) (by decide +kernel) (by decide +kernel)) (wl_c (wt_4 (j := 115) (by decide +kernel) (by decide +kernel)) (wl_c (wt_1 (j := 0) (by decide +kernel) (by decide +kernel)) (wl_n)))
theorem dt_L_source : yL_source.cls ≠ "java/lang/invoke/MethodHandle" ∧ yL_source.cls ≠ "java/lang/invoke/VarHandle" ∧ (parseMethodDescriptor yL_source.desc).map (fun d => d.parameters.length) = some 4 := by decide +kernel
theorem cmw_L_height : Cond.codeWith yL_height cL_height 4 (some .int) [(0, 9, 12, 20)] ∈ wT := wt_4 (j := 127) (by decide +kernel) (by decide +kernel)
theorem wst_L_115 : ∀ w ∈ [Cond.methodLink RL 115 yL_height, Cond.static yL_height, Cond.initialized yL_height.cls], w ∈ wT := wl_c (wt_4 (j := 125) (by decide +kernel) (by decide +kernel)) (wl_c (wt_4 (j := 126) (by decide +kernel) (by decide +kernel)) (wl_c (wt_1 (j := 0) (by decide +kernel) (by decide +kernel)) (wl_n)))
theorem dt_L_height : yL_height.cls ≠ "java/lang/invoke/MethodHandle" ∧ yL_height.cls ≠ "java/lang/invoke/VarHandle" ∧ (parseMethodDescriptor yL_height.desc).map (fun d => d.parameters.length) = some 3 := by decide +kernel
theorem cmw_L_noise : Cond.codeWith yL_noise cL_noise 4 (some .int) [(0, 9, 12, 20)] ∈ wT := wt_4 (j := 138) (by decide +kernel) (by decide +kernel)
theorem wst_L_118 : ∀ w ∈ [Cond.methodLink RL 118 yL_noise, Cond.static yL_noise, Cond.initialized yL_noise.cls], w ∈ wT := wl_c (wt_4 (j := 136) (by decide +kernel) (by decide +kernel)) (wl_c (wt_4 (j := 137) (by decide +kernel) (by decide +kernel)) (wl_c (wt_1 (j := 0) (by decide +kernel) (by decide +kernel)) (wl_n)))
theorem dt_L_noise : yL_noise.cls ≠ "java/lang/invoke/MethodHandle" ∧ yL_noise.cls ≠ "java/lang/invoke/VarHandle" ∧ (parseMethodDescriptor yL_noise.desc).map (fun d => d.parameters.length) = some 3 := by decide +kernel
theorem cmw_L_count : Cond.codeWith yL_count cL_count 4 (some .int) [(0, 9, 12, 20)] ∈ wT := wt_4 (j := 154) (by decide +kernel) (by decide +kernel)
theorem wst_L_121 : ∀ w ∈ [Cond.methodLink RL 121 yL_count, Cond.static yL_count, Cond.initialized yL_count.cls], w ∈ wT := wl_c (wt_4 (j := 152) (by decide +kernel) (by decide +kernel)) (wl_c (wt_4 (j := 153) (by decide +kernel) (by decide +kernel)) (wl_c (wt_1 (j := 0) (by decide +kernel) (by decide +kernel)) (wl_n)))
theorem dt_L_count : yL_count.cls ≠ "java/lang/invoke/MethodHandle" ∧ yL_count.cls ≠ "java/lang/invoke/VarHandle" ∧ (parseMethodDescriptor yL_count.desc).map (fun d => d.parameters.length) = some 3 := by decide +kernel
section WRows
variable {p : Program} {l : Launch} {e : Env} {R : Room} {s : State} {m : MethodId} {args : Array Value} {below : List Frame} {meth : Method} {c : Code} {E : Ev} {nL : Nat} {A : Nat → Prop} {Q : State → Prop} {X : va_W} {S : HS} {cells slots pc : Nat} {lv : List (Nat × Value)} {st : List Value} {cc : ByteArray} {y : MethodName} {ret : Option FieldType} {c0 : Cond}
variable {y2 : MethodName} {cc2 : ByteArray} {n2 k2 nA m2 m3 mc ms index : Nat} {ret2 : Option FieldType} {av : List Value} {cls : String} {Po : Option Value → va_W → HS → Prop} {hh : List (Nat × Nat × Nat × Nat)}
/-- a contract of a method with an exception table -/
theorem CtrW.ofG {k : Nat} (hy : plainName y.cls = true) (lv0 : List (Nat × Value)) (hlv : lv_args 0 av = lv0) (hn : (lg_sl av).length ≤ nL)
    (body : ∀ (p : Program) (e : Env) (s : State) (m : MethodId) (args : Array Value) (below : List Frame) (meth : Method) (c : Code) (A : Nat → Prop) (Q : State → Prop), Cx p s m args meth c cc nL y ret (Cond.codeWith y cc nL ret hh) E A → c.exceptionTable.toList = tableOf hh → (∀ t, MQ below (QR E A Po) args s mc ms A t → Q t) → GW p l e (rml k mc ms) s m args below meth c E nL A Q X S 0 0 0 lv0 []) :
    Ctr l y (Cond.codeWith y cc nL ret hh) k mc ms E av X S Po := by
  intro sz
  refine va_MetW (cc := cc) (maxL := nL) (ret := ret) (hh := hh) hy rfl ?_
  intro p e s m args below meth c s₁ B hml hv
  obtain ⟨rfl, hsz, hP, hK, hD0, hZ⟩ := hv
  subst hsz
  have hts := atoms_spec (ws := Cond.codeWith y cc nL ret hh :: wT) B.pre
  have hD := hD0.self (sz := s.heap.size)
  have hl := lv_entry av (n := nL) hn
  rw [lg_entry_eq]
  rw [hlv] at hl
  exact body p e s m _ below meth c _ _ ⟨B.exec, B.bytes, hml, findClass_of_methodNamed B.named, hts, hK, fun q h => Or.inr h, hZ, B.returns, B.notSynchronized, (name_of_methodNamed B.named B.method).1⟩ (vx_table (x := y) B (hts _ List.mem_cons_self)) (fun t h => h) s.heap [] _ hP hD va_S.rf hl
/-- a callee throws, and this method's table catches it -/
theorem g_catchV (C : Cx p s m args meth c cc nL y ret c0 E A) {b ci : Nat} {Cn name : String} {T : u_T} {N : Nat} (As rest : List Value) (hM : CtrT l y2 (Cond.code y2 cc2 n2 ret2) k2 m2 m3 E (.ref b :: As) X S cls) (hrecv : ∃ (k0 : Nat) (fs : List Value), (X ++ pw E S)[k0]? = some (b, .inr (ci, fs))) (hc : vwCl[ci]? = some (Cn, T, N)) (hcode : Cond.code y2 cc2 n2 ret2 ∈ wT) (hw : ∀ w ∈ [Cond.methodLink y.cls index y2, Cond.instanceMethod y2, Cond.selects Cn y2 y2, Cond.initialized Cn], w ∈ wT)
    (hdsc : y2.cls = Cn ∧ y2.cls ≠ "java/lang/invoke/MethodHandle" ∧ y2.cls ≠ "java/lang/invoke/VarHandle" ∧ (parseMethodDescriptor y2.desc).map (fun d => d.parameters.length) = some nA) (hnA : As.length = nA) (hst : st = As.reverse ++ .ref b :: rest) (hrs : (rest.map fun v => v.category).sum ≤ 8) (hR : 8 * k2 + 1 ≤ R.frames ∧ 8 + (n2 + 11) + 128 * k2 ≤ R.locals) (hf : cells + m2 ≤ R.cells ∧ slots + m3 ≤ R.slots) (hd : decode cc pc = .ok (.invokevirtual index, 3))
    (pre : List ExceptionTableEntry) (x9 : ExceptionTableEntry) (suf : List ExceptionTableEntry) (hsplit : c.exceptionTable.toList = pre ++ x9 :: suf) (hpass : ∀ z ∈ pre, covers z pc = false ∨ (z.catchType ≠ 0 ∧ ∃ nm : String, Cond.classLink y.cls z.catchType nm ∈ wT ∧ va_Nc cls nm s)) (hx : covers x9 pc = true) (h0 : x9.catchType ≠ 0) (hlink : Cond.classLink y.cls x9.catchType name ∈ wT) (hcast : va_Nw (.castable cls name) s)
    (kk : ∀ q : Nat, GW p l e R s m args below meth c E nL A Q X S (cells + m2) (slots + m3) x9.handlerPc lv [.ref q]) : GW p l e R s m args below meth c E nL A Q X S cells slots pc lv st := by
  intro H locs ls hP hD hS hl
  subst hst
  obtain ⟨k0, fs, hk0⟩ := hrecv
  refine g_threw (cls := cls) (vx_runV (As := As) (rest := rest) ⟨C.x, C.b, C.ml, C.own, C.ts⟩ (hM H.size) (cwV (C := Cn) nA C.ts (wT_app hcode hw) rfl rfl rfl hdsc hR) ⟨PcR.blind, va_recv C.k hP hc hk0, PcR.at (av := .ref b :: As) C hP hD hS⟩ rfl hnA hl.1 rfl (lv_room hrs) hd hf) C.a hD hS (fun q ce H1 locs1 hP1 hS1 hq hcv hcl => ?_)
  refine cx_catch C.own pre x9 suf hsplit (fun z hz => ?_) hx h0 (C.w hlink) (va_Nw.use rfl hcast) hq hcv hcl (kk q H1 locs1 ls hP1 hD hS1 hl)
  rcases hpass z hz with h | ⟨h, nm, h1, h2⟩
  · exact Or.inl h
  · exact Or.inr ⟨h, nm, C.w h1, h2⟩
theorem g_callSW (C : Cx p s m args meth c cc nL y ret c0 E A) (As rest : List Value) (hM : Ctr l y2 (Cond.codeWith y2 cc2 n2 ret2 hh) k2 mc ms E As X S Po) (hcode : Cond.codeWith y2 cc2 n2 ret2 hh ∈ wT) (hw : ∀ w ∈ [Cond.methodLink y.cls index y2, Cond.static y2, Cond.initialized y2.cls], w ∈ wT)
    (hdsc : y2.cls ≠ "java/lang/invoke/MethodHandle" ∧ y2.cls ≠ "java/lang/invoke/VarHandle" ∧ (parseMethodDescriptor y2.desc).map (fun d => d.parameters.length) = some nA) (hnA : As.length = nA) (hst : st = As.reverse ++ rest) (hrs : (rest.map fun v => v.category).sum ≤ 8) (hR : 8 * k2 + 1 ≤ R.frames ∧ 8 + (n2 + 11) + 128 * k2 ≤ R.locals) (hf : cells + mc ≤ R.cells ∧ slots + ms ≤ R.slots) (hd : decode cc pc = .ok (.invokestatic index, 3))
    (kk : ∀ (v : Option Value) (X2 : va_W) (S2 : HS), Po v X2 S2 → GW p l e R s m args below meth c E nL A Q X2 S2 (cells + mc) (slots + ms) (pc + 3) lv (v.toList ++ rest)) : GW p l e R s m args below meth c E nL A Q X S cells slots pc lv st := by
  intro H locs ls hP hD hS hl
  subst hst
  exact g_ran (vx_runSW (As := As) (rest := rest) ⟨C.x, C.b, C.ml, C.own, C.ts⟩ (hM H.size) (vx_cwSW nA C.ts (wT_app hcode hw) rfl rfl rfl hdsc hR) ⟨PcR.blind, PcR.at (av := As) C hP hD hS⟩ rfl hnA hl.1 rfl (lv_room hrs) hd hf) C.a hD hS hl kk
end WRows
/-- what a wrapper leaves: out's number -/
def Wok (X : va_W) (pos r : Nat) (E : Ev) (f : Nat → Int64) (cv : Int32 → Int64) (Po : Option Value → va_W → HS → Prop) : Option Value → va_W → HS → Prop := fun v X2 S2 => some (.int 0) = v ∧ ∃ z, Po (some (.int z)) X S2 ∧ X.set pos (r, .inl (E.cA 3, 1, .inr (.inl (vp_updL f 0 (cv z))))) = X2
def cvB (z : Int32) : Int64 := if z = 0 then 0 else 1
set_option maxRecDepth 100000 in
theorem w_net (l : Launch) (E : Ev) (X : va_W) (S : HS) {x r : Nat} (hx : isK S 4 x) {p0 p1 p2 : Int32} {pos : Nat} {f : Nat → Int64} (hX : X[pos]? = some (r, .inl (E.cA 3, 1, .inr (.inl f)))) {Po : Option Value → va_W → HS → Prop} (hPo : ∀ v X2 S2, Po v X2 S2 → X = X2 ∧ ∃ z, some (.int z) = v) (hM : Ctr l yX4_net (Cond.code yX4_net cX4_net 5 (some .int)) 7 5 318 E [.ref x, .int p0, .int p1, .int p2] X S Po) : Ctr l yL_net (Cond.codeWith yL_net cL_net 6 (some .int) [(0, 12, 15, 13), (0, 12, 19, 15)]) 8 5 318 E [.ref x, .int p0, .int p1, .int p2, .ref r] X S (Wok X pos r E f Int32.toInt64 Po) := by
  refine CtrW.ofG (by decide) [(0, .ref x), (1, .int p0), (2, .int p1), (3, .int p2), (4, .ref r)] rfl (Nat.le_of_ble_eq_true rfl) ?_
  intro p e s m args below meth c A Q C htb hQ
  refine g_aload C 4 dL_net_0 rfl ?_
  refine g_iconst C 0 dL_net_2 (by decide) ?_
  refine g_aload_n C 0 dL_net_3 rfl rfl ?_
  refine g_iload_n C 1 dL_net_4 rfl rfl ?_
  refine g_iload_n C 2 dL_net_5 rfl rfl ?_
  refine g_iload_n C 3 dL_net_6 rfl rfl ?_
  refine g_callV C [.int p0, .int p1, .int p2] [.int 0, .ref r] hM (recv_at hx.1 (pF_4 hx.2)) rfl cm_X4_net wv_L_7 ds_X4_net rfl rfl (Nat.le_of_ble_eq_true rfl) (by decide) (by decide) dL_net_7 ?_
  intro v X2 S2 h9
  obtain ⟨e1, z, e2⟩ := hPo v X2 S2 h9
  subst e1; subst e2
  refine g_i2l C _ dL_net_10 rfl ?_
  refine x_last C pos 0 hX rfl (by decide) (by decide) rfl dL_net_11 ?_
  refine g_goto C 23 dL_net_12 (by decide) ?_
  refine g_iconst C 0 dL_net_23 (by decide) ?_
  exact g_iret C hQ rfl rfl dL_net_24 (by decide) (by decide) ⟨rfl, z, h9, rfl⟩
set_option maxRecDepth 100000 in
theorem w_netT1 (l : Launch) (E : Ev) (X : va_W) (S : HS) {x r : Nat} (hx : isK S 4 x) {p0 p1 p2 : Int32} (hM : CtrT l yX4_net (Cond.code yX4_net cX4_net 5 (some .int)) 7 1 6 E [.ref x, .int p0, .int p1, .int p2] X S xIA) : Ctr l yL_net (Cond.codeWith yL_net cL_net 6 (some .int) [(0, 12, 15, 13), (0, 12, 19, 15)]) 8 1 6 E [.ref x, .int p0, .int p1, .int p2, .ref r] X S (fun v X2 S2 => some (.int 1) = v ∧ X = X2 ∧ S = S2) := by
  refine CtrW.ofG (by decide) [(0, .ref x), (1, .int p0), (2, .int p1), (3, .int p2), (4, .ref r)] rfl (Nat.le_of_ble_eq_true rfl) ?_
  intro p e s m args below meth c A Q C htb hQ
  refine g_aload C 4 dL_net_0 rfl ?_
  refine g_iconst C 0 dL_net_2 (by decide) ?_
  refine g_aload_n C 0 dL_net_3 rfl rfl ?_
  refine g_iload_n C 1 dL_net_4 rfl rfl ?_
  refine g_iload_n C 2 dL_net_5 rfl rfl ?_
  refine g_iload_n C 3 dL_net_6 rfl rfl ?_
  refine g_catchV C [.int p0, .int p1, .int p2] [.int 0, .ref r] hM (recv_at hx.1 (pF_4 hx.2)) rfl cm_X4_net wv_L_7 ds_X4_net rfl rfl (Nat.le_of_ble_eq_true rfl) (by decide) (by decide) dL_net_7 [] ⟨0, 12, 15, 13⟩ [⟨0, 12, 19, 15⟩] (htb.trans rfl) (fun z hz => absurd hz List.not_mem_nil) (by decide) (by decide) kl_L_13 C.z.2.2.2.2.2.2.2.2.2.2.2.2.2.2.2.2.2.1 (fun q => ?_)
  refine g_astore C [(5, .ref q), (0, .ref x), (1, .int p0), (2, .int p1), (3, .int p2), (4, .ref r)] dL_net_15 (by decide) rfl ?_
  refine g_iconst C 1 dL_net_17 (by decide) ?_
  exact g_iret C hQ rfl rfl dL_net_18 (by decide) (by decide) ⟨rfl, rfl, rfl⟩
set_option maxRecDepth 100000 in
theorem w_netT2 (l : Launch) (E : Ev) (X : va_W) (S : HS) {x r : Nat} (hx : isK S 4 x) {p0 p1 p2 : Int32} (hM : CtrT l yX4_net (Cond.code yX4_net cX4_net 5 (some .int)) 7 1 6 E [.ref x, .int p0, .int p1, .int p2] X S xIS) : Ctr l yL_net (Cond.codeWith yL_net cL_net 6 (some .int) [(0, 12, 15, 13), (0, 12, 19, 15)]) 8 1 6 E [.ref x, .int p0, .int p1, .int p2, .ref r] X S (fun v X2 S2 => some (.int 2) = v ∧ X = X2 ∧ S = S2) := by
  refine CtrW.ofG (by decide) [(0, .ref x), (1, .int p0), (2, .int p1), (3, .int p2), (4, .ref r)] rfl (Nat.le_of_ble_eq_true rfl) ?_
  intro p e s m args below meth c A Q C htb hQ
  refine g_aload C 4 dL_net_0 rfl ?_
  refine g_iconst C 0 dL_net_2 (by decide) ?_
  refine g_aload_n C 0 dL_net_3 rfl rfl ?_
  refine g_iload_n C 1 dL_net_4 rfl rfl ?_
  refine g_iload_n C 2 dL_net_5 rfl rfl ?_
  refine g_iload_n C 3 dL_net_6 rfl rfl ?_
  refine g_catchV C [.int p0, .int p1, .int p2] [.int 0, .ref r] hM (recv_at hx.1 (pF_4 hx.2)) rfl cm_X4_net wv_L_7 ds_X4_net rfl rfl (Nat.le_of_ble_eq_true rfl) (by decide) (by decide) dL_net_7 [⟨0, 12, 15, 13⟩] ⟨0, 12, 19, 15⟩ [] (htb.trans rfl) (fun z hz => by
    rcases List.mem_cons.mp hz with rfl | hz
    · exact Or.inr ⟨by decide, xIA, kl_L_13, C.z.2.2.2.2.2.2.2.2.2.2.2.2.2.2.2.2.2.2.2.2.2.1⟩
    exact absurd hz List.not_mem_nil) (by decide) (by decide) kl_L_15 C.z.2.2.2.2.2.2.2.2.2.2.2.2.2.2.2.2.2.2.1 (fun q => ?_)
  refine g_astore C [(5, .ref q), (0, .ref x), (1, .int p0), (2, .int p1), (3, .int p2), (4, .ref r)] dL_net_19 (by decide) rfl ?_
  refine g_iconst C 2 dL_net_21 (by decide) ?_
  exact g_iret C hQ rfl rfl dL_net_22 (by decide) (by decide) ⟨rfl, rfl, rfl⟩
set_option maxRecDepth 100000 in
theorem w_couple (l : Launch) (E : Ev) (X : va_W) (S : HS) {x r : Nat} (hx : isK S 4 x) {p0 p1 p2 : Int32} {pos : Nat} {f : Nat → Int64} (hX : X[pos]? = some (r, .inl (E.cA 3, 1, .inr (.inl f)))) {Po : Option Value → va_W → HS → Prop} (hPo : ∀ v X2 S2, Po v X2 S2 → X = X2 ∧ ∃ z, some (.int z) = v) (hM : Ctr l yX4_couple (Cond.code yX4_couple cX4_couple 7 (some .int)) 8 4 304 E [.ref x, .int p0, .int p1, .int p2] X S Po) : Ctr l yL_couple (Cond.codeWith yL_couple cL_couple 6 (some .int) [(0, 12, 15, 20), (0, 12, 19, 13), (0, 12, 23, 15)]) 9 4 304 E [.ref x, .int p0, .int p1, .int p2, .ref r] X S (Wok X pos r E f Int32.toInt64 Po) := by
  refine CtrW.ofG (by decide) [(0, .ref x), (1, .int p0), (2, .int p1), (3, .int p2), (4, .ref r)] rfl (Nat.le_of_ble_eq_true rfl) ?_
  intro p e s m args below meth c A Q C htb hQ
  refine g_aload C 4 dL_couple_0 rfl ?_
  refine g_iconst C 0 dL_couple_2 (by decide) ?_
  refine g_aload_n C 0 dL_couple_3 rfl rfl ?_
  refine g_iload_n C 1 dL_couple_4 rfl rfl ?_
  refine g_iload_n C 2 dL_couple_5 rfl rfl ?_
  refine g_iload_n C 3 dL_couple_6 rfl rfl ?_
  refine g_callV C [.int p0, .int p1, .int p2] [.int 0, .ref r] hM (recv_at hx.1 (pF_4 hx.2)) rfl cm_X4_couple wv_L_17 ds_X4_couple rfl rfl (Nat.le_of_ble_eq_true rfl) (by decide) (by decide) dL_couple_7 ?_
  intro v X2 S2 h9
  obtain ⟨e1, z, e2⟩ := hPo v X2 S2 h9
  subst e1; subst e2
  refine g_i2l C _ dL_couple_10 rfl ?_
  refine x_last C pos 0 hX rfl (by decide) (by decide) rfl dL_couple_11 ?_
  refine g_goto C 27 dL_couple_12 (by decide) ?_
  refine g_iconst C 0 dL_couple_27 (by decide) ?_
  exact g_iret C hQ rfl rfl dL_couple_28 (by decide) (by decide) ⟨rfl, z, h9, rfl⟩
set_option maxRecDepth 100000 in
theorem w_coupleT1 (l : Launch) (E : Ev) (X : va_W) (S : HS) {x r : Nat} (hx : isK S 4 x) {p0 p1 p2 : Int32} (hM : CtrT l yX4_couple (Cond.code yX4_couple cX4_couple 7 (some .int)) 8 1 6 E [.ref x, .int p0, .int p1, .int p2] X S xIO) : Ctr l yL_couple (Cond.codeWith yL_couple cL_couple 6 (some .int) [(0, 12, 15, 20), (0, 12, 19, 13), (0, 12, 23, 15)]) 9 1 6 E [.ref x, .int p0, .int p1, .int p2, .ref r] X S (fun v X2 S2 => some (.int 1) = v ∧ X = X2 ∧ S = S2) := by
  refine CtrW.ofG (by decide) [(0, .ref x), (1, .int p0), (2, .int p1), (3, .int p2), (4, .ref r)] rfl (Nat.le_of_ble_eq_true rfl) ?_
  intro p e s m args below meth c A Q C htb hQ
  refine g_aload C 4 dL_couple_0 rfl ?_
  refine g_iconst C 0 dL_couple_2 (by decide) ?_
  refine g_aload_n C 0 dL_couple_3 rfl rfl ?_
  refine g_iload_n C 1 dL_couple_4 rfl rfl ?_
  refine g_iload_n C 2 dL_couple_5 rfl rfl ?_
  refine g_iload_n C 3 dL_couple_6 rfl rfl ?_
  refine g_catchV C [.int p0, .int p1, .int p2] [.int 0, .ref r] hM (recv_at hx.1 (pF_4 hx.2)) rfl cm_X4_couple wv_L_17 ds_X4_couple rfl rfl (Nat.le_of_ble_eq_true rfl) (by decide) (by decide) dL_couple_7 [] ⟨0, 12, 15, 20⟩ [⟨0, 12, 19, 13⟩, ⟨0, 12, 23, 15⟩] (htb.trans rfl) (fun z hz => absurd hz List.not_mem_nil) (by decide) (by decide) kl_L_20 C.z.2.2.2.2.2.2.2.2.2.2.2.2.2.2.2.2.1 (fun q => ?_)
  refine g_astore C [(5, .ref q), (0, .ref x), (1, .int p0), (2, .int p1), (3, .int p2), (4, .ref r)] dL_couple_15 (by decide) rfl ?_
  refine g_iconst C 1 dL_couple_17 (by decide) ?_
  exact g_iret C hQ rfl rfl dL_couple_18 (by decide) (by decide) ⟨rfl, rfl, rfl⟩
set_option maxRecDepth 100000 in
theorem w_coupleT2 (l : Launch) (E : Ev) (X : va_W) (S : HS) {x r : Nat} (hx : isK S 4 x) {p0 p1 p2 : Int32} (hM : CtrT l yX4_couple (Cond.code yX4_couple cX4_couple 7 (some .int)) 8 1 6 E [.ref x, .int p0, .int p1, .int p2] X S xIA) : Ctr l yL_couple (Cond.codeWith yL_couple cL_couple 6 (some .int) [(0, 12, 15, 20), (0, 12, 19, 13), (0, 12, 23, 15)]) 9 1 6 E [.ref x, .int p0, .int p1, .int p2, .ref r] X S (fun v X2 S2 => some (.int 2) = v ∧ X = X2 ∧ S = S2) := by
  refine CtrW.ofG (by decide) [(0, .ref x), (1, .int p0), (2, .int p1), (3, .int p2), (4, .ref r)] rfl (Nat.le_of_ble_eq_true rfl) ?_
  intro p e s m args below meth c A Q C htb hQ
  refine g_aload C 4 dL_couple_0 rfl ?_
  refine g_iconst C 0 dL_couple_2 (by decide) ?_
  refine g_aload_n C 0 dL_couple_3 rfl rfl ?_
  refine g_iload_n C 1 dL_couple_4 rfl rfl ?_
  refine g_iload_n C 2 dL_couple_5 rfl rfl ?_
  refine g_iload_n C 3 dL_couple_6 rfl rfl ?_
  refine g_catchV C [.int p0, .int p1, .int p2] [.int 0, .ref r] hM (recv_at hx.1 (pF_4 hx.2)) rfl cm_X4_couple wv_L_17 ds_X4_couple rfl rfl (Nat.le_of_ble_eq_true rfl) (by decide) (by decide) dL_couple_7 [⟨0, 12, 15, 20⟩] ⟨0, 12, 19, 13⟩ [⟨0, 12, 23, 15⟩] (htb.trans rfl) (fun z hz => by
    rcases List.mem_cons.mp hz with rfl | hz
    · exact Or.inr ⟨by decide, xIO, kl_L_20, C.z.2.2.2.2.2.2.2.2.2.2.2.2.2.2.2.2.2.2.2.1⟩
    exact absurd hz List.not_mem_nil) (by decide) (by decide) kl_L_13 C.z.2.2.2.2.2.2.2.2.2.2.2.2.2.2.2.2.2.1 (fun q => ?_)
  refine g_astore C [(5, .ref q), (0, .ref x), (1, .int p0), (2, .int p1), (3, .int p2), (4, .ref r)] dL_couple_19 (by decide) rfl ?_
  refine g_iconst C 2 dL_couple_21 (by decide) ?_
  exact g_iret C hQ rfl rfl dL_couple_22 (by decide) (by decide) ⟨rfl, rfl, rfl⟩
set_option maxRecDepth 100000 in
theorem w_coupleT3 (l : Launch) (E : Ev) (X : va_W) (S : HS) {x r : Nat} (hx : isK S 4 x) {p0 p1 p2 : Int32} (hM : CtrT l yX4_couple (Cond.code yX4_couple cX4_couple 7 (some .int)) 8 1 6 E [.ref x, .int p0, .int p1, .int p2] X S xIS) : Ctr l yL_couple (Cond.codeWith yL_couple cL_couple 6 (some .int) [(0, 12, 15, 20), (0, 12, 19, 13), (0, 12, 23, 15)]) 9 1 6 E [.ref x, .int p0, .int p1, .int p2, .ref r] X S (fun v X2 S2 => some (.int 3) = v ∧ X = X2 ∧ S = S2) := by
  refine CtrW.ofG (by decide) [(0, .ref x), (1, .int p0), (2, .int p1), (3, .int p2), (4, .ref r)] rfl (Nat.le_of_ble_eq_true rfl) ?_
  intro p e s m args below meth c A Q C htb hQ
  refine g_aload C 4 dL_couple_0 rfl ?_
  refine g_iconst C 0 dL_couple_2 (by decide) ?_
  refine g_aload_n C 0 dL_couple_3 rfl rfl ?_
  refine g_iload_n C 1 dL_couple_4 rfl rfl ?_
  refine g_iload_n C 2 dL_couple_5 rfl rfl ?_
  refine g_iload_n C 3 dL_couple_6 rfl rfl ?_
  refine g_catchV C [.int p0, .int p1, .int p2] [.int 0, .ref r] hM (recv_at hx.1 (pF_4 hx.2)) rfl cm_X4_couple wv_L_17 ds_X4_couple rfl rfl (Nat.le_of_ble_eq_true rfl) (by decide) (by decide) dL_couple_7 [⟨0, 12, 15, 20⟩, ⟨0, 12, 19, 13⟩] ⟨0, 12, 23, 15⟩ [] (htb.trans rfl) (fun z hz => by
    rcases List.mem_cons.mp hz with rfl | hz
    · exact Or.inr ⟨by decide, xIO, kl_L_20, C.z.2.2.2.2.2.2.2.2.2.2.2.2.2.2.2.2.2.2.2.2.1⟩
    rcases List.mem_cons.mp hz with rfl | hz
    · exact Or.inr ⟨by decide, xIA, kl_L_13, C.z.2.2.2.2.2.2.2.2.2.2.2.2.2.2.2.2.2.2.2.2.2.1⟩
    exact absurd hz List.not_mem_nil) (by decide) (by decide) kl_L_15 C.z.2.2.2.2.2.2.2.2.2.2.2.2.2.2.2.2.2.2.1 (fun q => ?_)
  refine g_astore C [(5, .ref q), (0, .ref x), (1, .int p0), (2, .int p1), (3, .int p2), (4, .ref r)] dL_couple_23 (by decide) rfl ?_
  refine g_iconst C 3 dL_couple_25 (by decide) ?_
  exact g_iret C hQ rfl rfl dL_couple_26 (by decide) (by decide) ⟨rfl, rfl, rfl⟩
set_option maxRecDepth 100000 in
theorem w_exclude (l : Launch) (E : Ev) (X : va_W) (S : HS) {x r : Nat} (hx : isK S 4 x) {p0 p1 : Int32} {pos : Nat} {f : Nat → Int64} (hX : X[pos]? = some (r, .inl (E.cA 3, 1, .inr (.inl f)))) {Po : Option Value → va_W → HS → Prop} (hPo : ∀ v X2 S2, Po v X2 S2 → X = X2 ∧ ∃ z, some (.int z) = v) (hM : Ctr l yX4_exclude (Cond.code yX4_exclude cX4_exclude 5 (some .boolean)) 5 0 0 E [.ref x, .int p0, .int p1] X S Po) : Ctr l yL_exclude (Cond.codeWith yL_exclude cL_exclude 5 (some .int) [(0, 17, 20, 20), (0, 17, 24, 13)]) 6 0 0 E [.ref x, .int p0, .int p1, .ref r] X S (Wok X pos r E f cvB Po) := by
  refine CtrW.ofG (by decide) [(0, .ref x), (1, .int p0), (2, .int p1), (3, .ref r)] rfl (Nat.le_of_ble_eq_true rfl) ?_
  intro p e s m args below meth c A Q C htb hQ
  refine g_aload_n C 3 dL_exclude_0 rfl rfl ?_
  refine g_iconst C 0 dL_exclude_1 (by decide) ?_
  refine g_aload_n C 0 dL_exclude_2 rfl rfl ?_
  refine g_iload_n C 1 dL_exclude_3 rfl rfl ?_
  refine g_iload_n C 2 dL_exclude_4 rfl rfl ?_
  refine g_callV C [.int p0, .int p1] [.int 0, .ref r] hM (recv_at hx.1 (pF_4 hx.2)) rfl cm_X4_exclude wv_L_22 ds_X4_exclude rfl rfl (Nat.le_of_ble_eq_true rfl) (by decide) (by decide) dL_exclude_5 ?_
  intro v X2 S2 h9
  obtain ⟨e1, z, e2⟩ := hPo v X2 S2 h9
  subst e1; subst e2
  refine g_if_eq C 15 dL_exclude_8 (by decide) (fun h0 => ?_) (fun h0 => ?_)
  · refine g_lconst C 0 dL_exclude_15 (by decide) ?_
    refine x_last C pos 0 hX rfl (by decide) (by decide) rfl dL_exclude_16 ?_
    refine g_goto C 28 dL_exclude_17 (by decide) ?_
    refine g_iconst C 0 dL_exclude_28 (by decide) ?_
    exact g_iret C hQ rfl rfl dL_exclude_29 (by decide) (by decide) ⟨rfl, z, h9, by rw [show cvB z = 0 from if_pos h0]⟩
  · refine g_lconst C 1 dL_exclude_11 (by decide) ?_
    refine g_goto C 16 dL_exclude_12 (by decide) ?_
    refine x_last C pos 0 hX rfl (by decide) (by decide) rfl dL_exclude_16 ?_
    refine g_goto C 28 dL_exclude_17 (by decide) ?_
    refine g_iconst C 0 dL_exclude_28 (by decide) ?_
    exact g_iret C hQ rfl rfl dL_exclude_29 (by decide) (by decide) ⟨rfl, z, h9, by rw [show cvB z = 1 from if_neg h0]⟩
set_option maxRecDepth 100000 in
theorem w_excludeT1 (l : Launch) (E : Ev) (X : va_W) (S : HS) {x r : Nat} (hx : isK S 4 x) {p0 p1 : Int32} (hM : CtrT l yX4_exclude (Cond.code yX4_exclude cX4_exclude 5 (some .boolean)) 5 1 6 E [.ref x, .int p0, .int p1] X S xIO) : Ctr l yL_exclude (Cond.codeWith yL_exclude cL_exclude 5 (some .int) [(0, 17, 20, 20), (0, 17, 24, 13)]) 6 1 6 E [.ref x, .int p0, .int p1, .ref r] X S (fun v X2 S2 => some (.int 1) = v ∧ X = X2 ∧ S = S2) := by
  refine CtrW.ofG (by decide) [(0, .ref x), (1, .int p0), (2, .int p1), (3, .ref r)] rfl (Nat.le_of_ble_eq_true rfl) ?_
  intro p e s m args below meth c A Q C htb hQ
  refine g_aload_n C 3 dL_exclude_0 rfl rfl ?_
  refine g_iconst C 0 dL_exclude_1 (by decide) ?_
  refine g_aload_n C 0 dL_exclude_2 rfl rfl ?_
  refine g_iload_n C 1 dL_exclude_3 rfl rfl ?_
  refine g_iload_n C 2 dL_exclude_4 rfl rfl ?_
  refine g_catchV C [.int p0, .int p1] [.int 0, .ref r] hM (recv_at hx.1 (pF_4 hx.2)) rfl cm_X4_exclude wv_L_22 ds_X4_exclude rfl rfl (Nat.le_of_ble_eq_true rfl) (by decide) (by decide) dL_exclude_5 [] ⟨0, 17, 20, 20⟩ [⟨0, 17, 24, 13⟩] (htb.trans rfl) (fun z hz => absurd hz List.not_mem_nil) (by decide) (by decide) kl_L_20 C.z.2.2.2.2.2.2.2.2.2.2.2.2.2.2.2.2.1 (fun q => ?_)
  refine g_astore C [(4, .ref q), (0, .ref x), (1, .int p0), (2, .int p1), (3, .ref r)] dL_exclude_20 (by decide) rfl ?_
  refine g_iconst C 1 dL_exclude_22 (by decide) ?_
  exact g_iret C hQ rfl rfl dL_exclude_23 (by decide) (by decide) ⟨rfl, rfl, rfl⟩
set_option maxRecDepth 100000 in
theorem w_excludeT2 (l : Launch) (E : Ev) (X : va_W) (S : HS) {x r : Nat} (hx : isK S 4 x) {p0 p1 : Int32} (hM : CtrT l yX4_exclude (Cond.code yX4_exclude cX4_exclude 5 (some .boolean)) 5 1 6 E [.ref x, .int p0, .int p1] X S xIA) : Ctr l yL_exclude (Cond.codeWith yL_exclude cL_exclude 5 (some .int) [(0, 17, 20, 20), (0, 17, 24, 13)]) 6 1 6 E [.ref x, .int p0, .int p1, .ref r] X S (fun v X2 S2 => some (.int 2) = v ∧ X = X2 ∧ S = S2) := by
  refine CtrW.ofG (by decide) [(0, .ref x), (1, .int p0), (2, .int p1), (3, .ref r)] rfl (Nat.le_of_ble_eq_true rfl) ?_
  intro p e s m args below meth c A Q C htb hQ
  refine g_aload_n C 3 dL_exclude_0 rfl rfl ?_
  refine g_iconst C 0 dL_exclude_1 (by decide) ?_
  refine g_aload_n C 0 dL_exclude_2 rfl rfl ?_
  refine g_iload_n C 1 dL_exclude_3 rfl rfl ?_
  refine g_iload_n C 2 dL_exclude_4 rfl rfl ?_
  refine g_catchV C [.int p0, .int p1] [.int 0, .ref r] hM (recv_at hx.1 (pF_4 hx.2)) rfl cm_X4_exclude wv_L_22 ds_X4_exclude rfl rfl (Nat.le_of_ble_eq_true rfl) (by decide) (by decide) dL_exclude_5 [⟨0, 17, 20, 20⟩] ⟨0, 17, 24, 13⟩ [] (htb.trans rfl) (fun z hz => by
    rcases List.mem_cons.mp hz with rfl | hz
    · exact Or.inr ⟨by decide, xIO, kl_L_20, C.z.2.2.2.2.2.2.2.2.2.2.2.2.2.2.2.2.2.2.2.1⟩
    exact absurd hz List.not_mem_nil) (by decide) (by decide) kl_L_13 C.z.2.2.2.2.2.2.2.2.2.2.2.2.2.2.2.2.2.1 (fun q => ?_)
  refine g_astore C [(4, .ref q), (0, .ref x), (1, .int p0), (2, .int p1), (3, .ref r)] dL_exclude_24 (by decide) rfl ?_
  refine g_iconst C 2 dL_exclude_26 (by decide) ?_
  exact g_iret C hQ rfl rfl dL_exclude_27 (by decide) (by decide) ⟨rfl, rfl, rfl⟩
set_option maxRecDepth 100000 in
theorem w_stage (l : Launch) (E : Ev) (X : va_W) (S : HS) {x r : Nat} (hx : isK S 4 x) {p0 p1 p2 : Int32} {pos : Nat} {f : Nat → Int64} (hX : X[pos]? = some (r, .inl (E.cA 3, 1, .inr (.inl f)))) {Po : Option Value → va_W → HS → Prop} (hPo : ∀ v X2 S2, Po v X2 S2 → X = X2 ∧ ∃ z, some (.int z) = v) (hM : Ctr l yX4_stage (Cond.code yX4_stage cX4_stage 6 (some .int)) 7 2 152 E [.ref x, .int p0, .int p1, .int p2] X S Po) : Ctr l yL_stage (Cond.codeWith yL_stage cL_stage 6 (some .int) [(0, 12, 15, 20), (0, 12, 19, 13), (0, 12, 23, 15)]) 8 2 152 E [.ref x, .int p0, .int p1, .int p2, .ref r] X S (Wok X pos r E f Int32.toInt64 Po) := by
  refine CtrW.ofG (by decide) [(0, .ref x), (1, .int p0), (2, .int p1), (3, .int p2), (4, .ref r)] rfl (Nat.le_of_ble_eq_true rfl) ?_
  intro p e s m args below meth c A Q C htb hQ
  refine g_aload C 4 dL_stage_0 rfl ?_
  refine g_iconst C 0 dL_stage_2 (by decide) ?_
  refine g_aload_n C 0 dL_stage_3 rfl rfl ?_
  refine g_iload_n C 1 dL_stage_4 rfl rfl ?_
  refine g_iload_n C 2 dL_stage_5 rfl rfl ?_
  refine g_iload_n C 3 dL_stage_6 rfl rfl ?_
  refine g_callV C [.int p0, .int p1, .int p2] [.int 0, .ref r] hM (recv_at hx.1 (pF_4 hx.2)) rfl cm_X4_stage wv_L_26 ds_X4_stage rfl rfl (Nat.le_of_ble_eq_true rfl) (by decide) (by decide) dL_stage_7 ?_
  intro v X2 S2 h9
  obtain ⟨e1, z, e2⟩ := hPo v X2 S2 h9
  subst e1; subst e2
  refine g_i2l C _ dL_stage_10 rfl ?_
  refine x_last C pos 0 hX rfl (by decide) (by decide) rfl dL_stage_11 ?_
  refine g_goto C 27 dL_stage_12 (by decide) ?_
  refine g_iconst C 0 dL_stage_27 (by decide) ?_
  exact g_iret C hQ rfl rfl dL_stage_28 (by decide) (by decide) ⟨rfl, z, h9, rfl⟩
set_option maxRecDepth 100000 in
theorem w_stageT1 (l : Launch) (E : Ev) (X : va_W) (S : HS) {x r : Nat} (hx : isK S 4 x) {p0 p1 p2 : Int32} (hM : CtrT l yX4_stage (Cond.code yX4_stage cX4_stage 6 (some .int)) 7 1 6 E [.ref x, .int p0, .int p1, .int p2] X S xIO) : Ctr l yL_stage (Cond.codeWith yL_stage cL_stage 6 (some .int) [(0, 12, 15, 20), (0, 12, 19, 13), (0, 12, 23, 15)]) 8 1 6 E [.ref x, .int p0, .int p1, .int p2, .ref r] X S (fun v X2 S2 => some (.int 1) = v ∧ X = X2 ∧ S = S2) := by
  refine CtrW.ofG (by decide) [(0, .ref x), (1, .int p0), (2, .int p1), (3, .int p2), (4, .ref r)] rfl (Nat.le_of_ble_eq_true rfl) ?_
  intro p e s m args below meth c A Q C htb hQ
  refine g_aload C 4 dL_stage_0 rfl ?_
  refine g_iconst C 0 dL_stage_2 (by decide) ?_
  refine g_aload_n C 0 dL_stage_3 rfl rfl ?_
  refine g_iload_n C 1 dL_stage_4 rfl rfl ?_
  refine g_iload_n C 2 dL_stage_5 rfl rfl ?_
  refine g_iload_n C 3 dL_stage_6 rfl rfl ?_
  refine g_catchV C [.int p0, .int p1, .int p2] [.int 0, .ref r] hM (recv_at hx.1 (pF_4 hx.2)) rfl cm_X4_stage wv_L_26 ds_X4_stage rfl rfl (Nat.le_of_ble_eq_true rfl) (by decide) (by decide) dL_stage_7 [] ⟨0, 12, 15, 20⟩ [⟨0, 12, 19, 13⟩, ⟨0, 12, 23, 15⟩] (htb.trans rfl) (fun z hz => absurd hz List.not_mem_nil) (by decide) (by decide) kl_L_20 C.z.2.2.2.2.2.2.2.2.2.2.2.2.2.2.2.2.1 (fun q => ?_)
  refine g_astore C [(5, .ref q), (0, .ref x), (1, .int p0), (2, .int p1), (3, .int p2), (4, .ref r)] dL_stage_15 (by decide) rfl ?_
  refine g_iconst C 1 dL_stage_17 (by decide) ?_
  exact g_iret C hQ rfl rfl dL_stage_18 (by decide) (by decide) ⟨rfl, rfl, rfl⟩
set_option maxRecDepth 100000 in
theorem w_stageT2 (l : Launch) (E : Ev) (X : va_W) (S : HS) {x r : Nat} (hx : isK S 4 x) {p0 p1 p2 : Int32} (hM : CtrT l yX4_stage (Cond.code yX4_stage cX4_stage 6 (some .int)) 7 1 6 E [.ref x, .int p0, .int p1, .int p2] X S xIA) : Ctr l yL_stage (Cond.codeWith yL_stage cL_stage 6 (some .int) [(0, 12, 15, 20), (0, 12, 19, 13), (0, 12, 23, 15)]) 8 1 6 E [.ref x, .int p0, .int p1, .int p2, .ref r] X S (fun v X2 S2 => some (.int 2) = v ∧ X = X2 ∧ S = S2) := by
  refine CtrW.ofG (by decide) [(0, .ref x), (1, .int p0), (2, .int p1), (3, .int p2), (4, .ref r)] rfl (Nat.le_of_ble_eq_true rfl) ?_
  intro p e s m args below meth c A Q C htb hQ
  refine g_aload C 4 dL_stage_0 rfl ?_
  refine g_iconst C 0 dL_stage_2 (by decide) ?_
  refine g_aload_n C 0 dL_stage_3 rfl rfl ?_
  refine g_iload_n C 1 dL_stage_4 rfl rfl ?_
  refine g_iload_n C 2 dL_stage_5 rfl rfl ?_
  refine g_iload_n C 3 dL_stage_6 rfl rfl ?_
  refine g_catchV C [.int p0, .int p1, .int p2] [.int 0, .ref r] hM (recv_at hx.1 (pF_4 hx.2)) rfl cm_X4_stage wv_L_26 ds_X4_stage rfl rfl (Nat.le_of_ble_eq_true rfl) (by decide) (by decide) dL_stage_7 [⟨0, 12, 15, 20⟩] ⟨0, 12, 19, 13⟩ [⟨0, 12, 23, 15⟩] (htb.trans rfl) (fun z hz => by
    rcases List.mem_cons.mp hz with rfl | hz
    · exact Or.inr ⟨by decide, xIO, kl_L_20, C.z.2.2.2.2.2.2.2.2.2.2.2.2.2.2.2.2.2.2.2.1⟩
    exact absurd hz List.not_mem_nil) (by decide) (by decide) kl_L_13 C.z.2.2.2.2.2.2.2.2.2.2.2.2.2.2.2.2.2.1 (fun q => ?_)
  refine g_astore C [(5, .ref q), (0, .ref x), (1, .int p0), (2, .int p1), (3, .int p2), (4, .ref r)] dL_stage_19 (by decide) rfl ?_
  refine g_iconst C 2 dL_stage_21 (by decide) ?_
  exact g_iret C hQ rfl rfl dL_stage_22 (by decide) (by decide) ⟨rfl, rfl, rfl⟩
set_option maxRecDepth 100000 in
theorem w_stageT3 (l : Launch) (E : Ev) (X : va_W) (S : HS) {x r : Nat} (hx : isK S 4 x) {p0 p1 p2 : Int32} (hM : CtrT l yX4_stage (Cond.code yX4_stage cX4_stage 6 (some .int)) 7 1 6 E [.ref x, .int p0, .int p1, .int p2] X S xIS) : Ctr l yL_stage (Cond.codeWith yL_stage cL_stage 6 (some .int) [(0, 12, 15, 20), (0, 12, 19, 13), (0, 12, 23, 15)]) 8 1 6 E [.ref x, .int p0, .int p1, .int p2, .ref r] X S (fun v X2 S2 => some (.int 3) = v ∧ X = X2 ∧ S = S2) := by
  refine CtrW.ofG (by decide) [(0, .ref x), (1, .int p0), (2, .int p1), (3, .int p2), (4, .ref r)] rfl (Nat.le_of_ble_eq_true rfl) ?_
  intro p e s m args below meth c A Q C htb hQ
  refine g_aload C 4 dL_stage_0 rfl ?_
  refine g_iconst C 0 dL_stage_2 (by decide) ?_
  refine g_aload_n C 0 dL_stage_3 rfl rfl ?_
  refine g_iload_n C 1 dL_stage_4 rfl rfl ?_
  refine g_iload_n C 2 dL_stage_5 rfl rfl ?_
  refine g_iload_n C 3 dL_stage_6 rfl rfl ?_
  refine g_catchV C [.int p0, .int p1, .int p2] [.int 0, .ref r] hM (recv_at hx.1 (pF_4 hx.2)) rfl cm_X4_stage wv_L_26 ds_X4_stage rfl rfl (Nat.le_of_ble_eq_true rfl) (by decide) (by decide) dL_stage_7 [⟨0, 12, 15, 20⟩, ⟨0, 12, 19, 13⟩] ⟨0, 12, 23, 15⟩ [] (htb.trans rfl) (fun z hz => by
    rcases List.mem_cons.mp hz with rfl | hz
    · exact Or.inr ⟨by decide, xIO, kl_L_20, C.z.2.2.2.2.2.2.2.2.2.2.2.2.2.2.2.2.2.2.2.2.1⟩
    rcases List.mem_cons.mp hz with rfl | hz
    · exact Or.inr ⟨by decide, xIA, kl_L_13, C.z.2.2.2.2.2.2.2.2.2.2.2.2.2.2.2.2.2.2.2.2.2.1⟩
    exact absurd hz List.not_mem_nil) (by decide) (by decide) kl_L_15 C.z.2.2.2.2.2.2.2.2.2.2.2.2.2.2.2.2.2.2.1 (fun q => ?_)
  refine g_astore C [(5, .ref q), (0, .ref x), (1, .int p0), (2, .int p1), (3, .int p2), (4, .ref r)] dL_stage_23 (by decide) rfl ?_
  refine g_iconst C 3 dL_stage_25 (by decide) ?_
  exact g_iret C hQ rfl rfl dL_stage_26 (by decide) (by decide) ⟨rfl, rfl, rfl⟩
set_option maxRecDepth 100000 in
theorem w_keep (l : Launch) (E : Ev) (X : va_W) (S : HS) {x r : Nat} (hx : isK S 4 x) {p0 : Int32} {pos : Nat} {f : Nat → Int64} (hX : X[pos]? = some (r, .inl (E.cA 3, 1, .inr (.inl f)))) {Po : Option Value → va_W → HS → Prop} (hPo : ∀ v X2 S2, Po v X2 S2 → X = X2 ∧ ∃ z, some (.int z) = v) (hM : Ctr l yX4_keep (Cond.code yX4_keep cX4_keep 3 (some .int)) 2 0 0 E [.ref x, .int p0] X S Po) : Ctr l yL_keep (Cond.codeWith yL_keep cL_keep 4 (some .int) [(0, 9, 12, 13)]) 3 0 0 E [.ref x, .int p0, .ref r] X S (Wok X pos r E f Int32.toInt64 Po) := by
  refine CtrW.ofG (by decide) [(0, .ref x), (1, .int p0), (2, .ref r)] rfl (Nat.le_of_ble_eq_true rfl) ?_
  intro p e s m args below meth c A Q C htb hQ
  refine g_aload_n C 2 dL_keep_0 rfl rfl ?_
  refine g_iconst C 0 dL_keep_1 (by decide) ?_
  refine g_aload_n C 0 dL_keep_2 rfl rfl ?_
  refine g_iload_n C 1 dL_keep_3 rfl rfl ?_
  refine g_callV C [.int p0] [.int 0, .ref r] hM (recv_at hx.1 (pF_4 hx.2)) rfl cm_X4_keep wv_L_29 ds_X4_keep rfl rfl (Nat.le_of_ble_eq_true rfl) (by decide) (by decide) dL_keep_4 ?_
  intro v X2 S2 h9
  obtain ⟨e1, z, e2⟩ := hPo v X2 S2 h9
  subst e1; subst e2
  refine g_i2l C _ dL_keep_7 rfl ?_
  refine x_last C pos 0 hX rfl (by decide) (by decide) rfl dL_keep_8 ?_
  refine g_goto C 15 dL_keep_9 (by decide) ?_
  refine g_iconst C 0 dL_keep_15 (by decide) ?_
  exact g_iret C hQ rfl rfl dL_keep_16 (by decide) (by decide) ⟨rfl, z, h9, rfl⟩
set_option maxRecDepth 100000 in
theorem w_keepT1 (l : Launch) (E : Ev) (X : va_W) (S : HS) {x r : Nat} (hx : isK S 4 x) {p0 : Int32} (hM : CtrT l yX4_keep (Cond.code yX4_keep cX4_keep 3 (some .int)) 2 1 6 E [.ref x, .int p0] X S xIA) : Ctr l yL_keep (Cond.codeWith yL_keep cL_keep 4 (some .int) [(0, 9, 12, 13)]) 3 1 6 E [.ref x, .int p0, .ref r] X S (fun v X2 S2 => some (.int 1) = v ∧ X = X2 ∧ S = S2) := by
  refine CtrW.ofG (by decide) [(0, .ref x), (1, .int p0), (2, .ref r)] rfl (Nat.le_of_ble_eq_true rfl) ?_
  intro p e s m args below meth c A Q C htb hQ
  refine g_aload_n C 2 dL_keep_0 rfl rfl ?_
  refine g_iconst C 0 dL_keep_1 (by decide) ?_
  refine g_aload_n C 0 dL_keep_2 rfl rfl ?_
  refine g_iload_n C 1 dL_keep_3 rfl rfl ?_
  refine g_catchV C [.int p0] [.int 0, .ref r] hM (recv_at hx.1 (pF_4 hx.2)) rfl cm_X4_keep wv_L_29 ds_X4_keep rfl rfl (Nat.le_of_ble_eq_true rfl) (by decide) (by decide) dL_keep_4 [] ⟨0, 9, 12, 13⟩ [] (htb.trans rfl) (fun z hz => absurd hz List.not_mem_nil) (by decide) (by decide) kl_L_13 C.z.2.2.2.2.2.2.2.2.2.2.2.2.2.2.2.2.2.1 (fun q => ?_)
  refine g_astore_n C [(3, .ref q), (0, .ref x), (1, .int p0), (2, .ref r)] dL_keep_12 rfl (by decide) rfl ?_
  refine g_iconst C 1 dL_keep_13 (by decide) ?_
  exact g_iret C hQ rfl rfl dL_keep_14 (by decide) (by decide) ⟨rfl, rfl, rfl⟩
set_option maxRecDepth 100000 in
theorem w_row (l : Launch) (E : Ev) (X : va_W) (S : HS) {x r : Nat} (hx : isK S 4 x) {p0 p1 : Int32} {pos : Nat} {f : Nat → Int64} (hX : X[pos]? = some (r, .inl (E.cA 3, 1, .inr (.inl f)))) {Po : Option Value → va_W → HS → Prop} (hPo : ∀ v X2 S2, Po v X2 S2 → X = X2 ∧ ∃ z, some (.int z) = v) (hM : Ctr l yX4_row (Cond.code yX4_row cX4_row 3 (some .boolean)) 2 0 0 E [.ref x, .int p0, .int p1] X S Po) : Ctr l yL_row (Cond.codeWith yL_row cL_row 5 (some .int) [(0, 17, 20, 13), (0, 17, 24, 15)]) 3 0 0 E [.ref x, .int p0, .int p1, .ref r] X S (Wok X pos r E f cvB Po) := by
  refine CtrW.ofG (by decide) [(0, .ref x), (1, .int p0), (2, .int p1), (3, .ref r)] rfl (Nat.le_of_ble_eq_true rfl) ?_
  intro p e s m args below meth c A Q C htb hQ
  refine g_aload_n C 3 dL_row_0 rfl rfl ?_
  refine g_iconst C 0 dL_row_1 (by decide) ?_
  refine g_aload_n C 0 dL_row_2 rfl rfl ?_
  refine g_iload_n C 1 dL_row_3 rfl rfl ?_
  refine g_iload_n C 2 dL_row_4 rfl rfl ?_
  refine g_callV C [.int p0, .int p1] [.int 0, .ref r] hM (recv_at hx.1 (pF_4 hx.2)) rfl cm_X4_row wv_L_33 ds_X4_row rfl rfl (Nat.le_of_ble_eq_true rfl) (by decide) (by decide) dL_row_5 ?_
  intro v X2 S2 h9
  obtain ⟨e1, z, e2⟩ := hPo v X2 S2 h9
  subst e1; subst e2
  refine g_if_eq C 15 dL_row_8 (by decide) (fun h0 => ?_) (fun h0 => ?_)
  · refine g_lconst C 0 dL_row_15 (by decide) ?_
    refine x_last C pos 0 hX rfl (by decide) (by decide) rfl dL_row_16 ?_
    refine g_goto C 28 dL_row_17 (by decide) ?_
    refine g_iconst C 0 dL_row_28 (by decide) ?_
    exact g_iret C hQ rfl rfl dL_row_29 (by decide) (by decide) ⟨rfl, z, h9, by rw [show cvB z = 0 from if_pos h0]⟩
  · refine g_lconst C 1 dL_row_11 (by decide) ?_
    refine g_goto C 16 dL_row_12 (by decide) ?_
    refine x_last C pos 0 hX rfl (by decide) (by decide) rfl dL_row_16 ?_
    refine g_goto C 28 dL_row_17 (by decide) ?_
    refine g_iconst C 0 dL_row_28 (by decide) ?_
    exact g_iret C hQ rfl rfl dL_row_29 (by decide) (by decide) ⟨rfl, z, h9, by rw [show cvB z = 1 from if_neg h0]⟩
set_option maxRecDepth 100000 in
theorem w_rowT1 (l : Launch) (E : Ev) (X : va_W) (S : HS) {x r : Nat} (hx : isK S 4 x) {p0 p1 : Int32} (hM : CtrT l yX4_row (Cond.code yX4_row cX4_row 3 (some .boolean)) 2 1 6 E [.ref x, .int p0, .int p1] X S xIA) : Ctr l yL_row (Cond.codeWith yL_row cL_row 5 (some .int) [(0, 17, 20, 13), (0, 17, 24, 15)]) 3 1 6 E [.ref x, .int p0, .int p1, .ref r] X S (fun v X2 S2 => some (.int 1) = v ∧ X = X2 ∧ S = S2) := by
  refine CtrW.ofG (by decide) [(0, .ref x), (1, .int p0), (2, .int p1), (3, .ref r)] rfl (Nat.le_of_ble_eq_true rfl) ?_
  intro p e s m args below meth c A Q C htb hQ
  refine g_aload_n C 3 dL_row_0 rfl rfl ?_
  refine g_iconst C 0 dL_row_1 (by decide) ?_
  refine g_aload_n C 0 dL_row_2 rfl rfl ?_
  refine g_iload_n C 1 dL_row_3 rfl rfl ?_
  refine g_iload_n C 2 dL_row_4 rfl rfl ?_
  refine g_catchV C [.int p0, .int p1] [.int 0, .ref r] hM (recv_at hx.1 (pF_4 hx.2)) rfl cm_X4_row wv_L_33 ds_X4_row rfl rfl (Nat.le_of_ble_eq_true rfl) (by decide) (by decide) dL_row_5 [] ⟨0, 17, 20, 13⟩ [⟨0, 17, 24, 15⟩] (htb.trans rfl) (fun z hz => absurd hz List.not_mem_nil) (by decide) (by decide) kl_L_13 C.z.2.2.2.2.2.2.2.2.2.2.2.2.2.2.2.2.2.1 (fun q => ?_)
  refine g_astore C [(4, .ref q), (0, .ref x), (1, .int p0), (2, .int p1), (3, .ref r)] dL_row_20 (by decide) rfl ?_
  refine g_iconst C 1 dL_row_22 (by decide) ?_
  exact g_iret C hQ rfl rfl dL_row_23 (by decide) (by decide) ⟨rfl, rfl, rfl⟩
set_option maxRecDepth 100000 in
theorem w_rowT2 (l : Launch) (E : Ev) (X : va_W) (S : HS) {x r : Nat} (hx : isK S 4 x) {p0 p1 : Int32} (hM : CtrT l yX4_row (Cond.code yX4_row cX4_row 3 (some .boolean)) 2 1 6 E [.ref x, .int p0, .int p1] X S xIS) : Ctr l yL_row (Cond.codeWith yL_row cL_row 5 (some .int) [(0, 17, 20, 13), (0, 17, 24, 15)]) 3 1 6 E [.ref x, .int p0, .int p1, .ref r] X S (fun v X2 S2 => some (.int 2) = v ∧ X = X2 ∧ S = S2) := by
  refine CtrW.ofG (by decide) [(0, .ref x), (1, .int p0), (2, .int p1), (3, .ref r)] rfl (Nat.le_of_ble_eq_true rfl) ?_
  intro p e s m args below meth c A Q C htb hQ
  refine g_aload_n C 3 dL_row_0 rfl rfl ?_
  refine g_iconst C 0 dL_row_1 (by decide) ?_
  refine g_aload_n C 0 dL_row_2 rfl rfl ?_
  refine g_iload_n C 1 dL_row_3 rfl rfl ?_
  refine g_iload_n C 2 dL_row_4 rfl rfl ?_
  refine g_catchV C [.int p0, .int p1] [.int 0, .ref r] hM (recv_at hx.1 (pF_4 hx.2)) rfl cm_X4_row wv_L_33 ds_X4_row rfl rfl (Nat.le_of_ble_eq_true rfl) (by decide) (by decide) dL_row_5 [⟨0, 17, 20, 13⟩] ⟨0, 17, 24, 15⟩ [] (htb.trans rfl) (fun z hz => by
    rcases List.mem_cons.mp hz with rfl | hz
    · exact Or.inr ⟨by decide, xIA, kl_L_13, C.z.2.2.2.2.2.2.2.2.2.2.2.2.2.2.2.2.2.2.2.2.2.1⟩
    exact absurd hz List.not_mem_nil) (by decide) (by decide) kl_L_15 C.z.2.2.2.2.2.2.2.2.2.2.2.2.2.2.2.2.2.2.1 (fun q => ?_)
  refine g_astore C [(4, .ref q), (0, .ref x), (1, .int p0), (2, .int p1), (3, .ref r)] dL_row_24 (by decide) rfl ?_
  refine g_iconst C 2 dL_row_26 (by decide) ?_
  exact g_iret C hQ rfl rfl dL_row_27 (by decide) (by decide) ⟨rfl, rfl, rfl⟩
set_option maxRecDepth 100000 in
theorem w_run (l : Launch) (E : Ev) (X : va_W) (S : HS) {x r : Nat} (hx : isK S 4 x) {p0 p1 : Int32} {pos : Nat} {f : Nat → Int64} (hX : X[pos]? = some (r, .inl (E.cA 3, 1, .inr (.inl f)))) {Po : Option Value → va_W → HS → Prop} (hPo : ∀ v X2 S2, Po v X2 S2 → X = X2 ∧ ∃ z, some (.int z) = v) (hM : Ctr l yX4_run (Cond.code yX4_run cX4_run 5 (some .int)) 7 0 0 E [.ref x, .int p0, .int p1] X S Po) : Ctr l yL_run (Cond.codeWith yL_run cL_run 5 (some .int) [(0, 10, 13, 13)]) 8 0 0 E [.ref x, .int p0, .int p1, .ref r] X S (Wok X pos r E f Int32.toInt64 Po) := by
  refine CtrW.ofG (by decide) [(0, .ref x), (1, .int p0), (2, .int p1), (3, .ref r)] rfl (Nat.le_of_ble_eq_true rfl) ?_
  intro p e s m args below meth c A Q C htb hQ
  refine g_aload_n C 3 dL_run_0 rfl rfl ?_
  refine g_iconst C 0 dL_run_1 (by decide) ?_
  refine g_aload_n C 0 dL_run_2 rfl rfl ?_
  refine g_iload_n C 1 dL_run_3 rfl rfl ?_
  refine g_iload_n C 2 dL_run_4 rfl rfl ?_
  refine g_callV C [.int p0, .int p1] [.int 0, .ref r] hM (recv_at hx.1 (pF_4 hx.2)) rfl cm_X4_run wv_L_36 ds_X4_run rfl rfl (Nat.le_of_ble_eq_true rfl) (by decide) (by decide) dL_run_5 ?_
  intro v X2 S2 h9
  obtain ⟨e1, z, e2⟩ := hPo v X2 S2 h9
  subst e1; subst e2
  refine g_i2l C _ dL_run_8 rfl ?_
  refine x_last C pos 0 hX rfl (by decide) (by decide) rfl dL_run_9 ?_
  refine g_goto C 17 dL_run_10 (by decide) ?_
  refine g_iconst C 0 dL_run_17 (by decide) ?_
  exact g_iret C hQ rfl rfl dL_run_18 (by decide) (by decide) ⟨rfl, z, h9, rfl⟩
set_option maxRecDepth 100000 in
theorem w_runT1 (l : Launch) (E : Ev) (X : va_W) (S : HS) {x r : Nat} (hx : isK S 4 x) {p0 p1 : Int32} (hM : CtrT l yX4_run (Cond.code yX4_run cX4_run 5 (some .int)) 7 1 6 E [.ref x, .int p0, .int p1] X S xIA) : Ctr l yL_run (Cond.codeWith yL_run cL_run 5 (some .int) [(0, 10, 13, 13)]) 8 1 6 E [.ref x, .int p0, .int p1, .ref r] X S (fun v X2 S2 => some (.int 1) = v ∧ X = X2 ∧ S = S2) := by
  refine CtrW.ofG (by decide) [(0, .ref x), (1, .int p0), (2, .int p1), (3, .ref r)] rfl (Nat.le_of_ble_eq_true rfl) ?_
  intro p e s m args below meth c A Q C htb hQ
  refine g_aload_n C 3 dL_run_0 rfl rfl ?_
  refine g_iconst C 0 dL_run_1 (by decide) ?_
  refine g_aload_n C 0 dL_run_2 rfl rfl ?_
  refine g_iload_n C 1 dL_run_3 rfl rfl ?_
  refine g_iload_n C 2 dL_run_4 rfl rfl ?_
  refine g_catchV C [.int p0, .int p1] [.int 0, .ref r] hM (recv_at hx.1 (pF_4 hx.2)) rfl cm_X4_run wv_L_36 ds_X4_run rfl rfl (Nat.le_of_ble_eq_true rfl) (by decide) (by decide) dL_run_5 [] ⟨0, 10, 13, 13⟩ [] (htb.trans rfl) (fun z hz => absurd hz List.not_mem_nil) (by decide) (by decide) kl_L_13 C.z.2.2.2.2.2.2.2.2.2.2.2.2.2.2.2.2.2.1 (fun q => ?_)
  refine g_astore C [(4, .ref q), (0, .ref x), (1, .int p0), (2, .int p1), (3, .ref r)] dL_run_13 (by decide) rfl ?_
  refine g_iconst C 1 dL_run_15 (by decide) ?_
  exact g_iret C hQ rfl rfl dL_run_16 (by decide) (by decide) ⟨rfl, rfl, rfl⟩
set_option maxRecDepth 100000 in
theorem w_early (l : Launch) (E : Ev) (X : va_W) (S : HS) {x r : Nat} (hx : isK S 4 x) {p0 : Int32} {pos : Nat} {f : Nat → Int64} (hX : X[pos]? = some (r, .inl (E.cA 3, 1, .inr (.inl f)))) {Po : Option Value → va_W → HS → Prop} (hPo : ∀ v X2 S2, Po v X2 S2 → X = X2 ∧ ∃ z, some (.int z) = v) (hM : Ctr l yX4_early (Cond.code yX4_early cX4_early 2 (some .int)) 5 0 0 E [.ref x, .int p0] X S Po) : Ctr l yL_early (Cond.codeWith yL_early cL_early 4 (some .int) [(0, 9, 12, 20)]) 6 0 0 E [.ref x, .int p0, .ref r] X S (Wok X pos r E f Int32.toInt64 Po) := by
  refine CtrW.ofG (by decide) [(0, .ref x), (1, .int p0), (2, .ref r)] rfl (Nat.le_of_ble_eq_true rfl) ?_
  intro p e s m args below meth c A Q C htb hQ
  refine g_aload_n C 2 dL_early_0 rfl rfl ?_
  refine g_iconst C 0 dL_early_1 (by decide) ?_
  refine g_aload_n C 0 dL_early_2 rfl rfl ?_
  refine g_iload_n C 1 dL_early_3 rfl rfl ?_
  refine g_callV C [.int p0] [.int 0, .ref r] hM (recv_at hx.1 (pF_4 hx.2)) rfl cm_X4_early wv_L_40 ds_X4_early rfl rfl (Nat.le_of_ble_eq_true rfl) (by decide) (by decide) dL_early_4 ?_
  intro v X2 S2 h9
  obtain ⟨e1, z, e2⟩ := hPo v X2 S2 h9
  subst e1; subst e2
  refine g_i2l C _ dL_early_7 rfl ?_
  refine x_last C pos 0 hX rfl (by decide) (by decide) rfl dL_early_8 ?_
  refine g_goto C 15 dL_early_9 (by decide) ?_
  refine g_iconst C 0 dL_early_15 (by decide) ?_
  exact g_iret C hQ rfl rfl dL_early_16 (by decide) (by decide) ⟨rfl, z, h9, rfl⟩
set_option maxRecDepth 100000 in
theorem w_earlyT1 (l : Launch) (E : Ev) (X : va_W) (S : HS) {x r : Nat} (hx : isK S 4 x) {p0 : Int32} (hM : CtrT l yX4_early (Cond.code yX4_early cX4_early 2 (some .int)) 5 1 6 E [.ref x, .int p0] X S xIO) : Ctr l yL_early (Cond.codeWith yL_early cL_early 4 (some .int) [(0, 9, 12, 20)]) 6 1 6 E [.ref x, .int p0, .ref r] X S (fun v X2 S2 => some (.int 1) = v ∧ X = X2 ∧ S = S2) := by
  refine CtrW.ofG (by decide) [(0, .ref x), (1, .int p0), (2, .ref r)] rfl (Nat.le_of_ble_eq_true rfl) ?_
  intro p e s m args below meth c A Q C htb hQ
  refine g_aload_n C 2 dL_early_0 rfl rfl ?_
  refine g_iconst C 0 dL_early_1 (by decide) ?_
  refine g_aload_n C 0 dL_early_2 rfl rfl ?_
  refine g_iload_n C 1 dL_early_3 rfl rfl ?_
  refine g_catchV C [.int p0] [.int 0, .ref r] hM (recv_at hx.1 (pF_4 hx.2)) rfl cm_X4_early wv_L_40 ds_X4_early rfl rfl (Nat.le_of_ble_eq_true rfl) (by decide) (by decide) dL_early_4 [] ⟨0, 9, 12, 20⟩ [] (htb.trans rfl) (fun z hz => absurd hz List.not_mem_nil) (by decide) (by decide) kl_L_20 C.z.2.2.2.2.2.2.2.2.2.2.2.2.2.2.2.2.1 (fun q => ?_)
  refine g_astore_n C [(3, .ref q), (0, .ref x), (1, .int p0), (2, .ref r)] dL_early_12 rfl (by decide) rfl ?_
  refine g_iconst C 1 dL_early_13 (by decide) ?_
  exact g_iret C hQ rfl rfl dL_early_14 (by decide) (by decide) ⟨rfl, rfl, rfl⟩
set_option maxRecDepth 100000 in
theorem w_late (l : Launch) (E : Ev) (X : va_W) (S : HS) {x r : Nat} (hx : isK S 4 x) {p0 : Int32} {pos : Nat} {f : Nat → Int64} (hX : X[pos]? = some (r, .inl (E.cA 3, 1, .inr (.inl f)))) {Po : Option Value → va_W → HS → Prop} (hPo : ∀ v X2 S2, Po v X2 S2 → X = X2 ∧ ∃ z, some (.int z) = v) (hM : Ctr l yX4_late (Cond.code yX4_late cX4_late 2 (some .int)) 5 0 0 E [.ref x, .int p0] X S Po) : Ctr l yL_late (Cond.codeWith yL_late cL_late 4 (some .int) [(0, 9, 12, 20)]) 6 0 0 E [.ref x, .int p0, .ref r] X S (Wok X pos r E f Int32.toInt64 Po) := by
  refine CtrW.ofG (by decide) [(0, .ref x), (1, .int p0), (2, .ref r)] rfl (Nat.le_of_ble_eq_true rfl) ?_
  intro p e s m args below meth c A Q C htb hQ
  refine g_aload_n C 2 dL_late_0 rfl rfl ?_
  refine g_iconst C 0 dL_late_1 (by decide) ?_
  refine g_aload_n C 0 dL_late_2 rfl rfl ?_
  refine g_iload_n C 1 dL_late_3 rfl rfl ?_
  refine g_callV C [.int p0] [.int 0, .ref r] hM (recv_at hx.1 (pF_4 hx.2)) rfl cm_X4_late wv_L_43 ds_X4_late rfl rfl (Nat.le_of_ble_eq_true rfl) (by decide) (by decide) dL_late_4 ?_
  intro v X2 S2 h9
  obtain ⟨e1, z, e2⟩ := hPo v X2 S2 h9
  subst e1; subst e2
  refine g_i2l C _ dL_late_7 rfl ?_
  refine x_last C pos 0 hX rfl (by decide) (by decide) rfl dL_late_8 ?_
  refine g_goto C 15 dL_late_9 (by decide) ?_
  refine g_iconst C 0 dL_late_15 (by decide) ?_
  exact g_iret C hQ rfl rfl dL_late_16 (by decide) (by decide) ⟨rfl, z, h9, rfl⟩
set_option maxRecDepth 100000 in
theorem w_lateT1 (l : Launch) (E : Ev) (X : va_W) (S : HS) {x r : Nat} (hx : isK S 4 x) {p0 : Int32} (hM : CtrT l yX4_late (Cond.code yX4_late cX4_late 2 (some .int)) 5 1 6 E [.ref x, .int p0] X S xIO) : Ctr l yL_late (Cond.codeWith yL_late cL_late 4 (some .int) [(0, 9, 12, 20)]) 6 1 6 E [.ref x, .int p0, .ref r] X S (fun v X2 S2 => some (.int 1) = v ∧ X = X2 ∧ S = S2) := by
  refine CtrW.ofG (by decide) [(0, .ref x), (1, .int p0), (2, .ref r)] rfl (Nat.le_of_ble_eq_true rfl) ?_
  intro p e s m args below meth c A Q C htb hQ
  refine g_aload_n C 2 dL_late_0 rfl rfl ?_
  refine g_iconst C 0 dL_late_1 (by decide) ?_
  refine g_aload_n C 0 dL_late_2 rfl rfl ?_
  refine g_iload_n C 1 dL_late_3 rfl rfl ?_
  refine g_catchV C [.int p0] [.int 0, .ref r] hM (recv_at hx.1 (pF_4 hx.2)) rfl cm_X4_late wv_L_43 ds_X4_late rfl rfl (Nat.le_of_ble_eq_true rfl) (by decide) (by decide) dL_late_4 [] ⟨0, 9, 12, 20⟩ [] (htb.trans rfl) (fun z hz => absurd hz List.not_mem_nil) (by decide) (by decide) kl_L_20 C.z.2.2.2.2.2.2.2.2.2.2.2.2.2.2.2.2.1 (fun q => ?_)
  refine g_astore_n C [(3, .ref q), (0, .ref x), (1, .int p0), (2, .ref r)] dL_late_12 rfl (by decide) rfl ?_
  refine g_iconst C 1 dL_late_13 (by decide) ?_
  exact g_iret C hQ rfl rfl dL_late_14 (by decide) (by decide) ⟨rfl, rfl, rfl⟩
set_option maxRecDepth 100000 in
theorem w_added (l : Launch) (E : Ev) (X : va_W) (S : HS) {x r : Nat} (hx : isK S 4 x) {p0 : Int32} {pos : Nat} {f : Nat → Int64} (hX : X[pos]? = some (r, .inl (E.cA 3, 1, .inr (.inl f)))) {Po : Option Value → va_W → HS → Prop} (hPo : ∀ v X2 S2, Po v X2 S2 → X = X2 ∧ ∃ z, some (.int z) = v) (hM : Ctr l yX4_added (Cond.code yX4_added cX4_added 2 (some .int)) 5 0 0 E [.ref x, .int p0] X S Po) : Ctr l yL_added (Cond.codeWith yL_added cL_added 4 (some .int) [(0, 9, 12, 20)]) 6 0 0 E [.ref x, .int p0, .ref r] X S (Wok X pos r E f Int32.toInt64 Po) := by
  refine CtrW.ofG (by decide) [(0, .ref x), (1, .int p0), (2, .ref r)] rfl (Nat.le_of_ble_eq_true rfl) ?_
  intro p e s m args below meth c A Q C htb hQ
  refine g_aload_n C 2 dL_added_0 rfl rfl ?_
  refine g_iconst C 0 dL_added_1 (by decide) ?_
  refine g_aload_n C 0 dL_added_2 rfl rfl ?_
  refine g_iload_n C 1 dL_added_3 rfl rfl ?_
  refine g_callV C [.int p0] [.int 0, .ref r] hM (recv_at hx.1 (pF_4 hx.2)) rfl cm_X4_added wv_L_46 ds_X4_added rfl rfl (Nat.le_of_ble_eq_true rfl) (by decide) (by decide) dL_added_4 ?_
  intro v X2 S2 h9
  obtain ⟨e1, z, e2⟩ := hPo v X2 S2 h9
  subst e1; subst e2
  refine g_i2l C _ dL_added_7 rfl ?_
  refine x_last C pos 0 hX rfl (by decide) (by decide) rfl dL_added_8 ?_
  refine g_goto C 15 dL_added_9 (by decide) ?_
  refine g_iconst C 0 dL_added_15 (by decide) ?_
  exact g_iret C hQ rfl rfl dL_added_16 (by decide) (by decide) ⟨rfl, z, h9, rfl⟩
set_option maxRecDepth 100000 in
theorem w_addedT1 (l : Launch) (E : Ev) (X : va_W) (S : HS) {x r : Nat} (hx : isK S 4 x) {p0 : Int32} (hM : CtrT l yX4_added (Cond.code yX4_added cX4_added 2 (some .int)) 5 1 6 E [.ref x, .int p0] X S xIO) : Ctr l yL_added (Cond.codeWith yL_added cL_added 4 (some .int) [(0, 9, 12, 20)]) 6 1 6 E [.ref x, .int p0, .ref r] X S (fun v X2 S2 => some (.int 1) = v ∧ X = X2 ∧ S = S2) := by
  refine CtrW.ofG (by decide) [(0, .ref x), (1, .int p0), (2, .ref r)] rfl (Nat.le_of_ble_eq_true rfl) ?_
  intro p e s m args below meth c A Q C htb hQ
  refine g_aload_n C 2 dL_added_0 rfl rfl ?_
  refine g_iconst C 0 dL_added_1 (by decide) ?_
  refine g_aload_n C 0 dL_added_2 rfl rfl ?_
  refine g_iload_n C 1 dL_added_3 rfl rfl ?_
  refine g_catchV C [.int p0] [.int 0, .ref r] hM (recv_at hx.1 (pF_4 hx.2)) rfl cm_X4_added wv_L_46 ds_X4_added rfl rfl (Nat.le_of_ble_eq_true rfl) (by decide) (by decide) dL_added_4 [] ⟨0, 9, 12, 20⟩ [] (htb.trans rfl) (fun z hz => absurd hz List.not_mem_nil) (by decide) (by decide) kl_L_20 C.z.2.2.2.2.2.2.2.2.2.2.2.2.2.2.2.2.1 (fun q => ?_)
  refine g_astore_n C [(3, .ref q), (0, .ref x), (1, .int p0), (2, .ref r)] dL_added_12 rfl (by decide) rfl ?_
  refine g_iconst C 1 dL_added_13 (by decide) ?_
  exact g_iret C hQ rfl rfl dL_added_14 (by decide) (by decide) ⟨rfl, rfl, rfl⟩
set_option maxRecDepth 100000 in
theorem w_changed (l : Launch) (E : Ev) (X : va_W) (S : HS) {x r : Nat} (hx : isK S 4 x) {p0 : Int32} {pos : Nat} {f : Nat → Int64} (hX : X[pos]? = some (r, .inl (E.cA 3, 1, .inr (.inl f)))) {Po : Option Value → va_W → HS → Prop} (hPo : ∀ v X2 S2, Po v X2 S2 → X = X2 ∧ ∃ z, some (.int z) = v) (hM : Ctr l yX4_changed (Cond.code yX4_changed cX4_changed 2 (some .int)) 2 0 0 E [.ref x, .int p0] X S Po) : Ctr l yL_changed (Cond.codeWith yL_changed cL_changed 4 (some .int) [(0, 9, 12, 20)]) 3 0 0 E [.ref x, .int p0, .ref r] X S (Wok X pos r E f Int32.toInt64 Po) := by
  refine CtrW.ofG (by decide) [(0, .ref x), (1, .int p0), (2, .ref r)] rfl (Nat.le_of_ble_eq_true rfl) ?_
  intro p e s m args below meth c A Q C htb hQ
  refine g_aload_n C 2 dL_changed_0 rfl rfl ?_
  refine g_iconst C 0 dL_changed_1 (by decide) ?_
  refine g_aload_n C 0 dL_changed_2 rfl rfl ?_
  refine g_iload_n C 1 dL_changed_3 rfl rfl ?_
  refine g_callV C [.int p0] [.int 0, .ref r] hM (recv_at hx.1 (pF_4 hx.2)) rfl cm_X4_changed wv_L_49 ds_X4_changed rfl rfl (Nat.le_of_ble_eq_true rfl) (by decide) (by decide) dL_changed_4 ?_
  intro v X2 S2 h9
  obtain ⟨e1, z, e2⟩ := hPo v X2 S2 h9
  subst e1; subst e2
  refine g_i2l C _ dL_changed_7 rfl ?_
  refine x_last C pos 0 hX rfl (by decide) (by decide) rfl dL_changed_8 ?_
  refine g_goto C 15 dL_changed_9 (by decide) ?_
  refine g_iconst C 0 dL_changed_15 (by decide) ?_
  exact g_iret C hQ rfl rfl dL_changed_16 (by decide) (by decide) ⟨rfl, z, h9, rfl⟩
set_option maxRecDepth 100000 in
theorem w_changedT1 (l : Launch) (E : Ev) (X : va_W) (S : HS) {x r : Nat} (hx : isK S 4 x) {p0 : Int32} (hM : CtrT l yX4_changed (Cond.code yX4_changed cX4_changed 2 (some .int)) 2 1 6 E [.ref x, .int p0] X S xIO) : Ctr l yL_changed (Cond.codeWith yL_changed cL_changed 4 (some .int) [(0, 9, 12, 20)]) 3 1 6 E [.ref x, .int p0, .ref r] X S (fun v X2 S2 => some (.int 1) = v ∧ X = X2 ∧ S = S2) := by
  refine CtrW.ofG (by decide) [(0, .ref x), (1, .int p0), (2, .ref r)] rfl (Nat.le_of_ble_eq_true rfl) ?_
  intro p e s m args below meth c A Q C htb hQ
  refine g_aload_n C 2 dL_changed_0 rfl rfl ?_
  refine g_iconst C 0 dL_changed_1 (by decide) ?_
  refine g_aload_n C 0 dL_changed_2 rfl rfl ?_
  refine g_iload_n C 1 dL_changed_3 rfl rfl ?_
  refine g_catchV C [.int p0] [.int 0, .ref r] hM (recv_at hx.1 (pF_4 hx.2)) rfl cm_X4_changed wv_L_49 ds_X4_changed rfl rfl (Nat.le_of_ble_eq_true rfl) (by decide) (by decide) dL_changed_4 [] ⟨0, 9, 12, 20⟩ [] (htb.trans rfl) (fun z hz => absurd hz List.not_mem_nil) (by decide) (by decide) kl_L_20 C.z.2.2.2.2.2.2.2.2.2.2.2.2.2.2.2.2.1 (fun q => ?_)
  refine g_astore_n C [(3, .ref q), (0, .ref x), (1, .int p0), (2, .ref r)] dL_changed_12 rfl (by decide) rfl ?_
  refine g_iconst C 1 dL_changed_13 (by decide) ?_
  exact g_iret C hQ rfl rfl dL_changed_14 (by decide) (by decide) ⟨rfl, rfl, rfl⟩
set_option maxRecDepth 100000 in
theorem w_source (l : Launch) (E : Ev) (X : va_W) (S : HS) {x r : Nat} (hx : isK S 4 x) {p0 p1 : Int32} {pos : Nat} {f : Nat → Int64} (hX : X[pos]? = some (r, .inl (E.cA 3, 1, .inr (.inl f)))) {Po : Option Value → va_W → HS → Prop} (hPo : ∀ v X2 S2, Po v X2 S2 → X = X2 ∧ ∃ z, some (.int z) = v) (hM : Ctr l yX4_source (Cond.code yX4_source cX4_source 4 (some .int)) 5 0 0 E [.ref x, .int p0, .int p1] X S Po) : Ctr l yL_source (Cond.codeWith yL_source cL_source 5 (some .int) [(0, 10, 13, 20)]) 6 0 0 E [.ref x, .int p0, .int p1, .ref r] X S (Wok X pos r E f Int32.toInt64 Po) := by
  refine CtrW.ofG (by decide) [(0, .ref x), (1, .int p0), (2, .int p1), (3, .ref r)] rfl (Nat.le_of_ble_eq_true rfl) ?_
  intro p e s m args below meth c A Q C htb hQ
  refine g_aload_n C 3 dL_source_0 rfl rfl ?_
  refine g_iconst C 0 dL_source_1 (by decide) ?_
  refine g_aload_n C 0 dL_source_2 rfl rfl ?_
  refine g_iload_n C 1 dL_source_3 rfl rfl ?_
  refine g_iload_n C 2 dL_source_4 rfl rfl ?_
  refine g_callV C [.int p0, .int p1] [.int 0, .ref r] hM (recv_at hx.1 (pF_4 hx.2)) rfl cm_X4_source wv_L_52 ds_X4_source rfl rfl (Nat.le_of_ble_eq_true rfl) (by decide) (by decide) dL_source_5 ?_
  intro v X2 S2 h9
  obtain ⟨e1, z, e2⟩ := hPo v X2 S2 h9
  subst e1; subst e2
  refine g_i2l C _ dL_source_8 rfl ?_
  refine x_last C pos 0 hX rfl (by decide) (by decide) rfl dL_source_9 ?_
  refine g_goto C 17 dL_source_10 (by decide) ?_
  refine g_iconst C 0 dL_source_17 (by decide) ?_
  exact g_iret C hQ rfl rfl dL_source_18 (by decide) (by decide) ⟨rfl, z, h9, rfl⟩
set_option maxRecDepth 100000 in
theorem w_sourceT1 (l : Launch) (E : Ev) (X : va_W) (S : HS) {x r : Nat} (hx : isK S 4 x) {p0 p1 : Int32} (hM : CtrT l yX4_source (Cond.code yX4_source cX4_source 4 (some .int)) 5 1 6 E [.ref x, .int p0, .int p1] X S xIO) : Ctr l yL_source (Cond.codeWith yL_source cL_source 5 (some .int) [(0, 10, 13, 20)]) 6 1 6 E [.ref x, .int p0, .int p1, .ref r] X S (fun v X2 S2 => some (.int 1) = v ∧ X = X2 ∧ S = S2) := by
  refine CtrW.ofG (by decide) [(0, .ref x), (1, .int p0), (2, .int p1), (3, .ref r)] rfl (Nat.le_of_ble_eq_true rfl) ?_
  intro p e s m args below meth c A Q C htb hQ
  refine g_aload_n C 3 dL_source_0 rfl rfl ?_
  refine g_iconst C 0 dL_source_1 (by decide) ?_
  refine g_aload_n C 0 dL_source_2 rfl rfl ?_
  refine g_iload_n C 1 dL_source_3 rfl rfl ?_
  refine g_iload_n C 2 dL_source_4 rfl rfl ?_
  refine g_catchV C [.int p0, .int p1] [.int 0, .ref r] hM (recv_at hx.1 (pF_4 hx.2)) rfl cm_X4_source wv_L_52 ds_X4_source rfl rfl (Nat.le_of_ble_eq_true rfl) (by decide) (by decide) dL_source_5 [] ⟨0, 10, 13, 20⟩ [] (htb.trans rfl) (fun z hz => absurd hz List.not_mem_nil) (by decide) (by decide) kl_L_20 C.z.2.2.2.2.2.2.2.2.2.2.2.2.2.2.2.2.1 (fun q => ?_)
  refine g_astore C [(4, .ref q), (0, .ref x), (1, .int p0), (2, .int p1), (3, .ref r)] dL_source_13 (by decide) rfl ?_
  refine g_iconst C 1 dL_source_15 (by decide) ?_
  exact g_iret C hQ rfl rfl dL_source_16 (by decide) (by decide) ⟨rfl, rfl, rfl⟩
set_option maxRecDepth 100000 in
theorem w_height (l : Launch) (E : Ev) (X : va_W) (S : HS) {x r : Nat} (hx : isK S 4 x) {p0 : Int32} {pos : Nat} {f : Nat → Int64} (hX : X[pos]? = some (r, .inl (E.cA 3, 1, .inr (.inl f)))) {Po : Option Value → va_W → HS → Prop} (hPo : ∀ v X2 S2, Po v X2 S2 → X = X2 ∧ ∃ z, some (.int z) = v) (hM : Ctr l yX4_height (Cond.code yX4_height cX4_height 2 (some .int)) 5 0 0 E [.ref x, .int p0] X S Po) : Ctr l yL_height (Cond.codeWith yL_height cL_height 4 (some .int) [(0, 9, 12, 20)]) 6 0 0 E [.ref x, .int p0, .ref r] X S (Wok X pos r E f Int32.toInt64 Po) := by
  refine CtrW.ofG (by decide) [(0, .ref x), (1, .int p0), (2, .ref r)] rfl (Nat.le_of_ble_eq_true rfl) ?_
  intro p e s m args below meth c A Q C htb hQ
  refine g_aload_n C 2 dL_height_0 rfl rfl ?_
  refine g_iconst C 0 dL_height_1 (by decide) ?_
  refine g_aload_n C 0 dL_height_2 rfl rfl ?_
  refine g_iload_n C 1 dL_height_3 rfl rfl ?_
  refine g_callV C [.int p0] [.int 0, .ref r] hM (recv_at hx.1 (pF_4 hx.2)) rfl cm_X4_height wv_L_56 ds_X4_height rfl rfl (Nat.le_of_ble_eq_true rfl) (by decide) (by decide) dL_height_4 ?_
  intro v X2 S2 h9
  obtain ⟨e1, z, e2⟩ := hPo v X2 S2 h9
  subst e1; subst e2
  refine g_i2l C _ dL_height_7 rfl ?_
  refine x_last C pos 0 hX rfl (by decide) (by decide) rfl dL_height_8 ?_
  refine g_goto C 15 dL_height_9 (by decide) ?_
  refine g_iconst C 0 dL_height_15 (by decide) ?_
  exact g_iret C hQ rfl rfl dL_height_16 (by decide) (by decide) ⟨rfl, z, h9, rfl⟩
set_option maxRecDepth 100000 in
theorem w_heightT1 (l : Launch) (E : Ev) (X : va_W) (S : HS) {x r : Nat} (hx : isK S 4 x) {p0 : Int32} (hM : CtrT l yX4_height (Cond.code yX4_height cX4_height 2 (some .int)) 5 1 6 E [.ref x, .int p0] X S xIO) : Ctr l yL_height (Cond.codeWith yL_height cL_height 4 (some .int) [(0, 9, 12, 20)]) 6 1 6 E [.ref x, .int p0, .ref r] X S (fun v X2 S2 => some (.int 1) = v ∧ X = X2 ∧ S = S2) := by
  refine CtrW.ofG (by decide) [(0, .ref x), (1, .int p0), (2, .ref r)] rfl (Nat.le_of_ble_eq_true rfl) ?_
  intro p e s m args below meth c A Q C htb hQ
  refine g_aload_n C 2 dL_height_0 rfl rfl ?_
  refine g_iconst C 0 dL_height_1 (by decide) ?_
  refine g_aload_n C 0 dL_height_2 rfl rfl ?_
  refine g_iload_n C 1 dL_height_3 rfl rfl ?_
  refine g_catchV C [.int p0] [.int 0, .ref r] hM (recv_at hx.1 (pF_4 hx.2)) rfl cm_X4_height wv_L_56 ds_X4_height rfl rfl (Nat.le_of_ble_eq_true rfl) (by decide) (by decide) dL_height_4 [] ⟨0, 9, 12, 20⟩ [] (htb.trans rfl) (fun z hz => absurd hz List.not_mem_nil) (by decide) (by decide) kl_L_20 C.z.2.2.2.2.2.2.2.2.2.2.2.2.2.2.2.2.1 (fun q => ?_)
  refine g_astore_n C [(3, .ref q), (0, .ref x), (1, .int p0), (2, .ref r)] dL_height_12 rfl (by decide) rfl ?_
  refine g_iconst C 1 dL_height_13 (by decide) ?_
  exact g_iret C hQ rfl rfl dL_height_14 (by decide) (by decide) ⟨rfl, rfl, rfl⟩
set_option maxRecDepth 100000 in
theorem w_noise (l : Launch) (E : Ev) (X : va_W) (S : HS) {x r : Nat} (hx : isK S 4 x) {p0 : Int32} {pos : Nat} {f : Nat → Int64} (hX : X[pos]? = some (r, .inl (E.cA 3, 1, .inr (.inl f)))) {Po : Option Value → va_W → HS → Prop} (hPo : ∀ v X2 S2, Po v X2 S2 → X = X2 ∧ ∃ z, some (.int z) = v) (hM : Ctr l yX4_noise (Cond.code yX4_noise cX4_noise 5 (some .int)) 6 0 0 E [.ref x, .int p0] X S Po) : Ctr l yL_noise (Cond.codeWith yL_noise cL_noise 4 (some .int) [(0, 9, 12, 20)]) 7 0 0 E [.ref x, .int p0, .ref r] X S (Wok X pos r E f Int32.toInt64 Po) := by
  refine CtrW.ofG (by decide) [(0, .ref x), (1, .int p0), (2, .ref r)] rfl (Nat.le_of_ble_eq_true rfl) ?_
  intro p e s m args below meth c A Q C htb hQ
  refine g_aload_n C 2 dL_noise_0 rfl rfl ?_
  refine g_iconst C 0 dL_noise_1 (by decide) ?_
  refine g_aload_n C 0 dL_noise_2 rfl rfl ?_
  refine g_iload_n C 1 dL_noise_3 rfl rfl ?_
  refine g_callV C [.int p0] [.int 0, .ref r] hM (recv_at hx.1 (pF_4 hx.2)) rfl cm_X4_noise wv_L_59 ds_X4_noise rfl rfl (Nat.le_of_ble_eq_true rfl) (by decide) (by decide) dL_noise_4 ?_
  intro v X2 S2 h9
  obtain ⟨e1, z, e2⟩ := hPo v X2 S2 h9
  subst e1; subst e2
  refine g_i2l C _ dL_noise_7 rfl ?_
  refine x_last C pos 0 hX rfl (by decide) (by decide) rfl dL_noise_8 ?_
  refine g_goto C 15 dL_noise_9 (by decide) ?_
  refine g_iconst C 0 dL_noise_15 (by decide) ?_
  exact g_iret C hQ rfl rfl dL_noise_16 (by decide) (by decide) ⟨rfl, z, h9, rfl⟩
set_option maxRecDepth 100000 in
theorem w_noiseT1 (l : Launch) (E : Ev) (X : va_W) (S : HS) {x r : Nat} (hx : isK S 4 x) {p0 : Int32} (hM : CtrT l yX4_noise (Cond.code yX4_noise cX4_noise 5 (some .int)) 6 1 6 E [.ref x, .int p0] X S xIO) : Ctr l yL_noise (Cond.codeWith yL_noise cL_noise 4 (some .int) [(0, 9, 12, 20)]) 7 1 6 E [.ref x, .int p0, .ref r] X S (fun v X2 S2 => some (.int 1) = v ∧ X = X2 ∧ S = S2) := by
  refine CtrW.ofG (by decide) [(0, .ref x), (1, .int p0), (2, .ref r)] rfl (Nat.le_of_ble_eq_true rfl) ?_
  intro p e s m args below meth c A Q C htb hQ
  refine g_aload_n C 2 dL_noise_0 rfl rfl ?_
  refine g_iconst C 0 dL_noise_1 (by decide) ?_
  refine g_aload_n C 0 dL_noise_2 rfl rfl ?_
  refine g_iload_n C 1 dL_noise_3 rfl rfl ?_
  refine g_catchV C [.int p0] [.int 0, .ref r] hM (recv_at hx.1 (pF_4 hx.2)) rfl cm_X4_noise wv_L_59 ds_X4_noise rfl rfl (Nat.le_of_ble_eq_true rfl) (by decide) (by decide) dL_noise_4 [] ⟨0, 9, 12, 20⟩ [] (htb.trans rfl) (fun z hz => absurd hz List.not_mem_nil) (by decide) (by decide) kl_L_20 C.z.2.2.2.2.2.2.2.2.2.2.2.2.2.2.2.2.1 (fun q => ?_)
  refine g_astore_n C [(3, .ref q), (0, .ref x), (1, .int p0), (2, .ref r)] dL_noise_12 rfl (by decide) rfl ?_
  refine g_iconst C 1 dL_noise_13 (by decide) ?_
  exact g_iret C hQ rfl rfl dL_noise_14 (by decide) (by decide) ⟨rfl, rfl, rfl⟩
set_option maxRecDepth 100000 in
theorem w_count (l : Launch) (E : Ev) (X : va_W) (S : HS) {x r : Nat} (hx : isK S 4 x) {p0 : Int32} {pos : Nat} {f : Nat → Int64} (hX : X[pos]? = some (r, .inl (E.cA 3, 1, .inr (.inl f)))) {Po : Option Value → va_W → HS → Prop} (hPo : ∀ v X2 S2, Po v X2 S2 → X = X2 ∧ ∃ z, some (.int z) = v) (hM : Ctr l yX4_count (Cond.code yX4_count cX4_count 2 (some .int)) 2 0 0 E [.ref x, .int p0] X S Po) : Ctr l yL_count (Cond.codeWith yL_count cL_count 4 (some .int) [(0, 9, 12, 20)]) 3 0 0 E [.ref x, .int p0, .ref r] X S (Wok X pos r E f Int32.toInt64 Po) := by
  refine CtrW.ofG (by decide) [(0, .ref x), (1, .int p0), (2, .ref r)] rfl (Nat.le_of_ble_eq_true rfl) ?_
  intro p e s m args below meth c A Q C htb hQ
  refine g_aload_n C 2 dL_count_0 rfl rfl ?_
  refine g_iconst C 0 dL_count_1 (by decide) ?_
  refine g_aload_n C 0 dL_count_2 rfl rfl ?_
  refine g_iload_n C 1 dL_count_3 rfl rfl ?_
  refine g_callV C [.int p0] [.int 0, .ref r] hM (recv_at hx.1 (pF_4 hx.2)) rfl cm_X4_count wv_L_62 ds_X4_count rfl rfl (Nat.le_of_ble_eq_true rfl) (by decide) (by decide) dL_count_4 ?_
  intro v X2 S2 h9
  obtain ⟨e1, z, e2⟩ := hPo v X2 S2 h9
  subst e1; subst e2
  refine g_i2l C _ dL_count_7 rfl ?_
  refine x_last C pos 0 hX rfl (by decide) (by decide) rfl dL_count_8 ?_
  refine g_goto C 15 dL_count_9 (by decide) ?_
  refine g_iconst C 0 dL_count_15 (by decide) ?_
  exact g_iret C hQ rfl rfl dL_count_16 (by decide) (by decide) ⟨rfl, z, h9, rfl⟩
set_option maxRecDepth 100000 in
theorem w_countT1 (l : Launch) (E : Ev) (X : va_W) (S : HS) {x r : Nat} (hx : isK S 4 x) {p0 : Int32} (hM : CtrT l yX4_count (Cond.code yX4_count cX4_count 2 (some .int)) 2 1 6 E [.ref x, .int p0] X S xIO) : Ctr l yL_count (Cond.codeWith yL_count cL_count 4 (some .int) [(0, 9, 12, 20)]) 3 1 6 E [.ref x, .int p0, .ref r] X S (fun v X2 S2 => some (.int 1) = v ∧ X = X2 ∧ S = S2) := by
  refine CtrW.ofG (by decide) [(0, .ref x), (1, .int p0), (2, .ref r)] rfl (Nat.le_of_ble_eq_true rfl) ?_
  intro p e s m args below meth c A Q C htb hQ
  refine g_aload_n C 2 dL_count_0 rfl rfl ?_
  refine g_iconst C 0 dL_count_1 (by decide) ?_
  refine g_aload_n C 0 dL_count_2 rfl rfl ?_
  refine g_iload_n C 1 dL_count_3 rfl rfl ?_
  refine g_catchV C [.int p0] [.int 0, .ref r] hM (recv_at hx.1 (pF_4 hx.2)) rfl cm_X4_count wv_L_62 ds_X4_count rfl rfl (Nat.le_of_ble_eq_true rfl) (by decide) (by decide) dL_count_4 [] ⟨0, 9, 12, 20⟩ [] (htb.trans rfl) (fun z hz => absurd hz List.not_mem_nil) (by decide) (by decide) kl_L_20 C.z.2.2.2.2.2.2.2.2.2.2.2.2.2.2.2.2.1 (fun q => ?_)
  refine g_astore_n C [(3, .ref q), (0, .ref x), (1, .int p0), (2, .ref r)] dL_count_12 rfl (by decide) rfl ?_
  refine g_iconst C 1 dL_count_13 (by decide) ?_
  exact g_iret C hQ rfl rfl dL_count_14 (by decide) (by decide) ⟨rfl, rfl, rfl⟩
