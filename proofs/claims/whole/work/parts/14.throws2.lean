abbrev xUp : List String := ["java/lang/RuntimeException", "java/lang/Exception"]
abbrev xB (cls : String) : List Cond := [Cond.castable cls cls, Cond.declares (Bundle.initS "java/lang/RuntimeException"), Cond.declares (Bundle.initS "java/lang/Exception"), Cond.declares (Bundle.initS Bundle.tN)]
theorem xg_152 : ∀ w ∈ (vx_atS RX4 152 xIO xUp).filter goodWord, w ∈ wT := by decide +kernel
theorem xg_177 : ∀ w ∈ (vx_atS RX4 177 xIA xUp).filter goodWord, w ∈ wT := by decide +kernel
theorem xg_184 : ∀ w ∈ (vx_atS RX4 184 xIS xUp).filter goodWord, w ∈ wT := by decide +kernel
theorem xn_152 : ∀ w ∈ (vx_atS RX4 152 xIO xUp).filter (fun w => !goodWord w), w ∈ xB xIO := by decide +kernel
theorem xn_177 : ∀ w ∈ (vx_atS RX4 177 xIA xUp).filter (fun w => !goodWord w), w ∈ xB xIA := by decide +kernel
theorem xn_184 : ∀ w ∈ (vx_atS RX4 184 xIS xUp).filter (fun w => !goodWord w), w ∈ xB xIS := by decide +kernel
theorem xo_152 : ∀ w ∈ Cond.classLink RX4 148 xIO :: Cond.initialized xIO :: vx_atS RX4 152 xIO xUp, vx_ot w = true := by decide +kernel
theorem xo_177 : ∀ w ∈ Cond.classLink RX4 173 xIA :: Cond.initialized xIA :: vx_atS RX4 177 xIA xUp, vx_ot w = true := by decide +kernel
theorem xo_184 : ∀ w ∈ Cond.classLink RX4 180 xIS :: Cond.initialized xIS :: vx_atS RX4 184 xIS xUp, vx_ot w = true := by decide +kernel
theorem xi_IO : Cond.initialized xIO ∈ wT := by decide +kernel
theorem xi_IA : Cond.initialized xIA ∈ wT := by decide +kernel
theorem xi_IS : Cond.initialized xIS ∈ wT := by decide +kernel
theorem xk_IO : Cond.classLink RX4 148 xIO ∈ wT := by decide +kernel
theorem xk_IA : Cond.classLink RX4 173 xIA ∈ wT := by decide +kernel
theorem xk_IS : Cond.classLink RX4 180 xIS ∈ wT := by decide +kernel
section TRows
variable {p : Program} {l : Launch} {e : Env} {R : Room} {s : State} {m : MethodId} {args : Array Value} {below : List Frame} {meth : Method} {c : Code} {E : Ev} {nL : Nat} {A : Nat → Prop} {Q : State → Prop} {X : va_W} {S : HS} {cells slots pc : Nat} {lv : List (Nat × Value)} {st : List Value} {cc : ByteArray} {y : MethodName} {ret : Option FieldType} {c0 : Cond} {index mc ms : Nat} {Po : Option Value → va_W → HS → Prop} {Px : String → Prop}
/-- a body that may throw: how its ends look -/
theorem g_qx {XC : String → State → State → Prop} : ∀ t, MQ below (QR E A Po) args s mc ms A t → vx_MQ below (QR E A Po) XC args s mc ms A t := fun t h => by
  obtain ⟨o, b1, b2, b3, b4⟩ := h
  exact ⟨o, b1, b2, Or.inl ⟨b3, b4⟩⟩
theorem g_throwS (C : Cx p s m args meth c cc nL y ret c0 E A) (htb : ∀ x ∈ c.exceptionTable.toList, False) (hl : l.stackTraces = false) {cls text : String} {ik is ic sa : Nat} (hy : y.cls = RX4) (hcls : Bundle.fit cls = true) (hk : Cond.classLink RX4 ik cls ∈ wT) (hini : Cond.initialized cls ∈ wT) (hstr : vk_R RX4 is text sa s) (hg1 : ∀ w ∈ (vx_atS RX4 ic cls xUp).filter goodWord, w ∈ wT) (hg2 : ∀ w ∈ (vx_atS RX4 ic cls xUp).filter (fun w => !goodWord w), w ∈ xB cls) (hca : va_Nw (.castable cls cls) s) (hgo : ∀ w ∈ Cond.classLink RX4 ik cls :: Cond.initialized cls :: vx_atS RX4 ic cls xUp, vx_ot w = true)
    (d0 : decode cc pc = .ok (.new ik, 3)) (d3 : decode cc (pc + 3) = .ok (.dup, 1)) (d4 : decode cc (pc + 4) = .ok (.ldc is, 2)) (d6 : decode cc (pc + 6) = .ok (.invokespecial ic, 3)) (d9 : decode cc (pc + 9) = .ok (.athrow, 1))
    (hR : 5 < R.frames ∧ (st.map fun v => v.category).sum + 82 ≤ R.locals) (hf : cells + 1 ≤ R.cells ∧ slots + 6 ≤ R.slots) (hm : cells + 1 ≤ mc ∧ slots + 6 ≤ ms) (hp : Px cls) : GW p l e R s m args below meth c E nL A (vx_MQ below (QR E A Po) (XR E A X S Px) args s mc ms A) X S cells slots pc lv st := by
  intro H locs ls hP hD hS hlv
  have hz := C.z.2.2.2.2.2.2.2.2.2.2.2.2.2.2.2.2
  refine vx_throwS (names := xUp) (own := RX4) C.x C.b hl (hy ▸ C.own) hcls (by decide +kernel) (C.w hk) (C.w hini) hstr (vx_hat (fun w h => C.w (hg1 w h)) hg2 (vx_c (va_Nw.use rfl hca) (vx_c (va_Nw.use rfl hz.2.2.2.2.2.2.1) (vx_c (va_Nw.use rfl hz.2.2.2.2.2.2.2.1) (vx_c (va_Nw.use rfl hz.2.2.2.2.2.2.2.2) vx_n))))) hgo C.z.2.2.1 C.z.2.2.2.1 hS (hlv.1.trans C.ml.symm) d0 d3 d4 d6 d9 (fun x hx => (htb x hx).elim) hR.1 hR.2 hf.1 hf.2 C.lk ?_ hS.2.2 hm.1 hm.2
  intro t hal hz hk2
  refine ⟨hp, hP.kept (fun k q hq => hk2 q.1 ((hP k q hq).lt)), Nat.le_trans hS.1 hz, fun q h1 h2 => ?_⟩
  rw [hk2 q (Nat.lt_of_lt_of_le h1 hS.1)]
  exact hS.2.1 q h1 h2
theorem CtrX.ofG {k : Nat} {av : List Value} (hy : plainName y.cls = true) (lv0 : List (Nat × Value)) (hlv : lv_args 0 av = lv0) (hn : (lg_sl av).length ≤ nL)
    (body : ∀ (p : Program) (e : Env) (s : State) (m : MethodId) (args : Array Value) (below : List Frame) (meth : Method) (c : Code) (A : Nat → Prop), Cx p s m args meth c cc nL y ret (Cond.code y cc nL ret) E A → (∀ x ∈ c.exceptionTable.toList, False) → GW p l e (rml k mc ms) s m args below meth c E nL A (vx_MQ below (QR E A Po) (XR E A X S Px) args s mc ms A) X S 0 0 0 lv0 []) :
    CtrX l y (Cond.code y cc nL ret) k mc ms E av X S Po Px := by
  intro sz
  refine vx_ofW (cc := cc) (maxL := nL) (ret := ret) hy rfl ?_
  intro p e s m args below meth c s₁ B hml htb hv
  obtain ⟨rfl, hsz, hP, hK, hD0, hZ⟩ := hv
  subst hsz
  have hts := atoms_spec (ws := Cond.code y cc nL ret :: wT) B.pre
  have hD := hD0.self (sz := s.heap.size)
  have hl := lv_entry av (n := nL) hn
  rw [lg_entry_eq]
  rw [hlv] at hl
  exact body p e s m _ below meth c _ ⟨B.exec, B.bytes, hml, findClass_of_methodNamed B.named, hts, hK, fun q h => Or.inr h, hZ, B.returns, B.notSynchronized, (name_of_methodNamed B.named B.method).1⟩ htb s.heap [] _ hP hD va_S.rf hl
/-- a method that only throws: the class by its name -/
def CtrT (l : Launch) (y : MethodName) (c0 : Cond) (k mc ms : Nat) (E : Ev) (av : List Value) (X : va_W) (S : HS) (cls : String) : Prop := CtrX l y c0 k mc ms E av X S (fun _ _ _ => False) (fun n => n = cls)
/-- behind a callee that has thrown: the walk with the thing in the air -/
theorem g_threw {H : Heap} {locs : List Loc} {ls : Array Slot} {rest : List Value} {av : Array Value} {cls : String} {Q : State → Prop} (hr : vx_Run p l e R s m args below meth c H locs cells slots mc ms (F0 m pc ls st) rest (QR E (va_A (X ++ pw E S) H.size) (fun _ _ _ => False) av) (XR E (va_A (X ++ pw E S) H.size) X S (fun n => n = cls)) (va_A (X ++ pw E S) H.size)) (hA : ∀ q, s.heap.size ≤ q → A q) (hD : va_D A (X ++ pw E S)) (hS : va_S A s.heap H locs)
    (kk : ∀ (q : Addr) (ce : Cell) (H1 : Heap) (locs1 : List Loc), va_P E.D vwCl (X ++ pw E S) H1 → va_S A s.heap H1 locs1 → H1[q]? = some ce → ce.vm = .none → s.vm.findClass cls = some ce.cls → vx_W p l e R s m args below meth c H1 locs1 (cells + mc) (slots + ms) Q (F0 m pc ls rest) q) : W p l e R s m args below meth c H locs cells slots Q (F0 m pc ls st) := by
  intro T hT Y
  rcases hr T hT Y with ⟨v, st₀, t, T', L, h0, Y', hL, e1, e2, ⟨⟨v2, X2, S2, hv, hp, hP2, hD2⟩, hz⟩, stp⟩ | ⟨q, st₀, t, T', L, n, ce, h0, Y', hL, e1, e2, ⟨hn, hP2, hz, hk⟩, hq, hcv, hcl, stp⟩
  · exact hp.elim
  · subst hn
    rw [h0] at hz hk
    have hAA : ∀ q, va_A (X ++ pw E S) H.size q → A q := fun q h => by
      rcases h with ⟨k, e9, h⟩ | h
      · exact hD.2 k _ h
      · exact hA q (Nat.le_trans hS.1 h)
    obtain ⟨t2, a1, b1⟩ := kk q ce T'.heap (locs ++ L) (by rw [e1]; exact hP2) ⟨Nat.le_trans hS.1 (by rw [e1]; exact hz), fun q h1 h2 => by rw [e1, hk q (Nat.lt_of_lt_of_le h1 hS.1) (fun z => h2 (hAA q z))]; exact hS.2.1 q h1 h2, fun q hq => by
      rcases List.mem_append.mp hq with h | h
      · exact hS.2.2 q h
      · exact hAA _ (hL q h)⟩ (by rw [e1]; exact hq) hcv hcl T' rfl Y'
    exact ⟨t2, stp.trans a1, b1⟩
variable {y2 : MethodName} {cc2 : ByteArray} {n2 k2 nA m2 m3 : Nat} {ret2 : Option FieldType} {av : List Value} {cls : String}
/-- a callee throws, and so does this method -/
theorem g_outS (C : Cx p s m args meth c cc nL y ret c0 E A) (htb : ∀ x ∈ c.exceptionTable.toList, False) (As rest : List Value) (hM : CtrT l y2 (Cond.code y2 cc2 n2 ret2) k2 m2 m3 E As X S cls) (hcode : Cond.code y2 cc2 n2 ret2 ∈ wT) (hw : ∀ w ∈ [Cond.methodLink y.cls index y2, Cond.static y2, Cond.initialized y2.cls], w ∈ wT)
    (hdsc : y2.cls ≠ "java/lang/invoke/MethodHandle" ∧ y2.cls ≠ "java/lang/invoke/VarHandle" ∧ (parseMethodDescriptor y2.desc).map (fun d => d.parameters.length) = some nA) (hnA : As.length = nA) (hst : st = As.reverse ++ rest) (hrs : (rest.map fun v => v.category).sum ≤ 8) (hR : 8 * k2 + 1 ≤ R.frames ∧ 8 + (n2 + 11) + 128 * k2 ≤ R.locals) (hf : cells + m2 ≤ R.cells ∧ slots + m3 ≤ R.slots) (hd : decode cc pc = .ok (.invokestatic index, 3)) (hm : cells + m2 ≤ mc ∧ slots + m3 ≤ ms) (hp : Px cls) : GW p l e R s m args below meth c E nL A (vx_MQ below (QR E A Po) (XR E A X S Px) args s mc ms A) X S cells slots pc lv st := by
  intro H locs ls hP hD hS hl
  subst hst
  refine g_threw (cls := cls) (vx_runS (As := As) (rest := rest) ⟨C.x, C.b, C.ml, C.own, C.ts⟩ (hM H.size) (va_cwS nA C.ts (wT_app hcode hw) rfl rfl rfl hdsc hR) ⟨PcR.blind, PcR.at (av := As) C hP hD hS⟩ rfl hnA hl.1 rfl (lv_room hrs) hd hf) C.a hD hS (fun q ce H1 locs1 hP1 hS1 hq hcv hcl => ?_)
  exact vx_out (fun x hx => (htb x hx).elim) C.lk hq hcv hcl (fun t ht hal => ⟨hp, by rw [ht]; exact hP1, hS1.F ht⟩) hS1.2.2 hm.1 hm.2
theorem g_outV (C : Cx p s m args meth c cc nL y ret c0 E A) (htb : ∀ x ∈ c.exceptionTable.toList, False) {b ci : Nat} {Cn : String} {T : u_T} {N : Nat} (As rest : List Value) (hM : CtrT l y2 (Cond.code y2 cc2 n2 ret2) k2 m2 m3 E (.ref b :: As) X S cls) (hrecv : ∃ (k0 : Nat) (fs : List Value), (X ++ pw E S)[k0]? = some (b, .inr (ci, fs))) (hc : vwCl[ci]? = some (Cn, T, N)) (hcode : Cond.code y2 cc2 n2 ret2 ∈ wT) (hw : ∀ w ∈ [Cond.methodLink y.cls index y2, Cond.instanceMethod y2, Cond.selects Cn y2 y2, Cond.initialized Cn], w ∈ wT)
    (hdsc : y2.cls = Cn ∧ y2.cls ≠ "java/lang/invoke/MethodHandle" ∧ y2.cls ≠ "java/lang/invoke/VarHandle" ∧ (parseMethodDescriptor y2.desc).map (fun d => d.parameters.length) = some nA) (hnA : As.length = nA) (hst : st = As.reverse ++ .ref b :: rest) (hrs : (rest.map fun v => v.category).sum ≤ 8) (hR : 8 * k2 + 1 ≤ R.frames ∧ 8 + (n2 + 11) + 128 * k2 ≤ R.locals) (hf : cells + m2 ≤ R.cells ∧ slots + m3 ≤ R.slots) (hd : decode cc pc = .ok (.invokevirtual index, 3)) (hm : cells + m2 ≤ mc ∧ slots + m3 ≤ ms) (hp : Px cls) : GW p l e R s m args below meth c E nL A (vx_MQ below (QR E A Po) (XR E A X S Px) args s mc ms A) X S cells slots pc lv st := by
  intro H locs ls hP hD hS hl
  subst hst
  obtain ⟨k0, fs, hk0⟩ := hrecv
  refine g_threw (cls := cls) (vx_runV (As := As) (rest := rest) ⟨C.x, C.b, C.ml, C.own, C.ts⟩ (hM H.size) (cwV (C := Cn) nA C.ts (wT_app hcode hw) rfl rfl rfl hdsc hR) ⟨PcR.blind, va_recv C.k hP hc hk0, PcR.at (av := .ref b :: As) C hP hD hS⟩ rfl hnA hl.1 rfl (lv_room hrs) hd hf) C.a hD hS (fun q ce H1 locs1 hP1 hS1 hq hcv hcl => ?_)
  exact vx_out (fun x hx => (htb x hx).elim) C.lk hq hcv hcl (fun t ht hal => ⟨hp, by rw [ht]; exact hP1, hS1.F ht⟩) hS1.2.2 hm.1 hm.2
end TRows
