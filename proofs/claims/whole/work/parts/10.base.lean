/-! ===== one list of words for all methods ===== -/
def wT : List Cond := lw_tbl.filter goodWord
theorem wT_good {w : Cond} (h : w ∈ wT) : goodWord w = true := (List.mem_filter.mp h).2
theorem wT_in {c0 c : Cond} (hc : c ∈ wT) : GoodIn (c0 :: wT) (c :: wT) := fun w hw => by
  rcases List.mem_cons.mp hw with rfl | h
  · exact ⟨List.mem_cons_of_mem _ hc, good_of_word (wT_good hc)⟩
  · exact ⟨List.mem_cons_of_mem _ h, good_of_word (wT_good h)⟩
theorem wT_app {c0 c : Cond} {ws : List Cond} (hc : c ∈ wT) (h : ∀ w ∈ ws, w ∈ wT) : GoodIn (c0 :: wT) (ws ++ c :: wT) := fun w hw => by
  rcases List.mem_append.mp hw with h1 | h1
  · exact ⟨List.mem_cons_of_mem _ (h w h1), good_of_word (wT_good (h w h1))⟩
  · exact wT_in hc w h1
theorem wt_1 {j : Nat} {w : Cond} (h : tables_1_1[j]? = some w) (g : goodWord w = true) : w ∈ wT := List.mem_filter.mpr ⟨List.mem_append_right _ (List.mem_append_left _ (List.mem_of_getElem? h)), g⟩
theorem wt_2 {j : Nat} {w : Cond} (h : tables_1_2[j]? = some w) (g : goodWord w = true) : w ∈ wT := List.mem_filter.mpr ⟨List.mem_append_right _ (List.mem_append_right _ (List.mem_append_left _ (List.mem_of_getElem? h))), g⟩
theorem wt_3 {j : Nat} {w : Cond} (h : tables_1_3[j]? = some w) (g : goodWord w = true) : w ∈ wT := List.mem_filter.mpr ⟨List.mem_append_right _ (List.mem_append_right _ (List.mem_append_right _ (List.mem_append_left _ (List.mem_of_getElem? h)))), g⟩
theorem wt_4 {j : Nat} {w : Cond} (h : tables_1_4[j]? = some w) (g : goodWord w = true) : w ∈ wT := List.mem_filter.mpr ⟨List.mem_append_right _ (List.mem_append_right _ (List.mem_append_right _ (List.mem_append_right _ (List.mem_append_left _ (List.mem_of_getElem? h))))), g⟩
theorem wt_5 {j : Nat} {w : Cond} (h : tables_1_5[j]? = some w) (g : goodWord w = true) : w ∈ wT := List.mem_filter.mpr ⟨List.mem_append_right _ (List.mem_append_right _ (List.mem_append_right _ (List.mem_append_right _ (List.mem_append_right _ (List.mem_of_getElem? h))))), g⟩
theorem wt_0 {j : Nat} {w : Cond} (h : (k2_sels lw_privs)[j]? = some w) (g : goodWord w = true) : w ∈ wT := List.mem_filter.mpr ⟨List.mem_append_left _ (List.mem_of_getElem? h), g⟩
theorem wl_c {a : Cond} {l : List Cond} (h : a ∈ wT) (t : ∀ w ∈ l, w ∈ wT) : ∀ w ∈ a :: l, w ∈ wT := fun w hw => (List.mem_cons.mp hw).elim (fun e => e ▸ h) (t w)
theorem wl_n : ∀ w ∈ ([] : List Cond), w ∈ wT := fun _ h => nomatch h
/-! ===== the heap of the class: addresses, kinds, int fields, long fields, reference fields, lengths, int rows, reference rows ===== -/
def HS : Type := List Nat × (Nat → Nat) × (Nat → Nat → Int32) × (Nat → Nat → Int64) × (Nat → Nat → Option Nat) × (Nat → Nat) × (Nat → Nat → Int32) × (Nat → Nat → Option Nat)
def HS.L (S : HS) : List Nat := S.1
def HS.K (S : HS) : Nat → Nat := S.2.1
def HS.I (S : HS) : Nat → Nat → Int32 := S.2.2.1
def HS.J (S : HS) : Nat → Nat → Int64 := S.2.2.2.1
def HS.P (S : HS) : Nat → Nat → Option Nat := S.2.2.2.2.1
def HS.N (S : HS) : Nat → Nat := S.2.2.2.2.2.1
def HS.R (S : HS) : Nat → Nat → Int32 := S.2.2.2.2.2.2.1
def HS.O (S : HS) : Nat → Nat → Option Nat := S.2.2.2.2.2.2.2
def u2 {α : Type} (f : Nat → Nat → α) (k a : Nat) (v : α) : Nat → Nat → α := fun k' a' => if k' = k ∧ a' = a then v else f k' a'
theorem u2_self {α : Type} {f : Nat → Nat → α} {k a : Nat} {v : α} : u2 f k a v k a = v := by simp [u2]
theorem u2_ne1 {α : Type} {f : Nat → Nat → α} {k a k' a' : Nat} {v : α} (h : k' ≠ k) : u2 f k a v k' a' = f k' a' := by simp [u2, h]
theorem u2_ne2 {α : Type} {f : Nat → Nat → α} {k a k' a' : Nat} {v : α} (h : a' ≠ a) : u2 f k a v k' a' = f k' a' := by simp [u2, h]
def HS.sI (S : HS) (k a : Nat) (v : Int32) : HS := (S.L, S.K, u2 S.I k a v, S.J, S.P, S.N, S.R, S.O)
def HS.sJ (S : HS) (k a : Nat) (v : Int64) : HS := (S.L, S.K, S.I, u2 S.J k a v, S.P, S.N, S.R, S.O)
def HS.sP (S : HS) (k a : Nat) (v : Option Nat) : HS := (S.L, S.K, S.I, S.J, u2 S.P k a v, S.N, S.R, S.O)
def HS.sR (S : HS) (a j : Nat) (v : Int32) : HS := (S.L, S.K, S.I, S.J, S.P, S.N, u2 S.R a j v, S.O)
def HS.sO (S : HS) (a j : Nat) (v : Option Nat) : HS := (S.L, S.K, S.I, S.J, S.P, S.N, S.R, u2 S.O a j v)
/-- a whole row of references -/
def HS.rO (S : HS) (a : Nat) (f : Nat → Option Nat) : HS := (S.L, S.K, S.I, S.J, S.P, S.N, S.R, va_up S.O a f)
/-- a new object of kind k: all its fields are zero or null -/
def HS.nO (S : HS) (q k : Nat) : HS := (S.L ++ [q], va_up S.K q k, (fun i a => if a = q then 0 else S.I i a), (fun i a => if a = q then 0 else S.J i a), (fun i a => if a = q then none else S.P i a), S.N, S.R, S.O)
/-- a new row of n places, of ints (kind 6) or of references (kind 7) -/
def HS.nR (S : HS) (q k n : Nat) : HS := (S.L ++ [q], va_up S.K q k, S.I, S.J, S.P, va_up S.N q n, va_up S.R q (fun _ => 0), va_up S.O q (fun _ => none))
/-- what stands in the air: class numbers and slots, array classes (0 ints, 1 booleans, 2 references, 3 longs), addresses of things that were there -/
def Ev : Type := (Nat → ClassId) × (Nat → Nat → Nat) × (Nat → ClassId) × (Nat → Nat)
def Ev.D (E : Ev) : va_G := (E.1, E.2.1)
def Ev.cA (E : Ev) : Nat → ClassId := E.2.2.1
def Ev.sa (E : Ev) : Nat → Nat := E.2.2.2
def Ev.ty (E : Ev) : List (ClassId × FieldType) := [(E.cA 0, .int), (E.cA 1, .boolean), (E.cA 2, .object "java/lang/Object"), (E.cA 3, .long)]
/-- what lies at an address -/
def pF (E : Ev) (S : HS) (a : Nat) : va_E := match S.K a with
  | 0 => .inr (3, [.int (S.I 0 a), .int (S.I 1 a), .int (S.I 2 a), .int (S.I 3 a), va_rf (S.P 0 a), va_rf (S.P 1 a), .long (S.J 0 a), .long (S.J 1 a), .int (S.I 4 a), .int (S.I 5 a), .int (S.I 6 a), .int (S.I 7 a)])
  | 1 => .inr (4, [va_rf (S.P 2 a), .int (S.I 8 a)])
  | 2 => .inr (5, [va_rf (S.P 3 a), .int (S.I 9 a)])
  | 3 => .inr (6, [va_rf (S.P 4 a), va_rf (S.P 5 a), .int (S.I 10 a)])
  | 4 => .inr (7, [va_rf (S.P 6 a), va_rf (S.P 7 a), va_rf (S.P 8 a), va_rf (S.P 9 a), .int (S.I 11 a), .int (S.I 12 a), .int (S.I 13 a), .int (S.I 14 a), .int (S.I 15 a)])
  | 5 => .inr (2, [.int (S.I 16 a), va_rf (S.P 10 a), .int (S.I 17 a)])
  | 6 => .inl (E.cA 0, S.N a, .inl (S.R a))
  | _ => .inl (E.cA 2, S.N a, .inr (.inr (.inr (.inr (S.O a)))))
def pw (E : Ev) (S : HS) : va_W := va_pl S.L (pF E S)

theorem pF_0 {E : Ev} {S : HS} {a : Nat} (h : S.K a = 0) : pF E S a = .inr (3, [.int (S.I 0 a), .int (S.I 1 a), .int (S.I 2 a), .int (S.I 3 a), va_rf (S.P 0 a), va_rf (S.P 1 a), .long (S.J 0 a), .long (S.J 1 a), .int (S.I 4 a), .int (S.I 5 a), .int (S.I 6 a), .int (S.I 7 a)]) := by simp only [pF, h]
theorem pF_1 {E : Ev} {S : HS} {a : Nat} (h : S.K a = 1) : pF E S a = .inr (4, [va_rf (S.P 2 a), .int (S.I 8 a)]) := by simp only [pF, h]
theorem pF_2 {E : Ev} {S : HS} {a : Nat} (h : S.K a = 2) : pF E S a = .inr (5, [va_rf (S.P 3 a), .int (S.I 9 a)]) := by simp only [pF, h]
theorem pF_3 {E : Ev} {S : HS} {a : Nat} (h : S.K a = 3) : pF E S a = .inr (6, [va_rf (S.P 4 a), va_rf (S.P 5 a), .int (S.I 10 a)]) := by simp only [pF, h]
theorem pF_4 {E : Ev} {S : HS} {a : Nat} (h : S.K a = 4) : pF E S a = .inr (7, [va_rf (S.P 6 a), va_rf (S.P 7 a), va_rf (S.P 8 a), va_rf (S.P 9 a), .int (S.I 11 a), .int (S.I 12 a), .int (S.I 13 a), .int (S.I 14 a), .int (S.I 15 a)]) := by simp only [pF, h]
theorem pF_5 {E : Ev} {S : HS} {a : Nat} (h : S.K a = 5) : pF E S a = .inr (2, [.int (S.I 16 a), va_rf (S.P 10 a), .int (S.I 17 a)]) := by simp only [pF, h]
theorem pF_6 {E : Ev} {S : HS} {a : Nat} (h : S.K a = 6) : pF E S a = .inl (E.cA 0, S.N a, .inl (S.R a)) := by simp only [pF, h]
theorem pF_7 {E : Ev} {S : HS} {a : Nat} (h : S.K a = 7) : pF E S a = .inl (E.cA 2, S.N a, .inr (.inr (.inr (.inr (S.O a))))) := by simp only [pF, h]
/-! ===== what stands in the air, as the heap shows it ===== -/
def cObj : String := "java/lang/Object"
abbrev xIO : String := "java/lang/IndexOutOfBoundsException"
abbrev xIA : String := "java/lang/IllegalArgumentException"
abbrev xIS : String := "java/lang/IllegalStateException"
def Zst (E : Ev) (A : Nat → Prop) (U : State) (H : Heap) : Prop :=
  va_Z "java/util/ArrayList" "DEFAULTCAPACITY_EMPTY_ELEMENTDATA" "[Ljava/lang/Object;" (.ref (E.sa 0)) A U H ∧ va_T (.object "java/lang/Object") (E.sa 0) 0 (fun _ => .null) A U H ∧
  vx_Zq Bundle.tN "UNASSIGNED_STACK" Bundle.steD A U H ∧ vx_Zq Bundle.tN "SUPPRESSED_SENTINEL" Bundle.listD A U H ∧
  va_Mi "[Ljava/lang/Object;" (E.sa 1) U ∧ va_AO "java/lang/Object" U ∧ va_Dc U ∧
vk_R RX4 150 "no such place" (E.sa 2) U ∧ vk_R RX4 168 "no such what" (E.sa 3) U ∧ vk_R RX4 175 "a number is out of its range" (E.sa 4) U ∧ vk_R RX4 178 "two nets are the same" (E.sa 5) U ∧ vk_R RX4 182 "there are as many as there can be" (E.sa 6) U ∧
  va_Nw (.methodLinkNest RX4 21 yX3_init RX4) U ∧ va_Nw (.castable RX0 "java/lang/Object") U ∧ va_Nw (.castable RX1 "java/lang/Object") U ∧ va_Nw (.castable RX2 "java/lang/Object") U ∧
  va_Nw (.castable xIO xIO) U ∧ va_Nw (.castable xIA xIA) U ∧ va_Nw (.castable xIS xIS) U ∧ va_Nc xIA xIO U ∧ va_Nc xIS xIO U ∧ va_Nc xIS xIA U ∧
  va_Nw (.declares (Bundle.initS "java/lang/RuntimeException")) U ∧ va_Nw (.declares (Bundle.initS "java/lang/Exception")) U ∧ va_Nw (.declares (Bundle.initS Bundle.tN)) U
theorem Zst.go {E : Ev} {A B : Nat → Prop} {s U : State} {H : Heap} {locs : List Loc} (h : Zst E A s s.heap) (hS : va_S A s.heap H locs) (hAB : ∀ q, B q → A q) (hU : U.heap = H) (hW : s.WarmedH U.vm) : Zst E B U U.heap := by
  obtain ⟨h1, h2, h3, h4, h5, h6, h7, h8, h9, h10, h11, h12, h13, h14, h15, h16, h17, h18, h19, h20, h21, h22, h23, h24, h25⟩ := h
  rw [hU]
  exact ⟨((h1.kept hS.2.1).narrow hAB).moved hW.alike, ((h2.kept hS.2.1).narrow hAB).moved hW.alike, ((h3.kept hS.2.1).narrow hAB).moved hW.alike, ((h4.kept hS.2.1).narrow hAB).moved hW.alike, h5.moved hW.alike, h6.moved hW.alike, h7.moved hW.alike, h8.warm hW, h9.warm hW, h10.warm hW, h11.warm hW, h12.warm hW, va_Nw.warmM hW h13, va_Nw.warmC hW h14, va_Nw.warmC hW h15, va_Nw.warmC hW h16, va_Nw.warmC hW h17, va_Nw.warmC hW h18, va_Nw.warmC hW h19, h20.moved hW.alike, h21.moved hW.alike, h22.moved hW.alike, va_Nw.warmD hW h23, va_Nw.warmD hW h24, va_Nw.warmD hW h25⟩
theorem Zst.same {E : Ev} {A : Nat → Prop} {u U : State} (hh : U.heap = u.heap) (hv : U.vm = u.vm) (h : Zst E A u u.heap) : Zst E A U U.heap := by
  obtain ⟨h1, h2, h3, h4, h5, h6, h7, h8, h9, h10, h11, h12, h13, h14, h15, h16, h17, h18, h19, h20, h21, h22, h23, h24, h25⟩ := h
  have ha : u.vm.Alike U.vm := by rw [hv]; exact Vm.Alike.refl _
  rw [hh]
  exact ⟨h1.moved ha, h2.moved ha, h3.moved ha, h4.moved ha, h5.moved ha, h6.moved ha, h7.moved ha, h8.same hv, h9.same hv, h10.same hv, h11.same hv, h12.same hv, va_Nw.same rfl hv.symm h13, va_Nw.same rfl hv.symm h14, va_Nw.same rfl hv.symm h15, va_Nw.same rfl hv.symm h16, va_Nw.same rfl hv.symm h17, va_Nw.same rfl hv.symm h18, va_Nw.same rfl hv.symm h19, h20.moved ha, h21.moved ha, h22.moved ha, va_Nw.same rfl hv.symm h23, va_Nw.same rfl hv.symm h24, va_Nw.same rfl hv.symm h25⟩
/-! ===== contracts ===== -/
def rml (k mc ms : Nat) : Room := { frames := 8 * k, cells := mc, slots := ms, locals := 128 * k }
def PcR (E : Ev) (av : List Value) (X : va_W) (S : HS) (sz : Nat) : Array Value → State → Prop := va_Pc av (fun U => U.heap.size = sz ∧ va_P E.D vwCl (X ++ pw E S) U.heap ∧ va_K E.D vwCl E.ty U ∧ va_D (fun _ => True) (X ++ pw E S) ∧ Zst E (va_A (X ++ pw E S) sz) U U.heap)
def QR (E : Ev) (A : Nat → Prop) (Po : Option Value → va_W → HS → Prop) : Array Value → State → Outcome → State → Prop := fun _ st o t => (∃ (v : Option Value) (X : va_W) (S : HS), o = .returned v ∧ Po v X S ∧ va_P E.D vwCl (X ++ pw E S) t.heap ∧ va_D A (X ++ pw E S)) ∧ va_F A st t
def XR (E : Ev) (A : Nat → Prop) (X : va_W) (S : HS) (Px : String → Prop) : String → State → State → Prop := fun n st t => Px n ∧ va_P E.D vwCl (X ++ pw E S) t.heap ∧ va_F A st t
/-- the method returns -/
def Ctr (l : Launch) (y : MethodName) (c0 : Cond) (k mc ms : Nat) (E : Ev) (av : List Value) (X : va_W) (S : HS) (Po : Option Value → va_W → HS → Prop) : Prop :=
  ∀ sz, Met l y (c0 :: wT) (rml k mc ms) (PcR E av X S sz) (QR E (va_A (X ++ pw E S) sz) Po) mc ms (va_A (X ++ pw E S) sz)
/-- the method returns, or throws with the world as it was -/
def CtrX (l : Launch) (y : MethodName) (c0 : Cond) (k mc ms : Nat) (E : Ev) (av : List Value) (X : va_W) (S : HS) (Po : Option Value → va_W → HS → Prop) (Px : String → Prop) : Prop :=
  ∀ sz, vx_Met l y (c0 :: wT) (rml k mc ms) (PcR E av X S sz) (QR E (va_A (X ++ pw E S) sz) Po) (XR E (va_A (X ++ pw E S) sz) X S Px) mc ms (va_A (X ++ pw E S) sz)
theorem PcR.blind {E : Ev} {av : List Value} {X : va_W} {S : HS} {sz : Nat} : FrameBlind (PcR E av X S sz) := fun a U g mk q => by
  obtain ⟨q0, q1, qP, qK, qD, qZ⟩ := q
  exact ⟨q0, q1, qP, va_K.moved (u := U) (U := U.calling g mk a) (Vm.Alike.refl U.vm) qK, qD, Zst.same (u := U) (U := U.calling g mk a) rfl rfl qZ⟩
/-- where a method's walk stands -/
def Cx (p : Program) (s : State) (m : MethodId) (args : Array Value) (meth : Method) (c : Code) (cc : ByteArray) (nL : Nat) (y : MethodName) (ret : Option FieldType) (c0 : Cond) (E : Ev) (A : Nat → Prop) : Prop :=
  p.tables.exec = Jvm.exec ∧ c.code = cc ∧ c.maxLocals = nL ∧ s.vm.findClass y.cls = some m.cls ∧ (∀ w ∈ c0 :: wT, w.before args s = true) ∧ va_K E.D vwCl E.ty s ∧ (∀ q, s.heap.size ≤ q → A q) ∧ Zst E A s s.heap ∧ meth.sig.returnType = ret ∧ meth.locks = false ∧ meth.name = y.name
/-- the walk: at pc, with the locals lv and the operands st, in the world X and S, it comes to Q -/
def GW (p : Program) (l : Launch) (e : Env) (R : Room) (s : State) (m : MethodId) (args : Array Value) (below : List Frame) (meth : Method) (c : Code) (E : Ev) (nL : Nat) (A : Nat → Prop) (Q : State → Prop) (X : va_W) (S : HS) (cells slots pc : Nat) (lv : List (Nat × Value)) (st : List Value) : Prop :=
  ∀ (H : Heap) (locs : List Loc) (ls : Array Slot), va_P E.D vwCl (X ++ pw E S) H → va_D A (X ++ pw E S) → va_S A s.heap H locs → lv_has ls nL lv → W p l e R s m args below meth c H locs cells slots Q (F0 m pc ls st)

section GRows
variable {p : Program} {l : Launch} {e : Env} {R : Room} {s : State} {m : MethodId} {args : Array Value} {below : List Frame} {meth : Method} {c : Code} {E : Ev} {nL : Nat} {A : Nat → Prop} {Q : State → Prop} {X : va_W} {S : HS} {cells slots pc : Nat} {lv : List (Nat × Value)} {st : List Value} {cc : ByteArray} {y : MethodName} {ret : Option FieldType} {c0 : Cond}
theorem Cx.x (C : Cx p s m args meth c cc nL y ret c0 E A) : p.tables.exec = Jvm.exec := C.1
theorem Cx.b (C : Cx p s m args meth c cc nL y ret c0 E A) : c.code = cc := C.2.1
theorem Cx.ml (C : Cx p s m args meth c cc nL y ret c0 E A) : c.maxLocals = nL := C.2.2.1
theorem Cx.own (C : Cx p s m args meth c cc nL y ret c0 E A) : s.vm.findClass y.cls = some m.cls := C.2.2.2.1
theorem Cx.ts (C : Cx p s m args meth c cc nL y ret c0 E A) : ∀ w ∈ c0 :: wT, w.before args s = true := C.2.2.2.2.1
theorem Cx.w (C : Cx p s m args meth c cc nL y ret c0 E A) {w : Cond} (h : w ∈ wT) : w.before args s = true := C.ts w (List.mem_cons_of_mem _ h)
theorem Cx.k (C : Cx p s m args meth c cc nL y ret c0 E A) : va_K E.D vwCl E.ty s := C.2.2.2.2.2.1
theorem Cx.a (C : Cx p s m args meth c cc nL y ret c0 E A) : ∀ q, s.heap.size ≤ q → A q := C.2.2.2.2.2.2.1
theorem Cx.z (C : Cx p s m args meth c cc nL y ret c0 E A) : Zst E A s s.heap := C.2.2.2.2.2.2.2.1
theorem Cx.r (C : Cx p s m args meth c cc nL y ret c0 E A) : meth.sig.returnType = ret := C.2.2.2.2.2.2.2.2.1
theorem Cx.lk (C : Cx p s m args meth c cc nL y ret c0 E A) : meth.locks = false := C.2.2.2.2.2.2.2.2.2.1
theorem Cx.nm (C : Cx p s m args meth c cc nL y ret c0 E A) : meth.name = y.name := C.2.2.2.2.2.2.2.2.2.2
theorem g_iconst (C : Cx p s m args meth c cc nL y ret c0 E A) {n : Int} (v : Int32) (hd : decode cc pc = .ok (.iconst n, 1)) (hv : Int32.ofInt n = v) (kk : GW p l e R s m args below meth c E nL A Q X S cells slots (pc + 1) lv (.int v :: st)) : GW p l e R s m args below meth c E nL A Q X S cells slots pc lv st := by
  intro H locs ls hP hD hS hl
  exact lv_iconst C.x C.b hd hv (kk H locs ls hP hD hS hl)
theorem g_bipush (C : Cx p s m args meth c cc nL y ret c0 E A) {n : Int} (v : Int32) (hd : decode cc pc = .ok (.bipush n, 2)) (hv : (Int8.ofInt n).toInt32 = v) (kk : GW p l e R s m args below meth c E nL A Q X S cells slots (pc + 2) lv (.int v :: st)) : GW p l e R s m args below meth c E nL A Q X S cells slots pc lv st := by
  intro H locs ls hP hD hS hl
  exact lv_bipush C.x C.b hd hv (kk H locs ls hP hD hS hl)
theorem g_sipush (C : Cx p s m args meth c cc nL y ret c0 E A) {n : Int} (v : Int32) (hd : decode cc pc = .ok (.sipush n, 3)) (hv : (Int16.ofInt n).toInt32 = v) (kk : GW p l e R s m args below meth c E nL A Q X S cells slots (pc + 3) lv (.int v :: st)) : GW p l e R s m args below meth c E nL A Q X S cells slots pc lv st := by
  intro H locs ls hP hD hS hl
  exact lv_sipush C.x C.b hd hv (kk H locs ls hP hD hS hl)
theorem g_lconst (C : Cx p s m args meth c cc nL y ret c0 E A) {n : Fin 2} (v : Int64) (hd : decode cc pc = .ok (.lconst n, 1)) (hv : Int64.ofNat (n : Nat) = v) (kk : GW p l e R s m args below meth c E nL A Q X S cells slots (pc + 1) lv (.long v :: st)) : GW p l e R s m args below meth c E nL A Q X S cells slots pc lv st := by
  intro H locs ls hP hD hS hl
  exact lv_lconst C.x C.b hd hv (kk H locs ls hP hD hS hl)
theorem g_ldc (C : Cx p s m args meth c cc nL y ret c0 E A) {index : Nat} {v : Int32} (hw : Cond.constant y.cls index v ∈ wT) (hd : decode cc pc = .ok (.ldc index, 2)) (kk : GW p l e R s m args below meth c E nL A Q X S cells slots (pc + 2) lv (.int v :: st)) : GW p l e R s m args below meth c E nL A Q X S cells slots pc lv st := by
  intro H locs ls hP hD hS hl
  exact lv_ldc C.x C.b C.own (C.w hw) hd (kk H locs ls hP hD hS hl)
theorem g_ldc2 (C : Cx p s m args meth c cc nL y ret c0 E A) {index : Nat} {v : Int64} (hw : Cond.constantLong y.cls index v ∈ wT) (hd : decode cc pc = .ok (.ldc2_w index, 3)) (kk : GW p l e R s m args below meth c E nL A Q X S cells slots (pc + 3) lv (.long v :: st)) : GW p l e R s m args below meth c E nL A Q X S cells slots pc lv st := by
  intro H locs ls hP hD hS hl
  exact lv_ldc2 C.x C.b C.own (C.w hw) hd (kk H locs ls hP hD hS hl)
theorem g_iload_n (C : Cx p s m args meth c cc nL y ret c0 E A) {k : Fin 4} {i : Nat} {x : Int32} (j : Nat) (hd : decode cc pc = .ok (.iload_n k, 1)) (hi : (k : Nat) = i) (hj : lv[j]? = some (i, .int x)) (kk : GW p l e R s m args below meth c E nL A Q X S cells slots (pc + 1) lv (.int x :: st)) : GW p l e R s m args below meth c E nL A Q X S cells slots pc lv st := by
  intro H locs ls hP hD hS hl
  exact lv_iload_n C.x C.b hd hi (lv_at hl j hj) (kk H locs ls hP hD hS hl)
theorem g_iload (C : Cx p s m args meth c cc nL y ret c0 E A) {i : Nat} {x : Int32} (j : Nat) (hd : decode cc pc = .ok (.iload i, 2)) (hj : lv[j]? = some (i, .int x)) (kk : GW p l e R s m args below meth c E nL A Q X S cells slots (pc + 2) lv (.int x :: st)) : GW p l e R s m args below meth c E nL A Q X S cells slots pc lv st := by
  intro H locs ls hP hD hS hl
  exact lv_iload C.x C.b hd (lv_at hl j hj) (kk H locs ls hP hD hS hl)
theorem g_lload_n (C : Cx p s m args meth c cc nL y ret c0 E A) {k : Fin 4} {i : Nat} {x : Int64} (j : Nat) (hd : decode cc pc = .ok (.lload_n k, 1)) (hi : (k : Nat) = i) (hj : lv[j]? = some (i, .long x)) (kk : GW p l e R s m args below meth c E nL A Q X S cells slots (pc + 1) lv (.long x :: st)) : GW p l e R s m args below meth c E nL A Q X S cells slots pc lv st := by
  intro H locs ls hP hD hS hl
  exact lv_lload_n C.x C.b hd hi (lv_at hl j hj) (kk H locs ls hP hD hS hl)
theorem g_lload (C : Cx p s m args meth c cc nL y ret c0 E A) {i : Nat} {x : Int64} (j : Nat) (hd : decode cc pc = .ok (.lload i, 2)) (hj : lv[j]? = some (i, .long x)) (kk : GW p l e R s m args below meth c E nL A Q X S cells slots (pc + 2) lv (.long x :: st)) : GW p l e R s m args below meth c E nL A Q X S cells slots pc lv st := by
  intro H locs ls hP hD hS hl
  exact lv_lload C.x C.b hd (lv_at hl j hj) (kk H locs ls hP hD hS hl)
theorem g_aload_n (C : Cx p s m args meth c cc nL y ret c0 E A) {k : Fin 4} {i : Nat} {x : Nat} (j : Nat) (hd : decode cc pc = .ok (.aload_n k, 1)) (hi : (k : Nat) = i) (hj : lv[j]? = some (i, .ref x)) (kk : GW p l e R s m args below meth c E nL A Q X S cells slots (pc + 1) lv (.ref x :: st)) : GW p l e R s m args below meth c E nL A Q X S cells slots pc lv st := by
  intro H locs ls hP hD hS hl
  exact lv_aload_n C.x C.b hd hi (lv_at hl j hj) (kk H locs ls hP hD hS hl)
theorem g_aload (C : Cx p s m args meth c cc nL y ret c0 E A) {i : Nat} {x : Nat} (j : Nat) (hd : decode cc pc = .ok (.aload i, 2)) (hj : lv[j]? = some (i, .ref x)) (kk : GW p l e R s m args below meth c E nL A Q X S cells slots (pc + 2) lv (.ref x :: st)) : GW p l e R s m args below meth c E nL A Q X S cells slots pc lv st := by
  intro H locs ls hP hD hS hl
  exact lv_aload C.x C.b hd (lv_at hl j hj) (kk H locs ls hP hD hS hl)
theorem g_istore_n (C : Cx p s m args meth c cc nL y ret c0 E A) {k : Fin 4} {i : Nat} {x : Int32} (lv2 : List (Nat × Value)) (hd : decode cc pc = .ok (.istore_n k, 1)) (hi : (k : Nat) = i) (hn : i < nL) (hv : (i, Value.int x) :: lv.filter (fun q => !(q.1 == i) && !(q.1 + 1 == i && q.2.category == 2)) = lv2) (kk : GW p l e R s m args below meth c E nL A Q X S cells slots (pc + 1) lv2 st) : GW p l e R s m args below meth c E nL A Q X S cells slots pc lv (.int x :: st) := by
  intro H locs ls hP hD hS hl
  exact lv_istore_n C.x C.b hd hi hl hn hv (fun ls2 hl2 => kk H locs ls2 hP hD hS hl2)
theorem g_istore (C : Cx p s m args meth c cc nL y ret c0 E A) {i : Nat} {x : Int32} (lv2 : List (Nat × Value)) (hd : decode cc pc = .ok (.istore i, 2)) (hn : i < nL) (hv : (i, Value.int x) :: lv.filter (fun q => !(q.1 == i) && !(q.1 + 1 == i && q.2.category == 2)) = lv2) (kk : GW p l e R s m args below meth c E nL A Q X S cells slots (pc + 2) lv2 st) : GW p l e R s m args below meth c E nL A Q X S cells slots pc lv (.int x :: st) := by
  intro H locs ls hP hD hS hl
  exact lv_istore C.x C.b hd hl hn hv (fun ls2 hl2 => kk H locs ls2 hP hD hS hl2)
theorem g_lstore_n (C : Cx p s m args meth c cc nL y ret c0 E A) {k : Fin 4} {i : Nat} {x : Int64} (lv2 : List (Nat × Value)) (hd : decode cc pc = .ok (.lstore_n k, 1)) (hi : (k : Nat) = i) (hn : i + 1 < nL) (hv : (i, Value.long x) :: lv.filter (fun q => !(q.1 == i) && (!(q.1 == i + 1) && !(q.1 + 1 == i && q.2.category == 2))) = lv2) (kk : GW p l e R s m args below meth c E nL A Q X S cells slots (pc + 1) lv2 st) : GW p l e R s m args below meth c E nL A Q X S cells slots pc lv (.long x :: st) := by
  intro H locs ls hP hD hS hl
  exact lv_lstore_n C.x C.b hd hi hl hn hv (fun ls2 hl2 => kk H locs ls2 hP hD hS hl2)
theorem g_lstore (C : Cx p s m args meth c cc nL y ret c0 E A) {i : Nat} {x : Int64} (lv2 : List (Nat × Value)) (hd : decode cc pc = .ok (.lstore i, 2)) (hn : i + 1 < nL) (hv : (i, Value.long x) :: lv.filter (fun q => !(q.1 == i) && (!(q.1 == i + 1) && !(q.1 + 1 == i && q.2.category == 2))) = lv2) (kk : GW p l e R s m args below meth c E nL A Q X S cells slots (pc + 2) lv2 st) : GW p l e R s m args below meth c E nL A Q X S cells slots pc lv (.long x :: st) := by
  intro H locs ls hP hD hS hl
  exact lv_lstore C.x C.b hd hl hn hv (fun ls2 hl2 => kk H locs ls2 hP hD hS hl2)
theorem g_astore_n (C : Cx p s m args meth c cc nL y ret c0 E A) {k : Fin 4} {i : Nat} {x : Nat} (lv2 : List (Nat × Value)) (hd : decode cc pc = .ok (.astore_n k, 1)) (hi : (k : Nat) = i) (hn : i < nL) (hv : (i, Value.ref x) :: lv.filter (fun q => !(q.1 == i) && !(q.1 + 1 == i && q.2.category == 2)) = lv2) (kk : GW p l e R s m args below meth c E nL A Q X S cells slots (pc + 1) lv2 st) : GW p l e R s m args below meth c E nL A Q X S cells slots pc lv (.ref x :: st) := by
  intro H locs ls hP hD hS hl
  exact lv_astore_n C.x C.b hd hi hl hn hv (fun ls2 hl2 => kk H locs ls2 hP hD hS hl2)
theorem g_astore (C : Cx p s m args meth c cc nL y ret c0 E A) {i : Nat} {x : Nat} (lv2 : List (Nat × Value)) (hd : decode cc pc = .ok (.astore i, 2)) (hn : i < nL) (hv : (i, Value.ref x) :: lv.filter (fun q => !(q.1 == i) && !(q.1 + 1 == i && q.2.category == 2)) = lv2) (kk : GW p l e R s m args below meth c E nL A Q X S cells slots (pc + 2) lv2 st) : GW p l e R s m args below meth c E nL A Q X S cells slots pc lv (.ref x :: st) := by
  intro H locs ls hP hD hS hl
  exact lv_astore C.x C.b hd hl hn hv (fun ls2 hl2 => kk H locs ls2 hP hD hS hl2)
theorem g_iinc (C : Cx p s m args meth c cc nL y ret c0 E A) {i : Nat} {n : Int} {x : Int32} (v : Int32) (j : Nat) (lv2 : List (Nat × Value)) (hd : decode cc pc = .ok (.iinc i n, 3)) (hj : lv[j]? = some (i, .int x)) (hx : x + Int32.ofInt n = v) (hn : i < nL) (hv : (i, Value.int v) :: lv.filter (fun q => !(q.1 == i) && !(q.1 + 1 == i && q.2.category == 2)) = lv2) (kk : GW p l e R s m args below meth c E nL A Q X S cells slots (pc + 3) lv2 st) : GW p l e R s m args below meth c E nL A Q X S cells slots pc lv st := by
  intro H locs ls hP hD hS hl
  exact lv_iinc C.x C.b hd hl hj hx hn hv (fun ls2 hl2 => kk H locs ls2 hP hD hS hl2)
theorem g_locs {lv2 : List (Nat × Value)} (ks : List Nat) (hk : lv_pick lv ks = lv2) (kk : GW p l e R s m args below meth c E nL A Q X S cells slots pc lv2 st) : GW p l e R s m args below meth c E nL A Q X S cells slots pc lv st := fun H locs ls hP hD hS hl => kk H locs ls hP hD hS (lv_sub hl ks hk)
theorem g_iadd (C : Cx p s m args meth c cc nL y ret c0 E A) {x z : Int32} (hd : decode cc pc = .ok (.iadd, 1)) (kk : GW p l e R s m args below meth c E nL A Q X S cells slots (pc + 1) lv (.int (x + z) :: st)) : GW p l e R s m args below meth c E nL A Q X S cells slots pc lv (.int z :: .int x :: st) := by
  intro H locs ls hP hD hS hl
  exact lv_iadd C.x C.b hd (kk H locs ls hP hD hS hl)
theorem g_isub (C : Cx p s m args meth c cc nL y ret c0 E A) {x z : Int32} (hd : decode cc pc = .ok (.isub, 1)) (kk : GW p l e R s m args below meth c E nL A Q X S cells slots (pc + 1) lv (.int (x - z) :: st)) : GW p l e R s m args below meth c E nL A Q X S cells slots pc lv (.int z :: .int x :: st) := by
  intro H locs ls hP hD hS hl
  exact lv_isub C.x C.b hd (kk H locs ls hP hD hS hl)
theorem g_imul (C : Cx p s m args meth c cc nL y ret c0 E A) {x z : Int32} (hd : decode cc pc = .ok (.imul, 1)) (kk : GW p l e R s m args below meth c E nL A Q X S cells slots (pc + 1) lv (.int (x * z) :: st)) : GW p l e R s m args below meth c E nL A Q X S cells slots pc lv (.int z :: .int x :: st) := by
  intro H locs ls hP hD hS hl
  exact lv_imul C.x C.b hd (kk H locs ls hP hD hS hl)
theorem g_iand (C : Cx p s m args meth c cc nL y ret c0 E A) {x z : Int32} (hd : decode cc pc = .ok (.iand, 1)) (kk : GW p l e R s m args below meth c E nL A Q X S cells slots (pc + 1) lv (.int (x &&& z) :: st)) : GW p l e R s m args below meth c E nL A Q X S cells slots pc lv (.int z :: .int x :: st) := by
  intro H locs ls hP hD hS hl
  exact lv_iand C.x C.b hd (kk H locs ls hP hD hS hl)
theorem g_idiv (C : Cx p s m args meth c cc nL y ret c0 E A) {x z : Int32} (hd : decode cc pc = .ok (.idiv, 1)) (hne : ¬ z = 0) (kk : GW p l e R s m args below meth c E nL A Q X S cells slots (pc + 1) lv (.int (x / z) :: st)) : GW p l e R s m args below meth c E nL A Q X S cells slots pc lv (.int z :: .int x :: st) := by
  intro H locs ls hP hD hS hl
  exact lv_idiv C.x C.b hd hne (kk H locs ls hP hD hS hl)
theorem g_ladd (C : Cx p s m args meth c cc nL y ret c0 E A) {x z : Int64} (hd : decode cc pc = .ok (.ladd, 1)) (kk : GW p l e R s m args below meth c E nL A Q X S cells slots (pc + 1) lv (.long (x + z) :: st)) : GW p l e R s m args below meth c E nL A Q X S cells slots pc lv (.long z :: .long x :: st) := by
  intro H locs ls hP hD hS hl
  exact lv_ladd C.x C.b hd (kk H locs ls hP hD hS hl)
theorem g_lsub (C : Cx p s m args meth c cc nL y ret c0 E A) {x z : Int64} (hd : decode cc pc = .ok (.lsub, 1)) (kk : GW p l e R s m args below meth c E nL A Q X S cells slots (pc + 1) lv (.long (x - z) :: st)) : GW p l e R s m args below meth c E nL A Q X S cells slots pc lv (.long z :: .long x :: st) := by
  intro H locs ls hP hD hS hl
  exact lv_lsub C.x C.b hd (kk H locs ls hP hD hS hl)
theorem g_land (C : Cx p s m args meth c cc nL y ret c0 E A) {x z : Int64} (hd : decode cc pc = .ok (.land, 1)) (kk : GW p l e R s m args below meth c E nL A Q X S cells slots (pc + 1) lv (.long (x &&& z) :: st)) : GW p l e R s m args below meth c E nL A Q X S cells slots pc lv (.long z :: .long x :: st) := by
  intro H locs ls hP hD hS hl
  exact lv_land C.x C.b hd (kk H locs ls hP hD hS hl)
theorem g_lor (C : Cx p s m args meth c cc nL y ret c0 E A) {x z : Int64} (hd : decode cc pc = .ok (.lor, 1)) (kk : GW p l e R s m args below meth c E nL A Q X S cells slots (pc + 1) lv (.long (x ||| z) :: st)) : GW p l e R s m args below meth c E nL A Q X S cells slots pc lv (.long z :: .long x :: st) := by
  intro H locs ls hP hD hS hl
  exact lv_lor C.x C.b hd (kk H locs ls hP hD hS hl)
theorem g_lshl (C : Cx p s m args meth c cc nL y ret c0 E A) {x : Int64} {z : Int32} (v : Int64) (hd : decode cc pc = .ok (.lshl, 1)) (hv : x <<< (z.toInt64 &&& 63) = v) (kk : GW p l e R s m args below meth c E nL A Q X S cells slots (pc + 1) lv (.long v :: st)) : GW p l e R s m args below meth c E nL A Q X S cells slots pc lv (.int z :: .long x :: st) := by
  intro H locs ls hP hD hS hl
  exact lv_lshl C.x C.b hd hv (kk H locs ls hP hD hS hl)
theorem g_i2l (C : Cx p s m args meth c cc nL y ret c0 E A) {x : Int32} (v : Int64) (hd : decode cc pc = .ok (.i2l, 1)) (hv : x.toInt64 = v) (kk : GW p l e R s m args below meth c E nL A Q X S cells slots (pc + 1) lv (.long v :: st)) : GW p l e R s m args below meth c E nL A Q X S cells slots pc lv (.int x :: st) := by
  intro H locs ls hP hD hS hl
  exact lv_i2l C.x C.b hd hv (kk H locs ls hP hD hS hl)
theorem g_lcmp (C : Cx p s m args meth c cc nL y ret c0 E A) {x z : Int64} (hd : decode cc pc = .ok (.lcmp, 1)) (kk : GW p l e R s m args below meth c E nL A Q X S cells slots (pc + 1) lv (.int (lg_cmp x z) :: st)) : GW p l e R s m args below meth c E nL A Q X S cells slots pc lv (.long z :: .long x :: st) := by
  intro H locs ls hP hD hS hl
  exact W.lcmp C.x C.b hd (kk H locs ls hP hD hS hl)
theorem g_dup (C : Cx p s m args meth c cc nL y ret c0 E A) {v : Value} (hd : decode cc pc = .ok (.dup, 1)) (hc : v.category = 1) (kk : GW p l e R s m args below meth c E nL A Q X S cells slots (pc + 1) lv (v :: v :: st)) : GW p l e R s m args below meth c E nL A Q X S cells slots pc lv (v :: st) := by
  intro H locs ls hP hD hS hl
  exact lv_dup C.x C.b hd hc (kk H locs ls hP hD hS hl)
theorem g_pop (C : Cx p s m args meth c cc nL y ret c0 E A) {v : Value} (hd : decode cc pc = .ok (.pop, 1)) (hc : v.category = 1) (kk : GW p l e R s m args below meth c E nL A Q X S cells slots (pc + 1) lv st) : GW p l e R s m args below meth c E nL A Q X S cells slots pc lv (v :: st) := by
  intro H locs ls hP hD hS hl
  exact lv_pop C.x C.b hd hc (kk H locs ls hP hD hS hl)
theorem g_dup_x1 (C : Cx p s m args meth c cc nL y ret c0 E A) {v u : Value} (hd : decode cc pc = .ok (.dup_x1, 1)) (hc : v.category = 1) (hc2 : u.category = 1) (kk : GW p l e R s m args below meth c E nL A Q X S cells slots (pc + 1) lv (v :: u :: v :: st)) : GW p l e R s m args below meth c E nL A Q X S cells slots pc lv (v :: u :: st) := by
  intro H locs ls hP hD hS hl
  exact lv_dup_x1 C.x C.b hd hc hc2 (kk H locs ls hP hD hS hl)
theorem g_null (C : Cx p s m args meth c cc nL y ret c0 E A) (hd : decode cc pc = .ok (.aconst_null, 1)) (kk : GW p l e R s m args below meth c E nL A Q X S cells slots (pc + 1) lv (.null :: st)) : GW p l e R s m args below meth c E nL A Q X S cells slots pc lv st := by
  intro H locs ls hP hD hS hl
  exact lv_null C.x C.b hd (kk H locs ls hP hD hS hl)
theorem g_if_eq (C : Cx p s m args meth c cc nL y ret c0 E A) {x : Int32} {off : Int} (tgt : Nat) (hd : decode cc pc = .ok (.ifCond .eq off, 3)) (ht : (pc : Int) + off = (tgt : Int)) (kt : x = 0 → GW p l e R s m args below meth c E nL A Q X S cells slots tgt lv st) (kf : ¬ x = 0 → GW p l e R s m args below meth c E nL A Q X S cells slots (pc + 3) lv st) : GW p l e R s m args below meth c E nL A Q X S cells slots pc lv (.int x :: st) := by
  intro H locs ls hP hD hS hl
  exact lv_if_eq C.x C.b hd ht (fun h => kt h H locs ls hP hD hS hl) (fun h => kf h H locs ls hP hD hS hl)
theorem g_icmp_eq (C : Cx p s m args meth c cc nL y ret c0 E A) {x z : Int32} {off : Int} (tgt : Nat) (hd : decode cc pc = .ok (.if_icmp .eq off, 3)) (ht : (pc : Int) + off = (tgt : Int)) (kt : x = z → GW p l e R s m args below meth c E nL A Q X S cells slots tgt lv st) (kf : ¬ x = z → GW p l e R s m args below meth c E nL A Q X S cells slots (pc + 3) lv st) : GW p l e R s m args below meth c E nL A Q X S cells slots pc lv (.int z :: .int x :: st) := by
  intro H locs ls hP hD hS hl
  exact lv_icmp_eq C.x C.b hd ht (fun h => kt h H locs ls hP hD hS hl) (fun h => kf h H locs ls hP hD hS hl)
theorem g_if_ne (C : Cx p s m args meth c cc nL y ret c0 E A) {x : Int32} {off : Int} (tgt : Nat) (hd : decode cc pc = .ok (.ifCond .ne off, 3)) (ht : (pc : Int) + off = (tgt : Int)) (kt : ¬ x = 0 → GW p l e R s m args below meth c E nL A Q X S cells slots tgt lv st) (kf : x = 0 → GW p l e R s m args below meth c E nL A Q X S cells slots (pc + 3) lv st) : GW p l e R s m args below meth c E nL A Q X S cells slots pc lv (.int x :: st) := by
  intro H locs ls hP hD hS hl
  exact lv_if_ne C.x C.b hd ht (fun h => kt h H locs ls hP hD hS hl) (fun h => kf h H locs ls hP hD hS hl)
theorem g_icmp_ne (C : Cx p s m args meth c cc nL y ret c0 E A) {x z : Int32} {off : Int} (tgt : Nat) (hd : decode cc pc = .ok (.if_icmp .ne off, 3)) (ht : (pc : Int) + off = (tgt : Int)) (kt : ¬ x = z → GW p l e R s m args below meth c E nL A Q X S cells slots tgt lv st) (kf : x = z → GW p l e R s m args below meth c E nL A Q X S cells slots (pc + 3) lv st) : GW p l e R s m args below meth c E nL A Q X S cells slots pc lv (.int z :: .int x :: st) := by
  intro H locs ls hP hD hS hl
  exact lv_icmp_ne C.x C.b hd ht (fun h => kt h H locs ls hP hD hS hl) (fun h => kf h H locs ls hP hD hS hl)
theorem g_if_lt (C : Cx p s m args meth c cc nL y ret c0 E A) {x : Int32} {off : Int} (tgt : Nat) (hd : decode cc pc = .ok (.ifCond .lt off, 3)) (ht : (pc : Int) + off = (tgt : Int)) (kt : x < 0 → GW p l e R s m args below meth c E nL A Q X S cells slots tgt lv st) (kf : ¬ x < 0 → GW p l e R s m args below meth c E nL A Q X S cells slots (pc + 3) lv st) : GW p l e R s m args below meth c E nL A Q X S cells slots pc lv (.int x :: st) := by
  intro H locs ls hP hD hS hl
  exact lv_if_lt C.x C.b hd ht (fun h => kt h H locs ls hP hD hS hl) (fun h => kf h H locs ls hP hD hS hl)
theorem g_icmp_lt (C : Cx p s m args meth c cc nL y ret c0 E A) {x z : Int32} {off : Int} (tgt : Nat) (hd : decode cc pc = .ok (.if_icmp .lt off, 3)) (ht : (pc : Int) + off = (tgt : Int)) (kt : x < z → GW p l e R s m args below meth c E nL A Q X S cells slots tgt lv st) (kf : ¬ x < z → GW p l e R s m args below meth c E nL A Q X S cells slots (pc + 3) lv st) : GW p l e R s m args below meth c E nL A Q X S cells slots pc lv (.int z :: .int x :: st) := by
  intro H locs ls hP hD hS hl
  exact lv_icmp_lt C.x C.b hd ht (fun h => kt h H locs ls hP hD hS hl) (fun h => kf h H locs ls hP hD hS hl)
theorem g_if_ge (C : Cx p s m args meth c cc nL y ret c0 E A) {x : Int32} {off : Int} (tgt : Nat) (hd : decode cc pc = .ok (.ifCond .ge off, 3)) (ht : (pc : Int) + off = (tgt : Int)) (kt : 0 ≤ x → GW p l e R s m args below meth c E nL A Q X S cells slots tgt lv st) (kf : ¬ 0 ≤ x → GW p l e R s m args below meth c E nL A Q X S cells slots (pc + 3) lv st) : GW p l e R s m args below meth c E nL A Q X S cells slots pc lv (.int x :: st) := by
  intro H locs ls hP hD hS hl
  exact lv_if_ge C.x C.b hd ht (fun h => kt h H locs ls hP hD hS hl) (fun h => kf h H locs ls hP hD hS hl)
theorem g_icmp_ge (C : Cx p s m args meth c cc nL y ret c0 E A) {x z : Int32} {off : Int} (tgt : Nat) (hd : decode cc pc = .ok (.if_icmp .ge off, 3)) (ht : (pc : Int) + off = (tgt : Int)) (kt : z ≤ x → GW p l e R s m args below meth c E nL A Q X S cells slots tgt lv st) (kf : ¬ z ≤ x → GW p l e R s m args below meth c E nL A Q X S cells slots (pc + 3) lv st) : GW p l e R s m args below meth c E nL A Q X S cells slots pc lv (.int z :: .int x :: st) := by
  intro H locs ls hP hD hS hl
  exact lv_icmp_ge C.x C.b hd ht (fun h => kt h H locs ls hP hD hS hl) (fun h => kf h H locs ls hP hD hS hl)
theorem g_if_gt (C : Cx p s m args meth c cc nL y ret c0 E A) {x : Int32} {off : Int} (tgt : Nat) (hd : decode cc pc = .ok (.ifCond .gt off, 3)) (ht : (pc : Int) + off = (tgt : Int)) (kt : 0 < x → GW p l e R s m args below meth c E nL A Q X S cells slots tgt lv st) (kf : ¬ 0 < x → GW p l e R s m args below meth c E nL A Q X S cells slots (pc + 3) lv st) : GW p l e R s m args below meth c E nL A Q X S cells slots pc lv (.int x :: st) := by
  intro H locs ls hP hD hS hl
  exact lv_if_gt C.x C.b hd ht (fun h => kt h H locs ls hP hD hS hl) (fun h => kf h H locs ls hP hD hS hl)
theorem g_icmp_gt (C : Cx p s m args meth c cc nL y ret c0 E A) {x z : Int32} {off : Int} (tgt : Nat) (hd : decode cc pc = .ok (.if_icmp .gt off, 3)) (ht : (pc : Int) + off = (tgt : Int)) (kt : z < x → GW p l e R s m args below meth c E nL A Q X S cells slots tgt lv st) (kf : ¬ z < x → GW p l e R s m args below meth c E nL A Q X S cells slots (pc + 3) lv st) : GW p l e R s m args below meth c E nL A Q X S cells slots pc lv (.int z :: .int x :: st) := by
  intro H locs ls hP hD hS hl
  exact lv_icmp_gt C.x C.b hd ht (fun h => kt h H locs ls hP hD hS hl) (fun h => kf h H locs ls hP hD hS hl)
theorem g_if_le (C : Cx p s m args meth c cc nL y ret c0 E A) {x : Int32} {off : Int} (tgt : Nat) (hd : decode cc pc = .ok (.ifCond .le off, 3)) (ht : (pc : Int) + off = (tgt : Int)) (kt : x ≤ 0 → GW p l e R s m args below meth c E nL A Q X S cells slots tgt lv st) (kf : ¬ x ≤ 0 → GW p l e R s m args below meth c E nL A Q X S cells slots (pc + 3) lv st) : GW p l e R s m args below meth c E nL A Q X S cells slots pc lv (.int x :: st) := by
  intro H locs ls hP hD hS hl
  exact lv_if_le C.x C.b hd ht (fun h => kt h H locs ls hP hD hS hl) (fun h => kf h H locs ls hP hD hS hl)
theorem g_icmp_le (C : Cx p s m args meth c cc nL y ret c0 E A) {x z : Int32} {off : Int} (tgt : Nat) (hd : decode cc pc = .ok (.if_icmp .le off, 3)) (ht : (pc : Int) + off = (tgt : Int)) (kt : x ≤ z → GW p l e R s m args below meth c E nL A Q X S cells slots tgt lv st) (kf : ¬ x ≤ z → GW p l e R s m args below meth c E nL A Q X S cells slots (pc + 3) lv st) : GW p l e R s m args below meth c E nL A Q X S cells slots pc lv (.int z :: .int x :: st) := by
  intro H locs ls hP hD hS hl
  exact lv_icmp_le C.x C.b hd ht (fun h => kt h H locs ls hP hD hS hl) (fun h => kf h H locs ls hP hD hS hl)
theorem g_goto (C : Cx p s m args meth c cc nL y ret c0 E A) {off : Int} (tgt : Nat) (hd : decode cc pc = .ok (.goto off, 3)) (ht : (pc : Int) + off = (tgt : Int)) (kk : GW p l e R s m args below meth c E nL A Q X S cells slots tgt lv st) : GW p l e R s m args below meth c E nL A Q X S cells slots pc lv st := by
  intro H locs ls hP hD hS hl
  exact lv_goto C.x C.b hd ht (kk H locs ls hP hD hS hl)
theorem g_acmp_eq (C : Cx p s m args meth c cc nL y ret c0 E A) {rx ry : Option Nat} {off : Int} (tgt : Nat) (hd : decode cc pc = .ok (.if_acmp .eq off, 3)) (ht : (pc : Int) + off = (tgt : Int)) (kt : rx = ry → GW p l e R s m args below meth c E nL A Q X S cells slots tgt lv st) (kf : ¬ rx = ry → GW p l e R s m args below meth c E nL A Q X S cells slots (pc + 3) lv st) : GW p l e R s m args below meth c E nL A Q X S cells slots pc lv (va_rf ry :: va_rf rx :: st) := by
  intro H locs ls hP hD hS hl
  exact lv_acmp_eq C.x C.b hd ht (fun h => kt h H locs ls hP hD hS hl) (fun h => kf h H locs ls hP hD hS hl)
theorem g_acmp_ne (C : Cx p s m args meth c cc nL y ret c0 E A) {rx ry : Option Nat} {off : Int} (tgt : Nat) (hd : decode cc pc = .ok (.if_acmp .ne off, 3)) (ht : (pc : Int) + off = (tgt : Int)) (kt : ¬ rx = ry → GW p l e R s m args below meth c E nL A Q X S cells slots tgt lv st) (kf : rx = ry → GW p l e R s m args below meth c E nL A Q X S cells slots (pc + 3) lv st) : GW p l e R s m args below meth c E nL A Q X S cells slots pc lv (va_rf ry :: va_rf rx :: st) := by
  intro H locs ls hP hD hS hl
  exact lv_acmp_ne C.x C.b hd ht (fun h => kt h H locs ls hP hD hS hl) (fun h => kf h H locs ls hP hD hS hl)
theorem g_ni {x : Int32} (kk : ∀ z : Int32, z = x → GW p l e R s m args below meth c E nL A Q X S cells slots pc lv (.int z :: st)) : GW p l e R s m args below meth c E nL A Q X S cells slots pc lv (.int x :: st) := kk x rfl
theorem g_nl {x : Int64} (kk : ∀ z : Int64, z = x → GW p l e R s m args below meth c E nL A Q X S cells slots pc lv (.long z :: st)) : GW p l e R s m args below meth c E nL A Q X S cells slots pc lv (.long x :: st) := kk x rfl
theorem g_vi {x : Int32} (z : Int32) (h : x = z) (kk : GW p l e R s m args below meth c E nL A Q X S cells slots pc lv (.int z :: st)) : GW p l e R s m args below meth c E nL A Q X S cells slots pc lv (.int x :: st) := h ▸ kk
theorem g_widen (k n : Nat) (h1 : cells ≤ k) (h2 : slots ≤ n) (kk : GW p l e R s m args below meth c E nL A Q X S k n pc lv st) : GW p l e R s m args below meth c E nL A Q X S cells slots pc lv st := fun H locs ls hP hD hS hl => W.widen h1 h2 (kk H locs ls hP hD hS hl)
end GRows
