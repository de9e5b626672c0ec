/-! a throw that this method's own table catches: the rows are gone through one by one, each naming a class that links -/
section CatchRows
variable {e : Env} {S : State} {f : JFrame} {a : Addr}
/-- one row that covers the place and names a class: it takes the thing, or the next row is asked, the tables warmer by one entry -/
theorem cx_row {Q : Handler → Pre} {E : CtlPost} {d : Bool} {acts : List Action} {x : ExceptionTableEntry} {t : List ExceptionTableEntry} {c : ClassId} {cell : Cell} {b : Bool} (hx : covers x f.pc = true) (h0 : x.catchType ≠ 0)
    (hl : S.vm.ClassLinks e.platform f.method.cls x.catchType c) (hcell : S.heap[a]? = some cell) (hobj : ∀ k, cell.vm ≠ .statics k)
    (hk : ∃ k, S.vm.classes[cell.cls]? = some k) (hc : ∃ k, S.vm.classes[c]? = some k) (hfit : S.vm.assignable cell.cls c = b) :
    wp (findHandler.go f a (x :: t)) Q E e d acts S ↔ (if b = true then Q (.found x.handlerPc) d acts (S.setVm (S.vm.noted f.method.cls x.catchType (.cls c))) else wp (findHandler.go f a t) Q E e d acts (S.setVm (S.vm.noted f.method.cls x.catchType (.cls c)))) := by
  simp only [covers] at hx
  obtain ⟨ha, ht⟩ := (resolveClass_links e.toSetting hl).op (op := VmOp.resolveClass f.method.cls x.catchType) rfl
  have hal : S.vm.Alike (S.vm.noted f.method.cls x.catchType (.cls c)) := (Vm.Alike.refl S.vm).noted _ _ _
  obtain ⟨k1, hk1⟩ := hk
  obtain ⟨k2, hk2⟩ := hc
  obtain ⟨k1', hk1', -⟩ := hal.2.2 _ _ hk1
  obtain ⟨k2', hk2', -⟩ := hal.2.2 _ _ hk2
  have hfit' : (S.vm.noted f.method.cls x.catchType (.cls c)).assignable cell.cls c = b := by rw [hal.assignable]; exact hfit
  cases b with
  | true => simp [findHandler.go, hx, h0, ha, ht, hcell, hobj, hk1', hk2', hfit', VmOp.dirties, VmOp.acts]
  | false => simp [findHandler.go, hx, h0, ha, ht, hcell, hobj, hk1', hk2', hfit', VmOp.dirties, VmOp.acts]
end CatchRows
/-- a row that lets the thing pass: it doesn't cover the place, or it names a class that the thing is none of -/
def cx_Pass (pl : Platform) (s : State) (d : ClassId) (pc : Nat) (thrown : ClassId) (y : ExceptionTableEntry) : Prop :=
  covers y pc = false ∨ (y.catchType ≠ 0 ∧ ∃ c, s.vm.ClassLinks pl d y.catchType c ∧ s.vm.assignable thrown c = false)
theorem cx_scan {e : Env} {s : State} {f : JFrame} {a : Addr} {cell : Cell} (hobj : ∀ k, cell.vm ≠ .statics k) (hk0 : ∃ k, s.vm.classes[cell.cls]? = some k)
    (x : ExceptionTableEntry) (rest : List ExceptionTableEntry) (hx : covers x f.pc = true) (h0 : x.catchType ≠ 0) {cx : ClassId} (hlx : s.vm.ClassLinks e.platform f.method.cls x.catchType cx) (hfit : s.vm.assignable cell.cls cx = true) :
    ∀ (pre : List ExceptionTableEntry) (S : State), s.WarmedH S.vm → S.heap[a]? = some cell → (∀ y ∈ pre, cx_Pass e.platform s f.method.cls f.pc cell.cls y) →
      ∃ vm', s.WarmedH vm' ∧ ∀ (Q : Handler → Pre) (E : CtlPost) (d : Bool) (acts : List Action), wp (findHandler.go f a (pre ++ x :: rest)) Q E e d acts S ↔ Q (.found x.handlerPc) d acts (S.setVm vm') := by
  obtain ⟨k0, hk0⟩ := hk0
  have one : ∀ (S : State) (y : ExceptionTableEntry) (c : ClassId), s.WarmedH S.vm → s.vm.ClassLinks e.platform f.method.cls y.catchType c → s.WarmedH (S.vm.noted f.method.cls y.catchType (.cls c)) ∧ (∃ k, S.vm.classes[cell.cls]? = some k) ∧ (∃ k, S.vm.classes[c]? = some k) ∧ S.vm.assignable cell.cls c = s.vm.assignable cell.cls c := by
    intro S y c hW hl
    obtain ⟨k0', hk0', -⟩ := hW.alike.2.2 _ _ hk0
    obtain ⟨dk, _, _, kt, hd, _, _, _, _, hkt, _, hopen⟩ := hl.here
    obtain ⟨kt', hkt', -⟩ := hW.alike.2.2 _ _ hkt
    exact ⟨hW.noted hd hopen (State.rightAt_cls hl), ⟨k0', hk0'⟩, ⟨kt', hkt'⟩, hW.alike.assignable _ _⟩
  intro pre
  induction pre with
  | nil =>
    intro S hW hcell _
    obtain ⟨w1, w2, w3, w4⟩ := one S x cx hW hlx
    refine ⟨_, w1, fun Q E d acts => ?_⟩
    rw [List.nil_append, cx_row (b := true) hx h0 (hW.classLinks hlx) hcell hobj w2 w3 (w4.trans hfit), if_pos rfl]
  | cons y ys ih =>
    intro S hW hcell hpass
    have hrest : ∀ z ∈ ys, cx_Pass e.platform s f.method.cls f.pc cell.cls z := fun z hz => hpass z (List.mem_cons_of_mem _ hz)
    by_cases hcov : covers y f.pc = true
    · rcases hpass y List.mem_cons_self with h | ⟨hy0, c, hl, hno⟩
      · rw [h] at hcov; cases hcov
      · obtain ⟨w1, w2, w3, w4⟩ := one S y c hW hl
        obtain ⟨vm', hW', hq⟩ := ih (S.setVm (S.vm.noted f.method.cls y.catchType (.cls c))) w1 hcell hrest
        refine ⟨vm', hW', fun Q E d acts => ?_⟩
        rw [List.cons_append, cx_row (b := false) hcov hy0 (hW.classLinks hl) hcell hobj w2 w3 (w4.trans hno), if_neg (by decide)]
        exact hq Q E d acts
    · obtain ⟨vm', hW', hq⟩ := ih S hW hcell hrest
      refine ⟨vm', hW', fun Q E d acts => ?_⟩
      rw [List.cons_append, W.findHandler_go_skip (by simpa using hcov)]
      exact hq Q E d acts
/-- caught by the row x of this method's table; the rows ahead let it pass -/
theorem cx_catch {p : Program} {l : Launch} {e : Env} {R : Room} {s : State} {m : MethodId} {args : Array Value} {below : List Frame} {meth : Method} {c : Code} {H : Heap} {locs : List Loc} {cells slots : Nat} {Q : State → Prop} {pc : Nat} {ls : Array Slot} {rest : List Value}
    {own name E : String} {ce : Cell} {q : Addr} (hown : s.vm.findClass own = some m.cls) (pre : List ExceptionTableEntry) (x : ExceptionTableEntry) (suf : List ExceptionTableEntry) (hsplit : c.exceptionTable.toList = pre ++ x :: suf)
    (hpass : ∀ z ∈ pre, covers z pc = false ∨ (z.catchType ≠ 0 ∧ ∃ nm : String, (Cond.classLink own z.catchType nm).before args s = true ∧ va_Nc E nm s)) (hx : covers x pc = true) (h0 : x.catchType ≠ 0)
    (hlink : (Cond.classLink own x.catchType name).before args s = true) (hcast : (Cond.castable E name).before args s = true) (hcell : H[q]? = some ce) (hv : ce.vm = .none) (hcl : s.vm.findClass E = some ce.cls)
    (kk : W p l e R s m args below meth c H locs cells slots Q (F0 m x.handlerPc ls [.ref q])) : vx_W p l e R s m args below meth c H locs cells slots Q (F0 m pc ls rest) q := by
  intro T hT X
  have hpl : e.platform.magicAccessors = ({} : Platform).magicAccessors := by rw [X.admits.platform]
  obtain ⟨c3, c4, hc3, hc4, hasg⟩ := Cond.castable_spec hcast
  cases Option.some.inj (hc3.symm.trans hcl)
  obtain ⟨c5, hc5, hcl5⟩ := Cond.classLink_spec hown hlink e.platform hpl
  cases Option.some.inj (hc4.symm.trans hc5)
  obtain ⟨k9, h9, -⟩ := Vm.findClass_spec hcl
  have hobj : ∀ k, ce.vm ≠ .statics k := fun k h => by rw [hv] at h; cases h
  have hp : ∀ z ∈ pre, cx_Pass e.platform s m.cls pc ce.cls z := fun z hz => by
    rcases hpass z hz with h | ⟨hz0, nm, hl1, a8, b8, h1, h2, h3⟩
    · exact Or.inl h
    · obtain ⟨c6, hc6, hcl6⟩ := Cond.classLink_spec hown hl1 e.platform hpl
      cases Option.some.inj (h1.symm.trans hcl)
      cases Option.some.inj (h2.symm.trans hc6)
      exact Or.inr ⟨hz0, _, hcl6, h3⟩
  obtain ⟨vm', hW', hq⟩ := cx_scan (e := e) (s := s) (f := F0 m pc ls rest) (a := q) (cell := ce) hobj ⟨k9, h9⟩ x suf hx h0 hcl5 hasg pre ((T.setTop (F0 m pc ls rest)).pushFrame (.throwing q)) X.warmed (show T.heap[q]? = some ce by rw [hT]; exact hcell) hp
  obtain ⟨t, a1, b1⟩ := kk (T.setVm vm') hT (X.noted hW')
  refine ⟨t, ?_, b1⟩
  have hfind : ∀ (Q : Handler → Pre) (E : CtlPost) (d : Bool) (acts : List Action), wp (findHandler (F0 m pc ls rest) q) Q E e d acts ((T.setTop (F0 m pc ls rest)).pushFrame (.throwing q)) ↔ Q (.found x.handlerPc) d acts (((T.setTop (F0 m pc ls rest)).pushFrame (.throwing q)).setVm vm') := fun Q E d acts => by
    rw [W.findHandler_eq (s := (T.setTop (F0 m pc ls rest)).pushFrame (.throwing q)) (f := F0 m pc ls rest) (meth := meth) (code := c) X.method' X.code, hsplit]; exact hq Q E d acts
  have hAt : At T (F0 m pc ls rest).method c below := X.here
  obtain ⟨hgo, hw⟩ := hAt.throwing q
  refine Steps.head hgo hw ?_
  have hIs : (stepThrowing e ((T.setTop (F0 m pc ls rest)).pushFrame (.throwing q)) q (.java (F0 m pc ls rest) :: T.frames.tail)).Is ((((T.setTop (F0 m pc ls rest)).pushFrame (.throwing q)).setVm vm').setFrames (.java { (F0 m pc ls rest) with pc := x.handlerPc, stack := [.ref q] } :: T.frames.tail)) [] := by
    simp only [stepThrowing, searchFrame, vmDo]
    generalize hr : Sem.go _ e false [] _ = res
    obtain ⟨as, rfl, ha⟩ := Sem.eq_ok_of hr (a := Handler.found x.handlerPc) (s' := ((T.setTop (F0 m pc ls rest)).pushFrame (.throwing q)).setVm vm') (acts' := []) (by simp [hfind _ _ _ _])
    exact ⟨rfl, ha⟩
  rw [stepThread_throwing (frames_entered hAt.top _), hIs.1]
  obtain ⟨g₀, hg⟩ := Option.isSome_iff_exists.mp hAt.top
  obtain ⟨r, hr⟩ := State.topJava?_eq_some.mp hg
  have hr' : (T.setVm vm').frames = .java g₀ :: r := hr
  rw [State.setTop_of_frames _ hr'] at a1
  have two : ∀ (u : State) (F G : List Frame), ((u.setFrames F).setVm vm').setFrames G = (u.setVm vm').setFrames G := fun u F G => by
    rw [show (u.setFrames F).setVm vm' = (u.setVm vm').setFrames F from rfl, State.setFrames_setFrames]
  rw [hr, List.tail_cons, State.pushFrame, two, State.setTop_of_frames _ hr, two]
  exact a1
