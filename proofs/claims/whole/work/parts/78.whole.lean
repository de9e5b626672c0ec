/-! THE CLAIM OUT OF ONE WALK OF THE LAW'S BODY. Your part is whole_start (and what it stands on); all else here is the same for every law, but numbers. -/
def R_law : String := "CrossRoundsLaw"
def lw_P (b : Addr) (xs : List Int32) (args : Array Value) (s : State) : Prop := args = #[.ref b] ∧ s.IntsAt b xs ∧ xs.length ≤ 2048 ∧ (Jvm.Cond.and given_1 narrow_1).before args s = true
def lw_Q (_ : Array Value) (s : State) (o : Outcome) (t : State) : Prop := o = .returned (some (.int 1)) ∧ Framed s o t [] 601024 7293034
def lw_Z (below : List Frame) (a : Array Value) (s : State) : State → Prop := fun t => ∃ o, t.status = .running ∧ Ended t below o ∧ lw_Q a s o t
/-- the law's own end, with 1 on the stack, nothing written that was there before, its room as the claim has it -/
theorem lw_ret {p : Program} {l : Launch} {e : Env} {s : State} {m : MethodId} {below : List Frame} {meth : Method} {c : Code} {b : Nat} (hx : p.tables.exec = Jvm.exec) (hb : c.code = code) (hr : meth.sig.returnType = ret) (hlocks : meth.locks = false) {pc : Nat} {H : Heap} {ls : Array Slot} (hdg : decode code pc = .ok (.ireturn, 1)) : W p l e room_1 s m #[Value.ref b] below meth c H [] 601024 7293034 (lw_Z below #[Value.ref b] s) (F0 m pc ls [.int 1]) := by
  intro T hT X
  obtain ⟨fs, hret, hrun, hended, hW, hframe⟩ := X.leave (v := some (.int 1)) (hlocks := hlocks) (fun h => by rw [hr] at h; cases h)
  have hmeth' : T.vm.method? m = some meth := X.method'
  refine ⟨T.setFrames fs, ?_, .returned (some (.int 1)), hrun, hended, rfl, ⟨_, rfl⟩, hW, hframe⟩
  jvm_step X.here [X.here.top, hx, hb, hdg, hmeth', hr, ret, narrow_b1]
  (try refine ⟨rfl, ?_⟩); (try refine ⟨rfl, ?_⟩)
  first | (intro acts; rw [hret _ acts rfl rfl rfl]) | rw [hret _ _ rfl rfl rfl]
  exact Steps.refl _
/-- what holds at the law's entry: the machine, the code, the tables' words (any of lw_tbl by 'hts w (by decide +kernel)'), the script of L ints xs at the cell b, what the Statement gives of the start (any of its parts by flat_of_before) -/
def lw_At (p : Program) (s : State) (m : MethodId) (meth : Method) (c : Code) (b L : Nat) (xs : Nat → Int32) : Prop :=
  p.tables.exec = Jvm.exec ∧ c.code = code ∧ meth.sig.returnType = ret ∧ c.maxLocals = 7 ∧ s.vm.findClass R_law = some m.cls ∧ (∀ w ∈ lw_tbl, w.before #[Value.ref b] s = true) ∧ va_X b L xs s s.heap ∧ b < s.heap.size ∧ meth.locks = false ∧ (Jvm.Cond.and given_1 narrow_1).before #[Value.ref b] s = true
theorem lt_1 {j : Nat} {w : Cond} (h : tables_1_1[j]? = some w) : w ∈ lw_tbl := List.mem_append_right _ (List.mem_append_left _ (List.mem_of_getElem? h))
theorem lt_2 {j : Nat} {w : Cond} (h : tables_1_2[j]? = some w) : w ∈ lw_tbl := List.mem_append_right _ (List.mem_append_right _ (List.mem_append_left _ (List.mem_of_getElem? h)))
theorem lt_3 {j : Nat} {w : Cond} (h : tables_1_3[j]? = some w) : w ∈ lw_tbl := List.mem_append_right _ (List.mem_append_right _ (List.mem_append_right _ (List.mem_append_left _ (List.mem_of_getElem? h))))
theorem lt_4 {j : Nat} {w : Cond} (h : tables_1_4[j]? = some w) : w ∈ lw_tbl := List.mem_append_right _ (List.mem_append_right _ (List.mem_append_right _ (List.mem_append_right _ (List.mem_append_left _ (List.mem_of_getElem? h)))))
theorem lt_5 {j : Nat} {w : Cond} (h : tables_1_5[j]? = some w) : w ∈ lw_tbl := List.mem_append_right _ (List.mem_append_right _ (List.mem_append_right _ (List.mem_append_right _ (List.mem_append_right _ (List.mem_of_getElem? h)))))
theorem lt_w {w : Cond} (h : w ∈ wT) : w ∈ lw_tbl := (List.mem_filter.mp h).1
def mkE (dC : Nat → ClassId) (dI : Nat → Nat → Nat) (cA : Nat → ClassId) (sa : Nat → Nat) : Ev := (dC, dI, cA, sa)
theorem in_J0 : ∀ w ∈ u_ws RJ0 TJ0 4, w ∈ lw_tbl := by decide +kernel
theorem in_J4 : ∀ w ∈ u_ws RJ4 TJ4 4, w ∈ lw_tbl := by decide +kernel
/-- the class of an array of numbers -/
theorem st_arr {args : Array Value} {s : State} {ty : FieldType} (h : (Cond.arrayClass ty).before args s = true) : ∃ c : ClassId, ArrOfT s c ty ∧ s.vm.findClass ("[" ++ ty.toString) = some c := by
  obtain ⟨c, k, comp, h1, h2, h3⟩ := Cond.arrayClass_spec h
  exact ⟨c, fun n z => ⟨fun k h => (by cases h), k, h2, comp, h3⟩, h1⟩
theorem st_arrO {args : Array Value} {s : State} {C : String} (h : (Cond.arrayOver (.object C)).before args s = true) : ∃ c : ClassId, ArrOfT s c (.object C) ∧ va_RA s c (.object C) := by
  obtain ⟨comp, c, k, h1, h2, h3, h4, h5⟩ := Cond.arrayOver_spec h
  exact ⟨c, fun n z => ⟨fun k h => (by cases h), k, h3, comp, h4⟩, k, comp, h3, h4, h1, h5⟩
theorem st_str {args : Array Value} {s : State} {own tx : String} {k : Nat} (h1 : (Cond.stringRef own k tx).before args s = true) (h2 : (Cond.exactly (.string own k) "java/lang/String").before args s = true) : ∃ a : Nat, vk_R own k tx a s := by
  obtain ⟨a, c, cell, kk, h3, -⟩ := Cond.exactly_spec h2
  exact ⟨a, vk_R.of h1 h3⟩
theorem st_Z {s : State} {b : Nat} (hts : ∀ w ∈ lw_tbl, w.before #[Value.ref b] s = true) (hgv : (Jvm.Cond.and given_1 narrow_1).before #[Value.ref b] s = true) (dC : Nat → ClassId) (dI : Nat → Nat → Nat) (cA : Nat → ClassId) : ∃ sa : Nat → Nat, Zst (mkE dC dI cA sa) (fun q => s.heap.size ≤ q) s s.heap := by
  have hs := flat_of_before _ hgv
  have hA : ∀ a : Nat, a < s.heap.size → ¬ (fun q : Nat => s.heap.size ≤ q) a := fun a h => Nat.not_le.mpr h
  obtain ⟨t0, e0, hT⟩ := va_Tof (N := 0) (f := fun _ => Value.null) (A := fun q : Nat => s.heap.size ≤ q) (by decide) (hs (.arrayOf (.static "java/util/ArrayList" "DEFAULTCAPACITY_EMPTY_ELEMENTDATA" "[Ljava/lang/Object;") (.object "java/lang/Object")) (by decide +kernel)) (va_eqt (hs (.eq (.length (.static "java/util/ArrayList" "DEFAULTCAPACITY_EMPTY_ELEMENTDATA" "[Ljava/lang/Object;")) (.int 0)) (by decide +kernel))) (fun j hj => absurd hj (Nat.not_lt_zero _)) hA
  have hZ := va_Zof (A := fun q : Nat => s.heap.size ≤ q) (hts (.laysStatic "java/util/ArrayList" "DEFAULTCAPACITY_EMPTY_ELEMENTDATA" "[Ljava/lang/Object;") (lt_1 (j := 50) (by decide +kernel))) (hts (.initialized "java/util/ArrayList") (lt_1 (j := 4) (by decide +kernel))) e0 hA
  have hU := vx_Zqof (A := fun q : Nat => s.heap.size ≤ q) (hts (.laysStatic "java/lang/Throwable" "UNASSIGNED_STACK" "[Ljava/lang/StackTraceElement;") (lt_1 (j := 157) (by decide +kernel))) (hts (.initialized "java/lang/Throwable") (lt_1 (j := 7) (by decide +kernel))) (hs (.isRef (.static "java/lang/Throwable" "UNASSIGNED_STACK" "[Ljava/lang/StackTraceElement;")) (by decide +kernel)) hA
  have hS := vx_Zqof (A := fun q : Nat => s.heap.size ≤ q) (hts (.laysStatic "java/lang/Throwable" "SUPPRESSED_SENTINEL" "Ljava/util/List;") (lt_1 (j := 159) (by decide +kernel))) (hts (.initialized "java/lang/Throwable") (lt_1 (j := 7) (by decide +kernel))) (hs (.isRef (.static "java/lang/Throwable" "SUPPRESSED_SENTINEL" "Ljava/util/List;")) (by decide +kernel)) hA
  obtain ⟨mi, hM⟩ := va_Mi.of (hs (.isRef (.mirror "[Ljava/lang/Object;")) (by decide +kernel))
  obtain ⟨a2, h2⟩ := st_str (hts (.stringRef RX4 150 "no such place") (lt_2 (j := 119) (by decide +kernel))) (hs (.exactly (.string RX4 150) "java/lang/String") (by decide +kernel))
  obtain ⟨a3, h3⟩ := st_str (hts (.stringRef RX4 168 "no such what") (lt_4 (j := 159) (by decide +kernel))) (hs (.exactly (.string RX4 168) "java/lang/String") (by decide +kernel))
  obtain ⟨a4, h4⟩ := st_str (hts (.stringRef RX4 175 "a number is out of its range") (lt_1 (j := 171) (by decide +kernel))) (hs (.exactly (.string RX4 175) "java/lang/String") (by decide +kernel))
  obtain ⟨a5, h5⟩ := st_str (hts (.stringRef RX4 178 "two nets are the same") (lt_2 (j := 143) (by decide +kernel))) (hs (.exactly (.string RX4 178) "java/lang/String") (by decide +kernel))
  obtain ⟨a6, h6⟩ := st_str (hts (.stringRef RX4 182 "there are as many as there can be") (lt_1 (j := 214) (by decide +kernel))) (hs (.exactly (.string RX4 182) "java/lang/String") (by decide +kernel))
  refine ⟨fun k => ([t0, mi, a2, a3, a4, a5, a6] : List Nat).getD k 0, hZ, hT, hU, hS, hM, va_AO.of (hts _ (lt_2 (j := 85) (by decide +kernel))), va_Dc.of (hts _ (lt_5 (j := 133) (by decide +kernel))), h2, h3, h4, h5, h6, ?_, ?_, ?_, ?_, ?_, ?_, ?_, ?_, ?_, ?_, ?_, ?_, ?_⟩
  · exact va_Nw.of rfl (hts _ (lt_1 (j := 65) (by decide +kernel)))
  · exact va_Nw.of rfl (hts _ (lt_5 (j := 137) (by decide +kernel)))
  · exact va_Nw.of rfl (hts _ (lt_5 (j := 138) (by decide +kernel)))
  · exact va_Nw.of rfl (hts _ (lt_5 (j := 140) (by decide +kernel)))
  · exact va_Nw.of rfl (hts _ (lt_2 (j := 112) (by decide +kernel)))
  · exact va_Nw.of rfl (hts _ (lt_1 (j := 132) (by decide +kernel)))
  · exact va_Nw.of rfl (hts _ (lt_1 (j := 207) (by decide +kernel)))
  · exact va_Nc.of (hs (.not (.castable "java/lang/IllegalArgumentException" "java/lang/IndexOutOfBoundsException")) (by decide +kernel))
  · exact va_Nc.of (hs (.not (.castable "java/lang/IllegalStateException" "java/lang/IndexOutOfBoundsException")) (by decide +kernel))
  · exact va_Nc.of (hs (.not (.castable "java/lang/IllegalStateException" "java/lang/IllegalArgumentException")) (by decide +kernel))
  · exact va_Nw.of rfl (hts _ (lt_1 (j := 134) (by decide +kernel)))
  · exact va_Nw.of rfl (hts _ (lt_1 (j := 136) (by decide +kernel)))
  · exact va_Nw.of rfl (hts _ (lt_1 (j := 138) (by decide +kernel)))
theorem st_K {s : State} {b : Nat} (hts : ∀ w ∈ lw_tbl, w.before #[Value.ref b] s = true) : ∃ (dC : Nat → ClassId) (dI : Nat → Nat → Nat) (cA : Nat → ClassId), ∀ sa : Nat → Nat, va_K (mkE dC dI cA sa).D vwCl (mkE dC dI cA sa).ty s := by
  obtain ⟨c0, i0, h0⟩ := u_known (C := RJ0) (T := TJ0) (N := 4) (n := 4) hts in_J0 (hts (.instantiable RJ0 4) (lt_3 (j := 131) (by decide +kernel)))
  obtain ⟨c1, i1, h1⟩ := u_known (C := RJ4) (T := TJ4) (N := 4) (n := 4) hts in_J4 (hts (.instantiable RJ4 4) (lt_2 (j := 204) (by decide +kernel)))
  obtain ⟨c2, i2, h2⟩ := u_known (C := RJx4a65c) (T := TJx4a65c) (N := 3) (n := 3) hts (fun w h => lt_w (in_Jx4a65c w h)) (hts (.instantiable RJx4a65c 3) (lt_1 (j := 38) (by decide +kernel)))
  obtain ⟨c3, i3, h3⟩ := u_known (C := RX0) (T := TX0) (N := 12) (n := 12) hts (fun w h => lt_w (in_X0 w h)) (hts (.instantiable RX0 12) (lt_1 (j := 222) (by decide +kernel)))
  obtain ⟨c4, i4, h4⟩ := u_known (C := RX1) (T := TX1) (N := 2) (n := 2) hts (fun w h => lt_w (in_X1 w h)) (hts (.instantiable RX1 2) (lt_2 (j := 168) (by decide +kernel)))
  obtain ⟨c5, i5, h5⟩ := u_known (C := RX2) (T := TX2) (N := 2) (n := 2) hts (fun w h => lt_w (in_X2 w h)) (hts (.instantiable RX2 2) (lt_3 (j := 224) (by decide +kernel)))
  obtain ⟨c6, i6, h6⟩ := u_known (C := RX3) (T := TX3) (N := 3) (n := 3) hts (fun w h => lt_w (in_X3 w h)) (hts (.instantiable RX3 3) (lt_1 (j := 64) (by decide +kernel)))
  obtain ⟨c7, i7, h7⟩ := u_known (C := RX4) (T := TX4) (N := 9) (n := 9) hts (fun w h => lt_w (in_X4 w h)) (hts (.instantiable RX4 9) (lt_1 (j := 30) (by decide +kernel)))
  obtain ⟨c8, i8, h8⟩ := u_known (C := RX5) (T := TX5) (N := 27) (n := 27) hts (fun w h => lt_w (in_X5 w h)) (hts (.instantiable RX5 27) (lt_4 (j := 161) (by decide +kernel)))
  obtain ⟨a0, g0, f0⟩ := st_arr (hts (.arrayClass .int) (lt_1 (j := 80) (by decide +kernel)))
  obtain ⟨a1, g1, f1⟩ := st_arr (hts (.arrayClass .boolean) (lt_5 (j := 8) (by decide +kernel)))
  obtain ⟨a3, g3, f3⟩ := st_arr (hts (.arrayClass .long) (lt_5 (j := 118) (by decide +kernel)))
  obtain ⟨a2, g2, f2⟩ := st_arrO (C := "java/lang/Object") (hts _ (lt_2 (j := 85) (by decide +kernel)))
  refine ⟨fun k => ([c0, c1, c2, c3, c4, c5, c6, c7, c8] : List ClassId).getD k c0, fun k => ([i0, i1, i2, i3, i4, i5, i6, i7, i8] : List (Nat → Nat)).getD k i0, fun k => ([a0, a1, a2, a3] : List ClassId).getD k a0, fun sa => ⟨fun k q hq => ?_, fun k q hq => ?_⟩⟩
  · match k, hq with
    | 0, hq => cases hq; exact h0
    | 1, hq => cases hq; exact h1
    | 2, hq => cases hq; exact h2
    | 3, hq => cases hq; exact h3
    | 4, hq => cases hq; exact h4
    | 5, hq => cases hq; exact h5
    | 6, hq => cases hq; exact h6
    | 7, hq => cases hq; exact h7
    | 8, hq => cases hq; exact h8
    | k + 9, hq => simp [vwCl] at hq
  · match k, hq with
    | 0, hq => cases hq; exact ⟨g0, f0⟩
    | 1, hq => cases hq; exact ⟨g1, f1⟩
    | 2, hq => cases hq; exact ⟨g2, f2⟩
    | 3, hq => cases hq; exact ⟨g3, f3⟩
    | k + 4, hq => exact absurd hq (by simp [Ev.ty])
theorem whole_start {p : Program} {e : Env} {s : State} {m : MethodId} {below : List Frame} {meth : Method} {c : Code} (l : Launch) (hlt : l.stackTraces = false) {b L : Nat} {xs : Nat → Int32} (hL : L ≤ 2048) (C0 : lw_At p s m meth c b L xs) : W p l e room_1 s m #[Value.ref b] below meth c s.heap [] 0 0 (lw_Z below #[Value.ref b] s) (entryFrame m ([Value.ref b] : List Value).toArray 7) := by
  obtain ⟨hx, hb, hr, hml, hown, hts, hX, hbl, hlocks, hgv⟩ := C0
  obtain ⟨dC, dI, cA, hK0⟩ := st_K hts
  obtain ⟨sa, hZ⟩ := st_Z hts hgv dC dI cA
  have hK := hK0 sa
  generalize mkE dC dI cA sa = E at hK hZ
  have hbA : ¬ (fun q : Nat => s.heap.size ≤ q) b := Nat.not_le.mpr hbl
  have C : Cx p s m #[Value.ref b] meth c cL_law 7 (yL meth.name "") (some .boolean) (Cond.initialized RX4) E (fun q => s.heap.size ≤ q) := ⟨hx, hb, hml, hown, fun w hw => hts w (lt_w (by
    rcases List.mem_cons.mp hw with h | h
    · rw [h]; exact wz_X4
    · exact h)), hK, fun q h => h, hZ, hr, hlocks, rfl⟩
  have hl := lv_entry ([.ref b]) (n := 7) (Nat.le_of_ble_eq_true rfl)
  rw [lg_entry_eq]
  refine lc_start hlt C hX hbl hbA hL (fun X S lv cells slots h1 h2 => ?_) s.heap [] _ (fun k q h => ?_) ⟨fun i j p q h => ?_, fun k q h => ?_⟩ va_S.rf hl
  · intro H locs ls hP hD hS hl9
    exact W.widen h1 h2 (va_forget hS.2.2 (lw_ret hx hb hr hlocks dL_law_1124))
  · exact absurd h (by simp [pw, HS0, va_pl, HS.L])
  · exact absurd h (by simp [pw, HS0, va_pl, HS.L])
  · exact absurd h (by simp [pw, HS0, va_pl, HS.L])
set_option maxHeartbeats 4000000 in
theorem lw_walk (l : Launch) (hlt : l.stackTraces = false) (b : Addr) (xs : List Int32) : MetFree l x (headSpec (Jvm.Cond.code x code maxLocals ret :: tables_1) room_1) (lw_P b xs) (fun _ _ _ _ _ => True) lw_Q := by
  refine MetFree.of_bodyS (code := code) (maxLocals := maxLocals) (ret := ret) (by decide) ?_ ?_
  · intro args s m h hn
    obtain ⟨meth, c, h1, h2, h3, h4, h5, h6, -, -⟩ := Cond.code_spec hn (atoms_spec (ws := Jvm.Cond.code x code maxLocals ret :: tables_1) h _ List.mem_cons_self)
    exact ⟨meth, c, h1, h2, h3, h4, h5, h6⟩
  · intro p e s m args below meth c s₁ B hml0 hP _
    obtain ⟨rfl, hx, hbd, hgv⟩ := hP
    obtain ⟨scr, harrAt, hlist, hof, hsmall⟩ := hx
    obtain ⟨hcb, hkn, -, -⟩ := State.arrayAt?_spec harrAt
    have hown : s.vm.findClass R_law = some m.cls := findClass_of_methodNamed B.named
    have hts0 : ∀ c ∈ (Jvm.Cond.code x code maxLocals ret :: tables_1), c.before #[Value.ref b] s = true := atoms_spec (ws := Jvm.Cond.code x code maxLocals ret :: tables_1) B.pre
    have hts : ∀ w ∈ lw_tbl, w.before #[Value.ref b] s = true := k2_hts_sels lw_privs (fun w hw => hts0 w (List.mem_cons_of_mem _ hw)) lw_privs_ok
    have hml : c.maxLocals = 7 := B.maxLocals_eq (hts0 _ List.mem_cons_self)
    have X₀ : Stand p l e room_1 s m #[Value.ref b] below meth c s₁ [] 0 0 := Stand.of_body B
    have hh0 : s₁.heap = s.heap := by rw [B.state]; rfl
    have hsz : scr.slots.size = xs.length := by rw [← Array.length_toList, hlist, List.length_map]
    have hval : ∀ j : Nat, j < xs.length → scr.slots[j]? = some (.int (xs.getD j 0)) := fun j hj => by
      rw [← Array.getElem?_toList, hlist]
      simp [hj]
    have hbl : b < s.heap.size := (Array.getElem?_eq_some_iff.mp hcb).1
    have hX : va_X b xs.length (fun j => xs.getD j 0) s s.heap := ⟨scr, hcb, hof, hkn, hsz, hval⟩
    have K : W p l e room_1 s m #[Value.ref b] below meth c s₁.heap [] 0 0 (lw_Z below #[Value.ref b] s) (entryFrame m ([Value.ref b] : List Value).toArray 7) := by
      rw [hh0]
      exact whole_start l hlt hbd ⟨B.exec, B.bytes, B.returns, hml, hown, hts, hX, hbl, B.notSynchronized, hgv⟩
    obtain ⟨t, a1, o, b1, b2, b3⟩ := K s₁ rfl X₀
    exact ⟨t, o, a1, b1, b2, b3⟩
theorem lw_pre_spec {args : Array Value} {s : State} (h : (Jvm.Cond.and given_1 narrow_1).before args s = true) (hr : rest_1_c.before args s = true) : ∃ (b : Addr) (xs : List Int32), lw_P b xs args s := by
  have hs := flat_of_before _ h
  have hq := flat_of_before _ hr
  have hc : (Cond.count 1).before args s = true := hs _ (by decide +kernel)
  have harr : (Cond.arrayOf (.arg 0) .int).before args s = true := hs _ (by decide +kernel)
  have hle : (Cond.le (.length (.arg 0)) (.int 2048)).before args s = true := hs _ (by decide +kernel)
  have hlen : (Cond.isInt (.length (.arg 0))).before args s = true := hq _ (by decide +kernel)
  have hall : (Cond.all (.arg 0) (.isInt (.elem (.arg 0) (.index 0)))).before args s = true := hq _ (by decide +kernel)
  obtain ⟨b, xs, hb, hx⟩ := State.ints_of_pre rfl harr hlen hall
  have hsm : xs.length < 2 ^ 31 := hx.choose_spec.2.2.2
  have hev : (Term.length (.arg 0)).eval args s none [] s = some (.int xs.length.toInt32) := hx.length_eval hb
  have hv := Cond.le_ints hev (show (Term.int 2048).eval args s none [] s = some (.int 2048) from rfl)
  have hd : xs.length.toInt32 ≤ 2048 := by
    simpa [Cond.before, Cond.holds, hv] using hle
  have hN : xs.length ≤ 2048 := (Int32.ofNat_le_ofNat hsm (by decide)).mp (show Int32.ofNat xs.length ≤ Int32.ofNat 2048 from hd)
  exact ⟨b, xs, Cond.one_arg hc (show args[0]? = some (.ref b) from hb), hx, hN, h⟩
theorem lw_comes (l : Launch) (hlt : l.stackTraces = false) : Comes l x (Jvm.Cond.code x code maxLocals ret :: tables_1) room_1 (fun tb e args s => Calls_1 tb e args s ∧ rest_1 tb e args s ∧ Pre_1 tb e args s)
    (fun _ _ args s o t => lw_Q args s o t) := by
  intro p e ha hc hk s m args below hf hfit hheap happ hpre
  obtain ⟨b, xs, hP⟩ := lw_pre_spec hpre.2.2 hpre.2.1
  obtain ⟨k, o, h1, h2, h3, hQ⟩ := lw_walk l hlt b xs p e ha hc hk s m args below hf ((Spec.applies_iff_loose hf).mp happ).1 hP trivial
  exact ⟨k, o, h1, h2, h3, hQ⟩
theorem lw_frame {s t : State} {o : Outcome} {args : Array Value} (h : Framed s o t [] 601024 7293034) :
    Framed s o t (fieldLocs frame_1_writes args s ++ arrayLocs frame_1_arrays args s ++ staticLocs frame_1_statics s) 601024 7293034 := h
theorem lw_limb (L : Cond) (hL : ∀ (args : Array Value) (s t : State), L.after args s (.returned (some (.int 1))) t = true) :
    ArmFor flags0 classFile x code maxLocals ret World_1 tables_1 room_1 Calls_1 rest_1 Pre_1
      (fun tb e a s o t => postC L tb e a s o t ∧ Framed s o t (fieldLocs frame_1_writes a s ++ arrayLocs frame_1_arrays a s ++ staticLocs frame_1_statics s) 601024 7293034) := by
  intro l hfl _ _ p e ha hc hk s m args below hf hfit hheap happ hpre
  have hlt : l.stackTraces = false := by unfold Launch.stackTraces; rw [hfl]; decide
  obtain ⟨k, o, h1, h2, h3, rfl, hF⟩ := lw_comes l hlt p e ha hc hk s m args below hf hfit hheap happ hpre
  exact ⟨k, _, h1, h2, h3, hL args s _, lw_frame hF⟩
theorem i_vc : Claimed_1_1 ∧ Claimed_1_2 := ⟨lw_limb limb_1_1 (fun args s t => by simp [limb_1_1, Cond.after, Cond.holds, Cond.value]), lw_limb limb_1_2 (fun args s t => Cond.after_iff.mpr (by
  first | (rw [show limb_1_2 = Cond.eq .result (.int 1) from rfl, Cond.eq_ints (x := 1) (y := 1) rfl rfl]; simp; done) | (simp [limb_1_2, Cond.value, Term.eval]; done)))⟩
