abbrev MM : Type := Nat → Nat → Int32
def mfs (a : Nat → Nat) (M : MM) : List Value := [.int (M 0 0), .int (M 1 0), .ref (a 2), .ref (a 3), .ref (a 4), .ref (a 5), .ref (a 6), .int (M 7 0), .int (M 8 0), .int (M 9 0), .ref (a 10), .ref (a 11), .ref (a 12), .int (M 13 0), .int (M 14 0), .ref (a 15), .ref (a 16), .int (M 17 0), .int (M 18 0), .ref (a 19), .ref (a 20), .ref (a 21), .ref (a 22), .ref (a 23), .ref (a 24), .ref (a 25), .ref (a 26)]
/-- the reference at o, its rows at a 2 and on: its numbers are M -/
def mw (E : Ev) (o : Nat) (a : Nat → Nat) (M : MM) : va_W := [(o, .inr (8, mfs a M)), (a 2, .inl (E.cA 0, 40, .inl (M 2))), (a 3, .inl (E.cA 0, 40, .inl (M 3))), (a 4, .inl (E.cA 0, 40, .inl (M 4))), (a 5, .inl (E.cA 0, 1600, .inl (M 5))), (a 6, .inl (E.cA 1, 1600, .inl (M 6))), (a 10, .inl (E.cA 0, 80, .inl (M 10))), (a 11, .inl (E.cA 0, 80, .inl (M 11))), (a 12, .inl (E.cA 0, 80, .inl (M 12))), (a 15, .inl (E.cA 0, 20, .inl (M 15))), (a 16, .inl (E.cA 0, 20, .inl (M 16))), (a 19, .inl (E.cA 0, 50, .inl (M 19))), (a 20, .inl (E.cA 0, 40, .inl (M 20))), (a 21, .inl (E.cA 0, 40, .inl (M 21))), (a 22, .inl (E.cA 0, 40, .inl (M 22))), (a 23, .inl (E.cA 0, 40, .inl (M 23))), (a 24, .inl (E.cA 1, 40, .inl (M 24))), (a 25, .inl (E.cA 0, 40, .inl (M 25))), (a 26, .inl (E.cA 0, 40, .inl (M 26)))]
theorem xat {X W : va_W} {pos : Nat} {e : Nat × va_E} (h : X[pos]? = some e) : (X ++ W)[pos]? = some e := by
  have hlt : pos < X.length := by
    rcases Nat.lt_or_ge pos X.length with q | q
    · exact q
    · rw [List.getElem?_eq_none q] at h; cases h
  rw [List.getElem?_append_left hlt]; exact h
theorem xset {X X2 W : va_W} {pos : Nat} {e e2 : Nat × va_E} (h : X[pos]? = some e) (h2 : X.set pos e2 = X2) : (X ++ W).set pos e2 = X2 ++ W := by
  have hlt : pos < X.length := by
    rcases Nat.lt_or_ge pos X.length with q | q
    · exact q
    · rw [List.getElem?_eq_none q] at h; cases h
  rw [List.set_append_left _ _ hlt, h2]
theorem u2_row {α : Type} {M M2 : Nat → Nat → α} {k j : Nat} {v : α} (h : u2 M k j v = M2) {k' : Nat} (hk : k' ≠ k) : M2 k' = M k' := by
  subst h; funext i; exact u2_ne1 hk
theorem u2_upd {M : MM} {k j : Nat} {v : Int32} : u2 M k j v k = upd (M k) j v := by
  funext i
  simp [u2, upd]
theorem u2_at {α : Type} {M M2 : Nat → Nat → α} {k j : Nat} {v : α} (h : u2 M k j v = M2) : M2 k j = v := by subst h; exact u2_self
theorem u2_off {α : Type} {M M2 : Nat → Nat → α} {k j : Nat} {v : α} (h : u2 M k j v = M2) {j' : Nat} (hj : j' ≠ j) : M2 k j' = M k j' := by subst h; exact u2_ne2 hj
section XRows
variable {p : Program} {l : Launch} {e : Env} {R : Room} {s : State} {m : MethodId} {args : Array Value} {below : List Frame} {meth : Method} {c : Code} {E : Ev} {nL : Nat} {A : Nat → Prop} {Q : State → Prop} {X : va_W} {S : HS} {cells slots pc : Nat} {lv : List (Nat × Value)} {st : List Value} {cc : ByteArray} {y : MethodName} {ret : Option FieldType} {c0 : Cond}
theorem x_get (C : Cx p s m args meth c cc nL y ret c0 E A) {o ci N index : Nat} {Cn ref : String} {T : u_T} {fs : List Value} {v : Value} (pos k : Nat) (hx : X[pos]? = some (o, .inr (ci, fs))) (hc : vwCl[ci]? = some (Cn, T, N)) (hk : k < N) (hin : ∀ w ∈ u_ws Cn T N, w ∈ wT) (hlink : Cond.fieldLink y.cls index ref (T k).2.1 (T k).2.2.1 ∈ wT) (hsame : (T k).1 = ref) (hv : fs[k]? = some v) (hd : decode cc pc = .ok (.getfield index, 3)) (kk : GW p l e R s m args below meth c E nL A Q X S cells slots (pc + 3) lv (v :: st)) : GW p l e R s m args below meth c E nL A Q X S cells slots pc lv (.ref o :: st) := by
  intro H locs ls hP hD hS hl
  exact va_get C.x C.b C.ts (fun w h => List.mem_cons_of_mem _ (hin w h)) C.own C.k hP pos (xat hx) hc k hk (C.w hlink) (fun _ h => hsame ▸ h) hv hd (kk H locs ls hP hD hS hl)
theorem x_put (C : Cx p s m args meth c cc nL y ret c0 E A) {o ci N index : Nat} {Cn ref : String} {T : u_T} {fs : List Value} {v : Value} {ty0 : Nat → FieldType} {ty : FieldType} {X2 : va_W} (pos k : Nat) (hx : X[pos]? = some (o, .inr (ci, fs))) (hc : vwCl[ci]? = some (Cn, T, N)) (hk : k < N) (hin : ∀ w ∈ u_ws Cn T N, w ∈ wT) (hty : ∀ k, k < N → parseFieldDescriptor (T k).2.2.1 = some (ty0 k)) (hnm : ∀ a, a < N → ∀ b, b < N → a ≠ b → (T a).2.1 ≠ (T b).2.1) (hlink : Cond.fieldLink y.cls index ref (T k).2.1 (T k).2.2.1 ∈ wT) (hsame : (T k).1 = ref) (hfin : (T k).2.2.2 = false) (hdv : parseFieldDescriptor (T k).2.2.1 = some ty) (hn : narrow ty v = v) (hfit : fits ty v = true) (hl2 : k < fs.length) (h2 : X.set pos (o, .inr (ci, fs.set k v)) = X2) (hd : decode cc pc = .ok (.putfield index, 3)) (kk : GW p l e R s m args below meth c E nL A Q X2 S cells slots (pc + 3) lv st) : GW p l e R s m args below meth c E nL A Q X S cells slots pc lv (v :: .ref o :: st) := by
  intro H locs ls hP hD hS hl
  refine va_put C.x C.b C.ts (fun w h => List.mem_cons_of_mem _ (hin w h)) ty0 hty hnm C.own C.k hP hD hS pos (xat hx) hc k hk (C.w hlink) (fun _ h => hsame ▸ h) hfin hdv hn hfit hl2 hd (fun H1 locs1 hP1 hD1 hS1 => ?_)
  rw [xset hx h2] at hP1 hD1
  exact kk H1 locs1 ls hP1 hD1 hS1 hl
theorem x_putF (C : Cx p s m args meth c cc nL y ret c0 E A) {o ci N index : Nat} {Cn ref : String} {T : u_T} {fs : List Value} {v : Value} {ty0 : Nat → FieldType} {ty : FieldType} {X2 : va_W} (pos k : Nat) (hx : X[pos]? = some (o, .inr (ci, fs))) (hc : vwCl[ci]? = some (Cn, T, N)) (hk : k < N) (hin : ∀ w ∈ u_ws Cn T N, w ∈ wT) (hty : ∀ k, k < N → parseFieldDescriptor (T k).2.2.1 = some (ty0 k)) (hnm : ∀ a, a < N → ∀ b, b < N → a ≠ b → (T a).2.1 ≠ (T b).2.1) (hlink : Cond.fieldLink y.cls index ref (T k).2.1 (T k).2.2.1 ∈ wT) (hsame : (T k).1 = ref) (hfin : (T k).2.2.2 = true) (hi : y.name = "<init>") (hdecl : (T k).1 = y.cls) (hdv : parseFieldDescriptor (T k).2.2.1 = some ty) (hn : narrow ty v = v) (hfit : fits ty v = true) (hl2 : k < fs.length) (h2 : X.set pos (o, .inr (ci, fs.set k v)) = X2) (hd : decode cc pc = .ok (.putfield index, 3)) (kk : GW p l e R s m args below meth c E nL A Q X2 S cells slots (pc + 3) lv st) : GW p l e R s m args below meth c E nL A Q X S cells slots pc lv (v :: .ref o :: st) := by
  intro H locs ls hP hD hS hl
  refine va_putF C.x C.b C.ts (fun w h => List.mem_cons_of_mem _ (hin w h)) ty0 hty hnm C.own C.k hP hD hS pos (xat hx) hc k hk (C.w hlink) (fun _ h => hsame ▸ h) hfin (C.nm.trans hi) hdecl hdv hn hfit hl2 hd (fun H1 locs1 hP1 hD1 hS1 => ?_)
  rw [xset hx h2] at hP1 hD1
  exact kk H1 locs1 ls hP1 hD1 hS1 hl
theorem x_iald (C : Cx p s m args meth c cc nL y ret c0 E A) {r n : Nat} {f : Nat → Int32} {i : Int32} (pos j : Nat) (hx : X[pos]? = some (r, .inl (E.cA 0, n, .inl f))) (hi : i = nI j) (hj : j < n) (hn : n < 2 ^ 31) (hd : decode cc pc = .ok (.iaload, 1)) (kk : GW p l e R s m args below meth c E nL A Q X S cells slots (pc + 1) lv (.int (f j) :: st)) : GW p l e R s m args below meth c E nL A Q X S cells slots pc lv (.int i :: .ref r :: st) := by
  intro H locs ls hP hD hS hl
  subst hi
  refine va_iald C.x C.b C.k hP pos 0 (xat hx) rfl (vp_in_nI hj hn) hd ?_
  rw [nI_clamp (Nat.lt_trans hj hn)]
  exact kk H locs ls hP hD hS hl
theorem x_zald (C : Cx p s m args meth c cc nL y ret c0 E A) {r n : Nat} {f : Nat → Int32} {i : Int32} (pos j : Nat) (hx : X[pos]? = some (r, .inl (E.cA 1, n, .inl f))) (hi : i = nI j) (hj : j < n) (hn : n < 2 ^ 31) (hd : decode cc pc = .ok (.baload, 1)) (kk : GW p l e R s m args below meth c E nL A Q X S cells slots (pc + 1) lv (.int (f j) :: st)) : GW p l e R s m args below meth c E nL A Q X S cells slots pc lv (.int i :: .ref r :: st) := by
  intro H locs ls hP hD hS hl
  subst hi
  refine va_zald C.x C.b C.k hP pos 1 (xat hx) rfl (vp_in_nI hj hn) hd ?_
  rw [nI_clamp (Nat.lt_trans hj hn)]
  exact kk H locs ls hP hD hS hl
theorem x_iast (C : Cx p s m args meth c cc nL y ret c0 E A) {r n : Nat} {f : Nat → Int32} {i v : Int32} {X2 : va_W} (pos j : Nat) (hx : X[pos]? = some (r, .inl (E.cA 0, n, .inl f))) (hi : i = nI j) (hj : j < n) (hn : n < 2 ^ 31) (h2 : X.set pos (r, .inl (E.cA 0, n, .inl (upd f j v))) = X2) (hd : decode cc pc = .ok (.iastore, 1)) (kk : GW p l e R s m args below meth c E nL A Q X2 S cells slots (pc + 1) lv st) : GW p l e R s m args below meth c E nL A Q X S cells slots pc lv (.int v :: .int i :: .ref r :: st) := by
  intro H locs ls hP hD hS hl
  subst hi
  refine va_iast C.x C.b C.k hP hD hS pos 0 (xat hx) rfl (vp_in_nI hj hn) hd (fun H1 locs1 hP1 hD1 hS1 => ?_)
  rw [nI_clamp (Nat.lt_trans hj hn), xset hx h2] at hP1 hD1
  exact kk H1 locs1 ls hP1 hD1 hS1 hl
theorem x_zast (C : Cx p s m args meth c cc nL y ret c0 E A) {r n : Nat} {f : Nat → Int32} {i v : Int32} {X2 : va_W} (pos j : Nat) (hx : X[pos]? = some (r, .inl (E.cA 1, n, .inl f))) (hi : i = nI j) (hj : j < n) (hn : n < 2 ^ 31) (hv : vp_nar .boolean v = v) (h2 : X.set pos (r, .inl (E.cA 1, n, .inl (upd f j v))) = X2) (hd : decode cc pc = .ok (.bastore, 1)) (kk : GW p l e R s m args below meth c E nL A Q X2 S cells slots (pc + 1) lv st) : GW p l e R s m args below meth c E nL A Q X S cells slots pc lv (.int v :: .int i :: .ref r :: st) := by
  intro H locs ls hP hD hS hl
  subst hi
  refine va_zast C.x C.b C.k hP hD hS pos 1 (xat hx) rfl (vp_in_nI hj hn) hd (fun H1 locs1 hP1 hD1 hS1 => ?_)
  rw [nI_clamp (Nat.lt_trans hj hn), hv, xset hx h2] at hP1 hD1
  exact kk H1 locs1 ls hP1 hD1 hS1 hl
theorem x_lald (C : Cx p s m args meth c cc nL y ret c0 E A) {r n : Nat} {f : Nat → Int64} {i : Int32} (pos j : Nat) (hx : X[pos]? = some (r, .inl (E.cA 3, n, .inr (.inl f)))) (hi : i = nI j) (hj : j < n) (hn : n < 2 ^ 31) (hd : decode cc pc = .ok (.laload, 1)) (kk : GW p l e R s m args below meth c E nL A Q X S cells slots (pc + 1) lv (.long (f j) :: st)) : GW p l e R s m args below meth c E nL A Q X S cells slots pc lv (.int i :: .ref r :: st) := by
  intro H locs ls hP hD hS hl
  subst hi
  refine va_lald C.x C.b C.k hP pos 3 (xat hx) rfl (vp_in_nI hj hn) hd ?_
  rw [nI_clamp (Nat.lt_trans hj hn)]
  exact kk H locs ls hP hD hS hl
theorem x_last (C : Cx p s m args meth c cc nL y ret c0 E A) {r n : Nat} {f : Nat → Int64} {i : Int32} {v : Int64} {X2 : va_W} (pos j : Nat) (hx : X[pos]? = some (r, .inl (E.cA 3, n, .inr (.inl f)))) (hi : i = nI j) (hj : j < n) (hn : n < 2 ^ 31) (h2 : X.set pos (r, .inl (E.cA 3, n, .inr (.inl (vp_updL f j v)))) = X2) (hd : decode cc pc = .ok (.lastore, 1)) (kk : GW p l e R s m args below meth c E nL A Q X2 S cells slots (pc + 1) lv st) : GW p l e R s m args below meth c E nL A Q X S cells slots pc lv (.long v :: .int i :: .ref r :: st) := by
  intro H locs ls hP hD hS hl
  subst hi
  refine va_last C.x C.b C.k hP hD hS pos 3 (xat hx) rfl (vp_in_nI hj hn) hd (fun H1 locs1 hP1 hD1 hS1 => ?_)
  rw [nI_clamp (Nat.lt_trans hj hn), xset hx h2] at hP1 hD1
  exact kk H1 locs1 ls hP1 hD1 hS1 hl
end XRows
theorem mw_0 {E : Ev} {o : Nat} {a : Nat → Nat} {M M2 : MM} {Y : va_W} {v : Int32} (h : u2 M 0 0 v = M2) : (mw E o a M ++ Y).set 0 (o, .inr (8, (mfs a M).set 0 (.int v))) = mw E o a M2 ++ Y := by
  have e1 : M2 1 = M 1 := u2_row h (by decide)
  have e7 : M2 7 = M 7 := u2_row h (by decide)
  have e8 : M2 8 = M 8 := u2_row h (by decide)
  have e9 : M2 9 = M 9 := u2_row h (by decide)
  have e13 : M2 13 = M 13 := u2_row h (by decide)
  have e14 : M2 14 = M 14 := u2_row h (by decide)
  have e17 : M2 17 = M 17 := u2_row h (by decide)
  have e18 : M2 18 = M 18 := u2_row h (by decide)
  have e2 : M2 2 = M 2 := u2_row h (by decide)
  have e3 : M2 3 = M 3 := u2_row h (by decide)
  have e4 : M2 4 = M 4 := u2_row h (by decide)
  have e5 : M2 5 = M 5 := u2_row h (by decide)
  have e6 : M2 6 = M 6 := u2_row h (by decide)
  have e10 : M2 10 = M 10 := u2_row h (by decide)
  have e11 : M2 11 = M 11 := u2_row h (by decide)
  have e12 : M2 12 = M 12 := u2_row h (by decide)
  have e15 : M2 15 = M 15 := u2_row h (by decide)
  have e16 : M2 16 = M 16 := u2_row h (by decide)
  have e19 : M2 19 = M 19 := u2_row h (by decide)
  have e20 : M2 20 = M 20 := u2_row h (by decide)
  have e21 : M2 21 = M 21 := u2_row h (by decide)
  have e22 : M2 22 = M 22 := u2_row h (by decide)
  have e23 : M2 23 = M 23 := u2_row h (by decide)
  have e24 : M2 24 = M 24 := u2_row h (by decide)
  have e25 : M2 25 = M 25 := u2_row h (by decide)
  have e26 : M2 26 = M 26 := u2_row h (by decide)
  have e0 : M2 0 0 = v := u2_at h
  simp only [mw, mfs, e0, e1, e2, e3, e4, e5, e6, e7, e8, e9, e10, e11, e12, e13, e14, e15, e16, e17, e18, e19, e20, e21, e22, e23, e24, e25, e26, List.cons_append, List.nil_append, List.set, List.tail]
theorem mw_1 {E : Ev} {o : Nat} {a : Nat → Nat} {M M2 : MM} {Y : va_W} {v : Int32} (h : u2 M 1 0 v = M2) : (mw E o a M ++ Y).set 0 (o, .inr (8, (mfs a M).set 1 (.int v))) = mw E o a M2 ++ Y := by
  have e0 : M2 0 = M 0 := u2_row h (by decide)
  have e7 : M2 7 = M 7 := u2_row h (by decide)
  have e8 : M2 8 = M 8 := u2_row h (by decide)
  have e9 : M2 9 = M 9 := u2_row h (by decide)
  have e13 : M2 13 = M 13 := u2_row h (by decide)
  have e14 : M2 14 = M 14 := u2_row h (by decide)
  have e17 : M2 17 = M 17 := u2_row h (by decide)
  have e18 : M2 18 = M 18 := u2_row h (by decide)
  have e2 : M2 2 = M 2 := u2_row h (by decide)
  have e3 : M2 3 = M 3 := u2_row h (by decide)
  have e4 : M2 4 = M 4 := u2_row h (by decide)
  have e5 : M2 5 = M 5 := u2_row h (by decide)
  have e6 : M2 6 = M 6 := u2_row h (by decide)
  have e10 : M2 10 = M 10 := u2_row h (by decide)
  have e11 : M2 11 = M 11 := u2_row h (by decide)
  have e12 : M2 12 = M 12 := u2_row h (by decide)
  have e15 : M2 15 = M 15 := u2_row h (by decide)
  have e16 : M2 16 = M 16 := u2_row h (by decide)
  have e19 : M2 19 = M 19 := u2_row h (by decide)
  have e20 : M2 20 = M 20 := u2_row h (by decide)
  have e21 : M2 21 = M 21 := u2_row h (by decide)
  have e22 : M2 22 = M 22 := u2_row h (by decide)
  have e23 : M2 23 = M 23 := u2_row h (by decide)
  have e24 : M2 24 = M 24 := u2_row h (by decide)
  have e25 : M2 25 = M 25 := u2_row h (by decide)
  have e26 : M2 26 = M 26 := u2_row h (by decide)
  have e1 : M2 1 0 = v := u2_at h
  simp only [mw, mfs, e0, e1, e2, e3, e4, e5, e6, e7, e8, e9, e10, e11, e12, e13, e14, e15, e16, e17, e18, e19, e20, e21, e22, e23, e24, e25, e26, List.cons_append, List.nil_append, List.set, List.tail]
theorem mw_7 {E : Ev} {o : Nat} {a : Nat → Nat} {M M2 : MM} {Y : va_W} {v : Int32} (h : u2 M 7 0 v = M2) : (mw E o a M ++ Y).set 0 (o, .inr (8, (mfs a M).set 7 (.int v))) = mw E o a M2 ++ Y := by
  have e0 : M2 0 = M 0 := u2_row h (by decide)
  have e1 : M2 1 = M 1 := u2_row h (by decide)
  have e8 : M2 8 = M 8 := u2_row h (by decide)
  have e9 : M2 9 = M 9 := u2_row h (by decide)
  have e13 : M2 13 = M 13 := u2_row h (by decide)
  have e14 : M2 14 = M 14 := u2_row h (by decide)
  have e17 : M2 17 = M 17 := u2_row h (by decide)
  have e18 : M2 18 = M 18 := u2_row h (by decide)
  have e2 : M2 2 = M 2 := u2_row h (by decide)
  have e3 : M2 3 = M 3 := u2_row h (by decide)
  have e4 : M2 4 = M 4 := u2_row h (by decide)
  have e5 : M2 5 = M 5 := u2_row h (by decide)
  have e6 : M2 6 = M 6 := u2_row h (by decide)
  have e10 : M2 10 = M 10 := u2_row h (by decide)
  have e11 : M2 11 = M 11 := u2_row h (by decide)
  have e12 : M2 12 = M 12 := u2_row h (by decide)
  have e15 : M2 15 = M 15 := u2_row h (by decide)
  have e16 : M2 16 = M 16 := u2_row h (by decide)
  have e19 : M2 19 = M 19 := u2_row h (by decide)
  have e20 : M2 20 = M 20 := u2_row h (by decide)
  have e21 : M2 21 = M 21 := u2_row h (by decide)
  have e22 : M2 22 = M 22 := u2_row h (by decide)
  have e23 : M2 23 = M 23 := u2_row h (by decide)
  have e24 : M2 24 = M 24 := u2_row h (by decide)
  have e25 : M2 25 = M 25 := u2_row h (by decide)
  have e26 : M2 26 = M 26 := u2_row h (by decide)
  have e7 : M2 7 0 = v := u2_at h
  simp only [mw, mfs, e0, e1, e2, e3, e4, e5, e6, e7, e8, e9, e10, e11, e12, e13, e14, e15, e16, e17, e18, e19, e20, e21, e22, e23, e24, e25, e26, List.cons_append, List.nil_append, List.set, List.tail]
theorem mw_8 {E : Ev} {o : Nat} {a : Nat → Nat} {M M2 : MM} {Y : va_W} {v : Int32} (h : u2 M 8 0 v = M2) : (mw E o a M ++ Y).set 0 (o, .inr (8, (mfs a M).set 8 (.int v))) = mw E o a M2 ++ Y := by
  have e0 : M2 0 = M 0 := u2_row h (by decide)
  have e1 : M2 1 = M 1 := u2_row h (by decide)
  have e7 : M2 7 = M 7 := u2_row h (by decide)
  have e9 : M2 9 = M 9 := u2_row h (by decide)
  have e13 : M2 13 = M 13 := u2_row h (by decide)
  have e14 : M2 14 = M 14 := u2_row h (by decide)
  have e17 : M2 17 = M 17 := u2_row h (by decide)
  have e18 : M2 18 = M 18 := u2_row h (by decide)
  have e2 : M2 2 = M 2 := u2_row h (by decide)
  have e3 : M2 3 = M 3 := u2_row h (by decide)
  have e4 : M2 4 = M 4 := u2_row h (by decide)
  have e5 : M2 5 = M 5 := u2_row h (by decide)
  have e6 : M2 6 = M 6 := u2_row h (by decide)
  have e10 : M2 10 = M 10 := u2_row h (by decide)
  have e11 : M2 11 = M 11 := u2_row h (by decide)
  have e12 : M2 12 = M 12 := u2_row h (by decide)
  have e15 : M2 15 = M 15 := u2_row h (by decide)
  have e16 : M2 16 = M 16 := u2_row h (by decide)
  have e19 : M2 19 = M 19 := u2_row h (by decide)
  have e20 : M2 20 = M 20 := u2_row h (by decide)
  have e21 : M2 21 = M 21 := u2_row h (by decide)
  have e22 : M2 22 = M 22 := u2_row h (by decide)
  have e23 : M2 23 = M 23 := u2_row h (by decide)
  have e24 : M2 24 = M 24 := u2_row h (by decide)
  have e25 : M2 25 = M 25 := u2_row h (by decide)
  have e26 : M2 26 = M 26 := u2_row h (by decide)
  have e8 : M2 8 0 = v := u2_at h
  simp only [mw, mfs, e0, e1, e2, e3, e4, e5, e6, e7, e8, e9, e10, e11, e12, e13, e14, e15, e16, e17, e18, e19, e20, e21, e22, e23, e24, e25, e26, List.cons_append, List.nil_append, List.set, List.tail]
theorem mw_9 {E : Ev} {o : Nat} {a : Nat → Nat} {M M2 : MM} {Y : va_W} {v : Int32} (h : u2 M 9 0 v = M2) : (mw E o a M ++ Y).set 0 (o, .inr (8, (mfs a M).set 9 (.int v))) = mw E o a M2 ++ Y := by
  have e0 : M2 0 = M 0 := u2_row h (by decide)
  have e1 : M2 1 = M 1 := u2_row h (by decide)
  have e7 : M2 7 = M 7 := u2_row h (by decide)
  have e8 : M2 8 = M 8 := u2_row h (by decide)
  have e13 : M2 13 = M 13 := u2_row h (by decide)
  have e14 : M2 14 = M 14 := u2_row h (by decide)
  have e17 : M2 17 = M 17 := u2_row h (by decide)
  have e18 : M2 18 = M 18 := u2_row h (by decide)
  have e2 : M2 2 = M 2 := u2_row h (by decide)
  have e3 : M2 3 = M 3 := u2_row h (by decide)
  have e4 : M2 4 = M 4 := u2_row h (by decide)
  have e5 : M2 5 = M 5 := u2_row h (by decide)
  have e6 : M2 6 = M 6 := u2_row h (by decide)
  have e10 : M2 10 = M 10 := u2_row h (by decide)
  have e11 : M2 11 = M 11 := u2_row h (by decide)
  have e12 : M2 12 = M 12 := u2_row h (by decide)
  have e15 : M2 15 = M 15 := u2_row h (by decide)
  have e16 : M2 16 = M 16 := u2_row h (by decide)
  have e19 : M2 19 = M 19 := u2_row h (by decide)
  have e20 : M2 20 = M 20 := u2_row h (by decide)
  have e21 : M2 21 = M 21 := u2_row h (by decide)
  have e22 : M2 22 = M 22 := u2_row h (by decide)
  have e23 : M2 23 = M 23 := u2_row h (by decide)
  have e24 : M2 24 = M 24 := u2_row h (by decide)
  have e25 : M2 25 = M 25 := u2_row h (by decide)
  have e26 : M2 26 = M 26 := u2_row h (by decide)
  have e9 : M2 9 0 = v := u2_at h
  simp only [mw, mfs, e0, e1, e2, e3, e4, e5, e6, e7, e8, e9, e10, e11, e12, e13, e14, e15, e16, e17, e18, e19, e20, e21, e22, e23, e24, e25, e26, List.cons_append, List.nil_append, List.set, List.tail]
theorem mw_13 {E : Ev} {o : Nat} {a : Nat → Nat} {M M2 : MM} {Y : va_W} {v : Int32} (h : u2 M 13 0 v = M2) : (mw E o a M ++ Y).set 0 (o, .inr (8, (mfs a M).set 13 (.int v))) = mw E o a M2 ++ Y := by
  have e0 : M2 0 = M 0 := u2_row h (by decide)
  have e1 : M2 1 = M 1 := u2_row h (by decide)
  have e7 : M2 7 = M 7 := u2_row h (by decide)
  have e8 : M2 8 = M 8 := u2_row h (by decide)
  have e9 : M2 9 = M 9 := u2_row h (by decide)
  have e14 : M2 14 = M 14 := u2_row h (by decide)
  have e17 : M2 17 = M 17 := u2_row h (by decide)
  have e18 : M2 18 = M 18 := u2_row h (by decide)
  have e2 : M2 2 = M 2 := u2_row h (by decide)
  have e3 : M2 3 = M 3 := u2_row h (by decide)
  have e4 : M2 4 = M 4 := u2_row h (by decide)
  have e5 : M2 5 = M 5 := u2_row h (by decide)
  have e6 : M2 6 = M 6 := u2_row h (by decide)
  have e10 : M2 10 = M 10 := u2_row h (by decide)
  have e11 : M2 11 = M 11 := u2_row h (by decide)
  have e12 : M2 12 = M 12 := u2_row h (by decide)
  have e15 : M2 15 = M 15 := u2_row h (by decide)
  have e16 : M2 16 = M 16 := u2_row h (by decide)
  have e19 : M2 19 = M 19 := u2_row h (by decide)
  have e20 : M2 20 = M 20 := u2_row h (by decide)
  have e21 : M2 21 = M 21 := u2_row h (by decide)
  have e22 : M2 22 = M 22 := u2_row h (by decide)
  have e23 : M2 23 = M 23 := u2_row h (by decide)
  have e24 : M2 24 = M 24 := u2_row h (by decide)
  have e25 : M2 25 = M 25 := u2_row h (by decide)
  have e26 : M2 26 = M 26 := u2_row h (by decide)
  have e13 : M2 13 0 = v := u2_at h
  simp only [mw, mfs, e0, e1, e2, e3, e4, e5, e6, e7, e8, e9, e10, e11, e12, e13, e14, e15, e16, e17, e18, e19, e20, e21, e22, e23, e24, e25, e26, List.cons_append, List.nil_append, List.set, List.tail]
theorem mw_14 {E : Ev} {o : Nat} {a : Nat → Nat} {M M2 : MM} {Y : va_W} {v : Int32} (h : u2 M 14 0 v = M2) : (mw E o a M ++ Y).set 0 (o, .inr (8, (mfs a M).set 14 (.int v))) = mw E o a M2 ++ Y := by
  have e0 : M2 0 = M 0 := u2_row h (by decide)
  have e1 : M2 1 = M 1 := u2_row h (by decide)
  have e7 : M2 7 = M 7 := u2_row h (by decide)
  have e8 : M2 8 = M 8 := u2_row h (by decide)
  have e9 : M2 9 = M 9 := u2_row h (by decide)
  have e13 : M2 13 = M 13 := u2_row h (by decide)
  have e17 : M2 17 = M 17 := u2_row h (by decide)
  have e18 : M2 18 = M 18 := u2_row h (by decide)
  have e2 : M2 2 = M 2 := u2_row h (by decide)
  have e3 : M2 3 = M 3 := u2_row h (by decide)
  have e4 : M2 4 = M 4 := u2_row h (by decide)
  have e5 : M2 5 = M 5 := u2_row h (by decide)
  have e6 : M2 6 = M 6 := u2_row h (by decide)
  have e10 : M2 10 = M 10 := u2_row h (by decide)
  have e11 : M2 11 = M 11 := u2_row h (by decide)
  have e12 : M2 12 = M 12 := u2_row h (by decide)
  have e15 : M2 15 = M 15 := u2_row h (by decide)
  have e16 : M2 16 = M 16 := u2_row h (by decide)
  have e19 : M2 19 = M 19 := u2_row h (by decide)
  have e20 : M2 20 = M 20 := u2_row h (by decide)
  have e21 : M2 21 = M 21 := u2_row h (by decide)
  have e22 : M2 22 = M 22 := u2_row h (by decide)
  have e23 : M2 23 = M 23 := u2_row h (by decide)
  have e24 : M2 24 = M 24 := u2_row h (by decide)
  have e25 : M2 25 = M 25 := u2_row h (by decide)
  have e26 : M2 26 = M 26 := u2_row h (by decide)
  have e14 : M2 14 0 = v := u2_at h
  simp only [mw, mfs, e0, e1, e2, e3, e4, e5, e6, e7, e8, e9, e10, e11, e12, e13, e14, e15, e16, e17, e18, e19, e20, e21, e22, e23, e24, e25, e26, List.cons_append, List.nil_append, List.set, List.tail]
theorem mw_17 {E : Ev} {o : Nat} {a : Nat → Nat} {M M2 : MM} {Y : va_W} {v : Int32} (h : u2 M 17 0 v = M2) : (mw E o a M ++ Y).set 0 (o, .inr (8, (mfs a M).set 17 (.int v))) = mw E o a M2 ++ Y := by
  have e0 : M2 0 = M 0 := u2_row h (by decide)
  have e1 : M2 1 = M 1 := u2_row h (by decide)
  have e7 : M2 7 = M 7 := u2_row h (by decide)
  have e8 : M2 8 = M 8 := u2_row h (by decide)
  have e9 : M2 9 = M 9 := u2_row h (by decide)
  have e13 : M2 13 = M 13 := u2_row h (by decide)
  have e14 : M2 14 = M 14 := u2_row h (by decide)
  have e18 : M2 18 = M 18 := u2_row h (by decide)
  have e2 : M2 2 = M 2 := u2_row h (by decide)
  have e3 : M2 3 = M 3 := u2_row h (by decide)
  have e4 : M2 4 = M 4 := u2_row h (by decide)
  have e5 : M2 5 = M 5 := u2_row h (by decide)
  have e6 : M2 6 = M 6 := u2_row h (by decide)
  have e10 : M2 10 = M 10 := u2_row h (by decide)
  have e11 : M2 11 = M 11 := u2_row h (by decide)
  have e12 : M2 12 = M 12 := u2_row h (by decide)
  have e15 : M2 15 = M 15 := u2_row h (by decide)
  have e16 : M2 16 = M 16 := u2_row h (by decide)
  have e19 : M2 19 = M 19 := u2_row h (by decide)
  have e20 : M2 20 = M 20 := u2_row h (by decide)
  have e21 : M2 21 = M 21 := u2_row h (by decide)
  have e22 : M2 22 = M 22 := u2_row h (by decide)
  have e23 : M2 23 = M 23 := u2_row h (by decide)
  have e24 : M2 24 = M 24 := u2_row h (by decide)
  have e25 : M2 25 = M 25 := u2_row h (by decide)
  have e26 : M2 26 = M 26 := u2_row h (by decide)
  have e17 : M2 17 0 = v := u2_at h
  simp only [mw, mfs, e0, e1, e2, e3, e4, e5, e6, e7, e8, e9, e10, e11, e12, e13, e14, e15, e16, e17, e18, e19, e20, e21, e22, e23, e24, e25, e26, List.cons_append, List.nil_append, List.set, List.tail]
theorem mw_18 {E : Ev} {o : Nat} {a : Nat → Nat} {M M2 : MM} {Y : va_W} {v : Int32} (h : u2 M 18 0 v = M2) : (mw E o a M ++ Y).set 0 (o, .inr (8, (mfs a M).set 18 (.int v))) = mw E o a M2 ++ Y := by
  have e0 : M2 0 = M 0 := u2_row h (by decide)
  have e1 : M2 1 = M 1 := u2_row h (by decide)
  have e7 : M2 7 = M 7 := u2_row h (by decide)
  have e8 : M2 8 = M 8 := u2_row h (by decide)
  have e9 : M2 9 = M 9 := u2_row h (by decide)
  have e13 : M2 13 = M 13 := u2_row h (by decide)
  have e14 : M2 14 = M 14 := u2_row h (by decide)
  have e17 : M2 17 = M 17 := u2_row h (by decide)
  have e2 : M2 2 = M 2 := u2_row h (by decide)
  have e3 : M2 3 = M 3 := u2_row h (by decide)
  have e4 : M2 4 = M 4 := u2_row h (by decide)
  have e5 : M2 5 = M 5 := u2_row h (by decide)
  have e6 : M2 6 = M 6 := u2_row h (by decide)
  have e10 : M2 10 = M 10 := u2_row h (by decide)
  have e11 : M2 11 = M 11 := u2_row h (by decide)
  have e12 : M2 12 = M 12 := u2_row h (by decide)
  have e15 : M2 15 = M 15 := u2_row h (by decide)
  have e16 : M2 16 = M 16 := u2_row h (by decide)
  have e19 : M2 19 = M 19 := u2_row h (by decide)
  have e20 : M2 20 = M 20 := u2_row h (by decide)
  have e21 : M2 21 = M 21 := u2_row h (by decide)
  have e22 : M2 22 = M 22 := u2_row h (by decide)
  have e23 : M2 23 = M 23 := u2_row h (by decide)
  have e24 : M2 24 = M 24 := u2_row h (by decide)
  have e25 : M2 25 = M 25 := u2_row h (by decide)
  have e26 : M2 26 = M 26 := u2_row h (by decide)
  have e18 : M2 18 0 = v := u2_at h
  simp only [mw, mfs, e0, e1, e2, e3, e4, e5, e6, e7, e8, e9, e10, e11, e12, e13, e14, e15, e16, e17, e18, e19, e20, e21, e22, e23, e24, e25, e26, List.cons_append, List.nil_append, List.set, List.tail]
theorem mw_2 {E : Ev} {o : Nat} {a : Nat → Nat} {M M2 : MM} {Y : va_W} {v : Int32} {j : Nat} (h : u2 M 2 j v = M2) : (mw E o a M ++ Y).set 1 (a 2, .inl (E.cA 0, 40, .inl (upd (M 2) j v))) = mw E o a M2 ++ Y := by
  have e0 : M2 0 = M 0 := u2_row h (by decide)
  have e1 : M2 1 = M 1 := u2_row h (by decide)
  have e7 : M2 7 = M 7 := u2_row h (by decide)
  have e8 : M2 8 = M 8 := u2_row h (by decide)
  have e9 : M2 9 = M 9 := u2_row h (by decide)
  have e13 : M2 13 = M 13 := u2_row h (by decide)
  have e14 : M2 14 = M 14 := u2_row h (by decide)
  have e17 : M2 17 = M 17 := u2_row h (by decide)
  have e18 : M2 18 = M 18 := u2_row h (by decide)
  have e3 : M2 3 = M 3 := u2_row h (by decide)
  have e4 : M2 4 = M 4 := u2_row h (by decide)
  have e5 : M2 5 = M 5 := u2_row h (by decide)
  have e6 : M2 6 = M 6 := u2_row h (by decide)
  have e10 : M2 10 = M 10 := u2_row h (by decide)
  have e11 : M2 11 = M 11 := u2_row h (by decide)
  have e12 : M2 12 = M 12 := u2_row h (by decide)
  have e15 : M2 15 = M 15 := u2_row h (by decide)
  have e16 : M2 16 = M 16 := u2_row h (by decide)
  have e19 : M2 19 = M 19 := u2_row h (by decide)
  have e20 : M2 20 = M 20 := u2_row h (by decide)
  have e21 : M2 21 = M 21 := u2_row h (by decide)
  have e22 : M2 22 = M 22 := u2_row h (by decide)
  have e23 : M2 23 = M 23 := u2_row h (by decide)
  have e24 : M2 24 = M 24 := u2_row h (by decide)
  have e25 : M2 25 = M 25 := u2_row h (by decide)
  have e26 : M2 26 = M 26 := u2_row h (by decide)
  have e2 : M2 2 = upd (M 2) j v := by rw [← h]; exact u2_upd
  simp only [mw, mfs, e0, e1, e2, e3, e4, e5, e6, e7, e8, e9, e10, e11, e12, e13, e14, e15, e16, e17, e18, e19, e20, e21, e22, e23, e24, e25, e26, List.cons_append, List.nil_append, List.set]
theorem mw_3 {E : Ev} {o : Nat} {a : Nat → Nat} {M M2 : MM} {Y : va_W} {v : Int32} {j : Nat} (h : u2 M 3 j v = M2) : (mw E o a M ++ Y).set 2 (a 3, .inl (E.cA 0, 40, .inl (upd (M 3) j v))) = mw E o a M2 ++ Y := by
  have e0 : M2 0 = M 0 := u2_row h (by decide)
  have e1 : M2 1 = M 1 := u2_row h (by decide)
  have e7 : M2 7 = M 7 := u2_row h (by decide)
  have e8 : M2 8 = M 8 := u2_row h (by decide)
  have e9 : M2 9 = M 9 := u2_row h (by decide)
  have e13 : M2 13 = M 13 := u2_row h (by decide)
  have e14 : M2 14 = M 14 := u2_row h (by decide)
  have e17 : M2 17 = M 17 := u2_row h (by decide)
  have e18 : M2 18 = M 18 := u2_row h (by decide)
  have e2 : M2 2 = M 2 := u2_row h (by decide)
  have e4 : M2 4 = M 4 := u2_row h (by decide)
  have e5 : M2 5 = M 5 := u2_row h (by decide)
  have e6 : M2 6 = M 6 := u2_row h (by decide)
  have e10 : M2 10 = M 10 := u2_row h (by decide)
  have e11 : M2 11 = M 11 := u2_row h (by decide)
  have e12 : M2 12 = M 12 := u2_row h (by decide)
  have e15 : M2 15 = M 15 := u2_row h (by decide)
  have e16 : M2 16 = M 16 := u2_row h (by decide)
  have e19 : M2 19 = M 19 := u2_row h (by decide)
  have e20 : M2 20 = M 20 := u2_row h (by decide)
  have e21 : M2 21 = M 21 := u2_row h (by decide)
  have e22 : M2 22 = M 22 := u2_row h (by decide)
  have e23 : M2 23 = M 23 := u2_row h (by decide)
  have e24 : M2 24 = M 24 := u2_row h (by decide)
  have e25 : M2 25 = M 25 := u2_row h (by decide)
  have e26 : M2 26 = M 26 := u2_row h (by decide)
  have e3 : M2 3 = upd (M 3) j v := by rw [← h]; exact u2_upd
  simp only [mw, mfs, e0, e1, e2, e3, e4, e5, e6, e7, e8, e9, e10, e11, e12, e13, e14, e15, e16, e17, e18, e19, e20, e21, e22, e23, e24, e25, e26, List.cons_append, List.nil_append, List.set]
theorem mw_4 {E : Ev} {o : Nat} {a : Nat → Nat} {M M2 : MM} {Y : va_W} {v : Int32} {j : Nat} (h : u2 M 4 j v = M2) : (mw E o a M ++ Y).set 3 (a 4, .inl (E.cA 0, 40, .inl (upd (M 4) j v))) = mw E o a M2 ++ Y := by
  have e0 : M2 0 = M 0 := u2_row h (by decide)
  have e1 : M2 1 = M 1 := u2_row h (by decide)
  have e7 : M2 7 = M 7 := u2_row h (by decide)
  have e8 : M2 8 = M 8 := u2_row h (by decide)
  have e9 : M2 9 = M 9 := u2_row h (by decide)
  have e13 : M2 13 = M 13 := u2_row h (by decide)
  have e14 : M2 14 = M 14 := u2_row h (by decide)
  have e17 : M2 17 = M 17 := u2_row h (by decide)
  have e18 : M2 18 = M 18 := u2_row h (by decide)
  have e2 : M2 2 = M 2 := u2_row h (by decide)
  have e3 : M2 3 = M 3 := u2_row h (by decide)
  have e5 : M2 5 = M 5 := u2_row h (by decide)
  have e6 : M2 6 = M 6 := u2_row h (by decide)
  have e10 : M2 10 = M 10 := u2_row h (by decide)
  have e11 : M2 11 = M 11 := u2_row h (by decide)
  have e12 : M2 12 = M 12 := u2_row h (by decide)
  have e15 : M2 15 = M 15 := u2_row h (by decide)
  have e16 : M2 16 = M 16 := u2_row h (by decide)
  have e19 : M2 19 = M 19 := u2_row h (by decide)
  have e20 : M2 20 = M 20 := u2_row h (by decide)
  have e21 : M2 21 = M 21 := u2_row h (by decide)
  have e22 : M2 22 = M 22 := u2_row h (by decide)
  have e23 : M2 23 = M 23 := u2_row h (by decide)
  have e24 : M2 24 = M 24 := u2_row h (by decide)
  have e25 : M2 25 = M 25 := u2_row h (by decide)
  have e26 : M2 26 = M 26 := u2_row h (by decide)
  have e4 : M2 4 = upd (M 4) j v := by rw [← h]; exact u2_upd
  simp only [mw, mfs, e0, e1, e2, e3, e4, e5, e6, e7, e8, e9, e10, e11, e12, e13, e14, e15, e16, e17, e18, e19, e20, e21, e22, e23, e24, e25, e26, List.cons_append, List.nil_append, List.set]
theorem mw_5 {E : Ev} {o : Nat} {a : Nat → Nat} {M M2 : MM} {Y : va_W} {v : Int32} {j : Nat} (h : u2 M 5 j v = M2) : (mw E o a M ++ Y).set 4 (a 5, .inl (E.cA 0, 1600, .inl (upd (M 5) j v))) = mw E o a M2 ++ Y := by
  have e0 : M2 0 = M 0 := u2_row h (by decide)
  have e1 : M2 1 = M 1 := u2_row h (by decide)
  have e7 : M2 7 = M 7 := u2_row h (by decide)
  have e8 : M2 8 = M 8 := u2_row h (by decide)
  have e9 : M2 9 = M 9 := u2_row h (by decide)
  have e13 : M2 13 = M 13 := u2_row h (by decide)
  have e14 : M2 14 = M 14 := u2_row h (by decide)
  have e17 : M2 17 = M 17 := u2_row h (by decide)
  have e18 : M2 18 = M 18 := u2_row h (by decide)
  have e2 : M2 2 = M 2 := u2_row h (by decide)
  have e3 : M2 3 = M 3 := u2_row h (by decide)
  have e4 : M2 4 = M 4 := u2_row h (by decide)
  have e6 : M2 6 = M 6 := u2_row h (by decide)
  have e10 : M2 10 = M 10 := u2_row h (by decide)
  have e11 : M2 11 = M 11 := u2_row h (by decide)
  have e12 : M2 12 = M 12 := u2_row h (by decide)
  have e15 : M2 15 = M 15 := u2_row h (by decide)
  have e16 : M2 16 = M 16 := u2_row h (by decide)
  have e19 : M2 19 = M 19 := u2_row h (by decide)
  have e20 : M2 20 = M 20 := u2_row h (by decide)
  have e21 : M2 21 = M 21 := u2_row h (by decide)
  have e22 : M2 22 = M 22 := u2_row h (by decide)
  have e23 : M2 23 = M 23 := u2_row h (by decide)
  have e24 : M2 24 = M 24 := u2_row h (by decide)
  have e25 : M2 25 = M 25 := u2_row h (by decide)
  have e26 : M2 26 = M 26 := u2_row h (by decide)
  have e5 : M2 5 = upd (M 5) j v := by rw [← h]; exact u2_upd
  simp only [mw, mfs, e0, e1, e2, e3, e4, e5, e6, e7, e8, e9, e10, e11, e12, e13, e14, e15, e16, e17, e18, e19, e20, e21, e22, e23, e24, e25, e26, List.cons_append, List.nil_append, List.set]
theorem mw_6 {E : Ev} {o : Nat} {a : Nat → Nat} {M M2 : MM} {Y : va_W} {v : Int32} {j : Nat} (h : u2 M 6 j v = M2) : (mw E o a M ++ Y).set 5 (a 6, .inl (E.cA 1, 1600, .inl (upd (M 6) j v))) = mw E o a M2 ++ Y := by
  have e0 : M2 0 = M 0 := u2_row h (by decide)
  have e1 : M2 1 = M 1 := u2_row h (by decide)
  have e7 : M2 7 = M 7 := u2_row h (by decide)
  have e8 : M2 8 = M 8 := u2_row h (by decide)
  have e9 : M2 9 = M 9 := u2_row h (by decide)
  have e13 : M2 13 = M 13 := u2_row h (by decide)
  have e14 : M2 14 = M 14 := u2_row h (by decide)
  have e17 : M2 17 = M 17 := u2_row h (by decide)
  have e18 : M2 18 = M 18 := u2_row h (by decide)
  have e2 : M2 2 = M 2 := u2_row h (by decide)
  have e3 : M2 3 = M 3 := u2_row h (by decide)
  have e4 : M2 4 = M 4 := u2_row h (by decide)
  have e5 : M2 5 = M 5 := u2_row h (by decide)
  have e10 : M2 10 = M 10 := u2_row h (by decide)
  have e11 : M2 11 = M 11 := u2_row h (by decide)
  have e12 : M2 12 = M 12 := u2_row h (by decide)
  have e15 : M2 15 = M 15 := u2_row h (by decide)
  have e16 : M2 16 = M 16 := u2_row h (by decide)
  have e19 : M2 19 = M 19 := u2_row h (by decide)
  have e20 : M2 20 = M 20 := u2_row h (by decide)
  have e21 : M2 21 = M 21 := u2_row h (by decide)
  have e22 : M2 22 = M 22 := u2_row h (by decide)
  have e23 : M2 23 = M 23 := u2_row h (by decide)
  have e24 : M2 24 = M 24 := u2_row h (by decide)
  have e25 : M2 25 = M 25 := u2_row h (by decide)
  have e26 : M2 26 = M 26 := u2_row h (by decide)
  have e6 : M2 6 = upd (M 6) j v := by rw [← h]; exact u2_upd
  simp only [mw, mfs, e0, e1, e2, e3, e4, e5, e6, e7, e8, e9, e10, e11, e12, e13, e14, e15, e16, e17, e18, e19, e20, e21, e22, e23, e24, e25, e26, List.cons_append, List.nil_append, List.set]
theorem mw_10 {E : Ev} {o : Nat} {a : Nat → Nat} {M M2 : MM} {Y : va_W} {v : Int32} {j : Nat} (h : u2 M 10 j v = M2) : (mw E o a M ++ Y).set 6 (a 10, .inl (E.cA 0, 80, .inl (upd (M 10) j v))) = mw E o a M2 ++ Y := by
  have e0 : M2 0 = M 0 := u2_row h (by decide)
  have e1 : M2 1 = M 1 := u2_row h (by decide)
  have e7 : M2 7 = M 7 := u2_row h (by decide)
  have e8 : M2 8 = M 8 := u2_row h (by decide)
  have e9 : M2 9 = M 9 := u2_row h (by decide)
  have e13 : M2 13 = M 13 := u2_row h (by decide)
  have e14 : M2 14 = M 14 := u2_row h (by decide)
  have e17 : M2 17 = M 17 := u2_row h (by decide)
  have e18 : M2 18 = M 18 := u2_row h (by decide)
  have e2 : M2 2 = M 2 := u2_row h (by decide)
  have e3 : M2 3 = M 3 := u2_row h (by decide)
  have e4 : M2 4 = M 4 := u2_row h (by decide)
  have e5 : M2 5 = M 5 := u2_row h (by decide)
  have e6 : M2 6 = M 6 := u2_row h (by decide)
  have e11 : M2 11 = M 11 := u2_row h (by decide)
  have e12 : M2 12 = M 12 := u2_row h (by decide)
  have e15 : M2 15 = M 15 := u2_row h (by decide)
  have e16 : M2 16 = M 16 := u2_row h (by decide)
  have e19 : M2 19 = M 19 := u2_row h (by decide)
  have e20 : M2 20 = M 20 := u2_row h (by decide)
  have e21 : M2 21 = M 21 := u2_row h (by decide)
  have e22 : M2 22 = M 22 := u2_row h (by decide)
  have e23 : M2 23 = M 23 := u2_row h (by decide)
  have e24 : M2 24 = M 24 := u2_row h (by decide)
  have e25 : M2 25 = M 25 := u2_row h (by decide)
  have e26 : M2 26 = M 26 := u2_row h (by decide)
  have e10 : M2 10 = upd (M 10) j v := by rw [← h]; exact u2_upd
  simp only [mw, mfs, e0, e1, e2, e3, e4, e5, e6, e7, e8, e9, e10, e11, e12, e13, e14, e15, e16, e17, e18, e19, e20, e21, e22, e23, e24, e25, e26, List.cons_append, List.nil_append, List.set]
theorem mw_11 {E : Ev} {o : Nat} {a : Nat → Nat} {M M2 : MM} {Y : va_W} {v : Int32} {j : Nat} (h : u2 M 11 j v = M2) : (mw E o a M ++ Y).set 7 (a 11, .inl (E.cA 0, 80, .inl (upd (M 11) j v))) = mw E o a M2 ++ Y := by
  have e0 : M2 0 = M 0 := u2_row h (by decide)
  have e1 : M2 1 = M 1 := u2_row h (by decide)
  have e7 : M2 7 = M 7 := u2_row h (by decide)
  have e8 : M2 8 = M 8 := u2_row h (by decide)
  have e9 : M2 9 = M 9 := u2_row h (by decide)
  have e13 : M2 13 = M 13 := u2_row h (by decide)
  have e14 : M2 14 = M 14 := u2_row h (by decide)
  have e17 : M2 17 = M 17 := u2_row h (by decide)
  have e18 : M2 18 = M 18 := u2_row h (by decide)
  have e2 : M2 2 = M 2 := u2_row h (by decide)
  have e3 : M2 3 = M 3 := u2_row h (by decide)
  have e4 : M2 4 = M 4 := u2_row h (by decide)
  have e5 : M2 5 = M 5 := u2_row h (by decide)
  have e6 : M2 6 = M 6 := u2_row h (by decide)
  have e10 : M2 10 = M 10 := u2_row h (by decide)
  have e12 : M2 12 = M 12 := u2_row h (by decide)
  have e15 : M2 15 = M 15 := u2_row h (by decide)
  have e16 : M2 16 = M 16 := u2_row h (by decide)
  have e19 : M2 19 = M 19 := u2_row h (by decide)
  have e20 : M2 20 = M 20 := u2_row h (by decide)
  have e21 : M2 21 = M 21 := u2_row h (by decide)
  have e22 : M2 22 = M 22 := u2_row h (by decide)
  have e23 : M2 23 = M 23 := u2_row h (by decide)
  have e24 : M2 24 = M 24 := u2_row h (by decide)
  have e25 : M2 25 = M 25 := u2_row h (by decide)
  have e26 : M2 26 = M 26 := u2_row h (by decide)
  have e11 : M2 11 = upd (M 11) j v := by rw [← h]; exact u2_upd
  simp only [mw, mfs, e0, e1, e2, e3, e4, e5, e6, e7, e8, e9, e10, e11, e12, e13, e14, e15, e16, e17, e18, e19, e20, e21, e22, e23, e24, e25, e26, List.cons_append, List.nil_append, List.set]
theorem mw_12 {E : Ev} {o : Nat} {a : Nat → Nat} {M M2 : MM} {Y : va_W} {v : Int32} {j : Nat} (h : u2 M 12 j v = M2) : (mw E o a M ++ Y).set 8 (a 12, .inl (E.cA 0, 80, .inl (upd (M 12) j v))) = mw E o a M2 ++ Y := by
  have e0 : M2 0 = M 0 := u2_row h (by decide)
  have e1 : M2 1 = M 1 := u2_row h (by decide)
  have e7 : M2 7 = M 7 := u2_row h (by decide)
  have e8 : M2 8 = M 8 := u2_row h (by decide)
  have e9 : M2 9 = M 9 := u2_row h (by decide)
  have e13 : M2 13 = M 13 := u2_row h (by decide)
  have e14 : M2 14 = M 14 := u2_row h (by decide)
  have e17 : M2 17 = M 17 := u2_row h (by decide)
  have e18 : M2 18 = M 18 := u2_row h (by decide)
  have e2 : M2 2 = M 2 := u2_row h (by decide)
  have e3 : M2 3 = M 3 := u2_row h (by decide)
  have e4 : M2 4 = M 4 := u2_row h (by decide)
  have e5 : M2 5 = M 5 := u2_row h (by decide)
  have e6 : M2 6 = M 6 := u2_row h (by decide)
  have e10 : M2 10 = M 10 := u2_row h (by decide)
  have e11 : M2 11 = M 11 := u2_row h (by decide)
  have e15 : M2 15 = M 15 := u2_row h (by decide)
  have e16 : M2 16 = M 16 := u2_row h (by decide)
  have e19 : M2 19 = M 19 := u2_row h (by decide)
  have e20 : M2 20 = M 20 := u2_row h (by decide)
  have e21 : M2 21 = M 21 := u2_row h (by decide)
  have e22 : M2 22 = M 22 := u2_row h (by decide)
  have e23 : M2 23 = M 23 := u2_row h (by decide)
  have e24 : M2 24 = M 24 := u2_row h (by decide)
  have e25 : M2 25 = M 25 := u2_row h (by decide)
  have e26 : M2 26 = M 26 := u2_row h (by decide)
  have e12 : M2 12 = upd (M 12) j v := by rw [← h]; exact u2_upd
  simp only [mw, mfs, e0, e1, e2, e3, e4, e5, e6, e7, e8, e9, e10, e11, e12, e13, e14, e15, e16, e17, e18, e19, e20, e21, e22, e23, e24, e25, e26, List.cons_append, List.nil_append, List.set]
theorem mw_15 {E : Ev} {o : Nat} {a : Nat → Nat} {M M2 : MM} {Y : va_W} {v : Int32} {j : Nat} (h : u2 M 15 j v = M2) : (mw E o a M ++ Y).set 9 (a 15, .inl (E.cA 0, 20, .inl (upd (M 15) j v))) = mw E o a M2 ++ Y := by
  have e0 : M2 0 = M 0 := u2_row h (by decide)
  have e1 : M2 1 = M 1 := u2_row h (by decide)
  have e7 : M2 7 = M 7 := u2_row h (by decide)
  have e8 : M2 8 = M 8 := u2_row h (by decide)
  have e9 : M2 9 = M 9 := u2_row h (by decide)
  have e13 : M2 13 = M 13 := u2_row h (by decide)
  have e14 : M2 14 = M 14 := u2_row h (by decide)
  have e17 : M2 17 = M 17 := u2_row h (by decide)
  have e18 : M2 18 = M 18 := u2_row h (by decide)
  have e2 : M2 2 = M 2 := u2_row h (by decide)
  have e3 : M2 3 = M 3 := u2_row h (by decide)
  have e4 : M2 4 = M 4 := u2_row h (by decide)
  have e5 : M2 5 = M 5 := u2_row h (by decide)
  have e6 : M2 6 = M 6 := u2_row h (by decide)
  have e10 : M2 10 = M 10 := u2_row h (by decide)
  have e11 : M2 11 = M 11 := u2_row h (by decide)
  have e12 : M2 12 = M 12 := u2_row h (by decide)
  have e16 : M2 16 = M 16 := u2_row h (by decide)
  have e19 : M2 19 = M 19 := u2_row h (by decide)
  have e20 : M2 20 = M 20 := u2_row h (by decide)
  have e21 : M2 21 = M 21 := u2_row h (by decide)
  have e22 : M2 22 = M 22 := u2_row h (by decide)
  have e23 : M2 23 = M 23 := u2_row h (by decide)
  have e24 : M2 24 = M 24 := u2_row h (by decide)
  have e25 : M2 25 = M 25 := u2_row h (by decide)
  have e26 : M2 26 = M 26 := u2_row h (by decide)
  have e15 : M2 15 = upd (M 15) j v := by rw [← h]; exact u2_upd
  simp only [mw, mfs, e0, e1, e2, e3, e4, e5, e6, e7, e8, e9, e10, e11, e12, e13, e14, e15, e16, e17, e18, e19, e20, e21, e22, e23, e24, e25, e26, List.cons_append, List.nil_append, List.set]
theorem mw_16 {E : Ev} {o : Nat} {a : Nat → Nat} {M M2 : MM} {Y : va_W} {v : Int32} {j : Nat} (h : u2 M 16 j v = M2) : (mw E o a M ++ Y).set 10 (a 16, .inl (E.cA 0, 20, .inl (upd (M 16) j v))) = mw E o a M2 ++ Y := by
  have e0 : M2 0 = M 0 := u2_row h (by decide)
  have e1 : M2 1 = M 1 := u2_row h (by decide)
  have e7 : M2 7 = M 7 := u2_row h (by decide)
  have e8 : M2 8 = M 8 := u2_row h (by decide)
  have e9 : M2 9 = M 9 := u2_row h (by decide)
  have e13 : M2 13 = M 13 := u2_row h (by decide)
  have e14 : M2 14 = M 14 := u2_row h (by decide)
  have e17 : M2 17 = M 17 := u2_row h (by decide)
  have e18 : M2 18 = M 18 := u2_row h (by decide)
  have e2 : M2 2 = M 2 := u2_row h (by decide)
  have e3 : M2 3 = M 3 := u2_row h (by decide)
  have e4 : M2 4 = M 4 := u2_row h (by decide)
  have e5 : M2 5 = M 5 := u2_row h (by decide)
  have e6 : M2 6 = M 6 := u2_row h (by decide)
  have e10 : M2 10 = M 10 := u2_row h (by decide)
  have e11 : M2 11 = M 11 := u2_row h (by decide)
  have e12 : M2 12 = M 12 := u2_row h (by decide)
  have e15 : M2 15 = M 15 := u2_row h (by decide)
  have e19 : M2 19 = M 19 := u2_row h (by decide)
  have e20 : M2 20 = M 20 := u2_row h (by decide)
  have e21 : M2 21 = M 21 := u2_row h (by decide)
  have e22 : M2 22 = M 22 := u2_row h (by decide)
  have e23 : M2 23 = M 23 := u2_row h (by decide)
  have e24 : M2 24 = M 24 := u2_row h (by decide)
  have e25 : M2 25 = M 25 := u2_row h (by decide)
  have e26 : M2 26 = M 26 := u2_row h (by decide)
  have e16 : M2 16 = upd (M 16) j v := by rw [← h]; exact u2_upd
  simp only [mw, mfs, e0, e1, e2, e3, e4, e5, e6, e7, e8, e9, e10, e11, e12, e13, e14, e15, e16, e17, e18, e19, e20, e21, e22, e23, e24, e25, e26, List.cons_append, List.nil_append, List.set]
theorem mw_19 {E : Ev} {o : Nat} {a : Nat → Nat} {M M2 : MM} {Y : va_W} {v : Int32} {j : Nat} (h : u2 M 19 j v = M2) : (mw E o a M ++ Y).set 11 (a 19, .inl (E.cA 0, 50, .inl (upd (M 19) j v))) = mw E o a M2 ++ Y := by
  have e0 : M2 0 = M 0 := u2_row h (by decide)
  have e1 : M2 1 = M 1 := u2_row h (by decide)
  have e7 : M2 7 = M 7 := u2_row h (by decide)
  have e8 : M2 8 = M 8 := u2_row h (by decide)
  have e9 : M2 9 = M 9 := u2_row h (by decide)
  have e13 : M2 13 = M 13 := u2_row h (by decide)
  have e14 : M2 14 = M 14 := u2_row h (by decide)
  have e17 : M2 17 = M 17 := u2_row h (by decide)
  have e18 : M2 18 = M 18 := u2_row h (by decide)
  have e2 : M2 2 = M 2 := u2_row h (by decide)
  have e3 : M2 3 = M 3 := u2_row h (by decide)
  have e4 : M2 4 = M 4 := u2_row h (by decide)
  have e5 : M2 5 = M 5 := u2_row h (by decide)
  have e6 : M2 6 = M 6 := u2_row h (by decide)
  have e10 : M2 10 = M 10 := u2_row h (by decide)
  have e11 : M2 11 = M 11 := u2_row h (by decide)
  have e12 : M2 12 = M 12 := u2_row h (by decide)
  have e15 : M2 15 = M 15 := u2_row h (by decide)
  have e16 : M2 16 = M 16 := u2_row h (by decide)
  have e20 : M2 20 = M 20 := u2_row h (by decide)
  have e21 : M2 21 = M 21 := u2_row h (by decide)
  have e22 : M2 22 = M 22 := u2_row h (by decide)
  have e23 : M2 23 = M 23 := u2_row h (by decide)
  have e24 : M2 24 = M 24 := u2_row h (by decide)
  have e25 : M2 25 = M 25 := u2_row h (by decide)
  have e26 : M2 26 = M 26 := u2_row h (by decide)
  have e19 : M2 19 = upd (M 19) j v := by rw [← h]; exact u2_upd
  simp only [mw, mfs, e0, e1, e2, e3, e4, e5, e6, e7, e8, e9, e10, e11, e12, e13, e14, e15, e16, e17, e18, e19, e20, e21, e22, e23, e24, e25, e26, List.cons_append, List.nil_append, List.set]
theorem mw_20 {E : Ev} {o : Nat} {a : Nat → Nat} {M M2 : MM} {Y : va_W} {v : Int32} {j : Nat} (h : u2 M 20 j v = M2) : (mw E o a M ++ Y).set 12 (a 20, .inl (E.cA 0, 40, .inl (upd (M 20) j v))) = mw E o a M2 ++ Y := by
  have e0 : M2 0 = M 0 := u2_row h (by decide)
  have e1 : M2 1 = M 1 := u2_row h (by decide)
  have e7 : M2 7 = M 7 := u2_row h (by decide)
  have e8 : M2 8 = M 8 := u2_row h (by decide)
  have e9 : M2 9 = M 9 := u2_row h (by decide)
  have e13 : M2 13 = M 13 := u2_row h (by decide)
  have e14 : M2 14 = M 14 := u2_row h (by decide)
  have e17 : M2 17 = M 17 := u2_row h (by decide)
  have e18 : M2 18 = M 18 := u2_row h (by decide)
  have e2 : M2 2 = M 2 := u2_row h (by decide)
  have e3 : M2 3 = M 3 := u2_row h (by decide)
  have e4 : M2 4 = M 4 := u2_row h (by decide)
  have e5 : M2 5 = M 5 := u2_row h (by decide)
  have e6 : M2 6 = M 6 := u2_row h (by decide)
  have e10 : M2 10 = M 10 := u2_row h (by decide)
  have e11 : M2 11 = M 11 := u2_row h (by decide)
  have e12 : M2 12 = M 12 := u2_row h (by decide)
  have e15 : M2 15 = M 15 := u2_row h (by decide)
  have e16 : M2 16 = M 16 := u2_row h (by decide)
  have e19 : M2 19 = M 19 := u2_row h (by decide)
  have e21 : M2 21 = M 21 := u2_row h (by decide)
  have e22 : M2 22 = M 22 := u2_row h (by decide)
  have e23 : M2 23 = M 23 := u2_row h (by decide)
  have e24 : M2 24 = M 24 := u2_row h (by decide)
  have e25 : M2 25 = M 25 := u2_row h (by decide)
  have e26 : M2 26 = M 26 := u2_row h (by decide)
  have e20 : M2 20 = upd (M 20) j v := by rw [← h]; exact u2_upd
  simp only [mw, mfs, e0, e1, e2, e3, e4, e5, e6, e7, e8, e9, e10, e11, e12, e13, e14, e15, e16, e17, e18, e19, e20, e21, e22, e23, e24, e25, e26, List.cons_append, List.nil_append, List.set]
theorem mw_21 {E : Ev} {o : Nat} {a : Nat → Nat} {M M2 : MM} {Y : va_W} {v : Int32} {j : Nat} (h : u2 M 21 j v = M2) : (mw E o a M ++ Y).set 13 (a 21, .inl (E.cA 0, 40, .inl (upd (M 21) j v))) = mw E o a M2 ++ Y := by
  have e0 : M2 0 = M 0 := u2_row h (by decide)
  have e1 : M2 1 = M 1 := u2_row h (by decide)
  have e7 : M2 7 = M 7 := u2_row h (by decide)
  have e8 : M2 8 = M 8 := u2_row h (by decide)
  have e9 : M2 9 = M 9 := u2_row h (by decide)
  have e13 : M2 13 = M 13 := u2_row h (by decide)
  have e14 : M2 14 = M 14 := u2_row h (by decide)
  have e17 : M2 17 = M 17 := u2_row h (by decide)
  have e18 : M2 18 = M 18 := u2_row h (by decide)
  have e2 : M2 2 = M 2 := u2_row h (by decide)
  have e3 : M2 3 = M 3 := u2_row h (by decide)
  have e4 : M2 4 = M 4 := u2_row h (by decide)
  have e5 : M2 5 = M 5 := u2_row h (by decide)
  have e6 : M2 6 = M 6 := u2_row h (by decide)
  have e10 : M2 10 = M 10 := u2_row h (by decide)
  have e11 : M2 11 = M 11 := u2_row h (by decide)
  have e12 : M2 12 = M 12 := u2_row h (by decide)
  have e15 : M2 15 = M 15 := u2_row h (by decide)
  have e16 : M2 16 = M 16 := u2_row h (by decide)
  have e19 : M2 19 = M 19 := u2_row h (by decide)
  have e20 : M2 20 = M 20 := u2_row h (by decide)
  have e22 : M2 22 = M 22 := u2_row h (by decide)
  have e23 : M2 23 = M 23 := u2_row h (by decide)
  have e24 : M2 24 = M 24 := u2_row h (by decide)
  have e25 : M2 25 = M 25 := u2_row h (by decide)
  have e26 : M2 26 = M 26 := u2_row h (by decide)
  have e21 : M2 21 = upd (M 21) j v := by rw [← h]; exact u2_upd
  simp only [mw, mfs, e0, e1, e2, e3, e4, e5, e6, e7, e8, e9, e10, e11, e12, e13, e14, e15, e16, e17, e18, e19, e20, e21, e22, e23, e24, e25, e26, List.cons_append, List.nil_append, List.set]
theorem mw_22 {E : Ev} {o : Nat} {a : Nat → Nat} {M M2 : MM} {Y : va_W} {v : Int32} {j : Nat} (h : u2 M 22 j v = M2) : (mw E o a M ++ Y).set 14 (a 22, .inl (E.cA 0, 40, .inl (upd (M 22) j v))) = mw E o a M2 ++ Y := by
  have e0 : M2 0 = M 0 := u2_row h (by decide)
  have e1 : M2 1 = M 1 := u2_row h (by decide)
  have e7 : M2 7 = M 7 := u2_row h (by decide)
  have e8 : M2 8 = M 8 := u2_row h (by decide)
  have e9 : M2 9 = M 9 := u2_row h (by decide)
  have e13 : M2 13 = M 13 := u2_row h (by decide)
  have e14 : M2 14 = M 14 := u2_row h (by decide)
  have e17 : M2 17 = M 17 := u2_row h (by decide)
  have e18 : M2 18 = M 18 := u2_row h (by decide)
  have e2 : M2 2 = M 2 := u2_row h (by decide)
  have e3 : M2 3 = M 3 := u2_row h (by decide)
  have e4 : M2 4 = M 4 := u2_row h (by decide)
  have e5 : M2 5 = M 5 := u2_row h (by decide)
  have e6 : M2 6 = M 6 := u2_row h (by decide)
  have e10 : M2 10 = M 10 := u2_row h (by decide)
  have e11 : M2 11 = M 11 := u2_row h (by decide)
  have e12 : M2 12 = M 12 := u2_row h (by decide)
  have e15 : M2 15 = M 15 := u2_row h (by decide)
  have e16 : M2 16 = M 16 := u2_row h (by decide)
  have e19 : M2 19 = M 19 := u2_row h (by decide)
  have e20 : M2 20 = M 20 := u2_row h (by decide)
  have e21 : M2 21 = M 21 := u2_row h (by decide)
  have e23 : M2 23 = M 23 := u2_row h (by decide)
  have e24 : M2 24 = M 24 := u2_row h (by decide)
  have e25 : M2 25 = M 25 := u2_row h (by decide)
  have e26 : M2 26 = M 26 := u2_row h (by decide)
  have e22 : M2 22 = upd (M 22) j v := by rw [← h]; exact u2_upd
  simp only [mw, mfs, e0, e1, e2, e3, e4, e5, e6, e7, e8, e9, e10, e11, e12, e13, e14, e15, e16, e17, e18, e19, e20, e21, e22, e23, e24, e25, e26, List.cons_append, List.nil_append, List.set]
theorem mw_23 {E : Ev} {o : Nat} {a : Nat → Nat} {M M2 : MM} {Y : va_W} {v : Int32} {j : Nat} (h : u2 M 23 j v = M2) : (mw E o a M ++ Y).set 15 (a 23, .inl (E.cA 0, 40, .inl (upd (M 23) j v))) = mw E o a M2 ++ Y := by
  have e0 : M2 0 = M 0 := u2_row h (by decide)
  have e1 : M2 1 = M 1 := u2_row h (by decide)
  have e7 : M2 7 = M 7 := u2_row h (by decide)
  have e8 : M2 8 = M 8 := u2_row h (by decide)
  have e9 : M2 9 = M 9 := u2_row h (by decide)
  have e13 : M2 13 = M 13 := u2_row h (by decide)
  have e14 : M2 14 = M 14 := u2_row h (by decide)
  have e17 : M2 17 = M 17 := u2_row h (by decide)
  have e18 : M2 18 = M 18 := u2_row h (by decide)
  have e2 : M2 2 = M 2 := u2_row h (by decide)
  have e3 : M2 3 = M 3 := u2_row h (by decide)
  have e4 : M2 4 = M 4 := u2_row h (by decide)
  have e5 : M2 5 = M 5 := u2_row h (by decide)
  have e6 : M2 6 = M 6 := u2_row h (by decide)
  have e10 : M2 10 = M 10 := u2_row h (by decide)
  have e11 : M2 11 = M 11 := u2_row h (by decide)
  have e12 : M2 12 = M 12 := u2_row h (by decide)
  have e15 : M2 15 = M 15 := u2_row h (by decide)
  have e16 : M2 16 = M 16 := u2_row h (by decide)
  have e19 : M2 19 = M 19 := u2_row h (by decide)
  have e20 : M2 20 = M 20 := u2_row h (by decide)
  have e21 : M2 21 = M 21 := u2_row h (by decide)
  have e22 : M2 22 = M 22 := u2_row h (by decide)
  have e24 : M2 24 = M 24 := u2_row h (by decide)
  have e25 : M2 25 = M 25 := u2_row h (by decide)
  have e26 : M2 26 = M 26 := u2_row h (by decide)
  have e23 : M2 23 = upd (M 23) j v := by rw [← h]; exact u2_upd
  simp only [mw, mfs, e0, e1, e2, e3, e4, e5, e6, e7, e8, e9, e10, e11, e12, e13, e14, e15, e16, e17, e18, e19, e20, e21, e22, e23, e24, e25, e26, List.cons_append, List.nil_append, List.set]
theorem mw_24 {E : Ev} {o : Nat} {a : Nat → Nat} {M M2 : MM} {Y : va_W} {v : Int32} {j : Nat} (h : u2 M 24 j v = M2) : (mw E o a M ++ Y).set 16 (a 24, .inl (E.cA 1, 40, .inl (upd (M 24) j v))) = mw E o a M2 ++ Y := by
  have e0 : M2 0 = M 0 := u2_row h (by decide)
  have e1 : M2 1 = M 1 := u2_row h (by decide)
  have e7 : M2 7 = M 7 := u2_row h (by decide)
  have e8 : M2 8 = M 8 := u2_row h (by decide)
  have e9 : M2 9 = M 9 := u2_row h (by decide)
  have e13 : M2 13 = M 13 := u2_row h (by decide)
  have e14 : M2 14 = M 14 := u2_row h (by decide)
  have e17 : M2 17 = M 17 := u2_row h (by decide)
  have e18 : M2 18 = M 18 := u2_row h (by decide)
  have e2 : M2 2 = M 2 := u2_row h (by decide)
  have e3 : M2 3 = M 3 := u2_row h (by decide)
  have e4 : M2 4 = M 4 := u2_row h (by decide)
  have e5 : M2 5 = M 5 := u2_row h (by decide)
  have e6 : M2 6 = M 6 := u2_row h (by decide)
  have e10 : M2 10 = M 10 := u2_row h (by decide)
  have e11 : M2 11 = M 11 := u2_row h (by decide)
  have e12 : M2 12 = M 12 := u2_row h (by decide)
  have e15 : M2 15 = M 15 := u2_row h (by decide)
  have e16 : M2 16 = M 16 := u2_row h (by decide)
  have e19 : M2 19 = M 19 := u2_row h (by decide)
  have e20 : M2 20 = M 20 := u2_row h (by decide)
  have e21 : M2 21 = M 21 := u2_row h (by decide)
  have e22 : M2 22 = M 22 := u2_row h (by decide)
  have e23 : M2 23 = M 23 := u2_row h (by decide)
  have e25 : M2 25 = M 25 := u2_row h (by decide)
  have e26 : M2 26 = M 26 := u2_row h (by decide)
  have e24 : M2 24 = upd (M 24) j v := by rw [← h]; exact u2_upd
  simp only [mw, mfs, e0, e1, e2, e3, e4, e5, e6, e7, e8, e9, e10, e11, e12, e13, e14, e15, e16, e17, e18, e19, e20, e21, e22, e23, e24, e25, e26, List.cons_append, List.nil_append, List.set]
theorem mw_25 {E : Ev} {o : Nat} {a : Nat → Nat} {M M2 : MM} {Y : va_W} {v : Int32} {j : Nat} (h : u2 M 25 j v = M2) : (mw E o a M ++ Y).set 17 (a 25, .inl (E.cA 0, 40, .inl (upd (M 25) j v))) = mw E o a M2 ++ Y := by
  have e0 : M2 0 = M 0 := u2_row h (by decide)
  have e1 : M2 1 = M 1 := u2_row h (by decide)
  have e7 : M2 7 = M 7 := u2_row h (by decide)
  have e8 : M2 8 = M 8 := u2_row h (by decide)
  have e9 : M2 9 = M 9 := u2_row h (by decide)
  have e13 : M2 13 = M 13 := u2_row h (by decide)
  have e14 : M2 14 = M 14 := u2_row h (by decide)
  have e17 : M2 17 = M 17 := u2_row h (by decide)
  have e18 : M2 18 = M 18 := u2_row h (by decide)
  have e2 : M2 2 = M 2 := u2_row h (by decide)
  have e3 : M2 3 = M 3 := u2_row h (by decide)
  have e4 : M2 4 = M 4 := u2_row h (by decide)
  have e5 : M2 5 = M 5 := u2_row h (by decide)
  have e6 : M2 6 = M 6 := u2_row h (by decide)
  have e10 : M2 10 = M 10 := u2_row h (by decide)
  have e11 : M2 11 = M 11 := u2_row h (by decide)
  have e12 : M2 12 = M 12 := u2_row h (by decide)
  have e15 : M2 15 = M 15 := u2_row h (by decide)
  have e16 : M2 16 = M 16 := u2_row h (by decide)
  have e19 : M2 19 = M 19 := u2_row h (by decide)
  have e20 : M2 20 = M 20 := u2_row h (by decide)
  have e21 : M2 21 = M 21 := u2_row h (by decide)
  have e22 : M2 22 = M 22 := u2_row h (by decide)
  have e23 : M2 23 = M 23 := u2_row h (by decide)
  have e24 : M2 24 = M 24 := u2_row h (by decide)
  have e26 : M2 26 = M 26 := u2_row h (by decide)
  have e25 : M2 25 = upd (M 25) j v := by rw [← h]; exact u2_upd
  simp only [mw, mfs, e0, e1, e2, e3, e4, e5, e6, e7, e8, e9, e10, e11, e12, e13, e14, e15, e16, e17, e18, e19, e20, e21, e22, e23, e24, e25, e26, List.cons_append, List.nil_append, List.set]
theorem mw_26 {E : Ev} {o : Nat} {a : Nat → Nat} {M M2 : MM} {Y : va_W} {v : Int32} {j : Nat} (h : u2 M 26 j v = M2) : (mw E o a M ++ Y).set 18 (a 26, .inl (E.cA 0, 40, .inl (upd (M 26) j v))) = mw E o a M2 ++ Y := by
  have e0 : M2 0 = M 0 := u2_row h (by decide)
  have e1 : M2 1 = M 1 := u2_row h (by decide)
  have e7 : M2 7 = M 7 := u2_row h (by decide)
  have e8 : M2 8 = M 8 := u2_row h (by decide)
  have e9 : M2 9 = M 9 := u2_row h (by decide)
  have e13 : M2 13 = M 13 := u2_row h (by decide)
  have e14 : M2 14 = M 14 := u2_row h (by decide)
  have e17 : M2 17 = M 17 := u2_row h (by decide)
  have e18 : M2 18 = M 18 := u2_row h (by decide)
  have e2 : M2 2 = M 2 := u2_row h (by decide)
  have e3 : M2 3 = M 3 := u2_row h (by decide)
  have e4 : M2 4 = M 4 := u2_row h (by decide)
  have e5 : M2 5 = M 5 := u2_row h (by decide)
  have e6 : M2 6 = M 6 := u2_row h (by decide)
  have e10 : M2 10 = M 10 := u2_row h (by decide)
  have e11 : M2 11 = M 11 := u2_row h (by decide)
  have e12 : M2 12 = M 12 := u2_row h (by decide)
  have e15 : M2 15 = M 15 := u2_row h (by decide)
  have e16 : M2 16 = M 16 := u2_row h (by decide)
  have e19 : M2 19 = M 19 := u2_row h (by decide)
  have e20 : M2 20 = M 20 := u2_row h (by decide)
  have e21 : M2 21 = M 21 := u2_row h (by decide)
  have e22 : M2 22 = M 22 := u2_row h (by decide)
  have e23 : M2 23 = M 23 := u2_row h (by decide)
  have e24 : M2 24 = M 24 := u2_row h (by decide)
  have e25 : M2 25 = M 25 := u2_row h (by decide)
  have e26 : M2 26 = upd (M 26) j v := by rw [← h]; exact u2_upd
  simp only [mw, mfs, e0, e1, e2, e3, e4, e5, e6, e7, e8, e9, e10, e11, e12, e13, e14, e15, e16, e17, e18, e19, e20, e21, e22, e23, e24, e25, e26, List.cons_append, List.nil_append, List.set]
section MdRows
variable {p : Program} {l : Launch} {e : Env} {R : Room} {s : State} {m : MethodId} {args : Array Value} {below : List Frame} {meth : Method} {c : Code} {E : Ev} {nL : Nat} {A : Nat → Prop} {Q : State → Prop} {X : va_W} {S : HS} {cells slots pc : Nat} {lv : List (Nat × Value)} {st : List Value} {cc : ByteArray} {y : MethodName} {ret : Option FieldType} {c0 : Cond} {o : Nat} {a : Nat → Nat} {M : MM} {Y : va_W}
theorem mg_0 (C : Cx p s m args meth c cc nL y ret c0 E A) {index : Nat} (hlink : Cond.fieldLink y.cls index (TX5 0).1 (TX5 0).2.1 (TX5 0).2.2.1 ∈ wT) (hd : decode cc pc = .ok (.getfield index, 3)) (kk : GW p l e R s m args below meth c E nL A Q (mw E o a M ++ Y) S cells slots (pc + 3) lv (.int (M 0 0) :: st)) : GW p l e R s m args below meth c E nL A Q (mw E o a M ++ Y) S cells slots pc lv (.ref o :: st) := x_get C 0 0 rfl rfl (by decide) in_X5 hlink rfl rfl hd kk
theorem mp_0 (C : Cx p s m args meth c cc nL y ret c0 E A) {v : Int32} {index : Nat} (hlink : Cond.fieldLink y.cls index (TX5 0).1 (TX5 0).2.1 (TX5 0).2.2.1 ∈ wT) (hd : decode cc pc = .ok (.putfield index, 3)) (kk : ∀ M2 : MM, u2 M 0 0 v = M2 → GW p l e R s m args below meth c E nL A Q (mw E o a M2 ++ Y) S cells slots (pc + 3) lv st) : GW p l e R s m args below meth c E nL A Q (mw E o a M ++ Y) S cells slots pc lv (.int v :: .ref o :: st) := x_put (ty := .int) C 0 0 rfl rfl (by decide) in_X5 tyX5_ok nmX5 hlink rfl rfl (by decide +kernel) rfl rfl (Nat.le_of_ble_eq_true rfl) (mw_0 rfl) hd (kk _ rfl)
theorem mg_1 (C : Cx p s m args meth c cc nL y ret c0 E A) {index : Nat} (hlink : Cond.fieldLink y.cls index (TX5 1).1 (TX5 1).2.1 (TX5 1).2.2.1 ∈ wT) (hd : decode cc pc = .ok (.getfield index, 3)) (kk : GW p l e R s m args below meth c E nL A Q (mw E o a M ++ Y) S cells slots (pc + 3) lv (.int (M 1 0) :: st)) : GW p l e R s m args below meth c E nL A Q (mw E o a M ++ Y) S cells slots pc lv (.ref o :: st) := x_get C 0 1 rfl rfl (by decide) in_X5 hlink rfl rfl hd kk
theorem mp_1 (C : Cx p s m args meth c cc nL y ret c0 E A) {v : Int32} {index : Nat} (hlink : Cond.fieldLink y.cls index (TX5 1).1 (TX5 1).2.1 (TX5 1).2.2.1 ∈ wT) (hd : decode cc pc = .ok (.putfield index, 3)) (kk : ∀ M2 : MM, u2 M 1 0 v = M2 → GW p l e R s m args below meth c E nL A Q (mw E o a M2 ++ Y) S cells slots (pc + 3) lv st) : GW p l e R s m args below meth c E nL A Q (mw E o a M ++ Y) S cells slots pc lv (.int v :: .ref o :: st) := x_put (ty := .int) C 0 1 rfl rfl (by decide) in_X5 tyX5_ok nmX5 hlink rfl rfl (by decide +kernel) rfl rfl (Nat.le_of_ble_eq_true rfl) (mw_1 rfl) hd (kk _ rfl)
theorem mg_2 (C : Cx p s m args meth c cc nL y ret c0 E A) {index : Nat} (hlink : Cond.fieldLink y.cls index (TX5 2).1 (TX5 2).2.1 (TX5 2).2.2.1 ∈ wT) (hd : decode cc pc = .ok (.getfield index, 3)) (kk : GW p l e R s m args below meth c E nL A Q (mw E o a M ++ Y) S cells slots (pc + 3) lv (.ref (a 2) :: st)) : GW p l e R s m args below meth c E nL A Q (mw E o a M ++ Y) S cells slots pc lv (.ref o :: st) := x_get C 0 2 rfl rfl (by decide) in_X5 hlink rfl rfl hd kk
theorem ml_2 (C : Cx p s m args meth c cc nL y ret c0 E A) {i : Int32} (j : Nat) (hi : i = nI j) (hj : j < 40) (hd : decode cc pc = .ok (.iaload, 1)) (kk : GW p l e R s m args below meth c E nL A Q (mw E o a M ++ Y) S cells slots (pc + 1) lv (.int (M 2 j) :: st)) : GW p l e R s m args below meth c E nL A Q (mw E o a M ++ Y) S cells slots pc lv (.int i :: .ref (a 2) :: st) := x_iald C 1 j rfl hi hj (by decide) hd kk
theorem ms_2 (C : Cx p s m args meth c cc nL y ret c0 E A) {i v : Int32} (j : Nat) (hi : i = nI j) (hj : j < 40) (hd : decode cc pc = .ok (.iastore, 1)) (kk : ∀ M2 : MM, u2 M 2 j v = M2 → GW p l e R s m args below meth c E nL A Q (mw E o a M2 ++ Y) S cells slots (pc + 1) lv st) : GW p l e R s m args below meth c E nL A Q (mw E o a M ++ Y) S cells slots pc lv (.int v :: .int i :: .ref (a 2) :: st) := x_iast C 1 j rfl hi hj (by decide) (mw_2 rfl) hd (kk _ rfl)
theorem mg_3 (C : Cx p s m args meth c cc nL y ret c0 E A) {index : Nat} (hlink : Cond.fieldLink y.cls index (TX5 3).1 (TX5 3).2.1 (TX5 3).2.2.1 ∈ wT) (hd : decode cc pc = .ok (.getfield index, 3)) (kk : GW p l e R s m args below meth c E nL A Q (mw E o a M ++ Y) S cells slots (pc + 3) lv (.ref (a 3) :: st)) : GW p l e R s m args below meth c E nL A Q (mw E o a M ++ Y) S cells slots pc lv (.ref o :: st) := x_get C 0 3 rfl rfl (by decide) in_X5 hlink rfl rfl hd kk
theorem ml_3 (C : Cx p s m args meth c cc nL y ret c0 E A) {i : Int32} (j : Nat) (hi : i = nI j) (hj : j < 40) (hd : decode cc pc = .ok (.iaload, 1)) (kk : GW p l e R s m args below meth c E nL A Q (mw E o a M ++ Y) S cells slots (pc + 1) lv (.int (M 3 j) :: st)) : GW p l e R s m args below meth c E nL A Q (mw E o a M ++ Y) S cells slots pc lv (.int i :: .ref (a 3) :: st) := x_iald C 2 j rfl hi hj (by decide) hd kk
theorem ms_3 (C : Cx p s m args meth c cc nL y ret c0 E A) {i v : Int32} (j : Nat) (hi : i = nI j) (hj : j < 40) (hd : decode cc pc = .ok (.iastore, 1)) (kk : ∀ M2 : MM, u2 M 3 j v = M2 → GW p l e R s m args below meth c E nL A Q (mw E o a M2 ++ Y) S cells slots (pc + 1) lv st) : GW p l e R s m args below meth c E nL A Q (mw E o a M ++ Y) S cells slots pc lv (.int v :: .int i :: .ref (a 3) :: st) := x_iast C 2 j rfl hi hj (by decide) (mw_3 rfl) hd (kk _ rfl)
theorem mg_4 (C : Cx p s m args meth c cc nL y ret c0 E A) {index : Nat} (hlink : Cond.fieldLink y.cls index (TX5 4).1 (TX5 4).2.1 (TX5 4).2.2.1 ∈ wT) (hd : decode cc pc = .ok (.getfield index, 3)) (kk : GW p l e R s m args below meth c E nL A Q (mw E o a M ++ Y) S cells slots (pc + 3) lv (.ref (a 4) :: st)) : GW p l e R s m args below meth c E nL A Q (mw E o a M ++ Y) S cells slots pc lv (.ref o :: st) := x_get C 0 4 rfl rfl (by decide) in_X5 hlink rfl rfl hd kk
theorem ml_4 (C : Cx p s m args meth c cc nL y ret c0 E A) {i : Int32} (j : Nat) (hi : i = nI j) (hj : j < 40) (hd : decode cc pc = .ok (.iaload, 1)) (kk : GW p l e R s m args below meth c E nL A Q (mw E o a M ++ Y) S cells slots (pc + 1) lv (.int (M 4 j) :: st)) : GW p l e R s m args below meth c E nL A Q (mw E o a M ++ Y) S cells slots pc lv (.int i :: .ref (a 4) :: st) := x_iald C 3 j rfl hi hj (by decide) hd kk
theorem ms_4 (C : Cx p s m args meth c cc nL y ret c0 E A) {i v : Int32} (j : Nat) (hi : i = nI j) (hj : j < 40) (hd : decode cc pc = .ok (.iastore, 1)) (kk : ∀ M2 : MM, u2 M 4 j v = M2 → GW p l e R s m args below meth c E nL A Q (mw E o a M2 ++ Y) S cells slots (pc + 1) lv st) : GW p l e R s m args below meth c E nL A Q (mw E o a M ++ Y) S cells slots pc lv (.int v :: .int i :: .ref (a 4) :: st) := x_iast C 3 j rfl hi hj (by decide) (mw_4 rfl) hd (kk _ rfl)
theorem mg_5 (C : Cx p s m args meth c cc nL y ret c0 E A) {index : Nat} (hlink : Cond.fieldLink y.cls index (TX5 5).1 (TX5 5).2.1 (TX5 5).2.2.1 ∈ wT) (hd : decode cc pc = .ok (.getfield index, 3)) (kk : GW p l e R s m args below meth c E nL A Q (mw E o a M ++ Y) S cells slots (pc + 3) lv (.ref (a 5) :: st)) : GW p l e R s m args below meth c E nL A Q (mw E o a M ++ Y) S cells slots pc lv (.ref o :: st) := x_get C 0 5 rfl rfl (by decide) in_X5 hlink rfl rfl hd kk
theorem ml_5 (C : Cx p s m args meth c cc nL y ret c0 E A) {i : Int32} (j : Nat) (hi : i = nI j) (hj : j < 1600) (hd : decode cc pc = .ok (.iaload, 1)) (kk : GW p l e R s m args below meth c E nL A Q (mw E o a M ++ Y) S cells slots (pc + 1) lv (.int (M 5 j) :: st)) : GW p l e R s m args below meth c E nL A Q (mw E o a M ++ Y) S cells slots pc lv (.int i :: .ref (a 5) :: st) := x_iald C 4 j rfl hi hj (by decide) hd kk
theorem ms_5 (C : Cx p s m args meth c cc nL y ret c0 E A) {i v : Int32} (j : Nat) (hi : i = nI j) (hj : j < 1600) (hd : decode cc pc = .ok (.iastore, 1)) (kk : ∀ M2 : MM, u2 M 5 j v = M2 → GW p l e R s m args below meth c E nL A Q (mw E o a M2 ++ Y) S cells slots (pc + 1) lv st) : GW p l e R s m args below meth c E nL A Q (mw E o a M ++ Y) S cells slots pc lv (.int v :: .int i :: .ref (a 5) :: st) := x_iast C 4 j rfl hi hj (by decide) (mw_5 rfl) hd (kk _ rfl)
theorem mg_6 (C : Cx p s m args meth c cc nL y ret c0 E A) {index : Nat} (hlink : Cond.fieldLink y.cls index (TX5 6).1 (TX5 6).2.1 (TX5 6).2.2.1 ∈ wT) (hd : decode cc pc = .ok (.getfield index, 3)) (kk : GW p l e R s m args below meth c E nL A Q (mw E o a M ++ Y) S cells slots (pc + 3) lv (.ref (a 6) :: st)) : GW p l e R s m args below meth c E nL A Q (mw E o a M ++ Y) S cells slots pc lv (.ref o :: st) := x_get C 0 6 rfl rfl (by decide) in_X5 hlink rfl rfl hd kk
theorem ml_6 (C : Cx p s m args meth c cc nL y ret c0 E A) {i : Int32} (j : Nat) (hi : i = nI j) (hj : j < 1600) (hd : decode cc pc = .ok (.baload, 1)) (kk : GW p l e R s m args below meth c E nL A Q (mw E o a M ++ Y) S cells slots (pc + 1) lv (.int (M 6 j) :: st)) : GW p l e R s m args below meth c E nL A Q (mw E o a M ++ Y) S cells slots pc lv (.int i :: .ref (a 6) :: st) := x_zald C 5 j rfl hi hj (by decide) hd kk
theorem ms_6 (C : Cx p s m args meth c cc nL y ret c0 E A) {i v : Int32} (j : Nat) (hi : i = nI j) (hj : j < 1600) (hv : vp_nar .boolean v = v) (hd : decode cc pc = .ok (.bastore, 1)) (kk : ∀ M2 : MM, u2 M 6 j v = M2 → GW p l e R s m args below meth c E nL A Q (mw E o a M2 ++ Y) S cells slots (pc + 1) lv st) : GW p l e R s m args below meth c E nL A Q (mw E o a M ++ Y) S cells slots pc lv (.int v :: .int i :: .ref (a 6) :: st) := x_zast C 5 j rfl hi hj (by decide) hv (mw_6 rfl) hd (kk _ rfl)
theorem mg_7 (C : Cx p s m args meth c cc nL y ret c0 E A) {index : Nat} (hlink : Cond.fieldLink y.cls index (TX5 7).1 (TX5 7).2.1 (TX5 7).2.2.1 ∈ wT) (hd : decode cc pc = .ok (.getfield index, 3)) (kk : GW p l e R s m args below meth c E nL A Q (mw E o a M ++ Y) S cells slots (pc + 3) lv (.int (M 7 0) :: st)) : GW p l e R s m args below meth c E nL A Q (mw E o a M ++ Y) S cells slots pc lv (.ref o :: st) := x_get C 0 7 rfl rfl (by decide) in_X5 hlink rfl rfl hd kk
theorem mp_7 (C : Cx p s m args meth c cc nL y ret c0 E A) {v : Int32} {index : Nat} (hlink : Cond.fieldLink y.cls index (TX5 7).1 (TX5 7).2.1 (TX5 7).2.2.1 ∈ wT) (hd : decode cc pc = .ok (.putfield index, 3)) (kk : ∀ M2 : MM, u2 M 7 0 v = M2 → GW p l e R s m args below meth c E nL A Q (mw E o a M2 ++ Y) S cells slots (pc + 3) lv st) : GW p l e R s m args below meth c E nL A Q (mw E o a M ++ Y) S cells slots pc lv (.int v :: .ref o :: st) := x_put (ty := .int) C 0 7 rfl rfl (by decide) in_X5 tyX5_ok nmX5 hlink rfl rfl (by decide +kernel) rfl rfl (Nat.le_of_ble_eq_true rfl) (mw_7 rfl) hd (kk _ rfl)
theorem mg_8 (C : Cx p s m args meth c cc nL y ret c0 E A) {index : Nat} (hlink : Cond.fieldLink y.cls index (TX5 8).1 (TX5 8).2.1 (TX5 8).2.2.1 ∈ wT) (hd : decode cc pc = .ok (.getfield index, 3)) (kk : GW p l e R s m args below meth c E nL A Q (mw E o a M ++ Y) S cells slots (pc + 3) lv (.int (M 8 0) :: st)) : GW p l e R s m args below meth c E nL A Q (mw E o a M ++ Y) S cells slots pc lv (.ref o :: st) := x_get C 0 8 rfl rfl (by decide) in_X5 hlink rfl rfl hd kk
theorem mp_8 (C : Cx p s m args meth c cc nL y ret c0 E A) {v : Int32} {index : Nat} (hlink : Cond.fieldLink y.cls index (TX5 8).1 (TX5 8).2.1 (TX5 8).2.2.1 ∈ wT) (hd : decode cc pc = .ok (.putfield index, 3)) (kk : ∀ M2 : MM, u2 M 8 0 v = M2 → GW p l e R s m args below meth c E nL A Q (mw E o a M2 ++ Y) S cells slots (pc + 3) lv st) : GW p l e R s m args below meth c E nL A Q (mw E o a M ++ Y) S cells slots pc lv (.int v :: .ref o :: st) := x_put (ty := .int) C 0 8 rfl rfl (by decide) in_X5 tyX5_ok nmX5 hlink rfl rfl (by decide +kernel) rfl rfl (Nat.le_of_ble_eq_true rfl) (mw_8 rfl) hd (kk _ rfl)
theorem mg_9 (C : Cx p s m args meth c cc nL y ret c0 E A) {index : Nat} (hlink : Cond.fieldLink y.cls index (TX5 9).1 (TX5 9).2.1 (TX5 9).2.2.1 ∈ wT) (hd : decode cc pc = .ok (.getfield index, 3)) (kk : GW p l e R s m args below meth c E nL A Q (mw E o a M ++ Y) S cells slots (pc + 3) lv (.int (M 9 0) :: st)) : GW p l e R s m args below meth c E nL A Q (mw E o a M ++ Y) S cells slots pc lv (.ref o :: st) := x_get C 0 9 rfl rfl (by decide) in_X5 hlink rfl rfl hd kk
theorem mp_9 (C : Cx p s m args meth c cc nL y ret c0 E A) {v : Int32} {index : Nat} (hlink : Cond.fieldLink y.cls index (TX5 9).1 (TX5 9).2.1 (TX5 9).2.2.1 ∈ wT) (hd : decode cc pc = .ok (.putfield index, 3)) (kk : ∀ M2 : MM, u2 M 9 0 v = M2 → GW p l e R s m args below meth c E nL A Q (mw E o a M2 ++ Y) S cells slots (pc + 3) lv st) : GW p l e R s m args below meth c E nL A Q (mw E o a M ++ Y) S cells slots pc lv (.int v :: .ref o :: st) := x_put (ty := .int) C 0 9 rfl rfl (by decide) in_X5 tyX5_ok nmX5 hlink rfl rfl (by decide +kernel) rfl rfl (Nat.le_of_ble_eq_true rfl) (mw_9 rfl) hd (kk _ rfl)
theorem mg_10 (C : Cx p s m args meth c cc nL y ret c0 E A) {index : Nat} (hlink : Cond.fieldLink y.cls index (TX5 10).1 (TX5 10).2.1 (TX5 10).2.2.1 ∈ wT) (hd : decode cc pc = .ok (.getfield index, 3)) (kk : GW p l e R s m args below meth c E nL A Q (mw E o a M ++ Y) S cells slots (pc + 3) lv (.ref (a 10) :: st)) : GW p l e R s m args below meth c E nL A Q (mw E o a M ++ Y) S cells slots pc lv (.ref o :: st) := x_get C 0 10 rfl rfl (by decide) in_X5 hlink rfl rfl hd kk
theorem ml_10 (C : Cx p s m args meth c cc nL y ret c0 E A) {i : Int32} (j : Nat) (hi : i = nI j) (hj : j < 80) (hd : decode cc pc = .ok (.iaload, 1)) (kk : GW p l e R s m args below meth c E nL A Q (mw E o a M ++ Y) S cells slots (pc + 1) lv (.int (M 10 j) :: st)) : GW p l e R s m args below meth c E nL A Q (mw E o a M ++ Y) S cells slots pc lv (.int i :: .ref (a 10) :: st) := x_iald C 6 j rfl hi hj (by decide) hd kk
theorem ms_10 (C : Cx p s m args meth c cc nL y ret c0 E A) {i v : Int32} (j : Nat) (hi : i = nI j) (hj : j < 80) (hd : decode cc pc = .ok (.iastore, 1)) (kk : ∀ M2 : MM, u2 M 10 j v = M2 → GW p l e R s m args below meth c E nL A Q (mw E o a M2 ++ Y) S cells slots (pc + 1) lv st) : GW p l e R s m args below meth c E nL A Q (mw E o a M ++ Y) S cells slots pc lv (.int v :: .int i :: .ref (a 10) :: st) := x_iast C 6 j rfl hi hj (by decide) (mw_10 rfl) hd (kk _ rfl)
theorem mg_11 (C : Cx p s m args meth c cc nL y ret c0 E A) {index : Nat} (hlink : Cond.fieldLink y.cls index (TX5 11).1 (TX5 11).2.1 (TX5 11).2.2.1 ∈ wT) (hd : decode cc pc = .ok (.getfield index, 3)) (kk : GW p l e R s m args below meth c E nL A Q (mw E o a M ++ Y) S cells slots (pc + 3) lv (.ref (a 11) :: st)) : GW p l e R s m args below meth c E nL A Q (mw E o a M ++ Y) S cells slots pc lv (.ref o :: st) := x_get C 0 11 rfl rfl (by decide) in_X5 hlink rfl rfl hd kk
theorem ml_11 (C : Cx p s m args meth c cc nL y ret c0 E A) {i : Int32} (j : Nat) (hi : i = nI j) (hj : j < 80) (hd : decode cc pc = .ok (.iaload, 1)) (kk : GW p l e R s m args below meth c E nL A Q (mw E o a M ++ Y) S cells slots (pc + 1) lv (.int (M 11 j) :: st)) : GW p l e R s m args below meth c E nL A Q (mw E o a M ++ Y) S cells slots pc lv (.int i :: .ref (a 11) :: st) := x_iald C 7 j rfl hi hj (by decide) hd kk
theorem ms_11 (C : Cx p s m args meth c cc nL y ret c0 E A) {i v : Int32} (j : Nat) (hi : i = nI j) (hj : j < 80) (hd : decode cc pc = .ok (.iastore, 1)) (kk : ∀ M2 : MM, u2 M 11 j v = M2 → GW p l e R s m args below meth c E nL A Q (mw E o a M2 ++ Y) S cells slots (pc + 1) lv st) : GW p l e R s m args below meth c E nL A Q (mw E o a M ++ Y) S cells slots pc lv (.int v :: .int i :: .ref (a 11) :: st) := x_iast C 7 j rfl hi hj (by decide) (mw_11 rfl) hd (kk _ rfl)
theorem mg_12 (C : Cx p s m args meth c cc nL y ret c0 E A) {index : Nat} (hlink : Cond.fieldLink y.cls index (TX5 12).1 (TX5 12).2.1 (TX5 12).2.2.1 ∈ wT) (hd : decode cc pc = .ok (.getfield index, 3)) (kk : GW p l e R s m args below meth c E nL A Q (mw E o a M ++ Y) S cells slots (pc + 3) lv (.ref (a 12) :: st)) : GW p l e R s m args below meth c E nL A Q (mw E o a M ++ Y) S cells slots pc lv (.ref o :: st) := x_get C 0 12 rfl rfl (by decide) in_X5 hlink rfl rfl hd kk
theorem ml_12 (C : Cx p s m args meth c cc nL y ret c0 E A) {i : Int32} (j : Nat) (hi : i = nI j) (hj : j < 80) (hd : decode cc pc = .ok (.iaload, 1)) (kk : GW p l e R s m args below meth c E nL A Q (mw E o a M ++ Y) S cells slots (pc + 1) lv (.int (M 12 j) :: st)) : GW p l e R s m args below meth c E nL A Q (mw E o a M ++ Y) S cells slots pc lv (.int i :: .ref (a 12) :: st) := x_iald C 8 j rfl hi hj (by decide) hd kk
theorem ms_12 (C : Cx p s m args meth c cc nL y ret c0 E A) {i v : Int32} (j : Nat) (hi : i = nI j) (hj : j < 80) (hd : decode cc pc = .ok (.iastore, 1)) (kk : ∀ M2 : MM, u2 M 12 j v = M2 → GW p l e R s m args below meth c E nL A Q (mw E o a M2 ++ Y) S cells slots (pc + 1) lv st) : GW p l e R s m args below meth c E nL A Q (mw E o a M ++ Y) S cells slots pc lv (.int v :: .int i :: .ref (a 12) :: st) := x_iast C 8 j rfl hi hj (by decide) (mw_12 rfl) hd (kk _ rfl)
theorem mg_13 (C : Cx p s m args meth c cc nL y ret c0 E A) {index : Nat} (hlink : Cond.fieldLink y.cls index (TX5 13).1 (TX5 13).2.1 (TX5 13).2.2.1 ∈ wT) (hd : decode cc pc = .ok (.getfield index, 3)) (kk : GW p l e R s m args below meth c E nL A Q (mw E o a M ++ Y) S cells slots (pc + 3) lv (.int (M 13 0) :: st)) : GW p l e R s m args below meth c E nL A Q (mw E o a M ++ Y) S cells slots pc lv (.ref o :: st) := x_get C 0 13 rfl rfl (by decide) in_X5 hlink rfl rfl hd kk
theorem mp_13 (C : Cx p s m args meth c cc nL y ret c0 E A) {v : Int32} {index : Nat} (hlink : Cond.fieldLink y.cls index (TX5 13).1 (TX5 13).2.1 (TX5 13).2.2.1 ∈ wT) (hd : decode cc pc = .ok (.putfield index, 3)) (kk : ∀ M2 : MM, u2 M 13 0 v = M2 → GW p l e R s m args below meth c E nL A Q (mw E o a M2 ++ Y) S cells slots (pc + 3) lv st) : GW p l e R s m args below meth c E nL A Q (mw E o a M ++ Y) S cells slots pc lv (.int v :: .ref o :: st) := x_put (ty := .int) C 0 13 rfl rfl (by decide) in_X5 tyX5_ok nmX5 hlink rfl rfl (by decide +kernel) rfl rfl (Nat.le_of_ble_eq_true rfl) (mw_13 rfl) hd (kk _ rfl)
theorem mg_14 (C : Cx p s m args meth c cc nL y ret c0 E A) {index : Nat} (hlink : Cond.fieldLink y.cls index (TX5 14).1 (TX5 14).2.1 (TX5 14).2.2.1 ∈ wT) (hd : decode cc pc = .ok (.getfield index, 3)) (kk : GW p l e R s m args below meth c E nL A Q (mw E o a M ++ Y) S cells slots (pc + 3) lv (.int (M 14 0) :: st)) : GW p l e R s m args below meth c E nL A Q (mw E o a M ++ Y) S cells slots pc lv (.ref o :: st) := x_get C 0 14 rfl rfl (by decide) in_X5 hlink rfl rfl hd kk
theorem mp_14 (C : Cx p s m args meth c cc nL y ret c0 E A) {v : Int32} {index : Nat} (hlink : Cond.fieldLink y.cls index (TX5 14).1 (TX5 14).2.1 (TX5 14).2.2.1 ∈ wT) (hd : decode cc pc = .ok (.putfield index, 3)) (kk : ∀ M2 : MM, u2 M 14 0 v = M2 → GW p l e R s m args below meth c E nL A Q (mw E o a M2 ++ Y) S cells slots (pc + 3) lv st) : GW p l e R s m args below meth c E nL A Q (mw E o a M ++ Y) S cells slots pc lv (.int v :: .ref o :: st) := x_put (ty := .int) C 0 14 rfl rfl (by decide) in_X5 tyX5_ok nmX5 hlink rfl rfl (by decide +kernel) rfl rfl (Nat.le_of_ble_eq_true rfl) (mw_14 rfl) hd (kk _ rfl)
theorem mg_15 (C : Cx p s m args meth c cc nL y ret c0 E A) {index : Nat} (hlink : Cond.fieldLink y.cls index (TX5 15).1 (TX5 15).2.1 (TX5 15).2.2.1 ∈ wT) (hd : decode cc pc = .ok (.getfield index, 3)) (kk : GW p l e R s m args below meth c E nL A Q (mw E o a M ++ Y) S cells slots (pc + 3) lv (.ref (a 15) :: st)) : GW p l e R s m args below meth c E nL A Q (mw E o a M ++ Y) S cells slots pc lv (.ref o :: st) := x_get C 0 15 rfl rfl (by decide) in_X5 hlink rfl rfl hd kk
theorem ml_15 (C : Cx p s m args meth c cc nL y ret c0 E A) {i : Int32} (j : Nat) (hi : i = nI j) (hj : j < 20) (hd : decode cc pc = .ok (.iaload, 1)) (kk : GW p l e R s m args below meth c E nL A Q (mw E o a M ++ Y) S cells slots (pc + 1) lv (.int (M 15 j) :: st)) : GW p l e R s m args below meth c E nL A Q (mw E o a M ++ Y) S cells slots pc lv (.int i :: .ref (a 15) :: st) := x_iald C 9 j rfl hi hj (by decide) hd kk
theorem ms_15 (C : Cx p s m args meth c cc nL y ret c0 E A) {i v : Int32} (j : Nat) (hi : i = nI j) (hj : j < 20) (hd : decode cc pc = .ok (.iastore, 1)) (kk : ∀ M2 : MM, u2 M 15 j v = M2 → GW p l e R s m args below meth c E nL A Q (mw E o a M2 ++ Y) S cells slots (pc + 1) lv st) : GW p l e R s m args below meth c E nL A Q (mw E o a M ++ Y) S cells slots pc lv (.int v :: .int i :: .ref (a 15) :: st) := x_iast C 9 j rfl hi hj (by decide) (mw_15 rfl) hd (kk _ rfl)
theorem mg_16 (C : Cx p s m args meth c cc nL y ret c0 E A) {index : Nat} (hlink : Cond.fieldLink y.cls index (TX5 16).1 (TX5 16).2.1 (TX5 16).2.2.1 ∈ wT) (hd : decode cc pc = .ok (.getfield index, 3)) (kk : GW p l e R s m args below meth c E nL A Q (mw E o a M ++ Y) S cells slots (pc + 3) lv (.ref (a 16) :: st)) : GW p l e R s m args below meth c E nL A Q (mw E o a M ++ Y) S cells slots pc lv (.ref o :: st) := x_get C 0 16 rfl rfl (by decide) in_X5 hlink rfl rfl hd kk
theorem ml_16 (C : Cx p s m args meth c cc nL y ret c0 E A) {i : Int32} (j : Nat) (hi : i = nI j) (hj : j < 20) (hd : decode cc pc = .ok (.iaload, 1)) (kk : GW p l e R s m args below meth c E nL A Q (mw E o a M ++ Y) S cells slots (pc + 1) lv (.int (M 16 j) :: st)) : GW p l e R s m args below meth c E nL A Q (mw E o a M ++ Y) S cells slots pc lv (.int i :: .ref (a 16) :: st) := x_iald C 10 j rfl hi hj (by decide) hd kk
theorem ms_16 (C : Cx p s m args meth c cc nL y ret c0 E A) {i v : Int32} (j : Nat) (hi : i = nI j) (hj : j < 20) (hd : decode cc pc = .ok (.iastore, 1)) (kk : ∀ M2 : MM, u2 M 16 j v = M2 → GW p l e R s m args below meth c E nL A Q (mw E o a M2 ++ Y) S cells slots (pc + 1) lv st) : GW p l e R s m args below meth c E nL A Q (mw E o a M ++ Y) S cells slots pc lv (.int v :: .int i :: .ref (a 16) :: st) := x_iast C 10 j rfl hi hj (by decide) (mw_16 rfl) hd (kk _ rfl)
theorem mg_17 (C : Cx p s m args meth c cc nL y ret c0 E A) {index : Nat} (hlink : Cond.fieldLink y.cls index (TX5 17).1 (TX5 17).2.1 (TX5 17).2.2.1 ∈ wT) (hd : decode cc pc = .ok (.getfield index, 3)) (kk : GW p l e R s m args below meth c E nL A Q (mw E o a M ++ Y) S cells slots (pc + 3) lv (.int (M 17 0) :: st)) : GW p l e R s m args below meth c E nL A Q (mw E o a M ++ Y) S cells slots pc lv (.ref o :: st) := x_get C 0 17 rfl rfl (by decide) in_X5 hlink rfl rfl hd kk
theorem mp_17 (C : Cx p s m args meth c cc nL y ret c0 E A) {v : Int32} {index : Nat} (hlink : Cond.fieldLink y.cls index (TX5 17).1 (TX5 17).2.1 (TX5 17).2.2.1 ∈ wT) (hd : decode cc pc = .ok (.putfield index, 3)) (kk : ∀ M2 : MM, u2 M 17 0 v = M2 → GW p l e R s m args below meth c E nL A Q (mw E o a M2 ++ Y) S cells slots (pc + 3) lv st) : GW p l e R s m args below meth c E nL A Q (mw E o a M ++ Y) S cells slots pc lv (.int v :: .ref o :: st) := x_put (ty := .int) C 0 17 rfl rfl (by decide) in_X5 tyX5_ok nmX5 hlink rfl rfl (by decide +kernel) rfl rfl (Nat.le_of_ble_eq_true rfl) (mw_17 rfl) hd (kk _ rfl)
theorem mg_18 (C : Cx p s m args meth c cc nL y ret c0 E A) {index : Nat} (hlink : Cond.fieldLink y.cls index (TX5 18).1 (TX5 18).2.1 (TX5 18).2.2.1 ∈ wT) (hd : decode cc pc = .ok (.getfield index, 3)) (kk : GW p l e R s m args below meth c E nL A Q (mw E o a M ++ Y) S cells slots (pc + 3) lv (.int (M 18 0) :: st)) : GW p l e R s m args below meth c E nL A Q (mw E o a M ++ Y) S cells slots pc lv (.ref o :: st) := x_get C 0 18 rfl rfl (by decide) in_X5 hlink rfl rfl hd kk
theorem mp_18 (C : Cx p s m args meth c cc nL y ret c0 E A) {v : Int32} {index : Nat} (hlink : Cond.fieldLink y.cls index (TX5 18).1 (TX5 18).2.1 (TX5 18).2.2.1 ∈ wT) (hd : decode cc pc = .ok (.putfield index, 3)) (kk : ∀ M2 : MM, u2 M 18 0 v = M2 → GW p l e R s m args below meth c E nL A Q (mw E o a M2 ++ Y) S cells slots (pc + 3) lv st) : GW p l e R s m args below meth c E nL A Q (mw E o a M ++ Y) S cells slots pc lv (.int v :: .ref o :: st) := x_put (ty := .int) C 0 18 rfl rfl (by decide) in_X5 tyX5_ok nmX5 hlink rfl rfl (by decide +kernel) rfl rfl (Nat.le_of_ble_eq_true rfl) (mw_18 rfl) hd (kk _ rfl)
theorem mg_19 (C : Cx p s m args meth c cc nL y ret c0 E A) {index : Nat} (hlink : Cond.fieldLink y.cls index (TX5 19).1 (TX5 19).2.1 (TX5 19).2.2.1 ∈ wT) (hd : decode cc pc = .ok (.getfield index, 3)) (kk : GW p l e R s m args below meth c E nL A Q (mw E o a M ++ Y) S cells slots (pc + 3) lv (.ref (a 19) :: st)) : GW p l e R s m args below meth c E nL A Q (mw E o a M ++ Y) S cells slots pc lv (.ref o :: st) := x_get C 0 19 rfl rfl (by decide) in_X5 hlink rfl rfl hd kk
theorem ml_19 (C : Cx p s m args meth c cc nL y ret c0 E A) {i : Int32} (j : Nat) (hi : i = nI j) (hj : j < 50) (hd : decode cc pc = .ok (.iaload, 1)) (kk : GW p l e R s m args below meth c E nL A Q (mw E o a M ++ Y) S cells slots (pc + 1) lv (.int (M 19 j) :: st)) : GW p l e R s m args below meth c E nL A Q (mw E o a M ++ Y) S cells slots pc lv (.int i :: .ref (a 19) :: st) := x_iald C 11 j rfl hi hj (by decide) hd kk
theorem ms_19 (C : Cx p s m args meth c cc nL y ret c0 E A) {i v : Int32} (j : Nat) (hi : i = nI j) (hj : j < 50) (hd : decode cc pc = .ok (.iastore, 1)) (kk : ∀ M2 : MM, u2 M 19 j v = M2 → GW p l e R s m args below meth c E nL A Q (mw E o a M2 ++ Y) S cells slots (pc + 1) lv st) : GW p l e R s m args below meth c E nL A Q (mw E o a M ++ Y) S cells slots pc lv (.int v :: .int i :: .ref (a 19) :: st) := x_iast C 11 j rfl hi hj (by decide) (mw_19 rfl) hd (kk _ rfl)
theorem mg_20 (C : Cx p s m args meth c cc nL y ret c0 E A) {index : Nat} (hlink : Cond.fieldLink y.cls index (TX5 20).1 (TX5 20).2.1 (TX5 20).2.2.1 ∈ wT) (hd : decode cc pc = .ok (.getfield index, 3)) (kk : GW p l e R s m args below meth c E nL A Q (mw E o a M ++ Y) S cells slots (pc + 3) lv (.ref (a 20) :: st)) : GW p l e R s m args below meth c E nL A Q (mw E o a M ++ Y) S cells slots pc lv (.ref o :: st) := x_get C 0 20 rfl rfl (by decide) in_X5 hlink rfl rfl hd kk
theorem ml_20 (C : Cx p s m args meth c cc nL y ret c0 E A) {i : Int32} (j : Nat) (hi : i = nI j) (hj : j < 40) (hd : decode cc pc = .ok (.iaload, 1)) (kk : GW p l e R s m args below meth c E nL A Q (mw E o a M ++ Y) S cells slots (pc + 1) lv (.int (M 20 j) :: st)) : GW p l e R s m args below meth c E nL A Q (mw E o a M ++ Y) S cells slots pc lv (.int i :: .ref (a 20) :: st) := x_iald C 12 j rfl hi hj (by decide) hd kk
theorem ms_20 (C : Cx p s m args meth c cc nL y ret c0 E A) {i v : Int32} (j : Nat) (hi : i = nI j) (hj : j < 40) (hd : decode cc pc = .ok (.iastore, 1)) (kk : ∀ M2 : MM, u2 M 20 j v = M2 → GW p l e R s m args below meth c E nL A Q (mw E o a M2 ++ Y) S cells slots (pc + 1) lv st) : GW p l e R s m args below meth c E nL A Q (mw E o a M ++ Y) S cells slots pc lv (.int v :: .int i :: .ref (a 20) :: st) := x_iast C 12 j rfl hi hj (by decide) (mw_20 rfl) hd (kk _ rfl)
theorem mg_21 (C : Cx p s m args meth c cc nL y ret c0 E A) {index : Nat} (hlink : Cond.fieldLink y.cls index (TX5 21).1 (TX5 21).2.1 (TX5 21).2.2.1 ∈ wT) (hd : decode cc pc = .ok (.getfield index, 3)) (kk : GW p l e R s m args below meth c E nL A Q (mw E o a M ++ Y) S cells slots (pc + 3) lv (.ref (a 21) :: st)) : GW p l e R s m args below meth c E nL A Q (mw E o a M ++ Y) S cells slots pc lv (.ref o :: st) := x_get C 0 21 rfl rfl (by decide) in_X5 hlink rfl rfl hd kk
theorem ml_21 (C : Cx p s m args meth c cc nL y ret c0 E A) {i : Int32} (j : Nat) (hi : i = nI j) (hj : j < 40) (hd : decode cc pc = .ok (.iaload, 1)) (kk : GW p l e R s m args below meth c E nL A Q (mw E o a M ++ Y) S cells slots (pc + 1) lv (.int (M 21 j) :: st)) : GW p l e R s m args below meth c E nL A Q (mw E o a M ++ Y) S cells slots pc lv (.int i :: .ref (a 21) :: st) := x_iald C 13 j rfl hi hj (by decide) hd kk
theorem ms_21 (C : Cx p s m args meth c cc nL y ret c0 E A) {i v : Int32} (j : Nat) (hi : i = nI j) (hj : j < 40) (hd : decode cc pc = .ok (.iastore, 1)) (kk : ∀ M2 : MM, u2 M 21 j v = M2 → GW p l e R s m args below meth c E nL A Q (mw E o a M2 ++ Y) S cells slots (pc + 1) lv st) : GW p l e R s m args below meth c E nL A Q (mw E o a M ++ Y) S cells slots pc lv (.int v :: .int i :: .ref (a 21) :: st) := x_iast C 13 j rfl hi hj (by decide) (mw_21 rfl) hd (kk _ rfl)
theorem mg_22 (C : Cx p s m args meth c cc nL y ret c0 E A) {index : Nat} (hlink : Cond.fieldLink y.cls index (TX5 22).1 (TX5 22).2.1 (TX5 22).2.2.1 ∈ wT) (hd : decode cc pc = .ok (.getfield index, 3)) (kk : GW p l e R s m args below meth c E nL A Q (mw E o a M ++ Y) S cells slots (pc + 3) lv (.ref (a 22) :: st)) : GW p l e R s m args below meth c E nL A Q (mw E o a M ++ Y) S cells slots pc lv (.ref o :: st) := x_get C 0 22 rfl rfl (by decide) in_X5 hlink rfl rfl hd kk
theorem ml_22 (C : Cx p s m args meth c cc nL y ret c0 E A) {i : Int32} (j : Nat) (hi : i = nI j) (hj : j < 40) (hd : decode cc pc = .ok (.iaload, 1)) (kk : GW p l e R s m args below meth c E nL A Q (mw E o a M ++ Y) S cells slots (pc + 1) lv (.int (M 22 j) :: st)) : GW p l e R s m args below meth c E nL A Q (mw E o a M ++ Y) S cells slots pc lv (.int i :: .ref (a 22) :: st) := x_iald C 14 j rfl hi hj (by decide) hd kk
theorem ms_22 (C : Cx p s m args meth c cc nL y ret c0 E A) {i v : Int32} (j : Nat) (hi : i = nI j) (hj : j < 40) (hd : decode cc pc = .ok (.iastore, 1)) (kk : ∀ M2 : MM, u2 M 22 j v = M2 → GW p l e R s m args below meth c E nL A Q (mw E o a M2 ++ Y) S cells slots (pc + 1) lv st) : GW p l e R s m args below meth c E nL A Q (mw E o a M ++ Y) S cells slots pc lv (.int v :: .int i :: .ref (a 22) :: st) := x_iast C 14 j rfl hi hj (by decide) (mw_22 rfl) hd (kk _ rfl)
theorem mg_23 (C : Cx p s m args meth c cc nL y ret c0 E A) {index : Nat} (hlink : Cond.fieldLink y.cls index (TX5 23).1 (TX5 23).2.1 (TX5 23).2.2.1 ∈ wT) (hd : decode cc pc = .ok (.getfield index, 3)) (kk : GW p l e R s m args below meth c E nL A Q (mw E o a M ++ Y) S cells slots (pc + 3) lv (.ref (a 23) :: st)) : GW p l e R s m args below meth c E nL A Q (mw E o a M ++ Y) S cells slots pc lv (.ref o :: st) := x_get C 0 23 rfl rfl (by decide) in_X5 hlink rfl rfl hd kk
theorem ml_23 (C : Cx p s m args meth c cc nL y ret c0 E A) {i : Int32} (j : Nat) (hi : i = nI j) (hj : j < 40) (hd : decode cc pc = .ok (.iaload, 1)) (kk : GW p l e R s m args below meth c E nL A Q (mw E o a M ++ Y) S cells slots (pc + 1) lv (.int (M 23 j) :: st)) : GW p l e R s m args below meth c E nL A Q (mw E o a M ++ Y) S cells slots pc lv (.int i :: .ref (a 23) :: st) := x_iald C 15 j rfl hi hj (by decide) hd kk
theorem ms_23 (C : Cx p s m args meth c cc nL y ret c0 E A) {i v : Int32} (j : Nat) (hi : i = nI j) (hj : j < 40) (hd : decode cc pc = .ok (.iastore, 1)) (kk : ∀ M2 : MM, u2 M 23 j v = M2 → GW p l e R s m args below meth c E nL A Q (mw E o a M2 ++ Y) S cells slots (pc + 1) lv st) : GW p l e R s m args below meth c E nL A Q (mw E o a M ++ Y) S cells slots pc lv (.int v :: .int i :: .ref (a 23) :: st) := x_iast C 15 j rfl hi hj (by decide) (mw_23 rfl) hd (kk _ rfl)
theorem mg_24 (C : Cx p s m args meth c cc nL y ret c0 E A) {index : Nat} (hlink : Cond.fieldLink y.cls index (TX5 24).1 (TX5 24).2.1 (TX5 24).2.2.1 ∈ wT) (hd : decode cc pc = .ok (.getfield index, 3)) (kk : GW p l e R s m args below meth c E nL A Q (mw E o a M ++ Y) S cells slots (pc + 3) lv (.ref (a 24) :: st)) : GW p l e R s m args below meth c E nL A Q (mw E o a M ++ Y) S cells slots pc lv (.ref o :: st) := x_get C 0 24 rfl rfl (by decide) in_X5 hlink rfl rfl hd kk
theorem ml_24 (C : Cx p s m args meth c cc nL y ret c0 E A) {i : Int32} (j : Nat) (hi : i = nI j) (hj : j < 40) (hd : decode cc pc = .ok (.baload, 1)) (kk : GW p l e R s m args below meth c E nL A Q (mw E o a M ++ Y) S cells slots (pc + 1) lv (.int (M 24 j) :: st)) : GW p l e R s m args below meth c E nL A Q (mw E o a M ++ Y) S cells slots pc lv (.int i :: .ref (a 24) :: st) := x_zald C 16 j rfl hi hj (by decide) hd kk
theorem ms_24 (C : Cx p s m args meth c cc nL y ret c0 E A) {i v : Int32} (j : Nat) (hi : i = nI j) (hj : j < 40) (hv : vp_nar .boolean v = v) (hd : decode cc pc = .ok (.bastore, 1)) (kk : ∀ M2 : MM, u2 M 24 j v = M2 → GW p l e R s m args below meth c E nL A Q (mw E o a M2 ++ Y) S cells slots (pc + 1) lv st) : GW p l e R s m args below meth c E nL A Q (mw E o a M ++ Y) S cells slots pc lv (.int v :: .int i :: .ref (a 24) :: st) := x_zast C 16 j rfl hi hj (by decide) hv (mw_24 rfl) hd (kk _ rfl)
theorem mg_25 (C : Cx p s m args meth c cc nL y ret c0 E A) {index : Nat} (hlink : Cond.fieldLink y.cls index (TX5 25).1 (TX5 25).2.1 (TX5 25).2.2.1 ∈ wT) (hd : decode cc pc = .ok (.getfield index, 3)) (kk : GW p l e R s m args below meth c E nL A Q (mw E o a M ++ Y) S cells slots (pc + 3) lv (.ref (a 25) :: st)) : GW p l e R s m args below meth c E nL A Q (mw E o a M ++ Y) S cells slots pc lv (.ref o :: st) := x_get C 0 25 rfl rfl (by decide) in_X5 hlink rfl rfl hd kk
theorem ml_25 (C : Cx p s m args meth c cc nL y ret c0 E A) {i : Int32} (j : Nat) (hi : i = nI j) (hj : j < 40) (hd : decode cc pc = .ok (.iaload, 1)) (kk : GW p l e R s m args below meth c E nL A Q (mw E o a M ++ Y) S cells slots (pc + 1) lv (.int (M 25 j) :: st)) : GW p l e R s m args below meth c E nL A Q (mw E o a M ++ Y) S cells slots pc lv (.int i :: .ref (a 25) :: st) := x_iald C 17 j rfl hi hj (by decide) hd kk
theorem ms_25 (C : Cx p s m args meth c cc nL y ret c0 E A) {i v : Int32} (j : Nat) (hi : i = nI j) (hj : j < 40) (hd : decode cc pc = .ok (.iastore, 1)) (kk : ∀ M2 : MM, u2 M 25 j v = M2 → GW p l e R s m args below meth c E nL A Q (mw E o a M2 ++ Y) S cells slots (pc + 1) lv st) : GW p l e R s m args below meth c E nL A Q (mw E o a M ++ Y) S cells slots pc lv (.int v :: .int i :: .ref (a 25) :: st) := x_iast C 17 j rfl hi hj (by decide) (mw_25 rfl) hd (kk _ rfl)
theorem mg_26 (C : Cx p s m args meth c cc nL y ret c0 E A) {index : Nat} (hlink : Cond.fieldLink y.cls index (TX5 26).1 (TX5 26).2.1 (TX5 26).2.2.1 ∈ wT) (hd : decode cc pc = .ok (.getfield index, 3)) (kk : GW p l e R s m args below meth c E nL A Q (mw E o a M ++ Y) S cells slots (pc + 3) lv (.ref (a 26) :: st)) : GW p l e R s m args below meth c E nL A Q (mw E o a M ++ Y) S cells slots pc lv (.ref o :: st) := x_get C 0 26 rfl rfl (by decide) in_X5 hlink rfl rfl hd kk
theorem ml_26 (C : Cx p s m args meth c cc nL y ret c0 E A) {i : Int32} (j : Nat) (hi : i = nI j) (hj : j < 40) (hd : decode cc pc = .ok (.iaload, 1)) (kk : GW p l e R s m args below meth c E nL A Q (mw E o a M ++ Y) S cells slots (pc + 1) lv (.int (M 26 j) :: st)) : GW p l e R s m args below meth c E nL A Q (mw E o a M ++ Y) S cells slots pc lv (.int i :: .ref (a 26) :: st) := x_iald C 18 j rfl hi hj (by decide) hd kk
theorem ms_26 (C : Cx p s m args meth c cc nL y ret c0 E A) {i v : Int32} (j : Nat) (hi : i = nI j) (hj : j < 40) (hd : decode cc pc = .ok (.iastore, 1)) (kk : ∀ M2 : MM, u2 M 26 j v = M2 → GW p l e R s m args below meth c E nL A Q (mw E o a M2 ++ Y) S cells slots (pc + 1) lv st) : GW p l e R s m args below meth c E nL A Q (mw E o a M ++ Y) S cells slots pc lv (.int v :: .int i :: .ref (a 26) :: st) := x_iast C 18 j rfl hi hj (by decide) (mw_26 rfl) hd (kk _ rfl)
end MdRows
/-- the reference's numbers become M2; nothing else changes -/
def PoM (E : Ev) (o : Nat) (a : Nat → Nat) (Y : va_W) (S : HS) (P : Option Value → MM → Prop) : Option Value → va_W → HS → Prop := fun v X2 S2 => S = S2 ∧ ∃ M2, mw E o a M2 ++ Y = X2 ∧ P v M2
theorem nI_ab (a b : Nat) : (40 : Int32) * nI a + nI b = nI (40 * a + b) := by
  have h : (40 : Int32) * nI a = nI (40 * a) := (Int32.ofNat_mul 40 a).symm
  rw [h, nI_add]
