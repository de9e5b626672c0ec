section NRows
variable {p : Program} {l : Launch} {e : Env} {R : Room} {s : State} {m : MethodId} {args : Array Value} {below : List Frame} {meth : Method} {c : Code} {E : Ev} {nL : Nat} {A : Nat → Prop} {Q : State → Prop} {X : va_W} {S : HS} {cells slots pc : Nat} {lv : List (Nat × Value)} {st : List Value} {cc : ByteArray} {y : MethodName} {ret : Option FieldType} {c0 : Cond} {index mc ms : Nat} {Po : Option Value → va_W → HS → Prop} {y2 : MethodName} {cc2 : ByteArray} {n2 k2 nA : Nat} {host : String}
theorem g_callIN (C : Cx p s m args meth c cc nL y ret c0 E A) {b : Nat} (As rest : List Value) (hM : Ctr l y2 (Cond.code y2 cc2 n2 none) k2 mc ms E (.ref b :: As) X S Po) (hcode : Cond.code y2 cc2 n2 none ∈ wT) (hini : Cond.initialized y2.cls ∈ wT) (hlk : va_Nw (.methodLinkNest y.cls index y2 host) s) (hins : Cond.instanceMethod y2 ∈ wT) (hy1 : y2.name = "<init>")
    (hdsc : y2.cls ≠ "java/lang/invoke/MethodHandle" ∧ y2.cls ≠ "java/lang/invoke/VarHandle" ∧ (parseMethodDescriptor y2.desc).map (fun d => d.parameters.length) = some nA) (hnA : As.length = nA) (hst : st = As.reverse ++ .ref b :: rest) (hrs : (rest.map fun v => v.category).sum ≤ 8) (hR : 8 * k2 + 1 ≤ R.frames ∧ 8 + (n2 + 11) + 128 * k2 ≤ R.locals) (hf : cells + mc ≤ R.cells ∧ slots + ms ≤ R.slots) (hd : decode cc pc = .ok (.invokespecial index, 3))
    (kk : ∀ (v : Option Value) (X2 : va_W) (S2 : HS), Po v X2 S2 → GW p l e R s m args below meth c E nL A Q X2 S2 (cells + mc) (slots + ms) (pc + 3) lv (v.toList ++ rest)) : GW p l e R s m args below meth c E nL A Q X S cells slots pc lv st := by
  intro H locs ls hP hD hS hl
  subst hst
  exact g_ran (va_runIN (As := As) (rest := rest) ⟨C.x, C.b, C.ml, C.own, C.ts⟩ (hM H.size) ⟨va_cnB nA C.ts (wT_in hcode) rfl rfl rfl hlk (C.w hini) hdsc hR, hy1, C.w hins⟩ ⟨PcR.blind, PcR.at (av := .ref b :: As) C hP hD hS⟩ rfl hnA hl.1 rfl (lv_room hrs) hd hf) C.a hD hS hl kk
end NRows
theorem wn_X3_init : Cond.instanceMethod yX3_init ∈ wT := by decide +kernel
theorem dt_X3_init : yX3_init.cls ≠ "java/lang/invoke/MethodHandle" ∧ yX3_init.cls ≠ "java/lang/invoke/VarHandle" ∧ (parseMethodDescriptor yX3_init.desc).map (fun d => d.parameters.length) = some 0 := by decide +kernel
theorem isAL.sP {E : Ev} {S S2 : HS} {l r k a : Nat} {v : Option Nat} {vs : List Nat} (h : isAL E S l r vs) (e : S.sP k a v = S2) (hk : 10 ≠ k) : isAL E S2 l r vs := by
  subst e
  exact ⟨h.1, (u2_ne1 hk).trans h.2.1, h.2.2.1, h.2.2.2.1, h.2.2.2.2⟩
theorem tbl.sP {S S2 : HS} {t ha ta n k a : Nat} {v : Option Nat} (h : tbl S t ha ta n) (e : S.sP k a v = S2) (h4 : 4 ≠ k) (h5 : 5 ≠ k) : tbl S2 t ha ta n := by
  subst e
  exact ⟨h.1, (u2_ne1 h4).trans h.2.1, (u2_ne1 h5).trans h.2.2.1, h.2.2.2⟩
theorem tbl.fr {S S2 : HS} {t ha ta n : Nat} (h : tbl S t ha ta n) (f : ∀ l9 r9, Fr S S2 l9 r9) : tbl S2 t ha ta n := by
  have f0 := f 0 0
  obtain ⟨a1, a2, a3, a4, a5, a6, a7, a8, a9, a10⟩ := h
  exact ⟨f0.K a1, (f0.2.2.2.2.1 4 t a1.1 (Or.inr (by decide))).trans a2, (f0.2.2.2.2.1 5 t a1.1 (Or.inr (by decide))).trans a3, f0.K a4, (f0.2.2.2.2.2.1 ha a4.1).1.trans a5, f0.K a6, (f0.2.2.2.2.2.1 ta a6.1).1.trans a7, (f0.2.2.1 10 t a1.1 (Or.inr (by decide))).trans a8, a9, a10⟩
/-- a new list at q in the heap with q new -/
theorem newAL {E : Ev} {S S2 : HS} {q : Nat} (hq : q ∉ S.L) (e : ((S.nO q 5).sI 16 q 0).sP 10 q (some (E.sa 0)) = S2) : isAL E S2 q (E.sa 0) [] ∧ ∀ l9 r9, Fr S S2 l9 r9 := by
  subst e
  refine ⟨⟨isK_new (S := S), u2_self, ?_, Nat.zero_le _, Or.inl ⟨rfl, rfl⟩⟩, fun l9 r9 => Fr.outP hq (Fr.outI hq (Fr.nO hq))⟩
  show u2 (S.nO q 5).I 16 q 0 17 q = nI 0
  rw [u2_ne1 (by decide)]; exact if_pos rfl
/-- a new object of the class -/
def NewC (E : Ev) (X : va_W) (x : Nat) : Option Value → va_W → HS → Prop := fun v X2 S2 => none = v ∧ X = X2 ∧ ∃ ln lf t ha ta cg, crO E S2 x ln (E.sa 0) [] ∧ crF E S2 x lf (E.sa 0) [] ∧ ln ≠ lf ∧ crT S2 x t ha ta 0 ∧ crC S2 x cg 0 ∧ cg ≠ ha ∧ cg ≠ ta ∧ S2.I 12 x = 4 ∧ S2.I 13 x = 0 ∧ S2.I 14 x = 0 ∧ S2.I 15 x = 0
set_option maxRecDepth 100000 in
theorem c_init (l : Launch) (E : Ev) (X : va_W) (S : HS) {x : Nat} (hx : isK S 4 x) : Ctr l yX4_init (Cond.code yX4_init cX4_init 1 none) 4 6 200 E [.ref x] X S (NewC E X x) := by
  refine Ctr.ofG (by decide) [(0, .ref x)] rfl (Nat.le_of_ble_eq_true rfl) ?_
  intro p e s m args below meth c A Q C hQ
  refine g_aload_n C 0 dX4_init_0 rfl rfl ?_
  refine g_objInit C wi_X4_1 ⟨by decide, Nat.le_of_ble_eq_true rfl⟩ dX4_init_1 w_oi w_oc ?_
  refine g_aload_n C 0 dX4_init_4 rfl rfl ?_
  refine g_new C (fun q => S.nO q 5) rfl in_Jx4a65c tyJx4a65c_ok kl_X4_7 wb_Jx4a65c wz_Jx4a65c df_Jx4a65c (by decide) (by decide) (fun _ => rfl) (fun q b => pu_n5 q b) dX4_init_5 (fun q1 hq1 => ?_)
  refine g_dup C dX4_init_8 rfl ?_
  refine g_callI C [] [.ref q1, .ref x] (c_alInit l E X (S.nO q1 5) isK_new) cm_Jx4a65c_init_da8c8 wz_Jx4a65c wi_X4_9 wn_Jx4a65c_init_da8c8 rfl dt_Jx4a65c_init_da8c8 rfl rfl (Nat.le_of_ble_eq_true rfl) (by decide) (by decide) dX4_init_9 ?_
  rintro v9 X2 S2 ⟨rfl, rfl, hS2⟩
  obtain ⟨A2, f2⟩ := newAL hq1 hS2
  have kx2 : isK S2 4 x := (f2 0 0).K hx
  refine pt_P6 C ⟨kx2.1, kx2.2⟩ lk_X4_10 rfl rfl dX4_init_12 (fun G1 hG1 => ?_)
  have kG1_0 : isK G1 4 x := sP_K hG1 ⟨kx2.1, kx2.2⟩
  have P1 : G1.P 6 x = some q1 := by rw [← hG1]; exact u2_self
  have A1 : isAL E G1 q1 (E.sa 0) [] := A2.sP hG1 (by decide)
  refine g_aload_n C 0 dX4_init_15 rfl rfl ?_
  refine g_new C (fun q => G1.nO q 5) rfl in_Jx4a65c tyJx4a65c_ok kl_X4_7 wb_Jx4a65c wz_Jx4a65c df_Jx4a65c (by decide) (by decide) (fun _ => rfl) (fun q b => pu_n5 q b) dX4_init_16 (fun q2 hq2 => ?_)
  refine g_dup C dX4_init_19 rfl ?_
  refine g_callI C [] [.ref q2, .ref x] (c_alInit l E X (G1.nO q2 5) isK_new) cm_Jx4a65c_init_da8c8 wz_Jx4a65c wi_X4_9 wn_Jx4a65c_init_da8c8 rfl dt_Jx4a65c_init_da8c8 rfl rfl (Nat.le_of_ble_eq_true rfl) (by decide) (by decide) dX4_init_20 ?_
  rintro v9 X2 S4 ⟨rfl, rfl, hS4⟩
  obtain ⟨B4, f4⟩ := newAL hq2 hS4
  have n12 : q1 ≠ q2 := fun z => hq2 (z ▸ A1.1.1)
  have kx4 : isK S4 4 x := (f4 0 0).K kG1_0
  have P4 : S4.P 6 x = some q1 := ((f4 0 0).2.2.2.2.1 6 x kG1_0.1 (Or.inr (by decide))).trans P1
  have A4 : isAL E S4 q1 (E.sa 0) [] := A1.new f4
  refine pt_P7 C ⟨kx4.1, kx4.2⟩ lk_X4_16 rfl rfl dX4_init_23 (fun G2 hG2 => ?_)
  have kG2_0 : isK G2 4 x := sP_K hG2 ⟨kx4.1, kx4.2⟩
  have A5 : isAL E G2 q1 (E.sa 0) [] := A4.sP hG2 (by decide)
  have B5 : isAL E G2 q2 (E.sa 0) [] := B4.sP hG2 (by decide)
  have P5 : G2.P 6 x = some q1 := (sP_oP hG2 (by decide)).trans P4
  have F5 : G2.P 7 x = some q2 := by rw [← hG2]; exact u2_self
  refine g_aload_n C 0 dX4_init_26 rfl rfl ?_
  refine g_new C (fun q => G2.nO q 3) rfl in_X3 tyX3_ok kl_X4_19 wb_X3 wz_X3 df_X3 (by decide) (by decide) (fun _ => rfl) (fun q b => pu_n3 q b) dX4_init_27 (fun q3 hq3 => ?_)
  refine g_dup C dX4_init_30 rfl ?_
  refine g_callIN C [] [.ref q3, .ref x] (c_tblInit l E X (G2.nO q3 3) isK_new) cm_X3_init wz_X3 C.z.2.2.2.2.2.2.2.2.2.2.2.2.1 wn_X3_init rfl dt_X3_init rfl rfl (Nat.le_of_ble_eq_true rfl) (by decide) (by decide) dX4_init_31 ?_
  rintro v9 X2 S6 ⟨rfl, rfl, ha, ta, -, -, T6, fA⟩
  have f6 : ∀ l9 r9, Fr G2 S6 l9 r9 := FrA.fr hq3 fA
  have kx6 : isK S6 4 x := (f6 0 0).K kG2_0
  have A6 := A5.new f6
  have B6 := B5.new f6
  have P6 : S6.P 6 x = some q1 := ((f6 0 0).2.2.2.2.1 6 x kG2_0.1 (Or.inr (by decide))).trans P5
  have F6 : S6.P 7 x = some q2 := ((f6 0 0).2.2.2.2.1 7 x kG2_0.1 (Or.inr (by decide))).trans F5
  refine pt_P8 C ⟨kx6.1, kx6.2⟩ lk_X4_22 rfl rfl dX4_init_34 (fun G3 hG3 => ?_)
  have kG3_0 : isK G3 4 x := sP_K hG3 ⟨kx6.1, kx6.2⟩
  have A7 := A6.sP hG3 (by decide)
  have B7 := B6.sP hG3 (by decide)
  have T7 := T6.sP hG3 (by decide) (by decide)
  have P7 : G3.P 6 x = some q1 := (sP_oP hG3 (by decide)).trans P6
  have F7 : G3.P 7 x = some q2 := (sP_oP hG3 (by decide)).trans F6
  have H7 : G3.P 8 x = some q3 := by rw [← hG3]; exact u2_self
  refine g_aload_n C 0 dX4_init_37 rfl rfl ?_
  refine g_bipush C 50 dX4_init_38 (by decide) ?_
  refine g_newI C 50 (by decide) (by decide) (by decide) (by decide) (by decide) wa_int dX4_init_40 (fun q4 hq4 => ?_)
  have f8 : ∀ l9 r9, Fr G3 (G3.nR q4 6 50) l9 r9 := fun l9 r9 => Fr.nR hq4
  have kx8 := (f8 0 0).K kG3_0
  have A8 := A7.new f8
  have B8 := B7.new f8
  have T8 := T7.fr f8
  have P8 : (G3.nR q4 6 50).P 6 x = some q1 := P7
  have F8 : (G3.nR q4 6 50).P 7 x = some q2 := F7
  have H8 : (G3.nR q4 6 50).P 8 x = some q3 := H7
  have kc8 : isK (G3.nR q4 6 50) 6 q4 := ⟨by show q4 ∈ G3.L ++ [q4]; simp, va_up_self _ _ _⟩
  have N8 : (G3.nR q4 6 50).N q4 = 50 := va_up_self _ _ _
  have ne1 : q4 ≠ ha := fun z => hq4 (z ▸ T7.2.2.2.1.1)
  have ne2 : q4 ≠ ta := fun z => hq4 (z ▸ T7.2.2.2.2.2.1.1)
  refine pt_P9 C ⟨kx8.1, kx8.2⟩ lk_X4_26 rfl rfl dX4_init_42 (fun G4 hG4 => ?_)
  have kG4_0 : isK G4 4 x := sP_K hG4 ⟨kx8.1, kx8.2⟩
  have A9 := A8.sP hG4 (by decide)
  have B9 := B8.sP hG4 (by decide)
  have T9 := T8.sP hG4 (by decide) (by decide)
  have P9 : G4.P 6 x = some q1 := (sP_oP hG4 (by decide)).trans P8
  have F9 : G4.P 7 x = some q2 := (sP_oP hG4 (by decide)).trans F8
  have H9 : G4.P 8 x = some q3 := (sP_oP hG4 (by decide)).trans H8
  have C9 : G4.P 9 x = some q4 := by rw [← hG4]; exact u2_self
  have kc9 : isK G4 6 q4 := sP_K hG4 kc8
  have N9 : G4.N q4 = 50 := by rw [← hG4]; exact N8
  refine g_aload_n C 0 dX4_init_45 rfl rfl ?_
  refine g_iconst C 0 dX4_init_46 (by decide) ?_
  refine g_ni (fun z1 hz1 => ?_)
  refine pt_I11 C ⟨kG4_0.1, kG4_0.2⟩ lk_X4_30 dX4_init_47 (fun G5 hG5 => ?_)
  have kG5_0 : isK G5 4 x := sI_K hG5 ⟨kG4_0.1, kG4_0.2⟩
  refine g_aload_n C 0 dX4_init_50 rfl rfl ?_
  refine g_iconst C 4 dX4_init_51 (by decide) ?_
  refine g_ni (fun z2 hz2 => ?_)
  refine pt_I12 C ⟨kG5_0.1, kG5_0.2⟩ lk_X4_34 dX4_init_52 (fun G6 hG6 => ?_)
  have kG6_0 : isK G6 4 x := sI_K hG6 ⟨kG5_0.1, kG5_0.2⟩
  refine g_aload_n C 0 dX4_init_55 rfl rfl ?_
  refine g_iconst C 0 dX4_init_56 (by decide) ?_
  refine g_ni (fun z3 hz3 => ?_)
  refine pt_I13 C ⟨kG6_0.1, kG6_0.2⟩ lk_X4_37 dX4_init_57 (fun G7 hG7 => ?_)
  have kG7_0 : isK G7 4 x := sI_K hG7 ⟨kG6_0.1, kG6_0.2⟩
  refine g_aload_n C 0 dX4_init_60 rfl rfl ?_
  refine g_iconst C 0 dX4_init_61 (by decide) ?_
  refine g_ni (fun z4 hz4 => ?_)
  refine pt_I14 C ⟨kG7_0.1, kG7_0.2⟩ lk_X4_40 dX4_init_62 (fun G8 hG8 => ?_)
  have kG8_0 : isK G8 4 x := sI_K hG8 ⟨kG7_0.1, kG7_0.2⟩
  refine g_aload_n C 0 dX4_init_65 rfl rfl ?_
  refine g_iconst C 0 dX4_init_66 (by decide) ?_
  refine g_ni (fun z5 hz5 => ?_)
  refine pt_I15 C ⟨kG8_0.1, kG8_0.2⟩ lk_X4_43 dX4_init_67 (fun G9 hG9 => ?_)
  have kG9_0 : isK G9 4 x := sI_K hG9 ⟨kG8_0.1, kG8_0.2⟩
  exact g_vret C hQ rfl dX4_init_70 (by decide) (by decide) (by
      have s9 : Sh G4 G9 := by
        rw [← hG9, ← hG8, ← hG7, ← hG6, ← hG5]
        exact ((((Sh.rf.sI rfl).sI rfl).sI rfl).sI rfl).sI rfl
      have v15 : G9.I 15 x = 0 := by rw [← hG9, hz5]; exact u2_self
      have v14 : G9.I 14 x = 0 := by rw [sI_oI hG9 (by decide), ← hG8, hz4]; exact u2_self
      have v13 : G9.I 13 x = 0 := by rw [sI_oI hG9 (by decide), sI_oI hG8 (by decide), ← hG7, hz3]; exact u2_self
      have v12 : G9.I 12 x = 4 := by rw [sI_oI hG9 (by decide), sI_oI hG8 (by decide), sI_oI hG7 (by decide), ← hG6, hz2]; exact u2_self
      have v11 : G9.I 11 x = nI 0 := by rw [sI_oI hG9 (by decide), sI_oI hG8 (by decide), sI_oI hG7 (by decide), sI_oI hG6 (by decide), ← hG5, hz1]; exact u2_self
      have pP : G9.P = G4.P := s9.2.2.1
      have kx9 : isK G9 4 x := s9.K kG4_0
      exact ⟨rfl, rfl, q1, q2, q3, ha, ta, q4, ⟨kx9, by rw [pP]; exact P9, s9.AL A9, fun a h => nomatch h⟩, ⟨kx9, by rw [pP]; exact F9, s9.AL B9, fun a h => nomatch h⟩, n12, ⟨kx9, by rw [pP]; exact H9, s9.tblO T9⟩, ⟨kx9, by rw [pP]; exact C9, s9.K kc9, by rw [s9.2.2.2.1]; exact N9, v11, Nat.zero_le _⟩, ne1, ne2, v12, v13, v14, v15⟩)
