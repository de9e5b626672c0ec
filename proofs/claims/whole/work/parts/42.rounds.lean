theorem sI_ne {S : HS} {k a k2 b : Nat} {v : Int32} (h : k2 ≠ k) : (S.sI k a v).I k2 b = S.I k2 b := u2_ne1 h
/-- the same shape: nothing but numbers that change has changed -/
def Sh (S S1 : HS) : Prop := S1.L = S.L ∧ S1.K = S.K ∧ S1.P = S.P ∧ S1.N = S.N ∧ S1.O = S.O ∧ S1.I 0 = S.I 0 ∧ S1.I 1 = S.I 1 ∧ S1.I 2 = S.I 2 ∧ S1.I 3 = S.I 3 ∧ S1.I 8 = S.I 8 ∧ S1.I 9 = S.I 9 ∧ S1.I 10 = S.I 10 ∧ S1.I 17 = S.I 17
theorem Sh.rf {S : HS} : Sh S S := ⟨rfl, rfl, rfl, rfl, rfl, rfl, rfl, rfl, rfl, rfl, rfl, rfl, rfl⟩
theorem Sh.trans {S S1 S2 : HS} (h : Sh S S1) (g : Sh S1 S2) : Sh S S2 := by
  obtain ⟨a1, a2, a3, a4, a5, a6, a7, a8, a9, b1, b2, b3, b4⟩ := h
  obtain ⟨c1, c2, c3, c4, c5, c6, c7, c8, c9, d1, d2, d3, d4⟩ := g
  exact ⟨c1.trans a1, c2.trans a2, c3.trans a3, c4.trans a4, c5.trans a5, c6.trans a6, c7.trans a7, c8.trans a8, c9.trans a9, d1.trans b1, d2.trans b2, d3.trans b3, d4.trans b4⟩
theorem Sh.sI {S S1 : HS} {k a : Nat} {v : Int32} (h : Sh S S1) (hk : [0, 1, 2, 3, 8, 9, 10, 17].contains k = false) : Sh S (S1.sI k a v) := by
  have e : ∀ j, ([0, 1, 2, 3, 8, 9, 10, 17] : List Nat).contains j = true → (S1.sI k a v).I j = S1.I j := fun j hj => by
    funext b
    exact u2_ne1 (fun q => by rw [q, hk] at hj; cases hj)
  obtain ⟨a1, a2, a3, a4, a5, a6, a7, a8, a9, b1, b2, b3, b4⟩ := h
  exact ⟨a1, a2, a3, a4, a5, (e 0 rfl).trans a6, (e 1 rfl).trans a7, (e 2 rfl).trans a8, (e 3 rfl).trans a9, (e 8 rfl).trans b1, (e 9 rfl).trans b2, (e 10 rfl).trans b3, (e 17 rfl).trans b4⟩
theorem Sh.sJ {S S1 : HS} {k a : Nat} {v : Int64} (h : Sh S S1) : Sh S (S1.sJ k a v) := h
theorem Sh.sR {S S1 : HS} {k a : Nat} {v : Int32} (h : Sh S S1) : Sh S (S1.sR k a v) := h
theorem Sh.K {S S1 : HS} {k a : Nat} (h : Sh S S1) (g : isK S k a) : isK S1 k a := ⟨by rw [h.1]; exact g.1, by rw [h.2.1]; exact g.2⟩
theorem Sh.AL {E : Ev} {S S1 : HS} {l r : Nat} {vs : List Nat} (h : Sh S S1) (g : isAL E S l r vs) : isAL E S1 l r vs := by
  obtain ⟨a1, a2, a3, a4, a5, -, -, -, -, -, -, -, b4⟩ := h
  unfold isAL isK at g ⊢
  rw [a1, a2, a3, a4, a5, b4]; exact g
theorem Sh.tgE {S S1 : HS} (h : Sh S S1) (v : Nat) : tg S1 v = tg S v := by show (S1.P 2 v).getD 0 = (S.P 2 v).getD 0; rw [h.2.2.1]
theorem Sh.frE {S S1 : HS} (h : Sh S S1) (v : Nat) : fr S1 v = fr S v := by show (S1.P 3 v).getD 0 = (S.P 3 v).getD 0; rw [h.2.2.1]
theorem Sh.src {S S1 : HS} {v : Nat} (h : Sh S S1) (g : srcOK S v) : srcOK S1 v := ⟨h.K g.1, by rw [h.tgE, h.2.2.1]; exact g.2.1, by rw [h.tgE]; exact h.K g.2.2⟩
theorem Sh.stgO {S S1 : HS} {v : Nat} (h : Sh S S1) (g : stgOK S v) : stgOK S1 v := ⟨h.K g.1, by rw [h.frE, h.2.2.1]; exact g.2.1, by rw [h.frE]; exact h.K g.2.2⟩
theorem Sh.cplO {E : Ev} {S S1 : HS} {a lc rc : Nat} {vs : List Nat} (h : Sh S S1) (g : cpl E S a lc rc vs) : cpl E S1 a lc rc vs := ⟨h.K g.1, by rw [h.2.2.1]; exact g.2.1, h.AL g.2.2.1, fun v hv => h.src (g.2.2.2 v hv)⟩
theorem Sh.stlO {E : Ev} {S S1 : HS} {a lc rc : Nat} {vs : List Nat} (h : Sh S S1) (g : stl E S a lc rc vs) : stl E S1 a lc rc vs := ⟨h.K g.1, by rw [h.2.2.1]; exact g.2.1, h.AL g.2.2.1, fun v hv => h.stgO (g.2.2.2 v hv)⟩
theorem Sh.crO' {E : Ev} {S S1 : HS} {x ln rn : Nat} {ns : List Nat} (h : Sh S S1) (g : crO E S x ln rn ns) : crO E S1 x ln rn ns := ⟨h.K g.1, by rw [h.2.2.1]; exact g.2.1, h.AL g.2.2.1, fun a ha => h.K (g.2.2.2 a ha)⟩
/-- the object's nets in the order of the flow -/
def crF (E : Ev) (S : HS) (x lf rf : Nat) (fs : List Nat) : Prop := isK S 4 x ∧ S.P 7 x = some lf ∧ isAL E S lf rf fs ∧ ∀ a ∈ fs, isK S 0 a
theorem Sh.crF' {E : Ev} {S S1 : HS} {x ln rn : Nat} {ns : List Nat} (h : Sh S S1) (g : crF E S x ln rn ns) : crF E S1 x ln rn ns := ⟨h.K g.1, by rw [h.2.2.1]; exact g.2.1, h.AL g.2.2.1, fun a ha => h.K (g.2.2.2 a ha)⟩
theorem Sh.tblO {S S1 : HS} {t ha ta n : Nat} (h : Sh S S1) (g : tbl S t ha ta n) : tbl S1 t ha ta n := by
  obtain ⟨a1, a2, a3, a4, a5, -, -, -, -, -, -, b3, -⟩ := h
  unfold tbl isK at g ⊢
  rw [a1, a2, a3, a4, b3]; exact g
/-- the spans, one net after the other -/
def spS (ss : Nat → List Nat) (S : HS) (a : Nat) : HS := (S.sI 4 a (spB S a (ss a))).sI 5 a (spE S a (ss a))
def wSp (ss : Nat → List Nat) : List Nat → HS → HS
  | [], S => S
  | a :: l, S => wSp ss l (spS ss S a)
def SDa (S : HS) (a : Nat) (kp : Int32) (vs : List Nat) (mo : Bool) : Int32 := fsum (fun v => !exB S a (tg S v) && (!mo || meB S a (tg S v))) (fun v => sg S v / 1000) kp vs 0 0
def mkL (vs : Nat → List Nat) (kp : Int32) : List Nat → HS → Int32 → HS × Int32
  | [], S, c => (S, c)
  | a :: l, S, c => if SDa S a kp (vs a) true = S.I 6 a then mkL vs kp l S c else mkL vs kp l (S.sI 6 a (SDa S a kp (vs a) true)) (c + 1)
def hgt (S : HS) (a : Nat) (kp : Int32) (vs : List Nat) : Int32 := fsum (fun v => !exB S a (tg S v)) (fun v => S.I 8 v) kp vs 0 0
def nzS (vs ss : Nat → List Nat) (kp : Int32) (ha ta n : Nat) (S : HS) (a : Nat) : HS := S.sI 7 a (hgt S a kp (vs a) + nof S (S.R ha) (S.R ta) n (ss a) 0)
def nzL (vs ss : Nat → List Nat) (kp : Int32) (ha ta n : Nat) : List Nat → HS → HS
  | [], S => S
  | a :: l, S => nzL vs ss kp ha ta n l (nzS vs ss kp ha ta n S a)
def ldL (g : Int64) (goal : Nat) : List Nat → HS → HS
  | [], S => S
  | a :: l, S => if a = goal ∨ ldB S a goal = true then ldL g goal l (S.sJ 1 a (S.J 1 a ||| g)) else ldL g goal l S
set_option maxRecDepth 100000 in
theorem c_workOutSpans (l : Launch) (E : Ev) (X : va_W) (S : HS) {x lf rf : Nat} {fs : List Nat} (hf : crF E S x lf rf fs) {ls rs : Nat → Nat} {ss : Nat → List Nat} (hs : ∀ a ∈ fs, stl E S a (ls a) (rs a) (ss a)) : Ctr l yX4_workOutSpans (Cond.code yX4_workOutSpans cX4_workOutSpans 3 none) 5 0 0 E [.ref x] X S (fun v X2 S2 => none = v ∧ X = X2 ∧ wSp ss fs S = S2) := by
  refine Ctr.ofG (by decide) [(0, .ref x)] rfl (Nat.le_of_ble_eq_true rfl) ?_
  intro p e s m args below meth c A Q C hQ
  refine g_iconst C 0 dX4_workOutSpans_0 (by decide) ?_
  refine g_istore_n C [(1, .int 0), (0, .ref x)] dX4_workOutSpans_1 rfl (by decide) rfl ?_
  have hlen := hf.2.2.1.2.2.2.1
  have loop : ∀ (n i : Nat) (S1 : HS) , i + n = fs.length → Sh S S1 → wSp ss (fs.drop i) S1 = wSp ss fs S → GW p l e (rml 5 0 0) s m args below meth c E 3 A Q X S1 0 0 2 [(1, .int (nI i)), (0, .ref x)] [] := by
    intro n
    induction n with
    | zero =>
      intro i S1  hin hSh hF
      have hf1 := hSh.crF' hf
      rw [List.drop_eq_nil_of_le (by omega)] at hF
      refine g_iload_n C 0 dX4_workOutSpans_2 rfl rfl ?_
      refine g_aload_n C 1 dX4_workOutSpans_3 rfl rfl ?_
      refine g_get (v := .ref lf) C 1 hf1.1.1 (pF_4 hf1.1.2) rfl (by decide) in_X4 lk_X4_16 rfl (congrArg (fun z => some (va_rf z)) hf1.2.1) dX4_workOutSpans_4 ?_
      refine g_callV C [] [.int (nI i)] (c_size l E X S1 hf1.2.2.1) (recv_at hf1.2.2.1.1.1 (pF_5 hf1.2.2.1.1.2)) rfl cm_Jx4a65c_size_8abf5 wv_X4_51 ds_Jx4a65c_size_8abf5 rfl rfl (Nat.le_of_ble_eq_true rfl) (by decide) (by decide) dX4_workOutSpans_7 ?_
      rintro v9 X2 S2 ⟨rfl, rfl, rfl⟩
      refine g_icmp_ge C 35 dX4_workOutSpans_10 (by decide) (fun h10 => ?_) (fun h10 => ?_)
      · exact g_vret C hQ rfl dX4_workOutSpans_35 (by decide) (by decide) ⟨rfl, rfl, hF.symm⟩
      · exact absurd (nI_le (show fs.length ≤ i by omega) (by omega)) h10
    | succ n ih =>
      intro i S1  hin hSh hF
      have hf1 := hSh.crF' hf
      have hi : i < fs.length := by omega
      obtain ⟨a, hv⟩ : ∃ a, a = fs[i] := ⟨_, rfl⟩
      have ham : a ∈ fs := by rw [hv]; exact List.getElem_mem hi
      have hka : isK S1 0 a := hSh.K (hf.2.2.2 a ham)
      have hdr : fs.drop i = a :: fs.drop (i + 1) := by rw [hv]; exact List.drop_eq_getElem_cons hi
      rw [hdr] at hF
      refine g_iload_n C 0 dX4_workOutSpans_2 rfl rfl ?_
      refine g_aload_n C 1 dX4_workOutSpans_3 rfl rfl ?_
      refine g_get (v := .ref lf) C 1 hf1.1.1 (pF_4 hf1.1.2) rfl (by decide) in_X4 lk_X4_16 rfl (congrArg (fun z => some (va_rf z)) hf1.2.1) dX4_workOutSpans_4 ?_
      refine g_callV C [] [.int (nI i)] (c_size l E X S1 hf1.2.2.1) (recv_at hf1.2.2.1.1.1 (pF_5 hf1.2.2.1.1.2)) rfl cm_Jx4a65c_size_8abf5 wv_X4_51 ds_Jx4a65c_size_8abf5 rfl rfl (Nat.le_of_ble_eq_true rfl) (by decide) (by decide) dX4_workOutSpans_7 ?_
      rintro v9 X2 S2 ⟨rfl, rfl, rfl⟩
      refine g_icmp_ge C 35 dX4_workOutSpans_10 (by decide) (fun h10 => ?_) (fun h10 => ?_)
      · exact absurd ((nI_leI (by omega) (by omega)).mp h10) (by omega)
      · refine g_aload_n C 1 dX4_workOutSpans_13 rfl rfl ?_
        refine g_get (v := .ref lf) C 1 hf1.1.1 (pF_4 hf1.1.2) rfl (by decide) in_X4 lk_X4_16 rfl (congrArg (fun z => some (va_rf z)) hf1.2.1) dX4_workOutSpans_14 ?_
        refine g_iload_n C 0 dX4_workOutSpans_17 rfl rfl ?_
        refine g_callV C [.int (nI i)] [] (c_get l E X S1 hf1.2.2.1 hi) (recv_at hf1.2.2.1.1.1 (pF_5 hf1.2.2.1.1.2)) rfl cm_Jx4a65c_get_915e3 wv_X4_122 ds_Jx4a65c_get_915e3 rfl rfl (Nat.le_of_ble_eq_true rfl) (by decide) (by decide) dX4_workOutSpans_18 ?_
        rintro v9 X2 S2 ⟨rfl, rfl, rfl⟩
        show GW _ _ _ _ _ _ _ _ _ _ _ _ _ _ _ _ _ _ _ _ (.ref fs[i] :: _)
        rw [← hv]
        refine g_cast C hka.1 (pF_0 hka.2) rfl kl_X4_59 dX4_workOutSpans_21 ?_
        refine g_astore_n C [(2, .ref a), (1, .int (nI i)), (0, .ref x)] dX4_workOutSpans_24 rfl (by decide) rfl ?_
        refine g_aload_n C 0 dX4_workOutSpans_25 rfl rfl ?_
        refine g_callV C [] [] (c_workOutSpan l E X S1 (hSh.stlO (hs a ham))) (recv_at hka.1 (pF_0 hka.2)) rfl cm_X0_workOutSpan wv_X4_195 ds_X0_workOutSpan rfl rfl (Nat.le_of_ble_eq_true rfl) (by decide) (by decide) dX4_workOutSpans_26 ?_
        rintro v9 X2 S2 ⟨rfl, rfl, rfl⟩
        refine g_iinc C (nI (i + 1)) 1 [(1, .int (nI (i + 1))), (2, .ref a), (0, .ref x)] dX4_workOutSpans_29 rfl (nI_1 i) (by decide) rfl ?_
        refine g_goto C 2 dX4_workOutSpans_32 (by decide) ?_
        refine g_locs (lv2 := [(1, .int (nI (i + 1))), (0, .ref x)]) [0, 2] rfl ?_
        exact ih (i + 1) _ (by omega) ((hSh.sI rfl).sI rfl) hF
  exact loop fs.length 0 S (by omega) Sh.rf rfl
theorem wSp_sh (ss : Nat → List Nat) : ∀ (l : List Nat) (S : HS), Sh S (wSp ss l S)
  | [], S => Sh.rf
  | a :: l, S => ((Sh.rf.sI rfl).sI rfl).trans (wSp_sh ss l (spS ss S a))
theorem wSp_I (ss : Nat → List Nat) (k : Nat) (h4 : k ≠ 4) (h5 : k ≠ 5) : ∀ (l : List Nat) (S : HS), (wSp ss l S).I k = S.I k
  | [], S => rfl
  | a :: l, S => (wSp_I ss k h4 h5 l (spS ss S a)).trans (funext fun b => (u2_ne1 h5).trans (u2_ne1 h4))
set_option maxRecDepth 100000 in
theorem c_makeRound (l : Launch) (E : Ev) (X : va_W) (S : HS) {x ln rn : Nat} {ns : List Nat} (ho : crO E S x ln rn ns) {lf rf : Nat} {fs : List Nat} (hf : crF E S x lf rf fs) {ls rs : Nat → Nat} {ss : Nat → List Nat} (hs : ∀ a ∈ fs, stl E S a (ls a) (rs a) (ss a)) {lc rc : Nat → Nat} {vs : Nat → List Nat} (hc : ∀ a ∈ ns, cpl E S a (lc a) (rc a) (vs a)) : Ctr l yX4_makeRound (Cond.code yX4_makeRound cX4_makeRound 5 (some .int)) 6 0 0 E [.ref x] X S (fun v X2 S2 => some (.int (mkL vs (S.I 12 x) ns (wSp ss fs S) 0).2) = v ∧ X = X2 ∧ (mkL vs (S.I 12 x) ns (wSp ss fs S) 0).1 = S2) := by
  refine Ctr.ofG (by decide) [(0, .ref x)] rfl (Nat.le_of_ble_eq_true rfl) ?_
  intro p e s m args below meth c A Q C hQ
  refine g_aload_n C 0 dX4_makeRound_0 rfl rfl ?_
  refine g_callV C [] [] (c_workOutSpans l E X S hf hs) (recv_at hf.1.1 (pF_4 hf.1.2)) rfl cm_X4_workOutSpans wv_X4_136 ds_X4_workOutSpans rfl rfl (Nat.le_of_ble_eq_true rfl) (by decide) (by decide) dX4_makeRound_1 ?_
  rintro v9 X2 S9 ⟨rfl, rfl, hS9⟩
  have hT : Sh S S9 := by rw [← hS9]; exact wSp_sh ss fs S
  have ho9 := hT.crO' ho
  have hkp : S9.I 12 x = S.I 12 x := by rw [← hS9, wSp_I ss 12 (by decide) (by decide)]
  have hlen := ho.2.2.1.2.2.2.1
  refine g_iconst C 0 dX4_makeRound_4 (by decide) ?_
  refine g_istore_n C [(1, .int 0), (0, .ref x)] dX4_makeRound_5 rfl (by decide) rfl ?_
  refine g_iconst C 0 dX4_makeRound_6 (by decide) ?_
  refine g_istore_n C [(2, .int 0), (1, .int 0), (0, .ref x)] dX4_makeRound_7 rfl (by decide) rfl ?_
  have loop : ∀ (n i : Nat) (S1 : HS) (cn : Int32), i + n = ns.length → Sh S S1 → S1.I 12 x = S.I 12 x → mkL vs (S.I 12 x) (ns.drop i) S1 cn = mkL vs (S.I 12 x) ns S9 0 → GW p l e (rml 6 0 0) s m args below meth c E 5 A Q X S1 0 0 8 [(2, .int (nI i)), (1, .int cn), (0, .ref x)] [] := by
    intro n
    induction n with
    | zero =>
      intro i S1 cn hin hSh hk12 hF
      have hf1 := hSh.crO' ho
      rw [List.drop_eq_nil_of_le (by omega)] at hF
      refine g_iload_n C 0 dX4_makeRound_8 rfl rfl ?_
      refine g_aload_n C 2 dX4_makeRound_9 rfl rfl ?_
      refine g_get (v := .ref ln) C 0 hf1.1.1 (pF_4 hf1.1.2) rfl (by decide) in_X4 lk_X4_10 rfl (congrArg (fun z => some (va_rf z)) hf1.2.1) dX4_makeRound_10 ?_
      refine g_callV C [] [.int (nI i)] (c_size l E X S1 hf1.2.2.1) (recv_at hf1.2.2.1.1.1 (pF_5 hf1.2.2.1.1.2)) rfl cm_Jx4a65c_size_8abf5 wv_X4_51 ds_Jx4a65c_size_8abf5 rfl rfl (Nat.le_of_ble_eq_true rfl) (by decide) (by decide) dX4_makeRound_13 ?_
      rintro v9 X2 S2 ⟨rfl, rfl, rfl⟩
      refine g_icmp_ge C 65 dX4_makeRound_16 (by decide) (fun h16 => ?_) (fun h16 => ?_)
      · refine g_iload_n C 1 dX4_makeRound_65 rfl rfl ?_
        exact g_iret C hQ rfl rfl dX4_makeRound_66 (by decide) (by decide) ⟨by rw [← hS9] at hF; exact sv (congrArg Prod.snd hF).symm, rfl, by rw [← hS9] at hF; exact (congrArg Prod.fst hF).symm⟩
      · exact absurd (nI_le (show ns.length ≤ i by omega) (by omega)) h16
    | succ n ih =>
      intro i S1 cn hin hSh hk12 hF
      have hf1 := hSh.crO' ho
      have hi : i < ns.length := by omega
      obtain ⟨a, hv⟩ : ∃ a, a = ns[i] := ⟨_, rfl⟩
      have ham : a ∈ ns := by rw [hv]; exact List.getElem_mem hi
      have hka : isK S1 0 a := hSh.K (ho.2.2.2 a ham)
      have hdr : ns.drop i = a :: ns.drop (i + 1) := by rw [hv]; exact List.drop_eq_getElem_cons hi
      rw [hdr, mkL] at hF
      refine g_iload_n C 0 dX4_makeRound_8 rfl rfl ?_
      refine g_aload_n C 2 dX4_makeRound_9 rfl rfl ?_
      refine g_get (v := .ref ln) C 0 hf1.1.1 (pF_4 hf1.1.2) rfl (by decide) in_X4 lk_X4_10 rfl (congrArg (fun z => some (va_rf z)) hf1.2.1) dX4_makeRound_10 ?_
      refine g_callV C [] [.int (nI i)] (c_size l E X S1 hf1.2.2.1) (recv_at hf1.2.2.1.1.1 (pF_5 hf1.2.2.1.1.2)) rfl cm_Jx4a65c_size_8abf5 wv_X4_51 ds_Jx4a65c_size_8abf5 rfl rfl (Nat.le_of_ble_eq_true rfl) (by decide) (by decide) dX4_makeRound_13 ?_
      rintro v9 X2 S2 ⟨rfl, rfl, rfl⟩
      refine g_icmp_ge C 65 dX4_makeRound_16 (by decide) (fun h16 => ?_) (fun h16 => ?_)
      · exact absurd ((nI_leI (by omega) (by omega)).mp h16) (by omega)
      · refine g_aload_n C 2 dX4_makeRound_19 rfl rfl ?_
        refine g_get (v := .ref ln) C 0 hf1.1.1 (pF_4 hf1.1.2) rfl (by decide) in_X4 lk_X4_10 rfl (congrArg (fun z => some (va_rf z)) hf1.2.1) dX4_makeRound_20 ?_
        refine g_iload_n C 0 dX4_makeRound_23 rfl rfl ?_
        refine g_callV C [.int (nI i)] [] (c_get l E X S1 hf1.2.2.1 hi) (recv_at hf1.2.2.1.1.1 (pF_5 hf1.2.2.1.1.2)) rfl cm_Jx4a65c_get_915e3 wv_X4_122 ds_Jx4a65c_get_915e3 rfl rfl (Nat.le_of_ble_eq_true rfl) (by decide) (by decide) dX4_makeRound_24 ?_
        rintro v9 X2 S2 ⟨rfl, rfl, rfl⟩
        show GW _ _ _ _ _ _ _ _ _ _ _ _ _ _ _ _ _ _ _ _ (.ref ns[i] :: _)
        rw [← hv]
        refine g_cast C hka.1 (pF_0 hka.2) rfl kl_X4_59 dX4_makeRound_27 ?_
        refine g_astore_n C [(3, .ref a), (2, .int (nI i)), (1, .int cn), (0, .ref x)] dX4_makeRound_30 rfl (by decide) rfl ?_
        refine g_aload_n C 0 dX4_makeRound_31 rfl rfl ?_
        refine g_aload_n C 3 dX4_makeRound_32 rfl rfl ?_
        refine g_get (v := .int (S.I 12 x)) C 5 hf1.1.1 (pF_4 hf1.1.2) rfl (by decide) in_X4 lk_X4_34 rfl (congrArg (fun z => some (Value.int z)) hk12) dX4_makeRound_33 ?_
        refine g_callV C [.int (S.I 12 x)] [] (c_delayByMeetingSources l E X S1 (hSh.cplO (hc a ham)) (S.I 12 x)) (recv_at hka.1 (pF_0 hka.2)) rfl cm_X0_delayByMeetingSources wv_X4_198 ds_X0_delayByMeetingSources rfl rfl (Nat.le_of_ble_eq_true rfl) (by decide) (by decide) dX4_makeRound_36 ?_
        rintro v9 X2 S2 ⟨rfl, rfl, rfl⟩
        refine g_istore C [(4, .int (SDa S1 a (S.I 12 x) (vs a) true)), (3, .ref a), (2, .int (nI i)), (1, .int cn), (0, .ref x)] dX4_makeRound_39 (by decide) rfl ?_
        refine g_iload C 0 dX4_makeRound_41 rfl ?_
        refine g_aload_n C 1 dX4_makeRound_43 rfl rfl ?_
        refine g_get C 10 hka.1 (pF_0 hka.2) rfl (by decide) in_X0 lk_X4_130 rfl rfl dX4_makeRound_44 ?_
        refine g_icmp_eq C 59 dX4_makeRound_47 (by decide) (fun h47 => ?_) (fun h47 => ?_)
        · refine g_iinc C (nI (i + 1)) 2 [(2, .int (nI (i + 1))), (4, .int (SDa S1 a (S.I 12 x) (vs a) true)), (3, .ref a), (1, .int cn), (0, .ref x)] dX4_makeRound_59 rfl (nI_1 i) (by decide) rfl ?_
          refine g_goto C 8 dX4_makeRound_62 (by decide) ?_
          refine g_locs (lv2 := [(2, .int (nI (i + 1))), (1, .int cn), (0, .ref x)]) [0, 3, 4] rfl ?_
          exact ih (i + 1) S1 cn (by omega) hSh hk12 (by rw [if_pos h47] at hF; exact hF)
        · refine g_aload_n C 1 dX4_makeRound_50 rfl rfl ?_
          refine g_iload C 0 dX4_makeRound_51 rfl ?_
          refine g_put (ty := .int) (S2 := (S1.sI 6 a (SDa S1 a (S.I 12 x) (vs a) true))) C 10 hka.1 (pF_0 hka.2) rfl (by decide) in_X0 tyX0_ok nmX0 lk_X4_130 rfl rfl (by decide +kernel) rfl rfl (Nat.le_of_ble_eq_true rfl) rfl (pu_I6 (S := S1) hka.2 (SDa S1 a (S.I 12 x) (vs a) true)) dX4_makeRound_53 ?_
          refine g_iinc C (cn + 1) 3 [(1, .int (cn + 1)), (4, .int (SDa S1 a (S.I 12 x) (vs a) true)), (3, .ref a), (2, .int (nI i)), (0, .ref x)] dX4_makeRound_56 rfl rfl (by decide) rfl ?_
          refine g_iinc C (nI (i + 1)) 3 [(2, .int (nI (i + 1))), (1, .int (cn + 1)), (4, .int (SDa S1 a (S.I 12 x) (vs a) true)), (3, .ref a), (0, .ref x)] dX4_makeRound_59 rfl (nI_1 i) (by decide) rfl ?_
          refine g_goto C 8 dX4_makeRound_62 (by decide) ?_
          refine g_locs (lv2 := [(2, .int (nI (i + 1))), (1, .int (cn + 1)), (0, .ref x)]) [0, 1, 4] rfl ?_
          exact ih (i + 1) _ _ (by omega) (hSh.sI rfl) ((sI_ne (by decide)).trans hk12) (by rw [if_neg h47] at hF; exact hF)
  exact loop ns.length 0 S9 0 (by omega) hT hkp rfl
