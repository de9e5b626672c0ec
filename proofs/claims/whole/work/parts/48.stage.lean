theorem isAL.new {E : Ev} {S S2 : HS} {l r : Nat} {vs : List Nat} (h : isAL E S l r vs) (f : ∀ l9 r9, Fr S S2 l9 r9) : isAL E S2 l r vs := h.frame (f (l + 1) (r + 1)) (by omega) (Or.inl (by omega))
theorem crO.frame {E : Ev} {S S2 : HS} {x l r ln rn : Nat} {ns : List Nat} (h : crO E S x ln rn ns) (hf : Fr S S2 l r) (hl : ln ≠ l) (hr : rn ≠ r ∨ rn = E.sa 0 ∧ ns = []) : crO E S2 x ln rn ns := ⟨hf.K h.1, (hf.2.2.2.2.1 6 x h.1.1 (Or.inr (by decide))).trans h.2.1, h.2.2.1.frame hf hl hr, fun a ha => hf.K (h.2.2.2 a ha)⟩
theorem crF.frame {E : Ev} {S S2 : HS} {x l r ln rn : Nat} {ns : List Nat} (h : crF E S x ln rn ns) (hf : Fr S S2 l r) (hl : ln ≠ l) (hr : rn ≠ r ∨ rn = E.sa 0 ∧ ns = []) : crF E S2 x ln rn ns := ⟨hf.K h.1, (hf.2.2.2.2.1 7 x h.1.1 (Or.inr (by decide))).trans h.2.1, h.2.2.1.frame hf hl hr, fun a ha => hf.K (h.2.2.2 a ha)⟩
theorem Fr.stgE {S S2 : HS} {l r v : Nat} (h : Fr S S2 l r) (hv : isK S 2 v) : fr S2 v = fr S v := by show (S2.P 3 v).getD 0 = (S.P 3 v).getD 0; rw [h.2.2.2.2.1 3 v hv.1 (Or.inr (by decide))]
theorem Fr.stg {S S2 : HS} {l r v : Nat} (h : Fr S S2 l r) (hv : stgOK S v) : stgOK S2 v := ⟨h.K hv.1, by rw [h.stgE hv.1, h.2.2.2.2.1 3 v hv.1.1 (Or.inr (by decide))]; exact hv.2.1, by rw [h.stgE hv.1]; exact h.K hv.2.2⟩
theorem stl.frame {E : Ev} {S S2 : HS} {a l r l2 r2 : Nat} {vs : List Nat} (h : stl E S a l2 r2 vs) (hf : Fr S S2 l r) (hl : l2 ≠ l) (hr : r2 ≠ r ∨ r2 = E.sa 0 ∧ vs = []) : stl E S2 a l2 r2 vs := ⟨hf.K h.1, (hf.2.2.2.2.1 1 a h.1.1 (Or.inr (by decide))).trans h.2.1, h.2.2.1.frame hf hl hr, fun v hv => hf.stg (h.2.2.2 v hv)⟩
theorem ldL_sh (g : Int64) (goal : Nat) : ∀ (l : List Nat) (S : HS), Sh S (ldL g goal l S)
  | [], S => Sh.rf
  | a :: l, S => by
    unfold ldL
    by_cases h : a = goal ∨ ldB S a goal = true
    · rw [if_pos h]; exact (Sh.rf.sJ (k := 1) (a := a)).trans (ldL_sh g goal l _)
    · rw [if_neg h]; exact ldL_sh g goal l S
/-- a new stage at q -/
def stS (S : HS) (q a : Nat) (d : Int32) : HS := ((S.nO q 2).sP 3 q (some a)).sI 9 q d
theorem stS_fr {S : HS} {q a : Nat} {d : Int32} (hq : q ∉ S.L) (l9 r9 : Nat) : Fr S (stS S q a d) l9 r9 := Fr.outI hq (Fr.outP hq (Fr.nO hq))
def Stg (E : Ev) (X : va_W) (S : HS) (x a b ls rs lf rf : Nat) (d : Int32) (ss ns fs : List Nat) : Option Value → va_W → HS → Prop := fun v X2 S2 => X = X2 ∧ ∃ q S3 S5, q ∉ S.L ∧ Lst (some (.int 1)) E X (stS S q a d) ls rs (ss ++ [q]) (some (.int 1)) X S3 ∧ Srt E X (ldL (S3.J 1 a ||| bv S3 a) b ns S3) lf rf fs none X S5 ∧ S5.sI 15 x (S5.I 15 x + 1) = S2 ∧ some (.int (S2.I 15 x - 1)) = v
theorem FrA.fr {S S2 : HS} {q k : Nat} (hq : q ∉ S.L) (h : FrA (S.nO q k) S2 q) (l9 r9 : Nat) : Fr S S2 l9 r9 := by
  have f0 : Fr S (S.nO q k) l9 r9 := Fr.nO hq
  have ne : ∀ b ∈ S.L, b ≠ q := fun b hb e => hq (e ▸ hb)
  obtain ⟨⟨L9, e9⟩, hk, hf, hn⟩ := h
  exact ⟨⟨q :: L9, by rw [e9]; show (S.L ++ [q]) ++ L9 = _; simp⟩, fun b hb => (hk b (f0.mem hb)).trans (f0.2.1 b hb), fun k b hb hc => ((hf b (f0.mem hb) (ne b hb)).1 k).trans (f0.2.2.1 k b hb hc), fun k b hb => ((hf b (f0.mem hb) (ne b hb)).2.1 k).trans (f0.2.2.2.1 k b hb), fun k b hb hc => ((hf b (f0.mem hb) (ne b hb)).2.2 k).trans (f0.2.2.2.2.1 k b hb hc), fun b hb => ⟨(hn b (f0.mem hb)).1.trans (f0.2.2.2.2.2.1 b hb).1, (hn b (f0.mem hb)).2.1.trans (f0.2.2.2.2.2.1 b hb).2⟩, fun b hb hc => (hn b (f0.mem hb)).2.2.trans (f0.2.2.2.2.2.2 b hb hc)⟩
def NetN (E : Ev) (X : va_W) (S : HS) (ln rn lf rf : Nat) (e0 la sl : Int32) (ns fs : List Nat) : Option Value → va_W → HS → Prop := fun v X2 S2 => X = X2 ∧ ∃ q S1 S3, q ∉ S.L ∧ NetI E X (S.nO q 0) q (nI ns.length) e0 la sl none X S1 ∧ Lst (some (.int 1)) E X S1 ln rn (ns ++ [q]) (some (.int 1)) X S3 ∧ Lst (some (.int 1)) E X S3 lf rf (fs ++ [q]) (some (.int 1)) X S2 ∧ some (.int (S2.I 0 q)) = v
def clS (S : HS) (x t : Nat) : HS := (((((S.sI 10 t 0).sI 11 x 0).sI 12 x 4).sI 13 x 0).sI 14 x 0).sI 15 x 0
def Clr (E : Ev) (X : va_W) (S : HS) (x t ln rn lf rf : Nat) : Option Value → va_W → HS → Prop := fun v X2 S2 => none = v ∧ X = X2 ∧ ∃ S1 S3, Lst none E X S ln rn [] none X S1 ∧ Lst none E X S1 lf rf [] none X S3 ∧ clS S3 x t = S2
set_option maxRecDepth 100000 in
theorem c_stage (l : Launch) (E : Ev) (X : va_W) (S : HS) {x ln rn : Nat} {ns : List Nat} (ho : crO E S x ln rn ns) {i j : Nat} (hi : i < ns.length) (hj : j < ns.length) (hij : i ≠ j) {sh : Int32} (h1 : ¬ sh < 0) (h2 : sh ≤ 100000) (hro : ¬ (80 : Int32) ≤ S.I 15 x) {ls rs lf rf : Nat} {ss fs : List Nat} (hs : stl E S ns[j] ls rs ss) (hf : crF E S x lf rf fs) (d1 : ln ≠ ls) (d2 : rn ≠ rs ∨ rn = E.sa 0 ∧ ns = []) (d3 : lf ≠ ls) (d4 : rf ≠ rs ∨ rf = E.sa 0 ∧ fs = []) (hl : ss.length < 100) : Ctr l yX4_stage (Cond.code yX4_stage cX4_stage 6 (some .int)) 7 2 152 E [.ref x, .int (nI i), .int (nI j), .int sh] X S (fun v X2 S2 => (ldB S ns[i] ns[j] = true ∧ some (.int (-1)) = v ∧ X = X2 ∧ S = S2) ∨ (ldB S ns[i] ns[j] = false ∧ Stg E X S x ns[i] ns[j] ls rs lf rf sh ss ns fs v X2 S2)) := by
  refine Ctr.ofG (by decide) [(0, .ref x), (1, .int (nI i)), (2, .int (nI j)), (3, .int sh)] rfl (Nat.le_of_ble_eq_true rfl) ?_
  intro p e s m args below meth c A Q C hQ
  refine g_aload_n C 0 dX4_stage_0 rfl rfl ?_
  refine g_iload_n C 1 dX4_stage_1 rfl rfl ?_
  refine g_callV C [.int (nI i)] [] (c_netAt l E X S ho hi) (recv_at ho.1.1 (pF_4 ho.1.2)) rfl cm_X4_netAt wv_X4_71 ds_X4_netAt rfl rfl (Nat.le_of_ble_eq_true rfl) (by decide) (by decide) dX4_stage_2 ?_
  rintro v9 X2 S2 ⟨rfl, rfl, rfl⟩
  show GW _ _ _ _ _ _ _ _ _ _ _ _ _ _ _ _ _ _ _ _ (.ref ns[i] :: _)
  obtain ⟨a, hae⟩ : ∃ a, a = ns[i] := ⟨_, rfl⟩
  rw [← hae]
  have ha : isK S 0 a := by rw [hae]; exact ho.2.2.2 _ (List.getElem_mem hi)
  refine g_astore C [(4, .ref a), (0, .ref x), (1, .int (nI i)), (2, .int (nI j)), (3, .int sh)] dX4_stage_5 (by decide) rfl ?_
  refine g_aload_n C 1 dX4_stage_7 rfl rfl ?_
  refine g_iload_n C 3 dX4_stage_8 rfl rfl ?_
  refine g_callV C [.int (nI j)] [] (c_netAt l E X S ho hj) (recv_at ho.1.1 (pF_4 ho.1.2)) rfl cm_X4_netAt wv_X4_71 ds_X4_netAt rfl rfl (Nat.le_of_ble_eq_true rfl) (by decide) (by decide) dX4_stage_9 ?_
  rintro v9 X2 S2 ⟨rfl, rfl, rfl⟩
  show GW _ _ _ _ _ _ _ _ _ _ _ _ _ _ _ _ _ _ _ _ (.ref ns[j] :: _)
  obtain ⟨b, hbe⟩ : ∃ a, a = ns[j] := ⟨_, rfl⟩
  rw [← hbe]
  have hb : isK S 0 b := by rw [hbe]; exact ho.2.2.2 _ (List.getElem_mem hj)
  refine g_astore C [(5, .ref b), (4, .ref a), (0, .ref x), (1, .int (nI i)), (2, .int (nI j)), (3, .int sh)] dX4_stage_12 (by decide) rfl ?_
  refine g_iload_n C 3 dX4_stage_14 rfl rfl ?_
  refine g_iload_n C 4 dX4_stage_15 rfl rfl ?_
  refine g_callS C [.int (nI i), .int (nI j)] [] (c_rd l E X S (fun q => hij ((nI_eq (by have := ho.len; omega) (by have := ho.len; omega)).mp q))) cm_X4_requireDifferent wst_X4_75 dt_X4_requireDifferent rfl rfl (Nat.le_of_ble_eq_true rfl) (by decide) (by decide) dX4_stage_16 ?_
  rintro v9 X2 S2 ⟨rfl, rfl, rfl⟩
  refine g_iload_n C 5 dX4_stage_19 rfl rfl ?_
  refine g_iconst C 0 dX4_stage_20 (by decide) ?_
  refine g_ldc C kc_X4_98 dX4_stage_21 ?_
  refine g_callS C [.int sh, .int 0, .int 100000] [] (c_rw l E X S h1 h2) cm_X4_requireWithin wst_X4_47 dt_X4_requireWithin rfl rfl (Nat.le_of_ble_eq_true rfl) (by decide) (by decide) dX4_stage_23 ?_
  rintro v9 X2 S2 ⟨rfl, rfl, rfl⟩
  refine g_aload_n C 2 dX4_stage_26 rfl rfl ?_
  refine g_get C 8 ho.1.1 (pF_4 ho.1.2) rfl (by decide) in_X4 lk_X4_43 rfl rfl dX4_stage_27 ?_
  refine g_bipush C 80 dX4_stage_30 (by decide) ?_
  refine g_callS C [.int (S.I 15 x), .int 80] [] (c_rr l E X S hro) cm_X4_requireRoom wst_X4_55 dt_X4_requireRoom rfl rfl (Nat.le_of_ble_eq_true rfl) (by decide) (by decide) dX4_stage_32 ?_
  rintro v9 X2 S2 ⟨rfl, rfl, rfl⟩
  refine g_aload C 1 dX4_stage_35 rfl ?_
  refine g_aload C 0 dX4_stage_37 rfl ?_
  refine g_callV C [.ref b] [] (c_isLedToBy l E X S ha hb) (recv_at ha.1 (pF_0 ha.2)) rfl cm_X0_isLedToBy wv_X4_99 ds_X0_isLedToBy rfl rfl (Nat.le_of_ble_eq_true rfl) (by decide) (by decide) dX4_stage_39 ?_
  rintro v9 X2 S2 ⟨rfl, rfl, rfl⟩
  refine g_if_eq C 47 dX4_stage_42 (by decide) (fun h42 => ?_) (fun h42 => ?_)
  · rw [← hbe] at hs
    refine g_aload C 0 dX4_stage_47 rfl ?_
    refine g_get (v := .ref ls) C 5 hb.1 (pF_0 hb.2) rfl (by decide) in_X0 lk_X4_102 rfl (congrArg (fun z => some (va_rf z)) hs.2.1) dX4_stage_49 ?_
    refine g_new C (fun q => S.nO q 2) rfl in_X2 tyX2_ok kl_X4_105 wb_X2 wz_X2 df_X2 (by decide) (by decide) (fun _ => rfl) (fun q b => pu_n2 q b) dX4_stage_52 (fun q hq => ?_)
    refine g_dup C dX4_stage_55 rfl ?_
    refine g_aload C 1 dX4_stage_56 rfl ?_
    refine g_iload_n C 5 dX4_stage_58 rfl rfl ?_
    refine g_callI C [.ref a, .int sh] [.ref q, .ref ls] (c_stgInit l E X (S.nO q 2) (b := a) (x := sh) isK_new) cm_X2_init wz_X2 wi_X4_107 wn_X2_init rfl dt_X2_init rfl rfl (Nat.le_of_ble_eq_true rfl) (by decide) (by decide) dX4_stage_59 ?_
    rintro v9 X2 S2 ⟨rfl, rfl, hS2⟩
    replace hS2 : stS S q a sh = S2 := hS2
    have f2 : ∀ l9 r9, Fr S S2 l9 r9 := fun l9 r9 => by rw [← hS2]; exact stS_fr hq l9 r9
    have kq : isK S2 2 q := by rw [← hS2]; exact isK_new (S := S)
    have A2 : isAL E S2 ls rs ss := hs.2.2.1.new f2
    refine g_callV C [.ref q] [] (c_add l E X S2 (x := q) A2 hl (fun v hv => (f2 0 0).el ⟨(hs.2.2.2 v hv).1.1, by rw [(hs.2.2.2 v hv).1.2]; decide⟩) ⟨kq.1, by rw [kq.2]; decide⟩) (recv_at A2.1.1 (pF_5 A2.1.2)) rfl cm_Jx4a65c_add_9ea2d wv_X4_64 ds_Jx4a65c_add_9ea2d rfl rfl (Nat.le_of_ble_eq_true rfl) (by decide) (by decide) dX4_stage_62 ?_
    rintro v9 X2 S3 ⟨rfl, rfl, r3, A3, f3, h3⟩
    have o3 : crO E S3 x ln rn ns := (ho.frame (f2 (ln + 1) (rn + 1)) (by omega) (Or.inl (by omega))).frame f3 d1 d2
    have c3 : crF E S3 x lf rf fs := (hf.frame (f2 (lf + 1) (rf + 1)) (by omega) (Or.inl (by omega))).frame f3 d3 d4
    have ka3 : isK S3 0 a := f3.K ((f2 0 0).K ha)
    have kb3 : isK S3 0 b := f3.K ((f2 0 0).K hb)
    refine g_pop C dX4_stage_65 rfl ?_
    refine g_aload_n C 2 dX4_stage_66 rfl rfl ?_
    refine g_aload C 1 dX4_stage_67 rfl ?_
    refine g_aload C 0 dX4_stage_69 rfl ?_
    refine g_callV C [.ref a, .ref b] [] (c_spreadLeaders l E X S3 o3 ka3 kb3) (recv_at o3.1.1 (pF_4 o3.1.2)) rfl cm_X4_spreadLeaders wv_X4_109 ds_X4_spreadLeaders rfl rfl (Nat.le_of_ble_eq_true rfl) (by decide) (by decide) dX4_stage_71 ?_
    rintro v9 X2 S4 ⟨rfl, rfl, hS4⟩
    have s4 : Sh S3 S4 := by rw [← hS4]; exact ldL_sh _ _ _ _
    have c4 : crF E S4 x lf rf fs := s4.crF' c3
    refine g_aload_n C 2 dX4_stage_74 rfl rfl ?_
    refine g_callV C [] [] (c_sortFlow l E X S4 c4) (recv_at c4.1.1 (pF_4 c4.1.2)) rfl cm_X4_sortFlow wv_X4_113 ds_X4_sortFlow rfl rfl (Nat.le_of_ble_eq_true rfl) (by decide) (by decide) dX4_stage_75 ?_
    rintro v9 X2 S5 ⟨rfl, rfl, hS5⟩
    have hS5' := hS5
    obtain ⟨r5, l5, A5, -, f5, -, -⟩ := hS5'
    have kx5 : isK S5 4 x := f5.K c4.1
    refine g_aload_n C 2 dX4_stage_78 rfl rfl ?_
    refine g_dup C dX4_stage_79 rfl ?_
    refine g_get C 8 kx5.1 (pF_4 kx5.2) rfl (by decide) in_X4 lk_X4_43 rfl rfl dX4_stage_80 ?_
    refine g_iconst C 1 dX4_stage_83 (by decide) ?_
    refine g_iadd C dX4_stage_84 ?_
    refine g_ni (fun z1 hz1 => ?_)
    refine pt_I15 C ⟨kx5.1, kx5.2⟩ lk_X4_43 dX4_stage_85 (fun G1 hG1 => ?_)
    have kG1_0 : isK G1 4 x := sI_K hG1 ⟨kx5.1, kx5.2⟩
    refine g_aload_n C 2 dX4_stage_88 rfl rfl ?_
    refine g_get C 8 kG1_0.1 (pF_4 kG1_0.2) rfl (by decide) in_X4 lk_X4_43 rfl rfl dX4_stage_89 ?_
    refine g_iconst C 1 dX4_stage_92 (by decide) ?_
    refine g_isub C dX4_stage_93 ?_
    exact g_iret C hQ rfl rfl dX4_stage_94 (by decide) (by decide) (Or.inr ⟨by rw [← hae, ← hbe]; exact bI_0 h42, rfl, q, S3, S5, hq, by rw [← hae, hS2]; exact ⟨rfl, rfl, r3, A3, f3, h3⟩, by rw [← hae, ← hbe, hS4]; exact ⟨rfl, rfl, hS5⟩, by rw [← hG1, hz1], rfl⟩)
  · refine g_iconst C (-1) dX4_stage_45 (by decide) ?_
    exact g_iret C hQ rfl rfl dX4_stage_46 (by decide) (by decide) (Or.inl ⟨by rw [← hae, ← hbe]; exact bI_1 h42, rfl, rfl, rfl⟩)
set_option maxRecDepth 100000 in
theorem c_stageT1 (l : Launch) (hlt : l.stackTraces = false) (E : Ev) (X : va_W) (S : HS) {x ln rn : Nat} {ns : List Nat} (ho : crO E S x ln rn ns) {z y sh : Int32} (h : z < 0 ∨ ¬ z < nI ns.length) : CtrT l yX4_stage (Cond.code yX4_stage cX4_stage 6 (some .int)) 7 1 6 E [.ref x, .int z, .int y, .int sh] X S xIO := by
  refine CtrX.ofG (by decide) [(0, .ref x), (1, .int z), (2, .int y), (3, .int sh)] rfl (Nat.le_of_ble_eq_true rfl) ?_
  intro p e s m args below meth c A C htb
  refine g_aload_n C 0 dX4_stage_0 rfl rfl ?_
  refine g_iload_n C 1 dX4_stage_1 rfl rfl ?_
  exact g_outV C htb [.int z] [] (c_netAtT l hlt E X S ho h) (recv_at ho.1.1 (pF_4 ho.1.2)) rfl cm_X4_netAt wv_X4_71 ds_X4_netAt rfl rfl (Nat.le_of_ble_eq_true rfl) (by decide) (by decide) dX4_stage_2 (by decide) rfl
set_option maxRecDepth 100000 in
theorem c_stageT2 (l : Launch) (hlt : l.stackTraces = false) (E : Ev) (X : va_W) (S : HS) {x ln rn : Nat} {ns : List Nat} (ho : crO E S x ln rn ns) {i : Nat} (hi : i < ns.length) {y sh : Int32} (h : y < 0 ∨ ¬ y < nI ns.length) : CtrT l yX4_stage (Cond.code yX4_stage cX4_stage 6 (some .int)) 7 1 6 E [.ref x, .int (nI i), .int y, .int sh] X S xIO := by
  refine CtrX.ofG (by decide) [(0, .ref x), (1, .int (nI i)), (2, .int y), (3, .int sh)] rfl (Nat.le_of_ble_eq_true rfl) ?_
  intro p e s m args below meth c A C htb
  refine g_aload_n C 0 dX4_stage_0 rfl rfl ?_
  refine g_iload_n C 1 dX4_stage_1 rfl rfl ?_
  refine g_callV C [.int (nI i)] [] (c_netAt l E X S ho hi) (recv_at ho.1.1 (pF_4 ho.1.2)) rfl cm_X4_netAt wv_X4_71 ds_X4_netAt rfl rfl (Nat.le_of_ble_eq_true rfl) (by decide) (by decide) dX4_stage_2 ?_
  rintro v9 X2 S2 ⟨rfl, rfl, rfl⟩
  show GW _ _ _ _ _ _ _ _ _ _ _ _ _ _ _ _ _ _ _ _ (.ref ns[i] :: _)
  obtain ⟨a, hae⟩ : ∃ a, a = ns[i] := ⟨_, rfl⟩
  rw [← hae]
  have ha : isK S 0 a := by rw [hae]; exact ho.2.2.2 _ (List.getElem_mem hi)
  refine g_astore C [(4, .ref a), (0, .ref x), (1, .int (nI i)), (2, .int y), (3, .int sh)] dX4_stage_5 (by decide) rfl ?_
  refine g_aload_n C 1 dX4_stage_7 rfl rfl ?_
  refine g_iload_n C 3 dX4_stage_8 rfl rfl ?_
  exact g_outV C htb [.int y] [] (c_netAtT l hlt E X S ho h) (recv_at ho.1.1 (pF_4 ho.1.2)) rfl cm_X4_netAt wv_X4_71 ds_X4_netAt rfl rfl (Nat.le_of_ble_eq_true rfl) (by decide) (by decide) dX4_stage_9 (by decide) rfl
set_option maxRecDepth 100000 in
theorem c_stageT3 (l : Launch) (hlt : l.stackTraces = false) (E : Ev) (X : va_W) (S : HS) {x ln rn : Nat} {ns : List Nat} (ho : crO E S x ln rn ns) {i j : Nat} (hi : i < ns.length) (hj : j < ns.length) {sh : Int32} (hij : i = j) : CtrT l yX4_stage (Cond.code yX4_stage cX4_stage 6 (some .int)) 7 1 6 E [.ref x, .int (nI i), .int (nI j), .int sh] X S xIA := by
  refine CtrX.ofG (by decide) [(0, .ref x), (1, .int (nI i)), (2, .int (nI j)), (3, .int sh)] rfl (Nat.le_of_ble_eq_true rfl) ?_
  intro p e s m args below meth c A C htb
  refine g_aload_n C 0 dX4_stage_0 rfl rfl ?_
  refine g_iload_n C 1 dX4_stage_1 rfl rfl ?_
  refine g_callV C [.int (nI i)] [] (c_netAt l E X S ho hi) (recv_at ho.1.1 (pF_4 ho.1.2)) rfl cm_X4_netAt wv_X4_71 ds_X4_netAt rfl rfl (Nat.le_of_ble_eq_true rfl) (by decide) (by decide) dX4_stage_2 ?_
  rintro v9 X2 S2 ⟨rfl, rfl, rfl⟩
  show GW _ _ _ _ _ _ _ _ _ _ _ _ _ _ _ _ _ _ _ _ (.ref ns[i] :: _)
  obtain ⟨a, hae⟩ : ∃ a, a = ns[i] := ⟨_, rfl⟩
  rw [← hae]
  have ha : isK S 0 a := by rw [hae]; exact ho.2.2.2 _ (List.getElem_mem hi)
  refine g_astore C [(4, .ref a), (0, .ref x), (1, .int (nI i)), (2, .int (nI j)), (3, .int sh)] dX4_stage_5 (by decide) rfl ?_
  refine g_aload_n C 1 dX4_stage_7 rfl rfl ?_
  refine g_iload_n C 3 dX4_stage_8 rfl rfl ?_
  refine g_callV C [.int (nI j)] [] (c_netAt l E X S ho hj) (recv_at ho.1.1 (pF_4 ho.1.2)) rfl cm_X4_netAt wv_X4_71 ds_X4_netAt rfl rfl (Nat.le_of_ble_eq_true rfl) (by decide) (by decide) dX4_stage_9 ?_
  rintro v9 X2 S2 ⟨rfl, rfl, rfl⟩
  show GW _ _ _ _ _ _ _ _ _ _ _ _ _ _ _ _ _ _ _ _ (.ref ns[j] :: _)
  obtain ⟨b, hbe⟩ : ∃ a, a = ns[j] := ⟨_, rfl⟩
  rw [← hbe]
  have hb : isK S 0 b := by rw [hbe]; exact ho.2.2.2 _ (List.getElem_mem hj)
  refine g_astore C [(5, .ref b), (4, .ref a), (0, .ref x), (1, .int (nI i)), (2, .int (nI j)), (3, .int sh)] dX4_stage_12 (by decide) rfl ?_
  refine g_iload_n C 3 dX4_stage_14 rfl rfl ?_
  refine g_iload_n C 4 dX4_stage_15 rfl rfl ?_
  exact g_outS C htb [.int (nI i), .int (nI j)] [] (c_rdT l hlt E X S (congrArg nI hij)) cm_X4_requireDifferent wst_X4_75 dt_X4_requireDifferent rfl rfl (Nat.le_of_ble_eq_true rfl) (by decide) (by decide) dX4_stage_16 (by decide) rfl
set_option maxRecDepth 100000 in
theorem c_stageT4 (l : Launch) (hlt : l.stackTraces = false) (E : Ev) (X : va_W) (S : HS) {x ln rn : Nat} {ns : List Nat} (ho : crO E S x ln rn ns) {i j : Nat} (hi : i < ns.length) (hj : j < ns.length) (hij : i ≠ j) {sh : Int32} (g : sh < 0 ∨ ¬ sh ≤ 100000) : CtrT l yX4_stage (Cond.code yX4_stage cX4_stage 6 (some .int)) 7 1 6 E [.ref x, .int (nI i), .int (nI j), .int sh] X S xIA := by
  refine CtrX.ofG (by decide) [(0, .ref x), (1, .int (nI i)), (2, .int (nI j)), (3, .int sh)] rfl (Nat.le_of_ble_eq_true rfl) ?_
  intro p e s m args below meth c A C htb
  refine g_aload_n C 0 dX4_stage_0 rfl rfl ?_
  refine g_iload_n C 1 dX4_stage_1 rfl rfl ?_
  refine g_callV C [.int (nI i)] [] (c_netAt l E X S ho hi) (recv_at ho.1.1 (pF_4 ho.1.2)) rfl cm_X4_netAt wv_X4_71 ds_X4_netAt rfl rfl (Nat.le_of_ble_eq_true rfl) (by decide) (by decide) dX4_stage_2 ?_
  rintro v9 X2 S2 ⟨rfl, rfl, rfl⟩
  show GW _ _ _ _ _ _ _ _ _ _ _ _ _ _ _ _ _ _ _ _ (.ref ns[i] :: _)
  obtain ⟨a, hae⟩ : ∃ a, a = ns[i] := ⟨_, rfl⟩
  rw [← hae]
  have ha : isK S 0 a := by rw [hae]; exact ho.2.2.2 _ (List.getElem_mem hi)
  refine g_astore C [(4, .ref a), (0, .ref x), (1, .int (nI i)), (2, .int (nI j)), (3, .int sh)] dX4_stage_5 (by decide) rfl ?_
  refine g_aload_n C 1 dX4_stage_7 rfl rfl ?_
  refine g_iload_n C 3 dX4_stage_8 rfl rfl ?_
  refine g_callV C [.int (nI j)] [] (c_netAt l E X S ho hj) (recv_at ho.1.1 (pF_4 ho.1.2)) rfl cm_X4_netAt wv_X4_71 ds_X4_netAt rfl rfl (Nat.le_of_ble_eq_true rfl) (by decide) (by decide) dX4_stage_9 ?_
  rintro v9 X2 S2 ⟨rfl, rfl, rfl⟩
  show GW _ _ _ _ _ _ _ _ _ _ _ _ _ _ _ _ _ _ _ _ (.ref ns[j] :: _)
  obtain ⟨b, hbe⟩ : ∃ a, a = ns[j] := ⟨_, rfl⟩
  rw [← hbe]
  have hb : isK S 0 b := by rw [hbe]; exact ho.2.2.2 _ (List.getElem_mem hj)
  refine g_astore C [(5, .ref b), (4, .ref a), (0, .ref x), (1, .int (nI i)), (2, .int (nI j)), (3, .int sh)] dX4_stage_12 (by decide) rfl ?_
  refine g_iload_n C 3 dX4_stage_14 rfl rfl ?_
  refine g_iload_n C 4 dX4_stage_15 rfl rfl ?_
  refine g_callS C [.int (nI i), .int (nI j)] [] (c_rd l E X S (fun q => hij ((nI_eq (by have := ho.len; omega) (by have := ho.len; omega)).mp q))) cm_X4_requireDifferent wst_X4_75 dt_X4_requireDifferent rfl rfl (Nat.le_of_ble_eq_true rfl) (by decide) (by decide) dX4_stage_16 ?_
  rintro v9 X2 S2 ⟨rfl, rfl, rfl⟩
  refine g_iload_n C 5 dX4_stage_19 rfl rfl ?_
  refine g_iconst C 0 dX4_stage_20 (by decide) ?_
  refine g_ldc C kc_X4_98 dX4_stage_21 ?_
  exact g_outS C htb [.int sh, .int 0, .int 100000] [] (c_rwT l hlt E X S g) cm_X4_requireWithin wst_X4_47 dt_X4_requireWithin rfl rfl (Nat.le_of_ble_eq_true rfl) (by decide) (by decide) dX4_stage_23 (by decide) rfl
set_option maxRecDepth 100000 in
theorem c_stageT5 (l : Launch) (hlt : l.stackTraces = false) (E : Ev) (X : va_W) (S : HS) {x ln rn : Nat} {ns : List Nat} (ho : crO E S x ln rn ns) {i j : Nat} (hi : i < ns.length) (hj : j < ns.length) (hij : i ≠ j) {sh : Int32} (h1 : ¬ sh < 0) (h2 : sh ≤ 100000) (hro : (80 : Int32) ≤ S.I 15 x) : CtrT l yX4_stage (Cond.code yX4_stage cX4_stage 6 (some .int)) 7 1 6 E [.ref x, .int (nI i), .int (nI j), .int sh] X S xIS := by
  refine CtrX.ofG (by decide) [(0, .ref x), (1, .int (nI i)), (2, .int (nI j)), (3, .int sh)] rfl (Nat.le_of_ble_eq_true rfl) ?_
  intro p e s m args below meth c A C htb
  refine g_aload_n C 0 dX4_stage_0 rfl rfl ?_
  refine g_iload_n C 1 dX4_stage_1 rfl rfl ?_
  refine g_callV C [.int (nI i)] [] (c_netAt l E X S ho hi) (recv_at ho.1.1 (pF_4 ho.1.2)) rfl cm_X4_netAt wv_X4_71 ds_X4_netAt rfl rfl (Nat.le_of_ble_eq_true rfl) (by decide) (by decide) dX4_stage_2 ?_
  rintro v9 X2 S2 ⟨rfl, rfl, rfl⟩
  show GW _ _ _ _ _ _ _ _ _ _ _ _ _ _ _ _ _ _ _ _ (.ref ns[i] :: _)
  obtain ⟨a, hae⟩ : ∃ a, a = ns[i] := ⟨_, rfl⟩
  rw [← hae]
  have ha : isK S 0 a := by rw [hae]; exact ho.2.2.2 _ (List.getElem_mem hi)
  refine g_astore C [(4, .ref a), (0, .ref x), (1, .int (nI i)), (2, .int (nI j)), (3, .int sh)] dX4_stage_5 (by decide) rfl ?_
  refine g_aload_n C 1 dX4_stage_7 rfl rfl ?_
  refine g_iload_n C 3 dX4_stage_8 rfl rfl ?_
  refine g_callV C [.int (nI j)] [] (c_netAt l E X S ho hj) (recv_at ho.1.1 (pF_4 ho.1.2)) rfl cm_X4_netAt wv_X4_71 ds_X4_netAt rfl rfl (Nat.le_of_ble_eq_true rfl) (by decide) (by decide) dX4_stage_9 ?_
  rintro v9 X2 S2 ⟨rfl, rfl, rfl⟩
  show GW _ _ _ _ _ _ _ _ _ _ _ _ _ _ _ _ _ _ _ _ (.ref ns[j] :: _)
  obtain ⟨b, hbe⟩ : ∃ a, a = ns[j] := ⟨_, rfl⟩
  rw [← hbe]
  have hb : isK S 0 b := by rw [hbe]; exact ho.2.2.2 _ (List.getElem_mem hj)
  refine g_astore C [(5, .ref b), (4, .ref a), (0, .ref x), (1, .int (nI i)), (2, .int (nI j)), (3, .int sh)] dX4_stage_12 (by decide) rfl ?_
  refine g_iload_n C 3 dX4_stage_14 rfl rfl ?_
  refine g_iload_n C 4 dX4_stage_15 rfl rfl ?_
  refine g_callS C [.int (nI i), .int (nI j)] [] (c_rd l E X S (fun q => hij ((nI_eq (by have := ho.len; omega) (by have := ho.len; omega)).mp q))) cm_X4_requireDifferent wst_X4_75 dt_X4_requireDifferent rfl rfl (Nat.le_of_ble_eq_true rfl) (by decide) (by decide) dX4_stage_16 ?_
  rintro v9 X2 S2 ⟨rfl, rfl, rfl⟩
  refine g_iload_n C 5 dX4_stage_19 rfl rfl ?_
  refine g_iconst C 0 dX4_stage_20 (by decide) ?_
  refine g_ldc C kc_X4_98 dX4_stage_21 ?_
  refine g_callS C [.int sh, .int 0, .int 100000] [] (c_rw l E X S h1 h2) cm_X4_requireWithin wst_X4_47 dt_X4_requireWithin rfl rfl (Nat.le_of_ble_eq_true rfl) (by decide) (by decide) dX4_stage_23 ?_
  rintro v9 X2 S2 ⟨rfl, rfl, rfl⟩
  refine g_aload_n C 2 dX4_stage_26 rfl rfl ?_
  refine g_get C 8 ho.1.1 (pF_4 ho.1.2) rfl (by decide) in_X4 lk_X4_43 rfl rfl dX4_stage_27 ?_
  refine g_bipush C 80 dX4_stage_30 (by decide) ?_
  exact g_outS C htb [.int (S.I 15 x), .int 80] [] (c_rrT l hlt E X S hro) cm_X4_requireRoom wst_X4_55 dt_X4_requireRoom rfl rfl (Nat.le_of_ble_eq_true rfl) (by decide) (by decide) dX4_stage_32 (by decide) rfl
set_option maxRecDepth 100000 in
theorem c_net (l : Launch) (E : Ev) (X : va_W) (S : HS) {x ln rn : Nat} {ns : List Nat} (ho : crO E S x ln rn ns) {e0 la sl : Int32} (a1 : ¬ la < 0) (a2 : la ≤ 1000000) (b1 : ¬ e0 < 0) (b2 : e0 ≤ la) (g1 : ¬ sl < 0) (g2 : sl ≤ 10000) (hn : ns.length < 40) {lf rf : Nat} {fs : List Nat} (hf : crF E S x lf rf fs) (hfl : fs.length < 100) (d1 : lf ≠ ln) (d2 : rf ≠ rn ∨ rf = E.sa 0 ∧ fs = []) : Ctr l yX4_net (Cond.code yX4_net cX4_net 5 (some .int)) 7 5 318 E [.ref x, .int e0, .int la, .int sl] X S (NetN E X S ln rn lf rf e0 la sl ns fs) := by
  refine Ctr.ofG (by decide) [(0, .ref x), (1, .int e0), (2, .int la), (3, .int sl)] rfl (Nat.le_of_ble_eq_true rfl) ?_
  intro p e s m args below meth c A Q C hQ
  refine g_iload_n C 2 dX4_net_0 rfl rfl ?_
  refine g_iconst C 0 dX4_net_1 (by decide) ?_
  refine g_ldc C kc_X4_46 dX4_net_2 ?_
  refine g_callS C [.int la, .int 0, .int 1000000] [] (c_rw l E X S a1 a2) cm_X4_requireWithin wst_X4_47 dt_X4_requireWithin rfl rfl (Nat.le_of_ble_eq_true rfl) (by decide) (by decide) dX4_net_4 ?_
  rintro v9 X2 S2 ⟨rfl, rfl, rfl⟩
  refine g_iload_n C 1 dX4_net_7 rfl rfl ?_
  refine g_iconst C 0 dX4_net_8 (by decide) ?_
  refine g_iload_n C 2 dX4_net_9 rfl rfl ?_
  refine g_callS C [.int e0, .int 0, .int la] [] (c_rw l E X S b1 b2) cm_X4_requireWithin wst_X4_47 dt_X4_requireWithin rfl rfl (Nat.le_of_ble_eq_true rfl) (by decide) (by decide) dX4_net_10 ?_
  rintro v9 X2 S2 ⟨rfl, rfl, rfl⟩
  refine g_iload_n C 3 dX4_net_13 rfl rfl ?_
  refine g_iconst C 0 dX4_net_14 (by decide) ?_
  refine g_sipush C 10000 dX4_net_15 (by decide) ?_
  refine g_callS C [.int sl, .int 0, .int 10000] [] (c_rw l E X S g1 g2) cm_X4_requireWithin wst_X4_47 dt_X4_requireWithin rfl rfl (Nat.le_of_ble_eq_true rfl) (by decide) (by decide) dX4_net_18 ?_
  rintro v9 X2 S2 ⟨rfl, rfl, rfl⟩
  refine g_aload_n C 0 dX4_net_21 rfl rfl ?_
  refine g_get (v := .ref ln) C 0 ho.1.1 (pF_4 ho.1.2) rfl (by decide) in_X4 lk_X4_10 rfl (congrArg (fun z => some (va_rf z)) ho.2.1) dX4_net_22 ?_
  refine g_callV C [] [] (c_size l E X S ho.2.2.1) (recv_at ho.2.2.1.1.1 (pF_5 ho.2.2.1.1.2)) rfl cm_Jx4a65c_size_8abf5 wv_X4_51 ds_Jx4a65c_size_8abf5 rfl rfl (Nat.le_of_ble_eq_true rfl) (by decide) (by decide) dX4_net_25 ?_
  rintro v9 X2 S2 ⟨rfl, rfl, rfl⟩
  refine g_bipush C 40 dX4_net_28 (by decide) ?_
  refine g_callS C [.int (nI ns.length), .int 40] [] (c_rr l E X S (fun q => absurd ((nI_leI (a := 40) (by decide) (by omega)).mp q) (by omega))) cm_X4_requireRoom wst_X4_55 dt_X4_requireRoom rfl rfl (Nat.le_of_ble_eq_true rfl) (by decide) (by decide) dX4_net_30 ?_
  rintro v9 X2 S2 ⟨rfl, rfl, rfl⟩
  refine g_new C (fun q => S.nO q 0) rfl in_X0 tyX0_ok kl_X4_59 wb_X0 wz_X0 df_X0 (by decide) (by decide) (fun _ => rfl) (fun q b => pu_n0 q b) dX4_net_33 (fun q hq => ?_)
  have f1 : ∀ l9 r9, Fr S (S.nO q 0) l9 r9 := fun l9 r9 => Fr.nO hq
  have o1 : crO E (S.nO q 0) x ln rn ns := ho.frame (f1 (ln + 1) (rn + 1)) (by omega) (Or.inl (by omega))
  refine g_dup C dX4_net_36 rfl ?_
  refine g_aload_n C 0 dX4_net_37 rfl rfl ?_
  refine g_get (v := .ref ln) C 0 o1.1.1 (pF_4 o1.1.2) rfl (by decide) in_X4 lk_X4_10 rfl (congrArg (fun z => some (va_rf z)) o1.2.1) dX4_net_38 ?_
  refine g_callV C [] [.ref q, .ref q] (c_size l E X (S.nO q 0) o1.2.2.1) (recv_at o1.2.2.1.1.1 (pF_5 o1.2.2.1.1.2)) rfl cm_Jx4a65c_size_8abf5 wv_X4_51 ds_Jx4a65c_size_8abf5 rfl rfl (Nat.le_of_ble_eq_true rfl) (by decide) (by decide) dX4_net_41 ?_
  rintro v9 X2 S2 ⟨rfl, rfl, rfl⟩
  refine g_iload_n C 1 dX4_net_44 rfl rfl ?_
  refine g_iload_n C 2 dX4_net_45 rfl rfl ?_
  refine g_iload_n C 3 dX4_net_46 rfl rfl ?_
  refine g_callI C [.int (nI ns.length), .int e0, .int la, .int sl] [.ref q] (c_netInit l E X (S.nO q 0) isK_new (nI ns.length) e0 la sl) cm_X0_init wz_X0 wi_X4_61 wn_X0_init rfl dt_X0_init rfl rfl (Nat.le_of_ble_eq_true rfl) (by decide) (by decide) dX4_net_47 ?_
  rintro v9 X2 S1 ⟨rfl, rfl, hI⟩
  have hI' := hI
  obtain ⟨q1, q2, -, -, -, -, -, kq, -, -, -, -, -, -, -, -, -, -, -, -, hA⟩ := hI'
  have f2 : ∀ l9 r9, Fr S S1 l9 r9 := FrA.fr hq hA
  have o2 : crO E S1 x ln rn ns := ho.frame (f2 (ln + 1) (rn + 1)) (by omega) (Or.inl (by omega))
  have c2 : crF E S1 x lf rf fs := hf.frame (f2 (lf + 1) (rf + 1)) (by omega) (Or.inl (by omega))
  refine g_astore C [(4, .ref q), (0, .ref x), (1, .int e0), (2, .int la), (3, .int sl)] dX4_net_50 (by decide) rfl ?_
  refine g_aload_n C 1 dX4_net_52 rfl rfl ?_
  refine g_get (v := .ref ln) C 0 o2.1.1 (pF_4 o2.1.2) rfl (by decide) in_X4 lk_X4_10 rfl (congrArg (fun z => some (va_rf z)) o2.2.1) dX4_net_53 ?_
  refine g_aload C 0 dX4_net_56 rfl ?_
  refine g_callV C [.ref q] [] (c_add l E X S1 (x := q) o2.2.2.1 (by omega) (fun v hv => ⟨(o2.2.2.2 v hv).1, by rw [(o2.2.2.2 v hv).2]; decide⟩) ⟨kq.1, by rw [kq.2]; decide⟩) (recv_at o2.2.2.1.1.1 (pF_5 o2.2.2.1.1.2)) rfl cm_Jx4a65c_add_9ea2d wv_X4_64 ds_Jx4a65c_add_9ea2d rfl rfl (Nat.le_of_ble_eq_true rfl) (by decide) (by decide) dX4_net_58 ?_
  rintro v9 X2 S3 ⟨rfl, rfl, r3, A3, f3, h3⟩
  have c3 : crF E S3 x lf rf fs := c2.frame f3 d1 d2
  have kq3 : isK S3 0 q := f3.K kq
  refine g_pop C dX4_net_61 rfl ?_
  refine g_aload_n C 1 dX4_net_62 rfl rfl ?_
  refine g_get (v := .ref lf) C 1 c3.1.1 (pF_4 c3.1.2) rfl (by decide) in_X4 lk_X4_16 rfl (congrArg (fun z => some (va_rf z)) c3.2.1) dX4_net_63 ?_
  refine g_aload C 0 dX4_net_66 rfl ?_
  refine g_callV C [.ref q] [] (c_add l E X S3 (x := q) c3.2.2.1 (by omega) (fun v hv => ⟨(c3.2.2.2 v hv).1, by rw [(c3.2.2.2 v hv).2]; decide⟩) ⟨kq3.1, by rw [kq3.2]; decide⟩) (recv_at c3.2.2.1.1.1 (pF_5 c3.2.2.1.1.2)) rfl cm_Jx4a65c_add_9ea2d wv_X4_64 ds_Jx4a65c_add_9ea2d rfl rfl (Nat.le_of_ble_eq_true rfl) (by decide) (by decide) dX4_net_68 ?_
  rintro v9 X2 S4 ⟨rfl, rfl, r4, A4, f4, h4⟩
  have kq4 : isK S4 0 q := f4.K kq3
  refine g_pop C dX4_net_71 rfl ?_
  refine g_aload C 0 dX4_net_72 rfl ?_
  refine g_get C 0 kq4.1 (pF_0 kq4.2) rfl (by decide) in_X0 lk_X4_68 rfl rfl dX4_net_74 ?_
  exact g_iret C hQ rfl rfl dX4_net_77 (by decide) (by decide) ⟨rfl, q, S1, S3, hq, ⟨rfl, rfl, hI⟩, ⟨rfl, rfl, r3, A3, f3, h3⟩, ⟨rfl, rfl, r4, A4, f4, h4⟩, rfl⟩
set_option maxRecDepth 100000 in
theorem c_netT1 (l : Launch) (hlt : l.stackTraces = false) (E : Ev) (X : va_W) (S : HS) {x ln rn : Nat} {ns : List Nat} (ho : crO E S x ln rn ns) {e0 la sl : Int32} (g : la < 0 ∨ ¬ la ≤ 1000000) : CtrT l yX4_net (Cond.code yX4_net cX4_net 5 (some .int)) 7 1 6 E [.ref x, .int e0, .int la, .int sl] X S xIA := by
  refine CtrX.ofG (by decide) [(0, .ref x), (1, .int e0), (2, .int la), (3, .int sl)] rfl (Nat.le_of_ble_eq_true rfl) ?_
  intro p e s m args below meth c A C htb
  refine g_iload_n C 2 dX4_net_0 rfl rfl ?_
  refine g_iconst C 0 dX4_net_1 (by decide) ?_
  refine g_ldc C kc_X4_46 dX4_net_2 ?_
  exact g_outS C htb [.int la, .int 0, .int 1000000] [] (c_rwT l hlt E X S g) cm_X4_requireWithin wst_X4_47 dt_X4_requireWithin rfl rfl (Nat.le_of_ble_eq_true rfl) (by decide) (by decide) dX4_net_4 (by decide) rfl
set_option maxRecDepth 100000 in
theorem c_netT2 (l : Launch) (hlt : l.stackTraces = false) (E : Ev) (X : va_W) (S : HS) {x ln rn : Nat} {ns : List Nat} (ho : crO E S x ln rn ns) {e0 la sl : Int32}(a1 : ¬ la < 0) (a2 : la ≤ 1000000)  (g : e0 < 0 ∨ ¬ e0 ≤ la) : CtrT l yX4_net (Cond.code yX4_net cX4_net 5 (some .int)) 7 1 6 E [.ref x, .int e0, .int la, .int sl] X S xIA := by
  refine CtrX.ofG (by decide) [(0, .ref x), (1, .int e0), (2, .int la), (3, .int sl)] rfl (Nat.le_of_ble_eq_true rfl) ?_
  intro p e s m args below meth c A C htb
  refine g_iload_n C 2 dX4_net_0 rfl rfl ?_
  refine g_iconst C 0 dX4_net_1 (by decide) ?_
  refine g_ldc C kc_X4_46 dX4_net_2 ?_
  refine g_callS C [.int la, .int 0, .int 1000000] [] (c_rw l E X S a1 a2) cm_X4_requireWithin wst_X4_47 dt_X4_requireWithin rfl rfl (Nat.le_of_ble_eq_true rfl) (by decide) (by decide) dX4_net_4 ?_
  rintro v9 X2 S2 ⟨rfl, rfl, rfl⟩
  refine g_iload_n C 1 dX4_net_7 rfl rfl ?_
  refine g_iconst C 0 dX4_net_8 (by decide) ?_
  refine g_iload_n C 2 dX4_net_9 rfl rfl ?_
  exact g_outS C htb [.int e0, .int 0, .int la] [] (c_rwT l hlt E X S g) cm_X4_requireWithin wst_X4_47 dt_X4_requireWithin rfl rfl (Nat.le_of_ble_eq_true rfl) (by decide) (by decide) dX4_net_10 (by decide) rfl
set_option maxRecDepth 100000 in
theorem c_netT3 (l : Launch) (hlt : l.stackTraces = false) (E : Ev) (X : va_W) (S : HS) {x ln rn : Nat} {ns : List Nat} (ho : crO E S x ln rn ns) {e0 la sl : Int32}(a1 : ¬ la < 0) (a2 : la ≤ 1000000) (b1 : ¬ e0 < 0) (b2 : e0 ≤ la)  (g : sl < 0 ∨ ¬ sl ≤ 10000) : CtrT l yX4_net (Cond.code yX4_net cX4_net 5 (some .int)) 7 1 6 E [.ref x, .int e0, .int la, .int sl] X S xIA := by
  refine CtrX.ofG (by decide) [(0, .ref x), (1, .int e0), (2, .int la), (3, .int sl)] rfl (Nat.le_of_ble_eq_true rfl) ?_
  intro p e s m args below meth c A C htb
  refine g_iload_n C 2 dX4_net_0 rfl rfl ?_
  refine g_iconst C 0 dX4_net_1 (by decide) ?_
  refine g_ldc C kc_X4_46 dX4_net_2 ?_
  refine g_callS C [.int la, .int 0, .int 1000000] [] (c_rw l E X S a1 a2) cm_X4_requireWithin wst_X4_47 dt_X4_requireWithin rfl rfl (Nat.le_of_ble_eq_true rfl) (by decide) (by decide) dX4_net_4 ?_
  rintro v9 X2 S2 ⟨rfl, rfl, rfl⟩
  refine g_iload_n C 1 dX4_net_7 rfl rfl ?_
  refine g_iconst C 0 dX4_net_8 (by decide) ?_
  refine g_iload_n C 2 dX4_net_9 rfl rfl ?_
  refine g_callS C [.int e0, .int 0, .int la] [] (c_rw l E X S b1 b2) cm_X4_requireWithin wst_X4_47 dt_X4_requireWithin rfl rfl (Nat.le_of_ble_eq_true rfl) (by decide) (by decide) dX4_net_10 ?_
  rintro v9 X2 S2 ⟨rfl, rfl, rfl⟩
  refine g_iload_n C 3 dX4_net_13 rfl rfl ?_
  refine g_iconst C 0 dX4_net_14 (by decide) ?_
  refine g_sipush C 10000 dX4_net_15 (by decide) ?_
  exact g_outS C htb [.int sl, .int 0, .int 10000] [] (c_rwT l hlt E X S g) cm_X4_requireWithin wst_X4_47 dt_X4_requireWithin rfl rfl (Nat.le_of_ble_eq_true rfl) (by decide) (by decide) dX4_net_18 (by decide) rfl
set_option maxRecDepth 100000 in
theorem c_netT4 (l : Launch) (hlt : l.stackTraces = false) (E : Ev) (X : va_W) (S : HS) {x ln rn : Nat} {ns : List Nat} (ho : crO E S x ln rn ns) {e0 la sl : Int32}(a1 : ¬ la < 0) (a2 : la ≤ 1000000) (b1 : ¬ e0 < 0) (b2 : e0 ≤ la) (g1 : ¬ sl < 0) (g2 : sl ≤ 10000)  (hn : 40 ≤ ns.length) : CtrT l yX4_net (Cond.code yX4_net cX4_net 5 (some .int)) 7 1 6 E [.ref x, .int e0, .int la, .int sl] X S xIS := by
  refine CtrX.ofG (by decide) [(0, .ref x), (1, .int e0), (2, .int la), (3, .int sl)] rfl (Nat.le_of_ble_eq_true rfl) ?_
  intro p e s m args below meth c A C htb
  refine g_iload_n C 2 dX4_net_0 rfl rfl ?_
  refine g_iconst C 0 dX4_net_1 (by decide) ?_
  refine g_ldc C kc_X4_46 dX4_net_2 ?_
  refine g_callS C [.int la, .int 0, .int 1000000] [] (c_rw l E X S a1 a2) cm_X4_requireWithin wst_X4_47 dt_X4_requireWithin rfl rfl (Nat.le_of_ble_eq_true rfl) (by decide) (by decide) dX4_net_4 ?_
  rintro v9 X2 S2 ⟨rfl, rfl, rfl⟩
  refine g_iload_n C 1 dX4_net_7 rfl rfl ?_
  refine g_iconst C 0 dX4_net_8 (by decide) ?_
  refine g_iload_n C 2 dX4_net_9 rfl rfl ?_
  refine g_callS C [.int e0, .int 0, .int la] [] (c_rw l E X S b1 b2) cm_X4_requireWithin wst_X4_47 dt_X4_requireWithin rfl rfl (Nat.le_of_ble_eq_true rfl) (by decide) (by decide) dX4_net_10 ?_
  rintro v9 X2 S2 ⟨rfl, rfl, rfl⟩
  refine g_iload_n C 3 dX4_net_13 rfl rfl ?_
  refine g_iconst C 0 dX4_net_14 (by decide) ?_
  refine g_sipush C 10000 dX4_net_15 (by decide) ?_
  refine g_callS C [.int sl, .int 0, .int 10000] [] (c_rw l E X S g1 g2) cm_X4_requireWithin wst_X4_47 dt_X4_requireWithin rfl rfl (Nat.le_of_ble_eq_true rfl) (by decide) (by decide) dX4_net_18 ?_
  rintro v9 X2 S2 ⟨rfl, rfl, rfl⟩
  refine g_aload_n C 0 dX4_net_21 rfl rfl ?_
  refine g_get (v := .ref ln) C 0 ho.1.1 (pF_4 ho.1.2) rfl (by decide) in_X4 lk_X4_10 rfl (congrArg (fun z => some (va_rf z)) ho.2.1) dX4_net_22 ?_
  refine g_callV C [] [] (c_size l E X S ho.2.2.1) (recv_at ho.2.2.1.1.1 (pF_5 ho.2.2.1.1.2)) rfl cm_Jx4a65c_size_8abf5 wv_X4_51 ds_Jx4a65c_size_8abf5 rfl rfl (Nat.le_of_ble_eq_true rfl) (by decide) (by decide) dX4_net_25 ?_
  rintro v9 X2 S2 ⟨rfl, rfl, rfl⟩
  refine g_bipush C 40 dX4_net_28 (by decide) ?_
  exact g_outS C htb [.int (nI ns.length), .int 40] [] (c_rrT l hlt E X S (nI_le (a := 40) hn (by have := ho.len; omega))) cm_X4_requireRoom wst_X4_55 dt_X4_requireRoom rfl rfl (Nat.le_of_ble_eq_true rfl) (by decide) (by decide) dX4_net_30 (by decide) rfl
set_option maxRecDepth 100000 in
theorem c_clear (l : Launch) (E : Ev) (X : va_W) (S : HS) {x ln rn : Nat} {ns : List Nat} (ho : crO E S x ln rn ns) {lf rf : Nat} {fs : List Nat} (hf : crF E S x lf rf fs) (d1 : lf ≠ ln) (d2 : rf ≠ rn ∨ rf = E.sa 0 ∧ fs = []) {t ha ta n9 : Nat} (ht : crT S x t ha ta n9) : Ctr l yX4_clear (Cond.code yX4_clear cX4_clear 1 none) 2 0 0 E [.ref x] X S (Clr E X S x t ln rn lf rf) := by
  refine Ctr.ofG (by decide) [(0, .ref x)] rfl (Nat.le_of_ble_eq_true rfl) ?_
  intro p e s m args below meth c A Q C hQ
  refine g_aload_n C 0 dX4_clear_0 rfl rfl ?_
  refine g_get (v := .ref ln) C 0 ho.1.1 (pF_4 ho.1.2) rfl (by decide) in_X4 lk_X4_10 rfl (congrArg (fun z => some (va_rf z)) ho.2.1) dX4_clear_1 ?_
  refine g_callV C [] [] (c_alClear l E X S ho.2.2.1) (recv_at ho.2.2.1.1.1 (pF_5 ho.2.2.1.1.2)) rfl cm_Jx4a65c_clear_da8c8 wv_X4_170 ds_Jx4a65c_clear_da8c8 rfl rfl (Nat.le_of_ble_eq_true rfl) (by decide) (by decide) dX4_clear_4 ?_
  rintro v9 X2 S1 ⟨rfl, rfl, r1, A1, f1, h1⟩
  have c1 : crF E S1 x lf rf fs := hf.frame f1 d1 d2
  refine g_aload_n C 0 dX4_clear_7 rfl rfl ?_
  refine g_get (v := .ref lf) C 1 c1.1.1 (pF_4 c1.1.2) rfl (by decide) in_X4 lk_X4_16 rfl (congrArg (fun z => some (va_rf z)) c1.2.1) dX4_clear_8 ?_
  refine g_callV C [] [] (c_alClear l E X S1 c1.2.2.1) (recv_at c1.2.2.1.1.1 (pF_5 c1.2.2.1.1.2)) rfl cm_Jx4a65c_clear_da8c8 wv_X4_170 ds_Jx4a65c_clear_da8c8 rfl rfl (Nat.le_of_ble_eq_true rfl) (by decide) (by decide) dX4_clear_11 ?_
  rintro v9 X2 S3 ⟨rfl, rfl, r3, A3, f3, h3⟩
  have kx3 : isK S3 4 x := f3.K c1.1
  have kt3 : isK S3 3 t := f3.K (f1.K ht.2.2.1)
  have pt3 : S3.P 8 x = some t := ((f3.2.2.2.2.1 8 x c1.1.1 (Or.inr (by decide))).trans (f1.2.2.2.2.1 8 x ho.1.1 (Or.inr (by decide)))).trans ht.2.1
  refine g_aload_n C 0 dX4_clear_14 rfl rfl ?_
  refine g_get (v := .ref t) C 2 kx3.1 (pF_4 kx3.2) rfl (by decide) in_X4 lk_X4_22 rfl (congrArg (fun z => some (va_rf z)) pt3) dX4_clear_15 ?_
  refine g_iconst C 0 dX4_clear_18 (by decide) ?_
  refine g_ni (fun z1 hz1 => ?_)
  refine pt_I10 C ⟨kt3.1, kt3.2⟩ lk_X4_116 dX4_clear_19 (fun G1 hG1 => ?_)
  have kG1_0 : isK G1 4 x := sI_K hG1 ⟨kx3.1, kx3.2⟩
  have fG1_0_2 : G1.P 8 x = some t := (congrFun (congrFun (sI_of hG1).2.2.2 _) _).trans pt3
  have kG1_1 : isK G1 3 t := sI_K hG1 ⟨kt3.1, kt3.2⟩
  refine g_aload_n C 0 dX4_clear_22 rfl rfl ?_
  refine g_iconst C 0 dX4_clear_23 (by decide) ?_
  refine g_ni (fun z2 hz2 => ?_)
  refine pt_I11 C ⟨kG1_0.1, kG1_0.2⟩ lk_X4_30 dX4_clear_24 (fun G2 hG2 => ?_)
  have kG2_0 : isK G2 4 x := sI_K hG2 ⟨kG1_0.1, kG1_0.2⟩
  have fG2_0_2 : G2.P 8 x = some t := (congrFun (congrFun (sI_of hG2).2.2.2 _) _).trans fG1_0_2
  have kG2_1 : isK G2 3 t := sI_K hG2 ⟨kG1_1.1, kG1_1.2⟩
  refine g_aload_n C 0 dX4_clear_27 rfl rfl ?_
  refine g_iconst C 4 dX4_clear_28 (by decide) ?_
  refine g_ni (fun z3 hz3 => ?_)
  refine pt_I12 C ⟨kG2_0.1, kG2_0.2⟩ lk_X4_34 dX4_clear_29 (fun G3 hG3 => ?_)
  have kG3_0 : isK G3 4 x := sI_K hG3 ⟨kG2_0.1, kG2_0.2⟩
  have fG3_0_2 : G3.P 8 x = some t := (congrFun (congrFun (sI_of hG3).2.2.2 _) _).trans fG2_0_2
  have kG3_1 : isK G3 3 t := sI_K hG3 ⟨kG2_1.1, kG2_1.2⟩
  refine g_aload_n C 0 dX4_clear_32 rfl rfl ?_
  refine g_iconst C 0 dX4_clear_33 (by decide) ?_
  refine g_ni (fun z4 hz4 => ?_)
  refine pt_I13 C ⟨kG3_0.1, kG3_0.2⟩ lk_X4_37 dX4_clear_34 (fun G4 hG4 => ?_)
  have kG4_0 : isK G4 4 x := sI_K hG4 ⟨kG3_0.1, kG3_0.2⟩
  have fG4_0_2 : G4.P 8 x = some t := (congrFun (congrFun (sI_of hG4).2.2.2 _) _).trans fG3_0_2
  have kG4_1 : isK G4 3 t := sI_K hG4 ⟨kG3_1.1, kG3_1.2⟩
  refine g_aload_n C 0 dX4_clear_37 rfl rfl ?_
  refine g_iconst C 0 dX4_clear_38 (by decide) ?_
  refine g_ni (fun z5 hz5 => ?_)
  refine pt_I14 C ⟨kG4_0.1, kG4_0.2⟩ lk_X4_40 dX4_clear_39 (fun G5 hG5 => ?_)
  have kG5_0 : isK G5 4 x := sI_K hG5 ⟨kG4_0.1, kG4_0.2⟩
  have fG5_0_2 : G5.P 8 x = some t := (congrFun (congrFun (sI_of hG5).2.2.2 _) _).trans fG4_0_2
  have kG5_1 : isK G5 3 t := sI_K hG5 ⟨kG4_1.1, kG4_1.2⟩
  refine g_aload_n C 0 dX4_clear_42 rfl rfl ?_
  refine g_iconst C 0 dX4_clear_43 (by decide) ?_
  refine g_ni (fun z6 hz6 => ?_)
  refine pt_I15 C ⟨kG5_0.1, kG5_0.2⟩ lk_X4_43 dX4_clear_44 (fun G6 hG6 => ?_)
  have kG6_0 : isK G6 4 x := sI_K hG6 ⟨kG5_0.1, kG5_0.2⟩
  have fG6_0_2 : G6.P 8 x = some t := (congrFun (congrFun (sI_of hG6).2.2.2 _) _).trans fG5_0_2
  have kG6_1 : isK G6 3 t := sI_K hG6 ⟨kG5_1.1, kG5_1.2⟩
  exact g_vret C hQ rfl dX4_clear_47 (by decide) (by decide) ⟨rfl, rfl, S1, S3, ⟨rfl, rfl, r1, A1, f1, h1⟩, ⟨rfl, rfl, r3, A3, f3, h3⟩, by rw [← hG6, ← hG5, ← hG4, ← hG3, ← hG2, ← hG1, hz1, hz2, hz3, hz4, hz5, hz6]; rfl⟩
