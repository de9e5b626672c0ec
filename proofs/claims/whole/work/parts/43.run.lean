theorem mkL_sh (vs : Nat → List Nat) (kp : Int32) : ∀ (l : List Nat) (S : HS) (c : Int32), Sh S (mkL vs kp l S c).1
  | [], S, c => Sh.rf
  | a :: l, S, c => by
    unfold mkL
    by_cases h : SDa S a kp (vs a) true = S.I 6 a
    · rw [if_pos h]; exact mkL_sh vs kp l S c
    · rw [if_neg h]; exact (Sh.rf.sI rfl).trans (mkL_sh vs kp l _ _)
theorem mkL_I (vs : Nat → List Nat) (kp : Int32) (k : Nat) (h6 : k ≠ 6) : ∀ (l : List Nat) (S : HS) (c : Int32), (mkL vs kp l S c).1.I k = S.I k
  | [], S, c => rfl
  | a :: l, S, c => by
    unfold mkL
    by_cases h : SDa S a kp (vs a) true = S.I 6 a
    · rw [if_pos h]; exact mkL_I vs kp k h6 l S c
    · rw [if_neg h]; exact (mkL_I vs kp k h6 l _ _).trans (funext fun b => u2_ne1 h6)
/-- what is added at first -/
def inL (vs : Nat → List Nat) (kp : Int32) (wd : Bool) : List Nat → HS → HS
  | [], S => S
  | a :: l, S => inL vs kp wd l (S.sI 6 a (if wd = true then SDa S a kp (vs a) false else 0))
theorem inL_sh (vs : Nat → List Nat) (kp : Int32) (wd : Bool) : ∀ (l : List Nat) (S : HS), Sh S (inL vs kp wd l S)
  | [], S => Sh.rf
  | a :: l, S => (Sh.rf.sI rfl).trans (inL_sh vs kp wd l _)
theorem inL_I (vs : Nat → List Nat) (kp : Int32) (wd : Bool) (k : Nat) (h6 : k ≠ 6) : ∀ (l : List Nat) (S : HS), (inL vs kp wd l S).I k = S.I k
  | [], S => rfl
  | a :: l, S => (inL_I vs kp wd k h6 l _).trans (funext fun b => u2_ne1 h6)
/-- a round: the spans, then what is added -/
def mkR (vs ss : Nat → List Nat) (ns fs : List Nat) (x : Nat) (S : HS) : HS × Int32 := mkL vs (S.I 12 x) ns (wSp ss fs S) 0
/-- so many rounds at most, from round rm on -/
def rnL (vs ss : Nat → List Nat) (ns fs : List Nat) (x cg : Nat) : Nat → Nat → HS → HS × Nat
  | 0, rm, S => (S, rm)
  | k + 1, rm, S => if (mkR vs ss ns fs x S).2 = 0 then ((((mkR vs ss ns fs x S).1.sR cg rm (mkR vs ss ns fs x S).2).sI 11 x (nI (rm + 1))), rm + 1) else rnL vs ss ns fs x cg k (rm + 1) (((mkR vs ss ns fs x S).1.sR cg rm (mkR vs ss ns fs x S).2).sI 11 x (nI (rm + 1)))
theorem mkR_sh {vs ss : Nat → List Nat} {ns fs : List Nat} {x : Nat} {S : HS} : Sh S (mkR vs ss ns fs x S).1 := (wSp_sh ss fs S).trans (mkL_sh vs _ ns _ 0)
theorem mkR_I {vs ss : Nat → List Nat} {ns fs : List Nat} {x : Nat} {S : HS} {k : Nat} (h4 : k ≠ 4) (h5 : k ≠ 5) (h6 : k ≠ 6) : (mkR vs ss ns fs x S).1.I k = S.I k := (mkL_I vs _ k h6 ns _ 0).trans (wSp_I ss k h4 h5 fs S)
set_option maxRecDepth 100000 in
theorem c_run (l : Launch) (E : Ev) (X : va_W) (S : HS) {x ln rn : Nat} {ns : List Nat} (ho : crO E S x ln rn ns) {lf rf : Nat} {fs : List Nat} (hf : crF E S x lf rf fs) {ls rs : Nat → Nat} {ss : Nat → List Nat} (hs : ∀ a ∈ fs, stl E S a (ls a) (rs a) (ss a)) {lc rc : Nat → Nat} {vs : Nat → List Nat} (hc : ∀ a ∈ ns, cpl E S a (lc a) (rc a) (vs a)) {cg rm0 : Nat} (hg : crC S x cg rm0) {rr : Nat} (hr1 : 1 ≤ rr) (hr50 : rr ≤ 50) (wd : Bool) : Ctr l yX4_run (Cond.code yX4_run cX4_run 5 (some .int)) 7 0 0 E [.ref x, .int (nI rr), .int (bI wd)] X S (fun v X2 S2 => some (.int (nI (rnL vs ss ns fs x cg rr 0 ((inL vs (S.I 12 x) wd ns S).sI 11 x (nI 0))).2)) = v ∧ X = X2 ∧ wSp ss fs (rnL vs ss ns fs x cg rr 0 ((inL vs (S.I 12 x) wd ns S).sI 11 x (nI 0))).1 = S2) := by
  refine Ctr.ofG (by decide) [(0, .ref x), (1, .int (nI rr)), (2, .int (bI wd))] rfl (Nat.le_of_ble_eq_true rfl) ?_
  intro p e s m args below meth c A Q C hQ
  refine g_iload_n C 1 dX4_run_0 rfl rfl ?_
  refine g_iconst C 1 dX4_run_1 (by decide) ?_
  refine g_bipush C 50 dX4_run_2 (by decide) ?_
  refine g_callS C [.int (nI rr), .int 1, .int 50] [] (c_rw l E X S (nI_nlt (a := rr) (b := 1) hr1 (by omega)) (nI_le (a := rr) (b := 50) hr50 (by decide))) cm_X4_requireWithin wst_X4_47 dt_X4_requireWithin rfl rfl (Nat.le_of_ble_eq_true rfl) (by decide) (by decide) dX4_run_4 ?_
  rintro v9 X2 S2 ⟨rfl, rfl, rfl⟩
  refine g_iconst C 0 dX4_run_7 (by decide) ?_
  refine g_istore_n C [(3, .int 0), (0, .ref x), (1, .int (nI rr)), (2, .int (bI wd))] dX4_run_8 rfl (by decide) rfl ?_
  have hlen := ho.2.2.1.2.2.2.1
  have hgN := hg.2.2.2.1
  have loop2 : ∀ (k rm : Nat) (S1 : HS) (F : HS × Nat) (st9 : Bool), rm + k = rr → Sh S S1 → S1.I 12 x = S.I 12 x → S1.I 11 x = nI rm → (st9 = true → F = (S1, rm)) → (st9 = false → rnL vs ss ns fs x cg k rm S1 = F) → wSp ss fs F.1 = wSp ss fs (rnL vs ss ns fs x cg rr 0 ((inL vs (S.I 12 x) wd ns S).sI 11 x (nI 0))).1 → F.2 = (rnL vs ss ns fs x cg rr 0 ((inL vs (S.I 12 x) wd ns S).sI 11 x (nI 0))).2 → GW p l e (rml 7 0 0) s m args below meth c E 5 A Q X S1 0 0 68 [(3, .int (bI st9)), (0, .ref x), (1, .int (nI rr))] [] := by
    intro k
    induction k with
    | zero =>
      intro rm S1 F st9 hrm hSh hk12 hk11 ht hF hF1 hF2
      have hx1 : isK S1 4 x := hSh.K ho.1
      have hcg : S1.P 9 x = some cg := by rw [hSh.2.2.1]; exact hg.2.1
      have hFe : F = (S1, rm) := by cases st9 with | true => exact ht rfl | false => exact (hF rfl).symm
      refine g_aload_n C 1 dX4_run_68 rfl rfl ?_
      refine g_get (v := .int (nI rm)) C 4 hx1.1 (pF_4 hx1.2) rfl (by decide) in_X4 lk_X4_30 rfl (congrArg (fun z => some (Value.int z)) hk11) dX4_run_69 ?_
      refine g_iload_n C 2 dX4_run_72 rfl rfl ?_
      refine g_icmp_ge C 121 dX4_run_73 (by decide) (fun h73 => ?_) (fun h73 => ?_)
      · refine g_aload_n C 1 dX4_run_121 rfl rfl ?_
        refine g_callV C [] [] (c_workOutSpans l E X S1 (hSh.crF' hf) (fun a ha => hSh.stlO (hs a ha))) (recv_at hx1.1 (pF_4 hx1.2)) rfl cm_X4_workOutSpans wv_X4_136 ds_X4_workOutSpans rfl rfl (Nat.le_of_ble_eq_true rfl) (by decide) (by decide) dX4_run_122 ?_
        rintro v9 X2 S2 ⟨rfl, rfl, hS2⟩
        have h11 : S2.I 11 x = nI rm := by rw [← hS2, wSp_I ss 11 (by decide) (by decide)]; exact hk11
        have hx2 : isK S2 4 x := by rw [← hS2]; exact (wSp_sh ss fs S1).K hx1
        refine g_aload_n C 1 dX4_run_125 rfl rfl ?_
        refine g_get (v := .int (nI rm)) C 4 hx2.1 (pF_4 hx2.2) rfl (by decide) in_X4 lk_X4_30 rfl (congrArg (fun z => some (Value.int z)) h11) dX4_run_126 ?_
        exact g_iret C hQ rfl rfl dX4_run_129 (by decide) (by decide) ⟨sv (by rw [← hF2, hFe]), rfl, by rw [← hF1, hFe]; exact hS2⟩
      · exact absurd (nI_le (show rr ≤ rm by omega) (by omega)) h73
    | succ k ih =>
      intro rm S1 F st9 hrm hSh hk12 hk11 ht hF hF1 hF2
      have hx1 : isK S1 4 x := hSh.K ho.1
      have hcg : S1.P 9 x = some cg := by rw [hSh.2.2.1]; exact hg.2.1
      refine g_aload_n C 1 dX4_run_68 rfl rfl ?_
      refine g_get (v := .int (nI rm)) C 4 hx1.1 (pF_4 hx1.2) rfl (by decide) in_X4 lk_X4_30 rfl (congrArg (fun z => some (Value.int z)) hk11) dX4_run_69 ?_
      refine g_iload_n C 2 dX4_run_72 rfl rfl ?_
      refine g_icmp_ge C 121 dX4_run_73 (by decide) (fun h73 => ?_) (fun h73 => ?_)
      · have hFe : F = (S1, rm) := by
          first
          | exact absurd ((nI_leI (by omega) (by omega)).mp h73) (by omega)
          | exact ht (bI_1 h77)
        refine g_aload_n C 1 dX4_run_121 rfl rfl ?_
        refine g_callV C [] [] (c_workOutSpans l E X S1 (hSh.crF' hf) (fun a ha => hSh.stlO (hs a ha))) (recv_at hx1.1 (pF_4 hx1.2)) rfl cm_X4_workOutSpans wv_X4_136 ds_X4_workOutSpans rfl rfl (Nat.le_of_ble_eq_true rfl) (by decide) (by decide) dX4_run_122 ?_
        rintro v9 X2 S2 ⟨rfl, rfl, hS2⟩
        have h11 : S2.I 11 x = nI rm := by rw [← hS2, wSp_I ss 11 (by decide) (by decide)]; exact hk11
        have hx2 : isK S2 4 x := by rw [← hS2]; exact (wSp_sh ss fs S1).K hx1
        refine g_aload_n C 1 dX4_run_125 rfl rfl ?_
        refine g_get (v := .int (nI rm)) C 4 hx2.1 (pF_4 hx2.2) rfl (by decide) in_X4 lk_X4_30 rfl (congrArg (fun z => some (Value.int z)) h11) dX4_run_126 ?_
        exact g_iret C hQ rfl rfl dX4_run_129 (by decide) (by decide) ⟨sv (by rw [← hF2, hFe]), rfl, by rw [← hF1, hFe]; exact hS2⟩
      · refine g_iload_n C 0 dX4_run_76 rfl rfl ?_
        refine g_if_ne C 121 dX4_run_77 (by decide) (fun h77 => ?_) (fun h77 => ?_)
        · have hFe : F = (S1, rm) := by
            first
            | exact absurd ((nI_leI (by omega) (by omega)).mp h73) (by omega)
            | exact ht (bI_1 h77)
          refine g_aload_n C 1 dX4_run_121 rfl rfl ?_
          refine g_callV C [] [] (c_workOutSpans l E X S1 (hSh.crF' hf) (fun a ha => hSh.stlO (hs a ha))) (recv_at hx1.1 (pF_4 hx1.2)) rfl cm_X4_workOutSpans wv_X4_136 ds_X4_workOutSpans rfl rfl (Nat.le_of_ble_eq_true rfl) (by decide) (by decide) dX4_run_122 ?_
          rintro v9 X2 S2 ⟨rfl, rfl, hS2⟩
          have h11 : S2.I 11 x = nI rm := by rw [← hS2, wSp_I ss 11 (by decide) (by decide)]; exact hk11
          have hx2 : isK S2 4 x := by rw [← hS2]; exact (wSp_sh ss fs S1).K hx1
          refine g_aload_n C 1 dX4_run_125 rfl rfl ?_
          refine g_get (v := .int (nI rm)) C 4 hx2.1 (pF_4 hx2.2) rfl (by decide) in_X4 lk_X4_30 rfl (congrArg (fun z => some (Value.int z)) h11) dX4_run_126 ?_
          exact g_iret C hQ rfl rfl dX4_run_129 (by decide) (by decide) ⟨sv (by rw [← hF2, hFe]), rfl, by rw [← hF1, hFe]; exact hS2⟩
        · refine g_aload_n C 1 dX4_run_80 rfl rfl ?_
          have hst : st9 = false := bI_0 h77
          have hR := hF hst
          rw [rnL] at hR
          refine g_callV C [] [] (c_makeRound l E X S1 (hSh.crO' ho) (hSh.crF' hf) (fun a ha => hSh.stlO (hs a ha)) (fun a ha => hSh.cplO (hc a ha))) (recv_at hx1.1 (pF_4 hx1.2)) rfl cm_X4_makeRound wv_X4_133 ds_X4_makeRound rfl rfl (Nat.le_of_ble_eq_true rfl) (by decide) (by decide) dX4_run_81 ?_
          rintro v9 X2 S2 ⟨rfl, rfl, hS2⟩
          show GW _ _ _ _ _ _ _ _ _ _ _ _ _ _ _ _ _ _ _ _ (.int (mkR vs ss ns fs x S1).2 :: _)
          replace hS2 : (mkR vs ss ns fs x S1).1 = S2 := hS2
          rw [hS2] at hR
          generalize hcn : (mkR vs ss ns fs x S1).2 = cn at hR
          have hSh2 : Sh S S2 := by rw [← hS2]; exact hSh.trans mkR_sh
          have g11 : S2.I 11 x = nI rm := by rw [← hS2, mkR_I (by decide) (by decide) (by decide)]; exact hk11
          have g12 : S2.I 12 x = S.I 12 x := by rw [← hS2, mkR_I (by decide) (by decide) (by decide)]; exact hk12
          have hx2 : isK S2 4 x := hSh2.K ho.1
          have hcg2 : S2.P 9 x = some cg := by rw [hSh2.2.2.1]; exact hg.2.1
          have hkc : isK S2 6 cg := hSh2.K hg.2.2.1
          have hNc : S2.N cg = 50 := by rw [hSh2.2.2.2.1]; exact hgN
          refine g_istore C [(4, .int cn), (3, .int (bI st9)), (0, .ref x), (1, .int (nI rr))] dX4_run_84 (by decide) rfl ?_
          refine g_aload_n C 2 dX4_run_86 rfl rfl ?_
          refine g_get (v := .ref cg) C 3 hx2.1 (pF_4 hx2.2) rfl (by decide) in_X4 lk_X4_26 rfl (congrArg (fun z => some (va_rf z)) hcg2) dX4_run_87 ?_
          refine g_aload_n C 2 dX4_run_90 rfl rfl ?_
          refine g_get (v := .int (nI rm)) C 4 hx2.1 (pF_4 hx2.2) rfl (by decide) in_X4 lk_X4_30 rfl (congrArg (fun z => some (Value.int z)) g11) dX4_run_91 ?_
          refine g_iload C 0 dX4_run_94 rfl ?_
          refine g_iast C hkc.1 hkc.2 (by rw [hNc]; exact vp_in_nI (by omega) (by decide)) dX4_run_96 ?_
          rw [nI_clamp (by omega)]
          refine g_aload_n C 2 dX4_run_97 rfl rfl ?_
          refine g_dup C dX4_run_98 rfl ?_
          refine g_get (v := .int (nI rm)) C 4 hx2.1 (pF_4 hx2.2) rfl (by decide) in_X4 lk_X4_30 rfl (congrArg (fun z => some (Value.int z)) g11) dX4_run_99 ?_
          refine g_iconst C 1 dX4_run_102 (by decide) ?_
          refine g_iadd C dX4_run_103 ?_
          rw [nI_1]
          refine g_put (ty := .int) (S2 := ((S2.sR cg rm cn).sI 11 x (nI (rm + 1)))) C 4 hx2.1 (pF_4 hx2.2) rfl (by decide) in_X4 tyX4_ok nmX4 lk_X4_30 rfl rfl (by decide +kernel) rfl rfl (Nat.le_of_ble_eq_true rfl) rfl (pu_I11 (S := (S2.sR cg rm cn)) hx2.2 (nI (rm + 1))) dX4_run_104 ?_
          refine g_iload C 0 dX4_run_107 rfl ?_
          refine g_if_ne C 116 dX4_run_109 (by decide) (fun h109 => ?_) (fun h109 => ?_)
          · refine g_iconst C 0 dX4_run_116 (by decide) ?_
            refine g_istore_n C [(3, .int 0), (4, .int cn), (0, .ref x), (1, .int (nI rr))] dX4_run_117 rfl (by decide) rfl ?_
            refine g_goto C 68 dX4_run_118 (by decide) ?_
            refine g_locs (lv2 := [(3, .int 0), (0, .ref x), (1, .int (nI rr))]) [0, 2, 3] rfl ?_
            rw [if_neg h109] at hR
            exact ih (rm + 1) _ F false (by omega) (hSh2.sR.sI rfl) ((sI_ne (by decide)).trans g12) u2_self (fun q => by cases q) (fun _ => hR) hF1 hF2
          · refine g_iconst C 1 dX4_run_112 (by decide) ?_
            refine g_goto C 117 dX4_run_113 (by decide) ?_
            refine g_istore_n C [(3, .int 1), (4, .int cn), (0, .ref x), (1, .int (nI rr))] dX4_run_117 rfl (by decide) rfl ?_
            refine g_goto C 68 dX4_run_118 (by decide) ?_
            refine g_locs (lv2 := [(3, .int 1), (0, .ref x), (1, .int (nI rr))]) [0, 2, 3] rfl ?_
            rw [if_pos h109] at hR
            exact ih (rm + 1) _ F true (by omega) (hSh2.sR.sI rfl) ((sI_ne (by decide)).trans g12) u2_self (fun _ => hR.symm) (fun q => by cases q) hF1 hF2
  have loop : ∀ (n i : Nat) (S1 : HS), i + n = ns.length → Sh S S1 → S1.I 12 x = S.I 12 x → inL vs (S.I 12 x) wd (ns.drop i) S1 = inL vs (S.I 12 x) wd ns S → GW p l e (rml 7 0 0) s m args below meth c E 5 A Q X S1 0 0 9 [(3, .int (nI i)), (0, .ref x), (1, .int (nI rr)), (2, .int (bI wd))] [] := by
    intro n
    induction n with
    | zero =>
      intro i S1 hin hSh hk12 hF
      have hf1 := hSh.crO' ho
      rw [List.drop_eq_nil_of_le (by omega)] at hF
      refine g_iload_n C 0 dX4_run_9 rfl rfl ?_
      refine g_aload_n C 1 dX4_run_10 rfl rfl ?_
      refine g_get (v := .ref ln) C 0 hf1.1.1 (pF_4 hf1.1.2) rfl (by decide) in_X4 lk_X4_10 rfl (congrArg (fun z => some (va_rf z)) hf1.2.1) dX4_run_11 ?_
      refine g_callV C [] [.int (nI i)] (c_size l E X S1 hf1.2.2.1) (recv_at hf1.2.2.1.1.1 (pF_5 hf1.2.2.1.1.2)) rfl cm_Jx4a65c_size_8abf5 wv_X4_51 ds_Jx4a65c_size_8abf5 rfl rfl (Nat.le_of_ble_eq_true rfl) (by decide) (by decide) dX4_run_14 ?_
      rintro v9 X2 S2 ⟨rfl, rfl, rfl⟩
      refine g_icmp_ge C 61 dX4_run_17 (by decide) (fun h17 => ?_) (fun h17 => ?_)
      · refine g_aload_n C 1 dX4_run_61 rfl rfl ?_
        refine g_iconst C 0 dX4_run_62 (by decide) ?_
        refine g_put (ty := .int) (S2 := (S1.sI 11 x 0)) C 4 hf1.1.1 (pF_4 hf1.1.2) rfl (by decide) in_X4 tyX4_ok nmX4 lk_X4_30 rfl rfl (by decide +kernel) rfl rfl (Nat.le_of_ble_eq_true rfl) rfl (pu_I11 (S := S1) hf1.1.2 0) dX4_run_63 ?_
        refine g_iconst C 0 dX4_run_66 (by decide) ?_
        refine g_istore_n C [(3, .int 0), (0, .ref x), (1, .int (nI rr)), (2, .int (bI wd))] dX4_run_67 rfl (by decide) rfl ?_
        refine g_locs (lv2 := [(3, .int 0), (0, .ref x), (1, .int (nI rr))]) [0, 1, 2] rfl ?_
        exact loop2 rr 0 _ _ false (by omega) (hSh.sI rfl) ((sI_ne (by decide)).trans hk12) u2_self (fun q => by cases q) (fun _ => rfl) (by rw [show S1 = inL vs (S.I 12 x) wd ns S from hF]; rfl) (by rw [show S1 = inL vs (S.I 12 x) wd ns S from hF]; rfl)
      · exact absurd (nI_le (show ns.length ≤ i by omega) (by omega)) h17
    | succ n ih =>
      intro i S1 hin hSh hk12 hF
      have hf1 := hSh.crO' ho
      have hi : i < ns.length := by omega
      obtain ⟨a, hv⟩ : ∃ a, a = ns[i] := ⟨_, rfl⟩
      have ham : a ∈ ns := by rw [hv]; exact List.getElem_mem hi
      have hka : isK S1 0 a := hSh.K (ho.2.2.2 a ham)
      have hdr : ns.drop i = a :: ns.drop (i + 1) := by rw [hv]; exact List.drop_eq_getElem_cons hi
      rw [hdr, inL] at hF
      refine g_iload_n C 0 dX4_run_9 rfl rfl ?_
      refine g_aload_n C 1 dX4_run_10 rfl rfl ?_
      refine g_get (v := .ref ln) C 0 hf1.1.1 (pF_4 hf1.1.2) rfl (by decide) in_X4 lk_X4_10 rfl (congrArg (fun z => some (va_rf z)) hf1.2.1) dX4_run_11 ?_
      refine g_callV C [] [.int (nI i)] (c_size l E X S1 hf1.2.2.1) (recv_at hf1.2.2.1.1.1 (pF_5 hf1.2.2.1.1.2)) rfl cm_Jx4a65c_size_8abf5 wv_X4_51 ds_Jx4a65c_size_8abf5 rfl rfl (Nat.le_of_ble_eq_true rfl) (by decide) (by decide) dX4_run_14 ?_
      rintro v9 X2 S2 ⟨rfl, rfl, rfl⟩
      refine g_icmp_ge C 61 dX4_run_17 (by decide) (fun h17 => ?_) (fun h17 => ?_)
      · exact absurd ((nI_leI (by omega) (by omega)).mp h17) (by omega)
      · refine g_aload_n C 1 dX4_run_20 rfl rfl ?_
        refine g_get (v := .ref ln) C 0 hf1.1.1 (pF_4 hf1.1.2) rfl (by decide) in_X4 lk_X4_10 rfl (congrArg (fun z => some (va_rf z)) hf1.2.1) dX4_run_21 ?_
        refine g_iload_n C 0 dX4_run_24 rfl rfl ?_
        refine g_callV C [.int (nI i)] [] (c_get l E X S1 hf1.2.2.1 hi) (recv_at hf1.2.2.1.1.1 (pF_5 hf1.2.2.1.1.2)) rfl cm_Jx4a65c_get_915e3 wv_X4_122 ds_Jx4a65c_get_915e3 rfl rfl (Nat.le_of_ble_eq_true rfl) (by decide) (by decide) dX4_run_25 ?_
        rintro v9 X2 S2 ⟨rfl, rfl, rfl⟩
        show GW _ _ _ _ _ _ _ _ _ _ _ _ _ _ _ _ _ _ _ _ (.ref ns[i] :: _)
        rw [← hv]
        refine g_cast C hka.1 (pF_0 hka.2) rfl kl_X4_59 dX4_run_28 ?_
        refine g_astore C [(4, .ref a), (3, .int (nI i)), (0, .ref x), (1, .int (nI rr)), (2, .int (bI wd))] dX4_run_31 (by decide) rfl ?_
        refine g_aload C 0 dX4_run_33 rfl ?_
        refine g_iload_n C 4 dX4_run_35 rfl rfl ?_
        refine g_if_eq C 51 dX4_run_36 (by decide) (fun h36 => ?_) (fun h36 => ?_)
        · refine g_iconst C 0 dX4_run_51 (by decide) ?_
          refine g_put (ty := .int) (S2 := (S1.sI 6 a 0)) C 10 hka.1 (pF_0 hka.2) rfl (by decide) in_X0 tyX0_ok nmX0 lk_X4_130 rfl rfl (by decide +kernel) rfl rfl (Nat.le_of_ble_eq_true rfl) rfl (pu_I6 (S := S1) hka.2 0) dX4_run_52 ?_
          refine g_iinc C (nI (i + 1)) 1 [(3, .int (nI (i + 1))), (4, .ref a), (0, .ref x), (1, .int (nI rr)), (2, .int (bI wd))] dX4_run_55 rfl (nI_1 i) (by decide) rfl ?_
          refine g_goto C 9 dX4_run_58 (by decide) ?_
          refine g_locs (lv2 := [(3, .int (nI (i + 1))), (0, .ref x), (1, .int (nI rr)), (2, .int (bI wd))]) [0, 2, 3, 4] rfl ?_
          exact ih (i + 1) _ (by omega) (hSh.sI rfl) ((sI_ne (by decide)).trans hk12) (by rw [if_neg (by rw [bI_0 h36]; decide)] at hF; exact hF)
        · refine g_aload C 0 dX4_run_39 rfl ?_
          refine g_aload_n C 2 dX4_run_41 rfl rfl ?_
          refine g_get (v := .int (S.I 12 x)) C 5 hf1.1.1 (pF_4 hf1.1.2) rfl (by decide) in_X4 lk_X4_34 rfl (congrArg (fun z => some (Value.int z)) hk12) dX4_run_42 ?_
          refine g_callV C [.int (S.I 12 x)] [.ref a] (c_delayByAllSources l E X S1 (hSh.cplO (hc a ham)) (S.I 12 x)) (recv_at hka.1 (pF_0 hka.2)) rfl cm_X0_delayByAllSources wv_X4_126 ds_X0_delayByAllSources rfl rfl (Nat.le_of_ble_eq_true rfl) (by decide) (by decide) dX4_run_45 ?_
          rintro v9 X2 S2 ⟨rfl, rfl, rfl⟩
          refine g_goto C 52 dX4_run_48 (by decide) ?_
          refine g_put (ty := .int) (S2 := (S1.sI 6 a (SDa S1 a (S.I 12 x) (vs a) false))) C 10 hka.1 (pF_0 hka.2) rfl (by decide) in_X0 tyX0_ok nmX0 lk_X4_130 rfl rfl (by decide +kernel) rfl rfl (Nat.le_of_ble_eq_true rfl) rfl (pu_I6 (S := S1) hka.2 (SDa S1 a (S.I 12 x) (vs a) false)) dX4_run_52 ?_
          refine g_iinc C (nI (i + 1)) 1 [(3, .int (nI (i + 1))), (4, .ref a), (0, .ref x), (1, .int (nI rr)), (2, .int (bI wd))] dX4_run_55 rfl (nI_1 i) (by decide) rfl ?_
          refine g_goto C 9 dX4_run_58 (by decide) ?_
          refine g_locs (lv2 := [(3, .int (nI (i + 1))), (0, .ref x), (1, .int (nI rr)), (2, .int (bI wd))]) [0, 2, 3, 4] rfl ?_
          exact ih (i + 1) _ (by omega) (hSh.sI rfl) ((sI_ne (by decide)).trans hk12) (by rw [if_pos (bI_1 h36)] at hF; exact hF)
  exact loop ns.length 0 S (by omega) Sh.rf rfl rfl
set_option maxRecDepth 100000 in
theorem c_runT (l : Launch) (hlt : l.stackTraces = false) (E : Ev) (X : va_W) (S : HS) {x : Nat} {z y : Int32} (h : z < 1 ∨ ¬ z ≤ 50) : CtrT l yX4_run (Cond.code yX4_run cX4_run 5 (some .int)) 7 1 6 E [.ref x, .int z, .int y] X S xIA := by
  refine CtrX.ofG (by decide) [(0, .ref x), (1, .int z), (2, .int y)] rfl (Nat.le_of_ble_eq_true rfl) ?_
  intro p e s m args below meth c A C htb
  refine g_iload_n C 1 dX4_run_0 rfl rfl ?_
  refine g_iconst C 1 dX4_run_1 (by decide) ?_
  refine g_bipush C 50 dX4_run_2 (by decide) ?_
  exact g_outS C htb [.int z, .int 1, .int 50] [] (c_rwT l hlt E X S h) cm_X4_requireWithin wst_X4_47 dt_X4_requireWithin rfl rfl (Nat.le_of_ble_eq_true rfl) (by decide) (by decide) dX4_run_4 (by decide) rfl
