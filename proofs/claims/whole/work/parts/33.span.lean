/-- the net that a stage comes from -/
def fr (S : HS) (v : Nat) : Nat := (S.P 3 v).getD 0
def stgOK (S : HS) (v : Nat) : Prop := isK S 2 v ∧ S.P 3 v = some (fr S v) ∧ isK S 0 (fr S v)
/-- the stages that lead to the net a: the list at ls, its row at rs, holds ss -/
def stl (E : Ev) (S : HS) (a ls rs : Nat) (ss : List Nat) : Prop := isK S 0 a ∧ S.P 1 a = some ls ∧ isAL E S ls rs ss ∧ ∀ v ∈ ss, stgOK S v
def lof (S : HS) : List Nat → Int32 → Int32
  | [], m => m
  | v :: ss, m => lof S ss (if S.I 4 (fr S v) + S.I 9 v < m then S.I 4 (fr S v) + S.I 9 v else m)
def hif (S : HS) : List Nat → Int32 → Int32
  | [], m => m
  | v :: ss, m => hif S ss (if m < S.I 5 (fr S v) + S.I 9 v then S.I 5 (fr S v) + S.I 9 v else m)
def nof (S : HS) (hs ts : Nat → Int32) (n : Nat) : List Nat → Int32 → Int32
  | [], m => m
  | v :: ss, m => nof S hs ts n ss (if m < thrF hs ts n (S.I 7 (fr S v)) then thrF hs ts n (S.I 7 (fr S v)) else m)
def spB (S : HS) (a : Nat) (ss : List Nat) : Int32 := if ss.length = 0 then S.I 1 a else lof S ss 2147483647
def spE (S : HS) (a : Nat) (ss : List Nat) : Int32 := (if ss.length = 0 then S.I 2 a else hif S ss 0) + S.I 6 a
set_option maxRecDepth 100000 in
theorem c_workOutSpan (l : Launch) (E : Ev) (X : va_W) (S : HS) {a ls rs : Nat} {ss : List Nat} (hc : stl E S a ls rs ss) : Ctr l yX0_workOutSpan (Cond.code yX0_workOutSpan cX0_workOutSpan 5 none) 4 0 0 E [.ref a] X S (fun v X2 S2 => none = v ∧ X = X2 ∧ (S.sI 4 a (spB S a ss)).sI 5 a (spE S a ss) = S2) := by
  refine Ctr.ofG (by decide) [(0, .ref a)] rfl (Nat.le_of_ble_eq_true rfl) ?_
  intro p e s m args below meth c A Q C hQ
  refine g_aload_n C 0 dX0_workOutSpan_0 rfl rfl ?_
  refine g_get (v := .ref ls) C 5 hc.1.1 (pF_0 hc.1.2) rfl (by decide) in_X0 lk_X0_18 rfl (congrArg (fun z => some (va_rf z)) hc.2.1) dX0_workOutSpan_1 ?_
  refine g_callV C [] [] (c_isEmpty l E X S hc.2.2.1) (recv_at hc.2.2.1.1.1 (pF_5 hc.2.2.1.1.2)) rfl cm_Jx4a65c_isEmpty_aae02 wv_X0_112 ds_Jx4a65c_isEmpty_aae02 rfl rfl (Nat.le_of_ble_eq_true rfl) (by decide) (by decide) dX0_workOutSpan_4 ?_
  rintro v9 X2 S2 ⟨rfl, rfl, rfl⟩
  refine g_if_eq C 32 dX0_workOutSpan_7 (by decide) (fun h7 => ?_) (fun h7 => ?_)
  · refine g_ldc C kc_X0_118 dX0_workOutSpan_32 ?_
    refine g_istore_n C [(1, .int 2147483647), (0, .ref a)] dX0_workOutSpan_34 rfl (by decide) rfl ?_
    refine g_iconst C 0 dX0_workOutSpan_35 (by decide) ?_
    refine g_istore_n C [(2, .int 0), (1, .int 2147483647), (0, .ref a)] dX0_workOutSpan_36 rfl (by decide) rfl ?_
    refine g_iconst C 0 dX0_workOutSpan_37 (by decide) ?_
    refine g_istore_n C [(3, .int 0), (2, .int 0), (1, .int 2147483647), (0, .ref a)] dX0_workOutSpan_38 rfl (by decide) rfl ?_
    have hne : ¬ ss.length = 0 := fun q => by rw [if_pos q] at h7; exact absurd h7 (by decide)
    have hlen := hc.2.2.1.2.2.2.1
    have loop : ∀ (n i : Nat) (lo : Int32) (hi9 : Int32), i + n = ss.length → (lof S (ss.drop i) lo = lof S ss 2147483647 ∧ hif S (ss.drop i) hi9 = hif S ss 0) → GW p l e (rml 4 0 0) s m args below meth c E 5 A Q X S 0 0 39 [(3, .int (nI i)), (2, .int hi9), (1, .int lo), (0, .ref a)] [] := by
      intro n
      induction n with
      | zero =>
        intro i lo hi9 hin hF
        rw [List.drop_eq_nil_of_le (by omega)] at hF
        refine g_iload_n C 0 dX0_workOutSpan_39 rfl rfl ?_
        refine g_aload_n C 3 dX0_workOutSpan_40 rfl rfl ?_
        refine g_get (v := .ref ls) C 5 hc.1.1 (pF_0 hc.1.2) rfl (by decide) in_X0 lk_X0_18 rfl (congrArg (fun z => some (va_rf z)) hc.2.1) dX0_workOutSpan_41 ?_
        refine g_callV C [] [.int (nI i)] (c_size l E X S hc.2.2.1) (recv_at hc.2.2.1.1.1 (pF_5 hc.2.2.1.1.2)) rfl cm_Jx4a65c_size_8abf5 wv_X0_63 ds_Jx4a65c_size_8abf5 rfl rfl (Nat.le_of_ble_eq_true rfl) (by decide) (by decide) dX0_workOutSpan_44 ?_
        rintro v9 X2 S2 ⟨rfl, rfl, rfl⟩
        refine g_icmp_ge C 107 dX0_workOutSpan_47 (by decide) (fun h47 => ?_) (fun h47 => ?_)
        · refine g_aload_n C 3 dX0_workOutSpan_107 rfl rfl ?_
          refine g_iload_n C 2 dX0_workOutSpan_108 rfl rfl ?_
          refine g_put (ty := .int) (S2 := (S.sI 4 a lo)) C 8 hc.1.1 (pF_0 hc.1.2) rfl (by decide) in_X0 tyX0_ok nmX0 lk_X0_28 rfl rfl (by decide +kernel) rfl rfl (Nat.le_of_ble_eq_true rfl) rfl (pu_I4 (S := S) hc.1.2 lo) dX0_workOutSpan_109 ?_
          refine g_aload_n C 3 dX0_workOutSpan_112 rfl rfl ?_
          refine g_iload_n C 1 dX0_workOutSpan_113 rfl rfl ?_
          refine g_aload_n C 3 dX0_workOutSpan_114 rfl rfl ?_
          refine g_get C 10 hc.1.1 (pF_0 hc.1.2) rfl (by decide) in_X0 lk_X0_35 rfl rfl dX0_workOutSpan_115 ?_
          refine g_iadd C dX0_workOutSpan_118 ?_
          refine g_put (ty := .int) (S2 := ((S.sI 4 a lo).sI 5 a (hi9 + ((S.sI 4 a lo).I 6 a)))) C 9 hc.1.1 (pF_0 hc.1.2) rfl (by decide) in_X0 tyX0_ok nmX0 lk_X0_32 rfl rfl (by decide +kernel) rfl rfl (Nat.le_of_ble_eq_true rfl) rfl (pu_I5 (S := (S.sI 4 a lo)) hc.1.2 (hi9 + ((S.sI 4 a lo).I 6 a))) dX0_workOutSpan_119 ?_
          exact g_vret C hQ rfl dX0_workOutSpan_122 (by decide) (by decide) ⟨rfl, rfl, by rw [show spB S a ss = lo from (if_neg hne).trans hF.1.symm, show spE S a ss = hi9 + S.I 6 a by unfold spE; rw [if_neg hne]; exact congrArg (· + S.I 6 a) hF.2.symm]; rfl⟩
        · exact absurd (nI_le (show ss.length ≤ i by omega) (by omega)) h47
      | succ n ih =>
        intro i lo hi9 hin hF
        have hi : i < ss.length := by omega
        obtain ⟨v, hv⟩ : ∃ v, v = ss[i] := ⟨_, rfl⟩
        have hs : stgOK S v := by rw [hv]; exact hc.2.2.2 _ (List.getElem_mem hi)
        have hdr : ss.drop i = v :: ss.drop (i + 1) := by rw [hv]; exact List.drop_eq_getElem_cons hi
        rw [hdr] at hF
        refine g_iload_n C 0 dX0_workOutSpan_39 rfl rfl ?_
        refine g_aload_n C 3 dX0_workOutSpan_40 rfl rfl ?_
        refine g_get (v := .ref ls) C 5 hc.1.1 (pF_0 hc.1.2) rfl (by decide) in_X0 lk_X0_18 rfl (congrArg (fun z => some (va_rf z)) hc.2.1) dX0_workOutSpan_41 ?_
        refine g_callV C [] [.int (nI i)] (c_size l E X S hc.2.2.1) (recv_at hc.2.2.1.1.1 (pF_5 hc.2.2.1.1.2)) rfl cm_Jx4a65c_size_8abf5 wv_X0_63 ds_Jx4a65c_size_8abf5 rfl rfl (Nat.le_of_ble_eq_true rfl) (by decide) (by decide) dX0_workOutSpan_44 ?_
        rintro v9 X2 S2 ⟨rfl, rfl, rfl⟩
        refine g_icmp_ge C 107 dX0_workOutSpan_47 (by decide) (fun h47 => ?_) (fun h47 => ?_)
        · exact absurd ((nI_leI (by omega) (by omega)).mp h47) (by omega)
        · refine g_aload_n C 3 dX0_workOutSpan_50 rfl rfl ?_
          refine g_get (v := .ref ls) C 5 hc.1.1 (pF_0 hc.1.2) rfl (by decide) in_X0 lk_X0_18 rfl (congrArg (fun z => some (va_rf z)) hc.2.1) dX0_workOutSpan_51 ?_
          refine g_iload_n C 0 dX0_workOutSpan_54 rfl rfl ?_
          refine g_callV C [.int (nI i)] [] (c_get l E X S hc.2.2.1 hi) (recv_at hc.2.2.1.1.1 (pF_5 hc.2.2.1.1.2)) rfl cm_Jx4a65c_get_915e3 wv_X0_67 ds_Jx4a65c_get_915e3 rfl rfl (Nat.le_of_ble_eq_true rfl) (by decide) (by decide) dX0_workOutSpan_55 ?_
          rintro v9 X2 S2 ⟨rfl, rfl, rfl⟩
          show GW _ _ _ _ _ _ _ _ _ _ _ _ _ _ _ _ _ _ _ _ (.ref ss[i] :: _)
          rw [← hv]
          refine g_cast C hs.1.1 (pF_2 hs.1.2) rfl kl_X0_119 dX0_workOutSpan_58 ?_
          refine g_astore C [(4, .ref v), (3, .int (nI i)), (2, .int hi9), (1, .int lo), (0, .ref a)] dX0_workOutSpan_61 (by decide) rfl ?_
          refine g_iload_n C 3 dX0_workOutSpan_63 rfl rfl ?_
          refine g_aload C 0 dX0_workOutSpan_64 rfl ?_
          refine g_get (v := .ref (fr S v)) C 0 hs.1.1 (pF_2 hs.1.2) rfl (by decide) in_X2 lk_X0_121 rfl (congrArg (fun z => some (va_rf z)) hs.2.1) dX0_workOutSpan_66 ?_
          refine g_get C 8 hs.2.2.1 (pF_0 hs.2.2.2) rfl (by decide) in_X0 lk_X0_28 rfl rfl dX0_workOutSpan_69 ?_
          refine g_aload C 0 dX0_workOutSpan_72 rfl ?_
          refine g_get C 1 hs.1.1 (pF_2 hs.1.2) rfl (by decide) in_X2 lk_X0_124 rfl rfl dX0_workOutSpan_74 ?_
          refine g_iadd C dX0_workOutSpan_77 ?_
          refine g_min C wm_X0_126 ⟨by decide, Nat.le_of_ble_eq_true rfl⟩ (by decide) dX0_workOutSpan_78 ?_
          refine g_istore_n C [(1, .int (if ((S.I 4 (fr S v)) + (S.I 9 v)) < lo then ((S.I 4 (fr S v)) + (S.I 9 v)) else lo)), (4, .ref v), (3, .int (nI i)), (2, .int hi9), (0, .ref a)] dX0_workOutSpan_81 rfl (by decide) rfl ?_
          refine g_iload_n C 3 dX0_workOutSpan_82 rfl rfl ?_
          refine g_aload C 1 dX0_workOutSpan_83 rfl ?_
          refine g_get (v := .ref (fr S v)) C 0 hs.1.1 (pF_2 hs.1.2) rfl (by decide) in_X2 lk_X0_121 rfl (congrArg (fun z => some (va_rf z)) hs.2.1) dX0_workOutSpan_85 ?_
          refine g_get C 9 hs.2.2.1 (pF_0 hs.2.2.2) rfl (by decide) in_X0 lk_X0_32 rfl rfl dX0_workOutSpan_88 ?_
          refine g_aload C 1 dX0_workOutSpan_91 rfl ?_
          refine g_get C 1 hs.1.1 (pF_2 hs.1.2) rfl (by decide) in_X2 lk_X0_124 rfl rfl dX0_workOutSpan_93 ?_
          refine g_iadd C dX0_workOutSpan_96 ?_
          refine g_max C wm_X0_132 ⟨by decide, Nat.le_of_ble_eq_true rfl⟩ (by decide) dX0_workOutSpan_97 ?_
          refine g_istore_n C [(2, .int (if hi9 < ((S.I 5 (fr S v)) + (S.I 9 v)) then ((S.I 5 (fr S v)) + (S.I 9 v)) else hi9)), (1, .int (if ((S.I 4 (fr S v)) + (S.I 9 v)) < lo then ((S.I 4 (fr S v)) + (S.I 9 v)) else lo)), (4, .ref v), (3, .int (nI i)), (0, .ref a)] dX0_workOutSpan_100 rfl (by decide) rfl ?_
          refine g_iinc C (nI (i + 1)) 3 [(3, .int (nI (i + 1))), (2, .int (if hi9 < ((S.I 5 (fr S v)) + (S.I 9 v)) then ((S.I 5 (fr S v)) + (S.I 9 v)) else hi9)), (1, .int (if ((S.I 4 (fr S v)) + (S.I 9 v)) < lo then ((S.I 4 (fr S v)) + (S.I 9 v)) else lo)), (4, .ref v), (0, .ref a)] dX0_workOutSpan_101 rfl (nI_1 i) (by decide) rfl ?_
          refine g_goto C 39 dX0_workOutSpan_104 (by decide) ?_
          refine g_locs (lv2 := [(3, .int (nI (i + 1))), (2, .int (if hi9 < ((S.I 5 (fr S v)) + (S.I 9 v)) then ((S.I 5 (fr S v)) + (S.I 9 v)) else hi9)), (1, .int (if ((S.I 4 (fr S v)) + (S.I 9 v)) < lo then ((S.I 4 (fr S v)) + (S.I 9 v)) else lo)), (0, .ref a)]) [0, 1, 2, 4] rfl ?_
          exact ih (i + 1) _ _ (by omega) ⟨hF.1, hF.2⟩
    exact loop ss.length 0 2147483647 0 (by omega) ⟨rfl, rfl⟩
  · refine g_aload_n C 0 dX0_workOutSpan_10 rfl rfl ?_
    refine g_aload_n C 0 dX0_workOutSpan_11 rfl rfl ?_
    refine g_get C 1 hc.1.1 (pF_0 hc.1.2) rfl (by decide) in_X0 lk_X0_44 rfl rfl dX0_workOutSpan_12 ?_
    refine g_put (ty := .int) (S2 := (S.sI 4 a (S.I 1 a))) C 8 hc.1.1 (pF_0 hc.1.2) rfl (by decide) in_X0 tyX0_ok nmX0 lk_X0_28 rfl rfl (by decide +kernel) rfl rfl (Nat.le_of_ble_eq_true rfl) rfl (pu_I4 (S := S) hc.1.2 (S.I 1 a)) dX0_workOutSpan_15 ?_
    refine g_aload_n C 0 dX0_workOutSpan_18 rfl rfl ?_
    refine g_aload_n C 0 dX0_workOutSpan_19 rfl rfl ?_
    refine g_get C 2 hc.1.1 (pF_0 hc.1.2) rfl (by decide) in_X0 lk_X0_47 rfl rfl dX0_workOutSpan_20 ?_
    refine g_aload_n C 0 dX0_workOutSpan_23 rfl rfl ?_
    refine g_get C 10 hc.1.1 (pF_0 hc.1.2) rfl (by decide) in_X0 lk_X0_35 rfl rfl dX0_workOutSpan_24 ?_
    refine g_iadd C dX0_workOutSpan_27 ?_
    refine g_put (ty := .int) (S2 := ((S.sI 4 a (S.I 1 a)).sI 5 a (((S.sI 4 a (S.I 1 a)).I 2 a) + ((S.sI 4 a (S.I 1 a)).I 6 a)))) C 9 hc.1.1 (pF_0 hc.1.2) rfl (by decide) in_X0 tyX0_ok nmX0 lk_X0_32 rfl rfl (by decide +kernel) rfl rfl (Nat.le_of_ble_eq_true rfl) rfl (pu_I5 (S := (S.sI 4 a (S.I 1 a))) hc.1.2 (((S.sI 4 a (S.I 1 a)).I 2 a) + ((S.sI 4 a (S.I 1 a)).I 6 a))) dX0_workOutSpan_28 ?_
    exact g_vret C hQ rfl dX0_workOutSpan_31 (by decide) (by decide) ⟨rfl, rfl, by have he : ss.length = 0 := (by by_cases q : ss.length = 0; exact q; rw [if_neg q] at h7; exact absurd rfl h7); rw [show spB S a ss = S.I 1 a from if_pos he, show spE S a ss = S.I 2 a + S.I 6 a by unfold spE; rw [if_pos he]]; rfl⟩
set_option maxRecDepth 100000 in
theorem c_workOutNoise (l : Launch) (E : Ev) (X : va_W) (S : HS) {a ls rs : Nat} {ss : List Nat} (hc : stl E S a ls rs ss) {lc rc : Nat} {vs : List Nat} (hk : cpl E S a lc rc vs) {t ha ta n9 : Nat} (ht : tbl S t ha ta n9) (kp : Int32) : Ctr l yX0_workOutNoise (Cond.code yX0_workOutNoise cX0_workOutNoise 6 none) 5 0 0 E [.ref a, .int kp, .ref t] X S (fun v X2 S2 => none = v ∧ X = X2 ∧ S.sI 7 a (fsum (fun v => !exB S a (tg S v)) (fun v => S.I 8 v) kp vs 0 0 + nof S (S.R ha) (S.R ta) n9 ss 0) = S2) := by
  refine Ctr.ofG (by decide) [(0, .ref a), (1, .int kp), (2, .ref t)] rfl (Nat.le_of_ble_eq_true rfl) ?_
  intro p e s m args below meth c A Q C hQ
  refine g_iconst C 0 dX0_workOutNoise_0 (by decide) ?_
  refine g_istore_n C [(3, .int 0), (0, .ref a), (1, .int kp), (2, .ref t)] dX0_workOutNoise_1 rfl (by decide) rfl ?_
  refine g_iconst C 0 dX0_workOutNoise_2 (by decide) ?_
  refine g_istore C [(4, .int 0), (3, .int 0), (0, .ref a), (1, .int kp), (2, .ref t)] dX0_workOutNoise_3 (by decide) rfl ?_
  have hlen := hc.2.2.1.2.2.2.1
  have loop : ∀ (n i : Nat) (g9 : Int32), i + n = ss.length → nof S (S.R ha) (S.R ta) n9 (ss.drop i) g9 = nof S (S.R ha) (S.R ta) n9 ss 0 → GW p l e (rml 5 0 0) s m args below meth c E 6 A Q X S 0 0 5 [(4, .int (nI i)), (3, .int g9), (0, .ref a), (1, .int kp), (2, .ref t)] [] := by
    intro n
    induction n with
    | zero =>
      intro i g9 hin hF
      rw [List.drop_eq_nil_of_le (by omega)] at hF
      refine g_iload C 0 dX0_workOutNoise_5 rfl ?_
      refine g_aload_n C 2 dX0_workOutNoise_7 rfl rfl ?_
      refine g_get (v := .ref ls) C 5 hc.1.1 (pF_0 hc.1.2) rfl (by decide) in_X0 lk_X0_18 rfl (congrArg (fun z => some (va_rf z)) hc.2.1) dX0_workOutNoise_8 ?_
      refine g_callV C [] [.int (nI i)] (c_size l E X S hc.2.2.1) (recv_at hc.2.2.1.1.1 (pF_5 hc.2.2.1.1.2)) rfl cm_Jx4a65c_size_8abf5 wv_X0_63 ds_Jx4a65c_size_8abf5 rfl rfl (Nat.le_of_ble_eq_true rfl) (by decide) (by decide) dX0_workOutNoise_11 ?_
      rintro v9 X2 S2 ⟨rfl, rfl, rfl⟩
      refine g_icmp_ge C 54 dX0_workOutNoise_14 (by decide) (fun h14 => ?_) (fun h14 => ?_)
      · refine g_aload_n C 2 dX0_workOutNoise_54 rfl rfl ?_
        refine g_aload_n C 2 dX0_workOutNoise_55 rfl rfl ?_
        refine g_iload_n C 3 dX0_workOutNoise_56 rfl rfl ?_
        refine g_callV C [.int kp] [.ref a] (c_sumOfShares l E X S hk kp) (recv_at hc.1.1 (pF_0 hc.1.2)) rfl cm_X0_sumOfShares wv_X0_141 ds_X0_sumOfShares rfl rfl (Nat.le_of_ble_eq_true rfl) (by decide) (by decide) dX0_workOutNoise_57 ?_
        rintro v9 X2 S2 ⟨rfl, rfl, rfl⟩
        refine g_iload_n C 1 dX0_workOutNoise_60 rfl rfl ?_
        refine g_iadd C dX0_workOutNoise_61 ?_
        refine g_put (ty := .int) (S2 := (S.sI 7 a ((fsum (fun v => !exB S a (tg S v)) (fun v => S.I 8 v) kp vs 0 0) + g9))) C 11 hc.1.1 (pF_0 hc.1.2) rfl (by decide) in_X0 tyX0_ok nmX0 lk_X0_38 rfl rfl (by decide +kernel) rfl rfl (Nat.le_of_ble_eq_true rfl) rfl (pu_I7 (S := S) hc.1.2 ((fsum (fun v => !exB S a (tg S v)) (fun v => S.I 8 v) kp vs 0 0) + g9)) dX0_workOutNoise_62 ?_
        exact g_vret C hQ rfl dX0_workOutNoise_65 (by decide) (by decide) ⟨rfl, rfl, by rw [← hF]; rfl⟩
      · exact absurd (nI_le (show ss.length ≤ i by omega) (by omega)) h14
    | succ n ih =>
      intro i g9 hin hF
      have hi : i < ss.length := by omega
      obtain ⟨v, hv⟩ : ∃ v, v = ss[i] := ⟨_, rfl⟩
      have hs : stgOK S v := by rw [hv]; exact hc.2.2.2 _ (List.getElem_mem hi)
      have hdr : ss.drop i = v :: ss.drop (i + 1) := by rw [hv]; exact List.drop_eq_getElem_cons hi
      rw [hdr] at hF
      refine g_iload C 0 dX0_workOutNoise_5 rfl ?_
      refine g_aload_n C 2 dX0_workOutNoise_7 rfl rfl ?_
      refine g_get (v := .ref ls) C 5 hc.1.1 (pF_0 hc.1.2) rfl (by decide) in_X0 lk_X0_18 rfl (congrArg (fun z => some (va_rf z)) hc.2.1) dX0_workOutNoise_8 ?_
      refine g_callV C [] [.int (nI i)] (c_size l E X S hc.2.2.1) (recv_at hc.2.2.1.1.1 (pF_5 hc.2.2.1.1.2)) rfl cm_Jx4a65c_size_8abf5 wv_X0_63 ds_Jx4a65c_size_8abf5 rfl rfl (Nat.le_of_ble_eq_true rfl) (by decide) (by decide) dX0_workOutNoise_11 ?_
      rintro v9 X2 S2 ⟨rfl, rfl, rfl⟩
      refine g_icmp_ge C 54 dX0_workOutNoise_14 (by decide) (fun h14 => ?_) (fun h14 => ?_)
      · exact absurd ((nI_leI (by omega) (by omega)).mp h14) (by omega)
      · refine g_aload_n C 2 dX0_workOutNoise_17 rfl rfl ?_
        refine g_get (v := .ref ls) C 5 hc.1.1 (pF_0 hc.1.2) rfl (by decide) in_X0 lk_X0_18 rfl (congrArg (fun z => some (va_rf z)) hc.2.1) dX0_workOutNoise_18 ?_
        refine g_iload C 0 dX0_workOutNoise_21 rfl ?_
        refine g_callV C [.int (nI i)] [] (c_get l E X S hc.2.2.1 hi) (recv_at hc.2.2.1.1.1 (pF_5 hc.2.2.1.1.2)) rfl cm_Jx4a65c_get_915e3 wv_X0_67 ds_Jx4a65c_get_915e3 rfl rfl (Nat.le_of_ble_eq_true rfl) (by decide) (by decide) dX0_workOutNoise_23 ?_
        rintro v9 X2 S2 ⟨rfl, rfl, rfl⟩
        show GW _ _ _ _ _ _ _ _ _ _ _ _ _ _ _ _ _ _ _ _ (.ref ss[i] :: _)
        rw [← hv]
        refine g_cast C hs.1.1 (pF_2 hs.1.2) rfl kl_X0_119 dX0_workOutNoise_26 ?_
        refine g_astore C [(5, .ref v), (4, .int (nI i)), (3, .int g9), (0, .ref a), (1, .int kp), (2, .ref t)] dX0_workOutNoise_29 (by decide) rfl ?_
        refine g_iload_n C 2 dX0_workOutNoise_31 rfl rfl ?_
        refine g_aload_n C 5 dX0_workOutNoise_32 rfl rfl ?_
        refine g_aload C 0 dX0_workOutNoise_33 rfl ?_
        refine g_get (v := .ref (fr S v)) C 0 hs.1.1 (pF_2 hs.1.2) rfl (by decide) in_X2 lk_X0_121 rfl (congrArg (fun z => some (va_rf z)) hs.2.1) dX0_workOutNoise_35 ?_
        refine g_get C 11 hs.2.2.1 (pF_0 hs.2.2.2) rfl (by decide) in_X0 lk_X0_38 rfl rfl dX0_workOutNoise_38 ?_
        refine g_callV C [.int (S.I 7 (fr S v))] [.int g9] (c_throughOf l E X S ht _) (recv_at ht.1.1 (pF_3 ht.1.2)) rfl cm_X3_throughOf wv_X0_135 ds_X3_throughOf rfl rfl (Nat.le_of_ble_eq_true rfl) (by decide) (by decide) dX0_workOutNoise_41 ?_
        rintro v9 X2 S2 ⟨rfl, rfl, rfl⟩
        refine g_max C wm_X0_132 ⟨by decide, Nat.le_of_ble_eq_true rfl⟩ (by decide) dX0_workOutNoise_44 ?_
        refine g_istore_n C [(3, .int (if g9 < (thrF (S.R ha) (S.R ta) n9 (S.I 7 (fr S v))) then (thrF (S.R ha) (S.R ta) n9 (S.I 7 (fr S v))) else g9)), (5, .ref v), (4, .int (nI i)), (0, .ref a), (1, .int kp), (2, .ref t)] dX0_workOutNoise_47 rfl (by decide) rfl ?_
        refine g_iinc C (nI (i + 1)) 2 [(4, .int (nI (i + 1))), (3, .int (if g9 < (thrF (S.R ha) (S.R ta) n9 (S.I 7 (fr S v))) then (thrF (S.R ha) (S.R ta) n9 (S.I 7 (fr S v))) else g9)), (5, .ref v), (0, .ref a), (1, .int kp), (2, .ref t)] dX0_workOutNoise_48 rfl (nI_1 i) (by decide) rfl ?_
        refine g_goto C 5 dX0_workOutNoise_51 (by decide) ?_
        refine g_locs (lv2 := [(4, .int (nI (i + 1))), (3, .int (if g9 < (thrF (S.R ha) (S.R ta) n9 (S.I 7 (fr S v))) then (thrF (S.R ha) (S.R ta) n9 (S.I 7 (fr S v))) else g9)), (0, .ref a), (1, .int kp), (2, .ref t)]) [0, 1, 3, 4, 5] rfl ?_
        exact ih (i + 1) _ (by omega) hF
  exact loop ss.length 0 0 (by omega) rfl
