theorem sort_uniq {r : Nat → Nat → Prop} (as : ∀ x z, r x z → r z x → False) : ∀ (l1 l2 : List Nat), l1.Pairwise r → l2.Pairwise r → (∀ x, x ∈ l1 ↔ x ∈ l2) → l1 = l2
  | [], [], _, _, _ => rfl
  | [], z :: l2, _, _, h => absurd ((h z).mpr List.mem_cons_self) (by simp)
  | x :: l1, [], _, _, h => absurd ((h x).mp List.mem_cons_self) (by simp)
  | x :: l1, z :: l2, h1, h2, h => by
    obtain ⟨a1, b1⟩ := List.pairwise_cons.mp h1
    obtain ⟨a2, b2⟩ := List.pairwise_cons.mp h2
    have e : x = z := by
      rcases List.mem_cons.mp ((h x).mp List.mem_cons_self) with q | q
      · exact q
      · rcases List.mem_cons.mp ((h z).mpr List.mem_cons_self) with q2 | q2
        · exact q2.symm
        · exact (as x z (a1 z q2) (a2 x q)).elim
    subst e
    refine congrArg (x :: ·) (sort_uniq as l1 l2 b1 b2 (fun w => ⟨fun hw => ?_, fun hw => ?_⟩))
    · rcases List.mem_cons.mp ((h w).mp (List.mem_cons_of_mem _ hw)) with q | q
      · subst q; exact (as w w (a1 w hw) (a1 w hw)).elim
      · exact q
    · rcases List.mem_cons.mp ((h w).mpr (List.mem_cons_of_mem _ hw)) with q | q
      · subst q; exact (as w w (a2 w hw) (a2 w hw)).elim
      · exact q
def stB (M : MM) (i p q : Nat) : Prop := (p < 2 ^ 31 ∧ q < 2 ^ 31) ∧ stM M i p q = true
theorem srcs_uniq {M : MM} {i n : Nat} {all : Bool} {l1 l2 : List Nat} (hn : n < 2 ^ 31) (h1 : srcs M i n all l1) (h2 : srcs M i n all l2) : l1 = l2 := by
  have key : ∀ l, srcs M i n all l → l.Pairwise (stB M i) := fun l h => List.Pairwise.imp_of_mem (fun ha hb hab => ⟨⟨Nat.lt_trans (h.lt ha) hn, Nat.lt_trans (h.lt hb) hn⟩, hab⟩) h.2
  exact sort_uniq (r := stB M i) (fun x z a b => stM_as a.1.1 a.1.2 a.2 b.2) l1 l2 (key l1 h1) (key l2 h2) (fun x => by rw [h1.1.mem_iff, h2.1.mem_iff])
noncomputable def gL (M : MM) (i n : Nat) (all : Bool) : List Nat := @dite (List Nat) (∃ l, srcs M i n all l) (Classical.propDecidable _) (fun h => Classical.choose h) (fun _ => [])
theorem gL_of {M : MM} {i n : Nat} {all : Bool} {l : List Nat} (hn : n < 2 ^ 31) (h : srcs M i n all l) : gL M i n all = l := by
  have e : ∃ l, srcs M i n all l := ⟨l, h⟩
  have e2 : gL M i n all = Classical.choose e := dif_pos e
  rw [e2]
  exact srcs_uniq hn (Classical.choose_spec e) h
theorem gp_cg {M M2 : MM} {i : Nat} {all : Bool} (h5 : M2 5 = M 5) (h6 : M2 6 = M 6) (h : all = true ∨ (M2 21 = M 21 ∧ M2 22 = M 22)) : gp M2 i all = gp M i all := by
  funext o
  unfold gp
  rw [isS_cg h5 h6]
  rcases h with h | ⟨h1, h2⟩
  · rw [h]; simp only [Bool.true_or]
  · rw [h1, h2]
theorem srcs_cg {M M2 : MM} {i n : Nat} {all : Bool} {l : List Nat} (h4 : M2 4 = M 4) (h5 : M2 5 = M 5) (h6 : M2 6 = M 6) (h : all = true ∨ (M2 21 = M 21 ∧ M2 22 = M 22)) : srcs M2 i n all l ↔ srcs M i n all l := by
  unfold srcs
  rw [gp_cg h5 h6 h, show (fun p q => stM M2 i p q = true) = (fun p q => stM M i p q = true) from by funext p q; rw [stM_cg h5 h4]]
/-- delay by the strongest, and height -/
noncomputable def mSum (M : MM) (i n : Nat) (all : Bool) : Int32 := sK (fun q => M 5 (40 * i + q) * M 4 q / 1000) (M 13 0) (gL M i n all) 0 0
noncomputable def mHgt (M : MM) (i n : Nat) : Int32 := sK (fun q => M 5 (40 * i + q)) (M 13 0) (gL M i n true) 0 0
theorem gL_cg {M M2 : MM} {i n : Nat} {all : Bool} (h4 : M2 4 = M 4) (h5 : M2 5 = M 5) (h6 : M2 6 = M 6) (h : all = true ∨ (M2 21 = M 21 ∧ M2 22 = M 22)) : gL M2 i n all = gL M i n all := by
  have e : srcs M2 i n all = srcs M i n all := funext fun l => propext (srcs_cg h4 h5 h6 h)
  unfold gL
  rw [e]
theorem mSum_cg {M M2 : MM} {i n : Nat} {all : Bool} (h4 : M2 4 = M 4) (h5 : M2 5 = M 5) (h6 : M2 6 = M 6) (h13 : M2 13 = M 13) (h : all = true ∨ (M2 21 = M 21 ∧ M2 22 = M 22)) : mSum M2 i n all = mSum M i n all := by
  unfold mSum
  rw [gL_cg h4 h5 h6 h, h4, h5, h13]
theorem mHgt_cg {M M2 : MM} {i n : Nat} (h4 : M2 4 = M 4) (h5 : M2 5 = M 5) (h6 : M2 6 = M 6) (h13 : M2 13 = M 13) : mHgt M2 i n = mHgt M i n := by
  unfold mHgt
  rw [gL_cg h4 h5 h6 (Or.inl rfl), h5, h13]
set_option maxRecDepth 100000 in
theorem c_msum (l : Launch) (E : Ev) (o : Nat) (a : Nat → Nat) (M : MM) (Y : va_W) (S : HS) {n : Nat} (hn : M 1 0 = nI n) (h40 : n ≤ 40) {i : Nat} (hi : i < n) (all : Bool) : Ctr l yX5_sum (Cond.code yX5_sum cX5_sum 6 (some .int)) 3 0 0 E [.ref o, .int (nI i), .int (bI all)] (mw E o a M ++ Y) S (PoM E o a Y S (fun v M2 => some (.int (mSum M i n all)) = v ∧ ∀ k, k ≠ 25 → M2 k = M k)) := by
  refine Ctr.ofG (by decide) [(0, .ref o), (1, .int (nI i)), (2, .int (bI all))] rfl (Nat.le_of_ble_eq_true rfl) ?_
  intro p e s m args below meth c A Q C hQ
  refine g_aload_n C 0 dX5_sum_0 rfl rfl ?_
  refine g_iload_n C 1 dX5_sum_1 rfl rfl ?_
  refine g_iload_n C 2 dX5_sum_2 rfl rfl ?_
  refine g_callV C [.int (nI i), .int (bI all)] [] (c_mgather l E o a M Y S (n := n) hn h40 hi all) ⟨0, mfs a M, rfl⟩ rfl cm_X5_gather wv_X5_107 ds_X5_gather rfl rfl (Nat.le_of_ble_eq_true rfl) (by decide) (by decide) dX5_sum_3 ?_
  rintro v9 X2 S2 ⟨rfl, Mg, rfl, l9, rfl, hs, hr, hk⟩
  have hln := hs.len
  have hgL := gL_of (by omega) hs
  refine g_istore_n C [(3, .int (nI l9.length)), (0, .ref o), (1, .int (nI i)), (2, .int (bI all))] dX5_sum_6 rfl (by decide) rfl ?_
  refine g_iconst C 0 dX5_sum_7 (by decide) ?_
  refine g_istore C [(4, .int 0), (3, .int (nI l9.length)), (0, .ref o), (1, .int (nI i)), (2, .int (bI all))] dX5_sum_8 (by decide) rfl ?_
  refine g_iconst C 0 dX5_sum_10 (by decide) ?_
  refine g_istore C [(5, .int 0), (4, .int 0), (3, .int (nI l9.length)), (0, .ref o), (1, .int (nI i)), (2, .int (bI all))] dX5_sum_11 (by decide) rfl ?_
  have loop : ∀ (k9 i9 : Nat) (s9 : Int32), i9 + k9 = l9.length → sK (fun q => M 5 (40 * i + q) * M 4 q / 1000) (M 13 0) (l9.drop i9) i9 s9 = sK (fun q => M 5 (40 * i + q) * M 4 q / 1000) (M 13 0) l9 0 0 → GW p l e (rml 3 0 0) s m args below meth c E 6 A Q (mw E o a Mg ++ Y) S 0 0 13 [(5, .int (nI i9)), (4, .int s9), (3, .int (nI l9.length)), (0, .ref o), (1, .int (nI i))] [] := by
    intro k9
    induction k9 with
    | zero =>
      intro i9 s9 hin hF
      rw [List.drop_eq_nil_of_le (by omega)] at hF
      refine g_iload C 0 dX5_sum_13 rfl ?_
      refine g_iload_n C 2 dX5_sum_15 rfl rfl ?_
      refine g_icmp_ge C 73 dX5_sum_16 (by decide) (fun h16 => ?_) (fun h16 => ?_)
      · refine g_iload C 1 dX5_sum_73 rfl ?_
        exact g_iret C hQ rfl rfl dX5_sum_75 (by decide) (by decide) ⟨rfl, Mg, rfl, sv (by unfold mSum; rw [hgL]; exact hF.symm), hk⟩
      · exact absurd (nI_le (show l9.length ≤ i9 by omega) (by omega)) h16
    | succ k9 ih =>
      intro i9 s9 hin hF
      have hl9 : i9 < l9.length := by omega
      have hlq : l9[i9] < n := hs.lt (List.getElem_mem hl9)
      rw [List.drop_eq_getElem_cons hl9, sK] at hF
      refine g_iload C 0 dX5_sum_13 rfl ?_
      refine g_iload_n C 2 dX5_sum_15 rfl rfl ?_
      refine g_icmp_ge C 73 dX5_sum_16 (by decide) (fun h16 => ?_) (fun h16 => ?_)
      · exact absurd ((nI_leI (by omega) (by omega)).mp h16) (by omega)
      · refine g_iload C 0 dX5_sum_19 rfl ?_
        refine g_aload_n C 3 dX5_sum_21 rfl rfl ?_
        refine mg_13 C lk_X5_35 dX5_sum_22 ?_
        refine g_vi (M 13 0) (congrFun (hk 13 (by decide)) 0) ?_
        refine g_icmp_ge C 73 dX5_sum_25 (by decide) (fun h25 => ?_) (fun h25 => ?_)
        · rw [if_pos h25] at hF
          refine g_iload C 1 dX5_sum_73 rfl ?_
          exact g_iret C hQ rfl rfl dX5_sum_75 (by decide) (by decide) ⟨rfl, Mg, rfl, sv (by unfold mSum; rw [hgL]; exact hF.symm), hk⟩
        · refine g_iload C 1 dX5_sum_28 rfl ?_
          refine g_aload_n C 3 dX5_sum_30 rfl rfl ?_
          refine mg_5 C lk_X5_19 dX5_sum_31 ?_
          refine g_bipush C 40 dX5_sum_34 (by decide) ?_
          refine g_iload_n C 4 dX5_sum_36 rfl rfl ?_
          refine g_imul C dX5_sum_37 ?_
          refine g_aload_n C 3 dX5_sum_38 rfl rfl ?_
          refine mg_25 C lk_X5_63 dX5_sum_39 ?_
          refine g_iload C 0 dX5_sum_42 rfl ?_
          refine ml_25 C i9 rfl (by omega) dX5_sum_44 ?_
          refine g_vi (nI l9[i9]) (hr i9 hl9) ?_
          refine g_iadd C dX5_sum_45 ?_
          refine ml_5 C (40 * i + (l9[i9])) (nI_ab i (l9[i9])) (by omega) dX5_sum_46 ?_
          refine g_vi (M 5 (40 * i + (l9[i9]))) (congrFun (hk 5 (by decide)) (40 * i + (l9[i9]))) ?_
          refine g_aload_n C 3 dX5_sum_47 rfl rfl ?_
          refine mg_4 C lk_X5_16 dX5_sum_48 ?_
          refine g_aload_n C 3 dX5_sum_51 rfl rfl ?_
          refine mg_25 C lk_X5_63 dX5_sum_52 ?_
          refine g_iload C 0 dX5_sum_55 rfl ?_
          refine ml_25 C i9 rfl (by omega) dX5_sum_57 ?_
          refine g_vi (nI l9[i9]) (hr i9 hl9) ?_
          refine ml_4 C (l9[i9]) rfl (by omega) dX5_sum_58 ?_
          refine g_vi (M 4 (l9[i9])) (congrFun (hk 4 (by decide)) (l9[i9])) ?_
          refine g_imul C dX5_sum_59 ?_
          refine g_sipush C 1000 dX5_sum_60 (by decide) ?_
          refine g_idiv C dX5_sum_63 (by decide) ?_
          refine g_iadd C dX5_sum_64 ?_
          refine g_istore C [(4, .int (s9 + (((M 5 (40 * i + (l9[i9]))) * (M 4 (l9[i9]))) / 1000))), (5, .int (nI i9)), (3, .int (nI l9.length)), (0, .ref o), (1, .int (nI i))] dX5_sum_65 (by decide) rfl ?_
          refine g_iinc C (nI (i9 + 1)) 1 [(5, .int (nI (i9 + 1))), (4, .int (s9 + (((M 5 (40 * i + (l9[i9]))) * (M 4 (l9[i9]))) / 1000))), (3, .int (nI l9.length)), (0, .ref o), (1, .int (nI i))] dX5_sum_67 rfl (nI_1 i9) (by decide) rfl ?_
          refine g_goto C 13 dX5_sum_70 (by decide) ?_
          exact ih (i9 + 1) _ (by omega) (by rw [if_neg h25] at hF; exact hF)
  refine g_locs (lv2 := [(5, .int 0), (4, .int 0), (3, .int (nI l9.length)), (0, .ref o), (1, .int (nI i))]) [0, 1, 2, 3, 4] rfl ?_
  exact loop l9.length 0 0 (by omega) rfl
set_option maxRecDepth 100000 in
theorem c_mheightOf (l : Launch) (E : Ev) (o : Nat) (a : Nat → Nat) (M : MM) (Y : va_W) (S : HS) {n : Nat} (hn : M 1 0 = nI n) (h40 : n ≤ 40) {i : Nat} (hi : i < n) : Ctr l yX5_heightOf (Cond.code yX5_heightOf cX5_heightOf 5 (some .int)) 3 0 0 E [.ref o, .int (nI i)] (mw E o a M ++ Y) S (PoM E o a Y S (fun v M2 => some (.int (mHgt M i n)) = v ∧ ∀ k, k ≠ 25 → M2 k = M k)) := by
  refine Ctr.ofG (by decide) [(0, .ref o), (1, .int (nI i))] rfl (Nat.le_of_ble_eq_true rfl) ?_
  intro p e s m args below meth c A Q C hQ
  refine g_aload_n C 0 dX5_heightOf_0 rfl rfl ?_
  refine g_iload_n C 1 dX5_heightOf_1 rfl rfl ?_
  refine g_iconst C 1 dX5_heightOf_2 (by decide) ?_
  rw [show (1 : Int32) = bI true from rfl]
  refine g_callV C [.int (nI i), .int (bI true)] [] (c_mgather l E o a M Y S (n := n) hn h40 hi true) ⟨0, mfs a M, rfl⟩ rfl cm_X5_gather wv_X5_107 ds_X5_gather rfl rfl (Nat.le_of_ble_eq_true rfl) (by decide) (by decide) dX5_heightOf_3 ?_
  rintro v9 X2 S2 ⟨rfl, Mg, rfl, l9, rfl, hs, hr, hk⟩
  have hln := hs.len
  have hgL := gL_of (by omega) hs
  refine g_istore_n C [(2, .int (nI l9.length)), (0, .ref o), (1, .int (nI i))] dX5_heightOf_6 rfl (by decide) rfl ?_
  refine g_iconst C 0 dX5_heightOf_7 (by decide) ?_
  refine g_istore_n C [(3, .int 0), (2, .int (nI l9.length)), (0, .ref o), (1, .int (nI i))] dX5_heightOf_8 rfl (by decide) rfl ?_
  refine g_iconst C 0 dX5_heightOf_9 (by decide) ?_
  refine g_istore C [(4, .int 0), (3, .int 0), (2, .int (nI l9.length)), (0, .ref o), (1, .int (nI i))] dX5_heightOf_10 (by decide) rfl ?_
  have loop : ∀ (k9 i9 : Nat) (s9 : Int32), i9 + k9 = l9.length → sK (fun q => M 5 (40 * i + q)) (M 13 0) (l9.drop i9) i9 s9 = sK (fun q => M 5 (40 * i + q)) (M 13 0) l9 0 0 → GW p l e (rml 3 0 0) s m args below meth c E 5 A Q (mw E o a Mg ++ Y) S 0 0 12 [(4, .int (nI i9)), (3, .int s9), (2, .int (nI l9.length)), (0, .ref o), (1, .int (nI i))] [] := by
    intro k9
    induction k9 with
    | zero =>
      intro i9 s9 hin hF
      rw [List.drop_eq_nil_of_le (by omega)] at hF
      refine g_iload C 0 dX5_heightOf_12 rfl ?_
      refine g_iload_n C 2 dX5_heightOf_14 rfl rfl ?_
      refine g_icmp_ge C 53 dX5_heightOf_15 (by decide) (fun h15 => ?_) (fun h15 => ?_)
      · refine g_iload_n C 1 dX5_heightOf_53 rfl rfl ?_
        exact g_iret C hQ rfl rfl dX5_heightOf_54 (by decide) (by decide) ⟨rfl, Mg, rfl, sv (by unfold mHgt; rw [hgL]; exact hF.symm), hk⟩
      · exact absurd (nI_le (show l9.length ≤ i9 by omega) (by omega)) h15
    | succ k9 ih =>
      intro i9 s9 hin hF
      have hl9 : i9 < l9.length := by omega
      have hlq : l9[i9] < n := hs.lt (List.getElem_mem hl9)
      rw [List.drop_eq_getElem_cons hl9, sK] at hF
      refine g_iload C 0 dX5_heightOf_12 rfl ?_
      refine g_iload_n C 2 dX5_heightOf_14 rfl rfl ?_
      refine g_icmp_ge C 53 dX5_heightOf_15 (by decide) (fun h15 => ?_) (fun h15 => ?_)
      · exact absurd ((nI_leI (by omega) (by omega)).mp h15) (by omega)
      · refine g_iload C 0 dX5_heightOf_18 rfl ?_
        refine g_aload_n C 3 dX5_heightOf_20 rfl rfl ?_
        refine mg_13 C lk_X5_35 dX5_heightOf_21 ?_
        refine g_vi (M 13 0) (congrFun (hk 13 (by decide)) 0) ?_
        refine g_icmp_ge C 53 dX5_heightOf_24 (by decide) (fun h24 => ?_) (fun h24 => ?_)
        · rw [if_pos h24] at hF
          refine g_iload_n C 1 dX5_heightOf_53 rfl rfl ?_
          exact g_iret C hQ rfl rfl dX5_heightOf_54 (by decide) (by decide) ⟨rfl, Mg, rfl, sv (by unfold mHgt; rw [hgL]; exact hF.symm), hk⟩
        · refine g_iload_n C 1 dX5_heightOf_27 rfl rfl ?_
          refine g_aload_n C 3 dX5_heightOf_28 rfl rfl ?_
          refine mg_5 C lk_X5_19 dX5_heightOf_29 ?_
          refine g_bipush C 40 dX5_heightOf_32 (by decide) ?_
          refine g_iload_n C 4 dX5_heightOf_34 rfl rfl ?_
          refine g_imul C dX5_heightOf_35 ?_
          refine g_aload_n C 3 dX5_heightOf_36 rfl rfl ?_
          refine mg_25 C lk_X5_63 dX5_heightOf_37 ?_
          refine g_iload C 0 dX5_heightOf_40 rfl ?_
          refine ml_25 C i9 rfl (by omega) dX5_heightOf_42 ?_
          refine g_vi (nI l9[i9]) (hr i9 hl9) ?_
          refine g_iadd C dX5_heightOf_43 ?_
          refine ml_5 C (40 * i + (l9[i9])) (nI_ab i (l9[i9])) (by omega) dX5_heightOf_44 ?_
          refine g_vi (M 5 (40 * i + (l9[i9]))) (congrFun (hk 5 (by decide)) (40 * i + (l9[i9]))) ?_
          refine g_iadd C dX5_heightOf_45 ?_
          refine g_istore_n C [(3, .int (s9 + (M 5 (40 * i + (l9[i9]))))), (4, .int (nI i9)), (2, .int (nI l9.length)), (0, .ref o), (1, .int (nI i))] dX5_heightOf_46 rfl (by decide) rfl ?_
          refine g_iinc C (nI (i9 + 1)) 1 [(4, .int (nI (i9 + 1))), (3, .int (s9 + (M 5 (40 * i + (l9[i9]))))), (2, .int (nI l9.length)), (0, .ref o), (1, .int (nI i))] dX5_heightOf_47 rfl (nI_1 i9) (by decide) rfl ?_
          refine g_goto C 12 dX5_heightOf_50 (by decide) ?_
          exact ih (i9 + 1) _ (by omega) (by rw [if_neg h24] at hF; exact hF)
  exact loop l9.length 0 0 (by omega) rfl
set_option maxRecDepth 100000 in
theorem c_mheight (l : Launch) (E : Ev) (o : Nat) (a : Nat → Nat) (M : MM) (Y : va_W) (S : HS) {n : Nat} (hn : M 1 0 = nI n) (h40 : n ≤ 40) {i : Nat} (hi : i < n) : Ctr l yX5_height (Cond.code yX5_height cX5_height 2 (some .int)) 4 0 0 E [.ref o, .int (nI i)] (mw E o a M ++ Y) S (PoM E o a Y S (fun v M2 => some (.int (mHgt M i n)) = v ∧ M2 0 0 = 0 ∧ ∀ k, k ≠ 0 → k ≠ 25 → M2 k = M k)) := by
  refine Ctr.ofG (by decide) [(0, .ref o), (1, .int (nI i))] rfl (Nat.le_of_ble_eq_true rfl) ?_
  intro p e s m args below meth c A Q C hQ
  refine g_aload_n C 0 dX5_height_0 rfl rfl ?_
  refine g_aload_n C 0 dX5_height_1 rfl rfl ?_
  refine g_iload_n C 1 dX5_height_2 rfl rfl ?_
  refine g_callV C [.int (nI i)] [.ref o] (c_misNet l E o a M Y S (nI i)) ⟨0, mfs a M, rfl⟩ rfl cm_X5_isNet wv_X5_80 ds_X5_isNet rfl rfl (Nat.le_of_ble_eq_true rfl) (by decide) (by decide) dX5_height_3 ?_
  rintro v9 X2 S2 ⟨rfl, M9, rfl, rfl, rfl⟩
  rw [show isn M (nI i) = true from isn_t hn h40 hi]
  refine g_if_eq C 13 dX5_height_6 (by decide) (fun h6 => ?_) (fun h6 => ?_)
  · exact absurd h6 (by decide)
  · refine g_iconst C 0 dX5_height_9 (by decide) ?_
    refine g_goto C 14 dX5_height_10 (by decide) ?_
    refine mp_0 C lk_X5_69 dX5_height_14 (fun M1 hM1 => ?_)
    refine g_aload_n C 0 dX5_height_17 rfl rfl ?_
    refine mg_0 C lk_X5_69 dX5_height_18 ?_
    refine g_vi 0 (u2_at hM1) ?_
    refine g_if_le C 28 dX5_height_21 (by decide) (fun h21 => ?_) (fun h21 => ?_)
    · refine g_aload_n C 0 dX5_height_28 rfl rfl ?_
      refine g_iload_n C 1 dX5_height_29 rfl rfl ?_
      refine g_callV C [.int (nI i)] [] (c_mheightOf l E o a M1 Y S (n := n) ((congrFun (u2_row hM1 (by decide)) 0).trans hn) h40 hi) ⟨0, mfs a M1, rfl⟩ rfl cm_X5_heightOf wv_X5_123 ds_X5_heightOf rfl rfl (Nat.le_of_ble_eq_true rfl) (by decide) (by decide) dX5_height_30 ?_
      rintro v9 X2 S2 ⟨rfl, Mh, rfl, rfl, hk⟩
      exact g_iret C hQ rfl rfl dX5_height_33 (by decide) (by decide) ⟨rfl, Mh, rfl, sv (mHgt_cg (u2_row hM1 (by decide)) (u2_row hM1 (by decide)) (u2_row hM1 (by decide)) (u2_row hM1 (by decide))).symm, (congrFun (hk 0 (by decide)) 0).trans (u2_at hM1), fun k h0 h25 => by rw [hk k h25, u2_row hM1 h0]⟩
    · exact absurd h21 (by decide)
set_option maxRecDepth 100000 in
theorem c_mheightB (l : Launch) (E : Ev) (o : Nat) (a : Nat → Nat) (M : MM) (Y : va_W) (S : HS) {v : Int32} (hv : isn M v = false) : Ctr l yX5_height (Cond.code yX5_height cX5_height 2 (some .int)) 4 0 0 E [.ref o, .int v] (mw E o a M ++ Y) S (PoM E o a Y S (fun v2 M2 => some (.int 0) = v2 ∧ u2 M 0 0 1 = M2)) := by
  refine Ctr.ofG (by decide) [(0, .ref o), (1, .int v)] rfl (Nat.le_of_ble_eq_true rfl) ?_
  intro p e s m args below meth c A Q C hQ
  refine g_aload_n C 0 dX5_height_0 rfl rfl ?_
  refine g_aload_n C 0 dX5_height_1 rfl rfl ?_
  refine g_iload_n C 1 dX5_height_2 rfl rfl ?_
  refine g_callV C [.int v] [.ref o] (c_misNet l E o a M Y S v) ⟨0, mfs a M, rfl⟩ rfl cm_X5_isNet wv_X5_80 ds_X5_isNet rfl rfl (Nat.le_of_ble_eq_true rfl) (by decide) (by decide) dX5_height_3 ?_
  rintro v9 X2 S2 ⟨rfl, M9, rfl, rfl, rfl⟩
  rw [show isn M v = false from hv]
  refine g_if_eq C 13 dX5_height_6 (by decide) (fun h6 => ?_) (fun h6 => ?_)
  · refine g_iconst C 1 dX5_height_13 (by decide) ?_
    refine mp_0 C lk_X5_69 dX5_height_14 (fun M1 hM1 => ?_)
    refine g_aload_n C 0 dX5_height_17 rfl rfl ?_
    refine mg_0 C lk_X5_69 dX5_height_18 ?_
    refine g_vi 1 (u2_at hM1) ?_
    refine g_if_le C 28 dX5_height_21 (by decide) (fun h21 => ?_) (fun h21 => ?_)
    · exact absurd h21 (by decide)
    · refine g_iconst C 0 dX5_height_24 (by decide) ?_
      refine g_goto C 33 dX5_height_25 (by decide) ?_
      exact g_iret C hQ rfl rfl dX5_height_33 (by decide) (by decide) ⟨rfl, M1, rfl, rfl, hM1⟩
  · exact absurd h6 (by decide)
def nth (l : List Nat) (k : Nat) : Int32 := match l[k]? with
  | some q => nI q
  | none => -1
theorem nth_in {l : List Nat} {k : Nat} (h : k < l.length) : nth l k = nI l[k] := by unfold nth; rw [List.getElem?_eq_getElem h]
theorem nth_out {l : List Nat} {k : Nat} (h : l.length ≤ k) : nth l k = -1 := by unfold nth; rw [List.getElem?_eq_none h]
set_option maxRecDepth 100000 in
theorem c_msource (l : Launch) (E : Ev) (o : Nat) (a : Nat → Nat) (M : MM) (Y : va_W) (S : HS) {n : Nat} (hn : M 1 0 = nI n) (h40 : n ≤ 40) {i kq : Nat} (hi : i < n) (hkq : kq < 2 ^ 31) : Ctr l yX5_source (Cond.code yX5_source cX5_source 3 (some .int)) 4 0 0 E [.ref o, .int (nI i), .int (nI kq)] (mw E o a M ++ Y) S (PoM E o a Y S (fun v M2 => some (.int (nth (gL M i n true) kq)) = v ∧ M2 0 0 = 0 ∧ ∀ k, k ≠ 0 → k ≠ 25 → M2 k = M k)) := by
  refine Ctr.ofG (by decide) [(0, .ref o), (1, .int (nI i)), (2, .int (nI kq))] rfl (Nat.le_of_ble_eq_true rfl) ?_
  intro p e s m args below meth c A Q C hQ
  refine g_aload_n C 0 dX5_source_0 rfl rfl ?_
  refine g_aload_n C 0 dX5_source_1 rfl rfl ?_
  refine g_iload_n C 1 dX5_source_2 rfl rfl ?_
  refine g_callV C [.int (nI i)] [.ref o] (c_misNet l E o a M Y S (nI i)) ⟨0, mfs a M, rfl⟩ rfl cm_X5_isNet wv_X5_80 ds_X5_isNet rfl rfl (Nat.le_of_ble_eq_true rfl) (by decide) (by decide) dX5_source_3 ?_
  rintro v9 X2 S2 ⟨rfl, M9, rfl, rfl, rfl⟩
  rw [show isn M (nI i) = true from isn_t hn h40 hi]
  refine g_if_eq C 13 dX5_source_6 (by decide) (fun h6 => ?_) (fun h6 => ?_)
  · exact absurd h6 (by decide)
  · refine g_iload_n C 2 dX5_source_9 rfl rfl ?_
    refine g_if_ge C 17 dX5_source_10 (by decide) (fun h10 => ?_) (fun h10 => ?_)
    · refine g_iconst C 0 dX5_source_17 (by decide) ?_
      refine mp_0 C lk_X5_69 dX5_source_18 (fun M1 hM1 => ?_)
      refine g_aload_n C 0 dX5_source_21 rfl rfl ?_
      refine mg_0 C lk_X5_69 dX5_source_22 ?_
      refine g_vi 0 (u2_at hM1) ?_
      refine g_if_le C 30 dX5_source_25 (by decide) (fun h25 => ?_) (fun h25 => ?_)
      · refine g_iload_n C 2 dX5_source_30 rfl rfl ?_
        refine g_aload_n C 0 dX5_source_31 rfl rfl ?_
        refine g_iload_n C 1 dX5_source_32 rfl rfl ?_
        refine g_iconst C 1 dX5_source_33 (by decide) ?_
        rw [show (1 : Int32) = bI true from rfl]
        refine g_callV C [.int (nI i), .int (bI true)] [.int (nI kq)] (c_mgather l E o a M1 Y S (n := n) ((congrFun (u2_row hM1 (by decide)) 0).trans hn) h40 hi true) ⟨0, mfs a M1, rfl⟩ rfl cm_X5_gather wv_X5_107 ds_X5_gather rfl rfl (Nat.le_of_ble_eq_true rfl) (by decide) (by decide) dX5_source_34 ?_
        rintro v9 X2 S2 ⟨rfl, Mg, rfl, l9, rfl, hs, hr, hk⟩
        have hln := hs.len
        have hs2 : srcs M i n true l9 := (srcs_cg (u2_row hM1 (by decide)) (u2_row hM1 (by decide)) (u2_row hM1 (by decide)) (Or.inl rfl)).mp hs
        have hgL := gL_of (by omega) hs2
        refine g_icmp_ge C 49 dX5_source_37 (by decide) (fun h37 => ?_) (fun h37 => ?_)
        · refine g_iconst C (-1) dX5_source_49 (by decide) ?_
          exact g_iret C hQ rfl rfl dX5_source_50 (by decide) (by decide) ⟨rfl, Mg, rfl, sv (by rw [hgL]; exact nth_out ((nI_leI (by omega) hkq).mp h37)), (congrFun (hk 0 (by decide)) 0).trans (u2_at hM1), fun k h0 h25 => by rw [hk k h25, u2_row hM1 h0]⟩
        · have hkl : kq < l9.length := Nat.not_le.mp (fun q => h37 ((nI_leI (by omega) hkq).mpr q))
          refine g_aload_n C 0 dX5_source_40 rfl rfl ?_
          refine mg_25 C lk_X5_63 dX5_source_41 ?_
          refine g_iload_n C 2 dX5_source_44 rfl rfl ?_
          refine ml_25 C kq rfl (by omega) dX5_source_45 ?_
          refine g_vi (nI l9[kq]) (hr kq hkl) ?_
          refine g_goto C 50 dX5_source_46 (by decide) ?_
          exact g_iret C hQ rfl rfl dX5_source_50 (by decide) (by decide) ⟨rfl, Mg, rfl, sv (by rw [hgL]; exact nth_in hkl), (congrFun (hk 0 (by decide)) 0).trans (u2_at hM1), fun k h0 h25 => by rw [hk k h25, u2_row hM1 h0]⟩
      · exact absurd h25 (by decide)
    · exact absurd (Int32.not_lt.mp (nI_pos hkq)) h10
set_option maxRecDepth 100000 in
theorem c_msourceB (l : Launch) (E : Ev) (o : Nat) (a : Nat → Nat) (M : MM) (Y : va_W) (S : HS) {x z : Int32} (h : isn M x = false ∨ z < 0) : Ctr l yX5_source (Cond.code yX5_source cX5_source 3 (some .int)) 4 0 0 E [.ref o, .int x, .int z] (mw E o a M ++ Y) S (PoM E o a Y S (fun v M2 => some (.int 0) = v ∧ u2 M 0 0 1 = M2)) := by
  refine Ctr.ofG (by decide) [(0, .ref o), (1, .int x), (2, .int z)] rfl (Nat.le_of_ble_eq_true rfl) ?_
  intro p e s m args below meth c A Q C hQ
  refine g_aload_n C 0 dX5_source_0 rfl rfl ?_
  refine g_aload_n C 0 dX5_source_1 rfl rfl ?_
  refine g_iload_n C 1 dX5_source_2 rfl rfl ?_
  refine g_callV C [.int x] [.ref o] (c_misNet l E o a M Y S x) ⟨0, mfs a M, rfl⟩ rfl cm_X5_isNet wv_X5_80 ds_X5_isNet rfl rfl (Nat.le_of_ble_eq_true rfl) (by decide) (by decide) dX5_source_3 ?_
  rintro v9 X2 S2 ⟨rfl, M9, rfl, rfl, rfl⟩
  refine g_if_eq C 13 dX5_source_6 (by decide) (fun h6 => ?_) (fun h6 => ?_)
  · refine g_iconst C 1 dX5_source_13 (by decide) ?_
    refine g_goto C 18 dX5_source_14 (by decide) ?_
    refine mp_0 C lk_X5_69 dX5_source_18 (fun M1 hM1 => ?_)
    refine g_aload_n C 0 dX5_source_21 rfl rfl ?_
    refine mg_0 C lk_X5_69 dX5_source_22 ?_
    refine g_vi 1 (u2_at hM1) ?_
    refine g_if_le C 30 dX5_source_25 (by decide) (fun h25 => ?_) (fun h25 => ?_)
    · exact absurd h25 (by decide)
    · refine g_iconst C 0 dX5_source_28 (by decide) ?_
      exact g_iret C hQ rfl rfl dX5_source_29 (by decide) (by decide) ⟨rfl, M1, rfl, rfl, hM1⟩
  · refine g_iload_n C 2 dX5_source_9 rfl rfl ?_
    refine g_if_ge C 17 dX5_source_10 (by decide) (fun h10 => ?_) (fun h10 => ?_)
    · exact absurd h (fun q => q.elim (fun z => absurd (bI_1 h6) (by rw [z]; decide)) (fun z => Int32.not_le.mpr z h10))
    · refine g_iconst C 1 dX5_source_13 (by decide) ?_
      refine g_goto C 18 dX5_source_14 (by decide) ?_
      refine mp_0 C lk_X5_69 dX5_source_18 (fun M1 hM1 => ?_)
      refine g_aload_n C 0 dX5_source_21 rfl rfl ?_
      refine mg_0 C lk_X5_69 dX5_source_22 ?_
      refine g_vi 1 (u2_at hM1) ?_
      refine g_if_le C 30 dX5_source_25 (by decide) (fun h25 => ?_) (fun h25 => ?_)
      · exact absurd h25 (by decide)
      · refine g_iconst C 0 dX5_source_28 (by decide) ?_
        exact g_iret C hQ rfl rfl dX5_source_29 (by decide) (by decide) ⟨rfl, M1, rfl, rfl, hM1⟩
