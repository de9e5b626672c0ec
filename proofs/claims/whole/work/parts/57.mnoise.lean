theorem stgs_cg {M M2 : MM} {n st : Nat} {F T : Nat → Nat} (h9 : M2 9 = M 9) (h10 : M2 10 = M 10) (h11 : M2 11 = M 11) (h : stgs M n st F T) : stgs M2 n st F T := by
  unfold stgs
  rw [h9, h10, h11]; exact h
def mstg (M M2 : MM) (st i j : Nat) (d : Int32) : Prop := M2 0 0 = 0 ∧ M2 9 0 = nI st + 1 ∧ M2 10 = upd (M 10) st (nI i) ∧ M2 11 = upd (M 11) st (nI j) ∧ M2 12 = upd (M 12) st d ∧ ∀ k, k ≠ 0 → k ≠ 9 → k ≠ 10 → k ≠ 11 → k ≠ 12 → k ≠ 24 → M2 k = M k
/-- what comes through to net q, stage by stage -/
def nzI (F T : Nat → Nat) (hs ts : Nat → Int32) (r : Nat) (nz : Nat → Int32) (q : Nat) : Nat → Nat → Int32 → Int32
  | 0, _, m => m
  | k + 1, s, m => nzI F T hs ts r nz q k (s + 1) (if (if T s = q then thM hs ts (nz (F s)) r 0 0 else 0) ≤ m then m else (if T s = q then thM hs ts (nz (F s)) r 0 0 else 0))
def nzN (F T : Nat → Nat) (st : Nat) (hs ts : Nat → Int32) (r : Nat) (hg : Nat → Int32) (q : Nat) (nz : Nat → Int32) : Nat → Int32 := upd nz q (hg q + nzI F T hs ts r nz q st 0 0)
def nzP (F T : Nat → Nat) (st : Nat) (hs ts : Nat → Int32) (r : Nat) (hg : Nat → Int32) : Nat → Nat → (Nat → Int32) → (Nat → Int32)
  | 0, _, z => z
  | m + 1, q, z => nzP F T st hs ts r hg m (q + 1) (nzN F T st hs ts r hg q z)
def nzR (F T : Nat → Nat) (st n : Nat) (hs ts : Nat → Int32) (r : Nat) (hg : Nat → Int32) : Nat → (Nat → Int32) → (Nat → Int32)
  | 0, z => z
  | m + 1, z => nzR F T st n hs ts r hg m (nzP F T st hs ts r hg n 0 z)
set_option maxRecDepth 100000 in
theorem c_mstage (l : Launch) (E : Ev) (o : Nat) (a : Nat → Nat) (M : MM) (Y : va_W) (S : HS) {n : Nat} (hn : M 1 0 = nI n) (h40 : n ≤ 40) {st : Nat} {F T : Nat → Nat} (hst : stgs M n st F T) (hs8 : st < 80) {i j : Nat} (hi : i < n) (hj : j < n) (hij : i ≠ j) {sh : Int32} (hs : wi sh 0 100000 = true) : Ctr l yX5_stage (Cond.code yX5_stage cX5_stage 4 (some .int)) 2 0 0 E [.ref o, .int (nI i), .int (nI j), .int sh] (mw E o a M ++ Y) S (PoM E o a Y S (fun v M2 => (ldR F T st n (fun k => decide (k = j)) i = true ∧ some (.int (-1)) = v ∧ M2 0 0 = 0 ∧ ∀ k, k ≠ 0 → k ≠ 24 → M2 k = M k) ∨ (ldR F T st n (fun k => decide (k = j)) i = false ∧ some (.int (nI st + 1 - 1)) = v ∧ mstg M M2 st i j sh))) := by
  refine Ctr.ofG (by decide) [(0, .ref o), (1, .int (nI i)), (2, .int (nI j)), (3, .int sh)] rfl (Nat.le_of_ble_eq_true rfl) ?_
  intro p e s m args below meth c A Q C hQ
  refine g_aload_n C 0 dX5_stage_0 rfl rfl ?_
  refine g_aload_n C 0 dX5_stage_1 rfl rfl ?_
  refine g_iload_n C 1 dX5_stage_2 rfl rfl ?_
  refine g_callV C [.int (nI i)] [.ref o] (c_misNet l E o a M Y S (nI i)) ⟨0, mfs a M, rfl⟩ rfl cm_X5_isNet wv_X5_80 ds_X5_isNet rfl rfl (Nat.le_of_ble_eq_true rfl) (by decide) (by decide) dX5_stage_3 ?_
  rintro v9 X2 S2 ⟨rfl, M9, rfl, rfl, rfl⟩
  rw [show isn M (nI i) = true from isn_t hn h40 hi]
  refine g_if_eq C 17 dX5_stage_6 (by decide) (fun h6 => ?_) (fun h6 => ?_)
  · exact absurd h6 (by decide)
  · refine g_aload_n C 0 dX5_stage_9 rfl rfl ?_
    refine g_iload_n C 2 dX5_stage_10 rfl rfl ?_
    refine g_callV C [.int (nI j)] [.ref o] (c_misNet l E o a M Y S (nI j)) ⟨0, mfs a M, rfl⟩ rfl cm_X5_isNet wv_X5_80 ds_X5_isNet rfl rfl (Nat.le_of_ble_eq_true rfl) (by decide) (by decide) dX5_stage_11 ?_
    rintro v9 X2 S2 ⟨rfl, M9, rfl, rfl, rfl⟩
    rw [show isn M (nI j) = true from isn_t hn h40 hj]
    refine g_if_ne C 21 dX5_stage_14 (by decide) (fun h14 => ?_) (fun h14 => ?_)
    · refine g_iload_n C 1 dX5_stage_21 rfl rfl ?_
      refine g_iload_n C 2 dX5_stage_22 rfl rfl ?_
      refine g_icmp_eq C 36 dX5_stage_23 (by decide) (fun h23 => ?_) (fun h23 => ?_)
      · exact absurd h23 (fun q => hij ((nI_eq (by omega) (by omega)).mp q))
      · refine g_iload_n C 3 dX5_stage_26 rfl rfl ?_
        refine g_iconst C 0 dX5_stage_27 (by decide) ?_
        refine g_ldc C kc_X5_93 dX5_stage_28 ?_
        refine g_callS C [.int sh, .int 0, .int 100000] [.ref o] (c_mwithin l E (mw E o a M ++ Y) S sh 0 100000) cm_X5_within wst_X5_76 dt_X5_within rfl rfl (Nat.le_of_ble_eq_true rfl) (by decide) (by decide) dX5_stage_30 ?_
        rintro v9 X2 S2 ⟨rfl, rfl, rfl⟩
        rw [show wi sh 0 100000 = true from hs]
        refine g_if_ne C 40 dX5_stage_33 (by decide) (fun h33 => ?_) (fun h33 => ?_)
        · refine g_aload_n C 0 dX5_stage_40 rfl rfl ?_
          refine mg_9 C lk_X5_90 dX5_stage_41 ?_
          refine g_vi (nI st) (hst.1) ?_
          refine g_bipush C 80 dX5_stage_44 (by decide) ?_
          refine g_icmp_ne C 53 dX5_stage_46 (by decide) (fun h46 => ?_) (fun h46 => ?_)
          · refine g_iconst C 0 dX5_stage_53 (by decide) ?_
            refine mp_0 C lk_X5_69 dX5_stage_54 (fun M1 hM1 => ?_)
            refine g_aload_n C 0 dX5_stage_57 rfl rfl ?_
            refine mg_0 C lk_X5_69 dX5_stage_58 ?_
            refine g_vi 0 (u2_at hM1) ?_
            refine g_if_le C 66 dX5_stage_61 (by decide) (fun h61 => ?_) (fun h61 => ?_)
            · refine g_aload_n C 0 dX5_stage_66 rfl rfl ?_
              refine g_iload_n C 2 dX5_stage_67 rfl rfl ?_
              refine g_iload_n C 1 dX5_stage_68 rfl rfl ?_
              refine g_callV C [.int (nI j), .int (nI i)] [] (c_mleads l E o a M1 Y S (n := n) ((congrFun (u2_row hM1 (by decide)) 0).trans hn) h40 (stgs_cg (u2_row hM1 (by decide)) (u2_row hM1 (by decide)) (u2_row hM1 (by decide)) hst) hj hi) ⟨0, mfs a M1, rfl⟩ rfl cm_X5_leads wv_X5_94 ds_X5_leads rfl rfl (Nat.le_of_ble_eq_true rfl) (by decide) (by decide) dX5_stage_69 ?_
              rintro v9 X2 S2 ⟨rfl, Ml, rfl, rfl, hk⟩
              refine g_if_eq C 77 dX5_stage_72 (by decide) (fun h72 => ?_) (fun h72 => ?_)
              · refine g_aload_n C 0 dX5_stage_77 rfl rfl ?_
                refine mg_10 C lk_X5_26 dX5_stage_78 ?_
                refine g_aload_n C 0 dX5_stage_81 rfl rfl ?_
                refine mg_9 C lk_X5_90 dX5_stage_82 ?_
                refine g_vi (nI st) ((congrFun ((hk 9 (by decide)).trans (u2_row hM1 (by decide))) 0).trans (hst.1)) ?_
                refine g_iload_n C 1 dX5_stage_85 rfl rfl ?_
                refine ms_10 C st rfl (by omega) dX5_stage_86 (fun M2 hM2 => ?_)
                refine g_aload_n C 0 dX5_stage_87 rfl rfl ?_
                refine mg_11 C lk_X5_29 dX5_stage_88 ?_
                refine g_aload_n C 0 dX5_stage_91 rfl rfl ?_
                refine mg_9 C lk_X5_90 dX5_stage_92 ?_
                refine g_vi (nI st) ((congrFun (((u2_row hM2 (by decide)).trans (hk 9 (by decide))).trans (u2_row hM1 (by decide))) 0).trans (hst.1)) ?_
                refine g_iload_n C 2 dX5_stage_95 rfl rfl ?_
                refine ms_11 C st rfl (by omega) dX5_stage_96 (fun M3 hM3 => ?_)
                refine g_aload_n C 0 dX5_stage_97 rfl rfl ?_
                refine mg_12 C lk_X5_32 dX5_stage_98 ?_
                refine g_aload_n C 0 dX5_stage_101 rfl rfl ?_
                refine mg_9 C lk_X5_90 dX5_stage_102 ?_
                refine g_vi (nI st) ((congrFun ((((u2_row hM3 (by decide)).trans (u2_row hM2 (by decide))).trans (hk 9 (by decide))).trans (u2_row hM1 (by decide))) 0).trans (hst.1)) ?_
                refine g_iload_n C 3 dX5_stage_105 rfl rfl ?_
                refine ms_12 C st rfl (by omega) dX5_stage_106 (fun M4 hM4 => ?_)
                refine g_aload_n C 0 dX5_stage_107 rfl rfl ?_
                refine g_dup C dX5_stage_108 rfl ?_
                refine mg_9 C lk_X5_90 dX5_stage_109 ?_
                refine g_vi (nI st) ((congrFun (((((u2_row hM4 (by decide)).trans (u2_row hM3 (by decide))).trans (u2_row hM2 (by decide))).trans (hk 9 (by decide))).trans (u2_row hM1 (by decide))) 0).trans (hst.1)) ?_
                refine g_iconst C 1 dX5_stage_112 (by decide) ?_
                refine g_iadd C dX5_stage_113 ?_
                refine mp_9 C lk_X5_90 dX5_stage_114 (fun M5 hM5 => ?_)
                refine g_aload_n C 0 dX5_stage_117 rfl rfl ?_
                refine mg_9 C lk_X5_90 dX5_stage_118 ?_
                refine g_vi ((nI st) + 1) (u2_at hM5) ?_
                refine g_iconst C 1 dX5_stage_121 (by decide) ?_
                refine g_isub C dX5_stage_122 ?_
                exact g_iret C hQ rfl rfl dX5_stage_123 (by decide) (by decide) ⟨rfl, M5, rfl, Or.inr ⟨bI_0 h72, rfl, by rw [u2_row hM5 (by decide), u2_row hM4 (by decide), u2_row hM3 (by decide), u2_row hM2 (by decide), hk 0 (by decide)]; exact u2_at hM1, u2_at hM5, by rw [u2_row hM5 (by decide), u2_row hM4 (by decide), u2_row hM3 (by decide), u2_rowU hM2, hk 10 (by decide), u2_row hM1 (by decide)], by rw [u2_row hM5 (by decide), u2_row hM4 (by decide), u2_rowU hM3, u2_row hM2 (by decide), hk 11 (by decide), u2_row hM1 (by decide)], by rw [u2_row hM5 (by decide), u2_rowU hM4, u2_row hM3 (by decide), u2_row hM2 (by decide), hk 12 (by decide), u2_row hM1 (by decide)], fun k h0 h9 h10 h11 h12 h24 => by rw [u2_row hM5 h9, u2_row hM4 h12, u2_row hM3 h11, u2_row hM2 h10, hk k h24, u2_row hM1 h0]⟩⟩
              · refine g_iconst C (-1) dX5_stage_75 (by decide) ?_
                exact g_iret C hQ rfl rfl dX5_stage_76 (by decide) (by decide) ⟨rfl, Ml, rfl, Or.inl ⟨bI_1 h72, rfl, (congrFun (hk 0 (by decide)) 0).trans (u2_at hM1), fun k h0 h24 => by rw [hk k h24, u2_row hM1 h0]⟩⟩
            · exact absurd h61 (by decide)
          · exact absurd ((nI_eq (b := 80) (by omega) (by decide)).mp h46) (by omega)
        · exact absurd h33 (by decide)
    · exact absurd h14 (by decide)
set_option maxRecDepth 100000 in
theorem c_mstageB2 (l : Launch) (E : Ev) (o : Nat) (a : Nat → Nat) (M : MM) (Y : va_W) (S : HS) {n : Nat} (hn : M 1 0 = nI n) (h40 : n ≤ 40) {i j : Nat} (hi : i < n) (hj : j < n) {sh : Int32} (h : i = j ∨ wi sh 0 100000 = false) : Ctr l yX5_stage (Cond.code yX5_stage cX5_stage 4 (some .int)) 2 0 0 E [.ref o, .int (nI i), .int (nI j), .int sh] (mw E o a M ++ Y) S (PoM E o a Y S (fun v M2 => some (.int 0) = v ∧ u2 M 0 0 2 = M2)) := by
  refine Ctr.ofG (by decide) [(0, .ref o), (1, .int (nI i)), (2, .int (nI j)), (3, .int sh)] rfl (Nat.le_of_ble_eq_true rfl) ?_
  intro p e s m args below meth c A Q C hQ
  refine g_aload_n C 0 dX5_stage_0 rfl rfl ?_
  refine g_aload_n C 0 dX5_stage_1 rfl rfl ?_
  refine g_iload_n C 1 dX5_stage_2 rfl rfl ?_
  refine g_callV C [.int (nI i)] [.ref o] (c_misNet l E o a M Y S (nI i)) ⟨0, mfs a M, rfl⟩ rfl cm_X5_isNet wv_X5_80 ds_X5_isNet rfl rfl (Nat.le_of_ble_eq_true rfl) (by decide) (by decide) dX5_stage_3 ?_
  rintro v9 X2 S2 ⟨rfl, M9, rfl, rfl, rfl⟩
  rw [show isn M (nI i) = true from isn_t hn h40 hi]
  refine g_if_eq C 17 dX5_stage_6 (by decide) (fun h6 => ?_) (fun h6 => ?_)
  · exact absurd h6 (by decide)
  · refine g_aload_n C 0 dX5_stage_9 rfl rfl ?_
    refine g_iload_n C 2 dX5_stage_10 rfl rfl ?_
    refine g_callV C [.int (nI j)] [.ref o] (c_misNet l E o a M Y S (nI j)) ⟨0, mfs a M, rfl⟩ rfl cm_X5_isNet wv_X5_80 ds_X5_isNet rfl rfl (Nat.le_of_ble_eq_true rfl) (by decide) (by decide) dX5_stage_11 ?_
    rintro v9 X2 S2 ⟨rfl, M9, rfl, rfl, rfl⟩
    rw [show isn M (nI j) = true from isn_t hn h40 hj]
    refine g_if_ne C 21 dX5_stage_14 (by decide) (fun h14 => ?_) (fun h14 => ?_)
    · refine g_iload_n C 1 dX5_stage_21 rfl rfl ?_
      refine g_iload_n C 2 dX5_stage_22 rfl rfl ?_
      refine g_icmp_eq C 36 dX5_stage_23 (by decide) (fun h23 => ?_) (fun h23 => ?_)
      · refine g_iconst C 2 dX5_stage_36 (by decide) ?_
        refine g_goto C 54 dX5_stage_37 (by decide) ?_
        refine mp_0 C lk_X5_69 dX5_stage_54 (fun M1 hM1 => ?_)
        refine g_aload_n C 0 dX5_stage_57 rfl rfl ?_
        refine mg_0 C lk_X5_69 dX5_stage_58 ?_
        refine g_vi 2 (u2_at hM1) ?_
        refine g_if_le C 66 dX5_stage_61 (by decide) (fun h61 => ?_) (fun h61 => ?_)
        · exact absurd h61 (by decide)
        · refine g_iconst C 0 dX5_stage_64 (by decide) ?_
          exact g_iret C hQ rfl rfl dX5_stage_65 (by decide) (by decide) ⟨rfl, M1, rfl, rfl, hM1⟩
      · refine g_iload_n C 3 dX5_stage_26 rfl rfl ?_
        refine g_iconst C 0 dX5_stage_27 (by decide) ?_
        refine g_ldc C kc_X5_93 dX5_stage_28 ?_
        refine g_callS C [.int sh, .int 0, .int 100000] [.ref o] (c_mwithin l E (mw E o a M ++ Y) S sh 0 100000) cm_X5_within wst_X5_76 dt_X5_within rfl rfl (Nat.le_of_ble_eq_true rfl) (by decide) (by decide) dX5_stage_30 ?_
        rintro v9 X2 S2 ⟨rfl, rfl, rfl⟩
        refine g_if_ne C 40 dX5_stage_33 (by decide) (fun h33 => ?_) (fun h33 => ?_)
        · exact absurd h (fun q => q.elim (fun z => h23 (congrArg nI z)) (fun z => absurd (bI_1 h33) (by rw [z]; decide)))
        · refine g_iconst C 2 dX5_stage_36 (by decide) ?_
          refine g_goto C 54 dX5_stage_37 (by decide) ?_
          refine mp_0 C lk_X5_69 dX5_stage_54 (fun M1 hM1 => ?_)
          refine g_aload_n C 0 dX5_stage_57 rfl rfl ?_
          refine mg_0 C lk_X5_69 dX5_stage_58 ?_
          refine g_vi 2 (u2_at hM1) ?_
          refine g_if_le C 66 dX5_stage_61 (by decide) (fun h61 => ?_) (fun h61 => ?_)
          · exact absurd h61 (by decide)
          · refine g_iconst C 0 dX5_stage_64 (by decide) ?_
            exact g_iret C hQ rfl rfl dX5_stage_65 (by decide) (by decide) ⟨rfl, M1, rfl, rfl, hM1⟩
    · exact absurd h14 (by decide)
set_option maxRecDepth 100000 in
theorem c_mstageF (l : Launch) (E : Ev) (o : Nat) (a : Nat → Nat) (M : MM) (Y : va_W) (S : HS) {n : Nat} (hn : M 1 0 = nI n) (h40 : n ≤ 40) {i j : Nat} (hi : i < n) (hj : j < n) (hij : i ≠ j) {sh : Int32} (hs : wi sh 0 100000 = true) (h8 : M 9 0 = 80) : Ctr l yX5_stage (Cond.code yX5_stage cX5_stage 4 (some .int)) 2 0 0 E [.ref o, .int (nI i), .int (nI j), .int sh] (mw E o a M ++ Y) S (PoM E o a Y S (fun v M2 => some (.int 0) = v ∧ u2 M 0 0 3 = M2)) := by
  refine Ctr.ofG (by decide) [(0, .ref o), (1, .int (nI i)), (2, .int (nI j)), (3, .int sh)] rfl (Nat.le_of_ble_eq_true rfl) ?_
  intro p e s m args below meth c A Q C hQ
  refine g_aload_n C 0 dX5_stage_0 rfl rfl ?_
  refine g_aload_n C 0 dX5_stage_1 rfl rfl ?_
  refine g_iload_n C 1 dX5_stage_2 rfl rfl ?_
  refine g_callV C [.int (nI i)] [.ref o] (c_misNet l E o a M Y S (nI i)) ⟨0, mfs a M, rfl⟩ rfl cm_X5_isNet wv_X5_80 ds_X5_isNet rfl rfl (Nat.le_of_ble_eq_true rfl) (by decide) (by decide) dX5_stage_3 ?_
  rintro v9 X2 S2 ⟨rfl, M9, rfl, rfl, rfl⟩
  rw [show isn M (nI i) = true from isn_t hn h40 hi]
  refine g_if_eq C 17 dX5_stage_6 (by decide) (fun h6 => ?_) (fun h6 => ?_)
  · exact absurd h6 (by decide)
  · refine g_aload_n C 0 dX5_stage_9 rfl rfl ?_
    refine g_iload_n C 2 dX5_stage_10 rfl rfl ?_
    refine g_callV C [.int (nI j)] [.ref o] (c_misNet l E o a M Y S (nI j)) ⟨0, mfs a M, rfl⟩ rfl cm_X5_isNet wv_X5_80 ds_X5_isNet rfl rfl (Nat.le_of_ble_eq_true rfl) (by decide) (by decide) dX5_stage_11 ?_
    rintro v9 X2 S2 ⟨rfl, M9, rfl, rfl, rfl⟩
    rw [show isn M (nI j) = true from isn_t hn h40 hj]
    refine g_if_ne C 21 dX5_stage_14 (by decide) (fun h14 => ?_) (fun h14 => ?_)
    · refine g_iload_n C 1 dX5_stage_21 rfl rfl ?_
      refine g_iload_n C 2 dX5_stage_22 rfl rfl ?_
      refine g_icmp_eq C 36 dX5_stage_23 (by decide) (fun h23 => ?_) (fun h23 => ?_)
      · exact absurd h23 (fun q => hij ((nI_eq (by omega) (by omega)).mp q))
      · refine g_iload_n C 3 dX5_stage_26 rfl rfl ?_
        refine g_iconst C 0 dX5_stage_27 (by decide) ?_
        refine g_ldc C kc_X5_93 dX5_stage_28 ?_
        refine g_callS C [.int sh, .int 0, .int 100000] [.ref o] (c_mwithin l E (mw E o a M ++ Y) S sh 0 100000) cm_X5_within wst_X5_76 dt_X5_within rfl rfl (Nat.le_of_ble_eq_true rfl) (by decide) (by decide) dX5_stage_30 ?_
        rintro v9 X2 S2 ⟨rfl, rfl, rfl⟩
        rw [show wi sh 0 100000 = true from hs]
        refine g_if_ne C 40 dX5_stage_33 (by decide) (fun h33 => ?_) (fun h33 => ?_)
        · refine g_aload_n C 0 dX5_stage_40 rfl rfl ?_
          refine mg_9 C lk_X5_90 dX5_stage_41 ?_
          refine g_bipush C 80 dX5_stage_44 (by decide) ?_
          refine g_icmp_ne C 53 dX5_stage_46 (by decide) (fun h46 => ?_) (fun h46 => ?_)
          · exact absurd h8 h46
          · refine g_iconst C 3 dX5_stage_49 (by decide) ?_
            refine g_goto C 54 dX5_stage_50 (by decide) ?_
            refine mp_0 C lk_X5_69 dX5_stage_54 (fun M1 hM1 => ?_)
            refine g_aload_n C 0 dX5_stage_57 rfl rfl ?_
            refine mg_0 C lk_X5_69 dX5_stage_58 ?_
            refine g_vi 3 (u2_at hM1) ?_
            refine g_if_le C 66 dX5_stage_61 (by decide) (fun h61 => ?_) (fun h61 => ?_)
            · exact absurd h61 (by decide)
            · refine g_iconst C 0 dX5_stage_64 (by decide) ?_
              exact g_iret C hQ rfl rfl dX5_stage_65 (by decide) (by decide) ⟨rfl, M1, rfl, rfl, hM1⟩
        · exact absurd h33 (by decide)
    · exact absurd h14 (by decide)
set_option maxRecDepth 100000 in
theorem c_mnoise (l : Launch) (E : Ev) (o : Nat) (a : Nat → Nat) (M : MM) (Y : va_W) (S : HS) {n : Nat} (hn : M 1 0 = nI n) (h40 : n ≤ 40) {st : Nat} {F T : Nat → Nat} (hst : stgs M n st F T) {r : Nat} (hr : M 14 0 = nI r) (hr2 : r ≤ 20) {i : Nat} (hi : i < n) : Ctr l yX5_noise (Cond.code yX5_noise cX5_noise 7 (some .int)) 4 0 0 E [.ref o, .int (nI i)] (mw E o a M ++ Y) S (PoM E o a Y S (fun v M2 => ∃ z0 : Nat → Int32, (∀ j, j < n → z0 j = 0) ∧ some (.int (nzR F T st n (M 15) (M 16) r (fun q => mHgt M q n) n z0 i)) = v ∧ M2 0 0 = 0 ∧ ∀ k, k ≠ 0 → k ≠ 25 → k ≠ 26 → M2 k = M k)) := by
  refine Ctr.ofG (by decide) [(0, .ref o), (1, .int (nI i))] rfl (Nat.le_of_ble_eq_true rfl) ?_
  intro p e s m args below meth c A Q C hQ
  refine g_aload_n C 0 dX5_noise_0 rfl rfl ?_
  refine g_aload_n C 0 dX5_noise_1 rfl rfl ?_
  refine g_iload_n C 1 dX5_noise_2 rfl rfl ?_
  refine g_callV C [.int (nI i)] [.ref o] (c_misNet l E o a M Y S (nI i)) ⟨0, mfs a M, rfl⟩ rfl cm_X5_isNet wv_X5_80 ds_X5_isNet rfl rfl (Nat.le_of_ble_eq_true rfl) (by decide) (by decide) dX5_noise_3 ?_
  rintro v9 X2 S2 ⟨rfl, M9, rfl, rfl, rfl⟩
  rw [show isn M (nI i) = true from isn_t hn h40 hi]
  refine g_if_eq C 13 dX5_noise_6 (by decide) (fun h6 => ?_) (fun h6 => ?_)
  · exact absurd h6 (by decide)
  · refine g_iconst C 0 dX5_noise_9 (by decide) ?_
    refine g_goto C 14 dX5_noise_10 (by decide) ?_
    refine mp_0 C lk_X5_69 dX5_noise_14 (fun M1 hM1 => ?_)
    refine g_iconst C 0 dX5_noise_17 (by decide) ?_
    refine g_istore_n C [(2, .int 0), (0, .ref o), (1, .int (nI i))] dX5_noise_18 rfl (by decide) rfl ?_
    have hst2 := hst.2.1
    have hn1 := hn
    have outer : ∀ (k9 : Nat) (z0 : Nat → Int32) (hz0 : ∀ j, j < n → z0 j = 0) (i9 : Nat) (nz0 : Nat → Int32) (Mx : MM), i9 + k9 = n → Mx 26 = nz0 → Mx 0 0 = 0 → (∀ k, k ≠ 0 → k ≠ 25 → k ≠ 26 → Mx k = M k) → nzR F T st n (M 15) (M 16) r (fun q => mHgt M q n) k9 nz0 = nzR F T st n (M 15) (M 16) r (fun q => mHgt M q n) n z0 → GW p l e (rml 4 0 0) s m args below meth c E 7 A Q (mw E o a Mx ++ Y) S 0 0 49 [(2, .int (nI i9)), (0, .ref o), (1, .int (nI i))] [] := by
      intro k9
      induction k9 with
      | zero =>
        intro z0 hz0 i9 nz0 Mx hin hnz h0 hk hR
        refine g_iload_n C 0 dX5_noise_49 rfl rfl ?_
        refine g_aload_n C 1 dX5_noise_50 rfl rfl ?_
        refine mg_1 C lk_X5_72 dX5_noise_51 ?_
        refine g_vi (nI n) ((congrFun (hk 1 (by decide) (by decide) (by decide)) 0).trans hn) ?_
        refine g_icmp_ge C 170 dX5_noise_54 (by decide) (fun h54 => ?_) (fun h54 => ?_)
        · refine g_aload_n C 1 dX5_noise_170 rfl rfl ?_
          refine mg_0 C lk_X5_69 dX5_noise_171 ?_
          refine g_vi 0 (h0) ?_
          refine g_if_le C 181 dX5_noise_174 (by decide) (fun h174 => ?_) (fun h174 => ?_)
          · refine g_aload_n C 1 dX5_noise_181 rfl rfl ?_
            refine mg_26 C lk_X5_66 dX5_noise_182 ?_
            refine g_iload_n C 2 dX5_noise_185 rfl rfl ?_
            refine ml_26 C i rfl (by omega) dX5_noise_186 ?_
            refine g_vi (nz0 i) (congrFun hnz i) ?_
            exact g_iret C hQ rfl rfl dX5_noise_187 (by decide) (by decide) ⟨rfl, Mx, rfl, z0, hz0, sv (by rw [← hR]; rfl), h0, hk⟩
          · exact absurd h174 (by decide)
        · exact absurd (nI_le (show n ≤ i9 by omega) (by omega)) h54
      | succ k9 ih =>
        intro z0 hz0 i9 nz0 Mx hin hnz h0 hk hR
        refine g_iload_n C 0 dX5_noise_49 rfl rfl ?_
        refine g_aload_n C 1 dX5_noise_50 rfl rfl ?_
        refine mg_1 C lk_X5_72 dX5_noise_51 ?_
        refine g_vi (nI n) ((congrFun (hk 1 (by decide) (by decide) (by decide)) 0).trans hn) ?_
        refine g_icmp_ge C 170 dX5_noise_54 (by decide) (fun h54 => ?_) (fun h54 => ?_)
        · exact absurd ((nI_leI (by omega) (by omega)).mp h54) (by omega)
        · refine g_aload_n C 1 dX5_noise_57 rfl rfl ?_
          refine mg_0 C lk_X5_69 dX5_noise_58 ?_
          refine g_vi 0 (h0) ?_
          refine g_if_ne C 170 dX5_noise_61 (by decide) (fun h61 => ?_) (fun h61 => ?_)
          · exact absurd rfl h61
          · refine g_iconst C 0 dX5_noise_64 (by decide) ?_
            refine g_istore_n C [(3, .int 0), (2, .int (nI i9)), (0, .ref o), (1, .int (nI i))] dX5_noise_65 rfl (by decide) rfl ?_
            have middle : ∀ (k8 : Nat) (q9 : Nat) (nz : Nat → Int32) (Mx : MM), q9 + k8 = n → Mx 26 = nz → Mx 0 0 = 0 → (∀ k, k ≠ 0 → k ≠ 25 → k ≠ 26 → Mx k = M k) → nzP F T st (M 15) (M 16) r (fun q => mHgt M q n) k8 q9 nz = nzP F T st (M 15) (M 16) r (fun q => mHgt M q n) n 0 nz0 → GW p l e (rml 4 0 0) s m args below meth c E 7 A Q (mw E o a Mx ++ Y) S 0 0 66 [(3, .int (nI q9)), (2, .int (nI i9)), (0, .ref o), (1, .int (nI i))] [] := by
              intro k8
              induction k8 with
              | zero =>
                intro q9 nz Mx hin2 hnz h0 hk hP
                refine g_iload_n C 0 dX5_noise_66 rfl rfl ?_
                refine g_aload_n C 2 dX5_noise_67 rfl rfl ?_
                refine mg_1 C lk_X5_72 dX5_noise_68 ?_
                refine g_vi (nI n) ((congrFun (hk 1 (by decide) (by decide) (by decide)) 0).trans hn) ?_
                refine g_icmp_ge C 164 dX5_noise_71 (by decide) (fun h71 => ?_) (fun h71 => ?_)
                · refine g_iinc C (nI (i9 + 1)) 1 [(2, .int (nI (i9 + 1))), (3, .int (nI q9)), (0, .ref o), (1, .int (nI i))] dX5_noise_164 rfl (nI_1 i9) (by decide) rfl ?_
                  refine g_goto C 49 dX5_noise_167 (by decide) ?_
                  refine g_locs (lv2 := [(2, .int (nI (i9 + 1))), (0, .ref o), (1, .int (nI i))]) [0, 2, 3] rfl ?_
                  exact ih z0 hz0 (i9 + 1) nz Mx (by omega) hnz h0 hk (by rw [nzR] at hR; rw [← hR, ← hP]; rfl)
                · exact absurd (nI_le (show n ≤ q9 by omega) (by omega)) h71
              | succ k8 mh =>
                intro q9 nz Mx hin2 hnz h0 hk hP
                refine g_iload_n C 0 dX5_noise_66 rfl rfl ?_
                refine g_aload_n C 2 dX5_noise_67 rfl rfl ?_
                refine mg_1 C lk_X5_72 dX5_noise_68 ?_
                refine g_vi (nI n) ((congrFun (hk 1 (by decide) (by decide) (by decide)) 0).trans hn) ?_
                refine g_icmp_ge C 164 dX5_noise_71 (by decide) (fun h71 => ?_) (fun h71 => ?_)
                · exact absurd ((nI_leI (by omega) (by omega)).mp h71) (by omega)
                · refine g_iconst C 0 dX5_noise_74 (by decide) ?_
                  refine g_istore C [(4, .int 0), (3, .int (nI q9)), (2, .int (nI i9)), (0, .ref o), (1, .int (nI i))] dX5_noise_75 (by decide) rfl ?_
                  refine g_iconst C 0 dX5_noise_77 (by decide) ?_
                  refine g_istore C [(5, .int 0), (4, .int 0), (3, .int (nI q9)), (2, .int (nI i9)), (0, .ref o), (1, .int (nI i))] dX5_noise_78 (by decide) rfl ?_
                  have inner : ∀ (k7 : Nat) (s9 : Nat) (m9 : Int32), s9 + k7 = st → nzI F T (M 15) (M 16) r nz q9 k7 s9 m9 = nzI F T (M 15) (M 16) r nz q9 st 0 0 → GW p l e (rml 4 0 0) s m args below meth c E 7 A Q (mw E o a Mx ++ Y) S 0 0 80 [(5, .int (nI s9)), (4, .int m9), (3, .int (nI q9)), (2, .int (nI i9)), (0, .ref o), (1, .int (nI i))] [] := by
                    intro k7
                    induction k7 with
                    | zero =>
                      intro s9 m9 hin3 hF
                      refine g_iload C 0 dX5_noise_80 rfl ?_
                      refine g_aload_n C 4 dX5_noise_82 rfl rfl ?_
                      refine mg_9 C lk_X5_90 dX5_noise_83 ?_
                      refine g_vi (nI st) ((congrFun (hk 9 (by decide) (by decide) (by decide)) 0).trans hst.1) ?_
                      refine g_icmp_ge C 144 dX5_noise_86 (by decide) (fun h86 => ?_) (fun h86 => ?_)
                      · refine g_aload_n C 4 dX5_noise_144 rfl rfl ?_
                        refine mg_26 C lk_X5_66 dX5_noise_145 ?_
                        refine g_iload_n C 2 dX5_noise_148 rfl rfl ?_
                        refine g_aload_n C 4 dX5_noise_149 rfl rfl ?_
                        refine g_iload_n C 2 dX5_noise_150 rfl rfl ?_
                        refine g_callV C [.int (nI q9)] [.int (nI q9), .ref (a 26)] (c_mheightOf l E o a Mx Y S (n := n) (i := q9) ((congrFun (hk 1 (by decide) (by decide) (by decide)) 0).trans hn) h40 (by omega)) ⟨0, mfs a Mx, rfl⟩ rfl cm_X5_heightOf wv_X5_123 ds_X5_heightOf rfl rfl (Nat.le_of_ble_eq_true rfl) (by decide) (by decide) dX5_noise_151 ?_
                        rintro v9 X2 S2 ⟨rfl, Mh, rfl, rfl, hk5⟩
                        rw [mHgt_cg (hk 4 (by decide) (by decide) (by decide)) (hk 5 (by decide) (by decide) (by decide)) (hk 6 (by decide) (by decide) (by decide)) (hk 13 (by decide) (by decide) (by decide))]
                        refine g_iload C 1 dX5_noise_154 rfl ?_
                        refine g_iadd C dX5_noise_156 ?_
                        refine ms_26 C q9 rfl (by omega) dX5_noise_157 (fun M2 hM2 => ?_)
                        refine g_iinc C (nI (q9 + 1)) 2 [(3, .int (nI (q9 + 1))), (5, .int (nI s9)), (4, .int m9), (2, .int (nI i9)), (0, .ref o), (1, .int (nI i))] dX5_noise_158 rfl (nI_1 q9) (by decide) rfl ?_
                        refine g_goto C 66 dX5_noise_161 (by decide) ?_
                        refine g_locs (lv2 := [(3, .int (nI (q9 + 1))), (2, .int (nI i9)), (0, .ref o), (1, .int (nI i))]) [0, 3, 4, 5] rfl ?_
                        have hF2 : m9 = nzI F T (M 15) (M 16) r nz q9 st 0 0 := hF
                        refine mh (q9 + 1) (upd nz q9 (mHgt M q9 n + m9)) _ (by omega) ((u2_rowU hM2).trans (by rw [hk5 26 (by decide), hnz])) (by rw [u2_row hM2 (by decide), hk5 0 (by decide)]; exact h0) (fun k k0 k25 k26 => by rw [u2_row hM2 k26, hk5 k k25]; exact hk k k0 k25 k26) ?_
                        rw [nzP] at hP
                        rw [← hP]
                        unfold nzN
                        rw [← hF2]
                      · exact absurd (nI_le (show st ≤ s9 by omega) (by omega)) h86
                    | succ k7 sh =>
                      intro s9 m9 hin3 hF
                      rw [nzI] at hF
                      refine g_iload C 0 dX5_noise_80 rfl ?_
                      refine g_aload_n C 4 dX5_noise_82 rfl rfl ?_
                      refine mg_9 C lk_X5_90 dX5_noise_83 ?_
                      refine g_vi (nI st) ((congrFun (hk 9 (by decide) (by decide) (by decide)) 0).trans hst.1) ?_
                      refine g_icmp_ge C 144 dX5_noise_86 (by decide) (fun h86 => ?_) (fun h86 => ?_)
                      · exact absurd ((nI_leI (by omega) (by omega)).mp h86) (by omega)
                      · refine g_aload_n C 4 dX5_noise_89 rfl rfl ?_
                        refine mg_11 C lk_X5_29 dX5_noise_90 ?_
                        refine g_iload C 0 dX5_noise_93 rfl ?_
                        refine ml_11 C s9 rfl (by omega) dX5_noise_95 ?_
                        refine g_vi (nI (T s9)) ((congrFun (hk 11 (by decide) (by decide) (by decide)) s9).trans (hst.2.2 s9 (by omega)).2.2.1) ?_
                        refine g_iload_n C 2 dX5_noise_96 rfl rfl ?_
                        refine g_icmp_ne C 119 dX5_noise_97 (by decide) (fun h97 => ?_) (fun h97 => ?_)
                        · refine g_iconst C 0 dX5_noise_119 (by decide) ?_
                          refine g_istore C [(6, .int 0), (5, .int (nI s9)), (4, .int m9), (3, .int (nI q9)), (2, .int (nI i9)), (0, .ref o), (1, .int (nI i))] dX5_noise_120 (by decide) rfl ?_
                          refine g_iload C 0 dX5_noise_122 rfl ?_
                          refine g_iload C 2 dX5_noise_124 rfl ?_
                          refine g_icmp_le C 134 dX5_noise_126 (by decide) (fun h126 => ?_) (fun h126 => ?_)
                          · refine g_iload C 2 dX5_noise_134 rfl ?_
                            refine g_istore C [(4, .int m9), (6, .int 0), (5, .int (nI s9)), (3, .int (nI q9)), (2, .int (nI i9)), (0, .ref o), (1, .int (nI i))] dX5_noise_136 (by decide) rfl ?_
                            refine g_iinc C (nI (s9 + 1)) 2 [(5, .int (nI (s9 + 1))), (4, .int m9), (6, .int 0), (3, .int (nI q9)), (2, .int (nI i9)), (0, .ref o), (1, .int (nI i))] dX5_noise_138 rfl (nI_1 s9) (by decide) rfl ?_
                            refine g_goto C 80 dX5_noise_141 (by decide) ?_
                            refine g_locs (lv2 := [(5, .int (nI (s9 + 1))), (4, .int m9), (3, .int (nI q9)), (2, .int (nI i9)), (0, .ref o), (1, .int (nI i))]) [0, 1, 3, 4, 5, 6] rfl ?_
                            rw [if_neg (fun q => h97 (congrArg nI q)), if_pos h126] at hF
                            exact sh (s9 + 1) _ (by omega) hF
                          · refine g_iload C 0 dX5_noise_129 rfl ?_
                            refine g_goto C 136 dX5_noise_131 (by decide) ?_
                            refine g_istore C [(4, .int 0), (6, .int 0), (5, .int (nI s9)), (3, .int (nI q9)), (2, .int (nI i9)), (0, .ref o), (1, .int (nI i))] dX5_noise_136 (by decide) rfl ?_
                            refine g_iinc C (nI (s9 + 1)) 2 [(5, .int (nI (s9 + 1))), (4, .int 0), (6, .int 0), (3, .int (nI q9)), (2, .int (nI i9)), (0, .ref o), (1, .int (nI i))] dX5_noise_138 rfl (nI_1 s9) (by decide) rfl ?_
                            refine g_goto C 80 dX5_noise_141 (by decide) ?_
                            refine g_locs (lv2 := [(5, .int (nI (s9 + 1))), (4, .int 0), (3, .int (nI q9)), (2, .int (nI i9)), (0, .ref o), (1, .int (nI i))]) [0, 1, 3, 4, 5, 6] rfl ?_
                            rw [if_neg (fun q => h97 (congrArg nI q)), if_neg h126] at hF
                            exact sh (s9 + 1) _ (by omega) hF
                        · have hT : T s9 = q9 := (nI_eq (by have := hst.2.2 s9 (by omega); omega) (by omega)).mp h97
                          refine g_aload_n C 4 dX5_noise_100 rfl rfl ?_
                          refine g_aload_n C 4 dX5_noise_101 rfl rfl ?_
                          refine mg_26 C lk_X5_66 dX5_noise_102 ?_
                          refine g_aload_n C 4 dX5_noise_105 rfl rfl ?_
                          refine mg_10 C lk_X5_26 dX5_noise_106 ?_
                          refine g_iload C 0 dX5_noise_109 rfl ?_
                          refine ml_10 C s9 rfl (by omega) dX5_noise_111 ?_
                          refine g_vi (nI (F s9)) ((congrFun (hk 10 (by decide) (by decide) (by decide)) s9).trans (hst.2.2 s9 (by omega)).1) ?_
                          refine ml_26 C (F s9) rfl (by have := hst.2.2 s9 (by omega); omega) dX5_noise_112 ?_
                          refine g_vi (nz (F s9)) (congrFun hnz (F s9)) ?_
                          refine g_callV C [.int (nz (F s9))] [] (c_mthrough l E o a Mx Y S (r := r) ((congrFun (hk 14 (by decide) (by decide) (by decide)) 0).trans hr) hr2 (nz (F s9))) ⟨0, mfs a Mx, rfl⟩ rfl cm_X5_through wv_X5_127 ds_X5_through rfl rfl (Nat.le_of_ble_eq_true rfl) (by decide) (by decide) dX5_noise_113 ?_
                          rintro v9 X2 S2 ⟨rfl, M9, rfl, rfl, rfl⟩
                          rw [(hk 15 (by decide) (by decide) (by decide)), (hk 16 (by decide) (by decide) (by decide))]
                          refine g_goto C 120 dX5_noise_116 (by decide) ?_
                          refine g_istore C [(6, .int (thM (M 15) (M 16) (nz (F s9)) r 0 0)), (5, .int (nI s9)), (4, .int m9), (3, .int (nI q9)), (2, .int (nI i9)), (0, .ref o), (1, .int (nI i))] dX5_noise_120 (by decide) rfl ?_
                          refine g_iload C 0 dX5_noise_122 rfl ?_
                          refine g_iload C 2 dX5_noise_124 rfl ?_
                          refine g_icmp_le C 134 dX5_noise_126 (by decide) (fun h126 => ?_) (fun h126 => ?_)
                          · refine g_iload C 2 dX5_noise_134 rfl ?_
                            refine g_istore C [(4, .int m9), (6, .int (thM (M 15) (M 16) (nz (F s9)) r 0 0)), (5, .int (nI s9)), (3, .int (nI q9)), (2, .int (nI i9)), (0, .ref o), (1, .int (nI i))] dX5_noise_136 (by decide) rfl ?_
                            refine g_iinc C (nI (s9 + 1)) 2 [(5, .int (nI (s9 + 1))), (4, .int m9), (6, .int (thM (M 15) (M 16) (nz (F s9)) r 0 0)), (3, .int (nI q9)), (2, .int (nI i9)), (0, .ref o), (1, .int (nI i))] dX5_noise_138 rfl (nI_1 s9) (by decide) rfl ?_
                            refine g_goto C 80 dX5_noise_141 (by decide) ?_
                            refine g_locs (lv2 := [(5, .int (nI (s9 + 1))), (4, .int m9), (3, .int (nI q9)), (2, .int (nI i9)), (0, .ref o), (1, .int (nI i))]) [0, 1, 3, 4, 5, 6] rfl ?_
                            rw [if_pos hT, if_pos h126] at hF
                            exact sh (s9 + 1) _ (by omega) hF
                          · refine g_iload C 0 dX5_noise_129 rfl ?_
                            refine g_goto C 136 dX5_noise_131 (by decide) ?_
                            refine g_istore C [(4, .int (thM (M 15) (M 16) (nz (F s9)) r 0 0)), (6, .int (thM (M 15) (M 16) (nz (F s9)) r 0 0)), (5, .int (nI s9)), (3, .int (nI q9)), (2, .int (nI i9)), (0, .ref o), (1, .int (nI i))] dX5_noise_136 (by decide) rfl ?_
                            refine g_iinc C (nI (s9 + 1)) 2 [(5, .int (nI (s9 + 1))), (4, .int (thM (M 15) (M 16) (nz (F s9)) r 0 0)), (6, .int (thM (M 15) (M 16) (nz (F s9)) r 0 0)), (3, .int (nI q9)), (2, .int (nI i9)), (0, .ref o), (1, .int (nI i))] dX5_noise_138 rfl (nI_1 s9) (by decide) rfl ?_
                            refine g_goto C 80 dX5_noise_141 (by decide) ?_
                            refine g_locs (lv2 := [(5, .int (nI (s9 + 1))), (4, .int (thM (M 15) (M 16) (nz (F s9)) r 0 0)), (3, .int (nI q9)), (2, .int (nI i9)), (0, .ref o), (1, .int (nI i))]) [0, 1, 3, 4, 5, 6] rfl ?_
                            rw [if_pos hT, if_neg h126] at hF
                            exact sh (s9 + 1) _ (by omega) hF
                  exact inner st 0 0 (by omega) rfl
            exact middle n 0 nz0 Mx (by omega) hnz h0 hk rfl
    have first : ∀ (k9 : Nat) (i9 : Nat) (Mx : MM), i9 + k9 = n → (∀ j, j < i9 → Mx 26 j = 0) → Mx 0 0 = 0 → (∀ k, k ≠ 0 → k ≠ 25 → k ≠ 26 → Mx k = M k) → GW p l e (rml 4 0 0) s m args below meth c E 7 A Q (mw E o a Mx ++ Y) S 0 0 19 [(2, .int (nI i9)), (0, .ref o), (1, .int (nI i))] [] := by
      intro k9
      induction k9 with
      | zero =>
        intro i9 Mx hin hz h0 hk
        refine g_iload_n C 0 dX5_noise_19 rfl rfl ?_
        refine g_aload_n C 1 dX5_noise_20 rfl rfl ?_
        refine mg_1 C lk_X5_72 dX5_noise_21 ?_
        refine g_vi (nI n) ((congrFun (hk 1 (by decide) (by decide) (by decide)) 0).trans hn) ?_
        refine g_icmp_ge C 47 dX5_noise_24 (by decide) (fun h24 => ?_) (fun h24 => ?_)
        · refine g_iconst C 0 dX5_noise_47 (by decide) ?_
          refine g_istore_n C [(2, .int 0), (0, .ref o), (1, .int (nI i))] dX5_noise_48 rfl (by decide) rfl ?_
          exact outer n (Mx 26) (fun j hj => hz j (by omega)) 0 _ Mx (by omega) rfl h0 hk rfl
        · exact absurd (nI_le (show n ≤ i9 by omega) (by omega)) h24
      | succ k9 ih =>
        intro i9 Mx hin hz h0 hk
        refine g_iload_n C 0 dX5_noise_19 rfl rfl ?_
        refine g_aload_n C 1 dX5_noise_20 rfl rfl ?_
        refine mg_1 C lk_X5_72 dX5_noise_21 ?_
        refine g_vi (nI n) ((congrFun (hk 1 (by decide) (by decide) (by decide)) 0).trans hn) ?_
        refine g_icmp_ge C 47 dX5_noise_24 (by decide) (fun h24 => ?_) (fun h24 => ?_)
        · exact absurd ((nI_leI (by omega) (by omega)).mp h24) (by omega)
        · refine g_aload_n C 1 dX5_noise_27 rfl rfl ?_
          refine mg_0 C lk_X5_69 dX5_noise_28 ?_
          refine g_vi 0 (h0) ?_
          refine g_if_ne C 47 dX5_noise_31 (by decide) (fun h31 => ?_) (fun h31 => ?_)
          · exact absurd rfl h31
          · refine g_aload_n C 1 dX5_noise_34 rfl rfl ?_
            refine mg_26 C lk_X5_66 dX5_noise_35 ?_
            refine g_iload_n C 0 dX5_noise_38 rfl rfl ?_
            refine g_iconst C 0 dX5_noise_39 (by decide) ?_
            refine ms_26 C i9 rfl (by omega) dX5_noise_40 (fun M2 hM2 => ?_)
            refine g_iinc C (nI (i9 + 1)) 0 [(2, .int (nI (i9 + 1))), (0, .ref o), (1, .int (nI i))] dX5_noise_41 rfl (nI_1 i9) (by decide) rfl ?_
            refine g_goto C 19 dX5_noise_44 (by decide) ?_
            exact ih (i9 + 1) _ (by omega) (fun j hj => by
              rcases Nat.lt_or_ge j i9 with q | q
              · rw [u2_off hM2 (by omega)]; exact hz j q
              · rw [show j = i9 by omega]; exact u2_at hM2) (by rw [u2_row hM2 (by decide)]; exact h0) (fun k k0 k25 k26 => by rw [u2_row hM2 k26]; exact hk k k0 k25 k26)
    exact first n 0 M1 (by omega) (fun j hj => absurd hj (by omega)) (u2_at hM1) (fun k k0 _ _ => u2_row hM1 k0)
set_option maxRecDepth 100000 in
theorem c_mnoiseB (l : Launch) (E : Ev) (o : Nat) (a : Nat → Nat) (M : MM) (Y : va_W) (S : HS) {v : Int32} (hv : isn M v = false) : Ctr l yX5_noise (Cond.code yX5_noise cX5_noise 7 (some .int)) 4 0 0 E [.ref o, .int v] (mw E o a M ++ Y) S (PoM E o a Y S (fun v2 M2 => some (.int 0) = v2 ∧ u2 M 0 0 1 = M2)) := by
  refine Ctr.ofG (by decide) [(0, .ref o), (1, .int v)] rfl (Nat.le_of_ble_eq_true rfl) ?_
  intro p e s m args below meth c A Q C hQ
  refine g_aload_n C 0 dX5_noise_0 rfl rfl ?_
  refine g_aload_n C 0 dX5_noise_1 rfl rfl ?_
  refine g_iload_n C 1 dX5_noise_2 rfl rfl ?_
  refine g_callV C [.int v] [.ref o] (c_misNet l E o a M Y S v) ⟨0, mfs a M, rfl⟩ rfl cm_X5_isNet wv_X5_80 ds_X5_isNet rfl rfl (Nat.le_of_ble_eq_true rfl) (by decide) (by decide) dX5_noise_3 ?_
  rintro v9 X2 S2 ⟨rfl, M9, rfl, rfl, rfl⟩
  rw [show isn M v = false from hv]
  refine g_if_eq C 13 dX5_noise_6 (by decide) (fun h6 => ?_) (fun h6 => ?_)
  · refine g_iconst C 1 dX5_noise_13 (by decide) ?_
    refine mp_0 C lk_X5_69 dX5_noise_14 (fun M1 hM1 => ?_)
    refine g_iconst C 0 dX5_noise_17 (by decide) ?_
    refine g_istore_n C [(2, .int 0), (0, .ref o), (1, .int v)] dX5_noise_18 rfl (by decide) rfl ?_
    refine g_iload_n C 0 dX5_noise_19 rfl rfl ?_
    refine g_aload_n C 1 dX5_noise_20 rfl rfl ?_
    refine mg_1 C lk_X5_72 dX5_noise_21 ?_
    refine g_vi (M 1 0) (congrFun (u2_row hM1 (by decide)) 0) ?_
    refine g_icmp_ge C 47 dX5_noise_24 (by decide) (fun h24 => ?_) (fun h24 => ?_)
    · refine g_iconst C 0 dX5_noise_47 (by decide) ?_
      refine g_istore_n C [(2, .int 0), (0, .ref o), (1, .int v)] dX5_noise_48 rfl (by decide) rfl ?_
      refine g_iload_n C 0 dX5_noise_49 rfl rfl ?_
      refine g_aload_n C 1 dX5_noise_50 rfl rfl ?_
      refine mg_1 C lk_X5_72 dX5_noise_51 ?_
      refine g_vi (M 1 0) (congrFun (u2_row hM1 (by decide)) 0) ?_
      refine g_icmp_ge C 170 dX5_noise_54 (by decide) (fun h54 => ?_) (fun h54 => ?_)
      · refine g_aload_n C 1 dX5_noise_170 rfl rfl ?_
        refine mg_0 C lk_X5_69 dX5_noise_171 ?_
        refine g_vi 1 (u2_at hM1) ?_
        refine g_if_le C 181 dX5_noise_174 (by decide) (fun h174 => ?_) (fun h174 => ?_)
        · exact absurd h174 (by decide)
        · refine g_iconst C 0 dX5_noise_177 (by decide) ?_
          refine g_goto C 187 dX5_noise_178 (by decide) ?_
          exact g_iret C hQ rfl rfl dX5_noise_187 (by decide) (by decide) ⟨rfl, M1, rfl, rfl, hM1⟩
      · refine g_aload_n C 1 dX5_noise_57 rfl rfl ?_
        refine mg_0 C lk_X5_69 dX5_noise_58 ?_
        refine g_vi 1 (u2_at hM1) ?_
        refine g_if_ne C 170 dX5_noise_61 (by decide) (fun h61 => ?_) (fun h61 => ?_)
        · refine g_aload_n C 1 dX5_noise_170 rfl rfl ?_
          refine mg_0 C lk_X5_69 dX5_noise_171 ?_
          refine g_vi 1 (u2_at hM1) ?_
          refine g_if_le C 181 dX5_noise_174 (by decide) (fun h174 => ?_) (fun h174 => ?_)
          · exact absurd h174 (by decide)
          · refine g_iconst C 0 dX5_noise_177 (by decide) ?_
            refine g_goto C 187 dX5_noise_178 (by decide) ?_
            exact g_iret C hQ rfl rfl dX5_noise_187 (by decide) (by decide) ⟨rfl, M1, rfl, rfl, hM1⟩
        · exact absurd h61 (by decide)
    · refine g_aload_n C 1 dX5_noise_27 rfl rfl ?_
      refine mg_0 C lk_X5_69 dX5_noise_28 ?_
      refine g_vi 1 (u2_at hM1) ?_
      refine g_if_ne C 47 dX5_noise_31 (by decide) (fun h31 => ?_) (fun h31 => ?_)
      · refine g_iconst C 0 dX5_noise_47 (by decide) ?_
        refine g_istore_n C [(2, .int 0), (0, .ref o), (1, .int v)] dX5_noise_48 rfl (by decide) rfl ?_
        refine g_iload_n C 0 dX5_noise_49 rfl rfl ?_
        refine g_aload_n C 1 dX5_noise_50 rfl rfl ?_
        refine mg_1 C lk_X5_72 dX5_noise_51 ?_
        refine g_vi (M 1 0) (congrFun (u2_row hM1 (by decide)) 0) ?_
        refine g_icmp_ge C 170 dX5_noise_54 (by decide) (fun h54 => ?_) (fun h54 => ?_)
        · refine g_aload_n C 1 dX5_noise_170 rfl rfl ?_
          refine mg_0 C lk_X5_69 dX5_noise_171 ?_
          refine g_vi 1 (u2_at hM1) ?_
          refine g_if_le C 181 dX5_noise_174 (by decide) (fun h174 => ?_) (fun h174 => ?_)
          · exact absurd h174 (by decide)
          · refine g_iconst C 0 dX5_noise_177 (by decide) ?_
            refine g_goto C 187 dX5_noise_178 (by decide) ?_
            exact g_iret C hQ rfl rfl dX5_noise_187 (by decide) (by decide) ⟨rfl, M1, rfl, rfl, hM1⟩
        · refine g_aload_n C 1 dX5_noise_57 rfl rfl ?_
          refine mg_0 C lk_X5_69 dX5_noise_58 ?_
          refine g_vi 1 (u2_at hM1) ?_
          refine g_if_ne C 170 dX5_noise_61 (by decide) (fun h61 => ?_) (fun h61 => ?_)
          · refine g_aload_n C 1 dX5_noise_170 rfl rfl ?_
            refine mg_0 C lk_X5_69 dX5_noise_171 ?_
            refine g_vi 1 (u2_at hM1) ?_
            refine g_if_le C 181 dX5_noise_174 (by decide) (fun h174 => ?_) (fun h174 => ?_)
            · exact absurd h174 (by decide)
            · refine g_iconst C 0 dX5_noise_177 (by decide) ?_
              refine g_goto C 187 dX5_noise_178 (by decide) ?_
              exact g_iret C hQ rfl rfl dX5_noise_187 (by decide) (by decide) ⟨rfl, M1, rfl, rfl, hM1⟩
          · exact absurd h61 (by decide)
      · exact absurd h31 (by decide)
  · exact absurd h6 (by decide)
