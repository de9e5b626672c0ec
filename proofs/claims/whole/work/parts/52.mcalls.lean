theorem wi_n {v lo hi : Int32} (h : ¬ bI (wi v lo hi) = 0) : wi v lo hi = true := bI_1 h
def mnetS (M : MM) (n : Nat) (e0 la sl : Int32) : MM := u2 (u2 (u2 (u2 (u2 (u2 M 0 0 0) 2 n e0) 3 n la) 4 n sl) 20 n 0) 1 0 (nI n + 1)
def mcplS (M : MM) (i j : Nat) (sh : Int32) : MM := u2 (u2 (u2 (u2 M 0 0 0) 7 0 (M 7 0 + (if M 5 (40 * i + j) = 0 then 1 else 0))) 5 (40 * i + j) sh) 5 (40 * j + i) sh
def mexcS (M : MM) (i j : Nat) : MM := u2 (u2 (u2 (u2 M 0 0 0) 6 (40 * i + j) 1) 6 (40 * j + i) 1) 8 0 (M 8 0 + 1)
def mrowS (M : MM) (r : Nat) (h z : Int32) : MM := u2 (u2 (u2 (u2 M 0 0 0) 15 r h) 16 r z) 14 0 (nI r + 1)
def isS (M : MM) (i j : Nat) : Bool := decide (¬ M 5 (40 * i + j) ≤ 0) && decide (M 6 (40 * i + j) = 0)
def stM (M : MM) (i p q : Nat) : Bool := if M 5 (40 * i + p) * M 4 p = M 5 (40 * i + q) * M 4 q then (if M 5 (40 * i + p) = M 5 (40 * i + q) then decide (¬ nI q ≤ nI p) else decide (¬ M 5 (40 * i + p) ≤ M 5 (40 * i + q))) else decide (¬ M 5 (40 * i + p) * M 4 p ≤ M 5 (40 * i + q) * M 4 q)
/-- through the rows, the last one that is low enough -/
def thM (hs ts : Nat → Int32) (x : Int32) : Nat → Nat → Int32 → Int32
  | 0, _, v => v
  | m + 1, k, v => thM hs ts x m (k + 1) (if x < hs k then v else ts k)
set_option maxRecDepth 100000 in
theorem c_mnet (l : Launch) (E : Ev) (o : Nat) (a : Nat → Nat) (M : MM) (Y : va_W) (S : HS) {n : Nat} (hn : M 1 0 = nI n) (h40 : n < 40) {e0 la sl : Int32} (t1 : wi e0 0 1000000 = true) (t2 : wi la e0 1000000 = true) (t3 : wi sl 0 10000 = true) : Ctr l yX5_net (Cond.code yX5_net cX5_net 4 (some .int)) 2 0 0 E [.ref o, .int e0, .int la, .int sl] (mw E o a M ++ Y) S (PoM E o a Y S (fun v M2 => some (.int (nI n + 1 - 1)) = v ∧ mnetS M n e0 la sl = M2)) := by
  refine Ctr.ofG (by decide) [(0, .ref o), (1, .int e0), (2, .int la), (3, .int sl)] rfl (Nat.le_of_ble_eq_true rfl) ?_
  intro p e s m args below meth c A Q C hQ
  refine g_aload_n C 0 dX5_net_0 rfl rfl ?_
  refine g_iload_n C 1 dX5_net_1 rfl rfl ?_
  refine g_iconst C 0 dX5_net_2 (by decide) ?_
  refine g_ldc C kc_X5_75 dX5_net_3 ?_
  refine g_callS C [.int e0, .int 0, .int 1000000] [.ref o] (c_mwithin l E (mw E o a M ++ Y) S e0 0 1000000) cm_X5_within wst_X5_76 dt_X5_within rfl rfl (Nat.le_of_ble_eq_true rfl) (by decide) (by decide) dX5_net_5 ?_
  rintro v9 X2 S2 ⟨rfl, rfl, rfl⟩
  rw [show wi e0 0 1000000 = true from t1]
  refine g_if_eq C 32 dX5_net_8 (by decide) (fun h8 => ?_) (fun h8 => ?_)
  · exact absurd h8 (by decide)
  · refine g_iload_n C 2 dX5_net_11 rfl rfl ?_
    refine g_iload_n C 1 dX5_net_12 rfl rfl ?_
    refine g_ldc C kc_X5_75 dX5_net_13 ?_
    refine g_callS C [.int la, .int e0, .int 1000000] [.ref o] (c_mwithin l E (mw E o a M ++ Y) S la e0 1000000) cm_X5_within wst_X5_76 dt_X5_within rfl rfl (Nat.le_of_ble_eq_true rfl) (by decide) (by decide) dX5_net_15 ?_
    rintro v9 X2 S2 ⟨rfl, rfl, rfl⟩
    rw [show wi la e0 1000000 = true from t2]
    refine g_if_eq C 32 dX5_net_18 (by decide) (fun h18 => ?_) (fun h18 => ?_)
    · exact absurd h18 (by decide)
    · refine g_iload_n C 3 dX5_net_21 rfl rfl ?_
      refine g_iconst C 0 dX5_net_22 (by decide) ?_
      refine g_sipush C 10000 dX5_net_23 (by decide) ?_
      refine g_callS C [.int sl, .int 0, .int 10000] [.ref o] (c_mwithin l E (mw E o a M ++ Y) S sl 0 10000) cm_X5_within wst_X5_76 dt_X5_within rfl rfl (Nat.le_of_ble_eq_true rfl) (by decide) (by decide) dX5_net_26 ?_
      rintro v9 X2 S2 ⟨rfl, rfl, rfl⟩
      rw [show wi sl 0 10000 = true from t3]
      refine g_if_ne C 36 dX5_net_29 (by decide) (fun h29 => ?_) (fun h29 => ?_)
      · refine g_aload_n C 0 dX5_net_36 rfl rfl ?_
        refine mg_1 C lk_X5_72 dX5_net_37 ?_
        refine g_vi (nI n) (hn) ?_
        refine g_bipush C 40 dX5_net_40 (by decide) ?_
        refine g_icmp_ne C 49 dX5_net_42 (by decide) (fun h42 => ?_) (fun h42 => ?_)
        · refine g_iconst C 0 dX5_net_49 (by decide) ?_
          refine mp_0 C lk_X5_69 dX5_net_50 (fun M1 hM1 => ?_)
          refine g_aload_n C 0 dX5_net_53 rfl rfl ?_
          refine mg_0 C lk_X5_69 dX5_net_54 ?_
          refine g_vi 0 (u2_at hM1) ?_
          refine g_if_le C 62 dX5_net_57 (by decide) (fun h57 => ?_) (fun h57 => ?_)
          · refine g_aload_n C 0 dX5_net_62 rfl rfl ?_
            refine mg_2 C lk_X5_7 dX5_net_63 ?_
            refine g_aload_n C 0 dX5_net_66 rfl rfl ?_
            refine mg_1 C lk_X5_72 dX5_net_67 ?_
            refine g_vi (nI n) ((congrFun (u2_row hM1 (by decide)) 0).trans (hn)) ?_
            refine g_iload_n C 1 dX5_net_70 rfl rfl ?_
            refine ms_2 C n rfl (by omega) dX5_net_71 (fun M2 hM2 => ?_)
            refine g_aload_n C 0 dX5_net_72 rfl rfl ?_
            refine mg_3 C lk_X5_13 dX5_net_73 ?_
            refine g_aload_n C 0 dX5_net_76 rfl rfl ?_
            refine mg_1 C lk_X5_72 dX5_net_77 ?_
            refine g_vi (nI n) ((congrFun ((u2_row hM2 (by decide)).trans (u2_row hM1 (by decide))) 0).trans (hn)) ?_
            refine g_iload_n C 2 dX5_net_80 rfl rfl ?_
            refine ms_3 C n rfl (by omega) dX5_net_81 (fun M3 hM3 => ?_)
            refine g_aload_n C 0 dX5_net_82 rfl rfl ?_
            refine mg_4 C lk_X5_16 dX5_net_83 ?_
            refine g_aload_n C 0 dX5_net_86 rfl rfl ?_
            refine mg_1 C lk_X5_72 dX5_net_87 ?_
            refine g_vi (nI n) ((congrFun (((u2_row hM3 (by decide)).trans (u2_row hM2 (by decide))).trans (u2_row hM1 (by decide))) 0).trans (hn)) ?_
            refine g_iload_n C 3 dX5_net_90 rfl rfl ?_
            refine ms_4 C n rfl (by omega) dX5_net_91 (fun M4 hM4 => ?_)
            refine g_aload_n C 0 dX5_net_92 rfl rfl ?_
            refine mg_20 C lk_X5_48 dX5_net_93 ?_
            refine g_aload_n C 0 dX5_net_96 rfl rfl ?_
            refine mg_1 C lk_X5_72 dX5_net_97 ?_
            refine g_vi (nI n) ((congrFun ((((u2_row hM4 (by decide)).trans (u2_row hM3 (by decide))).trans (u2_row hM2 (by decide))).trans (u2_row hM1 (by decide))) 0).trans (hn)) ?_
            refine g_iconst C 0 dX5_net_100 (by decide) ?_
            refine ms_20 C n rfl (by omega) dX5_net_101 (fun M5 hM5 => ?_)
            refine g_aload_n C 0 dX5_net_102 rfl rfl ?_
            refine g_dup C dX5_net_103 rfl ?_
            refine mg_1 C lk_X5_72 dX5_net_104 ?_
            refine g_vi (nI n) ((congrFun (((((u2_row hM5 (by decide)).trans (u2_row hM4 (by decide))).trans (u2_row hM3 (by decide))).trans (u2_row hM2 (by decide))).trans (u2_row hM1 (by decide))) 0).trans (hn)) ?_
            refine g_iconst C 1 dX5_net_107 (by decide) ?_
            refine g_iadd C dX5_net_108 ?_
            refine mp_1 C lk_X5_72 dX5_net_109 (fun M6 hM6 => ?_)
            refine g_aload_n C 0 dX5_net_112 rfl rfl ?_
            refine mg_1 C lk_X5_72 dX5_net_113 ?_
            refine g_vi ((nI n) + 1) (u2_at hM6) ?_
            refine g_iconst C 1 dX5_net_116 (by decide) ?_
            refine g_isub C dX5_net_117 ?_
            exact g_iret C hQ rfl rfl dX5_net_118 (by decide) (by decide) ⟨rfl, M6, rfl, rfl, by rw [← hM6, ← hM5, ← hM4, ← hM3, ← hM2, ← hM1]; rfl⟩
          · exact absurd h57 (by decide)
        · exact absurd ((nI_eq (b := 40) (by omega) (by decide)).mp h42) (by omega)
      · exact absurd h29 (by decide)
set_option maxRecDepth 100000 in
theorem c_mnetB (l : Launch) (E : Ev) (o : Nat) (a : Nat → Nat) (M : MM) (Y : va_W) (S : HS) {e0 la sl : Int32} (h : wi e0 0 1000000 = false ∨ wi la e0 1000000 = false ∨ wi sl 0 10000 = false) : Ctr l yX5_net (Cond.code yX5_net cX5_net 4 (some .int)) 2 0 0 E [.ref o, .int e0, .int la, .int sl] (mw E o a M ++ Y) S (PoM E o a Y S (fun v M2 => some (.int 0) = v ∧ u2 M 0 0 1 = M2)) := by
  refine Ctr.ofG (by decide) [(0, .ref o), (1, .int e0), (2, .int la), (3, .int sl)] rfl (Nat.le_of_ble_eq_true rfl) ?_
  intro p e s m args below meth c A Q C hQ
  refine g_aload_n C 0 dX5_net_0 rfl rfl ?_
  refine g_iload_n C 1 dX5_net_1 rfl rfl ?_
  refine g_iconst C 0 dX5_net_2 (by decide) ?_
  refine g_ldc C kc_X5_75 dX5_net_3 ?_
  refine g_callS C [.int e0, .int 0, .int 1000000] [.ref o] (c_mwithin l E (mw E o a M ++ Y) S e0 0 1000000) cm_X5_within wst_X5_76 dt_X5_within rfl rfl (Nat.le_of_ble_eq_true rfl) (by decide) (by decide) dX5_net_5 ?_
  rintro v9 X2 S2 ⟨rfl, rfl, rfl⟩
  refine g_if_eq C 32 dX5_net_8 (by decide) (fun h8 => ?_) (fun h8 => ?_)
  · refine g_iconst C 1 dX5_net_32 (by decide) ?_
    refine g_goto C 50 dX5_net_33 (by decide) ?_
    refine mp_0 C lk_X5_69 dX5_net_50 (fun M1 hM1 => ?_)
    refine g_aload_n C 0 dX5_net_53 rfl rfl ?_
    refine mg_0 C lk_X5_69 dX5_net_54 ?_
    refine g_vi 1 (u2_at hM1) ?_
    refine g_if_le C 62 dX5_net_57 (by decide) (fun h57 => ?_) (fun h57 => ?_)
    · exact absurd h57 (by decide)
    · refine g_iconst C 0 dX5_net_60 (by decide) ?_
      exact g_iret C hQ rfl rfl dX5_net_61 (by decide) (by decide) ⟨rfl, M1, rfl, rfl, hM1⟩
  · refine g_iload_n C 2 dX5_net_11 rfl rfl ?_
    refine g_iload_n C 1 dX5_net_12 rfl rfl ?_
    refine g_ldc C kc_X5_75 dX5_net_13 ?_
    refine g_callS C [.int la, .int e0, .int 1000000] [.ref o] (c_mwithin l E (mw E o a M ++ Y) S la e0 1000000) cm_X5_within wst_X5_76 dt_X5_within rfl rfl (Nat.le_of_ble_eq_true rfl) (by decide) (by decide) dX5_net_15 ?_
    rintro v9 X2 S2 ⟨rfl, rfl, rfl⟩
    refine g_if_eq C 32 dX5_net_18 (by decide) (fun h18 => ?_) (fun h18 => ?_)
    · refine g_iconst C 1 dX5_net_32 (by decide) ?_
      refine g_goto C 50 dX5_net_33 (by decide) ?_
      refine mp_0 C lk_X5_69 dX5_net_50 (fun M1 hM1 => ?_)
      refine g_aload_n C 0 dX5_net_53 rfl rfl ?_
      refine mg_0 C lk_X5_69 dX5_net_54 ?_
      refine g_vi 1 (u2_at hM1) ?_
      refine g_if_le C 62 dX5_net_57 (by decide) (fun h57 => ?_) (fun h57 => ?_)
      · exact absurd h57 (by decide)
      · refine g_iconst C 0 dX5_net_60 (by decide) ?_
        exact g_iret C hQ rfl rfl dX5_net_61 (by decide) (by decide) ⟨rfl, M1, rfl, rfl, hM1⟩
    · refine g_iload_n C 3 dX5_net_21 rfl rfl ?_
      refine g_iconst C 0 dX5_net_22 (by decide) ?_
      refine g_sipush C 10000 dX5_net_23 (by decide) ?_
      refine g_callS C [.int sl, .int 0, .int 10000] [.ref o] (c_mwithin l E (mw E o a M ++ Y) S sl 0 10000) cm_X5_within wst_X5_76 dt_X5_within rfl rfl (Nat.le_of_ble_eq_true rfl) (by decide) (by decide) dX5_net_26 ?_
      rintro v9 X2 S2 ⟨rfl, rfl, rfl⟩
      refine g_if_ne C 36 dX5_net_29 (by decide) (fun h29 => ?_) (fun h29 => ?_)
      · exact absurd h (by simp [bI_1 h8, bI_1 h18, bI_1 h29])
      · refine g_iconst C 1 dX5_net_32 (by decide) ?_
        refine g_goto C 50 dX5_net_33 (by decide) ?_
        refine mp_0 C lk_X5_69 dX5_net_50 (fun M1 hM1 => ?_)
        refine g_aload_n C 0 dX5_net_53 rfl rfl ?_
        refine mg_0 C lk_X5_69 dX5_net_54 ?_
        refine g_vi 1 (u2_at hM1) ?_
        refine g_if_le C 62 dX5_net_57 (by decide) (fun h57 => ?_) (fun h57 => ?_)
        · exact absurd h57 (by decide)
        · refine g_iconst C 0 dX5_net_60 (by decide) ?_
          exact g_iret C hQ rfl rfl dX5_net_61 (by decide) (by decide) ⟨rfl, M1, rfl, rfl, hM1⟩
set_option maxRecDepth 100000 in
theorem c_mnetF (l : Launch) (E : Ev) (o : Nat) (a : Nat → Nat) (M : MM) (Y : va_W) (S : HS) {e0 la sl : Int32} (t1 : wi e0 0 1000000 = true) (t2 : wi la e0 1000000 = true) (t3 : wi sl 0 10000 = true) (h4 : M 1 0 = 40) : Ctr l yX5_net (Cond.code yX5_net cX5_net 4 (some .int)) 2 0 0 E [.ref o, .int e0, .int la, .int sl] (mw E o a M ++ Y) S (PoM E o a Y S (fun v M2 => some (.int 0) = v ∧ u2 M 0 0 2 = M2)) := by
  refine Ctr.ofG (by decide) [(0, .ref o), (1, .int e0), (2, .int la), (3, .int sl)] rfl (Nat.le_of_ble_eq_true rfl) ?_
  intro p e s m args below meth c A Q C hQ
  refine g_aload_n C 0 dX5_net_0 rfl rfl ?_
  refine g_iload_n C 1 dX5_net_1 rfl rfl ?_
  refine g_iconst C 0 dX5_net_2 (by decide) ?_
  refine g_ldc C kc_X5_75 dX5_net_3 ?_
  refine g_callS C [.int e0, .int 0, .int 1000000] [.ref o] (c_mwithin l E (mw E o a M ++ Y) S e0 0 1000000) cm_X5_within wst_X5_76 dt_X5_within rfl rfl (Nat.le_of_ble_eq_true rfl) (by decide) (by decide) dX5_net_5 ?_
  rintro v9 X2 S2 ⟨rfl, rfl, rfl⟩
  rw [show wi e0 0 1000000 = true from t1]
  refine g_if_eq C 32 dX5_net_8 (by decide) (fun h8 => ?_) (fun h8 => ?_)
  · exact absurd h8 (by decide)
  · refine g_iload_n C 2 dX5_net_11 rfl rfl ?_
    refine g_iload_n C 1 dX5_net_12 rfl rfl ?_
    refine g_ldc C kc_X5_75 dX5_net_13 ?_
    refine g_callS C [.int la, .int e0, .int 1000000] [.ref o] (c_mwithin l E (mw E o a M ++ Y) S la e0 1000000) cm_X5_within wst_X5_76 dt_X5_within rfl rfl (Nat.le_of_ble_eq_true rfl) (by decide) (by decide) dX5_net_15 ?_
    rintro v9 X2 S2 ⟨rfl, rfl, rfl⟩
    rw [show wi la e0 1000000 = true from t2]
    refine g_if_eq C 32 dX5_net_18 (by decide) (fun h18 => ?_) (fun h18 => ?_)
    · exact absurd h18 (by decide)
    · refine g_iload_n C 3 dX5_net_21 rfl rfl ?_
      refine g_iconst C 0 dX5_net_22 (by decide) ?_
      refine g_sipush C 10000 dX5_net_23 (by decide) ?_
      refine g_callS C [.int sl, .int 0, .int 10000] [.ref o] (c_mwithin l E (mw E o a M ++ Y) S sl 0 10000) cm_X5_within wst_X5_76 dt_X5_within rfl rfl (Nat.le_of_ble_eq_true rfl) (by decide) (by decide) dX5_net_26 ?_
      rintro v9 X2 S2 ⟨rfl, rfl, rfl⟩
      rw [show wi sl 0 10000 = true from t3]
      refine g_if_ne C 36 dX5_net_29 (by decide) (fun h29 => ?_) (fun h29 => ?_)
      · refine g_aload_n C 0 dX5_net_36 rfl rfl ?_
        refine mg_1 C lk_X5_72 dX5_net_37 ?_
        refine g_bipush C 40 dX5_net_40 (by decide) ?_
        refine g_icmp_ne C 49 dX5_net_42 (by decide) (fun h42 => ?_) (fun h42 => ?_)
        · exact absurd h4 h42
        · refine g_iconst C 2 dX5_net_45 (by decide) ?_
          refine g_goto C 50 dX5_net_46 (by decide) ?_
          refine mp_0 C lk_X5_69 dX5_net_50 (fun M1 hM1 => ?_)
          refine g_aload_n C 0 dX5_net_53 rfl rfl ?_
          refine mg_0 C lk_X5_69 dX5_net_54 ?_
          refine g_vi 2 (u2_at hM1) ?_
          refine g_if_le C 62 dX5_net_57 (by decide) (fun h57 => ?_) (fun h57 => ?_)
          · exact absurd h57 (by decide)
          · refine g_iconst C 0 dX5_net_60 (by decide) ?_
            exact g_iret C hQ rfl rfl dX5_net_61 (by decide) (by decide) ⟨rfl, M1, rfl, rfl, hM1⟩
      · exact absurd h29 (by decide)
set_option maxRecDepth 100000 in
theorem c_mcouple (l : Launch) (E : Ev) (o : Nat) (a : Nat → Nat) (M : MM) (Y : va_W) (S : HS) {n : Nat} (hn : M 1 0 = nI n) (h40 : n ≤ 40) {i j : Nat} (hi : i < n) (hj : j < n) (hij : i ≠ j) {sh : Int32} (hs : wi sh 1 1000 = true) (hok : ¬ (M 5 (40 * i + j) = 0 ∧ M 7 0 = 120)) : Ctr l yX5_couple (Cond.code yX5_couple cX5_couple 5 (some .int)) 2 0 0 E [.ref o, .int (nI i), .int (nI j), .int sh] (mw E o a M ++ Y) S (PoM E o a Y S (fun v M2 => some (.int (M 5 (40 * i + j))) = v ∧ mcplS M i j sh = M2)) := by
  refine Ctr.ofG (by decide) [(0, .ref o), (1, .int (nI i)), (2, .int (nI j)), (3, .int sh)] rfl (Nat.le_of_ble_eq_true rfl) ?_
  intro p e s m args below meth c A Q C hQ
  refine g_aload_n C 0 dX5_couple_0 rfl rfl ?_
  refine g_aload_n C 0 dX5_couple_1 rfl rfl ?_
  refine g_iload_n C 1 dX5_couple_2 rfl rfl ?_
  refine g_callV C [.int (nI i)] [.ref o] (c_misNet l E o a M Y S (nI i)) ⟨0, mfs a M, rfl⟩ rfl cm_X5_isNet wv_X5_80 ds_X5_isNet rfl rfl (Nat.le_of_ble_eq_true rfl) (by decide) (by decide) dX5_couple_3 ?_
  rintro v9 X2 S2 ⟨rfl, M9, rfl, rfl, rfl⟩
  rw [show isn M (nI i) = true from isn_t hn h40 hi]
  refine g_if_eq C 17 dX5_couple_6 (by decide) (fun h6 => ?_) (fun h6 => ?_)
  · exact absurd h6 (by decide)
  · refine g_aload_n C 0 dX5_couple_9 rfl rfl ?_
    refine g_iload_n C 2 dX5_couple_10 rfl rfl ?_
    refine g_callV C [.int (nI j)] [.ref o] (c_misNet l E o a M Y S (nI j)) ⟨0, mfs a M, rfl⟩ rfl cm_X5_isNet wv_X5_80 ds_X5_isNet rfl rfl (Nat.le_of_ble_eq_true rfl) (by decide) (by decide) dX5_couple_11 ?_
    rintro v9 X2 S2 ⟨rfl, M9, rfl, rfl, rfl⟩
    rw [show isn M (nI j) = true from isn_t hn h40 hj]
    refine g_if_ne C 21 dX5_couple_14 (by decide) (fun h14 => ?_) (fun h14 => ?_)
    · refine g_iload_n C 1 dX5_couple_21 rfl rfl ?_
      refine g_iload_n C 2 dX5_couple_22 rfl rfl ?_
      refine g_icmp_eq C 37 dX5_couple_23 (by decide) (fun h23 => ?_) (fun h23 => ?_)
      · exact absurd h23 (fun q => hij ((nI_eq (by omega) (by omega)).mp q))
      · refine g_iload_n C 3 dX5_couple_26 rfl rfl ?_
        refine g_iconst C 1 dX5_couple_27 (by decide) ?_
        refine g_sipush C 1000 dX5_couple_28 (by decide) ?_
        refine g_callS C [.int sh, .int 1, .int 1000] [.ref o] (c_mwithin l E (mw E o a M ++ Y) S sh 1 1000) cm_X5_within wst_X5_76 dt_X5_within rfl rfl (Nat.le_of_ble_eq_true rfl) (by decide) (by decide) dX5_couple_31 ?_
        rintro v9 X2 S2 ⟨rfl, rfl, rfl⟩
        rw [show wi sh 1 1000 = true from hs]
        refine g_if_ne C 41 dX5_couple_34 (by decide) (fun h34 => ?_) (fun h34 => ?_)
        · refine g_iconst C 0 dX5_couple_41 (by decide) ?_
          refine mp_0 C lk_X5_69 dX5_couple_42 (fun M1 hM1 => ?_)
          refine g_aload_n C 0 dX5_couple_45 rfl rfl ?_
          refine mg_0 C lk_X5_69 dX5_couple_46 ?_
          refine g_vi 0 (u2_at hM1) ?_
          refine g_if_le C 54 dX5_couple_49 (by decide) (fun h49 => ?_) (fun h49 => ?_)
          · refine g_aload_n C 0 dX5_couple_54 rfl rfl ?_
            refine mg_5 C lk_X5_19 dX5_couple_55 ?_
            refine g_bipush C 40 dX5_couple_58 (by decide) ?_
            refine g_iload_n C 1 dX5_couple_60 rfl rfl ?_
            refine g_imul C dX5_couple_61 ?_
            refine g_iload_n C 2 dX5_couple_62 rfl rfl ?_
            refine g_iadd C dX5_couple_63 ?_
            refine ml_5 C (40 * i + j) (nI_ab i j) (by omega) dX5_couple_64 ?_
            refine g_vi (M 5 (40 * i + j)) (congrFun (u2_row hM1 (by decide)) (40 * i + j)) ?_
            refine g_istore C [(4, .int (M 5 (40 * i + j))), (0, .ref o), (1, .int (nI i)), (2, .int (nI j)), (3, .int sh)] dX5_couple_65 (by decide) rfl ?_
            refine g_iload C 0 dX5_couple_67 rfl ?_
            refine g_if_ne C 88 dX5_couple_69 (by decide) (fun h69 => ?_) (fun h69 => ?_)
            · refine g_aload_n C 1 dX5_couple_88 rfl rfl ?_
              refine g_dup C dX5_couple_89 rfl ?_
              refine mg_7 C lk_X5_84 dX5_couple_90 ?_
              refine g_vi (M 7 0) (congrFun (u2_row hM1 (by decide)) 0) ?_
              refine g_iload C 0 dX5_couple_93 rfl ?_
              refine g_if_ne C 102 dX5_couple_95 (by decide) (fun h95 => ?_) (fun h95 => ?_)
              · refine g_iconst C 0 dX5_couple_102 (by decide) ?_
                refine g_iadd C dX5_couple_103 ?_
                refine mp_7 C lk_X5_84 dX5_couple_104 (fun M2 hM2 => ?_)
                refine g_aload_n C 1 dX5_couple_107 rfl rfl ?_
                refine mg_5 C lk_X5_19 dX5_couple_108 ?_
                refine g_bipush C 40 dX5_couple_111 (by decide) ?_
                refine g_iload_n C 2 dX5_couple_113 rfl rfl ?_
                refine g_imul C dX5_couple_114 ?_
                refine g_iload_n C 3 dX5_couple_115 rfl rfl ?_
                refine g_iadd C dX5_couple_116 ?_
                refine g_iload_n C 4 dX5_couple_117 rfl rfl ?_
                refine ms_5 C (40 * i + j) (nI_ab i j) (by omega) dX5_couple_118 (fun M3 hM3 => ?_)
                refine g_aload_n C 1 dX5_couple_119 rfl rfl ?_
                refine mg_5 C lk_X5_19 dX5_couple_120 ?_
                refine g_bipush C 40 dX5_couple_123 (by decide) ?_
                refine g_iload_n C 3 dX5_couple_125 rfl rfl ?_
                refine g_imul C dX5_couple_126 ?_
                refine g_iload_n C 2 dX5_couple_127 rfl rfl ?_
                refine g_iadd C dX5_couple_128 ?_
                refine g_iload_n C 4 dX5_couple_129 rfl rfl ?_
                refine ms_5 C (40 * j + i) (nI_ab j i) (by omega) dX5_couple_130 (fun M4 hM4 => ?_)
                refine g_iload C 0 dX5_couple_131 rfl ?_
                exact g_iret C hQ rfl rfl dX5_couple_133 (by decide) (by decide) ⟨rfl, M4, rfl, rfl, by rw [← hM4, ← hM3, ← hM2, ← hM1]; unfold mcplS; rw [if_neg h69]⟩
              · exact absurd h95 h69
            · refine g_aload_n C 1 dX5_couple_72 rfl rfl ?_
              refine mg_7 C lk_X5_84 dX5_couple_73 ?_
              refine g_vi (M 7 0) (congrFun (u2_row hM1 (by decide)) 0) ?_
              refine g_bipush C 120 dX5_couple_76 (by decide) ?_
              refine g_icmp_ne C 88 dX5_couple_78 (by decide) (fun h78 => ?_) (fun h78 => ?_)
              · refine g_aload_n C 1 dX5_couple_88 rfl rfl ?_
                refine g_dup C dX5_couple_89 rfl ?_
                refine mg_7 C lk_X5_84 dX5_couple_90 ?_
                refine g_vi (M 7 0) (congrFun (u2_row hM1 (by decide)) 0) ?_
                refine g_iload C 0 dX5_couple_93 rfl ?_
                refine g_if_ne C 102 dX5_couple_95 (by decide) (fun h95 => ?_) (fun h95 => ?_)
                · exact absurd h69 h95
                · refine g_iconst C 1 dX5_couple_98 (by decide) ?_
                  refine g_goto C 103 dX5_couple_99 (by decide) ?_
                  refine g_iadd C dX5_couple_103 ?_
                  refine mp_7 C lk_X5_84 dX5_couple_104 (fun M2 hM2 => ?_)
                  refine g_aload_n C 1 dX5_couple_107 rfl rfl ?_
                  refine mg_5 C lk_X5_19 dX5_couple_108 ?_
                  refine g_bipush C 40 dX5_couple_111 (by decide) ?_
                  refine g_iload_n C 2 dX5_couple_113 rfl rfl ?_
                  refine g_imul C dX5_couple_114 ?_
                  refine g_iload_n C 3 dX5_couple_115 rfl rfl ?_
                  refine g_iadd C dX5_couple_116 ?_
                  refine g_iload_n C 4 dX5_couple_117 rfl rfl ?_
                  refine ms_5 C (40 * i + j) (nI_ab i j) (by omega) dX5_couple_118 (fun M3 hM3 => ?_)
                  refine g_aload_n C 1 dX5_couple_119 rfl rfl ?_
                  refine mg_5 C lk_X5_19 dX5_couple_120 ?_
                  refine g_bipush C 40 dX5_couple_123 (by decide) ?_
                  refine g_iload_n C 3 dX5_couple_125 rfl rfl ?_
                  refine g_imul C dX5_couple_126 ?_
                  refine g_iload_n C 2 dX5_couple_127 rfl rfl ?_
                  refine g_iadd C dX5_couple_128 ?_
                  refine g_iload_n C 4 dX5_couple_129 rfl rfl ?_
                  refine ms_5 C (40 * j + i) (nI_ab j i) (by omega) dX5_couple_130 (fun M4 hM4 => ?_)
                  refine g_iload C 0 dX5_couple_131 rfl ?_
                  exact g_iret C hQ rfl rfl dX5_couple_133 (by decide) (by decide) ⟨rfl, M4, rfl, rfl, by rw [← hM4, ← hM3, ← hM2, ← hM1]; unfold mcplS; rw [if_pos h69]⟩
              · exact absurd ⟨h69, h78⟩ hok
          · exact absurd h49 (by decide)
        · exact absurd h34 (by decide)
    · exact absurd h14 (by decide)
set_option maxRecDepth 100000 in
theorem c_mcoupleF (l : Launch) (E : Ev) (o : Nat) (a : Nat → Nat) (M : MM) (Y : va_W) (S : HS) {n : Nat} (hn : M 1 0 = nI n) (h40 : n ≤ 40) {i j : Nat} (hi : i < n) (hj : j < n) (hij : i ≠ j) {sh : Int32} (hs : wi sh 1 1000 = true) (h0 : M 5 (40 * i + j) = 0) (h12 : M 7 0 = 120) : Ctr l yX5_couple (Cond.code yX5_couple cX5_couple 5 (some .int)) 2 0 0 E [.ref o, .int (nI i), .int (nI j), .int sh] (mw E o a M ++ Y) S (PoM E o a Y S (fun v M2 => some (.int 0) = v ∧ u2 (u2 M 0 0 0) 0 0 3 = M2)) := by
  refine Ctr.ofG (by decide) [(0, .ref o), (1, .int (nI i)), (2, .int (nI j)), (3, .int sh)] rfl (Nat.le_of_ble_eq_true rfl) ?_
  intro p e s m args below meth c A Q C hQ
  refine g_aload_n C 0 dX5_couple_0 rfl rfl ?_
  refine g_aload_n C 0 dX5_couple_1 rfl rfl ?_
  refine g_iload_n C 1 dX5_couple_2 rfl rfl ?_
  refine g_callV C [.int (nI i)] [.ref o] (c_misNet l E o a M Y S (nI i)) ⟨0, mfs a M, rfl⟩ rfl cm_X5_isNet wv_X5_80 ds_X5_isNet rfl rfl (Nat.le_of_ble_eq_true rfl) (by decide) (by decide) dX5_couple_3 ?_
  rintro v9 X2 S2 ⟨rfl, M9, rfl, rfl, rfl⟩
  rw [show isn M (nI i) = true from isn_t hn h40 hi]
  refine g_if_eq C 17 dX5_couple_6 (by decide) (fun h6 => ?_) (fun h6 => ?_)
  · exact absurd h6 (by decide)
  · refine g_aload_n C 0 dX5_couple_9 rfl rfl ?_
    refine g_iload_n C 2 dX5_couple_10 rfl rfl ?_
    refine g_callV C [.int (nI j)] [.ref o] (c_misNet l E o a M Y S (nI j)) ⟨0, mfs a M, rfl⟩ rfl cm_X5_isNet wv_X5_80 ds_X5_isNet rfl rfl (Nat.le_of_ble_eq_true rfl) (by decide) (by decide) dX5_couple_11 ?_
    rintro v9 X2 S2 ⟨rfl, M9, rfl, rfl, rfl⟩
    rw [show isn M (nI j) = true from isn_t hn h40 hj]
    refine g_if_ne C 21 dX5_couple_14 (by decide) (fun h14 => ?_) (fun h14 => ?_)
    · refine g_iload_n C 1 dX5_couple_21 rfl rfl ?_
      refine g_iload_n C 2 dX5_couple_22 rfl rfl ?_
      refine g_icmp_eq C 37 dX5_couple_23 (by decide) (fun h23 => ?_) (fun h23 => ?_)
      · exact absurd h23 (fun q => hij ((nI_eq (by omega) (by omega)).mp q))
      · refine g_iload_n C 3 dX5_couple_26 rfl rfl ?_
        refine g_iconst C 1 dX5_couple_27 (by decide) ?_
        refine g_sipush C 1000 dX5_couple_28 (by decide) ?_
        refine g_callS C [.int sh, .int 1, .int 1000] [.ref o] (c_mwithin l E (mw E o a M ++ Y) S sh 1 1000) cm_X5_within wst_X5_76 dt_X5_within rfl rfl (Nat.le_of_ble_eq_true rfl) (by decide) (by decide) dX5_couple_31 ?_
        rintro v9 X2 S2 ⟨rfl, rfl, rfl⟩
        rw [show wi sh 1 1000 = true from hs]
        refine g_if_ne C 41 dX5_couple_34 (by decide) (fun h34 => ?_) (fun h34 => ?_)
        · refine g_iconst C 0 dX5_couple_41 (by decide) ?_
          refine mp_0 C lk_X5_69 dX5_couple_42 (fun M1 hM1 => ?_)
          refine g_aload_n C 0 dX5_couple_45 rfl rfl ?_
          refine mg_0 C lk_X5_69 dX5_couple_46 ?_
          refine g_vi 0 (u2_at hM1) ?_
          refine g_if_le C 54 dX5_couple_49 (by decide) (fun h49 => ?_) (fun h49 => ?_)
          · refine g_aload_n C 0 dX5_couple_54 rfl rfl ?_
            refine mg_5 C lk_X5_19 dX5_couple_55 ?_
            refine g_bipush C 40 dX5_couple_58 (by decide) ?_
            refine g_iload_n C 1 dX5_couple_60 rfl rfl ?_
            refine g_imul C dX5_couple_61 ?_
            refine g_iload_n C 2 dX5_couple_62 rfl rfl ?_
            refine g_iadd C dX5_couple_63 ?_
            refine ml_5 C (40 * i + j) (nI_ab i j) (by omega) dX5_couple_64 ?_
            refine g_vi (M 5 (40 * i + j)) (congrFun (u2_row hM1 (by decide)) (40 * i + j)) ?_
            refine g_istore C [(4, .int (M 5 (40 * i + j))), (0, .ref o), (1, .int (nI i)), (2, .int (nI j)), (3, .int sh)] dX5_couple_65 (by decide) rfl ?_
            refine g_iload C 0 dX5_couple_67 rfl ?_
            refine g_if_ne C 88 dX5_couple_69 (by decide) (fun h69 => ?_) (fun h69 => ?_)
            · exact absurd h0 h69
            · refine g_aload_n C 1 dX5_couple_72 rfl rfl ?_
              refine mg_7 C lk_X5_84 dX5_couple_73 ?_
              refine g_vi (M 7 0) (congrFun (u2_row hM1 (by decide)) 0) ?_
              refine g_bipush C 120 dX5_couple_76 (by decide) ?_
              refine g_icmp_ne C 88 dX5_couple_78 (by decide) (fun h78 => ?_) (fun h78 => ?_)
              · exact absurd h12 h78
              · refine g_aload_n C 1 dX5_couple_81 rfl rfl ?_
                refine g_iconst C 3 dX5_couple_82 (by decide) ?_
                refine mp_0 C lk_X5_69 dX5_couple_83 (fun M2 hM2 => ?_)
                refine g_iconst C 0 dX5_couple_86 (by decide) ?_
                exact g_iret C hQ rfl rfl dX5_couple_87 (by decide) (by decide) ⟨rfl, M2, rfl, rfl, by rw [← hM2, ← hM1]⟩
          · exact absurd h49 (by decide)
        · exact absurd h34 (by decide)
    · exact absurd h14 (by decide)
set_option maxRecDepth 100000 in
theorem c_mcoupleB1 (l : Launch) (E : Ev) (o : Nat) (a : Nat → Nat) (M : MM) (Y : va_W) (S : HS) {x y sh : Int32} (h : isn M x = false ∨ isn M y = false) : Ctr l yX5_couple (Cond.code yX5_couple cX5_couple 5 (some .int)) 2 0 0 E [.ref o, .int x, .int y, .int sh] (mw E o a M ++ Y) S (PoM E o a Y S (fun v M2 => some (.int 0) = v ∧ u2 M 0 0 1 = M2)) := by
  refine Ctr.ofG (by decide) [(0, .ref o), (1, .int x), (2, .int y), (3, .int sh)] rfl (Nat.le_of_ble_eq_true rfl) ?_
  intro p e s m args below meth c A Q C hQ
  refine g_aload_n C 0 dX5_couple_0 rfl rfl ?_
  refine g_aload_n C 0 dX5_couple_1 rfl rfl ?_
  refine g_iload_n C 1 dX5_couple_2 rfl rfl ?_
  refine g_callV C [.int x] [.ref o] (c_misNet l E o a M Y S x) ⟨0, mfs a M, rfl⟩ rfl cm_X5_isNet wv_X5_80 ds_X5_isNet rfl rfl (Nat.le_of_ble_eq_true rfl) (by decide) (by decide) dX5_couple_3 ?_
  rintro v9 X2 S2 ⟨rfl, M9, rfl, rfl, rfl⟩
  refine g_if_eq C 17 dX5_couple_6 (by decide) (fun h6 => ?_) (fun h6 => ?_)
  · refine g_iconst C 1 dX5_couple_17 (by decide) ?_
    refine g_goto C 42 dX5_couple_18 (by decide) ?_
    refine mp_0 C lk_X5_69 dX5_couple_42 (fun M1 hM1 => ?_)
    refine g_aload_n C 0 dX5_couple_45 rfl rfl ?_
    refine mg_0 C lk_X5_69 dX5_couple_46 ?_
    refine g_vi 1 (u2_at hM1) ?_
    refine g_if_le C 54 dX5_couple_49 (by decide) (fun h49 => ?_) (fun h49 => ?_)
    · exact absurd h49 (by decide)
    · refine g_iconst C 0 dX5_couple_52 (by decide) ?_
      exact g_iret C hQ rfl rfl dX5_couple_53 (by decide) (by decide) ⟨rfl, M1, rfl, rfl, hM1⟩
  · refine g_aload_n C 0 dX5_couple_9 rfl rfl ?_
    refine g_iload_n C 2 dX5_couple_10 rfl rfl ?_
    refine g_callV C [.int y] [.ref o] (c_misNet l E o a M Y S y) ⟨0, mfs a M, rfl⟩ rfl cm_X5_isNet wv_X5_80 ds_X5_isNet rfl rfl (Nat.le_of_ble_eq_true rfl) (by decide) (by decide) dX5_couple_11 ?_
    rintro v9 X2 S2 ⟨rfl, M9, rfl, rfl, rfl⟩
    refine g_if_ne C 21 dX5_couple_14 (by decide) (fun h14 => ?_) (fun h14 => ?_)
    · exact absurd h (by simp [bI_1 h6, bI_1 h14])
    · refine g_iconst C 1 dX5_couple_17 (by decide) ?_
      refine g_goto C 42 dX5_couple_18 (by decide) ?_
      refine mp_0 C lk_X5_69 dX5_couple_42 (fun M1 hM1 => ?_)
      refine g_aload_n C 0 dX5_couple_45 rfl rfl ?_
      refine mg_0 C lk_X5_69 dX5_couple_46 ?_
      refine g_vi 1 (u2_at hM1) ?_
      refine g_if_le C 54 dX5_couple_49 (by decide) (fun h49 => ?_) (fun h49 => ?_)
      · exact absurd h49 (by decide)
      · refine g_iconst C 0 dX5_couple_52 (by decide) ?_
        exact g_iret C hQ rfl rfl dX5_couple_53 (by decide) (by decide) ⟨rfl, M1, rfl, rfl, hM1⟩
set_option maxRecDepth 100000 in
theorem c_mstageB1 (l : Launch) (E : Ev) (o : Nat) (a : Nat → Nat) (M : MM) (Y : va_W) (S : HS) {x y sh : Int32} (h : isn M x = false ∨ isn M y = false) : Ctr l yX5_stage (Cond.code yX5_stage cX5_stage 4 (some .int)) 2 0 0 E [.ref o, .int x, .int y, .int sh] (mw E o a M ++ Y) S (PoM E o a Y S (fun v M2 => some (.int 0) = v ∧ u2 M 0 0 1 = M2)) := by
  refine Ctr.ofG (by decide) [(0, .ref o), (1, .int x), (2, .int y), (3, .int sh)] rfl (Nat.le_of_ble_eq_true rfl) ?_
  intro p e s m args below meth c A Q C hQ
  refine g_aload_n C 0 dX5_stage_0 rfl rfl ?_
  refine g_aload_n C 0 dX5_stage_1 rfl rfl ?_
  refine g_iload_n C 1 dX5_stage_2 rfl rfl ?_
  refine g_callV C [.int x] [.ref o] (c_misNet l E o a M Y S x) ⟨0, mfs a M, rfl⟩ rfl cm_X5_isNet wv_X5_80 ds_X5_isNet rfl rfl (Nat.le_of_ble_eq_true rfl) (by decide) (by decide) dX5_stage_3 ?_
  rintro v9 X2 S2 ⟨rfl, M9, rfl, rfl, rfl⟩
  refine g_if_eq C 17 dX5_stage_6 (by decide) (fun h6 => ?_) (fun h6 => ?_)
  · refine g_iconst C 1 dX5_stage_17 (by decide) ?_
    refine g_goto C 54 dX5_stage_18 (by decide) ?_
    refine mp_0 C lk_X5_69 dX5_stage_54 (fun M1 hM1 => ?_)
    refine g_aload_n C 0 dX5_stage_57 rfl rfl ?_
    refine mg_0 C lk_X5_69 dX5_stage_58 ?_
    refine g_vi 1 (u2_at hM1) ?_
    refine g_if_le C 66 dX5_stage_61 (by decide) (fun h61 => ?_) (fun h61 => ?_)
    · exact absurd h61 (by decide)
    · refine g_iconst C 0 dX5_stage_64 (by decide) ?_
      exact g_iret C hQ rfl rfl dX5_stage_65 (by decide) (by decide) ⟨rfl, M1, rfl, rfl, hM1⟩
  · refine g_aload_n C 0 dX5_stage_9 rfl rfl ?_
    refine g_iload_n C 2 dX5_stage_10 rfl rfl ?_
    refine g_callV C [.int y] [.ref o] (c_misNet l E o a M Y S y) ⟨0, mfs a M, rfl⟩ rfl cm_X5_isNet wv_X5_80 ds_X5_isNet rfl rfl (Nat.le_of_ble_eq_true rfl) (by decide) (by decide) dX5_stage_11 ?_
    rintro v9 X2 S2 ⟨rfl, M9, rfl, rfl, rfl⟩
    refine g_if_ne C 21 dX5_stage_14 (by decide) (fun h14 => ?_) (fun h14 => ?_)
    · exact absurd h (by simp [bI_1 h6, bI_1 h14])
    · refine g_iconst C 1 dX5_stage_17 (by decide) ?_
      refine g_goto C 54 dX5_stage_18 (by decide) ?_
      refine mp_0 C lk_X5_69 dX5_stage_54 (fun M1 hM1 => ?_)
      refine g_aload_n C 0 dX5_stage_57 rfl rfl ?_
      refine mg_0 C lk_X5_69 dX5_stage_58 ?_
      refine g_vi 1 (u2_at hM1) ?_
      refine g_if_le C 66 dX5_stage_61 (by decide) (fun h61 => ?_) (fun h61 => ?_)
      · exact absurd h61 (by decide)
      · refine g_iconst C 0 dX5_stage_64 (by decide) ?_
        exact g_iret C hQ rfl rfl dX5_stage_65 (by decide) (by decide) ⟨rfl, M1, rfl, rfl, hM1⟩
set_option maxRecDepth 100000 in
theorem c_mcoupleB2 (l : Launch) (E : Ev) (o : Nat) (a : Nat → Nat) (M : MM) (Y : va_W) (S : HS) {n : Nat} (hn : M 1 0 = nI n) (h40 : n ≤ 40) {i j : Nat} (hi : i < n) (hj : j < n) {sh : Int32} (h : i = j ∨ wi sh 1 1000 = false) : Ctr l yX5_couple (Cond.code yX5_couple cX5_couple 5 (some .int)) 2 0 0 E [.ref o, .int (nI i), .int (nI j), .int sh] (mw E o a M ++ Y) S (PoM E o a Y S (fun v M2 => some (.int 0) = v ∧ u2 M 0 0 2 = M2)) := by
  refine Ctr.ofG (by decide) [(0, .ref o), (1, .int (nI i)), (2, .int (nI j)), (3, .int sh)] rfl (Nat.le_of_ble_eq_true rfl) ?_
  intro p e s m args below meth c A Q C hQ
  refine g_aload_n C 0 dX5_couple_0 rfl rfl ?_
  refine g_aload_n C 0 dX5_couple_1 rfl rfl ?_
  refine g_iload_n C 1 dX5_couple_2 rfl rfl ?_
  refine g_callV C [.int (nI i)] [.ref o] (c_misNet l E o a M Y S (nI i)) ⟨0, mfs a M, rfl⟩ rfl cm_X5_isNet wv_X5_80 ds_X5_isNet rfl rfl (Nat.le_of_ble_eq_true rfl) (by decide) (by decide) dX5_couple_3 ?_
  rintro v9 X2 S2 ⟨rfl, M9, rfl, rfl, rfl⟩
  rw [show isn M (nI i) = true from isn_t hn h40 hi]
  refine g_if_eq C 17 dX5_couple_6 (by decide) (fun h6 => ?_) (fun h6 => ?_)
  · exact absurd h6 (by decide)
  · refine g_aload_n C 0 dX5_couple_9 rfl rfl ?_
    refine g_iload_n C 2 dX5_couple_10 rfl rfl ?_
    refine g_callV C [.int (nI j)] [.ref o] (c_misNet l E o a M Y S (nI j)) ⟨0, mfs a M, rfl⟩ rfl cm_X5_isNet wv_X5_80 ds_X5_isNet rfl rfl (Nat.le_of_ble_eq_true rfl) (by decide) (by decide) dX5_couple_11 ?_
    rintro v9 X2 S2 ⟨rfl, M9, rfl, rfl, rfl⟩
    rw [show isn M (nI j) = true from isn_t hn h40 hj]
    refine g_if_ne C 21 dX5_couple_14 (by decide) (fun h14 => ?_) (fun h14 => ?_)
    · refine g_iload_n C 1 dX5_couple_21 rfl rfl ?_
      refine g_iload_n C 2 dX5_couple_22 rfl rfl ?_
      refine g_icmp_eq C 37 dX5_couple_23 (by decide) (fun h23 => ?_) (fun h23 => ?_)
      · refine g_iconst C 2 dX5_couple_37 (by decide) ?_
        refine g_goto C 42 dX5_couple_38 (by decide) ?_
        refine mp_0 C lk_X5_69 dX5_couple_42 (fun M1 hM1 => ?_)
        refine g_aload_n C 0 dX5_couple_45 rfl rfl ?_
        refine mg_0 C lk_X5_69 dX5_couple_46 ?_
        refine g_vi 2 (u2_at hM1) ?_
        refine g_if_le C 54 dX5_couple_49 (by decide) (fun h49 => ?_) (fun h49 => ?_)
        · exact absurd h49 (by decide)
        · refine g_iconst C 0 dX5_couple_52 (by decide) ?_
          exact g_iret C hQ rfl rfl dX5_couple_53 (by decide) (by decide) ⟨rfl, M1, rfl, rfl, hM1⟩
      · refine g_iload_n C 3 dX5_couple_26 rfl rfl ?_
        refine g_iconst C 1 dX5_couple_27 (by decide) ?_
        refine g_sipush C 1000 dX5_couple_28 (by decide) ?_
        refine g_callS C [.int sh, .int 1, .int 1000] [.ref o] (c_mwithin l E (mw E o a M ++ Y) S sh 1 1000) cm_X5_within wst_X5_76 dt_X5_within rfl rfl (Nat.le_of_ble_eq_true rfl) (by decide) (by decide) dX5_couple_31 ?_
        rintro v9 X2 S2 ⟨rfl, rfl, rfl⟩
        refine g_if_ne C 41 dX5_couple_34 (by decide) (fun h34 => ?_) (fun h34 => ?_)
        · exact absurd h (fun q => q.elim (fun z => h23 (congrArg nI z)) (fun z => absurd (bI_1 h34) (by rw [z]; decide)))
        · refine g_iconst C 2 dX5_couple_37 (by decide) ?_
          refine g_goto C 42 dX5_couple_38 (by decide) ?_
          refine mp_0 C lk_X5_69 dX5_couple_42 (fun M1 hM1 => ?_)
          refine g_aload_n C 0 dX5_couple_45 rfl rfl ?_
          refine mg_0 C lk_X5_69 dX5_couple_46 ?_
          refine g_vi 2 (u2_at hM1) ?_
          refine g_if_le C 54 dX5_couple_49 (by decide) (fun h49 => ?_) (fun h49 => ?_)
          · exact absurd h49 (by decide)
          · refine g_iconst C 0 dX5_couple_52 (by decide) ?_
            exact g_iret C hQ rfl rfl dX5_couple_53 (by decide) (by decide) ⟨rfl, M1, rfl, rfl, hM1⟩
    · exact absurd h14 (by decide)
set_option maxRecDepth 100000 in
theorem c_mexclude (l : Launch) (E : Ev) (o : Nat) (a : Nat → Nat) (M : MM) (Y : va_W) (S : HS) {n : Nat} (hn : M 1 0 = nI n) (h40 : n ≤ 40) {i j : Nat} (hi : i < n) (hj : j < n) (hij : i ≠ j) : Ctr l yX5_exclude (Cond.code yX5_exclude cX5_exclude 3 (some .boolean)) 2 0 0 E [.ref o, .int (nI i), .int (nI j)] (mw E o a M ++ Y) S (PoM E o a Y S (fun v M2 => (¬ M 6 (40 * i + j) = 0 ∧ some (.int 0) = v ∧ u2 M 0 0 0 = M2) ∨ (M 6 (40 * i + j) = 0 ∧ some (.int 1) = v ∧ mexcS M i j = M2))) := by
  refine Ctr.ofG (by decide) [(0, .ref o), (1, .int (nI i)), (2, .int (nI j))] rfl (Nat.le_of_ble_eq_true rfl) ?_
  intro p e s m args below meth c A Q C hQ
  refine g_aload_n C 0 dX5_exclude_0 rfl rfl ?_
  refine g_aload_n C 0 dX5_exclude_1 rfl rfl ?_
  refine g_iload_n C 1 dX5_exclude_2 rfl rfl ?_
  refine g_callV C [.int (nI i)] [.ref o] (c_misNet l E o a M Y S (nI i)) ⟨0, mfs a M, rfl⟩ rfl cm_X5_isNet wv_X5_80 ds_X5_isNet rfl rfl (Nat.le_of_ble_eq_true rfl) (by decide) (by decide) dX5_exclude_3 ?_
  rintro v9 X2 S2 ⟨rfl, M9, rfl, rfl, rfl⟩
  rw [show isn M (nI i) = true from isn_t hn h40 hi]
  refine g_if_eq C 17 dX5_exclude_6 (by decide) (fun h6 => ?_) (fun h6 => ?_)
  · exact absurd h6 (by decide)
  · refine g_aload_n C 0 dX5_exclude_9 rfl rfl ?_
    refine g_iload_n C 2 dX5_exclude_10 rfl rfl ?_
    refine g_callV C [.int (nI j)] [.ref o] (c_misNet l E o a M Y S (nI j)) ⟨0, mfs a M, rfl⟩ rfl cm_X5_isNet wv_X5_80 ds_X5_isNet rfl rfl (Nat.le_of_ble_eq_true rfl) (by decide) (by decide) dX5_exclude_11 ?_
    rintro v9 X2 S2 ⟨rfl, M9, rfl, rfl, rfl⟩
    rw [show isn M (nI j) = true from isn_t hn h40 hj]
    refine g_if_ne C 21 dX5_exclude_14 (by decide) (fun h14 => ?_) (fun h14 => ?_)
    · refine g_iload_n C 1 dX5_exclude_21 rfl rfl ?_
      refine g_iload_n C 2 dX5_exclude_22 rfl rfl ?_
      refine g_icmp_ne C 30 dX5_exclude_23 (by decide) (fun h23 => ?_) (fun h23 => ?_)
      · refine g_iconst C 0 dX5_exclude_30 (by decide) ?_
        refine mp_0 C lk_X5_69 dX5_exclude_31 (fun M1 hM1 => ?_)
        refine g_aload_n C 0 dX5_exclude_34 rfl rfl ?_
        refine mg_0 C lk_X5_69 dX5_exclude_35 ?_
        refine g_vi 0 (u2_at hM1) ?_
        refine g_if_gt C 55 dX5_exclude_38 (by decide) (fun h38 => ?_) (fun h38 => ?_)
        · exact absurd h38 (by decide)
        · refine g_aload_n C 0 dX5_exclude_41 rfl rfl ?_
          refine mg_6 C lk_X5_22 dX5_exclude_42 ?_
          refine g_bipush C 40 dX5_exclude_45 (by decide) ?_
          refine g_iload_n C 1 dX5_exclude_47 rfl rfl ?_
          refine g_imul C dX5_exclude_48 ?_
          refine g_iload_n C 2 dX5_exclude_49 rfl rfl ?_
          refine g_iadd C dX5_exclude_50 ?_
          refine ml_6 C (40 * i + j) (nI_ab i j) (by omega) dX5_exclude_51 ?_
          refine g_vi (M 6 (40 * i + j)) (congrFun (u2_row hM1 (by decide)) (40 * i + j)) ?_
          refine g_if_eq C 57 dX5_exclude_52 (by decide) (fun h52 => ?_) (fun h52 => ?_)
          · refine g_aload_n C 0 dX5_exclude_57 rfl rfl ?_
            refine mg_6 C lk_X5_22 dX5_exclude_58 ?_
            refine g_bipush C 40 dX5_exclude_61 (by decide) ?_
            refine g_iload_n C 1 dX5_exclude_63 rfl rfl ?_
            refine g_imul C dX5_exclude_64 ?_
            refine g_iload_n C 2 dX5_exclude_65 rfl rfl ?_
            refine g_iadd C dX5_exclude_66 ?_
            refine g_iconst C 1 dX5_exclude_67 (by decide) ?_
            refine ms_6 C (40 * i + j) (nI_ab i j) (by omega) rfl dX5_exclude_68 (fun M2 hM2 => ?_)
            refine g_aload_n C 0 dX5_exclude_69 rfl rfl ?_
            refine mg_6 C lk_X5_22 dX5_exclude_70 ?_
            refine g_bipush C 40 dX5_exclude_73 (by decide) ?_
            refine g_iload_n C 2 dX5_exclude_75 rfl rfl ?_
            refine g_imul C dX5_exclude_76 ?_
            refine g_iload_n C 1 dX5_exclude_77 rfl rfl ?_
            refine g_iadd C dX5_exclude_78 ?_
            refine g_iconst C 1 dX5_exclude_79 (by decide) ?_
            refine ms_6 C (40 * j + i) (nI_ab j i) (by omega) rfl dX5_exclude_80 (fun M3 hM3 => ?_)
            refine g_aload_n C 0 dX5_exclude_81 rfl rfl ?_
            refine g_dup C dX5_exclude_82 rfl ?_
            refine mg_8 C lk_X5_87 dX5_exclude_83 ?_
            refine g_vi (M 8 0) (congrFun (((u2_row hM3 (by decide)).trans (u2_row hM2 (by decide))).trans (u2_row hM1 (by decide))) 0) ?_
            refine g_iconst C 1 dX5_exclude_86 (by decide) ?_
            refine g_iadd C dX5_exclude_87 ?_
            refine mp_8 C lk_X5_87 dX5_exclude_88 (fun M4 hM4 => ?_)
            refine g_iconst C 1 dX5_exclude_91 (by decide) ?_
            exact g_iret C hQ rfl rfl dX5_exclude_92 (by decide) (by decide) ⟨rfl, M4, rfl, Or.inr ⟨h52, rfl, by rw [← hM4, ← hM3, ← hM2, ← hM1]; rfl⟩⟩
          · refine g_iconst C 0 dX5_exclude_55 (by decide) ?_
            exact g_iret C hQ rfl rfl dX5_exclude_56 (by decide) (by decide) ⟨rfl, M1, rfl, Or.inl ⟨h52, rfl, hM1⟩⟩
      · exact absurd h23 (fun q => hij ((nI_eq (by omega) (by omega)).mp q))
    · exact absurd h14 (by decide)
set_option maxRecDepth 100000 in
theorem c_mexcludeB1 (l : Launch) (E : Ev) (o : Nat) (a : Nat → Nat) (M : MM) (Y : va_W) (S : HS) {x y : Int32} (h : isn M x = false ∨ isn M y = false) : Ctr l yX5_exclude (Cond.code yX5_exclude cX5_exclude 3 (some .boolean)) 2 0 0 E [.ref o, .int x, .int y] (mw E o a M ++ Y) S (PoM E o a Y S (fun v M2 => some (.int 0) = v ∧ u2 M 0 0 1 = M2)) := by
  refine Ctr.ofG (by decide) [(0, .ref o), (1, .int x), (2, .int y)] rfl (Nat.le_of_ble_eq_true rfl) ?_
  intro p e s m args below meth c A Q C hQ
  refine g_aload_n C 0 dX5_exclude_0 rfl rfl ?_
  refine g_aload_n C 0 dX5_exclude_1 rfl rfl ?_
  refine g_iload_n C 1 dX5_exclude_2 rfl rfl ?_
  refine g_callV C [.int x] [.ref o] (c_misNet l E o a M Y S x) ⟨0, mfs a M, rfl⟩ rfl cm_X5_isNet wv_X5_80 ds_X5_isNet rfl rfl (Nat.le_of_ble_eq_true rfl) (by decide) (by decide) dX5_exclude_3 ?_
  rintro v9 X2 S2 ⟨rfl, M9, rfl, rfl, rfl⟩
  refine g_if_eq C 17 dX5_exclude_6 (by decide) (fun h6 => ?_) (fun h6 => ?_)
  · refine g_iconst C 1 dX5_exclude_17 (by decide) ?_
    refine g_goto C 31 dX5_exclude_18 (by decide) ?_
    refine mp_0 C lk_X5_69 dX5_exclude_31 (fun M1 hM1 => ?_)
    refine g_aload_n C 0 dX5_exclude_34 rfl rfl ?_
    refine mg_0 C lk_X5_69 dX5_exclude_35 ?_
    refine g_vi 1 (u2_at hM1) ?_
    refine g_if_gt C 55 dX5_exclude_38 (by decide) (fun h38 => ?_) (fun h38 => ?_)
    · refine g_iconst C 0 dX5_exclude_55 (by decide) ?_
      exact g_iret C hQ rfl rfl dX5_exclude_56 (by decide) (by decide) ⟨rfl, M1, rfl, rfl, hM1⟩
    · exact absurd h38 (by decide)
  · refine g_aload_n C 0 dX5_exclude_9 rfl rfl ?_
    refine g_iload_n C 2 dX5_exclude_10 rfl rfl ?_
    refine g_callV C [.int y] [.ref o] (c_misNet l E o a M Y S y) ⟨0, mfs a M, rfl⟩ rfl cm_X5_isNet wv_X5_80 ds_X5_isNet rfl rfl (Nat.le_of_ble_eq_true rfl) (by decide) (by decide) dX5_exclude_11 ?_
    rintro v9 X2 S2 ⟨rfl, M9, rfl, rfl, rfl⟩
    refine g_if_ne C 21 dX5_exclude_14 (by decide) (fun h14 => ?_) (fun h14 => ?_)
    · exact absurd h (by simp [bI_1 h6, bI_1 h14])
    · refine g_iconst C 1 dX5_exclude_17 (by decide) ?_
      refine g_goto C 31 dX5_exclude_18 (by decide) ?_
      refine mp_0 C lk_X5_69 dX5_exclude_31 (fun M1 hM1 => ?_)
      refine g_aload_n C 0 dX5_exclude_34 rfl rfl ?_
      refine mg_0 C lk_X5_69 dX5_exclude_35 ?_
      refine g_vi 1 (u2_at hM1) ?_
      refine g_if_gt C 55 dX5_exclude_38 (by decide) (fun h38 => ?_) (fun h38 => ?_)
      · refine g_iconst C 0 dX5_exclude_55 (by decide) ?_
        exact g_iret C hQ rfl rfl dX5_exclude_56 (by decide) (by decide) ⟨rfl, M1, rfl, rfl, hM1⟩
      · exact absurd h38 (by decide)
set_option maxRecDepth 100000 in
theorem c_mexcludeB2 (l : Launch) (E : Ev) (o : Nat) (a : Nat → Nat) (M : MM) (Y : va_W) (S : HS) {n : Nat} (hn : M 1 0 = nI n) (h40 : n ≤ 40) {i j : Nat} (hi : i < n) (hj : j < n) (hij : i = j) : Ctr l yX5_exclude (Cond.code yX5_exclude cX5_exclude 3 (some .boolean)) 2 0 0 E [.ref o, .int (nI i), .int (nI j)] (mw E o a M ++ Y) S (PoM E o a Y S (fun v M2 => some (.int 0) = v ∧ u2 M 0 0 2 = M2)) := by
  refine Ctr.ofG (by decide) [(0, .ref o), (1, .int (nI i)), (2, .int (nI j))] rfl (Nat.le_of_ble_eq_true rfl) ?_
  intro p e s m args below meth c A Q C hQ
  refine g_aload_n C 0 dX5_exclude_0 rfl rfl ?_
  refine g_aload_n C 0 dX5_exclude_1 rfl rfl ?_
  refine g_iload_n C 1 dX5_exclude_2 rfl rfl ?_
  refine g_callV C [.int (nI i)] [.ref o] (c_misNet l E o a M Y S (nI i)) ⟨0, mfs a M, rfl⟩ rfl cm_X5_isNet wv_X5_80 ds_X5_isNet rfl rfl (Nat.le_of_ble_eq_true rfl) (by decide) (by decide) dX5_exclude_3 ?_
  rintro v9 X2 S2 ⟨rfl, M9, rfl, rfl, rfl⟩
  rw [show isn M (nI i) = true from isn_t hn h40 hi]
  refine g_if_eq C 17 dX5_exclude_6 (by decide) (fun h6 => ?_) (fun h6 => ?_)
  · exact absurd h6 (by decide)
  · refine g_aload_n C 0 dX5_exclude_9 rfl rfl ?_
    refine g_iload_n C 2 dX5_exclude_10 rfl rfl ?_
    refine g_callV C [.int (nI j)] [.ref o] (c_misNet l E o a M Y S (nI j)) ⟨0, mfs a M, rfl⟩ rfl cm_X5_isNet wv_X5_80 ds_X5_isNet rfl rfl (Nat.le_of_ble_eq_true rfl) (by decide) (by decide) dX5_exclude_11 ?_
    rintro v9 X2 S2 ⟨rfl, M9, rfl, rfl, rfl⟩
    rw [show isn M (nI j) = true from isn_t hn h40 hj]
    refine g_if_ne C 21 dX5_exclude_14 (by decide) (fun h14 => ?_) (fun h14 => ?_)
    · refine g_iload_n C 1 dX5_exclude_21 rfl rfl ?_
      refine g_iload_n C 2 dX5_exclude_22 rfl rfl ?_
      refine g_icmp_ne C 30 dX5_exclude_23 (by decide) (fun h23 => ?_) (fun h23 => ?_)
      · exact absurd (congrArg nI hij) h23
      · refine g_iconst C 2 dX5_exclude_26 (by decide) ?_
        refine g_goto C 31 dX5_exclude_27 (by decide) ?_
        refine mp_0 C lk_X5_69 dX5_exclude_31 (fun M1 hM1 => ?_)
        refine g_aload_n C 0 dX5_exclude_34 rfl rfl ?_
        refine mg_0 C lk_X5_69 dX5_exclude_35 ?_
        refine g_vi 2 (u2_at hM1) ?_
        refine g_if_gt C 55 dX5_exclude_38 (by decide) (fun h38 => ?_) (fun h38 => ?_)
        · refine g_iconst C 0 dX5_exclude_55 (by decide) ?_
          exact g_iret C hQ rfl rfl dX5_exclude_56 (by decide) (by decide) ⟨rfl, M1, rfl, rfl, hM1⟩
        · exact absurd h38 (by decide)
    · exact absurd h14 (by decide)
set_option maxRecDepth 100000 in
theorem c_mrow (l : Launch) (E : Ev) (o : Nat) (a : Nat → Nat) (M : MM) (Y : va_W) (S : HS) {r : Nat} (hr : M 14 0 = nI r) (hr2 : r < 20) {h z : Int32} (t1 : wi h 0 100000 = true) (t2 : wi z 0 100000 = true) : Ctr l yX5_row (Cond.code yX5_row cX5_row 3 (some .boolean)) 2 0 0 E [.ref o, .int h, .int z] (mw E o a M ++ Y) S (PoM E o a Y S (fun v M2 => ((r = 0 ∨ M 15 (r - 1) < h) ∧ some (.int 1) = v ∧ mrowS M r h z = M2) ∨ (¬ (r = 0 ∨ M 15 (r - 1) < h) ∧ some (.int 0) = v ∧ u2 M 0 0 0 = M2))) := by
  refine Ctr.ofG (by decide) [(0, .ref o), (1, .int h), (2, .int z)] rfl (Nat.le_of_ble_eq_true rfl) ?_
  intro p e s m args below meth c A Q C hQ
  refine g_aload_n C 0 dX5_row_0 rfl rfl ?_
  refine g_iload_n C 1 dX5_row_1 rfl rfl ?_
  refine g_iconst C 0 dX5_row_2 (by decide) ?_
  refine g_ldc C kc_X5_93 dX5_row_3 ?_
  refine g_callS C [.int h, .int 0, .int 100000] [.ref o] (c_mwithin l E (mw E o a M ++ Y) S h 0 100000) cm_X5_within wst_X5_76 dt_X5_within rfl rfl (Nat.le_of_ble_eq_true rfl) (by decide) (by decide) dX5_row_5 ?_
  rintro v9 X2 S2 ⟨rfl, rfl, rfl⟩
  rw [show wi h 0 100000 = true from t1]
  refine g_if_eq C 21 dX5_row_8 (by decide) (fun h8 => ?_) (fun h8 => ?_)
  · exact absurd h8 (by decide)
  · refine g_iload_n C 2 dX5_row_11 rfl rfl ?_
    refine g_iconst C 0 dX5_row_12 (by decide) ?_
    refine g_ldc C kc_X5_93 dX5_row_13 ?_
    refine g_callS C [.int z, .int 0, .int 100000] [.ref o] (c_mwithin l E (mw E o a M ++ Y) S z 0 100000) cm_X5_within wst_X5_76 dt_X5_within rfl rfl (Nat.le_of_ble_eq_true rfl) (by decide) (by decide) dX5_row_15 ?_
    rintro v9 X2 S2 ⟨rfl, rfl, rfl⟩
    rw [show wi z 0 100000 = true from t2]
    refine g_if_ne C 25 dX5_row_18 (by decide) (fun h18 => ?_) (fun h18 => ?_)
    · refine g_aload_n C 0 dX5_row_25 rfl rfl ?_
      refine mg_14 C lk_X5_98 dX5_row_26 ?_
      refine g_vi (nI r) (hr) ?_
      refine g_bipush C 20 dX5_row_29 (by decide) ?_
      refine g_icmp_ne C 38 dX5_row_31 (by decide) (fun h31 => ?_) (fun h31 => ?_)
      · refine g_iconst C 0 dX5_row_38 (by decide) ?_
        refine mp_0 C lk_X5_69 dX5_row_39 (fun M1 hM1 => ?_)
        refine g_aload_n C 0 dX5_row_42 rfl rfl ?_
        refine mg_0 C lk_X5_69 dX5_row_43 ?_
        refine g_vi 0 (u2_at hM1) ?_
        refine g_if_gt C 71 dX5_row_46 (by decide) (fun h46 => ?_) (fun h46 => ?_)
        · exact absurd h46 (by decide)
        · refine g_aload_n C 0 dX5_row_49 rfl rfl ?_
          refine mg_14 C lk_X5_98 dX5_row_50 ?_
          refine g_vi (nI r) ((congrFun (u2_row hM1 (by decide)) 0).trans (hr)) ?_
          refine g_if_le C 73 dX5_row_53 (by decide) (fun h53 => ?_) (fun h53 => ?_)
          · refine g_aload_n C 0 dX5_row_73 rfl rfl ?_
            refine mg_15 C lk_X5_39 dX5_row_74 ?_
            refine g_aload_n C 0 dX5_row_77 rfl rfl ?_
            refine mg_14 C lk_X5_98 dX5_row_78 ?_
            refine g_vi (nI r) ((congrFun (u2_row hM1 (by decide)) 0).trans (hr)) ?_
            refine g_iload_n C 1 dX5_row_81 rfl rfl ?_
            refine ms_15 C r rfl (by omega) dX5_row_82 (fun M2 hM2 => ?_)
            refine g_aload_n C 0 dX5_row_83 rfl rfl ?_
            refine mg_16 C lk_X5_42 dX5_row_84 ?_
            refine g_aload_n C 0 dX5_row_87 rfl rfl ?_
            refine mg_14 C lk_X5_98 dX5_row_88 ?_
            refine g_vi (nI r) ((congrFun ((u2_row hM2 (by decide)).trans (u2_row hM1 (by decide))) 0).trans (hr)) ?_
            refine g_iload_n C 2 dX5_row_91 rfl rfl ?_
            refine ms_16 C r rfl (by omega) dX5_row_92 (fun M3 hM3 => ?_)
            refine g_aload_n C 0 dX5_row_93 rfl rfl ?_
            refine g_dup C dX5_row_94 rfl ?_
            refine mg_14 C lk_X5_98 dX5_row_95 ?_
            refine g_vi (nI r) ((congrFun (((u2_row hM3 (by decide)).trans (u2_row hM2 (by decide))).trans (u2_row hM1 (by decide))) 0).trans (hr)) ?_
            refine g_iconst C 1 dX5_row_98 (by decide) ?_
            refine g_iadd C dX5_row_99 ?_
            refine mp_14 C lk_X5_98 dX5_row_100 (fun M4 hM4 => ?_)
            refine g_iconst C 1 dX5_row_103 (by decide) ?_
            exact g_iret C hQ rfl rfl dX5_row_104 (by decide) (by decide) ⟨rfl, M4, rfl, Or.inl ⟨Or.inl (by rcases Nat.eq_zero_or_pos r with q | q; exact q; exact absurd h53 (nI_nle q (by omega))), rfl, by rw [← hM4, ← hM3, ← hM2, ← hM1]; rfl⟩⟩
          · have hr0 : 0 < r := by rcases Nat.eq_zero_or_pos r with q | q; exact absurd (by rw [q]; decide) h53; exact q
            refine g_iload_n C 1 dX5_row_56 rfl rfl ?_
            refine g_aload_n C 0 dX5_row_57 rfl rfl ?_
            refine mg_15 C lk_X5_39 dX5_row_58 ?_
            refine g_aload_n C 0 dX5_row_61 rfl rfl ?_
            refine mg_14 C lk_X5_98 dX5_row_62 ?_
            refine g_vi (nI r) ((congrFun (u2_row hM1 (by decide)) 0).trans (hr)) ?_
            refine g_iconst C 1 dX5_row_65 (by decide) ?_
            refine g_isub C dX5_row_66 ?_
            refine ml_15 C (r - 1) (nI_pred2 hr0) (by omega) dX5_row_67 ?_
            refine g_vi (M 15 (r - 1)) (congrFun (u2_row hM1 (by decide)) (r - 1)) ?_
            refine g_icmp_gt C 73 dX5_row_68 (by decide) (fun h68 => ?_) (fun h68 => ?_)
            · refine g_aload_n C 0 dX5_row_73 rfl rfl ?_
              refine mg_15 C lk_X5_39 dX5_row_74 ?_
              refine g_aload_n C 0 dX5_row_77 rfl rfl ?_
              refine mg_14 C lk_X5_98 dX5_row_78 ?_
              refine g_vi (nI r) ((congrFun (u2_row hM1 (by decide)) 0).trans (hr)) ?_
              refine g_iload_n C 1 dX5_row_81 rfl rfl ?_
              refine ms_15 C r rfl (by omega) dX5_row_82 (fun M2 hM2 => ?_)
              refine g_aload_n C 0 dX5_row_83 rfl rfl ?_
              refine mg_16 C lk_X5_42 dX5_row_84 ?_
              refine g_aload_n C 0 dX5_row_87 rfl rfl ?_
              refine mg_14 C lk_X5_98 dX5_row_88 ?_
              refine g_vi (nI r) ((congrFun ((u2_row hM2 (by decide)).trans (u2_row hM1 (by decide))) 0).trans (hr)) ?_
              refine g_iload_n C 2 dX5_row_91 rfl rfl ?_
              refine ms_16 C r rfl (by omega) dX5_row_92 (fun M3 hM3 => ?_)
              refine g_aload_n C 0 dX5_row_93 rfl rfl ?_
              refine g_dup C dX5_row_94 rfl ?_
              refine mg_14 C lk_X5_98 dX5_row_95 ?_
              refine g_vi (nI r) ((congrFun (((u2_row hM3 (by decide)).trans (u2_row hM2 (by decide))).trans (u2_row hM1 (by decide))) 0).trans (hr)) ?_
              refine g_iconst C 1 dX5_row_98 (by decide) ?_
              refine g_iadd C dX5_row_99 ?_
              refine mp_14 C lk_X5_98 dX5_row_100 (fun M4 hM4 => ?_)
              refine g_iconst C 1 dX5_row_103 (by decide) ?_
              exact g_iret C hQ rfl rfl dX5_row_104 (by decide) (by decide) ⟨rfl, M4, rfl, Or.inl ⟨Or.inr h68, rfl, by rw [← hM4, ← hM3, ← hM2, ← hM1]; rfl⟩⟩
            · refine g_iconst C 0 dX5_row_71 (by decide) ?_
              exact g_iret C hQ rfl rfl dX5_row_72 (by decide) (by decide) ⟨rfl, M1, rfl, Or.inr ⟨by rintro (q | q); exact h53 (by rw [q]; decide); exact h68 q, rfl, hM1⟩⟩
      · exact absurd ((nI_eq (b := 20) (by omega) (by decide)).mp h31) (by omega)
    · exact absurd h18 (by decide)
set_option maxRecDepth 100000 in
theorem c_mrowB (l : Launch) (E : Ev) (o : Nat) (a : Nat → Nat) (M : MM) (Y : va_W) (S : HS) {h z : Int32} (g : wi h 0 100000 = false ∨ wi z 0 100000 = false) : Ctr l yX5_row (Cond.code yX5_row cX5_row 3 (some .boolean)) 2 0 0 E [.ref o, .int h, .int z] (mw E o a M ++ Y) S (PoM E o a Y S (fun v M2 => some (.int 0) = v ∧ u2 M 0 0 1 = M2)) := by
  refine Ctr.ofG (by decide) [(0, .ref o), (1, .int h), (2, .int z)] rfl (Nat.le_of_ble_eq_true rfl) ?_
  intro p e s m args below meth c A Q C hQ
  refine g_aload_n C 0 dX5_row_0 rfl rfl ?_
  refine g_iload_n C 1 dX5_row_1 rfl rfl ?_
  refine g_iconst C 0 dX5_row_2 (by decide) ?_
  refine g_ldc C kc_X5_93 dX5_row_3 ?_
  refine g_callS C [.int h, .int 0, .int 100000] [.ref o] (c_mwithin l E (mw E o a M ++ Y) S h 0 100000) cm_X5_within wst_X5_76 dt_X5_within rfl rfl (Nat.le_of_ble_eq_true rfl) (by decide) (by decide) dX5_row_5 ?_
  rintro v9 X2 S2 ⟨rfl, rfl, rfl⟩
  refine g_if_eq C 21 dX5_row_8 (by decide) (fun h8 => ?_) (fun h8 => ?_)
  · refine g_iconst C 1 dX5_row_21 (by decide) ?_
    refine g_goto C 39 dX5_row_22 (by decide) ?_
    refine mp_0 C lk_X5_69 dX5_row_39 (fun M1 hM1 => ?_)
    refine g_aload_n C 0 dX5_row_42 rfl rfl ?_
    refine mg_0 C lk_X5_69 dX5_row_43 ?_
    refine g_vi 1 (u2_at hM1) ?_
    refine g_if_gt C 71 dX5_row_46 (by decide) (fun h46 => ?_) (fun h46 => ?_)
    · refine g_iconst C 0 dX5_row_71 (by decide) ?_
      exact g_iret C hQ rfl rfl dX5_row_72 (by decide) (by decide) ⟨rfl, M1, rfl, rfl, hM1⟩
    · exact absurd h46 (by decide)
  · refine g_iload_n C 2 dX5_row_11 rfl rfl ?_
    refine g_iconst C 0 dX5_row_12 (by decide) ?_
    refine g_ldc C kc_X5_93 dX5_row_13 ?_
    refine g_callS C [.int z, .int 0, .int 100000] [.ref o] (c_mwithin l E (mw E o a M ++ Y) S z 0 100000) cm_X5_within wst_X5_76 dt_X5_within rfl rfl (Nat.le_of_ble_eq_true rfl) (by decide) (by decide) dX5_row_15 ?_
    rintro v9 X2 S2 ⟨rfl, rfl, rfl⟩
    refine g_if_ne C 25 dX5_row_18 (by decide) (fun h18 => ?_) (fun h18 => ?_)
    · exact absurd g (by simp [bI_1 h8, bI_1 h18])
    · refine g_iconst C 1 dX5_row_21 (by decide) ?_
      refine g_goto C 39 dX5_row_22 (by decide) ?_
      refine mp_0 C lk_X5_69 dX5_row_39 (fun M1 hM1 => ?_)
      refine g_aload_n C 0 dX5_row_42 rfl rfl ?_
      refine mg_0 C lk_X5_69 dX5_row_43 ?_
      refine g_vi 1 (u2_at hM1) ?_
      refine g_if_gt C 71 dX5_row_46 (by decide) (fun h46 => ?_) (fun h46 => ?_)
      · refine g_iconst C 0 dX5_row_71 (by decide) ?_
        exact g_iret C hQ rfl rfl dX5_row_72 (by decide) (by decide) ⟨rfl, M1, rfl, rfl, hM1⟩
      · exact absurd h46 (by decide)
set_option maxRecDepth 100000 in
theorem c_mrowF (l : Launch) (E : Ev) (o : Nat) (a : Nat → Nat) (M : MM) (Y : va_W) (S : HS) {h z : Int32} (t1 : wi h 0 100000 = true) (t2 : wi z 0 100000 = true) (hr : M 14 0 = 20) : Ctr l yX5_row (Cond.code yX5_row cX5_row 3 (some .boolean)) 2 0 0 E [.ref o, .int h, .int z] (mw E o a M ++ Y) S (PoM E o a Y S (fun v M2 => some (.int 0) = v ∧ u2 M 0 0 2 = M2)) := by
  refine Ctr.ofG (by decide) [(0, .ref o), (1, .int h), (2, .int z)] rfl (Nat.le_of_ble_eq_true rfl) ?_
  intro p e s m args below meth c A Q C hQ
  refine g_aload_n C 0 dX5_row_0 rfl rfl ?_
  refine g_iload_n C 1 dX5_row_1 rfl rfl ?_
  refine g_iconst C 0 dX5_row_2 (by decide) ?_
  refine g_ldc C kc_X5_93 dX5_row_3 ?_
  refine g_callS C [.int h, .int 0, .int 100000] [.ref o] (c_mwithin l E (mw E o a M ++ Y) S h 0 100000) cm_X5_within wst_X5_76 dt_X5_within rfl rfl (Nat.le_of_ble_eq_true rfl) (by decide) (by decide) dX5_row_5 ?_
  rintro v9 X2 S2 ⟨rfl, rfl, rfl⟩
  rw [show wi h 0 100000 = true from t1]
  refine g_if_eq C 21 dX5_row_8 (by decide) (fun h8 => ?_) (fun h8 => ?_)
  · exact absurd h8 (by decide)
  · refine g_iload_n C 2 dX5_row_11 rfl rfl ?_
    refine g_iconst C 0 dX5_row_12 (by decide) ?_
    refine g_ldc C kc_X5_93 dX5_row_13 ?_
    refine g_callS C [.int z, .int 0, .int 100000] [.ref o] (c_mwithin l E (mw E o a M ++ Y) S z 0 100000) cm_X5_within wst_X5_76 dt_X5_within rfl rfl (Nat.le_of_ble_eq_true rfl) (by decide) (by decide) dX5_row_15 ?_
    rintro v9 X2 S2 ⟨rfl, rfl, rfl⟩
    rw [show wi z 0 100000 = true from t2]
    refine g_if_ne C 25 dX5_row_18 (by decide) (fun h18 => ?_) (fun h18 => ?_)
    · refine g_aload_n C 0 dX5_row_25 rfl rfl ?_
      refine mg_14 C lk_X5_98 dX5_row_26 ?_
      refine g_bipush C 20 dX5_row_29 (by decide) ?_
      refine g_icmp_ne C 38 dX5_row_31 (by decide) (fun h31 => ?_) (fun h31 => ?_)
      · exact absurd hr h31
      · refine g_iconst C 2 dX5_row_34 (by decide) ?_
        refine g_goto C 39 dX5_row_35 (by decide) ?_
        refine mp_0 C lk_X5_69 dX5_row_39 (fun M1 hM1 => ?_)
        refine g_aload_n C 0 dX5_row_42 rfl rfl ?_
        refine mg_0 C lk_X5_69 dX5_row_43 ?_
        refine g_vi 2 (u2_at hM1) ?_
        refine g_if_gt C 71 dX5_row_46 (by decide) (fun h46 => ?_) (fun h46 => ?_)
        · refine g_iconst C 0 dX5_row_71 (by decide) ?_
          exact g_iret C hQ rfl rfl dX5_row_72 (by decide) (by decide) ⟨rfl, M1, rfl, rfl, hM1⟩
        · exact absurd h46 (by decide)
    · exact absurd h18 (by decide)
set_option maxRecDepth 100000 in
theorem c_misSource (l : Launch) (E : Ev) (o : Nat) (a : Nat → Nat) (M : MM) (Y : va_W) (S : HS) {i j : Nat} (hi : i < 40) (hj : j < 40) : Ctr l yX5_isSource (Cond.code yX5_isSource cX5_isSource 3 (some .boolean)) 1 0 0 E [.ref o, .int (nI i), .int (nI j)] (mw E o a M ++ Y) S (PoM E o a Y S (fun v M2 => some (.int (bI (isS M i j))) = v ∧ M = M2)) := by
  refine Ctr.ofG (by decide) [(0, .ref o), (1, .int (nI i)), (2, .int (nI j))] rfl (Nat.le_of_ble_eq_true rfl) ?_
  intro p e s m args below meth c A Q C hQ
  refine g_aload_n C 0 dX5_isSource_0 rfl rfl ?_
  refine mg_5 C lk_X5_19 dX5_isSource_1 ?_
  refine g_bipush C 40 dX5_isSource_4 (by decide) ?_
  refine g_iload_n C 1 dX5_isSource_6 rfl rfl ?_
  refine g_imul C dX5_isSource_7 ?_
  refine g_iload_n C 2 dX5_isSource_8 rfl rfl ?_
  refine g_iadd C dX5_isSource_9 ?_
  refine ml_5 C (40 * i + j) (nI_ab i j) (by omega) dX5_isSource_10 ?_
  refine g_if_le C 32 dX5_isSource_11 (by decide) (fun h11 => ?_) (fun h11 => ?_)
  · refine g_iconst C 0 dX5_isSource_32 (by decide) ?_
    exact g_iret C hQ rfl rfl dX5_isSource_33 (by decide) (by decide) ⟨rfl, M, rfl, sv (by simp [isS, bI, h11]), rfl⟩
  · refine g_aload_n C 0 dX5_isSource_14 rfl rfl ?_
    refine mg_6 C lk_X5_22 dX5_isSource_15 ?_
    refine g_bipush C 40 dX5_isSource_18 (by decide) ?_
    refine g_iload_n C 1 dX5_isSource_20 rfl rfl ?_
    refine g_imul C dX5_isSource_21 ?_
    refine g_iload_n C 2 dX5_isSource_22 rfl rfl ?_
    refine g_iadd C dX5_isSource_23 ?_
    refine ml_6 C (40 * i + j) (nI_ab i j) (by omega) dX5_isSource_24 ?_
    refine g_if_ne C 32 dX5_isSource_25 (by decide) (fun h25 => ?_) (fun h25 => ?_)
    · refine g_iconst C 0 dX5_isSource_32 (by decide) ?_
      exact g_iret C hQ rfl rfl dX5_isSource_33 (by decide) (by decide) ⟨rfl, M, rfl, sv (by simp [isS, bI, h25]), rfl⟩
    · refine g_iconst C 1 dX5_isSource_28 (by decide) ?_
      refine g_goto C 33 dX5_isSource_29 (by decide) ?_
      exact g_iret C hQ rfl rfl dX5_isSource_33 (by decide) (by decide) ⟨rfl, M, rfl, sv (by simp [isS, bI, h11, h25]), rfl⟩
set_option maxRecDepth 100000 in
theorem c_misStronger (l : Launch) (E : Ev) (o : Nat) (a : Nat → Nat) (M : MM) (Y : va_W) (S : HS) {i j k : Nat} (hi : i < 40) (hj : j < 40) (hk : k < 40) : Ctr l yX5_isStronger (Cond.code yX5_isStronger cX5_isStronger 8 (some .boolean)) 1 0 0 E [.ref o, .int (nI i), .int (nI j), .int (nI k)] (mw E o a M ++ Y) S (PoM E o a Y S (fun v M2 => some (.int (bI (stM M i j k))) = v ∧ M = M2)) := by
  refine Ctr.ofG (by decide) [(0, .ref o), (1, .int (nI i)), (2, .int (nI j)), (3, .int (nI k))] rfl (Nat.le_of_ble_eq_true rfl) ?_
  intro p e s m args below meth c A Q C hQ
  refine g_aload_n C 0 dX5_isStronger_0 rfl rfl ?_
  refine mg_5 C lk_X5_19 dX5_isStronger_1 ?_
  refine g_bipush C 40 dX5_isStronger_4 (by decide) ?_
  refine g_iload_n C 1 dX5_isStronger_6 rfl rfl ?_
  refine g_imul C dX5_isStronger_7 ?_
  refine g_iload_n C 2 dX5_isStronger_8 rfl rfl ?_
  refine g_iadd C dX5_isStronger_9 ?_
  refine ml_5 C (40 * i + j) (nI_ab i j) (by omega) dX5_isStronger_10 ?_
  refine g_istore C [(4, .int (M 5 (40 * i + j))), (0, .ref o), (1, .int (nI i)), (2, .int (nI j)), (3, .int (nI k))] dX5_isStronger_11 (by decide) rfl ?_
  refine g_aload_n C 1 dX5_isStronger_13 rfl rfl ?_
  refine mg_5 C lk_X5_19 dX5_isStronger_14 ?_
  refine g_bipush C 40 dX5_isStronger_17 (by decide) ?_
  refine g_iload_n C 2 dX5_isStronger_19 rfl rfl ?_
  refine g_imul C dX5_isStronger_20 ?_
  refine g_iload_n C 4 dX5_isStronger_21 rfl rfl ?_
  refine g_iadd C dX5_isStronger_22 ?_
  refine ml_5 C (40 * i + k) (nI_ab i k) (by omega) dX5_isStronger_23 ?_
  refine g_istore C [(5, .int (M 5 (40 * i + k))), (4, .int (M 5 (40 * i + j))), (0, .ref o), (1, .int (nI i)), (2, .int (nI j)), (3, .int (nI k))] dX5_isStronger_24 (by decide) rfl ?_
  refine g_iload C 1 dX5_isStronger_26 rfl ?_
  refine g_aload_n C 2 dX5_isStronger_28 rfl rfl ?_
  refine mg_4 C lk_X5_16 dX5_isStronger_29 ?_
  refine g_iload_n C 4 dX5_isStronger_32 rfl rfl ?_
  refine ml_4 C j rfl (by omega) dX5_isStronger_33 ?_
  refine g_imul C dX5_isStronger_34 ?_
  refine g_istore C [(6, .int ((M 5 (40 * i + j)) * (M 4 j))), (5, .int (M 5 (40 * i + k))), (4, .int (M 5 (40 * i + j))), (0, .ref o), (1, .int (nI i)), (2, .int (nI j)), (3, .int (nI k))] dX5_isStronger_35 (by decide) rfl ?_
  refine g_iload C 1 dX5_isStronger_37 rfl ?_
  refine g_aload_n C 3 dX5_isStronger_39 rfl rfl ?_
  refine mg_4 C lk_X5_16 dX5_isStronger_40 ?_
  refine g_iload_n C 6 dX5_isStronger_43 rfl rfl ?_
  refine ml_4 C k rfl (by omega) dX5_isStronger_44 ?_
  refine g_imul C dX5_isStronger_45 ?_
  refine g_istore C [(7, .int ((M 5 (40 * i + k)) * (M 4 k))), (6, .int ((M 5 (40 * i + j)) * (M 4 j))), (5, .int (M 5 (40 * i + k))), (4, .int (M 5 (40 * i + j))), (0, .ref o), (1, .int (nI i)), (2, .int (nI j)), (3, .int (nI k))] dX5_isStronger_46 (by decide) rfl ?_
  refine g_iload C 1 dX5_isStronger_48 rfl ?_
  refine g_iload C 0 dX5_isStronger_50 rfl ?_
  refine g_icmp_eq C 70 dX5_isStronger_52 (by decide) (fun h52 => ?_) (fun h52 => ?_)
  · refine g_iload C 3 dX5_isStronger_70 rfl ?_
    refine g_iload C 2 dX5_isStronger_72 rfl ?_
    refine g_icmp_eq C 92 dX5_isStronger_74 (by decide) (fun h74 => ?_) (fun h74 => ?_)
    · refine g_iload_n C 6 dX5_isStronger_92 rfl rfl ?_
      refine g_iload_n C 7 dX5_isStronger_93 rfl rfl ?_
      refine g_icmp_ge C 101 dX5_isStronger_94 (by decide) (fun h94 => ?_) (fun h94 => ?_)
      · refine g_iconst C 0 dX5_isStronger_101 (by decide) ?_
        exact g_iret C hQ rfl rfl dX5_isStronger_102 (by decide) (by decide) ⟨rfl, M, rfl, sv (by unfold stM; rw [if_pos h52] ; rw [if_pos h74]; simp [bI, h94]), rfl⟩
      · refine g_iconst C 1 dX5_isStronger_97 (by decide) ?_
        refine g_goto C 102 dX5_isStronger_98 (by decide) ?_
        exact g_iret C hQ rfl rfl dX5_isStronger_102 (by decide) (by decide) ⟨rfl, M, rfl, sv (by unfold stM; rw [if_pos h52] ; rw [if_pos h74]; simp [bI, h94]), rfl⟩
    · refine g_iload C 3 dX5_isStronger_77 rfl ?_
      refine g_iload C 2 dX5_isStronger_79 rfl ?_
      refine g_icmp_le C 88 dX5_isStronger_81 (by decide) (fun h81 => ?_) (fun h81 => ?_)
      · refine g_iconst C 0 dX5_isStronger_88 (by decide) ?_
        refine g_goto C 102 dX5_isStronger_89 (by decide) ?_
        exact g_iret C hQ rfl rfl dX5_isStronger_102 (by decide) (by decide) ⟨rfl, M, rfl, sv (by unfold stM; rw [if_pos h52] ; rw [if_neg h74]; simp [bI, h81]), rfl⟩
      · refine g_iconst C 1 dX5_isStronger_84 (by decide) ?_
        refine g_goto C 102 dX5_isStronger_85 (by decide) ?_
        exact g_iret C hQ rfl rfl dX5_isStronger_102 (by decide) (by decide) ⟨rfl, M, rfl, sv (by unfold stM; rw [if_pos h52] ; rw [if_neg h74]; simp [bI, h81]), rfl⟩
  · refine g_iload C 1 dX5_isStronger_55 rfl ?_
    refine g_iload C 0 dX5_isStronger_57 rfl ?_
    refine g_icmp_le C 66 dX5_isStronger_59 (by decide) (fun h59 => ?_) (fun h59 => ?_)
    · refine g_iconst C 0 dX5_isStronger_66 (by decide) ?_
      refine g_goto C 102 dX5_isStronger_67 (by decide) ?_
      exact g_iret C hQ rfl rfl dX5_isStronger_102 (by decide) (by decide) ⟨rfl, M, rfl, sv (by unfold stM; rw [if_neg h52]; simp [bI, h59]), rfl⟩
    · refine g_iconst C 1 dX5_isStronger_62 (by decide) ?_
      refine g_goto C 102 dX5_isStronger_63 (by decide) ?_
      exact g_iret C hQ rfl rfl dX5_isStronger_102 (by decide) (by decide) ⟨rfl, M, rfl, sv (by unfold stM; rw [if_neg h52]; simp [bI, h59]), rfl⟩
