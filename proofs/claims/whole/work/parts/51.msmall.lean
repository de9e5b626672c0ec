def wi (v lo hi : Int32) : Bool := decide (¬ v < lo) && decide (¬ hi < v)
def isn (M : MM) (v : Int32) : Bool := decide (¬ v < 0) && decide (v < M 1 0)
theorem wi_t {v lo hi : Int32} (h1 : ¬ v < lo) (h2 : ¬ hi < v) : wi v lo hi = true := by simp [wi, h1, h2]
theorem wi_f1 {v lo hi : Int32} (h1 : v < lo) : wi v lo hi = false := by simp [wi, h1]
theorem wi_f2 {v lo hi : Int32} (h1 : hi < v) : wi v lo hi = false := by simp [wi, h1]
theorem isn_t {M : MM} {n i : Nat} (hn : M 1 0 = nI n) (h40 : n ≤ 40) (h : i < n) : isn M (nI i) = true := by
  have h1 : ¬ nI i < 0 := nI_pos (by omega)
  have h2 : nI i < M 1 0 := by rw [hn]; exact nI_lt h (by omega)
  simp [isn, h1, h2]
set_option maxRecDepth 100000 in
theorem c_mwithin (l : Launch) (E : Ev) (X : va_W) (S : HS) (v lo hi : Int32) : Ctr l yX5_within (Cond.code yX5_within cX5_within 3 (some .boolean)) 1 0 0 E [.int v, .int lo, .int hi] X S (Same (.int (bI (wi v lo hi))) X S) := by
  refine Ctr.ofG (by decide) [(0, .int v), (1, .int lo), (2, .int hi)] rfl (Nat.le_of_ble_eq_true rfl) ?_
  intro p e s m args below meth c A Q C hQ
  refine g_iload_n C 0 dX5_within_0 rfl rfl ?_
  refine g_iload_n C 1 dX5_within_1 rfl rfl ?_
  refine g_icmp_lt C 14 dX5_within_2 (by decide) (fun h2 => ?_) (fun h2 => ?_)
  · refine g_iconst C 0 dX5_within_14 (by decide) ?_
    exact g_iret C hQ rfl rfl dX5_within_15 (by decide) (by decide) ⟨sv (bI_f (wi_f1 h2)), rfl, rfl⟩
  · refine g_iload_n C 0 dX5_within_5 rfl rfl ?_
    refine g_iload_n C 2 dX5_within_6 rfl rfl ?_
    refine g_icmp_gt C 14 dX5_within_7 (by decide) (fun h7 => ?_) (fun h7 => ?_)
    · refine g_iconst C 0 dX5_within_14 (by decide) ?_
      exact g_iret C hQ rfl rfl dX5_within_15 (by decide) (by decide) ⟨sv (bI_f (wi_f2 h7)), rfl, rfl⟩
    · refine g_iconst C 1 dX5_within_10 (by decide) ?_
      refine g_goto C 15 dX5_within_11 (by decide) ?_
      exact g_iret C hQ rfl rfl dX5_within_15 (by decide) (by decide) ⟨sv (bI_t (wi_t h2 h7)), rfl, rfl⟩
set_option maxRecDepth 100000 in
theorem c_mthrown (l : Launch) (E : Ev) (o : Nat) (a : Nat → Nat) (M : MM) (Y : va_W) (S : HS)  : Ctr l yX5_thrown (Cond.code yX5_thrown cX5_thrown 1 (some .int)) 1 0 0 E [.ref o] (mw E o a M ++ Y) S (PoM E o a Y S (fun v M2 => some (.int (M 0 0)) = v ∧ M = M2)) := by
  refine Ctr.ofG (by decide) [(0, .ref o)] rfl (Nat.le_of_ble_eq_true rfl) ?_
  intro p e s m args below meth c A Q C hQ
  refine g_aload_n C 0 dX5_thrown_0 rfl rfl ?_
  refine mg_0 C lk_X5_69 dX5_thrown_1 ?_
  exact g_iret C hQ rfl rfl dX5_thrown_4 (by decide) (by decide) ⟨rfl, M, rfl, rfl, rfl⟩
set_option maxRecDepth 100000 in
theorem c_misNet (l : Launch) (E : Ev) (o : Nat) (a : Nat → Nat) (M : MM) (Y : va_W) (S : HS) (v : Int32) : Ctr l yX5_isNet (Cond.code yX5_isNet cX5_isNet 2 (some .boolean)) 1 0 0 E [.ref o, .int v] (mw E o a M ++ Y) S (PoM E o a Y S (fun v2 M2 => some (.int (bI (isn M v))) = v2 ∧ M = M2)) := by
  refine Ctr.ofG (by decide) [(0, .ref o), (1, .int v)] rfl (Nat.le_of_ble_eq_true rfl) ?_
  intro p e s m args below meth c A Q C hQ
  refine g_iload_n C 1 dX5_isNet_0 rfl rfl ?_
  refine g_if_lt C 16 dX5_isNet_1 (by decide) (fun h1 => ?_) (fun h1 => ?_)
  · refine g_iconst C 0 dX5_isNet_16 (by decide) ?_
    exact g_iret C hQ rfl rfl dX5_isNet_17 (by decide) (by decide) ⟨rfl, M, rfl, sv (by simp [isn, bI, h1]), rfl⟩
  · refine g_iload_n C 1 dX5_isNet_4 rfl rfl ?_
    refine g_aload_n C 0 dX5_isNet_5 rfl rfl ?_
    refine mg_1 C lk_X5_72 dX5_isNet_6 ?_
    refine g_icmp_ge C 16 dX5_isNet_9 (by decide) (fun h9 => ?_) (fun h9 => ?_)
    · refine g_iconst C 0 dX5_isNet_16 (by decide) ?_
      exact g_iret C hQ rfl rfl dX5_isNet_17 (by decide) (by decide) ⟨rfl, M, rfl, sv (by simp [isn, bI, h9]), rfl⟩
    · refine g_iconst C 1 dX5_isNet_12 (by decide) ?_
      refine g_goto C 17 dX5_isNet_13 (by decide) ?_
      exact g_iret C hQ rfl rfl dX5_isNet_17 (by decide) (by decide) ⟨rfl, M, rfl, sv (by simp [isn, bI, h1, h9]), rfl⟩
set_option maxRecDepth 100000 in
theorem c_mearly (l : Launch) (E : Ev) (o : Nat) (a : Nat → Nat) (M : MM) (Y : va_W) (S : HS) {n : Nat} (hn : M 1 0 = nI n) (h40 : n ≤ 40) {i : Nat} (hi : i < n) : Ctr l yX5_early (Cond.code yX5_early cX5_early 2 (some .int)) 2 0 0 E [.ref o, .int (nI i)] (mw E o a M ++ Y) S (PoM E o a Y S (fun v M2 => some (.int (if M 17 0 ≤ nI i then -1 else M 21 i)) = v ∧ u2 M 0 0 0 = M2)) := by
  refine Ctr.ofG (by decide) [(0, .ref o), (1, .int (nI i))] rfl (Nat.le_of_ble_eq_true rfl) ?_
  intro p e s m args below meth c A Q C hQ
  refine g_aload_n C 0 dX5_early_0 rfl rfl ?_
  refine g_aload_n C 0 dX5_early_1 rfl rfl ?_
  refine g_iload_n C 1 dX5_early_2 rfl rfl ?_
  refine g_callV C [.int (nI i)] [.ref o] (c_misNet l E o a M Y S (nI i)) ⟨0, mfs a M, rfl⟩ rfl cm_X5_isNet wv_X5_80 ds_X5_isNet rfl rfl (Nat.le_of_ble_eq_true rfl) (by decide) (by decide) dX5_early_3 ?_
  rintro v9 X2 S2 ⟨rfl, M9, rfl, rfl, rfl⟩
  rw [show isn M (nI i) = true from isn_t hn h40 hi]
  refine g_if_eq C 13 dX5_early_6 (by decide) (fun h6 => ?_) (fun h6 => ?_)
  · exact absurd h6 (by decide)
  · refine g_iconst C 0 dX5_early_9 (by decide) ?_
    refine g_goto C 14 dX5_early_10 (by decide) ?_
    refine mp_0 C lk_X5_69 dX5_early_14 (fun M1 hM1 => ?_)
    refine g_aload_n C 0 dX5_early_17 rfl rfl ?_
    refine mg_0 C lk_X5_69 dX5_early_18 ?_
    refine g_vi 0 (u2_at hM1) ?_
    refine g_if_le C 28 dX5_early_21 (by decide) (fun h21 => ?_) (fun h21 => ?_)
    · refine g_iload_n C 1 dX5_early_28 rfl rfl ?_
      refine g_aload_n C 0 dX5_early_29 rfl rfl ?_
      refine mg_17 C lk_X5_120 dX5_early_30 ?_
      refine g_vi (M 17 0) (congrFun (u2_row hM1 (by decide)) 0) ?_
      refine g_icmp_ge C 45 dX5_early_33 (by decide) (fun h33 => ?_) (fun h33 => ?_)
      · refine g_iconst C (-1) dX5_early_45 (by decide) ?_
        exact g_iret C hQ rfl rfl dX5_early_46 (by decide) (by decide) ⟨rfl, M1, rfl, sv (by rw [if_pos h33]), hM1⟩
      · refine g_aload_n C 0 dX5_early_36 rfl rfl ?_
        refine mg_21 C lk_X5_51 dX5_early_37 ?_
        refine g_iload_n C 1 dX5_early_40 rfl rfl ?_
        refine ml_21 C i rfl (by omega) dX5_early_41 ?_
        refine g_vi (M 21 i) (congrFun (u2_row hM1 (by decide)) i) ?_
        refine g_goto C 46 dX5_early_42 (by decide) ?_
        exact g_iret C hQ rfl rfl dX5_early_46 (by decide) (by decide) ⟨rfl, M1, rfl, sv (by rw [if_neg h33]), hM1⟩
    · exact absurd h21 (by decide)
set_option maxRecDepth 100000 in
theorem c_mlate (l : Launch) (E : Ev) (o : Nat) (a : Nat → Nat) (M : MM) (Y : va_W) (S : HS) {n : Nat} (hn : M 1 0 = nI n) (h40 : n ≤ 40) {i : Nat} (hi : i < n) : Ctr l yX5_late (Cond.code yX5_late cX5_late 2 (some .int)) 2 0 0 E [.ref o, .int (nI i)] (mw E o a M ++ Y) S (PoM E o a Y S (fun v M2 => some (.int (if M 17 0 ≤ nI i then -1 else M 22 i)) = v ∧ u2 M 0 0 0 = M2)) := by
  refine Ctr.ofG (by decide) [(0, .ref o), (1, .int (nI i))] rfl (Nat.le_of_ble_eq_true rfl) ?_
  intro p e s m args below meth c A Q C hQ
  refine g_aload_n C 0 dX5_late_0 rfl rfl ?_
  refine g_aload_n C 0 dX5_late_1 rfl rfl ?_
  refine g_iload_n C 1 dX5_late_2 rfl rfl ?_
  refine g_callV C [.int (nI i)] [.ref o] (c_misNet l E o a M Y S (nI i)) ⟨0, mfs a M, rfl⟩ rfl cm_X5_isNet wv_X5_80 ds_X5_isNet rfl rfl (Nat.le_of_ble_eq_true rfl) (by decide) (by decide) dX5_late_3 ?_
  rintro v9 X2 S2 ⟨rfl, M9, rfl, rfl, rfl⟩
  rw [show isn M (nI i) = true from isn_t hn h40 hi]
  refine g_if_eq C 13 dX5_late_6 (by decide) (fun h6 => ?_) (fun h6 => ?_)
  · exact absurd h6 (by decide)
  · refine g_iconst C 0 dX5_late_9 (by decide) ?_
    refine g_goto C 14 dX5_late_10 (by decide) ?_
    refine mp_0 C lk_X5_69 dX5_late_14 (fun M1 hM1 => ?_)
    refine g_aload_n C 0 dX5_late_17 rfl rfl ?_
    refine mg_0 C lk_X5_69 dX5_late_18 ?_
    refine g_vi 0 (u2_at hM1) ?_
    refine g_if_le C 28 dX5_late_21 (by decide) (fun h21 => ?_) (fun h21 => ?_)
    · refine g_iload_n C 1 dX5_late_28 rfl rfl ?_
      refine g_aload_n C 0 dX5_late_29 rfl rfl ?_
      refine mg_17 C lk_X5_120 dX5_late_30 ?_
      refine g_vi (M 17 0) (congrFun (u2_row hM1 (by decide)) 0) ?_
      refine g_icmp_ge C 45 dX5_late_33 (by decide) (fun h33 => ?_) (fun h33 => ?_)
      · refine g_iconst C (-1) dX5_late_45 (by decide) ?_
        exact g_iret C hQ rfl rfl dX5_late_46 (by decide) (by decide) ⟨rfl, M1, rfl, sv (by rw [if_pos h33]), hM1⟩
      · refine g_aload_n C 0 dX5_late_36 rfl rfl ?_
        refine mg_22 C lk_X5_54 dX5_late_37 ?_
        refine g_iload_n C 1 dX5_late_40 rfl rfl ?_
        refine ml_22 C i rfl (by omega) dX5_late_41 ?_
        refine g_vi (M 22 i) (congrFun (u2_row hM1 (by decide)) i) ?_
        refine g_goto C 46 dX5_late_42 (by decide) ?_
        exact g_iret C hQ rfl rfl dX5_late_46 (by decide) (by decide) ⟨rfl, M1, rfl, sv (by rw [if_neg h33]), hM1⟩
    · exact absurd h21 (by decide)
set_option maxRecDepth 100000 in
theorem c_madded (l : Launch) (E : Ev) (o : Nat) (a : Nat → Nat) (M : MM) (Y : va_W) (S : HS) {n : Nat} (hn : M 1 0 = nI n) (h40 : n ≤ 40) {i : Nat} (hi : i < n) : Ctr l yX5_added (Cond.code yX5_added cX5_added 2 (some .int)) 2 0 0 E [.ref o, .int (nI i)] (mw E o a M ++ Y) S (PoM E o a Y S (fun v M2 => some (.int (M 20 i)) = v ∧ u2 M 0 0 0 = M2)) := by
  refine Ctr.ofG (by decide) [(0, .ref o), (1, .int (nI i))] rfl (Nat.le_of_ble_eq_true rfl) ?_
  intro p e s m args below meth c A Q C hQ
  refine g_aload_n C 0 dX5_added_0 rfl rfl ?_
  refine g_aload_n C 0 dX5_added_1 rfl rfl ?_
  refine g_iload_n C 1 dX5_added_2 rfl rfl ?_
  refine g_callV C [.int (nI i)] [.ref o] (c_misNet l E o a M Y S (nI i)) ⟨0, mfs a M, rfl⟩ rfl cm_X5_isNet wv_X5_80 ds_X5_isNet rfl rfl (Nat.le_of_ble_eq_true rfl) (by decide) (by decide) dX5_added_3 ?_
  rintro v9 X2 S2 ⟨rfl, M9, rfl, rfl, rfl⟩
  rw [show isn M (nI i) = true from isn_t hn h40 hi]
  refine g_if_eq C 13 dX5_added_6 (by decide) (fun h6 => ?_) (fun h6 => ?_)
  · exact absurd h6 (by decide)
  · refine g_iconst C 0 dX5_added_9 (by decide) ?_
    refine g_goto C 14 dX5_added_10 (by decide) ?_
    refine mp_0 C lk_X5_69 dX5_added_14 (fun M1 hM1 => ?_)
    refine g_aload_n C 0 dX5_added_17 rfl rfl ?_
    refine mg_0 C lk_X5_69 dX5_added_18 ?_
    refine g_vi 0 (u2_at hM1) ?_
    refine g_if_le C 28 dX5_added_21 (by decide) (fun h21 => ?_) (fun h21 => ?_)
    · refine g_aload_n C 0 dX5_added_28 rfl rfl ?_
      refine mg_20 C lk_X5_48 dX5_added_29 ?_
      refine g_iload_n C 1 dX5_added_32 rfl rfl ?_
      refine ml_20 C i rfl (by omega) dX5_added_33 ?_
      refine g_vi (M 20 i) (congrFun (u2_row hM1 (by decide)) i) ?_
      exact g_iret C hQ rfl rfl dX5_added_34 (by decide) (by decide) ⟨rfl, M1, rfl, rfl, hM1⟩
    · exact absurd h21 (by decide)
set_option maxRecDepth 100000 in
theorem c_mearlyB (l : Launch) (E : Ev) (o : Nat) (a : Nat → Nat) (M : MM) (Y : va_W) (S : HS) {v : Int32} (hv : isn M v = false) : Ctr l yX5_early (Cond.code yX5_early cX5_early 2 (some .int)) 2 0 0 E [.ref o, .int v] (mw E o a M ++ Y) S (PoM E o a Y S (fun v2 M2 => some (.int 0) = v2 ∧ u2 M 0 0 1 = M2)) := by
  refine Ctr.ofG (by decide) [(0, .ref o), (1, .int v)] rfl (Nat.le_of_ble_eq_true rfl) ?_
  intro p e s m args below meth c A Q C hQ
  refine g_aload_n C 0 dX5_early_0 rfl rfl ?_
  refine g_aload_n C 0 dX5_early_1 rfl rfl ?_
  refine g_iload_n C 1 dX5_early_2 rfl rfl ?_
  refine g_callV C [.int v] [.ref o] (c_misNet l E o a M Y S v) ⟨0, mfs a M, rfl⟩ rfl cm_X5_isNet wv_X5_80 ds_X5_isNet rfl rfl (Nat.le_of_ble_eq_true rfl) (by decide) (by decide) dX5_early_3 ?_
  rintro v9 X2 S2 ⟨rfl, M9, rfl, rfl, rfl⟩
  rw [show isn M v = false from hv]
  refine g_if_eq C 13 dX5_early_6 (by decide) (fun h6 => ?_) (fun h6 => ?_)
  · refine g_iconst C 1 dX5_early_13 (by decide) ?_
    refine mp_0 C lk_X5_69 dX5_early_14 (fun M1 hM1 => ?_)
    refine g_aload_n C 0 dX5_early_17 rfl rfl ?_
    refine mg_0 C lk_X5_69 dX5_early_18 ?_
    refine g_vi 1 (u2_at hM1) ?_
    refine g_if_le C 28 dX5_early_21 (by decide) (fun h21 => ?_) (fun h21 => ?_)
    · exact absurd h21 (by decide)
    · refine g_iconst C 0 dX5_early_24 (by decide) ?_
      refine g_goto C 46 dX5_early_25 (by decide) ?_
      exact g_iret C hQ rfl rfl dX5_early_46 (by decide) (by decide) ⟨rfl, M1, rfl, rfl, hM1⟩
  · exact absurd h6 (by decide)
set_option maxRecDepth 100000 in
theorem c_mlateB (l : Launch) (E : Ev) (o : Nat) (a : Nat → Nat) (M : MM) (Y : va_W) (S : HS) {v : Int32} (hv : isn M v = false) : Ctr l yX5_late (Cond.code yX5_late cX5_late 2 (some .int)) 2 0 0 E [.ref o, .int v] (mw E o a M ++ Y) S (PoM E o a Y S (fun v2 M2 => some (.int 0) = v2 ∧ u2 M 0 0 1 = M2)) := by
  refine Ctr.ofG (by decide) [(0, .ref o), (1, .int v)] rfl (Nat.le_of_ble_eq_true rfl) ?_
  intro p e s m args below meth c A Q C hQ
  refine g_aload_n C 0 dX5_late_0 rfl rfl ?_
  refine g_aload_n C 0 dX5_late_1 rfl rfl ?_
  refine g_iload_n C 1 dX5_late_2 rfl rfl ?_
  refine g_callV C [.int v] [.ref o] (c_misNet l E o a M Y S v) ⟨0, mfs a M, rfl⟩ rfl cm_X5_isNet wv_X5_80 ds_X5_isNet rfl rfl (Nat.le_of_ble_eq_true rfl) (by decide) (by decide) dX5_late_3 ?_
  rintro v9 X2 S2 ⟨rfl, M9, rfl, rfl, rfl⟩
  rw [show isn M v = false from hv]
  refine g_if_eq C 13 dX5_late_6 (by decide) (fun h6 => ?_) (fun h6 => ?_)
  · refine g_iconst C 1 dX5_late_13 (by decide) ?_
    refine mp_0 C lk_X5_69 dX5_late_14 (fun M1 hM1 => ?_)
    refine g_aload_n C 0 dX5_late_17 rfl rfl ?_
    refine mg_0 C lk_X5_69 dX5_late_18 ?_
    refine g_vi 1 (u2_at hM1) ?_
    refine g_if_le C 28 dX5_late_21 (by decide) (fun h21 => ?_) (fun h21 => ?_)
    · exact absurd h21 (by decide)
    · refine g_iconst C 0 dX5_late_24 (by decide) ?_
      refine g_goto C 46 dX5_late_25 (by decide) ?_
      exact g_iret C hQ rfl rfl dX5_late_46 (by decide) (by decide) ⟨rfl, M1, rfl, rfl, hM1⟩
  · exact absurd h6 (by decide)
set_option maxRecDepth 100000 in
theorem c_maddedB (l : Launch) (E : Ev) (o : Nat) (a : Nat → Nat) (M : MM) (Y : va_W) (S : HS) {v : Int32} (hv : isn M v = false) : Ctr l yX5_added (Cond.code yX5_added cX5_added 2 (some .int)) 2 0 0 E [.ref o, .int v] (mw E o a M ++ Y) S (PoM E o a Y S (fun v2 M2 => some (.int 0) = v2 ∧ u2 M 0 0 1 = M2)) := by
  refine Ctr.ofG (by decide) [(0, .ref o), (1, .int v)] rfl (Nat.le_of_ble_eq_true rfl) ?_
  intro p e s m args below meth c A Q C hQ
  refine g_aload_n C 0 dX5_added_0 rfl rfl ?_
  refine g_aload_n C 0 dX5_added_1 rfl rfl ?_
  refine g_iload_n C 1 dX5_added_2 rfl rfl ?_
  refine g_callV C [.int v] [.ref o] (c_misNet l E o a M Y S v) ⟨0, mfs a M, rfl⟩ rfl cm_X5_isNet wv_X5_80 ds_X5_isNet rfl rfl (Nat.le_of_ble_eq_true rfl) (by decide) (by decide) dX5_added_3 ?_
  rintro v9 X2 S2 ⟨rfl, M9, rfl, rfl, rfl⟩
  rw [show isn M v = false from hv]
  refine g_if_eq C 13 dX5_added_6 (by decide) (fun h6 => ?_) (fun h6 => ?_)
  · refine g_iconst C 1 dX5_added_13 (by decide) ?_
    refine mp_0 C lk_X5_69 dX5_added_14 (fun M1 hM1 => ?_)
    refine g_aload_n C 0 dX5_added_17 rfl rfl ?_
    refine mg_0 C lk_X5_69 dX5_added_18 ?_
    refine g_vi 1 (u2_at hM1) ?_
    refine g_if_le C 28 dX5_added_21 (by decide) (fun h21 => ?_) (fun h21 => ?_)
    · exact absurd h21 (by decide)
    · refine g_iconst C 0 dX5_added_24 (by decide) ?_
      refine g_goto C 34 dX5_added_25 (by decide) ?_
      exact g_iret C hQ rfl rfl dX5_added_34 (by decide) (by decide) ⟨rfl, M1, rfl, rfl, hM1⟩
  · exact absurd h6 (by decide)
set_option maxRecDepth 100000 in
theorem c_mchanged (l : Launch) (E : Ev) (o : Nat) (a : Nat → Nat) (M : MM) (Y : va_W) (S : HS) {rd i : Nat} (hr : M 18 0 = nI rd) (h50 : rd ≤ 50) (hi : i < rd) : Ctr l yX5_changed (Cond.code yX5_changed cX5_changed 2 (some .int)) 1 0 0 E [.ref o, .int (nI i)] (mw E o a M ++ Y) S (PoM E o a Y S (fun v M2 => some (.int (M 19 i)) = v ∧ u2 M 0 0 0 = M2)) := by
  refine Ctr.ofG (by decide) [(0, .ref o), (1, .int (nI i))] rfl (Nat.le_of_ble_eq_true rfl) ?_
  intro p e s m args below meth c A Q C hQ
  refine g_aload_n C 0 dX5_changed_0 rfl rfl ?_
  refine g_iload_n C 1 dX5_changed_1 rfl rfl ?_
  refine g_if_lt C 13 dX5_changed_2 (by decide) (fun h2 => ?_) (fun h2 => ?_)
  · first | exact absurd h2 (nI_pos (by omega)) | exact absurd (nI_lt hi (by omega)) h10
  · refine g_iload_n C 1 dX5_changed_5 rfl rfl ?_
    refine g_aload_n C 0 dX5_changed_6 rfl rfl ?_
    refine mg_18 C lk_X5_114 dX5_changed_7 ?_
    refine g_vi (nI rd) (hr) ?_
    refine g_icmp_lt C 17 dX5_changed_10 (by decide) (fun h10 => ?_) (fun h10 => ?_)
    · refine g_iconst C 0 dX5_changed_17 (by decide) ?_
      refine mp_0 C lk_X5_69 dX5_changed_18 (fun M1 hM1 => ?_)
      refine g_aload_n C 0 dX5_changed_21 rfl rfl ?_
      refine mg_0 C lk_X5_69 dX5_changed_22 ?_
      refine g_vi 0 (u2_at hM1) ?_
      refine g_if_le C 32 dX5_changed_25 (by decide) (fun h25 => ?_) (fun h25 => ?_)
      · refine g_aload_n C 0 dX5_changed_32 rfl rfl ?_
        refine mg_19 C lk_X5_45 dX5_changed_33 ?_
        refine g_iload_n C 1 dX5_changed_36 rfl rfl ?_
        refine ml_19 C i rfl (by omega) dX5_changed_37 ?_
        refine g_vi (M 19 i) (congrFun (u2_row hM1 (by decide)) i) ?_
        exact g_iret C hQ rfl rfl dX5_changed_38 (by decide) (by decide) ⟨rfl, M1, rfl, rfl, hM1⟩
      · exact absurd h25 (by decide)
    · first | exact absurd h2 (nI_pos (by omega)) | exact absurd (nI_lt hi (by omega)) h10
set_option maxRecDepth 100000 in
theorem c_mchangedB (l : Launch) (E : Ev) (o : Nat) (a : Nat → Nat) (M : MM) (Y : va_W) (S : HS) {v : Int32} (h : v < 0 ∨ ¬ v < M 18 0) : Ctr l yX5_changed (Cond.code yX5_changed cX5_changed 2 (some .int)) 1 0 0 E [.ref o, .int v] (mw E o a M ++ Y) S (PoM E o a Y S (fun v2 M2 => some (.int 0) = v2 ∧ u2 M 0 0 1 = M2)) := by
  refine Ctr.ofG (by decide) [(0, .ref o), (1, .int v)] rfl (Nat.le_of_ble_eq_true rfl) ?_
  intro p e s m args below meth c A Q C hQ
  refine g_aload_n C 0 dX5_changed_0 rfl rfl ?_
  refine g_iload_n C 1 dX5_changed_1 rfl rfl ?_
  refine g_if_lt C 13 dX5_changed_2 (by decide) (fun h2 => ?_) (fun h2 => ?_)
  · refine g_iconst C 1 dX5_changed_13 (by decide) ?_
    refine g_goto C 18 dX5_changed_14 (by decide) ?_
    refine mp_0 C lk_X5_69 dX5_changed_18 (fun M1 hM1 => ?_)
    refine g_aload_n C 0 dX5_changed_21 rfl rfl ?_
    refine mg_0 C lk_X5_69 dX5_changed_22 ?_
    refine g_vi 1 (u2_at hM1) ?_
    refine g_if_le C 32 dX5_changed_25 (by decide) (fun h25 => ?_) (fun h25 => ?_)
    · exact absurd h25 (by decide)
    · refine g_iconst C 0 dX5_changed_28 (by decide) ?_
      refine g_goto C 38 dX5_changed_29 (by decide) ?_
      exact g_iret C hQ rfl rfl dX5_changed_38 (by decide) (by decide) ⟨rfl, M1, rfl, rfl, hM1⟩
  · refine g_iload_n C 1 dX5_changed_5 rfl rfl ?_
    refine g_aload_n C 0 dX5_changed_6 rfl rfl ?_
    refine mg_18 C lk_X5_114 dX5_changed_7 ?_
    refine g_icmp_lt C 17 dX5_changed_10 (by decide) (fun h10 => ?_) (fun h10 => ?_)
    · exact absurd h (fun q => q.elim (fun z => h2 z) (fun z => z h10))
    · refine g_iconst C 1 dX5_changed_13 (by decide) ?_
      refine g_goto C 18 dX5_changed_14 (by decide) ?_
      refine mp_0 C lk_X5_69 dX5_changed_18 (fun M1 hM1 => ?_)
      refine g_aload_n C 0 dX5_changed_21 rfl rfl ?_
      refine mg_0 C lk_X5_69 dX5_changed_22 ?_
      refine g_vi 1 (u2_at hM1) ?_
      refine g_if_le C 32 dX5_changed_25 (by decide) (fun h25 => ?_) (fun h25 => ?_)
      · exact absurd h25 (by decide)
      · refine g_iconst C 0 dX5_changed_28 (by decide) ?_
        refine g_goto C 38 dX5_changed_29 (by decide) ?_
        exact g_iret C hQ rfl rfl dX5_changed_38 (by decide) (by decide) ⟨rfl, M1, rfl, rfl, hM1⟩
set_option maxRecDepth 100000 in
theorem c_mkeep (l : Launch) (E : Ev) (o : Nat) (a : Nat → Nat) (M : MM) (Y : va_W) (S : HS) {v : Int32} (hv : wi v 1 8 = true) : Ctr l yX5_keep (Cond.code yX5_keep cX5_keep 3 (some .int)) 2 0 0 E [.ref o, .int v] (mw E o a M ++ Y) S (PoM E o a Y S (fun v2 M2 => some (.int (M 13 0)) = v2 ∧ u2 (u2 M 0 0 0) 13 0 v = M2)) := by
  refine Ctr.ofG (by decide) [(0, .ref o), (1, .int v)] rfl (Nat.le_of_ble_eq_true rfl) ?_
  intro p e s m args below meth c A Q C hQ
  refine g_aload_n C 0 dX5_keep_0 rfl rfl ?_
  refine g_iload_n C 1 dX5_keep_1 rfl rfl ?_
  refine g_iconst C 1 dX5_keep_2 (by decide) ?_
  refine g_bipush C 8 dX5_keep_3 (by decide) ?_
  refine g_callS C [.int v, .int 1, .int 8] [.ref o] (c_mwithin l E (mw E o a M ++ Y) S v 1 8) cm_X5_within wst_X5_76 dt_X5_within rfl rfl (Nat.le_of_ble_eq_true rfl) (by decide) (by decide) dX5_keep_5 ?_
  rintro v9 X2 S2 ⟨rfl, rfl, rfl⟩
  rw [show wi v 1 8 = true from hv]
  refine g_if_eq C 15 dX5_keep_8 (by decide) (fun h8 => ?_) (fun h8 => ?_)
  · exact absurd h8 (by decide)
  · refine g_iconst C 0 dX5_keep_11 (by decide) ?_
    refine g_goto C 16 dX5_keep_12 (by decide) ?_
    refine mp_0 C lk_X5_69 dX5_keep_16 (fun M1 hM1 => ?_)
    refine g_aload_n C 0 dX5_keep_19 rfl rfl ?_
    refine mg_0 C lk_X5_69 dX5_keep_20 ?_
    refine g_vi 0 (u2_at hM1) ?_
    refine g_if_le C 28 dX5_keep_23 (by decide) (fun h23 => ?_) (fun h23 => ?_)
    · refine g_aload_n C 0 dX5_keep_28 rfl rfl ?_
      refine mg_13 C lk_X5_35 dX5_keep_29 ?_
      refine g_vi (M 13 0) (congrFun (u2_row hM1 (by decide)) 0) ?_
      refine g_istore_n C [(2, .int (M 13 0)), (0, .ref o), (1, .int v)] dX5_keep_32 rfl (by decide) rfl ?_
      refine g_aload_n C 1 dX5_keep_33 rfl rfl ?_
      refine g_iload_n C 2 dX5_keep_34 rfl rfl ?_
      refine mp_13 C lk_X5_35 dX5_keep_35 (fun M2 hM2 => ?_)
      refine g_iload_n C 0 dX5_keep_38 rfl rfl ?_
      exact g_iret C hQ rfl rfl dX5_keep_39 (by decide) (by decide) ⟨rfl, M2, rfl, rfl, by rw [hM1]; exact hM2⟩
    · exact absurd h23 (by decide)
set_option maxRecDepth 100000 in
theorem c_mkeepB (l : Launch) (E : Ev) (o : Nat) (a : Nat → Nat) (M : MM) (Y : va_W) (S : HS) {v : Int32} (hv : wi v 1 8 = false) : Ctr l yX5_keep (Cond.code yX5_keep cX5_keep 3 (some .int)) 2 0 0 E [.ref o, .int v] (mw E o a M ++ Y) S (PoM E o a Y S (fun v2 M2 => some (.int 0) = v2 ∧ u2 M 0 0 1 = M2)) := by
  refine Ctr.ofG (by decide) [(0, .ref o), (1, .int v)] rfl (Nat.le_of_ble_eq_true rfl) ?_
  intro p e s m args below meth c A Q C hQ
  refine g_aload_n C 0 dX5_keep_0 rfl rfl ?_
  refine g_iload_n C 1 dX5_keep_1 rfl rfl ?_
  refine g_iconst C 1 dX5_keep_2 (by decide) ?_
  refine g_bipush C 8 dX5_keep_3 (by decide) ?_
  refine g_callS C [.int v, .int 1, .int 8] [.ref o] (c_mwithin l E (mw E o a M ++ Y) S v 1 8) cm_X5_within wst_X5_76 dt_X5_within rfl rfl (Nat.le_of_ble_eq_true rfl) (by decide) (by decide) dX5_keep_5 ?_
  rintro v9 X2 S2 ⟨rfl, rfl, rfl⟩
  rw [show wi v 1 8 = false from hv]
  refine g_if_eq C 15 dX5_keep_8 (by decide) (fun h8 => ?_) (fun h8 => ?_)
  · refine g_iconst C 1 dX5_keep_15 (by decide) ?_
    refine mp_0 C lk_X5_69 dX5_keep_16 (fun M1 hM1 => ?_)
    refine g_aload_n C 0 dX5_keep_19 rfl rfl ?_
    refine mg_0 C lk_X5_69 dX5_keep_20 ?_
    refine g_vi 1 (u2_at hM1) ?_
    refine g_if_le C 28 dX5_keep_23 (by decide) (fun h23 => ?_) (fun h23 => ?_)
    · exact absurd h23 (by decide)
    · refine g_iconst C 0 dX5_keep_26 (by decide) ?_
      exact g_iret C hQ rfl rfl dX5_keep_27 (by decide) (by decide) ⟨rfl, M1, rfl, rfl, hM1⟩
  · exact absurd h8 (by decide)
set_option maxRecDepth 100000 in
theorem c_mcount0 (l : Launch) (E : Ev) (o : Nat) (a : Nat → Nat) (M : MM) (Y : va_W) (S : HS)  : Ctr l yX5_count (Cond.code yX5_count cX5_count 2 (some .int)) 2 0 0 E [.ref o, .int 0] (mw E o a M ++ Y) S (PoM E o a Y S (fun v2 M2 => some (.int (M 1 0)) = v2 ∧ u2 M 0 0 0 = M2)) := by
  refine Ctr.ofG (by decide) [(0, .ref o), (1, .int 0)] rfl (Nat.le_of_ble_eq_true rfl) ?_
  intro p e s m args below meth c A Q C hQ
  refine g_aload_n C 0 dX5_count_0 rfl rfl ?_
  refine g_iload_n C 1 dX5_count_1 rfl rfl ?_
  refine g_iconst C 0 dX5_count_2 (by decide) ?_
  refine g_iconst C 4 dX5_count_3 (by decide) ?_
  refine g_callS C [.int 0, .int 0, .int 4] [.ref o] (c_mwithin l E (mw E o a M ++ Y) S 0 0 4) cm_X5_within wst_X5_76 dt_X5_within rfl rfl (Nat.le_of_ble_eq_true rfl) (by decide) (by decide) dX5_count_4 ?_
  rintro v9 X2 S2 ⟨rfl, rfl, rfl⟩
  rw [show wi 0 0 4 = true from by decide]
  refine g_if_eq C 14 dX5_count_7 (by decide) (fun h7 => ?_) (fun h7 => ?_)
  · exact absurd h7 (by decide)
  · refine g_iconst C 0 dX5_count_10 (by decide) ?_
    refine g_goto C 15 dX5_count_11 (by decide) ?_
    refine mp_0 C lk_X5_69 dX5_count_15 (fun M1 hM1 => ?_)
    refine g_aload_n C 0 dX5_count_18 rfl rfl ?_
    refine mg_0 C lk_X5_69 dX5_count_19 ?_
    refine g_vi 0 (u2_at hM1) ?_
    refine g_if_le C 27 dX5_count_22 (by decide) (fun h22 => ?_) (fun h22 => ?_)
    · refine g_iload_n C 1 dX5_count_27 rfl rfl ?_
      refine g_if_ne C 38 dX5_count_28 (by decide) (fun h28 => ?_) (fun h28 => ?_)
      · exact absurd h28 (by decide)
      · refine g_aload_n C 0 dX5_count_31 rfl rfl ?_
        refine mg_1 C lk_X5_72 dX5_count_32 ?_
        refine g_vi (M 1 0) (congrFun (u2_row hM1 (by decide)) 0) ?_
        refine g_goto C 78 dX5_count_35 (by decide) ?_
        exact g_iret C hQ rfl rfl dX5_count_78 (by decide) (by decide) ⟨rfl, M1, rfl, rfl, hM1⟩
    · exact absurd h22 (by decide)
set_option maxRecDepth 100000 in
theorem c_mcount1 (l : Launch) (E : Ev) (o : Nat) (a : Nat → Nat) (M : MM) (Y : va_W) (S : HS)  : Ctr l yX5_count (Cond.code yX5_count cX5_count 2 (some .int)) 2 0 0 E [.ref o, .int 1] (mw E o a M ++ Y) S (PoM E o a Y S (fun v2 M2 => some (.int (M 7 0)) = v2 ∧ u2 M 0 0 0 = M2)) := by
  refine Ctr.ofG (by decide) [(0, .ref o), (1, .int 1)] rfl (Nat.le_of_ble_eq_true rfl) ?_
  intro p e s m args below meth c A Q C hQ
  refine g_aload_n C 0 dX5_count_0 rfl rfl ?_
  refine g_iload_n C 1 dX5_count_1 rfl rfl ?_
  refine g_iconst C 0 dX5_count_2 (by decide) ?_
  refine g_iconst C 4 dX5_count_3 (by decide) ?_
  refine g_callS C [.int 1, .int 0, .int 4] [.ref o] (c_mwithin l E (mw E o a M ++ Y) S 1 0 4) cm_X5_within wst_X5_76 dt_X5_within rfl rfl (Nat.le_of_ble_eq_true rfl) (by decide) (by decide) dX5_count_4 ?_
  rintro v9 X2 S2 ⟨rfl, rfl, rfl⟩
  rw [show wi 1 0 4 = true from by decide]
  refine g_if_eq C 14 dX5_count_7 (by decide) (fun h7 => ?_) (fun h7 => ?_)
  · exact absurd h7 (by decide)
  · refine g_iconst C 0 dX5_count_10 (by decide) ?_
    refine g_goto C 15 dX5_count_11 (by decide) ?_
    refine mp_0 C lk_X5_69 dX5_count_15 (fun M1 hM1 => ?_)
    refine g_aload_n C 0 dX5_count_18 rfl rfl ?_
    refine mg_0 C lk_X5_69 dX5_count_19 ?_
    refine g_vi 0 (u2_at hM1) ?_
    refine g_if_le C 27 dX5_count_22 (by decide) (fun h22 => ?_) (fun h22 => ?_)
    · refine g_iload_n C 1 dX5_count_27 rfl rfl ?_
      refine g_if_ne C 38 dX5_count_28 (by decide) (fun h28 => ?_) (fun h28 => ?_)
      · refine g_iload_n C 1 dX5_count_38 rfl rfl ?_
        refine g_iconst C 1 dX5_count_39 (by decide) ?_
        refine g_icmp_ne C 50 dX5_count_40 (by decide) (fun h40 => ?_) (fun h40 => ?_)
        · exact absurd h40 (by decide)
        · refine g_aload_n C 0 dX5_count_43 rfl rfl ?_
          refine mg_7 C lk_X5_84 dX5_count_44 ?_
          refine g_vi (M 7 0) (congrFun (u2_row hM1 (by decide)) 0) ?_
          refine g_goto C 78 dX5_count_47 (by decide) ?_
          exact g_iret C hQ rfl rfl dX5_count_78 (by decide) (by decide) ⟨rfl, M1, rfl, rfl, hM1⟩
      · exact absurd h28 (by decide)
    · exact absurd h22 (by decide)
set_option maxRecDepth 100000 in
theorem c_mcount2 (l : Launch) (E : Ev) (o : Nat) (a : Nat → Nat) (M : MM) (Y : va_W) (S : HS)  : Ctr l yX5_count (Cond.code yX5_count cX5_count 2 (some .int)) 2 0 0 E [.ref o, .int 2] (mw E o a M ++ Y) S (PoM E o a Y S (fun v2 M2 => some (.int (M 8 0)) = v2 ∧ u2 M 0 0 0 = M2)) := by
  refine Ctr.ofG (by decide) [(0, .ref o), (1, .int 2)] rfl (Nat.le_of_ble_eq_true rfl) ?_
  intro p e s m args below meth c A Q C hQ
  refine g_aload_n C 0 dX5_count_0 rfl rfl ?_
  refine g_iload_n C 1 dX5_count_1 rfl rfl ?_
  refine g_iconst C 0 dX5_count_2 (by decide) ?_
  refine g_iconst C 4 dX5_count_3 (by decide) ?_
  refine g_callS C [.int 2, .int 0, .int 4] [.ref o] (c_mwithin l E (mw E o a M ++ Y) S 2 0 4) cm_X5_within wst_X5_76 dt_X5_within rfl rfl (Nat.le_of_ble_eq_true rfl) (by decide) (by decide) dX5_count_4 ?_
  rintro v9 X2 S2 ⟨rfl, rfl, rfl⟩
  rw [show wi 2 0 4 = true from by decide]
  refine g_if_eq C 14 dX5_count_7 (by decide) (fun h7 => ?_) (fun h7 => ?_)
  · exact absurd h7 (by decide)
  · refine g_iconst C 0 dX5_count_10 (by decide) ?_
    refine g_goto C 15 dX5_count_11 (by decide) ?_
    refine mp_0 C lk_X5_69 dX5_count_15 (fun M1 hM1 => ?_)
    refine g_aload_n C 0 dX5_count_18 rfl rfl ?_
    refine mg_0 C lk_X5_69 dX5_count_19 ?_
    refine g_vi 0 (u2_at hM1) ?_
    refine g_if_le C 27 dX5_count_22 (by decide) (fun h22 => ?_) (fun h22 => ?_)
    · refine g_iload_n C 1 dX5_count_27 rfl rfl ?_
      refine g_if_ne C 38 dX5_count_28 (by decide) (fun h28 => ?_) (fun h28 => ?_)
      · refine g_iload_n C 1 dX5_count_38 rfl rfl ?_
        refine g_iconst C 1 dX5_count_39 (by decide) ?_
        refine g_icmp_ne C 50 dX5_count_40 (by decide) (fun h40 => ?_) (fun h40 => ?_)
        · refine g_iload_n C 1 dX5_count_50 rfl rfl ?_
          refine g_iconst C 2 dX5_count_51 (by decide) ?_
          refine g_icmp_ne C 62 dX5_count_52 (by decide) (fun h52 => ?_) (fun h52 => ?_)
          · exact absurd h52 (by decide)
          · refine g_aload_n C 0 dX5_count_55 rfl rfl ?_
            refine mg_8 C lk_X5_87 dX5_count_56 ?_
            refine g_vi (M 8 0) (congrFun (u2_row hM1 (by decide)) 0) ?_
            refine g_goto C 78 dX5_count_59 (by decide) ?_
            exact g_iret C hQ rfl rfl dX5_count_78 (by decide) (by decide) ⟨rfl, M1, rfl, rfl, hM1⟩
        · exact absurd h40 (by decide)
      · exact absurd h28 (by decide)
    · exact absurd h22 (by decide)
set_option maxRecDepth 100000 in
theorem c_mcount3 (l : Launch) (E : Ev) (o : Nat) (a : Nat → Nat) (M : MM) (Y : va_W) (S : HS)  : Ctr l yX5_count (Cond.code yX5_count cX5_count 2 (some .int)) 2 0 0 E [.ref o, .int 3] (mw E o a M ++ Y) S (PoM E o a Y S (fun v2 M2 => some (.int (M 9 0)) = v2 ∧ u2 M 0 0 0 = M2)) := by
  refine Ctr.ofG (by decide) [(0, .ref o), (1, .int 3)] rfl (Nat.le_of_ble_eq_true rfl) ?_
  intro p e s m args below meth c A Q C hQ
  refine g_aload_n C 0 dX5_count_0 rfl rfl ?_
  refine g_iload_n C 1 dX5_count_1 rfl rfl ?_
  refine g_iconst C 0 dX5_count_2 (by decide) ?_
  refine g_iconst C 4 dX5_count_3 (by decide) ?_
  refine g_callS C [.int 3, .int 0, .int 4] [.ref o] (c_mwithin l E (mw E o a M ++ Y) S 3 0 4) cm_X5_within wst_X5_76 dt_X5_within rfl rfl (Nat.le_of_ble_eq_true rfl) (by decide) (by decide) dX5_count_4 ?_
  rintro v9 X2 S2 ⟨rfl, rfl, rfl⟩
  rw [show wi 3 0 4 = true from by decide]
  refine g_if_eq C 14 dX5_count_7 (by decide) (fun h7 => ?_) (fun h7 => ?_)
  · exact absurd h7 (by decide)
  · refine g_iconst C 0 dX5_count_10 (by decide) ?_
    refine g_goto C 15 dX5_count_11 (by decide) ?_
    refine mp_0 C lk_X5_69 dX5_count_15 (fun M1 hM1 => ?_)
    refine g_aload_n C 0 dX5_count_18 rfl rfl ?_
    refine mg_0 C lk_X5_69 dX5_count_19 ?_
    refine g_vi 0 (u2_at hM1) ?_
    refine g_if_le C 27 dX5_count_22 (by decide) (fun h22 => ?_) (fun h22 => ?_)
    · refine g_iload_n C 1 dX5_count_27 rfl rfl ?_
      refine g_if_ne C 38 dX5_count_28 (by decide) (fun h28 => ?_) (fun h28 => ?_)
      · refine g_iload_n C 1 dX5_count_38 rfl rfl ?_
        refine g_iconst C 1 dX5_count_39 (by decide) ?_
        refine g_icmp_ne C 50 dX5_count_40 (by decide) (fun h40 => ?_) (fun h40 => ?_)
        · refine g_iload_n C 1 dX5_count_50 rfl rfl ?_
          refine g_iconst C 2 dX5_count_51 (by decide) ?_
          refine g_icmp_ne C 62 dX5_count_52 (by decide) (fun h52 => ?_) (fun h52 => ?_)
          · refine g_iload_n C 1 dX5_count_62 rfl rfl ?_
            refine g_iconst C 3 dX5_count_63 (by decide) ?_
            refine g_icmp_ne C 74 dX5_count_64 (by decide) (fun h64 => ?_) (fun h64 => ?_)
            · exact absurd h64 (by decide)
            · refine g_aload_n C 0 dX5_count_67 rfl rfl ?_
              refine mg_9 C lk_X5_90 dX5_count_68 ?_
              refine g_vi (M 9 0) (congrFun (u2_row hM1 (by decide)) 0) ?_
              refine g_goto C 78 dX5_count_71 (by decide) ?_
              exact g_iret C hQ rfl rfl dX5_count_78 (by decide) (by decide) ⟨rfl, M1, rfl, rfl, hM1⟩
          · exact absurd h52 (by decide)
        · exact absurd h40 (by decide)
      · exact absurd h28 (by decide)
    · exact absurd h22 (by decide)
set_option maxRecDepth 100000 in
theorem c_mcount4 (l : Launch) (E : Ev) (o : Nat) (a : Nat → Nat) (M : MM) (Y : va_W) (S : HS)  : Ctr l yX5_count (Cond.code yX5_count cX5_count 2 (some .int)) 2 0 0 E [.ref o, .int 4] (mw E o a M ++ Y) S (PoM E o a Y S (fun v2 M2 => some (.int (M 14 0)) = v2 ∧ u2 M 0 0 0 = M2)) := by
  refine Ctr.ofG (by decide) [(0, .ref o), (1, .int 4)] rfl (Nat.le_of_ble_eq_true rfl) ?_
  intro p e s m args below meth c A Q C hQ
  refine g_aload_n C 0 dX5_count_0 rfl rfl ?_
  refine g_iload_n C 1 dX5_count_1 rfl rfl ?_
  refine g_iconst C 0 dX5_count_2 (by decide) ?_
  refine g_iconst C 4 dX5_count_3 (by decide) ?_
  refine g_callS C [.int 4, .int 0, .int 4] [.ref o] (c_mwithin l E (mw E o a M ++ Y) S 4 0 4) cm_X5_within wst_X5_76 dt_X5_within rfl rfl (Nat.le_of_ble_eq_true rfl) (by decide) (by decide) dX5_count_4 ?_
  rintro v9 X2 S2 ⟨rfl, rfl, rfl⟩
  rw [show wi 4 0 4 = true from by decide]
  refine g_if_eq C 14 dX5_count_7 (by decide) (fun h7 => ?_) (fun h7 => ?_)
  · exact absurd h7 (by decide)
  · refine g_iconst C 0 dX5_count_10 (by decide) ?_
    refine g_goto C 15 dX5_count_11 (by decide) ?_
    refine mp_0 C lk_X5_69 dX5_count_15 (fun M1 hM1 => ?_)
    refine g_aload_n C 0 dX5_count_18 rfl rfl ?_
    refine mg_0 C lk_X5_69 dX5_count_19 ?_
    refine g_vi 0 (u2_at hM1) ?_
    refine g_if_le C 27 dX5_count_22 (by decide) (fun h22 => ?_) (fun h22 => ?_)
    · refine g_iload_n C 1 dX5_count_27 rfl rfl ?_
      refine g_if_ne C 38 dX5_count_28 (by decide) (fun h28 => ?_) (fun h28 => ?_)
      · refine g_iload_n C 1 dX5_count_38 rfl rfl ?_
        refine g_iconst C 1 dX5_count_39 (by decide) ?_
        refine g_icmp_ne C 50 dX5_count_40 (by decide) (fun h40 => ?_) (fun h40 => ?_)
        · refine g_iload_n C 1 dX5_count_50 rfl rfl ?_
          refine g_iconst C 2 dX5_count_51 (by decide) ?_
          refine g_icmp_ne C 62 dX5_count_52 (by decide) (fun h52 => ?_) (fun h52 => ?_)
          · refine g_iload_n C 1 dX5_count_62 rfl rfl ?_
            refine g_iconst C 3 dX5_count_63 (by decide) ?_
            refine g_icmp_ne C 74 dX5_count_64 (by decide) (fun h64 => ?_) (fun h64 => ?_)
            · refine g_aload_n C 0 dX5_count_74 rfl rfl ?_
              refine mg_14 C lk_X5_98 dX5_count_75 ?_
              refine g_vi (M 14 0) (congrFun (u2_row hM1 (by decide)) 0) ?_
              exact g_iret C hQ rfl rfl dX5_count_78 (by decide) (by decide) ⟨rfl, M1, rfl, rfl, hM1⟩
            · exact absurd h64 (by decide)
          · exact absurd h52 (by decide)
        · exact absurd h40 (by decide)
      · exact absurd h28 (by decide)
    · exact absurd h22 (by decide)
set_option maxRecDepth 100000 in
theorem c_mcountB (l : Launch) (E : Ev) (o : Nat) (a : Nat → Nat) (M : MM) (Y : va_W) (S : HS) {v : Int32} (hv : wi v 0 4 = false) : Ctr l yX5_count (Cond.code yX5_count cX5_count 2 (some .int)) 2 0 0 E [.ref o, .int v] (mw E o a M ++ Y) S (PoM E o a Y S (fun v2 M2 => some (.int 0) = v2 ∧ u2 M 0 0 1 = M2)) := by
  refine Ctr.ofG (by decide) [(0, .ref o), (1, .int v)] rfl (Nat.le_of_ble_eq_true rfl) ?_
  intro p e s m args below meth c A Q C hQ
  refine g_aload_n C 0 dX5_count_0 rfl rfl ?_
  refine g_iload_n C 1 dX5_count_1 rfl rfl ?_
  refine g_iconst C 0 dX5_count_2 (by decide) ?_
  refine g_iconst C 4 dX5_count_3 (by decide) ?_
  refine g_callS C [.int v, .int 0, .int 4] [.ref o] (c_mwithin l E (mw E o a M ++ Y) S v 0 4) cm_X5_within wst_X5_76 dt_X5_within rfl rfl (Nat.le_of_ble_eq_true rfl) (by decide) (by decide) dX5_count_4 ?_
  rintro v9 X2 S2 ⟨rfl, rfl, rfl⟩
  rw [show wi v 0 4 = false from hv]
  refine g_if_eq C 14 dX5_count_7 (by decide) (fun h7 => ?_) (fun h7 => ?_)
  · refine g_iconst C 1 dX5_count_14 (by decide) ?_
    refine mp_0 C lk_X5_69 dX5_count_15 (fun M1 hM1 => ?_)
    refine g_aload_n C 0 dX5_count_18 rfl rfl ?_
    refine mg_0 C lk_X5_69 dX5_count_19 ?_
    refine g_vi 1 (u2_at hM1) ?_
    refine g_if_le C 27 dX5_count_22 (by decide) (fun h22 => ?_) (fun h22 => ?_)
    · exact absurd h22 (by decide)
    · refine g_iconst C 0 dX5_count_25 (by decide) ?_
      exact g_iret C hQ rfl rfl dX5_count_26 (by decide) (by decide) ⟨rfl, M1, rfl, rfl, hM1⟩
  · exact absurd h7 (by decide)
