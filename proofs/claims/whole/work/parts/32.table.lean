set_option maxRecDepth 100000 in
theorem c_srcInit (l : Launch) (E : Ev) (X : va_W) (S : HS) {q b : Nat} {x : Int32} (h : isK S 1 q) : Ctr l yX1_init (Cond.code yX1_init cX1_init 3 none) 1 0 0 E [.ref q, .ref b, .int x] X S (fun v X2 S2 => none = v ∧ X = X2 ∧ (S.sP 2 q (some b)).sI 8 q x = S2) := by
  refine Ctr.ofG (by decide) [(0, .ref q), (1, .ref b), (2, .int x)] rfl (Nat.le_of_ble_eq_true rfl) ?_
  intro p e s m args below meth c A Q C hQ
  refine g_aload_n C 0 dX1_init_0 rfl rfl ?_
  refine g_objInit C wi_X1_1 ⟨by decide, Nat.le_of_ble_eq_true rfl⟩ dX1_init_1 w_oi w_oc ?_
  refine g_aload_n C 0 dX1_init_4 rfl rfl ?_
  refine g_aload_n C 1 dX1_init_5 rfl rfl ?_
  refine g_putF (ty := .object "CrossRounds$Net") (S2 := (S.sP 2 q (some b))) C 0 h.1 (pF_1 h.2) rfl (by decide) in_X1 tyX1_ok nmX1 lk_X1_7 rfl rfl rfl rfl (by decide +kernel) rfl rfl (Nat.le_of_ble_eq_true rfl) rfl (pu_P2 (S := S) h.2 (some b)) dX1_init_6 ?_
  refine g_aload_n C 0 dX1_init_9 rfl rfl ?_
  refine g_iload_n C 2 dX1_init_10 rfl rfl ?_
  refine g_putF (ty := .int) (S2 := ((S.sP 2 q (some b)).sI 8 q x)) C 1 h.1 (pF_1 h.2) rfl (by decide) in_X1 tyX1_ok nmX1 lk_X1_13 rfl rfl rfl rfl (by decide +kernel) rfl rfl (Nat.le_of_ble_eq_true rfl) rfl (pu_I8 (S := (S.sP 2 q (some b))) h.2 x) dX1_init_11 ?_
  exact g_vret C hQ rfl dX1_init_14 (by decide) (by decide) ⟨rfl, rfl, rfl⟩
set_option maxRecDepth 100000 in
theorem c_stgInit (l : Launch) (E : Ev) (X : va_W) (S : HS) {q b : Nat} {x : Int32} (h : isK S 2 q) : Ctr l yX2_init (Cond.code yX2_init cX2_init 3 none) 1 0 0 E [.ref q, .ref b, .int x] X S (fun v X2 S2 => none = v ∧ X = X2 ∧ (S.sP 3 q (some b)).sI 9 q x = S2) := by
  refine Ctr.ofG (by decide) [(0, .ref q), (1, .ref b), (2, .int x)] rfl (Nat.le_of_ble_eq_true rfl) ?_
  intro p e s m args below meth c A Q C hQ
  refine g_aload_n C 0 dX2_init_0 rfl rfl ?_
  refine g_objInit C wi_X2_1 ⟨by decide, Nat.le_of_ble_eq_true rfl⟩ dX2_init_1 w_oi w_oc ?_
  refine g_aload_n C 0 dX2_init_4 rfl rfl ?_
  refine g_aload_n C 1 dX2_init_5 rfl rfl ?_
  refine g_putF (ty := .object "CrossRounds$Net") (S2 := (S.sP 3 q (some b))) C 0 h.1 (pF_2 h.2) rfl (by decide) in_X2 tyX2_ok nmX2 lk_X2_7 rfl rfl rfl rfl (by decide +kernel) rfl rfl (Nat.le_of_ble_eq_true rfl) rfl (pu_P3 (S := S) h.2 (some b)) dX2_init_6 ?_
  refine g_aload_n C 0 dX2_init_9 rfl rfl ?_
  refine g_iload_n C 2 dX2_init_10 rfl rfl ?_
  refine g_putF (ty := .int) (S2 := ((S.sP 3 q (some b)).sI 9 q x)) C 1 h.1 (pF_2 h.2) rfl (by decide) in_X2 tyX2_ok nmX2 lk_X2_13 rfl rfl rfl rfl (by decide +kernel) rfl rfl (Nat.le_of_ble_eq_true rfl) rfl (pu_I9 (S := (S.sP 3 q (some b))) h.2 x) dX2_init_11 ?_
  exact g_vret C hQ rfl dX2_init_14 (by decide) (by decide) ⟨rfl, rfl, rfl⟩
theorem nI_m1 {j : Nat} (h : j < 2 ^ 31) : ¬ nI j = -1 := fun e => by
  have h1 : (nI j).toInt = (-1 : Int32).toInt := by rw [e]
  rw [nI_toInt h] at h1
  have h2 : (-1 : Int32).toInt = -1 := by decide
  omega
def shr (S : HS) (b : Nat) (vs : List Nat) : Int32 := match plc S b vs 0 with
  | none => 0
  | some i => S.I 8 (vs.getD i 0)
set_option maxRecDepth 100000 in
theorem c_shareOf (l : Launch) (E : Ev) (X : va_W) (S : HS) {a lc rc : Nat} {vs : List Nat} (hc : cpl E S a lc rc vs) {b : Nat} : Ctr l yX0_shareOf (Cond.code yX0_shareOf cX0_shareOf 3 (some .int)) 5 0 0 E [.ref a, .ref b] X S (Same (.int (shr S b vs)) X S) := by
  refine Ctr.ofG (by decide) [(0, .ref a), (1, .ref b)] rfl (Nat.le_of_ble_eq_true rfl) ?_
  intro p e s m args below meth c A Q C hQ
  refine g_aload_n C 0 dX0_shareOf_0 rfl rfl ?_
  refine g_aload_n C 1 dX0_shareOf_1 rfl rfl ?_
  refine g_callV C [.ref b] [] (c_placeOf l E X S hc (b := b)) (recv_at hc.1.1 (pF_0 hc.1.2)) rfl cm_X0_placeOf wv_X0_77 ds_X0_placeOf rfl rfl (Nat.le_of_ble_eq_true rfl) (by decide) (by decide) dX0_shareOf_2 ?_
  rintro v9 X2 S2 ⟨rfl, rfl, rfl⟩
  have hlen := hc.2.2.1.2.2.2.1
  cases hp : plc S b vs 0 with
  | none =>
    refine g_istore_n C [(2, .int (-1)), (0, .ref a), (1, .ref b)] dX0_shareOf_5 rfl (by decide) rfl ?_
    refine g_iload_n C 0 dX0_shareOf_6 rfl rfl ?_
    refine g_iconst C (-1) dX0_shareOf_7 (by decide) ?_
    refine g_icmp_ne C 15 dX0_shareOf_8 (by decide) (fun h8 => ?_) (fun h8 => ?_)
    · exact absurd rfl h8
    · refine g_iconst C 0 dX0_shareOf_11 (by decide) ?_
      refine g_goto C 29 dX0_shareOf_12 (by decide) ?_
      exact g_iret C hQ rfl rfl dX0_shareOf_29 (by decide) (by decide) ⟨sv (by unfold shr; rw [hp]), rfl, rfl⟩
  | some j =>
    obtain ⟨-, hj, v, hv, -⟩ := plc_lt hp
    rw [Nat.zero_add] at hj
    rw [Nat.sub_zero] at hv
    have hi : j < vs.length := hj
    have hv2 : v = vs[j] := by rw [List.getElem?_eq_getElem hi] at hv; exact (Option.some.inj hv).symm
    have hs : srcOK S v := by rw [hv2]; exact hc.2.2.2 _ (List.getElem_mem hi)
    refine g_istore_n C [(2, .int (nI j)), (0, .ref a), (1, .ref b)] dX0_shareOf_5 rfl (by decide) rfl ?_
    refine g_iload_n C 0 dX0_shareOf_6 rfl rfl ?_
    refine g_iconst C (-1) dX0_shareOf_7 (by decide) ?_
    refine g_icmp_ne C 15 dX0_shareOf_8 (by decide) (fun h8 => ?_) (fun h8 => ?_)
    · refine g_aload_n C 1 dX0_shareOf_15 rfl rfl ?_
      refine g_get (v := .ref lc) C 4 hc.1.1 (pF_0 hc.1.2) rfl (by decide) in_X0 lk_X0_12 rfl (congrArg (fun z => some (va_rf z)) hc.2.1) dX0_shareOf_16 ?_
      refine g_iload_n C 0 dX0_shareOf_19 rfl rfl ?_
      refine g_callV C [.int (nI j)] [] (c_get l E X S hc.2.2.1 hi) (recv_at hc.2.2.1.1.1 (pF_5 hc.2.2.1.1.2)) rfl cm_Jx4a65c_get_915e3 wv_X0_67 ds_Jx4a65c_get_915e3 rfl rfl (Nat.le_of_ble_eq_true rfl) (by decide) (by decide) dX0_shareOf_20 ?_
      rintro v9 X2 S2 ⟨rfl, rfl, rfl⟩
      show GW _ _ _ _ _ _ _ _ _ _ _ _ _ _ _ _ _ _ _ _ (.ref vs[j] :: _)
      rw [← hv2]
      refine g_cast C hs.1.1 (pF_1 hs.1.2) rfl kl_X0_71 dX0_shareOf_23 ?_
      refine g_get C 1 hs.1.1 (pF_1 hs.1.2) rfl (by decide) in_X1 lk_X0_81 rfl rfl dX0_shareOf_26 ?_
      exact g_iret C hQ rfl rfl dX0_shareOf_29 (by decide) (by decide) ⟨sv (by unfold shr; rw [hp]; show S.I 8 (vs.getD j 0) = S.I 8 v; rw [hv2]; simp [hi]), rfl, rfl⟩
    · exact absurd h8 (nI_m1 (by omega))
/-- the table at t: n rows, heights at ha, throughs at ta -/
def tbl (S : HS) (t ha ta n : Nat) : Prop := isK S 3 t ∧ S.P 4 t = some ha ∧ S.P 5 t = some ta ∧ isK S 6 ha ∧ S.N ha = 20 ∧ isK S 6 ta ∧ S.N ta = 20 ∧ S.I 10 t = nI n ∧ n ≤ 20 ∧ ha ≠ ta
/-- what comes through: the last of the first n rows whose height is not above x -/
def thrF (hs ts : Nat → Int32) : Nat → Int32 → Int32
  | 0, _ => 0
  | j + 1, x => if hs j ≤ x then ts j else thrF hs ts j x
theorem nI_dec (j : Nat) : nI j + Int32.ofInt (-1) = nI j - 1 := by rw [Int32.sub_eq_add_neg]; rfl
set_option maxRecDepth 100000 in
theorem c_throughOf (l : Launch) (E : Ev) (X : va_W) (S : HS) {t ha ta n : Nat} (ht : tbl S t ha ta n) (x : Int32) : Ctr l yX3_throughOf (Cond.code yX3_throughOf cX3_throughOf 3 (some .int)) 1 0 0 E [.ref t, .int x] X S (Same (.int (thrF (S.R ha) (S.R ta) n x)) X S) := by
  refine Ctr.ofG (by decide) [(0, .ref t), (1, .int x)] rfl (Nat.le_of_ble_eq_true rfl) ?_
  intro p e s m args below meth c A Q C hQ
  refine g_aload_n C 0 dX3_throughOf_0 rfl rfl ?_
  refine g_get (v := .int (nI n)) C 2 ht.1.1 (pF_3 ht.1.2) rfl (by decide) in_X3 lk_X3_16 rfl (congrArg (fun z => some (Value.int z)) ht.2.2.2.2.2.2.2.1) dX3_throughOf_1 ?_
  refine g_iconst C 1 dX3_throughOf_4 (by decide) ?_
  refine g_isub C dX3_throughOf_5 ?_
  refine g_istore_n C [(2, .int ((nI n) - 1)), (0, .ref t), (1, .int x)] dX3_throughOf_6 rfl (by decide) rfl ?_
  have hn20 := ht.2.2.2.2.2.2.2.2.1
  have loop : ∀ (j : Nat), j ≤ 20 → thrF (S.R ha) (S.R ta) j x = thrF (S.R ha) (S.R ta) n x → GW p l e (rml 1 0 0) s m args below meth c E 3 A Q X S 0 0 7 [(2, .int (nI j - 1)), (0, .ref t), (1, .int x)] [] := by
    intro j
    induction j with
    | zero =>
      intro _ hF
      refine g_iload_n C 0 dX3_throughOf_7 rfl rfl ?_
      refine g_if_lt C 34 dX3_throughOf_8 (by decide) (fun h8 => ?_) (fun h8 => ?_)
      · refine g_iconst C 0 dX3_throughOf_34 (by decide) ?_
        exact g_iret C hQ rfl rfl dX3_throughOf_35 (by decide) (by decide) ⟨sv hF.symm, rfl, rfl⟩
      · exact absurd (by decide) h8
    | succ j ih =>
      intro hj hF
      rw [nI_pred]
      rw [thrF] at hF
      refine g_iload_n C 0 dX3_throughOf_7 rfl rfl ?_
      refine g_if_lt C 34 dX3_throughOf_8 (by decide) (fun h8 => ?_) (fun h8 => ?_)
      · exact absurd h8 (nI_pos (by omega))
      · refine g_aload_n C 1 dX3_throughOf_11 rfl rfl ?_
        refine g_get (v := .ref ha) C 0 ht.1.1 (pF_3 ht.1.2) rfl (by decide) in_X3 lk_X3_9 rfl (congrArg (fun z => some (va_rf z)) ht.2.1) dX3_throughOf_12 ?_
        refine g_iload_n C 0 dX3_throughOf_15 rfl rfl ?_
        refine g_iald C ht.2.2.2.1.1 (pF_6 ht.2.2.2.1.2) (by rw [ht.2.2.2.2.1]; exact vp_in_nI (by omega) (by decide)) dX3_throughOf_16 ?_
        rw [nI_clamp (by omega)]
        refine g_iload_n C 2 dX3_throughOf_17 rfl rfl ?_
        refine g_icmp_gt C 28 dX3_throughOf_18 (by decide) (fun h18 => ?_) (fun h18 => ?_)
        · refine g_iinc C (nI j - 1) 0 [(2, .int (nI j - 1)), (0, .ref t), (1, .int x)] dX3_throughOf_28 rfl (nI_dec j) (by decide) rfl ?_
          refine g_goto C 7 dX3_throughOf_31 (by decide) ?_
          exact ih (by omega) (by rw [if_neg (Int32.not_le.mpr h18)] at hF; exact hF)
        · refine g_aload_n C 1 dX3_throughOf_21 rfl rfl ?_
          refine g_get (v := .ref ta) C 1 ht.1.1 (pF_3 ht.1.2) rfl (by decide) in_X3 lk_X3_13 rfl (congrArg (fun z => some (va_rf z)) ht.2.2.1) dX3_throughOf_22 ?_
          refine g_iload_n C 0 dX3_throughOf_25 rfl rfl ?_
          refine g_iald C ht.2.2.2.2.2.1.1 (pF_6 ht.2.2.2.2.2.1.2) (by rw [ht.2.2.2.2.2.2.1]; exact vp_in_nI (by omega) (by decide)) dX3_throughOf_26 ?_
          rw [nI_clamp (by omega)]
          exact g_iret C hQ rfl rfl dX3_throughOf_27 (by decide) (by decide) ⟨sv (by rw [if_pos (Int32.not_lt.mp h18)] at hF; exact hF.symm), rfl, rfl⟩
  exact loop n hn20 rfl
theorem nI_pred2 {n : Nat} (h : 0 < n) : nI n - 1 = nI (n - 1) := by
  have := nI_pred (n - 1)
  rw [show n - 1 + 1 = n by omega] at this
  exact this
def apOK (S : HS) (ha n : Nat) (h : Int32) : Prop := n = 0 ∨ S.R ha (n - 1) < h
set_option maxRecDepth 100000 in
theorem c_append (l : Launch) (E : Ev) (X : va_W) (S : HS) {t ha ta n : Nat} (ht : tbl S t ha ta n) (hn : n < 20) (h x : Int32) : Ctr l yX3_append (Cond.code yX3_append cX3_append 3 (some .boolean)) 1 0 0 E [.ref t, .int h, .int x] X S (fun v X2 S2 => X = X2 ∧ ((apOK S ha n h ∧ some (.int 1) = v ∧ ((S.sR ha n h).sR ta n x).sI 10 t (nI (n + 1)) = S2) ∨ (¬ apOK S ha n h ∧ some (.int 0) = v ∧ S = S2))) := by
  refine Ctr.ofG (by decide) [(0, .ref t), (1, .int h), (2, .int x)] rfl (Nat.le_of_ble_eq_true rfl) ?_
  intro p e s m args below meth c A Q C hQ
  refine g_aload_n C 0 dX3_append_0 rfl rfl ?_
  refine g_get (v := .int (nI n)) C 2 ht.1.1 (pF_3 ht.1.2) rfl (by decide) in_X3 lk_X3_16 rfl (congrArg (fun z => some (Value.int z)) ht.2.2.2.2.2.2.2.1) dX3_append_1 ?_
  refine g_bipush C 20 dX3_append_4 (by decide) ?_
  refine g_icmp_ge C 31 dX3_append_6 (by decide) (fun h6 => ?_) (fun h6 => ?_)
  · exact absurd h6 (nI_ge hn (by decide))
  · refine g_aload_n C 0 dX3_append_9 rfl rfl ?_
    refine g_get (v := .int (nI n)) C 2 ht.1.1 (pF_3 ht.1.2) rfl (by decide) in_X3 lk_X3_16 rfl (congrArg (fun z => some (Value.int z)) ht.2.2.2.2.2.2.2.1) dX3_append_10 ?_
    refine g_if_le C 33 dX3_append_13 (by decide) (fun h13 => ?_) (fun h13 => ?_)
    · refine g_aload_n C 0 dX3_append_33 rfl rfl ?_
      refine g_get (v := .ref ha) C 0 ht.1.1 (pF_3 ht.1.2) rfl (by decide) in_X3 lk_X3_9 rfl (congrArg (fun z => some (va_rf z)) ht.2.1) dX3_append_34 ?_
      refine g_aload_n C 0 dX3_append_37 rfl rfl ?_
      refine g_get (v := .int (nI n)) C 2 ht.1.1 (pF_3 ht.1.2) rfl (by decide) in_X3 lk_X3_16 rfl (congrArg (fun z => some (Value.int z)) ht.2.2.2.2.2.2.2.1) dX3_append_38 ?_
      refine g_iload_n C 1 dX3_append_41 rfl rfl ?_
      refine g_iast C ht.2.2.2.1.1 ht.2.2.2.1.2 (by show vp_in (nI n) (S.N ha); rw [ht.2.2.2.2.1]; exact vp_in_nI hn (by decide)) dX3_append_42 ?_
      rw [nI_clamp (by omega)]
      refine g_aload_n C 0 dX3_append_43 rfl rfl ?_
      refine g_get (v := .ref ta) C 1 ht.1.1 (pF_3 ht.1.2) rfl (by decide) in_X3 lk_X3_13 rfl (congrArg (fun z => some (va_rf z)) ht.2.2.1) dX3_append_44 ?_
      refine g_aload_n C 0 dX3_append_47 rfl rfl ?_
      refine g_get (v := .int (nI n)) C 2 ht.1.1 (pF_3 ht.1.2) rfl (by decide) in_X3 lk_X3_16 rfl (congrArg (fun z => some (Value.int z)) ht.2.2.2.2.2.2.2.1) dX3_append_48 ?_
      refine g_iload_n C 2 dX3_append_51 rfl rfl ?_
      refine g_iast C ht.2.2.2.2.2.1.1 ht.2.2.2.2.2.1.2 (by show vp_in (nI n) (S.N ta); rw [ht.2.2.2.2.2.2.1]; exact vp_in_nI hn (by decide)) dX3_append_52 ?_
      rw [nI_clamp (by omega)]
      refine g_aload_n C 0 dX3_append_53 rfl rfl ?_
      refine g_dup C dX3_append_54 rfl ?_
      refine g_get (v := .int (nI n)) C 2 ht.1.1 (pF_3 ht.1.2) rfl (by decide) in_X3 lk_X3_16 rfl (congrArg (fun z => some (Value.int z)) ht.2.2.2.2.2.2.2.1) dX3_append_55 ?_
      refine g_iconst C 1 dX3_append_58 (by decide) ?_
      refine g_iadd C dX3_append_59 ?_
      rw [nI_1]
      refine g_put (ty := .int) (S2 := (((S.sR ha n h).sR ta n x).sI 10 t (nI (n + 1)))) C 2 ht.1.1 (pF_3 ht.1.2) rfl (by decide) in_X3 tyX3_ok nmX3 lk_X3_16 rfl rfl (by decide +kernel) rfl rfl (Nat.le_of_ble_eq_true rfl) rfl (pu_I10 (S := ((S.sR ha n h).sR ta n x)) ht.1.2 (nI (n + 1))) dX3_append_60 ?_
      refine g_iconst C 1 dX3_append_63 (by decide) ?_
      exact g_iret C hQ rfl rfl dX3_append_64 (by decide) (by decide) ⟨rfl, Or.inl ⟨by first | exact Or.inr h28 | exact Or.inl (Nat.eq_zero_of_not_pos (fun z => absurd h13 (Int32.not_le.mpr (nI_lt z (by omega))))), rfl, rfl⟩⟩
    · have hn0 : 0 < n := Nat.pos_of_ne_zero (fun q => h13 (by rw [q]; decide))
      refine g_iload_n C 1 dX3_append_16 rfl rfl ?_
      refine g_aload_n C 0 dX3_append_17 rfl rfl ?_
      refine g_get (v := .ref ha) C 0 ht.1.1 (pF_3 ht.1.2) rfl (by decide) in_X3 lk_X3_9 rfl (congrArg (fun z => some (va_rf z)) ht.2.1) dX3_append_18 ?_
      refine g_aload_n C 0 dX3_append_21 rfl rfl ?_
      refine g_get (v := .int (nI n)) C 2 ht.1.1 (pF_3 ht.1.2) rfl (by decide) in_X3 lk_X3_16 rfl (congrArg (fun z => some (Value.int z)) ht.2.2.2.2.2.2.2.1) dX3_append_22 ?_
      refine g_iconst C 1 dX3_append_25 (by decide) ?_
      refine g_isub C dX3_append_26 ?_
      rw [nI_pred2 hn0]
      have hnn : n - 1 < 20 := by omega
      refine g_iald C ht.2.2.2.1.1 (pF_6 ht.2.2.2.1.2) (by rw [ht.2.2.2.2.1]; exact vp_in_nI (by omega) (by decide)) dX3_append_27 ?_
      rw [nI_clamp (by omega)]
      refine g_icmp_gt C 33 dX3_append_28 (by decide) (fun h28 => ?_) (fun h28 => ?_)
      · refine g_aload_n C 0 dX3_append_33 rfl rfl ?_
        refine g_get (v := .ref ha) C 0 ht.1.1 (pF_3 ht.1.2) rfl (by decide) in_X3 lk_X3_9 rfl (congrArg (fun z => some (va_rf z)) ht.2.1) dX3_append_34 ?_
        refine g_aload_n C 0 dX3_append_37 rfl rfl ?_
        refine g_get (v := .int (nI n)) C 2 ht.1.1 (pF_3 ht.1.2) rfl (by decide) in_X3 lk_X3_16 rfl (congrArg (fun z => some (Value.int z)) ht.2.2.2.2.2.2.2.1) dX3_append_38 ?_
        refine g_iload_n C 1 dX3_append_41 rfl rfl ?_
        refine g_iast C ht.2.2.2.1.1 ht.2.2.2.1.2 (by show vp_in (nI n) (S.N ha); rw [ht.2.2.2.2.1]; exact vp_in_nI hn (by decide)) dX3_append_42 ?_
        rw [nI_clamp (by omega)]
        refine g_aload_n C 0 dX3_append_43 rfl rfl ?_
        refine g_get (v := .ref ta) C 1 ht.1.1 (pF_3 ht.1.2) rfl (by decide) in_X3 lk_X3_13 rfl (congrArg (fun z => some (va_rf z)) ht.2.2.1) dX3_append_44 ?_
        refine g_aload_n C 0 dX3_append_47 rfl rfl ?_
        refine g_get (v := .int (nI n)) C 2 ht.1.1 (pF_3 ht.1.2) rfl (by decide) in_X3 lk_X3_16 rfl (congrArg (fun z => some (Value.int z)) ht.2.2.2.2.2.2.2.1) dX3_append_48 ?_
        refine g_iload_n C 2 dX3_append_51 rfl rfl ?_
        refine g_iast C ht.2.2.2.2.2.1.1 ht.2.2.2.2.2.1.2 (by show vp_in (nI n) (S.N ta); rw [ht.2.2.2.2.2.2.1]; exact vp_in_nI hn (by decide)) dX3_append_52 ?_
        rw [nI_clamp (by omega)]
        refine g_aload_n C 0 dX3_append_53 rfl rfl ?_
        refine g_dup C dX3_append_54 rfl ?_
        refine g_get (v := .int (nI n)) C 2 ht.1.1 (pF_3 ht.1.2) rfl (by decide) in_X3 lk_X3_16 rfl (congrArg (fun z => some (Value.int z)) ht.2.2.2.2.2.2.2.1) dX3_append_55 ?_
        refine g_iconst C 1 dX3_append_58 (by decide) ?_
        refine g_iadd C dX3_append_59 ?_
        rw [nI_1]
        refine g_put (ty := .int) (S2 := (((S.sR ha n h).sR ta n x).sI 10 t (nI (n + 1)))) C 2 ht.1.1 (pF_3 ht.1.2) rfl (by decide) in_X3 tyX3_ok nmX3 lk_X3_16 rfl rfl (by decide +kernel) rfl rfl (Nat.le_of_ble_eq_true rfl) rfl (pu_I10 (S := ((S.sR ha n h).sR ta n x)) ht.1.2 (nI (n + 1))) dX3_append_60 ?_
        refine g_iconst C 1 dX3_append_63 (by decide) ?_
        exact g_iret C hQ rfl rfl dX3_append_64 (by decide) (by decide) ⟨rfl, Or.inl ⟨by first | exact Or.inr h28 | exact Or.inl (Nat.eq_zero_of_not_pos (fun z => absurd h13 (Int32.not_le.mpr (nI_lt z (by omega))))), rfl, rfl⟩⟩
      · refine g_iconst C 0 dX3_append_31 (by decide) ?_
        exact g_iret C hQ rfl rfl dX3_append_32 (by decide) (by decide) ⟨rfl, Or.inr ⟨fun q => q.elim (fun z => by omega) (fun z => h28 z), rfl, rfl⟩⟩
