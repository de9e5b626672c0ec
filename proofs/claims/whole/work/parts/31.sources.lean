/-- the first kept ones of which p holds: the sum of g -/
def fsum (p : Nat → Bool) (g : Nat → Int32) (kept : Int32) : List Nat → Int32 → Int32 → Int32
  | [], s, _ => s
  | v :: vs, s, t => if t < kept then (if p v = true then fsum p g kept vs (s + g v) (t + 1) else fsum p g kept vs s t) else s
/-- the k-th one of which p holds, by its number -/
def nsrc (S : HS) (p : Nat → Bool) (k : Int32) : List Nat → Int32 → Int32
  | [], _ => -1
  | v :: vs, t => if p v = true then (if t = k then S.I 0 (tg S v) else nsrc S p k vs (t + 1)) else nsrc S p k vs t
/-- the place of the source whose net is b, from i on -/
def plc (S : HS) (b : Nat) : List Nat → Nat → Option Nat
  | [], _ => none
  | v :: vs, i => if tg S v = b then some i else plc S b vs (i + 1)
def oI (o : Option Nat) : Int32 := match o with
  | none => -1
  | some i => nI i
theorem plc_lt {S : HS} {b : Nat} : ∀ {vs : List Nat} {i j : Nat}, plc S b vs i = some j → i ≤ j ∧ j < i + vs.length ∧ ∃ v, vs[j - i]? = some v ∧ tg S v = b
  | [], i, j, h => by cases h
  | v :: vs, i, j, h => by
    unfold plc at h
    by_cases c : tg S v = b
    · rw [if_pos c] at h; cases h; exact ⟨Nat.le_refl _, by simp, v, by simp, c⟩
    · rw [if_neg c] at h
      obtain ⟨h1, h2, w, h3, h4⟩ := plc_lt h
      refine ⟨by omega, by simp; omega, w, ?_, h4⟩
      rw [show j - i = (j - (i + 1)) + 1 by omega, List.getElem?_cons_succ]; exact h3
set_option maxRecDepth 100000 in
theorem c_placeOf (l : Launch) (E : Ev) (X : va_W) (S : HS) {a lc rc : Nat} {vs : List Nat} (hc : cpl E S a lc rc vs) {b : Nat} : Ctr l yX0_placeOf (Cond.code yX0_placeOf cX0_placeOf 3 (some .int)) 4 0 0 E [.ref a, .ref b] X S (Same (.int (oI (plc S b vs 0))) X S) := by
  refine Ctr.ofG (by decide) [(0, .ref a), (1, .ref b)] rfl (Nat.le_of_ble_eq_true rfl) ?_
  intro p e s m args below meth c A Q C hQ
  refine g_iconst C 0 dX0_placeOf_0 (by decide) ?_
  refine g_istore_n C [(2, .int 0), (0, .ref a), (1, .ref b)] dX0_placeOf_1 rfl (by decide) rfl ?_
  have hlen := hc.2.2.1.2.2.2.1
  have loop : ∀ (n i : Nat) , i + n = vs.length → plc S b (vs.drop i) i = plc S b vs 0 → GW p l e (rml 4 0 0) s m args below meth c E 3 A Q X S 0 0 2 [(2, .int (nI i)), (0, .ref a), (1, .ref b)] [] := by
    intro n
    induction n with
    | zero =>
      intro i  hin hF
      rw [List.drop_eq_nil_of_le (by omega)] at hF
      refine g_iload_n C 0 dX0_placeOf_2 rfl rfl ?_
      refine g_aload_n C 1 dX0_placeOf_3 rfl rfl ?_
      refine g_get (v := .ref lc) C 4 hc.1.1 (pF_0 hc.1.2) rfl (by decide) in_X0 lk_X0_12 rfl (congrArg (fun z => some (va_rf z)) hc.2.1) dX0_placeOf_4 ?_
      refine g_callV C [] [.int (nI i)] (c_size l E X S hc.2.2.1) (recv_at hc.2.2.1.1.1 (pF_5 hc.2.2.1.1.2)) rfl cm_Jx4a65c_size_8abf5 wv_X0_63 ds_Jx4a65c_size_8abf5 rfl rfl (Nat.le_of_ble_eq_true rfl) (by decide) (by decide) dX0_placeOf_7 ?_
      rintro v9 X2 S2 ⟨rfl, rfl, rfl⟩
      refine g_icmp_ge C 39 dX0_placeOf_10 (by decide) (fun h10 => ?_) (fun h10 => ?_)
      · refine g_iconst C (-1) dX0_placeOf_39 (by decide) ?_
        exact g_iret C hQ rfl rfl dX0_placeOf_40 (by decide) (by decide) ⟨sv (by rw [← hF]; rfl), rfl, rfl⟩
      · exact absurd (nI_le (show vs.length ≤ i by omega) (by omega)) h10
    | succ n ih =>
      intro i  hin hF
      have hi : i < vs.length := by omega
      obtain ⟨v, hv⟩ : ∃ v, v = vs[i] := ⟨_, rfl⟩
      have hs : srcOK S v := by rw [hv]; exact hc.2.2.2 _ (List.getElem_mem hi)
      have hdr : vs.drop i = v :: vs.drop (i + 1) := by rw [hv]; exact List.drop_eq_getElem_cons hi
      rw [hdr, plc] at hF
      refine g_iload_n C 0 dX0_placeOf_2 rfl rfl ?_
      refine g_aload_n C 1 dX0_placeOf_3 rfl rfl ?_
      refine g_get (v := .ref lc) C 4 hc.1.1 (pF_0 hc.1.2) rfl (by decide) in_X0 lk_X0_12 rfl (congrArg (fun z => some (va_rf z)) hc.2.1) dX0_placeOf_4 ?_
      refine g_callV C [] [.int (nI i)] (c_size l E X S hc.2.2.1) (recv_at hc.2.2.1.1.1 (pF_5 hc.2.2.1.1.2)) rfl cm_Jx4a65c_size_8abf5 wv_X0_63 ds_Jx4a65c_size_8abf5 rfl rfl (Nat.le_of_ble_eq_true rfl) (by decide) (by decide) dX0_placeOf_7 ?_
      rintro v9 X2 S2 ⟨rfl, rfl, rfl⟩
      refine g_icmp_ge C 39 dX0_placeOf_10 (by decide) (fun h10 => ?_) (fun h10 => ?_)
      · refine g_iconst C (-1) dX0_placeOf_39 (by decide) ?_
        exact g_iret C hQ rfl rfl dX0_placeOf_40 (by decide) (by decide) ⟨sv (absurd ((nI_leI (by omega) (by omega)).mp h10) (by omega)), rfl, rfl⟩
      · refine g_aload_n C 1 dX0_placeOf_13 rfl rfl ?_
        refine g_get (v := .ref lc) C 4 hc.1.1 (pF_0 hc.1.2) rfl (by decide) in_X0 lk_X0_12 rfl (congrArg (fun z => some (va_rf z)) hc.2.1) dX0_placeOf_14 ?_
        refine g_iload_n C 0 dX0_placeOf_17 rfl rfl ?_
        refine g_callV C [.int (nI i)] [] (c_get l E X S hc.2.2.1 hi) (recv_at hc.2.2.1.1.1 (pF_5 hc.2.2.1.1.2)) rfl cm_Jx4a65c_get_915e3 wv_X0_67 ds_Jx4a65c_get_915e3 rfl rfl (Nat.le_of_ble_eq_true rfl) (by decide) (by decide) dX0_placeOf_18 ?_
        rintro v9 X2 S2 ⟨rfl, rfl, rfl⟩
        show GW _ _ _ _ _ _ _ _ _ _ _ _ _ _ _ _ _ _ _ _ (.ref vs[i] :: _)
        rw [← hv]
        refine g_cast C hs.1.1 (pF_1 hs.1.2) rfl kl_X0_71 dX0_placeOf_21 ?_
        refine g_get (v := .ref (tg S v)) C 0 hs.1.1 (pF_1 hs.1.2) rfl (by decide) in_X1 lk_X0_73 rfl (congrArg (fun z => some (va_rf z)) hs.2.1) dX0_placeOf_24 ?_
        refine g_aload_n C 2 dX0_placeOf_27 rfl rfl ?_
        refine g_acmp_ne (rx := some (tg S v)) (ry := some b) C 33 dX0_placeOf_28 (by decide) (fun h28 => ?_) (fun h28 => ?_)
        · refine g_iinc C (nI (i + 1)) 0 [(2, .int (nI (i + 1))), (0, .ref a), (1, .ref b)] dX0_placeOf_33 rfl (nI_1 i) (by decide) rfl ?_
          refine g_goto C 2 dX0_placeOf_36 (by decide) ?_
          exact ih (i + 1) (by omega) (by rw [if_neg (fun q => h28 (congrArg some q))] at hF; exact hF)
        · refine g_iload_n C 0 dX0_placeOf_31 rfl rfl ?_
          exact g_iret C hQ rfl rfl dX0_placeOf_32 (by decide) (by decide) ⟨sv (by rw [if_pos (Option.some.inj h28)] at hF; rw [← hF]; rfl), rfl, rfl⟩
  exact loop vs.length 0 (by omega) rfl
set_option maxRecDepth 100000 in
theorem c_sumOfShares (l : Launch) (E : Ev) (X : va_W) (S : HS) {a lc rc : Nat} {vs : List Nat} (hc : cpl E S a lc rc vs) (kp : Int32) : Ctr l yX0_sumOfShares (Cond.code yX0_sumOfShares cX0_sumOfShares 6 (some .int)) 4 0 0 E [.ref a, .int kp] X S (Same (.int (fsum (fun v => !exB S a (tg S v)) (fun v => S.I 8 v) kp vs 0 0)) X S) := by
  refine Ctr.ofG (by decide) [(0, .ref a), (1, .int kp)] rfl (Nat.le_of_ble_eq_true rfl) ?_
  intro p e s m args below meth c A Q C hQ
  refine g_iconst C 0 dX0_sumOfShares_0 (by decide) ?_
  refine g_istore_n C [(2, .int 0), (0, .ref a), (1, .int kp)] dX0_sumOfShares_1 rfl (by decide) rfl ?_
  refine g_iconst C 0 dX0_sumOfShares_2 (by decide) ?_
  refine g_istore_n C [(3, .int 0), (2, .int 0), (0, .ref a), (1, .int kp)] dX0_sumOfShares_3 rfl (by decide) rfl ?_
  refine g_iconst C 0 dX0_sumOfShares_4 (by decide) ?_
  refine g_istore C [(4, .int 0), (3, .int 0), (2, .int 0), (0, .ref a), (1, .int kp)] dX0_sumOfShares_5 (by decide) rfl ?_
  have hlen := hc.2.2.1.2.2.2.1
  have loop : ∀ (n i : Nat) (sm : Int32) (tk : Int32), i + n = vs.length → fsum (fun v => !exB S a (tg S v)) (fun v => S.I 8 v) kp (vs.drop i) sm tk = fsum (fun v => !exB S a (tg S v)) (fun v => S.I 8 v) kp vs 0 0 → GW p l e (rml 4 0 0) s m args below meth c E 6 A Q X S 0 0 7 [(4, .int (nI i)), (3, .int tk), (2, .int sm), (0, .ref a), (1, .int kp)] [] := by
    intro n
    induction n with
    | zero =>
      intro i sm tk hin hF
      rw [List.drop_eq_nil_of_le (by omega)] at hF
      refine g_iload C 0 dX0_sumOfShares_7 rfl ?_
      refine g_aload_n C 3 dX0_sumOfShares_9 rfl rfl ?_
      refine g_get (v := .ref lc) C 4 hc.1.1 (pF_0 hc.1.2) rfl (by decide) in_X0 lk_X0_12 rfl (congrArg (fun z => some (va_rf z)) hc.2.1) dX0_sumOfShares_10 ?_
      refine g_callV C [] [.int (nI i)] (c_size l E X S hc.2.2.1) (recv_at hc.2.2.1.1.1 (pF_5 hc.2.2.1.1.2)) rfl cm_Jx4a65c_size_8abf5 wv_X0_63 ds_Jx4a65c_size_8abf5 rfl rfl (Nat.le_of_ble_eq_true rfl) (by decide) (by decide) dX0_sumOfShares_13 ?_
      rintro v9 X2 S2 ⟨rfl, rfl, rfl⟩
      refine g_icmp_ge C 67 dX0_sumOfShares_16 (by decide) (fun h16 => ?_) (fun h16 => ?_)
      · refine g_iload_n C 2 dX0_sumOfShares_67 rfl rfl ?_
        exact g_iret C hQ rfl rfl dX0_sumOfShares_68 (by decide) (by decide) ⟨sv hF.symm, rfl, rfl⟩
      · exact absurd (nI_le (show vs.length ≤ i by omega) (by omega)) h16
    | succ n ih =>
      intro i sm tk hin hF
      have hi : i < vs.length := by omega
      obtain ⟨v, hv⟩ : ∃ v, v = vs[i] := ⟨_, rfl⟩
      have hs : srcOK S v := by rw [hv]; exact hc.2.2.2 _ (List.getElem_mem hi)
      have hdr : vs.drop i = v :: vs.drop (i + 1) := by rw [hv]; exact List.drop_eq_getElem_cons hi
      rw [hdr, fsum] at hF
      refine g_iload C 0 dX0_sumOfShares_7 rfl ?_
      refine g_aload_n C 3 dX0_sumOfShares_9 rfl rfl ?_
      refine g_get (v := .ref lc) C 4 hc.1.1 (pF_0 hc.1.2) rfl (by decide) in_X0 lk_X0_12 rfl (congrArg (fun z => some (va_rf z)) hc.2.1) dX0_sumOfShares_10 ?_
      refine g_callV C [] [.int (nI i)] (c_size l E X S hc.2.2.1) (recv_at hc.2.2.1.1.1 (pF_5 hc.2.2.1.1.2)) rfl cm_Jx4a65c_size_8abf5 wv_X0_63 ds_Jx4a65c_size_8abf5 rfl rfl (Nat.le_of_ble_eq_true rfl) (by decide) (by decide) dX0_sumOfShares_13 ?_
      rintro v9 X2 S2 ⟨rfl, rfl, rfl⟩
      refine g_icmp_ge C 67 dX0_sumOfShares_16 (by decide) (fun h16 => ?_) (fun h16 => ?_)
      · refine g_iload_n C 2 dX0_sumOfShares_67 rfl rfl ?_
        exact g_iret C hQ rfl rfl dX0_sumOfShares_68 (by decide) (by decide) ⟨sv (by first | exact absurd ((nI_leI (by omega) (by omega)).mp h16) (by omega) | (rw [← hF]; exact if_neg (Int32.not_lt.mpr h21))), rfl, rfl⟩
      · refine g_iload_n C 1 dX0_sumOfShares_19 rfl rfl ?_
        refine g_iload_n C 4 dX0_sumOfShares_20 rfl rfl ?_
        refine g_icmp_ge C 67 dX0_sumOfShares_21 (by decide) (fun h21 => ?_) (fun h21 => ?_)
        · refine g_iload_n C 2 dX0_sumOfShares_67 rfl rfl ?_
          exact g_iret C hQ rfl rfl dX0_sumOfShares_68 (by decide) (by decide) ⟨sv (by first | exact absurd ((nI_leI (by omega) (by omega)).mp h16) (by omega) | (rw [← hF]; exact if_neg (Int32.not_lt.mpr h21))), rfl, rfl⟩
        · refine g_aload_n C 3 dX0_sumOfShares_24 rfl rfl ?_
          refine g_get (v := .ref lc) C 4 hc.1.1 (pF_0 hc.1.2) rfl (by decide) in_X0 lk_X0_12 rfl (congrArg (fun z => some (va_rf z)) hc.2.1) dX0_sumOfShares_25 ?_
          refine g_iload C 0 dX0_sumOfShares_28 rfl ?_
          refine g_callV C [.int (nI i)] [] (c_get l E X S hc.2.2.1 hi) (recv_at hc.2.2.1.1.1 (pF_5 hc.2.2.1.1.2)) rfl cm_Jx4a65c_get_915e3 wv_X0_67 ds_Jx4a65c_get_915e3 rfl rfl (Nat.le_of_ble_eq_true rfl) (by decide) (by decide) dX0_sumOfShares_30 ?_
          rintro v9 X2 S2 ⟨rfl, rfl, rfl⟩
          show GW _ _ _ _ _ _ _ _ _ _ _ _ _ _ _ _ _ _ _ _ (.ref vs[i] :: _)
          rw [← hv]
          refine g_cast C hs.1.1 (pF_1 hs.1.2) rfl kl_X0_71 dX0_sumOfShares_33 ?_
          refine g_astore C [(5, .ref v), (4, .int (nI i)), (3, .int tk), (2, .int sm), (0, .ref a), (1, .int kp)] dX0_sumOfShares_36 (by decide) rfl ?_
          refine g_aload_n C 4 dX0_sumOfShares_38 rfl rfl ?_
          refine g_aload C 0 dX0_sumOfShares_39 rfl ?_
          refine g_get (v := .ref (tg S v)) C 0 hs.1.1 (pF_1 hs.1.2) rfl (by decide) in_X1 lk_X0_73 rfl (congrArg (fun z => some (va_rf z)) hs.2.1) dX0_sumOfShares_41 ?_
          refine g_callV C [.ref (tg S v)] [] (c_isExcludedFrom l E X S hc.1 hs.2.2) (recv_at hc.1.1 (pF_0 hc.1.2)) rfl cm_X0_isExcludedFrom wv_X0_98 ds_X0_isExcludedFrom rfl rfl (Nat.le_of_ble_eq_true rfl) (by decide) (by decide) dX0_sumOfShares_44 ?_
          rintro v9 X2 S2 ⟨rfl, rfl, rfl⟩
          refine g_if_ne C 61 dX0_sumOfShares_47 (by decide) (fun h47 => ?_) (fun h47 => ?_)
          · refine g_iinc C (nI (i + 1)) 1 [(4, .int (nI (i + 1))), (5, .ref v), (3, .int tk), (2, .int sm), (0, .ref a), (1, .int kp)] dX0_sumOfShares_61 rfl (nI_1 i) (by decide) rfl ?_
            refine g_goto C 7 dX0_sumOfShares_64 (by decide) ?_
            refine g_locs (lv2 := [(4, .int (nI (i + 1))), (3, .int tk), (2, .int sm), (0, .ref a), (1, .int kp)]) [0, 2, 3, 4, 5] rfl ?_
            exact ih (i + 1) sm tk (by omega) (by rw [if_pos (Int32.not_le.mp h21), if_neg (by rw [bI_1 h47]; decide)] at hF; exact hF)
          · refine g_iload_n C 3 dX0_sumOfShares_50 rfl rfl ?_
            refine g_aload C 0 dX0_sumOfShares_51 rfl ?_
            refine g_get C 1 hs.1.1 (pF_1 hs.1.2) rfl (by decide) in_X1 lk_X0_81 rfl rfl dX0_sumOfShares_53 ?_
            refine g_iadd C dX0_sumOfShares_56 ?_
            refine g_istore_n C [(2, .int (sm + (S.I 8 v))), (5, .ref v), (4, .int (nI i)), (3, .int tk), (0, .ref a), (1, .int kp)] dX0_sumOfShares_57 rfl (by decide) rfl ?_
            refine g_iinc C (tk + 1) 3 [(3, .int (tk + 1)), (2, .int (sm + (S.I 8 v))), (5, .ref v), (4, .int (nI i)), (0, .ref a), (1, .int kp)] dX0_sumOfShares_58 rfl rfl (by decide) rfl ?_
            refine g_iinc C (nI (i + 1)) 3 [(4, .int (nI (i + 1))), (3, .int (tk + 1)), (2, .int (sm + (S.I 8 v))), (5, .ref v), (0, .ref a), (1, .int kp)] dX0_sumOfShares_61 rfl (nI_1 i) (by decide) rfl ?_
            refine g_goto C 7 dX0_sumOfShares_64 (by decide) ?_
            refine g_locs (lv2 := [(4, .int (nI (i + 1))), (3, .int (tk + 1)), (2, .int (sm + (S.I 8 v))), (0, .ref a), (1, .int kp)]) [0, 1, 2, 4, 5] rfl ?_
            exact ih (i + 1) _ _ (by omega) (by rw [if_pos (Int32.not_le.mp h21), if_pos (by rw [bI_0 h47]; rfl)] at hF; exact hF)
  exact loop vs.length 0 0 0 (by omega) rfl
set_option maxRecDepth 100000 in
theorem c_sumOfDelays (l : Launch) (E : Ev) (X : va_W) (S : HS) {a lc rc : Nat} {vs : List Nat} (hc : cpl E S a lc rc vs) (kp : Int32) (mo : Bool) : Ctr l yX0_sumOfDelays (Cond.code yX0_sumOfDelays cX0_sumOfDelays 7 (some .int)) 4 0 0 E [.ref a, .int kp, .int (bI mo)] X S (Same (.int (fsum (fun v => !exB S a (tg S v) && (!mo || meB S a (tg S v))) (fun v => sg S v / 1000) kp vs 0 0)) X S) := by
  refine Ctr.ofG (by decide) [(0, .ref a), (1, .int kp), (2, .int (bI mo))] rfl (Nat.le_of_ble_eq_true rfl) ?_
  intro p e s m args below meth c A Q C hQ
  refine g_iconst C 0 dX0_sumOfDelays_0 (by decide) ?_
  refine g_istore_n C [(3, .int 0), (0, .ref a), (1, .int kp), (2, .int (bI mo))] dX0_sumOfDelays_1 rfl (by decide) rfl ?_
  refine g_iconst C 0 dX0_sumOfDelays_2 (by decide) ?_
  refine g_istore C [(4, .int 0), (3, .int 0), (0, .ref a), (1, .int kp), (2, .int (bI mo))] dX0_sumOfDelays_3 (by decide) rfl ?_
  refine g_iconst C 0 dX0_sumOfDelays_5 (by decide) ?_
  refine g_istore C [(5, .int 0), (4, .int 0), (3, .int 0), (0, .ref a), (1, .int kp), (2, .int (bI mo))] dX0_sumOfDelays_6 (by decide) rfl ?_
  have hlen := hc.2.2.1.2.2.2.1
  have loop : ∀ (n i : Nat) (sm : Int32) (tk : Int32), i + n = vs.length → fsum (fun v => !exB S a (tg S v) && (!mo || meB S a (tg S v))) (fun v => sg S v / 1000) kp (vs.drop i) sm tk = fsum (fun v => !exB S a (tg S v) && (!mo || meB S a (tg S v))) (fun v => sg S v / 1000) kp vs 0 0 → GW p l e (rml 4 0 0) s m args below meth c E 7 A Q X S 0 0 8 [(5, .int (nI i)), (4, .int tk), (3, .int sm), (0, .ref a), (1, .int kp), (2, .int (bI mo))] [] := by
    intro n
    induction n with
    | zero =>
      intro i sm tk hin hF
      rw [List.drop_eq_nil_of_le (by omega)] at hF
      refine g_iload C 0 dX0_sumOfDelays_8 rfl ?_
      refine g_aload_n C 3 dX0_sumOfDelays_10 rfl rfl ?_
      refine g_get (v := .ref lc) C 4 hc.1.1 (pF_0 hc.1.2) rfl (by decide) in_X0 lk_X0_12 rfl (congrArg (fun z => some (va_rf z)) hc.2.1) dX0_sumOfDelays_11 ?_
      refine g_callV C [] [.int (nI i)] (c_size l E X S hc.2.2.1) (recv_at hc.2.2.1.1.1 (pF_5 hc.2.2.1.1.2)) rfl cm_Jx4a65c_size_8abf5 wv_X0_63 ds_Jx4a65c_size_8abf5 rfl rfl (Nat.le_of_ble_eq_true rfl) (by decide) (by decide) dX0_sumOfDelays_14 ?_
      rintro v9 X2 S2 ⟨rfl, rfl, rfl⟩
      refine g_icmp_ge C 85 dX0_sumOfDelays_17 (by decide) (fun h17 => ?_) (fun h17 => ?_)
      · refine g_iload_n C 2 dX0_sumOfDelays_85 rfl rfl ?_
        exact g_iret C hQ rfl rfl dX0_sumOfDelays_86 (by decide) (by decide) ⟨sv hF.symm, rfl, rfl⟩
      · exact absurd (nI_le (show vs.length ≤ i by omega) (by omega)) h17
    | succ n ih =>
      intro i sm tk hin hF
      have hi : i < vs.length := by omega
      obtain ⟨v, hv⟩ : ∃ v, v = vs[i] := ⟨_, rfl⟩
      have hs : srcOK S v := by rw [hv]; exact hc.2.2.2 _ (List.getElem_mem hi)
      have hdr : vs.drop i = v :: vs.drop (i + 1) := by rw [hv]; exact List.drop_eq_getElem_cons hi
      rw [hdr, fsum] at hF
      refine g_iload C 0 dX0_sumOfDelays_8 rfl ?_
      refine g_aload_n C 3 dX0_sumOfDelays_10 rfl rfl ?_
      refine g_get (v := .ref lc) C 4 hc.1.1 (pF_0 hc.1.2) rfl (by decide) in_X0 lk_X0_12 rfl (congrArg (fun z => some (va_rf z)) hc.2.1) dX0_sumOfDelays_11 ?_
      refine g_callV C [] [.int (nI i)] (c_size l E X S hc.2.2.1) (recv_at hc.2.2.1.1.1 (pF_5 hc.2.2.1.1.2)) rfl cm_Jx4a65c_size_8abf5 wv_X0_63 ds_Jx4a65c_size_8abf5 rfl rfl (Nat.le_of_ble_eq_true rfl) (by decide) (by decide) dX0_sumOfDelays_14 ?_
      rintro v9 X2 S2 ⟨rfl, rfl, rfl⟩
      refine g_icmp_ge C 85 dX0_sumOfDelays_17 (by decide) (fun h17 => ?_) (fun h17 => ?_)
      · refine g_iload_n C 2 dX0_sumOfDelays_85 rfl rfl ?_
        exact g_iret C hQ rfl rfl dX0_sumOfDelays_86 (by decide) (by decide) ⟨sv (by first | exact absurd ((nI_leI (by omega) (by omega)).mp h17) (by omega) | (rw [← hF]; exact if_neg (Int32.not_lt.mpr h23))), rfl, rfl⟩
      · refine g_iload C 1 dX0_sumOfDelays_20 rfl ?_
        refine g_iload_n C 4 dX0_sumOfDelays_22 rfl rfl ?_
        refine g_icmp_ge C 85 dX0_sumOfDelays_23 (by decide) (fun h23 => ?_) (fun h23 => ?_)
        · refine g_iload_n C 2 dX0_sumOfDelays_85 rfl rfl ?_
          exact g_iret C hQ rfl rfl dX0_sumOfDelays_86 (by decide) (by decide) ⟨sv (by first | exact absurd ((nI_leI (by omega) (by omega)).mp h17) (by omega) | (rw [← hF]; exact if_neg (Int32.not_lt.mpr h23))), rfl, rfl⟩
        · refine g_aload_n C 3 dX0_sumOfDelays_26 rfl rfl ?_
          refine g_get (v := .ref lc) C 4 hc.1.1 (pF_0 hc.1.2) rfl (by decide) in_X0 lk_X0_12 rfl (congrArg (fun z => some (va_rf z)) hc.2.1) dX0_sumOfDelays_27 ?_
          refine g_iload C 0 dX0_sumOfDelays_30 rfl ?_
          refine g_callV C [.int (nI i)] [] (c_get l E X S hc.2.2.1 hi) (recv_at hc.2.2.1.1.1 (pF_5 hc.2.2.1.1.2)) rfl cm_Jx4a65c_get_915e3 wv_X0_67 ds_Jx4a65c_get_915e3 rfl rfl (Nat.le_of_ble_eq_true rfl) (by decide) (by decide) dX0_sumOfDelays_32 ?_
          rintro v9 X2 S2 ⟨rfl, rfl, rfl⟩
          show GW _ _ _ _ _ _ _ _ _ _ _ _ _ _ _ _ _ _ _ _ (.ref vs[i] :: _)
          rw [← hv]
          refine g_cast C hs.1.1 (pF_1 hs.1.2) rfl kl_X0_71 dX0_sumOfDelays_35 ?_
          refine g_astore C [(6, .ref v), (5, .int (nI i)), (4, .int tk), (3, .int sm), (0, .ref a), (1, .int kp), (2, .int (bI mo))] dX0_sumOfDelays_38 (by decide) rfl ?_
          refine g_aload_n C 4 dX0_sumOfDelays_40 rfl rfl ?_
          refine g_aload C 0 dX0_sumOfDelays_41 rfl ?_
          refine g_get (v := .ref (tg S v)) C 0 hs.1.1 (pF_1 hs.1.2) rfl (by decide) in_X1 lk_X0_73 rfl (congrArg (fun z => some (va_rf z)) hs.2.1) dX0_sumOfDelays_43 ?_
          refine g_callV C [.ref (tg S v)] [] (c_isExcludedFrom l E X S hc.1 hs.2.2) (recv_at hc.1.1 (pF_0 hc.1.2)) rfl cm_X0_isExcludedFrom wv_X0_98 ds_X0_isExcludedFrom rfl rfl (Nat.le_of_ble_eq_true rfl) (by decide) (by decide) dX0_sumOfDelays_46 ?_
          rintro v9 X2 S2 ⟨rfl, rfl, rfl⟩
          refine g_if_ne C 79 dX0_sumOfDelays_49 (by decide) (fun h49 => ?_) (fun h49 => ?_)
          · refine g_iinc C (nI (i + 1)) 1 [(5, .int (nI (i + 1))), (6, .ref v), (4, .int tk), (3, .int sm), (0, .ref a), (1, .int kp), (2, .int (bI mo))] dX0_sumOfDelays_79 rfl (nI_1 i) (by decide) rfl ?_
            refine g_goto C 8 dX0_sumOfDelays_82 (by decide) ?_
            refine g_locs (lv2 := [(5, .int (nI (i + 1))), (4, .int tk), (3, .int sm), (0, .ref a), (1, .int kp), (2, .int (bI mo))]) [0, 2, 3, 4, 5, 6] rfl ?_
            exact ih (i + 1) sm tk (by omega) (by rw [if_pos (Int32.not_le.mp h23), if_neg (by first | (rw [bI_1 h49]; simp) | (rw [bI_1 h53, bI_0 h65]; simp))] at hF; exact hF)
          · refine g_iload_n C 6 dX0_sumOfDelays_52 rfl rfl ?_
            refine g_if_eq C 68 dX0_sumOfDelays_53 (by decide) (fun h53 => ?_) (fun h53 => ?_)
            · refine g_iload_n C 3 dX0_sumOfDelays_68 rfl rfl ?_
              refine g_aload C 0 dX0_sumOfDelays_69 rfl ?_
              refine g_callV C [] [.int sm] (c_delay l E X S hs.1 hs.2.1 hs.2.2) (recv_at hs.1.1 (pF_1 hs.1.2)) rfl cm_X1_delay wv_X0_109 ds_X1_delay rfl rfl (Nat.le_of_ble_eq_true rfl) (by decide) (by decide) dX0_sumOfDelays_71 ?_
              rintro v9 X2 S2 ⟨rfl, rfl, rfl⟩
              refine g_iadd C dX0_sumOfDelays_74 ?_
              refine g_istore_n C [(3, .int (sm + (sg S v / 1000))), (6, .ref v), (5, .int (nI i)), (4, .int tk), (0, .ref a), (1, .int kp), (2, .int (bI mo))] dX0_sumOfDelays_75 rfl (by decide) rfl ?_
              refine g_iinc C (tk + 1) 3 [(4, .int (tk + 1)), (3, .int (sm + (sg S v / 1000))), (6, .ref v), (5, .int (nI i)), (0, .ref a), (1, .int kp), (2, .int (bI mo))] dX0_sumOfDelays_76 rfl rfl (by decide) rfl ?_
              refine g_iinc C (nI (i + 1)) 3 [(5, .int (nI (i + 1))), (4, .int (tk + 1)), (3, .int (sm + (sg S v / 1000))), (6, .ref v), (0, .ref a), (1, .int kp), (2, .int (bI mo))] dX0_sumOfDelays_79 rfl (nI_1 i) (by decide) rfl ?_
              refine g_goto C 8 dX0_sumOfDelays_82 (by decide) ?_
              refine g_locs (lv2 := [(5, .int (nI (i + 1))), (4, .int (tk + 1)), (3, .int (sm + (sg S v / 1000))), (0, .ref a), (1, .int kp), (2, .int (bI mo))]) [0, 1, 2, 4, 5, 6] rfl ?_
              exact ih (i + 1) _ _ (by omega) (by rw [if_pos (Int32.not_le.mp h23), if_pos (by first | (rw [bI_0 h49, bI_1 h65]; simp) | (rw [bI_0 h49, bI_0 h53]; rfl))] at hF; exact hF)
            · refine g_aload_n C 4 dX0_sumOfDelays_56 rfl rfl ?_
              refine g_aload C 0 dX0_sumOfDelays_57 rfl ?_
              refine g_get (v := .ref (tg S v)) C 0 hs.1.1 (pF_1 hs.1.2) rfl (by decide) in_X1 lk_X0_73 rfl (congrArg (fun z => some (va_rf z)) hs.2.1) dX0_sumOfDelays_59 ?_
              refine g_callV C [.ref (tg S v)] [] (c_meets l E X S hc.1 hs.2.2) (recv_at hc.1.1 (pF_0 hc.1.2)) rfl cm_X0_meets wv_X0_106 ds_X0_meets rfl rfl (Nat.le_of_ble_eq_true rfl) (by decide) (by decide) dX0_sumOfDelays_62 ?_
              rintro v9 X2 S2 ⟨rfl, rfl, rfl⟩
              refine g_if_eq C 79 dX0_sumOfDelays_65 (by decide) (fun h65 => ?_) (fun h65 => ?_)
              · refine g_iinc C (nI (i + 1)) 1 [(5, .int (nI (i + 1))), (6, .ref v), (4, .int tk), (3, .int sm), (0, .ref a), (1, .int kp), (2, .int (bI mo))] dX0_sumOfDelays_79 rfl (nI_1 i) (by decide) rfl ?_
                refine g_goto C 8 dX0_sumOfDelays_82 (by decide) ?_
                refine g_locs (lv2 := [(5, .int (nI (i + 1))), (4, .int tk), (3, .int sm), (0, .ref a), (1, .int kp), (2, .int (bI mo))]) [0, 2, 3, 4, 5, 6] rfl ?_
                exact ih (i + 1) sm tk (by omega) (by rw [if_pos (Int32.not_le.mp h23), if_neg (by first | (rw [bI_1 h49]; simp) | (rw [bI_1 h53, bI_0 h65]; simp))] at hF; exact hF)
              · refine g_iload_n C 3 dX0_sumOfDelays_68 rfl rfl ?_
                refine g_aload C 0 dX0_sumOfDelays_69 rfl ?_
                refine g_callV C [] [.int sm] (c_delay l E X S hs.1 hs.2.1 hs.2.2) (recv_at hs.1.1 (pF_1 hs.1.2)) rfl cm_X1_delay wv_X0_109 ds_X1_delay rfl rfl (Nat.le_of_ble_eq_true rfl) (by decide) (by decide) dX0_sumOfDelays_71 ?_
                rintro v9 X2 S2 ⟨rfl, rfl, rfl⟩
                refine g_iadd C dX0_sumOfDelays_74 ?_
                refine g_istore_n C [(3, .int (sm + (sg S v / 1000))), (6, .ref v), (5, .int (nI i)), (4, .int tk), (0, .ref a), (1, .int kp), (2, .int (bI mo))] dX0_sumOfDelays_75 rfl (by decide) rfl ?_
                refine g_iinc C (tk + 1) 3 [(4, .int (tk + 1)), (3, .int (sm + (sg S v / 1000))), (6, .ref v), (5, .int (nI i)), (0, .ref a), (1, .int kp), (2, .int (bI mo))] dX0_sumOfDelays_76 rfl rfl (by decide) rfl ?_
                refine g_iinc C (nI (i + 1)) 3 [(5, .int (nI (i + 1))), (4, .int (tk + 1)), (3, .int (sm + (sg S v / 1000))), (6, .ref v), (0, .ref a), (1, .int kp), (2, .int (bI mo))] dX0_sumOfDelays_79 rfl (nI_1 i) (by decide) rfl ?_
                refine g_goto C 8 dX0_sumOfDelays_82 (by decide) ?_
                refine g_locs (lv2 := [(5, .int (nI (i + 1))), (4, .int (tk + 1)), (3, .int (sm + (sg S v / 1000))), (0, .ref a), (1, .int kp), (2, .int (bI mo))]) [0, 1, 2, 4, 5, 6] rfl ?_
                exact ih (i + 1) _ _ (by omega) (by rw [if_pos (Int32.not_le.mp h23), if_pos (by first | (rw [bI_0 h49, bI_1 h65]; simp) | (rw [bI_0 h49, bI_0 h53]; rfl))] at hF; exact hF)
  exact loop vs.length 0 0 0 (by omega) rfl
set_option maxRecDepth 100000 in
theorem c_delayByAllSources (l : Launch) (E : Ev) (X : va_W) (S : HS) {a lc rc : Nat} {vs : List Nat} (hc : cpl E S a lc rc vs) (kp : Int32) : Ctr l yX0_delayByAllSources (Cond.code yX0_delayByAllSources cX0_delayByAllSources 2 (some .int)) 5 0 0 E [.ref a, .int kp] X S (Same (.int (fsum (fun v => !exB S a (tg S v) && (!false || meB S a (tg S v))) (fun v => sg S v / 1000) kp vs 0 0)) X S) := by
  refine Ctr.ofG (by decide) [(0, .ref a), (1, .int kp)] rfl (Nat.le_of_ble_eq_true rfl) ?_
  intro p e s m args below meth c A Q C hQ
  refine g_aload_n C 0 dX0_delayByAllSources_0 rfl rfl ?_
  refine g_iload_n C 1 dX0_delayByAllSources_1 rfl rfl ?_
  refine g_iconst C 0 dX0_delayByAllSources_2 (by decide) ?_
  refine g_callV C [.int kp, .int 0] [] (c_sumOfDelays l E X S hc kp false) (recv_at hc.1.1 (pF_0 hc.1.2)) rfl cm_X0_sumOfDelays wv_X0_102 ds_X0_sumOfDelays rfl rfl (Nat.le_of_ble_eq_true rfl) (by decide) (by decide) dX0_delayByAllSources_3 ?_
  rintro v9 X2 S2 ⟨rfl, rfl, rfl⟩
  exact g_iret C hQ rfl rfl dX0_delayByAllSources_6 (by decide) (by decide) ⟨rfl, rfl, rfl⟩
set_option maxRecDepth 100000 in
theorem c_delayByMeetingSources (l : Launch) (E : Ev) (X : va_W) (S : HS) {a lc rc : Nat} {vs : List Nat} (hc : cpl E S a lc rc vs) (kp : Int32) : Ctr l yX0_delayByMeetingSources (Cond.code yX0_delayByMeetingSources cX0_delayByMeetingSources 2 (some .int)) 5 0 0 E [.ref a, .int kp] X S (Same (.int (fsum (fun v => !exB S a (tg S v) && (!true || meB S a (tg S v))) (fun v => sg S v / 1000) kp vs 0 0)) X S) := by
  refine Ctr.ofG (by decide) [(0, .ref a), (1, .int kp)] rfl (Nat.le_of_ble_eq_true rfl) ?_
  intro p e s m args below meth c A Q C hQ
  refine g_aload_n C 0 dX0_delayByMeetingSources_0 rfl rfl ?_
  refine g_iload_n C 1 dX0_delayByMeetingSources_1 rfl rfl ?_
  refine g_iconst C 1 dX0_delayByMeetingSources_2 (by decide) ?_
  refine g_callV C [.int kp, .int 1] [] (c_sumOfDelays l E X S hc kp true) (recv_at hc.1.1 (pF_0 hc.1.2)) rfl cm_X0_sumOfDelays wv_X0_102 ds_X0_sumOfDelays rfl rfl (Nat.le_of_ble_eq_true rfl) (by decide) (by decide) dX0_delayByMeetingSources_3 ?_
  rintro v9 X2 S2 ⟨rfl, rfl, rfl⟩
  exact g_iret C hQ rfl rfl dX0_delayByMeetingSources_6 (by decide) (by decide) ⟨rfl, rfl, rfl⟩
set_option maxRecDepth 100000 in
theorem c_numberOfSource (l : Launch) (E : Ev) (X : va_W) (S : HS) {a lc rc : Nat} {vs : List Nat} (hc : cpl E S a lc rc vs) (kp : Int32) : Ctr l yX0_numberOfSource (Cond.code yX0_numberOfSource cX0_numberOfSource 5 (some .int)) 4 0 0 E [.ref a, .int kp] X S (Same (.int (nsrc S (fun v => !exB S a (tg S v)) kp vs 0)) X S) := by
  refine Ctr.ofG (by decide) [(0, .ref a), (1, .int kp)] rfl (Nat.le_of_ble_eq_true rfl) ?_
  intro p e s m args below meth c A Q C hQ
  refine g_iconst C 0 dX0_numberOfSource_0 (by decide) ?_
  refine g_istore_n C [(2, .int 0), (0, .ref a), (1, .int kp)] dX0_numberOfSource_1 rfl (by decide) rfl ?_
  refine g_iconst C 0 dX0_numberOfSource_2 (by decide) ?_
  refine g_istore_n C [(3, .int 0), (2, .int 0), (0, .ref a), (1, .int kp)] dX0_numberOfSource_3 rfl (by decide) rfl ?_
  have hlen := hc.2.2.1.2.2.2.1
  have loop : ∀ (n i : Nat) (sn : Int32), i + n = vs.length → nsrc S (fun v => !exB S a (tg S v)) kp (vs.drop i) sn = nsrc S (fun v => !exB S a (tg S v)) kp vs 0 → GW p l e (rml 4 0 0) s m args below meth c E 5 A Q X S 0 0 4 [(3, .int (nI i)), (2, .int sn), (0, .ref a), (1, .int kp)] [] := by
    intro n
    induction n with
    | zero =>
      intro i sn hin hF
      rw [List.drop_eq_nil_of_le (by omega)] at hF
      refine g_iload_n C 0 dX0_numberOfSource_4 rfl rfl ?_
      refine g_aload_n C 2 dX0_numberOfSource_5 rfl rfl ?_
      refine g_get (v := .ref lc) C 4 hc.1.1 (pF_0 hc.1.2) rfl (by decide) in_X0 lk_X0_12 rfl (congrArg (fun z => some (va_rf z)) hc.2.1) dX0_numberOfSource_6 ?_
      refine g_callV C [] [.int (nI i)] (c_size l E X S hc.2.2.1) (recv_at hc.2.2.1.1.1 (pF_5 hc.2.2.1.1.2)) rfl cm_Jx4a65c_size_8abf5 wv_X0_63 ds_Jx4a65c_size_8abf5 rfl rfl (Nat.le_of_ble_eq_true rfl) (by decide) (by decide) dX0_numberOfSource_9 ?_
      rintro v9 X2 S2 ⟨rfl, rfl, rfl⟩
      refine g_icmp_ge C 63 dX0_numberOfSource_12 (by decide) (fun h12 => ?_) (fun h12 => ?_)
      · refine g_iconst C (-1) dX0_numberOfSource_63 (by decide) ?_
        exact g_iret C hQ rfl rfl dX0_numberOfSource_64 (by decide) (by decide) ⟨sv hF.symm, rfl, rfl⟩
      · exact absurd (nI_le (show vs.length ≤ i by omega) (by omega)) h12
    | succ n ih =>
      intro i sn hin hF
      have hi : i < vs.length := by omega
      obtain ⟨v, hv⟩ : ∃ v, v = vs[i] := ⟨_, rfl⟩
      have hs : srcOK S v := by rw [hv]; exact hc.2.2.2 _ (List.getElem_mem hi)
      have hdr : vs.drop i = v :: vs.drop (i + 1) := by rw [hv]; exact List.drop_eq_getElem_cons hi
      rw [hdr, nsrc] at hF
      refine g_iload_n C 0 dX0_numberOfSource_4 rfl rfl ?_
      refine g_aload_n C 2 dX0_numberOfSource_5 rfl rfl ?_
      refine g_get (v := .ref lc) C 4 hc.1.1 (pF_0 hc.1.2) rfl (by decide) in_X0 lk_X0_12 rfl (congrArg (fun z => some (va_rf z)) hc.2.1) dX0_numberOfSource_6 ?_
      refine g_callV C [] [.int (nI i)] (c_size l E X S hc.2.2.1) (recv_at hc.2.2.1.1.1 (pF_5 hc.2.2.1.1.2)) rfl cm_Jx4a65c_size_8abf5 wv_X0_63 ds_Jx4a65c_size_8abf5 rfl rfl (Nat.le_of_ble_eq_true rfl) (by decide) (by decide) dX0_numberOfSource_9 ?_
      rintro v9 X2 S2 ⟨rfl, rfl, rfl⟩
      refine g_icmp_ge C 63 dX0_numberOfSource_12 (by decide) (fun h12 => ?_) (fun h12 => ?_)
      · refine g_iconst C (-1) dX0_numberOfSource_63 (by decide) ?_
        exact g_iret C hQ rfl rfl dX0_numberOfSource_64 (by decide) (by decide) ⟨sv (absurd ((nI_leI (by omega) (by omega)).mp h12) (by omega)), rfl, rfl⟩
      · refine g_aload_n C 2 dX0_numberOfSource_15 rfl rfl ?_
        refine g_get (v := .ref lc) C 4 hc.1.1 (pF_0 hc.1.2) rfl (by decide) in_X0 lk_X0_12 rfl (congrArg (fun z => some (va_rf z)) hc.2.1) dX0_numberOfSource_16 ?_
        refine g_iload_n C 0 dX0_numberOfSource_19 rfl rfl ?_
        refine g_callV C [.int (nI i)] [] (c_get l E X S hc.2.2.1 hi) (recv_at hc.2.2.1.1.1 (pF_5 hc.2.2.1.1.2)) rfl cm_Jx4a65c_get_915e3 wv_X0_67 ds_Jx4a65c_get_915e3 rfl rfl (Nat.le_of_ble_eq_true rfl) (by decide) (by decide) dX0_numberOfSource_20 ?_
        rintro v9 X2 S2 ⟨rfl, rfl, rfl⟩
        show GW _ _ _ _ _ _ _ _ _ _ _ _ _ _ _ _ _ _ _ _ (.ref vs[i] :: _)
        rw [← hv]
        refine g_cast C hs.1.1 (pF_1 hs.1.2) rfl kl_X0_71 dX0_numberOfSource_23 ?_
        refine g_astore C [(4, .ref v), (3, .int (nI i)), (2, .int sn), (0, .ref a), (1, .int kp)] dX0_numberOfSource_26 (by decide) rfl ?_
        refine g_aload_n C 3 dX0_numberOfSource_28 rfl rfl ?_
        refine g_aload C 0 dX0_numberOfSource_29 rfl ?_
        refine g_get (v := .ref (tg S v)) C 0 hs.1.1 (pF_1 hs.1.2) rfl (by decide) in_X1 lk_X0_73 rfl (congrArg (fun z => some (va_rf z)) hs.2.1) dX0_numberOfSource_31 ?_
        refine g_callV C [.ref (tg S v)] [] (c_isExcludedFrom l E X S hc.1 hs.2.2) (recv_at hc.1.1 (pF_0 hc.1.2)) rfl cm_X0_isExcludedFrom wv_X0_98 ds_X0_isExcludedFrom rfl rfl (Nat.le_of_ble_eq_true rfl) (by decide) (by decide) dX0_numberOfSource_34 ?_
        rintro v9 X2 S2 ⟨rfl, rfl, rfl⟩
        refine g_if_ne C 57 dX0_numberOfSource_37 (by decide) (fun h37 => ?_) (fun h37 => ?_)
        · refine g_iinc C (nI (i + 1)) 1 [(3, .int (nI (i + 1))), (4, .ref v), (2, .int sn), (0, .ref a), (1, .int kp)] dX0_numberOfSource_57 rfl (nI_1 i) (by decide) rfl ?_
          refine g_goto C 4 dX0_numberOfSource_60 (by decide) ?_
          refine g_locs (lv2 := [(3, .int (nI (i + 1))), (2, .int sn), (0, .ref a), (1, .int kp)]) [0, 2, 3, 4] rfl ?_
          exact ih (i + 1) sn (by omega) (by rw [if_neg (by rw [bI_1 h37]; decide)] at hF; exact hF)
        · refine g_iload_n C 2 dX0_numberOfSource_40 rfl rfl ?_
          refine g_iload_n C 4 dX0_numberOfSource_41 rfl rfl ?_
          refine g_icmp_ne C 54 dX0_numberOfSource_42 (by decide) (fun h42 => ?_) (fun h42 => ?_)
          · refine g_iinc C (sn + 1) 2 [(2, .int (sn + 1)), (4, .ref v), (3, .int (nI i)), (0, .ref a), (1, .int kp)] dX0_numberOfSource_54 rfl rfl (by decide) rfl ?_
            refine g_iinc C (nI (i + 1)) 2 [(3, .int (nI (i + 1))), (2, .int (sn + 1)), (4, .ref v), (0, .ref a), (1, .int kp)] dX0_numberOfSource_57 rfl (nI_1 i) (by decide) rfl ?_
            refine g_goto C 4 dX0_numberOfSource_60 (by decide) ?_
            refine g_locs (lv2 := [(3, .int (nI (i + 1))), (2, .int (sn + 1)), (0, .ref a), (1, .int kp)]) [0, 1, 3, 4] rfl ?_
            exact ih (i + 1) _ (by omega) (by rw [if_pos (by rw [bI_0 h37]; rfl), if_neg h42] at hF; exact hF)
          · refine g_aload C 0 dX0_numberOfSource_45 rfl ?_
            refine g_get (v := .ref (tg S v)) C 0 hs.1.1 (pF_1 hs.1.2) rfl (by decide) in_X1 lk_X0_73 rfl (congrArg (fun z => some (va_rf z)) hs.2.1) dX0_numberOfSource_47 ?_
            refine g_get C 0 hs.2.2.1 (pF_0 hs.2.2.2) rfl (by decide) in_X0 lk_X0_41 rfl rfl dX0_numberOfSource_50 ?_
            exact g_iret C hQ rfl rfl dX0_numberOfSource_53 (by decide) (by decide) ⟨sv (by rw [if_pos (by rw [bI_0 h37]; rfl), if_pos h42] at hF; exact hF.symm), rfl, rfl⟩
  exact loop vs.length 0 0 (by omega) rfl
