def upB (g : Nat → Bool) (t : Nat) (v : Bool) : Nat → Bool := fun k => if k = t then v else g k
/-- one pass over the stages -/
def ldP (F T : Nat → Nat) : Nat → Nat → (Nat → Bool) → (Nat → Bool)
  | 0, _, g => g
  | m + 1, s, g => ldP F T m (s + 1) (upB g (T s) (g (T s) || g (F s)))
def ldR (F T : Nat → Nat) (st : Nat) : Nat → (Nat → Bool) → (Nat → Bool)
  | 0, g => g
  | m + 1, g => ldR F T st m (ldP F T st 0 g)
/-- the stages that the reference has -/
def stgs (M : MM) (n st : Nat) (F T : Nat → Nat) : Prop := M 9 0 = nI st ∧ st ≤ 80 ∧ ∀ s, s < st → M 10 s = nI (F s) ∧ F s < n ∧ M 11 s = nI (T s) ∧ T s < n
theorem nar_bI (b : Bool) : narrow .boolean (.int (bI b)) = .int (bI b) := by cases b <;> rfl
/-- what a clear leaves -/
def mclr (M M2 : MM) : Prop := M2 0 0 = 0 ∧ M2 1 0 = 0 ∧ M2 7 0 = 0 ∧ M2 8 0 = 0 ∧ M2 9 0 = 0 ∧ M2 13 0 = 4 ∧ M2 14 0 = 0 ∧ M2 17 0 = 0 ∧ M2 18 0 = 0 ∧ ∀ j, j < 1600 → M2 5 j = 0 ∧ M2 6 j = 0
set_option maxRecDepth 100000 in
theorem c_mthrough (l : Launch) (E : Ev) (o : Nat) (a : Nat → Nat) (M : MM) (Y : va_W) (S : HS) {r : Nat} (hr : M 14 0 = nI r) (hr2 : r ≤ 20) (x : Int32) : Ctr l yX5_through (Cond.code yX5_through cX5_through 4 (some .int)) 1 0 0 E [.ref o, .int x] (mw E o a M ++ Y) S (PoM E o a Y S (fun v M2 => some (.int (thM (M 15) (M 16) x r 0 0)) = v ∧ M = M2)) := by
  refine Ctr.ofG (by decide) [(0, .ref o), (1, .int x)] rfl (Nat.le_of_ble_eq_true rfl) ?_
  intro p e s m args below meth c A Q C hQ
  refine g_iconst C 0 dX5_through_0 (by decide) ?_
  refine g_istore_n C [(2, .int 0), (0, .ref o), (1, .int x)] dX5_through_1 rfl (by decide) rfl ?_
  refine g_iconst C 0 dX5_through_2 (by decide) ?_
  refine g_istore_n C [(3, .int 0), (2, .int 0), (0, .ref o), (1, .int x)] dX5_through_3 rfl (by decide) rfl ?_
  have loop : ∀ (k9 i9 : Nat) (v9 : Int32), i9 + k9 = r → thM (M 15) (M 16) x k9 i9 v9 = thM (M 15) (M 16) x r 0 0 → GW p l e (rml 1 0 0) s m args below meth c E 4 A Q (mw E o a M ++ Y) S 0 0 4 [(3, .int (nI i9)), (2, .int v9), (0, .ref o), (1, .int x)] [] := by
    intro k9
    induction k9 with
    | zero =>
      intro i9 v9 hin hF
      refine g_iload_n C 0 dX5_through_4 rfl rfl ?_
      refine g_aload_n C 2 dX5_through_5 rfl rfl ?_
      refine mg_14 C lk_X5_98 dX5_through_6 ?_
      refine g_vi (nI r) (hr) ?_
      refine g_icmp_ge C 39 dX5_through_9 (by decide) (fun h9 => ?_) (fun h9 => ?_)
      · refine g_iload_n C 1 dX5_through_39 rfl rfl ?_
        exact g_iret C hQ rfl rfl dX5_through_40 (by decide) (by decide) ⟨rfl, M, rfl, sv hF.symm, rfl⟩
      · exact absurd (nI_le (show r ≤ i9 by omega) (by omega)) h9
    | succ k9 ih =>
      intro i9 v9 hin hF
      refine g_iload_n C 0 dX5_through_4 rfl rfl ?_
      refine g_aload_n C 2 dX5_through_5 rfl rfl ?_
      refine mg_14 C lk_X5_98 dX5_through_6 ?_
      refine g_vi (nI r) (hr) ?_
      refine g_icmp_ge C 39 dX5_through_9 (by decide) (fun h9 => ?_) (fun h9 => ?_)
      · exact absurd ((nI_leI (by omega) (by omega)).mp h9) (by omega)
      · refine g_aload_n C 2 dX5_through_12 rfl rfl ?_
        refine mg_15 C lk_X5_39 dX5_through_13 ?_
        refine g_iload_n C 0 dX5_through_16 rfl rfl ?_
        refine ml_15 C i9 rfl (by omega) dX5_through_17 ?_
        refine g_iload_n C 3 dX5_through_18 rfl rfl ?_
        refine g_icmp_gt C 31 dX5_through_19 (by decide) (fun h19 => ?_) (fun h19 => ?_)
        · refine g_iload_n C 1 dX5_through_31 rfl rfl ?_
          refine g_istore_n C [(2, .int v9), (3, .int (nI i9)), (0, .ref o), (1, .int x)] dX5_through_32 rfl (by decide) rfl ?_
          refine g_iinc C (nI (i9 + 1)) 1 [(3, .int (nI (i9 + 1))), (2, .int v9), (0, .ref o), (1, .int x)] dX5_through_33 rfl (nI_1 i9) (by decide) rfl ?_
          refine g_goto C 4 dX5_through_36 (by decide) ?_
          exact ih (i9 + 1) _ (by omega) (by rw [thM, if_pos h19] at hF; exact hF)
        · refine g_aload_n C 2 dX5_through_22 rfl rfl ?_
          refine mg_16 C lk_X5_42 dX5_through_23 ?_
          refine g_iload_n C 0 dX5_through_26 rfl rfl ?_
          refine ml_16 C i9 rfl (by omega) dX5_through_27 ?_
          refine g_goto C 32 dX5_through_28 (by decide) ?_
          refine g_istore_n C [(2, .int (M 16 i9)), (3, .int (nI i9)), (0, .ref o), (1, .int x)] dX5_through_32 rfl (by decide) rfl ?_
          refine g_iinc C (nI (i9 + 1)) 1 [(3, .int (nI (i9 + 1))), (2, .int (M 16 i9)), (0, .ref o), (1, .int x)] dX5_through_33 rfl (nI_1 i9) (by decide) rfl ?_
          refine g_goto C 4 dX5_through_36 (by decide) ?_
          exact ih (i9 + 1) _ (by omega) (by rw [thM, if_neg h19] at hF; exact hF)
  exact loop r 0 0 (by omega) rfl
set_option maxRecDepth 100000 in
theorem c_mclear (l : Launch) (E : Ev) (o : Nat) (a : Nat → Nat) (M : MM) (Y : va_W) (S : HS)  : Ctr l yX5_clear (Cond.code yX5_clear cX5_clear 2 none) 1 0 0 E [.ref o] (mw E o a M ++ Y) S (PoM E o a Y S (fun v M2 => none = v ∧ mclr M M2)) := by
  refine Ctr.ofG (by decide) [(0, .ref o)] rfl (Nat.le_of_ble_eq_true rfl) ?_
  intro p e s m args below meth c A Q C hQ
  refine g_aload_n C 0 dX5_clear_0 rfl rfl ?_
  refine g_iconst C 0 dX5_clear_1 (by decide) ?_
  refine mp_0 C lk_X5_69 dX5_clear_2 (fun M1 hM1 => ?_)
  refine g_aload_n C 0 dX5_clear_5 rfl rfl ?_
  refine g_iconst C 0 dX5_clear_6 (by decide) ?_
  refine mp_1 C lk_X5_72 dX5_clear_7 (fun M2 hM2 => ?_)
  refine g_aload_n C 0 dX5_clear_10 rfl rfl ?_
  refine g_iconst C 0 dX5_clear_11 (by decide) ?_
  refine mp_7 C lk_X5_84 dX5_clear_12 (fun M3 hM3 => ?_)
  refine g_aload_n C 0 dX5_clear_15 rfl rfl ?_
  refine g_iconst C 0 dX5_clear_16 (by decide) ?_
  refine mp_8 C lk_X5_87 dX5_clear_17 (fun M4 hM4 => ?_)
  refine g_aload_n C 0 dX5_clear_20 rfl rfl ?_
  refine g_iconst C 0 dX5_clear_21 (by decide) ?_
  refine mp_9 C lk_X5_90 dX5_clear_22 (fun M5 hM5 => ?_)
  refine g_aload_n C 0 dX5_clear_25 rfl rfl ?_
  refine g_iconst C 4 dX5_clear_26 (by decide) ?_
  refine mp_13 C lk_X5_35 dX5_clear_27 (fun M6 hM6 => ?_)
  refine g_aload_n C 0 dX5_clear_30 rfl rfl ?_
  refine g_iconst C 0 dX5_clear_31 (by decide) ?_
  refine mp_14 C lk_X5_98 dX5_clear_32 (fun M7 hM7 => ?_)
  refine g_aload_n C 0 dX5_clear_35 rfl rfl ?_
  refine g_iconst C 0 dX5_clear_36 (by decide) ?_
  refine mp_17 C lk_X5_120 dX5_clear_37 (fun M8 hM8 => ?_)
  refine g_aload_n C 0 dX5_clear_40 rfl rfl ?_
  refine g_iconst C 0 dX5_clear_41 (by decide) ?_
  refine mp_18 C lk_X5_114 dX5_clear_42 (fun M9 hM9 => ?_)
  refine g_iconst C 0 dX5_clear_45 (by decide) ?_
  refine g_istore_n C [(1, .int 0), (0, .ref o)] dX5_clear_46 rfl (by decide) rfl ?_
  have s0 : M9 0 0 = 0 := (congrFun ((((((((u2_row hM9 (by decide)).trans (u2_row hM8 (by decide))).trans (u2_row hM7 (by decide))).trans (u2_row hM6 (by decide))).trans (u2_row hM5 (by decide))).trans (u2_row hM4 (by decide))).trans (u2_row hM3 (by decide))).trans (u2_row hM2 (by decide))) 0).trans (u2_at hM1)
  have s1 : M9 1 0 = 0 := (congrFun (((((((u2_row hM9 (by decide)).trans (u2_row hM8 (by decide))).trans (u2_row hM7 (by decide))).trans (u2_row hM6 (by decide))).trans (u2_row hM5 (by decide))).trans (u2_row hM4 (by decide))).trans (u2_row hM3 (by decide))) 0).trans (u2_at hM2)
  have s7 : M9 7 0 = 0 := (congrFun ((((((u2_row hM9 (by decide)).trans (u2_row hM8 (by decide))).trans (u2_row hM7 (by decide))).trans (u2_row hM6 (by decide))).trans (u2_row hM5 (by decide))).trans (u2_row hM4 (by decide))) 0).trans (u2_at hM3)
  have s8 : M9 8 0 = 0 := (congrFun (((((u2_row hM9 (by decide)).trans (u2_row hM8 (by decide))).trans (u2_row hM7 (by decide))).trans (u2_row hM6 (by decide))).trans (u2_row hM5 (by decide))) 0).trans (u2_at hM4)
  have s9 : M9 9 0 = 0 := (congrFun ((((u2_row hM9 (by decide)).trans (u2_row hM8 (by decide))).trans (u2_row hM7 (by decide))).trans (u2_row hM6 (by decide))) 0).trans (u2_at hM5)
  have s13 : M9 13 0 = 4 := (congrFun (((u2_row hM9 (by decide)).trans (u2_row hM8 (by decide))).trans (u2_row hM7 (by decide))) 0).trans (u2_at hM6)
  have s14 : M9 14 0 = 0 := (congrFun ((u2_row hM9 (by decide)).trans (u2_row hM8 (by decide))) 0).trans (u2_at hM7)
  have s17 : M9 17 0 = 0 := (congrFun (u2_row hM9 (by decide)) 0).trans (u2_at hM8)
  have s18 : M9 18 0 = 0 := u2_at hM9
  have loop : ∀ (k9 i9 : Nat) (Mx : MM), i9 + k9 = 1600 → (∀ j, j < i9 → Mx 5 j = 0 ∧ Mx 6 j = 0) → (∀ k, k ≠ 5 → k ≠ 6 → Mx k = M9 k) → GW p l e (rml 1 0 0) s m args below meth c E 2 A Q (mw E o a Mx ++ Y) S 0 0 47 [(1, .int (nI i9)), (0, .ref o)] [] := by
    intro k9
    induction k9 with
    | zero =>
      intro i9 Mx hin hz hk
      refine g_iload_n C 0 dX5_clear_47 rfl rfl ?_
      refine g_sipush C 1600 dX5_clear_48 (by decide) ?_
      refine g_icmp_ge C 74 dX5_clear_51 (by decide) (fun h51 => ?_) (fun h51 => ?_)
      · exact g_vret C hQ rfl dX5_clear_74 (by decide) (by decide) ⟨rfl, Mx, rfl, rfl, by rw [hk 0 (by decide) (by decide)]; exact s0, by rw [hk 1 (by decide) (by decide)]; exact s1, by rw [hk 7 (by decide) (by decide)]; exact s7, by rw [hk 8 (by decide) (by decide)]; exact s8, by rw [hk 9 (by decide) (by decide)]; exact s9, by rw [hk 13 (by decide) (by decide)]; exact s13, by rw [hk 14 (by decide) (by decide)]; exact s14, by rw [hk 17 (by decide) (by decide)]; exact s17, by rw [hk 18 (by decide) (by decide)]; exact s18, fun j hj => hz j (by omega)⟩
      · exact absurd (nI_le (a := 1600) (show 1600 ≤ i9 by omega) (by omega)) h51
    | succ k9 ih =>
      intro i9 Mx hin hz hk
      refine g_iload_n C 0 dX5_clear_47 rfl rfl ?_
      refine g_sipush C 1600 dX5_clear_48 (by decide) ?_
      refine g_icmp_ge C 74 dX5_clear_51 (by decide) (fun h51 => ?_) (fun h51 => ?_)
      · exact absurd ((nI_leI (a := 1600) (by decide) (by omega)).mp h51) (by omega)
      · refine g_aload_n C 1 dX5_clear_54 rfl rfl ?_
        refine mg_5 C lk_X5_19 dX5_clear_55 ?_
        refine g_iload_n C 0 dX5_clear_58 rfl rfl ?_
        refine g_iconst C 0 dX5_clear_59 (by decide) ?_
        refine ms_5 C i9 rfl (by omega) dX5_clear_60 (fun M10 hM10 => ?_)
        refine g_aload_n C 1 dX5_clear_61 rfl rfl ?_
        refine mg_6 C lk_X5_22 dX5_clear_62 ?_
        refine g_iload_n C 0 dX5_clear_65 rfl rfl ?_
        refine g_iconst C 0 dX5_clear_66 (by decide) ?_
        refine ms_6 C i9 rfl (by omega) rfl dX5_clear_67 (fun M11 hM11 => ?_)
        refine g_iinc C (nI (i9 + 1)) 0 [(1, .int (nI (i9 + 1))), (0, .ref o)] dX5_clear_68 rfl (nI_1 i9) (by decide) rfl ?_
        refine g_goto C 47 dX5_clear_71 (by decide) ?_
        exact ih (i9 + 1) _ (by omega) (fun j hj => ⟨by
            rw [u2_row hM11 (by decide)]
            rcases Nat.lt_or_ge j i9 with q | q
            · rw [u2_off hM10 (by omega)]; exact (hz j q).1
            · rw [show j = i9 by omega]; exact u2_at hM10, by
            rcases Nat.lt_or_ge j i9 with q | q
            · rw [u2_off hM11 (by omega), u2_row hM10 (by decide)]; exact (hz j q).2
            · rw [show j = i9 by omega]; exact u2_at hM11⟩) (fun k h5 h6 => by rw [u2_row hM11 h6, u2_row hM10 h5]; exact hk k h5 h6)
  exact loop 1600 0 M9 (by omega) (fun j hj => absurd hj (by omega)) (fun k _ _ => rfl)
set_option maxRecDepth 100000 in
theorem c_mleads (l : Launch) (E : Ev) (o : Nat) (a : Nat → Nat) (M : MM) (Y : va_W) (S : HS) {n : Nat} (hn : M 1 0 = nI n) (h40 : n ≤ 40) {st : Nat} {F T : Nat → Nat} (hst : stgs M n st F T) {f t : Nat} (hf : f < n) (ht : t < n) : Ctr l yX5_leads (Cond.code yX5_leads cX5_leads 5 (some .boolean)) 1 0 0 E [.ref o, .int (nI f), .int (nI t)] (mw E o a M ++ Y) S (PoM E o a Y S (fun v M2 => some (.int (bI (ldR F T st n (fun k => decide (k = f)) t))) = v ∧ ∀ k, k ≠ 24 → M2 k = M k)) := by
  refine Ctr.ofG (by decide) [(0, .ref o), (1, .int (nI f)), (2, .int (nI t))] rfl (Nat.le_of_ble_eq_true rfl) ?_
  intro p e s m args below meth c A Q C hQ
  refine g_iconst C 0 dX5_leads_0 (by decide) ?_
  refine g_istore_n C [(3, .int 0), (0, .ref o), (1, .int (nI f)), (2, .int (nI t))] dX5_leads_1 rfl (by decide) rfl ?_
  have hst2 := hst.2.1
  have outer : ∀ (k9 i9 : Nat) (Mx : MM) (g0 : Nat → Bool), i9 + k9 = n → (∀ k, k < 40 → Mx 24 k = bI (g0 k)) → (∀ k, k ≠ 24 → Mx k = M k) → ldR F T st k9 g0 = ldR F T st n (fun k => decide (k = f)) → GW p l e (rml 1 0 0) s m args below meth c E 5 A Q (mw E o a Mx ++ Y) S 0 0 32 [(3, .int (nI i9)), (0, .ref o), (2, .int (nI t))] [] := by
    intro k9
    induction k9 with
    | zero =>
      intro i9 Mx g0 hin hg hk hR
      refine g_iload_n C 0 dX5_leads_32 rfl rfl ?_
      refine g_aload_n C 1 dX5_leads_33 rfl rfl ?_
      refine mg_1 C lk_X5_72 dX5_leads_34 ?_
      refine g_vi (nI n) ((congrFun (hk 1 (by decide)) 0).trans hn) ?_
      refine g_icmp_ge C 111 dX5_leads_37 (by decide) (fun h37 => ?_) (fun h37 => ?_)
      · refine g_aload_n C 1 dX5_leads_111 rfl rfl ?_
        refine mg_24 C lk_X5_60 dX5_leads_112 ?_
        refine g_iload_n C 2 dX5_leads_115 rfl rfl ?_
        refine ml_24 C t rfl (by omega) dX5_leads_116 ?_
        refine g_vi (bI (g0 t)) (hg t (by omega)) ?_
        exact g_iret C hQ rfl (nar_bI _) dX5_leads_117 (by decide) (by decide) ⟨rfl, Mx, rfl, sv (by rw [← hR]; rfl), hk⟩
      · exact absurd (nI_le (show n ≤ i9 by omega) (by omega)) h37
    | succ k9 ih =>
      intro i9 Mx g0 hin hg hk hR
      refine g_iload_n C 0 dX5_leads_32 rfl rfl ?_
      refine g_aload_n C 1 dX5_leads_33 rfl rfl ?_
      refine mg_1 C lk_X5_72 dX5_leads_34 ?_
      refine g_vi (nI n) ((congrFun (hk 1 (by decide)) 0).trans hn) ?_
      refine g_icmp_ge C 111 dX5_leads_37 (by decide) (fun h37 => ?_) (fun h37 => ?_)
      · exact absurd ((nI_leI (by omega) (by omega)).mp h37) (by omega)
      · refine g_iconst C 0 dX5_leads_40 (by decide) ?_
        refine g_istore C [(4, .int 0), (3, .int (nI i9)), (0, .ref o), (2, .int (nI t))] dX5_leads_41 (by decide) rfl ?_
        have inner : ∀ (k8 s9 : Nat) (Mx : MM) (g : Nat → Bool), s9 + k8 = st → (∀ k, k < 40 → Mx 24 k = bI (g k)) → (∀ k, k ≠ 24 → Mx k = M k) → ldP F T k8 s9 g = ldP F T st 0 g0 → GW p l e (rml 1 0 0) s m args below meth c E 5 A Q (mw E o a Mx ++ Y) S 0 0 43 [(4, .int (nI s9)), (3, .int (nI i9)), (0, .ref o), (2, .int (nI t))] [] := by
          intro k8
          induction k8 with
          | zero =>
            intro s9 Mx g hin2 hg hk hG
            refine g_iload C 0 dX5_leads_43 rfl ?_
            refine g_aload_n C 2 dX5_leads_45 rfl rfl ?_
            refine mg_9 C lk_X5_90 dX5_leads_46 ?_
            refine g_vi (nI st) ((congrFun (hk 9 (by decide)) 0).trans hst.1) ?_
            refine g_icmp_ge C 105 dX5_leads_49 (by decide) (fun h49 => ?_) (fun h49 => ?_)
            · refine g_iinc C (nI (i9 + 1)) 1 [(3, .int (nI (i9 + 1))), (4, .int (nI s9)), (0, .ref o), (2, .int (nI t))] dX5_leads_105 rfl (nI_1 i9) (by decide) rfl ?_
              refine g_goto C 32 dX5_leads_108 (by decide) ?_
              refine g_locs (lv2 := [(3, .int (nI (i9 + 1))), (0, .ref o), (2, .int (nI t))]) [0, 2, 3] rfl ?_
              exact ih (i9 + 1) _ _ (by omega) hg hk (by rw [← hR, ldR, ← hG]; rfl)
            · exact absurd (nI_le (show st ≤ s9 by omega) (by omega)) h49
          | succ k8 ih2 =>
            intro s9 Mx g hin2 hg hk hG
            refine g_iload C 0 dX5_leads_43 rfl ?_
            refine g_aload_n C 2 dX5_leads_45 rfl rfl ?_
            refine mg_9 C lk_X5_90 dX5_leads_46 ?_
            refine g_vi (nI st) ((congrFun (hk 9 (by decide)) 0).trans hst.1) ?_
            refine g_icmp_ge C 105 dX5_leads_49 (by decide) (fun h49 => ?_) (fun h49 => ?_)
            · exact absurd ((nI_leI (by omega) (by omega)).mp h49) (by omega)
            · refine g_aload_n C 2 dX5_leads_52 rfl rfl ?_
              refine mg_24 C lk_X5_60 dX5_leads_53 ?_
              refine g_aload_n C 2 dX5_leads_56 rfl rfl ?_
              refine mg_11 C lk_X5_29 dX5_leads_57 ?_
              refine g_iload C 0 dX5_leads_60 rfl ?_
              refine ml_11 C s9 rfl (by omega) dX5_leads_62 ?_
              refine g_vi (nI (T s9)) ((congrFun (hk 11 (by decide)) s9).trans (hst.2.2 s9 (by omega)).2.2.1) ?_
              refine g_aload_n C 2 dX5_leads_63 rfl rfl ?_
              refine mg_24 C lk_X5_60 dX5_leads_64 ?_
              refine g_aload_n C 2 dX5_leads_67 rfl rfl ?_
              refine mg_11 C lk_X5_29 dX5_leads_68 ?_
              refine g_iload C 0 dX5_leads_71 rfl ?_
              refine ml_11 C s9 rfl (by omega) dX5_leads_73 ?_
              refine g_vi (nI (T s9)) ((congrFun (hk 11 (by decide)) s9).trans (hst.2.2 s9 (by omega)).2.2.1) ?_
              refine ml_24 C (T s9) rfl (by have := hst.2.2 s9 (by omega); omega) dX5_leads_74 ?_
              refine g_vi (bI (g (T s9))) (hg (T s9) (by first | omega | (have := hst.2.2 s9 (by omega); omega))) ?_
              refine g_if_ne C 93 dX5_leads_75 (by decide) (fun h75 => ?_) (fun h75 => ?_)
              · refine g_iconst C 1 dX5_leads_93 (by decide) ?_
                refine g_goto C 98 dX5_leads_94 (by decide) ?_
                refine ms_24 C (T s9) rfl (by have := hst.2.2 s9 (by omega); omega) rfl dX5_leads_98 (fun M1 hM1 => ?_)
                refine g_iinc C (nI (s9 + 1)) 0 [(4, .int (nI (s9 + 1))), (3, .int (nI i9)), (0, .ref o), (2, .int (nI t))] dX5_leads_99 rfl (nI_1 s9) (by decide) rfl ?_
                refine g_goto C 43 dX5_leads_102 (by decide) ?_
                exact ih2 (s9 + 1) _ _ (by omega) (fun k hk2 => by
                    show _ = bI (if k = T s9 then _ else _)
                    by_cases q : k = T s9
                    · rw [if_pos q, q, u2_at hM1, show (g (T s9) || g (F s9)) = true from (by rw [bI_1 h75]; rfl)]; rfl
                    · rw [if_neg q, u2_off hM1 q]; exact hg k hk2) (fun k h24 => by rw [u2_row hM1 h24]; exact hk k h24) hG
              · refine g_aload_n C 2 dX5_leads_78 rfl rfl ?_
                refine mg_24 C lk_X5_60 dX5_leads_79 ?_
                refine g_aload_n C 2 dX5_leads_82 rfl rfl ?_
                refine mg_10 C lk_X5_26 dX5_leads_83 ?_
                refine g_iload C 0 dX5_leads_86 rfl ?_
                refine ml_10 C s9 rfl (by omega) dX5_leads_88 ?_
                refine g_vi (nI (F s9)) ((congrFun (hk 10 (by decide)) s9).trans (hst.2.2 s9 (by omega)).1) ?_
                refine ml_24 C (F s9) rfl (by have := hst.2.2 s9 (by omega); omega) dX5_leads_89 ?_
                refine g_vi (bI (g (F s9))) (hg (F s9) (by first | omega | (have := hst.2.2 s9 (by omega); omega))) ?_
                refine g_if_eq C 97 dX5_leads_90 (by decide) (fun h90 => ?_) (fun h90 => ?_)
                · refine g_iconst C 0 dX5_leads_97 (by decide) ?_
                  refine ms_24 C (T s9) rfl (by have := hst.2.2 s9 (by omega); omega) rfl dX5_leads_98 (fun M1 hM1 => ?_)
                  refine g_iinc C (nI (s9 + 1)) 0 [(4, .int (nI (s9 + 1))), (3, .int (nI i9)), (0, .ref o), (2, .int (nI t))] dX5_leads_99 rfl (nI_1 s9) (by decide) rfl ?_
                  refine g_goto C 43 dX5_leads_102 (by decide) ?_
                  exact ih2 (s9 + 1) _ _ (by omega) (fun k hk2 => by
                      show _ = bI (if k = T s9 then _ else _)
                      by_cases q : k = T s9
                      · rw [if_pos q, q, u2_at hM1, show (g (T s9) || g (F s9)) = false from (by rw [bI_0 h75, bI_0 h90]; rfl)]; rfl
                      · rw [if_neg q, u2_off hM1 q]; exact hg k hk2) (fun k h24 => by rw [u2_row hM1 h24]; exact hk k h24) hG
                · refine g_iconst C 1 dX5_leads_93 (by decide) ?_
                  refine g_goto C 98 dX5_leads_94 (by decide) ?_
                  refine ms_24 C (T s9) rfl (by have := hst.2.2 s9 (by omega); omega) rfl dX5_leads_98 (fun M1 hM1 => ?_)
                  refine g_iinc C (nI (s9 + 1)) 0 [(4, .int (nI (s9 + 1))), (3, .int (nI i9)), (0, .ref o), (2, .int (nI t))] dX5_leads_99 rfl (nI_1 s9) (by decide) rfl ?_
                  refine g_goto C 43 dX5_leads_102 (by decide) ?_
                  exact ih2 (s9 + 1) _ _ (by omega) (fun k hk2 => by
                      show _ = bI (if k = T s9 then _ else _)
                      by_cases q : k = T s9
                      · rw [if_pos q, q, u2_at hM1, show (g (T s9) || g (F s9)) = true from (by rw [bI_0 h75, bI_1 h90]; rfl)]; rfl
                      · rw [if_neg q, u2_off hM1 q]; exact hg k hk2) (fun k h24 => by rw [u2_row hM1 h24]; exact hk k h24) hG
        exact inner st 0 _ _ (by omega) hg hk rfl
  have loop : ∀ (k9 i9 : Nat) (Mx : MM), i9 + k9 = 40 → (∀ k, k < i9 → Mx 24 k = bI (decide (k = f))) → (∀ k, k ≠ 24 → Mx k = M k) → GW p l e (rml 1 0 0) s m args below meth c E 5 A Q (mw E o a Mx ++ Y) S 0 0 2 [(3, .int (nI i9)), (0, .ref o), (1, .int (nI f)), (2, .int (nI t))] [] := by
    intro k9
    induction k9 with
    | zero =>
      intro i9 Mx hin hg hk
      refine g_iload_n C 0 dX5_leads_2 rfl rfl ?_
      refine g_bipush C 40 dX5_leads_3 (by decide) ?_
      refine g_icmp_ge C 30 dX5_leads_5 (by decide) (fun h5 => ?_) (fun h5 => ?_)
      · refine g_iconst C 0 dX5_leads_30 (by decide) ?_
        refine g_istore_n C [(3, .int 0), (0, .ref o), (1, .int (nI f)), (2, .int (nI t))] dX5_leads_31 rfl (by decide) rfl ?_
        refine g_locs (lv2 := [(3, .int 0), (0, .ref o), (2, .int (nI t))]) [0, 1, 3] rfl ?_
        exact outer n 0 Mx _ (by omega) (fun k hk2 => hg k (by omega)) hk rfl
      · exact absurd (nI_le (a := 40) (show 40 ≤ i9 by omega) (by omega)) h5
    | succ k9 ih =>
      intro i9 Mx hin hg hk
      refine g_iload_n C 0 dX5_leads_2 rfl rfl ?_
      refine g_bipush C 40 dX5_leads_3 (by decide) ?_
      refine g_icmp_ge C 30 dX5_leads_5 (by decide) (fun h5 => ?_) (fun h5 => ?_)
      · exact absurd ((nI_leI (a := 40) (by decide) (by omega)).mp h5) (by omega)
      · refine g_aload_n C 1 dX5_leads_8 rfl rfl ?_
        refine mg_24 C lk_X5_60 dX5_leads_9 ?_
        refine g_iload_n C 0 dX5_leads_12 rfl rfl ?_
        refine g_iload_n C 0 dX5_leads_13 rfl rfl ?_
        refine g_iload_n C 2 dX5_leads_14 rfl rfl ?_
        refine g_icmp_ne C 22 dX5_leads_15 (by decide) (fun h15 => ?_) (fun h15 => ?_)
        · refine g_iconst C 0 dX5_leads_22 (by decide) ?_
          refine ms_24 C i9 rfl (by omega) rfl dX5_leads_23 (fun M1 hM1 => ?_)
          refine g_iinc C (nI (i9 + 1)) 0 [(3, .int (nI (i9 + 1))), (0, .ref o), (1, .int (nI f)), (2, .int (nI t))] dX5_leads_24 rfl (nI_1 i9) (by decide) rfl ?_
          refine g_goto C 2 dX5_leads_27 (by decide) ?_
          exact ih (i9 + 1) _ (by omega) (fun k hk2 => by
              rcases Nat.lt_or_ge k i9 with q | q
              · rw [u2_off hM1 (by omega)]; exact hg k q
              · rw [show k = i9 by omega, u2_at hM1, decide_eq_false (fun q => h15 (congrArg nI q))]; rfl) (fun k h24 => by rw [u2_row hM1 h24]; exact hk k h24)
        · refine g_iconst C 1 dX5_leads_18 (by decide) ?_
          refine g_goto C 23 dX5_leads_19 (by decide) ?_
          refine ms_24 C i9 rfl (by omega) rfl dX5_leads_23 (fun M1 hM1 => ?_)
          refine g_iinc C (nI (i9 + 1)) 0 [(3, .int (nI (i9 + 1))), (0, .ref o), (1, .int (nI f)), (2, .int (nI t))] dX5_leads_24 rfl (nI_1 i9) (by decide) rfl ?_
          refine g_goto C 2 dX5_leads_27 (by decide) ?_
          exact ih (i9 + 1) _ (by omega) (fun k hk2 => by
              rcases Nat.lt_or_ge k i9 with q | q
              · rw [u2_off hM1 (by omega)]; exact hg k q
              · rw [show k = i9 by omega, u2_at hM1, decide_eq_true ((nI_eq (by omega) (by omega)).mp h15)]; rfl) (fun k h24 => by rw [u2_row hM1 h24]; exact hk k h24)
  exact loop 40 0 M (by omega) (fun k hk => absurd hk (by omega)) (fun k _ => rfl)
