abbrev RF : Type := Nat → Int32
def pre (i : Nat) (f g : RF) : RF := fun j => if j < i then f j else g j
theorem pre_upd {i : Nat} {f g : RF} : upd (pre i f g) i (f i) = pre (i + 1) f g := by
  funext j
  unfold upd pre
  by_cases h : j = i
  · subst h; simp
  · by_cases h2 : j < i
    · simp [h, h2, Nat.lt_succ_of_lt h2]
    · simp [h, h2, show ¬ j < i + 1 by omega]
theorem pre_0 {f g : RF} : pre 0 f g = g := by funext j; unfold pre; simp
theorem pre_lt {i j : Nat} {f g : RF} (h : j < i) : pre i f g j = f j := if_pos h
theorem pre_ge {i j : Nat} {f g : RF} (h : i ≤ j) : pre i f g j = g j := if_neg (by omega)
theorem cne {l : List Nat} {k s : Nat} (h : l.contains k = false) (hs : l.contains s = true) : k ≠ s := fun e => by subst e; rw [h] at hs; cases hs
def cM (M : MM) (be en : RF) : MM := fun k => if k = 21 then be else if k = 22 then en else M k
def sp (M : MM) (F T : Nat → Nat) (st n : Nat) (ad be en : RF) : RF × RF := spR F T st n (M 12) (M 2) (M 3) ad n (be, en)
noncomputable def nxF (M : MM) (n : Nat) (p : RF × RF) (q : Nat) : Int32 := mSum (cM M p.1 p.2) q n false
def chC (ad nx : RF) : Nat → Nat → Int32 → Int32
  | 0, _, c => c
  | k + 1, q, c => chC ad nx k (q + 1) (c + (if nx q = ad q then 0 else 1))
noncomputable def rdA (M : MM) (F T : Nat → Nat) (st n : Nat) (ad be en : RF) : RF := pre n (nxF M n (sp M F T st n ad be en)) ad
noncomputable def rdC (M : MM) (F T : Nat → Nat) (st n : Nat) (ad be en : RF) : Int32 := chC ad (nxF M n (sp M F T st n ad be en)) n 0 0
/-- so many rounds at most: added, begins, ends, changes, how many -/
noncomputable def rnM (M : MM) (F T : Nat → Nat) (st n : Nat) : Nat → Nat → RF → RF → RF → RF → RF × RF × RF × RF × Nat
  | 0, rd, ad, be, en, cg => (ad, be, en, cg, rd)
  | k + 1, rd, ad, be, en, cg => if rdC M F T st n ad be en = 0 then (rdA M F T st n ad be en, (sp M F T st n ad be en).1, (sp M F T st n ad be en).2, upd cg rd (rdC M F T st n ad be en), rd + 1) else rnM M F T st n k (rd + 1) (rdA M F T st n ad be en) (sp M F T st n ad be en).1 (sp M F T st n ad be en).2 (upd cg rd (rdC M F T st n ad be en))
noncomputable def rn0 (M : MM) (F T : Nat → Nat) (st n rr : Nat) (wd : Bool) : RF × RF × RF × RF × Nat := rnM M F T st n rr 0 (pre n (fun j => if wd = true then mSum M j n true else 0) (M 20)) (pre n (fun _ => 0) (M 21)) (pre n (fun _ => 0) (M 22)) (M 19)
/-- what a run leaves -/
def mran (M M2 : MM) (F T : Nat → Nat) (st n : Nat) (R : RF × RF × RF × RF × Nat) : Prop := M2 0 0 = 0 ∧ M2 17 0 = nI n ∧ M2 18 0 = nI R.2.2.2.2 ∧ M2 19 = R.2.2.2.1 ∧ M2 20 = R.1 ∧ M2 21 = (sp M F T st n R.1 R.2.1 R.2.2.1).1 ∧ M2 22 = (sp M F T st n R.1 R.2.1 R.2.2.1).2 ∧ ∀ k, [0, 17, 18, 19, 20, 21, 22, 23, 25].contains k = false → M2 k = M k
set_option maxRecDepth 100000 in
theorem c_mrun (l : Launch) (E : Ev) (o : Nat) (a : Nat → Nat) (M : MM) (Y : va_W) (S : HS) {n : Nat} (hn : M 1 0 = nI n) (h40 : n ≤ 40) {st : Nat} {F T : Nat → Nat} (hst : stgs M n st F T) {rr : Nat} (hr1 : 1 ≤ rr) (hr50 : rr ≤ 50) (wd : Bool) : Ctr l yX5_run (Cond.code yX5_run cX5_run 6 (some .int)) 4 0 0 E [.ref o, .int (nI rr), .int (bI wd)] (mw E o a M ++ Y) S (PoM E o a Y S (fun v M2 => some (.int (nI (rn0 M F T st n rr wd).2.2.2.2)) = v ∧ mran M M2 F T st n (rn0 M F T st n rr wd))) := by
  refine Ctr.ofG (by decide) [(0, .ref o), (1, .int (nI rr)), (2, .int (bI wd))] rfl (Nat.le_of_ble_eq_true rfl) ?_
  intro p e s m args below meth c A Q C hQ
  refine g_aload_n C 0 dX5_run_0 rfl rfl ?_
  refine g_iload_n C 1 dX5_run_1 rfl rfl ?_
  refine g_iconst C 1 dX5_run_2 (by decide) ?_
  refine g_bipush C 50 dX5_run_3 (by decide) ?_
  refine g_callS C [.int (nI rr), .int 1, .int 50] [.ref o] (c_mwithin l E (mw E o a M ++ Y) S (nI rr) 1 50) cm_X5_within wst_X5_76 dt_X5_within rfl rfl (Nat.le_of_ble_eq_true rfl) (by decide) (by decide) dX5_run_5 ?_
  rintro v9 X2 S2 ⟨rfl, rfl, rfl⟩
  rw [show wi (nI rr) 1 50 = true from wi_t (nI_nlt (b := 1) hr1 (by omega)) (nI_nlt (a := 50) hr50 (by decide))]
  refine g_if_eq C 15 dX5_run_8 (by decide) (fun h8 => ?_) (fun h8 => ?_)
  · exact absurd h8 (by decide)
  · refine g_iconst C 0 dX5_run_11 (by decide) ?_
    refine g_goto C 16 dX5_run_12 (by decide) ?_
    refine mp_0 C lk_X5_69 dX5_run_16 (fun M1 hM1 => ?_)
    refine g_aload_n C 0 dX5_run_19 rfl rfl ?_
    refine mg_0 C lk_X5_69 dX5_run_20 ?_
    refine g_vi 0 (u2_at hM1) ?_
    refine g_if_le C 28 dX5_run_23 (by decide) (fun h23 => ?_) (fun h23 => ?_)
    · refine g_iconst C 0 dX5_run_28 (by decide) ?_
      refine g_istore_n C [(3, .int 0), (0, .ref o), (1, .int (nI rr)), (2, .int (bI wd))] dX5_run_29 rfl (by decide) rfl ?_
      have hst2 := hst.2.1
      obtain ⟨Fin, hFin⟩ : ∃ Fin, Fin = rn0 M F T st n rr wd := ⟨_, rfl⟩
      rw [← hFin] at hQ
      have rounds : ∀ (k9 : Nat) (rd : Nat) (ad be en cg : RF) (Mx : MM) (lst : Bool), rd + k9 = rr → Mx 0 0 = 0 → Mx 18 0 = nI rd → Mx 19 = cg → Mx 20 = ad → Mx 21 = be → Mx 22 = en → (∀ k, [0, 17, 18, 19, 20, 21, 22, 23, 25].contains k = false → Mx k = M k) → (lst = true → Fin = (ad, be, en, cg, rd)) → (lst = false → rnM M F T st n k9 rd ad be en cg = Fin) → GW p l e (rml 4 0 0) s m args below meth c E 6 A Q (mw E o a Mx ++ Y) S 0 0 85 [(3, .int (bI lst)), (0, .ref o), (1, .int (nI rr))] [] := by
        intro k9
        induction k9 with
        | zero =>
          intro rd ad be en cg Mx lst hin h0 hrd hcg had hbe hen hk hT hF
          refine g_aload_n C 1 dX5_run_85 rfl rfl ?_
          refine mg_18 C lk_X5_114 dX5_run_86 ?_
          refine g_vi (nI rd) (hrd) ?_
          refine g_iload_n C 2 dX5_run_89 rfl rfl ?_
          refine g_icmp_ge C 230 dX5_run_90 (by decide) (fun h90 => ?_) (fun h90 => ?_)
          · have hFe : Fin = (ad, be, en, cg, rd) := by
              first
              | exact hT rfl
              | exact (hF rfl).symm
              | (cases lst with | true => exact hT rfl | false => exact (hF rfl).symm)
            refine g_aload_n C 1 dX5_run_230 rfl rfl ?_
            refine g_callV C [] [] (c_mspans l E o a Mx Y S (n := n) ((congrFun (hk 1 rfl) 0).trans hn) h40 (stgs_cg (hk 9 rfl) (hk 10 rfl) (hk 11 rfl) hst)) ⟨0, mfs a Mx, rfl⟩ rfl cm_X5_spans wv_X5_117 ds_X5_spans rfl rfl (Nat.le_of_ble_eq_true rfl) (by decide) (by decide) dX5_run_231 ?_
            rintro v9 X2 S2 ⟨rfl, Ms, rfl, rfl, hs21, hs22, hks⟩
            rw [(hk 12 rfl), (hk 2 rfl), (hk 3 rfl), had, hbe, hen] at hs21 hs22
            replace hs21 : Ms 21 = (sp M F T st n ad be en).1 := hs21
            replace hs22 : Ms 22 = (sp M F T st n ad be en).2 := hs22
            refine g_aload_n C 1 dX5_run_234 rfl rfl ?_
            refine g_aload_n C 1 dX5_run_235 rfl rfl ?_
            refine mg_1 C lk_X5_72 dX5_run_236 ?_
            refine g_vi (nI n) ((congrFun (hks 1 (by decide) (by decide)) 0).trans ((congrFun (hk 1 rfl) 0).trans hn)) ?_
            refine mp_17 C lk_X5_120 dX5_run_239 (fun M2 hM2 => ?_)
            refine g_aload_n C 1 dX5_run_242 rfl rfl ?_
            refine mg_18 C lk_X5_114 dX5_run_243 ?_
            refine g_vi (nI rd) ((congrFun ((u2_row hM2 (by decide)).trans (hks 18 (by decide) (by decide))) 0).trans (hrd)) ?_
            exact g_iret C hQ rfl rfl dX5_run_246 (by decide) (by decide) ⟨rfl, M2, rfl, sv (by rw [hFe]), by rw [hFe]; exact ⟨by rw [u2_row hM2 (by decide), hks 0 (by decide) (by decide)]; exact h0, u2_at hM2, by rw [u2_row hM2 (by decide), hks 18 (by decide) (by decide)]; exact hrd, by rw [u2_row hM2 (by decide), hks 19 (by decide) (by decide)]; exact hcg, by rw [u2_row hM2 (by decide), hks 20 (by decide) (by decide)]; exact had, by rw [u2_row hM2 (by decide)]; exact hs21, by rw [u2_row hM2 (by decide)]; exact hs22, fun k hc => by rw [u2_row hM2 (cne hc rfl), hks k (cne hc rfl) (cne hc rfl)]; exact hk k hc⟩⟩
          · exact absurd (nI_le (show rr ≤ rd by omega) (by omega)) h90
        | succ k9 ih =>
          intro rd ad be en cg Mx lst hin h0 hrd hcg had hbe hen hk hT hF
          refine g_aload_n C 1 dX5_run_85 rfl rfl ?_
          refine mg_18 C lk_X5_114 dX5_run_86 ?_
          refine g_vi (nI rd) (hrd) ?_
          refine g_iload_n C 2 dX5_run_89 rfl rfl ?_
          refine g_icmp_ge C 230 dX5_run_90 (by decide) (fun h90 => ?_) (fun h90 => ?_)
          · have hFe : Fin = (ad, be, en, cg, rd) := by
              first
              | exact absurd ((nI_leI (by omega) (by omega)).mp h90) (by omega)
              | exact hT (bI_1 h94)
            refine g_aload_n C 1 dX5_run_230 rfl rfl ?_
            refine g_callV C [] [] (c_mspans l E o a Mx Y S (n := n) ((congrFun (hk 1 rfl) 0).trans hn) h40 (stgs_cg (hk 9 rfl) (hk 10 rfl) (hk 11 rfl) hst)) ⟨0, mfs a Mx, rfl⟩ rfl cm_X5_spans wv_X5_117 ds_X5_spans rfl rfl (Nat.le_of_ble_eq_true rfl) (by decide) (by decide) dX5_run_231 ?_
            rintro v9 X2 S2 ⟨rfl, Ms, rfl, rfl, hs21, hs22, hks⟩
            rw [(hk 12 rfl), (hk 2 rfl), (hk 3 rfl), had, hbe, hen] at hs21 hs22
            replace hs21 : Ms 21 = (sp M F T st n ad be en).1 := hs21
            replace hs22 : Ms 22 = (sp M F T st n ad be en).2 := hs22
            refine g_aload_n C 1 dX5_run_234 rfl rfl ?_
            refine g_aload_n C 1 dX5_run_235 rfl rfl ?_
            refine mg_1 C lk_X5_72 dX5_run_236 ?_
            refine g_vi (nI n) ((congrFun (hks 1 (by decide) (by decide)) 0).trans ((congrFun (hk 1 rfl) 0).trans hn)) ?_
            refine mp_17 C lk_X5_120 dX5_run_239 (fun M2 hM2 => ?_)
            refine g_aload_n C 1 dX5_run_242 rfl rfl ?_
            refine mg_18 C lk_X5_114 dX5_run_243 ?_
            refine g_vi (nI rd) ((congrFun ((u2_row hM2 (by decide)).trans (hks 18 (by decide) (by decide))) 0).trans (hrd)) ?_
            exact g_iret C hQ rfl rfl dX5_run_246 (by decide) (by decide) ⟨rfl, M2, rfl, sv (by rw [hFe]), by rw [hFe]; exact ⟨by rw [u2_row hM2 (by decide), hks 0 (by decide) (by decide)]; exact h0, u2_at hM2, by rw [u2_row hM2 (by decide), hks 18 (by decide) (by decide)]; exact hrd, by rw [u2_row hM2 (by decide), hks 19 (by decide) (by decide)]; exact hcg, by rw [u2_row hM2 (by decide), hks 20 (by decide) (by decide)]; exact had, by rw [u2_row hM2 (by decide)]; exact hs21, by rw [u2_row hM2 (by decide)]; exact hs22, fun k hc => by rw [u2_row hM2 (cne hc rfl), hks k (cne hc rfl) (cne hc rfl)]; exact hk k hc⟩⟩
          · refine g_iload_n C 0 dX5_run_93 rfl rfl ?_
            refine g_if_ne C 230 dX5_run_94 (by decide) (fun h94 => ?_) (fun h94 => ?_)
            · have hFe : Fin = (ad, be, en, cg, rd) := by
                first
                | exact absurd ((nI_leI (by omega) (by omega)).mp h90) (by omega)
                | exact hT (bI_1 h94)
              refine g_aload_n C 1 dX5_run_230 rfl rfl ?_
              refine g_callV C [] [] (c_mspans l E o a Mx Y S (n := n) ((congrFun (hk 1 rfl) 0).trans hn) h40 (stgs_cg (hk 9 rfl) (hk 10 rfl) (hk 11 rfl) hst)) ⟨0, mfs a Mx, rfl⟩ rfl cm_X5_spans wv_X5_117 ds_X5_spans rfl rfl (Nat.le_of_ble_eq_true rfl) (by decide) (by decide) dX5_run_231 ?_
              rintro v9 X2 S2 ⟨rfl, Ms, rfl, rfl, hs21, hs22, hks⟩
              rw [(hk 12 rfl), (hk 2 rfl), (hk 3 rfl), had, hbe, hen] at hs21 hs22
              replace hs21 : Ms 21 = (sp M F T st n ad be en).1 := hs21
              replace hs22 : Ms 22 = (sp M F T st n ad be en).2 := hs22
              refine g_aload_n C 1 dX5_run_234 rfl rfl ?_
              refine g_aload_n C 1 dX5_run_235 rfl rfl ?_
              refine mg_1 C lk_X5_72 dX5_run_236 ?_
              refine g_vi (nI n) ((congrFun (hks 1 (by decide) (by decide)) 0).trans ((congrFun (hk 1 rfl) 0).trans hn)) ?_
              refine mp_17 C lk_X5_120 dX5_run_239 (fun M2 hM2 => ?_)
              refine g_aload_n C 1 dX5_run_242 rfl rfl ?_
              refine mg_18 C lk_X5_114 dX5_run_243 ?_
              refine g_vi (nI rd) ((congrFun ((u2_row hM2 (by decide)).trans (hks 18 (by decide) (by decide))) 0).trans (hrd)) ?_
              exact g_iret C hQ rfl rfl dX5_run_246 (by decide) (by decide) ⟨rfl, M2, rfl, sv (by rw [hFe]), by rw [hFe]; exact ⟨by rw [u2_row hM2 (by decide), hks 0 (by decide) (by decide)]; exact h0, u2_at hM2, by rw [u2_row hM2 (by decide), hks 18 (by decide) (by decide)]; exact hrd, by rw [u2_row hM2 (by decide), hks 19 (by decide) (by decide)]; exact hcg, by rw [u2_row hM2 (by decide), hks 20 (by decide) (by decide)]; exact had, by rw [u2_row hM2 (by decide)]; exact hs21, by rw [u2_row hM2 (by decide)]; exact hs22, fun k hc => by rw [u2_row hM2 (cne hc rfl), hks k (cne hc rfl) (cne hc rfl)]; exact hk k hc⟩⟩
            · have hlst : lst = false := bI_0 h94
              refine g_aload_n C 1 dX5_run_97 rfl rfl ?_
              refine g_callV C [] [] (c_mspans l E o a Mx Y S (n := n) ((congrFun (hk 1 rfl) 0).trans hn) h40 (stgs_cg (hk 9 rfl) (hk 10 rfl) (hk 11 rfl) hst)) ⟨0, mfs a Mx, rfl⟩ rfl cm_X5_spans wv_X5_117 ds_X5_spans rfl rfl (Nat.le_of_ble_eq_true rfl) (by decide) (by decide) dX5_run_98 ?_
              rintro v9 X2 S2 ⟨rfl, Ms, rfl, rfl, hs21, hs22, hks⟩
              rw [(hk 12 rfl), (hk 2 rfl), (hk 3 rfl), had, hbe, hen] at hs21 hs22
              replace hs21 : Ms 21 = (sp M F T st n ad be en).1 := hs21
              replace hs22 : Ms 22 = (sp M F T st n ad be en).2 := hs22
              refine g_iconst C 0 dX5_run_101 (by decide) ?_
              refine g_istore C [(4, .int 0), (3, .int (bI lst)), (0, .ref o), (1, .int (nI rr))] dX5_run_102 (by decide) rfl ?_
              refine g_iconst C 0 dX5_run_104 (by decide) ?_
              refine g_istore C [(5, .int 0), (4, .int 0), (3, .int (bI lst)), (0, .ref o), (1, .int (nI rr))] dX5_run_105 (by decide) rfl ?_
              have nextl : ∀ (k8 : Nat) (q9 : Nat) (c9 : Int32) (My : MM), q9 + k8 = n → chC ad (nxF M n (sp M F T st n ad be en)) k8 q9 c9 = chC ad (nxF M n (sp M F T st n ad be en)) n 0 0 → (∀ j, j < q9 → My 23 j = (nxF M n (sp M F T st n ad be en)) j) → My 20 = ad → My 0 0 = 0 → My 18 0 = nI rd → My 19 = cg → My 21 = (sp M F T st n ad be en).1 → My 22 = (sp M F T st n ad be en).2 → (∀ k, [0, 17, 18, 19, 20, 21, 22, 23, 25].contains k = false → My k = M k) → GW p l e (rml 4 0 0) s m args below meth c E 6 A Q (mw E o a My ++ Y) S 0 0 107 [(5, .int (nI q9)), (4, .int c9), (0, .ref o), (1, .int (nI rr))] [] := by
                intro k8
                induction k8 with
                | zero =>
                  intro q9 c9 My hin2 hC y23 y20 y0 y18 y19 y21 y22 yk
                  refine g_iload C 0 dX5_run_107 rfl ?_
                  refine g_aload_n C 2 dX5_run_109 rfl rfl ?_
                  refine mg_1 C lk_X5_72 dX5_run_110 ?_
                  refine g_vi (nI n) ((congrFun (yk 1 rfl) 0).trans hn) ?_
                  refine g_icmp_ge C 163 dX5_run_113 (by decide) (fun h113 => ?_) (fun h113 => ?_)
                  · refine g_iconst C 0 dX5_run_163 (by decide) ?_
                    refine g_istore C [(5, .int 0), (4, .int c9), (0, .ref o), (1, .int (nI rr))] dX5_run_164 (by decide) rfl ?_
                    have hcn : c9 = rdC M F T st n ad be en := hC
                    have copy : ∀ (k7 : Nat) (q9 : Nat) (My : MM), q9 + k7 = n → (∀ j, j < n → My 23 j = (nxF M n (sp M F T st n ad be en)) j) → My 20 = pre q9 (nxF M n (sp M F T st n ad be en)) ad → My 0 0 = 0 → My 18 0 = nI rd → My 19 = cg → My 21 = (sp M F T st n ad be en).1 → My 22 = (sp M F T st n ad be en).2 → (∀ k, [0, 17, 18, 19, 20, 21, 22, 23, 25].contains k = false → My k = M k) → GW p l e (rml 4 0 0) s m args below meth c E 6 A Q (mw E o a My ++ Y) S 0 0 166 [(5, .int (nI q9)), (4, .int c9), (0, .ref o), (1, .int (nI rr))] [] := by
                      intro k7
                      induction k7 with
                      | zero =>
                        intro q9 My hin3 y23 y20 y0 y18 y19 y21 y22 yk
                        refine g_iload C 0 dX5_run_166 rfl ?_
                        refine g_aload_n C 2 dX5_run_168 rfl rfl ?_
                        refine mg_1 C lk_X5_72 dX5_run_169 ?_
                        refine g_vi (nI n) ((congrFun (yk 1 rfl) 0).trans hn) ?_
                        refine g_icmp_ge C 195 dX5_run_172 (by decide) (fun h172 => ?_) (fun h172 => ?_)
                        · refine g_aload_n C 2 dX5_run_195 rfl rfl ?_
                          refine mg_19 C lk_X5_45 dX5_run_196 ?_
                          refine g_aload_n C 2 dX5_run_199 rfl rfl ?_
                          refine mg_18 C lk_X5_114 dX5_run_200 ?_
                          refine g_vi (nI rd) (y18) ?_
                          refine g_iload C 1 dX5_run_203 rfl ?_
                          refine ms_19 C rd rfl (by omega) dX5_run_205 (fun M2 hM2 => ?_)
                          refine g_aload_n C 2 dX5_run_206 rfl rfl ?_
                          refine g_dup C dX5_run_207 rfl ?_
                          refine mg_18 C lk_X5_114 dX5_run_208 ?_
                          refine g_vi (nI rd) ((congrFun (u2_row hM2 (by decide)) 0).trans (y18)) ?_
                          refine g_iconst C 1 dX5_run_211 (by decide) ?_
                          refine g_iadd C dX5_run_212 ?_
                          refine mp_18 C lk_X5_114 dX5_run_213 (fun M3 hM3 => ?_)
                          refine g_iload C 1 dX5_run_216 rfl ?_
                          refine g_if_ne C 225 dX5_run_218 (by decide) (fun h218 => ?_) (fun h218 => ?_)
                          · refine g_iconst C 0 dX5_run_225 (by decide) ?_
                            refine g_istore_n C [(3, .int 0), (5, .int (nI q9)), (4, .int c9), (0, .ref o), (1, .int (nI rr))] dX5_run_226 rfl (by decide) rfl ?_
                            refine g_goto C 85 dX5_run_227 (by decide) ?_
                            refine g_locs (lv2 := [(3, .int 0), (0, .ref o), (1, .int (nI rr))]) [0, 3, 4] rfl ?_
                            have hR := hF hlst
                            rw [rnM, if_neg (fun q => h218 (hcn.trans q))] at hR
                            exact ih (rd + 1) (rdA M F T st n ad be en) (sp M F T st n ad be en).1 (sp M F T st n ad be en).2 (upd cg rd (rdC M F T st n ad be en)) M3 false (by omega) (by rw [u2_row hM3 (by decide), u2_row hM2 (by decide)]; exact y0) ((u2_at hM3).trans (nI_1 rd)) ((u2_row hM3 (by decide)).trans ((u2_rowU hM2).trans (by rw [y19, hcn]))) ((u2_row hM3 (by decide)).trans ((u2_row hM2 (by decide)).trans (y20.trans (by rw [show q9 = n by omega]; rfl)))) ((u2_row hM3 (by decide)).trans ((u2_row hM2 (by decide)).trans y21)) ((u2_row hM3 (by decide)).trans ((u2_row hM2 (by decide)).trans y22)) (fun k hc => by rw [u2_row hM3 (cne hc rfl), u2_row hM2 (cne hc rfl)]; exact yk k hc) (fun q => by cases q) (fun _ => hR)
                          · refine g_iconst C 1 dX5_run_221 (by decide) ?_
                            refine g_goto C 226 dX5_run_222 (by decide) ?_
                            refine g_istore_n C [(3, .int 1), (5, .int (nI q9)), (4, .int c9), (0, .ref o), (1, .int (nI rr))] dX5_run_226 rfl (by decide) rfl ?_
                            refine g_goto C 85 dX5_run_227 (by decide) ?_
                            refine g_locs (lv2 := [(3, .int 1), (0, .ref o), (1, .int (nI rr))]) [0, 3, 4] rfl ?_
                            have hR := hF hlst
                            rw [rnM, if_pos (hcn ▸ h218)] at hR
                            exact ih (rd + 1) (rdA M F T st n ad be en) (sp M F T st n ad be en).1 (sp M F T st n ad be en).2 (upd cg rd (rdC M F T st n ad be en)) M3 true (by omega) (by rw [u2_row hM3 (by decide), u2_row hM2 (by decide)]; exact y0) ((u2_at hM3).trans (nI_1 rd)) ((u2_row hM3 (by decide)).trans ((u2_rowU hM2).trans (by rw [y19, hcn]))) ((u2_row hM3 (by decide)).trans ((u2_row hM2 (by decide)).trans (y20.trans (by rw [show q9 = n by omega]; rfl)))) ((u2_row hM3 (by decide)).trans ((u2_row hM2 (by decide)).trans y21)) ((u2_row hM3 (by decide)).trans ((u2_row hM2 (by decide)).trans y22)) (fun k hc => by rw [u2_row hM3 (cne hc rfl), u2_row hM2 (cne hc rfl)]; exact yk k hc) (fun _ => hR.symm) (fun q => by cases q)
                        · exact absurd (nI_le (show n ≤ q9 by omega) (by omega)) h172
                      | succ k7 ch =>
                        intro q9 My hin3 y23 y20 y0 y18 y19 y21 y22 yk
                        refine g_iload C 0 dX5_run_166 rfl ?_
                        refine g_aload_n C 2 dX5_run_168 rfl rfl ?_
                        refine mg_1 C lk_X5_72 dX5_run_169 ?_
                        refine g_vi (nI n) ((congrFun (yk 1 rfl) 0).trans hn) ?_
                        refine g_icmp_ge C 195 dX5_run_172 (by decide) (fun h172 => ?_) (fun h172 => ?_)
                        · exact absurd ((nI_leI (by omega) (by omega)).mp h172) (by omega)
                        · refine g_aload_n C 2 dX5_run_175 rfl rfl ?_
                          refine mg_20 C lk_X5_48 dX5_run_176 ?_
                          refine g_iload C 0 dX5_run_179 rfl ?_
                          refine g_aload_n C 2 dX5_run_181 rfl rfl ?_
                          refine mg_23 C lk_X5_57 dX5_run_182 ?_
                          refine g_iload C 0 dX5_run_185 rfl ?_
                          refine ml_23 C q9 rfl (by omega) dX5_run_187 ?_
                          refine g_vi ((nxF M n (sp M F T st n ad be en)) q9) (y23 q9 (by omega)) ?_
                          refine ms_20 C q9 rfl (by omega) dX5_run_188 (fun M2 hM2 => ?_)
                          refine g_iinc C (nI (q9 + 1)) 0 [(5, .int (nI (q9 + 1))), (4, .int c9), (0, .ref o), (1, .int (nI rr))] dX5_run_189 rfl (nI_1 q9) (by decide) rfl ?_
                          refine g_goto C 166 dX5_run_192 (by decide) ?_
                          exact ch (q9 + 1) _ (by omega) (fun j hj => by rw [u2_row hM2 (by decide)]; exact y23 j hj) ((u2_rowU hM2).trans (by rw [y20]; exact pre_upd)) (by rw [u2_row hM2 (by decide)]; exact y0) (by rw [u2_row hM2 (by decide)]; exact y18) (by rw [u2_row hM2 (by decide)]; exact y19) (by rw [u2_row hM2 (by decide)]; exact y21) (by rw [u2_row hM2 (by decide)]; exact y22) (fun k hc => by rw [u2_row hM2 (cne hc rfl)]; exact yk k hc)
                    exact copy n 0 _ (by omega) (fun j hj => y23 j (by omega)) (y20.trans pre_0.symm) y0 y18 y19 y21 y22 yk
                  · exact absurd (nI_le (show n ≤ q9 by omega) (by omega)) h113
                | succ k8 nh =>
                  intro q9 c9 My hin2 hC y23 y20 y0 y18 y19 y21 y22 yk
                  refine g_iload C 0 dX5_run_107 rfl ?_
                  refine g_aload_n C 2 dX5_run_109 rfl rfl ?_
                  refine mg_1 C lk_X5_72 dX5_run_110 ?_
                  refine g_vi (nI n) ((congrFun (yk 1 rfl) 0).trans hn) ?_
                  refine g_icmp_ge C 163 dX5_run_113 (by decide) (fun h113 => ?_) (fun h113 => ?_)
                  · exact absurd ((nI_leI (by omega) (by omega)).mp h113) (by omega)
                  · refine g_aload_n C 2 dX5_run_116 rfl rfl ?_
                    refine mg_23 C lk_X5_57 dX5_run_117 ?_
                    refine g_iload C 0 dX5_run_120 rfl ?_
                    refine g_aload_n C 2 dX5_run_122 rfl rfl ?_
                    refine g_iload C 0 dX5_run_123 rfl ?_
                    refine g_iconst C 0 dX5_run_125 (by decide) ?_
                    rw [show (0 : Int32) = bI false from rfl]
                    refine g_callV C [.int (nI q9), .int (bI false)] [.int (nI q9), .ref (a 23)] (c_msum l E o a My Y S (n := n) (i := q9) ((congrFun (yk 1 rfl) 0).trans hn) h40 (by omega) false) ⟨0, mfs a My, rfl⟩ rfl cm_X5_sum wv_X5_111 ds_X5_sum rfl rfl (Nat.le_of_ble_eq_true rfl) (by decide) (by decide) dX5_run_126 ?_
                    rintro v9 X2 S2 ⟨rfl, Mg, rfl, rfl, hg⟩
                    rw [show mSum My q9 n false = (nxF M n (sp M F T st n ad be en)) q9 from mSum_cg (M := cM M (sp M F T st n ad be en).1 (sp M F T st n ad be en).2) (yk 4 rfl) (yk 5 rfl) (yk 6 rfl) (yk 13 rfl) (Or.inr ⟨y21, y22⟩)]
                    refine ms_23 C q9 rfl (by omega) dX5_run_129 (fun M2 hM2 => ?_)
                    refine g_iload C 1 dX5_run_130 rfl ?_
                    refine g_aload_n C 2 dX5_run_132 rfl rfl ?_
                    refine mg_23 C lk_X5_57 dX5_run_133 ?_
                    refine g_iload C 0 dX5_run_136 rfl ?_
                    refine ml_23 C q9 rfl (by omega) dX5_run_138 ?_
                    refine g_vi ((nxF M n (sp M F T st n ad be en)) q9) (u2_at hM2) ?_
                    refine g_aload_n C 2 dX5_run_139 rfl rfl ?_
                    refine mg_20 C lk_X5_48 dX5_run_140 ?_
                    refine g_iload C 0 dX5_run_143 rfl ?_
                    refine ml_20 C q9 rfl (by omega) dX5_run_145 ?_
                    refine g_vi (ad q9) ((congrFun ((u2_row hM2 (by decide)).trans (hg 20 (by decide))) q9).trans (congrFun y20 q9)) ?_
                    refine g_icmp_eq C 153 dX5_run_146 (by decide) (fun h146 => ?_) (fun h146 => ?_)
                    · refine g_iconst C 0 dX5_run_153 (by decide) ?_
                      refine g_iadd C dX5_run_154 ?_
                      refine g_istore C [(4, .int (c9 + 0)), (5, .int (nI q9)), (0, .ref o), (1, .int (nI rr))] dX5_run_155 (by decide) rfl ?_
                      refine g_iinc C (nI (q9 + 1)) 1 [(5, .int (nI (q9 + 1))), (4, .int (c9 + 0)), (0, .ref o), (1, .int (nI rr))] dX5_run_157 rfl (nI_1 q9) (by decide) rfl ?_
                      refine g_goto C 107 dX5_run_160 (by decide) ?_
                      refine nh (q9 + 1) _ _ (by omega) (by rw [chC, if_pos h146] at hC; exact hC) (fun j hj => by
                        rcases Nat.lt_or_ge j q9 with q | q
                        · rw [u2_off hM2 (by omega), hg 23 (by decide)]; exact y23 j q
                        · rw [show j = q9 by omega]; exact u2_at hM2) (by rw [u2_row hM2 (by decide), hg 20 (by decide)]; exact y20) (by rw [u2_row hM2 (by decide), hg 0 (by decide)]; exact y0) (by rw [u2_row hM2 (by decide), hg 18 (by decide)]; exact y18) (by rw [u2_row hM2 (by decide), hg 19 (by decide)]; exact y19) (by rw [u2_row hM2 (by decide), hg 21 (by decide)]; exact y21) (by rw [u2_row hM2 (by decide), hg 22 (by decide)]; exact y22) (fun k hc => by rw [u2_row hM2 (cne hc rfl), hg k (cne hc rfl)]; exact yk k hc)
                    · refine g_iconst C 1 dX5_run_149 (by decide) ?_
                      refine g_goto C 154 dX5_run_150 (by decide) ?_
                      refine g_iadd C dX5_run_154 ?_
                      refine g_istore C [(4, .int (c9 + 1)), (5, .int (nI q9)), (0, .ref o), (1, .int (nI rr))] dX5_run_155 (by decide) rfl ?_
                      refine g_iinc C (nI (q9 + 1)) 1 [(5, .int (nI (q9 + 1))), (4, .int (c9 + 1)), (0, .ref o), (1, .int (nI rr))] dX5_run_157 rfl (nI_1 q9) (by decide) rfl ?_
                      refine g_goto C 107 dX5_run_160 (by decide) ?_
                      refine nh (q9 + 1) _ _ (by omega) (by rw [chC, if_neg h146] at hC; exact hC) (fun j hj => by
                        rcases Nat.lt_or_ge j q9 with q | q
                        · rw [u2_off hM2 (by omega), hg 23 (by decide)]; exact y23 j q
                        · rw [show j = q9 by omega]; exact u2_at hM2) (by rw [u2_row hM2 (by decide), hg 20 (by decide)]; exact y20) (by rw [u2_row hM2 (by decide), hg 0 (by decide)]; exact y0) (by rw [u2_row hM2 (by decide), hg 18 (by decide)]; exact y18) (by rw [u2_row hM2 (by decide), hg 19 (by decide)]; exact y19) (by rw [u2_row hM2 (by decide), hg 21 (by decide)]; exact y21) (by rw [u2_row hM2 (by decide), hg 22 (by decide)]; exact y22) (fun k hc => by rw [u2_row hM2 (cne hc rfl), hg k (cne hc rfl)]; exact yk k hc)
              refine g_locs (lv2 := [(5, .int 0), (4, .int 0), (0, .ref o), (1, .int (nI rr))]) [0, 1, 3, 4] rfl ?_
              exact nextl n 0 0 Ms (by omega) rfl (fun j hj => absurd hj (by omega)) ((hks 20 (by decide) (by decide)).trans had) ((congrFun (hks 0 (by decide) (by decide)) 0).trans h0) ((congrFun (hks 18 (by decide) (by decide)) 0).trans hrd) ((hks 19 (by decide) (by decide)).trans hcg) hs21 hs22 (fun k hc => (hks k (cne hc rfl) (cne hc rfl)).trans (hk k hc))
      have first : ∀ (k9 : Nat) (i9 : Nat) (Mx : MM), i9 + k9 = n → Mx 0 0 = 0 → Mx 19 = M 19 → Mx 20 = pre i9 (fun j => if wd = true then mSum M j n true else 0) (M 20) → Mx 21 = pre i9 (fun _ => 0) (M 21) → Mx 22 = pre i9 (fun _ => 0) (M 22) → (∀ k, [0, 17, 18, 19, 20, 21, 22, 23, 25].contains k = false → Mx k = M k) → GW p l e (rml 4 0 0) s m args below meth c E 6 A Q (mw E o a Mx ++ Y) S 0 0 30 [(3, .int (nI i9)), (0, .ref o), (1, .int (nI rr)), (2, .int (bI wd))] [] := by
        intro k9
        induction k9 with
        | zero =>
          intro i9 Mx hin h0 h19 h20 h21 h22 hk
          refine g_iload_n C 0 dX5_run_30 rfl rfl ?_
          refine g_aload_n C 1 dX5_run_31 rfl rfl ?_
          refine mg_1 C lk_X5_72 dX5_run_32 ?_
          refine g_vi (nI n) ((congrFun (hk 1 rfl) 0).trans hn) ?_
          refine g_icmp_ge C 78 dX5_run_35 (by decide) (fun h35 => ?_) (fun h35 => ?_)
          · refine g_aload_n C 1 dX5_run_78 rfl rfl ?_
            refine g_iconst C 0 dX5_run_79 (by decide) ?_
            refine mp_18 C lk_X5_114 dX5_run_80 (fun M2 hM2 => ?_)
            refine g_iconst C 0 dX5_run_83 (by decide) ?_
            refine g_istore_n C [(3, .int 0), (0, .ref o), (1, .int (nI rr)), (2, .int (bI wd))] dX5_run_84 rfl (by decide) rfl ?_
            refine g_locs (lv2 := [(3, .int 0), (0, .ref o), (1, .int (nI rr))]) [0, 1, 2] rfl ?_
            exact rounds rr 0 _ _ _ _ _ false (by omega) (by rw [u2_row hM2 (by decide)]; exact h0) (u2_at hM2) ((u2_row hM2 (by decide)).trans h19) ((u2_row hM2 (by decide)).trans (h20.trans (by rw [show i9 = n by omega]))) ((u2_row hM2 (by decide)).trans (h21.trans (by rw [show i9 = n by omega]))) ((u2_row hM2 (by decide)).trans (h22.trans (by rw [show i9 = n by omega]))) (fun k hc => by rw [u2_row hM2 (cne hc rfl)]; exact hk k hc) (fun q => by cases q) (fun _ => hFin.symm)
          · exact absurd (nI_le (show n ≤ i9 by omega) (by omega)) h35
        | succ k9 ih =>
          intro i9 Mx hin h0 h19 h20 h21 h22 hk
          refine g_iload_n C 0 dX5_run_30 rfl rfl ?_
          refine g_aload_n C 1 dX5_run_31 rfl rfl ?_
          refine mg_1 C lk_X5_72 dX5_run_32 ?_
          refine g_vi (nI n) ((congrFun (hk 1 rfl) 0).trans hn) ?_
          refine g_icmp_ge C 78 dX5_run_35 (by decide) (fun h35 => ?_) (fun h35 => ?_)
          · exact absurd ((nI_leI (by omega) (by omega)).mp h35) (by omega)
          · refine g_aload_n C 1 dX5_run_38 rfl rfl ?_
            refine mg_20 C lk_X5_48 dX5_run_39 ?_
            refine g_iload_n C 0 dX5_run_42 rfl rfl ?_
            refine g_iload_n C 3 dX5_run_43 rfl rfl ?_
            refine g_if_eq C 56 dX5_run_44 (by decide) (fun h44 => ?_) (fun h44 => ?_)
            · refine g_iconst C 0 dX5_run_56 (by decide) ?_
              refine ms_20 C i9 rfl (by omega) dX5_run_57 (fun M2 hM2 => ?_)
              refine g_aload_n C 1 dX5_run_58 rfl rfl ?_
              refine mg_21 C lk_X5_51 dX5_run_59 ?_
              refine g_iload_n C 0 dX5_run_62 rfl rfl ?_
              refine g_iconst C 0 dX5_run_63 (by decide) ?_
              refine ms_21 C i9 rfl (by omega) dX5_run_64 (fun M3 hM3 => ?_)
              refine g_aload_n C 1 dX5_run_65 rfl rfl ?_
              refine mg_22 C lk_X5_54 dX5_run_66 ?_
              refine g_iload_n C 0 dX5_run_69 rfl rfl ?_
              refine g_iconst C 0 dX5_run_70 (by decide) ?_
              refine ms_22 C i9 rfl (by omega) dX5_run_71 (fun M4 hM4 => ?_)
              refine g_iinc C (nI (i9 + 1)) 0 [(3, .int (nI (i9 + 1))), (0, .ref o), (1, .int (nI rr)), (2, .int (bI wd))] dX5_run_72 rfl (nI_1 i9) (by decide) rfl ?_
              refine g_goto C 30 dX5_run_75 (by decide) ?_
              exact ih (i9 + 1) _ (by omega) ((congrFun ((((u2_row hM4 (by decide)).trans (u2_row hM3 (by decide))).trans (u2_row hM2 (by decide)))) 0).trans h0) (((((u2_row hM4 (by decide)).trans (u2_row hM3 (by decide))).trans (u2_row hM2 (by decide)))).trans h19) ((((u2_row hM4 (by decide)).trans (u2_row hM3 (by decide))).trans (u2_rowU hM2)).trans (by rw [h20, ← pre_upd, if_neg (by rw [bI_0 h44]; decide)])) ((((u2_row hM4 (by decide)).trans (u2_rowU hM3)).trans (by rw [u2_row hM2 (by decide), h21]; exact pre_upd))) (((u2_rowU hM4).trans (by rw [u2_row hM3 (by decide), u2_row hM2 (by decide), h22]; exact pre_upd))) (fun k hc => by rw [u2_row hM4 (cne hc rfl), u2_row hM3 (cne hc rfl), u2_row hM2 (cne hc rfl)]; exact hk k hc)
            · refine g_aload_n C 1 dX5_run_47 rfl rfl ?_
              refine g_iload_n C 0 dX5_run_48 rfl rfl ?_
              refine g_iconst C 1 dX5_run_49 (by decide) ?_
              rw [show (1 : Int32) = bI true from rfl]
              refine g_callV C [.int (nI i9), .int (bI true)] [.int (nI i9), .ref (a 20)] (c_msum l E o a Mx Y S (n := n) (i := i9) ((congrFun (hk 1 rfl) 0).trans hn) h40 (by omega) true) ⟨0, mfs a Mx, rfl⟩ rfl cm_X5_sum wv_X5_111 ds_X5_sum rfl rfl (Nat.le_of_ble_eq_true rfl) (by decide) (by decide) dX5_run_50 ?_
              rintro v9 X2 S2 ⟨rfl, Mg, rfl, rfl, hg⟩
              rw [mSum_cg (hk 4 rfl) (hk 5 rfl) (hk 6 rfl) (hk 13 rfl) (Or.inl rfl)]
              refine g_goto C 57 dX5_run_53 (by decide) ?_
              refine ms_20 C i9 rfl (by omega) dX5_run_57 (fun M2 hM2 => ?_)
              refine g_aload_n C 1 dX5_run_58 rfl rfl ?_
              refine mg_21 C lk_X5_51 dX5_run_59 ?_
              refine g_iload_n C 0 dX5_run_62 rfl rfl ?_
              refine g_iconst C 0 dX5_run_63 (by decide) ?_
              refine ms_21 C i9 rfl (by omega) dX5_run_64 (fun M3 hM3 => ?_)
              refine g_aload_n C 1 dX5_run_65 rfl rfl ?_
              refine mg_22 C lk_X5_54 dX5_run_66 ?_
              refine g_iload_n C 0 dX5_run_69 rfl rfl ?_
              refine g_iconst C 0 dX5_run_70 (by decide) ?_
              refine ms_22 C i9 rfl (by omega) dX5_run_71 (fun M4 hM4 => ?_)
              refine g_iinc C (nI (i9 + 1)) 0 [(3, .int (nI (i9 + 1))), (0, .ref o), (1, .int (nI rr)), (2, .int (bI wd))] dX5_run_72 rfl (nI_1 i9) (by decide) rfl ?_
              refine g_goto C 30 dX5_run_75 (by decide) ?_
              exact ih (i9 + 1) _ (by omega) ((congrFun ((((u2_row hM4 (by decide)).trans (u2_row hM3 (by decide))).trans (u2_row hM2 (by decide))).trans (hg 0 (by decide))) 0).trans h0) (((((u2_row hM4 (by decide)).trans (u2_row hM3 (by decide))).trans (u2_row hM2 (by decide))).trans (hg 19 (by decide))).trans h19) ((((u2_row hM4 (by decide)).trans (u2_row hM3 (by decide))).trans (u2_rowU hM2)).trans (by rw [hg 20 (by decide), h20, ← pre_upd, if_pos (bI_1 h44)])) ((((u2_row hM4 (by decide)).trans (u2_rowU hM3)).trans (by rw [u2_row hM2 (by decide), hg 21 (by decide), h21]; exact pre_upd))) (((u2_rowU hM4).trans (by rw [u2_row hM3 (by decide), u2_row hM2 (by decide), hg 22 (by decide), h22]; exact pre_upd))) (fun k hc => by rw [u2_row hM4 (cne hc rfl), u2_row hM3 (cne hc rfl), u2_row hM2 (cne hc rfl), hg k (cne hc rfl)]; exact hk k hc)
      exact first n 0 M1 (by omega) (u2_at hM1) (u2_row hM1 (by decide)) ((u2_row hM1 (by decide)).trans pre_0.symm) ((u2_row hM1 (by decide)).trans pre_0.symm) ((u2_row hM1 (by decide)).trans pre_0.symm) (fun k hc => u2_row hM1 (cne hc rfl))
    · exact absurd h23 (by decide)
set_option maxRecDepth 100000 in
theorem c_mrunB (l : Launch) (E : Ev) (o : Nat) (a : Nat → Nat) (M : MM) (Y : va_W) (S : HS) {v z : Int32} (hv : wi v 1 50 = false) : Ctr l yX5_run (Cond.code yX5_run cX5_run 6 (some .int)) 4 0 0 E [.ref o, .int v, .int z] (mw E o a M ++ Y) S (PoM E o a Y S (fun v2 M2 => some (.int 0) = v2 ∧ u2 M 0 0 1 = M2)) := by
  refine Ctr.ofG (by decide) [(0, .ref o), (1, .int v), (2, .int z)] rfl (Nat.le_of_ble_eq_true rfl) ?_
  intro p e s m args below meth c A Q C hQ
  refine g_aload_n C 0 dX5_run_0 rfl rfl ?_
  refine g_iload_n C 1 dX5_run_1 rfl rfl ?_
  refine g_iconst C 1 dX5_run_2 (by decide) ?_
  refine g_bipush C 50 dX5_run_3 (by decide) ?_
  refine g_callS C [.int v, .int 1, .int 50] [.ref o] (c_mwithin l E (mw E o a M ++ Y) S v 1 50) cm_X5_within wst_X5_76 dt_X5_within rfl rfl (Nat.le_of_ble_eq_true rfl) (by decide) (by decide) dX5_run_5 ?_
  rintro v9 X2 S2 ⟨rfl, rfl, rfl⟩
  rw [show wi v 1 50 = false from hv]
  refine g_if_eq C 15 dX5_run_8 (by decide) (fun h8 => ?_) (fun h8 => ?_)
  · refine g_iconst C 1 dX5_run_15 (by decide) ?_
    refine mp_0 C lk_X5_69 dX5_run_16 (fun M1 hM1 => ?_)
    refine g_aload_n C 0 dX5_run_19 rfl rfl ?_
    refine mg_0 C lk_X5_69 dX5_run_20 ?_
    refine g_vi 1 (u2_at hM1) ?_
    refine g_if_le C 28 dX5_run_23 (by decide) (fun h23 => ?_) (fun h23 => ?_)
    · exact absurd h23 (by decide)
    · refine g_iconst C 0 dX5_run_26 (by decide) ?_
      exact g_iret C hQ rfl rfl dX5_run_27 (by decide) (by decide) ⟨rfl, M1, rfl, rfl, hM1⟩
  · exact absurd h8 (by decide)
