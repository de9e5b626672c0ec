/-- one stage more, for net q: begin, end, whether a stage leads to it -/
def spJ (F T : Nat → Nat) (D B En : Nat → Int32) (q s : Nat) (r : Int32 × Int32 × Bool) : Int32 × Int32 × Bool :=
  if T s = q then ((if r.2.2 = false then B (F s) + D s else if r.1 ≤ B (F s) + D s then r.1 else B (F s) + D s), (if r.2.2 = false then En (F s) + D s else if En (F s) + D s ≤ r.2.1 then r.2.1 else En (F s) + D s), true) else r
theorem spJ_n {F T : Nat → Nat} {D B En : Nat → Int32} {q s : Nat} {r : Int32 × Int32 × Bool} (h : ¬ T s = q) : spJ F T D B En q s r = r := if_neg h
theorem spJ_0 {F T : Nat → Nat} {D B En : Nat → Int32} {q s : Nat} {b e : Int32} (h : T s = q) : spJ F T D B En q s (b, e, false) = (B (F s) + D s, En (F s) + D s, true) := by
  unfold spJ; rw [if_pos h]; rfl
theorem spJ_1 {F T : Nat → Nat} {D B En : Nat → Int32} {q s : Nat} {b e : Int32} (h : T s = q) : spJ F T D B En q s (b, e, true) = ((if b ≤ B (F s) + D s then b else B (F s) + D s), (if En (F s) + D s ≤ e then e else En (F s) + D s), true) := by
  unfold spJ; rw [if_pos h]; rfl
def spI (F T : Nat → Nat) (D B En : Nat → Int32) (q : Nat) : Nat → Nat → Int32 × Int32 × Bool → Int32 × Int32 × Bool
  | 0, _, r => r
  | m + 1, s, r => spI F T D B En q m (s + 1) (spJ F T D B En q s r)
/-- the span of net q anew -/
def spN (F T : Nat → Nat) (st : Nat) (D E0 L0 ad : Nat → Int32) (q : Nat) (p : (Nat → Int32) × (Nat → Int32)) : (Nat → Int32) × (Nat → Int32) :=
  (upd p.1 q (spI F T D p.1 p.2 q st 0 (E0 q, L0 q, false)).1, upd p.2 q ((spI F T D p.1 p.2 q st 0 (E0 q, L0 q, false)).2.1 + ad q))
def spP (F T : Nat → Nat) (st : Nat) (D E0 L0 ad : Nat → Int32) : Nat → Nat → (Nat → Int32) × (Nat → Int32) → (Nat → Int32) × (Nat → Int32)
  | 0, _, p => p
  | m + 1, q, p => spP F T st D E0 L0 ad m (q + 1) (spN F T st D E0 L0 ad q p)
def spR (F T : Nat → Nat) (st n : Nat) (D E0 L0 ad : Nat → Int32) : Nat → (Nat → Int32) × (Nat → Int32) → (Nat → Int32) × (Nat → Int32)
  | 0, p => p
  | m + 1, p => spR F T st n D E0 L0 ad m (spP F T st D E0 L0 ad n 0 p)
theorem u2_rowU {M M2 : MM} {k j : Nat} {v : Int32} (h : u2 M k j v = M2) : M2 k = upd (M k) j v := by rw [← h]; exact u2_upd
set_option maxRecDepth 100000 in
theorem c_mspans (l : Launch) (E : Ev) (o : Nat) (a : Nat → Nat) (M : MM) (Y : va_W) (S : HS) {n : Nat} (hn : M 1 0 = nI n) (h40 : n ≤ 40) {st : Nat} {F T : Nat → Nat} (hst : stgs M n st F T) : Ctr l yX5_spans (Cond.code yX5_spans cX5_spans 9 none) 1 0 0 E [.ref o] (mw E o a M ++ Y) S (PoM E o a Y S (fun v M2 => none = v ∧ M2 21 = (spR F T st n (M 12) (M 2) (M 3) (M 20) n (M 21, M 22)).1 ∧ M2 22 = (spR F T st n (M 12) (M 2) (M 3) (M 20) n (M 21, M 22)).2 ∧ ∀ k, k ≠ 21 → k ≠ 22 → M2 k = M k)) := by
  refine Ctr.ofG (by decide) [(0, .ref o)] rfl (Nat.le_of_ble_eq_true rfl) ?_
  intro p e s m args below meth c A Q C hQ
  refine g_iconst C 0 dX5_spans_0 (by decide) ?_
  refine g_istore_n C [(1, .int 0), (0, .ref o)] dX5_spans_1 rfl (by decide) rfl ?_
  have hst2 := hst.2.1
  have outer : ∀ (k9 : Nat) (i9 : Nat) (be0 en0 : Nat → Int32) (Mx : MM), i9 + k9 = n → Mx 21 = be0 → Mx 22 = en0 → (∀ k, k ≠ 21 → k ≠ 22 → Mx k = M k) → spR F T st n (M 12) (M 2) (M 3) (M 20) k9 (be0, en0) = spR F T st n (M 12) (M 2) (M 3) (M 20) n (M 21, M 22) → GW p l e (rml 1 0 0) s m args below meth c E 9 A Q (mw E o a Mx ++ Y) S 0 0 2 [(1, .int (nI i9)), (0, .ref o)] [] := by
    intro k9
    induction k9 with
    | zero =>
      intro i9 be0 en0 Mx hin hbe hen hk hR
      refine g_iload_n C 0 dX5_spans_2 rfl rfl ?_
      refine g_aload_n C 1 dX5_spans_3 rfl rfl ?_
      refine mg_1 C lk_X5_72 dX5_spans_4 ?_
      refine g_vi (nI n) ((congrFun (hk 1 (by decide) (by decide)) 0).trans hn) ?_
      refine g_icmp_ge C 187 dX5_spans_7 (by decide) (fun h7 => ?_) (fun h7 => ?_)
      · exact g_vret C hQ rfl dX5_spans_187 (by decide) (by decide) ⟨rfl, Mx, rfl, rfl, by rw [← hR]; exact hbe, by rw [← hR]; exact hen, hk⟩
      · exact absurd (nI_le (show n ≤ i9 by omega) (by omega)) h7
    | succ k9 ih =>
      intro i9 be0 en0 Mx hin hbe hen hk hR
      refine g_iload_n C 0 dX5_spans_2 rfl rfl ?_
      refine g_aload_n C 1 dX5_spans_3 rfl rfl ?_
      refine mg_1 C lk_X5_72 dX5_spans_4 ?_
      refine g_vi (nI n) ((congrFun (hk 1 (by decide) (by decide)) 0).trans hn) ?_
      refine g_icmp_ge C 187 dX5_spans_7 (by decide) (fun h7 => ?_) (fun h7 => ?_)
      · exact absurd ((nI_leI (by omega) (by omega)).mp h7) (by omega)
      · refine g_iconst C 0 dX5_spans_10 (by decide) ?_
        refine g_istore_n C [(2, .int 0), (1, .int (nI i9)), (0, .ref o)] dX5_spans_11 rfl (by decide) rfl ?_
        have middle : ∀ (k8 : Nat) (q9 : Nat) (be en : Nat → Int32) (Mx : MM), q9 + k8 = n → Mx 21 = be → Mx 22 = en → (∀ k, k ≠ 21 → k ≠ 22 → Mx k = M k) → spP F T st (M 12) (M 2) (M 3) (M 20) k8 q9 (be, en) = spP F T st (M 12) (M 2) (M 3) (M 20) n 0 (be0, en0) → GW p l e (rml 1 0 0) s m args below meth c E 9 A Q (mw E o a Mx ++ Y) S 0 0 12 [(2, .int (nI q9)), (1, .int (nI i9)), (0, .ref o)] [] := by
          intro k8
          induction k8 with
          | zero =>
            intro q9 be en Mx hin2 hbe hen hk hP
            refine g_iload_n C 0 dX5_spans_12 rfl rfl ?_
            refine g_aload_n C 2 dX5_spans_13 rfl rfl ?_
            refine mg_1 C lk_X5_72 dX5_spans_14 ?_
            refine g_vi (nI n) ((congrFun (hk 1 (by decide) (by decide)) 0).trans hn) ?_
            refine g_icmp_ge C 181 dX5_spans_17 (by decide) (fun h17 => ?_) (fun h17 => ?_)
            · refine g_iinc C (nI (i9 + 1)) 1 [(1, .int (nI (i9 + 1))), (2, .int (nI q9)), (0, .ref o)] dX5_spans_181 rfl (nI_1 i9) (by decide) rfl ?_
              refine g_goto C 2 dX5_spans_184 (by decide) ?_
              refine g_locs (lv2 := [(1, .int (nI (i9 + 1))), (0, .ref o)]) [0, 2] rfl ?_
              exact ih (i9 + 1) be en Mx (by omega) hbe hen hk (by rw [spR] at hR; rw [← hR, ← hP]; rfl)
            · exact absurd (nI_le (show n ≤ q9 by omega) (by omega)) h17
          | succ k8 mh =>
            intro q9 be en Mx hin2 hbe hen hk hP
            refine g_iload_n C 0 dX5_spans_12 rfl rfl ?_
            refine g_aload_n C 2 dX5_spans_13 rfl rfl ?_
            refine mg_1 C lk_X5_72 dX5_spans_14 ?_
            refine g_vi (nI n) ((congrFun (hk 1 (by decide) (by decide)) 0).trans hn) ?_
            refine g_icmp_ge C 181 dX5_spans_17 (by decide) (fun h17 => ?_) (fun h17 => ?_)
            · exact absurd ((nI_leI (by omega) (by omega)).mp h17) (by omega)
            · refine g_aload_n C 2 dX5_spans_20 rfl rfl ?_
              refine mg_2 C lk_X5_7 dX5_spans_21 ?_
              refine g_iload_n C 0 dX5_spans_24 rfl rfl ?_
              refine ml_2 C q9 rfl (by omega) dX5_spans_25 ?_
              refine g_vi (M 2 q9) (congrFun (hk 2 (by decide) (by decide)) q9) ?_
              refine g_istore_n C [(3, .int (M 2 q9)), (2, .int (nI q9)), (1, .int (nI i9)), (0, .ref o)] dX5_spans_26 rfl (by decide) rfl ?_
              refine g_aload_n C 3 dX5_spans_27 rfl rfl ?_
              refine mg_3 C lk_X5_13 dX5_spans_28 ?_
              refine g_iload_n C 1 dX5_spans_31 rfl rfl ?_
              refine ml_3 C q9 rfl (by omega) dX5_spans_32 ?_
              refine g_vi (M 3 q9) (congrFun (hk 3 (by decide) (by decide)) q9) ?_
              refine g_istore C [(4, .int (M 3 q9)), (3, .int (M 2 q9)), (2, .int (nI q9)), (1, .int (nI i9)), (0, .ref o)] dX5_spans_33 (by decide) rfl ?_
              refine g_iconst C 0 dX5_spans_35 (by decide) ?_
              refine g_istore C [(5, .int 0), (4, .int (M 3 q9)), (3, .int (M 2 q9)), (2, .int (nI q9)), (1, .int (nI i9)), (0, .ref o)] dX5_spans_36 (by decide) rfl ?_
              refine g_iconst C 0 dX5_spans_38 (by decide) ?_
              refine g_istore C [(6, .int 0), (5, .int 0), (4, .int (M 3 q9)), (3, .int (M 2 q9)), (2, .int (nI q9)), (1, .int (nI i9)), (0, .ref o)] dX5_spans_39 (by decide) rfl ?_
              have inner : ∀ (k7 : Nat) (s9 : Nat) (b9 e9 : Int32) (ld9 : Bool), s9 + k7 = st → spI F T (M 12) be en q9 k7 s9 (b9, e9, ld9) = spI F T (M 12) be en q9 st 0 (M 2 q9, M 3 q9, false) → GW p l e (rml 1 0 0) s m args below meth c E 9 A Q (mw E o a Mx ++ Y) S 0 0 41 [(6, .int (nI s9)), (5, .int (bI ld9)), (4, .int e9), (3, .int b9), (2, .int (nI q9)), (1, .int (nI i9)), (0, .ref o)] [] := by
                intro k7
                induction k7 with
                | zero =>
                  intro s9 b9 e9 ld9 hin3 hF
                  refine g_iload C 0 dX5_spans_41 rfl ?_
                  refine g_aload_n C 6 dX5_spans_43 rfl rfl ?_
                  refine mg_9 C lk_X5_90 dX5_spans_44 ?_
                  refine g_vi (nI st) ((congrFun (hk 9 (by decide) (by decide)) 0).trans hst.1) ?_
                  refine g_icmp_ge C 153 dX5_spans_47 (by decide) (fun h47 => ?_) (fun h47 => ?_)
                  · refine g_aload_n C 6 dX5_spans_153 rfl rfl ?_
                    refine mg_21 C lk_X5_51 dX5_spans_154 ?_
                    refine g_iload_n C 4 dX5_spans_157 rfl rfl ?_
                    refine g_iload_n C 3 dX5_spans_158 rfl rfl ?_
                    refine ms_21 C q9 rfl (by omega) dX5_spans_159 (fun M1 hM1 => ?_)
                    refine g_aload_n C 6 dX5_spans_160 rfl rfl ?_
                    refine mg_22 C lk_X5_54 dX5_spans_161 ?_
                    refine g_iload_n C 4 dX5_spans_164 rfl rfl ?_
                    refine g_iload C 2 dX5_spans_165 rfl ?_
                    refine g_aload_n C 6 dX5_spans_167 rfl rfl ?_
                    refine mg_20 C lk_X5_48 dX5_spans_168 ?_
                    refine g_iload_n C 4 dX5_spans_171 rfl rfl ?_
                    refine ml_20 C q9 rfl (by omega) dX5_spans_172 ?_
                    refine g_vi (M 20 q9) ((congrFun (u2_row hM1 (by decide)) q9).trans (congrFun (hk 20 (by decide) (by decide)) q9)) ?_
                    refine g_iadd C dX5_spans_173 ?_
                    refine ms_22 C q9 rfl (by omega) dX5_spans_174 (fun M2 hM2 => ?_)
                    refine g_iinc C (nI (q9 + 1)) 4 [(2, .int (nI (q9 + 1))), (6, .int (nI s9)), (5, .int (bI ld9)), (4, .int e9), (3, .int b9), (1, .int (nI i9)), (0, .ref o)] dX5_spans_175 rfl (nI_1 q9) (by decide) rfl ?_
                    refine g_goto C 12 dX5_spans_178 (by decide) ?_
                    refine g_locs (lv2 := [(2, .int (nI (q9 + 1))), (1, .int (nI i9)), (0, .ref o)]) [0, 5, 6] rfl ?_
                    have hF2 : (b9, e9, ld9) = spI F T (M 12) be en q9 st 0 (M 2 q9, M 3 q9, false) := hF
                    refine mh (q9 + 1) (upd be q9 b9) (upd en q9 (e9 + M 20 q9)) _ (by omega) ((u2_row hM2 (by decide)).trans ((u2_rowU hM1).trans (by rw [hbe]))) ((u2_rowU hM2).trans (by rw [u2_row hM1 (by decide), hen])) (fun k k1 k2 => by rw [u2_row hM2 k2, u2_row hM1 k1]; exact hk k k1 k2) ?_
                    rw [spP] at hP
                    rw [← hP]
                    unfold spN
                    rw [← hF2]
                  · exact absurd (nI_le (show st ≤ s9 by omega) (by omega)) h47
                | succ k7 sh =>
                  intro s9 b9 e9 ld9 hin3 hF
                  rw [spI] at hF
                  refine g_iload C 0 dX5_spans_41 rfl ?_
                  refine g_aload_n C 6 dX5_spans_43 rfl rfl ?_
                  refine mg_9 C lk_X5_90 dX5_spans_44 ?_
                  refine g_vi (nI st) ((congrFun (hk 9 (by decide) (by decide)) 0).trans hst.1) ?_
                  refine g_icmp_ge C 153 dX5_spans_47 (by decide) (fun h47 => ?_) (fun h47 => ?_)
                  · exact absurd ((nI_leI (by omega) (by omega)).mp h47) (by omega)
                  · refine g_aload_n C 6 dX5_spans_50 rfl rfl ?_
                    refine mg_11 C lk_X5_29 dX5_spans_51 ?_
                    refine g_iload C 0 dX5_spans_54 rfl ?_
                    refine ml_11 C s9 rfl (by omega) dX5_spans_56 ?_
                    refine g_vi (nI (T s9)) ((congrFun (hk 11 (by decide) (by decide)) s9).trans (hst.2.2 s9 (by omega)).2.2.1) ?_
                    refine g_iload_n C 4 dX5_spans_57 rfl rfl ?_
                    refine g_icmp_ne C 147 dX5_spans_58 (by decide) (fun h58 => ?_) (fun h58 => ?_)
                    · refine g_iinc C (nI (s9 + 1)) 0 [(6, .int (nI (s9 + 1))), (5, .int (bI ld9)), (4, .int e9), (3, .int b9), (2, .int (nI q9)), (1, .int (nI i9)), (0, .ref o)] dX5_spans_147 rfl (nI_1 s9) (by decide) rfl ?_
                      refine g_goto C 41 dX5_spans_150 (by decide) ?_
                      rw [spJ_n (fun q => h58 (congrArg nI q))] at hF
                      exact sh (s9 + 1) b9 e9 ld9 (by omega) hF
                    · have hT : T s9 = q9 := (nI_eq (by have := hst.2.2 s9 (by omega); omega) (by omega)).mp h58
                      refine g_aload_n C 6 dX5_spans_61 rfl rfl ?_
                      refine mg_21 C lk_X5_51 dX5_spans_62 ?_
                      refine g_aload_n C 6 dX5_spans_65 rfl rfl ?_
                      refine mg_10 C lk_X5_26 dX5_spans_66 ?_
                      refine g_iload C 0 dX5_spans_69 rfl ?_
                      refine ml_10 C s9 rfl (by omega) dX5_spans_71 ?_
                      refine g_vi (nI (F s9)) ((congrFun (hk 10 (by decide) (by decide)) s9).trans (hst.2.2 s9 (by omega)).1) ?_
                      refine ml_21 C (F s9) rfl (by have := hst.2.2 s9 (by omega); omega) dX5_spans_72 ?_
                      refine g_vi (be (F s9)) (congrFun hbe (F s9)) ?_
                      refine g_aload_n C 6 dX5_spans_73 rfl rfl ?_
                      refine mg_12 C lk_X5_32 dX5_spans_74 ?_
                      refine g_iload C 0 dX5_spans_77 rfl ?_
                      refine ml_12 C s9 rfl (by omega) dX5_spans_79 ?_
                      refine g_vi (M 12 s9) (congrFun (hk 12 (by decide) (by decide)) s9) ?_
                      refine g_iadd C dX5_spans_80 ?_
                      refine g_istore C [(7, .int ((be (F s9)) + (M 12 s9))), (6, .int (nI s9)), (5, .int (bI ld9)), (4, .int e9), (3, .int b9), (2, .int (nI q9)), (1, .int (nI i9)), (0, .ref o)] dX5_spans_81 (by decide) rfl ?_
                      refine g_aload_n C 7 dX5_spans_83 rfl rfl ?_
                      refine mg_22 C lk_X5_54 dX5_spans_84 ?_
                      refine g_aload_n C 7 dX5_spans_87 rfl rfl ?_
                      refine mg_10 C lk_X5_26 dX5_spans_88 ?_
                      refine g_iload C 1 dX5_spans_91 rfl ?_
                      refine ml_10 C s9 rfl (by omega) dX5_spans_93 ?_
                      refine g_vi (nI (F s9)) ((congrFun (hk 10 (by decide) (by decide)) s9).trans (hst.2.2 s9 (by omega)).1) ?_
                      refine ml_22 C (F s9) rfl (by have := hst.2.2 s9 (by omega); omega) dX5_spans_94 ?_
                      refine g_vi (en (F s9)) (congrFun hen (F s9)) ?_
                      refine g_aload_n C 7 dX5_spans_95 rfl rfl ?_
                      refine mg_12 C lk_X5_32 dX5_spans_96 ?_
                      refine g_iload C 1 dX5_spans_99 rfl ?_
                      refine ml_12 C s9 rfl (by omega) dX5_spans_101 ?_
                      refine g_vi (M 12 s9) (congrFun (hk 12 (by decide) (by decide)) s9) ?_
                      refine g_iadd C dX5_spans_102 ?_
                      refine g_istore C [(8, .int ((en (F s9)) + (M 12 s9))), (7, .int ((be (F s9)) + (M 12 s9))), (6, .int (nI s9)), (5, .int (bI ld9)), (4, .int e9), (3, .int b9), (2, .int (nI q9)), (1, .int (nI i9)), (0, .ref o)] dX5_spans_103 (by decide) rfl ?_
                      refine g_iload C 3 dX5_spans_105 rfl ?_
                      refine g_if_eq C 116 dX5_spans_107 (by decide) (fun h107 => ?_) (fun h107 => ?_)
                      · refine g_iload C 1 dX5_spans_116 rfl ?_
                        refine g_goto C 122 dX5_spans_118 (by decide) ?_
                        refine g_istore_n C [(3, .int ((be (F s9)) + (M 12 s9))), (8, .int ((en (F s9)) + (M 12 s9))), (7, .int ((be (F s9)) + (M 12 s9))), (6, .int (nI s9)), (5, .int (bI ld9)), (4, .int e9), (2, .int (nI q9)), (1, .int (nI i9)), (0, .ref o)] dX5_spans_122 rfl (by decide) rfl ?_
                        refine g_iload C 4 dX5_spans_123 rfl ?_
                        refine g_if_eq C 135 dX5_spans_125 (by decide) (fun h125 => ?_) (fun h125 => ?_)
                        · refine g_iload C 1 dX5_spans_135 rfl ?_
                          refine g_goto C 142 dX5_spans_137 (by decide) ?_
                          refine g_istore C [(4, .int ((en (F s9)) + (M 12 s9))), (3, .int ((be (F s9)) + (M 12 s9))), (8, .int ((en (F s9)) + (M 12 s9))), (7, .int ((be (F s9)) + (M 12 s9))), (6, .int (nI s9)), (5, .int (bI ld9)), (2, .int (nI q9)), (1, .int (nI i9)), (0, .ref o)] dX5_spans_142 (by decide) rfl ?_
                          refine g_iconst C 1 dX5_spans_144 (by decide) ?_
                          refine g_istore C [(5, .int 1), (4, .int ((en (F s9)) + (M 12 s9))), (3, .int ((be (F s9)) + (M 12 s9))), (8, .int ((en (F s9)) + (M 12 s9))), (7, .int ((be (F s9)) + (M 12 s9))), (6, .int (nI s9)), (2, .int (nI q9)), (1, .int (nI i9)), (0, .ref o)] dX5_spans_145 (by decide) rfl ?_
                          refine g_iinc C (nI (s9 + 1)) 5 [(6, .int (nI (s9 + 1))), (5, .int 1), (4, .int ((en (F s9)) + (M 12 s9))), (3, .int ((be (F s9)) + (M 12 s9))), (8, .int ((en (F s9)) + (M 12 s9))), (7, .int ((be (F s9)) + (M 12 s9))), (2, .int (nI q9)), (1, .int (nI i9)), (0, .ref o)] dX5_spans_147 rfl (nI_1 s9) (by decide) rfl ?_
                          refine g_goto C 41 dX5_spans_150 (by decide) ?_
                          refine g_locs (lv2 := [(6, .int (nI (s9 + 1))), (5, .int 1), (4, .int ((en (F s9)) + (M 12 s9))), (3, .int ((be (F s9)) + (M 12 s9))), (2, .int (nI q9)), (1, .int (nI i9)), (0, .ref o)]) [0, 1, 2, 3, 6, 7, 8] rfl ?_
                          rw [bI_0 h107, spJ_0 hT] at hF
                          exact sh (s9 + 1) _ _ true (by omega) hF
                        · refine g_iload C 1 dX5_spans_128 rfl ?_
                          refine g_iload C 5 dX5_spans_130 rfl ?_
                          refine g_icmp_le C 140 dX5_spans_132 (by decide) (fun h132 => ?_) (fun h132 => ?_)
                          · refine g_iload C 5 dX5_spans_140 rfl ?_
                            refine g_istore C [(4, .int e9), (3, .int ((be (F s9)) + (M 12 s9))), (8, .int ((en (F s9)) + (M 12 s9))), (7, .int ((be (F s9)) + (M 12 s9))), (6, .int (nI s9)), (5, .int (bI ld9)), (2, .int (nI q9)), (1, .int (nI i9)), (0, .ref o)] dX5_spans_142 (by decide) rfl ?_
                            refine g_iconst C 1 dX5_spans_144 (by decide) ?_
                            refine g_istore C [(5, .int 1), (4, .int e9), (3, .int ((be (F s9)) + (M 12 s9))), (8, .int ((en (F s9)) + (M 12 s9))), (7, .int ((be (F s9)) + (M 12 s9))), (6, .int (nI s9)), (2, .int (nI q9)), (1, .int (nI i9)), (0, .ref o)] dX5_spans_145 (by decide) rfl ?_
                            refine g_iinc C (nI (s9 + 1)) 5 [(6, .int (nI (s9 + 1))), (5, .int 1), (4, .int e9), (3, .int ((be (F s9)) + (M 12 s9))), (8, .int ((en (F s9)) + (M 12 s9))), (7, .int ((be (F s9)) + (M 12 s9))), (2, .int (nI q9)), (1, .int (nI i9)), (0, .ref o)] dX5_spans_147 rfl (nI_1 s9) (by decide) rfl ?_
                            refine g_goto C 41 dX5_spans_150 (by decide) ?_
                            exact absurd h107 h125
                          · refine g_iload C 1 dX5_spans_135 rfl ?_
                            refine g_goto C 142 dX5_spans_137 (by decide) ?_
                            refine g_istore C [(4, .int ((en (F s9)) + (M 12 s9))), (3, .int ((be (F s9)) + (M 12 s9))), (8, .int ((en (F s9)) + (M 12 s9))), (7, .int ((be (F s9)) + (M 12 s9))), (6, .int (nI s9)), (5, .int (bI ld9)), (2, .int (nI q9)), (1, .int (nI i9)), (0, .ref o)] dX5_spans_142 (by decide) rfl ?_
                            refine g_iconst C 1 dX5_spans_144 (by decide) ?_
                            refine g_istore C [(5, .int 1), (4, .int ((en (F s9)) + (M 12 s9))), (3, .int ((be (F s9)) + (M 12 s9))), (8, .int ((en (F s9)) + (M 12 s9))), (7, .int ((be (F s9)) + (M 12 s9))), (6, .int (nI s9)), (2, .int (nI q9)), (1, .int (nI i9)), (0, .ref o)] dX5_spans_145 (by decide) rfl ?_
                            refine g_iinc C (nI (s9 + 1)) 5 [(6, .int (nI (s9 + 1))), (5, .int 1), (4, .int ((en (F s9)) + (M 12 s9))), (3, .int ((be (F s9)) + (M 12 s9))), (8, .int ((en (F s9)) + (M 12 s9))), (7, .int ((be (F s9)) + (M 12 s9))), (2, .int (nI q9)), (1, .int (nI i9)), (0, .ref o)] dX5_spans_147 rfl (nI_1 s9) (by decide) rfl ?_
                            refine g_goto C 41 dX5_spans_150 (by decide) ?_
                            exact absurd h107 h125
                      · refine g_iload C 1 dX5_spans_110 rfl ?_
                        refine g_iload_n C 5 dX5_spans_112 rfl rfl ?_
                        refine g_icmp_ge C 121 dX5_spans_113 (by decide) (fun h113 => ?_) (fun h113 => ?_)
                        · refine g_iload_n C 5 dX5_spans_121 rfl rfl ?_
                          refine g_istore_n C [(3, .int b9), (8, .int ((en (F s9)) + (M 12 s9))), (7, .int ((be (F s9)) + (M 12 s9))), (6, .int (nI s9)), (5, .int (bI ld9)), (4, .int e9), (2, .int (nI q9)), (1, .int (nI i9)), (0, .ref o)] dX5_spans_122 rfl (by decide) rfl ?_
                          refine g_iload C 4 dX5_spans_123 rfl ?_
                          refine g_if_eq C 135 dX5_spans_125 (by decide) (fun h125 => ?_) (fun h125 => ?_)
                          · refine g_iload C 1 dX5_spans_135 rfl ?_
                            refine g_goto C 142 dX5_spans_137 (by decide) ?_
                            refine g_istore C [(4, .int ((en (F s9)) + (M 12 s9))), (3, .int b9), (8, .int ((en (F s9)) + (M 12 s9))), (7, .int ((be (F s9)) + (M 12 s9))), (6, .int (nI s9)), (5, .int (bI ld9)), (2, .int (nI q9)), (1, .int (nI i9)), (0, .ref o)] dX5_spans_142 (by decide) rfl ?_
                            refine g_iconst C 1 dX5_spans_144 (by decide) ?_
                            refine g_istore C [(5, .int 1), (4, .int ((en (F s9)) + (M 12 s9))), (3, .int b9), (8, .int ((en (F s9)) + (M 12 s9))), (7, .int ((be (F s9)) + (M 12 s9))), (6, .int (nI s9)), (2, .int (nI q9)), (1, .int (nI i9)), (0, .ref o)] dX5_spans_145 (by decide) rfl ?_
                            refine g_iinc C (nI (s9 + 1)) 5 [(6, .int (nI (s9 + 1))), (5, .int 1), (4, .int ((en (F s9)) + (M 12 s9))), (3, .int b9), (8, .int ((en (F s9)) + (M 12 s9))), (7, .int ((be (F s9)) + (M 12 s9))), (2, .int (nI q9)), (1, .int (nI i9)), (0, .ref o)] dX5_spans_147 rfl (nI_1 s9) (by decide) rfl ?_
                            refine g_goto C 41 dX5_spans_150 (by decide) ?_
                            exact absurd h125 h107
                          · refine g_iload C 1 dX5_spans_128 rfl ?_
                            refine g_iload C 5 dX5_spans_130 rfl ?_
                            refine g_icmp_le C 140 dX5_spans_132 (by decide) (fun h132 => ?_) (fun h132 => ?_)
                            · refine g_iload C 5 dX5_spans_140 rfl ?_
                              refine g_istore C [(4, .int e9), (3, .int b9), (8, .int ((en (F s9)) + (M 12 s9))), (7, .int ((be (F s9)) + (M 12 s9))), (6, .int (nI s9)), (5, .int (bI ld9)), (2, .int (nI q9)), (1, .int (nI i9)), (0, .ref o)] dX5_spans_142 (by decide) rfl ?_
                              refine g_iconst C 1 dX5_spans_144 (by decide) ?_
                              refine g_istore C [(5, .int 1), (4, .int e9), (3, .int b9), (8, .int ((en (F s9)) + (M 12 s9))), (7, .int ((be (F s9)) + (M 12 s9))), (6, .int (nI s9)), (2, .int (nI q9)), (1, .int (nI i9)), (0, .ref o)] dX5_spans_145 (by decide) rfl ?_
                              refine g_iinc C (nI (s9 + 1)) 5 [(6, .int (nI (s9 + 1))), (5, .int 1), (4, .int e9), (3, .int b9), (8, .int ((en (F s9)) + (M 12 s9))), (7, .int ((be (F s9)) + (M 12 s9))), (2, .int (nI q9)), (1, .int (nI i9)), (0, .ref o)] dX5_spans_147 rfl (nI_1 s9) (by decide) rfl ?_
                              refine g_goto C 41 dX5_spans_150 (by decide) ?_
                              refine g_locs (lv2 := [(6, .int (nI (s9 + 1))), (5, .int 1), (4, .int e9), (3, .int b9), (2, .int (nI q9)), (1, .int (nI i9)), (0, .ref o)]) [0, 1, 2, 3, 6, 7, 8] rfl ?_
                              rw [bI_1 h107, spJ_1 hT, if_pos h113, if_pos h132] at hF
                              exact sh (s9 + 1) _ _ true (by omega) hF
                            · refine g_iload C 1 dX5_spans_135 rfl ?_
                              refine g_goto C 142 dX5_spans_137 (by decide) ?_
                              refine g_istore C [(4, .int ((en (F s9)) + (M 12 s9))), (3, .int b9), (8, .int ((en (F s9)) + (M 12 s9))), (7, .int ((be (F s9)) + (M 12 s9))), (6, .int (nI s9)), (5, .int (bI ld9)), (2, .int (nI q9)), (1, .int (nI i9)), (0, .ref o)] dX5_spans_142 (by decide) rfl ?_
                              refine g_iconst C 1 dX5_spans_144 (by decide) ?_
                              refine g_istore C [(5, .int 1), (4, .int ((en (F s9)) + (M 12 s9))), (3, .int b9), (8, .int ((en (F s9)) + (M 12 s9))), (7, .int ((be (F s9)) + (M 12 s9))), (6, .int (nI s9)), (2, .int (nI q9)), (1, .int (nI i9)), (0, .ref o)] dX5_spans_145 (by decide) rfl ?_
                              refine g_iinc C (nI (s9 + 1)) 5 [(6, .int (nI (s9 + 1))), (5, .int 1), (4, .int ((en (F s9)) + (M 12 s9))), (3, .int b9), (8, .int ((en (F s9)) + (M 12 s9))), (7, .int ((be (F s9)) + (M 12 s9))), (2, .int (nI q9)), (1, .int (nI i9)), (0, .ref o)] dX5_spans_147 rfl (nI_1 s9) (by decide) rfl ?_
                              refine g_goto C 41 dX5_spans_150 (by decide) ?_
                              refine g_locs (lv2 := [(6, .int (nI (s9 + 1))), (5, .int 1), (4, .int ((en (F s9)) + (M 12 s9))), (3, .int b9), (2, .int (nI q9)), (1, .int (nI i9)), (0, .ref o)]) [0, 1, 2, 3, 6, 7, 8] rfl ?_
                              rw [bI_1 h107, spJ_1 hT, if_pos h113, if_neg h132] at hF
                              exact sh (s9 + 1) _ _ true (by omega) hF
                        · refine g_iload C 1 dX5_spans_116 rfl ?_
                          refine g_goto C 122 dX5_spans_118 (by decide) ?_
                          refine g_istore_n C [(3, .int ((be (F s9)) + (M 12 s9))), (8, .int ((en (F s9)) + (M 12 s9))), (7, .int ((be (F s9)) + (M 12 s9))), (6, .int (nI s9)), (5, .int (bI ld9)), (4, .int e9), (2, .int (nI q9)), (1, .int (nI i9)), (0, .ref o)] dX5_spans_122 rfl (by decide) rfl ?_
                          refine g_iload C 4 dX5_spans_123 rfl ?_
                          refine g_if_eq C 135 dX5_spans_125 (by decide) (fun h125 => ?_) (fun h125 => ?_)
                          · refine g_iload C 1 dX5_spans_135 rfl ?_
                            refine g_goto C 142 dX5_spans_137 (by decide) ?_
                            refine g_istore C [(4, .int ((en (F s9)) + (M 12 s9))), (3, .int ((be (F s9)) + (M 12 s9))), (8, .int ((en (F s9)) + (M 12 s9))), (7, .int ((be (F s9)) + (M 12 s9))), (6, .int (nI s9)), (5, .int (bI ld9)), (2, .int (nI q9)), (1, .int (nI i9)), (0, .ref o)] dX5_spans_142 (by decide) rfl ?_
                            refine g_iconst C 1 dX5_spans_144 (by decide) ?_
                            refine g_istore C [(5, .int 1), (4, .int ((en (F s9)) + (M 12 s9))), (3, .int ((be (F s9)) + (M 12 s9))), (8, .int ((en (F s9)) + (M 12 s9))), (7, .int ((be (F s9)) + (M 12 s9))), (6, .int (nI s9)), (2, .int (nI q9)), (1, .int (nI i9)), (0, .ref o)] dX5_spans_145 (by decide) rfl ?_
                            refine g_iinc C (nI (s9 + 1)) 5 [(6, .int (nI (s9 + 1))), (5, .int 1), (4, .int ((en (F s9)) + (M 12 s9))), (3, .int ((be (F s9)) + (M 12 s9))), (8, .int ((en (F s9)) + (M 12 s9))), (7, .int ((be (F s9)) + (M 12 s9))), (2, .int (nI q9)), (1, .int (nI i9)), (0, .ref o)] dX5_spans_147 rfl (nI_1 s9) (by decide) rfl ?_
                            refine g_goto C 41 dX5_spans_150 (by decide) ?_
                            exact absurd h125 h107
                          · refine g_iload C 1 dX5_spans_128 rfl ?_
                            refine g_iload C 5 dX5_spans_130 rfl ?_
                            refine g_icmp_le C 140 dX5_spans_132 (by decide) (fun h132 => ?_) (fun h132 => ?_)
                            · refine g_iload C 5 dX5_spans_140 rfl ?_
                              refine g_istore C [(4, .int e9), (3, .int ((be (F s9)) + (M 12 s9))), (8, .int ((en (F s9)) + (M 12 s9))), (7, .int ((be (F s9)) + (M 12 s9))), (6, .int (nI s9)), (5, .int (bI ld9)), (2, .int (nI q9)), (1, .int (nI i9)), (0, .ref o)] dX5_spans_142 (by decide) rfl ?_
                              refine g_iconst C 1 dX5_spans_144 (by decide) ?_
                              refine g_istore C [(5, .int 1), (4, .int e9), (3, .int ((be (F s9)) + (M 12 s9))), (8, .int ((en (F s9)) + (M 12 s9))), (7, .int ((be (F s9)) + (M 12 s9))), (6, .int (nI s9)), (2, .int (nI q9)), (1, .int (nI i9)), (0, .ref o)] dX5_spans_145 (by decide) rfl ?_
                              refine g_iinc C (nI (s9 + 1)) 5 [(6, .int (nI (s9 + 1))), (5, .int 1), (4, .int e9), (3, .int ((be (F s9)) + (M 12 s9))), (8, .int ((en (F s9)) + (M 12 s9))), (7, .int ((be (F s9)) + (M 12 s9))), (2, .int (nI q9)), (1, .int (nI i9)), (0, .ref o)] dX5_spans_147 rfl (nI_1 s9) (by decide) rfl ?_
                              refine g_goto C 41 dX5_spans_150 (by decide) ?_
                              refine g_locs (lv2 := [(6, .int (nI (s9 + 1))), (5, .int 1), (4, .int e9), (3, .int ((be (F s9)) + (M 12 s9))), (2, .int (nI q9)), (1, .int (nI i9)), (0, .ref o)]) [0, 1, 2, 3, 6, 7, 8] rfl ?_
                              rw [bI_1 h107, spJ_1 hT, if_neg h113, if_pos h132] at hF
                              exact sh (s9 + 1) _ _ true (by omega) hF
                            · refine g_iload C 1 dX5_spans_135 rfl ?_
                              refine g_goto C 142 dX5_spans_137 (by decide) ?_
                              refine g_istore C [(4, .int ((en (F s9)) + (M 12 s9))), (3, .int ((be (F s9)) + (M 12 s9))), (8, .int ((en (F s9)) + (M 12 s9))), (7, .int ((be (F s9)) + (M 12 s9))), (6, .int (nI s9)), (5, .int (bI ld9)), (2, .int (nI q9)), (1, .int (nI i9)), (0, .ref o)] dX5_spans_142 (by decide) rfl ?_
                              refine g_iconst C 1 dX5_spans_144 (by decide) ?_
                              refine g_istore C [(5, .int 1), (4, .int ((en (F s9)) + (M 12 s9))), (3, .int ((be (F s9)) + (M 12 s9))), (8, .int ((en (F s9)) + (M 12 s9))), (7, .int ((be (F s9)) + (M 12 s9))), (6, .int (nI s9)), (2, .int (nI q9)), (1, .int (nI i9)), (0, .ref o)] dX5_spans_145 (by decide) rfl ?_
                              refine g_iinc C (nI (s9 + 1)) 5 [(6, .int (nI (s9 + 1))), (5, .int 1), (4, .int ((en (F s9)) + (M 12 s9))), (3, .int ((be (F s9)) + (M 12 s9))), (8, .int ((en (F s9)) + (M 12 s9))), (7, .int ((be (F s9)) + (M 12 s9))), (2, .int (nI q9)), (1, .int (nI i9)), (0, .ref o)] dX5_spans_147 rfl (nI_1 s9) (by decide) rfl ?_
                              refine g_goto C 41 dX5_spans_150 (by decide) ?_
                              refine g_locs (lv2 := [(6, .int (nI (s9 + 1))), (5, .int 1), (4, .int ((en (F s9)) + (M 12 s9))), (3, .int ((be (F s9)) + (M 12 s9))), (2, .int (nI q9)), (1, .int (nI i9)), (0, .ref o)]) [0, 1, 2, 3, 6, 7, 8] rfl ?_
                              rw [bI_1 h107, spJ_1 hT, if_neg h113, if_neg h132] at hF
                              exact sh (s9 + 1) _ _ true (by omega) hF
              exact inner st 0 _ _ false (by omega) rfl
        exact middle n 0 be0 en0 Mx (by omega) hbe hen hk rfl
  exact outer n 0 (M 21) (M 22) M (by omega) rfl rfl (fun k _ _ => rfl) rfl
