theorem stM_iff {M : MM} {i p q : Nat} (hp : p < 2 ^ 31) (hq : q < 2 ^ 31) : stM M i p q = true ↔ ((M 5 (40 * i + q) * M 4 q).toInt < (M 5 (40 * i + p) * M 4 p).toInt ∨ ((M 5 (40 * i + p) * M 4 p).toInt = (M 5 (40 * i + q) * M 4 q).toInt ∧ ((M 5 (40 * i + q)).toInt < (M 5 (40 * i + p)).toInt ∨ ((M 5 (40 * i + p)).toInt = (M 5 (40 * i + q)).toInt ∧ p < q)))) := by
  unfold stM
  generalize M 5 (40 * i + p) * M 4 p = B1
  generalize M 5 (40 * i + q) * M 4 q = B2
  generalize M 5 (40 * i + p) = A1
  generalize M 5 (40 * i + q) = A2
  have e1 : nI q ≤ nI p ↔ q ≤ p := nI_leI hq hp
  have e2 : B1 ≤ B2 ↔ B1.toInt ≤ B2.toInt := Int32.le_iff_toInt_le
  have e3 : A1 ≤ A2 ↔ A1.toInt ≤ A2.toInt := Int32.le_iff_toInt_le
  have e4 : B1 = B2 ↔ B1.toInt = B2.toInt := Int32.toInt_inj.symm
  have e5 : A1 = A2 ↔ A1.toInt = A2.toInt := Int32.toInt_inj.symm
  by_cases h1 : B1 = B2
  · rw [if_pos h1]
    have h1' := e4.mp h1
    by_cases h2 : A1 = A2
    · rw [if_pos h2]
      have h2' := e5.mp h2
      rw [decide_eq_true_iff, e1]; omega
    · rw [if_neg h2]
      have h2' : ¬ A1.toInt = A2.toInt := fun z => h2 (e5.mpr z)
      rw [decide_eq_true_iff, e3]; omega
  · rw [if_neg h1]
    have h1' : ¬ B1.toInt = B2.toInt := fun z => h1 (e4.mpr z)
    rw [decide_eq_true_iff, e2]; omega
theorem stM_tot {M : MM} {i p q : Nat} (hp : p < 2 ^ 31) (hq : q < 2 ^ 31) (h : p ≠ q) (hn : stM M i p q = false) : stM M i q p = true := by
  have a : ¬ stM M i p q = true := by rw [hn]; decide
  rw [stM_iff hp hq] at a
  rw [stM_iff hq hp]; omega
theorem stM_tr {M : MM} {i p q r : Nat} (hp : p < 2 ^ 31) (hq : q < 2 ^ 31) (hr : r < 2 ^ 31) (h1 : stM M i p q = true) (h2 : stM M i q r = true) : stM M i p r = true := by
  rw [stM_iff hp hq] at h1
  rw [stM_iff hq hr] at h2
  rw [stM_iff hp hr]; omega
theorem stM_as {M : MM} {i p q : Nat} (hp : p < 2 ^ 31) (hq : q < 2 ^ 31) (h1 : stM M i p q = true) (h2 : stM M i q p = true) : False := by
  rw [stM_iff hp hq] at h1
  rw [stM_iff hq hp] at h2
  omega
theorem stM_cg {M M2 : MM} {i p q : Nat} (h5 : M2 5 = M 5) (h4 : M2 4 = M 4) : stM M2 i p q = stM M i p q := by unfold stM; rw [h5, h4]
theorem isS_cg {M M2 : MM} {i j : Nat} (h5 : M2 5 = M 5) (h6 : M2 6 = M 6) : isS M2 i j = isS M i j := by unfold isS; rw [h5, h6]
/-- is it a source of net i -/
def gp (M : MM) (i : Nat) (all : Bool) (o : Nat) : Bool := isS M i o && (all || (decide (¬ M 22 i < M 21 o) && decide (¬ M 22 o < M 21 i)))
/-- l is in the row of the sources -/
def inR (M : MM) (l : List Nat) : Prop := ∀ (k : Nat) (h : k < l.length), M 25 k = nI l[k]
/-- the sources of net i among the first n nets, the strongest first -/
def srcs (M : MM) (i n : Nat) (all : Bool) (l : List Nat) : Prop := l.Perm ((List.range n).filter (gp M i all)) ∧ l.Pairwise (fun p q => stM M i p q = true)
theorem srcs.len {M : MM} {i n : Nat} {all : Bool} {l : List Nat} (h : srcs M i n all l) : l.length ≤ n := by
  have e := h.1.length_eq
  have e2 := List.length_filter_le (gp M i all) (List.range n)
  rw [List.length_range] at e2
  omega
theorem srcs.lt {M : MM} {i n : Nat} {all : Bool} {l : List Nat} (h : srcs M i n all l) {q : Nat} (hq : q ∈ l) : q < n := List.mem_range.mp (List.mem_filter.mp (h.1.mem_iff.mp hq)).1
theorem srcs.skip {M : MM} {i n : Nat} {all : Bool} {l : List Nat} (h : srcs M i n all l) (hp : gp M i all n = false) : srcs M i (n + 1) all l := by
  refine ⟨?_, h.2⟩
  rw [List.range_succ, List.filter_append]
  simp only [List.filter_cons, hp, List.filter_nil]
  simpa using h.1
theorem srcs.ins {M : MM} {i n j : Nat} {all : Bool} {l : List Nat} (h : srcs M i n all l) (hn : n < 2 ^ 31) (hp : gp M i all n = true) (hj : j ≤ l.length) (hlo : ∀ (k : Nat) (hk : k < l.length), j ≤ k → stM M i n l[k] = true) (hhi : ∀ (h0 : 0 < j), stM M i n (l[j - 1]'(by omega)) = false) : srcs M i (n + 1) all (l.take j ++ n :: l.drop j) := by
  have hlt : ∀ q ∈ l, q < n := fun q hq => h.lt hq
  have hup : ∀ q ∈ l.take j, stM M i q n = true := by
    intro q hq
    obtain ⟨k, hk, e⟩ := List.getElem_of_mem hq
    rw [List.length_take] at hk
    rw [List.getElem_take] at e
    have h0 : 0 < j := by omega
    have hm : l[j - 1]'(by omega) ∈ l := List.getElem_mem _
    have t1 : stM M i (l[j - 1]'(by omega)) n = true := stM_tot hn (Nat.lt_trans (hlt _ hm) hn) (fun z => Nat.lt_irrefl n (z ▸ hlt _ hm)) (hhi h0)
    rcases Nat.lt_or_ge k (j - 1) with g | g
    · have t2 := (List.pairwise_iff_getElem.mp h.2) k (j - 1) (by omega) (by omega) g
      rw [← e]
      exact stM_tr (Nat.lt_trans (hlt _ (List.getElem_mem _)) hn) (Nat.lt_trans (hlt _ hm) hn) hn t2 t1
    · have ek : k = j - 1 := by omega
      subst ek
      rw [← e]; exact t1
  have hdn : ∀ q ∈ l.drop j, stM M i n q = true := by
    intro q hq
    obtain ⟨k, hk, e⟩ := List.getElem_of_mem hq
    rw [List.length_drop] at hk
    rw [List.getElem_drop] at e
    rw [← e]; exact hlo (j + k) (by omega) (by omega)
  refine ⟨?_, ?_⟩
  · rw [List.range_succ, List.filter_append]
    simp only [List.filter_cons, hp, List.filter_nil, if_true]
    have a1 : (l.take j ++ n :: l.drop j).Perm (n :: l) := by
      have := @List.perm_middle Nat n (l.take j) (l.drop j)
      rw [List.take_append_drop] at this
      exact this
    exact a1.trans ((h.1.cons n).trans (List.perm_append_singleton n _).symm)
  · have hs := h.2
    rw [← List.take_append_drop j l] at hs
    obtain ⟨s1, s2, s3⟩ := List.pairwise_append.mp hs
    refine List.pairwise_append.mpr ⟨s1, List.pairwise_cons.mpr ⟨hdn, s2⟩, fun x hx z hz => ?_⟩
    rcases List.mem_cons.mp hz with g | g
    · rw [g]; exact hup x hx
    · exact s3 x hx z g
theorem ins_at {l : List Nat} {o j k : Nat} (hj : j ≤ l.length) (hk : k < (l.take j ++ o :: l.drop j).length) : (k < j → ∃ h : k < l.length, (l.take j ++ o :: l.drop j)[k] = l[k]) ∧ (k = j → (l.take j ++ o :: l.drop j)[k] = o) ∧ (j < k → ∃ h : k - 1 < l.length, (l.take j ++ o :: l.drop j)[k] = l[k - 1]) := by
  have e : (l.take j ++ o :: l.drop j).length = l.length + 1 := by simp; omega
  rw [e] at hk
  have et : (l.take j).length = j := by rw [List.length_take]; omega
  refine ⟨fun h => ⟨by omega, ?_⟩, fun h => ?_, fun h => ⟨by omega, ?_⟩⟩
  · rw [List.getElem_append_left (by omega), List.getElem_take]
  · subst h
    rw [List.getElem_append_right (by omega)]
    simp [et]
  · rw [List.getElem_append_right (by omega)]
    have : k - (l.take j).length = (k - j - 1) + 1 := by omega
    simp only [this, List.getElem_cons_succ, List.getElem_drop]
    congr 1; omega
/-- so many of them at most -/
def sK (g : Nat → Int32) (kp : Int32) : List Nat → Nat → Int32 → Int32
  | [], _, s => s
  | x :: l, k, s => if kp ≤ nI k then s else sK g kp l (k + 1) (s + g x)
set_option maxRecDepth 100000 in
theorem c_mgather (l : Launch) (E : Ev) (o : Nat) (a : Nat → Nat) (M : MM) (Y : va_W) (S : HS) {n : Nat} (hn : M 1 0 = nI n) (h40 : n ≤ 40) {i : Nat} (hi : i < n) (all : Bool) : Ctr l yX5_gather (Cond.code yX5_gather cX5_gather 6 (some .int)) 2 0 0 E [.ref o, .int (nI i), .int (bI all)] (mw E o a M ++ Y) S (PoM E o a Y S (fun v M2 => ∃ l9 : List Nat, some (.int (nI l9.length)) = v ∧ srcs M i n all l9 ∧ inR M2 l9 ∧ ∀ k, k ≠ 25 → M2 k = M k)) := by
  refine Ctr.ofG (by decide) [(0, .ref o), (1, .int (nI i)), (2, .int (bI all))] rfl (Nat.le_of_ble_eq_true rfl) ?_
  intro p e s m args below meth c A Q C hQ
  refine g_iconst C 0 dX5_gather_0 (by decide) ?_
  refine g_istore_n C [(3, .int 0), (0, .ref o), (1, .int (nI i)), (2, .int (bI all))] dX5_gather_1 rfl (by decide) rfl ?_
  refine g_iconst C 0 dX5_gather_2 (by decide) ?_
  refine g_istore C [(4, .int 0), (3, .int 0), (0, .ref o), (1, .int (nI i)), (2, .int (bI all))] dX5_gather_3 (by decide) rfl ?_
  have loop : ∀ (k9 o9 : Nat) (l9 : List Nat) (Mx : MM), o9 + k9 = n → srcs M i o9 all l9 → inR Mx l9 → (∀ k, k ≠ 25 → Mx k = M k) → GW p l e (rml 2 0 0) s m args below meth c E 6 A Q (mw E o a Mx ++ Y) S 0 0 5 [(4, .int (nI o9)), (3, .int (nI l9.length)), (0, .ref o), (1, .int (nI i)), (2, .int (bI all))] [] := by
    intro k9
    induction k9 with
    | zero =>
      intro o9 l9 Mx hin hs hr hk
      have hln := hs.len
      refine g_iload C 0 dX5_gather_5 rfl ?_
      refine g_aload_n C 2 dX5_gather_7 rfl rfl ?_
      refine mg_1 C lk_X5_72 dX5_gather_8 ?_
      refine g_vi (nI n) ((congrFun (hk 1 (by decide)) 0).trans hn) ?_
      refine g_icmp_ge C 127 dX5_gather_11 (by decide) (fun h11 => ?_) (fun h11 => ?_)
      · refine g_iload_n C 1 dX5_gather_127 rfl rfl ?_
        exact g_iret C hQ rfl rfl dX5_gather_128 (by decide) (by decide) ⟨rfl, Mx, rfl, l9, rfl, by rw [show n = o9 by omega]; exact hs, hr, hk⟩
      · exact absurd (nI_le (show n ≤ o9 by omega) (by omega)) h11
    | succ k9 ih =>
      intro o9 l9 Mx hin hs hr hk
      have hln := hs.len
      refine g_iload C 0 dX5_gather_5 rfl ?_
      refine g_aload_n C 2 dX5_gather_7 rfl rfl ?_
      refine mg_1 C lk_X5_72 dX5_gather_8 ?_
      refine g_vi (nI n) ((congrFun (hk 1 (by decide)) 0).trans hn) ?_
      refine g_icmp_ge C 127 dX5_gather_11 (by decide) (fun h11 => ?_) (fun h11 => ?_)
      · exact absurd ((nI_leI (by omega) (by omega)).mp h11) (by omega)
      · refine g_aload_n C 2 dX5_gather_14 rfl rfl ?_
        refine g_iload_n C 3 dX5_gather_15 rfl rfl ?_
        refine g_iload C 0 dX5_gather_16 rfl ?_
        refine g_callV C [.int (nI i), .int (nI o9)] [] (c_misSource l E o a Mx Y S (i := i) (j := o9) (by omega) (by omega)) ⟨0, mfs a Mx, rfl⟩ rfl cm_X5_isSource wv_X5_101 ds_X5_isSource rfl rfl (Nat.le_of_ble_eq_true rfl) (by decide) (by decide) dX5_gather_18 ?_
        rintro v9 X2 S2 ⟨rfl, M9, rfl, rfl, rfl⟩
        rw [isS_cg (hk 5 (by decide)) (hk 6 (by decide))]
        refine g_if_eq C 121 dX5_gather_21 (by decide) (fun h21 => ?_) (fun h21 => ?_)
        · have hgp : gp M i all o9 = false := by unfold gp; rw [bI_0 h21]; rfl
          refine g_iinc C (nI (o9 + 1)) 0 [(4, .int (nI (o9 + 1))), (3, .int (nI l9.length)), (0, .ref o), (1, .int (nI i)), (2, .int (bI all))] dX5_gather_121 rfl (nI_1 o9) (by decide) rfl ?_
          refine g_goto C 5 dX5_gather_124 (by decide) ?_
          exact ih (o9 + 1) l9 Mx (by omega) (hs.skip hgp) hr hk
        · refine g_iload_n C 4 dX5_gather_24 rfl rfl ?_
          refine g_if_ne C 60 dX5_gather_25 (by decide) (fun h25 => ?_) (fun h25 => ?_)
          · have hgp : gp M i all o9 = true := by unfold gp; rw [bI_1 h21, bI_1 h25]; rfl
            refine g_iload_n C 1 dX5_gather_60 rfl rfl ?_
            refine g_istore C [(5, .int (nI l9.length)), (4, .int (nI o9)), (3, .int (nI l9.length)), (0, .ref o), (1, .int (nI i)), (2, .int (bI all))] dX5_gather_61 (by decide) rfl ?_
            have inner : ∀ (j9 : Nat) (Mx : MM), j9 ≤ l9.length → (∀ (k : Nat) (h : k < l9.length), k < j9 → Mx 25 k = nI l9[k]) → (∀ (k : Nat) (h : k - 1 < l9.length), j9 < k → Mx 25 k = nI l9[k - 1]) → (∀ (k : Nat) (hk : k < l9.length), j9 ≤ k → stM M i o9 l9[k] = true) → (∀ k, k ≠ 25 → Mx k = M k) → GW p l e (rml 2 0 0) s m args below meth c E 6 A Q (mw E o a Mx ++ Y) S 0 0 63 [(5, .int (nI j9)), (4, .int (nI o9)), (3, .int (nI l9.length)), (0, .ref o), (1, .int (nI i)), (2, .int (bI all))] [] := by
              intro j9
              induction j9 with
              | zero =>
                intro Mx hj9 h1 h2 h3 hk
                refine g_iload C 0 dX5_gather_63 rfl ?_
                refine g_if_le C 109 dX5_gather_65 (by decide) (fun h65 => ?_) (fun h65 => ?_)
                · have hhi : ∀ (h0 : 0 < 0), stM M i o9 (l9[0 - 1]'(by omega)) = false := fun h0 => absurd h0 (by decide)
                  refine g_aload_n C 3 dX5_gather_109 rfl rfl ?_
                  refine mg_25 C lk_X5_63 dX5_gather_110 ?_
                  refine g_iload C 0 dX5_gather_113 rfl ?_
                  refine g_iload C 1 dX5_gather_115 rfl ?_
                  refine ms_25 C 0 rfl (by omega) dX5_gather_117 (fun M1 hM1 => ?_)
                  refine g_iinc C (nI (l9.length + 1)) 2 [(3, .int (nI (l9.length + 1))), (5, .int (nI 0)), (4, .int (nI o9)), (0, .ref o), (1, .int (nI i)), (2, .int (bI all))] dX5_gather_118 rfl (nI_1 l9.length) (by decide) rfl ?_
                  refine g_iinc C (nI (o9 + 1)) 2 [(4, .int (nI (o9 + 1))), (3, .int (nI (l9.length + 1))), (5, .int (nI 0)), (0, .ref o), (1, .int (nI i)), (2, .int (bI all))] dX5_gather_121 rfl (nI_1 o9) (by decide) rfl ?_
                  refine g_goto C 5 dX5_gather_124 (by decide) ?_
                  refine g_locs (lv2 := [(4, .int (nI (o9 + 1))), (3, .int (nI (l9.length + 1))), (0, .ref o), (1, .int (nI i)), (2, .int (bI all))]) [0, 1, 3, 4, 5] rfl ?_
                  have hlen : (l9.take 0 ++ o9 :: l9.drop 0).length = l9.length + 1 := by simp <;> omega
                  have hgo := ih (o9 + 1) (l9.take 0 ++ o9 :: l9.drop 0) M1 (by omega) (hs.ins (by omega) hgp hj9 h3 hhi) (fun k hk2 => by
                    obtain ⟨c1, c2, c3⟩ := ins_at (o := o9) hj9 hk2
                    rcases Nat.lt_trichotomy k 0 with q | q | q
                    · obtain ⟨hq, e⟩ := c1 q
                      rw [u2_off hM1 (by omega), e]; exact h1 k hq q
                    · rw [c2 q, q]; exact u2_at hM1
                    · obtain ⟨hq, e⟩ := c3 q
                      rw [u2_off hM1 (by omega), e]; exact h2 k hq q) (fun k h25 => by rw [u2_row hM1 h25]; exact hk k h25)
                  rw [hlen] at hgo
                  exact hgo
                · exact absurd (show nI 0 ≤ 0 by decide) h65
              | succ j9 jh =>
                intro Mx hj9 h1 h2 h3 hk
                have hl9 : j9 < l9.length := by omega
                have hlj : l9[j9] < n := Nat.lt_of_lt_of_le (hs.lt (List.getElem_mem hl9)) (by omega)
                refine g_iload C 0 dX5_gather_63 rfl ?_
                refine g_if_le C 109 dX5_gather_65 (by decide) (fun h65 => ?_) (fun h65 => ?_)
                · exact absurd h65 (nI_nle (Nat.succ_pos _) (by omega))
                · refine g_aload_n C 3 dX5_gather_68 rfl rfl ?_
                  refine g_iload_n C 4 dX5_gather_69 rfl rfl ?_
                  refine g_iload C 1 dX5_gather_70 rfl ?_
                  refine g_aload_n C 3 dX5_gather_72 rfl rfl ?_
                  refine mg_25 C lk_X5_63 dX5_gather_73 ?_
                  refine g_iload C 0 dX5_gather_76 rfl ?_
                  refine g_iconst C 1 dX5_gather_78 (by decide) ?_
                  refine g_isub C dX5_gather_79 ?_
                  refine ml_25 C j9 (nI_pred j9) (by omega) dX5_gather_80 ?_
                  refine g_vi (nI l9[j9]) (h1 j9 hl9 (Nat.lt_succ_self _)) ?_
                  refine g_callV C [.int (nI i), .int (nI o9), .int (nI l9[j9])] [] (c_misStronger l E o a Mx Y S (i := i) (j := o9) (k := l9[j9]) (by omega) (by omega) (by omega)) ⟨0, mfs a Mx, rfl⟩ rfl cm_X5_isStronger wv_X5_104 ds_X5_isStronger rfl rfl (Nat.le_of_ble_eq_true rfl) (by decide) (by decide) dX5_gather_81 ?_
                  rintro v9 X2 S2 ⟨rfl, M9, rfl, rfl, rfl⟩
                  rw [stM_cg (hk 5 (by decide)) (hk 4 (by decide))]
                  refine g_if_eq C 109 dX5_gather_84 (by decide) (fun h84 => ?_) (fun h84 => ?_)
                  · have hhi : ∀ (h0 : 0 < (j9 + 1)), stM M i o9 (l9[(j9 + 1) - 1]'(by omega)) = false := fun _ => bI_0 h84
                    refine g_aload_n C 3 dX5_gather_109 rfl rfl ?_
                    refine mg_25 C lk_X5_63 dX5_gather_110 ?_
                    refine g_iload C 0 dX5_gather_113 rfl ?_
                    refine g_iload C 1 dX5_gather_115 rfl ?_
                    refine ms_25 C (j9 + 1) rfl (by omega) dX5_gather_117 (fun M1 hM1 => ?_)
                    refine g_iinc C (nI (l9.length + 1)) 2 [(3, .int (nI (l9.length + 1))), (5, .int (nI (j9 + 1))), (4, .int (nI o9)), (0, .ref o), (1, .int (nI i)), (2, .int (bI all))] dX5_gather_118 rfl (nI_1 l9.length) (by decide) rfl ?_
                    refine g_iinc C (nI (o9 + 1)) 2 [(4, .int (nI (o9 + 1))), (3, .int (nI (l9.length + 1))), (5, .int (nI (j9 + 1))), (0, .ref o), (1, .int (nI i)), (2, .int (bI all))] dX5_gather_121 rfl (nI_1 o9) (by decide) rfl ?_
                    refine g_goto C 5 dX5_gather_124 (by decide) ?_
                    refine g_locs (lv2 := [(4, .int (nI (o9 + 1))), (3, .int (nI (l9.length + 1))), (0, .ref o), (1, .int (nI i)), (2, .int (bI all))]) [0, 1, 3, 4, 5] rfl ?_
                    have hlen : (l9.take (j9 + 1) ++ o9 :: l9.drop (j9 + 1)).length = l9.length + 1 := by simp <;> omega
                    have hgo := ih (o9 + 1) (l9.take (j9 + 1) ++ o9 :: l9.drop (j9 + 1)) M1 (by omega) (hs.ins (by omega) hgp hj9 h3 hhi) (fun k hk2 => by
                      obtain ⟨c1, c2, c3⟩ := ins_at (o := o9) hj9 hk2
                      rcases Nat.lt_trichotomy k (j9 + 1) with q | q | q
                      · obtain ⟨hq, e⟩ := c1 q
                        rw [u2_off hM1 (by omega), e]; exact h1 k hq q
                      · rw [c2 q, q]; exact u2_at hM1
                      · obtain ⟨hq, e⟩ := c3 q
                        rw [u2_off hM1 (by omega), e]; exact h2 k hq q) (fun k h25 => by rw [u2_row hM1 h25]; exact hk k h25)
                    rw [hlen] at hgo
                    exact hgo
                  · refine g_aload_n C 3 dX5_gather_87 rfl rfl ?_
                    refine mg_25 C lk_X5_63 dX5_gather_88 ?_
                    refine g_iload C 0 dX5_gather_91 rfl ?_
                    refine g_aload_n C 3 dX5_gather_93 rfl rfl ?_
                    refine mg_25 C lk_X5_63 dX5_gather_94 ?_
                    refine g_iload C 0 dX5_gather_97 rfl ?_
                    refine g_iconst C 1 dX5_gather_99 (by decide) ?_
                    refine g_isub C dX5_gather_100 ?_
                    refine ml_25 C j9 (nI_pred j9) (by omega) dX5_gather_101 ?_
                    refine g_vi (nI l9[j9]) (h1 j9 hl9 (Nat.lt_succ_self _)) ?_
                    refine ms_25 C (j9 + 1) rfl (by omega) dX5_gather_102 (fun M1 hM1 => ?_)
                    refine g_iinc C (nI j9) 0 [(5, .int (nI j9)), (4, .int (nI o9)), (3, .int (nI l9.length)), (0, .ref o), (1, .int (nI i)), (2, .int (bI all))] dX5_gather_103 rfl (by rw [nI_dec]; exact nI_pred j9) (by decide) rfl ?_
                    refine g_goto C 63 dX5_gather_106 (by decide) ?_
                    exact jh M1 (by omega) (fun k hk2 hkj => by rw [u2_off hM1 (by omega)]; exact h1 k hk2 (by omega)) (fun k hk2 hkj => by
                      by_cases q : k = j9 + 1
                      · subst q; exact u2_at hM1
                      · rw [u2_off hM1 q]; exact h2 k hk2 (by omega)) (fun k hk2 hkj => by
                      by_cases q : k = j9
                      · subst q; exact bI_1 h84
                      · exact h3 k hk2 (by omega)) (fun k h25 => by rw [u2_row hM1 h25]; exact hk k h25)
            exact inner l9.length Mx (Nat.le_refl _) (fun k h _ => hr k h) (fun k h q => absurd h (by omega)) (fun k h q => absurd h (by omega)) hk
          · refine g_aload_n C 2 dX5_gather_28 rfl rfl ?_
            refine mg_21 C lk_X5_51 dX5_gather_29 ?_
            refine g_iload C 0 dX5_gather_32 rfl ?_
            refine ml_21 C o9 rfl (by omega) dX5_gather_34 ?_
            refine g_vi (M 21 o9) (congrFun (hk 21 (by decide)) o9) ?_
            refine g_aload_n C 2 dX5_gather_35 rfl rfl ?_
            refine mg_22 C lk_X5_54 dX5_gather_36 ?_
            refine g_iload_n C 3 dX5_gather_39 rfl rfl ?_
            refine ml_22 C i rfl (by omega) dX5_gather_40 ?_
            refine g_vi (M 22 i) (congrFun (hk 22 (by decide)) i) ?_
            refine g_icmp_gt C 121 dX5_gather_41 (by decide) (fun h41 => ?_) (fun h41 => ?_)
            · have hgp : gp M i all o9 = false := by unfold gp; rw [bI_1 h21, bI_0 h25, decide_eq_false (p := ¬ M 22 i < M 21 o9) (fun q => q h41)]; rfl
              refine g_iinc C (nI (o9 + 1)) 0 [(4, .int (nI (o9 + 1))), (3, .int (nI l9.length)), (0, .ref o), (1, .int (nI i)), (2, .int (bI all))] dX5_gather_121 rfl (nI_1 o9) (by decide) rfl ?_
              refine g_goto C 5 dX5_gather_124 (by decide) ?_
              exact ih (o9 + 1) l9 Mx (by omega) (hs.skip hgp) hr hk
            · refine g_aload_n C 2 dX5_gather_44 rfl rfl ?_
              refine mg_21 C lk_X5_51 dX5_gather_45 ?_
              refine g_iload_n C 3 dX5_gather_48 rfl rfl ?_
              refine ml_21 C i rfl (by omega) dX5_gather_49 ?_
              refine g_vi (M 21 i) (congrFun (hk 21 (by decide)) i) ?_
              refine g_aload_n C 2 dX5_gather_50 rfl rfl ?_
              refine mg_22 C lk_X5_54 dX5_gather_51 ?_
              refine g_iload C 0 dX5_gather_54 rfl ?_
              refine ml_22 C o9 rfl (by omega) dX5_gather_56 ?_
              refine g_vi (M 22 o9) (congrFun (hk 22 (by decide)) o9) ?_
              refine g_icmp_gt C 121 dX5_gather_57 (by decide) (fun h57 => ?_) (fun h57 => ?_)
              · have hgp : gp M i all o9 = false := by unfold gp; rw [bI_1 h21, bI_0 h25, decide_eq_false (p := ¬ M 22 o9 < M 21 i) (fun q => q h57)]; simp
                refine g_iinc C (nI (o9 + 1)) 0 [(4, .int (nI (o9 + 1))), (3, .int (nI l9.length)), (0, .ref o), (1, .int (nI i)), (2, .int (bI all))] dX5_gather_121 rfl (nI_1 o9) (by decide) rfl ?_
                refine g_goto C 5 dX5_gather_124 (by decide) ?_
                exact ih (o9 + 1) l9 Mx (by omega) (hs.skip hgp) hr hk
              · have hgp : gp M i all o9 = true := by unfold gp; rw [bI_1 h21, bI_0 h25, decide_eq_true h41, decide_eq_true h57]; rfl
                refine g_iload_n C 1 dX5_gather_60 rfl rfl ?_
                refine g_istore C [(5, .int (nI l9.length)), (4, .int (nI o9)), (3, .int (nI l9.length)), (0, .ref o), (1, .int (nI i)), (2, .int (bI all))] dX5_gather_61 (by decide) rfl ?_
                have inner : ∀ (j9 : Nat) (Mx : MM), j9 ≤ l9.length → (∀ (k : Nat) (h : k < l9.length), k < j9 → Mx 25 k = nI l9[k]) → (∀ (k : Nat) (h : k - 1 < l9.length), j9 < k → Mx 25 k = nI l9[k - 1]) → (∀ (k : Nat) (hk : k < l9.length), j9 ≤ k → stM M i o9 l9[k] = true) → (∀ k, k ≠ 25 → Mx k = M k) → GW p l e (rml 2 0 0) s m args below meth c E 6 A Q (mw E o a Mx ++ Y) S 0 0 63 [(5, .int (nI j9)), (4, .int (nI o9)), (3, .int (nI l9.length)), (0, .ref o), (1, .int (nI i)), (2, .int (bI all))] [] := by
                  intro j9
                  induction j9 with
                  | zero =>
                    intro Mx hj9 h1 h2 h3 hk
                    refine g_iload C 0 dX5_gather_63 rfl ?_
                    refine g_if_le C 109 dX5_gather_65 (by decide) (fun h65 => ?_) (fun h65 => ?_)
                    · have hhi : ∀ (h0 : 0 < 0), stM M i o9 (l9[0 - 1]'(by omega)) = false := fun h0 => absurd h0 (by decide)
                      refine g_aload_n C 3 dX5_gather_109 rfl rfl ?_
                      refine mg_25 C lk_X5_63 dX5_gather_110 ?_
                      refine g_iload C 0 dX5_gather_113 rfl ?_
                      refine g_iload C 1 dX5_gather_115 rfl ?_
                      refine ms_25 C 0 rfl (by omega) dX5_gather_117 (fun M1 hM1 => ?_)
                      refine g_iinc C (nI (l9.length + 1)) 2 [(3, .int (nI (l9.length + 1))), (5, .int (nI 0)), (4, .int (nI o9)), (0, .ref o), (1, .int (nI i)), (2, .int (bI all))] dX5_gather_118 rfl (nI_1 l9.length) (by decide) rfl ?_
                      refine g_iinc C (nI (o9 + 1)) 2 [(4, .int (nI (o9 + 1))), (3, .int (nI (l9.length + 1))), (5, .int (nI 0)), (0, .ref o), (1, .int (nI i)), (2, .int (bI all))] dX5_gather_121 rfl (nI_1 o9) (by decide) rfl ?_
                      refine g_goto C 5 dX5_gather_124 (by decide) ?_
                      refine g_locs (lv2 := [(4, .int (nI (o9 + 1))), (3, .int (nI (l9.length + 1))), (0, .ref o), (1, .int (nI i)), (2, .int (bI all))]) [0, 1, 3, 4, 5] rfl ?_
                      have hlen : (l9.take 0 ++ o9 :: l9.drop 0).length = l9.length + 1 := by simp <;> omega
                      have hgo := ih (o9 + 1) (l9.take 0 ++ o9 :: l9.drop 0) M1 (by omega) (hs.ins (by omega) hgp hj9 h3 hhi) (fun k hk2 => by
                        obtain ⟨c1, c2, c3⟩ := ins_at (o := o9) hj9 hk2
                        rcases Nat.lt_trichotomy k 0 with q | q | q
                        · obtain ⟨hq, e⟩ := c1 q
                          rw [u2_off hM1 (by omega), e]; exact h1 k hq q
                        · rw [c2 q, q]; exact u2_at hM1
                        · obtain ⟨hq, e⟩ := c3 q
                          rw [u2_off hM1 (by omega), e]; exact h2 k hq q) (fun k h25 => by rw [u2_row hM1 h25]; exact hk k h25)
                      rw [hlen] at hgo
                      exact hgo
                    · exact absurd (show nI 0 ≤ 0 by decide) h65
                  | succ j9 jh =>
                    intro Mx hj9 h1 h2 h3 hk
                    have hl9 : j9 < l9.length := by omega
                    have hlj : l9[j9] < n := Nat.lt_of_lt_of_le (hs.lt (List.getElem_mem hl9)) (by omega)
                    refine g_iload C 0 dX5_gather_63 rfl ?_
                    refine g_if_le C 109 dX5_gather_65 (by decide) (fun h65 => ?_) (fun h65 => ?_)
                    · exact absurd h65 (nI_nle (Nat.succ_pos _) (by omega))
                    · refine g_aload_n C 3 dX5_gather_68 rfl rfl ?_
                      refine g_iload_n C 4 dX5_gather_69 rfl rfl ?_
                      refine g_iload C 1 dX5_gather_70 rfl ?_
                      refine g_aload_n C 3 dX5_gather_72 rfl rfl ?_
                      refine mg_25 C lk_X5_63 dX5_gather_73 ?_
                      refine g_iload C 0 dX5_gather_76 rfl ?_
                      refine g_iconst C 1 dX5_gather_78 (by decide) ?_
                      refine g_isub C dX5_gather_79 ?_
                      refine ml_25 C j9 (nI_pred j9) (by omega) dX5_gather_80 ?_
                      refine g_vi (nI l9[j9]) (h1 j9 hl9 (Nat.lt_succ_self _)) ?_
                      refine g_callV C [.int (nI i), .int (nI o9), .int (nI l9[j9])] [] (c_misStronger l E o a Mx Y S (i := i) (j := o9) (k := l9[j9]) (by omega) (by omega) (by omega)) ⟨0, mfs a Mx, rfl⟩ rfl cm_X5_isStronger wv_X5_104 ds_X5_isStronger rfl rfl (Nat.le_of_ble_eq_true rfl) (by decide) (by decide) dX5_gather_81 ?_
                      rintro v9 X2 S2 ⟨rfl, M9, rfl, rfl, rfl⟩
                      rw [stM_cg (hk 5 (by decide)) (hk 4 (by decide))]
                      refine g_if_eq C 109 dX5_gather_84 (by decide) (fun h84 => ?_) (fun h84 => ?_)
                      · have hhi : ∀ (h0 : 0 < (j9 + 1)), stM M i o9 (l9[(j9 + 1) - 1]'(by omega)) = false := fun _ => bI_0 h84
                        refine g_aload_n C 3 dX5_gather_109 rfl rfl ?_
                        refine mg_25 C lk_X5_63 dX5_gather_110 ?_
                        refine g_iload C 0 dX5_gather_113 rfl ?_
                        refine g_iload C 1 dX5_gather_115 rfl ?_
                        refine ms_25 C (j9 + 1) rfl (by omega) dX5_gather_117 (fun M1 hM1 => ?_)
                        refine g_iinc C (nI (l9.length + 1)) 2 [(3, .int (nI (l9.length + 1))), (5, .int (nI (j9 + 1))), (4, .int (nI o9)), (0, .ref o), (1, .int (nI i)), (2, .int (bI all))] dX5_gather_118 rfl (nI_1 l9.length) (by decide) rfl ?_
                        refine g_iinc C (nI (o9 + 1)) 2 [(4, .int (nI (o9 + 1))), (3, .int (nI (l9.length + 1))), (5, .int (nI (j9 + 1))), (0, .ref o), (1, .int (nI i)), (2, .int (bI all))] dX5_gather_121 rfl (nI_1 o9) (by decide) rfl ?_
                        refine g_goto C 5 dX5_gather_124 (by decide) ?_
                        refine g_locs (lv2 := [(4, .int (nI (o9 + 1))), (3, .int (nI (l9.length + 1))), (0, .ref o), (1, .int (nI i)), (2, .int (bI all))]) [0, 1, 3, 4, 5] rfl ?_
                        have hlen : (l9.take (j9 + 1) ++ o9 :: l9.drop (j9 + 1)).length = l9.length + 1 := by simp <;> omega
                        have hgo := ih (o9 + 1) (l9.take (j9 + 1) ++ o9 :: l9.drop (j9 + 1)) M1 (by omega) (hs.ins (by omega) hgp hj9 h3 hhi) (fun k hk2 => by
                          obtain ⟨c1, c2, c3⟩ := ins_at (o := o9) hj9 hk2
                          rcases Nat.lt_trichotomy k (j9 + 1) with q | q | q
                          · obtain ⟨hq, e⟩ := c1 q
                            rw [u2_off hM1 (by omega), e]; exact h1 k hq q
                          · rw [c2 q, q]; exact u2_at hM1
                          · obtain ⟨hq, e⟩ := c3 q
                            rw [u2_off hM1 (by omega), e]; exact h2 k hq q) (fun k h25 => by rw [u2_row hM1 h25]; exact hk k h25)
                        rw [hlen] at hgo
                        exact hgo
                      · refine g_aload_n C 3 dX5_gather_87 rfl rfl ?_
                        refine mg_25 C lk_X5_63 dX5_gather_88 ?_
                        refine g_iload C 0 dX5_gather_91 rfl ?_
                        refine g_aload_n C 3 dX5_gather_93 rfl rfl ?_
                        refine mg_25 C lk_X5_63 dX5_gather_94 ?_
                        refine g_iload C 0 dX5_gather_97 rfl ?_
                        refine g_iconst C 1 dX5_gather_99 (by decide) ?_
                        refine g_isub C dX5_gather_100 ?_
                        refine ml_25 C j9 (nI_pred j9) (by omega) dX5_gather_101 ?_
                        refine g_vi (nI l9[j9]) (h1 j9 hl9 (Nat.lt_succ_self _)) ?_
                        refine ms_25 C (j9 + 1) rfl (by omega) dX5_gather_102 (fun M1 hM1 => ?_)
                        refine g_iinc C (nI j9) 0 [(5, .int (nI j9)), (4, .int (nI o9)), (3, .int (nI l9.length)), (0, .ref o), (1, .int (nI i)), (2, .int (bI all))] dX5_gather_103 rfl (by rw [nI_dec]; exact nI_pred j9) (by decide) rfl ?_
                        refine g_goto C 63 dX5_gather_106 (by decide) ?_
                        exact jh M1 (by omega) (fun k hk2 hkj => by rw [u2_off hM1 (by omega)]; exact h1 k hk2 (by omega)) (fun k hk2 hkj => by
                          by_cases q : k = j9 + 1
                          · subst q; exact u2_at hM1
                          · rw [u2_off hM1 q]; exact h2 k hk2 (by omega)) (fun k hk2 hkj => by
                          by_cases q : k = j9
                          · subst q; exact bI_1 h84
                          · exact h3 k hk2 (by omega)) (fun k h25 => by rw [u2_row hM1 h25]; exact hk k h25)
                exact inner l9.length Mx (Nat.le_refl _) (fun k h _ => hr k h) (fun k h q => absurd h (by omega)) (fun k h q => absurd h (by omega)) hk
  exact loop n 0 [] M (by omega) ⟨List.Perm.refl _, List.Pairwise.nil⟩ (fun k h => absurd h (Nat.not_lt_zero _)) (fun k _ => rfl)
