theorem nzL_sh (vs ss : Nat → List Nat) (kp : Int32) (ha ta n : Nat) : ∀ (l : List Nat) (S : HS), Sh S (nzL vs ss kp ha ta n l S)
  | [], S => Sh.rf
  | a :: l, S => (Sh.rf.sI rfl).trans (nzL_sh vs ss kp ha ta n l _)
set_option maxRecDepth 100000 in
theorem c_noise (l : Launch) (E : Ev) (X : va_W) (S : HS) {x ln rn : Nat} {ns : List Nat} (ho : crO E S x ln rn ns) {i : Nat} (hi : i < ns.length) {lf rf : Nat} {fs : List Nat} (hf : crF E S x lf rf fs) {ls rs : Nat → Nat} {ss : Nat → List Nat} (hs : ∀ a ∈ fs, stl E S a (ls a) (rs a) (ss a)) {lc rc : Nat → Nat} {vs : Nat → List Nat} (hc : ∀ a ∈ fs, cpl E S a (lc a) (rc a) (vs a)) {t ha ta n9 : Nat} (ht : crT S x t ha ta n9) : Ctr l yX4_noise (Cond.code yX4_noise cX4_noise 5 (some .int)) 6 0 0 E [.ref x, .int (nI i)] X S (fun v X2 S2 => some (.int ((nzL vs ss (S.I 12 x) ha ta n9 fs S).I 7 ns[i])) = v ∧ X = X2 ∧ nzL vs ss (S.I 12 x) ha ta n9 fs S = S2) := by
  refine Ctr.ofG (by decide) [(0, .ref x), (1, .int (nI i))] rfl (Nat.le_of_ble_eq_true rfl) ?_
  intro p e s m args below meth c A Q C hQ
  refine g_aload_n C 0 dX4_noise_0 rfl rfl ?_
  refine g_iload_n C 1 dX4_noise_1 rfl rfl ?_
  refine g_callV C [.int (nI i)] [] (c_netAt l E X S ho hi) (recv_at ho.1.1 (pF_4 ho.1.2)) rfl cm_X4_netAt wv_X4_71 ds_X4_netAt rfl rfl (Nat.le_of_ble_eq_true rfl) (by decide) (by decide) dX4_noise_2 ?_
  rintro v9 X2 S2 ⟨rfl, rfl, rfl⟩
  show GW _ _ _ _ _ _ _ _ _ _ _ _ _ _ _ _ _ _ _ _ (.ref ns[i] :: _)
  obtain ⟨a0, hae⟩ : ∃ a0, a0 = ns[i] := ⟨_, rfl⟩
  rw [← hae]
  have hka : isK S 0 a0 := by rw [hae]; exact ho.2.2.2 _ (List.getElem_mem hi)
  refine g_astore_n C [(2, .ref a0), (0, .ref x), (1, .int (nI i))] dX4_noise_5 rfl (by decide) rfl ?_
  refine g_iconst C 0 dX4_noise_6 (by decide) ?_
  refine g_istore_n C [(3, .int 0), (2, .ref a0), (0, .ref x), (1, .int (nI i))] dX4_noise_7 rfl (by decide) rfl ?_
  have hlen := hf.2.2.1.2.2.2.1
  have loop : ∀ (n i9 : Nat) (S1 : HS), i9 + n = fs.length → Sh S S1 → S1.I 12 x = S.I 12 x → S1.R = S.R → nzL vs ss (S.I 12 x) ha ta n9 (fs.drop i9) S1 = nzL vs ss (S.I 12 x) ha ta n9 fs S → GW p l e (rml 6 0 0) s m args below meth c E 5 A Q X S1 0 0 8 [(3, .int (nI i9)), (2, .ref a0), (0, .ref x)] [] := by
    intro n
    induction n with
    | zero =>
      intro i9 S1 hin hSh hk12 hRR hF
      have hf1 := hSh.crF' hf
      have ht1 : S1.P 8 x = some t := by rw [hSh.2.2.1]; exact ht.2.1
      rw [List.drop_eq_nil_of_le (by omega)] at hF
      have hk0 : isK S1 0 a0 := hSh.K hka
      refine g_iload_n C 0 dX4_noise_8 rfl rfl ?_
      refine g_aload_n C 2 dX4_noise_9 rfl rfl ?_
      refine g_get (v := .ref lf) C 1 hf1.1.1 (pF_4 hf1.1.2) rfl (by decide) in_X4 lk_X4_16 rfl (congrArg (fun z => some (va_rf z)) hf1.2.1) dX4_noise_10 ?_
      refine g_callV C [] [.int (nI i9)] (c_size l E X S1 hf1.2.2.1) (recv_at hf1.2.2.1.1.1 (pF_5 hf1.2.2.1.1.2)) rfl cm_Jx4a65c_size_8abf5 wv_X4_51 ds_Jx4a65c_size_8abf5 rfl rfl (Nat.le_of_ble_eq_true rfl) (by decide) (by decide) dX4_noise_13 ?_
      rintro v9 X2 S2 ⟨rfl, rfl, rfl⟩
      refine g_icmp_ge C 51 dX4_noise_16 (by decide) (fun h16 => ?_) (fun h16 => ?_)
      · refine g_aload_n C 1 dX4_noise_51 rfl rfl ?_
        refine g_get C 11 hk0.1 (pF_0 hk0.2) rfl (by decide) in_X0 lk_X4_165 rfl rfl dX4_noise_52 ?_
        exact g_iret C hQ rfl rfl dX4_noise_55 (by decide) (by decide) ⟨by rw [← hF, ← hae]; rfl, rfl, hF.symm⟩
      · exact absurd (nI_le (show fs.length ≤ i9 by omega) (by omega)) h16
    | succ n ih =>
      intro i9 S1 hin hSh hk12 hRR hF
      have hf1 := hSh.crF' hf
      have ht1 : S1.P 8 x = some t := by rw [hSh.2.2.1]; exact ht.2.1
      have hi9 : i9 < fs.length := by omega
      obtain ⟨a, hv⟩ : ∃ a, a = fs[i9] := ⟨_, rfl⟩
      have ham : a ∈ fs := by rw [hv]; exact List.getElem_mem hi9
      have hka1 : isK S1 0 a := hSh.K (hf.2.2.2 a ham)
      have hdr : fs.drop i9 = a :: fs.drop (i9 + 1) := by rw [hv]; exact List.drop_eq_getElem_cons hi9
      rw [hdr, nzL] at hF
      refine g_iload_n C 0 dX4_noise_8 rfl rfl ?_
      refine g_aload_n C 2 dX4_noise_9 rfl rfl ?_
      refine g_get (v := .ref lf) C 1 hf1.1.1 (pF_4 hf1.1.2) rfl (by decide) in_X4 lk_X4_16 rfl (congrArg (fun z => some (va_rf z)) hf1.2.1) dX4_noise_10 ?_
      refine g_callV C [] [.int (nI i9)] (c_size l E X S1 hf1.2.2.1) (recv_at hf1.2.2.1.1.1 (pF_5 hf1.2.2.1.1.2)) rfl cm_Jx4a65c_size_8abf5 wv_X4_51 ds_Jx4a65c_size_8abf5 rfl rfl (Nat.le_of_ble_eq_true rfl) (by decide) (by decide) dX4_noise_13 ?_
      rintro v9 X2 S2 ⟨rfl, rfl, rfl⟩
      refine g_icmp_ge C 51 dX4_noise_16 (by decide) (fun h16 => ?_) (fun h16 => ?_)
      · exact absurd ((nI_leI (by omega) (by omega)).mp h16) (by omega)
      · refine g_aload_n C 2 dX4_noise_19 rfl rfl ?_
        refine g_get (v := .ref lf) C 1 hf1.1.1 (pF_4 hf1.1.2) rfl (by decide) in_X4 lk_X4_16 rfl (congrArg (fun z => some (va_rf z)) hf1.2.1) dX4_noise_20 ?_
        refine g_iload_n C 0 dX4_noise_23 rfl rfl ?_
        refine g_callV C [.int (nI i9)] [] (c_get l E X S1 hf1.2.2.1 hi9) (recv_at hf1.2.2.1.1.1 (pF_5 hf1.2.2.1.1.2)) rfl cm_Jx4a65c_get_915e3 wv_X4_122 ds_Jx4a65c_get_915e3 rfl rfl (Nat.le_of_ble_eq_true rfl) (by decide) (by decide) dX4_noise_24 ?_
        rintro v9 X2 S2 ⟨rfl, rfl, rfl⟩
        show GW _ _ _ _ _ _ _ _ _ _ _ _ _ _ _ _ _ _ _ _ (.ref fs[i9] :: _)
        rw [← hv]
        refine g_cast C hka1.1 (pF_0 hka1.2) rfl kl_X4_59 dX4_noise_27 ?_
        refine g_astore C [(4, .ref a), (3, .int (nI i9)), (2, .ref a0), (0, .ref x)] dX4_noise_30 (by decide) rfl ?_
        refine g_aload C 0 dX4_noise_32 rfl ?_
        refine g_aload_n C 3 dX4_noise_34 rfl rfl ?_
        refine g_get (v := .int (S.I 12 x)) C 5 hf1.1.1 (pF_4 hf1.1.2) rfl (by decide) in_X4 lk_X4_34 rfl (congrArg (fun z => some (Value.int z)) hk12) dX4_noise_35 ?_
        refine g_aload_n C 3 dX4_noise_38 rfl rfl ?_
        refine g_get (v := .ref t) C 2 hf1.1.1 (pF_4 hf1.1.2) rfl (by decide) in_X4 lk_X4_22 rfl (congrArg (fun z => some (va_rf z)) ht1) dX4_noise_39 ?_
        refine g_callV C [.int (S.I 12 x), .ref t] [] (c_workOutNoise l E X S1 (hSh.stlO (hs a ham)) (hSh.cplO (hc a ham)) (hSh.tblO ht.2.2) (S.I 12 x)) (recv_at hka1.1 (pF_0 hka1.2)) rfl cm_X0_workOutNoise wv_X4_161 ds_X0_workOutNoise rfl rfl (Nat.le_of_ble_eq_true rfl) (by decide) (by decide) dX4_noise_42 ?_
        rintro v9 X2 S2 ⟨rfl, rfl, hS2⟩
        refine g_iinc C (nI (i9 + 1)) 1 [(3, .int (nI (i9 + 1))), (4, .ref a), (2, .ref a0), (0, .ref x)] dX4_noise_45 rfl (nI_1 i9) (by decide) rfl ?_
        refine g_goto C 8 dX4_noise_48 (by decide) ?_
        refine g_locs (lv2 := [(3, .int (nI (i9 + 1))), (2, .ref a0), (0, .ref x)]) [0, 2, 3] rfl ?_
        exact ih (i9 + 1) S2 (by omega) (by rw [← hS2]; exact hSh.sI rfl) (by rw [← hS2]; exact (sI_ne (by decide)).trans hk12) (by rw [← hS2]; exact hRR) (by rw [← hS2]; exact hF)
  refine g_locs (lv2 := [(3, .int 0), (2, .ref a0), (0, .ref x)]) [0, 1, 2] rfl ?_
  exact loop fs.length 0 S (by omega) Sh.rf rfl rfl rfl
set_option maxRecDepth 100000 in
theorem c_noiseT (l : Launch) (hlt : l.stackTraces = false) (E : Ev) (X : va_W) (S : HS) {x ln rn : Nat} {ns : List Nat} (ho : crO E S x ln rn ns) {z : Int32} (h : z < 0 ∨ ¬ z < nI ns.length) : CtrT l yX4_noise (Cond.code yX4_noise cX4_noise 5 (some .int)) 6 1 6 E [.ref x, .int z] X S xIO := by
  refine CtrX.ofG (by decide) [(0, .ref x), (1, .int z)] rfl (Nat.le_of_ble_eq_true rfl) ?_
  intro p e s m args below meth c A C htb
  refine g_aload_n C 0 dX4_noise_0 rfl rfl ?_
  refine g_iload_n C 1 dX4_noise_1 rfl rfl ?_
  exact g_outV C htb [.int z] [] (c_netAtT l hlt E X S ho h) (recv_at ho.1.1 (pF_4 ho.1.2)) rfl cm_X4_netAt wv_X4_71 ds_X4_netAt rfl rfl (Nat.le_of_ble_eq_true rfl) (by decide) (by decide) dX4_noise_2 (by decide) rfl
set_option maxRecDepth 100000 in
theorem c_spreadLeaders (l : Launch) (E : Ev) (X : va_W) (S : HS) {x ln rn : Nat} {ns : List Nat} (ho : crO E S x ln rn ns) {a1 b1 : Nat} (ha : isK S 0 a1) (hb : isK S 0 b1) : Ctr l yX4_spreadLeaders (Cond.code yX4_spreadLeaders cX4_spreadLeaders 7 none) 4 0 0 E [.ref x, .ref a1, .ref b1] X S (fun v X2 S2 => none = v ∧ X = X2 ∧ ldL (S.J 1 a1 ||| bv S a1) b1 ns S = S2) := by
  refine Ctr.ofG (by decide) [(0, .ref x), (1, .ref a1), (2, .ref b1)] rfl (Nat.le_of_ble_eq_true rfl) ?_
  intro p e s m args below meth c A Q C hQ
  refine g_aload_n C 1 dX4_spreadLeaders_0 rfl rfl ?_
  refine g_get C 7 ha.1 (pF_0 ha.2) rfl (by decide) in_X0 lk_X4_185 rfl rfl dX4_spreadLeaders_1 ?_
  refine g_aload_n C 1 dX4_spreadLeaders_4 rfl rfl ?_
  refine g_callV C [] [.long (S.J 1 a1)] (c_bit l E X S ha) (recv_at ha.1 (pF_0 ha.2)) rfl cm_X0_bit wv_X4_94 ds_X0_bit rfl rfl (Nat.le_of_ble_eq_true rfl) (by decide) (by decide) dX4_spreadLeaders_5 ?_
  rintro v9 X2 S2 ⟨rfl, rfl, rfl⟩
  refine g_lor C dX4_spreadLeaders_8 ?_
  refine g_lstore_n C [(3, .long ((S.J 1 a1) ||| (bv S a1))), (0, .ref x), (1, .ref a1), (2, .ref b1)] dX4_spreadLeaders_9 rfl (by decide) rfl ?_
  refine g_iconst C 0 dX4_spreadLeaders_10 (by decide) ?_
  refine g_istore C [(5, .int 0), (3, .long ((S.J 1 a1) ||| (bv S a1))), (0, .ref x), (1, .ref a1), (2, .ref b1)] dX4_spreadLeaders_11 (by decide) rfl ?_
  refine g_locs (lv2 := [(5, .int 0), (3, .long ((S.J 1 a1) ||| (bv S a1))), (0, .ref x), (2, .ref b1)]) [0, 1, 2, 4] rfl ?_
  have hlen := ho.2.2.1.2.2.2.1
  have loop : ∀ (n i : Nat) (S1 : HS) , i + n = ns.length → Sh S S1 → ldL (S.J 1 a1 ||| bv S a1) b1 (ns.drop i) S1 = ldL (S.J 1 a1 ||| bv S a1) b1 ns S → GW p l e (rml 4 0 0) s m args below meth c E 7 A Q X S1 0 0 13 [(5, .int (nI i)), (3, .long (S.J 1 a1 ||| bv S a1)), (0, .ref x), (2, .ref b1)] [] := by
    intro n
    induction n with
    | zero =>
      intro i S1  hin hSh hF
      have hf1 := hSh.crO' ho
      rw [List.drop_eq_nil_of_le (by omega)] at hF
      refine g_iload C 0 dX4_spreadLeaders_13 rfl ?_
      refine g_aload_n C 2 dX4_spreadLeaders_15 rfl rfl ?_
      refine g_get (v := .ref ln) C 0 hf1.1.1 (pF_4 hf1.1.2) rfl (by decide) in_X4 lk_X4_10 rfl (congrArg (fun z => some (va_rf z)) hf1.2.1) dX4_spreadLeaders_16 ?_
      refine g_callV C [] [.int (nI i)] (c_size l E X S1 hf1.2.2.1) (recv_at hf1.2.2.1.1.1 (pF_5 hf1.2.2.1.1.2)) rfl cm_Jx4a65c_size_8abf5 wv_X4_51 ds_Jx4a65c_size_8abf5 rfl rfl (Nat.le_of_ble_eq_true rfl) (by decide) (by decide) dX4_spreadLeaders_19 ?_
      rintro v9 X2 S2 ⟨rfl, rfl, rfl⟩
      refine g_icmp_ge C 71 dX4_spreadLeaders_22 (by decide) (fun h22 => ?_) (fun h22 => ?_)
      · exact g_vret C hQ rfl dX4_spreadLeaders_71 (by decide) (by decide) ⟨rfl, rfl, hF.symm⟩
      · exact absurd (nI_le (show ns.length ≤ i by omega) (by omega)) h22
    | succ n ih =>
      intro i S1  hin hSh hF
      have hf1 := hSh.crO' ho
      have hi : i < ns.length := by omega
      obtain ⟨a, hv⟩ : ∃ a, a = ns[i] := ⟨_, rfl⟩
      have ham : a ∈ ns := by rw [hv]; exact List.getElem_mem hi
      have hka : isK S1 0 a := hSh.K (ho.2.2.2 a ham)
      have hdr : ns.drop i = a :: ns.drop (i + 1) := by rw [hv]; exact List.drop_eq_getElem_cons hi
      rw [hdr] at hF
      refine g_iload C 0 dX4_spreadLeaders_13 rfl ?_
      refine g_aload_n C 2 dX4_spreadLeaders_15 rfl rfl ?_
      refine g_get (v := .ref ln) C 0 hf1.1.1 (pF_4 hf1.1.2) rfl (by decide) in_X4 lk_X4_10 rfl (congrArg (fun z => some (va_rf z)) hf1.2.1) dX4_spreadLeaders_16 ?_
      refine g_callV C [] [.int (nI i)] (c_size l E X S1 hf1.2.2.1) (recv_at hf1.2.2.1.1.1 (pF_5 hf1.2.2.1.1.2)) rfl cm_Jx4a65c_size_8abf5 wv_X4_51 ds_Jx4a65c_size_8abf5 rfl rfl (Nat.le_of_ble_eq_true rfl) (by decide) (by decide) dX4_spreadLeaders_19 ?_
      rintro v9 X2 S2 ⟨rfl, rfl, rfl⟩
      refine g_icmp_ge C 71 dX4_spreadLeaders_22 (by decide) (fun h22 => ?_) (fun h22 => ?_)
      · exact absurd ((nI_leI (by omega) (by omega)).mp h22) (by omega)
      · refine g_aload_n C 2 dX4_spreadLeaders_25 rfl rfl ?_
        refine g_get (v := .ref ln) C 0 hf1.1.1 (pF_4 hf1.1.2) rfl (by decide) in_X4 lk_X4_10 rfl (congrArg (fun z => some (va_rf z)) hf1.2.1) dX4_spreadLeaders_26 ?_
        refine g_iload C 0 dX4_spreadLeaders_29 rfl ?_
        refine g_callV C [.int (nI i)] [] (c_get l E X S1 hf1.2.2.1 hi) (recv_at hf1.2.2.1.1.1 (pF_5 hf1.2.2.1.1.2)) rfl cm_Jx4a65c_get_915e3 wv_X4_122 ds_Jx4a65c_get_915e3 rfl rfl (Nat.le_of_ble_eq_true rfl) (by decide) (by decide) dX4_spreadLeaders_31 ?_
        rintro v9 X2 S2 ⟨rfl, rfl, rfl⟩
        show GW _ _ _ _ _ _ _ _ _ _ _ _ _ _ _ _ _ _ _ _ (.ref ns[i] :: _)
        rw [← hv]
        refine g_cast C hka.1 (pF_0 hka.2) rfl kl_X4_59 dX4_spreadLeaders_34 ?_
        refine g_astore C [(6, .ref a), (5, .int (nI i)), (3, .long (S.J 1 a1 ||| bv S a1)), (0, .ref x), (2, .ref b1)] dX4_spreadLeaders_37 (by decide) rfl ?_
        refine g_aload C 0 dX4_spreadLeaders_39 rfl ?_
        refine g_aload_n C 4 dX4_spreadLeaders_41 rfl rfl ?_
        refine g_acmp_eq (rx := some a) (ry := some b1) C 54 dX4_spreadLeaders_42 (by decide) (fun h42 => ?_) (fun h42 => ?_)
        · refine g_aload C 0 dX4_spreadLeaders_54 rfl ?_
          refine g_dup C dX4_spreadLeaders_56 rfl ?_
          refine g_get C 7 hka.1 (pF_0 hka.2) rfl (by decide) in_X0 lk_X4_185 rfl rfl dX4_spreadLeaders_57 ?_
          refine g_lload_n C 2 dX4_spreadLeaders_60 rfl rfl ?_
          refine g_lor C dX4_spreadLeaders_61 ?_
          refine g_put (ty := .long) (S2 := (S1.sJ 1 a ((S1.J 1 a) ||| (S.J 1 a1 ||| bv S a1)))) C 7 hka.1 (pF_0 hka.2) rfl (by decide) in_X0 tyX0_ok nmX0 lk_X4_185 rfl rfl (by decide +kernel) rfl rfl (Nat.le_of_ble_eq_true rfl) rfl (pu_J1 (S := S1) hka.2 ((S1.J 1 a) ||| (S.J 1 a1 ||| bv S a1))) dX4_spreadLeaders_62 ?_
          refine g_iinc C (nI (i + 1)) 1 [(5, .int (nI (i + 1))), (6, .ref a), (3, .long (S.J 1 a1 ||| bv S a1)), (0, .ref x), (2, .ref b1)] dX4_spreadLeaders_65 rfl (nI_1 i) (by decide) rfl ?_
          refine g_goto C 13 dX4_spreadLeaders_68 (by decide) ?_
          refine g_locs (lv2 := [(5, .int (nI (i + 1))), (3, .long (S.J 1 a1 ||| bv S a1)), (0, .ref x), (2, .ref b1)]) [0, 2, 3, 4] rfl ?_
          exact ih (i + 1) _ (by omega) hSh.sJ (by rw [ldL, if_pos (by first | exact Or.inl (Option.some.inj h42) | exact Or.inr (bI_1 h51))] at hF; exact hF)
        · refine g_aload C 0 dX4_spreadLeaders_45 rfl ?_
          refine g_aload_n C 4 dX4_spreadLeaders_47 rfl rfl ?_
          refine g_callV C [.ref b1] [] (c_isLedToBy l E X S1 hka (hSh.K hb)) (recv_at hka.1 (pF_0 hka.2)) rfl cm_X0_isLedToBy wv_X4_99 ds_X0_isLedToBy rfl rfl (Nat.le_of_ble_eq_true rfl) (by decide) (by decide) dX4_spreadLeaders_48 ?_
          rintro v9 X2 S2 ⟨rfl, rfl, rfl⟩
          refine g_if_eq C 65 dX4_spreadLeaders_51 (by decide) (fun h51 => ?_) (fun h51 => ?_)
          · refine g_iinc C (nI (i + 1)) 1 [(5, .int (nI (i + 1))), (6, .ref a), (3, .long (S.J 1 a1 ||| bv S a1)), (0, .ref x), (2, .ref b1)] dX4_spreadLeaders_65 rfl (nI_1 i) (by decide) rfl ?_
            refine g_goto C 13 dX4_spreadLeaders_68 (by decide) ?_
            refine g_locs (lv2 := [(5, .int (nI (i + 1))), (3, .long (S.J 1 a1 ||| bv S a1)), (0, .ref x), (2, .ref b1)]) [0, 2, 3, 4] rfl ?_
            exact ih (i + 1) S1 (by omega) hSh (by rw [ldL, if_neg (fun q => q.elim (fun z => h42 (congrArg some z)) (fun z => by rw [bI_0 h51] at z; cases z))] at hF; exact hF)
          · refine g_aload C 0 dX4_spreadLeaders_54 rfl ?_
            refine g_dup C dX4_spreadLeaders_56 rfl ?_
            refine g_get C 7 hka.1 (pF_0 hka.2) rfl (by decide) in_X0 lk_X4_185 rfl rfl dX4_spreadLeaders_57 ?_
            refine g_lload_n C 2 dX4_spreadLeaders_60 rfl rfl ?_
            refine g_lor C dX4_spreadLeaders_61 ?_
            refine g_put (ty := .long) (S2 := (S1.sJ 1 a ((S1.J 1 a) ||| (S.J 1 a1 ||| bv S a1)))) C 7 hka.1 (pF_0 hka.2) rfl (by decide) in_X0 tyX0_ok nmX0 lk_X4_185 rfl rfl (by decide +kernel) rfl rfl (Nat.le_of_ble_eq_true rfl) rfl (pu_J1 (S := S1) hka.2 ((S1.J 1 a) ||| (S.J 1 a1 ||| bv S a1))) dX4_spreadLeaders_62 ?_
            refine g_iinc C (nI (i + 1)) 1 [(5, .int (nI (i + 1))), (6, .ref a), (3, .long (S.J 1 a1 ||| bv S a1)), (0, .ref x), (2, .ref b1)] dX4_spreadLeaders_65 rfl (nI_1 i) (by decide) rfl ?_
            refine g_goto C 13 dX4_spreadLeaders_68 (by decide) ?_
            refine g_locs (lv2 := [(5, .int (nI (i + 1))), (3, .long (S.J 1 a1 ||| bv S a1)), (0, .ref x), (2, .ref b1)]) [0, 2, 3, 4] rfl ?_
            exact ih (i + 1) _ (by omega) hSh.sJ (by rw [ldL, if_pos (by first | exact Or.inl (Option.some.inj h42) | exact Or.inr (bI_1 h51))] at hF; exact hF)
  exact loop ns.length 0 S (by omega) Sh.rf rfl
def srt (c : Nat → Int32) (l : List Nat) (i : Nat) : Prop := ∀ p q, p < q → q < i → c (l.getD p 0) ≤ c (l.getD q 0)
def hol (c : Nat → Int32) (l : List Nat) (i j mv : Nat) : Prop := (∀ p q, p < q → q ≤ i → p ≠ j → q ≠ j → c (l.getD p 0) ≤ c (l.getD q 0)) ∧ ∀ q, j < q → q ≤ i → c mv < c (l.getD q 0)
theorem getD_set {l : List Nat} {j v q : Nat} (hj : j < l.length) : (l.set j v).getD q 0 = if q = j then v else l.getD q 0 := by
  rw [List.getD_eq_getElem?_getD, List.getElem?_set]
  by_cases c : j = q
  · rw [if_pos c, if_pos c.symm, if_pos (c ▸ hj)]; rfl
  · rw [if_neg c, if_neg (Ne.symm c), List.getD_eq_getElem?_getD]
theorem hol_start {c : Nat → Int32} {l : List Nat} {i mv : Nat} (h : srt c l i) : hol c l i i mv := ⟨fun p q hp hq _ hqi => h p q hp (by omega), fun q h1 h2 => absurd h1 (by omega)⟩
theorem hol_step {c : Nat → Int32} {l : List Nat} {i j mv : Nat} (h : hol c l i j mv) (h0 : 0 < j) (hj : j ≤ i) (hi : i < l.length) (hc : c mv < c (l.getD (j - 1) 0)) : hol c (l.set j (l.getD (j - 1) 0)) i (j - 1) mv := by
  have hl : j < l.length := by omega
  refine ⟨fun p q hp hq hpj hqj => ?_, fun q h1 h2 => ?_⟩
  · rw [getD_set hl, getD_set hl]
    by_cases e1 : p = j
    · rw [if_pos e1, if_neg (by omega)]; exact h.1 _ _ (by omega) hq (by omega) (by omega)
    · rw [if_neg e1]
      by_cases e2 : q = j
      · rw [if_pos e2]; exact h.1 _ _ (by omega) (by omega) e1 (by omega)
      · rw [if_neg e2]; exact h.1 _ _ hp hq e1 e2
  · rw [getD_set hl]
    by_cases e2 : q = j
    · rw [if_pos e2]; exact hc
    · rw [if_neg e2]; exact h.2 q (by omega) h2
theorem hol_end {c : Nat → Int32} {l : List Nat} {i j mv : Nat} (h : hol c l i j mv) (hj : j ≤ i) (hi : i < l.length) (he : j = 0 ∨ c (l.getD (j - 1) 0) ≤ c mv) : srt c (l.set j mv) (i + 1) := by
  have hl : j < l.length := by omega
  intro p q hp hq
  rw [getD_set hl, getD_set hl]
  by_cases e1 : p = j
  · rw [if_pos e1, if_neg (by omega)]; exact Int32.le_of_lt (h.2 q (by omega) (by omega))
  · rw [if_neg e1]
    by_cases e2 : q = j
    · rw [if_pos e2]
      rcases he with he | he
      · omega
      · by_cases e3 : p = j - 1
        · rw [e3]; exact he
        · exact Int32.le_trans (h.1 p (j - 1) (by omega) (by omega) e1 (by omega)) he
    · rw [if_neg e2]; exact h.1 _ _ hp (by omega) e1 e2
theorem prm_step {l fs : List Nat} {j mv : Nat} (h : (l.set j mv).Perm fs) (h0 : 0 < j) (hj : j < l.length) : ((l.set j (l.getD (j - 1) 0)).set (j - 1) mv).Perm fs := by
  refine List.Perm.trans ?_ h
  have := List.set_set_perm (as := l.set j mv) (i := j) (j := j - 1) (by simpa using hj) (by simp; omega)
  simp only [List.set_set, List.getElem_set_self] at this
  rw [List.getElem_set_ne (by omega)] at this
  rw [show l.getD (j - 1) 0 = l[j - 1]'(by omega) by simp [List.getD_eq_getElem?_getD, List.getElem?_eq_getElem (show j - 1 < l.length by omega)]]
  exact this
/-- the flow's order is another one now: by the number of leaders -/
def Srt (E : Ev) (X : va_W) (S : HS) (lf rf : Nat) (fs : List Nat) : Option Value → va_W → HS → Prop := fun v X2 S2 => none = v ∧ X = X2 ∧ ∃ r2 l2, isAL E S2 lf r2 l2 ∧ l2.Perm fs ∧ Fr S S2 lf rf ∧ (r2 = rf ∨ r2 ∉ S.L) ∧ srt (fun a => bcnt (S.J 1 a)) l2 l2.length
set_option maxRecDepth 100000 in
theorem c_sortFlow (l : Launch) (E : Ev) (X : va_W) (S : HS) {x lf rf : Nat} {fs : List Nat} (hf : crF E S x lf rf fs) : Ctr l yX4_sortFlow (Cond.code yX4_sortFlow cX4_sortFlow 4 none) 4 0 0 E [.ref x] X S (Srt E X S lf rf fs) := by
  refine Ctr.ofG (by decide) [(0, .ref x)] rfl (Nat.le_of_ble_eq_true rfl) ?_
  intro p e s m args below meth c A Q C hQ
  refine g_iconst C 1 dX4_sortFlow_0 (by decide) ?_
  refine g_istore_n C [(1, .int 1), (0, .ref x)] dX4_sortFlow_1 rfl (by decide) rfl ?_
  have hlen := hf.2.2.1.2.2.2.1
  have hmem : ∀ (S1 : HS) (l1 : List Nat), Fr S S1 lf rf → (∀ a ∈ l1, a ∈ fs) → ∀ a ∈ l1, isK S1 0 a ∧ S1.J 1 a = S.J 1 a := fun S1 l1 hfr hp a ha => ⟨hfr.K (hf.2.2.2 a (hp a ha)), hfr.2.2.2.1 1 a (hf.2.2.2 a (hp a ha)).1⟩
  have loop : ∀ (n i : Nat) (S1 : HS) (r1 : Nat) (l1 : List Nat), fs.length ≤ i + n → 1 ≤ i → i ≤ fs.length + 1 → Fr S S1 lf rf → (r1 = rf ∨ r1 ∉ S.L) → isAL E S1 lf r1 l1 → l1.Perm fs → srt (fun a => bcnt (S.J 1 a)) l1 (min i l1.length) → GW p l e (rml 4 0 0) s m args below meth c E 4 A Q X S1 0 0 2 [(1, .int (nI i)), (0, .ref x)] [] := by
    intro n
    induction n with
    | zero =>
      intro i S1 r1 l1 hin h1i hi101 hfr hr1 hA hpm hsr
      have hl1 : l1.length = fs.length := hpm.length_eq
      have hx1 : isK S1 4 x := hfr.K hf.1
      have hfl1 : S1.P 7 x = some lf := (hfr.2.2.2.2.1 7 x hf.1.1 (Or.inr (by decide))).trans hf.2.1
      by_cases hiL : fs.length ≤ i
      · have hi100 : i < 2 ^ 31 := by omega
        refine g_iload_n C 0 dX4_sortFlow_2 rfl rfl ?_
        refine g_aload_n C 1 dX4_sortFlow_3 rfl rfl ?_
        refine g_get (v := .ref lf) C 1 hx1.1 (pF_4 hx1.2) rfl (by decide) in_X4 lk_X4_16 rfl (congrArg (fun z => some (va_rf z)) hfl1) dX4_sortFlow_4 ?_
        refine g_callV C [] [.int (nI i)] (c_size l E X S1 hA) (recv_at hA.1.1 (pF_5 hA.1.2)) rfl cm_Jx4a65c_size_8abf5 wv_X4_51 ds_Jx4a65c_size_8abf5 rfl rfl (Nat.le_of_ble_eq_true rfl) (by decide) (by decide) dX4_sortFlow_7 ?_
        rintro v9 X2 S2 ⟨rfl, rfl, rfl⟩
        refine g_icmp_ge C 98 dX4_sortFlow_10 (by decide) (fun h10 => ?_) (fun h10 => ?_)
        · exact g_vret C hQ rfl dX4_sortFlow_98 (by decide) (by decide) ⟨rfl, rfl, r1, l1, hA, hpm, hfr, hr1, by rw [Nat.min_eq_right (by omega)] at hsr; exact hsr⟩
        · exact absurd (nI_le (show l1.length ≤ i by omega) (by omega)) h10
      · exact absurd hin (by omega)
    | succ n ih =>
      intro i S1 r1 l1 hin h1i hi101 hfr hr1 hA hpm hsr
      have hl1 : l1.length = fs.length := hpm.length_eq
      have hx1 : isK S1 4 x := hfr.K hf.1
      have hfl1 : S1.P 7 x = some lf := (hfr.2.2.2.2.1 7 x hf.1.1 (Or.inr (by decide))).trans hf.2.1
      by_cases hiL : fs.length ≤ i
      · have hi100 : i < 2 ^ 31 := by omega
        refine g_iload_n C 0 dX4_sortFlow_2 rfl rfl ?_
        refine g_aload_n C 1 dX4_sortFlow_3 rfl rfl ?_
        refine g_get (v := .ref lf) C 1 hx1.1 (pF_4 hx1.2) rfl (by decide) in_X4 lk_X4_16 rfl (congrArg (fun z => some (va_rf z)) hfl1) dX4_sortFlow_4 ?_
        refine g_callV C [] [.int (nI i)] (c_size l E X S1 hA) (recv_at hA.1.1 (pF_5 hA.1.2)) rfl cm_Jx4a65c_size_8abf5 wv_X4_51 ds_Jx4a65c_size_8abf5 rfl rfl (Nat.le_of_ble_eq_true rfl) (by decide) (by decide) dX4_sortFlow_7 ?_
        rintro v9 X2 S2 ⟨rfl, rfl, rfl⟩
        refine g_icmp_ge C 98 dX4_sortFlow_10 (by decide) (fun h10 => ?_) (fun h10 => ?_)
        · exact g_vret C hQ rfl dX4_sortFlow_98 (by decide) (by decide) ⟨rfl, rfl, r1, l1, hA, hpm, hfr, hr1, by rw [Nat.min_eq_right (by omega)] at hsr; exact hsr⟩
        · exact absurd (nI_le (show l1.length ≤ i by omega) (by omega)) h10
      · have hi : i < l1.length := by omega
        rw [Nat.min_eq_left (by omega)] at hsr
        obtain ⟨mv, hmv⟩ : ∃ mv, mv = l1[i] := ⟨_, rfl⟩
        have hmm : mv ∈ fs := hpm.mem_iff.mp (by rw [hmv]; exact List.getElem_mem hi)
        have hkm : isK S1 0 mv := hfr.K (hf.2.2.2 mv hmm)
        refine g_iload_n C 0 dX4_sortFlow_2 rfl rfl ?_
        refine g_aload_n C 1 dX4_sortFlow_3 rfl rfl ?_
        refine g_get (v := .ref lf) C 1 hx1.1 (pF_4 hx1.2) rfl (by decide) in_X4 lk_X4_16 rfl (congrArg (fun z => some (va_rf z)) hfl1) dX4_sortFlow_4 ?_
        refine g_callV C [] [.int (nI i)] (c_size l E X S1 hA) (recv_at hA.1.1 (pF_5 hA.1.2)) rfl cm_Jx4a65c_size_8abf5 wv_X4_51 ds_Jx4a65c_size_8abf5 rfl rfl (Nat.le_of_ble_eq_true rfl) (by decide) (by decide) dX4_sortFlow_7 ?_
        rintro v9 X2 S2 ⟨rfl, rfl, rfl⟩
        refine g_icmp_ge C 98 dX4_sortFlow_10 (by decide) (fun h10 => ?_) (fun h10 => ?_)
        · exact absurd ((nI_leI (by omega) (by omega)).mp h10) (by omega)
        · refine g_aload_n C 1 dX4_sortFlow_13 rfl rfl ?_
          refine g_get (v := .ref lf) C 1 hx1.1 (pF_4 hx1.2) rfl (by decide) in_X4 lk_X4_16 rfl (congrArg (fun z => some (va_rf z)) hfl1) dX4_sortFlow_14 ?_
          refine g_iload_n C 0 dX4_sortFlow_17 rfl rfl ?_
          refine g_callV C [.int (nI i)] [] (c_get l E X S1 hA hi) (recv_at hA.1.1 (pF_5 hA.1.2)) rfl cm_Jx4a65c_get_915e3 wv_X4_122 ds_Jx4a65c_get_915e3 rfl rfl (Nat.le_of_ble_eq_true rfl) (by decide) (by decide) dX4_sortFlow_18 ?_
          rintro v9 X2 S2 ⟨rfl, rfl, rfl⟩
          show GW _ _ _ _ _ _ _ _ _ _ _ _ _ _ _ _ _ _ _ _ (.ref l1[i] :: _)
          rw [← hmv]
          refine g_cast C hkm.1 (pF_0 hkm.2) rfl kl_X4_59 dX4_sortFlow_21 ?_
          refine g_astore_n C [(2, .ref mv), (1, .int (nI i)), (0, .ref x)] dX4_sortFlow_24 rfl (by decide) rfl ?_
          refine g_iload_n C 1 dX4_sortFlow_25 rfl rfl ?_
          refine g_istore_n C [(3, .int (nI i)), (2, .ref mv), (1, .int (nI i)), (0, .ref x)] dX4_sortFlow_26 rfl (by decide) rfl ?_
          have inner : ∀ (j : Nat) (S2 : HS) (r2 : Nat) (l2 : List Nat), j ≤ i → l2.length = l1.length → Fr S S2 lf rf → (r2 = rf ∨ r2 ∉ S.L) → isAL E S2 lf r2 l2 → (l2.set j mv).Perm fs → (∀ a ∈ l2, a ∈ fs) → hol (fun a => bcnt (S.J 1 a)) l2 i j mv → GW p l e (rml 4 0 0) s m args below meth c E 4 A Q X S2 0 0 27 [(3, .int (nI j)), (1, .int (nI i)), (2, .ref mv), (0, .ref x)] [] := by
            intro j
            induction j with
            | zero =>
              intro S2 r2 l2 hji hll hf2 hr2 hA2 hp2 hm2 hh
              have hx2 : isK S2 4 x := hf2.K hf.1
              have hfl2 : S2.P 7 x = some lf := (hf2.2.2.2.2.1 7 x hf.1.1 (Or.inr (by decide))).trans hf.2.1
              have hkm2 : isK S2 0 mv := hf2.K (hf.2.2.2 mv hmm)
              have hJm : S2.J 1 mv = S.J 1 mv := hf2.2.2.2.1 1 mv (hf.2.2.2 mv hmm).1
              have hi2 : i < l2.length := by omega
              refine g_iload_n C 0 dX4_sortFlow_27 rfl rfl ?_
              refine g_if_le C 82 dX4_sortFlow_28 (by decide) (fun h28 => ?_) (fun h28 => ?_)
              · refine g_aload_n C 3 dX4_sortFlow_82 rfl rfl ?_
                refine g_get (v := .ref lf) C 1 hx2.1 (pF_4 hx2.2) rfl (by decide) in_X4 lk_X4_16 rfl (congrArg (fun z => some (va_rf z)) hfl2) dX4_sortFlow_83 ?_
                refine g_iload_n C 0 dX4_sortFlow_86 rfl rfl ?_
                refine g_aload_n C 2 dX4_sortFlow_87 rfl rfl ?_
                refine g_callV C [.int (nI 0), .ref mv] [] (c_set l E X S2 (i := 0) hA2 (by omega) ⟨hkm2.1, by rw [hkm2.2]; decide⟩) (recv_at hA2.1.1 (pF_5 hA2.1.2)) rfl cm_Jx4a65c_set_bcc79 wv_X4_191 ds_Jx4a65c_set_bcc79 rfl rfl (Nat.le_of_ble_eq_true rfl) (by decide) (by decide) dX4_sortFlow_88 ?_
                rintro v9 X3 S3 ⟨rfl, rfl, r3, hA3, hf3, hr3⟩
                refine g_pop C dX4_sortFlow_91 rfl ?_
                refine g_iinc C (nI (i + 1)) 1 [(1, .int (nI (i + 1))), (3, .int (nI 0)), (2, .ref mv), (0, .ref x)] dX4_sortFlow_92 rfl (nI_1 i) (by decide) rfl ?_
                refine g_goto C 2 dX4_sortFlow_95 (by decide) ?_
                refine g_locs (lv2 := [(1, .int (nI (i + 1))), (0, .ref x)]) [0, 3] rfl ?_
                exact ih (i + 1) S3 r3 _ (by omega) (by omega) (by omega) (hf2.trans (r1 := r2) hf3 hr2) (by rcases hr3 with q | q; rw [q]; exact hr2; exact Or.inr (fun z => q (hf2.mem z))) hA3 hp2 (by rw [List.length_set, Nat.min_eq_left (by omega)]; exact hol_end hh (by omega) hi2 (Or.inl rfl))
              · exact absurd (show nI 0 ≤ nI 0 from Int32.le_refl _) h28
            | succ j jh =>
              intro S2 r2 l2 hji hll hf2 hr2 hA2 hp2 hm2 hh
              have hx2 : isK S2 4 x := hf2.K hf.1
              have hfl2 : S2.P 7 x = some lf := (hf2.2.2.2.2.1 7 x hf.1.1 (Or.inr (by decide))).trans hf.2.1
              have hkm2 : isK S2 0 mv := hf2.K (hf.2.2.2 mv hmm)
              have hJm : S2.J 1 mv = S.J 1 mv := hf2.2.2.2.1 1 mv (hf.2.2.2 mv hmm).1
              have hi2 : i < l2.length := by omega
              obtain ⟨uu, hju⟩ : ∃ uu, uu = l2.getD j 0 := ⟨_, rfl⟩
              have hjl : j < l2.length := by omega
              have hju2 : uu = l2[j] := by rw [hju]; simp [List.getD_eq_getElem?_getD, List.getElem?_eq_getElem hjl]
              have hum : uu ∈ fs := hm2 uu (by rw [hju2]; exact List.getElem_mem hjl)
              have hku : isK S2 0 uu := hf2.K (hf.2.2.2 uu hum)
              have hJu : S2.J 1 uu = S.J 1 uu := hf2.2.2.2.1 1 uu (hf.2.2.2 uu hum).1
              refine g_iload_n C 0 dX4_sortFlow_27 rfl rfl ?_
              refine g_if_le C 82 dX4_sortFlow_28 (by decide) (fun h28 => ?_) (fun h28 => ?_)
              · exact absurd h28 (Int32.not_le.mpr (show nI 0 < nI (j + 1) from nI_lt (by omega) (by omega)))
              · refine g_aload_n C 3 dX4_sortFlow_31 rfl rfl ?_
                refine g_get (v := .ref lf) C 1 hx2.1 (pF_4 hx2.2) rfl (by decide) in_X4 lk_X4_16 rfl (congrArg (fun z => some (va_rf z)) hfl2) dX4_sortFlow_32 ?_
                refine g_iload_n C 0 dX4_sortFlow_35 rfl rfl ?_
                refine g_iconst C 1 dX4_sortFlow_36 (by decide) ?_
                refine g_isub C dX4_sortFlow_37 ?_
                rw [nI_pred]
                refine g_callV C [.int (nI j)] [] (c_get l E X S2 hA2 hjl) (recv_at hA2.1.1 (pF_5 hA2.1.2)) rfl cm_Jx4a65c_get_915e3 wv_X4_122 ds_Jx4a65c_get_915e3 rfl rfl (Nat.le_of_ble_eq_true rfl) (by decide) (by decide) dX4_sortFlow_38 ?_
                rintro v9 X3 S3 ⟨rfl, rfl, rfl⟩
                show GW _ _ _ _ _ _ _ _ _ _ _ _ _ _ _ _ _ _ _ _ (.ref l2[j] :: _)
                rw [← hju2]
                refine g_cast C hku.1 (pF_0 hku.2) rfl kl_X4_59 dX4_sortFlow_41 ?_
                refine g_callV C [] [] (c_leaderCount l E X S2 hku) (recv_at hku.1 (pF_0 hku.2)) rfl cm_X0_leaderCount wv_X4_188 ds_X0_leaderCount rfl rfl (Nat.le_of_ble_eq_true rfl) (by decide) (by decide) dX4_sortFlow_44 ?_
                rintro v9 X3 S3 ⟨rfl, rfl, rfl⟩
                show GW _ _ _ _ _ _ _ _ _ _ _ _ _ _ _ _ _ _ _ _ (.int (bcnt (S2.J 1 uu)) :: _)
                rw [hJu]
                refine g_aload_n C 2 dX4_sortFlow_47 rfl rfl ?_
                refine g_callV C [] [.int (bcnt (S.J 1 uu))] (c_leaderCount l E X S2 hkm2) (recv_at hkm2.1 (pF_0 hkm2.2)) rfl cm_X0_leaderCount wv_X4_188 ds_X0_leaderCount rfl rfl (Nat.le_of_ble_eq_true rfl) (by decide) (by decide) dX4_sortFlow_48 ?_
                rintro v9 X3 S3 ⟨rfl, rfl, rfl⟩
                show GW _ _ _ _ _ _ _ _ _ _ _ _ _ _ _ _ _ _ _ _ (.int (bcnt (S2.J 1 mv)) :: _)
                rw [hJm]
                refine g_icmp_le C 82 dX4_sortFlow_51 (by decide) (fun h51 => ?_) (fun h51 => ?_)
                · refine g_aload_n C 3 dX4_sortFlow_82 rfl rfl ?_
                  refine g_get (v := .ref lf) C 1 hx2.1 (pF_4 hx2.2) rfl (by decide) in_X4 lk_X4_16 rfl (congrArg (fun z => some (va_rf z)) hfl2) dX4_sortFlow_83 ?_
                  refine g_iload_n C 0 dX4_sortFlow_86 rfl rfl ?_
                  refine g_aload_n C 2 dX4_sortFlow_87 rfl rfl ?_
                  refine g_callV C [.int (nI (j + 1)), .ref mv] [] (c_set l E X S2 (i := (j + 1)) hA2 (by omega) ⟨hkm2.1, by rw [hkm2.2]; decide⟩) (recv_at hA2.1.1 (pF_5 hA2.1.2)) rfl cm_Jx4a65c_set_bcc79 wv_X4_191 ds_Jx4a65c_set_bcc79 rfl rfl (Nat.le_of_ble_eq_true rfl) (by decide) (by decide) dX4_sortFlow_88 ?_
                  rintro v9 X3 S3 ⟨rfl, rfl, r3, hA3, hf3, hr3⟩
                  refine g_pop C dX4_sortFlow_91 rfl ?_
                  refine g_iinc C (nI (i + 1)) 1 [(1, .int (nI (i + 1))), (3, .int (nI (j + 1))), (2, .ref mv), (0, .ref x)] dX4_sortFlow_92 rfl (nI_1 i) (by decide) rfl ?_
                  refine g_goto C 2 dX4_sortFlow_95 (by decide) ?_
                  refine g_locs (lv2 := [(1, .int (nI (i + 1))), (0, .ref x)]) [0, 3] rfl ?_
                  exact ih (i + 1) S3 r3 _ (by omega) (by omega) (by omega) (hf2.trans (r1 := r2) hf3 hr2) (by rcases hr3 with q | q; rw [q]; exact hr2; exact Or.inr (fun z => q (hf2.mem z))) hA3 hp2 (by rw [List.length_set, Nat.min_eq_left (by omega)]; exact hol_end hh (by omega) hi2 (Or.inr (by rw [Nat.add_sub_cancel]; show bcnt (S.J 1 (l2.getD j 0)) ≤ bcnt (S.J 1 mv); rw [← hju]; exact h51)))
                · refine g_aload_n C 3 dX4_sortFlow_54 rfl rfl ?_
                  refine g_get (v := .ref lf) C 1 hx2.1 (pF_4 hx2.2) rfl (by decide) in_X4 lk_X4_16 rfl (congrArg (fun z => some (va_rf z)) hfl2) dX4_sortFlow_55 ?_
                  refine g_iload_n C 0 dX4_sortFlow_58 rfl rfl ?_
                  refine g_aload_n C 3 dX4_sortFlow_59 rfl rfl ?_
                  refine g_get (v := .ref lf) C 1 hx2.1 (pF_4 hx2.2) rfl (by decide) in_X4 lk_X4_16 rfl (congrArg (fun z => some (va_rf z)) hfl2) dX4_sortFlow_60 ?_
                  refine g_iload_n C 0 dX4_sortFlow_63 rfl rfl ?_
                  refine g_iconst C 1 dX4_sortFlow_64 (by decide) ?_
                  refine g_isub C dX4_sortFlow_65 ?_
                  rw [nI_pred]
                  refine g_callV C [.int (nI j)] [.int (nI (j + 1)), .ref lf] (c_get l E X S2 hA2 hjl) (recv_at hA2.1.1 (pF_5 hA2.1.2)) rfl cm_Jx4a65c_get_915e3 wv_X4_122 ds_Jx4a65c_get_915e3 rfl rfl (Nat.le_of_ble_eq_true rfl) (by decide) (by decide) dX4_sortFlow_66 ?_
                  rintro v9 X3 S3 ⟨rfl, rfl, rfl⟩
                  show GW _ _ _ _ _ _ _ _ _ _ _ _ _ _ _ _ _ _ _ _ (.ref l2[j] :: _)
                  rw [← hju2]
                  refine g_cast C hku.1 (pF_0 hku.2) rfl kl_X4_59 dX4_sortFlow_69 ?_
                  refine g_callV C [.int (nI (j + 1)), .ref uu] [] (c_set l E X S2 (i := j + 1) hA2 (by omega) ⟨hku.1, by rw [hku.2]; decide⟩) (recv_at hA2.1.1 (pF_5 hA2.1.2)) rfl cm_Jx4a65c_set_bcc79 wv_X4_191 ds_Jx4a65c_set_bcc79 rfl rfl (Nat.le_of_ble_eq_true rfl) (by decide) (by decide) dX4_sortFlow_72 ?_
                  rintro v9 X3 S3 ⟨rfl, rfl, r3, hA3, hf3, hr3⟩
                  refine g_pop C dX4_sortFlow_75 rfl ?_
                  refine g_iinc C (nI j) 0 [(3, .int (nI j)), (1, .int (nI i)), (2, .ref mv), (0, .ref x)] dX4_sortFlow_76 rfl (by rw [nI_dec]; exact nI_pred j) (by decide) rfl ?_
                  refine g_goto C 27 dX4_sortFlow_79 (by decide) ?_
                  have hgd : l2.getD (j + 1 - 1) 0 = uu := by rw [Nat.add_sub_cancel]; exact hju.symm
                  exact jh S3 r3 _ (by omega) (by rw [List.length_set]; exact hll) (hf2.trans (r1 := r2) hf3 hr2) (by rcases hr3 with q | q; rw [q]; exact hr2; exact Or.inr (fun z => q (hf2.mem z))) hA3 (by have := prm_step hp2 (by omega) (by omega); rw [hgd, Nat.add_sub_cancel] at this; exact this) (fun a ha => by rcases List.mem_or_eq_of_mem_set ha with q | q; exact hm2 a q; rw [q]; exact hum) (by have := hol_step hh (by omega) hji hi2 (by rw [hgd]; exact Int32.not_le.mp h51); rw [hgd, Nat.add_sub_cancel] at this; exact this)
          refine g_locs (lv2 := [(3, .int (nI i)), (1, .int (nI i)), (2, .ref mv), (0, .ref x)]) [0, 2, 1, 3] rfl ?_
          exact inner i S1 r1 l1 (Nat.le_refl _) rfl hfr hr1 hA (by rw [hmv, List.set_getElem_self]; exact hpm) (fun a ha => hpm.mem_iff.mp ha) (hol_start hsr)
  exact loop fs.length 1 S rf fs (by omega) (Nat.le_refl _) (by omega) Fr.rf (Or.inl rfl) hf.2.2.1 (List.Perm.refl _) (fun p q h1 h2 => absurd h2 (by omega))
