/-- only the thing at a has changed; new things may have come -/
def FrA (S S2 : HS) (a : Nat) : Prop := (∃ L9, S2.L = S.L ++ L9) ∧ (∀ b ∈ S.L, S2.K b = S.K b) ∧ (∀ b ∈ S.L, b ≠ a → (∀ k, S2.I k b = S.I k b) ∧ (∀ k, S2.J k b = S.J k b) ∧ ∀ k, S2.P k b = S.P k b) ∧ ∀ b ∈ S.L, S2.N b = S.N b ∧ S2.R b = S.R b ∧ S2.O b = S.O b
/-- a new net at a: no sources, no stages -/
def NetI (E : Ev) (X : va_W) (S : HS) (a : Nat) (nu e0 la sl : Int32) : Option Value → va_W → HS → Prop := fun v X2 S2 => none = v ∧ X = X2 ∧ ∃ q1 q2, q1 ∉ S.L ∧ q2 ∉ S.L ∧ q1 ≠ q2 ∧ isAL E S2 q1 (E.sa 0) [] ∧ isAL E S2 q2 (E.sa 0) [] ∧ isK S2 0 a ∧ S2.P 0 a = some q1 ∧ S2.P 1 a = some q2 ∧ S2.J 0 a = 0 ∧ S2.J 1 a = 0 ∧ S2.I 4 a = -1 ∧ S2.I 5 a = -1 ∧ S2.I 6 a = 0 ∧ S2.I 7 a = 0 ∧ S2.I 0 a = nu ∧ S2.I 1 a = e0 ∧ S2.I 2 a = la ∧ S2.I 3 a = sl ∧ FrA S S2 a
theorem sI_at {S : HS} {k a k' b : Nat} {v : Int32} : (S.sI k a v).I k' b = if k' = k ∧ b = a then v else S.I k' b := rfl
theorem sJ_I {S : HS} {k a : Nat} {v : Int64} : (S.sJ k a v).I = S.I := rfl
def niA (E : Ev) (S : HS) (a q1 : Nat) : HS := ((((S.nO q1 5).sI 16 q1 0).sP 10 q1 (some (E.sa 0))).sP 0 a (some q1))
def niB (E : Ev) (S : HS) (a q2 : Nat) : HS := ((((S.nO q2 5).sI 16 q2 0).sP 10 q2 (some (E.sa 0))).sP 1 a (some q2))
def niC (S : HS) (a : Nat) (nu e0 la sl : Int32) : HS := ((((((((((S.sJ 0 a 0).sJ 1 a 0).sI 4 a (-1)).sI 5 a (-1)).sI 6 a 0).sI 7 a 0).sI 0 a nu).sI 1 a e0).sI 2 a la).sI 3 a sl)
theorem niC_I {S : HS} {a b k : Nat} {nu e0 la sl : Int32} (h : b ≠ a ∨ 7 < k) : (niC S a nu e0 la sl).I k b = S.I k b := by
  show u2 (u2 (u2 (u2 (u2 (u2 (u2 (u2 S.I 4 a _) 5 a _) 6 a _) 7 a _) 0 a _) 1 a _) 2 a _) 3 a _ k b = _
  rcases h with h | h
  · simp only [u2, h, and_false, if_false]
  · have e : ∀ j, j ≤ 7 → ¬ (k = j ∧ b = a) := fun j hj q => by omega
    simp only [u2, e 0 (by omega), e 1 (by omega), e 2 (by omega), e 3 (by omega), e 4 (by omega), e 5 (by omega), e 6 (by omega), e 7 (by omega), if_false]
theorem niC_J {S : HS} {a b k : Nat} {nu e0 la sl : Int32} (h : b ≠ a) : (niC S a nu e0 la sl).J k b = S.J k b := by
  show u2 (u2 S.J 0 a 0) 1 a 0 k b = _
  rw [u2_ne2 h, u2_ne2 h]
theorem niA_at {E : Ev} {S : HS} {a q1 b : Nat} (hb : b ≠ q1) : (∀ k, (niA E S a q1).I k b = S.I k b) ∧ (∀ k, (niA E S a q1).J k b = S.J k b) ∧ (∀ k, (b ≠ a ∨ k ≠ 0) → (niA E S a q1).P k b = S.P k b) := by
  refine ⟨fun k => ?_, fun k => if_neg hb, fun k h => ?_⟩
  · show u2 (S.nO q1 5).I 16 q1 0 k b = _
    rw [u2_ne2 hb]; exact if_neg hb
  · show u2 (u2 (S.nO q1 5).P 10 q1 _) 0 a _ k b = _
    rcases h with h | h
    · rw [u2_ne2 h, u2_ne2 hb]; exact if_neg hb
    · rw [u2_ne1 h, u2_ne2 hb]; exact if_neg hb
theorem niB_at {E : Ev} {S : HS} {a q1 b : Nat} (hb : b ≠ q1) : (∀ k, (niB E S a q1).I k b = S.I k b) ∧ (∀ k, (niB E S a q1).J k b = S.J k b) ∧ (∀ k, (b ≠ a ∨ k ≠ 1) → (niB E S a q1).P k b = S.P k b) := by
  refine ⟨fun k => ?_, fun k => if_neg hb, fun k h => ?_⟩
  · show u2 (S.nO q1 5).I 16 q1 0 k b = _
    rw [u2_ne2 hb]; exact if_neg hb
  · show u2 (u2 (S.nO q1 5).P 10 q1 _) 1 a _ k b = _
    rcases h with h | h
    · rw [u2_ne2 h, u2_ne2 hb]; exact if_neg hb
    · rw [u2_ne1 h, u2_ne2 hb]; exact if_neg hb
theorem ni_post {E : Ev} {X : va_W} {S : HS} {a q1 q2 : Nat} {nu e0 la sl : Int32} (ha : isK S 0 a) (hq1 : q1 ∉ S.L) (hq2 : q2 ∉ (niA E S a q1).L) : NetI E X S a nu e0 la sl none X (niC (niB E (niA E S a q1) a q2) a nu e0 la sl) := by
  have n1 : q2 ∉ S.L := fun z => hq2 (List.mem_append_left _ z)
  have n2 : q1 ≠ q2 := fun z => hq2 (by rw [← z]; show q1 ∈ S.L ++ [q1]; simp)
  have n3 : a ≠ q1 := fun z => hq1 (z ▸ ha.1)
  have n4 : a ≠ q2 := fun z => n1 (z ▸ ha.1)
  have kq1 : isK (niC (niB E (niA E S a q1) a q2) a nu e0 la sl) 5 q1 := ⟨by show q1 ∈ (S.L ++ [q1]) ++ [q2]; simp, by show va_up (va_up S.K q1 5) q2 5 q1 = 5; rw [va_up_ne _ _ n2]; exact va_up_self _ _ _⟩
  have kq2 : isK (niC (niB E (niA E S a q1) a q2) a nu e0 la sl) 5 q2 := ⟨by show q2 ∈ (S.L ++ [q1]) ++ [q2]; simp, va_up_self _ _ _⟩
  have p1 : (niC (niB E (niA E S a q1) a q2) a nu e0 la sl).P 10 q1 = some (E.sa 0) := by
    show (niB E (niA E S a q1) a q2).P 10 q1 = _
    rw [(niB_at n2).2.2 10 (Or.inr (by decide))]
    show u2 (u2 (S.nO q1 5).P 10 q1 (some (E.sa 0))) 0 a (some q1) 10 q1 = some (E.sa 0)
    rw [u2_ne1 (by decide), u2_self]
  have p2 : (niC (niB E (niA E S a q1) a q2) a nu e0 la sl).P 10 q2 = some (E.sa 0) := by
    show u2 (u2 ((niA E S a q1).nO q2 5).P 10 q2 (some (E.sa 0))) 1 a (some q2) 10 q2 = some (E.sa 0)
    rw [u2_ne1 (by decide), u2_self]
  have i1 : (niC (niB E (niA E S a q1) a q2) a nu e0 la sl).I 17 q1 = nI 0 := by
    rw [niC_I (Or.inr (by decide)), (niB_at n2).1 17]
    show u2 (S.nO q1 5).I 16 q1 0 17 q1 = _
    rw [u2_ne1 (by decide)]; exact if_pos rfl
  have i2 : (niC (niB E (niA E S a q1) a q2) a nu e0 la sl).I 17 q2 = nI 0 := by
    rw [niC_I (Or.inr (by decide))]
    show u2 ((niA E S a q1).nO q2 5).I 16 q2 0 17 q2 = _
    rw [u2_ne1 (by decide)]; exact if_pos rfl
  refine ⟨rfl, rfl, q1, q2, hq1, n1, n2, ⟨kq1, p1, i1, Nat.zero_le _, Or.inl ⟨rfl, rfl⟩⟩, ⟨kq2, p2, i2, Nat.zero_le _, Or.inl ⟨rfl, rfl⟩⟩, ⟨?_, ?_⟩, ?_, u2_self, ?_, u2_self, ?_, ?_, ?_, ?_, ?_, ?_, ?_, u2_self, ⟨[q1, q2], ?_⟩, fun b hb => ?_, fun b hb hba => ?_, fun b hb => ⟨rfl, rfl, rfl⟩⟩
  · show a ∈ (S.L ++ [q1]) ++ [q2]; simp [ha.1]
  · show va_up (va_up S.K q1 5) q2 5 a = 0; rw [va_up_ne _ _ n4, va_up_ne _ _ n3]; exact ha.2
  · show (niB E (niA E S a q1) a q2).P 0 a = _
    rw [(niB_at n4).2.2 0 (Or.inr (by decide))]; exact u2_self
  · show u2 (u2 _ 0 a 0) 1 a 0 0 a = 0; rw [u2_ne1 (by decide), u2_self]
  all_goals try (simp [niC, sI_at, sJ_I]; done)
  · show (S.L ++ [q1]) ++ [q2] = _; simp
  · have m1 : b ≠ q1 := fun z => hq1 (z ▸ hb)
    have m2 : b ≠ q2 := fun z => n1 (z ▸ hb)
    show va_up (va_up S.K q1 5) q2 5 b = _; rw [va_up_ne _ _ m2, va_up_ne _ _ m1]
  · have m1 : b ≠ q1 := fun z => hq1 (z ▸ hb)
    have m2 : b ≠ q2 := fun z => n1 (z ▸ hb)
    exact ⟨fun k => by rw [niC_I (Or.inl hba), (niB_at m2).1, (niA_at m1).1], fun k => by rw [niC_J hba, (niB_at m2).2.1, (niA_at m1).2.1], fun k => ((niB_at m2).2.2 k (Or.inl hba)).trans ((niA_at m1).2.2 k (Or.inl hba))⟩
def TblI (X : va_W) (S : HS) (a : Nat) : Option Value → va_W → HS → Prop := fun v X2 S2 => none = v ∧ X = X2 ∧ ∃ q1 q2, q1 ∉ S.L ∧ q2 ∉ S.L ∧ tbl S2 a q1 q2 0 ∧ FrA S S2 a
set_option maxHeartbeats 4000000 in
set_option maxRecDepth 100000 in
theorem c_tblInit (l : Launch) (E : Ev) (X : va_W) (S : HS) {a : Nat} (ha : isK S 3 a) : Ctr l yX3_init (Cond.code yX3_init cX3_init 1 none) 1 2 40 E [.ref a] X S (TblI X S a) := by
  refine Ctr.ofG (by decide) [(0, .ref a)] rfl (Nat.le_of_ble_eq_true rfl) ?_
  intro p e s m args below meth c A Q C hQ
  refine g_aload_n C 0 dX3_init_0 rfl rfl ?_
  refine g_objInit C wi_X3_1 ⟨by decide, Nat.le_of_ble_eq_true rfl⟩ dX3_init_1 w_oi w_oc ?_
  refine g_aload_n C 0 dX3_init_4 rfl rfl ?_
  refine g_bipush C 20 dX3_init_5 (by decide) ?_
  refine g_newI C 20 (by decide) (by decide) (by decide) (by decide) (by decide) wa_int dX3_init_7 (fun q1 hq1 => ?_)
  have ka1 : isK (S.nR q1 6 20) 3 a := (Fr.nR (l := 0) (r := 0) hq1).K ha
  refine g_putF (ty := .array (.int)) (S2 := ((S.nR q1 6 20).sP 4 a (some q1))) C 0 ka1.1 (pF_3 ka1.2) rfl (by decide) in_X3 tyX3_ok nmX3 lk_X3_9 rfl rfl rfl rfl (by decide +kernel) rfl rfl (Nat.le_of_ble_eq_true rfl) rfl (pu_P4 (S := (S.nR q1 6 20)) ka1.2 (some q1)) dX3_init_9 ?_
  refine g_aload_n C 0 dX3_init_12 rfl rfl ?_
  refine g_bipush C 20 dX3_init_13 (by decide) ?_
  refine g_newI C 20 (by decide) (by decide) (by decide) (by decide) (by decide) wa_int dX3_init_15 (fun q2 hq2 => ?_)
  have ka2 : isK (((S.nR q1 6 20).sP 4 a (some q1)).nR q2 6 20) 3 a := (Fr.nR (l := 0) (r := 0) hq2).K ka1
  refine g_putF (ty := .array (.int)) (S2 := ((((S.nR q1 6 20).sP 4 a (some q1)).nR q2 6 20).sP 5 a (some q2))) C 1 ka2.1 (pF_3 ka2.2) rfl (by decide) in_X3 tyX3_ok nmX3 lk_X3_13 rfl rfl rfl rfl (by decide +kernel) rfl rfl (Nat.le_of_ble_eq_true rfl) rfl (pu_P5 (S := (((S.nR q1 6 20).sP 4 a (some q1)).nR q2 6 20)) ka2.2 (some q2)) dX3_init_17 ?_
  refine g_aload_n C 0 dX3_init_20 rfl rfl ?_
  refine g_iconst C 0 dX3_init_21 (by decide) ?_
  refine g_put (ty := .int) (S2 := (((((S.nR q1 6 20).sP 4 a (some q1)).nR q2 6 20).sP 5 a (some q2)).sI 10 a 0)) C 2 ka2.1 (pF_3 ka2.2) rfl (by decide) in_X3 tyX3_ok nmX3 lk_X3_16 rfl rfl (by decide +kernel) rfl rfl (Nat.le_of_ble_eq_true rfl) rfl (pu_I10 (S := ((((S.nR q1 6 20).sP 4 a (some q1)).nR q2 6 20).sP 5 a (some q2))) ka2.2 0) dX3_init_22 ?_
  exact g_vret C hQ rfl dX3_init_25 (by decide) (by decide) (by
      have hL1 : (S.nR q1 6 20).L = S.L ++ [q1] := rfl
      have n1 : q2 ∉ S.L := fun z => hq2 (List.mem_append_left _ z)
      have n2 : q1 ≠ q2 := fun z => hq2 (by rw [← z]; show q1 ∈ S.L ++ [q1]; simp)
      have n3 : a ≠ q1 := fun z => hq1 (z ▸ ha.1)
      have n4 : a ≠ q2 := fun z => n1 (z ▸ ha.1)
      have hKa := ha.2
      have hLa := ha.1
      refine ⟨rfl, rfl, q1, q2, hq1, n1, ⟨⟨?_, ?_⟩, ?_, ?_, ⟨?_, ?_⟩, ?_, ⟨?_, ?_⟩, ?_, ?_, ?_, n2⟩, ⟨[q1, q2], ?_⟩, fun b hb => ?_, fun b hb hba => ⟨fun k => ?_, fun k => ?_, fun k => ?_⟩, fun b hb => ⟨?_, ?_, ?_⟩⟩
      all_goals try (have m1 : b ≠ q1 := fun z => hq1 (z ▸ hb))
      all_goals try (have m2 : b ≠ q2 := fun z => n1 (z ▸ hb))
      all_goals (simp_all [HS.nR, HS.sI, HS.sP, HS.sJ, HS.I, HS.J, HS.P, HS.K, HS.L, HS.N, HS.R, HS.O, u2, va_up, n2.symm, n3.symm, n4.symm, nI_0]))
theorem bv_sJ {S : HS} {k a b : Nat} {v : Int64} : bv (S.sJ k a v) b = bv S b := rfl
def excS (S : HS) (x a b : Nat) : HS := ((S.sJ 0 a (S.J 0 a ||| bv S b)).sJ 0 b ((S.sJ 0 a (S.J 0 a ||| bv S b)).J 0 b ||| bv S a)).sI 14 x (S.I 14 x + 1)
set_option maxRecDepth 100000 in
theorem c_exclude (l : Launch) (E : Ev) (X : va_W) (S : HS) {x ln rn : Nat} {ns : List Nat} (ho : crO E S x ln rn ns) {i j : Nat} (hi : i < ns.length) (hj : j < ns.length) (hij : i ≠ j) : Ctr l yX4_exclude (Cond.code yX4_exclude cX4_exclude 5 (some .boolean)) 5 0 0 E [.ref x, .int (nI i), .int (nI j)] X S (fun v X2 S2 => X = X2 ∧ ((exB S ns[i] ns[j] = true ∧ some (.int 0) = v ∧ S = S2) ∨ (exB S ns[i] ns[j] = false ∧ some (.int 1) = v ∧ excS S x ns[i] ns[j] = S2))) := by
  refine Ctr.ofG (by decide) [(0, .ref x), (1, .int (nI i)), (2, .int (nI j))] rfl (Nat.le_of_ble_eq_true rfl) ?_
  intro p e s m args below meth c A Q C hQ
  refine g_aload_n C 0 dX4_exclude_0 rfl rfl ?_
  refine g_iload_n C 1 dX4_exclude_1 rfl rfl ?_
  refine g_callV C [.int (nI i)] [] (c_netAt l E X S ho hi) (recv_at ho.1.1 (pF_4 ho.1.2)) rfl cm_X4_netAt wv_X4_71 ds_X4_netAt rfl rfl (Nat.le_of_ble_eq_true rfl) (by decide) (by decide) dX4_exclude_2 ?_
  rintro v9 X2 S2 ⟨rfl, rfl, rfl⟩
  show GW _ _ _ _ _ _ _ _ _ _ _ _ _ _ _ _ _ _ _ _ (.ref ns[i] :: _)
  obtain ⟨a, hae⟩ : ∃ a, a = ns[i] := ⟨_, rfl⟩
  rw [← hae]
  have ha : isK S 0 a := by rw [hae]; exact ho.2.2.2 _ (List.getElem_mem hi)
  refine g_astore_n C [(3, .ref a), (0, .ref x), (1, .int (nI i)), (2, .int (nI j))] dX4_exclude_5 rfl (by decide) rfl ?_
  refine g_aload_n C 1 dX4_exclude_6 rfl rfl ?_
  refine g_iload_n C 3 dX4_exclude_7 rfl rfl ?_
  refine g_callV C [.int (nI j)] [] (c_netAt l E X S ho hj) (recv_at ho.1.1 (pF_4 ho.1.2)) rfl cm_X4_netAt wv_X4_71 ds_X4_netAt rfl rfl (Nat.le_of_ble_eq_true rfl) (by decide) (by decide) dX4_exclude_8 ?_
  rintro v9 X2 S2 ⟨rfl, rfl, rfl⟩
  show GW _ _ _ _ _ _ _ _ _ _ _ _ _ _ _ _ _ _ _ _ (.ref ns[j] :: _)
  obtain ⟨b, hbe⟩ : ∃ a, a = ns[j] := ⟨_, rfl⟩
  rw [← hbe]
  have hb : isK S 0 b := by rw [hbe]; exact ho.2.2.2 _ (List.getElem_mem hj)
  refine g_astore C [(4, .ref b), (3, .ref a), (0, .ref x), (1, .int (nI i)), (2, .int (nI j))] dX4_exclude_11 (by decide) rfl ?_
  refine g_iload_n C 3 dX4_exclude_13 rfl rfl ?_
  refine g_iload_n C 4 dX4_exclude_14 rfl rfl ?_
  refine g_callS C [.int (nI i), .int (nI j)] [] (c_rd l E X S (fun q => hij ((nI_eq (by have := ho.len; omega) (by have := ho.len; omega)).mp q))) cm_X4_requireDifferent wst_X4_75 dt_X4_requireDifferent rfl rfl (Nat.le_of_ble_eq_true rfl) (by decide) (by decide) dX4_exclude_15 ?_
  rintro v9 X2 S2 ⟨rfl, rfl, rfl⟩
  refine g_aload_n C 1 dX4_exclude_18 rfl rfl ?_
  refine g_aload C 0 dX4_exclude_19 rfl ?_
  refine g_callV C [.ref b] [] (c_isExcludedFrom l E X S ha hb) (recv_at ha.1 (pF_0 ha.2)) rfl cm_X0_isExcludedFrom wv_X4_86 ds_X0_isExcludedFrom rfl rfl (Nat.le_of_ble_eq_true rfl) (by decide) (by decide) dX4_exclude_21 ?_
  rintro v9 X2 S2 ⟨rfl, rfl, rfl⟩
  refine g_if_eq C 29 dX4_exclude_24 (by decide) (fun h24 => ?_) (fun h24 => ?_)
  · refine g_aload_n C 1 dX4_exclude_29 rfl rfl ?_
    refine g_dup C dX4_exclude_30 rfl ?_
    refine g_get C 6 ha.1 (pF_0 ha.2) rfl (by decide) in_X0 lk_X4_90 rfl rfl dX4_exclude_31 ?_
    refine g_aload C 0 dX4_exclude_34 rfl ?_
    refine g_callV C [] [.long (S.J 0 a), .ref a] (c_bit l E X S hb) (recv_at hb.1 (pF_0 hb.2)) rfl cm_X0_bit wv_X4_94 ds_X0_bit rfl rfl (Nat.le_of_ble_eq_true rfl) (by decide) (by decide) dX4_exclude_36 ?_
    rintro v9 X2 S2 ⟨rfl, rfl, rfl⟩
    refine g_lor C dX4_exclude_39 ?_
    refine g_nl (fun z1 hz1 => ?_)
    refine g_put (ty := .long) (S2 := (S.sJ 0 a z1)) C 6 ha.1 (pF_0 ha.2) rfl (by decide) in_X0 tyX0_ok nmX0 lk_X4_90 rfl rfl (by decide +kernel) rfl rfl (Nat.le_of_ble_eq_true rfl) rfl (pu_J0 (S := S) ha.2 z1) dX4_exclude_40 ?_
    generalize hG1 : (S.sJ 0 a z1) = G1
    have kG1_0 : isK G1 4 x := by rw [← hG1]; exact ⟨ho.1.1, ho.1.2⟩
    have fG1_0_0 : G1.P 6 x = some ln := by rw [← hG1]; exact ho.2.1
    have kG1_1 : isK G1 5 ln := by rw [← hG1]; exact ⟨ho.2.2.1.1.1, ho.2.2.1.1.2⟩
    have kG1_2 : isK G1 0 a := by rw [← hG1]; exact ⟨ha.1, ha.2⟩
    have kG1_3 : isK G1 0 b := by rw [← hG1]; exact ⟨hb.1, hb.2⟩
    refine g_aload C 0 dX4_exclude_43 rfl ?_
    refine g_dup C dX4_exclude_45 rfl ?_
    refine g_get C 6 kG1_3.1 (pF_0 kG1_3.2) rfl (by decide) in_X0 lk_X4_90 rfl rfl dX4_exclude_46 ?_
    refine g_aload_n C 1 dX4_exclude_49 rfl rfl ?_
    refine g_callV C [] [.long (G1.J 0 b), .ref b] (c_bit l E X G1 ⟨kG1_2.1, kG1_2.2⟩) (recv_at kG1_2.1 (pF_0 kG1_2.2)) rfl cm_X0_bit wv_X4_94 ds_X0_bit rfl rfl (Nat.le_of_ble_eq_true rfl) (by decide) (by decide) dX4_exclude_50 ?_
    rintro v9 X2 S2 ⟨rfl, rfl, rfl⟩
    refine g_lor C dX4_exclude_53 ?_
    refine g_nl (fun z2 hz2 => ?_)
    refine g_put (ty := .long) (S2 := (G1.sJ 0 b z2)) C 6 kG1_3.1 (pF_0 kG1_3.2) rfl (by decide) in_X0 tyX0_ok nmX0 lk_X4_90 rfl rfl (by decide +kernel) rfl rfl (Nat.le_of_ble_eq_true rfl) rfl (pu_J0 (S := G1) kG1_3.2 z2) dX4_exclude_54 ?_
    generalize hG2 : (G1.sJ 0 b z2) = G2
    have kG2_0 : isK G2 4 x := by rw [← hG2]; exact ⟨kG1_0.1, kG1_0.2⟩
    have fG2_0_0 : G2.P 6 x = some ln := by rw [← hG2]; exact fG1_0_0
    have kG2_1 : isK G2 5 ln := by rw [← hG2]; exact ⟨kG1_1.1, kG1_1.2⟩
    have kG2_2 : isK G2 0 a := by rw [← hG2]; exact ⟨kG1_2.1, kG1_2.2⟩
    have kG2_3 : isK G2 0 b := by rw [← hG2]; exact ⟨kG1_3.1, kG1_3.2⟩
    refine g_aload_n C 2 dX4_exclude_57 rfl rfl ?_
    refine g_dup C dX4_exclude_58 rfl ?_
    refine g_get C 7 kG2_0.1 (pF_4 kG2_0.2) rfl (by decide) in_X4 lk_X4_40 rfl rfl dX4_exclude_59 ?_
    refine g_iconst C 1 dX4_exclude_62 (by decide) ?_
    refine g_iadd C dX4_exclude_63 ?_
    refine g_ni (fun z3 hz3 => ?_)
    refine g_put (ty := .int) (S2 := (G2.sI 14 x z3)) C 7 kG2_0.1 (pF_4 kG2_0.2) rfl (by decide) in_X4 tyX4_ok nmX4 lk_X4_40 rfl rfl (by decide +kernel) rfl rfl (Nat.le_of_ble_eq_true rfl) rfl (pu_I14 (S := G2) kG2_0.2 z3) dX4_exclude_64 ?_
    generalize hG3 : (G2.sI 14 x z3) = G3
    have kG3_0 : isK G3 4 x := by rw [← hG3]; exact ⟨kG2_0.1, kG2_0.2⟩
    have fG3_0_0 : G3.P 6 x = some ln := by rw [← hG3]; exact fG2_0_0
    have kG3_1 : isK G3 5 ln := by rw [← hG3]; exact ⟨kG2_1.1, kG2_1.2⟩
    have kG3_2 : isK G3 0 a := by rw [← hG3]; exact ⟨kG2_2.1, kG2_2.2⟩
    have kG3_3 : isK G3 0 b := by rw [← hG3]; exact ⟨kG2_3.1, kG2_3.2⟩
    refine g_iconst C 1 dX4_exclude_67 (by decide) ?_
    exact g_iret C hQ rfl rfl dX4_exclude_68 (by decide) (by decide) ⟨rfl, by rw [← hae, ← hbe]; exact Or.inr ⟨bI_0 h24, rfl, by rw [← hG3, hz3, ← hG2, hz2, ← hG1, hz1]; unfold excS; rfl⟩⟩
  · refine g_iconst C 0 dX4_exclude_27 (by decide) ?_
    exact g_iret C hQ rfl rfl dX4_exclude_28 (by decide) (by decide) ⟨rfl, by rw [← hae, ← hbe]; exact Or.inl ⟨bI_1 h24, rfl, rfl⟩⟩
set_option maxRecDepth 100000 in
theorem c_excludeT1 (l : Launch) (hlt : l.stackTraces = false) (E : Ev) (X : va_W) (S : HS) {x ln rn : Nat} {ns : List Nat} (ho : crO E S x ln rn ns) {z y : Int32} (h : z < 0 ∨ ¬ z < nI ns.length) : CtrT l yX4_exclude (Cond.code yX4_exclude cX4_exclude 5 (some .boolean)) 5 1 6 E [.ref x, .int z, .int y] X S xIO := by
  refine CtrX.ofG (by decide) [(0, .ref x), (1, .int z), (2, .int y)] rfl (Nat.le_of_ble_eq_true rfl) ?_
  intro p e s m args below meth c A C htb
  refine g_aload_n C 0 dX4_exclude_0 rfl rfl ?_
  refine g_iload_n C 1 dX4_exclude_1 rfl rfl ?_
  exact g_outV C htb [.int z] [] (c_netAtT l hlt E X S ho h) (recv_at ho.1.1 (pF_4 ho.1.2)) rfl cm_X4_netAt wv_X4_71 ds_X4_netAt rfl rfl (Nat.le_of_ble_eq_true rfl) (by decide) (by decide) dX4_exclude_2 (by decide) rfl
set_option maxRecDepth 100000 in
theorem c_excludeT2 (l : Launch) (hlt : l.stackTraces = false) (E : Ev) (X : va_W) (S : HS) {x ln rn : Nat} {ns : List Nat} (ho : crO E S x ln rn ns) {i : Nat} (hi : i < ns.length) {y : Int32} (h : y < 0 ∨ ¬ y < nI ns.length) : CtrT l yX4_exclude (Cond.code yX4_exclude cX4_exclude 5 (some .boolean)) 5 1 6 E [.ref x, .int (nI i), .int y] X S xIO := by
  refine CtrX.ofG (by decide) [(0, .ref x), (1, .int (nI i)), (2, .int y)] rfl (Nat.le_of_ble_eq_true rfl) ?_
  intro p e s m args below meth c A C htb
  refine g_aload_n C 0 dX4_exclude_0 rfl rfl ?_
  refine g_iload_n C 1 dX4_exclude_1 rfl rfl ?_
  refine g_callV C [.int (nI i)] [] (c_netAt l E X S ho hi) (recv_at ho.1.1 (pF_4 ho.1.2)) rfl cm_X4_netAt wv_X4_71 ds_X4_netAt rfl rfl (Nat.le_of_ble_eq_true rfl) (by decide) (by decide) dX4_exclude_2 ?_
  rintro v9 X2 S2 ⟨rfl, rfl, rfl⟩
  show GW _ _ _ _ _ _ _ _ _ _ _ _ _ _ _ _ _ _ _ _ (.ref ns[i] :: _)
  obtain ⟨a, hae⟩ : ∃ a, a = ns[i] := ⟨_, rfl⟩
  rw [← hae]
  have ha : isK S 0 a := by rw [hae]; exact ho.2.2.2 _ (List.getElem_mem hi)
  refine g_astore_n C [(3, .ref a), (0, .ref x), (1, .int (nI i)), (2, .int y)] dX4_exclude_5 rfl (by decide) rfl ?_
  refine g_aload_n C 1 dX4_exclude_6 rfl rfl ?_
  refine g_iload_n C 3 dX4_exclude_7 rfl rfl ?_
  exact g_outV C htb [.int y] [] (c_netAtT l hlt E X S ho h) (recv_at ho.1.1 (pF_4 ho.1.2)) rfl cm_X4_netAt wv_X4_71 ds_X4_netAt rfl rfl (Nat.le_of_ble_eq_true rfl) (by decide) (by decide) dX4_exclude_8 (by decide) rfl
set_option maxRecDepth 100000 in
theorem c_excludeT3 (l : Launch) (hlt : l.stackTraces = false) (E : Ev) (X : va_W) (S : HS) {x ln rn : Nat} {ns : List Nat} (ho : crO E S x ln rn ns) {i j : Nat} (hi : i < ns.length) (hj : j < ns.length) (hij : i = j) : CtrT l yX4_exclude (Cond.code yX4_exclude cX4_exclude 5 (some .boolean)) 5 1 6 E [.ref x, .int (nI i), .int (nI j)] X S xIA := by
  refine CtrX.ofG (by decide) [(0, .ref x), (1, .int (nI i)), (2, .int (nI j))] rfl (Nat.le_of_ble_eq_true rfl) ?_
  intro p e s m args below meth c A C htb
  refine g_aload_n C 0 dX4_exclude_0 rfl rfl ?_
  refine g_iload_n C 1 dX4_exclude_1 rfl rfl ?_
  refine g_callV C [.int (nI i)] [] (c_netAt l E X S ho hi) (recv_at ho.1.1 (pF_4 ho.1.2)) rfl cm_X4_netAt wv_X4_71 ds_X4_netAt rfl rfl (Nat.le_of_ble_eq_true rfl) (by decide) (by decide) dX4_exclude_2 ?_
  rintro v9 X2 S2 ⟨rfl, rfl, rfl⟩
  show GW _ _ _ _ _ _ _ _ _ _ _ _ _ _ _ _ _ _ _ _ (.ref ns[i] :: _)
  obtain ⟨a, hae⟩ : ∃ a, a = ns[i] := ⟨_, rfl⟩
  rw [← hae]
  have ha : isK S 0 a := by rw [hae]; exact ho.2.2.2 _ (List.getElem_mem hi)
  refine g_astore_n C [(3, .ref a), (0, .ref x), (1, .int (nI i)), (2, .int (nI j))] dX4_exclude_5 rfl (by decide) rfl ?_
  refine g_aload_n C 1 dX4_exclude_6 rfl rfl ?_
  refine g_iload_n C 3 dX4_exclude_7 rfl rfl ?_
  refine g_callV C [.int (nI j)] [] (c_netAt l E X S ho hj) (recv_at ho.1.1 (pF_4 ho.1.2)) rfl cm_X4_netAt wv_X4_71 ds_X4_netAt rfl rfl (Nat.le_of_ble_eq_true rfl) (by decide) (by decide) dX4_exclude_8 ?_
  rintro v9 X2 S2 ⟨rfl, rfl, rfl⟩
  show GW _ _ _ _ _ _ _ _ _ _ _ _ _ _ _ _ _ _ _ _ (.ref ns[j] :: _)
  obtain ⟨b, hbe⟩ : ∃ a, a = ns[j] := ⟨_, rfl⟩
  rw [← hbe]
  have hb : isK S 0 b := by rw [hbe]; exact ho.2.2.2 _ (List.getElem_mem hj)
  refine g_astore C [(4, .ref b), (3, .ref a), (0, .ref x), (1, .int (nI i)), (2, .int (nI j))] dX4_exclude_11 (by decide) rfl ?_
  refine g_iload_n C 3 dX4_exclude_13 rfl rfl ?_
  refine g_iload_n C 4 dX4_exclude_14 rfl rfl ?_
  exact g_outS C htb [.int (nI i), .int (nI j)] [] (c_rdT l hlt E X S (congrArg nI hij)) cm_X4_requireDifferent wst_X4_75 dt_X4_requireDifferent rfl rfl (Nat.le_of_ble_eq_true rfl) (by decide) (by decide) dX4_exclude_15 (by decide) rfl
