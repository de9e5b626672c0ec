section SwRows
variable {p : Program} {l : Launch} {e : Env} {R : Room} {s : State} {m : MethodId} {args : Array Value} {below : List Frame} {meth : Method} {c : Code} {E : Ev} {nL : Nat} {A : Nat → Prop} {Q : State → Prop} {X : va_W} {S : HS} {cells slots pc : Nat} {lv : List (Nat × Value)} {st : List Value} {cc : ByteArray} {y : MethodName} {ret : Option FieldType} {c0 : Cond}
theorem g_tabIn (C : Cx p s m args meth c cc nL y ret c0 E A) {dflt lo hi off : Int} {offs : Array Int} {len : Nat} {x : Int32} (tgt : Nat) (hd : decode cc pc = .ok (.tableswitch dflt lo hi offs, len)) (h1 : ¬ x.toInt < lo) (h2 : ¬ hi < x.toInt) (ho : offs[(x.toInt - lo).toNat]? = some off) (ht : (pc : Int) + off = (tgt : Int)) (kk : GW p l e R s m args below meth c E nL A Q X S cells slots tgt lv st) : GW p l e R s m args below meth c E nL A Q X S cells slots pc lv (.int x :: st) := fun H locs ls hP hD hS hl => lv_tableIn C.x C.b hd h1 h2 ho ht (kk H locs ls hP hD hS hl)
theorem g_tabOut (C : Cx p s m args meth c cc nL y ret c0 E A) {dflt lo hi : Int} {offs : Array Int} {len : Nat} {x : Int32} (tgt : Nat) (hd : decode cc pc = .ok (.tableswitch dflt lo hi offs, len)) (h : x.toInt < lo ∨ hi < x.toInt) (ht : (pc : Int) + dflt = (tgt : Int)) (kk : GW p l e R s m args below meth c E nL A Q X S cells slots tgt lv st) : GW p l e R s m args below meth c E nL A Q X S cells slots pc lv (.int x :: st) := fun H locs ls hP hD hS hl => lv_tableOut C.x C.b hd h ht (kk H locs ls hP hD hS hl)
end SwRows
/-- the object's rounds: rm of them, what changed stands at cg -/
def crC (S : HS) (x cg rm : Nat) : Prop := isK S 4 x ∧ S.P 9 x = some cg ∧ isK S 6 cg ∧ S.N cg = 50 ∧ S.I 11 x = nI rm ∧ rm ≤ 50
set_option maxRecDepth 100000 in
theorem c_changed (l : Launch) (E : Ev) (X : va_W) (S : HS) {x cg rm : Nat} (hg : crC S x cg rm) {i : Nat} (hi : i < rm) : Ctr l yX4_changed (Cond.code yX4_changed cX4_changed 2 (some .int)) 2 0 0 E [.ref x, .int (nI i)] X S (Same (.int (S.R cg i)) X S) := by
  refine Ctr.ofG (by decide) [(0, .ref x), (1, .int (nI i))] rfl (Nat.le_of_ble_eq_true rfl) ?_
  intro p e s m args below meth c A Q C hQ
  refine g_iload_n C 1 dX4_changed_0 rfl rfl ?_
  refine g_aload_n C 0 dX4_changed_1 rfl rfl ?_
  refine g_get (v := .int (nI rm)) C 4 hg.1.1 (pF_4 hg.1.2) rfl (by decide) in_X4 lk_X4_30 rfl (congrArg (fun z => some (Value.int z)) hg.2.2.2.2.1) dX4_changed_2 ?_
  refine g_callS C [.int (nI i), .int (nI rm)] [] (c_rp l E X S (nI_pos (by have := hg.2.2.2.2.2; omega)) (nI_lt hi (by have := hg.2.2.2.2.2; omega))) cm_X4_requirePlace wst_X4_145 dt_X4_requirePlace rfl rfl (Nat.le_of_ble_eq_true rfl) (by decide) (by decide) dX4_changed_5 ?_
  rintro v9 X2 S2 ⟨rfl, rfl, rfl⟩
  refine g_aload_n C 0 dX4_changed_8 rfl rfl ?_
  refine g_get (v := .ref cg) C 3 hg.1.1 (pF_4 hg.1.2) rfl (by decide) in_X4 lk_X4_26 rfl (congrArg (fun z => some (va_rf z)) hg.2.1) dX4_changed_9 ?_
  refine g_iload_n C 1 dX4_changed_12 rfl rfl ?_
  refine g_iald C hg.2.2.1.1 (pF_6 hg.2.2.1.2) (by rw [hg.2.2.2.1]; exact vp_in_nI (by have := hg.2.2.2.2.2; omega) (by decide)) dX4_changed_13 ?_
  exact g_iret C hQ rfl rfl dX4_changed_14 (by decide) (by decide) ⟨by rw [nI_clamp (by have := hg.2.2.2.2.2; omega)], rfl, rfl⟩
set_option maxRecDepth 100000 in
theorem c_changedT (l : Launch) (hlt : l.stackTraces = false) (E : Ev) (X : va_W) (S : HS) {x cg rm : Nat} (hg : crC S x cg rm) {z : Int32} (h : z < 0 ∨ ¬ z < nI rm) : CtrT l yX4_changed (Cond.code yX4_changed cX4_changed 2 (some .int)) 2 1 6 E [.ref x, .int z] X S xIO := by
  refine CtrX.ofG (by decide) [(0, .ref x), (1, .int z)] rfl (Nat.le_of_ble_eq_true rfl) ?_
  intro p e s m args below meth c A C htb
  refine g_iload_n C 1 dX4_changed_0 rfl rfl ?_
  refine g_aload_n C 0 dX4_changed_1 rfl rfl ?_
  refine g_get (v := .int (nI rm)) C 4 hg.1.1 (pF_4 hg.1.2) rfl (by decide) in_X4 lk_X4_30 rfl (congrArg (fun z => some (Value.int z)) hg.2.2.2.2.1) dX4_changed_2 ?_
  exact g_outS C htb [.int z, .int (nI rm)] [] (c_rpT l hlt E X S h) cm_X4_requirePlace wst_X4_145 dt_X4_requirePlace rfl rfl (Nat.le_of_ble_eq_true rfl) (by decide) (by decide) dX4_changed_5 (by decide) rfl
set_option maxRecDepth 100000 in
theorem c_source (l : Launch) (E : Ev) (X : va_W) (S : HS) {x ln rn : Nat} {ns : List Nat} (ho : crO E S x ln rn ns) {i : Nat} (hi : i < ns.length) {lc rc : Nat} {vs : List Nat} (hc : cpl E S ns[i] lc rc vs) {kp : Int32} (hk : 0 ≤ kp) : Ctr l yX4_source (Cond.code yX4_source cX4_source 4 (some .int)) 5 0 0 E [.ref x, .int (nI i), .int kp] X S (Same (.int (nsrc S (fun v => !exB S ns[i] (tg S v)) kp vs 0)) X S) := by
  refine Ctr.ofG (by decide) [(0, .ref x), (1, .int (nI i)), (2, .int kp)] rfl (Nat.le_of_ble_eq_true rfl) ?_
  intro p e s m args below meth c A Q C hQ
  refine g_aload_n C 0 dX4_source_0 rfl rfl ?_
  refine g_iload_n C 1 dX4_source_1 rfl rfl ?_
  refine g_callV C [.int (nI i)] [] (c_netAt l E X S ho hi) (recv_at ho.1.1 (pF_4 ho.1.2)) rfl cm_X4_netAt wv_X4_71 ds_X4_netAt rfl rfl (Nat.le_of_ble_eq_true rfl) (by decide) (by decide) dX4_source_2 ?_
  rintro v9 X2 S2 ⟨rfl, rfl, rfl⟩
  show GW _ _ _ _ _ _ _ _ _ _ _ _ _ _ _ _ _ _ _ _ (.ref ns[i] :: _)
  obtain ⟨a, ha⟩ : ∃ a, a = ns[i] := ⟨_, rfl⟩
  rw [← ha]
  have hka : isK S 0 a := by rw [ha]; exact ho.2.2.2 _ (List.getElem_mem hi)
  rw [← ha] at hc
  refine g_astore_n C [(3, .ref a), (0, .ref x), (1, .int (nI i)), (2, .int kp)] dX4_source_5 rfl (by decide) rfl ?_
  refine g_iload_n C 3 dX4_source_6 rfl rfl ?_
  refine g_if_ge C 20 dX4_source_7 (by decide) (fun h7 => ?_) (fun h7 => ?_)
  · refine g_aload_n C 0 dX4_source_20 rfl rfl ?_
    refine g_iload_n C 3 dX4_source_21 rfl rfl ?_
    refine g_callV C [.int kp] [] (c_numberOfSource l E X S hc kp) (recv_at hka.1 (pF_0 hka.2)) rfl cm_X0_numberOfSource wv_X4_155 ds_X0_numberOfSource rfl rfl (Nat.le_of_ble_eq_true rfl) (by decide) (by decide) dX4_source_22 ?_
    rintro v9 X2 S2 ⟨rfl, rfl, rfl⟩
    exact g_iret C hQ rfl rfl dX4_source_25 (by decide) (by decide) ⟨by rw [ha], rfl, rfl⟩
  · exact absurd hk h7
set_option maxRecDepth 100000 in
theorem c_sourceT (l : Launch) (hlt : l.stackTraces = false) (E : Ev) (X : va_W) (S : HS) {x ln rn : Nat} {ns : List Nat} (ho : crO E S x ln rn ns) {z kp : Int32} (h : z < 0 ∨ ¬ z < nI ns.length) : CtrT l yX4_source (Cond.code yX4_source cX4_source 4 (some .int)) 5 1 6 E [.ref x, .int z, .int kp] X S xIO := by
  refine CtrX.ofG (by decide) [(0, .ref x), (1, .int z), (2, .int kp)] rfl (Nat.le_of_ble_eq_true rfl) ?_
  intro p e s m args below meth c A C htb
  refine g_aload_n C 0 dX4_source_0 rfl rfl ?_
  refine g_iload_n C 1 dX4_source_1 rfl rfl ?_
  exact g_outV C htb [.int z] [] (c_netAtT l hlt E X S ho h) (recv_at ho.1.1 (pF_4 ho.1.2)) rfl cm_X4_netAt wv_X4_71 ds_X4_netAt rfl rfl (Nat.le_of_ble_eq_true rfl) (by decide) (by decide) dX4_source_2 (by decide) rfl
set_option maxRecDepth 100000 in
theorem c_sourceT2 (l : Launch) (hlt : l.stackTraces = false) (E : Ev) (X : va_W) (S : HS) {x ln rn : Nat} {ns : List Nat} (ho : crO E S x ln rn ns) {i : Nat} (hi : i < ns.length) {kp : Int32} (hk : ¬ 0 ≤ kp) : CtrT l yX4_source (Cond.code yX4_source cX4_source 4 (some .int)) 5 1 6 E [.ref x, .int (nI i), .int kp] X S xIO := by
  refine CtrX.ofG (by decide) [(0, .ref x), (1, .int (nI i)), (2, .int kp)] rfl (Nat.le_of_ble_eq_true rfl) ?_
  intro p e s m args below meth c A C htb
  refine g_aload_n C 0 dX4_source_0 rfl rfl ?_
  refine g_iload_n C 1 dX4_source_1 rfl rfl ?_
  refine g_callV C [.int (nI i)] [] (c_netAt l E X S ho hi) (recv_at ho.1.1 (pF_4 ho.1.2)) rfl cm_X4_netAt wv_X4_71 ds_X4_netAt rfl rfl (Nat.le_of_ble_eq_true rfl) (by decide) (by decide) dX4_source_2 ?_
  rintro v9 X2 S2 ⟨rfl, rfl, rfl⟩
  show GW _ _ _ _ _ _ _ _ _ _ _ _ _ _ _ _ _ _ _ _ (.ref ns[i] :: _)
  obtain ⟨a, ha⟩ : ∃ a, a = ns[i] := ⟨_, rfl⟩
  rw [← ha]
  have hka : isK S 0 a := by rw [ha]; exact ho.2.2.2 _ (List.getElem_mem hi)
  refine g_astore_n C [(3, .ref a), (0, .ref x), (1, .int (nI i)), (2, .int kp)] dX4_source_5 rfl (by decide) rfl ?_
  refine g_iload_n C 3 dX4_source_6 rfl rfl ?_
  refine g_if_ge C 20 dX4_source_7 (by decide) (fun h7 => ?_) (fun h7 => ?_)
  · exact absurd h7 hk
  · exact g_throwS C htb hlt rfl (by decide +kernel) xk_IO xi_IO C.z.2.2.2.2.2.2.2.1 xg_152 xn_152 C.z.2.2.2.2.2.2.2.2.2.2.2.2.2.2.2.2.1 xo_152 dX4_source_10 dX4_source_13 dX4_source_14 dX4_source_16 dX4_source_19 ⟨by decide, Nat.le_of_ble_eq_true rfl⟩ (by decide) (by decide) rfl
set_option maxRecDepth 100000 in
theorem c_height (l : Launch) (E : Ev) (X : va_W) (S : HS) {x ln rn : Nat} {ns : List Nat} (ho : crO E S x ln rn ns) {i : Nat} (hi : i < ns.length) {lc rc : Nat} {vs : List Nat} (hc : cpl E S ns[i] lc rc vs) : Ctr l yX4_height (Cond.code yX4_height cX4_height 2 (some .int)) 5 0 0 E [.ref x, .int (nI i)] X S (Same (.int (fsum (fun v => !exB S ns[i] (tg S v)) (fun v => S.I 8 v) (S.I 12 x) vs 0 0)) X S) := by
  refine Ctr.ofG (by decide) [(0, .ref x), (1, .int (nI i))] rfl (Nat.le_of_ble_eq_true rfl) ?_
  intro p e s m args below meth c A Q C hQ
  refine g_aload_n C 0 dX4_height_0 rfl rfl ?_
  refine g_iload_n C 1 dX4_height_1 rfl rfl ?_
  refine g_callV C [.int (nI i)] [] (c_netAt l E X S ho hi) (recv_at ho.1.1 (pF_4 ho.1.2)) rfl cm_X4_netAt wv_X4_71 ds_X4_netAt rfl rfl (Nat.le_of_ble_eq_true rfl) (by decide) (by decide) dX4_height_2 ?_
  rintro v9 X2 S2 ⟨rfl, rfl, rfl⟩
  show GW _ _ _ _ _ _ _ _ _ _ _ _ _ _ _ _ _ _ _ _ (.ref ns[i] :: _)
  obtain ⟨a, ha⟩ : ∃ a, a = ns[i] := ⟨_, rfl⟩
  rw [← ha]
  have hka : isK S 0 a := by rw [ha]; exact ho.2.2.2 _ (List.getElem_mem hi)
  rw [← ha] at hc
  refine g_aload_n C 0 dX4_height_5 rfl rfl ?_
  refine g_get C 5 ho.1.1 (pF_4 ho.1.2) rfl (by decide) in_X4 lk_X4_34 rfl rfl dX4_height_6 ?_
  refine g_callV C [.int (S.I 12 x)] [] (c_sumOfShares l E X S hc _) (recv_at hka.1 (pF_0 hka.2)) rfl cm_X0_sumOfShares wv_X4_158 ds_X0_sumOfShares rfl rfl (Nat.le_of_ble_eq_true rfl) (by decide) (by decide) dX4_height_9 ?_
  rintro v9 X2 S2 ⟨rfl, rfl, rfl⟩
  exact g_iret C hQ rfl rfl dX4_height_12 (by decide) (by decide) ⟨by rw [ha], rfl, rfl⟩
set_option maxRecDepth 100000 in
theorem c_heightT (l : Launch) (hlt : l.stackTraces = false) (E : Ev) (X : va_W) (S : HS) {x ln rn : Nat} {ns : List Nat} (ho : crO E S x ln rn ns) {z : Int32} (h : z < 0 ∨ ¬ z < nI ns.length) : CtrT l yX4_height (Cond.code yX4_height cX4_height 2 (some .int)) 5 1 6 E [.ref x, .int z] X S xIO := by
  refine CtrX.ofG (by decide) [(0, .ref x), (1, .int z)] rfl (Nat.le_of_ble_eq_true rfl) ?_
  intro p e s m args below meth c A C htb
  refine g_aload_n C 0 dX4_height_0 rfl rfl ?_
  refine g_iload_n C 1 dX4_height_1 rfl rfl ?_
  exact g_outV C htb [.int z] [] (c_netAtT l hlt E X S ho h) (recv_at ho.1.1 (pF_4 ho.1.2)) rfl cm_X4_netAt wv_X4_71 ds_X4_netAt rfl rfl (Nat.le_of_ble_eq_true rfl) (by decide) (by decide) dX4_height_2 (by decide) rfl
set_option maxRecDepth 100000 in
theorem c_keep (l : Launch) (E : Ev) (X : va_W) (S : HS) {x : Nat} (hx : isK S 4 x) {n : Int32} (h1 : ¬ n < 1) (h2 : n ≤ 8) : Ctr l yX4_keep (Cond.code yX4_keep cX4_keep 3 (some .int)) 2 0 0 E [.ref x, .int n] X S (fun v X2 S2 => some (.int (S.I 12 x)) = v ∧ X = X2 ∧ S.sI 12 x n = S2) := by
  refine Ctr.ofG (by decide) [(0, .ref x), (1, .int n)] rfl (Nat.le_of_ble_eq_true rfl) ?_
  intro p e s m args below meth c A Q C hQ
  refine g_iload_n C 1 dX4_keep_0 rfl rfl ?_
  refine g_iconst C 1 dX4_keep_1 (by decide) ?_
  refine g_bipush C 8 dX4_keep_2 (by decide) ?_
  refine g_callS C [.int n, .int 1, .int 8] [] (c_rw l E X S h1 h2) cm_X4_requireWithin wst_X4_47 dt_X4_requireWithin rfl rfl (Nat.le_of_ble_eq_true rfl) (by decide) (by decide) dX4_keep_4 ?_
  rintro v9 X2 S2 ⟨rfl, rfl, rfl⟩
  refine g_aload_n C 0 dX4_keep_7 rfl rfl ?_
  refine g_get C 5 hx.1 (pF_4 hx.2) rfl (by decide) in_X4 lk_X4_34 rfl rfl dX4_keep_8 ?_
  refine g_istore_n C [(2, .int (S.I 12 x)), (0, .ref x), (1, .int n)] dX4_keep_11 rfl (by decide) rfl ?_
  refine g_aload_n C 1 dX4_keep_12 rfl rfl ?_
  refine g_iload_n C 2 dX4_keep_13 rfl rfl ?_
  refine g_put (ty := .int) (S2 := (S.sI 12 x n)) C 5 hx.1 (pF_4 hx.2) rfl (by decide) in_X4 tyX4_ok nmX4 lk_X4_34 rfl rfl (by decide +kernel) rfl rfl (Nat.le_of_ble_eq_true rfl) rfl (pu_I12 (S := S) hx.2 n) dX4_keep_14 ?_
  refine g_iload_n C 0 dX4_keep_17 rfl rfl ?_
  exact g_iret C hQ rfl rfl dX4_keep_18 (by decide) (by decide) ⟨rfl, rfl, rfl⟩
set_option maxRecDepth 100000 in
theorem c_keepT (l : Launch) (hlt : l.stackTraces = false) (E : Ev) (X : va_W) (S : HS) {x : Nat} (hx : isK S 4 x) {n : Int32} (h : n < 1 ∨ ¬ n ≤ 8) : CtrT l yX4_keep (Cond.code yX4_keep cX4_keep 3 (some .int)) 2 1 6 E [.ref x, .int n] X S xIA := by
  refine CtrX.ofG (by decide) [(0, .ref x), (1, .int n)] rfl (Nat.le_of_ble_eq_true rfl) ?_
  intro p e s m args below meth c A C htb
  refine g_iload_n C 1 dX4_keep_0 rfl rfl ?_
  refine g_iconst C 1 dX4_keep_1 (by decide) ?_
  refine g_bipush C 8 dX4_keep_2 (by decide) ?_
  exact g_outS C htb [.int n, .int 1, .int 8] [] (c_rwT l hlt E X S h) cm_X4_requireWithin wst_X4_47 dt_X4_requireWithin rfl rfl (Nat.le_of_ble_eq_true rfl) (by decide) (by decide) dX4_keep_4 (by decide) rfl
/-- the table of the object -/
def crT (S : HS) (x t ha ta n : Nat) : Prop := isK S 4 x ∧ S.P 8 x = some t ∧ tbl S t ha ta n
set_option maxRecDepth 100000 in
theorem c_count0 (l : Launch) (E : Ev) (X : va_W) (S : HS) {x ln rn : Nat} {ns : List Nat} (ho : crO E S x ln rn ns) {t ha ta n9 : Nat} (ht : crT S x t ha ta n9) : Ctr l yX4_count (Cond.code yX4_count cX4_count 2 (some .int)) 2 0 0 E [.ref x, .int 0] X S (Same (.int (nI ns.length)) X S) := by
  refine Ctr.ofG (by decide) [(0, .ref x), (1, .int 0)] rfl (Nat.le_of_ble_eq_true rfl) ?_
  intro p e s m args below meth c A Q C hQ
  refine g_iload_n C 1 dX4_count_0 rfl rfl ?_
  refine g_tabIn (off := 35) C 36 dX4_count_1 (by decide) (by decide) (by decide +kernel) (by decide) ?_
  refine g_aload_n C 0 dX4_count_36 rfl rfl ?_
  refine g_get (v := .ref ln) C 0 ho.1.1 (pF_4 ho.1.2) rfl (by decide) in_X4 lk_X4_10 rfl (congrArg (fun z => some (va_rf z)) ho.2.1) dX4_count_37 ?_
  refine g_callV C [] [] (c_size l E X S ho.2.2.1) (recv_at ho.2.2.1.1.1 (pF_5 ho.2.2.1.1.2)) rfl cm_Jx4a65c_size_8abf5 wv_X4_51 ds_Jx4a65c_size_8abf5 rfl rfl (Nat.le_of_ble_eq_true rfl) (by decide) (by decide) dX4_count_40 ?_
  rintro v9 X2 S2 ⟨rfl, rfl, rfl⟩
  exact g_iret C hQ rfl rfl dX4_count_43 (by decide) (by decide) ⟨rfl, rfl, rfl⟩
set_option maxRecDepth 100000 in
theorem c_count1 (l : Launch) (E : Ev) (X : va_W) (S : HS) {x ln rn : Nat} {ns : List Nat} (ho : crO E S x ln rn ns) {t ha ta n9 : Nat} (ht : crT S x t ha ta n9) : Ctr l yX4_count (Cond.code yX4_count cX4_count 2 (some .int)) 2 0 0 E [.ref x, .int 1] X S (Same (.int (S.I 13 x)) X S) := by
  refine Ctr.ofG (by decide) [(0, .ref x), (1, .int 1)] rfl (Nat.le_of_ble_eq_true rfl) ?_
  intro p e s m args below meth c A Q C hQ
  refine g_iload_n C 1 dX4_count_0 rfl rfl ?_
  refine g_tabIn (off := 43) C 44 dX4_count_1 (by decide) (by decide) (by decide +kernel) (by decide) ?_
  refine g_aload_n C 0 dX4_count_44 rfl rfl ?_
  refine g_get C 6 ho.1.1 (pF_4 ho.1.2) rfl (by decide) in_X4 lk_X4_37 rfl rfl dX4_count_45 ?_
  exact g_iret C hQ rfl rfl dX4_count_48 (by decide) (by decide) ⟨rfl, rfl, rfl⟩
set_option maxRecDepth 100000 in
theorem c_count2 (l : Launch) (E : Ev) (X : va_W) (S : HS) {x ln rn : Nat} {ns : List Nat} (ho : crO E S x ln rn ns) {t ha ta n9 : Nat} (ht : crT S x t ha ta n9) : Ctr l yX4_count (Cond.code yX4_count cX4_count 2 (some .int)) 2 0 0 E [.ref x, .int 2] X S (Same (.int (S.I 14 x)) X S) := by
  refine Ctr.ofG (by decide) [(0, .ref x), (1, .int 2)] rfl (Nat.le_of_ble_eq_true rfl) ?_
  intro p e s m args below meth c A Q C hQ
  refine g_iload_n C 1 dX4_count_0 rfl rfl ?_
  refine g_tabIn (off := 48) C 49 dX4_count_1 (by decide) (by decide) (by decide +kernel) (by decide) ?_
  refine g_aload_n C 0 dX4_count_49 rfl rfl ?_
  refine g_get C 7 ho.1.1 (pF_4 ho.1.2) rfl (by decide) in_X4 lk_X4_40 rfl rfl dX4_count_50 ?_
  exact g_iret C hQ rfl rfl dX4_count_53 (by decide) (by decide) ⟨rfl, rfl, rfl⟩
set_option maxRecDepth 100000 in
theorem c_count3 (l : Launch) (E : Ev) (X : va_W) (S : HS) {x ln rn : Nat} {ns : List Nat} (ho : crO E S x ln rn ns) {t ha ta n9 : Nat} (ht : crT S x t ha ta n9) : Ctr l yX4_count (Cond.code yX4_count cX4_count 2 (some .int)) 2 0 0 E [.ref x, .int 3] X S (Same (.int (S.I 15 x)) X S) := by
  refine Ctr.ofG (by decide) [(0, .ref x), (1, .int 3)] rfl (Nat.le_of_ble_eq_true rfl) ?_
  intro p e s m args below meth c A Q C hQ
  refine g_iload_n C 1 dX4_count_0 rfl rfl ?_
  refine g_tabIn (off := 53) C 54 dX4_count_1 (by decide) (by decide) (by decide +kernel) (by decide) ?_
  refine g_aload_n C 0 dX4_count_54 rfl rfl ?_
  refine g_get C 8 ho.1.1 (pF_4 ho.1.2) rfl (by decide) in_X4 lk_X4_43 rfl rfl dX4_count_55 ?_
  exact g_iret C hQ rfl rfl dX4_count_58 (by decide) (by decide) ⟨rfl, rfl, rfl⟩
set_option maxRecDepth 100000 in
theorem c_count4 (l : Launch) (E : Ev) (X : va_W) (S : HS) {x ln rn : Nat} {ns : List Nat} (ho : crO E S x ln rn ns) {t ha ta n9 : Nat} (ht : crT S x t ha ta n9) : Ctr l yX4_count (Cond.code yX4_count cX4_count 2 (some .int)) 2 0 0 E [.ref x, .int 4] X S (Same (.int (nI n9)) X S) := by
  refine Ctr.ofG (by decide) [(0, .ref x), (1, .int 4)] rfl (Nat.le_of_ble_eq_true rfl) ?_
  intro p e s m args below meth c A Q C hQ
  refine g_iload_n C 1 dX4_count_0 rfl rfl ?_
  refine g_tabIn (off := 58) C 59 dX4_count_1 (by decide) (by decide) (by decide +kernel) (by decide) ?_
  refine g_aload_n C 0 dX4_count_59 rfl rfl ?_
  refine g_get (v := .ref t) C 2 ho.1.1 (pF_4 ho.1.2) rfl (by decide) in_X4 lk_X4_22 rfl (congrArg (fun z => some (va_rf z)) ht.2.1) dX4_count_60 ?_
  refine g_get (v := .int (nI n9)) C 2 ht.2.2.1.1 (pF_3 ht.2.2.1.2) rfl (by decide) in_X3 lk_X4_116 rfl (congrArg (fun z => some (Value.int z)) ht.2.2.2.2.2.2.2.2.2.1) dX4_count_63 ?_
  exact g_iret C hQ rfl rfl dX4_count_66 (by decide) (by decide) ⟨rfl, rfl, rfl⟩
set_option maxRecDepth 100000 in
theorem c_countT (l : Launch) (hlt : l.stackTraces = false) (E : Ev) (X : va_W) (S : HS) {x ln rn : Nat} {ns : List Nat} (ho : crO E S x ln rn ns) {z : Int32} (h : z.toInt < 0 ∨ 4 < z.toInt) : CtrT l yX4_count (Cond.code yX4_count cX4_count 2 (some .int)) 2 1 6 E [.ref x, .int z] X S xIO := by
  refine CtrX.ofG (by decide) [(0, .ref x), (1, .int z)] rfl (Nat.le_of_ble_eq_true rfl) ?_
  intro p e s m args below meth c A C htb
  refine g_iload_n C 1 dX4_count_0 rfl rfl ?_
  refine g_tabOut C 67 dX4_count_1 h (by decide) ?_
  exact g_throwS C htb hlt rfl (by decide +kernel) xk_IO xi_IO C.z.2.2.2.2.2.2.2.2.1 xg_152 xn_152 C.z.2.2.2.2.2.2.2.2.2.2.2.2.2.2.2.2.1 xo_152 dX4_count_67 dX4_count_70 dX4_count_71 dX4_count_73 dX4_count_76 ⟨by decide, Nat.le_of_ble_eq_true rfl⟩ (by decide) (by decide) rfl
set_option maxRecDepth 100000 in
theorem c_row (l : Launch) (E : Ev) (X : va_W) (S : HS) {x t ha ta n : Nat} (ht : crT S x t ha ta n) (hn : n < 20) {h z : Int32} (a1 : ¬ h < 0) (a2 : h ≤ 100000) (b1 : ¬ z < 0) (b2 : z ≤ 100000) : Ctr l yX4_row (Cond.code yX4_row cX4_row 3 (some .boolean)) 2 0 0 E [.ref x, .int h, .int z] X S (fun v X2 S2 => X = X2 ∧ ((apOK S ha n h ∧ some (.int 1) = v ∧ ((S.sR ha n h).sR ta n z).sI 10 t (nI (n + 1)) = S2) ∨ (¬ apOK S ha n h ∧ some (.int 0) = v ∧ S = S2))) := by
  refine Ctr.ofG (by decide) [(0, .ref x), (1, .int h), (2, .int z)] rfl (Nat.le_of_ble_eq_true rfl) ?_
  intro p e s m args below meth c A Q C hQ
  refine g_iload_n C 1 dX4_row_0 rfl rfl ?_
  refine g_iconst C 0 dX4_row_1 (by decide) ?_
  refine g_ldc C kc_X4_98 dX4_row_2 ?_
  refine g_callS C [.int h, .int 0, .int 100000] [] (c_rw l E X S a1 a2) cm_X4_requireWithin wst_X4_47 dt_X4_requireWithin rfl rfl (Nat.le_of_ble_eq_true rfl) (by decide) (by decide) dX4_row_4 ?_
  rintro v9 X2 S2 ⟨rfl, rfl, rfl⟩
  refine g_iload_n C 2 dX4_row_7 rfl rfl ?_
  refine g_iconst C 0 dX4_row_8 (by decide) ?_
  refine g_ldc C kc_X4_98 dX4_row_9 ?_
  refine g_callS C [.int z, .int 0, .int 100000] [] (c_rw l E X S b1 b2) cm_X4_requireWithin wst_X4_47 dt_X4_requireWithin rfl rfl (Nat.le_of_ble_eq_true rfl) (by decide) (by decide) dX4_row_11 ?_
  rintro v9 X2 S2 ⟨rfl, rfl, rfl⟩
  refine g_aload_n C 0 dX4_row_14 rfl rfl ?_
  refine g_get (v := .ref t) C 2 ht.1.1 (pF_4 ht.1.2) rfl (by decide) in_X4 lk_X4_22 rfl (congrArg (fun z => some (va_rf z)) ht.2.1) dX4_row_15 ?_
  refine g_get (v := .int (nI n)) C 2 ht.2.2.1.1 (pF_3 ht.2.2.1.2) rfl (by decide) in_X3 lk_X4_116 rfl (congrArg (fun z => some (Value.int z)) ht.2.2.2.2.2.2.2.2.2.1) dX4_row_18 ?_
  refine g_bipush C 20 dX4_row_21 (by decide) ?_
  refine g_callS C [.int (nI n), .int 20] [] (c_rr l E X S (nI_ge hn (by decide))) cm_X4_requireRoom wst_X4_55 dt_X4_requireRoom rfl rfl (Nat.le_of_ble_eq_true rfl) (by decide) (by decide) dX4_row_23 ?_
  rintro v9 X2 S2 ⟨rfl, rfl, rfl⟩
  refine g_aload_n C 0 dX4_row_26 rfl rfl ?_
  refine g_get (v := .ref t) C 2 ht.1.1 (pF_4 ht.1.2) rfl (by decide) in_X4 lk_X4_22 rfl (congrArg (fun z => some (va_rf z)) ht.2.1) dX4_row_27 ?_
  refine g_iload_n C 1 dX4_row_30 rfl rfl ?_
  refine g_iload_n C 2 dX4_row_31 rfl rfl ?_
  refine g_callV C [.int h, .int z] [] (c_append l E X S ht.2.2 hn h z) (recv_at ht.2.2.1.1 (pF_3 ht.2.2.1.2)) rfl cm_X3_append wv_X4_118 ds_X3_append rfl rfl (Nat.le_of_ble_eq_true rfl) (by decide) (by decide) dX4_row_32 ?_
  rintro v9 X2 S2 ⟨rfl, hp⟩
  rcases hp with ⟨h1, rfl, h2⟩ | ⟨h1, rfl, h2⟩
  · exact g_iret C hQ rfl rfl dX4_row_35 (by decide) (by decide) ⟨rfl, Or.inl ⟨h1, rfl, h2⟩⟩
  · exact g_iret C hQ rfl rfl dX4_row_35 (by decide) (by decide) ⟨rfl, Or.inr ⟨h1, rfl, h2⟩⟩
set_option maxRecDepth 100000 in
theorem c_rowT1 (l : Launch) (hlt : l.stackTraces = false) (E : Ev) (X : va_W) (S : HS) {x t ha ta n : Nat} (ht : crT S x t ha ta n) {h z : Int32} (g : h < 0 ∨ ¬ h ≤ 100000) : CtrT l yX4_row (Cond.code yX4_row cX4_row 3 (some .boolean)) 2 1 6 E [.ref x, .int h, .int z] X S xIA := by
  refine CtrX.ofG (by decide) [(0, .ref x), (1, .int h), (2, .int z)] rfl (Nat.le_of_ble_eq_true rfl) ?_
  intro p e s m args below meth c A C htb
  refine g_iload_n C 1 dX4_row_0 rfl rfl ?_
  refine g_iconst C 0 dX4_row_1 (by decide) ?_
  refine g_ldc C kc_X4_98 dX4_row_2 ?_
  exact g_outS C htb [.int h, .int 0, .int 100000] [] (c_rwT l hlt E X S g) cm_X4_requireWithin wst_X4_47 dt_X4_requireWithin rfl rfl (Nat.le_of_ble_eq_true rfl) (by decide) (by decide) dX4_row_4 (by decide) rfl
set_option maxRecDepth 100000 in
theorem c_rowT2 (l : Launch) (hlt : l.stackTraces = false) (E : Ev) (X : va_W) (S : HS) {x t ha ta n : Nat} (ht : crT S x t ha ta n) {h z : Int32} (a1 : ¬ h < 0) (a2 : h ≤ 100000) (g : z < 0 ∨ ¬ z ≤ 100000) : CtrT l yX4_row (Cond.code yX4_row cX4_row 3 (some .boolean)) 2 1 6 E [.ref x, .int h, .int z] X S xIA := by
  refine CtrX.ofG (by decide) [(0, .ref x), (1, .int h), (2, .int z)] rfl (Nat.le_of_ble_eq_true rfl) ?_
  intro p e s m args below meth c A C htb
  refine g_iload_n C 1 dX4_row_0 rfl rfl ?_
  refine g_iconst C 0 dX4_row_1 (by decide) ?_
  refine g_ldc C kc_X4_98 dX4_row_2 ?_
  refine g_callS C [.int h, .int 0, .int 100000] [] (c_rw l E X S a1 a2) cm_X4_requireWithin wst_X4_47 dt_X4_requireWithin rfl rfl (Nat.le_of_ble_eq_true rfl) (by decide) (by decide) dX4_row_4 ?_
  rintro v9 X2 S2 ⟨rfl, rfl, rfl⟩
  refine g_iload_n C 2 dX4_row_7 rfl rfl ?_
  refine g_iconst C 0 dX4_row_8 (by decide) ?_
  refine g_ldc C kc_X4_98 dX4_row_9 ?_
  exact g_outS C htb [.int z, .int 0, .int 100000] [] (c_rwT l hlt E X S g) cm_X4_requireWithin wst_X4_47 dt_X4_requireWithin rfl rfl (Nat.le_of_ble_eq_true rfl) (by decide) (by decide) dX4_row_11 (by decide) rfl
set_option maxRecDepth 100000 in
theorem c_rowT3 (l : Launch) (hlt : l.stackTraces = false) (E : Ev) (X : va_W) (S : HS) {x t ha ta n : Nat} (ht : crT S x t ha ta n) (hn : 20 ≤ n) {h z : Int32} (a1 : ¬ h < 0) (a2 : h ≤ 100000) (b1 : ¬ z < 0) (b2 : z ≤ 100000) : CtrT l yX4_row (Cond.code yX4_row cX4_row 3 (some .boolean)) 2 1 6 E [.ref x, .int h, .int z] X S xIS := by
  refine CtrX.ofG (by decide) [(0, .ref x), (1, .int h), (2, .int z)] rfl (Nat.le_of_ble_eq_true rfl) ?_
  intro p e s m args below meth c A C htb
  refine g_iload_n C 1 dX4_row_0 rfl rfl ?_
  refine g_iconst C 0 dX4_row_1 (by decide) ?_
  refine g_ldc C kc_X4_98 dX4_row_2 ?_
  refine g_callS C [.int h, .int 0, .int 100000] [] (c_rw l E X S a1 a2) cm_X4_requireWithin wst_X4_47 dt_X4_requireWithin rfl rfl (Nat.le_of_ble_eq_true rfl) (by decide) (by decide) dX4_row_4 ?_
  rintro v9 X2 S2 ⟨rfl, rfl, rfl⟩
  refine g_iload_n C 2 dX4_row_7 rfl rfl ?_
  refine g_iconst C 0 dX4_row_8 (by decide) ?_
  refine g_ldc C kc_X4_98 dX4_row_9 ?_
  refine g_callS C [.int z, .int 0, .int 100000] [] (c_rw l E X S b1 b2) cm_X4_requireWithin wst_X4_47 dt_X4_requireWithin rfl rfl (Nat.le_of_ble_eq_true rfl) (by decide) (by decide) dX4_row_11 ?_
  rintro v9 X2 S2 ⟨rfl, rfl, rfl⟩
  refine g_aload_n C 0 dX4_row_14 rfl rfl ?_
  refine g_get (v := .ref t) C 2 ht.1.1 (pF_4 ht.1.2) rfl (by decide) in_X4 lk_X4_22 rfl (congrArg (fun z => some (va_rf z)) ht.2.1) dX4_row_15 ?_
  refine g_get (v := .int (nI n)) C 2 ht.2.2.1.1 (pF_3 ht.2.2.1.2) rfl (by decide) in_X3 lk_X4_116 rfl (congrArg (fun z => some (Value.int z)) ht.2.2.2.2.2.2.2.2.2.1) dX4_row_18 ?_
  refine g_bipush C 20 dX4_row_21 (by decide) ?_
  exact g_outS C htb [.int (nI n), .int 20] [] (c_rrT l hlt E X S (nI_le hn (by have := ht.2.2.2.2.2.2.2.2.2.2.1; omega))) cm_X4_requireRoom wst_X4_55 dt_X4_requireRoom rfl rfl (Nat.le_of_ble_eq_true rfl) (by decide) (by decide) dX4_row_23 (by decide) rfl
