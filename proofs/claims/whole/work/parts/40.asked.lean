/-- nothing comes of it -/
def Nop (X : va_W) (S : HS) : Option Value → va_W → HS → Prop := fun v X2 S2 => none = v ∧ X = X2 ∧ S = S2
set_option maxRecDepth 100000 in
theorem c_rp (l : Launch) (E : Ev) (X : va_W) (S : HS) {x z : Int32} (h : ¬ x < 0) (h2 : x < z) : Ctr l yX4_requirePlace (Cond.code yX4_requirePlace cX4_requirePlace 2 none) 1 0 0 E [.int x, .int z] X S (Nop X S) := by
  refine Ctr.ofG (by decide) [(0, .int x), (1, .int z)] rfl (Nat.le_of_ble_eq_true rfl) ?_
  intro p e s m args below meth c A Q C hQ
  refine g_iload_n C 0 dX4_requirePlace_0 rfl rfl ?_
  refine g_if_lt C 9 dX4_requirePlace_1 (by decide) (fun h1 => ?_) (fun h1 => ?_)
  · first | exact absurd h1 h | exact absurd h2 h6
  · refine g_iload_n C 0 dX4_requirePlace_4 rfl rfl ?_
    refine g_iload_n C 1 dX4_requirePlace_5 rfl rfl ?_
    refine g_icmp_lt C 19 dX4_requirePlace_6 (by decide) (fun h6 => ?_) (fun h6 => ?_)
    · exact g_vret C hQ rfl dX4_requirePlace_19 (by decide) (by decide) ⟨rfl, rfl, rfl⟩
    · first | exact absurd h1 h | exact absurd h2 h6
set_option maxRecDepth 100000 in
theorem c_rpT (l : Launch) (hlt : l.stackTraces = false) (E : Ev) (X : va_W) (S : HS) {x z : Int32} (h : x < 0 ∨ ¬ x < z) : CtrT l yX4_requirePlace (Cond.code yX4_requirePlace cX4_requirePlace 2 none) 1 1 6 E [.int x, .int z] X S xIO := by
  refine CtrX.ofG (by decide) [(0, .int x), (1, .int z)] rfl (Nat.le_of_ble_eq_true rfl) ?_
  intro p e s m args below meth c A C htb
  refine g_iload_n C 0 dX4_requirePlace_0 rfl rfl ?_
  refine g_if_lt C 9 dX4_requirePlace_1 (by decide) (fun h1 => ?_) (fun h1 => ?_)
  · exact g_throwS C htb hlt rfl (by decide +kernel) xk_IO xi_IO C.z.2.2.2.2.2.2.2.1 xg_152 xn_152 C.z.2.2.2.2.2.2.2.2.2.2.2.2.2.2.2.2.1 xo_152 dX4_requirePlace_9 dX4_requirePlace_12 dX4_requirePlace_13 dX4_requirePlace_15 dX4_requirePlace_18 ⟨by decide, Nat.le_of_ble_eq_true rfl⟩ (by decide) (by decide) rfl
  · refine g_iload_n C 0 dX4_requirePlace_4 rfl rfl ?_
    refine g_iload_n C 1 dX4_requirePlace_5 rfl rfl ?_
    refine g_icmp_lt C 19 dX4_requirePlace_6 (by decide) (fun h6 => ?_) (fun h6 => ?_)
    · exact absurd h (fun q => q.elim (fun z => h1 z) (fun z => z h6))
    · exact g_throwS C htb hlt rfl (by decide +kernel) xk_IO xi_IO C.z.2.2.2.2.2.2.2.1 xg_152 xn_152 C.z.2.2.2.2.2.2.2.2.2.2.2.2.2.2.2.2.1 xo_152 dX4_requirePlace_9 dX4_requirePlace_12 dX4_requirePlace_13 dX4_requirePlace_15 dX4_requirePlace_18 ⟨by decide, Nat.le_of_ble_eq_true rfl⟩ (by decide) (by decide) rfl
set_option maxRecDepth 100000 in
theorem c_rw (l : Launch) (E : Ev) (X : va_W) (S : HS) {x z y : Int32} (h : ¬ x < z) (h1 : x ≤ y) : Ctr l yX4_requireWithin (Cond.code yX4_requireWithin cX4_requireWithin 3 none) 1 0 0 E [.int x, .int z, .int y] X S (Nop X S) := by
  refine Ctr.ofG (by decide) [(0, .int x), (1, .int z), (2, .int y)] rfl (Nat.le_of_ble_eq_true rfl) ?_
  intro p e s m args below meth c A Q C hQ
  refine g_iload_n C 0 dX4_requireWithin_0 rfl rfl ?_
  refine g_iload_n C 1 dX4_requireWithin_1 rfl rfl ?_
  refine g_icmp_lt C 10 dX4_requireWithin_2 (by decide) (fun h2 => ?_) (fun h2 => ?_)
  · first | exact absurd h2 h | exact absurd h1 h7
  · refine g_iload_n C 0 dX4_requireWithin_5 rfl rfl ?_
    refine g_iload_n C 2 dX4_requireWithin_6 rfl rfl ?_
    refine g_icmp_le C 20 dX4_requireWithin_7 (by decide) (fun h7 => ?_) (fun h7 => ?_)
    · exact g_vret C hQ rfl dX4_requireWithin_20 (by decide) (by decide) ⟨rfl, rfl, rfl⟩
    · first | exact absurd h2 h | exact absurd h1 h7
set_option maxRecDepth 100000 in
theorem c_rwT (l : Launch) (hlt : l.stackTraces = false) (E : Ev) (X : va_W) (S : HS) {x z y : Int32} (h : x < z ∨ ¬ x ≤ y) : CtrT l yX4_requireWithin (Cond.code yX4_requireWithin cX4_requireWithin 3 none) 1 1 6 E [.int x, .int z, .int y] X S xIA := by
  refine CtrX.ofG (by decide) [(0, .int x), (1, .int z), (2, .int y)] rfl (Nat.le_of_ble_eq_true rfl) ?_
  intro p e s m args below meth c A C htb
  refine g_iload_n C 0 dX4_requireWithin_0 rfl rfl ?_
  refine g_iload_n C 1 dX4_requireWithin_1 rfl rfl ?_
  refine g_icmp_lt C 10 dX4_requireWithin_2 (by decide) (fun h2 => ?_) (fun h2 => ?_)
  · exact g_throwS C htb hlt rfl (by decide +kernel) xk_IA xi_IA C.z.2.2.2.2.2.2.2.2.2.1 xg_177 xn_177 C.z.2.2.2.2.2.2.2.2.2.2.2.2.2.2.2.2.2.1 xo_177 dX4_requireWithin_10 dX4_requireWithin_13 dX4_requireWithin_14 dX4_requireWithin_16 dX4_requireWithin_19 ⟨by decide, Nat.le_of_ble_eq_true rfl⟩ (by decide) (by decide) rfl
  · refine g_iload_n C 0 dX4_requireWithin_5 rfl rfl ?_
    refine g_iload_n C 2 dX4_requireWithin_6 rfl rfl ?_
    refine g_icmp_le C 20 dX4_requireWithin_7 (by decide) (fun h7 => ?_) (fun h7 => ?_)
    · exact absurd h (fun q => q.elim (fun z => h2 z) (fun z => z h7))
    · exact g_throwS C htb hlt rfl (by decide +kernel) xk_IA xi_IA C.z.2.2.2.2.2.2.2.2.2.1 xg_177 xn_177 C.z.2.2.2.2.2.2.2.2.2.2.2.2.2.2.2.2.2.1 xo_177 dX4_requireWithin_10 dX4_requireWithin_13 dX4_requireWithin_14 dX4_requireWithin_16 dX4_requireWithin_19 ⟨by decide, Nat.le_of_ble_eq_true rfl⟩ (by decide) (by decide) rfl
set_option maxRecDepth 100000 in
theorem c_rd (l : Launch) (E : Ev) (X : va_W) (S : HS) {x z : Int32} (h : ¬ x = z) : Ctr l yX4_requireDifferent (Cond.code yX4_requireDifferent cX4_requireDifferent 2 none) 1 0 0 E [.int x, .int z] X S (Nop X S) := by
  refine Ctr.ofG (by decide) [(0, .int x), (1, .int z)] rfl (Nat.le_of_ble_eq_true rfl) ?_
  intro p e s m args below meth c A Q C hQ
  refine g_iload_n C 0 dX4_requireDifferent_0 rfl rfl ?_
  refine g_iload_n C 1 dX4_requireDifferent_1 rfl rfl ?_
  refine g_icmp_ne C 15 dX4_requireDifferent_2 (by decide) (fun h2 => ?_) (fun h2 => ?_)
  · exact g_vret C hQ rfl dX4_requireDifferent_15 (by decide) (by decide) ⟨rfl, rfl, rfl⟩
  · exact absurd h2 h
set_option maxRecDepth 100000 in
theorem c_rdT (l : Launch) (hlt : l.stackTraces = false) (E : Ev) (X : va_W) (S : HS) {x z : Int32} (h : x = z) : CtrT l yX4_requireDifferent (Cond.code yX4_requireDifferent cX4_requireDifferent 2 none) 1 1 6 E [.int x, .int z] X S xIA := by
  refine CtrX.ofG (by decide) [(0, .int x), (1, .int z)] rfl (Nat.le_of_ble_eq_true rfl) ?_
  intro p e s m args below meth c A C htb
  refine g_iload_n C 0 dX4_requireDifferent_0 rfl rfl ?_
  refine g_iload_n C 1 dX4_requireDifferent_1 rfl rfl ?_
  refine g_icmp_ne C 15 dX4_requireDifferent_2 (by decide) (fun h2 => ?_) (fun h2 => ?_)
  · exact absurd h h2
  · exact g_throwS C htb hlt rfl (by decide +kernel) xk_IA xi_IA C.z.2.2.2.2.2.2.2.2.2.2.1 xg_177 xn_177 C.z.2.2.2.2.2.2.2.2.2.2.2.2.2.2.2.2.2.1 xo_177 dX4_requireDifferent_5 dX4_requireDifferent_8 dX4_requireDifferent_9 dX4_requireDifferent_11 dX4_requireDifferent_14 ⟨by decide, Nat.le_of_ble_eq_true rfl⟩ (by decide) (by decide) rfl
set_option maxRecDepth 100000 in
theorem c_rr (l : Launch) (E : Ev) (X : va_W) (S : HS) {x z : Int32} (h : ¬ z ≤ x) : Ctr l yX4_requireRoom (Cond.code yX4_requireRoom cX4_requireRoom 2 none) 1 0 0 E [.int x, .int z] X S (Nop X S) := by
  refine Ctr.ofG (by decide) [(0, .int x), (1, .int z)] rfl (Nat.le_of_ble_eq_true rfl) ?_
  intro p e s m args below meth c A Q C hQ
  refine g_iload_n C 0 dX4_requireRoom_0 rfl rfl ?_
  refine g_iload_n C 1 dX4_requireRoom_1 rfl rfl ?_
  refine g_icmp_lt C 15 dX4_requireRoom_2 (by decide) (fun h2 => ?_) (fun h2 => ?_)
  · exact g_vret C hQ rfl dX4_requireRoom_15 (by decide) (by decide) ⟨rfl, rfl, rfl⟩
  · exact absurd (Int32.not_le.mp h) h2
set_option maxRecDepth 100000 in
theorem c_rrT (l : Launch) (hlt : l.stackTraces = false) (E : Ev) (X : va_W) (S : HS) {x z : Int32} (h : z ≤ x) : CtrT l yX4_requireRoom (Cond.code yX4_requireRoom cX4_requireRoom 2 none) 1 1 6 E [.int x, .int z] X S xIS := by
  refine CtrX.ofG (by decide) [(0, .int x), (1, .int z)] rfl (Nat.le_of_ble_eq_true rfl) ?_
  intro p e s m args below meth c A C htb
  refine g_iload_n C 0 dX4_requireRoom_0 rfl rfl ?_
  refine g_iload_n C 1 dX4_requireRoom_1 rfl rfl ?_
  refine g_icmp_lt C 15 dX4_requireRoom_2 (by decide) (fun h2 => ?_) (fun h2 => ?_)
  · exact absurd h (Int32.not_le.mpr h2)
  · exact g_throwS C htb hlt rfl (by decide +kernel) xk_IS xi_IS C.z.2.2.2.2.2.2.2.2.2.2.2.1 xg_184 xn_184 C.z.2.2.2.2.2.2.2.2.2.2.2.2.2.2.2.2.2.2.1 xo_184 dX4_requireRoom_5 dX4_requireRoom_8 dX4_requireRoom_9 dX4_requireRoom_11 dX4_requireRoom_14 ⟨by decide, Nat.le_of_ble_eq_true rfl⟩ (by decide) (by decide) rfl
/-- the object at x: its list of nets at ln, the row at rn, holds ns -/
def crO (E : Ev) (S : HS) (x ln rn : Nat) (ns : List Nat) : Prop := isK S 4 x ∧ S.P 6 x = some ln ∧ isAL E S ln rn ns ∧ ∀ a ∈ ns, isK S 0 a
theorem crO.len {E : Ev} {S : HS} {x ln rn : Nat} {ns : List Nat} (h : crO E S x ln rn ns) : ns.length ≤ 100 := h.2.2.1.2.2.2.1
set_option maxRecDepth 100000 in
theorem c_netAt (l : Launch) (E : Ev) (X : va_W) (S : HS) {x ln rn : Nat} {ns : List Nat} (ho : crO E S x ln rn ns) {i : Nat} (hi : i < ns.length) : Ctr l yX4_netAt (Cond.code yX4_netAt cX4_netAt 2 (some (.object "CrossRounds$Net"))) 4 0 0 E [.ref x, .int (nI i)] X S (Same (.ref ns[i]) X S) := by
  refine Ctr.ofG (by decide) [(0, .ref x), (1, .int (nI i))] rfl (Nat.le_of_ble_eq_true rfl) ?_
  intro p e s m args below meth c A Q C hQ
  refine g_iload_n C 1 dX4_netAt_0 rfl rfl ?_
  refine g_aload_n C 0 dX4_netAt_1 rfl rfl ?_
  refine g_get (v := .ref ln) C 0 ho.1.1 (pF_4 ho.1.2) rfl (by decide) in_X4 lk_X4_10 rfl (congrArg (fun z => some (va_rf z)) ho.2.1) dX4_netAt_2 ?_
  refine g_callV C [] [.int (nI i)] (c_size l E X S ho.2.2.1) (recv_at ho.2.2.1.1.1 (pF_5 ho.2.2.1.1.2)) rfl cm_Jx4a65c_size_8abf5 wv_X4_51 ds_Jx4a65c_size_8abf5 rfl rfl (Nat.le_of_ble_eq_true rfl) (by decide) (by decide) dX4_netAt_5 ?_
  rintro v9 X2 S2 ⟨rfl, rfl, rfl⟩
  refine g_callS C [.int (nI i), .int (nI ns.length)] [] (c_rp l E X S (nI_pos (by have := ho.len; omega)) (nI_lt hi (by have := ho.len; omega))) cm_X4_requirePlace wst_X4_145 dt_X4_requirePlace rfl rfl (Nat.le_of_ble_eq_true rfl) (by decide) (by decide) dX4_netAt_8 ?_
  rintro v9 X2 S2 ⟨rfl, rfl, rfl⟩
  refine g_aload_n C 0 dX4_netAt_11 rfl rfl ?_
  refine g_get (v := .ref ln) C 0 ho.1.1 (pF_4 ho.1.2) rfl (by decide) in_X4 lk_X4_10 rfl (congrArg (fun z => some (va_rf z)) ho.2.1) dX4_netAt_12 ?_
  refine g_iload_n C 1 dX4_netAt_15 rfl rfl ?_
  refine g_callV C [.int (nI i)] [] (c_get l E X S ho.2.2.1 hi) (recv_at ho.2.2.1.1.1 (pF_5 ho.2.2.1.1.2)) rfl cm_Jx4a65c_get_915e3 wv_X4_122 ds_Jx4a65c_get_915e3 rfl rfl (Nat.le_of_ble_eq_true rfl) (by decide) (by decide) dX4_netAt_16 ?_
  rintro v9 X2 S2 ⟨rfl, rfl, rfl⟩
  show GW _ _ _ _ _ _ _ _ _ _ _ _ _ _ _ _ _ _ _ _ (.ref ns[i] :: _)
  obtain ⟨a, ha⟩ : ∃ a, a = ns[i] := ⟨_, rfl⟩
  rw [← ha]
  have hka : isK S 0 a := by rw [ha]; exact ho.2.2.2 _ (List.getElem_mem hi)
  refine g_cast C hka.1 (pF_0 hka.2) rfl kl_X4_59 dX4_netAt_19 ?_
  exact g_aret C hQ rfl (by first | exact Or.inl ⟨_, rfl⟩ | exact Or.inr ⟨_, rfl⟩) (Or.inr ⟨_, rfl⟩) dX4_netAt_22 (by decide) (by decide) ⟨by rw [ha], rfl, rfl⟩
set_option maxRecDepth 100000 in
theorem c_netAtT (l : Launch) (hlt : l.stackTraces = false) (E : Ev) (X : va_W) (S : HS) {x ln rn : Nat} {ns : List Nat} (ho : crO E S x ln rn ns) {z : Int32} (h : z < 0 ∨ ¬ z < nI ns.length) : CtrT l yX4_netAt (Cond.code yX4_netAt cX4_netAt 2 (some (.object "CrossRounds$Net"))) 4 1 6 E [.ref x, .int z] X S xIO := by
  refine CtrX.ofG (by decide) [(0, .ref x), (1, .int z)] rfl (Nat.le_of_ble_eq_true rfl) ?_
  intro p e s m args below meth c A C htb
  refine g_iload_n C 1 dX4_netAt_0 rfl rfl ?_
  refine g_aload_n C 0 dX4_netAt_1 rfl rfl ?_
  refine g_get (v := .ref ln) C 0 ho.1.1 (pF_4 ho.1.2) rfl (by decide) in_X4 lk_X4_10 rfl (congrArg (fun z => some (va_rf z)) ho.2.1) dX4_netAt_2 ?_
  refine g_callV C [] [.int z] (c_size l E X S ho.2.2.1) (recv_at ho.2.2.1.1.1 (pF_5 ho.2.2.1.1.2)) rfl cm_Jx4a65c_size_8abf5 wv_X4_51 ds_Jx4a65c_size_8abf5 rfl rfl (Nat.le_of_ble_eq_true rfl) (by decide) (by decide) dX4_netAt_5 ?_
  rintro v9 X2 S2 ⟨rfl, rfl, rfl⟩
  exact g_outS C htb [.int z, .int (nI ns.length)] [] (c_rpT l hlt E X S h) cm_X4_requirePlace wst_X4_145 dt_X4_requirePlace rfl rfl (Nat.le_of_ble_eq_true rfl) (by decide) (by decide) dX4_netAt_8 (by decide) rfl
set_option maxRecDepth 100000 in
theorem c_early (l : Launch) (E : Ev) (X : va_W) (S : HS) {x ln rn : Nat} {ns : List Nat} (ho : crO E S x ln rn ns) {i : Nat} (hi : i < ns.length) : Ctr l yX4_early (Cond.code yX4_early cX4_early 2 (some .int)) 5 0 0 E [.ref x, .int (nI i)] X S (Same (.int (S.I 4 ns[i])) X S) := by
  refine Ctr.ofG (by decide) [(0, .ref x), (1, .int (nI i))] rfl (Nat.le_of_ble_eq_true rfl) ?_
  intro p e s m args below meth c A Q C hQ
  refine g_aload_n C 0 dX4_early_0 rfl rfl ?_
  refine g_iload_n C 1 dX4_early_1 rfl rfl ?_
  refine g_callV C [.int (nI i)] [] (c_netAt l E X S ho hi) (recv_at ho.1.1 (pF_4 ho.1.2)) rfl cm_X4_netAt wv_X4_71 ds_X4_netAt rfl rfl (Nat.le_of_ble_eq_true rfl) (by decide) (by decide) dX4_early_2 ?_
  rintro v9 X2 S2 ⟨rfl, rfl, rfl⟩
  show GW _ _ _ _ _ _ _ _ _ _ _ _ _ _ _ _ _ _ _ _ (.ref ns[i] :: _)
  obtain ⟨a, ha⟩ : ∃ a, a = ns[i] := ⟨_, rfl⟩
  rw [← ha]
  have hka : isK S 0 a := by rw [ha]; exact ho.2.2.2 _ (List.getElem_mem hi)
  refine g_get C 8 hka.1 (pF_0 hka.2) rfl (by decide) in_X0 lk_X4_139 rfl rfl dX4_early_5 ?_
  exact g_iret C hQ rfl rfl dX4_early_8 (by decide) (by decide) ⟨by rw [ha], rfl, rfl⟩
set_option maxRecDepth 100000 in
theorem c_earlyT (l : Launch) (hlt : l.stackTraces = false) (E : Ev) (X : va_W) (S : HS) {x ln rn : Nat} {ns : List Nat} (ho : crO E S x ln rn ns) {z : Int32} (h : z < 0 ∨ ¬ z < nI ns.length) : CtrT l yX4_early (Cond.code yX4_early cX4_early 2 (some .int)) 5 1 6 E [.ref x, .int z] X S xIO := by
  refine CtrX.ofG (by decide) [(0, .ref x), (1, .int z)] rfl (Nat.le_of_ble_eq_true rfl) ?_
  intro p e s m args below meth c A C htb
  refine g_aload_n C 0 dX4_early_0 rfl rfl ?_
  refine g_iload_n C 1 dX4_early_1 rfl rfl ?_
  exact g_outV C htb [.int z] [] (c_netAtT l hlt E X S ho h) (recv_at ho.1.1 (pF_4 ho.1.2)) rfl cm_X4_netAt wv_X4_71 ds_X4_netAt rfl rfl (Nat.le_of_ble_eq_true rfl) (by decide) (by decide) dX4_early_2 (by decide) rfl
set_option maxRecDepth 100000 in
theorem c_late (l : Launch) (E : Ev) (X : va_W) (S : HS) {x ln rn : Nat} {ns : List Nat} (ho : crO E S x ln rn ns) {i : Nat} (hi : i < ns.length) : Ctr l yX4_late (Cond.code yX4_late cX4_late 2 (some .int)) 5 0 0 E [.ref x, .int (nI i)] X S (Same (.int (S.I 5 ns[i])) X S) := by
  refine Ctr.ofG (by decide) [(0, .ref x), (1, .int (nI i))] rfl (Nat.le_of_ble_eq_true rfl) ?_
  intro p e s m args below meth c A Q C hQ
  refine g_aload_n C 0 dX4_late_0 rfl rfl ?_
  refine g_iload_n C 1 dX4_late_1 rfl rfl ?_
  refine g_callV C [.int (nI i)] [] (c_netAt l E X S ho hi) (recv_at ho.1.1 (pF_4 ho.1.2)) rfl cm_X4_netAt wv_X4_71 ds_X4_netAt rfl rfl (Nat.le_of_ble_eq_true rfl) (by decide) (by decide) dX4_late_2 ?_
  rintro v9 X2 S2 ⟨rfl, rfl, rfl⟩
  show GW _ _ _ _ _ _ _ _ _ _ _ _ _ _ _ _ _ _ _ _ (.ref ns[i] :: _)
  obtain ⟨a, ha⟩ : ∃ a, a = ns[i] := ⟨_, rfl⟩
  rw [← ha]
  have hka : isK S 0 a := by rw [ha]; exact ho.2.2.2 _ (List.getElem_mem hi)
  refine g_get C 9 hka.1 (pF_0 hka.2) rfl (by decide) in_X0 lk_X4_142 rfl rfl dX4_late_5 ?_
  exact g_iret C hQ rfl rfl dX4_late_8 (by decide) (by decide) ⟨by rw [ha], rfl, rfl⟩
set_option maxRecDepth 100000 in
theorem c_lateT (l : Launch) (hlt : l.stackTraces = false) (E : Ev) (X : va_W) (S : HS) {x ln rn : Nat} {ns : List Nat} (ho : crO E S x ln rn ns) {z : Int32} (h : z < 0 ∨ ¬ z < nI ns.length) : CtrT l yX4_late (Cond.code yX4_late cX4_late 2 (some .int)) 5 1 6 E [.ref x, .int z] X S xIO := by
  refine CtrX.ofG (by decide) [(0, .ref x), (1, .int z)] rfl (Nat.le_of_ble_eq_true rfl) ?_
  intro p e s m args below meth c A C htb
  refine g_aload_n C 0 dX4_late_0 rfl rfl ?_
  refine g_iload_n C 1 dX4_late_1 rfl rfl ?_
  exact g_outV C htb [.int z] [] (c_netAtT l hlt E X S ho h) (recv_at ho.1.1 (pF_4 ho.1.2)) rfl cm_X4_netAt wv_X4_71 ds_X4_netAt rfl rfl (Nat.le_of_ble_eq_true rfl) (by decide) (by decide) dX4_late_2 (by decide) rfl
set_option maxRecDepth 100000 in
theorem c_added (l : Launch) (E : Ev) (X : va_W) (S : HS) {x ln rn : Nat} {ns : List Nat} (ho : crO E S x ln rn ns) {i : Nat} (hi : i < ns.length) : Ctr l yX4_added (Cond.code yX4_added cX4_added 2 (some .int)) 5 0 0 E [.ref x, .int (nI i)] X S (Same (.int (S.I 6 ns[i])) X S) := by
  refine Ctr.ofG (by decide) [(0, .ref x), (1, .int (nI i))] rfl (Nat.le_of_ble_eq_true rfl) ?_
  intro p e s m args below meth c A Q C hQ
  refine g_aload_n C 0 dX4_added_0 rfl rfl ?_
  refine g_iload_n C 1 dX4_added_1 rfl rfl ?_
  refine g_callV C [.int (nI i)] [] (c_netAt l E X S ho hi) (recv_at ho.1.1 (pF_4 ho.1.2)) rfl cm_X4_netAt wv_X4_71 ds_X4_netAt rfl rfl (Nat.le_of_ble_eq_true rfl) (by decide) (by decide) dX4_added_2 ?_
  rintro v9 X2 S2 ⟨rfl, rfl, rfl⟩
  show GW _ _ _ _ _ _ _ _ _ _ _ _ _ _ _ _ _ _ _ _ (.ref ns[i] :: _)
  obtain ⟨a, ha⟩ : ∃ a, a = ns[i] := ⟨_, rfl⟩
  rw [← ha]
  have hka : isK S 0 a := by rw [ha]; exact ho.2.2.2 _ (List.getElem_mem hi)
  refine g_get C 10 hka.1 (pF_0 hka.2) rfl (by decide) in_X0 lk_X4_130 rfl rfl dX4_added_5 ?_
  exact g_iret C hQ rfl rfl dX4_added_8 (by decide) (by decide) ⟨by rw [ha], rfl, rfl⟩
set_option maxRecDepth 100000 in
theorem c_addedT (l : Launch) (hlt : l.stackTraces = false) (E : Ev) (X : va_W) (S : HS) {x ln rn : Nat} {ns : List Nat} (ho : crO E S x ln rn ns) {z : Int32} (h : z < 0 ∨ ¬ z < nI ns.length) : CtrT l yX4_added (Cond.code yX4_added cX4_added 2 (some .int)) 5 1 6 E [.ref x, .int z] X S xIO := by
  refine CtrX.ofG (by decide) [(0, .ref x), (1, .int z)] rfl (Nat.le_of_ble_eq_true rfl) ?_
  intro p e s m args below meth c A C htb
  refine g_aload_n C 0 dX4_added_0 rfl rfl ?_
  refine g_iload_n C 1 dX4_added_1 rfl rfl ?_
  exact g_outV C htb [.int z] [] (c_netAtT l hlt E X S ho h) (recv_at ho.1.1 (pF_4 ho.1.2)) rfl cm_X4_netAt wv_X4_71 ds_X4_netAt rfl rfl (Nat.le_of_ble_eq_true rfl) (by decide) (by decide) dX4_added_2 (by decide) rfl
