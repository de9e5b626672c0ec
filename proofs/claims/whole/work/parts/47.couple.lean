theorem cpl.frame {E : Ev} {S S2 : HS} {a l r l2 r2 : Nat} {vs : List Nat} (h : cpl E S a l2 r2 vs) (hf : Fr S S2 l r) (hl : l2 ≠ l) (hr : r2 ≠ r ∨ r2 = E.sa 0 ∧ vs = []) : cpl E S2 a l2 r2 vs := ⟨hf.K h.1, (hf.2.2.2.2.1 0 a h.1.1 (Or.inr (by decide))).trans h.2.1, h.2.2.1.frame hf hl hr, fun v hv => hf.src (h.2.2.2 v hv)⟩
/-- a couple more, if there was none of the two -/
def cpS (S : HS) (x b : Nat) (vs : List Nat) : HS := if shr S b vs = 0 then S.sI 13 x (S.I 13 x + 1) else S
def Cpl (E : Ev) (X : va_W) (S : HS) (x a b la ra lb rb : Nat) (sh : Int32) (va vb : List Nat) : Option Value → va_W → HS → Prop := fun v X2 S2 => some (.int (shr S b va)) = v ∧ X = X2 ∧ ∃ S1, Jn E X (cpS S x b va) la ra b sh va none X S1 ∧ Jn E X S1 lb rb a sh vb none X S2
set_option maxRecDepth 100000 in
theorem c_couple (l : Launch) (E : Ev) (X : va_W) (S : HS) {x ln rn : Nat} {ns : List Nat} (ho : crO E S x ln rn ns) {i j : Nat} (hi : i < ns.length) (hj : j < ns.length) (hij : i ≠ j) {sh : Int32} (h1 : ¬ sh < 1) (h2 : sh ≤ 1000) {la ra lb rb : Nat} {va vb : List Nat} (hca : cpl E S ns[i] la ra va) (hcb : cpl E S ns[j] lb rb vb) (hll : lb ≠ la) (hrr : rb ≠ ra ∨ rb = E.sa 0 ∧ vb = []) (hla : va.length < 100) (hlb : vb.length < 100) (hro : shr S ns[j] va = 0 → ¬ (120 : Int32) ≤ S.I 13 x) : Ctr l yX4_couple (Cond.code yX4_couple cX4_couple 7 (some .int)) 8 4 304 E [.ref x, .int (nI i), .int (nI j), .int sh] X S (Cpl E X S x ns[i] ns[j] la ra lb rb sh va vb) := by
  refine Ctr.ofG (by decide) [(0, .ref x), (1, .int (nI i)), (2, .int (nI j)), (3, .int sh)] rfl (Nat.le_of_ble_eq_true rfl) ?_
  intro p e s m args below meth c A Q C hQ
  refine g_aload_n C 0 dX4_couple_0 rfl rfl ?_
  refine g_iload_n C 1 dX4_couple_1 rfl rfl ?_
  refine g_callV C [.int (nI i)] [] (c_netAt l E X S ho hi) (recv_at ho.1.1 (pF_4 ho.1.2)) rfl cm_X4_netAt wv_X4_71 ds_X4_netAt rfl rfl (Nat.le_of_ble_eq_true rfl) (by decide) (by decide) dX4_couple_2 ?_
  rintro v9 X2 S2 ⟨rfl, rfl, rfl⟩
  show GW _ _ _ _ _ _ _ _ _ _ _ _ _ _ _ _ _ _ _ _ (.ref ns[i] :: _)
  obtain ⟨a, hae⟩ : ∃ a, a = ns[i] := ⟨_, rfl⟩
  rw [← hae]
  have ha : isK S 0 a := by rw [hae]; exact ho.2.2.2 _ (List.getElem_mem hi)
  rw [← hae] at hca
  refine g_astore C [(4, .ref a), (0, .ref x), (1, .int (nI i)), (2, .int (nI j)), (3, .int sh)] dX4_couple_5 (by decide) rfl ?_
  refine g_aload_n C 1 dX4_couple_7 rfl rfl ?_
  refine g_iload_n C 3 dX4_couple_8 rfl rfl ?_
  refine g_callV C [.int (nI j)] [] (c_netAt l E X S ho hj) (recv_at ho.1.1 (pF_4 ho.1.2)) rfl cm_X4_netAt wv_X4_71 ds_X4_netAt rfl rfl (Nat.le_of_ble_eq_true rfl) (by decide) (by decide) dX4_couple_9 ?_
  rintro v9 X2 S2 ⟨rfl, rfl, rfl⟩
  show GW _ _ _ _ _ _ _ _ _ _ _ _ _ _ _ _ _ _ _ _ (.ref ns[j] :: _)
  obtain ⟨b, hbe⟩ : ∃ a, a = ns[j] := ⟨_, rfl⟩
  rw [← hbe]
  have hb : isK S 0 b := by rw [hbe]; exact ho.2.2.2 _ (List.getElem_mem hj)
  rw [← hbe] at hcb
  refine g_astore C [(5, .ref b), (4, .ref a), (0, .ref x), (1, .int (nI i)), (2, .int (nI j)), (3, .int sh)] dX4_couple_12 (by decide) rfl ?_
  refine g_iload_n C 3 dX4_couple_14 rfl rfl ?_
  refine g_iload_n C 4 dX4_couple_15 rfl rfl ?_
  refine g_callS C [.int (nI i), .int (nI j)] [] (c_rd l E X S (fun q => hij ((nI_eq (by have := ho.len; omega) (by have := ho.len; omega)).mp q))) cm_X4_requireDifferent wst_X4_75 dt_X4_requireDifferent rfl rfl (Nat.le_of_ble_eq_true rfl) (by decide) (by decide) dX4_couple_16 ?_
  rintro v9 X2 S2 ⟨rfl, rfl, rfl⟩
  refine g_iload_n C 5 dX4_couple_19 rfl rfl ?_
  refine g_iconst C 1 dX4_couple_20 (by decide) ?_
  refine g_sipush C 1000 dX4_couple_21 (by decide) ?_
  refine g_callS C [.int sh, .int 1, .int 1000] [] (c_rw l E X S h1 h2) cm_X4_requireWithin wst_X4_47 dt_X4_requireWithin rfl rfl (Nat.le_of_ble_eq_true rfl) (by decide) (by decide) dX4_couple_24 ?_
  rintro v9 X2 S2 ⟨rfl, rfl, rfl⟩
  refine g_aload C 1 dX4_couple_27 rfl ?_
  refine g_aload C 0 dX4_couple_29 rfl ?_
  refine g_callV C [.ref b] [] (c_shareOf l E X S hca (b := b)) (recv_at ha.1 (pF_0 ha.2)) rfl cm_X0_shareOf wv_X4_78 ds_X0_shareOf rfl rfl (Nat.le_of_ble_eq_true rfl) (by decide) (by decide) dX4_couple_31 ?_
  rintro v9 X2 S2 ⟨rfl, rfl, rfl⟩
  refine g_istore C [(6, .int (shr S b va)), (5, .ref b), (4, .ref a), (0, .ref x), (1, .int (nI i)), (2, .int (nI j)), (3, .int sh)] dX4_couple_34 (by decide) rfl ?_
  rw [← hbe] at hro
  refine g_iload C 0 dX4_couple_36 rfl ?_
  refine g_if_ne C 60 dX4_couple_38 (by decide) (fun h38 => ?_) (fun h38 => ?_)
  · refine g_aload C 2 dX4_couple_60 rfl ?_
    refine g_aload C 1 dX4_couple_62 rfl ?_
    refine g_iload_n C 6 dX4_couple_64 rfl rfl ?_
    have hcS : cpS S x b va = S := if_neg h38
    have hsh : Sh S S := Sh.rf
    refine g_callV C [.ref b, .int sh] [] (c_join l E X S (hsh.cplO hca) (b := b) (sh := sh) (hsh.K hb) hla) (recv_at (hsh.K ha).1 (pF_0 (hsh.K ha).2)) rfl cm_X0_join wv_X4_82 ds_X0_join rfl rfl (Nat.le_of_ble_eq_true rfl) (by decide) (by decide) dX4_couple_65 ?_
    rintro v9 X2 S5 ⟨rfl, rfl, hJ1⟩
    obtain ⟨q5, r5, n5, k5, p5, i5, f5, g5, A5⟩ := hJ1
    refine g_aload C 1 dX4_couple_68 rfl ?_
    refine g_aload C 2 dX4_couple_70 rfl ?_
    refine g_iload_n C 6 dX4_couple_72 rfl rfl ?_
    refine g_callV C [.ref a, .int sh] [] (c_join l E X S5 ((hsh.cplO hcb).frame f5 hll hrr) (b := a) (sh := sh) (f5.K (hsh.K ha)) hlb) (recv_at (f5.K (hsh.K hb)).1 (pF_0 (f5.K (hsh.K hb)).2)) rfl cm_X0_join wv_X4_82 ds_X0_join rfl rfl (Nat.le_of_ble_eq_true rfl) (by decide) (by decide) dX4_couple_73 ?_
    rintro v9 X2 S6 ⟨rfl, rfl, hJ2⟩
    refine g_iload C 0 dX4_couple_76 rfl ?_
    exact g_iret C hQ rfl rfl dX4_couple_78 (by decide) (by decide) ⟨by rw [← hbe], rfl, S5, by rw [← hbe, hcS]; exact ⟨rfl, rfl, q5, r5, n5, k5, p5, i5, f5, g5, A5⟩, by rw [← hae]; exact ⟨rfl, rfl, hJ2⟩⟩
  · refine g_aload_n C 3 dX4_couple_41 rfl rfl ?_
    refine g_get C 6 ho.1.1 (pF_4 ho.1.2) rfl (by decide) in_X4 lk_X4_37 rfl rfl dX4_couple_42 ?_
    refine g_bipush C 120 dX4_couple_45 (by decide) ?_
    refine g_callS C [.int (S.I 13 x), .int 120] [] (c_rr l E X S (hro h38)) cm_X4_requireRoom wst_X4_55 dt_X4_requireRoom rfl rfl (Nat.le_of_ble_eq_true rfl) (by decide) (by decide) dX4_couple_47 ?_
    rintro v9 X2 S2 ⟨rfl, rfl, rfl⟩
    refine g_aload_n C 3 dX4_couple_50 rfl rfl ?_
    refine g_dup C dX4_couple_51 rfl ?_
    refine g_get C 6 ho.1.1 (pF_4 ho.1.2) rfl (by decide) in_X4 lk_X4_37 rfl rfl dX4_couple_52 ?_
    refine g_iconst C 1 dX4_couple_55 (by decide) ?_
    refine g_iadd C dX4_couple_56 ?_
    refine g_ni (fun z1 hz1 => ?_)
    refine pt_I13 C ⟨ho.1.1, ho.1.2⟩ lk_X4_37 dX4_couple_57 (fun G1 hG1 => ?_)
    have kG1_0 : isK G1 4 x := sI_K hG1 ⟨ho.1.1, ho.1.2⟩
    have fG1_0_0 : G1.P 6 x = some ln := (congrFun (congrFun (sI_of hG1).2.2.2 _) _).trans ho.2.1
    have kG1_1 : isK G1 5 ln := sI_K hG1 ⟨ho.2.2.1.1.1, ho.2.2.1.1.2⟩
    have kG1_2 : isK G1 0 a := sI_K hG1 ⟨ha.1, ha.2⟩
    have kG1_3 : isK G1 0 b := sI_K hG1 ⟨hb.1, hb.2⟩
    refine g_aload C 2 dX4_couple_60 rfl ?_
    refine g_aload C 1 dX4_couple_62 rfl ?_
    refine g_iload_n C 6 dX4_couple_64 rfl rfl ?_
    have hcS : cpS S x b va = G1 := by rw [← hG1, hz1]; exact if_pos h38
    have hsh : Sh S G1 := by rw [← hG1]; exact Sh.rf.sI rfl
    refine g_callV C [.ref b, .int sh] [] (c_join l E X G1 (hsh.cplO hca) (b := b) (sh := sh) (hsh.K hb) hla) (recv_at (hsh.K ha).1 (pF_0 (hsh.K ha).2)) rfl cm_X0_join wv_X4_82 ds_X0_join rfl rfl (Nat.le_of_ble_eq_true rfl) (by decide) (by decide) dX4_couple_65 ?_
    rintro v9 X2 S5 ⟨rfl, rfl, hJ1⟩
    obtain ⟨q5, r5, n5, k5, p5, i5, f5, g5, A5⟩ := hJ1
    refine g_aload C 1 dX4_couple_68 rfl ?_
    refine g_aload C 2 dX4_couple_70 rfl ?_
    refine g_iload_n C 6 dX4_couple_72 rfl rfl ?_
    refine g_callV C [.ref a, .int sh] [] (c_join l E X S5 ((hsh.cplO hcb).frame f5 hll hrr) (b := a) (sh := sh) (f5.K (hsh.K ha)) hlb) (recv_at (f5.K (hsh.K hb)).1 (pF_0 (f5.K (hsh.K hb)).2)) rfl cm_X0_join wv_X4_82 ds_X0_join rfl rfl (Nat.le_of_ble_eq_true rfl) (by decide) (by decide) dX4_couple_73 ?_
    rintro v9 X2 S6 ⟨rfl, rfl, hJ2⟩
    refine g_iload C 0 dX4_couple_76 rfl ?_
    exact g_iret C hQ rfl rfl dX4_couple_78 (by decide) (by decide) ⟨by rw [← hbe], rfl, S5, by rw [← hbe, hcS]; exact ⟨rfl, rfl, q5, r5, n5, k5, p5, i5, f5, g5, A5⟩, by rw [← hae]; exact ⟨rfl, rfl, hJ2⟩⟩
set_option maxRecDepth 100000 in
theorem c_coupleT1 (l : Launch) (hlt : l.stackTraces = false) (E : Ev) (X : va_W) (S : HS) {x ln rn : Nat} {ns : List Nat} (ho : crO E S x ln rn ns) {z y sh : Int32} (h : z < 0 ∨ ¬ z < nI ns.length) : CtrT l yX4_couple (Cond.code yX4_couple cX4_couple 7 (some .int)) 8 1 6 E [.ref x, .int z, .int y, .int sh] X S xIO := by
  refine CtrX.ofG (by decide) [(0, .ref x), (1, .int z), (2, .int y), (3, .int sh)] rfl (Nat.le_of_ble_eq_true rfl) ?_
  intro p e s m args below meth c A C htb
  refine g_aload_n C 0 dX4_couple_0 rfl rfl ?_
  refine g_iload_n C 1 dX4_couple_1 rfl rfl ?_
  exact g_outV C htb [.int z] [] (c_netAtT l hlt E X S ho h) (recv_at ho.1.1 (pF_4 ho.1.2)) rfl cm_X4_netAt wv_X4_71 ds_X4_netAt rfl rfl (Nat.le_of_ble_eq_true rfl) (by decide) (by decide) dX4_couple_2 (by decide) rfl
set_option maxRecDepth 100000 in
theorem c_coupleT2 (l : Launch) (hlt : l.stackTraces = false) (E : Ev) (X : va_W) (S : HS) {x ln rn : Nat} {ns : List Nat} (ho : crO E S x ln rn ns) {i : Nat} (hi : i < ns.length) {y sh : Int32} (h : y < 0 ∨ ¬ y < nI ns.length) : CtrT l yX4_couple (Cond.code yX4_couple cX4_couple 7 (some .int)) 8 1 6 E [.ref x, .int (nI i), .int y, .int sh] X S xIO := by
  refine CtrX.ofG (by decide) [(0, .ref x), (1, .int (nI i)), (2, .int y), (3, .int sh)] rfl (Nat.le_of_ble_eq_true rfl) ?_
  intro p e s m args below meth c A C htb
  refine g_aload_n C 0 dX4_couple_0 rfl rfl ?_
  refine g_iload_n C 1 dX4_couple_1 rfl rfl ?_
  refine g_callV C [.int (nI i)] [] (c_netAt l E X S ho hi) (recv_at ho.1.1 (pF_4 ho.1.2)) rfl cm_X4_netAt wv_X4_71 ds_X4_netAt rfl rfl (Nat.le_of_ble_eq_true rfl) (by decide) (by decide) dX4_couple_2 ?_
  rintro v9 X2 S2 ⟨rfl, rfl, rfl⟩
  show GW _ _ _ _ _ _ _ _ _ _ _ _ _ _ _ _ _ _ _ _ (.ref ns[i] :: _)
  obtain ⟨a, hae⟩ : ∃ a, a = ns[i] := ⟨_, rfl⟩
  rw [← hae]
  have ha : isK S 0 a := by rw [hae]; exact ho.2.2.2 _ (List.getElem_mem hi)
  refine g_astore C [(4, .ref a), (0, .ref x), (1, .int (nI i)), (2, .int y), (3, .int sh)] dX4_couple_5 (by decide) rfl ?_
  refine g_aload_n C 1 dX4_couple_7 rfl rfl ?_
  refine g_iload_n C 3 dX4_couple_8 rfl rfl ?_
  exact g_outV C htb [.int y] [] (c_netAtT l hlt E X S ho h) (recv_at ho.1.1 (pF_4 ho.1.2)) rfl cm_X4_netAt wv_X4_71 ds_X4_netAt rfl rfl (Nat.le_of_ble_eq_true rfl) (by decide) (by decide) dX4_couple_9 (by decide) rfl
set_option maxRecDepth 100000 in
theorem c_coupleT3 (l : Launch) (hlt : l.stackTraces = false) (E : Ev) (X : va_W) (S : HS) {x ln rn : Nat} {ns : List Nat} (ho : crO E S x ln rn ns) {i j : Nat} (hi : i < ns.length) (hj : j < ns.length) {sh : Int32} (hij : i = j) : CtrT l yX4_couple (Cond.code yX4_couple cX4_couple 7 (some .int)) 8 1 6 E [.ref x, .int (nI i), .int (nI j), .int sh] X S xIA := by
  refine CtrX.ofG (by decide) [(0, .ref x), (1, .int (nI i)), (2, .int (nI j)), (3, .int sh)] rfl (Nat.le_of_ble_eq_true rfl) ?_
  intro p e s m args below meth c A C htb
  refine g_aload_n C 0 dX4_couple_0 rfl rfl ?_
  refine g_iload_n C 1 dX4_couple_1 rfl rfl ?_
  refine g_callV C [.int (nI i)] [] (c_netAt l E X S ho hi) (recv_at ho.1.1 (pF_4 ho.1.2)) rfl cm_X4_netAt wv_X4_71 ds_X4_netAt rfl rfl (Nat.le_of_ble_eq_true rfl) (by decide) (by decide) dX4_couple_2 ?_
  rintro v9 X2 S2 ⟨rfl, rfl, rfl⟩
  show GW _ _ _ _ _ _ _ _ _ _ _ _ _ _ _ _ _ _ _ _ (.ref ns[i] :: _)
  obtain ⟨a, hae⟩ : ∃ a, a = ns[i] := ⟨_, rfl⟩
  rw [← hae]
  have ha : isK S 0 a := by rw [hae]; exact ho.2.2.2 _ (List.getElem_mem hi)
  refine g_astore C [(4, .ref a), (0, .ref x), (1, .int (nI i)), (2, .int (nI j)), (3, .int sh)] dX4_couple_5 (by decide) rfl ?_
  refine g_aload_n C 1 dX4_couple_7 rfl rfl ?_
  refine g_iload_n C 3 dX4_couple_8 rfl rfl ?_
  refine g_callV C [.int (nI j)] [] (c_netAt l E X S ho hj) (recv_at ho.1.1 (pF_4 ho.1.2)) rfl cm_X4_netAt wv_X4_71 ds_X4_netAt rfl rfl (Nat.le_of_ble_eq_true rfl) (by decide) (by decide) dX4_couple_9 ?_
  rintro v9 X2 S2 ⟨rfl, rfl, rfl⟩
  show GW _ _ _ _ _ _ _ _ _ _ _ _ _ _ _ _ _ _ _ _ (.ref ns[j] :: _)
  obtain ⟨b, hbe⟩ : ∃ a, a = ns[j] := ⟨_, rfl⟩
  rw [← hbe]
  have hb : isK S 0 b := by rw [hbe]; exact ho.2.2.2 _ (List.getElem_mem hj)
  refine g_astore C [(5, .ref b), (4, .ref a), (0, .ref x), (1, .int (nI i)), (2, .int (nI j)), (3, .int sh)] dX4_couple_12 (by decide) rfl ?_
  refine g_iload_n C 3 dX4_couple_14 rfl rfl ?_
  refine g_iload_n C 4 dX4_couple_15 rfl rfl ?_
  exact g_outS C htb [.int (nI i), .int (nI j)] [] (c_rdT l hlt E X S (congrArg nI hij)) cm_X4_requireDifferent wst_X4_75 dt_X4_requireDifferent rfl rfl (Nat.le_of_ble_eq_true rfl) (by decide) (by decide) dX4_couple_16 (by decide) rfl
set_option maxRecDepth 100000 in
theorem c_coupleT4 (l : Launch) (hlt : l.stackTraces = false) (E : Ev) (X : va_W) (S : HS) {x ln rn : Nat} {ns : List Nat} (ho : crO E S x ln rn ns) {i j : Nat} (hi : i < ns.length) (hj : j < ns.length) (hij : i ≠ j) {sh : Int32} (g : sh < 1 ∨ ¬ sh ≤ 1000) : CtrT l yX4_couple (Cond.code yX4_couple cX4_couple 7 (some .int)) 8 1 6 E [.ref x, .int (nI i), .int (nI j), .int sh] X S xIA := by
  refine CtrX.ofG (by decide) [(0, .ref x), (1, .int (nI i)), (2, .int (nI j)), (3, .int sh)] rfl (Nat.le_of_ble_eq_true rfl) ?_
  intro p e s m args below meth c A C htb
  refine g_aload_n C 0 dX4_couple_0 rfl rfl ?_
  refine g_iload_n C 1 dX4_couple_1 rfl rfl ?_
  refine g_callV C [.int (nI i)] [] (c_netAt l E X S ho hi) (recv_at ho.1.1 (pF_4 ho.1.2)) rfl cm_X4_netAt wv_X4_71 ds_X4_netAt rfl rfl (Nat.le_of_ble_eq_true rfl) (by decide) (by decide) dX4_couple_2 ?_
  rintro v9 X2 S2 ⟨rfl, rfl, rfl⟩
  show GW _ _ _ _ _ _ _ _ _ _ _ _ _ _ _ _ _ _ _ _ (.ref ns[i] :: _)
  obtain ⟨a, hae⟩ : ∃ a, a = ns[i] := ⟨_, rfl⟩
  rw [← hae]
  have ha : isK S 0 a := by rw [hae]; exact ho.2.2.2 _ (List.getElem_mem hi)
  refine g_astore C [(4, .ref a), (0, .ref x), (1, .int (nI i)), (2, .int (nI j)), (3, .int sh)] dX4_couple_5 (by decide) rfl ?_
  refine g_aload_n C 1 dX4_couple_7 rfl rfl ?_
  refine g_iload_n C 3 dX4_couple_8 rfl rfl ?_
  refine g_callV C [.int (nI j)] [] (c_netAt l E X S ho hj) (recv_at ho.1.1 (pF_4 ho.1.2)) rfl cm_X4_netAt wv_X4_71 ds_X4_netAt rfl rfl (Nat.le_of_ble_eq_true rfl) (by decide) (by decide) dX4_couple_9 ?_
  rintro v9 X2 S2 ⟨rfl, rfl, rfl⟩
  show GW _ _ _ _ _ _ _ _ _ _ _ _ _ _ _ _ _ _ _ _ (.ref ns[j] :: _)
  obtain ⟨b, hbe⟩ : ∃ a, a = ns[j] := ⟨_, rfl⟩
  rw [← hbe]
  have hb : isK S 0 b := by rw [hbe]; exact ho.2.2.2 _ (List.getElem_mem hj)
  refine g_astore C [(5, .ref b), (4, .ref a), (0, .ref x), (1, .int (nI i)), (2, .int (nI j)), (3, .int sh)] dX4_couple_12 (by decide) rfl ?_
  refine g_iload_n C 3 dX4_couple_14 rfl rfl ?_
  refine g_iload_n C 4 dX4_couple_15 rfl rfl ?_
  refine g_callS C [.int (nI i), .int (nI j)] [] (c_rd l E X S (fun q => hij ((nI_eq (by have := ho.len; omega) (by have := ho.len; omega)).mp q))) cm_X4_requireDifferent wst_X4_75 dt_X4_requireDifferent rfl rfl (Nat.le_of_ble_eq_true rfl) (by decide) (by decide) dX4_couple_16 ?_
  rintro v9 X2 S2 ⟨rfl, rfl, rfl⟩
  refine g_iload_n C 5 dX4_couple_19 rfl rfl ?_
  refine g_iconst C 1 dX4_couple_20 (by decide) ?_
  refine g_sipush C 1000 dX4_couple_21 (by decide) ?_
  exact g_outS C htb [.int sh, .int 1, .int 1000] [] (c_rwT l hlt E X S g) cm_X4_requireWithin wst_X4_47 dt_X4_requireWithin rfl rfl (Nat.le_of_ble_eq_true rfl) (by decide) (by decide) dX4_couple_24 (by decide) rfl
set_option maxRecDepth 100000 in
theorem c_coupleT5 (l : Launch) (hlt : l.stackTraces = false) (E : Ev) (X : va_W) (S : HS) {x ln rn : Nat} {ns : List Nat} (ho : crO E S x ln rn ns) {i j : Nat} (hi : i < ns.length) (hj : j < ns.length) (hij : i ≠ j) {sh : Int32} (h1 : ¬ sh < 1) (h2 : sh ≤ 1000) {la ra : Nat} {va : List Nat} (hca : cpl E S ns[i] la ra va) (hz : shr S ns[j] va = 0) (hro : (120 : Int32) ≤ S.I 13 x) : CtrT l yX4_couple (Cond.code yX4_couple cX4_couple 7 (some .int)) 8 1 6 E [.ref x, .int (nI i), .int (nI j), .int sh] X S xIS := by
  refine CtrX.ofG (by decide) [(0, .ref x), (1, .int (nI i)), (2, .int (nI j)), (3, .int sh)] rfl (Nat.le_of_ble_eq_true rfl) ?_
  intro p e s m args below meth c A C htb
  refine g_aload_n C 0 dX4_couple_0 rfl rfl ?_
  refine g_iload_n C 1 dX4_couple_1 rfl rfl ?_
  refine g_callV C [.int (nI i)] [] (c_netAt l E X S ho hi) (recv_at ho.1.1 (pF_4 ho.1.2)) rfl cm_X4_netAt wv_X4_71 ds_X4_netAt rfl rfl (Nat.le_of_ble_eq_true rfl) (by decide) (by decide) dX4_couple_2 ?_
  rintro v9 X2 S2 ⟨rfl, rfl, rfl⟩
  show GW _ _ _ _ _ _ _ _ _ _ _ _ _ _ _ _ _ _ _ _ (.ref ns[i] :: _)
  obtain ⟨a, hae⟩ : ∃ a, a = ns[i] := ⟨_, rfl⟩
  rw [← hae]
  have ha : isK S 0 a := by rw [hae]; exact ho.2.2.2 _ (List.getElem_mem hi)
  rw [← hae] at hca
  refine g_astore C [(4, .ref a), (0, .ref x), (1, .int (nI i)), (2, .int (nI j)), (3, .int sh)] dX4_couple_5 (by decide) rfl ?_
  refine g_aload_n C 1 dX4_couple_7 rfl rfl ?_
  refine g_iload_n C 3 dX4_couple_8 rfl rfl ?_
  refine g_callV C [.int (nI j)] [] (c_netAt l E X S ho hj) (recv_at ho.1.1 (pF_4 ho.1.2)) rfl cm_X4_netAt wv_X4_71 ds_X4_netAt rfl rfl (Nat.le_of_ble_eq_true rfl) (by decide) (by decide) dX4_couple_9 ?_
  rintro v9 X2 S2 ⟨rfl, rfl, rfl⟩
  show GW _ _ _ _ _ _ _ _ _ _ _ _ _ _ _ _ _ _ _ _ (.ref ns[j] :: _)
  obtain ⟨b, hbe⟩ : ∃ a, a = ns[j] := ⟨_, rfl⟩
  rw [← hbe]
  have hb : isK S 0 b := by rw [hbe]; exact ho.2.2.2 _ (List.getElem_mem hj)
  refine g_astore C [(5, .ref b), (4, .ref a), (0, .ref x), (1, .int (nI i)), (2, .int (nI j)), (3, .int sh)] dX4_couple_12 (by decide) rfl ?_
  refine g_iload_n C 3 dX4_couple_14 rfl rfl ?_
  refine g_iload_n C 4 dX4_couple_15 rfl rfl ?_
  refine g_callS C [.int (nI i), .int (nI j)] [] (c_rd l E X S (fun q => hij ((nI_eq (by have := ho.len; omega) (by have := ho.len; omega)).mp q))) cm_X4_requireDifferent wst_X4_75 dt_X4_requireDifferent rfl rfl (Nat.le_of_ble_eq_true rfl) (by decide) (by decide) dX4_couple_16 ?_
  rintro v9 X2 S2 ⟨rfl, rfl, rfl⟩
  refine g_iload_n C 5 dX4_couple_19 rfl rfl ?_
  refine g_iconst C 1 dX4_couple_20 (by decide) ?_
  refine g_sipush C 1000 dX4_couple_21 (by decide) ?_
  refine g_callS C [.int sh, .int 1, .int 1000] [] (c_rw l E X S h1 h2) cm_X4_requireWithin wst_X4_47 dt_X4_requireWithin rfl rfl (Nat.le_of_ble_eq_true rfl) (by decide) (by decide) dX4_couple_24 ?_
  rintro v9 X2 S2 ⟨rfl, rfl, rfl⟩
  refine g_aload C 1 dX4_couple_27 rfl ?_
  refine g_aload C 0 dX4_couple_29 rfl ?_
  refine g_callV C [.ref b] [] (c_shareOf l E X S hca (b := b)) (recv_at ha.1 (pF_0 ha.2)) rfl cm_X0_shareOf wv_X4_78 ds_X0_shareOf rfl rfl (Nat.le_of_ble_eq_true rfl) (by decide) (by decide) dX4_couple_31 ?_
  rintro v9 X2 S2 ⟨rfl, rfl, rfl⟩
  refine g_istore C [(6, .int (shr S b va)), (5, .ref b), (4, .ref a), (0, .ref x), (1, .int (nI i)), (2, .int (nI j)), (3, .int sh)] dX4_couple_34 (by decide) rfl ?_
  rw [← hbe] at hz
  refine g_iload C 0 dX4_couple_36 rfl ?_
  refine g_if_ne C 60 dX4_couple_38 (by decide) (fun h38 => ?_) (fun h38 => ?_)
  · exact absurd hz h38
  · refine g_aload_n C 3 dX4_couple_41 rfl rfl ?_
    refine g_get C 6 ho.1.1 (pF_4 ho.1.2) rfl (by decide) in_X4 lk_X4_37 rfl rfl dX4_couple_42 ?_
    refine g_bipush C 120 dX4_couple_45 (by decide) ?_
    exact g_outS C htb [.int (S.I 13 x), .int 120] [] (c_rrT l hlt E X S hro) cm_X4_requireRoom wst_X4_55 dt_X4_requireRoom rfl rfl (Nat.le_of_ble_eq_true rfl) (by decide) (by decide) dX4_couple_47 (by decide) rfl
