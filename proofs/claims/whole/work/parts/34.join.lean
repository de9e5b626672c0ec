theorem df_X0 : ∀ j, j < 12 → defaultValue (tyX0 j) = vp_V [.int 0, .int 0, .int 0, .int 0, .null, .null, .long 0, .long 0, .int 0, .int 0, .int 0, .int 0] j := by
  intro j hj
  match j, hj with
  | 0, _ => rfl
  | 1, _ => rfl
  | 2, _ => rfl
  | 3, _ => rfl
  | 4, _ => rfl
  | 5, _ => rfl
  | 6, _ => rfl
  | 7, _ => rfl
  | 8, _ => rfl
  | 9, _ => rfl
  | 10, _ => rfl
  | 11, _ => rfl
theorem df_X1 : ∀ j, j < 2 → defaultValue (tyX1 j) = vp_V [.null, .int 0] j := by
  intro j hj
  match j, hj with
  | 0, _ => rfl
  | 1, _ => rfl
theorem df_X2 : ∀ j, j < 2 → defaultValue (tyX2 j) = vp_V [.null, .int 0] j := by
  intro j hj
  match j, hj with
  | 0, _ => rfl
  | 1, _ => rfl
theorem df_X3 : ∀ j, j < 3 → defaultValue (tyX3 j) = vp_V [.null, .null, .int 0] j := by
  intro j hj
  match j, hj with
  | 0, _ => rfl
  | 1, _ => rfl
  | 2, _ => rfl
theorem df_X4 : ∀ j, j < 9 → defaultValue (tyX4 j) = vp_V [.null, .null, .null, .null, .int 0, .int 0, .int 0, .int 0, .int 0] j := by
  intro j hj
  match j, hj with
  | 0, _ => rfl
  | 1, _ => rfl
  | 2, _ => rfl
  | 3, _ => rfl
  | 4, _ => rfl
  | 5, _ => rfl
  | 6, _ => rfl
  | 7, _ => rfl
  | 8, _ => rfl
theorem df_Jx4a65c : ∀ j, j < 3 → defaultValue (tyJx4a65c j) = vp_V [.int 0, .null, .int 0] j := by
  intro j hj
  match j, hj with
  | 0, _ => rfl
  | 1, _ => rfl
  | 2, _ => rfl
theorem isK_new {S : HS} {q k : Nat} : isK (S.nO q k) k q := ⟨by show q ∈ S.L ++ [q]; simp, va_up_self _ _ _⟩
theorem isK_nR {S : HS} {q k n : Nat} : isK (S.nR q k n) k q := ⟨by show q ∈ S.L ++ [q]; simp, va_up_self _ _ _⟩
theorem Fr.nO {S : HS} {l r q k : Nat} (hq : q ∉ S.L) : Fr S (S.nO q k) l r := by
  have hne : ∀ a ∈ S.L, a ≠ q := fun a ha e => hq (e ▸ ha)
  exact ⟨⟨[q], rfl⟩, fun a ha => va_up_ne _ _ (hne a ha), fun _ a ha _ => if_neg (hne a ha), fun _ a ha => if_neg (hne a ha), fun _ a ha _ => if_neg (hne a ha), fun _ _ => ⟨rfl, rfl⟩, fun _ _ _ => rfl⟩
/-- writes to a thing that S doesn't know -/
theorem Fr.outP {S S1 : HS} {l r q k : Nat} {v : Option Nat} (hq : q ∉ S.L) (h : Fr S S1 l r) : Fr S (S1.sP k q v) l r := by
  have hne : ∀ a ∈ S.L, a ≠ q := fun a ha e => hq (e ▸ ha)
  exact ⟨h.1, h.2.1, h.2.2.1, h.2.2.2.1, fun k2 a ha hc => (u2_ne2 (hne a ha)).trans (h.2.2.2.2.1 k2 a ha hc), h.2.2.2.2.2.1, h.2.2.2.2.2.2⟩
theorem Fr.outI {S S1 : HS} {l r q k : Nat} {v : Int32} (hq : q ∉ S.L) (h : Fr S S1 l r) : Fr S (S1.sI k q v) l r := by
  have hne : ∀ a ∈ S.L, a ≠ q := fun a ha e => hq (e ▸ ha)
  exact ⟨h.1, h.2.1, fun k2 a ha hc => (u2_ne2 (hne a ha)).trans (h.2.2.1 k2 a ha hc), h.2.2.2.1, h.2.2.2.2.1, h.2.2.2.2.2.1, h.2.2.2.2.2.2⟩
theorem Fr.tgE {S S2 : HS} {l r v : Nat} (h : Fr S S2 l r) (hv : isK S 1 v) : tg S2 v = tg S v := by show (S2.P 2 v).getD 0 = (S.P 2 v).getD 0; rw [h.2.2.2.2.1 2 v hv.1 (Or.inr (by decide))]
theorem Fr.src {S S2 : HS} {l r v : Nat} (h : Fr S S2 l r) (hv : srcOK S v) : srcOK S2 v := ⟨h.K hv.1, by rw [h.tgE hv.1, h.2.2.2.2.1 2 v hv.1.1 (Or.inr (by decide))]; exact hv.2.1, by rw [h.tgE hv.1]; exact h.K hv.2.2⟩
theorem Fr.sgE {S S2 : HS} {l r v : Nat} (h : Fr S S2 l r) (hv : srcOK S v) : sg S2 v = sg S v := by
  show S2.I 8 v * S2.I 3 (_) = _
  rw [h.tgE hv.1, h.2.2.1 8 v hv.1.1 (Or.inr (by decide)), h.2.2.1 3 _ hv.2.2.1 (Or.inr (by decide))]; rfl
theorem Fr.strE {S S2 : HS} {l r v w : Nat} (h : Fr S S2 l r) (hv : srcOK S v) (hw : srcOK S w) : stronger S2 v w = stronger S v w := by
  show (if sg S2 v = sg S2 w then _ else _) = (if sg S v = sg S w then _ else _)
  rw [h.sgE hv, h.sgE hw, h.tgE hv.1, h.tgE hw.1, h.2.2.1 8 v hv.1.1 (Or.inr (by decide)), h.2.2.1 8 w hw.1.1 (Or.inr (by decide)), h.2.2.1 0 _ hv.2.2.1 (Or.inr (by decide)), h.2.2.1 0 _ hw.2.2.1 (Or.inr (by decide))]
/-- where q comes in -/
def posF (S : HS) (q : Nat) : List Nat → Nat → Nat
  | [], i => i
  | v :: vs, i => if stronger S v q = true then posF S q vs (i + 1) else i
theorem posF_le {S : HS} {q : Nat} : ∀ (vs : List Nat) (i : Nat), i ≤ posF S q vs i ∧ posF S q vs i ≤ i + vs.length
  | [], i => ⟨Nat.le_refl _, Nat.le_refl _⟩
  | v :: vs, i => by
    unfold posF
    by_cases c : stronger S v q = true
    · rw [if_pos c]; have := posF_le (S := S) (q := q) vs (i + 1); simp; omega
    · rw [if_neg c]; simp
theorem posF_congr {S S2 : HS} {q : Nat} : ∀ (vs : List Nat) (i : Nat), (∀ v ∈ vs, stronger S2 v q = stronger S v q) → posF S2 q vs i = posF S q vs i
  | [], i, _ => rfl
  | v :: vs, i, h => by
    unfold posF
    rw [h v List.mem_cons_self, posF_congr vs (i + 1) (fun w hw => h w (List.mem_cons_of_mem _ hw))]
def insP (S : HS) (q : Nat) (vs : List Nat) : List Nat := vs.take (posF S q vs 0) ++ q :: vs.drop (posF S q vs 0)
def rmv (S : HS) (b : Nat) (vs : List Nat) : List Nat := match plc S b vs 0 with
  | none => vs
  | some j => vs.eraseIdx j
/-- the net a has a new source q: the net b, the share sh; an old one of b is gone -/
def Jn (E : Ev) (X : va_W) (S : HS) (lc rc b : Nat) (sh : Int32) (vs : List Nat) : Option Value → va_W → HS → Prop := fun v X2 S2 => none = v ∧ X = X2 ∧ ∃ q r2, q ∉ S.L ∧ isK S2 1 q ∧ S2.P 2 q = some b ∧ S2.I 8 q = sh ∧ Fr S S2 lc rc ∧ (r2 = rc ∨ r2 ∉ S.L) ∧ isAL E S2 lc r2 (insP S2 q (rmv S b vs))
set_option maxRecDepth 100000 in
theorem c_join (l : Launch) (E : Ev) (X : va_W) (S : HS) {a lc rc : Nat} {vs : List Nat} (hc : cpl E S a lc rc vs) {b : Nat} {sh : Int32} (hb : isK S 0 b) (h100 : vs.length < 100) : Ctr l yX0_join (Cond.code yX0_join cX0_join 6 none) 6 2 152 E [.ref a, .ref b, .int sh] X S (Jn E X S lc rc b sh vs) := by
  refine Ctr.ofG (by decide) [(0, .ref a), (1, .ref b), (2, .int sh)] rfl (Nat.le_of_ble_eq_true rfl) ?_
  intro p e s m args below meth c A Q C hQ
  have tail : ∀ (S1 : HS) (r1 : Nat) (vs1 : List Nat) (z : Int32), vs1 = rmv S b vs → isAL E S1 lc r1 vs1 → Fr S S1 lc rc → (r1 = rc ∨ r1 ∉ S.L) → (∀ v ∈ vs1, srcOK S v) → vs1.length < 100 → GW p l e (rml 6 2 152) s m args below meth c E 6 A Q X S1 0 0 20 [(3, .int z), (0, .ref a), (1, .ref b), (2, .int sh)] [] := by
    intro S1 r1 vs1 z hvs hA hf hr1 hsr hl1
    have ha1 : isK S1 0 a := hf.K hc.1
    have hp1 : S1.P 0 a = some lc := (hf.2.2.2.2.1 0 a hc.1.1 (Or.inr (by decide))).trans hc.2.1
    have hb1 : isK S1 0 b := hf.K hb
    refine g_new C (fun q => S1.nO q 1) rfl in_X1 tyX1_ok kl_X0_71 wb_X1 wz_X1 df_X1 (by decide) (by decide) (fun _ => rfl) (fun q b => pu_n1 q b) dX0_join_20 (fun q hq => ?_)
    refine g_dup C dX0_join_23 rfl ?_
    refine g_aload_n C 2 dX0_join_24 rfl rfl ?_
    refine g_iload_n C 3 dX0_join_25 rfl rfl ?_
    refine g_callI C [.ref b, .int sh] [.ref q] (c_srcInit l E X (S1.nO q 1) (b := b) (x := sh) isK_new) cm_X1_init wz_X1 wi_X0_87 wn_X1_init rfl dt_X1_init rfl rfl (Nat.le_of_ble_eq_true rfl) (by decide) (by decide) dX0_join_26 ?_
    rintro v9 X2 S2 ⟨rfl, rfl, hS2⟩
    have f2 : ∀ l9 r9, Fr S1 S2 l9 r9 := fun l9 r9 => by rw [← hS2]; exact Fr.outI hq (Fr.outP hq (Fr.nO hq))
    have kq : isK S2 1 q := by rw [← hS2]; exact isK_new (S := S1)
    have pq : S2.P 2 q = some b := by rw [← hS2]; exact u2_self
    have iq : S2.I 8 q = sh := by rw [← hS2]; exact u2_self
    have sq : srcOK S2 q := ⟨kq, by rw [pq]; simp [tg, pq], by simp only [tg, pq]; exact (f2 0 0).K hb1⟩
    have A2 : isAL E S2 lc r1 vs1 := by
      refine ⟨(f2 0 0).K hA.1, ((f2 (lc + 1) 0).2.2.2.2.1 10 lc hA.1.1 (Or.inl (by omega))).trans hA.2.1, ((f2 (lc + 1) 0).2.2.1 17 lc hA.1.1 (Or.inl (by omega))).trans hA.2.2.1, hA.2.2.2.1, ?_⟩
      rcases hA.2.2.2.2 with g | ⟨g1, g2, g3, g4, g5, g6⟩
      · exact Or.inl g
      · have eN := ((f2 0 (r1 + 1)).2.2.2.2.2.1 r1 g1.1).1
        have eO := (f2 0 (r1 + 1)).2.2.2.2.2.2 r1 g1.1 (by omega)
        exact Or.inr ⟨(f2 0 0).K g1, by rw [eN]; exact g2, by rw [eN]; exact g3, by rw [eN]; exact g4, fun i hi => by rw [eO]; exact g5 i hi, fun i hi => by rw [eO]; exact g6 i hi⟩
    have ha2 : isK S2 0 a := (f2 0 0).K ha1
    have hp2 : S2.P 0 a = some lc := ((f2 (a + 1) 0).2.2.2.2.1 0 a ha1.1 (Or.inl (by omega))).trans hp1
    have hs2 : ∀ v ∈ vs1, srcOK S2 v := fun v hv => (f2 0 0).src (hf.src (hsr v hv))
    refine g_astore C [(4, .ref q), (3, .int z), (0, .ref a), (1, .ref b), (2, .int sh)] dX0_join_29 (by decide) rfl ?_
    refine g_iconst C 0 dX0_join_31 (by decide) ?_
    refine g_istore C [(5, .int 0), (4, .ref q), (3, .int z), (0, .ref a), (1, .ref b), (2, .int sh)] dX0_join_32 (by decide) rfl ?_
    have loop : ∀ (n i : Nat), i + n = vs1.length → posF S2 q (vs1.drop i) i = posF S2 q vs1 0 → GW p l e (rml 6 2 152) s m args below meth c E 6 A Q X S2 1 2 34 [(5, .int (nI i)), (4, .ref q), (0, .ref a)] [] := by
      intro n
      induction n with
      | zero =>
        intro i hin hF
        rw [List.drop_eq_nil_of_le (by omega)] at hF
        have hpos : posF S2 q vs1 0 = i := hF.symm
        refine g_iload C 0 dX0_join_34 rfl ?_
        refine g_aload_n C 2 dX0_join_36 rfl rfl ?_
        refine g_get (v := .ref lc) C 4 ha2.1 (pF_0 ha2.2) rfl (by decide) in_X0 lk_X0_12 rfl (congrArg (fun z => some (va_rf z)) hp2) dX0_join_37 ?_
        refine g_callV C [] [.int (nI i)] (c_size l E X S2 A2) (recv_at A2.1.1 (pF_5 A2.1.2)) rfl cm_Jx4a65c_size_8abf5 wv_X0_63 ds_Jx4a65c_size_8abf5 rfl rfl (Nat.le_of_ble_eq_true rfl) (by decide) (by decide) dX0_join_40 ?_
        rintro v9 X3 S3 ⟨rfl, rfl, rfl⟩
        refine g_icmp_ge C 72 dX0_join_43 (by decide) (fun h43 => ?_) (fun h43 => ?_)
        · refine g_aload_n C 2 dX0_join_72 rfl rfl ?_
          refine g_get (v := .ref lc) C 4 ha2.1 (pF_0 ha2.2) rfl (by decide) in_X0 lk_X0_12 rfl (congrArg (fun z => some (va_rf z)) hp2) dX0_join_73 ?_
          refine g_iload C 0 dX0_join_76 rfl ?_
          refine g_aload C 1 dX0_join_78 rfl ?_
          refine g_callV C [.int (nI i), .ref q] [] (c_addAt l E X S2 (i := i) A2 (by omega) hl1 (fun v hv => ⟨(hs2 v hv).1.1, by rw [(hs2 v hv).1.2]; decide⟩) ⟨kq.1, by rw [kq.2]; decide⟩) (recv_at A2.1.1 (pF_5 A2.1.2)) rfl cm_Jx4a65c_add_7a177 wv_X0_94 ds_Jx4a65c_add_7a177 rfl rfl (Nat.le_of_ble_eq_true rfl) (by decide) (by decide) dX0_join_80 ?_
          rintro v9 X3 S3 ⟨rfl, rfl, r3, A3, f3, h3⟩
          exact g_vret C hQ rfl dX0_join_83 (by decide) (by decide) ⟨rfl, rfl, q, r3, fun z => hq (hf.mem z), f3.K kq, (f3.2.2.2.2.1 2 q kq.1 (Or.inr (by decide))).trans pq, (f3.2.2.1 8 q kq.1 (Or.inr (by decide))).trans iq, (hf.trans (r1 := r1) (f2 lc r1) hr1).trans (r1 := r1) f3 hr1, (by
                rcases h3 with h3 | h3
                · rw [h3]; exact hr1
                · exact Or.inr (fun z => h3 ((f2 0 0).mem (hf.mem z)))), (by
                have e1 : posF S3 q vs1 0 = i := (posF_congr vs1 0 (fun v hv => f3.strE (hs2 v hv) sq)).trans hpos
                rw [← hvs]; unfold insP; rw [e1]; exact A3)⟩
        · exact absurd (nI_le (show vs1.length ≤ i by omega) (by omega)) h43
      | succ n ih =>
        intro i hin hF
        have hi : i < vs1.length := by omega
        obtain ⟨v, hv⟩ : ∃ v, v = vs1[i] := ⟨_, rfl⟩
        have hs : srcOK S2 v := by rw [hv]; exact hs2 _ (List.getElem_mem hi)
        have hdr : vs1.drop i = v :: vs1.drop (i + 1) := by rw [hv]; exact List.drop_eq_getElem_cons hi
        rw [hdr, posF] at hF
        refine g_iload C 0 dX0_join_34 rfl ?_
        refine g_aload_n C 2 dX0_join_36 rfl rfl ?_
        refine g_get (v := .ref lc) C 4 ha2.1 (pF_0 ha2.2) rfl (by decide) in_X0 lk_X0_12 rfl (congrArg (fun z => some (va_rf z)) hp2) dX0_join_37 ?_
        refine g_callV C [] [.int (nI i)] (c_size l E X S2 A2) (recv_at A2.1.1 (pF_5 A2.1.2)) rfl cm_Jx4a65c_size_8abf5 wv_X0_63 ds_Jx4a65c_size_8abf5 rfl rfl (Nat.le_of_ble_eq_true rfl) (by decide) (by decide) dX0_join_40 ?_
        rintro v9 X3 S3 ⟨rfl, rfl, rfl⟩
        refine g_icmp_ge C 72 dX0_join_43 (by decide) (fun h43 => ?_) (fun h43 => ?_)
        · have hpos : posF S2 q vs1 0 = i := by
            first
            | exact absurd ((nI_leI (by omega) (by omega)).mp h43) (by omega)
            | (rw [if_neg (by rw [bI_0 h63]; decide)] at hF; exact hF.symm)
          refine g_aload_n C 2 dX0_join_72 rfl rfl ?_
          refine g_get (v := .ref lc) C 4 ha2.1 (pF_0 ha2.2) rfl (by decide) in_X0 lk_X0_12 rfl (congrArg (fun z => some (va_rf z)) hp2) dX0_join_73 ?_
          refine g_iload C 0 dX0_join_76 rfl ?_
          refine g_aload C 1 dX0_join_78 rfl ?_
          refine g_callV C [.int (nI i), .ref q] [] (c_addAt l E X S2 (i := i) A2 (by omega) hl1 (fun v hv => ⟨(hs2 v hv).1.1, by rw [(hs2 v hv).1.2]; decide⟩) ⟨kq.1, by rw [kq.2]; decide⟩) (recv_at A2.1.1 (pF_5 A2.1.2)) rfl cm_Jx4a65c_add_7a177 wv_X0_94 ds_Jx4a65c_add_7a177 rfl rfl (Nat.le_of_ble_eq_true rfl) (by decide) (by decide) dX0_join_80 ?_
          rintro v9 X3 S3 ⟨rfl, rfl, r3, A3, f3, h3⟩
          exact g_vret C hQ rfl dX0_join_83 (by decide) (by decide) ⟨rfl, rfl, q, r3, fun z => hq (hf.mem z), f3.K kq, (f3.2.2.2.2.1 2 q kq.1 (Or.inr (by decide))).trans pq, (f3.2.2.1 8 q kq.1 (Or.inr (by decide))).trans iq, (hf.trans (r1 := r1) (f2 lc r1) hr1).trans (r1 := r1) f3 hr1, (by
                rcases h3 with h3 | h3
                · rw [h3]; exact hr1
                · exact Or.inr (fun z => h3 ((f2 0 0).mem (hf.mem z)))), (by
                have e1 : posF S3 q vs1 0 = i := (posF_congr vs1 0 (fun v hv => f3.strE (hs2 v hv) sq)).trans hpos
                rw [← hvs]; unfold insP; rw [e1]; exact A3)⟩
        · refine g_aload_n C 2 dX0_join_46 rfl rfl ?_
          refine g_get (v := .ref lc) C 4 ha2.1 (pF_0 ha2.2) rfl (by decide) in_X0 lk_X0_12 rfl (congrArg (fun z => some (va_rf z)) hp2) dX0_join_47 ?_
          refine g_iload C 0 dX0_join_50 rfl ?_
          refine g_callV C [.int (nI i)] [] (c_get l E X S2 A2 hi) (recv_at A2.1.1 (pF_5 A2.1.2)) rfl cm_Jx4a65c_get_915e3 wv_X0_67 ds_Jx4a65c_get_915e3 rfl rfl (Nat.le_of_ble_eq_true rfl) (by decide) (by decide) dX0_join_52 ?_
          rintro v9 X3 S3 ⟨rfl, rfl, rfl⟩
          show GW _ _ _ _ _ _ _ _ _ _ _ _ _ _ _ _ _ _ _ _ (.ref vs1[i] :: _)
          rw [← hv]
          refine g_cast C hs.1.1 (pF_1 hs.1.2) rfl kl_X0_71 dX0_join_55 ?_
          refine g_aload C 1 dX0_join_58 rfl ?_
          refine g_callV C [.ref q] [] (c_stronger l E X S2 hs sq) (recv_at hs.1.1 (pF_1 hs.1.2)) rfl cm_X1_isStrongerThan wv_X0_90 ds_X1_isStrongerThan rfl rfl (Nat.le_of_ble_eq_true rfl) (by decide) (by decide) dX0_join_60 ?_
          rintro v9 X3 S3 ⟨rfl, rfl, rfl⟩
          refine g_if_eq C 72 dX0_join_63 (by decide) (fun h63 => ?_) (fun h63 => ?_)
          · have hpos : posF S2 q vs1 0 = i := by
              first
              | exact absurd ((nI_leI (by omega) (by omega)).mp h43) (by omega)
              | (rw [if_neg (by rw [bI_0 h63]; decide)] at hF; exact hF.symm)
            refine g_aload_n C 2 dX0_join_72 rfl rfl ?_
            refine g_get (v := .ref lc) C 4 ha2.1 (pF_0 ha2.2) rfl (by decide) in_X0 lk_X0_12 rfl (congrArg (fun z => some (va_rf z)) hp2) dX0_join_73 ?_
            refine g_iload C 0 dX0_join_76 rfl ?_
            refine g_aload C 1 dX0_join_78 rfl ?_
            refine g_callV C [.int (nI i), .ref q] [] (c_addAt l E X S2 (i := i) A2 (by omega) hl1 (fun v hv => ⟨(hs2 v hv).1.1, by rw [(hs2 v hv).1.2]; decide⟩) ⟨kq.1, by rw [kq.2]; decide⟩) (recv_at A2.1.1 (pF_5 A2.1.2)) rfl cm_Jx4a65c_add_7a177 wv_X0_94 ds_Jx4a65c_add_7a177 rfl rfl (Nat.le_of_ble_eq_true rfl) (by decide) (by decide) dX0_join_80 ?_
            rintro v9 X3 S3 ⟨rfl, rfl, r3, A3, f3, h3⟩
            exact g_vret C hQ rfl dX0_join_83 (by decide) (by decide) ⟨rfl, rfl, q, r3, fun z => hq (hf.mem z), f3.K kq, (f3.2.2.2.2.1 2 q kq.1 (Or.inr (by decide))).trans pq, (f3.2.2.1 8 q kq.1 (Or.inr (by decide))).trans iq, (hf.trans (r1 := r1) (f2 lc r1) hr1).trans (r1 := r1) f3 hr1, (by
                  rcases h3 with h3 | h3
                  · rw [h3]; exact hr1
                  · exact Or.inr (fun z => h3 ((f2 0 0).mem (hf.mem z)))), (by
                  have e1 : posF S3 q vs1 0 = i := (posF_congr vs1 0 (fun v hv => f3.strE (hs2 v hv) sq)).trans hpos
                  rw [← hvs]; unfold insP; rw [e1]; exact A3)⟩
          · refine g_iinc C (nI (i + 1)) 0 [(5, .int (nI (i + 1))), (4, .ref q), (0, .ref a)] dX0_join_66 rfl (nI_1 i) (by decide) rfl ?_
            refine g_goto C 34 dX0_join_69 (by decide) ?_
            exact ih (i + 1) (by omega) (by rw [if_pos (bI_1 h63)] at hF; exact hF)
    refine g_locs (lv2 := [(5, .int 0), (4, .ref q), (0, .ref a)]) [0, 1, 3] rfl ?_
    exact loop vs1.length 0 (by omega) rfl
  refine g_aload_n C 0 dX0_join_0 rfl rfl ?_
  refine g_aload_n C 1 dX0_join_1 rfl rfl ?_
  refine g_callV C [.ref b] [] (c_placeOf l E X S hc (b := b)) (recv_at hc.1.1 (pF_0 hc.1.2)) rfl cm_X0_placeOf wv_X0_77 ds_X0_placeOf rfl rfl (Nat.le_of_ble_eq_true rfl) (by decide) (by decide) dX0_join_2 ?_
  rintro v9 X2 S2 ⟨rfl, rfl, rfl⟩
  have hlen := hc.2.2.1.2.2.2.1
  cases hp : plc S b vs 0 with
  | none =>
    refine g_istore_n C [(3, .int (-1)), (0, .ref a), (1, .ref b), (2, .int sh)] dX0_join_5 rfl (by decide) rfl ?_
    refine g_iload_n C 0 dX0_join_6 rfl rfl ?_
    refine g_iconst C (-1) dX0_join_7 (by decide) ?_
    refine g_icmp_eq C 20 dX0_join_8 (by decide) (fun h8 => ?_) (fun h8 => ?_)
    · exact tail S rc vs _ (by unfold rmv; rw [hp]) hc.2.2.1 Fr.rf (Or.inl rfl) hc.2.2.2 h100
    · exact absurd rfl h8
  | some j =>
    obtain ⟨-, hj, v, hv, -⟩ := plc_lt hp
    rw [Nat.zero_add] at hj
    have hi : j < vs.length := hj
    refine g_istore_n C [(3, .int (nI j)), (0, .ref a), (1, .ref b), (2, .int sh)] dX0_join_5 rfl (by decide) rfl ?_
    refine g_iload_n C 0 dX0_join_6 rfl rfl ?_
    refine g_iconst C (-1) dX0_join_7 (by decide) ?_
    refine g_icmp_eq C 20 dX0_join_8 (by decide) (fun h8 => ?_) (fun h8 => ?_)
    · exact absurd h8 (nI_m1 (by omega))
    · refine g_aload_n C 1 dX0_join_11 rfl rfl ?_
      refine g_get (v := .ref lc) C 4 hc.1.1 (pF_0 hc.1.2) rfl (by decide) in_X0 lk_X0_12 rfl (congrArg (fun z => some (va_rf z)) hc.2.1) dX0_join_12 ?_
      refine g_iload_n C 0 dX0_join_15 rfl rfl ?_
      refine g_callV C [.int (nI j)] [] (c_remove l E X S hc.2.2.1 hi (fun v hv => ⟨(hc.2.2.2 v hv).1.1, by rw [(hc.2.2.2 v hv).1.2]; decide⟩)) (recv_at hc.2.2.1.1.1 (pF_5 hc.2.2.1.1.2)) rfl cm_Jx4a65c_remove_915e3 wv_X0_84 ds_Jx4a65c_remove_915e3 rfl rfl (Nat.le_of_ble_eq_true rfl) (by decide) (by decide) dX0_join_16 ?_
      rintro v9 X2 S2 ⟨rfl, rfl, r2, A2, f2, h2⟩
      refine g_pop C dX0_join_19 rfl ?_
      exact tail S2 r2 (vs.eraseIdx j) _ (by unfold rmv; rw [hp]) A2 f2 h2 (fun v hv => hc.2.2.2 v (List.mem_of_mem_eraseIdx hv)) (by rw [List.length_eraseIdx_of_lt hi]; omega)
