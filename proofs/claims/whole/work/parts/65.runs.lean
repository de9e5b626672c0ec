/-! ===== what is added keeps its range ===== -/
theorem sK_bd {g : Nat → Int32} {kp : Int32} (hk : kp.toInt ≤ 8) : ∀ (l : List Nat) (k : Nat) (s : Int32), (∀ z ∈ l, 0 ≤ (g z).toInt ∧ (g z).toInt ≤ 10000) → k ≤ 8 → 0 ≤ s.toInt → s.toInt ≤ 10000 * k → 0 ≤ (sK g kp l k s).toInt ∧ (sK g kp l k s).toInt ≤ 80000
  | [], k, s, _, h8, h1, h2 => ⟨h1, by show s.toInt ≤ _; omega⟩
  | z :: l, k, s, h, h8, h1, h2 => by
    unfold sK
    by_cases c : kp ≤ nI k
    · rw [if_pos c]; exact ⟨h1, by omega⟩
    · rw [if_neg c]
      have hz := h z List.mem_cons_self
      have c2 : k < 8 := by
        have := Int32.not_le.mp c
        rw [Int32.lt_iff_toInt_lt, nI_toInt (by omega)] at this; omega
      have e := add_in h1 hz.1 (by omega)
      exact sK_bd hk l (k + 1) _ (fun w hw => h w (List.mem_cons_of_mem _ hw)) (by omega) (by omega) (by omega)
theorem mul_in {x z : Int32} (h1 : 0 ≤ x.toInt) (h2 : 0 ≤ z.toInt) (h3 : x.toInt ≤ 1000) (h4 : z.toInt ≤ 10000) : 0 ≤ (x * z / 1000).toInt ∧ (x * z / 1000).toInt ≤ 10000 := by
  have hm : 0 ≤ x.toInt * z.toInt := Int.mul_nonneg h1 h2
  have hm2 : x.toInt * z.toInt ≤ 1000 * 10000 := Int.mul_le_mul h3 h4 h2 (by decide)
  have e : (x * z).toInt = x.toInt * z.toInt := by
    rw [Int32.toInt_mul]; exact Int.bmod_eq_of_le (by omega) (by omega)
  rw [Int32.toInt_div_of_ne_right _ _ (by decide), e, show (1000 : Int32).toInt = 1000 by decide, Int.tdiv_eq_ediv_of_nonneg hm]
  omega
theorem mSum_bd {M M2 : MM} {n st : Nat} (hb : bnds M n st) (hn : n ≤ 40) {i : Nat} (hi : i < n) {ks : List Nat} (hk : csK M n i ks) (h4 : M2 4 = M 4) (h5 : M2 5 = M 5) (h13 : M2 13 0 = M 13 0) (all : Bool) : 0 ≤ (mSum M2 i n all).toInt ∧ (mSum M2 i n all).toInt ≤ 80000 := by
  have d2 : csK M2 n i ks := csK_cg hk (Nat.le_refl _) (fun p _ => by rw [h5]) (fun p _ => by rw [h4]) (fun p hp hp2 => absurd hp (by omega))
  unfold mSum
  rw [gL_ks hn d2, h13, h4, h5]
  refine sK_bd hb.2.2.2.2 _ 0 0 (fun z hz => ?_) (by omega) (by decide) (by decide)
  have hz2 := ((hk.1 z).mp (List.mem_filter.mp hz).1).1
  exact mul_in (hb.2.1 i z hi hz2).1 (hb.1 z hz2).2.2.2.1 (hb.2.1 i z hi hz2).2 (hb.1 z hz2).2.2.2.2
/-! ===== a round ===== -/
theorem SDa_cg {S S1 : HS} (h : Sh S S1) (hJ : S1.J = S.J) (h4 : S1.I 4 = S.I 4) (h5 : S1.I 5 = S.I 5) {a : Nat} {kp : Int32} {vs : List Nat} {mo : Bool} : SDa S1 a kp vs mo = SDa S a kp vs mo := by
  have e1 : ∀ v, tg S1 v = tg S v := h.tgE
  have e2 : ∀ b, exB S1 a b = exB S a b := fun b => by unfold exB bv; rw [hJ, h.2.2.2.2.2.1]
  have e3 : ∀ b, meB S1 a b = meB S a b := fun b => by unfold meB; rw [h4, h5]
  have e4 : ∀ v, sg S1 v = sg S v := fun v => by unfold sg; rw [e1, h.2.2.2.2.2.2.2.2.2.1, h.2.2.2.2.2.2.2.2.1]
  unfold SDa
  simp only [e1, e2, e3, e4]
theorem mkL_z {A : Nat → Nat} {n : Nat} (hA : ∀ p q, p < n → q < n → A p = A q → p = q) {vs : Nat → List Nat} {kp : Int32} {ad nx : Nat → Int32} : ∀ (m q : Nat) (S : HS) (c : Int32), q + m ≤ n → (∀ j, q ≤ j → j < q + m → S.I 6 (A j) = ad j ∧ SDa S (A j) kp (vs (A j)) true = nx j) → (mkL vs kp ((List.range' q m).map A) S c).2 = chC ad nx m q c ∧ ∀ j, j < n → (mkL vs kp ((List.range' q m).map A) S c).1.I 6 (A j) = if q ≤ j ∧ j < q + m then nx j else S.I 6 (A j)
  | 0, q, S, c, _, _ => ⟨rfl, fun j _ => by rw [if_neg (by omega)]; rfl⟩
  | m + 1, q, S, c, hq, h => by
    obtain ⟨h1, h2⟩ := h q (Nat.le_refl _) (by omega)
    rw [List.range'_succ, List.map_cons]
    unfold mkL
    rw [h1, h2]
    have step : ∀ (S1 : HS) (c1 : Int32), c1 = c + (if nx q = ad q then 0 else 1) → Sh S S1 → S1.J = S.J → S1.I 4 = S.I 4 → S1.I 5 = S.I 5 → (∀ j, j < n → S1.I 6 (A j) = if j = q then nx q else S.I 6 (A j)) → (mkL vs kp ((List.range' (q + 1) m).map A) S1 c1).2 = chC ad nx (m + 1) q c ∧ ∀ j, j < n → (mkL vs kp ((List.range' (q + 1) m).map A) S1 c1).1.I 6 (A j) = if q ≤ j ∧ j < q + (m + 1) then nx j else S.I 6 (A j) := by
      intro S1 c1 hc hs hJ i4 i5 i6
      obtain ⟨r1, r2⟩ := mkL_z hA (vs := vs) (kp := kp) (ad := ad) (nx := nx) m (q + 1) S1 c1 (by omega) (fun j hj1 hj2 => by
        obtain ⟨g1, g2⟩ := h j (by omega) (by omega)
        refine ⟨?_, (SDa_cg hs hJ i4 i5).trans g2⟩
        rw [i6 j (by omega), if_neg (by omega)]; exact g1)
      refine ⟨by rw [r1, hc]; rfl, fun j hj => ?_⟩
      rw [r2 j hj, i6 j hj]
      by_cases c1 : q + 1 ≤ j ∧ j < q + 1 + m
      · rw [if_pos c1, if_pos (by omega)]
      · rw [if_neg c1]
        by_cases c2 : j = q
        · rw [if_pos c2, if_pos (by omega), c2]
        · rw [if_neg c2, if_neg (by omega)]
    by_cases c0 : nx q = ad q
    · rw [if_pos c0]
      exact step S c (by rw [if_pos c0, Int32.add_zero]) Sh.rf rfl rfl rfl (fun j hj => by
        by_cases c2 : j = q
        · rw [if_pos c2, c2, h1, c0]
        · rw [if_neg c2])
    · rw [if_neg c0]
      exact step (S.sI 6 (A q) (nx q)) (c + 1) (by rw [if_neg c0]) (Sh.rf.sI rfl) rfl (funext fun b => sI_ne (by decide)) (funext fun b => sI_ne (by decide)) (fun j hj => by
        by_cases c2 : j = q
        · rw [if_pos c2, c2]; exact sI_s
        · rw [if_neg c2]; exact sI_o (fun z => c2 (hA j q hj (by omega) z)))
theorem inL_z {A : Nat → Nat} {n : Nat} (hA : ∀ p q, p < n → q < n → A p = A q → p = q) {vs : Nat → List Nat} {kp : Int32} {wd : Bool} {nx : Nat → Int32} : ∀ (m q : Nat) (S : HS), q + m ≤ n → (∀ j, q ≤ j → j < q + m → (if wd = true then SDa S (A j) kp (vs (A j)) false else 0) = nx j) → ∀ j, j < n → (inL vs kp wd ((List.range' q m).map A) S).I 6 (A j) = if q ≤ j ∧ j < q + m then nx j else S.I 6 (A j)
  | 0, q, S, _, _ => fun j _ => by rw [if_neg (by omega)]; rfl
  | m + 1, q, S, hq, h => by
    intro j hj
    rw [List.range'_succ, List.map_cons]
    unfold inL
    rw [h q (Nat.le_refl _) (by omega)]
    rw [inL_z hA (nx := nx) m (q + 1) (S.sI 6 (A q) (nx q)) (by omega) (fun z hz1 hz2 => by
      rw [SDa_cg (S := S) (Sh.rf.sI rfl) rfl (funext fun b => sI_ne (by decide)) (funext fun b => sI_ne (by decide))]
      exact h z (by omega) (by omega)) j hj]
    by_cases c1 : q + 1 ≤ j ∧ j < q + 1 + m
    · rw [if_pos c1, if_pos (by omega)]
    · rw [if_neg c1]
      by_cases c2 : j = q
      · rw [if_pos (by omega), c2]; exact sI_s
      · rw [if_neg (by omega)]; exact sI_o (fun z => c2 (hA j q hj (by omega) z))
theorem wSp_J (ss : Nat → List Nat) : ∀ (l : List Nat) (S : HS), (wSp ss l S).J = S.J ∧ (wSp ss l S).R = S.R
  | [], S => ⟨rfl, rfl⟩
  | a :: l, S => wSp_J ss l _
theorem mkL_J (vs : Nat → List Nat) (kp : Int32) : ∀ (l : List Nat) (S : HS) (c : Int32), (mkL vs kp l S c).1.J = S.J ∧ (mkL vs kp l S c).1.R = S.R
  | [], S, c => ⟨rfl, rfl⟩
  | a :: l, S, c => by
    unfold mkL
    by_cases h : SDa S a kp (vs a) true = S.I 6 a
    · rw [if_pos h]; exact mkL_J vs kp l S c
    · rw [if_neg h]; exact mkL_J vs kp l _ _
theorem inL_J (vs : Nat → List Nat) (kp : Int32) (wd : Bool) : ∀ (l : List Nat) (S : HS), (inL vs kp wd l S).J = S.J ∧ (inL vs kp wd l S).R = S.R
  | [], S => ⟨rfl, rfl⟩
  | a :: l, S => inL_J vs kp wd l _
/-! ===== rounds ===== -/
/-- what the rounds lean on -/
def rctx (M : MM) (A F T : Nat → Nat) (vs ss ks : Nat → List Nat) (fk : List Nat) (n st : Nat) (S : HS) : Prop :=
  n ≤ 40 ∧ (∀ p q, p < n → q < n → A p = A q → p = q) ∧ topo (bef F T st) fk ∧ fk.Nodup ∧ (∀ q, q ∈ fk ↔ q < n) ∧ fk.length ≤ n ∧ sums S M A vs ks n ∧ bnds M n st ∧ (∀ s, s < st → F s < n) ∧
  ∀ q, q < n → S.I 1 (A q) = M 2 q ∧ S.I 2 (A q) = M 3 q ∧ prS S (ss (A q)) = (sqL T q st 0).map (fun s => (A (F s), M 12 s))
theorem rctx.sh {M : MM} {A F T : Nat → Nat} {vs ss ks : Nat → List Nat} {fk : List Nat} {n st : Nat} {S S1 : HS} (h : rctx M A F T vs ss ks fk n st S) (hs : Sh S S1) (hJ : S1.J = S.J) : rctx M A F T vs ss ks fk n st S1 := by
  obtain ⟨a1, a2, a3, a4, a5, a6, a7, a8, a9, b1⟩ := h
  refine ⟨a1, a2, a3, a4, a5, a6, sums_sh a7 hs hJ, a8, a9, fun q hq => ?_⟩
  obtain ⟨c1, c2, c3⟩ := b1 q hq
  exact ⟨by rw [hs.2.2.2.2.2.2.1]; exact c1, by rw [hs.2.2.2.2.2.2.2.1]; exact c2, (prS_sh hs _).trans c3⟩
/-- what is added, in its range -/
def adR (S : HS) (A : Nat → Nat) (n : Nat) (ad : Nat → Int32) : Prop := ∀ q, q < n → S.I 6 (A q) = ad q ∧ 0 ≤ (ad q).toInt ∧ (ad q).toInt ≤ 80000
theorem rctx.stt {M : MM} {A F T : Nat → Nat} {vs ss ks : Nat → List Nat} {fk : List Nat} {n st : Nat} {S : HS} (h : rctx M A F T vs ss ks fk n st S) {ad : Nat → Int32} (ha : adR S A n ad) : stt S A ss F T st n (M 12) (M 2) (M 3) ad := by
  obtain ⟨a1, a2, a3, a4, a5, a6, a7, a8, a9, b1⟩ := h
  exact ⟨fun q hq => ⟨(b1 q hq).1, (b1 q hq).2.1, (ha q hq).1, (b1 q hq).2.2⟩, fun s hs => ⟨a9 s hs, a8.2.2.1 s hs⟩, fun q hq => ⟨(a8.1 q hq).2.1, (a8.1 q hq).2.2.1, (ha q hq).2⟩⟩
theorem rctx.sp {M : MM} {A F T : Nat → Nat} {vs ss ks : Nat → List Nat} {fk : List Nat} {n st : Nat} {S : HS} (h : rctx M A F T vs ss ks fk n st S) {ad : Nat → Int32} (ha : adR S A n ad) (be en : Nat → Int32) {q : Nat} (hq : q < n) : (wSp ss (fk.map A) S).I 4 (A q) = (sp M F T st n ad be en).1 q ∧ (wSp ss (fk.map A) S).I 5 (A q) = (sp M F T st n ad be en).2 q :=
  wSp_ref h.2.1 h.2.2.1 h.2.2.2.1 h.2.2.2.2.1 h.1 h.2.2.2.2.2.1 (h.stt ha) (be, en) hq
theorem mk_sim {M : MM} {A F T : Nat → Nat} {vs ss ks : Nat → List Nat} {fk : List Nat} {n st : Nat} {S : HS} (h : rctx M A F T vs ss ks fk n st S) {ad : Nat → Int32} (ha : adR S A n ad) (be en : Nat → Int32) {x : Nat} (hk : S.I 12 x = M 13 0) : (mkR vs ss ((List.range n).map A) (fk.map A) x S).2 = rdC M F T st n ad be en ∧ adR (mkR vs ss ((List.range n).map A) (fk.map A) x S).1 A n (rdA M F T st n ad be en) := by
  have hw := h.sh (wSp_sh ss (fk.map A) S) (wSp_J ss (fk.map A) S).1
  have hnx : ∀ j, j < n → SDa (wSp ss (fk.map A) S) (A j) (S.I 12 x) (vs (A j)) true = nxF M n (sp M F T st n ad be en) j := fun j hj =>
    SDa_m hw.2.2.2.2.2.2.1 hj (cM M (sp M F T st n ad be en).1 (sp M F T st n ad be en).2) rfl rfl rfl hk.symm (fun _ q hq => h.sp ha be en hq)
  have h6 : (wSp ss (fk.map A) S).I 6 = S.I 6 := wSp_I ss 6 (by decide) (by decide) _ _
  obtain ⟨r1, r2⟩ := mkL_z h.2.1 (vs := vs) (kp := S.I 12 x) (ad := ad) (nx := nxF M n (sp M F T st n ad be en)) n 0 (wSp ss (fk.map A) S) 0 (by omega) (fun j _ hj => ⟨by rw [h6]; exact (ha j (by omega)).1, hnx j (by omega)⟩)
  unfold mkR
  rw [List.range_eq_range']
  refine ⟨r1, fun q hq => ?_⟩
  have e : rdA M F T st n ad be en q = nxF M n (sp M F T st n ad be en) q := pre_lt hq
  rw [r2 q hq, if_pos (by omega), e]
  refine ⟨rfl, ?_⟩
  exact mSum_bd (M2 := cM M (sp M F T st n ad be en).1 (sp M F T st n ad be en).2) h.2.2.2.2.2.2.2.1 h.1 hq (h.2.2.2.2.2.2.1.2 q hq).2.2.2.1 rfl rfl rfl false
theorem rn_sim {M : MM} {A F T : Nat → Nat} {vs ss ks : Nat → List Nat} {fk : List Nat} {n st x cg : Nat} : ∀ (k rm : Nat) (S : HS) (ad be en cf : Nat → Int32), rctx M A F T vs ss ks fk n st S → adR S A n ad → S.I 12 x = M 13 0 → S.I 11 x = nI rm → (∀ j, j < rm → S.R cg j = cf j) →
    (rnL vs ss ((List.range n).map A) (fk.map A) x cg k rm S).2 = (rnM M F T st n k rm ad be en cf).2.2.2.2 ∧ adR (rnL vs ss ((List.range n).map A) (fk.map A) x cg k rm S).1 A n (rnM M F T st n k rm ad be en cf).1 ∧
    (rnL vs ss ((List.range n).map A) (fk.map A) x cg k rm S).1.I 11 x = nI (rnM M F T st n k rm ad be en cf).2.2.2.2 ∧
    (∀ j, j < (rnM M F T st n k rm ad be en cf).2.2.2.2 → (rnL vs ss ((List.range n).map A) (fk.map A) x cg k rm S).1.R cg j = (rnM M F T st n k rm ad be en cf).2.2.2.1 j) ∧
    Sh S (rnL vs ss ((List.range n).map A) (fk.map A) x cg k rm S).1 ∧ (rnL vs ss ((List.range n).map A) (fk.map A) x cg k rm S).1.J = S.J ∧ (∀ a, a ≠ cg → (rnL vs ss ((List.range n).map A) (fk.map A) x cg k rm S).1.R a = S.R a) ∧
    (∀ i, i ≠ 4 → i ≠ 5 → i ≠ 6 → i ≠ 11 → (rnL vs ss ((List.range n).map A) (fk.map A) x cg k rm S).1.I i = S.I i) ∧ (rnM M F T st n k rm ad be en cf).2.2.2.2 ≤ rm + k
  | 0, rm, S, ad, be, en, cf, h, ha, hk, h11, hc => ⟨rfl, ha, h11, hc, Sh.rf, rfl, fun _ _ => rfl, fun _ _ _ _ _ => rfl, Nat.le_refl _⟩
  | k + 1, rm, S, ad, be, en, cf, h, ha, hk, h11, hc => by
    obtain ⟨m1, m2⟩ := mk_sim h ha be en hk
    have hsh : Sh S (mkR vs ss ((List.range n).map A) (fk.map A) x S).1 := mkR_sh
    have hI : ∀ i, i ≠ 4 → i ≠ 5 → i ≠ 6 → (mkR vs ss ((List.range n).map A) (fk.map A) x S).1.I i = S.I i := fun i h4 h5 h6 => mkR_I h4 h5 h6
    have hJ : (mkR vs ss ((List.range n).map A) (fk.map A) x S).1.J = S.J := ((mkL_J vs _ _ _ 0).1).trans (wSp_J ss _ S).1
    have hR : (mkR vs ss ((List.range n).map A) (fk.map A) x S).1.R = S.R := ((mkL_J vs _ _ _ 0).2).trans (wSp_J ss _ S).2
    unfold rnL rnM
    rw [m1]
    generalize (mkR vs ss ((List.range n).map A) (fk.map A) x S).1 = S1 at *
    generalize rdC M F T st n ad be en = c0 at *
    have hS2 : Sh S ((S1.sR cg rm c0).sI 11 x (nI (rm + 1))) := hsh.sR.sI rfl
    have hI2 : ∀ i, i ≠ 4 → i ≠ 5 → i ≠ 6 → i ≠ 11 → ((S1.sR cg rm c0).sI 11 x (nI (rm + 1))).I i = S.I i := fun i h4 h5 h6 h11 => (funext fun b => sI_ne h11).trans (hI i h4 h5 h6)
    have hR2 : ∀ a, a ≠ cg → ((S1.sR cg rm c0).sI 11 x (nI (rm + 1))).R a = S.R a := fun a hc => by
      rw [← hR]; funext j; exact u2_ne1 hc
    have hc2 : ∀ j, j < rm + 1 → ((S1.sR cg rm c0).sI 11 x (nI (rm + 1))).R cg j = upd cf rm c0 j := fun j hj => by
      show u2 S1.R cg rm c0 cg j = _
      unfold upd
      by_cases e : j = rm
      · rw [if_pos e, e]; exact u2_self
      · rw [if_neg e, u2_ne2 e, hR]; exact hc j (by omega)
    have ha2 : adR ((S1.sR cg rm c0).sI 11 x (nI (rm + 1))) A n (rdA M F T st n ad be en) := fun q hq => ⟨(sI_ne (by decide)).trans (m2 q hq).1, (m2 q hq).2⟩
    by_cases c : c0 = 0
    · rw [if_pos c, if_pos c]
      exact ⟨rfl, ha2, sI_s, hc2, hS2, hJ, hR2, hI2, by show rm + 1 ≤ _; omega⟩
    · rw [if_neg c, if_neg c]
      obtain ⟨i1, i2, i3, i4, i5, i6, i7, i8, i9⟩ := rn_sim (M := M) (A := A) (F := F) (T := T) (vs := vs) (ss := ss) (ks := ks) (fk := fk) (n := n) (st := st) (x := x) (cg := cg) k (rm + 1) ((S1.sR cg rm c0).sI 11 x (nI (rm + 1))) (rdA M F T st n ad be en) (sp M F T st n ad be en).1 (sp M F T st n ad be en).2 (upd cf rm c0) (h.sh hS2 hJ) ha2 (by rw [hI2 12 (by decide) (by decide) (by decide) (by decide)]; exact hk) sI_s hc2
      exact ⟨i1, i2, i3, i4, hS2.trans i5, i6.trans hJ, fun a hac => (i7 a hac).trans (hR2 a hac), fun i h4 h5 h6 h11 => (i8 i h4 h5 h6 h11).trans (hI2 i h4 h5 h6 h11), by omega⟩
