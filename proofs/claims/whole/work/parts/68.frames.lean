/-! ===== what stays when lists change ===== -/
def FvH (S S2 : HS) : Prop := (∀ a, a ∈ S.L → a ∈ S2.L ∧ S2.K a = S.K a) ∧ (∀ k a, a ∈ S.L → k ≤ 15 → S2.I k a = S.I k a) ∧ (∀ k a, a ∈ S.L → S2.J k a = S.J k a) ∧ (∀ k a, a ∈ S.L → k ≤ 9 → S2.P k a = S.P k a) ∧ ∀ a, a ∈ S.L → S2.N a = S.N a ∧ S2.R a = S.R a
theorem Fr.fv {S S2 : HS} {l r : Nat} (h : Fr S S2 l r) : FvH S S2 := ⟨fun a ha => ⟨h.mem ha, h.2.1 a ha⟩, fun k a ha hk => h.2.2.1 k a ha (Or.inr (by omega)), fun k a ha => h.2.2.2.1 k a ha, fun k a ha hk => h.2.2.2.2.1 k a ha (Or.inr (by omega)), fun a ha => h.2.2.2.2.2.1 a ha⟩
theorem FvH.trans {S S1 S2 : HS} (h : FvH S S1) (g : FvH S1 S2) : FvH S S2 := ⟨fun a ha => ⟨(g.1 a (h.1 a ha).1).1, (g.1 a (h.1 a ha).1).2.trans (h.1 a ha).2⟩, fun k a ha hk => (g.2.1 k a (h.1 a ha).1 hk).trans (h.2.1 k a ha hk), fun k a ha => (g.2.2.1 k a (h.1 a ha).1).trans (h.2.2.1 k a ha), fun k a ha hk => (g.2.2.2.1 k a (h.1 a ha).1 hk).trans (h.2.2.2.1 k a ha hk), fun a ha => ⟨(g.2.2.2.2 a (h.1 a ha).1).1.trans (h.2.2.2.2 a ha).1, (g.2.2.2.2 a (h.1 a ha).1).2.trans (h.2.2.2.2 a ha).2⟩⟩
theorem FvH.is {S S2 : HS} {k a : Nat} (h : FvH S S2) (g : isK S k a) : isK S2 k a := ⟨(h.1 a g.1).1, (h.1 a g.1).2.trans g.2⟩
theorem FvH.tgE {S S2 : HS} {v : Nat} (h : FvH S S2) (hv : isK S 1 v) : tg S2 v = tg S v := by show (S2.P 2 v).getD 0 = (S.P 2 v).getD 0; rw [h.2.2.2.1 2 v hv.1 (by decide)]
theorem FvH.frE {S S2 : HS} {v : Nat} (h : FvH S S2) (hv : isK S 2 v) : fr S2 v = fr S v := by show (S2.P 3 v).getD 0 = (S.P 3 v).getD 0; rw [h.2.2.2.1 3 v hv.1 (by decide)]
theorem FvH.src {S S2 : HS} {v : Nat} (h : FvH S S2) (g : srcOK S v) : srcOK S2 v := ⟨h.is g.1, by rw [h.tgE g.1, h.2.2.2.1 2 v g.1.1 (by decide)]; exact g.2.1, by rw [h.tgE g.1]; exact h.is g.2.2⟩
theorem FvH.stg {S S2 : HS} {v : Nat} (h : FvH S S2) (g : stgOK S v) : stgOK S2 v := ⟨h.is g.1, by rw [h.frE g.1, h.2.2.2.1 3 v g.1.1 (by decide)]; exact g.2.1, by rw [h.frE g.1]; exact h.is g.2.2⟩
theorem FvH.pC {S S2 : HS} (h : FvH S S2) {vs : List Nat} (hv : ∀ v ∈ vs, srcOK S v) : prC S2 vs = prC S vs := by
  unfold prC
  refine List.map_congr_left (fun v h1 => ?_)
  rw [h.tgE (hv v h1).1, h.2.1 8 v (hv v h1).1.1 (by decide)]
theorem FvH.pS {S S2 : HS} (h : FvH S S2) {vs : List Nat} (hv : ∀ v ∈ vs, stgOK S v) : prS S2 vs = prS S vs := by
  unfold prS
  refine List.map_congr_left (fun v h1 => ?_)
  rw [h.frE (hv v h1).1, h.2.1 9 v (hv v h1).1.1 (by decide)]
theorem numb.fv {S S2 : HS} {M : MM} {A : Nat → Nat} {n ran : Nat} (h : numb S M A n ran) (f : FvH S S2) (hA : ∀ i, i < n → A i ∈ S.L) : numb S2 M A n ran := by
  refine ⟨fun i hi => ?_, fun i hi => ?_, h.2.2⟩
  · have g := h.1 i hi
    rw [f.2.1 0 _ (hA i hi) (by decide), f.2.1 1 _ (hA i hi) (by decide), f.2.1 2 _ (hA i hi) (by decide), f.2.1 3 _ (hA i hi) (by decide), f.2.1 6 _ (hA i hi) (by decide)]; exact g
  · have g := h.2.1 i hi
    rw [f.2.1 4 _ (hA i hi) (by decide), f.2.1 5 _ (hA i hi) (by decide)]; exact g
theorem lead.fv {S S2 : HS} {A F T : Nat → Nat} {n st : Nat} (h : lead S A F T n st) (f : FvH S S2) (hA : ∀ i, i < n → A i ∈ S.L) (hst : ∀ s, s < st → F s < n ∧ T s < n) : lead S2 A F T n st := by
  have e : ∀ i, i < n → S2.J 1 (A i) = S.J 1 (A i) := fun i hi => f.2.2.1 1 _ (hA i hi)
  obtain ⟨a1, a2, a3, a4, a5⟩ := h
  refine ⟨fun s hs => by rw [e _ (hst s hs).2]; exact a1 s hs, fun s j hs => by rw [e _ (hst s hs).2, e _ (hst s hs).1]; exact a2 s j hs, fun i j hi hb => ?_, fun i hi => by rw [e i hi]; exact a4 i hi, fun i j k hi hb hc => ?_⟩
  · rw [e i hi] at hb
    obtain ⟨b1, s, b2, b3, b4⟩ := a3 i j hi hb
    exact ⟨b1, s, b2, b3, by rw [e _ (hst s b2).1]; exact b4⟩
  · rw [e i hi] at hb ⊢
    rw [e j (a3 i j hi hb).1] at hc
    exact a5 i j k hi hb hc
theorem scal.fv {S S2 : HS} {M : MM} {x t ha ta cg r rd : Nat} (h : scal S M x t ha ta cg r rd) (f : FvH S S2) : scal S2 M x t ha ta cg r rd := by
  obtain ⟨⟨t1, t2, t3, t4, t5, t6, t7, t8, t9, u1, u9, u3⟩, b2, b3, b4, b5, b6, b7, b8, b9, c1, c2, c3⟩ := h
  have hx := t1.1
  refine ⟨⟨f.is t1, (f.2.2.2.1 8 x hx (by decide)).trans t2, f.is t3, (f.2.2.2.1 4 t t3.1 (by decide)).trans t4, (f.2.2.2.1 5 t t3.1 (by decide)).trans t5, f.is t6, (f.2.2.2.2 ha t6.1).1.trans t7, f.is t8, (f.2.2.2.2 ta t8.1).1.trans t9, (f.2.1 10 t t3.1 (by decide)).trans u1, u9, u3⟩, ⟨f.is b2.1, (f.2.2.2.1 9 x hx (by decide)).trans b2.2.1, f.is b2.2.2.1, (f.2.2.2.2 cg b2.2.2.1.1).1.trans b2.2.2.2.1, (f.2.1 11 x hx (by decide)).trans b2.2.2.2.2.1, b2.2.2.2.2.2⟩, b3, b4, (f.2.1 12 x hx (by decide)).trans b5, (f.2.1 13 x hx (by decide)).trans b6, (f.2.1 14 x hx (by decide)).trans b7, b8, b9, fun k hk => ?_, c2, fun k hk => ?_⟩
  · rw [(f.2.2.2.2 ha t6.1).2, (f.2.2.2.2 ta t8.1).2]; exact c1 k hk
  · rw [(f.2.2.2.2 cg b2.2.2.1.1).2]; exact c3 k hk
/-- the list k0 holds something else now -/
theorem shp.upd {E : Ev} {S S2 : HS} {x n : Nat} {A LA RA : Nat → Nat} {CO : Nat → List Nat} (h : shp E S x n A LA RA CO) {k0 : Nat} (hk0 : k0 < 2 + 2 * n) (hf : Fr S S2 (LA k0) (RA k0)) {r2 : Nat} {vs2 : List Nat} (hAL : isAL E S2 (LA k0) r2 vs2) (hr2 : r2 = RA k0 ∨ r2 ∉ S.L) (hsa : E.sa 0 ∉ S2.L) (hc : ∀ i, i < n → k0 = 2 + 2 * i → ∀ v ∈ vs2, srcOK S2 v) (hg : ∀ i, i < n → k0 = 3 + 2 * i → ∀ v ∈ vs2, stgOK S2 v) : shp E S2 x n A LA (upV RA k0 r2) (upV CO k0 vs2) := by
  have f := hf.fv
  obtain ⟨a1, a2, a3, a4, a5, a6, a7, a8, a9⟩ := h
  have hrow : ∀ k, k < 2 + 2 * n → (RA k = E.sa 0 ∧ CO k = []) ∨ RA k ∈ S.L := fun k hk => by
    rcases (a5 k hk).2.2.2.2 with q | q
    · exact Or.inl q
    · exact Or.inr q.1.1
  have hr : (r2 = E.sa 0 ∧ vs2 = []) ∨ r2 ∈ S2.L := by
    rcases hAL.2.2.2.2 with q | q
    · exact Or.inl q
    · exact Or.inr q.1.1
  refine ⟨f.is a1, (f.2.2.2.1 6 x a1.1 (by decide)).trans a2, (f.2.2.2.1 7 x a1.1 (by decide)).trans a3, fun i hi => ⟨f.is (a4 i hi).1, (f.2.2.2.1 0 _ (a4 i hi).1.1 (by decide)).trans (a4 i hi).2.1, (f.2.2.2.1 1 _ (a4 i hi).1.1 (by decide)).trans (a4 i hi).2.2⟩, fun k hk => ?_, fun k k2 hk hk2 hne => ⟨(a6 k k2 hk hk2 hne).1, ?_⟩, fun i hi => ⟨fun v hv => ?_, fun v hv => ?_⟩, a8, hsa⟩
  · by_cases c : k = k0
    · subst c; rw [upV_s, upV_s]; exact hAL
    · rw [upV_n c, upV_n c]
      obtain ⟨q1, q2⟩ := a6 k k0 hk hk0 c
      exact (a5 k hk).frame hf q1 q2
  · by_cases c : k = k0
    · subst c
      rw [upV_s, upV_s, upV_n (Ne.symm hne)]
      obtain ⟨q1, q2⟩ := a6 k k2 hk hk2 hne
      rcases hr with e | e
      · exact Or.inr e
      · refine Or.inl (fun z => ?_)
        rcases hr2 with e2 | e2
        · rcases q2 with q2 | q2
          · exact q2 (e2.symm.trans z)
          · exact hsa (by rw [← q2.1, ← e2]; exact e)
        · rcases hrow k2 hk2 with q3 | q3
          · exact hsa (by rw [← q3.1, ← z]; exact e)
          · exact e2 (by rw [z]; exact q3)
    · by_cases c2 : k2 = k0
      · subst c2
        rw [upV_s, upV_n c, upV_n c]
        rcases hr2 with e2 | e2
        · rw [e2]; exact (a6 k k2 hk hk2 hne).2
        · rcases hrow k hk with q3 | q3
          · exact Or.inr q3
          · exact Or.inl (fun z => e2 (by rw [← z]; exact q3))
      · rw [upV_n c, upV_n c, upV_n c2]; exact (a6 k k2 hk hk2 hne).2
  · by_cases c : 2 + 2 * i = k0
    · rw [c, upV_s] at hv; exact hc i hi c.symm v hv
    · rw [upV_n c] at hv; exact f.src ((a7 i hi).1 v hv)
  · by_cases c : 3 + 2 * i = k0
    · rw [c, upV_s] at hv; exact hg i hi c.symm v hv
    · rw [upV_n c] at hv; exact f.stg ((a7 i hi).2 v hv)
/-- a net more, with two empty lists -/
theorem shp.grow {E : Ev} {S S2 : HS} {x n : Nat} {A LA RA : Nat → Nat} {CO : Nat → List Nat} (h : shp E S x n A LA RA CO) (hf : ∀ l9 r9, Fr S S2 l9 r9) {q q1 q2 : Nat} (hq : q ∉ S.L) (hq1 : q1 ∉ S.L) (hq2 : q2 ∉ S.L) (hne : q1 ≠ q2) (hA1 : isAL E S2 q1 (E.sa 0) []) (hA2 : isAL E S2 q2 (E.sa 0) []) (hK : isK S2 0 q) (hP0 : S2.P 0 q = some q1) (hP1 : S2.P 1 q = some q2) (hsa : E.sa 0 ∉ S2.L) : shp E S2 x (n + 1) (upV A n q) (upV (upV LA (2 + 2 * n) q1) (3 + 2 * n) q2) (upV (upV RA (2 + 2 * n) (E.sa 0)) (3 + 2 * n) (E.sa 0)) (upV (upV CO (2 + 2 * n) []) (3 + 2 * n) []) := by
  have f := (hf 0 0).fv
  obtain ⟨a1, a2, a3, a4, a5, a6, a7, a8, a9⟩ := h
  have eL : ∀ k, k < 2 + 2 * n → upV (upV LA (2 + 2 * n) q1) (3 + 2 * n) q2 k = LA k := fun k hk => by rw [upV_n (by omega), upV_n (by omega)]
  have eR : ∀ k, k < 2 + 2 * n → upV (upV RA (2 + 2 * n) (E.sa 0)) (3 + 2 * n) (E.sa 0) k = RA k := fun k hk => by rw [upV_n (by omega), upV_n (by omega)]
  have eC : ∀ k, k < 2 + 2 * n → upV (upV CO (2 + 2 * n) []) (3 + 2 * n) [] k = CO k := fun k hk => by rw [upV_n (by omega), upV_n (by omega)]
  have e2L : upV (upV LA (2 + 2 * n) q1) (3 + 2 * n) q2 (2 + 2 * n) = q1 := by rw [upV_n (by omega), upV_s]
  have e2R : upV (upV RA (2 + 2 * n) (E.sa 0)) (3 + 2 * n) (E.sa 0) (2 + 2 * n) = E.sa 0 := by rw [upV_n (by omega), upV_s]
  have e2C : upV (upV CO (2 + 2 * n) []) (3 + 2 * n) [] (2 + 2 * n) = [] := by rw [upV_n (by omega), upV_s]
  have e3L : upV (upV LA (2 + 2 * n) q1) (3 + 2 * n) q2 (3 + 2 * n) = q2 := upV_s
  have e3R : upV (upV RA (2 + 2 * n) (E.sa 0)) (3 + 2 * n) (E.sa 0) (3 + 2 * n) = E.sa 0 := upV_s
  have e3C : upV (upV CO (2 + 2 * n) []) (3 + 2 * n) [] (3 + 2 * n) = [] := upV_s
  have hLm : ∀ k, k < 2 + 2 * n → LA k ∈ S.L := fun k hk => (a5 k hk).1.1
  have hcase : ∀ k, k < 2 + 2 * (n + 1) → k < 2 + 2 * n ∨ k = 2 + 2 * n ∨ k = 3 + 2 * n := fun k hk => by omega
  refine ⟨f.is a1, ?_, ?_, fun i hi => ?_, fun k hk => ?_, fun k k2 hk hk2 hnk => ?_, fun i hi => ?_, fun p z hp hz e => ?_, hsa⟩
  · rw [eL 0 (by omega)]; exact (f.2.2.2.1 6 x a1.1 (by decide)).trans a2
  · rw [eL 1 (by omega)]; exact (f.2.2.2.1 7 x a1.1 (by decide)).trans a3
  · by_cases c : i = n
    · subst c
      rw [upV_s, e2L, e3L]; exact ⟨hK, hP0, hP1⟩
    · have hi2 : i < n := by omega
      rw [upV_n c, eL _ (by omega), eL _ (by omega)]
      exact ⟨f.is (a4 i hi2).1, (f.2.2.2.1 0 _ (a4 i hi2).1.1 (by decide)).trans (a4 i hi2).2.1, (f.2.2.2.1 1 _ (a4 i hi2).1.1 (by decide)).trans (a4 i hi2).2.2⟩
  · rcases hcase k hk with c | c | c
    · rw [eL k c, eR k c, eC k c]; exact (a5 k c).new hf
    · rw [c, e2L, e2R, e2C]; exact hA1
    · rw [c, e3L, e3R, e3C]; exact hA2
  · rcases hcase k hk with c | c | c <;> rcases hcase k2 hk2 with d | d | d
    · rw [eL k c, eR k c, eC k c, eL k2 d, eR k2 d]; exact a6 k k2 c d hnk
    · rw [d, eL k c, eR k c, eC k c, e2L, e2R]
      refine ⟨fun z => hq1 (z ▸ hLm k c), ?_⟩
      rcases (a5 k c).2.2.2.2 with g | g
      · exact Or.inr g
      · exact Or.inl (fun z => a9 (z ▸ g.1.1))
    · rw [d, eL k c, eR k c, eC k c, e3L, e3R]
      refine ⟨fun z => hq2 (z ▸ hLm k c), ?_⟩
      rcases (a5 k c).2.2.2.2 with g | g
      · exact Or.inr g
      · exact Or.inl (fun z => a9 (z ▸ g.1.1))
    · rw [c, eL k2 d, eR k2 d, e2L, e2R, e2C]; exact ⟨fun z => hq1 (z ▸ hLm k2 d), Or.inr ⟨rfl, rfl⟩⟩
    · omega
    · rw [c, d, e2L, e2R, e2C, e3L, e3R]; exact ⟨hne, Or.inr ⟨rfl, rfl⟩⟩
    · rw [c, eL k2 d, eR k2 d, e3L, e3R, e3C]; exact ⟨fun z => hq2 (z ▸ hLm k2 d), Or.inr ⟨rfl, rfl⟩⟩
    · rw [c, d, e2L, e2R, e3C, e3L, e3R]; exact ⟨Ne.symm hne, Or.inr ⟨rfl, rfl⟩⟩
    · omega
  · by_cases c : i = n
    · subst c
      rw [e2C, e3C]; exact ⟨fun v hv => absurd hv List.not_mem_nil, fun v hv => absurd hv List.not_mem_nil⟩
    · have hi2 : i < n := by omega
      rw [eC _ (by omega), eC _ (by omega)]
      exact ⟨fun v hv => f.src ((a7 i hi2).1 v hv), fun v hv => f.stg ((a7 i hi2).2 v hv)⟩
  · by_cases c : p = n <;> by_cases d : z = n
    · omega
    · subst c
      rw [upV_s, upV_n d] at e
      exact absurd (e ▸ (a4 z (by omega)).1.1) hq
    · subst d
      rw [upV_s, upV_n c] at e
      exact absurd (e ▸ (a4 p (by omega)).1.1) hq
    · rw [upV_n c, upV_n d] at e; exact a8 p z (by omega) (by omega) e
/-! ===== lengths ===== -/
theorem csK.len {M : MM} {n i : Nat} {ks : List Nat} (h : csK M n i ks) (hn : n ≤ 40) : ks.length ≤ n := by
  have hp : ks.Perm ((List.range n).filter (fun j => decide (¬ M 5 (40 * i + j) = 0))) := (List.perm_ext_iff_of_nodup (h.nodup hn) (List.nodup_range.filter _)).mpr (fun j => by
    rw [List.mem_filter, List.mem_range, h.1, decide_eq_true_iff])
  rw [hp.length_eq]
  have := List.length_filter_le (fun j => decide (¬ M 5 (40 * i + j) = 0)) (List.range n)
  rw [List.length_range] at this
  exact this
theorem sqL_len {T : Nat → Nat} {q m s : Nat} : (sqL T q m s).length ≤ m := by
  have := List.length_filter_le (fun s => decide (T s = q)) (List.range' s m)
  rw [List.length_range'] at this
  exact this
/-! ===== a source joins ===== -/
theorem jn_ks {E : Ev} {X : va_W} {S S2 : HS} {M M2 : MM} {n i j lc rc : Nat} {A : Nat → Nat} {sh : Int32} {vs ks : List Nat} (hJ : Jn E X S lc rc (A j) sh vs none X S2) (hn : n ≤ 40) (hj : j < n) (hA : ∀ p q, p < n → q < n → A p = A q → p = q) (hK : ∀ p, p < n → isK S 0 (A p)) (h0 : ∀ p, p < n → S.I 0 (A p) = nI p ∧ S.I 3 (A p) = M 4 p) (hv : ∀ v ∈ vs, srcOK S v) (hp : prC S vs = ks.map (fun p => (A p, M 5 (40 * i + p)))) (hk : csK M n i ks) (h5 : ∀ p, p < n → p ≠ j → M2 5 (40 * i + p) = M 5 (40 * i + p)) (h4 : ∀ p, p < n → M2 4 p = M 4 p) (hs : M2 5 (40 * i + j) = sh) (hs0 : ¬ sh = 0) :
    ∃ r2 vs2, isAL E S2 lc r2 vs2 ∧ (r2 = rc ∨ r2 ∉ S.L) ∧ Fr S S2 lc rc ∧ (∀ v ∈ vs2, srcOK S2 v) ∧ prC S2 vs2 = (inK M2 i j (ks.erase j)).map (fun p => (A p, M2 5 (40 * i + p))) ∧ csK M2 n i (inK M2 i j (ks.erase j)) := by
  obtain ⟨-, -, q, r2, hq, hqK, hqP, hqI, hf, hr2, hAL⟩ := hJ
  have f := hf.fv
  have htq : tg S2 q = A j := by show (S2.P 2 q).getD 0 = _; rw [hqP]; rfl
  refine ⟨r2, _, hAL, hr2, hf, fun v h9 => ?_, ?_, csK_in hn hj hk h5 h4 (by rw [hs]; exact hs0)⟩
  · rcases insP_mem S2 q _ h9 with e | h9
    · rw [e]
      refine ⟨hqK, ?_, ?_⟩
      · rw [htq]; exact hqP
      · rw [htq]; exact f.is (hK j hj)
    · exact f.src (hv v (rmv_mem S (A j) vs h9))
  · rw [insP_pr, rmv_pr S S2 (A j) vs (fun v h9 => f.tgE (hv v h9).1), f.pC hv, hp, htq, hqI, rmR_map hA hj ks (fun p hp9 => ((hk.1 p).mp hp9).1)]
    have hmem : ∀ p ∈ ks.erase j, p < n ∧ p ≠ j := fun p hp9 => by
      have := ((hk.nodup hn).mem_erase_iff).mp hp9
      exact ⟨((hk.1 p).mp this.2).1, this.1⟩
    rw [show (ks.erase j).map (fun p => (A p, M 5 (40 * i + p))) = (ks.erase j).map (fun p => (A p, M2 5 (40 * i + p))) from List.map_congr_left (fun p hp9 => by rw [h5 p (hmem p hp9).1 (hmem p hp9).2]), ← hs]
    exact inR2_map (fun p hp9 => ⟨(f.2.1 0 _ (hK p hp9).1 (by decide)).trans (h0 p hp9).1, by rw [f.2.1 3 _ (hK p hp9).1 (by decide), h4 p hp9]; exact (h0 p hp9).2⟩) hj _ (fun p hp9 => (hmem p hp9).1)
