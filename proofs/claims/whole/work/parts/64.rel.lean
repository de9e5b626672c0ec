/-! ===== bits ===== -/
theorem bv_bt : ∀ j, j < 40 → (1 : Int64) <<< ((nI j).toInt64 &&& 63) = Int64.ofBitVec (BitVec.twoPow 64 j) := by decide +kernel
theorem bt_bv {S : HS} {b j : Nat} (h : S.I 0 b = nI j) (hj : j < 40) (k : Nat) : bt (bv S b) k = decide (k = j) := by
  unfold bv
  rw [h, bv_bt j hj]
  show (BitVec.twoPow 64 j).getLsbD k = _
  rw [BitVec.getLsbD_twoPow]
  by_cases c : j = k
  · subst c; simp; omega
  · simp [c, Ne.symm c]
theorem and_bt {S : HS} {b j : Nat} (h : S.I 0 b = nI j) (hj : j < 40) (x : Int64) : decide (¬ x &&& bv S b = 0) = bt x j := by
  cases e : bt x j with
  | false =>
    rw [decide_eq_false_iff_not, Classical.not_not]
    apply Int64.toBitVec_inj.mp
    apply BitVec.eq_of_getLsbD_eq
    intro k hk
    rw [Int64.toBitVec_and, BitVec.getLsbD_and]
    show (bt x k && bt (bv S b) k) = bt 0 k
    rw [bt_bv h hj, bt_0]
    by_cases c : k = j
    · rw [c, e]; rfl
    · rw [decide_eq_false c, Bool.and_false]
  | true =>
    rw [decide_eq_true_iff]
    intro z
    have h1 : bt (x &&& bv S b) j = bt 0 j := by rw [z]
    have h2 : bt (x &&& bv S b) j = (bt x j && bt (bv S b) j) := by
      show (x &&& bv S b).toBitVec.getLsbD j = _
      rw [Int64.toBitVec_and, BitVec.getLsbD_and]; rfl
    rw [h2, e, bt_bv h hj, bt_0] at h1
    simp at h1
theorem exB_bt {S : HS} {a b j : Nat} (h : S.I 0 b = nI j) (hj : j < 40) : exB S a b = bt (S.J 0 a) j := and_bt h hj _
theorem ldB_bt {S : HS} {a b j : Nat} (h : S.I 0 b = nI j) (hj : j < 40) : ldB S a b = bt (S.J 1 a) j := and_bt h hj _
/-! ===== the class and the reference side by side ===== -/
/-- how the class's things lie: the lists are 0 the nets, 1 the flow, 2 + 2 i and 3 + 2 i those of net i -/
def shp (E : Ev) (S : HS) (x n : Nat) (A LA RA : Nat → Nat) (CO : Nat → List Nat) : Prop :=
  isK S 4 x ∧ S.P 6 x = some (LA 0) ∧ S.P 7 x = some (LA 1) ∧
  (∀ i, i < n → isK S 0 (A i) ∧ S.P 0 (A i) = some (LA (2 + 2 * i)) ∧ S.P 1 (A i) = some (LA (3 + 2 * i))) ∧
  (∀ k, k < 2 + 2 * n → isAL E S (LA k) (RA k) (CO k)) ∧
  (∀ k k2, k < 2 + 2 * n → k2 < 2 + 2 * n → k ≠ k2 → LA k ≠ LA k2 ∧ (RA k ≠ RA k2 ∨ (RA k = E.sa 0 ∧ CO k = []))) ∧
  (∀ i, i < n → (∀ v ∈ CO (2 + 2 * i), srcOK S v) ∧ ∀ v ∈ CO (3 + 2 * i), stgOK S v) ∧
  (∀ p q, p < n → q < n → A p = A q → p = q) ∧ E.sa 0 ∉ S.L
/-- who leads to whom -/
def lead (S : HS) (A F T : Nat → Nat) (n st : Nat) : Prop :=
  (∀ s, s < st → bt (S.J 1 (A (T s))) (F s) = true) ∧
  (∀ s j, s < st → bt (S.J 1 (A (F s))) j = true → bt (S.J 1 (A (T s))) j = true) ∧
  (∀ i j, i < n → bt (S.J 1 (A i)) j = true → j < n ∧ ∃ s, s < st ∧ T s = i ∧ (F s = j ∨ bt (S.J 1 (A (F s))) j = true)) ∧
  (∀ i, i < n → bt (S.J 1 (A i)) i = false) ∧
  (∀ i j k, i < n → bt (S.J 1 (A i)) j = true → bt (S.J 1 (A j)) k = true → bt (S.J 1 (A i)) k = true)
/-- the nets' numbers -/
def numb (S : HS) (M : MM) (A : Nat → Nat) (n ran : Nat) : Prop :=
  (∀ i, i < n → S.I 0 (A i) = nI i ∧ S.I 1 (A i) = M 2 i ∧ S.I 2 (A i) = M 3 i ∧ S.I 3 (A i) = M 4 i ∧ S.I 6 (A i) = M 20 i) ∧
  (∀ i, i < n → S.I 4 (A i) = (if i < ran then M 21 i else -1) ∧ S.I 5 (A i) = (if i < ran then M 22 i else -1)) ∧
  M 1 0 = nI n ∧ n ≤ 40 ∧ M 17 0 = nI ran ∧ ran ≤ n
/-- couples and excluded pairs -/
def coup (S : HS) (M : MM) (A : Nat → Nat) (CO ks : Nat → List Nat) (n : Nat) : Prop :=
  (∀ i, i < n → prC S (CO (2 + 2 * i)) = (ks i).map (fun j => (A j, M 5 (40 * i + j))) ∧ csK M n i (ks i)) ∧
  (∀ i j, i < 40 → j < 40 → (n ≤ i ∨ n ≤ j) → M 5 (40 * i + j) = 0 ∧ M 6 (40 * i + j) = 0) ∧
  (∀ i j, i < n → j < 40 → bt (S.J 0 (A i)) j = decide (¬ M 6 (40 * i + j) = 0))
/-- stages -/
def stag (S : HS) (M : MM) (A F T : Nat → Nat) (CO : Nat → List Nat) (fk : List Nat) (x n st : Nat) : Prop :=
  stgs M n st F T ∧ (∀ i, i < n → prS S (CO (3 + 2 * i)) = (sqL T i st 0).map (fun s => (A (F s), M 12 s))) ∧ S.I 15 x = nI st ∧
  lead S A F T n st ∧ topo (bef F T st) fk ∧ fk.Perm (List.range n) ∧ CO 0 = (List.range n).map A ∧ CO 1 = fk.map A
/-- counts, the table, the changes -/
def scal (S : HS) (M : MM) (x t ha ta cg r rd : Nat) : Prop :=
  crT S x t ha ta r ∧ crC S x cg rd ∧ cg ≠ ha ∧ cg ≠ ta ∧ S.I 12 x = M 13 0 ∧ S.I 13 x = M 7 0 ∧ S.I 14 x = M 8 0 ∧ (∃ cc, cc ≤ 120 ∧ M 7 0 = nI cc) ∧
  M 14 0 = nI r ∧ (∀ k, k < r → S.R ha k = M 15 k ∧ S.R ta k = M 16 k) ∧ M 18 0 = nI rd ∧ (∀ k, k < rd → S.R cg k = M 19 k)
/-- ranges -/
def bnds (M : MM) (n st : Nat) : Prop :=
  (∀ i, i < n → 0 ≤ (M 2 i).toInt ∧ 0 ≤ (M 3 i).toInt ∧ (M 3 i).toInt ≤ 1000000 ∧ 0 ≤ (M 4 i).toInt ∧ (M 4 i).toInt ≤ 10000) ∧
  (∀ i j, i < n → j < n → 0 ≤ (M 5 (40 * i + j)).toInt ∧ (M 5 (40 * i + j)).toInt ≤ 1000) ∧
  (∀ s, s < st → 0 ≤ (M 12 s).toInt ∧ (M 12 s).toInt ≤ 100000) ∧ 1 ≤ (M 13 0).toInt ∧ (M 13 0).toInt ≤ 8
def Rel (E : Ev) (S : HS) (M : MM) (x : Nat) : Prop := ∃ (n st r rd ran t ha ta cg : Nat) (A LA RA F T : Nat → Nat) (CO ks : Nat → List Nat) (fk : List Nat),
  shp E S x n A LA RA CO ∧ numb S M A n ran ∧ coup S M A CO ks n ∧ stag S M A F T CO fk x n st ∧ scal S M x t ha ta cg r rd ∧ bnds M n st
/-- the reference's scratch rows don't matter -/
theorem Rel.mcg {E : Ev} {S : HS} {M M2 : MM} {x : Nat} (h : Rel E S M x) (hM : ∀ k, [0, 23, 24, 25, 26].contains k = false → M2 k = M k) : Rel E S M2 x := by
  obtain ⟨n, st, r, rd, ran, t, ha, ta, cg, A, LA, RA, F, T, CO, ks, fk, h1, h2, h3, h4, h5, h6⟩ := h
  refine ⟨n, st, r, rd, ran, t, ha, ta, cg, A, LA, RA, F, T, CO, ks, fk, h1, ?_, ⟨fun i hi => ⟨?_, csK_cg (h3.1 i hi).2 (Nat.le_refl _) (fun p _ => by rw [hM 5 rfl]) (fun p _ => by rw [hM 4 rfl]) (fun p hp hp2 => absurd hp (by omega))⟩, ?_, ?_⟩, ⟨stgs_cg (hM 9 rfl) (hM 10 rfl) (hM 11 rfl) h4.1, ?_, h4.2.2⟩, ?_, ?_⟩
  · unfold numb; rw [hM 1 rfl, hM 2 rfl, hM 3 rfl, hM 4 rfl, hM 17 rfl, hM 20 rfl, hM 21 rfl, hM 22 rfl]; exact h2
  · rw [hM 5 rfl]; exact (h3.1 i hi).1
  · rw [hM 5 rfl, hM 6 rfl]; exact h3.2.1
  · rw [hM 6 rfl]; exact h3.2.2
  · rw [hM 12 rfl]; exact h4.2.1
  · unfold scal; rw [hM 13 rfl, hM 7 rfl, hM 8 rfl, hM 14 rfl, hM 15 rfl, hM 16 rfl, hM 18 rfl, hM 19 rfl]; exact h5
  · unfold bnds; rw [hM 2 rfl, hM 3 rfl, hM 4 rfl, hM 5 rfl, hM 12 rfl, hM 13 rfl]; exact h6
theorem Rel.code {E : Ev} {S : HS} {M M2 : MM} {x : Nat} {v : Int32} (h : Rel E S M x) (e : u2 M 0 0 v = M2) : Rel E S M2 x := h.mcg (fun k hk => by
  rw [← e]; funext j; exact u2_ne1 (fun z => by rw [z] at hk; cases hk))
/-! ===== sums ===== -/
theorem prC_cg {S S1 : HS} (h : Sh S S1) (vs : List Nat) : prC S1 vs = prC S vs := by
  unfold prC
  refine List.map_congr_left (fun v _ => ?_)
  rw [h.tgE, h.2.2.2.2.2.2.2.2.2.1]
/-- the statics of sums: what the sources of net i are -/
def sums (S : HS) (M : MM) (A : Nat → Nat) (vs ks : Nat → List Nat) (n : Nat) : Prop := n ≤ 40 ∧ ∀ i, i < n → S.I 0 (A i) = nI i ∧ S.I 3 (A i) = M 4 i ∧ prC S (vs (A i)) = (ks i).map (fun j => (A j, M 5 (40 * i + j))) ∧ csK M n i (ks i) ∧ ∀ j, j < n → bt (S.J 0 (A i)) j = decide (¬ M 6 (40 * i + j) = 0) ∧ 0 ≤ (M 5 (40 * i + j)).toInt
theorem sums_sh {S S1 : HS} {M : MM} {A : Nat → Nat} {vs ks : Nat → List Nat} {n : Nat} (h : sums S M A vs ks n) (hs : Sh S S1) (hJ : S1.J = S.J) : sums S1 M A vs ks n := by
  refine ⟨h.1, fun i hi => ?_⟩
  obtain ⟨a, b, c, d, e⟩ := h.2 i hi
  exact ⟨by rw [hs.2.2.2.2.2.1]; exact a, by rw [hs.2.2.2.2.2.2.2.2.1]; exact b, (prC_cg hs _).trans c, d, by rw [hJ]; exact e⟩
theorem map_of_prC {S : HS} {α : Type} {A : Nat → Nat} {f : Nat → Int32} {vs ks : List Nat} (h : prC S vs = ks.map (fun j => (A j, f j))) (g : Nat × Int32 → α) : vs.map (fun v => g (tg S v, S.I 8 v)) = ks.map (fun j => g (A j, f j)) := by
  have := congrArg (List.map g) h
  unfold prC at this
  rw [List.map_map, List.map_map] at this
  exact this
theorem isS_ex {M : MM} {i j : Nat} (h0 : ¬ M 5 (40 * i + j) = 0) (hp : 0 ≤ (M 5 (40 * i + j)).toInt) : isS M i j = decide (M 6 (40 * i + j) = 0) := by
  unfold isS
  have : ¬ M 5 (40 * i + j) ≤ 0 := fun z => by
    rw [Int32.le_iff_toInt_le, Int32.toInt_zero] at z
    exact h0 (Int32.toInt_inj.mp (by rw [Int32.toInt_zero]; omega))
  rw [decide_eq_true this, Bool.true_and]
theorem ks_filter {S : HS} {M : MM} {A : Nat → Nat} {vs ks : Nat → List Nat} {n : Nat} (h : sums S M A vs ks n) {i : Nat} (hi : i < n) (M2 : MM) (h5 : M2 5 = M 5) (h6 : M2 6 = M 6) (all : Bool) (ob : Nat → Bool) (ho : ∀ j, j < n → ob j = (all || (decide (¬ M2 22 i < M2 21 j) && decide (¬ M2 22 j < M2 21 i)))) : (ks i).filter (fun j => !exB S (A i) (A j) && ob j) = (ks i).filter (gp M2 i all) := by
  obtain ⟨a, b, c, d, e⟩ := h.2 i hi
  refine List.filter_congr (fun j hj => ?_)
  have hj2 := (d.1 j).mp hj
  obtain ⟨e1, e2⟩ := e j hj2.1
  rw [exB_bt (h.2 j hj2.1).1 (by have := h.1; omega), e1, ho j hj2.1]
  unfold gp
  rw [isS_ex (by rw [h5]; exact hj2.2) (by rw [h5]; exact e2), h6]
  congr 1
  by_cases z : M 6 (40 * i + j) = 0 <;> simp [z]
theorem SDa_m {S : HS} {M : MM} {A : Nat → Nat} {vs ks : Nat → List Nat} {n : Nat} (h : sums S M A vs ks n) {i : Nat} (hi : i < n) {mo : Bool} (M2 : MM) (h4 : M2 4 = M 4) (h5 : M2 5 = M 5) (h6 : M2 6 = M 6) {kp : Int32} (h13 : M2 13 0 = kp) (hm : mo = true → ∀ j, j < n → S.I 4 (A j) = M2 21 j ∧ S.I 5 (A j) = M2 22 j) : SDa S (A i) kp (vs (A i)) mo = mSum M2 i n (!mo) := by
  obtain ⟨a, b, c, d, e⟩ := h.2 i hi
  have d2 : csK M2 n i (ks i) := csK_cg d (Nat.le_refl _) (fun p _ => by rw [h5]) (fun p _ => by rw [h4]) (fun p hp hp2 => absurd hp (by omega))
  unfold SDa mSum
  rw [gL_ks h.1 d2, h13]
  rw [← ks_filter h hi M2 h5 h6 (!mo) (fun j => !mo || meB S (A i) (A j)) (fun j hj => ?_)]
  · have hm2 := map_of_prC c (fun p => ((!exB S (A i) p.1 && (!mo || meB S (A i) p.1)), p.2 * S.I 3 p.1 / 1000))
    refine (fsum_sK (vs (A i)) (ks i) 0 0 (hm2.trans ?_))
    refine List.map_congr_left (fun j hj => ?_)
    have hj2 := (d.1 j).mp hj
    show (_, M 5 (40 * i + j) * S.I 3 (A j) / 1000) = (_, M2 5 (40 * i + j) * M2 4 j / 1000)
    rw [h4, h5, (h.2 j hj2.1).2.1]
  · cases mo with
    | false => rfl
    | true =>
      obtain ⟨m1, m2⟩ := hm rfl i hi
      obtain ⟨m3, m4⟩ := hm rfl j hj
      show (false || meB S (A i) (A j)) = (false || _)
      unfold meB
      rw [m1, m2, m3, m4]
      simp only [Int32.not_lt, Bool.false_or]
      exact Bool.and_comm _ _
theorem hgt_m {S : HS} {M : MM} {A : Nat → Nat} {vs ks : Nat → List Nat} {n : Nat} (h : sums S M A vs ks n) {i : Nat} (hi : i < n) {kp : Int32} (h13 : M 13 0 = kp) : hgt S (A i) kp (vs (A i)) = mHgt M i n := by
  obtain ⟨a, b, c, d, e⟩ := h.2 i hi
  unfold hgt mHgt
  rw [gL_ks h.1 d, h13, ← ks_filter h hi M rfl rfl true (fun _ => true) (fun j hj => rfl)]
  have hm2 := map_of_prC c (fun p => (!exB S (A i) p.1 && true, p.2))
  have e9 : (fun v => !exB S (A i) (tg S v)) = (fun v => !exB S (A i) (tg S v) && true) := by funext v; rw [Bool.and_true]
  rw [e9]
  exact fsum_sK (vs (A i)) (ks i) 0 0 hm2
theorem nsrc_m {S : HS} {M : MM} {A : Nat → Nat} {vs ks : Nat → List Nat} {n : Nat} (h : sums S M A vs ks n) {i : Nat} (hi : i < n) {kq : Nat} (hk : kq < 2 ^ 31) : nsrc S (fun v => !exB S (A i) (tg S v)) (nI kq) (vs (A i)) 0 = nth (gL M i n true) kq := by
  obtain ⟨a, b, c, d, e⟩ := h.2 i hi
  rw [gL_ks h.1 d, ← ks_filter h hi M rfl rfl true (fun _ => true) (fun j hj => rfl)]
  have hm2 := map_of_prC c (fun p => (!exB S (A i) p.1 && true, S.I 0 p.1))
  have e9 : (fun v => !exB S (A i) (tg S v)) = (fun v => !exB S (A i) (tg S v) && true) := by funext v; rw [Bool.and_true]
  rw [e9]
  refine nsrc_nth hk (vs (A i)) (ks i) 0 (Nat.zero_le _) (hm2.trans (List.map_congr_left (fun j hj => ?_)))
  have hj2 := (d.1 j).mp hj
  show (_, S.I 0 (A j)) = (_, nI j)
  rw [(h.2 j hj2.1).1]
