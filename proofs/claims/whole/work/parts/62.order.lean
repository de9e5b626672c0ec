/-! ===== sources in their order, by numbers ===== -/
theorem nI_sc (k : Nat) : nI k + 1 = nI (k + 1) := by show Int32.ofNat k + Int32.ofNat 1 = Int32.ofNat (k + 1); rw [Int32.ofNat_add]
/-- the nets that net i is coupled with, the strongest first -/
def csK (M : MM) (n i : Nat) (ks : List Nat) : Prop := (∀ j, j ∈ ks ↔ j < n ∧ ¬ M 5 (40 * i + j) = 0) ∧ ks.Pairwise (fun p q => stM M i p q = true)
theorem csK.nodup {M : MM} {n i : Nat} {ks : List Nat} (h : csK M n i ks) (hn : n ≤ 40) : ks.Nodup :=
  List.Pairwise.imp_of_mem (fun {p q} hp hq hs e => by
    have h1 := ((h.1 p).mp hp).1
    subst e
    exact stM_as (by omega) (by omega) hs hs) h.2
theorem gL_ks {M : MM} {n i : Nat} {all : Bool} {ks : List Nat} (hn : n ≤ 40) (h : csK M n i ks) : gL M i n all = ks.filter (gp M i all) := by
  refine gL_of (by omega) ⟨(List.perm_ext_iff_of_nodup ((h.nodup hn).filter _) (List.nodup_range.filter _)).mpr (fun j => ?_), h.2.filter _⟩
  rw [List.mem_filter, List.mem_filter, List.mem_range, h.1]
  constructor
  · rintro ⟨⟨a, _⟩, c⟩; exact ⟨a, c⟩
  · rintro ⟨a, c⟩
    refine ⟨⟨a, fun e => ?_⟩, c⟩
    unfold gp isS at c
    rw [e] at c; simp at c
theorem fsum_sK {p : Nat → Bool} {g : Nat → Int32} {p2 : Nat → Bool} {g2 : Nat → Int32} {kp : Int32} : ∀ (vs ks : List Nat) (k : Nat) (s : Int32), vs.map (fun v => (p v, g v)) = ks.map (fun j => (p2 j, g2 j)) → fsum p g kp vs s (nI k) = sK g2 kp (ks.filter p2) k s
  | [], [], _, _, _ => rfl
  | [], z :: ks, _, _, h => by cases h
  | v :: vs, [], _, _, h => by cases h
  | v :: vs, z :: ks, k, s, h => by
    simp only [List.map_cons, List.cons.injEq, Prod.mk.injEq] at h
    obtain ⟨⟨h1, h2⟩, h3⟩ := h
    unfold fsum
    rw [List.filter_cons, h1]
    by_cases c : nI k < kp
    · rw [if_pos c]
      by_cases d : p2 z = true
      · rw [if_pos d, if_pos d]
        unfold sK
        rw [if_neg (Int32.not_le.mpr c), nI_sc, h2]
        exact fsum_sK vs ks (k + 1) _ h3
      · rw [if_neg d, if_neg d]; exact fsum_sK vs ks k s h3
    · rw [if_neg c]
      have c2 := Int32.not_lt.mp c
      have hz : ∀ l : List Nat, s = sK g2 kp l k s := fun l => by
        cases l with
        | nil => rfl
        | cons x l => unfold sK; rw [if_pos c2]
      exact hz _
theorem nsrc_nth {S : HS} {p : Nat → Bool} {p2 : Nat → Bool} {kq : Nat} (hk : kq < 2 ^ 31) : ∀ (vs ks : List Nat) (c : Nat), c ≤ kq → vs.map (fun v => (p v, S.I 0 (tg S v))) = ks.map (fun j => (p2 j, nI j)) → nsrc S p (nI kq) vs (nI c) = nth (ks.filter p2) (kq - c)
  | [], [], _, _, _ => rfl
  | [], z :: ks, _, _, h => by cases h
  | v :: vs, [], _, _, h => by cases h
  | v :: vs, z :: ks, c, hc, h => by
    simp only [List.map_cons, List.cons.injEq, Prod.mk.injEq] at h
    obtain ⟨⟨h1, h2⟩, h3⟩ := h
    unfold nsrc
    rw [List.filter_cons, h1]
    by_cases d : p2 z = true
    · rw [if_pos d, if_pos d]
      have e : nI c = nI kq ↔ c = kq := by
        rw [← Int32.toInt_inj, nI_toInt (by omega), nI_toInt hk]; omega
      by_cases f : c = kq
      · rw [if_pos (e.mpr f), h2, f, Nat.sub_self]; rfl
      · rw [if_neg (fun z => f (e.mp z)), nI_sc, nsrc_nth hk vs ks (c + 1) (by omega) h3]
        have : kq - c = (kq - (c + 1)) + 1 := by omega
        rw [this]; unfold nth; rw [List.getElem?_cons_succ]
    · rw [if_neg d, if_neg d]; exact nsrc_nth hk vs ks c hc h3
/-- a source as the class holds it: its net and its share -/
def prC (S : HS) (vs : List Nat) : List (Nat × Int32) := vs.map (fun v => (tg S v, S.I 8 v))
/-- the source of b goes -/
def rmR (b : Nat) : List (Nat × Int32) → List (Nat × Int32)
  | [] => []
  | v :: vs => if v.1 = b then vs else v :: rmR b vs
theorem plc_sh (S : HS) (b : Nat) : ∀ (vs : List Nat) (i : Nat), plc S b vs i = (plc S b vs 0).map (· + i)
  | [], _ => rfl
  | v :: vs, i => by
    unfold plc
    by_cases c : tg S v = b
    · rw [if_pos c, if_pos c]; simp
    · rw [if_neg c, if_neg c, plc_sh S b vs (i + 1), plc_sh S b vs (0 + 1)]
      cases plc S b vs 0 with
      | none => rfl
      | some k => simp; omega
theorem rmv_pr (S S2 : HS) (b : Nat) : ∀ (vs : List Nat), (∀ v ∈ vs, tg S2 v = tg S v) → prC S2 (rmv S b vs) = rmR b (prC S2 vs)
  | [], _ => rfl
  | v :: vs, h => by
    have h0 := h v List.mem_cons_self
    have ih := rmv_pr S S2 b vs (fun w hw => h w (List.mem_cons_of_mem _ hw))
    show prC S2 (rmv S b (v :: vs)) = (if tg S2 v = b then prC S2 vs else (tg S2 v, S2.I 8 v) :: rmR b (prC S2 vs))
    rw [h0]
    by_cases c : tg S v = b
    · rw [if_pos c]; unfold rmv plc; rw [if_pos c]; rfl
    · rw [if_neg c, ← ih]
      unfold rmv
      have e : plc S b (v :: vs) 0 = (plc S b vs 0).map (· + 1) := by
        show (if tg S v = b then some 0 else plc S b vs (0 + 1)) = _
        rw [if_neg c, plc_sh]
      rw [e]
      cases plc S b vs 0 with
      | none => show prC S2 (v :: vs) = _; unfold prC; rw [List.map_cons, h0]
      | some k => show prC S2 (v :: vs.eraseIdx k) = _; unfold prC; rw [List.map_cons, h0]
theorem rmv_mem (S : HS) (b : Nat) (vs : List Nat) {v : Nat} (h : v ∈ rmv S b vs) : v ∈ vs := by
  unfold rmv at h
  cases e : plc S b vs 0 with
  | none => rw [e] at h; exact h
  | some k => rw [e] at h; exact List.mem_of_mem_eraseIdx h
theorem shr_pr {S : HS} {b : Nat} : ∀ (vs : List Nat), shr S b vs = (((prC S vs).find? (fun p => decide (p.1 = b))).map Prod.snd).getD 0
  | [] => rfl
  | v :: vs => by
    have ih := shr_pr (S := S) (b := b) vs
    show shr S b (v :: vs) = ((((tg S v, S.I 8 v) :: prC S vs).find? (fun p => decide (p.1 = b))).map Prod.snd).getD 0
    unfold shr at ih ⊢
    unfold plc
    by_cases c : tg S v = b
    · rw [if_pos c, List.find?_cons_of_pos (by simpa using c)]; rfl
    · rw [if_neg c, List.find?_cons_of_neg (by simpa using c), ← ih, plc_sh]
      cases plc S b vs 0 with
      | none => rfl
      | some k => simp
/-- how two sources compare, by what they hold -/
def stP (S : HS) (a b : Nat × Int32) : Bool := if a.2 * S.I 3 a.1 = b.2 * S.I 3 b.1 then (if a.2 = b.2 then decide (S.I 0 a.1 < S.I 0 b.1) else decide (b.2 < a.2)) else decide (b.2 * S.I 3 b.1 < a.2 * S.I 3 a.1)
def inR2 (S : HS) (q : Nat × Int32) : List (Nat × Int32) → List (Nat × Int32)
  | [] => [q]
  | v :: vs => if stP S v q = true then v :: inR2 S q vs else q :: v :: vs
theorem posF_sh (S : HS) (q : Nat) : ∀ (vs : List Nat) (i : Nat), posF S q vs i = posF S q vs 0 + i
  | [], i => (Nat.zero_add i).symm
  | v :: vs, i => by
    unfold posF
    by_cases c : stronger S v q = true
    · rw [if_pos c, if_pos c, posF_sh S q vs (i + 1), posF_sh S q vs (0 + 1)]; omega
    · rw [if_neg c, if_neg c]; omega
theorem insP_pr (S : HS) (q : Nat) : ∀ (vs : List Nat), prC S (insP S q vs) = inR2 S (tg S q, S.I 8 q) (prC S vs)
  | [] => rfl
  | v :: vs => by
    have ih := insP_pr S q vs
    show prC S (insP S q (v :: vs)) = (if stP S (tg S v, S.I 8 v) (tg S q, S.I 8 q) = true then (tg S v, S.I 8 v) :: inR2 S (tg S q, S.I 8 q) (prC S vs) else (tg S q, S.I 8 q) :: (tg S v, S.I 8 v) :: prC S vs)
    have e : stP S (tg S v, S.I 8 v) (tg S q, S.I 8 q) = stronger S v q := rfl
    rw [e]
    unfold insP posF
    by_cases c : stronger S v q = true
    · rw [if_pos c, if_pos c, posF_sh, ← ih]
      simp only [Nat.zero_add, List.take_succ_cons, List.drop_succ_cons]; rfl
    · rw [if_neg c, if_neg c]; rfl
theorem insP_mem (S : HS) (q : Nat) (vs : List Nat) {v : Nat} (h : v ∈ insP S q vs) : v = q ∨ v ∈ vs := by
  unfold insP at h
  rcases List.mem_append.mp h with h | h
  · exact Or.inr (List.mem_of_mem_take h)
  · rcases List.mem_cons.mp h with h | h
    · exact Or.inl h
    · exact Or.inr (List.mem_of_mem_drop h)
/-- a number comes in -/
def inK (M : MM) (i j : Nat) : List Nat → List Nat
  | [] => [j]
  | p :: ks => if stM M i p j = true then p :: inK M i j ks else j :: p :: ks
theorem inK_mem {M : MM} {i j p : Nat} : ∀ (ks : List Nat), p ∈ inK M i j ks ↔ p = j ∨ p ∈ ks
  | [] => by simp [inK]
  | z :: ks => by
    unfold inK
    by_cases c : stM M i z j = true
    · rw [if_pos c, List.mem_cons, inK_mem ks, List.mem_cons]
      constructor
      · rintro (h | h | h)
        · exact Or.inr (Or.inl h)
        · exact Or.inl h
        · exact Or.inr (Or.inr h)
      · rintro (h | h | h)
        · exact Or.inr (Or.inl h)
        · exact Or.inl h
        · exact Or.inr (Or.inr h)
    · rw [if_neg c, List.mem_cons]
theorem inK_pw {M : MM} {i j : Nat} (hj : j < 2 ^ 31) : ∀ (ks : List Nat), (∀ p ∈ ks, p < 2 ^ 31 ∧ p ≠ j) → ks.Pairwise (fun p q => stM M i p q = true) → (inK M i j ks).Pairwise (fun p q => stM M i p q = true)
  | [], _, _ => by simp [inK]
  | z :: ks, hk, h => by
    obtain ⟨h1, h2⟩ := List.pairwise_cons.mp h
    have hz := hk z List.mem_cons_self
    unfold inK
    by_cases c : stM M i z j = true
    · rw [if_pos c, List.pairwise_cons]
      refine ⟨fun p hp => ?_, inK_pw hj ks (fun p hp => hk p (List.mem_cons_of_mem _ hp)) h2⟩
      rcases (inK_mem ks).mp hp with e | hp
      · rw [e]; exact c
      · exact h1 p hp
    · rw [if_neg c, List.pairwise_cons]
      have c2 : stM M i j z = true := stM_tot hz.1 hj hz.2 (by simpa using c)
      refine ⟨fun p hp => ?_, h⟩
      rcases List.mem_cons.mp hp with e | hp
      · rw [e]; exact c2
      · exact stM_tr hj hz.1 (hk p (List.mem_cons_of_mem _ hp)).1 c2 (h1 p hp)
theorem csK_in {M M2 : MM} {n i j : Nat} {ks : List Nat} (hn : n ≤ 40) (hj : j < n) (h : csK M n i ks) (h5 : ∀ p, p < n → p ≠ j → M2 5 (40 * i + p) = M 5 (40 * i + p)) (h4 : ∀ p, p < n → M2 4 p = M 4 p) (hs : ¬ M2 5 (40 * i + j) = 0) : csK M2 n i (inK M2 i j (ks.erase j)) := by
  have hm : ∀ p, p ∈ ks.erase j ↔ p ≠ j ∧ p ∈ ks := fun p => (h.nodup hn).mem_erase_iff
  have hst : ∀ p q, p < n → q < n → p ≠ j → q ≠ j → stM M2 i p q = stM M i p q := fun p q hp hq np nq => by
    unfold stM; rw [h5 p hp np, h5 q hq nq, h4 p hp, h4 q hq]
  refine ⟨fun p => ?_, inK_pw (by omega) _ (fun p hp => ?_) ?_⟩
  · rw [inK_mem, hm, h.1]
    constructor
    · rintro (e | ⟨e, a, b⟩)
      · rw [e]; exact ⟨hj, hs⟩
      · exact ⟨a, by rw [h5 p a e]; exact b⟩
    · rintro ⟨a, b⟩
      by_cases e : p = j
      · exact Or.inl e
      · exact Or.inr ⟨e, a, by rw [← h5 p a e]; exact b⟩
  · have := (hm p).mp hp
    have h2 := ((h.1 p).mp this.2).1
    exact ⟨by omega, this.1⟩
  · refine List.Pairwise.imp_of_mem (fun {p q} hp hq hpq => ?_) (h.2.sublist List.erase_sublist)
    have a := (hm p).mp hp
    have b := (hm q).mp hq
    rw [hst p q ((h.1 p).mp a.2).1 ((h.1 q).mp b.2).1 a.1 b.1]; exact hpq
theorem csK_cg {M M2 : MM} {n n2 i : Nat} {ks : List Nat} (h : csK M n i ks) (hn : n ≤ n2) (h5 : ∀ p, p < n → M2 5 (40 * i + p) = M 5 (40 * i + p)) (h4 : ∀ p, p < n → M2 4 p = M 4 p) (h0 : ∀ p, n ≤ p → p < n2 → M2 5 (40 * i + p) = 0) : csK M2 n2 i ks := by
  refine ⟨fun p => ?_, List.Pairwise.imp_of_mem (fun {p q} hp hq hpq => ?_) h.2⟩
  · rw [h.1]
    constructor
    · rintro ⟨a, b⟩; exact ⟨by omega, by rw [h5 p a]; exact b⟩
    · rintro ⟨a, b⟩
      by_cases c : p < n
      · exact ⟨c, by rw [← h5 p c]; exact b⟩
      · exact absurd (h0 p (by omega) a) b
  · have a := ((h.1 p).mp hp).1
    have b := ((h.1 q).mp hq).1
    show stM M2 i p q = true
    unfold stM; rw [h5 p a, h5 q b, h4 p a, h4 q b]; exact hpq
theorem rmR_map {A : Nat → Nat} {f : Nat → Int32} {n j : Nat} (hA : ∀ p q, p < n → q < n → A p = A q → p = q) (hj : j < n) : ∀ (ks : List Nat), (∀ p ∈ ks, p < n) → rmR (A j) (ks.map (fun p => (A p, f p))) = (ks.erase j).map (fun p => (A p, f p))
  | [], _ => rfl
  | p :: ks, h => by
    have hp := h p List.mem_cons_self
    show (if A p = A j then ks.map (fun p => (A p, f p)) else (A p, f p) :: rmR (A j) (ks.map (fun p => (A p, f p)))) = _
    rw [List.erase_cons]
    by_cases c : p = j
    · subst c; simp
    · rw [if_neg (fun e => c (hA p j hp hj e)), if_neg (by simpa using c), rmR_map hA hj ks (fun q hq => h q (List.mem_cons_of_mem _ hq))]; rfl
theorem inR2_map {A : Nat → Nat} {S : HS} {M : MM} {n i j : Nat} (h0 : ∀ p, p < n → S.I 0 (A p) = nI p ∧ S.I 3 (A p) = M 4 p) (hj : j < n) : ∀ (ks : List Nat), (∀ p ∈ ks, p < n) → inR2 S (A j, M 5 (40 * i + j)) (ks.map (fun p => (A p, M 5 (40 * i + p)))) = (inK M i j ks).map (fun p => (A p, M 5 (40 * i + p)))
  | [], _ => rfl
  | p :: ks, h => by
    have hp := h p List.mem_cons_self
    have e : stP S (A p, M 5 (40 * i + p)) (A j, M 5 (40 * i + j)) = stM M i p j := by
      unfold stP stM
      simp only [(h0 p hp).1, (h0 p hp).2, (h0 j hj).1, (h0 j hj).2, Int32.not_le]
    show (if stP S (A p, M 5 (40 * i + p)) (A j, M 5 (40 * i + j)) = true then (A p, M 5 (40 * i + p)) :: inR2 S (A j, M 5 (40 * i + j)) (ks.map (fun p => (A p, M 5 (40 * i + p)))) else (A j, M 5 (40 * i + j)) :: (A p, M 5 (40 * i + p)) :: ks.map (fun p => (A p, M 5 (40 * i + p)))) = _
    rw [e]
    unfold inK
    by_cases c : stM M i p j = true
    · rw [if_pos c, if_pos c, inR2_map h0 hj ks (fun q hq => h q (List.mem_cons_of_mem _ hq))]; rfl
    · rw [if_neg c, if_neg c]; rfl
theorem shr_map {A : Nat → Nat} {f : Nat → Int32} {n j : Nat} (hA : ∀ p q, p < n → q < n → A p = A q → p = q) (hj : j < n) : ∀ (ks : List Nat), (∀ p ∈ ks, p < n) → (((ks.map (fun p => (A p, f p))).find? (fun p => decide (p.1 = A j))).map Prod.snd).getD 0 = if j ∈ ks then f j else 0
  | [], _ => by simp
  | p :: ks, h => by
    have hp := h p List.mem_cons_self
    have ih := shr_map (f := f) hA hj ks (fun q hq => h q (List.mem_cons_of_mem _ hq))
    rw [List.map_cons]
    by_cases c : p = j
    · subst c
      rw [List.find?_cons_of_pos (by simp)]; simp
    · rw [List.find?_cons_of_neg (by simpa using fun e => c (hA p j hp hj e)), ih]
      have : j ∈ p :: ks ↔ j ∈ ks := by rw [List.mem_cons]; exact ⟨fun h => h.resolve_left (fun e => c e.symm), Or.inr⟩
      by_cases d : j ∈ ks
      · rw [if_pos d, if_pos (this.mpr d)]
      · rw [if_neg d, if_neg (fun z => d (this.mp z))]
