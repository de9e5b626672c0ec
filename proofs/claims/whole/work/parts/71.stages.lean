theorem upV_id {V : Type} {f : Nat → V} {k : Nat} : upV f k (f k) = f := by
  funext j
  by_cases c : j = k
  · rw [c, upV_s]
  · rw [upV_n c]
theorem shp.new {E : Ev} {S S2 : HS} {x n : Nat} {A LA RA : Nat → Nat} {CO : Nat → List Nat} (h : shp E S x n A LA RA CO) (hf : ∀ l9 r9, Fr S S2 l9 r9) (hsa : E.sa 0 ∉ S2.L) : shp E S2 x n A LA RA CO := by
  have := h.upd (k0 := 0) (by omega) (hf _ _) ((h.2.2.2.2.1 0 (by omega)).new hf) (Or.inl rfl) hsa (fun i _ e => by omega) (fun i _ e => by omega)
  rwa [upV_id, upV_id] at this
theorem coup.fv {E : Ev} {S S2 : HS} {M : MM} {x n : Nat} {A LA RA : Nat → Nat} {CO CO2 ks : Nat → List Nat} (h : coup S M A CO ks n) (h1 : shp E S x n A LA RA CO) (f : FvH S S2) (hC : ∀ i, i < n → CO2 (2 + 2 * i) = CO (2 + 2 * i)) : coup S2 M A CO2 ks n := by
  refine ⟨fun i hi => ⟨?_, (h.1 i hi).2⟩, h.2.1, fun i j hi hj => ?_⟩
  · rw [hC i hi, f.pC (h1.2.2.2.2.2.2.1 i hi).1]; exact (h.1 i hi).1
  · rw [f.2.2.1 0 _ (h1.2.2.2.1 i hi).1.1]; exact h.2.2 i j hi hj
theorem coup.cg0 {S S1 : HS} {M : MM} {A : Nat → Nat} {CO ks : Nat → List Nat} {n : Nat} (h : coup S M A CO ks n) (hs : Sh S S1) (hJ : ∀ b, S1.J 0 b = S.J 0 b) : coup S1 M A CO ks n :=
  ⟨fun i hi => ⟨(prC_cg hs _).trans (h.1 i hi).1, (h.1 i hi).2⟩, h.2.1, fun i j hi hj => by rw [hJ]; exact h.2.2 i j hi hj⟩
theorem scal.cg {S S1 : HS} {M : MM} {x t ha ta cg r rd : Nat} (h : scal S M x t ha ta cg r rd) (hs : Sh S S1) (hR : S1.R = S.R) (hI : ∀ k, 11 ≤ k → k ≤ 14 → S1.I k x = S.I k x) : scal S1 M x t ha ta cg r rd := by
  obtain ⟨b1, b2, b3, b4, b5, b6, b7, b8, b9, c1, c2, c3⟩ := h
  refine ⟨⟨hs.K b1.1, by rw [hs.2.2.1]; exact b1.2.1, hs.tblO b1.2.2⟩, ⟨hs.K b2.1, by rw [hs.2.2.1]; exact b2.2.1, hs.K b2.2.2.1, by rw [hs.2.2.2.1]; exact b2.2.2.2.1, (hI 11 (by omega) (by omega)).trans b2.2.2.2.2.1, b2.2.2.2.2.2⟩, b3, b4, (hI 12 (by omega) (by omega)).trans b5, (hI 13 (by omega) (by omega)).trans b6, (hI 14 (by omega) (by omega)).trans b7, b8, b9, ?_, c2, ?_⟩
  · rw [hR]; exact c1
  · rw [hR]; exact c3
/-! ===== leaders spread ===== -/
theorem sJ_s {S : HS} {k a : Nat} {v : Int64} : (S.sJ k a v).J k a = v := u2_self
theorem sJ_o {S : HS} {k a k2 b : Nat} {v : Int64} (h : b ≠ a) : (S.sJ k a v).J k2 b = S.J k2 b := u2_ne2 h
theorem sJ_I9 {S : HS} {k a : Nat} {v : Int64} : (S.sJ k a v).I = S.I := rfl
theorem ldL_z {A : Nat → Nat} {n : Nat} (hA : ∀ p q, p < n → q < n → A p = A q → p = q) {g : Int64} {j : Nat} (hj : j < n) (hn : n ≤ 40) : ∀ (m q : Nat) (S : HS), q + m ≤ n → S.I 0 (A j) = nI j → (∀ p, p < n → (ldL g (A j) ((List.range' q m).map A) S).J 1 (A p) = if (q ≤ p ∧ p < q + m) ∧ (p = j ∨ bt (S.J 1 (A p)) j = true) then S.J 1 (A p) ||| g else S.J 1 (A p)) ∧ (∀ b, (ldL g (A j) ((List.range' q m).map A) S).J 0 b = S.J 0 b) ∧ (ldL g (A j) ((List.range' q m).map A) S).I = S.I ∧ (ldL g (A j) ((List.range' q m).map A) S).R = S.R
  | 0, q, S, _, _ => ⟨fun p _ => by rw [if_neg (by omega)]; rfl, fun _ => rfl, rfl, rfl⟩
  | m + 1, q, S, hq, h0 => by
    have hl : ldB S (A q) (A j) = bt (S.J 1 (A q)) j := ldB_bt h0 (by omega)
    have hqj : A q = A j ↔ q = j := ⟨fun e => hA q j (by omega) hj e, fun e => by rw [e]⟩
    rw [List.range'_succ, List.map_cons]
    unfold ldL
    rw [hl]
    by_cases c : A q = A j ∨ bt (S.J 1 (A q)) j = true
    · rw [if_pos c]
      generalize hv : S.J 1 (A q) ||| g = v
      obtain ⟨r1, r2, r3, r4⟩ := ldL_z hA (g := g) hj hn m (q + 1) (S.sJ 1 (A q) v) (by omega) h0
      refine ⟨fun p hp => ?_, fun b => (r2 b).trans (sJ_ne (by decide)), r3, r4⟩
      rw [r1 p hp]
      by_cases e : p = q
      · subst e
        rw [if_neg (by omega), if_pos ⟨by omega, c.imp_left hqj.mp⟩, hv]; exact sJ_s
      · have hne : A p ≠ A q := fun z => e (hA p q hp (by omega) z)
        rw [sJ_o hne]
        by_cases d : (q + 1 ≤ p ∧ p < q + 1 + m) ∧ (p = j ∨ bt (S.J 1 (A p)) j = true)
        · rw [if_pos d, if_pos ⟨by omega, d.2⟩]
        · rw [if_neg d, if_neg (fun z => d ⟨by omega, z.2⟩)]
    · rw [if_neg c]
      obtain ⟨r1, r2, r3, r4⟩ := ldL_z hA (g := g) hj hn m (q + 1) S (by omega) h0
      refine ⟨fun p hp => ?_, r2, r3, r4⟩
      rw [r1 p hp]
      by_cases e : p = q
      · subst e
        rw [if_neg (by omega), if_neg (fun z => c (z.2.imp_left hqj.mpr))]
      · by_cases d : (q + 1 ≤ p ∧ p < q + 1 + m) ∧ (p = j ∨ bt (S.J 1 (A p)) j = true)
        · rw [if_pos d, if_pos ⟨by omega, d.2⟩]
        · rw [if_neg d, if_neg (fun z => d ⟨by omega, z.2⟩)]
/-- leaders, with a stage from i to j more -/
theorem lead_new {S S2 : HS} {A F T : Nat → Nat} {n st i j : Nat} (h : lead S A F T n st) (hst : ∀ s, s < st → F s < n ∧ T s < n) (hi : i < n) (hj : j < n) (hij : i ≠ j) (hno : bt (S.J 1 (A i)) j = false) (hL : ∀ p k, p < n → (bt (S2.J 1 (A p)) k = true ↔ bt (S.J 1 (A p)) k = true ∨ ((p = j ∨ bt (S.J 1 (A p)) j = true) ∧ (bt (S.J 1 (A i)) k = true ∨ k = i)))) : lead S2 A (upV F st i) (upV T st j) n (st + 1) := by
  obtain ⟨a1, a2, a3, a4, a5⟩ := h
  have eF : ∀ s, s < st → upV F st i s = F s := fun s hs => upV_n (by omega)
  have eT : ∀ s, s < st → upV T st j s = T s := fun s hs => upV_n (by omega)
  have hno2 : ¬ bt (S.J 1 (A i)) j = true := by rw [hno]; decide
  refine ⟨fun s hs => ?_, fun s k hs hb => ?_, fun p k hp hb => ?_, fun p hp => ?_, fun p k m hp hb hc => ?_⟩
  · by_cases c : s = st
    · subst c; rw [upV_s, upV_s, hL j i hj]; exact Or.inr ⟨Or.inl rfl, Or.inr rfl⟩
    · rw [eF s (by omega), eT s (by omega), hL _ _ (hst s (by omega)).2]; exact Or.inl (a1 s (by omega))
  · by_cases c : s = st
    · subst c
      rw [upV_s] at hb ⊢
      rw [hL _ _ hi] at hb
      rw [hL _ _ hj]
      rcases hb with hb | ⟨hb, _⟩
      · exact Or.inr ⟨Or.inl rfl, Or.inl hb⟩
      · rcases hb with hb | hb
        · exact absurd hb hij
        · exact absurd hb hno2
    · have hs2 : s < st := by omega
      rw [eF s hs2, hL _ _ (hst s hs2).1] at hb
      rw [eT s hs2, hL _ _ (hst s hs2).2]
      rcases hb with hb | ⟨hb, hd⟩
      · exact Or.inl (a2 s k hs2 hb)
      · refine Or.inr ⟨Or.inr ?_, hd⟩
        rcases hb with hb | hb
        · rw [← hb]; exact a1 s hs2
        · exact a2 s j hs2 hb
  · rw [hL p k hp] at hb
    rcases hb with hb | ⟨hb, hd⟩
    · obtain ⟨b1, s, b2, b3, b4⟩ := a3 p k hp hb
      refine ⟨b1, s, by omega, by rw [eT s b2]; exact b3, ?_⟩
      rw [eF s b2]
      rcases b4 with b4 | b4
      · exact Or.inl b4
      · exact Or.inr ((hL _ _ (hst s b2).1).mpr (Or.inl b4))
    · have hk : k < n := by
        rcases hd with hd | hd
        · exact (a3 i k hi hd).1
        · omega
      rcases hb with hb | hb
      · refine ⟨hk, st, by omega, by rw [upV_s]; exact hb.symm, ?_⟩
        rw [upV_s]
        rcases hd with hd | hd
        · exact Or.inr ((hL _ _ hi).mpr (Or.inl hd))
        · exact Or.inl hd.symm
      · obtain ⟨_, s, b2, b3, b4⟩ := a3 p j hp hb
        refine ⟨hk, s, by omega, by rw [eT s b2]; exact b3, ?_⟩
        rw [eF s b2]
        exact Or.inr ((hL _ _ (hst s b2).1).mpr (Or.inr ⟨b4, hd⟩))
  · cases e : bt (S2.J 1 (A p)) p with
    | false => rfl
    | true =>
      rw [hL p p hp] at e
      rcases e with e | ⟨e1, e2⟩
      · rw [a4 p hp] at e; cases e
      · rcases e1 with e1 | e1 <;> rcases e2 with e2 | e2
        · rw [e1] at e2; exact absurd e2 hno2
        · exact absurd (e2.symm.trans e1) hij
        · exact absurd (a5 i p j hi e2 e1) hno2
        · rw [e2] at e1; exact absurd e1 hno2
  · have hk : k < n := by
      rw [hL p k hp] at hb
      rcases hb with hb | ⟨_, hb | hb⟩
      · exact (a3 p k hp hb).1
      · exact (a3 i k hi hb).1
      · omega
    rw [hL p k hp] at hb
    rw [hL k m hk] at hc
    rw [hL p m hp]
    rcases hb with hb | ⟨hb, hd⟩ <;> rcases hc with hc | ⟨hc, he⟩
    · exact Or.inl (a5 p k m hp hb hc)
    · refine Or.inr ⟨Or.inr ?_, he⟩
      rcases hc with hc | hc
      · rw [← hc]; exact hb
      · exact a5 p k j hp hb hc
    · refine Or.inr ⟨hb, Or.inl ?_⟩
      rcases hd with hd | hd
      · exact a5 i k m hi hd hc
      · rw [← hd]; exact hc
    · exact Or.inr ⟨hb, he⟩
theorem srt_app {c : Nat → Int32} {m1 m2 : List Nat} {a b : Nat} (h : srt c (m1 ++ a :: m2) (m1 ++ a :: m2).length) (hb : b ∈ m2) : c a ≤ c b := by
  obtain ⟨k, hk, e⟩ := List.mem_iff_getElem.mp hb
  have h1 := h m1.length (m1.length + 1 + k) (by omega) (by simp; omega)
  have e1 : (m1 ++ a :: m2).getD m1.length 0 = a := by simp
  have e2 : (m1 ++ a :: m2).getD (m1.length + 1 + k) 0 = b := by
    rw [List.getD_eq_getElem?_getD, List.getElem?_append_right (by omega), show m1.length + 1 + k - m1.length = k + 1 by omega, List.getElem?_cons_succ, List.getElem?_eq_getElem hk, e]; rfl
  rw [e1, e2] at h1
  exact h1
/-- the flow, by the number of leaders, is an order of the stages -/
theorem topo_srt {S : HS} {A F T : Nat → Nat} {n st : Nat} {fk : List Nat} (h : lead S A F T n st) (hst : ∀ s, s < st → F s < n ∧ T s < n) (hm : ∀ q, q ∈ fk ↔ q < n) (hs : srt (fun a => bcnt (S.J 1 a)) (fk.map A) (fk.map A).length) : topo (bef F T st) fk := by
  intro l1 l2 q e p hp
  obtain ⟨s, h1, h2, h3⟩ := hp
  have hpn : p < n := by rw [← h3]; exact (hst s h1).1
  have hqn : q < n := by rw [← h2]; exact (hst s h1).2
  have hlt : bcnt (S.J 1 (A p)) < bcnt (S.J 1 (A q)) := by
    refine bcnt_lt (j := p) (fun k hk => ?_) ?_ (h.2.2.2.1 p hpn)
    · rw [← h2]; rw [← h3] at hk; exact h.2.1 s k h1 hk
    · rw [← h2, ← h3]; exact h.1 s h1
  have hpm := (hm p).mpr hpn
  rw [e] at hpm
  rcases List.mem_append.mp hpm with g | g
  · exact g
  · exfalso
    rcases List.mem_cons.mp g with g | g
    · rw [g] at hlt; exact Int32.lt_irrefl hlt
    · rw [e, List.map_append, List.map_cons] at hs
      have := srt_app hs (b := A p) (List.mem_map.mpr ⟨p, g, rfl⟩)
      exact absurd hlt (Int32.not_lt.mpr this)
theorem sqL_new {T : Nat → Nat} {st j p : Nat} : sqL (upV T st j) p (st + 1) 0 = sqL T p st 0 ++ (if j = p then [st] else []) := by
  have e : List.range' 0 (st + 1) = List.range' 0 st ++ [st] := by
    rw [← List.range_eq_range', ← List.range_eq_range', List.range_succ]
  unfold sqL
  rw [e, List.filter_append]
  congr 1
  · refine List.filter_congr (fun s hs => ?_)
    rw [upV_n (by have := List.mem_range'_1.mp hs; omega)]
  · by_cases c : j = p
    · rw [if_pos c, List.filter_cons_of_pos (by rw [upV_s]; simpa using c)]; rfl
    · rw [if_neg c, List.filter_cons_of_neg (by rw [upV_s]; simpa using c)]; rfl
