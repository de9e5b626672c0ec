theorem mcs {M M2 : MM} {A F T : Nat → Nat} {n st : Nat} {CO ks : Nat → List Nat} {S : HS} (h3 : coup S M A CO ks n) (h5 : M2 5 = M 5) (h6 : M2 6 = M 6) (h4 : M2 4 = M 4) : coup S M2 A CO ks n := by
  refine ⟨fun i hi => ⟨by rw [h5]; exact (h3.1 i hi).1, csK_cg (h3.1 i hi).2 (Nat.le_refl _) (fun p _ => by rw [h5]) (fun p _ => by rw [h4]) (fun p hp hp2 => absurd hp (by omega))⟩, by rw [h5, h6]; exact h3.2.1, by rw [h6]; exact h3.2.2⟩
theorem numb.m {M M2 : MM} {S : HS} {A : Nat → Nat} {n ran : Nat} (h2 : numb S M A n ran) (hk : ∀ k, [1, 2, 3, 4, 17, 20, 21, 22].contains k = true → M2 k = M k) : numb S M2 A n ran := by
  unfold numb; rw [hk 1 rfl, hk 2 rfl, hk 3 rfl, hk 4 rfl, hk 17 rfl, hk 20 rfl, hk 21 rfl, hk 22 rfl]; exact h2
theorem scal.m {M M2 : MM} {S : HS} {x t ha ta cg r rd : Nat} (h5 : scal S M x t ha ta cg r rd) (hk : ∀ k, [7, 8, 13, 14, 15, 16, 18, 19].contains k = true → M2 k = M k) : scal S M2 x t ha ta cg r rd := by
  unfold scal; rw [hk 13 rfl, hk 7 rfl, hk 8 rfl, hk 14 rfl, hk 15 rfl, hk 16 rfl, hk 18 rfl, hk 19 rfl]; exact h5
theorem stag.m {M M2 : MM} {S : HS} {A F T : Nat → Nat} {CO : Nat → List Nat} {fk : List Nat} {x n st : Nat} (h4 : stag S M A F T CO fk x n st) (hk : ∀ k, [9, 10, 11, 12].contains k = true → M2 k = M k) : stag S M2 A F T CO fk x n st :=
  ⟨stgs_cg (hk 9 rfl) (hk 10 rfl) (hk 11 rfl) h4.1, by rw [hk 12 rfl]; exact h4.2.1, h4.2.2⟩
theorem sJ_ne {S : HS} {k a k2 b : Nat} {v : Int64} (h : k2 ≠ k) : (S.sJ k a v).J k2 b = S.J k2 b := u2_ne1 h
theorem ex3 {S : HS} {x a b : Nat} {v : Int64} {w : Int64 → Int64} {z : Int32} (h : a ≠ b) : (((S.sJ 0 a v).sJ 0 b (w ((S.sJ 0 a v).J 0 b))).sI 14 x z).J 0 a = v ∧ (((S.sJ 0 a v).sJ 0 b (w ((S.sJ 0 a v).J 0 b))).sI 14 x z).J 0 b = w (S.J 0 b) ∧ (∀ c, c ≠ a → c ≠ b → (((S.sJ 0 a v).sJ 0 b (w ((S.sJ 0 a v).J 0 b))).sI 14 x z).J 0 c = S.J 0 c) ∧ ∀ c, (((S.sJ 0 a v).sJ 0 b (w ((S.sJ 0 a v).J 0 b))).sI 14 x z).J 1 c = S.J 1 c := by
  have e : (S.sJ 0 a v).J 0 b = S.J 0 b := u2_ne2 (Ne.symm h)
  rw [e]
  generalize w (S.J 0 b) = y
  exact ⟨(u2_ne2 (f := (S.sJ 0 a v).J) h).trans u2_self, u2_self (f := (S.sJ 0 a v).J), fun c n1 n2 => (u2_ne2 (f := (S.sJ 0 a v).J) n2).trans (u2_ne2 n1), fun c => (sJ_ne (S := S.sJ 0 a v) (show (1 : Nat) ≠ 0 by decide)).trans (sJ_ne (show (1 : Nat) ≠ 0 by decide))⟩
theorem exc_J {S : HS} {x a b : Nat} (h : a ≠ b) : (excS S x a b).J 0 a = S.J 0 a ||| bv S b ∧ (excS S x a b).J 0 b = S.J 0 b ||| bv S a ∧ (∀ c, c ≠ a → c ≠ b → (excS S x a b).J 0 c = S.J 0 c) ∧ ∀ c, (excS S x a b).J 1 c = S.J 1 c := ex3 (S := S) (x := x) (v := S.J 0 a ||| bv S b) (w := fun y => y ||| bv S a) (z := S.I 14 x + 1) h
theorem exc_I {S : HS} {x a b k c : Nat} (h : k ≠ 14) : (excS S x a b).I k c = S.I k c := sI_ne (S := (S.sJ 0 a (S.J 0 a ||| bv S b)).sJ 0 b ((S.sJ 0 a (S.J 0 a ||| bv S b)).J 0 b ||| bv S a)) h
theorem exc_I14 {S : HS} {x a b : Nat} : (excS S x a b).I 14 x = S.I 14 x + 1 := sI_s (S := (S.sJ 0 a (S.J 0 a ||| bv S b)).sJ 0 b ((S.sJ 0 a (S.J 0 a ||| bv S b)).J 0 b ||| bv S a))
theorem exc_R {S : HS} {x a b : Nat} : (excS S x a b).R = S.R := rfl
theorem d_exclude {l : Launch} (hlt : l.stackTraces = false) {E : Ev} {x o : Nat} {a : Nat → Nat} {S : HS} {M : MM} (hR : Rel E S M x) (u w : Int32) : Duo l E x o a S M yX4_exclude (Cond.code yX4_exclude cX4_exclude 5 (some .boolean)) 5 0 0 yX5_exclude (Cond.code yX5_exclude cX5_exclude 3 (some .boolean)) 2 [.int u, .int w] [(xIO, 1), (xIA, 2)] := by
  have hR0 := hR
  obtain ⟨n, st, r, rd, ran, t, ha, ta, cg, A, LA, RA, F, T, CO, ks, fk, h1, h2, h3, h4, h5, h6⟩ := hR
  have hO := h1.O h4.2.2.2.2.2.2.1
  have h40 := h2.2.2.2.1
  have hA := h1.2.2.2.2.2.2.2.1
  rcases num_split n (by omega) u with ⟨i, hi, e⟩ | hv
  · subst e
    rcases num_split n (by omega) w with ⟨j, hj, e⟩ | hv
    · subst e
      by_cases hij : i = j
      · refine Or.inr ⟨xIA, 2, by simp, by decide, fun X => c_excludeT3 l hlt E X S hO (i := i) (j := j) (by rw [nsL]; exact hi) (by rw [nsL]; exact hj) hij, _, fun Y S9 => c_mexcludeB2 l E o a M Y S9 h2.2.2.1 h40 hi hj hij, ?_⟩
        rintro v2 M2 ⟨rfl, e2⟩
        exact ⟨⟨_, rfl⟩, by rw [← e2]; exact u2_self, hR0.code e2⟩
      · have hx : exB S (A i) (A j) = decide (¬ M 6 (40 * i + j) = 0) := by rw [exB_bt (h2.1 j hj).1 (by omega)]; exact h3.2.2 i j hi (by omega)
        refine Or.inl ⟨_, fun X => c_exclude l E X S hO (i := i) (j := j) (by rw [nsL]; exact hi) (by rw [nsL]; exact hj) hij, ?_⟩
        simp only [nsA]
        rintro X v9 X2 S2 ⟨rfl, ⟨k1, rfl, rfl⟩ | ⟨k1, rfl, rfl⟩⟩
        · refine ⟨rfl, _, rfl, fun _ => ⟨_, fun Y S9 => c_mexclude l E o a M Y S9 h2.2.2.1 h40 hi hj hij, ?_⟩⟩
          rintro v2 M2 (⟨q1, rfl, e2⟩ | ⟨q1, rfl, e2⟩)
          · exact ⟨rfl, by rw [← e2]; exact u2_self, hR0.code e2⟩
          · rw [hx, decide_eq_true_iff] at k1; exact absurd q1 k1
        · refine ⟨rfl, _, rfl, fun _ => ⟨_, fun Y S9 => c_mexclude l E o a M Y S9 h2.2.2.1 h40 hi hj hij, ?_⟩⟩
          rintro v2 M2 (⟨q1, rfl, e2⟩ | ⟨q1, rfl, e2⟩)
          · rw [hx, decide_eq_false_iff_not, Classical.not_not] at k1; exact absurd k1 q1
          · have hk : ∀ k, k ≠ 0 → k ≠ 6 → k ≠ 8 → M2 k = M k := fun k a0 a6 a8 => by rw [← e2]; funext z; unfold mexcS; rw [u2_ne1 a8, u2_ne1 a6, u2_ne1 a6, u2_ne1 a0]
            have k8 : M2 8 0 = M 8 0 + 1 := by rw [← e2]; exact u2_self
            have k6 : ∀ z, M2 6 z = if z = 40 * j + i then 1 else if z = 40 * i + j then 1 else M 6 z := fun z => by
              rw [← e2]; unfold mexcS
              rw [u2_ne1 (by decide)]
              by_cases c : z = 40 * j + i
              · rw [if_pos c, c]; exact u2_self
              · rw [if_neg c, u2_ne2 c]
                by_cases d : z = 40 * i + j
                · rw [if_pos d, d]; exact u2_self
                · rw [if_neg d, u2_ne2 d, u2_ne1 (by decide)]
            have hs : Sh S (excS S x (A i) (A j)) := (Sh.rf.sJ.sJ).sI rfl
            have hAij : A i ≠ A j := fun z => hij (hA i j hi hj z)
            obtain ⟨hJi, hJj, hJo0, hJ1⟩ := exc_J (S := S) (x := x) hAij
            have hJo : ∀ p, p < n → p ≠ i → p ≠ j → (excS S x (A i) (A j)).J 0 (A p) = S.J 0 (A p) := fun p hp n1 n2 => hJo0 _ (fun z => n1 (hA p i hp hi z)) (fun z => n2 (hA p j hp hj z))
            have hI9 : ∀ k b, k ≠ 14 → (excS S x (A i) (A j)).I k b = S.I k b := fun k b hk => exc_I hk
            have hI14 : (excS S x (A i) (A j)).I 14 x = S.I 14 x + 1 := exc_I14
            have hR9 : (excS S x (A i) (A j)).R = S.R := exc_R
            have hK9 : ∀ k b, isK S k b → isK (excS S x (A i) (A j)) k b := fun k b h => hs.K h
            have hP9 : (excS S x (A i) (A j)).P = S.P := hs.2.2.1
            have hN9 : (excS S x (A i) (A j)).N = S.N := hs.2.2.2.1
            generalize excS S x (A i) (A j) = S2 at *
            refine ⟨rfl, ?_, n, st, r, rd, ran, t, ha, ta, cg, A, LA, RA, F, T, CO, ks, fk, h1.sh hs, ?_, ⟨fun p hp => ⟨?_, csK_cg (h3.1 p hp).2 (Nat.le_refl _) (fun q _ => by rw [hk 5 (by decide) (by decide) (by decide)]) (fun q _ => by rw [hk 4 (by decide) (by decide) (by decide)]) (fun q hq hq2 => absurd hq (by omega))⟩, fun p q hp hq hpq => ?_, fun p q hp hq => ?_⟩, ?_, ?_, ?_⟩
            · rw [← e2]; unfold mexcS
              rw [u2_ne1 (by decide), u2_ne1 (by decide), u2_ne1 (by decide)]; exact u2_self
            · exact (numb.cg (S := S) h2 (fun k hk => funext fun b => hI9 k b (by omega))).m (fun k h9 => hk k (fun z => by rw [z] at h9; cases h9) (fun z => by rw [z] at h9; cases h9) (fun z => by rw [z] at h9; cases h9))
            · rw [hk 5 (by decide) (by decide) (by decide)]; exact (prC_cg hs _).trans (h3.1 p hp).1
            · obtain ⟨g1, g2⟩ := h3.2.1 p q hp hq hpq
              rw [hk 5 (by decide) (by decide) (by decide), k6, if_neg (by omega), if_neg (by omega)]; exact ⟨g1, g2⟩
            · rw [k6]
              by_cases c1 : p = i
              · subst c1
                rw [hJi, bt_or, h3.2.2 p q hp hq, bt_bv (h2.1 j hj).1 (by omega), if_neg (by omega)]
                by_cases c2 : q = j
                · rw [if_pos (by rw [c2]), decide_eq_true c2]; simp
                · rw [if_neg (by omega), decide_eq_false c2, Bool.or_false]
              · by_cases c3 : p = j
                · subst c3
                  rw [hJj, bt_or, h3.2.2 p q hp hq, bt_bv (h2.1 i hi).1 (by omega)]
                  by_cases c2 : q = i
                  · rw [if_pos (by rw [c2]), decide_eq_true c2]; simp
                  · rw [if_neg (by omega), if_neg (by omega), decide_eq_false c2, Bool.or_false]
                · rw [hJo p hp c1 c3, if_neg (by omega), if_neg (by omega)]; exact h3.2.2 p q hp hq
            · refine stag.m (M := M) ⟨h4.1, fun p hp => (prS_sh hs _).trans (h4.2.1 p hp), (hI9 15 x (by decide)).trans h4.2.2.1, ?_, h4.2.2.2.2⟩ (fun k h9 => hk k (fun z => by rw [z] at h9; cases h9) (fun z => by rw [z] at h9; cases h9) (fun z => by rw [z] at h9; cases h9))
              unfold lead; simp only [hJ1]; exact h4.2.2.2.1
            · obtain ⟨b1, b2, b3, b4, b5, b6, b7, b8, b9, c1, c2, c3⟩ := h5
              refine ⟨⟨hs.K b1.1, by rw [hP9]; exact b1.2.1, hs.tblO b1.2.2⟩, ⟨hs.K b2.1, by rw [hP9]; exact b2.2.1, hs.K b2.2.2.1, by rw [hN9]; exact b2.2.2.2.1, (hI9 11 x (by decide)).trans b2.2.2.2.2.1, b2.2.2.2.2.2⟩, b3, b4, ?_, ?_, ?_, ?_, ?_, ?_, ?_, ?_⟩
              · rw [hk 13 (by decide) (by decide) (by decide)]; exact (hI9 12 x (by decide)).trans b5
              · rw [hk 7 (by decide) (by decide) (by decide)]; exact (hI9 13 x (by decide)).trans b6
              · rw [k8, ← b7]; exact hI14
              · rw [hk 7 (by decide) (by decide) (by decide)]; exact b8
              · rw [hk 14 (by decide) (by decide) (by decide)]; exact b9
              · rw [hk 15 (by decide) (by decide) (by decide), hk 16 (by decide) (by decide) (by decide), hR9]; exact c1
              · rw [hk 18 (by decide) (by decide) (by decide)]; exact c2
              · rw [hk 19 (by decide) (by decide) (by decide), hR9]; exact c3
            · unfold bnds
              rw [hk 2 (by decide) (by decide) (by decide), hk 3 (by decide) (by decide) (by decide), hk 4 (by decide) (by decide) (by decide), hk 5 (by decide) (by decide) (by decide), hk 12 (by decide) (by decide) (by decide), hk 13 (by decide) (by decide) (by decide)]; exact h6
    · refine Or.inr ⟨xIO, 1, by simp, by decide, fun X => c_excludeT2 l hlt E X S hO (i := i) (by rw [nsL]; exact hi) (by rw [nsL]; exact hv), _, fun Y S9 => c_mexcludeB1 l E o a M Y S9 (Or.inr (isn_f h2.2.2.1 hv)), ?_⟩
      rintro v2 M2 ⟨rfl, e2⟩
      exact ⟨⟨_, rfl⟩, by rw [← e2]; exact u2_self, hR0.code e2⟩
  · refine Or.inr ⟨xIO, 1, by simp, by decide, fun X => c_excludeT1 l hlt E X S hO (by rw [nsL]; exact hv), _, fun Y S9 => c_mexcludeB1 l E o a M Y S9 (Or.inl (isn_f h2.2.2.1 hv)), ?_⟩
    rintro v2 M2 ⟨rfl, e2⟩
    exact ⟨⟨_, rfl⟩, by rw [← e2]; exact u2_self, hR0.code e2⟩
theorem topo_snoc {F T : Nat → Nat} {st n : Nat} {fk : List Nat} (h : topo (bef F T st) fk) (hT : ∀ s, s < st → T s < n) : topo (bef F T st) (fk ++ [n]) := by
  intro l1 l2 q e p hp
  rcases List.eq_nil_or_concat l2 with e2 | ⟨l3, z, e2⟩
  · subst e2
    have e3 := List.append_inj' e rfl
    obtain ⟨s, hs, hq, _⟩ := hp
    have : q = n := by simpa using e3.2.symm
    have := hT s hs
    omega
  · rw [List.concat_eq_append] at e2
    subst e2
    have e4 : fk ++ [n] = (l1 ++ q :: l3) ++ [z] := by rw [e]; simp
    have e3 := (List.append_inj' e4 rfl).1
    exact h l1 l3 q e3 p hp
theorem i32b {v lo hi : Int32} (h : wi v lo hi = true) : lo.toInt ≤ v.toInt ∧ v.toInt ≤ hi.toInt := wi_b h
theorem d_net {l : Launch} (hlt : l.stackTraces = false) {E : Ev} {x o : Nat} {a : Nat → Nat} {S : HS} {M : MM} (hR : Rel E S M x) (e0 la sl : Int32) : Duo l E x o a S M yX4_net (Cond.code yX4_net cX4_net 5 (some .int)) 7 5 318 yX5_net (Cond.code yX5_net cX5_net 4 (some .int)) 2 [.int e0, .int la, .int sl] [(xIA, 1), (xIS, 2)] := by
  have hR0 := hR
  obtain ⟨n, st, r, rd, ran, t, ha, ta, cg, A, LA, RA, F, T, CO, ks, fk, h1, h2, h3, h4, h5, h6⟩ := hR
  have hO := h1.O h4.2.2.2.2.2.2.1
  have hfk : ∀ q, q ∈ fk ↔ q < n := fun q => by rw [h4.2.2.2.2.2.1.mem_iff, List.mem_range]
  have hF := h1.Fl h4.2.2.2.2.2.2.2 (fun q hq => (hfk q).mp hq)
  have hfl : fk.length = n := by rw [h4.2.2.2.2.2.1.length_eq, List.length_range]
  have h40 := h2.2.2.2.1
  have hA := h1.2.2.2.2.2.2.2.1
  have bad : ∀ (g : wi e0 0 1000000 = false ∨ wi la e0 1000000 = false ∨ wi sl 0 10000 = false), (∀ X, CtrT l yX4_net (Cond.code yX4_net cX4_net 5 (some .int)) 7 1 6 E [.ref x, .int e0, .int la, .int sl] X S xIA) → Duo l E x o a S M yX4_net (Cond.code yX4_net cX4_net 5 (some .int)) 7 5 318 yX5_net (Cond.code yX5_net cX5_net 4 (some .int)) 2 [.int e0, .int la, .int sl] [(xIA, 1), (xIS, 2)] := by
    intro g hc
    refine Or.inr ⟨xIA, 1, by simp, by decide, hc, _, fun Y S9 => c_mnetB l E o a M Y S9 g, ?_⟩
    rintro v2 M2 ⟨rfl, e2⟩
    exact ⟨⟨_, rfl⟩, by rw [← e2]; exact u2_self, hR0.code e2⟩
  have z0 : (0 : Int32).toInt = 0 := rfl
  have z1 : (1000000 : Int32).toInt = 1000000 := by decide
  have z2 : (10000 : Int32).toInt = 10000 := by decide
  rcases wi_cs la 0 1000000 with ⟨w1, a1, a2⟩ | ⟨w1, g⟩
  · rcases wi_cs e0 0 la with ⟨w2, b1, b2⟩ | ⟨w2, g⟩
    · have v1 := wi_b w1
      have v2 := wi_b w2
      have t1 : wi e0 0 1000000 = true := wi_iff.mpr ⟨b1, by rw [Int32.le_iff_toInt_le, z1]; omega⟩
      have t2 : wi la e0 1000000 = true := wi_iff.mpr ⟨Int32.not_lt.mpr b2, a2⟩
      rcases wi_cs sl 0 10000 with ⟨w3, g1, g2⟩ | ⟨w3, g⟩
      · have v3 := wi_b w3
        by_cases hn : n < 40
        · refine Or.inl ⟨_, fun X => c_net l E X S hO a1 a2 b1 b2 g1 g2 (by rw [nsL]; exact hn) hF (by rw [List.length_map]; omega) (h1.2.2.2.2.2.1 1 0 (by omega) (by omega) (by omega)).1 (by rw [← h4.2.2.2.2.2.2.2]; exact (h1.2.2.2.2.2.1 1 0 (by omega) (by omega) (by omega)).2), ?_⟩
          rintro X v9 X2 S2 ⟨rfl, q, S1, S3, hq, ⟨-, -, q1, q2, hq1, hq2, hq12, iA1, iA2, iK, iP0, iP1, iJ0, iJ1, i4, i5, i6, i7, i0, i1, i2, i3, iF⟩, ⟨-, -, r2, L1, L2, L3⟩, ⟨-, -, r3, L4, L5, L6⟩, rfl⟩
          refine ⟨rfl, _, rfl, fun hsa => ⟨_, fun Y S9 => c_mnet l E o a M Y S9 h2.2.2.1 hn t1 t2 w3, ?_⟩⟩
          rintro v2 M2 ⟨rfl, e2⟩
          have f1 := fun l9 r9 => iF.fr hq l9 r9
          have fv1 : FvH S S1 := (f1 0 0).fv
          have fv2 : FvH S1 S2 := L2.fv.trans L5.fv
          have fv := fv1.trans fv2
          have hsa3 : E.sa 0 ∉ S3.L := fun z => hsa (L5.mem z)
          have hsa1 : E.sa 0 ∉ S1.L := fun z => hsa3 (L2.mem z)
          have hq1' : q1 ∉ S.L := fun z => hq1 (List.mem_append_left _ z)
          have hq2' : q2 ∉ S.L := fun z => hq2 (List.mem_append_left _ z)
          have s1 := h1.grow f1 hq hq1' hq2' hq12 iA1 iA2 iK iP0 iP1 hsa1
          have s2 := s1.upd (k0 := 0) (by omega) (by rw [upV_n (by omega), upV_n (by omega), upV_n (by omega), upV_n (by omega)]; exact L2) (by rw [upV_n (by omega), upV_n (by omega)]; exact L1) (by rw [upV_n (by omega), upV_n (by omega)]; exact L3) hsa3 (fun i _ e => by omega) (fun i _ e => by omega)
          have s3 := s2.upd (k0 := 1) (by omega) (by rw [upV_n (by omega), upV_n (by omega), upV_n (by omega), upV_n (by omega), upV_n (by omega)]; exact L5) (by rw [upV_n (by omega), upV_n (by omega)]; exact L4) (by rw [upV_n (by omega), upV_n (by omega), upV_n (by omega)]; exact L6) hsa (fun i _ e => by omega) (fun i _ e => by omega)
          have hAm : ∀ i, i < n → A i ∈ S.L := fun i hi => (h1.2.2.2.1 i hi).1.1
          have eA : ∀ i, i < n → upV A n q i = A i := fun i hi => upV_n (by omega)
          have eM : ∀ k, k ≠ 0 → k ≠ 1 → k ≠ 2 → k ≠ 3 → k ≠ 4 → k ≠ 20 → M2 k = M k := fun k k0 k1 k2 k3 k4 k5 => by rw [← e2]; funext z; unfold mnetS; rw [u2_ne1 k1, u2_ne1 k5, u2_ne1 k4, u2_ne1 k3, u2_ne1 k2, u2_ne1 k0]
          have m1 : M2 1 0 = nI (n + 1) := by rw [← e2, ← nI_sc]; exact u2_self
          have m2 : ∀ z, M2 2 z = if z = n then e0 else M 2 z := fun z => by
            rw [← e2]; unfold mnetS
            rw [u2_ne1 (by decide), u2_ne1 (by decide), u2_ne1 (by decide), u2_ne1 (by decide)]
            by_cases c : z = n
            · rw [if_pos c, c]; exact u2_self
            · rw [if_neg c, u2_ne2 c, u2_ne1 (by decide)]
          have m3 : ∀ z, M2 3 z = if z = n then la else M 3 z := fun z => by
            rw [← e2]; unfold mnetS
            rw [u2_ne1 (by decide), u2_ne1 (by decide), u2_ne1 (by decide)]
            by_cases c : z = n
            · rw [if_pos c, c]; exact u2_self
            · rw [if_neg c, u2_ne2 c, u2_ne1 (by decide), u2_ne1 (by decide)]
          have m4 : ∀ z, M2 4 z = if z = n then sl else M 4 z := fun z => by
            rw [← e2]; unfold mnetS
            rw [u2_ne1 (by decide), u2_ne1 (by decide)]
            by_cases c : z = n
            · rw [if_pos c, c]; exact u2_self
            · rw [if_neg c, u2_ne2 c, u2_ne1 (by decide), u2_ne1 (by decide), u2_ne1 (by decide)]
          have m20 : ∀ z, M2 20 z = if z = n then 0 else M 20 z := fun z => by
            rw [← e2]; unfold mnetS
            rw [u2_ne1 (by decide)]
            by_cases c : z = n
            · rw [if_pos c, c]; exact u2_self
            · rw [if_neg c, u2_ne2 c, u2_ne1 (by decide), u2_ne1 (by decide), u2_ne1 (by decide), u2_ne1 (by decide)]
          have e5 := eM 5 (by decide) (by decide) (by decide) (by decide) (by decide) (by decide)
          have e6 := eM 6 (by decide) (by decide) (by decide) (by decide) (by decide) (by decide)
          have hst := h4.1.2.2
          have hCO : ∀ i, i < n → upV (upV (upV (upV CO (2 + 2 * n) []) (3 + 2 * n) []) 0 ((List.range n).map A ++ [q])) 1 (fk.map A ++ [q]) (2 + 2 * i) = CO (2 + 2 * i) ∧ upV (upV (upV (upV CO (2 + 2 * n) []) (3 + 2 * n) []) 0 ((List.range n).map A ++ [q])) 1 (fk.map A ++ [q]) (3 + 2 * i) = CO (3 + 2 * i) := fun i hi => ⟨by rw [upV_n (by omega), upV_n (by omega), upV_n (by omega), upV_n (by omega)], by rw [upV_n (by omega), upV_n (by omega), upV_n (by omega), upV_n (by omega)]⟩
          have hCn : upV (upV (upV (upV CO (2 + 2 * n) []) (3 + 2 * n) []) 0 ((List.range n).map A ++ [q])) 1 (fk.map A ++ [q]) (2 + 2 * n) = [] ∧ upV (upV (upV (upV CO (2 + 2 * n) []) (3 + 2 * n) []) 0 ((List.range n).map A ++ [q])) 1 (fk.map A ++ [q]) (3 + 2 * n) = [] := ⟨by rw [upV_n (by omega), upV_n (by omega), upV_n (by omega), upV_s], by rw [upV_n (by omega), upV_n (by omega), upV_s]⟩
          have hnum := h2.fv fv hAm
          have hlead := h4.2.2.2.1.fv fv hAm (fun s hs => ⟨(hst s hs).2.1, (hst s hs).2.2.2⟩)
          have hJq : S2.J 0 q = 0 ∧ S2.J 1 q = 0 := ⟨(fv2.2.2.1 0 q iK.1).trans iJ0, (fv2.2.2.1 1 q iK.1).trans iJ1⟩
          have hIq : ∀ k, k ≤ 15 → S2.I k q = S1.I k q := fun k hk => fv2.2.1 k q iK.1 hk
          refine ⟨?_, ?_, n + 1, st, r, rd, ran, t, ha, ta, cg, _, _, _, F, T, _, upV ks n [], fk ++ [n], s3, ?_, ?_, ?_, ?_, ?_⟩
          · rw [hIq 0 (by decide), i0, nsL, nI_sc, ← nI_sc, Int32.add_sub_cancel]
          · rw [← e2]; unfold mnetS
            rw [u2_ne1 (by decide), u2_ne1 (by decide), u2_ne1 (by decide), u2_ne1 (by decide), u2_ne1 (by decide)]; exact u2_self
          · refine ⟨fun i hi => ?_, fun i hi => ?_, m1, by omega, by rw [eM 17 (by decide) (by decide) (by decide) (by decide) (by decide) (by decide)]; exact h2.2.2.2.2.1, by have := h2.2.2.2.2.2; omega⟩
            · rw [m2, m3, m4, m20]
              by_cases c : i = n
              · subst c
                rw [upV_s, if_pos rfl, if_pos rfl, if_pos rfl, if_pos rfl, hIq 0 (by decide), hIq 1 (by decide), hIq 2 (by decide), hIq 3 (by decide), hIq 6 (by decide)]
                exact ⟨by rw [i0, nsL], i1, i2, i3, i6⟩
              · rw [upV_n c, if_neg c, if_neg c, if_neg c, if_neg c]; exact hnum.1 i (by omega)
            · rw [eM 21 (by decide) (by decide) (by decide) (by decide) (by decide) (by decide), eM 22 (by decide) (by decide) (by decide) (by decide) (by decide) (by decide)]
              by_cases c : i = n
              · subst c
                have := h2.2.2.2.2.2
                rw [upV_s, if_neg (by omega), if_neg (by omega), hIq 4 (by decide), hIq 5 (by decide)]; exact ⟨i4, i5⟩
              · rw [upV_n c]; exact hnum.2.1 i (by omega)
          · refine ⟨fun i hi => ?_, fun i j hi hj hij => ?_, fun i j hi hj => ?_⟩
            · rw [e5]
              by_cases c : i = n
              · subst c
                rw [hCn.1, upV_s]
                exact ⟨rfl, fun j => ⟨fun z => absurd z List.not_mem_nil, fun z => absurd (by rw [e5]; exact (h3.2.1 i j (by omega) (by omega) (Or.inl (Nat.le_refl _))).1) z.2⟩, List.Pairwise.nil⟩
              · have hi2 : i < n := by omega
                rw [(hCO i hi2).1, upV_n c]
                refine ⟨?_, csK_cg (h3.1 i hi2).2 (by omega) (fun p _ => by rw [e5]) (fun p hp => by rw [m4, if_neg (by omega)]) (fun p hp hp2 => by rw [e5]; exact (h3.2.1 i p (by omega) (by omega) (Or.inr hp)).1)⟩
                rw [fv.pC (h1.2.2.2.2.2.2.1 i hi2).1, (h3.1 i hi2).1]
                refine List.map_congr_left (fun j hj => ?_)
                rw [eA j (((h3.1 i hi2).2.1 j).mp hj).1]
            · rw [e5, e6]; exact h3.2.1 i j hi hj (by omega)
            · rw [e6]
              by_cases c : i = n
              · subst c
                rw [upV_s, hJq.1, bt_0, (h3.2.1 i j (by omega) hj (Or.inl (Nat.le_refl _))).2]; simp
              · rw [upV_n c, fv.2.2.1 0 _ (hAm i (by omega))]; exact h3.2.2 i j (by omega) hj
          · refine ⟨?_, fun i hi => ?_, (fv.2.1 15 x h1.1.1 (by decide)).trans h4.2.2.1, ?_, topo_snoc h4.2.2.2.2.1 (fun s hs => (hst s hs).2.2.2), ?_, ?_, ?_⟩
            · refine stgs_cg (M := M) (eM 9 (by decide) (by decide) (by decide) (by decide) (by decide) (by decide)) (eM 10 (by decide) (by decide) (by decide) (by decide) (by decide) (by decide)) (eM 11 (by decide) (by decide) (by decide) (by decide) (by decide) (by decide)) ⟨h4.1.1, h4.1.2.1, fun s hs => ?_⟩
              obtain ⟨y1, y2, y3, y4⟩ := hst s hs
              exact ⟨y1, by omega, y3, by omega⟩
            · rw [eM 12 (by decide) (by decide) (by decide) (by decide) (by decide) (by decide)]
              by_cases c : i = n
              · subst c
                rw [hCn.2]
                have : sqL T i st 0 = [] := List.eq_nil_iff_forall_not_mem.mpr (fun z hz => by
                  have hz2 := sqL_mem.mp hz
                  have := (hst z (by omega)).2.2.2
                  omega)
                rw [this]; rfl
              · have hi2 : i < n := by omega
                rw [(hCO i hi2).2, fv.pS (h1.2.2.2.2.2.2.1 i hi2).2, h4.2.1 i hi2]
                refine List.map_congr_left (fun s hs => ?_)
                have hz2 := sqL_mem.mp hs
                rw [eA (F s) (hst s (by omega)).2.1]
            · obtain ⟨y1, y2, y3, y4, y5⟩ := hlead
              refine ⟨fun s hs => ?_, fun s j hs => ?_, fun i j hi hb => ?_, fun i hi => ?_, fun i j k hi hb hc => ?_⟩
              · rw [eA _ (hst s hs).2.2.2]; exact y1 s hs
              · rw [eA _ (hst s hs).2.2.2, eA _ (hst s hs).2.1]; exact y2 s j hs
              · by_cases c : i = n
                · subst c; rw [upV_s, hJq.2, bt_0] at hb; cases hb
                · rw [upV_n c] at hb
                  obtain ⟨k1, s, k2, k3, k4⟩ := y3 i j (by omega) hb
                  exact ⟨by omega, s, k2, k3, by rw [eA _ (hst s k2).2.1]; exact k4⟩
              · by_cases c : i = n
                · subst c; rw [upV_s, hJq.2, bt_0]
                · rw [upV_n c]; exact y4 i (by omega)
              · by_cases c : i = n
                · subst c; rw [upV_s, hJq.2, bt_0] at hb; cases hb
                · rw [upV_n c] at hb ⊢
                  have hjn := (y3 i j (by omega) hb).1
                  rw [eA j hjn] at hc
                  exact y5 i j k (by omega) hb hc
            · rw [List.range_succ]; exact h4.2.2.2.2.2.1.append_right [n]
            · rw [upV_n (by omega), upV_s, List.range_succ, List.map_append, List.map_singleton, upV_s]
              refine congrArg (· ++ [q]) (List.map_congr_left (fun i hi => (eA i (List.mem_range.mp hi)).symm))
            · rw [upV_s, List.map_append, List.map_singleton, upV_s]
              refine congrArg (· ++ [q]) (List.map_congr_left (fun i hi => (eA i ((hfk i).mp hi)).symm))
          · refine (h5.fv fv).m (fun k h9 => eM k ?_ ?_ ?_ ?_ ?_ ?_) <;> (intro z; rw [z] at h9; cases h9)
          · refine ⟨fun i hi => ?_, fun i j hi hj => ?_, ?_, ?_⟩
            · rw [m2, m3, m4]
              by_cases c : i = n
              · rw [if_pos c, if_pos c, if_pos c]; omega
              · rw [if_neg c, if_neg c, if_neg c]; exact h6.1 i (by omega)
            · rw [e5]
              by_cases c : i < n ∧ j < n
              · exact h6.2.1 i j c.1 c.2
              · rw [(h3.2.1 i j (by omega) (by omega) (by omega)).1]; decide
            · rw [eM 12 (by decide) (by decide) (by decide) (by decide) (by decide) (by decide)]; exact h6.2.2.1
            · rw [eM 13 (by decide) (by decide) (by decide) (by decide) (by decide) (by decide)]; exact h6.2.2.2
        · refine Or.inr ⟨xIS, 2, by simp, by decide, fun X => c_netT4 l hlt E X S hO a1 a2 b1 b2 g1 g2 (by rw [nsL]; omega), _, fun Y S9 => c_mnetF l E o a M Y S9 t1 t2 w3 (by rw [h2.2.2.1, show n = 40 by omega]; rfl), ?_⟩
          rintro v2 M2 ⟨rfl, e2⟩
          exact ⟨⟨_, rfl⟩, by rw [← e2]; exact u2_self, hR0.code e2⟩
      · exact bad (Or.inr (Or.inr w3)) (fun X => c_netT3 l hlt E X S hO a1 a2 b1 b2 g)
    · refine bad ?_ (fun X => c_netT2 l hlt E X S hO a1 a2 g)
      rcases g with g | g
      · refine Or.inl ?_
        unfold wi; simp [g]
      · refine Or.inr (Or.inl ?_)
        have := Int32.not_le.mp g
        unfold wi; simp [this]
  · refine bad ?_ (fun X => c_netT1 l hlt E X S hO g)
    rcases g with g | g
    · by_cases c : e0 < 0
      · refine Or.inl ?_
        unfold wi; simp [c]
      · refine Or.inr (Or.inl ?_)
        have : la < e0 := by
          rw [Int32.lt_iff_toInt_lt] at g c ⊢
          omega
        unfold wi; simp [this]
    · refine Or.inr (Or.inl ?_)
      have := Int32.not_le.mp g
      unfold wi; simp [this]
