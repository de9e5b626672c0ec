theorem shr_ks {S : HS} {M : MM} {A : Nat → Nat} {n i j : Nat} {vs ks : List Nat} (hA : ∀ p q, p < n → q < n → A p = A q → p = q) (hj : j < n) (hp : prC S vs = ks.map (fun p => (A p, M 5 (40 * i + p)))) (hk : csK M n i ks) : shr S (A j) vs = M 5 (40 * i + j) := by
  rw [shr_pr, hp, shr_map hA hj ks (fun p hp9 => ((hk.1 p).mp hp9).1)]
  by_cases c : j ∈ ks
  · rw [if_pos c]
  · rw [if_neg c]
    apply Classical.byContradiction
    intro z
    exact c ((hk.1 j).mpr ⟨hj, fun e => z e.symm⟩)
theorem cpS_eq {S : HS} {x b : Nat} {vs : List Nat} : cpS S x b vs = S.sI 13 x (if shr S b vs = 0 then S.I 13 x + 1 else S.I 13 x) ∨ cpS S x b vs = S := by
  unfold cpS
  by_cases c : shr S b vs = 0
  · rw [if_pos c, if_pos c]; exact Or.inl rfl
  · rw [if_neg c]; exact Or.inr rfl
theorem cpS_sh {S : HS} {x b : Nat} {vs : List Nat} : Sh S (cpS S x b vs) ∧ (cpS S x b vs).J = S.J ∧ (cpS S x b vs).R = S.R ∧ (∀ k c, k ≠ 13 → (cpS S x b vs).I k c = S.I k c) ∧ (cpS S x b vs).I 13 x = S.I 13 x + (if shr S b vs = 0 then 1 else 0) := by
  unfold cpS
  by_cases c : shr S b vs = 0
  · rw [if_pos c, if_pos c]; exact ⟨Sh.rf.sI rfl, rfl, rfl, fun k c hk => sI_ne hk, sI_s⟩
  · rw [if_neg c, if_neg c, Int32.add_zero]; exact ⟨Sh.rf, rfl, rfl, fun k c hk => rfl, rfl⟩
theorem stag.fv {E : Ev} {S S2 : HS} {M : MM} {A F T LA RA : Nat → Nat} {CO CO2 : Nat → List Nat} {fk : List Nat} {x n st : Nat} (h : stag S M A F T CO fk x n st) (h1 : shp E S x n A LA RA CO) (f : FvH S S2) (hC : ∀ i, i < n → CO2 (3 + 2 * i) = CO (3 + 2 * i)) (h0 : CO2 0 = CO 0) (h9 : CO2 1 = CO 1) : stag S2 M A F T CO2 fk x n st := by
  refine ⟨h.1, fun i hi => ?_, (f.2.1 15 x h1.1.1 (by decide)).trans h.2.2.1, h.2.2.2.1.fv f (fun i hi => (h1.2.2.2.1 i hi).1.1) (fun s hs => ⟨(h.1.2.2 s hs).2.1, (h.1.2.2 s hs).2.2.2⟩), h.2.2.2.2.1, h.2.2.2.2.2.1, h0.trans h.2.2.2.2.2.2.1, h9.trans h.2.2.2.2.2.2.2⟩
  rw [hC i hi, f.pS (h1.2.2.2.2.2.2.1 i hi).2]; exact h.2.1 i hi
theorem d_couple {l : Launch} (hlt : l.stackTraces = false) {E : Ev} {x o : Nat} {a : Nat → Nat} {S : HS} {M : MM} (hR : Rel E S M x) (u w sh : Int32) : Duo l E x o a S M yX4_couple (Cond.code yX4_couple cX4_couple 7 (some .int)) 8 4 304 yX5_couple (Cond.code yX5_couple cX5_couple 5 (some .int)) 2 [.int u, .int w, .int sh] [(xIO, 1), (xIA, 2), (xIS, 3)] := by
  have hR0 := hR
  obtain ⟨n, st, r, rd, ran, t, ha, ta, cg, A, LA, RA, F, T, CO, ks, fk, h1, h2, h3, h4, h5, h6⟩ := hR
  have hO := h1.O h4.2.2.2.2.2.2.1
  have h40 := h2.2.2.2.1
  have hA := h1.2.2.2.2.2.2.2.1
  rcases num_split n (by omega) u with ⟨i, hi, e⟩ | hv
  · subst e
    rcases num_split n (by omega) w with ⟨j, hj, e⟩ | hv
    · subst e
      by_cases hij : i = j
      · refine Or.inr ⟨xIA, 2, by simp, by decide, fun X => c_coupleT3 l hlt E X S hO (i := i) (j := j) (by rw [nsL]; exact hi) (by rw [nsL]; exact hj) hij, _, fun Y S9 => c_mcoupleB2 l E o a M Y S9 h2.2.2.1 h40 hi hj (Or.inl hij), ?_⟩
        rintro v2 M2 ⟨rfl, e2⟩
        exact ⟨⟨_, rfl⟩, by rw [← e2]; exact u2_self, hR0.code e2⟩
      · rcases wi_cs sh 1 1000 with ⟨w1, a1, a2⟩ | ⟨w1, g⟩
        · have hsb := wi_b w1
          have hs0 : ¬ sh = 0 := fun z => by rw [z] at hsb; exact absurd hsb.1 (by decide)
          obtain ⟨cc, hcc, ecc⟩ := h5.2.2.2.2.2.2.2.1
          have hshr : shr S (A j) (CO (2 + 2 * i)) = M 5 (40 * i + j) := shr_ks hA hj (h3.1 i hi).1 (h3.1 i hi).2
          by_cases hF : M 5 (40 * i + j) = 0 ∧ cc = 120
          · refine Or.inr ⟨xIS, 3, by simp, by decide, fun X => c_coupleT5 l hlt E X S hO (i := i) (j := j) (by rw [nsL]; exact hi) (by rw [nsL]; exact hj) hij a1 a2 (by rw [nsA]; exact h1.C hi) (by rw [nsA, hshr]; exact hF.1) (by rw [h5.2.2.2.2.2.1, ecc, hF.2]; decide), _, fun Y S9 => c_mcoupleF l E o a M Y S9 h2.2.2.1 h40 hi hj hij w1 hF.1 (by rw [ecc, hF.2]; rfl), ?_⟩
            rintro v2 M2 ⟨rfl, e2⟩
            refine ⟨⟨_, rfl⟩, by rw [← e2]; exact u2_self, (hR0.code rfl).code e2⟩
          · have hroom : shr S (A j) (CO (2 + 2 * i)) = 0 → ¬ (120 : Int32) ≤ S.I 13 x := fun z => by
              rw [hshr] at z
              rw [h5.2.2.2.2.2.1, ecc, Int32.le_iff_toInt_le, nI_toInt (by omega), show (120 : Int32).toInt = 120 by decide]
              have : cc ≠ 120 := fun c => hF ⟨z, c⟩
              omega
            have hok : ¬ (M 5 (40 * i + j) = 0 ∧ M 7 0 = 120) := fun z => hF ⟨z.1, by
              have z2 := congrArg Int32.toInt z.2
              rw [ecc, nI_toInt (by omega), show (120 : Int32).toInt = 120 by decide] at z2
              omega⟩
            have l1 : (CO (2 + 2 * i)).length < 100 := by
              have e := congrArg List.length (h3.1 i hi).1
              unfold prC at e
              rw [List.length_map, List.length_map] at e
              have := (h3.1 i hi).2.len h40
              omega
            have l2 : (CO (2 + 2 * j)).length < 100 := by
              have e := congrArg List.length (h3.1 j hj).1
              unfold prC at e
              rw [List.length_map, List.length_map] at e
              have := (h3.1 j hj).2.len h40
              omega
            have hd := h1.2.2.2.2.2.1 (2 + 2 * j) (2 + 2 * i) (by omega) (by omega) (by omega)
            refine Or.inl ⟨_, fun X => c_couple l E X S hO (i := i) (j := j) (by rw [nsL]; exact hi) (by rw [nsL]; exact hj) hij a1 a2 (by rw [nsA]; exact h1.C hi) (by rw [nsA]; exact h1.C hj) hd.1 hd.2 l1 l2 (by rw [nsA]; exact hroom), ?_⟩
            simp only [nsA]
            rintro X v9 X2 S2 ⟨rfl, rfl, S1, hJ1, hJ2⟩
            refine ⟨rfl, _, rfl, fun hsa => ⟨_, fun Y S9 => c_mcouple l E o a M Y S9 h2.2.2.1 h40 hi hj hij w1 hok, ?_⟩⟩
            rintro v2 M2 ⟨rfl, e2⟩
            obtain ⟨p1, p2, p3, p4, p5⟩ := cpS_sh (S := S) (x := x) (b := A j) (vs := CO (2 + 2 * i))
            generalize cpS S x (A j) (CO (2 + 2 * i)) = S0 at *
            have eM : ∀ k, k ≠ 0 → k ≠ 5 → k ≠ 7 → M2 k = M k := fun k k0 k5 k7 => by rw [← e2]; funext z; unfold mcplS; rw [u2_ne1 k5, u2_ne1 k5, u2_ne1 k7, u2_ne1 k0]
            have m5 : ∀ z, M2 5 z = if z = 40 * j + i then sh else if z = 40 * i + j then sh else M 5 z := fun z => by
              rw [← e2]; unfold mcplS
              by_cases c : z = 40 * j + i
              · rw [if_pos c, c]; exact u2_self
              · rw [if_neg c, u2_ne2 c]
                by_cases d : z = 40 * i + j
                · rw [if_pos d, d]; exact u2_self
                · rw [if_neg d, u2_ne2 d, u2_ne1 (by decide), u2_ne1 (by decide)]
            have m7 : M2 7 0 = M 7 0 + (if M 5 (40 * i + j) = 0 then 1 else 0) := by
              rw [← e2]; unfold mcplS
              rw [u2_ne1 (by decide), u2_ne1 (by decide)]; exact u2_self
            have hm4 := eM 4 (by decide) (by decide) (by decide)
            have s0 := h1.sh p1
            have h2' : numb S0 M A n ran := h2.cg (fun k hk => funext fun b => p4 k b (by omega))
            have h3' : coup S0 M A CO ks n := h3.cg p1 p2
            have h4' : stag S0 M A F T CO fk x n st := h4.cg p1 p2 (p4 15 x (by decide))
            obtain ⟨r1, vs1, j1, j2, j3, j4, j5, j6⟩ := jn_ks (M2 := M2) (i := i) hJ1 h40 hj hA (fun p hp => (s0.2.2.2.1 p hp).1) (fun p hp => ⟨(h2'.1 p hp).1, (h2'.1 p hp).2.2.2.1⟩) (s0.2.2.2.2.2.2.1 i hi).1 (h3'.1 i hi).1 (h3'.1 i hi).2 (fun p hp np => by rw [m5, if_neg (by omega), if_neg (by omega)]) (fun p hp => by rw [hm4]) (by rw [m5, if_neg (by omega), if_pos rfl]) hs0
            have f1 := j3.fv
            have hAm : ∀ i, i < n → A i ∈ S0.L := fun i hi => (s0.2.2.2.1 i hi).1.1
            have h2'' : numb S1 M A n ran := h2'.fv f1 hAm
            obtain ⟨r2, vs2, k1, k2, k3, k4, k5, k6⟩ := jn_ks (M2 := M2) (i := j) (M := M) (ks := ks j) hJ2 h40 hi hA (fun p hp => f1.is (s0.2.2.2.1 p hp).1) (fun p hp => ⟨(h2''.1 p hp).1, (h2''.1 p hp).2.2.2.1⟩) (fun v hv => f1.src ((s0.2.2.2.2.2.2.1 j hj).1 v hv)) ((f1.pC (s0.2.2.2.2.2.2.1 j hj).1).trans (h3'.1 j hj).1) (h3'.1 j hj).2 (fun p hp np => by rw [m5, if_neg (by omega), if_neg (by omega)]) (fun p hp => by rw [hm4]) (by rw [m5, if_pos rfl]) hs0
            have f2 := k3.fv
            have f := f1.trans f2
            have hsa1 : E.sa 0 ∉ S1.L := fun z => hsa (k3.mem z)
            have s1 := s0.upd (k0 := 2 + 2 * i) (by omega) j3 j1 j2 hsa1 (fun p _ _ => j4) (fun p _ e => by omega)
            have s2 := s1.upd (k0 := 2 + 2 * j) (by omega) (by rw [upV_n (by omega)]; exact k3) k1 (by rw [upV_n (by omega)]; exact k2) hsa (fun p _ _ => k4) (fun p _ e => by omega)
            refine ⟨by rw [hshr], ?_, n, st, r, rd, ran, t, ha, ta, cg, A, _, _, F, T, _, upV (upV ks i (inK M2 i j ((ks i).erase j))) j (inK M2 j i ((ks j).erase i)), fk, s2, ?_, ?_, ?_, ?_, ?_⟩
            · rw [← e2]; unfold mcplS
              rw [u2_ne1 (by decide), u2_ne1 (by decide), u2_ne1 (by decide)]; exact u2_self
            · refine (h2'.fv f hAm).m (fun k h9 => eM k ?_ ?_ ?_) <;> (intro z; rw [z] at h9; cases h9)
            · refine ⟨fun p hp => ?_, fun p q hp hq hpq => ?_, fun p q hp hq => ?_⟩
              · by_cases c : p = j
                · subst c
                  rw [upV_s, upV_s]; exact ⟨k5, k6⟩
                · rw [upV_n (show 2 + 2 * p ≠ 2 + 2 * j by omega), upV_n c]
                  by_cases c2 : p = i
                  · subst c2
                    rw [upV_s, upV_s]; exact ⟨(f2.pC j4).trans j5, j6⟩
                  · rw [upV_n (show 2 + 2 * p ≠ 2 + 2 * i by omega), upV_n c2]
                    have e9 : ∀ q, q < n → M2 5 (40 * p + q) = M 5 (40 * p + q) := fun q hq => by rw [m5, if_neg (by omega), if_neg (by omega)]
                    refine ⟨?_, csK_cg (h3.1 p hp).2 (Nat.le_refl _) e9 (fun q _ => by rw [hm4]) (fun q hq hq2 => absurd hq (by omega))⟩
                    rw [f.pC (s0.2.2.2.2.2.2.1 p hp).1, (h3'.1 p hp).1]
                    exact List.map_congr_left (fun q hq => by rw [e9 q (((h3.1 p hp).2.1 q).mp hq).1])
              · rw [m5, if_neg (by omega), if_neg (by omega), eM 6 (by decide) (by decide) (by decide)]; exact h3.2.1 p q hp hq hpq
              · rw [eM 6 (by decide) (by decide) (by decide), f.2.2.1 0 _ (hAm p hp)]; exact h3'.2.2 p q hp hq
            · refine (h4'.fv (CO2 := upV (upV CO (2 + 2 * i) vs1) (2 + 2 * j) vs2) s0 f (fun p hp => ?_) ?_ ?_).m (fun k h9 => eM k ?_ ?_ ?_)
              · rw [upV_n (by omega), upV_n (by omega)]
              · rw [upV_n (by omega), upV_n (by omega)]
              · rw [upV_n (by omega), upV_n (by omega)]
              · intro z; rw [z] at h9; cases h9
              · intro z; rw [z] at h9; cases h9
              · intro z; rw [z] at h9; cases h9
            · refine scal.fv (S := S0) ?_ f
              obtain ⟨b1, b2, b3, b4, b5, b6, b7, b8, b9, c1, c2, c3⟩ := h5
              refine ⟨⟨p1.K b1.1, by rw [p1.2.2.1]; exact b1.2.1, p1.tblO b1.2.2⟩, ⟨p1.K b2.1, by rw [p1.2.2.1]; exact b2.2.1, p1.K b2.2.2.1, by rw [p1.2.2.2.1]; exact b2.2.2.2.1, (p4 11 x (by decide)).trans b2.2.2.2.2.1, b2.2.2.2.2.2⟩, b3, b4, ?_, ?_, ?_, ?_, ?_, ?_, ?_, ?_⟩
              · rw [eM 13 (by decide) (by decide) (by decide)]; exact (p4 12 x (by decide)).trans b5
              · rw [p5, m7, b6, hshr]
              · rw [eM 8 (by decide) (by decide) (by decide)]; exact (p4 14 x (by decide)).trans b7
              · rw [m7, ecc]
                by_cases c : M 5 (40 * i + j) = 0
                · rw [if_pos c]
                  have : cc ≠ 120 := fun z => hF ⟨c, z⟩
                  exact ⟨cc + 1, by omega, nI_sc cc⟩
                · rw [if_neg c, Int32.add_zero]; exact ⟨cc, hcc, rfl⟩
              · rw [eM 14 (by decide) (by decide) (by decide)]; exact b9
              · rw [eM 15 (by decide) (by decide) (by decide), eM 16 (by decide) (by decide) (by decide), p3]; exact c1
              · rw [eM 18 (by decide) (by decide) (by decide)]; exact c2
              · rw [eM 19 (by decide) (by decide) (by decide), p3]; exact c3
            · refine ⟨?_, fun p q hp hq => ?_, ?_, ?_⟩
              · rw [eM 2 (by decide) (by decide) (by decide), eM 3 (by decide) (by decide) (by decide), hm4]; exact h6.1
              · have z1 : (1 : Int32).toInt = 1 := by decide
                have z2 : (1000 : Int32).toInt = 1000 := by decide
                rw [m5]
                by_cases c : 40 * p + q = 40 * j + i
                · rw [if_pos c]; omega
                · rw [if_neg c]
                  by_cases d : 40 * p + q = 40 * i + j
                  · rw [if_pos d]; omega
                  · rw [if_neg d]; exact h6.2.1 p q hp hq
              · rw [eM 12 (by decide) (by decide) (by decide)]; exact h6.2.2.1
              · rw [eM 13 (by decide) (by decide) (by decide)]; exact h6.2.2.2
        · refine Or.inr ⟨xIA, 2, by simp, by decide, fun X => c_coupleT4 l hlt E X S hO (i := i) (j := j) (by rw [nsL]; exact hi) (by rw [nsL]; exact hj) hij g, _, fun Y S9 => c_mcoupleB2 l E o a M Y S9 h2.2.2.1 h40 hi hj (Or.inr w1), ?_⟩
          rintro v2 M2 ⟨rfl, e2⟩
          exact ⟨⟨_, rfl⟩, by rw [← e2]; exact u2_self, hR0.code e2⟩
    · refine Or.inr ⟨xIO, 1, by simp, by decide, fun X => c_coupleT2 l hlt E X S hO (i := i) (by rw [nsL]; exact hi) (by rw [nsL]; exact hv), _, fun Y S9 => c_mcoupleB1 l E o a M Y S9 (Or.inr (isn_f h2.2.2.1 hv)), ?_⟩
      rintro v2 M2 ⟨rfl, e2⟩
      exact ⟨⟨_, rfl⟩, by rw [← e2]; exact u2_self, hR0.code e2⟩
  · refine Or.inr ⟨xIO, 1, by simp, by decide, fun X => c_coupleT1 l hlt E X S hO (by rw [nsL]; exact hv), _, fun Y S9 => c_mcoupleB1 l E o a M Y S9 (Or.inl (isn_f h2.2.2.1 hv)), ?_⟩
    rintro v2 M2 ⟨rfl, e2⟩
    exact ⟨⟨_, rfl⟩, by rw [← e2]; exact u2_self, hR0.code e2⟩
