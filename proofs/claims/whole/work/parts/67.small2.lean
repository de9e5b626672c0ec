theorem wi_iff {v lo hi : Int32} : wi v lo hi = true ↔ ¬ v < lo ∧ v ≤ hi := by
  unfold wi
  rw [Bool.and_eq_true, decide_eq_true_iff, decide_eq_true_iff, Int32.not_lt (a := hi)]
theorem wi_out {v lo hi : Int32} (h : wi v lo hi = false) : v < lo ∨ ¬ v ≤ hi := by
  by_cases c : v < lo
  · exact Or.inl c
  · refine Or.inr (fun z => ?_)
    rw [wi_iff.mpr ⟨c, z⟩] at h; cases h
theorem wi_cs (v lo hi : Int32) : (wi v lo hi = true ∧ ¬ v < lo ∧ v ≤ hi) ∨ (wi v lo hi = false ∧ (v < lo ∨ ¬ v ≤ hi)) := by
  cases e : wi v lo hi with
  | true => exact Or.inl ⟨rfl, wi_iff.mp e⟩
  | false => exact Or.inr ⟨rfl, wi_out e⟩
theorem wi_b {v lo hi : Int32} (h : wi v lo hi = true) : lo.toInt ≤ v.toInt ∧ v.toInt ≤ hi.toInt := by
  obtain ⟨a, b⟩ := wi_iff.mp h
  rw [Int32.lt_iff_toInt_lt] at a
  rw [Int32.le_iff_toInt_le] at b
  omega
/-- the class's heap is another one, with the same shape and the same nets -/
theorem shp.sh {E : Ev} {S S1 : HS} {x n : Nat} {A LA RA : Nat → Nat} {CO : Nat → List Nat} (h : shp E S x n A LA RA CO) (hs : Sh S S1) : shp E S1 x n A LA RA CO := by
  obtain ⟨a1, a2, a3, a4, a5, a6, a7, a8, a9⟩ := h
  refine ⟨hs.K a1, by rw [hs.2.2.1]; exact a2, by rw [hs.2.2.1]; exact a3, fun i hi => ⟨hs.K (a4 i hi).1, by rw [hs.2.2.1]; exact (a4 i hi).2.1, by rw [hs.2.2.1]; exact (a4 i hi).2.2⟩, fun k hk => hs.AL (a5 k hk), a6, fun i hi => ⟨fun v hv => hs.src ((a7 i hi).1 v hv), fun v hv => hs.stgO ((a7 i hi).2 v hv)⟩, a8, by rw [hs.1]; exact a9⟩
theorem numb.cg {S S1 : HS} {M : MM} {A : Nat → Nat} {n ran : Nat} (h : numb S M A n ran) (hI : ∀ k, k < 8 → S1.I k = S.I k) : numb S1 M A n ran := by
  unfold numb
  rw [hI 0 (by decide), hI 1 (by decide), hI 2 (by decide), hI 3 (by decide), hI 4 (by decide), hI 5 (by decide), hI 6 (by decide)]; exact h
theorem coup.cg {S S1 : HS} {M : MM} {A : Nat → Nat} {CO ks : Nat → List Nat} {n : Nat} (h : coup S M A CO ks n) (hs : Sh S S1) (hJ : S1.J = S.J) : coup S1 M A CO ks n :=
  ⟨fun i hi => ⟨(prC_cg hs _).trans (h.1 i hi).1, (h.1 i hi).2⟩, h.2.1, by rw [hJ]; exact h.2.2⟩
theorem stag.cg {S S1 : HS} {M : MM} {A F T : Nat → Nat} {CO : Nat → List Nat} {fk : List Nat} {x n st : Nat} (h : stag S M A F T CO fk x n st) (hs : Sh S S1) (hJ : S1.J = S.J) (h15 : S1.I 15 x = S.I 15 x) : stag S1 M A F T CO fk x n st := by
  refine ⟨h.1, fun i hi => (prS_sh hs _).trans (h.2.1 i hi), h15.trans h.2.2.1, ?_, h.2.2.2.2⟩
  unfold lead
  rw [hJ]; exact h.2.2.2.1
theorem sI_J {S : HS} {k a : Nat} {v : Int32} : (S.sI k a v).J = S.J := rfl
theorem sI_R {S : HS} {k a : Nat} {v : Int32} : (S.sI k a v).R = S.R := rfl
theorem d_keep {l : Launch} (hlt : l.stackTraces = false) {E : Ev} {x o : Nat} {a : Nat → Nat} {S : HS} {M : MM} (hR : Rel E S M x) (v : Int32) : Duo l E x o a S M yX4_keep (Cond.code yX4_keep cX4_keep 3 (some .int)) 2 0 0 yX5_keep (Cond.code yX5_keep cX5_keep 3 (some .int)) 2 [.int v] [(xIA, 1)] := by
  have hR0 := hR
  obtain ⟨n, st, r, rd, ran, t, ha, ta, cg, A, LA, RA, F, T, CO, ks, fk, h1, h2, h3, h4, h5, h6⟩ := hR
  rcases wi_cs v 1 8 with ⟨hw, g1, g2⟩ | ⟨hw, g⟩
  · refine Or.inl ⟨_, fun X => c_keep l E X S h1.1 g1 g2, ?_⟩
    rintro X v9 X2 S2 ⟨rfl, rfl, rfl⟩
    refine ⟨rfl, _, rfl, fun _ => ⟨_, fun Y S9 => c_mkeep l E o a M Y S9 hw, ?_⟩⟩
    rintro v2 M2 ⟨rfl, e2⟩
    refine ⟨by rw [h5.2.2.2.2.1], by rw [← e2, u2_ne1 (by decide)]; exact u2_self, ?_⟩
    have hk : ∀ k, k ≠ 0 → k ≠ 13 → M2 k = M k := fun k k0 k13 => by rw [← e2]; funext j; rw [u2_ne1 k13, u2_ne1 k0]
    have h13 : M2 13 0 = v := by rw [← e2]; exact u2_self
    have hs : Sh S (S.sI 12 x v) := Sh.rf.sI rfl
    refine ⟨n, st, r, rd, ran, t, ha, ta, cg, A, LA, RA, F, T, CO, ks, fk, h1.sh hs, ?_, ?_, ?_, ?_, ?_⟩
    · refine numb.cg (S := S) ?_ (fun k hk => funext fun b => sI_ne (by omega))
      unfold numb; rw [hk 1 (by decide) (by decide), hk 2 (by decide) (by decide), hk 3 (by decide) (by decide), hk 4 (by decide) (by decide), hk 17 (by decide) (by decide), hk 20 (by decide) (by decide), hk 21 (by decide) (by decide), hk 22 (by decide) (by decide)]; exact h2
    · refine coup.cg (S := S) ⟨fun i hi => ⟨by rw [hk 5 (by decide) (by decide)]; exact (h3.1 i hi).1, csK_cg (h3.1 i hi).2 (Nat.le_refl _) (fun p _ => by rw [hk 5 (by decide) (by decide)]) (fun p _ => by rw [hk 4 (by decide) (by decide)]) (fun p hp hp2 => absurd hp (by omega))⟩, by rw [hk 5 (by decide) (by decide), hk 6 (by decide) (by decide)]; exact h3.2.1, by rw [hk 6 (by decide) (by decide)]; exact h3.2.2⟩ hs rfl
    · refine stag.cg (S := S) ⟨stgs_cg (hk 9 (by decide) (by decide)) (hk 10 (by decide) (by decide)) (hk 11 (by decide) (by decide)) h4.1, by rw [hk 12 (by decide) (by decide)]; exact h4.2.1, h4.2.2⟩ hs rfl (sI_ne (by decide))
    · obtain ⟨b1, b2, b3, b4, b5, b6, b7, b8, b9, c1, c2, c3⟩ := h5
      have hT : crT (S.sI 12 x v) x t ha ta r := ⟨hs.K b1.1, b1.2.1, hs.tblO b1.2.2⟩
      have hC : crC (S.sI 12 x v) x cg rd := ⟨hs.K b2.1, b2.2.1, hs.K b2.2.2.1, b2.2.2.2.1, (sI_ne (by decide)).trans b2.2.2.2.2.1, b2.2.2.2.2.2⟩
      refine ⟨hT, hC, b3, b4, by rw [h13]; exact sI_s, ?_, ?_, ?_, ?_, ?_, ?_, ?_⟩
      · rw [hk 7 (by decide) (by decide)]; exact (sI_ne (by decide)).trans b6
      · rw [hk 8 (by decide) (by decide)]; exact (sI_ne (by decide)).trans b7
      · rw [hk 7 (by decide) (by decide)]; exact b8
      · rw [hk 14 (by decide) (by decide)]; exact b9
      · rw [hk 15 (by decide) (by decide), hk 16 (by decide) (by decide)]; exact c1
      · rw [hk 18 (by decide) (by decide)]; exact c2
      · rw [hk 19 (by decide) (by decide)]; exact c3
    · have hb := wi_b hw
      refine ⟨by rw [hk 2 (by decide) (by decide), hk 3 (by decide) (by decide), hk 4 (by decide) (by decide)]; exact h6.1, by rw [hk 5 (by decide) (by decide)]; exact h6.2.1, by rw [hk 12 (by decide) (by decide)]; exact h6.2.2.1, ?_, ?_⟩
      · rw [h13]; exact hb.1
      · rw [h13]; exact hb.2
  · refine Or.inr ⟨xIA, 1, by simp, by decide, fun X => c_keepT l hlt E X S h1.1 g, _, fun Y S9 => c_mkeepB l E o a M Y S9 hw, ?_⟩
    rintro v2 M2 ⟨rfl, e2⟩
    exact ⟨⟨_, rfl⟩, by rw [← e2]; exact u2_self, hR0.code e2⟩
theorem d_row {l : Launch} (hlt : l.stackTraces = false) {E : Ev} {x o : Nat} {a : Nat → Nat} {S : HS} {M : MM} (hR : Rel E S M x) (h z : Int32) : Duo l E x o a S M yX4_row (Cond.code yX4_row cX4_row 3 (some .boolean)) 2 0 0 yX5_row (Cond.code yX5_row cX5_row 3 (some .boolean)) 2 [.int h, .int z] [(xIA, 1), (xIS, 2)] := by
  have hR0 := hR
  obtain ⟨n, st, r, rd, ran, t, ha, ta, cg, A, LA, RA, F, T, CO, ks, fk, h1, h2, h3, h4, h5, h6⟩ := hR
  have hT0 := h5.1
  have h20 : r ≤ 20 := hT0.2.2.2.2.2.2.2.2.2.2.1
  have hr := h5.2.2.2.2.2.2.2.2.1
  rcases wi_cs h 0 100000 with ⟨hw, g1, g2⟩ | ⟨hw, g⟩
  · rcases wi_cs z 0 100000 with ⟨hw2, g3, g4⟩ | ⟨hw2, g⟩
    · by_cases hn : r < 20
      · refine Or.inl ⟨_, fun X => c_row l E X S hT0 hn g1 g2 g3 g4, ?_⟩
        have hap : apOK S ha r h ↔ (r = 0 ∨ M 15 (r - 1) < h) := by
          unfold apOK
          by_cases r0 : r = 0
          · simp [r0]
          · rw [(h5.2.2.2.2.2.2.2.2.2.1 (r - 1) (by omega)).1]
        rintro X v9 X2 S2 ⟨rfl, ⟨ha1, rfl, rfl⟩ | ⟨ha1, rfl, rfl⟩⟩
        · refine ⟨rfl, _, rfl, fun _ => ⟨_, fun Y S9 => c_mrow l E o a M Y S9 hr hn hw hw2, ?_⟩⟩
          rintro v2 M2 (⟨q1, rfl, e2⟩ | ⟨q1, rfl, e2⟩)
          · refine ⟨rfl, ?_, ?_⟩
            · rw [← e2]; unfold mrowS
              rw [u2_ne1 (by decide), u2_ne1 (by decide), u2_ne1 (by decide)]; exact u2_self
            have hk : ∀ k, k ≠ 0 → k ≠ 14 → k ≠ 15 → k ≠ 16 → M2 k = M k := fun k k0 k1 k2 k3 => by rw [← e2]; funext j; unfold mrowS; rw [u2_ne1 k1, u2_ne1 k3, u2_ne1 k2, u2_ne1 k0]
            have k14 : M2 14 0 = nI (r + 1) := by rw [← e2, ← nI_sc]; exact u2_self
            have k15 : ∀ j, M2 15 j = if j = r then h else M 15 j := fun j => by
              rw [← e2]; unfold mrowS
              rw [u2_ne1 (by decide), u2_ne1 (by decide)]
              by_cases c : j = r
              · rw [if_pos c, c]; exact u2_self
              · rw [if_neg c, u2_ne2 c, u2_ne1 (by decide)]
            have k16 : ∀ j, M2 16 j = if j = r then z else M 16 j := fun j => by
              rw [← e2]; unfold mrowS
              rw [u2_ne1 (by decide)]
              by_cases c : j = r
              · rw [if_pos c, c]; exact u2_self
              · rw [if_neg c, u2_ne2 c, u2_ne1 (by decide), u2_ne1 (by decide)]
            obtain ⟨b1, b2, b3, b4, b5, b6, b7, b8, b9, c1, c2, c3⟩ := h5
            obtain ⟨t1, t2, t3, t4, t5, t6, t7, t8, t9, u1, u9, u3⟩ := b1
            have hne : ha ≠ ta := u3
            have ht5 : ∀ i, i < n → A i ≠ t := fun i hi e => by
              have q := (h1.2.2.2.1 i hi).1.2
              rw [e, t3.2] at q; cases q
            have htx : x ≠ t := fun e => by
              have q := t1.2
              rw [e, t3.2] at q; cases q
            -- the same shape but for the row's number
            have hL : (((S.sR ha r h).sR ta r z).sI 10 t (nI (r + 1))).L = S.L := rfl
            have hI : ∀ k b, k ≠ 10 ∨ b ≠ t → (((S.sR ha r h).sR ta r z).sI 10 t (nI (r + 1))).I k b = S.I k b := fun k b c => by
              rcases c with c | c
              · exact sI_ne c
              · exact sI_o c
            have hAL : ∀ l9 r9 vs9, isAL E S l9 r9 vs9 → isAL E (((S.sR ha r h).sR ta r z).sI 10 t (nI (r + 1))) l9 r9 vs9 := fun l9 r9 vs9 q => ⟨q.1, q.2.1, (hI 17 l9 (Or.inl (by decide))).trans q.2.2.1, q.2.2.2⟩
            have hRR : ∀ b j, (((S.sR ha r h).sR ta r z).sI 10 t (nI (r + 1))).R b j = if b = ta ∧ j = r then z else if b = ha ∧ j = r then h else S.R b j := fun b j => rfl
            refine ⟨n, st, r + 1, rd, ran, t, ha, ta, cg, A, LA, RA, F, T, CO, ks, fk, ?_, ?_, ?_, ?_, ?_, ?_⟩
            · obtain ⟨a1, a2, a3, a4, a5, a6, a7, a8, a9⟩ := h1
              exact ⟨a1, a2, a3, a4, fun k hk => hAL _ _ _ (a5 k hk), a6, a7, a8, a9⟩
            · refine numb.cg (S := S) ?_ (fun k hk => funext fun b => hI k b (Or.inl (by omega)))
              unfold numb; rw [hk 1 (by decide) (by decide) (by decide) (by decide), hk 2 (by decide) (by decide) (by decide) (by decide), hk 3 (by decide) (by decide) (by decide) (by decide), hk 4 (by decide) (by decide) (by decide) (by decide), hk 17 (by decide) (by decide) (by decide) (by decide), hk 20 (by decide) (by decide) (by decide) (by decide), hk 21 (by decide) (by decide) (by decide) (by decide), hk 22 (by decide) (by decide) (by decide) (by decide)]; exact h2
            · refine ⟨fun i hi => ⟨?_, csK_cg (h3.1 i hi).2 (Nat.le_refl _) (fun p _ => by rw [hk 5 (by decide) (by decide) (by decide) (by decide)]) (fun p _ => by rw [hk 4 (by decide) (by decide) (by decide) (by decide)]) (fun p hp hp2 => absurd hp (by omega))⟩, by rw [hk 5 (by decide) (by decide) (by decide) (by decide), hk 6 (by decide) (by decide) (by decide) (by decide)]; exact h3.2.1, by rw [hk 6 (by decide) (by decide) (by decide) (by decide)]; exact h3.2.2⟩
              rw [hk 5 (by decide) (by decide) (by decide) (by decide)]; exact (h3.1 i hi).1
            · refine ⟨stgs_cg (hk 9 (by decide) (by decide) (by decide) (by decide)) (hk 10 (by decide) (by decide) (by decide) (by decide)) (hk 11 (by decide) (by decide) (by decide) (by decide)) h4.1, ?_, (hI 15 x (Or.inl (by decide))).trans h4.2.2.1, h4.2.2.2⟩
              rw [hk 12 (by decide) (by decide) (by decide) (by decide)]; exact h4.2.1
            · refine ⟨⟨t1, t2, t3, t4, t5, t6, t7, t8, t9, sI_s, by omega, hne⟩, ⟨b2.1, b2.2.1, b2.2.2.1, b2.2.2.2.1, (hI 11 x (Or.inl (by decide))).trans b2.2.2.2.2.1, b2.2.2.2.2.2⟩, b3, b4, ?_, ?_, ?_, ?_, k14, ?_, ?_, ?_⟩
              · rw [hk 13 (by decide) (by decide) (by decide) (by decide)]; exact (hI 12 x (Or.inl (by decide))).trans b5
              · rw [hk 7 (by decide) (by decide) (by decide) (by decide)]; exact (hI 13 x (Or.inl (by decide))).trans b6
              · rw [hk 8 (by decide) (by decide) (by decide) (by decide)]; exact (hI 14 x (Or.inl (by decide))).trans b7
              · rw [hk 7 (by decide) (by decide) (by decide) (by decide)]; exact b8
              · intro k hk2
                rw [hRR, hRR, k15, k16]
                by_cases c : k = r
                · simp [c, hne]
                · simp only [c, and_false, if_false]; exact c1 k (by omega)
              · rw [hk 18 (by decide) (by decide) (by decide) (by decide)]; exact c2
              · intro k hk2
                rw [hRR, hk 19 (by decide) (by decide) (by decide) (by decide)]
                simp only [b3, b4, false_and, if_false]; exact c3 k hk2
            · refine ⟨by rw [hk 2 (by decide) (by decide) (by decide) (by decide), hk 3 (by decide) (by decide) (by decide) (by decide), hk 4 (by decide) (by decide) (by decide) (by decide)]; exact h6.1, by rw [hk 5 (by decide) (by decide) (by decide) (by decide)]; exact h6.2.1, by rw [hk 12 (by decide) (by decide) (by decide) (by decide)]; exact h6.2.2.1, ?_⟩
              rw [hk 13 (by decide) (by decide) (by decide) (by decide)]; exact h6.2.2.2
          · exact absurd (hap.mp ha1) q1
        · refine ⟨rfl, _, rfl, fun _ => ⟨_, fun Y S9 => c_mrow l E o a M Y S9 hr hn hw hw2, ?_⟩⟩
          rintro v2 M2 (⟨q1, rfl, e2⟩ | ⟨q1, rfl, e2⟩)
          · exact absurd (hap.mpr q1) ha1
          · exact ⟨rfl, by rw [← e2]; exact u2_self, hR0.code e2⟩
      · refine Or.inr ⟨xIS, 2, by simp, by decide, fun X => c_rowT3 l hlt E X S hT0 (by omega) g1 g2 g3 g4, _, fun Y S9 => c_mrowF l E o a M Y S9 hw hw2 (by rw [hr, show r = 20 by omega]; rfl), ?_⟩
        rintro v2 M2 ⟨rfl, e2⟩
        exact ⟨⟨_, rfl⟩, by rw [← e2]; exact u2_self, hR0.code e2⟩
    · refine Or.inr ⟨xIA, 1, by simp, by decide, fun X => c_rowT2 l hlt E X S hT0 g1 g2 g, _, fun Y S9 => c_mrowB l E o a M Y S9 (Or.inr hw2), ?_⟩
      rintro v2 M2 ⟨rfl, e2⟩
      exact ⟨⟨_, rfl⟩, by rw [← e2]; exact u2_self, hR0.code e2⟩
  · refine Or.inr ⟨xIA, 1, by simp, by decide, fun X => c_rowT1 l hlt E X S hT0 g, _, fun Y S9 => c_mrowB l E o a M Y S9 (Or.inl hw), ?_⟩
    rintro v2 M2 ⟨rfl, e2⟩
    exact ⟨⟨_, rfl⟩, by rw [← e2]; exact u2_self, hR0.code e2⟩
