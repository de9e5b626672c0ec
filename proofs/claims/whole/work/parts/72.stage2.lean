theorem d_stage {l : Launch} (hlt : l.stackTraces = false) {E : Ev} {x o : Nat} {a : Nat → Nat} {S : HS} {M : MM} (hR : Rel E S M x) (u w d : Int32) : Duo l E x o a S M yX4_stage (Cond.code yX4_stage cX4_stage 6 (some .int)) 7 2 152 yX5_stage (Cond.code yX5_stage cX5_stage 4 (some .int)) 2 [.int u, .int w, .int d] [(xIO, 1), (xIA, 2), (xIS, 3)] := by
  have hR0 := hR
  obtain ⟨n, st, r, rd, ran, t, ha, ta, cg, A, LA, RA, F, T, CO, ks, fk, h1, h2, h3, h4, h5, h6⟩ := hR
  have hO := h1.O h4.2.2.2.2.2.2.1
  have hfk : ∀ q, q ∈ fk ↔ q < n := fun q => by rw [h4.2.2.2.2.2.1.mem_iff, List.mem_range]
  have hF := h1.Fl h4.2.2.2.2.2.2.2 (fun q hq => (hfk q).mp hq)
  have hfl : fk.length = n := by rw [h4.2.2.2.2.2.1.length_eq, List.length_range]
  have h40 := h2.2.2.2.1
  have hA := h1.2.2.2.2.2.2.2.1
  have hst := h4.1.2.2
  have hst2 : ∀ s, s < st → F s < n ∧ T s < n := fun s hs => ⟨(hst s hs).2.1, (hst s hs).2.2.2⟩
  rcases num_split n (by omega) u with ⟨i, hi, e⟩ | hv
  · subst e
    rcases num_split n (by omega) w with ⟨j, hj, e⟩ | hv
    · subst e
      by_cases hij : i = j
      · refine Or.inr ⟨xIA, 2, by simp, by decide, fun X => c_stageT3 l hlt E X S hO (i := i) (j := j) (by rw [nsL]; exact hi) (by rw [nsL]; exact hj) hij, _, fun Y S9 => c_mstageB2 l E o a M Y S9 h2.2.2.1 h40 hi hj (Or.inl hij), ?_⟩
        rintro v2 M2 ⟨rfl, e2⟩
        exact ⟨⟨_, rfl⟩, by rw [← e2]; exact u2_self, hR0.code e2⟩
      · rcases wi_cs d 0 100000 with ⟨w1, a1, a2⟩ | ⟨w1, g⟩
        · have hdb := wi_b w1
          by_cases h80 : st < 80
          · have hro : ¬ (80 : Int32) ≤ S.I 15 x := by
              rw [h4.2.2.1, Int32.le_iff_toInt_le, nI_toInt (by omega), show (80 : Int32).toInt = 80 by decide]; omega
            have hld : ldB S (A i) (A j) = bt (S.J 1 (A i)) j := ldB_bt (h2.1 j hj).1 (by omega)
            have hlr : ldR F T st n (fun k => decide (k = j)) i = bt (S.J 1 (A i)) j := by
              have e := ldR_iff (P := fun q => q = j ∨ (q < n ∧ bt (S.J 1 (A q)) j = true)) h4.2.2.2.2.1 (by omega : fk.length ≤ n) (Or.inl rfl) (fun s hs hp => by
                right
                refine ⟨(hst2 s hs).2, ?_⟩
                rcases hp with hp | hp
                · rw [← hp]; exact h4.2.2.2.1.1 s hs
                · exact h4.2.2.2.1.2.1 s j hs hp.2) (fun q hq => by
                rcases hq with hq | hq
                · exact Or.inl hq
                · obtain ⟨_, s, b2, b3, b4⟩ := h4.2.2.2.1.2.2.1 q j hq.1 hq.2
                  refine Or.inr ⟨s, b2, b3, ?_⟩
                  rcases b4 with b4 | b4
                  · exact Or.inl b4
                  · exact Or.inr ⟨(hst2 s b2).1, b4⟩) ((hfk i).mpr hi)
              cases e1 : bt (S.J 1 (A i)) j with
              | true => exact e.mpr (Or.inr ⟨hi, e1⟩)
              | false =>
                cases e3 : ldR F T st n (fun k => decide (k = j)) i with
                | false => rfl
                | true =>
                  rcases e.mp e3 with z | z
                  · exact absurd z hij
                  · rw [e1] at z; exact absurd z.2 (by decide)
            have hssl : (CO (3 + 2 * j)).length < 100 := by
              have e := congrArg List.length (h4.2.1 j hj)
              unfold prS at e
              rw [List.length_map, List.length_map] at e
              have := sqL_len (T := T) (q := j) (m := st) (s := 0)
              omega
            have hd0 := h1.2.2.2.2.2.1 0 (3 + 2 * j) (by omega) (by omega) (by omega)
            have hd1 := h1.2.2.2.2.2.1 1 (3 + 2 * j) (by omega) (by omega) (by omega)
            refine Or.inl ⟨_, fun X => c_stage l E X S hO (i := i) (j := j) (by rw [nsL]; exact hi) (by rw [nsL]; exact hj) hij a1 a2 hro (by rw [nsA]; exact h1.G hj) hF hd0.1 (by rw [← h4.2.2.2.2.2.2.1]; exact hd0.2) hd1.1 (by rw [← h4.2.2.2.2.2.2.2]; exact hd1.2) hssl, ?_⟩
            simp only [nsA]
            rintro X v9 X2 S2 (⟨k1, rfl, rfl, rfl⟩ | ⟨k1, rfl, q, S3, S5, hq, ⟨-, -, r2, L1, L2, L3⟩, ⟨-, -, r3, l2, N1, N2, N3, N4, N5⟩, rfl, rfl⟩)
            · refine ⟨rfl, _, rfl, fun _ => ⟨_, fun Y S9 => c_mstage l E o a M Y S9 h2.2.2.1 h40 h4.1 h80 hi hj hij w1, ?_⟩⟩
              rw [hlr, ← hld, k1]
              rintro v2 M2 (⟨_, rfl, e2, e3⟩ | ⟨z, _⟩)
              · exact ⟨rfl, e2, hR0.mcg (fun k hk => e3 k (cne hk rfl) (cne hk rfl))⟩
              · cases z
            · refine ⟨rfl, _, rfl, fun hsa => ⟨_, fun Y S9 => c_mstage l E o a M Y S9 h2.2.2.1 h40 h4.1 h80 hi hj hij w1, ?_⟩⟩
              rw [hlr, ← hld, k1]
              rintro v2 M2 (⟨z, _⟩ | ⟨_, rfl, g0, g9, g10, g11, g12, gk⟩)
              · cases z
              · have hno : bt (S.J 1 (A i)) j = false := hld.symm.trans k1
                have fq := fun l9 r9 => stS_fr (a := A i) (d := d) hq l9 r9
                have qK : isK (stS S q (A i) d) 2 q := isK_new (S := S)
                have qP : (stS S q (A i) d).P 3 q = some (A i) := u2_self
                have qI : (stS S q (A i) d).I 9 q = d := u2_self
                generalize stS S q (A i) d = Sq at *
                have fv1 : FvH S Sq := (fq 0 0).fv
                have fv2 : FvH Sq S3 := L2.fv
                have fv3 := fv1.trans fv2
                have hAm : ∀ i, i < n → A i ∈ S.L := fun i hi => (h1.2.2.2.1 i hi).1.1
                have hAm3 : ∀ i, i < n → A i ∈ S3.L := fun i hi => (fv3.1 _ (hAm i hi)).1
                have num3 := h2.fv fv3 hAm
                have hLd := ldL_z hA (g := S3.J 1 (A i) ||| bv S3 (A i)) hj h40 n 0 S3 (by omega) (num3.1 j hj).1
                have hSh4 := ldL_sh (S3.J 1 (A i) ||| bv S3 (A i)) (A j) ((List.range n).map A) S3
                rw [← List.range_eq_range'] at hLd
                have hgb : ∀ k, bt (S3.J 1 (A i) ||| bv S3 (A i)) k = true ↔ (bt (S.J 1 (A i)) k = true ∨ k = i) := fun k => by
                  rw [bt_or, fv3.2.2.1 1 _ (hAm i hi), bt_bv (num3.1 i hi).1 (by omega), Bool.or_eq_true, decide_eq_true_iff]
                generalize S3.J 1 (A i) ||| bv S3 (A i) = g at *
                generalize ldL g (A j) ((List.range n).map A) S3 = S4 at *
                obtain ⟨y1, y2, y3, y4⟩ := hLd
                have fv5 : FvH S4 S5 := N3.fv
                have hAm4 : ∀ i, i < n → A i ∈ S4.L := fun i hi => by rw [hSh4.1]; exact hAm3 i hi
                have hAm5 : ∀ i, i < n → A i ∈ S5.L := fun i hi => (fv5.1 _ (hAm4 i hi)).1
                have hsa5 : E.sa 0 ∉ S5.L := hsa
                have hsa4 : E.sa 0 ∉ S4.L := fun z => hsa5 (N3.mem z)
                have hsa3 : E.sa 0 ∉ S3.L := by rw [← hSh4.1]; exact hsa4
                have hsaq : E.sa 0 ∉ Sq.L := fun z => hsa3 (L2.mem z)
                have sq := h1.new fq hsaq
                have qst : stgOK Sq q := ⟨qK, by unfold fr; rw [qP]; rfl, by unfold fr; rw [qP]; exact fv1.is (h1.2.2.2.1 i hi).1⟩
                have s3 := sq.upd (k0 := 3 + 2 * j) (by omega) L2 L1 L3 hsa3 (fun p _ e => by omega) (fun p _ e v hv => by
                  rcases List.mem_append.mp hv with hv | hv
                  · exact fv3.stg ((h1.2.2.2.2.2.2.1 j hj).2 v hv)
                  · rw [List.mem_singleton.mp hv]; exact fv2.stg qst)
                have s4 := s3.sh hSh4
                have s5 := s4.upd (k0 := 1) (by omega) (by rw [upV_n (by omega)]; exact N3) N1 (by rw [upV_n (by omega)]; exact N4) hsa5 (fun p _ e => by omega) (fun p _ e => by omega)
                have hsh2 : Sh S5 (S5.sI 15 x (S5.I 15 x + 1)) := Sh.rf.sI rfl
                have s2 := s5.sh hsh2
                have num4 : numb S4 M A n ran := num3.cg (fun k _ => by rw [y3])
                have num5 := num4.fv fv5 hAm4
                have num2 : numb (S5.sI 15 x (S5.I 15 x + 1)) M A n ran := num5.cg (fun k hk => funext fun b => sI_ne (by omega))
                have x15 : S5.I 15 x = nI st := by
                  rw [fv5.2.1 15 x (by rw [hSh4.1]; exact (fv3.1 x h1.1.1).1) (by decide), y3, fv3.2.1 15 x h1.1.1 (by decide)]; exact h4.2.2.1
                have hJ5 : ∀ p, p < n → S5.J 1 (A p) = S4.J 1 (A p) := fun p hp => fv5.2.2.1 1 _ (hAm4 p hp)
                have hL : ∀ p k, p < n → (bt (S4.J 1 (A p)) k = true ↔ bt (S.J 1 (A p)) k = true ∨ ((p = j ∨ bt (S.J 1 (A p)) j = true) ∧ (bt (S.J 1 (A i)) k = true ∨ k = i))) := fun p k hp => by
                  rw [y1 p hp, fv3.2.2.1 1 _ (hAm p hp)]
                  by_cases c : p = j ∨ bt (S.J 1 (A p)) j = true
                  · rw [if_pos ⟨by omega, c⟩, bt_or, Bool.or_eq_true, hgb k]
                    exact ⟨fun z => z.imp_right (fun z => ⟨c, z⟩), fun z => z.imp_right (fun z => z.2)⟩
                  · rw [if_neg (fun z => c z.2)]
                    exact ⟨Or.inl, fun z => z.resolve_right (fun z => c z.1)⟩
                have ld4 := lead_new h4.2.2.2.1 hst2 hi hj hij hno hL
                have hst9 : ∀ s, s < st + 1 → upV F st i s < n ∧ upV T st j s < n := fun s hs => by
                  by_cases c : s = st
                  · subst c; rw [upV_s, upV_s]; exact ⟨hi, hj⟩
                  · rw [upV_n c, upV_n c]; exact hst2 s (by omega)
                -- the flow, by numbers
                have hmem2 : ∀ b ∈ l2, ∃ p, p < n ∧ A p = b := fun b hb => by
                  obtain ⟨p, hp, e⟩ := List.mem_map.mp (N2.mem_iff.mp hb)
                  exact ⟨p, (hfk p).mp hp, e⟩
                have hl2 : (l2.map (iv A n)).map A = l2 := by
                  rw [List.map_map]
                  refine (List.map_congr_left (fun b hb => ?_)).trans (List.map_id l2)
                  obtain ⟨p, hp, e⟩ := hmem2 b hb
                  show A (iv A n b) = id b
                  rw [← e, iv_A hA hp]; rfl
                have hfk2 : (l2.map (iv A n)).Perm fk := by
                  have := N2.map (iv A n)
                  rw [List.map_map] at this
                  refine this.trans (List.Perm.of_eq ?_)
                  refine (List.map_congr_left (fun p hp => ?_)).trans (List.map_id fk)
                  exact iv_A hA ((hfk p).mp hp)
                have hm9 : ∀ z, z ∈ l2.map (iv A n) ↔ z < n := fun z => by rw [hfk2.mem_iff]; exact hfk z
                have tp := topo_srt ld4 hst9 hm9 (by rw [hl2]; exact N5)
                have e12 : M2 12 = upd (M 12) st d := g12
                refine ⟨?_, g0, n, st + 1, r, rd, ran, t, ha, ta, cg, A, LA, _, upV F st i, upV T st j, _, ks, l2.map (iv A n), s2, ?_, ?_, ?_, ?_, ?_⟩
                · rw [show (S5.sI 15 x (S5.I 15 x + 1)).I 15 x = S5.I 15 x + 1 from sI_s, x15]
                · refine num2.m (fun k h9 => gk k ?_ ?_ ?_ ?_ ?_ ?_) <;> (intro z; rw [z] at h9; cases h9)
                · have c3 : coup S3 M A (upV CO (3 + 2 * j) (CO (3 + 2 * j) ++ [q])) ks n := h3.fv h1 fv3 (fun p hp => by rw [upV_n (by omega)])
                  have c4 := c3.cg0 hSh4 y2
                  have c5 : coup S5 M A (upV (upV CO (3 + 2 * j) (CO (3 + 2 * j) ++ [q])) 1 l2) ks n := c4.fv s4 fv5 (fun p hp => by rw [upV_n (by omega)])
                  have c2 := c5.cg0 hsh2 (fun b => rfl)
                  exact mcs (F := F) (T := T) (st := st) c2 (gk 5 (by decide) (by decide) (by decide) (by decide) (by decide) (by decide)) (gk 6 (by decide) (by decide) (by decide) (by decide) (by decide) (by decide)) (gk 4 (by decide) (by decide) (by decide) (by decide) (by decide) (by decide))
                · refine ⟨⟨by rw [g9, nI_sc], by omega, fun s hs => ?_⟩, fun p hp => ?_, ?_, ?_, tp, hfk2.trans h4.2.2.2.2.2.1, ?_, ?_⟩
                  · rw [g10, g11]
                    unfold upd
                    by_cases c : s = st
                    · subst c; rw [if_pos rfl, if_pos rfl, upV_s, upV_s]; exact ⟨rfl, hi, rfl, hj⟩
                    · rw [if_neg c, if_neg c, upV_n c, upV_n c]; exact hst s (by omega)
                  · rw [prS_sh hsh2, sqL_new, List.map_append, upV_n (show 3 + 2 * p ≠ 1 by omega)]
                    have eold : (sqL T p st 0).map (fun s => (A (upV F st i s), M2 12 s)) = (sqL T p st 0).map (fun s => (A (F s), M 12 s)) := List.map_congr_left (fun s hs => by
                      have hs2 := sqL_mem.mp hs
                      rw [upV_n (show s ≠ st by omega), e12]
                      unfold upd
                      rw [if_neg (by omega)])
                    rw [eold, ← h4.2.1 p hp]
                    by_cases c : p = j
                    · subst c
                      rw [upV_s, if_pos rfl]
                      have hst3 : ∀ v ∈ CO (3 + 2 * p) ++ [q], stgOK S4 v := fun v hv => hSh4.stgO (by
                        rcases List.mem_append.mp hv with hv | hv
                        · exact fv3.stg ((h1.2.2.2.2.2.2.1 p hj).2 v hv)
                        · rw [List.mem_singleton.mp hv]; exact fv2.stg qst)
                      rw [fv5.pS hst3, prS_sh hSh4]
                      unfold prS
                      rw [List.map_append]
                      refine congr (congrArg _ (fv3.pS (h1.2.2.2.2.2.2.1 p hj).2)) ?_
                      show [(fr S3 q, S3.I 9 q)] = [(A (upV F st i st), M2 12 st)]
                      rw [fv2.frE qK, fv2.2.1 9 q qK.1 (by decide), qI, upV_s, e12]
                      unfold fr upd
                      rw [qP, if_pos rfl]; rfl
                    · rw [upV_n (show 3 + 2 * p ≠ 3 + 2 * j by omega), if_neg (fun z => c z.symm), List.map_nil, List.append_nil]
                      have hst3 : ∀ v ∈ CO (3 + 2 * p), stgOK S4 v := fun v hv => hSh4.stgO (fv3.stg ((h1.2.2.2.2.2.2.1 p hp).2 v hv))
                      rw [fv5.pS hst3, prS_sh hSh4, fv3.pS (h1.2.2.2.2.2.2.1 p hp).2]
                  · rw [show (S5.sI 15 x (S5.I 15 x + 1)).I 15 x = S5.I 15 x + 1 from sI_s, x15, nI_sc]
                  · exact (show lead S5 A (upV F st i) (upV T st j) n (st + 1) from ld4.fv fv5 hAm4 hst9)
                  · rw [upV_n (by omega), upV_n (by omega)]; exact h4.2.2.2.2.2.2.1
                  · rw [upV_s, hl2]
                · refine scal.m (M := M) ?_ (fun k h9 => gk k ?_ ?_ ?_ ?_ ?_ ?_)
                  · refine scal.cg (S := S5) (scal.fv (S := S4) (scal.cg (S := S3) (h5.fv fv3) hSh4 y4 (fun k _ _ => by rw [y3])) fv5) hsh2 rfl (fun k _ hk => sI_ne (by omega))
                  all_goals (intro z; rw [z] at h9; cases h9)
                · have b12 : ∀ s, s < st + 1 → 0 ≤ (M2 12 s).toInt ∧ (M2 12 s).toInt ≤ 100000 := fun s hs => by
                    have z1 : (0 : Int32).toInt = 0 := rfl
                    have z2 : (100000 : Int32).toInt = 100000 := by decide
                    rw [e12]
                    unfold upd
                    by_cases c : s = st
                    · rw [if_pos c]; omega
                    · rw [if_neg c]; exact h6.2.2.1 s (by omega)
                  refine ⟨?_, ?_, b12, ?_⟩
                  · rw [gk 2 (by decide) (by decide) (by decide) (by decide) (by decide) (by decide), gk 3 (by decide) (by decide) (by decide) (by decide) (by decide) (by decide), gk 4 (by decide) (by decide) (by decide) (by decide) (by decide) (by decide)]; exact h6.1
                  · rw [gk 5 (by decide) (by decide) (by decide) (by decide) (by decide) (by decide)]; exact h6.2.1
                  · rw [gk 13 (by decide) (by decide) (by decide) (by decide) (by decide) (by decide)]; exact h6.2.2.2
          · refine Or.inr ⟨xIS, 3, by simp, by decide, fun X => c_stageT5 l hlt E X S hO (i := i) (j := j) (by rw [nsL]; exact hi) (by rw [nsL]; exact hj) hij a1 a2 (by rw [h4.2.2.1, show st = 80 by have := h4.1.2.1; omega]; decide), _, fun Y S9 => c_mstageF l E o a M Y S9 h2.2.2.1 h40 hi hj hij w1 (by rw [h4.1.1, show st = 80 by have := h4.1.2.1; omega]; rfl), ?_⟩
            rintro v2 M2 ⟨rfl, e2⟩
            exact ⟨⟨_, rfl⟩, by rw [← e2]; exact u2_self, hR0.code e2⟩
        · refine Or.inr ⟨xIA, 2, by simp, by decide, fun X => c_stageT4 l hlt E X S hO (i := i) (j := j) (by rw [nsL]; exact hi) (by rw [nsL]; exact hj) hij g, _, fun Y S9 => c_mstageB2 l E o a M Y S9 h2.2.2.1 h40 hi hj (Or.inr w1), ?_⟩
          rintro v2 M2 ⟨rfl, e2⟩
          exact ⟨⟨_, rfl⟩, by rw [← e2]; exact u2_self, hR0.code e2⟩
    · refine Or.inr ⟨xIO, 1, by simp, by decide, fun X => c_stageT2 l hlt E X S hO (i := i) (by rw [nsL]; exact hi) (by rw [nsL]; exact hv), _, fun Y S9 => c_mstageB1 l E o a M Y S9 (Or.inr (isn_f h2.2.2.1 hv)), ?_⟩
      rintro v2 M2 ⟨rfl, e2⟩
      exact ⟨⟨_, rfl⟩, by rw [← e2]; exact u2_self, hR0.code e2⟩
  · refine Or.inr ⟨xIO, 1, by simp, by decide, fun X => c_stageT1 l hlt E X S hO (by rw [nsL]; exact hv), _, fun Y S9 => c_mstageB1 l E o a M Y S9 (Or.inl (isn_f h2.2.2.1 hv)), ?_⟩
    rintro v2 M2 ⟨rfl, e2⟩
    exact ⟨⟨_, rfl⟩, by rw [← e2]; exact u2_self, hR0.code e2⟩
