theorem Rel.scg {E : Ev} {S S1 : HS} {M : MM} {x : Nat} (h : Rel E S M x) (hs : Sh S S1) (hJ : S1.J = S.J) (hRR : S1.R = S.R) (hI : ∀ k, k ≠ 7 → S1.I k = S.I k) : Rel E S1 M x := by
  obtain ⟨n, st, r, rd, ran, t, ha, ta, cg, A, LA, RA, F, T, CO, ks, fk, h1, h2, h3, h4, h5, h6⟩ := h
  refine ⟨n, st, r, rd, ran, t, ha, ta, cg, A, LA, RA, F, T, CO, ks, fk, h1.sh hs, ?_, h3.cg hs hJ, h4.cg hs hJ (by rw [hI 15 (by decide)]), scal.cg h5 hs hRR (fun k hk hk2 => by rw [hI k (by omega)]), h6⟩
  unfold numb
  rw [hI 0 (by decide), hI 1 (by decide), hI 2 (by decide), hI 3 (by decide), hI 4 (by decide), hI 5 (by decide), hI 6 (by decide)]; exact h2
def lsN (F : Nat → Nat) (f : Nat → Int32) : List Nat → Int32 → Int32
  | [], m => m
  | s :: l, m => lsN F f l (if m < f (F s) then f (F s) else m)
theorem nzI_ls {F T : Nat → Nat} {hs ts : Nat → Int32} {r : Nat} {z : Nat → Int32} {q : Nat} : ∀ (k s : Nat) (m : Int32), 0 ≤ m → nzI F T hs ts r z q k s m = lsN F (fun p => thM hs ts (z p) r 0 0) (sqL T q k s) m
  | 0, _, _, _ => rfl
  | k + 1, s, m, h => by
    show nzI F T hs ts r z q k (s + 1) _ = _
    rw [sqL_s]
    by_cases c : T s = q
    · rw [if_pos c, if_pos c, mx_e]
      show _ = lsN F (fun p => thM hs ts (z p) r 0 0) (sqL T q k (s + 1)) (if m < thM hs ts (z (F s)) r 0 0 then thM hs ts (z (F s)) r 0 0 else m)
      refine nzI_ls k (s + 1) _ ?_
      by_cases d : m < thM hs ts (z (F s)) r 0 0
      · rw [if_pos d]; exact Int32.le_trans h (Int32.le_of_lt d)
      · rw [if_neg d]; exact h
    · rw [if_neg c, if_neg c, if_pos h]; exact nzI_ls k (s + 1) m h
theorem nof_ls {S : HS} {A F : Nat → Nat} {D : Nat → Int32} {hs ts : Nat → Int32} {n : Nat} {f : Nat → Int32} : ∀ (ss l : List Nat) (m : Int32), prS S ss = l.map (fun s => (A (F s), D s)) → (∀ s ∈ l, thrF hs ts n (S.I 7 (A (F s))) = f (F s)) → nof S hs ts n ss m = lsN F f l m
  | [], [], _, _, _ => rfl
  | [], z :: l, _, h, _ => by cases h
  | v :: ss, [], _, h, _ => by cases h
  | v :: ss, z :: l, m, h, hB => by
    unfold prS at h
    simp only [List.map_cons, List.cons.injEq, Prod.mk.injEq] at h
    obtain ⟨⟨h1, h2⟩, h3⟩ := h
    unfold nof lsN
    rw [h1, hB z List.mem_cons_self]
    exact nof_ls ss l _ h3 (fun s hs => hB s (List.mem_cons_of_mem _ hs))
theorem hgt_cg {S S1 : HS} (h : Sh S S1) (hJ : S1.J = S.J) {a : Nat} {kp : Int32} {vs : List Nat} : hgt S1 a kp vs = hgt S a kp vs := by
  have e1 : ∀ v, tg S1 v = tg S v := h.tgE
  have e2 : ∀ b, exB S1 a b = exB S a b := fun b => by unfold exB bv; rw [hJ, h.2.2.2.2.2.1]
  unfold hgt
  simp only [e1, e2, h.2.2.2.2.2.2.2.2.2.1]
theorem nz_z {A F T : Nat → Nat} {vs ss : Nat → List Nat} {n st r ha ta : Nat} {kp : Int32} {hs ts hg D : Nat → Int32} (hA : ∀ p q, p < n → q < n → A p = A q → p = q) (hst : ∀ s, s < st → F s < n) : ∀ (l : List Nat) (S : HS) (z : Nat → Int32), (∀ q ∈ l, q < n) → (∀ q, q < n → S.I 7 (A q) = z q) → (∀ q, q < n → hgt S (A q) kp (vs (A q)) = hg q ∧ prS S (ss (A q)) = (sqL T q st 0).map (fun s => (A (F s), D s))) → (∀ k, k < r → S.R ha k = hs k ∧ S.R ta k = ts k) → ∀ q, q < n → (nzL vs ss kp ha ta r (l.map A) S).I 7 (A q) = psF (gNz F T st hs ts r hg) l z q
  | [], S, z, _, h, _, _ => h
  | a :: l, S, z, hl, h, hh, hr => by
    have han := hl a List.mem_cons_self
    have key : hgt S (A a) kp (vs (A a)) + nof S (S.R ha) (S.R ta) r (ss (A a)) 0 = gNz F T st hs ts r hg z a := by
      unfold gNz
      rw [(hh a han).1, nzI_ls st 0 0 (by decide)]
      refine congrArg (hg a + ·) (nof_ls _ _ _ (hh a han).2 (fun s h9 => ?_))
      have h92 := sqL_mem.mp h9
      rw [h (F s) (hst s (by omega)), thr_cg r hr]
      exact (Nat.zero_add r ▸ (thM_thrF hs ts (z (F s)) r 0 0 rfl)).symm
    have hSh : Sh S (nzS vs ss kp ha ta r S (A a)) := Sh.rf.sI rfl
    show ∀ q, q < n → (nzL vs ss kp ha ta r (l.map A) (nzS vs ss kp ha ta r S (A a))).I 7 (A q) = psF (gNz F T st hs ts r hg) l (upV z a (gNz F T st hs ts r hg z a)) q
    refine nz_z hA hst l (nzS vs ss kp ha ta r S (A a)) _ (fun q hq => hl q (List.mem_cons_of_mem _ hq)) (fun q hq => ?_) (fun q hq => ⟨(hgt_cg hSh rfl).trans (hh q hq).1, (prS_sh hSh _).trans (hh q hq).2⟩) hr
    unfold nzS
    rw [key]
    by_cases c : q = a
    · rw [c, upV_s]; exact sI_s
    · rw [upV_n c]
      exact (sI_o (fun w => c (hA q a hq han w))).trans (h q hq)
theorem nzL_f (vs ss : Nat → List Nat) (kp : Int32) (ha ta r : Nat) : ∀ (l : List Nat) (S : HS), (nzL vs ss kp ha ta r l S).J = S.J ∧ (nzL vs ss kp ha ta r l S).R = S.R ∧ ∀ k, k ≠ 7 → (nzL vs ss kp ha ta r l S).I k = S.I k
  | [], S => ⟨rfl, rfl, fun _ _ => rfl⟩
  | a :: l, S => by
    obtain ⟨h1, h2, h3⟩ := nzL_f vs ss kp ha ta r l (nzS vs ss kp ha ta r S a)
    exact ⟨h1, h2, fun k hk => (h3 k hk).trans (funext fun b => sI_ne hk)⟩
theorem d_noise {l : Launch} (hlt : l.stackTraces = false) {E : Ev} {x o : Nat} {a : Nat → Nat} {S : HS} {M : MM} (hR : Rel E S M x) (v : Int32) : Duo l E x o a S M yX4_noise (Cond.code yX4_noise cX4_noise 5 (some .int)) 6 0 0 yX5_noise (Cond.code yX5_noise cX5_noise 7 (some .int)) 4 [.int v] [(xIO, 1)] := by
  have hR0 := hR
  obtain ⟨n, st, r, rd, ran, t, ha, ta, cg, A, LA, RA, F, T, CO, ks, fk, h1, h2, h3, h4, h5, h6⟩ := hR
  have hO := h1.O h4.2.2.2.2.2.2.1
  have hfk : ∀ q, q ∈ fk ↔ q < n := fun q => by rw [h4.2.2.2.2.2.1.mem_iff, List.mem_range]
  have hF := h1.Fl h4.2.2.2.2.2.2.2 (fun q hq => (hfk q).mp hq)
  have h40 := h2.2.2.2.1
  have hA := h1.2.2.2.2.2.2.2.1
  rcases num_split n (by omega) v with ⟨i, hi, e⟩ | hv
  · subst e
    have hc := Rel.rctx h1 h2 h3 h4 h6
    have hlists : ∀ q, q < n → stl E S (A q) (LA (3 + 2 * iv A n (A q))) (RA (3 + 2 * iv A n (A q))) (CO (3 + 2 * iv A n (A q))) := fun q hq => by rw [iv_A hA hq]; exact h1.G hq
    have hlists2 : ∀ q, q < n → cpl E S (A q) (LA (2 + 2 * iv A n (A q))) (RA (2 + 2 * iv A n (A q))) (CO (2 + 2 * iv A n (A q))) := fun q hq => by rw [iv_A hA hq]; exact h1.C hq
    refine Or.inl ⟨_, fun X => c_noise l E X S hO (i := i) (by rw [nsL]; exact hi) hF (ls := fun a => LA (3 + 2 * iv A n a)) (rs := fun a => RA (3 + 2 * iv A n a)) (ss := fun a => CO (3 + 2 * iv A n a)) (fun b hb => ?_) (lc := fun a => LA (2 + 2 * iv A n a)) (rc := fun a => RA (2 + 2 * iv A n a)) (vs := fun a => CO (2 + 2 * iv A n a)) (fun b hb => ?_) h5.1, ?_⟩
    · obtain ⟨p, hp, e⟩ := List.mem_map.mp hb
      rw [← e]; exact hlists p ((hfk p).mp hp)
    · obtain ⟨p, hp, e⟩ := List.mem_map.mp hb
      rw [← e]; exact hlists2 p ((hfk p).mp hp)
    · rintro X v9 X2 S2 ⟨rfl, rfl, rfl⟩
      refine ⟨rfl, _, rfl, fun _ => ⟨_, fun Y S9 => c_mnoise l E o a M Y S9 h2.2.2.1 h40 h4.1 h5.2.2.2.2.2.2.2.2.1 h5.1.2.2.2.2.2.2.2.2.2.2.1 hi, ?_⟩⟩
      rintro v2 M2 ⟨z0, hz0, rfl, g0, gk⟩
      generalize (fun a => CO (2 + 2 * iv A n a)) = vs at *
      generalize (fun a => CO (3 + 2 * iv A n a)) = ss at *
      obtain ⟨f1, f2, f3⟩ := nzL_f vs ss (S.I 12 x) ha ta r (fk.map A) S
      refine ⟨?_, g0, (hR0.scg (nzL_sh vs ss (S.I 12 x) ha ta r (fk.map A) S) f1 f2 f3).mcg (fun k hk => gk k (cne hk rfl) (cne hk rfl) (cne hk rfl))⟩
      rw [nsA]
      have e1 := nz_z (T := T) (st := st) (vs := vs) (ss := ss) (r := r) (ha := ha) (ta := ta) (kp := S.I 12 x) (hs := M 15) (ts := M 16) (hg := fun q => mHgt M q n) (D := M 12) hA (fun s hs => (h4.1.2.2 s hs).2.1) fk S (fun q => S.I 7 (A q)) (fun q hq => (hfk q).mp hq) (fun _ _ => rfl) (fun q hq => ⟨hgt_m hc.2.2.2.2.2.2.1 hq h5.2.2.2.2.1.symm, (hc.2.2.2.2.2.2.2.2.2 q hq).2.2⟩) (fun k hk => h5.2.2.2.2.2.2.2.2.2.1 k hk) i hi
      have e2 := nzR_flow (hs := M 15) (ts := M 16) (r := r) (hg := fun q => mHgt M q n) hc.2.2.1 hc.2.2.2.1 (fun q hq => (hfk q).mp hq) hc.2.2.2.2.2.1 z0 (fun q => S.I 7 (A q)) i ((hfk i).mpr hi)
      rw [e1, e2]
  · refine Or.inr ⟨xIO, 1, by simp, by decide, fun X => c_noiseT l hlt E X S hO (by rw [nsL]; exact hv), _, fun Y S9 => c_mnoiseB l E o a M Y S9 (isn_f h2.2.2.1 hv), ?_⟩
    rintro v2 M2 ⟨rfl, e2⟩
    exact ⟨⟨_, rfl⟩, by rw [← e2]; exact u2_self, hR0.code e2⟩
/-! ===== nothing there ===== -/
theorem shp.zero {E : Ev} {S : HS} {x n : Nat} {A LA RA : Nat → Nat} {CO : Nat → List Nat} (h : shp E S x n A LA RA CO) : shp E S x 0 A LA RA CO := by
  obtain ⟨a1, a2, a3, a4, a5, a6, a7, a8, a9⟩ := h
  exact ⟨a1, a2, a3, fun i hi => absurd hi (by omega), fun k hk => a5 k (by omega), fun k k2 hk hk2 => a6 k k2 (by omega) (by omega), fun i hi => absurd hi (by omega), fun p q hp => absurd hp (by omega), a9⟩
theorem shp.sI {E : Ev} {S : HS} {x n : Nat} {A LA RA : Nat → Nat} {CO : Nat → List Nat} (h : shp E S x n A LA RA CO) {k b : Nat} {v : Int32} (hk : k ≠ 17) : shp E (S.sI k b v) x n A LA RA CO := by
  obtain ⟨a1, a2, a3, a4, a5, a6, a7, a8, a9⟩ := h
  exact ⟨a1, a2, a3, a4, fun k9 hk9 => ⟨(a5 k9 hk9).1, (a5 k9 hk9).2.1, (sI_ne (Ne.symm hk)).trans (a5 k9 hk9).2.2.1, (a5 k9 hk9).2.2.2⟩, a6, a7, a8, a9⟩
theorem Rel.zero {E : Ev} {S : HS} {M : MM} {x t ha ta cg : Nat} {A LA RA : Nat → Nat} {CO : Nat → List Nat} (h1 : shp E S x 0 A LA RA CO) (c0 : CO 0 = []) (c1 : CO 1 = []) (hT : crT S x t ha ta 0) (hC : crC S x cg 0) (n1 : cg ≠ ha) (n2 : cg ≠ ta) (i12 : S.I 12 x = 4) (i13 : S.I 13 x = 0) (i14 : S.I 14 x = 0) (i15 : S.I 15 x = 0) (m : M 1 0 = 0 ∧ M 7 0 = 0 ∧ M 8 0 = 0 ∧ M 9 0 = 0 ∧ M 13 0 = 4 ∧ M 14 0 = 0 ∧ M 17 0 = 0 ∧ M 18 0 = 0 ∧ ∀ j, j < 1600 → M 5 j = 0 ∧ M 6 j = 0) : Rel E S M x := by
  obtain ⟨m1, m7, m8, m9, m13, m14, m17, m18, m56⟩ := m
  refine ⟨0, 0, 0, 0, 0, t, ha, ta, cg, A, LA, RA, id, id, CO, fun _ => [], [], h1, ⟨fun i hi => absurd hi (by omega), fun i hi => absurd hi (by omega), m1, by omega, m17, by omega⟩, ⟨fun i hi => absurd hi (by omega), fun i j hi hj _ => m56 _ (by omega), fun i j hi => absurd hi (by omega)⟩, ⟨⟨m9, by omega, fun s hs => absurd hs (by omega)⟩, fun i hi => absurd hi (by omega), i15, ⟨fun s hs => absurd hs (by omega), fun s j hs => absurd hs (by omega), fun i j hi => absurd hi (by omega), fun i hi => absurd hi (by omega), fun i j k hi => absurd hi (by omega)⟩, fun l1 l2 q e => ?_, List.Perm.refl _, c0, c1⟩, ⟨hT, hC, n1, n2, by rw [i12, m13], by rw [i13, m7], by rw [i14, m8], ⟨0, by omega, m7⟩, m14, fun k hk => absurd hk (by omega), m18, fun k hk => absurd hk (by omega)⟩, ⟨fun i hi => absurd hi (by omega), fun i j hi => absurd hi (by omega), fun s hs => absurd hs (by omega), by rw [m13]; decide, by rw [m13]; decide⟩⟩
  have := congrArg List.length e
  simp at this
theorem d_clear (l : Launch) {E : Ev} {x : Nat} {S : HS} {M : MM} (hR : Rel E S M x) : ∃ Po : va_W → Option Value → va_W → HS → Prop, (∀ X, Ctr l yX4_clear (Cond.code yX4_clear cX4_clear 1 none) 2 0 0 E [.ref x] X S (Po X)) ∧ ∀ X v X2 S2, Po X v X2 S2 → X = X2 ∧ none = v ∧ (E.sa 0 ∉ S2.L → ∀ M2, mclr M M2 → Rel E S2 M2 x) := by
  obtain ⟨n, st, r, rd, ran, t, ha, ta, cg, A, LA, RA, F, T, CO, ks, fk, h1, h2, h3, h4, h5, h6⟩ := hR
  have hO := h1.O h4.2.2.2.2.2.2.1
  have hfk : ∀ q, q ∈ fk ↔ q < n := fun q => by rw [h4.2.2.2.2.2.1.mem_iff, List.mem_range]
  have hF := h1.Fl h4.2.2.2.2.2.2.2 (fun q hq => (hfk q).mp hq)
  have hd := h1.2.2.2.2.2.1 1 0 (by omega) (by omega) (by omega)
  refine ⟨_, fun X => c_clear l E X S hO hF hd.1 (by rw [← h4.2.2.2.2.2.2.2]; exact hd.2) h5.1, ?_⟩
  rintro X v X2 S2 ⟨rfl, rfl, S1, S3, ⟨-, -, r2, L1, L2, L3⟩, ⟨-, -, r3, L4, L5, L6⟩, rfl⟩
  refine ⟨rfl, rfl, fun hsa M2 hM => ?_⟩
  obtain ⟨m0, m1, m7, m8, m9, m13, m14, m17, m18, m56⟩ := hM
  have hsa3 : E.sa 0 ∉ S3.L := hsa
  have hsa1 : E.sa 0 ∉ S1.L := fun z => hsa3 (L5.mem z)
  have s1 := h1.upd (k0 := 0) (by omega) L2 L1 L3 hsa1 (fun i _ e => by omega) (fun i _ e => by omega)
  have s3 := s1.upd (k0 := 1) (by omega) (by rw [upV_n (by omega)]; exact L5) L4 (by rw [upV_n (by omega)]; exact L6) hsa3 (fun i _ e => by omega) (fun i _ e => by omega)
  have f : FvH S S3 := L2.fv.trans L5.fv
  obtain ⟨⟨t1, t2, t3, t4, t5, t6, t7, t8, t9, u1, u9, u3⟩, b2, b3, b4, b5, b6, b7, b8, b9, c1, c2, c3⟩ := h5.fv f
  have s2 : shp E (clS S3 x t) x 0 A LA (upV (upV RA 0 r2) 1 r3) (upV (upV CO 0 []) 1 []) := (((((s3.zero.sI (k := 10) (by decide)).sI (k := 11) (by decide)).sI (k := 12) (by decide)).sI (k := 13) (by decide)).sI (k := 14) (by decide)).sI (k := 15) (by decide)
  have g : ∀ (k b : Nat) (z : Int32), k < 16 → clS S3 x t = clS S3 x t := fun _ _ _ _ => rfl
  refine Rel.zero s2 (by rw [upV_n (by omega), upV_s]) upV_s (t := t) (ha := ha) (ta := ta) (cg := cg) ⟨t1, t2, t3, t4, t5, t6, t7, t8, t9, ?_, by omega, u3⟩ ⟨b2.1, b2.2.1, b2.2.2.1, b2.2.2.2.1, ?_, by omega⟩ b3 b4 ?_ ?_ ?_ ?_ ⟨m1, m7, m8, m9, m13, m14, m17, m18, m56⟩
  · unfold clS; rw [sI_ne (by decide), sI_ne (by decide), sI_ne (by decide), sI_ne (by decide), sI_ne (by decide)]; exact sI_s
  · unfold clS; rw [sI_ne (by decide), sI_ne (by decide), sI_ne (by decide), sI_ne (by decide)]; exact sI_s
  · unfold clS; rw [sI_ne (by decide), sI_ne (by decide), sI_ne (by decide)]; exact sI_s
  · unfold clS; rw [sI_ne (by decide), sI_ne (by decide)]; exact sI_s
  · unfold clS; rw [sI_ne (by decide)]; exact sI_s
  · unfold clS; exact sI_s
theorem Rel.init {E : Ev} {X X2 : va_W} {x : Nat} {S2 : HS} {v : Option Value} (h : NewC E X x v X2 S2) (hsa : E.sa 0 ∉ S2.L) : Rel E S2 mz x := by
  obtain ⟨-, -, ln, lf, t, ha, ta, cg, hO, hF, hne, hT, hC, n1, n2, i12, i13, i14, i15⟩ := h
  refine Rel.zero (A := id) (LA := fun k => if k = 0 then ln else lf) (RA := fun _ => E.sa 0) (CO := fun _ => []) ⟨hO.1, hO.2.1, hF.2.1, fun i hi => absurd hi (by omega), fun k hk => ?_, fun k k2 hk hk2 hnk => ⟨?_, Or.inr ⟨rfl, rfl⟩⟩, fun i hi => absurd hi (by omega), fun p q hp => absurd hp (by omega), hsa⟩ rfl rfl hT hC n1 n2 i12 i13 i14 i15 ⟨rfl, rfl, rfl, rfl, rfl, rfl, rfl, rfl, fun j _ => ⟨rfl, rfl⟩⟩
  · by_cases c : k = 0
    · subst c; exact hO.2.2.1
    · show isAL E S2 (if k = 0 then ln else lf) _ _
      rw [if_neg c]; exact hF.2.2.1
  · show (if k = 0 then ln else lf) ≠ (if k2 = 0 then ln else lf)
    by_cases c : k = 0
    · rw [if_pos c, if_neg (by omega)]; exact hne
    · rw [if_neg c, if_pos (by omega)]; exact Ne.symm hne
