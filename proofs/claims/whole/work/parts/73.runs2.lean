theorem Rel.rctx {E : Ev} {S : HS} {M : MM} {x n st ran : Nat} {A LA RA F T : Nat → Nat} {CO ks : Nat → List Nat} {fk : List Nat} (h1 : shp E S x n A LA RA CO) (h2 : numb S M A n ran) (h3 : coup S M A CO ks n) (h4 : stag S M A F T CO fk x n st) (h6 : bnds M n st) : rctx M A F T (fun a => CO (2 + 2 * iv A n a)) (fun a => CO (3 + 2 * iv A n a)) ks fk n st S := by
  have hA := h1.2.2.2.2.2.2.2.1
  have hfk : ∀ q, q ∈ fk ↔ q < n := fun q => by rw [h4.2.2.2.2.2.1.mem_iff, List.mem_range]
  refine ⟨h2.2.2.2.1, hA, h4.2.2.2.2.1, h4.2.2.2.2.2.1.nodup_iff.mpr List.nodup_range, hfk, by rw [h4.2.2.2.2.2.1.length_eq, List.length_range]; exact Nat.le_refl _, coup.sums h1 h2 h3 h6, h6, fun s hs => (h4.1.2.2 s hs).2.1, fun q hq => ⟨(h2.1 q hq).2.1, (h2.1 q hq).2.2.1, ?_⟩⟩
  show prS S (CO (3 + 2 * iv A n (A q))) = _
  rw [iv_A hA hq]; exact h4.2.1 q hq
theorem d_run {l : Launch} (hlt : l.stackTraces = false) {E : Ev} {x o : Nat} {a : Nat → Nat} {S : HS} {M : MM} (hR : Rel E S M x) (v : Int32) (wd : Bool) : Duo l E x o a S M yX4_run (Cond.code yX4_run cX4_run 5 (some .int)) 7 0 0 yX5_run (Cond.code yX5_run cX5_run 6 (some .int)) 4 [.int v, .int (bI wd)] [(xIA, 1)] := by
  have hR0 := hR
  obtain ⟨n, st, r, rd, ran, t, ha, ta, cg, A, LA, RA, F, T, CO, ks, fk, h1, h2, h3, h4, h5, h6⟩ := hR
  have hO := h1.O h4.2.2.2.2.2.2.1
  have hfk : ∀ q, q ∈ fk ↔ q < n := fun q => by rw [h4.2.2.2.2.2.1.mem_iff, List.mem_range]
  have hF := h1.Fl h4.2.2.2.2.2.2.2 (fun q hq => (hfk q).mp hq)
  have h40 := h2.2.2.2.1
  have hA := h1.2.2.2.2.2.2.2.1
  rcases wi_cs v 1 50 with ⟨w1, a1, a2⟩ | ⟨w1, g⟩
  · have hb := wi_b w1
    have z1 : (1 : Int32).toInt = 1 := by decide
    have z2 : (50 : Int32).toInt = 50 := by decide
    have ev : v = nI v.toInt.toNat := Int32.toInt_inj.mp (by rw [nI_toInt (by omega)]; omega)
    have hr1 : 1 ≤ v.toInt.toNat := by omega
    have hr50 : v.toInt.toNat ≤ 50 := by omega
    generalize v.toInt.toNat = rr at ev hr1 hr50
    subst ev
    have hc := Rel.rctx h1 h2 h3 h4 h6
    have hlists : ∀ q, q < n → stl E S (A q) (LA (3 + 2 * iv A n (A q))) (RA (3 + 2 * iv A n (A q))) (CO (3 + 2 * iv A n (A q))) := fun q hq => by rw [iv_A hA hq]; exact h1.G hq
    have hlists2 : ∀ q, q < n → cpl E S (A q) (LA (2 + 2 * iv A n (A q))) (RA (2 + 2 * iv A n (A q))) (CO (2 + 2 * iv A n (A q))) := fun q hq => by rw [iv_A hA hq]; exact h1.C hq
    refine Or.inl ⟨_, fun X => c_run l E X S hO hF (ls := fun a => LA (3 + 2 * iv A n a)) (rs := fun a => RA (3 + 2 * iv A n a)) (ss := fun a => CO (3 + 2 * iv A n a)) (fun b hb => ?_) (lc := fun a => LA (2 + 2 * iv A n a)) (rc := fun a => RA (2 + 2 * iv A n a)) (vs := fun a => CO (2 + 2 * iv A n a)) (fun b hb => ?_) h5.2.1 hr1 hr50 wd, ?_⟩
    · obtain ⟨p, hp, e⟩ := List.mem_map.mp hb
      rw [← e]; exact hlists p ((hfk p).mp hp)
    · obtain ⟨p, hp, e⟩ := List.mem_map.mp hb
      rw [← e]; exact hlists2 p (List.mem_range.mp hp)
    · rintro X v9 X2 S2 ⟨rfl, rfl, rfl⟩
      refine ⟨rfl, _, rfl, fun _ => ⟨_, fun Y S9 => c_mrun l E o a M Y S9 h2.2.2.1 h40 h4.1 hr1 hr50 wd, ?_⟩⟩
      rintro v2 M2 ⟨rfl, g0, g17, g18, g19, g20, g21, g22, gk⟩
      generalize (fun a => CO (2 + 2 * iv A n a)) = vs at *
      generalize (fun a => CO (3 + 2 * iv A n a)) = ss at *
      have hk12 : S.I 12 x = M 13 0 := h5.2.2.2.2.1
      have hnx : ∀ j, j < n → (if wd = true then SDa S (A j) (S.I 12 x) (vs (A j)) false else 0) = (if wd = true then mSum M j n true else 0) := fun j hj => by
        by_cases c : wd = true
        · rw [if_pos c, if_pos c]
          exact SDa_m hc.2.2.2.2.2.2.1 hj M rfl rfl rfl hk12.symm (fun z => by cases z)
        · rw [if_neg c, if_neg c]
      have hin := inL_z hA (vs := vs) (kp := S.I 12 x) (wd := wd) (nx := fun j => if wd = true then mSum M j n true else 0) n 0 S (by omega) (fun j _ hj => hnx j (by omega))
      rw [← List.range_eq_range'] at hin
      have hsh1 : Sh S ((inL vs (S.I 12 x) wd ((List.range n).map A) S).sI 11 x (nI 0)) := (inL_sh vs (S.I 12 x) wd _ S).sI rfl
      have hJ1 : ((inL vs (S.I 12 x) wd ((List.range n).map A) S).sI 11 x (nI 0)).J = S.J := (inL_J vs (S.I 12 x) wd _ S).1
      have hR1 : ((inL vs (S.I 12 x) wd ((List.range n).map A) S).sI 11 x (nI 0)).R = S.R := (inL_J vs (S.I 12 x) wd _ S).2
      have hI1 : ∀ k, k ≠ 6 → k ≠ 11 → ((inL vs (S.I 12 x) wd ((List.range n).map A) S).sI 11 x (nI 0)).I k = S.I k := fun k k6 k11 => (funext fun b => sI_ne k11).trans (inL_I vs (S.I 12 x) wd k k6 _ S)
      have hI11 : ((inL vs (S.I 12 x) wd ((List.range n).map A) S).sI 11 x (nI 0)).I 11 x = nI 0 := sI_s
      have ha1 : adR ((inL vs (S.I 12 x) wd ((List.range n).map A) S).sI 11 x (nI 0)) A n (pre n (fun j => if wd = true then mSum M j n true else 0) (M 20)) := fun q hq => by
        rw [pre_lt hq]
        refine ⟨((sI_ne (by decide)).trans (hin q hq)).trans (if_pos (by omega)), ?_⟩
        by_cases c : wd = true
        · rw [if_pos c]; exact mSum_bd h6 h40 hq (h3.1 q hq).2 rfl rfl rfl true
        · rw [if_neg c]; decide
      generalize (inL vs (S.I 12 x) wd ((List.range n).map A) S).sI 11 x (nI 0) = S1 at *
      obtain ⟨i1, i2, i3, i4, i5, i6, i7, i8, i9⟩ := rn_sim (x := x) (cg := cg) rr 0 S1 _ (pre n (fun _ => 0) (M 21)) (pre n (fun _ => 0) (M 22)) (M 19) (hc.sh hsh1 hJ1) ha1 (by rw [hI1 12 (by decide) (by decide)]; exact hk12) hI11 (fun j hj => absurd hj (by omega))
      rw [← rn0.eq_def] at i1 i2 i3 i4 i9
      have hc2 := (hc.sh hsh1 hJ1).sh i5 i6
      generalize rn0 M F T st n rr wd = RR at *
      generalize hS' : (rnL vs ss ((List.range n).map A) (fk.map A) x cg rr 0 S1) = P at *
      obtain ⟨S', rm⟩ := P
      simp only at i1 i2 i3 i4 i5 i6 i7 i8 hc2 ⊢
      subst i1
      have hsh : Sh S (wSp ss (fk.map A) S') := (hsh1.trans i5).trans (wSp_sh ss _ S')
      have hJ : (wSp ss (fk.map A) S').J = S.J := (wSp_J ss _ S').1.trans (i6.trans hJ1)
      have hRR : ∀ b, b ≠ cg → (wSp ss (fk.map A) S').R b = S.R b := fun b hb => by rw [(wSp_J ss _ S').2, i7 b hb, hR1]
      have hRc : (wSp ss (fk.map A) S').R cg = S'.R cg := by rw [(wSp_J ss _ S').2]
      have hI : ∀ k, k ≠ 4 → k ≠ 5 → k ≠ 6 → k ≠ 11 → (wSp ss (fk.map A) S').I k = S.I k := fun k k4 k5 k6 k11 => (wSp_I ss k k4 k5 _ S').trans ((i8 k k4 k5 k6 k11).trans (hI1 k k6 k11))
      have hI6 : (wSp ss (fk.map A) S').I 6 = S'.I 6 := wSp_I ss 6 (by decide) (by decide) _ S'
      have hI11' : (wSp ss (fk.map A) S').I 11 = S'.I 11 := wSp_I ss 11 (by decide) (by decide) _ S'
      have hsp := fun q (hq : q < n) => hc2.sp i2 RR.2.1 RR.2.2.1 hq
      generalize wSp ss (fk.map A) S' = S2 at *
      refine ⟨rfl, g0, n, st, r, RR.2.2.2.2, n, t, ha, ta, cg, A, LA, RA, F, T, CO, ks, fk, h1.sh hsh, ⟨fun i hi => ?_, fun i hi => ?_, ?_, h40, g17, Nat.le_refl _⟩, ?_, ?_, ?_, ?_⟩
      · rw [hI 0 (by decide) (by decide) (by decide) (by decide), hI 1 (by decide) (by decide) (by decide) (by decide), hI 2 (by decide) (by decide) (by decide) (by decide), hI 3 (by decide) (by decide) (by decide) (by decide), hI6, g20, gk 2 rfl, gk 3 rfl, gk 4 rfl]
        obtain ⟨y1, y2, y3, y4, y5⟩ := h2.1 i hi
        exact ⟨y1, y2, y3, y4, (i2 i hi).1⟩
      · rw [if_pos hi, if_pos hi, g21, g22]; exact hsp i hi
      · rw [gk 1 rfl]; exact h2.2.2.1
      · exact mcs (F := F) (T := T) (st := st) (h3.cg hsh hJ) (gk 5 rfl) (gk 6 rfl) (gk 4 rfl)
      · refine (h4.cg hsh hJ (by rw [hI 15 (by decide) (by decide) (by decide) (by decide)])).m (fun k h9 => gk k ?_)
        rcases k with _ | _ | _ | _ | _ | _ | _ | _ | _ | _ | _ | _ | _ | k <;> first | rfl | cases h9
      · obtain ⟨b1, b2, b3, b4, b5, b6, b7, b8, b9, c1, c2, c3⟩ := h5
        refine ⟨⟨hsh.K b1.1, by rw [hsh.2.2.1]; exact b1.2.1, hsh.tblO b1.2.2⟩, ⟨hsh.K b2.1, by rw [hsh.2.2.1]; exact b2.2.1, hsh.K b2.2.2.1, by rw [hsh.2.2.2.1]; exact b2.2.2.2.1, by rw [hI11']; exact i3, by omega⟩, b3, b4, ?_, ?_, ?_, ?_, ?_, ?_, g18, ?_⟩
        · rw [hI 12 (by decide) (by decide) (by decide) (by decide), gk 13 rfl]; exact b5
        · rw [hI 13 (by decide) (by decide) (by decide) (by decide), gk 7 rfl]; exact b6
        · rw [hI 14 (by decide) (by decide) (by decide) (by decide), gk 8 rfl]; exact b7
        · rw [gk 7 rfl]; exact b8
        · rw [gk 14 rfl]; exact b9
        · rw [gk 15 rfl, gk 16 rfl, hRR ha (Ne.symm b3), hRR ta (Ne.symm b4)]; exact c1
        · rw [g19, hRc]; exact i4
      · unfold bnds
        rw [gk 2 rfl, gk 3 rfl, gk 4 rfl, gk 5 rfl, gk 12 rfl, gk 13 rfl]; exact h6
  · refine Or.inr ⟨xIA, 1, by simp, by decide, fun X => c_runT l hlt E X S g, _, fun Y S9 => c_mrunB l E o a M Y S9 w1, ?_⟩
    rintro v2 M2 ⟨rfl, e2⟩
    exact ⟨⟨_, rfl⟩, by rw [← e2]; exact u2_self, hR0.code e2⟩
