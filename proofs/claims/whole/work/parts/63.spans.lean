/-! ===== the class's spans, by numbers ===== -/
/-- a stage as the class holds it: its start and its delay -/
def prS (S : HS) (ss : List Nat) : List (Nat × Int32) := ss.map (fun v => (fr S v, S.I 9 v))
/-- the stages to net q -/
def sqL (T : Nat → Nat) (q m s : Nat) : List Nat := (List.range' s m).filter (fun s => decide (T s = q))
theorem sqL_mem {T : Nat → Nat} {q m s z : Nat} : z ∈ sqL T q m s ↔ (s ≤ z ∧ z < s + m) ∧ T z = q := by
  unfold sqL
  rw [List.mem_filter, List.mem_range'_1, decide_eq_true_iff]
theorem sqL_s {T : Nat → Nat} {q m s : Nat} : sqL T q (m + 1) s = if T s = q then s :: sqL T q m (s + 1) else sqL T q m (s + 1) := by
  unfold sqL
  rw [List.range'_succ, List.filter_cons]
  by_cases c : T s = q
  · rw [if_pos c, if_pos (by simpa using c)]
  · rw [if_neg c, if_neg (by simpa using c)]
def lsB (F : Nat → Nat) (D B : Nat → Int32) : List Nat → Int32 → Int32
  | [], m => m
  | s :: l, m => lsB F D B l (if B (F s) + D s < m then B (F s) + D s else m)
def lsE (F : Nat → Nat) (D En : Nat → Int32) : List Nat → Int32 → Int32
  | [], m => m
  | s :: l, m => lsE F D En l (if m < En (F s) + D s then En (F s) + D s else m)
theorem mn_e (b v : Int32) : (if b ≤ v then b else v) = (if v < b then v else b) := by
  by_cases c : b ≤ v
  · rw [if_pos c, if_neg (Int32.not_lt.mpr c)]
  · rw [if_neg c, if_pos (Int32.not_le.mp c)]
theorem mx_e (e v : Int32) : (if v ≤ e then e else v) = (if e < v then v else e) := by
  by_cases c : v ≤ e
  · rw [if_pos c, if_neg (Int32.not_lt.mpr c)]
  · rw [if_neg c, if_pos (Int32.not_le.mp c)]
theorem sI_s {S : HS} {k a : Nat} {v : Int32} : (S.sI k a v).I k a = v := u2_self
theorem sI_o {S : HS} {k a k2 b : Nat} {v : Int32} (h : b ≠ a) : (S.sI k a v).I k2 b = S.I k2 b := u2_ne2 h
theorem spI_tr {F T : Nat → Nat} {D B En : Nat → Int32} {q : Nat} : ∀ (m s : Nat) (b e : Int32), spI F T D B En q m s (b, e, true) = (lsB F D B (sqL T q m s) b, lsE F D En (sqL T q m s) e, true)
  | 0, _, _, _ => rfl
  | m + 1, s, b, e => by
    show spI F T D B En q m (s + 1) (spJ F T D B En q s (b, e, true)) = _
    rw [sqL_s]
    by_cases c : T s = q
    · rw [spJ_1 c, spI_tr m (s + 1), if_pos c, mn_e, mx_e]; rfl
    · rw [spJ_n c, spI_tr m (s + 1), if_neg c]
theorem i_max (v : Int32) : (if v < 2147483647 then v else 2147483647) = v := by
  by_cases c : v < 2147483647
  · rw [if_pos c]
  · rw [if_neg c]
    have h1 := Int32.not_lt.mp c
    rw [Int32.le_iff_toInt_le] at h1
    have h2 := Int32.toInt_le v
    have h3 : (2147483647 : Int32).toInt = 2147483647 := by decide
    refine Int32.toInt_inj.mp ?_
    have h4 : (Int32.maxValue).toInt = 2147483647 := by decide
    omega
theorem i_pos {v : Int32} (h : 0 ≤ v.toInt) : (if 0 < v then v else 0) = v := by
  by_cases c : 0 < v
  · rw [if_pos c]
  · rw [if_neg c]
    have h1 := Int32.not_lt.mp c
    rw [Int32.le_iff_toInt_le, Int32.toInt_zero] at h1
    refine Int32.toInt_inj.mp ?_
    rw [Int32.toInt_zero]; omega
theorem spI_fa {F T : Nat → Nat} {D B En : Nat → Int32} {q : Nat} : ∀ (m s : Nat) (b e : Int32), (∀ z ∈ sqL T q m s, 0 ≤ (En (F z) + D z).toInt) → spI F T D B En q m s (b, e, false) = if (sqL T q m s).length = 0 then (b, e, false) else (lsB F D B (sqL T q m s) 2147483647, lsE F D En (sqL T q m s) 0, true)
  | 0, _, _, _, _ => rfl
  | m + 1, s, b, e, h => by
    show spI F T D B En q m (s + 1) (spJ F T D B En q s (b, e, false)) = _
    rw [sqL_s] at h ⊢
    by_cases c : T s = q
    · rw [if_pos c] at h
      rw [spJ_0 c, spI_tr m (s + 1), if_pos c, if_neg (by simp)]
      show _ = (lsB F D B (sqL T q m (s + 1)) (if B (F s) + D s < 2147483647 then B (F s) + D s else 2147483647), lsE F D En (sqL T q m (s + 1)) (if 0 < En (F s) + D s then En (F s) + D s else 0), true)
      rw [i_max, i_pos (h s List.mem_cons_self)]
    · rw [if_neg c] at h
      rw [spJ_n c, spI_fa m (s + 1) b e h, if_neg c]
theorem lof_ls {S : HS} {A : Nat → Nat} {F : Nat → Nat} {D B : Nat → Int32} : ∀ (ss l : List Nat) (m : Int32), prS S ss = l.map (fun s => (A (F s), D s)) → (∀ s ∈ l, S.I 4 (A (F s)) = B (F s)) → lof S ss m = lsB F D B l m
  | [], [], _, _, _ => rfl
  | [], z :: l, _, h, _ => by cases h
  | v :: ss, [], _, h, _ => by cases h
  | v :: ss, z :: l, m, h, hB => by
    unfold prS at h
    simp only [List.map_cons, List.cons.injEq, Prod.mk.injEq] at h
    obtain ⟨⟨h1, h2⟩, h3⟩ := h
    unfold lof lsB
    rw [h1, h2, hB z List.mem_cons_self]
    exact lof_ls ss l _ h3 (fun s hs => hB s (List.mem_cons_of_mem _ hs))
theorem hif_ls {S : HS} {A : Nat → Nat} {F : Nat → Nat} {D En : Nat → Int32} : ∀ (ss l : List Nat) (m : Int32), prS S ss = l.map (fun s => (A (F s), D s)) → (∀ s ∈ l, S.I 5 (A (F s)) = En (F s)) → hif S ss m = lsE F D En l m
  | [], [], _, _, _ => rfl
  | [], z :: l, _, h, _ => by cases h
  | v :: ss, [], _, h, _ => by cases h
  | v :: ss, z :: l, m, h, hB => by
    unfold prS at h
    simp only [List.map_cons, List.cons.injEq, Prod.mk.injEq] at h
    obtain ⟨⟨h1, h2⟩, h3⟩ := h
    unfold hif lsE
    rw [h1, h2, hB z List.mem_cons_self]
    exact hif_ls ss l _ h3 (fun s hs => hB s (List.mem_cons_of_mem _ hs))
theorem lsE_bd {F : Nat → Nat} {D En : Nat → Int32} {X : Int} : ∀ (l : List Nat) (m : Int32), (∀ s ∈ l, 0 ≤ (En (F s) + D s).toInt ∧ (En (F s) + D s).toInt ≤ X) → 0 ≤ m.toInt → m.toInt ≤ X → 0 ≤ (lsE F D En l m).toInt ∧ (lsE F D En l m).toInt ≤ X
  | [], _, _, h1, h2 => ⟨h1, h2⟩
  | s :: l, m, h, h1, h2 => by
    have hs := h s List.mem_cons_self
    unfold lsE
    by_cases c : m < En (F s) + D s
    · rw [if_pos c]; exact lsE_bd l _ (fun z hz => h z (List.mem_cons_of_mem _ hz)) hs.1 hs.2
    · rw [if_neg c]; exact lsE_bd l _ (fun z hz => h z (List.mem_cons_of_mem _ hz)) h1 h2
theorem add_in {x z : Int32} (h1 : 0 ≤ x.toInt) (h2 : 0 ≤ z.toInt) (h3 : x.toInt + z.toInt < 2147483648) : (x + z).toInt = x.toInt + z.toInt := by
  rw [Int32.toInt_add]
  exact Int.bmod_eq_of_le (by omega) (by omega)
/-- what the class's nets hold that no round changes -/
def stt (S : HS) (A : Nat → Nat) (ss : Nat → List Nat) (F T : Nat → Nat) (st n : Nat) (D E0 L0 ad : Nat → Int32) : Prop := (∀ q, q < n → S.I 1 (A q) = E0 q ∧ S.I 2 (A q) = L0 q ∧ S.I 6 (A q) = ad q ∧ prS S (ss (A q)) = (sqL T q st 0).map (fun s => (A (F s), D s))) ∧ (∀ s, s < st → F s < n ∧ 0 ≤ (D s).toInt ∧ (D s).toInt ≤ 100000) ∧ (∀ q, q < n → 0 ≤ (L0 q).toInt ∧ (L0 q).toInt ≤ 1000000 ∧ 0 ≤ (ad q).toInt ∧ (ad q).toInt ≤ 80000)
theorem prS_sh {S S1 : HS} (h : Sh S S1) (ss : List Nat) : prS S1 ss = prS S ss := by
  unfold prS
  refine List.map_congr_left (fun v _ => ?_)
  rw [h.frE, h.2.2.2.2.2.2.2.2.2.2.1]
theorem stt_sh {S S1 : HS} {A : Nat → Nat} {ss : Nat → List Nat} {F T : Nat → Nat} {st n : Nat} {D E0 L0 ad : Nat → Int32} (h : stt S A ss F T st n D E0 L0 ad) (hs : Sh S S1) (h6 : S1.I 6 = S.I 6) : stt S1 A ss F T st n D E0 L0 ad := by
  refine ⟨fun q hq => ?_, h.2⟩
  obtain ⟨a, b, c, d⟩ := h.1 q hq
  refine ⟨?_, ?_, by rw [h6]; exact c, (prS_sh hs _).trans d⟩
  · rw [hs.2.2.2.2.2.2.1]; exact a
  · rw [hs.2.2.2.2.2.2.2.1]; exact b
theorem sp_step {S : HS} {A : Nat → Nat} {ss : Nat → List Nat} {F T : Nat → Nat} {st n : Nat} {D E0 L0 ad : Nat → Int32} (h : stt S A ss F T st n D E0 L0 ad) {f : Nat → Int32 × Int32} (hf : ∀ q, q < n → (S.I 4 (A q), S.I 5 (A q)) = f q) {q : Nat} (hq : q < n) {X : Int} (hX : X ≤ 2000000000) (hb : ∀ p, bef F T st p q → 0 ≤ (S.I 5 (A p)).toInt ∧ (S.I 5 (A p)).toInt ≤ X) (hX0 : 1000000 ≤ X) : (spB S (A q) (ss (A q)), spE S (A q) (ss (A q))) = gSp F T st D E0 L0 ad f q ∧ 0 ≤ (spE S (A q) (ss (A q))).toInt ∧ (spE S (A q) (ss (A q))).toInt ≤ X + 180000 := by
  obtain ⟨a, b, c, d⟩ := h.1 q hq
  have hin : ∀ z ∈ sqL T q st 0, (f (F z)).2 = S.I 5 (A (F z)) ∧ (f (F z)).1 = S.I 4 (A (F z)) := fun z hz => by
    have hz2 := sqL_mem.mp hz
    rw [← hf (F z) (h.2.1 z (by omega)).1]; exact ⟨rfl, rfl⟩
  have hbd : ∀ z ∈ sqL T q st 0, 0 ≤ ((uz f).2 (F z) + D z).toInt ∧ ((uz f).2 (F z) + D z).toInt ≤ X + 100000 := fun z hz => by
    have hz2 := sqL_mem.mp hz
    have h1 := hb (F z) ⟨z, by omega, hz2.2, rfl⟩
    have h2 := h.2.1 z (by omega)
    show 0 ≤ ((f (F z)).2 + D z).toInt ∧ ((f (F z)).2 + D z).toInt ≤ X + 100000
    rw [(hin z hz).1, add_in h1.1 h2.2.1 (by omega)]; omega
  have hlen : (ss (A q)).length = (sqL T q st 0).length := by
    have := congrArg List.length d
    unfold prS at this
    rwa [List.length_map, List.length_map] at this
  have e1 : spB S (A q) (ss (A q)) = (spI F T D (uz f).1 (uz f).2 q st 0 (E0 q, L0 q, false)).1 := by
    rw [spI_fa st 0 _ _ (fun z hz => (hbd z hz).1)]
    unfold spB
    rw [hlen]
    by_cases c0 : (sqL T q st 0).length = 0
    · rw [if_pos c0, if_pos c0]; exact a
    · rw [if_neg c0, if_neg c0]; exact lof_ls _ _ _ d (fun s hs => (hin s hs).2.symm)
  have e2 : spE S (A q) (ss (A q)) = (spI F T D (uz f).1 (uz f).2 q st 0 (E0 q, L0 q, false)).2.1 + ad q := by
    rw [spI_fa st 0 _ _ (fun z hz => (hbd z hz).1)]
    unfold spE
    rw [hlen, c]
    by_cases c0 : (sqL T q st 0).length = 0
    · rw [if_pos c0, if_pos c0, b]
    · rw [if_neg c0, if_neg c0, hif_ls (En := (uz f).2) _ _ _ d (fun s hs => (hin s hs).1.symm)]
  have hL := h.2.2 q hq
  have e3 : 0 ≤ ((spI F T D (uz f).1 (uz f).2 q st 0 (E0 q, L0 q, false)).2.1).toInt ∧ ((spI F T D (uz f).1 (uz f).2 q st 0 (E0 q, L0 q, false)).2.1).toInt ≤ X + 100000 := by
    rw [spI_fa st 0 _ _ (fun z hz => (hbd z hz).1)]
    by_cases c0 : (sqL T q st 0).length = 0
    · rw [if_pos c0]; exact ⟨hL.1, by show (L0 q).toInt ≤ _; omega⟩
    · rw [if_neg c0]; exact lsE_bd _ _ hbd (by decide) (by rw [Int32.toInt_zero]; omega)
  refine ⟨by rw [e1, e2]; rfl, ?_⟩
  rw [e2, add_in e3.1 hL.2.2.1 (by omega)]; omega
theorem wSp_z {A : Nat → Nat} {ss : Nat → List Nat} {F T : Nat → Nat} {st n : Nat} {D E0 L0 ad : Nat → Int32} (hA : ∀ p q, p < n → q < n → A p = A q → p = q) {fk : List Nat} (ht : topo (bef F T st) fk) (hnd : fk.Nodup) (hlt : ∀ q ∈ fk, q < n) (hl : fk.length ≤ 40) : ∀ (l2 l1 : List Nat) (S : HS) (f : Nat → Int32 × Int32), fk = l1 ++ l2 → stt S A ss F T st n D E0 L0 ad → (∀ q, q < n → (S.I 4 (A q), S.I 5 (A q)) = f q) → (∀ p ∈ l1, 0 ≤ (S.I 5 (A p)).toInt ∧ (S.I 5 (A p)).toInt ≤ 1000000 + 180000 * l1.length) → (∀ q, q < n → ((wSp ss (l2.map A) S).I 4 (A q), (wSp ss (l2.map A) S).I 5 (A q)) = psF (gSp F T st D E0 L0 ad) l2 f q)
  | [], l1, S, f, e, h, hf, hb => hf
  | a :: l2, l1, S, f, e, h, hf, hb => by
    have ha : a < n := hlt a (by rw [e]; simp)
    have hle : l1.length + 1 ≤ 40 := by
      have := congrArg List.length e
      simp at this; omega
    have hbef : ∀ p, bef F T st p a → p ∈ l1 := ht l1 l2 a e
    obtain ⟨g1, g2, g3⟩ := sp_step h hf ha (X := 1000000 + 180000 * l1.length) (by omega) (fun p hp => hb p (hbef p hp)) (by omega)
    have hSh : Sh S (spS ss S (A a)) := (Sh.rf.sI rfl).sI rfl
    have h6 : (spS ss S (A a)).I 6 = S.I 6 := by funext b; exact (sI_ne (show (6 : Nat) ≠ 5 by decide)).trans (sI_ne (show (6 : Nat) ≠ 4 by decide))
    have i5 : ∀ q, q < n → (spS ss S (A a)).I 5 (A q) = if q = a then spE S (A a) (ss (A a)) else S.I 5 (A q) := fun q hq => by
      by_cases c : q = a
      · rw [if_pos c, c]; exact u2_self
      · rw [if_neg c]
        have : A q ≠ A a := fun z => c (hA q a hq ha z)
        exact (sI_o this).trans (sI_o this)
    have i4 : ∀ q, q < n → (spS ss S (A a)).I 4 (A q) = if q = a then spB S (A a) (ss (A a)) else S.I 4 (A q) := fun q hq => by
      by_cases c : q = a
      · rw [if_pos c, c]; exact (sI_ne (show (4 : Nat) ≠ 5 by decide)).trans sI_s
      · rw [if_neg c]
        have : A q ≠ A a := fun z => c (hA q a hq ha z)
        exact (sI_o this).trans (sI_o this)
    refine wSp_z hA ht hnd hlt hl l2 (l1 ++ [a]) (spS ss S (A a)) (upV f a (gSp F T st D E0 L0 ad f a)) (by rw [e, List.append_assoc]; rfl) (stt_sh h hSh h6) (fun q hq => ?_) (fun p hp => ?_)
    · rw [i4 q hq, i5 q hq]
      by_cases c : q = a
      · rw [if_pos c, if_pos c, c, upV_s]; exact g1
      · rw [if_neg c, if_neg c, upV_n c]; exact hf q hq
    · have hp2 : p < n := hlt p (by rw [e]; rcases List.mem_append.mp hp with hp | hp <;> simp_all)
      rw [i5 p hp2, List.length_append, List.length_singleton]
      by_cases c : p = a
      · rw [if_pos c]; exact ⟨g2, by omega⟩
      · rw [if_neg c]
        have hp3 : p ∈ l1 := by
          rcases List.mem_append.mp hp with hp | hp
          · exact hp
          · exact absurd (List.mem_singleton.mp hp) c
        have := hb p hp3
        exact ⟨this.1, by omega⟩
/-- the class's spans are the reference's -/
theorem wSp_ref {S : HS} {A : Nat → Nat} {ss : Nat → List Nat} {F T : Nat → Nat} {st n : Nat} {D E0 L0 ad : Nat → Int32} (hA : ∀ p q, p < n → q < n → A p = A q → p = q) {fk : List Nat} (ht : topo (bef F T st) fk) (hnd : fk.Nodup) (hfk : ∀ q, q ∈ fk ↔ q < n) (h40 : n ≤ 40) (hl : fk.length ≤ n) (h : stt S A ss F T st n D E0 L0 ad) (p : R2F) {q : Nat} (hq : q < n) : (wSp ss (fk.map A) S).I 4 (A q) = (spR F T st n D E0 L0 ad n p).1 q ∧ (wSp ss (fk.map A) S).I 5 (A q) = (spR F T st n D E0 L0 ad n p).2 q := by
  have h1 := wSp_z hA ht hnd (fun q hq => (hfk q).mp hq) (by omega) fk [] S (fun q => (S.I 4 (A q), S.I 5 (A q))) rfl h (fun _ _ => rfl) (fun _ hp => absurd hp List.not_mem_nil) q hq
  have h2 := spR_flow (D := D) (E0 := E0) (L0 := L0) (ad := ad) ht hnd (fun q hq => (hfk q).mp hq) hl p (fun q => S.I 4 (A q), fun q => S.I 5 (A q)) q ((hfk q).mpr hq)
  have h3 : ((wSp ss (fk.map A) S).I 4 (A q), (wSp ss (fk.map A) S).I 5 (A q)) = zp (spR F T st n D E0 L0 ad n p) q := h1.trans h2.symm
  exact ⟨congrArg Prod.fst h3, congrArg Prod.snd h3⟩
