/-! ===== what a pass leaves, where the nets have an order ===== -/
/-- a table, one entry anew -/
def upV {V : Type} (f : Nat → V) (k : Nat) (x : V) : Nat → V := fun j => if j = k then x else f j
theorem upV_s {V : Type} {f : Nat → V} {k : Nat} {x : V} : upV f k x k = x := if_pos rfl
theorem upV_n {V : Type} {f : Nat → V} {k j : Nat} {x : V} (h : j ≠ k) : upV f k x j = f j := if_neg h
/-- entries anew, in an order -/
def psF {V : Type} (g : (Nat → V) → Nat → V) : List Nat → (Nat → V) → (Nat → V)
  | [], f => f
  | q :: l, f => psF g l (upV f q (g f q))
theorem psF_app {V : Type} (g : (Nat → V) → Nat → V) : ∀ (l1 l2 : List Nat) (f : Nat → V), psF g (l1 ++ l2) f = psF g l2 (psF g l1 f)
  | [], _, _ => rfl
  | q :: l, l2, f => psF_app g l l2 _
theorem psF_out {V : Type} (g : (Nat → V) → Nat → V) {j : Nat} : ∀ (l : List Nat) (f : Nat → V), j ∉ l → psF g l f j = f j
  | [], _, _ => rfl
  | q :: l, f, h => by
    rw [List.mem_cons, not_or] at h
    show psF g l (upV f q (g f q)) j = f j
    rw [psF_out g l _ h.2, upV_n h.1]
/-- passes -/
def psN {V : Type} (g : (Nat → V) → Nat → V) (l : List Nat) : Nat → (Nat → V) → (Nat → V)
  | 0, f => f
  | k + 1, f => psN g l k (psF g l f)
/-- g looks only at nets that p says are before -/
def loc {V : Type} (g : (Nat → V) → Nat → V) (bf : Nat → Nat → Prop) : Prop := ∀ (f f2 : Nat → V) (q : Nat), (∀ p, bf p q → f p = f2 p) → g f q = g f2 q
/-- an order in which every net comes behind those before it -/
def topo (bf : Nat → Nat → Prop) (l : List Nat) : Prop := ∀ (l1 l2 : List Nat) (q : Nat), l = l1 ++ q :: l2 → ∀ p, bf p q → p ∈ l1
theorem psF_fix {V : Type} {g : (Nat → V) → Nat → V} {bf : Nat → Nat → Prop} (hg : loc g bf) {l : List Nat} (ht : topo bf l) (hn : l.Nodup) : ∀ (l2 l1 : List Nat) (f : Nat → V), l = l1 ++ l2 → (∀ q ∈ l1, f q = g f q) → ∀ q ∈ l, psF g l2 f q = g (psF g l2 f) q
  | [], l1, f, e, h => by
    rw [List.append_nil] at e; subst e; exact h
  | a :: l2, l1, f, e, h => by
    have hd : a ∉ l1 := fun c => by
      rw [e, List.nodup_append] at hn
      exact hn.2.2 a c a List.mem_cons_self rfl
    have hk : ∀ q, (∀ p, bf p q → p ∈ l1) → g f q = g (upV f a (g f a)) q := fun q hq => hg _ _ q (fun p hp => (upV_n (fun (c : p = a) => hd (c ▸ hq p hp))).symm)
    refine psF_fix hg ht hn l2 (l1 ++ [a]) (upV f a (g f a)) (by rw [e, List.append_assoc]; rfl) (fun q hq => ?_)
    rcases List.mem_append.mp hq with hq | hq
    · have hne : q ≠ a := fun c => hd (c ▸ hq)
      obtain ⟨m1, m2, hm⟩ := List.append_of_mem hq
      rw [upV_n hne, h q hq]
      refine hk q (fun p hp => ?_)
      rw [hm]
      exact List.mem_append_left _ (ht m1 (m2 ++ a :: l2) q (by rw [e, hm, List.append_assoc]; rfl) p hp)
    · rw [List.mem_singleton] at hq; subst hq
      rw [upV_s]
      exact hk q (ht l1 l2 q e)
theorem psF_right {V : Type} {g : (Nat → V) → Nat → V} {bf : Nat → Nat → Prop} (hg : loc g bf) {fx : Nat → V} {R R2 : Nat → Prop} (hb : ∀ q, R2 q → ∀ p, bf p q → R p) (hx : ∀ q, R2 q → fx q = g fx q) : ∀ (l : List Nat) (f : Nat → V) (U : Nat → Prop), (∀ q, R q → U q) → (∀ q, U q → R2 q) → (∀ q, U q → f q = fx q) → ∀ q, (U q ∨ (R2 q ∧ q ∈ l)) → psF g l f q = fx q
  | [], f, U, _, _, h, q, hq => by
    rcases hq with hq | ⟨_, hq⟩
    · exact h q hq
    · cases hq
  | a :: l, f, U, h1, h2, h, q, hq => by
    have key : R2 a → g f a = fx a := fun ha => by
      rw [hx a ha]; exact hg _ _ a (fun p hp => h p (h1 p (hb a ha p hp)))
    refine psF_right hg hb hx l (upV f a (g f a)) (fun z => U z ∨ (z = a ∧ R2 a)) (fun z hz => Or.inl (h1 z hz)) (fun z hz => ?_) (fun z hz => ?_) q ?_
    · rcases hz with hz | ⟨e, hz⟩
      · exact h2 z hz
      · subst e; exact hz
    · by_cases e : z = a
      · subst e; rw [upV_s]
        rcases hz with hz | ⟨_, hz⟩
        · exact key (h2 _ hz)
        · exact key hz
      · rw [upV_n e]
        rcases hz with hz | ⟨e2, _⟩
        · exact h z hz
        · exact absurd e2 e
    · rcases hq with hq | ⟨hq, hm⟩
      · exact Or.inl (Or.inl hq)
      · rcases List.mem_cons.mp hm with e | hm
        · subst e; exact Or.inl (Or.inr ⟨rfl, hq⟩)
        · exact Or.inr ⟨hq, hm⟩
theorem topo_take {bf : Nat → Nat → Prop} {l : List Nat} (ht : topo bf l) {k q p : Nat} (hq : q ∈ l.take (k + 1)) (hp : bf p q) : p ∈ l.take k := by
  obtain ⟨i, hi, e⟩ := List.mem_iff_getElem.mp hq
  rw [List.length_take] at hi
  rw [List.getElem_take] at e
  have hl : i < l.length := by omega
  have h1 := ht (l.take i) (l.drop (i + 1)) q (by rw [← e, List.getElem_cons_drop, List.take_append_drop]) p hp
  exact (List.take_subset_take_left l (by omega)) h1
theorem psN_right {V : Type} {g : (Nat → V) → Nat → V} {bf : Nat → Nat → Prop} (hg : loc g bf) {l l9 : List Nat} (ht : topo bf l) (hs : ∀ q ∈ l, q ∈ l9) {fx : Nat → V} (hx : ∀ q ∈ l, fx q = g fx q) : ∀ (m k : Nat) (f : Nat → V), (∀ q ∈ l.take k, f q = fx q) → ∀ q ∈ l.take (k + m), psN g l9 m f q = fx q
  | 0, k, f, h, q, hq => h q hq
  | m + 1, k, f, h, q, hq => by
    refine psN_right hg ht hs hx m (k + 1) (psF g l9 f) (fun z hz => ?_) q (by rw [show k + 1 + m = k + (m + 1) by omega]; exact hq)
    exact psF_right hg (R := fun z => z ∈ l.take k) (R2 := fun z => z ∈ l.take (k + 1)) (fun a ha p hp => topo_take ht ha hp) (fun a ha => hx a (List.mem_of_mem_take ha)) l9 f (fun z => z ∈ l.take k) (fun _ h => h) (fun a ha => (List.take_subset_take_left l (by omega)) ha) h z (Or.inr ⟨hz, hs z (List.mem_of_mem_take hz)⟩)
/-- so many passes as there are nets: any order comes to what one pass in the nets' order leaves -/
theorem psN_fix {V : Type} {g : (Nat → V) → Nat → V} {bf : Nat → Nat → Prop} (hg : loc g bf) {l l9 : List Nat} (ht : topo bf l) (hn : l.Nodup) (hs : ∀ q ∈ l, q ∈ l9) {n : Nat} (hl : l.length ≤ n) (f f0 : Nat → V) : ∀ q ∈ l, psN g l9 n f q = psF g l f0 q := fun q hq => psN_right hg ht hs (psF_fix hg ht hn l [] f0 rfl (fun _ h => absurd h List.not_mem_nil)) n 0 f (fun _ h => absurd h (by simp)) q (by rw [Nat.zero_add, List.take_of_length_le hl]; exact hq)
/-! ===== the spans ===== -/
abbrev R2F : Type := (Nat → Int32) × (Nat → Int32)
def zp (p : R2F) : Nat → Int32 × Int32 := fun q => (p.1 q, p.2 q)
def uz (f : Nat → Int32 × Int32) : R2F := (fun q => (f q).1, fun q => (f q).2)
theorem uz_zp (p : R2F) : uz (zp p) = p := rfl
def gSp (F T : Nat → Nat) (st : Nat) (D E0 L0 ad : Nat → Int32) (f : Nat → Int32 × Int32) (q : Nat) : Int32 × Int32 := ((spI F T D (uz f).1 (uz f).2 q st 0 (E0 q, L0 q, false)).1, (spI F T D (uz f).1 (uz f).2 q st 0 (E0 q, L0 q, false)).2.1 + ad q)
theorem spN_z {F T : Nat → Nat} {st : Nat} {D E0 L0 ad : Nat → Int32} {q : Nat} {p : R2F} : zp (spN F T st D E0 L0 ad q p) = upV (zp p) q (gSp F T st D E0 L0 ad (zp p) q) := by
  funext j
  unfold spN upV upd
  by_cases h : j = q
  · subst h; simp [zp, gSp, uz]
  · simp [zp, h]
theorem spP_z {F T : Nat → Nat} {st : Nat} {D E0 L0 ad : Nat → Int32} : ∀ (m q : Nat) (p : R2F), zp (spP F T st D E0 L0 ad m q p) = psF (gSp F T st D E0 L0 ad) (List.range' q m) (zp p)
  | 0, _, _ => rfl
  | m + 1, q, p => by
    show zp (spP F T st D E0 L0 ad m (q + 1) _) = _
    rw [spP_z m (q + 1), spN_z, List.range'_succ]; rfl
theorem spR_z {F T : Nat → Nat} {st n : Nat} {D E0 L0 ad : Nat → Int32} : ∀ (m : Nat) (p : R2F), zp (spR F T st n D E0 L0 ad m p) = psN (gSp F T st D E0 L0 ad) (List.range' 0 n) m (zp p)
  | 0, _ => rfl
  | m + 1, p => by
    show zp (spR F T st n D E0 L0 ad m _) = psN _ _ m (psF _ _ _)
    rw [spR_z m, spP_z]
/-- p is the start of a stage to q -/
def bef (F T : Nat → Nat) (st : Nat) (p q : Nat) : Prop := ∃ s, s < st ∧ T s = q ∧ F s = p
theorem spI_cg {F T : Nat → Nat} {D B En B2 En2 : Nat → Int32} {q st : Nat} : ∀ (m s : Nat) (r : Int32 × Int32 × Bool), s + m ≤ st → (∀ p, bef F T st p q → B p = B2 p ∧ En p = En2 p) → spI F T D B En q m s r = spI F T D B2 En2 q m s r
  | 0, _, _, _, _ => rfl
  | m + 1, s, r, hs, h => by
    show spI F T D B En q m (s + 1) _ = spI F T D B2 En2 q m (s + 1) _
    rw [spI_cg m (s + 1) _ (by omega) h]
    congr 1
    by_cases c : T s = q
    · obtain ⟨h1, h2⟩ := h (F s) ⟨s, by omega, c, rfl⟩
      unfold spJ; rw [h1, h2]
    · rw [spJ_n c, spJ_n c]
theorem gSp_loc (F T : Nat → Nat) (st : Nat) (D E0 L0 ad : Nat → Int32) : loc (gSp F T st D E0 L0 ad) (bef F T st) := fun f f2 q h => by
  have e : ∀ r, spI F T D (uz f).1 (uz f).2 q st 0 r = spI F T D (uz f2).1 (uz f2).2 q st 0 r := fun r => spI_cg (st := st) st 0 r (by omega) (fun p hp => by show (f p).1 = (f2 p).1 ∧ (f p).2 = (f2 p).2; rw [h p hp]; exact ⟨rfl, rfl⟩)
  unfold gSp; rw [e]
/-- the class's way: one pass in the flow's order -/
theorem spR_flow {F T : Nat → Nat} {st n : Nat} {D E0 L0 ad : Nat → Int32} {l : List Nat} (ht : topo (bef F T st) l) (hn : l.Nodup) (hs : ∀ q ∈ l, q < n) (hl : l.length ≤ n) (p p0 : R2F) : ∀ q ∈ l, zp (spR F T st n D E0 L0 ad n p) q = psF (gSp F T st D E0 L0 ad) l (zp p0) q := fun q hq => by
  rw [spR_z]
  exact psN_fix (gSp_loc F T st D E0 L0 ad) ht hn (fun z hz => by rw [List.mem_range'_1]; have := hs z hz; omega) hl _ _ q hq
/-! ===== the noise ===== -/
def gNz (F T : Nat → Nat) (st : Nat) (hs ts : Nat → Int32) (r : Nat) (hg : Nat → Int32) (z : Nat → Int32) (q : Nat) : Int32 := hg q + nzI F T hs ts r z q st 0 0
theorem nzP_z {F T : Nat → Nat} {st : Nat} {hs ts : Nat → Int32} {r : Nat} {hg : Nat → Int32} : ∀ (m q : Nat) (z : Nat → Int32), nzP F T st hs ts r hg m q z = psF (gNz F T st hs ts r hg) (List.range' q m) z
  | 0, _, _ => rfl
  | m + 1, q, z => by
    show nzP F T st hs ts r hg m (q + 1) _ = _
    rw [nzP_z m (q + 1), List.range'_succ]; rfl
theorem nzR_z {F T : Nat → Nat} {st n : Nat} {hs ts : Nat → Int32} {r : Nat} {hg : Nat → Int32} : ∀ (m : Nat) (z : Nat → Int32), nzR F T st n hs ts r hg m z = psN (gNz F T st hs ts r hg) (List.range' 0 n) m z
  | 0, _ => rfl
  | m + 1, z => by
    show nzR F T st n hs ts r hg m _ = psN _ _ m (psF _ _ _)
    rw [nzR_z m, nzP_z]
theorem nzI_cg {F T : Nat → Nat} {hs ts : Nat → Int32} {r : Nat} {z z2 : Nat → Int32} {q st : Nat} : ∀ (m s : Nat) (v : Int32), s + m ≤ st → (∀ p, bef F T st p q → z p = z2 p) → nzI F T hs ts r z q m s v = nzI F T hs ts r z2 q m s v
  | 0, _, _, _, _ => rfl
  | m + 1, s, v, hs9, h => by
    show nzI F T hs ts r z q m (s + 1) _ = nzI F T hs ts r z2 q m (s + 1) _
    rw [nzI_cg m (s + 1) _ (by omega) h]
    congr 1
    by_cases c : T s = q
    · rw [h (F s) ⟨s, by omega, c, rfl⟩]
    · rw [if_neg c, if_neg c]
theorem gNz_loc (F T : Nat → Nat) (st : Nat) (hs ts : Nat → Int32) (r : Nat) (hg : Nat → Int32) : loc (gNz F T st hs ts r hg) (bef F T st) := fun f f2 q h => by
  unfold gNz; rw [nzI_cg st 0 0 (by omega) h]
theorem nzR_flow {F T : Nat → Nat} {st n : Nat} {hs ts : Nat → Int32} {r : Nat} {hg : Nat → Int32} {l : List Nat} (ht : topo (bef F T st) l) (hn : l.Nodup) (hsn : ∀ q ∈ l, q < n) (hl : l.length ≤ n) (z z0 : Nat → Int32) : ∀ q ∈ l, nzR F T st n hs ts r hg n z q = psF (gNz F T st hs ts r hg) l z0 q := fun q hq => by
  rw [nzR_z]
  exact psN_fix (gNz_loc F T st hs ts r hg) ht hn (fun z hz => by rw [List.mem_range'_1]; have := hsn z hz; omega) hl _ _ q hq
/-! ===== who leads to whom ===== -/
theorem ldP_mono {F T : Nat → Nat} : ∀ (m s : Nat) (g : Nat → Bool) (q : Nat), g q = true → ldP F T m s g q = true
  | 0, _, _, _, h => h
  | m + 1, s, g, q, h => by
    refine ldP_mono m (s + 1) _ q ?_
    unfold upB
    by_cases c : q = T s
    · rw [if_pos c, ← c, h]; rfl
    · rw [if_neg c]; exact h
theorem ldP_step {F T : Nat → Nat} : ∀ (m s : Nat) (g : Nat → Bool) (s1 : Nat), s ≤ s1 → s1 < s + m → g (F s1) = true → ldP F T m s g (T s1) = true
  | 0, s, g, s1, h1, h2, h => by omega
  | m + 1, s, g, s1, h1, h2, h => by
    by_cases e : s1 = s
    · subst e
      refine ldP_mono m (s1 + 1) _ _ ?_
      unfold upB; rw [if_pos rfl, h, Bool.or_true]
    · refine ldP_step m (s + 1) _ s1 (by omega) (by omega) ?_
      unfold upB
      by_cases c : F s1 = T s
      · rw [if_pos c, ← c, h]; rfl
      · rw [if_neg c]; exact h
theorem ldP_sound {F T : Nat → Nat} {st : Nat} {P : Nat → Prop} (hP : ∀ s, s < st → P (F s) → P (T s)) : ∀ (m s : Nat) (g : Nat → Bool), s + m ≤ st → (∀ q, g q = true → P q) → ∀ q, ldP F T m s g q = true → P q
  | 0, _, _, _, h => h
  | m + 1, s, g, hs, h => by
    refine ldP_sound hP m (s + 1) _ (by omega) (fun q hq => ?_)
    unfold upB at hq
    by_cases c : q = T s
    · rw [if_pos c, Bool.or_eq_true] at hq
      rcases hq with hq | hq
      · rw [c]; exact h _ hq
      · rw [c]; exact hP s (by omega) (h _ hq)
    · rw [if_neg c] at hq; exact h q hq
theorem ldR_sound {F T : Nat → Nat} {st : Nat} {P : Nat → Prop} (hP : ∀ s, s < st → P (F s) → P (T s)) : ∀ (m : Nat) (g : Nat → Bool), (∀ q, g q = true → P q) → ∀ q, ldR F T st m g q = true → P q
  | 0, _, h => h
  | m + 1, g, h => ldR_sound hP m _ (ldP_sound hP st 0 g (by omega) h)
theorem ldR_mono {F T : Nat → Nat} {st : Nat} : ∀ (m : Nat) (g : Nat → Bool) (q : Nat), g q = true → ldR F T st m g q = true
  | 0, _, _, h => h
  | m + 1, g, q, h => ldR_mono m _ q (ldP_mono st 0 g q h)
theorem ldR_all {F T : Nat → Nat} {st : Nat} {P : Nat → Prop} {l : List Nat} (ht : topo (bef F T st) l) {j : Nat} (hP : ∀ q, P q → q = j ∨ ∃ s, s < st ∧ T s = q ∧ P (F s)) : ∀ (m k : Nat) (g : Nat → Bool), g j = true → (∀ q ∈ l.take k, P q → g q = true) → ∀ q ∈ l.take (k + m), P q → ldR F T st m g q = true
  | 0, k, g, _, h, q, hq, hp => h q hq hp
  | m + 1, k, g, hj, h, q, hq, hp => by
    refine ldR_all ht hP m (k + 1) (ldP F T st 0 g) (ldP_mono st 0 g j hj) (fun z hz hpz => ?_) q (by rw [show k + 1 + m = k + (m + 1) by omega]; exact hq) hp
    rcases hP z hpz with e | ⟨s, hs, e, hps⟩
    · subst e; exact ldP_mono st 0 g _ hj
    · rw [← e]
      exact ldP_step st 0 g s (Nat.zero_le _) (by omega) (h (F s) (topo_take ht hz ⟨s, hs, e, rfl⟩) hps)
/-- the reference's search finds just what the leaders' bits say -/
theorem ldR_iff {F T : Nat → Nat} {st n : Nat} {P : Nat → Prop} {l : List Nat} (ht : topo (bef F T st) l) (hl : l.length ≤ n) {j : Nat} (hj : P j) (h1 : ∀ s, s < st → P (F s) → P (T s)) (h2 : ∀ q, P q → q = j ∨ ∃ s, s < st ∧ T s = q ∧ P (F s)) {q : Nat} (hq : q ∈ l) : ldR F T st n (fun k => decide (k = j)) q = true ↔ P q := by
  refine ⟨ldR_sound h1 n _ (fun z hz => by rw [decide_eq_true_iff] at hz; rw [hz]; exact hj) q, fun hp => ?_⟩
  exact ldR_all ht h2 n 0 _ (by simp) (fun _ h => absurd h (by simp)) q (by rw [Nat.zero_add, List.take_of_length_le hl]; exact hq) hp
/-! ===== through the table ===== -/
theorem thM_thrF (hs ts : Nat → Int32) (x : Int32) : ∀ (m k : Nat) (v : Int32), (v = thrF hs ts k x) → thM hs ts x m k v = thrF hs ts (k + m) x
  | 0, _, _, h => h
  | m + 1, k, v, h => by
    show thM hs ts x m (k + 1) _ = _
    rw [show k + (m + 1) = k + 1 + m by omega]
    refine thM_thrF hs ts x m (k + 1) _ ?_
    show _ = (if hs k ≤ x then ts k else thrF hs ts k x)
    by_cases c : x < hs k
    · rw [if_pos c, if_neg (Int32.not_le.mpr c)]; exact h
    · rw [if_neg c, if_pos (Int32.not_lt.mp c)]
theorem thr_cg {hs ts hs2 ts2 : Nat → Int32} {x : Int32} : ∀ n, (∀ k, k < n → hs k = hs2 k ∧ ts k = ts2 k) → thrF hs ts n x = thrF hs2 ts2 n x
  | 0, _ => rfl
  | n + 1, h => by
    unfold thrF
    rw [(h n (Nat.lt_succ_self n)).1, (h n (Nat.lt_succ_self n)).2, thr_cg n (fun k hk => h k (Nat.lt_succ_of_lt hk))]
