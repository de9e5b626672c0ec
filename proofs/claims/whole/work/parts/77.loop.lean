theorem and15 (v : Int32) : ∃ k, k < 16 ∧ v &&& 15 = nI k := by
  refine ⟨v.toBitVec.toNat % 16, Nat.mod_lt _ (by decide), ?_⟩
  apply Int32.toBitVec_inj.mp
  apply BitVec.eq_of_toNat_eq
  rw [Int32.toBitVec_and, BitVec.toNat_and]
  show v.toBitVec.toNat &&& (2 ^ 4 - 1) = (BitVec.ofNat 32 (v.toBitVec.toNat % 16)).toNat
  rw [Nat.and_two_pow_sub_one_eq_mod, BitVec.toNat_ofNat]
  have : v.toBitVec.toNat % 16 < 16 := Nat.mod_lt _ (by decide)
  omega
theorem nI_s4 {L : Nat} (h : L ≤ 2048) : (nI L - 4).toInt = (L : Int) - 4 := by
  rw [Int32.toInt_sub, nI_toInt (by omega), show (4 : Int32).toInt = 4 by decide]
  exact Int.bmod_eq_of_le (by omega) (by omega)
section Loop
variable {p : Program} {l : Launch} {e : Env} {s : State} {m : MethodId} {args : Array Value} {below : List Frame} {meth : Method} {c : Code} {E : Ev} {A : Nat → Prop} {Q : State → Prop} {nm ds : String} {c0 : Cond}
set_option maxRecDepth 100000 in
theorem lc_step (hlt : l.stackTraces = false) (C : Cx p s m args meth c cL_law 7 (yL nm ds) (some .boolean) c0 E A) {b L : Nat} {xs : Nat → Int32} (hX9 : va_X b L xs s s.heap) (hbl : b < s.heap.size) (hbA : ¬ A b) (hL : L ≤ 2048) {x o r : Nat} {a : Nat → Nat} {S : HS} {M : MM} {f : Nat → Int64} {i : Nat} (hR : Rel E S M x) (hi : i + 4 ≤ L) {cells slots : Nat} (hc : cells + 5 ≤ 601024) (hs : slots + 318 ≤ 7293034) (next : ∀ (S2 : HS) (M2 : MM) (f2 : Nat → Int64) (cells2 slots2 : Nat), Rel E S2 M2 x → cells2 ≤ cells + 5 → slots2 ≤ slots + 318 → GW p l e room_1 s m args below meth c E 7 A Q (mw E o a M2 ++ ow E r f2) S2 cells2 slots2 1117 [(0, .ref b), (1, .ref x), (2, .ref o), (3, .ref r), (4, .int (nI i))] []) : GW p l e room_1 s m args below meth c E 7 A Q (mw E o a M ++ ow E r f) S cells slots 39 [(0, .ref b), (1, .ref x), (2, .ref o), (3, .ref r), (4, .int (nI i))] [.int (xs i &&& 15)] := by
  obtain ⟨k, hk, ek⟩ := and15 (xs i)
  rw [ek]
  match k, hk with
  | 0, _ => exact g_tabIn C 116 dL_law_39 (by decide) (by decide) rfl (by decide) (lc_net hlt C hX9 hbl hbA hL hR hi hc hs next)
  | 1, _ => exact g_tabIn C 196 dL_law_39 (by decide) (by decide) rfl (by decide) (lc_couple hlt C hX9 hbl hbA hL hR hi hc hs next)
  | 2, _ => exact g_tabIn C 276 dL_law_39 (by decide) (by decide) rfl (by decide) (lc_exclude hlt C hX9 hbl hbA hL hR hi hc hs next)
  | 3, _ => exact g_tabIn C 351 dL_law_39 (by decide) (by decide) rfl (by decide) (lc_stage hlt C hX9 hbl hbA hL hR hi hc hs next)
  | 4, _ => exact g_tabIn C 431 dL_law_39 (by decide) (by decide) rfl (by decide) (lc_keep hlt C hX9 hbl hbA hL hR hi hc hs next)
  | 5, _ => exact g_tabIn C 487 dL_law_39 (by decide) (by decide) rfl (by decide) (lc_row hlt C hX9 hbl hbA hL hR hi hc hs next)
  | 6, _ => exact g_tabIn C 562 dL_law_39 (by decide) (by decide) rfl (by decide) (lc_run hlt C hX9 hbl hbA hL hR hi hc hs next)
  | 7, _ => exact g_tabIn C 646 dL_law_39 (by decide) (by decide) rfl (by decide) (lc_early hlt C hX9 hbl hbA hL hR hi hc hs next)
  | 8, _ => exact g_tabIn C 702 dL_law_39 (by decide) (by decide) rfl (by decide) (lc_late hlt C hX9 hbl hbA hL hR hi hc hs next)
  | 9, _ => exact g_tabIn C 758 dL_law_39 (by decide) (by decide) rfl (by decide) (lc_added hlt C hX9 hbl hbA hL hR hi hc hs next)
  | 10, _ => exact g_tabIn C 814 dL_law_39 (by decide) (by decide) rfl (by decide) (lc_changed hlt C hX9 hbl hbA hL hR hi hc hs next)
  | 11, _ => exact g_tabIn C 870 dL_law_39 (by decide) (by decide) rfl (by decide) (lc_source hlt C hX9 hbl hbA hL hR hi hc hs next)
  | 12, _ => exact g_tabIn C 938 dL_law_39 (by decide) (by decide) rfl (by decide) (lc_height hlt C hX9 hbl hbA hL hR hi hc hs next)
  | 13, _ => exact g_tabIn C 994 dL_law_39 (by decide) (by decide) rfl (by decide) (lc_noise hlt C hX9 hbl hbA hL hR hi hc hs next)
  | 14, _ => exact g_tabIn C 1050 dL_law_39 (by decide) (by decide) rfl (by decide) (lc_count hlt C hX9 hbl hbA hL hR hi hc hs next)
  | 15, _ => exact g_tabIn C 1106 dL_law_39 (by decide) (by decide) rfl (by decide) (lc_clear hlt C hX9 hbl hbA hL hR hi hc hs next)
  | k + 16, hk => exact absurd hk (by omega)
set_option maxRecDepth 100000 in
theorem lc_loop (hlt : l.stackTraces = false) (C : Cx p s m args meth c cL_law 7 (yL nm ds) (some .boolean) c0 E A) {b L : Nat} {xs : Nat → Int32} (hX9 : va_X b L xs s s.heap) (hbl : b < s.heap.size) (hbA : ¬ A b) (hL : L ≤ 2048) {x o r : Nat} {a : Nat → Nat} (fin : ∀ (X : va_W) (S : HS) (lv : List (Nat × Value)) (cells slots : Nat), cells ≤ 601024 → slots ≤ 7293034 → GW p l e room_1 s m args below meth c E 7 A Q X S cells slots 1124 lv [.int 1]) : ∀ (n i : Nat) (S : HS) (M : MM) (f : Nat → Int64) (cells slots : Nat), Rel E S M x → L ≤ i + 4 * n → i ≤ 4096 → cells + 5 * n ≤ 601024 → slots + 318 * n ≤ 7293034 → GW p l e room_1 s m args below meth c E 7 A Q (mw E o a M ++ ow E r f) S cells slots 23 [(0, .ref b), (1, .ref x), (2, .ref o), (3, .ref r), (4, .int (nI i))] [] := by
  intro n
  induction n with
  | zero =>
    intro i S M f cells slots hR hn hi hc hs
    refine g_iload C 4 dL_law_23 rfl ?_
    refine g_aload_n C 0 dL_law_25 rfl rfl ?_
    refine g_slen C hX9 hbl hbA dL_law_26 ?_
    refine g_iconst C 4 dL_law_27 (by decide) ?_
    refine g_isub C dL_law_28 ?_
    refine g_icmp_gt C 1123 dL_law_29 (by decide) (fun _ => ?_) (fun h => ?_)
    · refine g_iconst C 1 dL_law_1123 (by decide) ?_
      exact fin _ _ _ _ _ (by omega) (by omega)
    · exfalso
      rw [Int32.lt_iff_toInt_lt, nI_s4 hL, nI_toInt (by omega)] at h
      omega
  | succ n ih =>
    intro i S M f cells slots hR hn hi hc hs
    refine g_iload C 4 dL_law_23 rfl ?_
    refine g_aload_n C 0 dL_law_25 rfl rfl ?_
    refine g_slen C hX9 hbl hbA dL_law_26 ?_
    refine g_iconst C 4 dL_law_27 (by decide) ?_
    refine g_isub C dL_law_28 ?_
    refine g_icmp_gt C 1123 dL_law_29 (by decide) (fun _ => ?_) (fun h => ?_)
    · refine g_iconst C 1 dL_law_1123 (by decide) ?_
      exact fin _ _ _ _ _ (by omega) (by omega)
    · rw [Int32.lt_iff_toInt_lt, nI_s4 hL, nI_toInt (by omega)] at h
      have hi4 : i + 4 ≤ L := by omega
      refine g_aload_n C 0 dL_law_32 rfl rfl ?_
      refine g_iload C 4 dL_law_33 rfl ?_
      refine g_sld C hX9 hbl hbA hL i rfl (by omega) dL_law_35 ?_
      refine g_bipush C 15 dL_law_36 (by decide) ?_
      refine g_iand C dL_law_38 ?_
      refine lc_step hlt C hX9 hbl hbA hL hR hi4 (by omega) (by omega) (fun S2 M2 f2 cells2 slots2 hR2 hc2 hs2 => ?_)
      refine g_iinc C (nI (i + 4)) 4 [(4, .int (nI (i + 4))), (0, .ref b), (1, .ref x), (2, .ref o), (3, .ref r)] dL_law_1117 rfl (nI_p i 4) (by decide) rfl ?_
      refine g_goto C 23 dL_law_1120 (by decide) ?_
      refine g_locs (lv2 := [(0, .ref b), (1, .ref x), (2, .ref o), (3, .ref r), (4, .int (nI (i + 4)))]) [1, 2, 3, 4, 0] rfl ?_
      exact ih (i + 4) S2 M2 f2 cells2 slots2 hR2 (by omega) (by omega) (by omega) (by omega)
/-- nothing made yet -/
def HS0 : HS := ([], fun _ => 0, fun _ _ => 0, fun _ _ => 0, fun _ _ => none, fun _ => 0, fun _ _ => 0, fun _ _ => none)
set_option maxRecDepth 100000 in
theorem lc_start (hlt : l.stackTraces = false) (C : Cx p s m args meth c cL_law 7 (yL nm ds) (some .boolean) c0 E A) {b L : Nat} {xs : Nat → Int32} (hX9 : va_X b L xs s s.heap) (hbl : b < s.heap.size) (hbA : ¬ A b) (hL : L ≤ 2048) (fin : ∀ (X : va_W) (S : HS) (lv : List (Nat × Value)) (cells slots : Nat), cells ≤ 601024 → slots ≤ 7293034 → GW p l e room_1 s m args below meth c E 7 A Q X S cells slots 1124 lv [.int 1]) : GW p l e room_1 s m args below meth c E 7 A Q [] HS0 0 0 0 [(0, .ref b)] [] := by
  refine g_new C (fun q => HS0.nO q 4) rfl in_X4 tyX4_ok kl_L_8 wb_X4 wz_X4 df_X4 (by decide) (by decide) (fun _ => rfl) (fun q b => pu_n4 q b) dL_law_0 (fun x hq => ?_)
  refine g_dup C dL_law_3 rfl ?_
  refine g_callI C [] [.ref x] (c_init l E [] (HS0.nO x 4) isK_new) cm_X4_init wz_X4 wi_L_65 wn_X4_init rfl dt_X4_init rfl rfl (Nat.le_of_ble_eq_true rfl) (by decide) (by decide) dL_law_4 ?_
  intro v X2 S2 h9
  have e1 := h9.1
  have e2 := h9.2.1
  subst e1; subst e2
  refine g_sa C (fun hsa => ?_)
  have hR := Rel.init h9 hsa
  refine g_astore_n C [(1, .ref x), (0, .ref b)] dL_law_7 rfl (by decide) rfl ?_
  refine x_newO C (ci := 8) (fs := zfs) rfl in_X5 tyX5_ok kl_L_66 wb_X5 wz_X5 df_X5 (by decide) (by decide) dL_law_8 (fun o => ?_)
  refine g_dup C dL_law_11 rfl ?_
  refine g_callI C [] [.ref o] (c_minit l E S2 o) cm_X5_init wz_X5 wi_L_68 wn_X5_init rfl dt_X5_init rfl rfl (Nat.le_of_ble_eq_true rfl) (by decide) (by decide) dL_law_12 ?_
  rintro v X2 S3 ⟨rfl, rfl, a, rfl⟩
  refine g_astore_n C [(2, .ref o), (1, .ref x), (0, .ref b)] dL_law_15 rfl (by decide) rfl ?_
  refine g_iconst C 1 dL_law_16 (by decide) ?_
  refine x_newl C 1 (by decide) (by decide) (by decide) (by decide) (by decide) wa_long dL_law_17 (fun r => ?_)
  refine g_astore_n C [(3, .ref r), (2, .ref o), (1, .ref x), (0, .ref b)] dL_law_19 rfl (by decide) rfl ?_
  refine g_iconst C 0 dL_law_20 (by decide) ?_
  refine g_istore C [(4, .int 0), (3, .ref r), (2, .ref o), (1, .ref x), (0, .ref b)] dL_law_21 (by decide) rfl ?_
  refine g_locs (lv2 := [(0, .ref b), (1, .ref x), (2, .ref o), (3, .ref r), (4, .int (nI 0))]) [4, 3, 2, 1, 0] rfl ?_
  exact lc_loop hlt C hX9 hbl hbA hL fin 512 0 S2 mz (fun _ => 0) _ _ hR (by omega) (by omega) (by decide) (by decide)
end Loop
