/-! ===== the law's own rows ===== -/
section LRows
variable {p : Program} {l : Launch} {e : Env} {R : Room} {s : State} {m : MethodId} {args : Array Value} {below : List Frame} {meth : Method} {c : Code} {E : Ev} {nL : Nat} {A : Nat → Prop} {Q : State → Prop} {X : va_W} {S : HS} {cells slots pc : Nat} {lv : List (Nat × Value)} {st : List Value} {cc : ByteArray} {y : MethodName} {ret : Option FieldType} {c0 : Cond}
theorem g_sld (C : Cx p s m args meth c cc nL y ret c0 E A) {b L : Nat} {xs : Nat → Int32} (hX : va_X b L xs s s.heap) (hbl : b < s.heap.size) (hbA : ¬ A b) (hL : L ≤ 2048) {i : Int32} (j : Nat) (hi : i = nI j) (hj : j < L) (hd : decode cc pc = .ok (.iaload, 1)) (kk : GW p l e R s m args below meth c E nL A Q X S cells slots (pc + 1) lv (.int (xs j) :: st)) : GW p l e R s m args below meth c E nL A Q X S cells slots pc lv (.int i :: .ref b :: st) := by
  intro H locs ls hP hD hS hl
  subst hi
  refine va_sld C.x C.b hX hbl hbA hS (nI_in hj (by omega)) hd ?_
  rw [nI_clamp (by omega)]
  exact kk H locs ls hP hD hS hl
theorem g_slen (C : Cx p s m args meth c cc nL y ret c0 E A) {b L : Nat} {xs : Nat → Int32} (hX : va_X b L xs s s.heap) (hbl : b < s.heap.size) (hbA : ¬ A b) (hd : decode cc pc = .ok (.arraylength, 1)) (kk : GW p l e R s m args below meth c E nL A Q X S cells slots (pc + 1) lv (.int (nI L) :: st)) : GW p l e R s m args below meth c E nL A Q X S cells slots pc lv (.ref b :: st) := by
  intro H locs ls hP hD hS hl
  exact va_slen C.x C.b hX hbl hbA hS hd (kk H locs ls hP hD hS hl)
theorem g_sa (C : Cx p s m args meth c cc nL y ret c0 E A) (kk : E.sa 0 ∉ S.L → GW p l e R s m args below meth c E nL A Q X S cells slots pc lv st) : GW p l e R s m args below meth c E nL A Q X S cells slots pc lv st := fun H locs ls hP hD hS hl => by
  refine kk (fun hm => ?_) H locs ls hP hD hS hl
  obtain ⟨k, hk⟩ := pw_at (E := E) (X := X) hm
  obtain ⟨cell, -, -, -, -, -, -, h⟩ := C.z.2.1
  exact h (hD.2 k _ hk)
end LRows
theorem nI_p (i k : Nat) : nI i + nI k = nI (i + k) := by show Int32.ofNat i + Int32.ofNat k = _; rw [← Int32.ofNat_add]; rfl
/-- out's row -/
def ow (E : Ev) (r : Nat) (f : Nat → Int64) : va_W := [(r, .inl (E.cA 3, 1, .inr (.inl f)))]
theorem ow_at {E : Ev} {o r : Nat} {a : Nat → Nat} {M : MM} {f : Nat → Int64} : (mw E o a M ++ ow E r f)[19]? = some (r, .inl (E.cA 3, 1, .inr (.inl f))) := rfl
theorem ow_set {E : Ev} {o r : Nat} {a : Nat → Nat} {M : MM} {f g : Nat → Int64} : (mw E o a M ++ ow E r f).set 19 (r, .inl (E.cA 3, 1, .inr (.inl g))) = mw E o a M ++ ow E r g := rfl
theorem mw_at {E : Ev} {o r : Nat} {a : Nat → Nat} {M : MM} {f : Nat → Int64} {S : HS} : ∃ (k0 : Nat) (fs : List Value), (mw E o a M ++ ow E r f ++ pw E S)[k0]? = some (o, .inr (8, fs)) := ⟨0, _, rfl⟩
theorem upL_0 {f : Nat → Int64} {v : Int64} : vp_updL f 0 v 0 = v := if_pos rfl
theorem cmp_s (v : Int64) : lg_cmp v v = 0 := by
  unfold lg_cmp
  simp [Int64.lt_irrefl]
def yL (nm ds : String) : MethodName := ⟨RL, nm, ds⟩
theorem Rel.x {E : Ev} {S : HS} {M : MM} {x : Nat} (h : Rel E S M x) : isK S 4 x := by
  obtain ⟨n, st, r, rd, ran, t, ha, ta, cg, A, LA, RA, F, T, CO, ks, fk, h1, -⟩ := h
  exact h1.1
set_option maxRecDepth 100000 in
theorem lc_net {p : Program} {l : Launch} {e : Env} {s : State} {m : MethodId} {args : Array Value} {below : List Frame} {meth : Method} {c : Code} {E : Ev} {A : Nat → Prop} {Q : State → Prop} {nm ds : String} {c0 : Cond} (hlt : l.stackTraces = false) (C : Cx p s m args meth c cL_law 7 (yL nm ds) (some .boolean) c0 E A) {b L : Nat} {xs : Nat → Int32} (hX9 : va_X b L xs s s.heap) (hbl : b < s.heap.size) (hbA : ¬ A b) (hL : L ≤ 2048) {x o r : Nat} {a : Nat → Nat} {S : HS} {M : MM} {f : Nat → Int64} {i : Nat} (hR : Rel E S M x) (hi : i + 4 ≤ L) {cells slots : Nat} (hc : cells + 5 ≤ 601024) (hs : slots + 318 ≤ 7293034) (next : ∀ (S2 : HS) (M2 : MM) (f2 : Nat → Int64) (cells2 slots2 : Nat), Rel E S2 M2 x → cells2 ≤ cells + 5 → slots2 ≤ slots + 318 → GW p l e room_1 s m args below meth c E 7 A Q (mw E o a M2 ++ ow E r f2) S2 cells2 slots2 1117 [(0, .ref b), (1, .ref x), (2, .ref o), (3, .ref r), (4, .int (nI i))] []) : GW p l e room_1 s m args below meth c E 7 A Q (mw E o a M ++ ow E r f) S cells slots 116 [(0, .ref b), (1, .ref x), (2, .ref o), (3, .ref r), (4, .int (nI i))] [] := by
  refine g_aload_n C 1 dL_law_116 rfl rfl ?_
  refine g_aload_n C 0 dL_law_117 rfl rfl ?_
  refine g_iload C 4 dL_law_118 rfl ?_
  refine g_iconst C 1 dL_law_120 (by decide) ?_
  refine g_iadd C dL_law_121 ?_
  refine g_sld C hX9 hbl hbA hL (i + 1) (nI_p i 1) (by omega) dL_law_122 ?_
  refine g_aload_n C 0 dL_law_123 rfl rfl ?_
  refine g_iload C 4 dL_law_124 rfl ?_
  refine g_iconst C 2 dL_law_126 (by decide) ?_
  refine g_iadd C dL_law_127 ?_
  refine g_sld C hX9 hbl hbA hL (i + 2) (nI_p i 2) (by omega) dL_law_128 ?_
  refine g_aload_n C 0 dL_law_129 rfl rfl ?_
  refine g_iload C 4 dL_law_130 rfl ?_
  refine g_iconst C 3 dL_law_132 (by decide) ?_
  refine g_iadd C dL_law_133 ?_
  refine g_sld C hX9 hbl hbA hL (i + 3) (nI_p i 3) (by omega) dL_law_134 ?_
  refine g_aload_n C 3 dL_law_135 rfl rfl ?_
  rcases d_net (o := o) (a := a) hlt hR (xs (i + 1)) (xs (i + 2)) (xs (i + 3)) with ⟨Po, hM, hPo⟩ | ⟨cls, code, hcd, hne, hT, Pm, hMm, hPm⟩
  · refine g_callSW C [.ref x, .int (xs (i + 1)), .int (xs (i + 2)), .int (xs (i + 3)), .ref r] [] (w_net l E _ S (Rel.x hR) ow_at (fun v X2 S2 h => ⟨(hPo _ v X2 S2 h).1, (hPo _ v X2 S2 h).2.imp (fun _ h => h.1)⟩) (hM _)) cmw_L_net wst_L_69 dt_L_net rfl rfl (Nat.le_of_ble_eq_true rfl) (by decide) ⟨by show _ ≤ 601024; omega, by show _ ≤ 7293034; omega⟩ dL_law_136 ?_
    rintro v X2 S2 ⟨rfl, z, h9, rfl⟩
    rw [ow_set]
    refine g_sa C (fun hsa => ?_)
    obtain ⟨-, z2, e2, h10⟩ := hPo _ _ _ _ h9
    cases e2
    obtain ⟨Pm, hMm, hPm⟩ := h10 hsa
    refine g_istore C ((5, .int 0) :: [(0, .ref b), (1, .ref x), (2, .ref o), (3, .ref r), (4, .int (nI i))]) dL_law_139 (by decide) rfl ?_
    refine g_aload_n C 3 dL_law_141 rfl rfl ?_
    refine g_aload_n C 1 dL_law_142 rfl rfl ?_
    refine g_iload C 5 dL_law_143 rfl ?_
    refine g_iconst C 1 dL_law_145 (by decide) ?_
    refine g_iadd C dL_law_146 ?_
    refine g_sld C hX9 hbl hbA hL (i + 1) (nI_p i 1) (by omega) dL_law_147 ?_
    refine g_aload_n C 1 dL_law_148 rfl rfl ?_
    refine g_iload C 5 dL_law_149 rfl ?_
    refine g_iconst C 2 dL_law_151 (by decide) ?_
    refine g_iadd C dL_law_152 ?_
    refine g_sld C hX9 hbl hbA hL (i + 2) (nI_p i 2) (by omega) dL_law_153 ?_
    refine g_aload_n C 1 dL_law_154 rfl rfl ?_
    refine g_iload C 5 dL_law_155 rfl ?_
    refine g_iconst C 3 dL_law_157 (by decide) ?_
    refine g_iadd C dL_law_158 ?_
    refine g_sld C hX9 hbl hbA hL (i + 3) (nI_p i 3) (by omega) dL_law_159 ?_
    refine g_callV C [.int (xs (i + 1)), .int (xs (i + 2)), .int (xs (i + 3))] [] (hMm _ _) mw_at rfl cm_X5_net wv_L_74 ds_X5_net rfl rfl (Nat.le_of_ble_eq_true rfl) (by decide) ⟨by show _ ≤ 601024; omega, by show _ ≤ 7293034; omega⟩ dL_law_160 ?_
    rintro v X2 S3 ⟨rfl, M2, rfl, h11⟩
    obtain ⟨rfl, h20, hR2⟩ := hPm _ _ h11
    refine g_istore C ((6, .int z) :: (5, .int 0) :: [(0, .ref b), (1, .ref x), (2, .ref o), (3, .ref r), (4, .int (nI i))]) dL_law_163 (by decide) rfl ?_
    refine g_aload_n C 4 dL_law_165 rfl rfl ?_
    refine g_callV C [] [] (c_mthrown l E o a M2 _ _) mw_at rfl cm_X5_thrown wv_L_75 ds_X5_thrown rfl rfl (Nat.le_of_ble_eq_true rfl) (by decide) ⟨by show _ ≤ 601024; omega, by show _ ≤ 7293034; omega⟩ dL_law_166 ?_
    rintro v X2 S3 ⟨rfl, M3, rfl, rfl, rfl⟩
    refine g_iload C 1 dL_law_169 rfl ?_
    refine g_icmp_eq C 176 dL_law_171 (by decide) (fun _ => ?_) (fun h => absurd h20 h)
    refine g_iload C 1 dL_law_176 rfl ?_
    refine g_if_ne C 193 dL_law_178 (by decide) (fun h => absurd rfl h) (fun _ => ?_)
    refine g_aload_n C 5 dL_law_181 rfl rfl ?_
    refine g_iconst C 0 dL_law_182 (by decide) ?_
    refine x_lald C 19 0 ow_at rfl (by decide) (by decide) dL_law_183 ?_
    rw [upL_0]
    refine g_iload C 0 dL_law_184 rfl ?_
    refine g_i2l C _ dL_law_186 rfl ?_
    refine g_lcmp C dL_law_187 ?_
    rw [cmp_s]
    refine g_if_eq C 193 dL_law_188 (by decide) (fun _ => ?_) (fun h => absurd rfl h)
    refine g_goto C 1117 dL_law_193 (by decide) ?_
    refine g_locs (lv2 := [(0, .ref b), (1, .ref x), (2, .ref o), (3, .ref r), (4, .int (nI i))]) [2, 3, 4, 5, 6] rfl ?_
    exact next _ _ _ _ _ hR2 (by omega) (by omega)
  · have tail : GW p l e room_1 s m args below meth c E 7 A Q (mw E o a M ++ ow E r f) S (cells + 1) (slots + 6) 139 [(0, .ref b), (1, .ref x), (2, .ref o), (3, .ref r), (4, .int (nI i))] [.int code] := by
      refine g_istore C ((5, .int code) :: [(0, .ref b), (1, .ref x), (2, .ref o), (3, .ref r), (4, .int (nI i))]) dL_law_139 (by decide) rfl ?_
      refine g_aload_n C 3 dL_law_141 rfl rfl ?_
      refine g_aload_n C 1 dL_law_142 rfl rfl ?_
      refine g_iload C 5 dL_law_143 rfl ?_
      refine g_iconst C 1 dL_law_145 (by decide) ?_
      refine g_iadd C dL_law_146 ?_
      refine g_sld C hX9 hbl hbA hL (i + 1) (nI_p i 1) (by omega) dL_law_147 ?_
      refine g_aload_n C 1 dL_law_148 rfl rfl ?_
      refine g_iload C 5 dL_law_149 rfl ?_
      refine g_iconst C 2 dL_law_151 (by decide) ?_
      refine g_iadd C dL_law_152 ?_
      refine g_sld C hX9 hbl hbA hL (i + 2) (nI_p i 2) (by omega) dL_law_153 ?_
      refine g_aload_n C 1 dL_law_154 rfl rfl ?_
      refine g_iload C 5 dL_law_155 rfl ?_
      refine g_iconst C 3 dL_law_157 (by decide) ?_
      refine g_iadd C dL_law_158 ?_
      refine g_sld C hX9 hbl hbA hL (i + 3) (nI_p i 3) (by omega) dL_law_159 ?_
      refine g_callV C [.int (xs (i + 1)), .int (xs (i + 2)), .int (xs (i + 3))] [] (hMm _ _) mw_at rfl cm_X5_net wv_L_74 ds_X5_net rfl rfl (Nat.le_of_ble_eq_true rfl) (by decide) ⟨by show _ ≤ 601024; omega, by show _ ≤ 7293034; omega⟩ dL_law_160 ?_
      rintro v X2 S3 ⟨rfl, M2, rfl, h11⟩
      obtain ⟨⟨z, rfl⟩, h20, hR2⟩ := hPm _ _ h11
      refine g_istore C ((6, .int z) :: (5, .int code) :: [(0, .ref b), (1, .ref x), (2, .ref o), (3, .ref r), (4, .int (nI i))]) dL_law_163 (by decide) rfl ?_
      refine g_aload_n C 4 dL_law_165 rfl rfl ?_
      refine g_callV C [] [] (c_mthrown l E o a M2 _ _) mw_at rfl cm_X5_thrown wv_L_75 ds_X5_thrown rfl rfl (Nat.le_of_ble_eq_true rfl) (by decide) ⟨by show _ ≤ 601024; omega, by show _ ≤ 7293034; omega⟩ dL_law_166 ?_
      rintro v X2 S3 ⟨rfl, M3, rfl, rfl, rfl⟩
      refine g_iload C 1 dL_law_169 rfl ?_
      refine g_icmp_eq C 176 dL_law_171 (by decide) (fun _ => ?_) (fun h => absurd h20 h)
      refine g_iload C 1 dL_law_176 rfl ?_
      refine g_if_ne C 193 dL_law_178 (by decide) (fun _ => ?_) (fun h => absurd h hne)
      refine g_goto C 1117 dL_law_193 (by decide) ?_
      refine g_locs (lv2 := [(0, .ref b), (1, .ref x), (2, .ref o), (3, .ref r), (4, .int (nI i))]) [2, 3, 4, 5, 6] rfl ?_
      exact next _ _ _ _ _ hR2 (by omega) (by omega)
    rcases List.mem_cons.mp hcd with hcd | hcd
    · cases hcd
      refine g_callSW C [.ref x, .int (xs (i + 1)), .int (xs (i + 2)), .int (xs (i + 3)), .ref r] [] (w_netT1 l E _ S (Rel.x hR) (hT _)) cmw_L_net wst_L_69 dt_L_net rfl rfl (Nat.le_of_ble_eq_true rfl) (by decide) ⟨by show _ ≤ 601024; omega, by show _ ≤ 7293034; omega⟩ dL_law_136 ?_
      rintro v X2 S2 ⟨rfl, rfl, rfl⟩
      exact tail
    have hcd := List.mem_singleton.mp hcd
    cases hcd
    refine g_callSW C [.ref x, .int (xs (i + 1)), .int (xs (i + 2)), .int (xs (i + 3)), .ref r] [] (w_netT2 l E _ S (Rel.x hR) (hT _)) cmw_L_net wst_L_69 dt_L_net rfl rfl (Nat.le_of_ble_eq_true rfl) (by decide) ⟨by show _ ≤ 601024; omega, by show _ ≤ 7293034; omega⟩ dL_law_136 ?_
    rintro v X2 S2 ⟨rfl, rfl, rfl⟩
    exact tail
set_option maxRecDepth 100000 in
theorem lc_couple {p : Program} {l : Launch} {e : Env} {s : State} {m : MethodId} {args : Array Value} {below : List Frame} {meth : Method} {c : Code} {E : Ev} {A : Nat → Prop} {Q : State → Prop} {nm ds : String} {c0 : Cond} (hlt : l.stackTraces = false) (C : Cx p s m args meth c cL_law 7 (yL nm ds) (some .boolean) c0 E A) {b L : Nat} {xs : Nat → Int32} (hX9 : va_X b L xs s s.heap) (hbl : b < s.heap.size) (hbA : ¬ A b) (hL : L ≤ 2048) {x o r : Nat} {a : Nat → Nat} {S : HS} {M : MM} {f : Nat → Int64} {i : Nat} (hR : Rel E S M x) (hi : i + 4 ≤ L) {cells slots : Nat} (hc : cells + 5 ≤ 601024) (hs : slots + 318 ≤ 7293034) (next : ∀ (S2 : HS) (M2 : MM) (f2 : Nat → Int64) (cells2 slots2 : Nat), Rel E S2 M2 x → cells2 ≤ cells + 5 → slots2 ≤ slots + 318 → GW p l e room_1 s m args below meth c E 7 A Q (mw E o a M2 ++ ow E r f2) S2 cells2 slots2 1117 [(0, .ref b), (1, .ref x), (2, .ref o), (3, .ref r), (4, .int (nI i))] []) : GW p l e room_1 s m args below meth c E 7 A Q (mw E o a M ++ ow E r f) S cells slots 196 [(0, .ref b), (1, .ref x), (2, .ref o), (3, .ref r), (4, .int (nI i))] [] := by
  refine g_aload_n C 1 dL_law_196 rfl rfl ?_
  refine g_aload_n C 0 dL_law_197 rfl rfl ?_
  refine g_iload C 4 dL_law_198 rfl ?_
  refine g_iconst C 1 dL_law_200 (by decide) ?_
  refine g_iadd C dL_law_201 ?_
  refine g_sld C hX9 hbl hbA hL (i + 1) (nI_p i 1) (by omega) dL_law_202 ?_
  refine g_aload_n C 0 dL_law_203 rfl rfl ?_
  refine g_iload C 4 dL_law_204 rfl ?_
  refine g_iconst C 2 dL_law_206 (by decide) ?_
  refine g_iadd C dL_law_207 ?_
  refine g_sld C hX9 hbl hbA hL (i + 2) (nI_p i 2) (by omega) dL_law_208 ?_
  refine g_aload_n C 0 dL_law_209 rfl rfl ?_
  refine g_iload C 4 dL_law_210 rfl ?_
  refine g_iconst C 3 dL_law_212 (by decide) ?_
  refine g_iadd C dL_law_213 ?_
  refine g_sld C hX9 hbl hbA hL (i + 3) (nI_p i 3) (by omega) dL_law_214 ?_
  refine g_aload_n C 3 dL_law_215 rfl rfl ?_
  rcases d_couple (o := o) (a := a) hlt hR (xs (i + 1)) (xs (i + 2)) (xs (i + 3)) with ⟨Po, hM, hPo⟩ | ⟨cls, code, hcd, hne, hT, Pm, hMm, hPm⟩
  · refine g_callSW C [.ref x, .int (xs (i + 1)), .int (xs (i + 2)), .int (xs (i + 3)), .ref r] [] (w_couple l E _ S (Rel.x hR) ow_at (fun v X2 S2 h => ⟨(hPo _ v X2 S2 h).1, (hPo _ v X2 S2 h).2.imp (fun _ h => h.1)⟩) (hM _)) cmw_L_couple wst_L_79 dt_L_couple rfl rfl (Nat.le_of_ble_eq_true rfl) (by decide) ⟨by show _ ≤ 601024; omega, by show _ ≤ 7293034; omega⟩ dL_law_216 ?_
    rintro v X2 S2 ⟨rfl, z, h9, rfl⟩
    rw [ow_set]
    refine g_sa C (fun hsa => ?_)
    obtain ⟨-, z2, e2, h10⟩ := hPo _ _ _ _ h9
    cases e2
    obtain ⟨Pm, hMm, hPm⟩ := h10 hsa
    refine g_istore C ((5, .int 0) :: [(0, .ref b), (1, .ref x), (2, .ref o), (3, .ref r), (4, .int (nI i))]) dL_law_219 (by decide) rfl ?_
    refine g_aload_n C 3 dL_law_221 rfl rfl ?_
    refine g_aload_n C 1 dL_law_222 rfl rfl ?_
    refine g_iload C 5 dL_law_223 rfl ?_
    refine g_iconst C 1 dL_law_225 (by decide) ?_
    refine g_iadd C dL_law_226 ?_
    refine g_sld C hX9 hbl hbA hL (i + 1) (nI_p i 1) (by omega) dL_law_227 ?_
    refine g_aload_n C 1 dL_law_228 rfl rfl ?_
    refine g_iload C 5 dL_law_229 rfl ?_
    refine g_iconst C 2 dL_law_231 (by decide) ?_
    refine g_iadd C dL_law_232 ?_
    refine g_sld C hX9 hbl hbA hL (i + 2) (nI_p i 2) (by omega) dL_law_233 ?_
    refine g_aload_n C 1 dL_law_234 rfl rfl ?_
    refine g_iload C 5 dL_law_235 rfl ?_
    refine g_iconst C 3 dL_law_237 (by decide) ?_
    refine g_iadd C dL_law_238 ?_
    refine g_sld C hX9 hbl hbA hL (i + 3) (nI_p i 3) (by omega) dL_law_239 ?_
    refine g_callV C [.int (xs (i + 1)), .int (xs (i + 2)), .int (xs (i + 3))] [] (hMm _ _) mw_at rfl cm_X5_couple wv_L_81 ds_X5_couple rfl rfl (Nat.le_of_ble_eq_true rfl) (by decide) ⟨by show _ ≤ 601024; omega, by show _ ≤ 7293034; omega⟩ dL_law_240 ?_
    rintro v X2 S3 ⟨rfl, M2, rfl, h11⟩
    obtain ⟨rfl, h20, hR2⟩ := hPm _ _ h11
    refine g_istore C ((6, .int z) :: (5, .int 0) :: [(0, .ref b), (1, .ref x), (2, .ref o), (3, .ref r), (4, .int (nI i))]) dL_law_243 (by decide) rfl ?_
    refine g_aload_n C 4 dL_law_245 rfl rfl ?_
    refine g_callV C [] [] (c_mthrown l E o a M2 _ _) mw_at rfl cm_X5_thrown wv_L_75 ds_X5_thrown rfl rfl (Nat.le_of_ble_eq_true rfl) (by decide) ⟨by show _ ≤ 601024; omega, by show _ ≤ 7293034; omega⟩ dL_law_246 ?_
    rintro v X2 S3 ⟨rfl, M3, rfl, rfl, rfl⟩
    refine g_iload C 1 dL_law_249 rfl ?_
    refine g_icmp_eq C 256 dL_law_251 (by decide) (fun _ => ?_) (fun h => absurd h20 h)
    refine g_iload C 1 dL_law_256 rfl ?_
    refine g_if_ne C 273 dL_law_258 (by decide) (fun h => absurd rfl h) (fun _ => ?_)
    refine g_aload_n C 5 dL_law_261 rfl rfl ?_
    refine g_iconst C 0 dL_law_262 (by decide) ?_
    refine x_lald C 19 0 ow_at rfl (by decide) (by decide) dL_law_263 ?_
    rw [upL_0]
    refine g_iload C 0 dL_law_264 rfl ?_
    refine g_i2l C _ dL_law_266 rfl ?_
    refine g_lcmp C dL_law_267 ?_
    rw [cmp_s]
    refine g_if_eq C 273 dL_law_268 (by decide) (fun _ => ?_) (fun h => absurd rfl h)
    refine g_goto C 1117 dL_law_273 (by decide) ?_
    refine g_locs (lv2 := [(0, .ref b), (1, .ref x), (2, .ref o), (3, .ref r), (4, .int (nI i))]) [2, 3, 4, 5, 6] rfl ?_
    exact next _ _ _ _ _ hR2 (by omega) (by omega)
  · have tail : GW p l e room_1 s m args below meth c E 7 A Q (mw E o a M ++ ow E r f) S (cells + 1) (slots + 6) 219 [(0, .ref b), (1, .ref x), (2, .ref o), (3, .ref r), (4, .int (nI i))] [.int code] := by
      refine g_istore C ((5, .int code) :: [(0, .ref b), (1, .ref x), (2, .ref o), (3, .ref r), (4, .int (nI i))]) dL_law_219 (by decide) rfl ?_
      refine g_aload_n C 3 dL_law_221 rfl rfl ?_
      refine g_aload_n C 1 dL_law_222 rfl rfl ?_
      refine g_iload C 5 dL_law_223 rfl ?_
      refine g_iconst C 1 dL_law_225 (by decide) ?_
      refine g_iadd C dL_law_226 ?_
      refine g_sld C hX9 hbl hbA hL (i + 1) (nI_p i 1) (by omega) dL_law_227 ?_
      refine g_aload_n C 1 dL_law_228 rfl rfl ?_
      refine g_iload C 5 dL_law_229 rfl ?_
      refine g_iconst C 2 dL_law_231 (by decide) ?_
      refine g_iadd C dL_law_232 ?_
      refine g_sld C hX9 hbl hbA hL (i + 2) (nI_p i 2) (by omega) dL_law_233 ?_
      refine g_aload_n C 1 dL_law_234 rfl rfl ?_
      refine g_iload C 5 dL_law_235 rfl ?_
      refine g_iconst C 3 dL_law_237 (by decide) ?_
      refine g_iadd C dL_law_238 ?_
      refine g_sld C hX9 hbl hbA hL (i + 3) (nI_p i 3) (by omega) dL_law_239 ?_
      refine g_callV C [.int (xs (i + 1)), .int (xs (i + 2)), .int (xs (i + 3))] [] (hMm _ _) mw_at rfl cm_X5_couple wv_L_81 ds_X5_couple rfl rfl (Nat.le_of_ble_eq_true rfl) (by decide) ⟨by show _ ≤ 601024; omega, by show _ ≤ 7293034; omega⟩ dL_law_240 ?_
      rintro v X2 S3 ⟨rfl, M2, rfl, h11⟩
      obtain ⟨⟨z, rfl⟩, h20, hR2⟩ := hPm _ _ h11
      refine g_istore C ((6, .int z) :: (5, .int code) :: [(0, .ref b), (1, .ref x), (2, .ref o), (3, .ref r), (4, .int (nI i))]) dL_law_243 (by decide) rfl ?_
      refine g_aload_n C 4 dL_law_245 rfl rfl ?_
      refine g_callV C [] [] (c_mthrown l E o a M2 _ _) mw_at rfl cm_X5_thrown wv_L_75 ds_X5_thrown rfl rfl (Nat.le_of_ble_eq_true rfl) (by decide) ⟨by show _ ≤ 601024; omega, by show _ ≤ 7293034; omega⟩ dL_law_246 ?_
      rintro v X2 S3 ⟨rfl, M3, rfl, rfl, rfl⟩
      refine g_iload C 1 dL_law_249 rfl ?_
      refine g_icmp_eq C 256 dL_law_251 (by decide) (fun _ => ?_) (fun h => absurd h20 h)
      refine g_iload C 1 dL_law_256 rfl ?_
      refine g_if_ne C 273 dL_law_258 (by decide) (fun _ => ?_) (fun h => absurd h hne)
      refine g_goto C 1117 dL_law_273 (by decide) ?_
      refine g_locs (lv2 := [(0, .ref b), (1, .ref x), (2, .ref o), (3, .ref r), (4, .int (nI i))]) [2, 3, 4, 5, 6] rfl ?_
      exact next _ _ _ _ _ hR2 (by omega) (by omega)
    rcases List.mem_cons.mp hcd with hcd | hcd
    · cases hcd
      refine g_callSW C [.ref x, .int (xs (i + 1)), .int (xs (i + 2)), .int (xs (i + 3)), .ref r] [] (w_coupleT1 l E _ S (Rel.x hR) (hT _)) cmw_L_couple wst_L_79 dt_L_couple rfl rfl (Nat.le_of_ble_eq_true rfl) (by decide) ⟨by show _ ≤ 601024; omega, by show _ ≤ 7293034; omega⟩ dL_law_216 ?_
      rintro v X2 S2 ⟨rfl, rfl, rfl⟩
      exact tail
    rcases List.mem_cons.mp hcd with hcd | hcd
    · cases hcd
      refine g_callSW C [.ref x, .int (xs (i + 1)), .int (xs (i + 2)), .int (xs (i + 3)), .ref r] [] (w_coupleT2 l E _ S (Rel.x hR) (hT _)) cmw_L_couple wst_L_79 dt_L_couple rfl rfl (Nat.le_of_ble_eq_true rfl) (by decide) ⟨by show _ ≤ 601024; omega, by show _ ≤ 7293034; omega⟩ dL_law_216 ?_
      rintro v X2 S2 ⟨rfl, rfl, rfl⟩
      exact tail
    have hcd := List.mem_singleton.mp hcd
    cases hcd
    refine g_callSW C [.ref x, .int (xs (i + 1)), .int (xs (i + 2)), .int (xs (i + 3)), .ref r] [] (w_coupleT3 l E _ S (Rel.x hR) (hT _)) cmw_L_couple wst_L_79 dt_L_couple rfl rfl (Nat.le_of_ble_eq_true rfl) (by decide) ⟨by show _ ≤ 601024; omega, by show _ ≤ 7293034; omega⟩ dL_law_216 ?_
    rintro v X2 S2 ⟨rfl, rfl, rfl⟩
    exact tail
set_option maxRecDepth 100000 in
theorem lc_exclude {p : Program} {l : Launch} {e : Env} {s : State} {m : MethodId} {args : Array Value} {below : List Frame} {meth : Method} {c : Code} {E : Ev} {A : Nat → Prop} {Q : State → Prop} {nm ds : String} {c0 : Cond} (hlt : l.stackTraces = false) (C : Cx p s m args meth c cL_law 7 (yL nm ds) (some .boolean) c0 E A) {b L : Nat} {xs : Nat → Int32} (hX9 : va_X b L xs s s.heap) (hbl : b < s.heap.size) (hbA : ¬ A b) (hL : L ≤ 2048) {x o r : Nat} {a : Nat → Nat} {S : HS} {M : MM} {f : Nat → Int64} {i : Nat} (hR : Rel E S M x) (hi : i + 4 ≤ L) {cells slots : Nat} (hc : cells + 5 ≤ 601024) (hs : slots + 318 ≤ 7293034) (next : ∀ (S2 : HS) (M2 : MM) (f2 : Nat → Int64) (cells2 slots2 : Nat), Rel E S2 M2 x → cells2 ≤ cells + 5 → slots2 ≤ slots + 318 → GW p l e room_1 s m args below meth c E 7 A Q (mw E o a M2 ++ ow E r f2) S2 cells2 slots2 1117 [(0, .ref b), (1, .ref x), (2, .ref o), (3, .ref r), (4, .int (nI i))] []) : GW p l e room_1 s m args below meth c E 7 A Q (mw E o a M ++ ow E r f) S cells slots 276 [(0, .ref b), (1, .ref x), (2, .ref o), (3, .ref r), (4, .int (nI i))] [] := by
  refine g_aload_n C 1 dL_law_276 rfl rfl ?_
  refine g_aload_n C 0 dL_law_277 rfl rfl ?_
  refine g_iload C 4 dL_law_278 rfl ?_
  refine g_iconst C 1 dL_law_280 (by decide) ?_
  refine g_iadd C dL_law_281 ?_
  refine g_sld C hX9 hbl hbA hL (i + 1) (nI_p i 1) (by omega) dL_law_282 ?_
  refine g_aload_n C 0 dL_law_283 rfl rfl ?_
  refine g_iload C 4 dL_law_284 rfl ?_
  refine g_iconst C 2 dL_law_286 (by decide) ?_
  refine g_iadd C dL_law_287 ?_
  refine g_sld C hX9 hbl hbA hL (i + 2) (nI_p i 2) (by omega) dL_law_288 ?_
  refine g_aload_n C 3 dL_law_289 rfl rfl ?_
  rcases d_exclude (o := o) (a := a) hlt hR (xs (i + 1)) (xs (i + 2)) with ⟨Po, hM, hPo⟩ | ⟨cls, code, hcd, hne, hT, Pm, hMm, hPm⟩
  · refine g_callSW C [.ref x, .int (xs (i + 1)), .int (xs (i + 2)), .ref r] [] (w_exclude l E _ S (Rel.x hR) ow_at (fun v X2 S2 h => ⟨(hPo _ v X2 S2 h).1, (hPo _ v X2 S2 h).2.imp (fun _ h => h.1)⟩) (hM _)) cmw_L_exclude wst_L_82 dt_L_exclude rfl rfl (Nat.le_of_ble_eq_true rfl) (by decide) ⟨by show _ ≤ 601024; omega, by show _ ≤ 7293034; omega⟩ dL_law_290 ?_
    rintro v X2 S2 ⟨rfl, z, h9, rfl⟩
    rw [ow_set]
    refine g_sa C (fun hsa => ?_)
    obtain ⟨-, z2, e2, h10⟩ := hPo _ _ _ _ h9
    cases e2
    obtain ⟨Pm, hMm, hPm⟩ := h10 hsa
    refine g_istore C ((5, .int 0) :: [(0, .ref b), (1, .ref x), (2, .ref o), (3, .ref r), (4, .int (nI i))]) dL_law_293 (by decide) rfl ?_
    refine g_aload_n C 3 dL_law_295 rfl rfl ?_
    refine g_aload_n C 1 dL_law_296 rfl rfl ?_
    refine g_iload C 5 dL_law_297 rfl ?_
    refine g_iconst C 1 dL_law_299 (by decide) ?_
    refine g_iadd C dL_law_300 ?_
    refine g_sld C hX9 hbl hbA hL (i + 1) (nI_p i 1) (by omega) dL_law_301 ?_
    refine g_aload_n C 1 dL_law_302 rfl rfl ?_
    refine g_iload C 5 dL_law_303 rfl ?_
    refine g_iconst C 2 dL_law_305 (by decide) ?_
    refine g_iadd C dL_law_306 ?_
    refine g_sld C hX9 hbl hbA hL (i + 2) (nI_p i 2) (by omega) dL_law_307 ?_
    refine g_callV C [.int (xs (i + 1)), .int (xs (i + 2))] [] (hMm _ _) mw_at rfl cm_X5_exclude wv_L_85 ds_X5_exclude rfl rfl (Nat.le_of_ble_eq_true rfl) (by decide) ⟨by show _ ≤ 601024; omega, by show _ ≤ 7293034; omega⟩ dL_law_308 ?_
    rintro v X2 S3 ⟨rfl, M2, rfl, h11⟩
    obtain ⟨rfl, h20, hR2⟩ := hPm _ _ h11
    refine g_istore C ((6, .int z) :: (5, .int 0) :: [(0, .ref b), (1, .ref x), (2, .ref o), (3, .ref r), (4, .int (nI i))]) dL_law_311 (by decide) rfl ?_
    refine g_aload_n C 4 dL_law_313 rfl rfl ?_
    refine g_callV C [] [] (c_mthrown l E o a M2 _ _) mw_at rfl cm_X5_thrown wv_L_75 ds_X5_thrown rfl rfl (Nat.le_of_ble_eq_true rfl) (by decide) ⟨by show _ ≤ 601024; omega, by show _ ≤ 7293034; omega⟩ dL_law_314 ?_
    rintro v X2 S3 ⟨rfl, M3, rfl, rfl, rfl⟩
    refine g_iload C 1 dL_law_317 rfl ?_
    refine g_icmp_eq C 324 dL_law_319 (by decide) (fun _ => ?_) (fun h => absurd h20 h)
    refine g_iload C 1 dL_law_324 rfl ?_
    refine g_if_ne C 348 dL_law_326 (by decide) (fun h => absurd rfl h) (fun _ => ?_)
    refine g_aload_n C 5 dL_law_329 rfl rfl ?_
    refine g_iconst C 0 dL_law_330 (by decide) ?_
    refine x_lald C 19 0 ow_at rfl (by decide) (by decide) dL_law_331 ?_
    rw [upL_0]
    refine g_iload C 0 dL_law_332 rfl ?_
    refine g_if_eq C 341 dL_law_334 (by decide) (fun h0 => ?_) (fun h0 => ?_)
    · refine g_lconst C 0 dL_law_341 (by decide) ?_
      rw [show cvB z = 0 from if_pos h0]
      refine g_lcmp C dL_law_342 ?_
      rw [cmp_s]
      refine g_if_eq C 348 dL_law_343 (by decide) (fun _ => ?_) (fun h => absurd rfl h)
      refine g_goto C 1117 dL_law_348 (by decide) ?_
      refine g_locs (lv2 := [(0, .ref b), (1, .ref x), (2, .ref o), (3, .ref r), (4, .int (nI i))]) [2, 3, 4, 5, 6] rfl ?_
      exact next _ _ _ _ _ hR2 (by omega) (by omega)
    · refine g_lconst C 1 dL_law_337 (by decide) ?_
      refine g_goto C 342 dL_law_338 (by decide) ?_
      rw [show cvB z = 1 from if_neg h0]
      refine g_lcmp C dL_law_342 ?_
      rw [cmp_s]
      refine g_if_eq C 348 dL_law_343 (by decide) (fun _ => ?_) (fun h => absurd rfl h)
      refine g_goto C 1117 dL_law_348 (by decide) ?_
      refine g_locs (lv2 := [(0, .ref b), (1, .ref x), (2, .ref o), (3, .ref r), (4, .int (nI i))]) [2, 3, 4, 5, 6] rfl ?_
      exact next _ _ _ _ _ hR2 (by omega) (by omega)
  · have tail : GW p l e room_1 s m args below meth c E 7 A Q (mw E o a M ++ ow E r f) S (cells + 1) (slots + 6) 293 [(0, .ref b), (1, .ref x), (2, .ref o), (3, .ref r), (4, .int (nI i))] [.int code] := by
      refine g_istore C ((5, .int code) :: [(0, .ref b), (1, .ref x), (2, .ref o), (3, .ref r), (4, .int (nI i))]) dL_law_293 (by decide) rfl ?_
      refine g_aload_n C 3 dL_law_295 rfl rfl ?_
      refine g_aload_n C 1 dL_law_296 rfl rfl ?_
      refine g_iload C 5 dL_law_297 rfl ?_
      refine g_iconst C 1 dL_law_299 (by decide) ?_
      refine g_iadd C dL_law_300 ?_
      refine g_sld C hX9 hbl hbA hL (i + 1) (nI_p i 1) (by omega) dL_law_301 ?_
      refine g_aload_n C 1 dL_law_302 rfl rfl ?_
      refine g_iload C 5 dL_law_303 rfl ?_
      refine g_iconst C 2 dL_law_305 (by decide) ?_
      refine g_iadd C dL_law_306 ?_
      refine g_sld C hX9 hbl hbA hL (i + 2) (nI_p i 2) (by omega) dL_law_307 ?_
      refine g_callV C [.int (xs (i + 1)), .int (xs (i + 2))] [] (hMm _ _) mw_at rfl cm_X5_exclude wv_L_85 ds_X5_exclude rfl rfl (Nat.le_of_ble_eq_true rfl) (by decide) ⟨by show _ ≤ 601024; omega, by show _ ≤ 7293034; omega⟩ dL_law_308 ?_
      rintro v X2 S3 ⟨rfl, M2, rfl, h11⟩
      obtain ⟨⟨z, rfl⟩, h20, hR2⟩ := hPm _ _ h11
      refine g_istore C ((6, .int z) :: (5, .int code) :: [(0, .ref b), (1, .ref x), (2, .ref o), (3, .ref r), (4, .int (nI i))]) dL_law_311 (by decide) rfl ?_
      refine g_aload_n C 4 dL_law_313 rfl rfl ?_
      refine g_callV C [] [] (c_mthrown l E o a M2 _ _) mw_at rfl cm_X5_thrown wv_L_75 ds_X5_thrown rfl rfl (Nat.le_of_ble_eq_true rfl) (by decide) ⟨by show _ ≤ 601024; omega, by show _ ≤ 7293034; omega⟩ dL_law_314 ?_
      rintro v X2 S3 ⟨rfl, M3, rfl, rfl, rfl⟩
      refine g_iload C 1 dL_law_317 rfl ?_
      refine g_icmp_eq C 324 dL_law_319 (by decide) (fun _ => ?_) (fun h => absurd h20 h)
      refine g_iload C 1 dL_law_324 rfl ?_
      refine g_if_ne C 348 dL_law_326 (by decide) (fun _ => ?_) (fun h => absurd h hne)
      refine g_goto C 1117 dL_law_348 (by decide) ?_
      refine g_locs (lv2 := [(0, .ref b), (1, .ref x), (2, .ref o), (3, .ref r), (4, .int (nI i))]) [2, 3, 4, 5, 6] rfl ?_
      exact next _ _ _ _ _ hR2 (by omega) (by omega)
    rcases List.mem_cons.mp hcd with hcd | hcd
    · cases hcd
      refine g_callSW C [.ref x, .int (xs (i + 1)), .int (xs (i + 2)), .ref r] [] (w_excludeT1 l E _ S (Rel.x hR) (hT _)) cmw_L_exclude wst_L_82 dt_L_exclude rfl rfl (Nat.le_of_ble_eq_true rfl) (by decide) ⟨by show _ ≤ 601024; omega, by show _ ≤ 7293034; omega⟩ dL_law_290 ?_
      rintro v X2 S2 ⟨rfl, rfl, rfl⟩
      exact tail
    have hcd := List.mem_singleton.mp hcd
    cases hcd
    refine g_callSW C [.ref x, .int (xs (i + 1)), .int (xs (i + 2)), .ref r] [] (w_excludeT2 l E _ S (Rel.x hR) (hT _)) cmw_L_exclude wst_L_82 dt_L_exclude rfl rfl (Nat.le_of_ble_eq_true rfl) (by decide) ⟨by show _ ≤ 601024; omega, by show _ ≤ 7293034; omega⟩ dL_law_290 ?_
    rintro v X2 S2 ⟨rfl, rfl, rfl⟩
    exact tail
set_option maxRecDepth 100000 in
theorem lc_stage {p : Program} {l : Launch} {e : Env} {s : State} {m : MethodId} {args : Array Value} {below : List Frame} {meth : Method} {c : Code} {E : Ev} {A : Nat → Prop} {Q : State → Prop} {nm ds : String} {c0 : Cond} (hlt : l.stackTraces = false) (C : Cx p s m args meth c cL_law 7 (yL nm ds) (some .boolean) c0 E A) {b L : Nat} {xs : Nat → Int32} (hX9 : va_X b L xs s s.heap) (hbl : b < s.heap.size) (hbA : ¬ A b) (hL : L ≤ 2048) {x o r : Nat} {a : Nat → Nat} {S : HS} {M : MM} {f : Nat → Int64} {i : Nat} (hR : Rel E S M x) (hi : i + 4 ≤ L) {cells slots : Nat} (hc : cells + 5 ≤ 601024) (hs : slots + 318 ≤ 7293034) (next : ∀ (S2 : HS) (M2 : MM) (f2 : Nat → Int64) (cells2 slots2 : Nat), Rel E S2 M2 x → cells2 ≤ cells + 5 → slots2 ≤ slots + 318 → GW p l e room_1 s m args below meth c E 7 A Q (mw E o a M2 ++ ow E r f2) S2 cells2 slots2 1117 [(0, .ref b), (1, .ref x), (2, .ref o), (3, .ref r), (4, .int (nI i))] []) : GW p l e room_1 s m args below meth c E 7 A Q (mw E o a M ++ ow E r f) S cells slots 351 [(0, .ref b), (1, .ref x), (2, .ref o), (3, .ref r), (4, .int (nI i))] [] := by
  refine g_aload_n C 1 dL_law_351 rfl rfl ?_
  refine g_aload_n C 0 dL_law_352 rfl rfl ?_
  refine g_iload C 4 dL_law_353 rfl ?_
  refine g_iconst C 1 dL_law_355 (by decide) ?_
  refine g_iadd C dL_law_356 ?_
  refine g_sld C hX9 hbl hbA hL (i + 1) (nI_p i 1) (by omega) dL_law_357 ?_
  refine g_aload_n C 0 dL_law_358 rfl rfl ?_
  refine g_iload C 4 dL_law_359 rfl ?_
  refine g_iconst C 2 dL_law_361 (by decide) ?_
  refine g_iadd C dL_law_362 ?_
  refine g_sld C hX9 hbl hbA hL (i + 2) (nI_p i 2) (by omega) dL_law_363 ?_
  refine g_aload_n C 0 dL_law_364 rfl rfl ?_
  refine g_iload C 4 dL_law_365 rfl ?_
  refine g_iconst C 3 dL_law_367 (by decide) ?_
  refine g_iadd C dL_law_368 ?_
  refine g_sld C hX9 hbl hbA hL (i + 3) (nI_p i 3) (by omega) dL_law_369 ?_
  refine g_aload_n C 3 dL_law_370 rfl rfl ?_
  rcases d_stage (o := o) (a := a) hlt hR (xs (i + 1)) (xs (i + 2)) (xs (i + 3)) with ⟨Po, hM, hPo⟩ | ⟨cls, code, hcd, hne, hT, Pm, hMm, hPm⟩
  · refine g_callSW C [.ref x, .int (xs (i + 1)), .int (xs (i + 2)), .int (xs (i + 3)), .ref r] [] (w_stage l E _ S (Rel.x hR) ow_at (fun v X2 S2 h => ⟨(hPo _ v X2 S2 h).1, (hPo _ v X2 S2 h).2.imp (fun _ h => h.1)⟩) (hM _)) cmw_L_stage wst_L_86 dt_L_stage rfl rfl (Nat.le_of_ble_eq_true rfl) (by decide) ⟨by show _ ≤ 601024; omega, by show _ ≤ 7293034; omega⟩ dL_law_371 ?_
    rintro v X2 S2 ⟨rfl, z, h9, rfl⟩
    rw [ow_set]
    refine g_sa C (fun hsa => ?_)
    obtain ⟨-, z2, e2, h10⟩ := hPo _ _ _ _ h9
    cases e2
    obtain ⟨Pm, hMm, hPm⟩ := h10 hsa
    refine g_istore C ((5, .int 0) :: [(0, .ref b), (1, .ref x), (2, .ref o), (3, .ref r), (4, .int (nI i))]) dL_law_374 (by decide) rfl ?_
    refine g_aload_n C 3 dL_law_376 rfl rfl ?_
    refine g_aload_n C 1 dL_law_377 rfl rfl ?_
    refine g_iload C 5 dL_law_378 rfl ?_
    refine g_iconst C 1 dL_law_380 (by decide) ?_
    refine g_iadd C dL_law_381 ?_
    refine g_sld C hX9 hbl hbA hL (i + 1) (nI_p i 1) (by omega) dL_law_382 ?_
    refine g_aload_n C 1 dL_law_383 rfl rfl ?_
    refine g_iload C 5 dL_law_384 rfl ?_
    refine g_iconst C 2 dL_law_386 (by decide) ?_
    refine g_iadd C dL_law_387 ?_
    refine g_sld C hX9 hbl hbA hL (i + 2) (nI_p i 2) (by omega) dL_law_388 ?_
    refine g_aload_n C 1 dL_law_389 rfl rfl ?_
    refine g_iload C 5 dL_law_390 rfl ?_
    refine g_iconst C 3 dL_law_392 (by decide) ?_
    refine g_iadd C dL_law_393 ?_
    refine g_sld C hX9 hbl hbA hL (i + 3) (nI_p i 3) (by omega) dL_law_394 ?_
    refine g_callV C [.int (xs (i + 1)), .int (xs (i + 2)), .int (xs (i + 3))] [] (hMm _ _) mw_at rfl cm_X5_stage wv_L_88 ds_X5_stage rfl rfl (Nat.le_of_ble_eq_true rfl) (by decide) ⟨by show _ ≤ 601024; omega, by show _ ≤ 7293034; omega⟩ dL_law_395 ?_
    rintro v X2 S3 ⟨rfl, M2, rfl, h11⟩
    obtain ⟨rfl, h20, hR2⟩ := hPm _ _ h11
    refine g_istore C ((6, .int z) :: (5, .int 0) :: [(0, .ref b), (1, .ref x), (2, .ref o), (3, .ref r), (4, .int (nI i))]) dL_law_398 (by decide) rfl ?_
    refine g_aload_n C 4 dL_law_400 rfl rfl ?_
    refine g_callV C [] [] (c_mthrown l E o a M2 _ _) mw_at rfl cm_X5_thrown wv_L_75 ds_X5_thrown rfl rfl (Nat.le_of_ble_eq_true rfl) (by decide) ⟨by show _ ≤ 601024; omega, by show _ ≤ 7293034; omega⟩ dL_law_401 ?_
    rintro v X2 S3 ⟨rfl, M3, rfl, rfl, rfl⟩
    refine g_iload C 1 dL_law_404 rfl ?_
    refine g_icmp_eq C 411 dL_law_406 (by decide) (fun _ => ?_) (fun h => absurd h20 h)
    refine g_iload C 1 dL_law_411 rfl ?_
    refine g_if_ne C 428 dL_law_413 (by decide) (fun h => absurd rfl h) (fun _ => ?_)
    refine g_aload_n C 5 dL_law_416 rfl rfl ?_
    refine g_iconst C 0 dL_law_417 (by decide) ?_
    refine x_lald C 19 0 ow_at rfl (by decide) (by decide) dL_law_418 ?_
    rw [upL_0]
    refine g_iload C 0 dL_law_419 rfl ?_
    refine g_i2l C _ dL_law_421 rfl ?_
    refine g_lcmp C dL_law_422 ?_
    rw [cmp_s]
    refine g_if_eq C 428 dL_law_423 (by decide) (fun _ => ?_) (fun h => absurd rfl h)
    refine g_goto C 1117 dL_law_428 (by decide) ?_
    refine g_locs (lv2 := [(0, .ref b), (1, .ref x), (2, .ref o), (3, .ref r), (4, .int (nI i))]) [2, 3, 4, 5, 6] rfl ?_
    exact next _ _ _ _ _ hR2 (by omega) (by omega)
  · have tail : GW p l e room_1 s m args below meth c E 7 A Q (mw E o a M ++ ow E r f) S (cells + 1) (slots + 6) 374 [(0, .ref b), (1, .ref x), (2, .ref o), (3, .ref r), (4, .int (nI i))] [.int code] := by
      refine g_istore C ((5, .int code) :: [(0, .ref b), (1, .ref x), (2, .ref o), (3, .ref r), (4, .int (nI i))]) dL_law_374 (by decide) rfl ?_
      refine g_aload_n C 3 dL_law_376 rfl rfl ?_
      refine g_aload_n C 1 dL_law_377 rfl rfl ?_
      refine g_iload C 5 dL_law_378 rfl ?_
      refine g_iconst C 1 dL_law_380 (by decide) ?_
      refine g_iadd C dL_law_381 ?_
      refine g_sld C hX9 hbl hbA hL (i + 1) (nI_p i 1) (by omega) dL_law_382 ?_
      refine g_aload_n C 1 dL_law_383 rfl rfl ?_
      refine g_iload C 5 dL_law_384 rfl ?_
      refine g_iconst C 2 dL_law_386 (by decide) ?_
      refine g_iadd C dL_law_387 ?_
      refine g_sld C hX9 hbl hbA hL (i + 2) (nI_p i 2) (by omega) dL_law_388 ?_
      refine g_aload_n C 1 dL_law_389 rfl rfl ?_
      refine g_iload C 5 dL_law_390 rfl ?_
      refine g_iconst C 3 dL_law_392 (by decide) ?_
      refine g_iadd C dL_law_393 ?_
      refine g_sld C hX9 hbl hbA hL (i + 3) (nI_p i 3) (by omega) dL_law_394 ?_
      refine g_callV C [.int (xs (i + 1)), .int (xs (i + 2)), .int (xs (i + 3))] [] (hMm _ _) mw_at rfl cm_X5_stage wv_L_88 ds_X5_stage rfl rfl (Nat.le_of_ble_eq_true rfl) (by decide) ⟨by show _ ≤ 601024; omega, by show _ ≤ 7293034; omega⟩ dL_law_395 ?_
      rintro v X2 S3 ⟨rfl, M2, rfl, h11⟩
      obtain ⟨⟨z, rfl⟩, h20, hR2⟩ := hPm _ _ h11
      refine g_istore C ((6, .int z) :: (5, .int code) :: [(0, .ref b), (1, .ref x), (2, .ref o), (3, .ref r), (4, .int (nI i))]) dL_law_398 (by decide) rfl ?_
      refine g_aload_n C 4 dL_law_400 rfl rfl ?_
      refine g_callV C [] [] (c_mthrown l E o a M2 _ _) mw_at rfl cm_X5_thrown wv_L_75 ds_X5_thrown rfl rfl (Nat.le_of_ble_eq_true rfl) (by decide) ⟨by show _ ≤ 601024; omega, by show _ ≤ 7293034; omega⟩ dL_law_401 ?_
      rintro v X2 S3 ⟨rfl, M3, rfl, rfl, rfl⟩
      refine g_iload C 1 dL_law_404 rfl ?_
      refine g_icmp_eq C 411 dL_law_406 (by decide) (fun _ => ?_) (fun h => absurd h20 h)
      refine g_iload C 1 dL_law_411 rfl ?_
      refine g_if_ne C 428 dL_law_413 (by decide) (fun _ => ?_) (fun h => absurd h hne)
      refine g_goto C 1117 dL_law_428 (by decide) ?_
      refine g_locs (lv2 := [(0, .ref b), (1, .ref x), (2, .ref o), (3, .ref r), (4, .int (nI i))]) [2, 3, 4, 5, 6] rfl ?_
      exact next _ _ _ _ _ hR2 (by omega) (by omega)
    rcases List.mem_cons.mp hcd with hcd | hcd
    · cases hcd
      refine g_callSW C [.ref x, .int (xs (i + 1)), .int (xs (i + 2)), .int (xs (i + 3)), .ref r] [] (w_stageT1 l E _ S (Rel.x hR) (hT _)) cmw_L_stage wst_L_86 dt_L_stage rfl rfl (Nat.le_of_ble_eq_true rfl) (by decide) ⟨by show _ ≤ 601024; omega, by show _ ≤ 7293034; omega⟩ dL_law_371 ?_
      rintro v X2 S2 ⟨rfl, rfl, rfl⟩
      exact tail
    rcases List.mem_cons.mp hcd with hcd | hcd
    · cases hcd
      refine g_callSW C [.ref x, .int (xs (i + 1)), .int (xs (i + 2)), .int (xs (i + 3)), .ref r] [] (w_stageT2 l E _ S (Rel.x hR) (hT _)) cmw_L_stage wst_L_86 dt_L_stage rfl rfl (Nat.le_of_ble_eq_true rfl) (by decide) ⟨by show _ ≤ 601024; omega, by show _ ≤ 7293034; omega⟩ dL_law_371 ?_
      rintro v X2 S2 ⟨rfl, rfl, rfl⟩
      exact tail
    have hcd := List.mem_singleton.mp hcd
    cases hcd
    refine g_callSW C [.ref x, .int (xs (i + 1)), .int (xs (i + 2)), .int (xs (i + 3)), .ref r] [] (w_stageT3 l E _ S (Rel.x hR) (hT _)) cmw_L_stage wst_L_86 dt_L_stage rfl rfl (Nat.le_of_ble_eq_true rfl) (by decide) ⟨by show _ ≤ 601024; omega, by show _ ≤ 7293034; omega⟩ dL_law_371 ?_
    rintro v X2 S2 ⟨rfl, rfl, rfl⟩
    exact tail
set_option maxRecDepth 100000 in
theorem lc_keep {p : Program} {l : Launch} {e : Env} {s : State} {m : MethodId} {args : Array Value} {below : List Frame} {meth : Method} {c : Code} {E : Ev} {A : Nat → Prop} {Q : State → Prop} {nm ds : String} {c0 : Cond} (hlt : l.stackTraces = false) (C : Cx p s m args meth c cL_law 7 (yL nm ds) (some .boolean) c0 E A) {b L : Nat} {xs : Nat → Int32} (hX9 : va_X b L xs s s.heap) (hbl : b < s.heap.size) (hbA : ¬ A b) (hL : L ≤ 2048) {x o r : Nat} {a : Nat → Nat} {S : HS} {M : MM} {f : Nat → Int64} {i : Nat} (hR : Rel E S M x) (hi : i + 4 ≤ L) {cells slots : Nat} (hc : cells + 5 ≤ 601024) (hs : slots + 318 ≤ 7293034) (next : ∀ (S2 : HS) (M2 : MM) (f2 : Nat → Int64) (cells2 slots2 : Nat), Rel E S2 M2 x → cells2 ≤ cells + 5 → slots2 ≤ slots + 318 → GW p l e room_1 s m args below meth c E 7 A Q (mw E o a M2 ++ ow E r f2) S2 cells2 slots2 1117 [(0, .ref b), (1, .ref x), (2, .ref o), (3, .ref r), (4, .int (nI i))] []) : GW p l e room_1 s m args below meth c E 7 A Q (mw E o a M ++ ow E r f) S cells slots 431 [(0, .ref b), (1, .ref x), (2, .ref o), (3, .ref r), (4, .int (nI i))] [] := by
  refine g_aload_n C 1 dL_law_431 rfl rfl ?_
  refine g_aload_n C 0 dL_law_432 rfl rfl ?_
  refine g_iload C 4 dL_law_433 rfl ?_
  refine g_iconst C 1 dL_law_435 (by decide) ?_
  refine g_iadd C dL_law_436 ?_
  refine g_sld C hX9 hbl hbA hL (i + 1) (nI_p i 1) (by omega) dL_law_437 ?_
  refine g_aload_n C 3 dL_law_438 rfl rfl ?_
  rcases d_keep (o := o) (a := a) hlt hR (xs (i + 1)) with ⟨Po, hM, hPo⟩ | ⟨cls, code, hcd, hne, hT, Pm, hMm, hPm⟩
  · refine g_callSW C [.ref x, .int (xs (i + 1)), .ref r] [] (w_keep l E _ S (Rel.x hR) ow_at (fun v X2 S2 h => ⟨(hPo _ v X2 S2 h).1, (hPo _ v X2 S2 h).2.imp (fun _ h => h.1)⟩) (hM _)) cmw_L_keep wst_L_89 dt_L_keep rfl rfl (Nat.le_of_ble_eq_true rfl) (by decide) ⟨by show _ ≤ 601024; omega, by show _ ≤ 7293034; omega⟩ dL_law_439 ?_
    rintro v X2 S2 ⟨rfl, z, h9, rfl⟩
    rw [ow_set]
    refine g_sa C (fun hsa => ?_)
    obtain ⟨-, z2, e2, h10⟩ := hPo _ _ _ _ h9
    cases e2
    obtain ⟨Pm, hMm, hPm⟩ := h10 hsa
    refine g_istore C ((5, .int 0) :: [(0, .ref b), (1, .ref x), (2, .ref o), (3, .ref r), (4, .int (nI i))]) dL_law_442 (by decide) rfl ?_
    refine g_aload_n C 3 dL_law_444 rfl rfl ?_
    refine g_aload_n C 1 dL_law_445 rfl rfl ?_
    refine g_iload C 5 dL_law_446 rfl ?_
    refine g_iconst C 1 dL_law_448 (by decide) ?_
    refine g_iadd C dL_law_449 ?_
    refine g_sld C hX9 hbl hbA hL (i + 1) (nI_p i 1) (by omega) dL_law_450 ?_
    refine g_callV C [.int (xs (i + 1))] [] (hMm _ _) mw_at rfl cm_X5_keep wv_L_92 ds_X5_keep rfl rfl (Nat.le_of_ble_eq_true rfl) (by decide) ⟨by show _ ≤ 601024; omega, by show _ ≤ 7293034; omega⟩ dL_law_451 ?_
    rintro v X2 S3 ⟨rfl, M2, rfl, h11⟩
    obtain ⟨rfl, h20, hR2⟩ := hPm _ _ h11
    refine g_istore C ((6, .int z) :: (5, .int 0) :: [(0, .ref b), (1, .ref x), (2, .ref o), (3, .ref r), (4, .int (nI i))]) dL_law_454 (by decide) rfl ?_
    refine g_aload_n C 4 dL_law_456 rfl rfl ?_
    refine g_callV C [] [] (c_mthrown l E o a M2 _ _) mw_at rfl cm_X5_thrown wv_L_75 ds_X5_thrown rfl rfl (Nat.le_of_ble_eq_true rfl) (by decide) ⟨by show _ ≤ 601024; omega, by show _ ≤ 7293034; omega⟩ dL_law_457 ?_
    rintro v X2 S3 ⟨rfl, M3, rfl, rfl, rfl⟩
    refine g_iload C 1 dL_law_460 rfl ?_
    refine g_icmp_eq C 467 dL_law_462 (by decide) (fun _ => ?_) (fun h => absurd h20 h)
    refine g_iload C 1 dL_law_467 rfl ?_
    refine g_if_ne C 484 dL_law_469 (by decide) (fun h => absurd rfl h) (fun _ => ?_)
    refine g_aload_n C 5 dL_law_472 rfl rfl ?_
    refine g_iconst C 0 dL_law_473 (by decide) ?_
    refine x_lald C 19 0 ow_at rfl (by decide) (by decide) dL_law_474 ?_
    rw [upL_0]
    refine g_iload C 0 dL_law_475 rfl ?_
    refine g_i2l C _ dL_law_477 rfl ?_
    refine g_lcmp C dL_law_478 ?_
    rw [cmp_s]
    refine g_if_eq C 484 dL_law_479 (by decide) (fun _ => ?_) (fun h => absurd rfl h)
    refine g_goto C 1117 dL_law_484 (by decide) ?_
    refine g_locs (lv2 := [(0, .ref b), (1, .ref x), (2, .ref o), (3, .ref r), (4, .int (nI i))]) [2, 3, 4, 5, 6] rfl ?_
    exact next _ _ _ _ _ hR2 (by omega) (by omega)
  · have tail : GW p l e room_1 s m args below meth c E 7 A Q (mw E o a M ++ ow E r f) S (cells + 1) (slots + 6) 442 [(0, .ref b), (1, .ref x), (2, .ref o), (3, .ref r), (4, .int (nI i))] [.int code] := by
      refine g_istore C ((5, .int code) :: [(0, .ref b), (1, .ref x), (2, .ref o), (3, .ref r), (4, .int (nI i))]) dL_law_442 (by decide) rfl ?_
      refine g_aload_n C 3 dL_law_444 rfl rfl ?_
      refine g_aload_n C 1 dL_law_445 rfl rfl ?_
      refine g_iload C 5 dL_law_446 rfl ?_
      refine g_iconst C 1 dL_law_448 (by decide) ?_
      refine g_iadd C dL_law_449 ?_
      refine g_sld C hX9 hbl hbA hL (i + 1) (nI_p i 1) (by omega) dL_law_450 ?_
      refine g_callV C [.int (xs (i + 1))] [] (hMm _ _) mw_at rfl cm_X5_keep wv_L_92 ds_X5_keep rfl rfl (Nat.le_of_ble_eq_true rfl) (by decide) ⟨by show _ ≤ 601024; omega, by show _ ≤ 7293034; omega⟩ dL_law_451 ?_
      rintro v X2 S3 ⟨rfl, M2, rfl, h11⟩
      obtain ⟨⟨z, rfl⟩, h20, hR2⟩ := hPm _ _ h11
      refine g_istore C ((6, .int z) :: (5, .int code) :: [(0, .ref b), (1, .ref x), (2, .ref o), (3, .ref r), (4, .int (nI i))]) dL_law_454 (by decide) rfl ?_
      refine g_aload_n C 4 dL_law_456 rfl rfl ?_
      refine g_callV C [] [] (c_mthrown l E o a M2 _ _) mw_at rfl cm_X5_thrown wv_L_75 ds_X5_thrown rfl rfl (Nat.le_of_ble_eq_true rfl) (by decide) ⟨by show _ ≤ 601024; omega, by show _ ≤ 7293034; omega⟩ dL_law_457 ?_
      rintro v X2 S3 ⟨rfl, M3, rfl, rfl, rfl⟩
      refine g_iload C 1 dL_law_460 rfl ?_
      refine g_icmp_eq C 467 dL_law_462 (by decide) (fun _ => ?_) (fun h => absurd h20 h)
      refine g_iload C 1 dL_law_467 rfl ?_
      refine g_if_ne C 484 dL_law_469 (by decide) (fun _ => ?_) (fun h => absurd h hne)
      refine g_goto C 1117 dL_law_484 (by decide) ?_
      refine g_locs (lv2 := [(0, .ref b), (1, .ref x), (2, .ref o), (3, .ref r), (4, .int (nI i))]) [2, 3, 4, 5, 6] rfl ?_
      exact next _ _ _ _ _ hR2 (by omega) (by omega)
    have hcd := List.mem_singleton.mp hcd
    cases hcd
    refine g_callSW C [.ref x, .int (xs (i + 1)), .ref r] [] (w_keepT1 l E _ S (Rel.x hR) (hT _)) cmw_L_keep wst_L_89 dt_L_keep rfl rfl (Nat.le_of_ble_eq_true rfl) (by decide) ⟨by show _ ≤ 601024; omega, by show _ ≤ 7293034; omega⟩ dL_law_439 ?_
    rintro v X2 S2 ⟨rfl, rfl, rfl⟩
    exact tail
set_option maxRecDepth 100000 in
theorem lc_row {p : Program} {l : Launch} {e : Env} {s : State} {m : MethodId} {args : Array Value} {below : List Frame} {meth : Method} {c : Code} {E : Ev} {A : Nat → Prop} {Q : State → Prop} {nm ds : String} {c0 : Cond} (hlt : l.stackTraces = false) (C : Cx p s m args meth c cL_law 7 (yL nm ds) (some .boolean) c0 E A) {b L : Nat} {xs : Nat → Int32} (hX9 : va_X b L xs s s.heap) (hbl : b < s.heap.size) (hbA : ¬ A b) (hL : L ≤ 2048) {x o r : Nat} {a : Nat → Nat} {S : HS} {M : MM} {f : Nat → Int64} {i : Nat} (hR : Rel E S M x) (hi : i + 4 ≤ L) {cells slots : Nat} (hc : cells + 5 ≤ 601024) (hs : slots + 318 ≤ 7293034) (next : ∀ (S2 : HS) (M2 : MM) (f2 : Nat → Int64) (cells2 slots2 : Nat), Rel E S2 M2 x → cells2 ≤ cells + 5 → slots2 ≤ slots + 318 → GW p l e room_1 s m args below meth c E 7 A Q (mw E o a M2 ++ ow E r f2) S2 cells2 slots2 1117 [(0, .ref b), (1, .ref x), (2, .ref o), (3, .ref r), (4, .int (nI i))] []) : GW p l e room_1 s m args below meth c E 7 A Q (mw E o a M ++ ow E r f) S cells slots 487 [(0, .ref b), (1, .ref x), (2, .ref o), (3, .ref r), (4, .int (nI i))] [] := by
  refine g_aload_n C 1 dL_law_487 rfl rfl ?_
  refine g_aload_n C 0 dL_law_488 rfl rfl ?_
  refine g_iload C 4 dL_law_489 rfl ?_
  refine g_iconst C 1 dL_law_491 (by decide) ?_
  refine g_iadd C dL_law_492 ?_
  refine g_sld C hX9 hbl hbA hL (i + 1) (nI_p i 1) (by omega) dL_law_493 ?_
  refine g_aload_n C 0 dL_law_494 rfl rfl ?_
  refine g_iload C 4 dL_law_495 rfl ?_
  refine g_iconst C 2 dL_law_497 (by decide) ?_
  refine g_iadd C dL_law_498 ?_
  refine g_sld C hX9 hbl hbA hL (i + 2) (nI_p i 2) (by omega) dL_law_499 ?_
  refine g_aload_n C 3 dL_law_500 rfl rfl ?_
  rcases d_row (o := o) (a := a) hlt hR (xs (i + 1)) (xs (i + 2)) with ⟨Po, hM, hPo⟩ | ⟨cls, code, hcd, hne, hT, Pm, hMm, hPm⟩
  · refine g_callSW C [.ref x, .int (xs (i + 1)), .int (xs (i + 2)), .ref r] [] (w_row l E _ S (Rel.x hR) ow_at (fun v X2 S2 h => ⟨(hPo _ v X2 S2 h).1, (hPo _ v X2 S2 h).2.imp (fun _ h => h.1)⟩) (hM _)) cmw_L_row wst_L_93 dt_L_row rfl rfl (Nat.le_of_ble_eq_true rfl) (by decide) ⟨by show _ ≤ 601024; omega, by show _ ≤ 7293034; omega⟩ dL_law_501 ?_
    rintro v X2 S2 ⟨rfl, z, h9, rfl⟩
    rw [ow_set]
    refine g_sa C (fun hsa => ?_)
    obtain ⟨-, z2, e2, h10⟩ := hPo _ _ _ _ h9
    cases e2
    obtain ⟨Pm, hMm, hPm⟩ := h10 hsa
    refine g_istore C ((5, .int 0) :: [(0, .ref b), (1, .ref x), (2, .ref o), (3, .ref r), (4, .int (nI i))]) dL_law_504 (by decide) rfl ?_
    refine g_aload_n C 3 dL_law_506 rfl rfl ?_
    refine g_aload_n C 1 dL_law_507 rfl rfl ?_
    refine g_iload C 5 dL_law_508 rfl ?_
    refine g_iconst C 1 dL_law_510 (by decide) ?_
    refine g_iadd C dL_law_511 ?_
    refine g_sld C hX9 hbl hbA hL (i + 1) (nI_p i 1) (by omega) dL_law_512 ?_
    refine g_aload_n C 1 dL_law_513 rfl rfl ?_
    refine g_iload C 5 dL_law_514 rfl ?_
    refine g_iconst C 2 dL_law_516 (by decide) ?_
    refine g_iadd C dL_law_517 ?_
    refine g_sld C hX9 hbl hbA hL (i + 2) (nI_p i 2) (by omega) dL_law_518 ?_
    refine g_callV C [.int (xs (i + 1)), .int (xs (i + 2))] [] (hMm _ _) mw_at rfl cm_X5_row wv_L_95 ds_X5_row rfl rfl (Nat.le_of_ble_eq_true rfl) (by decide) ⟨by show _ ≤ 601024; omega, by show _ ≤ 7293034; omega⟩ dL_law_519 ?_
    rintro v X2 S3 ⟨rfl, M2, rfl, h11⟩
    obtain ⟨rfl, h20, hR2⟩ := hPm _ _ h11
    refine g_istore C ((6, .int z) :: (5, .int 0) :: [(0, .ref b), (1, .ref x), (2, .ref o), (3, .ref r), (4, .int (nI i))]) dL_law_522 (by decide) rfl ?_
    refine g_aload_n C 4 dL_law_524 rfl rfl ?_
    refine g_callV C [] [] (c_mthrown l E o a M2 _ _) mw_at rfl cm_X5_thrown wv_L_75 ds_X5_thrown rfl rfl (Nat.le_of_ble_eq_true rfl) (by decide) ⟨by show _ ≤ 601024; omega, by show _ ≤ 7293034; omega⟩ dL_law_525 ?_
    rintro v X2 S3 ⟨rfl, M3, rfl, rfl, rfl⟩
    refine g_iload C 1 dL_law_528 rfl ?_
    refine g_icmp_eq C 535 dL_law_530 (by decide) (fun _ => ?_) (fun h => absurd h20 h)
    refine g_iload C 1 dL_law_535 rfl ?_
    refine g_if_ne C 559 dL_law_537 (by decide) (fun h => absurd rfl h) (fun _ => ?_)
    refine g_aload_n C 5 dL_law_540 rfl rfl ?_
    refine g_iconst C 0 dL_law_541 (by decide) ?_
    refine x_lald C 19 0 ow_at rfl (by decide) (by decide) dL_law_542 ?_
    rw [upL_0]
    refine g_iload C 0 dL_law_543 rfl ?_
    refine g_if_eq C 552 dL_law_545 (by decide) (fun h0 => ?_) (fun h0 => ?_)
    · refine g_lconst C 0 dL_law_552 (by decide) ?_
      rw [show cvB z = 0 from if_pos h0]
      refine g_lcmp C dL_law_553 ?_
      rw [cmp_s]
      refine g_if_eq C 559 dL_law_554 (by decide) (fun _ => ?_) (fun h => absurd rfl h)
      refine g_goto C 1117 dL_law_559 (by decide) ?_
      refine g_locs (lv2 := [(0, .ref b), (1, .ref x), (2, .ref o), (3, .ref r), (4, .int (nI i))]) [2, 3, 4, 5, 6] rfl ?_
      exact next _ _ _ _ _ hR2 (by omega) (by omega)
    · refine g_lconst C 1 dL_law_548 (by decide) ?_
      refine g_goto C 553 dL_law_549 (by decide) ?_
      rw [show cvB z = 1 from if_neg h0]
      refine g_lcmp C dL_law_553 ?_
      rw [cmp_s]
      refine g_if_eq C 559 dL_law_554 (by decide) (fun _ => ?_) (fun h => absurd rfl h)
      refine g_goto C 1117 dL_law_559 (by decide) ?_
      refine g_locs (lv2 := [(0, .ref b), (1, .ref x), (2, .ref o), (3, .ref r), (4, .int (nI i))]) [2, 3, 4, 5, 6] rfl ?_
      exact next _ _ _ _ _ hR2 (by omega) (by omega)
  · have tail : GW p l e room_1 s m args below meth c E 7 A Q (mw E o a M ++ ow E r f) S (cells + 1) (slots + 6) 504 [(0, .ref b), (1, .ref x), (2, .ref o), (3, .ref r), (4, .int (nI i))] [.int code] := by
      refine g_istore C ((5, .int code) :: [(0, .ref b), (1, .ref x), (2, .ref o), (3, .ref r), (4, .int (nI i))]) dL_law_504 (by decide) rfl ?_
      refine g_aload_n C 3 dL_law_506 rfl rfl ?_
      refine g_aload_n C 1 dL_law_507 rfl rfl ?_
      refine g_iload C 5 dL_law_508 rfl ?_
      refine g_iconst C 1 dL_law_510 (by decide) ?_
      refine g_iadd C dL_law_511 ?_
      refine g_sld C hX9 hbl hbA hL (i + 1) (nI_p i 1) (by omega) dL_law_512 ?_
      refine g_aload_n C 1 dL_law_513 rfl rfl ?_
      refine g_iload C 5 dL_law_514 rfl ?_
      refine g_iconst C 2 dL_law_516 (by decide) ?_
      refine g_iadd C dL_law_517 ?_
      refine g_sld C hX9 hbl hbA hL (i + 2) (nI_p i 2) (by omega) dL_law_518 ?_
      refine g_callV C [.int (xs (i + 1)), .int (xs (i + 2))] [] (hMm _ _) mw_at rfl cm_X5_row wv_L_95 ds_X5_row rfl rfl (Nat.le_of_ble_eq_true rfl) (by decide) ⟨by show _ ≤ 601024; omega, by show _ ≤ 7293034; omega⟩ dL_law_519 ?_
      rintro v X2 S3 ⟨rfl, M2, rfl, h11⟩
      obtain ⟨⟨z, rfl⟩, h20, hR2⟩ := hPm _ _ h11
      refine g_istore C ((6, .int z) :: (5, .int code) :: [(0, .ref b), (1, .ref x), (2, .ref o), (3, .ref r), (4, .int (nI i))]) dL_law_522 (by decide) rfl ?_
      refine g_aload_n C 4 dL_law_524 rfl rfl ?_
      refine g_callV C [] [] (c_mthrown l E o a M2 _ _) mw_at rfl cm_X5_thrown wv_L_75 ds_X5_thrown rfl rfl (Nat.le_of_ble_eq_true rfl) (by decide) ⟨by show _ ≤ 601024; omega, by show _ ≤ 7293034; omega⟩ dL_law_525 ?_
      rintro v X2 S3 ⟨rfl, M3, rfl, rfl, rfl⟩
      refine g_iload C 1 dL_law_528 rfl ?_
      refine g_icmp_eq C 535 dL_law_530 (by decide) (fun _ => ?_) (fun h => absurd h20 h)
      refine g_iload C 1 dL_law_535 rfl ?_
      refine g_if_ne C 559 dL_law_537 (by decide) (fun _ => ?_) (fun h => absurd h hne)
      refine g_goto C 1117 dL_law_559 (by decide) ?_
      refine g_locs (lv2 := [(0, .ref b), (1, .ref x), (2, .ref o), (3, .ref r), (4, .int (nI i))]) [2, 3, 4, 5, 6] rfl ?_
      exact next _ _ _ _ _ hR2 (by omega) (by omega)
    rcases List.mem_cons.mp hcd with hcd | hcd
    · cases hcd
      refine g_callSW C [.ref x, .int (xs (i + 1)), .int (xs (i + 2)), .ref r] [] (w_rowT1 l E _ S (Rel.x hR) (hT _)) cmw_L_row wst_L_93 dt_L_row rfl rfl (Nat.le_of_ble_eq_true rfl) (by decide) ⟨by show _ ≤ 601024; omega, by show _ ≤ 7293034; omega⟩ dL_law_501 ?_
      rintro v X2 S2 ⟨rfl, rfl, rfl⟩
      exact tail
    have hcd := List.mem_singleton.mp hcd
    cases hcd
    refine g_callSW C [.ref x, .int (xs (i + 1)), .int (xs (i + 2)), .ref r] [] (w_rowT2 l E _ S (Rel.x hR) (hT _)) cmw_L_row wst_L_93 dt_L_row rfl rfl (Nat.le_of_ble_eq_true rfl) (by decide) ⟨by show _ ≤ 601024; omega, by show _ ≤ 7293034; omega⟩ dL_law_501 ?_
    rintro v X2 S2 ⟨rfl, rfl, rfl⟩
    exact tail
set_option maxRecDepth 100000 in
theorem lc_run {p : Program} {l : Launch} {e : Env} {s : State} {m : MethodId} {args : Array Value} {below : List Frame} {meth : Method} {c : Code} {E : Ev} {A : Nat → Prop} {Q : State → Prop} {nm ds : String} {c0 : Cond} (hlt : l.stackTraces = false) (C : Cx p s m args meth c cL_law 7 (yL nm ds) (some .boolean) c0 E A) {b L : Nat} {xs : Nat → Int32} (hX9 : va_X b L xs s s.heap) (hbl : b < s.heap.size) (hbA : ¬ A b) (hL : L ≤ 2048) {x o r : Nat} {a : Nat → Nat} {S : HS} {M : MM} {f : Nat → Int64} {i : Nat} (hR : Rel E S M x) (hi : i + 4 ≤ L) {cells slots : Nat} (hc : cells + 5 ≤ 601024) (hs : slots + 318 ≤ 7293034) (next : ∀ (S2 : HS) (M2 : MM) (f2 : Nat → Int64) (cells2 slots2 : Nat), Rel E S2 M2 x → cells2 ≤ cells + 5 → slots2 ≤ slots + 318 → GW p l e room_1 s m args below meth c E 7 A Q (mw E o a M2 ++ ow E r f2) S2 cells2 slots2 1117 [(0, .ref b), (1, .ref x), (2, .ref o), (3, .ref r), (4, .int (nI i))] []) : GW p l e room_1 s m args below meth c E 7 A Q (mw E o a M ++ ow E r f) S cells slots 562 [(0, .ref b), (1, .ref x), (2, .ref o), (3, .ref r), (4, .int (nI i))] [] := by
  by_cases h0 : xs (i + 2) = 0
  · refine g_aload_n C 1 dL_law_562 rfl rfl ?_
    refine g_aload_n C 0 dL_law_563 rfl rfl ?_
    refine g_iload C 4 dL_law_564 rfl ?_
    refine g_iconst C 1 dL_law_566 (by decide) ?_
    refine g_iadd C dL_law_567 ?_
    refine g_sld C hX9 hbl hbA hL (i + 1) (nI_p i 1) (by omega) dL_law_568 ?_
    refine g_aload_n C 0 dL_law_569 rfl rfl ?_
    refine g_iload C 4 dL_law_570 rfl ?_
    refine g_iconst C 2 dL_law_572 (by decide) ?_
    refine g_iadd C dL_law_573 ?_
    refine g_sld C hX9 hbl hbA hL (i + 2) (nI_p i 2) (by omega) dL_law_574 ?_
    refine g_if_eq C 582 dL_law_575 (by decide) (fun _ => ?_) (fun h => absurd h0 h)
    refine g_iconst C 0 dL_law_582 (by decide) ?_
    refine g_aload_n C 3 dL_law_583 rfl rfl ?_
    rcases d_run (o := o) (a := a) hlt hR (xs (i + 1)) false with ⟨Po, hM, hPo⟩ | ⟨cls, code, hcd, hne, hT, Pm, hMm, hPm⟩
    · refine g_callSW C [.ref x, .int (xs (i + 1)), .int (bI false), .ref r] [] (w_run l E _ S (Rel.x hR) ow_at (fun v X2 S2 h => ⟨(hPo _ v X2 S2 h).1, (hPo _ v X2 S2 h).2.imp (fun _ h => h.1)⟩) (hM _)) cmw_L_run wst_L_96 dt_L_run rfl rfl (Nat.le_of_ble_eq_true rfl) (by decide) ⟨by show _ ≤ 601024; omega, by show _ ≤ 7293034; omega⟩ dL_law_584 ?_
      rintro v X2 S2 ⟨rfl, z, h9, rfl⟩
      rw [ow_set]
      refine g_sa C (fun hsa => ?_)
      obtain ⟨-, z2, e2, h10⟩ := hPo _ _ _ _ h9
      cases e2
      obtain ⟨Pm, hMm, hPm⟩ := h10 hsa
      refine g_istore C ((5, .int 0) :: [(0, .ref b), (1, .ref x), (2, .ref o), (3, .ref r), (4, .int (nI i))]) dL_law_587 (by decide) rfl ?_
      refine g_aload_n C 3 dL_law_589 rfl rfl ?_
      refine g_aload_n C 1 dL_law_590 rfl rfl ?_
      refine g_iload C 5 dL_law_591 rfl ?_
      refine g_iconst C 1 dL_law_593 (by decide) ?_
      refine g_iadd C dL_law_594 ?_
      refine g_sld C hX9 hbl hbA hL (i + 1) (nI_p i 1) (by omega) dL_law_595 ?_
      refine g_aload_n C 1 dL_law_596 rfl rfl ?_
      refine g_iload C 5 dL_law_597 rfl ?_
      refine g_iconst C 2 dL_law_599 (by decide) ?_
      refine g_iadd C dL_law_600 ?_
      refine g_sld C hX9 hbl hbA hL (i + 2) (nI_p i 2) (by omega) dL_law_601 ?_
      refine g_if_eq C 609 dL_law_602 (by decide) (fun _ => ?_) (fun h => absurd h0 h)
      refine g_iconst C 0 dL_law_609 (by decide) ?_
      refine g_callV C [.int (xs (i + 1)), .int (bI false)] [] (hMm _ _) mw_at rfl cm_X5_run wv_L_99 ds_X5_run rfl rfl (Nat.le_of_ble_eq_true rfl) (by decide) ⟨by show _ ≤ 601024; omega, by show _ ≤ 7293034; omega⟩ dL_law_610 ?_
      rintro v X2 S3 ⟨rfl, M2, rfl, h11⟩
      obtain ⟨rfl, h20, hR2⟩ := hPm _ _ h11
      refine g_istore C ((6, .int z) :: (5, .int 0) :: [(0, .ref b), (1, .ref x), (2, .ref o), (3, .ref r), (4, .int (nI i))]) dL_law_613 (by decide) rfl ?_
      refine g_aload_n C 4 dL_law_615 rfl rfl ?_
      refine g_callV C [] [] (c_mthrown l E o a M2 _ _) mw_at rfl cm_X5_thrown wv_L_75 ds_X5_thrown rfl rfl (Nat.le_of_ble_eq_true rfl) (by decide) ⟨by show _ ≤ 601024; omega, by show _ ≤ 7293034; omega⟩ dL_law_616 ?_
      rintro v X2 S3 ⟨rfl, M3, rfl, rfl, rfl⟩
      refine g_iload C 1 dL_law_619 rfl ?_
      refine g_icmp_eq C 626 dL_law_621 (by decide) (fun _ => ?_) (fun h => absurd h20 h)
      refine g_iload C 1 dL_law_626 rfl ?_
      refine g_if_ne C 643 dL_law_628 (by decide) (fun h => absurd rfl h) (fun _ => ?_)
      refine g_aload_n C 5 dL_law_631 rfl rfl ?_
      refine g_iconst C 0 dL_law_632 (by decide) ?_
      refine x_lald C 19 0 ow_at rfl (by decide) (by decide) dL_law_633 ?_
      rw [upL_0]
      refine g_iload C 0 dL_law_634 rfl ?_
      refine g_i2l C _ dL_law_636 rfl ?_
      refine g_lcmp C dL_law_637 ?_
      rw [cmp_s]
      refine g_if_eq C 643 dL_law_638 (by decide) (fun _ => ?_) (fun h => absurd rfl h)
      refine g_goto C 1117 dL_law_643 (by decide) ?_
      refine g_locs (lv2 := [(0, .ref b), (1, .ref x), (2, .ref o), (3, .ref r), (4, .int (nI i))]) [2, 3, 4, 5, 6] rfl ?_
      exact next _ _ _ _ _ hR2 (by omega) (by omega)
    · have tail : GW p l e room_1 s m args below meth c E 7 A Q (mw E o a M ++ ow E r f) S (cells + 1) (slots + 6) 587 [(0, .ref b), (1, .ref x), (2, .ref o), (3, .ref r), (4, .int (nI i))] [.int code] := by
        refine g_istore C ((5, .int code) :: [(0, .ref b), (1, .ref x), (2, .ref o), (3, .ref r), (4, .int (nI i))]) dL_law_587 (by decide) rfl ?_
        refine g_aload_n C 3 dL_law_589 rfl rfl ?_
        refine g_aload_n C 1 dL_law_590 rfl rfl ?_
        refine g_iload C 5 dL_law_591 rfl ?_
        refine g_iconst C 1 dL_law_593 (by decide) ?_
        refine g_iadd C dL_law_594 ?_
        refine g_sld C hX9 hbl hbA hL (i + 1) (nI_p i 1) (by omega) dL_law_595 ?_
        refine g_aload_n C 1 dL_law_596 rfl rfl ?_
        refine g_iload C 5 dL_law_597 rfl ?_
        refine g_iconst C 2 dL_law_599 (by decide) ?_
        refine g_iadd C dL_law_600 ?_
        refine g_sld C hX9 hbl hbA hL (i + 2) (nI_p i 2) (by omega) dL_law_601 ?_
        refine g_if_eq C 609 dL_law_602 (by decide) (fun _ => ?_) (fun h => absurd h0 h)
        refine g_iconst C 0 dL_law_609 (by decide) ?_
        refine g_callV C [.int (xs (i + 1)), .int (bI false)] [] (hMm _ _) mw_at rfl cm_X5_run wv_L_99 ds_X5_run rfl rfl (Nat.le_of_ble_eq_true rfl) (by decide) ⟨by show _ ≤ 601024; omega, by show _ ≤ 7293034; omega⟩ dL_law_610 ?_
        rintro v X2 S3 ⟨rfl, M2, rfl, h11⟩
        obtain ⟨⟨z, rfl⟩, h20, hR2⟩ := hPm _ _ h11
        refine g_istore C ((6, .int z) :: (5, .int code) :: [(0, .ref b), (1, .ref x), (2, .ref o), (3, .ref r), (4, .int (nI i))]) dL_law_613 (by decide) rfl ?_
        refine g_aload_n C 4 dL_law_615 rfl rfl ?_
        refine g_callV C [] [] (c_mthrown l E o a M2 _ _) mw_at rfl cm_X5_thrown wv_L_75 ds_X5_thrown rfl rfl (Nat.le_of_ble_eq_true rfl) (by decide) ⟨by show _ ≤ 601024; omega, by show _ ≤ 7293034; omega⟩ dL_law_616 ?_
        rintro v X2 S3 ⟨rfl, M3, rfl, rfl, rfl⟩
        refine g_iload C 1 dL_law_619 rfl ?_
        refine g_icmp_eq C 626 dL_law_621 (by decide) (fun _ => ?_) (fun h => absurd h20 h)
        refine g_iload C 1 dL_law_626 rfl ?_
        refine g_if_ne C 643 dL_law_628 (by decide) (fun _ => ?_) (fun h => absurd h hne)
        refine g_goto C 1117 dL_law_643 (by decide) ?_
        refine g_locs (lv2 := [(0, .ref b), (1, .ref x), (2, .ref o), (3, .ref r), (4, .int (nI i))]) [2, 3, 4, 5, 6] rfl ?_
        exact next _ _ _ _ _ hR2 (by omega) (by omega)
      have hcd := List.mem_singleton.mp hcd
      cases hcd
      refine g_callSW C [.ref x, .int (xs (i + 1)), .int (bI false), .ref r] [] (w_runT1 l E _ S (Rel.x hR) (hT _)) cmw_L_run wst_L_96 dt_L_run rfl rfl (Nat.le_of_ble_eq_true rfl) (by decide) ⟨by show _ ≤ 601024; omega, by show _ ≤ 7293034; omega⟩ dL_law_584 ?_
      rintro v X2 S2 ⟨rfl, rfl, rfl⟩
      exact tail
  · refine g_aload_n C 1 dL_law_562 rfl rfl ?_
    refine g_aload_n C 0 dL_law_563 rfl rfl ?_
    refine g_iload C 4 dL_law_564 rfl ?_
    refine g_iconst C 1 dL_law_566 (by decide) ?_
    refine g_iadd C dL_law_567 ?_
    refine g_sld C hX9 hbl hbA hL (i + 1) (nI_p i 1) (by omega) dL_law_568 ?_
    refine g_aload_n C 0 dL_law_569 rfl rfl ?_
    refine g_iload C 4 dL_law_570 rfl ?_
    refine g_iconst C 2 dL_law_572 (by decide) ?_
    refine g_iadd C dL_law_573 ?_
    refine g_sld C hX9 hbl hbA hL (i + 2) (nI_p i 2) (by omega) dL_law_574 ?_
    refine g_if_eq C 582 dL_law_575 (by decide) (fun h => absurd h h0) (fun _ => ?_)
    refine g_iconst C 1 dL_law_578 (by decide) ?_
    refine g_goto C 583 dL_law_579 (by decide) ?_
    refine g_aload_n C 3 dL_law_583 rfl rfl ?_
    rcases d_run (o := o) (a := a) hlt hR (xs (i + 1)) true with ⟨Po, hM, hPo⟩ | ⟨cls, code, hcd, hne, hT, Pm, hMm, hPm⟩
    · refine g_callSW C [.ref x, .int (xs (i + 1)), .int (bI true), .ref r] [] (w_run l E _ S (Rel.x hR) ow_at (fun v X2 S2 h => ⟨(hPo _ v X2 S2 h).1, (hPo _ v X2 S2 h).2.imp (fun _ h => h.1)⟩) (hM _)) cmw_L_run wst_L_96 dt_L_run rfl rfl (Nat.le_of_ble_eq_true rfl) (by decide) ⟨by show _ ≤ 601024; omega, by show _ ≤ 7293034; omega⟩ dL_law_584 ?_
      rintro v X2 S2 ⟨rfl, z, h9, rfl⟩
      rw [ow_set]
      refine g_sa C (fun hsa => ?_)
      obtain ⟨-, z2, e2, h10⟩ := hPo _ _ _ _ h9
      cases e2
      obtain ⟨Pm, hMm, hPm⟩ := h10 hsa
      refine g_istore C ((5, .int 0) :: [(0, .ref b), (1, .ref x), (2, .ref o), (3, .ref r), (4, .int (nI i))]) dL_law_587 (by decide) rfl ?_
      refine g_aload_n C 3 dL_law_589 rfl rfl ?_
      refine g_aload_n C 1 dL_law_590 rfl rfl ?_
      refine g_iload C 5 dL_law_591 rfl ?_
      refine g_iconst C 1 dL_law_593 (by decide) ?_
      refine g_iadd C dL_law_594 ?_
      refine g_sld C hX9 hbl hbA hL (i + 1) (nI_p i 1) (by omega) dL_law_595 ?_
      refine g_aload_n C 1 dL_law_596 rfl rfl ?_
      refine g_iload C 5 dL_law_597 rfl ?_
      refine g_iconst C 2 dL_law_599 (by decide) ?_
      refine g_iadd C dL_law_600 ?_
      refine g_sld C hX9 hbl hbA hL (i + 2) (nI_p i 2) (by omega) dL_law_601 ?_
      refine g_if_eq C 609 dL_law_602 (by decide) (fun h => absurd h h0) (fun _ => ?_)
      refine g_iconst C 1 dL_law_605 (by decide) ?_
      refine g_goto C 610 dL_law_606 (by decide) ?_
      refine g_callV C [.int (xs (i + 1)), .int (bI true)] [] (hMm _ _) mw_at rfl cm_X5_run wv_L_99 ds_X5_run rfl rfl (Nat.le_of_ble_eq_true rfl) (by decide) ⟨by show _ ≤ 601024; omega, by show _ ≤ 7293034; omega⟩ dL_law_610 ?_
      rintro v X2 S3 ⟨rfl, M2, rfl, h11⟩
      obtain ⟨rfl, h20, hR2⟩ := hPm _ _ h11
      refine g_istore C ((6, .int z) :: (5, .int 0) :: [(0, .ref b), (1, .ref x), (2, .ref o), (3, .ref r), (4, .int (nI i))]) dL_law_613 (by decide) rfl ?_
      refine g_aload_n C 4 dL_law_615 rfl rfl ?_
      refine g_callV C [] [] (c_mthrown l E o a M2 _ _) mw_at rfl cm_X5_thrown wv_L_75 ds_X5_thrown rfl rfl (Nat.le_of_ble_eq_true rfl) (by decide) ⟨by show _ ≤ 601024; omega, by show _ ≤ 7293034; omega⟩ dL_law_616 ?_
      rintro v X2 S3 ⟨rfl, M3, rfl, rfl, rfl⟩
      refine g_iload C 1 dL_law_619 rfl ?_
      refine g_icmp_eq C 626 dL_law_621 (by decide) (fun _ => ?_) (fun h => absurd h20 h)
      refine g_iload C 1 dL_law_626 rfl ?_
      refine g_if_ne C 643 dL_law_628 (by decide) (fun h => absurd rfl h) (fun _ => ?_)
      refine g_aload_n C 5 dL_law_631 rfl rfl ?_
      refine g_iconst C 0 dL_law_632 (by decide) ?_
      refine x_lald C 19 0 ow_at rfl (by decide) (by decide) dL_law_633 ?_
      rw [upL_0]
      refine g_iload C 0 dL_law_634 rfl ?_
      refine g_i2l C _ dL_law_636 rfl ?_
      refine g_lcmp C dL_law_637 ?_
      rw [cmp_s]
      refine g_if_eq C 643 dL_law_638 (by decide) (fun _ => ?_) (fun h => absurd rfl h)
      refine g_goto C 1117 dL_law_643 (by decide) ?_
      refine g_locs (lv2 := [(0, .ref b), (1, .ref x), (2, .ref o), (3, .ref r), (4, .int (nI i))]) [2, 3, 4, 5, 6] rfl ?_
      exact next _ _ _ _ _ hR2 (by omega) (by omega)
    · have tail : GW p l e room_1 s m args below meth c E 7 A Q (mw E o a M ++ ow E r f) S (cells + 1) (slots + 6) 587 [(0, .ref b), (1, .ref x), (2, .ref o), (3, .ref r), (4, .int (nI i))] [.int code] := by
        refine g_istore C ((5, .int code) :: [(0, .ref b), (1, .ref x), (2, .ref o), (3, .ref r), (4, .int (nI i))]) dL_law_587 (by decide) rfl ?_
        refine g_aload_n C 3 dL_law_589 rfl rfl ?_
        refine g_aload_n C 1 dL_law_590 rfl rfl ?_
        refine g_iload C 5 dL_law_591 rfl ?_
        refine g_iconst C 1 dL_law_593 (by decide) ?_
        refine g_iadd C dL_law_594 ?_
        refine g_sld C hX9 hbl hbA hL (i + 1) (nI_p i 1) (by omega) dL_law_595 ?_
        refine g_aload_n C 1 dL_law_596 rfl rfl ?_
        refine g_iload C 5 dL_law_597 rfl ?_
        refine g_iconst C 2 dL_law_599 (by decide) ?_
        refine g_iadd C dL_law_600 ?_
        refine g_sld C hX9 hbl hbA hL (i + 2) (nI_p i 2) (by omega) dL_law_601 ?_
        refine g_if_eq C 609 dL_law_602 (by decide) (fun h => absurd h h0) (fun _ => ?_)
        refine g_iconst C 1 dL_law_605 (by decide) ?_
        refine g_goto C 610 dL_law_606 (by decide) ?_
        refine g_callV C [.int (xs (i + 1)), .int (bI true)] [] (hMm _ _) mw_at rfl cm_X5_run wv_L_99 ds_X5_run rfl rfl (Nat.le_of_ble_eq_true rfl) (by decide) ⟨by show _ ≤ 601024; omega, by show _ ≤ 7293034; omega⟩ dL_law_610 ?_
        rintro v X2 S3 ⟨rfl, M2, rfl, h11⟩
        obtain ⟨⟨z, rfl⟩, h20, hR2⟩ := hPm _ _ h11
        refine g_istore C ((6, .int z) :: (5, .int code) :: [(0, .ref b), (1, .ref x), (2, .ref o), (3, .ref r), (4, .int (nI i))]) dL_law_613 (by decide) rfl ?_
        refine g_aload_n C 4 dL_law_615 rfl rfl ?_
        refine g_callV C [] [] (c_mthrown l E o a M2 _ _) mw_at rfl cm_X5_thrown wv_L_75 ds_X5_thrown rfl rfl (Nat.le_of_ble_eq_true rfl) (by decide) ⟨by show _ ≤ 601024; omega, by show _ ≤ 7293034; omega⟩ dL_law_616 ?_
        rintro v X2 S3 ⟨rfl, M3, rfl, rfl, rfl⟩
        refine g_iload C 1 dL_law_619 rfl ?_
        refine g_icmp_eq C 626 dL_law_621 (by decide) (fun _ => ?_) (fun h => absurd h20 h)
        refine g_iload C 1 dL_law_626 rfl ?_
        refine g_if_ne C 643 dL_law_628 (by decide) (fun _ => ?_) (fun h => absurd h hne)
        refine g_goto C 1117 dL_law_643 (by decide) ?_
        refine g_locs (lv2 := [(0, .ref b), (1, .ref x), (2, .ref o), (3, .ref r), (4, .int (nI i))]) [2, 3, 4, 5, 6] rfl ?_
        exact next _ _ _ _ _ hR2 (by omega) (by omega)
      have hcd := List.mem_singleton.mp hcd
      cases hcd
      refine g_callSW C [.ref x, .int (xs (i + 1)), .int (bI true), .ref r] [] (w_runT1 l E _ S (Rel.x hR) (hT _)) cmw_L_run wst_L_96 dt_L_run rfl rfl (Nat.le_of_ble_eq_true rfl) (by decide) ⟨by show _ ≤ 601024; omega, by show _ ≤ 7293034; omega⟩ dL_law_584 ?_
      rintro v X2 S2 ⟨rfl, rfl, rfl⟩
      exact tail
set_option maxRecDepth 100000 in
theorem lc_early {p : Program} {l : Launch} {e : Env} {s : State} {m : MethodId} {args : Array Value} {below : List Frame} {meth : Method} {c : Code} {E : Ev} {A : Nat → Prop} {Q : State → Prop} {nm ds : String} {c0 : Cond} (hlt : l.stackTraces = false) (C : Cx p s m args meth c cL_law 7 (yL nm ds) (some .boolean) c0 E A) {b L : Nat} {xs : Nat → Int32} (hX9 : va_X b L xs s s.heap) (hbl : b < s.heap.size) (hbA : ¬ A b) (hL : L ≤ 2048) {x o r : Nat} {a : Nat → Nat} {S : HS} {M : MM} {f : Nat → Int64} {i : Nat} (hR : Rel E S M x) (hi : i + 4 ≤ L) {cells slots : Nat} (hc : cells + 5 ≤ 601024) (hs : slots + 318 ≤ 7293034) (next : ∀ (S2 : HS) (M2 : MM) (f2 : Nat → Int64) (cells2 slots2 : Nat), Rel E S2 M2 x → cells2 ≤ cells + 5 → slots2 ≤ slots + 318 → GW p l e room_1 s m args below meth c E 7 A Q (mw E o a M2 ++ ow E r f2) S2 cells2 slots2 1117 [(0, .ref b), (1, .ref x), (2, .ref o), (3, .ref r), (4, .int (nI i))] []) : GW p l e room_1 s m args below meth c E 7 A Q (mw E o a M ++ ow E r f) S cells slots 646 [(0, .ref b), (1, .ref x), (2, .ref o), (3, .ref r), (4, .int (nI i))] [] := by
  refine g_aload_n C 1 dL_law_646 rfl rfl ?_
  refine g_aload_n C 0 dL_law_647 rfl rfl ?_
  refine g_iload C 4 dL_law_648 rfl ?_
  refine g_iconst C 1 dL_law_650 (by decide) ?_
  refine g_iadd C dL_law_651 ?_
  refine g_sld C hX9 hbl hbA hL (i + 1) (nI_p i 1) (by omega) dL_law_652 ?_
  refine g_aload_n C 3 dL_law_653 rfl rfl ?_
  rcases d_early (o := o) (a := a) hlt hR (xs (i + 1)) with ⟨Po, hM, hPo⟩ | ⟨cls, code, hcd, hne, hT, Pm, hMm, hPm⟩
  · refine g_callSW C [.ref x, .int (xs (i + 1)), .ref r] [] (w_early l E _ S (Rel.x hR) ow_at (fun v X2 S2 h => ⟨(hPo _ v X2 S2 h).1, (hPo _ v X2 S2 h).2.imp (fun _ h => h.1)⟩) (hM _)) cmw_L_early wst_L_100 dt_L_early rfl rfl (Nat.le_of_ble_eq_true rfl) (by decide) ⟨by show _ ≤ 601024; omega, by show _ ≤ 7293034; omega⟩ dL_law_654 ?_
    rintro v X2 S2 ⟨rfl, z, h9, rfl⟩
    rw [ow_set]
    refine g_sa C (fun hsa => ?_)
    obtain ⟨-, z2, e2, h10⟩ := hPo _ _ _ _ h9
    cases e2
    obtain ⟨Pm, hMm, hPm⟩ := h10 hsa
    refine g_istore C ((5, .int 0) :: [(0, .ref b), (1, .ref x), (2, .ref o), (3, .ref r), (4, .int (nI i))]) dL_law_657 (by decide) rfl ?_
    refine g_aload_n C 3 dL_law_659 rfl rfl ?_
    refine g_aload_n C 1 dL_law_660 rfl rfl ?_
    refine g_iload C 5 dL_law_661 rfl ?_
    refine g_iconst C 1 dL_law_663 (by decide) ?_
    refine g_iadd C dL_law_664 ?_
    refine g_sld C hX9 hbl hbA hL (i + 1) (nI_p i 1) (by omega) dL_law_665 ?_
    refine g_callV C [.int (xs (i + 1))] [] (hMm _ _) mw_at rfl cm_X5_early wv_L_102 ds_X5_early rfl rfl (Nat.le_of_ble_eq_true rfl) (by decide) ⟨by show _ ≤ 601024; omega, by show _ ≤ 7293034; omega⟩ dL_law_666 ?_
    rintro v X2 S3 ⟨rfl, M2, rfl, h11⟩
    obtain ⟨rfl, h20, hR2⟩ := hPm _ _ h11
    refine g_istore C ((6, .int z) :: (5, .int 0) :: [(0, .ref b), (1, .ref x), (2, .ref o), (3, .ref r), (4, .int (nI i))]) dL_law_669 (by decide) rfl ?_
    refine g_aload_n C 4 dL_law_671 rfl rfl ?_
    refine g_callV C [] [] (c_mthrown l E o a M2 _ _) mw_at rfl cm_X5_thrown wv_L_75 ds_X5_thrown rfl rfl (Nat.le_of_ble_eq_true rfl) (by decide) ⟨by show _ ≤ 601024; omega, by show _ ≤ 7293034; omega⟩ dL_law_672 ?_
    rintro v X2 S3 ⟨rfl, M3, rfl, rfl, rfl⟩
    refine g_iload C 1 dL_law_675 rfl ?_
    refine g_icmp_eq C 682 dL_law_677 (by decide) (fun _ => ?_) (fun h => absurd h20 h)
    refine g_iload C 1 dL_law_682 rfl ?_
    refine g_if_ne C 699 dL_law_684 (by decide) (fun h => absurd rfl h) (fun _ => ?_)
    refine g_aload_n C 5 dL_law_687 rfl rfl ?_
    refine g_iconst C 0 dL_law_688 (by decide) ?_
    refine x_lald C 19 0 ow_at rfl (by decide) (by decide) dL_law_689 ?_
    rw [upL_0]
    refine g_iload C 0 dL_law_690 rfl ?_
    refine g_i2l C _ dL_law_692 rfl ?_
    refine g_lcmp C dL_law_693 ?_
    rw [cmp_s]
    refine g_if_eq C 699 dL_law_694 (by decide) (fun _ => ?_) (fun h => absurd rfl h)
    refine g_goto C 1117 dL_law_699 (by decide) ?_
    refine g_locs (lv2 := [(0, .ref b), (1, .ref x), (2, .ref o), (3, .ref r), (4, .int (nI i))]) [2, 3, 4, 5, 6] rfl ?_
    exact next _ _ _ _ _ hR2 (by omega) (by omega)
  · have tail : GW p l e room_1 s m args below meth c E 7 A Q (mw E o a M ++ ow E r f) S (cells + 1) (slots + 6) 657 [(0, .ref b), (1, .ref x), (2, .ref o), (3, .ref r), (4, .int (nI i))] [.int code] := by
      refine g_istore C ((5, .int code) :: [(0, .ref b), (1, .ref x), (2, .ref o), (3, .ref r), (4, .int (nI i))]) dL_law_657 (by decide) rfl ?_
      refine g_aload_n C 3 dL_law_659 rfl rfl ?_
      refine g_aload_n C 1 dL_law_660 rfl rfl ?_
      refine g_iload C 5 dL_law_661 rfl ?_
      refine g_iconst C 1 dL_law_663 (by decide) ?_
      refine g_iadd C dL_law_664 ?_
      refine g_sld C hX9 hbl hbA hL (i + 1) (nI_p i 1) (by omega) dL_law_665 ?_
      refine g_callV C [.int (xs (i + 1))] [] (hMm _ _) mw_at rfl cm_X5_early wv_L_102 ds_X5_early rfl rfl (Nat.le_of_ble_eq_true rfl) (by decide) ⟨by show _ ≤ 601024; omega, by show _ ≤ 7293034; omega⟩ dL_law_666 ?_
      rintro v X2 S3 ⟨rfl, M2, rfl, h11⟩
      obtain ⟨⟨z, rfl⟩, h20, hR2⟩ := hPm _ _ h11
      refine g_istore C ((6, .int z) :: (5, .int code) :: [(0, .ref b), (1, .ref x), (2, .ref o), (3, .ref r), (4, .int (nI i))]) dL_law_669 (by decide) rfl ?_
      refine g_aload_n C 4 dL_law_671 rfl rfl ?_
      refine g_callV C [] [] (c_mthrown l E o a M2 _ _) mw_at rfl cm_X5_thrown wv_L_75 ds_X5_thrown rfl rfl (Nat.le_of_ble_eq_true rfl) (by decide) ⟨by show _ ≤ 601024; omega, by show _ ≤ 7293034; omega⟩ dL_law_672 ?_
      rintro v X2 S3 ⟨rfl, M3, rfl, rfl, rfl⟩
      refine g_iload C 1 dL_law_675 rfl ?_
      refine g_icmp_eq C 682 dL_law_677 (by decide) (fun _ => ?_) (fun h => absurd h20 h)
      refine g_iload C 1 dL_law_682 rfl ?_
      refine g_if_ne C 699 dL_law_684 (by decide) (fun _ => ?_) (fun h => absurd h hne)
      refine g_goto C 1117 dL_law_699 (by decide) ?_
      refine g_locs (lv2 := [(0, .ref b), (1, .ref x), (2, .ref o), (3, .ref r), (4, .int (nI i))]) [2, 3, 4, 5, 6] rfl ?_
      exact next _ _ _ _ _ hR2 (by omega) (by omega)
    have hcd := List.mem_singleton.mp hcd
    cases hcd
    refine g_callSW C [.ref x, .int (xs (i + 1)), .ref r] [] (w_earlyT1 l E _ S (Rel.x hR) (hT _)) cmw_L_early wst_L_100 dt_L_early rfl rfl (Nat.le_of_ble_eq_true rfl) (by decide) ⟨by show _ ≤ 601024; omega, by show _ ≤ 7293034; omega⟩ dL_law_654 ?_
    rintro v X2 S2 ⟨rfl, rfl, rfl⟩
    exact tail
set_option maxRecDepth 100000 in
theorem lc_late {p : Program} {l : Launch} {e : Env} {s : State} {m : MethodId} {args : Array Value} {below : List Frame} {meth : Method} {c : Code} {E : Ev} {A : Nat → Prop} {Q : State → Prop} {nm ds : String} {c0 : Cond} (hlt : l.stackTraces = false) (C : Cx p s m args meth c cL_law 7 (yL nm ds) (some .boolean) c0 E A) {b L : Nat} {xs : Nat → Int32} (hX9 : va_X b L xs s s.heap) (hbl : b < s.heap.size) (hbA : ¬ A b) (hL : L ≤ 2048) {x o r : Nat} {a : Nat → Nat} {S : HS} {M : MM} {f : Nat → Int64} {i : Nat} (hR : Rel E S M x) (hi : i + 4 ≤ L) {cells slots : Nat} (hc : cells + 5 ≤ 601024) (hs : slots + 318 ≤ 7293034) (next : ∀ (S2 : HS) (M2 : MM) (f2 : Nat → Int64) (cells2 slots2 : Nat), Rel E S2 M2 x → cells2 ≤ cells + 5 → slots2 ≤ slots + 318 → GW p l e room_1 s m args below meth c E 7 A Q (mw E o a M2 ++ ow E r f2) S2 cells2 slots2 1117 [(0, .ref b), (1, .ref x), (2, .ref o), (3, .ref r), (4, .int (nI i))] []) : GW p l e room_1 s m args below meth c E 7 A Q (mw E o a M ++ ow E r f) S cells slots 702 [(0, .ref b), (1, .ref x), (2, .ref o), (3, .ref r), (4, .int (nI i))] [] := by
  refine g_aload_n C 1 dL_law_702 rfl rfl ?_
  refine g_aload_n C 0 dL_law_703 rfl rfl ?_
  refine g_iload C 4 dL_law_704 rfl ?_
  refine g_iconst C 1 dL_law_706 (by decide) ?_
  refine g_iadd C dL_law_707 ?_
  refine g_sld C hX9 hbl hbA hL (i + 1) (nI_p i 1) (by omega) dL_law_708 ?_
  refine g_aload_n C 3 dL_law_709 rfl rfl ?_
  rcases d_late (o := o) (a := a) hlt hR (xs (i + 1)) with ⟨Po, hM, hPo⟩ | ⟨cls, code, hcd, hne, hT, Pm, hMm, hPm⟩
  · refine g_callSW C [.ref x, .int (xs (i + 1)), .ref r] [] (w_late l E _ S (Rel.x hR) ow_at (fun v X2 S2 h => ⟨(hPo _ v X2 S2 h).1, (hPo _ v X2 S2 h).2.imp (fun _ h => h.1)⟩) (hM _)) cmw_L_late wst_L_103 dt_L_late rfl rfl (Nat.le_of_ble_eq_true rfl) (by decide) ⟨by show _ ≤ 601024; omega, by show _ ≤ 7293034; omega⟩ dL_law_710 ?_
    rintro v X2 S2 ⟨rfl, z, h9, rfl⟩
    rw [ow_set]
    refine g_sa C (fun hsa => ?_)
    obtain ⟨-, z2, e2, h10⟩ := hPo _ _ _ _ h9
    cases e2
    obtain ⟨Pm, hMm, hPm⟩ := h10 hsa
    refine g_istore C ((5, .int 0) :: [(0, .ref b), (1, .ref x), (2, .ref o), (3, .ref r), (4, .int (nI i))]) dL_law_713 (by decide) rfl ?_
    refine g_aload_n C 3 dL_law_715 rfl rfl ?_
    refine g_aload_n C 1 dL_law_716 rfl rfl ?_
    refine g_iload C 5 dL_law_717 rfl ?_
    refine g_iconst C 1 dL_law_719 (by decide) ?_
    refine g_iadd C dL_law_720 ?_
    refine g_sld C hX9 hbl hbA hL (i + 1) (nI_p i 1) (by omega) dL_law_721 ?_
    refine g_callV C [.int (xs (i + 1))] [] (hMm _ _) mw_at rfl cm_X5_late wv_L_105 ds_X5_late rfl rfl (Nat.le_of_ble_eq_true rfl) (by decide) ⟨by show _ ≤ 601024; omega, by show _ ≤ 7293034; omega⟩ dL_law_722 ?_
    rintro v X2 S3 ⟨rfl, M2, rfl, h11⟩
    obtain ⟨rfl, h20, hR2⟩ := hPm _ _ h11
    refine g_istore C ((6, .int z) :: (5, .int 0) :: [(0, .ref b), (1, .ref x), (2, .ref o), (3, .ref r), (4, .int (nI i))]) dL_law_725 (by decide) rfl ?_
    refine g_aload_n C 4 dL_law_727 rfl rfl ?_
    refine g_callV C [] [] (c_mthrown l E o a M2 _ _) mw_at rfl cm_X5_thrown wv_L_75 ds_X5_thrown rfl rfl (Nat.le_of_ble_eq_true rfl) (by decide) ⟨by show _ ≤ 601024; omega, by show _ ≤ 7293034; omega⟩ dL_law_728 ?_
    rintro v X2 S3 ⟨rfl, M3, rfl, rfl, rfl⟩
    refine g_iload C 1 dL_law_731 rfl ?_
    refine g_icmp_eq C 738 dL_law_733 (by decide) (fun _ => ?_) (fun h => absurd h20 h)
    refine g_iload C 1 dL_law_738 rfl ?_
    refine g_if_ne C 755 dL_law_740 (by decide) (fun h => absurd rfl h) (fun _ => ?_)
    refine g_aload_n C 5 dL_law_743 rfl rfl ?_
    refine g_iconst C 0 dL_law_744 (by decide) ?_
    refine x_lald C 19 0 ow_at rfl (by decide) (by decide) dL_law_745 ?_
    rw [upL_0]
    refine g_iload C 0 dL_law_746 rfl ?_
    refine g_i2l C _ dL_law_748 rfl ?_
    refine g_lcmp C dL_law_749 ?_
    rw [cmp_s]
    refine g_if_eq C 755 dL_law_750 (by decide) (fun _ => ?_) (fun h => absurd rfl h)
    refine g_goto C 1117 dL_law_755 (by decide) ?_
    refine g_locs (lv2 := [(0, .ref b), (1, .ref x), (2, .ref o), (3, .ref r), (4, .int (nI i))]) [2, 3, 4, 5, 6] rfl ?_
    exact next _ _ _ _ _ hR2 (by omega) (by omega)
  · have tail : GW p l e room_1 s m args below meth c E 7 A Q (mw E o a M ++ ow E r f) S (cells + 1) (slots + 6) 713 [(0, .ref b), (1, .ref x), (2, .ref o), (3, .ref r), (4, .int (nI i))] [.int code] := by
      refine g_istore C ((5, .int code) :: [(0, .ref b), (1, .ref x), (2, .ref o), (3, .ref r), (4, .int (nI i))]) dL_law_713 (by decide) rfl ?_
      refine g_aload_n C 3 dL_law_715 rfl rfl ?_
      refine g_aload_n C 1 dL_law_716 rfl rfl ?_
      refine g_iload C 5 dL_law_717 rfl ?_
      refine g_iconst C 1 dL_law_719 (by decide) ?_
      refine g_iadd C dL_law_720 ?_
      refine g_sld C hX9 hbl hbA hL (i + 1) (nI_p i 1) (by omega) dL_law_721 ?_
      refine g_callV C [.int (xs (i + 1))] [] (hMm _ _) mw_at rfl cm_X5_late wv_L_105 ds_X5_late rfl rfl (Nat.le_of_ble_eq_true rfl) (by decide) ⟨by show _ ≤ 601024; omega, by show _ ≤ 7293034; omega⟩ dL_law_722 ?_
      rintro v X2 S3 ⟨rfl, M2, rfl, h11⟩
      obtain ⟨⟨z, rfl⟩, h20, hR2⟩ := hPm _ _ h11
      refine g_istore C ((6, .int z) :: (5, .int code) :: [(0, .ref b), (1, .ref x), (2, .ref o), (3, .ref r), (4, .int (nI i))]) dL_law_725 (by decide) rfl ?_
      refine g_aload_n C 4 dL_law_727 rfl rfl ?_
      refine g_callV C [] [] (c_mthrown l E o a M2 _ _) mw_at rfl cm_X5_thrown wv_L_75 ds_X5_thrown rfl rfl (Nat.le_of_ble_eq_true rfl) (by decide) ⟨by show _ ≤ 601024; omega, by show _ ≤ 7293034; omega⟩ dL_law_728 ?_
      rintro v X2 S3 ⟨rfl, M3, rfl, rfl, rfl⟩
      refine g_iload C 1 dL_law_731 rfl ?_
      refine g_icmp_eq C 738 dL_law_733 (by decide) (fun _ => ?_) (fun h => absurd h20 h)
      refine g_iload C 1 dL_law_738 rfl ?_
      refine g_if_ne C 755 dL_law_740 (by decide) (fun _ => ?_) (fun h => absurd h hne)
      refine g_goto C 1117 dL_law_755 (by decide) ?_
      refine g_locs (lv2 := [(0, .ref b), (1, .ref x), (2, .ref o), (3, .ref r), (4, .int (nI i))]) [2, 3, 4, 5, 6] rfl ?_
      exact next _ _ _ _ _ hR2 (by omega) (by omega)
    have hcd := List.mem_singleton.mp hcd
    cases hcd
    refine g_callSW C [.ref x, .int (xs (i + 1)), .ref r] [] (w_lateT1 l E _ S (Rel.x hR) (hT _)) cmw_L_late wst_L_103 dt_L_late rfl rfl (Nat.le_of_ble_eq_true rfl) (by decide) ⟨by show _ ≤ 601024; omega, by show _ ≤ 7293034; omega⟩ dL_law_710 ?_
    rintro v X2 S2 ⟨rfl, rfl, rfl⟩
    exact tail
set_option maxRecDepth 100000 in
theorem lc_added {p : Program} {l : Launch} {e : Env} {s : State} {m : MethodId} {args : Array Value} {below : List Frame} {meth : Method} {c : Code} {E : Ev} {A : Nat → Prop} {Q : State → Prop} {nm ds : String} {c0 : Cond} (hlt : l.stackTraces = false) (C : Cx p s m args meth c cL_law 7 (yL nm ds) (some .boolean) c0 E A) {b L : Nat} {xs : Nat → Int32} (hX9 : va_X b L xs s s.heap) (hbl : b < s.heap.size) (hbA : ¬ A b) (hL : L ≤ 2048) {x o r : Nat} {a : Nat → Nat} {S : HS} {M : MM} {f : Nat → Int64} {i : Nat} (hR : Rel E S M x) (hi : i + 4 ≤ L) {cells slots : Nat} (hc : cells + 5 ≤ 601024) (hs : slots + 318 ≤ 7293034) (next : ∀ (S2 : HS) (M2 : MM) (f2 : Nat → Int64) (cells2 slots2 : Nat), Rel E S2 M2 x → cells2 ≤ cells + 5 → slots2 ≤ slots + 318 → GW p l e room_1 s m args below meth c E 7 A Q (mw E o a M2 ++ ow E r f2) S2 cells2 slots2 1117 [(0, .ref b), (1, .ref x), (2, .ref o), (3, .ref r), (4, .int (nI i))] []) : GW p l e room_1 s m args below meth c E 7 A Q (mw E o a M ++ ow E r f) S cells slots 758 [(0, .ref b), (1, .ref x), (2, .ref o), (3, .ref r), (4, .int (nI i))] [] := by
  refine g_aload_n C 1 dL_law_758 rfl rfl ?_
  refine g_aload_n C 0 dL_law_759 rfl rfl ?_
  refine g_iload C 4 dL_law_760 rfl ?_
  refine g_iconst C 1 dL_law_762 (by decide) ?_
  refine g_iadd C dL_law_763 ?_
  refine g_sld C hX9 hbl hbA hL (i + 1) (nI_p i 1) (by omega) dL_law_764 ?_
  refine g_aload_n C 3 dL_law_765 rfl rfl ?_
  rcases d_added (o := o) (a := a) hlt hR (xs (i + 1)) with ⟨Po, hM, hPo⟩ | ⟨cls, code, hcd, hne, hT, Pm, hMm, hPm⟩
  · refine g_callSW C [.ref x, .int (xs (i + 1)), .ref r] [] (w_added l E _ S (Rel.x hR) ow_at (fun v X2 S2 h => ⟨(hPo _ v X2 S2 h).1, (hPo _ v X2 S2 h).2.imp (fun _ h => h.1)⟩) (hM _)) cmw_L_added wst_L_106 dt_L_added rfl rfl (Nat.le_of_ble_eq_true rfl) (by decide) ⟨by show _ ≤ 601024; omega, by show _ ≤ 7293034; omega⟩ dL_law_766 ?_
    rintro v X2 S2 ⟨rfl, z, h9, rfl⟩
    rw [ow_set]
    refine g_sa C (fun hsa => ?_)
    obtain ⟨-, z2, e2, h10⟩ := hPo _ _ _ _ h9
    cases e2
    obtain ⟨Pm, hMm, hPm⟩ := h10 hsa
    refine g_istore C ((5, .int 0) :: [(0, .ref b), (1, .ref x), (2, .ref o), (3, .ref r), (4, .int (nI i))]) dL_law_769 (by decide) rfl ?_
    refine g_aload_n C 3 dL_law_771 rfl rfl ?_
    refine g_aload_n C 1 dL_law_772 rfl rfl ?_
    refine g_iload C 5 dL_law_773 rfl ?_
    refine g_iconst C 1 dL_law_775 (by decide) ?_
    refine g_iadd C dL_law_776 ?_
    refine g_sld C hX9 hbl hbA hL (i + 1) (nI_p i 1) (by omega) dL_law_777 ?_
    refine g_callV C [.int (xs (i + 1))] [] (hMm _ _) mw_at rfl cm_X5_added wv_L_108 ds_X5_added rfl rfl (Nat.le_of_ble_eq_true rfl) (by decide) ⟨by show _ ≤ 601024; omega, by show _ ≤ 7293034; omega⟩ dL_law_778 ?_
    rintro v X2 S3 ⟨rfl, M2, rfl, h11⟩
    obtain ⟨rfl, h20, hR2⟩ := hPm _ _ h11
    refine g_istore C ((6, .int z) :: (5, .int 0) :: [(0, .ref b), (1, .ref x), (2, .ref o), (3, .ref r), (4, .int (nI i))]) dL_law_781 (by decide) rfl ?_
    refine g_aload_n C 4 dL_law_783 rfl rfl ?_
    refine g_callV C [] [] (c_mthrown l E o a M2 _ _) mw_at rfl cm_X5_thrown wv_L_75 ds_X5_thrown rfl rfl (Nat.le_of_ble_eq_true rfl) (by decide) ⟨by show _ ≤ 601024; omega, by show _ ≤ 7293034; omega⟩ dL_law_784 ?_
    rintro v X2 S3 ⟨rfl, M3, rfl, rfl, rfl⟩
    refine g_iload C 1 dL_law_787 rfl ?_
    refine g_icmp_eq C 794 dL_law_789 (by decide) (fun _ => ?_) (fun h => absurd h20 h)
    refine g_iload C 1 dL_law_794 rfl ?_
    refine g_if_ne C 811 dL_law_796 (by decide) (fun h => absurd rfl h) (fun _ => ?_)
    refine g_aload_n C 5 dL_law_799 rfl rfl ?_
    refine g_iconst C 0 dL_law_800 (by decide) ?_
    refine x_lald C 19 0 ow_at rfl (by decide) (by decide) dL_law_801 ?_
    rw [upL_0]
    refine g_iload C 0 dL_law_802 rfl ?_
    refine g_i2l C _ dL_law_804 rfl ?_
    refine g_lcmp C dL_law_805 ?_
    rw [cmp_s]
    refine g_if_eq C 811 dL_law_806 (by decide) (fun _ => ?_) (fun h => absurd rfl h)
    refine g_goto C 1117 dL_law_811 (by decide) ?_
    refine g_locs (lv2 := [(0, .ref b), (1, .ref x), (2, .ref o), (3, .ref r), (4, .int (nI i))]) [2, 3, 4, 5, 6] rfl ?_
    exact next _ _ _ _ _ hR2 (by omega) (by omega)
  · have tail : GW p l e room_1 s m args below meth c E 7 A Q (mw E o a M ++ ow E r f) S (cells + 1) (slots + 6) 769 [(0, .ref b), (1, .ref x), (2, .ref o), (3, .ref r), (4, .int (nI i))] [.int code] := by
      refine g_istore C ((5, .int code) :: [(0, .ref b), (1, .ref x), (2, .ref o), (3, .ref r), (4, .int (nI i))]) dL_law_769 (by decide) rfl ?_
      refine g_aload_n C 3 dL_law_771 rfl rfl ?_
      refine g_aload_n C 1 dL_law_772 rfl rfl ?_
      refine g_iload C 5 dL_law_773 rfl ?_
      refine g_iconst C 1 dL_law_775 (by decide) ?_
      refine g_iadd C dL_law_776 ?_
      refine g_sld C hX9 hbl hbA hL (i + 1) (nI_p i 1) (by omega) dL_law_777 ?_
      refine g_callV C [.int (xs (i + 1))] [] (hMm _ _) mw_at rfl cm_X5_added wv_L_108 ds_X5_added rfl rfl (Nat.le_of_ble_eq_true rfl) (by decide) ⟨by show _ ≤ 601024; omega, by show _ ≤ 7293034; omega⟩ dL_law_778 ?_
      rintro v X2 S3 ⟨rfl, M2, rfl, h11⟩
      obtain ⟨⟨z, rfl⟩, h20, hR2⟩ := hPm _ _ h11
      refine g_istore C ((6, .int z) :: (5, .int code) :: [(0, .ref b), (1, .ref x), (2, .ref o), (3, .ref r), (4, .int (nI i))]) dL_law_781 (by decide) rfl ?_
      refine g_aload_n C 4 dL_law_783 rfl rfl ?_
      refine g_callV C [] [] (c_mthrown l E o a M2 _ _) mw_at rfl cm_X5_thrown wv_L_75 ds_X5_thrown rfl rfl (Nat.le_of_ble_eq_true rfl) (by decide) ⟨by show _ ≤ 601024; omega, by show _ ≤ 7293034; omega⟩ dL_law_784 ?_
      rintro v X2 S3 ⟨rfl, M3, rfl, rfl, rfl⟩
      refine g_iload C 1 dL_law_787 rfl ?_
      refine g_icmp_eq C 794 dL_law_789 (by decide) (fun _ => ?_) (fun h => absurd h20 h)
      refine g_iload C 1 dL_law_794 rfl ?_
      refine g_if_ne C 811 dL_law_796 (by decide) (fun _ => ?_) (fun h => absurd h hne)
      refine g_goto C 1117 dL_law_811 (by decide) ?_
      refine g_locs (lv2 := [(0, .ref b), (1, .ref x), (2, .ref o), (3, .ref r), (4, .int (nI i))]) [2, 3, 4, 5, 6] rfl ?_
      exact next _ _ _ _ _ hR2 (by omega) (by omega)
    have hcd := List.mem_singleton.mp hcd
    cases hcd
    refine g_callSW C [.ref x, .int (xs (i + 1)), .ref r] [] (w_addedT1 l E _ S (Rel.x hR) (hT _)) cmw_L_added wst_L_106 dt_L_added rfl rfl (Nat.le_of_ble_eq_true rfl) (by decide) ⟨by show _ ≤ 601024; omega, by show _ ≤ 7293034; omega⟩ dL_law_766 ?_
    rintro v X2 S2 ⟨rfl, rfl, rfl⟩
    exact tail
set_option maxRecDepth 100000 in
theorem lc_changed {p : Program} {l : Launch} {e : Env} {s : State} {m : MethodId} {args : Array Value} {below : List Frame} {meth : Method} {c : Code} {E : Ev} {A : Nat → Prop} {Q : State → Prop} {nm ds : String} {c0 : Cond} (hlt : l.stackTraces = false) (C : Cx p s m args meth c cL_law 7 (yL nm ds) (some .boolean) c0 E A) {b L : Nat} {xs : Nat → Int32} (hX9 : va_X b L xs s s.heap) (hbl : b < s.heap.size) (hbA : ¬ A b) (hL : L ≤ 2048) {x o r : Nat} {a : Nat → Nat} {S : HS} {M : MM} {f : Nat → Int64} {i : Nat} (hR : Rel E S M x) (hi : i + 4 ≤ L) {cells slots : Nat} (hc : cells + 5 ≤ 601024) (hs : slots + 318 ≤ 7293034) (next : ∀ (S2 : HS) (M2 : MM) (f2 : Nat → Int64) (cells2 slots2 : Nat), Rel E S2 M2 x → cells2 ≤ cells + 5 → slots2 ≤ slots + 318 → GW p l e room_1 s m args below meth c E 7 A Q (mw E o a M2 ++ ow E r f2) S2 cells2 slots2 1117 [(0, .ref b), (1, .ref x), (2, .ref o), (3, .ref r), (4, .int (nI i))] []) : GW p l e room_1 s m args below meth c E 7 A Q (mw E o a M ++ ow E r f) S cells slots 814 [(0, .ref b), (1, .ref x), (2, .ref o), (3, .ref r), (4, .int (nI i))] [] := by
  refine g_aload_n C 1 dL_law_814 rfl rfl ?_
  refine g_aload_n C 0 dL_law_815 rfl rfl ?_
  refine g_iload C 4 dL_law_816 rfl ?_
  refine g_iconst C 1 dL_law_818 (by decide) ?_
  refine g_iadd C dL_law_819 ?_
  refine g_sld C hX9 hbl hbA hL (i + 1) (nI_p i 1) (by omega) dL_law_820 ?_
  refine g_aload_n C 3 dL_law_821 rfl rfl ?_
  rcases d_changed (o := o) (a := a) hlt hR (xs (i + 1)) with ⟨Po, hM, hPo⟩ | ⟨cls, code, hcd, hne, hT, Pm, hMm, hPm⟩
  · refine g_callSW C [.ref x, .int (xs (i + 1)), .ref r] [] (w_changed l E _ S (Rel.x hR) ow_at (fun v X2 S2 h => ⟨(hPo _ v X2 S2 h).1, (hPo _ v X2 S2 h).2.imp (fun _ h => h.1)⟩) (hM _)) cmw_L_changed wst_L_109 dt_L_changed rfl rfl (Nat.le_of_ble_eq_true rfl) (by decide) ⟨by show _ ≤ 601024; omega, by show _ ≤ 7293034; omega⟩ dL_law_822 ?_
    rintro v X2 S2 ⟨rfl, z, h9, rfl⟩
    rw [ow_set]
    refine g_sa C (fun hsa => ?_)
    obtain ⟨-, z2, e2, h10⟩ := hPo _ _ _ _ h9
    cases e2
    obtain ⟨Pm, hMm, hPm⟩ := h10 hsa
    refine g_istore C ((5, .int 0) :: [(0, .ref b), (1, .ref x), (2, .ref o), (3, .ref r), (4, .int (nI i))]) dL_law_825 (by decide) rfl ?_
    refine g_aload_n C 3 dL_law_827 rfl rfl ?_
    refine g_aload_n C 1 dL_law_828 rfl rfl ?_
    refine g_iload C 5 dL_law_829 rfl ?_
    refine g_iconst C 1 dL_law_831 (by decide) ?_
    refine g_iadd C dL_law_832 ?_
    refine g_sld C hX9 hbl hbA hL (i + 1) (nI_p i 1) (by omega) dL_law_833 ?_
    refine g_callV C [.int (xs (i + 1))] [] (hMm _ _) mw_at rfl cm_X5_changed wv_L_111 ds_X5_changed rfl rfl (Nat.le_of_ble_eq_true rfl) (by decide) ⟨by show _ ≤ 601024; omega, by show _ ≤ 7293034; omega⟩ dL_law_834 ?_
    rintro v X2 S3 ⟨rfl, M2, rfl, h11⟩
    obtain ⟨rfl, h20, hR2⟩ := hPm _ _ h11
    refine g_istore C ((6, .int z) :: (5, .int 0) :: [(0, .ref b), (1, .ref x), (2, .ref o), (3, .ref r), (4, .int (nI i))]) dL_law_837 (by decide) rfl ?_
    refine g_aload_n C 4 dL_law_839 rfl rfl ?_
    refine g_callV C [] [] (c_mthrown l E o a M2 _ _) mw_at rfl cm_X5_thrown wv_L_75 ds_X5_thrown rfl rfl (Nat.le_of_ble_eq_true rfl) (by decide) ⟨by show _ ≤ 601024; omega, by show _ ≤ 7293034; omega⟩ dL_law_840 ?_
    rintro v X2 S3 ⟨rfl, M3, rfl, rfl, rfl⟩
    refine g_iload C 1 dL_law_843 rfl ?_
    refine g_icmp_eq C 850 dL_law_845 (by decide) (fun _ => ?_) (fun h => absurd h20 h)
    refine g_iload C 1 dL_law_850 rfl ?_
    refine g_if_ne C 867 dL_law_852 (by decide) (fun h => absurd rfl h) (fun _ => ?_)
    refine g_aload_n C 5 dL_law_855 rfl rfl ?_
    refine g_iconst C 0 dL_law_856 (by decide) ?_
    refine x_lald C 19 0 ow_at rfl (by decide) (by decide) dL_law_857 ?_
    rw [upL_0]
    refine g_iload C 0 dL_law_858 rfl ?_
    refine g_i2l C _ dL_law_860 rfl ?_
    refine g_lcmp C dL_law_861 ?_
    rw [cmp_s]
    refine g_if_eq C 867 dL_law_862 (by decide) (fun _ => ?_) (fun h => absurd rfl h)
    refine g_goto C 1117 dL_law_867 (by decide) ?_
    refine g_locs (lv2 := [(0, .ref b), (1, .ref x), (2, .ref o), (3, .ref r), (4, .int (nI i))]) [2, 3, 4, 5, 6] rfl ?_
    exact next _ _ _ _ _ hR2 (by omega) (by omega)
  · have tail : GW p l e room_1 s m args below meth c E 7 A Q (mw E o a M ++ ow E r f) S (cells + 1) (slots + 6) 825 [(0, .ref b), (1, .ref x), (2, .ref o), (3, .ref r), (4, .int (nI i))] [.int code] := by
      refine g_istore C ((5, .int code) :: [(0, .ref b), (1, .ref x), (2, .ref o), (3, .ref r), (4, .int (nI i))]) dL_law_825 (by decide) rfl ?_
      refine g_aload_n C 3 dL_law_827 rfl rfl ?_
      refine g_aload_n C 1 dL_law_828 rfl rfl ?_
      refine g_iload C 5 dL_law_829 rfl ?_
      refine g_iconst C 1 dL_law_831 (by decide) ?_
      refine g_iadd C dL_law_832 ?_
      refine g_sld C hX9 hbl hbA hL (i + 1) (nI_p i 1) (by omega) dL_law_833 ?_
      refine g_callV C [.int (xs (i + 1))] [] (hMm _ _) mw_at rfl cm_X5_changed wv_L_111 ds_X5_changed rfl rfl (Nat.le_of_ble_eq_true rfl) (by decide) ⟨by show _ ≤ 601024; omega, by show _ ≤ 7293034; omega⟩ dL_law_834 ?_
      rintro v X2 S3 ⟨rfl, M2, rfl, h11⟩
      obtain ⟨⟨z, rfl⟩, h20, hR2⟩ := hPm _ _ h11
      refine g_istore C ((6, .int z) :: (5, .int code) :: [(0, .ref b), (1, .ref x), (2, .ref o), (3, .ref r), (4, .int (nI i))]) dL_law_837 (by decide) rfl ?_
      refine g_aload_n C 4 dL_law_839 rfl rfl ?_
      refine g_callV C [] [] (c_mthrown l E o a M2 _ _) mw_at rfl cm_X5_thrown wv_L_75 ds_X5_thrown rfl rfl (Nat.le_of_ble_eq_true rfl) (by decide) ⟨by show _ ≤ 601024; omega, by show _ ≤ 7293034; omega⟩ dL_law_840 ?_
      rintro v X2 S3 ⟨rfl, M3, rfl, rfl, rfl⟩
      refine g_iload C 1 dL_law_843 rfl ?_
      refine g_icmp_eq C 850 dL_law_845 (by decide) (fun _ => ?_) (fun h => absurd h20 h)
      refine g_iload C 1 dL_law_850 rfl ?_
      refine g_if_ne C 867 dL_law_852 (by decide) (fun _ => ?_) (fun h => absurd h hne)
      refine g_goto C 1117 dL_law_867 (by decide) ?_
      refine g_locs (lv2 := [(0, .ref b), (1, .ref x), (2, .ref o), (3, .ref r), (4, .int (nI i))]) [2, 3, 4, 5, 6] rfl ?_
      exact next _ _ _ _ _ hR2 (by omega) (by omega)
    have hcd := List.mem_singleton.mp hcd
    cases hcd
    refine g_callSW C [.ref x, .int (xs (i + 1)), .ref r] [] (w_changedT1 l E _ S (Rel.x hR) (hT _)) cmw_L_changed wst_L_109 dt_L_changed rfl rfl (Nat.le_of_ble_eq_true rfl) (by decide) ⟨by show _ ≤ 601024; omega, by show _ ≤ 7293034; omega⟩ dL_law_822 ?_
    rintro v X2 S2 ⟨rfl, rfl, rfl⟩
    exact tail
set_option maxRecDepth 100000 in
theorem lc_source {p : Program} {l : Launch} {e : Env} {s : State} {m : MethodId} {args : Array Value} {below : List Frame} {meth : Method} {c : Code} {E : Ev} {A : Nat → Prop} {Q : State → Prop} {nm ds : String} {c0 : Cond} (hlt : l.stackTraces = false) (C : Cx p s m args meth c cL_law 7 (yL nm ds) (some .boolean) c0 E A) {b L : Nat} {xs : Nat → Int32} (hX9 : va_X b L xs s s.heap) (hbl : b < s.heap.size) (hbA : ¬ A b) (hL : L ≤ 2048) {x o r : Nat} {a : Nat → Nat} {S : HS} {M : MM} {f : Nat → Int64} {i : Nat} (hR : Rel E S M x) (hi : i + 4 ≤ L) {cells slots : Nat} (hc : cells + 5 ≤ 601024) (hs : slots + 318 ≤ 7293034) (next : ∀ (S2 : HS) (M2 : MM) (f2 : Nat → Int64) (cells2 slots2 : Nat), Rel E S2 M2 x → cells2 ≤ cells + 5 → slots2 ≤ slots + 318 → GW p l e room_1 s m args below meth c E 7 A Q (mw E o a M2 ++ ow E r f2) S2 cells2 slots2 1117 [(0, .ref b), (1, .ref x), (2, .ref o), (3, .ref r), (4, .int (nI i))] []) : GW p l e room_1 s m args below meth c E 7 A Q (mw E o a M ++ ow E r f) S cells slots 870 [(0, .ref b), (1, .ref x), (2, .ref o), (3, .ref r), (4, .int (nI i))] [] := by
  refine g_aload_n C 1 dL_law_870 rfl rfl ?_
  refine g_aload_n C 0 dL_law_871 rfl rfl ?_
  refine g_iload C 4 dL_law_872 rfl ?_
  refine g_iconst C 1 dL_law_874 (by decide) ?_
  refine g_iadd C dL_law_875 ?_
  refine g_sld C hX9 hbl hbA hL (i + 1) (nI_p i 1) (by omega) dL_law_876 ?_
  refine g_aload_n C 0 dL_law_877 rfl rfl ?_
  refine g_iload C 4 dL_law_878 rfl ?_
  refine g_iconst C 2 dL_law_880 (by decide) ?_
  refine g_iadd C dL_law_881 ?_
  refine g_sld C hX9 hbl hbA hL (i + 2) (nI_p i 2) (by omega) dL_law_882 ?_
  refine g_aload_n C 3 dL_law_883 rfl rfl ?_
  rcases d_source (o := o) (a := a) hlt hR (xs (i + 1)) (xs (i + 2)) with ⟨Po, hM, hPo⟩ | ⟨cls, code, hcd, hne, hT, Pm, hMm, hPm⟩
  · refine g_callSW C [.ref x, .int (xs (i + 1)), .int (xs (i + 2)), .ref r] [] (w_source l E _ S (Rel.x hR) ow_at (fun v X2 S2 h => ⟨(hPo _ v X2 S2 h).1, (hPo _ v X2 S2 h).2.imp (fun _ h => h.1)⟩) (hM _)) cmw_L_source wst_L_112 dt_L_source rfl rfl (Nat.le_of_ble_eq_true rfl) (by decide) ⟨by show _ ≤ 601024; omega, by show _ ≤ 7293034; omega⟩ dL_law_884 ?_
    rintro v X2 S2 ⟨rfl, z, h9, rfl⟩
    rw [ow_set]
    refine g_sa C (fun hsa => ?_)
    obtain ⟨-, z2, e2, h10⟩ := hPo _ _ _ _ h9
    cases e2
    obtain ⟨Pm, hMm, hPm⟩ := h10 hsa
    refine g_istore C ((5, .int 0) :: [(0, .ref b), (1, .ref x), (2, .ref o), (3, .ref r), (4, .int (nI i))]) dL_law_887 (by decide) rfl ?_
    refine g_aload_n C 3 dL_law_889 rfl rfl ?_
    refine g_aload_n C 1 dL_law_890 rfl rfl ?_
    refine g_iload C 5 dL_law_891 rfl ?_
    refine g_iconst C 1 dL_law_893 (by decide) ?_
    refine g_iadd C dL_law_894 ?_
    refine g_sld C hX9 hbl hbA hL (i + 1) (nI_p i 1) (by omega) dL_law_895 ?_
    refine g_aload_n C 1 dL_law_896 rfl rfl ?_
    refine g_iload C 5 dL_law_897 rfl ?_
    refine g_iconst C 2 dL_law_899 (by decide) ?_
    refine g_iadd C dL_law_900 ?_
    refine g_sld C hX9 hbl hbA hL (i + 2) (nI_p i 2) (by omega) dL_law_901 ?_
    refine g_callV C [.int (xs (i + 1)), .int (xs (i + 2))] [] (hMm _ _) mw_at rfl cm_X5_source wv_L_114 ds_X5_source rfl rfl (Nat.le_of_ble_eq_true rfl) (by decide) ⟨by show _ ≤ 601024; omega, by show _ ≤ 7293034; omega⟩ dL_law_902 ?_
    rintro v X2 S3 ⟨rfl, M2, rfl, h11⟩
    obtain ⟨rfl, h20, hR2⟩ := hPm _ _ h11
    refine g_istore C ((6, .int z) :: (5, .int 0) :: [(0, .ref b), (1, .ref x), (2, .ref o), (3, .ref r), (4, .int (nI i))]) dL_law_905 (by decide) rfl ?_
    refine g_aload_n C 4 dL_law_907 rfl rfl ?_
    refine g_callV C [] [] (c_mthrown l E o a M2 _ _) mw_at rfl cm_X5_thrown wv_L_75 ds_X5_thrown rfl rfl (Nat.le_of_ble_eq_true rfl) (by decide) ⟨by show _ ≤ 601024; omega, by show _ ≤ 7293034; omega⟩ dL_law_908 ?_
    rintro v X2 S3 ⟨rfl, M3, rfl, rfl, rfl⟩
    refine g_iload C 1 dL_law_911 rfl ?_
    refine g_icmp_eq C 918 dL_law_913 (by decide) (fun _ => ?_) (fun h => absurd h20 h)
    refine g_iload C 1 dL_law_918 rfl ?_
    refine g_if_ne C 935 dL_law_920 (by decide) (fun h => absurd rfl h) (fun _ => ?_)
    refine g_aload_n C 5 dL_law_923 rfl rfl ?_
    refine g_iconst C 0 dL_law_924 (by decide) ?_
    refine x_lald C 19 0 ow_at rfl (by decide) (by decide) dL_law_925 ?_
    rw [upL_0]
    refine g_iload C 0 dL_law_926 rfl ?_
    refine g_i2l C _ dL_law_928 rfl ?_
    refine g_lcmp C dL_law_929 ?_
    rw [cmp_s]
    refine g_if_eq C 935 dL_law_930 (by decide) (fun _ => ?_) (fun h => absurd rfl h)
    refine g_goto C 1117 dL_law_935 (by decide) ?_
    refine g_locs (lv2 := [(0, .ref b), (1, .ref x), (2, .ref o), (3, .ref r), (4, .int (nI i))]) [2, 3, 4, 5, 6] rfl ?_
    exact next _ _ _ _ _ hR2 (by omega) (by omega)
  · have tail : GW p l e room_1 s m args below meth c E 7 A Q (mw E o a M ++ ow E r f) S (cells + 1) (slots + 6) 887 [(0, .ref b), (1, .ref x), (2, .ref o), (3, .ref r), (4, .int (nI i))] [.int code] := by
      refine g_istore C ((5, .int code) :: [(0, .ref b), (1, .ref x), (2, .ref o), (3, .ref r), (4, .int (nI i))]) dL_law_887 (by decide) rfl ?_
      refine g_aload_n C 3 dL_law_889 rfl rfl ?_
      refine g_aload_n C 1 dL_law_890 rfl rfl ?_
      refine g_iload C 5 dL_law_891 rfl ?_
      refine g_iconst C 1 dL_law_893 (by decide) ?_
      refine g_iadd C dL_law_894 ?_
      refine g_sld C hX9 hbl hbA hL (i + 1) (nI_p i 1) (by omega) dL_law_895 ?_
      refine g_aload_n C 1 dL_law_896 rfl rfl ?_
      refine g_iload C 5 dL_law_897 rfl ?_
      refine g_iconst C 2 dL_law_899 (by decide) ?_
      refine g_iadd C dL_law_900 ?_
      refine g_sld C hX9 hbl hbA hL (i + 2) (nI_p i 2) (by omega) dL_law_901 ?_
      refine g_callV C [.int (xs (i + 1)), .int (xs (i + 2))] [] (hMm _ _) mw_at rfl cm_X5_source wv_L_114 ds_X5_source rfl rfl (Nat.le_of_ble_eq_true rfl) (by decide) ⟨by show _ ≤ 601024; omega, by show _ ≤ 7293034; omega⟩ dL_law_902 ?_
      rintro v X2 S3 ⟨rfl, M2, rfl, h11⟩
      obtain ⟨⟨z, rfl⟩, h20, hR2⟩ := hPm _ _ h11
      refine g_istore C ((6, .int z) :: (5, .int code) :: [(0, .ref b), (1, .ref x), (2, .ref o), (3, .ref r), (4, .int (nI i))]) dL_law_905 (by decide) rfl ?_
      refine g_aload_n C 4 dL_law_907 rfl rfl ?_
      refine g_callV C [] [] (c_mthrown l E o a M2 _ _) mw_at rfl cm_X5_thrown wv_L_75 ds_X5_thrown rfl rfl (Nat.le_of_ble_eq_true rfl) (by decide) ⟨by show _ ≤ 601024; omega, by show _ ≤ 7293034; omega⟩ dL_law_908 ?_
      rintro v X2 S3 ⟨rfl, M3, rfl, rfl, rfl⟩
      refine g_iload C 1 dL_law_911 rfl ?_
      refine g_icmp_eq C 918 dL_law_913 (by decide) (fun _ => ?_) (fun h => absurd h20 h)
      refine g_iload C 1 dL_law_918 rfl ?_
      refine g_if_ne C 935 dL_law_920 (by decide) (fun _ => ?_) (fun h => absurd h hne)
      refine g_goto C 1117 dL_law_935 (by decide) ?_
      refine g_locs (lv2 := [(0, .ref b), (1, .ref x), (2, .ref o), (3, .ref r), (4, .int (nI i))]) [2, 3, 4, 5, 6] rfl ?_
      exact next _ _ _ _ _ hR2 (by omega) (by omega)
    have hcd := List.mem_singleton.mp hcd
    cases hcd
    refine g_callSW C [.ref x, .int (xs (i + 1)), .int (xs (i + 2)), .ref r] [] (w_sourceT1 l E _ S (Rel.x hR) (hT _)) cmw_L_source wst_L_112 dt_L_source rfl rfl (Nat.le_of_ble_eq_true rfl) (by decide) ⟨by show _ ≤ 601024; omega, by show _ ≤ 7293034; omega⟩ dL_law_884 ?_
    rintro v X2 S2 ⟨rfl, rfl, rfl⟩
    exact tail
set_option maxRecDepth 100000 in
theorem lc_height {p : Program} {l : Launch} {e : Env} {s : State} {m : MethodId} {args : Array Value} {below : List Frame} {meth : Method} {c : Code} {E : Ev} {A : Nat → Prop} {Q : State → Prop} {nm ds : String} {c0 : Cond} (hlt : l.stackTraces = false) (C : Cx p s m args meth c cL_law 7 (yL nm ds) (some .boolean) c0 E A) {b L : Nat} {xs : Nat → Int32} (hX9 : va_X b L xs s s.heap) (hbl : b < s.heap.size) (hbA : ¬ A b) (hL : L ≤ 2048) {x o r : Nat} {a : Nat → Nat} {S : HS} {M : MM} {f : Nat → Int64} {i : Nat} (hR : Rel E S M x) (hi : i + 4 ≤ L) {cells slots : Nat} (hc : cells + 5 ≤ 601024) (hs : slots + 318 ≤ 7293034) (next : ∀ (S2 : HS) (M2 : MM) (f2 : Nat → Int64) (cells2 slots2 : Nat), Rel E S2 M2 x → cells2 ≤ cells + 5 → slots2 ≤ slots + 318 → GW p l e room_1 s m args below meth c E 7 A Q (mw E o a M2 ++ ow E r f2) S2 cells2 slots2 1117 [(0, .ref b), (1, .ref x), (2, .ref o), (3, .ref r), (4, .int (nI i))] []) : GW p l e room_1 s m args below meth c E 7 A Q (mw E o a M ++ ow E r f) S cells slots 938 [(0, .ref b), (1, .ref x), (2, .ref o), (3, .ref r), (4, .int (nI i))] [] := by
  refine g_aload_n C 1 dL_law_938 rfl rfl ?_
  refine g_aload_n C 0 dL_law_939 rfl rfl ?_
  refine g_iload C 4 dL_law_940 rfl ?_
  refine g_iconst C 1 dL_law_942 (by decide) ?_
  refine g_iadd C dL_law_943 ?_
  refine g_sld C hX9 hbl hbA hL (i + 1) (nI_p i 1) (by omega) dL_law_944 ?_
  refine g_aload_n C 3 dL_law_945 rfl rfl ?_
  rcases d_height (o := o) (a := a) hlt hR (xs (i + 1)) with ⟨Po, hM, hPo⟩ | ⟨cls, code, hcd, hne, hT, Pm, hMm, hPm⟩
  · refine g_callSW C [.ref x, .int (xs (i + 1)), .ref r] [] (w_height l E _ S (Rel.x hR) ow_at (fun v X2 S2 h => ⟨(hPo _ v X2 S2 h).1, (hPo _ v X2 S2 h).2.imp (fun _ h => h.1)⟩) (hM _)) cmw_L_height wst_L_115 dt_L_height rfl rfl (Nat.le_of_ble_eq_true rfl) (by decide) ⟨by show _ ≤ 601024; omega, by show _ ≤ 7293034; omega⟩ dL_law_946 ?_
    rintro v X2 S2 ⟨rfl, z, h9, rfl⟩
    rw [ow_set]
    refine g_sa C (fun hsa => ?_)
    obtain ⟨-, z2, e2, h10⟩ := hPo _ _ _ _ h9
    cases e2
    obtain ⟨Pm, hMm, hPm⟩ := h10 hsa
    refine g_istore C ((5, .int 0) :: [(0, .ref b), (1, .ref x), (2, .ref o), (3, .ref r), (4, .int (nI i))]) dL_law_949 (by decide) rfl ?_
    refine g_aload_n C 3 dL_law_951 rfl rfl ?_
    refine g_aload_n C 1 dL_law_952 rfl rfl ?_
    refine g_iload C 5 dL_law_953 rfl ?_
    refine g_iconst C 1 dL_law_955 (by decide) ?_
    refine g_iadd C dL_law_956 ?_
    refine g_sld C hX9 hbl hbA hL (i + 1) (nI_p i 1) (by omega) dL_law_957 ?_
    refine g_callV C [.int (xs (i + 1))] [] (hMm _ _) mw_at rfl cm_X5_height wv_L_117 ds_X5_height rfl rfl (Nat.le_of_ble_eq_true rfl) (by decide) ⟨by show _ ≤ 601024; omega, by show _ ≤ 7293034; omega⟩ dL_law_958 ?_
    rintro v X2 S3 ⟨rfl, M2, rfl, h11⟩
    obtain ⟨rfl, h20, hR2⟩ := hPm _ _ h11
    refine g_istore C ((6, .int z) :: (5, .int 0) :: [(0, .ref b), (1, .ref x), (2, .ref o), (3, .ref r), (4, .int (nI i))]) dL_law_961 (by decide) rfl ?_
    refine g_aload_n C 4 dL_law_963 rfl rfl ?_
    refine g_callV C [] [] (c_mthrown l E o a M2 _ _) mw_at rfl cm_X5_thrown wv_L_75 ds_X5_thrown rfl rfl (Nat.le_of_ble_eq_true rfl) (by decide) ⟨by show _ ≤ 601024; omega, by show _ ≤ 7293034; omega⟩ dL_law_964 ?_
    rintro v X2 S3 ⟨rfl, M3, rfl, rfl, rfl⟩
    refine g_iload C 1 dL_law_967 rfl ?_
    refine g_icmp_eq C 974 dL_law_969 (by decide) (fun _ => ?_) (fun h => absurd h20 h)
    refine g_iload C 1 dL_law_974 rfl ?_
    refine g_if_ne C 991 dL_law_976 (by decide) (fun h => absurd rfl h) (fun _ => ?_)
    refine g_aload_n C 5 dL_law_979 rfl rfl ?_
    refine g_iconst C 0 dL_law_980 (by decide) ?_
    refine x_lald C 19 0 ow_at rfl (by decide) (by decide) dL_law_981 ?_
    rw [upL_0]
    refine g_iload C 0 dL_law_982 rfl ?_
    refine g_i2l C _ dL_law_984 rfl ?_
    refine g_lcmp C dL_law_985 ?_
    rw [cmp_s]
    refine g_if_eq C 991 dL_law_986 (by decide) (fun _ => ?_) (fun h => absurd rfl h)
    refine g_goto C 1117 dL_law_991 (by decide) ?_
    refine g_locs (lv2 := [(0, .ref b), (1, .ref x), (2, .ref o), (3, .ref r), (4, .int (nI i))]) [2, 3, 4, 5, 6] rfl ?_
    exact next _ _ _ _ _ hR2 (by omega) (by omega)
  · have tail : GW p l e room_1 s m args below meth c E 7 A Q (mw E o a M ++ ow E r f) S (cells + 1) (slots + 6) 949 [(0, .ref b), (1, .ref x), (2, .ref o), (3, .ref r), (4, .int (nI i))] [.int code] := by
      refine g_istore C ((5, .int code) :: [(0, .ref b), (1, .ref x), (2, .ref o), (3, .ref r), (4, .int (nI i))]) dL_law_949 (by decide) rfl ?_
      refine g_aload_n C 3 dL_law_951 rfl rfl ?_
      refine g_aload_n C 1 dL_law_952 rfl rfl ?_
      refine g_iload C 5 dL_law_953 rfl ?_
      refine g_iconst C 1 dL_law_955 (by decide) ?_
      refine g_iadd C dL_law_956 ?_
      refine g_sld C hX9 hbl hbA hL (i + 1) (nI_p i 1) (by omega) dL_law_957 ?_
      refine g_callV C [.int (xs (i + 1))] [] (hMm _ _) mw_at rfl cm_X5_height wv_L_117 ds_X5_height rfl rfl (Nat.le_of_ble_eq_true rfl) (by decide) ⟨by show _ ≤ 601024; omega, by show _ ≤ 7293034; omega⟩ dL_law_958 ?_
      rintro v X2 S3 ⟨rfl, M2, rfl, h11⟩
      obtain ⟨⟨z, rfl⟩, h20, hR2⟩ := hPm _ _ h11
      refine g_istore C ((6, .int z) :: (5, .int code) :: [(0, .ref b), (1, .ref x), (2, .ref o), (3, .ref r), (4, .int (nI i))]) dL_law_961 (by decide) rfl ?_
      refine g_aload_n C 4 dL_law_963 rfl rfl ?_
      refine g_callV C [] [] (c_mthrown l E o a M2 _ _) mw_at rfl cm_X5_thrown wv_L_75 ds_X5_thrown rfl rfl (Nat.le_of_ble_eq_true rfl) (by decide) ⟨by show _ ≤ 601024; omega, by show _ ≤ 7293034; omega⟩ dL_law_964 ?_
      rintro v X2 S3 ⟨rfl, M3, rfl, rfl, rfl⟩
      refine g_iload C 1 dL_law_967 rfl ?_
      refine g_icmp_eq C 974 dL_law_969 (by decide) (fun _ => ?_) (fun h => absurd h20 h)
      refine g_iload C 1 dL_law_974 rfl ?_
      refine g_if_ne C 991 dL_law_976 (by decide) (fun _ => ?_) (fun h => absurd h hne)
      refine g_goto C 1117 dL_law_991 (by decide) ?_
      refine g_locs (lv2 := [(0, .ref b), (1, .ref x), (2, .ref o), (3, .ref r), (4, .int (nI i))]) [2, 3, 4, 5, 6] rfl ?_
      exact next _ _ _ _ _ hR2 (by omega) (by omega)
    have hcd := List.mem_singleton.mp hcd
    cases hcd
    refine g_callSW C [.ref x, .int (xs (i + 1)), .ref r] [] (w_heightT1 l E _ S (Rel.x hR) (hT _)) cmw_L_height wst_L_115 dt_L_height rfl rfl (Nat.le_of_ble_eq_true rfl) (by decide) ⟨by show _ ≤ 601024; omega, by show _ ≤ 7293034; omega⟩ dL_law_946 ?_
    rintro v X2 S2 ⟨rfl, rfl, rfl⟩
    exact tail
set_option maxRecDepth 100000 in
theorem lc_noise {p : Program} {l : Launch} {e : Env} {s : State} {m : MethodId} {args : Array Value} {below : List Frame} {meth : Method} {c : Code} {E : Ev} {A : Nat → Prop} {Q : State → Prop} {nm ds : String} {c0 : Cond} (hlt : l.stackTraces = false) (C : Cx p s m args meth c cL_law 7 (yL nm ds) (some .boolean) c0 E A) {b L : Nat} {xs : Nat → Int32} (hX9 : va_X b L xs s s.heap) (hbl : b < s.heap.size) (hbA : ¬ A b) (hL : L ≤ 2048) {x o r : Nat} {a : Nat → Nat} {S : HS} {M : MM} {f : Nat → Int64} {i : Nat} (hR : Rel E S M x) (hi : i + 4 ≤ L) {cells slots : Nat} (hc : cells + 5 ≤ 601024) (hs : slots + 318 ≤ 7293034) (next : ∀ (S2 : HS) (M2 : MM) (f2 : Nat → Int64) (cells2 slots2 : Nat), Rel E S2 M2 x → cells2 ≤ cells + 5 → slots2 ≤ slots + 318 → GW p l e room_1 s m args below meth c E 7 A Q (mw E o a M2 ++ ow E r f2) S2 cells2 slots2 1117 [(0, .ref b), (1, .ref x), (2, .ref o), (3, .ref r), (4, .int (nI i))] []) : GW p l e room_1 s m args below meth c E 7 A Q (mw E o a M ++ ow E r f) S cells slots 994 [(0, .ref b), (1, .ref x), (2, .ref o), (3, .ref r), (4, .int (nI i))] [] := by
  refine g_aload_n C 1 dL_law_994 rfl rfl ?_
  refine g_aload_n C 0 dL_law_995 rfl rfl ?_
  refine g_iload C 4 dL_law_996 rfl ?_
  refine g_iconst C 1 dL_law_998 (by decide) ?_
  refine g_iadd C dL_law_999 ?_
  refine g_sld C hX9 hbl hbA hL (i + 1) (nI_p i 1) (by omega) dL_law_1000 ?_
  refine g_aload_n C 3 dL_law_1001 rfl rfl ?_
  rcases d_noise (o := o) (a := a) hlt hR (xs (i + 1)) with ⟨Po, hM, hPo⟩ | ⟨cls, code, hcd, hne, hT, Pm, hMm, hPm⟩
  · refine g_callSW C [.ref x, .int (xs (i + 1)), .ref r] [] (w_noise l E _ S (Rel.x hR) ow_at (fun v X2 S2 h => ⟨(hPo _ v X2 S2 h).1, (hPo _ v X2 S2 h).2.imp (fun _ h => h.1)⟩) (hM _)) cmw_L_noise wst_L_118 dt_L_noise rfl rfl (Nat.le_of_ble_eq_true rfl) (by decide) ⟨by show _ ≤ 601024; omega, by show _ ≤ 7293034; omega⟩ dL_law_1002 ?_
    rintro v X2 S2 ⟨rfl, z, h9, rfl⟩
    rw [ow_set]
    refine g_sa C (fun hsa => ?_)
    obtain ⟨-, z2, e2, h10⟩ := hPo _ _ _ _ h9
    cases e2
    obtain ⟨Pm, hMm, hPm⟩ := h10 hsa
    refine g_istore C ((5, .int 0) :: [(0, .ref b), (1, .ref x), (2, .ref o), (3, .ref r), (4, .int (nI i))]) dL_law_1005 (by decide) rfl ?_
    refine g_aload_n C 3 dL_law_1007 rfl rfl ?_
    refine g_aload_n C 1 dL_law_1008 rfl rfl ?_
    refine g_iload C 5 dL_law_1009 rfl ?_
    refine g_iconst C 1 dL_law_1011 (by decide) ?_
    refine g_iadd C dL_law_1012 ?_
    refine g_sld C hX9 hbl hbA hL (i + 1) (nI_p i 1) (by omega) dL_law_1013 ?_
    refine g_callV C [.int (xs (i + 1))] [] (hMm _ _) mw_at rfl cm_X5_noise wv_L_120 ds_X5_noise rfl rfl (Nat.le_of_ble_eq_true rfl) (by decide) ⟨by show _ ≤ 601024; omega, by show _ ≤ 7293034; omega⟩ dL_law_1014 ?_
    rintro v X2 S3 ⟨rfl, M2, rfl, h11⟩
    obtain ⟨rfl, h20, hR2⟩ := hPm _ _ h11
    refine g_istore C ((6, .int z) :: (5, .int 0) :: [(0, .ref b), (1, .ref x), (2, .ref o), (3, .ref r), (4, .int (nI i))]) dL_law_1017 (by decide) rfl ?_
    refine g_aload_n C 4 dL_law_1019 rfl rfl ?_
    refine g_callV C [] [] (c_mthrown l E o a M2 _ _) mw_at rfl cm_X5_thrown wv_L_75 ds_X5_thrown rfl rfl (Nat.le_of_ble_eq_true rfl) (by decide) ⟨by show _ ≤ 601024; omega, by show _ ≤ 7293034; omega⟩ dL_law_1020 ?_
    rintro v X2 S3 ⟨rfl, M3, rfl, rfl, rfl⟩
    refine g_iload C 1 dL_law_1023 rfl ?_
    refine g_icmp_eq C 1030 dL_law_1025 (by decide) (fun _ => ?_) (fun h => absurd h20 h)
    refine g_iload C 1 dL_law_1030 rfl ?_
    refine g_if_ne C 1047 dL_law_1032 (by decide) (fun h => absurd rfl h) (fun _ => ?_)
    refine g_aload_n C 5 dL_law_1035 rfl rfl ?_
    refine g_iconst C 0 dL_law_1036 (by decide) ?_
    refine x_lald C 19 0 ow_at rfl (by decide) (by decide) dL_law_1037 ?_
    rw [upL_0]
    refine g_iload C 0 dL_law_1038 rfl ?_
    refine g_i2l C _ dL_law_1040 rfl ?_
    refine g_lcmp C dL_law_1041 ?_
    rw [cmp_s]
    refine g_if_eq C 1047 dL_law_1042 (by decide) (fun _ => ?_) (fun h => absurd rfl h)
    refine g_goto C 1117 dL_law_1047 (by decide) ?_
    refine g_locs (lv2 := [(0, .ref b), (1, .ref x), (2, .ref o), (3, .ref r), (4, .int (nI i))]) [2, 3, 4, 5, 6] rfl ?_
    exact next _ _ _ _ _ hR2 (by omega) (by omega)
  · have tail : GW p l e room_1 s m args below meth c E 7 A Q (mw E o a M ++ ow E r f) S (cells + 1) (slots + 6) 1005 [(0, .ref b), (1, .ref x), (2, .ref o), (3, .ref r), (4, .int (nI i))] [.int code] := by
      refine g_istore C ((5, .int code) :: [(0, .ref b), (1, .ref x), (2, .ref o), (3, .ref r), (4, .int (nI i))]) dL_law_1005 (by decide) rfl ?_
      refine g_aload_n C 3 dL_law_1007 rfl rfl ?_
      refine g_aload_n C 1 dL_law_1008 rfl rfl ?_
      refine g_iload C 5 dL_law_1009 rfl ?_
      refine g_iconst C 1 dL_law_1011 (by decide) ?_
      refine g_iadd C dL_law_1012 ?_
      refine g_sld C hX9 hbl hbA hL (i + 1) (nI_p i 1) (by omega) dL_law_1013 ?_
      refine g_callV C [.int (xs (i + 1))] [] (hMm _ _) mw_at rfl cm_X5_noise wv_L_120 ds_X5_noise rfl rfl (Nat.le_of_ble_eq_true rfl) (by decide) ⟨by show _ ≤ 601024; omega, by show _ ≤ 7293034; omega⟩ dL_law_1014 ?_
      rintro v X2 S3 ⟨rfl, M2, rfl, h11⟩
      obtain ⟨⟨z, rfl⟩, h20, hR2⟩ := hPm _ _ h11
      refine g_istore C ((6, .int z) :: (5, .int code) :: [(0, .ref b), (1, .ref x), (2, .ref o), (3, .ref r), (4, .int (nI i))]) dL_law_1017 (by decide) rfl ?_
      refine g_aload_n C 4 dL_law_1019 rfl rfl ?_
      refine g_callV C [] [] (c_mthrown l E o a M2 _ _) mw_at rfl cm_X5_thrown wv_L_75 ds_X5_thrown rfl rfl (Nat.le_of_ble_eq_true rfl) (by decide) ⟨by show _ ≤ 601024; omega, by show _ ≤ 7293034; omega⟩ dL_law_1020 ?_
      rintro v X2 S3 ⟨rfl, M3, rfl, rfl, rfl⟩
      refine g_iload C 1 dL_law_1023 rfl ?_
      refine g_icmp_eq C 1030 dL_law_1025 (by decide) (fun _ => ?_) (fun h => absurd h20 h)
      refine g_iload C 1 dL_law_1030 rfl ?_
      refine g_if_ne C 1047 dL_law_1032 (by decide) (fun _ => ?_) (fun h => absurd h hne)
      refine g_goto C 1117 dL_law_1047 (by decide) ?_
      refine g_locs (lv2 := [(0, .ref b), (1, .ref x), (2, .ref o), (3, .ref r), (4, .int (nI i))]) [2, 3, 4, 5, 6] rfl ?_
      exact next _ _ _ _ _ hR2 (by omega) (by omega)
    have hcd := List.mem_singleton.mp hcd
    cases hcd
    refine g_callSW C [.ref x, .int (xs (i + 1)), .ref r] [] (w_noiseT1 l E _ S (Rel.x hR) (hT _)) cmw_L_noise wst_L_118 dt_L_noise rfl rfl (Nat.le_of_ble_eq_true rfl) (by decide) ⟨by show _ ≤ 601024; omega, by show _ ≤ 7293034; omega⟩ dL_law_1002 ?_
    rintro v X2 S2 ⟨rfl, rfl, rfl⟩
    exact tail
set_option maxRecDepth 100000 in
theorem lc_count {p : Program} {l : Launch} {e : Env} {s : State} {m : MethodId} {args : Array Value} {below : List Frame} {meth : Method} {c : Code} {E : Ev} {A : Nat → Prop} {Q : State → Prop} {nm ds : String} {c0 : Cond} (hlt : l.stackTraces = false) (C : Cx p s m args meth c cL_law 7 (yL nm ds) (some .boolean) c0 E A) {b L : Nat} {xs : Nat → Int32} (hX9 : va_X b L xs s s.heap) (hbl : b < s.heap.size) (hbA : ¬ A b) (hL : L ≤ 2048) {x o r : Nat} {a : Nat → Nat} {S : HS} {M : MM} {f : Nat → Int64} {i : Nat} (hR : Rel E S M x) (hi : i + 4 ≤ L) {cells slots : Nat} (hc : cells + 5 ≤ 601024) (hs : slots + 318 ≤ 7293034) (next : ∀ (S2 : HS) (M2 : MM) (f2 : Nat → Int64) (cells2 slots2 : Nat), Rel E S2 M2 x → cells2 ≤ cells + 5 → slots2 ≤ slots + 318 → GW p l e room_1 s m args below meth c E 7 A Q (mw E o a M2 ++ ow E r f2) S2 cells2 slots2 1117 [(0, .ref b), (1, .ref x), (2, .ref o), (3, .ref r), (4, .int (nI i))] []) : GW p l e room_1 s m args below meth c E 7 A Q (mw E o a M ++ ow E r f) S cells slots 1050 [(0, .ref b), (1, .ref x), (2, .ref o), (3, .ref r), (4, .int (nI i))] [] := by
  refine g_aload_n C 1 dL_law_1050 rfl rfl ?_
  refine g_aload_n C 0 dL_law_1051 rfl rfl ?_
  refine g_iload C 4 dL_law_1052 rfl ?_
  refine g_iconst C 1 dL_law_1054 (by decide) ?_
  refine g_iadd C dL_law_1055 ?_
  refine g_sld C hX9 hbl hbA hL (i + 1) (nI_p i 1) (by omega) dL_law_1056 ?_
  refine g_aload_n C 3 dL_law_1057 rfl rfl ?_
  rcases d_count (o := o) (a := a) hlt hR (xs (i + 1)) with ⟨Po, hM, hPo⟩ | ⟨cls, code, hcd, hne, hT, Pm, hMm, hPm⟩
  · refine g_callSW C [.ref x, .int (xs (i + 1)), .ref r] [] (w_count l E _ S (Rel.x hR) ow_at (fun v X2 S2 h => ⟨(hPo _ v X2 S2 h).1, (hPo _ v X2 S2 h).2.imp (fun _ h => h.1)⟩) (hM _)) cmw_L_count wst_L_121 dt_L_count rfl rfl (Nat.le_of_ble_eq_true rfl) (by decide) ⟨by show _ ≤ 601024; omega, by show _ ≤ 7293034; omega⟩ dL_law_1058 ?_
    rintro v X2 S2 ⟨rfl, z, h9, rfl⟩
    rw [ow_set]
    refine g_sa C (fun hsa => ?_)
    obtain ⟨-, z2, e2, h10⟩ := hPo _ _ _ _ h9
    cases e2
    obtain ⟨Pm, hMm, hPm⟩ := h10 hsa
    refine g_istore C ((5, .int 0) :: [(0, .ref b), (1, .ref x), (2, .ref o), (3, .ref r), (4, .int (nI i))]) dL_law_1061 (by decide) rfl ?_
    refine g_aload_n C 3 dL_law_1063 rfl rfl ?_
    refine g_aload_n C 1 dL_law_1064 rfl rfl ?_
    refine g_iload C 5 dL_law_1065 rfl ?_
    refine g_iconst C 1 dL_law_1067 (by decide) ?_
    refine g_iadd C dL_law_1068 ?_
    refine g_sld C hX9 hbl hbA hL (i + 1) (nI_p i 1) (by omega) dL_law_1069 ?_
    refine g_callV C [.int (xs (i + 1))] [] (hMm _ _) mw_at rfl cm_X5_count wv_L_123 ds_X5_count rfl rfl (Nat.le_of_ble_eq_true rfl) (by decide) ⟨by show _ ≤ 601024; omega, by show _ ≤ 7293034; omega⟩ dL_law_1070 ?_
    rintro v X2 S3 ⟨rfl, M2, rfl, h11⟩
    obtain ⟨rfl, h20, hR2⟩ := hPm _ _ h11
    refine g_istore C ((6, .int z) :: (5, .int 0) :: [(0, .ref b), (1, .ref x), (2, .ref o), (3, .ref r), (4, .int (nI i))]) dL_law_1073 (by decide) rfl ?_
    refine g_aload_n C 4 dL_law_1075 rfl rfl ?_
    refine g_callV C [] [] (c_mthrown l E o a M2 _ _) mw_at rfl cm_X5_thrown wv_L_75 ds_X5_thrown rfl rfl (Nat.le_of_ble_eq_true rfl) (by decide) ⟨by show _ ≤ 601024; omega, by show _ ≤ 7293034; omega⟩ dL_law_1076 ?_
    rintro v X2 S3 ⟨rfl, M3, rfl, rfl, rfl⟩
    refine g_iload C 1 dL_law_1079 rfl ?_
    refine g_icmp_eq C 1086 dL_law_1081 (by decide) (fun _ => ?_) (fun h => absurd h20 h)
    refine g_iload C 1 dL_law_1086 rfl ?_
    refine g_if_ne C 1103 dL_law_1088 (by decide) (fun h => absurd rfl h) (fun _ => ?_)
    refine g_aload_n C 5 dL_law_1091 rfl rfl ?_
    refine g_iconst C 0 dL_law_1092 (by decide) ?_
    refine x_lald C 19 0 ow_at rfl (by decide) (by decide) dL_law_1093 ?_
    rw [upL_0]
    refine g_iload C 0 dL_law_1094 rfl ?_
    refine g_i2l C _ dL_law_1096 rfl ?_
    refine g_lcmp C dL_law_1097 ?_
    rw [cmp_s]
    refine g_if_eq C 1103 dL_law_1098 (by decide) (fun _ => ?_) (fun h => absurd rfl h)
    refine g_goto C 1117 dL_law_1103 (by decide) ?_
    refine g_locs (lv2 := [(0, .ref b), (1, .ref x), (2, .ref o), (3, .ref r), (4, .int (nI i))]) [2, 3, 4, 5, 6] rfl ?_
    exact next _ _ _ _ _ hR2 (by omega) (by omega)
  · have tail : GW p l e room_1 s m args below meth c E 7 A Q (mw E o a M ++ ow E r f) S (cells + 1) (slots + 6) 1061 [(0, .ref b), (1, .ref x), (2, .ref o), (3, .ref r), (4, .int (nI i))] [.int code] := by
      refine g_istore C ((5, .int code) :: [(0, .ref b), (1, .ref x), (2, .ref o), (3, .ref r), (4, .int (nI i))]) dL_law_1061 (by decide) rfl ?_
      refine g_aload_n C 3 dL_law_1063 rfl rfl ?_
      refine g_aload_n C 1 dL_law_1064 rfl rfl ?_
      refine g_iload C 5 dL_law_1065 rfl ?_
      refine g_iconst C 1 dL_law_1067 (by decide) ?_
      refine g_iadd C dL_law_1068 ?_
      refine g_sld C hX9 hbl hbA hL (i + 1) (nI_p i 1) (by omega) dL_law_1069 ?_
      refine g_callV C [.int (xs (i + 1))] [] (hMm _ _) mw_at rfl cm_X5_count wv_L_123 ds_X5_count rfl rfl (Nat.le_of_ble_eq_true rfl) (by decide) ⟨by show _ ≤ 601024; omega, by show _ ≤ 7293034; omega⟩ dL_law_1070 ?_
      rintro v X2 S3 ⟨rfl, M2, rfl, h11⟩
      obtain ⟨⟨z, rfl⟩, h20, hR2⟩ := hPm _ _ h11
      refine g_istore C ((6, .int z) :: (5, .int code) :: [(0, .ref b), (1, .ref x), (2, .ref o), (3, .ref r), (4, .int (nI i))]) dL_law_1073 (by decide) rfl ?_
      refine g_aload_n C 4 dL_law_1075 rfl rfl ?_
      refine g_callV C [] [] (c_mthrown l E o a M2 _ _) mw_at rfl cm_X5_thrown wv_L_75 ds_X5_thrown rfl rfl (Nat.le_of_ble_eq_true rfl) (by decide) ⟨by show _ ≤ 601024; omega, by show _ ≤ 7293034; omega⟩ dL_law_1076 ?_
      rintro v X2 S3 ⟨rfl, M3, rfl, rfl, rfl⟩
      refine g_iload C 1 dL_law_1079 rfl ?_
      refine g_icmp_eq C 1086 dL_law_1081 (by decide) (fun _ => ?_) (fun h => absurd h20 h)
      refine g_iload C 1 dL_law_1086 rfl ?_
      refine g_if_ne C 1103 dL_law_1088 (by decide) (fun _ => ?_) (fun h => absurd h hne)
      refine g_goto C 1117 dL_law_1103 (by decide) ?_
      refine g_locs (lv2 := [(0, .ref b), (1, .ref x), (2, .ref o), (3, .ref r), (4, .int (nI i))]) [2, 3, 4, 5, 6] rfl ?_
      exact next _ _ _ _ _ hR2 (by omega) (by omega)
    have hcd := List.mem_singleton.mp hcd
    cases hcd
    refine g_callSW C [.ref x, .int (xs (i + 1)), .ref r] [] (w_countT1 l E _ S (Rel.x hR) (hT _)) cmw_L_count wst_L_121 dt_L_count rfl rfl (Nat.le_of_ble_eq_true rfl) (by decide) ⟨by show _ ≤ 601024; omega, by show _ ≤ 7293034; omega⟩ dL_law_1058 ?_
    rintro v X2 S2 ⟨rfl, rfl, rfl⟩
    exact tail
set_option maxRecDepth 100000 in
theorem lc_clear {p : Program} {l : Launch} {e : Env} {s : State} {m : MethodId} {args : Array Value} {below : List Frame} {meth : Method} {c : Code} {E : Ev} {A : Nat → Prop} {Q : State → Prop} {nm ds : String} {c0 : Cond} (hlt : l.stackTraces = false) (C : Cx p s m args meth c cL_law 7 (yL nm ds) (some .boolean) c0 E A) {b L : Nat} {xs : Nat → Int32} (hX9 : va_X b L xs s s.heap) (hbl : b < s.heap.size) (hbA : ¬ A b) (hL : L ≤ 2048) {x o r : Nat} {a : Nat → Nat} {S : HS} {M : MM} {f : Nat → Int64} {i : Nat} (hR : Rel E S M x) (hi : i + 4 ≤ L) {cells slots : Nat} (hc : cells + 5 ≤ 601024) (hs : slots + 318 ≤ 7293034) (next : ∀ (S2 : HS) (M2 : MM) (f2 : Nat → Int64) (cells2 slots2 : Nat), Rel E S2 M2 x → cells2 ≤ cells + 5 → slots2 ≤ slots + 318 → GW p l e room_1 s m args below meth c E 7 A Q (mw E o a M2 ++ ow E r f2) S2 cells2 slots2 1117 [(0, .ref b), (1, .ref x), (2, .ref o), (3, .ref r), (4, .int (nI i))] []) : GW p l e room_1 s m args below meth c E 7 A Q (mw E o a M ++ ow E r f) S cells slots 1106 [(0, .ref b), (1, .ref x), (2, .ref o), (3, .ref r), (4, .int (nI i))] [] := by
  obtain ⟨Po, hM, hPo⟩ := d_clear l hR
  refine g_aload_n C 1 dL_law_1106 rfl rfl ?_
  refine g_callV C [] [] (hM _) (recv_at (Rel.x hR).1 (pF_4 (Rel.x hR).2)) rfl cm_X4_clear wv_L_124 ds_X4_clear rfl rfl (Nat.le_of_ble_eq_true rfl) (by decide) ⟨by show _ ≤ 601024; omega, by show _ ≤ 7293034; omega⟩ dL_law_1107 ?_
  intro v X2 S2 h9
  refine g_sa C (fun hsa => ?_)
  obtain ⟨rfl, rfl, h10⟩ := hPo _ _ _ _ h9
  refine g_aload_n C 2 dL_law_1110 rfl rfl ?_
  refine g_callV C [] [] (c_mclear l E o a M _ _) mw_at rfl cm_X5_clear wv_L_127 ds_X5_clear rfl rfl (Nat.le_of_ble_eq_true rfl) (by decide) ⟨by show _ ≤ 601024; omega, by show _ ≤ 7293034; omega⟩ dL_law_1111 ?_
  rintro v X2 S3 ⟨rfl, M2, rfl, rfl, h11⟩
  refine g_goto C 1117 dL_law_1114 (by decide) ?_
  exact next _ _ _ _ _ (h10 hsa M2 h11) (by omega) (by omega)
