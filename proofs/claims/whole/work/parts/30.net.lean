/-- the net of a source -/
def tg (S : HS) (v : Nat) : Nat := (S.P 2 v).getD 0
def srcOK (S : HS) (v : Nat) : Prop := isK S 1 v ∧ S.P 2 v = some (tg S v) ∧ isK S 0 (tg S v)
def sg (S : HS) (v : Nat) : Int32 := S.I 8 v * S.I 3 (tg S v)
def stronger (S : HS) (a b : Nat) : Bool := if sg S a = sg S b then (if S.I 8 a = S.I 8 b then decide (S.I 0 (tg S a) < S.I 0 (tg S b)) else decide (S.I 8 b < S.I 8 a)) else decide (sg S b < sg S a)
def bv (S : HS) (b : Nat) : Int64 := (1 : Int64) <<< ((S.I 0 b).toInt64 &&& 63)
def exB (S : HS) (a b : Nat) : Bool := decide (¬ S.J 0 a &&& bv S b = 0)
def ldB (S : HS) (a b : Nat) : Bool := decide (¬ S.J 1 a &&& bv S b = 0)
def meB (S : HS) (a b : Nat) : Bool := decide (S.I 4 a ≤ S.I 5 b) && decide (S.I 4 b ≤ S.I 5 a)
def bI (b : Bool) : Int32 := if b = true then 1 else 0
theorem bI_t {b : Bool} (h : b = true) : bI b = 1 := if_pos h
theorem bI_f {b : Bool} (h : b = false) : bI b = 0 := if_neg (by rw [h]; decide)
theorem bI_0 {b : Bool} (h : bI b = 0) : b = false := by cases b; rfl; exact absurd h (by decide)
theorem bI_1 {b : Bool} (h : ¬ bI b = 0) : b = true := by cases b; exact absurd rfl h; rfl
theorem bI_z (b : Bool) : narrow .boolean (.int (bI b)) = .int (bI b) := by cases b <;> rfl
theorem sv {x z : Int32} (h : x = z) : some (Value.int x) = some (Value.int z) := by rw [h]
theorem dl_f {x z : Int32} (h : x ≤ z) : decide (z < x) = false := decide_eq_false (Int32.not_lt.mpr h)
theorem dl_t {x z : Int32} (h : ¬ x ≤ z) : decide (z < x) = true := decide_eq_true (Int32.not_le.mp h)
/-- the sources of the net a: the list at lc, its row at rc, holds vs -/
def cpl (E : Ev) (S : HS) (a lc rc : Nat) (vs : List Nat) : Prop := isK S 0 a ∧ S.P 0 a = some lc ∧ isAL E S lc rc vs ∧ ∀ v ∈ vs, srcOK S v
set_option maxRecDepth 100000 in
theorem c_stronger (l : Launch) (E : Ev) (X : va_W) (S : HS) {a b : Nat} (ha : srcOK S a) (hb : srcOK S b) : Ctr l yX1_isStrongerThan (Cond.code yX1_isStrongerThan cX1_isStrongerThan 2 (some .boolean)) 2 0 0 E [.ref a, .ref b] X S (Same (.int (bI (stronger S a b))) X S) := by
  refine Ctr.ofG (by decide) [(0, .ref a), (1, .ref b)] rfl (Nat.le_of_ble_eq_true rfl) ?_
  intro p e s m args below meth c A Q C hQ
  refine g_aload_n C 0 dX1_isStrongerThan_0 rfl rfl ?_
  refine g_callV C [] [] (c_strength l E X S ha.1 ha.2.1 ha.2.2) (recv_at ha.1.1 (pF_1 ha.1.2)) rfl cm_X1_strength wv_X1_22 ds_X1_strength rfl rfl (Nat.le_of_ble_eq_true rfl) (by decide) (by decide) dX1_isStrongerThan_1 ?_
  rintro v X2 S2 ⟨rfl, rfl, rfl⟩
  refine g_aload_n C 1 dX1_isStrongerThan_4 rfl rfl ?_
  refine g_callV C [] [.int (sg S a)] (c_strength l E X S hb.1 hb.2.1 hb.2.2) (recv_at hb.1.1 (pF_1 hb.1.2)) rfl cm_X1_strength wv_X1_22 ds_X1_strength rfl rfl (Nat.le_of_ble_eq_true rfl) (by decide) (by decide) dX1_isStrongerThan_5 ?_
  rintro v X2 S2 ⟨rfl, rfl, rfl⟩
  refine g_icmp_eq C 28 dX1_isStrongerThan_8 (by decide) (fun h8 => ?_) (fun h8 => ?_)
  · refine g_aload_n C 0 dX1_isStrongerThan_28 rfl rfl ?_
    refine g_get C 1 ha.1.1 (pF_1 ha.1.2) rfl (by decide) in_X1 lk_X1_13 rfl rfl dX1_isStrongerThan_29 ?_
    refine g_aload_n C 1 dX1_isStrongerThan_32 rfl rfl ?_
    refine g_get C 1 hb.1.1 (pF_1 hb.1.2) rfl (by decide) in_X1 lk_X1_13 rfl rfl dX1_isStrongerThan_33 ?_
    refine g_icmp_eq C 56 dX1_isStrongerThan_36 (by decide) (fun h36 => ?_) (fun h36 => ?_)
    · refine g_aload_n C 0 dX1_isStrongerThan_56 rfl rfl ?_
      refine g_get (v := .ref (tg S a)) C 0 ha.1.1 (pF_1 ha.1.2) rfl (by decide) in_X1 lk_X1_7 rfl (congrArg (fun z => some (va_rf z)) ha.2.1) dX1_isStrongerThan_57 ?_
      refine g_get C 0 ha.2.2.1 (pF_0 ha.2.2.2) rfl (by decide) in_X0 lk_X1_26 rfl rfl dX1_isStrongerThan_60 ?_
      refine g_aload_n C 1 dX1_isStrongerThan_63 rfl rfl ?_
      refine g_get (v := .ref (tg S b)) C 0 hb.1.1 (pF_1 hb.1.2) rfl (by decide) in_X1 lk_X1_7 rfl (congrArg (fun z => some (va_rf z)) hb.2.1) dX1_isStrongerThan_64 ?_
      refine g_get C 0 hb.2.2.1 (pF_0 hb.2.2.2) rfl (by decide) in_X0 lk_X1_26 rfl rfl dX1_isStrongerThan_67 ?_
      refine g_icmp_ge C 77 dX1_isStrongerThan_70 (by decide) (fun h70 => ?_) (fun h70 => ?_)
      · refine g_iconst C 0 dX1_isStrongerThan_77 (by decide) ?_
        exact g_iret C hQ rfl rfl dX1_isStrongerThan_78 (by decide) (by decide) ⟨sv (by rw [show stronger S a b = decide (S.I 0 (tg S a) < S.I 0 (tg S b)) from (if_pos h8).trans (if_pos h36)]; exact bI_f (dl_f h70)), rfl, rfl⟩
      · refine g_iconst C 1 dX1_isStrongerThan_73 (by decide) ?_
        refine g_goto C 78 dX1_isStrongerThan_74 (by decide) ?_
        exact g_iret C hQ rfl rfl dX1_isStrongerThan_78 (by decide) (by decide) ⟨sv (by rw [show stronger S a b = decide (S.I 0 (tg S a) < S.I 0 (tg S b)) from (if_pos h8).trans (if_pos h36)]; exact bI_t (dl_t h70)), rfl, rfl⟩
    · refine g_aload_n C 0 dX1_isStrongerThan_39 rfl rfl ?_
      refine g_get C 1 ha.1.1 (pF_1 ha.1.2) rfl (by decide) in_X1 lk_X1_13 rfl rfl dX1_isStrongerThan_40 ?_
      refine g_aload_n C 1 dX1_isStrongerThan_43 rfl rfl ?_
      refine g_get C 1 hb.1.1 (pF_1 hb.1.2) rfl (by decide) in_X1 lk_X1_13 rfl rfl dX1_isStrongerThan_44 ?_
      refine g_icmp_le C 54 dX1_isStrongerThan_47 (by decide) (fun h47 => ?_) (fun h47 => ?_)
      · refine g_iconst C 0 dX1_isStrongerThan_54 (by decide) ?_
        exact g_iret C hQ rfl rfl dX1_isStrongerThan_55 (by decide) (by decide) ⟨sv (by rw [show stronger S a b = decide (S.I 8 b < S.I 8 a) from (if_pos h8).trans (if_neg h36)]; exact bI_f (dl_f h47)), rfl, rfl⟩
      · refine g_iconst C 1 dX1_isStrongerThan_50 (by decide) ?_
        refine g_goto C 55 dX1_isStrongerThan_51 (by decide) ?_
        exact g_iret C hQ rfl rfl dX1_isStrongerThan_55 (by decide) (by decide) ⟨sv (by rw [show stronger S a b = decide (S.I 8 b < S.I 8 a) from (if_pos h8).trans (if_neg h36)]; exact bI_t (dl_t h47)), rfl, rfl⟩
  · refine g_aload_n C 0 dX1_isStrongerThan_11 rfl rfl ?_
    refine g_callV C [] [] (c_strength l E X S ha.1 ha.2.1 ha.2.2) (recv_at ha.1.1 (pF_1 ha.1.2)) rfl cm_X1_strength wv_X1_22 ds_X1_strength rfl rfl (Nat.le_of_ble_eq_true rfl) (by decide) (by decide) dX1_isStrongerThan_12 ?_
    rintro v X2 S2 ⟨rfl, rfl, rfl⟩
    refine g_aload_n C 1 dX1_isStrongerThan_15 rfl rfl ?_
    refine g_callV C [] [.int (sg S a)] (c_strength l E X S hb.1 hb.2.1 hb.2.2) (recv_at hb.1.1 (pF_1 hb.1.2)) rfl cm_X1_strength wv_X1_22 ds_X1_strength rfl rfl (Nat.le_of_ble_eq_true rfl) (by decide) (by decide) dX1_isStrongerThan_16 ?_
    rintro v X2 S2 ⟨rfl, rfl, rfl⟩
    refine g_icmp_le C 26 dX1_isStrongerThan_19 (by decide) (fun h19 => ?_) (fun h19 => ?_)
    · refine g_iconst C 0 dX1_isStrongerThan_26 (by decide) ?_
      exact g_iret C hQ rfl rfl dX1_isStrongerThan_27 (by decide) (by decide) ⟨sv (by rw [show stronger S a b = decide (sg S b < sg S a) from if_neg h8]; exact bI_f (dl_f h19)), rfl, rfl⟩
    · refine g_iconst C 1 dX1_isStrongerThan_22 (by decide) ?_
      refine g_goto C 27 dX1_isStrongerThan_23 (by decide) ?_
      exact g_iret C hQ rfl rfl dX1_isStrongerThan_27 (by decide) (by decide) ⟨sv (by rw [show stronger S a b = decide (sg S b < sg S a) from if_neg h8]; exact bI_t (dl_t h19)), rfl, rfl⟩
set_option maxRecDepth 100000 in
theorem c_isExcludedFrom (l : Launch) (E : Ev) (X : va_W) (S : HS) {a b : Nat} (ha : isK S 0 a) (hb : isK S 0 b) : Ctr l yX0_isExcludedFrom (Cond.code yX0_isExcludedFrom cX0_isExcludedFrom 2 (some .boolean)) 2 0 0 E [.ref a, .ref b] X S (Same (.int (bI (exB S a b))) X S) := by
  refine Ctr.ofG (by decide) [(0, .ref a), (1, .ref b)] rfl (Nat.le_of_ble_eq_true rfl) ?_
  intro p e s m args below meth c A Q C hQ
  refine g_aload_n C 0 dX0_isExcludedFrom_0 rfl rfl ?_
  refine g_get C 6 ha.1 (pF_0 ha.2) rfl (by decide) in_X0 lk_X0_21 rfl rfl dX0_isExcludedFrom_1 ?_
  refine g_aload_n C 1 dX0_isExcludedFrom_4 rfl rfl ?_
  refine g_callV C [] [.long (S.J 0 a)] (c_bit l E X S hb) (recv_at hb.1 (pF_0 hb.2)) rfl cm_X0_bit wv_X0_53 ds_X0_bit rfl rfl (Nat.le_of_ble_eq_true rfl) (by decide) (by decide) dX0_isExcludedFrom_5 ?_
  rintro v X2 S2 ⟨rfl, rfl, rfl⟩
  refine g_land C dX0_isExcludedFrom_8 ?_
  refine g_lconst C 0 dX0_isExcludedFrom_9 (by decide) ?_
  refine g_lcmp C dX0_isExcludedFrom_10 ?_
  refine g_if_eq C 18 dX0_isExcludedFrom_11 (by decide) (fun h11 => ?_) (fun h11 => ?_)
  · refine g_iconst C 0 dX0_isExcludedFrom_18 (by decide) ?_
    exact g_iret C hQ rfl rfl dX0_isExcludedFrom_19 (by decide) (by decide) ⟨sv (bI_f (decide_eq_false (fun q => q ((lg_cmp_eq _ _).mp h11)))), rfl, rfl⟩
  · refine g_iconst C 1 dX0_isExcludedFrom_14 (by decide) ?_
    refine g_goto C 19 dX0_isExcludedFrom_15 (by decide) ?_
    exact g_iret C hQ rfl rfl dX0_isExcludedFrom_19 (by decide) (by decide) ⟨sv (bI_t (decide_eq_true (fun q => h11 ((lg_cmp_eq _ _).mpr q)))), rfl, rfl⟩
set_option maxRecDepth 100000 in
theorem c_isLedToBy (l : Launch) (E : Ev) (X : va_W) (S : HS) {a b : Nat} (ha : isK S 0 a) (hb : isK S 0 b) : Ctr l yX0_isLedToBy (Cond.code yX0_isLedToBy cX0_isLedToBy 2 (some .boolean)) 2 0 0 E [.ref a, .ref b] X S (Same (.int (bI (ldB S a b))) X S) := by
  refine Ctr.ofG (by decide) [(0, .ref a), (1, .ref b)] rfl (Nat.le_of_ble_eq_true rfl) ?_
  intro p e s m args below meth c A Q C hQ
  refine g_aload_n C 0 dX0_isLedToBy_0 rfl rfl ?_
  refine g_get C 7 ha.1 (pF_0 ha.2) rfl (by decide) in_X0 lk_X0_25 rfl rfl dX0_isLedToBy_1 ?_
  refine g_aload_n C 1 dX0_isLedToBy_4 rfl rfl ?_
  refine g_callV C [] [.long (S.J 1 a)] (c_bit l E X S hb) (recv_at hb.1 (pF_0 hb.2)) rfl cm_X0_bit wv_X0_53 ds_X0_bit rfl rfl (Nat.le_of_ble_eq_true rfl) (by decide) (by decide) dX0_isLedToBy_5 ?_
  rintro v X2 S2 ⟨rfl, rfl, rfl⟩
  refine g_land C dX0_isLedToBy_8 ?_
  refine g_lconst C 0 dX0_isLedToBy_9 (by decide) ?_
  refine g_lcmp C dX0_isLedToBy_10 ?_
  refine g_if_eq C 18 dX0_isLedToBy_11 (by decide) (fun h11 => ?_) (fun h11 => ?_)
  · refine g_iconst C 0 dX0_isLedToBy_18 (by decide) ?_
    exact g_iret C hQ rfl rfl dX0_isLedToBy_19 (by decide) (by decide) ⟨sv (bI_f (decide_eq_false (fun q => q ((lg_cmp_eq _ _).mp h11)))), rfl, rfl⟩
  · refine g_iconst C 1 dX0_isLedToBy_14 (by decide) ?_
    refine g_goto C 19 dX0_isLedToBy_15 (by decide) ?_
    exact g_iret C hQ rfl rfl dX0_isLedToBy_19 (by decide) (by decide) ⟨sv (bI_t (decide_eq_true (fun q => h11 ((lg_cmp_eq _ _).mpr q)))), rfl, rfl⟩
set_option maxRecDepth 100000 in
theorem c_meets (l : Launch) (E : Ev) (X : va_W) (S : HS) {a b : Nat} (ha : isK S 0 a) (hb : isK S 0 b) : Ctr l yX0_meets (Cond.code yX0_meets cX0_meets 2 (some .boolean)) 1 0 0 E [.ref a, .ref b] X S (Same (.int (bI (meB S a b))) X S) := by
  refine Ctr.ofG (by decide) [(0, .ref a), (1, .ref b)] rfl (Nat.le_of_ble_eq_true rfl) ?_
  intro p e s m args below meth c A Q C hQ
  refine g_aload_n C 0 dX0_meets_0 rfl rfl ?_
  refine g_get C 8 ha.1 (pF_0 ha.2) rfl (by decide) in_X0 lk_X0_28 rfl rfl dX0_meets_1 ?_
  refine g_aload_n C 1 dX0_meets_4 rfl rfl ?_
  refine g_get C 9 hb.1 (pF_0 hb.2) rfl (by decide) in_X0 lk_X0_32 rfl rfl dX0_meets_5 ?_
  refine g_icmp_gt C 26 dX0_meets_8 (by decide) (fun h8 => ?_) (fun h8 => ?_)
  · refine g_iconst C 0 dX0_meets_26 (by decide) ?_
    exact g_iret C hQ rfl rfl dX0_meets_27 (by decide) (by decide) ⟨sv (bI_f (by unfold meB; first | (rw [decide_eq_false (Int32.not_le.mpr h8)]; rfl) | (rw [decide_eq_false (Int32.not_le.mpr h19), Bool.and_false]))), rfl, rfl⟩
  · refine g_aload_n C 1 dX0_meets_11 rfl rfl ?_
    refine g_get C 8 hb.1 (pF_0 hb.2) rfl (by decide) in_X0 lk_X0_28 rfl rfl dX0_meets_12 ?_
    refine g_aload_n C 0 dX0_meets_15 rfl rfl ?_
    refine g_get C 9 ha.1 (pF_0 ha.2) rfl (by decide) in_X0 lk_X0_32 rfl rfl dX0_meets_16 ?_
    refine g_icmp_gt C 26 dX0_meets_19 (by decide) (fun h19 => ?_) (fun h19 => ?_)
    · refine g_iconst C 0 dX0_meets_26 (by decide) ?_
      exact g_iret C hQ rfl rfl dX0_meets_27 (by decide) (by decide) ⟨sv (bI_f (by unfold meB; first | (rw [decide_eq_false (Int32.not_le.mpr h8)]; rfl) | (rw [decide_eq_false (Int32.not_le.mpr h19), Bool.and_false]))), rfl, rfl⟩
    · refine g_iconst C 1 dX0_meets_22 (by decide) ?_
      refine g_goto C 27 dX0_meets_23 (by decide) ?_
      exact g_iret C hQ rfl rfl dX0_meets_27 (by decide) (by decide) ⟨sv (bI_t (by unfold meB; rw [decide_eq_true (Int32.not_lt.mp h8), decide_eq_true (Int32.not_lt.mp h19)]; rfl)), rfl, rfl⟩
/-- Long.bitCount, step by step -/
def bc1 (x : Int64) : Int64 := x - ((x.toUInt64 >>> ((1 : Int32).toInt64.toUInt64 &&& Int64.toUInt64 63)).toInt64 &&& 6148914691236517205)
def bc2 (x : Int64) : Int64 := (x &&& 3689348814741910323) + ((x.toUInt64 >>> ((2 : Int32).toInt64.toUInt64 &&& Int64.toUInt64 63)).toInt64 &&& 3689348814741910323)
def bc3 (x : Int64) : Int64 := (x + (x.toUInt64 >>> ((4 : Int32).toInt64.toUInt64 &&& Int64.toUInt64 63)).toInt64) &&& 1085102592571150095
def bc4 (x : Int64) : Int64 := x + (x.toUInt64 >>> ((8 : Int32).toInt64.toUInt64 &&& Int64.toUInt64 63)).toInt64
def bc5 (x : Int64) : Int64 := x + (x.toUInt64 >>> ((16 : Int32).toInt64.toUInt64 &&& Int64.toUInt64 63)).toInt64
def bc6 (x : Int64) : Int64 := x + (x.toUInt64 >>> ((32 : Int32).toInt64.toUInt64 &&& Int64.toUInt64 63)).toInt64
def bcnt (x : Int64) : Int32 := (bc6 (bc5 (bc4 (bc3 (bc2 (bc1 x)))))).toInt32 &&& 127
set_option maxRecDepth 100000 in
theorem c_bitCount (l : Launch) (E : Ev) (X : va_W) (S : HS) (x : Int64) : Ctr l yJ13_bitCount_95d88 (Cond.code yJ13_bitCount_95d88 cJ13_bitCount_95d88 2 (some .int)) 1 0 0 E [.long x] X S (Same (.int (bcnt x)) X S) := by
  refine Ctr.ofG (by decide) [(0, .long x)] rfl (Nat.le_of_ble_eq_true rfl) ?_
  intro p e s m args below meth c A Q C hQ
  refine g_lload_n C 0 dJ13_bitCount_95d88_0 rfl rfl ?_
  refine g_lload_n C 0 dJ13_bitCount_95d88_1 rfl rfl ?_
  refine g_iconst C 1 dJ13_bitCount_95d88_2 (by decide) ?_
  refine g_lushr C _ dJ13_bitCount_95d88_3 rfl ?_
  refine g_ldc2 C kcl_J13_314 dJ13_bitCount_95d88_4 ?_
  refine g_land C dJ13_bitCount_95d88_7 ?_
  refine g_lsub C dJ13_bitCount_95d88_8 ?_
  refine g_nl (fun y1 ey1 => ?_)
  refine g_lstore_n C [(0, .long y1)] dJ13_bitCount_95d88_9 rfl (by decide) rfl ?_
  refine g_lload_n C 0 dJ13_bitCount_95d88_10 rfl rfl ?_
  refine g_ldc2 C kcl_J13_316 dJ13_bitCount_95d88_11 ?_
  refine g_land C dJ13_bitCount_95d88_14 ?_
  refine g_lload_n C 0 dJ13_bitCount_95d88_15 rfl rfl ?_
  refine g_iconst C 2 dJ13_bitCount_95d88_16 (by decide) ?_
  refine g_lushr C _ dJ13_bitCount_95d88_17 rfl ?_
  refine g_ldc2 C kcl_J13_316 dJ13_bitCount_95d88_18 ?_
  refine g_land C dJ13_bitCount_95d88_21 ?_
  refine g_ladd C dJ13_bitCount_95d88_22 ?_
  refine g_nl (fun y2 ey2 => ?_)
  refine g_lstore_n C [(0, .long y2)] dJ13_bitCount_95d88_23 rfl (by decide) rfl ?_
  refine g_lload_n C 0 dJ13_bitCount_95d88_24 rfl rfl ?_
  refine g_lload_n C 0 dJ13_bitCount_95d88_25 rfl rfl ?_
  refine g_iconst C 4 dJ13_bitCount_95d88_26 (by decide) ?_
  refine g_lushr C _ dJ13_bitCount_95d88_27 rfl ?_
  refine g_ladd C dJ13_bitCount_95d88_28 ?_
  refine g_ldc2 C kcl_J13_318 dJ13_bitCount_95d88_29 ?_
  refine g_land C dJ13_bitCount_95d88_32 ?_
  refine g_nl (fun y3 ey3 => ?_)
  refine g_lstore_n C [(0, .long y3)] dJ13_bitCount_95d88_33 rfl (by decide) rfl ?_
  refine g_lload_n C 0 dJ13_bitCount_95d88_34 rfl rfl ?_
  refine g_lload_n C 0 dJ13_bitCount_95d88_35 rfl rfl ?_
  refine g_bipush C 8 dJ13_bitCount_95d88_36 (by decide) ?_
  refine g_lushr C _ dJ13_bitCount_95d88_38 rfl ?_
  refine g_ladd C dJ13_bitCount_95d88_39 ?_
  refine g_nl (fun y4 ey4 => ?_)
  refine g_lstore_n C [(0, .long y4)] dJ13_bitCount_95d88_40 rfl (by decide) rfl ?_
  refine g_lload_n C 0 dJ13_bitCount_95d88_41 rfl rfl ?_
  refine g_lload_n C 0 dJ13_bitCount_95d88_42 rfl rfl ?_
  refine g_bipush C 16 dJ13_bitCount_95d88_43 (by decide) ?_
  refine g_lushr C _ dJ13_bitCount_95d88_45 rfl ?_
  refine g_ladd C dJ13_bitCount_95d88_46 ?_
  refine g_nl (fun y5 ey5 => ?_)
  refine g_lstore_n C [(0, .long y5)] dJ13_bitCount_95d88_47 rfl (by decide) rfl ?_
  refine g_lload_n C 0 dJ13_bitCount_95d88_48 rfl rfl ?_
  refine g_lload_n C 0 dJ13_bitCount_95d88_49 rfl rfl ?_
  refine g_bipush C 32 dJ13_bitCount_95d88_50 (by decide) ?_
  refine g_lushr C _ dJ13_bitCount_95d88_52 rfl ?_
  refine g_ladd C dJ13_bitCount_95d88_53 ?_
  refine g_nl (fun y6 ey6 => ?_)
  refine g_lstore_n C [(0, .long y6)] dJ13_bitCount_95d88_54 rfl (by decide) rfl ?_
  refine g_lload_n C 0 dJ13_bitCount_95d88_55 rfl rfl ?_
  refine g_l2i C _ dJ13_bitCount_95d88_56 rfl ?_
  refine g_bipush C 127 dJ13_bitCount_95d88_57 (by decide) ?_
  refine g_iand C dJ13_bitCount_95d88_59 ?_
  exact g_iret C hQ rfl rfl dJ13_bitCount_95d88_60 (by decide) (by decide) ⟨by subst ey6 ey5 ey4 ey3 ey2 ey1; rfl, rfl, rfl⟩
set_option maxRecDepth 100000 in
theorem c_leaderCount (l : Launch) (E : Ev) (X : va_W) (S : HS) {a : Nat} (ha : isK S 0 a) : Ctr l yX0_leaderCount (Cond.code yX0_leaderCount cX0_leaderCount 1 (some .int)) 2 0 0 E [.ref a] X S (Same (.int (bcnt (S.J 1 a))) X S) := by
  refine Ctr.ofG (by decide) [(0, .ref a)] rfl (Nat.le_of_ble_eq_true rfl) ?_
  intro p e s m args below meth c A Q C hQ
  refine g_aload_n C 0 dX0_leaderCount_0 rfl rfl ?_
  refine g_get C 7 ha.1 (pF_0 ha.2) rfl (by decide) in_X0 lk_X0_25 rfl rfl dX0_leaderCount_1 ?_
  refine g_callS C [.long (S.J 1 a)] [] (c_bitCount l E X S (S.J 1 a)) cm_J13_bitCount_95d88 wst_X0_57 dt_J13_bitCount_95d88 rfl rfl (Nat.le_of_ble_eq_true rfl) (by decide) (by decide) dX0_leaderCount_4 ?_
  rintro v X2 S2 ⟨rfl, rfl, rfl⟩
  exact g_iret C hQ rfl rfl dX0_leaderCount_7 (by decide) (by decide) ⟨rfl, rfl, rfl⟩
