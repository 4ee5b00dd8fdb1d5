/-! fractions -/
def gcdL : Nat → Int64 → Int64 → Int64
  | 0, g, _ => g
  | n + 1, g, d => if d = 0 then g else gcdL n d (g - g / d * d)
theorem gcdL_0 (n : Nat) (g : Int64) : gcdL n g 0 = g := by
  cases n with
  | zero => rfl
  | succ n => rw [gcdL, if_pos rfl]
def absL (x : Int64) : Int64 := if 0 < x then x else -x
def divi (a b : Int64) : Int64 := gcdL 100 (absL a) (absL b)
def becA (a b : Int64) : Int64 := if b = 0 then 0 else if divi a b = 0 then 0 else (if 0 ≤ b then 1 else -1) * (a / divi a b)
def becB (a b : Int64) : Int64 := if b = 0 then 1 else if divi a b = 0 then 1 else (if 0 ≤ b then 1 else -1) * (b / divi a b)
set_option maxHeartbeats 4000000 in
set_option maxRecDepth 100000 in
theorem c_X3_commonDivisor (l : Launch) (D : va_G) (cI cJ cZ : ClassId) (g0 : Int64) (d0 : Int64) : CtL l D cI cJ cZ yX3_commonDivisor cX3_commonDivisor 11 (some .long) 0 [.long g0, .long d0] [] (fun (_ : Unit) => gcdL 100 g0 d0) (fun (_ : Unit) => True) (fun (_ : Unit) => []) := by
  refine q_entL (own := RX3) rfl rfl (Nat.le_of_ble_eq_true rfl) ?_
  intro p e s m args below meth c A ls QQ hQ hE hx hb hr hk hin hA hl hst
  have hl : lv_has ls 11 [(0, .long g0), (2, .long d0)] := hl
  have loop_9 : ∀ (n : Nat) (k : Nat) (g : Int64) (d : Int64), (k ≤ 100) → (gcdL 100 g0 d0 = gcdL (100 - k) g d) → (100 - k) < n → ∀ (H : Heap) (locs : List Loc) (ls : Array Slot), SS D A s [] H locs → lv_has ls 11 [(8, .int (nI k)), (4, .long g), (6, .long d)] → W p l e (rmN 0 0 0) s m args below meth c H locs 0 0 QQ (F0 m 9 ls []) := by
    intro n
    induction n with
    | zero =>
      intro k g d h1 h2 hn
      exact absurd hn (Nat.not_lt_zero _)
    | succ n ih =>
      intro k g d h1 h2 hn H locs ls hst hl
      refine lv_iload hx hb dX3_commonDivisor_9 (lv_at hl 0 rfl) ?_
      refine lv_bipush (v := 100) hx hb dX3_commonDivisor_11 (by decide) ?_
      refine lv_icmp_ge (tgt := 44) hx hb dX3_commonDivisor_13 (by decide) (fun c_13 => ?_) (fun c_13 => ?_)
      · skip
        have hk1 : 100 ≤ k := Nat.le_of_not_lt (fun z => nI_ge z (by decide) c_13)
        refine lv_lload hx hb dX3_commonDivisor_44 (lv_at hl 1 rfl) ?_
        exact q_retL hQ hE hr hk hst () (by rw [h2, show 100 - k = 0 by omega, gcdL]) (trivial) (rfl) dX3_commonDivisor_46
      · skip
        have hk1 : k < 100 := Nat.lt_of_not_le (fun z => c_13 (nI_le z (by omega)))
        refine lv_lload hx hb dX3_commonDivisor_16 (lv_at hl 2 rfl) ?_
        refine lv_lconst (v := 0) hx hb dX3_commonDivisor_18 (by decide) ?_
        refine W.lcmp hx hb dX3_commonDivisor_19 ?_
        refine lv_if_eq (tgt := 44) hx hb dX3_commonDivisor_20 (by decide) (fun c_20 => ?_) (fun c_20 => ?_)
        · skip
          have c_20 := lc_eq.mp c_20
          refine lv_lload hx hb dX3_commonDivisor_44 (lv_at hl 1 rfl) ?_
          exact q_retL hQ hE hr hk hst () (by rw [h2, c_20, gcdL_0]) (trivial) (rfl) dX3_commonDivisor_46
        · skip
          have c_20 := (not_congr lc_eq).mp c_20
          refine lv_lload hx hb dX3_commonDivisor_23 (lv_at hl 1 rfl) ?_
          refine lv_lload hx hb dX3_commonDivisor_25 (lv_at hl 2 rfl) ?_
          refine lv_lrem hx hb dX3_commonDivisor_27 (c_20) ?_
          refine lv_lstore (lv' := [(9, .long (g - g / d * d)), (8, .int (nI k)), (4, .long g), (6, .long d)]) hx hb dX3_commonDivisor_28 hl (by decide) rfl (fun ls hl => ?_)
          refine lv_lload hx hb dX3_commonDivisor_30 (lv_at hl 3 rfl) ?_
          refine lv_lstore (lv' := [(4, .long d), (9, .long (g - g / d * d)), (8, .int (nI k)), (6, .long d)]) hx hb dX3_commonDivisor_32 hl (by decide) rfl (fun ls hl => ?_)
          refine lv_lload hx hb dX3_commonDivisor_34 (lv_at hl 1 rfl) ?_
          refine lv_lstore (lv' := [(6, .long (g - g / d * d)), (4, .long d), (9, .long (g - g / d * d)), (8, .int (nI k))]) hx hb dX3_commonDivisor_36 hl (by decide) rfl (fun ls hl => ?_)
          refine lv_iinc (v := nI (k + 1)) (lv' := [(8, .int (nI (k + 1))), (6, .long (g - g / d * d)), (4, .long d), (9, .long (g - g / d * d))]) hx hb dX3_commonDivisor_38 hl (k := 3) rfl (nI_next _) (by decide) rfl (fun ls hl => ?_)
          refine lv_goto (tgt := 9) hx hb dX3_commonDivisor_41 (by decide) ?_
          exact ih (k + 1) d (g - g / d * d) (by omega) (by rw [h2, show 100 - k = (100 - (k + 1)) + 1 by omega, gcdL, if_neg c_20]) (by omega) _ _ _ (hst) (lv_sub hl [0, 2, 1] rfl)
  refine lv_lload_n hx hb dX3_commonDivisor_0 rfl (lv_at hl 0 rfl) ?_
  refine lv_lstore (lv' := [(4, .long g0), (0, .long g0), (2, .long d0)]) hx hb dX3_commonDivisor_1 hl (by decide) rfl (fun ls hl => ?_)
  refine lv_lload_n hx hb dX3_commonDivisor_3 rfl (lv_at hl 2 rfl) ?_
  refine lv_lstore (lv' := [(6, .long d0), (4, .long g0), (0, .long g0), (2, .long d0)]) hx hb dX3_commonDivisor_4 hl (by decide) rfl (fun ls hl => ?_)
  refine lv_iconst (v := 0) hx hb dX3_commonDivisor_6 (by decide) ?_
  refine lv_istore (lv' := [(8, .int 0), (6, .long d0), (4, .long g0), (0, .long g0), (2, .long d0)]) hx hb dX3_commonDivisor_7 hl (by decide) rfl (fun ls hl => ?_)
  exact loop_9 (101) 0 g0 d0 (by decide) (rfl) (by decide) _ _ _ (hst) (lv_sub hl [0, 2, 1] rfl)
set_option maxHeartbeats 4000000 in
set_option maxRecDepth 100000 in
theorem c_X3_become (l : Launch) (D : va_G) (cI cJ cZ : ClassId) (r : Nat) (ra : Int64) (rb : Int64) (a0 : Int64) (b0 : Int64) : CtV l D cI cJ cZ yX3_become cX3_become 9 none 1 0 0 [.ref r, .long a0, .long b0] [(r, .inr (3, [.long ra, .long rb]))] (fun (_ : Unit) => True) (fun (_ : Unit) => [(r, .inr (3, [.long (becA a0 b0), .long (becB a0 b0)]))]) := by
  refine q_entV (own := RX3) rfl rfl (Nat.le_of_ble_eq_true rfl) ?_
  intro p e s m args below meth c A ls QQ hQ hE hx hb hr hk hin hA hl hst
  have hl : lv_has ls 9 [(0, .ref r), (1, .long a0), (3, .long b0)] := hl
  refine lv_lload_n hx hb dX3_become_0 rfl (lv_at hl 1 rfl) ?_
  refine q_abs hE wk_2_144 hl.1 (Nat.le_of_ble_eq_true rfl) (Nat.le_of_ble_eq_true rfl) (Nat.le_of_ble_eq_true rfl) (Nat.le_of_ble_eq_true rfl) dX3_become_1 ?_
  refine lv_lload_n hx hb dX3_become_4 rfl (lv_at hl 2 rfl) ?_
  refine q_abs hE wk_2_144 hl.1 (Nat.le_of_ble_eq_true rfl) (Nat.le_of_ble_eq_true rfl) (Nat.le_of_ble_eq_true rfl) (Nat.le_of_ble_eq_true rfl) dX3_become_5 ?_
  refine q_goL (q_rS hE lk_X3_22 (c_X3_commonDivisor l D cI cJ cZ (if 0 < a0 then a0 else -a0) (if 0 < b0 then b0 else -b0) s.heap.size) hst [] rfl rfl rfl hl.1 ⟨(Nat.le_of_ble_eq_true rfl), (Nat.le_of_ble_eq_true rfl)⟩ (rest := []) rfl (Nat.le_of_ble_eq_true rfl) dX3_become_8 ⟨(Nat.le_of_ble_eq_true rfl), (Nat.le_of_ble_eq_true rfl)⟩) hE hst [] rfl (fun _ => rfl) (fun (_ : Unit) => [(r, .inr (3, [.long ra, .long rb]))]) (fun _ => rfl) (fun _ H locs hF hst => ?_)
  refine lv_lstore (lv' := [(5, .long (divi a0 b0)), (0, .ref r), (1, .long a0), (3, .long b0)]) hx hb dX3_become_11 hl (by decide) rfl (fun ls hl => ?_)
  refine lv_lload_n hx hb dX3_become_13 rfl (lv_at hl 3 rfl) ?_
  refine lv_lconst (v := 0) hx hb dX3_become_14 (by decide) ?_
  refine W.lcmp hx hb dX3_become_15 ?_
  refine lv_if_eq (tgt := 26) hx hb dX3_become_16 (by decide) (fun c_16 => ?_) (fun c_16 => ?_)
  · skip
    have c_16 := lc_eq.mp c_16
    refine lv_aload_n hx hb dX3_become_26 rfl (lv_at hl 1 rfl) ?_
    refine lv_lconst (v := 0) hx hb dX3_become_27 (by decide) ?_
    refine pf_X3_7 hE hst 0 rfl (rfl) (rfl) (Nat.le_of_ble_eq_true rfl) [(r, .inr (3, [.long 0, .long rb]))] rfl dX3_become_28 (fun H locs hst => ?_)
    refine lv_aload_n hx hb dX3_become_31 rfl (lv_at hl 1 rfl) ?_
    refine lv_lconst (v := 1) hx hb dX3_become_32 (by decide) ?_
    refine pf_X3_13 hE hst 0 rfl (rfl) (rfl) (Nat.le_of_ble_eq_true rfl) [(r, .inr (3, [.long 0, .long 1]))] rfl dX3_become_33 (fun H locs hst => ?_)
    exact q_retV hQ hE hr hk hst () (trivial) (by rw [becA, becB, if_pos c_16, if_pos c_16]) dX3_become_36
  · skip
    have c_16 := (not_congr lc_eq).mp c_16
    refine lv_lload hx hb dX3_become_19 (lv_at hl 0 rfl) ?_
    refine lv_lconst (v := 0) hx hb dX3_become_21 (by decide) ?_
    refine W.lcmp hx hb dX3_become_22 ?_
    refine lv_if_ne (tgt := 37) hx hb dX3_become_23 (by decide) (fun c_23 => ?_) (fun c_23 => ?_)
    · skip
      have c_23 := (not_congr lc_eq).mp c_23
      refine lv_lload_n hx hb dX3_become_37 rfl (lv_at hl 3 rfl) ?_
      refine lv_lconst (v := 0) hx hb dX3_become_38 (by decide) ?_
      refine W.lcmp hx hb dX3_become_39 ?_
      refine lv_if_ge (tgt := 49) hx hb dX3_become_40 (by decide) (fun c_40 => ?_) (fun c_40 => ?_)
      · skip
        have c_40 := lc_ge.mp c_40
        refine lv_lconst (v := 1) hx hb dX3_become_49 (by decide) ?_
        refine q_topL (x' := if 0 ≤ b0 then 1 else -1) (by rw [if_pos c_40]) ?_
        refine lv_lstore (lv' := [(7, .long (if 0 ≤ b0 then 1 else -1)), (5, .long (divi a0 b0)), (0, .ref r), (1, .long a0), (3, .long b0)]) hx hb dX3_become_50 hl (by decide) rfl (fun ls hl => ?_)
        refine lv_aload_n hx hb dX3_become_52 rfl (lv_at hl 2 rfl) ?_
        refine lv_lload hx hb dX3_become_53 (lv_at hl 0 rfl) ?_
        refine lv_lload_n hx hb dX3_become_55 rfl (lv_at hl 3 rfl) ?_
        refine lv_lload hx hb dX3_become_56 (lv_at hl 1 rfl) ?_
        refine lv_ldiv hx hb dX3_become_58 (c_23) ?_
        refine lv_lmul hx hb dX3_become_59 ?_
        refine pf_X3_7 hE hst 0 rfl (rfl) (rfl) (Nat.le_of_ble_eq_true rfl) [(r, .inr (3, [.long ((if 0 ≤ b0 then 1 else -1) * (a0 / (divi a0 b0))), .long rb]))] rfl dX3_become_60 (fun H locs hst => ?_)
        refine lv_aload_n hx hb dX3_become_63 rfl (lv_at hl 2 rfl) ?_
        refine lv_lload hx hb dX3_become_64 (lv_at hl 0 rfl) ?_
        refine lv_lload_n hx hb dX3_become_66 rfl (lv_at hl 4 rfl) ?_
        refine lv_lload hx hb dX3_become_67 (lv_at hl 1 rfl) ?_
        refine lv_ldiv hx hb dX3_become_69 (c_23) ?_
        refine lv_lmul hx hb dX3_become_70 ?_
        refine pf_X3_13 hE hst 0 rfl (rfl) (rfl) (Nat.le_of_ble_eq_true rfl) [(r, .inr (3, [.long ((if 0 ≤ b0 then 1 else -1) * (a0 / (divi a0 b0))), .long ((if 0 ≤ b0 then 1 else -1) * (b0 / (divi a0 b0)))]))] rfl dX3_become_71 (fun H locs hst => ?_)
        exact q_retV hQ hE hr hk hst () (trivial) (by rw [becA, becB, if_neg c_16, if_neg c_16, if_neg c_23, if_neg c_23]) dX3_become_74
      · skip
        have c_40 := (not_congr lc_ge).mp c_40
        refine q_ldc2 hE wk_2_150 dX3_become_43 ?_
        refine lv_goto (tgt := 50) hx hb dX3_become_46 (by decide) ?_
        refine q_topL (x' := if 0 ≤ b0 then 1 else -1) (by rw [if_neg c_40]) ?_
        refine lv_lstore (lv' := [(7, .long (if 0 ≤ b0 then 1 else -1)), (5, .long (divi a0 b0)), (0, .ref r), (1, .long a0), (3, .long b0)]) hx hb dX3_become_50 hl (by decide) rfl (fun ls hl => ?_)
        refine lv_aload_n hx hb dX3_become_52 rfl (lv_at hl 2 rfl) ?_
        refine lv_lload hx hb dX3_become_53 (lv_at hl 0 rfl) ?_
        refine lv_lload_n hx hb dX3_become_55 rfl (lv_at hl 3 rfl) ?_
        refine lv_lload hx hb dX3_become_56 (lv_at hl 1 rfl) ?_
        refine lv_ldiv hx hb dX3_become_58 (c_23) ?_
        refine lv_lmul hx hb dX3_become_59 ?_
        refine pf_X3_7 hE hst 0 rfl (rfl) (rfl) (Nat.le_of_ble_eq_true rfl) [(r, .inr (3, [.long ((if 0 ≤ b0 then 1 else -1) * (a0 / (divi a0 b0))), .long rb]))] rfl dX3_become_60 (fun H locs hst => ?_)
        refine lv_aload_n hx hb dX3_become_63 rfl (lv_at hl 2 rfl) ?_
        refine lv_lload hx hb dX3_become_64 (lv_at hl 0 rfl) ?_
        refine lv_lload_n hx hb dX3_become_66 rfl (lv_at hl 4 rfl) ?_
        refine lv_lload hx hb dX3_become_67 (lv_at hl 1 rfl) ?_
        refine lv_ldiv hx hb dX3_become_69 (c_23) ?_
        refine lv_lmul hx hb dX3_become_70 ?_
        refine pf_X3_13 hE hst 0 rfl (rfl) (rfl) (Nat.le_of_ble_eq_true rfl) [(r, .inr (3, [.long ((if 0 ≤ b0 then 1 else -1) * (a0 / (divi a0 b0))), .long ((if 0 ≤ b0 then 1 else -1) * (b0 / (divi a0 b0)))]))] rfl dX3_become_71 (fun H locs hst => ?_)
        exact q_retV hQ hE hr hk hst () (trivial) (by rw [becA, becB, if_neg c_16, if_neg c_16, if_neg c_23, if_neg c_23]) dX3_become_74
    · skip
      have c_23 := lc_eq.mp c_23
      refine lv_aload_n hx hb dX3_become_26 rfl (lv_at hl 1 rfl) ?_
      refine lv_lconst (v := 0) hx hb dX3_become_27 (by decide) ?_
      refine pf_X3_7 hE hst 0 rfl (rfl) (rfl) (Nat.le_of_ble_eq_true rfl) [(r, .inr (3, [.long 0, .long rb]))] rfl dX3_become_28 (fun H locs hst => ?_)
      refine lv_aload_n hx hb dX3_become_31 rfl (lv_at hl 1 rfl) ?_
      refine lv_lconst (v := 1) hx hb dX3_become_32 (by decide) ?_
      refine pf_X3_13 hE hst 0 rfl (rfl) (rfl) (Nat.le_of_ble_eq_true rfl) [(r, .inr (3, [.long 0, .long 1]))] rfl dX3_become_33 (fun H locs hst => ?_)
      exact q_retV hQ hE hr hk hst () (trivial) (by rw [becA, becB, if_neg c_16, if_neg c_16, if_pos c_23, if_pos c_23]) dX3_become_36
set_option maxHeartbeats 4000000 in
set_option maxRecDepth 100000 in
theorem c_X3_partAt (l : Launch) (D : va_G) (cI cJ cZ : ClassId) (r : Nat) (ra : Int64) (rb : Int64) (p0 : Int32) : CtL l D cI cJ cZ yX3_partAt cX3_partAt 2 (some .long) 0 [.ref r, .int p0] [(r, .inr (3, [.long ra, .long rb]))] (fun (_ : Unit) => if p0 = 0 then ra else rb) (fun (_ : Unit) => True) (fun (_ : Unit) => [(r, .inr (3, [.long ra, .long rb]))]) := by
  refine q_entL (own := RX3) rfl rfl (Nat.le_of_ble_eq_true rfl) ?_
  intro p e s m args below meth c A ls QQ hQ hE hx hb hr hk hin hA hl hst
  have hl : lv_has ls 2 [(0, .ref r), (1, .int p0)] := hl
  refine lv_iload_n hx hb dX3_partAt_0 rfl (lv_at hl 1 rfl) ?_
  refine lv_if_ne (tgt := 11) hx hb dX3_partAt_1 (by decide) (fun c_1 => ?_) (fun c_1 => ?_)
  · skip
    refine lv_aload_n hx hb dX3_partAt_11 rfl (lv_at hl 0 rfl) ?_
    refine gf_X3_13 hE hst 0 rfl rfl dX3_partAt_12 ?_
    exact q_retL hQ hE hr hk hst () (by rw [if_neg c_1]) (trivial) (rfl) dX3_partAt_15
  · skip
    refine lv_aload_n hx hb dX3_partAt_4 rfl (lv_at hl 0 rfl) ?_
    refine gf_X3_7 hE hst 0 rfl rfl dX3_partAt_5 ?_
    refine lv_goto (tgt := 15) hx hb dX3_partAt_8 (by decide) ?_
    exact q_retL hQ hE hr hk hst () (by rw [if_pos c_1]) (trivial) (rfl) dX3_partAt_15
set_option maxHeartbeats 4000000 in
set_option maxRecDepth 100000 in
theorem c_X3_isWithin (l : Launch) (D : va_G) (cI cJ cZ : ClassId) (r : Nat) (ra : Int64) (rb : Int64) (p0 : Int64) : CtI l D cI cJ cZ yX3_isWithin cX3_isWithin 3 (some .boolean) 1 [.ref r, .long p0] [(r, .inr (3, [.long ra, .long rb]))] (fun (_ : Unit) => b2i (decide (absL ra ≤ p0 * rb))) (fun (_ : Unit) => True) (fun (_ : Unit) => [(r, .inr (3, [.long ra, .long rb]))]) := by
  refine q_entI (own := RX3) rfl rfl (Nat.le_of_ble_eq_true rfl) ?_
  intro p e s m args below meth c A ls QQ hQ hE hx hb hr hk hin hA hl hst
  have hl : lv_has ls 3 [(0, .ref r), (1, .long p0)] := hl
  refine lv_aload_n hx hb dX3_isWithin_0 rfl (lv_at hl 0 rfl) ?_
  refine gf_X3_7 hE hst 0 rfl rfl dX3_isWithin_1 ?_
  refine q_abs hE wk_2_144 hl.1 (Nat.le_of_ble_eq_true rfl) (Nat.le_of_ble_eq_true rfl) (Nat.le_of_ble_eq_true rfl) (Nat.le_of_ble_eq_true rfl) dX3_isWithin_4 ?_
  refine lv_lload_n hx hb dX3_isWithin_7 rfl (lv_at hl 1 rfl) ?_
  refine lv_aload_n hx hb dX3_isWithin_8 rfl (lv_at hl 0 rfl) ?_
  refine gf_X3_13 hE hst 0 rfl rfl dX3_isWithin_9 ?_
  refine lv_lmul hx hb dX3_isWithin_12 ?_
  refine W.lcmp hx hb dX3_isWithin_13 ?_
  refine lv_if_gt (tgt := 21) hx hb dX3_isWithin_14 (by decide) (fun c_14 => ?_) (fun c_14 => ?_)
  · skip
    have c_14 := lc_gt.mp c_14
    refine lv_iconst (v := 0) hx hb dX3_isWithin_21 (by decide) ?_
    exact q_retZ hQ hE hr hk hst () (rfl) (by unfold absL; rw [decide_eq_false (Int64.not_le.mpr c_14)]; rfl) (trivial) (rfl) dX3_isWithin_22
  · skip
    have c_14 := (not_congr lc_gt).mp c_14
    refine lv_iconst (v := 1) hx hb dX3_isWithin_17 (by decide) ?_
    refine lv_goto (tgt := 22) hx hb dX3_isWithin_18 (by decide) ?_
    exact q_retZ hQ hE hr hk hst () (rfl) (by unfold absL; rw [decide_eq_true (Int64.not_lt.mp c_14)]; rfl) (trivial) (rfl) dX3_isWithin_22
/-! sums over two sides -/
def gapB (cm om : Int32) : Bool := !decide (cm = 0) && !decide (om = 0)
def gapN (cs os : Int64) (cm om : Int32) : Int64 := cs * om.toInt64 - os * cm.toInt64
def gapD (cm om : Int32) : Int64 := cm.toInt64 * om.toInt64
set_option maxHeartbeats 4000000 in
set_option maxRecDepth 100000 in
theorem c_X4_clear (l : Launch) (D : va_G) (cI cJ cZ : ClassId) (h : Nat) (cs : Int64) (os : Int64) (cm : Int32) (om : Int32) : CtV l D cI cJ cZ yX4_clear cX4_clear 1 none 0 0 0 [.ref h] [(h, .inr (4, [.long cs, .long os, .int cm, .int om]))] (fun (_ : Unit) => True) (fun (_ : Unit) => [(h, .inr (4, [.long 0, .long 0, .int 0, .int 0]))]) := by
  refine q_entV (own := RX4) rfl rfl (Nat.le_of_ble_eq_true rfl) ?_
  intro p e s m args below meth c A ls QQ hQ hE hx hb hr hk hin hA hl hst
  have hl : lv_has ls 1 [(0, .ref h)] := hl
  refine lv_aload_n hx hb dX4_clear_0 rfl (lv_at hl 0 rfl) ?_
  refine lv_lconst (v := 0) hx hb dX4_clear_1 (by decide) ?_
  refine pf_X4_7 hE hst 0 rfl (rfl) (rfl) (Nat.le_of_ble_eq_true rfl) [(h, .inr (4, [.long 0, .long os, .int cm, .int om]))] rfl dX4_clear_2 (fun H locs hst => ?_)
  refine lv_aload_n hx hb dX4_clear_5 rfl (lv_at hl 0 rfl) ?_
  refine lv_lconst (v := 0) hx hb dX4_clear_6 (by decide) ?_
  refine pf_X4_13 hE hst 0 rfl (rfl) (rfl) (Nat.le_of_ble_eq_true rfl) [(h, .inr (4, [.long 0, .long 0, .int cm, .int om]))] rfl dX4_clear_7 (fun H locs hst => ?_)
  refine lv_aload_n hx hb dX4_clear_10 rfl (lv_at hl 0 rfl) ?_
  refine lv_iconst (v := 0) hx hb dX4_clear_11 (by decide) ?_
  refine pf_X4_16 hE hst 0 rfl (rfl) (rfl) (Nat.le_of_ble_eq_true rfl) [(h, .inr (4, [.long 0, .long 0, .int 0, .int om]))] rfl dX4_clear_12 (fun H locs hst => ?_)
  refine lv_aload_n hx hb dX4_clear_15 rfl (lv_at hl 0 rfl) ?_
  refine lv_iconst (v := 0) hx hb dX4_clear_16 (by decide) ?_
  refine pf_X4_20 hE hst 0 rfl (rfl) (rfl) (Nat.le_of_ble_eq_true rfl) [(h, .inr (4, [.long 0, .long 0, .int 0, .int 0]))] rfl dX4_clear_17 (fun H locs hst => ?_)
  exact q_retV hQ hE hr hk hst () (trivial) (rfl) dX4_clear_20
set_option maxHeartbeats 4000000 in
set_option maxRecDepth 100000 in
theorem c_X4_enter (l : Launch) (D : va_G) (cI cJ cZ : ClassId) (h : Nat) (cs : Int64) (os : Int64) (v0 : Int64) (cm : Int32) (om : Int32) (b0 : Bool) : CtV l D cI cJ cZ yX4_enter cX4_enter 4 none 0 0 0 [.ref h, .int (b2i b0), .long v0] [(h, .inr (4, [.long cs, .long os, .int cm, .int om]))] (fun (_ : Unit) => True) (fun (_ : Unit) => [(h, .inr (4, [.long (if b0 = true then cs + v0 else cs), .long (if b0 = true then os else os + v0), .int (if b0 = true then cm + 1 else cm), .int (if b0 = true then om else om + 1)]))]) := by
  refine q_entV (own := RX4) rfl rfl (Nat.le_of_ble_eq_true rfl) ?_
  intro p e s m args below meth c A ls QQ hQ hE hx hb hr hk hin hA hl hst
  have hl : lv_has ls 4 [(0, .ref h), (1, .int (b2i b0)), (2, .long v0)] := hl
  refine lv_iload_n hx hb dX4_enter_0 rfl (lv_at hl 1 rfl) ?_
  refine lv_if_eq (tgt := 27) hx hb dX4_enter_1 (by decide) (fun c_1 => ?_) (fun c_1 => ?_)
  · skip
    have c_1 := b2i_f c_1
    refine lv_aload_n hx hb dX4_enter_27 rfl (lv_at hl 0 rfl) ?_
    refine lv_dup hx hb dX4_enter_28 rfl ?_
    refine gf_X4_13 hE hst 0 rfl rfl dX4_enter_29 ?_
    refine lv_lload_n hx hb dX4_enter_32 rfl (lv_at hl 2 rfl) ?_
    refine lv_ladd hx hb dX4_enter_33 ?_
    refine pf_X4_13 hE hst 0 rfl (rfl) (rfl) (Nat.le_of_ble_eq_true rfl) [(h, .inr (4, [.long cs, .long (os + v0), .int cm, .int om]))] rfl dX4_enter_34 (fun H locs hst => ?_)
    refine lv_aload_n hx hb dX4_enter_37 rfl (lv_at hl 0 rfl) ?_
    refine lv_dup hx hb dX4_enter_38 rfl ?_
    refine gf_X4_20 hE hst 0 rfl rfl dX4_enter_39 ?_
    refine lv_iconst (v := 1) hx hb dX4_enter_42 (by decide) ?_
    refine lv_iadd hx hb dX4_enter_43 ?_
    refine pf_X4_20 hE hst 0 rfl (rfl) (rfl) (Nat.le_of_ble_eq_true rfl) [(h, .inr (4, [.long cs, .long (os + v0), .int cm, .int (om + 1)]))] rfl dX4_enter_44 (fun H locs hst => ?_)
    exact q_retV hQ hE hr hk hst () (trivial) (by simp [c_1]) dX4_enter_47
  · skip
    have c_1 := b2i_t c_1
    refine lv_aload_n hx hb dX4_enter_4 rfl (lv_at hl 0 rfl) ?_
    refine lv_dup hx hb dX4_enter_5 rfl ?_
    refine gf_X4_7 hE hst 0 rfl rfl dX4_enter_6 ?_
    refine lv_lload_n hx hb dX4_enter_9 rfl (lv_at hl 2 rfl) ?_
    refine lv_ladd hx hb dX4_enter_10 ?_
    refine pf_X4_7 hE hst 0 rfl (rfl) (rfl) (Nat.le_of_ble_eq_true rfl) [(h, .inr (4, [.long (cs + v0), .long os, .int cm, .int om]))] rfl dX4_enter_11 (fun H locs hst => ?_)
    refine lv_aload_n hx hb dX4_enter_14 rfl (lv_at hl 0 rfl) ?_
    refine lv_dup hx hb dX4_enter_15 rfl ?_
    refine gf_X4_16 hE hst 0 rfl rfl dX4_enter_16 ?_
    refine lv_iconst (v := 1) hx hb dX4_enter_19 (by decide) ?_
    refine lv_iadd hx hb dX4_enter_20 ?_
    refine pf_X4_16 hE hst 0 rfl (rfl) (rfl) (Nat.le_of_ble_eq_true rfl) [(h, .inr (4, [.long (cs + v0), .long os, .int (cm + 1), .int om]))] rfl dX4_enter_21 (fun H locs hst => ?_)
    refine lv_goto (tgt := 47) hx hb dX4_enter_24 (by decide) ?_
    exact q_retV hQ hE hr hk hst () (trivial) (by simp [c_1]) dX4_enter_47
set_option maxHeartbeats 4000000 in
set_option maxRecDepth 100000 in
theorem c_X4_findGap (l : Launch) (D : va_G) (cI cJ cZ : ClassId) (h : Nat) (r : Nat) (cs : Int64) (os : Int64) (ra : Int64) (rb : Int64) (cm : Int32) (om : Int32) : CtI l D cI cJ cZ yX4_findGap cX4_findGap 2 (some .boolean) 2 [.ref h, .ref r] [(h, .inr (4, [.long cs, .long os, .int cm, .int om])), (r, .inr (3, [.long ra, .long rb]))] (fun (_ : Unit) => b2i (gapB cm om)) (fun (_ : Unit) => True) (fun (_ : Unit) => [(h, .inr (4, [.long cs, .long os, .int cm, .int om])), (r, .inr (3, [.long (if gapB cm om = true then becA (gapN cs os cm om) (gapD cm om) else ra), .long (if gapB cm om = true then becB (gapN cs os cm om) (gapD cm om) else rb)]))]) := by
  refine q_entI (own := RX4) rfl rfl (Nat.le_of_ble_eq_true rfl) ?_
  intro p e s m args below meth c A ls QQ hQ hE hx hb hr hk hin hA hl hst
  have hl : lv_has ls 2 [(0, .ref h), (1, .ref r)] := hl
  refine lv_aload_n hx hb dX4_findGap_0 rfl (lv_at hl 0 rfl) ?_
  refine gf_X4_16 hE hst 0 rfl rfl dX4_findGap_1 ?_
  refine lv_if_eq (tgt := 14) hx hb dX4_findGap_4 (by decide) (fun c_4 => ?_) (fun c_4 => ?_)
  · skip
    refine lv_iconst (v := 0) hx hb dX4_findGap_14 (by decide) ?_
    exact q_retZ hQ hE hr hk hst () (rfl) (by simp [gapB, b2i, c_4]) (trivial) (by simp [gapB, gapN, gapD, c_4]) dX4_findGap_15
  · skip
    refine lv_aload_n hx hb dX4_findGap_7 rfl (lv_at hl 0 rfl) ?_
    refine gf_X4_20 hE hst 0 rfl rfl dX4_findGap_8 ?_
    refine lv_if_ne (tgt := 16) hx hb dX4_findGap_11 (by decide) (fun c_11 => ?_) (fun c_11 => ?_)
    · skip
      refine lv_aload_n hx hb dX4_findGap_16 rfl (lv_at hl 1 rfl) ?_
      refine lv_aload_n hx hb dX4_findGap_17 rfl (lv_at hl 0 rfl) ?_
      refine gf_X4_7 hE hst 0 rfl rfl dX4_findGap_18 ?_
      refine lv_aload_n hx hb dX4_findGap_21 rfl (lv_at hl 0 rfl) ?_
      refine gf_X4_20 hE hst 0 rfl rfl dX4_findGap_22 ?_
      refine lv_i2l (v := om.toInt64) hx hb dX4_findGap_25 rfl ?_
      refine lv_lmul hx hb dX4_findGap_26 ?_
      refine lv_aload_n hx hb dX4_findGap_27 rfl (lv_at hl 0 rfl) ?_
      refine gf_X4_13 hE hst 0 rfl rfl dX4_findGap_28 ?_
      refine lv_aload_n hx hb dX4_findGap_31 rfl (lv_at hl 0 rfl) ?_
      refine gf_X4_16 hE hst 0 rfl rfl dX4_findGap_32 ?_
      refine lv_i2l (v := cm.toInt64) hx hb dX4_findGap_35 rfl ?_
      refine lv_lmul hx hb dX4_findGap_36 ?_
      refine lv_lsub hx hb dX4_findGap_37 ?_
      refine lv_aload_n hx hb dX4_findGap_38 rfl (lv_at hl 0 rfl) ?_
      refine gf_X4_16 hE hst 0 rfl rfl dX4_findGap_39 ?_
      refine lv_i2l (v := cm.toInt64) hx hb dX4_findGap_42 rfl ?_
      refine lv_aload_n hx hb dX4_findGap_43 rfl (lv_at hl 0 rfl) ?_
      refine gf_X4_20 hE hst 0 rfl rfl dX4_findGap_44 ?_
      refine lv_i2l (v := om.toInt64) hx hb dX4_findGap_47 rfl ?_
      refine lv_lmul hx hb dX4_findGap_48 ?_
      refine q_goV (q_rNV hE lk_X4_23 (c_X3_become l D cI cJ cZ r ra rb ((cs * om.toInt64) - (os * cm.toInt64)) (cm.toInt64 * om.toInt64) s.heap.size) hst [1] rfl rfl rfl rfl rfl hl.1 ⟨(Nat.le_of_ble_eq_true rfl), (Nat.le_of_ble_eq_true rfl)⟩ (rest := []) rfl (Nat.le_of_ble_eq_true rfl) dX4_findGap_49 ⟨(Nat.le_of_ble_eq_true rfl), (Nat.le_of_ble_eq_true rfl)⟩) hE hst [1] rfl (fun _ => rfl) (fun (_ : Unit) => [(h, .inr (4, [.long cs, .long os, .int cm, .int om])), (r, .inr (3, [.long (becA ((cs * om.toInt64) - (os * cm.toInt64)) (cm.toInt64 * om.toInt64)), .long (becB ((cs * om.toInt64) - (os * cm.toInt64)) (cm.toInt64 * om.toInt64))]))]) (fun _ => rfl) (fun _ H locs hF hst => ?_)
      refine lv_iconst (v := 1) hx hb dX4_findGap_52 (by decide) ?_
      exact q_retZ hQ hE hr hk hst () (rfl) (by simp [gapB, b2i, c_4, c_11]) (trivial) (by simp [gapB, gapN, gapD, c_4, c_11]) dX4_findGap_53
    · skip
      refine lv_iconst (v := 0) hx hb dX4_findGap_14 (by decide) ?_
      exact q_retZ hQ hE hr hk hst () (rfl) (by simp [gapB, b2i, c_4, c_11]) (trivial) (by simp [gapB, gapN, gapD, c_4, c_11]) dX4_findGap_15
/-! men -/
set_option maxHeartbeats 4000000 in
set_option maxRecDepth 100000 in
theorem c_X2_kindAt (l : Launch) (D : va_G) (cI cJ cZ : ClassId) (h : Nat) (qk : Nat) (qb : Nat) (qp : Nat) (sz : Int32) (p0 : Int32) (ki : Nat → Int32) : CtI l D cI cJ cZ yX2_kindAt cX2_kindAt 2 (some .int) 1 [.ref h, .int p0] [(h, .inr (2, [.ref qk, .ref qb, .ref qp, .int sz])), (qk, .inl (cI, 60, .inl ki))] (fun (_ : Unit) => atI 60 ki p0) (fun (_ : Unit) => True) (fun (_ : Unit) => [(h, .inr (2, [.ref qk, .ref qb, .ref qp, .int sz])), (qk, .inl (cI, 60, .inl ki))]) := by
  refine q_entI (own := RX2) rfl rfl (Nat.le_of_ble_eq_true rfl) ?_
  intro p e s m args below meth c A ls QQ hQ hE hx hb hr hk hin hA hl hst
  have hl : lv_has ls 2 [(0, .ref h), (1, .int p0)] := hl
  refine lv_aload_n hx hb dX2_kindAt_0 rfl (lv_at hl 0 rfl) ?_
  refine gf_X2_9 hE hst 0 rfl rfl dX2_kindAt_1 ?_
  refine lv_iload_n hx hb dX2_kindAt_4 rfl (lv_at hl 1 rfl) ?_
  refine q_goI (q_rNS hE lk_X2_33 (c_X6_at l D cI cJ cZ qk 60 ki p0 (by first | assumption | decide | omega) s.heap.size) hst [1] rfl rfl rfl hl.1 ⟨(Nat.le_of_ble_eq_true rfl), (Nat.le_of_ble_eq_true rfl)⟩ (rest := []) rfl (Nat.le_of_ble_eq_true rfl) dX2_kindAt_5 ⟨(Nat.le_of_ble_eq_true rfl), (Nat.le_of_ble_eq_true rfl)⟩) hE hst [1] rfl (fun _ => rfl) (fun (_ : Unit) => [(h, .inr (2, [.ref qk, .ref qb, .ref qp, .int sz])), (qk, .inl (cI, 60, .inl ki))]) (fun _ => rfl) (fun _ H locs hF hst => ?_)
  exact q_retI hQ hE hr hk hst () (rfl) (trivial) (rfl) dX2_kindAt_8
set_option maxHeartbeats 4000000 in
set_option maxRecDepth 100000 in
theorem c_X2_birthdayAt (l : Launch) (D : va_G) (cI cJ cZ : ClassId) (h : Nat) (qk : Nat) (qb : Nat) (qp : Nat) (sz : Int32) (p0 : Int32) (bi : Nat → Int32) : CtI l D cI cJ cZ yX2_birthdayAt cX2_birthdayAt 2 (some .int) 1 [.ref h, .int p0] [(h, .inr (2, [.ref qk, .ref qb, .ref qp, .int sz])), (qb, .inl (cI, 60, .inl bi))] (fun (_ : Unit) => atI 60 bi p0) (fun (_ : Unit) => True) (fun (_ : Unit) => [(h, .inr (2, [.ref qk, .ref qb, .ref qp, .int sz])), (qb, .inl (cI, 60, .inl bi))]) := by
  refine q_entI (own := RX2) rfl rfl (Nat.le_of_ble_eq_true rfl) ?_
  intro p e s m args below meth c A ls QQ hQ hE hx hb hr hk hin hA hl hst
  have hl : lv_has ls 2 [(0, .ref h), (1, .int p0)] := hl
  refine lv_aload_n hx hb dX2_birthdayAt_0 rfl (lv_at hl 0 rfl) ?_
  refine gf_X2_15 hE hst 0 rfl rfl dX2_birthdayAt_1 ?_
  refine lv_iload_n hx hb dX2_birthdayAt_4 rfl (lv_at hl 1 rfl) ?_
  refine q_goI (q_rNS hE lk_X2_33 (c_X6_at l D cI cJ cZ qb 60 bi p0 (by first | assumption | decide | omega) s.heap.size) hst [1] rfl rfl rfl hl.1 ⟨(Nat.le_of_ble_eq_true rfl), (Nat.le_of_ble_eq_true rfl)⟩ (rest := []) rfl (Nat.le_of_ble_eq_true rfl) dX2_birthdayAt_5 ⟨(Nat.le_of_ble_eq_true rfl), (Nat.le_of_ble_eq_true rfl)⟩) hE hst [1] rfl (fun _ => rfl) (fun (_ : Unit) => [(h, .inr (2, [.ref qk, .ref qb, .ref qp, .int sz])), (qb, .inl (cI, 60, .inl bi))]) (fun _ => rfl) (fun _ H locs hF hst => ?_)
  exact q_retI hQ hE hr hk hst () (rfl) (trivial) (rfl) dX2_birthdayAt_8
set_option maxHeartbeats 4000000 in
set_option maxRecDepth 100000 in
theorem c_X2_payAt (l : Launch) (D : va_G) (cI cJ cZ : ClassId) (h : Nat) (qk : Nat) (qb : Nat) (qp : Nat) (sz : Int32) (p0 : Int32) (pa : Nat → Int32) : CtI l D cI cJ cZ yX2_payAt cX2_payAt 2 (some .int) 1 [.ref h, .int p0] [(h, .inr (2, [.ref qk, .ref qb, .ref qp, .int sz])), (qp, .inl (cI, 60, .inl pa))] (fun (_ : Unit) => atI 60 pa p0) (fun (_ : Unit) => True) (fun (_ : Unit) => [(h, .inr (2, [.ref qk, .ref qb, .ref qp, .int sz])), (qp, .inl (cI, 60, .inl pa))]) := by
  refine q_entI (own := RX2) rfl rfl (Nat.le_of_ble_eq_true rfl) ?_
  intro p e s m args below meth c A ls QQ hQ hE hx hb hr hk hin hA hl hst
  have hl : lv_has ls 2 [(0, .ref h), (1, .int p0)] := hl
  refine lv_aload_n hx hb dX2_payAt_0 rfl (lv_at hl 0 rfl) ?_
  refine gf_X2_18 hE hst 0 rfl rfl dX2_payAt_1 ?_
  refine lv_iload_n hx hb dX2_payAt_4 rfl (lv_at hl 1 rfl) ?_
  refine q_goI (q_rNS hE lk_X2_33 (c_X6_at l D cI cJ cZ qp 60 pa p0 (by first | assumption | decide | omega) s.heap.size) hst [1] rfl rfl rfl hl.1 ⟨(Nat.le_of_ble_eq_true rfl), (Nat.le_of_ble_eq_true rfl)⟩ (rest := []) rfl (Nat.le_of_ble_eq_true rfl) dX2_payAt_5 ⟨(Nat.le_of_ble_eq_true rfl), (Nat.le_of_ble_eq_true rfl)⟩) hE hst [1] rfl (fun _ => rfl) (fun (_ : Unit) => [(h, .inr (2, [.ref qk, .ref qb, .ref qp, .int sz])), (qp, .inl (cI, 60, .inl pa))]) (fun _ => rfl) (fun _ H locs hF hst => ?_)
  exact q_retI hQ hE hr hk hst () (rfl) (trivial) (rfl) dX2_payAt_8
set_option maxHeartbeats 4000000 in
set_option maxRecDepth 100000 in
theorem c_X2_enrol (l : Launch) (D : va_G) (cI cJ cZ : ClassId) (h : Nat) (qk : Nat) (qb : Nat) (qp : Nat) (sz : Int32) (p0 : Int32) (p1 : Int32) (p2 : Int32) (ki : Nat → Int32) (bi : Nat → Int32) (pa : Nat → Int32) : CtI l D cI cJ cZ yX2_enrol cX2_enrol 5 (some .int) 1 [.ref h, .int p0, .int p1, .int p2] [(h, .inr (2, [.ref qk, .ref qb, .ref qp, .int sz])), (qk, .inl (cI, 60, .inl ki)), (qb, .inl (cI, 60, .inl bi)), (qp, .inl (cI, 60, .inl pa))] (fun (_ : Unit) => sz) (fun (_ : Unit) => True) (fun (_ : Unit) => [(h, .inr (2, [.ref qk, .ref qb, .ref qp, .int (sz + 1)])), (qk, .inl (cI, 60, .inl (putI 60 ki sz p0))), (qb, .inl (cI, 60, .inl (putI 60 bi sz p1))), (qp, .inl (cI, 60, .inl (putI 60 pa sz p2)))]) := by
  refine q_entI (own := RX2) rfl rfl (Nat.le_of_ble_eq_true rfl) ?_
  intro p e s m args below meth c A ls QQ hQ hE hx hb hr hk hin hA hl hst
  have hl : lv_has ls 5 [(0, .ref h), (1, .int p0), (2, .int p1), (3, .int p2)] := hl
  refine lv_aload_n hx hb dX2_enrol_0 rfl (lv_at hl 0 rfl) ?_
  refine gf_X2_21 hE hst 0 rfl rfl dX2_enrol_1 ?_
  refine lv_istore (lv' := [(4, .int sz), (0, .ref h), (1, .int p0), (2, .int p1), (3, .int p2)]) hx hb dX2_enrol_4 hl (by decide) rfl (fun ls hl => ?_)
  refine lv_aload_n hx hb dX2_enrol_6 rfl (lv_at hl 1 rfl) ?_
  refine gf_X2_9 hE hst 0 rfl rfl dX2_enrol_7 ?_
  refine lv_iload hx hb dX2_enrol_10 (lv_at hl 0 rfl) ?_
  refine lv_iload_n hx hb dX2_enrol_12 rfl (lv_at hl 2 rfl) ?_
  refine q_goV (q_rNS hE lk_X2_25 (c_X6_put l D cI cJ cZ qk 60 ki sz p0 (by first | assumption | decide | omega) s.heap.size) hst [1] rfl rfl rfl hl.1 ⟨(Nat.le_of_ble_eq_true rfl), (Nat.le_of_ble_eq_true rfl)⟩ (rest := []) rfl (Nat.le_of_ble_eq_true rfl) dX2_enrol_13 ⟨(Nat.le_of_ble_eq_true rfl), (Nat.le_of_ble_eq_true rfl)⟩) hE hst [1] rfl (fun _ => rfl) (fun (_ : Unit) => [(h, .inr (2, [.ref qk, .ref qb, .ref qp, .int sz])), (qk, .inl (cI, 60, .inl (putI 60 ki sz p0))), (qb, .inl (cI, 60, .inl bi)), (qp, .inl (cI, 60, .inl pa))]) (fun _ => rfl) (fun _ H locs hF hst => ?_)
  refine lv_aload_n hx hb dX2_enrol_16 rfl (lv_at hl 1 rfl) ?_
  refine gf_X2_15 hE hst 0 rfl rfl dX2_enrol_17 ?_
  refine lv_iload hx hb dX2_enrol_20 (lv_at hl 0 rfl) ?_
  refine lv_iload_n hx hb dX2_enrol_22 rfl (lv_at hl 3 rfl) ?_
  refine q_goV (q_rNS hE lk_X2_25 (c_X6_put l D cI cJ cZ qb 60 bi sz p1 (by first | assumption | decide | omega) H.size) hst [2] rfl rfl rfl hl.1 ⟨(Nat.le_of_ble_eq_true rfl), (Nat.le_of_ble_eq_true rfl)⟩ (rest := []) rfl (Nat.le_of_ble_eq_true rfl) dX2_enrol_23 ⟨(Nat.le_of_ble_eq_true rfl), (Nat.le_of_ble_eq_true rfl)⟩) hE hst [2] rfl (fun _ => rfl) (fun (_ : Unit) => [(h, .inr (2, [.ref qk, .ref qb, .ref qp, .int sz])), (qk, .inl (cI, 60, .inl (putI 60 ki sz p0))), (qb, .inl (cI, 60, .inl (putI 60 bi sz p1))), (qp, .inl (cI, 60, .inl pa))]) (fun _ => rfl) (fun _ H locs hF hst => ?_)
  refine lv_aload_n hx hb dX2_enrol_26 rfl (lv_at hl 1 rfl) ?_
  refine gf_X2_18 hE hst 0 rfl rfl dX2_enrol_27 ?_
  refine lv_iload hx hb dX2_enrol_30 (lv_at hl 0 rfl) ?_
  refine lv_iload_n hx hb dX2_enrol_32 rfl (lv_at hl 4 rfl) ?_
  refine q_goV (q_rNS hE lk_X2_25 (c_X6_put l D cI cJ cZ qp 60 pa sz p2 (by first | assumption | decide | omega) H.size) hst [3] rfl rfl rfl hl.1 ⟨(Nat.le_of_ble_eq_true rfl), (Nat.le_of_ble_eq_true rfl)⟩ (rest := []) rfl (Nat.le_of_ble_eq_true rfl) dX2_enrol_33 ⟨(Nat.le_of_ble_eq_true rfl), (Nat.le_of_ble_eq_true rfl)⟩) hE hst [3] rfl (fun _ => rfl) (fun (_ : Unit) => [(h, .inr (2, [.ref qk, .ref qb, .ref qp, .int sz])), (qk, .inl (cI, 60, .inl (putI 60 ki sz p0))), (qb, .inl (cI, 60, .inl (putI 60 bi sz p1))), (qp, .inl (cI, 60, .inl (putI 60 pa sz p2)))]) (fun _ => rfl) (fun _ H locs hF hst => ?_)
  refine lv_aload_n hx hb dX2_enrol_36 rfl (lv_at hl 1 rfl) ?_
  refine lv_dup hx hb dX2_enrol_37 rfl ?_
  refine gf_X2_21 hE hst 0 rfl rfl dX2_enrol_38 ?_
  refine lv_iconst (v := 1) hx hb dX2_enrol_41 (by decide) ?_
  refine lv_iadd hx hb dX2_enrol_42 ?_
  refine pf_X2_21 hE hst 0 rfl (rfl) (rfl) (Nat.le_of_ble_eq_true rfl) [(h, .inr (2, [.ref qk, .ref qb, .ref qp, .int (sz + 1)])), (qk, .inl (cI, 60, .inl (putI 60 ki sz p0))), (qb, .inl (cI, 60, .inl (putI 60 bi sz p1))), (qp, .inl (cI, 60, .inl (putI 60 pa sz p2)))] rfl dX2_enrol_43 (fun H locs hst => ?_)
  refine lv_iload hx hb dX2_enrol_46 (lv_at hl 0 rfl) ?_
  exact q_retI hQ hE hr hk hst () (rfl) (trivial) (rfl) dX2_enrol_48
set_option maxHeartbeats 4000000 in
set_option maxRecDepth 100000 in
theorem c_X2_copyMen (l : Launch) (D : va_G) (cI cJ cZ : ClassId) (h : Nat) (qk : Nat) (qb : Nat) (qp : Nat) (g : Nat) (rk : Nat) (rb : Nat) (rp : Nat) (sz : Int32) (sy : Int32) (ki : Nat → Int32) (bi : Nat → Int32) (pa : Nat → Int32) (ky : Nat → Int32) (by_ : Nat → Int32) (py_ : Nat → Int32) : CtV l D cI cJ cZ yX2_copyMen cX2_copyMen 2 none 2 0 0 [.ref h, .ref g] [(h, .inr (2, [.ref qk, .ref qb, .ref qp, .int sz])), (qk, .inl (cI, 60, .inl ki)), (qb, .inl (cI, 60, .inl bi)), (qp, .inl (cI, 60, .inl pa)), (g, .inr (2, [.ref rk, .ref rb, .ref rp, .int sy])), (rk, .inl (cI, 60, .inl ky)), (rb, .inl (cI, 60, .inl by_)), (rp, .inl (cI, 60, .inl py_))] (fun (_ : Unit) => True) (fun (_ : Unit) => [(h, .inr (2, [.ref qk, .ref qb, .ref qp, .int sy])), (qk, .inl (cI, 60, .inl ky)), (qb, .inl (cI, 60, .inl by_)), (qp, .inl (cI, 60, .inl py_)), (g, .inr (2, [.ref rk, .ref rb, .ref rp, .int sy])), (rk, .inl (cI, 60, .inl ky)), (rb, .inl (cI, 60, .inl by_)), (rp, .inl (cI, 60, .inl py_))]) := by
  refine q_entV (own := RX2) rfl rfl (Nat.le_of_ble_eq_true rfl) ?_
  intro p e s m args below meth c A ls QQ hQ hE hx hb hr hk hin hA hl hst
  have hl : lv_has ls 2 [(0, .ref h), (1, .ref g)] := hl
  refine lv_aload_n hx hb dX2_copyMen_0 rfl (lv_at hl 1 rfl) ?_
  refine gf_X2_9 hE hst 4 rfl rfl dX2_copyMen_1 ?_
  refine lv_aload_n hx hb dX2_copyMen_4 rfl (lv_at hl 0 rfl) ?_
  refine gf_X2_9 hE hst 0 rfl rfl dX2_copyMen_5 ?_
  refine q_goV (q_rNS hE lk_X2_29 (c_X6_copyRow l D cI cJ cZ rk qk 60 ky ki (by first | assumption | decide | omega) s.heap.size) hst [5, 1] rfl rfl rfl hl.1 ⟨(Nat.le_of_ble_eq_true rfl), (Nat.le_of_ble_eq_true rfl)⟩ (rest := []) rfl (Nat.le_of_ble_eq_true rfl) dX2_copyMen_8 ⟨(Nat.le_of_ble_eq_true rfl), (Nat.le_of_ble_eq_true rfl)⟩) hE hst [5, 1] rfl (fun _ => rfl) (fun (_ : Unit) => [(h, .inr (2, [.ref qk, .ref qb, .ref qp, .int sz])), (qk, .inl (cI, 60, .inl ky)), (qb, .inl (cI, 60, .inl bi)), (qp, .inl (cI, 60, .inl pa)), (g, .inr (2, [.ref rk, .ref rb, .ref rp, .int sy])), (rk, .inl (cI, 60, .inl ky)), (rb, .inl (cI, 60, .inl by_)), (rp, .inl (cI, 60, .inl py_))]) (fun _ => rfl) (fun _ H locs hF hst => ?_)
  refine lv_aload_n hx hb dX2_copyMen_11 rfl (lv_at hl 1 rfl) ?_
  refine gf_X2_15 hE hst 4 rfl rfl dX2_copyMen_12 ?_
  refine lv_aload_n hx hb dX2_copyMen_15 rfl (lv_at hl 0 rfl) ?_
  refine gf_X2_15 hE hst 0 rfl rfl dX2_copyMen_16 ?_
  refine q_goV (q_rNS hE lk_X2_29 (c_X6_copyRow l D cI cJ cZ rb qb 60 by_ bi (by first | assumption | decide | omega) H.size) hst [6, 2] rfl rfl rfl hl.1 ⟨(Nat.le_of_ble_eq_true rfl), (Nat.le_of_ble_eq_true rfl)⟩ (rest := []) rfl (Nat.le_of_ble_eq_true rfl) dX2_copyMen_19 ⟨(Nat.le_of_ble_eq_true rfl), (Nat.le_of_ble_eq_true rfl)⟩) hE hst [6, 2] rfl (fun _ => rfl) (fun (_ : Unit) => [(h, .inr (2, [.ref qk, .ref qb, .ref qp, .int sz])), (qk, .inl (cI, 60, .inl ky)), (qb, .inl (cI, 60, .inl by_)), (qp, .inl (cI, 60, .inl pa)), (g, .inr (2, [.ref rk, .ref rb, .ref rp, .int sy])), (rk, .inl (cI, 60, .inl ky)), (rb, .inl (cI, 60, .inl by_)), (rp, .inl (cI, 60, .inl py_))]) (fun _ => rfl) (fun _ H locs hF hst => ?_)
  refine lv_aload_n hx hb dX2_copyMen_22 rfl (lv_at hl 1 rfl) ?_
  refine gf_X2_18 hE hst 4 rfl rfl dX2_copyMen_23 ?_
  refine lv_aload_n hx hb dX2_copyMen_26 rfl (lv_at hl 0 rfl) ?_
  refine gf_X2_18 hE hst 0 rfl rfl dX2_copyMen_27 ?_
  refine q_goV (q_rNS hE lk_X2_29 (c_X6_copyRow l D cI cJ cZ rp qp 60 py_ pa (by first | assumption | decide | omega) H.size) hst [7, 3] rfl rfl rfl hl.1 ⟨(Nat.le_of_ble_eq_true rfl), (Nat.le_of_ble_eq_true rfl)⟩ (rest := []) rfl (Nat.le_of_ble_eq_true rfl) dX2_copyMen_30 ⟨(Nat.le_of_ble_eq_true rfl), (Nat.le_of_ble_eq_true rfl)⟩) hE hst [7, 3] rfl (fun _ => rfl) (fun (_ : Unit) => [(h, .inr (2, [.ref qk, .ref qb, .ref qp, .int sz])), (qk, .inl (cI, 60, .inl ky)), (qb, .inl (cI, 60, .inl by_)), (qp, .inl (cI, 60, .inl py_)), (g, .inr (2, [.ref rk, .ref rb, .ref rp, .int sy])), (rk, .inl (cI, 60, .inl ky)), (rb, .inl (cI, 60, .inl by_)), (rp, .inl (cI, 60, .inl py_))]) (fun _ => rfl) (fun _ H locs hF hst => ?_)
  refine lv_aload_n hx hb dX2_copyMen_33 rfl (lv_at hl 0 rfl) ?_
  refine lv_aload_n hx hb dX2_copyMen_34 rfl (lv_at hl 1 rfl) ?_
  refine gf_X2_21 hE hst 4 rfl rfl dX2_copyMen_35 ?_
  refine pf_X2_21 hE hst 0 rfl (rfl) (rfl) (Nat.le_of_ble_eq_true rfl) [(h, .inr (2, [.ref qk, .ref qb, .ref qp, .int sy])), (qk, .inl (cI, 60, .inl ky)), (qb, .inl (cI, 60, .inl by_)), (qp, .inl (cI, 60, .inl py_)), (g, .inr (2, [.ref rk, .ref rb, .ref rp, .int sy])), (rk, .inl (cI, 60, .inl ky)), (rb, .inl (cI, 60, .inl by_)), (rp, .inl (cI, 60, .inl py_))] rfl dX2_copyMen_38 (fun H locs hst => ?_)
  exact q_retV hQ hE hr hk hst () (trivial) (rfl) dX2_copyMen_41
/-! the tape -/
def tapeAt (tl : Int32) (tb : Nat → Int32) (i : Int32) : Int32 := if i < 0 then -1 else if tl ≤ i then -1 else atI 14 tb i
def digB (x : Int32) : Bool := !decide (x < 48) && !decide (57 < x)
def eod (tl : Int32) (tb : Nat → Int32) : Nat → Nat → Nat
  | 0, j => j
  | n + 1, j => if digB (tapeAt tl tb (nI j)) = true then eod tl tb n (j + 1) else j
def valL (tl : Int32) (tb : Nat → Int32) : Nat → Nat → Int32 → Int32
  | 0, _, v => v
  | n + 1, j, v => valL tl tb n (j + 1) (10 * v + tapeAt tl tb (nI j) - 48)
def kindLet (x : Int32) : Int32 := if x = 115 then 0 else if x = 97 then 1 else if x = 110 then 2 else if x = 102 then 3 else if x = 99 then 4 else if x = 108 then 5 else -1
theorem eod_le (tl : Int32) (tb : Nat → Int32) : ∀ n j, j ≤ eod tl tb n j ∧ eod tl tb n j ≤ j + n
  | 0, j => ⟨Nat.le_refl _, Nat.le_refl _⟩
  | n + 1, j => by
    rw [eod]
    by_cases h : digB (tapeAt tl tb (nI j)) = true
    · rw [if_pos h]
      have := eod_le tl tb n (j + 1)
      omega
    · rw [if_neg h]
      omega
def byteOf (w : Int64) (i : Nat) : Int32 := ((w.toUInt64 >>> ((8 * nI i).toInt64.toUInt64 &&& Int64.toUInt64 63)).toInt64).toInt32 &&& 255
def appL (w : Int64) (t : Nat) (tb : Nat → Int32) : Nat → Nat → Int32
  | 0 => tb
  | i + 1 => upd (appL w t tb i) (t + i) (byteOf w i)
set_option maxHeartbeats 4000000 in
set_option maxRecDepth 100000 in
theorem c_X5_hasRoomFor (l : Launch) (D : va_G) (cI cJ cZ : ClassId) (h : Nat) (q : Nat) (tl : Int32) (tk : Int32) (tbd : Int32) (tp : Int32) (p0 : Int32) : CtI l D cI cJ cZ yX5_hasRoomFor cX5_hasRoomFor 2 (some .boolean) 0 [.ref h, .int p0] [(h, .inr (5, [.ref q, .int tl, .int tk, .int tbd, .int tp]))] (fun (_ : Unit) => b2i (decide (p0 ≤ 14 - tl))) (fun (_ : Unit) => True) (fun (_ : Unit) => [(h, .inr (5, [.ref q, .int tl, .int tk, .int tbd, .int tp]))]) := by
  refine q_entI (own := RX5) rfl rfl (Nat.le_of_ble_eq_true rfl) ?_
  intro p e s m args below meth c A ls QQ hQ hE hx hb hr hk hin hA hl hst
  have hl : lv_has ls 2 [(0, .ref h), (1, .int p0)] := hl
  refine lv_iload_n hx hb dX5_hasRoomFor_0 rfl (lv_at hl 1 rfl) ?_
  refine lv_bipush (v := 14) hx hb dX5_hasRoomFor_1 (by decide) ?_
  refine lv_aload_n hx hb dX5_hasRoomFor_3 rfl (lv_at hl 0 rfl) ?_
  refine gf_X5_15 hE hst 0 rfl rfl dX5_hasRoomFor_4 ?_
  refine lv_isub hx hb dX5_hasRoomFor_7 ?_
  refine lv_icmp_gt (tgt := 15) hx hb dX5_hasRoomFor_8 (by decide) (fun c_8 => ?_) (fun c_8 => ?_)
  · skip
    refine lv_iconst (v := 0) hx hb dX5_hasRoomFor_15 (by decide) ?_
    exact q_retZ hQ hE hr hk hst () (rfl) (by rw [decide_eq_false (Int32.not_le.mpr c_8)]; rfl) (trivial) (rfl) dX5_hasRoomFor_16
  · skip
    refine lv_iconst (v := 1) hx hb dX5_hasRoomFor_11 (by decide) ?_
    refine lv_goto (tgt := 16) hx hb dX5_hasRoomFor_12 (by decide) ?_
    exact q_retZ hQ hE hr hk hst () (rfl) (by rw [decide_eq_true (Int32.not_lt.mp c_8)]; rfl) (trivial) (rfl) dX5_hasRoomFor_16
set_option maxHeartbeats 4000000 in
set_option maxRecDepth 100000 in
theorem c_X5_empty (l : Launch) (D : va_G) (cI cJ cZ : ClassId) (h : Nat) (q : Nat) (tl : Int32) (tk : Int32) (tbd : Int32) (tp : Int32) : CtV l D cI cJ cZ yX5_empty cX5_empty 1 none 0 0 0 [.ref h] [(h, .inr (5, [.ref q, .int tl, .int tk, .int tbd, .int tp]))] (fun (_ : Unit) => True) (fun (_ : Unit) => [(h, .inr (5, [.ref q, .int 0, .int tk, .int tbd, .int tp]))]) := by
  refine q_entV (own := RX5) rfl rfl (Nat.le_of_ble_eq_true rfl) ?_
  intro p e s m args below meth c A ls QQ hQ hE hx hb hr hk hin hA hl hst
  have hl : lv_has ls 1 [(0, .ref h)] := hl
  refine lv_aload_n hx hb dX5_empty_0 rfl (lv_at hl 0 rfl) ?_
  refine lv_iconst (v := 0) hx hb dX5_empty_1 (by decide) ?_
  refine pf_X5_15 hE hst 0 rfl (rfl) (rfl) (Nat.le_of_ble_eq_true rfl) [(h, .inr (5, [.ref q, .int 0, .int tk, .int tbd, .int tp]))] rfl dX5_empty_2 (fun H locs hst => ?_)
  exact q_retV hQ hE hr hk hst () (trivial) (rfl) dX5_empty_5
set_option maxHeartbeats 4000000 in
set_option maxRecDepth 100000 in
theorem c_X5_byteAt (l : Launch) (D : va_G) (cI cJ cZ : ClassId) (h : Nat) (q : Nat) (tl : Int32) (tk : Int32) (tbd : Int32) (tp : Int32) (tb : Nat → Int32) (p0 : Int32) : CtI l D cI cJ cZ yX5_byteAt cX5_byteAt 2 (some .int) 1 [.ref h, .int p0] [(h, .inr (5, [.ref q, .int tl, .int tk, .int tbd, .int tp])), (q, .inl (cI, 14, .inl tb))] (fun (_ : Unit) => tapeAt tl tb p0) (fun (_ : Unit) => True) (fun (_ : Unit) => [(h, .inr (5, [.ref q, .int tl, .int tk, .int tbd, .int tp])), (q, .inl (cI, 14, .inl tb))]) := by
  refine q_entI (own := RX5) rfl rfl (Nat.le_of_ble_eq_true rfl) ?_
  intro p e s m args below meth c A ls QQ hQ hE hx hb hr hk hin hA hl hst
  have hl : lv_has ls 2 [(0, .ref h), (1, .int p0)] := hl
  refine lv_iload_n hx hb dX5_byteAt_0 rfl (lv_at hl 1 rfl) ?_
  refine lv_if_lt (tgt := 23) hx hb dX5_byteAt_1 (by decide) (fun c_1 => ?_) (fun c_1 => ?_)
  · skip
    refine lv_iconst (v := (-1)) hx hb dX5_byteAt_23 (by decide) ?_
    exact q_retI hQ hE hr hk hst () (by rw [tapeAt, if_pos c_1]) (trivial) (rfl) dX5_byteAt_24
  · skip
    refine lv_iload_n hx hb dX5_byteAt_4 rfl (lv_at hl 1 rfl) ?_
    refine lv_aload_n hx hb dX5_byteAt_5 rfl (lv_at hl 0 rfl) ?_
    refine gf_X5_15 hE hst 0 rfl rfl dX5_byteAt_6 ?_
    refine lv_icmp_ge (tgt := 23) hx hb dX5_byteAt_9 (by decide) (fun c_9 => ?_) (fun c_9 => ?_)
    · skip
      refine lv_iconst (v := (-1)) hx hb dX5_byteAt_23 (by decide) ?_
      exact q_retI hQ hE hr hk hst () (by rw [tapeAt, if_neg c_1, if_pos c_9]) (trivial) (rfl) dX5_byteAt_24
    · skip
      refine lv_aload_n hx hb dX5_byteAt_12 rfl (lv_at hl 0 rfl) ?_
      refine gf_X5_9 hE hst 0 rfl rfl dX5_byteAt_13 ?_
      refine lv_iload_n hx hb dX5_byteAt_16 rfl (lv_at hl 1 rfl) ?_
      refine q_goI (q_rNS hE lk_X5_46 (c_X6_at l D cI cJ cZ q 14 tb p0 (by first | assumption | decide | omega) s.heap.size) hst [1] rfl rfl rfl hl.1 ⟨(Nat.le_of_ble_eq_true rfl), (Nat.le_of_ble_eq_true rfl)⟩ (rest := []) rfl (Nat.le_of_ble_eq_true rfl) dX5_byteAt_17 ⟨(Nat.le_of_ble_eq_true rfl), (Nat.le_of_ble_eq_true rfl)⟩) hE hst [1] rfl (fun _ => rfl) (fun (_ : Unit) => [(h, .inr (5, [.ref q, .int tl, .int tk, .int tbd, .int tp])), (q, .inl (cI, 14, .inl tb))]) (fun _ => rfl) (fun _ H locs hF hst => ?_)
      refine lv_goto (tgt := 24) hx hb dX5_byteAt_20 (by decide) ?_
      exact q_retI hQ hE hr hk hst () (by rw [tapeAt, if_neg c_1, if_neg c_9]) (trivial) (rfl) dX5_byteAt_24
set_option maxHeartbeats 4000000 in
set_option maxRecDepth 100000 in
theorem c_X5_isDigit (l : Launch) (D : va_G) (cI cJ cZ : ClassId) (h : Nat) (q : Nat) (tl : Int32) (tk : Int32) (tbd : Int32) (tp : Int32) (tb : Nat → Int32) (p0 : Int32) : CtI l D cI cJ cZ yX5_isDigit cX5_isDigit 2 (some .boolean) 2 [.ref h, .int p0] [(h, .inr (5, [.ref q, .int tl, .int tk, .int tbd, .int tp])), (q, .inl (cI, 14, .inl tb))] (fun (_ : Unit) => b2i (digB (tapeAt tl tb p0))) (fun (_ : Unit) => True) (fun (_ : Unit) => [(h, .inr (5, [.ref q, .int tl, .int tk, .int tbd, .int tp])), (q, .inl (cI, 14, .inl tb))]) := by
  refine q_entI (own := RX5) rfl rfl (Nat.le_of_ble_eq_true rfl) ?_
  intro p e s m args below meth c A ls QQ hQ hE hx hb hr hk hin hA hl hst
  have hl : lv_has ls 2 [(0, .ref h), (1, .int p0)] := hl
  refine lv_aload_n hx hb dX5_isDigit_0 rfl (lv_at hl 0 rfl) ?_
  refine lv_iload_n hx hb dX5_isDigit_1 rfl (lv_at hl 1 rfl) ?_
  refine q_goI (q_rV hE lk_X5_32 (c_X5_byteAt l D cI cJ cZ h q tl tk tbd tp tb p0 s.heap.size) hst [0, 1] rfl rfl rfl rfl rfl hl.1 ⟨(Nat.le_of_ble_eq_true rfl), (Nat.le_of_ble_eq_true rfl)⟩ (rest := []) rfl (Nat.le_of_ble_eq_true rfl) dX5_isDigit_2 ⟨(Nat.le_of_ble_eq_true rfl), (Nat.le_of_ble_eq_true rfl)⟩) hE hst [0, 1] rfl (fun _ => rfl) (fun (_ : Unit) => [(h, .inr (5, [.ref q, .int tl, .int tk, .int tbd, .int tp])), (q, .inl (cI, 14, .inl tb))]) (fun _ => rfl) (fun _ H locs hF hst => ?_)
  refine lv_bipush (v := 48) hx hb dX5_isDigit_5 (by decide) ?_
  refine lv_icmp_lt (tgt := 24) hx hb dX5_isDigit_7 (by decide) (fun c_7 => ?_) (fun c_7 => ?_)
  · skip
    refine lv_iconst (v := 0) hx hb dX5_isDigit_24 (by decide) ?_
    exact q_retZ hQ hE hr hk hst () (rfl) (by simp [digB, b2i, c_7]) (trivial) (rfl) dX5_isDigit_25
  · skip
    refine lv_aload_n hx hb dX5_isDigit_10 rfl (lv_at hl 0 rfl) ?_
    refine lv_iload_n hx hb dX5_isDigit_11 rfl (lv_at hl 1 rfl) ?_
    refine q_goI (q_rV hE lk_X5_32 (c_X5_byteAt l D cI cJ cZ h q tl tk tbd tp tb p0 H.size) hst [0, 1] rfl rfl rfl rfl rfl hl.1 ⟨(Nat.le_of_ble_eq_true rfl), (Nat.le_of_ble_eq_true rfl)⟩ (rest := []) rfl (Nat.le_of_ble_eq_true rfl) dX5_isDigit_12 ⟨(Nat.le_of_ble_eq_true rfl), (Nat.le_of_ble_eq_true rfl)⟩) hE hst [0, 1] rfl (fun _ => rfl) (fun (_ : Unit) => [(h, .inr (5, [.ref q, .int tl, .int tk, .int tbd, .int tp])), (q, .inl (cI, 14, .inl tb))]) (fun _ => rfl) (fun _ H locs hF hst => ?_)
    refine lv_bipush (v := 57) hx hb dX5_isDigit_15 (by decide) ?_
    refine lv_icmp_gt (tgt := 24) hx hb dX5_isDigit_17 (by decide) (fun c_17 => ?_) (fun c_17 => ?_)
    · skip
      refine lv_iconst (v := 0) hx hb dX5_isDigit_24 (by decide) ?_
      exact q_retZ hQ hE hr hk hst () (rfl) (by simp [digB, b2i, c_7, c_17]) (trivial) (rfl) dX5_isDigit_25
    · skip
      refine lv_iconst (v := 1) hx hb dX5_isDigit_20 (by decide) ?_
      refine lv_goto (tgt := 25) hx hb dX5_isDigit_21 (by decide) ?_
      exact q_retZ hQ hE hr hk hst () (rfl) (by simp [digB, b2i, c_7, c_17]) (trivial) (rfl) dX5_isDigit_25
set_option maxHeartbeats 4000000 in
set_option maxRecDepth 100000 in
theorem c_X5_kindOfLetter (l : Launch) (D : va_G) (cI cJ cZ : ClassId) (p0 : Int32) : CtI l D cI cJ cZ yX5_kindOfLetter cX5_kindOfLetter 1 (some .int) 0 [.int p0] [] (fun (_ : Unit) => kindLet p0) (fun (_ : Unit) => True) (fun (_ : Unit) => []) := by
  refine q_entI (own := RX5) rfl rfl (Nat.le_of_ble_eq_true rfl) ?_
  intro p e s m args below meth c A ls QQ hQ hE hx hb hr hk hin hA hl hst
  have hl : lv_has ls 1 [(0, .int p0)] := hl
  refine lv_iload_n hx hb dX5_kindOfLetter_0 rfl (lv_at hl 0 rfl) ?_
  by_cases c_1_97 : p0 = 97
  · skip
    refine lv_tableIn (off := 93) (tgt := 94) hx hb dX5_kindOfLetter_1 (by rw [c_1_97]; decide) (by rw [c_1_97]; decide) (by rw [c_1_97]; rfl) (by decide) ?_
    refine lv_iconst (v := 1) hx hb dX5_kindOfLetter_94 (by decide) ?_
    exact q_retI hQ hE hr hk hst () (by rw [c_1_97]; rfl) (trivial) (rfl) dX5_kindOfLetter_95
  by_cases c_1_98 : p0 = 98
  · skip
    refine lv_tableIn (off := 103) (tgt := 104) hx hb dX5_kindOfLetter_1 (by rw [c_1_98]; decide) (by rw [c_1_98]; decide) (by rw [c_1_98]; rfl) (by decide) ?_
    refine lv_iconst (v := (-1)) hx hb dX5_kindOfLetter_104 (by decide) ?_
    exact q_retI hQ hE hr hk hst () (by rw [c_1_98]; rfl) (trivial) (rfl) dX5_kindOfLetter_105
  by_cases c_1_99 : p0 = 99
  · skip
    refine lv_tableIn (off := 99) (tgt := 100) hx hb dX5_kindOfLetter_1 (by rw [c_1_99]; decide) (by rw [c_1_99]; decide) (by rw [c_1_99]; rfl) (by decide) ?_
    refine lv_iconst (v := 4) hx hb dX5_kindOfLetter_100 (by decide) ?_
    exact q_retI hQ hE hr hk hst () (by rw [c_1_99]; rfl) (trivial) (rfl) dX5_kindOfLetter_101
  by_cases c_1_100 : p0 = 100
  · skip
    refine lv_tableIn (off := 103) (tgt := 104) hx hb dX5_kindOfLetter_1 (by rw [c_1_100]; decide) (by rw [c_1_100]; decide) (by rw [c_1_100]; rfl) (by decide) ?_
    refine lv_iconst (v := (-1)) hx hb dX5_kindOfLetter_104 (by decide) ?_
    exact q_retI hQ hE hr hk hst () (by rw [c_1_100]; rfl) (trivial) (rfl) dX5_kindOfLetter_105
  by_cases c_1_101 : p0 = 101
  · skip
    refine lv_tableIn (off := 103) (tgt := 104) hx hb dX5_kindOfLetter_1 (by rw [c_1_101]; decide) (by rw [c_1_101]; decide) (by rw [c_1_101]; rfl) (by decide) ?_
    refine lv_iconst (v := (-1)) hx hb dX5_kindOfLetter_104 (by decide) ?_
    exact q_retI hQ hE hr hk hst () (by rw [c_1_101]; rfl) (trivial) (rfl) dX5_kindOfLetter_105
  by_cases c_1_102 : p0 = 102
  · skip
    refine lv_tableIn (off := 97) (tgt := 98) hx hb dX5_kindOfLetter_1 (by rw [c_1_102]; decide) (by rw [c_1_102]; decide) (by rw [c_1_102]; rfl) (by decide) ?_
    refine lv_iconst (v := 3) hx hb dX5_kindOfLetter_98 (by decide) ?_
    exact q_retI hQ hE hr hk hst () (by rw [c_1_102]; rfl) (trivial) (rfl) dX5_kindOfLetter_99
  by_cases c_1_103 : p0 = 103
  · skip
    refine lv_tableIn (off := 103) (tgt := 104) hx hb dX5_kindOfLetter_1 (by rw [c_1_103]; decide) (by rw [c_1_103]; decide) (by rw [c_1_103]; rfl) (by decide) ?_
    refine lv_iconst (v := (-1)) hx hb dX5_kindOfLetter_104 (by decide) ?_
    exact q_retI hQ hE hr hk hst () (by rw [c_1_103]; rfl) (trivial) (rfl) dX5_kindOfLetter_105
  by_cases c_1_104 : p0 = 104
  · skip
    refine lv_tableIn (off := 103) (tgt := 104) hx hb dX5_kindOfLetter_1 (by rw [c_1_104]; decide) (by rw [c_1_104]; decide) (by rw [c_1_104]; rfl) (by decide) ?_
    refine lv_iconst (v := (-1)) hx hb dX5_kindOfLetter_104 (by decide) ?_
    exact q_retI hQ hE hr hk hst () (by rw [c_1_104]; rfl) (trivial) (rfl) dX5_kindOfLetter_105
  by_cases c_1_105 : p0 = 105
  · skip
    refine lv_tableIn (off := 103) (tgt := 104) hx hb dX5_kindOfLetter_1 (by rw [c_1_105]; decide) (by rw [c_1_105]; decide) (by rw [c_1_105]; rfl) (by decide) ?_
    refine lv_iconst (v := (-1)) hx hb dX5_kindOfLetter_104 (by decide) ?_
    exact q_retI hQ hE hr hk hst () (by rw [c_1_105]; rfl) (trivial) (rfl) dX5_kindOfLetter_105
  by_cases c_1_106 : p0 = 106
  · skip
    refine lv_tableIn (off := 103) (tgt := 104) hx hb dX5_kindOfLetter_1 (by rw [c_1_106]; decide) (by rw [c_1_106]; decide) (by rw [c_1_106]; rfl) (by decide) ?_
    refine lv_iconst (v := (-1)) hx hb dX5_kindOfLetter_104 (by decide) ?_
    exact q_retI hQ hE hr hk hst () (by rw [c_1_106]; rfl) (trivial) (rfl) dX5_kindOfLetter_105
  by_cases c_1_107 : p0 = 107
  · skip
    refine lv_tableIn (off := 103) (tgt := 104) hx hb dX5_kindOfLetter_1 (by rw [c_1_107]; decide) (by rw [c_1_107]; decide) (by rw [c_1_107]; rfl) (by decide) ?_
    refine lv_iconst (v := (-1)) hx hb dX5_kindOfLetter_104 (by decide) ?_
    exact q_retI hQ hE hr hk hst () (by rw [c_1_107]; rfl) (trivial) (rfl) dX5_kindOfLetter_105
  by_cases c_1_108 : p0 = 108
  · skip
    refine lv_tableIn (off := 101) (tgt := 102) hx hb dX5_kindOfLetter_1 (by rw [c_1_108]; decide) (by rw [c_1_108]; decide) (by rw [c_1_108]; rfl) (by decide) ?_
    refine lv_iconst (v := 5) hx hb dX5_kindOfLetter_102 (by decide) ?_
    exact q_retI hQ hE hr hk hst () (by rw [c_1_108]; rfl) (trivial) (rfl) dX5_kindOfLetter_103
  by_cases c_1_109 : p0 = 109
  · skip
    refine lv_tableIn (off := 103) (tgt := 104) hx hb dX5_kindOfLetter_1 (by rw [c_1_109]; decide) (by rw [c_1_109]; decide) (by rw [c_1_109]; rfl) (by decide) ?_
    refine lv_iconst (v := (-1)) hx hb dX5_kindOfLetter_104 (by decide) ?_
    exact q_retI hQ hE hr hk hst () (by rw [c_1_109]; rfl) (trivial) (rfl) dX5_kindOfLetter_105
  by_cases c_1_110 : p0 = 110
  · skip
    refine lv_tableIn (off := 95) (tgt := 96) hx hb dX5_kindOfLetter_1 (by rw [c_1_110]; decide) (by rw [c_1_110]; decide) (by rw [c_1_110]; rfl) (by decide) ?_
    refine lv_iconst (v := 2) hx hb dX5_kindOfLetter_96 (by decide) ?_
    exact q_retI hQ hE hr hk hst () (by rw [c_1_110]; rfl) (trivial) (rfl) dX5_kindOfLetter_97
  by_cases c_1_111 : p0 = 111
  · skip
    refine lv_tableIn (off := 103) (tgt := 104) hx hb dX5_kindOfLetter_1 (by rw [c_1_111]; decide) (by rw [c_1_111]; decide) (by rw [c_1_111]; rfl) (by decide) ?_
    refine lv_iconst (v := (-1)) hx hb dX5_kindOfLetter_104 (by decide) ?_
    exact q_retI hQ hE hr hk hst () (by rw [c_1_111]; rfl) (trivial) (rfl) dX5_kindOfLetter_105
  by_cases c_1_112 : p0 = 112
  · skip
    refine lv_tableIn (off := 103) (tgt := 104) hx hb dX5_kindOfLetter_1 (by rw [c_1_112]; decide) (by rw [c_1_112]; decide) (by rw [c_1_112]; rfl) (by decide) ?_
    refine lv_iconst (v := (-1)) hx hb dX5_kindOfLetter_104 (by decide) ?_
    exact q_retI hQ hE hr hk hst () (by rw [c_1_112]; rfl) (trivial) (rfl) dX5_kindOfLetter_105
  by_cases c_1_113 : p0 = 113
  · skip
    refine lv_tableIn (off := 103) (tgt := 104) hx hb dX5_kindOfLetter_1 (by rw [c_1_113]; decide) (by rw [c_1_113]; decide) (by rw [c_1_113]; rfl) (by decide) ?_
    refine lv_iconst (v := (-1)) hx hb dX5_kindOfLetter_104 (by decide) ?_
    exact q_retI hQ hE hr hk hst () (by rw [c_1_113]; rfl) (trivial) (rfl) dX5_kindOfLetter_105
  by_cases c_1_114 : p0 = 114
  · skip
    refine lv_tableIn (off := 103) (tgt := 104) hx hb dX5_kindOfLetter_1 (by rw [c_1_114]; decide) (by rw [c_1_114]; decide) (by rw [c_1_114]; rfl) (by decide) ?_
    refine lv_iconst (v := (-1)) hx hb dX5_kindOfLetter_104 (by decide) ?_
    exact q_retI hQ hE hr hk hst () (by rw [c_1_114]; rfl) (trivial) (rfl) dX5_kindOfLetter_105
  by_cases c_1_115 : p0 = 115
  · skip
    refine lv_tableIn (off := 91) (tgt := 92) hx hb dX5_kindOfLetter_1 (by rw [c_1_115]; decide) (by rw [c_1_115]; decide) (by rw [c_1_115]; rfl) (by decide) ?_
    refine lv_iconst (v := 0) hx hb dX5_kindOfLetter_92 (by decide) ?_
    exact q_retI hQ hE hr hk hst () (by rw [c_1_115]; rfl) (trivial) (rfl) dX5_kindOfLetter_93
  refine lv_tableOut (tgt := 104) hx hb dX5_kindOfLetter_1 (by have q0 := lv_neT c_1_97 (a := 97) (by decide); have q1 := lv_neT c_1_98 (a := 98) (by decide); have q2 := lv_neT c_1_99 (a := 99) (by decide); have q3 := lv_neT c_1_100 (a := 100) (by decide); have q4 := lv_neT c_1_101 (a := 101) (by decide); have q5 := lv_neT c_1_102 (a := 102) (by decide); have q6 := lv_neT c_1_103 (a := 103) (by decide); have q7 := lv_neT c_1_104 (a := 104) (by decide); have q8 := lv_neT c_1_105 (a := 105) (by decide); have q9 := lv_neT c_1_106 (a := 106) (by decide); have q10 := lv_neT c_1_107 (a := 107) (by decide); have q11 := lv_neT c_1_108 (a := 108) (by decide); have q12 := lv_neT c_1_109 (a := 109) (by decide); have q13 := lv_neT c_1_110 (a := 110) (by decide); have q14 := lv_neT c_1_111 (a := 111) (by decide); have q15 := lv_neT c_1_112 (a := 112) (by decide); have q16 := lv_neT c_1_113 (a := 113) (by decide); have q17 := lv_neT c_1_114 (a := 114) (by decide); have q18 := lv_neT c_1_115 (a := 115) (by decide); omega) (by decide) ?_
  refine lv_iconst (v := (-1)) hx hb dX5_kindOfLetter_104 (by decide) ?_
  exact q_retI hQ hE hr hk hst () (by simp [kindLet, *]) (trivial) (rfl) dX5_kindOfLetter_105
set_option maxHeartbeats 4000000 in
set_option maxRecDepth 100000 in
theorem c_X5_endOfDigits (l : Launch) (D : va_G) (cI cJ cZ : ClassId) (h : Nat) (q : Nat) (tl : Int32) (tk : Int32) (tbd : Int32) (tp : Int32) (tb : Nat → Int32) (j0 : Nat) (n0 : Nat) (hj : j0 + n0 < 2147483648) : CtI l D cI cJ cZ yX5_endOfDigits cX5_endOfDigits 4 (some .int) 3 [.ref h, .int (nI j0), .int (nI n0)] [(h, .inr (5, [.ref q, .int tl, .int tk, .int tbd, .int tp])), (q, .inl (cI, 14, .inl tb))] (fun (_ : Unit) => nI (eod tl tb n0 j0)) (fun (_ : Unit) => True) (fun (_ : Unit) => [(h, .inr (5, [.ref q, .int tl, .int tk, .int tbd, .int tp])), (q, .inl (cI, 14, .inl tb))]) := by
  refine q_entI (own := RX5) rfl rfl (Nat.le_of_ble_eq_true rfl) ?_
  intro p e s m args below meth c A ls QQ hQ hE hx hb hr hk hin hA hl hst
  have hl : lv_has ls 4 [(0, .ref h), (1, .int (nI j0)), (2, .int (nI n0))] := hl
  have loop_2 : ∀ (n : Nat) (i : Nat), (j0 ≤ i) → (i ≤ j0 + n0) → (eod tl tb n0 j0 = eod tl tb (j0 + n0 - i) i) → (j0 + n0 - i) < n → ∀ (H : Heap) (locs : List Loc) (ls : Array Slot), SS D A s [(h, .inr (5, [.ref q, .int tl, .int tk, .int tbd, .int tp])), (q, .inl (cI, 14, .inl tb))] H locs → lv_has ls 4 [(3, .int (nI i)), (0, .ref h), (1, .int (nI j0)), (2, .int (nI n0))] → W p l e (rmN 3 0 0) s m args below meth c H locs 0 0 QQ (F0 m 2 ls []) := by
    intro n
    induction n with
    | zero =>
      intro i h0 h1 h2 hn
      exact absurd hn (Nat.not_lt_zero _)
    | succ n ih =>
      intro i h0 h1 h2 hn H locs ls hst hl
      refine lv_iload_n hx hb dX5_endOfDigits_2 rfl (lv_at hl 0 rfl) ?_
      refine lv_iload_n hx hb dX5_endOfDigits_3 rfl (lv_at hl 2 rfl) ?_
      refine lv_iload_n hx hb dX5_endOfDigits_4 rfl (lv_at hl 3 rfl) ?_
      refine lv_iadd hx hb dX5_endOfDigits_5 ?_
      refine q_top (x' := nI (j0 + n0)) (nI_add j0 n0) ?_
      refine lv_icmp_ge (tgt := 23) hx hb dX5_endOfDigits_6 (by decide) (fun c_6 => ?_) (fun c_6 => ?_)
      · skip
        have hk1 : j0 + n0 ≤ i := Nat.le_of_not_lt (fun z => nI_ge z (by omega) c_6)
        refine lv_iload_n hx hb dX5_endOfDigits_23 rfl (lv_at hl 0 rfl) ?_
        exact q_retI hQ hE hr hk hst () (by rw [h2, show j0 + n0 - i = 0 by omega, eod]) (trivial) (rfl) dX5_endOfDigits_24
      · skip
        have hk1 : i < j0 + n0 := Nat.lt_of_not_le (fun z => c_6 (nI_le z (by omega)))
        refine lv_aload_n hx hb dX5_endOfDigits_9 rfl (lv_at hl 1 rfl) ?_
        refine lv_iload_n hx hb dX5_endOfDigits_10 rfl (lv_at hl 0 rfl) ?_
        refine q_goI (q_rV hE lk_X5_50 (c_X5_isDigit l D cI cJ cZ h q tl tk tbd tp tb (nI i) H.size) hst [0, 1] rfl rfl rfl rfl rfl hl.1 ⟨(Nat.le_of_ble_eq_true rfl), (Nat.le_of_ble_eq_true rfl)⟩ (rest := []) rfl (Nat.le_of_ble_eq_true rfl) dX5_endOfDigits_11 ⟨(Nat.le_of_ble_eq_true rfl), (Nat.le_of_ble_eq_true rfl)⟩) hE hst [0, 1] rfl (fun _ => rfl) (fun (_ : Unit) => [(h, .inr (5, [.ref q, .int tl, .int tk, .int tbd, .int tp])), (q, .inl (cI, 14, .inl tb))]) (fun _ => rfl) (fun _ H locs hF hst => ?_)
        refine lv_if_eq (tgt := 23) hx hb dX5_endOfDigits_14 (by decide) (fun c_14 => ?_) (fun c_14 => ?_)
        · skip
          have c_14 := b2i_f c_14
          refine lv_iload_n hx hb dX5_endOfDigits_23 rfl (lv_at hl 0 rfl) ?_
          exact q_retI hQ hE hr hk hst () (by rw [h2, show j0 + n0 - i = (j0 + n0 - (i + 1)) + 1 by omega, eod, if_neg (by rw [c_14]; decide)]) (trivial) (rfl) dX5_endOfDigits_24
        · skip
          have c_14 := b2i_t c_14
          refine lv_iinc (v := nI (i + 1)) (lv' := [(3, .int (nI (i + 1))), (0, .ref h), (1, .int (nI j0)), (2, .int (nI n0))]) hx hb dX5_endOfDigits_17 hl (k := 0) rfl (nI_next _) (by decide) rfl (fun ls hl => ?_)
          refine lv_goto (tgt := 2) hx hb dX5_endOfDigits_20 (by decide) ?_
          exact ih (i + 1) (by omega) (by omega) (by rw [h2, show j0 + n0 - i = (j0 + n0 - (i + 1)) + 1 by omega, eod, if_pos c_14]) (by omega) _ _ _ (hst) (lv_sub hl [0, 1, 2, 3] rfl)
  refine lv_iload_n hx hb dX5_endOfDigits_0 rfl (lv_at hl 1 rfl) ?_
  refine lv_istore_n (lv' := [(3, .int (nI j0)), (0, .ref h), (1, .int (nI j0)), (2, .int (nI n0))]) hx hb dX5_endOfDigits_1 rfl hl (by decide) rfl (fun ls hl => ?_)
  exact loop_2 (n0 + 1) j0 (Nat.le_refl _) (by omega) (by rw [show j0 + n0 - j0 = n0 by omega]) (by omega) _ _ _ (hst) (lv_sub hl [0, 1, 2, 3] rfl)
set_option maxHeartbeats 4000000 in
set_option maxRecDepth 100000 in
theorem c_X5_valueOf (l : Launch) (D : va_G) (cI cJ cZ : ClassId) (h : Nat) (q : Nat) (tl : Int32) (tk : Int32) (tbd : Int32) (tp : Int32) (tb : Nat → Int32) (j0 : Nat) (n0 : Nat) (hj : j0 + n0 < 2147483648) : CtI l D cI cJ cZ yX5_valueOf cX5_valueOf 5 (some .int) 2 [.ref h, .int (nI j0), .int (nI (j0 + n0))] [(h, .inr (5, [.ref q, .int tl, .int tk, .int tbd, .int tp])), (q, .inl (cI, 14, .inl tb))] (fun (_ : Unit) => valL tl tb n0 j0 0) (fun (_ : Unit) => True) (fun (_ : Unit) => [(h, .inr (5, [.ref q, .int tl, .int tk, .int tbd, .int tp])), (q, .inl (cI, 14, .inl tb))]) := by
  refine q_entI (own := RX5) rfl rfl (Nat.le_of_ble_eq_true rfl) ?_
  intro p e s m args below meth c A ls QQ hQ hE hx hb hr hk hin hA hl hst
  have hl : lv_has ls 5 [(0, .ref h), (1, .int (nI j0)), (2, .int (nI (j0 + n0)))] := hl
  have loop_5 : ∀ (n : Nat) (i : Nat) (v : Int32), (j0 ≤ i) → (i ≤ j0 + n0) → (valL tl tb n0 j0 0 = valL tl tb (j0 + n0 - i) i v) → (j0 + n0 - i) < n → ∀ (H : Heap) (locs : List Loc) (ls : Array Slot), SS D A s [(h, .inr (5, [.ref q, .int tl, .int tk, .int tbd, .int tp])), (q, .inl (cI, 14, .inl tb))] H locs → lv_has ls 5 [(4, .int (nI i)), (3, .int v), (0, .ref h), (1, .int (nI j0)), (2, .int (nI (j0 + n0)))] → W p l e (rmN 2 0 0) s m args below meth c H locs 0 0 QQ (F0 m 5 ls []) := by
    intro n
    induction n with
    | zero =>
      intro i v h0 h1 h2 hn
      exact absurd hn (Nat.not_lt_zero _)
    | succ n ih =>
      intro i v h0 h1 h2 hn H locs ls hst hl
      refine lv_iload hx hb dX5_valueOf_5 (lv_at hl 0 rfl) ?_
      refine lv_iload_n hx hb dX5_valueOf_7 rfl (lv_at hl 4 rfl) ?_
      refine lv_icmp_ge (tgt := 32) hx hb dX5_valueOf_8 (by decide) (fun c_8 => ?_) (fun c_8 => ?_)
      · skip
        have hk1 : j0 + n0 ≤ i := Nat.le_of_not_lt (fun z => nI_ge z (by omega) c_8)
        refine lv_iload_n hx hb dX5_valueOf_32 rfl (lv_at hl 1 rfl) ?_
        exact q_retI hQ hE hr hk hst () (by rw [h2, show j0 + n0 - i = 0 by omega, valL]) (trivial) (rfl) dX5_valueOf_33
      · skip
        have hk1 : i < j0 + n0 := Nat.lt_of_not_le (fun z => c_8 (nI_le z (by omega)))
        refine lv_bipush (v := 10) hx hb dX5_valueOf_11 (by decide) ?_
        refine lv_iload_n hx hb dX5_valueOf_13 rfl (lv_at hl 1 rfl) ?_
        refine lv_imul hx hb dX5_valueOf_14 ?_
        refine lv_aload_n hx hb dX5_valueOf_15 rfl (lv_at hl 2 rfl) ?_
        refine lv_iload hx hb dX5_valueOf_16 (lv_at hl 0 rfl) ?_
        refine q_goI (q_rV hE lk_X5_32 (c_X5_byteAt l D cI cJ cZ h q tl tk tbd tp tb (nI i) H.size) hst [0, 1] rfl rfl rfl rfl rfl hl.1 ⟨(Nat.le_of_ble_eq_true rfl), (Nat.le_of_ble_eq_true rfl)⟩ (rest := [.int (10 * v)]) rfl (Nat.le_of_ble_eq_true rfl) dX5_valueOf_18 ⟨(Nat.le_of_ble_eq_true rfl), (Nat.le_of_ble_eq_true rfl)⟩) hE hst [0, 1] rfl (fun _ => rfl) (fun (_ : Unit) => [(h, .inr (5, [.ref q, .int tl, .int tk, .int tbd, .int tp])), (q, .inl (cI, 14, .inl tb))]) (fun _ => rfl) (fun _ H locs hF hst => ?_)
        refine lv_iadd hx hb dX5_valueOf_21 ?_
        refine lv_bipush (v := 48) hx hb dX5_valueOf_22 (by decide) ?_
        refine lv_isub hx hb dX5_valueOf_24 ?_
        refine lv_istore_n (lv' := [(3, .int (((10 * v) + (tapeAt tl tb (nI i))) - 48)), (4, .int (nI i)), (0, .ref h), (1, .int (nI j0)), (2, .int (nI (j0 + n0)))]) hx hb dX5_valueOf_25 rfl hl (by decide) rfl (fun ls hl => ?_)
        refine lv_iinc (v := nI (i + 1)) (lv' := [(4, .int (nI (i + 1))), (3, .int (((10 * v) + (tapeAt tl tb (nI i))) - 48)), (0, .ref h), (1, .int (nI j0)), (2, .int (nI (j0 + n0)))]) hx hb dX5_valueOf_26 hl (k := 1) rfl (nI_next _) (by decide) rfl (fun ls hl => ?_)
        refine lv_goto (tgt := 5) hx hb dX5_valueOf_29 (by decide) ?_
        exact ih (i + 1) (10 * v + tapeAt tl tb (nI i) - 48) (by omega) (by omega) (by rw [h2, show j0 + n0 - i = (j0 + n0 - (i + 1)) + 1 by omega, valL]) (by omega) _ _ _ (hst) (lv_sub hl [0, 1, 2, 3, 4] rfl)
  refine lv_iconst (v := 0) hx hb dX5_valueOf_0 (by decide) ?_
  refine lv_istore_n (lv' := [(3, .int 0), (0, .ref h), (1, .int (nI j0)), (2, .int (nI (j0 + n0)))]) hx hb dX5_valueOf_1 rfl hl (by decide) rfl (fun ls hl => ?_)
  refine lv_iload_n hx hb dX5_valueOf_2 rfl (lv_at hl 2 rfl) ?_
  refine lv_istore (lv' := [(4, .int (nI j0)), (3, .int 0), (0, .ref h), (1, .int (nI j0)), (2, .int (nI (j0 + n0)))]) hx hb dX5_valueOf_3 hl (by decide) rfl (fun ls hl => ?_)
  exact loop_5 (n0 + 1) j0 0 (Nat.le_refl _) (by omega) (by rw [show j0 + n0 - j0 = n0 by omega]) (by omega) _ _ _ (hst) (lv_sub hl [0, 1, 2, 3, 4] rfl)
set_option maxHeartbeats 4000000 in
set_option maxRecDepth 100000 in
theorem c_X5_append (l : Launch) (D : va_G) (cI cJ cZ : ClassId) (h : Nat) (q : Nat) (t0 : Nat) (n0 : Nat) (tk : Int32) (tbd : Int32) (tp : Int32) (tb : Nat → Int32) (w0 : Int64) (hn0 : n0 ≤ 8) (ht : t0 + n0 ≤ 14) : CtV l D cI cJ cZ yX5_append cX5_append 5 none 1 0 0 [.ref h, .int (nI n0), .long w0] [(h, .inr (5, [.ref q, .int (nI t0), .int tk, .int tbd, .int tp])), (q, .inl (cI, 14, .inl tb))] (fun (_ : Unit) => True) (fun (_ : Unit) => [(h, .inr (5, [.ref q, .int (nI (t0 + n0)), .int tk, .int tbd, .int tp])), (q, .inl (cI, 14, .inl (appL w0 t0 tb n0)))]) := by
  refine q_entV (own := RX5) rfl rfl (Nat.le_of_ble_eq_true rfl) ?_
  intro p e s m args below meth c A ls QQ hQ hE hx hb hr hk hin hA hl hst
  have hl : lv_has ls 5 [(0, .ref h), (1, .int (nI n0)), (2, .long w0)] := hl
  have loop_3 : ∀ (n : Nat) (i : Nat), (i ≤ n0) → (n0 - i) < n → ∀ (H : Heap) (locs : List Loc) (ls : Array Slot), SS D A s [(h, .inr (5, [.ref q, .int (nI (t0 + i)), .int tk, .int tbd, .int tp])), (q, .inl (cI, 14, .inl (appL w0 t0 tb i)))] H locs → lv_has ls 5 [(4, .int (nI i)), (0, .ref h), (1, .int (nI n0)), (2, .long w0)] → W p l e (rmN 1 0 0) s m args below meth c H locs 0 0 QQ (F0 m 3 ls []) := by
    intro n
    induction n with
    | zero =>
      intro i h1 hn
      exact absurd hn (Nat.not_lt_zero _)
    | succ n ih =>
      intro i h1 hn H locs ls hst hl
      refine lv_iload hx hb dX5_append_3 (lv_at hl 0 rfl) ?_
      refine lv_iload_n hx hb dX5_append_5 rfl (lv_at hl 2 rfl) ?_
      refine lv_icmp_ge (tgt := 55) hx hb dX5_append_6 (by decide) (fun c_6 => ?_) (fun c_6 => ?_)
      · skip
        have hk1 : i = n0 := Nat.le_antisymm h1 (Nat.le_of_not_lt (fun z => nI_ge z (by omega) c_6))
        subst hk1
        exact q_retV hQ hE hr hk hst () (trivial) (rfl) dX5_append_55
      · skip
        have hk1 : i < n0 := Nat.lt_of_not_le (fun z => c_6 (nI_le z (by omega)))
        refine lv_iload hx hb dX5_append_9 (lv_at hl 0 rfl) ?_
        refine lv_bipush (v := 8) hx hb dX5_append_11 (by decide) ?_
        refine lv_icmp_ge (tgt := 55) hx hb dX5_append_13 (by decide) (fun c_13 => ?_) (fun c_13 => ?_)
        · skip
          exact absurd c_13 (nI_ge (a := i) (b := 8) (by omega) (by decide))
        · skip
          refine lv_aload_n hx hb dX5_append_16 rfl (lv_at hl 1 rfl) ?_
          refine gf_X5_9 hE hst 0 rfl rfl dX5_append_17 ?_
          refine lv_aload_n hx hb dX5_append_20 rfl (lv_at hl 1 rfl) ?_
          refine gf_X5_15 hE hst 0 rfl rfl dX5_append_21 ?_
          refine lv_lload_n hx hb dX5_append_24 rfl (lv_at hl 3 rfl) ?_
          refine lv_bipush (v := 8) hx hb dX5_append_25 (by decide) ?_
          refine lv_iload hx hb dX5_append_27 (lv_at hl 0 rfl) ?_
          refine lv_imul hx hb dX5_append_29 ?_
          refine lv_lushr (v := (w0.toUInt64 >>> ((8 * (nI i)).toInt64.toUInt64 &&& Int64.toUInt64 63)).toInt64) hx hb dX5_append_30 rfl ?_
          refine lv_l2i (v := ((w0.toUInt64 >>> ((8 * (nI i)).toInt64.toUInt64 &&& Int64.toUInt64 63)).toInt64).toInt32) hx hb dX5_append_31 rfl ?_
          refine lv_sipush (v := 255) hx hb dX5_append_32 (by decide) ?_
          refine lv_iand hx hb dX5_append_35 ?_
          refine q_goV (q_rNS hE lk_X5_28 (c_X6_put l D cI cJ cZ q 14 (appL w0 t0 tb i) (nI (t0 + i)) ((((w0.toUInt64 >>> ((8 * (nI i)).toInt64.toUInt64 &&& Int64.toUInt64 63)).toInt64).toInt32) &&& 255) (by first | assumption | decide | omega) H.size) hst [1] rfl rfl rfl hl.1 ⟨(Nat.le_of_ble_eq_true rfl), (Nat.le_of_ble_eq_true rfl)⟩ (rest := []) rfl (Nat.le_of_ble_eq_true rfl) dX5_append_36 ⟨(Nat.le_of_ble_eq_true rfl), (Nat.le_of_ble_eq_true rfl)⟩) hE hst [1] rfl (fun _ => rfl) (fun (_ : Unit) => [(h, .inr (5, [.ref q, .int (nI (t0 + i)), .int tk, .int tbd, .int tp])), (q, .inl (cI, 14, .inl (putI 14 (appL w0 t0 tb i) (nI (t0 + i)) ((((w0.toUInt64 >>> ((8 * (nI i)).toInt64.toUInt64 &&& Int64.toUInt64 63)).toInt64).toInt32) &&& 255))))]) (fun _ => rfl) (fun _ H locs hF hst => ?_)
          have hst : SS D A s [(h, .inr (5, [.ref q, .int (nI (t0 + i)), .int tk, .int tbd, .int tp])), (q, .inl (cI, 14, .inl (appL w0 t0 tb (i + 1))))] H locs := by have h := hst; rw [putI_n (by omega) (by decide)] at h; exact h
          refine lv_aload_n hx hb dX5_append_39 rfl (lv_at hl 1 rfl) ?_
          refine lv_dup hx hb dX5_append_40 rfl ?_
          refine gf_X5_15 hE hst 0 rfl rfl dX5_append_41 ?_
          refine lv_iconst (v := 1) hx hb dX5_append_44 (by decide) ?_
          refine lv_iadd hx hb dX5_append_45 ?_
          refine q_top (x' := nI (t0 + (i + 1))) (nI_1 _) ?_
          refine pf_X5_15 hE hst 0 rfl (rfl) (rfl) (Nat.le_of_ble_eq_true rfl) [(h, .inr (5, [.ref q, .int (nI (t0 + (i + 1))), .int tk, .int tbd, .int tp])), (q, .inl (cI, 14, .inl (appL w0 t0 tb (i + 1))))] rfl dX5_append_46 (fun H locs hst => ?_)
          refine lv_iinc (v := nI (i + 1)) (lv' := [(4, .int (nI (i + 1))), (0, .ref h), (1, .int (nI n0)), (2, .long w0)]) hx hb dX5_append_49 hl (k := 0) rfl (nI_next _) (by decide) rfl (fun ls hl => ?_)
          refine lv_goto (tgt := 3) hx hb dX5_append_52 (by decide) ?_
          exact ih (i + 1) (by omega) (by omega) _ _ _ (hst) (lv_sub hl [0, 1, 2, 3] rfl)
  refine lv_iconst (v := 0) hx hb dX5_append_0 (by decide) ?_
  refine lv_istore (lv' := [(4, .int 0), (0, .ref h), (1, .int (nI n0)), (2, .long w0)]) hx hb dX5_append_1 hl (by decide) rfl (fun ls hl => ?_)
  exact loop_3 (n0 + 1) 0 (Nat.zero_le _) (by omega) _ _ _ (hst) (lv_sub hl [0, 1, 2, 3] rfl)
/-! reading a text -/
def rdK (tl : Int32) (tb : Nat → Int32) : Int32 := kindLet (tapeAt tl tb 0)
def rdE (tl : Int32) (tb : Nat → Int32) : Nat := eod tl tb 3 1
def rdB (tl : Int32) (tb : Nat → Int32) : Int32 := valL tl tb (rdE tl tb - 1) 1 0
def rdZ (tl : Int32) (tb : Nat → Int32) : Nat := eod tl tb 4 (rdE tl tb + 1)
def rdP (tl : Int32) (tb : Nat → Int32) : Int32 := valL tl tb (rdZ tl tb - (rdE tl tb + 1)) (rdE tl tb + 1) 0
def rdF (tl : Int32) (tb : Nat → Int32) : Int32 :=
  if 0 ≤ rdK tl tb then
    if nI (rdE tl tb) = 1 then 1
    else if rdB tl tb < 366 then
      if tapeAt tl tb (nI (rdE tl tb)) = 44 then
        if nI (rdZ tl tb) ≤ nI (rdE tl tb + 1) then nI (rdZ tl tb)
        else if nI (rdZ tl tb) = tl then -1 else nI (rdZ tl tb)
      else nI (rdE tl tb)
    else 1
  else 0
theorem rdE_le (tl : Int32) (tb : Nat → Int32) : 1 ≤ rdE tl tb ∧ rdE tl tb ≤ 4 := eod_le tl tb 3 1
theorem rdZ_le (tl : Int32) (tb : Nat → Int32) : rdE tl tb + 1 ≤ rdZ tl tb ∧ rdZ tl tb ≤ 9 := by
  have h := eod_le tl tb 4 (rdE tl tb + 1)
  have h2 := rdE_le tl tb
  exact ⟨h.1, by unfold rdZ; omega⟩
set_option maxHeartbeats 4000000 in
set_option maxRecDepth 100000 in
theorem c_X5_read (l : Launch) (D : va_G) (cI cJ cZ : ClassId) (h : Nat) (q : Nat) (tl : Int32) (tk : Int32) (tbd : Int32) (tp : Int32) (tb : Nat → Int32) : CtI l D cI cJ cZ yX5_read cX5_read 4 (some .int) 4 [.ref h] [(h, .inr (5, [.ref q, .int tl, .int tk, .int tbd, .int tp])), (q, .inl (cI, 14, .inl tb))] (fun (u : Int32 × Int32 × Int32) => rdF tl tb) (fun (u : Int32 × Int32 × Int32) => (rdF tl tb < 0 → u.1 = rdK tl tb ∧ u.2.1 = rdB tl tb ∧ u.2.2 = rdP tl tb)) (fun (u : Int32 × Int32 × Int32) => [(h, .inr (5, [.ref q, .int tl, .int u.1, .int u.2.1, .int u.2.2])), (q, .inl (cI, 14, .inl tb))]) := by
  refine q_entI (own := RX5) rfl rfl (Nat.le_of_ble_eq_true rfl) ?_
  intro p e s m args below meth c A ls QQ hQ hE hx hb hr hk hin hA hl hst
  have hl : lv_has ls 4 [(0, .ref h)] := hl
  have hE1 := rdE_le tl tb
  have hZ1 := rdZ_le tl tb
  refine lv_aload_n hx hb dX5_read_0 rfl (lv_at hl 0 rfl) ?_
  refine lv_aload_n hx hb dX5_read_1 rfl (lv_at hl 0 rfl) ?_
  refine lv_iconst (v := 0) hx hb dX5_read_2 (by decide) ?_
  refine q_goI (q_rV hE lk_X5_32 (c_X5_byteAt l D cI cJ cZ h q tl tk tbd tp tb 0 s.heap.size) hst [0, 1] rfl rfl rfl rfl rfl hl.1 ⟨(Nat.le_of_ble_eq_true rfl), (Nat.le_of_ble_eq_true rfl)⟩ (rest := [.ref h]) rfl (Nat.le_of_ble_eq_true rfl) dX5_read_3 ⟨(Nat.le_of_ble_eq_true rfl), (Nat.le_of_ble_eq_true rfl)⟩) hE hst [0, 1] rfl (fun _ => rfl) (fun (_ : Unit) => [(h, .inr (5, [.ref q, .int tl, .int tk, .int tbd, .int tp])), (q, .inl (cI, 14, .inl tb))]) (fun _ => rfl) (fun _ H locs hF hst => ?_)
  refine q_goI (q_rS hE lk_X5_36 (c_X5_kindOfLetter l D cI cJ cZ (tapeAt tl tb 0) H.size) hst [] rfl rfl rfl hl.1 ⟨(Nat.le_of_ble_eq_true rfl), (Nat.le_of_ble_eq_true rfl)⟩ (rest := [.ref h]) rfl (Nat.le_of_ble_eq_true rfl) dX5_read_6 ⟨(Nat.le_of_ble_eq_true rfl), (Nat.le_of_ble_eq_true rfl)⟩) hE hst [] rfl (fun _ => rfl) (fun (_ : Unit) => [(h, .inr (5, [.ref q, .int tl, .int tk, .int tbd, .int tp])), (q, .inl (cI, 14, .inl tb))]) (fun _ => rfl) (fun _ H locs hF hst => ?_)
  refine pf_X5_19 hE hst 0 rfl (rfl) (rfl) (Nat.le_of_ble_eq_true rfl) [(h, .inr (5, [.ref q, .int tl, .int (rdK tl tb), .int tbd, .int tp])), (q, .inl (cI, 14, .inl tb))] rfl dX5_read_9 (fun H locs hst => ?_)
  refine lv_aload_n hx hb dX5_read_12 rfl (lv_at hl 0 rfl) ?_
  refine gf_X5_19 hE hst 0 rfl rfl dX5_read_13 ?_
  refine lv_if_ge (tgt := 21) hx hb dX5_read_16 (by decide) (fun c_16 => ?_) (fun c_16 => ?_)
  · skip
    refine lv_aload_n hx hb dX5_read_21 rfl (lv_at hl 0 rfl) ?_
    refine lv_iconst (v := 1) hx hb dX5_read_22 (by decide) ?_
    refine lv_iconst (v := 3) hx hb dX5_read_23 (by decide) ?_
    refine q_goI (q_rV hE lk_X5_39 (c_X5_endOfDigits l D cI cJ cZ h q tl (rdK tl tb) tbd tp tb 1 3 (by first | assumption | decide | omega) H.size) hst [0, 1] rfl rfl rfl rfl rfl hl.1 ⟨(Nat.le_of_ble_eq_true rfl), (Nat.le_of_ble_eq_true rfl)⟩ (rest := []) rfl (Nat.le_of_ble_eq_true rfl) dX5_read_24 ⟨(Nat.le_of_ble_eq_true rfl), (Nat.le_of_ble_eq_true rfl)⟩) hE hst [0, 1] rfl (fun _ => rfl) (fun (_ : Unit) => [(h, .inr (5, [.ref q, .int tl, .int (rdK tl tb), .int tbd, .int tp])), (q, .inl (cI, 14, .inl tb))]) (fun _ => rfl) (fun _ H locs hF hst => ?_)
    refine lv_istore_n (lv' := [(1, .int (nI (rdE tl tb))), (0, .ref h)]) hx hb dX5_read_27 rfl hl (by decide) rfl (fun ls hl => ?_)
    refine lv_aload_n hx hb dX5_read_28 rfl (lv_at hl 1 rfl) ?_
    refine lv_aload_n hx hb dX5_read_29 rfl (lv_at hl 1 rfl) ?_
    refine lv_iconst (v := 1) hx hb dX5_read_30 (by decide) ?_
    refine lv_iload_n hx hb dX5_read_31 rfl (lv_at hl 0 rfl) ?_
    refine q_top (x' := nI (1 + (rdE tl tb - 1))) (by rw [show 1 + (rdE tl tb - 1) = rdE tl tb by omega]) ?_
    refine q_goI (q_rV hE lk_X5_43 (c_X5_valueOf l D cI cJ cZ h q tl (rdK tl tb) tbd tp tb 1 (rdE tl tb - 1) (by first | assumption | decide | omega) H.size) hst [0, 1] rfl rfl rfl rfl rfl hl.1 ⟨(Nat.le_of_ble_eq_true rfl), (Nat.le_of_ble_eq_true rfl)⟩ (rest := [.ref h]) rfl (Nat.le_of_ble_eq_true rfl) dX5_read_32 ⟨(Nat.le_of_ble_eq_true rfl), (Nat.le_of_ble_eq_true rfl)⟩) hE hst [0, 1] rfl (fun _ => rfl) (fun (_ : Unit) => [(h, .inr (5, [.ref q, .int tl, .int (rdK tl tb), .int tbd, .int tp])), (q, .inl (cI, 14, .inl tb))]) (fun _ => rfl) (fun _ H locs hF hst => ?_)
    refine pf_X5_22 hE hst 0 rfl (rfl) (rfl) (Nat.le_of_ble_eq_true rfl) [(h, .inr (5, [.ref q, .int tl, .int (rdK tl tb), .int (rdB tl tb), .int tp])), (q, .inl (cI, 14, .inl tb))] rfl dX5_read_35 (fun H locs hst => ?_)
    refine lv_iload_n hx hb dX5_read_38 rfl (lv_at hl 0 rfl) ?_
    refine lv_iconst (v := 1) hx hb dX5_read_39 (by decide) ?_
    refine lv_icmp_eq (tgt := 53) hx hb dX5_read_40 (by decide) (fun c_40 => ?_) (fun c_40 => ?_)
    · skip
      refine lv_iconst (v := 1) hx hb dX5_read_53 (by decide) ?_
      exact q_retI hQ hE hr hk hst ((rdK tl tb), rdB tl tb, tp) (by rw [rdF, if_pos c_16, if_pos c_40]) (fun hz => absurd hz (by rw [rdF, if_pos c_16, if_pos c_40]; decide)) (rfl) dX5_read_54
    · skip
      refine lv_aload_n hx hb dX5_read_43 rfl (lv_at hl 1 rfl) ?_
      refine gf_X5_22 hE hst 0 rfl rfl dX5_read_44 ?_
      refine lv_sipush (v := 366) hx hb dX5_read_47 (by decide) ?_
      refine lv_icmp_lt (tgt := 55) hx hb dX5_read_50 (by decide) (fun c_50 => ?_) (fun c_50 => ?_)
      · skip
        refine lv_aload_n hx hb dX5_read_55 rfl (lv_at hl 1 rfl) ?_
        refine lv_iload_n hx hb dX5_read_56 rfl (lv_at hl 0 rfl) ?_
        refine q_goI (q_rV hE lk_X5_32 (c_X5_byteAt l D cI cJ cZ h q tl (rdK tl tb) (rdB tl tb) tp tb (nI (rdE tl tb)) H.size) hst [0, 1] rfl rfl rfl rfl rfl hl.1 ⟨(Nat.le_of_ble_eq_true rfl), (Nat.le_of_ble_eq_true rfl)⟩ (rest := []) rfl (Nat.le_of_ble_eq_true rfl) dX5_read_57 ⟨(Nat.le_of_ble_eq_true rfl), (Nat.le_of_ble_eq_true rfl)⟩) hE hst [0, 1] rfl (fun _ => rfl) (fun (_ : Unit) => [(h, .inr (5, [.ref q, .int tl, .int (rdK tl tb), .int (rdB tl tb), .int tp])), (q, .inl (cI, 14, .inl tb))]) (fun _ => rfl) (fun _ H locs hF hst => ?_)
        refine lv_bipush (v := 44) hx hb dX5_read_60 (by decide) ?_
        refine lv_icmp_eq (tgt := 67) hx hb dX5_read_62 (by decide) (fun c_62 => ?_) (fun c_62 => ?_)
        · skip
          refine lv_iload_n hx hb dX5_read_67 rfl (lv_at hl 0 rfl) ?_
          refine lv_iconst (v := 1) hx hb dX5_read_68 (by decide) ?_
          refine lv_iadd hx hb dX5_read_69 ?_
          refine q_top (x' := nI (rdE tl tb + 1)) (nI_1 _) ?_
          refine lv_istore_n (lv' := [(2, .int (nI (rdE tl tb + 1))), (1, .int (nI (rdE tl tb))), (0, .ref h)]) hx hb dX5_read_70 rfl hl (by decide) rfl (fun ls hl => ?_)
          refine lv_aload_n hx hb dX5_read_71 rfl (lv_at hl 2 rfl) ?_
          refine lv_iload_n hx hb dX5_read_72 rfl (lv_at hl 0 rfl) ?_
          refine lv_iconst (v := 4) hx hb dX5_read_73 (by decide) ?_
          refine q_goI (q_rV hE lk_X5_39 (c_X5_endOfDigits l D cI cJ cZ h q tl (rdK tl tb) (rdB tl tb) tp tb (rdE tl tb + 1) 4 (by omega) H.size) hst [0, 1] rfl rfl rfl rfl rfl hl.1 ⟨(Nat.le_of_ble_eq_true rfl), (Nat.le_of_ble_eq_true rfl)⟩ (rest := []) rfl (Nat.le_of_ble_eq_true rfl) dX5_read_74 ⟨(Nat.le_of_ble_eq_true rfl), (Nat.le_of_ble_eq_true rfl)⟩) hE hst [0, 1] rfl (fun _ => rfl) (fun (_ : Unit) => [(h, .inr (5, [.ref q, .int tl, .int (rdK tl tb), .int (rdB tl tb), .int tp])), (q, .inl (cI, 14, .inl tb))]) (fun _ => rfl) (fun _ H locs hF hst => ?_)
          refine lv_istore_n (lv' := [(3, .int (nI (rdZ tl tb))), (2, .int (nI (rdE tl tb + 1))), (1, .int (nI (rdE tl tb))), (0, .ref h)]) hx hb dX5_read_77 rfl hl (by decide) rfl (fun ls hl => ?_)
          refine lv_aload_n hx hb dX5_read_78 rfl (lv_at hl 3 rfl) ?_
          refine lv_aload_n hx hb dX5_read_79 rfl (lv_at hl 3 rfl) ?_
          refine lv_iload_n hx hb dX5_read_80 rfl (lv_at hl 1 rfl) ?_
          refine lv_iload_n hx hb dX5_read_81 rfl (lv_at hl 0 rfl) ?_
          refine q_top (x' := nI (rdE tl tb + 1 + (rdZ tl tb - (rdE tl tb + 1)))) (by rw [show rdE tl tb + 1 + (rdZ tl tb - (rdE tl tb + 1)) = rdZ tl tb by omega]) ?_
          refine q_goI (q_rV hE lk_X5_43 (c_X5_valueOf l D cI cJ cZ h q tl (rdK tl tb) (rdB tl tb) tp tb (rdE tl tb + 1) (rdZ tl tb - (rdE tl tb + 1)) (by omega) H.size) hst [0, 1] rfl rfl rfl rfl rfl hl.1 ⟨(Nat.le_of_ble_eq_true rfl), (Nat.le_of_ble_eq_true rfl)⟩ (rest := [.ref h]) rfl (Nat.le_of_ble_eq_true rfl) dX5_read_82 ⟨(Nat.le_of_ble_eq_true rfl), (Nat.le_of_ble_eq_true rfl)⟩) hE hst [0, 1] rfl (fun _ => rfl) (fun (_ : Unit) => [(h, .inr (5, [.ref q, .int tl, .int (rdK tl tb), .int (rdB tl tb), .int tp])), (q, .inl (cI, 14, .inl tb))]) (fun _ => rfl) (fun _ H locs hF hst => ?_)
          refine pf_X5_25 hE hst 0 rfl (rfl) (rfl) (Nat.le_of_ble_eq_true rfl) [(h, .inr (5, [.ref q, .int tl, .int (rdK tl tb), .int (rdB tl tb), .int (rdP tl tb)])), (q, .inl (cI, 14, .inl tb))] rfl dX5_read_85 (fun H locs hst => ?_)
          refine lv_iload_n hx hb dX5_read_88 rfl (lv_at hl 0 rfl) ?_
          refine lv_iload_n hx hb dX5_read_89 rfl (lv_at hl 1 rfl) ?_
          refine lv_icmp_le (tgt := 105) hx hb dX5_read_90 (by decide) (fun c_90 => ?_) (fun c_90 => ?_)
          · skip
            refine lv_iload_n hx hb dX5_read_105 rfl (lv_at hl 0 rfl) ?_
            exact q_retI hQ hE hr hk hst ((rdK tl tb), (rdB tl tb), rdP tl tb) (by rw [rdF, if_pos c_16, if_neg c_40, if_pos c_50, if_pos c_62, if_pos c_90]) (fun hz => absurd hz (by rw [rdF, if_pos c_16, if_neg c_40, if_pos c_50, if_pos c_62, if_pos c_90]; exact nI_pos (by omega))) (rfl) dX5_read_106
          · skip
            refine lv_iload_n hx hb dX5_read_93 rfl (lv_at hl 0 rfl) ?_
            refine lv_aload_n hx hb dX5_read_94 rfl (lv_at hl 3 rfl) ?_
            refine gf_X5_15 hE hst 0 rfl rfl dX5_read_95 ?_
            refine lv_icmp_ne (tgt := 105) hx hb dX5_read_98 (by decide) (fun c_98 => ?_) (fun c_98 => ?_)
            · skip
              refine lv_iload_n hx hb dX5_read_105 rfl (lv_at hl 0 rfl) ?_
              exact q_retI hQ hE hr hk hst ((rdK tl tb), (rdB tl tb), rdP tl tb) (by rw [rdF, if_pos c_16, if_neg c_40, if_pos c_50, if_pos c_62, if_neg c_90, if_neg c_98]) (fun hz => absurd hz (by rw [rdF, if_pos c_16, if_neg c_40, if_pos c_50, if_pos c_62, if_neg c_90, if_neg c_98]; exact nI_pos (by omega))) (rfl) dX5_read_106
            · skip
              refine lv_iconst (v := (-1)) hx hb dX5_read_101 (by decide) ?_
              refine lv_goto (tgt := 106) hx hb dX5_read_102 (by decide) ?_
              exact q_retI hQ hE hr hk hst ((rdK tl tb), (rdB tl tb), rdP tl tb) (by rw [rdF, if_pos c_16, if_neg c_40, if_pos c_50, if_pos c_62, if_neg c_90, if_pos c_98]) (fun _ => ⟨rfl, rfl, rfl⟩) (rfl) dX5_read_106
        · skip
          refine lv_iload_n hx hb dX5_read_65 rfl (lv_at hl 0 rfl) ?_
          exact q_retI hQ hE hr hk hst ((rdK tl tb), (rdB tl tb), tp) (by rw [rdF, if_pos c_16, if_neg c_40, if_pos c_50, if_neg c_62]) (fun hz => absurd hz (by rw [rdF, if_pos c_16, if_neg c_40, if_pos c_50, if_neg c_62]; exact nI_pos (by omega))) (rfl) dX5_read_66
      · skip
        refine lv_iconst (v := 1) hx hb dX5_read_53 (by decide) ?_
        exact q_retI hQ hE hr hk hst ((rdK tl tb), rdB tl tb, tp) (by rw [rdF, if_pos c_16, if_neg c_40, if_neg c_50]) (fun hz => absurd hz (by rw [rdF, if_pos c_16, if_neg c_40, if_neg c_50]; decide)) (rfl) dX5_read_54
  · skip
    refine lv_iconst (v := 0) hx hb dX5_read_19 (by decide) ?_
    exact q_retI hQ hE hr hk hst (rdK tl tb, tbd, tp) (by rw [rdF, if_neg c_16]) (fun hz => absurd hz (by rw [rdF, if_neg c_16]; decide)) (rfl) dX5_read_20
