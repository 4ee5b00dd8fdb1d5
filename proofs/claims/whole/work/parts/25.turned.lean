/-! bits of the days seen -/
def filL (v : Int64) (f : Nat → Int64) (i : Nat) : Nat → Int64 := fun j => if j < i then v else f j
theorem filL_0 (v : Int64) (f : Nat → Int64) : filL v f 0 = f := by funext j; unfold filL; rw [if_neg (Nat.not_lt_zero _)]
theorem filL_s (v : Int64) (f : Nat → Int64) {i : Nat} (hi : i < 2147483648) : vp_updL (filL v f i) (nI i).toNatClampNeg v = filL v f (i + 1) := by
  rw [nI_clamp hi]
  funext j
  unfold vp_updL filL
  by_cases h : j = i
  · rw [if_pos h, if_pos (by omega)]
  · rw [if_neg h]
    by_cases h2 : j < i
    · rw [if_pos h2, if_pos (by omega)]
    · rw [if_neg h2, if_neg (by omega)]
theorem filL_all (v : Int64) (f : Nat → Int64) (n : Nat) (j : Nat) (hj : j < n) : filL v f n j = v := if_pos hj
def shU (i : Int32) (x : Int64) : Int64 := (x.toUInt64 >>> (i.toInt64.toUInt64 &&& Int64.toUInt64 63)).toInt64
def pc1 (x : Int64) : Int64 := x - (shU 1 x &&& 6148914691236517205)
def pc2 (x : Int64) : Int64 := (x &&& 3689348814741910323) + (shU 2 x &&& 3689348814741910323)
def pc3 (x : Int64) : Int64 := (x + shU 4 x) &&& 1085102592571150095
def pc4 (i : Int32) (x : Int64) : Int64 := x + shU i x
def pcI (x : Int64) : Int32 := (pc4 32 (pc4 16 (pc4 8 (pc3 (pc2 (pc1 x)))))).toInt32 &&& 127
set_option maxHeartbeats 4000000 in
set_option maxRecDepth 100000 in
theorem c_J7_fill_d0a16 (l : Launch) (D : va_G) (cI cJ cZ : ClassId) (q : Nat) (N0 : Nat) (v0 : Int64) (f : Nat → Int64) (hN : N0 < 2147483648) : CtV l D cI cJ cZ yJ7_fill_d0a16 cJ7_fill_d0a16 5 none 0 0 0 [.ref q, .long v0] [(q, .inl (cJ, N0, .inr (.inl f)))] (fun (_ : Unit) => True) (fun (_ : Unit) => [(q, .inl (cJ, N0, .inr (.inl (fun _ => v0))))]) := by
  refine q_entV (own := RJ7) rfl rfl (Nat.le_of_ble_eq_true rfl) ?_
  intro p e s m args below meth c A ls QQ hQ hE hx hb hr hk hin hA hl hst
  have hl : lv_has ls 5 [(0, .ref q), (1, .long v0)] := hl
  have loop_6 : ∀ (fu : Nat) (kx : Nat), (kx ≤ N0) → (N0 - kx) < fu → ∀ (H : Heap) (locs : List Loc) (ls : Array Slot), SS D A s [(q, .inl (cJ, N0, .inr (.inl (filL v0 f kx))))] H locs → lv_has ls 5 [(3, .int (nI kx)), (4, .int (nI N0)), (0, .ref q), (1, .long v0)] → W p l e (rmN 0 0 0) s m args below meth c H locs 0 0 QQ (F0 m 6 ls []) := by
    intro fu
    induction fu with
    | zero =>
      intro kx h1 hn
      exact absurd hn (Nat.not_lt_zero _)
    | succ fu ih =>
      intro kx h1 hn H locs ls hst hl
      refine lv_iload_n hx hb dJ7_fill_d0a16_6 rfl (lv_at hl 0 rfl) ?_
      refine lv_iload hx hb dJ7_fill_d0a16_7 (lv_at hl 1 rfl) ?_
      refine lv_icmp_ge (tgt := 22) hx hb dJ7_fill_d0a16_9 (by decide) (fun c_9 => ?_) (fun c_9 => ?_)
      · skip
        have hk1 : N0 = kx := Nat.le_antisymm (Nat.le_of_not_lt (fun z => nI_ge z (by omega) c_9)) h1
        have hst : SS D A s [(q, .inl (cJ, N0, .inr (.inl (fun _ => v0))))] H locs := q_arrL hst 0 rfl (fun j hj => filL_all v0 f kx j (by omega)) _ rfl
        exact q_retV hQ hE hr hk hst () (trivial) (rfl) dJ7_fill_d0a16_22
      · skip
        have hk1 : kx < N0 := Nat.lt_of_not_le (fun z => c_9 (nI_le z (by omega)))
        refine lv_aload_n hx hb dJ7_fill_d0a16_12 rfl (lv_at hl 2 rfl) ?_
        refine lv_iload_n hx hb dJ7_fill_d0a16_13 rfl (lv_at hl 0 rfl) ?_
        refine lv_lload_n hx hb dJ7_fill_d0a16_14 rfl (lv_at hl 3 rfl) ?_
        refine q_last hE hst 0 rfl (vp_in_nI hk1 hN) [(q, .inl (cJ, N0, .inr (.inl (vp_updL (filL v0 f kx) (nI kx).toNatClampNeg v0))))] rfl dJ7_fill_d0a16_15 (fun H locs hst => ?_)
        have hst : SS D A s [(q, .inl (cJ, N0, .inr (.inl (filL v0 f (kx + 1)))))] H locs := by have h := hst; rw [filL_s v0 f (by omega)] at h; exact h
        refine lv_iinc (v := nI (kx + 1)) (lv' := [(3, .int (nI (kx + 1))), (4, .int (nI N0)), (0, .ref q), (1, .long v0)]) hx hb dJ7_fill_d0a16_16 hl (k := 0) rfl (nI_next _) (by decide) rfl (fun ls hl => ?_)
        refine lv_goto (tgt := 6) hx hb dJ7_fill_d0a16_19 (by decide) ?_
        exact ih (kx + 1) (by omega) (by omega) _ _ _ (hst) (lv_sub hl [0, 1, 2, 3] rfl)
  refine lv_iconst (v := 0) hx hb dJ7_fill_d0a16_0 (by decide) ?_
  refine lv_istore_n (lv' := [(3, .int 0), (0, .ref q), (1, .long v0)]) hx hb dJ7_fill_d0a16_1 rfl hl (by decide) rfl (fun ls hl => ?_)
  refine lv_aload_n hx hb dJ7_fill_d0a16_2 rfl (lv_at hl 1 rfl) ?_
  refine q_lenL hE hst 0 rfl dJ7_fill_d0a16_3 ?_
  refine lv_istore (lv' := [(4, .int (nI N0)), (3, .int 0), (0, .ref q), (1, .long v0)]) hx hb dJ7_fill_d0a16_4 hl (by decide) rfl (fun ls hl => ?_)
  exact loop_6 (N0 + 1) 0 (Nat.zero_le _) (by omega) _ _ _ (by rw [filL_0]; exact hst) (lv_sub hl [1, 0, 2, 3] rfl)
set_option maxHeartbeats 4000000 in
set_option maxRecDepth 100000 in
theorem c_J13_bitCount_95d88 (l : Launch) (D : va_G) (cI cJ cZ : ClassId) (x0 : Int64) : CtI l D cI cJ cZ yJ13_bitCount_95d88 cJ13_bitCount_95d88 2 (some .int) 0 [.long x0] [] (fun (_ : Unit) => pcI x0) (fun (_ : Unit) => True) (fun (_ : Unit) => []) := by
  refine q_entI (own := RJ13) rfl rfl (Nat.le_of_ble_eq_true rfl) ?_
  intro p e s m args below meth c A ls QQ hQ hE hx hb hr hk hin hA hl hst
  have hl : lv_has ls 2 [(0, .long x0)] := hl
  refine lv_lload_n hx hb dJ13_bitCount_95d88_0 rfl (lv_at hl 0 rfl) ?_
  refine lv_lload_n hx hb dJ13_bitCount_95d88_1 rfl (lv_at hl 0 rfl) ?_
  refine lv_iconst (v := 1) hx hb dJ13_bitCount_95d88_2 (by decide) ?_
  refine lv_lushr (v := (x0.toUInt64 >>> ((1 : Int32).toInt64.toUInt64 &&& Int64.toUInt64 63)).toInt64) hx hb dJ13_bitCount_95d88_3 rfl ?_
  refine q_ldc2 hE wk_2_199 dJ13_bitCount_95d88_4 ?_
  refine lv_land hx hb dJ13_bitCount_95d88_7 ?_
  refine lv_lsub hx hb dJ13_bitCount_95d88_8 ?_
  refine q_topL (x' := pc1 x0) (rfl) ?_
  refine lv_lstore_n (lv' := [(0, .long (pc1 x0))]) hx hb dJ13_bitCount_95d88_9 rfl hl (by decide) rfl (fun ls hl => ?_)
  refine lv_lload_n hx hb dJ13_bitCount_95d88_10 rfl (lv_at hl 0 rfl) ?_
  refine q_ldc2 hE wk_2_200 dJ13_bitCount_95d88_11 ?_
  refine lv_land hx hb dJ13_bitCount_95d88_14 ?_
  refine lv_lload_n hx hb dJ13_bitCount_95d88_15 rfl (lv_at hl 0 rfl) ?_
  refine lv_iconst (v := 2) hx hb dJ13_bitCount_95d88_16 (by decide) ?_
  refine lv_lushr (v := ((pc1 x0).toUInt64 >>> ((2 : Int32).toInt64.toUInt64 &&& Int64.toUInt64 63)).toInt64) hx hb dJ13_bitCount_95d88_17 rfl ?_
  refine q_ldc2 hE wk_2_200 dJ13_bitCount_95d88_18 ?_
  refine lv_land hx hb dJ13_bitCount_95d88_21 ?_
  refine lv_ladd hx hb dJ13_bitCount_95d88_22 ?_
  refine q_topL (x' := pc2 (pc1 x0)) (rfl) ?_
  refine lv_lstore_n (lv' := [(0, .long (pc2 (pc1 x0)))]) hx hb dJ13_bitCount_95d88_23 rfl hl (by decide) rfl (fun ls hl => ?_)
  refine lv_lload_n hx hb dJ13_bitCount_95d88_24 rfl (lv_at hl 0 rfl) ?_
  refine lv_lload_n hx hb dJ13_bitCount_95d88_25 rfl (lv_at hl 0 rfl) ?_
  refine lv_iconst (v := 4) hx hb dJ13_bitCount_95d88_26 (by decide) ?_
  refine lv_lushr (v := ((pc2 (pc1 x0)).toUInt64 >>> ((4 : Int32).toInt64.toUInt64 &&& Int64.toUInt64 63)).toInt64) hx hb dJ13_bitCount_95d88_27 rfl ?_
  refine lv_ladd hx hb dJ13_bitCount_95d88_28 ?_
  refine q_ldc2 hE wk_2_201 dJ13_bitCount_95d88_29 ?_
  refine lv_land hx hb dJ13_bitCount_95d88_32 ?_
  refine q_topL (x' := pc3 (pc2 (pc1 x0))) (rfl) ?_
  refine lv_lstore_n (lv' := [(0, .long (pc3 (pc2 (pc1 x0))))]) hx hb dJ13_bitCount_95d88_33 rfl hl (by decide) rfl (fun ls hl => ?_)
  refine lv_lload_n hx hb dJ13_bitCount_95d88_34 rfl (lv_at hl 0 rfl) ?_
  refine lv_lload_n hx hb dJ13_bitCount_95d88_35 rfl (lv_at hl 0 rfl) ?_
  refine lv_bipush (v := 8) hx hb dJ13_bitCount_95d88_36 (by decide) ?_
  refine lv_lushr (v := ((pc3 (pc2 (pc1 x0))).toUInt64 >>> ((8 : Int32).toInt64.toUInt64 &&& Int64.toUInt64 63)).toInt64) hx hb dJ13_bitCount_95d88_38 rfl ?_
  refine lv_ladd hx hb dJ13_bitCount_95d88_39 ?_
  refine q_topL (x' := pc4 8 (pc3 (pc2 (pc1 x0)))) (rfl) ?_
  refine lv_lstore_n (lv' := [(0, .long (pc4 8 (pc3 (pc2 (pc1 x0)))))]) hx hb dJ13_bitCount_95d88_40 rfl hl (by decide) rfl (fun ls hl => ?_)
  refine lv_lload_n hx hb dJ13_bitCount_95d88_41 rfl (lv_at hl 0 rfl) ?_
  refine lv_lload_n hx hb dJ13_bitCount_95d88_42 rfl (lv_at hl 0 rfl) ?_
  refine lv_bipush (v := 16) hx hb dJ13_bitCount_95d88_43 (by decide) ?_
  refine lv_lushr (v := ((pc4 8 (pc3 (pc2 (pc1 x0)))).toUInt64 >>> ((16 : Int32).toInt64.toUInt64 &&& Int64.toUInt64 63)).toInt64) hx hb dJ13_bitCount_95d88_45 rfl ?_
  refine lv_ladd hx hb dJ13_bitCount_95d88_46 ?_
  refine q_topL (x' := pc4 16 (pc4 8 (pc3 (pc2 (pc1 x0))))) (rfl) ?_
  refine lv_lstore_n (lv' := [(0, .long (pc4 16 (pc4 8 (pc3 (pc2 (pc1 x0))))))]) hx hb dJ13_bitCount_95d88_47 rfl hl (by decide) rfl (fun ls hl => ?_)
  refine lv_lload_n hx hb dJ13_bitCount_95d88_48 rfl (lv_at hl 0 rfl) ?_
  refine lv_lload_n hx hb dJ13_bitCount_95d88_49 rfl (lv_at hl 0 rfl) ?_
  refine lv_bipush (v := 32) hx hb dJ13_bitCount_95d88_50 (by decide) ?_
  refine lv_lushr (v := ((pc4 16 (pc4 8 (pc3 (pc2 (pc1 x0))))).toUInt64 >>> ((32 : Int32).toInt64.toUInt64 &&& Int64.toUInt64 63)).toInt64) hx hb dJ13_bitCount_95d88_52 rfl ?_
  refine lv_ladd hx hb dJ13_bitCount_95d88_53 ?_
  refine q_topL (x' := pc4 32 (pc4 16 (pc4 8 (pc3 (pc2 (pc1 x0)))))) (rfl) ?_
  refine lv_lstore_n (lv' := [(0, .long (pc4 32 (pc4 16 (pc4 8 (pc3 (pc2 (pc1 x0)))))))]) hx hb dJ13_bitCount_95d88_54 rfl hl (by decide) rfl (fun ls hl => ?_)
  refine lv_lload_n hx hb dJ13_bitCount_95d88_55 rfl (lv_at hl 0 rfl) ?_
  refine lv_l2i (v := (pc4 32 (pc4 16 (pc4 8 (pc3 (pc2 (pc1 x0)))))).toInt32) hx hb dJ13_bitCount_95d88_56 rfl ?_
  refine lv_bipush (v := 127) hx hb dJ13_bitCount_95d88_57 (by decide) ?_
  refine lv_iand hx hb dJ13_bitCount_95d88_59 ?_
  exact q_retI hQ hE hr hk hst () (rfl) (trivial) (rfl) dJ13_bitCount_95d88_60
def saW (sn : Nat → Int64) (v : Nat) : Int64 := shU 1 (shU (nI (v % 64)) (sn (v / 64)))
def sabI (sn : Nat → Int64) (v : Nat) : Nat → Int32
  | 0 => pcI (saW sn v)
  | i + 1 => sabI sn v i + pcI (sn (v / 64 + 1 + i))
def mkW (sn : Nat → Int64) (v : Nat) : Nat → Int64 := vp_updL sn (v / 64) (sn (v / 64) ||| 1 <<< ((nI (v % 64)).toInt64 &&& 63))
def tpN (v : Nat → Nat) : Nat → (Nat → Int64) × Int32
  | 0 => (fun _ => 0, 0)
  | i + 1 => (mkW (tpN v i).1 (v i), (tpN v i).2 + sabI (tpN v i).1 (v i) (5 - v i / 64))
set_option maxHeartbeats 4000000 in
set_option maxRecDepth 100000 in
theorem c_X0_seenAbove (l : Launch) (D : va_G) (cI cJ cZ : ClassId) (h : Nat) (qn : Nat) (qd : Nat) (qr : Nat) (qs : Nat) (se : Int32) (sh : Int32) (sp : Int32) (de : Int32) (po : Int32) (lo : Int32) (v0 : Nat) (sn : Nat → Int64) (hv0 : v0 < 384) : CtI l D cI cJ cZ yX0_seenAbove cX0_seenAbove 5 (some .int) 1 [.ref h, .int (nI v0)] [(h, .inr (0, [.int se, .int sh, .int sp, .int de, .int po, .ref qn, .ref qd, .ref qr, .ref qs, .int lo])), (qs, .inl (cJ, 6, .inr (.inl sn)))] (fun (_ : Unit) => sabI sn v0 (5 - v0 / 64)) (fun (_ : Unit) => True) (fun (_ : Unit) => [(h, .inr (0, [.int se, .int sh, .int sp, .int de, .int po, .ref qn, .ref qd, .ref qr, .ref qs, .int lo])), (qs, .inl (cJ, 6, .inr (.inl sn)))]) := by
  refine q_entI (own := RX0) rfl rfl (Nat.le_of_ble_eq_true rfl) ?_
  intro p e s m args below meth c A ls QQ hQ hE hx hb hr hk hin hA hl hst
  have hl : lv_has ls 5 [(0, .ref h), (1, .int (nI v0))] := hl
  have loop_42 : ∀ (fu : Nat) (ix : Nat), (v0 / 64 + 1 + ix ≤ 6) → (6 - ix) < fu → ∀ (H : Heap) (locs : List Loc) (ls : Array Slot), SS D A s [(h, .inr (0, [.int se, .int sh, .int sp, .int de, .int po, .ref qn, .ref qd, .ref qr, .ref qs, .int lo])), (qs, .inl (cJ, 6, .inr (.inl sn)))] H locs → lv_has ls 5 [(4, .int (nI (v0 / 64 + 1 + ix))), (3, .int (sabI sn v0 ix)), (0, .ref h), (1, .int (nI v0))] → W p l e (rmN 1 0 0) s m args below meth c H locs 0 0 QQ (F0 m 42 ls []) := by
    intro fu
    induction fu with
    | zero =>
      intro ix h1 hn
      exact absurd hn (Nat.not_lt_zero _)
    | succ fu ih =>
      intro ix h1 hn H locs ls hst hl
      refine lv_iload hx hb dX0_seenAbove_42 (lv_at hl 0 rfl) ?_
      refine lv_aload_n hx hb dX0_seenAbove_44 rfl (lv_at hl 2 rfl) ?_
      refine gf_X0_38 hE hst 0 rfl rfl dX0_seenAbove_45 ?_
      refine q_lenL hE hst 1 rfl dX0_seenAbove_48 ?_
      refine lv_icmp_ge (tgt := 71) hx hb dX0_seenAbove_49 (by decide) (fun c_49 => ?_) (fun c_49 => ?_)
      · skip
        have hk1 : ix = 5 - v0 / 64 := by have := Nat.le_of_not_lt (fun z => nI_ge (a := v0 / 64 + 1 + ix) (b := 6) z (by decide) c_49); omega
        refine lv_iload_n hx hb dX0_seenAbove_71 rfl (lv_at hl 1 rfl) ?_
        exact q_retI hQ hE hr hk hst () (by rw [hk1]) (trivial) (rfl) dX0_seenAbove_72
      · skip
        have hk1 : v0 / 64 + 1 + ix < 6 := Nat.lt_of_not_le (fun z => c_49 (nI_le (a := 6) z (by omega)))
        refine lv_iload_n hx hb dX0_seenAbove_52 rfl (lv_at hl 1 rfl) ?_
        refine lv_aload_n hx hb dX0_seenAbove_53 rfl (lv_at hl 2 rfl) ?_
        refine gf_X0_38 hE hst 0 rfl rfl dX0_seenAbove_54 ?_
        refine lv_iload hx hb dX0_seenAbove_57 (lv_at hl 0 rfl) ?_
        refine q_lald hE hst 1 rfl (vp_in_nI hk1 (by decide)) dX0_seenAbove_59 ?_
        refine q_topL (x' := sn (v0 / 64 + 1 + ix)) (by rw [nI_clamp (by omega)]) ?_
        refine q_goI (q_rS hE lk_X0_140 (c_J13_bitCount_95d88 l D cI cJ cZ (sn (v0 / 64 + 1 + ix)) H.size) hst [] rfl rfl rfl hl.1 ⟨(Nat.le_of_ble_eq_true rfl), (Nat.le_of_ble_eq_true rfl)⟩ (rest := [.int (sabI sn v0 ix)]) rfl (Nat.le_of_ble_eq_true rfl) dX0_seenAbove_60 ⟨(Nat.le_of_ble_eq_true rfl), (Nat.le_of_ble_eq_true rfl)⟩) hE hst [] rfl (fun _ => rfl) (fun (_ : Unit) => [(h, .inr (0, [.int se, .int sh, .int sp, .int de, .int po, .ref qn, .ref qd, .ref qr, .ref qs, .int lo])), (qs, .inl (cJ, 6, .inr (.inl sn)))]) (fun _ => rfl) (fun _ H locs hF hst => ?_)
        refine lv_iadd hx hb dX0_seenAbove_63 ?_
        refine lv_istore_n (lv' := [(3, .int ((sabI sn v0 ix) + (pcI (sn (v0 / 64 + 1 + ix))))), (4, .int (nI (v0 / 64 + 1 + ix))), (0, .ref h), (1, .int (nI v0))]) hx hb dX0_seenAbove_64 rfl hl (by decide) rfl (fun ls hl => ?_)
        refine lv_iinc (v := nI ((v0 / 64 + 1 + ix) + 1)) (lv' := [(4, .int (nI ((v0 / 64 + 1 + ix) + 1))), (3, .int ((sabI sn v0 ix) + (pcI (sn (v0 / 64 + 1 + ix))))), (0, .ref h), (1, .int (nI v0))]) hx hb dX0_seenAbove_65 hl (k := 1) rfl (nI_next _) (by decide) rfl (fun ls hl => ?_)
        refine lv_goto (tgt := 42) hx hb dX0_seenAbove_68 (by decide) ?_
        exact ih (ix + 1) (by omega) (by omega) _ _ _ (hst) (lv_sub hl [0, 1, 2, 3] rfl)
  refine lv_iload_n hx hb dX0_seenAbove_0 rfl (lv_at hl 1 rfl) ?_
  refine lv_bipush (v := 6) hx hb dX0_seenAbove_1 (by decide) ?_
  refine lv_ishr hx hb dX0_seenAbove_3 ?_
  refine q_top (x' := nI (v0 / 64)) (pk_shrN (by omega) (6 &&& 31) 6 (by decide)) ?_
  refine lv_istore_n (lv' := [(2, .int (nI (v0 / 64))), (0, .ref h), (1, .int (nI v0))]) hx hb dX0_seenAbove_4 rfl hl (by decide) rfl (fun ls hl => ?_)
  refine lv_iload_n hx hb dX0_seenAbove_5 rfl (lv_at hl 0 rfl) ?_
  refine lv_if_lt (tgt := 18) hx hb dX0_seenAbove_6 (by decide) (fun c_6 => ?_) (fun c_6 => ?_)
  · skip
    exact absurd c_6 (nI_pos (by omega))
  · skip
    refine lv_iload_n hx hb dX0_seenAbove_9 rfl (lv_at hl 0 rfl) ?_
    refine lv_aload_n hx hb dX0_seenAbove_10 rfl (lv_at hl 1 rfl) ?_
    refine gf_X0_38 hE hst 0 rfl rfl dX0_seenAbove_11 ?_
    refine q_lenL hE hst 1 rfl dX0_seenAbove_14 ?_
    refine lv_icmp_lt (tgt := 20) hx hb dX0_seenAbove_15 (by decide) (fun c_15 => ?_) (fun c_15 => ?_)
    · skip
      refine lv_aload_n hx hb dX0_seenAbove_20 rfl (lv_at hl 1 rfl) ?_
      refine gf_X0_38 hE hst 0 rfl rfl dX0_seenAbove_21 ?_
      refine lv_iload_n hx hb dX0_seenAbove_24 rfl (lv_at hl 0 rfl) ?_
      refine q_lald hE hst 1 rfl (vp_in_nI (by omega) (by decide)) dX0_seenAbove_25 ?_
      refine q_topL (x' := sn (v0 / 64)) (by rw [nI_clamp (by omega)]) ?_
      refine lv_iload_n hx hb dX0_seenAbove_26 rfl (lv_at hl 2 rfl) ?_
      refine lv_bipush (v := 63) hx hb dX0_seenAbove_27 (by decide) ?_
      refine lv_iand hx hb dX0_seenAbove_29 ?_
      refine q_top (x' := nI (v0 % 64)) (pk_andN (by omega) 6 (by decide)) ?_
      refine lv_lushr (v := ((sn (v0 / 64)).toUInt64 >>> ((nI (v0 % 64)).toInt64.toUInt64 &&& Int64.toUInt64 63)).toInt64) hx hb dX0_seenAbove_30 rfl ?_
      refine lv_iconst (v := 1) hx hb dX0_seenAbove_31 (by decide) ?_
      refine lv_lushr (v := ((((sn (v0 / 64)).toUInt64 >>> ((nI (v0 % 64)).toInt64.toUInt64 &&& Int64.toUInt64 63)).toInt64).toUInt64 >>> ((1 : Int32).toInt64.toUInt64 &&& Int64.toUInt64 63)).toInt64) hx hb dX0_seenAbove_32 rfl ?_
      refine q_topL (x' := saW sn v0) (rfl) ?_
      refine q_goI (q_rS hE lk_X0_140 (c_J13_bitCount_95d88 l D cI cJ cZ (saW sn v0) s.heap.size) hst [] rfl rfl rfl hl.1 ⟨(Nat.le_of_ble_eq_true rfl), (Nat.le_of_ble_eq_true rfl)⟩ (rest := []) rfl (Nat.le_of_ble_eq_true rfl) dX0_seenAbove_33 ⟨(Nat.le_of_ble_eq_true rfl), (Nat.le_of_ble_eq_true rfl)⟩) hE hst [] rfl (fun _ => rfl) (fun (_ : Unit) => [(h, .inr (0, [.int se, .int sh, .int sp, .int de, .int po, .ref qn, .ref qd, .ref qr, .ref qs, .int lo])), (qs, .inl (cJ, 6, .inr (.inl sn)))]) (fun _ => rfl) (fun _ H locs hF hst => ?_)
      refine lv_istore_n (lv' := [(3, .int (pcI (saW sn v0))), (2, .int (nI (v0 / 64))), (0, .ref h), (1, .int (nI v0))]) hx hb dX0_seenAbove_36 rfl hl (by decide) rfl (fun ls hl => ?_)
      refine lv_iload_n hx hb dX0_seenAbove_37 rfl (lv_at hl 1 rfl) ?_
      refine lv_iconst (v := 1) hx hb dX0_seenAbove_38 (by decide) ?_
      refine lv_iadd hx hb dX0_seenAbove_39 ?_
      refine q_top (x' := nI (v0 / 64 + 1 + 0)) (nI_1 _) ?_
      refine lv_istore (lv' := [(4, .int (nI (v0 / 64 + 1 + 0))), (3, .int (pcI (saW sn v0))), (2, .int (nI (v0 / 64))), (0, .ref h), (1, .int (nI v0))]) hx hb dX0_seenAbove_40 hl (by decide) rfl (fun ls hl => ?_)
      exact loop_42 (7) 0 (by omega) (by decide) _ _ _ (hst) (lv_sub hl [0, 1, 3, 4] rfl)
    · skip
      exact absurd (nI_lt (a := v0 / 64) (b := 6) (by omega) (by decide)) c_15
set_option maxHeartbeats 4000000 in
set_option maxRecDepth 100000 in
theorem c_X0_markSeen (l : Launch) (D : va_G) (cI cJ cZ : ClassId) (h : Nat) (qn : Nat) (qd : Nat) (qr : Nat) (qs : Nat) (se : Int32) (sh : Int32) (sp : Int32) (de : Int32) (po : Int32) (lo : Int32) (v0 : Nat) (sn : Nat → Int64) (hv0 : v0 < 384) : CtV l D cI cJ cZ yX0_markSeen cX0_markSeen 3 none 0 0 0 [.ref h, .int (nI v0)] [(h, .inr (0, [.int se, .int sh, .int sp, .int de, .int po, .ref qn, .ref qd, .ref qr, .ref qs, .int lo])), (qs, .inl (cJ, 6, .inr (.inl sn)))] (fun (_ : Unit) => True) (fun (_ : Unit) => [(h, .inr (0, [.int se, .int sh, .int sp, .int de, .int po, .ref qn, .ref qd, .ref qr, .ref qs, .int lo])), (qs, .inl (cJ, 6, .inr (.inl (mkW sn v0))))]) := by
  refine q_entV (own := RX0) rfl rfl (Nat.le_of_ble_eq_true rfl) ?_
  intro p e s m args below meth c A ls QQ hQ hE hx hb hr hk hin hA hl hst
  have hl : lv_has ls 3 [(0, .ref h), (1, .int (nI v0))] := hl
  refine lv_iload_n hx hb dX0_markSeen_0 rfl (lv_at hl 1 rfl) ?_
  refine lv_bipush (v := 6) hx hb dX0_markSeen_1 (by decide) ?_
  refine lv_ishr hx hb dX0_markSeen_3 ?_
  refine q_top (x' := nI (v0 / 64)) (pk_shrN (by omega) (6 &&& 31) 6 (by decide)) ?_
  refine lv_istore_n (lv' := [(2, .int (nI (v0 / 64))), (0, .ref h), (1, .int (nI v0))]) hx hb dX0_markSeen_4 rfl hl (by decide) rfl (fun ls hl => ?_)
  refine lv_iload_n hx hb dX0_markSeen_5 rfl (lv_at hl 0 rfl) ?_
  refine lv_if_lt (tgt := 33) hx hb dX0_markSeen_6 (by decide) (fun c_6 => ?_) (fun c_6 => ?_)
  · skip
    exact absurd c_6 (nI_pos (by omega))
  · skip
    refine lv_iload_n hx hb dX0_markSeen_9 rfl (lv_at hl 0 rfl) ?_
    refine lv_aload_n hx hb dX0_markSeen_10 rfl (lv_at hl 1 rfl) ?_
    refine gf_X0_38 hE hst 0 rfl rfl dX0_markSeen_11 ?_
    refine q_lenL hE hst 1 rfl dX0_markSeen_14 ?_
    refine lv_icmp_ge (tgt := 33) hx hb dX0_markSeen_15 (by decide) (fun c_15 => ?_) (fun c_15 => ?_)
    · skip
      exact absurd c_15 (nI_ge (a := v0 / 64) (b := 6) (by omega) (by decide))
    · skip
      refine lv_aload_n hx hb dX0_markSeen_18 rfl (lv_at hl 1 rfl) ?_
      refine gf_X0_38 hE hst 0 rfl rfl dX0_markSeen_19 ?_
      refine lv_iload_n hx hb dX0_markSeen_22 rfl (lv_at hl 0 rfl) ?_
      refine lv_dup2_11 hx hb dX0_markSeen_23 rfl rfl ?_
      refine q_lald hE hst 1 rfl (vp_in_nI (by omega) (by decide)) dX0_markSeen_24 ?_
      refine q_topL (x' := sn (v0 / 64)) (by rw [nI_clamp (by omega)]) ?_
      refine lv_lconst (v := 1) hx hb dX0_markSeen_25 (by decide) ?_
      refine lv_iload_n hx hb dX0_markSeen_26 rfl (lv_at hl 2 rfl) ?_
      refine lv_bipush (v := 63) hx hb dX0_markSeen_27 (by decide) ?_
      refine lv_iand hx hb dX0_markSeen_29 ?_
      refine q_top (x' := nI (v0 % 64)) (pk_andN (by omega) 6 (by decide)) ?_
      refine lv_lshl (v := 1 <<< ((nI (v0 % 64)).toInt64 &&& 63)) hx hb dX0_markSeen_30 rfl ?_
      refine lv_lor hx hb dX0_markSeen_31 ?_
      refine q_last hE hst 1 rfl (vp_in_nI (by omega) (by decide)) [(h, .inr (0, [.int se, .int sh, .int sp, .int de, .int po, .ref qn, .ref qd, .ref qr, .ref qs, .int lo])), (qs, .inl (cJ, 6, .inr (.inl (vp_updL sn (nI (v0 / 64)).toNatClampNeg ((sn (v0 / 64)) ||| (1 <<< ((nI (v0 % 64)).toInt64 &&& 63)))))))] rfl dX0_markSeen_32 (fun H locs hst => ?_)
      have hst : SS D A s [(h, .inr (0, [.int se, .int sh, .int sp, .int de, .int po, .ref qn, .ref qd, .ref qr, .ref qs, .int lo])), (qs, .inl (cJ, 6, .inr (.inl (mkW sn v0))))] H locs := by have h := hst; rw [nI_clamp (by omega)] at h; exact h
      exact q_retV hQ hE hr hk hst () (trivial) (rfl) dX0_markSeen_33
set_option maxHeartbeats 4000000 in
set_option maxRecDepth 100000 in
theorem c_X0_turnedPairs (l : Launch) (D : va_G) (cI cJ cZ : ClassId) (h : Nat) (qn : Nat) (qd : Nat) (qr : Nat) (qs : Nat) (se : Int32) (sh : Int32) (sp : Int32) (de : Int32) (po : Int32) (lo : Int32) (nd : Nat → Int32) (sn : Nat → Int64) (v : Nat → Nat) (hv : ∀ j, j < 366 → nd j = nI (v j) ∧ v j < 384) : CtI l D cI cJ cZ yX0_turnedPairs cX0_turnedPairs 4 (some .int) 2 [.ref h] [(h, .inr (0, [.int se, .int sh, .int sp, .int de, .int po, .ref qn, .ref qd, .ref qr, .ref qs, .int lo])), (qn, .inl (cI, 366, .inl nd)), (qs, .inl (cJ, 6, .inr (.inl sn)))] (fun (_ : Unit) => (tpN v 366).2) (fun (_ : Unit) => True) (fun (_ : Unit) => [(h, .inr (0, [.int se, .int sh, .int sp, .int de, .int po, .ref qn, .ref qd, .ref qr, .ref qs, .int lo])), (qn, .inl (cI, 366, .inl nd)), (qs, .inl (cJ, 6, .inr (.inl ((tpN v 366).1))))]) := by
  refine q_entI (own := RX0) rfl rfl (Nat.le_of_ble_eq_true rfl) ?_
  intro p e s m args below meth c A ls QQ hQ hE hx hb hr hk hin hA hl hst
  have hl : lv_has ls 4 [(0, .ref h)] := hl
  have loop_12 : ∀ (fu : Nat) (kx : Nat), (kx ≤ 366) → (366 - kx) < fu → ∀ (H : Heap) (locs : List Loc) (ls : Array Slot), SS D A s [(h, .inr (0, [.int se, .int sh, .int sp, .int de, .int po, .ref qn, .ref qd, .ref qr, .ref qs, .int lo])), (qn, .inl (cI, 366, .inl nd)), (qs, .inl (cJ, 6, .inr (.inl ((tpN v kx).1))))] H locs → lv_has ls 4 [(2, .int (nI kx)), (1, .int ((tpN v kx).2)), (0, .ref h)] → W p l e (rmN 2 0 0) s m args below meth c H locs 0 0 QQ (F0 m 12 ls []) := by
    intro fu
    induction fu with
    | zero =>
      intro kx h1 hn
      exact absurd hn (Nat.not_lt_zero _)
    | succ fu ih =>
      intro kx h1 hn H locs ls hst hl
      refine lv_iload_n hx hb dX0_turnedPairs_12 rfl (lv_at hl 0 rfl) ?_
      refine lv_sipush (v := 366) hx hb dX0_turnedPairs_13 (by decide) ?_
      refine lv_icmp_ge (tgt := 44) hx hb dX0_turnedPairs_16 (by decide) (fun c_16 => ?_) (fun c_16 => ?_)
      · skip
        have hk1 : kx = 366 := Nat.le_antisymm h1 (Nat.le_of_not_lt (fun z => nI_ge z (by decide) c_16))
        subst hk1
        refine lv_iload_n hx hb dX0_turnedPairs_44 rfl (lv_at hl 1 rfl) ?_
        exact q_retI hQ hE hr hk hst () (rfl) (trivial) (rfl) dX0_turnedPairs_45
      · skip
        have hk1 : kx < 366 := Nat.lt_of_not_le (fun z => c_16 (nI_le z (by omega)))
        refine lv_aload_n hx hb dX0_turnedPairs_19 rfl (lv_at hl 2 rfl) ?_
        refine lv_iload_n hx hb dX0_turnedPairs_20 rfl (lv_at hl 0 rfl) ?_
        refine q_goI (q_rV hE lk_X0_104 (c_X0_numberAt l D cI cJ cZ h qn qd qr qs se sh sp de po lo (nI kx) nd H.size) hst [0, 1] rfl rfl rfl rfl rfl hl.1 ⟨(Nat.le_of_ble_eq_true rfl), (Nat.le_of_ble_eq_true rfl)⟩ (rest := []) rfl (Nat.le_of_ble_eq_true rfl) dX0_turnedPairs_21 ⟨(Nat.le_of_ble_eq_true rfl), (Nat.le_of_ble_eq_true rfl)⟩) hE hst [0, 1] rfl (fun _ => rfl) (fun (_ : Unit) => [(h, .inr (0, [.int se, .int sh, .int sp, .int de, .int po, .ref qn, .ref qd, .ref qr, .ref qs, .int lo])), (qn, .inl (cI, 366, .inl nd)), (qs, .inl (cJ, 6, .inr (.inl ((tpN v kx).1))))]) (fun _ => rfl) (fun _ H locs hF hst => ?_)
        refine q_top (x' := nI (v kx)) ((atI_n hk1 (by decide)).trans (hv kx hk1).1) ?_
        refine lv_istore_n (lv' := [(3, .int (nI (v kx))), (2, .int (nI kx)), (1, .int ((tpN v kx).2)), (0, .ref h)]) hx hb dX0_turnedPairs_24 rfl hl (by decide) rfl (fun ls hl => ?_)
        refine lv_iload_n hx hb dX0_turnedPairs_25 rfl (lv_at hl 2 rfl) ?_
        refine lv_aload_n hx hb dX0_turnedPairs_26 rfl (lv_at hl 3 rfl) ?_
        refine lv_iload_n hx hb dX0_turnedPairs_27 rfl (lv_at hl 0 rfl) ?_
        refine q_goI (q_rV hE lk_X0_133 (c_X0_seenAbove l D cI cJ cZ h qn qd qr qs se sh sp de po lo (v kx) ((tpN v kx).1) ((hv kx hk1).2) H.size) hst [0, 2] rfl rfl rfl rfl rfl hl.1 ⟨(Nat.le_of_ble_eq_true rfl), (Nat.le_of_ble_eq_true rfl)⟩ (rest := [.int ((tpN v kx).2)]) rfl (Nat.le_of_ble_eq_true rfl) dX0_turnedPairs_28 ⟨(Nat.le_of_ble_eq_true rfl), (Nat.le_of_ble_eq_true rfl)⟩) hE hst [0, 2] rfl (fun _ => rfl) (fun (_ : Unit) => [(h, .inr (0, [.int se, .int sh, .int sp, .int de, .int po, .ref qn, .ref qd, .ref qr, .ref qs, .int lo])), (qn, .inl (cI, 366, .inl nd)), (qs, .inl (cJ, 6, .inr (.inl ((tpN v kx).1))))]) (fun _ => rfl) (fun _ H locs hF hst => ?_)
        refine lv_iadd hx hb dX0_turnedPairs_31 ?_
        refine lv_istore_n (lv' := [(1, .int (((tpN v kx).2) + (sabI ((tpN v kx).1) (v kx) (5 - (v kx) / 64)))), (3, .int (nI (v kx))), (2, .int (nI kx)), (0, .ref h)]) hx hb dX0_turnedPairs_32 rfl hl (by decide) rfl (fun ls hl => ?_)
        refine lv_aload_n hx hb dX0_turnedPairs_33 rfl (lv_at hl 3 rfl) ?_
        refine lv_iload_n hx hb dX0_turnedPairs_34 rfl (lv_at hl 1 rfl) ?_
        refine q_goV (q_rV hE lk_X0_136 (c_X0_markSeen l D cI cJ cZ h qn qd qr qs se sh sp de po lo (v kx) ((tpN v kx).1) ((hv kx hk1).2) H.size) hst [0, 2] rfl rfl rfl rfl rfl hl.1 ⟨(Nat.le_of_ble_eq_true rfl), (Nat.le_of_ble_eq_true rfl)⟩ (rest := []) rfl (Nat.le_of_ble_eq_true rfl) dX0_turnedPairs_35 ⟨(Nat.le_of_ble_eq_true rfl), (Nat.le_of_ble_eq_true rfl)⟩) hE hst [0, 2] rfl (fun _ => rfl) (fun (_ : Unit) => [(h, .inr (0, [.int se, .int sh, .int sp, .int de, .int po, .ref qn, .ref qd, .ref qr, .ref qs, .int lo])), (qn, .inl (cI, 366, .inl nd)), (qs, .inl (cJ, 6, .inr (.inl (mkW ((tpN v kx).1) (v kx)))))]) (fun _ => rfl) (fun _ H locs hF hst => ?_)
        refine lv_iinc (v := nI (kx + 1)) (lv' := [(2, .int (nI (kx + 1))), (1, .int (((tpN v kx).2) + (sabI ((tpN v kx).1) (v kx) (5 - (v kx) / 64)))), (3, .int (nI (v kx))), (0, .ref h)]) hx hb dX0_turnedPairs_38 hl (k := 2) rfl (nI_next _) (by decide) rfl (fun ls hl => ?_)
        refine lv_goto (tgt := 12) hx hb dX0_turnedPairs_41 (by decide) ?_
        exact ih (kx + 1) (by omega) (by omega) _ _ _ (hst) (lv_sub hl [0, 1, 3] rfl)
  refine lv_aload_n hx hb dX0_turnedPairs_0 rfl (lv_at hl 0 rfl) ?_
  refine gf_X0_38 hE hst 0 rfl rfl dX0_turnedPairs_1 ?_
  refine lv_lconst (v := 0) hx hb dX0_turnedPairs_4 (by decide) ?_
  refine q_goV (q_rS hE lk_X0_127 (c_J7_fill_d0a16 l D cI cJ cZ qs 6 0 sn (by first | assumption | decide | omega) s.heap.size) hst [2] rfl rfl rfl hl.1 ⟨(Nat.le_of_ble_eq_true rfl), (Nat.le_of_ble_eq_true rfl)⟩ (rest := []) rfl (Nat.le_of_ble_eq_true rfl) dX0_turnedPairs_5 ⟨(Nat.le_of_ble_eq_true rfl), (Nat.le_of_ble_eq_true rfl)⟩) hE hst [2] rfl (fun _ => rfl) (fun (_ : Unit) => [(h, .inr (0, [.int se, .int sh, .int sp, .int de, .int po, .ref qn, .ref qd, .ref qr, .ref qs, .int lo])), (qn, .inl (cI, 366, .inl nd)), (qs, .inl (cJ, 6, .inr (.inl (fun _ => 0))))]) (fun _ => rfl) (fun _ H locs hF hst => ?_)
  refine lv_iconst (v := 0) hx hb dX0_turnedPairs_8 (by decide) ?_
  refine lv_istore_n (lv' := [(1, .int 0), (0, .ref h)]) hx hb dX0_turnedPairs_9 rfl hl (by decide) rfl (fun ls hl => ?_)
  refine lv_iconst (v := 0) hx hb dX0_turnedPairs_10 (by decide) ?_
  refine lv_istore_n (lv' := [(2, .int 0), (1, .int 0), (0, .ref h)]) hx hb dX0_turnedPairs_11 rfl hl (by decide) rfl (fun ls hl => ?_)
  exact loop_12 (367) 0 (by decide) (by decide) _ _ _ (hst) (lv_sub hl [0, 1, 2] rfl)
