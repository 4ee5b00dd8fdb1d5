/-! the class's public methods -/
section QR
variable {p : Program} {l : Launch} {e : Env} {R : Room} {s : State} {m : MethodId} {args : Array Value} {below : List Frame} {meth : Method} {c : Code} {H : Heap} {locs : List Loc} {cells slots : Nat} {Q : State → Prop} {pc : Nat} {ls : Array Slot} {rest : List Value}
theorem q_topR {x x' : Nat} (h : x = x') (k : W p l e R s m args below meth c H locs cells slots Q (F0 m pc ls (.ref x' :: rest))) : W p l e R s m args below meth c H locs cells slots Q (F0 m pc ls (.ref x :: rest)) := by rw [h]; exact k
end QR
theorem at_in {N : Nat} {f : Nat → Int32} {x : Int32} (h : vp_in x N) (hN : N < 2147483648) : atI N f x = f x.toNatClampNeg := by
  obtain ⟨j, hj, rfl⟩ := vp_in_of h hN
  rw [atI_n hj hN, nI_clamp (by omega)]
theorem put_in {N : Nat} {f : Nat → Int32} {x v : Int32} (h : vp_in x N) (hN : N < 2147483648) : putI N f x v = upd f x.toNatClampNeg v := by
  obtain ⟨j, hj, rfl⟩ := vp_in_of h hN
  rw [putI_n hj hN, nI_clamp (by omega)]
/-- the refusals, one more of a kind -/
def bmp (f : Nat → Int32) (r : Int32) : Nat → Int32 := upd f (-r).toNatClampNeg (f (-r).toNatClampNeg + 1)
theorem ftf_in (a b c d : Bool) : vp_in (-(ftf a b c d)) 7 := by
  rw [vp_in_iff]
  cases a <;> cases b <;> cases c <;> cases d <;> decide
theorem ftf_1 {a b c d : Bool} (h : ftf a b c d = 0) : a = false ∧ b = false ∧ c = false ∧ d = false := by
  cases a <;> cases b <;> cases c <;> cases d <;> first | exact ⟨rfl, rfl, rfl, rfl⟩ | exact absurd h (by decide)
def manB (n p : Int32) : Bool := !decide (p < 0) && !decide (n ≤ p)
theorem man_of {n : Nat} {p : Int32} (hn : n ≤ 60) (h : manB (nI n) p = true) : ∃ m, m < n ∧ p = nI m := by
  rw [manB, Bool.and_eq_true, Bool.not_eq_true', Bool.not_eq_true', decide_eq_false_iff_not, decide_eq_false_iff_not] at h
  obtain ⟨j, hj, rfl⟩ := nI_of h.1
  exact ⟨j, Nat.lt_of_not_le fun z => h.2 (nI_le z hj), rfl⟩
theorem mon_of {p : Int32} (h : isMonthB p = true) : ∃ m, m < 12 ∧ p = nI m := by
  rw [isMonthB, Bool.and_eq_true, Bool.not_eq_true', Bool.not_eq_true', decide_eq_false_iff_not, decide_eq_false_iff_not] at h
  obtain ⟨j, hj, rfl⟩ := nI_of h.1
  exact ⟨j, Nat.lt_of_not_le fun z => h.2 (nI_le (a := 12) z hj), rfl⟩
theorem not_f {b : Bool} (h : (!b) = false) : b = true := by cases b <;> first | rfl | cases h
def lgR (r : Int32) : Int64 := 4000000000000000000 - r.toInt64
set_option maxHeartbeats 4000000 in
set_option maxRecDepth 100000 in
theorem c_X6_isMan (l : Launch) (D : va_G) (cI cJ cZ : ClassId) (o : Nat) (tp : Nat) (nw : Nat) (th : Nat) (rf : Nat) (rt : Nat) (im : Int32) (j1 : Nat) (j2 : Nat) (mn : Nat) (lw : Nat) (sd : Nat) (sr : Nat) (cut : Int32) (least : Int32) (qk : Nat) (qb : Nat) (qp : Nat) (sz : Int32) (p0 : Int32) : CtI l D cI cJ cZ yX6_isMan cX6_isMan 2 (some .boolean) 0 [.ref o, .int p0] [(o, .inr (6, [.ref tp, .ref nw, .ref th, .int im, .ref rf, .ref rt])), (nw, .inr (1, [.ref j1, .ref j2, .ref mn, .ref lw, .int cut, .int least, .ref sd, .ref sr])), (mn, .inr (2, [.ref qk, .ref qb, .ref qp, .int sz]))] (fun (_ : Unit) => b2i (manB sz p0)) (fun (_ : Unit) => True) (fun (_ : Unit) => [(o, .inr (6, [.ref tp, .ref nw, .ref th, .int im, .ref rf, .ref rt])), (nw, .inr (1, [.ref j1, .ref j2, .ref mn, .ref lw, .int cut, .int least, .ref sd, .ref sr])), (mn, .inr (2, [.ref qk, .ref qb, .ref qp, .int sz]))]) := by
  refine q_entI (own := RX6) rfl rfl (Nat.le_of_ble_eq_true rfl) ?_
  intro p e s m args below meth c A ls QQ hQ hE hx hb hr hk hin hA hl hst
  have hl : lv_has ls 2 [(0, .ref o), (1, .int p0)] := hl
  refine lv_iload_n hx hb dX6_isMan_0 rfl (lv_at hl 1 rfl) ?_
  refine lv_if_lt (tgt := 22) hx hb dX6_isMan_1 (by decide) (fun c_1 => ?_) (fun c_1 => ?_)
  · skip
    refine lv_iconst (v := 0) hx hb dX6_isMan_22 (by decide) ?_
    exact q_retZ hQ hE hr hk hst () (rfl) (by rw [manB, decide_eq_true c_1]; rfl) (trivial) (rfl) dX6_isMan_23
  · skip
    refine lv_iload_n hx hb dX6_isMan_4 rfl (lv_at hl 1 rfl) ?_
    refine lv_aload_n hx hb dX6_isMan_5 rfl (lv_at hl 0 rfl) ?_
    refine gf_X6_19 hE hst 0 rfl rfl dX6_isMan_6 ?_
    refine gf_X6_61 hE hst 1 rfl rfl dX6_isMan_9 ?_
    refine gf_X6_65 hE hst 2 rfl rfl dX6_isMan_12 ?_
    refine lv_icmp_ge (tgt := 22) hx hb dX6_isMan_15 (by decide) (fun c_15 => ?_) (fun c_15 => ?_)
    · skip
      refine lv_iconst (v := 0) hx hb dX6_isMan_22 (by decide) ?_
      exact q_retZ hQ hE hr hk hst () (rfl) (by rw [manB, decide_eq_false c_1, decide_eq_true c_15]; rfl) (trivial) (rfl) dX6_isMan_23
    · skip
      refine lv_iconst (v := 1) hx hb dX6_isMan_18 (by decide) ?_
      refine lv_goto (tgt := 23) hx hb dX6_isMan_19 (by decide) ?_
      exact q_retZ hQ hE hr hk hst () (rfl) (by rw [manB, decide_eq_false c_1, decide_eq_false c_15]; rfl) (trivial) (rfl) dX6_isMan_23
set_option maxHeartbeats 4000000 in
set_option maxRecDepth 100000 in
theorem c_X6_refuse (l : Launch) (D : va_G) (cI cJ cZ : ClassId) (o : Nat) (tp : Nat) (nw : Nat) (th : Nat) (rf : Nat) (rt : Nat) (im : Int32) (ru : Nat → Int32) (p0 : Int32) (hr7 : vp_in (-p0) 7) : CtI l D cI cJ cZ yX6_refuse cX6_refuse 2 (some .int) 1 [.ref o, .int p0] [(o, .inr (6, [.ref tp, .ref nw, .ref th, .int im, .ref rf, .ref rt])), (rf, .inl (cI, 7, .inl ru))] (fun (_ : Unit) => p0) (fun (_ : Unit) => True) (fun (_ : Unit) => [(o, .inr (6, [.ref tp, .ref nw, .ref th, .int im, .ref rf, .ref rt])), (rf, .inl (cI, 7, .inl (bmp ru p0)))]) := by
  refine q_entI (own := RX6) rfl rfl (Nat.le_of_ble_eq_true rfl) ?_
  intro p e s m args below meth c A ls QQ hQ hE hx hb hr hk hin hA hl hst
  have hl : lv_has ls 2 [(0, .ref o), (1, .int p0)] := hl
  refine lv_aload_n hx hb dX6_refuse_0 rfl (lv_at hl 0 rfl) ?_
  refine gf_X6_30 hE hst 0 rfl rfl dX6_refuse_1 ?_
  refine lv_iload_n hx hb dX6_refuse_4 rfl (lv_at hl 1 rfl) ?_
  refine lv_ineg hx hb dX6_refuse_5 ?_
  refine lv_aload_n hx hb dX6_refuse_6 rfl (lv_at hl 0 rfl) ?_
  refine gf_X6_30 hE hst 0 rfl rfl dX6_refuse_7 ?_
  refine lv_iload_n hx hb dX6_refuse_10 rfl (lv_at hl 1 rfl) ?_
  refine lv_ineg hx hb dX6_refuse_11 ?_
  refine q_goI (q_rS hE lk_X6_164 (c_X6_at l D cI cJ cZ rf 7 ru (-p0) (by first | assumption | decide | omega) s.heap.size) hst [1] rfl rfl rfl hl.1 ⟨(Nat.le_of_ble_eq_true rfl), (Nat.le_of_ble_eq_true rfl)⟩ (rest := [.int (-p0), .ref rf]) rfl (Nat.le_of_ble_eq_true rfl) dX6_refuse_12 ⟨(Nat.le_of_ble_eq_true rfl), (Nat.le_of_ble_eq_true rfl)⟩) hE hst [1] rfl (fun _ => rfl) (fun (_ : Unit) => [(o, .inr (6, [.ref tp, .ref nw, .ref th, .int im, .ref rf, .ref rt])), (rf, .inl (cI, 7, .inl ru))]) (fun _ => rfl) (fun _ H locs hF hst => ?_)
  refine q_top (x' := ru (-p0).toNatClampNeg) (at_in hr7 (by decide)) ?_
  refine lv_iconst (v := 1) hx hb dX6_refuse_15 (by decide) ?_
  refine lv_iadd hx hb dX6_refuse_16 ?_
  refine q_goV (q_rS hE lk_X6_171 (c_X6_put l D cI cJ cZ rf 7 ru (-p0) ((ru (-p0).toNatClampNeg) + 1) (by first | assumption | decide | omega) H.size) hst [1] rfl rfl rfl hl.1 ⟨(Nat.le_of_ble_eq_true rfl), (Nat.le_of_ble_eq_true rfl)⟩ (rest := []) rfl (Nat.le_of_ble_eq_true rfl) dX6_refuse_17 ⟨(Nat.le_of_ble_eq_true rfl), (Nat.le_of_ble_eq_true rfl)⟩) hE hst [1] rfl (fun _ => rfl) (fun (_ : Unit) => [(o, .inr (6, [.ref tp, .ref nw, .ref th, .int im, .ref rf, .ref rt])), (rf, .inl (cI, 7, .inl (putI 7 ru (-p0) ((ru (-p0).toNatClampNeg) + 1))))]) (fun _ => rfl) (fun _ H locs hF hst => ?_)
  have hst : SS D A s [(o, .inr (6, [.ref tp, .ref nw, .ref th, .int im, .ref rf, .ref rt])), (rf, .inl (cI, 7, .inl (bmp ru p0)))] H locs := by have h := hst; rw [put_in hr7 (by decide)] at h; exact h
  refine lv_iload_n hx hb dX6_refuse_20 rfl (lv_at hl 1 rfl) ?_
  exact q_retI hQ hE hr hk hst () (rfl) (trivial) (rfl) dX6_refuse_21
set_option maxHeartbeats 4000000 in
set_option maxRecDepth 100000 in
theorem c_X6_refuseLong (l : Launch) (D : va_G) (cI cJ cZ : ClassId) (o : Nat) (tp : Nat) (nw : Nat) (th : Nat) (rf : Nat) (rt : Nat) (im : Int32) (ru : Nat → Int32) (p0 : Int32) (hr7 : vp_in (-p0) 7) : CtL l D cI cJ cZ yX6_refuseLong cX6_refuseLong 2 (some .long) 2 [.ref o, .int p0] [(o, .inr (6, [.ref tp, .ref nw, .ref th, .int im, .ref rf, .ref rt])), (rf, .inl (cI, 7, .inl ru))] (fun (_ : Unit) => lgR p0) (fun (_ : Unit) => True) (fun (_ : Unit) => [(o, .inr (6, [.ref tp, .ref nw, .ref th, .int im, .ref rf, .ref rt])), (rf, .inl (cI, 7, .inl (bmp ru p0)))]) := by
  refine q_entL (own := RX6) rfl rfl (Nat.le_of_ble_eq_true rfl) ?_
  intro p e s m args below meth c A ls QQ hQ hE hx hb hr hk hin hA hl hst
  have hl : lv_has ls 2 [(0, .ref o), (1, .int p0)] := hl
  refine q_ldc2 hE wk_2_128 dX6_refuseLong_0 ?_
  refine lv_aload_n hx hb dX6_refuseLong_3 rfl (lv_at hl 0 rfl) ?_
  refine lv_iload_n hx hb dX6_refuseLong_4 rfl (lv_at hl 1 rfl) ?_
  refine q_goI (q_rV hE lk_X6_49 (c_X6_refuse l D cI cJ cZ o tp nw th rf rt im ru p0 (by first | assumption | decide | omega) s.heap.size) hst [0, 1] rfl rfl rfl rfl rfl hl.1 ⟨(Nat.le_of_ble_eq_true rfl), (Nat.le_of_ble_eq_true rfl)⟩ (rest := [.long 4000000000000000000]) rfl (Nat.le_of_ble_eq_true rfl) dX6_refuseLong_5 ⟨(Nat.le_of_ble_eq_true rfl), (Nat.le_of_ble_eq_true rfl)⟩) hE hst [0, 1] rfl (fun _ => rfl) (fun (_ : Unit) => [(o, .inr (6, [.ref tp, .ref nw, .ref th, .int im, .ref rf, .ref rt])), (rf, .inl (cI, 7, .inl (bmp ru p0)))]) (fun _ => rfl) (fun _ H locs hF hst => ?_)
  refine lv_i2l (v := p0.toInt64) hx hb dX6_refuseLong_8 rfl ?_
  refine lv_lsub hx hb dX6_refuseLong_9 ?_
  exact q_retL hQ hE hr hk hst () (rfl) (trivial) (rfl) dX6_refuseLong_10
set_option maxHeartbeats 4000000 in
set_option maxRecDepth 100000 in
theorem c_X6_partOrNone (l : Launch) (D : va_G) (cI cJ cZ : ClassId) (o : Nat) (tp : Nat) (nw : Nat) (th : Nat) (rf : Nat) (rt : Nat) (im : Int32) (ru : Nat → Int32) (ra : Int64) (rb : Int64) (b0 : Bool) (p0 : Int32) : CtL l D cI cJ cZ yX6_partOrNone cX6_partOrNone 3 (some .long) 3 [.ref o, .int (b2i b0), .int p0] [(o, .inr (6, [.ref tp, .ref nw, .ref th, .int im, .ref rf, .ref rt])), (rf, .inl (cI, 7, .inl ru)), (rt, .inr (3, [.long ra, .long rb]))] (fun (_ : Unit) => if b0 = true then (if p0 = 0 then ra else rb) else lgR (-3)) (fun (_ : Unit) => True) (fun (_ : Unit) => [(o, .inr (6, [.ref tp, .ref nw, .ref th, .int im, .ref rf, .ref rt])), (rf, .inl (cI, 7, .inl (if b0 = true then ru else bmp ru (-3)))), (rt, .inr (3, [.long ra, .long rb]))]) := by
  refine q_entL (own := RX6) rfl rfl (Nat.le_of_ble_eq_true rfl) ?_
  intro p e s m args below meth c A ls QQ hQ hE hx hb hr hk hin hA hl hst
  have hl : lv_has ls 3 [(0, .ref o), (1, .int (b2i b0)), (2, .int p0)] := hl
  refine lv_iload_n hx hb dX6_partOrNone_0 rfl (lv_at hl 1 rfl) ?_
  refine lv_if_eq (tgt := 15) hx hb dX6_partOrNone_1 (by decide) (fun c_1 => ?_) (fun c_1 => ?_)
  · skip
    have c_1 := b2i_f c_1
    refine lv_aload_n hx hb dX6_partOrNone_15 rfl (lv_at hl 0 rfl) ?_
    refine lv_bipush (v := (-3)) hx hb dX6_partOrNone_16 (by decide) ?_
    refine q_goL (q_rV hE lk_X6_119 (c_X6_refuseLong l D cI cJ cZ o tp nw th rf rt im ru (-3) (by rw [vp_in_iff]; decide) s.heap.size) hst [0, 1] rfl rfl rfl rfl rfl hl.1 ⟨(Nat.le_of_ble_eq_true rfl), (Nat.le_of_ble_eq_true rfl)⟩ (rest := []) rfl (Nat.le_of_ble_eq_true rfl) dX6_partOrNone_18 ⟨(Nat.le_of_ble_eq_true rfl), (Nat.le_of_ble_eq_true rfl)⟩) hE hst [0, 1] rfl (fun _ => rfl) (fun (_ : Unit) => [(o, .inr (6, [.ref tp, .ref nw, .ref th, .int im, .ref rf, .ref rt])), (rf, .inl (cI, 7, .inl (bmp ru (-3)))), (rt, .inr (3, [.long ra, .long rb]))]) (fun _ => rfl) (fun _ H locs hF hst => ?_)
    exact q_retL hQ hE hr hk hst () (by rw [c_1]; rfl) (trivial) (by rw [c_1]; rfl) dX6_partOrNone_21
  · skip
    have c_1 := b2i_t c_1
    refine lv_aload_n hx hb dX6_partOrNone_4 rfl (lv_at hl 0 rfl) ?_
    refine gf_X6_37 hE hst 0 rfl rfl dX6_partOrNone_5 ?_
    refine lv_iload_n hx hb dX6_partOrNone_8 rfl (lv_at hl 2 rfl) ?_
    refine q_goL (q_rNV hE lk_X6_133 (c_X3_partAt l D cI cJ cZ rt ra rb p0 s.heap.size) hst [2] rfl rfl rfl rfl rfl hl.1 ⟨(Nat.le_of_ble_eq_true rfl), (Nat.le_of_ble_eq_true rfl)⟩ (rest := []) rfl (Nat.le_of_ble_eq_true rfl) dX6_partOrNone_9 ⟨(Nat.le_of_ble_eq_true rfl), (Nat.le_of_ble_eq_true rfl)⟩) hE hst [2] rfl (fun _ => rfl) (fun (_ : Unit) => [(o, .inr (6, [.ref tp, .ref nw, .ref th, .int im, .ref rf, .ref rt])), (rf, .inl (cI, 7, .inl ru)), (rt, .inr (3, [.long ra, .long rb]))]) (fun _ => rfl) (fun _ H locs hF hst => ?_)
    refine lv_goto (tgt := 21) hx hb dX6_partOrNone_12 (by decide) ?_
    exact q_retL hQ hE hr hk hst () (by rw [c_1]; rfl) (trivial) (by rw [c_1]; rfl) dX6_partOrNone_21
theorem feed_of {t0 : Nat} {p : Int32} (ht : t0 ≤ 14) (h3 : (!decide (1 ≤ p)) = false) (h4 : (decide (8 < p) || !decide (p ≤ 14 - nI t0)) = false) : ∃ n, n ≤ 8 ∧ t0 + n ≤ 14 ∧ p = nI n := by
  rw [Bool.or_eq_false_iff] at h4
  have a1 := of_decide_eq_true (not_f h3)
  have a2 := Int32.not_lt.mp (of_decide_eq_false h4.1)
  have a3 := of_decide_eq_true (not_f h4.2)
  have b1 : ¬ p < 0 := fun z => by
    rw [Int32.lt_iff_toInt_lt] at z
    rw [Int32.le_iff_toInt_le] at a1
    have e0 : (0 : Int32).toInt = 0 := by decide
    have e1 : (1 : Int32).toInt = 1 := by decide
    omega
  obtain ⟨j, hj, rfl⟩ := nI_of b1
  refine ⟨j, ?_, ?_, rfl⟩
  · exact (nI_leI hj (by decide : 8 < 2147483648)).mp a2
  · rw [show (14 : Int32) = nI 14 from rfl, pk_sub ht, nI_leI hj (by omega)] at a3
    omega
set_option maxHeartbeats 4000000 in
set_option maxRecDepth 100000 in
theorem c_X6_feed (l : Launch) (D : va_G) (cI cJ cZ : ClassId) (o : Nat) (tp : Nat) (nw : Nat) (th : Nat) (rf : Nat) (rt : Nat) (im : Int32) (ru : Nat → Int32) (q : Nat) (t0 : Nat) (tk : Int32) (tbd : Int32) (tpy : Int32) (p0 : Int32) (tb : Nat → Int32) (w0 : Int64) (ht0 : t0 ≤ 14) : CtI l D cI cJ cZ yX6_feed cX6_feed 5 (some .int) 3 [.ref o, .int p0, .long w0] [(o, .inr (6, [.ref tp, .ref nw, .ref th, .int im, .ref rf, .ref rt])), (rf, .inl (cI, 7, .inl ru)), (tp, .inr (5, [.ref q, .int (nI t0), .int tk, .int tbd, .int tpy])), (q, .inl (cI, 14, .inl tb))] (fun (_ : Unit) => if ftf false false (!decide (1 ≤ p0)) (decide (8 < p0) || !decide (p0 ≤ 14 - nI t0)) = 0 then nI (t0 + p0.toNatClampNeg) else (ftf false false (!decide (1 ≤ p0)) (decide (8 < p0) || !decide (p0 ≤ 14 - nI t0)))) (fun (_ : Unit) => True) (fun (_ : Unit) => [(o, .inr (6, [.ref tp, .ref nw, .ref th, .int im, .ref rf, .ref rt])), (rf, .inl (cI, 7, .inl (if ftf false false (!decide (1 ≤ p0)) (decide (8 < p0) || !decide (p0 ≤ 14 - nI t0)) = 0 then ru else bmp ru (ftf false false (!decide (1 ≤ p0)) (decide (8 < p0) || !decide (p0 ≤ 14 - nI t0)))))), (tp, .inr (5, [.ref q, .int (if ftf false false (!decide (1 ≤ p0)) (decide (8 < p0) || !decide (p0 ≤ 14 - nI t0)) = 0 then nI (t0 + p0.toNatClampNeg) else nI t0), .int tk, .int tbd, .int tpy])), (q, .inl (cI, 14, .inl (if ftf false false (!decide (1 ≤ p0)) (decide (8 < p0) || !decide (p0 ≤ 14 - nI t0)) = 0 then appL w0 t0 tb p0.toNatClampNeg else tb)))]) := by
  refine q_entI (own := RX6) rfl rfl (Nat.le_of_ble_eq_true rfl) ?_
  intro p e s m args below meth c A ls QQ hQ hE hx hb hr hk hin hA hl hst
  have hl : lv_has ls 5 [(0, .ref o), (1, .int p0), (2, .long w0)] := hl
  refine lv_iconst (v := 0) hx hb dX6_feed_0 (by decide) ?_
  refine lv_iconst (v := 0) hx hb dX6_feed_1 (by decide) ?_
  suffices kJ : ∀ (H : Heap) (locs : List Loc), SS D A s [(o, .inr (6, [.ref tp, .ref nw, .ref th, .int im, .ref rf, .ref rt])), (rf, .inl (cI, 7, .inl ru)), (tp, .inr (5, [.ref q, .int (nI t0), .int tk, .int tbd, .int tpy])), (q, .inl (cI, 14, .inl tb))] H locs → W p l e (rmN 3 0 0) s m args below meth c H locs 0 0 QQ (F0 m 12 ls [.int (b2i (!decide (1 ≤ p0))), .int 0, .int 0]) by
    refine lv_iload_n hx hb dX6_feed_2 rfl (lv_at hl 1 rfl) ?_
    refine lv_iconst (v := 1) hx hb dX6_feed_3 (by decide) ?_
    refine lv_icmp_ge (tgt := 11) hx hb dX6_feed_4 (by decide) (fun c_4 => ?_) (fun c_4 => ?_)
    · skip
      refine lv_iconst (v := 0) hx hb dX6_feed_11 (by decide) ?_
      have kJ := kJ _ _ hst
      rw [show (b2i (!decide (1 ≤ p0))) = 0 from (by first | (rw [decide_eq_true c_4]; done) | (rw [decide_eq_true c_4]; rfl))] at kJ
      exact kJ
    · skip
      refine lv_iconst (v := 1) hx hb dX6_feed_7 (by decide) ?_
      refine lv_goto (tgt := 12) hx hb dX6_feed_8 (by decide) ?_
      have kJ := kJ _ _ hst
      rw [show (b2i (!decide (1 ≤ p0))) = 1 from (by first | (rw [decide_eq_false c_4]; done) | (rw [decide_eq_false c_4]; rfl))] at kJ
      exact kJ
  intro H locs hst
  suffices kJ : ∀ (H : Heap) (locs : List Loc), SS D A s [(o, .inr (6, [.ref tp, .ref nw, .ref th, .int im, .ref rf, .ref rt])), (rf, .inl (cI, 7, .inl ru)), (tp, .inr (5, [.ref q, .int (nI t0), .int tk, .int tbd, .int tpy])), (q, .inl (cI, 14, .inl tb))] H locs → W p l e (rmN 3 0 0) s m args below meth c H locs 0 0 QQ (F0 m 34 ls [.int (b2i (decide (8 < p0) || !decide (p0 ≤ 14 - nI t0))), .int (b2i (!decide (1 ≤ p0))), .int 0, .int 0]) by
    refine lv_iload_n hx hb dX6_feed_12 rfl (lv_at hl 1 rfl) ?_
    refine lv_bipush (v := 8) hx hb dX6_feed_13 (by decide) ?_
    refine lv_icmp_gt (tgt := 29) hx hb dX6_feed_15 (by decide) (fun c_15 => ?_) (fun c_15 => ?_)
    · skip
      refine lv_iconst (v := 1) hx hb dX6_feed_29 (by decide) ?_
      refine lv_goto (tgt := 34) hx hb dX6_feed_30 (by decide) ?_
      have kJ := kJ _ _ hst
      rw [show (b2i (decide (8 < p0) || !decide (p0 ≤ 14 - nI t0))) = 1 from (by first | (rw [decide_eq_true c_15]; done) | (rw [decide_eq_true c_15]; rfl))] at kJ
      exact kJ
    · skip
      refine lv_aload_n hx hb dX6_feed_18 rfl (lv_at hl 0 rfl) ?_
      refine gf_X6_10 hE hst 0 rfl rfl dX6_feed_19 ?_
      refine lv_iload_n hx hb dX6_feed_22 rfl (lv_at hl 1 rfl) ?_
      refine q_goI (q_rNV hE lk_X6_41 (c_X5_hasRoomFor l D cI cJ cZ tp q (nI t0) tk tbd tpy p0 H.size) hst [2] rfl rfl rfl rfl rfl hl.1 ⟨(Nat.le_of_ble_eq_true rfl), (Nat.le_of_ble_eq_true rfl)⟩ (rest := [.int (b2i (!decide (1 ≤ p0))), .int 0, .int 0]) rfl (Nat.le_of_ble_eq_true rfl) dX6_feed_23 ⟨(Nat.le_of_ble_eq_true rfl), (Nat.le_of_ble_eq_true rfl)⟩) hE hst [2] rfl (fun _ => rfl) (fun (_ : Unit) => [(o, .inr (6, [.ref tp, .ref nw, .ref th, .int im, .ref rf, .ref rt])), (rf, .inl (cI, 7, .inl ru)), (tp, .inr (5, [.ref q, .int (nI t0), .int tk, .int tbd, .int tpy])), (q, .inl (cI, 14, .inl tb))]) (fun _ => rfl) (fun _ H locs hF hst => ?_)
      refine lv_if_ne (tgt := 33) hx hb dX6_feed_26 (by decide) (fun c_26 => ?_) (fun c_26 => ?_)
      · skip
        have c_26 := b2i_t c_26
        refine lv_iconst (v := 0) hx hb dX6_feed_33 (by decide) ?_
        have kJ := kJ _ _ hst
        rw [show (b2i (decide (8 < p0) || !decide (p0 ≤ 14 - nI t0))) = 0 from (by first | (rw [decide_eq_false c_15, c_26]; done) | (rw [decide_eq_false c_15, c_26]; rfl))] at kJ
        exact kJ
      · skip
        have c_26 := b2i_f c_26
        refine lv_iconst (v := 1) hx hb dX6_feed_29 (by decide) ?_
        refine lv_goto (tgt := 34) hx hb dX6_feed_30 (by decide) ?_
        have kJ := kJ _ _ hst
        rw [show (b2i (decide (8 < p0) || !decide (p0 ≤ 14 - nI t0))) = 1 from (by first | (rw [decide_eq_false c_15, c_26]; done) | (rw [decide_eq_false c_15, c_26]; rfl))] at kJ
        exact kJ
  intro H locs hst
  refine q_goI (q_rS hE lk_X6_45 (c_X6_firstThatFits l D cI cJ cZ false false (!decide (1 ≤ p0)) (decide (8 < p0) || !decide (p0 ≤ 14 - nI t0)) H.size) hst [] rfl rfl rfl hl.1 ⟨(Nat.le_of_ble_eq_true rfl), (Nat.le_of_ble_eq_true rfl)⟩ (rest := []) rfl (Nat.le_of_ble_eq_true rfl) dX6_feed_34 ⟨(Nat.le_of_ble_eq_true rfl), (Nat.le_of_ble_eq_true rfl)⟩) hE hst [] rfl (fun _ => rfl) (fun (_ : Unit) => [(o, .inr (6, [.ref tp, .ref nw, .ref th, .int im, .ref rf, .ref rt])), (rf, .inl (cI, 7, .inl ru)), (tp, .inr (5, [.ref q, .int (nI t0), .int tk, .int tbd, .int tpy])), (q, .inl (cI, 14, .inl tb))]) (fun _ => rfl) (fun _ H locs hF hst => ?_)
  refine lv_istore (lv' := [(4, .int (ftf false false (!decide (1 ≤ p0)) (decide (8 < p0) || !decide (p0 ≤ 14 - nI t0)))), (0, .ref o), (1, .int p0), (2, .long w0)]) hx hb dX6_feed_37 hl (by decide) rfl (fun ls hl => ?_)
  refine lv_iload hx hb dX6_feed_39 (lv_at hl 0 rfl) ?_
  refine lv_if_eq (tgt := 51) hx hb dX6_feed_41 (by decide) (fun c_41 => ?_) (fun c_41 => ?_)
  · skip
    obtain ⟨f1, f2, f3, f4⟩ := ftf_1 c_41
    obtain ⟨n0, hn0, hn1, rfl⟩ := feed_of ht0 f3 f4
    rw [nI_clamp (by omega)] at hQ
    skip
    refine lv_aload_n hx hb dX6_feed_51 rfl (lv_at hl 1 rfl) ?_
    refine gf_X6_10 hE hst 0 rfl rfl dX6_feed_52 ?_
    refine lv_iload_n hx hb dX6_feed_55 rfl (lv_at hl 2 rfl) ?_
    refine lv_lload_n hx hb dX6_feed_56 rfl (lv_at hl 3 rfl) ?_
    refine q_goV (q_rNV hE lk_X6_53 (c_X5_append l D cI cJ cZ tp q t0 n0 tk tbd tpy tb w0 (by omega) (by omega) H.size) hst [2, 3] rfl rfl rfl rfl rfl hl.1 ⟨(Nat.le_of_ble_eq_true rfl), (Nat.le_of_ble_eq_true rfl)⟩ (rest := []) rfl (Nat.le_of_ble_eq_true rfl) dX6_feed_57 ⟨(Nat.le_of_ble_eq_true rfl), (Nat.le_of_ble_eq_true rfl)⟩) hE hst [2, 3] rfl (fun _ => rfl) (fun (_ : Unit) => [(o, .inr (6, [.ref tp, .ref nw, .ref th, .int im, .ref rf, .ref rt])), (rf, .inl (cI, 7, .inl ru)), (tp, .inr (5, [.ref q, .int (nI (t0 + n0)), .int tk, .int tbd, .int tpy])), (q, .inl (cI, 14, .inl (appL w0 t0 tb n0)))]) (fun _ => rfl) (fun _ H locs hF hst => ?_)
    refine lv_aload_n hx hb dX6_feed_60 rfl (lv_at hl 1 rfl) ?_
    refine gf_X6_10 hE hst 0 rfl rfl dX6_feed_61 ?_
    refine gf_X6_57 hE hst 2 rfl rfl dX6_feed_64 ?_
    exact q_retI hQ hE hr hk hst () (by rw [if_pos c_41]) (trivial) (by rw [if_pos c_41, if_pos c_41, if_pos c_41]) dX6_feed_67
  · skip
    refine lv_aload_n hx hb dX6_feed_44 rfl (lv_at hl 1 rfl) ?_
    refine lv_iload hx hb dX6_feed_45 (lv_at hl 0 rfl) ?_
    refine q_goI (q_rV hE lk_X6_49 (c_X6_refuse l D cI cJ cZ o tp nw th rf rt im ru (ftf false false (!decide (1 ≤ p0)) (decide (8 < p0) || !decide (p0 ≤ 14 - nI t0))) (ftf_in _ _ _ _) H.size) hst [0, 1] rfl rfl rfl rfl rfl hl.1 ⟨(Nat.le_of_ble_eq_true rfl), (Nat.le_of_ble_eq_true rfl)⟩ (rest := []) rfl (Nat.le_of_ble_eq_true rfl) dX6_feed_47 ⟨(Nat.le_of_ble_eq_true rfl), (Nat.le_of_ble_eq_true rfl)⟩) hE hst [0, 1] rfl (fun _ => rfl) (fun (_ : Unit) => [(o, .inr (6, [.ref tp, .ref nw, .ref th, .int im, .ref rf, .ref rt])), (rf, .inl (cI, 7, .inl (bmp ru (ftf false false (!decide (1 ≤ p0)) (decide (8 < p0) || !decide (p0 ≤ 14 - nI t0)))))), (tp, .inr (5, [.ref q, .int (nI t0), .int tk, .int tbd, .int tpy])), (q, .inl (cI, 14, .inl tb))]) (fun _ => rfl) (fun _ H locs hF hst => ?_)
    exact q_retI hQ hE hr hk hst () (by rw [if_neg c_41]) (trivial) (by rw [if_neg c_41, if_neg c_41, if_neg c_41]) dX6_feed_50
def mnF (tl : Int32) (tb : Nat → Int32) : Int32 := rdF tl tb
set_option maxHeartbeats 4000000 in
set_option maxRecDepth 100000 in
theorem c_X6_man (l : Launch) (D : va_G) (cI cJ cZ : ClassId) (o : Nat) (tp : Nat) (nw : Nat) (th : Nat) (rf : Nat) (rt : Nat) (im : Int32) (ru : Nat → Int32) (q : Nat) (tl : Int32) (tk : Int32) (tbd : Int32) (tpy : Int32) (tb : Nat → Int32) (j1 : Nat) (j2 : Nat) (mn : Nat) (lw : Nat) (sd : Nat) (sr : Nat) (cut : Int32) (least : Int32) (qk : Nat) (qb : Nat) (qp : Nat) (nq : Nat) (ki : Nat → Int32) (bi : Nat → Int32) (pa : Nat → Int32) (hn : nq ≤ 60) : CtI l D cI cJ cZ yX6_man cX6_man 2 (some .int) 5 [.ref o] [(o, .inr (6, [.ref tp, .ref nw, .ref th, .int im, .ref rf, .ref rt])), (rf, .inl (cI, 7, .inl ru)), (tp, .inr (5, [.ref q, .int tl, .int tk, .int tbd, .int tpy])), (q, .inl (cI, 14, .inl tb)), (nw, .inr (1, [.ref j1, .ref j2, .ref mn, .ref lw, .int cut, .int least, .ref sd, .ref sr])), (mn, .inr (2, [.ref qk, .ref qb, .ref qp, .int (nI nq)])), (qk, .inl (cI, 60, .inl ki)), (qb, .inl (cI, 60, .inl bi)), (qp, .inl (cI, 60, .inl pa))] (fun (u : Int32 × Int32 × Int32) => if 60 ≤ nq then -6 else if rdF tl tb < 0 then nI nq else -20 - rdF tl tb) (fun (u : Int32 × Int32 × Int32) => True) (fun (u : Int32 × Int32 × Int32) => [(o, .inr (6, [.ref tp, .ref nw, .ref th, .int im, .ref rf, .ref rt])), (rf, .inl (cI, 7, .inl (if 60 ≤ nq then bmp ru (-6) else ru))), (tp, .inr (5, [.ref q, .int (if 60 ≤ nq then tl else 0), .int u.1, .int u.2.1, .int u.2.2])), (q, .inl (cI, 14, .inl tb)), (nw, .inr (1, [.ref j1, .ref j2, .ref mn, .ref lw, .int cut, .int least, .ref sd, .ref sr])), (mn, .inr (2, [.ref qk, .ref qb, .ref qp, .int (if 60 ≤ nq then nI nq else if rdF tl tb < 0 then nI (nq + 1) else nI nq)])), (qk, .inl (cI, 60, .inl (if 60 ≤ nq then ki else if rdF tl tb < 0 then upd ki nq (rdK tl tb) else ki))), (qb, .inl (cI, 60, .inl (if 60 ≤ nq then bi else if rdF tl tb < 0 then upd bi nq (rdB tl tb) else bi))), (qp, .inl (cI, 60, .inl (if 60 ≤ nq then pa else if rdF tl tb < 0 then upd pa nq (rdP tl tb) else pa)))]) := by
  refine q_entI (own := RX6) rfl rfl (Nat.le_of_ble_eq_true rfl) ?_
  intro p e s m args below meth c A ls QQ hQ hE hx hb hr hk hin hA hl hst
  have hl : lv_has ls 2 [(0, .ref o)] := hl
  refine lv_aload_n hx hb dX6_man_0 rfl (lv_at hl 0 rfl) ?_
  refine gf_X6_19 hE hst 0 rfl rfl dX6_man_1 ?_
  refine gf_X6_61 hE hst 4 rfl rfl dX6_man_4 ?_
  refine gf_X6_65 hE hst 5 rfl rfl dX6_man_7 ?_
  refine lv_bipush (v := 60) hx hb dX6_man_10 (by decide) ?_
  refine lv_icmp_lt (tgt := 22) hx hb dX6_man_12 (by decide) (fun c_12 => ?_) (fun c_12 => ?_)
  · skip
    have hn1 : ¬ 60 ≤ nq := fun z => absurd c_12 (nI_nlt (a := nq) (b := 60) z (by omega))
    refine lv_aload_n hx hb dX6_man_22 rfl (lv_at hl 0 rfl) ?_
    refine gf_X6_10 hE hst 0 rfl rfl dX6_man_23 ?_
    refine q_goI (q_rNV hE lk_X6_70 (c_X5_read l D cI cJ cZ tp q tl tk tbd tpy tb s.heap.size) hst [2, 3] rfl rfl rfl rfl rfl hl.1 ⟨(Nat.le_of_ble_eq_true rfl), (Nat.le_of_ble_eq_true rfl)⟩ (rest := []) rfl (Nat.le_of_ble_eq_true rfl) dX6_man_26 ⟨(Nat.le_of_ble_eq_true rfl), (Nat.le_of_ble_eq_true rfl)⟩) hE hst [2, 3] rfl (fun _ => rfl) (fun (u : Int32 × Int32 × Int32) => [(o, .inr (6, [.ref tp, .ref nw, .ref th, .int im, .ref rf, .ref rt])), (rf, .inl (cI, 7, .inl ru)), (tp, .inr (5, [.ref q, .int tl, .int u.1, .int u.2.1, .int u.2.2])), (q, .inl (cI, 14, .inl tb)), (nw, .inr (1, [.ref j1, .ref j2, .ref mn, .ref lw, .int cut, .int least, .ref sd, .ref sr])), (mn, .inr (2, [.ref qk, .ref qb, .ref qp, .int (nI nq)])), (qk, .inl (cI, 60, .inl ki)), (qb, .inl (cI, 60, .inl bi)), (qp, .inl (cI, 60, .inl pa))]) (fun _ => rfl) (fun u H locs hF hst => ?_)
    obtain ⟨k1_1, b1_2, p1_3⟩ := u
    have hst : SS D A s [(o, .inr (6, [.ref tp, .ref nw, .ref th, .int im, .ref rf, .ref rt])), (rf, .inl (cI, 7, .inl ru)), (tp, .inr (5, [.ref q, .int tl, .int k1_1, .int b1_2, .int p1_3])), (q, .inl (cI, 14, .inl tb)), (nw, .inr (1, [.ref j1, .ref j2, .ref mn, .ref lw, .int cut, .int least, .ref sd, .ref sr])), (mn, .inr (2, [.ref qk, .ref qb, .ref qp, .int (nI nq)])), (qk, .inl (cI, 60, .inl ki)), (qb, .inl (cI, 60, .inl bi)), (qp, .inl (cI, 60, .inl pa))] H locs := hst
    have hF : (rdF tl tb < 0 → k1_1 = rdK tl tb ∧ b1_2 = rdB tl tb ∧ p1_3 = rdP tl tb) := hF
    have hF0_26 := hF
    refine W.eq (g2 := F0 m 29 ls [.int (rdF tl tb)]) rfl ?_
    skip
    refine lv_istore_n (lv' := [(1, .int (rdF tl tb)), (0, .ref o)]) hx hb dX6_man_29 rfl hl (by decide) rfl (fun ls hl => ?_)
    refine lv_aload_n hx hb dX6_man_30 rfl (lv_at hl 1 rfl) ?_
    refine gf_X6_10 hE hst 0 rfl rfl dX6_man_31 ?_
    refine q_goV (q_rNV hE lk_X6_74 (c_X5_empty l D cI cJ cZ tp q tl k1_1 b1_2 p1_3 H.size) hst [2] rfl rfl rfl rfl rfl hl.1 ⟨(Nat.le_of_ble_eq_true rfl), (Nat.le_of_ble_eq_true rfl)⟩ (rest := []) rfl (Nat.le_of_ble_eq_true rfl) dX6_man_34 ⟨(Nat.le_of_ble_eq_true rfl), (Nat.le_of_ble_eq_true rfl)⟩) hE hst [2] rfl (fun _ => rfl) (fun (_ : Unit) => [(o, .inr (6, [.ref tp, .ref nw, .ref th, .int im, .ref rf, .ref rt])), (rf, .inl (cI, 7, .inl ru)), (tp, .inr (5, [.ref q, .int 0, .int k1_1, .int b1_2, .int p1_3])), (q, .inl (cI, 14, .inl tb)), (nw, .inr (1, [.ref j1, .ref j2, .ref mn, .ref lw, .int cut, .int least, .ref sd, .ref sr])), (mn, .inr (2, [.ref qk, .ref qb, .ref qp, .int (nI nq)])), (qk, .inl (cI, 60, .inl ki)), (qb, .inl (cI, 60, .inl bi)), (qp, .inl (cI, 60, .inl pa))]) (fun _ => rfl) (fun _ H locs hF hst => ?_)
    refine lv_iload_n hx hb dX6_man_37 rfl (lv_at hl 0 rfl) ?_
    refine lv_if_lt (tgt := 46) hx hb dX6_man_38 (by decide) (fun c_38 => ?_) (fun c_38 => ?_)
    · skip
      obtain ⟨e1, e2, e3⟩ := hF0_26 c_38
      subst e1
      subst e2
      subst e3
      skip
      refine lv_aload_n hx hb dX6_man_46 rfl (lv_at hl 1 rfl) ?_
      refine gf_X6_19 hE hst 0 rfl rfl dX6_man_47 ?_
      refine gf_X6_61 hE hst 4 rfl rfl dX6_man_50 ?_
      refine lv_aload_n hx hb dX6_man_53 rfl (lv_at hl 1 rfl) ?_
      refine gf_X6_10 hE hst 0 rfl rfl dX6_man_54 ?_
      refine gf_X6_77 hE hst 2 rfl rfl dX6_man_57 ?_
      refine lv_aload_n hx hb dX6_man_60 rfl (lv_at hl 1 rfl) ?_
      refine gf_X6_10 hE hst 0 rfl rfl dX6_man_61 ?_
      refine gf_X6_80 hE hst 2 rfl rfl dX6_man_64 ?_
      refine lv_aload_n hx hb dX6_man_67 rfl (lv_at hl 1 rfl) ?_
      refine gf_X6_10 hE hst 0 rfl rfl dX6_man_68 ?_
      refine gf_X6_83 hE hst 2 rfl rfl dX6_man_71 ?_
      refine q_goI (q_rNV hE lk_X6_86 (c_X2_enrol l D cI cJ cZ mn qk qb qp (nI nq) (rdK tl tb) (rdB tl tb) (rdP tl tb) ki bi pa H.size) hst [5, 6, 7, 8] rfl rfl rfl rfl rfl hl.1 ⟨(Nat.le_of_ble_eq_true rfl), (Nat.le_of_ble_eq_true rfl)⟩ (rest := []) rfl (Nat.le_of_ble_eq_true rfl) dX6_man_74 ⟨(Nat.le_of_ble_eq_true rfl), (Nat.le_of_ble_eq_true rfl)⟩) hE hst [5, 6, 7, 8] rfl (fun _ => rfl) (fun (_ : Unit) => [(o, .inr (6, [.ref tp, .ref nw, .ref th, .int im, .ref rf, .ref rt])), (rf, .inl (cI, 7, .inl ru)), (tp, .inr (5, [.ref q, .int 0, .int (rdK tl tb), .int (rdB tl tb), .int (rdP tl tb)])), (q, .inl (cI, 14, .inl tb)), (nw, .inr (1, [.ref j1, .ref j2, .ref mn, .ref lw, .int cut, .int least, .ref sd, .ref sr])), (mn, .inr (2, [.ref qk, .ref qb, .ref qp, .int ((nI nq) + 1)])), (qk, .inl (cI, 60, .inl (putI 60 ki (nI nq) (rdK tl tb)))), (qb, .inl (cI, 60, .inl (putI 60 bi (nI nq) (rdB tl tb)))), (qp, .inl (cI, 60, .inl (putI 60 pa (nI nq) (rdP tl tb))))]) (fun _ => rfl) (fun _ H locs hF hst => ?_)
      have hst : SS D A s [(o, .inr (6, [.ref tp, .ref nw, .ref th, .int im, .ref rf, .ref rt])), (rf, .inl (cI, 7, .inl ru)), (tp, .inr (5, [.ref q, .int 0, .int (rdK tl tb), .int (rdB tl tb), .int (rdP tl tb)])), (q, .inl (cI, 14, .inl tb)), (nw, .inr (1, [.ref j1, .ref j2, .ref mn, .ref lw, .int cut, .int least, .ref sd, .ref sr])), (mn, .inr (2, [.ref qk, .ref qb, .ref qp, .int (nI (nq + 1))])), (qk, .inl (cI, 60, .inl (upd ki nq (rdK tl tb)))), (qb, .inl (cI, 60, .inl (upd bi nq (rdB tl tb)))), (qp, .inl (cI, 60, .inl (upd pa nq (rdP tl tb))))] H locs := by have h := hst; rw [putI_n (by omega) (by decide), putI_n (by omega) (by decide), putI_n (by omega) (by decide), nI_1] at h; exact h
      exact q_retI hQ hE hr hk hst (rdK tl tb, rdB tl tb, rdP tl tb) (by rw [if_neg hn1, if_pos c_38]) (trivial) (by simp only [if_neg hn1, if_pos c_38]) dX6_man_77
    · skip
      refine lv_bipush (v := (-20)) hx hb dX6_man_41 (by decide) ?_
      refine lv_iload_n hx hb dX6_man_43 rfl (lv_at hl 0 rfl) ?_
      refine lv_isub hx hb dX6_man_44 ?_
      exact q_retI hQ hE hr hk hst (k1_1, b1_2, p1_3) (by rw [if_neg hn1, if_neg c_38]) (trivial) (by simp only [if_neg hn1, if_neg c_38]) dX6_man_45
  · skip
    have hn1 : 60 ≤ nq := Nat.le_of_not_lt (fun z => c_12 (nI_lt (a := nq) (b := 60) z (by decide)))
    refine lv_aload_n hx hb dX6_man_15 rfl (lv_at hl 0 rfl) ?_
    refine lv_bipush (v := (-6)) hx hb dX6_man_16 (by decide) ?_
    refine q_goI (q_rV hE lk_X6_49 (c_X6_refuse l D cI cJ cZ o tp nw th rf rt im ru (-6) (by rw [vp_in_iff]; decide) s.heap.size) hst [0, 1] rfl rfl rfl rfl rfl hl.1 ⟨(Nat.le_of_ble_eq_true rfl), (Nat.le_of_ble_eq_true rfl)⟩ (rest := []) rfl (Nat.le_of_ble_eq_true rfl) dX6_man_18 ⟨(Nat.le_of_ble_eq_true rfl), (Nat.le_of_ble_eq_true rfl)⟩) hE hst [0, 1] rfl (fun _ => rfl) (fun (_ : Unit) => [(o, .inr (6, [.ref tp, .ref nw, .ref th, .int im, .ref rf, .ref rt])), (rf, .inl (cI, 7, .inl (bmp ru (-6)))), (tp, .inr (5, [.ref q, .int tl, .int tk, .int tbd, .int tpy])), (q, .inl (cI, 14, .inl tb)), (nw, .inr (1, [.ref j1, .ref j2, .ref mn, .ref lw, .int cut, .int least, .ref sd, .ref sr])), (mn, .inr (2, [.ref qk, .ref qb, .ref qp, .int (nI nq)])), (qk, .inl (cI, 60, .inl ki)), (qb, .inl (cI, 60, .inl bi)), (qp, .inl (cI, 60, .inl pa))]) (fun _ => rfl) (fun _ H locs hF hst => ?_)
    exact q_retI hQ hE hr hk hst (tk, tbd, tpy) (by rw [if_pos hn1]) (trivial) (by simp only [if_pos hn1]) dX6_man_21
theorem jar_of {p2 p3 p4 : Int32} (h3 : (decide (p2 < 0) || (decide (p3 < 0) || !decide (1 ≤ p4))) = false) (h4 : (decide (2000 < p2) || (decide (365 < p3) || !decide (p4 ≤ 366))) = false) : ∃ kS sp de : Nat, kS ≤ 2000 ∧ sp ≤ 365 ∧ 1 ≤ de ∧ de ≤ 366 ∧ p2 = nI kS ∧ p3 = nI sp ∧ p4 = nI de := by
  rw [Bool.or_eq_false_iff, Bool.or_eq_false_iff] at h3 h4
  have a1 := of_decide_eq_false h3.1
  have a2 := of_decide_eq_false h3.2.1
  have a3 := of_decide_eq_true (not_f h3.2.2)
  have a4 := Int32.not_lt.mp (of_decide_eq_false h4.1)
  have a5 := Int32.not_lt.mp (of_decide_eq_false h4.2.1)
  have a6 := of_decide_eq_true (not_f h4.2.2)
  have b1 : ¬ p4 < 0 := fun z => by
    rw [Int32.lt_iff_toInt_lt] at z
    rw [Int32.le_iff_toInt_le] at a3
    have e0 : (0 : Int32).toInt = 0 := by decide
    have e1 : (1 : Int32).toInt = 1 := by decide
    omega
  obtain ⟨i, hi, rfl⟩ := nI_of a1
  obtain ⟨j, hj, rfl⟩ := nI_of a2
  obtain ⟨k, hk, rfl⟩ := nI_of b1
  exact ⟨i, j, k, (nI_leI hi (by decide : 2000 < 2147483648)).mp a4, (nI_leI hj (by decide : 365 < 2147483648)).mp a5, (nI_leI (by decide : 1 < 2147483648) hk).mp a3, (nI_leI hk (by decide : 366 < 2147483648)).mp a6, rfl, rfl, rfl⟩
set_option maxHeartbeats 4000000 in
set_option maxRecDepth 100000 in
theorem c_X6_jar (l : Launch) (D : va_G) (cI cJ cZ : ClassId) (o : Nat) (tp : Nat) (nw : Nat) (th : Nat) (rf : Nat) (rt : Nat) (im : Int32) (ru : Nat → Int32) (j1 : Nat) (j2 : Nat) (mn : Nat) (lw : Nat) (sd : Nat) (sr : Nat) (cut : Int32) (least : Int32) (g : Nat) (gn : Nat) (gd : Nat) (gr : Nat) (gs : Nat) (kS0 : Nat) (sp0 : Nat) (de0 : Nat) (se : Int32) (lo : Int32) (p0 : Int32) (p1 : Int32) (p2 : Int32) (p3 : Int32) (p4 : Int32) (po : Bool) (f : Nat → Int32) (hsel : isJarB p0 = true → (if p0 = 0 then j1 else j2) = g) : CtI l D cI cJ cZ yX6_jar cX6_jar 7 (some .int) 5 [.ref o, .int p0, .int p1, .int p2, .int p3, .int p4] [(o, .inr (6, [.ref tp, .ref nw, .ref th, .int im, .ref rf, .ref rt])), (rf, .inl (cI, 7, .inl ru)), (nw, .inr (1, [.ref j1, .ref j2, .ref mn, .ref lw, .int cut, .int least, .ref sd, .ref sr])), (g, .inr (0, [.int se, .int (nI kS0), .int (nI sp0), .int (nI de0), .int (b2i po), .ref gn, .ref gd, .ref gr, .ref gs, .int lo])), (gn, .inl (cI, 366, .inl (numF se kS0 sp0 de0 po))), (gd, .inl (cI, 367, .inl (dayF se kS0 sp0 de0 po))), (gr, .inl (cI, 366, .inl f))] (fun (u : Int32 × (Nat → Int32)) => if ftf (!isJarB p0) false (decide (p2 < 0) || (decide (p3 < 0) || !decide (1 ≤ p4))) (decide (2000 < p2) || (decide (365 < p3) || !decide (p4 ≤ 366))) = 0 then 1 else (ftf (!isJarB p0) false (decide (p2 < 0) || (decide (p3 < 0) || !decide (1 ≤ p4))) (decide (2000 < p2) || (decide (365 < p3) || !decide (p4 ≤ 366))))) (fun (u : Int32 × (Nat → Int32)) => True) (fun (u : Int32 × (Nat → Int32)) => [(o, .inr (6, [.ref tp, .ref nw, .ref th, .int im, .ref rf, .ref rt])), (rf, .inl (cI, 7, .inl (if ftf (!isJarB p0) false (decide (p2 < 0) || (decide (p3 < 0) || !decide (1 ≤ p4))) (decide (2000 < p2) || (decide (365 < p3) || !decide (p4 ≤ 366))) = 0 then ru else bmp ru (ftf (!isJarB p0) false (decide (p2 < 0) || (decide (p3 < 0) || !decide (1 ≤ p4))) (decide (2000 < p2) || (decide (365 < p3) || !decide (p4 ≤ 366))))))), (nw, .inr (1, [.ref j1, .ref j2, .ref mn, .ref lw, .int cut, .int least, .ref sd, .ref sr])), (g, .inr (0, [.int (if ftf (!isJarB p0) false (decide (p2 < 0) || (decide (p3 < 0) || !decide (1 ≤ p4))) (decide (2000 < p2) || (decide (365 < p3) || !decide (p4 ≤ 366))) = 0 then p1 else se), .int (nI (if ftf (!isJarB p0) false (decide (p2 < 0) || (decide (p3 < 0) || !decide (1 ≤ p4))) (decide (2000 < p2) || (decide (365 < p3) || !decide (p4 ≤ 366))) = 0 then p2.toNatClampNeg else kS0)), .int (nI (if ftf (!isJarB p0) false (decide (p2 < 0) || (decide (p3 < 0) || !decide (1 ≤ p4))) (decide (2000 < p2) || (decide (365 < p3) || !decide (p4 ≤ 366))) = 0 then p3.toNatClampNeg else sp0)), .int (nI (if ftf (!isJarB p0) false (decide (p2 < 0) || (decide (p3 < 0) || !decide (1 ≤ p4))) (decide (2000 < p2) || (decide (365 < p3) || !decide (p4 ≤ 366))) = 0 then p4.toNatClampNeg else de0)), .int (b2i po), .ref gn, .ref gd, .ref gr, .ref gs, .int u.1])), (gn, .inl (cI, 366, .inl (numF (if ftf (!isJarB p0) false (decide (p2 < 0) || (decide (p3 < 0) || !decide (1 ≤ p4))) (decide (2000 < p2) || (decide (365 < p3) || !decide (p4 ≤ 366))) = 0 then p1 else se) (if ftf (!isJarB p0) false (decide (p2 < 0) || (decide (p3 < 0) || !decide (1 ≤ p4))) (decide (2000 < p2) || (decide (365 < p3) || !decide (p4 ≤ 366))) = 0 then p2.toNatClampNeg else kS0) (if ftf (!isJarB p0) false (decide (p2 < 0) || (decide (p3 < 0) || !decide (1 ≤ p4))) (decide (2000 < p2) || (decide (365 < p3) || !decide (p4 ≤ 366))) = 0 then p3.toNatClampNeg else sp0) (if ftf (!isJarB p0) false (decide (p2 < 0) || (decide (p3 < 0) || !decide (1 ≤ p4))) (decide (2000 < p2) || (decide (365 < p3) || !decide (p4 ≤ 366))) = 0 then p4.toNatClampNeg else de0) po))), (gd, .inl (cI, 367, .inl (dayF (if ftf (!isJarB p0) false (decide (p2 < 0) || (decide (p3 < 0) || !decide (1 ≤ p4))) (decide (2000 < p2) || (decide (365 < p3) || !decide (p4 ≤ 366))) = 0 then p1 else se) (if ftf (!isJarB p0) false (decide (p2 < 0) || (decide (p3 < 0) || !decide (1 ≤ p4))) (decide (2000 < p2) || (decide (365 < p3) || !decide (p4 ≤ 366))) = 0 then p2.toNatClampNeg else kS0) (if ftf (!isJarB p0) false (decide (p2 < 0) || (decide (p3 < 0) || !decide (1 ≤ p4))) (decide (2000 < p2) || (decide (365 < p3) || !decide (p4 ≤ 366))) = 0 then p3.toNatClampNeg else sp0) (if ftf (!isJarB p0) false (decide (p2 < 0) || (decide (p3 < 0) || !decide (1 ≤ p4))) (decide (2000 < p2) || (decide (365 < p3) || !decide (p4 ≤ 366))) = 0 then p4.toNatClampNeg else de0) po))), (gr, .inl (cI, 366, .inl u.2))]) := by
  refine q_entI (own := RX6) rfl rfl (Nat.le_of_ble_eq_true rfl) ?_
  intro p e s m args below meth c A ls QQ hQ hE hx hb hr hk hin hA hl hst
  have hl : lv_has ls 7 [(0, .ref o), (1, .int p0), (2, .int p1), (3, .int p2), (4, .int p3), (5, .int p4)] := hl
  suffices kJ : ∀ (H : Heap) (locs : List Loc), SS D A s [(o, .inr (6, [.ref tp, .ref nw, .ref th, .int im, .ref rf, .ref rt])), (rf, .inl (cI, 7, .inl ru)), (nw, .inr (1, [.ref j1, .ref j2, .ref mn, .ref lw, .int cut, .int least, .ref sd, .ref sr])), (g, .inr (0, [.int se, .int (nI kS0), .int (nI sp0), .int (nI de0), .int (b2i po), .ref gn, .ref gd, .ref gr, .ref gs, .int lo])), (gn, .inl (cI, 366, .inl (numF se kS0 sp0 de0 po))), (gd, .inl (cI, 367, .inl (dayF se kS0 sp0 de0 po))), (gr, .inl (cI, 366, .inl f))] H locs → W p l e (rmN 5 0 0) s m args below meth c H locs 0 0 QQ (F0 m 12 ls [.int (b2i (!isJarB p0))]) by
    refine lv_iload_n hx hb dX6_jar_0 rfl (lv_at hl 1 rfl) ?_
    refine q_goI (q_rS hE lk_X6_90 (c_X6_isJar l D cI cJ cZ p0 s.heap.size) hst [] rfl rfl rfl hl.1 ⟨(Nat.le_of_ble_eq_true rfl), (Nat.le_of_ble_eq_true rfl)⟩ (rest := []) rfl (Nat.le_of_ble_eq_true rfl) dX6_jar_1 ⟨(Nat.le_of_ble_eq_true rfl), (Nat.le_of_ble_eq_true rfl)⟩) hE hst [] rfl (fun _ => rfl) (fun (_ : Unit) => [(o, .inr (6, [.ref tp, .ref nw, .ref th, .int im, .ref rf, .ref rt])), (rf, .inl (cI, 7, .inl ru)), (nw, .inr (1, [.ref j1, .ref j2, .ref mn, .ref lw, .int cut, .int least, .ref sd, .ref sr])), (g, .inr (0, [.int se, .int (nI kS0), .int (nI sp0), .int (nI de0), .int (b2i po), .ref gn, .ref gd, .ref gr, .ref gs, .int lo])), (gn, .inl (cI, 366, .inl (numF se kS0 sp0 de0 po))), (gd, .inl (cI, 367, .inl (dayF se kS0 sp0 de0 po))), (gr, .inl (cI, 366, .inl f))]) (fun _ => rfl) (fun _ H locs hF hst => ?_)
    refine lv_if_ne (tgt := 11) hx hb dX6_jar_4 (by decide) (fun c_4 => ?_) (fun c_4 => ?_)
    · skip
      have c_4 := b2i_t c_4
      refine lv_iconst (v := 0) hx hb dX6_jar_11 (by decide) ?_
      have kJ := kJ _ _ hst
      rw [show (b2i (!isJarB p0)) = 0 from (by first | (rw [c_4]; done) | (rw [c_4]; rfl))] at kJ
      exact kJ
    · skip
      have c_4 := b2i_f c_4
      refine lv_iconst (v := 1) hx hb dX6_jar_7 (by decide) ?_
      refine lv_goto (tgt := 12) hx hb dX6_jar_8 (by decide) ?_
      have kJ := kJ _ _ hst
      rw [show (b2i (!isJarB p0)) = 1 from (by first | (rw [c_4]; done) | (rw [c_4]; rfl))] at kJ
      exact kJ
  intro H locs hst
  refine lv_iconst (v := 0) hx hb dX6_jar_12 (by decide) ?_
  suffices kJ : ∀ (H : Heap) (locs : List Loc), SS D A s [(o, .inr (6, [.ref tp, .ref nw, .ref th, .int im, .ref rf, .ref rt])), (rf, .inl (cI, 7, .inl ru)), (nw, .inr (1, [.ref j1, .ref j2, .ref mn, .ref lw, .int cut, .int least, .ref sd, .ref sr])), (g, .inr (0, [.int se, .int (nI kS0), .int (nI sp0), .int (nI de0), .int (b2i po), .ref gn, .ref gd, .ref gr, .ref gs, .int lo])), (gn, .inl (cI, 366, .inl (numF se kS0 sp0 de0 po))), (gd, .inl (cI, 367, .inl (dayF se kS0 sp0 de0 po))), (gr, .inl (cI, 366, .inl f))] H locs → W p l e (rmN 5 0 0) s m args below meth c H locs 0 0 QQ (F0 m 33 ls [.int (b2i (decide (p2 < 0) || (decide (p3 < 0) || !decide (1 ≤ p4)))), .int 0, .int (b2i (!isJarB p0))]) by
    refine lv_iload_n hx hb dX6_jar_13 rfl (lv_at hl 3 rfl) ?_
    refine lv_if_lt (tgt := 28) hx hb dX6_jar_14 (by decide) (fun c_14 => ?_) (fun c_14 => ?_)
    · skip
      refine lv_iconst (v := 1) hx hb dX6_jar_28 (by decide) ?_
      refine lv_goto (tgt := 33) hx hb dX6_jar_29 (by decide) ?_
      have kJ := kJ _ _ hst
      rw [show (b2i (decide (p2 < 0) || (decide (p3 < 0) || !decide (1 ≤ p4)))) = 1 from (by first | (rw [decide_eq_true c_14]; done) | (rw [decide_eq_true c_14]; rfl))] at kJ
      exact kJ
    · skip
      refine lv_iload hx hb dX6_jar_17 (lv_at hl 4 rfl) ?_
      refine lv_if_lt (tgt := 28) hx hb dX6_jar_19 (by decide) (fun c_19 => ?_) (fun c_19 => ?_)
      · skip
        refine lv_iconst (v := 1) hx hb dX6_jar_28 (by decide) ?_
        refine lv_goto (tgt := 33) hx hb dX6_jar_29 (by decide) ?_
        have kJ := kJ _ _ hst
        rw [show (b2i (decide (p2 < 0) || (decide (p3 < 0) || !decide (1 ≤ p4)))) = 1 from (by first | (rw [decide_eq_false c_14, decide_eq_true c_19]; done) | (rw [decide_eq_false c_14, decide_eq_true c_19]; rfl))] at kJ
        exact kJ
      · skip
        refine lv_iload hx hb dX6_jar_22 (lv_at hl 5 rfl) ?_
        refine lv_iconst (v := 1) hx hb dX6_jar_24 (by decide) ?_
        refine lv_icmp_ge (tgt := 32) hx hb dX6_jar_25 (by decide) (fun c_25 => ?_) (fun c_25 => ?_)
        · skip
          refine lv_iconst (v := 0) hx hb dX6_jar_32 (by decide) ?_
          have kJ := kJ _ _ hst
          rw [show (b2i (decide (p2 < 0) || (decide (p3 < 0) || !decide (1 ≤ p4)))) = 0 from (by first | (rw [decide_eq_false c_14, decide_eq_false c_19, decide_eq_true c_25]; done) | (rw [decide_eq_false c_14, decide_eq_false c_19, decide_eq_true c_25]; rfl))] at kJ
          exact kJ
        · skip
          refine lv_iconst (v := 1) hx hb dX6_jar_28 (by decide) ?_
          refine lv_goto (tgt := 33) hx hb dX6_jar_29 (by decide) ?_
          have kJ := kJ _ _ hst
          rw [show (b2i (decide (p2 < 0) || (decide (p3 < 0) || !decide (1 ≤ p4)))) = 1 from (by first | (rw [decide_eq_false c_14, decide_eq_false c_19, decide_eq_false c_25]; done) | (rw [decide_eq_false c_14, decide_eq_false c_19, decide_eq_false c_25]; rfl))] at kJ
          exact kJ
  intro H locs hst
  suffices kJ : ∀ (H : Heap) (locs : List Loc), SS D A s [(o, .inr (6, [.ref tp, .ref nw, .ref th, .int im, .ref rf, .ref rt])), (rf, .inl (cI, 7, .inl ru)), (nw, .inr (1, [.ref j1, .ref j2, .ref mn, .ref lw, .int cut, .int least, .ref sd, .ref sr])), (g, .inr (0, [.int se, .int (nI kS0), .int (nI sp0), .int (nI de0), .int (b2i po), .ref gn, .ref gd, .ref gr, .ref gs, .int lo])), (gn, .inl (cI, 366, .inl (numF se kS0 sp0 de0 po))), (gd, .inl (cI, 367, .inl (dayF se kS0 sp0 de0 po))), (gr, .inl (cI, 366, .inl f))] H locs → W p l e (rmN 5 0 0) s m args below meth c H locs 0 0 QQ (F0 m 61 ls [.int (b2i (decide (2000 < p2) || (decide (365 < p3) || !decide (p4 ≤ 366)))), .int (b2i (decide (p2 < 0) || (decide (p3 < 0) || !decide (1 ≤ p4)))), .int 0, .int (b2i (!isJarB p0))]) by
    refine lv_iload_n hx hb dX6_jar_33 rfl (lv_at hl 3 rfl) ?_
    refine lv_sipush (v := 2000) hx hb dX6_jar_34 (by decide) ?_
    refine lv_icmp_gt (tgt := 56) hx hb dX6_jar_37 (by decide) (fun c_37 => ?_) (fun c_37 => ?_)
    · skip
      refine lv_iconst (v := 1) hx hb dX6_jar_56 (by decide) ?_
      refine lv_goto (tgt := 61) hx hb dX6_jar_57 (by decide) ?_
      have kJ := kJ _ _ hst
      rw [show (b2i (decide (2000 < p2) || (decide (365 < p3) || !decide (p4 ≤ 366)))) = 1 from (by first | (rw [decide_eq_true c_37]; done) | (rw [decide_eq_true c_37]; rfl))] at kJ
      exact kJ
    · skip
      refine lv_iload hx hb dX6_jar_40 (lv_at hl 4 rfl) ?_
      refine lv_sipush (v := 365) hx hb dX6_jar_42 (by decide) ?_
      refine lv_icmp_gt (tgt := 56) hx hb dX6_jar_45 (by decide) (fun c_45 => ?_) (fun c_45 => ?_)
      · skip
        refine lv_iconst (v := 1) hx hb dX6_jar_56 (by decide) ?_
        refine lv_goto (tgt := 61) hx hb dX6_jar_57 (by decide) ?_
        have kJ := kJ _ _ hst
        rw [show (b2i (decide (2000 < p2) || (decide (365 < p3) || !decide (p4 ≤ 366)))) = 1 from (by first | (rw [decide_eq_false c_37, decide_eq_true c_45]; done) | (rw [decide_eq_false c_37, decide_eq_true c_45]; rfl))] at kJ
        exact kJ
      · skip
        refine lv_iload hx hb dX6_jar_48 (lv_at hl 5 rfl) ?_
        refine lv_sipush (v := 366) hx hb dX6_jar_50 (by decide) ?_
        refine lv_icmp_le (tgt := 60) hx hb dX6_jar_53 (by decide) (fun c_53 => ?_) (fun c_53 => ?_)
        · skip
          refine lv_iconst (v := 0) hx hb dX6_jar_60 (by decide) ?_
          have kJ := kJ _ _ hst
          rw [show (b2i (decide (2000 < p2) || (decide (365 < p3) || !decide (p4 ≤ 366)))) = 0 from (by first | (rw [decide_eq_false c_37, decide_eq_false c_45, decide_eq_true c_53]; done) | (rw [decide_eq_false c_37, decide_eq_false c_45, decide_eq_true c_53]; rfl))] at kJ
          exact kJ
        · skip
          refine lv_iconst (v := 1) hx hb dX6_jar_56 (by decide) ?_
          refine lv_goto (tgt := 61) hx hb dX6_jar_57 (by decide) ?_
          have kJ := kJ _ _ hst
          rw [show (b2i (decide (2000 < p2) || (decide (365 < p3) || !decide (p4 ≤ 366)))) = 1 from (by first | (rw [decide_eq_false c_37, decide_eq_false c_45, decide_eq_false c_53]; done) | (rw [decide_eq_false c_37, decide_eq_false c_45, decide_eq_false c_53]; rfl))] at kJ
          exact kJ
  intro H locs hst
  refine q_goI (q_rS hE lk_X6_45 (c_X6_firstThatFits l D cI cJ cZ (!isJarB p0) false (decide (p2 < 0) || (decide (p3 < 0) || !decide (1 ≤ p4))) (decide (2000 < p2) || (decide (365 < p3) || !decide (p4 ≤ 366))) H.size) hst [] rfl rfl rfl hl.1 ⟨(Nat.le_of_ble_eq_true rfl), (Nat.le_of_ble_eq_true rfl)⟩ (rest := []) rfl (Nat.le_of_ble_eq_true rfl) dX6_jar_61 ⟨(Nat.le_of_ble_eq_true rfl), (Nat.le_of_ble_eq_true rfl)⟩) hE hst [] rfl (fun _ => rfl) (fun (_ : Unit) => [(o, .inr (6, [.ref tp, .ref nw, .ref th, .int im, .ref rf, .ref rt])), (rf, .inl (cI, 7, .inl ru)), (nw, .inr (1, [.ref j1, .ref j2, .ref mn, .ref lw, .int cut, .int least, .ref sd, .ref sr])), (g, .inr (0, [.int se, .int (nI kS0), .int (nI sp0), .int (nI de0), .int (b2i po), .ref gn, .ref gd, .ref gr, .ref gs, .int lo])), (gn, .inl (cI, 366, .inl (numF se kS0 sp0 de0 po))), (gd, .inl (cI, 367, .inl (dayF se kS0 sp0 de0 po))), (gr, .inl (cI, 366, .inl f))]) (fun _ => rfl) (fun _ H locs hF hst => ?_)
  refine lv_istore (lv' := [(6, .int (ftf (!isJarB p0) false (decide (p2 < 0) || (decide (p3 < 0) || !decide (1 ≤ p4))) (decide (2000 < p2) || (decide (365 < p3) || !decide (p4 ≤ 366))))), (0, .ref o), (1, .int p0), (2, .int p1), (3, .int p2), (4, .int p3), (5, .int p4)]) hx hb dX6_jar_64 hl (by decide) rfl (fun ls hl => ?_)
  refine lv_iload hx hb dX6_jar_66 (lv_at hl 0 rfl) ?_
  refine lv_if_eq (tgt := 78) hx hb dX6_jar_68 (by decide) (fun c_68 => ?_) (fun c_68 => ?_)
  · skip
    obtain ⟨f1, f2, f3, f4⟩ := ftf_1 c_68
    have hjr := not_f f1
    obtain ⟨kS, sp, de, g1, g2, g3, g4, rfl, rfl, rfl⟩ := jar_of f3 f4
    rw [nI_clamp (by omega), nI_clamp (by omega), nI_clamp (by omega)] at hQ
    skip
    refine lv_aload_n hx hb dX6_jar_78 rfl (lv_at hl 1 rfl) ?_
    refine gf_X6_19 hE hst 0 rfl rfl dX6_jar_79 ?_
    refine lv_iload_n hx hb dX6_jar_82 rfl (lv_at hl 2 rfl) ?_
    refine q_goR (q_rNV hE lk_X6_93 (c_X1_jarAt l D cI cJ cZ nw j1 j2 mn lw sd sr cut least p0 H.size) hst [2] rfl rfl rfl rfl rfl hl.1 ⟨(Nat.le_of_ble_eq_true rfl), (Nat.le_of_ble_eq_true rfl)⟩ (rest := []) rfl (Nat.le_of_ble_eq_true rfl) dX6_jar_83 ⟨(Nat.le_of_ble_eq_true rfl), (Nat.le_of_ble_eq_true rfl)⟩) hE hst [2] rfl (fun _ => rfl) (fun (_ : Unit) => [(o, .inr (6, [.ref tp, .ref nw, .ref th, .int im, .ref rf, .ref rt])), (rf, .inl (cI, 7, .inl ru)), (nw, .inr (1, [.ref j1, .ref j2, .ref mn, .ref lw, .int cut, .int least, .ref sd, .ref sr])), (g, .inr (0, [.int se, .int (nI kS0), .int (nI sp0), .int (nI de0), .int (b2i po), .ref gn, .ref gd, .ref gr, .ref gs, .int lo])), (gn, .inl (cI, 366, .inl (numF se kS0 sp0 de0 po))), (gd, .inl (cI, 367, .inl (dayF se kS0 sp0 de0 po))), (gr, .inl (cI, 366, .inl f))]) (fun _ => rfl) (fun _ H locs hF hst => ?_)
    refine q_topR (x' := g) (hsel hjr) ?_
    refine lv_iload_n hx hb dX6_jar_86 rfl (lv_at hl 3 rfl) ?_
    refine lv_iload_n hx hb dX6_jar_87 rfl (lv_at hl 4 rfl) ?_
    refine lv_iload hx hb dX6_jar_88 (lv_at hl 5 rfl) ?_
    refine lv_iload hx hb dX6_jar_90 (lv_at hl 6 rfl) ?_
    refine q_goV (q_rNV hE lk_X6_97 (c_X0_prepare l D cI cJ cZ g gn gd gr gs kS sp de se (nI kS0) (nI sp0) (nI de0) p1 lo po (numF se kS0 sp0 de0 po) (dayF se kS0 sp0 de0 po) f (by omega) (by omega) (by omega) (by omega) (by rw [dayF, dn_0]) H.size) hst [3, 4, 5, 6] rfl rfl rfl rfl rfl hl.1 ⟨(Nat.le_of_ble_eq_true rfl), (Nat.le_of_ble_eq_true rfl)⟩ (rest := []) rfl (Nat.le_of_ble_eq_true rfl) dX6_jar_92 ⟨(Nat.le_of_ble_eq_true rfl), (Nat.le_of_ble_eq_true rfl)⟩) hE hst [3, 4, 5, 6] rfl (fun _ => rfl) (fun (u : Int32 × (Nat → Int32)) => [(o, .inr (6, [.ref tp, .ref nw, .ref th, .int im, .ref rf, .ref rt])), (rf, .inl (cI, 7, .inl ru)), (nw, .inr (1, [.ref j1, .ref j2, .ref mn, .ref lw, .int cut, .int least, .ref sd, .ref sr])), (g, .inr (0, [.int p1, .int (nI kS), .int (nI sp), .int (nI de), .int (b2i po), .ref gn, .ref gd, .ref gr, .ref gs, .int u.1])), (gn, .inl (cI, 366, .inl (numF p1 kS sp de po))), (gd, .inl (cI, 367, .inl (dayF p1 kS sp de po))), (gr, .inl (cI, 366, .inl u.2))]) (fun _ => rfl) (fun u H locs hF hst => ?_)
    obtain ⟨lo1_1, f1_2⟩ := u
    have hst : SS D A s [(o, .inr (6, [.ref tp, .ref nw, .ref th, .int im, .ref rf, .ref rt])), (rf, .inl (cI, 7, .inl ru)), (nw, .inr (1, [.ref j1, .ref j2, .ref mn, .ref lw, .int cut, .int least, .ref sd, .ref sr])), (g, .inr (0, [.int p1, .int (nI kS), .int (nI sp), .int (nI de), .int (b2i po), .ref gn, .ref gd, .ref gr, .ref gs, .int lo1_1])), (gn, .inl (cI, 366, .inl (numF p1 kS sp de po))), (gd, .inl (cI, 367, .inl (dayF p1 kS sp de po))), (gr, .inl (cI, 366, .inl f1_2))] H locs := hst
    refine lv_iconst (v := 1) hx hb dX6_jar_95 (by decide) ?_
    exact q_retI hQ hE hr hk hst (lo1_1, f1_2) (by rw [if_pos c_68]) (trivial) (by simp only [if_pos c_68]) dX6_jar_96
  · skip
    refine lv_aload_n hx hb dX6_jar_71 rfl (lv_at hl 1 rfl) ?_
    refine lv_iload hx hb dX6_jar_72 (lv_at hl 0 rfl) ?_
    refine q_goI (q_rV hE lk_X6_49 (c_X6_refuse l D cI cJ cZ o tp nw th rf rt im ru (ftf (!isJarB p0) false (decide (p2 < 0) || (decide (p3 < 0) || !decide (1 ≤ p4))) (decide (2000 < p2) || (decide (365 < p3) || !decide (p4 ≤ 366)))) (ftf_in _ _ _ _) H.size) hst [0, 1] rfl rfl rfl rfl rfl hl.1 ⟨(Nat.le_of_ble_eq_true rfl), (Nat.le_of_ble_eq_true rfl)⟩ (rest := []) rfl (Nat.le_of_ble_eq_true rfl) dX6_jar_74 ⟨(Nat.le_of_ble_eq_true rfl), (Nat.le_of_ble_eq_true rfl)⟩) hE hst [0, 1] rfl (fun _ => rfl) (fun (_ : Unit) => [(o, .inr (6, [.ref tp, .ref nw, .ref th, .int im, .ref rf, .ref rt])), (rf, .inl (cI, 7, .inl (bmp ru (ftf (!isJarB p0) false (decide (p2 < 0) || (decide (p3 < 0) || !decide (1 ≤ p4))) (decide (2000 < p2) || (decide (365 < p3) || !decide (p4 ≤ 366))))))), (nw, .inr (1, [.ref j1, .ref j2, .ref mn, .ref lw, .int cut, .int least, .ref sd, .ref sr])), (g, .inr (0, [.int se, .int (nI kS0), .int (nI sp0), .int (nI de0), .int (b2i po), .ref gn, .ref gd, .ref gr, .ref gs, .int lo])), (gn, .inl (cI, 366, .inl (numF se kS0 sp0 de0 po))), (gd, .inl (cI, 367, .inl (dayF se kS0 sp0 de0 po))), (gr, .inl (cI, 366, .inl f))]) (fun _ => rfl) (fun _ H locs hF hst => ?_)
    exact q_retI hQ hE hr hk hst (lo, f) (by rw [if_neg c_68]) (trivial) (by simp only [if_neg c_68]) dX6_jar_77
theorem pour_1 {a b : Bool} (h : ¬ (if a = b then (0 : Int32) else 1) = 0) : (if a = b then (0 : Int32) else 1) = 1 := by
  by_cases e : a = b
  · rw [if_pos e] at h; exact absurd rfl h
  · rw [if_neg e]
theorem pour_0 {a b : Bool} (h : (if a = b then (0 : Int32) else 1) = 0) : (if a = b then (0 : Int32) else 1) = 0 := h
set_option maxHeartbeats 4000000 in
set_option maxRecDepth 100000 in
theorem c_X6_pour (l : Launch) (D : va_G) (cI cJ cZ : ClassId) (o : Nat) (tp : Nat) (nw : Nat) (th : Nat) (rf : Nat) (rt : Nat) (im : Int32) (ru : Nat → Int32) (j1 : Nat) (j2 : Nat) (mn : Nat) (lw : Nat) (sd : Nat) (sr : Nat) (cut : Int32) (least : Int32) (g : Nat) (gn : Nat) (gd : Nat) (gr : Nat) (gs : Nat) (kS : Nat) (sp : Nat) (de : Nat) (se : Int32) (lo : Int32) (p0 : Int32) (po : Bool) (b0 : Bool) (f : Nat → Int32) (hsel : isJarB p0 = true → (if p0 = 0 then j1 else j2) = g) (hk0 : kS < 2147483648) (hs : sp < 366) (hd1 : 1 ≤ de) (hd2 : de < 2147483648) : CtI l D cI cJ cZ yX6_pour cX6_pour 3 (some .int) 5 [.ref o, .int p0, .int (b2i b0)] [(o, .inr (6, [.ref tp, .ref nw, .ref th, .int im, .ref rf, .ref rt])), (rf, .inl (cI, 7, .inl ru)), (nw, .inr (1, [.ref j1, .ref j2, .ref mn, .ref lw, .int cut, .int least, .ref sd, .ref sr])), (g, .inr (0, [.int se, .int (nI kS), .int (nI sp), .int (nI de), .int (b2i po), .ref gn, .ref gd, .ref gr, .ref gs, .int lo])), (gn, .inl (cI, 366, .inl (numF se kS sp de po))), (gd, .inl (cI, 367, .inl (dayF se kS sp de po))), (gr, .inl (cI, 366, .inl f))] (fun (u : Int32 × (Nat → Int32)) => if isJarB p0 = true then (if po = b0 then 0 else 1) else -1) (fun (u : Int32 × (Nat → Int32)) => True) (fun (u : Int32 × (Nat → Int32)) => [(o, .inr (6, [.ref tp, .ref nw, .ref th, .int im, .ref rf, .ref rt])), (rf, .inl (cI, 7, .inl (if isJarB p0 = true then ru else bmp ru (-1)))), (nw, .inr (1, [.ref j1, .ref j2, .ref mn, .ref lw, .int cut, .int least, .ref sd, .ref sr])), (g, .inr (0, [.int se, .int (nI kS), .int (nI sp), .int (nI de), .int (b2i (if isJarB p0 = true then b0 else po)), .ref gn, .ref gd, .ref gr, .ref gs, .int u.1])), (gn, .inl (cI, 366, .inl (numF se kS sp de (if isJarB p0 = true then b0 else po)))), (gd, .inl (cI, 367, .inl (dayF se kS sp de (if isJarB p0 = true then b0 else po)))), (gr, .inl (cI, 366, .inl u.2))]) := by
  refine q_entI (own := RX6) rfl rfl (Nat.le_of_ble_eq_true rfl) ?_
  intro p e s m args below meth c A ls QQ hQ hE hx hb hr hk hin hA hl hst
  have hl : lv_has ls 3 [(0, .ref o), (1, .int p0), (2, .int (b2i b0))] := hl
  refine lv_iload_n hx hb dX6_pour_0 rfl (lv_at hl 1 rfl) ?_
  refine q_goI (q_rS hE lk_X6_90 (c_X6_isJar l D cI cJ cZ p0 s.heap.size) hst [] rfl rfl rfl hl.1 ⟨(Nat.le_of_ble_eq_true rfl), (Nat.le_of_ble_eq_true rfl)⟩ (rest := []) rfl (Nat.le_of_ble_eq_true rfl) dX6_pour_1 ⟨(Nat.le_of_ble_eq_true rfl), (Nat.le_of_ble_eq_true rfl)⟩) hE hst [] rfl (fun _ => rfl) (fun (_ : Unit) => [(o, .inr (6, [.ref tp, .ref nw, .ref th, .int im, .ref rf, .ref rt])), (rf, .inl (cI, 7, .inl ru)), (nw, .inr (1, [.ref j1, .ref j2, .ref mn, .ref lw, .int cut, .int least, .ref sd, .ref sr])), (g, .inr (0, [.int se, .int (nI kS), .int (nI sp), .int (nI de), .int (b2i po), .ref gn, .ref gd, .ref gr, .ref gs, .int lo])), (gn, .inl (cI, 366, .inl (numF se kS sp de po))), (gd, .inl (cI, 367, .inl (dayF se kS sp de po))), (gr, .inl (cI, 366, .inl f))]) (fun _ => rfl) (fun _ H locs hF hst => ?_)
  refine lv_if_ne (tgt := 13) hx hb dX6_pour_4 (by decide) (fun c_4 => ?_) (fun c_4 => ?_)
  · skip
    have c_4 := b2i_t c_4
    have hjr := c_4
    refine lv_aload_n hx hb dX6_pour_13 rfl (lv_at hl 0 rfl) ?_
    refine gf_X6_19 hE hst 0 rfl rfl dX6_pour_14 ?_
    refine lv_iload_n hx hb dX6_pour_17 rfl (lv_at hl 1 rfl) ?_
    refine q_goR (q_rNV hE lk_X6_93 (c_X1_jarAt l D cI cJ cZ nw j1 j2 mn lw sd sr cut least p0 H.size) hst [2] rfl rfl rfl rfl rfl hl.1 ⟨(Nat.le_of_ble_eq_true rfl), (Nat.le_of_ble_eq_true rfl)⟩ (rest := []) rfl (Nat.le_of_ble_eq_true rfl) dX6_pour_18 ⟨(Nat.le_of_ble_eq_true rfl), (Nat.le_of_ble_eq_true rfl)⟩) hE hst [2] rfl (fun _ => rfl) (fun (_ : Unit) => [(o, .inr (6, [.ref tp, .ref nw, .ref th, .int im, .ref rf, .ref rt])), (rf, .inl (cI, 7, .inl ru)), (nw, .inr (1, [.ref j1, .ref j2, .ref mn, .ref lw, .int cut, .int least, .ref sd, .ref sr])), (g, .inr (0, [.int se, .int (nI kS), .int (nI sp), .int (nI de), .int (b2i po), .ref gn, .ref gd, .ref gr, .ref gs, .int lo])), (gn, .inl (cI, 366, .inl (numF se kS sp de po))), (gd, .inl (cI, 367, .inl (dayF se kS sp de po))), (gr, .inl (cI, 366, .inl f))]) (fun _ => rfl) (fun _ H locs hF hst => ?_)
    refine q_topR (x' := g) (hsel hjr) ?_
    refine lv_iload_n hx hb dX6_pour_21 rfl (lv_at hl 2 rfl) ?_
    refine q_goI (q_rNV hE lk_X6_103 (c_X0_turnOver l D cI cJ cZ g gn gd gr gs kS sp de se lo po b0 f (by first | assumption | decide | omega) (by first | assumption | decide | omega) (by first | assumption | decide | omega) (by first | assumption | decide | omega) H.size) hst [3, 4, 5, 6] rfl rfl rfl rfl rfl hl.1 ⟨(Nat.le_of_ble_eq_true rfl), (Nat.le_of_ble_eq_true rfl)⟩ (rest := []) rfl (Nat.le_of_ble_eq_true rfl) dX6_pour_22 ⟨(Nat.le_of_ble_eq_true rfl), (Nat.le_of_ble_eq_true rfl)⟩) hE hst [3, 4, 5, 6] rfl (fun _ => rfl) (fun (u : Int32 × (Nat → Int32)) => [(o, .inr (6, [.ref tp, .ref nw, .ref th, .int im, .ref rf, .ref rt])), (rf, .inl (cI, 7, .inl ru)), (nw, .inr (1, [.ref j1, .ref j2, .ref mn, .ref lw, .int cut, .int least, .ref sd, .ref sr])), (g, .inr (0, [.int se, .int (nI kS), .int (nI sp), .int (nI de), .int (b2i b0), .ref gn, .ref gd, .ref gr, .ref gs, .int u.1])), (gn, .inl (cI, 366, .inl (numF se kS sp de b0))), (gd, .inl (cI, 367, .inl (dayF se kS sp de b0))), (gr, .inl (cI, 366, .inl u.2))]) (fun _ => rfl) (fun u H locs hF hst => ?_)
    obtain ⟨lo1_1, f1_2⟩ := u
    have hst : SS D A s [(o, .inr (6, [.ref tp, .ref nw, .ref th, .int im, .ref rf, .ref rt])), (rf, .inl (cI, 7, .inl ru)), (nw, .inr (1, [.ref j1, .ref j2, .ref mn, .ref lw, .int cut, .int least, .ref sd, .ref sr])), (g, .inr (0, [.int se, .int (nI kS), .int (nI sp), .int (nI de), .int (b2i b0), .ref gn, .ref gd, .ref gr, .ref gs, .int lo1_1])), (gn, .inl (cI, 366, .inl (numF se kS sp de b0))), (gd, .inl (cI, 367, .inl (dayF se kS sp de b0))), (gr, .inl (cI, 366, .inl f1_2))] H locs := hst
    refine W.eq (g2 := F0 m 25 ls [.int (if po = b0 then 0 else 1)]) rfl ?_
    refine lv_if_eq (tgt := 32) hx hb dX6_pour_25 (by decide) (fun c_25 => ?_) (fun c_25 => ?_)
    · skip
      refine lv_iconst (v := 0) hx hb dX6_pour_32 (by decide) ?_
      exact q_retI hQ hE hr hk hst (lo1_1, f1_2) (by rw [if_pos c_4]; exact (pour_0 c_25).symm) (trivial) (by simp only [if_pos c_4]) dX6_pour_33
    · skip
      refine lv_iconst (v := 1) hx hb dX6_pour_28 (by decide) ?_
      refine lv_goto (tgt := 33) hx hb dX6_pour_29 (by decide) ?_
      exact q_retI hQ hE hr hk hst (lo1_1, f1_2) (by rw [if_pos c_4]; exact (pour_1 c_25).symm) (trivial) (by simp only [if_pos c_4]) dX6_pour_33
  · skip
    have c_4 := b2i_f c_4
    refine lv_aload_n hx hb dX6_pour_7 rfl (lv_at hl 0 rfl) ?_
    refine lv_iconst (v := (-1)) hx hb dX6_pour_8 (by decide) ?_
    refine q_goI (q_rV hE lk_X6_49 (c_X6_refuse l D cI cJ cZ o tp nw th rf rt im ru (-1) (by rw [vp_in_iff]; decide) H.size) hst [0, 1] rfl rfl rfl rfl rfl hl.1 ⟨(Nat.le_of_ble_eq_true rfl), (Nat.le_of_ble_eq_true rfl)⟩ (rest := []) rfl (Nat.le_of_ble_eq_true rfl) dX6_pour_9 ⟨(Nat.le_of_ble_eq_true rfl), (Nat.le_of_ble_eq_true rfl)⟩) hE hst [0, 1] rfl (fun _ => rfl) (fun (_ : Unit) => [(o, .inr (6, [.ref tp, .ref nw, .ref th, .int im, .ref rf, .ref rt])), (rf, .inl (cI, 7, .inl (bmp ru (-1)))), (nw, .inr (1, [.ref j1, .ref j2, .ref mn, .ref lw, .int cut, .int least, .ref sd, .ref sr])), (g, .inr (0, [.int se, .int (nI kS), .int (nI sp), .int (nI de), .int (b2i po), .ref gn, .ref gd, .ref gr, .ref gs, .int lo])), (gn, .inl (cI, 366, .inl (numF se kS sp de po))), (gd, .inl (cI, 367, .inl (dayF se kS sp de po))), (gr, .inl (cI, 366, .inl f))]) (fun _ => rfl) (fun _ H locs hF hst => ?_)
    exact q_retI hQ hE hr hk hst (lo, f) (by rw [if_neg (by rw [c_4]; decide)]) (trivial) (by simp only [if_neg (show ¬ isJarB p0 = true by rw [c_4]; decide)]) dX6_pour_12
