theorem law_6 {L i : Nat} (hL : L ≤ 3072) (hi : i ≤ L) (h : ¬ nI L - 6 < nI i) : i + 6 ≤ L := by
  have h1 := pk_sub_toInt (a := L) (b := 6) (by omega) (by omega)
  have h2 := nI_toInt (n := i) (by omega)
  rw [show (6 : Int32) = nI 6 from rfl, Int32.lt_iff_toInt_lt, h1, h2] at h
  omega
set_option maxHeartbeats 4000000 in
set_option maxRecDepth 100000 in
theorem law_loop {p : Program} {l : Launch} {e : Env} {s : State} {m : MethodId} {args : Array Value} {below : List Frame} {meth : Method} {c : Code} {Q : State → Prop} {D : va_G} {cI cJ cZ : ClassId} {ad bd : Nat → Nat} {b L : Nat} {xs : Nat → Int32} (hE : EV p m c cL_law 4 s args RL D cI cJ cZ (fun q : Nat => s.heap.size ≤ q)) (hx : p.tables.exec = Jvm.exec) (hb : c.code = cL_law) (hX : va_X b L xs s s.heap) (hbl : b < s.heap.size) (hL : L ≤ 3072)
    (hend : ∀ (H : Heap) (locs : List Loc) (ls : Array Slot), SW D cI cJ cZ (fun q : Nat => s.heap.size ≤ q) s ad bd H locs → W p l e room_1 s m args below meth c H locs 59 6511 Q (F0 m 1121 ls [])) :
    ∀ (fu i : Nat), L < i + fu → i ≤ L → ∀ (H : Heap) (locs : List Loc) (ls : Array Slot), SW D cI cJ cZ (fun q : Nat => s.heap.size ≤ q) s ad bd H locs → lv_has ls 4 [(3, .int (nI i)), (0, .ref b), (1, .ref (ad 0)), (2, .ref (bd 0))] → W p l e room_1 s m args below meth c H locs 59 6511 Q (F0 m 18 ls []) := by
  have hbA : ¬ (fun q : Nat => s.heap.size ≤ q) b := Nat.not_le.mpr hbl
  intro fu
  induction fu with
  | zero => intro i h1 h2; exact absurd h1 (by omega)
  | succ fu ih =>
    intro i hfu hiL H locs ls hS hl
    have kk : ∀ (H : Heap) (locs : List Loc), SW D cI cJ cZ (fun q : Nat => s.heap.size ≤ q) s ad bd H locs → i + 6 ≤ L → W p l e room_1 s m args below meth c H locs 59 6511 Q (F0 m 1115 ls []) := fun H locs hS hi6 => by
      refine lv_iinc (v := nI (i + 6)) (lv' := [(3, .int (nI (i + 6))), (0, .ref b), (1, .ref (ad 0)), (2, .ref (bd 0))]) hx hb dL_law_1115 hl (k := 0) rfl (nI_add i 6) (by decide) rfl (fun ls hl => ?_)
      refine lv_goto (tgt := 18) hx hb dL_law_1118 (by decide) ?_
      exact ih (i + 6) (by omega) hi6 H locs ls hS hl
    obtain ⟨J, K, seF, kF, spF, deF, pF, n, ki, bi, pa, la, cut, least, seG, kG, spG, deG, pG, nG, kj, bj, pb, lb, cuG, leG, t0, tb, ru, hi, h, hg, ht, hm, hst⟩ := id hS
    refine lv_iload_n hx hb dL_law_18 rfl (lv_at hl 0 rfl) ?_
    refine lv_aload_n hx hb dL_law_19 rfl (lv_at hl 1 rfl) ?_
    refine va_slen hx hb hX hbl hbA hst.2.2 dL_law_20 ?_
    refine lv_bipush (v := 6) hx hb dL_law_21 (by decide) ?_
    refine lv_isub hx hb dL_law_23 ?_
    refine lv_icmp_gt (tgt := 1121) hx hb dL_law_24 (by decide) (fun c_24 => hend H locs ls hS) (fun c_24 => ?_)
    have hi6 : i + 6 ≤ L := law_6 hL hiL c_24
    have kk := fun H locs hS => kk H locs hS hi6
    refine lv_aload_n hx hb dL_law_27 rfl (lv_at hl 1 rfl) ?_
    refine lv_iload_n hx hb dL_law_28 rfl (lv_at hl 0 rfl) ?_
    refine va_sld hx hb hX hbl hbA hst.2.2 (vp_in_nI (show i < L by omega) (by omega)) dL_law_29 ?_
    refine q_top (x' := xs i) (by rw [nI_clamp (by omega)]) ?_
    refine lv_bipush (v := 31) hx hb dL_law_30 (by decide) ?_
    refine lv_iand hx hb dL_law_32 ?_
    by_cases g0 : xs i &&& 31 = 0
    · refine lv_tableIn (off := 131) (tgt := 164) hx hb dL_law_33 (by rw [g0]; decide) (by rw [g0]; decide) (by rw [g0]; rfl) (by decide) ?_
      exact law_c0 (l := l) (e := e) hE hx hb hX hbl hi6 hL hl hS kk
    by_cases g1 : xs i &&& 31 = 1
    · refine lv_tableIn (off := 194) (tgt := 227) hx hb dL_law_33 (by rw [g1]; decide) (by rw [g1]; decide) (by rw [g1]; rfl) (by decide) ?_
      exact law_c1 (l := l) (e := e) hE hx hb hX hbl hi6 hL hl hS kk
    by_cases g2 : xs i &&& 31 = 2
    · refine lv_tableIn (off := 207) (tgt := 240) hx hb dL_law_33 (by rw [g2]; decide) (by rw [g2]; decide) (by rw [g2]; rfl) (by decide) ?_
      exact law_c2 (l := l) (e := e) hE hx hb hX hbl hi6 hL hl hS kk
    by_cases g3 : xs i &&& 31 = 3
    · refine lv_tableIn (off := 270) (tgt := 303) hx hb dL_law_33 (by rw [g3]; decide) (by rw [g3]; decide) (by rw [g3]; rfl) (by decide) ?_
      exact law_c3 (l := l) (e := e) hE hx hb hX hbl hi6 hL hl hS kk
    by_cases g4 : xs i &&& 31 = 4
    · refine lv_tableIn (off := 319) (tgt := 352) hx hb dL_law_33 (by rw [g4]; decide) (by rw [g4]; decide) (by rw [g4]; rfl) (by decide) ?_
      exact law_c4 (l := l) (e := e) hE hx hb hX hbl hi6 hL hl hS kk
    by_cases g5 : xs i &&& 31 = 5
    · refine lv_tableIn (off := 352) (tgt := 385) hx hb dL_law_33 (by rw [g5]; decide) (by rw [g5]; decide) (by rw [g5]; rfl) (by decide) ?_
      exact law_c5 (l := l) (e := e) hE hx hb hX hbl hi6 hL hl hS kk
    by_cases g6 : xs i &&& 31 = 6
    · refine lv_tableIn (off := 385) (tgt := 418) hx hb dL_law_33 (by rw [g6]; decide) (by rw [g6]; decide) (by rw [g6]; rfl) (by decide) ?_
      exact law_c6 (l := l) (e := e) hE hx hb hX hbl hi6 hL hl hS kk
    by_cases g7 : xs i &&& 31 = 7
    · refine lv_tableIn (off := 429) (tgt := 462) hx hb dL_law_33 (by rw [g7]; decide) (by rw [g7]; decide) (by rw [g7]; rfl) (by decide) ?_
      exact law_c7 (l := l) (e := e) hE hx hb hX hbl hi6 hL hl hS kk
    by_cases g8 : xs i &&& 31 = 8
    · refine lv_tableIn (off := 453) (tgt := 486) hx hb dL_law_33 (by rw [g8]; decide) (by rw [g8]; decide) (by rw [g8]; rfl) (by decide) ?_
      exact law_c8 (l := l) (e := e) hE hx hb hX hbl hi6 hL hl hS kk
    by_cases g9 : xs i &&& 31 = 9
    · refine lv_tableIn (off := 476) (tgt := 509) hx hb dL_law_33 (by rw [g9]; decide) (by rw [g9]; decide) (by rw [g9]; rfl) (by decide) ?_
      exact law_c9 (l := l) (e := e) hE hx hb hX hbl hi6 hL hl hS kk
    by_cases g10 : xs i &&& 31 = 10
    · refine lv_tableIn (off := 499) (tgt := 532) hx hb dL_law_33 (by rw [g10]; decide) (by rw [g10]; decide) (by rw [g10]; rfl) (by decide) ?_
      exact law_c10 (l := l) (e := e) hE hx hb hX hbl hi6 hL hl hS kk
    by_cases g11 : xs i &&& 31 = 11
    · refine lv_tableIn (off := 532) (tgt := 565) hx hb dL_law_33 (by rw [g11]; decide) (by rw [g11]; decide) (by rw [g11]; rfl) (by decide) ?_
      exact law_c11 (l := l) (e := e) hE hx hb hX hbl hi6 hL hl hS kk
    by_cases g12 : xs i &&& 31 = 12
    · refine lv_tableIn (off := 555) (tgt := 588) hx hb dL_law_33 (by rw [g12]; decide) (by rw [g12]; decide) (by rw [g12]; rfl) (by decide) ?_
      exact law_c12 (l := l) (e := e) hE hx hb hX hbl hi6 hL hl hS kk
    by_cases g13 : xs i &&& 31 = 13
    · refine lv_tableIn (off := 588) (tgt := 621) hx hb dL_law_33 (by rw [g13]; decide) (by rw [g13]; decide) (by rw [g13]; rfl) (by decide) ?_
      exact law_c13 (l := l) (e := e) hE hx hb hX hbl hi6 hL hl hS kk
    by_cases g14 : xs i &&& 31 = 14
    · refine lv_tableIn (off := 621) (tgt := 654) hx hb dL_law_33 (by rw [g14]; decide) (by rw [g14]; decide) (by rw [g14]; rfl) (by decide) ?_
      exact law_c14 (l := l) (e := e) hE hx hb hX hbl hi6 hL hl hS kk
    by_cases g15 : xs i &&& 31 = 15
    · refine lv_tableIn (off := 654) (tgt := 687) hx hb dL_law_33 (by rw [g15]; decide) (by rw [g15]; decide) (by rw [g15]; rfl) (by decide) ?_
      exact law_c15 (l := l) (e := e) hE hx hb hX hbl hi6 hL hl hS kk
    by_cases g16 : xs i &&& 31 = 16
    · refine lv_tableIn (off := 698) (tgt := 731) hx hb dL_law_33 (by rw [g16]; decide) (by rw [g16]; decide) (by rw [g16]; rfl) (by decide) ?_
      exact law_c16 (l := l) (e := e) hE hx hb hX hbl hi6 hL hl hS kk
    by_cases g17 : xs i &&& 31 = 17
    · refine lv_tableIn (off := 742) (tgt := 775) hx hb dL_law_33 (by rw [g17]; decide) (by rw [g17]; decide) (by rw [g17]; rfl) (by decide) ?_
      exact law_c17 (l := l) (e := e) hE hx hb hX hbl hi6 hL hl hS kk
    by_cases g18 : xs i &&& 31 = 18
    · refine lv_tableIn (off := 776) (tgt := 809) hx hb dL_law_33 (by rw [g18]; decide) (by rw [g18]; decide) (by rw [g18]; rfl) (by decide) ?_
      exact law_c18 (l := l) (e := e) hE hx hb hX hbl hi6 hL hl hS kk
    by_cases g19 : xs i &&& 31 = 19
    · refine lv_tableIn (off := 820) (tgt := 853) hx hb dL_law_33 (by rw [g19]; decide) (by rw [g19]; decide) (by rw [g19]; rfl) (by decide) ?_
      exact law_c19 (l := l) (e := e) hE hx hb hX hbl hi6 hL hl hS kk
    by_cases g20 : xs i &&& 31 = 20
    · refine lv_tableIn (off := 864) (tgt := 897) hx hb dL_law_33 (by rw [g20]; decide) (by rw [g20]; decide) (by rw [g20]; rfl) (by decide) ?_
      exact law_c20 (l := l) (e := e) hE hx hb hX hbl hi6 hL hl hS kk
    by_cases g21 : xs i &&& 31 = 21
    · refine lv_tableIn (off := 897) (tgt := 930) hx hb dL_law_33 (by rw [g21]; decide) (by rw [g21]; decide) (by rw [g21]; rfl) (by decide) ?_
      exact law_c21 (l := l) (e := e) hE hx hb hX hbl hi6 hL hl hS kk
    by_cases g22 : xs i &&& 31 = 22
    · refine lv_tableIn (off := 951) (tgt := 984) hx hb dL_law_33 (by rw [g22]; decide) (by rw [g22]; decide) (by rw [g22]; rfl) (by decide) ?_
      exact law_c22 (l := l) (e := e) hE hx hb hX hbl hi6 hL hl hS kk
    by_cases g23 : xs i &&& 31 = 23
    · refine lv_tableIn (off := 974) (tgt := 1007) hx hb dL_law_33 (by rw [g23]; decide) (by rw [g23]; decide) (by rw [g23]; rfl) (by decide) ?_
      exact law_c23 (l := l) (e := e) hE hx hb hX hbl hi6 hL hl hS kk
    by_cases g24 : xs i &&& 31 = 24
    · refine lv_tableIn (off := 987) (tgt := 1020) hx hb dL_law_33 (by rw [g24]; decide) (by rw [g24]; decide) (by rw [g24]; rfl) (by decide) ?_
      exact law_c24 (l := l) (e := e) hE hx hb hX hbl hi6 hL hl hS kk
    by_cases g25 : xs i &&& 31 = 25
    · refine lv_tableIn (off := 1000) (tgt := 1033) hx hb dL_law_33 (by rw [g25]; decide) (by rw [g25]; decide) (by rw [g25]; rfl) (by decide) ?_
      exact law_c25 (l := l) (e := e) hE hx hb hX hbl hi6 hL hl hS kk
    by_cases g26 : xs i &&& 31 = 26
    · refine lv_tableIn (off := 1033) (tgt := 1066) hx hb dL_law_33 (by rw [g26]; decide) (by rw [g26]; decide) (by rw [g26]; rfl) (by decide) ?_
      exact law_c26 (l := l) (e := e) hE hx hb hX hbl hi6 hL hl hS kk
    by_cases g27 : xs i &&& 31 = 27
    · refine lv_tableIn (off := 1046) (tgt := 1079) hx hb dL_law_33 (by rw [g27]; decide) (by rw [g27]; decide) (by rw [g27]; rfl) (by decide) ?_
      exact law_c27 (l := l) (e := e) hE hx hb hX hbl hi6 hL hl hS kk
    by_cases g28 : xs i &&& 31 = 28
    · refine lv_tableIn (off := 1059) (tgt := 1092) hx hb dL_law_33 (by rw [g28]; decide) (by rw [g28]; decide) (by rw [g28]; rfl) (by decide) ?_
      exact law_c28 (l := l) (e := e) hE hx hb hX hbl hi6 hL hl hS kk
    refine lv_tableOut (tgt := 1115) hx hb dL_law_33 (by have q0 := lv_neT g0 (a := 0) (by decide); have q1 := lv_neT g1 (a := 1) (by decide); have q2 := lv_neT g2 (a := 2) (by decide); have q3 := lv_neT g3 (a := 3) (by decide); have q4 := lv_neT g4 (a := 4) (by decide); have q5 := lv_neT g5 (a := 5) (by decide); have q6 := lv_neT g6 (a := 6) (by decide); have q7 := lv_neT g7 (a := 7) (by decide); have q8 := lv_neT g8 (a := 8) (by decide); have q9 := lv_neT g9 (a := 9) (by decide); have q10 := lv_neT g10 (a := 10) (by decide); have q11 := lv_neT g11 (a := 11) (by decide); have q12 := lv_neT g12 (a := 12) (by decide); have q13 := lv_neT g13 (a := 13) (by decide); have q14 := lv_neT g14 (a := 14) (by decide); have q15 := lv_neT g15 (a := 15) (by decide); have q16 := lv_neT g16 (a := 16) (by decide); have q17 := lv_neT g17 (a := 17) (by decide); have q18 := lv_neT g18 (a := 18) (by decide); have q19 := lv_neT g19 (a := 19) (by decide); have q20 := lv_neT g20 (a := 20) (by decide); have q21 := lv_neT g21 (a := 21) (by decide); have q22 := lv_neT g22 (a := 22) (by decide); have q23 := lv_neT g23 (a := 23) (by decide); have q24 := lv_neT g24 (a := 24) (by decide); have q25 := lv_neT g25 (a := 25) (by decide); have q26 := lv_neT g26 (a := 26) (by decide); have q27 := lv_neT g27 (a := 27) (by decide); have q28 := lv_neT g28 (a := 28) (by decide); omega) (by decide) ?_
    exact kk H locs hS
