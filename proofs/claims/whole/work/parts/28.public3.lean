set_option maxHeartbeats 4000000 in
set_option maxRecDepth 100000 in
theorem c_X6_turned (l : Launch) (D : va_G) (cI cJ cZ : ClassId) (o : Nat) (tp : Nat) (nw : Nat) (th : Nat) (rf : Nat) (rt : Nat) (im : Int32) (ru : Nat → Int32) (j1 : Nat) (j2 : Nat) (mn : Nat) (lw : Nat) (sd : Nat) (sr : Nat) (cut : Int32) (least : Int32) (g : Nat) (gn : Nat) (gd : Nat) (gr : Nat) (gs : Nat) (se : Int32) (sh : Int32) (sp : Int32) (de : Int32) (po : Int32) (lo : Int32) (nd : Nat → Int32) (sn : Nat → Int64) (v : Nat → Nat) (p0 : Int32) (hsel : isJarB p0 = true → (if p0 = 0 then j1 else j2) = g) (hv : ∀ j, j < 366 → nd j = nI (v j) ∧ v j < 384) : CtI l D cI cJ cZ yX6_turned cX6_turned 2 (some .int) 3 [.ref o, .int p0] [(o, .inr (6, [.ref tp, .ref nw, .ref th, .int im, .ref rf, .ref rt])), (rf, .inl (cI, 7, .inl ru)), (nw, .inr (1, [.ref j1, .ref j2, .ref mn, .ref lw, .int cut, .int least, .ref sd, .ref sr])), (g, .inr (0, [.int se, .int sh, .int sp, .int de, .int po, .ref gn, .ref gd, .ref gr, .ref gs, .int lo])), (gn, .inl (cI, 366, .inl nd)), (gs, .inl (cJ, 6, .inr (.inl sn)))] (fun (_ : Unit) => if isJarB p0 = true then (tpN v 366).2 else -1) (fun (_ : Unit) => True) (fun (_ : Unit) => [(o, .inr (6, [.ref tp, .ref nw, .ref th, .int im, .ref rf, .ref rt])), (rf, .inl (cI, 7, .inl (if isJarB p0 = true then ru else bmp ru (-1)))), (nw, .inr (1, [.ref j1, .ref j2, .ref mn, .ref lw, .int cut, .int least, .ref sd, .ref sr])), (g, .inr (0, [.int se, .int sh, .int sp, .int de, .int po, .ref gn, .ref gd, .ref gr, .ref gs, .int lo])), (gn, .inl (cI, 366, .inl nd)), (gs, .inl (cJ, 6, .inr (.inl (if isJarB p0 = true then (tpN v 366).1 else sn))))]) := by
  refine q_entI (own := RX6) rfl rfl (Nat.le_of_ble_eq_true rfl) ?_
  intro p e s m args below meth c A ls QQ hQ hE hx hb hr hk hin hA hl hst
  have hl : lv_has ls 2 [(0, .ref o), (1, .int p0)] := hl
  refine lv_iload_n hx hb dX6_turned_0 rfl (lv_at hl 1 rfl) ?_
  refine q_goI (q_rS hE lk_X6_90 (c_X6_isJar l D cI cJ cZ p0 s.heap.size) hst [] rfl rfl rfl hl.1 ⟨(Nat.le_of_ble_eq_true rfl), (Nat.le_of_ble_eq_true rfl)⟩ (rest := []) rfl (Nat.le_of_ble_eq_true rfl) dX6_turned_1 ⟨(Nat.le_of_ble_eq_true rfl), (Nat.le_of_ble_eq_true rfl)⟩) hE hst [] rfl (fun _ => rfl) (fun (_ : Unit) => [(o, .inr (6, [.ref tp, .ref nw, .ref th, .int im, .ref rf, .ref rt])), (rf, .inl (cI, 7, .inl ru)), (nw, .inr (1, [.ref j1, .ref j2, .ref mn, .ref lw, .int cut, .int least, .ref sd, .ref sr])), (g, .inr (0, [.int se, .int sh, .int sp, .int de, .int po, .ref gn, .ref gd, .ref gr, .ref gs, .int lo])), (gn, .inl (cI, 366, .inl nd)), (gs, .inl (cJ, 6, .inr (.inl sn)))]) (fun _ => rfl) (fun _ H locs hF hst => ?_)
  refine lv_if_ne (tgt := 13) hx hb dX6_turned_4 (by decide) (fun c_4 => ?_) (fun c_4 => ?_)
  · skip
    have c_4 := b2i_t c_4
    have hjr := c_4
    refine lv_aload_n hx hb dX6_turned_13 rfl (lv_at hl 0 rfl) ?_
    refine gf_X6_19 hE hst 0 rfl rfl dX6_turned_14 ?_
    refine lv_iload_n hx hb dX6_turned_17 rfl (lv_at hl 1 rfl) ?_
    refine q_goR (q_rNV hE lk_X6_93 (c_X1_jarAt l D cI cJ cZ nw j1 j2 mn lw sd sr cut least p0 H.size) hst [2] rfl rfl rfl rfl rfl hl.1 ⟨(Nat.le_of_ble_eq_true rfl), (Nat.le_of_ble_eq_true rfl)⟩ (rest := []) rfl (Nat.le_of_ble_eq_true rfl) dX6_turned_18 ⟨(Nat.le_of_ble_eq_true rfl), (Nat.le_of_ble_eq_true rfl)⟩) hE hst [2] rfl (fun _ => rfl) (fun (_ : Unit) => [(o, .inr (6, [.ref tp, .ref nw, .ref th, .int im, .ref rf, .ref rt])), (rf, .inl (cI, 7, .inl ru)), (nw, .inr (1, [.ref j1, .ref j2, .ref mn, .ref lw, .int cut, .int least, .ref sd, .ref sr])), (g, .inr (0, [.int se, .int sh, .int sp, .int de, .int po, .ref gn, .ref gd, .ref gr, .ref gs, .int lo])), (gn, .inl (cI, 366, .inl nd)), (gs, .inl (cJ, 6, .inr (.inl sn)))]) (fun _ => rfl) (fun _ H locs hF hst => ?_)
    refine q_topR (x' := g) (hsel hjr) ?_
    refine q_goI (q_rNV hE lk_X6_143 (c_X0_turnedPairs l D cI cJ cZ g gn gd gr gs se sh sp de po lo nd sn v (hv) H.size) hst [3, 4, 5] rfl rfl rfl rfl rfl hl.1 ⟨(Nat.le_of_ble_eq_true rfl), (Nat.le_of_ble_eq_true rfl)⟩ (rest := []) rfl (Nat.le_of_ble_eq_true rfl) dX6_turned_21 ⟨(Nat.le_of_ble_eq_true rfl), (Nat.le_of_ble_eq_true rfl)⟩) hE hst [3, 4, 5] rfl (fun _ => rfl) (fun (_ : Unit) => [(o, .inr (6, [.ref tp, .ref nw, .ref th, .int im, .ref rf, .ref rt])), (rf, .inl (cI, 7, .inl ru)), (nw, .inr (1, [.ref j1, .ref j2, .ref mn, .ref lw, .int cut, .int least, .ref sd, .ref sr])), (g, .inr (0, [.int se, .int sh, .int sp, .int de, .int po, .ref gn, .ref gd, .ref gr, .ref gs, .int lo])), (gn, .inl (cI, 366, .inl nd)), (gs, .inl (cJ, 6, .inr (.inl ((tpN v 366).1))))]) (fun _ => rfl) (fun _ H locs hF hst => ?_)
    exact q_retI hQ hE hr hk hst () (by simp only [if_pos c_4]) (trivial) (by simp only [if_pos c_4]) dX6_turned_24
  · skip
    have c_4 := b2i_f c_4
    refine lv_aload_n hx hb dX6_turned_7 rfl (lv_at hl 0 rfl) ?_
    refine lv_iconst (v := (-1)) hx hb dX6_turned_8 (by decide) ?_
    refine q_goI (q_rV hE lk_X6_49 (c_X6_refuse l D cI cJ cZ o tp nw th rf rt im ru (-1) (by rw [vp_in_iff]; decide) H.size) hst [0, 1] rfl rfl rfl rfl rfl hl.1 ⟨(Nat.le_of_ble_eq_true rfl), (Nat.le_of_ble_eq_true rfl)⟩ (rest := []) rfl (Nat.le_of_ble_eq_true rfl) dX6_turned_9 ⟨(Nat.le_of_ble_eq_true rfl), (Nat.le_of_ble_eq_true rfl)⟩) hE hst [0, 1] rfl (fun _ => rfl) (fun (_ : Unit) => [(o, .inr (6, [.ref tp, .ref nw, .ref th, .int im, .ref rf, .ref rt])), (rf, .inl (cI, 7, .inl (bmp ru (-1)))), (nw, .inr (1, [.ref j1, .ref j2, .ref mn, .ref lw, .int cut, .int least, .ref sd, .ref sr])), (g, .inr (0, [.int se, .int sh, .int sp, .int de, .int po, .ref gn, .ref gd, .ref gr, .ref gs, .int lo])), (gn, .inl (cI, 366, .inl nd)), (gs, .inl (cJ, 6, .inr (.inl sn)))]) (fun _ => rfl) (fun _ H locs hF hst => ?_)
    exact q_retI hQ hE hr hk hst () (by simp only [if_neg (show ¬ isJarB p0 = true by rw [c_4]; decide)]) (trivial) (by simp only [if_neg (show ¬ isJarB p0 = true by rw [c_4]; decide)]) dX6_turned_12
set_option maxHeartbeats 4000000 in
set_option maxRecDepth 100000 in
theorem c_X6_truly (l : Launch) (D : va_G) (cI cJ cZ : ClassId) (o : Nat) (tp : Nat) (nw : Nat) (th : Nat) (rf : Nat) (rt : Nat) (im : Int32) (ru : Nat → Int32) (j1 : Nat) (j2 : Nat) (mn : Nat) (lw : Nat) (sd : Nat) (sr : Nat) (cut : Int32) (least : Int32) (qk : Nat) (qb : Nat) (qp : Nat) (nq : Nat) (g : Nat) (gn : Nat) (gd : Nat) (gr : Nat) (gs : Nat) (se : Int32) (sh : Int32) (sp : Int32) (de : Int32) (po : Int32) (lo : Int32) (nd : Nat → Int32) (ki : Nat → Int32) (bi : Nat → Int32) (la : Nat → Int32) (ra : Int64) (rb : Int64) (p0 : Int32) (p1 : Int32) (p2 : Int32) (hsel : isJarB p0 = true → (if p0 = 0 then j1 else j2) = g) (hn : nq ≤ 60) (hbi : ∀ j, j < nq → vp_in (bi j) 366) : CtL l D cI cJ cZ yX6_truly cX6_truly 5 (some .long) 4 [.ref o, .int p0, .int p1, .int p2] [(o, .inr (6, [.ref tp, .ref nw, .ref th, .int im, .ref rf, .ref rt])), (rf, .inl (cI, 7, .inl ru)), (nw, .inr (1, [.ref j1, .ref j2, .ref mn, .ref lw, .int cut, .int least, .ref sd, .ref sr])), (mn, .inr (2, [.ref qk, .ref qb, .ref qp, .int (nI nq)])), (qk, .inl (cI, 60, .inl ki)), (qb, .inl (cI, 60, .inl bi)), (lw, .inl (cI, 5, .inl la)), (g, .inr (0, [.int se, .int sh, .int sp, .int de, .int po, .ref gn, .ref gd, .ref gr, .ref gs, .int lo])), (gn, .inl (cI, 366, .inl nd)), (rt, .inr (3, [.long ra, .long rb]))] (fun (u : Int64 × Int64) => if ftf (!isJarB p0) (!isJarB p2) (!decide (0 ≤ p1)) (!decide (p1 ≤ 40)) = 0 then if exB (fun m => tkB (ki m) (evB (mnum nd bi m))) nq = true then (if p2 = 0 then becA (trV la p1) 1 else becB (trV la p1) 1) else lgR (-3) else lgR (ftf (!isJarB p0) (!isJarB p2) (!decide (0 ≤ p1)) (!decide (p1 ≤ 40)))) (fun (u : Int64 × Int64) => True) (fun (u : Int64 × Int64) => [(o, .inr (6, [.ref tp, .ref nw, .ref th, .int im, .ref rf, .ref rt])), (rf, .inl (cI, 7, .inl (if ftf (!isJarB p0) (!isJarB p2) (!decide (0 ≤ p1)) (!decide (p1 ≤ 40)) = 0 then (if exB (fun m => tkB (ki m) (evB (mnum nd bi m))) nq = true then ru else bmp ru (-3)) else bmp ru (ftf (!isJarB p0) (!isJarB p2) (!decide (0 ≤ p1)) (!decide (p1 ≤ 40)))))), (nw, .inr (1, [.ref j1, .ref j2, .ref mn, .ref lw, .int cut, .int least, .ref sd, .ref sr])), (mn, .inr (2, [.ref qk, .ref qb, .ref qp, .int (nI nq)])), (qk, .inl (cI, 60, .inl ki)), (qb, .inl (cI, 60, .inl bi)), (lw, .inl (cI, 5, .inl la)), (g, .inr (0, [.int se, .int sh, .int sp, .int de, .int po, .ref gn, .ref gd, .ref gr, .ref gs, .int lo])), (gn, .inl (cI, 366, .inl nd)), (rt, .inr (3, [.long u.1, .long u.2]))]) := by
  refine q_entL (own := RX6) rfl rfl (Nat.le_of_ble_eq_true rfl) ?_
  intro p e s m args below meth c A ls QQ hQ hE hx hb hr hk hin hA hl hst
  have hl : lv_has ls 5 [(0, .ref o), (1, .int p0), (2, .int p1), (3, .int p2)] := hl
  suffices kJ : ∀ (H : Heap) (locs : List Loc), SS D A s [(o, .inr (6, [.ref tp, .ref nw, .ref th, .int im, .ref rf, .ref rt])), (rf, .inl (cI, 7, .inl ru)), (nw, .inr (1, [.ref j1, .ref j2, .ref mn, .ref lw, .int cut, .int least, .ref sd, .ref sr])), (mn, .inr (2, [.ref qk, .ref qb, .ref qp, .int (nI nq)])), (qk, .inl (cI, 60, .inl ki)), (qb, .inl (cI, 60, .inl bi)), (lw, .inl (cI, 5, .inl la)), (g, .inr (0, [.int se, .int sh, .int sp, .int de, .int po, .ref gn, .ref gd, .ref gr, .ref gs, .int lo])), (gn, .inl (cI, 366, .inl nd)), (rt, .inr (3, [.long ra, .long rb]))] H locs → W p l e (rmN 4 0 0) s m args below meth c H locs 0 0 QQ (F0 m 12 ls [.int (b2i (!isJarB p0))]) by
    refine lv_iload_n hx hb dX6_truly_0 rfl (lv_at hl 1 rfl) ?_
    refine q_goI (q_rS hE lk_X6_90 (c_X6_isJar l D cI cJ cZ p0 s.heap.size) hst [] rfl rfl rfl hl.1 ⟨(Nat.le_of_ble_eq_true rfl), (Nat.le_of_ble_eq_true rfl)⟩ (rest := []) rfl (Nat.le_of_ble_eq_true rfl) dX6_truly_1 ⟨(Nat.le_of_ble_eq_true rfl), (Nat.le_of_ble_eq_true rfl)⟩) hE hst [] rfl (fun _ => rfl) (fun (_ : Unit) => [(o, .inr (6, [.ref tp, .ref nw, .ref th, .int im, .ref rf, .ref rt])), (rf, .inl (cI, 7, .inl ru)), (nw, .inr (1, [.ref j1, .ref j2, .ref mn, .ref lw, .int cut, .int least, .ref sd, .ref sr])), (mn, .inr (2, [.ref qk, .ref qb, .ref qp, .int (nI nq)])), (qk, .inl (cI, 60, .inl ki)), (qb, .inl (cI, 60, .inl bi)), (lw, .inl (cI, 5, .inl la)), (g, .inr (0, [.int se, .int sh, .int sp, .int de, .int po, .ref gn, .ref gd, .ref gr, .ref gs, .int lo])), (gn, .inl (cI, 366, .inl nd)), (rt, .inr (3, [.long ra, .long rb]))]) (fun _ => rfl) (fun _ H locs hF hst => ?_)
    refine lv_if_ne (tgt := 11) hx hb dX6_truly_4 (by decide) (fun c_4 => ?_) (fun c_4 => ?_)
    · skip
      have c_4 := b2i_t c_4
      refine lv_iconst (v := 0) hx hb dX6_truly_11 (by decide) ?_
      have kJ := kJ _ _ hst
      rw [show (b2i (!isJarB p0)) = 0 from (by first | (rw [c_4]; done) | (rw [c_4]; rfl))] at kJ
      exact kJ
    · skip
      have c_4 := b2i_f c_4
      refine lv_iconst (v := 1) hx hb dX6_truly_7 (by decide) ?_
      refine lv_goto (tgt := 12) hx hb dX6_truly_8 (by decide) ?_
      have kJ := kJ _ _ hst
      rw [show (b2i (!isJarB p0)) = 1 from (by first | (rw [c_4]; done) | (rw [c_4]; rfl))] at kJ
      exact kJ
  intro H locs hst
  suffices kJ : ∀ (H : Heap) (locs : List Loc), SS D A s [(o, .inr (6, [.ref tp, .ref nw, .ref th, .int im, .ref rf, .ref rt])), (rf, .inl (cI, 7, .inl ru)), (nw, .inr (1, [.ref j1, .ref j2, .ref mn, .ref lw, .int cut, .int least, .ref sd, .ref sr])), (mn, .inr (2, [.ref qk, .ref qb, .ref qp, .int (nI nq)])), (qk, .inl (cI, 60, .inl ki)), (qb, .inl (cI, 60, .inl bi)), (lw, .inl (cI, 5, .inl la)), (g, .inr (0, [.int se, .int sh, .int sp, .int de, .int po, .ref gn, .ref gd, .ref gr, .ref gs, .int lo])), (gn, .inl (cI, 366, .inl nd)), (rt, .inr (3, [.long ra, .long rb]))] H locs → W p l e (rmN 4 0 0) s m args below meth c H locs 0 0 QQ (F0 m 24 ls [.int (b2i (!isJarB p2)), .int (b2i (!isJarB p0))]) by
    refine lv_iload_n hx hb dX6_truly_12 rfl (lv_at hl 3 rfl) ?_
    refine q_goI (q_rS hE lk_X6_116 (c_X6_isPart l D cI cJ cZ p2 H.size) hst [] rfl rfl rfl hl.1 ⟨(Nat.le_of_ble_eq_true rfl), (Nat.le_of_ble_eq_true rfl)⟩ (rest := [.int (b2i (!isJarB p0))]) rfl (Nat.le_of_ble_eq_true rfl) dX6_truly_13 ⟨(Nat.le_of_ble_eq_true rfl), (Nat.le_of_ble_eq_true rfl)⟩) hE hst [] rfl (fun _ => rfl) (fun (_ : Unit) => [(o, .inr (6, [.ref tp, .ref nw, .ref th, .int im, .ref rf, .ref rt])), (rf, .inl (cI, 7, .inl ru)), (nw, .inr (1, [.ref j1, .ref j2, .ref mn, .ref lw, .int cut, .int least, .ref sd, .ref sr])), (mn, .inr (2, [.ref qk, .ref qb, .ref qp, .int (nI nq)])), (qk, .inl (cI, 60, .inl ki)), (qb, .inl (cI, 60, .inl bi)), (lw, .inl (cI, 5, .inl la)), (g, .inr (0, [.int se, .int sh, .int sp, .int de, .int po, .ref gn, .ref gd, .ref gr, .ref gs, .int lo])), (gn, .inl (cI, 366, .inl nd)), (rt, .inr (3, [.long ra, .long rb]))]) (fun _ => rfl) (fun _ H locs hF hst => ?_)
    refine lv_if_ne (tgt := 23) hx hb dX6_truly_16 (by decide) (fun c_16 => ?_) (fun c_16 => ?_)
    · skip
      have c_16 := b2i_t c_16
      refine lv_iconst (v := 0) hx hb dX6_truly_23 (by decide) ?_
      have kJ := kJ _ _ hst
      rw [show (b2i (!isJarB p2)) = 0 from (by first | (rw [c_16]; done) | (rw [c_16]; rfl))] at kJ
      exact kJ
    · skip
      have c_16 := b2i_f c_16
      refine lv_iconst (v := 1) hx hb dX6_truly_19 (by decide) ?_
      refine lv_goto (tgt := 24) hx hb dX6_truly_20 (by decide) ?_
      have kJ := kJ _ _ hst
      rw [show (b2i (!isJarB p2)) = 1 from (by first | (rw [c_16]; done) | (rw [c_16]; rfl))] at kJ
      exact kJ
  intro H locs hst
  suffices kJ : ∀ (H : Heap) (locs : List Loc), SS D A s [(o, .inr (6, [.ref tp, .ref nw, .ref th, .int im, .ref rf, .ref rt])), (rf, .inl (cI, 7, .inl ru)), (nw, .inr (1, [.ref j1, .ref j2, .ref mn, .ref lw, .int cut, .int least, .ref sd, .ref sr])), (mn, .inr (2, [.ref qk, .ref qb, .ref qp, .int (nI nq)])), (qk, .inl (cI, 60, .inl ki)), (qb, .inl (cI, 60, .inl bi)), (lw, .inl (cI, 5, .inl la)), (g, .inr (0, [.int se, .int sh, .int sp, .int de, .int po, .ref gn, .ref gd, .ref gr, .ref gs, .int lo])), (gn, .inl (cI, 366, .inl nd)), (rt, .inr (3, [.long ra, .long rb]))] H locs → W p l e (rmN 4 0 0) s m args below meth c H locs 0 0 QQ (F0 m 33 ls [.int (b2i (!decide (0 ≤ p1))), .int (b2i (!isJarB p2)), .int (b2i (!isJarB p0))]) by
    refine lv_iload_n hx hb dX6_truly_24 rfl (lv_at hl 2 rfl) ?_
    refine lv_if_ge (tgt := 32) hx hb dX6_truly_25 (by decide) (fun c_25 => ?_) (fun c_25 => ?_)
    · skip
      refine lv_iconst (v := 0) hx hb dX6_truly_32 (by decide) ?_
      have kJ := kJ _ _ hst
      rw [show (b2i (!decide (0 ≤ p1))) = 0 from (by first | (rw [decide_eq_true c_25]; done) | (rw [decide_eq_true c_25]; rfl))] at kJ
      exact kJ
    · skip
      refine lv_iconst (v := 1) hx hb dX6_truly_28 (by decide) ?_
      refine lv_goto (tgt := 33) hx hb dX6_truly_29 (by decide) ?_
      have kJ := kJ _ _ hst
      rw [show (b2i (!decide (0 ≤ p1))) = 1 from (by first | (rw [decide_eq_false c_25]; done) | (rw [decide_eq_false c_25]; rfl))] at kJ
      exact kJ
  intro H locs hst
  suffices kJ : ∀ (H : Heap) (locs : List Loc), SS D A s [(o, .inr (6, [.ref tp, .ref nw, .ref th, .int im, .ref rf, .ref rt])), (rf, .inl (cI, 7, .inl ru)), (nw, .inr (1, [.ref j1, .ref j2, .ref mn, .ref lw, .int cut, .int least, .ref sd, .ref sr])), (mn, .inr (2, [.ref qk, .ref qb, .ref qp, .int (nI nq)])), (qk, .inl (cI, 60, .inl ki)), (qb, .inl (cI, 60, .inl bi)), (lw, .inl (cI, 5, .inl la)), (g, .inr (0, [.int se, .int sh, .int sp, .int de, .int po, .ref gn, .ref gd, .ref gr, .ref gs, .int lo])), (gn, .inl (cI, 366, .inl nd)), (rt, .inr (3, [.long ra, .long rb]))] H locs → W p l e (rmN 4 0 0) s m args below meth c H locs 0 0 QQ (F0 m 44 ls [.int (b2i (!decide (p1 ≤ 40))), .int (b2i (!decide (0 ≤ p1))), .int (b2i (!isJarB p2)), .int (b2i (!isJarB p0))]) by
    refine lv_iload_n hx hb dX6_truly_33 rfl (lv_at hl 2 rfl) ?_
    refine lv_bipush (v := 40) hx hb dX6_truly_34 (by decide) ?_
    refine lv_icmp_le (tgt := 43) hx hb dX6_truly_36 (by decide) (fun c_36 => ?_) (fun c_36 => ?_)
    · skip
      refine lv_iconst (v := 0) hx hb dX6_truly_43 (by decide) ?_
      have kJ := kJ _ _ hst
      rw [show (b2i (!decide (p1 ≤ 40))) = 0 from (by first | (rw [decide_eq_true c_36]; done) | (rw [decide_eq_true c_36]; rfl))] at kJ
      exact kJ
    · skip
      refine lv_iconst (v := 1) hx hb dX6_truly_39 (by decide) ?_
      refine lv_goto (tgt := 44) hx hb dX6_truly_40 (by decide) ?_
      have kJ := kJ _ _ hst
      rw [show (b2i (!decide (p1 ≤ 40))) = 1 from (by first | (rw [decide_eq_false c_36]; done) | (rw [decide_eq_false c_36]; rfl))] at kJ
      exact kJ
  intro H locs hst
  refine q_goI (q_rS hE lk_X6_45 (c_X6_firstThatFits l D cI cJ cZ (!isJarB p0) (!isJarB p2) (!decide (0 ≤ p1)) (!decide (p1 ≤ 40)) H.size) hst [] rfl rfl rfl hl.1 ⟨(Nat.le_of_ble_eq_true rfl), (Nat.le_of_ble_eq_true rfl)⟩ (rest := []) rfl (Nat.le_of_ble_eq_true rfl) dX6_truly_44 ⟨(Nat.le_of_ble_eq_true rfl), (Nat.le_of_ble_eq_true rfl)⟩) hE hst [] rfl (fun _ => rfl) (fun (_ : Unit) => [(o, .inr (6, [.ref tp, .ref nw, .ref th, .int im, .ref rf, .ref rt])), (rf, .inl (cI, 7, .inl ru)), (nw, .inr (1, [.ref j1, .ref j2, .ref mn, .ref lw, .int cut, .int least, .ref sd, .ref sr])), (mn, .inr (2, [.ref qk, .ref qb, .ref qp, .int (nI nq)])), (qk, .inl (cI, 60, .inl ki)), (qb, .inl (cI, 60, .inl bi)), (lw, .inl (cI, 5, .inl la)), (g, .inr (0, [.int se, .int sh, .int sp, .int de, .int po, .ref gn, .ref gd, .ref gr, .ref gs, .int lo])), (gn, .inl (cI, 366, .inl nd)), (rt, .inr (3, [.long ra, .long rb]))]) (fun _ => rfl) (fun _ H locs hF hst => ?_)
  refine lv_istore (lv' := [(4, .int (ftf (!isJarB p0) (!isJarB p2) (!decide (0 ≤ p1)) (!decide (p1 ≤ 40)))), (0, .ref o), (1, .int p0), (2, .int p1), (3, .int p2)]) hx hb dX6_truly_47 hl (by decide) rfl (fun ls hl => ?_)
  refine lv_iload hx hb dX6_truly_49 (lv_at hl 0 rfl) ?_
  refine lv_if_eq (tgt := 61) hx hb dX6_truly_51 (by decide) (fun c_51 => ?_) (fun c_51 => ?_)
  · skip
    obtain ⟨f1, f2, f3, f4⟩ := ftf_1 c_51
    have hjr := not_f f1
    refine lv_aload_n hx hb dX6_truly_61 rfl (lv_at hl 1 rfl) ?_
    refine lv_aload_n hx hb dX6_truly_62 rfl (lv_at hl 1 rfl) ?_
    refine gf_X6_19 hE hst 0 rfl rfl dX6_truly_63 ?_
    refine lv_aload_n hx hb dX6_truly_66 rfl (lv_at hl 1 rfl) ?_
    refine gf_X6_19 hE hst 0 rfl rfl dX6_truly_67 ?_
    refine lv_iload_n hx hb dX6_truly_70 rfl (lv_at hl 2 rfl) ?_
    refine q_goR (q_rNV hE lk_X6_93 (c_X1_jarAt l D cI cJ cZ nw j1 j2 mn lw sd sr cut least p0 H.size) hst [2] rfl rfl rfl rfl rfl hl.1 ⟨(Nat.le_of_ble_eq_true rfl), (Nat.le_of_ble_eq_true rfl)⟩ (rest := [.ref nw, .ref o]) rfl (Nat.le_of_ble_eq_true rfl) dX6_truly_71 ⟨(Nat.le_of_ble_eq_true rfl), (Nat.le_of_ble_eq_true rfl)⟩) hE hst [2] rfl (fun _ => rfl) (fun (_ : Unit) => [(o, .inr (6, [.ref tp, .ref nw, .ref th, .int im, .ref rf, .ref rt])), (rf, .inl (cI, 7, .inl ru)), (nw, .inr (1, [.ref j1, .ref j2, .ref mn, .ref lw, .int cut, .int least, .ref sd, .ref sr])), (mn, .inr (2, [.ref qk, .ref qb, .ref qp, .int (nI nq)])), (qk, .inl (cI, 60, .inl ki)), (qb, .inl (cI, 60, .inl bi)), (lw, .inl (cI, 5, .inl la)), (g, .inr (0, [.int se, .int sh, .int sp, .int de, .int po, .ref gn, .ref gd, .ref gr, .ref gs, .int lo])), (gn, .inl (cI, 366, .inl nd)), (rt, .inr (3, [.long ra, .long rb]))]) (fun _ => rfl) (fun _ H locs hF hst => ?_)
    refine q_topR (x' := g) (hsel hjr) ?_
    refine lv_iload_n hx hb dX6_truly_74 rfl (lv_at hl 3 rfl) ?_
    refine lv_aload_n hx hb dX6_truly_75 rfl (lv_at hl 1 rfl) ?_
    refine gf_X6_37 hE hst 0 rfl rfl dX6_truly_76 ?_
    refine q_goI (q_rNV hE lk_X6_202 (c_X1_findTruly l D cI cJ cZ nw j1 j2 mn lw sd sr cut least qk qb qp nq g gn gd gr gs se sh sp de po lo nd ki bi la rt ra rb p1 (by first | assumption | decide | omega) (by first | assumption | decide | omega) H.size) hst [2, 3, 4, 5, 6, 7, 8, 9] rfl rfl rfl rfl rfl hl.1 ⟨(Nat.le_of_ble_eq_true rfl), (Nat.le_of_ble_eq_true rfl)⟩ (rest := [.ref o]) rfl (Nat.le_of_ble_eq_true rfl) dX6_truly_79 ⟨(Nat.le_of_ble_eq_true rfl), (Nat.le_of_ble_eq_true rfl)⟩) hE hst [2, 3, 4, 5, 6, 7, 8, 9] rfl (fun _ => rfl) (fun (_ : Unit) => [(o, .inr (6, [.ref tp, .ref nw, .ref th, .int im, .ref rf, .ref rt])), (rf, .inl (cI, 7, .inl ru)), (nw, .inr (1, [.ref j1, .ref j2, .ref mn, .ref lw, .int cut, .int least, .ref sd, .ref sr])), (mn, .inr (2, [.ref qk, .ref qb, .ref qp, .int (nI nq)])), (qk, .inl (cI, 60, .inl ki)), (qb, .inl (cI, 60, .inl bi)), (lw, .inl (cI, 5, .inl la)), (g, .inr (0, [.int se, .int sh, .int sp, .int de, .int po, .ref gn, .ref gd, .ref gr, .ref gs, .int lo])), (gn, .inl (cI, 366, .inl nd)), (rt, .inr (3, [.long (becA (trV la p1) 1), .long (becB (trV la p1) 1)]))]) (fun _ => rfl) (fun _ H locs hF hst => ?_)
    refine lv_iload_n hx hb dX6_truly_82 rfl (lv_at hl 4 rfl) ?_
    refine q_goL (q_rV hE lk_X6_191 (c_X6_partOrNone l D cI cJ cZ o tp nw th rf rt im ru (becA (trV la p1) 1) (becB (trV la p1) 1) (exB (fun m => tkB (ki m) (evB (mnum nd bi m))) nq) p2 H.size) hst [0, 1, 9] rfl rfl rfl rfl rfl hl.1 ⟨(Nat.le_of_ble_eq_true rfl), (Nat.le_of_ble_eq_true rfl)⟩ (rest := []) rfl (Nat.le_of_ble_eq_true rfl) dX6_truly_83 ⟨(Nat.le_of_ble_eq_true rfl), (Nat.le_of_ble_eq_true rfl)⟩) hE hst [0, 1, 9] rfl (fun _ => rfl) (fun (_ : Unit) => [(o, .inr (6, [.ref tp, .ref nw, .ref th, .int im, .ref rf, .ref rt])), (rf, .inl (cI, 7, .inl (if (exB (fun m => tkB (ki m) (evB (mnum nd bi m))) nq) = true then ru else bmp ru (-3)))), (nw, .inr (1, [.ref j1, .ref j2, .ref mn, .ref lw, .int cut, .int least, .ref sd, .ref sr])), (mn, .inr (2, [.ref qk, .ref qb, .ref qp, .int (nI nq)])), (qk, .inl (cI, 60, .inl ki)), (qb, .inl (cI, 60, .inl bi)), (lw, .inl (cI, 5, .inl la)), (g, .inr (0, [.int se, .int sh, .int sp, .int de, .int po, .ref gn, .ref gd, .ref gr, .ref gs, .int lo])), (gn, .inl (cI, 366, .inl nd)), (rt, .inr (3, [.long (becA (trV la p1) 1), .long (becB (trV la p1) 1)]))]) (fun _ => rfl) (fun _ H locs hF hst => ?_)
    exact q_retL hQ hE hr hk hst (becA (trV la p1) 1, becB (trV la p1) 1) (by rw [if_pos c_51]) (trivial) (by rw [if_pos c_51]) dX6_truly_86
  · skip
    refine lv_aload_n hx hb dX6_truly_54 rfl (lv_at hl 1 rfl) ?_
    refine lv_iload hx hb dX6_truly_55 (lv_at hl 0 rfl) ?_
    refine q_goL (q_rV hE lk_X6_119 (c_X6_refuseLong l D cI cJ cZ o tp nw th rf rt im ru (ftf (!isJarB p0) (!isJarB p2) (!decide (0 ≤ p1)) (!decide (p1 ≤ 40))) (ftf_in _ _ _ _) H.size) hst [0, 1] rfl rfl rfl rfl rfl hl.1 ⟨(Nat.le_of_ble_eq_true rfl), (Nat.le_of_ble_eq_true rfl)⟩ (rest := []) rfl (Nat.le_of_ble_eq_true rfl) dX6_truly_57 ⟨(Nat.le_of_ble_eq_true rfl), (Nat.le_of_ble_eq_true rfl)⟩) hE hst [0, 1] rfl (fun _ => rfl) (fun (_ : Unit) => [(o, .inr (6, [.ref tp, .ref nw, .ref th, .int im, .ref rf, .ref rt])), (rf, .inl (cI, 7, .inl (bmp ru (ftf (!isJarB p0) (!isJarB p2) (!decide (0 ≤ p1)) (!decide (p1 ≤ 40)))))), (nw, .inr (1, [.ref j1, .ref j2, .ref mn, .ref lw, .int cut, .int least, .ref sd, .ref sr])), (mn, .inr (2, [.ref qk, .ref qb, .ref qp, .int (nI nq)])), (qk, .inl (cI, 60, .inl ki)), (qb, .inl (cI, 60, .inl bi)), (lw, .inl (cI, 5, .inl la)), (g, .inr (0, [.int se, .int sh, .int sp, .int de, .int po, .ref gn, .ref gd, .ref gr, .ref gs, .int lo])), (gn, .inl (cI, 366, .inl nd)), (rt, .inr (3, [.long ra, .long rb]))]) (fun _ => rfl) (fun _ H locs hF hst => ?_)
    exact q_retL hQ hE hr hk hst (ra, rb) (by rw [if_neg c_51]) (trivial) (by rw [if_neg c_51]) dX6_truly_60
def fadL (f : Nat → Bool) : Nat → Nat → Int32
  | 0, _ => -9
  | i + 1, y => if f y = true then nI y else fadL f i (y + 1)
set_option maxHeartbeats 4000000 in
set_option maxRecDepth 100000 in
theorem c_X6_faded (l : Launch) (D : va_G) (cI cJ cZ : ClassId) (o : Nat) (tp : Nat) (nw : Nat) (th : Nat) (rf : Nat) (rt : Nat) (im : Int32) (ru : Nat → Int32) (j1 : Nat) (j2 : Nat) (mn : Nat) (lw : Nat) (sd : Nat) (sr : Nat) (cut : Int32) (least : Int32) (qk : Nat) (qb : Nat) (qp : Nat) (nq : Nat) (g : Nat) (gn : Nat) (gd : Nat) (gr : Nat) (gs : Nat) (se : Int32) (sh : Int32) (sp : Int32) (de : Int32) (po : Int32) (lo : Int32) (nd : Nat → Int32) (ki : Nat → Int32) (bi : Nat → Int32) (pa : Nat → Int32) (la : Nat → Int32) (s01 : Int64) (s02 : Int64) (s03 : Int32) (s04 : Int32) (ra : Int64) (rb : Int64) (p0 : Int32) (p1 : Int32) (hsel : isJarB p0 = true → (if p0 = 0 then j1 else j2) = g) (hn : nq ≤ 60) (hbi : ∀ j, j < nq → vp_in (bi j) 366) : CtI l D cI cJ cZ yX6_faded cX6_faded 5 (some .int) 5 [.ref o, .int p0, .int p1] [(o, .inr (6, [.ref tp, .ref nw, .ref th, .int im, .ref rf, .ref rt])), (rf, .inl (cI, 7, .inl ru)), (nw, .inr (1, [.ref j1, .ref j2, .ref mn, .ref lw, .int cut, .int least, .ref sd, .ref sr])), (mn, .inr (2, [.ref qk, .ref qb, .ref qp, .int (nI nq)])), (qk, .inl (cI, 60, .inl ki)), (qb, .inl (cI, 60, .inl bi)), (qp, .inl (cI, 60, .inl pa)), (lw, .inl (cI, 5, .inl la)), (g, .inr (0, [.int se, .int sh, .int sp, .int de, .int po, .ref gn, .ref gd, .ref gr, .ref gs, .int lo])), (gn, .inl (cI, 366, .inl nd)), (sd, .inr (4, [.long s01, .long s02, .int s03, .int s04])), (rt, .inr (3, [.long ra, .long rb]))] (fun (u : Int64 × Int64 × Int32 × Int32 × Int64 × Int64) => if ftf (!isJarB p0) false (!decide (0 ≤ p1)) (!decide (p1 ≤ 9999)) = 0 then fadL (fun y => dfB (calF cut nd bi) nq && decide (absL (dsA cut nd ki bi pa la (nI y) nq) ≤ p1.toInt64 * dsB cut nd ki bi pa la (nI y) nq)) 41 0 else (ftf (!isJarB p0) false (!decide (0 ≤ p1)) (!decide (p1 ≤ 9999)))) (fun (u : Int64 × Int64 × Int32 × Int32 × Int64 × Int64) => True) (fun (u : Int64 × Int64 × Int32 × Int32 × Int64 × Int64) => [(o, .inr (6, [.ref tp, .ref nw, .ref th, .int im, .ref rf, .ref rt])), (rf, .inl (cI, 7, .inl (if ftf (!isJarB p0) false (!decide (0 ≤ p1)) (!decide (p1 ≤ 9999)) = 0 then ru else bmp ru (ftf (!isJarB p0) false (!decide (0 ≤ p1)) (!decide (p1 ≤ 9999)))))), (nw, .inr (1, [.ref j1, .ref j2, .ref mn, .ref lw, .int cut, .int least, .ref sd, .ref sr])), (mn, .inr (2, [.ref qk, .ref qb, .ref qp, .int (nI nq)])), (qk, .inl (cI, 60, .inl ki)), (qb, .inl (cI, 60, .inl bi)), (qp, .inl (cI, 60, .inl pa)), (lw, .inl (cI, 5, .inl la)), (g, .inr (0, [.int se, .int sh, .int sp, .int de, .int po, .ref gn, .ref gd, .ref gr, .ref gs, .int lo])), (gn, .inl (cI, 366, .inl nd)), (sd, .inr (4, [.long u.1, .long u.2.1, .int u.2.2.1, .int u.2.2.2.1])), (rt, .inr (3, [.long u.2.2.2.2.1, .long u.2.2.2.2.2]))]) := by
  refine q_entI (own := RX6) rfl rfl (Nat.le_of_ble_eq_true rfl) ?_
  intro p e s m args below meth c A ls QQ hQ hE hx hb hr hk hin hA hl hst
  have hl : lv_has ls 5 [(0, .ref o), (1, .int p0), (2, .int p1)] := hl
  have loop_51 : ∀ (fu : Nat) (y : Nat) (a1 : Int64) (a2 : Int64) (a3 : Int32) (a4 : Int32) (r1 : Int64) (r2 : Int64), (y ≤ 41) → (ftf (!isJarB p0) false (!decide (0 ≤ p1)) (!decide (p1 ≤ 9999)) = 0) → (isJarB p0 = true) → (fadL (fun y => dfB (calF cut nd bi) nq && decide (absL (dsA cut nd ki bi pa la (nI y) nq) ≤ p1.toInt64 * dsB cut nd ki bi pa la (nI y) nq)) 41 0 = fadL (fun y => dfB (calF cut nd bi) nq && decide (absL (dsA cut nd ki bi pa la (nI y) nq) ≤ p1.toInt64 * dsB cut nd ki bi pa la (nI y) nq)) (41 - y) y) → (41 - y) < fu → ∀ (H : Heap) (locs : List Loc) (ls : Array Slot), SS D A s [(o, .inr (6, [.ref tp, .ref nw, .ref th, .int im, .ref rf, .ref rt])), (rf, .inl (cI, 7, .inl ru)), (nw, .inr (1, [.ref j1, .ref j2, .ref mn, .ref lw, .int cut, .int least, .ref sd, .ref sr])), (mn, .inr (2, [.ref qk, .ref qb, .ref qp, .int (nI nq)])), (qk, .inl (cI, 60, .inl ki)), (qb, .inl (cI, 60, .inl bi)), (qp, .inl (cI, 60, .inl pa)), (lw, .inl (cI, 5, .inl la)), (g, .inr (0, [.int se, .int sh, .int sp, .int de, .int po, .ref gn, .ref gd, .ref gr, .ref gs, .int lo])), (gn, .inl (cI, 366, .inl nd)), (sd, .inr (4, [.long a1, .long a2, .int a3, .int a4])), (rt, .inr (3, [.long r1, .long r2]))] H locs → lv_has ls 5 [(4, .int (nI y)), (0, .ref o), (1, .int p0), (2, .int p1)] → W p l e (rmN 5 0 0) s m args below meth c H locs 0 0 QQ (F0 m 51 ls []) := by
    intro fu
    induction fu with
    | zero =>
      intro y a1 a2 a3 a4 r1 r2 h1 hR hjr h2 hn
      exact absurd hn (Nat.not_lt_zero _)
    | succ fu ih =>
      intro y a1 a2 a3 a4 r1 r2 h1 hR hjr h2 hn H locs ls hst hl
      refine lv_iload hx hb dX6_faded_51 (lv_at hl 0 rfl) ?_
      refine lv_bipush (v := 40) hx hb dX6_faded_53 (by decide) ?_
      refine lv_icmp_gt (tgt := 103) hx hb dX6_faded_55 (by decide) (fun c_55 => ?_) (fun c_55 => ?_)
      · skip
        have hk1 : y = 41 := by have := (nI_ltI (a := 40) (b := y) (by decide) (by omega)).mp c_55; omega
        refine lv_bipush (v := (-9)) hx hb dX6_faded_103 (by decide) ?_
        exact q_retI hQ hE hr hk hst (a1, a2, a3, a4, r1, r2) (by rw [if_pos hR, h2, show 41 - y = 0 by omega]; rfl) (trivial) (by rw [if_pos hR]) dX6_faded_105
      · skip
        have hk1 : y ≤ 40 := by have := Nat.le_of_not_lt (fun z => c_55 (nI_lt (a := 40) (b := y) z (by omega))); omega
        refine lv_aload_n hx hb dX6_faded_58 rfl (lv_at hl 1 rfl) ?_
        refine gf_X6_19 hE hst 0 rfl rfl dX6_faded_59 ?_
        refine lv_aload_n hx hb dX6_faded_62 rfl (lv_at hl 1 rfl) ?_
        refine gf_X6_19 hE hst 0 rfl rfl dX6_faded_63 ?_
        refine lv_iload_n hx hb dX6_faded_66 rfl (lv_at hl 2 rfl) ?_
        refine q_goR (q_rNV hE lk_X6_93 (c_X1_jarAt l D cI cJ cZ nw j1 j2 mn lw sd sr cut least p0 H.size) hst [2] rfl rfl rfl rfl rfl hl.1 ⟨(Nat.le_of_ble_eq_true rfl), (Nat.le_of_ble_eq_true rfl)⟩ (rest := [.ref nw]) rfl (Nat.le_of_ble_eq_true rfl) dX6_faded_67 ⟨(Nat.le_of_ble_eq_true rfl), (Nat.le_of_ble_eq_true rfl)⟩) hE hst [2] rfl (fun _ => rfl) (fun (_ : Unit) => [(o, .inr (6, [.ref tp, .ref nw, .ref th, .int im, .ref rf, .ref rt])), (rf, .inl (cI, 7, .inl ru)), (nw, .inr (1, [.ref j1, .ref j2, .ref mn, .ref lw, .int cut, .int least, .ref sd, .ref sr])), (mn, .inr (2, [.ref qk, .ref qb, .ref qp, .int (nI nq)])), (qk, .inl (cI, 60, .inl ki)), (qb, .inl (cI, 60, .inl bi)), (qp, .inl (cI, 60, .inl pa)), (lw, .inl (cI, 5, .inl la)), (g, .inr (0, [.int se, .int sh, .int sp, .int de, .int po, .ref gn, .ref gd, .ref gr, .ref gs, .int lo])), (gn, .inl (cI, 366, .inl nd)), (sd, .inr (4, [.long a1, .long a2, .int a3, .int a4])), (rt, .inr (3, [.long r1, .long r2]))]) (fun _ => rfl) (fun _ H locs hF hst => ?_)
        refine q_topR (x' := g) (hsel hjr) ?_
        refine lv_iload hx hb dX6_faded_70 (lv_at hl 0 rfl) ?_
        refine lv_aload_n hx hb dX6_faded_72 rfl (lv_at hl 1 rfl) ?_
        refine gf_X6_37 hE hst 0 rfl rfl dX6_faded_73 ?_
        refine q_goI (q_rNV hE lk_X6_187 (c_X1_findDoes l D cI cJ cZ nw j1 j2 mn lw sd sr cut least qk qb qp nq g gn gd gr gs se sh sp de po lo nd ki bi pa la rt a1 a2 r1 r2 a3 a4 (nI y) (by first | assumption | decide | omega) (by first | assumption | decide | omega) H.size) hst [2, 3, 4, 5, 6, 7, 8, 9, 10, 11] rfl rfl rfl rfl rfl hl.1 ⟨(Nat.le_of_ble_eq_true rfl), (Nat.le_of_ble_eq_true rfl)⟩ (rest := []) rfl (Nat.le_of_ble_eq_true rfl) dX6_faded_76 ⟨(Nat.le_of_ble_eq_true rfl), (Nat.le_of_ble_eq_true rfl)⟩) hE hst [2, 3, 4, 5, 6, 7, 8, 9, 10, 11] rfl (fun _ => rfl) (fun (u : Int64 × Int64 × Int32 × Int32) => [(o, .inr (6, [.ref tp, .ref nw, .ref th, .int im, .ref rf, .ref rt])), (rf, .inl (cI, 7, .inl ru)), (nw, .inr (1, [.ref j1, .ref j2, .ref mn, .ref lw, .int cut, .int least, .ref sd, .ref sr])), (mn, .inr (2, [.ref qk, .ref qb, .ref qp, .int (nI nq)])), (qk, .inl (cI, 60, .inl ki)), (qb, .inl (cI, 60, .inl bi)), (qp, .inl (cI, 60, .inl pa)), (lw, .inl (cI, 5, .inl la)), (g, .inr (0, [.int se, .int sh, .int sp, .int de, .int po, .ref gn, .ref gd, .ref gr, .ref gs, .int lo])), (gn, .inl (cI, 366, .inl nd)), (sd, .inr (4, [.long u.1, .long u.2.1, .int u.2.2.1, .int u.2.2.2])), (rt, .inr (3, [.long (if dfB (calF cut nd bi) nq = true then becA (dfN (calF cut nd bi) (wgL cut nd ki bi pa la (nI y)) nq) (dfD (calF cut nd bi) nq) else r1), .long (if dfB (calF cut nd bi) nq = true then becB (dfN (calF cut nd bi) (wgL cut nd ki bi pa la (nI y)) nq) (dfD (calF cut nd bi) nq) else r2)]))]) (fun _ => rfl) (fun u H locs hF hst => ?_)
        obtain ⟨s1_1, s2_2, s3_3, s4_4⟩ := u
        have hst : SS D A s [(o, .inr (6, [.ref tp, .ref nw, .ref th, .int im, .ref rf, .ref rt])), (rf, .inl (cI, 7, .inl ru)), (nw, .inr (1, [.ref j1, .ref j2, .ref mn, .ref lw, .int cut, .int least, .ref sd, .ref sr])), (mn, .inr (2, [.ref qk, .ref qb, .ref qp, .int (nI nq)])), (qk, .inl (cI, 60, .inl ki)), (qb, .inl (cI, 60, .inl bi)), (qp, .inl (cI, 60, .inl pa)), (lw, .inl (cI, 5, .inl la)), (g, .inr (0, [.int se, .int sh, .int sp, .int de, .int po, .ref gn, .ref gd, .ref gr, .ref gs, .int lo])), (gn, .inl (cI, 366, .inl nd)), (sd, .inr (4, [.long s1_1, .long s2_2, .int s3_3, .int s4_4])), (rt, .inr (3, [.long (if dfB (calF cut nd bi) nq = true then becA (dfN (calF cut nd bi) (wgL cut nd ki bi pa la (nI y)) nq) (dfD (calF cut nd bi) nq) else r1), .long (if dfB (calF cut nd bi) nq = true then becB (dfN (calF cut nd bi) (wgL cut nd ki bi pa la (nI y)) nq) (dfD (calF cut nd bi) nq) else r2)]))] H locs := hst
        refine W.eq (g2 := F0 m 79 ls [.int (b2i (dfB (calF cut nd bi) nq))]) rfl ?_
        refine lv_if_eq (tgt := 97) hx hb dX6_faded_79 (by decide) (fun c_79 => ?_) (fun c_79 => ?_)
        · skip
          have c_79 := b2i_f c_79
          refine lv_iinc (v := nI (y + 1)) (lv' := [(4, .int (nI (y + 1))), (0, .ref o), (1, .int p0), (2, .int p1)]) hx hb dX6_faded_97 hl (k := 0) rfl (nI_next _) (by decide) rfl (fun ls hl => ?_)
          refine lv_goto (tgt := 51) hx hb dX6_faded_100 (by decide) ?_
          exact ih (y + 1) s1_1 s2_2 s3_3 s4_4 (if dfB (calF cut nd bi) nq = true then becA (dfN (calF cut nd bi) (wgL cut nd ki bi pa la (nI y)) nq) (dfD (calF cut nd bi) nq) else r1) (if dfB (calF cut nd bi) nq = true then becB (dfN (calF cut nd bi) (wgL cut nd ki bi pa la (nI y)) nq) (dfD (calF cut nd bi) nq) else r2) (by omega) (hR) (hjr) (by rw [h2, show 41 - y = (41 - (y + 1)) + 1 by omega, fadL, if_neg (by rw [c_79, Bool.false_and]; decide)]) (by omega) _ _ _ (hst) (lv_sub hl [0, 1, 2, 3] rfl)
        · skip
          have c_79 := b2i_t c_79
          have eA : (if dfB (calF cut nd bi) nq = true then becA (dfN (calF cut nd bi) (wgL cut nd ki bi pa la (nI y)) nq) (dfD (calF cut nd bi) nq) else r1) = dsA cut nd ki bi pa la (nI y) nq := if_pos c_79
          have eB : (if dfB (calF cut nd bi) nq = true then becB (dfN (calF cut nd bi) (wgL cut nd ki bi pa la (nI y)) nq) (dfD (calF cut nd bi) nq) else r2) = dsB cut nd ki bi pa la (nI y) nq := if_pos c_79
          rw [eA, eB] at hst
          have hst : SS D A s [(o, .inr (6, [.ref tp, .ref nw, .ref th, .int im, .ref rf, .ref rt])), (rf, .inl (cI, 7, .inl ru)), (nw, .inr (1, [.ref j1, .ref j2, .ref mn, .ref lw, .int cut, .int least, .ref sd, .ref sr])), (mn, .inr (2, [.ref qk, .ref qb, .ref qp, .int (nI nq)])), (qk, .inl (cI, 60, .inl ki)), (qb, .inl (cI, 60, .inl bi)), (qp, .inl (cI, 60, .inl pa)), (lw, .inl (cI, 5, .inl la)), (g, .inr (0, [.int se, .int sh, .int sp, .int de, .int po, .ref gn, .ref gd, .ref gr, .ref gs, .int lo])), (gn, .inl (cI, 366, .inl nd)), (sd, .inr (4, [.long s1_1, .long s2_2, .int s3_3, .int s4_4])), (rt, .inr (3, [.long (dsA cut nd ki bi pa la (nI y) nq), .long (dsB cut nd ki bi pa la (nI y) nq)]))] H locs := hst
          refine lv_aload_n hx hb dX6_faded_82 rfl (lv_at hl 1 rfl) ?_
          refine gf_X6_37 hE hst 0 rfl rfl dX6_faded_83 ?_
          refine lv_iload_n hx hb dX6_faded_86 rfl (lv_at hl 3 rfl) ?_
          refine lv_i2l (v := p1.toInt64) hx hb dX6_faded_87 rfl ?_
          refine q_goI (q_rNV hE lk_X6_205 (c_X3_isWithin l D cI cJ cZ rt (dsA cut nd ki bi pa la (nI y) nq) (dsB cut nd ki bi pa la (nI y) nq) p1.toInt64 H.size) hst [11] rfl rfl rfl rfl rfl hl.1 ⟨(Nat.le_of_ble_eq_true rfl), (Nat.le_of_ble_eq_true rfl)⟩ (rest := []) rfl (Nat.le_of_ble_eq_true rfl) dX6_faded_88 ⟨(Nat.le_of_ble_eq_true rfl), (Nat.le_of_ble_eq_true rfl)⟩) hE hst [11] rfl (fun _ => rfl) (fun (_ : Unit) => [(o, .inr (6, [.ref tp, .ref nw, .ref th, .int im, .ref rf, .ref rt])), (rf, .inl (cI, 7, .inl ru)), (nw, .inr (1, [.ref j1, .ref j2, .ref mn, .ref lw, .int cut, .int least, .ref sd, .ref sr])), (mn, .inr (2, [.ref qk, .ref qb, .ref qp, .int (nI nq)])), (qk, .inl (cI, 60, .inl ki)), (qb, .inl (cI, 60, .inl bi)), (qp, .inl (cI, 60, .inl pa)), (lw, .inl (cI, 5, .inl la)), (g, .inr (0, [.int se, .int sh, .int sp, .int de, .int po, .ref gn, .ref gd, .ref gr, .ref gs, .int lo])), (gn, .inl (cI, 366, .inl nd)), (sd, .inr (4, [.long s1_1, .long s2_2, .int s3_3, .int s4_4])), (rt, .inr (3, [.long (dsA cut nd ki bi pa la (nI y) nq), .long (dsB cut nd ki bi pa la (nI y) nq)]))]) (fun _ => rfl) (fun _ H locs hF hst => ?_)
          refine lv_if_eq (tgt := 97) hx hb dX6_faded_91 (by decide) (fun c_91 => ?_) (fun c_91 => ?_)
          · skip
            have c_91 := b2i_f c_91
            refine lv_iinc (v := nI (y + 1)) (lv' := [(4, .int (nI (y + 1))), (0, .ref o), (1, .int p0), (2, .int p1)]) hx hb dX6_faded_97 hl (k := 0) rfl (nI_next _) (by decide) rfl (fun ls hl => ?_)
            refine lv_goto (tgt := 51) hx hb dX6_faded_100 (by decide) ?_
            exact ih (y + 1) s1_1 s2_2 s3_3 s4_4 (dsA cut nd ki bi pa la (nI y) nq) (dsB cut nd ki bi pa la (nI y) nq) (by omega) (hR) (hjr) (by rw [h2, show 41 - y = (41 - (y + 1)) + 1 by omega, fadL, if_neg (by rw [c_79, Bool.true_and, show decide (absL (dsA cut nd ki bi pa la (nI y) nq) ≤ p1.toInt64 * dsB cut nd ki bi pa la (nI y) nq) = false from c_91]; decide)]) (by omega) _ _ _ (hst) (lv_sub hl [0, 1, 2, 3] rfl)
          · skip
            have c_91 := b2i_t c_91
            refine lv_iload hx hb dX6_faded_94 (lv_at hl 0 rfl) ?_
            exact q_retI hQ hE hr hk hst (s1_1, s2_2, s3_3, s4_4, dsA cut nd ki bi pa la (nI y) nq, dsB cut nd ki bi pa la (nI y) nq) (by rw [if_pos hR, h2, show 41 - y = (41 - (y + 1)) + 1 by omega, fadL, if_pos (by rw [c_79, Bool.true_and]; exact c_91)]) (trivial) (by rw [if_pos hR]) dX6_faded_96
  suffices kJ : ∀ (H : Heap) (locs : List Loc), SS D A s [(o, .inr (6, [.ref tp, .ref nw, .ref th, .int im, .ref rf, .ref rt])), (rf, .inl (cI, 7, .inl ru)), (nw, .inr (1, [.ref j1, .ref j2, .ref mn, .ref lw, .int cut, .int least, .ref sd, .ref sr])), (mn, .inr (2, [.ref qk, .ref qb, .ref qp, .int (nI nq)])), (qk, .inl (cI, 60, .inl ki)), (qb, .inl (cI, 60, .inl bi)), (qp, .inl (cI, 60, .inl pa)), (lw, .inl (cI, 5, .inl la)), (g, .inr (0, [.int se, .int sh, .int sp, .int de, .int po, .ref gn, .ref gd, .ref gr, .ref gs, .int lo])), (gn, .inl (cI, 366, .inl nd)), (sd, .inr (4, [.long s01, .long s02, .int s03, .int s04])), (rt, .inr (3, [.long ra, .long rb]))] H locs → W p l e (rmN 5 0 0) s m args below meth c H locs 0 0 QQ (F0 m 12 ls [.int (b2i (!isJarB p0))]) by
    refine lv_iload_n hx hb dX6_faded_0 rfl (lv_at hl 1 rfl) ?_
    refine q_goI (q_rS hE lk_X6_90 (c_X6_isJar l D cI cJ cZ p0 s.heap.size) hst [] rfl rfl rfl hl.1 ⟨(Nat.le_of_ble_eq_true rfl), (Nat.le_of_ble_eq_true rfl)⟩ (rest := []) rfl (Nat.le_of_ble_eq_true rfl) dX6_faded_1 ⟨(Nat.le_of_ble_eq_true rfl), (Nat.le_of_ble_eq_true rfl)⟩) hE hst [] rfl (fun _ => rfl) (fun (_ : Unit) => [(o, .inr (6, [.ref tp, .ref nw, .ref th, .int im, .ref rf, .ref rt])), (rf, .inl (cI, 7, .inl ru)), (nw, .inr (1, [.ref j1, .ref j2, .ref mn, .ref lw, .int cut, .int least, .ref sd, .ref sr])), (mn, .inr (2, [.ref qk, .ref qb, .ref qp, .int (nI nq)])), (qk, .inl (cI, 60, .inl ki)), (qb, .inl (cI, 60, .inl bi)), (qp, .inl (cI, 60, .inl pa)), (lw, .inl (cI, 5, .inl la)), (g, .inr (0, [.int se, .int sh, .int sp, .int de, .int po, .ref gn, .ref gd, .ref gr, .ref gs, .int lo])), (gn, .inl (cI, 366, .inl nd)), (sd, .inr (4, [.long s01, .long s02, .int s03, .int s04])), (rt, .inr (3, [.long ra, .long rb]))]) (fun _ => rfl) (fun _ H locs hF hst => ?_)
    refine lv_if_ne (tgt := 11) hx hb dX6_faded_4 (by decide) (fun c_4 => ?_) (fun c_4 => ?_)
    · skip
      have c_4 := b2i_t c_4
      refine lv_iconst (v := 0) hx hb dX6_faded_11 (by decide) ?_
      have kJ := kJ _ _ hst
      rw [show (b2i (!isJarB p0)) = 0 from (by first | (rw [c_4]; done) | (rw [c_4]; rfl))] at kJ
      exact kJ
    · skip
      have c_4 := b2i_f c_4
      refine lv_iconst (v := 1) hx hb dX6_faded_7 (by decide) ?_
      refine lv_goto (tgt := 12) hx hb dX6_faded_8 (by decide) ?_
      have kJ := kJ _ _ hst
      rw [show (b2i (!isJarB p0)) = 1 from (by first | (rw [c_4]; done) | (rw [c_4]; rfl))] at kJ
      exact kJ
  intro H locs hst
  refine lv_iconst (v := 0) hx hb dX6_faded_12 (by decide) ?_
  suffices kJ : ∀ (H : Heap) (locs : List Loc), SS D A s [(o, .inr (6, [.ref tp, .ref nw, .ref th, .int im, .ref rf, .ref rt])), (rf, .inl (cI, 7, .inl ru)), (nw, .inr (1, [.ref j1, .ref j2, .ref mn, .ref lw, .int cut, .int least, .ref sd, .ref sr])), (mn, .inr (2, [.ref qk, .ref qb, .ref qp, .int (nI nq)])), (qk, .inl (cI, 60, .inl ki)), (qb, .inl (cI, 60, .inl bi)), (qp, .inl (cI, 60, .inl pa)), (lw, .inl (cI, 5, .inl la)), (g, .inr (0, [.int se, .int sh, .int sp, .int de, .int po, .ref gn, .ref gd, .ref gr, .ref gs, .int lo])), (gn, .inl (cI, 366, .inl nd)), (sd, .inr (4, [.long s01, .long s02, .int s03, .int s04])), (rt, .inr (3, [.long ra, .long rb]))] H locs → W p l e (rmN 5 0 0) s m args below meth c H locs 0 0 QQ (F0 m 22 ls [.int (b2i (!decide (0 ≤ p1))), .int 0, .int (b2i (!isJarB p0))]) by
    refine lv_iload_n hx hb dX6_faded_13 rfl (lv_at hl 2 rfl) ?_
    refine lv_if_ge (tgt := 21) hx hb dX6_faded_14 (by decide) (fun c_14 => ?_) (fun c_14 => ?_)
    · skip
      refine lv_iconst (v := 0) hx hb dX6_faded_21 (by decide) ?_
      have kJ := kJ _ _ hst
      rw [show (b2i (!decide (0 ≤ p1))) = 0 from (by first | (rw [decide_eq_true c_14]; done) | (rw [decide_eq_true c_14]; rfl))] at kJ
      exact kJ
    · skip
      refine lv_iconst (v := 1) hx hb dX6_faded_17 (by decide) ?_
      refine lv_goto (tgt := 22) hx hb dX6_faded_18 (by decide) ?_
      have kJ := kJ _ _ hst
      rw [show (b2i (!decide (0 ≤ p1))) = 1 from (by first | (rw [decide_eq_false c_14]; done) | (rw [decide_eq_false c_14]; rfl))] at kJ
      exact kJ
  intro H locs hst
  suffices kJ : ∀ (H : Heap) (locs : List Loc), SS D A s [(o, .inr (6, [.ref tp, .ref nw, .ref th, .int im, .ref rf, .ref rt])), (rf, .inl (cI, 7, .inl ru)), (nw, .inr (1, [.ref j1, .ref j2, .ref mn, .ref lw, .int cut, .int least, .ref sd, .ref sr])), (mn, .inr (2, [.ref qk, .ref qb, .ref qp, .int (nI nq)])), (qk, .inl (cI, 60, .inl ki)), (qb, .inl (cI, 60, .inl bi)), (qp, .inl (cI, 60, .inl pa)), (lw, .inl (cI, 5, .inl la)), (g, .inr (0, [.int se, .int sh, .int sp, .int de, .int po, .ref gn, .ref gd, .ref gr, .ref gs, .int lo])), (gn, .inl (cI, 366, .inl nd)), (sd, .inr (4, [.long s01, .long s02, .int s03, .int s04])), (rt, .inr (3, [.long ra, .long rb]))] H locs → W p l e (rmN 5 0 0) s m args below meth c H locs 0 0 QQ (F0 m 34 ls [.int (b2i (!decide (p1 ≤ 9999))), .int (b2i (!decide (0 ≤ p1))), .int 0, .int (b2i (!isJarB p0))]) by
    refine lv_iload_n hx hb dX6_faded_22 rfl (lv_at hl 2 rfl) ?_
    refine lv_sipush (v := 9999) hx hb dX6_faded_23 (by decide) ?_
    refine lv_icmp_le (tgt := 33) hx hb dX6_faded_26 (by decide) (fun c_26 => ?_) (fun c_26 => ?_)
    · skip
      refine lv_iconst (v := 0) hx hb dX6_faded_33 (by decide) ?_
      have kJ := kJ _ _ hst
      rw [show (b2i (!decide (p1 ≤ 9999))) = 0 from (by first | (rw [decide_eq_true c_26]; done) | (rw [decide_eq_true c_26]; rfl))] at kJ
      exact kJ
    · skip
      refine lv_iconst (v := 1) hx hb dX6_faded_29 (by decide) ?_
      refine lv_goto (tgt := 34) hx hb dX6_faded_30 (by decide) ?_
      have kJ := kJ _ _ hst
      rw [show (b2i (!decide (p1 ≤ 9999))) = 1 from (by first | (rw [decide_eq_false c_26]; done) | (rw [decide_eq_false c_26]; rfl))] at kJ
      exact kJ
  intro H locs hst
  refine q_goI (q_rS hE lk_X6_45 (c_X6_firstThatFits l D cI cJ cZ (!isJarB p0) false (!decide (0 ≤ p1)) (!decide (p1 ≤ 9999)) H.size) hst [] rfl rfl rfl hl.1 ⟨(Nat.le_of_ble_eq_true rfl), (Nat.le_of_ble_eq_true rfl)⟩ (rest := []) rfl (Nat.le_of_ble_eq_true rfl) dX6_faded_34 ⟨(Nat.le_of_ble_eq_true rfl), (Nat.le_of_ble_eq_true rfl)⟩) hE hst [] rfl (fun _ => rfl) (fun (_ : Unit) => [(o, .inr (6, [.ref tp, .ref nw, .ref th, .int im, .ref rf, .ref rt])), (rf, .inl (cI, 7, .inl ru)), (nw, .inr (1, [.ref j1, .ref j2, .ref mn, .ref lw, .int cut, .int least, .ref sd, .ref sr])), (mn, .inr (2, [.ref qk, .ref qb, .ref qp, .int (nI nq)])), (qk, .inl (cI, 60, .inl ki)), (qb, .inl (cI, 60, .inl bi)), (qp, .inl (cI, 60, .inl pa)), (lw, .inl (cI, 5, .inl la)), (g, .inr (0, [.int se, .int sh, .int sp, .int de, .int po, .ref gn, .ref gd, .ref gr, .ref gs, .int lo])), (gn, .inl (cI, 366, .inl nd)), (sd, .inr (4, [.long s01, .long s02, .int s03, .int s04])), (rt, .inr (3, [.long ra, .long rb]))]) (fun _ => rfl) (fun _ H locs hF hst => ?_)
  refine lv_istore_n (lv' := [(3, .int (ftf (!isJarB p0) false (!decide (0 ≤ p1)) (!decide (p1 ≤ 9999)))), (0, .ref o), (1, .int p0), (2, .int p1)]) hx hb dX6_faded_37 rfl hl (by decide) rfl (fun ls hl => ?_)
  refine lv_iload_n hx hb dX6_faded_38 rfl (lv_at hl 0 rfl) ?_
  refine lv_if_eq (tgt := 48) hx hb dX6_faded_39 (by decide) (fun c_39 => ?_) (fun c_39 => ?_)
  · skip
    obtain ⟨f1, f2, f3, f4⟩ := ftf_1 c_39
    have hjr := not_f f1
    refine lv_iconst (v := 0) hx hb dX6_faded_48 (by decide) ?_
    refine lv_istore (lv' := [(4, .int 0), (3, .int (ftf (!isJarB p0) false (!decide (0 ≤ p1)) (!decide (p1 ≤ 9999)))), (0, .ref o), (1, .int p0), (2, .int p1)]) hx hb dX6_faded_49 hl (by decide) rfl (fun ls hl => ?_)
    exact loop_51 (42) 0 s01 s02 s03 s04 ra rb (by decide) (c_39) (hjr) (rfl) (by decide) _ _ _ (hst) (lv_sub hl [0, 2, 3, 4] rfl)
  · skip
    refine lv_aload_n hx hb dX6_faded_42 rfl (lv_at hl 1 rfl) ?_
    refine lv_iload_n hx hb dX6_faded_43 rfl (lv_at hl 0 rfl) ?_
    refine q_goI (q_rV hE lk_X6_49 (c_X6_refuse l D cI cJ cZ o tp nw th rf rt im ru (ftf (!isJarB p0) false (!decide (0 ≤ p1)) (!decide (p1 ≤ 9999))) (ftf_in _ _ _ _) H.size) hst [0, 1] rfl rfl rfl rfl rfl hl.1 ⟨(Nat.le_of_ble_eq_true rfl), (Nat.le_of_ble_eq_true rfl)⟩ (rest := []) rfl (Nat.le_of_ble_eq_true rfl) dX6_faded_44 ⟨(Nat.le_of_ble_eq_true rfl), (Nat.le_of_ble_eq_true rfl)⟩) hE hst [0, 1] rfl (fun _ => rfl) (fun (_ : Unit) => [(o, .inr (6, [.ref tp, .ref nw, .ref th, .int im, .ref rf, .ref rt])), (rf, .inl (cI, 7, .inl (bmp ru (ftf (!isJarB p0) false (!decide (0 ≤ p1)) (!decide (p1 ≤ 9999)))))), (nw, .inr (1, [.ref j1, .ref j2, .ref mn, .ref lw, .int cut, .int least, .ref sd, .ref sr])), (mn, .inr (2, [.ref qk, .ref qb, .ref qp, .int (nI nq)])), (qk, .inl (cI, 60, .inl ki)), (qb, .inl (cI, 60, .inl bi)), (qp, .inl (cI, 60, .inl pa)), (lw, .inl (cI, 5, .inl la)), (g, .inr (0, [.int se, .int sh, .int sp, .int de, .int po, .ref gn, .ref gd, .ref gr, .ref gs, .int lo])), (gn, .inl (cI, 366, .inl nd)), (sd, .inr (4, [.long s01, .long s02, .int s03, .int s04])), (rt, .inr (3, [.long ra, .long rb]))]) (fun _ => rfl) (fun _ H locs hF hst => ?_)
    exact q_retI hQ hE hr hk hst (s01, s02, s03, s04, ra, rb) (by rw [if_neg c_39]) (trivial) (by rw [if_neg c_39]) dX6_faded_47
set_option maxHeartbeats 4000000 in
set_option maxRecDepth 100000 in
theorem c_X6_group (l : Launch) (D : va_G) (cI cJ cZ : ClassId) (o : Nat) (tp : Nat) (nw : Nat) (th : Nat) (rf : Nat) (rt : Nat) (im : Int32) (ru : Nat → Int32) (j1 : Nat) (j2 : Nat) (mn : Nat) (lw : Nat) (sd : Nat) (sr : Nat) (cut : Int32) (least : Int32) (qk : Nat) (qb : Nat) (qp : Nat) (nq : Nat) (g : Nat) (gn : Nat) (gd : Nat) (gr : Nat) (gs : Nat) (se : Int32) (sh : Int32) (sp : Int32) (de : Int32) (po : Int32) (lo : Int32) (nd : Nat → Int32) (ki : Nat → Int32) (bi : Nat → Int32) (pa : Nat → Int32) (la : Nat → Int32) (ra : Int64) (rb : Int64) (p0 : Int32) (p1 : Int32) (p2 : Int32) (p3 : Int32) (hsel : isJarB p0 = true → (if p0 = 0 then j1 else j2) = g) (hn : nq ≤ 60) (hbi : ∀ j, j < nq → vp_in (bi j) 366) : CtL l D cI cJ cZ yX6_group cX6_group 6 (some .long) 5 [.ref o, .int p0, .int p1, .int p2, .int p3] [(o, .inr (6, [.ref tp, .ref nw, .ref th, .int im, .ref rf, .ref rt])), (rf, .inl (cI, 7, .inl ru)), (nw, .inr (1, [.ref j1, .ref j2, .ref mn, .ref lw, .int cut, .int least, .ref sd, .ref sr])), (mn, .inr (2, [.ref qk, .ref qb, .ref qp, .int (nI nq)])), (qk, .inl (cI, 60, .inl ki)), (qb, .inl (cI, 60, .inl bi)), (qp, .inl (cI, 60, .inl pa)), (lw, .inl (cI, 5, .inl la)), (g, .inr (0, [.int se, .int sh, .int sp, .int de, .int po, .ref gn, .ref gd, .ref gr, .ref gs, .int lo])), (gn, .inl (cI, 366, .inl nd)), (rt, .inr (3, [.long ra, .long rb]))] (fun (u : Int64 × Int64) => if ftf (!isJarB p0 || !isMonthB p1) (!isJarB p3) (!decide (0 ≤ p2)) (!decide (p2 ≤ 40)) = 0 then if decide (least ≤ cntI (fun m => decide (monOf (bi m) = p1)) nq) = true then (if p3 = 0 then becA (gsL (fun m => decide (monOf (bi m) = p1)) (wgL cut nd ki bi pa la p2) nq) (cntI (fun m => decide (monOf (bi m) = p1)) nq).toInt64 else becB (gsL (fun m => decide (monOf (bi m) = p1)) (wgL cut nd ki bi pa la p2) nq) (cntI (fun m => decide (monOf (bi m) = p1)) nq).toInt64) else (if p3 = 0 then -9 else 1) else lgR (ftf (!isJarB p0 || !isMonthB p1) (!isJarB p3) (!decide (0 ≤ p2)) (!decide (p2 ≤ 40)))) (fun (u : Int64 × Int64) => True) (fun (u : Int64 × Int64) => [(o, .inr (6, [.ref tp, .ref nw, .ref th, .int im, .ref rf, .ref rt])), (rf, .inl (cI, 7, .inl (if ftf (!isJarB p0 || !isMonthB p1) (!isJarB p3) (!decide (0 ≤ p2)) (!decide (p2 ≤ 40)) = 0 then ru else bmp ru (ftf (!isJarB p0 || !isMonthB p1) (!isJarB p3) (!decide (0 ≤ p2)) (!decide (p2 ≤ 40)))))), (nw, .inr (1, [.ref j1, .ref j2, .ref mn, .ref lw, .int cut, .int least, .ref sd, .ref sr])), (mn, .inr (2, [.ref qk, .ref qb, .ref qp, .int (nI nq)])), (qk, .inl (cI, 60, .inl ki)), (qb, .inl (cI, 60, .inl bi)), (qp, .inl (cI, 60, .inl pa)), (lw, .inl (cI, 5, .inl la)), (g, .inr (0, [.int se, .int sh, .int sp, .int de, .int po, .ref gn, .ref gd, .ref gr, .ref gs, .int lo])), (gn, .inl (cI, 366, .inl nd)), (rt, .inr (3, [.long u.1, .long u.2]))]) := by
  refine q_entL (own := RX6) rfl rfl (Nat.le_of_ble_eq_true rfl) ?_
  intro p e s m args below meth c A ls QQ hQ hE hx hb hr hk hin hA hl hst
  have hl : lv_has ls 6 [(0, .ref o), (1, .int p0), (2, .int p1), (3, .int p2), (4, .int p3)] := hl
  suffices kJ : ∀ (H : Heap) (locs : List Loc), SS D A s [(o, .inr (6, [.ref tp, .ref nw, .ref th, .int im, .ref rf, .ref rt])), (rf, .inl (cI, 7, .inl ru)), (nw, .inr (1, [.ref j1, .ref j2, .ref mn, .ref lw, .int cut, .int least, .ref sd, .ref sr])), (mn, .inr (2, [.ref qk, .ref qb, .ref qp, .int (nI nq)])), (qk, .inl (cI, 60, .inl ki)), (qb, .inl (cI, 60, .inl bi)), (qp, .inl (cI, 60, .inl pa)), (lw, .inl (cI, 5, .inl la)), (g, .inr (0, [.int se, .int sh, .int sp, .int de, .int po, .ref gn, .ref gd, .ref gr, .ref gs, .int lo])), (gn, .inl (cI, 366, .inl nd)), (rt, .inr (3, [.long ra, .long rb]))] H locs → W p l e (rmN 5 0 0) s m args below meth c H locs 0 0 QQ (F0 m 19 ls [.int (b2i (!isJarB p0 || !isMonthB p1))]) by
    refine lv_iload_n hx hb dX6_group_0 rfl (lv_at hl 1 rfl) ?_
    refine q_goI (q_rS hE lk_X6_90 (c_X6_isJar l D cI cJ cZ p0 s.heap.size) hst [] rfl rfl rfl hl.1 ⟨(Nat.le_of_ble_eq_true rfl), (Nat.le_of_ble_eq_true rfl)⟩ (rest := []) rfl (Nat.le_of_ble_eq_true rfl) dX6_group_1 ⟨(Nat.le_of_ble_eq_true rfl), (Nat.le_of_ble_eq_true rfl)⟩) hE hst [] rfl (fun _ => rfl) (fun (_ : Unit) => [(o, .inr (6, [.ref tp, .ref nw, .ref th, .int im, .ref rf, .ref rt])), (rf, .inl (cI, 7, .inl ru)), (nw, .inr (1, [.ref j1, .ref j2, .ref mn, .ref lw, .int cut, .int least, .ref sd, .ref sr])), (mn, .inr (2, [.ref qk, .ref qb, .ref qp, .int (nI nq)])), (qk, .inl (cI, 60, .inl ki)), (qb, .inl (cI, 60, .inl bi)), (qp, .inl (cI, 60, .inl pa)), (lw, .inl (cI, 5, .inl la)), (g, .inr (0, [.int se, .int sh, .int sp, .int de, .int po, .ref gn, .ref gd, .ref gr, .ref gs, .int lo])), (gn, .inl (cI, 366, .inl nd)), (rt, .inr (3, [.long ra, .long rb]))]) (fun _ => rfl) (fun _ H locs hF hst => ?_)
    refine lv_if_eq (tgt := 14) hx hb dX6_group_4 (by decide) (fun c_4 => ?_) (fun c_4 => ?_)
    · skip
      have c_4 := b2i_f c_4
      refine lv_iconst (v := 1) hx hb dX6_group_14 (by decide) ?_
      refine lv_goto (tgt := 19) hx hb dX6_group_15 (by decide) ?_
      have kJ := kJ _ _ hst
      rw [show (b2i (!isJarB p0 || !isMonthB p1)) = 1 from (by first | (rw [c_4]; done) | (rw [c_4]; rfl))] at kJ
      exact kJ
    · skip
      have c_4 := b2i_t c_4
      refine lv_iload_n hx hb dX6_group_7 rfl (lv_at hl 2 rfl) ?_
      refine q_goI (q_rS hE lk_X6_113 (c_X6_isMonth l D cI cJ cZ p1 H.size) hst [] rfl rfl rfl hl.1 ⟨(Nat.le_of_ble_eq_true rfl), (Nat.le_of_ble_eq_true rfl)⟩ (rest := []) rfl (Nat.le_of_ble_eq_true rfl) dX6_group_8 ⟨(Nat.le_of_ble_eq_true rfl), (Nat.le_of_ble_eq_true rfl)⟩) hE hst [] rfl (fun _ => rfl) (fun (_ : Unit) => [(o, .inr (6, [.ref tp, .ref nw, .ref th, .int im, .ref rf, .ref rt])), (rf, .inl (cI, 7, .inl ru)), (nw, .inr (1, [.ref j1, .ref j2, .ref mn, .ref lw, .int cut, .int least, .ref sd, .ref sr])), (mn, .inr (2, [.ref qk, .ref qb, .ref qp, .int (nI nq)])), (qk, .inl (cI, 60, .inl ki)), (qb, .inl (cI, 60, .inl bi)), (qp, .inl (cI, 60, .inl pa)), (lw, .inl (cI, 5, .inl la)), (g, .inr (0, [.int se, .int sh, .int sp, .int de, .int po, .ref gn, .ref gd, .ref gr, .ref gs, .int lo])), (gn, .inl (cI, 366, .inl nd)), (rt, .inr (3, [.long ra, .long rb]))]) (fun _ => rfl) (fun _ H locs hF hst => ?_)
      refine lv_if_ne (tgt := 18) hx hb dX6_group_11 (by decide) (fun c_11 => ?_) (fun c_11 => ?_)
      · skip
        have c_11 := b2i_t c_11
        refine lv_iconst (v := 0) hx hb dX6_group_18 (by decide) ?_
        have kJ := kJ _ _ hst
        rw [show (b2i (!isJarB p0 || !isMonthB p1)) = 0 from (by first | (rw [c_4, c_11]; done) | (rw [c_4, c_11]; rfl))] at kJ
        exact kJ
      · skip
        have c_11 := b2i_f c_11
        refine lv_iconst (v := 1) hx hb dX6_group_14 (by decide) ?_
        refine lv_goto (tgt := 19) hx hb dX6_group_15 (by decide) ?_
        have kJ := kJ _ _ hst
        rw [show (b2i (!isJarB p0 || !isMonthB p1)) = 1 from (by first | (rw [c_4, c_11]; done) | (rw [c_4, c_11]; rfl))] at kJ
        exact kJ
  intro H locs hst
  suffices kJ : ∀ (H : Heap) (locs : List Loc), SS D A s [(o, .inr (6, [.ref tp, .ref nw, .ref th, .int im, .ref rf, .ref rt])), (rf, .inl (cI, 7, .inl ru)), (nw, .inr (1, [.ref j1, .ref j2, .ref mn, .ref lw, .int cut, .int least, .ref sd, .ref sr])), (mn, .inr (2, [.ref qk, .ref qb, .ref qp, .int (nI nq)])), (qk, .inl (cI, 60, .inl ki)), (qb, .inl (cI, 60, .inl bi)), (qp, .inl (cI, 60, .inl pa)), (lw, .inl (cI, 5, .inl la)), (g, .inr (0, [.int se, .int sh, .int sp, .int de, .int po, .ref gn, .ref gd, .ref gr, .ref gs, .int lo])), (gn, .inl (cI, 366, .inl nd)), (rt, .inr (3, [.long ra, .long rb]))] H locs → W p l e (rmN 5 0 0) s m args below meth c H locs 0 0 QQ (F0 m 32 ls [.int (b2i (!isJarB p3)), .int (b2i (!isJarB p0 || !isMonthB p1))]) by
    refine lv_iload hx hb dX6_group_19 (lv_at hl 4 rfl) ?_
    refine q_goI (q_rS hE lk_X6_116 (c_X6_isPart l D cI cJ cZ p3 H.size) hst [] rfl rfl rfl hl.1 ⟨(Nat.le_of_ble_eq_true rfl), (Nat.le_of_ble_eq_true rfl)⟩ (rest := [.int (b2i (!isJarB p0 || !isMonthB p1))]) rfl (Nat.le_of_ble_eq_true rfl) dX6_group_21 ⟨(Nat.le_of_ble_eq_true rfl), (Nat.le_of_ble_eq_true rfl)⟩) hE hst [] rfl (fun _ => rfl) (fun (_ : Unit) => [(o, .inr (6, [.ref tp, .ref nw, .ref th, .int im, .ref rf, .ref rt])), (rf, .inl (cI, 7, .inl ru)), (nw, .inr (1, [.ref j1, .ref j2, .ref mn, .ref lw, .int cut, .int least, .ref sd, .ref sr])), (mn, .inr (2, [.ref qk, .ref qb, .ref qp, .int (nI nq)])), (qk, .inl (cI, 60, .inl ki)), (qb, .inl (cI, 60, .inl bi)), (qp, .inl (cI, 60, .inl pa)), (lw, .inl (cI, 5, .inl la)), (g, .inr (0, [.int se, .int sh, .int sp, .int de, .int po, .ref gn, .ref gd, .ref gr, .ref gs, .int lo])), (gn, .inl (cI, 366, .inl nd)), (rt, .inr (3, [.long ra, .long rb]))]) (fun _ => rfl) (fun _ H locs hF hst => ?_)
    refine lv_if_ne (tgt := 31) hx hb dX6_group_24 (by decide) (fun c_24 => ?_) (fun c_24 => ?_)
    · skip
      have c_24 := b2i_t c_24
      refine lv_iconst (v := 0) hx hb dX6_group_31 (by decide) ?_
      have kJ := kJ _ _ hst
      rw [show (b2i (!isJarB p3)) = 0 from (by first | (rw [c_24]; done) | (rw [c_24]; rfl))] at kJ
      exact kJ
    · skip
      have c_24 := b2i_f c_24
      refine lv_iconst (v := 1) hx hb dX6_group_27 (by decide) ?_
      refine lv_goto (tgt := 32) hx hb dX6_group_28 (by decide) ?_
      have kJ := kJ _ _ hst
      rw [show (b2i (!isJarB p3)) = 1 from (by first | (rw [c_24]; done) | (rw [c_24]; rfl))] at kJ
      exact kJ
  intro H locs hst
  suffices kJ : ∀ (H : Heap) (locs : List Loc), SS D A s [(o, .inr (6, [.ref tp, .ref nw, .ref th, .int im, .ref rf, .ref rt])), (rf, .inl (cI, 7, .inl ru)), (nw, .inr (1, [.ref j1, .ref j2, .ref mn, .ref lw, .int cut, .int least, .ref sd, .ref sr])), (mn, .inr (2, [.ref qk, .ref qb, .ref qp, .int (nI nq)])), (qk, .inl (cI, 60, .inl ki)), (qb, .inl (cI, 60, .inl bi)), (qp, .inl (cI, 60, .inl pa)), (lw, .inl (cI, 5, .inl la)), (g, .inr (0, [.int se, .int sh, .int sp, .int de, .int po, .ref gn, .ref gd, .ref gr, .ref gs, .int lo])), (gn, .inl (cI, 366, .inl nd)), (rt, .inr (3, [.long ra, .long rb]))] H locs → W p l e (rmN 5 0 0) s m args below meth c H locs 0 0 QQ (F0 m 41 ls [.int (b2i (!decide (0 ≤ p2))), .int (b2i (!isJarB p3)), .int (b2i (!isJarB p0 || !isMonthB p1))]) by
    refine lv_iload_n hx hb dX6_group_32 rfl (lv_at hl 3 rfl) ?_
    refine lv_if_ge (tgt := 40) hx hb dX6_group_33 (by decide) (fun c_33 => ?_) (fun c_33 => ?_)
    · skip
      refine lv_iconst (v := 0) hx hb dX6_group_40 (by decide) ?_
      have kJ := kJ _ _ hst
      rw [show (b2i (!decide (0 ≤ p2))) = 0 from (by first | (rw [decide_eq_true c_33]; done) | (rw [decide_eq_true c_33]; rfl))] at kJ
      exact kJ
    · skip
      refine lv_iconst (v := 1) hx hb dX6_group_36 (by decide) ?_
      refine lv_goto (tgt := 41) hx hb dX6_group_37 (by decide) ?_
      have kJ := kJ _ _ hst
      rw [show (b2i (!decide (0 ≤ p2))) = 1 from (by first | (rw [decide_eq_false c_33]; done) | (rw [decide_eq_false c_33]; rfl))] at kJ
      exact kJ
  intro H locs hst
  suffices kJ : ∀ (H : Heap) (locs : List Loc), SS D A s [(o, .inr (6, [.ref tp, .ref nw, .ref th, .int im, .ref rf, .ref rt])), (rf, .inl (cI, 7, .inl ru)), (nw, .inr (1, [.ref j1, .ref j2, .ref mn, .ref lw, .int cut, .int least, .ref sd, .ref sr])), (mn, .inr (2, [.ref qk, .ref qb, .ref qp, .int (nI nq)])), (qk, .inl (cI, 60, .inl ki)), (qb, .inl (cI, 60, .inl bi)), (qp, .inl (cI, 60, .inl pa)), (lw, .inl (cI, 5, .inl la)), (g, .inr (0, [.int se, .int sh, .int sp, .int de, .int po, .ref gn, .ref gd, .ref gr, .ref gs, .int lo])), (gn, .inl (cI, 366, .inl nd)), (rt, .inr (3, [.long ra, .long rb]))] H locs → W p l e (rmN 5 0 0) s m args below meth c H locs 0 0 QQ (F0 m 52 ls [.int (b2i (!decide (p2 ≤ 40))), .int (b2i (!decide (0 ≤ p2))), .int (b2i (!isJarB p3)), .int (b2i (!isJarB p0 || !isMonthB p1))]) by
    refine lv_iload_n hx hb dX6_group_41 rfl (lv_at hl 3 rfl) ?_
    refine lv_bipush (v := 40) hx hb dX6_group_42 (by decide) ?_
    refine lv_icmp_le (tgt := 51) hx hb dX6_group_44 (by decide) (fun c_44 => ?_) (fun c_44 => ?_)
    · skip
      refine lv_iconst (v := 0) hx hb dX6_group_51 (by decide) ?_
      have kJ := kJ _ _ hst
      rw [show (b2i (!decide (p2 ≤ 40))) = 0 from (by first | (rw [decide_eq_true c_44]; done) | (rw [decide_eq_true c_44]; rfl))] at kJ
      exact kJ
    · skip
      refine lv_iconst (v := 1) hx hb dX6_group_47 (by decide) ?_
      refine lv_goto (tgt := 52) hx hb dX6_group_48 (by decide) ?_
      have kJ := kJ _ _ hst
      rw [show (b2i (!decide (p2 ≤ 40))) = 1 from (by first | (rw [decide_eq_false c_44]; done) | (rw [decide_eq_false c_44]; rfl))] at kJ
      exact kJ
  intro H locs hst
  refine q_goI (q_rS hE lk_X6_45 (c_X6_firstThatFits l D cI cJ cZ (!isJarB p0 || !isMonthB p1) (!isJarB p3) (!decide (0 ≤ p2)) (!decide (p2 ≤ 40)) H.size) hst [] rfl rfl rfl hl.1 ⟨(Nat.le_of_ble_eq_true rfl), (Nat.le_of_ble_eq_true rfl)⟩ (rest := []) rfl (Nat.le_of_ble_eq_true rfl) dX6_group_52 ⟨(Nat.le_of_ble_eq_true rfl), (Nat.le_of_ble_eq_true rfl)⟩) hE hst [] rfl (fun _ => rfl) (fun (_ : Unit) => [(o, .inr (6, [.ref tp, .ref nw, .ref th, .int im, .ref rf, .ref rt])), (rf, .inl (cI, 7, .inl ru)), (nw, .inr (1, [.ref j1, .ref j2, .ref mn, .ref lw, .int cut, .int least, .ref sd, .ref sr])), (mn, .inr (2, [.ref qk, .ref qb, .ref qp, .int (nI nq)])), (qk, .inl (cI, 60, .inl ki)), (qb, .inl (cI, 60, .inl bi)), (qp, .inl (cI, 60, .inl pa)), (lw, .inl (cI, 5, .inl la)), (g, .inr (0, [.int se, .int sh, .int sp, .int de, .int po, .ref gn, .ref gd, .ref gr, .ref gs, .int lo])), (gn, .inl (cI, 366, .inl nd)), (rt, .inr (3, [.long ra, .long rb]))]) (fun _ => rfl) (fun _ H locs hF hst => ?_)
  refine lv_istore (lv' := [(5, .int (ftf (!isJarB p0 || !isMonthB p1) (!isJarB p3) (!decide (0 ≤ p2)) (!decide (p2 ≤ 40)))), (0, .ref o), (1, .int p0), (2, .int p1), (3, .int p2), (4, .int p3)]) hx hb dX6_group_55 hl (by decide) rfl (fun ls hl => ?_)
  refine lv_iload hx hb dX6_group_57 (lv_at hl 0 rfl) ?_
  refine lv_if_eq (tgt := 69) hx hb dX6_group_59 (by decide) (fun c_59 => ?_) (fun c_59 => ?_)
  · skip
    obtain ⟨f1, f2, f3, f4⟩ := ftf_1 c_59
    obtain ⟨hjr, f1b⟩ := nor_f f1
    refine lv_aload_n hx hb dX6_group_69 rfl (lv_at hl 1 rfl) ?_
    refine gf_X6_19 hE hst 0 rfl rfl dX6_group_70 ?_
    refine lv_iload_n hx hb dX6_group_73 rfl (lv_at hl 3 rfl) ?_
    refine q_goI (q_rNV hE lk_X6_209 (c_X1_isShown l D cI cJ cZ nw j1 j2 mn lw sd sr cut least qk qb qp nq bi p1 (by first | assumption | decide | omega) H.size) hst [2, 3, 5] rfl rfl rfl rfl rfl hl.1 ⟨(Nat.le_of_ble_eq_true rfl), (Nat.le_of_ble_eq_true rfl)⟩ (rest := []) rfl (Nat.le_of_ble_eq_true rfl) dX6_group_74 ⟨(Nat.le_of_ble_eq_true rfl), (Nat.le_of_ble_eq_true rfl)⟩) hE hst [2, 3, 5] rfl (fun _ => rfl) (fun (_ : Unit) => [(o, .inr (6, [.ref tp, .ref nw, .ref th, .int im, .ref rf, .ref rt])), (rf, .inl (cI, 7, .inl ru)), (nw, .inr (1, [.ref j1, .ref j2, .ref mn, .ref lw, .int cut, .int least, .ref sd, .ref sr])), (mn, .inr (2, [.ref qk, .ref qb, .ref qp, .int (nI nq)])), (qk, .inl (cI, 60, .inl ki)), (qb, .inl (cI, 60, .inl bi)), (qp, .inl (cI, 60, .inl pa)), (lw, .inl (cI, 5, .inl la)), (g, .inr (0, [.int se, .int sh, .int sp, .int de, .int po, .ref gn, .ref gd, .ref gr, .ref gs, .int lo])), (gn, .inl (cI, 366, .inl nd)), (rt, .inr (3, [.long ra, .long rb]))]) (fun _ => rfl) (fun _ H locs hF hst => ?_)
    refine lv_if_ne (tgt := 93) hx hb dX6_group_77 (by decide) (fun c_77 => ?_) (fun c_77 => ?_)
    · skip
      have c_77 := b2i_t c_77
      refine lv_aload_n hx hb dX6_group_93 rfl (lv_at hl 1 rfl) ?_
      refine gf_X6_19 hE hst 0 rfl rfl dX6_group_94 ?_
      refine lv_aload_n hx hb dX6_group_97 rfl (lv_at hl 1 rfl) ?_
      refine gf_X6_19 hE hst 0 rfl rfl dX6_group_98 ?_
      refine lv_iload_n hx hb dX6_group_101 rfl (lv_at hl 2 rfl) ?_
      refine q_goR (q_rNV hE lk_X6_93 (c_X1_jarAt l D cI cJ cZ nw j1 j2 mn lw sd sr cut least p0 H.size) hst [2] rfl rfl rfl rfl rfl hl.1 ⟨(Nat.le_of_ble_eq_true rfl), (Nat.le_of_ble_eq_true rfl)⟩ (rest := [.ref nw]) rfl (Nat.le_of_ble_eq_true rfl) dX6_group_102 ⟨(Nat.le_of_ble_eq_true rfl), (Nat.le_of_ble_eq_true rfl)⟩) hE hst [2] rfl (fun _ => rfl) (fun (_ : Unit) => [(o, .inr (6, [.ref tp, .ref nw, .ref th, .int im, .ref rf, .ref rt])), (rf, .inl (cI, 7, .inl ru)), (nw, .inr (1, [.ref j1, .ref j2, .ref mn, .ref lw, .int cut, .int least, .ref sd, .ref sr])), (mn, .inr (2, [.ref qk, .ref qb, .ref qp, .int (nI nq)])), (qk, .inl (cI, 60, .inl ki)), (qb, .inl (cI, 60, .inl bi)), (qp, .inl (cI, 60, .inl pa)), (lw, .inl (cI, 5, .inl la)), (g, .inr (0, [.int se, .int sh, .int sp, .int de, .int po, .ref gn, .ref gd, .ref gr, .ref gs, .int lo])), (gn, .inl (cI, 366, .inl nd)), (rt, .inr (3, [.long ra, .long rb]))]) (fun _ => rfl) (fun _ H locs hF hst => ?_)
      refine q_topR (x' := g) (hsel hjr) ?_
      refine lv_iload_n hx hb dX6_group_105 rfl (lv_at hl 3 rfl) ?_
      refine lv_iload_n hx hb dX6_group_106 rfl (lv_at hl 4 rfl) ?_
      refine lv_aload_n hx hb dX6_group_107 rfl (lv_at hl 1 rfl) ?_
      refine gf_X6_37 hE hst 0 rfl rfl dX6_group_108 ?_
      refine q_goV (q_rNV hE lk_X6_214 (c_X1_findGroup l D cI cJ cZ nw j1 j2 mn lw sd sr cut least qk qb qp nq g gn gd gr gs se sh sp de po lo nd ki bi pa la rt ra rb p1 p2 (by first | assumption | decide | omega) (by first | assumption | decide | omega) H.size) hst [2, 3, 4, 5, 6, 7, 8, 9, 10] rfl rfl rfl rfl rfl hl.1 ⟨(Nat.le_of_ble_eq_true rfl), (Nat.le_of_ble_eq_true rfl)⟩ (rest := []) rfl (Nat.le_of_ble_eq_true rfl) dX6_group_111 ⟨(Nat.le_of_ble_eq_true rfl), (Nat.le_of_ble_eq_true rfl)⟩) hE hst [2, 3, 4, 5, 6, 7, 8, 9, 10] rfl (fun _ => rfl) (fun (_ : Unit) => [(o, .inr (6, [.ref tp, .ref nw, .ref th, .int im, .ref rf, .ref rt])), (rf, .inl (cI, 7, .inl ru)), (nw, .inr (1, [.ref j1, .ref j2, .ref mn, .ref lw, .int cut, .int least, .ref sd, .ref sr])), (mn, .inr (2, [.ref qk, .ref qb, .ref qp, .int (nI nq)])), (qk, .inl (cI, 60, .inl ki)), (qb, .inl (cI, 60, .inl bi)), (qp, .inl (cI, 60, .inl pa)), (lw, .inl (cI, 5, .inl la)), (g, .inr (0, [.int se, .int sh, .int sp, .int de, .int po, .ref gn, .ref gd, .ref gr, .ref gs, .int lo])), (gn, .inl (cI, 366, .inl nd)), (rt, .inr (3, [.long (becA (gsL (fun m => decide (monOf (bi m) = p1)) (wgL cut nd ki bi pa la p2) nq) (cntI (fun m => decide (monOf (bi m) = p1)) nq).toInt64), .long (becB (gsL (fun m => decide (monOf (bi m) = p1)) (wgL cut nd ki bi pa la p2) nq) (cntI (fun m => decide (monOf (bi m) = p1)) nq).toInt64)]))]) (fun _ => rfl) (fun _ H locs hF hst => ?_)
      refine lv_aload_n hx hb dX6_group_114 rfl (lv_at hl 1 rfl) ?_
      refine gf_X6_37 hE hst 0 rfl rfl dX6_group_115 ?_
      refine lv_iload hx hb dX6_group_118 (lv_at hl 5 rfl) ?_
      refine q_goL (q_rNV hE lk_X6_133 (c_X3_partAt l D cI cJ cZ rt (becA (gsL (fun m => decide (monOf (bi m) = p1)) (wgL cut nd ki bi pa la p2) nq) (cntI (fun m => decide (monOf (bi m) = p1)) nq).toInt64) (becB (gsL (fun m => decide (monOf (bi m) = p1)) (wgL cut nd ki bi pa la p2) nq) (cntI (fun m => decide (monOf (bi m) = p1)) nq).toInt64) p3 H.size) hst [10] rfl rfl rfl rfl rfl hl.1 ⟨(Nat.le_of_ble_eq_true rfl), (Nat.le_of_ble_eq_true rfl)⟩ (rest := []) rfl (Nat.le_of_ble_eq_true rfl) dX6_group_120 ⟨(Nat.le_of_ble_eq_true rfl), (Nat.le_of_ble_eq_true rfl)⟩) hE hst [10] rfl (fun _ => rfl) (fun (_ : Unit) => [(o, .inr (6, [.ref tp, .ref nw, .ref th, .int im, .ref rf, .ref rt])), (rf, .inl (cI, 7, .inl ru)), (nw, .inr (1, [.ref j1, .ref j2, .ref mn, .ref lw, .int cut, .int least, .ref sd, .ref sr])), (mn, .inr (2, [.ref qk, .ref qb, .ref qp, .int (nI nq)])), (qk, .inl (cI, 60, .inl ki)), (qb, .inl (cI, 60, .inl bi)), (qp, .inl (cI, 60, .inl pa)), (lw, .inl (cI, 5, .inl la)), (g, .inr (0, [.int se, .int sh, .int sp, .int de, .int po, .ref gn, .ref gd, .ref gr, .ref gs, .int lo])), (gn, .inl (cI, 366, .inl nd)), (rt, .inr (3, [.long (becA (gsL (fun m => decide (monOf (bi m) = p1)) (wgL cut nd ki bi pa la p2) nq) (cntI (fun m => decide (monOf (bi m) = p1)) nq).toInt64), .long (becB (gsL (fun m => decide (monOf (bi m) = p1)) (wgL cut nd ki bi pa la p2) nq) (cntI (fun m => decide (monOf (bi m) = p1)) nq).toInt64)]))]) (fun _ => rfl) (fun _ H locs hF hst => ?_)
      exact q_retL hQ hE hr hk hst (becA (gsL (fun m => decide (monOf (bi m) = p1)) (wgL cut nd ki bi pa la p2) nq) (cntI (fun m => decide (monOf (bi m) = p1)) nq).toInt64, becB (gsL (fun m => decide (monOf (bi m) = p1)) (wgL cut nd ki bi pa la p2) nq) (cntI (fun m => decide (monOf (bi m) = p1)) nq).toInt64) (by rw [if_pos c_59, if_pos c_77]) (trivial) (by rw [if_pos c_59]) dX6_group_123
    · skip
      have c_77 := b2i_f c_77
      refine lv_iload hx hb dX6_group_80 (lv_at hl 5 rfl) ?_
      refine lv_if_ne (tgt := 91) hx hb dX6_group_82 (by decide) (fun c_82 => ?_) (fun c_82 => ?_)
      · skip
        refine lv_lconst (v := 1) hx hb dX6_group_91 (by decide) ?_
        exact q_retL hQ hE hr hk hst (ra, rb) (by rw [if_pos c_59, if_neg (by rw [c_77]; decide), if_neg c_82]) (trivial) (by rw [if_pos c_59]) dX6_group_92
      · skip
        refine q_ldc2 hE wk_3_135 dX6_group_85 ?_
        refine lv_goto (tgt := 92) hx hb dX6_group_88 (by decide) ?_
        exact q_retL hQ hE hr hk hst (ra, rb) (by rw [if_pos c_59, if_neg (by rw [c_77]; decide), if_pos c_82]) (trivial) (by rw [if_pos c_59]) dX6_group_92
  · skip
    refine lv_aload_n hx hb dX6_group_62 rfl (lv_at hl 1 rfl) ?_
    refine lv_iload hx hb dX6_group_63 (lv_at hl 0 rfl) ?_
    refine q_goL (q_rV hE lk_X6_119 (c_X6_refuseLong l D cI cJ cZ o tp nw th rf rt im ru (ftf (!isJarB p0 || !isMonthB p1) (!isJarB p3) (!decide (0 ≤ p2)) (!decide (p2 ≤ 40))) (ftf_in _ _ _ _) H.size) hst [0, 1] rfl rfl rfl rfl rfl hl.1 ⟨(Nat.le_of_ble_eq_true rfl), (Nat.le_of_ble_eq_true rfl)⟩ (rest := []) rfl (Nat.le_of_ble_eq_true rfl) dX6_group_65 ⟨(Nat.le_of_ble_eq_true rfl), (Nat.le_of_ble_eq_true rfl)⟩) hE hst [0, 1] rfl (fun _ => rfl) (fun (_ : Unit) => [(o, .inr (6, [.ref tp, .ref nw, .ref th, .int im, .ref rf, .ref rt])), (rf, .inl (cI, 7, .inl (bmp ru (ftf (!isJarB p0 || !isMonthB p1) (!isJarB p3) (!decide (0 ≤ p2)) (!decide (p2 ≤ 40)))))), (nw, .inr (1, [.ref j1, .ref j2, .ref mn, .ref lw, .int cut, .int least, .ref sd, .ref sr])), (mn, .inr (2, [.ref qk, .ref qb, .ref qp, .int (nI nq)])), (qk, .inl (cI, 60, .inl ki)), (qb, .inl (cI, 60, .inl bi)), (qp, .inl (cI, 60, .inl pa)), (lw, .inl (cI, 5, .inl la)), (g, .inr (0, [.int se, .int sh, .int sp, .int de, .int po, .ref gn, .ref gd, .ref gr, .ref gs, .int lo])), (gn, .inl (cI, 366, .inl nd)), (rt, .inr (3, [.long ra, .long rb]))]) (fun _ => rfl) (fun _ H locs hF hst => ?_)
    exact q_retL hQ hE hr hk hst (ra, rb) (by rw [if_neg c_59]) (trivial) (by rw [if_neg c_59]) dX6_group_68
def shwI (f : Nat → Bool) : Nat → Int32
  | 0 => 0
  | k + 1 => if f k = true then shwI f k ||| 1 <<< (nI k &&& 31) else shwI f k
theorem shw_t {f : Nat → Bool} {k : Nat} (h : f k = true) : shwI f (k + 1) = shwI f k ||| 1 <<< (nI k &&& 31) := if_pos h
theorem shw_f {f : Nat → Bool} {k : Nat} (h : f k = false) : shwI f (k + 1) = shwI f k := if_neg (by rw [h]; decide)
theorem mv_t {x y : Bool} (h : ¬ b2i x = b2i y) : (x != y) = true := by cases x <;> cases y <;> first | rfl | exact absurd rfl h
theorem mv_f {x y : Bool} (h : b2i x = b2i y) : (x != y) = false := by rw [b2i_inj h]; cases y <;> rfl
set_option maxHeartbeats 4000000 in
set_option maxRecDepth 100000 in
theorem c_X6_shown (l : Launch) (D : va_G) (cI cJ cZ : ClassId) (o : Nat) (tp : Nat) (nw : Nat) (th : Nat) (rf : Nat) (rt : Nat) (im : Int32) (j1 : Nat) (j2 : Nat) (mn : Nat) (lw : Nat) (sd : Nat) (sr : Nat) (cut : Int32) (least : Int32) (qk : Nat) (qb : Nat) (qp : Nat) (nq : Nat) (bi : Nat → Int32) (hn : nq ≤ 60) : CtI l D cI cJ cZ yX6_shown cX6_shown 3 (some .int) 4 [.ref o] [(o, .inr (6, [.ref tp, .ref nw, .ref th, .int im, .ref rf, .ref rt])), (nw, .inr (1, [.ref j1, .ref j2, .ref mn, .ref lw, .int cut, .int least, .ref sd, .ref sr])), (mn, .inr (2, [.ref qk, .ref qb, .ref qp, .int (nI nq)])), (qb, .inl (cI, 60, .inl bi))] (fun (_ : Unit) => shwI (fun kq => decide (least ≤ cntI (fun m => decide (monOf (bi m) = nI kq)) nq)) 12) (fun (_ : Unit) => True) (fun (_ : Unit) => [(o, .inr (6, [.ref tp, .ref nw, .ref th, .int im, .ref rf, .ref rt])), (nw, .inr (1, [.ref j1, .ref j2, .ref mn, .ref lw, .int cut, .int least, .ref sd, .ref sr])), (mn, .inr (2, [.ref qk, .ref qb, .ref qp, .int (nI nq)])), (qb, .inl (cI, 60, .inl bi))]) := by
  refine q_entI (own := RX6) rfl rfl (Nat.le_of_ble_eq_true rfl) ?_
  intro p e s m args below meth c A ls QQ hQ hE hx hb hr hk hin hA hl hst
  have hl : lv_has ls 3 [(0, .ref o)] := hl
  have loop_4 : ∀ (fu : Nat) (kq : Nat), (kq ≤ 12) → (12 - kq) < fu → ∀ (H : Heap) (locs : List Loc) (ls : Array Slot), SS D A s [(o, .inr (6, [.ref tp, .ref nw, .ref th, .int im, .ref rf, .ref rt])), (nw, .inr (1, [.ref j1, .ref j2, .ref mn, .ref lw, .int cut, .int least, .ref sd, .ref sr])), (mn, .inr (2, [.ref qk, .ref qb, .ref qp, .int (nI nq)])), (qb, .inl (cI, 60, .inl bi))] H locs → lv_has ls 3 [(2, .int (nI kq)), (1, .int (shwI (fun kq => decide (least ≤ cntI (fun m => decide (monOf (bi m) = nI kq)) nq)) kq)), (0, .ref o)] → W p l e (rmN 4 0 0) s m args below meth c H locs 0 0 QQ (F0 m 4 ls []) := by
    intro fu
    induction fu with
    | zero =>
      intro kq h1 hn
      exact absurd hn (Nat.not_lt_zero _)
    | succ fu ih =>
      intro kq h1 hn H locs ls hst hl
      refine lv_iload_n hx hb dX6_shown_4 rfl (lv_at hl 0 rfl) ?_
      refine lv_bipush (v := 12) hx hb dX6_shown_5 (by decide) ?_
      refine lv_icmp_ge (tgt := 33) hx hb dX6_shown_7 (by decide) (fun c_7 => ?_) (fun c_7 => ?_)
      · skip
        have hk1 : kq = 12 := Nat.le_antisymm h1 (Nat.le_of_not_lt (fun z => nI_ge z (by decide) c_7))
        subst hk1
        refine lv_iload_n hx hb dX6_shown_33 rfl (lv_at hl 1 rfl) ?_
        exact q_retI hQ hE hr hk hst () (rfl) (trivial) (rfl) dX6_shown_34
      · skip
        have hk1 : kq < 12 := Nat.lt_of_not_le (fun z => c_7 (nI_le z (by omega)))
        refine lv_aload_n hx hb dX6_shown_10 rfl (lv_at hl 2 rfl) ?_
        refine gf_X6_19 hE hst 0 rfl rfl dX6_shown_11 ?_
        refine lv_iload_n hx hb dX6_shown_14 rfl (lv_at hl 0 rfl) ?_
        refine q_goI (q_rNV hE lk_X6_209 (c_X1_isShown l D cI cJ cZ nw j1 j2 mn lw sd sr cut least qk qb qp nq bi (nI kq) (by first | assumption | decide | omega) H.size) hst [1, 2, 3] rfl rfl rfl rfl rfl hl.1 ⟨(Nat.le_of_ble_eq_true rfl), (Nat.le_of_ble_eq_true rfl)⟩ (rest := []) rfl (Nat.le_of_ble_eq_true rfl) dX6_shown_15 ⟨(Nat.le_of_ble_eq_true rfl), (Nat.le_of_ble_eq_true rfl)⟩) hE hst [1, 2, 3] rfl (fun _ => rfl) (fun (_ : Unit) => [(o, .inr (6, [.ref tp, .ref nw, .ref th, .int im, .ref rf, .ref rt])), (nw, .inr (1, [.ref j1, .ref j2, .ref mn, .ref lw, .int cut, .int least, .ref sd, .ref sr])), (mn, .inr (2, [.ref qk, .ref qb, .ref qp, .int (nI nq)])), (qb, .inl (cI, 60, .inl bi))]) (fun _ => rfl) (fun _ H locs hF hst => ?_)
        refine lv_if_eq (tgt := 27) hx hb dX6_shown_18 (by decide) (fun c_18 => ?_) (fun c_18 => ?_)
        · skip
          have c_18 := b2i_f c_18
          have hl : lv_has ls 3 [(2, .int (nI kq)), (1, .int (shwI (fun kq => decide (least ≤ cntI (fun m => decide (monOf (bi m) = nI kq)) nq)) (kq + 1))), (0, .ref o)] := by rw [shw_f (f := fun kq => decide (least ≤ cntI (fun m => decide (monOf (bi m) = nI kq)) nq)) c_18]; exact hl
          refine lv_iinc (v := nI (kq + 1)) (lv' := [(2, .int (nI (kq + 1))), (1, .int (shwI (fun kq => decide (least ≤ cntI (fun m => decide (monOf (bi m) = nI kq)) nq)) (kq + 1))), (0, .ref o)]) hx hb dX6_shown_27 hl (k := 0) rfl (nI_next _) (by decide) rfl (fun ls hl => ?_)
          refine lv_goto (tgt := 4) hx hb dX6_shown_30 (by decide) ?_
          exact ih (kq + 1) (by omega) (by omega) _ _ _ (hst) (lv_sub hl [0, 1, 2] rfl)
        · skip
          have c_18 := b2i_t c_18
          refine lv_iload_n hx hb dX6_shown_21 rfl (lv_at hl 1 rfl) ?_
          refine lv_iconst (v := 1) hx hb dX6_shown_22 (by decide) ?_
          refine lv_iload_n hx hb dX6_shown_23 rfl (lv_at hl 0 rfl) ?_
          refine lv_ishl hx hb dX6_shown_24 ?_
          refine lv_ior hx hb dX6_shown_25 ?_
          refine lv_istore_n (lv' := [(1, .int ((shwI (fun kq => decide (least ≤ cntI (fun m => decide (monOf (bi m) = nI kq)) nq)) kq) ||| (1 <<< ((nI kq) &&& 31)))), (2, .int (nI kq)), (0, .ref o)]) hx hb dX6_shown_26 rfl hl (by decide) rfl (fun ls hl => ?_)
          have hl : lv_has ls 3 [(1, .int (shwI (fun kq => decide (least ≤ cntI (fun m => decide (monOf (bi m) = nI kq)) nq)) (kq + 1))), (2, .int (nI kq)), (0, .ref o)] := by rw [shw_t (f := fun kq => decide (least ≤ cntI (fun m => decide (monOf (bi m) = nI kq)) nq)) c_18]; exact hl
          refine lv_iinc (v := nI (kq + 1)) (lv' := [(2, .int (nI (kq + 1))), (1, .int (shwI (fun kq => decide (least ≤ cntI (fun m => decide (monOf (bi m) = nI kq)) nq)) (kq + 1))), (0, .ref o)]) hx hb dX6_shown_27 hl (k := 1) rfl (nI_next _) (by decide) rfl (fun ls hl => ?_)
          refine lv_goto (tgt := 4) hx hb dX6_shown_30 (by decide) ?_
          exact ih (kq + 1) (by omega) (by omega) _ _ _ (hst) (lv_sub hl [0, 1, 2] rfl)
  refine lv_iconst (v := 0) hx hb dX6_shown_0 (by decide) ?_
  refine lv_istore_n (lv' := [(1, .int 0), (0, .ref o)]) hx hb dX6_shown_1 rfl hl (by decide) rfl (fun ls hl => ?_)
  refine lv_iconst (v := 0) hx hb dX6_shown_2 (by decide) ?_
  refine lv_istore_n (lv' := [(2, .int 0), (1, .int 0), (0, .ref o)]) hx hb dX6_shown_3 rfl hl (by decide) rfl (fun ls hl => ?_)
  exact loop_4 (13) 0 (by decide) (by decide) _ _ _ (hst) (lv_sub hl [0, 1, 2] rfl)
set_option maxHeartbeats 4000000 in
set_option maxRecDepth 100000 in
theorem c_X6_moved (l : Launch) (D : va_G) (cI cJ cZ : ClassId) (o : Nat) (tp : Nat) (nw : Nat) (th : Nat) (rf : Nat) (rt : Nat) (im : Int32) (j1 : Nat) (j2 : Nat) (mn : Nat) (lw : Nat) (sd : Nat) (sr : Nat) (cut : Int32) (least : Int32) (qk : Nat) (qb : Nat) (qp : Nat) (nq : Nat) (n1 : Nat) (d1 : Nat) (r1 : Nat) (s1 : Nat) (n2 : Nat) (d2 : Nat) (r2 : Nat) (s2 : Nat) (se1 : Int32) (sh1 : Int32) (sp1 : Int32) (de1 : Int32) (po1 : Int32) (lo1 : Int32) (se2 : Int32) (sh2 : Int32) (sp2 : Int32) (de2 : Int32) (po2 : Int32) (lo2 : Int32) (nd1 : Nat → Int32) (nd2 : Nat → Int32) (bi : Nat → Int32) (hn : nq ≤ 60) (hbi : ∀ j, j < nq → vp_in (bi j) 366) : CtI l D cI cJ cZ yX6_moved cX6_moved 3 (some .int) 4 [.ref o] [(o, .inr (6, [.ref tp, .ref nw, .ref th, .int im, .ref rf, .ref rt])), (nw, .inr (1, [.ref j1, .ref j2, .ref mn, .ref lw, .int cut, .int least, .ref sd, .ref sr])), (mn, .inr (2, [.ref qk, .ref qb, .ref qp, .int (nI nq)])), (qb, .inl (cI, 60, .inl bi)), (j1, .inr (0, [.int se1, .int sh1, .int sp1, .int de1, .int po1, .ref n1, .ref d1, .ref r1, .ref s1, .int lo1])), (n1, .inl (cI, 366, .inl nd1)), (j2, .inr (0, [.int se2, .int sh2, .int sp2, .int de2, .int po2, .ref n2, .ref d2, .ref r2, .ref s2, .int lo2])), (n2, .inl (cI, 366, .inl nd2))] (fun (_ : Unit) => cntI (fun m => calF cut nd1 bi m != calF cut nd2 bi m) nq) (fun (_ : Unit) => True) (fun (_ : Unit) => [(o, .inr (6, [.ref tp, .ref nw, .ref th, .int im, .ref rf, .ref rt])), (nw, .inr (1, [.ref j1, .ref j2, .ref mn, .ref lw, .int cut, .int least, .ref sd, .ref sr])), (mn, .inr (2, [.ref qk, .ref qb, .ref qp, .int (nI nq)])), (qb, .inl (cI, 60, .inl bi)), (j1, .inr (0, [.int se1, .int sh1, .int sp1, .int de1, .int po1, .ref n1, .ref d1, .ref r1, .ref s1, .int lo1])), (n1, .inl (cI, 366, .inl nd1)), (j2, .inr (0, [.int se2, .int sh2, .int sp2, .int de2, .int po2, .ref n2, .ref d2, .ref r2, .ref s2, .int lo2])), (n2, .inl (cI, 366, .inl nd2))]) := by
  refine q_entI (own := RX6) rfl rfl (Nat.le_of_ble_eq_true rfl) ?_
  intro p e s m args below meth c A ls QQ hQ hE hx hb hr hk hin hA hl hst
  have hl : lv_has ls 3 [(0, .ref o)] := hl
  have loop_4 : ∀ (fu : Nat) (kq : Nat), (kq ≤ nq) → (nq - kq) < fu → ∀ (H : Heap) (locs : List Loc) (ls : Array Slot), SS D A s [(o, .inr (6, [.ref tp, .ref nw, .ref th, .int im, .ref rf, .ref rt])), (nw, .inr (1, [.ref j1, .ref j2, .ref mn, .ref lw, .int cut, .int least, .ref sd, .ref sr])), (mn, .inr (2, [.ref qk, .ref qb, .ref qp, .int (nI nq)])), (qb, .inl (cI, 60, .inl bi)), (j1, .inr (0, [.int se1, .int sh1, .int sp1, .int de1, .int po1, .ref n1, .ref d1, .ref r1, .ref s1, .int lo1])), (n1, .inl (cI, 366, .inl nd1)), (j2, .inr (0, [.int se2, .int sh2, .int sp2, .int de2, .int po2, .ref n2, .ref d2, .ref r2, .ref s2, .int lo2])), (n2, .inl (cI, 366, .inl nd2))] H locs → lv_has ls 3 [(2, .int (nI kq)), (1, .int (cntI (fun m => calF cut nd1 bi m != calF cut nd2 bi m) kq)), (0, .ref o)] → W p l e (rmN 4 0 0) s m args below meth c H locs 0 0 QQ (F0 m 4 ls []) := by
    intro fu
    induction fu with
    | zero =>
      intro kq h1 hn
      exact absurd hn (Nat.not_lt_zero _)
    | succ fu ih =>
      intro kq h1 hn H locs ls hst hl
      refine lv_iload_n hx hb dX6_moved_4 rfl (lv_at hl 0 rfl) ?_
      refine lv_aload_n hx hb dX6_moved_5 rfl (lv_at hl 2 rfl) ?_
      refine gf_X6_19 hE hst 0 rfl rfl dX6_moved_6 ?_
      refine gf_X6_61 hE hst 1 rfl rfl dX6_moved_9 ?_
      refine gf_X6_65 hE hst 2 rfl rfl dX6_moved_12 ?_
      refine lv_icmp_ge (tgt := 62) hx hb dX6_moved_15 (by decide) (fun c_15 => ?_) (fun c_15 => ?_)
      · skip
        have hk1 : nq = kq := Nat.le_antisymm (Nat.le_of_not_lt (fun z => nI_ge z (by omega) c_15)) h1
        subst hk1
        skip
        refine lv_iload_n hx hb dX6_moved_62 rfl (lv_at hl 1 rfl) ?_
        exact q_retI hQ hE hr hk hst () (rfl) (trivial) (rfl) dX6_moved_63
      · skip
        have hk1 : kq < nq := Nat.lt_of_not_le (fun z => c_15 (nI_le z (by omega)))
        refine lv_aload_n hx hb dX6_moved_18 rfl (lv_at hl 2 rfl) ?_
        refine gf_X6_19 hE hst 0 rfl rfl dX6_moved_19 ?_
        refine lv_aload_n hx hb dX6_moved_22 rfl (lv_at hl 2 rfl) ?_
        refine gf_X6_19 hE hst 0 rfl rfl dX6_moved_23 ?_
        refine lv_iconst (v := 0) hx hb dX6_moved_26 (by decide) ?_
        refine q_goR (q_rNV hE lk_X6_93 (c_X1_jarAt l D cI cJ cZ nw j1 j2 mn lw sd sr cut least 0 H.size) hst [1] rfl rfl rfl rfl rfl hl.1 ⟨(Nat.le_of_ble_eq_true rfl), (Nat.le_of_ble_eq_true rfl)⟩ (rest := [.ref nw]) rfl (Nat.le_of_ble_eq_true rfl) dX6_moved_27 ⟨(Nat.le_of_ble_eq_true rfl), (Nat.le_of_ble_eq_true rfl)⟩) hE hst [1] rfl (fun _ => rfl) (fun (_ : Unit) => [(o, .inr (6, [.ref tp, .ref nw, .ref th, .int im, .ref rf, .ref rt])), (nw, .inr (1, [.ref j1, .ref j2, .ref mn, .ref lw, .int cut, .int least, .ref sd, .ref sr])), (mn, .inr (2, [.ref qk, .ref qb, .ref qp, .int (nI nq)])), (qb, .inl (cI, 60, .inl bi)), (j1, .inr (0, [.int se1, .int sh1, .int sp1, .int de1, .int po1, .ref n1, .ref d1, .ref r1, .ref s1, .int lo1])), (n1, .inl (cI, 366, .inl nd1)), (j2, .inr (0, [.int se2, .int sh2, .int sp2, .int de2, .int po2, .ref n2, .ref d2, .ref r2, .ref s2, .int lo2])), (n2, .inl (cI, 366, .inl nd2))]) (fun _ => rfl) (fun _ H locs hF hst => ?_)
        refine q_topR (x' := j1) (if_pos rfl) ?_
        refine lv_iload_n hx hb dX6_moved_30 rfl (lv_at hl 0 rfl) ?_
        refine q_goI (q_rNV hE lk_X6_175 (c_X1_isCalledBy l D cI cJ cZ nw j1 j2 mn lw sd sr cut least qk qb qp (nI nq) j1 n1 d1 r1 s1 se1 sh1 sp1 de1 po1 lo1 nd1 bi kq (by omega) (hbi kq hk1) H.size) hst [1, 2, 3, 4, 5] rfl rfl rfl rfl rfl hl.1 ⟨(Nat.le_of_ble_eq_true rfl), (Nat.le_of_ble_eq_true rfl)⟩ (rest := []) rfl (Nat.le_of_ble_eq_true rfl) dX6_moved_31 ⟨(Nat.le_of_ble_eq_true rfl), (Nat.le_of_ble_eq_true rfl)⟩) hE hst [1, 2, 3, 4, 5] rfl (fun _ => rfl) (fun (_ : Unit) => [(o, .inr (6, [.ref tp, .ref nw, .ref th, .int im, .ref rf, .ref rt])), (nw, .inr (1, [.ref j1, .ref j2, .ref mn, .ref lw, .int cut, .int least, .ref sd, .ref sr])), (mn, .inr (2, [.ref qk, .ref qb, .ref qp, .int (nI nq)])), (qb, .inl (cI, 60, .inl bi)), (j1, .inr (0, [.int se1, .int sh1, .int sp1, .int de1, .int po1, .ref n1, .ref d1, .ref r1, .ref s1, .int lo1])), (n1, .inl (cI, 366, .inl nd1)), (j2, .inr (0, [.int se2, .int sh2, .int sp2, .int de2, .int po2, .ref n2, .ref d2, .ref r2, .ref s2, .int lo2])), (n2, .inl (cI, 366, .inl nd2))]) (fun _ => rfl) (fun _ H locs hF hst => ?_)
        refine lv_aload_n hx hb dX6_moved_34 rfl (lv_at hl 2 rfl) ?_
        refine gf_X6_19 hE hst 0 rfl rfl dX6_moved_35 ?_
        refine lv_aload_n hx hb dX6_moved_38 rfl (lv_at hl 2 rfl) ?_
        refine gf_X6_19 hE hst 0 rfl rfl dX6_moved_39 ?_
        refine lv_iconst (v := 1) hx hb dX6_moved_42 (by decide) ?_
        refine q_goR (q_rNV hE lk_X6_93 (c_X1_jarAt l D cI cJ cZ nw j1 j2 mn lw sd sr cut least 1 H.size) hst [1] rfl rfl rfl rfl rfl hl.1 ⟨(Nat.le_of_ble_eq_true rfl), (Nat.le_of_ble_eq_true rfl)⟩ (rest := [.ref nw, .int (b2i (calF cut nd1 bi kq))]) rfl (Nat.le_of_ble_eq_true rfl) dX6_moved_43 ⟨(Nat.le_of_ble_eq_true rfl), (Nat.le_of_ble_eq_true rfl)⟩) hE hst [1] rfl (fun _ => rfl) (fun (_ : Unit) => [(o, .inr (6, [.ref tp, .ref nw, .ref th, .int im, .ref rf, .ref rt])), (nw, .inr (1, [.ref j1, .ref j2, .ref mn, .ref lw, .int cut, .int least, .ref sd, .ref sr])), (mn, .inr (2, [.ref qk, .ref qb, .ref qp, .int (nI nq)])), (qb, .inl (cI, 60, .inl bi)), (j1, .inr (0, [.int se1, .int sh1, .int sp1, .int de1, .int po1, .ref n1, .ref d1, .ref r1, .ref s1, .int lo1])), (n1, .inl (cI, 366, .inl nd1)), (j2, .inr (0, [.int se2, .int sh2, .int sp2, .int de2, .int po2, .ref n2, .ref d2, .ref r2, .ref s2, .int lo2])), (n2, .inl (cI, 366, .inl nd2))]) (fun _ => rfl) (fun _ H locs hF hst => ?_)
        refine q_topR (x' := j2) (if_neg (by decide)) ?_
        refine lv_iload_n hx hb dX6_moved_46 rfl (lv_at hl 0 rfl) ?_
        refine q_goI (q_rNV hE lk_X6_175 (c_X1_isCalledBy l D cI cJ cZ nw j1 j2 mn lw sd sr cut least qk qb qp (nI nq) j2 n2 d2 r2 s2 se2 sh2 sp2 de2 po2 lo2 nd2 bi kq (by omega) (hbi kq hk1) H.size) hst [1, 2, 3, 6, 7] rfl rfl rfl rfl rfl hl.1 ⟨(Nat.le_of_ble_eq_true rfl), (Nat.le_of_ble_eq_true rfl)⟩ (rest := [.int (b2i (calF cut nd1 bi kq))]) rfl (Nat.le_of_ble_eq_true rfl) dX6_moved_47 ⟨(Nat.le_of_ble_eq_true rfl), (Nat.le_of_ble_eq_true rfl)⟩) hE hst [1, 2, 3, 6, 7] rfl (fun _ => rfl) (fun (_ : Unit) => [(o, .inr (6, [.ref tp, .ref nw, .ref th, .int im, .ref rf, .ref rt])), (nw, .inr (1, [.ref j1, .ref j2, .ref mn, .ref lw, .int cut, .int least, .ref sd, .ref sr])), (mn, .inr (2, [.ref qk, .ref qb, .ref qp, .int (nI nq)])), (qb, .inl (cI, 60, .inl bi)), (j1, .inr (0, [.int se1, .int sh1, .int sp1, .int de1, .int po1, .ref n1, .ref d1, .ref r1, .ref s1, .int lo1])), (n1, .inl (cI, 366, .inl nd1)), (j2, .inr (0, [.int se2, .int sh2, .int sp2, .int de2, .int po2, .ref n2, .ref d2, .ref r2, .ref s2, .int lo2])), (n2, .inl (cI, 366, .inl nd2))]) (fun _ => rfl) (fun _ H locs hF hst => ?_)
        refine lv_icmp_eq (tgt := 56) hx hb dX6_moved_50 (by decide) (fun c_50 => ?_) (fun c_50 => ?_)
        · skip
          have hl : lv_has ls 3 [(2, .int (nI kq)), (1, .int (cntI (fun m => calF cut nd1 bi m != calF cut nd2 bi m) (kq + 1))), (0, .ref o)] := by rw [cnt_f (f := fun m => calF cut nd1 bi m != calF cut nd2 bi m) (mv_f c_50)]; exact hl
          refine lv_iinc (v := nI (kq + 1)) (lv' := [(2, .int (nI (kq + 1))), (1, .int (cntI (fun m => calF cut nd1 bi m != calF cut nd2 bi m) (kq + 1))), (0, .ref o)]) hx hb dX6_moved_56 hl (k := 0) rfl (nI_next _) (by decide) rfl (fun ls hl => ?_)
          refine lv_goto (tgt := 4) hx hb dX6_moved_59 (by decide) ?_
          exact ih (kq + 1) (by omega) (by omega) _ _ _ (hst) (lv_sub hl [0, 1, 2] rfl)
        · skip
          refine lv_iinc (v := (cntI (fun m => calF cut nd1 bi m != calF cut nd2 bi m) kq) + 1) (lv' := [(1, .int ((cntI (fun m => calF cut nd1 bi m != calF cut nd2 bi m) kq) + 1)), (2, .int (nI kq)), (0, .ref o)]) hx hb dX6_moved_53 hl (k := 1) rfl (rfl) (by decide) rfl (fun ls hl => ?_)
          have hl : lv_has ls 3 [(1, .int (cntI (fun m => calF cut nd1 bi m != calF cut nd2 bi m) (kq + 1))), (2, .int (nI kq)), (0, .ref o)] := by rw [cnt_t (f := fun m => calF cut nd1 bi m != calF cut nd2 bi m) (mv_t c_50)]; exact hl
          refine lv_iinc (v := nI (kq + 1)) (lv' := [(2, .int (nI (kq + 1))), (1, .int (cntI (fun m => calF cut nd1 bi m != calF cut nd2 bi m) (kq + 1))), (0, .ref o)]) hx hb dX6_moved_56 hl (k := 1) rfl (nI_next _) (by decide) rfl (fun ls hl => ?_)
          refine lv_goto (tgt := 4) hx hb dX6_moved_59 (by decide) ?_
          exact ih (kq + 1) (by omega) (by omega) _ _ _ (hst) (lv_sub hl [0, 1, 2] rfl)
  refine lv_iconst (v := 0) hx hb dX6_moved_0 (by decide) ?_
  refine lv_istore_n (lv' := [(1, .int 0), (0, .ref o)]) hx hb dX6_moved_1 rfl hl (by decide) rfl (fun ls hl => ?_)
  refine lv_iconst (v := 0) hx hb dX6_moved_2 (by decide) ?_
  refine lv_istore_n (lv' := [(2, .int 0), (1, .int 0), (0, .ref o)]) hx hb dX6_moved_3 rfl hl (by decide) rfl (fun ls hl => ?_)
  exact loop_4 (nq + 1) 0 (Nat.zero_le _) (by omega) _ _ _ (hst) (lv_sub hl [0, 1, 2] rfl)
set_option maxHeartbeats 4000000 in
set_option maxRecDepth 100000 in
theorem c_X6_cuts (l : Launch) (D : va_G) (cI cJ cZ : ClassId) (o : Nat) (tp : Nat) (nw : Nat) (th : Nat) (rf : Nat) (rt : Nat) (im : Int32) (ru : Nat → Int32) (j1 : Nat) (j2 : Nat) (mn : Nat) (lw : Nat) (sd : Nat) (sr : Nat) (cut : Int32) (least : Int32) (qk : Nat) (qb : Nat) (qp : Nat) (nq : Nat) (g : Nat) (gn : Nat) (gd : Nat) (gr : Nat) (gs : Nat) (se : Int32) (sh : Int32) (sp : Int32) (de : Int32) (po : Int32) (lo : Int32) (nd : Nat → Int32) (bi : Nat → Int32) (p0 : Int32) (p1 : Int32) (hsel : isJarB p0 = true → (if p0 = 0 then j1 else j2) = g) (hn : nq ≤ 60) (hbi : ∀ j, j < nq → vp_in (bi j) 366) : CtI l D cI cJ cZ yX6_cuts cX6_cuts 4 (some .int) 5 [.ref o, .int p0, .int p1] [(o, .inr (6, [.ref tp, .ref nw, .ref th, .int im, .ref rf, .ref rt])), (rf, .inl (cI, 7, .inl ru)), (nw, .inr (1, [.ref j1, .ref j2, .ref mn, .ref lw, .int cut, .int least, .ref sd, .ref sr])), (mn, .inr (2, [.ref qk, .ref qb, .ref qp, .int (nI nq)])), (qb, .inl (cI, 60, .inl bi)), (g, .inr (0, [.int se, .int sh, .int sp, .int de, .int po, .ref gn, .ref gd, .ref gr, .ref gs, .int lo])), (gn, .inl (cI, 366, .inl nd))] (fun (_ : Unit) => if ftf (!isJarB p0) false (!decide (0 ≤ p1)) (!decide (p1 ≤ 60)) = 0 then lcR nd bi nq p1 else (ftf (!isJarB p0) false (!decide (0 ≤ p1)) (!decide (p1 ≤ 60)))) (fun (_ : Unit) => True) (fun (_ : Unit) => [(o, .inr (6, [.ref tp, .ref nw, .ref th, .int im, .ref rf, .ref rt])), (rf, .inl (cI, 7, .inl (if ftf (!isJarB p0) false (!decide (0 ≤ p1)) (!decide (p1 ≤ 60)) = 0 then ru else bmp ru (ftf (!isJarB p0) false (!decide (0 ≤ p1)) (!decide (p1 ≤ 60)))))), (nw, .inr (1, [.ref j1, .ref j2, .ref mn, .ref lw, .int cut, .int least, .ref sd, .ref sr])), (mn, .inr (2, [.ref qk, .ref qb, .ref qp, .int (nI nq)])), (qb, .inl (cI, 60, .inl bi)), (g, .inr (0, [.int se, .int sh, .int sp, .int de, .int po, .ref gn, .ref gd, .ref gr, .ref gs, .int lo])), (gn, .inl (cI, 366, .inl nd))]) := by
  refine q_entI (own := RX6) rfl rfl (Nat.le_of_ble_eq_true rfl) ?_
  intro p e s m args below meth c A ls QQ hQ hE hx hb hr hk hin hA hl hst
  have hl : lv_has ls 4 [(0, .ref o), (1, .int p0), (2, .int p1)] := hl
  suffices kJ : ∀ (H : Heap) (locs : List Loc), SS D A s [(o, .inr (6, [.ref tp, .ref nw, .ref th, .int im, .ref rf, .ref rt])), (rf, .inl (cI, 7, .inl ru)), (nw, .inr (1, [.ref j1, .ref j2, .ref mn, .ref lw, .int cut, .int least, .ref sd, .ref sr])), (mn, .inr (2, [.ref qk, .ref qb, .ref qp, .int (nI nq)])), (qb, .inl (cI, 60, .inl bi)), (g, .inr (0, [.int se, .int sh, .int sp, .int de, .int po, .ref gn, .ref gd, .ref gr, .ref gs, .int lo])), (gn, .inl (cI, 366, .inl nd))] H locs → W p l e (rmN 5 0 0) s m args below meth c H locs 0 0 QQ (F0 m 12 ls [.int (b2i (!isJarB p0))]) by
    refine lv_iload_n hx hb dX6_cuts_0 rfl (lv_at hl 1 rfl) ?_
    refine q_goI (q_rS hE lk_X6_90 (c_X6_isJar l D cI cJ cZ p0 s.heap.size) hst [] rfl rfl rfl hl.1 ⟨(Nat.le_of_ble_eq_true rfl), (Nat.le_of_ble_eq_true rfl)⟩ (rest := []) rfl (Nat.le_of_ble_eq_true rfl) dX6_cuts_1 ⟨(Nat.le_of_ble_eq_true rfl), (Nat.le_of_ble_eq_true rfl)⟩) hE hst [] rfl (fun _ => rfl) (fun (_ : Unit) => [(o, .inr (6, [.ref tp, .ref nw, .ref th, .int im, .ref rf, .ref rt])), (rf, .inl (cI, 7, .inl ru)), (nw, .inr (1, [.ref j1, .ref j2, .ref mn, .ref lw, .int cut, .int least, .ref sd, .ref sr])), (mn, .inr (2, [.ref qk, .ref qb, .ref qp, .int (nI nq)])), (qb, .inl (cI, 60, .inl bi)), (g, .inr (0, [.int se, .int sh, .int sp, .int de, .int po, .ref gn, .ref gd, .ref gr, .ref gs, .int lo])), (gn, .inl (cI, 366, .inl nd))]) (fun _ => rfl) (fun _ H locs hF hst => ?_)
    refine lv_if_ne (tgt := 11) hx hb dX6_cuts_4 (by decide) (fun c_4 => ?_) (fun c_4 => ?_)
    · skip
      have c_4 := b2i_t c_4
      refine lv_iconst (v := 0) hx hb dX6_cuts_11 (by decide) ?_
      have kJ := kJ _ _ hst
      rw [show (b2i (!isJarB p0)) = 0 from (by first | (rw [c_4]; done) | (rw [c_4]; rfl))] at kJ
      exact kJ
    · skip
      have c_4 := b2i_f c_4
      refine lv_iconst (v := 1) hx hb dX6_cuts_7 (by decide) ?_
      refine lv_goto (tgt := 12) hx hb dX6_cuts_8 (by decide) ?_
      have kJ := kJ _ _ hst
      rw [show (b2i (!isJarB p0)) = 1 from (by first | (rw [c_4]; done) | (rw [c_4]; rfl))] at kJ
      exact kJ
  intro H locs hst
  refine lv_iconst (v := 0) hx hb dX6_cuts_12 (by decide) ?_
  suffices kJ : ∀ (H : Heap) (locs : List Loc), SS D A s [(o, .inr (6, [.ref tp, .ref nw, .ref th, .int im, .ref rf, .ref rt])), (rf, .inl (cI, 7, .inl ru)), (nw, .inr (1, [.ref j1, .ref j2, .ref mn, .ref lw, .int cut, .int least, .ref sd, .ref sr])), (mn, .inr (2, [.ref qk, .ref qb, .ref qp, .int (nI nq)])), (qb, .inl (cI, 60, .inl bi)), (g, .inr (0, [.int se, .int sh, .int sp, .int de, .int po, .ref gn, .ref gd, .ref gr, .ref gs, .int lo])), (gn, .inl (cI, 366, .inl nd))] H locs → W p l e (rmN 5 0 0) s m args below meth c H locs 0 0 QQ (F0 m 22 ls [.int (b2i (!decide (0 ≤ p1))), .int 0, .int (b2i (!isJarB p0))]) by
    refine lv_iload_n hx hb dX6_cuts_13 rfl (lv_at hl 2 rfl) ?_
    refine lv_if_ge (tgt := 21) hx hb dX6_cuts_14 (by decide) (fun c_14 => ?_) (fun c_14 => ?_)
    · skip
      refine lv_iconst (v := 0) hx hb dX6_cuts_21 (by decide) ?_
      have kJ := kJ _ _ hst
      rw [show (b2i (!decide (0 ≤ p1))) = 0 from (by first | (rw [decide_eq_true c_14]; done) | (rw [decide_eq_true c_14]; rfl))] at kJ
      exact kJ
    · skip
      refine lv_iconst (v := 1) hx hb dX6_cuts_17 (by decide) ?_
      refine lv_goto (tgt := 22) hx hb dX6_cuts_18 (by decide) ?_
      have kJ := kJ _ _ hst
      rw [show (b2i (!decide (0 ≤ p1))) = 1 from (by first | (rw [decide_eq_false c_14]; done) | (rw [decide_eq_false c_14]; rfl))] at kJ
      exact kJ
  intro H locs hst
  suffices kJ : ∀ (H : Heap) (locs : List Loc), SS D A s [(o, .inr (6, [.ref tp, .ref nw, .ref th, .int im, .ref rf, .ref rt])), (rf, .inl (cI, 7, .inl ru)), (nw, .inr (1, [.ref j1, .ref j2, .ref mn, .ref lw, .int cut, .int least, .ref sd, .ref sr])), (mn, .inr (2, [.ref qk, .ref qb, .ref qp, .int (nI nq)])), (qb, .inl (cI, 60, .inl bi)), (g, .inr (0, [.int se, .int sh, .int sp, .int de, .int po, .ref gn, .ref gd, .ref gr, .ref gs, .int lo])), (gn, .inl (cI, 366, .inl nd))] H locs → W p l e (rmN 5 0 0) s m args below meth c H locs 0 0 QQ (F0 m 33 ls [.int (b2i (!decide (p1 ≤ 60))), .int (b2i (!decide (0 ≤ p1))), .int 0, .int (b2i (!isJarB p0))]) by
    refine lv_iload_n hx hb dX6_cuts_22 rfl (lv_at hl 2 rfl) ?_
    refine lv_bipush (v := 60) hx hb dX6_cuts_23 (by decide) ?_
    refine lv_icmp_le (tgt := 32) hx hb dX6_cuts_25 (by decide) (fun c_25 => ?_) (fun c_25 => ?_)
    · skip
      refine lv_iconst (v := 0) hx hb dX6_cuts_32 (by decide) ?_
      have kJ := kJ _ _ hst
      rw [show (b2i (!decide (p1 ≤ 60))) = 0 from (by first | (rw [decide_eq_true c_25]; done) | (rw [decide_eq_true c_25]; rfl))] at kJ
      exact kJ
    · skip
      refine lv_iconst (v := 1) hx hb dX6_cuts_28 (by decide) ?_
      refine lv_goto (tgt := 33) hx hb dX6_cuts_29 (by decide) ?_
      have kJ := kJ _ _ hst
      rw [show (b2i (!decide (p1 ≤ 60))) = 1 from (by first | (rw [decide_eq_false c_25]; done) | (rw [decide_eq_false c_25]; rfl))] at kJ
      exact kJ
  intro H locs hst
  refine q_goI (q_rS hE lk_X6_45 (c_X6_firstThatFits l D cI cJ cZ (!isJarB p0) false (!decide (0 ≤ p1)) (!decide (p1 ≤ 60)) H.size) hst [] rfl rfl rfl hl.1 ⟨(Nat.le_of_ble_eq_true rfl), (Nat.le_of_ble_eq_true rfl)⟩ (rest := []) rfl (Nat.le_of_ble_eq_true rfl) dX6_cuts_33 ⟨(Nat.le_of_ble_eq_true rfl), (Nat.le_of_ble_eq_true rfl)⟩) hE hst [] rfl (fun _ => rfl) (fun (_ : Unit) => [(o, .inr (6, [.ref tp, .ref nw, .ref th, .int im, .ref rf, .ref rt])), (rf, .inl (cI, 7, .inl ru)), (nw, .inr (1, [.ref j1, .ref j2, .ref mn, .ref lw, .int cut, .int least, .ref sd, .ref sr])), (mn, .inr (2, [.ref qk, .ref qb, .ref qp, .int (nI nq)])), (qb, .inl (cI, 60, .inl bi)), (g, .inr (0, [.int se, .int sh, .int sp, .int de, .int po, .ref gn, .ref gd, .ref gr, .ref gs, .int lo])), (gn, .inl (cI, 366, .inl nd))]) (fun _ => rfl) (fun _ H locs hF hst => ?_)
  refine lv_istore_n (lv' := [(3, .int (ftf (!isJarB p0) false (!decide (0 ≤ p1)) (!decide (p1 ≤ 60)))), (0, .ref o), (1, .int p0), (2, .int p1)]) hx hb dX6_cuts_36 rfl hl (by decide) rfl (fun ls hl => ?_)
  refine lv_iload_n hx hb dX6_cuts_37 rfl (lv_at hl 0 rfl) ?_
  refine lv_if_eq (tgt := 47) hx hb dX6_cuts_38 (by decide) (fun c_38 => ?_) (fun c_38 => ?_)
  · skip
    obtain ⟨f1, f2, f3, f4⟩ := ftf_1 c_38
    have hjr := not_f f1
    refine lv_aload_n hx hb dX6_cuts_47 rfl (lv_at hl 1 rfl) ?_
    refine gf_X6_19 hE hst 0 rfl rfl dX6_cuts_48 ?_
    refine lv_aload_n hx hb dX6_cuts_51 rfl (lv_at hl 1 rfl) ?_
    refine gf_X6_19 hE hst 0 rfl rfl dX6_cuts_52 ?_
    refine lv_iload_n hx hb dX6_cuts_55 rfl (lv_at hl 2 rfl) ?_
    refine q_goR (q_rNV hE lk_X6_93 (c_X1_jarAt l D cI cJ cZ nw j1 j2 mn lw sd sr cut least p0 H.size) hst [2] rfl rfl rfl rfl rfl hl.1 ⟨(Nat.le_of_ble_eq_true rfl), (Nat.le_of_ble_eq_true rfl)⟩ (rest := [.ref nw]) rfl (Nat.le_of_ble_eq_true rfl) dX6_cuts_56 ⟨(Nat.le_of_ble_eq_true rfl), (Nat.le_of_ble_eq_true rfl)⟩) hE hst [2] rfl (fun _ => rfl) (fun (_ : Unit) => [(o, .inr (6, [.ref tp, .ref nw, .ref th, .int im, .ref rf, .ref rt])), (rf, .inl (cI, 7, .inl ru)), (nw, .inr (1, [.ref j1, .ref j2, .ref mn, .ref lw, .int cut, .int least, .ref sd, .ref sr])), (mn, .inr (2, [.ref qk, .ref qb, .ref qp, .int (nI nq)])), (qb, .inl (cI, 60, .inl bi)), (g, .inr (0, [.int se, .int sh, .int sp, .int de, .int po, .ref gn, .ref gd, .ref gr, .ref gs, .int lo])), (gn, .inl (cI, 366, .inl nd))]) (fun _ => rfl) (fun _ H locs hF hst => ?_)
    refine q_topR (x' := g) (hsel hjr) ?_
    refine lv_iload_n hx hb dX6_cuts_59 rfl (lv_at hl 3 rfl) ?_
    refine q_goI (q_rNV hE lk_X6_221 (c_X1_leastCutFor l D cI cJ cZ nw j1 j2 mn lw sd sr cut least qk qb qp nq g gn gd gr gs se sh sp de po lo nd bi p1 (by first | assumption | decide | omega) (by first | assumption | decide | omega) H.size) hst [2, 3, 4, 5, 6] rfl rfl rfl rfl rfl hl.1 ⟨(Nat.le_of_ble_eq_true rfl), (Nat.le_of_ble_eq_true rfl)⟩ (rest := []) rfl (Nat.le_of_ble_eq_true rfl) dX6_cuts_60 ⟨(Nat.le_of_ble_eq_true rfl), (Nat.le_of_ble_eq_true rfl)⟩) hE hst [2, 3, 4, 5, 6] rfl (fun _ => rfl) (fun (_ : Unit) => [(o, .inr (6, [.ref tp, .ref nw, .ref th, .int im, .ref rf, .ref rt])), (rf, .inl (cI, 7, .inl ru)), (nw, .inr (1, [.ref j1, .ref j2, .ref mn, .ref lw, .int cut, .int least, .ref sd, .ref sr])), (mn, .inr (2, [.ref qk, .ref qb, .ref qp, .int (nI nq)])), (qb, .inl (cI, 60, .inl bi)), (g, .inr (0, [.int se, .int sh, .int sp, .int de, .int po, .ref gn, .ref gd, .ref gr, .ref gs, .int lo])), (gn, .inl (cI, 366, .inl nd))]) (fun _ => rfl) (fun _ H locs hF hst => ?_)
    exact q_retI hQ hE hr hk hst () (by rw [if_pos c_38]) (trivial) (by rw [if_pos c_38]) dX6_cuts_63
  · skip
    refine lv_aload_n hx hb dX6_cuts_41 rfl (lv_at hl 1 rfl) ?_
    refine lv_iload_n hx hb dX6_cuts_42 rfl (lv_at hl 0 rfl) ?_
    refine q_goI (q_rV hE lk_X6_49 (c_X6_refuse l D cI cJ cZ o tp nw th rf rt im ru (ftf (!isJarB p0) false (!decide (0 ≤ p1)) (!decide (p1 ≤ 60))) (ftf_in _ _ _ _) H.size) hst [0, 1] rfl rfl rfl rfl rfl hl.1 ⟨(Nat.le_of_ble_eq_true rfl), (Nat.le_of_ble_eq_true rfl)⟩ (rest := []) rfl (Nat.le_of_ble_eq_true rfl) dX6_cuts_43 ⟨(Nat.le_of_ble_eq_true rfl), (Nat.le_of_ble_eq_true rfl)⟩) hE hst [0, 1] rfl (fun _ => rfl) (fun (_ : Unit) => [(o, .inr (6, [.ref tp, .ref nw, .ref th, .int im, .ref rf, .ref rt])), (rf, .inl (cI, 7, .inl (bmp ru (ftf (!isJarB p0) false (!decide (0 ≤ p1)) (!decide (p1 ≤ 60)))))), (nw, .inr (1, [.ref j1, .ref j2, .ref mn, .ref lw, .int cut, .int least, .ref sd, .ref sr])), (mn, .inr (2, [.ref qk, .ref qb, .ref qp, .int (nI nq)])), (qb, .inl (cI, 60, .inl bi)), (g, .inr (0, [.int se, .int sh, .int sp, .int de, .int po, .ref gn, .ref gd, .ref gr, .ref gs, .int lo])), (gn, .inl (cI, 366, .inl nd))]) (fun _ => rfl) (fun _ H locs hF hst => ?_)
    exact q_retI hQ hE hr hk hst () (by rw [if_neg c_38]) (trivial) (by rw [if_neg c_38]) dX6_cuts_46
def couI (x y u w p : Int32) : Int32 := if p = 0 then x else if p = 1 then y else if p = 2 then u else if p = 3 then w else -9
set_option maxHeartbeats 4000000 in
set_option maxRecDepth 100000 in
theorem c_X6_count (l : Launch) (D : va_G) (cI cJ cZ : ClassId) (o : Nat) (tp : Nat) (nw : Nat) (th : Nat) (rf : Nat) (rt : Nat) (im : Int32) (ru : Nat → Int32) (q : Nat) (tl : Int32) (tk : Int32) (tbd : Int32) (tpy : Int32) (j1 : Nat) (j2 : Nat) (mn : Nat) (lw : Nat) (sd : Nat) (sr : Nat) (cut : Int32) (least : Int32) (qk : Nat) (qb : Nat) (qp : Nat) (nq : Nat) (n1 : Nat) (d1 : Nat) (r1 : Nat) (s1 : Nat) (n2 : Nat) (d2 : Nat) (r2 : Nat) (s2 : Nat) (se1 : Int32) (sh1 : Int32) (sp1 : Int32) (de1 : Int32) (po1 : Int32) (lo1 : Int32) (se2 : Int32) (sh2 : Int32) (sp2 : Int32) (de2 : Int32) (po2 : Int32) (lo2 : Int32) (nd1 : Nat → Int32) (nd2 : Nat → Int32) (ki : Nat → Int32) (bi : Nat → Int32) (p0 : Int32) (hn : nq ≤ 60) (hbi : ∀ j, j < nq → vp_in (bi j) 366) : CtI l D cI cJ cZ yX6_count cX6_count 2 (some .int) 4 [.ref o, .int p0] [(o, .inr (6, [.ref tp, .ref nw, .ref th, .int im, .ref rf, .ref rt])), (rf, .inl (cI, 7, .inl ru)), (tp, .inr (5, [.ref q, .int tl, .int tk, .int tbd, .int tpy])), (nw, .inr (1, [.ref j1, .ref j2, .ref mn, .ref lw, .int cut, .int least, .ref sd, .ref sr])), (mn, .inr (2, [.ref qk, .ref qb, .ref qp, .int (nI nq)])), (qk, .inl (cI, 60, .inl ki)), (qb, .inl (cI, 60, .inl bi)), (j1, .inr (0, [.int se1, .int sh1, .int sp1, .int de1, .int po1, .ref n1, .ref d1, .ref r1, .ref s1, .int lo1])), (n1, .inl (cI, 366, .inl nd1)), (j2, .inr (0, [.int se2, .int sh2, .int sp2, .int de2, .int po2, .ref n2, .ref d2, .ref r2, .ref s2, .int lo2])), (n2, .inl (cI, 366, .inl nd2))] (fun (_ : Unit) => if p0 ≤ 10 then couI (nI nq) (cntI (fun m => hsB (svF cut nd1 ki bi m)) nq) (cntI (fun m => hsB (svF cut nd2 ki bi m)) nq) tl p0 else if 16 < p0 then couI (nI nq) (cntI (fun m => hsB (svF cut nd1 ki bi m)) nq) (cntI (fun m => hsB (svF cut nd2 ki bi m)) nq) tl p0 else atI 7 ru (p0 - 10)) (fun (_ : Unit) => True) (fun (_ : Unit) => [(o, .inr (6, [.ref tp, .ref nw, .ref th, .int im, .ref rf, .ref rt])), (rf, .inl (cI, 7, .inl ru)), (tp, .inr (5, [.ref q, .int tl, .int tk, .int tbd, .int tpy])), (nw, .inr (1, [.ref j1, .ref j2, .ref mn, .ref lw, .int cut, .int least, .ref sd, .ref sr])), (mn, .inr (2, [.ref qk, .ref qb, .ref qp, .int (nI nq)])), (qk, .inl (cI, 60, .inl ki)), (qb, .inl (cI, 60, .inl bi)), (j1, .inr (0, [.int se1, .int sh1, .int sp1, .int de1, .int po1, .ref n1, .ref d1, .ref r1, .ref s1, .int lo1])), (n1, .inl (cI, 366, .inl nd1)), (j2, .inr (0, [.int se2, .int sh2, .int sp2, .int de2, .int po2, .ref n2, .ref d2, .ref r2, .ref s2, .int lo2])), (n2, .inl (cI, 366, .inl nd2))]) := by
  refine q_entI (own := RX6) rfl rfl (Nat.le_of_ble_eq_true rfl) ?_
  intro p e s m args below meth c A ls QQ hQ hE hx hb hr hk hin hA hl hst
  have hl : lv_has ls 2 [(0, .ref o), (1, .int p0)] := hl
  refine lv_iload_n hx hb dX6_count_0 rfl (lv_at hl 1 rfl) ?_
  refine lv_bipush (v := 10) hx hb dX6_count_1 (by decide) ?_
  refine lv_icmp_le (tgt := 24) hx hb dX6_count_3 (by decide) (fun c_3 => ?_) (fun c_3 => ?_)
  · skip
    refine lv_iload_n hx hb dX6_count_24 rfl (lv_at hl 1 rfl) ?_
    by_cases c_25_0 : p0 = 0
    · skip
      refine lv_tableIn (off := 31) (tgt := 56) hx hb dX6_count_25 (by rw [c_25_0]; decide) (by rw [c_25_0]; decide) (by rw [c_25_0]; rfl) (by decide) ?_
      refine lv_aload_n hx hb dX6_count_56 rfl (lv_at hl 0 rfl) ?_
      refine gf_X6_19 hE hst 0 rfl rfl dX6_count_57 ?_
      refine gf_X6_61 hE hst 3 rfl rfl dX6_count_60 ?_
      refine gf_X6_65 hE hst 4 rfl rfl dX6_count_63 ?_
      exact q_retI hQ hE hr hk hst () (by rw [if_pos c_3, couI, if_pos c_25_0]) (trivial) (rfl) dX6_count_66
    by_cases c_25_1 : p0 = 1
    · skip
      refine lv_tableIn (off := 42) (tgt := 67) hx hb dX6_count_25 (by rw [c_25_1]; decide) (by rw [c_25_1]; decide) (by rw [c_25_1]; rfl) (by decide) ?_
      refine lv_aload_n hx hb dX6_count_67 rfl (lv_at hl 0 rfl) ?_
      refine gf_X6_19 hE hst 0 rfl rfl dX6_count_68 ?_
      refine lv_aload_n hx hb dX6_count_71 rfl (lv_at hl 0 rfl) ?_
      refine gf_X6_19 hE hst 0 rfl rfl dX6_count_72 ?_
      refine lv_iconst (v := 0) hx hb dX6_count_75 (by decide) ?_
      refine q_goR (q_rNV hE lk_X6_93 (c_X1_jarAt l D cI cJ cZ nw j1 j2 mn lw sd sr cut least 0 s.heap.size) hst [3] rfl rfl rfl rfl rfl hl.1 ⟨(Nat.le_of_ble_eq_true rfl), (Nat.le_of_ble_eq_true rfl)⟩ (rest := [.ref nw]) rfl (Nat.le_of_ble_eq_true rfl) dX6_count_76 ⟨(Nat.le_of_ble_eq_true rfl), (Nat.le_of_ble_eq_true rfl)⟩) hE hst [3] rfl (fun _ => rfl) (fun (_ : Unit) => [(o, .inr (6, [.ref tp, .ref nw, .ref th, .int im, .ref rf, .ref rt])), (rf, .inl (cI, 7, .inl ru)), (tp, .inr (5, [.ref q, .int tl, .int tk, .int tbd, .int tpy])), (nw, .inr (1, [.ref j1, .ref j2, .ref mn, .ref lw, .int cut, .int least, .ref sd, .ref sr])), (mn, .inr (2, [.ref qk, .ref qb, .ref qp, .int (nI nq)])), (qk, .inl (cI, 60, .inl ki)), (qb, .inl (cI, 60, .inl bi)), (j1, .inr (0, [.int se1, .int sh1, .int sp1, .int de1, .int po1, .ref n1, .ref d1, .ref r1, .ref s1, .int lo1])), (n1, .inl (cI, 366, .inl nd1)), (j2, .inr (0, [.int se2, .int sh2, .int sp2, .int de2, .int po2, .ref n2, .ref d2, .ref r2, .ref s2, .int lo2])), (n2, .inl (cI, 366, .inl nd2))]) (fun _ => rfl) (fun _ H locs hF hst => ?_)
      refine q_topR (x' := j1) (if_pos rfl) ?_
      refine q_goI (q_rNV hE lk_X6_228 (c_X1_menWhoServed l D cI cJ cZ nw j1 j2 mn lw sd sr cut least qk qb qp nq j1 n1 d1 r1 s1 se1 sh1 sp1 de1 po1 lo1 nd1 ki bi (by first | assumption | decide | omega) (by first | assumption | decide | omega) H.size) hst [3, 4, 5, 6, 7, 8] rfl rfl rfl rfl rfl hl.1 ⟨(Nat.le_of_ble_eq_true rfl), (Nat.le_of_ble_eq_true rfl)⟩ (rest := []) rfl (Nat.le_of_ble_eq_true rfl) dX6_count_79 ⟨(Nat.le_of_ble_eq_true rfl), (Nat.le_of_ble_eq_true rfl)⟩) hE hst [3, 4, 5, 6, 7, 8] rfl (fun _ => rfl) (fun (_ : Unit) => [(o, .inr (6, [.ref tp, .ref nw, .ref th, .int im, .ref rf, .ref rt])), (rf, .inl (cI, 7, .inl ru)), (tp, .inr (5, [.ref q, .int tl, .int tk, .int tbd, .int tpy])), (nw, .inr (1, [.ref j1, .ref j2, .ref mn, .ref lw, .int cut, .int least, .ref sd, .ref sr])), (mn, .inr (2, [.ref qk, .ref qb, .ref qp, .int (nI nq)])), (qk, .inl (cI, 60, .inl ki)), (qb, .inl (cI, 60, .inl bi)), (j1, .inr (0, [.int se1, .int sh1, .int sp1, .int de1, .int po1, .ref n1, .ref d1, .ref r1, .ref s1, .int lo1])), (n1, .inl (cI, 366, .inl nd1)), (j2, .inr (0, [.int se2, .int sh2, .int sp2, .int de2, .int po2, .ref n2, .ref d2, .ref r2, .ref s2, .int lo2])), (n2, .inl (cI, 366, .inl nd2))]) (fun _ => rfl) (fun _ H locs hF hst => ?_)
      exact q_retI hQ hE hr hk hst () (by rw [if_pos c_3, couI, if_neg c_25_0, if_pos c_25_1]) (trivial) (rfl) dX6_count_82
    by_cases c_25_2 : p0 = 2
    · skip
      refine lv_tableIn (off := 58) (tgt := 83) hx hb dX6_count_25 (by rw [c_25_2]; decide) (by rw [c_25_2]; decide) (by rw [c_25_2]; rfl) (by decide) ?_
      refine lv_aload_n hx hb dX6_count_83 rfl (lv_at hl 0 rfl) ?_
      refine gf_X6_19 hE hst 0 rfl rfl dX6_count_84 ?_
      refine lv_aload_n hx hb dX6_count_87 rfl (lv_at hl 0 rfl) ?_
      refine gf_X6_19 hE hst 0 rfl rfl dX6_count_88 ?_
      refine lv_iconst (v := 1) hx hb dX6_count_91 (by decide) ?_
      refine q_goR (q_rNV hE lk_X6_93 (c_X1_jarAt l D cI cJ cZ nw j1 j2 mn lw sd sr cut least 1 s.heap.size) hst [3] rfl rfl rfl rfl rfl hl.1 ⟨(Nat.le_of_ble_eq_true rfl), (Nat.le_of_ble_eq_true rfl)⟩ (rest := [.ref nw]) rfl (Nat.le_of_ble_eq_true rfl) dX6_count_92 ⟨(Nat.le_of_ble_eq_true rfl), (Nat.le_of_ble_eq_true rfl)⟩) hE hst [3] rfl (fun _ => rfl) (fun (_ : Unit) => [(o, .inr (6, [.ref tp, .ref nw, .ref th, .int im, .ref rf, .ref rt])), (rf, .inl (cI, 7, .inl ru)), (tp, .inr (5, [.ref q, .int tl, .int tk, .int tbd, .int tpy])), (nw, .inr (1, [.ref j1, .ref j2, .ref mn, .ref lw, .int cut, .int least, .ref sd, .ref sr])), (mn, .inr (2, [.ref qk, .ref qb, .ref qp, .int (nI nq)])), (qk, .inl (cI, 60, .inl ki)), (qb, .inl (cI, 60, .inl bi)), (j1, .inr (0, [.int se1, .int sh1, .int sp1, .int de1, .int po1, .ref n1, .ref d1, .ref r1, .ref s1, .int lo1])), (n1, .inl (cI, 366, .inl nd1)), (j2, .inr (0, [.int se2, .int sh2, .int sp2, .int de2, .int po2, .ref n2, .ref d2, .ref r2, .ref s2, .int lo2])), (n2, .inl (cI, 366, .inl nd2))]) (fun _ => rfl) (fun _ H locs hF hst => ?_)
      refine q_topR (x' := j2) (if_neg (by decide)) ?_
      refine q_goI (q_rNV hE lk_X6_228 (c_X1_menWhoServed l D cI cJ cZ nw j1 j2 mn lw sd sr cut least qk qb qp nq j2 n2 d2 r2 s2 se2 sh2 sp2 de2 po2 lo2 nd2 ki bi (by first | assumption | decide | omega) (by first | assumption | decide | omega) H.size) hst [3, 4, 5, 6, 9, 10] rfl rfl rfl rfl rfl hl.1 ⟨(Nat.le_of_ble_eq_true rfl), (Nat.le_of_ble_eq_true rfl)⟩ (rest := []) rfl (Nat.le_of_ble_eq_true rfl) dX6_count_95 ⟨(Nat.le_of_ble_eq_true rfl), (Nat.le_of_ble_eq_true rfl)⟩) hE hst [3, 4, 5, 6, 9, 10] rfl (fun _ => rfl) (fun (_ : Unit) => [(o, .inr (6, [.ref tp, .ref nw, .ref th, .int im, .ref rf, .ref rt])), (rf, .inl (cI, 7, .inl ru)), (tp, .inr (5, [.ref q, .int tl, .int tk, .int tbd, .int tpy])), (nw, .inr (1, [.ref j1, .ref j2, .ref mn, .ref lw, .int cut, .int least, .ref sd, .ref sr])), (mn, .inr (2, [.ref qk, .ref qb, .ref qp, .int (nI nq)])), (qk, .inl (cI, 60, .inl ki)), (qb, .inl (cI, 60, .inl bi)), (j1, .inr (0, [.int se1, .int sh1, .int sp1, .int de1, .int po1, .ref n1, .ref d1, .ref r1, .ref s1, .int lo1])), (n1, .inl (cI, 366, .inl nd1)), (j2, .inr (0, [.int se2, .int sh2, .int sp2, .int de2, .int po2, .ref n2, .ref d2, .ref r2, .ref s2, .int lo2])), (n2, .inl (cI, 366, .inl nd2))]) (fun _ => rfl) (fun _ H locs hF hst => ?_)
      exact q_retI hQ hE hr hk hst () (by rw [if_pos c_3, couI, if_neg c_25_0, if_neg c_25_1, if_pos c_25_2]) (trivial) (rfl) dX6_count_98
    by_cases c_25_3 : p0 = 3
    · skip
      refine lv_tableIn (off := 74) (tgt := 99) hx hb dX6_count_25 (by rw [c_25_3]; decide) (by rw [c_25_3]; decide) (by rw [c_25_3]; rfl) (by decide) ?_
      refine lv_aload_n hx hb dX6_count_99 rfl (lv_at hl 0 rfl) ?_
      refine gf_X6_10 hE hst 0 rfl rfl dX6_count_100 ?_
      refine gf_X6_57 hE hst 2 rfl rfl dX6_count_103 ?_
      exact q_retI hQ hE hr hk hst () (by rw [if_pos c_3, couI, if_neg c_25_0, if_neg c_25_1, if_neg c_25_2, if_pos c_25_3]) (trivial) (rfl) dX6_count_106
    refine lv_tableOut (tgt := 107) hx hb dX6_count_25 (by have q0 := lv_neT c_25_0 (a := 0) (by decide); have q1 := lv_neT c_25_1 (a := 1) (by decide); have q2 := lv_neT c_25_2 (a := 2) (by decide); have q3 := lv_neT c_25_3 (a := 3) (by decide); omega) (by decide) ?_
    refine lv_bipush (v := (-9)) hx hb dX6_count_107 (by decide) ?_
    exact q_retI hQ hE hr hk hst () (by rw [if_pos c_3, couI, if_neg c_25_0, if_neg c_25_1, if_neg c_25_2, if_neg c_25_3]) (trivial) (rfl) dX6_count_109
  · skip
    refine lv_iload_n hx hb dX6_count_6 rfl (lv_at hl 1 rfl) ?_
    refine lv_bipush (v := 16) hx hb dX6_count_7 (by decide) ?_
    refine lv_icmp_gt (tgt := 24) hx hb dX6_count_9 (by decide) (fun c_9 => ?_) (fun c_9 => ?_)
    · skip
      refine lv_iload_n hx hb dX6_count_24 rfl (lv_at hl 1 rfl) ?_
      by_cases c_25_0 : p0 = 0
      · skip
        refine lv_tableIn (off := 31) (tgt := 56) hx hb dX6_count_25 (by rw [c_25_0]; decide) (by rw [c_25_0]; decide) (by rw [c_25_0]; rfl) (by decide) ?_
        refine lv_aload_n hx hb dX6_count_56 rfl (lv_at hl 0 rfl) ?_
        refine gf_X6_19 hE hst 0 rfl rfl dX6_count_57 ?_
        refine gf_X6_61 hE hst 3 rfl rfl dX6_count_60 ?_
        refine gf_X6_65 hE hst 4 rfl rfl dX6_count_63 ?_
        exact q_retI hQ hE hr hk hst () (by rw [if_neg c_3, if_pos c_9, couI, if_pos c_25_0]) (trivial) (rfl) dX6_count_66
      by_cases c_25_1 : p0 = 1
      · skip
        refine lv_tableIn (off := 42) (tgt := 67) hx hb dX6_count_25 (by rw [c_25_1]; decide) (by rw [c_25_1]; decide) (by rw [c_25_1]; rfl) (by decide) ?_
        refine lv_aload_n hx hb dX6_count_67 rfl (lv_at hl 0 rfl) ?_
        refine gf_X6_19 hE hst 0 rfl rfl dX6_count_68 ?_
        refine lv_aload_n hx hb dX6_count_71 rfl (lv_at hl 0 rfl) ?_
        refine gf_X6_19 hE hst 0 rfl rfl dX6_count_72 ?_
        refine lv_iconst (v := 0) hx hb dX6_count_75 (by decide) ?_
        refine q_goR (q_rNV hE lk_X6_93 (c_X1_jarAt l D cI cJ cZ nw j1 j2 mn lw sd sr cut least 0 s.heap.size) hst [3] rfl rfl rfl rfl rfl hl.1 ⟨(Nat.le_of_ble_eq_true rfl), (Nat.le_of_ble_eq_true rfl)⟩ (rest := [.ref nw]) rfl (Nat.le_of_ble_eq_true rfl) dX6_count_76 ⟨(Nat.le_of_ble_eq_true rfl), (Nat.le_of_ble_eq_true rfl)⟩) hE hst [3] rfl (fun _ => rfl) (fun (_ : Unit) => [(o, .inr (6, [.ref tp, .ref nw, .ref th, .int im, .ref rf, .ref rt])), (rf, .inl (cI, 7, .inl ru)), (tp, .inr (5, [.ref q, .int tl, .int tk, .int tbd, .int tpy])), (nw, .inr (1, [.ref j1, .ref j2, .ref mn, .ref lw, .int cut, .int least, .ref sd, .ref sr])), (mn, .inr (2, [.ref qk, .ref qb, .ref qp, .int (nI nq)])), (qk, .inl (cI, 60, .inl ki)), (qb, .inl (cI, 60, .inl bi)), (j1, .inr (0, [.int se1, .int sh1, .int sp1, .int de1, .int po1, .ref n1, .ref d1, .ref r1, .ref s1, .int lo1])), (n1, .inl (cI, 366, .inl nd1)), (j2, .inr (0, [.int se2, .int sh2, .int sp2, .int de2, .int po2, .ref n2, .ref d2, .ref r2, .ref s2, .int lo2])), (n2, .inl (cI, 366, .inl nd2))]) (fun _ => rfl) (fun _ H locs hF hst => ?_)
        refine q_topR (x' := j1) (if_pos rfl) ?_
        refine q_goI (q_rNV hE lk_X6_228 (c_X1_menWhoServed l D cI cJ cZ nw j1 j2 mn lw sd sr cut least qk qb qp nq j1 n1 d1 r1 s1 se1 sh1 sp1 de1 po1 lo1 nd1 ki bi (by first | assumption | decide | omega) (by first | assumption | decide | omega) H.size) hst [3, 4, 5, 6, 7, 8] rfl rfl rfl rfl rfl hl.1 ⟨(Nat.le_of_ble_eq_true rfl), (Nat.le_of_ble_eq_true rfl)⟩ (rest := []) rfl (Nat.le_of_ble_eq_true rfl) dX6_count_79 ⟨(Nat.le_of_ble_eq_true rfl), (Nat.le_of_ble_eq_true rfl)⟩) hE hst [3, 4, 5, 6, 7, 8] rfl (fun _ => rfl) (fun (_ : Unit) => [(o, .inr (6, [.ref tp, .ref nw, .ref th, .int im, .ref rf, .ref rt])), (rf, .inl (cI, 7, .inl ru)), (tp, .inr (5, [.ref q, .int tl, .int tk, .int tbd, .int tpy])), (nw, .inr (1, [.ref j1, .ref j2, .ref mn, .ref lw, .int cut, .int least, .ref sd, .ref sr])), (mn, .inr (2, [.ref qk, .ref qb, .ref qp, .int (nI nq)])), (qk, .inl (cI, 60, .inl ki)), (qb, .inl (cI, 60, .inl bi)), (j1, .inr (0, [.int se1, .int sh1, .int sp1, .int de1, .int po1, .ref n1, .ref d1, .ref r1, .ref s1, .int lo1])), (n1, .inl (cI, 366, .inl nd1)), (j2, .inr (0, [.int se2, .int sh2, .int sp2, .int de2, .int po2, .ref n2, .ref d2, .ref r2, .ref s2, .int lo2])), (n2, .inl (cI, 366, .inl nd2))]) (fun _ => rfl) (fun _ H locs hF hst => ?_)
        exact q_retI hQ hE hr hk hst () (by rw [if_neg c_3, if_pos c_9, couI, if_neg c_25_0, if_pos c_25_1]) (trivial) (rfl) dX6_count_82
      by_cases c_25_2 : p0 = 2
      · skip
        refine lv_tableIn (off := 58) (tgt := 83) hx hb dX6_count_25 (by rw [c_25_2]; decide) (by rw [c_25_2]; decide) (by rw [c_25_2]; rfl) (by decide) ?_
        refine lv_aload_n hx hb dX6_count_83 rfl (lv_at hl 0 rfl) ?_
        refine gf_X6_19 hE hst 0 rfl rfl dX6_count_84 ?_
        refine lv_aload_n hx hb dX6_count_87 rfl (lv_at hl 0 rfl) ?_
        refine gf_X6_19 hE hst 0 rfl rfl dX6_count_88 ?_
        refine lv_iconst (v := 1) hx hb dX6_count_91 (by decide) ?_
        refine q_goR (q_rNV hE lk_X6_93 (c_X1_jarAt l D cI cJ cZ nw j1 j2 mn lw sd sr cut least 1 s.heap.size) hst [3] rfl rfl rfl rfl rfl hl.1 ⟨(Nat.le_of_ble_eq_true rfl), (Nat.le_of_ble_eq_true rfl)⟩ (rest := [.ref nw]) rfl (Nat.le_of_ble_eq_true rfl) dX6_count_92 ⟨(Nat.le_of_ble_eq_true rfl), (Nat.le_of_ble_eq_true rfl)⟩) hE hst [3] rfl (fun _ => rfl) (fun (_ : Unit) => [(o, .inr (6, [.ref tp, .ref nw, .ref th, .int im, .ref rf, .ref rt])), (rf, .inl (cI, 7, .inl ru)), (tp, .inr (5, [.ref q, .int tl, .int tk, .int tbd, .int tpy])), (nw, .inr (1, [.ref j1, .ref j2, .ref mn, .ref lw, .int cut, .int least, .ref sd, .ref sr])), (mn, .inr (2, [.ref qk, .ref qb, .ref qp, .int (nI nq)])), (qk, .inl (cI, 60, .inl ki)), (qb, .inl (cI, 60, .inl bi)), (j1, .inr (0, [.int se1, .int sh1, .int sp1, .int de1, .int po1, .ref n1, .ref d1, .ref r1, .ref s1, .int lo1])), (n1, .inl (cI, 366, .inl nd1)), (j2, .inr (0, [.int se2, .int sh2, .int sp2, .int de2, .int po2, .ref n2, .ref d2, .ref r2, .ref s2, .int lo2])), (n2, .inl (cI, 366, .inl nd2))]) (fun _ => rfl) (fun _ H locs hF hst => ?_)
        refine q_topR (x' := j2) (if_neg (by decide)) ?_
        refine q_goI (q_rNV hE lk_X6_228 (c_X1_menWhoServed l D cI cJ cZ nw j1 j2 mn lw sd sr cut least qk qb qp nq j2 n2 d2 r2 s2 se2 sh2 sp2 de2 po2 lo2 nd2 ki bi (by first | assumption | decide | omega) (by first | assumption | decide | omega) H.size) hst [3, 4, 5, 6, 9, 10] rfl rfl rfl rfl rfl hl.1 ⟨(Nat.le_of_ble_eq_true rfl), (Nat.le_of_ble_eq_true rfl)⟩ (rest := []) rfl (Nat.le_of_ble_eq_true rfl) dX6_count_95 ⟨(Nat.le_of_ble_eq_true rfl), (Nat.le_of_ble_eq_true rfl)⟩) hE hst [3, 4, 5, 6, 9, 10] rfl (fun _ => rfl) (fun (_ : Unit) => [(o, .inr (6, [.ref tp, .ref nw, .ref th, .int im, .ref rf, .ref rt])), (rf, .inl (cI, 7, .inl ru)), (tp, .inr (5, [.ref q, .int tl, .int tk, .int tbd, .int tpy])), (nw, .inr (1, [.ref j1, .ref j2, .ref mn, .ref lw, .int cut, .int least, .ref sd, .ref sr])), (mn, .inr (2, [.ref qk, .ref qb, .ref qp, .int (nI nq)])), (qk, .inl (cI, 60, .inl ki)), (qb, .inl (cI, 60, .inl bi)), (j1, .inr (0, [.int se1, .int sh1, .int sp1, .int de1, .int po1, .ref n1, .ref d1, .ref r1, .ref s1, .int lo1])), (n1, .inl (cI, 366, .inl nd1)), (j2, .inr (0, [.int se2, .int sh2, .int sp2, .int de2, .int po2, .ref n2, .ref d2, .ref r2, .ref s2, .int lo2])), (n2, .inl (cI, 366, .inl nd2))]) (fun _ => rfl) (fun _ H locs hF hst => ?_)
        exact q_retI hQ hE hr hk hst () (by rw [if_neg c_3, if_pos c_9, couI, if_neg c_25_0, if_neg c_25_1, if_pos c_25_2]) (trivial) (rfl) dX6_count_98
      by_cases c_25_3 : p0 = 3
      · skip
        refine lv_tableIn (off := 74) (tgt := 99) hx hb dX6_count_25 (by rw [c_25_3]; decide) (by rw [c_25_3]; decide) (by rw [c_25_3]; rfl) (by decide) ?_
        refine lv_aload_n hx hb dX6_count_99 rfl (lv_at hl 0 rfl) ?_
        refine gf_X6_10 hE hst 0 rfl rfl dX6_count_100 ?_
        refine gf_X6_57 hE hst 2 rfl rfl dX6_count_103 ?_
        exact q_retI hQ hE hr hk hst () (by rw [if_neg c_3, if_pos c_9, couI, if_neg c_25_0, if_neg c_25_1, if_neg c_25_2, if_pos c_25_3]) (trivial) (rfl) dX6_count_106
      refine lv_tableOut (tgt := 107) hx hb dX6_count_25 (by have q0 := lv_neT c_25_0 (a := 0) (by decide); have q1 := lv_neT c_25_1 (a := 1) (by decide); have q2 := lv_neT c_25_2 (a := 2) (by decide); have q3 := lv_neT c_25_3 (a := 3) (by decide); omega) (by decide) ?_
      refine lv_bipush (v := (-9)) hx hb dX6_count_107 (by decide) ?_
      exact q_retI hQ hE hr hk hst () (by rw [if_neg c_3, if_pos c_9, couI, if_neg c_25_0, if_neg c_25_1, if_neg c_25_2, if_neg c_25_3]) (trivial) (rfl) dX6_count_109
    · skip
      refine lv_aload_n hx hb dX6_count_12 rfl (lv_at hl 0 rfl) ?_
      refine gf_X6_30 hE hst 0 rfl rfl dX6_count_13 ?_
      refine lv_iload_n hx hb dX6_count_16 rfl (lv_at hl 1 rfl) ?_
      refine lv_bipush (v := 10) hx hb dX6_count_17 (by decide) ?_
      refine lv_isub hx hb dX6_count_19 ?_
      refine q_goI (q_rS hE lk_X6_164 (c_X6_at l D cI cJ cZ rf 7 ru (p0 - 10) (by first | assumption | decide | omega) s.heap.size) hst [1] rfl rfl rfl hl.1 ⟨(Nat.le_of_ble_eq_true rfl), (Nat.le_of_ble_eq_true rfl)⟩ (rest := []) rfl (Nat.le_of_ble_eq_true rfl) dX6_count_20 ⟨(Nat.le_of_ble_eq_true rfl), (Nat.le_of_ble_eq_true rfl)⟩) hE hst [1] rfl (fun _ => rfl) (fun (_ : Unit) => [(o, .inr (6, [.ref tp, .ref nw, .ref th, .int im, .ref rf, .ref rt])), (rf, .inl (cI, 7, .inl ru)), (tp, .inr (5, [.ref q, .int tl, .int tk, .int tbd, .int tpy])), (nw, .inr (1, [.ref j1, .ref j2, .ref mn, .ref lw, .int cut, .int least, .ref sd, .ref sr])), (mn, .inr (2, [.ref qk, .ref qb, .ref qp, .int (nI nq)])), (qk, .inl (cI, 60, .inl ki)), (qb, .inl (cI, 60, .inl bi)), (j1, .inr (0, [.int se1, .int sh1, .int sp1, .int de1, .int po1, .ref n1, .ref d1, .ref r1, .ref s1, .int lo1])), (n1, .inl (cI, 366, .inl nd1)), (j2, .inr (0, [.int se2, .int sh2, .int sp2, .int de2, .int po2, .ref n2, .ref d2, .ref r2, .ref s2, .int lo2])), (n2, .inl (cI, 366, .inl nd2))]) (fun _ => rfl) (fun _ H locs hF hst => ?_)
      exact q_retI hQ hE hr hk hst () (by rw [if_neg c_3, if_neg c_9]) (trivial) (rfl) dX6_count_23
set_option maxHeartbeats 4000000 in
set_option maxRecDepth 100000 in
theorem c_X1_copyLottery (l : Launch) (D : va_G) (cI cJ cZ : ClassId) (h : Nat) (g : Nat) (j1a : Nat) (j2a : Nat) (mna : Nat) (lwa : Nat) (sda : Nat) (sra : Nat) (n1a : Nat) (d1a : Nat) (r1a : Nat) (s1a : Nat) (n2a : Nat) (d2a : Nat) (r2a : Nat) (s2a : Nat) (qka : Nat) (qba : Nat) (qpa : Nat) (cuta : Int32) (leasta : Int32) (se1a : Int32) (sh1a : Int32) (sp1a : Int32) (de1a : Int32) (lo1a : Int32) (se2a : Int32) (sh2a : Int32) (sp2a : Int32) (de2a : Int32) (lo2a : Int32) (sza : Int32) (po1a : Bool) (po2a : Bool) (nd1a : Nat → Int32) (dn1a : Nat → Int32) (nd2a : Nat → Int32) (dn2a : Nat → Int32) (kia : Nat → Int32) (bia : Nat → Int32) (paa : Nat → Int32) (laa : Nat → Int32) (j1b : Nat) (j2b : Nat) (mnb : Nat) (lwb : Nat) (sdb : Nat) (srb : Nat) (n1b : Nat) (d1b : Nat) (r1b : Nat) (s1b : Nat) (n2b : Nat) (d2b : Nat) (r2b : Nat) (s2b : Nat) (qkb : Nat) (qbb : Nat) (qpb : Nat) (cutb : Int32) (leastb : Int32) (se1b : Int32) (sh1b : Int32) (sp1b : Int32) (de1b : Int32) (lo1b : Int32) (se2b : Int32) (sh2b : Int32) (sp2b : Int32) (de2b : Int32) (lo2b : Int32) (szb : Int32) (po1b : Bool) (po2b : Bool) (nd1b : Nat → Int32) (dn1b : Nat → Int32) (nd2b : Nat → Int32) (dn2b : Nat → Int32) (kib : Nat → Int32) (bib : Nat → Int32) (pab : Nat → Int32) (lab : Nat → Int32) : CtV l D cI cJ cZ yX1_copyLottery cX1_copyLottery 2 none 3 0 0 [.ref h, .ref g] [(h, .inr (1, [.ref j1a, .ref j2a, .ref mna, .ref lwa, .int cuta, .int leasta, .ref sda, .ref sra])), (j1a, .inr (0, [.int se1a, .int sh1a, .int sp1a, .int de1a, .int (b2i po1a), .ref n1a, .ref d1a, .ref r1a, .ref s1a, .int lo1a])), (n1a, .inl (cI, 366, .inl nd1a)), (d1a, .inl (cI, 367, .inl dn1a)), (j2a, .inr (0, [.int se2a, .int sh2a, .int sp2a, .int de2a, .int (b2i po2a), .ref n2a, .ref d2a, .ref r2a, .ref s2a, .int lo2a])), (n2a, .inl (cI, 366, .inl nd2a)), (d2a, .inl (cI, 367, .inl dn2a)), (mna, .inr (2, [.ref qka, .ref qba, .ref qpa, .int sza])), (qka, .inl (cI, 60, .inl kia)), (qba, .inl (cI, 60, .inl bia)), (qpa, .inl (cI, 60, .inl paa)), (lwa, .inl (cI, 5, .inl laa)), (g, .inr (1, [.ref j1b, .ref j2b, .ref mnb, .ref lwb, .int cutb, .int leastb, .ref sdb, .ref srb])), (j1b, .inr (0, [.int se1b, .int sh1b, .int sp1b, .int de1b, .int (b2i po1b), .ref n1b, .ref d1b, .ref r1b, .ref s1b, .int lo1b])), (n1b, .inl (cI, 366, .inl nd1b)), (d1b, .inl (cI, 367, .inl dn1b)), (j2b, .inr (0, [.int se2b, .int sh2b, .int sp2b, .int de2b, .int (b2i po2b), .ref n2b, .ref d2b, .ref r2b, .ref s2b, .int lo2b])), (n2b, .inl (cI, 366, .inl nd2b)), (d2b, .inl (cI, 367, .inl dn2b)), (mnb, .inr (2, [.ref qkb, .ref qbb, .ref qpb, .int szb])), (qkb, .inl (cI, 60, .inl kib)), (qbb, .inl (cI, 60, .inl bib)), (qpb, .inl (cI, 60, .inl pab)), (lwb, .inl (cI, 5, .inl lab))] (fun (_ : Unit) => True) (fun (_ : Unit) => [(h, .inr (1, [.ref j1a, .ref j2a, .ref mna, .ref lwa, .int cutb, .int leastb, .ref sda, .ref sra])), (j1a, .inr (0, [.int se1b, .int sh1b, .int sp1b, .int de1b, .int (b2i po1b), .ref n1a, .ref d1a, .ref r1a, .ref s1a, .int lo1a])), (n1a, .inl (cI, 366, .inl nd1b)), (d1a, .inl (cI, 367, .inl dn1b)), (j2a, .inr (0, [.int se2b, .int sh2b, .int sp2b, .int de2b, .int (b2i po2b), .ref n2a, .ref d2a, .ref r2a, .ref s2a, .int lo2a])), (n2a, .inl (cI, 366, .inl nd2b)), (d2a, .inl (cI, 367, .inl dn2b)), (mna, .inr (2, [.ref qka, .ref qba, .ref qpa, .int szb])), (qka, .inl (cI, 60, .inl kib)), (qba, .inl (cI, 60, .inl bib)), (qpa, .inl (cI, 60, .inl pab)), (lwa, .inl (cI, 5, .inl lab)), (g, .inr (1, [.ref j1b, .ref j2b, .ref mnb, .ref lwb, .int cutb, .int leastb, .ref sdb, .ref srb])), (j1b, .inr (0, [.int se1b, .int sh1b, .int sp1b, .int de1b, .int (b2i po1b), .ref n1b, .ref d1b, .ref r1b, .ref s1b, .int lo1b])), (n1b, .inl (cI, 366, .inl nd1b)), (d1b, .inl (cI, 367, .inl dn1b)), (j2b, .inr (0, [.int se2b, .int sh2b, .int sp2b, .int de2b, .int (b2i po2b), .ref n2b, .ref d2b, .ref r2b, .ref s2b, .int lo2b])), (n2b, .inl (cI, 366, .inl nd2b)), (d2b, .inl (cI, 367, .inl dn2b)), (mnb, .inr (2, [.ref qkb, .ref qbb, .ref qpb, .int szb])), (qkb, .inl (cI, 60, .inl kib)), (qbb, .inl (cI, 60, .inl bib)), (qpb, .inl (cI, 60, .inl pab)), (lwb, .inl (cI, 5, .inl lab))]) := by
  refine q_entV (own := RX1) rfl rfl (Nat.le_of_ble_eq_true rfl) ?_
  intro p e s m args below meth c A ls QQ hQ hE hx hb hr hk hin hA hl hst
  have hl : lv_has ls 2 [(0, .ref h), (1, .ref g)] := hl
  refine lv_aload_n hx hb dX1_copyLottery_0 rfl (lv_at hl 0 rfl) ?_
  refine gf_X1_12 hE hst 0 rfl rfl dX1_copyLottery_1 ?_
  refine lv_aload_n hx hb dX1_copyLottery_4 rfl (lv_at hl 1 rfl) ?_
  refine gf_X1_12 hE hst 12 rfl rfl dX1_copyLottery_5 ?_
  refine q_goV (q_rNV hE lk_X1_61 (c_X0_copyJar l D cI cJ cZ j1a n1a d1a r1a s1a j1b n1b d1b r1b s1b se1a sh1a sp1a de1a (b2i po1a) lo1a se1b sh1b sp1b de1b lo1b po1b nd1a dn1a nd1b dn1b s.heap.size) hst [1, 2, 3, 13, 14, 15] rfl rfl rfl rfl rfl hl.1 ⟨(Nat.le_of_ble_eq_true rfl), (Nat.le_of_ble_eq_true rfl)⟩ (rest := []) rfl (Nat.le_of_ble_eq_true rfl) dX1_copyLottery_8 ⟨(Nat.le_of_ble_eq_true rfl), (Nat.le_of_ble_eq_true rfl)⟩) hE hst [1, 2, 3, 13, 14, 15] rfl (fun _ => rfl) (fun (_ : Unit) => [(h, .inr (1, [.ref j1a, .ref j2a, .ref mna, .ref lwa, .int cuta, .int leasta, .ref sda, .ref sra])), (j1a, .inr (0, [.int se1b, .int sh1b, .int sp1b, .int de1b, .int (b2i po1b), .ref n1a, .ref d1a, .ref r1a, .ref s1a, .int lo1a])), (n1a, .inl (cI, 366, .inl nd1b)), (d1a, .inl (cI, 367, .inl dn1b)), (j2a, .inr (0, [.int se2a, .int sh2a, .int sp2a, .int de2a, .int (b2i po2a), .ref n2a, .ref d2a, .ref r2a, .ref s2a, .int lo2a])), (n2a, .inl (cI, 366, .inl nd2a)), (d2a, .inl (cI, 367, .inl dn2a)), (mna, .inr (2, [.ref qka, .ref qba, .ref qpa, .int sza])), (qka, .inl (cI, 60, .inl kia)), (qba, .inl (cI, 60, .inl bia)), (qpa, .inl (cI, 60, .inl paa)), (lwa, .inl (cI, 5, .inl laa)), (g, .inr (1, [.ref j1b, .ref j2b, .ref mnb, .ref lwb, .int cutb, .int leastb, .ref sdb, .ref srb])), (j1b, .inr (0, [.int se1b, .int sh1b, .int sp1b, .int de1b, .int (b2i po1b), .ref n1b, .ref d1b, .ref r1b, .ref s1b, .int lo1b])), (n1b, .inl (cI, 366, .inl nd1b)), (d1b, .inl (cI, 367, .inl dn1b)), (j2b, .inr (0, [.int se2b, .int sh2b, .int sp2b, .int de2b, .int (b2i po2b), .ref n2b, .ref d2b, .ref r2b, .ref s2b, .int lo2b])), (n2b, .inl (cI, 366, .inl nd2b)), (d2b, .inl (cI, 367, .inl dn2b)), (mnb, .inr (2, [.ref qkb, .ref qbb, .ref qpb, .int szb])), (qkb, .inl (cI, 60, .inl kib)), (qbb, .inl (cI, 60, .inl bib)), (qpb, .inl (cI, 60, .inl pab)), (lwb, .inl (cI, 5, .inl lab))]) (fun _ => rfl) (fun _ H locs hF hst => ?_)
  refine lv_aload_n hx hb dX1_copyLottery_11 rfl (lv_at hl 0 rfl) ?_
  refine gf_X1_18 hE hst 0 rfl rfl dX1_copyLottery_12 ?_
  refine lv_aload_n hx hb dX1_copyLottery_15 rfl (lv_at hl 1 rfl) ?_
  refine gf_X1_18 hE hst 12 rfl rfl dX1_copyLottery_16 ?_
  refine q_goV (q_rNV hE lk_X1_61 (c_X0_copyJar l D cI cJ cZ j2a n2a d2a r2a s2a j2b n2b d2b r2b s2b se2a sh2a sp2a de2a (b2i po2a) lo2a se2b sh2b sp2b de2b lo2b po2b nd2a dn2a nd2b dn2b H.size) hst [4, 5, 6, 16, 17, 18] rfl rfl rfl rfl rfl hl.1 ⟨(Nat.le_of_ble_eq_true rfl), (Nat.le_of_ble_eq_true rfl)⟩ (rest := []) rfl (Nat.le_of_ble_eq_true rfl) dX1_copyLottery_19 ⟨(Nat.le_of_ble_eq_true rfl), (Nat.le_of_ble_eq_true rfl)⟩) hE hst [4, 5, 6, 16, 17, 18] rfl (fun _ => rfl) (fun (_ : Unit) => [(h, .inr (1, [.ref j1a, .ref j2a, .ref mna, .ref lwa, .int cuta, .int leasta, .ref sda, .ref sra])), (j1a, .inr (0, [.int se1b, .int sh1b, .int sp1b, .int de1b, .int (b2i po1b), .ref n1a, .ref d1a, .ref r1a, .ref s1a, .int lo1a])), (n1a, .inl (cI, 366, .inl nd1b)), (d1a, .inl (cI, 367, .inl dn1b)), (j2a, .inr (0, [.int se2b, .int sh2b, .int sp2b, .int de2b, .int (b2i po2b), .ref n2a, .ref d2a, .ref r2a, .ref s2a, .int lo2a])), (n2a, .inl (cI, 366, .inl nd2b)), (d2a, .inl (cI, 367, .inl dn2b)), (mna, .inr (2, [.ref qka, .ref qba, .ref qpa, .int sza])), (qka, .inl (cI, 60, .inl kia)), (qba, .inl (cI, 60, .inl bia)), (qpa, .inl (cI, 60, .inl paa)), (lwa, .inl (cI, 5, .inl laa)), (g, .inr (1, [.ref j1b, .ref j2b, .ref mnb, .ref lwb, .int cutb, .int leastb, .ref sdb, .ref srb])), (j1b, .inr (0, [.int se1b, .int sh1b, .int sp1b, .int de1b, .int (b2i po1b), .ref n1b, .ref d1b, .ref r1b, .ref s1b, .int lo1b])), (n1b, .inl (cI, 366, .inl nd1b)), (d1b, .inl (cI, 367, .inl dn1b)), (j2b, .inr (0, [.int se2b, .int sh2b, .int sp2b, .int de2b, .int (b2i po2b), .ref n2b, .ref d2b, .ref r2b, .ref s2b, .int lo2b])), (n2b, .inl (cI, 366, .inl nd2b)), (d2b, .inl (cI, 367, .inl dn2b)), (mnb, .inr (2, [.ref qkb, .ref qbb, .ref qpb, .int szb])), (qkb, .inl (cI, 60, .inl kib)), (qbb, .inl (cI, 60, .inl bib)), (qpb, .inl (cI, 60, .inl pab)), (lwb, .inl (cI, 5, .inl lab))]) (fun _ => rfl) (fun _ H locs hF hst => ?_)
  refine lv_aload_n hx hb dX1_copyLottery_22 rfl (lv_at hl 0 rfl) ?_
  refine gf_X1_24 hE hst 0 rfl rfl dX1_copyLottery_23 ?_
  refine lv_aload_n hx hb dX1_copyLottery_26 rfl (lv_at hl 1 rfl) ?_
  refine gf_X1_24 hE hst 12 rfl rfl dX1_copyLottery_27 ?_
  refine q_goV (q_rNV hE lk_X1_65 (c_X2_copyMen l D cI cJ cZ mna qka qba qpa mnb qkb qbb qpb sza szb kia bia paa kib bib pab H.size) hst [7, 8, 9, 10, 19, 20, 21, 22] rfl rfl rfl rfl rfl hl.1 ⟨(Nat.le_of_ble_eq_true rfl), (Nat.le_of_ble_eq_true rfl)⟩ (rest := []) rfl (Nat.le_of_ble_eq_true rfl) dX1_copyLottery_30 ⟨(Nat.le_of_ble_eq_true rfl), (Nat.le_of_ble_eq_true rfl)⟩) hE hst [7, 8, 9, 10, 19, 20, 21, 22] rfl (fun _ => rfl) (fun (_ : Unit) => [(h, .inr (1, [.ref j1a, .ref j2a, .ref mna, .ref lwa, .int cuta, .int leasta, .ref sda, .ref sra])), (j1a, .inr (0, [.int se1b, .int sh1b, .int sp1b, .int de1b, .int (b2i po1b), .ref n1a, .ref d1a, .ref r1a, .ref s1a, .int lo1a])), (n1a, .inl (cI, 366, .inl nd1b)), (d1a, .inl (cI, 367, .inl dn1b)), (j2a, .inr (0, [.int se2b, .int sh2b, .int sp2b, .int de2b, .int (b2i po2b), .ref n2a, .ref d2a, .ref r2a, .ref s2a, .int lo2a])), (n2a, .inl (cI, 366, .inl nd2b)), (d2a, .inl (cI, 367, .inl dn2b)), (mna, .inr (2, [.ref qka, .ref qba, .ref qpa, .int szb])), (qka, .inl (cI, 60, .inl kib)), (qba, .inl (cI, 60, .inl bib)), (qpa, .inl (cI, 60, .inl pab)), (lwa, .inl (cI, 5, .inl laa)), (g, .inr (1, [.ref j1b, .ref j2b, .ref mnb, .ref lwb, .int cutb, .int leastb, .ref sdb, .ref srb])), (j1b, .inr (0, [.int se1b, .int sh1b, .int sp1b, .int de1b, .int (b2i po1b), .ref n1b, .ref d1b, .ref r1b, .ref s1b, .int lo1b])), (n1b, .inl (cI, 366, .inl nd1b)), (d1b, .inl (cI, 367, .inl dn1b)), (j2b, .inr (0, [.int se2b, .int sh2b, .int sp2b, .int de2b, .int (b2i po2b), .ref n2b, .ref d2b, .ref r2b, .ref s2b, .int lo2b])), (n2b, .inl (cI, 366, .inl nd2b)), (d2b, .inl (cI, 367, .inl dn2b)), (mnb, .inr (2, [.ref qkb, .ref qbb, .ref qpb, .int szb])), (qkb, .inl (cI, 60, .inl kib)), (qbb, .inl (cI, 60, .inl bib)), (qpb, .inl (cI, 60, .inl pab)), (lwb, .inl (cI, 5, .inl lab))]) (fun _ => rfl) (fun _ H locs hF hst => ?_)
  refine lv_aload_n hx hb dX1_copyLottery_33 rfl (lv_at hl 1 rfl) ?_
  refine gf_X1_37 hE hst 12 rfl rfl dX1_copyLottery_34 ?_
  refine lv_aload_n hx hb dX1_copyLottery_37 rfl (lv_at hl 0 rfl) ?_
  refine gf_X1_37 hE hst 0 rfl rfl dX1_copyLottery_38 ?_
  refine q_goV (q_rNS hE lk_X1_69 (c_X6_copyRow l D cI cJ cZ lwb lwa 5 lab laa (by first | assumption | decide | omega) H.size) hst [23, 11] rfl rfl rfl hl.1 ⟨(Nat.le_of_ble_eq_true rfl), (Nat.le_of_ble_eq_true rfl)⟩ (rest := []) rfl (Nat.le_of_ble_eq_true rfl) dX1_copyLottery_41 ⟨(Nat.le_of_ble_eq_true rfl), (Nat.le_of_ble_eq_true rfl)⟩) hE hst [23, 11] rfl (fun _ => rfl) (fun (_ : Unit) => [(h, .inr (1, [.ref j1a, .ref j2a, .ref mna, .ref lwa, .int cuta, .int leasta, .ref sda, .ref sra])), (j1a, .inr (0, [.int se1b, .int sh1b, .int sp1b, .int de1b, .int (b2i po1b), .ref n1a, .ref d1a, .ref r1a, .ref s1a, .int lo1a])), (n1a, .inl (cI, 366, .inl nd1b)), (d1a, .inl (cI, 367, .inl dn1b)), (j2a, .inr (0, [.int se2b, .int sh2b, .int sp2b, .int de2b, .int (b2i po2b), .ref n2a, .ref d2a, .ref r2a, .ref s2a, .int lo2a])), (n2a, .inl (cI, 366, .inl nd2b)), (d2a, .inl (cI, 367, .inl dn2b)), (mna, .inr (2, [.ref qka, .ref qba, .ref qpa, .int szb])), (qka, .inl (cI, 60, .inl kib)), (qba, .inl (cI, 60, .inl bib)), (qpa, .inl (cI, 60, .inl pab)), (lwa, .inl (cI, 5, .inl lab)), (g, .inr (1, [.ref j1b, .ref j2b, .ref mnb, .ref lwb, .int cutb, .int leastb, .ref sdb, .ref srb])), (j1b, .inr (0, [.int se1b, .int sh1b, .int sp1b, .int de1b, .int (b2i po1b), .ref n1b, .ref d1b, .ref r1b, .ref s1b, .int lo1b])), (n1b, .inl (cI, 366, .inl nd1b)), (d1b, .inl (cI, 367, .inl dn1b)), (j2b, .inr (0, [.int se2b, .int sh2b, .int sp2b, .int de2b, .int (b2i po2b), .ref n2b, .ref d2b, .ref r2b, .ref s2b, .int lo2b])), (n2b, .inl (cI, 366, .inl nd2b)), (d2b, .inl (cI, 367, .inl dn2b)), (mnb, .inr (2, [.ref qkb, .ref qbb, .ref qpb, .int szb])), (qkb, .inl (cI, 60, .inl kib)), (qbb, .inl (cI, 60, .inl bib)), (qpb, .inl (cI, 60, .inl pab)), (lwb, .inl (cI, 5, .inl lab))]) (fun _ => rfl) (fun _ H locs hF hst => ?_)
  refine lv_aload_n hx hb dX1_copyLottery_44 rfl (lv_at hl 0 rfl) ?_
  refine lv_aload_n hx hb dX1_copyLottery_45 rfl (lv_at hl 1 rfl) ?_
  refine gf_X1_40 hE hst 12 rfl rfl dX1_copyLottery_46 ?_
  refine pf_X1_40 hE hst 0 rfl (rfl) (rfl) (Nat.le_of_ble_eq_true rfl) [(h, .inr (1, [.ref j1a, .ref j2a, .ref mna, .ref lwa, .int cutb, .int leasta, .ref sda, .ref sra])), (j1a, .inr (0, [.int se1b, .int sh1b, .int sp1b, .int de1b, .int (b2i po1b), .ref n1a, .ref d1a, .ref r1a, .ref s1a, .int lo1a])), (n1a, .inl (cI, 366, .inl nd1b)), (d1a, .inl (cI, 367, .inl dn1b)), (j2a, .inr (0, [.int se2b, .int sh2b, .int sp2b, .int de2b, .int (b2i po2b), .ref n2a, .ref d2a, .ref r2a, .ref s2a, .int lo2a])), (n2a, .inl (cI, 366, .inl nd2b)), (d2a, .inl (cI, 367, .inl dn2b)), (mna, .inr (2, [.ref qka, .ref qba, .ref qpa, .int szb])), (qka, .inl (cI, 60, .inl kib)), (qba, .inl (cI, 60, .inl bib)), (qpa, .inl (cI, 60, .inl pab)), (lwa, .inl (cI, 5, .inl lab)), (g, .inr (1, [.ref j1b, .ref j2b, .ref mnb, .ref lwb, .int cutb, .int leastb, .ref sdb, .ref srb])), (j1b, .inr (0, [.int se1b, .int sh1b, .int sp1b, .int de1b, .int (b2i po1b), .ref n1b, .ref d1b, .ref r1b, .ref s1b, .int lo1b])), (n1b, .inl (cI, 366, .inl nd1b)), (d1b, .inl (cI, 367, .inl dn1b)), (j2b, .inr (0, [.int se2b, .int sh2b, .int sp2b, .int de2b, .int (b2i po2b), .ref n2b, .ref d2b, .ref r2b, .ref s2b, .int lo2b])), (n2b, .inl (cI, 366, .inl nd2b)), (d2b, .inl (cI, 367, .inl dn2b)), (mnb, .inr (2, [.ref qkb, .ref qbb, .ref qpb, .int szb])), (qkb, .inl (cI, 60, .inl kib)), (qbb, .inl (cI, 60, .inl bib)), (qpb, .inl (cI, 60, .inl pab)), (lwb, .inl (cI, 5, .inl lab))] rfl dX1_copyLottery_49 (fun H locs hst => ?_)
  refine lv_aload_n hx hb dX1_copyLottery_52 rfl (lv_at hl 0 rfl) ?_
  refine lv_aload_n hx hb dX1_copyLottery_53 rfl (lv_at hl 1 rfl) ?_
  refine gf_X1_44 hE hst 12 rfl rfl dX1_copyLottery_54 ?_
  refine pf_X1_44 hE hst 0 rfl (rfl) (rfl) (Nat.le_of_ble_eq_true rfl) [(h, .inr (1, [.ref j1a, .ref j2a, .ref mna, .ref lwa, .int cutb, .int leastb, .ref sda, .ref sra])), (j1a, .inr (0, [.int se1b, .int sh1b, .int sp1b, .int de1b, .int (b2i po1b), .ref n1a, .ref d1a, .ref r1a, .ref s1a, .int lo1a])), (n1a, .inl (cI, 366, .inl nd1b)), (d1a, .inl (cI, 367, .inl dn1b)), (j2a, .inr (0, [.int se2b, .int sh2b, .int sp2b, .int de2b, .int (b2i po2b), .ref n2a, .ref d2a, .ref r2a, .ref s2a, .int lo2a])), (n2a, .inl (cI, 366, .inl nd2b)), (d2a, .inl (cI, 367, .inl dn2b)), (mna, .inr (2, [.ref qka, .ref qba, .ref qpa, .int szb])), (qka, .inl (cI, 60, .inl kib)), (qba, .inl (cI, 60, .inl bib)), (qpa, .inl (cI, 60, .inl pab)), (lwa, .inl (cI, 5, .inl lab)), (g, .inr (1, [.ref j1b, .ref j2b, .ref mnb, .ref lwb, .int cutb, .int leastb, .ref sdb, .ref srb])), (j1b, .inr (0, [.int se1b, .int sh1b, .int sp1b, .int de1b, .int (b2i po1b), .ref n1b, .ref d1b, .ref r1b, .ref s1b, .int lo1b])), (n1b, .inl (cI, 366, .inl nd1b)), (d1b, .inl (cI, 367, .inl dn1b)), (j2b, .inr (0, [.int se2b, .int sh2b, .int sp2b, .int de2b, .int (b2i po2b), .ref n2b, .ref d2b, .ref r2b, .ref s2b, .int lo2b])), (n2b, .inl (cI, 366, .inl nd2b)), (d2b, .inl (cI, 367, .inl dn2b)), (mnb, .inr (2, [.ref qkb, .ref qbb, .ref qpb, .int szb])), (qkb, .inl (cI, 60, .inl kib)), (qbb, .inl (cI, 60, .inl bib)), (qpb, .inl (cI, 60, .inl pab)), (lwb, .inl (cI, 5, .inl lab))] rfl dX1_copyLottery_57 (fun H locs hst => ?_)
  exact q_retV hQ hE hr hk hst () (trivial) (rfl) dX1_copyLottery_60
theorem q_put_app : ∀ (old new pre post : va_W), old.length = new.length → q_put (pre ++ old ++ post) (List.range' pre.length old.length) new = pre ++ new ++ post
  | [], [], pre, post, _ => by simp [q_put]
  | a :: old, c :: new, pre, post, h => by
    rw [show List.range' pre.length (a :: old).length = pre.length :: List.range' (pre.length + 1) old.length from rfl, q_put, List.append_assoc, List.set_append_right _ _ (Nat.le_refl _), Nat.sub_self]
    have ih := q_put_app old new (pre ++ [c]) post (by simpa using h)
    simpa using ih
  | [], c :: new, pre, post, h => by cases h
  | a :: old, [], pre, post, h => by cases h
theorem q_put_seg {ws ws' new : va_W} {is : List Nat} (pre old post : va_W) (h1 : ws = pre ++ old ++ post) (h2 : is = List.range' pre.length old.length) (h3 : old.length = new.length) (h4 : ws' = pre ++ new ++ post) : q_put ws is new = ws' := by
  rw [h1, h2, h4]
  exact q_put_app old new pre post h3
set_option maxHeartbeats 4000000 in
set_option maxRecDepth 100000 in
theorem c_X6_image (l : Launch) (D : va_G) (cI cJ cZ : ClassId) (o : Nat) (tp : Nat) (nw : Nat) (th : Nat) (rf : Nat) (rt : Nat) (im : Int32) (j1a : Nat) (j2a : Nat) (mna : Nat) (lwa : Nat) (sda : Nat) (sra : Nat) (n1a : Nat) (d1a : Nat) (r1a : Nat) (s1a : Nat) (n2a : Nat) (d2a : Nat) (r2a : Nat) (s2a : Nat) (qka : Nat) (qba : Nat) (qpa : Nat) (cuta : Int32) (leasta : Int32) (se1a : Int32) (sh1a : Int32) (sp1a : Int32) (de1a : Int32) (lo1a : Int32) (se2a : Int32) (sh2a : Int32) (sp2a : Int32) (de2a : Int32) (lo2a : Int32) (sza : Int32) (po1a : Bool) (po2a : Bool) (nd1a : Nat → Int32) (dn1a : Nat → Int32) (nd2a : Nat → Int32) (dn2a : Nat → Int32) (kia : Nat → Int32) (bia : Nat → Int32) (paa : Nat → Int32) (laa : Nat → Int32) (j1b : Nat) (j2b : Nat) (mnb : Nat) (lwb : Nat) (sdb : Nat) (srb : Nat) (n1b : Nat) (d1b : Nat) (r1b : Nat) (s1b : Nat) (n2b : Nat) (d2b : Nat) (r2b : Nat) (s2b : Nat) (qkb : Nat) (qbb : Nat) (qpb : Nat) (cutb : Int32) (leastb : Int32) (se1b : Int32) (sh1b : Int32) (sp1b : Int32) (de1b : Int32) (lo1b : Int32) (se2b : Int32) (sh2b : Int32) (sp2b : Int32) (de2b : Int32) (lo2b : Int32) (szb : Int32) (po1b : Bool) (po2b : Bool) (nd1b : Nat → Int32) (dn1b : Nat → Int32) (nd2b : Nat → Int32) (dn2b : Nat → Int32) (kib : Nat → Int32) (bib : Nat → Int32) (pab : Nat → Int32) (lab : Nat → Int32) : CtI l D cI cJ cZ yX6_image cX6_image 1 (some .int) 4 [.ref o] [(o, .inr (6, [.ref tp, .ref nw, .ref th, .int im, .ref rf, .ref rt])), (th, .inr (1, [.ref j1a, .ref j2a, .ref mna, .ref lwa, .int cuta, .int leasta, .ref sda, .ref sra])), (j1a, .inr (0, [.int se1a, .int sh1a, .int sp1a, .int de1a, .int (b2i po1a), .ref n1a, .ref d1a, .ref r1a, .ref s1a, .int lo1a])), (n1a, .inl (cI, 366, .inl nd1a)), (d1a, .inl (cI, 367, .inl dn1a)), (j2a, .inr (0, [.int se2a, .int sh2a, .int sp2a, .int de2a, .int (b2i po2a), .ref n2a, .ref d2a, .ref r2a, .ref s2a, .int lo2a])), (n2a, .inl (cI, 366, .inl nd2a)), (d2a, .inl (cI, 367, .inl dn2a)), (mna, .inr (2, [.ref qka, .ref qba, .ref qpa, .int sza])), (qka, .inl (cI, 60, .inl kia)), (qba, .inl (cI, 60, .inl bia)), (qpa, .inl (cI, 60, .inl paa)), (lwa, .inl (cI, 5, .inl laa)), (nw, .inr (1, [.ref j1b, .ref j2b, .ref mnb, .ref lwb, .int cutb, .int leastb, .ref sdb, .ref srb])), (j1b, .inr (0, [.int se1b, .int sh1b, .int sp1b, .int de1b, .int (b2i po1b), .ref n1b, .ref d1b, .ref r1b, .ref s1b, .int lo1b])), (n1b, .inl (cI, 366, .inl nd1b)), (d1b, .inl (cI, 367, .inl dn1b)), (j2b, .inr (0, [.int se2b, .int sh2b, .int sp2b, .int de2b, .int (b2i po2b), .ref n2b, .ref d2b, .ref r2b, .ref s2b, .int lo2b])), (n2b, .inl (cI, 366, .inl nd2b)), (d2b, .inl (cI, 367, .inl dn2b)), (mnb, .inr (2, [.ref qkb, .ref qbb, .ref qpb, .int szb])), (qkb, .inl (cI, 60, .inl kib)), (qbb, .inl (cI, 60, .inl bib)), (qpb, .inl (cI, 60, .inl pab)), (lwb, .inl (cI, 5, .inl lab))] (fun (_ : Unit) => szb) (fun (_ : Unit) => True) (fun (_ : Unit) => [(o, .inr (6, [.ref tp, .ref nw, .ref th, .int 1, .ref rf, .ref rt])), (th, .inr (1, [.ref j1a, .ref j2a, .ref mna, .ref lwa, .int cutb, .int leastb, .ref sda, .ref sra])), (j1a, .inr (0, [.int se1b, .int sh1b, .int sp1b, .int de1b, .int (b2i po1b), .ref n1a, .ref d1a, .ref r1a, .ref s1a, .int lo1a])), (n1a, .inl (cI, 366, .inl nd1b)), (d1a, .inl (cI, 367, .inl dn1b)), (j2a, .inr (0, [.int se2b, .int sh2b, .int sp2b, .int de2b, .int (b2i po2b), .ref n2a, .ref d2a, .ref r2a, .ref s2a, .int lo2a])), (n2a, .inl (cI, 366, .inl nd2b)), (d2a, .inl (cI, 367, .inl dn2b)), (mna, .inr (2, [.ref qka, .ref qba, .ref qpa, .int szb])), (qka, .inl (cI, 60, .inl kib)), (qba, .inl (cI, 60, .inl bib)), (qpa, .inl (cI, 60, .inl pab)), (lwa, .inl (cI, 5, .inl lab)), (nw, .inr (1, [.ref j1b, .ref j2b, .ref mnb, .ref lwb, .int cutb, .int leastb, .ref sdb, .ref srb])), (j1b, .inr (0, [.int se1b, .int sh1b, .int sp1b, .int de1b, .int (b2i po1b), .ref n1b, .ref d1b, .ref r1b, .ref s1b, .int lo1b])), (n1b, .inl (cI, 366, .inl nd1b)), (d1b, .inl (cI, 367, .inl dn1b)), (j2b, .inr (0, [.int se2b, .int sh2b, .int sp2b, .int de2b, .int (b2i po2b), .ref n2b, .ref d2b, .ref r2b, .ref s2b, .int lo2b])), (n2b, .inl (cI, 366, .inl nd2b)), (d2b, .inl (cI, 367, .inl dn2b)), (mnb, .inr (2, [.ref qkb, .ref qbb, .ref qpb, .int szb])), (qkb, .inl (cI, 60, .inl kib)), (qbb, .inl (cI, 60, .inl bib)), (qpb, .inl (cI, 60, .inl pab)), (lwb, .inl (cI, 5, .inl lab))]) := by
  refine q_entI (own := RX6) rfl rfl (Nat.le_of_ble_eq_true rfl) ?_
  intro p e s m args below meth c A ls QQ hQ hE hx hb hr hk hin hA hl hst
  have hl : lv_has ls 1 [(0, .ref o)] := hl
  refine lv_aload_n hx hb dX6_image_0 rfl (lv_at hl 0 rfl) ?_
  refine gf_X6_23 hE hst 0 rfl rfl dX6_image_1 ?_
  refine lv_aload_n hx hb dX6_image_4 rfl (lv_at hl 0 rfl) ?_
  refine gf_X6_19 hE hst 0 rfl rfl dX6_image_5 ?_
  refine q_goV (q_rNV hE lk_X6_224 (c_X1_copyLottery l D cI cJ cZ th nw j1a j2a mna lwa sda sra n1a d1a r1a s1a n2a d2a r2a s2a qka qba qpa cuta leasta se1a sh1a sp1a de1a lo1a se2a sh2a sp2a de2a lo2a sza po1a po2a nd1a dn1a nd2a dn2a kia bia paa laa j1b j2b mnb lwb sdb srb n1b d1b r1b s1b n2b d2b r2b s2b qkb qbb qpb cutb leastb se1b sh1b sp1b de1b lo1b se2b sh2b sp2b de2b lo2b szb po1b po2b nd1b dn1b nd2b dn2b kib bib pab lab s.heap.size) hst [1, 2, 3, 4, 5, 6, 7, 8, 9, 10, 11, 12, 13, 14, 15, 16, 17, 18, 19, 20, 21, 22, 23, 24] rfl rfl rfl rfl rfl hl.1 ⟨(Nat.le_of_ble_eq_true rfl), (Nat.le_of_ble_eq_true rfl)⟩ (rest := []) rfl (Nat.le_of_ble_eq_true rfl) dX6_image_8 ⟨(Nat.le_of_ble_eq_true rfl), (Nat.le_of_ble_eq_true rfl)⟩) hE hst [1, 2, 3, 4, 5, 6, 7, 8, 9, 10, 11, 12, 13, 14, 15, 16, 17, 18, 19, 20, 21, 22, 23, 24] rfl (fun _ => rfl) (fun (_ : Unit) => [(o, .inr (6, [.ref tp, .ref nw, .ref th, .int im, .ref rf, .ref rt])), (th, .inr (1, [.ref j1a, .ref j2a, .ref mna, .ref lwa, .int cutb, .int leastb, .ref sda, .ref sra])), (j1a, .inr (0, [.int se1b, .int sh1b, .int sp1b, .int de1b, .int (b2i po1b), .ref n1a, .ref d1a, .ref r1a, .ref s1a, .int lo1a])), (n1a, .inl (cI, 366, .inl nd1b)), (d1a, .inl (cI, 367, .inl dn1b)), (j2a, .inr (0, [.int se2b, .int sh2b, .int sp2b, .int de2b, .int (b2i po2b), .ref n2a, .ref d2a, .ref r2a, .ref s2a, .int lo2a])), (n2a, .inl (cI, 366, .inl nd2b)), (d2a, .inl (cI, 367, .inl dn2b)), (mna, .inr (2, [.ref qka, .ref qba, .ref qpa, .int szb])), (qka, .inl (cI, 60, .inl kib)), (qba, .inl (cI, 60, .inl bib)), (qpa, .inl (cI, 60, .inl pab)), (lwa, .inl (cI, 5, .inl lab)), (nw, .inr (1, [.ref j1b, .ref j2b, .ref mnb, .ref lwb, .int cutb, .int leastb, .ref sdb, .ref srb])), (j1b, .inr (0, [.int se1b, .int sh1b, .int sp1b, .int de1b, .int (b2i po1b), .ref n1b, .ref d1b, .ref r1b, .ref s1b, .int lo1b])), (n1b, .inl (cI, 366, .inl nd1b)), (d1b, .inl (cI, 367, .inl dn1b)), (j2b, .inr (0, [.int se2b, .int sh2b, .int sp2b, .int de2b, .int (b2i po2b), .ref n2b, .ref d2b, .ref r2b, .ref s2b, .int lo2b])), (n2b, .inl (cI, 366, .inl nd2b)), (d2b, .inl (cI, 367, .inl dn2b)), (mnb, .inr (2, [.ref qkb, .ref qbb, .ref qpb, .int szb])), (qkb, .inl (cI, 60, .inl kib)), (qbb, .inl (cI, 60, .inl bib)), (qpb, .inl (cI, 60, .inl pab)), (lwb, .inl (cI, 5, .inl lab))]) (fun _ => q_put_seg [(o, .inr (6, [.ref tp, .ref nw, .ref th, .int im, .ref rf, .ref rt]))] [(th, .inr (1, [.ref j1a, .ref j2a, .ref mna, .ref lwa, .int cuta, .int leasta, .ref sda, .ref sra])), (j1a, .inr (0, [.int se1a, .int sh1a, .int sp1a, .int de1a, .int (b2i po1a), .ref n1a, .ref d1a, .ref r1a, .ref s1a, .int lo1a])), (n1a, .inl (cI, 366, .inl nd1a)), (d1a, .inl (cI, 367, .inl dn1a)), (j2a, .inr (0, [.int se2a, .int sh2a, .int sp2a, .int de2a, .int (b2i po2a), .ref n2a, .ref d2a, .ref r2a, .ref s2a, .int lo2a])), (n2a, .inl (cI, 366, .inl nd2a)), (d2a, .inl (cI, 367, .inl dn2a)), (mna, .inr (2, [.ref qka, .ref qba, .ref qpa, .int sza])), (qka, .inl (cI, 60, .inl kia)), (qba, .inl (cI, 60, .inl bia)), (qpa, .inl (cI, 60, .inl paa)), (lwa, .inl (cI, 5, .inl laa)), (nw, .inr (1, [.ref j1b, .ref j2b, .ref mnb, .ref lwb, .int cutb, .int leastb, .ref sdb, .ref srb])), (j1b, .inr (0, [.int se1b, .int sh1b, .int sp1b, .int de1b, .int (b2i po1b), .ref n1b, .ref d1b, .ref r1b, .ref s1b, .int lo1b])), (n1b, .inl (cI, 366, .inl nd1b)), (d1b, .inl (cI, 367, .inl dn1b)), (j2b, .inr (0, [.int se2b, .int sh2b, .int sp2b, .int de2b, .int (b2i po2b), .ref n2b, .ref d2b, .ref r2b, .ref s2b, .int lo2b])), (n2b, .inl (cI, 366, .inl nd2b)), (d2b, .inl (cI, 367, .inl dn2b)), (mnb, .inr (2, [.ref qkb, .ref qbb, .ref qpb, .int szb])), (qkb, .inl (cI, 60, .inl kib)), (qbb, .inl (cI, 60, .inl bib)), (qpb, .inl (cI, 60, .inl pab)), (lwb, .inl (cI, 5, .inl lab))] [] rfl rfl rfl rfl) (fun _ H locs hF hst => ?_)
  refine lv_aload_n hx hb dX6_image_11 rfl (lv_at hl 0 rfl) ?_
  refine lv_iconst (v := 1) hx hb dX6_image_12 (by decide) ?_
  refine pf_X6_26 hE hst 0 rfl (rfl) (rfl) (Nat.le_of_ble_eq_true rfl) [(o, .inr (6, [.ref tp, .ref nw, .ref th, .int 1, .ref rf, .ref rt])), (th, .inr (1, [.ref j1a, .ref j2a, .ref mna, .ref lwa, .int cutb, .int leastb, .ref sda, .ref sra])), (j1a, .inr (0, [.int se1b, .int sh1b, .int sp1b, .int de1b, .int (b2i po1b), .ref n1a, .ref d1a, .ref r1a, .ref s1a, .int lo1a])), (n1a, .inl (cI, 366, .inl nd1b)), (d1a, .inl (cI, 367, .inl dn1b)), (j2a, .inr (0, [.int se2b, .int sh2b, .int sp2b, .int de2b, .int (b2i po2b), .ref n2a, .ref d2a, .ref r2a, .ref s2a, .int lo2a])), (n2a, .inl (cI, 366, .inl nd2b)), (d2a, .inl (cI, 367, .inl dn2b)), (mna, .inr (2, [.ref qka, .ref qba, .ref qpa, .int szb])), (qka, .inl (cI, 60, .inl kib)), (qba, .inl (cI, 60, .inl bib)), (qpa, .inl (cI, 60, .inl pab)), (lwa, .inl (cI, 5, .inl lab)), (nw, .inr (1, [.ref j1b, .ref j2b, .ref mnb, .ref lwb, .int cutb, .int leastb, .ref sdb, .ref srb])), (j1b, .inr (0, [.int se1b, .int sh1b, .int sp1b, .int de1b, .int (b2i po1b), .ref n1b, .ref d1b, .ref r1b, .ref s1b, .int lo1b])), (n1b, .inl (cI, 366, .inl nd1b)), (d1b, .inl (cI, 367, .inl dn1b)), (j2b, .inr (0, [.int se2b, .int sh2b, .int sp2b, .int de2b, .int (b2i po2b), .ref n2b, .ref d2b, .ref r2b, .ref s2b, .int lo2b])), (n2b, .inl (cI, 366, .inl nd2b)), (d2b, .inl (cI, 367, .inl dn2b)), (mnb, .inr (2, [.ref qkb, .ref qbb, .ref qpb, .int szb])), (qkb, .inl (cI, 60, .inl kib)), (qbb, .inl (cI, 60, .inl bib)), (qpb, .inl (cI, 60, .inl pab)), (lwb, .inl (cI, 5, .inl lab))] rfl dX6_image_13 (fun H locs hst => ?_)
  refine lv_aload_n hx hb dX6_image_16 rfl (lv_at hl 0 rfl) ?_
  refine gf_X6_23 hE hst 0 rfl rfl dX6_image_17 ?_
  refine gf_X6_61 hE hst 1 rfl rfl dX6_image_20 ?_
  refine gf_X6_65 hE hst 8 rfl rfl dX6_image_23 ?_
  exact q_retI hQ hE hr hk hst () (rfl) (trivial) (rfl) dX6_image_26
set_option maxHeartbeats 4000000 in
set_option maxRecDepth 100000 in
theorem c_X6_on_t (l : Launch) (D : va_G) (cI cJ cZ : ClassId) (o : Nat) (tp : Nat) (nw : Nat) (th : Nat) (rf : Nat) (rt : Nat) (im : Int32) (ru : Nat → Int32) (j1a : Nat) (j2a : Nat) (mna : Nat) (lwa : Nat) (sda : Nat) (sra : Nat) (n1a : Nat) (d1a : Nat) (r1a : Nat) (s1a : Nat) (n2a : Nat) (d2a : Nat) (r2a : Nat) (s2a : Nat) (qka : Nat) (qba : Nat) (qpa : Nat) (cuta : Int32) (leasta : Int32) (se1a : Int32) (sh1a : Int32) (sp1a : Int32) (de1a : Int32) (lo1a : Int32) (se2a : Int32) (sh2a : Int32) (sp2a : Int32) (de2a : Int32) (lo2a : Int32) (sza : Int32) (po1a : Bool) (po2a : Bool) (nd1a : Nat → Int32) (dn1a : Nat → Int32) (nd2a : Nat → Int32) (dn2a : Nat → Int32) (kia : Nat → Int32) (bia : Nat → Int32) (paa : Nat → Int32) (laa : Nat → Int32) (j1b : Nat) (j2b : Nat) (mnb : Nat) (lwb : Nat) (sdb : Nat) (srb : Nat) (n1b : Nat) (d1b : Nat) (r1b : Nat) (s1b : Nat) (n2b : Nat) (d2b : Nat) (r2b : Nat) (s2b : Nat) (qkb : Nat) (qbb : Nat) (qpb : Nat) (cutb : Int32) (leastb : Int32) (se1b : Int32) (sh1b : Int32) (sp1b : Int32) (de1b : Int32) (lo1b : Int32) (se2b : Int32) (sh2b : Int32) (sp2b : Int32) (de2b : Int32) (lo2b : Int32) (szb : Int32) (po1b : Bool) (po2b : Bool) (nd1b : Nat → Int32) (dn1b : Nat → Int32) (nd2b : Nat → Int32) (dn2b : Nat → Int32) (kib : Nat → Int32) (bib : Nat → Int32) (pab : Nat → Int32) (lab : Nat → Int32) : CtI l D cI cJ cZ yX6_on cX6_on 1 (some .int) 4 [.ref o] [(o, .inr (6, [.ref tp, .ref nw, .ref th, .int 1, .ref rf, .ref rt])), (rf, .inl (cI, 7, .inl ru)), (nw, .inr (1, [.ref j1a, .ref j2a, .ref mna, .ref lwa, .int cuta, .int leasta, .ref sda, .ref sra])), (j1a, .inr (0, [.int se1a, .int sh1a, .int sp1a, .int de1a, .int (b2i po1a), .ref n1a, .ref d1a, .ref r1a, .ref s1a, .int lo1a])), (n1a, .inl (cI, 366, .inl nd1a)), (d1a, .inl (cI, 367, .inl dn1a)), (j2a, .inr (0, [.int se2a, .int sh2a, .int sp2a, .int de2a, .int (b2i po2a), .ref n2a, .ref d2a, .ref r2a, .ref s2a, .int lo2a])), (n2a, .inl (cI, 366, .inl nd2a)), (d2a, .inl (cI, 367, .inl dn2a)), (mna, .inr (2, [.ref qka, .ref qba, .ref qpa, .int sza])), (qka, .inl (cI, 60, .inl kia)), (qba, .inl (cI, 60, .inl bia)), (qpa, .inl (cI, 60, .inl paa)), (lwa, .inl (cI, 5, .inl laa)), (th, .inr (1, [.ref j1b, .ref j2b, .ref mnb, .ref lwb, .int cutb, .int leastb, .ref sdb, .ref srb])), (j1b, .inr (0, [.int se1b, .int sh1b, .int sp1b, .int de1b, .int (b2i po1b), .ref n1b, .ref d1b, .ref r1b, .ref s1b, .int lo1b])), (n1b, .inl (cI, 366, .inl nd1b)), (d1b, .inl (cI, 367, .inl dn1b)), (j2b, .inr (0, [.int se2b, .int sh2b, .int sp2b, .int de2b, .int (b2i po2b), .ref n2b, .ref d2b, .ref r2b, .ref s2b, .int lo2b])), (n2b, .inl (cI, 366, .inl nd2b)), (d2b, .inl (cI, 367, .inl dn2b)), (mnb, .inr (2, [.ref qkb, .ref qbb, .ref qpb, .int szb])), (qkb, .inl (cI, 60, .inl kib)), (qbb, .inl (cI, 60, .inl bib)), (qpb, .inl (cI, 60, .inl pab)), (lwb, .inl (cI, 5, .inl lab))] (fun (_ : Unit) => szb) (fun (_ : Unit) => True) (fun (_ : Unit) => [(o, .inr (6, [.ref tp, .ref nw, .ref th, .int 1, .ref rf, .ref rt])), (rf, .inl (cI, 7, .inl ru)), (nw, .inr (1, [.ref j1a, .ref j2a, .ref mna, .ref lwa, .int cutb, .int leastb, .ref sda, .ref sra])), (j1a, .inr (0, [.int se1b, .int sh1b, .int sp1b, .int de1b, .int (b2i po1b), .ref n1a, .ref d1a, .ref r1a, .ref s1a, .int lo1a])), (n1a, .inl (cI, 366, .inl nd1b)), (d1a, .inl (cI, 367, .inl dn1b)), (j2a, .inr (0, [.int se2b, .int sh2b, .int sp2b, .int de2b, .int (b2i po2b), .ref n2a, .ref d2a, .ref r2a, .ref s2a, .int lo2a])), (n2a, .inl (cI, 366, .inl nd2b)), (d2a, .inl (cI, 367, .inl dn2b)), (mna, .inr (2, [.ref qka, .ref qba, .ref qpa, .int szb])), (qka, .inl (cI, 60, .inl kib)), (qba, .inl (cI, 60, .inl bib)), (qpa, .inl (cI, 60, .inl pab)), (lwa, .inl (cI, 5, .inl lab)), (th, .inr (1, [.ref j1b, .ref j2b, .ref mnb, .ref lwb, .int cutb, .int leastb, .ref sdb, .ref srb])), (j1b, .inr (0, [.int se1b, .int sh1b, .int sp1b, .int de1b, .int (b2i po1b), .ref n1b, .ref d1b, .ref r1b, .ref s1b, .int lo1b])), (n1b, .inl (cI, 366, .inl nd1b)), (d1b, .inl (cI, 367, .inl dn1b)), (j2b, .inr (0, [.int se2b, .int sh2b, .int sp2b, .int de2b, .int (b2i po2b), .ref n2b, .ref d2b, .ref r2b, .ref s2b, .int lo2b])), (n2b, .inl (cI, 366, .inl nd2b)), (d2b, .inl (cI, 367, .inl dn2b)), (mnb, .inr (2, [.ref qkb, .ref qbb, .ref qpb, .int szb])), (qkb, .inl (cI, 60, .inl kib)), (qbb, .inl (cI, 60, .inl bib)), (qpb, .inl (cI, 60, .inl pab)), (lwb, .inl (cI, 5, .inl lab))]) := by
  refine q_entI (own := RX6) rfl rfl (Nat.le_of_ble_eq_true rfl) ?_
  intro p e s m args below meth c A ls QQ hQ hE hx hb hr hk hin hA hl hst
  have hl : lv_has ls 1 [(0, .ref o)] := hl
  refine lv_aload_n hx hb dX6_on_0 rfl (lv_at hl 0 rfl) ?_
  refine gf_X6_26 hE hst 0 rfl rfl dX6_on_1 ?_
  refine lv_if_ne (tgt := 14) hx hb dX6_on_4 (by decide) (fun c_4 => ?_) (fun c_4 => ?_)
  · skip
    refine lv_aload_n hx hb dX6_on_14 rfl (lv_at hl 0 rfl) ?_
    refine gf_X6_19 hE hst 0 rfl rfl dX6_on_15 ?_
    refine lv_aload_n hx hb dX6_on_18 rfl (lv_at hl 0 rfl) ?_
    refine gf_X6_23 hE hst 0 rfl rfl dX6_on_19 ?_
    refine q_goV (q_rNV hE lk_X6_224 (c_X1_copyLottery l D cI cJ cZ nw th j1a j2a mna lwa sda sra n1a d1a r1a s1a n2a d2a r2a s2a qka qba qpa cuta leasta se1a sh1a sp1a de1a lo1a se2a sh2a sp2a de2a lo2a sza po1a po2a nd1a dn1a nd2a dn2a kia bia paa laa j1b j2b mnb lwb sdb srb n1b d1b r1b s1b n2b d2b r2b s2b qkb qbb qpb cutb leastb se1b sh1b sp1b de1b lo1b se2b sh2b sp2b de2b lo2b szb po1b po2b nd1b dn1b nd2b dn2b kib bib pab lab s.heap.size) hst [2, 3, 4, 5, 6, 7, 8, 9, 10, 11, 12, 13, 14, 15, 16, 17, 18, 19, 20, 21, 22, 23, 24, 25] rfl rfl rfl rfl rfl hl.1 ⟨(Nat.le_of_ble_eq_true rfl), (Nat.le_of_ble_eq_true rfl)⟩ (rest := []) rfl (Nat.le_of_ble_eq_true rfl) dX6_on_22 ⟨(Nat.le_of_ble_eq_true rfl), (Nat.le_of_ble_eq_true rfl)⟩) hE hst [2, 3, 4, 5, 6, 7, 8, 9, 10, 11, 12, 13, 14, 15, 16, 17, 18, 19, 20, 21, 22, 23, 24, 25] rfl (fun _ => rfl) (fun (_ : Unit) => [(o, .inr (6, [.ref tp, .ref nw, .ref th, .int 1, .ref rf, .ref rt])), (rf, .inl (cI, 7, .inl ru)), (nw, .inr (1, [.ref j1a, .ref j2a, .ref mna, .ref lwa, .int cutb, .int leastb, .ref sda, .ref sra])), (j1a, .inr (0, [.int se1b, .int sh1b, .int sp1b, .int de1b, .int (b2i po1b), .ref n1a, .ref d1a, .ref r1a, .ref s1a, .int lo1a])), (n1a, .inl (cI, 366, .inl nd1b)), (d1a, .inl (cI, 367, .inl dn1b)), (j2a, .inr (0, [.int se2b, .int sh2b, .int sp2b, .int de2b, .int (b2i po2b), .ref n2a, .ref d2a, .ref r2a, .ref s2a, .int lo2a])), (n2a, .inl (cI, 366, .inl nd2b)), (d2a, .inl (cI, 367, .inl dn2b)), (mna, .inr (2, [.ref qka, .ref qba, .ref qpa, .int szb])), (qka, .inl (cI, 60, .inl kib)), (qba, .inl (cI, 60, .inl bib)), (qpa, .inl (cI, 60, .inl pab)), (lwa, .inl (cI, 5, .inl lab)), (th, .inr (1, [.ref j1b, .ref j2b, .ref mnb, .ref lwb, .int cutb, .int leastb, .ref sdb, .ref srb])), (j1b, .inr (0, [.int se1b, .int sh1b, .int sp1b, .int de1b, .int (b2i po1b), .ref n1b, .ref d1b, .ref r1b, .ref s1b, .int lo1b])), (n1b, .inl (cI, 366, .inl nd1b)), (d1b, .inl (cI, 367, .inl dn1b)), (j2b, .inr (0, [.int se2b, .int sh2b, .int sp2b, .int de2b, .int (b2i po2b), .ref n2b, .ref d2b, .ref r2b, .ref s2b, .int lo2b])), (n2b, .inl (cI, 366, .inl nd2b)), (d2b, .inl (cI, 367, .inl dn2b)), (mnb, .inr (2, [.ref qkb, .ref qbb, .ref qpb, .int szb])), (qkb, .inl (cI, 60, .inl kib)), (qbb, .inl (cI, 60, .inl bib)), (qpb, .inl (cI, 60, .inl pab)), (lwb, .inl (cI, 5, .inl lab))]) (fun _ => q_put_seg [(o, .inr (6, [.ref tp, .ref nw, .ref th, .int 1, .ref rf, .ref rt])), (rf, .inl (cI, 7, .inl ru))] [(nw, .inr (1, [.ref j1a, .ref j2a, .ref mna, .ref lwa, .int cuta, .int leasta, .ref sda, .ref sra])), (j1a, .inr (0, [.int se1a, .int sh1a, .int sp1a, .int de1a, .int (b2i po1a), .ref n1a, .ref d1a, .ref r1a, .ref s1a, .int lo1a])), (n1a, .inl (cI, 366, .inl nd1a)), (d1a, .inl (cI, 367, .inl dn1a)), (j2a, .inr (0, [.int se2a, .int sh2a, .int sp2a, .int de2a, .int (b2i po2a), .ref n2a, .ref d2a, .ref r2a, .ref s2a, .int lo2a])), (n2a, .inl (cI, 366, .inl nd2a)), (d2a, .inl (cI, 367, .inl dn2a)), (mna, .inr (2, [.ref qka, .ref qba, .ref qpa, .int sza])), (qka, .inl (cI, 60, .inl kia)), (qba, .inl (cI, 60, .inl bia)), (qpa, .inl (cI, 60, .inl paa)), (lwa, .inl (cI, 5, .inl laa)), (th, .inr (1, [.ref j1b, .ref j2b, .ref mnb, .ref lwb, .int cutb, .int leastb, .ref sdb, .ref srb])), (j1b, .inr (0, [.int se1b, .int sh1b, .int sp1b, .int de1b, .int (b2i po1b), .ref n1b, .ref d1b, .ref r1b, .ref s1b, .int lo1b])), (n1b, .inl (cI, 366, .inl nd1b)), (d1b, .inl (cI, 367, .inl dn1b)), (j2b, .inr (0, [.int se2b, .int sh2b, .int sp2b, .int de2b, .int (b2i po2b), .ref n2b, .ref d2b, .ref r2b, .ref s2b, .int lo2b])), (n2b, .inl (cI, 366, .inl nd2b)), (d2b, .inl (cI, 367, .inl dn2b)), (mnb, .inr (2, [.ref qkb, .ref qbb, .ref qpb, .int szb])), (qkb, .inl (cI, 60, .inl kib)), (qbb, .inl (cI, 60, .inl bib)), (qpb, .inl (cI, 60, .inl pab)), (lwb, .inl (cI, 5, .inl lab))] [] rfl rfl rfl rfl) (fun _ H locs hF hst => ?_)
    refine lv_aload_n hx hb dX6_on_25 rfl (lv_at hl 0 rfl) ?_
    refine gf_X6_19 hE hst 0 rfl rfl dX6_on_26 ?_
    refine gf_X6_61 hE hst 2 rfl rfl dX6_on_29 ?_
    refine gf_X6_65 hE hst 9 rfl rfl dX6_on_32 ?_
    exact q_retI hQ hE hr hk hst () (rfl) (trivial) (rfl) dX6_on_35
  · skip
    exact absurd c_4 (by decide)
set_option maxHeartbeats 4000000 in
set_option maxRecDepth 100000 in
theorem c_X6_on_f (l : Launch) (D : va_G) (cI cJ cZ : ClassId) (o : Nat) (tp : Nat) (nw : Nat) (th : Nat) (rf : Nat) (rt : Nat) (im : Int32) (ru : Nat → Int32) : CtI l D cI cJ cZ yX6_on cX6_on 1 (some .int) 4 [.ref o] [(o, .inr (6, [.ref tp, .ref nw, .ref th, .int 0, .ref rf, .ref rt])), (rf, .inl (cI, 7, .inl ru))] (fun (_ : Unit) => -3) (fun (_ : Unit) => True) (fun (_ : Unit) => [(o, .inr (6, [.ref tp, .ref nw, .ref th, .int 0, .ref rf, .ref rt])), (rf, .inl (cI, 7, .inl (bmp ru (-3))))]) := by
  refine q_entI (own := RX6) rfl rfl (Nat.le_of_ble_eq_true rfl) ?_
  intro p e s m args below meth c A ls QQ hQ hE hx hb hr hk hin hA hl hst
  have hl : lv_has ls 1 [(0, .ref o)] := hl
  refine lv_aload_n hx hb dX6_on_0 rfl (lv_at hl 0 rfl) ?_
  refine gf_X6_26 hE hst 0 rfl rfl dX6_on_1 ?_
  refine lv_if_ne (tgt := 14) hx hb dX6_on_4 (by decide) (fun c_4 => ?_) (fun c_4 => ?_)
  · skip
    exact absurd rfl c_4
  · skip
    refine lv_aload_n hx hb dX6_on_7 rfl (lv_at hl 0 rfl) ?_
    refine lv_bipush (v := (-3)) hx hb dX6_on_8 (by decide) ?_
    refine q_goI (q_rV hE lk_X6_49 (c_X6_refuse l D cI cJ cZ o tp nw th rf rt 0 ru (-3) (by rw [vp_in_iff]; decide) s.heap.size) hst [0, 1] rfl rfl rfl rfl rfl hl.1 ⟨(Nat.le_of_ble_eq_true rfl), (Nat.le_of_ble_eq_true rfl)⟩ (rest := []) rfl (Nat.le_of_ble_eq_true rfl) dX6_on_10 ⟨(Nat.le_of_ble_eq_true rfl), (Nat.le_of_ble_eq_true rfl)⟩) hE hst [0, 1] rfl (fun _ => rfl) (fun (_ : Unit) => [(o, .inr (6, [.ref tp, .ref nw, .ref th, .int 0, .ref rf, .ref rt])), (rf, .inl (cI, 7, .inl (bmp ru (-3))))]) (fun _ => rfl) (fun _ H locs hF hst => ?_)
    exact q_retI hQ hE hr hk hst () (rfl) (trivial) (rfl) dX6_on_13
