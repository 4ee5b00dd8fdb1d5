set_option maxHeartbeats 4000000 in
set_option maxRecDepth 100000 in
theorem c_X6_number (l : Launch) (D : va_G) (cI cJ cZ : ClassId) (o : Nat) (tp : Nat) (nw : Nat) (th : Nat) (rf : Nat) (rt : Nat) (im : Int32) (ru : Nat → Int32) (j1 : Nat) (j2 : Nat) (mn : Nat) (lw : Nat) (sd : Nat) (sr : Nat) (cut : Int32) (least : Int32) (g : Nat) (gn : Nat) (gd : Nat) (gr : Nat) (gs : Nat) (se : Int32) (sh : Int32) (sp : Int32) (de : Int32) (po : Int32) (lo : Int32) (nd : Nat → Int32) (p0 : Int32) (p1 : Int32) (hsel : isJarB p0 = true → (if p0 = 0 then j1 else j2) = g) : CtI l D cI cJ cZ yX6_number cX6_number 3 (some .int) 2 [.ref o, .int p0, .int p1] [(o, .inr (6, [.ref tp, .ref nw, .ref th, .int im, .ref rf, .ref rt])), (rf, .inl (cI, 7, .inl ru)), (nw, .inr (1, [.ref j1, .ref j2, .ref mn, .ref lw, .int cut, .int least, .ref sd, .ref sr])), (g, .inr (0, [.int se, .int sh, .int sp, .int de, .int po, .ref gn, .ref gd, .ref gr, .ref gs, .int lo])), (gn, .inl (cI, 366, .inl nd))] (fun (_ : Unit) => if (isJarB p0 && (!decide (p1 < 0) && decide (p1 < 366))) = true then atI 366 nd p1 else -1) (fun (_ : Unit) => True) (fun (_ : Unit) => [(o, .inr (6, [.ref tp, .ref nw, .ref th, .int im, .ref rf, .ref rt])), (rf, .inl (cI, 7, .inl (if (isJarB p0 && (!decide (p1 < 0) && decide (p1 < 366))) = true then ru else bmp ru (-1)))), (nw, .inr (1, [.ref j1, .ref j2, .ref mn, .ref lw, .int cut, .int least, .ref sd, .ref sr])), (g, .inr (0, [.int se, .int sh, .int sp, .int de, .int po, .ref gn, .ref gd, .ref gr, .ref gs, .int lo])), (gn, .inl (cI, 366, .inl nd))]) := by
  refine q_entI (own := RX6) rfl rfl (Nat.le_of_ble_eq_true rfl) ?_
  intro p e s m args below meth c A ls QQ hQ hE hx hb hr hk hin hA hl hst
  have hl : lv_has ls 3 [(0, .ref o), (1, .int p0), (2, .int p1)] := hl
  refine lv_iload_n hx hb dX6_number_0 rfl (lv_at hl 1 rfl) ?_
  refine q_goI (q_rS hE lk_X6_90 (c_X6_isJar l D cI cJ cZ p0 s.heap.size) hst [] rfl rfl rfl hl.1 ⟨(Nat.le_of_ble_eq_true rfl), (Nat.le_of_ble_eq_true rfl)⟩ (rest := []) rfl (Nat.le_of_ble_eq_true rfl) dX6_number_1 ⟨(Nat.le_of_ble_eq_true rfl), (Nat.le_of_ble_eq_true rfl)⟩) hE hst [] rfl (fun _ => rfl) (fun (_ : Unit) => [(o, .inr (6, [.ref tp, .ref nw, .ref th, .int im, .ref rf, .ref rt])), (rf, .inl (cI, 7, .inl ru)), (nw, .inr (1, [.ref j1, .ref j2, .ref mn, .ref lw, .int cut, .int least, .ref sd, .ref sr])), (g, .inr (0, [.int se, .int sh, .int sp, .int de, .int po, .ref gn, .ref gd, .ref gr, .ref gs, .int lo])), (gn, .inl (cI, 366, .inl nd))]) (fun _ => rfl) (fun _ H locs hF hst => ?_)
  refine lv_if_eq (tgt := 18) hx hb dX6_number_4 (by decide) (fun c_4 => ?_) (fun c_4 => ?_)
  · skip
    have c_4 := b2i_f c_4
    refine lv_aload_n hx hb dX6_number_18 rfl (lv_at hl 0 rfl) ?_
    refine lv_iconst (v := (-1)) hx hb dX6_number_19 (by decide) ?_
    refine q_goI (q_rV hE lk_X6_49 (c_X6_refuse l D cI cJ cZ o tp nw th rf rt im ru (-1) (by rw [vp_in_iff]; decide) H.size) hst [0, 1] rfl rfl rfl rfl rfl hl.1 ⟨(Nat.le_of_ble_eq_true rfl), (Nat.le_of_ble_eq_true rfl)⟩ (rest := []) rfl (Nat.le_of_ble_eq_true rfl) dX6_number_20 ⟨(Nat.le_of_ble_eq_true rfl), (Nat.le_of_ble_eq_true rfl)⟩) hE hst [0, 1] rfl (fun _ => rfl) (fun (_ : Unit) => [(o, .inr (6, [.ref tp, .ref nw, .ref th, .int im, .ref rf, .ref rt])), (rf, .inl (cI, 7, .inl (bmp ru (-1)))), (nw, .inr (1, [.ref j1, .ref j2, .ref mn, .ref lw, .int cut, .int least, .ref sd, .ref sr])), (g, .inr (0, [.int se, .int sh, .int sp, .int de, .int po, .ref gn, .ref gd, .ref gr, .ref gs, .int lo])), (gn, .inl (cI, 366, .inl nd))]) (fun _ => rfl) (fun _ H locs hF hst => ?_)
    exact q_retI hQ hE hr hk hst () (by rw [if_neg (by rw [c_4, Bool.false_and]; decide)]) (trivial) (by rw [if_neg (by rw [c_4, Bool.false_and]; decide)]) dX6_number_23
  · skip
    have c_4 := b2i_t c_4
    have hjr := c_4
    refine lv_iload_n hx hb dX6_number_7 rfl (lv_at hl 2 rfl) ?_
    refine lv_if_lt (tgt := 18) hx hb dX6_number_8 (by decide) (fun c_8 => ?_) (fun c_8 => ?_)
    · skip
      refine lv_aload_n hx hb dX6_number_18 rfl (lv_at hl 0 rfl) ?_
      refine lv_iconst (v := (-1)) hx hb dX6_number_19 (by decide) ?_
      refine q_goI (q_rV hE lk_X6_49 (c_X6_refuse l D cI cJ cZ o tp nw th rf rt im ru (-1) (by rw [vp_in_iff]; decide) H.size) hst [0, 1] rfl rfl rfl rfl rfl hl.1 ⟨(Nat.le_of_ble_eq_true rfl), (Nat.le_of_ble_eq_true rfl)⟩ (rest := []) rfl (Nat.le_of_ble_eq_true rfl) dX6_number_20 ⟨(Nat.le_of_ble_eq_true rfl), (Nat.le_of_ble_eq_true rfl)⟩) hE hst [0, 1] rfl (fun _ => rfl) (fun (_ : Unit) => [(o, .inr (6, [.ref tp, .ref nw, .ref th, .int im, .ref rf, .ref rt])), (rf, .inl (cI, 7, .inl (bmp ru (-1)))), (nw, .inr (1, [.ref j1, .ref j2, .ref mn, .ref lw, .int cut, .int least, .ref sd, .ref sr])), (g, .inr (0, [.int se, .int sh, .int sp, .int de, .int po, .ref gn, .ref gd, .ref gr, .ref gs, .int lo])), (gn, .inl (cI, 366, .inl nd))]) (fun _ => rfl) (fun _ H locs hF hst => ?_)
      exact q_retI hQ hE hr hk hst () (by rw [if_neg (by rw [c_4, decide_eq_true c_8, Bool.not_true, Bool.false_and, Bool.and_false]; decide)]) (trivial) (by rw [if_neg (by rw [c_4, decide_eq_true c_8, Bool.not_true, Bool.false_and, Bool.and_false]; decide)]) dX6_number_23
    · skip
      refine lv_iload_n hx hb dX6_number_11 rfl (lv_at hl 2 rfl) ?_
      refine lv_sipush (v := 366) hx hb dX6_number_12 (by decide) ?_
      refine lv_icmp_lt (tgt := 24) hx hb dX6_number_15 (by decide) (fun c_15 => ?_) (fun c_15 => ?_)
      · skip
        refine lv_aload_n hx hb dX6_number_24 rfl (lv_at hl 0 rfl) ?_
        refine gf_X6_19 hE hst 0 rfl rfl dX6_number_25 ?_
        refine lv_iload_n hx hb dX6_number_28 rfl (lv_at hl 1 rfl) ?_
        refine q_goR (q_rNV hE lk_X6_93 (c_X1_jarAt l D cI cJ cZ nw j1 j2 mn lw sd sr cut least p0 H.size) hst [2] rfl rfl rfl rfl rfl hl.1 ⟨(Nat.le_of_ble_eq_true rfl), (Nat.le_of_ble_eq_true rfl)⟩ (rest := []) rfl (Nat.le_of_ble_eq_true rfl) dX6_number_29 ⟨(Nat.le_of_ble_eq_true rfl), (Nat.le_of_ble_eq_true rfl)⟩) hE hst [2] rfl (fun _ => rfl) (fun (_ : Unit) => [(o, .inr (6, [.ref tp, .ref nw, .ref th, .int im, .ref rf, .ref rt])), (rf, .inl (cI, 7, .inl ru)), (nw, .inr (1, [.ref j1, .ref j2, .ref mn, .ref lw, .int cut, .int least, .ref sd, .ref sr])), (g, .inr (0, [.int se, .int sh, .int sp, .int de, .int po, .ref gn, .ref gd, .ref gr, .ref gs, .int lo])), (gn, .inl (cI, 366, .inl nd))]) (fun _ => rfl) (fun _ H locs hF hst => ?_)
        refine q_topR (x' := g) (hsel hjr) ?_
        refine lv_iload_n hx hb dX6_number_32 rfl (lv_at hl 2 rfl) ?_
        refine q_goI (q_rNV hE lk_X6_107 (c_X0_numberAt l D cI cJ cZ g gn gd gr gs se sh sp de po lo p1 nd H.size) hst [3, 4] rfl rfl rfl rfl rfl hl.1 ⟨(Nat.le_of_ble_eq_true rfl), (Nat.le_of_ble_eq_true rfl)⟩ (rest := []) rfl (Nat.le_of_ble_eq_true rfl) dX6_number_33 ⟨(Nat.le_of_ble_eq_true rfl), (Nat.le_of_ble_eq_true rfl)⟩) hE hst [3, 4] rfl (fun _ => rfl) (fun (_ : Unit) => [(o, .inr (6, [.ref tp, .ref nw, .ref th, .int im, .ref rf, .ref rt])), (rf, .inl (cI, 7, .inl ru)), (nw, .inr (1, [.ref j1, .ref j2, .ref mn, .ref lw, .int cut, .int least, .ref sd, .ref sr])), (g, .inr (0, [.int se, .int sh, .int sp, .int de, .int po, .ref gn, .ref gd, .ref gr, .ref gs, .int lo])), (gn, .inl (cI, 366, .inl nd))]) (fun _ => rfl) (fun _ H locs hF hst => ?_)
        exact q_retI hQ hE hr hk hst () (by rw [if_pos (by rw [c_4, decide_eq_false c_8, decide_eq_true c_15]; decide)]) (trivial) (by rw [if_pos (by rw [c_4, decide_eq_false c_8, decide_eq_true c_15]; decide)]) dX6_number_36
      · skip
        refine lv_aload_n hx hb dX6_number_18 rfl (lv_at hl 0 rfl) ?_
        refine lv_iconst (v := (-1)) hx hb dX6_number_19 (by decide) ?_
        refine q_goI (q_rV hE lk_X6_49 (c_X6_refuse l D cI cJ cZ o tp nw th rf rt im ru (-1) (by rw [vp_in_iff]; decide) H.size) hst [0, 1] rfl rfl rfl rfl rfl hl.1 ⟨(Nat.le_of_ble_eq_true rfl), (Nat.le_of_ble_eq_true rfl)⟩ (rest := []) rfl (Nat.le_of_ble_eq_true rfl) dX6_number_20 ⟨(Nat.le_of_ble_eq_true rfl), (Nat.le_of_ble_eq_true rfl)⟩) hE hst [0, 1] rfl (fun _ => rfl) (fun (_ : Unit) => [(o, .inr (6, [.ref tp, .ref nw, .ref th, .int im, .ref rf, .ref rt])), (rf, .inl (cI, 7, .inl (bmp ru (-1)))), (nw, .inr (1, [.ref j1, .ref j2, .ref mn, .ref lw, .int cut, .int least, .ref sd, .ref sr])), (g, .inr (0, [.int se, .int sh, .int sp, .int de, .int po, .ref gn, .ref gd, .ref gr, .ref gs, .int lo])), (gn, .inl (cI, 366, .inl nd))]) (fun _ => rfl) (fun _ H locs hF hst => ?_)
        exact q_retI hQ hE hr hk hst () (by rw [if_neg (by rw [c_4, decide_eq_false c_8, decide_eq_false c_15]; decide)]) (trivial) (by rw [if_neg (by rw [c_4, decide_eq_false c_8, decide_eq_false c_15]; decide)]) dX6_number_23
set_option maxHeartbeats 4000000 in
set_option maxRecDepth 100000 in
theorem c_X6_dayOf (l : Launch) (D : va_G) (cI cJ cZ : ClassId) (o : Nat) (tp : Nat) (nw : Nat) (th : Nat) (rf : Nat) (rt : Nat) (im : Int32) (ru : Nat → Int32) (j1 : Nat) (j2 : Nat) (mn : Nat) (lw : Nat) (sd : Nat) (sr : Nat) (cut : Int32) (least : Int32) (g : Nat) (gn : Nat) (gd : Nat) (gr : Nat) (gs : Nat) (se : Int32) (sh : Int32) (sp : Int32) (de : Int32) (po : Int32) (lo : Int32) (dn : Nat → Int32) (p0 : Int32) (p1 : Int32) (hsel : isJarB p0 = true → (if p0 = 0 then j1 else j2) = g) : CtI l D cI cJ cZ yX6_dayOf cX6_dayOf 4 (some .int) 2 [.ref o, .int p0, .int p1] [(o, .inr (6, [.ref tp, .ref nw, .ref th, .int im, .ref rf, .ref rt])), (rf, .inl (cI, 7, .inl ru)), (nw, .inr (1, [.ref j1, .ref j2, .ref mn, .ref lw, .int cut, .int least, .ref sd, .ref sr])), (g, .inr (0, [.int se, .int sh, .int sp, .int de, .int po, .ref gn, .ref gd, .ref gr, .ref gs, .int lo])), (gd, .inl (cI, 367, .inl dn))] (fun (_ : Unit) => if ftf (!isJarB p0) false (!decide (1 ≤ p1)) (!decide (p1 ≤ 366)) = 0 then atI 367 dn p1 else (ftf (!isJarB p0) false (!decide (1 ≤ p1)) (!decide (p1 ≤ 366)))) (fun (_ : Unit) => True) (fun (_ : Unit) => [(o, .inr (6, [.ref tp, .ref nw, .ref th, .int im, .ref rf, .ref rt])), (rf, .inl (cI, 7, .inl (if ftf (!isJarB p0) false (!decide (1 ≤ p1)) (!decide (p1 ≤ 366)) = 0 then ru else bmp ru (ftf (!isJarB p0) false (!decide (1 ≤ p1)) (!decide (p1 ≤ 366)))))), (nw, .inr (1, [.ref j1, .ref j2, .ref mn, .ref lw, .int cut, .int least, .ref sd, .ref sr])), (g, .inr (0, [.int se, .int sh, .int sp, .int de, .int po, .ref gn, .ref gd, .ref gr, .ref gs, .int lo])), (gd, .inl (cI, 367, .inl dn))]) := by
  refine q_entI (own := RX6) rfl rfl (Nat.le_of_ble_eq_true rfl) ?_
  intro p e s m args below meth c A ls QQ hQ hE hx hb hr hk hin hA hl hst
  have hl : lv_has ls 4 [(0, .ref o), (1, .int p0), (2, .int p1)] := hl
  suffices kJ : ∀ (H : Heap) (locs : List Loc), SS D A s [(o, .inr (6, [.ref tp, .ref nw, .ref th, .int im, .ref rf, .ref rt])), (rf, .inl (cI, 7, .inl ru)), (nw, .inr (1, [.ref j1, .ref j2, .ref mn, .ref lw, .int cut, .int least, .ref sd, .ref sr])), (g, .inr (0, [.int se, .int sh, .int sp, .int de, .int po, .ref gn, .ref gd, .ref gr, .ref gs, .int lo])), (gd, .inl (cI, 367, .inl dn))] H locs → W p l e (rmN 2 0 0) s m args below meth c H locs 0 0 QQ (F0 m 12 ls [.int (b2i (!isJarB p0))]) by
    refine lv_iload_n hx hb dX6_dayOf_0 rfl (lv_at hl 1 rfl) ?_
    refine q_goI (q_rS hE lk_X6_90 (c_X6_isJar l D cI cJ cZ p0 s.heap.size) hst [] rfl rfl rfl hl.1 ⟨(Nat.le_of_ble_eq_true rfl), (Nat.le_of_ble_eq_true rfl)⟩ (rest := []) rfl (Nat.le_of_ble_eq_true rfl) dX6_dayOf_1 ⟨(Nat.le_of_ble_eq_true rfl), (Nat.le_of_ble_eq_true rfl)⟩) hE hst [] rfl (fun _ => rfl) (fun (_ : Unit) => [(o, .inr (6, [.ref tp, .ref nw, .ref th, .int im, .ref rf, .ref rt])), (rf, .inl (cI, 7, .inl ru)), (nw, .inr (1, [.ref j1, .ref j2, .ref mn, .ref lw, .int cut, .int least, .ref sd, .ref sr])), (g, .inr (0, [.int se, .int sh, .int sp, .int de, .int po, .ref gn, .ref gd, .ref gr, .ref gs, .int lo])), (gd, .inl (cI, 367, .inl dn))]) (fun _ => rfl) (fun _ H locs hF hst => ?_)
    refine lv_if_ne (tgt := 11) hx hb dX6_dayOf_4 (by decide) (fun c_4 => ?_) (fun c_4 => ?_)
    · skip
      have c_4 := b2i_t c_4
      refine lv_iconst (v := 0) hx hb dX6_dayOf_11 (by decide) ?_
      have kJ := kJ _ _ hst
      rw [show (b2i (!isJarB p0)) = 0 from (by first | (rw [c_4]; done) | (rw [c_4]; rfl))] at kJ
      exact kJ
    · skip
      have c_4 := b2i_f c_4
      refine lv_iconst (v := 1) hx hb dX6_dayOf_7 (by decide) ?_
      refine lv_goto (tgt := 12) hx hb dX6_dayOf_8 (by decide) ?_
      have kJ := kJ _ _ hst
      rw [show (b2i (!isJarB p0)) = 1 from (by first | (rw [c_4]; done) | (rw [c_4]; rfl))] at kJ
      exact kJ
  intro H locs hst
  refine lv_iconst (v := 0) hx hb dX6_dayOf_12 (by decide) ?_
  suffices kJ : ∀ (H : Heap) (locs : List Loc), SS D A s [(o, .inr (6, [.ref tp, .ref nw, .ref th, .int im, .ref rf, .ref rt])), (rf, .inl (cI, 7, .inl ru)), (nw, .inr (1, [.ref j1, .ref j2, .ref mn, .ref lw, .int cut, .int least, .ref sd, .ref sr])), (g, .inr (0, [.int se, .int sh, .int sp, .int de, .int po, .ref gn, .ref gd, .ref gr, .ref gs, .int lo])), (gd, .inl (cI, 367, .inl dn))] H locs → W p l e (rmN 2 0 0) s m args below meth c H locs 0 0 QQ (F0 m 23 ls [.int (b2i (!decide (1 ≤ p1))), .int 0, .int (b2i (!isJarB p0))]) by
    refine lv_iload_n hx hb dX6_dayOf_13 rfl (lv_at hl 2 rfl) ?_
    refine lv_iconst (v := 1) hx hb dX6_dayOf_14 (by decide) ?_
    refine lv_icmp_ge (tgt := 22) hx hb dX6_dayOf_15 (by decide) (fun c_15 => ?_) (fun c_15 => ?_)
    · skip
      refine lv_iconst (v := 0) hx hb dX6_dayOf_22 (by decide) ?_
      have kJ := kJ _ _ hst
      rw [show (b2i (!decide (1 ≤ p1))) = 0 from (by first | (rw [decide_eq_true c_15]; done) | (rw [decide_eq_true c_15]; rfl))] at kJ
      exact kJ
    · skip
      refine lv_iconst (v := 1) hx hb dX6_dayOf_18 (by decide) ?_
      refine lv_goto (tgt := 23) hx hb dX6_dayOf_19 (by decide) ?_
      have kJ := kJ _ _ hst
      rw [show (b2i (!decide (1 ≤ p1))) = 1 from (by first | (rw [decide_eq_false c_15]; done) | (rw [decide_eq_false c_15]; rfl))] at kJ
      exact kJ
  intro H locs hst
  suffices kJ : ∀ (H : Heap) (locs : List Loc), SS D A s [(o, .inr (6, [.ref tp, .ref nw, .ref th, .int im, .ref rf, .ref rt])), (rf, .inl (cI, 7, .inl ru)), (nw, .inr (1, [.ref j1, .ref j2, .ref mn, .ref lw, .int cut, .int least, .ref sd, .ref sr])), (g, .inr (0, [.int se, .int sh, .int sp, .int de, .int po, .ref gn, .ref gd, .ref gr, .ref gs, .int lo])), (gd, .inl (cI, 367, .inl dn))] H locs → W p l e (rmN 2 0 0) s m args below meth c H locs 0 0 QQ (F0 m 35 ls [.int (b2i (!decide (p1 ≤ 366))), .int (b2i (!decide (1 ≤ p1))), .int 0, .int (b2i (!isJarB p0))]) by
    refine lv_iload_n hx hb dX6_dayOf_23 rfl (lv_at hl 2 rfl) ?_
    refine lv_sipush (v := 366) hx hb dX6_dayOf_24 (by decide) ?_
    refine lv_icmp_le (tgt := 34) hx hb dX6_dayOf_27 (by decide) (fun c_27 => ?_) (fun c_27 => ?_)
    · skip
      refine lv_iconst (v := 0) hx hb dX6_dayOf_34 (by decide) ?_
      have kJ := kJ _ _ hst
      rw [show (b2i (!decide (p1 ≤ 366))) = 0 from (by first | (rw [decide_eq_true c_27]; done) | (rw [decide_eq_true c_27]; rfl))] at kJ
      exact kJ
    · skip
      refine lv_iconst (v := 1) hx hb dX6_dayOf_30 (by decide) ?_
      refine lv_goto (tgt := 35) hx hb dX6_dayOf_31 (by decide) ?_
      have kJ := kJ _ _ hst
      rw [show (b2i (!decide (p1 ≤ 366))) = 1 from (by first | (rw [decide_eq_false c_27]; done) | (rw [decide_eq_false c_27]; rfl))] at kJ
      exact kJ
  intro H locs hst
  refine q_goI (q_rS hE lk_X6_45 (c_X6_firstThatFits l D cI cJ cZ (!isJarB p0) false (!decide (1 ≤ p1)) (!decide (p1 ≤ 366)) H.size) hst [] rfl rfl rfl hl.1 ⟨(Nat.le_of_ble_eq_true rfl), (Nat.le_of_ble_eq_true rfl)⟩ (rest := []) rfl (Nat.le_of_ble_eq_true rfl) dX6_dayOf_35 ⟨(Nat.le_of_ble_eq_true rfl), (Nat.le_of_ble_eq_true rfl)⟩) hE hst [] rfl (fun _ => rfl) (fun (_ : Unit) => [(o, .inr (6, [.ref tp, .ref nw, .ref th, .int im, .ref rf, .ref rt])), (rf, .inl (cI, 7, .inl ru)), (nw, .inr (1, [.ref j1, .ref j2, .ref mn, .ref lw, .int cut, .int least, .ref sd, .ref sr])), (g, .inr (0, [.int se, .int sh, .int sp, .int de, .int po, .ref gn, .ref gd, .ref gr, .ref gs, .int lo])), (gd, .inl (cI, 367, .inl dn))]) (fun _ => rfl) (fun _ H locs hF hst => ?_)
  refine lv_istore_n (lv' := [(3, .int (ftf (!isJarB p0) false (!decide (1 ≤ p1)) (!decide (p1 ≤ 366)))), (0, .ref o), (1, .int p0), (2, .int p1)]) hx hb dX6_dayOf_38 rfl hl (by decide) rfl (fun ls hl => ?_)
  refine lv_iload_n hx hb dX6_dayOf_39 rfl (lv_at hl 0 rfl) ?_
  refine lv_if_eq (tgt := 49) hx hb dX6_dayOf_40 (by decide) (fun c_40 => ?_) (fun c_40 => ?_)
  · skip
    obtain ⟨f1, f2, f3, f4⟩ := ftf_1 c_40
    have hjr := not_f f1
    refine lv_aload_n hx hb dX6_dayOf_49 rfl (lv_at hl 1 rfl) ?_
    refine gf_X6_19 hE hst 0 rfl rfl dX6_dayOf_50 ?_
    refine lv_iload_n hx hb dX6_dayOf_53 rfl (lv_at hl 2 rfl) ?_
    refine q_goR (q_rNV hE lk_X6_93 (c_X1_jarAt l D cI cJ cZ nw j1 j2 mn lw sd sr cut least p0 H.size) hst [2] rfl rfl rfl rfl rfl hl.1 ⟨(Nat.le_of_ble_eq_true rfl), (Nat.le_of_ble_eq_true rfl)⟩ (rest := []) rfl (Nat.le_of_ble_eq_true rfl) dX6_dayOf_54 ⟨(Nat.le_of_ble_eq_true rfl), (Nat.le_of_ble_eq_true rfl)⟩) hE hst [2] rfl (fun _ => rfl) (fun (_ : Unit) => [(o, .inr (6, [.ref tp, .ref nw, .ref th, .int im, .ref rf, .ref rt])), (rf, .inl (cI, 7, .inl ru)), (nw, .inr (1, [.ref j1, .ref j2, .ref mn, .ref lw, .int cut, .int least, .ref sd, .ref sr])), (g, .inr (0, [.int se, .int sh, .int sp, .int de, .int po, .ref gn, .ref gd, .ref gr, .ref gs, .int lo])), (gd, .inl (cI, 367, .inl dn))]) (fun _ => rfl) (fun _ H locs hF hst => ?_)
    refine q_topR (x' := g) (hsel hjr) ?_
    refine lv_iload_n hx hb dX6_dayOf_57 rfl (lv_at hl 3 rfl) ?_
    refine q_goI (q_rNV hE lk_X6_110 (c_X0_dayAt l D cI cJ cZ g gn gd gr gs se sh sp de po lo p1 dn H.size) hst [3, 4] rfl rfl rfl rfl rfl hl.1 ⟨(Nat.le_of_ble_eq_true rfl), (Nat.le_of_ble_eq_true rfl)⟩ (rest := []) rfl (Nat.le_of_ble_eq_true rfl) dX6_dayOf_58 ⟨(Nat.le_of_ble_eq_true rfl), (Nat.le_of_ble_eq_true rfl)⟩) hE hst [3, 4] rfl (fun _ => rfl) (fun (_ : Unit) => [(o, .inr (6, [.ref tp, .ref nw, .ref th, .int im, .ref rf, .ref rt])), (rf, .inl (cI, 7, .inl ru)), (nw, .inr (1, [.ref j1, .ref j2, .ref mn, .ref lw, .int cut, .int least, .ref sd, .ref sr])), (g, .inr (0, [.int se, .int sh, .int sp, .int de, .int po, .ref gn, .ref gd, .ref gr, .ref gs, .int lo])), (gd, .inl (cI, 367, .inl dn))]) (fun _ => rfl) (fun _ H locs hF hst => ?_)
    exact q_retI hQ hE hr hk hst () (by rw [if_pos c_40]) (trivial) (by rw [if_pos c_40]) dX6_dayOf_61
  · skip
    refine lv_aload_n hx hb dX6_dayOf_43 rfl (lv_at hl 1 rfl) ?_
    refine lv_iload_n hx hb dX6_dayOf_44 rfl (lv_at hl 0 rfl) ?_
    refine q_goI (q_rV hE lk_X6_49 (c_X6_refuse l D cI cJ cZ o tp nw th rf rt im ru (ftf (!isJarB p0) false (!decide (1 ≤ p1)) (!decide (p1 ≤ 366))) (ftf_in _ _ _ _) H.size) hst [0, 1] rfl rfl rfl rfl rfl hl.1 ⟨(Nat.le_of_ble_eq_true rfl), (Nat.le_of_ble_eq_true rfl)⟩ (rest := []) rfl (Nat.le_of_ble_eq_true rfl) dX6_dayOf_45 ⟨(Nat.le_of_ble_eq_true rfl), (Nat.le_of_ble_eq_true rfl)⟩) hE hst [0, 1] rfl (fun _ => rfl) (fun (_ : Unit) => [(o, .inr (6, [.ref tp, .ref nw, .ref th, .int im, .ref rf, .ref rt])), (rf, .inl (cI, 7, .inl (bmp ru (ftf (!isJarB p0) false (!decide (1 ≤ p1)) (!decide (p1 ≤ 366)))))), (nw, .inr (1, [.ref j1, .ref j2, .ref mn, .ref lw, .int cut, .int least, .ref sd, .ref sr])), (g, .inr (0, [.int se, .int sh, .int sp, .int de, .int po, .ref gn, .ref gd, .ref gr, .ref gs, .int lo])), (gd, .inl (cI, 367, .inl dn))]) (fun _ => rfl) (fun _ H locs hF hst => ?_)
    exact q_retI hQ hE hr hk hst () (by rw [if_neg c_40]) (trivial) (by rw [if_neg c_40]) dX6_dayOf_48
theorem nor_f {a b : Bool} (h : (!a || !b) = false) : a = true ∧ b = true := by cases a <;> cases b <;> first | exact ⟨rfl, rfl⟩ | cases h
set_option maxHeartbeats 4000000 in
set_option maxRecDepth 100000 in
theorem c_X6_mean (l : Launch) (D : va_G) (cI cJ cZ : ClassId) (o : Nat) (tp : Nat) (nw : Nat) (th : Nat) (rf : Nat) (rt : Nat) (im : Int32) (ru : Nat → Int32) (j1 : Nat) (j2 : Nat) (mn : Nat) (lw : Nat) (sd : Nat) (sr : Nat) (cut : Int32) (least : Int32) (g : Nat) (gn : Nat) (gd : Nat) (gr : Nat) (gs : Nat) (se : Int32) (sh : Int32) (sp : Int32) (de : Int32) (po : Int32) (lo : Int32) (nd : Nat → Int32) (ra : Int64) (rb : Int64) (p0 : Int32) (p1 : Int32) (p2 : Int32) (hsel : isJarB p0 = true → (if p0 = 0 then j1 else j2) = g) : CtL l D cI cJ cZ yX6_mean cX6_mean 5 (some .long) 3 [.ref o, .int p0, .int p1, .int p2] [(o, .inr (6, [.ref tp, .ref nw, .ref th, .int im, .ref rf, .ref rt])), (rf, .inl (cI, 7, .inl ru)), (nw, .inr (1, [.ref j1, .ref j2, .ref mn, .ref lw, .int cut, .int least, .ref sd, .ref sr])), (g, .inr (0, [.int se, .int sh, .int sp, .int de, .int po, .ref gn, .ref gd, .ref gr, .ref gs, .int lo])), (gn, .inl (cI, 366, .inl nd)), (rt, .inr (3, [.long ra, .long rb]))] (fun (u : Int64 × Int64) => if ftf (!isJarB p0 || !isMonthB p1) (!isJarB p2) false false = 0 then if p2 = 0 then becA (monS nd p1.toNatClampNeg).toInt64 (nI (mln p1.toNatClampNeg)).toInt64 else becB (monS nd p1.toNatClampNeg).toInt64 (nI (mln p1.toNatClampNeg)).toInt64 else lgR (ftf (!isJarB p0 || !isMonthB p1) (!isJarB p2) false false)) (fun (u : Int64 × Int64) => True) (fun (u : Int64 × Int64) => [(o, .inr (6, [.ref tp, .ref nw, .ref th, .int im, .ref rf, .ref rt])), (rf, .inl (cI, 7, .inl (if ftf (!isJarB p0 || !isMonthB p1) (!isJarB p2) false false = 0 then ru else bmp ru (ftf (!isJarB p0 || !isMonthB p1) (!isJarB p2) false false)))), (nw, .inr (1, [.ref j1, .ref j2, .ref mn, .ref lw, .int cut, .int least, .ref sd, .ref sr])), (g, .inr (0, [.int se, .int sh, .int sp, .int de, .int po, .ref gn, .ref gd, .ref gr, .ref gs, .int lo])), (gn, .inl (cI, 366, .inl nd)), (rt, .inr (3, [.long u.1, .long u.2]))]) := by
  refine q_entL (own := RX6) rfl rfl (Nat.le_of_ble_eq_true rfl) ?_
  intro p e s m args below meth c A ls QQ hQ hE hx hb hr hk hin hA hl hst
  have hl : lv_has ls 5 [(0, .ref o), (1, .int p0), (2, .int p1), (3, .int p2)] := hl
  suffices kJ : ∀ (H : Heap) (locs : List Loc), SS D A s [(o, .inr (6, [.ref tp, .ref nw, .ref th, .int im, .ref rf, .ref rt])), (rf, .inl (cI, 7, .inl ru)), (nw, .inr (1, [.ref j1, .ref j2, .ref mn, .ref lw, .int cut, .int least, .ref sd, .ref sr])), (g, .inr (0, [.int se, .int sh, .int sp, .int de, .int po, .ref gn, .ref gd, .ref gr, .ref gs, .int lo])), (gn, .inl (cI, 366, .inl nd)), (rt, .inr (3, [.long ra, .long rb]))] H locs → W p l e (rmN 3 0 0) s m args below meth c H locs 0 0 QQ (F0 m 19 ls [.int (b2i (!isJarB p0 || !isMonthB p1))]) by
    refine lv_iload_n hx hb dX6_mean_0 rfl (lv_at hl 1 rfl) ?_
    refine q_goI (q_rS hE lk_X6_90 (c_X6_isJar l D cI cJ cZ p0 s.heap.size) hst [] rfl rfl rfl hl.1 ⟨(Nat.le_of_ble_eq_true rfl), (Nat.le_of_ble_eq_true rfl)⟩ (rest := []) rfl (Nat.le_of_ble_eq_true rfl) dX6_mean_1 ⟨(Nat.le_of_ble_eq_true rfl), (Nat.le_of_ble_eq_true rfl)⟩) hE hst [] rfl (fun _ => rfl) (fun (_ : Unit) => [(o, .inr (6, [.ref tp, .ref nw, .ref th, .int im, .ref rf, .ref rt])), (rf, .inl (cI, 7, .inl ru)), (nw, .inr (1, [.ref j1, .ref j2, .ref mn, .ref lw, .int cut, .int least, .ref sd, .ref sr])), (g, .inr (0, [.int se, .int sh, .int sp, .int de, .int po, .ref gn, .ref gd, .ref gr, .ref gs, .int lo])), (gn, .inl (cI, 366, .inl nd)), (rt, .inr (3, [.long ra, .long rb]))]) (fun _ => rfl) (fun _ H locs hF hst => ?_)
    refine lv_if_eq (tgt := 14) hx hb dX6_mean_4 (by decide) (fun c_4 => ?_) (fun c_4 => ?_)
    · skip
      have c_4 := b2i_f c_4
      refine lv_iconst (v := 1) hx hb dX6_mean_14 (by decide) ?_
      refine lv_goto (tgt := 19) hx hb dX6_mean_15 (by decide) ?_
      have kJ := kJ _ _ hst
      rw [show (b2i (!isJarB p0 || !isMonthB p1)) = 1 from (by first | (rw [c_4]; done) | (rw [c_4]; rfl))] at kJ
      exact kJ
    · skip
      have c_4 := b2i_t c_4
      refine lv_iload_n hx hb dX6_mean_7 rfl (lv_at hl 2 rfl) ?_
      refine q_goI (q_rS hE lk_X6_113 (c_X6_isMonth l D cI cJ cZ p1 H.size) hst [] rfl rfl rfl hl.1 ⟨(Nat.le_of_ble_eq_true rfl), (Nat.le_of_ble_eq_true rfl)⟩ (rest := []) rfl (Nat.le_of_ble_eq_true rfl) dX6_mean_8 ⟨(Nat.le_of_ble_eq_true rfl), (Nat.le_of_ble_eq_true rfl)⟩) hE hst [] rfl (fun _ => rfl) (fun (_ : Unit) => [(o, .inr (6, [.ref tp, .ref nw, .ref th, .int im, .ref rf, .ref rt])), (rf, .inl (cI, 7, .inl ru)), (nw, .inr (1, [.ref j1, .ref j2, .ref mn, .ref lw, .int cut, .int least, .ref sd, .ref sr])), (g, .inr (0, [.int se, .int sh, .int sp, .int de, .int po, .ref gn, .ref gd, .ref gr, .ref gs, .int lo])), (gn, .inl (cI, 366, .inl nd)), (rt, .inr (3, [.long ra, .long rb]))]) (fun _ => rfl) (fun _ H locs hF hst => ?_)
      refine lv_if_ne (tgt := 18) hx hb dX6_mean_11 (by decide) (fun c_11 => ?_) (fun c_11 => ?_)
      · skip
        have c_11 := b2i_t c_11
        refine lv_iconst (v := 0) hx hb dX6_mean_18 (by decide) ?_
        have kJ := kJ _ _ hst
        rw [show (b2i (!isJarB p0 || !isMonthB p1)) = 0 from (by first | (rw [c_4, c_11]; done) | (rw [c_4, c_11]; rfl))] at kJ
        exact kJ
      · skip
        have c_11 := b2i_f c_11
        refine lv_iconst (v := 1) hx hb dX6_mean_14 (by decide) ?_
        refine lv_goto (tgt := 19) hx hb dX6_mean_15 (by decide) ?_
        have kJ := kJ _ _ hst
        rw [show (b2i (!isJarB p0 || !isMonthB p1)) = 1 from (by first | (rw [c_4, c_11]; done) | (rw [c_4, c_11]; rfl))] at kJ
        exact kJ
  intro H locs hst
  suffices kJ : ∀ (H : Heap) (locs : List Loc), SS D A s [(o, .inr (6, [.ref tp, .ref nw, .ref th, .int im, .ref rf, .ref rt])), (rf, .inl (cI, 7, .inl ru)), (nw, .inr (1, [.ref j1, .ref j2, .ref mn, .ref lw, .int cut, .int least, .ref sd, .ref sr])), (g, .inr (0, [.int se, .int sh, .int sp, .int de, .int po, .ref gn, .ref gd, .ref gr, .ref gs, .int lo])), (gn, .inl (cI, 366, .inl nd)), (rt, .inr (3, [.long ra, .long rb]))] H locs → W p l e (rmN 3 0 0) s m args below meth c H locs 0 0 QQ (F0 m 31 ls [.int (b2i (!isJarB p2)), .int (b2i (!isJarB p0 || !isMonthB p1))]) by
    refine lv_iload_n hx hb dX6_mean_19 rfl (lv_at hl 3 rfl) ?_
    refine q_goI (q_rS hE lk_X6_116 (c_X6_isPart l D cI cJ cZ p2 H.size) hst [] rfl rfl rfl hl.1 ⟨(Nat.le_of_ble_eq_true rfl), (Nat.le_of_ble_eq_true rfl)⟩ (rest := [.int (b2i (!isJarB p0 || !isMonthB p1))]) rfl (Nat.le_of_ble_eq_true rfl) dX6_mean_20 ⟨(Nat.le_of_ble_eq_true rfl), (Nat.le_of_ble_eq_true rfl)⟩) hE hst [] rfl (fun _ => rfl) (fun (_ : Unit) => [(o, .inr (6, [.ref tp, .ref nw, .ref th, .int im, .ref rf, .ref rt])), (rf, .inl (cI, 7, .inl ru)), (nw, .inr (1, [.ref j1, .ref j2, .ref mn, .ref lw, .int cut, .int least, .ref sd, .ref sr])), (g, .inr (0, [.int se, .int sh, .int sp, .int de, .int po, .ref gn, .ref gd, .ref gr, .ref gs, .int lo])), (gn, .inl (cI, 366, .inl nd)), (rt, .inr (3, [.long ra, .long rb]))]) (fun _ => rfl) (fun _ H locs hF hst => ?_)
    refine lv_if_ne (tgt := 30) hx hb dX6_mean_23 (by decide) (fun c_23 => ?_) (fun c_23 => ?_)
    · skip
      have c_23 := b2i_t c_23
      refine lv_iconst (v := 0) hx hb dX6_mean_30 (by decide) ?_
      have kJ := kJ _ _ hst
      rw [show (b2i (!isJarB p2)) = 0 from (by first | (rw [c_23]; done) | (rw [c_23]; rfl))] at kJ
      exact kJ
    · skip
      have c_23 := b2i_f c_23
      refine lv_iconst (v := 1) hx hb dX6_mean_26 (by decide) ?_
      refine lv_goto (tgt := 31) hx hb dX6_mean_27 (by decide) ?_
      have kJ := kJ _ _ hst
      rw [show (b2i (!isJarB p2)) = 1 from (by first | (rw [c_23]; done) | (rw [c_23]; rfl))] at kJ
      exact kJ
  intro H locs hst
  refine lv_iconst (v := 0) hx hb dX6_mean_31 (by decide) ?_
  refine lv_iconst (v := 0) hx hb dX6_mean_32 (by decide) ?_
  refine q_goI (q_rS hE lk_X6_45 (c_X6_firstThatFits l D cI cJ cZ (!isJarB p0 || !isMonthB p1) (!isJarB p2) false false H.size) hst [] rfl rfl rfl hl.1 ⟨(Nat.le_of_ble_eq_true rfl), (Nat.le_of_ble_eq_true rfl)⟩ (rest := []) rfl (Nat.le_of_ble_eq_true rfl) dX6_mean_33 ⟨(Nat.le_of_ble_eq_true rfl), (Nat.le_of_ble_eq_true rfl)⟩) hE hst [] rfl (fun _ => rfl) (fun (_ : Unit) => [(o, .inr (6, [.ref tp, .ref nw, .ref th, .int im, .ref rf, .ref rt])), (rf, .inl (cI, 7, .inl ru)), (nw, .inr (1, [.ref j1, .ref j2, .ref mn, .ref lw, .int cut, .int least, .ref sd, .ref sr])), (g, .inr (0, [.int se, .int sh, .int sp, .int de, .int po, .ref gn, .ref gd, .ref gr, .ref gs, .int lo])), (gn, .inl (cI, 366, .inl nd)), (rt, .inr (3, [.long ra, .long rb]))]) (fun _ => rfl) (fun _ H locs hF hst => ?_)
  refine lv_istore (lv' := [(4, .int (ftf (!isJarB p0 || !isMonthB p1) (!isJarB p2) false false)), (0, .ref o), (1, .int p0), (2, .int p1), (3, .int p2)]) hx hb dX6_mean_36 hl (by decide) rfl (fun ls hl => ?_)
  refine lv_iload hx hb dX6_mean_38 (lv_at hl 0 rfl) ?_
  refine lv_if_eq (tgt := 50) hx hb dX6_mean_40 (by decide) (fun c_40 => ?_) (fun c_40 => ?_)
  · skip
    obtain ⟨f1, f2, f3, f4⟩ := ftf_1 c_40
    obtain ⟨hjr, f1b⟩ := nor_f f1
    obtain ⟨m1, hm1, rfl⟩ := mon_of f1b
    rw [nI_clamp (by omega)] at hQ
    skip
    refine lv_aload_n hx hb dX6_mean_50 rfl (lv_at hl 1 rfl) ?_
    refine gf_X6_37 hE hst 0 rfl rfl dX6_mean_51 ?_
    refine lv_aload_n hx hb dX6_mean_54 rfl (lv_at hl 1 rfl) ?_
    refine gf_X6_19 hE hst 0 rfl rfl dX6_mean_55 ?_
    refine lv_iload_n hx hb dX6_mean_58 rfl (lv_at hl 2 rfl) ?_
    refine q_goR (q_rNV hE lk_X6_93 (c_X1_jarAt l D cI cJ cZ nw j1 j2 mn lw sd sr cut least p0 H.size) hst [2] rfl rfl rfl rfl rfl hl.1 ⟨(Nat.le_of_ble_eq_true rfl), (Nat.le_of_ble_eq_true rfl)⟩ (rest := [.ref rt]) rfl (Nat.le_of_ble_eq_true rfl) dX6_mean_59 ⟨(Nat.le_of_ble_eq_true rfl), (Nat.le_of_ble_eq_true rfl)⟩) hE hst [2] rfl (fun _ => rfl) (fun (_ : Unit) => [(o, .inr (6, [.ref tp, .ref nw, .ref th, .int im, .ref rf, .ref rt])), (rf, .inl (cI, 7, .inl ru)), (nw, .inr (1, [.ref j1, .ref j2, .ref mn, .ref lw, .int cut, .int least, .ref sd, .ref sr])), (g, .inr (0, [.int se, .int sh, .int sp, .int de, .int po, .ref gn, .ref gd, .ref gr, .ref gs, .int lo])), (gn, .inl (cI, 366, .inl nd)), (rt, .inr (3, [.long ra, .long rb]))]) (fun _ => rfl) (fun _ H locs hF hst => ?_)
    refine q_topR (x' := g) (hsel hjr) ?_
    refine lv_iload_n hx hb dX6_mean_62 rfl (lv_at hl 3 rfl) ?_
    refine q_goI (q_rNV hE lk_X6_123 (c_X0_monthSum l D cI cJ cZ g gn gd gr gs se sh sp de po lo m1 nd (by first | assumption | decide | omega) H.size) hst [3, 4] rfl rfl rfl rfl rfl hl.1 ⟨(Nat.le_of_ble_eq_true rfl), (Nat.le_of_ble_eq_true rfl)⟩ (rest := [.ref rt]) rfl (Nat.le_of_ble_eq_true rfl) dX6_mean_63 ⟨(Nat.le_of_ble_eq_true rfl), (Nat.le_of_ble_eq_true rfl)⟩) hE hst [3, 4] rfl (fun _ => rfl) (fun (_ : Unit) => [(o, .inr (6, [.ref tp, .ref nw, .ref th, .int im, .ref rf, .ref rt])), (rf, .inl (cI, 7, .inl ru)), (nw, .inr (1, [.ref j1, .ref j2, .ref mn, .ref lw, .int cut, .int least, .ref sd, .ref sr])), (g, .inr (0, [.int se, .int sh, .int sp, .int de, .int po, .ref gn, .ref gd, .ref gr, .ref gs, .int lo])), (gn, .inl (cI, 366, .inl nd)), (rt, .inr (3, [.long ra, .long rb]))]) (fun _ => rfl) (fun _ H locs hF hst => ?_)
    refine lv_i2l (v := (monS nd m1).toInt64) hx hb dX6_mean_66 rfl ?_
    refine lv_iload_n hx hb dX6_mean_67 rfl (lv_at hl 3 rfl) ?_
    refine q_goI (q_rS hE lk_X6_126 (c_X6_monthLength l D cI cJ cZ (nI m1) H.size) hst [] rfl rfl rfl hl.1 ⟨(Nat.le_of_ble_eq_true rfl), (Nat.le_of_ble_eq_true rfl)⟩ (rest := [.long ((monS nd m1).toInt64), .ref rt]) rfl (Nat.le_of_ble_eq_true rfl) dX6_mean_68 ⟨(Nat.le_of_ble_eq_true rfl), (Nat.le_of_ble_eq_true rfl)⟩) hE hst [] rfl (fun _ => rfl) (fun (_ : Unit) => [(o, .inr (6, [.ref tp, .ref nw, .ref th, .int im, .ref rf, .ref rt])), (rf, .inl (cI, 7, .inl ru)), (nw, .inr (1, [.ref j1, .ref j2, .ref mn, .ref lw, .int cut, .int least, .ref sd, .ref sr])), (g, .inr (0, [.int se, .int sh, .int sp, .int de, .int po, .ref gn, .ref gd, .ref gr, .ref gs, .int lo])), (gn, .inl (cI, 366, .inl nd)), (rt, .inr (3, [.long ra, .long rb]))]) (fun _ => rfl) (fun _ H locs hF hst => ?_)
    refine q_top (x' := nI (mln m1)) (ml_at hm1) ?_
    skip
    refine lv_i2l (v := (nI (mln m1)).toInt64) hx hb dX6_mean_71 rfl ?_
    refine q_goV (q_rNV hE lk_X6_129 (c_X3_become l D cI cJ cZ rt ra rb ((monS nd m1).toInt64) ((nI (mln m1)).toInt64) H.size) hst [5] rfl rfl rfl rfl rfl hl.1 ⟨(Nat.le_of_ble_eq_true rfl), (Nat.le_of_ble_eq_true rfl)⟩ (rest := []) rfl (Nat.le_of_ble_eq_true rfl) dX6_mean_72 ⟨(Nat.le_of_ble_eq_true rfl), (Nat.le_of_ble_eq_true rfl)⟩) hE hst [5] rfl (fun _ => rfl) (fun (_ : Unit) => [(o, .inr (6, [.ref tp, .ref nw, .ref th, .int im, .ref rf, .ref rt])), (rf, .inl (cI, 7, .inl ru)), (nw, .inr (1, [.ref j1, .ref j2, .ref mn, .ref lw, .int cut, .int least, .ref sd, .ref sr])), (g, .inr (0, [.int se, .int sh, .int sp, .int de, .int po, .ref gn, .ref gd, .ref gr, .ref gs, .int lo])), (gn, .inl (cI, 366, .inl nd)), (rt, .inr (3, [.long (becA ((monS nd m1).toInt64) ((nI (mln m1)).toInt64)), .long (becB ((monS nd m1).toInt64) ((nI (mln m1)).toInt64))]))]) (fun _ => rfl) (fun _ H locs hF hst => ?_)
    refine lv_aload_n hx hb dX6_mean_75 rfl (lv_at hl 1 rfl) ?_
    refine gf_X6_37 hE hst 0 rfl rfl dX6_mean_76 ?_
    refine lv_iload_n hx hb dX6_mean_79 rfl (lv_at hl 4 rfl) ?_
    refine q_goL (q_rNV hE lk_X6_133 (c_X3_partAt l D cI cJ cZ rt (becA ((monS nd m1).toInt64) ((nI (mln m1)).toInt64)) (becB ((monS nd m1).toInt64) ((nI (mln m1)).toInt64)) p2 H.size) hst [5] rfl rfl rfl rfl rfl hl.1 ⟨(Nat.le_of_ble_eq_true rfl), (Nat.le_of_ble_eq_true rfl)⟩ (rest := []) rfl (Nat.le_of_ble_eq_true rfl) dX6_mean_80 ⟨(Nat.le_of_ble_eq_true rfl), (Nat.le_of_ble_eq_true rfl)⟩) hE hst [5] rfl (fun _ => rfl) (fun (_ : Unit) => [(o, .inr (6, [.ref tp, .ref nw, .ref th, .int im, .ref rf, .ref rt])), (rf, .inl (cI, 7, .inl ru)), (nw, .inr (1, [.ref j1, .ref j2, .ref mn, .ref lw, .int cut, .int least, .ref sd, .ref sr])), (g, .inr (0, [.int se, .int sh, .int sp, .int de, .int po, .ref gn, .ref gd, .ref gr, .ref gs, .int lo])), (gn, .inl (cI, 366, .inl nd)), (rt, .inr (3, [.long (becA ((monS nd m1).toInt64) ((nI (mln m1)).toInt64)), .long (becB ((monS nd m1).toInt64) ((nI (mln m1)).toInt64))]))]) (fun _ => rfl) (fun _ H locs hF hst => ?_)
    exact q_retL hQ hE hr hk hst (becA ((monS nd m1).toInt64) ((nI (mln m1)).toInt64), becB ((monS nd m1).toInt64) ((nI (mln m1)).toInt64)) (by rw [if_pos c_40]) (trivial) (by rw [if_pos c_40]) dX6_mean_83
  · skip
    refine lv_aload_n hx hb dX6_mean_43 rfl (lv_at hl 1 rfl) ?_
    refine lv_iload hx hb dX6_mean_44 (lv_at hl 0 rfl) ?_
    refine q_goL (q_rV hE lk_X6_119 (c_X6_refuseLong l D cI cJ cZ o tp nw th rf rt im ru (ftf (!isJarB p0 || !isMonthB p1) (!isJarB p2) false false) (ftf_in _ _ _ _) H.size) hst [0, 1] rfl rfl rfl rfl rfl hl.1 ⟨(Nat.le_of_ble_eq_true rfl), (Nat.le_of_ble_eq_true rfl)⟩ (rest := []) rfl (Nat.le_of_ble_eq_true rfl) dX6_mean_46 ⟨(Nat.le_of_ble_eq_true rfl), (Nat.le_of_ble_eq_true rfl)⟩) hE hst [0, 1] rfl (fun _ => rfl) (fun (_ : Unit) => [(o, .inr (6, [.ref tp, .ref nw, .ref th, .int im, .ref rf, .ref rt])), (rf, .inl (cI, 7, .inl (bmp ru (ftf (!isJarB p0 || !isMonthB p1) (!isJarB p2) false false)))), (nw, .inr (1, [.ref j1, .ref j2, .ref mn, .ref lw, .int cut, .int least, .ref sd, .ref sr])), (g, .inr (0, [.int se, .int sh, .int sp, .int de, .int po, .ref gn, .ref gd, .ref gr, .ref gs, .int lo])), (gn, .inl (cI, 366, .inl nd)), (rt, .inr (3, [.long ra, .long rb]))]) (fun _ => rfl) (fun _ H locs hF hst => ?_)
    exact q_retL hQ hE hr hk hst (ra, rb) (by rw [if_neg c_40]) (trivial) (by rw [if_neg c_40]) dX6_mean_49
set_option maxHeartbeats 4000000 in
set_option maxRecDepth 100000 in
theorem c_X6_lean (l : Launch) (D : va_G) (cI cJ cZ : ClassId) (o : Nat) (tp : Nat) (nw : Nat) (th : Nat) (rf : Nat) (rt : Nat) (im : Int32) (ru : Nat → Int32) (j1 : Nat) (j2 : Nat) (mn : Nat) (lw : Nat) (sd : Nat) (sr : Nat) (cut : Int32) (least : Int32) (g : Nat) (gn : Nat) (gd : Nat) (gr : Nat) (gs : Nat) (se : Int32) (sh : Int32) (sp : Int32) (de : Int32) (po : Int32) (lo : Int32) (nd : Nat → Int32) (p0 : Int32) (hsel : isJarB p0 = true → (if p0 = 0 then j1 else j2) = g) : CtL l D cI cJ cZ yX6_lean cX6_lean 2 (some .long) 3 [.ref o, .int p0] [(o, .inr (6, [.ref tp, .ref nw, .ref th, .int im, .ref rf, .ref rt])), (rf, .inl (cI, 7, .inl ru)), (nw, .inr (1, [.ref j1, .ref j2, .ref mn, .ref lw, .int cut, .int least, .ref sd, .ref sr])), (g, .inr (0, [.int se, .int sh, .int sp, .int de, .int po, .ref gn, .ref gd, .ref gr, .ref gs, .int lo])), (gn, .inl (cI, 366, .inl nd))] (fun (_ : Unit) => if isJarB p0 = true then leaL nd 366 else lgR (-1)) (fun (_ : Unit) => True) (fun (_ : Unit) => [(o, .inr (6, [.ref tp, .ref nw, .ref th, .int im, .ref rf, .ref rt])), (rf, .inl (cI, 7, .inl (if isJarB p0 = true then ru else bmp ru (-1)))), (nw, .inr (1, [.ref j1, .ref j2, .ref mn, .ref lw, .int cut, .int least, .ref sd, .ref sr])), (g, .inr (0, [.int se, .int sh, .int sp, .int de, .int po, .ref gn, .ref gd, .ref gr, .ref gs, .int lo])), (gn, .inl (cI, 366, .inl nd))]) := by
  refine q_entL (own := RX6) rfl rfl (Nat.le_of_ble_eq_true rfl) ?_
  intro p e s m args below meth c A ls QQ hQ hE hx hb hr hk hin hA hl hst
  have hl : lv_has ls 2 [(0, .ref o), (1, .int p0)] := hl
  refine lv_iload_n hx hb dX6_lean_0 rfl (lv_at hl 1 rfl) ?_
  refine q_goI (q_rS hE lk_X6_90 (c_X6_isJar l D cI cJ cZ p0 s.heap.size) hst [] rfl rfl rfl hl.1 ⟨(Nat.le_of_ble_eq_true rfl), (Nat.le_of_ble_eq_true rfl)⟩ (rest := []) rfl (Nat.le_of_ble_eq_true rfl) dX6_lean_1 ⟨(Nat.le_of_ble_eq_true rfl), (Nat.le_of_ble_eq_true rfl)⟩) hE hst [] rfl (fun _ => rfl) (fun (_ : Unit) => [(o, .inr (6, [.ref tp, .ref nw, .ref th, .int im, .ref rf, .ref rt])), (rf, .inl (cI, 7, .inl ru)), (nw, .inr (1, [.ref j1, .ref j2, .ref mn, .ref lw, .int cut, .int least, .ref sd, .ref sr])), (g, .inr (0, [.int se, .int sh, .int sp, .int de, .int po, .ref gn, .ref gd, .ref gr, .ref gs, .int lo])), (gn, .inl (cI, 366, .inl nd))]) (fun _ => rfl) (fun _ H locs hF hst => ?_)
  refine lv_if_ne (tgt := 13) hx hb dX6_lean_4 (by decide) (fun c_4 => ?_) (fun c_4 => ?_)
  · skip
    have c_4 := b2i_t c_4
    have hjr := c_4
    refine lv_aload_n hx hb dX6_lean_13 rfl (lv_at hl 0 rfl) ?_
    refine gf_X6_19 hE hst 0 rfl rfl dX6_lean_14 ?_
    refine lv_iload_n hx hb dX6_lean_17 rfl (lv_at hl 1 rfl) ?_
    refine q_goR (q_rNV hE lk_X6_93 (c_X1_jarAt l D cI cJ cZ nw j1 j2 mn lw sd sr cut least p0 H.size) hst [2] rfl rfl rfl rfl rfl hl.1 ⟨(Nat.le_of_ble_eq_true rfl), (Nat.le_of_ble_eq_true rfl)⟩ (rest := []) rfl (Nat.le_of_ble_eq_true rfl) dX6_lean_18 ⟨(Nat.le_of_ble_eq_true rfl), (Nat.le_of_ble_eq_true rfl)⟩) hE hst [2] rfl (fun _ => rfl) (fun (_ : Unit) => [(o, .inr (6, [.ref tp, .ref nw, .ref th, .int im, .ref rf, .ref rt])), (rf, .inl (cI, 7, .inl ru)), (nw, .inr (1, [.ref j1, .ref j2, .ref mn, .ref lw, .int cut, .int least, .ref sd, .ref sr])), (g, .inr (0, [.int se, .int sh, .int sp, .int de, .int po, .ref gn, .ref gd, .ref gr, .ref gs, .int lo])), (gn, .inl (cI, 366, .inl nd))]) (fun _ => rfl) (fun _ H locs hF hst => ?_)
    refine q_topR (x' := g) (hsel hjr) ?_
    refine q_goL (q_rNV hE lk_X6_136 (c_X0_leaning l D cI cJ cZ g gn gd gr gs se sh sp de po lo nd H.size) hst [3, 4] rfl rfl rfl rfl rfl hl.1 ⟨(Nat.le_of_ble_eq_true rfl), (Nat.le_of_ble_eq_true rfl)⟩ (rest := []) rfl (Nat.le_of_ble_eq_true rfl) dX6_lean_21 ⟨(Nat.le_of_ble_eq_true rfl), (Nat.le_of_ble_eq_true rfl)⟩) hE hst [3, 4] rfl (fun _ => rfl) (fun (_ : Unit) => [(o, .inr (6, [.ref tp, .ref nw, .ref th, .int im, .ref rf, .ref rt])), (rf, .inl (cI, 7, .inl ru)), (nw, .inr (1, [.ref j1, .ref j2, .ref mn, .ref lw, .int cut, .int least, .ref sd, .ref sr])), (g, .inr (0, [.int se, .int sh, .int sp, .int de, .int po, .ref gn, .ref gd, .ref gr, .ref gs, .int lo])), (gn, .inl (cI, 366, .inl nd))]) (fun _ => rfl) (fun _ H locs hF hst => ?_)
    exact q_retL hQ hE hr hk hst () (by rw [if_pos c_4]) (trivial) (by rw [if_pos c_4]) dX6_lean_24
  · skip
    have c_4 := b2i_f c_4
    refine lv_aload_n hx hb dX6_lean_7 rfl (lv_at hl 0 rfl) ?_
    refine lv_iconst (v := (-1)) hx hb dX6_lean_8 (by decide) ?_
    refine q_goL (q_rV hE lk_X6_119 (c_X6_refuseLong l D cI cJ cZ o tp nw th rf rt im ru (-1) (by rw [vp_in_iff]; decide) H.size) hst [0, 1] rfl rfl rfl rfl rfl hl.1 ⟨(Nat.le_of_ble_eq_true rfl), (Nat.le_of_ble_eq_true rfl)⟩ (rest := []) rfl (Nat.le_of_ble_eq_true rfl) dX6_lean_9 ⟨(Nat.le_of_ble_eq_true rfl), (Nat.le_of_ble_eq_true rfl)⟩) hE hst [0, 1] rfl (fun _ => rfl) (fun (_ : Unit) => [(o, .inr (6, [.ref tp, .ref nw, .ref th, .int im, .ref rf, .ref rt])), (rf, .inl (cI, 7, .inl (bmp ru (-1)))), (nw, .inr (1, [.ref j1, .ref j2, .ref mn, .ref lw, .int cut, .int least, .ref sd, .ref sr])), (g, .inr (0, [.int se, .int sh, .int sp, .int de, .int po, .ref gn, .ref gd, .ref gr, .ref gs, .int lo])), (gn, .inl (cI, 366, .inl nd))]) (fun _ => rfl) (fun _ H locs hF hst => ?_)
    exact q_retL hQ hE hr hk hst () (by rw [if_neg (by rw [c_4]; decide)]) (trivial) (by rw [if_neg (by rw [c_4]; decide)]) dX6_lean_12
set_option maxHeartbeats 4000000 in
set_option maxRecDepth 100000 in
theorem c_X6_worst (l : Launch) (D : va_G) (cI cJ cZ : ClassId) (o : Nat) (tp : Nat) (nw : Nat) (th : Nat) (rf : Nat) (rt : Nat) (im : Int32) (ru : Nat → Int32) (j1 : Nat) (j2 : Nat) (mn : Nat) (lw : Nat) (sd : Nat) (sr : Nat) (cut : Int32) (least : Int32) (g : Nat) (gn : Nat) (gd : Nat) (gr : Nat) (gs : Nat) (se : Int32) (sh : Int32) (sp : Int32) (de : Int32) (po : Int32) (lo : Int32) (nd : Nat → Int32) (p0 : Int32) (hsel : isJarB p0 = true → (if p0 = 0 then j1 else j2) = g) : CtI l D cI cJ cZ yX6_worst cX6_worst 2 (some .int) 5 [.ref o, .int p0] [(o, .inr (6, [.ref tp, .ref nw, .ref th, .int im, .ref rf, .ref rt])), (rf, .inl (cI, 7, .inl ru)), (nw, .inr (1, [.ref j1, .ref j2, .ref mn, .ref lw, .int cut, .int least, .ref sd, .ref sr])), (g, .inr (0, [.int se, .int sh, .int sp, .int de, .int po, .ref gn, .ref gd, .ref gr, .ref gs, .int lo])), (gn, .inl (cI, 366, .inl nd))] (fun (_ : Unit) => if isJarB p0 = true then nI (wor nd 11) else -1) (fun (_ : Unit) => True) (fun (_ : Unit) => [(o, .inr (6, [.ref tp, .ref nw, .ref th, .int im, .ref rf, .ref rt])), (rf, .inl (cI, 7, .inl (if isJarB p0 = true then ru else bmp ru (-1)))), (nw, .inr (1, [.ref j1, .ref j2, .ref mn, .ref lw, .int cut, .int least, .ref sd, .ref sr])), (g, .inr (0, [.int se, .int sh, .int sp, .int de, .int po, .ref gn, .ref gd, .ref gr, .ref gs, .int lo])), (gn, .inl (cI, 366, .inl nd))]) := by
  refine q_entI (own := RX6) rfl rfl (Nat.le_of_ble_eq_true rfl) ?_
  intro p e s m args below meth c A ls QQ hQ hE hx hb hr hk hin hA hl hst
  have hl : lv_has ls 2 [(0, .ref o), (1, .int p0)] := hl
  refine lv_iload_n hx hb dX6_worst_0 rfl (lv_at hl 1 rfl) ?_
  refine q_goI (q_rS hE lk_X6_90 (c_X6_isJar l D cI cJ cZ p0 s.heap.size) hst [] rfl rfl rfl hl.1 ⟨(Nat.le_of_ble_eq_true rfl), (Nat.le_of_ble_eq_true rfl)⟩ (rest := []) rfl (Nat.le_of_ble_eq_true rfl) dX6_worst_1 ⟨(Nat.le_of_ble_eq_true rfl), (Nat.le_of_ble_eq_true rfl)⟩) hE hst [] rfl (fun _ => rfl) (fun (_ : Unit) => [(o, .inr (6, [.ref tp, .ref nw, .ref th, .int im, .ref rf, .ref rt])), (rf, .inl (cI, 7, .inl ru)), (nw, .inr (1, [.ref j1, .ref j2, .ref mn, .ref lw, .int cut, .int least, .ref sd, .ref sr])), (g, .inr (0, [.int se, .int sh, .int sp, .int de, .int po, .ref gn, .ref gd, .ref gr, .ref gs, .int lo])), (gn, .inl (cI, 366, .inl nd))]) (fun _ => rfl) (fun _ H locs hF hst => ?_)
  refine lv_if_ne (tgt := 13) hx hb dX6_worst_4 (by decide) (fun c_4 => ?_) (fun c_4 => ?_)
  · skip
    have c_4 := b2i_t c_4
    have hjr := c_4
    refine lv_aload_n hx hb dX6_worst_13 rfl (lv_at hl 0 rfl) ?_
    refine gf_X6_19 hE hst 0 rfl rfl dX6_worst_14 ?_
    refine lv_iload_n hx hb dX6_worst_17 rfl (lv_at hl 1 rfl) ?_
    refine q_goR (q_rNV hE lk_X6_93 (c_X1_jarAt l D cI cJ cZ nw j1 j2 mn lw sd sr cut least p0 H.size) hst [2] rfl rfl rfl rfl rfl hl.1 ⟨(Nat.le_of_ble_eq_true rfl), (Nat.le_of_ble_eq_true rfl)⟩ (rest := []) rfl (Nat.le_of_ble_eq_true rfl) dX6_worst_18 ⟨(Nat.le_of_ble_eq_true rfl), (Nat.le_of_ble_eq_true rfl)⟩) hE hst [2] rfl (fun _ => rfl) (fun (_ : Unit) => [(o, .inr (6, [.ref tp, .ref nw, .ref th, .int im, .ref rf, .ref rt])), (rf, .inl (cI, 7, .inl ru)), (nw, .inr (1, [.ref j1, .ref j2, .ref mn, .ref lw, .int cut, .int least, .ref sd, .ref sr])), (g, .inr (0, [.int se, .int sh, .int sp, .int de, .int po, .ref gn, .ref gd, .ref gr, .ref gs, .int lo])), (gn, .inl (cI, 366, .inl nd))]) (fun _ => rfl) (fun _ H locs hF hst => ?_)
    refine q_topR (x' := g) (hsel hjr) ?_
    refine q_goI (q_rNV hE lk_X6_140 (c_X0_worstMonth l D cI cJ cZ g gn gd gr gs se sh sp de po lo nd H.size) hst [3, 4] rfl rfl rfl rfl rfl hl.1 ⟨(Nat.le_of_ble_eq_true rfl), (Nat.le_of_ble_eq_true rfl)⟩ (rest := []) rfl (Nat.le_of_ble_eq_true rfl) dX6_worst_21 ⟨(Nat.le_of_ble_eq_true rfl), (Nat.le_of_ble_eq_true rfl)⟩) hE hst [3, 4] rfl (fun _ => rfl) (fun (_ : Unit) => [(o, .inr (6, [.ref tp, .ref nw, .ref th, .int im, .ref rf, .ref rt])), (rf, .inl (cI, 7, .inl ru)), (nw, .inr (1, [.ref j1, .ref j2, .ref mn, .ref lw, .int cut, .int least, .ref sd, .ref sr])), (g, .inr (0, [.int se, .int sh, .int sp, .int de, .int po, .ref gn, .ref gd, .ref gr, .ref gs, .int lo])), (gn, .inl (cI, 366, .inl nd))]) (fun _ => rfl) (fun _ H locs hF hst => ?_)
    exact q_retI hQ hE hr hk hst () (by rw [if_pos c_4]) (trivial) (by rw [if_pos c_4]) dX6_worst_24
  · skip
    have c_4 := b2i_f c_4
    refine lv_aload_n hx hb dX6_worst_7 rfl (lv_at hl 0 rfl) ?_
    refine lv_iconst (v := (-1)) hx hb dX6_worst_8 (by decide) ?_
    refine q_goI (q_rV hE lk_X6_49 (c_X6_refuse l D cI cJ cZ o tp nw th rf rt im ru (-1) (by rw [vp_in_iff]; decide) H.size) hst [0, 1] rfl rfl rfl rfl rfl hl.1 ⟨(Nat.le_of_ble_eq_true rfl), (Nat.le_of_ble_eq_true rfl)⟩ (rest := []) rfl (Nat.le_of_ble_eq_true rfl) dX6_worst_9 ⟨(Nat.le_of_ble_eq_true rfl), (Nat.le_of_ble_eq_true rfl)⟩) hE hst [0, 1] rfl (fun _ => rfl) (fun (_ : Unit) => [(o, .inr (6, [.ref tp, .ref nw, .ref th, .int im, .ref rf, .ref rt])), (rf, .inl (cI, 7, .inl (bmp ru (-1)))), (nw, .inr (1, [.ref j1, .ref j2, .ref mn, .ref lw, .int cut, .int least, .ref sd, .ref sr])), (g, .inr (0, [.int se, .int sh, .int sp, .int de, .int po, .ref gn, .ref gd, .ref gr, .ref gs, .int lo])), (gn, .inl (cI, 366, .inl nd))]) (fun _ => rfl) (fun _ H locs hF hst => ?_)
    exact q_retI hQ hE hr hk hst () (by rw [if_neg (by rw [c_4]; decide)]) (trivial) (by rw [if_neg (by rw [c_4]; decide)]) dX6_worst_12
set_option maxHeartbeats 4000000 in
set_option maxRecDepth 100000 in
theorem c_X6_manOf (l : Launch) (D : va_G) (cI cJ cZ : ClassId) (o : Nat) (tp : Nat) (nw : Nat) (th : Nat) (rf : Nat) (rt : Nat) (im : Int32) (ru : Nat → Int32) (j1 : Nat) (j2 : Nat) (mn : Nat) (lw : Nat) (sd : Nat) (sr : Nat) (cut : Int32) (least : Int32) (qk : Nat) (qb : Nat) (qp : Nat) (nq : Nat) (ki : Nat → Int32) (bi : Nat → Int32) (pa : Nat → Int32) (p0 : Int32) (p1 : Int32) : CtI l D cI cJ cZ yX6_manOf cX6_manOf 4 (some .int) 2 [.ref o, .int p0, .int p1] [(o, .inr (6, [.ref tp, .ref nw, .ref th, .int im, .ref rf, .ref rt])), (rf, .inl (cI, 7, .inl ru)), (nw, .inr (1, [.ref j1, .ref j2, .ref mn, .ref lw, .int cut, .int least, .ref sd, .ref sr])), (mn, .inr (2, [.ref qk, .ref qb, .ref qp, .int (nI nq)])), (qk, .inl (cI, 60, .inl ki)), (qb, .inl (cI, 60, .inl bi)), (qp, .inl (cI, 60, .inl pa))] (fun (_ : Unit) => if ftf (!manB (nI nq) p0) (decide (p1 < 0) || !decide (p1 ≤ 2)) false false = 0 then if p1 = 0 then atI 60 ki p0 else if p1 = 1 then atI 60 bi p0 else atI 60 pa p0 else (ftf (!manB (nI nq) p0) (decide (p1 < 0) || !decide (p1 ≤ 2)) false false)) (fun (_ : Unit) => True) (fun (_ : Unit) => [(o, .inr (6, [.ref tp, .ref nw, .ref th, .int im, .ref rf, .ref rt])), (rf, .inl (cI, 7, .inl (if ftf (!manB (nI nq) p0) (decide (p1 < 0) || !decide (p1 ≤ 2)) false false = 0 then ru else bmp ru (ftf (!manB (nI nq) p0) (decide (p1 < 0) || !decide (p1 ≤ 2)) false false)))), (nw, .inr (1, [.ref j1, .ref j2, .ref mn, .ref lw, .int cut, .int least, .ref sd, .ref sr])), (mn, .inr (2, [.ref qk, .ref qb, .ref qp, .int (nI nq)])), (qk, .inl (cI, 60, .inl ki)), (qb, .inl (cI, 60, .inl bi)), (qp, .inl (cI, 60, .inl pa))]) := by
  refine q_entI (own := RX6) rfl rfl (Nat.le_of_ble_eq_true rfl) ?_
  intro p e s m args below meth c A ls QQ hQ hE hx hb hr hk hin hA hl hst
  have hl : lv_has ls 4 [(0, .ref o), (1, .int p0), (2, .int p1)] := hl
  suffices kJ : ∀ (H : Heap) (locs : List Loc), SS D A s [(o, .inr (6, [.ref tp, .ref nw, .ref th, .int im, .ref rf, .ref rt])), (rf, .inl (cI, 7, .inl ru)), (nw, .inr (1, [.ref j1, .ref j2, .ref mn, .ref lw, .int cut, .int least, .ref sd, .ref sr])), (mn, .inr (2, [.ref qk, .ref qb, .ref qp, .int (nI nq)])), (qk, .inl (cI, 60, .inl ki)), (qb, .inl (cI, 60, .inl bi)), (qp, .inl (cI, 60, .inl pa))] H locs → W p l e (rmN 2 0 0) s m args below meth c H locs 0 0 QQ (F0 m 13 ls [.int (b2i (!manB (nI nq) p0))]) by
    refine lv_aload_n hx hb dX6_manOf_0 rfl (lv_at hl 0 rfl) ?_
    refine lv_iload_n hx hb dX6_manOf_1 rfl (lv_at hl 1 rfl) ?_
    refine q_goI (q_rV hE lk_X6_146 (c_X6_isMan l D cI cJ cZ o tp nw th rf rt im j1 j2 mn lw sd sr cut least qk qb qp (nI nq) p0 s.heap.size) hst [0, 2, 3] rfl rfl rfl rfl rfl hl.1 ⟨(Nat.le_of_ble_eq_true rfl), (Nat.le_of_ble_eq_true rfl)⟩ (rest := []) rfl (Nat.le_of_ble_eq_true rfl) dX6_manOf_2 ⟨(Nat.le_of_ble_eq_true rfl), (Nat.le_of_ble_eq_true rfl)⟩) hE hst [0, 2, 3] rfl (fun _ => rfl) (fun (_ : Unit) => [(o, .inr (6, [.ref tp, .ref nw, .ref th, .int im, .ref rf, .ref rt])), (rf, .inl (cI, 7, .inl ru)), (nw, .inr (1, [.ref j1, .ref j2, .ref mn, .ref lw, .int cut, .int least, .ref sd, .ref sr])), (mn, .inr (2, [.ref qk, .ref qb, .ref qp, .int (nI nq)])), (qk, .inl (cI, 60, .inl ki)), (qb, .inl (cI, 60, .inl bi)), (qp, .inl (cI, 60, .inl pa))]) (fun _ => rfl) (fun _ H locs hF hst => ?_)
    refine lv_if_ne (tgt := 12) hx hb dX6_manOf_5 (by decide) (fun c_5 => ?_) (fun c_5 => ?_)
    · skip
      have c_5 := b2i_t c_5
      refine lv_iconst (v := 0) hx hb dX6_manOf_12 (by decide) ?_
      have kJ := kJ _ _ hst
      rw [show (b2i (!manB (nI nq) p0)) = 0 from (by first | (rw [c_5]; done) | (rw [c_5]; rfl))] at kJ
      exact kJ
    · skip
      have c_5 := b2i_f c_5
      refine lv_iconst (v := 1) hx hb dX6_manOf_8 (by decide) ?_
      refine lv_goto (tgt := 13) hx hb dX6_manOf_9 (by decide) ?_
      have kJ := kJ _ _ hst
      rw [show (b2i (!manB (nI nq) p0)) = 1 from (by first | (rw [c_5]; done) | (rw [c_5]; rfl))] at kJ
      exact kJ
  intro H locs hst
  suffices kJ : ∀ (H : Heap) (locs : List Loc), SS D A s [(o, .inr (6, [.ref tp, .ref nw, .ref th, .int im, .ref rf, .ref rt])), (rf, .inl (cI, 7, .inl ru)), (nw, .inr (1, [.ref j1, .ref j2, .ref mn, .ref lw, .int cut, .int least, .ref sd, .ref sr])), (mn, .inr (2, [.ref qk, .ref qb, .ref qp, .int (nI nq)])), (qk, .inl (cI, 60, .inl ki)), (qb, .inl (cI, 60, .inl bi)), (qp, .inl (cI, 60, .inl pa))] H locs → W p l e (rmN 2 0 0) s m args below meth c H locs 0 0 QQ (F0 m 27 ls [.int (b2i (decide (p1 < 0) || !decide (p1 ≤ 2))), .int (b2i (!manB (nI nq) p0))]) by
    refine lv_iload_n hx hb dX6_manOf_13 rfl (lv_at hl 2 rfl) ?_
    refine lv_if_lt (tgt := 22) hx hb dX6_manOf_14 (by decide) (fun c_14 => ?_) (fun c_14 => ?_)
    · skip
      refine lv_iconst (v := 1) hx hb dX6_manOf_22 (by decide) ?_
      refine lv_goto (tgt := 27) hx hb dX6_manOf_23 (by decide) ?_
      have kJ := kJ _ _ hst
      rw [show (b2i (decide (p1 < 0) || !decide (p1 ≤ 2))) = 1 from (by first | (rw [decide_eq_true c_14]; done) | (rw [decide_eq_true c_14]; rfl))] at kJ
      exact kJ
    · skip
      refine lv_iload_n hx hb dX6_manOf_17 rfl (lv_at hl 2 rfl) ?_
      refine lv_iconst (v := 2) hx hb dX6_manOf_18 (by decide) ?_
      refine lv_icmp_le (tgt := 26) hx hb dX6_manOf_19 (by decide) (fun c_19 => ?_) (fun c_19 => ?_)
      · skip
        refine lv_iconst (v := 0) hx hb dX6_manOf_26 (by decide) ?_
        have kJ := kJ _ _ hst
        rw [show (b2i (decide (p1 < 0) || !decide (p1 ≤ 2))) = 0 from (by first | (rw [decide_eq_false c_14, decide_eq_true c_19]; done) | (rw [decide_eq_false c_14, decide_eq_true c_19]; rfl))] at kJ
        exact kJ
      · skip
        refine lv_iconst (v := 1) hx hb dX6_manOf_22 (by decide) ?_
        refine lv_goto (tgt := 27) hx hb dX6_manOf_23 (by decide) ?_
        have kJ := kJ _ _ hst
        rw [show (b2i (decide (p1 < 0) || !decide (p1 ≤ 2))) = 1 from (by first | (rw [decide_eq_false c_14, decide_eq_false c_19]; done) | (rw [decide_eq_false c_14, decide_eq_false c_19]; rfl))] at kJ
        exact kJ
  intro H locs hst
  refine lv_iconst (v := 0) hx hb dX6_manOf_27 (by decide) ?_
  refine lv_iconst (v := 0) hx hb dX6_manOf_28 (by decide) ?_
  refine q_goI (q_rS hE lk_X6_45 (c_X6_firstThatFits l D cI cJ cZ (!manB (nI nq) p0) (decide (p1 < 0) || !decide (p1 ≤ 2)) false false H.size) hst [] rfl rfl rfl hl.1 ⟨(Nat.le_of_ble_eq_true rfl), (Nat.le_of_ble_eq_true rfl)⟩ (rest := []) rfl (Nat.le_of_ble_eq_true rfl) dX6_manOf_29 ⟨(Nat.le_of_ble_eq_true rfl), (Nat.le_of_ble_eq_true rfl)⟩) hE hst [] rfl (fun _ => rfl) (fun (_ : Unit) => [(o, .inr (6, [.ref tp, .ref nw, .ref th, .int im, .ref rf, .ref rt])), (rf, .inl (cI, 7, .inl ru)), (nw, .inr (1, [.ref j1, .ref j2, .ref mn, .ref lw, .int cut, .int least, .ref sd, .ref sr])), (mn, .inr (2, [.ref qk, .ref qb, .ref qp, .int (nI nq)])), (qk, .inl (cI, 60, .inl ki)), (qb, .inl (cI, 60, .inl bi)), (qp, .inl (cI, 60, .inl pa))]) (fun _ => rfl) (fun _ H locs hF hst => ?_)
  refine lv_istore_n (lv' := [(3, .int (ftf (!manB (nI nq) p0) (decide (p1 < 0) || !decide (p1 ≤ 2)) false false)), (0, .ref o), (1, .int p0), (2, .int p1)]) hx hb dX6_manOf_32 rfl hl (by decide) rfl (fun ls hl => ?_)
  refine lv_iload_n hx hb dX6_manOf_33 rfl (lv_at hl 0 rfl) ?_
  refine lv_if_eq (tgt := 43) hx hb dX6_manOf_34 (by decide) (fun c_34 => ?_) (fun c_34 => ?_)
  · skip
    obtain ⟨f1, f2, f3, f4⟩ := ftf_1 c_34
    refine lv_iload_n hx hb dX6_manOf_43 rfl (lv_at hl 3 rfl) ?_
    refine lv_if_ne (tgt := 59) hx hb dX6_manOf_44 (by decide) (fun c_44 => ?_) (fun c_44 => ?_)
    · skip
      refine lv_iload_n hx hb dX6_manOf_59 rfl (lv_at hl 3 rfl) ?_
      refine lv_iconst (v := 1) hx hb dX6_manOf_60 (by decide) ?_
      refine lv_icmp_ne (tgt := 78) hx hb dX6_manOf_61 (by decide) (fun c_61 => ?_) (fun c_61 => ?_)
      · skip
        refine lv_aload_n hx hb dX6_manOf_78 rfl (lv_at hl 1 rfl) ?_
        refine gf_X6_19 hE hst 0 rfl rfl dX6_manOf_79 ?_
        refine gf_X6_61 hE hst 2 rfl rfl dX6_manOf_82 ?_
        refine lv_iload_n hx hb dX6_manOf_85 rfl (lv_at hl 2 rfl) ?_
        refine q_goI (q_rNV hE lk_X6_155 (c_X2_payAt l D cI cJ cZ mn qk qb qp (nI nq) p0 pa H.size) hst [3, 6] rfl rfl rfl rfl rfl hl.1 ⟨(Nat.le_of_ble_eq_true rfl), (Nat.le_of_ble_eq_true rfl)⟩ (rest := []) rfl (Nat.le_of_ble_eq_true rfl) dX6_manOf_86 ⟨(Nat.le_of_ble_eq_true rfl), (Nat.le_of_ble_eq_true rfl)⟩) hE hst [3, 6] rfl (fun _ => rfl) (fun (_ : Unit) => [(o, .inr (6, [.ref tp, .ref nw, .ref th, .int im, .ref rf, .ref rt])), (rf, .inl (cI, 7, .inl ru)), (nw, .inr (1, [.ref j1, .ref j2, .ref mn, .ref lw, .int cut, .int least, .ref sd, .ref sr])), (mn, .inr (2, [.ref qk, .ref qb, .ref qp, .int (nI nq)])), (qk, .inl (cI, 60, .inl ki)), (qb, .inl (cI, 60, .inl bi)), (qp, .inl (cI, 60, .inl pa))]) (fun _ => rfl) (fun _ H locs hF hst => ?_)
        exact q_retI hQ hE hr hk hst () (by rw [if_pos c_34, if_neg c_44, if_neg c_61]) (trivial) (by rw [if_pos c_34]) dX6_manOf_89
      · skip
        refine lv_aload_n hx hb dX6_manOf_64 rfl (lv_at hl 1 rfl) ?_
        refine gf_X6_19 hE hst 0 rfl rfl dX6_manOf_65 ?_
        refine gf_X6_61 hE hst 2 rfl rfl dX6_manOf_68 ?_
        refine lv_iload_n hx hb dX6_manOf_71 rfl (lv_at hl 2 rfl) ?_
        refine q_goI (q_rNV hE lk_X6_152 (c_X2_birthdayAt l D cI cJ cZ mn qk qb qp (nI nq) p0 bi H.size) hst [3, 5] rfl rfl rfl rfl rfl hl.1 ⟨(Nat.le_of_ble_eq_true rfl), (Nat.le_of_ble_eq_true rfl)⟩ (rest := []) rfl (Nat.le_of_ble_eq_true rfl) dX6_manOf_72 ⟨(Nat.le_of_ble_eq_true rfl), (Nat.le_of_ble_eq_true rfl)⟩) hE hst [3, 5] rfl (fun _ => rfl) (fun (_ : Unit) => [(o, .inr (6, [.ref tp, .ref nw, .ref th, .int im, .ref rf, .ref rt])), (rf, .inl (cI, 7, .inl ru)), (nw, .inr (1, [.ref j1, .ref j2, .ref mn, .ref lw, .int cut, .int least, .ref sd, .ref sr])), (mn, .inr (2, [.ref qk, .ref qb, .ref qp, .int (nI nq)])), (qk, .inl (cI, 60, .inl ki)), (qb, .inl (cI, 60, .inl bi)), (qp, .inl (cI, 60, .inl pa))]) (fun _ => rfl) (fun _ H locs hF hst => ?_)
        refine lv_goto (tgt := 89) hx hb dX6_manOf_75 (by decide) ?_
        exact q_retI hQ hE hr hk hst () (by rw [if_pos c_34, if_neg c_44, if_pos c_61]) (trivial) (by rw [if_pos c_34]) dX6_manOf_89
    · skip
      refine lv_aload_n hx hb dX6_manOf_47 rfl (lv_at hl 1 rfl) ?_
      refine gf_X6_19 hE hst 0 rfl rfl dX6_manOf_48 ?_
      refine gf_X6_61 hE hst 2 rfl rfl dX6_manOf_51 ?_
      refine lv_iload_n hx hb dX6_manOf_54 rfl (lv_at hl 2 rfl) ?_
      refine q_goI (q_rNV hE lk_X6_149 (c_X2_kindAt l D cI cJ cZ mn qk qb qp (nI nq) p0 ki H.size) hst [3, 4] rfl rfl rfl rfl rfl hl.1 ⟨(Nat.le_of_ble_eq_true rfl), (Nat.le_of_ble_eq_true rfl)⟩ (rest := []) rfl (Nat.le_of_ble_eq_true rfl) dX6_manOf_55 ⟨(Nat.le_of_ble_eq_true rfl), (Nat.le_of_ble_eq_true rfl)⟩) hE hst [3, 4] rfl (fun _ => rfl) (fun (_ : Unit) => [(o, .inr (6, [.ref tp, .ref nw, .ref th, .int im, .ref rf, .ref rt])), (rf, .inl (cI, 7, .inl ru)), (nw, .inr (1, [.ref j1, .ref j2, .ref mn, .ref lw, .int cut, .int least, .ref sd, .ref sr])), (mn, .inr (2, [.ref qk, .ref qb, .ref qp, .int (nI nq)])), (qk, .inl (cI, 60, .inl ki)), (qb, .inl (cI, 60, .inl bi)), (qp, .inl (cI, 60, .inl pa))]) (fun _ => rfl) (fun _ H locs hF hst => ?_)
      exact q_retI hQ hE hr hk hst () (by rw [if_pos c_34, if_pos c_44]) (trivial) (by rw [if_pos c_34]) dX6_manOf_58
  · skip
    refine lv_aload_n hx hb dX6_manOf_37 rfl (lv_at hl 1 rfl) ?_
    refine lv_iload_n hx hb dX6_manOf_38 rfl (lv_at hl 0 rfl) ?_
    refine q_goI (q_rV hE lk_X6_49 (c_X6_refuse l D cI cJ cZ o tp nw th rf rt im ru (ftf (!manB (nI nq) p0) (decide (p1 < 0) || !decide (p1 ≤ 2)) false false) (ftf_in _ _ _ _) H.size) hst [0, 1] rfl rfl rfl rfl rfl hl.1 ⟨(Nat.le_of_ble_eq_true rfl), (Nat.le_of_ble_eq_true rfl)⟩ (rest := []) rfl (Nat.le_of_ble_eq_true rfl) dX6_manOf_39 ⟨(Nat.le_of_ble_eq_true rfl), (Nat.le_of_ble_eq_true rfl)⟩) hE hst [0, 1] rfl (fun _ => rfl) (fun (_ : Unit) => [(o, .inr (6, [.ref tp, .ref nw, .ref th, .int im, .ref rf, .ref rt])), (rf, .inl (cI, 7, .inl (bmp ru (ftf (!manB (nI nq) p0) (decide (p1 < 0) || !decide (p1 ≤ 2)) false false)))), (nw, .inr (1, [.ref j1, .ref j2, .ref mn, .ref lw, .int cut, .int least, .ref sd, .ref sr])), (mn, .inr (2, [.ref qk, .ref qb, .ref qp, .int (nI nq)])), (qk, .inl (cI, 60, .inl ki)), (qb, .inl (cI, 60, .inl bi)), (qp, .inl (cI, 60, .inl pa))]) (fun _ => rfl) (fun _ H locs hF hst => ?_)
    exact q_retI hQ hE hr hk hst () (by rw [if_neg c_34]) (trivial) (by rw [if_neg c_34]) dX6_manOf_42
set_option maxHeartbeats 4000000 in
set_option maxRecDepth 100000 in
theorem c_X6_cut (l : Launch) (D : va_G) (cI cJ cZ : ClassId) (o : Nat) (tp : Nat) (nw : Nat) (th : Nat) (rf : Nat) (rt : Nat) (im : Int32) (ru : Nat → Int32) (j1 : Nat) (j2 : Nat) (mn : Nat) (lw : Nat) (sd : Nat) (sr : Nat) (cut : Int32) (least : Int32) (p0 : Int32) : CtI l D cI cJ cZ yX6_cut cX6_cut 4 (some .int) 2 [.ref o, .int p0] [(o, .inr (6, [.ref tp, .ref nw, .ref th, .int im, .ref rf, .ref rt])), (rf, .inl (cI, 7, .inl ru)), (nw, .inr (1, [.ref j1, .ref j2, .ref mn, .ref lw, .int cut, .int least, .ref sd, .ref sr]))] (fun (_ : Unit) => if ftf false false (!decide (0 ≤ p0)) (!decide (p0 ≤ 366)) = 0 then cut else (ftf false false (!decide (0 ≤ p0)) (!decide (p0 ≤ 366)))) (fun (_ : Unit) => True) (fun (_ : Unit) => [(o, .inr (6, [.ref tp, .ref nw, .ref th, .int im, .ref rf, .ref rt])), (rf, .inl (cI, 7, .inl (if ftf false false (!decide (0 ≤ p0)) (!decide (p0 ≤ 366)) = 0 then ru else bmp ru (ftf false false (!decide (0 ≤ p0)) (!decide (p0 ≤ 366)))))), (nw, .inr (1, [.ref j1, .ref j2, .ref mn, .ref lw, .int (if ftf false false (!decide (0 ≤ p0)) (!decide (p0 ≤ 366)) = 0 then p0 else cut), .int least, .ref sd, .ref sr]))]) := by
  refine q_entI (own := RX6) rfl rfl (Nat.le_of_ble_eq_true rfl) ?_
  intro p e s m args below meth c A ls QQ hQ hE hx hb hr hk hin hA hl hst
  have hl : lv_has ls 4 [(0, .ref o), (1, .int p0)] := hl
  refine lv_iconst (v := 0) hx hb dX6_cut_0 (by decide) ?_
  refine lv_iconst (v := 0) hx hb dX6_cut_1 (by decide) ?_
  suffices kJ : ∀ (H : Heap) (locs : List Loc), SS D A s [(o, .inr (6, [.ref tp, .ref nw, .ref th, .int im, .ref rf, .ref rt])), (rf, .inl (cI, 7, .inl ru)), (nw, .inr (1, [.ref j1, .ref j2, .ref mn, .ref lw, .int cut, .int least, .ref sd, .ref sr]))] H locs → W p l e (rmN 2 0 0) s m args below meth c H locs 0 0 QQ (F0 m 11 ls [.int (b2i (!decide (0 ≤ p0))), .int 0, .int 0]) by
    refine lv_iload_n hx hb dX6_cut_2 rfl (lv_at hl 1 rfl) ?_
    refine lv_if_ge (tgt := 10) hx hb dX6_cut_3 (by decide) (fun c_3 => ?_) (fun c_3 => ?_)
    · skip
      refine lv_iconst (v := 0) hx hb dX6_cut_10 (by decide) ?_
      have kJ := kJ _ _ hst
      rw [show (b2i (!decide (0 ≤ p0))) = 0 from (by first | (rw [decide_eq_true c_3]; done) | (rw [decide_eq_true c_3]; rfl))] at kJ
      exact kJ
    · skip
      refine lv_iconst (v := 1) hx hb dX6_cut_6 (by decide) ?_
      refine lv_goto (tgt := 11) hx hb dX6_cut_7 (by decide) ?_
      have kJ := kJ _ _ hst
      rw [show (b2i (!decide (0 ≤ p0))) = 1 from (by first | (rw [decide_eq_false c_3]; done) | (rw [decide_eq_false c_3]; rfl))] at kJ
      exact kJ
  intro H locs hst
  suffices kJ : ∀ (H : Heap) (locs : List Loc), SS D A s [(o, .inr (6, [.ref tp, .ref nw, .ref th, .int im, .ref rf, .ref rt])), (rf, .inl (cI, 7, .inl ru)), (nw, .inr (1, [.ref j1, .ref j2, .ref mn, .ref lw, .int cut, .int least, .ref sd, .ref sr]))] H locs → W p l e (rmN 2 0 0) s m args below meth c H locs 0 0 QQ (F0 m 23 ls [.int (b2i (!decide (p0 ≤ 366))), .int (b2i (!decide (0 ≤ p0))), .int 0, .int 0]) by
    refine lv_iload_n hx hb dX6_cut_11 rfl (lv_at hl 1 rfl) ?_
    refine lv_sipush (v := 366) hx hb dX6_cut_12 (by decide) ?_
    refine lv_icmp_le (tgt := 22) hx hb dX6_cut_15 (by decide) (fun c_15 => ?_) (fun c_15 => ?_)
    · skip
      refine lv_iconst (v := 0) hx hb dX6_cut_22 (by decide) ?_
      have kJ := kJ _ _ hst
      rw [show (b2i (!decide (p0 ≤ 366))) = 0 from (by first | (rw [decide_eq_true c_15]; done) | (rw [decide_eq_true c_15]; rfl))] at kJ
      exact kJ
    · skip
      refine lv_iconst (v := 1) hx hb dX6_cut_18 (by decide) ?_
      refine lv_goto (tgt := 23) hx hb dX6_cut_19 (by decide) ?_
      have kJ := kJ _ _ hst
      rw [show (b2i (!decide (p0 ≤ 366))) = 1 from (by first | (rw [decide_eq_false c_15]; done) | (rw [decide_eq_false c_15]; rfl))] at kJ
      exact kJ
  intro H locs hst
  refine q_goI (q_rS hE lk_X6_45 (c_X6_firstThatFits l D cI cJ cZ false false (!decide (0 ≤ p0)) (!decide (p0 ≤ 366)) H.size) hst [] rfl rfl rfl hl.1 ⟨(Nat.le_of_ble_eq_true rfl), (Nat.le_of_ble_eq_true rfl)⟩ (rest := []) rfl (Nat.le_of_ble_eq_true rfl) dX6_cut_23 ⟨(Nat.le_of_ble_eq_true rfl), (Nat.le_of_ble_eq_true rfl)⟩) hE hst [] rfl (fun _ => rfl) (fun (_ : Unit) => [(o, .inr (6, [.ref tp, .ref nw, .ref th, .int im, .ref rf, .ref rt])), (rf, .inl (cI, 7, .inl ru)), (nw, .inr (1, [.ref j1, .ref j2, .ref mn, .ref lw, .int cut, .int least, .ref sd, .ref sr]))]) (fun _ => rfl) (fun _ H locs hF hst => ?_)
  refine lv_istore_n (lv' := [(2, .int (ftf false false (!decide (0 ≤ p0)) (!decide (p0 ≤ 366)))), (0, .ref o), (1, .int p0)]) hx hb dX6_cut_26 rfl hl (by decide) rfl (fun ls hl => ?_)
  refine lv_iload_n hx hb dX6_cut_27 rfl (lv_at hl 0 rfl) ?_
  refine lv_if_eq (tgt := 37) hx hb dX6_cut_28 (by decide) (fun c_28 => ?_) (fun c_28 => ?_)
  · skip
    obtain ⟨f1, f2, f3, f4⟩ := ftf_1 c_28
    refine lv_aload_n hx hb dX6_cut_37 rfl (lv_at hl 1 rfl) ?_
    refine gf_X6_19 hE hst 0 rfl rfl dX6_cut_38 ?_
    refine gf_X6_158 hE hst 2 rfl rfl dX6_cut_41 ?_
    refine lv_istore_n (lv' := [(3, .int cut), (2, .int (ftf false false (!decide (0 ≤ p0)) (!decide (p0 ≤ 366)))), (0, .ref o), (1, .int p0)]) hx hb dX6_cut_44 rfl hl (by decide) rfl (fun ls hl => ?_)
    refine lv_aload_n hx hb dX6_cut_45 rfl (lv_at hl 2 rfl) ?_
    refine gf_X6_19 hE hst 0 rfl rfl dX6_cut_46 ?_
    refine lv_iload_n hx hb dX6_cut_49 rfl (lv_at hl 3 rfl) ?_
    refine pf_X6_158 hE hst 2 rfl (rfl) (rfl) (Nat.le_of_ble_eq_true rfl) [(o, .inr (6, [.ref tp, .ref nw, .ref th, .int im, .ref rf, .ref rt])), (rf, .inl (cI, 7, .inl ru)), (nw, .inr (1, [.ref j1, .ref j2, .ref mn, .ref lw, .int p0, .int least, .ref sd, .ref sr]))] rfl dX6_cut_50 (fun H locs hst => ?_)
    refine lv_iload_n hx hb dX6_cut_53 rfl (lv_at hl 0 rfl) ?_
    exact q_retI hQ hE hr hk hst () (by rw [if_pos c_28]) (trivial) (by rw [if_pos c_28, if_pos c_28]) dX6_cut_54
  · skip
    refine lv_aload_n hx hb dX6_cut_31 rfl (lv_at hl 1 rfl) ?_
    refine lv_iload_n hx hb dX6_cut_32 rfl (lv_at hl 0 rfl) ?_
    refine q_goI (q_rV hE lk_X6_49 (c_X6_refuse l D cI cJ cZ o tp nw th rf rt im ru (ftf false false (!decide (0 ≤ p0)) (!decide (p0 ≤ 366))) (ftf_in _ _ _ _) H.size) hst [0, 1] rfl rfl rfl rfl rfl hl.1 ⟨(Nat.le_of_ble_eq_true rfl), (Nat.le_of_ble_eq_true rfl)⟩ (rest := []) rfl (Nat.le_of_ble_eq_true rfl) dX6_cut_33 ⟨(Nat.le_of_ble_eq_true rfl), (Nat.le_of_ble_eq_true rfl)⟩) hE hst [0, 1] rfl (fun _ => rfl) (fun (_ : Unit) => [(o, .inr (6, [.ref tp, .ref nw, .ref th, .int im, .ref rf, .ref rt])), (rf, .inl (cI, 7, .inl (bmp ru (ftf false false (!decide (0 ≤ p0)) (!decide (p0 ≤ 366)))))), (nw, .inr (1, [.ref j1, .ref j2, .ref mn, .ref lw, .int cut, .int least, .ref sd, .ref sr]))]) (fun _ => rfl) (fun _ H locs hF hst => ?_)
    exact q_retI hQ hE hr hk hst () (by rw [if_neg c_28]) (trivial) (by rw [if_neg c_28, if_neg c_28]) dX6_cut_36
set_option maxHeartbeats 4000000 in
set_option maxRecDepth 100000 in
theorem c_X6_least (l : Launch) (D : va_G) (cI cJ cZ : ClassId) (o : Nat) (tp : Nat) (nw : Nat) (th : Nat) (rf : Nat) (rt : Nat) (im : Int32) (ru : Nat → Int32) (j1 : Nat) (j2 : Nat) (mn : Nat) (lw : Nat) (sd : Nat) (sr : Nat) (cut : Int32) (least : Int32) (p0 : Int32) : CtI l D cI cJ cZ yX6_least cX6_least 4 (some .int) 2 [.ref o, .int p0] [(o, .inr (6, [.ref tp, .ref nw, .ref th, .int im, .ref rf, .ref rt])), (rf, .inl (cI, 7, .inl ru)), (nw, .inr (1, [.ref j1, .ref j2, .ref mn, .ref lw, .int cut, .int least, .ref sd, .ref sr]))] (fun (_ : Unit) => if ftf false false (!decide (1 ≤ p0)) (!decide (p0 ≤ 60)) = 0 then least else (ftf false false (!decide (1 ≤ p0)) (!decide (p0 ≤ 60)))) (fun (_ : Unit) => True) (fun (_ : Unit) => [(o, .inr (6, [.ref tp, .ref nw, .ref th, .int im, .ref rf, .ref rt])), (rf, .inl (cI, 7, .inl (if ftf false false (!decide (1 ≤ p0)) (!decide (p0 ≤ 60)) = 0 then ru else bmp ru (ftf false false (!decide (1 ≤ p0)) (!decide (p0 ≤ 60)))))), (nw, .inr (1, [.ref j1, .ref j2, .ref mn, .ref lw, .int cut, .int (if ftf false false (!decide (1 ≤ p0)) (!decide (p0 ≤ 60)) = 0 then p0 else least), .ref sd, .ref sr]))]) := by
  refine q_entI (own := RX6) rfl rfl (Nat.le_of_ble_eq_true rfl) ?_
  intro p e s m args below meth c A ls QQ hQ hE hx hb hr hk hin hA hl hst
  have hl : lv_has ls 4 [(0, .ref o), (1, .int p0)] := hl
  refine lv_iconst (v := 0) hx hb dX6_least_0 (by decide) ?_
  refine lv_iconst (v := 0) hx hb dX6_least_1 (by decide) ?_
  suffices kJ : ∀ (H : Heap) (locs : List Loc), SS D A s [(o, .inr (6, [.ref tp, .ref nw, .ref th, .int im, .ref rf, .ref rt])), (rf, .inl (cI, 7, .inl ru)), (nw, .inr (1, [.ref j1, .ref j2, .ref mn, .ref lw, .int cut, .int least, .ref sd, .ref sr]))] H locs → W p l e (rmN 2 0 0) s m args below meth c H locs 0 0 QQ (F0 m 12 ls [.int (b2i (!decide (1 ≤ p0))), .int 0, .int 0]) by
    refine lv_iload_n hx hb dX6_least_2 rfl (lv_at hl 1 rfl) ?_
    refine lv_iconst (v := 1) hx hb dX6_least_3 (by decide) ?_
    refine lv_icmp_ge (tgt := 11) hx hb dX6_least_4 (by decide) (fun c_4 => ?_) (fun c_4 => ?_)
    · skip
      refine lv_iconst (v := 0) hx hb dX6_least_11 (by decide) ?_
      have kJ := kJ _ _ hst
      rw [show (b2i (!decide (1 ≤ p0))) = 0 from (by first | (rw [decide_eq_true c_4]; done) | (rw [decide_eq_true c_4]; rfl))] at kJ
      exact kJ
    · skip
      refine lv_iconst (v := 1) hx hb dX6_least_7 (by decide) ?_
      refine lv_goto (tgt := 12) hx hb dX6_least_8 (by decide) ?_
      have kJ := kJ _ _ hst
      rw [show (b2i (!decide (1 ≤ p0))) = 1 from (by first | (rw [decide_eq_false c_4]; done) | (rw [decide_eq_false c_4]; rfl))] at kJ
      exact kJ
  intro H locs hst
  suffices kJ : ∀ (H : Heap) (locs : List Loc), SS D A s [(o, .inr (6, [.ref tp, .ref nw, .ref th, .int im, .ref rf, .ref rt])), (rf, .inl (cI, 7, .inl ru)), (nw, .inr (1, [.ref j1, .ref j2, .ref mn, .ref lw, .int cut, .int least, .ref sd, .ref sr]))] H locs → W p l e (rmN 2 0 0) s m args below meth c H locs 0 0 QQ (F0 m 23 ls [.int (b2i (!decide (p0 ≤ 60))), .int (b2i (!decide (1 ≤ p0))), .int 0, .int 0]) by
    refine lv_iload_n hx hb dX6_least_12 rfl (lv_at hl 1 rfl) ?_
    refine lv_bipush (v := 60) hx hb dX6_least_13 (by decide) ?_
    refine lv_icmp_le (tgt := 22) hx hb dX6_least_15 (by decide) (fun c_15 => ?_) (fun c_15 => ?_)
    · skip
      refine lv_iconst (v := 0) hx hb dX6_least_22 (by decide) ?_
      have kJ := kJ _ _ hst
      rw [show (b2i (!decide (p0 ≤ 60))) = 0 from (by first | (rw [decide_eq_true c_15]; done) | (rw [decide_eq_true c_15]; rfl))] at kJ
      exact kJ
    · skip
      refine lv_iconst (v := 1) hx hb dX6_least_18 (by decide) ?_
      refine lv_goto (tgt := 23) hx hb dX6_least_19 (by decide) ?_
      have kJ := kJ _ _ hst
      rw [show (b2i (!decide (p0 ≤ 60))) = 1 from (by first | (rw [decide_eq_false c_15]; done) | (rw [decide_eq_false c_15]; rfl))] at kJ
      exact kJ
  intro H locs hst
  refine q_goI (q_rS hE lk_X6_45 (c_X6_firstThatFits l D cI cJ cZ false false (!decide (1 ≤ p0)) (!decide (p0 ≤ 60)) H.size) hst [] rfl rfl rfl hl.1 ⟨(Nat.le_of_ble_eq_true rfl), (Nat.le_of_ble_eq_true rfl)⟩ (rest := []) rfl (Nat.le_of_ble_eq_true rfl) dX6_least_23 ⟨(Nat.le_of_ble_eq_true rfl), (Nat.le_of_ble_eq_true rfl)⟩) hE hst [] rfl (fun _ => rfl) (fun (_ : Unit) => [(o, .inr (6, [.ref tp, .ref nw, .ref th, .int im, .ref rf, .ref rt])), (rf, .inl (cI, 7, .inl ru)), (nw, .inr (1, [.ref j1, .ref j2, .ref mn, .ref lw, .int cut, .int least, .ref sd, .ref sr]))]) (fun _ => rfl) (fun _ H locs hF hst => ?_)
  refine lv_istore_n (lv' := [(2, .int (ftf false false (!decide (1 ≤ p0)) (!decide (p0 ≤ 60)))), (0, .ref o), (1, .int p0)]) hx hb dX6_least_26 rfl hl (by decide) rfl (fun ls hl => ?_)
  refine lv_iload_n hx hb dX6_least_27 rfl (lv_at hl 0 rfl) ?_
  refine lv_if_eq (tgt := 37) hx hb dX6_least_28 (by decide) (fun c_28 => ?_) (fun c_28 => ?_)
  · skip
    obtain ⟨f1, f2, f3, f4⟩ := ftf_1 c_28
    refine lv_aload_n hx hb dX6_least_37 rfl (lv_at hl 1 rfl) ?_
    refine gf_X6_19 hE hst 0 rfl rfl dX6_least_38 ?_
    refine gf_X6_218 hE hst 2 rfl rfl dX6_least_41 ?_
    refine lv_istore_n (lv' := [(3, .int least), (2, .int (ftf false false (!decide (1 ≤ p0)) (!decide (p0 ≤ 60)))), (0, .ref o), (1, .int p0)]) hx hb dX6_least_44 rfl hl (by decide) rfl (fun ls hl => ?_)
    refine lv_aload_n hx hb dX6_least_45 rfl (lv_at hl 2 rfl) ?_
    refine gf_X6_19 hE hst 0 rfl rfl dX6_least_46 ?_
    refine lv_iload_n hx hb dX6_least_49 rfl (lv_at hl 3 rfl) ?_
    refine pf_X6_218 hE hst 2 rfl (rfl) (rfl) (Nat.le_of_ble_eq_true rfl) [(o, .inr (6, [.ref tp, .ref nw, .ref th, .int im, .ref rf, .ref rt])), (rf, .inl (cI, 7, .inl ru)), (nw, .inr (1, [.ref j1, .ref j2, .ref mn, .ref lw, .int cut, .int p0, .ref sd, .ref sr]))] rfl dX6_least_50 (fun H locs hst => ?_)
    refine lv_iload_n hx hb dX6_least_53 rfl (lv_at hl 0 rfl) ?_
    exact q_retI hQ hE hr hk hst () (by rw [if_pos c_28]) (trivial) (by rw [if_pos c_28, if_pos c_28]) dX6_least_54
  · skip
    refine lv_aload_n hx hb dX6_least_31 rfl (lv_at hl 1 rfl) ?_
    refine lv_iload_n hx hb dX6_least_32 rfl (lv_at hl 0 rfl) ?_
    refine q_goI (q_rV hE lk_X6_49 (c_X6_refuse l D cI cJ cZ o tp nw th rf rt im ru (ftf false false (!decide (1 ≤ p0)) (!decide (p0 ≤ 60))) (ftf_in _ _ _ _) H.size) hst [0, 1] rfl rfl rfl rfl rfl hl.1 ⟨(Nat.le_of_ble_eq_true rfl), (Nat.le_of_ble_eq_true rfl)⟩ (rest := []) rfl (Nat.le_of_ble_eq_true rfl) dX6_least_33 ⟨(Nat.le_of_ble_eq_true rfl), (Nat.le_of_ble_eq_true rfl)⟩) hE hst [0, 1] rfl (fun _ => rfl) (fun (_ : Unit) => [(o, .inr (6, [.ref tp, .ref nw, .ref th, .int im, .ref rf, .ref rt])), (rf, .inl (cI, 7, .inl (bmp ru (ftf false false (!decide (1 ≤ p0)) (!decide (p0 ≤ 60)))))), (nw, .inr (1, [.ref j1, .ref j2, .ref mn, .ref lw, .int cut, .int least, .ref sd, .ref sr]))]) (fun _ => rfl) (fun _ H locs hF hst => ?_)
    exact q_retI hQ hE hr hk hst () (by rw [if_neg c_28]) (trivial) (by rw [if_neg c_28, if_neg c_28]) dX6_least_36
set_option maxHeartbeats 4000000 in
set_option maxRecDepth 100000 in
theorem c_X6_law (l : Launch) (D : va_G) (cI cJ cZ : ClassId) (o : Nat) (tp : Nat) (nw : Nat) (th : Nat) (rf : Nat) (rt : Nat) (im : Int32) (ru : Nat → Int32) (j1 : Nat) (j2 : Nat) (mn : Nat) (lw : Nat) (sd : Nat) (sr : Nat) (cut : Int32) (least : Int32) (la : Nat → Int32) (p0 : Int32) (p1 : Int32) : CtI l D cI cJ cZ yX6_law cX6_law 6 (some .int) 2 [.ref o, .int p0, .int p1] [(o, .inr (6, [.ref tp, .ref nw, .ref th, .int im, .ref rf, .ref rt])), (rf, .inl (cI, 7, .inl ru)), (nw, .inr (1, [.ref j1, .ref j2, .ref mn, .ref lw, .int cut, .int least, .ref sd, .ref sr])), (lw, .inl (cI, 5, .inl la))] (fun (_ : Unit) => if ftf (!(!decide (p0 < 0) && !decide (nI 5 ≤ p0))) false (!decide (0 ≤ p1)) (!decide (p1 ≤ atI 5 fGL p0)) = 0 then atI 5 la p0 else (ftf (!(!decide (p0 < 0) && !decide (nI 5 ≤ p0))) false (!decide (0 ≤ p1)) (!decide (p1 ≤ atI 5 fGL p0)))) (fun (_ : Unit) => True) (fun (_ : Unit) => [(o, .inr (6, [.ref tp, .ref nw, .ref th, .int im, .ref rf, .ref rt])), (rf, .inl (cI, 7, .inl (if ftf (!(!decide (p0 < 0) && !decide (nI 5 ≤ p0))) false (!decide (0 ≤ p1)) (!decide (p1 ≤ atI 5 fGL p0)) = 0 then ru else bmp ru (ftf (!(!decide (p0 < 0) && !decide (nI 5 ≤ p0))) false (!decide (0 ≤ p1)) (!decide (p1 ≤ atI 5 fGL p0)))))), (nw, .inr (1, [.ref j1, .ref j2, .ref mn, .ref lw, .int cut, .int least, .ref sd, .ref sr])), (lw, .inl (cI, 5, .inl (if ftf (!(!decide (p0 < 0) && !decide (nI 5 ≤ p0))) false (!decide (0 ≤ p1)) (!decide (p1 ≤ atI 5 fGL p0)) = 0 then putI 5 la p0 p1 else la)))]) := by
  refine q_entI (own := RX6) rfl rfl (Nat.le_of_ble_eq_true rfl) ?_
  intro p e s m args below meth c A ls QQ hQ hE hx hb hr hk hin hA hl hst
  have hl : lv_has ls 6 [(0, .ref o), (1, .int p0), (2, .int p1)] := hl
  suffices kJ : ∀ (H : Heap) (locs : List Loc), SS D A s [(o, .inr (6, [.ref tp, .ref nw, .ref th, .int im, .ref rf, .ref rt])), (rf, .inl (cI, 7, .inl ru)), (nw, .inr (1, [.ref j1, .ref j2, .ref mn, .ref lw, .int cut, .int least, .ref sd, .ref sr])), (lw, .inl (cI, 5, .inl la))] H locs → W p l e (rmN 2 0 0) s m args below meth c H locs 0 0 QQ (F0 m 17 ls [.int (b2i (!decide (p0 < 0) && !decide (nI 5 ≤ p0)))]) by
    refine lv_iload_n hx hb dX6_law_0 rfl (lv_at hl 1 rfl) ?_
    refine lv_if_lt (tgt := 16) hx hb dX6_law_1 (by decide) (fun c_1 => ?_) (fun c_1 => ?_)
    · skip
      refine lv_iconst (v := 0) hx hb dX6_law_16 (by decide) ?_
      have kJ := kJ _ _ hst
      rw [show (b2i (!decide (p0 < 0) && !decide (nI 5 ≤ p0))) = 0 from (by first | (rw [decide_eq_true c_1]; done) | (rw [decide_eq_true c_1]; rfl))] at kJ
      exact kJ
    · skip
      refine lv_iload_n hx hb dX6_law_4 rfl (lv_at hl 1 rfl) ?_
      refine q_gets hE hst hE.2.2.1.2.2.1 wk_2_235 dX6_law_5 (fun tb_5 hT_5 => ?_)
      refine q_tlen hE hst hT_5 dX6_law_8 ?_
      refine lv_icmp_ge (tgt := 16) hx hb dX6_law_9 (by decide) (fun c_9 => ?_) (fun c_9 => ?_)
      · skip
        refine lv_iconst (v := 0) hx hb dX6_law_16 (by decide) ?_
        have kJ := kJ _ _ hst
        rw [show (b2i (!decide (p0 < 0) && !decide (nI 5 ≤ p0))) = 0 from (by first | (rw [decide_eq_false c_1, decide_eq_true c_9]; done) | (rw [decide_eq_false c_1, decide_eq_true c_9]; rfl))] at kJ
        exact kJ
      · skip
        refine lv_iconst (v := 1) hx hb dX6_law_12 (by decide) ?_
        refine lv_goto (tgt := 17) hx hb dX6_law_13 (by decide) ?_
        have kJ := kJ _ _ hst
        rw [show (b2i (!decide (p0 < 0) && !decide (nI 5 ≤ p0))) = 1 from (by first | (rw [decide_eq_false c_1, decide_eq_false c_9]; done) | (rw [decide_eq_false c_1, decide_eq_false c_9]; rfl))] at kJ
        exact kJ
  intro H locs hst
  refine lv_istore_n (lv' := [(3, .int (b2i (!decide (p0 < 0) && !decide (nI 5 ≤ p0)))), (0, .ref o), (1, .int p0), (2, .int p1)]) hx hb dX6_law_17 rfl hl (by decide) rfl (fun ls hl => ?_)
  suffices kJ : ∀ (H : Heap) (locs : List Loc), SS D A s [(o, .inr (6, [.ref tp, .ref nw, .ref th, .int im, .ref rf, .ref rt])), (rf, .inl (cI, 7, .inl ru)), (nw, .inr (1, [.ref j1, .ref j2, .ref mn, .ref lw, .int cut, .int least, .ref sd, .ref sr])), (lw, .inl (cI, 5, .inl la))] H locs → W p l e (rmN 2 0 0) s m args below meth c H locs 0 0 QQ (F0 m 27 ls [.int (b2i (!(!decide (p0 < 0) && !decide (nI 5 ≤ p0))))]) by
    refine lv_iload_n hx hb dX6_law_18 rfl (lv_at hl 0 rfl) ?_
    refine lv_if_ne (tgt := 26) hx hb dX6_law_19 (by decide) (fun c_19 => ?_) (fun c_19 => ?_)
    · skip
      have c_19 := b2i_t c_19
      refine lv_iconst (v := 0) hx hb dX6_law_26 (by decide) ?_
      have kJ := kJ _ _ hst
      rw [show (b2i (!(!decide (p0 < 0) && !decide (nI 5 ≤ p0)))) = 0 from (by first | (rw [c_19]; done) | (rw [c_19]; rfl))] at kJ
      exact kJ
    · skip
      have c_19 := b2i_f c_19
      refine lv_iconst (v := 1) hx hb dX6_law_22 (by decide) ?_
      refine lv_goto (tgt := 27) hx hb dX6_law_23 (by decide) ?_
      have kJ := kJ _ _ hst
      rw [show (b2i (!(!decide (p0 < 0) && !decide (nI 5 ≤ p0)))) = 1 from (by first | (rw [c_19]; done) | (rw [c_19]; rfl))] at kJ
      exact kJ
  intro H locs hst
  refine lv_iconst (v := 0) hx hb dX6_law_27 (by decide) ?_
  suffices kJ : ∀ (H : Heap) (locs : List Loc), SS D A s [(o, .inr (6, [.ref tp, .ref nw, .ref th, .int im, .ref rf, .ref rt])), (rf, .inl (cI, 7, .inl ru)), (nw, .inr (1, [.ref j1, .ref j2, .ref mn, .ref lw, .int cut, .int least, .ref sd, .ref sr])), (lw, .inl (cI, 5, .inl la))] H locs → W p l e (rmN 2 0 0) s m args below meth c H locs 0 0 QQ (F0 m 37 ls [.int (b2i (!decide (0 ≤ p1))), .int 0, .int (b2i (!(!decide (p0 < 0) && !decide (nI 5 ≤ p0))))]) by
    refine lv_iload_n hx hb dX6_law_28 rfl (lv_at hl 3 rfl) ?_
    refine lv_if_ge (tgt := 36) hx hb dX6_law_29 (by decide) (fun c_29 => ?_) (fun c_29 => ?_)
    · skip
      refine lv_iconst (v := 0) hx hb dX6_law_36 (by decide) ?_
      have kJ := kJ _ _ hst
      rw [show (b2i (!decide (0 ≤ p1))) = 0 from (by first | (rw [decide_eq_true c_29]; done) | (rw [decide_eq_true c_29]; rfl))] at kJ
      exact kJ
    · skip
      refine lv_iconst (v := 1) hx hb dX6_law_32 (by decide) ?_
      refine lv_goto (tgt := 37) hx hb dX6_law_33 (by decide) ?_
      have kJ := kJ _ _ hst
      rw [show (b2i (!decide (0 ≤ p1))) = 1 from (by first | (rw [decide_eq_false c_29]; done) | (rw [decide_eq_false c_29]; rfl))] at kJ
      exact kJ
  intro H locs hst
  suffices kJ : ∀ (H : Heap) (locs : List Loc), SS D A s [(o, .inr (6, [.ref tp, .ref nw, .ref th, .int im, .ref rf, .ref rt])), (rf, .inl (cI, 7, .inl ru)), (nw, .inr (1, [.ref j1, .ref j2, .ref mn, .ref lw, .int cut, .int least, .ref sd, .ref sr])), (lw, .inl (cI, 5, .inl la))] H locs → W p l e (rmN 2 0 0) s m args below meth c H locs 0 0 QQ (F0 m 53 ls [.int (b2i (!decide (p1 ≤ atI 5 fGL p0))), .int (b2i (!decide (0 ≤ p1))), .int 0, .int (b2i (!(!decide (p0 < 0) && !decide (nI 5 ≤ p0))))]) by
    refine lv_iload_n hx hb dX6_law_37 rfl (lv_at hl 3 rfl) ?_
    refine q_gets hE hst hE.2.2.1.2.2.1 wk_2_235 dX6_law_38 (fun tb_38 hT_38 => ?_)
    refine lv_iload_n hx hb dX6_law_41 rfl (lv_at hl 2 rfl) ?_
    refine q_tab hE lk_X6_164 hst hT_38 (by decide) hl.1 ⟨(Nat.le_of_ble_eq_true rfl), (Nat.le_of_ble_eq_true rfl)⟩ (Nat.le_of_ble_eq_true rfl) ⟨(Nat.le_of_ble_eq_true rfl), (Nat.le_of_ble_eq_true rfl)⟩ dX6_law_42 (fun H locs hst => ?_)
    refine lv_icmp_le (tgt := 52) hx hb dX6_law_45 (by decide) (fun c_45 => ?_) (fun c_45 => ?_)
    · skip
      refine lv_iconst (v := 0) hx hb dX6_law_52 (by decide) ?_
      have kJ := kJ _ _ hst
      rw [show (b2i (!decide (p1 ≤ atI 5 fGL p0))) = 0 from (by first | (rw [decide_eq_true c_45]; done) | (rw [decide_eq_true c_45]; rfl))] at kJ
      exact kJ
    · skip
      refine lv_iconst (v := 1) hx hb dX6_law_48 (by decide) ?_
      refine lv_goto (tgt := 53) hx hb dX6_law_49 (by decide) ?_
      have kJ := kJ _ _ hst
      rw [show (b2i (!decide (p1 ≤ atI 5 fGL p0))) = 1 from (by first | (rw [decide_eq_false c_45]; done) | (rw [decide_eq_false c_45]; rfl))] at kJ
      exact kJ
  intro H locs hst
  refine q_goI (q_rS hE lk_X6_45 (c_X6_firstThatFits l D cI cJ cZ (!(!decide (p0 < 0) && !decide (nI 5 ≤ p0))) false (!decide (0 ≤ p1)) (!decide (p1 ≤ atI 5 fGL p0)) H.size) hst [] rfl rfl rfl hl.1 ⟨(Nat.le_of_ble_eq_true rfl), (Nat.le_of_ble_eq_true rfl)⟩ (rest := []) rfl (Nat.le_of_ble_eq_true rfl) dX6_law_53 ⟨(Nat.le_of_ble_eq_true rfl), (Nat.le_of_ble_eq_true rfl)⟩) hE hst [] rfl (fun _ => rfl) (fun (_ : Unit) => [(o, .inr (6, [.ref tp, .ref nw, .ref th, .int im, .ref rf, .ref rt])), (rf, .inl (cI, 7, .inl ru)), (nw, .inr (1, [.ref j1, .ref j2, .ref mn, .ref lw, .int cut, .int least, .ref sd, .ref sr])), (lw, .inl (cI, 5, .inl la))]) (fun _ => rfl) (fun _ H locs hF hst => ?_)
  refine lv_istore (lv' := [(4, .int (ftf (!(!decide (p0 < 0) && !decide (nI 5 ≤ p0))) false (!decide (0 ≤ p1)) (!decide (p1 ≤ atI 5 fGL p0)))), (3, .int (b2i (!decide (p0 < 0) && !decide (nI 5 ≤ p0)))), (0, .ref o), (1, .int p0), (2, .int p1)]) hx hb dX6_law_56 hl (by decide) rfl (fun ls hl => ?_)
  refine lv_iload hx hb dX6_law_58 (lv_at hl 0 rfl) ?_
  refine lv_if_eq (tgt := 70) hx hb dX6_law_60 (by decide) (fun c_60 => ?_) (fun c_60 => ?_)
  · skip
    obtain ⟨f1, f2, f3, f4⟩ := ftf_1 c_60
    refine lv_aload_n hx hb dX6_law_70 rfl (lv_at hl 2 rfl) ?_
    refine gf_X6_19 hE hst 0 rfl rfl dX6_law_71 ?_
    refine gf_X6_168 hE hst 2 rfl rfl dX6_law_74 ?_
    refine lv_iload_n hx hb dX6_law_77 rfl (lv_at hl 3 rfl) ?_
    refine q_goI (q_rS hE lk_X6_164 (c_X6_at l D cI cJ cZ lw 5 la p0 (by first | assumption | decide | omega) H.size) hst [3] rfl rfl rfl hl.1 ⟨(Nat.le_of_ble_eq_true rfl), (Nat.le_of_ble_eq_true rfl)⟩ (rest := []) rfl (Nat.le_of_ble_eq_true rfl) dX6_law_78 ⟨(Nat.le_of_ble_eq_true rfl), (Nat.le_of_ble_eq_true rfl)⟩) hE hst [3] rfl (fun _ => rfl) (fun (_ : Unit) => [(o, .inr (6, [.ref tp, .ref nw, .ref th, .int im, .ref rf, .ref rt])), (rf, .inl (cI, 7, .inl ru)), (nw, .inr (1, [.ref j1, .ref j2, .ref mn, .ref lw, .int cut, .int least, .ref sd, .ref sr])), (lw, .inl (cI, 5, .inl la))]) (fun _ => rfl) (fun _ H locs hF hst => ?_)
    refine lv_istore (lv' := [(5, .int (atI 5 la p0)), (4, .int (ftf (!(!decide (p0 < 0) && !decide (nI 5 ≤ p0))) false (!decide (0 ≤ p1)) (!decide (p1 ≤ atI 5 fGL p0)))), (3, .int (b2i (!decide (p0 < 0) && !decide (nI 5 ≤ p0)))), (0, .ref o), (1, .int p0), (2, .int p1)]) hx hb dX6_law_81 hl (by decide) rfl (fun ls hl => ?_)
    refine lv_aload_n hx hb dX6_law_83 rfl (lv_at hl 3 rfl) ?_
    refine gf_X6_19 hE hst 0 rfl rfl dX6_law_84 ?_
    refine gf_X6_168 hE hst 2 rfl rfl dX6_law_87 ?_
    refine lv_iload_n hx hb dX6_law_90 rfl (lv_at hl 4 rfl) ?_
    refine lv_iload_n hx hb dX6_law_91 rfl (lv_at hl 5 rfl) ?_
    refine q_goV (q_rS hE lk_X6_171 (c_X6_put l D cI cJ cZ lw 5 la p0 p1 (by first | assumption | decide | omega) H.size) hst [3] rfl rfl rfl hl.1 ⟨(Nat.le_of_ble_eq_true rfl), (Nat.le_of_ble_eq_true rfl)⟩ (rest := []) rfl (Nat.le_of_ble_eq_true rfl) dX6_law_92 ⟨(Nat.le_of_ble_eq_true rfl), (Nat.le_of_ble_eq_true rfl)⟩) hE hst [3] rfl (fun _ => rfl) (fun (_ : Unit) => [(o, .inr (6, [.ref tp, .ref nw, .ref th, .int im, .ref rf, .ref rt])), (rf, .inl (cI, 7, .inl ru)), (nw, .inr (1, [.ref j1, .ref j2, .ref mn, .ref lw, .int cut, .int least, .ref sd, .ref sr])), (lw, .inl (cI, 5, .inl (putI 5 la p0 p1)))]) (fun _ => rfl) (fun _ H locs hF hst => ?_)
    refine lv_iload hx hb dX6_law_95 (lv_at hl 0 rfl) ?_
    exact q_retI hQ hE hr hk hst () (by rw [if_pos c_60]) (trivial) (by rw [if_pos c_60, if_pos c_60]) dX6_law_97
  · skip
    refine lv_aload_n hx hb dX6_law_63 rfl (lv_at hl 2 rfl) ?_
    refine lv_iload hx hb dX6_law_64 (lv_at hl 0 rfl) ?_
    refine q_goI (q_rV hE lk_X6_49 (c_X6_refuse l D cI cJ cZ o tp nw th rf rt im ru (ftf (!(!decide (p0 < 0) && !decide (nI 5 ≤ p0))) false (!decide (0 ≤ p1)) (!decide (p1 ≤ atI 5 fGL p0))) (ftf_in _ _ _ _) H.size) hst [0, 1] rfl rfl rfl rfl rfl hl.1 ⟨(Nat.le_of_ble_eq_true rfl), (Nat.le_of_ble_eq_true rfl)⟩ (rest := []) rfl (Nat.le_of_ble_eq_true rfl) dX6_law_66 ⟨(Nat.le_of_ble_eq_true rfl), (Nat.le_of_ble_eq_true rfl)⟩) hE hst [0, 1] rfl (fun _ => rfl) (fun (_ : Unit) => [(o, .inr (6, [.ref tp, .ref nw, .ref th, .int im, .ref rf, .ref rt])), (rf, .inl (cI, 7, .inl (bmp ru (ftf (!(!decide (p0 < 0) && !decide (nI 5 ≤ p0))) false (!decide (0 ≤ p1)) (!decide (p1 ≤ atI 5 fGL p0)))))), (nw, .inr (1, [.ref j1, .ref j2, .ref mn, .ref lw, .int cut, .int least, .ref sd, .ref sr])), (lw, .inl (cI, 5, .inl la))]) (fun _ => rfl) (fun _ H locs hF hst => ?_)
    exact q_retI hQ hE hr hk hst () (by rw [if_neg c_60]) (trivial) (by rw [if_neg c_60, if_neg c_60]) dX6_law_69
set_option maxHeartbeats 4000000 in
set_option maxRecDepth 100000 in
theorem c_X6_called (l : Launch) (D : va_G) (cI cJ cZ : ClassId) (o : Nat) (tp : Nat) (nw : Nat) (th : Nat) (rf : Nat) (rt : Nat) (im : Int32) (ru : Nat → Int32) (j1 : Nat) (j2 : Nat) (mn : Nat) (lw : Nat) (sd : Nat) (sr : Nat) (cut : Int32) (least : Int32) (qk : Nat) (qb : Nat) (qp : Nat) (nq : Nat) (g : Nat) (gn : Nat) (gd : Nat) (gr : Nat) (gs : Nat) (se : Int32) (sh : Int32) (sp : Int32) (de : Int32) (po : Int32) (lo : Int32) (nd : Nat → Int32) (bi : Nat → Int32) (p0 : Int32) (p1 : Int32) (hsel : isJarB p0 = true → (if p0 = 0 then j1 else j2) = g) (hn : nq ≤ 60) (hbi : ∀ j, j < nq → vp_in (bi j) 366) : CtI l D cI cJ cZ yX6_called cX6_called 3 (some .int) 4 [.ref o, .int p0, .int p1] [(o, .inr (6, [.ref tp, .ref nw, .ref th, .int im, .ref rf, .ref rt])), (rf, .inl (cI, 7, .inl ru)), (nw, .inr (1, [.ref j1, .ref j2, .ref mn, .ref lw, .int cut, .int least, .ref sd, .ref sr])), (mn, .inr (2, [.ref qk, .ref qb, .ref qp, .int (nI nq)])), (qb, .inl (cI, 60, .inl bi)), (g, .inr (0, [.int se, .int sh, .int sp, .int de, .int po, .ref gn, .ref gd, .ref gr, .ref gs, .int lo])), (gn, .inl (cI, 366, .inl nd))] (fun (_ : Unit) => if (isJarB p0 && manB (nI nq) p1) = true then b2i (calF cut nd bi p1.toNatClampNeg) else -1) (fun (_ : Unit) => True) (fun (_ : Unit) => [(o, .inr (6, [.ref tp, .ref nw, .ref th, .int im, .ref rf, .ref rt])), (rf, .inl (cI, 7, .inl (if (isJarB p0 && manB (nI nq) p1) = true then ru else bmp ru (-1)))), (nw, .inr (1, [.ref j1, .ref j2, .ref mn, .ref lw, .int cut, .int least, .ref sd, .ref sr])), (mn, .inr (2, [.ref qk, .ref qb, .ref qp, .int (nI nq)])), (qb, .inl (cI, 60, .inl bi)), (g, .inr (0, [.int se, .int sh, .int sp, .int de, .int po, .ref gn, .ref gd, .ref gr, .ref gs, .int lo])), (gn, .inl (cI, 366, .inl nd))]) := by
  refine q_entI (own := RX6) rfl rfl (Nat.le_of_ble_eq_true rfl) ?_
  intro p e s m args below meth c A ls QQ hQ hE hx hb hr hk hin hA hl hst
  have hl : lv_has ls 3 [(0, .ref o), (1, .int p0), (2, .int p1)] := hl
  refine lv_iload_n hx hb dX6_called_0 rfl (lv_at hl 1 rfl) ?_
  refine q_goI (q_rS hE lk_X6_90 (c_X6_isJar l D cI cJ cZ p0 s.heap.size) hst [] rfl rfl rfl hl.1 ⟨(Nat.le_of_ble_eq_true rfl), (Nat.le_of_ble_eq_true rfl)⟩ (rest := []) rfl (Nat.le_of_ble_eq_true rfl) dX6_called_1 ⟨(Nat.le_of_ble_eq_true rfl), (Nat.le_of_ble_eq_true rfl)⟩) hE hst [] rfl (fun _ => rfl) (fun (_ : Unit) => [(o, .inr (6, [.ref tp, .ref nw, .ref th, .int im, .ref rf, .ref rt])), (rf, .inl (cI, 7, .inl ru)), (nw, .inr (1, [.ref j1, .ref j2, .ref mn, .ref lw, .int cut, .int least, .ref sd, .ref sr])), (mn, .inr (2, [.ref qk, .ref qb, .ref qp, .int (nI nq)])), (qb, .inl (cI, 60, .inl bi)), (g, .inr (0, [.int se, .int sh, .int sp, .int de, .int po, .ref gn, .ref gd, .ref gr, .ref gs, .int lo])), (gn, .inl (cI, 366, .inl nd))]) (fun _ => rfl) (fun _ H locs hF hst => ?_)
  refine lv_if_eq (tgt := 15) hx hb dX6_called_4 (by decide) (fun c_4 => ?_) (fun c_4 => ?_)
  · skip
    have c_4 := b2i_f c_4
    refine lv_aload_n hx hb dX6_called_15 rfl (lv_at hl 0 rfl) ?_
    refine lv_iconst (v := (-1)) hx hb dX6_called_16 (by decide) ?_
    refine q_goI (q_rV hE lk_X6_49 (c_X6_refuse l D cI cJ cZ o tp nw th rf rt im ru (-1) (by rw [vp_in_iff]; decide) H.size) hst [0, 1] rfl rfl rfl rfl rfl hl.1 ⟨(Nat.le_of_ble_eq_true rfl), (Nat.le_of_ble_eq_true rfl)⟩ (rest := []) rfl (Nat.le_of_ble_eq_true rfl) dX6_called_17 ⟨(Nat.le_of_ble_eq_true rfl), (Nat.le_of_ble_eq_true rfl)⟩) hE hst [0, 1] rfl (fun _ => rfl) (fun (_ : Unit) => [(o, .inr (6, [.ref tp, .ref nw, .ref th, .int im, .ref rf, .ref rt])), (rf, .inl (cI, 7, .inl (bmp ru (-1)))), (nw, .inr (1, [.ref j1, .ref j2, .ref mn, .ref lw, .int cut, .int least, .ref sd, .ref sr])), (mn, .inr (2, [.ref qk, .ref qb, .ref qp, .int (nI nq)])), (qb, .inl (cI, 60, .inl bi)), (g, .inr (0, [.int se, .int sh, .int sp, .int de, .int po, .ref gn, .ref gd, .ref gr, .ref gs, .int lo])), (gn, .inl (cI, 366, .inl nd))]) (fun _ => rfl) (fun _ H locs hF hst => ?_)
    exact q_retI hQ hE hr hk hst () (by rw [if_neg (by rw [c_4, Bool.false_and]; decide)]) (trivial) (by rw [if_neg (by rw [c_4, Bool.false_and]; decide)]) dX6_called_20
  · skip
    have c_4 := b2i_t c_4
    have hjr := c_4
    refine lv_aload_n hx hb dX6_called_7 rfl (lv_at hl 0 rfl) ?_
    refine lv_iload_n hx hb dX6_called_8 rfl (lv_at hl 2 rfl) ?_
    refine q_goI (q_rV hE lk_X6_146 (c_X6_isMan l D cI cJ cZ o tp nw th rf rt im j1 j2 mn lw sd sr cut least qk qb qp (nI nq) p1 H.size) hst [0, 2, 3] rfl rfl rfl rfl rfl hl.1 ⟨(Nat.le_of_ble_eq_true rfl), (Nat.le_of_ble_eq_true rfl)⟩ (rest := []) rfl (Nat.le_of_ble_eq_true rfl) dX6_called_9 ⟨(Nat.le_of_ble_eq_true rfl), (Nat.le_of_ble_eq_true rfl)⟩) hE hst [0, 2, 3] rfl (fun _ => rfl) (fun (_ : Unit) => [(o, .inr (6, [.ref tp, .ref nw, .ref th, .int im, .ref rf, .ref rt])), (rf, .inl (cI, 7, .inl ru)), (nw, .inr (1, [.ref j1, .ref j2, .ref mn, .ref lw, .int cut, .int least, .ref sd, .ref sr])), (mn, .inr (2, [.ref qk, .ref qb, .ref qp, .int (nI nq)])), (qb, .inl (cI, 60, .inl bi)), (g, .inr (0, [.int se, .int sh, .int sp, .int de, .int po, .ref gn, .ref gd, .ref gr, .ref gs, .int lo])), (gn, .inl (cI, 366, .inl nd))]) (fun _ => rfl) (fun _ H locs hF hst => ?_)
    refine lv_if_ne (tgt := 21) hx hb dX6_called_12 (by decide) (fun c_12 => ?_) (fun c_12 => ?_)
    · skip
      have c_12 := b2i_t c_12
      have hjm : (isJarB p0 && manB (nI nq) p1) = true := by rw [c_4, c_12]; rfl
      obtain ⟨m1, hm1, rfl⟩ := man_of hn c_12
      skip
      refine lv_aload_n hx hb dX6_called_21 rfl (lv_at hl 0 rfl) ?_
      refine gf_X6_19 hE hst 0 rfl rfl dX6_called_22 ?_
      refine lv_aload_n hx hb dX6_called_25 rfl (lv_at hl 0 rfl) ?_
      refine gf_X6_19 hE hst 0 rfl rfl dX6_called_26 ?_
      refine lv_iload_n hx hb dX6_called_29 rfl (lv_at hl 1 rfl) ?_
      refine q_goR (q_rNV hE lk_X6_93 (c_X1_jarAt l D cI cJ cZ nw j1 j2 mn lw sd sr cut least p0 H.size) hst [2] rfl rfl rfl rfl rfl hl.1 ⟨(Nat.le_of_ble_eq_true rfl), (Nat.le_of_ble_eq_true rfl)⟩ (rest := [.ref nw]) rfl (Nat.le_of_ble_eq_true rfl) dX6_called_30 ⟨(Nat.le_of_ble_eq_true rfl), (Nat.le_of_ble_eq_true rfl)⟩) hE hst [2] rfl (fun _ => rfl) (fun (_ : Unit) => [(o, .inr (6, [.ref tp, .ref nw, .ref th, .int im, .ref rf, .ref rt])), (rf, .inl (cI, 7, .inl ru)), (nw, .inr (1, [.ref j1, .ref j2, .ref mn, .ref lw, .int cut, .int least, .ref sd, .ref sr])), (mn, .inr (2, [.ref qk, .ref qb, .ref qp, .int (nI nq)])), (qb, .inl (cI, 60, .inl bi)), (g, .inr (0, [.int se, .int sh, .int sp, .int de, .int po, .ref gn, .ref gd, .ref gr, .ref gs, .int lo])), (gn, .inl (cI, 366, .inl nd))]) (fun _ => rfl) (fun _ H locs hF hst => ?_)
      refine q_topR (x' := g) (hsel hjr) ?_
      refine lv_iload_n hx hb dX6_called_33 rfl (lv_at hl 2 rfl) ?_
      refine q_goI (q_rNV hE lk_X6_175 (c_X1_isCalledBy l D cI cJ cZ nw j1 j2 mn lw sd sr cut least qk qb qp (nI nq) g gn gd gr gs se sh sp de po lo nd bi m1 (by omega) (hbi m1 hm1) H.size) hst [2, 3, 4, 5, 6] rfl rfl rfl rfl rfl hl.1 ⟨(Nat.le_of_ble_eq_true rfl), (Nat.le_of_ble_eq_true rfl)⟩ (rest := []) rfl (Nat.le_of_ble_eq_true rfl) dX6_called_34 ⟨(Nat.le_of_ble_eq_true rfl), (Nat.le_of_ble_eq_true rfl)⟩) hE hst [2, 3, 4, 5, 6] rfl (fun _ => rfl) (fun (_ : Unit) => [(o, .inr (6, [.ref tp, .ref nw, .ref th, .int im, .ref rf, .ref rt])), (rf, .inl (cI, 7, .inl ru)), (nw, .inr (1, [.ref j1, .ref j2, .ref mn, .ref lw, .int cut, .int least, .ref sd, .ref sr])), (mn, .inr (2, [.ref qk, .ref qb, .ref qp, .int (nI nq)])), (qb, .inl (cI, 60, .inl bi)), (g, .inr (0, [.int se, .int sh, .int sp, .int de, .int po, .ref gn, .ref gd, .ref gr, .ref gs, .int lo])), (gn, .inl (cI, 366, .inl nd))]) (fun _ => rfl) (fun _ H locs hF hst => ?_)
      refine lv_if_eq (tgt := 44) hx hb dX6_called_37 (by decide) (fun c_37 => ?_) (fun c_37 => ?_)
      · skip
        have c_37 := b2i_f c_37
        refine lv_iconst (v := 0) hx hb dX6_called_44 (by decide) ?_
        exact q_retI hQ hE hr hk hst () (by rw [if_pos hjm, nI_clamp (by omega), c_37]; rfl) (trivial) (by rw [if_pos hjm]) dX6_called_45
      · skip
        have c_37 := b2i_t c_37
        refine lv_iconst (v := 1) hx hb dX6_called_40 (by decide) ?_
        refine lv_goto (tgt := 45) hx hb dX6_called_41 (by decide) ?_
        exact q_retI hQ hE hr hk hst () (by rw [if_pos hjm, nI_clamp (by omega), c_37]; rfl) (trivial) (by rw [if_pos hjm]) dX6_called_45
    · skip
      have c_12 := b2i_f c_12
      refine lv_aload_n hx hb dX6_called_15 rfl (lv_at hl 0 rfl) ?_
      refine lv_iconst (v := (-1)) hx hb dX6_called_16 (by decide) ?_
      refine q_goI (q_rV hE lk_X6_49 (c_X6_refuse l D cI cJ cZ o tp nw th rf rt im ru (-1) (by rw [vp_in_iff]; decide) H.size) hst [0, 1] rfl rfl rfl rfl rfl hl.1 ⟨(Nat.le_of_ble_eq_true rfl), (Nat.le_of_ble_eq_true rfl)⟩ (rest := []) rfl (Nat.le_of_ble_eq_true rfl) dX6_called_17 ⟨(Nat.le_of_ble_eq_true rfl), (Nat.le_of_ble_eq_true rfl)⟩) hE hst [0, 1] rfl (fun _ => rfl) (fun (_ : Unit) => [(o, .inr (6, [.ref tp, .ref nw, .ref th, .int im, .ref rf, .ref rt])), (rf, .inl (cI, 7, .inl (bmp ru (-1)))), (nw, .inr (1, [.ref j1, .ref j2, .ref mn, .ref lw, .int cut, .int least, .ref sd, .ref sr])), (mn, .inr (2, [.ref qk, .ref qb, .ref qp, .int (nI nq)])), (qb, .inl (cI, 60, .inl bi)), (g, .inr (0, [.int se, .int sh, .int sp, .int de, .int po, .ref gn, .ref gd, .ref gr, .ref gs, .int lo])), (gn, .inl (cI, 366, .inl nd))]) (fun _ => rfl) (fun _ H locs hF hst => ?_)
      exact q_retI hQ hE hr hk hst () (by rw [if_neg (by rw [c_4, c_12]; decide)]) (trivial) (by rw [if_neg (by rw [c_4, c_12]; decide)]) dX6_called_20
set_option maxHeartbeats 4000000 in
set_option maxRecDepth 100000 in
theorem c_X6_served (l : Launch) (D : va_G) (cI cJ cZ : ClassId) (o : Nat) (tp : Nat) (nw : Nat) (th : Nat) (rf : Nat) (rt : Nat) (im : Int32) (ru : Nat → Int32) (j1 : Nat) (j2 : Nat) (mn : Nat) (lw : Nat) (sd : Nat) (sr : Nat) (cut : Int32) (least : Int32) (qk : Nat) (qb : Nat) (qp : Nat) (nq : Nat) (g : Nat) (gn : Nat) (gd : Nat) (gr : Nat) (gs : Nat) (se : Int32) (sh : Int32) (sp : Int32) (de : Int32) (po : Int32) (lo : Int32) (nd : Nat → Int32) (ki : Nat → Int32) (bi : Nat → Int32) (p0 : Int32) (p1 : Int32) (hsel : isJarB p0 = true → (if p0 = 0 then j1 else j2) = g) (hn : nq ≤ 60) (hbi : ∀ j, j < nq → vp_in (bi j) 366) : CtI l D cI cJ cZ yX6_served cX6_served 3 (some .int) 4 [.ref o, .int p0, .int p1] [(o, .inr (6, [.ref tp, .ref nw, .ref th, .int im, .ref rf, .ref rt])), (rf, .inl (cI, 7, .inl ru)), (nw, .inr (1, [.ref j1, .ref j2, .ref mn, .ref lw, .int cut, .int least, .ref sd, .ref sr])), (mn, .inr (2, [.ref qk, .ref qb, .ref qp, .int (nI nq)])), (qk, .inl (cI, 60, .inl ki)), (qb, .inl (cI, 60, .inl bi)), (g, .inr (0, [.int se, .int sh, .int sp, .int de, .int po, .ref gn, .ref gd, .ref gr, .ref gs, .int lo])), (gn, .inl (cI, 366, .inl nd))] (fun (_ : Unit) => if (isJarB p0 && manB (nI nq) p1) = true then svF cut nd ki bi p1.toNatClampNeg else -1) (fun (_ : Unit) => True) (fun (_ : Unit) => [(o, .inr (6, [.ref tp, .ref nw, .ref th, .int im, .ref rf, .ref rt])), (rf, .inl (cI, 7, .inl (if (isJarB p0 && manB (nI nq) p1) = true then ru else bmp ru (-1)))), (nw, .inr (1, [.ref j1, .ref j2, .ref mn, .ref lw, .int cut, .int least, .ref sd, .ref sr])), (mn, .inr (2, [.ref qk, .ref qb, .ref qp, .int (nI nq)])), (qk, .inl (cI, 60, .inl ki)), (qb, .inl (cI, 60, .inl bi)), (g, .inr (0, [.int se, .int sh, .int sp, .int de, .int po, .ref gn, .ref gd, .ref gr, .ref gs, .int lo])), (gn, .inl (cI, 366, .inl nd))]) := by
  refine q_entI (own := RX6) rfl rfl (Nat.le_of_ble_eq_true rfl) ?_
  intro p e s m args below meth c A ls QQ hQ hE hx hb hr hk hin hA hl hst
  have hl : lv_has ls 3 [(0, .ref o), (1, .int p0), (2, .int p1)] := hl
  refine lv_iload_n hx hb dX6_served_0 rfl (lv_at hl 1 rfl) ?_
  refine q_goI (q_rS hE lk_X6_90 (c_X6_isJar l D cI cJ cZ p0 s.heap.size) hst [] rfl rfl rfl hl.1 ⟨(Nat.le_of_ble_eq_true rfl), (Nat.le_of_ble_eq_true rfl)⟩ (rest := []) rfl (Nat.le_of_ble_eq_true rfl) dX6_served_1 ⟨(Nat.le_of_ble_eq_true rfl), (Nat.le_of_ble_eq_true rfl)⟩) hE hst [] rfl (fun _ => rfl) (fun (_ : Unit) => [(o, .inr (6, [.ref tp, .ref nw, .ref th, .int im, .ref rf, .ref rt])), (rf, .inl (cI, 7, .inl ru)), (nw, .inr (1, [.ref j1, .ref j2, .ref mn, .ref lw, .int cut, .int least, .ref sd, .ref sr])), (mn, .inr (2, [.ref qk, .ref qb, .ref qp, .int (nI nq)])), (qk, .inl (cI, 60, .inl ki)), (qb, .inl (cI, 60, .inl bi)), (g, .inr (0, [.int se, .int sh, .int sp, .int de, .int po, .ref gn, .ref gd, .ref gr, .ref gs, .int lo])), (gn, .inl (cI, 366, .inl nd))]) (fun _ => rfl) (fun _ H locs hF hst => ?_)
  refine lv_if_eq (tgt := 15) hx hb dX6_served_4 (by decide) (fun c_4 => ?_) (fun c_4 => ?_)
  · skip
    have c_4 := b2i_f c_4
    refine lv_aload_n hx hb dX6_served_15 rfl (lv_at hl 0 rfl) ?_
    refine lv_iconst (v := (-1)) hx hb dX6_served_16 (by decide) ?_
    refine q_goI (q_rV hE lk_X6_49 (c_X6_refuse l D cI cJ cZ o tp nw th rf rt im ru (-1) (by rw [vp_in_iff]; decide) H.size) hst [0, 1] rfl rfl rfl rfl rfl hl.1 ⟨(Nat.le_of_ble_eq_true rfl), (Nat.le_of_ble_eq_true rfl)⟩ (rest := []) rfl (Nat.le_of_ble_eq_true rfl) dX6_served_17 ⟨(Nat.le_of_ble_eq_true rfl), (Nat.le_of_ble_eq_true rfl)⟩) hE hst [0, 1] rfl (fun _ => rfl) (fun (_ : Unit) => [(o, .inr (6, [.ref tp, .ref nw, .ref th, .int im, .ref rf, .ref rt])), (rf, .inl (cI, 7, .inl (bmp ru (-1)))), (nw, .inr (1, [.ref j1, .ref j2, .ref mn, .ref lw, .int cut, .int least, .ref sd, .ref sr])), (mn, .inr (2, [.ref qk, .ref qb, .ref qp, .int (nI nq)])), (qk, .inl (cI, 60, .inl ki)), (qb, .inl (cI, 60, .inl bi)), (g, .inr (0, [.int se, .int sh, .int sp, .int de, .int po, .ref gn, .ref gd, .ref gr, .ref gs, .int lo])), (gn, .inl (cI, 366, .inl nd))]) (fun _ => rfl) (fun _ H locs hF hst => ?_)
    exact q_retI hQ hE hr hk hst () (by rw [if_neg (by rw [c_4, Bool.false_and]; decide)]) (trivial) (by rw [if_neg (by rw [c_4, Bool.false_and]; decide)]) dX6_served_20
  · skip
    have c_4 := b2i_t c_4
    have hjr := c_4
    refine lv_aload_n hx hb dX6_served_7 rfl (lv_at hl 0 rfl) ?_
    refine lv_iload_n hx hb dX6_served_8 rfl (lv_at hl 2 rfl) ?_
    refine q_goI (q_rV hE lk_X6_146 (c_X6_isMan l D cI cJ cZ o tp nw th rf rt im j1 j2 mn lw sd sr cut least qk qb qp (nI nq) p1 H.size) hst [0, 2, 3] rfl rfl rfl rfl rfl hl.1 ⟨(Nat.le_of_ble_eq_true rfl), (Nat.le_of_ble_eq_true rfl)⟩ (rest := []) rfl (Nat.le_of_ble_eq_true rfl) dX6_served_9 ⟨(Nat.le_of_ble_eq_true rfl), (Nat.le_of_ble_eq_true rfl)⟩) hE hst [0, 2, 3] rfl (fun _ => rfl) (fun (_ : Unit) => [(o, .inr (6, [.ref tp, .ref nw, .ref th, .int im, .ref rf, .ref rt])), (rf, .inl (cI, 7, .inl ru)), (nw, .inr (1, [.ref j1, .ref j2, .ref mn, .ref lw, .int cut, .int least, .ref sd, .ref sr])), (mn, .inr (2, [.ref qk, .ref qb, .ref qp, .int (nI nq)])), (qk, .inl (cI, 60, .inl ki)), (qb, .inl (cI, 60, .inl bi)), (g, .inr (0, [.int se, .int sh, .int sp, .int de, .int po, .ref gn, .ref gd, .ref gr, .ref gs, .int lo])), (gn, .inl (cI, 366, .inl nd))]) (fun _ => rfl) (fun _ H locs hF hst => ?_)
    refine lv_if_ne (tgt := 21) hx hb dX6_served_12 (by decide) (fun c_12 => ?_) (fun c_12 => ?_)
    · skip
      have c_12 := b2i_t c_12
      have hjm : (isJarB p0 && manB (nI nq) p1) = true := by rw [c_4, c_12]; rfl
      obtain ⟨m1, hm1, rfl⟩ := man_of hn c_12
      skip
      refine lv_aload_n hx hb dX6_served_21 rfl (lv_at hl 0 rfl) ?_
      refine gf_X6_19 hE hst 0 rfl rfl dX6_served_22 ?_
      refine lv_aload_n hx hb dX6_served_25 rfl (lv_at hl 0 rfl) ?_
      refine gf_X6_19 hE hst 0 rfl rfl dX6_served_26 ?_
      refine lv_iload_n hx hb dX6_served_29 rfl (lv_at hl 1 rfl) ?_
      refine q_goR (q_rNV hE lk_X6_93 (c_X1_jarAt l D cI cJ cZ nw j1 j2 mn lw sd sr cut least p0 H.size) hst [2] rfl rfl rfl rfl rfl hl.1 ⟨(Nat.le_of_ble_eq_true rfl), (Nat.le_of_ble_eq_true rfl)⟩ (rest := [.ref nw]) rfl (Nat.le_of_ble_eq_true rfl) dX6_served_30 ⟨(Nat.le_of_ble_eq_true rfl), (Nat.le_of_ble_eq_true rfl)⟩) hE hst [2] rfl (fun _ => rfl) (fun (_ : Unit) => [(o, .inr (6, [.ref tp, .ref nw, .ref th, .int im, .ref rf, .ref rt])), (rf, .inl (cI, 7, .inl ru)), (nw, .inr (1, [.ref j1, .ref j2, .ref mn, .ref lw, .int cut, .int least, .ref sd, .ref sr])), (mn, .inr (2, [.ref qk, .ref qb, .ref qp, .int (nI nq)])), (qk, .inl (cI, 60, .inl ki)), (qb, .inl (cI, 60, .inl bi)), (g, .inr (0, [.int se, .int sh, .int sp, .int de, .int po, .ref gn, .ref gd, .ref gr, .ref gs, .int lo])), (gn, .inl (cI, 366, .inl nd))]) (fun _ => rfl) (fun _ H locs hF hst => ?_)
      refine q_topR (x' := g) (hsel hjr) ?_
      refine lv_iload_n hx hb dX6_served_33 rfl (lv_at hl 2 rfl) ?_
      refine q_goI (q_rNV hE lk_X6_179 (c_X1_serviceOf l D cI cJ cZ nw j1 j2 mn lw sd sr cut least qk qb qp (nI nq) g gn gd gr gs se sh sp de po lo nd ki bi m1 (by omega) (hbi m1 hm1) H.size) hst [2, 3, 4, 5, 6, 7] rfl rfl rfl rfl rfl hl.1 ⟨(Nat.le_of_ble_eq_true rfl), (Nat.le_of_ble_eq_true rfl)⟩ (rest := []) rfl (Nat.le_of_ble_eq_true rfl) dX6_served_34 ⟨(Nat.le_of_ble_eq_true rfl), (Nat.le_of_ble_eq_true rfl)⟩) hE hst [2, 3, 4, 5, 6, 7] rfl (fun _ => rfl) (fun (_ : Unit) => [(o, .inr (6, [.ref tp, .ref nw, .ref th, .int im, .ref rf, .ref rt])), (rf, .inl (cI, 7, .inl ru)), (nw, .inr (1, [.ref j1, .ref j2, .ref mn, .ref lw, .int cut, .int least, .ref sd, .ref sr])), (mn, .inr (2, [.ref qk, .ref qb, .ref qp, .int (nI nq)])), (qk, .inl (cI, 60, .inl ki)), (qb, .inl (cI, 60, .inl bi)), (g, .inr (0, [.int se, .int sh, .int sp, .int de, .int po, .ref gn, .ref gd, .ref gr, .ref gs, .int lo])), (gn, .inl (cI, 366, .inl nd))]) (fun _ => rfl) (fun _ H locs hF hst => ?_)
      exact q_retI hQ hE hr hk hst () (by rw [if_pos hjm, nI_clamp (by omega)]) (trivial) (by rw [if_pos hjm]) dX6_served_37
    · skip
      have c_12 := b2i_f c_12
      refine lv_aload_n hx hb dX6_served_15 rfl (lv_at hl 0 rfl) ?_
      refine lv_iconst (v := (-1)) hx hb dX6_served_16 (by decide) ?_
      refine q_goI (q_rV hE lk_X6_49 (c_X6_refuse l D cI cJ cZ o tp nw th rf rt im ru (-1) (by rw [vp_in_iff]; decide) H.size) hst [0, 1] rfl rfl rfl rfl rfl hl.1 ⟨(Nat.le_of_ble_eq_true rfl), (Nat.le_of_ble_eq_true rfl)⟩ (rest := []) rfl (Nat.le_of_ble_eq_true rfl) dX6_served_17 ⟨(Nat.le_of_ble_eq_true rfl), (Nat.le_of_ble_eq_true rfl)⟩) hE hst [0, 1] rfl (fun _ => rfl) (fun (_ : Unit) => [(o, .inr (6, [.ref tp, .ref nw, .ref th, .int im, .ref rf, .ref rt])), (rf, .inl (cI, 7, .inl (bmp ru (-1)))), (nw, .inr (1, [.ref j1, .ref j2, .ref mn, .ref lw, .int cut, .int least, .ref sd, .ref sr])), (mn, .inr (2, [.ref qk, .ref qb, .ref qp, .int (nI nq)])), (qk, .inl (cI, 60, .inl ki)), (qb, .inl (cI, 60, .inl bi)), (g, .inr (0, [.int se, .int sh, .int sp, .int de, .int po, .ref gn, .ref gd, .ref gr, .ref gs, .int lo])), (gn, .inl (cI, 366, .inl nd))]) (fun _ => rfl) (fun _ H locs hF hst => ?_)
      exact q_retI hQ hE hr hk hst () (by rw [if_neg (by rw [c_4, c_12]; decide)]) (trivial) (by rw [if_neg (by rw [c_4, c_12]; decide)]) dX6_served_20
set_option maxHeartbeats 4000000 in
set_option maxRecDepth 100000 in
theorem c_X6_wage (l : Launch) (D : va_G) (cI cJ cZ : ClassId) (o : Nat) (tp : Nat) (nw : Nat) (th : Nat) (rf : Nat) (rt : Nat) (im : Int32) (ru : Nat → Int32) (j1 : Nat) (j2 : Nat) (mn : Nat) (lw : Nat) (sd : Nat) (sr : Nat) (cut : Int32) (least : Int32) (qk : Nat) (qb : Nat) (qp : Nat) (nq : Nat) (g : Nat) (gn : Nat) (gd : Nat) (gr : Nat) (gs : Nat) (se : Int32) (sh : Int32) (sp : Int32) (de : Int32) (po : Int32) (lo : Int32) (nd : Nat → Int32) (ki : Nat → Int32) (bi : Nat → Int32) (pa : Nat → Int32) (la : Nat → Int32) (p0 : Int32) (p1 : Int32) (p2 : Int32) (hsel : isJarB p0 = true → (if p0 = 0 then j1 else j2) = g) (hn : nq ≤ 60) (hbi : ∀ j, j < nq → vp_in (bi j) 366) : CtL l D cI cJ cZ yX6_wage cX6_wage 5 (some .long) 4 [.ref o, .int p0, .int p1, .int p2] [(o, .inr (6, [.ref tp, .ref nw, .ref th, .int im, .ref rf, .ref rt])), (rf, .inl (cI, 7, .inl ru)), (nw, .inr (1, [.ref j1, .ref j2, .ref mn, .ref lw, .int cut, .int least, .ref sd, .ref sr])), (mn, .inr (2, [.ref qk, .ref qb, .ref qp, .int (nI nq)])), (qk, .inl (cI, 60, .inl ki)), (qb, .inl (cI, 60, .inl bi)), (qp, .inl (cI, 60, .inl pa)), (lw, .inl (cI, 5, .inl la)), (g, .inr (0, [.int se, .int sh, .int sp, .int de, .int po, .ref gn, .ref gd, .ref gr, .ref gs, .int lo])), (gn, .inl (cI, 366, .inl nd))] (fun (_ : Unit) => if ftf (!isJarB p0 || !manB (nI nq) p1) false (!decide (0 ≤ p2)) (!decide (p2 ≤ 40)) = 0 then (wagF cut nd ki bi pa la p2 p1.toNatClampNeg).toInt64 else lgR (ftf (!isJarB p0 || !manB (nI nq) p1) false (!decide (0 ≤ p2)) (!decide (p2 ≤ 40)))) (fun (_ : Unit) => True) (fun (_ : Unit) => [(o, .inr (6, [.ref tp, .ref nw, .ref th, .int im, .ref rf, .ref rt])), (rf, .inl (cI, 7, .inl (if ftf (!isJarB p0 || !manB (nI nq) p1) false (!decide (0 ≤ p2)) (!decide (p2 ≤ 40)) = 0 then ru else bmp ru (ftf (!isJarB p0 || !manB (nI nq) p1) false (!decide (0 ≤ p2)) (!decide (p2 ≤ 40)))))), (nw, .inr (1, [.ref j1, .ref j2, .ref mn, .ref lw, .int cut, .int least, .ref sd, .ref sr])), (mn, .inr (2, [.ref qk, .ref qb, .ref qp, .int (nI nq)])), (qk, .inl (cI, 60, .inl ki)), (qb, .inl (cI, 60, .inl bi)), (qp, .inl (cI, 60, .inl pa)), (lw, .inl (cI, 5, .inl la)), (g, .inr (0, [.int se, .int sh, .int sp, .int de, .int po, .ref gn, .ref gd, .ref gr, .ref gs, .int lo])), (gn, .inl (cI, 366, .inl nd))]) := by
  refine q_entL (own := RX6) rfl rfl (Nat.le_of_ble_eq_true rfl) ?_
  intro p e s m args below meth c A ls QQ hQ hE hx hb hr hk hin hA hl hst
  have hl : lv_has ls 5 [(0, .ref o), (1, .int p0), (2, .int p1), (3, .int p2)] := hl
  suffices kJ : ∀ (H : Heap) (locs : List Loc), SS D A s [(o, .inr (6, [.ref tp, .ref nw, .ref th, .int im, .ref rf, .ref rt])), (rf, .inl (cI, 7, .inl ru)), (nw, .inr (1, [.ref j1, .ref j2, .ref mn, .ref lw, .int cut, .int least, .ref sd, .ref sr])), (mn, .inr (2, [.ref qk, .ref qb, .ref qp, .int (nI nq)])), (qk, .inl (cI, 60, .inl ki)), (qb, .inl (cI, 60, .inl bi)), (qp, .inl (cI, 60, .inl pa)), (lw, .inl (cI, 5, .inl la)), (g, .inr (0, [.int se, .int sh, .int sp, .int de, .int po, .ref gn, .ref gd, .ref gr, .ref gs, .int lo])), (gn, .inl (cI, 366, .inl nd))] H locs → W p l e (rmN 4 0 0) s m args below meth c H locs 0 0 QQ (F0 m 20 ls [.int (b2i (!isJarB p0 || !manB (nI nq) p1))]) by
    refine lv_iload_n hx hb dX6_wage_0 rfl (lv_at hl 1 rfl) ?_
    refine q_goI (q_rS hE lk_X6_90 (c_X6_isJar l D cI cJ cZ p0 s.heap.size) hst [] rfl rfl rfl hl.1 ⟨(Nat.le_of_ble_eq_true rfl), (Nat.le_of_ble_eq_true rfl)⟩ (rest := []) rfl (Nat.le_of_ble_eq_true rfl) dX6_wage_1 ⟨(Nat.le_of_ble_eq_true rfl), (Nat.le_of_ble_eq_true rfl)⟩) hE hst [] rfl (fun _ => rfl) (fun (_ : Unit) => [(o, .inr (6, [.ref tp, .ref nw, .ref th, .int im, .ref rf, .ref rt])), (rf, .inl (cI, 7, .inl ru)), (nw, .inr (1, [.ref j1, .ref j2, .ref mn, .ref lw, .int cut, .int least, .ref sd, .ref sr])), (mn, .inr (2, [.ref qk, .ref qb, .ref qp, .int (nI nq)])), (qk, .inl (cI, 60, .inl ki)), (qb, .inl (cI, 60, .inl bi)), (qp, .inl (cI, 60, .inl pa)), (lw, .inl (cI, 5, .inl la)), (g, .inr (0, [.int se, .int sh, .int sp, .int de, .int po, .ref gn, .ref gd, .ref gr, .ref gs, .int lo])), (gn, .inl (cI, 366, .inl nd))]) (fun _ => rfl) (fun _ H locs hF hst => ?_)
    refine lv_if_eq (tgt := 15) hx hb dX6_wage_4 (by decide) (fun c_4 => ?_) (fun c_4 => ?_)
    · skip
      have c_4 := b2i_f c_4
      refine lv_iconst (v := 1) hx hb dX6_wage_15 (by decide) ?_
      refine lv_goto (tgt := 20) hx hb dX6_wage_16 (by decide) ?_
      have kJ := kJ _ _ hst
      rw [show (b2i (!isJarB p0 || !manB (nI nq) p1)) = 1 from (by first | (rw [c_4]; done) | (rw [c_4]; rfl))] at kJ
      exact kJ
    · skip
      have c_4 := b2i_t c_4
      refine lv_aload_n hx hb dX6_wage_7 rfl (lv_at hl 0 rfl) ?_
      refine lv_iload_n hx hb dX6_wage_8 rfl (lv_at hl 2 rfl) ?_
      refine q_goI (q_rV hE lk_X6_146 (c_X6_isMan l D cI cJ cZ o tp nw th rf rt im j1 j2 mn lw sd sr cut least qk qb qp (nI nq) p1 H.size) hst [0, 2, 3] rfl rfl rfl rfl rfl hl.1 ⟨(Nat.le_of_ble_eq_true rfl), (Nat.le_of_ble_eq_true rfl)⟩ (rest := []) rfl (Nat.le_of_ble_eq_true rfl) dX6_wage_9 ⟨(Nat.le_of_ble_eq_true rfl), (Nat.le_of_ble_eq_true rfl)⟩) hE hst [0, 2, 3] rfl (fun _ => rfl) (fun (_ : Unit) => [(o, .inr (6, [.ref tp, .ref nw, .ref th, .int im, .ref rf, .ref rt])), (rf, .inl (cI, 7, .inl ru)), (nw, .inr (1, [.ref j1, .ref j2, .ref mn, .ref lw, .int cut, .int least, .ref sd, .ref sr])), (mn, .inr (2, [.ref qk, .ref qb, .ref qp, .int (nI nq)])), (qk, .inl (cI, 60, .inl ki)), (qb, .inl (cI, 60, .inl bi)), (qp, .inl (cI, 60, .inl pa)), (lw, .inl (cI, 5, .inl la)), (g, .inr (0, [.int se, .int sh, .int sp, .int de, .int po, .ref gn, .ref gd, .ref gr, .ref gs, .int lo])), (gn, .inl (cI, 366, .inl nd))]) (fun _ => rfl) (fun _ H locs hF hst => ?_)
      refine lv_if_ne (tgt := 19) hx hb dX6_wage_12 (by decide) (fun c_12 => ?_) (fun c_12 => ?_)
      · skip
        have c_12 := b2i_t c_12
        refine lv_iconst (v := 0) hx hb dX6_wage_19 (by decide) ?_
        have kJ := kJ _ _ hst
        rw [show (b2i (!isJarB p0 || !manB (nI nq) p1)) = 0 from (by first | (rw [c_4, c_12]; done) | (rw [c_4, c_12]; rfl))] at kJ
        exact kJ
      · skip
        have c_12 := b2i_f c_12
        refine lv_iconst (v := 1) hx hb dX6_wage_15 (by decide) ?_
        refine lv_goto (tgt := 20) hx hb dX6_wage_16 (by decide) ?_
        have kJ := kJ _ _ hst
        rw [show (b2i (!isJarB p0 || !manB (nI nq) p1)) = 1 from (by first | (rw [c_4, c_12]; done) | (rw [c_4, c_12]; rfl))] at kJ
        exact kJ
  intro H locs hst
  refine lv_iconst (v := 0) hx hb dX6_wage_20 (by decide) ?_
  suffices kJ : ∀ (H : Heap) (locs : List Loc), SS D A s [(o, .inr (6, [.ref tp, .ref nw, .ref th, .int im, .ref rf, .ref rt])), (rf, .inl (cI, 7, .inl ru)), (nw, .inr (1, [.ref j1, .ref j2, .ref mn, .ref lw, .int cut, .int least, .ref sd, .ref sr])), (mn, .inr (2, [.ref qk, .ref qb, .ref qp, .int (nI nq)])), (qk, .inl (cI, 60, .inl ki)), (qb, .inl (cI, 60, .inl bi)), (qp, .inl (cI, 60, .inl pa)), (lw, .inl (cI, 5, .inl la)), (g, .inr (0, [.int se, .int sh, .int sp, .int de, .int po, .ref gn, .ref gd, .ref gr, .ref gs, .int lo])), (gn, .inl (cI, 366, .inl nd))] H locs → W p l e (rmN 4 0 0) s m args below meth c H locs 0 0 QQ (F0 m 30 ls [.int (b2i (!decide (0 ≤ p2))), .int 0, .int (b2i (!isJarB p0 || !manB (nI nq) p1))]) by
    refine lv_iload_n hx hb dX6_wage_21 rfl (lv_at hl 3 rfl) ?_
    refine lv_if_ge (tgt := 29) hx hb dX6_wage_22 (by decide) (fun c_22 => ?_) (fun c_22 => ?_)
    · skip
      refine lv_iconst (v := 0) hx hb dX6_wage_29 (by decide) ?_
      have kJ := kJ _ _ hst
      rw [show (b2i (!decide (0 ≤ p2))) = 0 from (by first | (rw [decide_eq_true c_22]; done) | (rw [decide_eq_true c_22]; rfl))] at kJ
      exact kJ
    · skip
      refine lv_iconst (v := 1) hx hb dX6_wage_25 (by decide) ?_
      refine lv_goto (tgt := 30) hx hb dX6_wage_26 (by decide) ?_
      have kJ := kJ _ _ hst
      rw [show (b2i (!decide (0 ≤ p2))) = 1 from (by first | (rw [decide_eq_false c_22]; done) | (rw [decide_eq_false c_22]; rfl))] at kJ
      exact kJ
  intro H locs hst
  suffices kJ : ∀ (H : Heap) (locs : List Loc), SS D A s [(o, .inr (6, [.ref tp, .ref nw, .ref th, .int im, .ref rf, .ref rt])), (rf, .inl (cI, 7, .inl ru)), (nw, .inr (1, [.ref j1, .ref j2, .ref mn, .ref lw, .int cut, .int least, .ref sd, .ref sr])), (mn, .inr (2, [.ref qk, .ref qb, .ref qp, .int (nI nq)])), (qk, .inl (cI, 60, .inl ki)), (qb, .inl (cI, 60, .inl bi)), (qp, .inl (cI, 60, .inl pa)), (lw, .inl (cI, 5, .inl la)), (g, .inr (0, [.int se, .int sh, .int sp, .int de, .int po, .ref gn, .ref gd, .ref gr, .ref gs, .int lo])), (gn, .inl (cI, 366, .inl nd))] H locs → W p l e (rmN 4 0 0) s m args below meth c H locs 0 0 QQ (F0 m 41 ls [.int (b2i (!decide (p2 ≤ 40))), .int (b2i (!decide (0 ≤ p2))), .int 0, .int (b2i (!isJarB p0 || !manB (nI nq) p1))]) by
    refine lv_iload_n hx hb dX6_wage_30 rfl (lv_at hl 3 rfl) ?_
    refine lv_bipush (v := 40) hx hb dX6_wage_31 (by decide) ?_
    refine lv_icmp_le (tgt := 40) hx hb dX6_wage_33 (by decide) (fun c_33 => ?_) (fun c_33 => ?_)
    · skip
      refine lv_iconst (v := 0) hx hb dX6_wage_40 (by decide) ?_
      have kJ := kJ _ _ hst
      rw [show (b2i (!decide (p2 ≤ 40))) = 0 from (by first | (rw [decide_eq_true c_33]; done) | (rw [decide_eq_true c_33]; rfl))] at kJ
      exact kJ
    · skip
      refine lv_iconst (v := 1) hx hb dX6_wage_36 (by decide) ?_
      refine lv_goto (tgt := 41) hx hb dX6_wage_37 (by decide) ?_
      have kJ := kJ _ _ hst
      rw [show (b2i (!decide (p2 ≤ 40))) = 1 from (by first | (rw [decide_eq_false c_33]; done) | (rw [decide_eq_false c_33]; rfl))] at kJ
      exact kJ
  intro H locs hst
  refine q_goI (q_rS hE lk_X6_45 (c_X6_firstThatFits l D cI cJ cZ (!isJarB p0 || !manB (nI nq) p1) false (!decide (0 ≤ p2)) (!decide (p2 ≤ 40)) H.size) hst [] rfl rfl rfl hl.1 ⟨(Nat.le_of_ble_eq_true rfl), (Nat.le_of_ble_eq_true rfl)⟩ (rest := []) rfl (Nat.le_of_ble_eq_true rfl) dX6_wage_41 ⟨(Nat.le_of_ble_eq_true rfl), (Nat.le_of_ble_eq_true rfl)⟩) hE hst [] rfl (fun _ => rfl) (fun (_ : Unit) => [(o, .inr (6, [.ref tp, .ref nw, .ref th, .int im, .ref rf, .ref rt])), (rf, .inl (cI, 7, .inl ru)), (nw, .inr (1, [.ref j1, .ref j2, .ref mn, .ref lw, .int cut, .int least, .ref sd, .ref sr])), (mn, .inr (2, [.ref qk, .ref qb, .ref qp, .int (nI nq)])), (qk, .inl (cI, 60, .inl ki)), (qb, .inl (cI, 60, .inl bi)), (qp, .inl (cI, 60, .inl pa)), (lw, .inl (cI, 5, .inl la)), (g, .inr (0, [.int se, .int sh, .int sp, .int de, .int po, .ref gn, .ref gd, .ref gr, .ref gs, .int lo])), (gn, .inl (cI, 366, .inl nd))]) (fun _ => rfl) (fun _ H locs hF hst => ?_)
  refine lv_istore (lv' := [(4, .int (ftf (!isJarB p0 || !manB (nI nq) p1) false (!decide (0 ≤ p2)) (!decide (p2 ≤ 40)))), (0, .ref o), (1, .int p0), (2, .int p1), (3, .int p2)]) hx hb dX6_wage_44 hl (by decide) rfl (fun ls hl => ?_)
  refine lv_iload hx hb dX6_wage_46 (lv_at hl 0 rfl) ?_
  refine lv_if_eq (tgt := 58) hx hb dX6_wage_48 (by decide) (fun c_48 => ?_) (fun c_48 => ?_)
  · skip
    obtain ⟨f1, f2, f3, f4⟩ := ftf_1 c_48
    obtain ⟨hjr, f1b⟩ := nor_f f1
    obtain ⟨m1, hm1, rfl⟩ := man_of hn f1b
    rw [nI_clamp (by omega)] at hQ
    skip
    refine lv_aload_n hx hb dX6_wage_58 rfl (lv_at hl 1 rfl) ?_
    refine gf_X6_19 hE hst 0 rfl rfl dX6_wage_59 ?_
    refine lv_aload_n hx hb dX6_wage_62 rfl (lv_at hl 1 rfl) ?_
    refine gf_X6_19 hE hst 0 rfl rfl dX6_wage_63 ?_
    refine lv_iload_n hx hb dX6_wage_66 rfl (lv_at hl 2 rfl) ?_
    refine q_goR (q_rNV hE lk_X6_93 (c_X1_jarAt l D cI cJ cZ nw j1 j2 mn lw sd sr cut least p0 H.size) hst [2] rfl rfl rfl rfl rfl hl.1 ⟨(Nat.le_of_ble_eq_true rfl), (Nat.le_of_ble_eq_true rfl)⟩ (rest := [.ref nw]) rfl (Nat.le_of_ble_eq_true rfl) dX6_wage_67 ⟨(Nat.le_of_ble_eq_true rfl), (Nat.le_of_ble_eq_true rfl)⟩) hE hst [2] rfl (fun _ => rfl) (fun (_ : Unit) => [(o, .inr (6, [.ref tp, .ref nw, .ref th, .int im, .ref rf, .ref rt])), (rf, .inl (cI, 7, .inl ru)), (nw, .inr (1, [.ref j1, .ref j2, .ref mn, .ref lw, .int cut, .int least, .ref sd, .ref sr])), (mn, .inr (2, [.ref qk, .ref qb, .ref qp, .int (nI nq)])), (qk, .inl (cI, 60, .inl ki)), (qb, .inl (cI, 60, .inl bi)), (qp, .inl (cI, 60, .inl pa)), (lw, .inl (cI, 5, .inl la)), (g, .inr (0, [.int se, .int sh, .int sp, .int de, .int po, .ref gn, .ref gd, .ref gr, .ref gs, .int lo])), (gn, .inl (cI, 366, .inl nd))]) (fun _ => rfl) (fun _ H locs hF hst => ?_)
    refine q_topR (x' := g) (hsel hjr) ?_
    refine lv_iload_n hx hb dX6_wage_70 rfl (lv_at hl 3 rfl) ?_
    refine lv_iload_n hx hb dX6_wage_71 rfl (lv_at hl 4 rfl) ?_
    refine q_goI (q_rNV hE lk_X6_183 (c_X1_wageOf l D cI cJ cZ nw j1 j2 mn lw sd sr cut least qk qb qp (nI nq) g gn gd gr gs se sh sp de po lo nd ki bi pa la m1 p2 (by omega) (hbi m1 hm1) H.size) hst [2, 3, 4, 5, 6, 7, 8, 9] rfl rfl rfl rfl rfl hl.1 ⟨(Nat.le_of_ble_eq_true rfl), (Nat.le_of_ble_eq_true rfl)⟩ (rest := []) rfl (Nat.le_of_ble_eq_true rfl) dX6_wage_72 ⟨(Nat.le_of_ble_eq_true rfl), (Nat.le_of_ble_eq_true rfl)⟩) hE hst [2, 3, 4, 5, 6, 7, 8, 9] rfl (fun _ => rfl) (fun (_ : Unit) => [(o, .inr (6, [.ref tp, .ref nw, .ref th, .int im, .ref rf, .ref rt])), (rf, .inl (cI, 7, .inl ru)), (nw, .inr (1, [.ref j1, .ref j2, .ref mn, .ref lw, .int cut, .int least, .ref sd, .ref sr])), (mn, .inr (2, [.ref qk, .ref qb, .ref qp, .int (nI nq)])), (qk, .inl (cI, 60, .inl ki)), (qb, .inl (cI, 60, .inl bi)), (qp, .inl (cI, 60, .inl pa)), (lw, .inl (cI, 5, .inl la)), (g, .inr (0, [.int se, .int sh, .int sp, .int de, .int po, .ref gn, .ref gd, .ref gr, .ref gs, .int lo])), (gn, .inl (cI, 366, .inl nd))]) (fun _ => rfl) (fun _ H locs hF hst => ?_)
    refine lv_i2l (v := (wagF cut nd ki bi pa la p2 m1).toInt64) hx hb dX6_wage_75 rfl ?_
    exact q_retL hQ hE hr hk hst () (by rw [if_pos c_48]) (trivial) (by rw [if_pos c_48]) dX6_wage_76
  · skip
    refine lv_aload_n hx hb dX6_wage_51 rfl (lv_at hl 1 rfl) ?_
    refine lv_iload hx hb dX6_wage_52 (lv_at hl 0 rfl) ?_
    refine q_goL (q_rV hE lk_X6_119 (c_X6_refuseLong l D cI cJ cZ o tp nw th rf rt im ru (ftf (!isJarB p0 || !manB (nI nq) p1) false (!decide (0 ≤ p2)) (!decide (p2 ≤ 40))) (ftf_in _ _ _ _) H.size) hst [0, 1] rfl rfl rfl rfl rfl hl.1 ⟨(Nat.le_of_ble_eq_true rfl), (Nat.le_of_ble_eq_true rfl)⟩ (rest := []) rfl (Nat.le_of_ble_eq_true rfl) dX6_wage_54 ⟨(Nat.le_of_ble_eq_true rfl), (Nat.le_of_ble_eq_true rfl)⟩) hE hst [0, 1] rfl (fun _ => rfl) (fun (_ : Unit) => [(o, .inr (6, [.ref tp, .ref nw, .ref th, .int im, .ref rf, .ref rt])), (rf, .inl (cI, 7, .inl (bmp ru (ftf (!isJarB p0 || !manB (nI nq) p1) false (!decide (0 ≤ p2)) (!decide (p2 ≤ 40)))))), (nw, .inr (1, [.ref j1, .ref j2, .ref mn, .ref lw, .int cut, .int least, .ref sd, .ref sr])), (mn, .inr (2, [.ref qk, .ref qb, .ref qp, .int (nI nq)])), (qk, .inl (cI, 60, .inl ki)), (qb, .inl (cI, 60, .inl bi)), (qp, .inl (cI, 60, .inl pa)), (lw, .inl (cI, 5, .inl la)), (g, .inr (0, [.int se, .int sh, .int sp, .int de, .int po, .ref gn, .ref gd, .ref gr, .ref gs, .int lo])), (gn, .inl (cI, 366, .inl nd))]) (fun _ => rfl) (fun _ H locs hF hst => ?_)
    exact q_retL hQ hE hr hk hst () (by rw [if_neg c_48]) (trivial) (by rw [if_neg c_48]) dX6_wage_57
theorem dif_post (b : Bool) (p : Int32) (x y u v : Int64) (z : Int64) : (if b = true then (if p = 0 then (if b = true then x else u) else (if b = true then y else v)) else z) = if b = true then (if p = 0 then x else y) else z := by
  cases b <;> simp
set_option maxHeartbeats 4000000 in
set_option maxRecDepth 100000 in
theorem c_X6_does (l : Launch) (D : va_G) (cI cJ cZ : ClassId) (o : Nat) (tp : Nat) (nw : Nat) (th : Nat) (rf : Nat) (rt : Nat) (im : Int32) (ru : Nat → Int32) (j1 : Nat) (j2 : Nat) (mn : Nat) (lw : Nat) (sd : Nat) (sr : Nat) (cut : Int32) (least : Int32) (qk : Nat) (qb : Nat) (qp : Nat) (nq : Nat) (g : Nat) (gn : Nat) (gd : Nat) (gr : Nat) (gs : Nat) (se : Int32) (sh : Int32) (sp : Int32) (de : Int32) (po : Int32) (lo : Int32) (nd : Nat → Int32) (ki : Nat → Int32) (bi : Nat → Int32) (pa : Nat → Int32) (la : Nat → Int32) (s01 : Int64) (s02 : Int64) (s03 : Int32) (s04 : Int32) (ra : Int64) (rb : Int64) (p0 : Int32) (p1 : Int32) (p2 : Int32) (hsel : isJarB p0 = true → (if p0 = 0 then j1 else j2) = g) (hn : nq ≤ 60) (hbi : ∀ j, j < nq → vp_in (bi j) 366) : CtL l D cI cJ cZ yX6_does cX6_does 5 (some .long) 5 [.ref o, .int p0, .int p1, .int p2] [(o, .inr (6, [.ref tp, .ref nw, .ref th, .int im, .ref rf, .ref rt])), (rf, .inl (cI, 7, .inl ru)), (nw, .inr (1, [.ref j1, .ref j2, .ref mn, .ref lw, .int cut, .int least, .ref sd, .ref sr])), (mn, .inr (2, [.ref qk, .ref qb, .ref qp, .int (nI nq)])), (qk, .inl (cI, 60, .inl ki)), (qb, .inl (cI, 60, .inl bi)), (qp, .inl (cI, 60, .inl pa)), (lw, .inl (cI, 5, .inl la)), (g, .inr (0, [.int se, .int sh, .int sp, .int de, .int po, .ref gn, .ref gd, .ref gr, .ref gs, .int lo])), (gn, .inl (cI, 366, .inl nd)), (sd, .inr (4, [.long s01, .long s02, .int s03, .int s04])), (rt, .inr (3, [.long ra, .long rb]))] (fun (u : Int64 × Int64 × Int32 × Int32 × Int64 × Int64) => if ftf (!isJarB p0) (!isJarB p2) (!decide (0 ≤ p1)) (!decide (p1 ≤ 40)) = 0 then if dfB (calF cut nd bi) nq = true then (if p2 = 0 then dsA cut nd ki bi pa la p1 nq else dsB cut nd ki bi pa la p1 nq) else lgR (-3) else lgR (ftf (!isJarB p0) (!isJarB p2) (!decide (0 ≤ p1)) (!decide (p1 ≤ 40)))) (fun (u : Int64 × Int64 × Int32 × Int32 × Int64 × Int64) => True) (fun (u : Int64 × Int64 × Int32 × Int32 × Int64 × Int64) => [(o, .inr (6, [.ref tp, .ref nw, .ref th, .int im, .ref rf, .ref rt])), (rf, .inl (cI, 7, .inl (if ftf (!isJarB p0) (!isJarB p2) (!decide (0 ≤ p1)) (!decide (p1 ≤ 40)) = 0 then (if dfB (calF cut nd bi) nq = true then ru else bmp ru (-3)) else bmp ru (ftf (!isJarB p0) (!isJarB p2) (!decide (0 ≤ p1)) (!decide (p1 ≤ 40)))))), (nw, .inr (1, [.ref j1, .ref j2, .ref mn, .ref lw, .int cut, .int least, .ref sd, .ref sr])), (mn, .inr (2, [.ref qk, .ref qb, .ref qp, .int (nI nq)])), (qk, .inl (cI, 60, .inl ki)), (qb, .inl (cI, 60, .inl bi)), (qp, .inl (cI, 60, .inl pa)), (lw, .inl (cI, 5, .inl la)), (g, .inr (0, [.int se, .int sh, .int sp, .int de, .int po, .ref gn, .ref gd, .ref gr, .ref gs, .int lo])), (gn, .inl (cI, 366, .inl nd)), (sd, .inr (4, [.long u.1, .long u.2.1, .int u.2.2.1, .int u.2.2.2.1])), (rt, .inr (3, [.long u.2.2.2.2.1, .long u.2.2.2.2.2]))]) := by
  refine q_entL (own := RX6) rfl rfl (Nat.le_of_ble_eq_true rfl) ?_
  intro p e s m args below meth c A ls QQ hQ hE hx hb hr hk hin hA hl hst
  have hl : lv_has ls 5 [(0, .ref o), (1, .int p0), (2, .int p1), (3, .int p2)] := hl
  suffices kJ : ∀ (H : Heap) (locs : List Loc), SS D A s [(o, .inr (6, [.ref tp, .ref nw, .ref th, .int im, .ref rf, .ref rt])), (rf, .inl (cI, 7, .inl ru)), (nw, .inr (1, [.ref j1, .ref j2, .ref mn, .ref lw, .int cut, .int least, .ref sd, .ref sr])), (mn, .inr (2, [.ref qk, .ref qb, .ref qp, .int (nI nq)])), (qk, .inl (cI, 60, .inl ki)), (qb, .inl (cI, 60, .inl bi)), (qp, .inl (cI, 60, .inl pa)), (lw, .inl (cI, 5, .inl la)), (g, .inr (0, [.int se, .int sh, .int sp, .int de, .int po, .ref gn, .ref gd, .ref gr, .ref gs, .int lo])), (gn, .inl (cI, 366, .inl nd)), (sd, .inr (4, [.long s01, .long s02, .int s03, .int s04])), (rt, .inr (3, [.long ra, .long rb]))] H locs → W p l e (rmN 5 0 0) s m args below meth c H locs 0 0 QQ (F0 m 12 ls [.int (b2i (!isJarB p0))]) by
    refine lv_iload_n hx hb dX6_does_0 rfl (lv_at hl 1 rfl) ?_
    refine q_goI (q_rS hE lk_X6_90 (c_X6_isJar l D cI cJ cZ p0 s.heap.size) hst [] rfl rfl rfl hl.1 ⟨(Nat.le_of_ble_eq_true rfl), (Nat.le_of_ble_eq_true rfl)⟩ (rest := []) rfl (Nat.le_of_ble_eq_true rfl) dX6_does_1 ⟨(Nat.le_of_ble_eq_true rfl), (Nat.le_of_ble_eq_true rfl)⟩) hE hst [] rfl (fun _ => rfl) (fun (_ : Unit) => [(o, .inr (6, [.ref tp, .ref nw, .ref th, .int im, .ref rf, .ref rt])), (rf, .inl (cI, 7, .inl ru)), (nw, .inr (1, [.ref j1, .ref j2, .ref mn, .ref lw, .int cut, .int least, .ref sd, .ref sr])), (mn, .inr (2, [.ref qk, .ref qb, .ref qp, .int (nI nq)])), (qk, .inl (cI, 60, .inl ki)), (qb, .inl (cI, 60, .inl bi)), (qp, .inl (cI, 60, .inl pa)), (lw, .inl (cI, 5, .inl la)), (g, .inr (0, [.int se, .int sh, .int sp, .int de, .int po, .ref gn, .ref gd, .ref gr, .ref gs, .int lo])), (gn, .inl (cI, 366, .inl nd)), (sd, .inr (4, [.long s01, .long s02, .int s03, .int s04])), (rt, .inr (3, [.long ra, .long rb]))]) (fun _ => rfl) (fun _ H locs hF hst => ?_)
    refine lv_if_ne (tgt := 11) hx hb dX6_does_4 (by decide) (fun c_4 => ?_) (fun c_4 => ?_)
    · skip
      have c_4 := b2i_t c_4
      refine lv_iconst (v := 0) hx hb dX6_does_11 (by decide) ?_
      have kJ := kJ _ _ hst
      rw [show (b2i (!isJarB p0)) = 0 from (by first | (rw [c_4]; done) | (rw [c_4]; rfl))] at kJ
      exact kJ
    · skip
      have c_4 := b2i_f c_4
      refine lv_iconst (v := 1) hx hb dX6_does_7 (by decide) ?_
      refine lv_goto (tgt := 12) hx hb dX6_does_8 (by decide) ?_
      have kJ := kJ _ _ hst
      rw [show (b2i (!isJarB p0)) = 1 from (by first | (rw [c_4]; done) | (rw [c_4]; rfl))] at kJ
      exact kJ
  intro H locs hst
  suffices kJ : ∀ (H : Heap) (locs : List Loc), SS D A s [(o, .inr (6, [.ref tp, .ref nw, .ref th, .int im, .ref rf, .ref rt])), (rf, .inl (cI, 7, .inl ru)), (nw, .inr (1, [.ref j1, .ref j2, .ref mn, .ref lw, .int cut, .int least, .ref sd, .ref sr])), (mn, .inr (2, [.ref qk, .ref qb, .ref qp, .int (nI nq)])), (qk, .inl (cI, 60, .inl ki)), (qb, .inl (cI, 60, .inl bi)), (qp, .inl (cI, 60, .inl pa)), (lw, .inl (cI, 5, .inl la)), (g, .inr (0, [.int se, .int sh, .int sp, .int de, .int po, .ref gn, .ref gd, .ref gr, .ref gs, .int lo])), (gn, .inl (cI, 366, .inl nd)), (sd, .inr (4, [.long s01, .long s02, .int s03, .int s04])), (rt, .inr (3, [.long ra, .long rb]))] H locs → W p l e (rmN 5 0 0) s m args below meth c H locs 0 0 QQ (F0 m 24 ls [.int (b2i (!isJarB p2)), .int (b2i (!isJarB p0))]) by
    refine lv_iload_n hx hb dX6_does_12 rfl (lv_at hl 3 rfl) ?_
    refine q_goI (q_rS hE lk_X6_116 (c_X6_isPart l D cI cJ cZ p2 H.size) hst [] rfl rfl rfl hl.1 ⟨(Nat.le_of_ble_eq_true rfl), (Nat.le_of_ble_eq_true rfl)⟩ (rest := [.int (b2i (!isJarB p0))]) rfl (Nat.le_of_ble_eq_true rfl) dX6_does_13 ⟨(Nat.le_of_ble_eq_true rfl), (Nat.le_of_ble_eq_true rfl)⟩) hE hst [] rfl (fun _ => rfl) (fun (_ : Unit) => [(o, .inr (6, [.ref tp, .ref nw, .ref th, .int im, .ref rf, .ref rt])), (rf, .inl (cI, 7, .inl ru)), (nw, .inr (1, [.ref j1, .ref j2, .ref mn, .ref lw, .int cut, .int least, .ref sd, .ref sr])), (mn, .inr (2, [.ref qk, .ref qb, .ref qp, .int (nI nq)])), (qk, .inl (cI, 60, .inl ki)), (qb, .inl (cI, 60, .inl bi)), (qp, .inl (cI, 60, .inl pa)), (lw, .inl (cI, 5, .inl la)), (g, .inr (0, [.int se, .int sh, .int sp, .int de, .int po, .ref gn, .ref gd, .ref gr, .ref gs, .int lo])), (gn, .inl (cI, 366, .inl nd)), (sd, .inr (4, [.long s01, .long s02, .int s03, .int s04])), (rt, .inr (3, [.long ra, .long rb]))]) (fun _ => rfl) (fun _ H locs hF hst => ?_)
    refine lv_if_ne (tgt := 23) hx hb dX6_does_16 (by decide) (fun c_16 => ?_) (fun c_16 => ?_)
    · skip
      have c_16 := b2i_t c_16
      refine lv_iconst (v := 0) hx hb dX6_does_23 (by decide) ?_
      have kJ := kJ _ _ hst
      rw [show (b2i (!isJarB p2)) = 0 from (by first | (rw [c_16]; done) | (rw [c_16]; rfl))] at kJ
      exact kJ
    · skip
      have c_16 := b2i_f c_16
      refine lv_iconst (v := 1) hx hb dX6_does_19 (by decide) ?_
      refine lv_goto (tgt := 24) hx hb dX6_does_20 (by decide) ?_
      have kJ := kJ _ _ hst
      rw [show (b2i (!isJarB p2)) = 1 from (by first | (rw [c_16]; done) | (rw [c_16]; rfl))] at kJ
      exact kJ
  intro H locs hst
  suffices kJ : ∀ (H : Heap) (locs : List Loc), SS D A s [(o, .inr (6, [.ref tp, .ref nw, .ref th, .int im, .ref rf, .ref rt])), (rf, .inl (cI, 7, .inl ru)), (nw, .inr (1, [.ref j1, .ref j2, .ref mn, .ref lw, .int cut, .int least, .ref sd, .ref sr])), (mn, .inr (2, [.ref qk, .ref qb, .ref qp, .int (nI nq)])), (qk, .inl (cI, 60, .inl ki)), (qb, .inl (cI, 60, .inl bi)), (qp, .inl (cI, 60, .inl pa)), (lw, .inl (cI, 5, .inl la)), (g, .inr (0, [.int se, .int sh, .int sp, .int de, .int po, .ref gn, .ref gd, .ref gr, .ref gs, .int lo])), (gn, .inl (cI, 366, .inl nd)), (sd, .inr (4, [.long s01, .long s02, .int s03, .int s04])), (rt, .inr (3, [.long ra, .long rb]))] H locs → W p l e (rmN 5 0 0) s m args below meth c H locs 0 0 QQ (F0 m 33 ls [.int (b2i (!decide (0 ≤ p1))), .int (b2i (!isJarB p2)), .int (b2i (!isJarB p0))]) by
    refine lv_iload_n hx hb dX6_does_24 rfl (lv_at hl 2 rfl) ?_
    refine lv_if_ge (tgt := 32) hx hb dX6_does_25 (by decide) (fun c_25 => ?_) (fun c_25 => ?_)
    · skip
      refine lv_iconst (v := 0) hx hb dX6_does_32 (by decide) ?_
      have kJ := kJ _ _ hst
      rw [show (b2i (!decide (0 ≤ p1))) = 0 from (by first | (rw [decide_eq_true c_25]; done) | (rw [decide_eq_true c_25]; rfl))] at kJ
      exact kJ
    · skip
      refine lv_iconst (v := 1) hx hb dX6_does_28 (by decide) ?_
      refine lv_goto (tgt := 33) hx hb dX6_does_29 (by decide) ?_
      have kJ := kJ _ _ hst
      rw [show (b2i (!decide (0 ≤ p1))) = 1 from (by first | (rw [decide_eq_false c_25]; done) | (rw [decide_eq_false c_25]; rfl))] at kJ
      exact kJ
  intro H locs hst
  suffices kJ : ∀ (H : Heap) (locs : List Loc), SS D A s [(o, .inr (6, [.ref tp, .ref nw, .ref th, .int im, .ref rf, .ref rt])), (rf, .inl (cI, 7, .inl ru)), (nw, .inr (1, [.ref j1, .ref j2, .ref mn, .ref lw, .int cut, .int least, .ref sd, .ref sr])), (mn, .inr (2, [.ref qk, .ref qb, .ref qp, .int (nI nq)])), (qk, .inl (cI, 60, .inl ki)), (qb, .inl (cI, 60, .inl bi)), (qp, .inl (cI, 60, .inl pa)), (lw, .inl (cI, 5, .inl la)), (g, .inr (0, [.int se, .int sh, .int sp, .int de, .int po, .ref gn, .ref gd, .ref gr, .ref gs, .int lo])), (gn, .inl (cI, 366, .inl nd)), (sd, .inr (4, [.long s01, .long s02, .int s03, .int s04])), (rt, .inr (3, [.long ra, .long rb]))] H locs → W p l e (rmN 5 0 0) s m args below meth c H locs 0 0 QQ (F0 m 44 ls [.int (b2i (!decide (p1 ≤ 40))), .int (b2i (!decide (0 ≤ p1))), .int (b2i (!isJarB p2)), .int (b2i (!isJarB p0))]) by
    refine lv_iload_n hx hb dX6_does_33 rfl (lv_at hl 2 rfl) ?_
    refine lv_bipush (v := 40) hx hb dX6_does_34 (by decide) ?_
    refine lv_icmp_le (tgt := 43) hx hb dX6_does_36 (by decide) (fun c_36 => ?_) (fun c_36 => ?_)
    · skip
      refine lv_iconst (v := 0) hx hb dX6_does_43 (by decide) ?_
      have kJ := kJ _ _ hst
      rw [show (b2i (!decide (p1 ≤ 40))) = 0 from (by first | (rw [decide_eq_true c_36]; done) | (rw [decide_eq_true c_36]; rfl))] at kJ
      exact kJ
    · skip
      refine lv_iconst (v := 1) hx hb dX6_does_39 (by decide) ?_
      refine lv_goto (tgt := 44) hx hb dX6_does_40 (by decide) ?_
      have kJ := kJ _ _ hst
      rw [show (b2i (!decide (p1 ≤ 40))) = 1 from (by first | (rw [decide_eq_false c_36]; done) | (rw [decide_eq_false c_36]; rfl))] at kJ
      exact kJ
  intro H locs hst
  refine q_goI (q_rS hE lk_X6_45 (c_X6_firstThatFits l D cI cJ cZ (!isJarB p0) (!isJarB p2) (!decide (0 ≤ p1)) (!decide (p1 ≤ 40)) H.size) hst [] rfl rfl rfl hl.1 ⟨(Nat.le_of_ble_eq_true rfl), (Nat.le_of_ble_eq_true rfl)⟩ (rest := []) rfl (Nat.le_of_ble_eq_true rfl) dX6_does_44 ⟨(Nat.le_of_ble_eq_true rfl), (Nat.le_of_ble_eq_true rfl)⟩) hE hst [] rfl (fun _ => rfl) (fun (_ : Unit) => [(o, .inr (6, [.ref tp, .ref nw, .ref th, .int im, .ref rf, .ref rt])), (rf, .inl (cI, 7, .inl ru)), (nw, .inr (1, [.ref j1, .ref j2, .ref mn, .ref lw, .int cut, .int least, .ref sd, .ref sr])), (mn, .inr (2, [.ref qk, .ref qb, .ref qp, .int (nI nq)])), (qk, .inl (cI, 60, .inl ki)), (qb, .inl (cI, 60, .inl bi)), (qp, .inl (cI, 60, .inl pa)), (lw, .inl (cI, 5, .inl la)), (g, .inr (0, [.int se, .int sh, .int sp, .int de, .int po, .ref gn, .ref gd, .ref gr, .ref gs, .int lo])), (gn, .inl (cI, 366, .inl nd)), (sd, .inr (4, [.long s01, .long s02, .int s03, .int s04])), (rt, .inr (3, [.long ra, .long rb]))]) (fun _ => rfl) (fun _ H locs hF hst => ?_)
  refine lv_istore (lv' := [(4, .int (ftf (!isJarB p0) (!isJarB p2) (!decide (0 ≤ p1)) (!decide (p1 ≤ 40)))), (0, .ref o), (1, .int p0), (2, .int p1), (3, .int p2)]) hx hb dX6_does_47 hl (by decide) rfl (fun ls hl => ?_)
  refine lv_iload hx hb dX6_does_49 (lv_at hl 0 rfl) ?_
  refine lv_if_eq (tgt := 61) hx hb dX6_does_51 (by decide) (fun c_51 => ?_) (fun c_51 => ?_)
  · skip
    obtain ⟨f1, f2, f3, f4⟩ := ftf_1 c_51
    have hjr := not_f f1
    refine lv_aload_n hx hb dX6_does_61 rfl (lv_at hl 1 rfl) ?_
    refine lv_aload_n hx hb dX6_does_62 rfl (lv_at hl 1 rfl) ?_
    refine gf_X6_19 hE hst 0 rfl rfl dX6_does_63 ?_
    refine lv_aload_n hx hb dX6_does_66 rfl (lv_at hl 1 rfl) ?_
    refine gf_X6_19 hE hst 0 rfl rfl dX6_does_67 ?_
    refine lv_iload_n hx hb dX6_does_70 rfl (lv_at hl 2 rfl) ?_
    refine q_goR (q_rNV hE lk_X6_93 (c_X1_jarAt l D cI cJ cZ nw j1 j2 mn lw sd sr cut least p0 H.size) hst [2] rfl rfl rfl rfl rfl hl.1 ⟨(Nat.le_of_ble_eq_true rfl), (Nat.le_of_ble_eq_true rfl)⟩ (rest := [.ref nw, .ref o]) rfl (Nat.le_of_ble_eq_true rfl) dX6_does_71 ⟨(Nat.le_of_ble_eq_true rfl), (Nat.le_of_ble_eq_true rfl)⟩) hE hst [2] rfl (fun _ => rfl) (fun (_ : Unit) => [(o, .inr (6, [.ref tp, .ref nw, .ref th, .int im, .ref rf, .ref rt])), (rf, .inl (cI, 7, .inl ru)), (nw, .inr (1, [.ref j1, .ref j2, .ref mn, .ref lw, .int cut, .int least, .ref sd, .ref sr])), (mn, .inr (2, [.ref qk, .ref qb, .ref qp, .int (nI nq)])), (qk, .inl (cI, 60, .inl ki)), (qb, .inl (cI, 60, .inl bi)), (qp, .inl (cI, 60, .inl pa)), (lw, .inl (cI, 5, .inl la)), (g, .inr (0, [.int se, .int sh, .int sp, .int de, .int po, .ref gn, .ref gd, .ref gr, .ref gs, .int lo])), (gn, .inl (cI, 366, .inl nd)), (sd, .inr (4, [.long s01, .long s02, .int s03, .int s04])), (rt, .inr (3, [.long ra, .long rb]))]) (fun _ => rfl) (fun _ H locs hF hst => ?_)
    refine q_topR (x' := g) (hsel hjr) ?_
    refine lv_iload_n hx hb dX6_does_74 rfl (lv_at hl 3 rfl) ?_
    refine lv_aload_n hx hb dX6_does_75 rfl (lv_at hl 1 rfl) ?_
    refine gf_X6_37 hE hst 0 rfl rfl dX6_does_76 ?_
    refine q_goI (q_rNV hE lk_X6_187 (c_X1_findDoes l D cI cJ cZ nw j1 j2 mn lw sd sr cut least qk qb qp nq g gn gd gr gs se sh sp de po lo nd ki bi pa la rt s01 s02 ra rb s03 s04 p1 (by first | assumption | decide | omega) (by first | assumption | decide | omega) H.size) hst [2, 3, 4, 5, 6, 7, 8, 9, 10, 11] rfl rfl rfl rfl rfl hl.1 ⟨(Nat.le_of_ble_eq_true rfl), (Nat.le_of_ble_eq_true rfl)⟩ (rest := [.ref o]) rfl (Nat.le_of_ble_eq_true rfl) dX6_does_79 ⟨(Nat.le_of_ble_eq_true rfl), (Nat.le_of_ble_eq_true rfl)⟩) hE hst [2, 3, 4, 5, 6, 7, 8, 9, 10, 11] rfl (fun _ => rfl) (fun (u : Int64 × Int64 × Int32 × Int32) => [(o, .inr (6, [.ref tp, .ref nw, .ref th, .int im, .ref rf, .ref rt])), (rf, .inl (cI, 7, .inl ru)), (nw, .inr (1, [.ref j1, .ref j2, .ref mn, .ref lw, .int cut, .int least, .ref sd, .ref sr])), (mn, .inr (2, [.ref qk, .ref qb, .ref qp, .int (nI nq)])), (qk, .inl (cI, 60, .inl ki)), (qb, .inl (cI, 60, .inl bi)), (qp, .inl (cI, 60, .inl pa)), (lw, .inl (cI, 5, .inl la)), (g, .inr (0, [.int se, .int sh, .int sp, .int de, .int po, .ref gn, .ref gd, .ref gr, .ref gs, .int lo])), (gn, .inl (cI, 366, .inl nd)), (sd, .inr (4, [.long u.1, .long u.2.1, .int u.2.2.1, .int u.2.2.2])), (rt, .inr (3, [.long (if dfB (calF cut nd bi) nq = true then becA (dfN (calF cut nd bi) (wgL cut nd ki bi pa la p1) nq) (dfD (calF cut nd bi) nq) else ra), .long (if dfB (calF cut nd bi) nq = true then becB (dfN (calF cut nd bi) (wgL cut nd ki bi pa la p1) nq) (dfD (calF cut nd bi) nq) else rb)]))]) (fun _ => rfl) (fun u H locs hF hst => ?_)
    obtain ⟨s1_1, s2_2, s3_3, s4_4⟩ := u
    have hst : SS D A s [(o, .inr (6, [.ref tp, .ref nw, .ref th, .int im, .ref rf, .ref rt])), (rf, .inl (cI, 7, .inl ru)), (nw, .inr (1, [.ref j1, .ref j2, .ref mn, .ref lw, .int cut, .int least, .ref sd, .ref sr])), (mn, .inr (2, [.ref qk, .ref qb, .ref qp, .int (nI nq)])), (qk, .inl (cI, 60, .inl ki)), (qb, .inl (cI, 60, .inl bi)), (qp, .inl (cI, 60, .inl pa)), (lw, .inl (cI, 5, .inl la)), (g, .inr (0, [.int se, .int sh, .int sp, .int de, .int po, .ref gn, .ref gd, .ref gr, .ref gs, .int lo])), (gn, .inl (cI, 366, .inl nd)), (sd, .inr (4, [.long s1_1, .long s2_2, .int s3_3, .int s4_4])), (rt, .inr (3, [.long (if dfB (calF cut nd bi) nq = true then becA (dfN (calF cut nd bi) (wgL cut nd ki bi pa la p1) nq) (dfD (calF cut nd bi) nq) else ra), .long (if dfB (calF cut nd bi) nq = true then becB (dfN (calF cut nd bi) (wgL cut nd ki bi pa la p1) nq) (dfD (calF cut nd bi) nq) else rb)]))] H locs := hst
    refine W.eq (g2 := F0 m 82 ls [.int (b2i (dfB (calF cut nd bi) nq)), .ref o]) rfl ?_
    refine lv_iload_n hx hb dX6_does_82 rfl (lv_at hl 4 rfl) ?_
    refine q_goL (q_rV hE lk_X6_191 (c_X6_partOrNone l D cI cJ cZ o tp nw th rf rt im ru (if dfB (calF cut nd bi) nq = true then becA (dfN (calF cut nd bi) (wgL cut nd ki bi pa la p1) nq) (dfD (calF cut nd bi) nq) else ra) (if dfB (calF cut nd bi) nq = true then becB (dfN (calF cut nd bi) (wgL cut nd ki bi pa la p1) nq) (dfD (calF cut nd bi) nq) else rb) (dfB (calF cut nd bi) nq) p2 H.size) hst [0, 1, 11] rfl rfl rfl rfl rfl hl.1 ⟨(Nat.le_of_ble_eq_true rfl), (Nat.le_of_ble_eq_true rfl)⟩ (rest := []) rfl (Nat.le_of_ble_eq_true rfl) dX6_does_83 ⟨(Nat.le_of_ble_eq_true rfl), (Nat.le_of_ble_eq_true rfl)⟩) hE hst [0, 1, 11] rfl (fun _ => rfl) (fun (_ : Unit) => [(o, .inr (6, [.ref tp, .ref nw, .ref th, .int im, .ref rf, .ref rt])), (rf, .inl (cI, 7, .inl (if (dfB (calF cut nd bi) nq) = true then ru else bmp ru (-3)))), (nw, .inr (1, [.ref j1, .ref j2, .ref mn, .ref lw, .int cut, .int least, .ref sd, .ref sr])), (mn, .inr (2, [.ref qk, .ref qb, .ref qp, .int (nI nq)])), (qk, .inl (cI, 60, .inl ki)), (qb, .inl (cI, 60, .inl bi)), (qp, .inl (cI, 60, .inl pa)), (lw, .inl (cI, 5, .inl la)), (g, .inr (0, [.int se, .int sh, .int sp, .int de, .int po, .ref gn, .ref gd, .ref gr, .ref gs, .int lo])), (gn, .inl (cI, 366, .inl nd)), (sd, .inr (4, [.long s1_1, .long s2_2, .int s3_3, .int s4_4])), (rt, .inr (3, [.long (if dfB (calF cut nd bi) nq = true then becA (dfN (calF cut nd bi) (wgL cut nd ki bi pa la p1) nq) (dfD (calF cut nd bi) nq) else ra), .long (if dfB (calF cut nd bi) nq = true then becB (dfN (calF cut nd bi) (wgL cut nd ki bi pa la p1) nq) (dfD (calF cut nd bi) nq) else rb)]))]) (fun _ => rfl) (fun _ H locs hF hst => ?_)
    exact q_retL hQ hE hr hk hst (s1_1, s2_2, s3_3, s4_4, if dfB (calF cut nd bi) nq = true then becA (dfN (calF cut nd bi) (wgL cut nd ki bi pa la p1) nq) (dfD (calF cut nd bi) nq) else ra, if dfB (calF cut nd bi) nq = true then becB (dfN (calF cut nd bi) (wgL cut nd ki bi pa la p1) nq) (dfD (calF cut nd bi) nq) else rb) (by rw [if_pos c_51]; exact dif_post _ _ _ _ _ _ _) (trivial) (by rw [if_pos c_51]) dX6_does_86
  · skip
    refine lv_aload_n hx hb dX6_does_54 rfl (lv_at hl 1 rfl) ?_
    refine lv_iload hx hb dX6_does_55 (lv_at hl 0 rfl) ?_
    refine q_goL (q_rV hE lk_X6_119 (c_X6_refuseLong l D cI cJ cZ o tp nw th rf rt im ru (ftf (!isJarB p0) (!isJarB p2) (!decide (0 ≤ p1)) (!decide (p1 ≤ 40))) (ftf_in _ _ _ _) H.size) hst [0, 1] rfl rfl rfl rfl rfl hl.1 ⟨(Nat.le_of_ble_eq_true rfl), (Nat.le_of_ble_eq_true rfl)⟩ (rest := []) rfl (Nat.le_of_ble_eq_true rfl) dX6_does_57 ⟨(Nat.le_of_ble_eq_true rfl), (Nat.le_of_ble_eq_true rfl)⟩) hE hst [0, 1] rfl (fun _ => rfl) (fun (_ : Unit) => [(o, .inr (6, [.ref tp, .ref nw, .ref th, .int im, .ref rf, .ref rt])), (rf, .inl (cI, 7, .inl (bmp ru (ftf (!isJarB p0) (!isJarB p2) (!decide (0 ≤ p1)) (!decide (p1 ≤ 40)))))), (nw, .inr (1, [.ref j1, .ref j2, .ref mn, .ref lw, .int cut, .int least, .ref sd, .ref sr])), (mn, .inr (2, [.ref qk, .ref qb, .ref qp, .int (nI nq)])), (qk, .inl (cI, 60, .inl ki)), (qb, .inl (cI, 60, .inl bi)), (qp, .inl (cI, 60, .inl pa)), (lw, .inl (cI, 5, .inl la)), (g, .inr (0, [.int se, .int sh, .int sp, .int de, .int po, .ref gn, .ref gd, .ref gr, .ref gs, .int lo])), (gn, .inl (cI, 366, .inl nd)), (sd, .inr (4, [.long s01, .long s02, .int s03, .int s04])), (rt, .inr (3, [.long ra, .long rb]))]) (fun _ => rfl) (fun _ H locs hF hst => ?_)
    exact q_retL hQ hE hr hk hst (s01, s02, s03, s04, ra, rb) (by rw [if_neg c_51]) (trivial) (by rw [if_neg c_51]) dX6_does_60
set_option maxHeartbeats 4000000 in
set_option maxRecDepth 100000 in
theorem c_X6_serving (l : Launch) (D : va_G) (cI cJ cZ : ClassId) (o : Nat) (tp : Nat) (nw : Nat) (th : Nat) (rf : Nat) (rt : Nat) (im : Int32) (ru : Nat → Int32) (j1 : Nat) (j2 : Nat) (mn : Nat) (lw : Nat) (sd : Nat) (sr : Nat) (cut : Int32) (least : Int32) (qk : Nat) (qb : Nat) (qp : Nat) (nq : Nat) (g : Nat) (gn : Nat) (gd : Nat) (gr : Nat) (gs : Nat) (se : Int32) (sh : Int32) (sp : Int32) (de : Int32) (po : Int32) (lo : Int32) (nd : Nat → Int32) (ki : Nat → Int32) (bi : Nat → Int32) (pa : Nat → Int32) (la : Nat → Int32) (s01 : Int64) (s02 : Int64) (s03 : Int32) (s04 : Int32) (ra : Int64) (rb : Int64) (sa : Int64) (sb : Int64) (p0 : Int32) (p1 : Int32) (p2 : Int32) (hsel : isJarB p0 = true → (if p0 = 0 then j1 else j2) = g) (hn : nq ≤ 60) (hbi : ∀ j, j < nq → vp_in (bi j) 366) : CtL l D cI cJ cZ yX6_serving cX6_serving 5 (some .long) 6 [.ref o, .int p0, .int p1, .int p2] [(o, .inr (6, [.ref tp, .ref nw, .ref th, .int im, .ref rf, .ref rt])), (rf, .inl (cI, 7, .inl ru)), (nw, .inr (1, [.ref j1, .ref j2, .ref mn, .ref lw, .int cut, .int least, .ref sd, .ref sr])), (mn, .inr (2, [.ref qk, .ref qb, .ref qp, .int (nI nq)])), (qk, .inl (cI, 60, .inl ki)), (qb, .inl (cI, 60, .inl bi)), (qp, .inl (cI, 60, .inl pa)), (lw, .inl (cI, 5, .inl la)), (g, .inr (0, [.int se, .int sh, .int sp, .int de, .int po, .ref gn, .ref gd, .ref gr, .ref gs, .int lo])), (gn, .inl (cI, 366, .inl nd)), (sd, .inr (4, [.long s01, .long s02, .int s03, .int s04])), (rt, .inr (3, [.long ra, .long rb])), (sr, .inr (3, [.long sa, .long sb]))] (fun (u : Int64 × Int64 × Int32 × Int32 × Int64 × Int64 × Int64 × Int64) => if ftf (!isJarB p0) (!isJarB p2) (!decide (0 ≤ p1)) (!decide (p1 ≤ 40)) = 0 then if svB cut nd ki bi nq = true then (if p2 = 0 then becA (svN cut nd ki bi pa la p1 nq) (svD cut nd ki bi pa la p1 nq) else becB (svN cut nd ki bi pa la p1 nq) (svD cut nd ki bi pa la p1 nq)) else lgR (-3) else lgR (ftf (!isJarB p0) (!isJarB p2) (!decide (0 ≤ p1)) (!decide (p1 ≤ 40)))) (fun (u : Int64 × Int64 × Int32 × Int32 × Int64 × Int64 × Int64 × Int64) => True) (fun (u : Int64 × Int64 × Int32 × Int32 × Int64 × Int64 × Int64 × Int64) => [(o, .inr (6, [.ref tp, .ref nw, .ref th, .int im, .ref rf, .ref rt])), (rf, .inl (cI, 7, .inl (if ftf (!isJarB p0) (!isJarB p2) (!decide (0 ≤ p1)) (!decide (p1 ≤ 40)) = 0 then (if svB cut nd ki bi nq = true then ru else bmp ru (-3)) else bmp ru (ftf (!isJarB p0) (!isJarB p2) (!decide (0 ≤ p1)) (!decide (p1 ≤ 40)))))), (nw, .inr (1, [.ref j1, .ref j2, .ref mn, .ref lw, .int cut, .int least, .ref sd, .ref sr])), (mn, .inr (2, [.ref qk, .ref qb, .ref qp, .int (nI nq)])), (qk, .inl (cI, 60, .inl ki)), (qb, .inl (cI, 60, .inl bi)), (qp, .inl (cI, 60, .inl pa)), (lw, .inl (cI, 5, .inl la)), (g, .inr (0, [.int se, .int sh, .int sp, .int de, .int po, .ref gn, .ref gd, .ref gr, .ref gs, .int lo])), (gn, .inl (cI, 366, .inl nd)), (sd, .inr (4, [.long u.1, .long u.2.1, .int u.2.2.1, .int u.2.2.2.1])), (rt, .inr (3, [.long u.2.2.2.2.1, .long u.2.2.2.2.2.1])), (sr, .inr (3, [.long u.2.2.2.2.2.2.1, .long u.2.2.2.2.2.2.2]))]) := by
  refine q_entL (own := RX6) rfl rfl (Nat.le_of_ble_eq_true rfl) ?_
  intro p e s m args below meth c A ls QQ hQ hE hx hb hr hk hin hA hl hst
  have hl : lv_has ls 5 [(0, .ref o), (1, .int p0), (2, .int p1), (3, .int p2)] := hl
  suffices kJ : ∀ (H : Heap) (locs : List Loc), SS D A s [(o, .inr (6, [.ref tp, .ref nw, .ref th, .int im, .ref rf, .ref rt])), (rf, .inl (cI, 7, .inl ru)), (nw, .inr (1, [.ref j1, .ref j2, .ref mn, .ref lw, .int cut, .int least, .ref sd, .ref sr])), (mn, .inr (2, [.ref qk, .ref qb, .ref qp, .int (nI nq)])), (qk, .inl (cI, 60, .inl ki)), (qb, .inl (cI, 60, .inl bi)), (qp, .inl (cI, 60, .inl pa)), (lw, .inl (cI, 5, .inl la)), (g, .inr (0, [.int se, .int sh, .int sp, .int de, .int po, .ref gn, .ref gd, .ref gr, .ref gs, .int lo])), (gn, .inl (cI, 366, .inl nd)), (sd, .inr (4, [.long s01, .long s02, .int s03, .int s04])), (rt, .inr (3, [.long ra, .long rb])), (sr, .inr (3, [.long sa, .long sb]))] H locs → W p l e (rmN 6 0 0) s m args below meth c H locs 0 0 QQ (F0 m 12 ls [.int (b2i (!isJarB p0))]) by
    refine lv_iload_n hx hb dX6_serving_0 rfl (lv_at hl 1 rfl) ?_
    refine q_goI (q_rS hE lk_X6_90 (c_X6_isJar l D cI cJ cZ p0 s.heap.size) hst [] rfl rfl rfl hl.1 ⟨(Nat.le_of_ble_eq_true rfl), (Nat.le_of_ble_eq_true rfl)⟩ (rest := []) rfl (Nat.le_of_ble_eq_true rfl) dX6_serving_1 ⟨(Nat.le_of_ble_eq_true rfl), (Nat.le_of_ble_eq_true rfl)⟩) hE hst [] rfl (fun _ => rfl) (fun (_ : Unit) => [(o, .inr (6, [.ref tp, .ref nw, .ref th, .int im, .ref rf, .ref rt])), (rf, .inl (cI, 7, .inl ru)), (nw, .inr (1, [.ref j1, .ref j2, .ref mn, .ref lw, .int cut, .int least, .ref sd, .ref sr])), (mn, .inr (2, [.ref qk, .ref qb, .ref qp, .int (nI nq)])), (qk, .inl (cI, 60, .inl ki)), (qb, .inl (cI, 60, .inl bi)), (qp, .inl (cI, 60, .inl pa)), (lw, .inl (cI, 5, .inl la)), (g, .inr (0, [.int se, .int sh, .int sp, .int de, .int po, .ref gn, .ref gd, .ref gr, .ref gs, .int lo])), (gn, .inl (cI, 366, .inl nd)), (sd, .inr (4, [.long s01, .long s02, .int s03, .int s04])), (rt, .inr (3, [.long ra, .long rb])), (sr, .inr (3, [.long sa, .long sb]))]) (fun _ => rfl) (fun _ H locs hF hst => ?_)
    refine lv_if_ne (tgt := 11) hx hb dX6_serving_4 (by decide) (fun c_4 => ?_) (fun c_4 => ?_)
    · skip
      have c_4 := b2i_t c_4
      refine lv_iconst (v := 0) hx hb dX6_serving_11 (by decide) ?_
      have kJ := kJ _ _ hst
      rw [show (b2i (!isJarB p0)) = 0 from (by first | (rw [c_4]; done) | (rw [c_4]; rfl))] at kJ
      exact kJ
    · skip
      have c_4 := b2i_f c_4
      refine lv_iconst (v := 1) hx hb dX6_serving_7 (by decide) ?_
      refine lv_goto (tgt := 12) hx hb dX6_serving_8 (by decide) ?_
      have kJ := kJ _ _ hst
      rw [show (b2i (!isJarB p0)) = 1 from (by first | (rw [c_4]; done) | (rw [c_4]; rfl))] at kJ
      exact kJ
  intro H locs hst
  suffices kJ : ∀ (H : Heap) (locs : List Loc), SS D A s [(o, .inr (6, [.ref tp, .ref nw, .ref th, .int im, .ref rf, .ref rt])), (rf, .inl (cI, 7, .inl ru)), (nw, .inr (1, [.ref j1, .ref j2, .ref mn, .ref lw, .int cut, .int least, .ref sd, .ref sr])), (mn, .inr (2, [.ref qk, .ref qb, .ref qp, .int (nI nq)])), (qk, .inl (cI, 60, .inl ki)), (qb, .inl (cI, 60, .inl bi)), (qp, .inl (cI, 60, .inl pa)), (lw, .inl (cI, 5, .inl la)), (g, .inr (0, [.int se, .int sh, .int sp, .int de, .int po, .ref gn, .ref gd, .ref gr, .ref gs, .int lo])), (gn, .inl (cI, 366, .inl nd)), (sd, .inr (4, [.long s01, .long s02, .int s03, .int s04])), (rt, .inr (3, [.long ra, .long rb])), (sr, .inr (3, [.long sa, .long sb]))] H locs → W p l e (rmN 6 0 0) s m args below meth c H locs 0 0 QQ (F0 m 24 ls [.int (b2i (!isJarB p2)), .int (b2i (!isJarB p0))]) by
    refine lv_iload_n hx hb dX6_serving_12 rfl (lv_at hl 3 rfl) ?_
    refine q_goI (q_rS hE lk_X6_116 (c_X6_isPart l D cI cJ cZ p2 H.size) hst [] rfl rfl rfl hl.1 ⟨(Nat.le_of_ble_eq_true rfl), (Nat.le_of_ble_eq_true rfl)⟩ (rest := [.int (b2i (!isJarB p0))]) rfl (Nat.le_of_ble_eq_true rfl) dX6_serving_13 ⟨(Nat.le_of_ble_eq_true rfl), (Nat.le_of_ble_eq_true rfl)⟩) hE hst [] rfl (fun _ => rfl) (fun (_ : Unit) => [(o, .inr (6, [.ref tp, .ref nw, .ref th, .int im, .ref rf, .ref rt])), (rf, .inl (cI, 7, .inl ru)), (nw, .inr (1, [.ref j1, .ref j2, .ref mn, .ref lw, .int cut, .int least, .ref sd, .ref sr])), (mn, .inr (2, [.ref qk, .ref qb, .ref qp, .int (nI nq)])), (qk, .inl (cI, 60, .inl ki)), (qb, .inl (cI, 60, .inl bi)), (qp, .inl (cI, 60, .inl pa)), (lw, .inl (cI, 5, .inl la)), (g, .inr (0, [.int se, .int sh, .int sp, .int de, .int po, .ref gn, .ref gd, .ref gr, .ref gs, .int lo])), (gn, .inl (cI, 366, .inl nd)), (sd, .inr (4, [.long s01, .long s02, .int s03, .int s04])), (rt, .inr (3, [.long ra, .long rb])), (sr, .inr (3, [.long sa, .long sb]))]) (fun _ => rfl) (fun _ H locs hF hst => ?_)
    refine lv_if_ne (tgt := 23) hx hb dX6_serving_16 (by decide) (fun c_16 => ?_) (fun c_16 => ?_)
    · skip
      have c_16 := b2i_t c_16
      refine lv_iconst (v := 0) hx hb dX6_serving_23 (by decide) ?_
      have kJ := kJ _ _ hst
      rw [show (b2i (!isJarB p2)) = 0 from (by first | (rw [c_16]; done) | (rw [c_16]; rfl))] at kJ
      exact kJ
    · skip
      have c_16 := b2i_f c_16
      refine lv_iconst (v := 1) hx hb dX6_serving_19 (by decide) ?_
      refine lv_goto (tgt := 24) hx hb dX6_serving_20 (by decide) ?_
      have kJ := kJ _ _ hst
      rw [show (b2i (!isJarB p2)) = 1 from (by first | (rw [c_16]; done) | (rw [c_16]; rfl))] at kJ
      exact kJ
  intro H locs hst
  suffices kJ : ∀ (H : Heap) (locs : List Loc), SS D A s [(o, .inr (6, [.ref tp, .ref nw, .ref th, .int im, .ref rf, .ref rt])), (rf, .inl (cI, 7, .inl ru)), (nw, .inr (1, [.ref j1, .ref j2, .ref mn, .ref lw, .int cut, .int least, .ref sd, .ref sr])), (mn, .inr (2, [.ref qk, .ref qb, .ref qp, .int (nI nq)])), (qk, .inl (cI, 60, .inl ki)), (qb, .inl (cI, 60, .inl bi)), (qp, .inl (cI, 60, .inl pa)), (lw, .inl (cI, 5, .inl la)), (g, .inr (0, [.int se, .int sh, .int sp, .int de, .int po, .ref gn, .ref gd, .ref gr, .ref gs, .int lo])), (gn, .inl (cI, 366, .inl nd)), (sd, .inr (4, [.long s01, .long s02, .int s03, .int s04])), (rt, .inr (3, [.long ra, .long rb])), (sr, .inr (3, [.long sa, .long sb]))] H locs → W p l e (rmN 6 0 0) s m args below meth c H locs 0 0 QQ (F0 m 33 ls [.int (b2i (!decide (0 ≤ p1))), .int (b2i (!isJarB p2)), .int (b2i (!isJarB p0))]) by
    refine lv_iload_n hx hb dX6_serving_24 rfl (lv_at hl 2 rfl) ?_
    refine lv_if_ge (tgt := 32) hx hb dX6_serving_25 (by decide) (fun c_25 => ?_) (fun c_25 => ?_)
    · skip
      refine lv_iconst (v := 0) hx hb dX6_serving_32 (by decide) ?_
      have kJ := kJ _ _ hst
      rw [show (b2i (!decide (0 ≤ p1))) = 0 from (by first | (rw [decide_eq_true c_25]; done) | (rw [decide_eq_true c_25]; rfl))] at kJ
      exact kJ
    · skip
      refine lv_iconst (v := 1) hx hb dX6_serving_28 (by decide) ?_
      refine lv_goto (tgt := 33) hx hb dX6_serving_29 (by decide) ?_
      have kJ := kJ _ _ hst
      rw [show (b2i (!decide (0 ≤ p1))) = 1 from (by first | (rw [decide_eq_false c_25]; done) | (rw [decide_eq_false c_25]; rfl))] at kJ
      exact kJ
  intro H locs hst
  suffices kJ : ∀ (H : Heap) (locs : List Loc), SS D A s [(o, .inr (6, [.ref tp, .ref nw, .ref th, .int im, .ref rf, .ref rt])), (rf, .inl (cI, 7, .inl ru)), (nw, .inr (1, [.ref j1, .ref j2, .ref mn, .ref lw, .int cut, .int least, .ref sd, .ref sr])), (mn, .inr (2, [.ref qk, .ref qb, .ref qp, .int (nI nq)])), (qk, .inl (cI, 60, .inl ki)), (qb, .inl (cI, 60, .inl bi)), (qp, .inl (cI, 60, .inl pa)), (lw, .inl (cI, 5, .inl la)), (g, .inr (0, [.int se, .int sh, .int sp, .int de, .int po, .ref gn, .ref gd, .ref gr, .ref gs, .int lo])), (gn, .inl (cI, 366, .inl nd)), (sd, .inr (4, [.long s01, .long s02, .int s03, .int s04])), (rt, .inr (3, [.long ra, .long rb])), (sr, .inr (3, [.long sa, .long sb]))] H locs → W p l e (rmN 6 0 0) s m args below meth c H locs 0 0 QQ (F0 m 44 ls [.int (b2i (!decide (p1 ≤ 40))), .int (b2i (!decide (0 ≤ p1))), .int (b2i (!isJarB p2)), .int (b2i (!isJarB p0))]) by
    refine lv_iload_n hx hb dX6_serving_33 rfl (lv_at hl 2 rfl) ?_
    refine lv_bipush (v := 40) hx hb dX6_serving_34 (by decide) ?_
    refine lv_icmp_le (tgt := 43) hx hb dX6_serving_36 (by decide) (fun c_36 => ?_) (fun c_36 => ?_)
    · skip
      refine lv_iconst (v := 0) hx hb dX6_serving_43 (by decide) ?_
      have kJ := kJ _ _ hst
      rw [show (b2i (!decide (p1 ≤ 40))) = 0 from (by first | (rw [decide_eq_true c_36]; done) | (rw [decide_eq_true c_36]; rfl))] at kJ
      exact kJ
    · skip
      refine lv_iconst (v := 1) hx hb dX6_serving_39 (by decide) ?_
      refine lv_goto (tgt := 44) hx hb dX6_serving_40 (by decide) ?_
      have kJ := kJ _ _ hst
      rw [show (b2i (!decide (p1 ≤ 40))) = 1 from (by first | (rw [decide_eq_false c_36]; done) | (rw [decide_eq_false c_36]; rfl))] at kJ
      exact kJ
  intro H locs hst
  refine q_goI (q_rS hE lk_X6_45 (c_X6_firstThatFits l D cI cJ cZ (!isJarB p0) (!isJarB p2) (!decide (0 ≤ p1)) (!decide (p1 ≤ 40)) H.size) hst [] rfl rfl rfl hl.1 ⟨(Nat.le_of_ble_eq_true rfl), (Nat.le_of_ble_eq_true rfl)⟩ (rest := []) rfl (Nat.le_of_ble_eq_true rfl) dX6_serving_44 ⟨(Nat.le_of_ble_eq_true rfl), (Nat.le_of_ble_eq_true rfl)⟩) hE hst [] rfl (fun _ => rfl) (fun (_ : Unit) => [(o, .inr (6, [.ref tp, .ref nw, .ref th, .int im, .ref rf, .ref rt])), (rf, .inl (cI, 7, .inl ru)), (nw, .inr (1, [.ref j1, .ref j2, .ref mn, .ref lw, .int cut, .int least, .ref sd, .ref sr])), (mn, .inr (2, [.ref qk, .ref qb, .ref qp, .int (nI nq)])), (qk, .inl (cI, 60, .inl ki)), (qb, .inl (cI, 60, .inl bi)), (qp, .inl (cI, 60, .inl pa)), (lw, .inl (cI, 5, .inl la)), (g, .inr (0, [.int se, .int sh, .int sp, .int de, .int po, .ref gn, .ref gd, .ref gr, .ref gs, .int lo])), (gn, .inl (cI, 366, .inl nd)), (sd, .inr (4, [.long s01, .long s02, .int s03, .int s04])), (rt, .inr (3, [.long ra, .long rb])), (sr, .inr (3, [.long sa, .long sb]))]) (fun _ => rfl) (fun _ H locs hF hst => ?_)
  refine lv_istore (lv' := [(4, .int (ftf (!isJarB p0) (!isJarB p2) (!decide (0 ≤ p1)) (!decide (p1 ≤ 40)))), (0, .ref o), (1, .int p0), (2, .int p1), (3, .int p2)]) hx hb dX6_serving_47 hl (by decide) rfl (fun ls hl => ?_)
  refine lv_iload hx hb dX6_serving_49 (lv_at hl 0 rfl) ?_
  refine lv_if_eq (tgt := 61) hx hb dX6_serving_51 (by decide) (fun c_51 => ?_) (fun c_51 => ?_)
  · skip
    obtain ⟨f1, f2, f3, f4⟩ := ftf_1 c_51
    have hjr := not_f f1
    refine lv_aload_n hx hb dX6_serving_61 rfl (lv_at hl 1 rfl) ?_
    refine lv_aload_n hx hb dX6_serving_62 rfl (lv_at hl 1 rfl) ?_
    refine gf_X6_19 hE hst 0 rfl rfl dX6_serving_63 ?_
    refine lv_aload_n hx hb dX6_serving_66 rfl (lv_at hl 1 rfl) ?_
    refine gf_X6_19 hE hst 0 rfl rfl dX6_serving_67 ?_
    refine lv_iload_n hx hb dX6_serving_70 rfl (lv_at hl 2 rfl) ?_
    refine q_goR (q_rNV hE lk_X6_93 (c_X1_jarAt l D cI cJ cZ nw j1 j2 mn lw sd sr cut least p0 H.size) hst [2] rfl rfl rfl rfl rfl hl.1 ⟨(Nat.le_of_ble_eq_true rfl), (Nat.le_of_ble_eq_true rfl)⟩ (rest := [.ref nw, .ref o]) rfl (Nat.le_of_ble_eq_true rfl) dX6_serving_71 ⟨(Nat.le_of_ble_eq_true rfl), (Nat.le_of_ble_eq_true rfl)⟩) hE hst [2] rfl (fun _ => rfl) (fun (_ : Unit) => [(o, .inr (6, [.ref tp, .ref nw, .ref th, .int im, .ref rf, .ref rt])), (rf, .inl (cI, 7, .inl ru)), (nw, .inr (1, [.ref j1, .ref j2, .ref mn, .ref lw, .int cut, .int least, .ref sd, .ref sr])), (mn, .inr (2, [.ref qk, .ref qb, .ref qp, .int (nI nq)])), (qk, .inl (cI, 60, .inl ki)), (qb, .inl (cI, 60, .inl bi)), (qp, .inl (cI, 60, .inl pa)), (lw, .inl (cI, 5, .inl la)), (g, .inr (0, [.int se, .int sh, .int sp, .int de, .int po, .ref gn, .ref gd, .ref gr, .ref gs, .int lo])), (gn, .inl (cI, 366, .inl nd)), (sd, .inr (4, [.long s01, .long s02, .int s03, .int s04])), (rt, .inr (3, [.long ra, .long rb])), (sr, .inr (3, [.long sa, .long sb]))]) (fun _ => rfl) (fun _ H locs hF hst => ?_)
    refine q_topR (x' := g) (hsel hjr) ?_
    refine lv_iload_n hx hb dX6_serving_74 rfl (lv_at hl 3 rfl) ?_
    refine lv_aload_n hx hb dX6_serving_75 rfl (lv_at hl 1 rfl) ?_
    refine gf_X6_37 hE hst 0 rfl rfl dX6_serving_76 ?_
    refine q_goI (q_rNV hE lk_X6_199 (c_X1_findServing l D cI cJ cZ nw j1 j2 mn lw sd sr cut least qk qb qp nq g gn gd gr gs se sh sp de po lo nd ki bi pa la rt s01 s02 ra rb s03 s04 sa sb p1 (by first | assumption | decide | omega) (by first | assumption | decide | omega) H.size) hst [2, 3, 4, 5, 6, 7, 8, 9, 10, 11, 12] rfl rfl rfl rfl rfl hl.1 ⟨(Nat.le_of_ble_eq_true rfl), (Nat.le_of_ble_eq_true rfl)⟩ (rest := [.ref o]) rfl (Nat.le_of_ble_eq_true rfl) dX6_serving_79 ⟨(Nat.le_of_ble_eq_true rfl), (Nat.le_of_ble_eq_true rfl)⟩) hE hst [2, 3, 4, 5, 6, 7, 8, 9, 10, 11, 12] rfl (fun _ => rfl) (fun (u : Int64 × Int64 × Int32 × Int32 × Int64 × Int64) => [(o, .inr (6, [.ref tp, .ref nw, .ref th, .int im, .ref rf, .ref rt])), (rf, .inl (cI, 7, .inl ru)), (nw, .inr (1, [.ref j1, .ref j2, .ref mn, .ref lw, .int cut, .int least, .ref sd, .ref sr])), (mn, .inr (2, [.ref qk, .ref qb, .ref qp, .int (nI nq)])), (qk, .inl (cI, 60, .inl ki)), (qb, .inl (cI, 60, .inl bi)), (qp, .inl (cI, 60, .inl pa)), (lw, .inl (cI, 5, .inl la)), (g, .inr (0, [.int se, .int sh, .int sp, .int de, .int po, .ref gn, .ref gd, .ref gr, .ref gs, .int lo])), (gn, .inl (cI, 366, .inl nd)), (sd, .inr (4, [.long u.1, .long u.2.1, .int u.2.2.1, .int u.2.2.2.1])), (rt, .inr (3, [.long (if svB cut nd ki bi nq = true then becA (svN cut nd ki bi pa la p1 nq) (svD cut nd ki bi pa la p1 nq) else ra), .long (if svB cut nd ki bi nq = true then becB (svN cut nd ki bi pa la p1 nq) (svD cut nd ki bi pa la p1 nq) else rb)])), (sr, .inr (3, [.long u.2.2.2.2.1, .long u.2.2.2.2.2]))]) (fun _ => rfl) (fun u H locs hF hst => ?_)
    obtain ⟨s1_1, s2_2, s3_3, s4_4, t1_5, t2_6⟩ := u
    have hst : SS D A s [(o, .inr (6, [.ref tp, .ref nw, .ref th, .int im, .ref rf, .ref rt])), (rf, .inl (cI, 7, .inl ru)), (nw, .inr (1, [.ref j1, .ref j2, .ref mn, .ref lw, .int cut, .int least, .ref sd, .ref sr])), (mn, .inr (2, [.ref qk, .ref qb, .ref qp, .int (nI nq)])), (qk, .inl (cI, 60, .inl ki)), (qb, .inl (cI, 60, .inl bi)), (qp, .inl (cI, 60, .inl pa)), (lw, .inl (cI, 5, .inl la)), (g, .inr (0, [.int se, .int sh, .int sp, .int de, .int po, .ref gn, .ref gd, .ref gr, .ref gs, .int lo])), (gn, .inl (cI, 366, .inl nd)), (sd, .inr (4, [.long s1_1, .long s2_2, .int s3_3, .int s4_4])), (rt, .inr (3, [.long (if svB cut nd ki bi nq = true then becA (svN cut nd ki bi pa la p1 nq) (svD cut nd ki bi pa la p1 nq) else ra), .long (if svB cut nd ki bi nq = true then becB (svN cut nd ki bi pa la p1 nq) (svD cut nd ki bi pa la p1 nq) else rb)])), (sr, .inr (3, [.long t1_5, .long t2_6]))] H locs := hst
    refine W.eq (g2 := F0 m 82 ls [.int (b2i (svB cut nd ki bi nq)), .ref o]) rfl ?_
    refine lv_iload_n hx hb dX6_serving_82 rfl (lv_at hl 4 rfl) ?_
    refine q_goL (q_rV hE lk_X6_191 (c_X6_partOrNone l D cI cJ cZ o tp nw th rf rt im ru (if svB cut nd ki bi nq = true then becA (svN cut nd ki bi pa la p1 nq) (svD cut nd ki bi pa la p1 nq) else ra) (if svB cut nd ki bi nq = true then becB (svN cut nd ki bi pa la p1 nq) (svD cut nd ki bi pa la p1 nq) else rb) (svB cut nd ki bi nq) p2 H.size) hst [0, 1, 11] rfl rfl rfl rfl rfl hl.1 ⟨(Nat.le_of_ble_eq_true rfl), (Nat.le_of_ble_eq_true rfl)⟩ (rest := []) rfl (Nat.le_of_ble_eq_true rfl) dX6_serving_83 ⟨(Nat.le_of_ble_eq_true rfl), (Nat.le_of_ble_eq_true rfl)⟩) hE hst [0, 1, 11] rfl (fun _ => rfl) (fun (_ : Unit) => [(o, .inr (6, [.ref tp, .ref nw, .ref th, .int im, .ref rf, .ref rt])), (rf, .inl (cI, 7, .inl (if (svB cut nd ki bi nq) = true then ru else bmp ru (-3)))), (nw, .inr (1, [.ref j1, .ref j2, .ref mn, .ref lw, .int cut, .int least, .ref sd, .ref sr])), (mn, .inr (2, [.ref qk, .ref qb, .ref qp, .int (nI nq)])), (qk, .inl (cI, 60, .inl ki)), (qb, .inl (cI, 60, .inl bi)), (qp, .inl (cI, 60, .inl pa)), (lw, .inl (cI, 5, .inl la)), (g, .inr (0, [.int se, .int sh, .int sp, .int de, .int po, .ref gn, .ref gd, .ref gr, .ref gs, .int lo])), (gn, .inl (cI, 366, .inl nd)), (sd, .inr (4, [.long s1_1, .long s2_2, .int s3_3, .int s4_4])), (rt, .inr (3, [.long (if svB cut nd ki bi nq = true then becA (svN cut nd ki bi pa la p1 nq) (svD cut nd ki bi pa la p1 nq) else ra), .long (if svB cut nd ki bi nq = true then becB (svN cut nd ki bi pa la p1 nq) (svD cut nd ki bi pa la p1 nq) else rb)])), (sr, .inr (3, [.long t1_5, .long t2_6]))]) (fun _ => rfl) (fun _ H locs hF hst => ?_)
    exact q_retL hQ hE hr hk hst (s1_1, s2_2, s3_3, s4_4, if svB cut nd ki bi nq = true then becA (svN cut nd ki bi pa la p1 nq) (svD cut nd ki bi pa la p1 nq) else ra, if svB cut nd ki bi nq = true then becB (svN cut nd ki bi pa la p1 nq) (svD cut nd ki bi pa la p1 nq) else rb, t1_5, t2_6) (by rw [if_pos c_51]; exact dif_post _ _ _ _ _ _ _) (trivial) (by rw [if_pos c_51]) dX6_serving_86
  · skip
    refine lv_aload_n hx hb dX6_serving_54 rfl (lv_at hl 1 rfl) ?_
    refine lv_iload hx hb dX6_serving_55 (lv_at hl 0 rfl) ?_
    refine q_goL (q_rV hE lk_X6_119 (c_X6_refuseLong l D cI cJ cZ o tp nw th rf rt im ru (ftf (!isJarB p0) (!isJarB p2) (!decide (0 ≤ p1)) (!decide (p1 ≤ 40))) (ftf_in _ _ _ _) H.size) hst [0, 1] rfl rfl rfl rfl rfl hl.1 ⟨(Nat.le_of_ble_eq_true rfl), (Nat.le_of_ble_eq_true rfl)⟩ (rest := []) rfl (Nat.le_of_ble_eq_true rfl) dX6_serving_57 ⟨(Nat.le_of_ble_eq_true rfl), (Nat.le_of_ble_eq_true rfl)⟩) hE hst [0, 1] rfl (fun _ => rfl) (fun (_ : Unit) => [(o, .inr (6, [.ref tp, .ref nw, .ref th, .int im, .ref rf, .ref rt])), (rf, .inl (cI, 7, .inl (bmp ru (ftf (!isJarB p0) (!isJarB p2) (!decide (0 ≤ p1)) (!decide (p1 ≤ 40)))))), (nw, .inr (1, [.ref j1, .ref j2, .ref mn, .ref lw, .int cut, .int least, .ref sd, .ref sr])), (mn, .inr (2, [.ref qk, .ref qb, .ref qp, .int (nI nq)])), (qk, .inl (cI, 60, .inl ki)), (qb, .inl (cI, 60, .inl bi)), (qp, .inl (cI, 60, .inl pa)), (lw, .inl (cI, 5, .inl la)), (g, .inr (0, [.int se, .int sh, .int sp, .int de, .int po, .ref gn, .ref gd, .ref gr, .ref gs, .int lo])), (gn, .inl (cI, 366, .inl nd)), (sd, .inr (4, [.long s01, .long s02, .int s03, .int s04])), (rt, .inr (3, [.long ra, .long rb])), (sr, .inr (3, [.long sa, .long sb]))]) (fun _ => rfl) (fun _ H locs hF hst => ?_)
    exact q_retL hQ hE hr hk hst (s01, s02, s03, s04, ra, rb, sa, sb) (by rw [if_neg c_51]) (trivial) (by rw [if_neg c_51]) dX6_serving_60
set_option maxHeartbeats 4000000 in
set_option maxRecDepth 100000 in
theorem c_X6_share (l : Launch) (D : va_G) (cI cJ cZ : ClassId) (o : Nat) (tp : Nat) (nw : Nat) (th : Nat) (rf : Nat) (rt : Nat) (im : Int32) (ru : Nat → Int32) (j1 : Nat) (j2 : Nat) (mn : Nat) (lw : Nat) (sd : Nat) (sr : Nat) (cut : Int32) (least : Int32) (qk : Nat) (qb : Nat) (qp : Nat) (nq : Nat) (g : Nat) (gn : Nat) (gd : Nat) (gr : Nat) (gs : Nat) (se : Int32) (sh : Int32) (sp : Int32) (de : Int32) (po : Int32) (lo : Int32) (nd : Nat → Int32) (ki : Nat → Int32) (bi : Nat → Int32) (s01 : Int64) (s02 : Int64) (s03 : Int32) (s04 : Int32) (ra : Int64) (rb : Int64) (p0 : Int32) (p1 : Int32) (hsel : isJarB p0 = true → (if p0 = 0 then j1 else j2) = g) (hn : nq ≤ 60) (hbi : ∀ j, j < nq → vp_in (bi j) 366) : CtL l D cI cJ cZ yX6_share cX6_share 4 (some .long) 4 [.ref o, .int p0, .int p1] [(o, .inr (6, [.ref tp, .ref nw, .ref th, .int im, .ref rf, .ref rt])), (rf, .inl (cI, 7, .inl ru)), (nw, .inr (1, [.ref j1, .ref j2, .ref mn, .ref lw, .int cut, .int least, .ref sd, .ref sr])), (mn, .inr (2, [.ref qk, .ref qb, .ref qp, .int (nI nq)])), (qk, .inl (cI, 60, .inl ki)), (qb, .inl (cI, 60, .inl bi)), (g, .inr (0, [.int se, .int sh, .int sp, .int de, .int po, .ref gn, .ref gd, .ref gr, .ref gs, .int lo])), (gn, .inl (cI, 366, .inl nd)), (sd, .inr (4, [.long s01, .long s02, .int s03, .int s04])), (rt, .inr (3, [.long ra, .long rb]))] (fun (u : Int64 × Int64 × Int32 × Int32 × Int64 × Int64) => if ftf (!isJarB p0) (!isJarB p1) false false = 0 then if dfB (calF cut nd bi) nq = true then (if p1 = 0 then srA cut nd ki bi nq else srB cut nd ki bi nq) else lgR (-3) else lgR (ftf (!isJarB p0) (!isJarB p1) false false)) (fun (u : Int64 × Int64 × Int32 × Int32 × Int64 × Int64) => True) (fun (u : Int64 × Int64 × Int32 × Int32 × Int64 × Int64) => [(o, .inr (6, [.ref tp, .ref nw, .ref th, .int im, .ref rf, .ref rt])), (rf, .inl (cI, 7, .inl (if ftf (!isJarB p0) (!isJarB p1) false false = 0 then (if dfB (calF cut nd bi) nq = true then ru else bmp ru (-3)) else bmp ru (ftf (!isJarB p0) (!isJarB p1) false false)))), (nw, .inr (1, [.ref j1, .ref j2, .ref mn, .ref lw, .int cut, .int least, .ref sd, .ref sr])), (mn, .inr (2, [.ref qk, .ref qb, .ref qp, .int (nI nq)])), (qk, .inl (cI, 60, .inl ki)), (qb, .inl (cI, 60, .inl bi)), (g, .inr (0, [.int se, .int sh, .int sp, .int de, .int po, .ref gn, .ref gd, .ref gr, .ref gs, .int lo])), (gn, .inl (cI, 366, .inl nd)), (sd, .inr (4, [.long u.1, .long u.2.1, .int u.2.2.1, .int u.2.2.2.1])), (rt, .inr (3, [.long u.2.2.2.2.1, .long u.2.2.2.2.2]))]) := by
  refine q_entL (own := RX6) rfl rfl (Nat.le_of_ble_eq_true rfl) ?_
  intro p e s m args below meth c A ls QQ hQ hE hx hb hr hk hin hA hl hst
  have hl : lv_has ls 4 [(0, .ref o), (1, .int p0), (2, .int p1)] := hl
  suffices kJ : ∀ (H : Heap) (locs : List Loc), SS D A s [(o, .inr (6, [.ref tp, .ref nw, .ref th, .int im, .ref rf, .ref rt])), (rf, .inl (cI, 7, .inl ru)), (nw, .inr (1, [.ref j1, .ref j2, .ref mn, .ref lw, .int cut, .int least, .ref sd, .ref sr])), (mn, .inr (2, [.ref qk, .ref qb, .ref qp, .int (nI nq)])), (qk, .inl (cI, 60, .inl ki)), (qb, .inl (cI, 60, .inl bi)), (g, .inr (0, [.int se, .int sh, .int sp, .int de, .int po, .ref gn, .ref gd, .ref gr, .ref gs, .int lo])), (gn, .inl (cI, 366, .inl nd)), (sd, .inr (4, [.long s01, .long s02, .int s03, .int s04])), (rt, .inr (3, [.long ra, .long rb]))] H locs → W p l e (rmN 4 0 0) s m args below meth c H locs 0 0 QQ (F0 m 12 ls [.int (b2i (!isJarB p0))]) by
    refine lv_iload_n hx hb dX6_share_0 rfl (lv_at hl 1 rfl) ?_
    refine q_goI (q_rS hE lk_X6_90 (c_X6_isJar l D cI cJ cZ p0 s.heap.size) hst [] rfl rfl rfl hl.1 ⟨(Nat.le_of_ble_eq_true rfl), (Nat.le_of_ble_eq_true rfl)⟩ (rest := []) rfl (Nat.le_of_ble_eq_true rfl) dX6_share_1 ⟨(Nat.le_of_ble_eq_true rfl), (Nat.le_of_ble_eq_true rfl)⟩) hE hst [] rfl (fun _ => rfl) (fun (_ : Unit) => [(o, .inr (6, [.ref tp, .ref nw, .ref th, .int im, .ref rf, .ref rt])), (rf, .inl (cI, 7, .inl ru)), (nw, .inr (1, [.ref j1, .ref j2, .ref mn, .ref lw, .int cut, .int least, .ref sd, .ref sr])), (mn, .inr (2, [.ref qk, .ref qb, .ref qp, .int (nI nq)])), (qk, .inl (cI, 60, .inl ki)), (qb, .inl (cI, 60, .inl bi)), (g, .inr (0, [.int se, .int sh, .int sp, .int de, .int po, .ref gn, .ref gd, .ref gr, .ref gs, .int lo])), (gn, .inl (cI, 366, .inl nd)), (sd, .inr (4, [.long s01, .long s02, .int s03, .int s04])), (rt, .inr (3, [.long ra, .long rb]))]) (fun _ => rfl) (fun _ H locs hF hst => ?_)
    refine lv_if_ne (tgt := 11) hx hb dX6_share_4 (by decide) (fun c_4 => ?_) (fun c_4 => ?_)
    · skip
      have c_4 := b2i_t c_4
      refine lv_iconst (v := 0) hx hb dX6_share_11 (by decide) ?_
      have kJ := kJ _ _ hst
      rw [show (b2i (!isJarB p0)) = 0 from (by first | (rw [c_4]; done) | (rw [c_4]; rfl))] at kJ
      exact kJ
    · skip
      have c_4 := b2i_f c_4
      refine lv_iconst (v := 1) hx hb dX6_share_7 (by decide) ?_
      refine lv_goto (tgt := 12) hx hb dX6_share_8 (by decide) ?_
      have kJ := kJ _ _ hst
      rw [show (b2i (!isJarB p0)) = 1 from (by first | (rw [c_4]; done) | (rw [c_4]; rfl))] at kJ
      exact kJ
  intro H locs hst
  suffices kJ : ∀ (H : Heap) (locs : List Loc), SS D A s [(o, .inr (6, [.ref tp, .ref nw, .ref th, .int im, .ref rf, .ref rt])), (rf, .inl (cI, 7, .inl ru)), (nw, .inr (1, [.ref j1, .ref j2, .ref mn, .ref lw, .int cut, .int least, .ref sd, .ref sr])), (mn, .inr (2, [.ref qk, .ref qb, .ref qp, .int (nI nq)])), (qk, .inl (cI, 60, .inl ki)), (qb, .inl (cI, 60, .inl bi)), (g, .inr (0, [.int se, .int sh, .int sp, .int de, .int po, .ref gn, .ref gd, .ref gr, .ref gs, .int lo])), (gn, .inl (cI, 366, .inl nd)), (sd, .inr (4, [.long s01, .long s02, .int s03, .int s04])), (rt, .inr (3, [.long ra, .long rb]))] H locs → W p l e (rmN 4 0 0) s m args below meth c H locs 0 0 QQ (F0 m 24 ls [.int (b2i (!isJarB p1)), .int (b2i (!isJarB p0))]) by
    refine lv_iload_n hx hb dX6_share_12 rfl (lv_at hl 2 rfl) ?_
    refine q_goI (q_rS hE lk_X6_116 (c_X6_isPart l D cI cJ cZ p1 H.size) hst [] rfl rfl rfl hl.1 ⟨(Nat.le_of_ble_eq_true rfl), (Nat.le_of_ble_eq_true rfl)⟩ (rest := [.int (b2i (!isJarB p0))]) rfl (Nat.le_of_ble_eq_true rfl) dX6_share_13 ⟨(Nat.le_of_ble_eq_true rfl), (Nat.le_of_ble_eq_true rfl)⟩) hE hst [] rfl (fun _ => rfl) (fun (_ : Unit) => [(o, .inr (6, [.ref tp, .ref nw, .ref th, .int im, .ref rf, .ref rt])), (rf, .inl (cI, 7, .inl ru)), (nw, .inr (1, [.ref j1, .ref j2, .ref mn, .ref lw, .int cut, .int least, .ref sd, .ref sr])), (mn, .inr (2, [.ref qk, .ref qb, .ref qp, .int (nI nq)])), (qk, .inl (cI, 60, .inl ki)), (qb, .inl (cI, 60, .inl bi)), (g, .inr (0, [.int se, .int sh, .int sp, .int de, .int po, .ref gn, .ref gd, .ref gr, .ref gs, .int lo])), (gn, .inl (cI, 366, .inl nd)), (sd, .inr (4, [.long s01, .long s02, .int s03, .int s04])), (rt, .inr (3, [.long ra, .long rb]))]) (fun _ => rfl) (fun _ H locs hF hst => ?_)
    refine lv_if_ne (tgt := 23) hx hb dX6_share_16 (by decide) (fun c_16 => ?_) (fun c_16 => ?_)
    · skip
      have c_16 := b2i_t c_16
      refine lv_iconst (v := 0) hx hb dX6_share_23 (by decide) ?_
      have kJ := kJ _ _ hst
      rw [show (b2i (!isJarB p1)) = 0 from (by first | (rw [c_16]; done) | (rw [c_16]; rfl))] at kJ
      exact kJ
    · skip
      have c_16 := b2i_f c_16
      refine lv_iconst (v := 1) hx hb dX6_share_19 (by decide) ?_
      refine lv_goto (tgt := 24) hx hb dX6_share_20 (by decide) ?_
      have kJ := kJ _ _ hst
      rw [show (b2i (!isJarB p1)) = 1 from (by first | (rw [c_16]; done) | (rw [c_16]; rfl))] at kJ
      exact kJ
  intro H locs hst
  refine lv_iconst (v := 0) hx hb dX6_share_24 (by decide) ?_
  refine lv_iconst (v := 0) hx hb dX6_share_25 (by decide) ?_
  refine q_goI (q_rS hE lk_X6_45 (c_X6_firstThatFits l D cI cJ cZ (!isJarB p0) (!isJarB p1) false false H.size) hst [] rfl rfl rfl hl.1 ⟨(Nat.le_of_ble_eq_true rfl), (Nat.le_of_ble_eq_true rfl)⟩ (rest := []) rfl (Nat.le_of_ble_eq_true rfl) dX6_share_26 ⟨(Nat.le_of_ble_eq_true rfl), (Nat.le_of_ble_eq_true rfl)⟩) hE hst [] rfl (fun _ => rfl) (fun (_ : Unit) => [(o, .inr (6, [.ref tp, .ref nw, .ref th, .int im, .ref rf, .ref rt])), (rf, .inl (cI, 7, .inl ru)), (nw, .inr (1, [.ref j1, .ref j2, .ref mn, .ref lw, .int cut, .int least, .ref sd, .ref sr])), (mn, .inr (2, [.ref qk, .ref qb, .ref qp, .int (nI nq)])), (qk, .inl (cI, 60, .inl ki)), (qb, .inl (cI, 60, .inl bi)), (g, .inr (0, [.int se, .int sh, .int sp, .int de, .int po, .ref gn, .ref gd, .ref gr, .ref gs, .int lo])), (gn, .inl (cI, 366, .inl nd)), (sd, .inr (4, [.long s01, .long s02, .int s03, .int s04])), (rt, .inr (3, [.long ra, .long rb]))]) (fun _ => rfl) (fun _ H locs hF hst => ?_)
  refine lv_istore_n (lv' := [(3, .int (ftf (!isJarB p0) (!isJarB p1) false false)), (0, .ref o), (1, .int p0), (2, .int p1)]) hx hb dX6_share_29 rfl hl (by decide) rfl (fun ls hl => ?_)
  refine lv_iload_n hx hb dX6_share_30 rfl (lv_at hl 0 rfl) ?_
  refine lv_if_eq (tgt := 40) hx hb dX6_share_31 (by decide) (fun c_31 => ?_) (fun c_31 => ?_)
  · skip
    obtain ⟨f1, f2, f3, f4⟩ := ftf_1 c_31
    have hjr := not_f f1
    refine lv_aload_n hx hb dX6_share_40 rfl (lv_at hl 1 rfl) ?_
    refine lv_aload_n hx hb dX6_share_41 rfl (lv_at hl 1 rfl) ?_
    refine gf_X6_19 hE hst 0 rfl rfl dX6_share_42 ?_
    refine lv_aload_n hx hb dX6_share_45 rfl (lv_at hl 1 rfl) ?_
    refine gf_X6_19 hE hst 0 rfl rfl dX6_share_46 ?_
    refine lv_iload_n hx hb dX6_share_49 rfl (lv_at hl 2 rfl) ?_
    refine q_goR (q_rNV hE lk_X6_93 (c_X1_jarAt l D cI cJ cZ nw j1 j2 mn lw sd sr cut least p0 H.size) hst [2] rfl rfl rfl rfl rfl hl.1 ⟨(Nat.le_of_ble_eq_true rfl), (Nat.le_of_ble_eq_true rfl)⟩ (rest := [.ref nw, .ref o]) rfl (Nat.le_of_ble_eq_true rfl) dX6_share_50 ⟨(Nat.le_of_ble_eq_true rfl), (Nat.le_of_ble_eq_true rfl)⟩) hE hst [2] rfl (fun _ => rfl) (fun (_ : Unit) => [(o, .inr (6, [.ref tp, .ref nw, .ref th, .int im, .ref rf, .ref rt])), (rf, .inl (cI, 7, .inl ru)), (nw, .inr (1, [.ref j1, .ref j2, .ref mn, .ref lw, .int cut, .int least, .ref sd, .ref sr])), (mn, .inr (2, [.ref qk, .ref qb, .ref qp, .int (nI nq)])), (qk, .inl (cI, 60, .inl ki)), (qb, .inl (cI, 60, .inl bi)), (g, .inr (0, [.int se, .int sh, .int sp, .int de, .int po, .ref gn, .ref gd, .ref gr, .ref gs, .int lo])), (gn, .inl (cI, 366, .inl nd)), (sd, .inr (4, [.long s01, .long s02, .int s03, .int s04])), (rt, .inr (3, [.long ra, .long rb]))]) (fun _ => rfl) (fun _ H locs hF hst => ?_)
    refine q_topR (x' := g) (hsel hjr) ?_
    refine lv_aload_n hx hb dX6_share_53 rfl (lv_at hl 1 rfl) ?_
    refine gf_X6_37 hE hst 0 rfl rfl dX6_share_54 ?_
    refine q_goI (q_rNV hE lk_X6_195 (c_X1_findShare l D cI cJ cZ nw j1 j2 mn lw sd sr cut least qk qb qp nq g gn gd gr gs se sh sp de po lo nd ki bi rt s01 s02 ra rb s03 s04 (by first | assumption | decide | omega) (by first | assumption | decide | omega) H.size) hst [2, 3, 4, 5, 6, 7, 8, 9] rfl rfl rfl rfl rfl hl.1 ⟨(Nat.le_of_ble_eq_true rfl), (Nat.le_of_ble_eq_true rfl)⟩ (rest := [.ref o]) rfl (Nat.le_of_ble_eq_true rfl) dX6_share_57 ⟨(Nat.le_of_ble_eq_true rfl), (Nat.le_of_ble_eq_true rfl)⟩) hE hst [2, 3, 4, 5, 6, 7, 8, 9] rfl (fun _ => rfl) (fun (u : Int64 × Int64 × Int32 × Int32) => [(o, .inr (6, [.ref tp, .ref nw, .ref th, .int im, .ref rf, .ref rt])), (rf, .inl (cI, 7, .inl ru)), (nw, .inr (1, [.ref j1, .ref j2, .ref mn, .ref lw, .int cut, .int least, .ref sd, .ref sr])), (mn, .inr (2, [.ref qk, .ref qb, .ref qp, .int (nI nq)])), (qk, .inl (cI, 60, .inl ki)), (qb, .inl (cI, 60, .inl bi)), (g, .inr (0, [.int se, .int sh, .int sp, .int de, .int po, .ref gn, .ref gd, .ref gr, .ref gs, .int lo])), (gn, .inl (cI, 366, .inl nd)), (sd, .inr (4, [.long u.1, .long u.2.1, .int u.2.2.1, .int u.2.2.2])), (rt, .inr (3, [.long (if dfB (calF cut nd bi) nq = true then becA (dfN (calF cut nd bi) (shL cut nd ki bi) nq) (dfD (calF cut nd bi) nq) else ra), .long (if dfB (calF cut nd bi) nq = true then becB (dfN (calF cut nd bi) (shL cut nd ki bi) nq) (dfD (calF cut nd bi) nq) else rb)]))]) (fun _ => rfl) (fun u H locs hF hst => ?_)
    obtain ⟨s1_1, s2_2, s3_3, s4_4⟩ := u
    have hst : SS D A s [(o, .inr (6, [.ref tp, .ref nw, .ref th, .int im, .ref rf, .ref rt])), (rf, .inl (cI, 7, .inl ru)), (nw, .inr (1, [.ref j1, .ref j2, .ref mn, .ref lw, .int cut, .int least, .ref sd, .ref sr])), (mn, .inr (2, [.ref qk, .ref qb, .ref qp, .int (nI nq)])), (qk, .inl (cI, 60, .inl ki)), (qb, .inl (cI, 60, .inl bi)), (g, .inr (0, [.int se, .int sh, .int sp, .int de, .int po, .ref gn, .ref gd, .ref gr, .ref gs, .int lo])), (gn, .inl (cI, 366, .inl nd)), (sd, .inr (4, [.long s1_1, .long s2_2, .int s3_3, .int s4_4])), (rt, .inr (3, [.long (if dfB (calF cut nd bi) nq = true then becA (dfN (calF cut nd bi) (shL cut nd ki bi) nq) (dfD (calF cut nd bi) nq) else ra), .long (if dfB (calF cut nd bi) nq = true then becB (dfN (calF cut nd bi) (shL cut nd ki bi) nq) (dfD (calF cut nd bi) nq) else rb)]))] H locs := hst
    refine W.eq (g2 := F0 m 60 ls [.int (b2i (dfB (calF cut nd bi) nq)), .ref o]) rfl ?_
    refine lv_iload_n hx hb dX6_share_60 rfl (lv_at hl 3 rfl) ?_
    refine q_goL (q_rV hE lk_X6_191 (c_X6_partOrNone l D cI cJ cZ o tp nw th rf rt im ru (if dfB (calF cut nd bi) nq = true then becA (dfN (calF cut nd bi) (shL cut nd ki bi) nq) (dfD (calF cut nd bi) nq) else ra) (if dfB (calF cut nd bi) nq = true then becB (dfN (calF cut nd bi) (shL cut nd ki bi) nq) (dfD (calF cut nd bi) nq) else rb) (dfB (calF cut nd bi) nq) p1 H.size) hst [0, 1, 9] rfl rfl rfl rfl rfl hl.1 ⟨(Nat.le_of_ble_eq_true rfl), (Nat.le_of_ble_eq_true rfl)⟩ (rest := []) rfl (Nat.le_of_ble_eq_true rfl) dX6_share_61 ⟨(Nat.le_of_ble_eq_true rfl), (Nat.le_of_ble_eq_true rfl)⟩) hE hst [0, 1, 9] rfl (fun _ => rfl) (fun (_ : Unit) => [(o, .inr (6, [.ref tp, .ref nw, .ref th, .int im, .ref rf, .ref rt])), (rf, .inl (cI, 7, .inl (if (dfB (calF cut nd bi) nq) = true then ru else bmp ru (-3)))), (nw, .inr (1, [.ref j1, .ref j2, .ref mn, .ref lw, .int cut, .int least, .ref sd, .ref sr])), (mn, .inr (2, [.ref qk, .ref qb, .ref qp, .int (nI nq)])), (qk, .inl (cI, 60, .inl ki)), (qb, .inl (cI, 60, .inl bi)), (g, .inr (0, [.int se, .int sh, .int sp, .int de, .int po, .ref gn, .ref gd, .ref gr, .ref gs, .int lo])), (gn, .inl (cI, 366, .inl nd)), (sd, .inr (4, [.long s1_1, .long s2_2, .int s3_3, .int s4_4])), (rt, .inr (3, [.long (if dfB (calF cut nd bi) nq = true then becA (dfN (calF cut nd bi) (shL cut nd ki bi) nq) (dfD (calF cut nd bi) nq) else ra), .long (if dfB (calF cut nd bi) nq = true then becB (dfN (calF cut nd bi) (shL cut nd ki bi) nq) (dfD (calF cut nd bi) nq) else rb)]))]) (fun _ => rfl) (fun _ H locs hF hst => ?_)
    exact q_retL hQ hE hr hk hst (s1_1, s2_2, s3_3, s4_4, if dfB (calF cut nd bi) nq = true then becA (dfN (calF cut nd bi) (shL cut nd ki bi) nq) (dfD (calF cut nd bi) nq) else ra, if dfB (calF cut nd bi) nq = true then becB (dfN (calF cut nd bi) (shL cut nd ki bi) nq) (dfD (calF cut nd bi) nq) else rb) (by rw [if_pos c_31]; exact dif_post _ _ _ _ _ _ _) (trivial) (by rw [if_pos c_31]) dX6_share_64
  · skip
    refine lv_aload_n hx hb dX6_share_34 rfl (lv_at hl 1 rfl) ?_
    refine lv_iload_n hx hb dX6_share_35 rfl (lv_at hl 0 rfl) ?_
    refine q_goL (q_rV hE lk_X6_119 (c_X6_refuseLong l D cI cJ cZ o tp nw th rf rt im ru (ftf (!isJarB p0) (!isJarB p1) false false) (ftf_in _ _ _ _) H.size) hst [0, 1] rfl rfl rfl rfl rfl hl.1 ⟨(Nat.le_of_ble_eq_true rfl), (Nat.le_of_ble_eq_true rfl)⟩ (rest := []) rfl (Nat.le_of_ble_eq_true rfl) dX6_share_36 ⟨(Nat.le_of_ble_eq_true rfl), (Nat.le_of_ble_eq_true rfl)⟩) hE hst [0, 1] rfl (fun _ => rfl) (fun (_ : Unit) => [(o, .inr (6, [.ref tp, .ref nw, .ref th, .int im, .ref rf, .ref rt])), (rf, .inl (cI, 7, .inl (bmp ru (ftf (!isJarB p0) (!isJarB p1) false false)))), (nw, .inr (1, [.ref j1, .ref j2, .ref mn, .ref lw, .int cut, .int least, .ref sd, .ref sr])), (mn, .inr (2, [.ref qk, .ref qb, .ref qp, .int (nI nq)])), (qk, .inl (cI, 60, .inl ki)), (qb, .inl (cI, 60, .inl bi)), (g, .inr (0, [.int se, .int sh, .int sp, .int de, .int po, .ref gn, .ref gd, .ref gr, .ref gs, .int lo])), (gn, .inl (cI, 366, .inl nd)), (sd, .inr (4, [.long s01, .long s02, .int s03, .int s04])), (rt, .inr (3, [.long ra, .long rb]))]) (fun _ => rfl) (fun _ H locs hF hst => ?_)
    exact q_retL hQ hE hr hk hst (s01, s02, s03, s04, ra, rb) (by rw [if_neg c_31]) (trivial) (by rw [if_neg c_31]) dX6_share_39
theorem dif_post2 (b : Bool) (p : Int32) (x y : Int64) (z : Int64) : (if b = true then (if p = 0 then x else y) else z) = if b = true then (if p = 0 then x else y) else z := rfl
