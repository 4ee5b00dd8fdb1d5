/-! the reference: truly, faded, group, moved, cuts, count -/
theorem bec_1 {z : Int} (h : z.natAbs ≤ 100000) : becA (lZ z) 1 = lZ z ∧ becB (lZ z) 1 = 1 := by
  have hg : gcdN 100 z.natAbs (1 : Int).natAbs = 1 := by
    rw [show (100 : Nat) = 98 + 1 + 1 from rfl, gcdN, if_neg (by decide), gcdN]
    rw [show z.natAbs % (1 : Int).natAbs = 0 from Nat.mod_one _, if_pos rfl]
    rfl
  have := bec_t (ua := z) (ub := 1) (by omega) (by omega) (by omega) hg (by decide)
  rw [show lZ 1 = 1 from rfl] at this
  rw [this.1, this.2, show lM 1 = lZ 1 from rfl, lZ_div (by omega) (by omega) (by omega) (by omega)]
  exact ⟨by rw [Int.tdiv_one], rfl⟩
theorem tr_1 {la : Nat → Int32} (h : ∀ i, i < 5 → vp_in (la i) 1000) {y : Nat} (hy : y ≤ 40) : becA (trV la (nI y)) 1 = trV la (nI y) ∧ becB (trV la (nI y)) 1 = 1 := by
  obtain ⟨v, hv, ev⟩ := los_v h hy
  obtain ⟨w, hw, ew⟩ := lawv h (i := 4) (by decide)
  have e : trV la (nI y) = lZ (-v - w) := by
    rw [trV, ev, ew, iZ_neg, iZ_sub, iZ_wide (by omega) (by omega)]
  rw [e]
  exact bec_1 (by omega)
theorem tk_0 {k : Int32} {e : Bool} (h : k = 0) : tkB k e = true := by rw [tkB, decide_eq_true h, Bool.true_or]
theorem tk_n {k : Int32} {e : Bool} (h : ¬ k = 0) (h5 : ¬ k = 5) : tkB k e = false := by rw [tkB, decide_eq_false h, decide_eq_false h5]; rfl
theorem tk_5 {k x : Int32} (h : ¬ k = 0) (h5 : k = 5) : tkB k (evB x) = evB x := by rw [tkB, decide_eq_false h, decide_eq_true h5]; rfl
theorem ex_1 {g : Nat → Bool} {k : Nat} (h : exB g k = true) : exB g (k + 1) = true := by rw [exB, h, Bool.true_or]
theorem ex_2 {g : Nat → Bool} {k : Nat} (h : g k = true) : exB g (k + 1) = true := by rw [exB, h, Bool.or_true]
theorem ex_0 {g : Nat → Bool} {k : Nat} (h : exB g k = false) (h2 : g k = false) : exB g (k + 1) = false := by rw [exB, h, h2]; rfl
theorem fad_0 {f : Nat → Bool} (h : ∀ y, f y = false) : ∀ i y, fadL f i y = -9
  | 0, _ => rfl
  | i + 1, y => by rw [fadL, if_neg (by rw [h y]; decide), fad_0 h i (y + 1)]
set_option maxHeartbeats 4000000 in
set_option maxRecDepth 100000 in
theorem c_X7_truly (l : Launch) (D : va_G) (cI cJ cZ : ClassId) (x : Nat) (xf : Nat) (xs : Nat) (xk : Nat) (xp : Nat) (xd : Nat) (xo : Nat) (xn : Nat) (xr : Nat) (xy : Nat) (xi : Nat) (xt : Nat) (xq : Nat) (xb : Nat) (xw : Nat) (xl : Nat) (xm : Nat) (xe : Nat) (zl : Int32) (zt : Int32) (za : Int32) (zc : Int32) (ze : Int32) (zh : Int32) (zi : Int32) (zq : Int32) (zu : Int64) (zv : Int64) (nq : Nat) (ru : Nat → Int32) (seF : Nat → Int32) (kF : Nat → Nat) (spF : Nat → Nat) (deF : Nat → Nat) (pF : Nat → Bool) (nm : Nat → Int32) (f : Nat → Int32) (dz : Nat → Int32) (ki : Nat → Int32) (bi : Nat → Int32) (la : Nat → Int32) (j0 : Nat) (p0 : Int32) (p1 : Int32) (p2 : Int32) (hj : j0 < 2) (hsl : isJarB p0 = true → p0 = nI j0) (hjo : joM kF spF deF) (hck : ckM seF kF spF deF pF nm dz) (hn : nq ≤ 60) (hbi : ∀ j, j < nq → vp_in (bi j) 366) (hki : ∀ j, j < nq → vp_in (ki j) 6) (hla : ∀ i, i < 5 → vp_in (la i) 1000) : CtL l D cI cJ cZ yX7_truly cX7_truly 7 (some .long) 6 [.ref x, .int p0, .int p1, .int p2] [(x, .inr (7, [.ref xf, .ref xs, .ref xk, .ref xp, .ref xd, .ref xo, .ref xn, .ref xr, .ref xy, .ref xi, .int zl, .long zu, .long zv, .ref xt, .ref xq, .ref xb, .ref xw, .ref xl, .ref xm, .int zt, .int za, .int (nI nq), .int zc, .int ze, .ref xe, .int zh, .int zi, .int zq])), (xs, .inl (cI, 2, .inl seF)), (xk, .inl (cI, 2, .inl (nR kF))), (xp, .inl (cI, 2, .inl (nR spF))), (xd, .inl (cI, 2, .inl (nR deF))), (xo, .inl (cI, 2, .inl (bR pF))), (xn, .inl (cI, 732, .inl nm)), (xr, .inl (cI, 366, .inl f)), (xi, .inl (cZ, 2, .inl dz)), (xq, .inl (cI, 60, .inl ki)), (xb, .inl (cI, 60, .inl bi)), (xl, .inl (cI, 5, .inl la)), (xf, .inl (cI, 7, .inl ru))] (fun (u : Int32 × (Nat → Int32) × (Nat → Int32) × (Nat → Int32)) => if ftf (!isJarB p0) (!isJarB p2) (!decide (0 ≤ p1)) (!decide (p1 ≤ 40)) = 0 then if exB (fun m => tkB (ki m) (evB (mnum (ndM seF kF spF deF pF j0) bi m))) nq = true then (if p2 = 0 then becA (trV la p1) 1 else becB (trV la p1) 1) else lgR (-3) else lgR (ftf (!isJarB p0) (!isJarB p2) (!decide (0 ≤ p1)) (!decide (p1 ≤ 40)))) (fun (u : Int32 × (Nat → Int32) × (Nat → Int32) × (Nat → Int32)) => ckM seF kF spF deF pF u.2.1 u.2.2.2) (fun (u : Int32 × (Nat → Int32) × (Nat → Int32) × (Nat → Int32)) => [(x, .inr (7, [.ref xf, .ref xs, .ref xk, .ref xp, .ref xd, .ref xo, .ref xn, .ref xr, .ref xy, .ref xi, .int u.1, .long zu, .long zv, .ref xt, .ref xq, .ref xb, .ref xw, .ref xl, .ref xm, .int zt, .int za, .int (nI nq), .int zc, .int ze, .ref xe, .int zh, .int zi, .int zq])), (xs, .inl (cI, 2, .inl seF)), (xk, .inl (cI, 2, .inl (nR kF))), (xp, .inl (cI, 2, .inl (nR spF))), (xd, .inl (cI, 2, .inl (nR deF))), (xo, .inl (cI, 2, .inl (bR pF))), (xn, .inl (cI, 732, .inl u.2.1)), (xr, .inl (cI, 366, .inl u.2.2.1)), (xi, .inl (cZ, 2, .inl u.2.2.2)), (xq, .inl (cI, 60, .inl ki)), (xb, .inl (cI, 60, .inl bi)), (xl, .inl (cI, 5, .inl la)), (xf, .inl (cI, 7, .inl (if ftf (!isJarB p0) (!isJarB p2) (!decide (0 ≤ p1)) (!decide (p1 ≤ 40)) = 0 then (if exB (fun m => tkB (ki m) (evB (mnum (ndM seF kF spF deF pF j0) bi m))) nq = true then ru else bmp ru (-3)) else bmp ru (ftf (!isJarB p0) (!isJarB p2) (!decide (0 ≤ p1)) (!decide (p1 ≤ 40))))))]) := by
  refine q_entL (own := RX7) rfl rfl (Nat.le_of_ble_eq_true rfl) ?_
  intro p e s m args below meth c A ls QQ hQ hE hx hb hr hk hin hA hl hst
  have hl : lv_has ls 7 [(0, .ref x), (1, .int p0), (2, .int p1), (3, .int p2)] := hl
  have loop_25 : ∀ (fu : Nat) (zl2 : Int32) (nm2 : Nat → Int32) (f2 : Nat → Int32) (dz2 : Nat → Int32) (kq : Nat) (wy : Int32) (bo : Bool), (ckM seF kF spF deF pF nm2 dz2) → (kq ≤ nq) → (ftf (!isJarB p0) (!isJarB p2) (!decide (0 ≤ p1)) (!decide (p1 ≤ 40)) = wy) → (wy = 0 → isJarB p0 = true) → (wy = 0 → 0 ≤ p1 ∧ p1 ≤ 40) → (wy = 0 → bo = exB (fun m => tkB (ki m) (evB (mnum (ndM seF kF spF deF pF j0) bi m))) kq) → (nq - kq) < fu → ∀ (H : Heap) (locs : List Loc) (ls : Array Slot), SS D A s [(x, .inr (7, [.ref xf, .ref xs, .ref xk, .ref xp, .ref xd, .ref xo, .ref xn, .ref xr, .ref xy, .ref xi, .int zl2, .long zu, .long zv, .ref xt, .ref xq, .ref xb, .ref xw, .ref xl, .ref xm, .int zt, .int za, .int (nI nq), .int zc, .int ze, .ref xe, .int zh, .int zi, .int zq])), (xs, .inl (cI, 2, .inl seF)), (xk, .inl (cI, 2, .inl (nR kF))), (xp, .inl (cI, 2, .inl (nR spF))), (xd, .inl (cI, 2, .inl (nR deF))), (xo, .inl (cI, 2, .inl (bR pF))), (xn, .inl (cI, 732, .inl nm2)), (xr, .inl (cI, 366, .inl f2)), (xi, .inl (cZ, 2, .inl dz2)), (xq, .inl (cI, 60, .inl ki)), (xb, .inl (cI, 60, .inl bi)), (xl, .inl (cI, 5, .inl la)), (xf, .inl (cI, 7, .inl ru))] H locs → lv_has ls 7 [(6, .int (nI kq)), (5, .int (b2i bo)), (4, .int wy), (0, .ref x), (1, .int p0), (2, .int p1), (3, .int p2)] → W p l e (rmN 6 0 0) s m args below meth c H locs 0 0 QQ (F0 m 25 ls []) := by
    intro fu
    induction fu with
    | zero =>
      intro zl2 nm2 f2 dz2 kq wy bo hck2 h1 hR hwj hwy hbo hn
      exact absurd hn (Nat.not_lt_zero _)
    | succ fu ih =>
      intro zl2 nm2 f2 dz2 kq wy bo hck2 h1 hR hwj hwy hbo hn H locs ls hst hl
      refine lv_iload hx hb dX7_truly_25 (lv_at hl 0 rfl) ?_
      refine lv_aload_n hx hb dX7_truly_27 rfl (lv_at hl 3 rfl) ?_
      refine gf_X7_163 hE hst 0 rfl rfl dX7_truly_28 ?_
      refine lv_icmp_ge (tgt := 95) hx hb dX7_truly_31 (by decide) (fun c_31 => ?_) (fun c_31 => ?_)
      · skip
        have hk1 : nq = kq := Nat.le_antisymm (Nat.le_of_not_lt (fun z => nI_ge z (by omega) c_31)) h1
        subst hk1
        skip
        refine lv_iload hx hb dX7_truly_95 (lv_at hl 2 rfl) ?_
        refine lv_if_ne (tgt := 109) hx hb dX7_truly_97 (by decide) (fun c_97 => ?_) (fun c_97 => ?_)
        · skip
          have hN : ¬ ftf (!isJarB p0) (!isJarB p2) (!decide (0 ≤ p1)) (!decide (p1 ≤ 40)) = 0 := by rw [hR]; exact c_97
          refine lv_iload hx hb dX7_truly_109 (lv_at hl 2 rfl) ?_
          refine lv_if_eq (tgt := 123) hx hb dX7_truly_111 (by decide) (fun c_111 => ?_) (fun c_111 => ?_)
          · skip
            exact absurd c_111 c_97
          · skip
            refine lv_aload_n hx hb dX7_truly_114 rfl (lv_at hl 3 rfl) ?_
            refine lv_iload hx hb dX7_truly_115 (lv_at hl 2 rfl) ?_
            refine q_goL (q_rV hE lk_X7_121 (c_X7_noLong l D cI cJ cZ x xf xs xk xp xd xo xn xr xy xi xt xq xb xw xl xm xe zl2 zt za (nI nq) zc ze zh zi zq zu zv ru wy (by rw [← hR]; exact ftf_in _ _ _ _) H.size) hst [0, 12] rfl rfl rfl rfl rfl hl.1 ⟨(Nat.le_of_ble_eq_true rfl), (Nat.le_of_ble_eq_true rfl)⟩ (rest := []) rfl (Nat.le_of_ble_eq_true rfl) dX7_truly_117 ⟨(Nat.le_of_ble_eq_true rfl), (Nat.le_of_ble_eq_true rfl)⟩) hE hst [0, 12] rfl (fun _ => rfl) (fun (_ : Unit) => [(x, .inr (7, [.ref xf, .ref xs, .ref xk, .ref xp, .ref xd, .ref xo, .ref xn, .ref xr, .ref xy, .ref xi, .int zl2, .long zu, .long zv, .ref xt, .ref xq, .ref xb, .ref xw, .ref xl, .ref xm, .int zt, .int za, .int (nI nq), .int zc, .int ze, .ref xe, .int zh, .int zi, .int zq])), (xs, .inl (cI, 2, .inl seF)), (xk, .inl (cI, 2, .inl (nR kF))), (xp, .inl (cI, 2, .inl (nR spF))), (xd, .inl (cI, 2, .inl (nR deF))), (xo, .inl (cI, 2, .inl (bR pF))), (xn, .inl (cI, 732, .inl nm2)), (xr, .inl (cI, 366, .inl f2)), (xi, .inl (cZ, 2, .inl dz2)), (xq, .inl (cI, 60, .inl ki)), (xb, .inl (cI, 60, .inl bi)), (xl, .inl (cI, 5, .inl la)), (xf, .inl (cI, 7, .inl (bmp ru wy)))]) (fun _ => rfl) (fun _ H locs hF hst => ?_)
            refine lv_goto (tgt := 145) hx hb dX7_truly_120 (by decide) ?_
            exact q_retL hQ hE hr hk hst (zl2, nm2, f2, dz2) (by rw [if_neg hN]; exact congrArg lgR hR.symm) (hck2) (by simp only [hR, if_neg c_97]) dX7_truly_145
        · skip
          rw [c_97] at hR
          have hbo1 := hbo c_97
          subst hbo1
          skip
          refine lv_iload hx hb dX7_truly_100 (lv_at hl 1 rfl) ?_
          refine lv_if_ne (tgt := 109) hx hb dX7_truly_102 (by decide) (fun c_102 => ?_) (fun c_102 => ?_)
          · skip
            have c_102 := b2i_t c_102
            refine lv_iload hx hb dX7_truly_109 (lv_at hl 2 rfl) ?_
            refine lv_if_eq (tgt := 123) hx hb dX7_truly_111 (by decide) (fun c_111 => ?_) (fun c_111 => ?_)
            · skip
              refine lv_iload_n hx hb dX7_truly_123 rfl (lv_at hl 6 rfl) ?_
              refine lv_if_ne (tgt := 144) hx hb dX7_truly_124 (by decide) (fun c_124 => ?_) (fun c_124 => ?_)
              · skip
                obtain ⟨y1, -, hy1, rfl⟩ := in_nI (a := 0) (b := 40) (by decide) (by decide) (hwy c_97).1 (hwy c_97).2
                skip
                refine lv_lconst (v := 1) hx hb dX7_truly_144 (by decide) ?_
                exact q_retL hQ hE hr hk hst (zl2, nm2, f2, dz2) (by rw [if_pos hR, if_pos c_102, if_neg c_124, (tr_1 hla hy1).2]) (hck2) (by simp only [if_pos hR, if_pos c_102]) dX7_truly_145
              · skip
                obtain ⟨y1, -, hy1, rfl⟩ := in_nI (a := 0) (b := 40) (by decide) (by decide) (hwy c_97).1 (hwy c_97).2
                skip
                refine lv_aload_n hx hb dX7_truly_127 rfl (lv_at hl 3 rfl) ?_
                refine lv_iload_n hx hb dX7_truly_128 rfl (lv_at hl 5 rfl) ?_
                refine q_goI (q_rV hE lk_X7_180 (c_X7_lossIn l D cI cJ cZ x xf xs xk xp xd xo xn xr xy xi xt xq xb xw xl xm xe zl2 zt za (nI nq) zc ze zh zi zq zu zv la (nI y1) H.size) hst [0, 11] rfl rfl rfl rfl rfl hl.1 ⟨(Nat.le_of_ble_eq_true rfl), (Nat.le_of_ble_eq_true rfl)⟩ (rest := []) rfl (Nat.le_of_ble_eq_true rfl) dX7_truly_129 ⟨(Nat.le_of_ble_eq_true rfl), (Nat.le_of_ble_eq_true rfl)⟩) hE hst [0, 11] rfl (fun _ => rfl) (fun (_ : Unit) => [(x, .inr (7, [.ref xf, .ref xs, .ref xk, .ref xp, .ref xd, .ref xo, .ref xn, .ref xr, .ref xy, .ref xi, .int zl2, .long zu, .long zv, .ref xt, .ref xq, .ref xb, .ref xw, .ref xl, .ref xm, .int zt, .int za, .int (nI nq), .int zc, .int ze, .ref xe, .int zh, .int zi, .int zq])), (xs, .inl (cI, 2, .inl seF)), (xk, .inl (cI, 2, .inl (nR kF))), (xp, .inl (cI, 2, .inl (nR spF))), (xd, .inl (cI, 2, .inl (nR deF))), (xo, .inl (cI, 2, .inl (bR pF))), (xn, .inl (cI, 732, .inl nm2)), (xr, .inl (cI, 366, .inl f2)), (xi, .inl (cZ, 2, .inl dz2)), (xq, .inl (cI, 60, .inl ki)), (xb, .inl (cI, 60, .inl bi)), (xl, .inl (cI, 5, .inl la)), (xf, .inl (cI, 7, .inl ru))]) (fun _ => rfl) (fun _ H locs hF hst => ?_)
                refine lv_ineg hx hb dX7_truly_132 ?_
                refine lv_aload_n hx hb dX7_truly_133 rfl (lv_at hl 3 rfl) ?_
                refine gf_X7_53 hE hst 0 rfl rfl dX7_truly_134 ?_
                refine lv_iconst (v := 4) hx hb dX7_truly_137 (by decide) ?_
                refine q_aldN hE hst 11 rfl 4 (rfl) (by decide) (by decide) dX7_truly_138 ?_
                refine lv_isub hx hb dX7_truly_139 ?_
                refine lv_i2l (v := ((-(losI la (nI y1))) - (la 4)).toInt64) hx hb dX7_truly_140 rfl ?_
                refine lv_goto (tgt := 145) hx hb dX7_truly_141 (by decide) ?_
                exact q_retL hQ hE hr hk hst (zl2, nm2, f2, dz2) (by rw [if_pos hR, if_pos c_102, if_pos c_124, (tr_1 hla hy1).1]; rfl) (hck2) (by simp only [if_pos hR, if_pos c_102]) dX7_truly_145
            · skip
              exact absurd c_97 c_111
          · skip
            have c_102 := b2i_f c_102
            refine lv_bipush (v := (-3)) hx hb dX7_truly_105 (by decide) ?_
            refine lv_istore (lv' := [(4, .int (-3)), (6, .int (nI nq)), (5, .int (b2i (exB (fun m => tkB (ki m) (evB (mnum (ndM seF kF spF deF pF j0) bi m))) nq))), (0, .ref x), (1, .int p0), (2, .int p1), (3, .int p2)]) hx hb dX7_truly_107 hl (by decide) rfl (fun ls hl => ?_)
            refine lv_iload hx hb dX7_truly_109 (lv_at hl 0 rfl) ?_
            refine lv_if_eq (tgt := 123) hx hb dX7_truly_111 (by decide) (fun c_111 => ?_) (fun c_111 => ?_)
            · skip
              exact absurd c_111 (by decide)
            · skip
              refine lv_aload_n hx hb dX7_truly_114 rfl (lv_at hl 3 rfl) ?_
              refine lv_iload hx hb dX7_truly_115 (lv_at hl 0 rfl) ?_
              refine q_goL (q_rV hE lk_X7_121 (c_X7_noLong l D cI cJ cZ x xf xs xk xp xd xo xn xr xy xi xt xq xb xw xl xm xe zl2 zt za (nI nq) zc ze zh zi zq zu zv ru (-3) (by rw [vp_in_iff]; decide) H.size) hst [0, 12] rfl rfl rfl rfl rfl hl.1 ⟨(Nat.le_of_ble_eq_true rfl), (Nat.le_of_ble_eq_true rfl)⟩ (rest := []) rfl (Nat.le_of_ble_eq_true rfl) dX7_truly_117 ⟨(Nat.le_of_ble_eq_true rfl), (Nat.le_of_ble_eq_true rfl)⟩) hE hst [0, 12] rfl (fun _ => rfl) (fun (_ : Unit) => [(x, .inr (7, [.ref xf, .ref xs, .ref xk, .ref xp, .ref xd, .ref xo, .ref xn, .ref xr, .ref xy, .ref xi, .int zl2, .long zu, .long zv, .ref xt, .ref xq, .ref xb, .ref xw, .ref xl, .ref xm, .int zt, .int za, .int (nI nq), .int zc, .int ze, .ref xe, .int zh, .int zi, .int zq])), (xs, .inl (cI, 2, .inl seF)), (xk, .inl (cI, 2, .inl (nR kF))), (xp, .inl (cI, 2, .inl (nR spF))), (xd, .inl (cI, 2, .inl (nR deF))), (xo, .inl (cI, 2, .inl (bR pF))), (xn, .inl (cI, 732, .inl nm2)), (xr, .inl (cI, 366, .inl f2)), (xi, .inl (cZ, 2, .inl dz2)), (xq, .inl (cI, 60, .inl ki)), (xb, .inl (cI, 60, .inl bi)), (xl, .inl (cI, 5, .inl la)), (xf, .inl (cI, 7, .inl (bmp ru (-3))))]) (fun _ => rfl) (fun _ H locs hF hst => ?_)
              refine lv_goto (tgt := 145) hx hb dX7_truly_120 (by decide) ?_
              exact q_retL hQ hE hr hk hst (zl2, nm2, f2, dz2) (by rw [if_pos hR, if_neg (show ¬ exB (fun m => tkB (ki m) (evB (mnum (ndM seF kF spF deF pF j0) bi m))) nq = true by rw [c_102]; decide)]) (hck2) (by simp only [if_pos hR, if_neg (show ¬ exB (fun m => tkB (ki m) (evB (mnum (ndM seF kF spF deF pF j0) bi m))) nq = true by rw [c_102]; decide)]) dX7_truly_145
      · skip
        have hk1 : kq < nq := Nat.lt_of_not_le (fun z => c_31 (nI_le z (by omega)))
        refine lv_iload hx hb dX7_truly_34 (lv_at hl 2 rfl) ?_
        refine lv_if_ne (tgt := 95) hx hb dX7_truly_36 (by decide) (fun c_36 => ?_) (fun c_36 => ?_)
        · skip
          refine lv_iload hx hb dX7_truly_95 (lv_at hl 2 rfl) ?_
          refine lv_if_ne (tgt := 109) hx hb dX7_truly_97 (by decide) (fun c_97 => ?_) (fun c_97 => ?_)
          · skip
            have hN : ¬ ftf (!isJarB p0) (!isJarB p2) (!decide (0 ≤ p1)) (!decide (p1 ≤ 40)) = 0 := by rw [hR]; exact c_97
            refine lv_iload hx hb dX7_truly_109 (lv_at hl 2 rfl) ?_
            refine lv_if_eq (tgt := 123) hx hb dX7_truly_111 (by decide) (fun c_111 => ?_) (fun c_111 => ?_)
            · skip
              exact absurd c_111 c_36
            · skip
              refine lv_aload_n hx hb dX7_truly_114 rfl (lv_at hl 3 rfl) ?_
              refine lv_iload hx hb dX7_truly_115 (lv_at hl 2 rfl) ?_
              refine q_goL (q_rV hE lk_X7_121 (c_X7_noLong l D cI cJ cZ x xf xs xk xp xd xo xn xr xy xi xt xq xb xw xl xm xe zl2 zt za (nI nq) zc ze zh zi zq zu zv ru wy (by rw [← hR]; exact ftf_in _ _ _ _) H.size) hst [0, 12] rfl rfl rfl rfl rfl hl.1 ⟨(Nat.le_of_ble_eq_true rfl), (Nat.le_of_ble_eq_true rfl)⟩ (rest := []) rfl (Nat.le_of_ble_eq_true rfl) dX7_truly_117 ⟨(Nat.le_of_ble_eq_true rfl), (Nat.le_of_ble_eq_true rfl)⟩) hE hst [0, 12] rfl (fun _ => rfl) (fun (_ : Unit) => [(x, .inr (7, [.ref xf, .ref xs, .ref xk, .ref xp, .ref xd, .ref xo, .ref xn, .ref xr, .ref xy, .ref xi, .int zl2, .long zu, .long zv, .ref xt, .ref xq, .ref xb, .ref xw, .ref xl, .ref xm, .int zt, .int za, .int (nI nq), .int zc, .int ze, .ref xe, .int zh, .int zi, .int zq])), (xs, .inl (cI, 2, .inl seF)), (xk, .inl (cI, 2, .inl (nR kF))), (xp, .inl (cI, 2, .inl (nR spF))), (xd, .inl (cI, 2, .inl (nR deF))), (xo, .inl (cI, 2, .inl (bR pF))), (xn, .inl (cI, 732, .inl nm2)), (xr, .inl (cI, 366, .inl f2)), (xi, .inl (cZ, 2, .inl dz2)), (xq, .inl (cI, 60, .inl ki)), (xb, .inl (cI, 60, .inl bi)), (xl, .inl (cI, 5, .inl la)), (xf, .inl (cI, 7, .inl (bmp ru wy)))]) (fun _ => rfl) (fun _ H locs hF hst => ?_)
              refine lv_goto (tgt := 145) hx hb dX7_truly_120 (by decide) ?_
              exact q_retL hQ hE hr hk hst (zl2, nm2, f2, dz2) (by rw [if_neg hN]; exact congrArg lgR hR.symm) (hck2) (by simp only [hR, if_neg c_97]) dX7_truly_145
          · skip
            exact absurd c_97 c_36
        · skip
          have hbo1 := hbo c_36
          subst hbo1
          skip
          obtain ⟨bd, hbd, ebd⟩ := vp_in_of (hbi kq hk1) (by decide)
          obtain rfl := hsl (hwj c_36)
          skip
          refine lv_iload hx hb dX7_truly_39 (lv_at hl 1 rfl) ?_
          refine lv_if_ne (tgt := 82) hx hb dX7_truly_41 (by decide) (fun c_41 => ?_) (fun c_41 => ?_)
          · skip
            have c_41 := b2i_t c_41
            refine lv_iconst (v := 1) hx hb dX7_truly_82 (by decide) ?_
            refine lv_goto (tgt := 87) hx hb dX7_truly_83 (by decide) ?_
            refine lv_istore (lv' := [(5, .int 1), (6, .int (nI kq)), (4, .int wy), (0, .ref x), (1, .int (nI j0)), (2, .int p1), (3, .int p2)]) hx hb dX7_truly_87 hl (by decide) rfl (fun ls hl => ?_)
            have hl : lv_has ls 7 [(5, .int (b2i (exB (fun m => tkB (ki m) (evB (mnum (ndM seF kF spF deF pF j0) bi m))) (kq + 1)))), (6, .int (nI kq)), (4, .int wy), (0, .ref x), (1, .int (nI j0)), (2, .int p1), (3, .int p2)] := by rw [show exB (fun m => tkB (ki m) (evB (mnum (ndM seF kF spF deF pF j0) bi m))) (kq + 1) = true from ex_1 c_41]; exact hl
            refine lv_iinc (v := nI (kq + 1)) (lv' := [(6, .int (nI (kq + 1))), (5, .int (b2i (exB (fun m => tkB (ki m) (evB (mnum (ndM seF kF spF deF pF j0) bi m))) (kq + 1)))), (4, .int wy), (0, .ref x), (1, .int (nI j0)), (2, .int p1), (3, .int p2)]) hx hb dX7_truly_89 hl (k := 1) rfl (nI_next _) (by decide) rfl (fun ls hl => ?_)
            refine lv_goto (tgt := 25) hx hb dX7_truly_92 (by decide) ?_
            exact ih zl2 nm2 f2 dz2 (kq + 1) wy (exB (fun m => tkB (ki m) (evB (mnum (ndM seF kF spF deF pF j0) bi m))) (kq + 1)) (hck2) (by omega) (hR) (hwj) (hwy) (fun _ => rfl) (by omega) _ _ _ (hst) (lv_sub hl [0, 1, 2, 3, 4, 5, 6] rfl)
          · skip
            have c_41 := b2i_f c_41
            refine lv_aload_n hx hb dX7_truly_44 rfl (lv_at hl 3 rfl) ?_
            refine gf_X7_44 hE hst 0 rfl rfl dX7_truly_45 ?_
            refine lv_iload hx hb dX7_truly_48 (lv_at hl 0 rfl) ?_
            refine q_aldN hE hst 9 rfl kq (rfl) (by omega) (by decide) dX7_truly_50 ?_
            refine lv_if_eq (tgt := 82) hx hb dX7_truly_51 (by decide) (fun c_51 => ?_) (fun c_51 => ?_)
            · skip
              refine lv_iconst (v := 1) hx hb dX7_truly_82 (by decide) ?_
              refine lv_goto (tgt := 87) hx hb dX7_truly_83 (by decide) ?_
              refine lv_istore (lv' := [(5, .int 1), (6, .int (nI kq)), (4, .int wy), (0, .ref x), (1, .int (nI j0)), (2, .int p1), (3, .int p2)]) hx hb dX7_truly_87 hl (by decide) rfl (fun ls hl => ?_)
              have hl : lv_has ls 7 [(5, .int (b2i (exB (fun m => tkB (ki m) (evB (mnum (ndM seF kF spF deF pF j0) bi m))) (kq + 1)))), (6, .int (nI kq)), (4, .int wy), (0, .ref x), (1, .int (nI j0)), (2, .int p1), (3, .int p2)] := by rw [show exB (fun m => tkB (ki m) (evB (mnum (ndM seF kF spF deF pF j0) bi m))) (kq + 1) = true from ex_2 (g := fun m => tkB (ki m) (evB (mnum (ndM seF kF spF deF pF j0) bi m))) (tk_0 c_51)]; exact hl
              refine lv_iinc (v := nI (kq + 1)) (lv' := [(6, .int (nI (kq + 1))), (5, .int (b2i (exB (fun m => tkB (ki m) (evB (mnum (ndM seF kF spF deF pF j0) bi m))) (kq + 1)))), (4, .int wy), (0, .ref x), (1, .int (nI j0)), (2, .int p1), (3, .int p2)]) hx hb dX7_truly_89 hl (k := 1) rfl (nI_next _) (by decide) rfl (fun ls hl => ?_)
              refine lv_goto (tgt := 25) hx hb dX7_truly_92 (by decide) ?_
              exact ih zl2 nm2 f2 dz2 (kq + 1) wy (exB (fun m => tkB (ki m) (evB (mnum (ndM seF kF spF deF pF j0) bi m))) (kq + 1)) (hck2) (by omega) (hR) (hwj) (hwy) (fun _ => rfl) (by omega) _ _ _ (hst) (lv_sub hl [0, 1, 2, 3, 4, 5, 6] rfl)
            · skip
              refine lv_aload_n hx hb dX7_truly_54 rfl (lv_at hl 3 rfl) ?_
              refine gf_X7_44 hE hst 0 rfl rfl dX7_truly_55 ?_
              refine lv_iload hx hb dX7_truly_58 (lv_at hl 0 rfl) ?_
              refine q_aldN hE hst 9 rfl kq (rfl) (by omega) (by decide) dX7_truly_60 ?_
              refine lv_iconst (v := 5) hx hb dX7_truly_61 (by decide) ?_
              refine lv_icmp_ne (tgt := 86) hx hb dX7_truly_62 (by decide) (fun c_62 => ?_) (fun c_62 => ?_)
              · skip
                refine lv_iconst (v := 0) hx hb dX7_truly_86 (by decide) ?_
                refine lv_istore (lv' := [(5, .int 0), (6, .int (nI kq)), (4, .int wy), (0, .ref x), (1, .int (nI j0)), (2, .int p1), (3, .int p2)]) hx hb dX7_truly_87 hl (by decide) rfl (fun ls hl => ?_)
                have hl : lv_has ls 7 [(5, .int (b2i (exB (fun m => tkB (ki m) (evB (mnum (ndM seF kF spF deF pF j0) bi m))) (kq + 1)))), (6, .int (nI kq)), (4, .int wy), (0, .ref x), (1, .int (nI j0)), (2, .int p1), (3, .int p2)] := by rw [show exB (fun m => tkB (ki m) (evB (mnum (ndM seF kF spF deF pF j0) bi m))) (kq + 1) = false from ex_0 (g := fun m => tkB (ki m) (evB (mnum (ndM seF kF spF deF pF j0) bi m))) c_41 (tk_n c_51 c_62)]; exact hl
                refine lv_iinc (v := nI (kq + 1)) (lv' := [(6, .int (nI (kq + 1))), (5, .int (b2i (exB (fun m => tkB (ki m) (evB (mnum (ndM seF kF spF deF pF j0) bi m))) (kq + 1)))), (4, .int wy), (0, .ref x), (1, .int (nI j0)), (2, .int p1), (3, .int p2)]) hx hb dX7_truly_89 hl (k := 1) rfl (nI_next _) (by decide) rfl (fun ls hl => ?_)
                refine lv_goto (tgt := 25) hx hb dX7_truly_92 (by decide) ?_
                exact ih zl2 nm2 f2 dz2 (kq + 1) wy (exB (fun m => tkB (ki m) (evB (mnum (ndM seF kF spF deF pF j0) bi m))) (kq + 1)) (hck2) (by omega) (hR) (hwj) (hwy) (fun _ => rfl) (by omega) _ _ _ (hst) (lv_sub hl [0, 1, 2, 3, 4, 5, 6] rfl)
              · skip
                refine lv_aload_n hx hb dX7_truly_65 rfl (lv_at hl 3 rfl) ?_
                refine lv_iload_n hx hb dX7_truly_66 rfl (lv_at hl 4 rfl) ?_
                refine lv_aload_n hx hb dX7_truly_67 rfl (lv_at hl 3 rfl) ?_
                refine gf_X7_47 hE hst 0 rfl rfl dX7_truly_68 ?_
                refine lv_iload hx hb dX7_truly_71 (lv_at hl 0 rfl) ?_
                refine q_aldN hE hst 10 rfl kq (rfl) (by omega) (by decide) dX7_truly_73 ?_
                refine q_top (x' := nI bd) (ebd) ?_
                refine q_goI (q_rV hE lk_X7_100 (c_X7_numberOf l D cI cJ cZ x xf xs xk xp xd xo xn xr xy xi xt xq xb xw xl xm xe zl2 zt za (nI nq) zc ze zh zi zq zu zv seF kF spF deF pF nm2 f2 dz2 j0 bd (hj) (hjo) (hck2) (hbd) H.size) hst [0, 1, 2, 3, 4, 5, 6, 7, 8] rfl rfl rfl rfl rfl hl.1 ⟨(Nat.le_of_ble_eq_true rfl), (Nat.le_of_ble_eq_true rfl)⟩ (rest := []) rfl (Nat.le_of_ble_eq_true rfl) dX7_truly_74 ⟨(Nat.le_of_ble_eq_true rfl), (Nat.le_of_ble_eq_true rfl)⟩) hE hst [0, 1, 2, 3, 4, 5, 6, 7, 8] rfl (fun _ => rfl) (fun (u : Int32 × (Nat → Int32) × (Nat → Int32) × (Nat → Int32)) => [(x, .inr (7, [.ref xf, .ref xs, .ref xk, .ref xp, .ref xd, .ref xo, .ref xn, .ref xr, .ref xy, .ref xi, .int u.1, .long zu, .long zv, .ref xt, .ref xq, .ref xb, .ref xw, .ref xl, .ref xm, .int zt, .int za, .int (nI nq), .int zc, .int ze, .ref xe, .int zh, .int zi, .int zq])), (xs, .inl (cI, 2, .inl seF)), (xk, .inl (cI, 2, .inl (nR kF))), (xp, .inl (cI, 2, .inl (nR spF))), (xd, .inl (cI, 2, .inl (nR deF))), (xo, .inl (cI, 2, .inl (bR pF))), (xn, .inl (cI, 732, .inl u.2.1)), (xr, .inl (cI, 366, .inl u.2.2.1)), (xi, .inl (cZ, 2, .inl u.2.2.2)), (xq, .inl (cI, 60, .inl ki)), (xb, .inl (cI, 60, .inl bi)), (xl, .inl (cI, 5, .inl la)), (xf, .inl (cI, 7, .inl ru))]) (fun _ => rfl) (fun u H locs hF hst => ?_)
                obtain ⟨zl1_1, nm1_2, f1_3, dz1_4⟩ := u
                have hst : SS D A s [(x, .inr (7, [.ref xf, .ref xs, .ref xk, .ref xp, .ref xd, .ref xo, .ref xn, .ref xr, .ref xy, .ref xi, .int zl1_1, .long zu, .long zv, .ref xt, .ref xq, .ref xb, .ref xw, .ref xl, .ref xm, .int zt, .int za, .int (nI nq), .int zc, .int ze, .ref xe, .int zh, .int zi, .int zq])), (xs, .inl (cI, 2, .inl seF)), (xk, .inl (cI, 2, .inl (nR kF))), (xp, .inl (cI, 2, .inl (nR spF))), (xd, .inl (cI, 2, .inl (nR deF))), (xo, .inl (cI, 2, .inl (bR pF))), (xn, .inl (cI, 732, .inl nm1_2)), (xr, .inl (cI, 366, .inl f1_3)), (xi, .inl (cZ, 2, .inl dz1_4)), (xq, .inl (cI, 60, .inl ki)), (xb, .inl (cI, 60, .inl bi)), (xl, .inl (cI, 5, .inl la)), (xf, .inl (cI, 7, .inl ru))] H locs := hst
                have hF : (ckM seF kF spF deF pF nm1_2 dz1_4) := hF
                have hF0_74 := hF
                refine W.eq (g2 := F0 m 77 ls [.int (ndM seF kF spF deF pF j0 bd)]) rfl ?_
                refine q_top (x' := mnum (ndM seF kF spF deF pF j0) bi kq) (by rw [mnum, ebd, nI_clamp (by omega)]) ?_
                refine lv_iconst (v := 2) hx hb dX7_truly_77 (by decide) ?_
                refine lv_irem hx hb dX7_truly_78 (by decide) ?_
                refine lv_if_ne (tgt := 86) hx hb dX7_truly_79 (by decide) (fun c_79 => ?_) (fun c_79 => ?_)
                · skip
                  refine lv_iconst (v := 0) hx hb dX7_truly_86 (by decide) ?_
                  refine lv_istore (lv' := [(5, .int 0), (6, .int (nI kq)), (4, .int wy), (0, .ref x), (1, .int (nI j0)), (2, .int p1), (3, .int p2)]) hx hb dX7_truly_87 hl (by decide) rfl (fun ls hl => ?_)
                  have hl : lv_has ls 7 [(5, .int (b2i (exB (fun m => tkB (ki m) (evB (mnum (ndM seF kF spF deF pF j0) bi m))) (kq + 1)))), (6, .int (nI kq)), (4, .int wy), (0, .ref x), (1, .int (nI j0)), (2, .int p1), (3, .int p2)] := by rw [show exB (fun m => tkB (ki m) (evB (mnum (ndM seF kF spF deF pF j0) bi m))) (kq + 1) = false from ex_0 (g := fun m => tkB (ki m) (evB (mnum (ndM seF kF spF deF pF j0) bi m))) c_41 ((tk_5 c_51 c_62).trans (decide_eq_false c_79))]; exact hl
                  refine lv_iinc (v := nI (kq + 1)) (lv' := [(6, .int (nI (kq + 1))), (5, .int (b2i (exB (fun m => tkB (ki m) (evB (mnum (ndM seF kF spF deF pF j0) bi m))) (kq + 1)))), (4, .int wy), (0, .ref x), (1, .int (nI j0)), (2, .int p1), (3, .int p2)]) hx hb dX7_truly_89 hl (k := 1) rfl (nI_next _) (by decide) rfl (fun ls hl => ?_)
                  refine lv_goto (tgt := 25) hx hb dX7_truly_92 (by decide) ?_
                  exact ih zl1_1 nm1_2 f1_3 dz1_4 (kq + 1) wy (exB (fun m => tkB (ki m) (evB (mnum (ndM seF kF spF deF pF j0) bi m))) (kq + 1)) (hF0_74) (by omega) (hR) (hwj) (hwy) (fun _ => rfl) (by omega) _ _ _ (hst) (lv_sub hl [0, 1, 2, 3, 4, 5, 6] rfl)
                · skip
                  refine lv_iconst (v := 1) hx hb dX7_truly_82 (by decide) ?_
                  refine lv_goto (tgt := 87) hx hb dX7_truly_83 (by decide) ?_
                  refine lv_istore (lv' := [(5, .int 1), (6, .int (nI kq)), (4, .int wy), (0, .ref x), (1, .int (nI j0)), (2, .int p1), (3, .int p2)]) hx hb dX7_truly_87 hl (by decide) rfl (fun ls hl => ?_)
                  have hl : lv_has ls 7 [(5, .int (b2i (exB (fun m => tkB (ki m) (evB (mnum (ndM seF kF spF deF pF j0) bi m))) (kq + 1)))), (6, .int (nI kq)), (4, .int wy), (0, .ref x), (1, .int (nI j0)), (2, .int p1), (3, .int p2)] := by rw [show exB (fun m => tkB (ki m) (evB (mnum (ndM seF kF spF deF pF j0) bi m))) (kq + 1) = true from ex_2 (g := fun m => tkB (ki m) (evB (mnum (ndM seF kF spF deF pF j0) bi m))) ((tk_5 c_51 c_62).trans (decide_eq_true c_79))]; exact hl
                  refine lv_iinc (v := nI (kq + 1)) (lv' := [(6, .int (nI (kq + 1))), (5, .int (b2i (exB (fun m => tkB (ki m) (evB (mnum (ndM seF kF spF deF pF j0) bi m))) (kq + 1)))), (4, .int wy), (0, .ref x), (1, .int (nI j0)), (2, .int p1), (3, .int p2)]) hx hb dX7_truly_89 hl (k := 1) rfl (nI_next _) (by decide) rfl (fun ls hl => ?_)
                  refine lv_goto (tgt := 25) hx hb dX7_truly_92 (by decide) ?_
                  exact ih zl1_1 nm1_2 f1_3 dz1_4 (kq + 1) wy (exB (fun m => tkB (ki m) (evB (mnum (ndM seF kF spF deF pF j0) bi m))) (kq + 1)) (hF0_74) (by omega) (hR) (hwj) (hwy) (fun _ => rfl) (by omega) _ _ _ (hst) (lv_sub hl [0, 1, 2, 3, 4, 5, 6] rfl)
  refine lv_aload_n hx hb dX7_truly_0 rfl (lv_at hl 0 rfl) ?_
  refine lv_iload_n hx hb dX7_truly_1 rfl (lv_at hl 1 rfl) ?_
  refine lv_iload_n hx hb dX7_truly_2 rfl (lv_at hl 3 rfl) ?_
  refine q_goI (q_rV hE lk_X7_193 (c_X7_notAsked l D cI cJ cZ x xf xs xk xp xd xo xn xr xy xi xt xq xb xw xl xm xe zl zt za (nI nq) zc ze zh zi zq zu zv p0 p2 s.heap.size) hst [0] rfl rfl rfl rfl rfl hl.1 ⟨(Nat.le_of_ble_eq_true rfl), (Nat.le_of_ble_eq_true rfl)⟩ (rest := []) rfl (Nat.le_of_ble_eq_true rfl) dX7_truly_3 ⟨(Nat.le_of_ble_eq_true rfl), (Nat.le_of_ble_eq_true rfl)⟩) hE hst [0] rfl (fun _ => rfl) (fun (_ : Unit) => [(x, .inr (7, [.ref xf, .ref xs, .ref xk, .ref xp, .ref xd, .ref xo, .ref xn, .ref xr, .ref xy, .ref xi, .int zl, .long zu, .long zv, .ref xt, .ref xq, .ref xb, .ref xw, .ref xl, .ref xm, .int zt, .int za, .int (nI nq), .int zc, .int ze, .ref xe, .int zh, .int zi, .int zq])), (xs, .inl (cI, 2, .inl seF)), (xk, .inl (cI, 2, .inl (nR kF))), (xp, .inl (cI, 2, .inl (nR spF))), (xd, .inl (cI, 2, .inl (nR deF))), (xo, .inl (cI, 2, .inl (bR pF))), (xn, .inl (cI, 732, .inl nm)), (xr, .inl (cI, 366, .inl f)), (xi, .inl (cZ, 2, .inl dz)), (xq, .inl (cI, 60, .inl ki)), (xb, .inl (cI, 60, .inl bi)), (xl, .inl (cI, 5, .inl la)), (xf, .inl (cI, 7, .inl ru))]) (fun _ => rfl) (fun _ H locs hF hst => ?_)
  refine lv_istore (lv' := [(4, .int (ftf (!isJarB p0) (!isJarB p2) false false)), (0, .ref x), (1, .int p0), (2, .int p1), (3, .int p2)]) hx hb dX7_truly_6 hl (by decide) rfl (fun ls hl => ?_)
  refine lv_iload hx hb dX7_truly_8 (lv_at hl 0 rfl) ?_
  refine lv_if_ne (tgt := 19) hx hb dX7_truly_10 (by decide) (fun c_10 => ?_) (fun c_10 => ?_)
  · skip
    have hR : ftf (!isJarB p0) (!isJarB p2) (!decide (0 ≤ p1)) (!decide (p1 ≤ 40)) = ftf (!isJarB p0) (!isJarB p2) false false := ftf_12 c_10
    refine lv_iconst (v := 0) hx hb dX7_truly_19 (by decide) ?_
    refine lv_istore (lv' := [(5, .int 0), (4, .int (ftf (!isJarB p0) (!isJarB p2) false false)), (0, .ref x), (1, .int p0), (2, .int p1), (3, .int p2)]) hx hb dX7_truly_20 hl (by decide) rfl (fun ls hl => ?_)
    refine lv_iconst (v := 0) hx hb dX7_truly_22 (by decide) ?_
    refine lv_istore (lv' := [(6, .int 0), (5, .int 0), (4, .int (ftf (!isJarB p0) (!isJarB p2) false false)), (0, .ref x), (1, .int p0), (2, .int p1), (3, .int p2)]) hx hb dX7_truly_23 hl (by decide) rfl (fun ls hl => ?_)
    exact loop_25 (nq + 1) zl nm f dz 0 (ftf (!isJarB p0) (!isJarB p2) false false) false (hck) (Nat.zero_le _) (hR) (fun z => absurd z c_10) (fun z => absurd z c_10) (fun z => absurd z c_10) (by omega) _ _ _ (hst) (lv_sub hl [0, 1, 2, 3, 4, 5, 6] rfl)
  · skip
    have hR : ftf (!isJarB p0) (!isJarB p2) (!decide (0 ≤ p1)) (!decide (p1 ≤ 40)) = outI p1 0 40 := (ftf_34 c_10).trans (ftf_out _ _ _)
    obtain ⟨hjr, hpr⟩ := ask_0 c_10
    refine lv_iload_n hx hb dX7_truly_13 rfl (lv_at hl 3 rfl) ?_
    refine q_goI (q_rS hE lk_X7_183 (c_X7_notYear l D cI cJ cZ p1 H.size) hst [] rfl rfl rfl hl.1 ⟨(Nat.le_of_ble_eq_true rfl), (Nat.le_of_ble_eq_true rfl)⟩ (rest := []) rfl (Nat.le_of_ble_eq_true rfl) dX7_truly_14 ⟨(Nat.le_of_ble_eq_true rfl), (Nat.le_of_ble_eq_true rfl)⟩) hE hst [] rfl (fun _ => rfl) (fun (_ : Unit) => [(x, .inr (7, [.ref xf, .ref xs, .ref xk, .ref xp, .ref xd, .ref xo, .ref xn, .ref xr, .ref xy, .ref xi, .int zl, .long zu, .long zv, .ref xt, .ref xq, .ref xb, .ref xw, .ref xl, .ref xm, .int zt, .int za, .int (nI nq), .int zc, .int ze, .ref xe, .int zh, .int zi, .int zq])), (xs, .inl (cI, 2, .inl seF)), (xk, .inl (cI, 2, .inl (nR kF))), (xp, .inl (cI, 2, .inl (nR spF))), (xd, .inl (cI, 2, .inl (nR deF))), (xo, .inl (cI, 2, .inl (bR pF))), (xn, .inl (cI, 732, .inl nm)), (xr, .inl (cI, 366, .inl f)), (xi, .inl (cZ, 2, .inl dz)), (xq, .inl (cI, 60, .inl ki)), (xb, .inl (cI, 60, .inl bi)), (xl, .inl (cI, 5, .inl la)), (xf, .inl (cI, 7, .inl ru))]) (fun _ => rfl) (fun _ H locs hF hst => ?_)
    refine lv_istore (lv' := [(4, .int (outI p1 0 40)), (0, .ref x), (1, .int p0), (2, .int p1), (3, .int p2)]) hx hb dX7_truly_17 hl (by decide) rfl (fun ls hl => ?_)
    refine lv_iconst (v := 0) hx hb dX7_truly_19 (by decide) ?_
    refine lv_istore (lv' := [(5, .int 0), (4, .int (outI p1 0 40)), (0, .ref x), (1, .int p0), (2, .int p1), (3, .int p2)]) hx hb dX7_truly_20 hl (by decide) rfl (fun ls hl => ?_)
    refine lv_iconst (v := 0) hx hb dX7_truly_22 (by decide) ?_
    refine lv_istore (lv' := [(6, .int 0), (5, .int 0), (4, .int (outI p1 0 40)), (0, .ref x), (1, .int p0), (2, .int p1), (3, .int p2)]) hx hb dX7_truly_23 hl (by decide) rfl (fun ls hl => ?_)
    exact loop_25 (nq + 1) zl nm f dz 0 (outI p1 0 40) false (hck) (Nat.zero_le _) (hR) (fun _ => hjr) (fun z => out_0 z) (fun _ => rfl) (by omega) _ _ _ (hst) (lv_sub hl [0, 1, 2, 3, 4, 5, 6] rfl)
set_option maxHeartbeats 4000000 in
set_option maxRecDepth 100000 in
theorem c_X7_faded (l : Launch) (D : va_G) (cI cJ cZ : ClassId) (x : Nat) (xf : Nat) (xs : Nat) (xk : Nat) (xp : Nat) (xd : Nat) (xo : Nat) (xn : Nat) (xr : Nat) (xy : Nat) (xi : Nat) (xt : Nat) (xq : Nat) (xb : Nat) (xw : Nat) (xl : Nat) (xm : Nat) (xe : Nat) (zl : Int32) (zt : Int32) (za : Int32) (zc : Int32) (ze : Int32) (zh : Int32) (zi : Int32) (zq : Int32) (zu : Int64) (zv : Int64) (nq : Nat) (ru : Nat → Int32) (seF : Nat → Int32) (kF : Nat → Nat) (spF : Nat → Nat) (deF : Nat → Nat) (pF : Nat → Bool) (nm : Nat → Int32) (f : Nat → Int32) (dz : Nat → Int32) (ki : Nat → Int32) (bi : Nat → Int32) (pa : Nat → Int32) (la : Nat → Int32) (j0 : Nat) (p0 : Int32) (p1 : Int32) (hj : j0 < 2) (hsl : isJarB p0 = true → p0 = nI j0) (hjo : joM kF spF deF) (hck : ckM seF kF spF deF pF nm dz) (hn : nq ≤ 60) (hbi : ∀ j, j < nq → vp_in (bi j) 366) (hki : ∀ j, j < nq → vp_in (ki j) 6) (hpa : ∀ j, j < nq → vp_in (pa j) 10000) (hla : ∀ i, i < 5 → vp_in (la i) 1000) : CtI l D cI cJ cZ yX7_faded cX7_faded 5 (some .int) 7 [.ref x, .int p0, .int p1] [(x, .inr (7, [.ref xf, .ref xs, .ref xk, .ref xp, .ref xd, .ref xo, .ref xn, .ref xr, .ref xy, .ref xi, .int zl, .long zu, .long zv, .ref xt, .ref xq, .ref xb, .ref xw, .ref xl, .ref xm, .int zt, .int za, .int (nI nq), .int zc, .int ze, .ref xe, .int zh, .int zi, .int zq])), (xs, .inl (cI, 2, .inl seF)), (xk, .inl (cI, 2, .inl (nR kF))), (xp, .inl (cI, 2, .inl (nR spF))), (xd, .inl (cI, 2, .inl (nR deF))), (xo, .inl (cI, 2, .inl (bR pF))), (xn, .inl (cI, 732, .inl nm)), (xr, .inl (cI, 366, .inl f)), (xi, .inl (cZ, 2, .inl dz)), (xq, .inl (cI, 60, .inl ki)), (xb, .inl (cI, 60, .inl bi)), (xw, .inl (cI, 60, .inl pa)), (xl, .inl (cI, 5, .inl la)), (xf, .inl (cI, 7, .inl ru))] (fun (u : Int32 × (Nat → Int32) × (Nat → Int32) × (Nat → Int32) × Int64 × Int64) => if ftf (!isJarB p0) false (!decide (0 ≤ p1)) (!decide (p1 ≤ 9999)) = 0 then fadL (fun y => dfB (calF zc (ndM seF kF spF deF pF j0) bi) nq && decide (absL (dsA zc (ndM seF kF spF deF pF j0) ki bi pa la (nI y) nq) ≤ p1.toInt64 * dsB zc (ndM seF kF spF deF pF j0) ki bi pa la (nI y) nq)) 41 0 else ftf (!isJarB p0) false (!decide (0 ≤ p1)) (!decide (p1 ≤ 9999))) (fun (u : Int32 × (Nat → Int32) × (Nat → Int32) × (Nat → Int32) × Int64 × Int64) => ckM seF kF spF deF pF u.2.1 u.2.2.2.1) (fun (u : Int32 × (Nat → Int32) × (Nat → Int32) × (Nat → Int32) × Int64 × Int64) => [(x, .inr (7, [.ref xf, .ref xs, .ref xk, .ref xp, .ref xd, .ref xo, .ref xn, .ref xr, .ref xy, .ref xi, .int u.1, .long u.2.2.2.2.1, .long u.2.2.2.2.2, .ref xt, .ref xq, .ref xb, .ref xw, .ref xl, .ref xm, .int zt, .int za, .int (nI nq), .int zc, .int ze, .ref xe, .int zh, .int zi, .int zq])), (xs, .inl (cI, 2, .inl seF)), (xk, .inl (cI, 2, .inl (nR kF))), (xp, .inl (cI, 2, .inl (nR spF))), (xd, .inl (cI, 2, .inl (nR deF))), (xo, .inl (cI, 2, .inl (bR pF))), (xn, .inl (cI, 732, .inl u.2.1)), (xr, .inl (cI, 366, .inl u.2.2.1)), (xi, .inl (cZ, 2, .inl u.2.2.2.1)), (xq, .inl (cI, 60, .inl ki)), (xb, .inl (cI, 60, .inl bi)), (xw, .inl (cI, 60, .inl pa)), (xl, .inl (cI, 5, .inl la)), (xf, .inl (cI, 7, .inl (if ftf (!isJarB p0) false (!decide (0 ≤ p1)) (!decide (p1 ≤ 9999)) = 0 then ru else bmp ru (ftf (!isJarB p0) false (!decide (0 ≤ p1)) (!decide (p1 ≤ 9999))))))]) := by
  refine q_entI (own := RX7) rfl rfl (Nat.le_of_ble_eq_true rfl) ?_
  intro p e s m args below meth c A ls QQ hQ hE hx hb hr hk hin hA hl hst
  have hl : lv_has ls 5 [(0, .ref x), (1, .int p0), (2, .int p1)] := hl
  have loop_35 : ∀ (fu : Nat) (zl2 : Int32) (nm2 : Nat → Int32) (f2 : Nat → Int32) (dz2 : Nat → Int32) (zu2 : Int64) (zv2 : Int64) (y : Nat), (ckM seF kF spF deF pF nm2 dz2) → (y ≤ 41) → (ftf (!isJarB p0) false (!decide (0 ≤ p1)) (!decide (p1 ≤ 9999)) = 0) → (fadL (fun y => dfB (calF zc (ndM seF kF spF deF pF j0) bi) nq && decide (absL (dsA zc (ndM seF kF spF deF pF j0) ki bi pa la (nI y) nq) ≤ p1.toInt64 * dsB zc (ndM seF kF spF deF pF j0) ki bi pa la (nI y) nq)) 41 0 = fadL (fun y => dfB (calF zc (ndM seF kF spF deF pF j0) bi) nq && decide (absL (dsA zc (ndM seF kF spF deF pF j0) ki bi pa la (nI y) nq) ≤ p1.toInt64 * dsB zc (ndM seF kF spF deF pF j0) ki bi pa la (nI y) nq)) (41 - y) y) → (41 - y) < fu → ∀ (H : Heap) (locs : List Loc) (ls : Array Slot), SS D A s [(x, .inr (7, [.ref xf, .ref xs, .ref xk, .ref xp, .ref xd, .ref xo, .ref xn, .ref xr, .ref xy, .ref xi, .int zl2, .long zu2, .long zv2, .ref xt, .ref xq, .ref xb, .ref xw, .ref xl, .ref xm, .int zt, .int za, .int (nI nq), .int zc, .int ze, .ref xe, .int zh, .int zi, .int zq])), (xs, .inl (cI, 2, .inl seF)), (xk, .inl (cI, 2, .inl (nR kF))), (xp, .inl (cI, 2, .inl (nR spF))), (xd, .inl (cI, 2, .inl (nR deF))), (xo, .inl (cI, 2, .inl (bR pF))), (xn, .inl (cI, 732, .inl nm2)), (xr, .inl (cI, 366, .inl f2)), (xi, .inl (cZ, 2, .inl dz2)), (xq, .inl (cI, 60, .inl ki)), (xb, .inl (cI, 60, .inl bi)), (xw, .inl (cI, 60, .inl pa)), (xl, .inl (cI, 5, .inl la)), (xf, .inl (cI, 7, .inl ru))] H locs → lv_has ls 5 [(4, .int (nI y)), (0, .ref x), (1, .int (nI j0)), (2, .int p1)] → W p l e (rmN 7 0 0) s m args below meth c H locs 0 0 QQ (F0 m 35 ls []) := by
    intro fu
    induction fu with
    | zero =>
      intro zl2 nm2 f2 dz2 zu2 zv2 y hck2 h1 hR h2 hn
      exact absurd hn (Nat.not_lt_zero _)
    | succ fu ih =>
      intro zl2 nm2 f2 dz2 zu2 zv2 y hck2 h1 hR h2 hn H locs ls hst hl
      refine lv_iload hx hb dX7_faded_35 (lv_at hl 0 rfl) ?_
      refine lv_bipush (v := 40) hx hb dX7_faded_37 (by decide) ?_
      refine lv_icmp_gt (tgt := 96) hx hb dX7_faded_39 (by decide) (fun c_39 => ?_) (fun c_39 => ?_)
      · skip
        have hk1 : y = 41 := by have := (nI_ltI (a := 40) (b := y) (by decide) (by omega)).mp c_39; omega
        refine lv_bipush (v := (-9)) hx hb dX7_faded_96 (by decide) ?_
        exact q_retI hQ hE hr hk hst (zl2, nm2, f2, dz2, zu2, zv2) (by rw [if_pos hR, h2, show 41 - y = 0 by omega]; rfl) (hck2) (by simp only [if_pos hR]) dX7_faded_98
      · skip
        have hk1 : y ≤ 40 := by have := Nat.le_of_not_lt (fun z => c_39 (nI_lt (a := 40) (b := y) z (by omega))); omega
        refine lv_aload_n hx hb dX7_faded_42 rfl (lv_at hl 1 rfl) ?_
        refine lv_iload_n hx hb dX7_faded_43 rfl (lv_at hl 2 rfl) ?_
        refine lv_iload hx hb dX7_faded_44 (lv_at hl 0 rfl) ?_
        refine q_goI (q_rV hE lk_X7_196 (c_X7_differs l D cI cJ cZ x xf xs xk xp xd xo xn xr xy xi xt xq xb xw xl xm xe zl2 zt za zc ze zh zi zq zu2 zv2 nq seF kF spF deF pF nm2 f2 dz2 ki bi pa la j0 y (hj) (hjo) (hck2) ((show nq ≤ 60 by assumption)) (hbi) (hki) (hpa) (hla) (hk1) H.size) hst [0, 1, 2, 3, 4, 5, 6, 7, 8, 9, 10, 11, 12] rfl rfl rfl rfl rfl hl.1 ⟨(Nat.le_of_ble_eq_true rfl), (Nat.le_of_ble_eq_true rfl)⟩ (rest := []) rfl (Nat.le_of_ble_eq_true rfl) dX7_faded_46 ⟨(Nat.le_of_ble_eq_true rfl), (Nat.le_of_ble_eq_true rfl)⟩) hE hst [0, 1, 2, 3, 4, 5, 6, 7, 8, 9, 10, 11, 12] rfl (fun _ => rfl) (fun (u : Int32 × (Nat → Int32) × (Nat → Int32) × (Nat → Int32)) => [(x, .inr (7, [.ref xf, .ref xs, .ref xk, .ref xp, .ref xd, .ref xo, .ref xn, .ref xr, .ref xy, .ref xi, .int u.1, .long (if dfB (calF zc (ndM seF kF spF deF pF j0) bi) nq = true then becA (dfN (calF zc (ndM seF kF spF deF pF j0) bi) (wgL zc (ndM seF kF spF deF pF j0) ki bi pa la (nI y)) nq) (dfD (calF zc (ndM seF kF spF deF pF j0) bi) nq) else zu2), .long (if dfB (calF zc (ndM seF kF spF deF pF j0) bi) nq = true then becB (dfN (calF zc (ndM seF kF spF deF pF j0) bi) (wgL zc (ndM seF kF spF deF pF j0) ki bi pa la (nI y)) nq) (dfD (calF zc (ndM seF kF spF deF pF j0) bi) nq) else zv2), .ref xt, .ref xq, .ref xb, .ref xw, .ref xl, .ref xm, .int zt, .int za, .int (nI nq), .int zc, .int ze, .ref xe, .int zh, .int zi, .int zq])), (xs, .inl (cI, 2, .inl seF)), (xk, .inl (cI, 2, .inl (nR kF))), (xp, .inl (cI, 2, .inl (nR spF))), (xd, .inl (cI, 2, .inl (nR deF))), (xo, .inl (cI, 2, .inl (bR pF))), (xn, .inl (cI, 732, .inl u.2.1)), (xr, .inl (cI, 366, .inl u.2.2.1)), (xi, .inl (cZ, 2, .inl u.2.2.2)), (xq, .inl (cI, 60, .inl ki)), (xb, .inl (cI, 60, .inl bi)), (xw, .inl (cI, 60, .inl pa)), (xl, .inl (cI, 5, .inl la)), (xf, .inl (cI, 7, .inl ru))]) (fun _ => rfl) (fun u H locs hF hst => ?_)
        obtain ⟨zl1_1, nm1_2, f1_3, dz1_4⟩ := u
        have hst : SS D A s [(x, .inr (7, [.ref xf, .ref xs, .ref xk, .ref xp, .ref xd, .ref xo, .ref xn, .ref xr, .ref xy, .ref xi, .int zl1_1, .long (if dfB (calF zc (ndM seF kF spF deF pF j0) bi) nq = true then becA (dfN (calF zc (ndM seF kF spF deF pF j0) bi) (wgL zc (ndM seF kF spF deF pF j0) ki bi pa la (nI y)) nq) (dfD (calF zc (ndM seF kF spF deF pF j0) bi) nq) else zu2), .long (if dfB (calF zc (ndM seF kF spF deF pF j0) bi) nq = true then becB (dfN (calF zc (ndM seF kF spF deF pF j0) bi) (wgL zc (ndM seF kF spF deF pF j0) ki bi pa la (nI y)) nq) (dfD (calF zc (ndM seF kF spF deF pF j0) bi) nq) else zv2), .ref xt, .ref xq, .ref xb, .ref xw, .ref xl, .ref xm, .int zt, .int za, .int (nI nq), .int zc, .int ze, .ref xe, .int zh, .int zi, .int zq])), (xs, .inl (cI, 2, .inl seF)), (xk, .inl (cI, 2, .inl (nR kF))), (xp, .inl (cI, 2, .inl (nR spF))), (xd, .inl (cI, 2, .inl (nR deF))), (xo, .inl (cI, 2, .inl (bR pF))), (xn, .inl (cI, 732, .inl nm1_2)), (xr, .inl (cI, 366, .inl f1_3)), (xi, .inl (cZ, 2, .inl dz1_4)), (xq, .inl (cI, 60, .inl ki)), (xb, .inl (cI, 60, .inl bi)), (xw, .inl (cI, 60, .inl pa)), (xl, .inl (cI, 5, .inl la)), (xf, .inl (cI, 7, .inl ru))] H locs := hst
        have hF : (ckM seF kF spF deF pF nm1_2 dz1_4) := hF
        have hF0_46 := hF
        refine W.eq (g2 := F0 m 49 ls [.int (b2i (dfB (calF zc (ndM seF kF spF deF pF j0) bi) nq))]) rfl ?_
        refine lv_if_ne (tgt := 55) hx hb dX7_faded_49 (by decide) (fun c_49 => ?_) (fun c_49 => ?_)
        · skip
          have c_49 := b2i_t c_49
          have hst : SS D A s [(x, .inr (7, [.ref xf, .ref xs, .ref xk, .ref xp, .ref xd, .ref xo, .ref xn, .ref xr, .ref xy, .ref xi, .int zl1_1, .long (dsA zc (ndM seF kF spF deF pF j0) ki bi pa la (nI y) nq), .long (dsB zc (ndM seF kF spF deF pF j0) ki bi pa la (nI y) nq), .ref xt, .ref xq, .ref xb, .ref xw, .ref xl, .ref xm, .int zt, .int za, .int (nI nq), .int zc, .int ze, .ref xe, .int zh, .int zi, .int zq])), (xs, .inl (cI, 2, .inl seF)), (xk, .inl (cI, 2, .inl (nR kF))), (xp, .inl (cI, 2, .inl (nR spF))), (xd, .inl (cI, 2, .inl (nR deF))), (xo, .inl (cI, 2, .inl (bR pF))), (xn, .inl (cI, 732, .inl nm1_2)), (xr, .inl (cI, 366, .inl f1_3)), (xi, .inl (cZ, 2, .inl dz1_4)), (xq, .inl (cI, 60, .inl ki)), (xb, .inl (cI, 60, .inl bi)), (xw, .inl (cI, 60, .inl pa)), (xl, .inl (cI, 5, .inl la)), (xf, .inl (cI, 7, .inl ru))] H locs := by rw [if_pos c_49, if_pos c_49] at hst; exact hst
          refine lv_aload_n hx hb dX7_faded_55 rfl (lv_at hl 1 rfl) ?_
          refine gf_X7_111 hE hst 0 rfl rfl dX7_faded_56 ?_
          refine lv_lconst (v := 0) hx hb dX7_faded_59 (by decide) ?_
          refine W.lcmp hx hb dX7_faded_60 ?_
          refine lv_if_ge (tgt := 72) hx hb dX7_faded_61 (by decide) (fun c_61 => ?_) (fun c_61 => ?_)
          · skip
            have c_61 := lc_ge.mp c_61
            refine lv_aload_n hx hb dX7_faded_72 rfl (lv_at hl 1 rfl) ?_
            refine gf_X7_111 hE hst 0 rfl rfl dX7_faded_73 ?_
            refine q_topL (x' := absL (dsA zc (ndM seF kF spF deF pF j0) ki bi pa la (nI y) nq)) ((absL_t c_61).symm) ?_
            refine lv_iload_n hx hb dX7_faded_76 rfl (lv_at hl 3 rfl) ?_
            refine lv_i2l (v := p1.toInt64) hx hb dX7_faded_77 rfl ?_
            refine lv_aload_n hx hb dX7_faded_78 rfl (lv_at hl 1 rfl) ?_
            refine gf_X7_115 hE hst 0 rfl rfl dX7_faded_79 ?_
            refine lv_lmul hx hb dX7_faded_82 ?_
            refine W.lcmp hx hb dX7_faded_83 ?_
            refine lv_if_gt (tgt := 90) hx hb dX7_faded_84 (by decide) (fun c_84 => ?_) (fun c_84 => ?_)
            · skip
              have c_84 := lc_gt.mp c_84
              refine lv_iinc (v := nI (y + 1)) (lv' := [(4, .int (nI (y + 1))), (0, .ref x), (1, .int (nI j0)), (2, .int p1)]) hx hb dX7_faded_90 hl (k := 0) rfl (nI_next _) (by decide) rfl (fun ls hl => ?_)
              refine lv_goto (tgt := 35) hx hb dX7_faded_93 (by decide) ?_
              exact ih zl1_1 nm1_2 f1_3 dz1_4 (dsA zc (ndM seF kF spF deF pF j0) ki bi pa la (nI y) nq) (dsB zc (ndM seF kF spF deF pF j0) ki bi pa la (nI y) nq) (y + 1) (hF0_46) (by omega) (hR) (by rw [h2, show 41 - y = (41 - (y + 1)) + 1 by omega, fadL, if_neg (by rw [c_49, Bool.true_and, decide_eq_false (Int64.not_le.mpr c_84)]; decide)]) (by omega) _ _ _ (hst) (lv_sub hl [0, 1, 2, 3] rfl)
            · skip
              have c_84 := (not_congr lc_gt).mp c_84
              refine lv_iload hx hb dX7_faded_87 (lv_at hl 0 rfl) ?_
              exact q_retI hQ hE hr hk hst (zl1_1, nm1_2, f1_3, dz1_4, dsA zc (ndM seF kF spF deF pF j0) ki bi pa la (nI y) nq, dsB zc (ndM seF kF spF deF pF j0) ki bi pa la (nI y) nq) (by rw [if_pos hR, h2, show 41 - y = (41 - (y + 1)) + 1 by omega, fadL, if_pos (by rw [c_49, Bool.true_and]; exact decide_eq_true (Int64.not_lt.mp c_84))]) (hF0_46) (by simp only [if_pos hR]) dX7_faded_89
          · skip
            have c_61 := (not_congr lc_ge).mp c_61
            refine lv_aload_n hx hb dX7_faded_64 rfl (lv_at hl 1 rfl) ?_
            refine gf_X7_111 hE hst 0 rfl rfl dX7_faded_65 ?_
            refine lv_lneg hx hb dX7_faded_68 ?_
            refine lv_goto (tgt := 76) hx hb dX7_faded_69 (by decide) ?_
            refine q_topL (x' := absL (dsA zc (ndM seF kF spF deF pF j0) ki bi pa la (nI y) nq)) ((absL_f c_61).symm) ?_
            refine lv_iload_n hx hb dX7_faded_76 rfl (lv_at hl 3 rfl) ?_
            refine lv_i2l (v := p1.toInt64) hx hb dX7_faded_77 rfl ?_
            refine lv_aload_n hx hb dX7_faded_78 rfl (lv_at hl 1 rfl) ?_
            refine gf_X7_115 hE hst 0 rfl rfl dX7_faded_79 ?_
            refine lv_lmul hx hb dX7_faded_82 ?_
            refine W.lcmp hx hb dX7_faded_83 ?_
            refine lv_if_gt (tgt := 90) hx hb dX7_faded_84 (by decide) (fun c_84 => ?_) (fun c_84 => ?_)
            · skip
              have c_84 := lc_gt.mp c_84
              refine lv_iinc (v := nI (y + 1)) (lv' := [(4, .int (nI (y + 1))), (0, .ref x), (1, .int (nI j0)), (2, .int p1)]) hx hb dX7_faded_90 hl (k := 0) rfl (nI_next _) (by decide) rfl (fun ls hl => ?_)
              refine lv_goto (tgt := 35) hx hb dX7_faded_93 (by decide) ?_
              exact ih zl1_1 nm1_2 f1_3 dz1_4 (dsA zc (ndM seF kF spF deF pF j0) ki bi pa la (nI y) nq) (dsB zc (ndM seF kF spF deF pF j0) ki bi pa la (nI y) nq) (y + 1) (hF0_46) (by omega) (hR) (by rw [h2, show 41 - y = (41 - (y + 1)) + 1 by omega, fadL, if_neg (by rw [c_49, Bool.true_and, decide_eq_false (Int64.not_le.mpr c_84)]; decide)]) (by omega) _ _ _ (hst) (lv_sub hl [0, 1, 2, 3] rfl)
            · skip
              have c_84 := (not_congr lc_gt).mp c_84
              refine lv_iload hx hb dX7_faded_87 (lv_at hl 0 rfl) ?_
              exact q_retI hQ hE hr hk hst (zl1_1, nm1_2, f1_3, dz1_4, dsA zc (ndM seF kF spF deF pF j0) ki bi pa la (nI y) nq, dsB zc (ndM seF kF spF deF pF j0) ki bi pa la (nI y) nq) (by rw [if_pos hR, h2, show 41 - y = (41 - (y + 1)) + 1 by omega, fadL, if_pos (by rw [c_49, Bool.true_and]; exact decide_eq_true (Int64.not_lt.mp c_84))]) (hF0_46) (by simp only [if_pos hR]) dX7_faded_89
        · skip
          have c_49 := b2i_f c_49
          refine lv_bipush (v := (-9)) hx hb dX7_faded_52 (by decide) ?_
          exact q_retI hQ hE hr hk hst (zl1_1, nm1_2, f1_3, dz1_4, if dfB (calF zc (ndM seF kF spF deF pF j0) bi) nq = true then becA (dfN (calF zc (ndM seF kF spF deF pF j0) bi) (wgL zc (ndM seF kF spF deF pF j0) ki bi pa la (nI y)) nq) (dfD (calF zc (ndM seF kF spF deF pF j0) bi) nq) else zu2, if dfB (calF zc (ndM seF kF spF deF pF j0) bi) nq = true then becB (dfN (calF zc (ndM seF kF spF deF pF j0) bi) (wgL zc (ndM seF kF spF deF pF j0) ki bi pa la (nI y)) nq) (dfD (calF zc (ndM seF kF spF deF pF j0) bi) nq) else zv2) (by rw [if_pos hR, h2, fad_0 (fun y => by rw [c_49, Bool.false_and])]) (hF0_46) (by simp only [if_pos hR]) dX7_faded_54
  refine lv_iload_n hx hb dX7_faded_0 rfl (lv_at hl 1 rfl) ?_
  refine q_goI (q_rS hE lk_X7_77 (c_X7_isJar l D cI cJ cZ p0 s.heap.size) hst [] rfl rfl rfl hl.1 ⟨(Nat.le_of_ble_eq_true rfl), (Nat.le_of_ble_eq_true rfl)⟩ (rest := []) rfl (Nat.le_of_ble_eq_true rfl) dX7_faded_1 ⟨(Nat.le_of_ble_eq_true rfl), (Nat.le_of_ble_eq_true rfl)⟩) hE hst [] rfl (fun _ => rfl) (fun (_ : Unit) => [(x, .inr (7, [.ref xf, .ref xs, .ref xk, .ref xp, .ref xd, .ref xo, .ref xn, .ref xr, .ref xy, .ref xi, .int zl, .long zu, .long zv, .ref xt, .ref xq, .ref xb, .ref xw, .ref xl, .ref xm, .int zt, .int za, .int (nI nq), .int zc, .int ze, .ref xe, .int zh, .int zi, .int zq])), (xs, .inl (cI, 2, .inl seF)), (xk, .inl (cI, 2, .inl (nR kF))), (xp, .inl (cI, 2, .inl (nR spF))), (xd, .inl (cI, 2, .inl (nR deF))), (xo, .inl (cI, 2, .inl (bR pF))), (xn, .inl (cI, 732, .inl nm)), (xr, .inl (cI, 366, .inl f)), (xi, .inl (cZ, 2, .inl dz)), (xq, .inl (cI, 60, .inl ki)), (xb, .inl (cI, 60, .inl bi)), (xw, .inl (cI, 60, .inl pa)), (xl, .inl (cI, 5, .inl la)), (xf, .inl (cI, 7, .inl ru))]) (fun _ => rfl) (fun _ H locs hF hst => ?_)
  refine lv_if_ne (tgt := 13) hx hb dX7_faded_4 (by decide) (fun c_4 => ?_) (fun c_4 => ?_)
  · skip
    have c_4 := b2i_t c_4
    have hR : ftf (!isJarB p0) false (!decide (0 ≤ p1)) (!decide (p1 ≤ 9999)) = outI p1 0 9999 := (ftf_j c_4 _ _ _).trans (ftf_out _ _ _)
    obtain rfl := hsl c_4
    skip
    refine lv_iload_n hx hb dX7_faded_13 rfl (lv_at hl 2 rfl) ?_
    refine lv_iconst (v := 0) hx hb dX7_faded_14 (by decide) ?_
    refine lv_sipush (v := 9999) hx hb dX7_faded_15 (by decide) ?_
    refine q_goI (q_rS hE lk_X7_104 (c_X7_out l D cI cJ cZ p1 0 9999 H.size) hst [] rfl rfl rfl hl.1 ⟨(Nat.le_of_ble_eq_true rfl), (Nat.le_of_ble_eq_true rfl)⟩ (rest := []) rfl (Nat.le_of_ble_eq_true rfl) dX7_faded_18 ⟨(Nat.le_of_ble_eq_true rfl), (Nat.le_of_ble_eq_true rfl)⟩) hE hst [] rfl (fun _ => rfl) (fun (_ : Unit) => [(x, .inr (7, [.ref xf, .ref xs, .ref xk, .ref xp, .ref xd, .ref xo, .ref xn, .ref xr, .ref xy, .ref xi, .int zl, .long zu, .long zv, .ref xt, .ref xq, .ref xb, .ref xw, .ref xl, .ref xm, .int zt, .int za, .int (nI nq), .int zc, .int ze, .ref xe, .int zh, .int zi, .int zq])), (xs, .inl (cI, 2, .inl seF)), (xk, .inl (cI, 2, .inl (nR kF))), (xp, .inl (cI, 2, .inl (nR spF))), (xd, .inl (cI, 2, .inl (nR deF))), (xo, .inl (cI, 2, .inl (bR pF))), (xn, .inl (cI, 732, .inl nm)), (xr, .inl (cI, 366, .inl f)), (xi, .inl (cZ, 2, .inl dz)), (xq, .inl (cI, 60, .inl ki)), (xb, .inl (cI, 60, .inl bi)), (xw, .inl (cI, 60, .inl pa)), (xl, .inl (cI, 5, .inl la)), (xf, .inl (cI, 7, .inl ru))]) (fun _ => rfl) (fun _ H locs hF hst => ?_)
    refine lv_istore_n (lv' := [(3, .int (outI p1 0 9999)), (0, .ref x), (1, .int (nI j0)), (2, .int p1)]) hx hb dX7_faded_21 rfl hl (by decide) rfl (fun ls hl => ?_)
    refine lv_iload_n hx hb dX7_faded_22 rfl (lv_at hl 0 rfl) ?_
    refine lv_if_eq (tgt := 32) hx hb dX7_faded_23 (by decide) (fun c_23 => ?_) (fun c_23 => ?_)
    · skip
      rw [c_23] at hR
      refine lv_iconst (v := 0) hx hb dX7_faded_32 (by decide) ?_
      refine lv_istore (lv' := [(4, .int 0), (3, .int (outI p1 0 9999)), (0, .ref x), (1, .int (nI j0)), (2, .int p1)]) hx hb dX7_faded_33 hl (by decide) rfl (fun ls hl => ?_)
      exact loop_35 (42) zl nm f dz zu zv 0 (hck) (by decide) (hR) (rfl) (by decide) _ _ _ (hst) (lv_sub hl [0, 2, 3, 4] rfl)
    · skip
      have hN := c_23
      rw [← hR] at hN
      refine lv_aload_n hx hb dX7_faded_26 rfl (lv_at hl 1 rfl) ?_
      refine lv_iload_n hx hb dX7_faded_27 rfl (lv_at hl 0 rfl) ?_
      refine q_goI (q_rV hE lk_X7_81 (c_X7_no l D cI cJ cZ x xf xs xk xp xd xo xn xr xy xi xt xq xb xw xl xm xe zl zt za (nI nq) zc ze zh zi zq zu zv ru (outI p1 0 9999) (out_in _ _ _) H.size) hst [0, 13] rfl rfl rfl rfl rfl hl.1 ⟨(Nat.le_of_ble_eq_true rfl), (Nat.le_of_ble_eq_true rfl)⟩ (rest := []) rfl (Nat.le_of_ble_eq_true rfl) dX7_faded_28 ⟨(Nat.le_of_ble_eq_true rfl), (Nat.le_of_ble_eq_true rfl)⟩) hE hst [0, 13] rfl (fun _ => rfl) (fun (_ : Unit) => [(x, .inr (7, [.ref xf, .ref xs, .ref xk, .ref xp, .ref xd, .ref xo, .ref xn, .ref xr, .ref xy, .ref xi, .int zl, .long zu, .long zv, .ref xt, .ref xq, .ref xb, .ref xw, .ref xl, .ref xm, .int zt, .int za, .int (nI nq), .int zc, .int ze, .ref xe, .int zh, .int zi, .int zq])), (xs, .inl (cI, 2, .inl seF)), (xk, .inl (cI, 2, .inl (nR kF))), (xp, .inl (cI, 2, .inl (nR spF))), (xd, .inl (cI, 2, .inl (nR deF))), (xo, .inl (cI, 2, .inl (bR pF))), (xn, .inl (cI, 732, .inl nm)), (xr, .inl (cI, 366, .inl f)), (xi, .inl (cZ, 2, .inl dz)), (xq, .inl (cI, 60, .inl ki)), (xb, .inl (cI, 60, .inl bi)), (xw, .inl (cI, 60, .inl pa)), (xl, .inl (cI, 5, .inl la)), (xf, .inl (cI, 7, .inl (bmp ru (outI p1 0 9999))))]) (fun _ => rfl) (fun _ H locs hF hst => ?_)
      exact q_retI hQ hE hr hk hst (zl, nm, f, dz, zu, zv) (by rw [if_neg hN]; exact hR.symm) (hck) (by simp only [hR, if_neg c_23]) dX7_faded_31
  · skip
    have c_4 := b2i_f c_4
    refine lv_aload_n hx hb dX7_faded_7 rfl (lv_at hl 0 rfl) ?_
    refine lv_iconst (v := (-1)) hx hb dX7_faded_8 (by decide) ?_
    refine q_goI (q_rV hE lk_X7_81 (c_X7_no l D cI cJ cZ x xf xs xk xp xd xo xn xr xy xi xt xq xb xw xl xm xe zl zt za (nI nq) zc ze zh zi zq zu zv ru (-1) (by rw [vp_in_iff]; decide) H.size) hst [0, 13] rfl rfl rfl rfl rfl hl.1 ⟨(Nat.le_of_ble_eq_true rfl), (Nat.le_of_ble_eq_true rfl)⟩ (rest := []) rfl (Nat.le_of_ble_eq_true rfl) dX7_faded_9 ⟨(Nat.le_of_ble_eq_true rfl), (Nat.le_of_ble_eq_true rfl)⟩) hE hst [0, 13] rfl (fun _ => rfl) (fun (_ : Unit) => [(x, .inr (7, [.ref xf, .ref xs, .ref xk, .ref xp, .ref xd, .ref xo, .ref xn, .ref xr, .ref xy, .ref xi, .int zl, .long zu, .long zv, .ref xt, .ref xq, .ref xb, .ref xw, .ref xl, .ref xm, .int zt, .int za, .int (nI nq), .int zc, .int ze, .ref xe, .int zh, .int zi, .int zq])), (xs, .inl (cI, 2, .inl seF)), (xk, .inl (cI, 2, .inl (nR kF))), (xp, .inl (cI, 2, .inl (nR spF))), (xd, .inl (cI, 2, .inl (nR deF))), (xo, .inl (cI, 2, .inl (bR pF))), (xn, .inl (cI, 732, .inl nm)), (xr, .inl (cI, 366, .inl f)), (xi, .inl (cZ, 2, .inl dz)), (xq, .inl (cI, 60, .inl ki)), (xb, .inl (cI, 60, .inl bi)), (xw, .inl (cI, 60, .inl pa)), (xl, .inl (cI, 5, .inl la)), (xf, .inl (cI, 7, .inl (bmp ru (-1))))]) (fun _ => rfl) (fun _ H locs hF hst => ?_)
    exact q_retI hQ hE hr hk hst (zl, nm, f, dz, zu, zv) (by rw [show ftf (!isJarB p0) false (!decide (0 ≤ p1)) (!decide (p1 ≤ 9999)) = -1 from (by rw [c_4, Bool.not_false]; rfl), if_neg (show ¬ (-1 : Int32) = 0 by decide)]) (hck) (by simp only [show ftf (!isJarB p0) false (!decide (0 ≤ p1)) (!decide (p1 ≤ 9999)) = -1 from (by rw [c_4, Bool.not_false]; rfl), if_neg (show ¬ (-1 : Int32) = 0 by decide)]) dX7_faded_12
set_option maxHeartbeats 4000000 in
set_option maxRecDepth 100000 in
theorem c_X7_moved (l : Launch) (D : va_G) (cI cJ cZ : ClassId) (x : Nat) (xf : Nat) (xs : Nat) (xk : Nat) (xp : Nat) (xd : Nat) (xo : Nat) (xn : Nat) (xr : Nat) (xy : Nat) (xi : Nat) (xt : Nat) (xq : Nat) (xb : Nat) (xw : Nat) (xl : Nat) (xm : Nat) (xe : Nat) (zl : Int32) (zt : Int32) (za : Int32) (zc : Int32) (ze : Int32) (zh : Int32) (zi : Int32) (zq : Int32) (zu : Int64) (zv : Int64) (nq : Nat) (seF : Nat → Int32) (kF : Nat → Nat) (spF : Nat → Nat) (deF : Nat → Nat) (pF : Nat → Bool) (nm : Nat → Int32) (f : Nat → Int32) (dz : Nat → Int32) (bi : Nat → Int32) (hjo : joM kF spF deF) (hck : ckM seF kF spF deF pF nm dz) (hn : nq ≤ 60) (hbi : ∀ j, j < nq → vp_in (bi j) 366) : CtI l D cI cJ cZ yX7_moved cX7_moved 3 (some .int) 4 [.ref x] [(x, .inr (7, [.ref xf, .ref xs, .ref xk, .ref xp, .ref xd, .ref xo, .ref xn, .ref xr, .ref xy, .ref xi, .int zl, .long zu, .long zv, .ref xt, .ref xq, .ref xb, .ref xw, .ref xl, .ref xm, .int zt, .int za, .int (nI nq), .int zc, .int ze, .ref xe, .int zh, .int zi, .int zq])), (xs, .inl (cI, 2, .inl seF)), (xk, .inl (cI, 2, .inl (nR kF))), (xp, .inl (cI, 2, .inl (nR spF))), (xd, .inl (cI, 2, .inl (nR deF))), (xo, .inl (cI, 2, .inl (bR pF))), (xn, .inl (cI, 732, .inl nm)), (xr, .inl (cI, 366, .inl f)), (xi, .inl (cZ, 2, .inl dz)), (xb, .inl (cI, 60, .inl bi))] (fun (u : Int32 × (Nat → Int32) × (Nat → Int32) × (Nat → Int32)) => cntI (fun m => calF zc (ndM seF kF spF deF pF 0) bi m != calF zc (ndM seF kF spF deF pF 1) bi m) nq) (fun (u : Int32 × (Nat → Int32) × (Nat → Int32) × (Nat → Int32)) => ckM seF kF spF deF pF u.2.1 u.2.2.2) (fun (u : Int32 × (Nat → Int32) × (Nat → Int32) × (Nat → Int32)) => [(x, .inr (7, [.ref xf, .ref xs, .ref xk, .ref xp, .ref xd, .ref xo, .ref xn, .ref xr, .ref xy, .ref xi, .int u.1, .long zu, .long zv, .ref xt, .ref xq, .ref xb, .ref xw, .ref xl, .ref xm, .int zt, .int za, .int (nI nq), .int zc, .int ze, .ref xe, .int zh, .int zi, .int zq])), (xs, .inl (cI, 2, .inl seF)), (xk, .inl (cI, 2, .inl (nR kF))), (xp, .inl (cI, 2, .inl (nR spF))), (xd, .inl (cI, 2, .inl (nR deF))), (xo, .inl (cI, 2, .inl (bR pF))), (xn, .inl (cI, 732, .inl u.2.1)), (xr, .inl (cI, 366, .inl u.2.2.1)), (xi, .inl (cZ, 2, .inl u.2.2.2)), (xb, .inl (cI, 60, .inl bi))]) := by
  refine q_entI (own := RX7) rfl rfl (Nat.le_of_ble_eq_true rfl) ?_
  intro p e s m args below meth c A ls QQ hQ hE hx hb hr hk hin hA hl hst
  have hl : lv_has ls 3 [(0, .ref x)] := hl
  have loop_4 : ∀ (fu : Nat) (zl2 : Int32) (nm2 : Nat → Int32) (f2 : Nat → Int32) (dz2 : Nat → Int32) (kq : Nat), (ckM seF kF spF deF pF nm2 dz2) → (kq ≤ nq) → (nq - kq) < fu → ∀ (H : Heap) (locs : List Loc) (ls : Array Slot), SS D A s [(x, .inr (7, [.ref xf, .ref xs, .ref xk, .ref xp, .ref xd, .ref xo, .ref xn, .ref xr, .ref xy, .ref xi, .int zl2, .long zu, .long zv, .ref xt, .ref xq, .ref xb, .ref xw, .ref xl, .ref xm, .int zt, .int za, .int (nI nq), .int zc, .int ze, .ref xe, .int zh, .int zi, .int zq])), (xs, .inl (cI, 2, .inl seF)), (xk, .inl (cI, 2, .inl (nR kF))), (xp, .inl (cI, 2, .inl (nR spF))), (xd, .inl (cI, 2, .inl (nR deF))), (xo, .inl (cI, 2, .inl (bR pF))), (xn, .inl (cI, 732, .inl nm2)), (xr, .inl (cI, 366, .inl f2)), (xi, .inl (cZ, 2, .inl dz2)), (xb, .inl (cI, 60, .inl bi))] H locs → lv_has ls 3 [(2, .int (nI kq)), (1, .int (cntI (fun m => calF zc (ndM seF kF spF deF pF 0) bi m != calF zc (ndM seF kF spF deF pF 1) bi m) kq)), (0, .ref x)] → W p l e (rmN 4 0 0) s m args below meth c H locs 0 0 QQ (F0 m 4 ls []) := by
    intro fu
    induction fu with
    | zero =>
      intro zl2 nm2 f2 dz2 kq hck2 h1 hn
      exact absurd hn (Nat.not_lt_zero _)
    | succ fu ih =>
      intro zl2 nm2 f2 dz2 kq hck2 h1 hn H locs ls hst hl
      refine lv_iload_n hx hb dX7_moved_4 rfl (lv_at hl 0 rfl) ?_
      refine lv_aload_n hx hb dX7_moved_5 rfl (lv_at hl 2 rfl) ?_
      refine gf_X7_163 hE hst 0 rfl rfl dX7_moved_6 ?_
      refine lv_icmp_ge (tgt := 41) hx hb dX7_moved_9 (by decide) (fun c_9 => ?_) (fun c_9 => ?_)
      · skip
        have hk1 : nq = kq := Nat.le_antisymm (Nat.le_of_not_lt (fun z => nI_ge z (by omega) c_9)) h1
        subst hk1
        skip
        refine lv_iload_n hx hb dX7_moved_41 rfl (lv_at hl 1 rfl) ?_
        exact q_retI hQ hE hr hk hst (zl2, nm2, f2, dz2) (rfl) (hck2) (rfl) dX7_moved_42
      · skip
        have hk1 : kq < nq := Nat.lt_of_not_le (fun z => c_9 (nI_le z (by omega)))
        refine lv_iload_n hx hb dX7_moved_12 rfl (lv_at hl 1 rfl) ?_
        refine lv_aload_n hx hb dX7_moved_13 rfl (lv_at hl 2 rfl) ?_
        refine lv_iconst (v := 0) hx hb dX7_moved_14 (by decide) ?_
        refine lv_iload_n hx hb dX7_moved_15 rfl (lv_at hl 0 rfl) ?_
        refine q_goI (q_rV hE lk_X7_173 (c_X7_isCalled l D cI cJ cZ x xf xs xk xp xd xo xn xr xy xi xt xq xb xw xl xm xe zl2 zt za (nI nq) zc ze zh zi zq zu zv seF kF spF deF pF nm2 f2 dz2 bi 0 kq (by decide) (hjo) (hck2) (by omega) (hbi kq hk1) H.size) hst [0, 1, 2, 3, 4, 5, 6, 7, 8, 9] rfl rfl rfl rfl rfl hl.1 ⟨(Nat.le_of_ble_eq_true rfl), (Nat.le_of_ble_eq_true rfl)⟩ (rest := [.int (cntI (fun m => calF zc (ndM seF kF spF deF pF 0) bi m != calF zc (ndM seF kF spF deF pF 1) bi m) kq)]) rfl (Nat.le_of_ble_eq_true rfl) dX7_moved_16 ⟨(Nat.le_of_ble_eq_true rfl), (Nat.le_of_ble_eq_true rfl)⟩) hE hst [0, 1, 2, 3, 4, 5, 6, 7, 8, 9] rfl (fun _ => rfl) (fun (u : Int32 × (Nat → Int32) × (Nat → Int32) × (Nat → Int32)) => [(x, .inr (7, [.ref xf, .ref xs, .ref xk, .ref xp, .ref xd, .ref xo, .ref xn, .ref xr, .ref xy, .ref xi, .int u.1, .long zu, .long zv, .ref xt, .ref xq, .ref xb, .ref xw, .ref xl, .ref xm, .int zt, .int za, .int (nI nq), .int zc, .int ze, .ref xe, .int zh, .int zi, .int zq])), (xs, .inl (cI, 2, .inl seF)), (xk, .inl (cI, 2, .inl (nR kF))), (xp, .inl (cI, 2, .inl (nR spF))), (xd, .inl (cI, 2, .inl (nR deF))), (xo, .inl (cI, 2, .inl (bR pF))), (xn, .inl (cI, 732, .inl u.2.1)), (xr, .inl (cI, 366, .inl u.2.2.1)), (xi, .inl (cZ, 2, .inl u.2.2.2)), (xb, .inl (cI, 60, .inl bi))]) (fun _ => rfl) (fun u H locs hF hst => ?_)
        obtain ⟨zl1_1, nm1_2, f1_3, dz1_4⟩ := u
        have hst : SS D A s [(x, .inr (7, [.ref xf, .ref xs, .ref xk, .ref xp, .ref xd, .ref xo, .ref xn, .ref xr, .ref xy, .ref xi, .int zl1_1, .long zu, .long zv, .ref xt, .ref xq, .ref xb, .ref xw, .ref xl, .ref xm, .int zt, .int za, .int (nI nq), .int zc, .int ze, .ref xe, .int zh, .int zi, .int zq])), (xs, .inl (cI, 2, .inl seF)), (xk, .inl (cI, 2, .inl (nR kF))), (xp, .inl (cI, 2, .inl (nR spF))), (xd, .inl (cI, 2, .inl (nR deF))), (xo, .inl (cI, 2, .inl (bR pF))), (xn, .inl (cI, 732, .inl nm1_2)), (xr, .inl (cI, 366, .inl f1_3)), (xi, .inl (cZ, 2, .inl dz1_4)), (xb, .inl (cI, 60, .inl bi))] H locs := hst
        have hF : (ckM seF kF spF deF pF nm1_2 dz1_4) := hF
        have hF0_16 := hF
        refine W.eq (g2 := F0 m 19 ls [.int (b2i (calF zc (ndM seF kF spF deF pF 0) bi kq)), .int (cntI (fun m => calF zc (ndM seF kF spF deF pF 0) bi m != calF zc (ndM seF kF spF deF pF 1) bi m) kq)]) rfl ?_
        refine lv_aload_n hx hb dX7_moved_19 rfl (lv_at hl 2 rfl) ?_
        refine lv_iconst (v := 1) hx hb dX7_moved_20 (by decide) ?_
        refine lv_iload_n hx hb dX7_moved_21 rfl (lv_at hl 0 rfl) ?_
        refine q_goI (q_rV hE lk_X7_173 (c_X7_isCalled l D cI cJ cZ x xf xs xk xp xd xo xn xr xy xi xt xq xb xw xl xm xe zl1_1 zt za (nI nq) zc ze zh zi zq zu zv seF kF spF deF pF nm1_2 f1_3 dz1_4 bi 1 kq (by decide) (hjo) (hF0_16) (by omega) (hbi kq hk1) H.size) hst [0, 1, 2, 3, 4, 5, 6, 7, 8, 9] rfl rfl rfl rfl rfl hl.1 ⟨(Nat.le_of_ble_eq_true rfl), (Nat.le_of_ble_eq_true rfl)⟩ (rest := [.int (b2i (calF zc (ndM seF kF spF deF pF 0) bi kq)), .int (cntI (fun m => calF zc (ndM seF kF spF deF pF 0) bi m != calF zc (ndM seF kF spF deF pF 1) bi m) kq)]) rfl (Nat.le_of_ble_eq_true rfl) dX7_moved_22 ⟨(Nat.le_of_ble_eq_true rfl), (Nat.le_of_ble_eq_true rfl)⟩) hE hst [0, 1, 2, 3, 4, 5, 6, 7, 8, 9] rfl (fun _ => rfl) (fun (u : Int32 × (Nat → Int32) × (Nat → Int32) × (Nat → Int32)) => [(x, .inr (7, [.ref xf, .ref xs, .ref xk, .ref xp, .ref xd, .ref xo, .ref xn, .ref xr, .ref xy, .ref xi, .int u.1, .long zu, .long zv, .ref xt, .ref xq, .ref xb, .ref xw, .ref xl, .ref xm, .int zt, .int za, .int (nI nq), .int zc, .int ze, .ref xe, .int zh, .int zi, .int zq])), (xs, .inl (cI, 2, .inl seF)), (xk, .inl (cI, 2, .inl (nR kF))), (xp, .inl (cI, 2, .inl (nR spF))), (xd, .inl (cI, 2, .inl (nR deF))), (xo, .inl (cI, 2, .inl (bR pF))), (xn, .inl (cI, 732, .inl u.2.1)), (xr, .inl (cI, 366, .inl u.2.2.1)), (xi, .inl (cZ, 2, .inl u.2.2.2)), (xb, .inl (cI, 60, .inl bi))]) (fun _ => rfl) (fun u H locs hF hst => ?_)
        obtain ⟨zl1_5, nm1_6, f1_7, dz1_8⟩ := u
        have hst : SS D A s [(x, .inr (7, [.ref xf, .ref xs, .ref xk, .ref xp, .ref xd, .ref xo, .ref xn, .ref xr, .ref xy, .ref xi, .int zl1_5, .long zu, .long zv, .ref xt, .ref xq, .ref xb, .ref xw, .ref xl, .ref xm, .int zt, .int za, .int (nI nq), .int zc, .int ze, .ref xe, .int zh, .int zi, .int zq])), (xs, .inl (cI, 2, .inl seF)), (xk, .inl (cI, 2, .inl (nR kF))), (xp, .inl (cI, 2, .inl (nR spF))), (xd, .inl (cI, 2, .inl (nR deF))), (xo, .inl (cI, 2, .inl (bR pF))), (xn, .inl (cI, 732, .inl nm1_6)), (xr, .inl (cI, 366, .inl f1_7)), (xi, .inl (cZ, 2, .inl dz1_8)), (xb, .inl (cI, 60, .inl bi))] H locs := hst
        have hF : (ckM seF kF spF deF pF nm1_6 dz1_8) := hF
        have hF0_22 := hF
        refine W.eq (g2 := F0 m 25 ls [.int (b2i (calF zc (ndM seF kF spF deF pF 1) bi kq)), .int (b2i (calF zc (ndM seF kF spF deF pF 0) bi kq)), .int (cntI (fun m => calF zc (ndM seF kF spF deF pF 0) bi m != calF zc (ndM seF kF spF deF pF 1) bi m) kq)]) rfl ?_
        refine lv_icmp_eq (tgt := 32) hx hb dX7_moved_25 (by decide) (fun c_25 => ?_) (fun c_25 => ?_)
        · skip
          refine lv_iconst (v := 0) hx hb dX7_moved_32 (by decide) ?_
          refine lv_iadd hx hb dX7_moved_33 ?_
          refine q_top (x' := cntI (fun m => calF zc (ndM seF kF spF deF pF 0) bi m != calF zc (ndM seF kF spF deF pF 1) bi m) (kq + 1)) (by rw [cnt_f (f := fun m => calF zc (ndM seF kF spF deF pF 0) bi m != calF zc (ndM seF kF spF deF pF 1) bi m) (mv_f c_25)]; exact Int32.add_zero _) ?_
          refine lv_istore_n (lv' := [(1, .int (cntI (fun m => calF zc (ndM seF kF spF deF pF 0) bi m != calF zc (ndM seF kF spF deF pF 1) bi m) (kq + 1))), (2, .int (nI kq)), (0, .ref x)]) hx hb dX7_moved_34 rfl hl (by decide) rfl (fun ls hl => ?_)
          refine lv_iinc (v := nI (kq + 1)) (lv' := [(2, .int (nI (kq + 1))), (1, .int (cntI (fun m => calF zc (ndM seF kF spF deF pF 0) bi m != calF zc (ndM seF kF spF deF pF 1) bi m) (kq + 1))), (0, .ref x)]) hx hb dX7_moved_35 hl (k := 1) rfl (nI_next _) (by decide) rfl (fun ls hl => ?_)
          refine lv_goto (tgt := 4) hx hb dX7_moved_38 (by decide) ?_
          exact ih zl1_5 nm1_6 f1_7 dz1_8 (kq + 1) (hF0_22) (by omega) (by omega) _ _ _ (hst) (lv_sub hl [0, 1, 2] rfl)
        · skip
          refine lv_iconst (v := 1) hx hb dX7_moved_28 (by decide) ?_
          refine lv_goto (tgt := 33) hx hb dX7_moved_29 (by decide) ?_
          refine lv_iadd hx hb dX7_moved_33 ?_
          refine q_top (x' := cntI (fun m => calF zc (ndM seF kF spF deF pF 0) bi m != calF zc (ndM seF kF spF deF pF 1) bi m) (kq + 1)) (by rw [cnt_t (f := fun m => calF zc (ndM seF kF spF deF pF 0) bi m != calF zc (ndM seF kF spF deF pF 1) bi m) (mv_t c_25)]) ?_
          refine lv_istore_n (lv' := [(1, .int (cntI (fun m => calF zc (ndM seF kF spF deF pF 0) bi m != calF zc (ndM seF kF spF deF pF 1) bi m) (kq + 1))), (2, .int (nI kq)), (0, .ref x)]) hx hb dX7_moved_34 rfl hl (by decide) rfl (fun ls hl => ?_)
          refine lv_iinc (v := nI (kq + 1)) (lv' := [(2, .int (nI (kq + 1))), (1, .int (cntI (fun m => calF zc (ndM seF kF spF deF pF 0) bi m != calF zc (ndM seF kF spF deF pF 1) bi m) (kq + 1))), (0, .ref x)]) hx hb dX7_moved_35 hl (k := 1) rfl (nI_next _) (by decide) rfl (fun ls hl => ?_)
          refine lv_goto (tgt := 4) hx hb dX7_moved_38 (by decide) ?_
          exact ih zl1_5 nm1_6 f1_7 dz1_8 (kq + 1) (hF0_22) (by omega) (by omega) _ _ _ (hst) (lv_sub hl [0, 1, 2] rfl)
  refine lv_iconst (v := 0) hx hb dX7_moved_0 (by decide) ?_
  refine lv_istore_n (lv' := [(1, .int 0), (0, .ref x)]) hx hb dX7_moved_1 rfl hl (by decide) rfl (fun ls hl => ?_)
  refine lv_iconst (v := 0) hx hb dX7_moved_2 (by decide) ?_
  refine lv_istore_n (lv' := [(2, .int 0), (1, .int 0), (0, .ref x)]) hx hb dX7_moved_3 rfl hl (by decide) rfl (fun ls hl => ?_)
  exact loop_4 (nq + 1) zl nm f dz 0 (hck) (Nat.zero_le _) (by omega) _ _ _ (hst) (lv_sub hl [0, 1, 2] rfl)
theorem cnt_in {p : Int32} (h : inB p 11 16 = true) : ¬ p ≤ 10 ∧ ¬ 16 < p ∧ ∃ i, i < 7 ∧ p - 10 = nI i := by
  rw [inB, Bool.and_eq_true] at h
  obtain ⟨k, h1, h2, rfl⟩ := in_nI (a := 11) (b := 16) (by decide) (by decide) (of_decide_eq_true h.1) (of_decide_eq_true h.2)
  refine ⟨fun z => ?_, fun z => ?_, k - 10, by omega, ?_⟩
  · have := (nI_leI (a := k) (b := 10) (by omega) (by decide)).mp z; omega
  · have := (nI_ltI (a := 16) (b := k) (by decide) (by omega)).mp z; omega
  · rw [show (10 : Int32) = nI 10 from rfl, pk_sub (by omega)]
theorem cnt_no {p : Int32} (h : inB p 11 16 = false) (x : Int32) (ru : Nat → Int32) : (if p ≤ 10 then x else if 16 < p then x else atI 7 ru (p - 10)) = x := by
  by_cases h1 : p ≤ 10
  · rw [if_pos h1]
  · rw [if_neg h1]
    by_cases h2 : 16 < p
    · rw [if_pos h2]
    · exfalso
      have e : inB p 11 16 = true := by
        rw [inB, decide_eq_true (Int32.not_lt.mp h2), Bool.and_true, decide_eq_true_iff]
        rw [Int32.le_iff_toInt_le] at h1 ⊢
        have e0 : (10 : Int32).toInt = 10 := by decide
        have e1 : (11 : Int32).toInt = 11 := by decide
        omega
      rw [e] at h; cases h
