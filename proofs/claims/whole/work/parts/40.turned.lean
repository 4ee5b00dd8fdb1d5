/-! turned pairs -/
def flB (sn : Nat → Int64) (u : Nat) : Bool := (sn (u / 64)).toBitVec.toNat.testBit (u % 64)
theorem sh_all : ∀ v, v < 64 → ((nI v).toInt64.toUInt64 &&& Int64.toUInt64 63).toNat % 64 = v := by decide +kernel
theorem bit_all : ∀ v, v < 64 → ((1 : Int64) <<< ((nI v).toInt64 &&& 63)).toBitVec = 1#64 <<< v := by decide +kernel
theorem bit_at {v i : Nat} (hv : v < 64) (hi : i < 64) : ((1 : Int64) <<< ((nI v).toInt64 &&& 63)).toBitVec.toNat.testBit i = decide (i = v) := by
  rw [bit_all v hv, BitVec.testBit_toNat, BitVec.getLsbD_shiftLeft, decide_eq_true hi, Bool.true_and]
  by_cases h : i < v
  · rw [decide_eq_true h, decide_eq_false (show ¬ i = v by omega)]; rfl
  · rw [decide_eq_false h]
    by_cases e : i = v
    · rw [decide_eq_true e, e, Nat.sub_self]; rfl
    · rw [decide_eq_false e, BitVec.getLsbD_one, decide_eq_false (show ¬ i - v = 0 by omega)]
      simp
theorem hi_bit (x : Int64) {i : Nat} (h : 64 ≤ i) : x.toBitVec.toNat.testBit i = false :=
  Nat.testBit_lt_two_pow (Nat.lt_of_lt_of_le x.toBitVec.isLt (Nat.pow_le_pow_right (by decide) h))
theorem saW_n (sn : Nat → Int64) (v i : Nat) : (saW sn v).toBitVec.toNat.testBit i = (sn (v / 64)).toBitVec.toNat.testBit (v % 64 + (1 + i)) := by
  rw [saW, shU_n 1 _ 1 (by decide), shU_n _ _ (v % 64) (sh_all _ (Nat.mod_lt _ (by decide))), Nat.testBit_shiftRight, Nat.testBit_shiftRight]
theorem sab_n (sn : Nat → Int64) (v : Nat) : ∀ q, sabI sn v q = nI (pcB (fun i => flB sn (v + 1 + i)) (63 - v % 64 + 64 * q))
  | 0 => by
    have hm : v % 64 < 64 := Nat.mod_lt _ (by decide)
    rw [sabI, pcI_ok]
    congr 1
    have e : pcB (fun i => (saW sn v).toBitVec.toNat.testBit i) 64 = pcB (fun i => (saW sn v).toBitVec.toNat.testBit i) (63 - v % 64 + (1 + v % 64)) := by rw [show 63 - v % 64 + (1 + v % 64) = 64 by omega]
    rw [e, pcB_add, pcB_0 (1 + v % 64) (fun i hi => by rw [saW_n]; exact hi_bit _ (by omega)), Nat.add_zero, Nat.mul_zero, Nat.add_zero]
    refine pcB_ext _ (fun i hi => ?_)
    rw [saW_n, flB, show (v + 1 + i) / 64 = v / 64 by omega, show (v + 1 + i) % 64 = v % 64 + (1 + i) by omega]
  | q + 1 => by
    have hm : v % 64 < 64 := Nat.mod_lt _ (by decide)
    rw [sabI, sab_n sn v q, pcI_ok, nI_add, show 63 - v % 64 + 64 * (q + 1) = 63 - v % 64 + 64 * q + 64 by omega, pcB_add _ (63 - v % 64 + 64 * q) 64]
    congr 2
    refine pcB_ext _ (fun i hi => ?_)
    rw [flB, show (v + 1 + (63 - v % 64 + 64 * q + i)) / 64 = v / 64 + 1 + q by omega, show (v + 1 + (63 - v % 64 + 64 * q + i)) % 64 = i by omega]
theorem mkW_fl (sn : Nat → Int64) (v u : Nat) : flB (mkW sn v) u = (flB sn u || decide (u = v)) := by
  have hu : u % 64 < 64 := Nat.mod_lt _ (by decide)
  have hv : v % 64 < 64 := Nat.mod_lt _ (by decide)
  unfold flB mkW vp_updL
  by_cases h : u / 64 = v / 64
  · rw [if_pos h, h, Int64.toBitVec_or, BitVec.toNat_or, Nat.testBit_or, bit_at hv hu]
    congr 1
    rw [Bool.eq_iff_iff, decide_eq_true_iff, decide_eq_true_iff]
    omega
  · rw [if_neg h, decide_eq_false (show ¬ u = v by omega), Bool.or_false]
theorem tp_fl (v : Nat → Nat) : ∀ k u, flB (tpN v k).1 u = exB (fun a => decide (u = v a)) k
  | 0, u => by
    rw [tpN, exB, flB]
    exact Nat.zero_testBit _
  | k + 1, u => by rw [tpN, exB, mkW_fl, tp_fl v k u]
def ctN (g : Nat → Bool) : Nat → Nat
  | 0 => 0
  | k + 1 => if g k = true then ctN g k + 1 else ctN g k
theorem ct_I (g : Nat → Bool) : ∀ k, cntI g k = nI (ctN g k)
  | 0 => rfl
  | k + 1 => by
    rw [cntI, ctN, ct_I g k]
    by_cases h : g k = true
    · rw [if_pos h, if_pos h, nI_1]
    · rw [if_neg h, if_neg h]
theorem ex_no {g : Nat → Bool} : ∀ k, (∀ a, a < k → g a = false) → exB g k = false
  | 0, _ => rfl
  | k + 1, h => by rw [exB, ex_no k (fun a ha => h a (by omega)), h k (by omega)]; rfl
theorem pc_ct {v : Nat → Nat} {x : Nat} : ∀ k, (∀ a, a < k → v a < 384) → (∀ a b, a < k → b < k → v a = v b → a = b) → pcB (fun i => exB (fun a => decide (x + 1 + i = v a)) k) (383 - x) = ctN (fun a => decide (x < v a)) k
  | 0, _, _ => pcB_0 _ (fun i _ => rfl)
  | k + 1, h1, h2 => by
    have ih := pc_ct (x := x) k (fun a ha => h1 a (by omega)) (fun a b ha hb e => h2 a b (by omega) (by omega) e)
    have hk := h1 k (by omega)
    rw [ctN, ← ih]
    by_cases h : x < v k
    · rw [if_pos (decide_eq_true h)]
      refine pcB_set (q := v k - x - 1) _ (by omega) (ex_no k (fun a ha => decide_eq_false (fun e => ?_))) (fun i hi => ?_)
      · have := h2 k a (by omega) (by omega) (by omega)
        omega
      · rw [exB]
        congr 1
        rw [Bool.eq_iff_iff, decide_eq_true_iff, decide_eq_true_iff]
        omega
    · rw [if_neg (by rw [decide_eq_false h]; decide)]
      refine pcB_ext _ (fun i hi => ?_)
      rw [exB, decide_eq_false (show ¬ x + 1 + i = v k by omega), Bool.or_false]
def tuI (nd : Nat → Int32) : Nat → Int32
  | 0 => 0
  | b + 1 => tuI nd b + cntI (fun a => decide (nd b < nd a)) b
theorem cnt_ext {f g : Nat → Bool} : ∀ k, (∀ i, i < k → f i = g i) → cntI f k = cntI g k
  | 0, _ => rfl
  | k + 1, h => by rw [cntI, cntI, h k (by omega), cnt_ext k (fun i hi => h i (by omega))]
theorem tu_tp {nd : Nat → Int32} {v : Nat → Nat} (h1 : ∀ j, j < 366 → nd j = nI (v j) ∧ v j < 384) (h2 : ∀ a b, a < 366 → b < 366 → v a = v b → a = b) : ∀ k, k ≤ 366 → (tpN v k).2 = tuI nd k
  | 0, _ => rfl
  | k + 1, hk => by
    have hv := (h1 k (by omega)).2
    rw [tpN, tuI, tu_tp h1 h2 k (by omega), sab_n]
    congr 1
    have e : cntI (fun a => decide (nd k < nd a)) k = cntI (fun a => decide (v k < v a)) k := cnt_ext k (fun i hi => by
      rw [Bool.eq_iff_iff, decide_eq_true_iff, decide_eq_true_iff, (h1 k (by omega)).1, (h1 i (by omega)).1]
      exact nI_ltI (by omega) (by have := (h1 i (by omega)).2; omega))
    rw [e, ct_I, ← pc_ct k (fun a ha => (h1 a (by omega)).2) (fun a b ha hb e => h2 a b (by omega) (by omega) e), show 63 - v k % 64 + 64 * (5 - v k / 64) = 383 - v k by omega]
    show tuI nd k + nI _ = tuI nd k + nI _
    congr 2
    exact pcB_ext _ (fun i _ => tp_fl v k _)
theorem tu_t {nd : Nat → Int32} {b a : Nat} {x : Int32} (h : nd b < nd a) : x + cntI (fun a => decide (nd b < nd a)) a + 1 = x + cntI (fun a => decide (nd b < nd a)) (a + 1) := by
  rw [cnt_t (f := fun a => decide (nd b < nd a)) (decide_eq_true h), Int32.add_assoc]
theorem tu_f {nd : Nat → Int32} {b a : Nat} {x : Int32} (h : ¬ nd b < nd a) : x + cntI (fun a => decide (nd b < nd a)) a + 0 = x + cntI (fun a => decide (nd b < nd a)) (a + 1) := by
  rw [cnt_f (f := fun a => decide (nd b < nd a)) (decide_eq_false h), Int32.add_zero]
set_option maxHeartbeats 4000000 in
set_option maxRecDepth 100000 in
theorem c_X7_turned (l : Launch) (D : va_G) (cI cJ cZ : ClassId) (x : Nat) (xf : Nat) (xs : Nat) (xk : Nat) (xp : Nat) (xd : Nat) (xo : Nat) (xn : Nat) (xr : Nat) (xy : Nat) (xi : Nat) (xt : Nat) (xq : Nat) (xb : Nat) (xw : Nat) (xl : Nat) (xm : Nat) (xe : Nat) (zl : Int32) (zt : Int32) (za : Int32) (zm : Int32) (zc : Int32) (ze : Int32) (zh : Int32) (zi : Int32) (zq : Int32) (zu : Int64) (zv : Int64) (ru : Nat → Int32) (seF : Nat → Int32) (kF : Nat → Nat) (spF : Nat → Nat) (deF : Nat → Nat) (pF : Nat → Bool) (nm : Nat → Int32) (f : Nat → Int32) (dz : Nat → Int32) (j0 : Nat) (p0 : Int32) (hj : j0 < 2) (hsl : isJarB p0 = true → p0 = nI j0) (hjo : joM kF spF deF) (hck : ckM seF kF spF deF pF nm dz) : CtI l D cI cJ cZ yX7_turned cX7_turned 5 (some .int) 3 [.ref x, .int p0] [(x, .inr (7, [.ref xf, .ref xs, .ref xk, .ref xp, .ref xd, .ref xo, .ref xn, .ref xr, .ref xy, .ref xi, .int zl, .long zu, .long zv, .ref xt, .ref xq, .ref xb, .ref xw, .ref xl, .ref xm, .int zt, .int za, .int zm, .int zc, .int ze, .ref xe, .int zh, .int zi, .int zq])), (xs, .inl (cI, 2, .inl seF)), (xk, .inl (cI, 2, .inl (nR kF))), (xp, .inl (cI, 2, .inl (nR spF))), (xd, .inl (cI, 2, .inl (nR deF))), (xo, .inl (cI, 2, .inl (bR pF))), (xn, .inl (cI, 732, .inl nm)), (xr, .inl (cI, 366, .inl f)), (xi, .inl (cZ, 2, .inl dz)), (xf, .inl (cI, 7, .inl ru))] (fun (u : Int32 × (Nat → Int32) × (Nat → Int32) × (Nat → Int32)) => if isJarB p0 = true then tuI (ndM seF kF spF deF pF j0) 366 else -1) (fun (u : Int32 × (Nat → Int32) × (Nat → Int32) × (Nat → Int32)) => ckM seF kF spF deF pF u.2.1 u.2.2.2) (fun (u : Int32 × (Nat → Int32) × (Nat → Int32) × (Nat → Int32)) => [(x, .inr (7, [.ref xf, .ref xs, .ref xk, .ref xp, .ref xd, .ref xo, .ref xn, .ref xr, .ref xy, .ref xi, .int u.1, .long zu, .long zv, .ref xt, .ref xq, .ref xb, .ref xw, .ref xl, .ref xm, .int zt, .int za, .int zm, .int zc, .int ze, .ref xe, .int zh, .int zi, .int zq])), (xs, .inl (cI, 2, .inl seF)), (xk, .inl (cI, 2, .inl (nR kF))), (xp, .inl (cI, 2, .inl (nR spF))), (xd, .inl (cI, 2, .inl (nR deF))), (xo, .inl (cI, 2, .inl (bR pF))), (xn, .inl (cI, 732, .inl u.2.1)), (xr, .inl (cI, 366, .inl u.2.2.1)), (xi, .inl (cZ, 2, .inl u.2.2.2)), (xf, .inl (cI, 7, .inl (if isJarB p0 = true then ru else bmp ru (-1))))]) := by
  refine q_entI (own := RX7) rfl rfl (Nat.le_of_ble_eq_true rfl) ?_
  intro p e s m args below meth c A ls QQ hQ hE hx hb hr hk hin hA hl hst
  have hl : lv_has ls 5 [(0, .ref x), (1, .int p0)] := hl
  have loop_27 : ∀ (fu : Nat) (zl2 : Int32) (nm2 : Nat → Int32) (f2 : Nat → Int32) (dz2 : Nat → Int32) (aa : Nat) (bb : Nat), (ckM seF kF spF deF pF nm2 dz2) → (aa ≤ bb) → (bb < 366) → (bb - aa) < fu → ∀ (H : Heap) (locs : List Loc) (ls : Array Slot), SS D A s [(x, .inr (7, [.ref xf, .ref xs, .ref xk, .ref xp, .ref xd, .ref xo, .ref xn, .ref xr, .ref xy, .ref xi, .int zl2, .long zu, .long zv, .ref xt, .ref xq, .ref xb, .ref xw, .ref xl, .ref xm, .int zt, .int za, .int zm, .int zc, .int ze, .ref xe, .int zh, .int zi, .int zq])), (xs, .inl (cI, 2, .inl seF)), (xk, .inl (cI, 2, .inl (nR kF))), (xp, .inl (cI, 2, .inl (nR spF))), (xd, .inl (cI, 2, .inl (nR deF))), (xo, .inl (cI, 2, .inl (bR pF))), (xn, .inl (cI, 732, .inl nm2)), (xr, .inl (cI, 366, .inl f2)), (xi, .inl (cZ, 2, .inl dz2)), (xf, .inl (cI, 7, .inl ru))] H locs → lv_has ls 5 [(4, .int (nI aa)), (3, .int (nI bb)), (2, .int (tuI (ndM seF kF spF deF pF j0) bb + cntI (fun a => decide ((ndM seF kF spF deF pF j0) bb < (ndM seF kF spF deF pF j0) a)) aa)), (0, .ref x), (1, .int (nI j0))] → (∀ (zl2 : Int32) (nm2 : Nat → Int32) (f2 : Nat → Int32) (dz2 : Nat → Int32) (H : Heap) (locs : List Loc) (ls : Array Slot), (ckM seF kF spF deF pF nm2 dz2) → SS D A s [(x, .inr (7, [.ref xf, .ref xs, .ref xk, .ref xp, .ref xd, .ref xo, .ref xn, .ref xr, .ref xy, .ref xi, .int zl2, .long zu, .long zv, .ref xt, .ref xq, .ref xb, .ref xw, .ref xl, .ref xm, .int zt, .int za, .int zm, .int zc, .int ze, .ref xe, .int zh, .int zi, .int zq])), (xs, .inl (cI, 2, .inl seF)), (xk, .inl (cI, 2, .inl (nR kF))), (xp, .inl (cI, 2, .inl (nR spF))), (xd, .inl (cI, 2, .inl (nR deF))), (xo, .inl (cI, 2, .inl (bR pF))), (xn, .inl (cI, 732, .inl nm2)), (xr, .inl (cI, 366, .inl f2)), (xi, .inl (cZ, 2, .inl dz2)), (xf, .inl (cI, 7, .inl ru))] H locs → lv_has ls 5 [(3, .int (nI bb)), (2, .int (tuI (ndM seF kF spF deF pF j0) (bb + 1))), (0, .ref x), (1, .int (nI j0))] → W p l e (rmN 3 0 0) s m args below meth c H locs 0 0 QQ (F0 m 63 ls [])) → W p l e (rmN 3 0 0) s m args below meth c H locs 0 0 QQ (F0 m 27 ls []) := by
    intro fu
    induction fu with
    | zero =>
      intro zl2 nm2 f2 dz2 aa bb hck2 h1 hbb hn
      exact absurd hn (Nat.not_lt_zero _)
    | succ fu ih =>
      intro zl2 nm2 f2 dz2 aa bb hck2 h1 hbb hn H locs ls hst hl kk
      refine lv_iload hx hb dX7_turned_27 (lv_at hl 0 rfl) ?_
      refine lv_iload_n hx hb dX7_turned_29 rfl (lv_at hl 1 rfl) ?_
      refine lv_icmp_ge (tgt := 63) hx hb dX7_turned_30 (by decide) (fun c_30 => ?_) (fun c_30 => ?_)
      · skip
        have hk2 : bb = aa := Nat.le_antisymm (Nat.le_of_not_lt (fun z => nI_ge z (by omega) c_30)) h1
        subst hk2
        skip
        exact kk zl2 nm2 f2 dz2 _ _ _ (hck2) (hst) (lv_sub hl [1, 2, 3, 4] rfl)
      · skip
        have hk2 : aa < bb := Nat.lt_of_not_le (fun z => c_30 (nI_le z (by omega)))
        refine lv_iload_n hx hb dX7_turned_33 rfl (lv_at hl 2 rfl) ?_
        refine lv_aload_n hx hb dX7_turned_34 rfl (lv_at hl 3 rfl) ?_
        refine lv_iload_n hx hb dX7_turned_35 rfl (lv_at hl 4 rfl) ?_
        refine lv_iload_n hx hb dX7_turned_36 rfl (lv_at hl 1 rfl) ?_
        refine q_goI (q_rV hE lk_X7_100 (c_X7_numberOf l D cI cJ cZ x xf xs xk xp xd xo xn xr xy xi xt xq xb xw xl xm xe zl2 zt za zm zc ze zh zi zq zu zv seF kF spF deF pF nm2 f2 dz2 j0 bb (hj) (hjo) (hck2) (by omega) H.size) hst [0, 1, 2, 3, 4, 5, 6, 7, 8] rfl rfl rfl rfl rfl hl.1 ⟨(Nat.le_of_ble_eq_true rfl), (Nat.le_of_ble_eq_true rfl)⟩ (rest := [.int (tuI (ndM seF kF spF deF pF j0) bb + cntI (fun a => decide ((ndM seF kF spF deF pF j0) bb < (ndM seF kF spF deF pF j0) a)) aa)]) rfl (Nat.le_of_ble_eq_true rfl) dX7_turned_37 ⟨(Nat.le_of_ble_eq_true rfl), (Nat.le_of_ble_eq_true rfl)⟩) hE hst [0, 1, 2, 3, 4, 5, 6, 7, 8] rfl (fun _ => rfl) (fun (u : Int32 × (Nat → Int32) × (Nat → Int32) × (Nat → Int32)) => [(x, .inr (7, [.ref xf, .ref xs, .ref xk, .ref xp, .ref xd, .ref xo, .ref xn, .ref xr, .ref xy, .ref xi, .int u.1, .long zu, .long zv, .ref xt, .ref xq, .ref xb, .ref xw, .ref xl, .ref xm, .int zt, .int za, .int zm, .int zc, .int ze, .ref xe, .int zh, .int zi, .int zq])), (xs, .inl (cI, 2, .inl seF)), (xk, .inl (cI, 2, .inl (nR kF))), (xp, .inl (cI, 2, .inl (nR spF))), (xd, .inl (cI, 2, .inl (nR deF))), (xo, .inl (cI, 2, .inl (bR pF))), (xn, .inl (cI, 732, .inl u.2.1)), (xr, .inl (cI, 366, .inl u.2.2.1)), (xi, .inl (cZ, 2, .inl u.2.2.2)), (xf, .inl (cI, 7, .inl ru))]) (fun _ => rfl) (fun u H locs hF hst => ?_)
        obtain ⟨zl1_1, nm1_2, f1_3, dz1_4⟩ := u
        have hst : SS D A s [(x, .inr (7, [.ref xf, .ref xs, .ref xk, .ref xp, .ref xd, .ref xo, .ref xn, .ref xr, .ref xy, .ref xi, .int zl1_1, .long zu, .long zv, .ref xt, .ref xq, .ref xb, .ref xw, .ref xl, .ref xm, .int zt, .int za, .int zm, .int zc, .int ze, .ref xe, .int zh, .int zi, .int zq])), (xs, .inl (cI, 2, .inl seF)), (xk, .inl (cI, 2, .inl (nR kF))), (xp, .inl (cI, 2, .inl (nR spF))), (xd, .inl (cI, 2, .inl (nR deF))), (xo, .inl (cI, 2, .inl (bR pF))), (xn, .inl (cI, 732, .inl nm1_2)), (xr, .inl (cI, 366, .inl f1_3)), (xi, .inl (cZ, 2, .inl dz1_4)), (xf, .inl (cI, 7, .inl ru))] H locs := hst
        have hF : (ckM seF kF spF deF pF nm1_2 dz1_4) := hF
        have hF0_37 := hF
        refine W.eq (g2 := F0 m 40 ls [.int (ndM seF kF spF deF pF j0 bb), .int (tuI (ndM seF kF spF deF pF j0) bb + cntI (fun a => decide ((ndM seF kF spF deF pF j0) bb < (ndM seF kF spF deF pF j0) a)) aa)]) rfl ?_
        refine lv_aload_n hx hb dX7_turned_40 rfl (lv_at hl 3 rfl) ?_
        refine lv_iload_n hx hb dX7_turned_41 rfl (lv_at hl 4 rfl) ?_
        refine lv_iload hx hb dX7_turned_42 (lv_at hl 0 rfl) ?_
        refine q_goI (q_rV hE lk_X7_100 (c_X7_numberOf l D cI cJ cZ x xf xs xk xp xd xo xn xr xy xi xt xq xb xw xl xm xe zl1_1 zt za zm zc ze zh zi zq zu zv seF kF spF deF pF nm1_2 f1_3 dz1_4 j0 aa (hj) (hjo) (hF0_37) (by omega) H.size) hst [0, 1, 2, 3, 4, 5, 6, 7, 8] rfl rfl rfl rfl rfl hl.1 ⟨(Nat.le_of_ble_eq_true rfl), (Nat.le_of_ble_eq_true rfl)⟩ (rest := [.int (ndM seF kF spF deF pF j0 bb), .int (tuI (ndM seF kF spF deF pF j0) bb + cntI (fun a => decide ((ndM seF kF spF deF pF j0) bb < (ndM seF kF spF deF pF j0) a)) aa)]) rfl (Nat.le_of_ble_eq_true rfl) dX7_turned_44 ⟨(Nat.le_of_ble_eq_true rfl), (Nat.le_of_ble_eq_true rfl)⟩) hE hst [0, 1, 2, 3, 4, 5, 6, 7, 8] rfl (fun _ => rfl) (fun (u : Int32 × (Nat → Int32) × (Nat → Int32) × (Nat → Int32)) => [(x, .inr (7, [.ref xf, .ref xs, .ref xk, .ref xp, .ref xd, .ref xo, .ref xn, .ref xr, .ref xy, .ref xi, .int u.1, .long zu, .long zv, .ref xt, .ref xq, .ref xb, .ref xw, .ref xl, .ref xm, .int zt, .int za, .int zm, .int zc, .int ze, .ref xe, .int zh, .int zi, .int zq])), (xs, .inl (cI, 2, .inl seF)), (xk, .inl (cI, 2, .inl (nR kF))), (xp, .inl (cI, 2, .inl (nR spF))), (xd, .inl (cI, 2, .inl (nR deF))), (xo, .inl (cI, 2, .inl (bR pF))), (xn, .inl (cI, 732, .inl u.2.1)), (xr, .inl (cI, 366, .inl u.2.2.1)), (xi, .inl (cZ, 2, .inl u.2.2.2)), (xf, .inl (cI, 7, .inl ru))]) (fun _ => rfl) (fun u H locs hF hst => ?_)
        obtain ⟨zl1_5, nm1_6, f1_7, dz1_8⟩ := u
        have hst : SS D A s [(x, .inr (7, [.ref xf, .ref xs, .ref xk, .ref xp, .ref xd, .ref xo, .ref xn, .ref xr, .ref xy, .ref xi, .int zl1_5, .long zu, .long zv, .ref xt, .ref xq, .ref xb, .ref xw, .ref xl, .ref xm, .int zt, .int za, .int zm, .int zc, .int ze, .ref xe, .int zh, .int zi, .int zq])), (xs, .inl (cI, 2, .inl seF)), (xk, .inl (cI, 2, .inl (nR kF))), (xp, .inl (cI, 2, .inl (nR spF))), (xd, .inl (cI, 2, .inl (nR deF))), (xo, .inl (cI, 2, .inl (bR pF))), (xn, .inl (cI, 732, .inl nm1_6)), (xr, .inl (cI, 366, .inl f1_7)), (xi, .inl (cZ, 2, .inl dz1_8)), (xf, .inl (cI, 7, .inl ru))] H locs := hst
        have hF : (ckM seF kF spF deF pF nm1_6 dz1_8) := hF
        have hF0_44 := hF
        refine W.eq (g2 := F0 m 47 ls [.int (ndM seF kF spF deF pF j0 aa), .int (ndM seF kF spF deF pF j0 bb), .int (tuI (ndM seF kF spF deF pF j0) bb + cntI (fun a => decide ((ndM seF kF spF deF pF j0) bb < (ndM seF kF spF deF pF j0) a)) aa)]) rfl ?_
        refine lv_icmp_ge (tgt := 54) hx hb dX7_turned_47 (by decide) (fun c_47 => ?_) (fun c_47 => ?_)
        · skip
          refine lv_iconst (v := 0) hx hb dX7_turned_54 (by decide) ?_
          refine lv_iadd hx hb dX7_turned_55 ?_
          refine q_top (x' := tuI (ndM seF kF spF deF pF j0) bb + cntI (fun a => decide ((ndM seF kF spF deF pF j0) bb < (ndM seF kF spF deF pF j0) a)) (aa + 1)) (tu_f (Int32.not_lt.mpr c_47)) ?_
          refine lv_istore_n (lv' := [(2, .int (tuI (ndM seF kF spF deF pF j0) bb + cntI (fun a => decide ((ndM seF kF spF deF pF j0) bb < (ndM seF kF spF deF pF j0) a)) (aa + 1))), (4, .int (nI aa)), (3, .int (nI bb)), (0, .ref x), (1, .int (nI j0))]) hx hb dX7_turned_56 rfl hl (by decide) rfl (fun ls hl => ?_)
          refine lv_iinc (v := nI (aa + 1)) (lv' := [(4, .int (nI (aa + 1))), (2, .int (tuI (ndM seF kF spF deF pF j0) bb + cntI (fun a => decide ((ndM seF kF spF deF pF j0) bb < (ndM seF kF spF deF pF j0) a)) (aa + 1))), (3, .int (nI bb)), (0, .ref x), (1, .int (nI j0))]) hx hb dX7_turned_57 hl (k := 1) rfl (nI_next _) (by decide) rfl (fun ls hl => ?_)
          refine lv_goto (tgt := 27) hx hb dX7_turned_60 (by decide) ?_
          exact ih zl1_5 nm1_6 f1_7 dz1_8 (aa + 1) bb (hF0_44) (by omega) (hbb) (by omega) _ _ _ (hst) (lv_sub hl [0, 2, 1, 3, 4] rfl) (kk)
        · skip
          refine lv_iconst (v := 1) hx hb dX7_turned_50 (by decide) ?_
          refine lv_goto (tgt := 55) hx hb dX7_turned_51 (by decide) ?_
          refine lv_iadd hx hb dX7_turned_55 ?_
          refine q_top (x' := tuI (ndM seF kF spF deF pF j0) bb + cntI (fun a => decide ((ndM seF kF spF deF pF j0) bb < (ndM seF kF spF deF pF j0) a)) (aa + 1)) (tu_t (Int32.not_le.mp c_47)) ?_
          refine lv_istore_n (lv' := [(2, .int (tuI (ndM seF kF spF deF pF j0) bb + cntI (fun a => decide ((ndM seF kF spF deF pF j0) bb < (ndM seF kF spF deF pF j0) a)) (aa + 1))), (4, .int (nI aa)), (3, .int (nI bb)), (0, .ref x), (1, .int (nI j0))]) hx hb dX7_turned_56 rfl hl (by decide) rfl (fun ls hl => ?_)
          refine lv_iinc (v := nI (aa + 1)) (lv' := [(4, .int (nI (aa + 1))), (2, .int (tuI (ndM seF kF spF deF pF j0) bb + cntI (fun a => decide ((ndM seF kF spF deF pF j0) bb < (ndM seF kF spF deF pF j0) a)) (aa + 1))), (3, .int (nI bb)), (0, .ref x), (1, .int (nI j0))]) hx hb dX7_turned_57 hl (k := 1) rfl (nI_next _) (by decide) rfl (fun ls hl => ?_)
          refine lv_goto (tgt := 27) hx hb dX7_turned_60 (by decide) ?_
          exact ih zl1_5 nm1_6 f1_7 dz1_8 (aa + 1) bb (hF0_44) (by omega) (hbb) (by omega) _ _ _ (hst) (lv_sub hl [0, 2, 1, 3, 4] rfl) (kk)
  have loop_17 : ∀ (fu : Nat) (zl2 : Int32) (nm2 : Nat → Int32) (f2 : Nat → Int32) (dz2 : Nat → Int32) (bb : Nat), (ckM seF kF spF deF pF nm2 dz2) → (isJarB p0 = true) → (bb ≤ 366) → (366 - bb) < fu → ∀ (H : Heap) (locs : List Loc) (ls : Array Slot), SS D A s [(x, .inr (7, [.ref xf, .ref xs, .ref xk, .ref xp, .ref xd, .ref xo, .ref xn, .ref xr, .ref xy, .ref xi, .int zl2, .long zu, .long zv, .ref xt, .ref xq, .ref xb, .ref xw, .ref xl, .ref xm, .int zt, .int za, .int zm, .int zc, .int ze, .ref xe, .int zh, .int zi, .int zq])), (xs, .inl (cI, 2, .inl seF)), (xk, .inl (cI, 2, .inl (nR kF))), (xp, .inl (cI, 2, .inl (nR spF))), (xd, .inl (cI, 2, .inl (nR deF))), (xo, .inl (cI, 2, .inl (bR pF))), (xn, .inl (cI, 732, .inl nm2)), (xr, .inl (cI, 366, .inl f2)), (xi, .inl (cZ, 2, .inl dz2)), (xf, .inl (cI, 7, .inl ru))] H locs → lv_has ls 5 [(3, .int (nI bb)), (2, .int (tuI (ndM seF kF spF deF pF j0) bb)), (0, .ref x), (1, .int (nI j0))] → W p l e (rmN 3 0 0) s m args below meth c H locs 0 0 QQ (F0 m 17 ls []) := by
    intro fu
    induction fu with
    | zero =>
      intro zl2 nm2 f2 dz2 bb hck2 hR h1 hn
      exact absurd hn (Nat.not_lt_zero _)
    | succ fu ih =>
      intro zl2 nm2 f2 dz2 bb hck2 hR h1 hn H locs ls hst hl
      refine lv_iload_n hx hb dX7_turned_17 rfl (lv_at hl 0 rfl) ?_
      refine lv_sipush (v := 366) hx hb dX7_turned_18 (by decide) ?_
      refine lv_icmp_ge (tgt := 69) hx hb dX7_turned_21 (by decide) (fun c_21 => ?_) (fun c_21 => ?_)
      · skip
        have hk1 : bb = 366 := Nat.le_antisymm h1 (Nat.le_of_not_lt (fun z => nI_ge z (by decide) c_21))
        subst hk1
        skip
        refine lv_iload_n hx hb dX7_turned_69 rfl (lv_at hl 1 rfl) ?_
        exact q_retI hQ hE hr hk hst (zl2, nm2, f2, dz2) (by rw [if_pos hR]) (hck2) (by simp only [if_pos hR]) dX7_turned_70
      · skip
        have hk1 : bb < 366 := Nat.lt_of_not_le (fun z => c_21 (nI_le z (by omega)))
        refine lv_iconst (v := 0) hx hb dX7_turned_24 (by decide) ?_
        refine lv_istore (lv' := [(4, .int 0), (3, .int (nI bb)), (2, .int (tuI (ndM seF kF spF deF pF j0) bb)), (0, .ref x), (1, .int (nI j0))]) hx hb dX7_turned_25 hl (by decide) rfl (fun ls hl => ?_)
        rw [show tuI (ndM seF kF spF deF pF j0) bb = tuI (ndM seF kF spF deF pF j0) bb + cntI (fun a => decide ((ndM seF kF spF deF pF j0) bb < (ndM seF kF spF deF pF j0) a)) 0 from (Int32.add_zero _).symm] at hl
        refine loop_27 (bb + 1) zl2 nm2 f2 dz2 0 bb (hck2) (Nat.zero_le _) (hk1) (by omega) _ _ _ (hst) (lv_sub hl [0, 1, 2, 3, 4] rfl) (fun zl2 nm2 f2 dz2 H locs ls hck2 hst hl => ?_)
        refine lv_iinc (v := nI (bb + 1)) (lv' := [(3, .int (nI (bb + 1))), (2, .int (tuI (ndM seF kF spF deF pF j0) (bb + 1))), (0, .ref x), (1, .int (nI j0))]) hx hb dX7_turned_63 hl (k := 0) rfl (nI_next _) (by decide) rfl (fun ls hl => ?_)
        refine lv_goto (tgt := 17) hx hb dX7_turned_66 (by decide) ?_
        exact ih zl2 nm2 f2 dz2 (bb + 1) (hck2) (hR) (by omega) (by omega) _ _ _ (hst) (lv_sub hl [0, 1, 2, 3] rfl)
  refine lv_iload_n hx hb dX7_turned_0 rfl (lv_at hl 1 rfl) ?_
  refine q_goI (q_rS hE lk_X7_77 (c_X7_isJar l D cI cJ cZ p0 s.heap.size) hst [] rfl rfl rfl hl.1 ⟨(Nat.le_of_ble_eq_true rfl), (Nat.le_of_ble_eq_true rfl)⟩ (rest := []) rfl (Nat.le_of_ble_eq_true rfl) dX7_turned_1 ⟨(Nat.le_of_ble_eq_true rfl), (Nat.le_of_ble_eq_true rfl)⟩) hE hst [] rfl (fun _ => rfl) (fun (_ : Unit) => [(x, .inr (7, [.ref xf, .ref xs, .ref xk, .ref xp, .ref xd, .ref xo, .ref xn, .ref xr, .ref xy, .ref xi, .int zl, .long zu, .long zv, .ref xt, .ref xq, .ref xb, .ref xw, .ref xl, .ref xm, .int zt, .int za, .int zm, .int zc, .int ze, .ref xe, .int zh, .int zi, .int zq])), (xs, .inl (cI, 2, .inl seF)), (xk, .inl (cI, 2, .inl (nR kF))), (xp, .inl (cI, 2, .inl (nR spF))), (xd, .inl (cI, 2, .inl (nR deF))), (xo, .inl (cI, 2, .inl (bR pF))), (xn, .inl (cI, 732, .inl nm)), (xr, .inl (cI, 366, .inl f)), (xi, .inl (cZ, 2, .inl dz)), (xf, .inl (cI, 7, .inl ru))]) (fun _ => rfl) (fun _ H locs hF hst => ?_)
  refine lv_if_ne (tgt := 13) hx hb dX7_turned_4 (by decide) (fun c_4 => ?_) (fun c_4 => ?_)
  · skip
    have c_4 := b2i_t c_4
    have hR := c_4
    obtain rfl := hsl c_4
    skip
    refine lv_iconst (v := 0) hx hb dX7_turned_13 (by decide) ?_
    refine lv_istore_n (lv' := [(2, .int 0), (0, .ref x), (1, .int (nI j0))]) hx hb dX7_turned_14 rfl hl (by decide) rfl (fun ls hl => ?_)
    refine lv_iconst (v := 0) hx hb dX7_turned_15 (by decide) ?_
    refine lv_istore_n (lv' := [(3, .int 0), (2, .int 0), (0, .ref x), (1, .int (nI j0))]) hx hb dX7_turned_16 rfl hl (by decide) rfl (fun ls hl => ?_)
    exact loop_17 (367) zl nm f dz 0 (hck) (hR) (by decide) (by decide) _ _ _ (hst) (lv_sub hl [0, 1, 2, 3] rfl)
  · skip
    have c_4 := b2i_f c_4
    have hR : ¬ isJarB p0 = true := by rw [c_4]; decide
    refine lv_aload_n hx hb dX7_turned_7 rfl (lv_at hl 0 rfl) ?_
    refine lv_iconst (v := (-1)) hx hb dX7_turned_8 (by decide) ?_
    refine q_goI (q_rV hE lk_X7_81 (c_X7_no l D cI cJ cZ x xf xs xk xp xd xo xn xr xy xi xt xq xb xw xl xm xe zl zt za zm zc ze zh zi zq zu zv ru (-1) (by rw [vp_in_iff]; decide) H.size) hst [0, 9] rfl rfl rfl rfl rfl hl.1 ⟨(Nat.le_of_ble_eq_true rfl), (Nat.le_of_ble_eq_true rfl)⟩ (rest := []) rfl (Nat.le_of_ble_eq_true rfl) dX7_turned_9 ⟨(Nat.le_of_ble_eq_true rfl), (Nat.le_of_ble_eq_true rfl)⟩) hE hst [0, 9] rfl (fun _ => rfl) (fun (_ : Unit) => [(x, .inr (7, [.ref xf, .ref xs, .ref xk, .ref xp, .ref xd, .ref xo, .ref xn, .ref xr, .ref xy, .ref xi, .int zl, .long zu, .long zv, .ref xt, .ref xq, .ref xb, .ref xw, .ref xl, .ref xm, .int zt, .int za, .int zm, .int zc, .int ze, .ref xe, .int zh, .int zi, .int zq])), (xs, .inl (cI, 2, .inl seF)), (xk, .inl (cI, 2, .inl (nR kF))), (xp, .inl (cI, 2, .inl (nR spF))), (xd, .inl (cI, 2, .inl (nR deF))), (xo, .inl (cI, 2, .inl (bR pF))), (xn, .inl (cI, 732, .inl nm)), (xr, .inl (cI, 366, .inl f)), (xi, .inl (cZ, 2, .inl dz)), (xf, .inl (cI, 7, .inl (bmp ru (-1))))]) (fun _ => rfl) (fun _ H locs hF hst => ?_)
    exact q_retI hQ hE hr hk hst (zl, nm, f, dz) (by rw [if_neg hR]) (hck) (by simp only [if_neg hR]) dX7_turned_12
