/-! the reference: the tape, a man, a jar; the kept row -/
theorem byt_bv (b : BitVec 64) (q : Nat) (hq : q ≤ 56) : ((b.sshiftRight q) &&& 255#64).signExtend 32 = (b >>> q).signExtend 32 &&& 255#32 := by
  have h1 : ∀ i, i < 32 → (255#64).getLsbD i = decide (i < 8) := by decide
  have h2 : ∀ i, i < 32 → (255#32).getLsbD i = decide (i < 8) := by decide
  rw [BitVec.signExtend_eq_setWidth_of_le _ (by decide), BitVec.signExtend_eq_setWidth_of_le _ (by decide)]
  apply BitVec.eq_of_getLsbD_eq
  intro i hi
  rw [BitVec.getLsbD_setWidth, BitVec.getLsbD_and, BitVec.getLsbD_and, BitVec.getLsbD_setWidth, h1 i hi, h2 i hi, BitVec.getLsbD_sshiftRight, BitVec.getLsbD_ushiftRight]
  by_cases h : i < 8
  · rw [if_pos (by omega), decide_eq_true h, decide_eq_false (show ¬ 64 ≤ i by omega), decide_eq_true hi]
    simp
  · rw [decide_eq_false h]
    simp
theorem byt_eq (w : Int64) {i : Nat} (hi : i < 8) : (w >>> ((8 * nI i).toInt64 &&& 63) &&& 255).toInt32 = byteOf w i := by
  match i, hi with
  | 0, _ => exact congrArg Int32.ofBitVec (byt_bv w.toBitVec 0 (by decide))
  | 1, _ => exact congrArg Int32.ofBitVec (byt_bv w.toBitVec 8 (by decide))
  | 2, _ => exact congrArg Int32.ofBitVec (byt_bv w.toBitVec 16 (by decide))
  | 3, _ => exact congrArg Int32.ofBitVec (byt_bv w.toBitVec 24 (by decide))
  | 4, _ => exact congrArg Int32.ofBitVec (byt_bv w.toBitVec 32 (by decide))
  | 5, _ => exact congrArg Int32.ofBitVec (byt_bv w.toBitVec 40 (by decide))
  | 6, _ => exact congrArg Int32.ofBitVec (byt_bv w.toBitVec 48 (by decide))
  | 7, _ => exact congrArg Int32.ofBitVec (byt_bv w.toBitVec 56 (by decide))
theorem fd_1 {t0 : Nat} {p : Int32} (h : ¬ outI p 1 8 = 0) : ftf false false (!decide (1 ≤ p)) (decide (8 < p) || !decide (p ≤ 14 - nI t0)) = outI p 1 8 := by
  unfold outI at h ⊢
  by_cases h1 : 1 ≤ p
  · rw [if_pos h1] at h ⊢
    by_cases h2 : p ≤ 8
    · rw [if_pos h2] at h; exact absurd rfl h
    · rw [if_neg h2, decide_eq_true h1, decide_eq_true (Int32.not_le.mp h2)]; rfl
  · rw [if_neg h1, decide_eq_false h1]; rfl
theorem fd_2 {t0 m : Nat} {p : Int32} (ht : t0 ≤ 14) (ep : p = nI m) (h1 : 1 ≤ m) (h8 : m ≤ 8) (h : t0 + m ≤ 14) : ftf false false (!decide (1 ≤ p)) (decide (8 < p) || !decide (p ≤ 14 - nI t0)) = 0 := by
  rw [ep, show (14 : Int32) = nI 14 from rfl, pk_sub ht, decide_eq_true (show (1 : Int32) ≤ nI m from nI_le (a := 1) h1 (by omega)), decide_eq_false (show ¬ (8 : Int32) < nI m from nI_nlt (b := m) (a := 8) h8 (by omega)), decide_eq_true (show nI m ≤ nI (14 - t0) from nI_le (by omega) (by omega))]
  rfl
theorem fd_3 {t0 m : Nat} {p : Int32} (ht : t0 ≤ 14) (ep : p = nI m) (h1 : 1 ≤ m) (h8 : m ≤ 8) (h : ¬ t0 + m ≤ 14) : ftf false false (!decide (1 ≤ p)) (decide (8 < p) || !decide (p ≤ 14 - nI t0)) = -6 := by
  rw [ep, show (14 : Int32) = nI 14 from rfl, pk_sub ht, decide_eq_true (show (1 : Int32) ≤ nI m from nI_le (a := 1) h1 (by omega)), decide_eq_false (show ¬ (8 : Int32) < nI m from nI_nlt (b := m) (a := 8) h8 (by omega)), decide_eq_false (show ¬ nI m ≤ nI (14 - t0) from nI_ge (by omega) (by omega))]
  rfl
theorem dig_t0 {t0 j : Nat} {tb : Nat → Int32} (hj : j < 2147483648) (h : digB (tapeAt (nI t0) tb (nI j)) = true) : j < t0 := by
  refine Nat.lt_of_not_le fun z => ?_
  rw [tapeAt, if_neg (nI_pos hj), if_pos (nI_le z hj)] at h
  exact absurd h (by decide)
theorem eod_dig {tl : Int32} {tb : Nat → Int32} : ∀ m j i, j ≤ i → i < eod tl tb m j → digB (tapeAt tl tb (nI i)) = true
  | 0, j, i, h1, h2 => by rw [eod] at h2; omega
  | m + 1, j, i, h1, h2 => by
    rw [eod] at h2
    by_cases h : digB (tapeAt tl tb (nI j)) = true
    · rw [if_pos h] at h2
      by_cases e : i = j
      · rw [e]; exact h
      · exact eod_dig m (j + 1) i (by omega) h2
    · rw [if_neg h] at h2; omega
theorem eod_1 {tl : Int32} {tb : Nat → Int32} {m j : Nat} (h : digB (tapeAt tl tb (nI j)) = false) : eod tl tb m j = j := by
  cases m with
  | zero => rfl
  | succ m => rw [eod, if_neg (by rw [h]; decide)]
theorem eod_2 {tl : Int32} {tb : Nat → Int32} {m j : Nat} (h : digB (tapeAt tl tb (nI j)) = true) : j < eod tl tb (m + 1) j := by
  rw [eod, if_pos h]
  have := (eod_le tl tb m (j + 1)).1
  omega
theorem dig_v {x : Int32} (h : digB x = true) : ∃ d, d ≤ 9 ∧ x = nI (48 + d) := by
  rw [digB, Bool.and_eq_true, Bool.not_eq_true', Bool.not_eq_true', decide_eq_false_iff_not, decide_eq_false_iff_not] at h
  obtain ⟨q, h1, h2, h3⟩ := in_nI (a := 48) (b := 57) (by decide) (by decide) (Int32.not_lt.mp h.1) (Int32.not_lt.mp h.2)
  exact ⟨q - 48, by omega, by rw [h3]; congr 1; omega⟩
theorem valL_v {tl : Int32} {tb : Nat → Int32} : ∀ m j v, (∀ i, j ≤ i → i < j + m → digB (tapeAt tl tb (nI i)) = true) → ∃ r, r < (v + 1) * 10 ^ m ∧ valL tl tb m j (nI v) = nI r
  | 0, j, v, _ => ⟨v, by omega, rfl⟩
  | m + 1, j, v, h => by
    obtain ⟨d, h1, h2⟩ := dig_v (h j (by omega) (by omega))
    have e : 10 * nI v + tapeAt tl tb (nI j) - 48 = nI (10 * v + d) := by
      rw [h2, show (10 : Int32) = nI 10 from rfl, show (48 : Int32) = nI 48 from rfl, pk_mul, nI_add, pk_sub (by omega)]
      congr 1
      omega
    obtain ⟨r, h3, h4⟩ := valL_v m (j + 1) (10 * v + d) (fun i a b => h i (by omega) (by omega))
    refine ⟨r, ?_, by rw [valL, e]; exact h4⟩
    have h5 : (10 * v + d + 1) * 10 ^ m ≤ (10 * (v + 1)) * 10 ^ m := Nat.mul_le_mul_right _ (by omega)
    have h6 : (10 * (v + 1)) * 10 ^ m = (v + 1) * 10 ^ (m + 1) := by rw [Nat.pow_succ, Nat.mul_comm 10 (v + 1), Nat.mul_assoc, Nat.mul_comm 10]
    omega
theorem rdB_v (tl : Int32) (tb : Nat → Int32) : ∃ r, r < 1000 ∧ rdB tl tb = nI r := by
  have h := rdE_le tl tb
  obtain ⟨r, h1, h2⟩ := valL_v (tl := tl) (tb := tb) (rdE tl tb - 1) 1 0 (fun i a b => eod_dig 3 1 i a (show i < rdE tl tb by omega))
  have h3 : 10 ^ (rdE tl tb - 1) ≤ 10 ^ 3 := Nat.pow_le_pow_right (by decide) (by omega)
  exact ⟨r, by omega, h2⟩
theorem rdP_v (tl : Int32) (tb : Nat → Int32) : ∃ r, r < 10000 ∧ rdP tl tb = nI r := by
  have h := eod_le tl tb 4 (rdE tl tb + 1)
  obtain ⟨r, h1, h2⟩ := valL_v (tl := tl) (tb := tb) (rdZ tl tb - (rdE tl tb + 1)) (rdE tl tb + 1) 0 (fun i a b => eod_dig 4 (rdE tl tb + 1) i a (show i < rdZ tl tb by unfold rdZ at b ⊢; omega))
  have h3 : 10 ^ (rdZ tl tb - (rdE tl tb + 1)) ≤ 10 ^ 4 := Nat.pow_le_pow_right (by decide) (by unfold rdZ; omega)
  exact ⟨r, by omega, h2⟩
theorem rd_1 {tl : Int32} {tb : Nat → Int32} (h : ¬ 0 ≤ (if digB (tapeAt tl tb (nI 1)) = true then rdB tl tb else -1)) : nI (rdE tl tb) = 1 := by
  by_cases g : digB (tapeAt tl tb (nI 1)) = true
  · obtain ⟨r, h1, h2⟩ := rdB_v tl tb
    rw [if_pos g, h2] at h
    exact absurd (nI_pos' (by omega)) h
  · rw [rdE, eod_1 (by simpa using g)]; rfl
theorem rd_2 {tl : Int32} {tb : Nat → Int32} (h : 0 ≤ (if digB (tapeAt tl tb (nI 1)) = true then rdB tl tb else -1)) : (if digB (tapeAt tl tb (nI 1)) = true then rdB tl tb else -1) = rdB tl tb ∧ ¬ nI (rdE tl tb) = 1 := by
  by_cases g : digB (tapeAt tl tb (nI 1)) = true
  · rw [if_pos g]
    have h1 : 1 < rdE tl tb := eod_2 (m := 2) g
    have h2 := (rdE_le tl tb).2
    exact ⟨rfl, fun z => absurd ((nI_eq (a := rdE tl tb) (b := 1) (by omega) (by decide)).mp z) (by omega)⟩
  · rw [if_neg g] at h; exact absurd h (by decide)
theorem rd_3 {tl : Int32} {tb : Nat → Int32} (h : (if digB (tapeAt tl tb (nI (rdE tl tb + 1))) = true then rdP tl tb else -1) < 0) : nI (rdZ tl tb) ≤ nI (rdE tl tb + 1) := by
  by_cases g : digB (tapeAt tl tb (nI (rdE tl tb + 1))) = true
  · obtain ⟨r, h1, h2⟩ := rdP_v tl tb
    rw [if_pos g, h2] at h
    exact absurd h (nI_pos (by omega))
  · rw [rdZ, eod_1 (by simpa using g)]; exact Int32.le_refl _
theorem rd_4 {t0 : Nat} {tb : Nat → Int32} (h : ¬ (if digB (tapeAt (nI t0) tb (nI (rdE (nI t0) tb + 1))) = true then rdP (nI t0) tb else -1) < 0) : (if digB (tapeAt (nI t0) tb (nI (rdE (nI t0) tb + 1))) = true then rdP (nI t0) tb else -1) = rdP (nI t0) tb ∧ ¬ nI (rdZ (nI t0) tb) ≤ nI (rdE (nI t0) tb + 1) ∧ rdZ (nI t0) tb ≤ t0 := by
  by_cases g : digB (tapeAt (nI t0) tb (nI (rdE (nI t0) tb + 1))) = true
  · rw [if_pos g]
    have h1 : rdE (nI t0) tb + 1 < rdZ (nI t0) tb := eod_2 (m := 3) g
    have h2 := (rdZ_le (nI t0) tb).2
    have h3 := dig_t0 (t0 := t0) (tb := tb) (j := rdZ (nI t0) tb - 1) (by omega) (eod_dig 4 (rdE (nI t0) tb + 1) _ (by omega) (show rdZ (nI t0) tb - 1 < rdZ (nI t0) tb by omega))
    exact ⟨rfl, nI_ge h1 (by omega), by omega⟩
  · rw [if_neg g] at h; exact absurd (by decide) h
/-- where the reading of a text stops -/
def rdA (tl : Int32) (tb : Nat → Int32) : Int32 := if rdF tl tb < 0 then nI (rdZ tl tb) else rdF tl tb
theorem inB_dig (x : Int32) : inB x 48 57 = digB x := by
  rw [inB, digB, show (!decide (x < 48)) = decide (48 ≤ x) by rw [Bool.eq_iff_iff]; simp [Int32.not_lt], show (!decide (57 < x)) = decide (x ≤ 57) by rw [Bool.eq_iff_iff]; simp [Int32.not_lt]]
theorem b366 {x : Int32} : x ≤ 365 ↔ x < 366 := by
  rw [Int32.lt_iff_toInt_lt, Int32.le_iff_toInt_le]
  have e0 : (366 : Int32).toInt = 366 := by decide
  have e1 : (365 : Int32).toInt = 365 := by decide
  omega
theorem b2i_n1 {b : Bool} (h : ¬ b2i b = 1) : b2i b = 0 := by cases b <;> first | rfl | exact absurd rfl h
set_option maxHeartbeats 4000000 in
set_option maxRecDepth 100000 in
theorem c_X7_feed (l : Launch) (D : va_G) (cI cJ cZ : ClassId) (x : Nat) (xf : Nat) (xs : Nat) (xk : Nat) (xp : Nat) (xd : Nat) (xo : Nat) (xn : Nat) (xr : Nat) (xy : Nat) (xi : Nat) (xt : Nat) (xq : Nat) (xb : Nat) (xw : Nat) (xl : Nat) (xm : Nat) (xe : Nat) (zl : Int32) (za : Int32) (zm : Int32) (zc : Int32) (ze : Int32) (zh : Int32) (zi : Int32) (zq : Int32) (zu : Int64) (zv : Int64) (t0 : Nat) (ru : Nat → Int32) (tb : Nat → Int32) (p0 : Int32) (w0 : Int64) (ht0 : t0 ≤ 14) : CtI l D cI cJ cZ yX7_feed cX7_feed 6 (some .int) 2 [.ref x, .int p0, .long w0] [(x, .inr (7, [.ref xf, .ref xs, .ref xk, .ref xp, .ref xd, .ref xo, .ref xn, .ref xr, .ref xy, .ref xi, .int zl, .long zu, .long zv, .ref xt, .ref xq, .ref xb, .ref xw, .ref xl, .ref xm, .int (nI t0), .int za, .int zm, .int zc, .int ze, .ref xe, .int zh, .int zi, .int zq])), (xt, .inl (cI, 14, .inl tb)), (xf, .inl (cI, 7, .inl ru))] (fun (_ : Unit) => if ftf false false (!decide (1 ≤ p0)) (decide (8 < p0) || !decide (p0 ≤ 14 - nI t0)) = 0 then nI (t0 + p0.toNatClampNeg) else ftf false false (!decide (1 ≤ p0)) (decide (8 < p0) || !decide (p0 ≤ 14 - nI t0))) (fun (_ : Unit) => True) (fun (_ : Unit) => [(x, .inr (7, [.ref xf, .ref xs, .ref xk, .ref xp, .ref xd, .ref xo, .ref xn, .ref xr, .ref xy, .ref xi, .int zl, .long zu, .long zv, .ref xt, .ref xq, .ref xb, .ref xw, .ref xl, .ref xm, .int (if ftf false false (!decide (1 ≤ p0)) (decide (8 < p0) || !decide (p0 ≤ 14 - nI t0)) = 0 then nI (t0 + p0.toNatClampNeg) else nI t0), .int za, .int zm, .int zc, .int ze, .ref xe, .int zh, .int zi, .int zq])), (xt, .inl (cI, 14, .inl (if ftf false false (!decide (1 ≤ p0)) (decide (8 < p0) || !decide (p0 ≤ 14 - nI t0)) = 0 then appL w0 t0 tb p0.toNatClampNeg else tb))), (xf, .inl (cI, 7, .inl (if ftf false false (!decide (1 ≤ p0)) (decide (8 < p0) || !decide (p0 ≤ 14 - nI t0)) = 0 then ru else bmp ru (ftf false false (!decide (1 ≤ p0)) (decide (8 < p0) || !decide (p0 ≤ 14 - nI t0))))))]) := by
  refine q_entI (own := RX7) rfl rfl (Nat.le_of_ble_eq_true rfl) ?_
  intro p e s m args below meth c A ls QQ hQ hE hx hb hr hk hin hA hl hst
  have hl : lv_has ls 6 [(0, .ref x), (1, .int p0), (2, .long w0)] := hl
  have loop_44 : ∀ (fu : Nat) (kq : Nat) (n0 : Nat), (kq ≤ n0) → (n0 ≤ 8) → (t0 + n0 ≤ 14) → (p0 = nI n0) → (ftf false false (!decide (1 ≤ p0)) (decide (8 < p0) || !decide (p0 ≤ 14 - nI t0)) = 0) → (n0 - kq) < fu → ∀ (H : Heap) (locs : List Loc) (ls : Array Slot), SS D A s [(x, .inr (7, [.ref xf, .ref xs, .ref xk, .ref xp, .ref xd, .ref xo, .ref xn, .ref xr, .ref xy, .ref xi, .int zl, .long zu, .long zv, .ref xt, .ref xq, .ref xb, .ref xw, .ref xl, .ref xm, .int (nI (t0 + kq)), .int za, .int zm, .int zc, .int ze, .ref xe, .int zh, .int zi, .int zq])), (xt, .inl (cI, 14, .inl (appL w0 t0 tb kq))), (xf, .inl (cI, 7, .inl ru))] H locs → lv_has ls 6 [(5, .int (nI kq)), (0, .ref x), (1, .int p0), (2, .long w0)] → W p l e (rmN 2 0 0) s m args below meth c H locs 0 0 QQ (F0 m 44 ls []) := by
    intro fu
    induction fu with
    | zero =>
      intro kq n0 h1 hn8 ht2 hp hR hn
      exact absurd hn (Nat.not_lt_zero _)
    | succ fu ih =>
      intro kq n0 h1 hn8 ht2 hp hR hn H locs ls hst hl
      refine lv_iload hx hb dX7_feed_44 (lv_at hl 0 rfl) ?_
      refine lv_iload_n hx hb dX7_feed_46 rfl (lv_at hl 2 rfl) ?_
      refine q_top (x' := nI n0) (hp) ?_
      refine lv_icmp_ge (tgt := 87) hx hb dX7_feed_47 (by decide) (fun c_47 => ?_) (fun c_47 => ?_)
      · skip
        have hk1 : n0 = kq := Nat.le_antisymm (Nat.le_of_not_lt (fun z => nI_ge z (by omega) c_47)) h1
        subst hk1
        skip
        refine lv_aload_n hx hb dX7_feed_87 rfl (lv_at hl 1 rfl) ?_
        refine gf_X7_148 hE hst 0 rfl rfl dX7_feed_88 ?_
        exact q_retI hQ hE hr hk hst () (by rw [if_pos hR, hp, nI_clamp (by omega)]) (trivial) (by subst hp; simp only [if_pos hR, nI_clamp (show n0 < 2147483648 by omega)]) dX7_feed_91
      · skip
        have hk1 : kq < n0 := Nat.lt_of_not_le (fun z => c_47 (nI_le z (by omega)))
        refine lv_aload_n hx hb dX7_feed_50 rfl (lv_at hl 1 rfl) ?_
        refine gf_X7_41 hE hst 0 rfl rfl dX7_feed_51 ?_
        refine lv_aload_n hx hb dX7_feed_54 rfl (lv_at hl 1 rfl) ?_
        refine gf_X7_148 hE hst 0 rfl rfl dX7_feed_55 ?_
        refine lv_lload_n hx hb dX7_feed_58 rfl (lv_at hl 3 rfl) ?_
        refine lv_bipush (v := 8) hx hb dX7_feed_59 (by decide) ?_
        refine lv_iload hx hb dX7_feed_61 (lv_at hl 0 rfl) ?_
        refine lv_imul hx hb dX7_feed_63 ?_
        refine lv_lshr (v := w0 >>> ((8 * (nI kq)).toInt64 &&& 63)) hx hb dX7_feed_64 rfl ?_
        refine q_ldc2 hE wk_4_153 dX7_feed_65 ?_
        refine lv_land hx hb dX7_feed_68 ?_
        refine lv_l2i (v := ((w0 >>> ((8 * (nI kq)).toInt64 &&& 63)) &&& 255).toInt32) hx hb dX7_feed_69 rfl ?_
        refine q_top (x' := byteOf w0 kq) (byt_eq w0 (by omega)) ?_
        refine q_astN hE hst 1 rfl (t0 + kq) (rfl) (by omega) (by decide) [(x, .inr (7, [.ref xf, .ref xs, .ref xk, .ref xp, .ref xd, .ref xo, .ref xn, .ref xr, .ref xy, .ref xi, .int zl, .long zu, .long zv, .ref xt, .ref xq, .ref xb, .ref xw, .ref xl, .ref xm, .int (nI (t0 + kq)), .int za, .int zm, .int zc, .int ze, .ref xe, .int zh, .int zi, .int zq])), (xt, .inl (cI, 14, .inl (upd (appL w0 t0 tb kq) (t0 + kq) (byteOf w0 kq)))), (xf, .inl (cI, 7, .inl ru))] rfl dX7_feed_70 (fun H locs hst => ?_)
        refine lv_aload_n hx hb dX7_feed_71 rfl (lv_at hl 1 rfl) ?_
        refine lv_dup hx hb dX7_feed_72 rfl ?_
        refine gf_X7_148 hE hst 0 rfl rfl dX7_feed_73 ?_
        refine lv_iconst (v := 1) hx hb dX7_feed_76 (by decide) ?_
        refine lv_iadd hx hb dX7_feed_77 ?_
        refine q_top (x' := nI (t0 + (kq + 1))) (nI_1 _) ?_
        refine pf_X7_148 hE hst 0 rfl (rfl) (rfl) (Nat.le_of_ble_eq_true rfl) [(x, .inr (7, [.ref xf, .ref xs, .ref xk, .ref xp, .ref xd, .ref xo, .ref xn, .ref xr, .ref xy, .ref xi, .int zl, .long zu, .long zv, .ref xt, .ref xq, .ref xb, .ref xw, .ref xl, .ref xm, .int (nI (t0 + (kq + 1))), .int za, .int zm, .int zc, .int ze, .ref xe, .int zh, .int zi, .int zq])), (xt, .inl (cI, 14, .inl (upd (appL w0 t0 tb kq) (t0 + kq) (byteOf w0 kq)))), (xf, .inl (cI, 7, .inl ru))] rfl dX7_feed_78 (fun H locs hst => ?_)
        refine lv_iinc (v := nI (kq + 1)) (lv' := [(5, .int (nI (kq + 1))), (0, .ref x), (1, .int p0), (2, .long w0)]) hx hb dX7_feed_81 hl (k := 0) rfl (nI_next _) (by decide) rfl (fun ls hl => ?_)
        refine lv_goto (tgt := 44) hx hb dX7_feed_84 (by decide) ?_
        exact ih (kq + 1) n0 (by omega) (hn8) (ht2) (hp) (hR) (by omega) _ _ _ (hst) (lv_sub hl [0, 1, 2, 3] rfl)
  refine lv_iload_n hx hb dX7_feed_0 rfl (lv_at hl 1 rfl) ?_
  refine lv_iconst (v := 1) hx hb dX7_feed_1 (by decide) ?_
  refine lv_bipush (v := 8) hx hb dX7_feed_2 (by decide) ?_
  refine q_goI (q_rS hE lk_X7_104 (c_X7_out l D cI cJ cZ p0 1 8 s.heap.size) hst [] rfl rfl rfl hl.1 ⟨(Nat.le_of_ble_eq_true rfl), (Nat.le_of_ble_eq_true rfl)⟩ (rest := []) rfl (Nat.le_of_ble_eq_true rfl) dX7_feed_4 ⟨(Nat.le_of_ble_eq_true rfl), (Nat.le_of_ble_eq_true rfl)⟩) hE hst [] rfl (fun _ => rfl) (fun (_ : Unit) => [(x, .inr (7, [.ref xf, .ref xs, .ref xk, .ref xp, .ref xd, .ref xo, .ref xn, .ref xr, .ref xy, .ref xi, .int zl, .long zu, .long zv, .ref xt, .ref xq, .ref xb, .ref xw, .ref xl, .ref xm, .int (nI t0), .int za, .int zm, .int zc, .int ze, .ref xe, .int zh, .int zi, .int zq])), (xt, .inl (cI, 14, .inl tb)), (xf, .inl (cI, 7, .inl ru))]) (fun _ => rfl) (fun _ H locs hF hst => ?_)
  refine lv_istore (lv' := [(4, .int (outI p0 1 8)), (0, .ref x), (1, .int p0), (2, .long w0)]) hx hb dX7_feed_7 hl (by decide) rfl (fun ls hl => ?_)
  refine lv_iload hx hb dX7_feed_9 (lv_at hl 0 rfl) ?_
  refine lv_if_ne (tgt := 29) hx hb dX7_feed_11 (by decide) (fun c_11 => ?_) (fun c_11 => ?_)
  · skip
    have hR : ftf false false (!decide (1 ≤ p0)) (decide (8 < p0) || !decide (p0 ≤ 14 - nI t0)) = outI p0 1 8 := fd_1 c_11
    have hM := c_11
    have hN : ¬ ftf false false (!decide (1 ≤ p0)) (decide (8 < p0) || !decide (p0 ≤ 14 - nI t0)) = 0 := by rw [hR]; exact hM
    refine lv_iload hx hb dX7_feed_29 (lv_at hl 0 rfl) ?_
    refine lv_if_eq (tgt := 41) hx hb dX7_feed_31 (by decide) (fun c_31 => ?_) (fun c_31 => ?_)
    · skip
      exact absurd c_31 c_11
    · skip
      refine lv_aload_n hx hb dX7_feed_34 rfl (lv_at hl 1 rfl) ?_
      refine lv_iload hx hb dX7_feed_35 (lv_at hl 0 rfl) ?_
      refine q_goI (q_rV hE lk_X7_81 (c_X7_no l D cI cJ cZ x xf xs xk xp xd xo xn xr xy xi xt xq xb xw xl xm xe zl (nI t0) za zm zc ze zh zi zq zu zv ru (outI p0 1 8) (out_in _ _ _) H.size) hst [0, 2] rfl rfl rfl rfl rfl hl.1 ⟨(Nat.le_of_ble_eq_true rfl), (Nat.le_of_ble_eq_true rfl)⟩ (rest := []) rfl (Nat.le_of_ble_eq_true rfl) dX7_feed_37 ⟨(Nat.le_of_ble_eq_true rfl), (Nat.le_of_ble_eq_true rfl)⟩) hE hst [0, 2] rfl (fun _ => rfl) (fun (_ : Unit) => [(x, .inr (7, [.ref xf, .ref xs, .ref xk, .ref xp, .ref xd, .ref xo, .ref xn, .ref xr, .ref xy, .ref xi, .int zl, .long zu, .long zv, .ref xt, .ref xq, .ref xb, .ref xw, .ref xl, .ref xm, .int (nI t0), .int za, .int zm, .int zc, .int ze, .ref xe, .int zh, .int zi, .int zq])), (xt, .inl (cI, 14, .inl tb)), (xf, .inl (cI, 7, .inl (bmp ru (outI p0 1 8))))]) (fun _ => rfl) (fun _ H locs hF hst => ?_)
      exact q_retI hQ hE hr hk hst () (by rw [if_neg hN]; exact hR.symm) (trivial) (by simp only [hR, if_neg hM]) dX7_feed_40
  · skip
    obtain ⟨n1, hn1, hn8, hp⟩ := in_nI (a := 1) (b := 8) (by decide) (by decide) (out_0 c_11).1 (out_0 c_11).2
    refine lv_aload_n hx hb dX7_feed_14 rfl (lv_at hl 1 rfl) ?_
    refine gf_X7_148 hE hst 0 rfl rfl dX7_feed_15 ?_
    refine lv_iload_n hx hb dX7_feed_18 rfl (lv_at hl 2 rfl) ?_
    refine lv_iadd hx hb dX7_feed_19 ?_
    refine q_top (x' := nI (t0 + n1)) (by rw [hp, nI_add]) ?_
    refine lv_bipush (v := 14) hx hb dX7_feed_20 (by decide) ?_
    refine lv_icmp_le (tgt := 29) hx hb dX7_feed_22 (by decide) (fun c_22 => ?_) (fun c_22 => ?_)
    · skip
      have ht2 : t0 + n1 ≤ 14 := (nI_leI (a := t0 + n1) (b := 14) (by omega) (by decide)).mp c_22
      have hR : ftf false false (!decide (1 ≤ p0)) (decide (8 < p0) || !decide (p0 ≤ 14 - nI t0)) = 0 := fd_2 ht0 hp hn1 hn8 ht2
      refine lv_iload hx hb dX7_feed_29 (lv_at hl 0 rfl) ?_
      refine lv_if_eq (tgt := 41) hx hb dX7_feed_31 (by decide) (fun c_31 => ?_) (fun c_31 => ?_)
      · skip
        refine lv_iconst (v := 0) hx hb dX7_feed_41 (by decide) ?_
        refine lv_istore (lv' := [(5, .int 0), (4, .int (outI p0 1 8)), (0, .ref x), (1, .int p0), (2, .long w0)]) hx hb dX7_feed_42 hl (by decide) rfl (fun ls hl => ?_)
        exact loop_44 (n1 + 1) 0 n1 (Nat.zero_le _) (hn8) (ht2) (hp) (hR) (by omega) _ _ _ (hst) (lv_sub hl [0, 2, 3, 4] rfl)
      · skip
        exact absurd c_11 c_31
    · skip
      have ht2 : ¬ t0 + n1 ≤ 14 := fun z => c_22 (nI_le (b := 14) z (by decide))
      have hR : ftf false false (!decide (1 ≤ p0)) (decide (8 < p0) || !decide (p0 ≤ 14 - nI t0)) = -6 := fd_3 ht0 hp hn1 hn8 ht2
      have hM : ¬ (-6 : Int32) = 0 := by decide
      have hN : ¬ ftf false false (!decide (1 ≤ p0)) (decide (8 < p0) || !decide (p0 ≤ 14 - nI t0)) = 0 := by rw [hR]; exact hM
      refine lv_bipush (v := (-6)) hx hb dX7_feed_25 (by decide) ?_
      refine lv_istore (lv' := [(4, .int (-6)), (0, .ref x), (1, .int p0), (2, .long w0)]) hx hb dX7_feed_27 hl (by decide) rfl (fun ls hl => ?_)
      refine lv_iload hx hb dX7_feed_29 (lv_at hl 0 rfl) ?_
      refine lv_if_eq (tgt := 41) hx hb dX7_feed_31 (by decide) (fun c_31 => ?_) (fun c_31 => ?_)
      · skip
        exact absurd c_31 (by decide)
      · skip
        refine lv_aload_n hx hb dX7_feed_34 rfl (lv_at hl 1 rfl) ?_
        refine lv_iload hx hb dX7_feed_35 (lv_at hl 0 rfl) ?_
        refine q_goI (q_rV hE lk_X7_81 (c_X7_no l D cI cJ cZ x xf xs xk xp xd xo xn xr xy xi xt xq xb xw xl xm xe zl (nI t0) za zm zc ze zh zi zq zu zv ru (-6) (by rw [vp_in_iff]; decide) H.size) hst [0, 2] rfl rfl rfl rfl rfl hl.1 ⟨(Nat.le_of_ble_eq_true rfl), (Nat.le_of_ble_eq_true rfl)⟩ (rest := []) rfl (Nat.le_of_ble_eq_true rfl) dX7_feed_37 ⟨(Nat.le_of_ble_eq_true rfl), (Nat.le_of_ble_eq_true rfl)⟩) hE hst [0, 2] rfl (fun _ => rfl) (fun (_ : Unit) => [(x, .inr (7, [.ref xf, .ref xs, .ref xk, .ref xp, .ref xd, .ref xo, .ref xn, .ref xr, .ref xy, .ref xi, .int zl, .long zu, .long zv, .ref xt, .ref xq, .ref xb, .ref xw, .ref xl, .ref xm, .int (nI t0), .int za, .int zm, .int zc, .int ze, .ref xe, .int zh, .int zi, .int zq])), (xt, .inl (cI, 14, .inl tb)), (xf, .inl (cI, 7, .inl (bmp ru (-6))))]) (fun _ => rfl) (fun _ H locs hF hst => ?_)
        exact q_retI hQ hE hr hk hst () (by rw [if_neg hN]; exact hR.symm) (trivial) (by simp only [hR, if_neg hM]) dX7_feed_40
set_option maxHeartbeats 4000000 in
set_option maxRecDepth 100000 in
theorem c_X7_sign (l : Launch) (D : va_G) (cI cJ cZ : ClassId) (x : Nat) (xf : Nat) (xs : Nat) (xk : Nat) (xp : Nat) (xd : Nat) (xo : Nat) (xn : Nat) (xr : Nat) (xy : Nat) (xi : Nat) (xt : Nat) (xq : Nat) (xb : Nat) (xw : Nat) (xl : Nat) (xm : Nat) (xe : Nat) (zl : Int32) (zm : Int32) (zc : Int32) (ze : Int32) (zh : Int32) (zi : Int32) (zq : Int32) (zu : Int64) (zv : Int64) (t0 : Nat) (a0 : Nat) (tb : Nat → Int32) (ht0 : t0 ≤ 14) (ha0 : a0 < 2147483648) : CtI l D cI cJ cZ yX7_sign cX7_sign 1 (some .int) 0 [.ref x] [(x, .inr (7, [.ref xf, .ref xs, .ref xk, .ref xp, .ref xd, .ref xo, .ref xn, .ref xr, .ref xy, .ref xi, .int zl, .long zu, .long zv, .ref xt, .ref xq, .ref xb, .ref xw, .ref xl, .ref xm, .int (nI t0), .int (nI a0), .int zm, .int zc, .int ze, .ref xe, .int zh, .int zi, .int zq])), (xt, .inl (cI, 14, .inl tb))] (fun (_ : Unit) => tapeAt (nI t0) tb (nI a0)) (fun (_ : Unit) => True) (fun (_ : Unit) => [(x, .inr (7, [.ref xf, .ref xs, .ref xk, .ref xp, .ref xd, .ref xo, .ref xn, .ref xr, .ref xy, .ref xi, .int zl, .long zu, .long zv, .ref xt, .ref xq, .ref xb, .ref xw, .ref xl, .ref xm, .int (nI t0), .int (nI a0), .int zm, .int zc, .int ze, .ref xe, .int zh, .int zi, .int zq])), (xt, .inl (cI, 14, .inl tb))]) := by
  refine q_entI (own := RX7) rfl rfl (Nat.le_of_ble_eq_true rfl) ?_
  intro p e s m args below meth c A ls QQ hQ hE hx hb hr hk hin hA hl hst
  have hl : lv_has ls 1 [(0, .ref x)] := hl
  refine lv_aload_n hx hb dX7_sign_0 rfl (lv_at hl 0 rfl) ?_
  refine gf_X7_153 hE hst 0 rfl rfl dX7_sign_1 ?_
  refine lv_aload_n hx hb dX7_sign_4 rfl (lv_at hl 0 rfl) ?_
  refine gf_X7_148 hE hst 0 rfl rfl dX7_sign_5 ?_
  refine lv_icmp_ge (tgt := 23) hx hb dX7_sign_8 (by decide) (fun c_8 => ?_) (fun c_8 => ?_)
  · skip
    refine lv_iconst (v := (-1)) hx hb dX7_sign_23 (by decide) ?_
    exact q_retI hQ hE hr hk hst () (by rw [tapeAt, if_neg (nI_pos ha0), if_pos c_8]) (trivial) (rfl) dX7_sign_24
  · skip
    have ha1 : a0 < t0 := Nat.lt_of_not_le (fun z => c_8 (nI_le z ha0))
    refine lv_aload_n hx hb dX7_sign_11 rfl (lv_at hl 0 rfl) ?_
    refine gf_X7_41 hE hst 0 rfl rfl dX7_sign_12 ?_
    refine lv_aload_n hx hb dX7_sign_15 rfl (lv_at hl 0 rfl) ?_
    refine gf_X7_153 hE hst 0 rfl rfl dX7_sign_16 ?_
    refine q_aldN hE hst 1 rfl a0 (rfl) (by omega) (by decide) dX7_sign_19 ?_
    refine lv_goto (tgt := 24) hx hb dX7_sign_20 (by decide) ?_
    exact q_retI hQ hE hr hk hst () (by rw [tapeAt, if_neg (nI_pos ha0), if_neg c_8, atI_n (by omega) (by decide)]) (trivial) (rfl) dX7_sign_24
set_option maxHeartbeats 4000000 in
set_option maxRecDepth 100000 in
theorem c_X7_number_ (l : Launch) (D : va_G) (cI cJ cZ : ClassId) (x : Nat) (xf : Nat) (xs : Nat) (xk : Nat) (xp : Nat) (xd : Nat) (xo : Nat) (xn : Nat) (xr : Nat) (xy : Nat) (xi : Nat) (xt : Nat) (xq : Nat) (xb : Nat) (xw : Nat) (xl : Nat) (xm : Nat) (xe : Nat) (zl : Int32) (zm : Int32) (zc : Int32) (ze : Int32) (zh : Int32) (zi : Int32) (zq : Int32) (zu : Int64) (zv : Int64) (t0 : Nat) (a0 : Nat) (m0 : Nat) (tb : Nat → Int32) (ht0 : t0 ≤ 14) (ha0 : a0 + m0 < 2147483648) : CtI l D cI cJ cZ yX7_number_ cX7_number_ 4 (some .int) 1 [.ref x, .int (nI m0)] [(x, .inr (7, [.ref xf, .ref xs, .ref xk, .ref xp, .ref xd, .ref xo, .ref xn, .ref xr, .ref xy, .ref xi, .int zl, .long zu, .long zv, .ref xt, .ref xq, .ref xb, .ref xw, .ref xl, .ref xm, .int (nI t0), .int (nI a0), .int zm, .int zc, .int ze, .ref xe, .int zh, .int zi, .int zq])), (xt, .inl (cI, 14, .inl tb))] (fun (_ : Unit) => if digB (tapeAt (nI t0) tb (nI a0)) = true then valL (nI t0) tb (eod (nI t0) tb m0 a0 - a0) a0 0 else -1) (fun (_ : Unit) => True) (fun (_ : Unit) => [(x, .inr (7, [.ref xf, .ref xs, .ref xk, .ref xp, .ref xd, .ref xo, .ref xn, .ref xr, .ref xy, .ref xi, .int zl, .long zu, .long zv, .ref xt, .ref xq, .ref xb, .ref xw, .ref xl, .ref xm, .int (nI t0), .int (nI (eod (nI t0) tb m0 a0)), .int zm, .int zc, .int ze, .ref xe, .int zh, .int zi, .int zq])), (xt, .inl (cI, 14, .inl tb))]) := by
  refine q_entI (own := RX7) rfl rfl (Nat.le_of_ble_eq_true rfl) ?_
  intro p e s m args below meth c A ls QQ hQ hE hx hb hr hk hin hA hl hst
  have hl : lv_has ls 4 [(0, .ref x), (1, .int (nI m0))] := hl
  have loop_20 : ∀ (fu : Nat) (i : Nat) (v : Int32), (i ≤ m0) → (valL (nI t0) tb (eod (nI t0) tb m0 a0 - a0) a0 0 = valL (nI t0) tb (eod (nI t0) tb m0 a0 - (a0 + i)) (a0 + i) v) → (eod (nI t0) tb m0 a0 = eod (nI t0) tb (m0 - i) (a0 + i)) → (digB (tapeAt (nI t0) tb (nI a0)) = true) → (m0 - i) < fu → ∀ (H : Heap) (locs : List Loc) (ls : Array Slot), SS D A s [(x, .inr (7, [.ref xf, .ref xs, .ref xk, .ref xp, .ref xd, .ref xo, .ref xn, .ref xr, .ref xy, .ref xi, .int zl, .long zu, .long zv, .ref xt, .ref xq, .ref xb, .ref xw, .ref xl, .ref xm, .int (nI t0), .int (nI (a0 + i)), .int zm, .int zc, .int ze, .ref xe, .int zh, .int zi, .int zq])), (xt, .inl (cI, 14, .inl tb))] H locs → lv_has ls 4 [(3, .int (nI i)), (2, .int v), (0, .ref x), (1, .int (nI m0))] → W p l e (rmN 1 0 0) s m args below meth c H locs 0 0 QQ (F0 m 20 ls []) := by
    intro fu
    induction fu with
    | zero =>
      intro i v h1 h2 h3 hdg hn
      exact absurd hn (Nat.not_lt_zero _)
    | succ fu ih =>
      intro i v h1 h2 h3 hdg hn H locs ls hst hl
      refine lv_iload_n hx hb dX7_number__20 rfl (lv_at hl 0 rfl) ?_
      refine lv_iload_n hx hb dX7_number__21 rfl (lv_at hl 3 rfl) ?_
      refine lv_icmp_ge (tgt := 68) hx hb dX7_number__22 (by decide) (fun c_22 => ?_) (fun c_22 => ?_)
      · skip
        have hk1 : m0 - i = 0 := by have := Nat.le_of_not_lt (fun z => nI_ge (a := i) (b := m0) z (by omega) c_22); omega
        rw [hk1, eod] at h3
        refine lv_iload_n hx hb dX7_number__68 rfl (lv_at hl 1 rfl) ?_
        exact q_retI hQ hE hr hk hst () (by rw [if_pos hdg, h2, h3, Nat.sub_self]; rfl) (trivial) (by rw [h3]) dX7_number__69
      · skip
        have hk1 : i < m0 := Nat.lt_of_not_le (fun z => c_22 (nI_le z (by omega)))
        refine lv_aload_n hx hb dX7_number__25 rfl (lv_at hl 2 rfl) ?_
        refine q_goI (q_rV hE lk_X7_156 (c_X7_sign l D cI cJ cZ x xf xs xk xp xd xo xn xr xy xi xt xq xb xw xl xm xe zl zm zc ze zh zi zq zu zv t0 (a0 + i) tb (ht0) (by omega) H.size) hst [0, 1] rfl rfl rfl rfl rfl hl.1 ⟨(Nat.le_of_ble_eq_true rfl), (Nat.le_of_ble_eq_true rfl)⟩ (rest := []) rfl (Nat.le_of_ble_eq_true rfl) dX7_number__26 ⟨(Nat.le_of_ble_eq_true rfl), (Nat.le_of_ble_eq_true rfl)⟩) hE hst [0, 1] rfl (fun _ => rfl) (fun (_ : Unit) => [(x, .inr (7, [.ref xf, .ref xs, .ref xk, .ref xp, .ref xd, .ref xo, .ref xn, .ref xr, .ref xy, .ref xi, .int zl, .long zu, .long zv, .ref xt, .ref xq, .ref xb, .ref xw, .ref xl, .ref xm, .int (nI t0), .int (nI (a0 + i)), .int zm, .int zc, .int ze, .ref xe, .int zh, .int zi, .int zq])), (xt, .inl (cI, 14, .inl tb))]) (fun _ => rfl) (fun _ H locs hF hst => ?_)
        refine lv_bipush (v := 48) hx hb dX7_number__29 (by decide) ?_
        refine lv_bipush (v := 57) hx hb dX7_number__31 (by decide) ?_
        refine q_goI (q_rS hE lk_X7_96 (c_X7_isIn l D cI cJ cZ (tapeAt (nI t0) tb (nI (a0 + i))) 48 57 H.size) hst [] rfl rfl rfl hl.1 ⟨(Nat.le_of_ble_eq_true rfl), (Nat.le_of_ble_eq_true rfl)⟩ (rest := []) rfl (Nat.le_of_ble_eq_true rfl) dX7_number__33 ⟨(Nat.le_of_ble_eq_true rfl), (Nat.le_of_ble_eq_true rfl)⟩) hE hst [] rfl (fun _ => rfl) (fun (_ : Unit) => [(x, .inr (7, [.ref xf, .ref xs, .ref xk, .ref xp, .ref xd, .ref xo, .ref xn, .ref xr, .ref xy, .ref xi, .int zl, .long zu, .long zv, .ref xt, .ref xq, .ref xb, .ref xw, .ref xl, .ref xm, .int (nI t0), .int (nI (a0 + i)), .int zm, .int zc, .int ze, .ref xe, .int zh, .int zi, .int zq])), (xt, .inl (cI, 14, .inl tb))]) (fun _ => rfl) (fun _ H locs hF hst => ?_)
        refine q_top (x' := b2i (digB (tapeAt (nI t0) tb (nI (a0 + i))))) (by rw [inB_dig]) ?_
        refine lv_if_eq (tgt := 68) hx hb dX7_number__36 (by decide) (fun c_36 => ?_) (fun c_36 => ?_)
        · skip
          have c_36 := b2i_f c_36
          rw [eod_1 c_36] at h3
          refine lv_iload_n hx hb dX7_number__68 rfl (lv_at hl 1 rfl) ?_
          exact q_retI hQ hE hr hk hst () (by rw [if_pos hdg, h2, h3, Nat.sub_self]; rfl) (trivial) (by rw [h3]) dX7_number__69
        · skip
          have c_36 := b2i_t c_36
          have h4 : eod (nI t0) tb m0 a0 = eod (nI t0) tb (m0 - (i + 1)) (a0 + (i + 1)) := by rw [h3, show m0 - i = (m0 - (i + 1)) + 1 by omega, eod, if_pos c_36]; rfl
          have h5 := (eod_le (nI t0) tb (m0 - (i + 1)) (a0 + (i + 1))).1
          rw [← h4] at h5
          refine lv_bipush (v := 10) hx hb dX7_number__39 (by decide) ?_
          refine lv_iload_n hx hb dX7_number__41 rfl (lv_at hl 1 rfl) ?_
          refine lv_imul hx hb dX7_number__42 ?_
          refine lv_aload_n hx hb dX7_number__43 rfl (lv_at hl 2 rfl) ?_
          refine q_goI (q_rV hE lk_X7_156 (c_X7_sign l D cI cJ cZ x xf xs xk xp xd xo xn xr xy xi xt xq xb xw xl xm xe zl zm zc ze zh zi zq zu zv t0 (a0 + i) tb (ht0) (by omega) H.size) hst [0, 1] rfl rfl rfl rfl rfl hl.1 ⟨(Nat.le_of_ble_eq_true rfl), (Nat.le_of_ble_eq_true rfl)⟩ (rest := [.int (10 * v)]) rfl (Nat.le_of_ble_eq_true rfl) dX7_number__44 ⟨(Nat.le_of_ble_eq_true rfl), (Nat.le_of_ble_eq_true rfl)⟩) hE hst [0, 1] rfl (fun _ => rfl) (fun (_ : Unit) => [(x, .inr (7, [.ref xf, .ref xs, .ref xk, .ref xp, .ref xd, .ref xo, .ref xn, .ref xr, .ref xy, .ref xi, .int zl, .long zu, .long zv, .ref xt, .ref xq, .ref xb, .ref xw, .ref xl, .ref xm, .int (nI t0), .int (nI (a0 + i)), .int zm, .int zc, .int ze, .ref xe, .int zh, .int zi, .int zq])), (xt, .inl (cI, 14, .inl tb))]) (fun _ => rfl) (fun _ H locs hF hst => ?_)
          refine lv_iadd hx hb dX7_number__47 ?_
          refine lv_bipush (v := 48) hx hb dX7_number__48 (by decide) ?_
          refine lv_isub hx hb dX7_number__50 ?_
          refine lv_istore_n (lv' := [(2, .int (((10 * v) + (tapeAt (nI t0) tb (nI (a0 + i)))) - 48)), (3, .int (nI i)), (0, .ref x), (1, .int (nI m0))]) hx hb dX7_number__51 rfl hl (by decide) rfl (fun ls hl => ?_)
          refine lv_aload_n hx hb dX7_number__52 rfl (lv_at hl 2 rfl) ?_
          refine lv_dup hx hb dX7_number__53 rfl ?_
          refine gf_X7_153 hE hst 0 rfl rfl dX7_number__54 ?_
          refine lv_iconst (v := 1) hx hb dX7_number__57 (by decide) ?_
          refine lv_iadd hx hb dX7_number__58 ?_
          refine q_top (x' := nI (a0 + (i + 1))) (nI_1 _) ?_
          refine pf_X7_153 hE hst 0 rfl (rfl) (rfl) (Nat.le_of_ble_eq_true rfl) [(x, .inr (7, [.ref xf, .ref xs, .ref xk, .ref xp, .ref xd, .ref xo, .ref xn, .ref xr, .ref xy, .ref xi, .int zl, .long zu, .long zv, .ref xt, .ref xq, .ref xb, .ref xw, .ref xl, .ref xm, .int (nI t0), .int (nI (a0 + (i + 1))), .int zm, .int zc, .int ze, .ref xe, .int zh, .int zi, .int zq])), (xt, .inl (cI, 14, .inl tb))] rfl dX7_number__59 (fun H locs hst => ?_)
          refine lv_iinc (v := nI (i + 1)) (lv' := [(3, .int (nI (i + 1))), (2, .int (((10 * v) + (tapeAt (nI t0) tb (nI (a0 + i)))) - 48)), (0, .ref x), (1, .int (nI m0))]) hx hb dX7_number__62 hl (k := 1) rfl (nI_next _) (by decide) rfl (fun ls hl => ?_)
          refine lv_goto (tgt := 20) hx hb dX7_number__65 (by decide) ?_
          exact ih (i + 1) (10 * v + tapeAt (nI t0) tb (nI (a0 + i)) - 48) (by omega) (by rw [h2, show eod (nI t0) tb m0 a0 - (a0 + i) = eod (nI t0) tb m0 a0 - (a0 + (i + 1)) + 1 by omega, valL]; rfl) (h4) (hdg) (by omega) _ _ _ (hst) (lv_sub hl [0, 1, 2, 3] rfl)
  refine lv_aload_n hx hb dX7_number__0 rfl (lv_at hl 0 rfl) ?_
  refine q_goI (q_rV hE lk_X7_156 (c_X7_sign l D cI cJ cZ x xf xs xk xp xd xo xn xr xy xi xt xq xb xw xl xm xe zl zm zc ze zh zi zq zu zv t0 a0 tb (ht0) (by omega) s.heap.size) hst [0, 1] rfl rfl rfl rfl rfl hl.1 ⟨(Nat.le_of_ble_eq_true rfl), (Nat.le_of_ble_eq_true rfl)⟩ (rest := []) rfl (Nat.le_of_ble_eq_true rfl) dX7_number__1 ⟨(Nat.le_of_ble_eq_true rfl), (Nat.le_of_ble_eq_true rfl)⟩) hE hst [0, 1] rfl (fun _ => rfl) (fun (_ : Unit) => [(x, .inr (7, [.ref xf, .ref xs, .ref xk, .ref xp, .ref xd, .ref xo, .ref xn, .ref xr, .ref xy, .ref xi, .int zl, .long zu, .long zv, .ref xt, .ref xq, .ref xb, .ref xw, .ref xl, .ref xm, .int (nI t0), .int (nI a0), .int zm, .int zc, .int ze, .ref xe, .int zh, .int zi, .int zq])), (xt, .inl (cI, 14, .inl tb))]) (fun _ => rfl) (fun _ H locs hF hst => ?_)
  refine lv_bipush (v := 48) hx hb dX7_number__4 (by decide) ?_
  refine lv_bipush (v := 57) hx hb dX7_number__6 (by decide) ?_
  refine q_goI (q_rS hE lk_X7_96 (c_X7_isIn l D cI cJ cZ (tapeAt (nI t0) tb (nI a0)) 48 57 H.size) hst [] rfl rfl rfl hl.1 ⟨(Nat.le_of_ble_eq_true rfl), (Nat.le_of_ble_eq_true rfl)⟩ (rest := []) rfl (Nat.le_of_ble_eq_true rfl) dX7_number__8 ⟨(Nat.le_of_ble_eq_true rfl), (Nat.le_of_ble_eq_true rfl)⟩) hE hst [] rfl (fun _ => rfl) (fun (_ : Unit) => [(x, .inr (7, [.ref xf, .ref xs, .ref xk, .ref xp, .ref xd, .ref xo, .ref xn, .ref xr, .ref xy, .ref xi, .int zl, .long zu, .long zv, .ref xt, .ref xq, .ref xb, .ref xw, .ref xl, .ref xm, .int (nI t0), .int (nI a0), .int zm, .int zc, .int ze, .ref xe, .int zh, .int zi, .int zq])), (xt, .inl (cI, 14, .inl tb))]) (fun _ => rfl) (fun _ H locs hF hst => ?_)
  refine q_top (x' := b2i (digB (tapeAt (nI t0) tb (nI a0)))) (by rw [inB_dig]) ?_
  refine lv_if_ne (tgt := 16) hx hb dX7_number__11 (by decide) (fun c_11 => ?_) (fun c_11 => ?_)
  · skip
    have c_11 := b2i_t c_11
    refine lv_iconst (v := 0) hx hb dX7_number__16 (by decide) ?_
    refine lv_istore_n (lv' := [(2, .int 0), (0, .ref x), (1, .int (nI m0))]) hx hb dX7_number__17 rfl hl (by decide) rfl (fun ls hl => ?_)
    refine lv_iconst (v := 0) hx hb dX7_number__18 (by decide) ?_
    refine lv_istore_n (lv' := [(3, .int 0), (2, .int 0), (0, .ref x), (1, .int (nI m0))]) hx hb dX7_number__19 rfl hl (by decide) rfl (fun ls hl => ?_)
    exact loop_20 (m0 + 1) 0 0 (Nat.zero_le _) (rfl) (rfl) (c_11) (by omega) _ _ _ (hst) (lv_sub hl [0, 1, 2, 3] rfl)
  · skip
    have c_11 := b2i_f c_11
    refine lv_iconst (v := (-1)) hx hb dX7_number__14 (by decide) ?_
    exact q_retI hQ hE hr hk hst () (by rw [if_neg (by rw [c_11]; decide)]) (trivial) (by rw [eod_1 c_11]) dX7_number__15
set_option maxHeartbeats 4000000 in
set_option maxRecDepth 100000 in
theorem c_X7_reads (l : Launch) (D : va_G) (cI cJ cZ : ClassId) (x : Nat) (xf : Nat) (xs : Nat) (xk : Nat) (xp : Nat) (xd : Nat) (xo : Nat) (xn : Nat) (xr : Nat) (xy : Nat) (xi : Nat) (xt : Nat) (xq : Nat) (xb : Nat) (xw : Nat) (xl : Nat) (xm : Nat) (xe : Nat) (zl : Int32) (za : Int32) (zc : Int32) (ze : Int32) (zh : Int32) (zi : Int32) (zq : Int32) (zu : Int64) (zv : Int64) (t0 : Nat) (nq : Nat) (tb : Nat → Int32) (ki : Nat → Int32) (bi : Nat → Int32) (pa : Nat → Int32) (ht0 : t0 ≤ 14) (hn0 : nq < 60) : CtI l D cI cJ cZ yX7_reads cX7_reads 6 (some .boolean) 2 [.ref x] [(x, .inr (7, [.ref xf, .ref xs, .ref xk, .ref xp, .ref xd, .ref xo, .ref xn, .ref xr, .ref xy, .ref xi, .int zl, .long zu, .long zv, .ref xt, .ref xq, .ref xb, .ref xw, .ref xl, .ref xm, .int (nI t0), .int za, .int (nI nq), .int zc, .int ze, .ref xe, .int zh, .int zi, .int zq])), (xt, .inl (cI, 14, .inl tb)), (xq, .inl (cI, 60, .inl ki)), (xb, .inl (cI, 60, .inl bi)), (xw, .inl (cI, 60, .inl pa))] (fun (_ : Unit) => b2i (decide (rdF (nI t0) tb < 0))) (fun (_ : Unit) => True) (fun (_ : Unit) => [(x, .inr (7, [.ref xf, .ref xs, .ref xk, .ref xp, .ref xd, .ref xo, .ref xn, .ref xr, .ref xy, .ref xi, .int zl, .long zu, .long zv, .ref xt, .ref xq, .ref xb, .ref xw, .ref xl, .ref xm, .int (nI t0), .int (rdA (nI t0) tb), .int (nI nq), .int zc, .int ze, .ref xe, .int zh, .int zi, .int zq])), (xt, .inl (cI, 14, .inl tb)), (xq, .inl (cI, 60, .inl (if rdF (nI t0) tb < 0 then upd ki nq (rdK (nI t0) tb) else ki))), (xb, .inl (cI, 60, .inl (if rdF (nI t0) tb < 0 then upd bi nq (rdB (nI t0) tb) else bi))), (xw, .inl (cI, 60, .inl (if rdF (nI t0) tb < 0 then upd pa nq (rdP (nI t0) tb) else pa)))]) := by
  refine q_entI (own := RX7) rfl rfl (Nat.le_of_ble_eq_true rfl) ?_
  intro p e s m args below meth c A ls QQ hQ hE hx hb hr hk hin hA hl hst
  have hl : lv_has ls 6 [(0, .ref x)] := hl
  have hE1 := rdE_le (nI t0) tb
  have hZ1 := rdZ_le (nI t0) tb
  refine lv_aload_n hx hb dX7_reads_0 rfl (lv_at hl 0 rfl) ?_
  refine lv_iconst (v := 0) hx hb dX7_reads_1 (by decide) ?_
  refine pf_X7_153 hE hst 0 rfl (rfl) (rfl) (Nat.le_of_ble_eq_true rfl) [(x, .inr (7, [.ref xf, .ref xs, .ref xk, .ref xp, .ref xd, .ref xo, .ref xn, .ref xr, .ref xy, .ref xi, .int zl, .long zu, .long zv, .ref xt, .ref xq, .ref xb, .ref xw, .ref xl, .ref xm, .int (nI t0), .int 0, .int (nI nq), .int zc, .int ze, .ref xe, .int zh, .int zi, .int zq])), (xt, .inl (cI, 14, .inl tb)), (xq, .inl (cI, 60, .inl ki)), (xb, .inl (cI, 60, .inl bi)), (xw, .inl (cI, 60, .inl pa))] rfl dX7_reads_2 (fun H locs hst => ?_)
  refine lv_aload_n hx hb dX7_reads_5 rfl (lv_at hl 0 rfl) ?_
  refine q_goI (q_rV hE lk_X7_156 (c_X7_sign l D cI cJ cZ x xf xs xk xp xd xo xn xr xy xi xt xq xb xw xl xm xe zl (nI nq) zc ze zh zi zq zu zv t0 0 tb (by first | assumption | decide | omega) (by first | assumption | decide | omega) H.size) hst [0, 1] rfl rfl rfl rfl rfl hl.1 ⟨(Nat.le_of_ble_eq_true rfl), (Nat.le_of_ble_eq_true rfl)⟩ (rest := []) rfl (Nat.le_of_ble_eq_true rfl) dX7_reads_6 ⟨(Nat.le_of_ble_eq_true rfl), (Nat.le_of_ble_eq_true rfl)⟩) hE hst [0, 1] rfl (fun _ => rfl) (fun (_ : Unit) => [(x, .inr (7, [.ref xf, .ref xs, .ref xk, .ref xp, .ref xd, .ref xo, .ref xn, .ref xr, .ref xy, .ref xi, .int zl, .long zu, .long zv, .ref xt, .ref xq, .ref xb, .ref xw, .ref xl, .ref xm, .int (nI t0), .int (nI 0), .int (nI nq), .int zc, .int ze, .ref xe, .int zh, .int zi, .int zq])), (xt, .inl (cI, 14, .inl tb)), (xq, .inl (cI, 60, .inl ki)), (xb, .inl (cI, 60, .inl bi)), (xw, .inl (cI, 60, .inl pa))]) (fun _ => rfl) (fun _ H locs hF hst => ?_)
  refine lv_istore_n (lv' := [(1, .int (tapeAt (nI t0) tb 0)), (0, .ref x)]) hx hb dX7_reads_9 rfl hl (by decide) rfl (fun ls hl => ?_)
  suffices kJ : ∀ (H : Heap) (locs : List Loc), SS D A s [(x, .inr (7, [.ref xf, .ref xs, .ref xk, .ref xp, .ref xd, .ref xo, .ref xn, .ref xr, .ref xy, .ref xi, .int zl, .long zu, .long zv, .ref xt, .ref xq, .ref xb, .ref xw, .ref xl, .ref xm, .int (nI t0), .int (nI 0), .int (nI nq), .int zc, .int ze, .ref xe, .int zh, .int zi, .int zq])), (xt, .inl (cI, 14, .inl tb)), (xq, .inl (cI, 60, .inl ki)), (xb, .inl (cI, 60, .inl bi)), (xw, .inl (cI, 60, .inl pa))] H locs → W p l e (rmN 2 0 0) s m args below meth c H locs 0 0 QQ (F0 m 71 ls [.int (rdK (nI t0) tb)]) by
    refine lv_iload_n hx hb dX7_reads_10 rfl (lv_at hl 0 rfl) ?_
    refine lv_bipush (v := 115) hx hb dX7_reads_11 (by decide) ?_
    refine lv_icmp_ne (tgt := 20) hx hb dX7_reads_13 (by decide) (fun c_13 => ?_) (fun c_13 => ?_)
    · skip
      refine lv_iload_n hx hb dX7_reads_20 rfl (lv_at hl 0 rfl) ?_
      refine lv_bipush (v := 97) hx hb dX7_reads_21 (by decide) ?_
      refine lv_icmp_ne (tgt := 30) hx hb dX7_reads_23 (by decide) (fun c_23 => ?_) (fun c_23 => ?_)
      · skip
        refine lv_iload_n hx hb dX7_reads_30 rfl (lv_at hl 0 rfl) ?_
        refine lv_bipush (v := 110) hx hb dX7_reads_31 (by decide) ?_
        refine lv_icmp_ne (tgt := 40) hx hb dX7_reads_33 (by decide) (fun c_33 => ?_) (fun c_33 => ?_)
        · skip
          refine lv_iload_n hx hb dX7_reads_40 rfl (lv_at hl 0 rfl) ?_
          refine lv_bipush (v := 102) hx hb dX7_reads_41 (by decide) ?_
          refine lv_icmp_ne (tgt := 50) hx hb dX7_reads_43 (by decide) (fun c_43 => ?_) (fun c_43 => ?_)
          · skip
            refine lv_iload_n hx hb dX7_reads_50 rfl (lv_at hl 0 rfl) ?_
            refine lv_bipush (v := 99) hx hb dX7_reads_51 (by decide) ?_
            refine lv_icmp_ne (tgt := 60) hx hb dX7_reads_53 (by decide) (fun c_53 => ?_) (fun c_53 => ?_)
            · skip
              refine lv_iload_n hx hb dX7_reads_60 rfl (lv_at hl 0 rfl) ?_
              refine lv_bipush (v := 108) hx hb dX7_reads_61 (by decide) ?_
              refine lv_icmp_ne (tgt := 70) hx hb dX7_reads_63 (by decide) (fun c_63 => ?_) (fun c_63 => ?_)
              · skip
                refine lv_iconst (v := (-1)) hx hb dX7_reads_70 (by decide) ?_
                have kJ := kJ _ _ hst
                rw [show (rdK (nI t0) tb) = (-1) from by rw [rdK, kindLet, if_neg c_13, if_neg c_23, if_neg c_33, if_neg c_43, if_neg c_53, if_neg c_63]] at kJ
                exact kJ
              · skip
                refine lv_iconst (v := 5) hx hb dX7_reads_66 (by decide) ?_
                refine lv_goto (tgt := 71) hx hb dX7_reads_67 (by decide) ?_
                have kJ := kJ _ _ hst
                rw [show (rdK (nI t0) tb) = 5 from by rw [rdK, kindLet, if_neg c_13, if_neg c_23, if_neg c_33, if_neg c_43, if_neg c_53, if_pos c_63]] at kJ
                exact kJ
            · skip
              refine lv_iconst (v := 4) hx hb dX7_reads_56 (by decide) ?_
              refine lv_goto (tgt := 71) hx hb dX7_reads_57 (by decide) ?_
              have kJ := kJ _ _ hst
              rw [show (rdK (nI t0) tb) = 4 from by rw [rdK, kindLet, if_neg c_13, if_neg c_23, if_neg c_33, if_neg c_43, if_pos c_53]] at kJ
              exact kJ
          · skip
            refine lv_iconst (v := 3) hx hb dX7_reads_46 (by decide) ?_
            refine lv_goto (tgt := 71) hx hb dX7_reads_47 (by decide) ?_
            have kJ := kJ _ _ hst
            rw [show (rdK (nI t0) tb) = 3 from by rw [rdK, kindLet, if_neg c_13, if_neg c_23, if_neg c_33, if_pos c_43]] at kJ
            exact kJ
        · skip
          refine lv_iconst (v := 2) hx hb dX7_reads_36 (by decide) ?_
          refine lv_goto (tgt := 71) hx hb dX7_reads_37 (by decide) ?_
          have kJ := kJ _ _ hst
          rw [show (rdK (nI t0) tb) = 2 from by rw [rdK, kindLet, if_neg c_13, if_neg c_23, if_pos c_33]] at kJ
          exact kJ
      · skip
        refine lv_iconst (v := 1) hx hb dX7_reads_26 (by decide) ?_
        refine lv_goto (tgt := 71) hx hb dX7_reads_27 (by decide) ?_
        have kJ := kJ _ _ hst
        rw [show (rdK (nI t0) tb) = 1 from by rw [rdK, kindLet, if_neg c_13, if_pos c_23]] at kJ
        exact kJ
    · skip
      refine lv_iconst (v := 0) hx hb dX7_reads_16 (by decide) ?_
      refine lv_goto (tgt := 71) hx hb dX7_reads_17 (by decide) ?_
      have kJ := kJ _ _ hst
      rw [show (rdK (nI t0) tb) = 0 from by rw [rdK, kindLet, if_pos c_13]] at kJ
      exact kJ
  intro H locs hst
  refine lv_istore_n (lv' := [(2, .int (rdK (nI t0) tb)), (1, .int (tapeAt (nI t0) tb 0)), (0, .ref x)]) hx hb dX7_reads_71 rfl hl (by decide) rfl (fun ls hl => ?_)
  refine lv_iload_n hx hb dX7_reads_72 rfl (lv_at hl 0 rfl) ?_
  refine lv_if_ge (tgt := 78) hx hb dX7_reads_73 (by decide) (fun c_73 => ?_) (fun c_73 => ?_)
  · skip
    refine lv_aload_n hx hb dX7_reads_78 rfl (lv_at hl 2 rfl) ?_
    refine lv_dup hx hb dX7_reads_79 rfl ?_
    refine gf_X7_153 hE hst 0 rfl rfl dX7_reads_80 ?_
    refine lv_iconst (v := 1) hx hb dX7_reads_83 (by decide) ?_
    refine lv_iadd hx hb dX7_reads_84 ?_
    refine q_top (x' := nI 1) (rfl) ?_
    refine pf_X7_153 hE hst 0 rfl (rfl) (rfl) (Nat.le_of_ble_eq_true rfl) [(x, .inr (7, [.ref xf, .ref xs, .ref xk, .ref xp, .ref xd, .ref xo, .ref xn, .ref xr, .ref xy, .ref xi, .int zl, .long zu, .long zv, .ref xt, .ref xq, .ref xb, .ref xw, .ref xl, .ref xm, .int (nI t0), .int (nI 1), .int (nI nq), .int zc, .int ze, .ref xe, .int zh, .int zi, .int zq])), (xt, .inl (cI, 14, .inl tb)), (xq, .inl (cI, 60, .inl ki)), (xb, .inl (cI, 60, .inl bi)), (xw, .inl (cI, 60, .inl pa))] rfl dX7_reads_85 (fun H locs hst => ?_)
    refine lv_aload_n hx hb dX7_reads_88 rfl (lv_at hl 2 rfl) ?_
    refine gf_X7_153 hE hst 0 rfl rfl dX7_reads_89 ?_
    refine lv_istore_n (lv' := [(3, .int (nI 1)), (2, .int (rdK (nI t0) tb)), (1, .int (tapeAt (nI t0) tb 0)), (0, .ref x)]) hx hb dX7_reads_92 rfl hl (by decide) rfl (fun ls hl => ?_)
    refine lv_aload_n hx hb dX7_reads_93 rfl (lv_at hl 3 rfl) ?_
    refine lv_iconst (v := 3) hx hb dX7_reads_94 (by decide) ?_
    refine q_goI (q_rV hE lk_X7_160 (c_X7_number_ l D cI cJ cZ x xf xs xk xp xd xo xn xr xy xi xt xq xb xw xl xm xe zl (nI nq) zc ze zh zi zq zu zv t0 1 3 tb (by first | assumption | decide | omega) (by first | assumption | decide | omega) H.size) hst [0, 1] rfl rfl rfl rfl rfl hl.1 ⟨(Nat.le_of_ble_eq_true rfl), (Nat.le_of_ble_eq_true rfl)⟩ (rest := []) rfl (Nat.le_of_ble_eq_true rfl) dX7_reads_95 ⟨(Nat.le_of_ble_eq_true rfl), (Nat.le_of_ble_eq_true rfl)⟩) hE hst [0, 1] rfl (fun _ => rfl) (fun (_ : Unit) => [(x, .inr (7, [.ref xf, .ref xs, .ref xk, .ref xp, .ref xd, .ref xo, .ref xn, .ref xr, .ref xy, .ref xi, .int zl, .long zu, .long zv, .ref xt, .ref xq, .ref xb, .ref xw, .ref xl, .ref xm, .int (nI t0), .int (nI (eod (nI t0) tb 3 1)), .int (nI nq), .int zc, .int ze, .ref xe, .int zh, .int zi, .int zq])), (xt, .inl (cI, 14, .inl tb)), (xq, .inl (cI, 60, .inl ki)), (xb, .inl (cI, 60, .inl bi)), (xw, .inl (cI, 60, .inl pa))]) (fun _ => rfl) (fun _ H locs hF hst => ?_)
    have hst : SS D A s [(x, .inr (7, [.ref xf, .ref xs, .ref xk, .ref xp, .ref xd, .ref xo, .ref xn, .ref xr, .ref xy, .ref xi, .int zl, .long zu, .long zv, .ref xt, .ref xq, .ref xb, .ref xw, .ref xl, .ref xm, .int (nI t0), .int (nI (rdE (nI t0) tb)), .int (nI nq), .int zc, .int ze, .ref xe, .int zh, .int zi, .int zq])), (xt, .inl (cI, 14, .inl tb)), (xq, .inl (cI, 60, .inl ki)), (xb, .inl (cI, 60, .inl bi)), (xw, .inl (cI, 60, .inl pa))] H locs := hst
    refine lv_istore (lv' := [(4, .int (if digB (tapeAt (nI t0) tb (nI 1)) = true then rdB (nI t0) tb else -1)), (3, .int (nI 1)), (2, .int (rdK (nI t0) tb)), (1, .int (tapeAt (nI t0) tb 0)), (0, .ref x)]) hx hb dX7_reads_98 hl (by decide) rfl (fun ls hl => ?_)
    refine lv_iload hx hb dX7_reads_100 (lv_at hl 0 rfl) ?_
    refine lv_if_ge (tgt := 107) hx hb dX7_reads_102 (by decide) (fun c_102 => ?_) (fun c_102 => ?_)
    · skip
      have eW := rd_2 c_102
      have hl : lv_has ls 6 [(4, .int (rdB (nI t0) tb)), (3, .int (nI 1)), (2, .int (rdK (nI t0) tb)), (1, .int (tapeAt (nI t0) tb 0)), (0, .ref x)] := by rw [eW.1] at hl; exact hl
      refine lv_iload hx hb dX7_reads_107 (lv_at hl 0 rfl) ?_
      refine lv_sipush (v := 365) hx hb dX7_reads_109 (by decide) ?_
      refine lv_icmp_le (tgt := 122) hx hb dX7_reads_112 (by decide) (fun c_112 => ?_) (fun c_112 => ?_)
      · skip
        have e366 := b366.mp c_112
        refine lv_aload_n hx hb dX7_reads_122 rfl (lv_at hl 4 rfl) ?_
        refine q_goI (q_rV hE lk_X7_156 (c_X7_sign l D cI cJ cZ x xf xs xk xp xd xo xn xr xy xi xt xq xb xw xl xm xe zl (nI nq) zc ze zh zi zq zu zv t0 (rdE (nI t0) tb) tb (ht0) (by omega) H.size) hst [0, 1] rfl rfl rfl rfl rfl hl.1 ⟨(Nat.le_of_ble_eq_true rfl), (Nat.le_of_ble_eq_true rfl)⟩ (rest := []) rfl (Nat.le_of_ble_eq_true rfl) dX7_reads_123 ⟨(Nat.le_of_ble_eq_true rfl), (Nat.le_of_ble_eq_true rfl)⟩) hE hst [0, 1] rfl (fun _ => rfl) (fun (_ : Unit) => [(x, .inr (7, [.ref xf, .ref xs, .ref xk, .ref xp, .ref xd, .ref xo, .ref xn, .ref xr, .ref xy, .ref xi, .int zl, .long zu, .long zv, .ref xt, .ref xq, .ref xb, .ref xw, .ref xl, .ref xm, .int (nI t0), .int (nI (rdE (nI t0) tb)), .int (nI nq), .int zc, .int ze, .ref xe, .int zh, .int zi, .int zq])), (xt, .inl (cI, 14, .inl tb)), (xq, .inl (cI, 60, .inl ki)), (xb, .inl (cI, 60, .inl bi)), (xw, .inl (cI, 60, .inl pa))]) (fun _ => rfl) (fun _ H locs hF hst => ?_)
        refine lv_bipush (v := 44) hx hb dX7_reads_126 (by decide) ?_
        refine lv_icmp_eq (tgt := 133) hx hb dX7_reads_128 (by decide) (fun c_128 => ?_) (fun c_128 => ?_)
        · skip
          refine lv_aload_n hx hb dX7_reads_133 rfl (lv_at hl 4 rfl) ?_
          refine lv_dup hx hb dX7_reads_134 rfl ?_
          refine gf_X7_153 hE hst 0 rfl rfl dX7_reads_135 ?_
          refine lv_iconst (v := 1) hx hb dX7_reads_138 (by decide) ?_
          refine lv_iadd hx hb dX7_reads_139 ?_
          refine q_top (x' := nI (rdE (nI t0) tb + 1)) (nI_1 _) ?_
          refine pf_X7_153 hE hst 0 rfl (rfl) (rfl) (Nat.le_of_ble_eq_true rfl) [(x, .inr (7, [.ref xf, .ref xs, .ref xk, .ref xp, .ref xd, .ref xo, .ref xn, .ref xr, .ref xy, .ref xi, .int zl, .long zu, .long zv, .ref xt, .ref xq, .ref xb, .ref xw, .ref xl, .ref xm, .int (nI t0), .int (nI (rdE (nI t0) tb + 1)), .int (nI nq), .int zc, .int ze, .ref xe, .int zh, .int zi, .int zq])), (xt, .inl (cI, 14, .inl tb)), (xq, .inl (cI, 60, .inl ki)), (xb, .inl (cI, 60, .inl bi)), (xw, .inl (cI, 60, .inl pa))] rfl dX7_reads_140 (fun H locs hst => ?_)
          refine lv_aload_n hx hb dX7_reads_143 rfl (lv_at hl 4 rfl) ?_
          refine lv_iconst (v := 4) hx hb dX7_reads_144 (by decide) ?_
          refine q_goI (q_rV hE lk_X7_160 (c_X7_number_ l D cI cJ cZ x xf xs xk xp xd xo xn xr xy xi xt xq xb xw xl xm xe zl (nI nq) zc ze zh zi zq zu zv t0 (rdE (nI t0) tb + 1) 4 tb (ht0) (by omega) H.size) hst [0, 1] rfl rfl rfl rfl rfl hl.1 ⟨(Nat.le_of_ble_eq_true rfl), (Nat.le_of_ble_eq_true rfl)⟩ (rest := []) rfl (Nat.le_of_ble_eq_true rfl) dX7_reads_145 ⟨(Nat.le_of_ble_eq_true rfl), (Nat.le_of_ble_eq_true rfl)⟩) hE hst [0, 1] rfl (fun _ => rfl) (fun (_ : Unit) => [(x, .inr (7, [.ref xf, .ref xs, .ref xk, .ref xp, .ref xd, .ref xo, .ref xn, .ref xr, .ref xy, .ref xi, .int zl, .long zu, .long zv, .ref xt, .ref xq, .ref xb, .ref xw, .ref xl, .ref xm, .int (nI t0), .int (nI (eod (nI t0) tb 4 (rdE (nI t0) tb + 1))), .int (nI nq), .int zc, .int ze, .ref xe, .int zh, .int zi, .int zq])), (xt, .inl (cI, 14, .inl tb)), (xq, .inl (cI, 60, .inl ki)), (xb, .inl (cI, 60, .inl bi)), (xw, .inl (cI, 60, .inl pa))]) (fun _ => rfl) (fun _ H locs hF hst => ?_)
          have hst : SS D A s [(x, .inr (7, [.ref xf, .ref xs, .ref xk, .ref xp, .ref xd, .ref xo, .ref xn, .ref xr, .ref xy, .ref xi, .int zl, .long zu, .long zv, .ref xt, .ref xq, .ref xb, .ref xw, .ref xl, .ref xm, .int (nI t0), .int (nI (rdZ (nI t0) tb)), .int (nI nq), .int zc, .int ze, .ref xe, .int zh, .int zi, .int zq])), (xt, .inl (cI, 14, .inl tb)), (xq, .inl (cI, 60, .inl ki)), (xb, .inl (cI, 60, .inl bi)), (xw, .inl (cI, 60, .inl pa))] H locs := hst
          refine lv_istore (lv' := [(5, .int (if digB (tapeAt (nI t0) tb (nI (rdE (nI t0) tb + 1))) = true then rdP (nI t0) tb else -1)), (4, .int (rdB (nI t0) tb)), (3, .int (nI 1)), (2, .int (rdK (nI t0) tb)), (1, .int (tapeAt (nI t0) tb 0)), (0, .ref x)]) hx hb dX7_reads_148 hl (by decide) rfl (fun ls hl => ?_)
          refine lv_iload hx hb dX7_reads_150 (lv_at hl 0 rfl) ?_
          refine lv_if_lt (tgt := 166) hx hb dX7_reads_152 (by decide) (fun c_152 => ?_) (fun c_152 => ?_)
          · skip
            have eF : rdF (nI t0) tb = nI (rdZ (nI t0) tb) := by rw [rdF, if_pos c_73, if_neg eW.2, if_pos e366, if_pos c_128, if_pos (rd_3 c_152)]
            have hng : ¬ nI (rdZ (nI t0) tb) < 0 := nI_pos (by omega)
            refine lv_iconst (v := 0) hx hb dX7_reads_166 (by decide) ?_
            exact q_retZ hQ hE hr hk hst () (rfl) (by rw [eF, decide_eq_false hng]; rfl) (trivial) (by simp only [rdA, eF, if_neg hng]) dX7_reads_167
          · skip
            have eV := rd_4 c_152
            have hl : lv_has ls 6 [(5, .int (rdP (nI t0) tb)), (4, .int (rdB (nI t0) tb)), (3, .int (nI 1)), (2, .int (rdK (nI t0) tb)), (1, .int (tapeAt (nI t0) tb 0)), (0, .ref x)] := by rw [eV.1] at hl; exact hl
            refine lv_aload_n hx hb dX7_reads_155 rfl (lv_at hl 5 rfl) ?_
            refine gf_X7_153 hE hst 0 rfl rfl dX7_reads_156 ?_
            refine lv_aload_n hx hb dX7_reads_159 rfl (lv_at hl 5 rfl) ?_
            refine gf_X7_148 hE hst 0 rfl rfl dX7_reads_160 ?_
            refine lv_icmp_ge (tgt := 168) hx hb dX7_reads_163 (by decide) (fun c_163 => ?_) (fun c_163 => ?_)
            · skip
              have e0 : nI (rdZ (nI t0) tb) = nI t0 := Int32.le_antisymm (nI_le eV.2.2 (by omega)) c_163
              have eF : rdF (nI t0) tb = -1 := by rw [rdF, if_pos c_73, if_neg eW.2, if_pos e366, if_pos c_128, if_neg eV.2.1, if_pos e0]
              refine lv_aload_n hx hb dX7_reads_168 rfl (lv_at hl 5 rfl) ?_
              refine gf_X7_44 hE hst 0 rfl rfl dX7_reads_169 ?_
              refine lv_aload_n hx hb dX7_reads_172 rfl (lv_at hl 5 rfl) ?_
              refine gf_X7_163 hE hst 0 rfl rfl dX7_reads_173 ?_
              refine lv_iload_n hx hb dX7_reads_176 rfl (lv_at hl 3 rfl) ?_
              refine q_astN hE hst 2 rfl nq (rfl) (hn0) (by decide) [(x, .inr (7, [.ref xf, .ref xs, .ref xk, .ref xp, .ref xd, .ref xo, .ref xn, .ref xr, .ref xy, .ref xi, .int zl, .long zu, .long zv, .ref xt, .ref xq, .ref xb, .ref xw, .ref xl, .ref xm, .int (nI t0), .int (nI (rdZ (nI t0) tb)), .int (nI nq), .int zc, .int ze, .ref xe, .int zh, .int zi, .int zq])), (xt, .inl (cI, 14, .inl tb)), (xq, .inl (cI, 60, .inl (upd ki nq (rdK (nI t0) tb)))), (xb, .inl (cI, 60, .inl bi)), (xw, .inl (cI, 60, .inl pa))] rfl dX7_reads_177 (fun H locs hst => ?_)
              refine lv_aload_n hx hb dX7_reads_178 rfl (lv_at hl 5 rfl) ?_
              refine gf_X7_47 hE hst 0 rfl rfl dX7_reads_179 ?_
              refine lv_aload_n hx hb dX7_reads_182 rfl (lv_at hl 5 rfl) ?_
              refine gf_X7_163 hE hst 0 rfl rfl dX7_reads_183 ?_
              refine lv_iload hx hb dX7_reads_186 (lv_at hl 1 rfl) ?_
              refine q_astN hE hst 3 rfl nq (rfl) (hn0) (by decide) [(x, .inr (7, [.ref xf, .ref xs, .ref xk, .ref xp, .ref xd, .ref xo, .ref xn, .ref xr, .ref xy, .ref xi, .int zl, .long zu, .long zv, .ref xt, .ref xq, .ref xb, .ref xw, .ref xl, .ref xm, .int (nI t0), .int (nI (rdZ (nI t0) tb)), .int (nI nq), .int zc, .int ze, .ref xe, .int zh, .int zi, .int zq])), (xt, .inl (cI, 14, .inl tb)), (xq, .inl (cI, 60, .inl (upd ki nq (rdK (nI t0) tb)))), (xb, .inl (cI, 60, .inl (upd bi nq (rdB (nI t0) tb)))), (xw, .inl (cI, 60, .inl pa))] rfl dX7_reads_188 (fun H locs hst => ?_)
              refine lv_aload_n hx hb dX7_reads_189 rfl (lv_at hl 5 rfl) ?_
              refine gf_X7_50 hE hst 0 rfl rfl dX7_reads_190 ?_
              refine lv_aload_n hx hb dX7_reads_193 rfl (lv_at hl 5 rfl) ?_
              refine gf_X7_163 hE hst 0 rfl rfl dX7_reads_194 ?_
              refine lv_iload hx hb dX7_reads_197 (lv_at hl 0 rfl) ?_
              refine q_astN hE hst 4 rfl nq (rfl) (hn0) (by decide) [(x, .inr (7, [.ref xf, .ref xs, .ref xk, .ref xp, .ref xd, .ref xo, .ref xn, .ref xr, .ref xy, .ref xi, .int zl, .long zu, .long zv, .ref xt, .ref xq, .ref xb, .ref xw, .ref xl, .ref xm, .int (nI t0), .int (nI (rdZ (nI t0) tb)), .int (nI nq), .int zc, .int ze, .ref xe, .int zh, .int zi, .int zq])), (xt, .inl (cI, 14, .inl tb)), (xq, .inl (cI, 60, .inl (upd ki nq (rdK (nI t0) tb)))), (xb, .inl (cI, 60, .inl (upd bi nq (rdB (nI t0) tb)))), (xw, .inl (cI, 60, .inl (upd pa nq (rdP (nI t0) tb))))] rfl dX7_reads_199 (fun H locs hst => ?_)
              refine lv_iconst (v := 1) hx hb dX7_reads_200 (by decide) ?_
              exact q_retZ hQ hE hr hk hst () (rfl) (by rw [eF]; rfl) (trivial) (by simp only [rdA, eF, if_pos (show (-1 : Int32) < 0 by decide)]) dX7_reads_201
            · skip
              have eF : rdF (nI t0) tb = nI (rdZ (nI t0) tb) := by rw [rdF, if_pos c_73, if_neg eW.2, if_pos e366, if_pos c_128, if_neg eV.2.1, if_neg (fun z => c_163 (by rw [z]; exact Int32.le_refl _))]
              have hng : ¬ nI (rdZ (nI t0) tb) < 0 := nI_pos (by omega)
              refine lv_iconst (v := 0) hx hb dX7_reads_166 (by decide) ?_
              exact q_retZ hQ hE hr hk hst () (rfl) (by rw [eF, decide_eq_false hng]; rfl) (trivial) (by simp only [rdA, eF, if_neg hng]) dX7_reads_167
        · skip
          have eF : rdF (nI t0) tb = nI (rdE (nI t0) tb) := by rw [rdF, if_pos c_73, if_neg eW.2, if_pos e366, if_neg c_128]
          have hng : ¬ nI (rdE (nI t0) tb) < 0 := nI_pos (by omega)
          refine lv_iconst (v := 0) hx hb dX7_reads_131 (by decide) ?_
          exact q_retZ hQ hE hr hk hst () (rfl) (by rw [eF, decide_eq_false hng]; rfl) (trivial) (by simp only [rdA, eF, if_neg hng]) dX7_reads_132
      · skip
        have eF : rdF (nI t0) tb = nI 1 := by rw [rdF, if_pos c_73, if_neg eW.2, if_neg (fun z => c_112 (b366.mpr z))]; rfl
        have hng : ¬ nI 1 < 0 := by decide
        refine lv_aload_n hx hb dX7_reads_115 rfl (lv_at hl 4 rfl) ?_
        refine lv_iload_n hx hb dX7_reads_116 rfl (lv_at hl 1 rfl) ?_
        refine pf_X7_153 hE hst 0 rfl (rfl) (rfl) (Nat.le_of_ble_eq_true rfl) [(x, .inr (7, [.ref xf, .ref xs, .ref xk, .ref xp, .ref xd, .ref xo, .ref xn, .ref xr, .ref xy, .ref xi, .int zl, .long zu, .long zv, .ref xt, .ref xq, .ref xb, .ref xw, .ref xl, .ref xm, .int (nI t0), .int (nI 1), .int (nI nq), .int zc, .int ze, .ref xe, .int zh, .int zi, .int zq])), (xt, .inl (cI, 14, .inl tb)), (xq, .inl (cI, 60, .inl ki)), (xb, .inl (cI, 60, .inl bi)), (xw, .inl (cI, 60, .inl pa))] rfl dX7_reads_117 (fun H locs hst => ?_)
        refine lv_iconst (v := 0) hx hb dX7_reads_120 (by decide) ?_
        exact q_retZ hQ hE hr hk hst () (rfl) (by rw [eF, decide_eq_false hng]; rfl) (trivial) (by simp only [rdA, eF, if_neg hng]) dX7_reads_121
    · skip
      have eE := rd_1 c_102
      have eF : rdF (nI t0) tb = nI (rdE (nI t0) tb) := by rw [rdF, if_pos c_73, if_pos eE]; exact eE.symm
      have hng : ¬ nI (rdE (nI t0) tb) < 0 := nI_pos (by omega)
      refine lv_iconst (v := 0) hx hb dX7_reads_105 (by decide) ?_
      exact q_retZ hQ hE hr hk hst () (rfl) (by rw [eF, decide_eq_false hng]; rfl) (trivial) (by simp only [rdA, eF, if_neg hng]) dX7_reads_106
  · skip
    have eF : rdF (nI t0) tb = nI 0 := by rw [rdF, if_neg c_73]; rfl
    have hng : ¬ nI 0 < 0 := by decide
    refine lv_iconst (v := 0) hx hb dX7_reads_76 (by decide) ?_
    exact q_retZ hQ hE hr hk hst () (rfl) (by rw [eF, decide_eq_false hng]; rfl) (trivial) (by simp only [rdA, eF, if_neg hng]) dX7_reads_77
set_option maxHeartbeats 4000000 in
set_option maxRecDepth 100000 in
theorem c_X7_man (l : Launch) (D : va_G) (cI cJ cZ : ClassId) (x : Nat) (xf : Nat) (xs : Nat) (xk : Nat) (xp : Nat) (xd : Nat) (xo : Nat) (xn : Nat) (xr : Nat) (xy : Nat) (xi : Nat) (xt : Nat) (xq : Nat) (xb : Nat) (xw : Nat) (xl : Nat) (xm : Nat) (xe : Nat) (zl : Int32) (za : Int32) (zc : Int32) (ze : Int32) (zh : Int32) (zi : Int32) (zq : Int32) (zu : Int64) (zv : Int64) (t0 : Nat) (nq : Nat) (ru : Nat → Int32) (tb : Nat → Int32) (ki : Nat → Int32) (bi : Nat → Int32) (pa : Nat → Int32) (ht0 : t0 ≤ 14) (hn : nq ≤ 60) : CtI l D cI cJ cZ yX7_man cX7_man 2 (some .int) 3 [.ref x] [(x, .inr (7, [.ref xf, .ref xs, .ref xk, .ref xp, .ref xd, .ref xo, .ref xn, .ref xr, .ref xy, .ref xi, .int zl, .long zu, .long zv, .ref xt, .ref xq, .ref xb, .ref xw, .ref xl, .ref xm, .int (nI t0), .int za, .int (nI nq), .int zc, .int ze, .ref xe, .int zh, .int zi, .int zq])), (xt, .inl (cI, 14, .inl tb)), (xq, .inl (cI, 60, .inl ki)), (xb, .inl (cI, 60, .inl bi)), (xw, .inl (cI, 60, .inl pa)), (xf, .inl (cI, 7, .inl ru))] (fun (u : Int32) => if 60 ≤ nq then -6 else if rdF (nI t0) tb < 0 then nI nq else -20 - rdF (nI t0) tb) (fun (u : Int32) => True) (fun (u : Int32) => [(x, .inr (7, [.ref xf, .ref xs, .ref xk, .ref xp, .ref xd, .ref xo, .ref xn, .ref xr, .ref xy, .ref xi, .int zl, .long zu, .long zv, .ref xt, .ref xq, .ref xb, .ref xw, .ref xl, .ref xm, .int (if 60 ≤ nq then nI t0 else 0), .int u, .int (if 60 ≤ nq then nI nq else if rdF (nI t0) tb < 0 then nI (nq + 1) else nI nq), .int zc, .int ze, .ref xe, .int zh, .int zi, .int zq])), (xt, .inl (cI, 14, .inl tb)), (xq, .inl (cI, 60, .inl (if 60 ≤ nq then ki else if rdF (nI t0) tb < 0 then upd ki nq (rdK (nI t0) tb) else ki))), (xb, .inl (cI, 60, .inl (if 60 ≤ nq then bi else if rdF (nI t0) tb < 0 then upd bi nq (rdB (nI t0) tb) else bi))), (xw, .inl (cI, 60, .inl (if 60 ≤ nq then pa else if rdF (nI t0) tb < 0 then upd pa nq (rdP (nI t0) tb) else pa))), (xf, .inl (cI, 7, .inl (if 60 ≤ nq then bmp ru (-6) else ru)))]) := by
  refine q_entI (own := RX7) rfl rfl (Nat.le_of_ble_eq_true rfl) ?_
  intro p e s m args below meth c A ls QQ hQ hE hx hb hr hk hin hA hl hst
  have hl : lv_has ls 2 [(0, .ref x)] := hl
  refine lv_aload_n hx hb dX7_man_0 rfl (lv_at hl 0 rfl) ?_
  refine gf_X7_163 hE hst 0 rfl rfl dX7_man_1 ?_
  refine lv_bipush (v := 60) hx hb dX7_man_4 (by decide) ?_
  refine lv_icmp_ne (tgt := 16) hx hb dX7_man_6 (by decide) (fun c_6 => ?_) (fun c_6 => ?_)
  · skip
    have hn1 : ¬ 60 ≤ nq := fun z => c_6 (by rw [show nq = 60 by omega]; rfl)
    refine lv_aload_n hx hb dX7_man_16 rfl (lv_at hl 0 rfl) ?_
    refine q_goI (q_rV hE lk_X7_166 (c_X7_reads l D cI cJ cZ x xf xs xk xp xd xo xn xr xy xi xt xq xb xw xl xm xe zl za zc ze zh zi zq zu zv t0 nq tb ki bi pa (ht0) (by omega) s.heap.size) hst [0, 1, 2, 3, 4] rfl rfl rfl rfl rfl hl.1 ⟨(Nat.le_of_ble_eq_true rfl), (Nat.le_of_ble_eq_true rfl)⟩ (rest := []) rfl (Nat.le_of_ble_eq_true rfl) dX7_man_17 ⟨(Nat.le_of_ble_eq_true rfl), (Nat.le_of_ble_eq_true rfl)⟩) hE hst [0, 1, 2, 3, 4] rfl (fun _ => rfl) (fun (_ : Unit) => [(x, .inr (7, [.ref xf, .ref xs, .ref xk, .ref xp, .ref xd, .ref xo, .ref xn, .ref xr, .ref xy, .ref xi, .int zl, .long zu, .long zv, .ref xt, .ref xq, .ref xb, .ref xw, .ref xl, .ref xm, .int (nI t0), .int (rdA (nI t0) tb), .int (nI nq), .int zc, .int ze, .ref xe, .int zh, .int zi, .int zq])), (xt, .inl (cI, 14, .inl tb)), (xq, .inl (cI, 60, .inl (if rdF (nI t0) tb < 0 then upd ki nq (rdK (nI t0) tb) else ki))), (xb, .inl (cI, 60, .inl (if rdF (nI t0) tb < 0 then upd bi nq (rdB (nI t0) tb) else bi))), (xw, .inl (cI, 60, .inl (if rdF (nI t0) tb < 0 then upd pa nq (rdP (nI t0) tb) else pa))), (xf, .inl (cI, 7, .inl ru))]) (fun _ => rfl) (fun _ H locs hF hst => ?_)
    refine lv_istore_n (lv' := [(1, .int (b2i (decide (rdF (nI t0) tb < 0)))), (0, .ref x)]) hx hb dX7_man_20 rfl hl (by decide) rfl (fun ls hl => ?_)
    refine lv_aload_n hx hb dX7_man_21 rfl (lv_at hl 1 rfl) ?_
    refine lv_iconst (v := 0) hx hb dX7_man_22 (by decide) ?_
    refine pf_X7_148 hE hst 0 rfl (rfl) (rfl) (Nat.le_of_ble_eq_true rfl) [(x, .inr (7, [.ref xf, .ref xs, .ref xk, .ref xp, .ref xd, .ref xo, .ref xn, .ref xr, .ref xy, .ref xi, .int zl, .long zu, .long zv, .ref xt, .ref xq, .ref xb, .ref xw, .ref xl, .ref xm, .int 0, .int (rdA (nI t0) tb), .int (nI nq), .int zc, .int ze, .ref xe, .int zh, .int zi, .int zq])), (xt, .inl (cI, 14, .inl tb)), (xq, .inl (cI, 60, .inl (if rdF (nI t0) tb < 0 then upd ki nq (rdK (nI t0) tb) else ki))), (xb, .inl (cI, 60, .inl (if rdF (nI t0) tb < 0 then upd bi nq (rdB (nI t0) tb) else bi))), (xw, .inl (cI, 60, .inl (if rdF (nI t0) tb < 0 then upd pa nq (rdP (nI t0) tb) else pa))), (xf, .inl (cI, 7, .inl ru))] rfl dX7_man_23 (fun H locs hst => ?_)
    refine lv_iload_n hx hb dX7_man_26 rfl (lv_at hl 0 rfl) ?_
    refine lv_if_ne (tgt := 38) hx hb dX7_man_27 (by decide) (fun c_27 => ?_) (fun c_27 => ?_)
    · skip
      have c_27 := b2i_t c_27
      refine lv_aload_n hx hb dX7_man_38 rfl (lv_at hl 1 rfl) ?_
      refine lv_dup hx hb dX7_man_39 rfl ?_
      refine gf_X7_163 hE hst 0 rfl rfl dX7_man_40 ?_
      refine lv_iconst (v := 1) hx hb dX7_man_43 (by decide) ?_
      refine lv_iadd hx hb dX7_man_44 ?_
      refine q_top (x' := nI (nq + 1)) (nI_1 _) ?_
      refine pf_X7_163 hE hst 0 rfl (rfl) (rfl) (Nat.le_of_ble_eq_true rfl) [(x, .inr (7, [.ref xf, .ref xs, .ref xk, .ref xp, .ref xd, .ref xo, .ref xn, .ref xr, .ref xy, .ref xi, .int zl, .long zu, .long zv, .ref xt, .ref xq, .ref xb, .ref xw, .ref xl, .ref xm, .int 0, .int (rdA (nI t0) tb), .int (nI (nq + 1)), .int zc, .int ze, .ref xe, .int zh, .int zi, .int zq])), (xt, .inl (cI, 14, .inl tb)), (xq, .inl (cI, 60, .inl (if rdF (nI t0) tb < 0 then upd ki nq (rdK (nI t0) tb) else ki))), (xb, .inl (cI, 60, .inl (if rdF (nI t0) tb < 0 then upd bi nq (rdB (nI t0) tb) else bi))), (xw, .inl (cI, 60, .inl (if rdF (nI t0) tb < 0 then upd pa nq (rdP (nI t0) tb) else pa))), (xf, .inl (cI, 7, .inl ru))] rfl dX7_man_45 (fun H locs hst => ?_)
      refine lv_aload_n hx hb dX7_man_48 rfl (lv_at hl 1 rfl) ?_
      refine gf_X7_163 hE hst 0 rfl rfl dX7_man_49 ?_
      refine lv_iconst (v := 1) hx hb dX7_man_52 (by decide) ?_
      refine lv_isub hx hb dX7_man_53 ?_
      refine q_top (x' := nI nq) (nI_pred _) ?_
      exact q_retI hQ hE hr hk hst (rdA (nI t0) tb) (by rw [if_neg hn1, if_pos (of_decide_eq_true c_27)]) (trivial) (by simp only [if_neg hn1, if_pos (of_decide_eq_true c_27)]) dX7_man_54
    · skip
      have c_27 := b2i_f c_27
      refine lv_bipush (v := (-20)) hx hb dX7_man_30 (by decide) ?_
      refine lv_aload_n hx hb dX7_man_32 rfl (lv_at hl 1 rfl) ?_
      refine gf_X7_153 hE hst 0 rfl rfl dX7_man_33 ?_
      refine lv_isub hx hb dX7_man_36 ?_
      exact q_retI hQ hE hr hk hst (rdA (nI t0) tb) (by rw [if_neg hn1, if_neg (of_decide_eq_false c_27), rdA, if_neg (of_decide_eq_false c_27)]) (trivial) (by simp only [if_neg hn1, if_neg (of_decide_eq_false c_27)]) dX7_man_37
  · skip
    have hn1 : 60 ≤ nq := by have := (nI_eq (a := nq) (b := 60) (by omega) (by decide)).mp c_6; omega
    refine lv_aload_n hx hb dX7_man_9 rfl (lv_at hl 0 rfl) ?_
    refine lv_bipush (v := (-6)) hx hb dX7_man_10 (by decide) ?_
    refine q_goI (q_rV hE lk_X7_81 (c_X7_no l D cI cJ cZ x xf xs xk xp xd xo xn xr xy xi xt xq xb xw xl xm xe zl (nI t0) za (nI nq) zc ze zh zi zq zu zv ru (-6) (by rw [vp_in_iff]; decide) s.heap.size) hst [0, 5] rfl rfl rfl rfl rfl hl.1 ⟨(Nat.le_of_ble_eq_true rfl), (Nat.le_of_ble_eq_true rfl)⟩ (rest := []) rfl (Nat.le_of_ble_eq_true rfl) dX7_man_12 ⟨(Nat.le_of_ble_eq_true rfl), (Nat.le_of_ble_eq_true rfl)⟩) hE hst [0, 5] rfl (fun _ => rfl) (fun (_ : Unit) => [(x, .inr (7, [.ref xf, .ref xs, .ref xk, .ref xp, .ref xd, .ref xo, .ref xn, .ref xr, .ref xy, .ref xi, .int zl, .long zu, .long zv, .ref xt, .ref xq, .ref xb, .ref xw, .ref xl, .ref xm, .int (nI t0), .int za, .int (nI nq), .int zc, .int ze, .ref xe, .int zh, .int zi, .int zq])), (xt, .inl (cI, 14, .inl tb)), (xq, .inl (cI, 60, .inl ki)), (xb, .inl (cI, 60, .inl bi)), (xw, .inl (cI, 60, .inl pa)), (xf, .inl (cI, 7, .inl (bmp ru (-6))))]) (fun _ => rfl) (fun _ H locs hF hst => ?_)
    exact q_retI hQ hE hr hk hst (za) (by rw [if_pos hn1]) (trivial) (by simp only [if_pos hn1]) dX7_man_15
